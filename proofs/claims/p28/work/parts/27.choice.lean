/-! CueSheets$Choice: strains, pace, size of the best that is found; the search as a fold over all cues in the order of ties -/
abbrev cT : Type := Int × Int × Int
def cIs (V : jV) (q : Nat) (c : cT) : Prop := (V q 0).toInt = c.1 ∧ (V q 1).toInt = c.2.1 ∧ (V q 2).toInt = c.2.2
def cCons (c : cT) (n p d : Int) : cT := if (d.natAbs : Int) < c.2.2 then (n, p, d.natAbs) else c
/-- the drift of n strains at the pace p: u unrepeated, s a strain, m the room -/
def cD (u s m n p : Int) : Int := (u + n * s) * 100 / p - m
def cStep (u s m : Int) (c : cT) (o n : Int) : cT := cCons (cCons c n (100 - o) (cD u s m n (100 - o))) n (100 + o) (cD u s m n (100 + o))
def cTry (u s m : Int) (c : cT) (o : Int) : Nat → cT
  | 0 => c
  | k + 1 => cStep u s m (cTry u s m c o k) o (k + 1)
def cSrch (u s m : Int) (c : cT) : Nat → cT
  | 0 => c
  | k + 1 => cTry u s m (cSrch u s m c k) k 9
theorem cCons_no {c : cT} {n p d : Int} (h : c.2.2 ≤ d.natAbs) : cCons c n p d = c := if_neg (by omega)
theorem cCons_le (c : cT) (n p d : Int) : (cCons c n p d).2.2 ≤ c.2.2 ∧ (cCons c n p d).2.2 ≤ d.natAbs := by
  unfold cCons
  split
  · exact ⟨by dsimp only; omega, by dsimp only; omega⟩
  · omega
theorem ediv_mono {a b p r : Int} (h0 : 0 ≤ a) (h : a ≤ b) (hr : 0 < r) (hrp : r ≤ p) : a / p ≤ b / r := by
  rw [Int.le_ediv_iff_mul_le hr]
  have h1 : a / p * r ≤ a / p * p := Int.mul_le_mul_of_nonneg_left hrp (Int.ediv_nonneg h0 (by omega))
  have h2 : a / p * p ≤ a := Int.ediv_mul_le a (by omega)
  omega
theorem cD_mono {u s m n n' p p' : Int} (hu : 0 ≤ u) (hs : 0 ≤ s) (hn : 0 ≤ n) (hnn : n ≤ n') (hp : 0 < p') (hpp : p' ≤ p) : cD u s m n p ≤ cD u s m n' p' := by
  have h1 : n * s ≤ n' * s := Int.mul_le_mul_of_nonneg_right hnn hs
  have h0 : 0 ≤ n * s := Int.mul_nonneg hn hs
  have := ediv_mono (a := (u + n * s) * 100) (b := (u + n' * s) * 100) (by omega) (by omega) hp hpp
  unfold cD
  omega
/-- where the shorter one ends too late already, no more strains are better -/
theorem cTry_stop {u s m o : Int} {c : cT} (hu : 0 ≤ u) (hs : 0 ≤ s) (o0 : 0 ≤ o) (o1 : o ≤ 20) {k : Nat} (hk : 0 ≤ cD u s m k (100 + o)) (hc : (cTry u s m c o k).2.2 ≤ cD u s m k (100 + o)) : ∀ j : Nat, cTry u s m c o (k + j) = cTry u s m c o k
  | 0 => rfl
  | j + 1 => by
    have ih := cTry_stop hu hs o0 o1 hk hc j
    show cStep u s m (cTry u s m c o (k + j)) o ((k + j : Nat) + 1) = _
    rw [ih]
    have d1 : cD u s m k (100 + o) ≤ cD u s m ((k + j : Nat) + 1) (100 - o) := cD_mono hu hs (by omega) (by omega) (by omega) (by omega)
    have d2 : cD u s m k (100 + o) ≤ cD u s m ((k + j : Nat) + 1) (100 + o) := cD_mono hu hs (by omega) (by omega) (by omega) (by omega)
    unfold cStep
    have e1 : cCons (cTry u s m c o k) ((k + j : Nat) + 1) (100 - o) (cD u s m ((k + j : Nat) + 1) (100 - o)) = cTry u s m c o k := cCons_no (by omega)
    rw [e1]
    exact cCons_no (by omega)
theorem cTry_0 {u s m o : Int} {c : cT} (hc : c.2.2 ≤ 0) : ∀ k : Nat, cTry u s m c o k = c
  | 0 => rfl
  | k + 1 => by
    show cStep u s m (cTry u s m c o k) o (k + 1) = c
    rw [cTry_0 hc k]
    unfold cStep
    have e1 : cCons c (k + 1) (100 - o) (cD u s m (k + 1) (100 - o)) = c := cCons_no (by omega)
    rw [e1]
    exact cCons_no (by omega)
theorem cSrch_0 {u s m : Int} {c : cT} {k : Nat} (hc : (cSrch u s m c k).2.2 ≤ 0) : ∀ j : Nat, cSrch u s m c (k + j) = cSrch u s m c k
  | 0 => rfl
  | j + 1 => by
    show cTry u s m (cSrch u s m c (k + j)) _ 9 = _
    rw [cSrch_0 hc j, cTry_0 hc 9]
/-- the first cue is always taken: what stood there before is of no account -/
theorem cTry_first {u s m : Int} {c c' : cT} (hc : c.2.2 = 1000000000) (hc' : c'.2.2 = 1000000000) (hd : ((cD u s m 1 100).natAbs : Int) < 1000000000) : ∀ k : Nat, cTry u s m c 0 (k + 1) = cTry u s m c' 0 (k + 1)
  | 0 => by
    show cStep u s m c 0 1 = cStep u s m c' 0 1
    unfold cStep
    have e : ∀ x : cT, x.2.2 = 1000000000 → cCons x 1 (100 - 0) (cD u s m 1 (100 - 0)) = (1, 100, ((cD u s m 1 100).natAbs : Int)) := fun x hx => if_pos (by rw [hx]; exact hd)
    rw [e c hc, e c' hc']
  | k + 1 => by
    show cStep u s m (cTry u s m c 0 (k + 1)) 0 _ = cStep u s m (cTry u s m c' 0 (k + 1)) 0 _
    rw [cTry_first hc hc' hd k]
theorem cSrch_first {u s m : Int} {c c' : cT} (hc : c.2.2 = 1000000000) (hc' : c'.2.2 = 1000000000) (hd : ((cD u s m 1 100).natAbs : Int) < 1000000000) : ∀ k : Nat, cSrch u s m c (k + 1) = cSrch u s m c' (k + 1)
  | 0 => cTry_first hc hc' hd 8
  | k + 1 => by
    show cTry u s m (cSrch u s m c (k + 1)) _ 9 = cTry u s m (cSrch u s m c' (k + 1)) _ 9
    rw [cSrch_first hc hc' hd k]
theorem cD_rng {u s m n p : Int} (u0 : 0 ≤ u) (u1 : u ≤ 1200) (s0 : 0 ≤ s) (s1 : s ≤ 1200) (m0 : -1000000 ≤ m) (m1 : m ≤ 1000000) (n0 : 0 ≤ n) (n1 : n ≤ 9) (p0 : 80 ≤ p) : 0 ≤ (u + n * s) * 100 / p ∧ (u + n * s) * 100 / p ≤ 15000 ∧ -1000000 ≤ cD u s m n p ∧ cD u s m n p ≤ 1015000 := by
  have := mul_rng n0 n1 s0 s1
  have h1 : 0 ≤ (u + n * s) * 100 / p := Int.ediv_nonneg (by omega) (by omega)
  have h2 : (u + n * s) * 100 / p < 15001 := Int.ediv_lt_of_lt_mul (by omega) (by omega)
  unfold cD
  omega
section JChoice
variable {l : Launch} {s0 : State} {D : jD} {T : jT} {V : jV} {X : jX} {sz : Nat}
set_option maxRecDepth 100000 in
set_option maxHeartbeats 4000000 in
theorem sp_X0_consider (hB : jB l s0 D) {q : Nat} {c : cT} {n p d : Int32} (h : T q = some kChoice) (hc : cIs V q c) (hd : -2147483648 < d.toInt) : Sp l s0 D kX0_consider (jR 1 0 0) 0 0 [.ref q, .int n, .int p, .int d] T V X sz (qU T X sz (fun V' => cIs V' q (cCons c n.toInt p.toInt d.toInt) ∧ jAg V V' q (q + 1))) := by
  refine Sp.of pn_X0_consider rfl (Nat.le_of_ble_eq_true rfl) ?_
  have ha := ti_abs hd
  refine j_iload_n dX0_consider_0 rfl ?_
  refine j_mabs dX0_consider_1 hB ml_X0_49 (by decide) (Nat.le_of_ble_eq_true rfl) (by decide) (by decide) ?_
  refine j_aload_n dX0_consider_4 rfl ?_
  refine j_geti dX0_consider_5 hB fl_X0_28 (by exact h) (by rfl) ?_
  refine j_icmp_ge (tgt := 29) dX0_consider_8 (by decide) (fun c_8 => ?_) (fun c_8 => ?_)
  · refine j_vret dX0_consider_29 rfl (by decide) (by decide) ?_
    refine ⟨rfl, rfl, rfl, rfl, ?_⟩
    rw [ha, hc.2.2] at c_8
    unfold cCons
    rw [if_neg (by omega)]
    exact ⟨hc, jAg.rf⟩
  · refine j_aload_n dX0_consider_11 rfl ?_
    refine j_iload_n dX0_consider_12 rfl ?_
    refine j_puti dX0_consider_13 hB fp_X0_consider_54 (by exact h) (by rfl) ?_
    refine j_aload_n dX0_consider_16 rfl ?_
    refine j_iload_n dX0_consider_17 rfl ?_
    refine j_puti dX0_consider_18 hB fp_X0_consider_56 (by exact h) (by rfl) ?_
    refine j_aload_n dX0_consider_21 rfl ?_
    refine j_iload_n dX0_consider_22 rfl ?_
    refine j_mabs dX0_consider_23 hB ml_X0_49 (by decide) (Nat.le_of_ble_eq_true rfl) (by decide) (by decide) ?_
    refine j_puti dX0_consider_26 hB fp_X0_consider_28 (by exact h) (by rfl) ?_
    refine j_vret dX0_consider_29 rfl (by decide) (by decide) ?_
    refine ⟨rfl, rfl, rfl, rfl, ?_⟩
    rw [ha, hc.2.2] at c_8
    unfold cCons
    rw [if_pos (by omega)]
    exact ⟨⟨by rw [jset_ne (Or.inr (by decide)), jset_ne (Or.inr (by decide)), jset_eq], by rw [jset_ne (Or.inr (by decide)), jset_eq], by rw [jset_eq, ha]⟩, ((jAg.rf.set (by omega) (by omega)).set (by omega) (by omega)).set (by omega) (by omega)⟩
set_option maxRecDepth 100000 in
set_option maxHeartbeats 4000000 in
theorem sp_X0_tryPaces (hB : jB l s0 D) {q : Nat} {c : cT} {u st m o : Int32} (h : T q = some kChoice) (hc : cIs V q c) (u0 : 0 ≤ u.toInt) (u1 : u.toInt ≤ 1200) (s0' : 0 ≤ st.toInt) (s1 : st.toInt ≤ 1200) (m0 : -1000000 ≤ m.toInt) (m1 : m.toInt ≤ 1000000) (o0 : 0 ≤ o.toInt) (o1 : o.toInt ≤ 20) : Sp l s0 D kX0_tryPaces (jR 2 0 0) 0 0 [.ref q, .int u, .int st, .int m, .int o] T V X sz (qU T X sz (fun V' => cIs V' q (cTry u.toInt st.toInt m.toInt c o.toInt 9) ∧ jAg V V' q (q + 1))) := by
  refine Sp.of pn_X0_tryPaces rfl (Nat.le_of_ble_eq_true rfl) ?_
  have h9 : (9 : Int32).toInt = 9 := by decide
  have h100 : (100 : Int32).toInt = 100 := by decide
  have loop : ∀ (r k : Nat) (i : Int32) (V1 : jV) (L : List (Nat × Value)), L.lookup 0 = some (.ref q) → L.lookup 1 = some (.int u) → L.lookup 2 = some (.int st) → L.lookup 3 = some (.int m) → L.lookup 4 = some (.int o) → L.lookup 5 = some (.int i) → i.toInt = k + 1 → k + r = 9 → cIs V1 q (cTry u.toInt st.toInt m.toInt c o.toInt k) → jAg V V1 q (q + 1) → J l s0 D kX0_tryPaces (jR 2 0 0) 0 0 (qU T X sz (fun V' => cIs V' q (cTry u.toInt st.toInt m.toInt c o.toInt 9) ∧ jAg V V' q (q + 1))) 3 L [] T V1 X sz 0 0 := by
    intro r
    induction r with
    | zero =>
      intro k i V1 L l0 l1 l2 l3 l4 l5 hi hk hc1 ha
      refine j_sub2 (L' := [(0, .ref q), (1, .int u), (2, .int st), (3, .int m), (4, .int o), (5, .int i)]) (List.forall_mem_cons.mpr ⟨l0, List.forall_mem_cons.mpr ⟨l1, List.forall_mem_cons.mpr ⟨l2, List.forall_mem_cons.mpr ⟨l3, List.forall_mem_cons.mpr ⟨l4, List.forall_mem_cons.mpr ⟨l5, fun _ h9 => nomatch h9⟩⟩⟩⟩⟩⟩) ?_
      refine j_iload dX0_tryPaces_3 rfl ?_
      refine j_bipush (v := 9) dX0_tryPaces_5 (by decide) ?_
      refine j_icmp_gt (tgt := 80) dX0_tryPaces_7 (by decide) (fun c_7 => ?_) (fun c_7 => ?_)
      · refine j_vret dX0_tryPaces_80 rfl (by decide) (by decide) ?_
        exact ⟨rfl, rfl, rfl, rfl, by rw [show k = 9 by omega] at hc1; exact hc1, ha⟩
      · exact absurd c_7 (by rw [h9]; omega)
    | succ r ih =>
      intro k i V1 L l0 l1 l2 l3 l4 l5 hi hk hc1 ha
      have hms := mul_rng (k := i.toInt) (x := st.toInt) (by omega) (by omega) s0' s1
      have t1 : (i * st).toInt = i.toInt * st.toInt := ti_mul (by omega) (by omega)
      have t2 : (u + i * st).toInt = u.toInt + i.toInt * st.toInt := by rw [ti_add (by omega) (by omega), t1]
      have p1 : (100 - o).toInt = 100 - o.toInt := by rw [ti_sub (by rw [h100]; omega) (by rw [h100]; omega), h100]
      have p2 : (100 + o).toInt = 100 + o.toInt := by rw [ti_add (by rw [h100]; omega) (by rw [h100]; omega), h100]
      have r1 := cD_rng (n := i.toInt) (p := 100 - o.toInt) u0 u1 s0' s1 m0 m1 (by omega) (by omega) (by omega)
      have r2 := cD_rng (n := i.toInt) (p := 100 + o.toInt) u0 u1 s0' s1 m0 m1 (by omega) (by omega) (by omega)
      refine j_sub2 (L' := [(0, .ref q), (1, .int u), (2, .int st), (3, .int m), (4, .int o), (5, .int i)]) (List.forall_mem_cons.mpr ⟨l0, List.forall_mem_cons.mpr ⟨l1, List.forall_mem_cons.mpr ⟨l2, List.forall_mem_cons.mpr ⟨l3, List.forall_mem_cons.mpr ⟨l4, List.forall_mem_cons.mpr ⟨l5, fun _ h9 => nomatch h9⟩⟩⟩⟩⟩⟩) ?_
      refine j_iload dX0_tryPaces_3 rfl ?_
      refine j_bipush (v := 9) dX0_tryPaces_5 (by decide) ?_
      refine j_icmp_gt (tgt := 80) dX0_tryPaces_7 (by decide) (fun c_7 => ?_) (fun c_7 => ?_)
      · exact absurd c_7 (by rw [h9]; omega)
      · refine j_iload_n dX0_tryPaces_10 rfl ?_
        refine j_iload dX0_tryPaces_11 rfl ?_
        refine j_iload_n dX0_tryPaces_13 rfl ?_
        refine j_imul dX0_tryPaces_14 ?_
        refine j_iadd dX0_tryPaces_15 ?_
        refine j_istore (L' := [(0, _), (1, _), (2, _), (3, _), (4, _), (5, _), (6, _)]) dX0_tryPaces_16 (by decide) rfl ?_
        refine j_aload_n dX0_tryPaces_18 rfl ?_
        refine j_iload dX0_tryPaces_19 rfl ?_
        refine j_bipush (v := 100) dX0_tryPaces_21 (by decide) ?_
        refine j_iload dX0_tryPaces_23 rfl ?_
        refine j_isub dX0_tryPaces_25 ?_
        refine j_iload dX0_tryPaces_26 rfl ?_
        refine j_bipush (v := 100) dX0_tryPaces_28 (by decide) ?_
        refine j_iload dX0_tryPaces_30 rfl ?_
        refine j_isub dX0_tryPaces_32 ?_
        refine j_cSi dX0_tryPaces_33 hB mo_X5_timeAtPace ml_X0_41 (sp_X5_timeAtPace hB (by omega) (by omega) (by omega)) rfl rfl ⟨rfl, rfl, by decide, by decide⟩ (Nat.le_of_ble_eq_true rfl) ⟨by decide, by decide⟩ (fun r_33 V_33 h_33 => ?_)
        obtain ⟨rfl, hr⟩ := h_33
        rw [t2, p1] at hr
        have hd1 : (r_33 - m).toInt = cD u.toInt st.toInt m.toInt i.toInt (100 - o.toInt) := by rw [ti_sub (by omega) (by omega), hr]; rfl
        refine j_iload_n dX0_tryPaces_36 rfl ?_
        refine j_isub dX0_tryPaces_37 ?_
        refine j_cVu dX0_tryPaces_38 hB mo_X0_consider ml_X0_45 (sp_X0_consider hB h hc1 (by omega)) (by exact h) rfl rfl rfl rfl ⟨rfl, rfl, by decide, by decide⟩ (Nat.le_of_ble_eq_true rfl) ⟨by decide, by decide⟩ (fun V_38 h_38 => ?_)
        obtain ⟨g1, a1⟩ := h_38
        rw [hd1, p1] at g1
        refine j_iload dX0_tryPaces_41 rfl ?_
        refine j_bipush (v := 100) dX0_tryPaces_43 (by decide) ?_
        refine j_iload dX0_tryPaces_45 rfl ?_
        refine j_iadd dX0_tryPaces_47 ?_
        refine j_cSi dX0_tryPaces_48 hB mo_X5_timeAtPace ml_X0_41 (sp_X5_timeAtPace hB (by omega) (by omega) (by omega)) rfl rfl ⟨rfl, rfl, by decide, by decide⟩ (Nat.le_of_ble_eq_true rfl) ⟨by decide, by decide⟩ (fun r_48 V_48 h_48 => ?_)
        obtain ⟨rfl, hr2⟩ := h_48
        rw [t2, p2] at hr2
        refine j_iload_n dX0_tryPaces_51 rfl ?_
        refine j_isub dX0_tryPaces_52 ?_
        refine j_topi (fun b7 e7 => ?_)
        have hd2 : b7.toInt = cD u.toInt st.toInt m.toInt i.toInt (100 + o.toInt) := by rw [e7, ti_sub (by omega) (by omega), hr2]; rfl
        refine j_istore (L' := [(0, _), (1, _), (2, _), (3, _), (4, _), (5, _), (6, _), (7, _)]) dX0_tryPaces_53 (by decide) rfl ?_
        refine j_aload_n dX0_tryPaces_55 rfl ?_
        refine j_iload dX0_tryPaces_56 rfl ?_
        refine j_bipush (v := 100) dX0_tryPaces_58 (by decide) ?_
        refine j_iload dX0_tryPaces_60 rfl ?_
        refine j_iadd dX0_tryPaces_62 ?_
        refine j_iload dX0_tryPaces_63 rfl ?_
        refine j_cVu dX0_tryPaces_65 hB mo_X0_consider ml_X0_45 (sp_X0_consider hB h g1 (by omega)) (by exact h) rfl rfl rfl rfl ⟨rfl, rfl, by decide, by decide⟩ (Nat.le_of_ble_eq_true rfl) ⟨by decide, by decide⟩ (fun V_65 h_65 => ?_)
        obtain ⟨g2, a2⟩ := h_65
        rw [hd2, p2] at g2
        have g3 : cIs V_65 q (cTry u.toInt st.toInt m.toInt c o.toInt (k + 1)) := by rw [hi] at g2; exact g2
        have hle := (cCons_le (cCons (cTry u.toInt st.toInt m.toInt c o.toInt k) i.toInt (100 - o.toInt) (cD u.toInt st.toInt m.toInt i.toInt (100 - o.toInt))) i.toInt (100 + o.toInt) (cD u.toInt st.toInt m.toInt i.toInt (100 + o.toInt))).2
        have hle : (cTry u.toInt st.toInt m.toInt c o.toInt (k + 1)).2.2 ≤ (cD u.toInt st.toInt m.toInt i.toInt (100 + o.toInt)).natAbs := by rw [hi] at hle ⊢; exact hle
        refine j_iload dX0_tryPaces_68 rfl ?_
        refine j_if_lt (tgt := 74) dX0_tryPaces_70 (by decide) (fun c_70 => ?_) (fun c_70 => ?_)
        · refine j_iinc (v := 1) (L' := [(0, _), (1, _), (2, _), (3, _), (4, _), (5, _), (6, _), (7, _)]) dX0_tryPaces_74 rfl (by decide) (by decide) rfl ?_
          refine j_goto (tgt := 3) dX0_tryPaces_77 (by decide) ?_
          refine ih (k + 1) _ V_65 _ rfl rfl rfl rfl rfl rfl ?_ (by omega) g3 ((ha.tr a1).tr a2)
          rw [ti_add (by rw [ti_1]; omega) (by rw [ti_1]; omega), ti_1]; omega
        · refine j_vret dX0_tryPaces_73 rfl (by decide) (by decide) ?_
          refine ⟨rfl, rfl, rfl, rfl, ?_, (ha.tr a1).tr a2⟩
          have e := cTry_stop (c := c) (m := m.toInt) u0 s0' o0 o1 (k := k + 1) (by rw [show ((k + 1 : Nat) : Int) = i.toInt by omega]; omega) (by rw [show ((k + 1 : Nat) : Int) = i.toInt by omega]; omega) (9 - (k + 1))
          rw [show k + 1 + (9 - (k + 1)) = 9 by omega] at e
          rw [e]; exact g3
  refine j_iconst (v := 1) dX0_tryPaces_0 (by decide) ?_
  refine j_istore (L' := [(0, _), (1, _), (2, _), (3, _), (4, _), (5, _)]) dX0_tryPaces_1 (by decide) rfl ?_
  exact loop 9 0 1 V _ rfl rfl rfl rfl rfl rfl rfl rfl hc jAg.rf
/-- what the search finds: the best of the piece i, for the room m -/
def bestT (s : aS) (i m : Int) : cT := cSrch ((atZ s.2.1.1 i).toInt + (atZ s.2.1.2.2 i).toInt) (atZ s.2.1.2.1 i).toInt m (0, 0, 1000000000) (s.2.2.2.toInt.toNat + 1)
def lwW (s : aS) : Prop := 0 ≤ s.2.2.1.toInt ∧ s.2.2.1.toInt ≤ 600 ∧ 0 ≤ s.2.2.2.toInt ∧ s.2.2.2.toInt ≤ 20
set_option maxRecDepth 100000 in
set_option maxHeartbeats 4000000 in
theorem sp_X0_search (hB : jB l s0 D) {q qs : Nat} {s : aS} {i m : Int32} (hq : T q = some kChoice) (hd : q + 1 ≤ qs ∨ qs + 64 ≤ q) (h : StOK T V qs s) (hw : pcW s) (hl : lwW s) (i0 : 0 ≤ i.toInt) (i1 : i.toInt < s.2.1.1.length) (m0 : -1000000 ≤ m.toInt) (m1 : m.toInt ≤ 1000000) : Sp l s0 D kX0_search (jR 3 0 0) 0 0 [.ref q, .ref qs, .int i, .int m] T V X sz (qU T X sz (fun V' => cIs V' q (bestT s i.toInt m.toInt) ∧ jAg V V' q (q + 1))) := by
  refine Sp.of pn_X0_search rfl (Nat.le_of_ble_eq_true rfl) ?_
  obtain ⟨x0, x1, x2, x3, x4, x5⟩ := pcW_at hw i0 i1
  obtain ⟨_, _, l0, l1⟩ := hl
  have tu : (atZ s.2.1.1 i.toInt + atZ s.2.1.2.2 i.toInt).toInt = (atZ s.2.1.1 i.toInt).toInt + (atZ s.2.1.2.2 i.toInt).toInt := ti_add (by omega) (by omega)
  generalize hU : atZ s.2.1.1 i.toInt + atZ s.2.1.2.2 i.toInt = u at tu
  have hb : ∀ c : cT, c.2.2 = 1000000000 → cSrch u.toInt (atZ s.2.1.2.1 i.toInt).toInt m.toInt c (s.2.2.2.toInt.toNat + 1) = bestT s i.toInt m.toInt := by
    intro c hc
    unfold bestT
    rw [tu]
    have := cD_rng (u := (atZ s.2.1.1 i.toInt).toInt + (atZ s.2.1.2.2 i.toInt).toInt) (s := (atZ s.2.1.2.1 i.toInt).toInt) (m := m.toInt) (n := 1) (p := 100) (by omega) (by omega) (by omega) (by omega) m0 m1 (by omega) (by omega) (by omega)
    exact cSrch_first hc rfl (by omega) _
  have loop : ∀ (c : cT) (r k : Nat) (j : Int32) (V1 : jV), c.2.2 = 1000000000 → j.toInt = k → k + r = s.2.2.2.toInt.toNat + 1 → cIs V1 q (cSrch u.toInt (atZ s.2.1.2.1 i.toInt).toInt m.toInt c k) → jAg V V1 q (q + 1) → J l s0 D kX0_search (jR 3 0 0) 0 0 (qU T X sz (fun V' => cIs V' q (bestT s i.toInt m.toInt) ∧ jAg V V' q (q + 1))) 38 [(0, .ref q), (1, .ref qs), (2, .int i), (3, .int m), (4, .int (atZ s.2.1.2.1 i.toInt)), (5, .int u), (6, .int j)] [] T V1 X sz 0 0 := by
    intro c r
    induction r with
    | zero =>
      intro k j V1 hc hj hk hcs ha
      have hlee : V1 qs 7 = s.2.2.2 := by rw [ha qs (by omega)]; exact h.2.2.2.2.2.2.2.2.2.2.2
      refine j_iload dX0_search_38 rfl ?_
      refine j_aload_n dX0_search_40 rfl ?_
      refine j_geti dX0_search_41 hB fl_X0_34 (by first | exact hq | exact h.1 | exact h.2.2.2.2.1.1 | exact h.2.2.2.2.2.1.1 | exact h.2.2.2.2.2.2.1.1) (by rfl) ?_
      refine j_icmp_gt (tgt := 71) dX0_search_44 (by decide) (fun c_44 => ?_) (fun c_44 => ?_)
      · refine j_vret dX0_search_71 rfl (by decide) (by decide) ?_
        exact ⟨rfl, rfl, rfl, rfl, by rw [show k = s.2.2.2.toInt.toNat + 1 by omega, hb c hc] at hcs; exact hcs, ha⟩
      · exact absurd c_44 (by rw [hlee]; omega)
    | succ r ih =>
      intro k j V1 hc hj hk hcs ha
      have hlee : V1 qs 7 = s.2.2.2 := by rw [ha qs (by omega)]; exact h.2.2.2.2.2.2.2.2.2.2.2
      refine j_iload dX0_search_38 rfl ?_
      refine j_aload_n dX0_search_40 rfl ?_
      refine j_geti dX0_search_41 hB fl_X0_34 (by first | exact hq | exact h.1 | exact h.2.2.2.2.1.1 | exact h.2.2.2.2.2.1.1 | exact h.2.2.2.2.2.2.1.1) (by rfl) ?_
      refine j_icmp_gt (tgt := 71) dX0_search_44 (by decide) (fun c_44 => ?_) (fun c_44 => ?_)
      · exact absurd c_44 (by rw [hlee]; omega)
      · refine j_aload_n dX0_search_47 rfl ?_
        refine j_geti dX0_search_48 hB fl_X0_28 (by first | exact hq | exact h.1 | exact h.2.2.2.2.1.1 | exact h.2.2.2.2.2.1.1 | exact h.2.2.2.2.2.2.1.1) (by rfl) ?_
        refine j_if_le (tgt := 71) dX0_search_51 (by decide) (fun c_51 => ?_) (fun c_51 => ?_)
        · refine j_vret dX0_search_71 rfl (by decide) (by decide) ?_
          refine ⟨rfl, rfl, rfl, rfl, ?_, ha⟩
          have e := cSrch_0 (u := u.toInt) (s := (atZ s.2.1.2.1 i.toInt).toInt) (m := m.toInt) (c := c) (k := k) (by rw [← hcs.2.2]; omega) (r + 1)
          rw [hk, hb c hc] at e
          rw [e]; exact hcs
        · refine j_aload_n dX0_search_54 rfl ?_
          refine j_iload dX0_search_55 rfl ?_
          refine j_iload dX0_search_57 rfl ?_
          refine j_iload_n dX0_search_59 rfl ?_
          refine j_iload dX0_search_60 rfl ?_
          refine j_cVu dX0_search_62 hB mo_X0_tryPaces ml_X0_37 (sp_X0_tryPaces hB hq hcs (by omega) (by omega) (by omega) (by omega) m0 m1 (by omega) (by omega)) (by first | exact hq | exact h.1 | exact h.2.2.2.2.1.1 | exact h.2.2.2.2.2.1.1 | exact h.2.2.2.2.2.2.1.1) rfl rfl rfl rfl ⟨rfl, rfl, by decide, by decide⟩ (Nat.le_of_ble_eq_true rfl) ⟨by decide, by decide⟩ (fun V_62 h_62 => ?_)
          obtain ⟨g1, a1⟩ := h_62
          refine j_iinc (v := 1) (L' := [(0, _), (1, _), (2, _), (3, _), (4, _), (5, _), (6, _)]) dX0_search_65 rfl (by decide) (by decide) rfl ?_
          refine j_goto (tgt := 38) dX0_search_68 (by decide) ?_
          refine ih (k + 1) _ V_62 hc ?_ (by omega) (by rw [hj] at g1; exact g1) (ha.tr a1)
          rw [ti_add (by rw [ti_1]; omega) (by rw [ti_1]; omega), ti_1]; omega
  refine j_aload_n dX0_search_0 rfl ?_
  refine j_getr dX0_search_1 hB fl_X0_9 (by first | exact hq | exact h.1 | exact h.2.2.2.2.1.1 | exact h.2.2.2.2.2.1.1 | exact h.2.2.2.2.2.2.1.1) (by rfl) ?_
  refine j_iload_n dX0_search_4 rfl ?_
  refine j_cVi dX0_search_5 hB mo_X3_at ml_X0_15 (sp_X3_at hB (h.2.2.2.2.2.1)) (by first | exact hq | exact h.1 | exact h.2.2.2.2.1.1 | exact h.2.2.2.2.2.1.1 | exact h.2.2.2.2.2.2.1.1) rfl rfl rfl rfl ⟨rfl, rfl, by decide, by decide⟩ (Nat.le_of_ble_eq_true rfl) ⟨by decide, by decide⟩ (fun r_5 V_5 h_5 => ?_)
  obtain ⟨rfl, y1⟩ := h_5
  rw [h.2.2.2.2.2.2.2.2.1] at y1
  subst y1
  refine j_istore (L' := [(0, _), (1, _), (2, _), (3, _), (4, _)]) dX0_search_8 (by decide) rfl ?_
  refine j_aload_n dX0_search_10 rfl ?_
  refine j_getr dX0_search_11 hB fl_X0_21 (by first | exact hq | exact h.1 | exact h.2.2.2.2.1.1 | exact h.2.2.2.2.2.1.1 | exact h.2.2.2.2.2.2.1.1) (by rfl) ?_
  refine j_iload_n dX0_search_14 rfl ?_
  refine j_cVi dX0_search_15 hB mo_X3_at ml_X0_15 (sp_X3_at hB (h.2.2.2.2.1)) (by first | exact hq | exact h.1 | exact h.2.2.2.2.1.1 | exact h.2.2.2.2.2.1.1 | exact h.2.2.2.2.2.2.1.1) rfl rfl rfl rfl ⟨rfl, rfl, by decide, by decide⟩ (Nat.le_of_ble_eq_true rfl) ⟨by decide, by decide⟩ (fun r_15 V_15 h_15 => ?_)
  obtain ⟨rfl, y2⟩ := h_15
  rw [h.2.2.2.2.2.2.2.1] at y2
  subst y2
  refine j_aload_n dX0_search_18 rfl ?_
  refine j_getr dX0_search_19 hB fl_X0_24 (by first | exact hq | exact h.1 | exact h.2.2.2.2.1.1 | exact h.2.2.2.2.2.1.1 | exact h.2.2.2.2.2.2.1.1) (by rfl) ?_
  refine j_iload_n dX0_search_22 rfl ?_
  refine j_cVi dX0_search_23 hB mo_X3_at ml_X0_15 (sp_X3_at hB (h.2.2.2.2.2.2.1)) (by first | exact hq | exact h.1 | exact h.2.2.2.2.1.1 | exact h.2.2.2.2.2.1.1 | exact h.2.2.2.2.2.2.1.1) rfl rfl rfl rfl ⟨rfl, rfl, by decide, by decide⟩ (Nat.le_of_ble_eq_true rfl) ⟨by decide, by decide⟩ (fun r_23 V_23 h_23 => ?_)
  obtain ⟨rfl, y3⟩ := h_23
  rw [h.2.2.2.2.2.2.2.2.2.1] at y3
  subst y3
  refine j_iadd dX0_search_26 ?_
  rw [hU]
  refine j_istore (L' := [(0, _), (1, _), (2, _), (3, _), (4, _), (5, _)]) dX0_search_27 (by decide) rfl ?_
  refine j_aload_n dX0_search_29 rfl ?_
  refine j_ldc dX0_search_30 hB kc_X0_27 ?_
  refine j_puti dX0_search_32 hB fp_X0_search_28 (by first | exact hq | exact h.1 | exact h.2.2.2.2.1.1 | exact h.2.2.2.2.2.1.1 | exact h.2.2.2.2.2.2.1.1) (by rfl) ?_
  refine j_iconst (v := 0) dX0_search_35 (by decide) ?_
  refine j_istore (L' := [(0, _), (1, _), (2, _), (3, _), (4, _), (5, _), (6, _)]) dX0_search_36 (by decide) rfl ?_
  exact loop ((V q 0).toInt, (V q 1).toInt, 1000000000) _ 0 0 _ rfl rfl (Nat.zero_add _) ⟨by rw [jset_ne (Or.inr (by decide))]; rfl, by rw [jset_ne (Or.inr (by decide))]; rfl, by rw [jset_eq]; exact (by decide : (1000000000 : Int32).toInt = 1000000000)⟩ (jAg.rf.set (by omega) (by omega))

end JChoice
