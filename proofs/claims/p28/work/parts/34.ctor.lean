/-! CONSTRUCTORS: what they make, ahead of all that stands behind -/
/-- all below q stayed -/
def jNw (T : jT) (V : jV) (X : jX) (T' : jT) (V' : jV) (X' : jX) (q : Nat) : Prop := ∀ a, a < q → T' a = T a ∧ V' a = V a ∧ X'.1 a = X.1 a ∧ X'.2 a = X.2 a
def jEq (T : jT) (V : jV) (T' : jT) (V' : jV) (lo hi : Nat) : Prop := ∀ a, lo ≤ a → a < hi → T' a = T a ∧ V' a = V a
theorem jNw.eq {T T' : jT} {V V' : jV} {X X' : jX} {q lo hi : Nat} (h : jNw T V X T' V' X' q) (hd : hi ≤ q) : jEq T V T' V' lo hi := fun a _ hb => ⟨(h a (by omega)).1, (h a (by omega)).2.1⟩
theorem jNw.tr {T T1 T2 : jT} {V V1 V2 : jV} {X X1 X2 : jX} {q q' : Nat} (h : jNw T V X T1 V1 X1 q) (h' : jNw T1 V1 X1 T2 V2 X2 q') (hd : q ≤ q') : jNw T V X T2 V2 X2 q := fun a ha => by
  obtain ⟨a1, a2, a3, a4⟩ := h a ha
  obtain ⟨b1, b2, b3, b4⟩ := h' a (by omega)
  exact ⟨b1.trans a1, b2.trans a2, b3.trans a3, b4.trans a4⟩
theorem jEq.sub {T T' : jT} {V V' : jV} {lo hi lo' hi' : Nat} (h : jEq T V T' V' lo hi) (h1 : lo ≤ lo') (h2 : hi' ≤ hi) : jEq T V T' V' lo' hi' := fun a ha hb => h a (by omega) (by omega)
section JCg
variable {T T' : jT} {V V' : jV}
theorem RowOK.cg {q cap : Nat} (h : RowOK T V q cap) (e : jEq T V T' V' q (q + 2)) : RowOK T' V' q cap := by
  obtain ⟨h1, h2, h3, h4, h5⟩ := h
  have e0 := e q (by omega) (by omega)
  have e1 := e (q + 1) (by omega) (by omega)
  exact ⟨by rw [e0.1]; exact h1, by rw [e1.1]; exact h2, by rw [e0.2]; exact h3, by rw [e0.2]; exact h4, h5⟩
theorem Rw_cg {q : Nat} (e : jEq T V T' V' q (q + 2)) : Rw V' q = Rw V q := Rw_congr (e q (by omega) (by omega)).2 (e (q + 1) (by omega) (by omega)).2
theorem MkOK.cg {q : Nat} {P : pL} (h : MkOK T V q P) (e : jEq T V T' V' q (q + 5)) : MkOK T' V' q P := by
  obtain ⟨h0, h1, h2, h3, h4, h5⟩ := h
  exact ⟨by rw [(e q (by omega) (by omega)).1]; exact h0, h1.cg (e.sub (by omega) (by omega)), h2.cg (e.sub (by omega) (by omega)), by rw [Rw_cg (e.sub (by omega) (by omega))]; exact h3, by rw [Rw_cg (e.sub (by omega) (by omega))]; exact h4, h5⟩
theorem ReelOK.cg {q : Nat} {r : aR} (h : ReelOK T V q r) (e : jEq T V T' V' q (q + 19)) : ReelOK T' V' q r := by
  obtain ⟨h0, h1, h2, h3, h4, h5, h6, e1, e2, e3, e4⟩ := h
  exact ⟨by rw [(e q (by omega) (by omega)).1]; exact h0, h1.cg (e.sub (by omega) (by omega)), h2.cg (e.sub (by omega) (by omega)), h3.cg (e.sub (by omega) (by omega)), h4.cg (e.sub (by omega) (by omega)), h5.cg (e.sub (by omega) (by omega)), h6.cg (e.sub (by omega) (by omega)), by rw [Rw_cg (e.sub (by omega) (by omega))]; exact e1, by rw [Rw_cg (e.sub (by omega) (by omega))]; exact e2, by rw [Rw_cg (e.sub (by omega) (by omega))]; exact e3, by rw [Rw_cg (e.sub (by omega) (by omega))]; exact e4⟩
theorem StOK.cg {q : Nat} {s : aS} (h : StOK T V q s) (e : jEq T V T' V' q (q + 64)) : StOK T' V' q s := by
  obtain ⟨h0, h1, h2, h3, h4, h5, h6, e1, e2, e3, e4, e5⟩ := h
  have eq := e q (by omega) (by omega)
  exact ⟨by rw [eq.1]; exact h0, h1.cg (e.sub (by omega) (by omega)), h2.cg (e.sub (by omega) (by omega)), h3.cg (e.sub (by omega) (by omega)), h4.cg (e.sub (by omega) (by omega)), h5.cg (e.sub (by omega) (by omega)), h6.cg (e.sub (by omega) (by omega)), by rw [Rw_cg (e.sub (by omega) (by omega))]; exact e1, by rw [Rw_cg (e.sub (by omega) (by omega))]; exact e2, by rw [Rw_cg (e.sub (by omega) (by omega))]; exact e3, by rw [eq.2]; exact e4, by rw [eq.2]; exact e5⟩
theorem TmK.cg {q : Nat} (h : TmK T V q) (e : jEq T V T' V' q (q + 15)) : TmK T' V' q := by
  obtain ⟨h0, h1, h2, h3, h4, h5, h6, h7⟩ := h
  exact ⟨by rw [(e q (by omega) (by omega)).1]; exact h0, h1.cg (e.sub (by omega) (by omega)), h2.cg (e.sub (by omega) (by omega)), h3.cg (e.sub (by omega) (by omega)), h4.cg (e.sub (by omega) (by omega)), h5.cg (e.sub (by omega) (by omega)), h6.cg (e.sub (by omega) (by omega)), h7.cg (e.sub (by omega) (by omega))⟩
theorem rdK.cg {q : Nat} (h : rdK T V q) (e : jEq T V T' V' q (q + 9)) : rdK T' V' q := by
  obtain ⟨h0, h1, h2, h3, h4⟩ := h
  exact ⟨by rw [(e q (by omega) (by omega)).1]; exact h0, h1.cg (e.sub (by omega) (by omega)), h2.cg (e.sub (by omega) (by omega)), h3.cg (e.sub (by omega) (by omega)), h4.cg (e.sub (by omega) (by omega))⟩
/-- an empty row -/
def RwE (T : jT) (V : jV) (q cap : Nat) : Prop := RowOK T V q cap ∧ Rw V q = []
theorem RwE.cg {q cap : Nat} (h : RwE T V q cap) (e : jEq T V T' V' q (q + 2)) : RwE T' V' q cap := ⟨h.1.cg e, by rw [Rw_cg e]; exact h.2⟩
end JCg
/-- the answer of a method that makes: none, and P of the new world -/
def qN (P : jT → jV → jX → Nat → Prop) : jQ := fun o T' V' X' sz' => o = .inl none ∧ P T' V' X' sz'
section JCtor
variable {l : Launch} {s0 : State} {D : jD} {M : jM} {R : Room} {mc ms : Nat} {Q : jQ} {pc : Nat} {L : List (Nat × Value)} {st rest : List Value} {T : jT} {V : jV} {X : jX} {sz c n : Nat}
theorem j_cI {M2 : jM} {R2 : Room} {mc2 ms2 idx b na : Nat} {as : List Value} {P : jT → jV → jX → Nat → Prop} (d : decode M.2.1 pc = .ok (.invokespecial idx, 3)) (hB : jB l s0 D) (hm : jmI M2 na) (hlk : Cond.methodLink M.1.cls idx M2.1 ∈ lw_tbl) (sp : Sp l s0 D M2 R2 mc2 ms2 (.ref b :: as) T V X sz (qN P)) (hn : as.length = na) (hst : st = as.reverse ++ .ref b :: rest) (hrm : jrm R R2 mc2 ms2 M2.2.2.1) (hcat : (rest.map fun v => v.category).sum ≤ 8) (hf : c + mc2 ≤ R.cells ∧ n + ms2 ≤ R.slots)
    (K : ∀ T' V' X' sz', P T' V' X' sz' → J l s0 D M R mc ms Q (pc + 3) L rest T' V' X' sz' (c + mc2) (n + ms2)) : J l s0 D M R mc ms Q pc L st T V X sz c n :=
  j_callI d hB hm hlk sp hn hst hrm hcat hf (by rintro v T' V' X' sz' ⟨h, hp⟩; cases h; exact K T' V' X' sz' hp) (by rintro E T' V' X' sz' ⟨h, -⟩; cases h)
theorem j_abT (k : ∀ T' : jT, T' = T → J l s0 D M R mc ms Q pc L st T' V X sz c n) : J l s0 D M R mc ms Q pc L st T V X sz c n := k T rfl
theorem j_abV (k : ∀ V' : jV, V' = V → J l s0 D M R mc ms Q pc L st T V' X sz c n) : J l s0 D M R mc ms Q pc L st T V X sz c n := k V rfl
set_option maxRecDepth 100000 in
set_option maxHeartbeats 4000000 in
theorem sp_X3_init (hB : jB l s0 D) {q cap : Nat} {n : Int32} (ht : T q = some (.inl (3, [.inr none, .inl 0]))) (hv : V q = fun _ => 0) (hn : n.toInt = cap) (hcap : cap ≤ 1000) : Sp l s0 D kX3_init (jR 1 1 cap) 1 cap [.ref q, .int n] T V X (q + 1) (qN (fun T' V' X' sz' => sz' = q + 2 ∧ RwE T' V' q cap ∧ jNw T V X T' V' X' q)) := by
  refine Sp.of pn_X3_init rfl (Nat.le_of_ble_eq_true rfl) ?_
  refine j_aload_n dX3_init_0 rfl ?_
  refine j_objInit dX3_init_1 hB ml_X3_1 oi_1 oi_2 (Nat.le_refl 1) (Nat.le_of_ble_eq_true rfl) ?_
  refine j_aload_n dX3_init_4 rfl ?_
  refine j_iload_n dX3_init_5 rfl ?_
  refine j_if_ge (tgt := 13) dX3_init_6 (by decide) (fun c_6 => ?_) (fun c_6 => ?_)
  · refine j_iload_n dX3_init_13 rfl ?_
    refine j_newi (N := cap) dX3_init_14 hB ac_int hn (by omega) (Nat.le_refl 1) (by show 0 + cap ≤ cap; omega) ?_
    refine j_putr dX3_init_16 hB fp_X3_init_7 (Or.inr ⟨_, rfl⟩) (by rw [jup_ne (by omega)]; exact ht) (by simp) ?_
    refine j_vret dX3_init_19 rfl (by decide) (by show 0 + cap ≤ cap; omega) ?_
    have e1 : (jz V (q + 1) 0) q = fun _ => 0 := by rw [jz_ne (by omega)]; exact hv
    refine ⟨rfl, rfl, ⟨⟨jup_eq, by rw [jup_ne (by omega), jup_eq], by rw [e1]; decide, by rw [e1]; show (0 : Int32).toInt ≤ _; rw [ti_0]; omega, hcap⟩, ?_⟩, fun a ha => ⟨by rw [jup_ne (by omega), jup_ne (by omega)], jz_ne (by omega), rfl, rfl⟩⟩
    exact List.eq_nil_of_length_eq_zero (by rw [Rw_len, e1]; decide)
  · exact absurd c_6 (by rw [hn]; omega)
set_option maxRecDepth 100000 in
set_option maxHeartbeats 4000000 in
theorem sp_X1_init (hB : jB l s0 D) {q : Nat} (ht : T q = some (.inl (1, [.inr none, .inr none]))) (hv : V q = fun _ => 0) : Sp l s0 D kX1_init (jR 2 4 16) 4 16 [.ref q] T V X (q + 1) (qN (fun T' V' X' sz' => sz' = q + 5 ∧ MkOK T' V' q [] ∧ jNw T V X T' V' X' q)) := by
  refine Sp.of pn_X1_init rfl (Nat.le_of_ble_eq_true rfl) ?_
  refine j_aload_n dX1_init_0 rfl ?_
  refine j_objInit dX1_init_1 hB ml_X1_3 oi_1 oi_2 (by decide) (Nat.le_of_ble_eq_true rfl) ?_
  refine j_aload_n dX1_init_4 rfl ?_
  refine j_new dX1_init_5 hB nw_X1_9 (by decide) (by decide) ?_
  refine j_dup dX1_init_8 rfl ?_
  refine j_bipush (v := 6) dX1_init_9 (by decide) ?_
  refine j_cI dX1_init_11 hB mo_X3_init ml_X1_11 (sp_X3_init hB (cap := 6) jup_eq jz_row (by decide) (by decide)) rfl rfl ⟨rfl, rfl, by decide, by decide⟩ (Nat.le_of_ble_eq_true rfl) ⟨by decide, by decide⟩ (fun T0 V0 X0 sz0 h0 => ?_)
  obtain ⟨sz0', g0, w0⟩ := h0
  have z0 : sz0 = q + 3 := by omega
  subst z0
  have e0 : ∀ a, a < q + 1 → T0 a = T a ∧ V0 a = V a ∧ X0.1 a = X.1 a ∧ X0.2 a = X.2 a := fun a ha => by
    obtain ⟨w1, w2, w3, w4⟩ := w0 a ha
    exact ⟨w1.trans (jup_ne (by omega)), w2.trans (jz_ne (by omega)), w3.trans (jz_ne (by omega)), w4⟩
  have u0 : T0 q = some (.inl (1, [.inr none, .inr none])) := (e0 q (by omega)).1.trans ht
  have y0 : V0 q = fun _ => 0 := (e0 q (by omega)).2.1.trans hv
  refine j_putr dX1_init_14 hB fp_X1_init_14 (Or.inl ⟨_, rfl⟩) (by first | exact u1 | exact u0 | exact t1) (by simp) ?_
  refine j_abT (fun S0 hT0 => ?_)
  have t0 : S0 q = some (.inl (1, [.inr (some (q + 1)), .inr none])) := by rw [hT0]; exact jup_eq
  have n0 : ∀ a, a ≠ q → S0 a = T0 a := fun a ha => by rw [hT0]; exact jup_ne ha
  have k0_0 := g0.cg (T' := S0) (V' := V0) (fun a ha hb => ⟨n0 a (by omega), rfl⟩)
  have f0 : jNw T V X S0 V0 X0 q := fun a ha => ⟨(n0 a (by omega)).trans (e0 a (by omega)).1, (e0 a (by omega)).2.1, (e0 a (by omega)).2.2⟩
  refine j_aload_n dX1_init_17 rfl ?_
  refine j_new dX1_init_18 hB nw_X1_9 (by decide) (by decide) ?_
  refine j_dup dX1_init_21 rfl ?_
  refine j_bipush (v := 6) dX1_init_22 (by decide) ?_
  refine j_cI dX1_init_24 hB mo_X3_init ml_X1_11 (sp_X3_init hB (cap := 6) jup_eq jz_row (by decide) (by decide)) rfl rfl ⟨rfl, rfl, by decide, by decide⟩ (Nat.le_of_ble_eq_true rfl) ⟨by decide, by decide⟩ (fun T1 V1 X1 sz1 h1 => ?_)
  obtain ⟨sz1', g1, w1⟩ := h1
  have z1 : sz1 = q + 5 := by omega
  subst z1
  have e1 : ∀ a, a < q + 3 → T1 a = S0 a ∧ V1 a = V0 a ∧ X1.1 a = X0.1 a ∧ X1.2 a = X0.2 a := fun a ha => by
    obtain ⟨w1, w2, w3, w4⟩ := w1 a ha
    exact ⟨w1.trans (jup_ne (by omega)), w2.trans (jz_ne (by omega)), w3.trans (jz_ne (by omega)), w4⟩
  have u1 : T1 q = some (.inl (1, [.inr (some (q + 1)), .inr none])) := (e1 q (by omega)).1.trans t0
  have y1 : V1 q = fun _ => 0 := (e1 q (by omega)).2.1.trans y0
  refine j_putr dX1_init_27 hB fp_X1_init_20 (Or.inl ⟨_, rfl⟩) (by first | exact u1 | exact u0 | exact t1) (by simp) ?_
  refine j_abT (fun S1 hT1 => ?_)
  have t1 : S1 q = some (.inl (1, [.inr (some (q + 1)), .inr (some (q + 3))])) := by rw [hT1]; exact jup_eq
  have n1 : ∀ a, a ≠ q → S1 a = T1 a := fun a ha => by rw [hT1]; exact jup_ne ha
  have k0_1 := k0_0.cg (T' := S1) (V' := V1) (fun a ha hb => ⟨(n1 a (by omega)).trans (e1 a (by omega)).1, (e1 a (by omega)).2.1⟩)
  have k1_1 := g1.cg (T' := S1) (V' := V1) (fun a ha hb => ⟨n1 a (by omega), rfl⟩)
  have f1 : jNw T V X S1 V1 X1 q := f0.tr (fun a ha => ⟨(n1 a (by omega)).trans (e1 a (by omega)).1, (e1 a (by omega)).2.1, (e1 a (by omega)).2.2⟩) (Nat.le_refl q)
  refine j_vret dX1_init_30 rfl (by decide) (by decide) ?_
  exact ⟨rfl, rfl, ⟨t1, k0_1.1, k1_1.1, k0_1.2, k1_1.2, List.Pairwise.nil⟩, f1⟩
def rl0 : aR := ([], [], [], [], [(0, 16)], [])
def st0 : aS := ((rl0, rl0, rl0), ([], [], []), 20, 5)
set_option maxRecDepth 100000 in
set_option maxHeartbeats 4000000 in
theorem sp_X4_init (hB : jB l s0 D) {q : Nat} (ht : T q = some (.inl (4, [.inr none, .inr none, .inr none, .inr none, .inl 0]))) (hv : V q = fun _ => 0) : Sp l s0 D kX4_init (jR 2 8 248) 8 248 [.ref q] T V X (q + 1) (qN (fun T' V' X' sz' => sz' = q + 9 ∧ rdK T' V' q ∧ jNw T V X T' V' X' q)) := by
  refine Sp.of pn_X4_init rfl (Nat.le_of_ble_eq_true rfl) ?_
  refine j_aload_n dX4_init_0 rfl ?_
  refine j_objInit dX4_init_1 hB ml_X4_3 oi_1 oi_2 (by decide) (Nat.le_of_ble_eq_true rfl) ?_
  refine j_aload_n dX4_init_4 rfl ?_
  refine j_new dX4_init_5 hB nw_X4_9 (by decide) (by decide) ?_
  refine j_dup dX4_init_8 rfl ?_
  refine j_bipush (v := 60) dX4_init_9 (by decide) ?_
  refine j_cI dX4_init_11 hB mo_X3_init ml_X4_11 (sp_X3_init hB (cap := 60) jup_eq jz_row (by decide) (by decide)) rfl rfl ⟨rfl, rfl, by decide, by decide⟩ (Nat.le_of_ble_eq_true rfl) ⟨by decide, by decide⟩ (fun T0 V0 X0 sz0 h0 => ?_)
  obtain ⟨sz0', g0, w0⟩ := h0
  have z0 : sz0 = q + 3 := by omega
  subst z0
  have e0 : ∀ a, a < q + 1 → T0 a = T a ∧ V0 a = V a ∧ X0.1 a = X.1 a ∧ X0.2 a = X.2 a := fun a ha => by
    obtain ⟨w1, w2, w3, w4⟩ := w0 a ha
    exact ⟨w1.trans (jup_ne (by omega)), w2.trans (jz_ne (by omega)), w3.trans (jz_ne (by omega)), w4⟩
  have u0 : T0 q = some (.inl (4, [.inr none, .inr none, .inr none, .inr none, .inl 0])) := (e0 q (by omega)).1.trans ht
  have y0 : V0 q = fun _ => 0 := (e0 q (by omega)).2.1.trans hv
  refine j_putr dX4_init_14 hB fp_X4_init_14 (Or.inl ⟨_, rfl⟩) (by first | exact u3 | exact u2 | exact u1 | exact u0 | exact t3) (by simp) ?_
  refine j_abT (fun S0 hT0 => ?_)
  have t0 : S0 q = some (.inl (4, [.inr (some (q + 1)), .inr none, .inr none, .inr none, .inl 0])) := by rw [hT0]; exact jup_eq
  have n0 : ∀ a, a ≠ q → S0 a = T0 a := fun a ha => by rw [hT0]; exact jup_ne ha
  have k0_0 := g0.cg (T' := S0) (V' := V0) (fun a ha hb => ⟨n0 a (by omega), rfl⟩)
  have f0 : jNw T V X S0 V0 X0 q := fun a ha => ⟨(n0 a (by omega)).trans (e0 a (by omega)).1, (e0 a (by omega)).2.1, (e0 a (by omega)).2.2⟩
  refine j_aload_n dX4_init_17 rfl ?_
  refine j_new dX4_init_18 hB nw_X4_9 (by decide) (by decide) ?_
  refine j_dup dX4_init_21 rfl ?_
  refine j_bipush (v := 60) dX4_init_22 (by decide) ?_
  refine j_cI dX4_init_24 hB mo_X3_init ml_X4_11 (sp_X3_init hB (cap := 60) jup_eq jz_row (by decide) (by decide)) rfl rfl ⟨rfl, rfl, by decide, by decide⟩ (Nat.le_of_ble_eq_true rfl) ⟨by decide, by decide⟩ (fun T1 V1 X1 sz1 h1 => ?_)
  obtain ⟨sz1', g1, w1⟩ := h1
  have z1 : sz1 = q + 5 := by omega
  subst z1
  have e1 : ∀ a, a < q + 3 → T1 a = S0 a ∧ V1 a = V0 a ∧ X1.1 a = X0.1 a ∧ X1.2 a = X0.2 a := fun a ha => by
    obtain ⟨w1, w2, w3, w4⟩ := w1 a ha
    exact ⟨w1.trans (jup_ne (by omega)), w2.trans (jz_ne (by omega)), w3.trans (jz_ne (by omega)), w4⟩
  have u1 : T1 q = some (.inl (4, [.inr (some (q + 1)), .inr none, .inr none, .inr none, .inl 0])) := (e1 q (by omega)).1.trans t0
  have y1 : V1 q = fun _ => 0 := (e1 q (by omega)).2.1.trans y0
  refine j_putr dX4_init_27 hB fp_X4_init_20 (Or.inl ⟨_, rfl⟩) (by first | exact u3 | exact u2 | exact u1 | exact u0 | exact t3) (by simp) ?_
  refine j_abT (fun S1 hT1 => ?_)
  have t1 : S1 q = some (.inl (4, [.inr (some (q + 1)), .inr (some (q + 3)), .inr none, .inr none, .inl 0])) := by rw [hT1]; exact jup_eq
  have n1 : ∀ a, a ≠ q → S1 a = T1 a := fun a ha => by rw [hT1]; exact jup_ne ha
  have k0_1 := k0_0.cg (T' := S1) (V' := V1) (fun a ha hb => ⟨(n1 a (by omega)).trans (e1 a (by omega)).1, (e1 a (by omega)).2.1⟩)
  have k1_1 := g1.cg (T' := S1) (V' := V1) (fun a ha hb => ⟨n1 a (by omega), rfl⟩)
  have f1 : jNw T V X S1 V1 X1 q := f0.tr (fun a ha => ⟨(n1 a (by omega)).trans (e1 a (by omega)).1, (e1 a (by omega)).2.1, (e1 a (by omega)).2.2⟩) (Nat.le_refl q)
  refine j_aload_n dX4_init_30 rfl ?_
  refine j_new dX4_init_31 hB nw_X4_9 (by decide) (by decide) ?_
  refine j_dup dX4_init_34 rfl ?_
  refine j_bipush (v := 60) dX4_init_35 (by decide) ?_
  refine j_cI dX4_init_37 hB mo_X3_init ml_X4_11 (sp_X3_init hB (cap := 60) jup_eq jz_row (by decide) (by decide)) rfl rfl ⟨rfl, rfl, by decide, by decide⟩ (Nat.le_of_ble_eq_true rfl) ⟨by decide, by decide⟩ (fun T2 V2 X2 sz2 h2 => ?_)
  obtain ⟨sz2', g2, w2⟩ := h2
  have z2 : sz2 = q + 7 := by omega
  subst z2
  have e2 : ∀ a, a < q + 5 → T2 a = S1 a ∧ V2 a = V1 a ∧ X2.1 a = X1.1 a ∧ X2.2 a = X1.2 a := fun a ha => by
    obtain ⟨w1, w2, w3, w4⟩ := w2 a ha
    exact ⟨w1.trans (jup_ne (by omega)), w2.trans (jz_ne (by omega)), w3.trans (jz_ne (by omega)), w4⟩
  have u2 : T2 q = some (.inl (4, [.inr (some (q + 1)), .inr (some (q + 3)), .inr none, .inr none, .inl 0])) := (e2 q (by omega)).1.trans t1
  have y2 : V2 q = fun _ => 0 := (e2 q (by omega)).2.1.trans y1
  refine j_putr dX4_init_40 hB fp_X4_init_23 (Or.inl ⟨_, rfl⟩) (by first | exact u3 | exact u2 | exact u1 | exact u0 | exact t3) (by simp) ?_
  refine j_abT (fun S2 hT2 => ?_)
  have t2 : S2 q = some (.inl (4, [.inr (some (q + 1)), .inr (some (q + 3)), .inr (some (q + 5)), .inr none, .inl 0])) := by rw [hT2]; exact jup_eq
  have n2 : ∀ a, a ≠ q → S2 a = T2 a := fun a ha => by rw [hT2]; exact jup_ne ha
  have k0_2 := k0_1.cg (T' := S2) (V' := V2) (fun a ha hb => ⟨(n2 a (by omega)).trans (e2 a (by omega)).1, (e2 a (by omega)).2.1⟩)
  have k1_2 := k1_1.cg (T' := S2) (V' := V2) (fun a ha hb => ⟨(n2 a (by omega)).trans (e2 a (by omega)).1, (e2 a (by omega)).2.1⟩)
  have k2_2 := g2.cg (T' := S2) (V' := V2) (fun a ha hb => ⟨n2 a (by omega), rfl⟩)
  have f2 : jNw T V X S2 V2 X2 q := f1.tr (fun a ha => ⟨(n2 a (by omega)).trans (e2 a (by omega)).1, (e2 a (by omega)).2.1, (e2 a (by omega)).2.2⟩) (Nat.le_refl q)
  refine j_aload_n dX4_init_43 rfl ?_
  refine j_new dX4_init_44 hB nw_X4_9 (by decide) (by decide) ?_
  refine j_dup dX4_init_47 rfl ?_
  refine j_bipush (v := 60) dX4_init_48 (by decide) ?_
  refine j_cI dX4_init_50 hB mo_X3_init ml_X4_11 (sp_X3_init hB (cap := 60) jup_eq jz_row (by decide) (by decide)) rfl rfl ⟨rfl, rfl, by decide, by decide⟩ (Nat.le_of_ble_eq_true rfl) ⟨by decide, by decide⟩ (fun T3 V3 X3 sz3 h3 => ?_)
  obtain ⟨sz3', g3, w3⟩ := h3
  have z3 : sz3 = q + 9 := by omega
  subst z3
  have e3 : ∀ a, a < q + 7 → T3 a = S2 a ∧ V3 a = V2 a ∧ X3.1 a = X2.1 a ∧ X3.2 a = X2.2 a := fun a ha => by
    obtain ⟨w1, w2, w3, w4⟩ := w3 a ha
    exact ⟨w1.trans (jup_ne (by omega)), w2.trans (jz_ne (by omega)), w3.trans (jz_ne (by omega)), w4⟩
  have u3 : T3 q = some (.inl (4, [.inr (some (q + 1)), .inr (some (q + 3)), .inr (some (q + 5)), .inr none, .inl 0])) := (e3 q (by omega)).1.trans t2
  have y3 : V3 q = fun _ => 0 := (e3 q (by omega)).2.1.trans y2
  refine j_putr dX4_init_53 hB fp_X4_init_26 (Or.inl ⟨_, rfl⟩) (by first | exact u3 | exact u2 | exact u1 | exact u0 | exact t3) (by simp) ?_
  refine j_abT (fun S3 hT3 => ?_)
  have t3 : S3 q = some (.inl (4, [.inr (some (q + 1)), .inr (some (q + 3)), .inr (some (q + 5)), .inr (some (q + 7)), .inl 0])) := by rw [hT3]; exact jup_eq
  have n3 : ∀ a, a ≠ q → S3 a = T3 a := fun a ha => by rw [hT3]; exact jup_ne ha
  have k0_3 := k0_2.cg (T' := S3) (V' := V3) (fun a ha hb => ⟨(n3 a (by omega)).trans (e3 a (by omega)).1, (e3 a (by omega)).2.1⟩)
  have k1_3 := k1_2.cg (T' := S3) (V' := V3) (fun a ha hb => ⟨(n3 a (by omega)).trans (e3 a (by omega)).1, (e3 a (by omega)).2.1⟩)
  have k2_3 := k2_2.cg (T' := S3) (V' := V3) (fun a ha hb => ⟨(n3 a (by omega)).trans (e3 a (by omega)).1, (e3 a (by omega)).2.1⟩)
  have k3_3 := g3.cg (T' := S3) (V' := V3) (fun a ha hb => ⟨n3 a (by omega), rfl⟩)
  have f3 : jNw T V X S3 V3 X3 q := f2.tr (fun a ha => ⟨(n3 a (by omega)).trans (e3 a (by omega)).1, (e3 a (by omega)).2.1, (e3 a (by omega)).2.2⟩) (Nat.le_refl q)
  refine j_vret dX4_init_56 rfl (by decide) (by decide) ?_
  exact ⟨rfl, rfl, ⟨t3, k0_3.1, k1_3.1, k2_3.1, k3_3.1⟩, f3⟩
set_option maxRecDepth 100000 in
set_option maxHeartbeats 4000000 in
theorem sp_X6_init (hB : jB l s0 D) {q : Nat} (ht : T q = some (.inl (6, [.inr none, .inr none, .inr none, .inr none, .inr none, .inr none, .inr none, .inl 0, .inl 0, .inl 0, .inl 0, .inl 0, .inl 0, .inl 0]))) (hv : V q = fun _ => 0) : Sp l s0 D kX6_init (jR 2 14 84) 14 84 [.ref q] T V X (q + 1) (qN (fun T' V' X' sz' => sz' = q + 15 ∧ TmK T' V' q ∧ jNw T V X T' V' X' q)) := by
  refine Sp.of pn_X6_init rfl (Nat.le_of_ble_eq_true rfl) ?_
  refine j_aload_n dX6_init_0 rfl ?_
  refine j_objInit dX6_init_1 hB ml_X6_3 oi_1 oi_2 (by decide) (Nat.le_of_ble_eq_true rfl) ?_
  refine j_aload_n dX6_init_4 rfl ?_
  refine j_new dX6_init_5 hB nw_X6_9 (by decide) (by decide) ?_
  refine j_dup dX6_init_8 rfl ?_
  refine j_bipush (v := 10) dX6_init_9 (by decide) ?_
  refine j_cI dX6_init_11 hB mo_X3_init ml_X6_11 (sp_X3_init hB (cap := 10) jup_eq jz_row (by decide) (by decide)) rfl rfl ⟨rfl, rfl, by decide, by decide⟩ (Nat.le_of_ble_eq_true rfl) ⟨by decide, by decide⟩ (fun T0 V0 X0 sz0 h0 => ?_)
  obtain ⟨sz0', g0, w0⟩ := h0
  have z0 : sz0 = q + 3 := by omega
  subst z0
  have e0 : ∀ a, a < q + 1 → T0 a = T a ∧ V0 a = V a ∧ X0.1 a = X.1 a ∧ X0.2 a = X.2 a := fun a ha => by
    obtain ⟨w1, w2, w3, w4⟩ := w0 a ha
    exact ⟨w1.trans (jup_ne (by omega)), w2.trans (jz_ne (by omega)), w3.trans (jz_ne (by omega)), w4⟩
  have u0 : T0 q = some (.inl (6, [.inr none, .inr none, .inr none, .inr none, .inr none, .inr none, .inr none, .inl 0, .inl 0, .inl 0, .inl 0, .inl 0, .inl 0, .inl 0])) := (e0 q (by omega)).1.trans ht
  have y0 : V0 q = fun _ => 0 := (e0 q (by omega)).2.1.trans hv
  refine j_putr dX6_init_14 hB fp_X6_init_14 (Or.inl ⟨_, rfl⟩) (by first | exact u6 | exact u5 | exact u4 | exact u3 | exact u2 | exact u1 | exact u0 | exact t6) (by simp) ?_
  refine j_abT (fun S0 hT0 => ?_)
  have t0 : S0 q = some (.inl (6, [.inr (some (q + 1)), .inr none, .inr none, .inr none, .inr none, .inr none, .inr none, .inl 0, .inl 0, .inl 0, .inl 0, .inl 0, .inl 0, .inl 0])) := by rw [hT0]; exact jup_eq
  have n0 : ∀ a, a ≠ q → S0 a = T0 a := fun a ha => by rw [hT0]; exact jup_ne ha
  have k0_0 := g0.cg (T' := S0) (V' := V0) (fun a ha hb => ⟨n0 a (by omega), rfl⟩)
  have f0 : jNw T V X S0 V0 X0 q := fun a ha => ⟨(n0 a (by omega)).trans (e0 a (by omega)).1, (e0 a (by omega)).2.1, (e0 a (by omega)).2.2⟩
  refine j_aload_n dX6_init_17 rfl ?_
  refine j_new dX6_init_18 hB nw_X6_9 (by decide) (by decide) ?_
  refine j_dup dX6_init_21 rfl ?_
  refine j_bipush (v := 10) dX6_init_22 (by decide) ?_
  refine j_cI dX6_init_24 hB mo_X3_init ml_X6_11 (sp_X3_init hB (cap := 10) jup_eq jz_row (by decide) (by decide)) rfl rfl ⟨rfl, rfl, by decide, by decide⟩ (Nat.le_of_ble_eq_true rfl) ⟨by decide, by decide⟩ (fun T1 V1 X1 sz1 h1 => ?_)
  obtain ⟨sz1', g1, w1⟩ := h1
  have z1 : sz1 = q + 5 := by omega
  subst z1
  have e1 : ∀ a, a < q + 3 → T1 a = S0 a ∧ V1 a = V0 a ∧ X1.1 a = X0.1 a ∧ X1.2 a = X0.2 a := fun a ha => by
    obtain ⟨w1, w2, w3, w4⟩ := w1 a ha
    exact ⟨w1.trans (jup_ne (by omega)), w2.trans (jz_ne (by omega)), w3.trans (jz_ne (by omega)), w4⟩
  have u1 : T1 q = some (.inl (6, [.inr (some (q + 1)), .inr none, .inr none, .inr none, .inr none, .inr none, .inr none, .inl 0, .inl 0, .inl 0, .inl 0, .inl 0, .inl 0, .inl 0])) := (e1 q (by omega)).1.trans t0
  have y1 : V1 q = fun _ => 0 := (e1 q (by omega)).2.1.trans y0
  refine j_putr dX6_init_27 hB fp_X6_init_20 (Or.inl ⟨_, rfl⟩) (by first | exact u6 | exact u5 | exact u4 | exact u3 | exact u2 | exact u1 | exact u0 | exact t6) (by simp) ?_
  refine j_abT (fun S1 hT1 => ?_)
  have t1 : S1 q = some (.inl (6, [.inr (some (q + 1)), .inr (some (q + 3)), .inr none, .inr none, .inr none, .inr none, .inr none, .inl 0, .inl 0, .inl 0, .inl 0, .inl 0, .inl 0, .inl 0])) := by rw [hT1]; exact jup_eq
  have n1 : ∀ a, a ≠ q → S1 a = T1 a := fun a ha => by rw [hT1]; exact jup_ne ha
  have k0_1 := k0_0.cg (T' := S1) (V' := V1) (fun a ha hb => ⟨(n1 a (by omega)).trans (e1 a (by omega)).1, (e1 a (by omega)).2.1⟩)
  have k1_1 := g1.cg (T' := S1) (V' := V1) (fun a ha hb => ⟨n1 a (by omega), rfl⟩)
  have f1 : jNw T V X S1 V1 X1 q := f0.tr (fun a ha => ⟨(n1 a (by omega)).trans (e1 a (by omega)).1, (e1 a (by omega)).2.1, (e1 a (by omega)).2.2⟩) (Nat.le_refl q)
  refine j_aload_n dX6_init_30 rfl ?_
  refine j_new dX6_init_31 hB nw_X6_9 (by decide) (by decide) ?_
  refine j_dup dX6_init_34 rfl ?_
  refine j_bipush (v := 10) dX6_init_35 (by decide) ?_
  refine j_cI dX6_init_37 hB mo_X3_init ml_X6_11 (sp_X3_init hB (cap := 10) jup_eq jz_row (by decide) (by decide)) rfl rfl ⟨rfl, rfl, by decide, by decide⟩ (Nat.le_of_ble_eq_true rfl) ⟨by decide, by decide⟩ (fun T2 V2 X2 sz2 h2 => ?_)
  obtain ⟨sz2', g2, w2⟩ := h2
  have z2 : sz2 = q + 7 := by omega
  subst z2
  have e2 : ∀ a, a < q + 5 → T2 a = S1 a ∧ V2 a = V1 a ∧ X2.1 a = X1.1 a ∧ X2.2 a = X1.2 a := fun a ha => by
    obtain ⟨w1, w2, w3, w4⟩ := w2 a ha
    exact ⟨w1.trans (jup_ne (by omega)), w2.trans (jz_ne (by omega)), w3.trans (jz_ne (by omega)), w4⟩
  have u2 : T2 q = some (.inl (6, [.inr (some (q + 1)), .inr (some (q + 3)), .inr none, .inr none, .inr none, .inr none, .inr none, .inl 0, .inl 0, .inl 0, .inl 0, .inl 0, .inl 0, .inl 0])) := (e2 q (by omega)).1.trans t1
  have y2 : V2 q = fun _ => 0 := (e2 q (by omega)).2.1.trans y1
  refine j_putr dX6_init_40 hB fp_X6_init_23 (Or.inl ⟨_, rfl⟩) (by first | exact u6 | exact u5 | exact u4 | exact u3 | exact u2 | exact u1 | exact u0 | exact t6) (by simp) ?_
  refine j_abT (fun S2 hT2 => ?_)
  have t2 : S2 q = some (.inl (6, [.inr (some (q + 1)), .inr (some (q + 3)), .inr (some (q + 5)), .inr none, .inr none, .inr none, .inr none, .inl 0, .inl 0, .inl 0, .inl 0, .inl 0, .inl 0, .inl 0])) := by rw [hT2]; exact jup_eq
  have n2 : ∀ a, a ≠ q → S2 a = T2 a := fun a ha => by rw [hT2]; exact jup_ne ha
  have k0_2 := k0_1.cg (T' := S2) (V' := V2) (fun a ha hb => ⟨(n2 a (by omega)).trans (e2 a (by omega)).1, (e2 a (by omega)).2.1⟩)
  have k1_2 := k1_1.cg (T' := S2) (V' := V2) (fun a ha hb => ⟨(n2 a (by omega)).trans (e2 a (by omega)).1, (e2 a (by omega)).2.1⟩)
  have k2_2 := g2.cg (T' := S2) (V' := V2) (fun a ha hb => ⟨n2 a (by omega), rfl⟩)
  have f2 : jNw T V X S2 V2 X2 q := f1.tr (fun a ha => ⟨(n2 a (by omega)).trans (e2 a (by omega)).1, (e2 a (by omega)).2.1, (e2 a (by omega)).2.2⟩) (Nat.le_refl q)
  refine j_aload_n dX6_init_43 rfl ?_
  refine j_new dX6_init_44 hB nw_X6_9 (by decide) (by decide) ?_
  refine j_dup dX6_init_47 rfl ?_
  refine j_bipush (v := 10) dX6_init_48 (by decide) ?_
  refine j_cI dX6_init_50 hB mo_X3_init ml_X6_11 (sp_X3_init hB (cap := 10) jup_eq jz_row (by decide) (by decide)) rfl rfl ⟨rfl, rfl, by decide, by decide⟩ (Nat.le_of_ble_eq_true rfl) ⟨by decide, by decide⟩ (fun T3 V3 X3 sz3 h3 => ?_)
  obtain ⟨sz3', g3, w3⟩ := h3
  have z3 : sz3 = q + 9 := by omega
  subst z3
  have e3 : ∀ a, a < q + 7 → T3 a = S2 a ∧ V3 a = V2 a ∧ X3.1 a = X2.1 a ∧ X3.2 a = X2.2 a := fun a ha => by
    obtain ⟨w1, w2, w3, w4⟩ := w3 a ha
    exact ⟨w1.trans (jup_ne (by omega)), w2.trans (jz_ne (by omega)), w3.trans (jz_ne (by omega)), w4⟩
  have u3 : T3 q = some (.inl (6, [.inr (some (q + 1)), .inr (some (q + 3)), .inr (some (q + 5)), .inr none, .inr none, .inr none, .inr none, .inl 0, .inl 0, .inl 0, .inl 0, .inl 0, .inl 0, .inl 0])) := (e3 q (by omega)).1.trans t2
  have y3 : V3 q = fun _ => 0 := (e3 q (by omega)).2.1.trans y2
  refine j_putr dX6_init_53 hB fp_X6_init_26 (Or.inl ⟨_, rfl⟩) (by first | exact u6 | exact u5 | exact u4 | exact u3 | exact u2 | exact u1 | exact u0 | exact t6) (by simp) ?_
  refine j_abT (fun S3 hT3 => ?_)
  have t3 : S3 q = some (.inl (6, [.inr (some (q + 1)), .inr (some (q + 3)), .inr (some (q + 5)), .inr (some (q + 7)), .inr none, .inr none, .inr none, .inl 0, .inl 0, .inl 0, .inl 0, .inl 0, .inl 0, .inl 0])) := by rw [hT3]; exact jup_eq
  have n3 : ∀ a, a ≠ q → S3 a = T3 a := fun a ha => by rw [hT3]; exact jup_ne ha
  have k0_3 := k0_2.cg (T' := S3) (V' := V3) (fun a ha hb => ⟨(n3 a (by omega)).trans (e3 a (by omega)).1, (e3 a (by omega)).2.1⟩)
  have k1_3 := k1_2.cg (T' := S3) (V' := V3) (fun a ha hb => ⟨(n3 a (by omega)).trans (e3 a (by omega)).1, (e3 a (by omega)).2.1⟩)
  have k2_3 := k2_2.cg (T' := S3) (V' := V3) (fun a ha hb => ⟨(n3 a (by omega)).trans (e3 a (by omega)).1, (e3 a (by omega)).2.1⟩)
  have k3_3 := g3.cg (T' := S3) (V' := V3) (fun a ha hb => ⟨n3 a (by omega), rfl⟩)
  have f3 : jNw T V X S3 V3 X3 q := f2.tr (fun a ha => ⟨(n3 a (by omega)).trans (e3 a (by omega)).1, (e3 a (by omega)).2.1, (e3 a (by omega)).2.2⟩) (Nat.le_refl q)
  refine j_aload_n dX6_init_56 rfl ?_
  refine j_new dX6_init_57 hB nw_X6_9 (by decide) (by decide) ?_
  refine j_dup dX6_init_60 rfl ?_
  refine j_bipush (v := 10) dX6_init_61 (by decide) ?_
  refine j_cI dX6_init_63 hB mo_X3_init ml_X6_11 (sp_X3_init hB (cap := 10) jup_eq jz_row (by decide) (by decide)) rfl rfl ⟨rfl, rfl, by decide, by decide⟩ (Nat.le_of_ble_eq_true rfl) ⟨by decide, by decide⟩ (fun T4 V4 X4 sz4 h4 => ?_)
  obtain ⟨sz4', g4, w4⟩ := h4
  have z4 : sz4 = q + 11 := by omega
  subst z4
  have e4 : ∀ a, a < q + 9 → T4 a = S3 a ∧ V4 a = V3 a ∧ X4.1 a = X3.1 a ∧ X4.2 a = X3.2 a := fun a ha => by
    obtain ⟨w1, w2, w3, w4⟩ := w4 a ha
    exact ⟨w1.trans (jup_ne (by omega)), w2.trans (jz_ne (by omega)), w3.trans (jz_ne (by omega)), w4⟩
  have u4 : T4 q = some (.inl (6, [.inr (some (q + 1)), .inr (some (q + 3)), .inr (some (q + 5)), .inr (some (q + 7)), .inr none, .inr none, .inr none, .inl 0, .inl 0, .inl 0, .inl 0, .inl 0, .inl 0, .inl 0])) := (e4 q (by omega)).1.trans t3
  have y4 : V4 q = fun _ => 0 := (e4 q (by omega)).2.1.trans y3
  refine j_putr dX6_init_66 hB fp_X6_init_29 (Or.inl ⟨_, rfl⟩) (by first | exact u6 | exact u5 | exact u4 | exact u3 | exact u2 | exact u1 | exact u0 | exact t6) (by simp) ?_
  refine j_abT (fun S4 hT4 => ?_)
  have t4 : S4 q = some (.inl (6, [.inr (some (q + 1)), .inr (some (q + 3)), .inr (some (q + 5)), .inr (some (q + 7)), .inr (some (q + 9)), .inr none, .inr none, .inl 0, .inl 0, .inl 0, .inl 0, .inl 0, .inl 0, .inl 0])) := by rw [hT4]; exact jup_eq
  have n4 : ∀ a, a ≠ q → S4 a = T4 a := fun a ha => by rw [hT4]; exact jup_ne ha
  have k0_4 := k0_3.cg (T' := S4) (V' := V4) (fun a ha hb => ⟨(n4 a (by omega)).trans (e4 a (by omega)).1, (e4 a (by omega)).2.1⟩)
  have k1_4 := k1_3.cg (T' := S4) (V' := V4) (fun a ha hb => ⟨(n4 a (by omega)).trans (e4 a (by omega)).1, (e4 a (by omega)).2.1⟩)
  have k2_4 := k2_3.cg (T' := S4) (V' := V4) (fun a ha hb => ⟨(n4 a (by omega)).trans (e4 a (by omega)).1, (e4 a (by omega)).2.1⟩)
  have k3_4 := k3_3.cg (T' := S4) (V' := V4) (fun a ha hb => ⟨(n4 a (by omega)).trans (e4 a (by omega)).1, (e4 a (by omega)).2.1⟩)
  have k4_4 := g4.cg (T' := S4) (V' := V4) (fun a ha hb => ⟨n4 a (by omega), rfl⟩)
  have f4 : jNw T V X S4 V4 X4 q := f3.tr (fun a ha => ⟨(n4 a (by omega)).trans (e4 a (by omega)).1, (e4 a (by omega)).2.1, (e4 a (by omega)).2.2⟩) (Nat.le_refl q)
  refine j_aload_n dX6_init_69 rfl ?_
  refine j_new dX6_init_70 hB nw_X6_9 (by decide) (by decide) ?_
  refine j_dup dX6_init_73 rfl ?_
  refine j_bipush (v := 10) dX6_init_74 (by decide) ?_
  refine j_cI dX6_init_76 hB mo_X3_init ml_X6_11 (sp_X3_init hB (cap := 10) jup_eq jz_row (by decide) (by decide)) rfl rfl ⟨rfl, rfl, by decide, by decide⟩ (Nat.le_of_ble_eq_true rfl) ⟨by decide, by decide⟩ (fun T5 V5 X5 sz5 h5 => ?_)
  obtain ⟨sz5', g5, w5⟩ := h5
  have z5 : sz5 = q + 13 := by omega
  subst z5
  have e5 : ∀ a, a < q + 11 → T5 a = S4 a ∧ V5 a = V4 a ∧ X5.1 a = X4.1 a ∧ X5.2 a = X4.2 a := fun a ha => by
    obtain ⟨w1, w2, w3, w4⟩ := w5 a ha
    exact ⟨w1.trans (jup_ne (by omega)), w2.trans (jz_ne (by omega)), w3.trans (jz_ne (by omega)), w4⟩
  have u5 : T5 q = some (.inl (6, [.inr (some (q + 1)), .inr (some (q + 3)), .inr (some (q + 5)), .inr (some (q + 7)), .inr (some (q + 9)), .inr none, .inr none, .inl 0, .inl 0, .inl 0, .inl 0, .inl 0, .inl 0, .inl 0])) := (e5 q (by omega)).1.trans t4
  have y5 : V5 q = fun _ => 0 := (e5 q (by omega)).2.1.trans y4
  refine j_putr dX6_init_79 hB fp_X6_init_32 (Or.inl ⟨_, rfl⟩) (by first | exact u6 | exact u5 | exact u4 | exact u3 | exact u2 | exact u1 | exact u0 | exact t6) (by simp) ?_
  refine j_abT (fun S5 hT5 => ?_)
  have t5 : S5 q = some (.inl (6, [.inr (some (q + 1)), .inr (some (q + 3)), .inr (some (q + 5)), .inr (some (q + 7)), .inr (some (q + 9)), .inr (some (q + 11)), .inr none, .inl 0, .inl 0, .inl 0, .inl 0, .inl 0, .inl 0, .inl 0])) := by rw [hT5]; exact jup_eq
  have n5 : ∀ a, a ≠ q → S5 a = T5 a := fun a ha => by rw [hT5]; exact jup_ne ha
  have k0_5 := k0_4.cg (T' := S5) (V' := V5) (fun a ha hb => ⟨(n5 a (by omega)).trans (e5 a (by omega)).1, (e5 a (by omega)).2.1⟩)
  have k1_5 := k1_4.cg (T' := S5) (V' := V5) (fun a ha hb => ⟨(n5 a (by omega)).trans (e5 a (by omega)).1, (e5 a (by omega)).2.1⟩)
  have k2_5 := k2_4.cg (T' := S5) (V' := V5) (fun a ha hb => ⟨(n5 a (by omega)).trans (e5 a (by omega)).1, (e5 a (by omega)).2.1⟩)
  have k3_5 := k3_4.cg (T' := S5) (V' := V5) (fun a ha hb => ⟨(n5 a (by omega)).trans (e5 a (by omega)).1, (e5 a (by omega)).2.1⟩)
  have k4_5 := k4_4.cg (T' := S5) (V' := V5) (fun a ha hb => ⟨(n5 a (by omega)).trans (e5 a (by omega)).1, (e5 a (by omega)).2.1⟩)
  have k5_5 := g5.cg (T' := S5) (V' := V5) (fun a ha hb => ⟨n5 a (by omega), rfl⟩)
  have f5 : jNw T V X S5 V5 X5 q := f4.tr (fun a ha => ⟨(n5 a (by omega)).trans (e5 a (by omega)).1, (e5 a (by omega)).2.1, (e5 a (by omega)).2.2⟩) (Nat.le_refl q)
  refine j_aload_n dX6_init_82 rfl ?_
  refine j_new dX6_init_83 hB nw_X6_9 (by decide) (by decide) ?_
  refine j_dup dX6_init_86 rfl ?_
  refine j_bipush (v := 10) dX6_init_87 (by decide) ?_
  refine j_cI dX6_init_89 hB mo_X3_init ml_X6_11 (sp_X3_init hB (cap := 10) jup_eq jz_row (by decide) (by decide)) rfl rfl ⟨rfl, rfl, by decide, by decide⟩ (Nat.le_of_ble_eq_true rfl) ⟨by decide, by decide⟩ (fun T6 V6 X6 sz6 h6 => ?_)
  obtain ⟨sz6', g6, w6⟩ := h6
  have z6 : sz6 = q + 15 := by omega
  subst z6
  have e6 : ∀ a, a < q + 13 → T6 a = S5 a ∧ V6 a = V5 a ∧ X6.1 a = X5.1 a ∧ X6.2 a = X5.2 a := fun a ha => by
    obtain ⟨w1, w2, w3, w4⟩ := w6 a ha
    exact ⟨w1.trans (jup_ne (by omega)), w2.trans (jz_ne (by omega)), w3.trans (jz_ne (by omega)), w4⟩
  have u6 : T6 q = some (.inl (6, [.inr (some (q + 1)), .inr (some (q + 3)), .inr (some (q + 5)), .inr (some (q + 7)), .inr (some (q + 9)), .inr (some (q + 11)), .inr none, .inl 0, .inl 0, .inl 0, .inl 0, .inl 0, .inl 0, .inl 0])) := (e6 q (by omega)).1.trans t5
  have y6 : V6 q = fun _ => 0 := (e6 q (by omega)).2.1.trans y5
  refine j_putr dX6_init_92 hB fp_X6_init_35 (Or.inl ⟨_, rfl⟩) (by first | exact u6 | exact u5 | exact u4 | exact u3 | exact u2 | exact u1 | exact u0 | exact t6) (by simp) ?_
  refine j_abT (fun S6 hT6 => ?_)
  have t6 : S6 q = some (.inl (6, [.inr (some (q + 1)), .inr (some (q + 3)), .inr (some (q + 5)), .inr (some (q + 7)), .inr (some (q + 9)), .inr (some (q + 11)), .inr (some (q + 13)), .inl 0, .inl 0, .inl 0, .inl 0, .inl 0, .inl 0, .inl 0])) := by rw [hT6]; exact jup_eq
  have n6 : ∀ a, a ≠ q → S6 a = T6 a := fun a ha => by rw [hT6]; exact jup_ne ha
  have k0_6 := k0_5.cg (T' := S6) (V' := V6) (fun a ha hb => ⟨(n6 a (by omega)).trans (e6 a (by omega)).1, (e6 a (by omega)).2.1⟩)
  have k1_6 := k1_5.cg (T' := S6) (V' := V6) (fun a ha hb => ⟨(n6 a (by omega)).trans (e6 a (by omega)).1, (e6 a (by omega)).2.1⟩)
  have k2_6 := k2_5.cg (T' := S6) (V' := V6) (fun a ha hb => ⟨(n6 a (by omega)).trans (e6 a (by omega)).1, (e6 a (by omega)).2.1⟩)
  have k3_6 := k3_5.cg (T' := S6) (V' := V6) (fun a ha hb => ⟨(n6 a (by omega)).trans (e6 a (by omega)).1, (e6 a (by omega)).2.1⟩)
  have k4_6 := k4_5.cg (T' := S6) (V' := V6) (fun a ha hb => ⟨(n6 a (by omega)).trans (e6 a (by omega)).1, (e6 a (by omega)).2.1⟩)
  have k5_6 := k5_5.cg (T' := S6) (V' := V6) (fun a ha hb => ⟨(n6 a (by omega)).trans (e6 a (by omega)).1, (e6 a (by omega)).2.1⟩)
  have k6_6 := g6.cg (T' := S6) (V' := V6) (fun a ha hb => ⟨n6 a (by omega), rfl⟩)
  have f6 : jNw T V X S6 V6 X6 q := f5.tr (fun a ha => ⟨(n6 a (by omega)).trans (e6 a (by omega)).1, (e6 a (by omega)).2.1, (e6 a (by omega)).2.2⟩) (Nat.le_refl q)
  refine j_vret dX6_init_95 rfl (by decide) (by decide) ?_
  exact ⟨rfl, rfl, ⟨t6, k0_6.1, k1_6.1, k2_6.1, k3_6.1, k4_6.1, k5_6.1, k6_6.1⟩, f6⟩
set_option maxRecDepth 100000 in
set_option maxHeartbeats 4000000 in
theorem sp_X2_init (hB : jB l s0 D) {q : Nat} (ht : T q = some (.inl (2, [.inr none, .inr none, .inr none, .inr none, .inr none, .inr none]))) (hv : V q = fun _ => 0) : Sp l s0 D kX2_init (jR 3 18 84) 18 84 [.ref q] T V X (q + 1) (qN (fun T' V' X' sz' => sz' = q + 19 ∧ ReelOK T' V' q rl0 ∧ jNw T V X T' V' X' q)) := by
  refine Sp.of pn_X2_init rfl (Nat.le_of_ble_eq_true rfl) ?_
  refine j_aload_n dX2_init_0 rfl ?_
  refine j_objInit dX2_init_1 hB ml_X2_3 oi_1 oi_2 (by decide) (Nat.le_of_ble_eq_true rfl) ?_
  refine j_aload_n dX2_init_4 rfl ?_
  refine j_new dX2_init_5 hB nw_X2_9 (by decide) (by decide) ?_
  refine j_dup dX2_init_8 rfl ?_
  refine j_bipush (v := 10) dX2_init_9 (by decide) ?_
  refine j_cI dX2_init_11 hB mo_X3_init ml_X2_11 (sp_X3_init hB (cap := 10) jup_eq jz_row (by decide) (by decide)) rfl rfl ⟨rfl, rfl, by decide, by decide⟩ (Nat.le_of_ble_eq_true rfl) ⟨by decide, by decide⟩ (fun T0 V0 X0 sz0 h0 => ?_)
  obtain ⟨sz0', g0, w0⟩ := h0
  have z0 : sz0 = q + 3 := by omega
  subst z0
  have e0 : ∀ a, a < q + 1 → T0 a = T a ∧ V0 a = V a ∧ X0.1 a = X.1 a ∧ X0.2 a = X.2 a := fun a ha => by
    obtain ⟨w1, w2, w3, w4⟩ := w0 a ha
    exact ⟨w1.trans (jup_ne (by omega)), w2.trans (jz_ne (by omega)), w3.trans (jz_ne (by omega)), w4⟩
  have u0 : T0 q = some (.inl (2, [.inr none, .inr none, .inr none, .inr none, .inr none, .inr none])) := (e0 q (by omega)).1.trans ht
  have y0 : V0 q = fun _ => 0 := (e0 q (by omega)).2.1.trans hv
  refine j_putr dX2_init_14 hB fp_X2_init_14 (Or.inl ⟨_, rfl⟩) (by first | exact u5 | exact u4 | exact u3 | exact u2 | exact u1 | exact u0 | exact t5) (by simp) ?_
  refine j_abT (fun S0 hT0 => ?_)
  have t0 : S0 q = some (.inl (2, [.inr (some (q + 1)), .inr none, .inr none, .inr none, .inr none, .inr none])) := by rw [hT0]; exact jup_eq
  have n0 : ∀ a, a ≠ q → S0 a = T0 a := fun a ha => by rw [hT0]; exact jup_ne ha
  have k0_0 := g0.cg (T' := S0) (V' := V0) (fun a ha hb => ⟨n0 a (by omega), rfl⟩)
  have f0 : jNw T V X S0 V0 X0 q := fun a ha => ⟨(n0 a (by omega)).trans (e0 a (by omega)).1, (e0 a (by omega)).2.1, (e0 a (by omega)).2.2⟩
  refine j_aload_n dX2_init_17 rfl ?_
  refine j_new dX2_init_18 hB nw_X2_9 (by decide) (by decide) ?_
  refine j_dup dX2_init_21 rfl ?_
  refine j_bipush (v := 10) dX2_init_22 (by decide) ?_
  refine j_cI dX2_init_24 hB mo_X3_init ml_X2_11 (sp_X3_init hB (cap := 10) jup_eq jz_row (by decide) (by decide)) rfl rfl ⟨rfl, rfl, by decide, by decide⟩ (Nat.le_of_ble_eq_true rfl) ⟨by decide, by decide⟩ (fun T1 V1 X1 sz1 h1 => ?_)
  obtain ⟨sz1', g1, w1⟩ := h1
  have z1 : sz1 = q + 5 := by omega
  subst z1
  have e1 : ∀ a, a < q + 3 → T1 a = S0 a ∧ V1 a = V0 a ∧ X1.1 a = X0.1 a ∧ X1.2 a = X0.2 a := fun a ha => by
    obtain ⟨w1, w2, w3, w4⟩ := w1 a ha
    exact ⟨w1.trans (jup_ne (by omega)), w2.trans (jz_ne (by omega)), w3.trans (jz_ne (by omega)), w4⟩
  have u1 : T1 q = some (.inl (2, [.inr (some (q + 1)), .inr none, .inr none, .inr none, .inr none, .inr none])) := (e1 q (by omega)).1.trans t0
  have y1 : V1 q = fun _ => 0 := (e1 q (by omega)).2.1.trans y0
  refine j_putr dX2_init_27 hB fp_X2_init_20 (Or.inl ⟨_, rfl⟩) (by first | exact u5 | exact u4 | exact u3 | exact u2 | exact u1 | exact u0 | exact t5) (by simp) ?_
  refine j_abT (fun S1 hT1 => ?_)
  have t1 : S1 q = some (.inl (2, [.inr (some (q + 1)), .inr (some (q + 3)), .inr none, .inr none, .inr none, .inr none])) := by rw [hT1]; exact jup_eq
  have n1 : ∀ a, a ≠ q → S1 a = T1 a := fun a ha => by rw [hT1]; exact jup_ne ha
  have k0_1 := k0_0.cg (T' := S1) (V' := V1) (fun a ha hb => ⟨(n1 a (by omega)).trans (e1 a (by omega)).1, (e1 a (by omega)).2.1⟩)
  have k1_1 := g1.cg (T' := S1) (V' := V1) (fun a ha hb => ⟨n1 a (by omega), rfl⟩)
  have f1 : jNw T V X S1 V1 X1 q := f0.tr (fun a ha => ⟨(n1 a (by omega)).trans (e1 a (by omega)).1, (e1 a (by omega)).2.1, (e1 a (by omega)).2.2⟩) (Nat.le_refl q)
  refine j_aload_n dX2_init_30 rfl ?_
  refine j_new dX2_init_31 hB nw_X2_9 (by decide) (by decide) ?_
  refine j_dup dX2_init_34 rfl ?_
  refine j_bipush (v := 10) dX2_init_35 (by decide) ?_
  refine j_cI dX2_init_37 hB mo_X3_init ml_X2_11 (sp_X3_init hB (cap := 10) jup_eq jz_row (by decide) (by decide)) rfl rfl ⟨rfl, rfl, by decide, by decide⟩ (Nat.le_of_ble_eq_true rfl) ⟨by decide, by decide⟩ (fun T2 V2 X2 sz2 h2 => ?_)
  obtain ⟨sz2', g2, w2⟩ := h2
  have z2 : sz2 = q + 7 := by omega
  subst z2
  have e2 : ∀ a, a < q + 5 → T2 a = S1 a ∧ V2 a = V1 a ∧ X2.1 a = X1.1 a ∧ X2.2 a = X1.2 a := fun a ha => by
    obtain ⟨w1, w2, w3, w4⟩ := w2 a ha
    exact ⟨w1.trans (jup_ne (by omega)), w2.trans (jz_ne (by omega)), w3.trans (jz_ne (by omega)), w4⟩
  have u2 : T2 q = some (.inl (2, [.inr (some (q + 1)), .inr (some (q + 3)), .inr none, .inr none, .inr none, .inr none])) := (e2 q (by omega)).1.trans t1
  have y2 : V2 q = fun _ => 0 := (e2 q (by omega)).2.1.trans y1
  refine j_putr dX2_init_40 hB fp_X2_init_23 (Or.inl ⟨_, rfl⟩) (by first | exact u5 | exact u4 | exact u3 | exact u2 | exact u1 | exact u0 | exact t5) (by simp) ?_
  refine j_abT (fun S2 hT2 => ?_)
  have t2 : S2 q = some (.inl (2, [.inr (some (q + 1)), .inr (some (q + 3)), .inr (some (q + 5)), .inr none, .inr none, .inr none])) := by rw [hT2]; exact jup_eq
  have n2 : ∀ a, a ≠ q → S2 a = T2 a := fun a ha => by rw [hT2]; exact jup_ne ha
  have k0_2 := k0_1.cg (T' := S2) (V' := V2) (fun a ha hb => ⟨(n2 a (by omega)).trans (e2 a (by omega)).1, (e2 a (by omega)).2.1⟩)
  have k1_2 := k1_1.cg (T' := S2) (V' := V2) (fun a ha hb => ⟨(n2 a (by omega)).trans (e2 a (by omega)).1, (e2 a (by omega)).2.1⟩)
  have k2_2 := g2.cg (T' := S2) (V' := V2) (fun a ha hb => ⟨n2 a (by omega), rfl⟩)
  have f2 : jNw T V X S2 V2 X2 q := f1.tr (fun a ha => ⟨(n2 a (by omega)).trans (e2 a (by omega)).1, (e2 a (by omega)).2.1, (e2 a (by omega)).2.2⟩) (Nat.le_refl q)
  refine j_aload_n dX2_init_43 rfl ?_
  refine j_new dX2_init_44 hB nw_X2_9 (by decide) (by decide) ?_
  refine j_dup dX2_init_47 rfl ?_
  refine j_bipush (v := 10) dX2_init_48 (by decide) ?_
  refine j_cI dX2_init_50 hB mo_X3_init ml_X2_11 (sp_X3_init hB (cap := 10) jup_eq jz_row (by decide) (by decide)) rfl rfl ⟨rfl, rfl, by decide, by decide⟩ (Nat.le_of_ble_eq_true rfl) ⟨by decide, by decide⟩ (fun T3 V3 X3 sz3 h3 => ?_)
  obtain ⟨sz3', g3, w3⟩ := h3
  have z3 : sz3 = q + 9 := by omega
  subst z3
  have e3 : ∀ a, a < q + 7 → T3 a = S2 a ∧ V3 a = V2 a ∧ X3.1 a = X2.1 a ∧ X3.2 a = X2.2 a := fun a ha => by
    obtain ⟨w1, w2, w3, w4⟩ := w3 a ha
    exact ⟨w1.trans (jup_ne (by omega)), w2.trans (jz_ne (by omega)), w3.trans (jz_ne (by omega)), w4⟩
  have u3 : T3 q = some (.inl (2, [.inr (some (q + 1)), .inr (some (q + 3)), .inr (some (q + 5)), .inr none, .inr none, .inr none])) := (e3 q (by omega)).1.trans t2
  have y3 : V3 q = fun _ => 0 := (e3 q (by omega)).2.1.trans y2
  refine j_putr dX2_init_53 hB fp_X2_init_26 (Or.inl ⟨_, rfl⟩) (by first | exact u5 | exact u4 | exact u3 | exact u2 | exact u1 | exact u0 | exact t5) (by simp) ?_
  refine j_abT (fun S3 hT3 => ?_)
  have t3 : S3 q = some (.inl (2, [.inr (some (q + 1)), .inr (some (q + 3)), .inr (some (q + 5)), .inr (some (q + 7)), .inr none, .inr none])) := by rw [hT3]; exact jup_eq
  have n3 : ∀ a, a ≠ q → S3 a = T3 a := fun a ha => by rw [hT3]; exact jup_ne ha
  have k0_3 := k0_2.cg (T' := S3) (V' := V3) (fun a ha hb => ⟨(n3 a (by omega)).trans (e3 a (by omega)).1, (e3 a (by omega)).2.1⟩)
  have k1_3 := k1_2.cg (T' := S3) (V' := V3) (fun a ha hb => ⟨(n3 a (by omega)).trans (e3 a (by omega)).1, (e3 a (by omega)).2.1⟩)
  have k2_3 := k2_2.cg (T' := S3) (V' := V3) (fun a ha hb => ⟨(n3 a (by omega)).trans (e3 a (by omega)).1, (e3 a (by omega)).2.1⟩)
  have k3_3 := g3.cg (T' := S3) (V' := V3) (fun a ha hb => ⟨n3 a (by omega), rfl⟩)
  have f3 : jNw T V X S3 V3 X3 q := f2.tr (fun a ha => ⟨(n3 a (by omega)).trans (e3 a (by omega)).1, (e3 a (by omega)).2.1, (e3 a (by omega)).2.2⟩) (Nat.le_refl q)
  refine j_aload_n dX2_init_56 rfl ?_
  refine j_new dX2_init_57 hB nw_X2_29 (by decide) (by decide) ?_
  refine j_dup dX2_init_60 rfl ?_
  refine j_cI dX2_init_61 hB mo_X1_init ml_X2_31 (sp_X1_init hB jup_eq jz_row) rfl rfl ⟨rfl, rfl, by decide, by decide⟩ (Nat.le_of_ble_eq_true rfl) ⟨by decide, by decide⟩ (fun T4 V4 X4 sz4 h4 => ?_)
  obtain ⟨sz4', g4, w4⟩ := h4
  have z4 : sz4 = q + 14 := by omega
  subst z4
  have e4 : ∀ a, a < q + 9 → T4 a = S3 a ∧ V4 a = V3 a ∧ X4.1 a = X3.1 a ∧ X4.2 a = X3.2 a := fun a ha => by
    obtain ⟨w1, w2, w3, w4⟩ := w4 a ha
    exact ⟨w1.trans (jup_ne (by omega)), w2.trans (jz_ne (by omega)), w3.trans (jz_ne (by omega)), w4⟩
  have u4 : T4 q = some (.inl (2, [.inr (some (q + 1)), .inr (some (q + 3)), .inr (some (q + 5)), .inr (some (q + 7)), .inr none, .inr none])) := (e4 q (by omega)).1.trans t3
  have y4 : V4 q = fun _ => 0 := (e4 q (by omega)).2.1.trans y3
  refine j_putr dX2_init_64 hB fp_X2_init_32 (Or.inl ⟨_, rfl⟩) (by first | exact u5 | exact u4 | exact u3 | exact u2 | exact u1 | exact u0 | exact t5) (by simp) ?_
  refine j_abT (fun S4 hT4 => ?_)
  have t4 : S4 q = some (.inl (2, [.inr (some (q + 1)), .inr (some (q + 3)), .inr (some (q + 5)), .inr (some (q + 7)), .inr (some (q + 9)), .inr none])) := by rw [hT4]; exact jup_eq
  have n4 : ∀ a, a ≠ q → S4 a = T4 a := fun a ha => by rw [hT4]; exact jup_ne ha
  have k0_4 := k0_3.cg (T' := S4) (V' := V4) (fun a ha hb => ⟨(n4 a (by omega)).trans (e4 a (by omega)).1, (e4 a (by omega)).2.1⟩)
  have k1_4 := k1_3.cg (T' := S4) (V' := V4) (fun a ha hb => ⟨(n4 a (by omega)).trans (e4 a (by omega)).1, (e4 a (by omega)).2.1⟩)
  have k2_4 := k2_3.cg (T' := S4) (V' := V4) (fun a ha hb => ⟨(n4 a (by omega)).trans (e4 a (by omega)).1, (e4 a (by omega)).2.1⟩)
  have k3_4 := k3_3.cg (T' := S4) (V' := V4) (fun a ha hb => ⟨(n4 a (by omega)).trans (e4 a (by omega)).1, (e4 a (by omega)).2.1⟩)
  have k4_4 := g4.cg (T' := S4) (V' := V4) (fun a ha hb => ⟨n4 a (by omega), rfl⟩)
  have f4 : jNw T V X S4 V4 X4 q := f3.tr (fun a ha => ⟨(n4 a (by omega)).trans (e4 a (by omega)).1, (e4 a (by omega)).2.1, (e4 a (by omega)).2.2⟩) (Nat.le_refl q)
  refine j_aload_n dX2_init_67 rfl ?_
  refine j_new dX2_init_68 hB nw_X2_29 (by decide) (by decide) ?_
  refine j_dup dX2_init_71 rfl ?_
  refine j_cI dX2_init_72 hB mo_X1_init ml_X2_31 (sp_X1_init hB jup_eq jz_row) rfl rfl ⟨rfl, rfl, by decide, by decide⟩ (Nat.le_of_ble_eq_true rfl) ⟨by decide, by decide⟩ (fun T5 V5 X5 sz5 h5 => ?_)
  obtain ⟨sz5', g5, w5⟩ := h5
  have z5 : sz5 = q + 19 := by omega
  subst z5
  have e5 : ∀ a, a < q + 14 → T5 a = S4 a ∧ V5 a = V4 a ∧ X5.1 a = X4.1 a ∧ X5.2 a = X4.2 a := fun a ha => by
    obtain ⟨w1, w2, w3, w4⟩ := w5 a ha
    exact ⟨w1.trans (jup_ne (by omega)), w2.trans (jz_ne (by omega)), w3.trans (jz_ne (by omega)), w4⟩
  have u5 : T5 q = some (.inl (2, [.inr (some (q + 1)), .inr (some (q + 3)), .inr (some (q + 5)), .inr (some (q + 7)), .inr (some (q + 9)), .inr none])) := (e5 q (by omega)).1.trans t4
  have y5 : V5 q = fun _ => 0 := (e5 q (by omega)).2.1.trans y4
  refine j_putr dX2_init_75 hB fp_X2_init_36 (Or.inl ⟨_, rfl⟩) (by first | exact u5 | exact u4 | exact u3 | exact u2 | exact u1 | exact u0 | exact t5) (by simp) ?_
  refine j_abT (fun S5 hT5 => ?_)
  have t5 : S5 q = some (.inl (2, [.inr (some (q + 1)), .inr (some (q + 3)), .inr (some (q + 5)), .inr (some (q + 7)), .inr (some (q + 9)), .inr (some (q + 14))])) := by rw [hT5]; exact jup_eq
  have n5 : ∀ a, a ≠ q → S5 a = T5 a := fun a ha => by rw [hT5]; exact jup_ne ha
  have k0_5 := k0_4.cg (T' := S5) (V' := V5) (fun a ha hb => ⟨(n5 a (by omega)).trans (e5 a (by omega)).1, (e5 a (by omega)).2.1⟩)
  have k1_5 := k1_4.cg (T' := S5) (V' := V5) (fun a ha hb => ⟨(n5 a (by omega)).trans (e5 a (by omega)).1, (e5 a (by omega)).2.1⟩)
  have k2_5 := k2_4.cg (T' := S5) (V' := V5) (fun a ha hb => ⟨(n5 a (by omega)).trans (e5 a (by omega)).1, (e5 a (by omega)).2.1⟩)
  have k3_5 := k3_4.cg (T' := S5) (V' := V5) (fun a ha hb => ⟨(n5 a (by omega)).trans (e5 a (by omega)).1, (e5 a (by omega)).2.1⟩)
  have k4_5 := k4_4.cg (T' := S5) (V' := V5) (fun a ha hb => ⟨(n5 a (by omega)).trans (e5 a (by omega)).1, (e5 a (by omega)).2.1⟩)
  have k5_5 := g5.cg (T' := S5) (V' := V5) (fun a ha hb => ⟨n5 a (by omega), rfl⟩)
  have f5 : jNw T V X S5 V5 X5 q := f4.tr (fun a ha => ⟨(n5 a (by omega)).trans (e5 a (by omega)).1, (e5 a (by omega)).2.1, (e5 a (by omega)).2.2⟩) (Nat.le_refl q)
  refine j_aload_n dX2_init_78 rfl ?_
  refine j_getr dX2_init_79 hB fl_X2_32 (by first | exact u5 | exact u4 | exact u3 | exact u2 | exact u1 | exact u0 | exact t5) (by rfl) ?_
  refine j_iconst (v := 0) dX2_init_82 (by decide) ?_
  refine j_bipush (v := 16) dX2_init_83 (by decide) ?_
  refine j_cVu dX2_init_85 hB mo_X1_mark ml_X2_39 (sp_X1_mark hB k4_5 (Or.inl (by decide))) (by exact k4_5.1) rfl rfl rfl rfl ⟨rfl, rfl, by decide, by decide⟩ (Nat.le_of_ble_eq_true rfl) ⟨by decide, by decide⟩ (fun V_85 h_85 => ?_)
  obtain ⟨g7, a7⟩ := h_85
  refine j_vret dX2_init_88 rfl (by decide) (by decide) ?_
  have ea : ∀ a, a < q + 9 → V_85 a = V5 a := fun a ha => a7 a (Or.inl ha)
  exact ⟨rfl, rfl, ⟨t5, k0_5.1.ag a7 (by omega), k1_5.1.ag a7 (by omega), k2_5.1.ag a7 (by omega), k3_5.1.ag a7 (by omega), g7, k5_5.ag a7 (by omega), by rw [Rw_ag a7 (by omega)]; exact k0_5.2, by rw [Rw_ag a7 (by omega)]; exact k1_5.2, by rw [Rw_ag a7 (by omega)]; exact k2_5.2, by rw [Rw_ag a7 (by omega)]; exact k3_5.2⟩, fun a ha => ⟨(f5 a ha).1, (ea a (by omega)).trans (f5 a ha).2.1, (f5 a ha).2.2⟩⟩
set_option maxRecDepth 100000 in
set_option maxHeartbeats 4000000 in
theorem sp_X5_init (hB : jB l s0 D) {q : Nat} (ht : T q = some (.inl (5, [.inr none, .inr none, .inr none, .inr none, .inr none, .inr none, .inl 0, .inl 0]))) (hv : V q = fun _ => 0) : Sp l s0 D kX5_init (jR 4 63 300) 63 300 [.ref q] T V X (q + 1) (qN (fun T' V' X' sz' => sz' = q + 64 ∧ StOK T' V' q st0 ∧ jNw T V X T' V' X' q)) := by
  refine Sp.of pn_X5_init rfl (Nat.le_of_ble_eq_true rfl) ?_
  refine j_aload_n dX5_init_0 rfl ?_
  refine j_objInit dX5_init_1 hB ml_X5_3 oi_1 oi_2 (by decide) (Nat.le_of_ble_eq_true rfl) ?_
  refine j_aload_n dX5_init_4 rfl ?_
  refine j_new dX5_init_5 hB nw_X5_9 (by decide) (by decide) ?_
  refine j_dup dX5_init_8 rfl ?_
  refine j_cI dX5_init_9 hB mo_X2_init ml_X5_11 (sp_X2_init hB jup_eq jz_row) rfl rfl ⟨rfl, rfl, by decide, by decide⟩ (Nat.le_of_ble_eq_true rfl) ⟨by decide, by decide⟩ (fun T0 V0 X0 sz0 h0 => ?_)
  obtain ⟨sz0', g0, w0⟩ := h0
  have z0 : sz0 = q + 20 := by omega
  subst z0
  have e0 : ∀ a, a < q + 1 → T0 a = T a ∧ V0 a = V a ∧ X0.1 a = X.1 a ∧ X0.2 a = X.2 a := fun a ha => by
    obtain ⟨w1, w2, w3, w4⟩ := w0 a ha
    exact ⟨w1.trans (jup_ne (by omega)), w2.trans (jz_ne (by omega)), w3.trans (jz_ne (by omega)), w4⟩
  have u0 : T0 q = some (.inl (5, [.inr none, .inr none, .inr none, .inr none, .inr none, .inr none, .inl 0, .inl 0])) := (e0 q (by omega)).1.trans ht
  have y0 : V0 q = fun _ => 0 := (e0 q (by omega)).2.1.trans hv
  refine j_putr dX5_init_12 hB fp_X5_init_12 (Or.inl ⟨_, rfl⟩) (by first | exact u5 | exact u4 | exact u3 | exact u2 | exact u1 | exact u0 | exact t5) (by simp) ?_
  refine j_abT (fun S0 hT0 => ?_)
  have t0 : S0 q = some (.inl (5, [.inr (some (q + 1)), .inr none, .inr none, .inr none, .inr none, .inr none, .inl 0, .inl 0])) := by rw [hT0]; exact jup_eq
  have n0 : ∀ a, a ≠ q → S0 a = T0 a := fun a ha => by rw [hT0]; exact jup_ne ha
  have k0_0 := g0.cg (T' := S0) (V' := V0) (fun a ha hb => ⟨n0 a (by omega), rfl⟩)
  have f0 : jNw T V X S0 V0 X0 q := fun a ha => ⟨(n0 a (by omega)).trans (e0 a (by omega)).1, (e0 a (by omega)).2.1, (e0 a (by omega)).2.2⟩
  refine j_aload_n dX5_init_15 rfl ?_
  refine j_new dX5_init_16 hB nw_X5_9 (by decide) (by decide) ?_
  refine j_dup dX5_init_19 rfl ?_
  refine j_cI dX5_init_20 hB mo_X2_init ml_X5_11 (sp_X2_init hB jup_eq jz_row) rfl rfl ⟨rfl, rfl, by decide, by decide⟩ (Nat.le_of_ble_eq_true rfl) ⟨by decide, by decide⟩ (fun T1 V1 X1 sz1 h1 => ?_)
  obtain ⟨sz1', g1, w1⟩ := h1
  have z1 : sz1 = q + 39 := by omega
  subst z1
  have e1 : ∀ a, a < q + 20 → T1 a = S0 a ∧ V1 a = V0 a ∧ X1.1 a = X0.1 a ∧ X1.2 a = X0.2 a := fun a ha => by
    obtain ⟨w1, w2, w3, w4⟩ := w1 a ha
    exact ⟨w1.trans (jup_ne (by omega)), w2.trans (jz_ne (by omega)), w3.trans (jz_ne (by omega)), w4⟩
  have u1 : T1 q = some (.inl (5, [.inr (some (q + 1)), .inr none, .inr none, .inr none, .inr none, .inr none, .inl 0, .inl 0])) := (e1 q (by omega)).1.trans t0
  have y1 : V1 q = fun _ => 0 := (e1 q (by omega)).2.1.trans y0
  refine j_putr dX5_init_23 hB fp_X5_init_18 (Or.inl ⟨_, rfl⟩) (by first | exact u5 | exact u4 | exact u3 | exact u2 | exact u1 | exact u0 | exact t5) (by simp) ?_
  refine j_abT (fun S1 hT1 => ?_)
  have t1 : S1 q = some (.inl (5, [.inr (some (q + 1)), .inr (some (q + 20)), .inr none, .inr none, .inr none, .inr none, .inl 0, .inl 0])) := by rw [hT1]; exact jup_eq
  have n1 : ∀ a, a ≠ q → S1 a = T1 a := fun a ha => by rw [hT1]; exact jup_ne ha
  have k0_1 := k0_0.cg (T' := S1) (V' := V1) (fun a ha hb => ⟨(n1 a (by omega)).trans (e1 a (by omega)).1, (e1 a (by omega)).2.1⟩)
  have k1_1 := g1.cg (T' := S1) (V' := V1) (fun a ha hb => ⟨n1 a (by omega), rfl⟩)
  have f1 : jNw T V X S1 V1 X1 q := f0.tr (fun a ha => ⟨(n1 a (by omega)).trans (e1 a (by omega)).1, (e1 a (by omega)).2.1, (e1 a (by omega)).2.2⟩) (Nat.le_refl q)
  refine j_aload_n dX5_init_26 rfl ?_
  refine j_new dX5_init_27 hB nw_X5_9 (by decide) (by decide) ?_
  refine j_dup dX5_init_30 rfl ?_
  refine j_cI dX5_init_31 hB mo_X2_init ml_X5_11 (sp_X2_init hB jup_eq jz_row) rfl rfl ⟨rfl, rfl, by decide, by decide⟩ (Nat.le_of_ble_eq_true rfl) ⟨by decide, by decide⟩ (fun T2 V2 X2 sz2 h2 => ?_)
  obtain ⟨sz2', g2, w2⟩ := h2
  have z2 : sz2 = q + 58 := by omega
  subst z2
  have e2 : ∀ a, a < q + 39 → T2 a = S1 a ∧ V2 a = V1 a ∧ X2.1 a = X1.1 a ∧ X2.2 a = X1.2 a := fun a ha => by
    obtain ⟨w1, w2, w3, w4⟩ := w2 a ha
    exact ⟨w1.trans (jup_ne (by omega)), w2.trans (jz_ne (by omega)), w3.trans (jz_ne (by omega)), w4⟩
  have u2 : T2 q = some (.inl (5, [.inr (some (q + 1)), .inr (some (q + 20)), .inr none, .inr none, .inr none, .inr none, .inl 0, .inl 0])) := (e2 q (by omega)).1.trans t1
  have y2 : V2 q = fun _ => 0 := (e2 q (by omega)).2.1.trans y1
  refine j_putr dX5_init_34 hB fp_X5_init_21 (Or.inl ⟨_, rfl⟩) (by first | exact u5 | exact u4 | exact u3 | exact u2 | exact u1 | exact u0 | exact t5) (by simp) ?_
  refine j_abT (fun S2 hT2 => ?_)
  have t2 : S2 q = some (.inl (5, [.inr (some (q + 1)), .inr (some (q + 20)), .inr (some (q + 39)), .inr none, .inr none, .inr none, .inl 0, .inl 0])) := by rw [hT2]; exact jup_eq
  have n2 : ∀ a, a ≠ q → S2 a = T2 a := fun a ha => by rw [hT2]; exact jup_ne ha
  have k0_2 := k0_1.cg (T' := S2) (V' := V2) (fun a ha hb => ⟨(n2 a (by omega)).trans (e2 a (by omega)).1, (e2 a (by omega)).2.1⟩)
  have k1_2 := k1_1.cg (T' := S2) (V' := V2) (fun a ha hb => ⟨(n2 a (by omega)).trans (e2 a (by omega)).1, (e2 a (by omega)).2.1⟩)
  have k2_2 := g2.cg (T' := S2) (V' := V2) (fun a ha hb => ⟨n2 a (by omega), rfl⟩)
  have f2 : jNw T V X S2 V2 X2 q := f1.tr (fun a ha => ⟨(n2 a (by omega)).trans (e2 a (by omega)).1, (e2 a (by omega)).2.1, (e2 a (by omega)).2.2⟩) (Nat.le_refl q)
  refine j_aload_n dX5_init_37 rfl ?_
  refine j_new dX5_init_38 hB nw_X5_24 (by decide) (by decide) ?_
  refine j_dup dX5_init_41 rfl ?_
  refine j_bipush (v := 8) dX5_init_42 (by decide) ?_
  refine j_cI dX5_init_44 hB mo_X3_init ml_X5_26 (sp_X3_init hB (cap := 8) jup_eq jz_row (by decide) (by decide)) rfl rfl ⟨rfl, rfl, by decide, by decide⟩ (Nat.le_of_ble_eq_true rfl) ⟨by decide, by decide⟩ (fun T3 V3 X3 sz3 h3 => ?_)
  obtain ⟨sz3', g3, w3⟩ := h3
  have z3 : sz3 = q + 60 := by omega
  subst z3
  have e3 : ∀ a, a < q + 58 → T3 a = S2 a ∧ V3 a = V2 a ∧ X3.1 a = X2.1 a ∧ X3.2 a = X2.2 a := fun a ha => by
    obtain ⟨w1, w2, w3, w4⟩ := w3 a ha
    exact ⟨w1.trans (jup_ne (by omega)), w2.trans (jz_ne (by omega)), w3.trans (jz_ne (by omega)), w4⟩
  have u3 : T3 q = some (.inl (5, [.inr (some (q + 1)), .inr (some (q + 20)), .inr (some (q + 39)), .inr none, .inr none, .inr none, .inl 0, .inl 0])) := (e3 q (by omega)).1.trans t2
  have y3 : V3 q = fun _ => 0 := (e3 q (by omega)).2.1.trans y2
  refine j_putr dX5_init_47 hB fp_X5_init_29 (Or.inl ⟨_, rfl⟩) (by first | exact u5 | exact u4 | exact u3 | exact u2 | exact u1 | exact u0 | exact t5) (by simp) ?_
  refine j_abT (fun S3 hT3 => ?_)
  have t3 : S3 q = some (.inl (5, [.inr (some (q + 1)), .inr (some (q + 20)), .inr (some (q + 39)), .inr (some (q + 58)), .inr none, .inr none, .inl 0, .inl 0])) := by rw [hT3]; exact jup_eq
  have n3 : ∀ a, a ≠ q → S3 a = T3 a := fun a ha => by rw [hT3]; exact jup_ne ha
  have k0_3 := k0_2.cg (T' := S3) (V' := V3) (fun a ha hb => ⟨(n3 a (by omega)).trans (e3 a (by omega)).1, (e3 a (by omega)).2.1⟩)
  have k1_3 := k1_2.cg (T' := S3) (V' := V3) (fun a ha hb => ⟨(n3 a (by omega)).trans (e3 a (by omega)).1, (e3 a (by omega)).2.1⟩)
  have k2_3 := k2_2.cg (T' := S3) (V' := V3) (fun a ha hb => ⟨(n3 a (by omega)).trans (e3 a (by omega)).1, (e3 a (by omega)).2.1⟩)
  have k3_3 := g3.cg (T' := S3) (V' := V3) (fun a ha hb => ⟨n3 a (by omega), rfl⟩)
  have f3 : jNw T V X S3 V3 X3 q := f2.tr (fun a ha => ⟨(n3 a (by omega)).trans (e3 a (by omega)).1, (e3 a (by omega)).2.1, (e3 a (by omega)).2.2⟩) (Nat.le_refl q)
  refine j_aload_n dX5_init_50 rfl ?_
  refine j_new dX5_init_51 hB nw_X5_24 (by decide) (by decide) ?_
  refine j_dup dX5_init_54 rfl ?_
  refine j_bipush (v := 8) dX5_init_55 (by decide) ?_
  refine j_cI dX5_init_57 hB mo_X3_init ml_X5_26 (sp_X3_init hB (cap := 8) jup_eq jz_row (by decide) (by decide)) rfl rfl ⟨rfl, rfl, by decide, by decide⟩ (Nat.le_of_ble_eq_true rfl) ⟨by decide, by decide⟩ (fun T4 V4 X4 sz4 h4 => ?_)
  obtain ⟨sz4', g4, w4⟩ := h4
  have z4 : sz4 = q + 62 := by omega
  subst z4
  have e4 : ∀ a, a < q + 60 → T4 a = S3 a ∧ V4 a = V3 a ∧ X4.1 a = X3.1 a ∧ X4.2 a = X3.2 a := fun a ha => by
    obtain ⟨w1, w2, w3, w4⟩ := w4 a ha
    exact ⟨w1.trans (jup_ne (by omega)), w2.trans (jz_ne (by omega)), w3.trans (jz_ne (by omega)), w4⟩
  have u4 : T4 q = some (.inl (5, [.inr (some (q + 1)), .inr (some (q + 20)), .inr (some (q + 39)), .inr (some (q + 58)), .inr none, .inr none, .inl 0, .inl 0])) := (e4 q (by omega)).1.trans t3
  have y4 : V4 q = fun _ => 0 := (e4 q (by omega)).2.1.trans y3
  refine j_putr dX5_init_60 hB fp_X5_init_33 (Or.inl ⟨_, rfl⟩) (by first | exact u5 | exact u4 | exact u3 | exact u2 | exact u1 | exact u0 | exact t5) (by simp) ?_
  refine j_abT (fun S4 hT4 => ?_)
  have t4 : S4 q = some (.inl (5, [.inr (some (q + 1)), .inr (some (q + 20)), .inr (some (q + 39)), .inr (some (q + 58)), .inr (some (q + 60)), .inr none, .inl 0, .inl 0])) := by rw [hT4]; exact jup_eq
  have n4 : ∀ a, a ≠ q → S4 a = T4 a := fun a ha => by rw [hT4]; exact jup_ne ha
  have k0_4 := k0_3.cg (T' := S4) (V' := V4) (fun a ha hb => ⟨(n4 a (by omega)).trans (e4 a (by omega)).1, (e4 a (by omega)).2.1⟩)
  have k1_4 := k1_3.cg (T' := S4) (V' := V4) (fun a ha hb => ⟨(n4 a (by omega)).trans (e4 a (by omega)).1, (e4 a (by omega)).2.1⟩)
  have k2_4 := k2_3.cg (T' := S4) (V' := V4) (fun a ha hb => ⟨(n4 a (by omega)).trans (e4 a (by omega)).1, (e4 a (by omega)).2.1⟩)
  have k3_4 := k3_3.cg (T' := S4) (V' := V4) (fun a ha hb => ⟨(n4 a (by omega)).trans (e4 a (by omega)).1, (e4 a (by omega)).2.1⟩)
  have k4_4 := g4.cg (T' := S4) (V' := V4) (fun a ha hb => ⟨n4 a (by omega), rfl⟩)
  have f4 : jNw T V X S4 V4 X4 q := f3.tr (fun a ha => ⟨(n4 a (by omega)).trans (e4 a (by omega)).1, (e4 a (by omega)).2.1, (e4 a (by omega)).2.2⟩) (Nat.le_refl q)
  refine j_aload_n dX5_init_63 rfl ?_
  refine j_new dX5_init_64 hB nw_X5_24 (by decide) (by decide) ?_
  refine j_dup dX5_init_67 rfl ?_
  refine j_bipush (v := 8) dX5_init_68 (by decide) ?_
  refine j_cI dX5_init_70 hB mo_X3_init ml_X5_26 (sp_X3_init hB (cap := 8) jup_eq jz_row (by decide) (by decide)) rfl rfl ⟨rfl, rfl, by decide, by decide⟩ (Nat.le_of_ble_eq_true rfl) ⟨by decide, by decide⟩ (fun T5 V5 X5 sz5 h5 => ?_)
  obtain ⟨sz5', g5, w5⟩ := h5
  have z5 : sz5 = q + 64 := by omega
  subst z5
  have e5 : ∀ a, a < q + 62 → T5 a = S4 a ∧ V5 a = V4 a ∧ X5.1 a = X4.1 a ∧ X5.2 a = X4.2 a := fun a ha => by
    obtain ⟨w1, w2, w3, w4⟩ := w5 a ha
    exact ⟨w1.trans (jup_ne (by omega)), w2.trans (jz_ne (by omega)), w3.trans (jz_ne (by omega)), w4⟩
  have u5 : T5 q = some (.inl (5, [.inr (some (q + 1)), .inr (some (q + 20)), .inr (some (q + 39)), .inr (some (q + 58)), .inr (some (q + 60)), .inr none, .inl 0, .inl 0])) := (e5 q (by omega)).1.trans t4
  have y5 : V5 q = fun _ => 0 := (e5 q (by omega)).2.1.trans y4
  refine j_putr dX5_init_73 hB fp_X5_init_36 (Or.inl ⟨_, rfl⟩) (by first | exact u5 | exact u4 | exact u3 | exact u2 | exact u1 | exact u0 | exact t5) (by simp) ?_
  refine j_abT (fun S5 hT5 => ?_)
  have t5 : S5 q = some (.inl (5, [.inr (some (q + 1)), .inr (some (q + 20)), .inr (some (q + 39)), .inr (some (q + 58)), .inr (some (q + 60)), .inr (some (q + 62)), .inl 0, .inl 0])) := by rw [hT5]; exact jup_eq
  have n5 : ∀ a, a ≠ q → S5 a = T5 a := fun a ha => by rw [hT5]; exact jup_ne ha
  have k0_5 := k0_4.cg (T' := S5) (V' := V5) (fun a ha hb => ⟨(n5 a (by omega)).trans (e5 a (by omega)).1, (e5 a (by omega)).2.1⟩)
  have k1_5 := k1_4.cg (T' := S5) (V' := V5) (fun a ha hb => ⟨(n5 a (by omega)).trans (e5 a (by omega)).1, (e5 a (by omega)).2.1⟩)
  have k2_5 := k2_4.cg (T' := S5) (V' := V5) (fun a ha hb => ⟨(n5 a (by omega)).trans (e5 a (by omega)).1, (e5 a (by omega)).2.1⟩)
  have k3_5 := k3_4.cg (T' := S5) (V' := V5) (fun a ha hb => ⟨(n5 a (by omega)).trans (e5 a (by omega)).1, (e5 a (by omega)).2.1⟩)
  have k4_5 := k4_4.cg (T' := S5) (V' := V5) (fun a ha hb => ⟨(n5 a (by omega)).trans (e5 a (by omega)).1, (e5 a (by omega)).2.1⟩)
  have k5_5 := g5.cg (T' := S5) (V' := V5) (fun a ha hb => ⟨n5 a (by omega), rfl⟩)
  have f5 : jNw T V X S5 V5 X5 q := f4.tr (fun a ha => ⟨(n5 a (by omega)).trans (e5 a (by omega)).1, (e5 a (by omega)).2.1, (e5 a (by omega)).2.2⟩) (Nat.le_refl q)
  refine j_aload_n dX5_init_76 rfl ?_
  refine j_bipush (v := 20) dX5_init_77 (by decide) ?_
  refine j_puti dX5_init_79 hB fp_X5_init_39 (by first | exact u5 | exact u4 | exact u3 | exact u2 | exact u1 | exact u0 | exact t5) (by rfl) ?_
  refine j_aload_n dX5_init_82 rfl ?_
  refine j_iconst (v := 5) dX5_init_83 (by decide) ?_
  refine j_puti dX5_init_84 hB fp_X5_init_43 (by first | exact u5 | exact u4 | exact u3 | exact u2 | exact u1 | exact u0 | exact t5) (by rfl) ?_
  refine j_vret dX5_init_87 rfl (by decide) (by decide) ?_
  have a7 : jAg V5 (jset (jset V5 q 6 20) q 7 5) q (q + 1) := (jAg.rf.set (Nat.le_refl q) (Nat.lt_succ_self q)).set (Nat.le_refl q) (Nat.lt_succ_self q)
  exact ⟨rfl, rfl, ⟨t5, k0_5.ag a7 (by omega), k1_5.ag a7 (by omega), k2_5.ag a7 (by omega), k3_5.1.ag a7 (by omega), k4_5.1.ag a7 (by omega), k5_5.1.ag a7 (by omega), by rw [Rw_ag a7 (by omega)]; exact k3_5.2, by rw [Rw_ag a7 (by omega)]; exact k4_5.2, by rw [Rw_ag a7 (by omega)]; exact k5_5.2, by rw [jset_ne (Or.inr (by decide)), jset_eq]; rfl, by rw [jset_eq]; rfl⟩, fun a ha => ⟨(f5 a ha).1, (a7 a (Or.inl ha)).trans (f5 a ha).2.1, (f5 a ha).2.2⟩⟩
end JCtor
