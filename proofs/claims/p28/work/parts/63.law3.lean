/-! THE LAW: the best cue by one number for each, beside the class' search -/
def ownB (u s m n p : Int) : Int := ((cD u s m n p).natAbs : Int)
def rkB (n p : Int) : Int := (((p - 100).natAbs : Int) * 10 + n) * 2 + (if 100 < p then 1 else 0)
def kyB (u s m n p : Int) : Int := ownB u s m n p * 2000 + rkB n p
def gB (u s m : Int) (c : cT) (R : Int) : Prop := 1 ≤ c.1 ∧ c.1 ≤ 9 ∧ c.2.2 = ownB u s m c.1 c.2.1 ∧ rkB c.1 c.2.1 ≤ R ∧ ∀ n p : Int, 1 ≤ n → n ≤ 9 → rkB n p ≤ R → kyB u s m c.1 c.2.1 ≤ kyB u s m n p
theorem rkB_ge {n p : Int} (h : 1 ≤ n) : 2 ≤ rkB n p := by unfold rkB; split <;> omega
theorem gB.step {u s m : Int} {c : cT} {R R' n p : Int} (h : gB u s m c R) (n1 : 1 ≤ n) (n9 : n ≤ 9) (hR : R < R') (hr : rkB n p = R') (h2 : R' < 2000) (hu : ∀ n' p' : Int, 1 ≤ n' → n' ≤ 9 → R < rkB n' p' → rkB n' p' ≤ R' → n' = n ∧ p' = p) : gB u s m (cCons c n p (cD u s m n p)) R' := by
  obtain ⟨g1, g2, g3, g4, g5⟩ := h
  have gk := rkB_ge (n := c.1) (p := c.2.1) g1
  have hc : kyB u s m c.1 c.2.1 = ownB u s m c.1 c.2.1 * 2000 + rkB c.1 c.2.1 := rfl
  have hn : kyB u s m n p = ownB u s m n p * 2000 + rkB n p := rfl
  have ho : ownB u s m n p = ((cD u s m n p).natAbs : Int) := rfl
  unfold cCons
  by_cases hd : ((cD u s m n p).natAbs : Int) < c.2.2
  · rw [if_pos hd]
    refine ⟨n1, n9, rfl, by show rkB n p ≤ R'; omega, fun n' p' a b e => ?_⟩
    show kyB u s m n p ≤ _
    by_cases z : rkB n' p' ≤ R
    · have := g5 n' p' a b z
      omega
    · obtain ⟨rfl, rfl⟩ := hu n' p' a b (by omega) e
      exact Int.le_refl _
  · rw [if_neg hd]
    refine ⟨g1, g2, g3, by omega, fun n' p' a b e => ?_⟩
    by_cases z : rkB n' p' ≤ R
    · exact g5 n' p' a b z
    · obtain ⟨rfl, rfl⟩ := hu n' p' a b (by omega) e
      omega
theorem gB.up {u s m : Int} {c : cT} {R R' : Int} (h : gB u s m c R) (hR : R ≤ R') (hu : ∀ n' p' : Int, 1 ≤ n' → n' ≤ 9 → rkB n' p' ≤ R' → rkB n' p' ≤ R) : gB u s m c R' := by
  obtain ⟨g1, g2, g3, g4, g5⟩ := h
  exact ⟨g1, g2, g3, by omega, fun n' p' a b e => g5 n' p' a b (hu n' p' a b e)⟩
theorem gB.stp {u s m : Int} {c : cT} {o n : Int} (h : gB u s m c ((o * 10 + (n - 1)) * 2 + 1)) (o0 : 1 ≤ o) (o1 : o ≤ 20) (n1 : 1 ≤ n) (n9 : n ≤ 9) : gB u s m (cStep u s m c o n) ((o * 10 + n) * 2 + 1) := by
  unfold cStep
  refine gB.step (R := (o * 10 + n) * 2) (h.step n1 n9 (by omega) ?_ (by omega) ?_) n1 n9 (by omega) ?_ (by omega) ?_
  · unfold rkB
    rw [if_neg (by omega)]
    omega
  · intro n' p' a b e1 e2
    unfold rkB at e1 e2
    split at e1 <;> omega
  · unfold rkB
    rw [if_pos (by omega)]
    omega
  · intro n' p' a b e1 e2
    unfold rkB at e1 e2
    split at e1 <;> omega
theorem cStep_0 {u s m n : Int} {c : cT} : cStep u s m c 0 n = cCons c n 100 (cD u s m n 100) := by
  show cCons (cCons c n 100 (cD u s m n 100)) n 100 (cD u s m n 100) = _
  exact cCons_no (cCons_le c n 100 _).2
theorem plT_cD {s : aS} {i k p m : Int} : plT s i k p - m = cD ((atZ s.2.1.1 i).toInt + (atZ s.2.1.2.2 i).toInt) (atZ s.2.1.2.1 i).toInt m k p := by
  unfold plT cD wrT
  rw [show (atZ s.2.1.1 i).toInt + k * (atZ s.2.1.2.1 i).toInt + (atZ s.2.1.2.2 i).toInt = (atZ s.2.1.1 i).toInt + (atZ s.2.1.2.2 i).toInt + k * (atZ s.2.1.2.1 i).toInt by omega]
theorem gB.s0 {u s m : Int} {c : cT} {n : Int} (h : gB u s m c ((n - 1) * 2 + 1)) (n1 : 1 ≤ n) (n9 : n ≤ 9) : gB u s m (cStep u s m c 0 n) (n * 2 + 1) := by
  rw [cStep_0]
  refine h.step n1 n9 (by omega) ?_ (by omega) ?_ |>.up (R' := n * 2 + 1) (R := n * 2) (by omega) ?_
  · unfold rkB
    rw [if_neg (by omega)]
    omega
  · intro n' p' a b e1 e2
    unfold rkB at e1 e2
    split at e1 <;> omega
  · intro n' p' a b e
    unfold rkB at e ⊢
    split at e
    · rw [if_pos (by omega)]; omega
    · rw [if_neg (by omega)]; omega
theorem gB_0 {u s m : Int} (d1 : ((cD u s m 1 100).natAbs : Int) < 1000000000) : ∀ k : Nat, k ≤ 8 → gB u s m (cTry u s m (0, 0, 1000000000) 0 (k + 1)) (((k : Int) + 1) * 2 + 1)
  | 0, _ => by
    show gB u s m (cStep u s m (0, 0, 1000000000) 0 (((0 : Nat) : Int) + 1)) _
    rw [cStep_0]
    have e : cCons (0, 0, 1000000000) (((0 : Nat) : Int) + 1) 100 (cD u s m (((0 : Nat) : Int) + 1) 100) = (1, 100, ((cD u s m 1 100).natAbs : Int)) := if_pos d1
    rw [e]
    refine ⟨show (1 : Int) ≤ 1 by decide, show (1 : Int) ≤ 9 by decide, rfl, show rkB 1 100 ≤ (((0 : Nat) : Int) + 1) * 2 + 1 by decide, fun n' p' a b e => ?_⟩
    have hp : n' = 1 ∧ p' = 100 := by
      unfold rkB at e
      split at e <;> omega
    obtain ⟨rfl, rfl⟩ := hp
    exact Int.le_refl _
  | k + 1, hk => by
    have ih := gB_0 d1 k (by omega)
    have := gB.s0 (n := ((k + 1 : Nat) : Int) + 1) (c := cTry u s m (0, 0, 1000000000) 0 (k + 1)) (by rw [show ((k + 1 : Nat) : Int) + 1 - 1 = (k : Int) + 1 by omega]; exact ih) (by omega) (by omega)
    exact this
theorem gB_t {u s m o : Int} {c : cT} (o0 : 1 ≤ o) (o1 : o ≤ 20) (h : gB u s m c (((o - 1) * 10 + 9) * 2 + 1)) : ∀ k : Nat, k ≤ 9 → gB u s m (cTry u s m c o k) ((o * 10 + k) * 2 + 1)
  | 0, _ => h.up (by omega) (fun n' p' a b e => by unfold rkB at e ⊢; split at e <;> rename_i z <;> simp only [z, if_true, if_false] <;> omega)
  | k + 1, hk => by
    have ih := gB_t o0 o1 h k (by omega)
    refine gB.stp (n := (k : Int) + 1) ?_ o0 o1 (by omega) (by omega)
    rw [show (k : Int) + 1 - 1 = k by omega]
    exact ih
theorem gB_s {u s m : Int} (d1 : ((cD u s m 1 100).natAbs : Int) < 1000000000) : ∀ k : Nat, k ≤ 20 → gB u s m (cSrch u s m (0, 0, 1000000000) (k + 1)) (((k : Int) * 10 + 9) * 2 + 1)
  | 0, _ => gB_0 d1 8 (by decide)
  | k + 1, hk => by
    have ih := gB_s d1 k (by omega)
    exact gB_t (o := ((k + 1 : Nat) : Int)) (c := cSrch u s m (0, 0, 1000000000) (k + 1)) (by omega) (by omega) (by rw [show ((k + 1 : Nat) : Int) - 1 = (k : Int) by omega]; exact ih) 9 (by decide)
theorem gB_eq {u s m : Int} {c : cT} {R n p : Int} (h : gB u s m c R) (n1 : 1 ≤ n) (n9 : n ≤ 9) (hr : rkB n p ≤ R) (hR : R < 2000) (hk : kyB u s m n p ≤ kyB u s m c.1 c.2.1) : n = c.1 ∧ p = c.2.1 := by
  obtain ⟨g1, g2, g3, g4, g5⟩ := h
  have e := g5 n p n1 n9 hr
  have o1 : 0 ≤ ownB u s m n p := Int.natCast_nonneg _
  have o2 : 0 ≤ ownB u s m c.1 c.2.1 := Int.natCast_nonneg _
  unfold kyB at e hk
  generalize ownB u s m n p = A at *
  generalize ownB u s m c.1 c.2.1 = B at *
  unfold rkB at *
  split at hr <;> split at g4 <;> simp_all <;> omega
/-- longs -/
abbrev isJ (x : Int64) (z : Int) : Prop := x.toInt = z
theorem jlI {x : Int32} {z : Int} (h : isI x z) : isJ x.toInt64 z := by
  show x.toInt64.toInt = z
  rw [Int32.toInt_toInt64]; exact h
theorem jlA {x y : Int64} {a b : Int} (hx : isJ x a) (hy : isJ y b) (h : -9223372036854775808 ≤ a + b ∧ a + b < 9223372036854775808) : isJ (x + y) (a + b) := by
  show (x + y).toInt = a + b
  rw [Int64.toInt_add, hx, hy]
  exact Int.bmod_eq_of_le (by omega) (by omega)
theorem jlM {x y : Int64} {a b : Int} (hx : isJ x a) (hy : isJ y b) (h : -9223372036854775808 ≤ a * b ∧ a * b < 9223372036854775808) : isJ (x * y) (a * b) := by
  show (x * y).toInt = a * b
  rw [Int64.toInt_mul, hx, hy]
  exact Int.bmod_eq_of_le (by omega) (by omega)
theorem lg_lt {x y : Int64} {a b : Int} (hx : isJ x a) (hy : isJ y b) : (lg_cmp x y).toInt < 0 ↔ a < b := by
  have h1 : x < y ↔ a < b := by rw [Int64.lt_iff_toInt_lt, hx, hy]
  have h2 : x > y ↔ b < a := by rw [gt_iff_lt, Int64.lt_iff_toInt_lt, hx, hy]
  unfold lg_cmp
  by_cases e : x > y
  · rw [if_pos e]
    have := h2.mp e
    exact ⟨fun z => absurd z (by decide), fun z => absurd z (by omega)⟩
  · rw [if_neg e]
    by_cases e2 : x = y
    · rw [if_pos e2]
      subst e2
      have : a = b := hx.symm.trans hy
      exact ⟨fun z => absurd z (by decide), fun z => absurd z (by omega)⟩
    · rw [if_neg e2]
      have : ¬ a = b := fun z => e2 (Int64.toInt_inj.mp (by rw [hx, hy, z]))
      have e3 : ¬ b < a := fun z => e (h2.mpr z)
      exact ⟨fun _ => by omega, fun _ => by decide⟩
/-- the best so far, as the law keeps it: of the pairs of S -/
def bL (u s m : Int) (S : Int → Int → Prop) (b : Int32) (le : Int64) : Prop := ((∀ n p : Int, ¬ S n p) ∧ isJ le 9223372036854775807) ∨ ∃ n0 p0 : Int, S n0 p0 ∧ isI b (1000 * n0 + p0) ∧ isJ le (kyB u s m n0 p0) ∧ ∀ n p : Int, S n p → kyB u s m n0 p0 ≤ kyB u s m n p
theorem bL.yes {u s m : Int} {S S' : Int → Int → Prop} {b b' : Int32} {le le' : Int64} {n p : Int} (h : bL u s m S b le) (hS : ∀ n' p' : Int, S' n' p' ↔ S n' p' ∨ (n' = n ∧ p' = p)) (hb : isI b' (1000 * n + p)) (hl : isJ le' (kyB u s m n p)) (hlt : ∀ L : Int, isJ le L → kyB u s m n p < L) : bL u s m S' b' le' := by
  refine Or.inr ⟨n, p, (hS n p).mpr (Or.inr ⟨rfl, rfl⟩), hb, hl, fun n' p' e => ?_⟩
  rcases (hS n' p').mp e with z | ⟨rfl, rfl⟩
  · rcases h with ⟨h1, -⟩ | ⟨n0, p0, a, b, c, d⟩
    · exact absurd z (h1 n' p')
    · have := hlt _ c
      have := d n' p' z
      omega
  · exact Int.le_refl _
theorem bL.no {u s m : Int} {S S' : Int → Int → Prop} {b : Int32} {le : Int64} {n p : Int} (h : bL u s m S b le) (hS : ∀ n' p' : Int, S' n' p' ↔ S n' p' ∨ (n' = n ∧ p' = p)) (hm : kyB u s m n p < 9223372036854775807) (hlt : ∀ L : Int, isJ le L → L ≤ kyB u s m n p) : bL u s m S' b le := by
  rcases h with ⟨h1, h2⟩ | ⟨n0, p0, a, b, c, d⟩
  · have := hlt _ h2
    omega
  · refine Or.inr ⟨n0, p0, (hS n0 p0).mpr (Or.inl a), b, c, fun n' p' e => ?_⟩
    rcases (hS n' p').mp e with z | ⟨rfl, rfl⟩
    · exact d n' p' z
    · exact hlt _ c
theorem bL.cg {u s m : Int} {S S' : Int → Int → Prop} {b : Int32} {le : Int64} (h : bL u s m S b le) (hS : ∀ n' p' : Int, S' n' p' ↔ S n' p') : bL u s m S' b le := by
  rcases h with ⟨h1, h2⟩ | ⟨n0, p0, a, b, c, d⟩
  · exact Or.inl ⟨fun n p z => h1 n p ((hS n p).mp z), h2⟩
  · exact Or.inr ⟨n0, p0, (hS n0 p0).mpr a, b, c, fun n' p' e => d n' p' ((hS n' p').mp e)⟩
section JLL
variable {l : Launch} {s0 : State} {D : jD} {T : jT} {V : jV} {X : jX} {sz : Nat}
set_option maxRecDepth 100000 in
set_option maxHeartbeats 4000000 in
theorem sp_L_best (hB : jB l s0 D) {ra pa ca ea da : Nat} {s : aS} {rr : aR} (hpa : T pa = some (kI 12)) (hca : T ca = some (kI 10)) (hea : T ea = some (kI 5)) (hda : T da = some (kI 3)) (hpz : zPa (V pa) s) (hdz : zDd (V da) s) (h5 : rr.1.length ≤ 5) (hO : lyO V ca ea s rr 0 rr.1.length) (hp : pcW s) (hW : rlW s rr) (hlw : lwW s) {k0 p0 : Int32} {k pp : Nat} (hk0 : k0.toInt = k) (hk : k < rr.1.length) (hp0 : p0.toInt = pp) (hpp : pp < s.2.1.1.length) : Sp l s0 D kL_best (jR 1 0 0) 0 0 [.int k0, .int p0, .ref ra, .ref pa, .ref ca, .ref ea, .ref da] T V X sz (qI T X sz (fun y V' => V = V' ∧ isI y (1000 * (bestT s pp (aRoom s rr 0 k)).1 + (bestT s pp (aRoom s rr 0 k)).2.1))) := by
  refine Sp.of pn_L_best rfl (Nat.le_of_ble_eq_true rfl) ?_
  obtain ⟨tw0, tw1, lw0, lw1⟩ := hlw
  have hr0 := aRoom_rng hp hW (w := 0) (Or.inl rfl) hk
  have b0 := aBeg_rng hW (w := 0) (Or.inl rfl) (k + 1) (by omega)
  have bk0 := aBeg_rng hW (w := 0) (Or.inl rfl) k (by omega)
  have m0 := aMus_rng hp hW (w := 0) (Or.inl rfl) k (by omega)
  have h10 := hW.2.2.2.1
  have cb0 : 0 ≤ aCb s rr 0 k ∧ aCb s rr 0 k ≤ 300000 := by unfold aCb; omega
  have rme : (aRoom s rr 0 k) = aBeg rr 0 (k + 1) - aCb s rr 0 k := rfl
  have hl4 := hpz.1
  obtain ⟨o1, -, o3⟩ := hO k hk
  have hle0 : isI (V da 2) s.2.2.2.toInt := congrArg Int32.toInt hdz.2.2
  obtain ⟨lw, hlwe⟩ : ∃ lw : Int, lw = s.2.2.2.toInt := ⟨_, rfl⟩
  rw [← hlwe] at lw0 lw1 hle0
  obtain ⟨y0, y1, y2, y3, y4, y5⟩ := pcW_at hp (i := (pp : Int)) (by omega) (by omega)
  have outer : ∀ (N : Nat) (n : Int) (sn b : Int32) (le : Int64), N = (10 - n).toNat → 1 ≤ n → n ≤ 10 → isI sn n → bL ((atZ s.2.1.1 pp).toInt + (atZ s.2.1.2.2 pp).toInt) (atZ s.2.1.2.1 pp).toInt (aRoom s rr 0 k) (fun n9 p9 : Int => 100 - lw ≤ p9 ∧ p9 ≤ 100 + lw ∧ 1 ≤ n9 ∧ (n9 < n ∨ (n9 = n ∧ p9 < (-1)))) b le → J l s0 D kL_best (jR 1 0 0) 0 0 (qI T X sz (fun y V' => V = V' ∧ isI y (1000 * (bestT s pp (aRoom s rr 0 k)).1 + (bestT s pp (aRoom s rr 0 k)).2.1))) 11 [(0, .int k0), (1, .int p0), (2, .ref ra), (3, .ref pa), (4, .ref ca), (5, .ref ea), (6, .ref da), (7, .int b), (8, .long le), (10, .int sn)] [] T V X sz 0 0 := by
    intro N
    refine Nat.strongRecOn N ?_
    clear N
    intro N ih n sn b le hN n1 n10 hsn hb
    have inner : n ≤ 9 → ∀ (K : Nat) (pz : Int) (pc b : Int32) (le : Int64), K = (101 + lw - pz).toNat → 100 - lw ≤ pz → pz ≤ 101 + lw → isI pc pz → bL ((atZ s.2.1.1 pp).toInt + (atZ s.2.1.2.2 pp).toInt) (atZ s.2.1.2.1 pp).toInt (aRoom s rr 0 k) (fun n9 p9 : Int => 100 - lw ≤ p9 ∧ p9 ≤ 100 + lw ∧ 1 ≤ n9 ∧ (n9 < n ∨ (n9 = n ∧ p9 < pz))) b le → J l s0 D kL_best (jR 1 0 0) 0 0 (qI T X sz (fun y V' => V = V' ∧ isI y (1000 * (bestT s pp (aRoom s rr 0 k)).1 + (bestT s pp (aRoom s rr 0 k)).2.1))) 27 [(0, .int k0), (1, .int p0), (2, .ref ra), (3, .ref pa), (4, .ref ca), (5, .ref ea), (6, .ref da), (7, .int b), (8, .long le), (10, .int sn), (11, .int pc)] [] T V X sz 0 0 := by
      intro n9 K
      refine Nat.strongRecOn K ?_
      clear K
      intro K ih2 pz pc b le hK pz0 pz1 hpc hb
      refine j_iload dL_best_27 rfl ?_
      refine j_bipush (v := 100) dL_best_29 (by decide) ?_
      refine j_aload dL_best_31 rfl ?_
      refine j_iconst (v := 2) dL_best_33 (by decide) ?_
      refine m_iald (k := 2) dL_best_34 hB (by assumption) (ixk (iC 2 (by decide)) (by omega)) (by omega) ?_
      refine j_iadd dL_best_35 ?_
      refine m_icmp_gt (tgt := 142) dL_best_36 (by decide) (hpc) (iA (iC 100 (by decide)) (hle0) (by omega)) (fun c_36 => ?_) (fun c_36 => ?_)
      · refine j_iinc (v := 1) (L' := [(0, _), (1, _), (2, _), (3, _), (4, _), (5, _), (6, _), (7, _), (8, _), (10, _), (11, _)]) dL_best_142 rfl (by decide) (by decide) rfl ?_
        refine j_goto (tgt := 11) dL_best_145 (by decide) ?_
        refine j_sub2 (L' := [(0, _), (1, _), (2, _), (3, _), (4, _), (5, _), (6, _), (7, _), (8, _), (10, _)]) (List.forall_mem_cons.mpr ⟨rfl, List.forall_mem_cons.mpr ⟨rfl, List.forall_mem_cons.mpr ⟨rfl, List.forall_mem_cons.mpr ⟨rfl, List.forall_mem_cons.mpr ⟨rfl, List.forall_mem_cons.mpr ⟨rfl, List.forall_mem_cons.mpr ⟨rfl, List.forall_mem_cons.mpr ⟨rfl, List.forall_mem_cons.mpr ⟨rfl, List.forall_mem_cons.mpr ⟨rfl, fun _ h9 => nomatch h9⟩⟩⟩⟩⟩⟩⟩⟩⟩⟩) ?_
        refine ih (N - 1) (by omega) (n + 1) _ _ _ (by omega) (by omega) (by omega) (iA (hsn) (iC 1 (by decide)) (by omega)) (hb.cg (fun n' p' => ?_))
        show _ ∧ _ ↔ _ ∧ _
        omega
      · have plr := plT_rng hp (i := (pp : Int)) (k := n) (pa := pz) (by omega) (by omega) (by omega) (by omega) (by omega)
        have dr := cD_rng (u := ((atZ s.2.1.1 pp).toInt + (atZ s.2.1.2.2 pp).toInt)) (s := (atZ s.2.1.2.1 pp).toInt) (m := (aRoom s rr 0 k)) (n := n) (p := pz) (by omega) (by omega) (by omega) (by omega) hr0.1 hr0.2 (by omega) (by omega) (by omega)
        have e9 := plT_cD (s := s) (i := (pp : Int)) (k := n) (p := pz) (m := (aRoom s rr 0 k))
        refine j_aload dL_best_39 rfl ?_
        refine j_iconst (v := 2) dL_best_41 (by decide) ?_
        refine j_iload_n dL_best_42 rfl ?_
        refine j_imul dL_best_43 ?_
        refine m_iald (k := 2 * k) dL_best_44 hB (by assumption) (ixk (iM (iC 2 (by decide)) (hk0) (by omega)) (by omega)) (by omega) ?_
        refine j_iload_n dL_best_45 rfl ?_
        refine j_iload dL_best_46 rfl ?_
        refine j_iload dL_best_48 rfl ?_
        refine j_aload_n dL_best_50 rfl ?_
        refine j_cSi dL_best_51 hB mo_L_music ml_L_22 (sp_L_music hB hpa hpz hp (ixk (k := pp) (hp0) (by omega)) hpp (hsn) (by omega) (by omega) (hpc) (by omega)) rfl rfl ⟨rfl, rfl, by decide, by decide⟩ (Nat.le_of_ble_eq_true rfl) ⟨by decide, by decide⟩ (fun r_51 V_51 h_51 => ?_)
        obtain ⟨rfl, h_51⟩ := h_51
        refine j_iadd dL_best_54 ?_
        refine j_aload dL_best_55 rfl ?_
        refine j_iload_n dL_best_57 rfl ?_
        refine m_iald (k := k) dL_best_58 hB (by assumption) (ixk (hk0) (by omega)) (by omega) ?_
        refine j_isub dL_best_59 ?_
        refine j_cSi dL_best_60 hB mo_L_abs ml_L_37 (sp_L_abs hB (iS (iA (o1) (h_51) (by omega)) (o3) (by omega)) (by omega) (by omega)) rfl rfl ⟨rfl, rfl, by decide, by decide⟩ (Nat.le_of_ble_eq_true rfl) ⟨by decide, by decide⟩ (fun r_60 V_60 h_60 => ?_)
        obtain ⟨rfl, h_60⟩ := h_60
        replace h_60 : isI r_60 ((cD ((atZ s.2.1.1 pp).toInt + (atZ s.2.1.2.2 pp).toInt) (atZ s.2.1.2.1 pp).toInt (aRoom s rr 0 k) n pz).natAbs : Int) := h_60.trans (by congr 1; omega)
        refine j_i2l dL_best_63 ?_
        refine j_lstore (L' := [(0, _), (1, _), (2, _), (3, _), (4, _), (5, _), (6, _), (7, _), (8, _), (10, _), (11, _), (12, _)]) dL_best_64 (by decide) rfl ?_
        refine j_lload dL_best_66 rfl ?_
        refine j_ldc2 dL_best_68 hB kc_L_43 ?_
        refine j_lmul dL_best_71 ?_
        refine j_iload dL_best_72 rfl ?_
        refine j_bipush (v := 100) dL_best_74 (by decide) ?_
        refine j_isub dL_best_76 ?_
        refine j_cSi dL_best_77 hB mo_L_abs ml_L_37 (sp_L_abs hB (iS (hpc) (iC 100 (by decide)) (by omega)) (by omega) (by omega)) rfl rfl ⟨rfl, rfl, by decide, by decide⟩ (Nat.le_of_ble_eq_true rfl) ⟨by decide, by decide⟩ (fun r_77 V_77 h_77 => ?_)
        obtain ⟨rfl, h_77⟩ := h_77
        refine j_i2l dL_best_80 ?_
        refine j_ladd dL_best_81 ?_
        refine j_ldc2 dL_best_82 hB kc_L_45 ?_
        refine j_lmul dL_best_85 ?_
        refine j_iload dL_best_86 rfl ?_
        refine j_i2l dL_best_88 ?_
        refine j_ladd dL_best_89 ?_
        refine j_ldc2 dL_best_90 hB kc_L_47 ?_
        refine j_lmul dL_best_93 ?_
        refine j_iload dL_best_94 rfl ?_
        refine j_bipush (v := 100) dL_best_96 (by decide) ?_
        refine m_icmp_le (tgt := 105) dL_best_98 (by decide) (hpc) (iC 100 (by decide)) (fun c_98 => ?_) (fun c_98 => ?_)
        · refine j_iconst (v := 0) dL_best_105 (by decide) ?_
          refine j_i2l dL_best_106 ?_
          refine j_ladd dL_best_107 ?_
          refine j_lstore (L' := [(0, _), (1, _), (2, _), (3, _), (4, _), (5, _), (6, _), (7, _), (8, _), (10, _), (11, _), (12, _)]) dL_best_108 (by decide) rfl ?_
          refine j_lload dL_best_110 rfl ?_
          have hown : isJ (((r_60.toInt64 * 100 + r_77.toInt64) * 10 + sn.toInt64) * 2 + (0 : Int32).toInt64) (kyB ((atZ s.2.1.1 pp).toInt + (atZ s.2.1.2.2 pp).toInt) (atZ s.2.1.2.1 pp).toInt (aRoom s rr 0 k) n pz) := by
            refine (jlA (jlM (jlA (jlM (jlA (jlM (jlI h_60) (show isJ 100 100 from rfl) (by omega)) (jlI h_77) (by omega)) (show isJ 10 10 from rfl) (by omega)) (jlI hsn) (by omega)) (show isJ 2 2 from rfl) (by omega)) (jlI (iC 0 (by decide))) (by omega)).trans ?_
            unfold kyB rkB ownB
            rw [if_neg (by omega)]
            omega
          have hky : kyB ((atZ s.2.1.1 pp).toInt + (atZ s.2.1.2.2 pp).toInt) (atZ s.2.1.2.1 pp).toInt (aRoom s rr 0 k) n pz < 9223372036854775807 := by
            unfold kyB rkB ownB
            split <;> omega
          have hS : ∀ n' p' : Int, (fun n9 p9 : Int => 100 - lw ≤ p9 ∧ p9 ≤ 100 + lw ∧ 1 ≤ n9 ∧ (n9 < n ∨ (n9 = n ∧ p9 < (pz + 1)))) n' p' ↔ (fun n9 p9 : Int => 100 - lw ≤ p9 ∧ p9 ≤ 100 + lw ∧ 1 ≤ n9 ∧ (n9 < n ∨ (n9 = n ∧ p9 < pz))) n' p' ∨ (n' = n ∧ p' = pz) := fun n' p' => by
            show _ ∧ _ ↔ (_ ∧ _) ∨ _
            omega
          refine j_lload dL_best_112 rfl ?_
          refine j_lcmp dL_best_114 ?_
          refine j_if_lt (tgt := 121) dL_best_115 (by decide) (fun c_115 => ?_) (fun c_115 => ?_)
          · refine j_lload dL_best_121 rfl ?_
            refine j_lstore (L' := [(0, _), (1, _), (2, _), (3, _), (4, _), (5, _), (6, _), (7, _), (8, _), (10, _), (11, _), (12, _)]) dL_best_123 (by decide) rfl ?_
            refine j_sipush (v := 1000) dL_best_125 (by decide) ?_
            refine j_iload dL_best_128 rfl ?_
            refine j_imul dL_best_130 ?_
            refine j_iload dL_best_131 rfl ?_
            refine j_iadd dL_best_133 ?_
            refine j_istore (L' := [(0, _), (1, _), (2, _), (3, _), (4, _), (5, _), (6, _), (7, _), (8, _), (10, _), (11, _), (12, _)]) dL_best_134 (by decide) rfl ?_
            refine j_iinc (v := 1) (L' := [(0, _), (1, _), (2, _), (3, _), (4, _), (5, _), (6, _), (7, _), (8, _), (10, _), (11, _), (12, _)]) dL_best_136 rfl (by decide) (by decide) rfl ?_
            refine j_goto (tgt := 27) dL_best_139 (by decide) ?_
            refine j_sub2 (L' := [(0, _), (1, _), (2, _), (3, _), (4, _), (5, _), (6, _), (7, _), (8, _), (10, _), (11, _)]) (List.forall_mem_cons.mpr ⟨rfl, List.forall_mem_cons.mpr ⟨rfl, List.forall_mem_cons.mpr ⟨rfl, List.forall_mem_cons.mpr ⟨rfl, List.forall_mem_cons.mpr ⟨rfl, List.forall_mem_cons.mpr ⟨rfl, List.forall_mem_cons.mpr ⟨rfl, List.forall_mem_cons.mpr ⟨rfl, List.forall_mem_cons.mpr ⟨rfl, List.forall_mem_cons.mpr ⟨rfl, List.forall_mem_cons.mpr ⟨rfl, fun _ h9 => nomatch h9⟩⟩⟩⟩⟩⟩⟩⟩⟩⟩⟩) ?_
            refine ih2 (K - 1) (by omega) (pz + 1) _ _ _ (by omega) (by omega) (by omega) (iA (hpc) (iC 1 (by decide)) (by omega)) (hb.yes hS ?_ hown (fun L hL => (lg_lt hown hL).mp c_115))
            exact ixz (iA (iM (iC 1000 (by decide)) (hsn) (by omega)) (hpc) (by omega)) rfl
          · refine j_goto (tgt := 136) dL_best_118 (by decide) ?_
            refine j_iinc (v := 1) (L' := [(0, _), (1, _), (2, _), (3, _), (4, _), (5, _), (6, _), (7, _), (8, _), (10, _), (11, _), (12, _)]) dL_best_136 rfl (by decide) (by decide) rfl ?_
            refine j_goto (tgt := 27) dL_best_139 (by decide) ?_
            refine j_sub2 (L' := [(0, _), (1, _), (2, _), (3, _), (4, _), (5, _), (6, _), (7, _), (8, _), (10, _), (11, _)]) (List.forall_mem_cons.mpr ⟨rfl, List.forall_mem_cons.mpr ⟨rfl, List.forall_mem_cons.mpr ⟨rfl, List.forall_mem_cons.mpr ⟨rfl, List.forall_mem_cons.mpr ⟨rfl, List.forall_mem_cons.mpr ⟨rfl, List.forall_mem_cons.mpr ⟨rfl, List.forall_mem_cons.mpr ⟨rfl, List.forall_mem_cons.mpr ⟨rfl, List.forall_mem_cons.mpr ⟨rfl, List.forall_mem_cons.mpr ⟨rfl, fun _ h9 => nomatch h9⟩⟩⟩⟩⟩⟩⟩⟩⟩⟩⟩) ?_
            exact ih2 (K - 1) (by omega) (pz + 1) _ _ _ (by omega) (by omega) (by omega) (iA (hpc) (iC 1 (by decide)) (by omega)) (hb.no hS hky (fun L hL => Int.not_lt.mp (fun z => absurd ((lg_lt hown hL).mpr z) (Int.not_lt.mpr c_115))))
        · refine j_iconst (v := 1) dL_best_101 (by decide) ?_
          refine j_goto (tgt := 106) dL_best_102 (by decide) ?_
          refine j_i2l dL_best_106 ?_
          refine j_ladd dL_best_107 ?_
          refine j_lstore (L' := [(0, _), (1, _), (2, _), (3, _), (4, _), (5, _), (6, _), (7, _), (8, _), (10, _), (11, _), (12, _)]) dL_best_108 (by decide) rfl ?_
          refine j_lload dL_best_110 rfl ?_
          have hown : isJ (((r_60.toInt64 * 100 + r_77.toInt64) * 10 + sn.toInt64) * 2 + (1 : Int32).toInt64) (kyB ((atZ s.2.1.1 pp).toInt + (atZ s.2.1.2.2 pp).toInt) (atZ s.2.1.2.1 pp).toInt (aRoom s rr 0 k) n pz) := by
            refine (jlA (jlM (jlA (jlM (jlA (jlM (jlI h_60) (show isJ 100 100 from rfl) (by omega)) (jlI h_77) (by omega)) (show isJ 10 10 from rfl) (by omega)) (jlI hsn) (by omega)) (show isJ 2 2 from rfl) (by omega)) (jlI (iC 1 (by decide))) (by omega)).trans ?_
            unfold kyB rkB ownB
            rw [if_pos (by omega)]
            omega
          have hky : kyB ((atZ s.2.1.1 pp).toInt + (atZ s.2.1.2.2 pp).toInt) (atZ s.2.1.2.1 pp).toInt (aRoom s rr 0 k) n pz < 9223372036854775807 := by
            unfold kyB rkB ownB
            split <;> omega
          have hS : ∀ n' p' : Int, (fun n9 p9 : Int => 100 - lw ≤ p9 ∧ p9 ≤ 100 + lw ∧ 1 ≤ n9 ∧ (n9 < n ∨ (n9 = n ∧ p9 < (pz + 1)))) n' p' ↔ (fun n9 p9 : Int => 100 - lw ≤ p9 ∧ p9 ≤ 100 + lw ∧ 1 ≤ n9 ∧ (n9 < n ∨ (n9 = n ∧ p9 < pz))) n' p' ∨ (n' = n ∧ p' = pz) := fun n' p' => by
            show _ ∧ _ ↔ (_ ∧ _) ∨ _
            omega
          refine j_lload dL_best_112 rfl ?_
          refine j_lcmp dL_best_114 ?_
          refine j_if_lt (tgt := 121) dL_best_115 (by decide) (fun c_115 => ?_) (fun c_115 => ?_)
          · refine j_lload dL_best_121 rfl ?_
            refine j_lstore (L' := [(0, _), (1, _), (2, _), (3, _), (4, _), (5, _), (6, _), (7, _), (8, _), (10, _), (11, _), (12, _)]) dL_best_123 (by decide) rfl ?_
            refine j_sipush (v := 1000) dL_best_125 (by decide) ?_
            refine j_iload dL_best_128 rfl ?_
            refine j_imul dL_best_130 ?_
            refine j_iload dL_best_131 rfl ?_
            refine j_iadd dL_best_133 ?_
            refine j_istore (L' := [(0, _), (1, _), (2, _), (3, _), (4, _), (5, _), (6, _), (7, _), (8, _), (10, _), (11, _), (12, _)]) dL_best_134 (by decide) rfl ?_
            refine j_iinc (v := 1) (L' := [(0, _), (1, _), (2, _), (3, _), (4, _), (5, _), (6, _), (7, _), (8, _), (10, _), (11, _), (12, _)]) dL_best_136 rfl (by decide) (by decide) rfl ?_
            refine j_goto (tgt := 27) dL_best_139 (by decide) ?_
            refine j_sub2 (L' := [(0, _), (1, _), (2, _), (3, _), (4, _), (5, _), (6, _), (7, _), (8, _), (10, _), (11, _)]) (List.forall_mem_cons.mpr ⟨rfl, List.forall_mem_cons.mpr ⟨rfl, List.forall_mem_cons.mpr ⟨rfl, List.forall_mem_cons.mpr ⟨rfl, List.forall_mem_cons.mpr ⟨rfl, List.forall_mem_cons.mpr ⟨rfl, List.forall_mem_cons.mpr ⟨rfl, List.forall_mem_cons.mpr ⟨rfl, List.forall_mem_cons.mpr ⟨rfl, List.forall_mem_cons.mpr ⟨rfl, List.forall_mem_cons.mpr ⟨rfl, fun _ h9 => nomatch h9⟩⟩⟩⟩⟩⟩⟩⟩⟩⟩⟩) ?_
            refine ih2 (K - 1) (by omega) (pz + 1) _ _ _ (by omega) (by omega) (by omega) (iA (hpc) (iC 1 (by decide)) (by omega)) (hb.yes hS ?_ hown (fun L hL => (lg_lt hown hL).mp c_115))
            exact ixz (iA (iM (iC 1000 (by decide)) (hsn) (by omega)) (hpc) (by omega)) rfl
          · refine j_goto (tgt := 136) dL_best_118 (by decide) ?_
            refine j_iinc (v := 1) (L' := [(0, _), (1, _), (2, _), (3, _), (4, _), (5, _), (6, _), (7, _), (8, _), (10, _), (11, _), (12, _)]) dL_best_136 rfl (by decide) (by decide) rfl ?_
            refine j_goto (tgt := 27) dL_best_139 (by decide) ?_
            refine j_sub2 (L' := [(0, _), (1, _), (2, _), (3, _), (4, _), (5, _), (6, _), (7, _), (8, _), (10, _), (11, _)]) (List.forall_mem_cons.mpr ⟨rfl, List.forall_mem_cons.mpr ⟨rfl, List.forall_mem_cons.mpr ⟨rfl, List.forall_mem_cons.mpr ⟨rfl, List.forall_mem_cons.mpr ⟨rfl, List.forall_mem_cons.mpr ⟨rfl, List.forall_mem_cons.mpr ⟨rfl, List.forall_mem_cons.mpr ⟨rfl, List.forall_mem_cons.mpr ⟨rfl, List.forall_mem_cons.mpr ⟨rfl, List.forall_mem_cons.mpr ⟨rfl, fun _ h9 => nomatch h9⟩⟩⟩⟩⟩⟩⟩⟩⟩⟩⟩) ?_
            exact ih2 (K - 1) (by omega) (pz + 1) _ _ _ (by omega) (by omega) (by omega) (iA (hpc) (iC 1 (by decide)) (by omega)) (hb.no hS hky (fun L hL => Int.not_lt.mp (fun z => absurd ((lg_lt hown hL).mpr z) (Int.not_lt.mpr c_115))))
    refine j_iload dL_best_11 rfl ?_
    refine j_bipush (v := 10) dL_best_13 (by decide) ?_
    refine m_icmp_ge (tgt := 148) dL_best_15 (by decide) (hsn) (iC 10 (by decide)) (fun c_15 => ?_) (fun c_15 => ?_)
    · refine j_iload dL_best_148 rfl ?_
      refine j_iret dL_best_150 rfl (rfl) (by decide) (by decide) ?_
      refine ⟨_, rfl, rfl, rfl, rfl, rfl, ?_⟩
      have hg := gB_s (u := ((atZ s.2.1.1 pp).toInt + (atZ s.2.1.2.2 pp).toInt)) (s := (atZ s.2.1.2.1 pp).toInt) (m := (aRoom s rr 0 k)) (by
        have dr := cD_rng (u := ((atZ s.2.1.1 pp).toInt + (atZ s.2.1.2.2 pp).toInt)) (s := (atZ s.2.1.2.1 pp).toInt) (m := (aRoom s rr 0 k)) (n := 1) (p := 100) (by omega) (by omega) (by omega) (by omega) hr0.1 hr0.2 (by omega) (by omega) (by omega)
        omega) lw.toNat (by omega)
      have eC : (bestT s pp (aRoom s rr 0 k)) = cSrch ((atZ s.2.1.1 pp).toInt + (atZ s.2.1.2.2 pp).toInt) (atZ s.2.1.2.1 pp).toInt (aRoom s rr 0 k) (0, 0, 1000000000) (lw.toNat + 1) := by unfold bestT; rw [hlwe]
      rw [← eC] at hg
      rw [Int.toNat_of_nonneg lw0] at hg
      have hg4 := hg.2.2.2.1
      have hg1 := hg.1
      have hg2 := hg.2.1
      rcases hb with ⟨h1, -⟩ | ⟨n0, p0, ⟨a1, a2, a3, a4⟩, hbb, c, d⟩
      · exact absurd (show (fun n9 p9 : Int => 100 - lw ≤ p9 ∧ p9 ≤ 100 + lw ∧ 1 ≤ n9 ∧ (n9 < n ∨ (n9 = n ∧ p9 < (-1)))) 1 100 from ⟨by omega, by omega, by omega, by omega⟩) (h1 1 100)
      · have e := gB_eq hg (n := n0) (p := p0) a3 (by omega) (by unfold rkB; split <;> omega) (by omega) (d _ _ ⟨by unfold rkB at hg4; split at hg4 <;> omega, by unfold rkB at hg4; split at hg4 <;> omega, hg1, by omega⟩)
        rw [← e.1, ← e.2]
        exact hbb
    · refine j_bipush (v := 100) dL_best_18 (by decide) ?_
      refine j_aload dL_best_20 rfl ?_
      refine j_iconst (v := 2) dL_best_22 (by decide) ?_
      refine m_iald (k := 2) dL_best_23 hB (by assumption) (ixk (iC 2 (by decide)) (by omega)) (by omega) ?_
      refine j_isub dL_best_24 ?_
      refine j_istore (L' := [(0, _), (1, _), (2, _), (3, _), (4, _), (5, _), (6, _), (7, _), (8, _), (10, _), (11, _)]) dL_best_25 (by decide) rfl ?_
      refine inner (by omega) _ (100 - lw) _ _ _ rfl (by omega) (by omega) (iS (iC 100 (by decide)) (hle0) (by omega)) (hb.cg (fun n' p' => ?_))
      show _ ∧ _ ↔ _ ∧ _
      omega
  refine j_iconst (v := 0) dL_best_0 (by decide) ?_
  refine j_istore (L' := [(0, _), (1, _), (2, _), (3, _), (4, _), (5, _), (6, _), (7, _)]) dL_best_1 (by decide) rfl ?_
  refine j_ldc2 dL_best_3 hB kc_L_41 ?_
  refine j_lstore (L' := [(0, _), (1, _), (2, _), (3, _), (4, _), (5, _), (6, _), (7, _), (8, _)]) dL_best_6 (by decide) rfl ?_
  refine j_iconst (v := 1) dL_best_8 (by decide) ?_
  refine j_istore (L' := [(0, _), (1, _), (2, _), (3, _), (4, _), (5, _), (6, _), (7, _), (8, _), (10, _)]) dL_best_9 (by decide) rfl ?_
  refine outer 9 1 1 0 _ rfl (by omega) (by omega) rfl (Or.inl ⟨fun n p z => ?_, rfl⟩)
  obtain ⟨z1, z2, z3, z4⟩ := z
  omega
end JLL
