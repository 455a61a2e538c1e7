/-! CueSheets$Reel: rows at q + 1 (lengths), q + 3 (pieces), q + 5 (strains), q + 7 (paces), marks at q + 9 (speeds), q + 14 (splices) -/
abbrev aR : Type := List Int32 × List Int32 × List Int32 × List Int32 × pL × pL
def ReelOK (T : jT) (V : jV) (q : Nat) (r : aR) : Prop := T q = some (kReel (q + 1) (q + 3) (q + 5) (q + 7) (q + 9) (q + 14)) ∧ RowOK T V (q + 1) 10 ∧ RowOK T V (q + 3) 10 ∧ RowOK T V (q + 5) 10 ∧ RowOK T V (q + 7) 10 ∧ MkOK T V (q + 9) r.2.2.2.2.1 ∧ MkOK T V (q + 14) r.2.2.2.2.2 ∧ Rw V (q + 1) = r.1 ∧ Rw V (q + 3) = r.2.1 ∧ Rw V (q + 5) = r.2.2.1 ∧ Rw V (q + 7) = r.2.2.2.1
theorem ReelOK.ag {T : jT} {V V' : jV} {q lo hi : Nat} {r : aR} (h : ReelOK T V q r) (ha : jAg V V' lo hi) (hd : q + 19 ≤ lo ∨ hi ≤ q) : ReelOK T V' q r := by
  obtain ⟨h0, h1, h2, h3, h4, h5, h6, e1, e2, e3, e4⟩ := h
  exact ⟨h0, h1.ag ha (by omega), h2.ag ha (by omega), h3.ag ha (by omega), h4.ag ha (by omega), h5.ag ha (by omega), h6.ag ha (by omega), by rw [Rw_ag ha (by omega)]; exact e1, by rw [Rw_ag ha (by omega)]; exact e2, by rw [Rw_ag ha (by omega)]; exact e3, by rw [Rw_ag ha (by omega)]; exact e4⟩
/-- a foot is lost -/
def lostB (P : pL) (f : Int) : Bool := P.any (fun b => decide (b.1.toInt ≤ f) && decide (f < b.1.toInt + b.2.toInt))
/-- how many of n feet from a on -/
def cnt (g : Int → Bool) (a : Int) : Nat → Int
  | 0 => 0
  | n + 1 => cnt g a n + (if g (a + n) = true then 1 else 0)
theorem cnt_le (g : Int → Bool) (a : Int) (n : Nat) : 0 ≤ cnt g a n ∧ cnt g a n ≤ n := by
  induction n with
  | zero => exact ⟨Int.le_refl _, Int.le_refl _⟩
  | succ n ih => unfold cnt; split <;> omega
theorem cnt_congr {g g' : Int → Bool} {a : Int} {n : Nat} (h : ∀ f, a ≤ f → f < a + n → g f = g' f) : cnt g a n = cnt g' a n := by
  induction n with
  | zero => rfl
  | succ n ih =>
    unfold cnt
    rw [ih (fun f h1 h2 => h f h1 (by omega)), h (a + n) (by omega) (by omega)]
theorem cnt_or {g g' : Int → Bool} {a : Int} {n : Nat} (h : ∀ f, a ≤ f → f < a + n → ¬ (g f = true ∧ g' f = true)) : cnt (fun f => g f || g' f) a n = cnt g a n + cnt g' a n := by
  induction n with
  | zero => rfl
  | succ n ih =>
    unfold cnt
    rw [ih (fun f h1 h2 => h f h1 (by omega))]
    have := h (a + n) (by omega) (by omega)
    cases h1 : g (a + n) <;> cases h2 : g' (a + n) <;> simp [h1, h2] at this ⊢ <;> omega
theorem cnt_iv {b e a : Int} {n : Nat} (h : a ≤ b) : cnt (fun f => decide (b ≤ f) && decide (f < e)) a n = max 0 (min e (a + n) - b) := by
  induction n with
  | zero => show (0 : Int) = _; simp; omega
  | succ n ih =>
    unfold cnt
    rw [ih]
    by_cases h1 : b ≤ a + n <;> by_cases h2 : a + n < e <;> simp [h1, h2] <;> omega
theorem cnt_0 {a : Int} {n : Nat} : cnt (fun _ => false) a n = 0 := by
  induction n with
  | zero => rfl
  | succ n ih => unfold cnt; rw [ih]; rfl
section JReel
variable {l : Launch} {s0 : State} {D : jD} {T : jT} {V : jV} {X : jX} {sz : Nat}
set_option maxRecDepth 100000 in
set_option maxHeartbeats 4000000 in
theorem sp_X2_scenes (hB : jB l s0 D) {q : Nat} {r : aR} (h : ReelOK T V q r) : Sp l s0 D kX2_scenes (jR 1 0 0) 0 0 [.ref q] T V X sz (qI T X sz (fun x V' => V = V' ∧ x.toInt = r.1.length)) := by
  refine Sp.of pn_X2_scenes rfl (Nat.le_of_ble_eq_true rfl) ?_
  refine j_aload_n dX2_scenes_0 rfl ?_
  refine j_getr dX2_scenes_1 hB fl_X2_14 (by first | exact h.1 | exact h.2.1.1 | exact h.2.2.1.1 | exact h.2.2.2.1.1 | exact h.2.2.2.2.1.1 | exact h.2.2.2.2.2.1.1 | exact h.2.2.2.2.2.2.1.1 | exact h.2.2.2.2.2.1.2.1.1 | exact h.2.2.2.2.2.1.2.2.1.1 | exact h.2.2.2.2.2.2.1.2.1.1 | exact h.2.2.2.2.2.2.1.2.2.1.1) (by rfl) ?_
  refine j_cVi dX2_scenes_4 hB mo_X3_size ml_X2_43 (sp_X3_size hB h.2.1) (by first | exact h.1 | exact h.2.1.1 | exact h.2.2.1.1 | exact h.2.2.2.1.1 | exact h.2.2.2.2.1.1 | exact h.2.2.2.2.2.1.1 | exact h.2.2.2.2.2.2.1.1 | exact h.2.2.2.2.2.1.2.1.1 | exact h.2.2.2.2.2.1.2.2.1.1 | exact h.2.2.2.2.2.2.1.2.1.1 | exact h.2.2.2.2.2.2.1.2.2.1.1) rfl rfl rfl rfl ⟨rfl, rfl, by decide, by decide⟩ (Nat.le_of_ble_eq_true rfl) ⟨by decide, by decide⟩ (fun r_4 V_4 h_4 => ?_)
  obtain ⟨rfl, hr⟩ := h_4
  refine j_iret dX2_scenes_7 rfl (rfl) (by decide) (by decide) ?_
  exact ⟨_, rfl, rfl, rfl, rfl, rfl, by rw [hr, h.2.2.2.2.2.2.2.1]⟩
set_option maxRecDepth 100000 in
set_option maxHeartbeats 4000000 in
theorem sp_X2_hasCue (hB : jB l s0 D) {q : Nat} {r : aR} {i : Int32} (h : ReelOK T V q r) : Sp l s0 D kX2_hasCue (jR 1 0 0) 0 0 [.ref q, .int i] T V X sz (qI T X sz (fun x V' => V = V' ∧ (x = 1 ∧ ¬ atZ r.2.1 i.toInt = -2000001 ∨ x = 0 ∧ atZ r.2.1 i.toInt = -2000001))) := by
  refine Sp.of pn_X2_hasCue rfl (Nat.le_of_ble_eq_true rfl) ?_
  refine j_aload_n dX2_hasCue_0 rfl ?_
  refine j_getr dX2_hasCue_1 hB fl_X2_20 (by first | exact h.1 | exact h.2.1.1 | exact h.2.2.1.1 | exact h.2.2.2.1.1 | exact h.2.2.2.2.1.1 | exact h.2.2.2.2.2.1.1 | exact h.2.2.2.2.2.2.1.1 | exact h.2.2.2.2.2.1.2.1.1 | exact h.2.2.2.2.2.1.2.2.1.1 | exact h.2.2.2.2.2.2.1.2.1.1 | exact h.2.2.2.2.2.2.1.2.2.1.1) (by rfl) ?_
  refine j_iload_n dX2_hasCue_4 rfl ?_
  refine j_cVi dX2_hasCue_5 hB mo_X3_at ml_X2_47 (sp_X3_at hB h.2.2.1) (by first | exact h.1 | exact h.2.1.1 | exact h.2.2.1.1 | exact h.2.2.2.1.1 | exact h.2.2.2.2.1.1 | exact h.2.2.2.2.2.1.1 | exact h.2.2.2.2.2.2.1.1 | exact h.2.2.2.2.2.1.2.1.1 | exact h.2.2.2.2.2.1.2.2.1.1 | exact h.2.2.2.2.2.2.1.2.1.1 | exact h.2.2.2.2.2.2.1.2.2.1.1) rfl rfl rfl rfl ⟨rfl, rfl, by decide, by decide⟩ (Nat.le_of_ble_eq_true rfl) ⟨by decide, by decide⟩ (fun r_5 V_5 h_5 => ?_)
  obtain ⟨rfl, hr⟩ := h_5
  rw [h.2.2.2.2.2.2.2.2.1] at hr
  subst hr
  refine j_ldc dX2_hasCue_8 hB kc_X2_51 ?_
  refine j_icmp_eq (tgt := 17) dX2_hasCue_10 (by decide) (fun c_10 => ?_) (fun c_10 => ?_)
  · refine j_iconst (v := 0) dX2_hasCue_17 (by decide) ?_
    refine j_iret dX2_hasCue_18 rfl (rfl) (by decide) (by decide) ?_
    refine ⟨_, rfl, rfl, rfl, rfl, rfl, ?_⟩
    first | exact Or.inl ⟨rfl, c_10⟩ | exact Or.inr ⟨rfl, c_10⟩
  · refine j_iconst (v := 1) dX2_hasCue_13 (by decide) ?_
    refine j_goto (tgt := 18) dX2_hasCue_14 (by decide) ?_
    refine j_iret dX2_hasCue_18 rfl (rfl) (by decide) (by decide) ?_
    refine ⟨_, rfl, rfl, rfl, rfl, rfl, ?_⟩
    first | exact Or.inl ⟨rfl, c_10⟩ | exact Or.inr ⟨rfl, c_10⟩
set_option maxRecDepth 100000 in
set_option maxHeartbeats 4000000 in
theorem sp_X2_extend (hB : jB l s0 D) {q : Nat} {r : aR} {a b c d : Int32} (h : ReelOK T V q r) (n1 : r.1.length < 10) (n2 : r.2.1.length < 10) (n3 : r.2.2.1.length < 10) (n4 : r.2.2.2.1.length < 10) : Sp l s0 D kX2_extend (jR 1 0 0) 0 0 [.ref q, .int a, .int b, .int c, .int d] T V X sz (qU T X sz (fun V' => ReelOK T V' q (r.1 ++ [a], r.2.1 ++ [b], r.2.2.1 ++ [c], r.2.2.2.1 ++ [d], r.2.2.2.2) ∧ jAg V V' q (q + 19))) := by
  refine Sp.of pn_X2_extend rfl (Nat.le_of_ble_eq_true rfl) ?_
  obtain ⟨h0, h1, h2, h3, h4, h5, h6, e1, e2, e3, e4⟩ := id h
  refine j_aload_n dX2_extend_0 rfl ?_
  refine j_getr dX2_extend_1 hB fl_X2_14 (by first | exact h.1 | exact h.2.1.1 | exact h.2.2.1.1 | exact h.2.2.2.1.1 | exact h.2.2.2.2.1.1 | exact h.2.2.2.2.2.1.1 | exact h.2.2.2.2.2.2.1.1 | exact h.2.2.2.2.2.1.2.1.1 | exact h.2.2.2.2.2.1.2.2.1.1 | exact h.2.2.2.2.2.2.1.2.1.1 | exact h.2.2.2.2.2.2.1.2.2.1.1) (by rfl) ?_
  refine j_iload_n dX2_extend_4 rfl ?_
  refine j_cVu dX2_extend_5 hB mo_X3_add ml_X2_52 (sp_X3_add hB (h1)) (by first | exact h.1 | exact h.2.1.1 | exact h.2.2.1.1 | exact h.2.2.2.1.1 | exact h.2.2.2.2.1.1 | exact h.2.2.2.2.2.1.1 | exact h.2.2.2.2.2.2.1.1 | exact h.2.2.2.2.2.1.2.1.1 | exact h.2.2.2.2.2.1.2.2.1.1 | exact h.2.2.2.2.2.2.1.2.1.1 | exact h.2.2.2.2.2.2.1.2.2.1.1) rfl rfl rfl rfl ⟨rfl, rfl, by decide, by decide⟩ (Nat.le_of_ble_eq_true rfl) ⟨by decide, by decide⟩ (fun V_5 h_5 => ?_)
  obtain ⟨g1, f1, a1⟩ := h_5
  refine j_aload_n dX2_extend_8 rfl ?_
  refine j_getr dX2_extend_9 hB fl_X2_20 (by first | exact h.1 | exact h.2.1.1 | exact h.2.2.1.1 | exact h.2.2.2.1.1 | exact h.2.2.2.2.1.1 | exact h.2.2.2.2.2.1.1 | exact h.2.2.2.2.2.2.1.1 | exact h.2.2.2.2.2.1.2.1.1 | exact h.2.2.2.2.2.1.2.2.1.1 | exact h.2.2.2.2.2.2.1.2.1.1 | exact h.2.2.2.2.2.2.1.2.2.1.1) (by rfl) ?_
  refine j_iload_n dX2_extend_12 rfl ?_
  refine j_cVu dX2_extend_13 hB mo_X3_add ml_X2_52 (sp_X3_add hB (h2.ag a1 (by omega))) (by first | exact h.1 | exact h.2.1.1 | exact h.2.2.1.1 | exact h.2.2.2.1.1 | exact h.2.2.2.2.1.1 | exact h.2.2.2.2.2.1.1 | exact h.2.2.2.2.2.2.1.1 | exact h.2.2.2.2.2.1.2.1.1 | exact h.2.2.2.2.2.1.2.2.1.1 | exact h.2.2.2.2.2.2.1.2.1.1 | exact h.2.2.2.2.2.2.1.2.2.1.1) rfl rfl rfl rfl ⟨rfl, rfl, by decide, by decide⟩ (Nat.le_of_ble_eq_true rfl) ⟨by decide, by decide⟩ (fun V_13 h_13 => ?_)
  obtain ⟨g2, f2, a2⟩ := h_13
  refine j_aload_n dX2_extend_16 rfl ?_
  refine j_getr dX2_extend_17 hB fl_X2_23 (by first | exact h.1 | exact h.2.1.1 | exact h.2.2.1.1 | exact h.2.2.2.1.1 | exact h.2.2.2.2.1.1 | exact h.2.2.2.2.2.1.1 | exact h.2.2.2.2.2.2.1.1 | exact h.2.2.2.2.2.1.2.1.1 | exact h.2.2.2.2.2.1.2.2.1.1 | exact h.2.2.2.2.2.2.1.2.1.1 | exact h.2.2.2.2.2.2.1.2.2.1.1) (by rfl) ?_
  refine j_iload_n dX2_extend_20 rfl ?_
  refine j_cVu dX2_extend_21 hB mo_X3_add ml_X2_52 (sp_X3_add hB ((h3.ag a1 (by omega)).ag a2 (by omega))) (by first | exact h.1 | exact h.2.1.1 | exact h.2.2.1.1 | exact h.2.2.2.1.1 | exact h.2.2.2.2.1.1 | exact h.2.2.2.2.2.1.1 | exact h.2.2.2.2.2.2.1.1 | exact h.2.2.2.2.2.1.2.1.1 | exact h.2.2.2.2.2.1.2.2.1.1 | exact h.2.2.2.2.2.2.1.2.1.1 | exact h.2.2.2.2.2.2.1.2.2.1.1) rfl rfl rfl rfl ⟨rfl, rfl, by decide, by decide⟩ (Nat.le_of_ble_eq_true rfl) ⟨by decide, by decide⟩ (fun V_21 h_21 => ?_)
  obtain ⟨g3, f3, a3⟩ := h_21
  refine j_aload_n dX2_extend_24 rfl ?_
  refine j_getr dX2_extend_25 hB fl_X2_26 (by first | exact h.1 | exact h.2.1.1 | exact h.2.2.1.1 | exact h.2.2.2.1.1 | exact h.2.2.2.2.1.1 | exact h.2.2.2.2.2.1.1 | exact h.2.2.2.2.2.2.1.1 | exact h.2.2.2.2.2.1.2.1.1 | exact h.2.2.2.2.2.1.2.2.1.1 | exact h.2.2.2.2.2.2.1.2.1.1 | exact h.2.2.2.2.2.2.1.2.2.1.1) (by rfl) ?_
  refine j_iload dX2_extend_28 rfl ?_
  refine j_cVu dX2_extend_30 hB mo_X3_add ml_X2_52 (sp_X3_add hB (((h4.ag a1 (by omega)).ag a2 (by omega)).ag a3 (by omega))) (by first | exact h.1 | exact h.2.1.1 | exact h.2.2.1.1 | exact h.2.2.2.1.1 | exact h.2.2.2.2.1.1 | exact h.2.2.2.2.2.1.1 | exact h.2.2.2.2.2.2.1.1 | exact h.2.2.2.2.2.1.2.1.1 | exact h.2.2.2.2.2.1.2.2.1.1 | exact h.2.2.2.2.2.2.1.2.1.1 | exact h.2.2.2.2.2.2.1.2.2.1.1) rfl rfl rfl rfl ⟨rfl, rfl, by decide, by decide⟩ (Nat.le_of_ble_eq_true rfl) ⟨by decide, by decide⟩ (fun V_30 h_30 => ?_)
  obtain ⟨g4, f4, a4⟩ := h_30
  refine j_vret dX2_extend_33 rfl (by decide) (by decide) ?_
  have w1 := a1.wide (show q ≤ q + 1 by omega) (show q + 1 + 2 ≤ q + 19 by omega)
  have w2 := a2.wide (show q ≤ q + 3 by omega) (show q + 3 + 2 ≤ q + 19 by omega)
  have w3 := a3.wide (show q ≤ q + 5 by omega) (show q + 5 + 2 ≤ q + 19 by omega)
  have w4 := a4.wide (show q ≤ q + 7 by omega) (show q + 7 + 2 ≤ q + 19 by omega)
  rw [e1, if_pos n1] at f1
  rw [Rw_ag a1 (by omega), e2, if_pos n2] at f2
  rw [Rw_ag a2 (by omega), Rw_ag a1 (by omega), e3, if_pos n3] at f3
  rw [Rw_ag a3 (by omega), Rw_ag a2 (by omega), Rw_ag a1 (by omega), e4, if_pos n4] at f4
  exact ⟨rfl, rfl, rfl, rfl, ⟨h0, ((g1.ag a2 (by omega)).ag a3 (by omega)).ag a4 (by omega), (g2.ag a3 (by omega)).ag a4 (by omega), g3.ag a4 (by omega), g4, (((h5.ag a1 (by omega)).ag a2 (by omega)).ag a3 (by omega)).ag a4 (by omega), (((h6.ag a1 (by omega)).ag a2 (by omega)).ag a3 (by omega)).ag a4 (by omega), by rw [Rw_ag a4 (by omega), Rw_ag a3 (by omega), Rw_ag a2 (by omega)]; exact f1, by rw [Rw_ag a4 (by omega), Rw_ag a3 (by omega)]; exact f2, by rw [Rw_ag a4 (by omega)]; exact f3, f4⟩, ((w1.tr w2).tr w3).tr w4⟩
set_option maxRecDepth 100000 in
set_option maxHeartbeats 4000000 in
theorem sp_X2_cutOut (hB : jB l s0 D) {q : Nat} {r : aR} {i : Int32} (h : ReelOK T V q r) (hi : 0 ≤ i.toInt) : Sp l s0 D kX2_cutOut (jR 2 0 0) 0 0 [.ref q, .int i] T V X sz (qU T X sz (fun V' => ReelOK T V' q (r.1.eraseIdx i.toInt.toNat, r.2.1.eraseIdx i.toInt.toNat, r.2.2.1.eraseIdx i.toInt.toNat, r.2.2.2.1.eraseIdx i.toInt.toNat, r.2.2.2.2) ∧ jAg V V' q (q + 19))) := by
  refine Sp.of pn_X2_cutOut rfl (Nat.le_of_ble_eq_true rfl) ?_
  obtain ⟨h0, h1, h2, h3, h4, h5, h6, e1, e2, e3, e4⟩ := id h
  refine j_aload_n dX2_cutOut_0 rfl ?_
  refine j_getr dX2_cutOut_1 hB fl_X2_14 (by first | exact h.1 | exact h.2.1.1 | exact h.2.2.1.1 | exact h.2.2.2.1.1 | exact h.2.2.2.2.1.1 | exact h.2.2.2.2.2.1.1 | exact h.2.2.2.2.2.2.1.1 | exact h.2.2.2.2.2.1.2.1.1 | exact h.2.2.2.2.2.1.2.2.1.1 | exact h.2.2.2.2.2.2.1.2.1.1 | exact h.2.2.2.2.2.2.1.2.2.1.1) (by rfl) ?_
  refine j_iload_n dX2_cutOut_4 rfl ?_
  refine j_cVu dX2_cutOut_5 hB mo_X3_remove ml_X2_55 (sp_X3_remove hB (h1)) (by first | exact h.1 | exact h.2.1.1 | exact h.2.2.1.1 | exact h.2.2.2.1.1 | exact h.2.2.2.2.1.1 | exact h.2.2.2.2.2.1.1 | exact h.2.2.2.2.2.2.1.1 | exact h.2.2.2.2.2.1.2.1.1 | exact h.2.2.2.2.2.1.2.2.1.1 | exact h.2.2.2.2.2.2.1.2.1.1 | exact h.2.2.2.2.2.2.1.2.2.1.1) rfl rfl rfl rfl ⟨rfl, rfl, by decide, by decide⟩ (Nat.le_of_ble_eq_true rfl) ⟨by decide, by decide⟩ (fun V_5 h_5 => ?_)
  obtain ⟨g1, f1, a1⟩ := h_5
  refine j_aload_n dX2_cutOut_8 rfl ?_
  refine j_getr dX2_cutOut_9 hB fl_X2_20 (by first | exact h.1 | exact h.2.1.1 | exact h.2.2.1.1 | exact h.2.2.2.1.1 | exact h.2.2.2.2.1.1 | exact h.2.2.2.2.2.1.1 | exact h.2.2.2.2.2.2.1.1 | exact h.2.2.2.2.2.1.2.1.1 | exact h.2.2.2.2.2.1.2.2.1.1 | exact h.2.2.2.2.2.2.1.2.1.1 | exact h.2.2.2.2.2.2.1.2.2.1.1) (by rfl) ?_
  refine j_iload_n dX2_cutOut_12 rfl ?_
  refine j_cVu dX2_cutOut_13 hB mo_X3_remove ml_X2_55 (sp_X3_remove hB (h2.ag a1 (by omega))) (by first | exact h.1 | exact h.2.1.1 | exact h.2.2.1.1 | exact h.2.2.2.1.1 | exact h.2.2.2.2.1.1 | exact h.2.2.2.2.2.1.1 | exact h.2.2.2.2.2.2.1.1 | exact h.2.2.2.2.2.1.2.1.1 | exact h.2.2.2.2.2.1.2.2.1.1 | exact h.2.2.2.2.2.2.1.2.1.1 | exact h.2.2.2.2.2.2.1.2.2.1.1) rfl rfl rfl rfl ⟨rfl, rfl, by decide, by decide⟩ (Nat.le_of_ble_eq_true rfl) ⟨by decide, by decide⟩ (fun V_13 h_13 => ?_)
  obtain ⟨g2, f2, a2⟩ := h_13
  refine j_aload_n dX2_cutOut_16 rfl ?_
  refine j_getr dX2_cutOut_17 hB fl_X2_23 (by first | exact h.1 | exact h.2.1.1 | exact h.2.2.1.1 | exact h.2.2.2.1.1 | exact h.2.2.2.2.1.1 | exact h.2.2.2.2.2.1.1 | exact h.2.2.2.2.2.2.1.1 | exact h.2.2.2.2.2.1.2.1.1 | exact h.2.2.2.2.2.1.2.2.1.1 | exact h.2.2.2.2.2.2.1.2.1.1 | exact h.2.2.2.2.2.2.1.2.2.1.1) (by rfl) ?_
  refine j_iload_n dX2_cutOut_20 rfl ?_
  refine j_cVu dX2_cutOut_21 hB mo_X3_remove ml_X2_55 (sp_X3_remove hB ((h3.ag a1 (by omega)).ag a2 (by omega))) (by first | exact h.1 | exact h.2.1.1 | exact h.2.2.1.1 | exact h.2.2.2.1.1 | exact h.2.2.2.2.1.1 | exact h.2.2.2.2.2.1.1 | exact h.2.2.2.2.2.2.1.1 | exact h.2.2.2.2.2.1.2.1.1 | exact h.2.2.2.2.2.1.2.2.1.1 | exact h.2.2.2.2.2.2.1.2.1.1 | exact h.2.2.2.2.2.2.1.2.2.1.1) rfl rfl rfl rfl ⟨rfl, rfl, by decide, by decide⟩ (Nat.le_of_ble_eq_true rfl) ⟨by decide, by decide⟩ (fun V_21 h_21 => ?_)
  obtain ⟨g3, f3, a3⟩ := h_21
  refine j_aload_n dX2_cutOut_24 rfl ?_
  refine j_getr dX2_cutOut_25 hB fl_X2_26 (by first | exact h.1 | exact h.2.1.1 | exact h.2.2.1.1 | exact h.2.2.2.1.1 | exact h.2.2.2.2.1.1 | exact h.2.2.2.2.2.1.1 | exact h.2.2.2.2.2.2.1.1 | exact h.2.2.2.2.2.1.2.1.1 | exact h.2.2.2.2.2.1.2.2.1.1 | exact h.2.2.2.2.2.2.1.2.1.1 | exact h.2.2.2.2.2.2.1.2.2.1.1) (by rfl) ?_
  refine j_iload_n dX2_cutOut_28 rfl ?_
  refine j_cVu dX2_cutOut_29 hB mo_X3_remove ml_X2_55 (sp_X3_remove hB (((h4.ag a1 (by omega)).ag a2 (by omega)).ag a3 (by omega))) (by first | exact h.1 | exact h.2.1.1 | exact h.2.2.1.1 | exact h.2.2.2.1.1 | exact h.2.2.2.2.1.1 | exact h.2.2.2.2.2.1.1 | exact h.2.2.2.2.2.2.1.1 | exact h.2.2.2.2.2.1.2.1.1 | exact h.2.2.2.2.2.1.2.2.1.1 | exact h.2.2.2.2.2.2.1.2.1.1 | exact h.2.2.2.2.2.2.1.2.2.1.1) rfl rfl rfl rfl ⟨rfl, rfl, by decide, by decide⟩ (Nat.le_of_ble_eq_true rfl) ⟨by decide, by decide⟩ (fun V_29 h_29 => ?_)
  obtain ⟨g4, f4, a4⟩ := h_29
  refine j_vret dX2_cutOut_32 rfl (by decide) (by decide) ?_
  have w1 := a1.wide (show q ≤ q + 1 by omega) (show q + 1 + 2 ≤ q + 19 by omega)
  have w2 := a2.wide (show q ≤ q + 3 by omega) (show q + 3 + 2 ≤ q + 19 by omega)
  have w3 := a3.wide (show q ≤ q + 5 by omega) (show q + 5 + 2 ≤ q + 19 by omega)
  have w4 := a4.wide (show q ≤ q + 7 by omega) (show q + 7 + 2 ≤ q + 19 by omega)
  rw [e1, if_pos hi] at f1
  rw [Rw_ag a1 (by omega), e2, if_pos hi] at f2
  rw [Rw_ag a2 (by omega), Rw_ag a1 (by omega), e3, if_pos hi] at f3
  rw [Rw_ag a3 (by omega), Rw_ag a2 (by omega), Rw_ag a1 (by omega), e4, if_pos hi] at f4
  exact ⟨rfl, rfl, rfl, rfl, ⟨h0, ((g1.ag a2 (by omega)).ag a3 (by omega)).ag a4 (by omega), (g2.ag a3 (by omega)).ag a4 (by omega), g3.ag a4 (by omega), g4, (((h5.ag a1 (by omega)).ag a2 (by omega)).ag a3 (by omega)).ag a4 (by omega), (((h6.ag a1 (by omega)).ag a2 (by omega)).ag a3 (by omega)).ag a4 (by omega), by rw [Rw_ag a4 (by omega), Rw_ag a3 (by omega), Rw_ag a2 (by omega)]; exact f1, by rw [Rw_ag a4 (by omega), Rw_ag a3 (by omega)]; exact f2, by rw [Rw_ag a4 (by omega)]; exact f3, f4⟩, ((w1.tr w2).tr w3).tr w4⟩
set_option maxRecDepth 100000 in
set_option maxHeartbeats 4000000 in
theorem sp_X2_giveCue (hB : jB l s0 D) {q : Nat} {r : aR} {i b c d : Int32} (h : ReelOK T V q r) : Sp l s0 D kX2_giveCue (jR 1 0 0) 0 0 [.ref q, .int i, .int b, .int c, .int d] T V X sz (qU T X sz (fun V' => ReelOK T V' q (r.1, setZ r.2.1 i.toInt b, setZ r.2.2.1 i.toInt c, setZ r.2.2.2.1 i.toInt d, r.2.2.2.2) ∧ jAg V V' q (q + 19))) := by
  refine Sp.of pn_X2_giveCue rfl (Nat.le_of_ble_eq_true rfl) ?_
  obtain ⟨h0, h1, h2, h3, h4, h5, h6, e1, e2, e3, e4⟩ := id h
  refine j_aload_n dX2_giveCue_0 rfl ?_
  refine j_getr dX2_giveCue_1 hB fl_X2_20 (by first | exact h.1 | exact h.2.1.1 | exact h.2.2.1.1 | exact h.2.2.2.1.1 | exact h.2.2.2.2.1.1 | exact h.2.2.2.2.2.1.1 | exact h.2.2.2.2.2.2.1.1 | exact h.2.2.2.2.2.1.2.1.1 | exact h.2.2.2.2.2.1.2.2.1.1 | exact h.2.2.2.2.2.2.1.2.1.1 | exact h.2.2.2.2.2.2.1.2.2.1.1) (by rfl) ?_
  refine j_iload_n dX2_giveCue_4 rfl ?_
  refine j_iload_n dX2_giveCue_5 rfl ?_
  refine j_cVu dX2_giveCue_6 hB mo_X3_put ml_X2_58 (sp_X3_put hB (h2)) (by first | exact h.1 | exact h.2.1.1 | exact h.2.2.1.1 | exact h.2.2.2.1.1 | exact h.2.2.2.2.1.1 | exact h.2.2.2.2.2.1.1 | exact h.2.2.2.2.2.2.1.1 | exact h.2.2.2.2.2.1.2.1.1 | exact h.2.2.2.2.2.1.2.2.1.1 | exact h.2.2.2.2.2.2.1.2.1.1 | exact h.2.2.2.2.2.2.1.2.2.1.1) rfl rfl rfl rfl ⟨rfl, rfl, by decide, by decide⟩ (Nat.le_of_ble_eq_true rfl) ⟨by decide, by decide⟩ (fun V_6 h_6 => ?_)
  obtain ⟨g2, f2, a2⟩ := h_6
  refine j_aload_n dX2_giveCue_9 rfl ?_
  refine j_getr dX2_giveCue_10 hB fl_X2_23 (by first | exact h.1 | exact h.2.1.1 | exact h.2.2.1.1 | exact h.2.2.2.1.1 | exact h.2.2.2.2.1.1 | exact h.2.2.2.2.2.1.1 | exact h.2.2.2.2.2.2.1.1 | exact h.2.2.2.2.2.1.2.1.1 | exact h.2.2.2.2.2.1.2.2.1.1 | exact h.2.2.2.2.2.2.1.2.1.1 | exact h.2.2.2.2.2.2.1.2.2.1.1) (by rfl) ?_
  refine j_iload_n dX2_giveCue_13 rfl ?_
  refine j_iload_n dX2_giveCue_14 rfl ?_
  refine j_cVu dX2_giveCue_15 hB mo_X3_put ml_X2_58 (sp_X3_put hB (h3.ag a2 (by omega))) (by first | exact h.1 | exact h.2.1.1 | exact h.2.2.1.1 | exact h.2.2.2.1.1 | exact h.2.2.2.2.1.1 | exact h.2.2.2.2.2.1.1 | exact h.2.2.2.2.2.2.1.1 | exact h.2.2.2.2.2.1.2.1.1 | exact h.2.2.2.2.2.1.2.2.1.1 | exact h.2.2.2.2.2.2.1.2.1.1 | exact h.2.2.2.2.2.2.1.2.2.1.1) rfl rfl rfl rfl ⟨rfl, rfl, by decide, by decide⟩ (Nat.le_of_ble_eq_true rfl) ⟨by decide, by decide⟩ (fun V_15 h_15 => ?_)
  obtain ⟨g3, f3, a3⟩ := h_15
  refine j_aload_n dX2_giveCue_18 rfl ?_
  refine j_getr dX2_giveCue_19 hB fl_X2_26 (by first | exact h.1 | exact h.2.1.1 | exact h.2.2.1.1 | exact h.2.2.2.1.1 | exact h.2.2.2.2.1.1 | exact h.2.2.2.2.2.1.1 | exact h.2.2.2.2.2.2.1.1 | exact h.2.2.2.2.2.1.2.1.1 | exact h.2.2.2.2.2.1.2.2.1.1 | exact h.2.2.2.2.2.2.1.2.1.1 | exact h.2.2.2.2.2.2.1.2.2.1.1) (by rfl) ?_
  refine j_iload_n dX2_giveCue_22 rfl ?_
  refine j_iload dX2_giveCue_23 rfl ?_
  refine j_cVu dX2_giveCue_25 hB mo_X3_put ml_X2_58 (sp_X3_put hB ((h4.ag a2 (by omega)).ag a3 (by omega))) (by first | exact h.1 | exact h.2.1.1 | exact h.2.2.1.1 | exact h.2.2.2.1.1 | exact h.2.2.2.2.1.1 | exact h.2.2.2.2.2.1.1 | exact h.2.2.2.2.2.2.1.1 | exact h.2.2.2.2.2.1.2.1.1 | exact h.2.2.2.2.2.1.2.2.1.1 | exact h.2.2.2.2.2.2.1.2.1.1 | exact h.2.2.2.2.2.2.1.2.2.1.1) rfl rfl rfl rfl ⟨rfl, rfl, by decide, by decide⟩ (Nat.le_of_ble_eq_true rfl) ⟨by decide, by decide⟩ (fun V_25 h_25 => ?_)
  obtain ⟨g4, f4, a4⟩ := h_25
  refine j_vret dX2_giveCue_28 rfl (by decide) (by decide) ?_
  have w2 := a2.wide (show q ≤ q + 3 by omega) (show q + 3 + 2 ≤ q + 19 by omega)
  have w3 := a3.wide (show q ≤ q + 5 by omega) (show q + 5 + 2 ≤ q + 19 by omega)
  have w4 := a4.wide (show q ≤ q + 7 by omega) (show q + 7 + 2 ≤ q + 19 by omega)
  rw [e2] at f2
  rw [Rw_ag a2 (by omega), e3] at f3
  rw [Rw_ag a3 (by omega), Rw_ag a2 (by omega), e4] at f4
  exact ⟨rfl, rfl, rfl, rfl, ⟨h0, ((h1.ag a2 (by omega)).ag a3 (by omega)).ag a4 (by omega), (g2.ag a3 (by omega)).ag a4 (by omega), g3.ag a4 (by omega), g4, ((h5.ag a2 (by omega)).ag a3 (by omega)).ag a4 (by omega), ((h6.ag a2 (by omega)).ag a3 (by omega)).ag a4 (by omega), by rw [Rw_ag a4 (by omega), Rw_ag a3 (by omega), Rw_ag a2 (by omega)]; exact e1, by rw [Rw_ag a4 (by omega), Rw_ag a3 (by omega)]; exact f2, by rw [Rw_ag a4 (by omega)]; exact f3, f4⟩, (w2.tr w3).tr w4⟩
set_option maxRecDepth 100000 in
set_option maxHeartbeats 4000000 in
theorem sp_X2_takeFrom (hB : jB l s0 D) {q q' : Nat} {r r' : aR} (h : ReelOK T V q r) (h' : ReelOK T V q' r') (hd : q + 19 ≤ q' ∨ q' + 19 ≤ q) : Sp l s0 D kX2_takeFrom (jR 3 0 0) 0 0 [.ref q, .ref q'] T V X sz (qU T X sz (fun V' => ReelOK T V' q r' ∧ jAg V V' q (q + 19))) := by
  refine Sp.of pn_X2_takeFrom rfl (Nat.le_of_ble_eq_true rfl) ?_
  obtain ⟨h0, h1, h2, h3, h4, h5, h6, e1, e2, e3, e4⟩ := id h
  obtain ⟨p0, p1, p2, p3, p4, p5, p6, d1, d2, d3, d4⟩ := id h'
  refine j_aload_n dX2_takeFrom_0 rfl ?_
  refine j_getr dX2_takeFrom_1 hB fl_X2_14 (by first | exact h.1 | exact h.2.1.1 | exact h.2.2.1.1 | exact h.2.2.2.1.1 | exact h.2.2.2.2.1.1 | exact h.2.2.2.2.2.1.1 | exact h.2.2.2.2.2.2.1.1 | exact h.2.2.2.2.2.1.2.1.1 | exact h.2.2.2.2.2.1.2.2.1.1 | exact h.2.2.2.2.2.2.1.2.1.1 | exact h.2.2.2.2.2.2.1.2.2.1.1 | exact p0 | exact p1.1 | exact p2.1 | exact p3.1 | exact p4.1 | exact p5.1 | exact p6.1) (by rfl) ?_
  refine j_aload_n dX2_takeFrom_4 rfl ?_
  refine j_getr dX2_takeFrom_5 hB fl_X2_14 (by first | exact h.1 | exact h.2.1.1 | exact h.2.2.1.1 | exact h.2.2.2.1.1 | exact h.2.2.2.2.1.1 | exact h.2.2.2.2.2.1.1 | exact h.2.2.2.2.2.2.1.1 | exact h.2.2.2.2.2.1.2.1.1 | exact h.2.2.2.2.2.1.2.2.1.1 | exact h.2.2.2.2.2.2.1.2.1.1 | exact h.2.2.2.2.2.2.1.2.2.1.1 | exact p0 | exact p1.1 | exact p2.1 | exact p3.1 | exact p4.1 | exact p5.1 | exact p6.1) (by rfl) ?_
  refine j_cVu dX2_takeFrom_8 hB mo_X3_takeFrom ml_X2_82 (sp_X3_takeFrom hB (h1) (p1) (by omega) (p1.le)) (by first | exact h.1 | exact h.2.1.1 | exact h.2.2.1.1 | exact h.2.2.2.1.1 | exact h.2.2.2.2.1.1 | exact h.2.2.2.2.2.1.1 | exact h.2.2.2.2.2.2.1.1 | exact h.2.2.2.2.2.1.2.1.1 | exact h.2.2.2.2.2.1.2.2.1.1 | exact h.2.2.2.2.2.2.1.2.1.1 | exact h.2.2.2.2.2.2.1.2.2.1.1 | exact p0 | exact p1.1 | exact p2.1 | exact p3.1 | exact p4.1 | exact p5.1 | exact p6.1) rfl rfl rfl rfl ⟨rfl, rfl, by decide, by decide⟩ (Nat.le_of_ble_eq_true rfl) ⟨by decide, by decide⟩ (fun V_8 h_8 => ?_)
  obtain ⟨g1, f1, a1⟩ := h_8
  refine j_aload_n dX2_takeFrom_11 rfl ?_
  refine j_getr dX2_takeFrom_12 hB fl_X2_20 (by first | exact h.1 | exact h.2.1.1 | exact h.2.2.1.1 | exact h.2.2.2.1.1 | exact h.2.2.2.2.1.1 | exact h.2.2.2.2.2.1.1 | exact h.2.2.2.2.2.2.1.1 | exact h.2.2.2.2.2.1.2.1.1 | exact h.2.2.2.2.2.1.2.2.1.1 | exact h.2.2.2.2.2.2.1.2.1.1 | exact h.2.2.2.2.2.2.1.2.2.1.1 | exact p0 | exact p1.1 | exact p2.1 | exact p3.1 | exact p4.1 | exact p5.1 | exact p6.1) (by rfl) ?_
  refine j_aload_n dX2_takeFrom_15 rfl ?_
  refine j_getr dX2_takeFrom_16 hB fl_X2_20 (by first | exact h.1 | exact h.2.1.1 | exact h.2.2.1.1 | exact h.2.2.2.1.1 | exact h.2.2.2.2.1.1 | exact h.2.2.2.2.2.1.1 | exact h.2.2.2.2.2.2.1.1 | exact h.2.2.2.2.2.1.2.1.1 | exact h.2.2.2.2.2.1.2.2.1.1 | exact h.2.2.2.2.2.2.1.2.1.1 | exact h.2.2.2.2.2.2.1.2.2.1.1 | exact p0 | exact p1.1 | exact p2.1 | exact p3.1 | exact p4.1 | exact p5.1 | exact p6.1) (by rfl) ?_
  refine j_cVu dX2_takeFrom_19 hB mo_X3_takeFrom ml_X2_82 (sp_X3_takeFrom hB ((h2).ag a1 (by omega)) ((p2).ag a1 (by omega)) (by omega) (by rw [Rw_ag a1 (by omega)]; exact p2.le)) (by first | exact h.1 | exact h.2.1.1 | exact h.2.2.1.1 | exact h.2.2.2.1.1 | exact h.2.2.2.2.1.1 | exact h.2.2.2.2.2.1.1 | exact h.2.2.2.2.2.2.1.1 | exact h.2.2.2.2.2.1.2.1.1 | exact h.2.2.2.2.2.1.2.2.1.1 | exact h.2.2.2.2.2.2.1.2.1.1 | exact h.2.2.2.2.2.2.1.2.2.1.1 | exact p0 | exact p1.1 | exact p2.1 | exact p3.1 | exact p4.1 | exact p5.1 | exact p6.1) rfl rfl rfl rfl ⟨rfl, rfl, by decide, by decide⟩ (Nat.le_of_ble_eq_true rfl) ⟨by decide, by decide⟩ (fun V_19 h_19 => ?_)
  obtain ⟨g2, f2, a2⟩ := h_19
  refine j_aload_n dX2_takeFrom_22 rfl ?_
  refine j_getr dX2_takeFrom_23 hB fl_X2_23 (by first | exact h.1 | exact h.2.1.1 | exact h.2.2.1.1 | exact h.2.2.2.1.1 | exact h.2.2.2.2.1.1 | exact h.2.2.2.2.2.1.1 | exact h.2.2.2.2.2.2.1.1 | exact h.2.2.2.2.2.1.2.1.1 | exact h.2.2.2.2.2.1.2.2.1.1 | exact h.2.2.2.2.2.2.1.2.1.1 | exact h.2.2.2.2.2.2.1.2.2.1.1 | exact p0 | exact p1.1 | exact p2.1 | exact p3.1 | exact p4.1 | exact p5.1 | exact p6.1) (by rfl) ?_
  refine j_aload_n dX2_takeFrom_26 rfl ?_
  refine j_getr dX2_takeFrom_27 hB fl_X2_23 (by first | exact h.1 | exact h.2.1.1 | exact h.2.2.1.1 | exact h.2.2.2.1.1 | exact h.2.2.2.2.1.1 | exact h.2.2.2.2.2.1.1 | exact h.2.2.2.2.2.2.1.1 | exact h.2.2.2.2.2.1.2.1.1 | exact h.2.2.2.2.2.1.2.2.1.1 | exact h.2.2.2.2.2.2.1.2.1.1 | exact h.2.2.2.2.2.2.1.2.2.1.1 | exact p0 | exact p1.1 | exact p2.1 | exact p3.1 | exact p4.1 | exact p5.1 | exact p6.1) (by rfl) ?_
  refine j_cVu dX2_takeFrom_30 hB mo_X3_takeFrom ml_X2_82 (sp_X3_takeFrom hB (((h3).ag a1 (by omega)).ag a2 (by omega)) (((p3).ag a1 (by omega)).ag a2 (by omega)) (by omega) (by rw [Rw_ag a2 (by omega), Rw_ag a1 (by omega)]; exact p3.le)) (by first | exact h.1 | exact h.2.1.1 | exact h.2.2.1.1 | exact h.2.2.2.1.1 | exact h.2.2.2.2.1.1 | exact h.2.2.2.2.2.1.1 | exact h.2.2.2.2.2.2.1.1 | exact h.2.2.2.2.2.1.2.1.1 | exact h.2.2.2.2.2.1.2.2.1.1 | exact h.2.2.2.2.2.2.1.2.1.1 | exact h.2.2.2.2.2.2.1.2.2.1.1 | exact p0 | exact p1.1 | exact p2.1 | exact p3.1 | exact p4.1 | exact p5.1 | exact p6.1) rfl rfl rfl rfl ⟨rfl, rfl, by decide, by decide⟩ (Nat.le_of_ble_eq_true rfl) ⟨by decide, by decide⟩ (fun V_30 h_30 => ?_)
  obtain ⟨g3, f3, a3⟩ := h_30
  refine j_aload_n dX2_takeFrom_33 rfl ?_
  refine j_getr dX2_takeFrom_34 hB fl_X2_26 (by first | exact h.1 | exact h.2.1.1 | exact h.2.2.1.1 | exact h.2.2.2.1.1 | exact h.2.2.2.2.1.1 | exact h.2.2.2.2.2.1.1 | exact h.2.2.2.2.2.2.1.1 | exact h.2.2.2.2.2.1.2.1.1 | exact h.2.2.2.2.2.1.2.2.1.1 | exact h.2.2.2.2.2.2.1.2.1.1 | exact h.2.2.2.2.2.2.1.2.2.1.1 | exact p0 | exact p1.1 | exact p2.1 | exact p3.1 | exact p4.1 | exact p5.1 | exact p6.1) (by rfl) ?_
  refine j_aload_n dX2_takeFrom_37 rfl ?_
  refine j_getr dX2_takeFrom_38 hB fl_X2_26 (by first | exact h.1 | exact h.2.1.1 | exact h.2.2.1.1 | exact h.2.2.2.1.1 | exact h.2.2.2.2.1.1 | exact h.2.2.2.2.2.1.1 | exact h.2.2.2.2.2.2.1.1 | exact h.2.2.2.2.2.1.2.1.1 | exact h.2.2.2.2.2.1.2.2.1.1 | exact h.2.2.2.2.2.2.1.2.1.1 | exact h.2.2.2.2.2.2.1.2.2.1.1 | exact p0 | exact p1.1 | exact p2.1 | exact p3.1 | exact p4.1 | exact p5.1 | exact p6.1) (by rfl) ?_
  refine j_cVu dX2_takeFrom_41 hB mo_X3_takeFrom ml_X2_82 (sp_X3_takeFrom hB ((((h4).ag a1 (by omega)).ag a2 (by omega)).ag a3 (by omega)) ((((p4).ag a1 (by omega)).ag a2 (by omega)).ag a3 (by omega)) (by omega) (by rw [Rw_ag a3 (by omega), Rw_ag a2 (by omega), Rw_ag a1 (by omega)]; exact p4.le)) (by first | exact h.1 | exact h.2.1.1 | exact h.2.2.1.1 | exact h.2.2.2.1.1 | exact h.2.2.2.2.1.1 | exact h.2.2.2.2.2.1.1 | exact h.2.2.2.2.2.2.1.1 | exact h.2.2.2.2.2.1.2.1.1 | exact h.2.2.2.2.2.1.2.2.1.1 | exact h.2.2.2.2.2.2.1.2.1.1 | exact h.2.2.2.2.2.2.1.2.2.1.1 | exact p0 | exact p1.1 | exact p2.1 | exact p3.1 | exact p4.1 | exact p5.1 | exact p6.1) rfl rfl rfl rfl ⟨rfl, rfl, by decide, by decide⟩ (Nat.le_of_ble_eq_true rfl) ⟨by decide, by decide⟩ (fun V_41 h_41 => ?_)
  obtain ⟨g4, f4, a4⟩ := h_41
  refine j_aload_n dX2_takeFrom_44 rfl ?_
  refine j_getr dX2_takeFrom_45 hB fl_X2_32 (by first | exact h.1 | exact h.2.1.1 | exact h.2.2.1.1 | exact h.2.2.2.1.1 | exact h.2.2.2.2.1.1 | exact h.2.2.2.2.2.1.1 | exact h.2.2.2.2.2.2.1.1 | exact h.2.2.2.2.2.1.2.1.1 | exact h.2.2.2.2.2.1.2.2.1.1 | exact h.2.2.2.2.2.2.1.2.1.1 | exact h.2.2.2.2.2.2.1.2.2.1.1 | exact p0 | exact p1.1 | exact p2.1 | exact p3.1 | exact p4.1 | exact p5.1 | exact p6.1) (by rfl) ?_
  refine j_aload_n dX2_takeFrom_48 rfl ?_
  refine j_getr dX2_takeFrom_49 hB fl_X2_32 (by first | exact h.1 | exact h.2.1.1 | exact h.2.2.1.1 | exact h.2.2.2.1.1 | exact h.2.2.2.2.1.1 | exact h.2.2.2.2.2.1.1 | exact h.2.2.2.2.2.2.1.1 | exact h.2.2.2.2.2.1.2.1.1 | exact h.2.2.2.2.2.1.2.2.1.1 | exact h.2.2.2.2.2.2.1.2.1.1 | exact h.2.2.2.2.2.2.1.2.2.1.1 | exact p0 | exact p1.1 | exact p2.1 | exact p3.1 | exact p4.1 | exact p5.1 | exact p6.1) (by rfl) ?_
  refine j_cVu dX2_takeFrom_52 hB mo_X1_takeFrom ml_X2_86 (sp_X1_takeFrom hB (((((h5).ag a1 (by omega)).ag a2 (by omega)).ag a3 (by omega)).ag a4 (by omega)) (((((p5).ag a1 (by omega)).ag a2 (by omega)).ag a3 (by omega)).ag a4 (by omega)) (by omega)) (by first | exact h.1 | exact h.2.1.1 | exact h.2.2.1.1 | exact h.2.2.2.1.1 | exact h.2.2.2.2.1.1 | exact h.2.2.2.2.2.1.1 | exact h.2.2.2.2.2.2.1.1 | exact h.2.2.2.2.2.1.2.1.1 | exact h.2.2.2.2.2.1.2.2.1.1 | exact h.2.2.2.2.2.2.1.2.1.1 | exact h.2.2.2.2.2.2.1.2.2.1.1 | exact p0 | exact p1.1 | exact p2.1 | exact p3.1 | exact p4.1 | exact p5.1 | exact p6.1) rfl rfl rfl rfl ⟨rfl, rfl, by decide, by decide⟩ (Nat.le_of_ble_eq_true rfl) ⟨by decide, by decide⟩ (fun V_52 h_52 => ?_)
  obtain ⟨g5, a5⟩ := h_52
  refine j_aload_n dX2_takeFrom_55 rfl ?_
  refine j_getr dX2_takeFrom_56 hB fl_X2_36 (by first | exact h.1 | exact h.2.1.1 | exact h.2.2.1.1 | exact h.2.2.2.1.1 | exact h.2.2.2.2.1.1 | exact h.2.2.2.2.2.1.1 | exact h.2.2.2.2.2.2.1.1 | exact h.2.2.2.2.2.1.2.1.1 | exact h.2.2.2.2.2.1.2.2.1.1 | exact h.2.2.2.2.2.2.1.2.1.1 | exact h.2.2.2.2.2.2.1.2.2.1.1 | exact p0 | exact p1.1 | exact p2.1 | exact p3.1 | exact p4.1 | exact p5.1 | exact p6.1) (by rfl) ?_
  refine j_aload_n dX2_takeFrom_59 rfl ?_
  refine j_getr dX2_takeFrom_60 hB fl_X2_36 (by first | exact h.1 | exact h.2.1.1 | exact h.2.2.1.1 | exact h.2.2.2.1.1 | exact h.2.2.2.2.1.1 | exact h.2.2.2.2.2.1.1 | exact h.2.2.2.2.2.2.1.1 | exact h.2.2.2.2.2.1.2.1.1 | exact h.2.2.2.2.2.1.2.2.1.1 | exact h.2.2.2.2.2.2.1.2.1.1 | exact h.2.2.2.2.2.2.1.2.2.1.1 | exact p0 | exact p1.1 | exact p2.1 | exact p3.1 | exact p4.1 | exact p5.1 | exact p6.1) (by rfl) ?_
  refine j_cVu dX2_takeFrom_63 hB mo_X1_takeFrom ml_X2_86 (sp_X1_takeFrom hB ((((((h6).ag a1 (by omega)).ag a2 (by omega)).ag a3 (by omega)).ag a4 (by omega)).ag a5 (by omega)) ((((((p6).ag a1 (by omega)).ag a2 (by omega)).ag a3 (by omega)).ag a4 (by omega)).ag a5 (by omega)) (by omega)) (by first | exact h.1 | exact h.2.1.1 | exact h.2.2.1.1 | exact h.2.2.2.1.1 | exact h.2.2.2.2.1.1 | exact h.2.2.2.2.2.1.1 | exact h.2.2.2.2.2.2.1.1 | exact h.2.2.2.2.2.1.2.1.1 | exact h.2.2.2.2.2.1.2.2.1.1 | exact h.2.2.2.2.2.2.1.2.1.1 | exact h.2.2.2.2.2.2.1.2.2.1.1 | exact p0 | exact p1.1 | exact p2.1 | exact p3.1 | exact p4.1 | exact p5.1 | exact p6.1) rfl rfl rfl rfl ⟨rfl, rfl, by decide, by decide⟩ (Nat.le_of_ble_eq_true rfl) ⟨by decide, by decide⟩ (fun V_63 h_63 => ?_)
  obtain ⟨g6, a6⟩ := h_63
  refine j_vret dX2_takeFrom_66 rfl (by decide) (by decide) ?_
  have w1 := a1.wide (show q ≤ q + 1 by omega) (show q + 1 + 2 ≤ q + 19 by omega)
  have w2 := a2.wide (show q ≤ q + 3 by omega) (show q + 3 + 2 ≤ q + 19 by omega)
  have w3 := a3.wide (show q ≤ q + 5 by omega) (show q + 5 + 2 ≤ q + 19 by omega)
  have w4 := a4.wide (show q ≤ q + 7 by omega) (show q + 7 + 2 ≤ q + 19 by omega)
  have w5 := a5.wide (show q ≤ q + 9 by omega) (show q + 9 + 5 ≤ q + 19 by omega)
  have w6 := a6.wide (show q ≤ q + 14 by omega) (show q + 14 + 5 ≤ q + 19 by omega)
  rw [d1] at f1
  rw [Rw_ag a1 (by omega), d2] at f2
  rw [Rw_ag a2 (by omega), Rw_ag a1 (by omega), d3] at f3
  rw [Rw_ag a3 (by omega), Rw_ag a2 (by omega), Rw_ag a1 (by omega), d4] at f4
  exact ⟨rfl, rfl, rfl, rfl, ⟨h0, ((((g1.ag a2 (by omega)).ag a3 (by omega)).ag a4 (by omega)).ag a5 (by omega)).ag a6 (by omega), (((g2.ag a3 (by omega)).ag a4 (by omega)).ag a5 (by omega)).ag a6 (by omega), ((g3.ag a4 (by omega)).ag a5 (by omega)).ag a6 (by omega), (g4.ag a5 (by omega)).ag a6 (by omega), g5.ag a6 (by omega), g6, by rw [Rw_ag a6 (by omega), Rw_ag a5 (by omega), Rw_ag a4 (by omega), Rw_ag a3 (by omega), Rw_ag a2 (by omega)]; exact f1, by rw [Rw_ag a6 (by omega), Rw_ag a5 (by omega), Rw_ag a4 (by omega), Rw_ag a3 (by omega)]; exact f2, by rw [Rw_ag a6 (by omega), Rw_ag a5 (by omega), Rw_ag a4 (by omega)]; exact f3, by rw [Rw_ag a6 (by omega), Rw_ag a5 (by omega)]; exact f4⟩, ((((w1.tr w2).tr w3).tr w4).tr w5).tr w6⟩
set_option maxRecDepth 100000 in
set_option maxHeartbeats 4000000 in
theorem sp_X2_footTime (hB : jB l s0 D) {v : Int32} : Sp l s0 D kX2_footTime (jR 0 0 0) 0 0 [.int v] T V X sz (qI T X sz (fun x V' => V = V' ∧ (0 < v.toInt → x.toInt = 160 / v.toInt) ∧ (v.toInt ≤ 0 → x = 0))) := by
  refine Sp.of pn_X2_footTime rfl (Nat.le_of_ble_eq_true rfl) ?_
  refine j_iload_n dX2_footTime_0 rfl ?_
  refine j_if_gt (tgt := 8) dX2_footTime_1 (by decide) (fun c_1 => ?_) (fun c_1 => ?_)
  · refine j_sipush (v := 160) dX2_footTime_8 (by decide) ?_
    refine j_iload_n dX2_footTime_11 rfl ?_
    refine j_idiv dX2_footTime_12 (fun z => by rw [z, ti_0] at c_1; omega) ?_
    refine j_iret dX2_footTime_13 rfl (rfl) (by decide) (by decide) ?_
    first
      | exact ⟨_, rfl, rfl, rfl, rfl, rfl, fun z => absurd z (by omega), fun _ => rfl⟩
      | refine ⟨_, rfl, rfl, rfl, rfl, rfl, fun z => ?_, fun z => absurd z (by omega)⟩
        rw [Int32.toInt_div_of_ne_left _ _ (by decide), show (160 : Int32).toInt = 160 by decide, Int.tdiv_eq_ediv_of_nonneg (by decide)]
  · refine j_iconst (v := 0) dX2_footTime_4 (by decide) ?_
    refine j_goto (tgt := 13) dX2_footTime_5 (by decide) ?_
    refine j_iret dX2_footTime_13 rfl (rfl) (by decide) (by decide) ?_
    first
      | exact ⟨_, rfl, rfl, rfl, rfl, rfl, fun z => absurd z (by omega), fun _ => rfl⟩
      | refine ⟨_, rfl, rfl, rfl, rfl, rfl, fun z => ?_, fun z => absurd z (by omega)⟩
        rw [Int32.toInt_div_of_ne_left _ _ (by decide), show (160 : Int32).toInt = 160 by decide, Int.tdiv_eq_ediv_of_nonneg (by decide)]
end JReel
