/-! CueSheetsModel: reading -/
def mEn (Z : Nat → Int32) (t : tR) (n : Nat) : Prop := ∀ j : Nat, j ≤ n → Z (4 * j + 0) = atZ t.1 j ∧ Z (4 * j + 1) = atZ t.2.1 j ∧ Z (4 * j + 2) = atZ t.2.2.1 j ∧ Z (4 * j + 3) = atZ t.2.2.2.1 j
/-- what the model has read: n + 1 entries, k characters -/
def mRd (V : jV) (q : Nat) (t : tR) (n k : Nat) : Prop := t.1.length = n + 1 ∧ (V q 13).toInt = n ∧ V q 11 = t.2.2.2.2 ∧ mEn (V (q + 8)) t n ∧ 0 ≤ (V q 12).toInt ∧ (V q 12).toInt ≤ k ∧ (t.2.2.2.2 = 0 → (0 < (V q 12).toInt ↔ 0 < (atZ t.1 n).toInt)) ∧ (t.2.2.2.2 = 5 → ((V q 12).toInt = 0 ↔ (atZ t.2.2.2.1 n).toInt = 0))
theorem mEn.of {Z Z' : Nat → Int32} {t t' : tR} {n : Nat} (h : mEn Z t n) (e : ∀ i, i < 4 * n → Z' i = Z i) (hj : ∀ j : Nat, j < n → atZ t'.1 j = atZ t.1 j ∧ atZ t'.2.1 j = atZ t.2.1 j ∧ atZ t'.2.2.1 j = atZ t.2.2.1 j ∧ atZ t'.2.2.2.1 j = atZ t.2.2.2.1 j) (h0 : Z' (4 * n + 0) = atZ t'.1 n) (h1 : Z' (4 * n + 1) = atZ t'.2.1 n) (h2 : Z' (4 * n + 2) = atZ t'.2.2.1 n) (h3 : Z' (4 * n + 3) = atZ t'.2.2.2.1 n) : mEn Z' t' n := by
  intro j hjn
  rcases Nat.lt_or_ge j n with g | g
  · obtain ⟨a1, a2, a3, a4⟩ := hj j g
    rw [e _ (by omega), e _ (by omega), e _ (by omega), e _ (by omega), a1, a2, a3, a4]
    exact h j hjn
  · rw [show j = n by omega]
    exact ⟨h0, h1, h2, h3⟩
theorem mKp.s8 {V V1 : jV} {q k : Nat} {v : Int32} (h : mKp V V1 q) : mKp V (jset V1 (q + 8) k v) q := h.tr (mKp.ag (jAg.rf.set (Nat.le_refl _) (Nat.lt_succ_self _)) (by omega) (by omega))
theorem mKp.sf {V V1 : jV} {q k : Nat} {v : Int32} (h : mKp V V1 q) (hk : 10 ≤ k) : mKp V (jset V1 q k v) q := h.tr (mKp.f hk)
theorem jset_self {V : jV} {q k : Nat} : jset V q k (V q k) = V := by
  funext a i
  by_cases h : a = q ∧ i = k
  · rw [h.1, h.2, jset_eq]
  · exact jset_ne (by omega)
theorem rno0 {t : tR} {c : Int32} (h0 : t.2.2.2.2 = 0) (c0 : 33 ≤ c.toInt) (c1 : c.toInt ≤ 126) (hc : ¬ (c.toInt = 44 ∧ rComp t)) (hL : 0 ≤ (atZ t.1 (rN t)).toInt) (hd : ¬ (48 ≤ c.toInt ∧ c.toInt ≤ 57 ∧ 1 ≤ 10 * (atZ t.1 (rN t)).toInt + c.toInt - 48 ∧ 10 * (atZ t.1 (rN t)).toInt + c.toInt - 48 ≤ 900)) (h58 : ¬ (c.toInt = 58 ∧ 0 < (atZ t.1 (rN t)).toInt)) : ∀ t', ¬ rRd t c t' := by
  have k48 : (48 : Int32).toInt = 48 := by decide
  have cs : (c - 48).toInt = c.toInt - 48 := by rw [ti_sub (by omega) (by omega), k48]
  intro t' hr
  rcases hr with ⟨a, b, -⟩ | ⟨a, -, b, -⟩ | ⟨a, b, -⟩ | ⟨a, b, -⟩ | ⟨a, a', b⟩
  · exact hc ⟨a, b⟩
  · rcases b with ⟨-, b⟩ | b | ⟨b, -⟩
    · exact h58 ⟨a, b⟩
    · rw [h0] at b; exact absurd b (by decide)
    · rw [h0] at b; exact absurd b (by decide)
  · rw [h0] at b; exact absurd b (by decide)
  · rw [h0] at b; exact absurd b (by decide)
  · rcases b with ⟨-, d1, d2, -⟩ | ⟨b, -⟩ | ⟨b, -⟩ | ⟨b, -⟩
    · rw [cs] at d1 d2; omega
    · rw [h0] at b; exact absurd b (by decide)
    · rw [h0] at b; exact absurd b (by decide)
    · rw [h0] at b; exact absurd b (by decide)
theorem rno1 {t : tR} {c : Int32} (h0 : t.2.2.2.2 = 1) (c0 : 33 ≤ c.toInt) (c1 : c.toInt ≤ 126) (hc : ¬ (c.toInt = 44 ∧ rComp t)) (hd : ¬ (48 ≤ c.toInt ∧ c.toInt ≤ 55)) : ∀ t', ¬ rRd t c t' := by
  have k48 : (48 : Int32).toInt = 48 := by decide
  have cs : (c - 48).toInt = c.toInt - 48 := by rw [ti_sub (by omega) (by omega), k48]
  intro t' hr
  rcases hr with ⟨a, b, -⟩ | ⟨a, b, -⟩ | ⟨a, b, -⟩ | ⟨a, b, -⟩ | ⟨a, a', b⟩
  · exact hc ⟨a, b⟩
  · rw [h0] at b; exact absurd b (by decide)
  · rw [h0] at b; exact absurd b (by decide)
  · rw [h0] at b; exact absurd b (by decide)
  · rcases b with ⟨b, -⟩ | ⟨b, d1, -⟩ | ⟨b, d1, -⟩ | ⟨b, d1, -⟩
    · rw [h0] at b; exact absurd b (by decide)
    · rw [cs] at d1; exact hd (by omega)
    · rw [h0] at b; exact absurd b (by decide)
    · rw [h0] at b; exact absurd b (by decide)
theorem rno2 {t : tR} {c : Int32} (h0 : t.2.2.2.2 = 2) (c0 : 33 ≤ c.toInt) (c1 : c.toInt ≤ 126) (hc : ¬ (c.toInt = 44 ∧ rComp t)) (hd : ¬ (c.toInt = 120)) : ∀ t', ¬ rRd t c t' := by
  have k48 : (48 : Int32).toInt = 48 := by decide
  have cs : (c - 48).toInt = c.toInt - 48 := by rw [ti_sub (by omega) (by omega), k48]
  intro t' hr
  rcases hr with ⟨a, b, -⟩ | ⟨a, b, -⟩ | ⟨a, b, -⟩ | ⟨a, b, -⟩ | ⟨a, a', b⟩
  · exact hc ⟨a, b⟩
  · rw [h0] at b; exact absurd b (by decide)
  · exact hd a
  · rw [h0] at b; exact absurd b (by decide)
  · rcases b with ⟨b, -⟩ | ⟨b, d1, -⟩ | ⟨b, d1, -⟩ | ⟨b, d1, -⟩
    · rw [h0] at b; exact absurd b (by decide)
    · rw [h0] at b; exact absurd b (by decide)
    · rw [h0] at b; exact absurd b (by decide)
    · rw [h0] at b; exact absurd b (by decide)
theorem rno3 {t : tR} {c : Int32} (h0 : t.2.2.2.2 = 3) (c0 : 33 ≤ c.toInt) (c1 : c.toInt ≤ 126) (hc : ¬ (c.toInt = 44 ∧ rComp t)) (hd : ¬ (49 ≤ c.toInt ∧ c.toInt ≤ 57)) : ∀ t', ¬ rRd t c t' := by
  have k48 : (48 : Int32).toInt = 48 := by decide
  have cs : (c - 48).toInt = c.toInt - 48 := by rw [ti_sub (by omega) (by omega), k48]
  intro t' hr
  rcases hr with ⟨a, b, -⟩ | ⟨a, b, -⟩ | ⟨a, b, -⟩ | ⟨a, b, -⟩ | ⟨a, a', b⟩
  · exact hc ⟨a, b⟩
  · rw [h0] at b; exact absurd b (by decide)
  · rw [h0] at b; exact absurd b (by decide)
  · rw [h0] at b; exact absurd b (by decide)
  · rcases b with ⟨b, -⟩ | ⟨b, d1, -⟩ | ⟨b, d1, -⟩ | ⟨b, d1, -⟩
    · rw [h0] at b; exact absurd b (by decide)
    · rw [h0] at b; exact absurd b (by decide)
    · rw [cs] at d1; exact hd (by omega)
    · rw [h0] at b; exact absurd b (by decide)
theorem rno4 {t : tR} {c : Int32} (h0 : t.2.2.2.2 = 4) (c0 : 33 ≤ c.toInt) (c1 : c.toInt ≤ 126) (hc : ¬ (c.toInt = 44 ∧ rComp t)) (hd : ¬ (c.toInt = 64)) : ∀ t', ¬ rRd t c t' := by
  have k48 : (48 : Int32).toInt = 48 := by decide
  have cs : (c - 48).toInt = c.toInt - 48 := by rw [ti_sub (by omega) (by omega), k48]
  intro t' hr
  rcases hr with ⟨a, b, -⟩ | ⟨a, b, -⟩ | ⟨a, b, -⟩ | ⟨a, b, -⟩ | ⟨a, a', b⟩
  · exact hc ⟨a, b⟩
  · rw [h0] at b; exact absurd b (by decide)
  · rw [h0] at b; exact absurd b (by decide)
  · exact hd a
  · rcases b with ⟨b, -⟩ | ⟨b, d1, -⟩ | ⟨b, d1, -⟩ | ⟨b, d1, -⟩
    · rw [h0] at b; exact absurd b (by decide)
    · rw [h0] at b; exact absurd b (by decide)
    · rw [h0] at b; exact absurd b (by decide)
    · rw [h0] at b; exact absurd b (by decide)
theorem rno5 {t : tR} {c : Int32} (h0 : t.2.2.2.2 = 5) (c0 : 33 ≤ c.toInt) (c1 : c.toInt ≤ 126) (hc : ¬ (c.toInt = 44 ∧ rComp t)) (hd : ¬ (48 ≤ c.toInt ∧ c.toInt ≤ 57 ∧ (10 * (atZ t.2.2.2.1 (rN t)).toInt + c.toInt - 48 = 1 ∨ (8 ≤ 10 * (atZ t.2.2.2.1 (rN t)).toInt + c.toInt - 48 ∧ 10 * (atZ t.2.2.2.1 (rN t)).toInt + c.toInt - 48 ≤ 12) ∨ (80 ≤ 10 * (atZ t.2.2.2.1 (rN t)).toInt + c.toInt - 48 ∧ 10 * (atZ t.2.2.2.1 (rN t)).toInt + c.toInt - 48 ≤ 120)))) : ∀ t', ¬ rRd t c t' := by
  have k48 : (48 : Int32).toInt = 48 := by decide
  have cs : (c - 48).toInt = c.toInt - 48 := by rw [ti_sub (by omega) (by omega), k48]
  intro t' hr
  rcases hr with ⟨a, b, -⟩ | ⟨a, b, -⟩ | ⟨a, b, -⟩ | ⟨a, b, -⟩ | ⟨a, a', b⟩
  · exact hc ⟨a, b⟩
  · rw [h0] at b; exact absurd b (by decide)
  · rw [h0] at b; exact absurd b (by decide)
  · rw [h0] at b; exact absurd b (by decide)
  · rcases b with ⟨b, -⟩ | ⟨b, d1, -⟩ | ⟨b, d1, -⟩ | ⟨b, d1, -⟩
    · rw [h0] at b; exact absurd b (by decide)
    · rw [h0] at b; exact absurd b (by decide)
    · rw [h0] at b; exact absurd b (by decide)
    · rw [cs] at d1; exact hd ⟨a, a', by simp only at d1; omega⟩
section JM13
variable {l : Launch} {s0 : State} {D : jD} {T : jT} {V : jV} {X : jX} {sz : Nat}
set_option maxRecDepth 100000 in
set_option maxHeartbeats 4000000 in
theorem sp_X8_goes (hB : jB l s0 D) {q : Nat} (h0 : moT T q) {a nx : Int32} {P : Prop} (ha : bQ a P) : Sp l s0 D kX8_goes (jR 0 0 0) 0 0 [.ref q, .int a, .int nx] T V X sz (qI T X sz (fun r V' => r = a ∧ (P → V' = jset (jset V q 11 nx) q 12 0) ∧ (¬ P → V' = V))) := by
  refine Sp.of pn_X8_goes rfl (Nat.le_of_ble_eq_true rfl) ?_
  refine j_aload_n dX8_goes_0 rfl ?_
  refine j_iload_n dX8_goes_1 rfl ?_
  refine m_ifeqB (tgt := 9) dX8_goes_2 (by decide) ha (fun c_2 => ?_) (fun c_2 => ?_)
  · refine j_aload_n dX8_goes_9 rfl ?_
    refine j_geti dX8_goes_10 hB fl_X8_122 (by first | exact h0.1 | exact h0.2.1 | exact h0.2.2.1 | exact h0.2.2.2.1 | exact h0.2.2.2.2.1 | exact h0.2.2.2.2.2.1 | exact h0.2.2.2.2.2.2.1 | exact h0.2.2.2.2.2.2.2.1 | exact h0.2.2.2.2.2.2.2.2) (by rfl) ?_
    refine j_puti dX8_goes_13 hB fp_X8_goes_122 (by first | exact h0.1 | exact h0.2.1 | exact h0.2.2.1 | exact h0.2.2.2.1 | exact h0.2.2.2.2.1 | exact h0.2.2.2.2.2.1 | exact h0.2.2.2.2.2.2.1 | exact h0.2.2.2.2.2.2.2.1 | exact h0.2.2.2.2.2.2.2.2) (by rfl) ?_
    rw [jset_self]
    refine j_aload_n dX8_goes_16 rfl ?_
    refine j_iload_n dX8_goes_17 rfl ?_
    refine m_ifeqB (tgt := 25) dX8_goes_18 (by decide) ha (fun c_18 => ?_) (fun c_18 => ?_)
    · refine j_aload_n dX8_goes_25 rfl ?_
      refine j_geti dX8_goes_26 hB fl_X8_125 (by first | exact h0.1 | exact h0.2.1 | exact h0.2.2.1 | exact h0.2.2.2.1 | exact h0.2.2.2.2.1 | exact h0.2.2.2.2.2.1 | exact h0.2.2.2.2.2.2.1 | exact h0.2.2.2.2.2.2.2.1 | exact h0.2.2.2.2.2.2.2.2) (by rfl) ?_
      refine j_puti dX8_goes_29 hB fp_X8_goes_125 (by first | exact h0.1 | exact h0.2.1 | exact h0.2.2.1 | exact h0.2.2.2.1 | exact h0.2.2.2.2.1 | exact h0.2.2.2.2.2.1 | exact h0.2.2.2.2.2.2.1 | exact h0.2.2.2.2.2.2.2.1 | exact h0.2.2.2.2.2.2.2.2) (by rfl) ?_
      rw [jset_self]
      refine j_iload_n dX8_goes_32 rfl ?_
      refine j_iret dX8_goes_33 rfl (by first | decide | exact m_nrB (by assumption)) (by decide) (by decide) ?_
      exact ⟨_, rfl, rfl, rfl, rfl, rfl, fun z9 => absurd z9 c_2, fun _ => rfl⟩
    · exact absurd c_18 c_2
  · refine j_iload_n dX8_goes_5 rfl ?_
    refine j_goto (tgt := 13) dX8_goes_6 (by decide) ?_
    refine j_puti dX8_goes_13 hB fp_X8_goes_122 (by first | exact h0.1 | exact h0.2.1 | exact h0.2.2.1 | exact h0.2.2.2.1 | exact h0.2.2.2.2.1 | exact h0.2.2.2.2.2.1 | exact h0.2.2.2.2.2.2.1 | exact h0.2.2.2.2.2.2.2.1 | exact h0.2.2.2.2.2.2.2.2) (by rfl) ?_
    refine j_aload_n dX8_goes_16 rfl ?_
    refine j_iload_n dX8_goes_17 rfl ?_
    refine m_ifeqB (tgt := 25) dX8_goes_18 (by decide) ha (fun c_18 => ?_) (fun c_18 => ?_)
    · exact absurd c_2 c_18
    · refine j_iconst (v := 0) dX8_goes_21 (by decide) ?_
      refine j_goto (tgt := 29) dX8_goes_22 (by decide) ?_
      refine j_puti dX8_goes_29 hB fp_X8_goes_125 (by first | exact h0.1 | exact h0.2.1 | exact h0.2.2.1 | exact h0.2.2.2.1 | exact h0.2.2.2.2.1 | exact h0.2.2.2.2.2.1 | exact h0.2.2.2.2.2.2.1 | exact h0.2.2.2.2.2.2.2.1 | exact h0.2.2.2.2.2.2.2.2) (by rfl) ?_
      refine j_iload_n dX8_goes_32 rfl ?_
      refine j_iret dX8_goes_33 rfl (by first | decide | exact m_nrB (by assumption)) (by decide) (by decide) ?_
      exact ⟨_, rfl, rfl, rfl, rfl, rfl, fun _ => rfl, fun z9 => absurd c_2 z9⟩
set_option maxRecDepth 100000 in
set_option maxHeartbeats 4000000 in
theorem sp_X8_beginEntry (hB : jB l s0 D) {q : Nat} (h0 : moT T q) {n : Nat} (hn : (V q 13).toInt = n) (n30 : n ≤ 30) : Sp l s0 D kX8_beginEntry (jR 0 0 0) 0 0 [.ref q] T V X sz (qU T X sz (fun V' => V' = (jset (jset (jset (jset (jset (jset V q 11 0) q 12 0) (q + 8) (4 * n + 0) 0) (q + 8) (4 * n + 1) (-2000001)) (q + 8) (4 * n + 2) 0) (q + 8) (4 * n + 3) 0))) := by
  refine Sp.of pn_X8_beginEntry rfl (Nat.le_of_ble_eq_true rfl) ?_
  refine j_aload_n dX8_beginEntry_0 rfl ?_
  refine j_iconst (v := 0) dX8_beginEntry_1 (by decide) ?_
  refine j_puti dX8_beginEntry_2 hB fp_X8_beginEntry_122 (by first | exact h0.1 | exact h0.2.1 | exact h0.2.2.1 | exact h0.2.2.2.1 | exact h0.2.2.2.2.1 | exact h0.2.2.2.2.2.1 | exact h0.2.2.2.2.2.2.1 | exact h0.2.2.2.2.2.2.2.1 | exact h0.2.2.2.2.2.2.2.2) (by rfl) ?_
  refine j_aload_n dX8_beginEntry_5 rfl ?_
  refine j_iconst (v := 0) dX8_beginEntry_6 (by decide) ?_
  refine j_puti dX8_beginEntry_7 hB fp_X8_beginEntry_125 (by first | exact h0.1 | exact h0.2.1 | exact h0.2.2.1 | exact h0.2.2.2.1 | exact h0.2.2.2.2.1 | exact h0.2.2.2.2.2.1 | exact h0.2.2.2.2.2.2.1 | exact h0.2.2.2.2.2.2.2.1 | exact h0.2.2.2.2.2.2.2.2) (by rfl) ?_
  have hn_16 : isI (jset (jset V q 11 0) q 12 0 q 13) n := by rw [jset_ne (Or.inr (by omega)), jset_ne (Or.inr (by omega))]; exact hn
  refine j_aload_n dX8_beginEntry_10 rfl ?_
  refine j_getr dX8_beginEntry_11 hB fl_X8_31 (by first | exact h0.1 | exact h0.2.1 | exact h0.2.2.1 | exact h0.2.2.2.1 | exact h0.2.2.2.2.1 | exact h0.2.2.2.2.2.1 | exact h0.2.2.2.2.2.2.1 | exact h0.2.2.2.2.2.2.2.1 | exact h0.2.2.2.2.2.2.2.2) (by rfl) ?_
  refine j_iconst (v := 4) dX8_beginEntry_14 (by decide) ?_
  refine j_aload_n dX8_beginEntry_15 rfl ?_
  refine j_geti dX8_beginEntry_16 hB fl_X8_128 (by first | exact h0.1 | exact h0.2.1 | exact h0.2.2.1 | exact h0.2.2.2.1 | exact h0.2.2.2.2.1 | exact h0.2.2.2.2.2.1 | exact h0.2.2.2.2.2.2.1 | exact h0.2.2.2.2.2.2.2.1 | exact h0.2.2.2.2.2.2.2.2) (by rfl) ?_
  refine j_imul dX8_beginEntry_19 ?_
  refine j_iconst (v := 0) dX8_beginEntry_20 (by decide) ?_
  refine m_iast (k := 4 * n + 0) dX8_beginEntry_21 hB (by first | exact h0.1 | exact h0.2.1 | exact h0.2.2.1 | exact h0.2.2.2.1 | exact h0.2.2.2.2.1 | exact h0.2.2.2.2.2.1 | exact h0.2.2.2.2.2.2.1 | exact h0.2.2.2.2.2.2.2.1 | exact h0.2.2.2.2.2.2.2.2) (ixk (iM (iC 4 (by decide)) (hn_16) (by omega)) (by omega)) (by omega) ?_
  have hn_28 : isI (jset (jset (jset V q 11 0) q 12 0) (q + 8) (4 * n + 0) 0 q 13) n := by rw [jset_row (by omega)]; exact hn_16
  refine j_aload_n dX8_beginEntry_22 rfl ?_
  refine j_getr dX8_beginEntry_23 hB fl_X8_31 (by first | exact h0.1 | exact h0.2.1 | exact h0.2.2.1 | exact h0.2.2.2.1 | exact h0.2.2.2.2.1 | exact h0.2.2.2.2.2.1 | exact h0.2.2.2.2.2.2.1 | exact h0.2.2.2.2.2.2.2.1 | exact h0.2.2.2.2.2.2.2.2) (by rfl) ?_
  refine j_iconst (v := 4) dX8_beginEntry_26 (by decide) ?_
  refine j_aload_n dX8_beginEntry_27 rfl ?_
  refine j_geti dX8_beginEntry_28 hB fl_X8_128 (by first | exact h0.1 | exact h0.2.1 | exact h0.2.2.1 | exact h0.2.2.2.1 | exact h0.2.2.2.2.1 | exact h0.2.2.2.2.2.1 | exact h0.2.2.2.2.2.2.1 | exact h0.2.2.2.2.2.2.2.1 | exact h0.2.2.2.2.2.2.2.2) (by rfl) ?_
  refine j_imul dX8_beginEntry_31 ?_
  refine j_iconst (v := 1) dX8_beginEntry_32 (by decide) ?_
  refine j_iadd dX8_beginEntry_33 ?_
  refine j_ldc dX8_beginEntry_34 hB kc_X8_62 ?_
  refine m_iast (k := 4 * n + 1) dX8_beginEntry_36 hB (by first | exact h0.1 | exact h0.2.1 | exact h0.2.2.1 | exact h0.2.2.2.1 | exact h0.2.2.2.2.1 | exact h0.2.2.2.2.2.1 | exact h0.2.2.2.2.2.2.1 | exact h0.2.2.2.2.2.2.2.1 | exact h0.2.2.2.2.2.2.2.2) (ixk (iA (iM (iC 4 (by decide)) (hn_28) (by omega)) (iC 1 (by decide)) (by omega)) (by omega)) (by omega) ?_
  have hn_43 : isI (jset (jset (jset (jset V q 11 0) q 12 0) (q + 8) (4 * n + 0) 0) (q + 8) (4 * n + 1) (-2000001) q 13) n := by rw [jset_row (by omega)]; exact hn_28
  refine j_aload_n dX8_beginEntry_37 rfl ?_
  refine j_getr dX8_beginEntry_38 hB fl_X8_31 (by first | exact h0.1 | exact h0.2.1 | exact h0.2.2.1 | exact h0.2.2.2.1 | exact h0.2.2.2.2.1 | exact h0.2.2.2.2.2.1 | exact h0.2.2.2.2.2.2.1 | exact h0.2.2.2.2.2.2.2.1 | exact h0.2.2.2.2.2.2.2.2) (by rfl) ?_
  refine j_iconst (v := 4) dX8_beginEntry_41 (by decide) ?_
  refine j_aload_n dX8_beginEntry_42 rfl ?_
  refine j_geti dX8_beginEntry_43 hB fl_X8_128 (by first | exact h0.1 | exact h0.2.1 | exact h0.2.2.1 | exact h0.2.2.2.1 | exact h0.2.2.2.2.1 | exact h0.2.2.2.2.2.1 | exact h0.2.2.2.2.2.2.1 | exact h0.2.2.2.2.2.2.2.1 | exact h0.2.2.2.2.2.2.2.2) (by rfl) ?_
  refine j_imul dX8_beginEntry_46 ?_
  refine j_iconst (v := 2) dX8_beginEntry_47 (by decide) ?_
  refine j_iadd dX8_beginEntry_48 ?_
  refine j_iconst (v := 0) dX8_beginEntry_49 (by decide) ?_
  refine m_iast (k := 4 * n + 2) dX8_beginEntry_50 hB (by first | exact h0.1 | exact h0.2.1 | exact h0.2.2.1 | exact h0.2.2.2.1 | exact h0.2.2.2.2.1 | exact h0.2.2.2.2.2.1 | exact h0.2.2.2.2.2.2.1 | exact h0.2.2.2.2.2.2.2.1 | exact h0.2.2.2.2.2.2.2.2) (ixk (iA (iM (iC 4 (by decide)) (hn_43) (by omega)) (iC 2 (by decide)) (by omega)) (by omega)) (by omega) ?_
  have hn_57 : isI (jset (jset (jset (jset (jset V q 11 0) q 12 0) (q + 8) (4 * n + 0) 0) (q + 8) (4 * n + 1) (-2000001)) (q + 8) (4 * n + 2) 0 q 13) n := by rw [jset_row (by omega)]; exact hn_43
  refine j_aload_n dX8_beginEntry_51 rfl ?_
  refine j_getr dX8_beginEntry_52 hB fl_X8_31 (by first | exact h0.1 | exact h0.2.1 | exact h0.2.2.1 | exact h0.2.2.2.1 | exact h0.2.2.2.2.1 | exact h0.2.2.2.2.2.1 | exact h0.2.2.2.2.2.2.1 | exact h0.2.2.2.2.2.2.2.1 | exact h0.2.2.2.2.2.2.2.2) (by rfl) ?_
  refine j_iconst (v := 4) dX8_beginEntry_55 (by decide) ?_
  refine j_aload_n dX8_beginEntry_56 rfl ?_
  refine j_geti dX8_beginEntry_57 hB fl_X8_128 (by first | exact h0.1 | exact h0.2.1 | exact h0.2.2.1 | exact h0.2.2.2.1 | exact h0.2.2.2.2.1 | exact h0.2.2.2.2.2.1 | exact h0.2.2.2.2.2.2.1 | exact h0.2.2.2.2.2.2.2.1 | exact h0.2.2.2.2.2.2.2.2) (by rfl) ?_
  refine j_imul dX8_beginEntry_60 ?_
  refine j_iconst (v := 3) dX8_beginEntry_61 (by decide) ?_
  refine j_iadd dX8_beginEntry_62 ?_
  refine j_iconst (v := 0) dX8_beginEntry_63 (by decide) ?_
  refine m_iast (k := 4 * n + 3) dX8_beginEntry_64 hB (by first | exact h0.1 | exact h0.2.1 | exact h0.2.2.1 | exact h0.2.2.2.1 | exact h0.2.2.2.2.1 | exact h0.2.2.2.2.2.1 | exact h0.2.2.2.2.2.2.1 | exact h0.2.2.2.2.2.2.2.1 | exact h0.2.2.2.2.2.2.2.2) (ixk (iA (iM (iC 4 (by decide)) (hn_57) (by omega)) (iC 3 (by decide)) (by omega)) (by omega)) (by omega) ?_
  refine j_vret dX8_beginEntry_65 rfl (by decide) (by decide) ?_
  exact ⟨rfl, rfl, rfl, rfl, rfl⟩
set_option maxRecDepth 100000 in
set_option maxHeartbeats 4000000 in
theorem sp_X8_isOver (hB : jB l s0 D) {q : Nat} (h0 : moT T q) {t : tR} {n k : Nat} (h : mRd V q t n k) (hv : rInv t k) (k60 : k ≤ 60) : Sp l s0 D kX8_isOver (jR 0 0 0) 0 0 [.ref q] T V X sz (qI T X sz (fun r V' => V = V' ∧ bQ r (rComp t))) := by
  refine Sp.of pn_X8_isOver rfl (Nat.le_of_ble_eq_true rfl) ?_
  have hv' := hv
  obtain ⟨m, l1, l2, l3, l4, -, hcu, z1, -⟩ := hv'
  obtain ⟨g1, g2, g3, g4, g5, g6, g7, g8⟩ := h
  have hmn : m = n := by omega
  subst hmn
  have hN : rN t = (m : Int) := by unfold rN; omega
  have hcl := hcu.L
  have hpl : (V q 11).toInt = t.2.2.2.2.toInt := by rw [g3]
  have hL0 : isI (V (q + 8) (4 * m)) (atZ t.1 m).toInt := congrArg Int32.toInt (g4 m (Nat.le_refl m)).1
  have hP0 : isI (V (q + 8) (4 * m + 3)) (atZ t.2.2.2.1 m).toInt := congrArg Int32.toInt (g4 m (Nat.le_refl m)).2.2.2
  refine j_aload_n dX8_isOver_0 rfl ?_
  refine j_geti dX8_isOver_1 hB fl_X8_122 (by first | exact h0.1 | exact h0.2.1 | exact h0.2.2.1 | exact h0.2.2.2.1 | exact h0.2.2.2.2.1 | exact h0.2.2.2.2.2.1 | exact h0.2.2.2.2.2.2.1 | exact h0.2.2.2.2.2.2.2.1 | exact h0.2.2.2.2.2.2.2.2) (by rfl) ?_
  refine m_if_ne (tgt := 22) dX8_isOver_4 (by decide) (hpl) (fun c_4 => ?_) (fun c_4 => ?_)
  · refine j_aload_n dX8_isOver_22 rfl ?_
    refine j_geti dX8_isOver_23 hB fl_X8_122 (by first | exact h0.1 | exact h0.2.1 | exact h0.2.2.1 | exact h0.2.2.2.1 | exact h0.2.2.2.2.1 | exact h0.2.2.2.2.2.1 | exact h0.2.2.2.2.2.2.1 | exact h0.2.2.2.2.2.2.2.1 | exact h0.2.2.2.2.2.2.2.2) (by rfl) ?_
    refine j_iconst (v := 4) dX8_isOver_26 (by decide) ?_
    refine m_icmp_eq (tgt := 56) dX8_isOver_27 (by decide) (hpl) (iC 4 (by decide)) (fun c_27 => ?_) (fun c_27 => ?_)
    · refine j_iconst (v := 1) dX8_isOver_56 (by decide) ?_
      refine j_goto (tgt := 61) dX8_isOver_57 (by decide) ?_
      refine j_iret dX8_isOver_61 rfl (by first | decide | exact m_nrB (by assumption)) (by decide) (by decide) ?_
      refine ⟨_, rfl, rfl, rfl, rfl, rfl, ?_⟩
      exact Or.inl ⟨rfl, Or.inr (Or.inl (ti_inj (by rw [c_27]; rfl)))⟩
    · refine j_aload_n dX8_isOver_30 rfl ?_
      refine j_geti dX8_isOver_31 hB fl_X8_122 (by first | exact h0.1 | exact h0.2.1 | exact h0.2.2.1 | exact h0.2.2.2.1 | exact h0.2.2.2.2.1 | exact h0.2.2.2.2.2.1 | exact h0.2.2.2.2.2.2.1 | exact h0.2.2.2.2.2.2.2.1 | exact h0.2.2.2.2.2.2.2.2) (by rfl) ?_
      refine j_iconst (v := 5) dX8_isOver_34 (by decide) ?_
      refine m_icmp_ne (tgt := 60) dX8_isOver_35 (by decide) (hpl) (iC 5 (by decide)) (fun c_35 => ?_) (fun c_35 => ?_)
      · refine j_iconst (v := 0) dX8_isOver_60 (by decide) ?_
        refine j_iret dX8_isOver_61 rfl (by first | decide | exact m_nrB (by assumption)) (by decide) (by decide) ?_
        refine ⟨_, rfl, rfl, rfl, rfl, rfl, ?_⟩
        refine Or.inr ⟨rfl, fun z9 => ?_⟩
        rcases z9 with ⟨z9, -⟩ | z9 | ⟨z9, -⟩
        · exact c_4 (by rw [z9]; rfl)
        · exact c_27 (by rw [z9]; rfl)
        · exact c_35 (by rw [z9]; rfl)
      · refine j_aload_n dX8_isOver_38 rfl ?_
        refine j_getr dX8_isOver_39 hB fl_X8_31 (by first | exact h0.1 | exact h0.2.1 | exact h0.2.2.1 | exact h0.2.2.2.1 | exact h0.2.2.2.2.1 | exact h0.2.2.2.2.2.1 | exact h0.2.2.2.2.2.2.1 | exact h0.2.2.2.2.2.2.2.1 | exact h0.2.2.2.2.2.2.2.2) (by rfl) ?_
        refine j_iconst (v := 4) dX8_isOver_42 (by decide) ?_
        refine j_aload_n dX8_isOver_43 rfl ?_
        refine j_geti dX8_isOver_44 hB fl_X8_128 (by first | exact h0.1 | exact h0.2.1 | exact h0.2.2.1 | exact h0.2.2.2.1 | exact h0.2.2.2.2.1 | exact h0.2.2.2.2.2.1 | exact h0.2.2.2.2.2.2.1 | exact h0.2.2.2.2.2.2.2.1 | exact h0.2.2.2.2.2.2.2.2) (by rfl) ?_
        refine j_imul dX8_isOver_47 ?_
        refine j_iconst (v := 3) dX8_isOver_48 (by decide) ?_
        refine j_iadd dX8_isOver_49 ?_
        refine m_iald (k := 4 * m + 3) dX8_isOver_50 hB (by first | exact h0.1 | exact h0.2.1 | exact h0.2.2.1 | exact h0.2.2.2.1 | exact h0.2.2.2.2.1 | exact h0.2.2.2.2.2.1 | exact h0.2.2.2.2.2.2.1 | exact h0.2.2.2.2.2.2.2.1 | exact h0.2.2.2.2.2.2.2.2) (ixk (iA (iM (iC 4 (by decide)) (g2) (by omega)) (iC 3 (by decide)) (by omega)) (by omega)) (by omega) ?_
        refine j_bipush (v := 80) dX8_isOver_51 (by decide) ?_
        refine m_icmp_lt (tgt := 60) dX8_isOver_53 (by decide) (hP0) (iC 80 (by decide)) (fun c_53 => ?_) (fun c_53 => ?_)
        · refine j_iconst (v := 0) dX8_isOver_60 (by decide) ?_
          refine j_iret dX8_isOver_61 rfl (by first | decide | exact m_nrB (by assumption)) (by decide) (by decide) ?_
          refine ⟨_, rfl, rfl, rfl, rfl, rfl, ?_⟩
          refine Or.inr ⟨rfl, fun z9 => ?_⟩
          rcases z9 with ⟨z9, -⟩ | z9 | ⟨-, z9⟩
          · exact c_4 (by rw [z9]; rfl)
          · exact c_27 (by rw [z9]; rfl)
          · rw [hN] at z9; omega
        · refine j_iconst (v := 1) dX8_isOver_56 (by decide) ?_
          refine j_goto (tgt := 61) dX8_isOver_57 (by decide) ?_
          refine j_iret dX8_isOver_61 rfl (by first | decide | exact m_nrB (by assumption)) (by decide) (by decide) ?_
          refine ⟨_, rfl, rfl, rfl, rfl, rfl, ?_⟩
          exact Or.inl ⟨rfl, Or.inr (Or.inr ⟨ti_inj (by rw [c_35]; rfl), by rw [hN]; exact c_53⟩)⟩
  · refine j_aload_n dX8_isOver_7 rfl ?_
    refine j_geti dX8_isOver_8 hB fl_X8_125 (by first | exact h0.1 | exact h0.2.1 | exact h0.2.2.1 | exact h0.2.2.2.1 | exact h0.2.2.2.2.1 | exact h0.2.2.2.2.2.1 | exact h0.2.2.2.2.2.2.1 | exact h0.2.2.2.2.2.2.2.1 | exact h0.2.2.2.2.2.2.2.2) (by rfl) ?_
    refine m_if_le (tgt := 18) dX8_isOver_11 (by decide) (rfl) (fun c_11 => ?_) (fun c_11 => ?_)
    · refine j_iconst (v := 0) dX8_isOver_18 (by decide) ?_
      refine j_goto (tgt := 61) dX8_isOver_19 (by decide) ?_
      refine j_iret dX8_isOver_61 rfl (by first | decide | exact m_nrB (by assumption)) (by decide) (by decide) ?_
      refine ⟨_, rfl, rfl, rfl, rfl, rfl, ?_⟩
      refine Or.inr ⟨rfl, fun z9 => ?_⟩
      have p0 : t.2.2.2.2 = 0 := ti_inj (by rw [c_4]; rfl)
      rcases z9 with ⟨-, z9⟩ | z9 | ⟨z9, -⟩
      · rw [hN] at z9; have := (g7 p0).mpr z9; omega
      · rw [p0] at z9; exact absurd z9 (by decide)
      · rw [p0] at z9; exact absurd z9 (by decide)
    · refine j_iconst (v := 1) dX8_isOver_14 (by decide) ?_
      refine j_goto (tgt := 61) dX8_isOver_15 (by decide) ?_
      refine j_iret dX8_isOver_61 rfl (by first | decide | exact m_nrB (by assumption)) (by decide) (by decide) ?_
      refine ⟨_, rfl, rfl, rfl, rfl, rfl, ?_⟩
      exact Or.inl ⟨rfl, Or.inl ⟨ti_inj (by rw [c_4]; rfl), by rw [hN]; exact (g7 (ti_inj (by rw [c_4]; rfl))).mp c_11⟩⟩
end JM13
