/-! CueSheetsModel: a mark is set, or dropped -/
section JM8
variable {l : Launch} {s0 : State} {D : jD} {T : jT} {V : jV} {X : jX} {sz : Nat}
set_option maxRecDepth 100000 in
set_option maxHeartbeats 4000000 in
theorem sp_X8_hold (hB : jB l s0 D) {q : Nat} (h0 : moT T q) {x : aX} (h : moIs T V q x) (hW : xW x) {m : Int32} {b : Nat} (hm : m.toInt = b) (hb : b + 13 ≤ 231) {P : pL} (hP : zHl (V (q + 1)) b P) {f v : Int32} (hs : pSrt P) (hroom : P.length < 6 ∨ pHas P f) : Sp l s0 D kX8_hold (jR 1 0 0) 0 0 [.ref q, .int m, .int f, .int v] T V X sz (qI T X sz (fun y V' => isI y ((pSet P f v).length : Nat) ∧ ∃ V1 : jV, moIs T V1 q (xNow x x.1) ∧ V1 (q + 1) = V (q + 1) ∧ V1 q 0 = V q 0 ∧ jAg V V1 q (q + 9) ∧ jAg V1 V' (q + 1) (q + 2) ∧ zHl (V' (q + 1)) b (pSet P f v) ∧ ∀ t, (t < b ∨ b + 13 ≤ t) → V' (q + 1) t = V (q + 1) t)) := by
  refine Sp.of pn_X8_hold rfl (Nat.le_of_ble_eq_true rfl) ?_
  refine j_aload_n dX8_hold_0 rfl ?_
  refine j_cVu dX8_hold_1 hB mo_X8_save ml_X8_91 (sp_X8_save hB h0 h hW) (by first | exact h0.1 | exact h0.2.1 | exact h0.2.2.1 | exact h0.2.2.2.1 | exact h0.2.2.2.2.1 | exact h0.2.2.2.2.2.1 | exact h0.2.2.2.2.2.2.1 | exact h0.2.2.2.2.2.2.2.1 | exact h0.2.2.2.2.2.2.2.2) rfl rfl rfl rfl ⟨rfl, rfl, by decide, by decide⟩ (Nat.le_of_ble_eq_true rfl) ⟨by decide, by decide⟩ (fun V_1 h_1 => ?_)
  obtain ⟨hS, eS, tS, aS, xS⟩ := h_1
  have hP1 : zHl (V_1 (q + 1)) b P := by rw [eS]; exact hP
  have h6 := hP.1
  have hn1 : isI (V_1 (q + 1) b) (P.length : Nat) := hP1.n
  have hh := hP1.has (f := f)
  have sl := pSet_len (f := f) (v := v) hs
  have l6 : (pSet P f v).length ≤ 6 := by
    by_cases g : pHas P f
    · rw [sl.1 g]; exact h6
    · rw [sl.2 g]
      rcases hroom with z | z
      · omega
      · exact absurd z g
  refine j_aload_n dX8_hold_4 rfl ?_
  refine j_iload_n dX8_hold_5 rfl ?_
  refine j_iload_n dX8_hold_6 rfl ?_
  refine j_cVi dX8_hold_7 hB mo_X8_holdAt ml_X8_101 (sp_X8_holdAt hB h0 hm hb hP1) (by first | exact h0.1 | exact h0.2.1 | exact h0.2.2.1 | exact h0.2.2.2.1 | exact h0.2.2.2.2.1 | exact h0.2.2.2.2.2.1 | exact h0.2.2.2.2.2.2.1 | exact h0.2.2.2.2.2.2.2.1 | exact h0.2.2.2.2.2.2.2.2) rfl rfl rfl rfl ⟨rfl, rfl, by decide, by decide⟩ (Nat.le_of_ble_eq_true rfl) ⟨by decide, by decide⟩ (fun r_7 V_7 h_7 => ?_)
  obtain ⟨rfl, j, hj, hj2, hj3, hj4⟩ := h_7
  refine j_istore (L' := [(0, _), (1, _), (2, _), (3, _), (4, _)]) dX8_hold_10 (by decide) rfl ?_
  have hlen : ((pSet P f v).length : Int) = P.length + (if j = P.length then 1 else 0) := by
    split
    · rename_i e
      rw [sl.2 (fun z => by obtain ⟨i9, a9, b9⟩ := hh.mp z; exact hj3 i9 (by omega) b9)]; rfl
    · rename_i e
      rw [sl.1 (hh.mpr ⟨j, by omega, hj4 (by omega)⟩)]; omega
  refine j_aload_n dX8_hold_12 rfl ?_
  refine j_getr dX8_hold_13 hB fl_X8_7 (by first | exact h0.1 | exact h0.2.1 | exact h0.2.2.1 | exact h0.2.2.2.1 | exact h0.2.2.2.2.1 | exact h0.2.2.2.2.2.1 | exact h0.2.2.2.2.2.2.1 | exact h0.2.2.2.2.2.2.2.1 | exact h0.2.2.2.2.2.2.2.2) (by rfl) ?_
  refine j_iload_n dX8_hold_16 rfl ?_
  refine j_dup2 dX8_hold_17 rfl rfl ?_
  refine m_iald (k := b) dX8_hold_18 hB (by first | exact h0.1 | exact h0.2.1 | exact h0.2.2.1 | exact h0.2.2.2.1 | exact h0.2.2.2.2.1 | exact h0.2.2.2.2.2.1 | exact h0.2.2.2.2.2.2.1 | exact h0.2.2.2.2.2.2.2.1 | exact h0.2.2.2.2.2.2.2.2) (ixk (hm) (by omega)) (by omega) ?_
  refine j_iload dX8_hold_19 rfl ?_
  refine j_aload_n dX8_hold_21 rfl ?_
  refine j_getr dX8_hold_22 hB fl_X8_7 (by first | exact h0.1 | exact h0.2.1 | exact h0.2.2.1 | exact h0.2.2.2.1 | exact h0.2.2.2.2.1 | exact h0.2.2.2.2.2.1 | exact h0.2.2.2.2.2.2.1 | exact h0.2.2.2.2.2.2.2.1 | exact h0.2.2.2.2.2.2.2.2) (by rfl) ?_
  refine j_iload_n dX8_hold_25 rfl ?_
  refine m_iald (k := b) dX8_hold_26 hB (by first | exact h0.1 | exact h0.2.1 | exact h0.2.2.1 | exact h0.2.2.2.1 | exact h0.2.2.2.2.1 | exact h0.2.2.2.2.2.1 | exact h0.2.2.2.2.2.2.1 | exact h0.2.2.2.2.2.2.2.1 | exact h0.2.2.2.2.2.2.2.2) (ixk (hm) (by omega)) (by omega) ?_
  refine m_icmp_ne (tgt := 34) dX8_hold_27 (by decide) (hj) (hn1) (fun c_27 => ?_) (fun c_27 => ?_)
  · refine j_iconst (v := 0) dX8_hold_34 (by decide) ?_
    refine j_iadd dX8_hold_35 ?_
    refine m_iast (k := b) dX8_hold_36 hB (by first | exact h0.1 | exact h0.2.1 | exact h0.2.2.1 | exact h0.2.2.2.1 | exact h0.2.2.2.2.1 | exact h0.2.2.2.2.2.1 | exact h0.2.2.2.2.2.2.1 | exact h0.2.2.2.2.2.2.2.1 | exact h0.2.2.2.2.2.2.2.2) (ixk (hm) (by omega)) (by omega) ?_
    generalize hV2 : jset V_1 (q + 1) b (V_1 (q + 1) b + 0) = V2
    have w0 : isI (V2 (q + 1) b) ((pSet P f v).length : Nat) := by
      rw [← hV2, jset_eq, hlen, if_neg (fun z => c_27 (by omega))]
      exact iA hn1 (iC 0 (by decide)) (by omega)
    have w1 : ∀ t, ¬ t = b → V2 (q + 1) t = V_1 (q + 1) t := fun t ht => by rw [← hV2, jset_ne (Or.inr ht)]
    have w2 : jAg V_1 V2 (q + 1) (q + 2) := by rw [← hV2]; exact jAg.rf.set (by omega) (by omega)
    refine j_aload_n dX8_hold_37 rfl ?_
    refine j_getr dX8_hold_38 hB fl_X8_7 (by first | exact h0.1 | exact h0.2.1 | exact h0.2.2.1 | exact h0.2.2.2.1 | exact h0.2.2.2.2.1 | exact h0.2.2.2.2.2.1 | exact h0.2.2.2.2.2.2.1 | exact h0.2.2.2.2.2.2.2.1 | exact h0.2.2.2.2.2.2.2.2) (by rfl) ?_
    refine j_iload_n dX8_hold_41 rfl ?_
    refine j_iconst (v := 1) dX8_hold_42 (by decide) ?_
    refine j_iadd dX8_hold_43 ?_
    refine j_iconst (v := 2) dX8_hold_44 (by decide) ?_
    refine j_iload dX8_hold_45 rfl ?_
    refine j_imul dX8_hold_47 ?_
    refine j_iadd dX8_hold_48 ?_
    refine j_iload_n dX8_hold_49 rfl ?_
    refine m_iast (k := b + 1 + 2 * j) dX8_hold_50 hB (by first | exact h0.1 | exact h0.2.1 | exact h0.2.2.1 | exact h0.2.2.2.1 | exact h0.2.2.2.2.1 | exact h0.2.2.2.2.2.1 | exact h0.2.2.2.2.2.2.1 | exact h0.2.2.2.2.2.2.2.1 | exact h0.2.2.2.2.2.2.2.2) (ixk (iA (iA (hm) (iC 1 (by decide)) (by omega)) (iM (iC 2 (by decide)) (hj) (by omega)) (by omega)) (by omega)) (by omega) ?_
    refine j_aload_n dX8_hold_51 rfl ?_
    refine j_getr dX8_hold_52 hB fl_X8_7 (by first | exact h0.1 | exact h0.2.1 | exact h0.2.2.1 | exact h0.2.2.2.1 | exact h0.2.2.2.2.1 | exact h0.2.2.2.2.2.1 | exact h0.2.2.2.2.2.2.1 | exact h0.2.2.2.2.2.2.2.1 | exact h0.2.2.2.2.2.2.2.2) (by rfl) ?_
    refine j_iload_n dX8_hold_55 rfl ?_
    refine j_iconst (v := 2) dX8_hold_56 (by decide) ?_
    refine j_iadd dX8_hold_57 ?_
    refine j_iconst (v := 2) dX8_hold_58 (by decide) ?_
    refine j_iload dX8_hold_59 rfl ?_
    refine j_imul dX8_hold_61 ?_
    refine j_iadd dX8_hold_62 ?_
    refine j_iload_n dX8_hold_63 rfl ?_
    refine m_iast (k := b + 1 + 2 * j + 1) dX8_hold_64 hB (by first | exact h0.1 | exact h0.2.1 | exact h0.2.2.1 | exact h0.2.2.2.1 | exact h0.2.2.2.2.1 | exact h0.2.2.2.2.2.1 | exact h0.2.2.2.2.2.2.1 | exact h0.2.2.2.2.2.2.2.1 | exact h0.2.2.2.2.2.2.2.2) (ixk (iA (iA (hm) (iC 2 (by decide)) (by omega)) (iM (iC 2 (by decide)) (hj) (by omega)) (by omega)) (by omega)) (by omega) ?_
    generalize hV3 : jset (jset V2 (q + 1) (b + 1 + 2 * j) f) (q + 1) (b + 1 + 2 * j + 1) v = V3
    have hn9 : isI (V3 (q + 1) b) ((pSet P f v).length : Nat) := by rw [← hV3, jset_ne (Or.inr (by omega)), jset_ne (Or.inr (by omega))]; exact w0
    have w3 : jAg V_1 V3 (q + 1) (q + 2) := by rw [← hV3]; exact (w2.set (by omega) (by omega)).set (by omega) (by omega)
    have w4 : ∀ t, ¬ t = b → ¬ t = b + 1 + 2 * j → ¬ t = b + 1 + 2 * j + 1 → V3 (q + 1) t = V_1 (q + 1) t := fun t h7 h8 h9 => by rw [← hV3, jset_ne (Or.inr h9), jset_ne (Or.inr h8)]; exact w1 t h7
    refine j_aload_n dX8_hold_65 rfl ?_
    refine j_getr dX8_hold_66 hB fl_X8_7 (by first | exact h0.1 | exact h0.2.1 | exact h0.2.2.1 | exact h0.2.2.2.1 | exact h0.2.2.2.2.1 | exact h0.2.2.2.2.2.1 | exact h0.2.2.2.2.2.2.1 | exact h0.2.2.2.2.2.2.2.1 | exact h0.2.2.2.2.2.2.2.2) (by rfl) ?_
    refine j_iload_n dX8_hold_69 rfl ?_
    refine m_iald (k := b) dX8_hold_70 hB (by first | exact h0.1 | exact h0.2.1 | exact h0.2.2.1 | exact h0.2.2.2.1 | exact h0.2.2.2.2.1 | exact h0.2.2.2.2.2.1 | exact h0.2.2.2.2.2.2.1 | exact h0.2.2.2.2.2.2.2.1 | exact h0.2.2.2.2.2.2.2.2) (ixk (hm) (by omega)) (by omega) ?_
    refine j_iret dX8_hold_71 rfl (rfl) (by decide) (by decide) ?_
    refine ⟨_, rfl, rfl, rfl, rfl, hn9, V_1, hS, eS, tS, aS, w3, hP1.hold hs hj2 hj3 hj4 l6 ?_ ?_ ?_ (fun i9 a9 b9 => ⟨w4 _ (by omega) (by omega) (by omega), w4 _ (by omega) (by omega) (by omega)⟩), fun t ht => ?_⟩
    · rw [hn1, ← hlen]; exact hn9
    · rw [← hV3, jset_ne (Or.inr (by omega)), jset_eq]
    · rw [← hV3, jset_eq]
    · rw [w4 t (by omega) (by omega) (by omega), eS]
  · refine j_iconst (v := 1) dX8_hold_30 (by decide) ?_
    refine j_goto (tgt := 35) dX8_hold_31 (by decide) ?_
    refine j_iadd dX8_hold_35 ?_
    refine m_iast (k := b) dX8_hold_36 hB (by first | exact h0.1 | exact h0.2.1 | exact h0.2.2.1 | exact h0.2.2.2.1 | exact h0.2.2.2.2.1 | exact h0.2.2.2.2.2.1 | exact h0.2.2.2.2.2.2.1 | exact h0.2.2.2.2.2.2.2.1 | exact h0.2.2.2.2.2.2.2.2) (ixk (hm) (by omega)) (by omega) ?_
    generalize hV2 : jset V_1 (q + 1) b (V_1 (q + 1) b + 1) = V2
    have w0 : isI (V2 (q + 1) b) ((pSet P f v).length : Nat) := by
      rw [← hV2, jset_eq, hlen, if_pos (by omega)]
      exact iA hn1 (iC 1 (by decide)) (by omega)
    have w1 : ∀ t, ¬ t = b → V2 (q + 1) t = V_1 (q + 1) t := fun t ht => by rw [← hV2, jset_ne (Or.inr ht)]
    have w2 : jAg V_1 V2 (q + 1) (q + 2) := by rw [← hV2]; exact jAg.rf.set (by omega) (by omega)
    refine j_aload_n dX8_hold_37 rfl ?_
    refine j_getr dX8_hold_38 hB fl_X8_7 (by first | exact h0.1 | exact h0.2.1 | exact h0.2.2.1 | exact h0.2.2.2.1 | exact h0.2.2.2.2.1 | exact h0.2.2.2.2.2.1 | exact h0.2.2.2.2.2.2.1 | exact h0.2.2.2.2.2.2.2.1 | exact h0.2.2.2.2.2.2.2.2) (by rfl) ?_
    refine j_iload_n dX8_hold_41 rfl ?_
    refine j_iconst (v := 1) dX8_hold_42 (by decide) ?_
    refine j_iadd dX8_hold_43 ?_
    refine j_iconst (v := 2) dX8_hold_44 (by decide) ?_
    refine j_iload dX8_hold_45 rfl ?_
    refine j_imul dX8_hold_47 ?_
    refine j_iadd dX8_hold_48 ?_
    refine j_iload_n dX8_hold_49 rfl ?_
    refine m_iast (k := b + 1 + 2 * j) dX8_hold_50 hB (by first | exact h0.1 | exact h0.2.1 | exact h0.2.2.1 | exact h0.2.2.2.1 | exact h0.2.2.2.2.1 | exact h0.2.2.2.2.2.1 | exact h0.2.2.2.2.2.2.1 | exact h0.2.2.2.2.2.2.2.1 | exact h0.2.2.2.2.2.2.2.2) (ixk (iA (iA (hm) (iC 1 (by decide)) (by omega)) (iM (iC 2 (by decide)) (hj) (by omega)) (by omega)) (by omega)) (by omega) ?_
    refine j_aload_n dX8_hold_51 rfl ?_
    refine j_getr dX8_hold_52 hB fl_X8_7 (by first | exact h0.1 | exact h0.2.1 | exact h0.2.2.1 | exact h0.2.2.2.1 | exact h0.2.2.2.2.1 | exact h0.2.2.2.2.2.1 | exact h0.2.2.2.2.2.2.1 | exact h0.2.2.2.2.2.2.2.1 | exact h0.2.2.2.2.2.2.2.2) (by rfl) ?_
    refine j_iload_n dX8_hold_55 rfl ?_
    refine j_iconst (v := 2) dX8_hold_56 (by decide) ?_
    refine j_iadd dX8_hold_57 ?_
    refine j_iconst (v := 2) dX8_hold_58 (by decide) ?_
    refine j_iload dX8_hold_59 rfl ?_
    refine j_imul dX8_hold_61 ?_
    refine j_iadd dX8_hold_62 ?_
    refine j_iload_n dX8_hold_63 rfl ?_
    refine m_iast (k := b + 1 + 2 * j + 1) dX8_hold_64 hB (by first | exact h0.1 | exact h0.2.1 | exact h0.2.2.1 | exact h0.2.2.2.1 | exact h0.2.2.2.2.1 | exact h0.2.2.2.2.2.1 | exact h0.2.2.2.2.2.2.1 | exact h0.2.2.2.2.2.2.2.1 | exact h0.2.2.2.2.2.2.2.2) (ixk (iA (iA (hm) (iC 2 (by decide)) (by omega)) (iM (iC 2 (by decide)) (hj) (by omega)) (by omega)) (by omega)) (by omega) ?_
    generalize hV3 : jset (jset V2 (q + 1) (b + 1 + 2 * j) f) (q + 1) (b + 1 + 2 * j + 1) v = V3
    have hn9 : isI (V3 (q + 1) b) ((pSet P f v).length : Nat) := by rw [← hV3, jset_ne (Or.inr (by omega)), jset_ne (Or.inr (by omega))]; exact w0
    have w3 : jAg V_1 V3 (q + 1) (q + 2) := by rw [← hV3]; exact (w2.set (by omega) (by omega)).set (by omega) (by omega)
    have w4 : ∀ t, ¬ t = b → ¬ t = b + 1 + 2 * j → ¬ t = b + 1 + 2 * j + 1 → V3 (q + 1) t = V_1 (q + 1) t := fun t h7 h8 h9 => by rw [← hV3, jset_ne (Or.inr h9), jset_ne (Or.inr h8)]; exact w1 t h7
    refine j_aload_n dX8_hold_65 rfl ?_
    refine j_getr dX8_hold_66 hB fl_X8_7 (by first | exact h0.1 | exact h0.2.1 | exact h0.2.2.1 | exact h0.2.2.2.1 | exact h0.2.2.2.2.1 | exact h0.2.2.2.2.2.1 | exact h0.2.2.2.2.2.2.1 | exact h0.2.2.2.2.2.2.2.1 | exact h0.2.2.2.2.2.2.2.2) (by rfl) ?_
    refine j_iload_n dX8_hold_69 rfl ?_
    refine m_iald (k := b) dX8_hold_70 hB (by first | exact h0.1 | exact h0.2.1 | exact h0.2.2.1 | exact h0.2.2.2.1 | exact h0.2.2.2.2.1 | exact h0.2.2.2.2.2.1 | exact h0.2.2.2.2.2.2.1 | exact h0.2.2.2.2.2.2.2.1 | exact h0.2.2.2.2.2.2.2.2) (ixk (hm) (by omega)) (by omega) ?_
    refine j_iret dX8_hold_71 rfl (rfl) (by decide) (by decide) ?_
    refine ⟨_, rfl, rfl, rfl, rfl, hn9, V_1, hS, eS, tS, aS, w3, hP1.hold hs hj2 hj3 hj4 l6 ?_ ?_ ?_ (fun i9 a9 b9 => ⟨w4 _ (by omega) (by omega) (by omega), w4 _ (by omega) (by omega) (by omega)⟩), fun t ht => ?_⟩
    · rw [hn1, ← hlen]; exact hn9
    · rw [← hV3, jset_ne (Or.inr (by omega)), jset_eq]
    · rw [← hV3, jset_eq]
    · rw [w4 t (by omega) (by omega) (by omega), eS]
set_option maxRecDepth 100000 in
set_option maxHeartbeats 4000000 in
theorem sp_X8_drop (hB : jB l s0 D) {q : Nat} (h0 : moT T q) {x : aX} (h : moIs T V q x) (hW : xW x) {m : Int32} {b : Nat} (hm : m.toInt = b) (hb : b + 13 ≤ 231) {P : pL} (hP : zHl (V (q + 1)) b P) {f : Int32} (hs : pSrt P) : Sp l s0 D kX8_drop (jR 1 0 0) 0 0 [.ref q, .int m, .int f] T V X sz (qI T X sz (fun y V' => isI y ((pDel P f).length : Nat) ∧ ∃ V1 : jV, moIs T V1 q (xNow x x.1) ∧ V1 (q + 1) = V (q + 1) ∧ V1 q 0 = V q 0 ∧ jAg V V1 q (q + 9) ∧ jAg V1 V' (q + 1) (q + 2) ∧ zHl (V' (q + 1)) b (pDel P f) ∧ ∀ t, (t < b ∨ b + 13 ≤ t) → V' (q + 1) t = V (q + 1) t)) := by
  refine Sp.of pn_X8_drop rfl (Nat.le_of_ble_eq_true rfl) ?_
  refine j_aload_n dX8_drop_0 rfl ?_
  refine j_cVu dX8_drop_1 hB mo_X8_save ml_X8_91 (sp_X8_save hB h0 h hW) (by first | exact h0.1 | exact h0.2.1 | exact h0.2.2.1 | exact h0.2.2.2.1 | exact h0.2.2.2.2.1 | exact h0.2.2.2.2.2.1 | exact h0.2.2.2.2.2.2.1 | exact h0.2.2.2.2.2.2.2.1 | exact h0.2.2.2.2.2.2.2.2) rfl rfl rfl rfl ⟨rfl, rfl, by decide, by decide⟩ (Nat.le_of_ble_eq_true rfl) ⟨by decide, by decide⟩ (fun V_1 h_1 => ?_)
  obtain ⟨hS, eS, tS, aS, xS⟩ := h_1
  have hP1 : zHl (V_1 (q + 1)) b P := by rw [eS]; exact hP
  have h6 := hP.1
  have hn1 : isI (V_1 (q + 1) b) (P.length : Nat) := hP1.n
  have hh := hP1.has (f := f)
  refine j_aload_n dX8_drop_4 rfl ?_
  refine j_iload_n dX8_drop_5 rfl ?_
  refine j_iload_n dX8_drop_6 rfl ?_
  refine j_cVi dX8_drop_7 hB mo_X8_holdAt ml_X8_101 (sp_X8_holdAt hB h0 hm hb hP1) (by first | exact h0.1 | exact h0.2.1 | exact h0.2.2.1 | exact h0.2.2.2.1 | exact h0.2.2.2.2.1 | exact h0.2.2.2.2.2.1 | exact h0.2.2.2.2.2.2.1 | exact h0.2.2.2.2.2.2.2.1 | exact h0.2.2.2.2.2.2.2.2) rfl rfl rfl rfl ⟨rfl, rfl, by decide, by decide⟩ (Nat.le_of_ble_eq_true rfl) ⟨by decide, by decide⟩ (fun r_7 V_7 h_7 => ?_)
  obtain ⟨rfl, j, hj, hj2, hj3, hj4⟩ := h_7
  refine j_istore_n (L' := [(0, _), (1, _), (2, _), (3, _)]) dX8_drop_10 (by decide) rfl ?_
  refine j_iload_n dX8_drop_11 rfl ?_
  refine j_aload_n dX8_drop_12 rfl ?_
  refine j_getr dX8_drop_13 hB fl_X8_7 (by first | exact h0.1 | exact h0.2.1 | exact h0.2.2.1 | exact h0.2.2.2.1 | exact h0.2.2.2.2.1 | exact h0.2.2.2.2.2.1 | exact h0.2.2.2.2.2.2.1 | exact h0.2.2.2.2.2.2.2.1 | exact h0.2.2.2.2.2.2.2.2) (by rfl) ?_
  refine j_iload_n dX8_drop_16 rfl ?_
  refine m_iald (k := b) dX8_drop_17 hB (by first | exact h0.1 | exact h0.2.1 | exact h0.2.2.1 | exact h0.2.2.2.1 | exact h0.2.2.2.2.1 | exact h0.2.2.2.2.2.1 | exact h0.2.2.2.2.2.2.1 | exact h0.2.2.2.2.2.2.2.1 | exact h0.2.2.2.2.2.2.2.2) (ixk (hm) (by omega)) (by omega) ?_
  refine m_icmp_ge (tgt := 79) dX8_drop_18 (by decide) (hj) (hn1) (fun c_18 => ?_) (fun c_18 => ?_)
  · have hnf : ¬ pHas P f := fun z => by obtain ⟨i9, a9, b9⟩ := hh.mp z; exact hj3 i9 (by omega) b9
    have hdl := (pDel_eq hs).2 hnf
    have hnd : isI (V_1 (q + 1) b) ((pDel P f).length : Nat) := by rw [hdl]; exact hn1
    refine j_aload_n dX8_drop_79 rfl ?_
    refine j_getr dX8_drop_80 hB fl_X8_7 (by first | exact h0.1 | exact h0.2.1 | exact h0.2.2.1 | exact h0.2.2.2.1 | exact h0.2.2.2.2.1 | exact h0.2.2.2.2.2.1 | exact h0.2.2.2.2.2.2.1 | exact h0.2.2.2.2.2.2.2.1 | exact h0.2.2.2.2.2.2.2.2) (by rfl) ?_
    refine j_iload_n dX8_drop_83 rfl ?_
    refine m_iald (k := b) dX8_drop_84 hB (by first | exact h0.1 | exact h0.2.1 | exact h0.2.2.1 | exact h0.2.2.2.1 | exact h0.2.2.2.2.1 | exact h0.2.2.2.2.2.1 | exact h0.2.2.2.2.2.2.1 | exact h0.2.2.2.2.2.2.2.1 | exact h0.2.2.2.2.2.2.2.2) (ixk (hm) (by omega)) (by omega) ?_
    refine j_iret dX8_drop_85 rfl (rfl) (by decide) (by decide) ?_
    exact ⟨_, rfl, rfl, rfl, rfl, hnd, V_1, hS, eS, tS, aS, jAg.rf, by rw [(pDel_eq hs).2 hnf]; exact hP1, fun t _ => by rw [eS]⟩
  · refine j_aload_n dX8_drop_21 rfl ?_
    refine j_getr dX8_drop_22 hB fl_X8_7 (by first | exact h0.1 | exact h0.2.1 | exact h0.2.2.1 | exact h0.2.2.2.1 | exact h0.2.2.2.2.1 | exact h0.2.2.2.2.2.1 | exact h0.2.2.2.2.2.2.1 | exact h0.2.2.2.2.2.2.2.1 | exact h0.2.2.2.2.2.2.2.2) (by rfl) ?_
    refine j_iload_n dX8_drop_25 rfl ?_
    refine j_dup2 dX8_drop_26 rfl rfl ?_
    refine m_iald (k := b) dX8_drop_27 hB (by first | exact h0.1 | exact h0.2.1 | exact h0.2.2.1 | exact h0.2.2.2.1 | exact h0.2.2.2.2.1 | exact h0.2.2.2.2.2.1 | exact h0.2.2.2.2.2.2.1 | exact h0.2.2.2.2.2.2.2.1 | exact h0.2.2.2.2.2.2.2.2) (ixk (hm) (by omega)) (by omega) ?_
    refine j_iconst (v := 1) dX8_drop_28 (by decide) ?_
    refine j_isub dX8_drop_29 ?_
    refine m_iast (k := b) dX8_drop_30 hB (by first | exact h0.1 | exact h0.2.1 | exact h0.2.2.1 | exact h0.2.2.2.1 | exact h0.2.2.2.2.1 | exact h0.2.2.2.2.2.1 | exact h0.2.2.2.2.2.2.1 | exact h0.2.2.2.2.2.2.2.1 | exact h0.2.2.2.2.2.2.2.2) (ixk (hm) (by omega)) (by omega) ?_
    generalize hV2 : jset V_1 (q + 1) b (V_1 (q + 1) b - 1) = V2
    have hf9 : V_1 (q + 1) (b + 1 + 2 * j) = f := hj4 (by omega)
    have hph : pHas P f := hh.mpr ⟨j, by omega, hf9⟩
    obtain ⟨pk1, pk2⟩ := pos_key hs hph
    have hdl : (pDel P f).length = P.length - 1 := by rw [(pDel_eq hs).1 hph, List.length_eraseIdx_of_lt pk1]
    have w0 : isI (V2 (q + 1) b) (((P.length - 1 : Nat) : Int)) := by
      rw [← hV2, jset_eq]
      exact ixz (iS hn1 (iC 1 (by decide)) (by omega)) (by omega)
    have w1 : ∀ t, ¬ t = b → V2 (q + 1) t = V_1 (q + 1) t := fun t ht => by rw [← hV2, jset_ne (Or.inr ht)]
    have w2 : jAg V_1 V2 (q + 1) (q + 2) := by rw [← hV2]; exact jAg.rf.set (by omega) (by omega)
    refine j_iload_n dX8_drop_31 rfl ?_
    refine j_iconst (v := 1) dX8_drop_32 (by decide) ?_
    refine j_iadd dX8_drop_33 ?_
    refine j_iconst (v := 2) dX8_drop_34 (by decide) ?_
    refine j_iload_n dX8_drop_35 rfl ?_
    refine j_imul dX8_drop_36 ?_
    refine j_iadd dX8_drop_37 ?_
    refine j_istore (L' := [(0, _), (1, _), (2, _), (3, _), (4, _)]) dX8_drop_38 (by decide) rfl ?_
    have loop : ∀ (n t : Nat) (i : Int32) (V3 : jV), t + n = 2 * (P.length - 1) → i.toInt = ((b + 1 + t : Nat) : Int) → 2 * j ≤ t → jAg V_1 V3 (q + 1) (q + 2) → isI (V3 (q + 1) b) (((P.length - 1 : Nat) : Int)) → (∀ a : Nat, a < 2 * j → V3 (q + 1) (b + 1 + a) = V_1 (q + 1) (b + 1 + a)) → (∀ a : Nat, 2 * j ≤ a → a < t → V3 (q + 1) (b + 1 + a) = V_1 (q + 1) (b + 1 + a + 2)) → (∀ a : Nat, t ≤ a → V3 (q + 1) (b + 1 + a) = V_1 (q + 1) (b + 1 + a)) → (∀ a, a < b → V3 (q + 1) a = V_1 (q + 1) a) → J l s0 D kX8_drop (jR 1 0 0) 0 0 (qI T X sz (fun y V' => isI y ((pDel P f).length : Nat) ∧ ∃ V1 : jV, moIs T V1 q (xNow x x.1) ∧ V1 (q + 1) = V (q + 1) ∧ V1 q 0 = V q 0 ∧ jAg V V1 q (q + 9) ∧ jAg V1 V' (q + 1) (q + 2) ∧ zHl (V' (q + 1)) b (pDel P f) ∧ ∀ t, (t < b ∨ b + 13 ≤ t) → V' (q + 1) t = V (q + 1) t)) 40 [(0, .ref q), (1, .int m), (2, .int f), (3, .int r_7), (4, .int i)] [] T V3 X sz 0 0 := by
      intro n
      refine Nat.strongRecOn n ?_
      clear n
      intro n ih t i V3 hn hi ht2 ha hb0 e1 e2 e3 e4
      refine j_iload dX8_drop_40 rfl ?_
      refine j_iload_n dX8_drop_42 rfl ?_
      refine j_iconst (v := 1) dX8_drop_43 (by decide) ?_
      refine j_iadd dX8_drop_44 ?_
      refine j_iconst (v := 2) dX8_drop_45 (by decide) ?_
      refine j_aload_n dX8_drop_46 rfl ?_
      refine j_getr dX8_drop_47 hB fl_X8_7 (by first | exact h0.1 | exact h0.2.1 | exact h0.2.2.1 | exact h0.2.2.2.1 | exact h0.2.2.2.2.1 | exact h0.2.2.2.2.2.1 | exact h0.2.2.2.2.2.2.1 | exact h0.2.2.2.2.2.2.2.1 | exact h0.2.2.2.2.2.2.2.2) (by rfl) ?_
      refine j_iload_n dX8_drop_50 rfl ?_
      refine m_iald (k := b) dX8_drop_51 hB (by first | exact h0.1 | exact h0.2.1 | exact h0.2.2.1 | exact h0.2.2.2.1 | exact h0.2.2.2.2.1 | exact h0.2.2.2.2.2.1 | exact h0.2.2.2.2.2.2.1 | exact h0.2.2.2.2.2.2.2.1 | exact h0.2.2.2.2.2.2.2.2) (ixk (hm) (by omega)) (by omega) ?_
      refine j_imul dX8_drop_52 ?_
      refine j_iadd dX8_drop_53 ?_
      refine m_icmp_ge (tgt := 79) dX8_drop_54 (by decide) (hi) (iA (iA (hm) (iC 1 (by decide)) (by omega)) (iM (iC 2 (by decide)) (hb0) (by omega)) (by omega)) (fun c_54 => ?_) (fun c_54 => ?_)
      · refine j_aload_n dX8_drop_79 rfl ?_
        refine j_getr dX8_drop_80 hB fl_X8_7 (by first | exact h0.1 | exact h0.2.1 | exact h0.2.2.1 | exact h0.2.2.2.1 | exact h0.2.2.2.2.1 | exact h0.2.2.2.2.2.1 | exact h0.2.2.2.2.2.2.1 | exact h0.2.2.2.2.2.2.2.1 | exact h0.2.2.2.2.2.2.2.2) (by rfl) ?_
        refine j_iload_n dX8_drop_83 rfl ?_
        refine m_iald (k := b) dX8_drop_84 hB (by first | exact h0.1 | exact h0.2.1 | exact h0.2.2.1 | exact h0.2.2.2.1 | exact h0.2.2.2.2.1 | exact h0.2.2.2.2.2.1 | exact h0.2.2.2.2.2.2.1 | exact h0.2.2.2.2.2.2.2.1 | exact h0.2.2.2.2.2.2.2.2) (ixk (hm) (by omega)) (by omega) ?_
        refine j_iret dX8_drop_85 rfl (rfl) (by decide) (by decide) ?_
        refine ⟨_, rfl, rfl, rfl, rfl, by rw [hdl]; exact hb0, V_1, hS, eS, tS, aS, ha, hP1.drop hs (by omega) hf9 ?_ (fun i9 h9 => ⟨?_, ?_⟩) (fun i9 h8 h9 => ⟨?_, ?_⟩), fun t9 h9 => ?_⟩
        · rw [hb0, hn1]; omega
        · exact e1 (2 * i9) (by omega)
        · exact e1 (2 * i9 + 1) (by omega)
        · rw [e2 (2 * i9) (by omega) (by omega), show b + 1 + 2 * i9 + 2 = b + 1 + 2 * (i9 + 1) by omega]
        · have := e2 (2 * i9 + 1) (by omega) (by omega)
          rw [show b + 1 + (2 * i9 + 1) + 2 = b + 1 + 2 * (i9 + 1) + 1 by omega] at this
          exact this
        · rw [← eS]
          rcases h9 with z | z
          · exact e4 t9 z
          · rw [show t9 = b + 1 + (t9 - b - 1) by omega]
            exact e3 _ (by omega)
      · refine j_aload_n dX8_drop_57 rfl ?_
        refine j_getr dX8_drop_58 hB fl_X8_7 (by first | exact h0.1 | exact h0.2.1 | exact h0.2.2.1 | exact h0.2.2.2.1 | exact h0.2.2.2.2.1 | exact h0.2.2.2.2.2.1 | exact h0.2.2.2.2.2.2.1 | exact h0.2.2.2.2.2.2.2.1 | exact h0.2.2.2.2.2.2.2.2) (by rfl) ?_
        refine j_iload dX8_drop_61 rfl ?_
        refine j_aload_n dX8_drop_63 rfl ?_
        refine j_getr dX8_drop_64 hB fl_X8_7 (by first | exact h0.1 | exact h0.2.1 | exact h0.2.2.1 | exact h0.2.2.2.1 | exact h0.2.2.2.2.1 | exact h0.2.2.2.2.2.1 | exact h0.2.2.2.2.2.2.1 | exact h0.2.2.2.2.2.2.2.1 | exact h0.2.2.2.2.2.2.2.2) (by rfl) ?_
        refine j_iload dX8_drop_67 rfl ?_
        refine j_iconst (v := 2) dX8_drop_69 (by decide) ?_
        refine j_iadd dX8_drop_70 ?_
        refine m_iald (k := (b + 1 + t) + 2) dX8_drop_71 hB (by first | exact h0.1 | exact h0.2.1 | exact h0.2.2.1 | exact h0.2.2.2.1 | exact h0.2.2.2.2.1 | exact h0.2.2.2.2.2.1 | exact h0.2.2.2.2.2.2.1 | exact h0.2.2.2.2.2.2.2.1 | exact h0.2.2.2.2.2.2.2.2) (ixk (iA (hi) (iC 2 (by decide)) (by omega)) (by omega)) (by omega) ?_
        refine m_iast (k := (b + 1 + t)) dX8_drop_72 hB (by first | exact h0.1 | exact h0.2.1 | exact h0.2.2.1 | exact h0.2.2.2.1 | exact h0.2.2.2.2.1 | exact h0.2.2.2.2.2.1 | exact h0.2.2.2.2.2.2.1 | exact h0.2.2.2.2.2.2.2.1 | exact h0.2.2.2.2.2.2.2.2) (ixk (hi) (by omega)) (by omega) ?_
        refine j_iinc (v := 1) (L' := [(0, _), (1, _), (2, _), (3, _), (4, _)]) dX8_drop_73 rfl (by decide) (by decide) rfl ?_
        refine j_goto (tgt := 40) dX8_drop_76 (by decide) ?_
        refine ih (n - 1) (by omega) (t + 1) _ _ (by omega) ?_ (by omega) (ha.set (by omega) (by omega)) ?_ ?_ ?_ ?_ ?_
        · exact (ixk (k := b + 1 + (t + 1)) (iA (hi) (iC 1 (by decide)) (by omega)) (by omega))
        · rw [jset_ne (Or.inr (by omega))]; exact hb0
        · intro a h9; rw [jset_ne (Or.inr (by omega))]; exact e1 a h9
        · intro a h8 h9
          rcases Nat.lt_or_ge a t with g | g
          · rw [jset_ne (Or.inr (by omega))]; exact e2 a h8 g
          · rw [show a = t by omega, jset_eq, show b + 1 + t + 2 = b + 1 + (t + 2) by omega]; exact e3 (t + 2) (by omega)
        · intro a h9; rw [jset_ne (Or.inr (by omega))]; exact e3 a (by omega)
        · intro a h9; rw [jset_ne (Or.inr (by omega))]; exact e4 a h9
    refine loop (2 * (P.length - 1) - 2 * j) (2 * j) _ _ (by omega) ?_ (Nat.le_refl _) w2 w0 (fun a _ => w1 _ (by omega)) (fun a h8 h9 => absurd h8 (by omega)) (fun a _ => w1 _ (by omega)) (fun a _ => w1 _ (by omega))
    exact ixk (k := b + 1 + 2 * j) (iA (iA (hm) (iC 1 (by decide)) (by omega)) (iM (iC 2 (by decide)) (hj) (by omega)) (by omega)) (by omega)
end JM8
