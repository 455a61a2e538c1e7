/-! CueSheets$SheetReader: a character -/
section JReader3
variable {l : Launch} {s0 : State} {D : jD} {T : jT} {V : jV} {X : jX} {sz : Nat}
theorem rdOK.p1 {q : Nat} {t : tR} {V' : jV} {L : List Int32} (h : rdOK T V q t) (g : RowOK T V' (q + 1) 60) (f : Rw V' (q + 1) = L) (a : jAg V V' (q + 1) (q + 1 + 2)) : rdOK T V' q (L, t.2.1, t.2.2.1, t.2.2.2.1, t.2.2.2.2) := by
  obtain ⟨h0, h1, h2, h3, h4, e1, e2, e3, e4, e5⟩ := h
  exact ⟨h0, g, h2.ag a (by omega), h3.ag a (by omega), h4.ag a (by omega), f, by rw [Rw_ag a (by omega)]; exact e2, by rw [Rw_ag a (by omega)]; exact e3, by rw [Rw_ag a (by omega)]; exact e4, by rw [a q (by omega)]; exact e5⟩
theorem rdOK.p2 {q : Nat} {t : tR} {V' : jV} {L : List Int32} (h : rdOK T V q t) (g : RowOK T V' (q + 3) 60) (f : Rw V' (q + 3) = L) (a : jAg V V' (q + 3) (q + 3 + 2)) : rdOK T V' q (t.1, L, t.2.2.1, t.2.2.2.1, t.2.2.2.2) := by
  obtain ⟨h0, h1, h2, h3, h4, e1, e2, e3, e4, e5⟩ := h
  exact ⟨h0, h1.ag a (by omega), g, h3.ag a (by omega), h4.ag a (by omega), by rw [Rw_ag a (by omega)]; exact e1, f, by rw [Rw_ag a (by omega)]; exact e3, by rw [Rw_ag a (by omega)]; exact e4, by rw [a q (by omega)]; exact e5⟩
theorem rdOK.p3 {q : Nat} {t : tR} {V' : jV} {L : List Int32} (h : rdOK T V q t) (g : RowOK T V' (q + 5) 60) (f : Rw V' (q + 5) = L) (a : jAg V V' (q + 5) (q + 5 + 2)) : rdOK T V' q (t.1, t.2.1, L, t.2.2.2.1, t.2.2.2.2) := by
  obtain ⟨h0, h1, h2, h3, h4, e1, e2, e3, e4, e5⟩ := h
  exact ⟨h0, h1.ag a (by omega), h2.ag a (by omega), g, h4.ag a (by omega), by rw [Rw_ag a (by omega)]; exact e1, by rw [Rw_ag a (by omega)]; exact e2, f, by rw [Rw_ag a (by omega)]; exact e4, by rw [a q (by omega)]; exact e5⟩
theorem rdOK.p4 {q : Nat} {t : tR} {V' : jV} {L : List Int32} (h : rdOK T V q t) (g : RowOK T V' (q + 7) 60) (f : Rw V' (q + 7) = L) (a : jAg V V' (q + 7) (q + 7 + 2)) : rdOK T V' q (t.1, t.2.1, t.2.2.1, L, t.2.2.2.2) := by
  obtain ⟨h0, h1, h2, h3, h4, e1, e2, e3, e4, e5⟩ := h
  exact ⟨h0, h1.ag a (by omega), h2.ag a (by omega), h3.ag a (by omega), g, by rw [Rw_ag a (by omega)]; exact e1, by rw [Rw_ag a (by omega)]; exact e2, by rw [Rw_ag a (by omega)]; exact e3, f, by rw [a q (by omega)]; exact e5⟩
theorem tz {x k : Int32} (e : x.toInt = k.toInt) : x = k := Int32.toInt_inj.mp e
set_option maxRecDepth 100000 in
set_option maxHeartbeats 4000000 in
theorem sp_X4_readComma (hB : jB l s0 D) {q : Nat} {t : tR} (h : rdOK T V q t) (hn : rComp t → t.1.length < 60 ∧ t.2.1.length < 60 ∧ t.2.2.1.length < 60 ∧ t.2.2.2.1.length < 60) : Sp l s0 D kX4_readComma (jR 3 0 0) 0 0 [.ref q] T V X sz (qI T X sz (fun r V' => ((r = 1 ∧ rComp t ∧ rdOK T V' q (rNew t)) ∨ (r = 0 ∧ ¬ rComp t ∧ V = V')) ∧ jAg V V' q (q + 9))) := by
  refine Sp.of pn_X4_readComma rfl (Nat.le_of_ble_eq_true rfl) ?_
  refine j_aload_n dX4_readComma_0 rfl ?_
  refine j_cVi dX4_readComma_1 hB mo_X4_isComplete ml_X4_58 (sp_X4_isComplete hB h) (by first | exact h.1 | exact h.2.1.1 | exact h.2.2.1.1 | exact h.2.2.2.1.1 | exact h.2.2.2.2.1.1) rfl rfl rfl rfl ⟨rfl, rfl, by decide, by decide⟩ (Nat.le_of_ble_eq_true rfl) ⟨by decide, by decide⟩ (fun r_1 V_1 h_1 => ?_)
  obtain ⟨rfl, hc⟩ := h_1
  refine j_if_ne (tgt := 9) dX4_readComma_4 (by decide) (fun c_4 => ?_) (fun c_4 => ?_)
  · have hcc : rComp t := by rcases hc with ⟨_, z⟩ | ⟨z, _⟩; (exact z); exact absurd z c_4
    refine j_aload_n dX4_readComma_9 rfl ?_
    refine j_cVu dX4_readComma_10 hB mo_X4_beginScene ml_X4_36 (sp_X4_beginScene hB h (hn hcc).1 (hn hcc).2.1 (hn hcc).2.2.1 (hn hcc).2.2.2) (by first | exact h.1 | exact h.2.1.1 | exact h.2.2.1.1 | exact h.2.2.2.1.1 | exact h.2.2.2.2.1.1) rfl rfl rfl rfl ⟨rfl, rfl, by decide, by decide⟩ (Nat.le_of_ble_eq_true rfl) ⟨by decide, by decide⟩ (fun V_10 h_10 => ?_)
    obtain ⟨g1, a1⟩ := h_10
    refine j_iconst (v := 1) dX4_readComma_13 (by decide) ?_
    refine j_iret dX4_readComma_14 rfl (rfl) (by decide) (by decide) ?_
    exact ⟨_, rfl, rfl, rfl, rfl, Or.inl ⟨rfl, hcc, g1⟩, a1⟩
  · have hcc : ¬ rComp t := by rcases hc with ⟨z, _⟩ | ⟨_, z⟩; (rw [c_4] at z; exact absurd z (by decide)); exact z
    refine j_iconst (v := 0) dX4_readComma_7 (by decide) ?_
    refine j_iret dX4_readComma_8 rfl (rfl) (by decide) (by decide) ?_
    exact ⟨_, rfl, rfl, rfl, rfl, Or.inr ⟨rfl, hcc, rfl⟩, jAg.rf⟩
set_option maxRecDepth 100000 in
set_option maxHeartbeats 4000000 in
theorem sp_X4_readAtSign (hB : jB l s0 D) {q : Nat} {t : tR} (h : rdOK T V q t) : Sp l s0 D kX4_readAtSign (jR 2 0 0) 0 0 [.ref q] T V X sz (qI T X sz (fun r V' => ((r = 1 ∧ t.2.2.2.2 = 4 ∧ rdOK T V' q (t.1, t.2.1, t.2.2.1, setZ t.2.2.2.1 (rN t) 0, 5)) ∨ (r = 0 ∧ ¬ t.2.2.2.2 = 4 ∧ V = V')) ∧ jAg V V' q (q + 9))) := by
  refine Sp.of pn_X4_readAtSign rfl (Nat.le_of_ble_eq_true rfl) ?_
  have hp := h.2.2.2.2.2.2.2.2.2
  have e4 : (4 : Int32).toInt = 4 := by decide
  refine j_aload_n dX4_readAtSign_0 rfl ?_
  refine j_geti dX4_readAtSign_1 hB fl_X4_43 (by first | exact h.1 | exact h.2.1.1 | exact h.2.2.1.1 | exact h.2.2.2.1.1 | exact h.2.2.2.2.1.1) (by rfl) ?_
  refine j_iconst (v := 4) dX4_readAtSign_4 (by decide) ?_
  refine j_icmp_ne (tgt := 20) dX4_readAtSign_5 (by decide) (fun c_5 => ?_) (fun c_5 => ?_)
  · refine j_aload_n dX4_readAtSign_20 rfl ?_
    refine j_aload_n dX4_readAtSign_21 rfl ?_
    refine j_geti dX4_readAtSign_22 hB fl_X4_43 (by first | exact h.1 | exact h.2.1.1 | exact h.2.2.1.1 | exact h.2.2.2.1.1 | exact h.2.2.2.2.1.1) (by rfl) ?_
    refine j_iconst (v := 4) dX4_readAtSign_25 (by decide) ?_
    refine j_icmp_ne (tgt := 33) dX4_readAtSign_26 (by decide) (fun c_26 => ?_) (fun c_26 => ?_)
    · refine j_iconst (v := 0) dX4_readAtSign_33 (by decide) ?_
      refine j_iconst (v := 5) dX4_readAtSign_34 (by decide) ?_
      refine j_cVi dX4_readAtSign_35 hB mo_X4_step ml_X4_61 (sp_X4_step hB h (Or.inr rfl)) (by first | exact h.1 | exact h.2.1.1 | exact h.2.2.1.1 | exact h.2.2.2.1.1 | exact h.2.2.2.2.1.1) rfl rfl rfl rfl ⟨rfl, rfl, by decide, by decide⟩ (Nat.le_of_ble_eq_true rfl) ⟨by decide, by decide⟩ (fun r_35 V_35 h_35 => ?_)
      obtain ⟨rfl, _, hs, a2⟩ := h_35
      refine j_iret dX4_readAtSign_38 rfl (by decide) (by decide) (by decide) ?_
      exact ⟨_, rfl, rfl, rfl, rfl, Or.inr ⟨rfl, fun e => c_5 (hp.trans e), hs rfl⟩, a2⟩
    · exact absurd c_26 c_5
  · refine j_aload_n dX4_readAtSign_8 rfl ?_
    refine j_getr dX4_readAtSign_9 hB fl_X4_26 (by first | exact h.1 | exact h.2.1.1 | exact h.2.2.1.1 | exact h.2.2.2.1.1 | exact h.2.2.2.2.1.1) (by rfl) ?_
    refine j_aload_n dX4_readAtSign_12 rfl ?_
    refine j_cVi dX4_readAtSign_13 hB mo_X4_latest ml_X4_47 (sp_X4_latest hB (h)) (by first | exact h.1 | exact h.2.1.1 | exact h.2.2.1.1 | exact h.2.2.2.1.1 | exact h.2.2.2.2.1.1) rfl rfl rfl rfl ⟨rfl, rfl, by decide, by decide⟩ (Nat.le_of_ble_eq_true rfl) ⟨by decide, by decide⟩ (fun r_13 V_13 h_13 => ?_)
    obtain ⟨rfl, hi_13⟩ := h_13
    refine j_iconst (v := 0) dX4_readAtSign_16 (by decide) ?_
    refine j_cVu dX4_readAtSign_17 hB mo_X3_put ml_X4_72 (sp_X3_put hB h.2.2.2.2.1) (by first | exact h.1 | exact h.2.1.1 | exact h.2.2.1.1 | exact h.2.2.2.1.1 | exact h.2.2.2.2.1.1) rfl rfl rfl rfl ⟨rfl, rfl, by decide, by decide⟩ (Nat.le_of_ble_eq_true rfl) ⟨by decide, by decide⟩ (fun V_17 h_17 => ?_)
    obtain ⟨g1, f1, a1⟩ := h_17
    rw [hi_13, h.2.2.2.2.2.2.2.2.1] at f1
    have h2 := h.p4 g1 f1 a1
    have hp2 := h2.2.2.2.2.2.2.2.2.2
    refine j_aload_n dX4_readAtSign_20 rfl ?_
    refine j_aload_n dX4_readAtSign_21 rfl ?_
    refine j_geti dX4_readAtSign_22 hB fl_X4_43 (by first | exact h.1 | exact h.2.1.1 | exact h.2.2.1.1 | exact h.2.2.2.1.1 | exact h.2.2.2.2.1.1) (by rfl) ?_
    refine j_iconst (v := 4) dX4_readAtSign_25 (by decide) ?_
    refine j_icmp_ne (tgt := 33) dX4_readAtSign_26 (by decide) (fun c_26 => ?_) (fun c_26 => ?_)
    · exact absurd (hp2.trans (hp.symm.trans c_5)) c_26
    · refine j_iconst (v := 1) dX4_readAtSign_29 (by decide) ?_
      refine j_goto (tgt := 34) dX4_readAtSign_30 (by decide) ?_
      refine j_iconst (v := 5) dX4_readAtSign_34 (by decide) ?_
      refine j_cVi dX4_readAtSign_35 hB mo_X4_step ml_X4_61 (sp_X4_step hB h2 (Or.inl rfl)) (by first | exact h.1 | exact h.2.1.1 | exact h.2.2.1.1 | exact h.2.2.2.1.1 | exact h.2.2.2.2.1.1) rfl rfl rfl rfl ⟨rfl, rfl, by decide, by decide⟩ (Nat.le_of_ble_eq_true rfl) ⟨by decide, by decide⟩ (fun r_35 V_35 h_35 => ?_)
      obtain ⟨rfl, hs, _, a2⟩ := h_35
      refine j_iret dX4_readAtSign_38 rfl (by decide) (by decide) (by decide) ?_
      exact ⟨_, rfl, rfl, rfl, rfl, Or.inl ⟨rfl, hp.symm.trans c_5, hs rfl⟩, (a1.wide (by omega) (by omega)).tr a2⟩
set_option maxRecDepth 100000 in
set_option maxHeartbeats 4000000 in
theorem sp_X4_readDigit (hB : jB l s0 D) {q : Nat} {t : tR} {d : Int32} (h : rdOK T V q t) (d0 : 0 ≤ d.toInt) (d1 : d.toInt ≤ 9) (x0 : 0 ≤ (atZ t.1 (rN t)).toInt) (x1 : (atZ t.1 (rN t)).toInt ≤ 900) (y0 : 0 ≤ (atZ t.2.2.2.1 (rN t)).toInt) (y1 : (atZ t.2.2.2.1 (rN t)).toInt ≤ 900) : Sp l s0 D kX4_readDigit (jR 3 0 0) 0 0 [.ref q, .int d] T V X sz (qI T X sz (fun r V' => ((r = 1 ∧ ∃ t', rDig t d t' ∧ rdOK T V' q t') ∨ (r = 0 ∧ (∀ t', ¬ rDig t d t') ∧ rdK T V' q)) ∧ jAg V V' q (q + 9))) := by
  refine Sp.of pn_X4_readDigit rfl (Nat.le_of_ble_eq_true rfl) ?_
  have hp := h.2.2.2.2.2.2.2.2.2
  have k1 : (1 : Int32).toInt = 1 := by decide
  have k8 : (8 : Int32).toInt = 8 := by decide
  have k80 : (80 : Int32).toInt = 80 := by decide
  have k120 : (120 : Int32).toInt = 120 := by decide
  have k900 : (900 : Int32).toInt = 900 := by decide
  refine j_aload_n dX4_readDigit_0 rfl ?_
  refine j_geti dX4_readDigit_1 hB fl_X4_43 (by first | exact h.1 | exact h.2.1.1 | exact h.2.2.1.1 | exact h.2.2.2.1.1 | exact h.2.2.2.2.1.1) (by rfl) ?_
  refine j_tsw_6 (td := 142) (t0 := 44) (t1 := 58) (t2 := 142) (t3 := 87) (t4 := 142) (t5 := 128) dX4_readDigit_4 (by decide) (by decide) (fun s_4 => ?_) (fun s_4 => ?_) (fun s_4 => ?_) (fun s_4 => ?_) (fun s_4 => ?_) (fun s_4 => ?_) (fun s_4 => ?_)
  · have e0 : t.2.2.2.2 = 0 := by rw [← hp]; exact tz s_4
    refine j_aload_n dX4_readDigit_44 rfl ?_
    refine j_aload_n dX4_readDigit_45 rfl ?_
    refine j_getr dX4_readDigit_46 hB fl_X4_14 (by first | exact h.1 | exact h.2.1.1 | exact h.2.2.1.1 | exact h.2.2.2.1.1 | exact h.2.2.2.2.1.1) (by rfl) ?_
    refine j_iload_n dX4_readDigit_49 rfl ?_
    refine j_iconst (v := 1) dX4_readDigit_50 (by decide) ?_
    refine j_sipush (v := 900) dX4_readDigit_51 (by decide) ?_
    refine j_cVi dX4_readDigit_54 hB mo_X4_grow ml_X4_76 (sp_X4_grow hB h h.2.1 h.2.2.2.2.2.1 x0 x1 d0 d1) (by first | exact h.1 | exact h.2.1.1 | exact h.2.2.1.1 | exact h.2.2.2.1.1 | exact h.2.2.2.2.1.1) rfl rfl rfl rfl ⟨rfl, rfl, by decide, by decide⟩ (Nat.le_of_ble_eq_true rfl) ⟨by decide, by decide⟩ (fun r_54 V_54 h_54 => ?_)
    have hnr : narrow .boolean (.int r_54) = .int r_54 := by rcases h_54 with ⟨e, _⟩ | ⟨e, _⟩ <;> rw [e] <;> decide
    refine j_iret dX4_readDigit_57 rfl (hnr) (by decide) (by decide) ?_
    rcases h_54 with ⟨rfl, ⟨hg, hg2⟩, g, f, a⟩ | ⟨rfl, hg, rfl⟩
    · have hh := h.p1 g f a
      rw [e0] at hh
      exact ⟨_, rfl, rfl, rfl, rfl, Or.inl ⟨rfl, _, Or.inl ⟨e0, hg, by rw [k1, k900] at hg2; omega, rfl⟩, hh⟩, a.wide (by omega) (by omega)⟩
    · refine ⟨_, rfl, rfl, rfl, rfl, Or.inr ⟨rfl, fun t2 hz => ?_, h.k⟩, jAg.rf⟩
      rcases hz with ⟨z, w⟩ | ⟨z, w⟩ | ⟨z, w⟩ | ⟨z, w⟩
      · exact hg ⟨w.1, by rw [k1, k900]; have := w.1; have := w.2.1; omega⟩
      · rw [e0] at z; exact absurd z (by decide)
      · rw [e0] at z; exact absurd z (by decide)
      · rw [e0] at z; exact absurd z (by decide)
  · have e0 : t.2.2.2.2 = 1 := by rw [← hp]; exact tz s_4
    refine j_aload_n dX4_readDigit_58 rfl ?_
    refine j_getr dX4_readDigit_59 hB fl_X4_20 (by first | exact h.1 | exact h.2.1.1 | exact h.2.2.1.1 | exact h.2.2.2.1.1 | exact h.2.2.2.2.1.1) (by rfl) ?_
    refine j_aload_n dX4_readDigit_62 rfl ?_
    refine j_cVi dX4_readDigit_63 hB mo_X4_latest ml_X4_47 (sp_X4_latest hB (h)) (by first | exact h.1 | exact h.2.1.1 | exact h.2.2.1.1 | exact h.2.2.2.1.1 | exact h.2.2.2.2.1.1) rfl rfl rfl rfl ⟨rfl, rfl, by decide, by decide⟩ (Nat.le_of_ble_eq_true rfl) ⟨by decide, by decide⟩ (fun r_63 V_63 h_63 => ?_)
    obtain ⟨rfl, hi_63⟩ := h_63
    refine j_iload_n dX4_readDigit_66 rfl ?_
    refine j_cVu dX4_readDigit_67 hB mo_X3_put ml_X4_72 (sp_X3_put hB h.2.2.1) (by first | exact h.1 | exact h.2.1.1 | exact h.2.2.1.1 | exact h.2.2.2.1.1 | exact h.2.2.2.2.1.1) rfl rfl rfl rfl ⟨rfl, rfl, by decide, by decide⟩ (Nat.le_of_ble_eq_true rfl) ⟨by decide, by decide⟩ (fun V_67 h_67 => ?_)
    obtain ⟨g1, f1, a1⟩ := h_67
    rw [hi_63, h.2.2.2.2.2.2.1] at f1
    have h2 := h.p2 g1 f1 a1
    refine j_aload_n dX4_readDigit_70 rfl ?_
    refine j_iload_n dX4_readDigit_71 rfl ?_
    refine j_bipush (v := 8) dX4_readDigit_72 (by decide) ?_
    refine j_icmp_ge (tgt := 81) dX4_readDigit_74 (by decide) (fun c_74 => ?_) (fun c_74 => ?_)
    · refine j_iconst (v := 0) dX4_readDigit_81 (by decide) ?_
      refine j_iconst (v := 2) dX4_readDigit_82 (by decide) ?_
      refine j_cVi dX4_readDigit_83 hB mo_X4_step ml_X4_61 (sp_X4_step hB (h2) (Or.inr rfl)) (by first | exact h.1 | exact h.2.1.1 | exact h.2.2.1.1 | exact h.2.2.2.1.1 | exact h.2.2.2.2.1.1) rfl rfl rfl rfl ⟨rfl, rfl, by decide, by decide⟩ (Nat.le_of_ble_eq_true rfl) ⟨by decide, by decide⟩ (fun r_83 V_83 h_83 => ?_)
      obtain ⟨rfl, hs, hs0, a9⟩ := h_83
      refine j_iret dX4_readDigit_86 rfl (by decide) (by decide) (by decide) ?_
      refine ⟨_, rfl, rfl, rfl, rfl, Or.inr ⟨rfl, fun t2 hz => ?_, hs0 rfl ▸ h2.k⟩, (a1.wide (by omega) (by omega)).tr a9⟩
      rcases hz with ⟨z, w⟩ | ⟨z, w⟩ | ⟨z, w⟩ | ⟨z, w⟩
      · rw [e0] at z; exact absurd z (by decide)
      · omega
      · rw [e0] at z; exact absurd z (by decide)
      · rw [e0] at z; exact absurd z (by decide)
    · refine j_iconst (v := 1) dX4_readDigit_77 (by decide) ?_
      refine j_goto (tgt := 82) dX4_readDigit_78 (by decide) ?_
      refine j_iconst (v := 2) dX4_readDigit_82 (by decide) ?_
      refine j_cVi dX4_readDigit_83 hB mo_X4_step ml_X4_61 (sp_X4_step hB (h2) (Or.inl rfl)) (by first | exact h.1 | exact h.2.1.1 | exact h.2.2.1.1 | exact h.2.2.2.1.1 | exact h.2.2.2.2.1.1) rfl rfl rfl rfl ⟨rfl, rfl, by decide, by decide⟩ (Nat.le_of_ble_eq_true rfl) ⟨by decide, by decide⟩ (fun r_83 V_83 h_83 => ?_)
      obtain ⟨rfl, hs, hs0, a9⟩ := h_83
      refine j_iret dX4_readDigit_86 rfl (by decide) (by decide) (by decide) ?_
      exact ⟨_, rfl, rfl, rfl, rfl, Or.inl ⟨rfl, _, Or.inr (Or.inl ⟨e0, by omega, rfl⟩), hs rfl⟩, (a1.wide (by omega) (by omega)).tr a9⟩
  · have hne : ∀ v : Int32, v.toInt ≠ 2 → t.2.2.2.2 ≠ v := fun v hv e => hv (by rw [← e, ← hp]; exact s_4)
    refine j_iconst (v := 0) dX4_readDigit_142 (by decide) ?_
    refine j_iret dX4_readDigit_143 rfl (by decide) (by decide) (by decide) ?_
    refine ⟨_, rfl, rfl, rfl, rfl, Or.inr ⟨rfl, fun t2 hz => ?_, h.k⟩, jAg.rf⟩
    rcases hz with ⟨z, w⟩ | ⟨z, w⟩ | ⟨z, w⟩ | ⟨z, w⟩
    · exact hne 0 (by decide) z
    · exact hne 1 (by decide) z
    · exact hne 3 (by decide) z
    · exact hne 5 (by decide) z
  · have e0 : t.2.2.2.2 = 3 := by rw [← hp]; exact tz s_4
    refine j_aload_n dX4_readDigit_87 rfl ?_
    refine j_getr dX4_readDigit_88 hB fl_X4_23 (by first | exact h.1 | exact h.2.1.1 | exact h.2.2.1.1 | exact h.2.2.2.1.1 | exact h.2.2.2.2.1.1) (by rfl) ?_
    refine j_aload_n dX4_readDigit_91 rfl ?_
    refine j_cVi dX4_readDigit_92 hB mo_X4_latest ml_X4_47 (sp_X4_latest hB (h)) (by first | exact h.1 | exact h.2.1.1 | exact h.2.2.1.1 | exact h.2.2.2.1.1 | exact h.2.2.2.2.1.1) rfl rfl rfl rfl ⟨rfl, rfl, by decide, by decide⟩ (Nat.le_of_ble_eq_true rfl) ⟨by decide, by decide⟩ (fun r_92 V_92 h_92 => ?_)
    obtain ⟨rfl, hi_92⟩ := h_92
    refine j_iload_n dX4_readDigit_95 rfl ?_
    refine j_cVu dX4_readDigit_96 hB mo_X3_put ml_X4_72 (sp_X3_put hB h.2.2.2.1) (by first | exact h.1 | exact h.2.1.1 | exact h.2.2.1.1 | exact h.2.2.2.1.1 | exact h.2.2.2.2.1.1) rfl rfl rfl rfl ⟨rfl, rfl, by decide, by decide⟩ (Nat.le_of_ble_eq_true rfl) ⟨by decide, by decide⟩ (fun V_96 h_96 => ?_)
    obtain ⟨g1, f1, a1⟩ := h_96
    rw [hi_92, h.2.2.2.2.2.2.2.1] at f1
    have h2 := h.p3 g1 f1 a1
    refine j_aload_n dX4_readDigit_99 rfl ?_
    refine j_getr dX4_readDigit_100 hB fl_X4_26 (by first | exact h.1 | exact h.2.1.1 | exact h.2.2.1.1 | exact h.2.2.2.1.1 | exact h.2.2.2.2.1.1) (by rfl) ?_
    refine j_aload_n dX4_readDigit_103 rfl ?_
    refine j_cVi dX4_readDigit_104 hB mo_X4_latest ml_X4_47 (sp_X4_latest hB (h2)) (by first | exact h.1 | exact h.2.1.1 | exact h.2.2.1.1 | exact h.2.2.2.1.1 | exact h.2.2.2.2.1.1) rfl rfl rfl rfl ⟨rfl, rfl, by decide, by decide⟩ (Nat.le_of_ble_eq_true rfl) ⟨by decide, by decide⟩ (fun r_104 V_104 h_104 => ?_)
    obtain ⟨rfl, hi_104⟩ := h_104
    refine j_bipush (v := 100) dX4_readDigit_107 (by decide) ?_
    refine j_cVu dX4_readDigit_109 hB mo_X3_put ml_X4_72 (sp_X3_put hB h2.2.2.2.2.1) (by first | exact h.1 | exact h.2.1.1 | exact h.2.2.1.1 | exact h.2.2.2.1.1 | exact h.2.2.2.2.1.1) rfl rfl rfl rfl ⟨rfl, rfl, by decide, by decide⟩ (Nat.le_of_ble_eq_true rfl) ⟨by decide, by decide⟩ (fun V_109 h_109 => ?_)
    obtain ⟨g2, f2, a2⟩ := h_109
    rw [hi_104, h2.2.2.2.2.2.2.2.2.1] at f2
    have h3 := h2.p4 g2 f2 a2
    refine j_aload_n dX4_readDigit_112 rfl ?_
    refine j_iload_n dX4_readDigit_113 rfl ?_
    refine j_iconst (v := 1) dX4_readDigit_114 (by decide) ?_
    refine j_icmp_lt (tgt := 122) dX4_readDigit_115 (by decide) (fun c_115 => ?_) (fun c_115 => ?_)
    · refine j_iconst (v := 0) dX4_readDigit_122 (by decide) ?_
      refine j_iconst (v := 4) dX4_readDigit_123 (by decide) ?_
      refine j_cVi dX4_readDigit_124 hB mo_X4_step ml_X4_61 (sp_X4_step hB (h3) (Or.inr rfl)) (by first | exact h.1 | exact h.2.1.1 | exact h.2.2.1.1 | exact h.2.2.2.1.1 | exact h.2.2.2.2.1.1) rfl rfl rfl rfl ⟨rfl, rfl, by decide, by decide⟩ (Nat.le_of_ble_eq_true rfl) ⟨by decide, by decide⟩ (fun r_124 V_124 h_124 => ?_)
      obtain ⟨rfl, hs, hs0, a9⟩ := h_124
      refine j_iret dX4_readDigit_127 rfl (by decide) (by decide) (by decide) ?_
      refine ⟨_, rfl, rfl, rfl, rfl, Or.inr ⟨rfl, fun t2 hz => ?_, hs0 rfl ▸ h3.k⟩, ((a1.wide (by omega) (by omega)).tr (a2.wide (by omega) (by omega))).tr a9⟩
      rcases hz with ⟨z, w⟩ | ⟨z, w⟩ | ⟨z, w⟩ | ⟨z, w⟩
      · rw [e0] at z; exact absurd z (by decide)
      · rw [e0] at z; exact absurd z (by decide)
      · omega
      · rw [e0] at z; exact absurd z (by decide)
    · refine j_iconst (v := 1) dX4_readDigit_118 (by decide) ?_
      refine j_goto (tgt := 123) dX4_readDigit_119 (by decide) ?_
      refine j_iconst (v := 4) dX4_readDigit_123 (by decide) ?_
      refine j_cVi dX4_readDigit_124 hB mo_X4_step ml_X4_61 (sp_X4_step hB (h3) (Or.inl rfl)) (by first | exact h.1 | exact h.2.1.1 | exact h.2.2.1.1 | exact h.2.2.2.1.1 | exact h.2.2.2.2.1.1) rfl rfl rfl rfl ⟨rfl, rfl, by decide, by decide⟩ (Nat.le_of_ble_eq_true rfl) ⟨by decide, by decide⟩ (fun r_124 V_124 h_124 => ?_)
      obtain ⟨rfl, hs, hs0, a9⟩ := h_124
      refine j_iret dX4_readDigit_127 rfl (by decide) (by decide) (by decide) ?_
      exact ⟨_, rfl, rfl, rfl, rfl, Or.inl ⟨rfl, _, Or.inr (Or.inr (Or.inl ⟨e0, by omega, rfl⟩)), hs rfl⟩, ((a1.wide (by omega) (by omega)).tr (a2.wide (by omega) (by omega))).tr a9⟩
  · have hne : ∀ v : Int32, v.toInt ≠ 4 → t.2.2.2.2 ≠ v := fun v hv e => hv (by rw [← e, ← hp]; exact s_4)
    refine j_iconst (v := 0) dX4_readDigit_142 (by decide) ?_
    refine j_iret dX4_readDigit_143 rfl (by decide) (by decide) (by decide) ?_
    refine ⟨_, rfl, rfl, rfl, rfl, Or.inr ⟨rfl, fun t2 hz => ?_, h.k⟩, jAg.rf⟩
    rcases hz with ⟨z, w⟩ | ⟨z, w⟩ | ⟨z, w⟩ | ⟨z, w⟩
    · exact hne 0 (by decide) z
    · exact hne 1 (by decide) z
    · exact hne 3 (by decide) z
    · exact hne 5 (by decide) z
  · have e0 : t.2.2.2.2 = 5 := by rw [← hp]; exact tz s_4
    refine j_aload_n dX4_readDigit_128 rfl ?_
    refine j_aload_n dX4_readDigit_129 rfl ?_
    refine j_getr dX4_readDigit_130 hB fl_X4_26 (by first | exact h.1 | exact h.2.1.1 | exact h.2.2.1.1 | exact h.2.2.2.1.1 | exact h.2.2.2.2.1.1) (by rfl) ?_
    refine j_iload_n dX4_readDigit_133 rfl ?_
    refine j_bipush (v := 80) dX4_readDigit_134 (by decide) ?_
    refine j_bipush (v := 120) dX4_readDigit_136 (by decide) ?_
    refine j_cVi dX4_readDigit_138 hB mo_X4_grow ml_X4_76 (sp_X4_grow hB h h.2.2.2.2.1 h.2.2.2.2.2.2.2.2.1 y0 y1 d0 d1) (by first | exact h.1 | exact h.2.1.1 | exact h.2.2.1.1 | exact h.2.2.2.1.1 | exact h.2.2.2.2.1.1) rfl rfl rfl rfl ⟨rfl, rfl, by decide, by decide⟩ (Nat.le_of_ble_eq_true rfl) ⟨by decide, by decide⟩ (fun r_138 V_138 h_138 => ?_)
    have hnr : narrow .boolean (.int r_138) = .int r_138 := by rcases h_138 with ⟨e, _⟩ | ⟨e, _⟩ <;> rw [e] <;> decide
    refine j_iret dX4_readDigit_141 rfl (hnr) (by decide) (by decide) ?_
    rcases h_138 with ⟨rfl, ⟨hg, hg2⟩, g, f, a⟩ | ⟨rfl, hg, rfl⟩
    · have hh := h.p4 g f a
      rw [e0] at hh
      exact ⟨_, rfl, rfl, rfl, rfl, Or.inl ⟨rfl, _, Or.inr (Or.inr (Or.inr ⟨e0, by rw [k80, k120] at hg2; show _ ∨ _ ∨ _; omega, rfl⟩)), hh⟩, a.wide (by omega) (by omega)⟩
    · refine ⟨_, rfl, rfl, rfl, rfl, Or.inr ⟨rfl, fun t2 hz => ?_, h.k⟩, jAg.rf⟩
      rcases hz with ⟨z, w⟩ | ⟨z, w⟩ | ⟨z, w⟩ | ⟨z, w⟩
      · rw [e0] at z; exact absurd z (by decide)
      · rw [e0] at z; exact absurd z (by decide)
      · rw [e0] at z; exact absurd z (by decide)
      · have w1 := w.1
        refine hg ⟨?_, ?_⟩
        · omega
        · rw [k80, k120]; omega
  · have hne : ∀ v : Int32, (0 ≤ v.toInt ∧ v.toInt ≤ 5) → t.2.2.2.2 ≠ v := fun v hv e => by rw [hp, e] at s_4; omega
    refine j_iconst (v := 0) dX4_readDigit_142 (by decide) ?_
    refine j_iret dX4_readDigit_143 rfl (by decide) (by decide) (by decide) ?_
    refine ⟨_, rfl, rfl, rfl, rfl, Or.inr ⟨rfl, fun t2 hz => ?_, h.k⟩, jAg.rf⟩
    rcases hz with ⟨z, w⟩ | ⟨z, w⟩ | ⟨z, w⟩ | ⟨z, w⟩
    · exact hne 0 (by decide) z
    · exact hne 1 (by decide) z
    · exact hne 3 (by decide) z
    · exact hne 5 (by decide) z
set_option maxRecDepth 100000 in
set_option maxHeartbeats 4000000 in
theorem sp_X4_read (hB : jB l s0 D) {q : Nat} {t : tR} {c : Int32} (h : rdOK T V q t) (hn : rComp t → t.1.length < 60 ∧ t.2.1.length < 60 ∧ t.2.2.1.length < 60 ∧ t.2.2.2.1.length < 60) (x0 : 0 ≤ (atZ t.1 (rN t)).toInt) (x1 : (atZ t.1 (rN t)).toInt ≤ 900) (y0 : 0 ≤ (atZ t.2.2.2.1 (rN t)).toInt) (y1 : (atZ t.2.2.2.1 (rN t)).toInt ≤ 900) : Sp l s0 D kX4_read (jR 4 0 0) 0 0 [.ref q, .int c] T V X sz (qI T X sz (fun r V' => ((r = 1 ∧ ∃ t', rRd t c t' ∧ rdOK T V' q t') ∨ (r = 0 ∧ (∀ t', ¬ rRd t c t') ∧ rdK T V' q)) ∧ jAg V V' q (q + 9))) := by
  refine Sp.of pn_X4_read rfl (Nat.le_of_ble_eq_true rfl) ?_
  have hp := h.2.2.2.2.2.2.2.2.2
  have k48 : (48 : Int32).toInt = 48 := by decide
  have k57 : (57 : Int32).toInt = 57 := by decide
  refine j_iload_n dX4_read_0 rfl ?_
  refine j_lsw_4 (td := 98) (t0 := 44) (t1 := 49) (t2 := 93) (t3 := 74) dX4_read_1 (by decide) (by decide) (fun s_1 => ?_) (fun s_1 => ?_) (fun s_1 => ?_) (fun s_1 => ?_) (fun s_1_0 s_1_1 s_1_2 s_1_3 => ?_)
  · refine j_aload_n dX4_read_44 rfl ?_
    refine j_cVi dX4_read_45 hB mo_X4_readComma ml_X4_54 (sp_X4_readComma hB h hn) (by first | exact h.1 | exact h.2.1.1 | exact h.2.2.1.1 | exact h.2.2.2.1.1 | exact h.2.2.2.2.1.1) rfl rfl rfl rfl ⟨rfl, rfl, by decide, by decide⟩ (Nat.le_of_ble_eq_true rfl) ⟨by decide, by decide⟩ (fun r_45 V_45 h_45 => ?_)
    obtain ⟨hc, a1⟩ := h_45
    refine j_iret dX4_read_48 rfl ((by rcases hc with ⟨e, _⟩ | ⟨e, _⟩ <;> rw [e] <;> decide)) (by decide) (by decide) ?_
    rcases hc with ⟨rfl, hcc, g⟩ | ⟨rfl, hcc, rfl⟩
    · exact ⟨_, rfl, rfl, rfl, rfl, Or.inl ⟨rfl, _, Or.inl ⟨s_1, hcc, rfl⟩, g⟩, a1⟩
    · refine ⟨_, rfl, rfl, rfl, rfl, Or.inr ⟨rfl, fun t2 hz => ?_, h.k⟩, jAg.rf⟩
      rcases hz with ⟨z, w⟩ | ⟨z, w⟩ | ⟨z, w⟩ | ⟨z, w⟩ | ⟨z, w⟩
      · exact hcc w.1
      · omega
      · omega
      · omega
      · omega
  · refine j_aload_n dX4_read_49 rfl ?_
    refine j_aload_n dX4_read_50 rfl ?_
    refine j_geti dX4_read_51 hB fl_X4_43 (by first | exact h.1 | exact h.2.1.1 | exact h.2.2.1.1 | exact h.2.2.2.1.1 | exact h.2.2.2.2.1.1) (by rfl) ?_
    refine j_if_ne (tgt := 68) dX4_read_54 (by decide) (fun c_54 => ?_) (fun c_54 => ?_)
    · have hz : t.2.2.2.2 ≠ 0 := fun e => c_54 (hp.trans e)
      refine j_iconst (v := 0) dX4_read_68 (by decide) ?_
      refine j_iconst (v := 1) dX4_read_69 (by decide) ?_
      refine j_cVi dX4_read_70 hB mo_X4_step ml_X4_61 (sp_X4_step hB h (Or.inr rfl)) (by first | exact h.1 | exact h.2.1.1 | exact h.2.2.1.1 | exact h.2.2.2.1.1 | exact h.2.2.2.2.1.1) rfl rfl rfl rfl ⟨rfl, rfl, by decide, by decide⟩ (Nat.le_of_ble_eq_true rfl) ⟨by decide, by decide⟩ (fun r_70 V_70 h_70 => ?_)
      obtain ⟨rfl, hs, hs0, a9⟩ := h_70
      refine j_iret dX4_read_73 rfl (by decide) (by decide) (by decide) ?_
      refine ⟨_, rfl, rfl, rfl, rfl, Or.inr ⟨rfl, fun t2 hz => ?_, hs0 rfl ▸ h.k⟩, a9⟩
      rcases hz with ⟨z, w⟩ | ⟨z, w⟩ | ⟨z, w⟩ | ⟨z, w⟩ | ⟨z, w⟩
      · omega
      · exact hz w.1
      · omega
      · omega
      · omega
    · have hz : t.2.2.2.2 = 0 := hp.symm.trans c_54
      refine j_aload_n dX4_read_57 rfl ?_
      refine j_cVi dX4_read_58 hB mo_X4_isComplete ml_X4_58 (sp_X4_isComplete hB h) (by first | exact h.1 | exact h.2.1.1 | exact h.2.2.1.1 | exact h.2.2.2.1.1 | exact h.2.2.2.2.1.1) rfl rfl rfl rfl ⟨rfl, rfl, by decide, by decide⟩ (Nat.le_of_ble_eq_true rfl) ⟨by decide, by decide⟩ (fun r_58 V_58 h_58 => ?_)
      obtain ⟨rfl, hc⟩ := h_58
      refine j_if_eq (tgt := 68) dX4_read_61 (by decide) (fun c_61 => ?_) (fun c_61 => ?_)
      · have hcc : ¬ rComp t := by rcases hc with ⟨z, _⟩ | ⟨_, z⟩; (rw [c_61] at z; exact absurd z (by decide)); exact z
        refine j_iconst (v := 0) dX4_read_68 (by decide) ?_
        refine j_iconst (v := 1) dX4_read_69 (by decide) ?_
        refine j_cVi dX4_read_70 hB mo_X4_step ml_X4_61 (sp_X4_step hB h (Or.inr rfl)) (by first | exact h.1 | exact h.2.1.1 | exact h.2.2.1.1 | exact h.2.2.2.1.1 | exact h.2.2.2.2.1.1) rfl rfl rfl rfl ⟨rfl, rfl, by decide, by decide⟩ (Nat.le_of_ble_eq_true rfl) ⟨by decide, by decide⟩ (fun r_70 V_70 h_70 => ?_)
        obtain ⟨rfl, hs, hs0, a9⟩ := h_70
        refine j_iret dX4_read_73 rfl (by decide) (by decide) (by decide) ?_
        refine ⟨_, rfl, rfl, rfl, rfl, Or.inr ⟨rfl, fun t2 hz => ?_, hs0 rfl ▸ h.k⟩, a9⟩
        rcases hz with ⟨z, w⟩ | ⟨z, w⟩ | ⟨z, w⟩ | ⟨z, w⟩ | ⟨z, w⟩
        · omega
        · exact hcc w.2.1
        · omega
        · omega
        · omega
      · have hcc : rComp t := by rcases hc with ⟨_, z⟩ | ⟨z, _⟩; (exact z); exact absurd z c_61
        refine j_iconst (v := 1) dX4_read_64 (by decide) ?_
        refine j_goto (tgt := 69) dX4_read_65 (by decide) ?_
        refine j_iconst (v := 1) dX4_read_69 (by decide) ?_
        refine j_cVi dX4_read_70 hB mo_X4_step ml_X4_61 (sp_X4_step hB h (Or.inl rfl)) (by first | exact h.1 | exact h.2.1.1 | exact h.2.2.1.1 | exact h.2.2.2.1.1 | exact h.2.2.2.2.1.1) rfl rfl rfl rfl ⟨rfl, rfl, by decide, by decide⟩ (Nat.le_of_ble_eq_true rfl) ⟨by decide, by decide⟩ (fun r_70 V_70 h_70 => ?_)
        obtain ⟨rfl, hs, hs0, a9⟩ := h_70
        refine j_iret dX4_read_73 rfl (by decide) (by decide) (by decide) ?_
        exact ⟨_, rfl, rfl, rfl, rfl, Or.inl ⟨rfl, _, Or.inr (Or.inl ⟨s_1, hz, hcc, rfl⟩), hs rfl⟩, a9⟩
  · refine j_aload_n dX4_read_93 rfl ?_
    refine j_cVi dX4_read_94 hB mo_X4_readAtSign ml_X4_65 (sp_X4_readAtSign hB h) (by first | exact h.1 | exact h.2.1.1 | exact h.2.2.1.1 | exact h.2.2.2.1.1 | exact h.2.2.2.2.1.1) rfl rfl rfl rfl ⟨rfl, rfl, by decide, by decide⟩ (Nat.le_of_ble_eq_true rfl) ⟨by decide, by decide⟩ (fun r_94 V_94 h_94 => ?_)
    obtain ⟨hc, a1⟩ := h_94
    refine j_iret dX4_read_97 rfl ((by rcases hc with ⟨e, _⟩ | ⟨e, _⟩ <;> rw [e] <;> decide)) (by decide) (by decide) ?_
    rcases hc with ⟨rfl, hcc, g⟩ | ⟨rfl, hcc, rfl⟩
    · exact ⟨_, rfl, rfl, rfl, rfl, Or.inl ⟨rfl, _, Or.inr (Or.inr (Or.inr (Or.inl ⟨s_1, hcc, rfl⟩))), g⟩, a1⟩
    · refine ⟨_, rfl, rfl, rfl, rfl, Or.inr ⟨rfl, fun t2 hz => ?_, h.k⟩, jAg.rf⟩
      rcases hz with ⟨z, w⟩ | ⟨z, w⟩ | ⟨z, w⟩ | ⟨z, w⟩ | ⟨z, w⟩
      · omega
      · omega
      · omega
      · exact hcc w.1
      · omega
  · refine j_aload_n dX4_read_74 rfl ?_
    refine j_aload_n dX4_read_75 rfl ?_
    refine j_geti dX4_read_76 hB fl_X4_43 (by first | exact h.1 | exact h.2.1.1 | exact h.2.2.1.1 | exact h.2.2.2.1.1 | exact h.2.2.2.2.1.1) (by rfl) ?_
    refine j_iconst (v := 2) dX4_read_79 (by decide) ?_
    refine j_icmp_ne (tgt := 87) dX4_read_80 (by decide) (fun c_80 => ?_) (fun c_80 => ?_)
    · have hz : t.2.2.2.2 ≠ 2 := fun e => c_80 (hp.trans e)
      refine j_iconst (v := 0) dX4_read_87 (by decide) ?_
      refine j_iconst (v := 3) dX4_read_88 (by decide) ?_
      refine j_cVi dX4_read_89 hB mo_X4_step ml_X4_61 (sp_X4_step hB h (Or.inr rfl)) (by first | exact h.1 | exact h.2.1.1 | exact h.2.2.1.1 | exact h.2.2.2.1.1 | exact h.2.2.2.2.1.1) rfl rfl rfl rfl ⟨rfl, rfl, by decide, by decide⟩ (Nat.le_of_ble_eq_true rfl) ⟨by decide, by decide⟩ (fun r_89 V_89 h_89 => ?_)
      obtain ⟨rfl, hs, hs0, a9⟩ := h_89
      refine j_iret dX4_read_92 rfl (by decide) (by decide) (by decide) ?_
      refine ⟨_, rfl, rfl, rfl, rfl, Or.inr ⟨rfl, fun t2 hz => ?_, hs0 rfl ▸ h.k⟩, a9⟩
      rcases hz with ⟨z, w⟩ | ⟨z, w⟩ | ⟨z, w⟩ | ⟨z, w⟩ | ⟨z, w⟩
      · omega
      · omega
      · exact hz w.1
      · omega
      · omega
    · have hz : t.2.2.2.2 = 2 := hp.symm.trans c_80
      refine j_iconst (v := 1) dX4_read_83 (by decide) ?_
      refine j_goto (tgt := 88) dX4_read_84 (by decide) ?_
      refine j_iconst (v := 3) dX4_read_88 (by decide) ?_
      refine j_cVi dX4_read_89 hB mo_X4_step ml_X4_61 (sp_X4_step hB h (Or.inl rfl)) (by first | exact h.1 | exact h.2.1.1 | exact h.2.2.1.1 | exact h.2.2.2.1.1 | exact h.2.2.2.2.1.1) rfl rfl rfl rfl ⟨rfl, rfl, by decide, by decide⟩ (Nat.le_of_ble_eq_true rfl) ⟨by decide, by decide⟩ (fun r_89 V_89 h_89 => ?_)
      obtain ⟨rfl, hs, hs0, a9⟩ := h_89
      refine j_iret dX4_read_92 rfl (by decide) (by decide) (by decide) ?_
      exact ⟨_, rfl, rfl, rfl, rfl, Or.inl ⟨rfl, _, Or.inr (Or.inr (Or.inl ⟨s_1, hz, rfl⟩)), hs rfl⟩, a9⟩
  · refine j_iload_n dX4_read_98 rfl ?_
    refine j_bipush (v := 48) dX4_read_99 (by decide) ?_
    refine j_icmp_lt (tgt := 125) dX4_read_101 (by decide) (fun c_101 => ?_) (fun c_101 => ?_)
    · refine j_iconst (v := 0) dX4_read_125 (by decide) ?_
      refine j_iret dX4_read_126 rfl (by decide) (by decide) (by decide) ?_
      refine ⟨_, rfl, rfl, rfl, rfl, Or.inr ⟨rfl, fun t2 hz => ?_, h.k⟩, jAg.rf⟩
      rcases hz with ⟨z, w⟩ | ⟨z, w⟩ | ⟨z, w⟩ | ⟨z, w⟩ | ⟨z, w⟩
      · omega
      · omega
      · omega
      · omega
      · omega
    · refine j_iload_n dX4_read_104 rfl ?_
      refine j_bipush (v := 57) dX4_read_105 (by decide) ?_
      refine j_icmp_gt (tgt := 125) dX4_read_107 (by decide) (fun c_107 => ?_) (fun c_107 => ?_)
      · refine j_iconst (v := 0) dX4_read_125 (by decide) ?_
        refine j_iret dX4_read_126 rfl (by decide) (by decide) (by decide) ?_
        refine ⟨_, rfl, rfl, rfl, rfl, Or.inr ⟨rfl, fun t2 hz => ?_, h.k⟩, jAg.rf⟩
        rcases hz with ⟨z, w⟩ | ⟨z, w⟩ | ⟨z, w⟩ | ⟨z, w⟩ | ⟨z, w⟩
        · omega
        · omega
        · omega
        · omega
        · omega
      · have td : (c - 48).toInt = c.toInt - 48 := by rw [ti_sub (by rw [k48]; omega) (by rw [k48]; omega), k48]
        refine j_aload_n dX4_read_110 rfl ?_
        refine j_iload_n dX4_read_111 rfl ?_
        refine j_bipush (v := 48) dX4_read_112 (by decide) ?_
        refine j_isub dX4_read_114 ?_
        refine j_cVi dX4_read_115 hB mo_X4_readDigit ml_X4_68 (sp_X4_readDigit hB h (by omega) (by omega) x0 x1 y0 y1) (by first | exact h.1 | exact h.2.1.1 | exact h.2.2.1.1 | exact h.2.2.2.1.1 | exact h.2.2.2.2.1.1) rfl rfl rfl rfl ⟨rfl, rfl, by decide, by decide⟩ (Nat.le_of_ble_eq_true rfl) ⟨by decide, by decide⟩ (fun r_115 V_115 h_115 => ?_)
        obtain ⟨hc, a1⟩ := h_115
        refine j_if_eq (tgt := 125) dX4_read_118 (by decide) (fun c_118 => ?_) (fun c_118 => ?_)
        · refine j_iconst (v := 0) dX4_read_125 (by decide) ?_
          refine j_iret dX4_read_126 rfl (by decide) (by decide) (by decide) ?_
          rcases hc with ⟨z, g⟩ | ⟨z, hcc, g⟩
          · rw [z] at c_118; exact absurd c_118 (by decide)
          · refine ⟨_, rfl, rfl, rfl, rfl, Or.inr ⟨rfl, fun t2 hz => ?_, g⟩, a1⟩
            rcases hz with ⟨z, w⟩ | ⟨z, w⟩ | ⟨z, w⟩ | ⟨z, w⟩ | ⟨z, w⟩
            · omega
            · omega
            · omega
            · omega
            · exact hcc _ w.2
        · refine j_iconst (v := 1) dX4_read_121 (by decide) ?_
          refine j_goto (tgt := 126) dX4_read_122 (by decide) ?_
          refine j_iret dX4_read_126 rfl (by decide) (by decide) (by decide) ?_
          rcases hc with ⟨z, t', hd, g⟩ | ⟨z, hcc, g⟩
          · exact ⟨_, rfl, rfl, rfl, rfl, Or.inl ⟨rfl, t', Or.inr (Or.inr (Or.inr (Or.inr ⟨by omega, by omega, hd⟩))), g⟩, a1⟩
          · exact absurd z c_118
end JReader3
