/-! CueSheetsModel: setCue, fit -/
section JM11
variable {l : Launch} {s0 : State} {D : jD} {T : jT} {V : jV} {X : jX} {sz : Nat}
set_option maxRecDepth 100000 in
set_option maxHeartbeats 4000000 in
theorem sp_X8_setCue (hB : jB l s0 D) {q : Nat} (h0 : moT T q) {x : aX} (h : moIs T V q x) (hW : xW x) {r s p k a : Int32} : Sp l s0 D kX8_setCue (jR 4 0 0) 0 0 [.ref q, .int r, .int s, .int p, .int k, .int a] T V X sz (mC T V X sz q (e_cue x r s p k a) (fun y => isI y (v_cue x r s p k a)) x (s_cue x r s p k a)) := by
  refine Sp.of pn_X8_setCue rfl (Nat.le_of_ble_eq_true rfl) ?_
  refine j_aload_n dX8_setCue_0 rfl ?_
  refine j_iload_n dX8_setCue_1 rfl ?_
  refine j_iload_n dX8_setCue_2 rfl ?_
  refine j_cVi dX8_setCue_3 hB mo_X8_isScene ml_X8_98 (sp_X8_isScene hB h0 h hW.1) (by first | exact h0.1 | exact h0.2.1 | exact h0.2.2.1 | exact h0.2.2.2.1 | exact h0.2.2.2.2.1 | exact h0.2.2.2.2.2.1 | exact h0.2.2.2.2.2.2.1 | exact h0.2.2.2.2.2.2.2.1 | exact h0.2.2.2.2.2.2.2.2) rfl rfl rfl rfl ⟨rfl, rfl, by decide, by decide⟩ (Nat.le_of_ble_eq_true rfl) ⟨by decide, by decide⟩ (fun r_3 V_3 h_3 => ?_)
  obtain ⟨rfl, b_3⟩ := h_3
  refine m_ifeqB (tgt := 27) dX8_setCue_6 (by decide) b_3 (fun c_6 => ?_) (fun c_6 => ?_)
  · refine j_iconst (v := 0) dX8_setCue_27 (by decide) ?_
    refine j_istore (L' := [(0, _), (1, _), (2, _), (3, _), (4, _), (5, _), (6, _)]) dX8_setCue_28 (by decide) rfl ?_
    refine j_aload_n dX8_setCue_30 rfl ?_
    refine j_iload dX8_setCue_31 rfl ?_
    refine m_if_ne (tgt := 40) dX8_setCue_33 (by decide) (iC 0 (by decide)) (fun c_33 => ?_) (fun c_33 => ?_)
    · exact absurd c_33 (by decide)
    · refine j_iconst (v := 1) dX8_setCue_36 (by decide) ?_
      refine j_goto (tgt := 68) dX8_setCue_37 (by decide) ?_
      refine j_puti dX8_setCue_68 hB fp_X8_setCue_34 (by first | exact h0.1 | exact h0.2.1 | exact h0.2.2.1 | exact h0.2.2.2.1 | exact h0.2.2.2.2.1 | exact h0.2.2.2.2.2.1 | exact h0.2.2.2.2.2.2.1 | exact h0.2.2.2.2.2.2.2.1 | exact h0.2.2.2.2.2.2.2.2) (by rfl) ?_
      generalize hV1 : jset V q 0 1 = V1
      have t1 : isI (V1 q 0) 1 := by rw [← hV1, jset_eq]; decide
      have a1 : jAg V V1 q (q + 9) := by rw [← hV1]; exact jAg.rf.set (by omega) (by omega)
      have h1 : moIs T V1 q x := by rw [← hV1]; exact h.f (by decide) (by decide)
      refine j_aload_n dX8_setCue_71 rfl ?_
      refine j_geti dX8_setCue_72 hB fl_X8_34 (by first | exact h0.1 | exact h0.2.1 | exact h0.2.2.1 | exact h0.2.2.2.1 | exact h0.2.2.2.2.1 | exact h0.2.2.2.2.2.1 | exact h0.2.2.2.2.2.2.1 | exact h0.2.2.2.2.2.2.2.1 | exact h0.2.2.2.2.2.2.2.2) (by rfl) ?_
      refine m_if_le (tgt := 80) dX8_setCue_75 (by decide) (t1) (fun c_75 => ?_) (fun c_75 => ?_)
      · exact absurd c_75 (by decide)
      · refine j_iconst (v := 0) dX8_setCue_78 (by decide) ?_
        refine j_iret dX8_setCue_79 rfl (rfl) (by decide) (by decide) ?_
        exact mC.thr 0 (by show e_cue x r s p k a = 1; unfold e_cue; exact (if_pos (fun z9 => c_6 z9.1))) a1 t1 rfl h1
  · obtain ⟨z, hz, z3⟩ := rOk.z c_6.1
    have hr0 := h.r hz z3
    have hrl : rlW x.1 (xR x r) := hW.1.r r.toInt
    have h10 : (xR x r).1.length ≤ 10 := hrl.2.2.2.1
    obtain ⟨kk, hkk, hkl⟩ : ∃ kk : Nat, s.toInt = kk ∧ kk < (xR x r).1.length := ⟨s.toInt.toNat, by have := c_6.2; omega, by have := c_6.2; omega⟩
    refine j_iload_n dX8_setCue_9 rfl ?_
    refine j_ldc dX8_setCue_10 hB kc_X8_62 ?_
    refine m_icmp_eq (tgt := 23) dX8_setCue_12 (by decide) (iV) (iC (-2000001) (by decide)) (fun c_12 => ?_) (fun c_12 => ?_)
    · have hpN : p = NN := ti_inj (by rw [c_12]; decide)
      have hpo : p = NN ∨ pcOk x.1 p := Or.inl hpN
      refine j_iconst (v := 1) dX8_setCue_23 (by decide) ?_
      refine j_goto (tgt := 28) dX8_setCue_24 (by decide) ?_
      refine j_istore (L' := [(0, _), (1, _), (2, _), (3, _), (4, _), (5, _), (6, _)]) dX8_setCue_28 (by decide) rfl ?_
      refine j_aload_n dX8_setCue_30 rfl ?_
      refine j_iload dX8_setCue_31 rfl ?_
      refine m_if_ne (tgt := 40) dX8_setCue_33 (by decide) (iC 1 (by decide)) (fun c_33 => ?_) (fun c_33 => ?_)
      · refine j_iload dX8_setCue_40 rfl ?_
        refine j_iconst (v := 1) dX8_setCue_42 (by decide) ?_
        refine j_bipush (v := 9) dX8_setCue_43 (by decide) ?_
        refine j_cSi dX8_setCue_45 hB mo_X8_within ml_X8_38 (sp_X8_within hB  (iV) (iC 1 (by decide)) (iC 9 (by decide))) rfl rfl ⟨rfl, rfl, by decide, by decide⟩ (Nat.le_of_ble_eq_true rfl) ⟨by decide, by decide⟩ (fun r_45 V_45 h_45 => ?_)
        obtain ⟨rfl, b_45⟩ := h_45
        replace b_45 : bQ _ (inR k 1 9) := b_45.cg (by omega)
        refine m_ifeqB (tgt := 67) dX8_setCue_48 (by decide) b_45 (fun c_48 => ?_) (fun c_48 => ?_)
        · refine j_iconst (v := 2) dX8_setCue_67 (by decide) ?_
          refine j_puti dX8_setCue_68 hB fp_X8_setCue_34 (by first | exact h0.1 | exact h0.2.1 | exact h0.2.2.1 | exact h0.2.2.2.1 | exact h0.2.2.2.2.1 | exact h0.2.2.2.2.2.1 | exact h0.2.2.2.2.2.2.1 | exact h0.2.2.2.2.2.2.2.1 | exact h0.2.2.2.2.2.2.2.2) (by rfl) ?_
          generalize hV1 : jset V q 0 2 = V1
          have t1 : isI (V1 q 0) 2 := by rw [← hV1, jset_eq]; decide
          have a1 : jAg V V1 q (q + 9) := by rw [← hV1]; exact jAg.rf.set (by omega) (by omega)
          have h1 : moIs T V1 q x := by rw [← hV1]; exact h.f (by decide) (by decide)
          refine j_aload_n dX8_setCue_71 rfl ?_
          refine j_geti dX8_setCue_72 hB fl_X8_34 (by first | exact h0.1 | exact h0.2.1 | exact h0.2.2.1 | exact h0.2.2.2.1 | exact h0.2.2.2.2.1 | exact h0.2.2.2.2.2.1 | exact h0.2.2.2.2.2.2.1 | exact h0.2.2.2.2.2.2.2.1 | exact h0.2.2.2.2.2.2.2.2) (by rfl) ?_
          refine m_if_le (tgt := 80) dX8_setCue_75 (by decide) (t1) (fun c_75 => ?_) (fun c_75 => ?_)
          · exact absurd c_75 (by decide)
          · refine j_iconst (v := 0) dX8_setCue_78 (by decide) ?_
            refine j_iret dX8_setCue_79 rfl (rfl) (by decide) (by decide) ?_
            exact mC.thr 1 (by show e_cue x r s p k a = 2; unfold e_cue; exact ((if_neg (fun z => z ⟨c_6, hpo⟩)).trans (if_pos (fun z9 => c_48 z9.1)))) a1 t1 rfl h1
        · refine j_iload dX8_setCue_51 rfl ?_
          refine j_bipush (v := 80) dX8_setCue_53 (by decide) ?_
          refine j_bipush (v := 120) dX8_setCue_55 (by decide) ?_
          refine j_cSi dX8_setCue_57 hB mo_X8_within ml_X8_38 (sp_X8_within hB  (iV) (iC 80 (by decide)) (iC 120 (by decide))) rfl rfl ⟨rfl, rfl, by decide, by decide⟩ (Nat.le_of_ble_eq_true rfl) ⟨by decide, by decide⟩ (fun r_57 V_57 h_57 => ?_)
          obtain ⟨rfl, b_57⟩ := h_57
          replace b_57 : bQ _ (inR a 80 120) := b_57.cg (by omega)
          refine m_ifeqB (tgt := 67) dX8_setCue_60 (by decide) b_57 (fun c_60 => ?_) (fun c_60 => ?_)
          · refine j_iconst (v := 2) dX8_setCue_67 (by decide) ?_
            refine j_puti dX8_setCue_68 hB fp_X8_setCue_34 (by first | exact h0.1 | exact h0.2.1 | exact h0.2.2.1 | exact h0.2.2.2.1 | exact h0.2.2.2.2.1 | exact h0.2.2.2.2.2.1 | exact h0.2.2.2.2.2.2.1 | exact h0.2.2.2.2.2.2.2.1 | exact h0.2.2.2.2.2.2.2.2) (by rfl) ?_
            generalize hV1 : jset V q 0 2 = V1
            have t1 : isI (V1 q 0) 2 := by rw [← hV1, jset_eq]; decide
            have a1 : jAg V V1 q (q + 9) := by rw [← hV1]; exact jAg.rf.set (by omega) (by omega)
            have h1 : moIs T V1 q x := by rw [← hV1]; exact h.f (by decide) (by decide)
            refine j_aload_n dX8_setCue_71 rfl ?_
            refine j_geti dX8_setCue_72 hB fl_X8_34 (by first | exact h0.1 | exact h0.2.1 | exact h0.2.2.1 | exact h0.2.2.2.1 | exact h0.2.2.2.2.1 | exact h0.2.2.2.2.2.1 | exact h0.2.2.2.2.2.2.1 | exact h0.2.2.2.2.2.2.2.1 | exact h0.2.2.2.2.2.2.2.2) (by rfl) ?_
            refine m_if_le (tgt := 80) dX8_setCue_75 (by decide) (t1) (fun c_75 => ?_) (fun c_75 => ?_)
            · exact absurd c_75 (by decide)
            · refine j_iconst (v := 0) dX8_setCue_78 (by decide) ?_
              refine j_iret dX8_setCue_79 rfl (rfl) (by decide) (by decide) ?_
              exact mC.thr 1 (by show e_cue x r s p k a = 2; unfold e_cue; exact ((if_neg (fun z => z ⟨c_6, hpo⟩)).trans (if_pos (fun z9 => c_60 z9.2)))) a1 t1 rfl h1
          · refine j_iconst (v := 0) dX8_setCue_63 (by decide) ?_
            refine j_goto (tgt := 68) dX8_setCue_64 (by decide) ?_
            refine j_puti dX8_setCue_68 hB fp_X8_setCue_34 (by first | exact h0.1 | exact h0.2.1 | exact h0.2.2.1 | exact h0.2.2.2.1 | exact h0.2.2.2.2.1 | exact h0.2.2.2.2.2.1 | exact h0.2.2.2.2.2.2.1 | exact h0.2.2.2.2.2.2.2.1 | exact h0.2.2.2.2.2.2.2.2) (by rfl) ?_
            generalize hV1 : jset V q 0 0 = V1
            have t1 : isI (V1 q 0) 0 := by rw [← hV1, jset_eq]; decide
            have a1 : jAg V V1 q (q + 9) := by rw [← hV1]; exact jAg.rf.set (by omega) (by omega)
            have h1 : moIs T V1 q x := by rw [← hV1]; exact h.f (by decide) (by decide)
            refine j_aload_n dX8_setCue_71 rfl ?_
            refine j_geti dX8_setCue_72 hB fl_X8_34 (by first | exact h0.1 | exact h0.2.1 | exact h0.2.2.1 | exact h0.2.2.2.1 | exact h0.2.2.2.2.1 | exact h0.2.2.2.2.2.1 | exact h0.2.2.2.2.2.2.1 | exact h0.2.2.2.2.2.2.2.1 | exact h0.2.2.2.2.2.2.2.2) (by rfl) ?_
            refine m_if_le (tgt := 80) dX8_setCue_75 (by decide) (t1) (fun c_75 => ?_) (fun c_75 => ?_)
            · refine j_aload_n dX8_setCue_80 rfl ?_
              refine j_cVu dX8_setCue_81 hB mo_X8_save ml_X8_91 (sp_X8_save hB h0 h1 hW) (by first | exact h0.1 | exact h0.2.1 | exact h0.2.2.1 | exact h0.2.2.2.1 | exact h0.2.2.2.2.1 | exact h0.2.2.2.2.2.1 | exact h0.2.2.2.2.2.2.1 | exact h0.2.2.2.2.2.2.2.1 | exact h0.2.2.2.2.2.2.2.2) rfl rfl rfl rfl ⟨rfl, rfl, by decide, by decide⟩ (Nat.le_of_ble_eq_true rfl) ⟨by decide, by decide⟩ (fun V_81 h_81 => ?_)
              obtain ⟨hS, eS, tS, aS, xS⟩ := h_81
              refine j_bipush (v := 67) dX8_setCue_84 (by decide) ?_
              refine j_iload_n dX8_setCue_86 rfl ?_
              refine j_imul dX8_setCue_87 ?_
              refine j_iconst (v := 1) dX8_setCue_88 (by decide) ?_
              refine j_iadd dX8_setCue_89 ?_
              refine j_iconst (v := 4) dX8_setCue_90 (by decide) ?_
              refine j_iload_n dX8_setCue_91 rfl ?_
              refine j_imul dX8_setCue_92 ?_
              refine j_iadd dX8_setCue_93 ?_
              refine j_istore (L' := [(0, _), (1, _), (2, _), (3, _), (4, _), (5, _), (6, _), (7, _)]) dX8_setCue_94 (by decide) rfl ?_
              refine j_aload_n dX8_setCue_96 rfl ?_
              refine j_getr dX8_setCue_97 hB fl_X8_7 (by first | exact h0.1 | exact h0.2.1 | exact h0.2.2.1 | exact h0.2.2.2.1 | exact h0.2.2.2.2.1 | exact h0.2.2.2.2.2.1 | exact h0.2.2.2.2.2.2.1 | exact h0.2.2.2.2.2.2.2.1 | exact h0.2.2.2.2.2.2.2.2) (by rfl) ?_
              refine j_iload dX8_setCue_100 rfl ?_
              refine j_iconst (v := 1) dX8_setCue_102 (by decide) ?_
              refine j_iadd dX8_setCue_103 ?_
              refine j_iload_n dX8_setCue_104 rfl ?_
              refine m_iast (k := 67 * z + 1 + 4 * kk + 1) dX8_setCue_105 hB (by first | exact h0.1 | exact h0.2.1 | exact h0.2.2.1 | exact h0.2.2.2.1 | exact h0.2.2.2.2.1 | exact h0.2.2.2.2.2.1 | exact h0.2.2.2.2.2.2.1 | exact h0.2.2.2.2.2.2.2.1 | exact h0.2.2.2.2.2.2.2.2) (ixk (iA (iA (iA (iM (iC 67 (by decide)) (hz) (by omega)) (iC 1 (by decide)) (by omega)) (iM (iC 4 (by decide)) (hkk) (by omega)) (by omega)) (iC 1 (by decide)) (by omega)) (by omega)) (by omega) ?_
              refine j_aload_n dX8_setCue_106 rfl ?_
              refine j_getr dX8_setCue_107 hB fl_X8_7 (by first | exact h0.1 | exact h0.2.1 | exact h0.2.2.1 | exact h0.2.2.2.1 | exact h0.2.2.2.2.1 | exact h0.2.2.2.2.2.1 | exact h0.2.2.2.2.2.2.1 | exact h0.2.2.2.2.2.2.2.1 | exact h0.2.2.2.2.2.2.2.2) (by rfl) ?_
              refine j_iload dX8_setCue_110 rfl ?_
              refine j_iconst (v := 2) dX8_setCue_112 (by decide) ?_
              refine j_iadd dX8_setCue_113 ?_
              refine j_iload dX8_setCue_114 rfl ?_
              refine m_iast (k := 67 * z + 1 + 4 * kk + 2) dX8_setCue_116 hB (by first | exact h0.1 | exact h0.2.1 | exact h0.2.2.1 | exact h0.2.2.2.1 | exact h0.2.2.2.2.1 | exact h0.2.2.2.2.2.1 | exact h0.2.2.2.2.2.2.1 | exact h0.2.2.2.2.2.2.2.1 | exact h0.2.2.2.2.2.2.2.2) (ixk (iA (iA (iA (iM (iC 67 (by decide)) (hz) (by omega)) (iC 1 (by decide)) (by omega)) (iM (iC 4 (by decide)) (hkk) (by omega)) (by omega)) (iC 2 (by decide)) (by omega)) (by omega)) (by omega) ?_
              refine j_aload_n dX8_setCue_117 rfl ?_
              refine j_getr dX8_setCue_118 hB fl_X8_7 (by first | exact h0.1 | exact h0.2.1 | exact h0.2.2.1 | exact h0.2.2.2.1 | exact h0.2.2.2.2.1 | exact h0.2.2.2.2.2.1 | exact h0.2.2.2.2.2.2.1 | exact h0.2.2.2.2.2.2.2.1 | exact h0.2.2.2.2.2.2.2.2) (by rfl) ?_
              refine j_iload dX8_setCue_121 rfl ?_
              refine j_iconst (v := 3) dX8_setCue_123 (by decide) ?_
              refine j_iadd dX8_setCue_124 ?_
              refine j_iload dX8_setCue_125 rfl ?_
              refine m_iast (k := 67 * z + 1 + 4 * kk + 3) dX8_setCue_127 hB (by first | exact h0.1 | exact h0.2.1 | exact h0.2.2.1 | exact h0.2.2.2.1 | exact h0.2.2.2.2.1 | exact h0.2.2.2.2.2.1 | exact h0.2.2.2.2.2.2.1 | exact h0.2.2.2.2.2.2.2.1 | exact h0.2.2.2.2.2.2.2.2) (ixk (iA (iA (iA (iM (iC 67 (by decide)) (hz) (by omega)) (iC 1 (by decide)) (by omega)) (iM (iC 4 (by decide)) (hkk) (by omega)) (by omega)) (iC 3 (by decide)) (by omega)) (by omega)) (by omega) ?_
              generalize hV3 : jset (jset (jset V_81 (q + 1) (67 * z + 1 + 4 * kk + 1) p) (q + 1) (67 * z + 1 + 4 * kk + 2) k) (q + 1) (67 * z + 1 + 4 * kk + 3) a = V3
              have a3 : jAg V_81 V3 (q + 1) (q + 2) := by rw [← hV3]; exact ((jAg.rf.set (by omega) (by omega)).set (by omega) (by omega)).set (by omega) (by omega)
              have hr2 : zRl (V_81 (q + 1)) (67 * z) (xR x r) := by rw [eS]; exact h1.r hz z3
              have zr : ∀ t, ¬ t = 67 * z + 1 + 4 * kk + 1 → ¬ t = 67 * z + 1 + 4 * kk + 2 → ¬ t = 67 * z + 1 + 4 * kk + 3 → V3 (q + 1) t = V_81 (q + 1) t := fun t h7 h8 h9 => by rw [← hV3, jset_ne (Or.inr h9), jset_ne (Or.inr h8), jset_ne (Or.inr h7)]
              have hcc : rlW x.1 (if p = NN then rCue (xR x r) s.toInt NN 0 0 else rCue (xR x r) s.toInt p k a) ∧ zRl (V3 (q + 1)) (67 * z) (if p = NN then rCue (xR x r) s.toInt NN 0 0 else rCue (xR x r) s.toInt p k a) := by
                rw [if_pos hpN]
                rw [hkk]
                refine ⟨hrl.cue (by omega) (by omega) (Or.inl ⟨rfl, rfl, rfl⟩), hr2.cue hrl hkl ?_ ?_ zr⟩
                · rw [← hV3, jset_ne (Or.inr (by omega)), jset_ne (Or.inr (by omega)), jset_eq]; exact hpN
                · exact fun z9 => absurd rfl z9
              have zz := hS.2.1.set hW.1 z3 (Z' := V3 (q + 1)) (fun i9 hi9 => zr i9 (by omega) (by omega) (by omega)) hcc.2
              have h3 : moIs T V3 q (s_cue x r s p k a) := by
                have := hS.z a3 zz
                rw [← hz] at this
                exact this
              have hW3 : xW (s_cue x r s p k a) := xW_set hW hcc.1
              have hl3 : kk < (xR (s_cue x r s p k a) r).1.length := by
                unfold s_cue
                rw [xR_set]
                rw [if_pos hpN]
                exact hkl
              refine j_aload_n dX8_setCue_128 rfl ?_
              refine j_iload_n dX8_setCue_129 rfl ?_
              refine j_iconst (v := 0) dX8_setCue_130 (by decide) ?_
              refine j_cVu dX8_setCue_131 hB mo_X8_lay ml_X8_113 (sp_X8_lay hB h0 hz z3 h3 hW3.1 (Or.inl rfl)) (by first | exact h0.1 | exact h0.2.1 | exact h0.2.2.1 | exact h0.2.2.2.1 | exact h0.2.2.2.2.1 | exact h0.2.2.2.2.2.1 | exact h0.2.2.2.2.2.2.1 | exact h0.2.2.2.2.2.2.2.1 | exact h0.2.2.2.2.2.2.2.2) rfl rfl rfl rfl ⟨rfl, rfl, by decide, by decide⟩ (Nat.le_of_ble_eq_true rfl) ⟨by decide, by decide⟩ (fun V_131 h_131 => ?_)
              obtain ⟨gL, aL⟩ := h_131
              have h4 : moIs T V_131 q (s_cue x r s p k a) := h3.kp (mKp.ag aL (by omega) (by omega))
              refine j_aload_n dX8_setCue_134 rfl ?_
              refine j_iload_n dX8_setCue_135 rfl ?_
              refine j_iload_n dX8_setCue_136 rfl ?_
              refine j_cVi dX8_setCue_137 hB mo_X8_drift ml_X8_76 (sp_X8_drift hB h0 hz z3 h4 hW3.1 hkk hl3 (Or.inl rfl) gL hl3) (by first | exact h0.1 | exact h0.2.1 | exact h0.2.2.1 | exact h0.2.2.2.1 | exact h0.2.2.2.2.1 | exact h0.2.2.2.2.2.1 | exact h0.2.2.2.2.2.2.1 | exact h0.2.2.2.2.2.2.2.1 | exact h0.2.2.2.2.2.2.2.2) rfl rfl rfl rfl ⟨rfl, rfl, by decide, by decide⟩ (Nat.le_of_ble_eq_true rfl) ⟨by decide, by decide⟩ (fun r_137 V_137 h_137 => ?_)
              obtain ⟨rfl, h_137⟩ := h_137
              have hres : isI r_137 (v_cue x r s p k a) := by
                refine Eq.trans h_137 ?_
                unfold s_cue v_cue
                rw [xR_set]
                rw [if_pos hpN, if_pos hpN]
                refine cueI_f (fun z9 => z9 ?_)
                show atZ (setZ (xR x r).2.1 s.toInt NN) kk = NN
                rw [hkk, atZ_set (by omega) (by have := hrl.1; omega), if_pos rfl]
              refine j_iret dX8_setCue_140 rfl (rfl) (by decide) (by decide) ?_
              exact mC.ret (by show e_cue x r s p k a = 0; unfold e_cue; exact ((if_neg (fun z => z ⟨c_6, hpo⟩)).trans (if_neg (fun z => z ⟨c_48, c_60⟩)))) ((a1.tr aS).tr ((a3.wide (by omega) (by omega)).tr (aL.wide (by omega) (by omega)))) (by rw [aL q (by omega), a3 q (by omega), tS]; exact t1) hres h4
            · exact absurd c_75 (by decide)
      · exact absurd c_33 (by decide)
    · have hpN : ¬ p = NN := fun e => c_12 (by rw [e]; decide)
      refine j_aload_n dX8_setCue_15 rfl ?_
      refine j_iload_n dX8_setCue_16 rfl ?_
      refine j_cVi dX8_setCue_17 hB mo_X8_isPiece ml_X8_110 (sp_X8_isPiece hB h0 h hW.1.2.2.1) (by first | exact h0.1 | exact h0.2.1 | exact h0.2.2.1 | exact h0.2.2.2.1 | exact h0.2.2.2.2.1 | exact h0.2.2.2.2.2.1 | exact h0.2.2.2.2.2.2.1 | exact h0.2.2.2.2.2.2.2.1 | exact h0.2.2.2.2.2.2.2.2) rfl rfl rfl rfl ⟨rfl, rfl, by decide, by decide⟩ (Nat.le_of_ble_eq_true rfl) ⟨by decide, by decide⟩ (fun r_17 V_17 h_17 => ?_)
      obtain ⟨rfl, b_17⟩ := h_17
      refine m_ifeqB (tgt := 27) dX8_setCue_20 (by decide) b_17 (fun c_20 => ?_) (fun c_20 => ?_)
      · refine j_iconst (v := 0) dX8_setCue_27 (by decide) ?_
        refine j_istore (L' := [(0, _), (1, _), (2, _), (3, _), (4, _), (5, _), (6, _)]) dX8_setCue_28 (by decide) rfl ?_
        refine j_aload_n dX8_setCue_30 rfl ?_
        refine j_iload dX8_setCue_31 rfl ?_
        refine m_if_ne (tgt := 40) dX8_setCue_33 (by decide) (iC 0 (by decide)) (fun c_33 => ?_) (fun c_33 => ?_)
        · exact absurd c_33 (by decide)
        · refine j_iconst (v := 1) dX8_setCue_36 (by decide) ?_
          refine j_goto (tgt := 68) dX8_setCue_37 (by decide) ?_
          refine j_puti dX8_setCue_68 hB fp_X8_setCue_34 (by first | exact h0.1 | exact h0.2.1 | exact h0.2.2.1 | exact h0.2.2.2.1 | exact h0.2.2.2.2.1 | exact h0.2.2.2.2.2.1 | exact h0.2.2.2.2.2.2.1 | exact h0.2.2.2.2.2.2.2.1 | exact h0.2.2.2.2.2.2.2.2) (by rfl) ?_
          generalize hV1 : jset V q 0 1 = V1
          have t1 : isI (V1 q 0) 1 := by rw [← hV1, jset_eq]; decide
          have a1 : jAg V V1 q (q + 9) := by rw [← hV1]; exact jAg.rf.set (by omega) (by omega)
          have h1 : moIs T V1 q x := by rw [← hV1]; exact h.f (by decide) (by decide)
          refine j_aload_n dX8_setCue_71 rfl ?_
          refine j_geti dX8_setCue_72 hB fl_X8_34 (by first | exact h0.1 | exact h0.2.1 | exact h0.2.2.1 | exact h0.2.2.2.1 | exact h0.2.2.2.2.1 | exact h0.2.2.2.2.2.1 | exact h0.2.2.2.2.2.2.1 | exact h0.2.2.2.2.2.2.2.1 | exact h0.2.2.2.2.2.2.2.2) (by rfl) ?_
          refine m_if_le (tgt := 80) dX8_setCue_75 (by decide) (t1) (fun c_75 => ?_) (fun c_75 => ?_)
          · exact absurd c_75 (by decide)
          · refine j_iconst (v := 0) dX8_setCue_78 (by decide) ?_
            refine j_iret dX8_setCue_79 rfl (rfl) (by decide) (by decide) ?_
            exact mC.thr 0 (by show e_cue x r s p k a = 1; unfold e_cue; exact (if_pos (fun z9 => c_20 (z9.2.resolve_left hpN)))) a1 t1 rfl h1
      · have hpo : p = NN ∨ pcOk x.1 p := Or.inr c_20
        have hpc : ¬ p = NN → pcOk x.1 p := fun _ => c_20
        refine j_iconst (v := 1) dX8_setCue_23 (by decide) ?_
        refine j_goto (tgt := 28) dX8_setCue_24 (by decide) ?_
        refine j_istore (L' := [(0, _), (1, _), (2, _), (3, _), (4, _), (5, _), (6, _)]) dX8_setCue_28 (by decide) rfl ?_
        refine j_aload_n dX8_setCue_30 rfl ?_
        refine j_iload dX8_setCue_31 rfl ?_
        refine m_if_ne (tgt := 40) dX8_setCue_33 (by decide) (iC 1 (by decide)) (fun c_33 => ?_) (fun c_33 => ?_)
        · refine j_iload dX8_setCue_40 rfl ?_
          refine j_iconst (v := 1) dX8_setCue_42 (by decide) ?_
          refine j_bipush (v := 9) dX8_setCue_43 (by decide) ?_
          refine j_cSi dX8_setCue_45 hB mo_X8_within ml_X8_38 (sp_X8_within hB  (iV) (iC 1 (by decide)) (iC 9 (by decide))) rfl rfl ⟨rfl, rfl, by decide, by decide⟩ (Nat.le_of_ble_eq_true rfl) ⟨by decide, by decide⟩ (fun r_45 V_45 h_45 => ?_)
          obtain ⟨rfl, b_45⟩ := h_45
          replace b_45 : bQ _ (inR k 1 9) := b_45.cg (by omega)
          refine m_ifeqB (tgt := 67) dX8_setCue_48 (by decide) b_45 (fun c_48 => ?_) (fun c_48 => ?_)
          · refine j_iconst (v := 2) dX8_setCue_67 (by decide) ?_
            refine j_puti dX8_setCue_68 hB fp_X8_setCue_34 (by first | exact h0.1 | exact h0.2.1 | exact h0.2.2.1 | exact h0.2.2.2.1 | exact h0.2.2.2.2.1 | exact h0.2.2.2.2.2.1 | exact h0.2.2.2.2.2.2.1 | exact h0.2.2.2.2.2.2.2.1 | exact h0.2.2.2.2.2.2.2.2) (by rfl) ?_
            generalize hV1 : jset V q 0 2 = V1
            have t1 : isI (V1 q 0) 2 := by rw [← hV1, jset_eq]; decide
            have a1 : jAg V V1 q (q + 9) := by rw [← hV1]; exact jAg.rf.set (by omega) (by omega)
            have h1 : moIs T V1 q x := by rw [← hV1]; exact h.f (by decide) (by decide)
            refine j_aload_n dX8_setCue_71 rfl ?_
            refine j_geti dX8_setCue_72 hB fl_X8_34 (by first | exact h0.1 | exact h0.2.1 | exact h0.2.2.1 | exact h0.2.2.2.1 | exact h0.2.2.2.2.1 | exact h0.2.2.2.2.2.1 | exact h0.2.2.2.2.2.2.1 | exact h0.2.2.2.2.2.2.2.1 | exact h0.2.2.2.2.2.2.2.2) (by rfl) ?_
            refine m_if_le (tgt := 80) dX8_setCue_75 (by decide) (t1) (fun c_75 => ?_) (fun c_75 => ?_)
            · exact absurd c_75 (by decide)
            · refine j_iconst (v := 0) dX8_setCue_78 (by decide) ?_
              refine j_iret dX8_setCue_79 rfl (rfl) (by decide) (by decide) ?_
              exact mC.thr 1 (by show e_cue x r s p k a = 2; unfold e_cue; exact ((if_neg (fun z => z ⟨c_6, hpo⟩)).trans (if_pos (fun z9 => c_48 z9.1)))) a1 t1 rfl h1
          · refine j_iload dX8_setCue_51 rfl ?_
            refine j_bipush (v := 80) dX8_setCue_53 (by decide) ?_
            refine j_bipush (v := 120) dX8_setCue_55 (by decide) ?_
            refine j_cSi dX8_setCue_57 hB mo_X8_within ml_X8_38 (sp_X8_within hB  (iV) (iC 80 (by decide)) (iC 120 (by decide))) rfl rfl ⟨rfl, rfl, by decide, by decide⟩ (Nat.le_of_ble_eq_true rfl) ⟨by decide, by decide⟩ (fun r_57 V_57 h_57 => ?_)
            obtain ⟨rfl, b_57⟩ := h_57
            replace b_57 : bQ _ (inR a 80 120) := b_57.cg (by omega)
            refine m_ifeqB (tgt := 67) dX8_setCue_60 (by decide) b_57 (fun c_60 => ?_) (fun c_60 => ?_)
            · refine j_iconst (v := 2) dX8_setCue_67 (by decide) ?_
              refine j_puti dX8_setCue_68 hB fp_X8_setCue_34 (by first | exact h0.1 | exact h0.2.1 | exact h0.2.2.1 | exact h0.2.2.2.1 | exact h0.2.2.2.2.1 | exact h0.2.2.2.2.2.1 | exact h0.2.2.2.2.2.2.1 | exact h0.2.2.2.2.2.2.2.1 | exact h0.2.2.2.2.2.2.2.2) (by rfl) ?_
              generalize hV1 : jset V q 0 2 = V1
              have t1 : isI (V1 q 0) 2 := by rw [← hV1, jset_eq]; decide
              have a1 : jAg V V1 q (q + 9) := by rw [← hV1]; exact jAg.rf.set (by omega) (by omega)
              have h1 : moIs T V1 q x := by rw [← hV1]; exact h.f (by decide) (by decide)
              refine j_aload_n dX8_setCue_71 rfl ?_
              refine j_geti dX8_setCue_72 hB fl_X8_34 (by first | exact h0.1 | exact h0.2.1 | exact h0.2.2.1 | exact h0.2.2.2.1 | exact h0.2.2.2.2.1 | exact h0.2.2.2.2.2.1 | exact h0.2.2.2.2.2.2.1 | exact h0.2.2.2.2.2.2.2.1 | exact h0.2.2.2.2.2.2.2.2) (by rfl) ?_
              refine m_if_le (tgt := 80) dX8_setCue_75 (by decide) (t1) (fun c_75 => ?_) (fun c_75 => ?_)
              · exact absurd c_75 (by decide)
              · refine j_iconst (v := 0) dX8_setCue_78 (by decide) ?_
                refine j_iret dX8_setCue_79 rfl (rfl) (by decide) (by decide) ?_
                exact mC.thr 1 (by show e_cue x r s p k a = 2; unfold e_cue; exact ((if_neg (fun z => z ⟨c_6, hpo⟩)).trans (if_pos (fun z9 => c_60 z9.2)))) a1 t1 rfl h1
            · refine j_iconst (v := 0) dX8_setCue_63 (by decide) ?_
              refine j_goto (tgt := 68) dX8_setCue_64 (by decide) ?_
              refine j_puti dX8_setCue_68 hB fp_X8_setCue_34 (by first | exact h0.1 | exact h0.2.1 | exact h0.2.2.1 | exact h0.2.2.2.1 | exact h0.2.2.2.2.1 | exact h0.2.2.2.2.2.1 | exact h0.2.2.2.2.2.2.1 | exact h0.2.2.2.2.2.2.2.1 | exact h0.2.2.2.2.2.2.2.2) (by rfl) ?_
              generalize hV1 : jset V q 0 0 = V1
              have t1 : isI (V1 q 0) 0 := by rw [← hV1, jset_eq]; decide
              have a1 : jAg V V1 q (q + 9) := by rw [← hV1]; exact jAg.rf.set (by omega) (by omega)
              have h1 : moIs T V1 q x := by rw [← hV1]; exact h.f (by decide) (by decide)
              refine j_aload_n dX8_setCue_71 rfl ?_
              refine j_geti dX8_setCue_72 hB fl_X8_34 (by first | exact h0.1 | exact h0.2.1 | exact h0.2.2.1 | exact h0.2.2.2.1 | exact h0.2.2.2.2.1 | exact h0.2.2.2.2.2.1 | exact h0.2.2.2.2.2.2.1 | exact h0.2.2.2.2.2.2.2.1 | exact h0.2.2.2.2.2.2.2.2) (by rfl) ?_
              refine m_if_le (tgt := 80) dX8_setCue_75 (by decide) (t1) (fun c_75 => ?_) (fun c_75 => ?_)
              · refine j_aload_n dX8_setCue_80 rfl ?_
                refine j_cVu dX8_setCue_81 hB mo_X8_save ml_X8_91 (sp_X8_save hB h0 h1 hW) (by first | exact h0.1 | exact h0.2.1 | exact h0.2.2.1 | exact h0.2.2.2.1 | exact h0.2.2.2.2.1 | exact h0.2.2.2.2.2.1 | exact h0.2.2.2.2.2.2.1 | exact h0.2.2.2.2.2.2.2.1 | exact h0.2.2.2.2.2.2.2.2) rfl rfl rfl rfl ⟨rfl, rfl, by decide, by decide⟩ (Nat.le_of_ble_eq_true rfl) ⟨by decide, by decide⟩ (fun V_81 h_81 => ?_)
                obtain ⟨hS, eS, tS, aS, xS⟩ := h_81
                refine j_bipush (v := 67) dX8_setCue_84 (by decide) ?_
                refine j_iload_n dX8_setCue_86 rfl ?_
                refine j_imul dX8_setCue_87 ?_
                refine j_iconst (v := 1) dX8_setCue_88 (by decide) ?_
                refine j_iadd dX8_setCue_89 ?_
                refine j_iconst (v := 4) dX8_setCue_90 (by decide) ?_
                refine j_iload_n dX8_setCue_91 rfl ?_
                refine j_imul dX8_setCue_92 ?_
                refine j_iadd dX8_setCue_93 ?_
                refine j_istore (L' := [(0, _), (1, _), (2, _), (3, _), (4, _), (5, _), (6, _), (7, _)]) dX8_setCue_94 (by decide) rfl ?_
                refine j_aload_n dX8_setCue_96 rfl ?_
                refine j_getr dX8_setCue_97 hB fl_X8_7 (by first | exact h0.1 | exact h0.2.1 | exact h0.2.2.1 | exact h0.2.2.2.1 | exact h0.2.2.2.2.1 | exact h0.2.2.2.2.2.1 | exact h0.2.2.2.2.2.2.1 | exact h0.2.2.2.2.2.2.2.1 | exact h0.2.2.2.2.2.2.2.2) (by rfl) ?_
                refine j_iload dX8_setCue_100 rfl ?_
                refine j_iconst (v := 1) dX8_setCue_102 (by decide) ?_
                refine j_iadd dX8_setCue_103 ?_
                refine j_iload_n dX8_setCue_104 rfl ?_
                refine m_iast (k := 67 * z + 1 + 4 * kk + 1) dX8_setCue_105 hB (by first | exact h0.1 | exact h0.2.1 | exact h0.2.2.1 | exact h0.2.2.2.1 | exact h0.2.2.2.2.1 | exact h0.2.2.2.2.2.1 | exact h0.2.2.2.2.2.2.1 | exact h0.2.2.2.2.2.2.2.1 | exact h0.2.2.2.2.2.2.2.2) (ixk (iA (iA (iA (iM (iC 67 (by decide)) (hz) (by omega)) (iC 1 (by decide)) (by omega)) (iM (iC 4 (by decide)) (hkk) (by omega)) (by omega)) (iC 1 (by decide)) (by omega)) (by omega)) (by omega) ?_
                refine j_aload_n dX8_setCue_106 rfl ?_
                refine j_getr dX8_setCue_107 hB fl_X8_7 (by first | exact h0.1 | exact h0.2.1 | exact h0.2.2.1 | exact h0.2.2.2.1 | exact h0.2.2.2.2.1 | exact h0.2.2.2.2.2.1 | exact h0.2.2.2.2.2.2.1 | exact h0.2.2.2.2.2.2.2.1 | exact h0.2.2.2.2.2.2.2.2) (by rfl) ?_
                refine j_iload dX8_setCue_110 rfl ?_
                refine j_iconst (v := 2) dX8_setCue_112 (by decide) ?_
                refine j_iadd dX8_setCue_113 ?_
                refine j_iload dX8_setCue_114 rfl ?_
                refine m_iast (k := 67 * z + 1 + 4 * kk + 2) dX8_setCue_116 hB (by first | exact h0.1 | exact h0.2.1 | exact h0.2.2.1 | exact h0.2.2.2.1 | exact h0.2.2.2.2.1 | exact h0.2.2.2.2.2.1 | exact h0.2.2.2.2.2.2.1 | exact h0.2.2.2.2.2.2.2.1 | exact h0.2.2.2.2.2.2.2.2) (ixk (iA (iA (iA (iM (iC 67 (by decide)) (hz) (by omega)) (iC 1 (by decide)) (by omega)) (iM (iC 4 (by decide)) (hkk) (by omega)) (by omega)) (iC 2 (by decide)) (by omega)) (by omega)) (by omega) ?_
                refine j_aload_n dX8_setCue_117 rfl ?_
                refine j_getr dX8_setCue_118 hB fl_X8_7 (by first | exact h0.1 | exact h0.2.1 | exact h0.2.2.1 | exact h0.2.2.2.1 | exact h0.2.2.2.2.1 | exact h0.2.2.2.2.2.1 | exact h0.2.2.2.2.2.2.1 | exact h0.2.2.2.2.2.2.2.1 | exact h0.2.2.2.2.2.2.2.2) (by rfl) ?_
                refine j_iload dX8_setCue_121 rfl ?_
                refine j_iconst (v := 3) dX8_setCue_123 (by decide) ?_
                refine j_iadd dX8_setCue_124 ?_
                refine j_iload dX8_setCue_125 rfl ?_
                refine m_iast (k := 67 * z + 1 + 4 * kk + 3) dX8_setCue_127 hB (by first | exact h0.1 | exact h0.2.1 | exact h0.2.2.1 | exact h0.2.2.2.1 | exact h0.2.2.2.2.1 | exact h0.2.2.2.2.2.1 | exact h0.2.2.2.2.2.2.1 | exact h0.2.2.2.2.2.2.2.1 | exact h0.2.2.2.2.2.2.2.2) (ixk (iA (iA (iA (iM (iC 67 (by decide)) (hz) (by omega)) (iC 1 (by decide)) (by omega)) (iM (iC 4 (by decide)) (hkk) (by omega)) (by omega)) (iC 3 (by decide)) (by omega)) (by omega)) (by omega) ?_
                generalize hV3 : jset (jset (jset V_81 (q + 1) (67 * z + 1 + 4 * kk + 1) p) (q + 1) (67 * z + 1 + 4 * kk + 2) k) (q + 1) (67 * z + 1 + 4 * kk + 3) a = V3
                have a3 : jAg V_81 V3 (q + 1) (q + 2) := by rw [← hV3]; exact ((jAg.rf.set (by omega) (by omega)).set (by omega) (by omega)).set (by omega) (by omega)
                have hr2 : zRl (V_81 (q + 1)) (67 * z) (xR x r) := by rw [eS]; exact h1.r hz z3
                have zr : ∀ t, ¬ t = 67 * z + 1 + 4 * kk + 1 → ¬ t = 67 * z + 1 + 4 * kk + 2 → ¬ t = 67 * z + 1 + 4 * kk + 3 → V3 (q + 1) t = V_81 (q + 1) t := fun t h7 h8 h9 => by rw [← hV3, jset_ne (Or.inr h9), jset_ne (Or.inr h8), jset_ne (Or.inr h7)]
                have hcc : rlW x.1 (if p = NN then rCue (xR x r) s.toInt NN 0 0 else rCue (xR x r) s.toInt p k a) ∧ zRl (V3 (q + 1)) (67 * z) (if p = NN then rCue (xR x r) s.toInt NN 0 0 else rCue (xR x r) s.toInt p k a) := by
                  rw [if_neg hpN]
                  rw [hkk]
                  refine ⟨hrl.cue (by omega) (by omega) (Or.inr ⟨(hpc hpN).1, (hpc hpN).2, c_48.1, c_48.2, c_60.1, c_60.2⟩), hr2.cue hrl hkl ?_ ?_ zr⟩
                  · rw [← hV3, jset_ne (Or.inr (by omega)), jset_ne (Or.inr (by omega)), jset_eq]
                  · exact fun _ => ⟨by rw [← hV3, jset_ne (Or.inr (by omega)), jset_eq], by rw [← hV3, jset_eq]⟩
                have zz := hS.2.1.set hW.1 z3 (Z' := V3 (q + 1)) (fun i9 hi9 => zr i9 (by omega) (by omega) (by omega)) hcc.2
                have h3 : moIs T V3 q (s_cue x r s p k a) := by
                  have := hS.z a3 zz
                  rw [← hz] at this
                  exact this
                have hW3 : xW (s_cue x r s p k a) := xW_set hW hcc.1
                have hl3 : kk < (xR (s_cue x r s p k a) r).1.length := by
                  unfold s_cue
                  rw [xR_set]
                  rw [if_neg hpN]
                  exact hkl
                refine j_aload_n dX8_setCue_128 rfl ?_
                refine j_iload_n dX8_setCue_129 rfl ?_
                refine j_iconst (v := 0) dX8_setCue_130 (by decide) ?_
                refine j_cVu dX8_setCue_131 hB mo_X8_lay ml_X8_113 (sp_X8_lay hB h0 hz z3 h3 hW3.1 (Or.inl rfl)) (by first | exact h0.1 | exact h0.2.1 | exact h0.2.2.1 | exact h0.2.2.2.1 | exact h0.2.2.2.2.1 | exact h0.2.2.2.2.2.1 | exact h0.2.2.2.2.2.2.1 | exact h0.2.2.2.2.2.2.2.1 | exact h0.2.2.2.2.2.2.2.2) rfl rfl rfl rfl ⟨rfl, rfl, by decide, by decide⟩ (Nat.le_of_ble_eq_true rfl) ⟨by decide, by decide⟩ (fun V_131 h_131 => ?_)
                obtain ⟨gL, aL⟩ := h_131
                have h4 : moIs T V_131 q (s_cue x r s p k a) := h3.kp (mKp.ag aL (by omega) (by omega))
                refine j_aload_n dX8_setCue_134 rfl ?_
                refine j_iload_n dX8_setCue_135 rfl ?_
                refine j_iload_n dX8_setCue_136 rfl ?_
                refine j_cVi dX8_setCue_137 hB mo_X8_drift ml_X8_76 (sp_X8_drift hB h0 hz z3 h4 hW3.1 hkk hl3 (Or.inl rfl) gL hl3) (by first | exact h0.1 | exact h0.2.1 | exact h0.2.2.1 | exact h0.2.2.2.1 | exact h0.2.2.2.2.1 | exact h0.2.2.2.2.2.1 | exact h0.2.2.2.2.2.2.1 | exact h0.2.2.2.2.2.2.2.1 | exact h0.2.2.2.2.2.2.2.2) rfl rfl rfl rfl ⟨rfl, rfl, by decide, by decide⟩ (Nat.le_of_ble_eq_true rfl) ⟨by decide, by decide⟩ (fun r_137 V_137 h_137 => ?_)
                obtain ⟨rfl, h_137⟩ := h_137
                have hres : isI r_137 (v_cue x r s p k a) := by
                  refine Eq.trans h_137 ?_
                  unfold s_cue v_cue
                  rw [xR_set]
                  rw [if_neg hpN, if_neg hpN, show s.toInt.toNat = kk by omega]
                  rfl
                refine j_iret dX8_setCue_140 rfl (rfl) (by decide) (by decide) ?_
                exact mC.ret (by show e_cue x r s p k a = 0; unfold e_cue; exact ((if_neg (fun z => z ⟨c_6, hpo⟩)).trans (if_neg (fun z => z ⟨c_48, c_60⟩)))) ((a1.tr aS).tr ((a3.wide (by omega) (by omega)).tr (aL.wide (by omega) (by omega)))) (by rw [aL q (by omega), a3 q (by omega), tS]; exact t1) hres h4
              · exact absurd c_75 (by decide)
        · exact absurd c_33 (by decide)
set_option maxRecDepth 100000 in
set_option maxHeartbeats 4000000 in
theorem sp_X8_fit (hB : jB l s0 D) {q : Nat} (h0 : moT T q) {x : aX} (h : moIs T V q x) (hW : xW x) {r : Int32} : Sp l s0 D kX8_fit (jR 4 0 0) 0 0 [.ref q, .int r] T V X sz (mC T V X sz q (e_fit r) (fun y => isI y (v_fit x r)) x (s_fit x r)) := by
  refine Sp.of pn_X8_fit rfl (Nat.le_of_ble_eq_true rfl) ?_
  refine j_aload_n dX8_fit_0 rfl ?_
  refine j_iload_n dX8_fit_1 rfl ?_
  refine j_cSi dX8_fit_2 hB mo_X8_isReel ml_X8_42 (sp_X8_isReel hB) rfl rfl ⟨rfl, rfl, by decide, by decide⟩ (Nat.le_of_ble_eq_true rfl) ⟨by decide, by decide⟩ (fun r_2 V_2 h_2 => ?_)
  obtain ⟨rfl, b_2⟩ := h_2
  refine m_ifeqB (tgt := 12) dX8_fit_5 (by decide) b_2 (fun c_5 => ?_) (fun c_5 => ?_)
  · refine j_iconst (v := 1) dX8_fit_12 (by decide) ?_
    refine j_puti dX8_fit_13 hB fp_X8_fit_34 (by first | exact h0.1 | exact h0.2.1 | exact h0.2.2.1 | exact h0.2.2.2.1 | exact h0.2.2.2.2.1 | exact h0.2.2.2.2.2.1 | exact h0.2.2.2.2.2.2.1 | exact h0.2.2.2.2.2.2.2.1 | exact h0.2.2.2.2.2.2.2.2) (by rfl) ?_
    generalize hV1 : jset V q 0 1 = V1
    have t1 : isI (V1 q 0) 1 := by rw [← hV1, jset_eq]; decide
    have a1 : jAg V V1 q (q + 9) := by rw [← hV1]; exact jAg.rf.set (by omega) (by omega)
    have h1 : moIs T V1 q x := by rw [← hV1]; exact h.f (by decide) (by decide)
    refine j_aload_n dX8_fit_16 rfl ?_
    refine j_geti dX8_fit_17 hB fl_X8_34 (by first | exact h0.1 | exact h0.2.1 | exact h0.2.2.1 | exact h0.2.2.2.1 | exact h0.2.2.2.2.1 | exact h0.2.2.2.2.2.1 | exact h0.2.2.2.2.2.2.1 | exact h0.2.2.2.2.2.2.2.1 | exact h0.2.2.2.2.2.2.2.2) (by rfl) ?_
    refine m_if_le (tgt := 25) dX8_fit_20 (by decide) (t1) (fun c_20 => ?_) (fun c_20 => ?_)
    · exact absurd c_20 (by decide)
    · refine j_iconst (v := 0) dX8_fit_23 (by decide) ?_
      refine j_iret dX8_fit_24 rfl (rfl) (by decide) (by decide) ?_
      exact mC.thr 0 (by show e_fit r = 1; unfold e_fit; exact (if_pos c_5)) a1 t1 rfl h1
  · obtain ⟨z, hz, z3⟩ := rOk.z c_5
    have hr0 := h.r hz z3
    have hrl : rlW x.1 (xR x r) := hW.1.r r.toInt
    have h10 : (xR x r).1.length ≤ 10 := hrl.2.2.2.1
    refine j_iconst (v := 0) dX8_fit_8 (by decide) ?_
    refine j_goto (tgt := 13) dX8_fit_9 (by decide) ?_
    refine j_puti dX8_fit_13 hB fp_X8_fit_34 (by first | exact h0.1 | exact h0.2.1 | exact h0.2.2.1 | exact h0.2.2.2.1 | exact h0.2.2.2.2.1 | exact h0.2.2.2.2.2.1 | exact h0.2.2.2.2.2.2.1 | exact h0.2.2.2.2.2.2.2.1 | exact h0.2.2.2.2.2.2.2.2) (by rfl) ?_
    generalize hV1 : jset V q 0 0 = V1
    have t1 : isI (V1 q 0) 0 := by rw [← hV1, jset_eq]; decide
    have a1 : jAg V V1 q (q + 9) := by rw [← hV1]; exact jAg.rf.set (by omega) (by omega)
    have h1 : moIs T V1 q x := by rw [← hV1]; exact h.f (by decide) (by decide)
    refine j_aload_n dX8_fit_16 rfl ?_
    refine j_geti dX8_fit_17 hB fl_X8_34 (by first | exact h0.1 | exact h0.2.1 | exact h0.2.2.1 | exact h0.2.2.2.1 | exact h0.2.2.2.2.1 | exact h0.2.2.2.2.2.1 | exact h0.2.2.2.2.2.2.1 | exact h0.2.2.2.2.2.2.2.1 | exact h0.2.2.2.2.2.2.2.2) (by rfl) ?_
    refine m_if_le (tgt := 25) dX8_fit_20 (by decide) (t1) (fun c_20 => ?_) (fun c_20 => ?_)
    · refine j_aload_n dX8_fit_25 rfl ?_
      refine j_cVu dX8_fit_26 hB mo_X8_save ml_X8_91 (sp_X8_save hB h0 h1 hW) (by first | exact h0.1 | exact h0.2.1 | exact h0.2.2.1 | exact h0.2.2.2.1 | exact h0.2.2.2.2.1 | exact h0.2.2.2.2.2.1 | exact h0.2.2.2.2.2.2.1 | exact h0.2.2.2.2.2.2.2.1 | exact h0.2.2.2.2.2.2.2.2) rfl rfl rfl rfl ⟨rfl, rfl, by decide, by decide⟩ (Nat.le_of_ble_eq_true rfl) ⟨by decide, by decide⟩ (fun V_26 h_26 => ?_)
      obtain ⟨hS, eS, tS, aS, xS⟩ := h_26
      refine j_aload_n dX8_fit_29 rfl ?_
      refine j_iload_n dX8_fit_30 rfl ?_
      refine j_iconst (v := 0) dX8_fit_31 (by decide) ?_
      refine j_cVu dX8_fit_32 hB mo_X8_lay ml_X8_113 (sp_X8_lay hB h0 hz z3 hS hW.1 (Or.inl rfl)) (by first | exact h0.1 | exact h0.2.1 | exact h0.2.2.1 | exact h0.2.2.2.1 | exact h0.2.2.2.2.1 | exact h0.2.2.2.2.2.1 | exact h0.2.2.2.2.2.2.1 | exact h0.2.2.2.2.2.2.2.1 | exact h0.2.2.2.2.2.2.2.2) rfl rfl rfl rfl ⟨rfl, rfl, by decide, by decide⟩ (Nat.le_of_ble_eq_true rfl) ⟨by decide, by decide⟩ (fun V_32 h_32 => ?_)
      obtain ⟨gL, aL⟩ := h_32
      have h4 : moIs T V_32 q (xNow x x.1) := hS.kp (mKp.ag aL (by omega) (by omega))
      refine j_iconst (v := 0) dX8_fit_35 (by decide) ?_
      refine j_istore_n (L' := [(0, _), (1, _), (2, _)]) dX8_fit_36 (by decide) rfl ?_
      refine j_iconst (v := 0) dX8_fit_37 (by decide) ?_
      refine j_istore_n (L' := [(0, _), (1, _), (2, _), (3, _)]) dX8_fit_38 (by decide) rfl ?_
      have loop : ∀ (n j : Nat) (i y : Int32) (V1 : jV), j + n = (xR x r).1.length → i.toInt = j → y.toInt = (fitN x.1 r.toInt j).2 → moIs T V1 q ((fitN x.1 r.toInt j).1, xPush x, x.2.2) → lyE V1 q (fitN x.1 r.toInt j).1 (sR (fitN x.1 r.toInt j).1 r.toInt) 0 j → (∀ k : Nat, j ≤ k → k < (xR x r).1.length → ¬ isCue (xR x r) k → (V1 (q + 7) k).toInt = 0) → jAg V V1 q (q + 9) → isI (V1 q 0) 0 → J l s0 D kX8_fit (jR 4 0 0) 0 0 (mC T V X sz q (e_fit r) (fun y => isI y (v_fit x r)) x (s_fit x r)) 39 [(0, .ref q), (1, .int r), (2, .int y), (3, .int i)] [] T V1 X sz 0 0 := by
        intro n
        refine Nat.strongRecOn n ?_
        clear n
        intro n ih j i y V1 hn hi hy hm hl hz7 ha ht
        obtain ⟨e1, e2, e3, e4, e5⟩ := fitN_W hW.1 (z := r.toInt) j (by show j ≤ (xR x r).1.length; omega)
        have e2 : (sR (fitN x.1 r.toInt j).1 r.toInt).1.length = (xR x r).1.length := by rw [e2]; rfl
        have hr1 : zRl (V1 (q + 1)) (67 * z) (sR (fitN x.1 r.toInt j).1 r.toInt) := hm.r hz z3
        have hrj : rlW (fitN x.1 r.toInt j).1 (sR (fitN x.1 r.toInt j).1 r.toInt) := e1.r r.toInt
        refine j_iload_n dX8_fit_39 rfl ?_
        refine j_aload_n dX8_fit_40 rfl ?_
        refine j_iload_n dX8_fit_41 rfl ?_
        refine j_cVi dX8_fit_42 hB mo_X8_scenes ml_X8_46 (sp_X8_scenes hB h0 (ixk (k := z) (hz) (by omega)) z3) (by first | exact h0.1 | exact h0.2.1 | exact h0.2.2.1 | exact h0.2.2.2.1 | exact h0.2.2.2.2.1 | exact h0.2.2.2.2.2.1 | exact h0.2.2.2.2.2.2.1 | exact h0.2.2.2.2.2.2.2.1 | exact h0.2.2.2.2.2.2.2.2) rfl rfl rfl rfl ⟨rfl, rfl, by decide, by decide⟩ (Nat.le_of_ble_eq_true rfl) ⟨by decide, by decide⟩ (fun r_42 V_42 h_42 => ?_)
        obtain ⟨rfl, h_42⟩ := h_42
        subst h_42
        refine m_icmp_ge (tgt := 165) dX8_fit_45 (by decide) (hi) (hr1.1) (fun c_45 => ?_) (fun c_45 => ?_)
        · refine j_iload_n dX8_fit_165 rfl ?_
          refine j_iret dX8_fit_166 rfl (rfl) (by decide) (by decide) ?_
          have hj : j = (xR x r).1.length := by omega
          subst hj
          exact mC.ret (by show e_fit r = 0; unfold e_fit; exact (if_neg (fun z => z c_5))) ha ht hy hm
        · have hjl : j < (sR (fitN x.1 r.toInt j).1 r.toInt).1.length := by omega
          refine j_aload_n dX8_fit_48 rfl ?_
          refine j_iload_n dX8_fit_49 rfl ?_
          refine j_iload_n dX8_fit_50 rfl ?_
          refine j_iconst (v := 1) dX8_fit_51 (by decide) ?_
          refine j_cVi dX8_fit_52 hB mo_X8_of ml_X8_50 (sp_X8_of hB h0 (ixk (k := z) (hz) (by omega)) z3 (ixk (k := j) (hi) (by omega)) (by omega) (ixk (k := 1) (iC 1 (by decide)) (by omega)) (by omega)) (by first | exact h0.1 | exact h0.2.1 | exact h0.2.2.1 | exact h0.2.2.2.1 | exact h0.2.2.2.2.1 | exact h0.2.2.2.2.2.1 | exact h0.2.2.2.2.2.2.1 | exact h0.2.2.2.2.2.2.2.1 | exact h0.2.2.2.2.2.2.2.2) rfl rfl rfl rfl ⟨rfl, rfl, by decide, by decide⟩ (Nat.le_of_ble_eq_true rfl) ⟨by decide, by decide⟩ (fun r_52 V_52 h_52 => ?_)
          obtain ⟨rfl, h_52⟩ := h_52
          replace h_52 := h_52.trans (hr1.2.1 j hjl).2.1
          subst h_52
          refine j_ldc dX8_fit_55 hB kc_X8_62 ?_
          refine m_icmp_eq (tgt := 159) dX8_fit_57 (by decide) (iV) (iC (-2000001) (by decide)) (fun c_57 => ?_) (fun c_57 => ?_)
          · refine j_iinc (v := 1) (L' := [(0, _), (1, _), (2, _), (3, _)]) dX8_fit_159 rfl (by decide) (by decide) rfl ?_
            refine j_goto (tgt := 39) dX8_fit_162 (by decide) ?_
            have ef : (fitN x.1 r.toInt (j + 1)) = (fitN x.1 r.toInt j) := if_pos (by rw [← e3 j (Nat.le_refl j)]; exact ti_inj (by rw [c_57]; decide))
            refine ih (n - 1) (by omega) (j + 1) _ _ _ (by omega) ?_ ?_ ?_ ?_ (fun k9 h8 h9 => hz7 k9 (by omega) h9) ha ht
            · exact (ixk (k := j + 1) (iA (hi) (iC 1 (by decide)) (by omega)) (by omega))
            · rw [ef]; exact hy
            · rw [ef]; exact hm
            · rw [ef]
              refine ⟨hl.1, fun k9 hk9 => ?_⟩
              rcases Nat.lt_or_ge k9 j with g | g
              · exact hl.2 k9 g
              · have hnc : ¬ isCue (sR (fitN x.1 r.toInt j).1 r.toInt) j := fun z9 => isCue_i.mp z9 c_57
                have hnc2 : ¬ isCue (xR x r) j := fun z9 => hnc (by unfold isCue; rw [e3 j (Nat.le_refl j)]; exact z9)
                rw [show k9 = j by omega, aEnd_0 hnc]
                exact hz7 j (Nat.le_refl j) (by omega) hnc2
          · have hcc := isCue_i.mpr c_57
            have cr := cue_rng hrj hjl hcc
            have hro := aRoom_rng e1.1 hrj (w := 0) (Or.inl rfl) hjl
            have hbp := bestT_P e1.1 e1.2.1 cr.1 cr.2.1 hro.1 hro.2
            generalize hbc : bestT (fitN x.1 r.toInt j).1 (atZ (sR (fitN x.1 r.toInt j).1 r.toInt).2.1 j).toInt (aRoom (fitN x.1 r.toInt j).1 (sR (fitN x.1 r.toInt j).1 r.toInt) 0 j) = bc at hbp
            have hb9 := hbp
            obtain ⟨u1, u2, u3, u4, -, -⟩ := hb9
            have ef : (fitN x.1 r.toInt (j + 1)) = ((fitS (fitN x.1 r.toInt j).1 r.toInt j).1, (fitN x.1 r.toInt j).2 + (fitS (fitN x.1 r.toInt j).1 r.toInt j).2) := if_neg (by rw [← e3 j (Nat.le_refl j)]; exact hcc)
            have ef2 : (fitS (fitN x.1 r.toInt j).1 r.toInt j).2 = if (atZ (sR (fitN x.1 r.toInt j).1 r.toInt).2.2.1 j).toInt = bc.1 ∧ (atZ (sR (fitN x.1 r.toInt j).1 r.toInt).2.2.2.1 j).toInt = bc.2.1 then 0 else 1 := by rw [← hbc]; rfl
            refine j_aload_n dX8_fit_60 rfl ?_
            refine j_iload_n dX8_fit_61 rfl ?_
            refine j_iload_n dX8_fit_62 rfl ?_
            refine j_aload_n dX8_fit_63 rfl ?_
            refine j_iload_n dX8_fit_64 rfl ?_
            refine j_iload_n dX8_fit_65 rfl ?_
            refine j_iconst (v := 1) dX8_fit_66 (by decide) ?_
            refine j_cVi dX8_fit_67 hB mo_X8_of ml_X8_50 (sp_X8_of hB h0 (ixk (k := z) (hz) (by omega)) z3 (ixk (k := j) (hi) (by omega)) (by omega) (ixk (k := 1) (iC 1 (by decide)) (by omega)) (by omega)) (by first | exact h0.1 | exact h0.2.1 | exact h0.2.2.1 | exact h0.2.2.2.1 | exact h0.2.2.2.2.1 | exact h0.2.2.2.2.2.1 | exact h0.2.2.2.2.2.2.1 | exact h0.2.2.2.2.2.2.2.1 | exact h0.2.2.2.2.2.2.2.2) rfl rfl rfl rfl ⟨rfl, rfl, by decide, by decide⟩ (Nat.le_of_ble_eq_true rfl) ⟨by decide, by decide⟩ (fun r_67 V_67 h_67 => ?_)
            obtain ⟨rfl, h_67⟩ := h_67
            replace h_67 := h_67.trans (hr1.2.1 j hjl).2.1
            subst h_67
            refine j_cVi dX8_fit_70 hB mo_X8_bestOf ml_X8_116 (sp_X8_bestOf hB h0 hz z3 hm e1 hi hjl (Or.inl rfl) hl.1.1 (fun a h9 => hl.2 a h9) (pp := (atZ (sR (fitN x.1 r.toInt j).1 r.toInt).2.1 j).toInt.toNat) (show (atZ (sR (fitN x.1 r.toInt j).1 r.toInt).2.1 j).toInt = (((atZ (sR (fitN x.1 r.toInt j).1 r.toInt).2.1 j).toInt.toNat : Nat) : Int) by omega) (show (atZ (sR (fitN x.1 r.toInt j).1 r.toInt).2.1 j).toInt.toNat < (fitN x.1 r.toInt j).1.2.1.1.length by omega)) (by first | exact h0.1 | exact h0.2.1 | exact h0.2.2.1 | exact h0.2.2.2.1 | exact h0.2.2.2.2.1 | exact h0.2.2.2.2.2.1 | exact h0.2.2.2.2.2.2.1 | exact h0.2.2.2.2.2.2.2.1 | exact h0.2.2.2.2.2.2.2.2) rfl rfl rfl rfl ⟨rfl, rfl, by decide, by decide⟩ (Nat.le_of_ble_eq_true rfl) ⟨by decide, by decide⟩ (fun r_70 V_70 h_70 => ?_)
            obtain ⟨bb, hV, hbs, e9⟩ := h_70
            rw [show (((atZ (sR (fitN x.1 r.toInt j).1 r.toInt).2.1 j).toInt.toNat : Nat) : Int) = (atZ (sR (fitN x.1 r.toInt j).1 r.toInt).2.1 j).toInt by omega] at e9
            have e9 : isI r_70 (1000 * bc.1 + bc.2.1) := by rw [← hbc]; exact e9
            have a2 : mF V1 V_70 q := by rw [hV]; exact mF.rf.f (by omega)
            have hr2 : zRl (V_70 (q + 1)) (67 * z) (sR (fitN x.1 r.toInt j).1 r.toInt) := by rw [a2.1 (q + 1) (by omega)]; exact hr1
            obtain ⟨hq1, hq2⟩ := dm1000 e9 hbp.1 hbp.2.1 hbp.2.2.1 hbp.2.2.2.1
            refine j_istore (L' := [(0, _), (1, _), (2, _), (3, _), (4, _)]) dX8_fit_73 (by decide) rfl ?_
            refine j_iload_n dX8_fit_75 rfl ?_
            refine j_iload dX8_fit_76 rfl ?_
            refine j_sipush (v := 1000) dX8_fit_78 (by decide) ?_
            refine j_aload_n dX8_fit_81 rfl ?_
            refine j_iload_n dX8_fit_82 rfl ?_
            refine j_iload_n dX8_fit_83 rfl ?_
            refine j_iconst (v := 2) dX8_fit_84 (by decide) ?_
            refine j_cVi dX8_fit_85 hB mo_X8_of ml_X8_50 (sp_X8_of hB h0 (ixk (k := z) (hz) (by omega)) z3 (ixk (k := j) (hi) (by omega)) (by omega) (ixk (k := 2) (iC 2 (by decide)) (by omega)) (by omega)) (by first | exact h0.1 | exact h0.2.1 | exact h0.2.2.1 | exact h0.2.2.2.1 | exact h0.2.2.2.2.1 | exact h0.2.2.2.2.2.1 | exact h0.2.2.2.2.2.2.1 | exact h0.2.2.2.2.2.2.2.1 | exact h0.2.2.2.2.2.2.2.2) rfl rfl rfl rfl ⟨rfl, rfl, by decide, by decide⟩ (Nat.le_of_ble_eq_true rfl) ⟨by decide, by decide⟩ (fun r_85 V_85 h_85 => ?_)
            obtain ⟨rfl, h_85⟩ := h_85
            replace h_85 := h_85.trans ((hr2.2.1 j hjl).2.2 hcc).1
            subst h_85
            refine j_imul dX8_fit_88 ?_
            refine j_aload_n dX8_fit_89 rfl ?_
            refine j_iload_n dX8_fit_90 rfl ?_
            refine j_iload_n dX8_fit_91 rfl ?_
            refine j_iconst (v := 3) dX8_fit_92 (by decide) ?_
            refine j_cVi dX8_fit_93 hB mo_X8_of ml_X8_50 (sp_X8_of hB h0 (ixk (k := z) (hz) (by omega)) z3 (ixk (k := j) (hi) (by omega)) (by omega) (ixk (k := 3) (iC 3 (by decide)) (by omega)) (by omega)) (by first | exact h0.1 | exact h0.2.1 | exact h0.2.2.1 | exact h0.2.2.2.1 | exact h0.2.2.2.2.1 | exact h0.2.2.2.2.2.1 | exact h0.2.2.2.2.2.2.1 | exact h0.2.2.2.2.2.2.2.1 | exact h0.2.2.2.2.2.2.2.2) rfl rfl rfl rfl ⟨rfl, rfl, by decide, by decide⟩ (Nat.le_of_ble_eq_true rfl) ⟨by decide, by decide⟩ (fun r_93 V_93 h_93 => ?_)
            obtain ⟨rfl, h_93⟩ := h_93
            replace h_93 := h_93.trans ((hr2.2.1 j hjl).2.2 hcc).2
            subst h_93
            refine j_iadd dX8_fit_96 ?_
            refine m_icmp_ne (tgt := 104) dX8_fit_97 (by decide) (e9) (iA (iM (iC 1000 (by decide)) (iV) (by omega)) (iV) (by omega)) (fun c_97 => ?_) (fun c_97 => ?_)
            · refine j_iconst (v := 1) dX8_fit_104 (by decide) ?_
              refine j_iadd dX8_fit_105 ?_
              refine j_istore_n (L' := [(0, _), (1, _), (2, _), (3, _), (4, _)]) dX8_fit_106 (by decide) rfl ?_
              refine j_aload_n dX8_fit_107 rfl ?_
              refine j_getr dX8_fit_108 hB fl_X8_7 (by first | exact h0.1 | exact h0.2.1 | exact h0.2.2.1 | exact h0.2.2.2.1 | exact h0.2.2.2.2.1 | exact h0.2.2.2.2.2.1 | exact h0.2.2.2.2.2.2.1 | exact h0.2.2.2.2.2.2.2.1 | exact h0.2.2.2.2.2.2.2.2) (by rfl) ?_
              refine j_bipush (v := 67) dX8_fit_111 (by decide) ?_
              refine j_iload_n dX8_fit_113 rfl ?_
              refine j_imul dX8_fit_114 ?_
              refine j_iconst (v := 1) dX8_fit_115 (by decide) ?_
              refine j_iadd dX8_fit_116 ?_
              refine j_iconst (v := 4) dX8_fit_117 (by decide) ?_
              refine j_iload_n dX8_fit_118 rfl ?_
              refine j_imul dX8_fit_119 ?_
              refine j_iadd dX8_fit_120 ?_
              refine j_iconst (v := 2) dX8_fit_121 (by decide) ?_
              refine j_iadd dX8_fit_122 ?_
              refine j_iload dX8_fit_123 rfl ?_
              refine j_sipush (v := 1000) dX8_fit_125 (by decide) ?_
              refine j_idiv dX8_fit_128 (by decide) ?_
              refine m_iast (k := 67 * z + 1 + 4 * j + 2) dX8_fit_129 hB (by first | exact h0.1 | exact h0.2.1 | exact h0.2.2.1 | exact h0.2.2.2.1 | exact h0.2.2.2.2.1 | exact h0.2.2.2.2.2.1 | exact h0.2.2.2.2.2.2.1 | exact h0.2.2.2.2.2.2.2.1 | exact h0.2.2.2.2.2.2.2.2) (ixk (iA (iA (iA (iM (iC 67 (by decide)) (hz) (by omega)) (iC 1 (by decide)) (by omega)) (iM (iC 4 (by decide)) (hi) (by omega)) (by omega)) (iC 2 (by decide)) (by omega)) (by omega)) (by omega) ?_
              refine j_aload_n dX8_fit_130 rfl ?_
              refine j_getr dX8_fit_131 hB fl_X8_7 (by first | exact h0.1 | exact h0.2.1 | exact h0.2.2.1 | exact h0.2.2.2.1 | exact h0.2.2.2.2.1 | exact h0.2.2.2.2.2.1 | exact h0.2.2.2.2.2.2.1 | exact h0.2.2.2.2.2.2.2.1 | exact h0.2.2.2.2.2.2.2.2) (by rfl) ?_
              refine j_bipush (v := 67) dX8_fit_134 (by decide) ?_
              refine j_iload_n dX8_fit_136 rfl ?_
              refine j_imul dX8_fit_137 ?_
              refine j_iconst (v := 1) dX8_fit_138 (by decide) ?_
              refine j_iadd dX8_fit_139 ?_
              refine j_iconst (v := 4) dX8_fit_140 (by decide) ?_
              refine j_iload_n dX8_fit_141 rfl ?_
              refine j_imul dX8_fit_142 ?_
              refine j_iadd dX8_fit_143 ?_
              refine j_iconst (v := 3) dX8_fit_144 (by decide) ?_
              refine j_iadd dX8_fit_145 ?_
              refine j_iload dX8_fit_146 rfl ?_
              refine j_sipush (v := 1000) dX8_fit_148 (by decide) ?_
              refine j_irem dX8_fit_151 (by decide) ?_
              refine m_iast (k := 67 * z + 1 + 4 * j + 3) dX8_fit_152 hB (by first | exact h0.1 | exact h0.2.1 | exact h0.2.2.1 | exact h0.2.2.2.1 | exact h0.2.2.2.2.1 | exact h0.2.2.2.2.2.1 | exact h0.2.2.2.2.2.2.1 | exact h0.2.2.2.2.2.2.2.1 | exact h0.2.2.2.2.2.2.2.2) (ixk (iA (iA (iA (iM (iC 67 (by decide)) (hz) (by omega)) (iC 1 (by decide)) (by omega)) (iM (iC 4 (by decide)) (hi) (by omega)) (by omega)) (iC 3 (by decide)) (by omega)) (by omega)) (by omega) ?_
              generalize hV3 : jset (jset V_70 (q + 1) (67 * z + 1 + 4 * j + 2) (r_70 / 1000)) (q + 1) (67 * z + 1 + 4 * j + 3) (r_70 - r_70 / 1000 * 1000) = V3
              have a3 : jAg V_70 V3 (q + 1) (q + 2) := by rw [← hV3]; exact (jAg.rf.set (by omega) (by omega)).set (by omega) (by omega)
              have zr : ∀ t, ¬ t = 67 * z + 1 + 4 * j + 1 → ¬ t = 67 * z + 1 + 4 * j + 2 → ¬ t = 67 * z + 1 + 4 * j + 3 → V3 (q + 1) t = V_70 (q + 1) t := fun t h7 h8 h9 => by rw [← hV3, jset_ne (Or.inr h9), jset_ne (Or.inr h8)]
              have o1 := ofI_ti hq1
              have o2 := ofI_ti hq2
              have zc : zRl (V3 (q + 1)) (67 * z) (rCue (sR (fitN x.1 r.toInt j).1 r.toInt) j (atZ (sR (fitN x.1 r.toInt j).1 r.toInt).2.1 j) (Int32.ofInt bc.1) (Int32.ofInt bc.2.1)) := by
                refine hr2.cue hrj hjl ?_ (fun _ => ⟨?_, ?_⟩) zr
                · rw [← hV3, jset_ne (Or.inr (by omega)), jset_ne (Or.inr (by omega))]; exact (hr2.2.1 j hjl).2.1
                · rw [← o1, ← hV3, jset_ne (Or.inr (by omega)), jset_eq]
                · rw [← o2, ← hV3, jset_eq]
              have hm2 := hm.kp a2.kp
              have zz := hm2.2.1.set e1 z3 (Z' := V3 (q + 1)) (fun i9 hi9 => zr i9 (by omega) (by omega) (by omega)) zc
              have es : (fitN x.1 r.toInt (j + 1)).1 = sSet (fitN x.1 r.toInt j).1 r.toInt (rCue (sR (fitN x.1 r.toInt j).1 r.toInt) j (atZ (sR (fitN x.1 r.toInt j).1 r.toInt).2.1 j) (Int32.ofInt bc.1) (Int32.ofInt bc.2.1)) := by
                rw [ef, ← hbc]
                rfl
              have h4 : moIs T V3 q ((fitN x.1 r.toInt (j + 1)).1, xPush x, x.2.2) := by
                have := hm2.z a3 zz
                rw [← hz, ← es] at this
                exact this
              have er : sR (fitN x.1 r.toInt (j + 1)).1 r.toInt = rCue (sR (fitN x.1 r.toInt j).1 r.toInt) j (atZ (sR (fitN x.1 r.toInt j).1 r.toInt).2.1 j) (Int32.ofInt bc.1) (Int32.ofInt bc.2.1) := by rw [es, sR_set]
              have hl4 : lyE V3 q (fitN x.1 r.toInt (j + 1)).1 (sR (fitN x.1 r.toInt (j + 1)).1 r.toInt) 0 j := by
                rw [er, es]
                refine lyE_cue ⟨by have := hrj.1; omega, by have := hrj.2.1; omega, by have := hrj.2.2.1; omega⟩ ?_
                have g := hl
                unfold lyE lyB at g ⊢
                rw [a3 (q + 4) (by omega), a3 (q + 5) (by omega), a3 (q + 7) (by omega), a2.1 (q + 4) (by omega), a2.1 (q + 5) (by omega), a2.1 (q + 7) (by omega)]
                exact g
              have hjl4 : j < (sR (fitN x.1 r.toInt (j + 1)).1 r.toInt).1.length := by rw [er]; exact hjl
              have hW4 : stW (fitN x.1 r.toInt (j + 1)).1 := (fitN_W hW.1 (z := r.toInt) (j + 1) (by show j + 1 ≤ (xR x r).1.length; omega)).1
              refine j_aload_n dX8_fit_153 rfl ?_
              refine j_iload_n dX8_fit_154 rfl ?_
              refine j_iload_n dX8_fit_155 rfl ?_
              refine j_cVu dX8_fit_156 hB mo_X8_layCue ml_X8_73 (sp_X8_layCue hB h0 hz z3 h4 hW4 hi hjl4 (Or.inl rfl) hl4.1.1 (fun a h9 => hl4.2 a h9)) (by first | exact h0.1 | exact h0.2.1 | exact h0.2.2.1 | exact h0.2.2.2.1 | exact h0.2.2.2.2.1 | exact h0.2.2.2.2.2.1 | exact h0.2.2.2.2.2.2.1 | exact h0.2.2.2.2.2.2.2.1 | exact h0.2.2.2.2.2.2.2.2) rfl rfl rfl rfl ⟨rfl, rfl, by decide, by decide⟩ (Nat.le_of_ble_eq_true rfl) ⟨by decide, by decide⟩ (fun V_156 h_156 => ?_)
              obtain ⟨cb, ce, hV5, g1, g2⟩ := h_156
              refine j_iinc (v := 1) (L' := [(0, _), (1, _), (2, _), (3, _), (4, _)]) dX8_fit_159 rfl (by decide) (by decide) rfl ?_
              refine j_goto (tgt := 39) dX8_fit_162 (by decide) ?_
              refine j_sub2 (L' := [(0, _), (1, _), (2, _), (3, _)]) (List.forall_mem_cons.mpr ⟨rfl, List.forall_mem_cons.mpr ⟨rfl, List.forall_mem_cons.mpr ⟨rfl, List.forall_mem_cons.mpr ⟨rfl, fun _ h9 => nomatch h9⟩⟩⟩⟩) ?_
              refine ih (n - 1) (by omega) (j + 1) _ _ _ (by omega) ?_ ?_ ?_ ?_ ?_ ?_ ?_
              · exact (ixk (k := j + 1) (iA (hi) (iC 1 (by decide)) (by omega)) (by omega))
              · rw [ef]
                show _ = (fitN x.1 r.toInt j).2 + (fitS (fitN x.1 r.toInt j).1 r.toInt j).2
                rw [ef2, if_neg (by omega)]
                exact (iA (hy) (iC 1 (by decide)) (by omega))
              · rw [hV5]
                exact h4.kp (mKp.ag ((jAg.rf.set (by omega) (by omega)).set (by omega) (by omega) : jAg V3 _ (q + 6) (q + 8)) (by omega) (by omega))
              · rw [hV5]
                refine ⟨⟨fun a h9 => ?_, fun a h9 => ?_⟩, fun a h9 => ?_⟩
                · rw [jset_row (by omega), jset_row (by omega)]; exact hl4.1.1 a h9
                · rw [jset_row (by omega), jset_row (by omega)]; exact hl4.1.2 a h9
                · rcases Nat.lt_or_ge a j with g | g
                  · rw [jset_ne (Or.inr (by omega)), jset_row (by omega)]; exact hl4.2 a g
                  · have : a = j := by omega
                    subst this
                    rw [jset_eq]
                    exact g2
              · intro k9 h8 h9 h7
                rw [hV5, jset_ne (Or.inr (by omega)), jset_row (by omega), a3 (q + 7) (by omega), a2.1 (q + 7) (by omega)]
                exact hz7 k9 (by omega) h9 h7
              · rw [hV5]
                exact (((ha.tr a2.kp.ja).tr (a3.wide (by omega) (by omega))).set (by omega) (by omega)).set (by omega) (by omega)
              · rw [hV5, jset_row (by omega), jset_row (by omega), a3 q (by omega), a2.2 0 (by omega)]; exact ht
            · refine j_iconst (v := 0) dX8_fit_100 (by decide) ?_
              refine j_goto (tgt := 105) dX8_fit_101 (by decide) ?_
              refine j_iadd dX8_fit_105 ?_
              refine j_istore_n (L' := [(0, _), (1, _), (2, _), (3, _), (4, _)]) dX8_fit_106 (by decide) rfl ?_
              refine j_aload_n dX8_fit_107 rfl ?_
              refine j_getr dX8_fit_108 hB fl_X8_7 (by first | exact h0.1 | exact h0.2.1 | exact h0.2.2.1 | exact h0.2.2.2.1 | exact h0.2.2.2.2.1 | exact h0.2.2.2.2.2.1 | exact h0.2.2.2.2.2.2.1 | exact h0.2.2.2.2.2.2.2.1 | exact h0.2.2.2.2.2.2.2.2) (by rfl) ?_
              refine j_bipush (v := 67) dX8_fit_111 (by decide) ?_
              refine j_iload_n dX8_fit_113 rfl ?_
              refine j_imul dX8_fit_114 ?_
              refine j_iconst (v := 1) dX8_fit_115 (by decide) ?_
              refine j_iadd dX8_fit_116 ?_
              refine j_iconst (v := 4) dX8_fit_117 (by decide) ?_
              refine j_iload_n dX8_fit_118 rfl ?_
              refine j_imul dX8_fit_119 ?_
              refine j_iadd dX8_fit_120 ?_
              refine j_iconst (v := 2) dX8_fit_121 (by decide) ?_
              refine j_iadd dX8_fit_122 ?_
              refine j_iload dX8_fit_123 rfl ?_
              refine j_sipush (v := 1000) dX8_fit_125 (by decide) ?_
              refine j_idiv dX8_fit_128 (by decide) ?_
              refine m_iast (k := 67 * z + 1 + 4 * j + 2) dX8_fit_129 hB (by first | exact h0.1 | exact h0.2.1 | exact h0.2.2.1 | exact h0.2.2.2.1 | exact h0.2.2.2.2.1 | exact h0.2.2.2.2.2.1 | exact h0.2.2.2.2.2.2.1 | exact h0.2.2.2.2.2.2.2.1 | exact h0.2.2.2.2.2.2.2.2) (ixk (iA (iA (iA (iM (iC 67 (by decide)) (hz) (by omega)) (iC 1 (by decide)) (by omega)) (iM (iC 4 (by decide)) (hi) (by omega)) (by omega)) (iC 2 (by decide)) (by omega)) (by omega)) (by omega) ?_
              refine j_aload_n dX8_fit_130 rfl ?_
              refine j_getr dX8_fit_131 hB fl_X8_7 (by first | exact h0.1 | exact h0.2.1 | exact h0.2.2.1 | exact h0.2.2.2.1 | exact h0.2.2.2.2.1 | exact h0.2.2.2.2.2.1 | exact h0.2.2.2.2.2.2.1 | exact h0.2.2.2.2.2.2.2.1 | exact h0.2.2.2.2.2.2.2.2) (by rfl) ?_
              refine j_bipush (v := 67) dX8_fit_134 (by decide) ?_
              refine j_iload_n dX8_fit_136 rfl ?_
              refine j_imul dX8_fit_137 ?_
              refine j_iconst (v := 1) dX8_fit_138 (by decide) ?_
              refine j_iadd dX8_fit_139 ?_
              refine j_iconst (v := 4) dX8_fit_140 (by decide) ?_
              refine j_iload_n dX8_fit_141 rfl ?_
              refine j_imul dX8_fit_142 ?_
              refine j_iadd dX8_fit_143 ?_
              refine j_iconst (v := 3) dX8_fit_144 (by decide) ?_
              refine j_iadd dX8_fit_145 ?_
              refine j_iload dX8_fit_146 rfl ?_
              refine j_sipush (v := 1000) dX8_fit_148 (by decide) ?_
              refine j_irem dX8_fit_151 (by decide) ?_
              refine m_iast (k := 67 * z + 1 + 4 * j + 3) dX8_fit_152 hB (by first | exact h0.1 | exact h0.2.1 | exact h0.2.2.1 | exact h0.2.2.2.1 | exact h0.2.2.2.2.1 | exact h0.2.2.2.2.2.1 | exact h0.2.2.2.2.2.2.1 | exact h0.2.2.2.2.2.2.2.1 | exact h0.2.2.2.2.2.2.2.2) (ixk (iA (iA (iA (iM (iC 67 (by decide)) (hz) (by omega)) (iC 1 (by decide)) (by omega)) (iM (iC 4 (by decide)) (hi) (by omega)) (by omega)) (iC 3 (by decide)) (by omega)) (by omega)) (by omega) ?_
              generalize hV3 : jset (jset V_70 (q + 1) (67 * z + 1 + 4 * j + 2) (r_70 / 1000)) (q + 1) (67 * z + 1 + 4 * j + 3) (r_70 - r_70 / 1000 * 1000) = V3
              have a3 : jAg V_70 V3 (q + 1) (q + 2) := by rw [← hV3]; exact (jAg.rf.set (by omega) (by omega)).set (by omega) (by omega)
              have zr : ∀ t, ¬ t = 67 * z + 1 + 4 * j + 1 → ¬ t = 67 * z + 1 + 4 * j + 2 → ¬ t = 67 * z + 1 + 4 * j + 3 → V3 (q + 1) t = V_70 (q + 1) t := fun t h7 h8 h9 => by rw [← hV3, jset_ne (Or.inr h9), jset_ne (Or.inr h8)]
              have o1 := ofI_ti hq1
              have o2 := ofI_ti hq2
              have zc : zRl (V3 (q + 1)) (67 * z) (rCue (sR (fitN x.1 r.toInt j).1 r.toInt) j (atZ (sR (fitN x.1 r.toInt j).1 r.toInt).2.1 j) (Int32.ofInt bc.1) (Int32.ofInt bc.2.1)) := by
                refine hr2.cue hrj hjl ?_ (fun _ => ⟨?_, ?_⟩) zr
                · rw [← hV3, jset_ne (Or.inr (by omega)), jset_ne (Or.inr (by omega))]; exact (hr2.2.1 j hjl).2.1
                · rw [← o1, ← hV3, jset_ne (Or.inr (by omega)), jset_eq]
                · rw [← o2, ← hV3, jset_eq]
              have hm2 := hm.kp a2.kp
              have zz := hm2.2.1.set e1 z3 (Z' := V3 (q + 1)) (fun i9 hi9 => zr i9 (by omega) (by omega) (by omega)) zc
              have es : (fitN x.1 r.toInt (j + 1)).1 = sSet (fitN x.1 r.toInt j).1 r.toInt (rCue (sR (fitN x.1 r.toInt j).1 r.toInt) j (atZ (sR (fitN x.1 r.toInt j).1 r.toInt).2.1 j) (Int32.ofInt bc.1) (Int32.ofInt bc.2.1)) := by
                rw [ef, ← hbc]
                rfl
              have h4 : moIs T V3 q ((fitN x.1 r.toInt (j + 1)).1, xPush x, x.2.2) := by
                have := hm2.z a3 zz
                rw [← hz, ← es] at this
                exact this
              have er : sR (fitN x.1 r.toInt (j + 1)).1 r.toInt = rCue (sR (fitN x.1 r.toInt j).1 r.toInt) j (atZ (sR (fitN x.1 r.toInt j).1 r.toInt).2.1 j) (Int32.ofInt bc.1) (Int32.ofInt bc.2.1) := by rw [es, sR_set]
              have hl4 : lyE V3 q (fitN x.1 r.toInt (j + 1)).1 (sR (fitN x.1 r.toInt (j + 1)).1 r.toInt) 0 j := by
                rw [er, es]
                refine lyE_cue ⟨by have := hrj.1; omega, by have := hrj.2.1; omega, by have := hrj.2.2.1; omega⟩ ?_
                have g := hl
                unfold lyE lyB at g ⊢
                rw [a3 (q + 4) (by omega), a3 (q + 5) (by omega), a3 (q + 7) (by omega), a2.1 (q + 4) (by omega), a2.1 (q + 5) (by omega), a2.1 (q + 7) (by omega)]
                exact g
              have hjl4 : j < (sR (fitN x.1 r.toInt (j + 1)).1 r.toInt).1.length := by rw [er]; exact hjl
              have hW4 : stW (fitN x.1 r.toInt (j + 1)).1 := (fitN_W hW.1 (z := r.toInt) (j + 1) (by show j + 1 ≤ (xR x r).1.length; omega)).1
              refine j_aload_n dX8_fit_153 rfl ?_
              refine j_iload_n dX8_fit_154 rfl ?_
              refine j_iload_n dX8_fit_155 rfl ?_
              refine j_cVu dX8_fit_156 hB mo_X8_layCue ml_X8_73 (sp_X8_layCue hB h0 hz z3 h4 hW4 hi hjl4 (Or.inl rfl) hl4.1.1 (fun a h9 => hl4.2 a h9)) (by first | exact h0.1 | exact h0.2.1 | exact h0.2.2.1 | exact h0.2.2.2.1 | exact h0.2.2.2.2.1 | exact h0.2.2.2.2.2.1 | exact h0.2.2.2.2.2.2.1 | exact h0.2.2.2.2.2.2.2.1 | exact h0.2.2.2.2.2.2.2.2) rfl rfl rfl rfl ⟨rfl, rfl, by decide, by decide⟩ (Nat.le_of_ble_eq_true rfl) ⟨by decide, by decide⟩ (fun V_156 h_156 => ?_)
              obtain ⟨cb, ce, hV5, g1, g2⟩ := h_156
              refine j_iinc (v := 1) (L' := [(0, _), (1, _), (2, _), (3, _), (4, _)]) dX8_fit_159 rfl (by decide) (by decide) rfl ?_
              refine j_goto (tgt := 39) dX8_fit_162 (by decide) ?_
              refine j_sub2 (L' := [(0, _), (1, _), (2, _), (3, _)]) (List.forall_mem_cons.mpr ⟨rfl, List.forall_mem_cons.mpr ⟨rfl, List.forall_mem_cons.mpr ⟨rfl, List.forall_mem_cons.mpr ⟨rfl, fun _ h9 => nomatch h9⟩⟩⟩⟩) ?_
              refine ih (n - 1) (by omega) (j + 1) _ _ _ (by omega) ?_ ?_ ?_ ?_ ?_ ?_ ?_
              · exact (ixk (k := j + 1) (iA (hi) (iC 1 (by decide)) (by omega)) (by omega))
              · rw [ef]
                show _ = (fitN x.1 r.toInt j).2 + (fitS (fitN x.1 r.toInt j).1 r.toInt j).2
                rw [ef2, if_pos (by omega)]
                exact (iA (hy) (iC 0 (by decide)) (by omega))
              · rw [hV5]
                exact h4.kp (mKp.ag ((jAg.rf.set (by omega) (by omega)).set (by omega) (by omega) : jAg V3 _ (q + 6) (q + 8)) (by omega) (by omega))
              · rw [hV5]
                refine ⟨⟨fun a h9 => ?_, fun a h9 => ?_⟩, fun a h9 => ?_⟩
                · rw [jset_row (by omega), jset_row (by omega)]; exact hl4.1.1 a h9
                · rw [jset_row (by omega), jset_row (by omega)]; exact hl4.1.2 a h9
                · rcases Nat.lt_or_ge a j with g | g
                  · rw [jset_ne (Or.inr (by omega)), jset_row (by omega)]; exact hl4.2 a g
                  · have : a = j := by omega
                    subst this
                    rw [jset_eq]
                    exact g2
              · intro k9 h8 h9 h7
                rw [hV5, jset_ne (Or.inr (by omega)), jset_row (by omega), a3 (q + 7) (by omega), a2.1 (q + 7) (by omega)]
                exact hz7 k9 (by omega) h9 h7
              · rw [hV5]
                exact (((ha.tr a2.kp.ja).tr (a3.wide (by omega) (by omega))).set (by omega) (by omega)).set (by omega) (by omega)
              · rw [hV5, jset_row (by omega), jset_row (by omega), a3 q (by omega), a2.2 0 (by omega)]; exact ht
      refine loop (xR x r).1.length 0 0 0 V_32 (by omega) rfl rfl h4 (gL.le (Nat.zero_le _)).e (fun k9 _ h9 h7 => (gL.2 k9 h9).2.trans (aEnd_0 h7)) ((a1.tr aS).tr (aL.wide (by omega) (by omega))) ?_
      rw [aL q (by omega), tS]; exact t1
    · exact absurd c_20 (by decide)
end JM11
