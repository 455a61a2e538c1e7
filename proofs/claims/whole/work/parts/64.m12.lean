/-! CueSheetsModel: the public methods that only answer -/
def mCF (T : jT) (V : jV) (X : jX) (sz q : Nat) (e : Nat) (v : UInt32) (x : aX) : jQ := qF T X sz (fun r V' => jAg V V' q (q + 9) ∧ isI (V' q 0) e ∧ (e = 0 → r = v) ∧ moIs T V' q x)
def mCD (T : jT) (V : jV) (X : jX) (sz q : Nat) (e : Nat) (v : UInt64) (x : aX) : jQ := qD T X sz (fun r V' => jAg V V' q (q + 9) ∧ isI (V' q 0) e ∧ (e = 0 → r = v) ∧ moIs T V' q x)
section JM12
variable {l : Launch} {s0 : State} {D : jD} {T : jT} {V : jV} {X : jX} {sz : Nat}
set_option maxRecDepth 100000 in
set_option maxHeartbeats 4000000 in
theorem sp_X8_scene (hB : jB l s0 D) {q : Nat} (h0 : moT T q) {x : aX} (h : moIs T V q x) (hW : xW x) {r s w : Int32} : Sp l s0 D kX8_scene (jR 4 0 0) 0 0 [.ref q, .int r, .int s, .int w] T V X sz (mC T V X sz q (e_scene x r s w) (fun y => isI y (scP x.1 (xR x r) s.toInt.toNat w.toInt)) x (x)) := by
  refine Sp.of pn_X8_scene rfl (Nat.le_of_ble_eq_true rfl) ?_
  refine j_aload_n dX8_scene_0 rfl ?_
  refine j_aload_n dX8_scene_1 rfl ?_
  refine j_iload_n dX8_scene_2 rfl ?_
  refine j_iload_n dX8_scene_3 rfl ?_
  refine j_cVi dX8_scene_4 hB mo_X8_isScene ml_X8_98 (sp_X8_isScene hB h0 h hW.1) (by first | exact h0.1 | exact h0.2.1 | exact h0.2.2.1 | exact h0.2.2.2.1 | exact h0.2.2.2.2.1 | exact h0.2.2.2.2.2.1 | exact h0.2.2.2.2.2.2.1 | exact h0.2.2.2.2.2.2.2.1 | exact h0.2.2.2.2.2.2.2.2) rfl rfl rfl rfl ⟨rfl, rfl, by decide, by decide⟩ (Nat.le_of_ble_eq_true rfl) ⟨by decide, by decide⟩ (fun r_4 V_4 h_4 => ?_)
  obtain ⟨rfl, b_4⟩ := h_4
  refine m_ifneB (tgt := 14) dX8_scene_7 (by decide) b_4 (fun c_7 => ?_) (fun c_7 => ?_)
  · obtain ⟨z, hz, z3⟩ := rOk.z c_7.1
    have hr0 := h.r hz z3
    have hrl : rlW x.1 (xR x r) := hW.1.r r.toInt
    have h10 : (xR x r).1.length ≤ 10 := hrl.2.2.2.1
    obtain ⟨kk, hkk, hkl⟩ : ∃ kk : Nat, s.toInt = kk ∧ kk < (xR x r).1.length := ⟨s.toInt.toNat, by have := c_7.2; omega, by have := c_7.2; omega⟩
    have hks : s.toInt.toNat = kk := by omega
    refine j_iload_n dX8_scene_14 rfl ?_
    refine j_iconst (v := 0) dX8_scene_15 (by decide) ?_
    refine j_bipush (v := 11) dX8_scene_16 (by decide) ?_
    refine j_cSi dX8_scene_18 hB mo_X8_within ml_X8_38 (sp_X8_within hB  (iV) (iC 0 (by decide)) (iC 11 (by decide))) rfl rfl ⟨rfl, rfl, by decide, by decide⟩ (Nat.le_of_ble_eq_true rfl) ⟨by decide, by decide⟩ (fun r_18 V_18 h_18 => ?_)
    obtain ⟨rfl, b_18⟩ := h_18
    replace b_18 : bQ _ (inR w 0 11) := b_18.cg (by omega)
    refine m_ifeqB (tgt := 28) dX8_scene_21 (by decide) b_18 (fun c_21 => ?_) (fun c_21 => ?_)
    · refine j_iconst (v := 2) dX8_scene_28 (by decide) ?_
      refine j_puti dX8_scene_29 hB fp_X8_scene_34 (by first | exact h0.1 | exact h0.2.1 | exact h0.2.2.1 | exact h0.2.2.2.1 | exact h0.2.2.2.2.1 | exact h0.2.2.2.2.2.1 | exact h0.2.2.2.2.2.2.1 | exact h0.2.2.2.2.2.2.2.1 | exact h0.2.2.2.2.2.2.2.2) (by rfl) ?_
      generalize hV1 : jset V q 0 2 = V1
      have t1 : isI (V1 q 0) 2 := by rw [← hV1, jset_eq]; decide
      have a1 : jAg V V1 q (q + 9) := by rw [← hV1]; exact jAg.rf.set (by omega) (by omega)
      have h1 : moIs T V1 q x := by rw [← hV1]; exact h.f (by decide) (by decide)
      refine j_aload_n dX8_scene_32 rfl ?_
      refine j_geti dX8_scene_33 hB fl_X8_34 (by first | exact h0.1 | exact h0.2.1 | exact h0.2.2.1 | exact h0.2.2.2.1 | exact h0.2.2.2.2.1 | exact h0.2.2.2.2.2.1 | exact h0.2.2.2.2.2.2.1 | exact h0.2.2.2.2.2.2.2.1 | exact h0.2.2.2.2.2.2.2.2) (by rfl) ?_
      refine m_if_le (tgt := 41) dX8_scene_36 (by decide) (t1) (fun c_36 => ?_) (fun c_36 => ?_)
      · exact absurd c_36 (by decide)
      · refine j_iconst (v := 0) dX8_scene_39 (by decide) ?_
        refine j_iret dX8_scene_40 rfl (rfl) (by decide) (by decide) ?_
        exact mC.thr 1 (by show e_scene x r s w = 2; unfold e_scene; exact ((if_neg (fun z => z c_7)).trans (if_pos c_21))) a1 t1 rfl h1
    · refine j_iconst (v := 0) dX8_scene_24 (by decide) ?_
      refine j_goto (tgt := 29) dX8_scene_25 (by decide) ?_
      refine j_puti dX8_scene_29 hB fp_X8_scene_34 (by first | exact h0.1 | exact h0.2.1 | exact h0.2.2.1 | exact h0.2.2.2.1 | exact h0.2.2.2.2.1 | exact h0.2.2.2.2.2.1 | exact h0.2.2.2.2.2.2.1 | exact h0.2.2.2.2.2.2.2.1 | exact h0.2.2.2.2.2.2.2.2) (by rfl) ?_
      generalize hV1 : jset V q 0 0 = V1
      have t1 : isI (V1 q 0) 0 := by rw [← hV1, jset_eq]; decide
      have a1 : jAg V V1 q (q + 9) := by rw [← hV1]; exact jAg.rf.set (by omega) (by omega)
      have h1 : moIs T V1 q x := by rw [← hV1]; exact h.f (by decide) (by decide)
      refine j_aload_n dX8_scene_32 rfl ?_
      refine j_geti dX8_scene_33 hB fl_X8_34 (by first | exact h0.1 | exact h0.2.1 | exact h0.2.2.1 | exact h0.2.2.2.1 | exact h0.2.2.2.2.1 | exact h0.2.2.2.2.2.1 | exact h0.2.2.2.2.2.2.1 | exact h0.2.2.2.2.2.2.2.1 | exact h0.2.2.2.2.2.2.2.2) (by rfl) ?_
      refine m_if_le (tgt := 41) dX8_scene_36 (by decide) (t1) (fun c_36 => ?_) (fun c_36 => ?_)
      · refine j_aload_n dX8_scene_41 rfl ?_
        refine j_iload_n dX8_scene_42 rfl ?_
        refine j_iconst (v := 0) dX8_scene_43 (by decide) ?_
        refine j_cVu dX8_scene_44 hB mo_X8_lay ml_X8_113 (sp_X8_lay hB h0 hz z3 h1 hW.1 (Or.inl rfl)) (by first | exact h0.1 | exact h0.2.1 | exact h0.2.2.1 | exact h0.2.2.2.1 | exact h0.2.2.2.2.1 | exact h0.2.2.2.2.2.1 | exact h0.2.2.2.2.2.2.1 | exact h0.2.2.2.2.2.2.2.1 | exact h0.2.2.2.2.2.2.2.2) rfl rfl rfl rfl ⟨rfl, rfl, by decide, by decide⟩ (Nat.le_of_ble_eq_true rfl) ⟨by decide, by decide⟩ (fun V_44 h_44 => ?_)
        obtain ⟨gL, aL⟩ := h_44
        have h2 : moIs T V_44 q x := h1.kp (mKp.ag aL (by omega) (by omega))
        have a2 : jAg V V_44 q (q + 9) := a1.tr (aL.wide (by omega) (by omega))
        have t2 : isI (V_44 q 0) 0 := by rw [aL q (by omega)]; exact t1
        refine j_aload_n dX8_scene_47 rfl ?_
        refine j_iload_n dX8_scene_48 rfl ?_
        refine j_iload_n dX8_scene_49 rfl ?_
        refine j_iload_n dX8_scene_50 rfl ?_
        refine j_cVi dX8_scene_51 hB mo_X8_sceneNow ml_X8_164 (sp_X8_sceneNow hB h0 hz z3 h2 hW.1 hkk hkl gL hkl c_21.1 c_21.2) (by first | exact h0.1 | exact h0.2.1 | exact h0.2.2.1 | exact h0.2.2.2.1 | exact h0.2.2.2.2.1 | exact h0.2.2.2.2.2.1 | exact h0.2.2.2.2.2.2.1 | exact h0.2.2.2.2.2.2.2.1 | exact h0.2.2.2.2.2.2.2.2) rfl rfl rfl rfl ⟨rfl, rfl, by decide, by decide⟩ (Nat.le_of_ble_eq_true rfl) ⟨by decide, by decide⟩ (fun r_51 V_51 h_51 => ?_)
        obtain ⟨rfl, h_51⟩ := h_51
        refine j_iret dX8_scene_54 rfl (rfl) (by decide) (by decide) ?_
        exact mC.ret (by show e_scene x r s w = 0; unfold e_scene; exact ((if_neg (fun z => z c_7)).trans (if_neg (fun z => z c_21)))) a2 t2 (by rw [hks]; exact h_51) h2
      · exact absurd c_36 (by decide)
  · refine j_iconst (v := 1) dX8_scene_10 (by decide) ?_
    refine j_goto (tgt := 29) dX8_scene_11 (by decide) ?_
    refine j_puti dX8_scene_29 hB fp_X8_scene_34 (by first | exact h0.1 | exact h0.2.1 | exact h0.2.2.1 | exact h0.2.2.2.1 | exact h0.2.2.2.2.1 | exact h0.2.2.2.2.2.1 | exact h0.2.2.2.2.2.2.1 | exact h0.2.2.2.2.2.2.2.1 | exact h0.2.2.2.2.2.2.2.2) (by rfl) ?_
    generalize hV1 : jset V q 0 1 = V1
    have t1 : isI (V1 q 0) 1 := by rw [← hV1, jset_eq]; decide
    have a1 : jAg V V1 q (q + 9) := by rw [← hV1]; exact jAg.rf.set (by omega) (by omega)
    have h1 : moIs T V1 q x := by rw [← hV1]; exact h.f (by decide) (by decide)
    refine j_aload_n dX8_scene_32 rfl ?_
    refine j_geti dX8_scene_33 hB fl_X8_34 (by first | exact h0.1 | exact h0.2.1 | exact h0.2.2.1 | exact h0.2.2.2.1 | exact h0.2.2.2.2.1 | exact h0.2.2.2.2.2.1 | exact h0.2.2.2.2.2.2.1 | exact h0.2.2.2.2.2.2.2.1 | exact h0.2.2.2.2.2.2.2.2) (by rfl) ?_
    refine m_if_le (tgt := 41) dX8_scene_36 (by decide) (t1) (fun c_36 => ?_) (fun c_36 => ?_)
    · exact absurd c_36 (by decide)
    · refine j_iconst (v := 0) dX8_scene_39 (by decide) ?_
      refine j_iret dX8_scene_40 rfl (rfl) (by decide) (by decide) ?_
      exact mC.thr 0 (by show e_scene x r s w = 1; unfold e_scene; exact (if_pos c_7)) a1 t1 rfl h1
set_option maxRecDepth 100000 in
set_option maxHeartbeats 4000000 in
theorem sp_X8_reel (hB : jB l s0 D) {q : Nat} (h0 : moT T q) {x : aX} (h : moIs T V q x) (hW : xW x) {r w : Int32} : Sp l s0 D kX8_reel (jR 5 0 0) 0 0 [.ref q, .int r, .int w] T V X sz (mC T V X sz q (e_reel r w) (fun y => isI y (rlP x.1 (xR x r) w.toInt)) x (x)) := by
  refine Sp.of pn_X8_reel rfl (Nat.le_of_ble_eq_true rfl) ?_
  refine j_aload_n dX8_reel_0 rfl ?_
  refine j_iload_n dX8_reel_1 rfl ?_
  refine j_cSi dX8_reel_2 hB mo_X8_isReel ml_X8_42 (sp_X8_isReel hB) rfl rfl ⟨rfl, rfl, by decide, by decide⟩ (Nat.le_of_ble_eq_true rfl) ⟨by decide, by decide⟩ (fun r_2 V_2 h_2 => ?_)
  obtain ⟨rfl, b_2⟩ := h_2
  refine m_ifneB (tgt := 12) dX8_reel_5 (by decide) b_2 (fun c_5 => ?_) (fun c_5 => ?_)
  · obtain ⟨z, hz, z3⟩ := rOk.z c_5
    have hr0 := h.r hz z3
    have hrl : rlW x.1 (xR x r) := hW.1.r r.toInt
    have h10 : (xR x r).1.length ≤ 10 := hrl.2.2.2.1
    refine j_iload_n dX8_reel_12 rfl ?_
    refine j_iconst (v := 0) dX8_reel_13 (by decide) ?_
    refine j_bipush (v := 10) dX8_reel_14 (by decide) ?_
    refine j_cSi dX8_reel_16 hB mo_X8_within ml_X8_38 (sp_X8_within hB  (iV) (iC 0 (by decide)) (iC 10 (by decide))) rfl rfl ⟨rfl, rfl, by decide, by decide⟩ (Nat.le_of_ble_eq_true rfl) ⟨by decide, by decide⟩ (fun r_16 V_16 h_16 => ?_)
    obtain ⟨rfl, b_16⟩ := h_16
    replace b_16 : bQ _ (inR w 0 10) := b_16.cg (by omega)
    refine m_ifeqB (tgt := 26) dX8_reel_19 (by decide) b_16 (fun c_19 => ?_) (fun c_19 => ?_)
    · refine j_iconst (v := 2) dX8_reel_26 (by decide) ?_
      refine j_puti dX8_reel_27 hB fp_X8_reel_34 (by first | exact h0.1 | exact h0.2.1 | exact h0.2.2.1 | exact h0.2.2.2.1 | exact h0.2.2.2.2.1 | exact h0.2.2.2.2.2.1 | exact h0.2.2.2.2.2.2.1 | exact h0.2.2.2.2.2.2.2.1 | exact h0.2.2.2.2.2.2.2.2) (by rfl) ?_
      generalize hV1 : jset V q 0 2 = V1
      have t1 : isI (V1 q 0) 2 := by rw [← hV1, jset_eq]; decide
      have a1 : jAg V V1 q (q + 9) := by rw [← hV1]; exact jAg.rf.set (by omega) (by omega)
      have h1 : moIs T V1 q x := by rw [← hV1]; exact h.f (by decide) (by decide)
      refine j_aload_n dX8_reel_30 rfl ?_
      refine j_geti dX8_reel_31 hB fl_X8_34 (by first | exact h0.1 | exact h0.2.1 | exact h0.2.2.1 | exact h0.2.2.2.1 | exact h0.2.2.2.2.1 | exact h0.2.2.2.2.2.1 | exact h0.2.2.2.2.2.2.1 | exact h0.2.2.2.2.2.2.2.1 | exact h0.2.2.2.2.2.2.2.2) (by rfl) ?_
      refine m_if_le (tgt := 39) dX8_reel_34 (by decide) (t1) (fun c_34 => ?_) (fun c_34 => ?_)
      · exact absurd c_34 (by decide)
      · refine j_iconst (v := 0) dX8_reel_37 (by decide) ?_
        refine j_iret dX8_reel_38 rfl (rfl) (by decide) (by decide) ?_
        exact mC.thr 1 (by show e_reel r w = 2; unfold e_reel; exact ((if_neg (fun z => z c_5)).trans (if_pos c_19))) a1 t1 rfl h1
    · refine j_iconst (v := 0) dX8_reel_22 (by decide) ?_
      refine j_goto (tgt := 27) dX8_reel_23 (by decide) ?_
      refine j_puti dX8_reel_27 hB fp_X8_reel_34 (by first | exact h0.1 | exact h0.2.1 | exact h0.2.2.1 | exact h0.2.2.2.1 | exact h0.2.2.2.2.1 | exact h0.2.2.2.2.2.1 | exact h0.2.2.2.2.2.2.1 | exact h0.2.2.2.2.2.2.2.1 | exact h0.2.2.2.2.2.2.2.2) (by rfl) ?_
      generalize hV1 : jset V q 0 0 = V1
      have t1 : isI (V1 q 0) 0 := by rw [← hV1, jset_eq]; decide
      have a1 : jAg V V1 q (q + 9) := by rw [← hV1]; exact jAg.rf.set (by omega) (by omega)
      have h1 : moIs T V1 q x := by rw [← hV1]; exact h.f (by decide) (by decide)
      refine j_aload_n dX8_reel_30 rfl ?_
      refine j_geti dX8_reel_31 hB fl_X8_34 (by first | exact h0.1 | exact h0.2.1 | exact h0.2.2.1 | exact h0.2.2.2.1 | exact h0.2.2.2.2.1 | exact h0.2.2.2.2.2.1 | exact h0.2.2.2.2.2.2.1 | exact h0.2.2.2.2.2.2.2.1 | exact h0.2.2.2.2.2.2.2.2) (by rfl) ?_
      refine m_if_le (tgt := 39) dX8_reel_34 (by decide) (t1) (fun c_34 => ?_) (fun c_34 => ?_)
      · refine j_aload_n dX8_reel_39 rfl ?_
        refine j_iload_n dX8_reel_40 rfl ?_
        refine j_iconst (v := 0) dX8_reel_41 (by decide) ?_
        refine j_cVu dX8_reel_42 hB mo_X8_lay ml_X8_113 (sp_X8_lay hB h0 hz z3 h1 hW.1 (Or.inl rfl)) (by first | exact h0.1 | exact h0.2.1 | exact h0.2.2.1 | exact h0.2.2.2.1 | exact h0.2.2.2.2.1 | exact h0.2.2.2.2.2.1 | exact h0.2.2.2.2.2.2.1 | exact h0.2.2.2.2.2.2.2.1 | exact h0.2.2.2.2.2.2.2.2) rfl rfl rfl rfl ⟨rfl, rfl, by decide, by decide⟩ (Nat.le_of_ble_eq_true rfl) ⟨by decide, by decide⟩ (fun V_42 h_42 => ?_)
        obtain ⟨gL, aL⟩ := h_42
        have h2 : moIs T V_42 q x := h1.kp (mKp.ag aL (by omega) (by omega))
        have a2 : jAg V V_42 q (q + 9) := a1.tr (aL.wide (by omega) (by omega))
        have t2 : isI (V_42 q 0) 0 := by rw [aL q (by omega)]; exact t1
        refine j_aload_n dX8_reel_45 rfl ?_
        refine j_iload_n dX8_reel_46 rfl ?_
        refine j_iload_n dX8_reel_47 rfl ?_
        refine j_cVi dX8_reel_48 hB mo_X8_reelNow ml_X8_185 (sp_X8_reelNow hB h0 hz z3 h2 hW.1 gL (Nat.le_refl _) c_19.1 c_19.2) (by first | exact h0.1 | exact h0.2.1 | exact h0.2.2.1 | exact h0.2.2.2.1 | exact h0.2.2.2.2.1 | exact h0.2.2.2.2.2.1 | exact h0.2.2.2.2.2.2.1 | exact h0.2.2.2.2.2.2.2.1 | exact h0.2.2.2.2.2.2.2.2) rfl rfl rfl rfl ⟨rfl, rfl, by decide, by decide⟩ (Nat.le_of_ble_eq_true rfl) ⟨by decide, by decide⟩ (fun r_48 V_48 h_48 => ?_)
        obtain ⟨rfl, h_48⟩ := h_48
        refine j_iret dX8_reel_51 rfl (rfl) (by decide) (by decide) ?_
        exact mC.ret (by show e_reel r w = 0; unfold e_reel; exact ((if_neg (fun z => z c_5)).trans (if_neg (fun z => z c_19)))) a2 t2 h_48 h2
      · exact absurd c_34 (by decide)
  · refine j_iconst (v := 1) dX8_reel_8 (by decide) ?_
    refine j_goto (tgt := 27) dX8_reel_9 (by decide) ?_
    refine j_puti dX8_reel_27 hB fp_X8_reel_34 (by first | exact h0.1 | exact h0.2.1 | exact h0.2.2.1 | exact h0.2.2.2.1 | exact h0.2.2.2.2.1 | exact h0.2.2.2.2.2.1 | exact h0.2.2.2.2.2.2.1 | exact h0.2.2.2.2.2.2.2.1 | exact h0.2.2.2.2.2.2.2.2) (by rfl) ?_
    generalize hV1 : jset V q 0 1 = V1
    have t1 : isI (V1 q 0) 1 := by rw [← hV1, jset_eq]; decide
    have a1 : jAg V V1 q (q + 9) := by rw [← hV1]; exact jAg.rf.set (by omega) (by omega)
    have h1 : moIs T V1 q x := by rw [← hV1]; exact h.f (by decide) (by decide)
    refine j_aload_n dX8_reel_30 rfl ?_
    refine j_geti dX8_reel_31 hB fl_X8_34 (by first | exact h0.1 | exact h0.2.1 | exact h0.2.2.1 | exact h0.2.2.2.1 | exact h0.2.2.2.2.1 | exact h0.2.2.2.2.2.1 | exact h0.2.2.2.2.2.2.1 | exact h0.2.2.2.2.2.2.2.1 | exact h0.2.2.2.2.2.2.2.2) (by rfl) ?_
    refine m_if_le (tgt := 39) dX8_reel_34 (by decide) (t1) (fun c_34 => ?_) (fun c_34 => ?_)
    · exact absurd c_34 (by decide)
    · refine j_iconst (v := 0) dX8_reel_37 (by decide) ?_
      refine j_iret dX8_reel_38 rfl (rfl) (by decide) (by decide) ?_
      exact mC.thr 0 (by show e_reel r w = 1; unfold e_reel; exact (if_pos c_5)) a1 t1 rfl h1
set_option maxRecDepth 100000 in
set_option maxHeartbeats 4000000 in
theorem sp_X8_speedAt (hB : jB l s0 D) {q : Nat} (h0 : moT T q) {x : aX} (h : moIs T V q x) (hW : xW x) {r f : Int32} : Sp l s0 D kX8_speedAt (jR 2 0 0) 0 0 [.ref q, .int r, .int f] T V X sz (mC T V X sz q (e_spd r f) (fun y => isI y ((pHold (xR x r).2.2.2.2.1 f.toInt).toInt)) x (x)) := by
  refine Sp.of pn_X8_speedAt rfl (Nat.le_of_ble_eq_true rfl) ?_
  refine j_aload_n dX8_speedAt_0 rfl ?_
  refine j_iload_n dX8_speedAt_1 rfl ?_
  refine j_cSi dX8_speedAt_2 hB mo_X8_isReel ml_X8_42 (sp_X8_isReel hB) rfl rfl ⟨rfl, rfl, by decide, by decide⟩ (Nat.le_of_ble_eq_true rfl) ⟨by decide, by decide⟩ (fun r_2 V_2 h_2 => ?_)
  obtain ⟨rfl, b_2⟩ := h_2
  refine m_ifneB (tgt := 12) dX8_speedAt_5 (by decide) b_2 (fun c_5 => ?_) (fun c_5 => ?_)
  · obtain ⟨z, hz, z3⟩ := rOk.z c_5
    have hr0 := h.r hz z3
    have hrl : rlW x.1 (xR x r) := hW.1.r r.toInt
    have h10 : (xR x r).1.length ≤ 10 := hrl.2.2.2.1
    refine j_iload_n dX8_speedAt_12 rfl ?_
    refine j_iconst (v := 0) dX8_speedAt_13 (by decide) ?_
    refine j_sipush (v := 9000) dX8_speedAt_14 (by decide) ?_
    refine j_cSi dX8_speedAt_17 hB mo_X8_within ml_X8_38 (sp_X8_within hB  (iV) (iC 0 (by decide)) (iC 9000 (by decide))) rfl rfl ⟨rfl, rfl, by decide, by decide⟩ (Nat.le_of_ble_eq_true rfl) ⟨by decide, by decide⟩ (fun r_17 V_17 h_17 => ?_)
    obtain ⟨rfl, b_17⟩ := h_17
    replace b_17 : bQ _ (inR f 0 9000) := b_17.cg (by omega)
    refine m_ifeqB (tgt := 27) dX8_speedAt_20 (by decide) b_17 (fun c_20 => ?_) (fun c_20 => ?_)
    · refine j_iconst (v := 2) dX8_speedAt_27 (by decide) ?_
      refine j_puti dX8_speedAt_28 hB fp_X8_speedAt_34 (by first | exact h0.1 | exact h0.2.1 | exact h0.2.2.1 | exact h0.2.2.2.1 | exact h0.2.2.2.2.1 | exact h0.2.2.2.2.2.1 | exact h0.2.2.2.2.2.2.1 | exact h0.2.2.2.2.2.2.2.1 | exact h0.2.2.2.2.2.2.2.2) (by rfl) ?_
      generalize hV1 : jset V q 0 2 = V1
      have t1 : isI (V1 q 0) 2 := by rw [← hV1, jset_eq]; decide
      have a1 : jAg V V1 q (q + 9) := by rw [← hV1]; exact jAg.rf.set (by omega) (by omega)
      have h1 : moIs T V1 q x := by rw [← hV1]; exact h.f (by decide) (by decide)
      refine j_aload_n dX8_speedAt_31 rfl ?_
      refine j_geti dX8_speedAt_32 hB fl_X8_34 (by first | exact h0.1 | exact h0.2.1 | exact h0.2.2.1 | exact h0.2.2.2.1 | exact h0.2.2.2.2.1 | exact h0.2.2.2.2.2.1 | exact h0.2.2.2.2.2.2.1 | exact h0.2.2.2.2.2.2.2.1 | exact h0.2.2.2.2.2.2.2.2) (by rfl) ?_
      refine m_if_le (tgt := 42) dX8_speedAt_35 (by decide) (t1) (fun c_35 => ?_) (fun c_35 => ?_)
      · exact absurd c_35 (by decide)
      · refine j_iconst (v := 0) dX8_speedAt_38 (by decide) ?_
        refine j_goto (tgt := 48) dX8_speedAt_39 (by decide) ?_
        refine j_iret dX8_speedAt_48 rfl (rfl) (by decide) (by decide) ?_
        exact mC.thr 1 (by show e_spd r f = 2; unfold e_spd; exact ((if_neg (fun z => z c_5)).trans (if_pos c_20))) a1 t1 rfl h1
    · refine j_iconst (v := 0) dX8_speedAt_23 (by decide) ?_
      refine j_goto (tgt := 28) dX8_speedAt_24 (by decide) ?_
      refine j_puti dX8_speedAt_28 hB fp_X8_speedAt_34 (by first | exact h0.1 | exact h0.2.1 | exact h0.2.2.1 | exact h0.2.2.2.1 | exact h0.2.2.2.2.1 | exact h0.2.2.2.2.2.1 | exact h0.2.2.2.2.2.2.1 | exact h0.2.2.2.2.2.2.2.1 | exact h0.2.2.2.2.2.2.2.2) (by rfl) ?_
      generalize hV1 : jset V q 0 0 = V1
      have t1 : isI (V1 q 0) 0 := by rw [← hV1, jset_eq]; decide
      have a1 : jAg V V1 q (q + 9) := by rw [← hV1]; exact jAg.rf.set (by omega) (by omega)
      have h1 : moIs T V1 q x := by rw [← hV1]; exact h.f (by decide) (by decide)
      refine j_aload_n dX8_speedAt_31 rfl ?_
      refine j_geti dX8_speedAt_32 hB fl_X8_34 (by first | exact h0.1 | exact h0.2.1 | exact h0.2.2.1 | exact h0.2.2.2.1 | exact h0.2.2.2.2.1 | exact h0.2.2.2.2.2.1 | exact h0.2.2.2.2.2.2.1 | exact h0.2.2.2.2.2.2.2.1 | exact h0.2.2.2.2.2.2.2.2) (by rfl) ?_
      refine m_if_le (tgt := 42) dX8_speedAt_35 (by decide) (t1) (fun c_35 => ?_) (fun c_35 => ?_)
      · refine j_aload_n dX8_speedAt_42 rfl ?_
        refine j_iload_n dX8_speedAt_43 rfl ?_
        refine j_iload_n dX8_speedAt_44 rfl ?_
        refine j_cVi dX8_speedAt_45 hB mo_X8_speedOf ml_X8_58 (sp_X8_speedOf hB h0 hz z3 (h1.r hz z3).2.2.1 hrl.2.2.2.2.2.2.1) (by first | exact h0.1 | exact h0.2.1 | exact h0.2.2.1 | exact h0.2.2.2.1 | exact h0.2.2.2.2.1 | exact h0.2.2.2.2.2.1 | exact h0.2.2.2.2.2.2.1 | exact h0.2.2.2.2.2.2.2.1 | exact h0.2.2.2.2.2.2.2.2) rfl rfl rfl rfl ⟨rfl, rfl, by decide, by decide⟩ (Nat.le_of_ble_eq_true rfl) ⟨by decide, by decide⟩ (fun r_45 V_45 h_45 => ?_)
        obtain ⟨rfl, h_45⟩ := h_45
        refine j_iret dX8_speedAt_48 rfl (rfl) (by decide) (by decide) ?_
        exact mC.ret (by show e_spd r f = 0; unfold e_spd; exact ((if_neg (fun z => z c_5)).trans (if_neg (fun z => z c_20)))) a1 t1 (by rw [h_45]) h1
      · exact absurd c_35 (by decide)
  · refine j_iconst (v := 1) dX8_speedAt_8 (by decide) ?_
    refine j_goto (tgt := 28) dX8_speedAt_9 (by decide) ?_
    refine j_puti dX8_speedAt_28 hB fp_X8_speedAt_34 (by first | exact h0.1 | exact h0.2.1 | exact h0.2.2.1 | exact h0.2.2.2.1 | exact h0.2.2.2.2.1 | exact h0.2.2.2.2.2.1 | exact h0.2.2.2.2.2.2.1 | exact h0.2.2.2.2.2.2.2.1 | exact h0.2.2.2.2.2.2.2.2) (by rfl) ?_
    generalize hV1 : jset V q 0 1 = V1
    have t1 : isI (V1 q 0) 1 := by rw [← hV1, jset_eq]; decide
    have a1 : jAg V V1 q (q + 9) := by rw [← hV1]; exact jAg.rf.set (by omega) (by omega)
    have h1 : moIs T V1 q x := by rw [← hV1]; exact h.f (by decide) (by decide)
    refine j_aload_n dX8_speedAt_31 rfl ?_
    refine j_geti dX8_speedAt_32 hB fl_X8_34 (by first | exact h0.1 | exact h0.2.1 | exact h0.2.2.1 | exact h0.2.2.2.1 | exact h0.2.2.2.2.1 | exact h0.2.2.2.2.2.1 | exact h0.2.2.2.2.2.2.1 | exact h0.2.2.2.2.2.2.2.1 | exact h0.2.2.2.2.2.2.2.2) (by rfl) ?_
    refine m_if_le (tgt := 42) dX8_speedAt_35 (by decide) (t1) (fun c_35 => ?_) (fun c_35 => ?_)
    · exact absurd c_35 (by decide)
    · refine j_iconst (v := 0) dX8_speedAt_38 (by decide) ?_
      refine j_goto (tgt := 48) dX8_speedAt_39 (by decide) ?_
      refine j_iret dX8_speedAt_48 rfl (rfl) (by decide) (by decide) ?_
      exact mC.thr 0 (by show e_spd r f = 1; unfold e_spd; exact (if_pos c_5)) a1 t1 rfl h1
set_option maxRecDepth 100000 in
set_option maxHeartbeats 4000000 in
theorem sp_X8_piece (hB : jB l s0 D) {q : Nat} (h0 : moT T q) {x : aX} (h : moIs T V q x) (hW : xW x) {i w : Int32} : Sp l s0 D kX8_piece (jR 3 0 0) 0 0 [.ref q, .int i, .int w] T V X sz (mC T V X sz q (e_piece x i w) (fun y => isI y (pcP x.1 i w.toInt)) x (x)) := by
  refine Sp.of pn_X8_piece rfl (Nat.le_of_ble_eq_true rfl) ?_
  refine j_aload_n dX8_piece_0 rfl ?_
  refine j_aload_n dX8_piece_1 rfl ?_
  refine j_iload_n dX8_piece_2 rfl ?_
  refine j_cVi dX8_piece_3 hB mo_X8_isPiece ml_X8_110 (sp_X8_isPiece hB h0 h hW.1.2.2.1) (by first | exact h0.1 | exact h0.2.1 | exact h0.2.2.1 | exact h0.2.2.2.1 | exact h0.2.2.2.2.1 | exact h0.2.2.2.2.2.1 | exact h0.2.2.2.2.2.2.1 | exact h0.2.2.2.2.2.2.2.1 | exact h0.2.2.2.2.2.2.2.2) rfl rfl rfl rfl ⟨rfl, rfl, by decide, by decide⟩ (Nat.le_of_ble_eq_true rfl) ⟨by decide, by decide⟩ (fun r_3 V_3 h_3 => ?_)
  obtain ⟨rfl, b_3⟩ := h_3
  refine m_ifneB (tgt := 13) dX8_piece_6 (by decide) b_3 (fun c_6 => ?_) (fun c_6 => ?_)
  · refine j_iload_n dX8_piece_13 rfl ?_
    refine j_iconst (v := 0) dX8_piece_14 (by decide) ?_
    refine j_iconst (v := 3) dX8_piece_15 (by decide) ?_
    refine j_cSi dX8_piece_16 hB mo_X8_within ml_X8_38 (sp_X8_within hB  (iV) (iC 0 (by decide)) (iC 3 (by decide))) rfl rfl ⟨rfl, rfl, by decide, by decide⟩ (Nat.le_of_ble_eq_true rfl) ⟨by decide, by decide⟩ (fun r_16 V_16 h_16 => ?_)
    obtain ⟨rfl, b_16⟩ := h_16
    replace b_16 : bQ _ (inR w 0 3) := b_16.cg (by omega)
    refine m_ifeqB (tgt := 26) dX8_piece_19 (by decide) b_16 (fun c_19 => ?_) (fun c_19 => ?_)
    · refine j_iconst (v := 2) dX8_piece_26 (by decide) ?_
      refine j_puti dX8_piece_27 hB fp_X8_piece_34 (by first | exact h0.1 | exact h0.2.1 | exact h0.2.2.1 | exact h0.2.2.2.1 | exact h0.2.2.2.2.1 | exact h0.2.2.2.2.2.1 | exact h0.2.2.2.2.2.2.1 | exact h0.2.2.2.2.2.2.2.1 | exact h0.2.2.2.2.2.2.2.2) (by rfl) ?_
      generalize hV1 : jset V q 0 2 = V1
      have t1 : isI (V1 q 0) 2 := by rw [← hV1, jset_eq]; decide
      have a1 : jAg V V1 q (q + 9) := by rw [← hV1]; exact jAg.rf.set (by omega) (by omega)
      have h1 : moIs T V1 q x := by rw [← hV1]; exact h.f (by decide) (by decide)
      refine j_aload_n dX8_piece_30 rfl ?_
      refine j_geti dX8_piece_31 hB fl_X8_34 (by first | exact h0.1 | exact h0.2.1 | exact h0.2.2.1 | exact h0.2.2.2.1 | exact h0.2.2.2.2.1 | exact h0.2.2.2.2.2.1 | exact h0.2.2.2.2.2.2.1 | exact h0.2.2.2.2.2.2.2.1 | exact h0.2.2.2.2.2.2.2.2) (by rfl) ?_
      refine m_if_le (tgt := 41) dX8_piece_34 (by decide) (t1) (fun c_34 => ?_) (fun c_34 => ?_)
      · exact absurd c_34 (by decide)
      · refine j_iconst (v := 0) dX8_piece_37 (by decide) ?_
        refine j_goto (tgt := 47) dX8_piece_38 (by decide) ?_
        refine j_iret dX8_piece_47 rfl (rfl) (by decide) (by decide) ?_
        exact mC.thr 1 (by show e_piece x i w = 2; unfold e_piece; exact ((if_neg (fun z => z c_6)).trans (if_pos c_19))) a1 t1 rfl h1
    · refine j_iconst (v := 0) dX8_piece_22 (by decide) ?_
      refine j_goto (tgt := 27) dX8_piece_23 (by decide) ?_
      refine j_puti dX8_piece_27 hB fp_X8_piece_34 (by first | exact h0.1 | exact h0.2.1 | exact h0.2.2.1 | exact h0.2.2.2.1 | exact h0.2.2.2.2.1 | exact h0.2.2.2.2.2.1 | exact h0.2.2.2.2.2.2.1 | exact h0.2.2.2.2.2.2.2.1 | exact h0.2.2.2.2.2.2.2.2) (by rfl) ?_
      generalize hV1 : jset V q 0 0 = V1
      have t1 : isI (V1 q 0) 0 := by rw [← hV1, jset_eq]; decide
      have a1 : jAg V V1 q (q + 9) := by rw [← hV1]; exact jAg.rf.set (by omega) (by omega)
      have h1 : moIs T V1 q x := by rw [← hV1]; exact h.f (by decide) (by decide)
      refine j_aload_n dX8_piece_30 rfl ?_
      refine j_geti dX8_piece_31 hB fl_X8_34 (by first | exact h0.1 | exact h0.2.1 | exact h0.2.2.1 | exact h0.2.2.2.1 | exact h0.2.2.2.2.1 | exact h0.2.2.2.2.2.1 | exact h0.2.2.2.2.2.2.1 | exact h0.2.2.2.2.2.2.2.1 | exact h0.2.2.2.2.2.2.2.2) (by rfl) ?_
      refine m_if_le (tgt := 41) dX8_piece_34 (by decide) (t1) (fun c_34 => ?_) (fun c_34 => ?_)
      · refine j_aload_n dX8_piece_41 rfl ?_
        refine j_iload_n dX8_piece_42 rfl ?_
        refine j_iload_n dX8_piece_43 rfl ?_
        refine j_cVi dX8_piece_44 hB mo_X8_pieceNow ml_X8_191 (sp_X8_pieceNow hB h0 h1 hW.1 c_6 c_19.1 c_19.2) (by first | exact h0.1 | exact h0.2.1 | exact h0.2.2.1 | exact h0.2.2.2.1 | exact h0.2.2.2.2.1 | exact h0.2.2.2.2.2.1 | exact h0.2.2.2.2.2.2.1 | exact h0.2.2.2.2.2.2.2.1 | exact h0.2.2.2.2.2.2.2.2) rfl rfl rfl rfl ⟨rfl, rfl, by decide, by decide⟩ (Nat.le_of_ble_eq_true rfl) ⟨by decide, by decide⟩ (fun r_44 V_44 h_44 => ?_)
        obtain ⟨rfl, h_44⟩ := h_44
        refine j_iret dX8_piece_47 rfl (rfl) (by decide) (by decide) ?_
        exact mC.ret (by show e_piece x i w = 0; unfold e_piece; exact ((if_neg (fun z => z c_6)).trans (if_neg (fun z => z c_19)))) a1 t1 h_44 h1
      · exact absurd c_34 (by decide)
  · refine j_iconst (v := 1) dX8_piece_9 (by decide) ?_
    refine j_goto (tgt := 27) dX8_piece_10 (by decide) ?_
    refine j_puti dX8_piece_27 hB fp_X8_piece_34 (by first | exact h0.1 | exact h0.2.1 | exact h0.2.2.1 | exact h0.2.2.2.1 | exact h0.2.2.2.2.1 | exact h0.2.2.2.2.2.1 | exact h0.2.2.2.2.2.2.1 | exact h0.2.2.2.2.2.2.2.1 | exact h0.2.2.2.2.2.2.2.2) (by rfl) ?_
    generalize hV1 : jset V q 0 1 = V1
    have t1 : isI (V1 q 0) 1 := by rw [← hV1, jset_eq]; decide
    have a1 : jAg V V1 q (q + 9) := by rw [← hV1]; exact jAg.rf.set (by omega) (by omega)
    have h1 : moIs T V1 q x := by rw [← hV1]; exact h.f (by decide) (by decide)
    refine j_aload_n dX8_piece_30 rfl ?_
    refine j_geti dX8_piece_31 hB fl_X8_34 (by first | exact h0.1 | exact h0.2.1 | exact h0.2.2.1 | exact h0.2.2.2.1 | exact h0.2.2.2.2.1 | exact h0.2.2.2.2.2.1 | exact h0.2.2.2.2.2.2.1 | exact h0.2.2.2.2.2.2.2.1 | exact h0.2.2.2.2.2.2.2.2) (by rfl) ?_
    refine m_if_le (tgt := 41) dX8_piece_34 (by decide) (t1) (fun c_34 => ?_) (fun c_34 => ?_)
    · exact absurd c_34 (by decide)
    · refine j_iconst (v := 0) dX8_piece_37 (by decide) ?_
      refine j_goto (tgt := 47) dX8_piece_38 (by decide) ?_
      refine j_iret dX8_piece_47 rfl (rfl) (by decide) (by decide) ?_
      exact mC.thr 0 (by show e_piece x i w = 1; unfold e_piece; exact (if_pos c_6)) a1 t1 rfl h1
set_option maxRecDepth 100000 in
set_option maxHeartbeats 4000000 in
theorem sp_X8_count (hB : jB l s0 D) {q : Nat} (h0 : moT T q) {x : aX} (h : moIs T V q x) (hW : xW x) {w : Int32} : Sp l s0 D kX8_count (jR 7 0 0) 0 0 [.ref q, .int w] T V X sz (mC T V X sz q (e_count w) (fun y => isI y (ctP x w.toInt)) x (x)) := by
  refine Sp.of pn_X8_count rfl (Nat.le_of_ble_eq_true rfl) ?_
  refine j_aload_n dX8_count_0 rfl ?_
  refine j_iload_n dX8_count_1 rfl ?_
  refine j_iconst (v := 0) dX8_count_2 (by decide) ?_
  refine j_bipush (v := 7) dX8_count_3 (by decide) ?_
  refine j_cSi dX8_count_5 hB mo_X8_within ml_X8_38 (sp_X8_within hB  (iV) (iC 0 (by decide)) (iC 7 (by decide))) rfl rfl ⟨rfl, rfl, by decide, by decide⟩ (Nat.le_of_ble_eq_true rfl) ⟨by decide, by decide⟩ (fun r_5 V_5 h_5 => ?_)
  obtain ⟨rfl, b_5⟩ := h_5
  replace b_5 : bQ _ (inR w 0 7) := b_5.cg (by omega)
  refine m_ifeqB (tgt := 15) dX8_count_8 (by decide) b_5 (fun c_8 => ?_) (fun c_8 => ?_)
  · refine j_iconst (v := 1) dX8_count_15 (by decide) ?_
    refine j_puti dX8_count_16 hB fp_X8_count_34 (by first | exact h0.1 | exact h0.2.1 | exact h0.2.2.1 | exact h0.2.2.2.1 | exact h0.2.2.2.2.1 | exact h0.2.2.2.2.2.1 | exact h0.2.2.2.2.2.2.1 | exact h0.2.2.2.2.2.2.2.1 | exact h0.2.2.2.2.2.2.2.2) (by rfl) ?_
    generalize hV1 : jset V q 0 1 = V1
    have t1 : isI (V1 q 0) 1 := by rw [← hV1, jset_eq]; decide
    have a1 : jAg V V1 q (q + 9) := by rw [← hV1]; exact jAg.rf.set (by omega) (by omega)
    have h1 : moIs T V1 q x := by rw [← hV1]; exact h.f (by decide) (by decide)
    refine j_aload_n dX8_count_19 rfl ?_
    refine j_geti dX8_count_20 hB fl_X8_34 (by first | exact h0.1 | exact h0.2.1 | exact h0.2.2.1 | exact h0.2.2.2.1 | exact h0.2.2.2.2.1 | exact h0.2.2.2.2.2.1 | exact h0.2.2.2.2.2.2.1 | exact h0.2.2.2.2.2.2.2.1 | exact h0.2.2.2.2.2.2.2.2) (by rfl) ?_
    refine m_if_le (tgt := 30) dX8_count_23 (by decide) (t1) (fun c_23 => ?_) (fun c_23 => ?_)
    · exact absurd c_23 (by decide)
    · refine j_iconst (v := 0) dX8_count_26 (by decide) ?_
      refine j_goto (tgt := 35) dX8_count_27 (by decide) ?_
      refine j_iret dX8_count_35 rfl (rfl) (by decide) (by decide) ?_
      exact mC.thr 0 (by show e_count w = 1; unfold e_count; exact (if_pos c_8)) a1 t1 rfl h1
  · refine j_iconst (v := 0) dX8_count_11 (by decide) ?_
    refine j_goto (tgt := 16) dX8_count_12 (by decide) ?_
    refine j_puti dX8_count_16 hB fp_X8_count_34 (by first | exact h0.1 | exact h0.2.1 | exact h0.2.2.1 | exact h0.2.2.2.1 | exact h0.2.2.2.2.1 | exact h0.2.2.2.2.2.1 | exact h0.2.2.2.2.2.2.1 | exact h0.2.2.2.2.2.2.2.1 | exact h0.2.2.2.2.2.2.2.2) (by rfl) ?_
    generalize hV1 : jset V q 0 0 = V1
    have t1 : isI (V1 q 0) 0 := by rw [← hV1, jset_eq]; decide
    have a1 : jAg V V1 q (q + 9) := by rw [← hV1]; exact jAg.rf.set (by omega) (by omega)
    have h1 : moIs T V1 q x := by rw [← hV1]; exact h.f (by decide) (by decide)
    refine j_aload_n dX8_count_19 rfl ?_
    refine j_geti dX8_count_20 hB fl_X8_34 (by first | exact h0.1 | exact h0.2.1 | exact h0.2.2.1 | exact h0.2.2.2.1 | exact h0.2.2.2.2.1 | exact h0.2.2.2.2.2.1 | exact h0.2.2.2.2.2.2.1 | exact h0.2.2.2.2.2.2.2.1 | exact h0.2.2.2.2.2.2.2.2) (by rfl) ?_
    refine m_if_le (tgt := 30) dX8_count_23 (by decide) (t1) (fun c_23 => ?_) (fun c_23 => ?_)
    · refine j_aload_n dX8_count_30 rfl ?_
      refine j_iload_n dX8_count_31 rfl ?_
      refine j_cVi dX8_count_32 hB mo_X8_counted ml_X8_197 (sp_X8_counted hB h0 h1 hW.1 c_8.1 c_8.2) (by first | exact h0.1 | exact h0.2.1 | exact h0.2.2.1 | exact h0.2.2.2.1 | exact h0.2.2.2.2.1 | exact h0.2.2.2.2.2.1 | exact h0.2.2.2.2.2.2.1 | exact h0.2.2.2.2.2.2.2.1 | exact h0.2.2.2.2.2.2.2.2) rfl rfl rfl rfl ⟨rfl, rfl, by decide, by decide⟩ (Nat.le_of_ble_eq_true rfl) ⟨by decide, by decide⟩ (fun r_32 V_32 h_32 => ?_)
      obtain ⟨h_32, aL⟩ := h_32
      refine j_iret dX8_count_35 rfl (rfl) (by decide) (by decide) ?_
      exact mC.ret (by show e_count w = 0; unfold e_count; exact (if_neg (fun z => z c_8))) (a1.tr (aL.wide (by omega) (by omega))) (by rw [aL q (by omega)]; exact t1) h_32 (h1.kp (mKp.ag aL (by omega) (by omega)))
    · exact absurd c_23 (by decide)
set_option maxRecDepth 100000 in
set_option maxHeartbeats 4000000 in
theorem sp_X8_bestCue (hB : jB l s0 D) {q : Nat} (h0 : moT T q) {x : aX} (h : moIs T V q x) (hW : xW x) {r s p : Int32} : Sp l s0 D kX8_bestCue (jR 4 0 0) 0 0 [.ref q, .int r, .int s, .int p] T V X sz (mC T V X sz q (e_bc x r s p) (fun y => isI y (v_bc x r s p)) x (x)) := by
  refine Sp.of pn_X8_bestCue rfl (Nat.le_of_ble_eq_true rfl) ?_
  refine j_aload_n dX8_bestCue_0 rfl ?_
  refine j_aload_n dX8_bestCue_1 rfl ?_
  refine j_iload_n dX8_bestCue_2 rfl ?_
  refine j_iload_n dX8_bestCue_3 rfl ?_
  refine j_cVi dX8_bestCue_4 hB mo_X8_isScene ml_X8_98 (sp_X8_isScene hB h0 h hW.1) (by first | exact h0.1 | exact h0.2.1 | exact h0.2.2.1 | exact h0.2.2.2.1 | exact h0.2.2.2.2.1 | exact h0.2.2.2.2.2.1 | exact h0.2.2.2.2.2.2.1 | exact h0.2.2.2.2.2.2.2.1 | exact h0.2.2.2.2.2.2.2.2) rfl rfl rfl rfl ⟨rfl, rfl, by decide, by decide⟩ (Nat.le_of_ble_eq_true rfl) ⟨by decide, by decide⟩ (fun r_4 V_4 h_4 => ?_)
  obtain ⟨rfl, b_4⟩ := h_4
  refine m_ifeqB (tgt := 22) dX8_bestCue_7 (by decide) b_4 (fun c_7 => ?_) (fun c_7 => ?_)
  · refine j_iconst (v := 1) dX8_bestCue_22 (by decide) ?_
    refine j_puti dX8_bestCue_23 hB fp_X8_bestCue_34 (by first | exact h0.1 | exact h0.2.1 | exact h0.2.2.1 | exact h0.2.2.2.1 | exact h0.2.2.2.2.1 | exact h0.2.2.2.2.2.1 | exact h0.2.2.2.2.2.2.1 | exact h0.2.2.2.2.2.2.2.1 | exact h0.2.2.2.2.2.2.2.2) (by rfl) ?_
    generalize hV1 : jset V q 0 1 = V1
    have t1 : isI (V1 q 0) 1 := by rw [← hV1, jset_eq]; decide
    have a1 : jAg V V1 q (q + 9) := by rw [← hV1]; exact jAg.rf.set (by omega) (by omega)
    have h1 : moIs T V1 q x := by rw [← hV1]; exact h.f (by decide) (by decide)
    refine j_aload_n dX8_bestCue_26 rfl ?_
    refine j_geti dX8_bestCue_27 hB fl_X8_34 (by first | exact h0.1 | exact h0.2.1 | exact h0.2.2.1 | exact h0.2.2.2.1 | exact h0.2.2.2.2.1 | exact h0.2.2.2.2.2.1 | exact h0.2.2.2.2.2.2.1 | exact h0.2.2.2.2.2.2.2.1 | exact h0.2.2.2.2.2.2.2.2) (by rfl) ?_
    refine m_if_le (tgt := 35) dX8_bestCue_30 (by decide) (t1) (fun c_30 => ?_) (fun c_30 => ?_)
    · exact absurd c_30 (by decide)
    · refine j_iconst (v := 0) dX8_bestCue_33 (by decide) ?_
      refine j_iret dX8_bestCue_34 rfl (rfl) (by decide) (by decide) ?_
      exact mC.thr 0 (by show e_bc x r s p = 1; unfold e_bc; exact (if_pos (fun z9 => c_7 z9.1))) a1 t1 rfl h1
  · obtain ⟨z, hz, z3⟩ := rOk.z c_7.1
    have hr0 := h.r hz z3
    have hrl : rlW x.1 (xR x r) := hW.1.r r.toInt
    have h10 : (xR x r).1.length ≤ 10 := hrl.2.2.2.1
    obtain ⟨kk, hkk, hkl⟩ : ∃ kk : Nat, s.toInt = kk ∧ kk < (xR x r).1.length := ⟨s.toInt.toNat, by have := c_7.2; omega, by have := c_7.2; omega⟩
    have hks : s.toInt.toNat = kk := by omega
    refine j_aload_n dX8_bestCue_10 rfl ?_
    refine j_iload_n dX8_bestCue_11 rfl ?_
    refine j_cVi dX8_bestCue_12 hB mo_X8_isPiece ml_X8_110 (sp_X8_isPiece hB h0 h hW.1.2.2.1) (by first | exact h0.1 | exact h0.2.1 | exact h0.2.2.1 | exact h0.2.2.2.1 | exact h0.2.2.2.2.1 | exact h0.2.2.2.2.2.1 | exact h0.2.2.2.2.2.2.1 | exact h0.2.2.2.2.2.2.2.1 | exact h0.2.2.2.2.2.2.2.2) rfl rfl rfl rfl ⟨rfl, rfl, by decide, by decide⟩ (Nat.le_of_ble_eq_true rfl) ⟨by decide, by decide⟩ (fun r_12 V_12 h_12 => ?_)
    obtain ⟨rfl, b_12⟩ := h_12
    refine m_ifeqB (tgt := 22) dX8_bestCue_15 (by decide) b_12 (fun c_15 => ?_) (fun c_15 => ?_)
    · refine j_iconst (v := 1) dX8_bestCue_22 (by decide) ?_
      refine j_puti dX8_bestCue_23 hB fp_X8_bestCue_34 (by first | exact h0.1 | exact h0.2.1 | exact h0.2.2.1 | exact h0.2.2.2.1 | exact h0.2.2.2.2.1 | exact h0.2.2.2.2.2.1 | exact h0.2.2.2.2.2.2.1 | exact h0.2.2.2.2.2.2.2.1 | exact h0.2.2.2.2.2.2.2.2) (by rfl) ?_
      generalize hV1 : jset V q 0 1 = V1
      have t1 : isI (V1 q 0) 1 := by rw [← hV1, jset_eq]; decide
      have a1 : jAg V V1 q (q + 9) := by rw [← hV1]; exact jAg.rf.set (by omega) (by omega)
      have h1 : moIs T V1 q x := by rw [← hV1]; exact h.f (by decide) (by decide)
      refine j_aload_n dX8_bestCue_26 rfl ?_
      refine j_geti dX8_bestCue_27 hB fl_X8_34 (by first | exact h0.1 | exact h0.2.1 | exact h0.2.2.1 | exact h0.2.2.2.1 | exact h0.2.2.2.2.1 | exact h0.2.2.2.2.2.1 | exact h0.2.2.2.2.2.2.1 | exact h0.2.2.2.2.2.2.2.1 | exact h0.2.2.2.2.2.2.2.2) (by rfl) ?_
      refine m_if_le (tgt := 35) dX8_bestCue_30 (by decide) (t1) (fun c_30 => ?_) (fun c_30 => ?_)
      · exact absurd c_30 (by decide)
      · refine j_iconst (v := 0) dX8_bestCue_33 (by decide) ?_
        refine j_iret dX8_bestCue_34 rfl (rfl) (by decide) (by decide) ?_
        exact mC.thr 0 (by show e_bc x r s p = 1; unfold e_bc; exact (if_pos (fun z9 => c_15 z9.2))) a1 t1 rfl h1
    · refine j_iconst (v := 0) dX8_bestCue_18 (by decide) ?_
      refine j_goto (tgt := 23) dX8_bestCue_19 (by decide) ?_
      refine j_puti dX8_bestCue_23 hB fp_X8_bestCue_34 (by first | exact h0.1 | exact h0.2.1 | exact h0.2.2.1 | exact h0.2.2.2.1 | exact h0.2.2.2.2.1 | exact h0.2.2.2.2.2.1 | exact h0.2.2.2.2.2.2.1 | exact h0.2.2.2.2.2.2.2.1 | exact h0.2.2.2.2.2.2.2.2) (by rfl) ?_
      generalize hV1 : jset V q 0 0 = V1
      have t1 : isI (V1 q 0) 0 := by rw [← hV1, jset_eq]; decide
      have a1 : jAg V V1 q (q + 9) := by rw [← hV1]; exact jAg.rf.set (by omega) (by omega)
      have h1 : moIs T V1 q x := by rw [← hV1]; exact h.f (by decide) (by decide)
      refine j_aload_n dX8_bestCue_26 rfl ?_
      refine j_geti dX8_bestCue_27 hB fl_X8_34 (by first | exact h0.1 | exact h0.2.1 | exact h0.2.2.1 | exact h0.2.2.2.1 | exact h0.2.2.2.2.1 | exact h0.2.2.2.2.2.1 | exact h0.2.2.2.2.2.2.1 | exact h0.2.2.2.2.2.2.2.1 | exact h0.2.2.2.2.2.2.2.2) (by rfl) ?_
      refine m_if_le (tgt := 35) dX8_bestCue_30 (by decide) (t1) (fun c_30 => ?_) (fun c_30 => ?_)
      · refine j_aload_n dX8_bestCue_35 rfl ?_
        refine j_iload_n dX8_bestCue_36 rfl ?_
        refine j_iconst (v := 0) dX8_bestCue_37 (by decide) ?_
        refine j_cVu dX8_bestCue_38 hB mo_X8_lay ml_X8_113 (sp_X8_lay hB h0 hz z3 h1 hW.1 (Or.inl rfl)) (by first | exact h0.1 | exact h0.2.1 | exact h0.2.2.1 | exact h0.2.2.2.1 | exact h0.2.2.2.2.1 | exact h0.2.2.2.2.2.1 | exact h0.2.2.2.2.2.2.1 | exact h0.2.2.2.2.2.2.2.1 | exact h0.2.2.2.2.2.2.2.2) rfl rfl rfl rfl ⟨rfl, rfl, by decide, by decide⟩ (Nat.le_of_ble_eq_true rfl) ⟨by decide, by decide⟩ (fun V_38 h_38 => ?_)
        obtain ⟨gL, aL⟩ := h_38
        have h2 : moIs T V_38 q x := h1.kp (mKp.ag aL (by omega) (by omega))
        have a2 : jAg V V_38 q (q + 9) := a1.tr (aL.wide (by omega) (by omega))
        have t2 : isI (V_38 q 0) 0 := by rw [aL q (by omega)]; exact t1
        refine j_aload_n dX8_bestCue_41 rfl ?_
        refine j_iload_n dX8_bestCue_42 rfl ?_
        refine j_iload_n dX8_bestCue_43 rfl ?_
        refine j_iload_n dX8_bestCue_44 rfl ?_
        refine j_cVi dX8_bestCue_45 hB mo_X8_bestOf ml_X8_116 (sp_X8_bestOf hB h0 hz z3 h2 hW.1 hkk hkl (Or.inl rfl) gL.1.1 (fun a h9 => (gL.2 a (by omega)).2) (pp := p.toInt.toNat) (by have := c_15.1; omega) (by have := c_15.1; have := c_15.2; omega)) (by first | exact h0.1 | exact h0.2.1 | exact h0.2.2.1 | exact h0.2.2.2.1 | exact h0.2.2.2.2.1 | exact h0.2.2.2.2.2.1 | exact h0.2.2.2.2.2.2.1 | exact h0.2.2.2.2.2.2.2.1 | exact h0.2.2.2.2.2.2.2.2) rfl rfl rfl rfl ⟨rfl, rfl, by decide, by decide⟩ (Nat.le_of_ble_eq_true rfl) ⟨by decide, by decide⟩ (fun r_45 V_45 h_45 => ?_)
        obtain ⟨bb, hV, hbs, e9⟩ := h_45
        have a3 : mF V_38 V_45 q := by rw [hV]; exact mF.rf.f (by omega)
        rw [show ((p.toInt.toNat : Nat) : Int) = p.toInt by have := c_15.1; omega] at e9
        refine j_iret dX8_bestCue_48 rfl (rfl) (by decide) (by decide) ?_
        exact mC.ret (by show e_bc x r s p = 0; unfold e_bc; exact (if_neg (fun z => z ⟨c_7, c_15⟩))) (a2.tr a3.kp.ja) (by rw [a3.2 0 (by omega)]; exact t2) (by unfold v_bc; rw [hks]; exact e9) (h2.kp a3.kp)
      · exact absurd c_30 (by decide)
set_option maxRecDepth 100000 in
set_option maxHeartbeats 4000000 in
theorem sp_X8_bestPiece (hB : jB l s0 D) {q : Nat} (h0 : moT T q) {x : aX} (h : moIs T V q x) (hW : xW x) {r s : Int32} : Sp l s0 D kX8_bestPiece (jR 4 0 0) 0 0 [.ref q, .int r, .int s] T V X sz (mC T V X sz q (e_bp x r s) (fun y => isI y (bpV x.1 (xR x r) s.toInt.toNat)) x (x)) := by
  refine Sp.of pn_X8_bestPiece rfl (Nat.le_of_ble_eq_true rfl) ?_
  refine j_aload_n dX8_bestPiece_0 rfl ?_
  refine j_aload_n dX8_bestPiece_1 rfl ?_
  refine j_iload_n dX8_bestPiece_2 rfl ?_
  refine j_iload_n dX8_bestPiece_3 rfl ?_
  refine j_cVi dX8_bestPiece_4 hB mo_X8_isScene ml_X8_98 (sp_X8_isScene hB h0 h hW.1) (by first | exact h0.1 | exact h0.2.1 | exact h0.2.2.1 | exact h0.2.2.2.1 | exact h0.2.2.2.2.1 | exact h0.2.2.2.2.2.1 | exact h0.2.2.2.2.2.2.1 | exact h0.2.2.2.2.2.2.2.1 | exact h0.2.2.2.2.2.2.2.2) rfl rfl rfl rfl ⟨rfl, rfl, by decide, by decide⟩ (Nat.le_of_ble_eq_true rfl) ⟨by decide, by decide⟩ (fun r_4 V_4 h_4 => ?_)
  obtain ⟨rfl, b_4⟩ := h_4
  refine m_ifeqB (tgt := 14) dX8_bestPiece_7 (by decide) b_4 (fun c_7 => ?_) (fun c_7 => ?_)
  · refine j_iconst (v := 1) dX8_bestPiece_14 (by decide) ?_
    refine j_puti dX8_bestPiece_15 hB fp_X8_bestPiece_34 (by first | exact h0.1 | exact h0.2.1 | exact h0.2.2.1 | exact h0.2.2.2.1 | exact h0.2.2.2.2.1 | exact h0.2.2.2.2.2.1 | exact h0.2.2.2.2.2.2.1 | exact h0.2.2.2.2.2.2.2.1 | exact h0.2.2.2.2.2.2.2.2) (by rfl) ?_
    generalize hV1 : jset V q 0 1 = V1
    have t1 : isI (V1 q 0) 1 := by rw [← hV1, jset_eq]; decide
    have a1 : jAg V V1 q (q + 9) := by rw [← hV1]; exact jAg.rf.set (by omega) (by omega)
    have h1 : moIs T V1 q x := by rw [← hV1]; exact h.f (by decide) (by decide)
    refine j_aload_n dX8_bestPiece_18 rfl ?_
    refine j_geti dX8_bestPiece_19 hB fl_X8_34 (by first | exact h0.1 | exact h0.2.1 | exact h0.2.2.1 | exact h0.2.2.2.1 | exact h0.2.2.2.2.1 | exact h0.2.2.2.2.2.1 | exact h0.2.2.2.2.2.2.1 | exact h0.2.2.2.2.2.2.2.1 | exact h0.2.2.2.2.2.2.2.2) (by rfl) ?_
    refine m_if_le (tgt := 27) dX8_bestPiece_22 (by decide) (t1) (fun c_22 => ?_) (fun c_22 => ?_)
    · exact absurd c_22 (by decide)
    · refine j_iconst (v := 0) dX8_bestPiece_25 (by decide) ?_
      refine j_iret dX8_bestPiece_26 rfl (rfl) (by decide) (by decide) ?_
      exact mC.thr 0 (by show e_bp x r s = 1; unfold e_bp; exact (if_pos c_7)) a1 t1 rfl h1
  · obtain ⟨z, hz, z3⟩ := rOk.z c_7.1
    have hr0 := h.r hz z3
    have hrl : rlW x.1 (xR x r) := hW.1.r r.toInt
    have h10 : (xR x r).1.length ≤ 10 := hrl.2.2.2.1
    obtain ⟨kk, hkk, hkl⟩ : ∃ kk : Nat, s.toInt = kk ∧ kk < (xR x r).1.length := ⟨s.toInt.toNat, by have := c_7.2; omega, by have := c_7.2; omega⟩
    have hks : s.toInt.toNat = kk := by omega
    refine j_iconst (v := 0) dX8_bestPiece_10 (by decide) ?_
    refine j_goto (tgt := 15) dX8_bestPiece_11 (by decide) ?_
    refine j_puti dX8_bestPiece_15 hB fp_X8_bestPiece_34 (by first | exact h0.1 | exact h0.2.1 | exact h0.2.2.1 | exact h0.2.2.2.1 | exact h0.2.2.2.2.1 | exact h0.2.2.2.2.2.1 | exact h0.2.2.2.2.2.2.1 | exact h0.2.2.2.2.2.2.2.1 | exact h0.2.2.2.2.2.2.2.2) (by rfl) ?_
    generalize hV1 : jset V q 0 0 = V1
    have t1 : isI (V1 q 0) 0 := by rw [← hV1, jset_eq]; decide
    have a1 : jAg V V1 q (q + 9) := by rw [← hV1]; exact jAg.rf.set (by omega) (by omega)
    have h1 : moIs T V1 q x := by rw [← hV1]; exact h.f (by decide) (by decide)
    refine j_aload_n dX8_bestPiece_18 rfl ?_
    refine j_geti dX8_bestPiece_19 hB fl_X8_34 (by first | exact h0.1 | exact h0.2.1 | exact h0.2.2.1 | exact h0.2.2.2.1 | exact h0.2.2.2.2.1 | exact h0.2.2.2.2.2.1 | exact h0.2.2.2.2.2.2.1 | exact h0.2.2.2.2.2.2.2.1 | exact h0.2.2.2.2.2.2.2.2) (by rfl) ?_
    refine m_if_le (tgt := 27) dX8_bestPiece_22 (by decide) (t1) (fun c_22 => ?_) (fun c_22 => ?_)
    · refine j_aload_n dX8_bestPiece_27 rfl ?_
      refine j_iload_n dX8_bestPiece_28 rfl ?_
      refine j_iconst (v := 0) dX8_bestPiece_29 (by decide) ?_
      refine j_cVu dX8_bestPiece_30 hB mo_X8_lay ml_X8_113 (sp_X8_lay hB h0 hz z3 h1 hW.1 (Or.inl rfl)) (by first | exact h0.1 | exact h0.2.1 | exact h0.2.2.1 | exact h0.2.2.2.1 | exact h0.2.2.2.2.1 | exact h0.2.2.2.2.2.1 | exact h0.2.2.2.2.2.2.1 | exact h0.2.2.2.2.2.2.2.1 | exact h0.2.2.2.2.2.2.2.2) rfl rfl rfl rfl ⟨rfl, rfl, by decide, by decide⟩ (Nat.le_of_ble_eq_true rfl) ⟨by decide, by decide⟩ (fun V_30 h_30 => ?_)
      obtain ⟨gL, aL⟩ := h_30
      have h2 : moIs T V_30 q x := h1.kp (mKp.ag aL (by omega) (by omega))
      have a2 : jAg V V_30 q (q + 9) := a1.tr (aL.wide (by omega) (by omega))
      have t2 : isI (V_30 q 0) 0 := by rw [aL q (by omega)]; exact t1
      refine j_aload_n dX8_bestPiece_33 rfl ?_
      refine j_iload_n dX8_bestPiece_34 rfl ?_
      refine j_iload_n dX8_bestPiece_35 rfl ?_
      refine j_cVi dX8_bestPiece_36 hB mo_X8_bestPieceNow ml_X8_200 (sp_X8_bestPieceNow hB h0 hz z3 h2 hW.1 hkk hkl gL hkl) (by first | exact h0.1 | exact h0.2.1 | exact h0.2.2.1 | exact h0.2.2.2.1 | exact h0.2.2.2.2.1 | exact h0.2.2.2.2.2.1 | exact h0.2.2.2.2.2.2.1 | exact h0.2.2.2.2.2.2.2.1 | exact h0.2.2.2.2.2.2.2.2) rfl rfl rfl rfl ⟨rfl, rfl, by decide, by decide⟩ (Nat.le_of_ble_eq_true rfl) ⟨by decide, by decide⟩ (fun r_36 V_36 h_36 => ?_)
      obtain ⟨h_36, a3⟩ := h_36
      refine j_iret dX8_bestPiece_39 rfl (rfl) (by decide) (by decide) ?_
      exact mC.ret (by show e_bp x r s = 0; unfold e_bp; exact (if_neg (fun z => z c_7))) (a2.tr a3.kp.ja) (by rw [a3.2 0 (by omega)]; exact t2) (by rw [hks]; exact h_36) (h2.kp a3.kp)
    · exact absurd c_22 (by decide)
set_option maxRecDepth 100000 in
set_option maxHeartbeats 4000000 in
theorem sp_X8_ifCranked (hB : jB l s0 D) {q : Nat} (h0 : moT T q) {x : aX} (h : moIs T V q x) (hW : xW x) {r w : Int32} : Sp l s0 D kX8_ifCranked (jR 4 0 0) 0 0 [.ref q, .int r, .int w] T V X sz (mC T V X sz q (e_if r w) (fun y => isI y (aSum (aBad1 x.1 (xR x r) w.toInt) (xR x r).1.length)) x (x)) := by
  refine Sp.of pn_X8_ifCranked rfl (Nat.le_of_ble_eq_true rfl) ?_
  refine j_aload_n dX8_ifCranked_0 rfl ?_
  refine j_iload_n dX8_ifCranked_1 rfl ?_
  refine j_cSi dX8_ifCranked_2 hB mo_X8_isReel ml_X8_42 (sp_X8_isReel hB) rfl rfl ⟨rfl, rfl, by decide, by decide⟩ (Nat.le_of_ble_eq_true rfl) ⟨by decide, by decide⟩ (fun r_2 V_2 h_2 => ?_)
  obtain ⟨rfl, b_2⟩ := h_2
  refine m_ifneB (tgt := 12) dX8_ifCranked_5 (by decide) b_2 (fun c_5 => ?_) (fun c_5 => ?_)
  · obtain ⟨z, hz, z3⟩ := rOk.z c_5
    have hr0 := h.r hz z3
    have hrl : rlW x.1 (xR x r) := hW.1.r r.toInt
    have h10 : (xR x r).1.length ≤ 10 := hrl.2.2.2.1
    refine j_iload_n dX8_ifCranked_12 rfl ?_
    refine j_bipush (v := 10) dX8_ifCranked_13 (by decide) ?_
    refine j_bipush (v := 30) dX8_ifCranked_15 (by decide) ?_
    refine j_cSi dX8_ifCranked_17 hB mo_X8_within ml_X8_38 (sp_X8_within hB  (iV) (iC 10 (by decide)) (iC 30 (by decide))) rfl rfl ⟨rfl, rfl, by decide, by decide⟩ (Nat.le_of_ble_eq_true rfl) ⟨by decide, by decide⟩ (fun r_17 V_17 h_17 => ?_)
    obtain ⟨rfl, b_17⟩ := h_17
    replace b_17 : bQ _ (inR w 10 30) := b_17.cg (by omega)
    refine m_ifeqB (tgt := 27) dX8_ifCranked_20 (by decide) b_17 (fun c_20 => ?_) (fun c_20 => ?_)
    · refine j_iconst (v := 2) dX8_ifCranked_27 (by decide) ?_
      refine j_puti dX8_ifCranked_28 hB fp_X8_ifCranked_34 (by first | exact h0.1 | exact h0.2.1 | exact h0.2.2.1 | exact h0.2.2.2.1 | exact h0.2.2.2.2.1 | exact h0.2.2.2.2.2.1 | exact h0.2.2.2.2.2.2.1 | exact h0.2.2.2.2.2.2.2.1 | exact h0.2.2.2.2.2.2.2.2) (by rfl) ?_
      generalize hV1 : jset V q 0 2 = V1
      have t1 : isI (V1 q 0) 2 := by rw [← hV1, jset_eq]; decide
      have a1 : jAg V V1 q (q + 9) := by rw [← hV1]; exact jAg.rf.set (by omega) (by omega)
      have h1 : moIs T V1 q x := by rw [← hV1]; exact h.f (by decide) (by decide)
      refine j_aload_n dX8_ifCranked_31 rfl ?_
      refine j_geti dX8_ifCranked_32 hB fl_X8_34 (by first | exact h0.1 | exact h0.2.1 | exact h0.2.2.1 | exact h0.2.2.2.1 | exact h0.2.2.2.2.1 | exact h0.2.2.2.2.2.1 | exact h0.2.2.2.2.2.2.1 | exact h0.2.2.2.2.2.2.2.1 | exact h0.2.2.2.2.2.2.2.2) (by rfl) ?_
      refine m_if_le (tgt := 40) dX8_ifCranked_35 (by decide) (t1) (fun c_35 => ?_) (fun c_35 => ?_)
      · exact absurd c_35 (by decide)
      · refine j_iconst (v := 0) dX8_ifCranked_38 (by decide) ?_
        refine j_iret dX8_ifCranked_39 rfl (rfl) (by decide) (by decide) ?_
        exact mC.thr 1 (by show e_if r w = 2; unfold e_if; exact ((if_neg (fun z => z c_5)).trans (if_pos c_20))) a1 t1 rfl h1
    · refine j_iconst (v := 0) dX8_ifCranked_23 (by decide) ?_
      refine j_goto (tgt := 28) dX8_ifCranked_24 (by decide) ?_
      refine j_puti dX8_ifCranked_28 hB fp_X8_ifCranked_34 (by first | exact h0.1 | exact h0.2.1 | exact h0.2.2.1 | exact h0.2.2.2.1 | exact h0.2.2.2.2.1 | exact h0.2.2.2.2.2.1 | exact h0.2.2.2.2.2.2.1 | exact h0.2.2.2.2.2.2.2.1 | exact h0.2.2.2.2.2.2.2.2) (by rfl) ?_
      generalize hV1 : jset V q 0 0 = V1
      have t1 : isI (V1 q 0) 0 := by rw [← hV1, jset_eq]; decide
      have a1 : jAg V V1 q (q + 9) := by rw [← hV1]; exact jAg.rf.set (by omega) (by omega)
      have h1 : moIs T V1 q x := by rw [← hV1]; exact h.f (by decide) (by decide)
      refine j_aload_n dX8_ifCranked_31 rfl ?_
      refine j_geti dX8_ifCranked_32 hB fl_X8_34 (by first | exact h0.1 | exact h0.2.1 | exact h0.2.2.1 | exact h0.2.2.2.1 | exact h0.2.2.2.2.1 | exact h0.2.2.2.2.2.1 | exact h0.2.2.2.2.2.2.1 | exact h0.2.2.2.2.2.2.2.1 | exact h0.2.2.2.2.2.2.2.2) (by rfl) ?_
      refine m_if_le (tgt := 40) dX8_ifCranked_35 (by decide) (t1) (fun c_35 => ?_) (fun c_35 => ?_)
      · refine j_aload_n dX8_ifCranked_40 rfl ?_
        refine j_iload_n dX8_ifCranked_41 rfl ?_
        refine j_iload_n dX8_ifCranked_42 rfl ?_
        refine j_cVu dX8_ifCranked_43 hB mo_X8_lay ml_X8_113 (sp_X8_lay hB h0 hz z3 h1 hW.1 (Or.inr c_20.1)) (by first | exact h0.1 | exact h0.2.1 | exact h0.2.2.1 | exact h0.2.2.2.1 | exact h0.2.2.2.2.1 | exact h0.2.2.2.2.2.1 | exact h0.2.2.2.2.2.2.1 | exact h0.2.2.2.2.2.2.2.1 | exact h0.2.2.2.2.2.2.2.2) rfl rfl rfl rfl ⟨rfl, rfl, by decide, by decide⟩ (Nat.le_of_ble_eq_true rfl) ⟨by decide, by decide⟩ (fun V_43 h_43 => ?_)
        obtain ⟨gL, aL⟩ := h_43
        have h2 : moIs T V_43 q x := h1.kp (mKp.ag aL (by omega) (by omega))
        have a2 : jAg V V_43 q (q + 9) := a1.tr (aL.wide (by omega) (by omega))
        have t2 : isI (V_43 q 0) 0 := by rw [aL q (by omega)]; exact t1
        refine j_aload_n dX8_ifCranked_46 rfl ?_
        refine j_iload_n dX8_ifCranked_47 rfl ?_
        refine j_cVi dX8_ifCranked_48 hB mo_X8_bads ml_X8_173 (sp_X8_bads hB h0 hz z3 h2 hW.1 (Or.inr c_20.1) gL (Nat.le_refl _)) (by first | exact h0.1 | exact h0.2.1 | exact h0.2.2.1 | exact h0.2.2.2.1 | exact h0.2.2.2.2.1 | exact h0.2.2.2.2.2.1 | exact h0.2.2.2.2.2.2.1 | exact h0.2.2.2.2.2.2.2.1 | exact h0.2.2.2.2.2.2.2.2) rfl rfl rfl rfl ⟨rfl, rfl, by decide, by decide⟩ (Nat.le_of_ble_eq_true rfl) ⟨by decide, by decide⟩ (fun r_48 V_48 h_48 => ?_)
        obtain ⟨rfl, h_48⟩ := h_48
        refine j_iret dX8_ifCranked_51 rfl (rfl) (by decide) (by decide) ?_
        exact mC.ret (by show e_if r w = 0; unfold e_if; exact ((if_neg (fun z => z c_5)).trans (if_neg (fun z => z c_20)))) a2 t2 h_48 h2
      · exact absurd c_35 (by decide)
  · refine j_iconst (v := 1) dX8_ifCranked_8 (by decide) ?_
    refine j_goto (tgt := 28) dX8_ifCranked_9 (by decide) ?_
    refine j_puti dX8_ifCranked_28 hB fp_X8_ifCranked_34 (by first | exact h0.1 | exact h0.2.1 | exact h0.2.2.1 | exact h0.2.2.2.1 | exact h0.2.2.2.2.1 | exact h0.2.2.2.2.2.1 | exact h0.2.2.2.2.2.2.1 | exact h0.2.2.2.2.2.2.2.1 | exact h0.2.2.2.2.2.2.2.2) (by rfl) ?_
    generalize hV1 : jset V q 0 1 = V1
    have t1 : isI (V1 q 0) 1 := by rw [← hV1, jset_eq]; decide
    have a1 : jAg V V1 q (q + 9) := by rw [← hV1]; exact jAg.rf.set (by omega) (by omega)
    have h1 : moIs T V1 q x := by rw [← hV1]; exact h.f (by decide) (by decide)
    refine j_aload_n dX8_ifCranked_31 rfl ?_
    refine j_geti dX8_ifCranked_32 hB fl_X8_34 (by first | exact h0.1 | exact h0.2.1 | exact h0.2.2.1 | exact h0.2.2.2.1 | exact h0.2.2.2.2.1 | exact h0.2.2.2.2.2.1 | exact h0.2.2.2.2.2.2.1 | exact h0.2.2.2.2.2.2.2.1 | exact h0.2.2.2.2.2.2.2.2) (by rfl) ?_
    refine m_if_le (tgt := 40) dX8_ifCranked_35 (by decide) (t1) (fun c_35 => ?_) (fun c_35 => ?_)
    · exact absurd c_35 (by decide)
    · refine j_iconst (v := 0) dX8_ifCranked_38 (by decide) ?_
      refine j_iret dX8_ifCranked_39 rfl (rfl) (by decide) (by decide) ?_
      exact mC.thr 0 (by show e_if r w = 1; unfold e_if; exact (if_pos c_5)) a1 t1 rfl h1
set_option maxRecDepth 100000 in
set_option maxHeartbeats 4000000 in
theorem sp_X8_bestSpeed (hB : jB l s0 D) {q : Nat} (h0 : moT T q) {x : aX} (h : moIs T V q x) (hW : xW x) {r : Int32} : Sp l s0 D kX8_bestSpeed (jR 5 0 0) 0 0 [.ref q, .int r] T V X sz (mC T V X sz q (e_fit r) (fun y => isI y (bsV x.1 (xR x r))) x (x)) := by
  refine Sp.of pn_X8_bestSpeed rfl (Nat.le_of_ble_eq_true rfl) ?_
  refine j_aload_n dX8_bestSpeed_0 rfl ?_
  refine j_iload_n dX8_bestSpeed_1 rfl ?_
  refine j_cSi dX8_bestSpeed_2 hB mo_X8_isReel ml_X8_42 (sp_X8_isReel hB) rfl rfl ⟨rfl, rfl, by decide, by decide⟩ (Nat.le_of_ble_eq_true rfl) ⟨by decide, by decide⟩ (fun r_2 V_2 h_2 => ?_)
  obtain ⟨rfl, b_2⟩ := h_2
  refine m_ifeqB (tgt := 12) dX8_bestSpeed_5 (by decide) b_2 (fun c_5 => ?_) (fun c_5 => ?_)
  · refine j_iconst (v := 1) dX8_bestSpeed_12 (by decide) ?_
    refine j_puti dX8_bestSpeed_13 hB fp_X8_bestSpeed_34 (by first | exact h0.1 | exact h0.2.1 | exact h0.2.2.1 | exact h0.2.2.2.1 | exact h0.2.2.2.2.1 | exact h0.2.2.2.2.2.1 | exact h0.2.2.2.2.2.2.1 | exact h0.2.2.2.2.2.2.2.1 | exact h0.2.2.2.2.2.2.2.2) (by rfl) ?_
    generalize hV1 : jset V q 0 1 = V1
    have t1 : isI (V1 q 0) 1 := by rw [← hV1, jset_eq]; decide
    have a1 : jAg V V1 q (q + 9) := by rw [← hV1]; exact jAg.rf.set (by omega) (by omega)
    have h1 : moIs T V1 q x := by rw [← hV1]; exact h.f (by decide) (by decide)
    refine j_aload_n dX8_bestSpeed_16 rfl ?_
    refine j_geti dX8_bestSpeed_17 hB fl_X8_34 (by first | exact h0.1 | exact h0.2.1 | exact h0.2.2.1 | exact h0.2.2.2.1 | exact h0.2.2.2.2.1 | exact h0.2.2.2.2.2.1 | exact h0.2.2.2.2.2.2.1 | exact h0.2.2.2.2.2.2.2.1 | exact h0.2.2.2.2.2.2.2.2) (by rfl) ?_
    refine m_if_le (tgt := 27) dX8_bestSpeed_20 (by decide) (t1) (fun c_20 => ?_) (fun c_20 => ?_)
    · exact absurd c_20 (by decide)
    · refine j_iconst (v := 0) dX8_bestSpeed_23 (by decide) ?_
      refine j_goto (tgt := 32) dX8_bestSpeed_24 (by decide) ?_
      refine j_iret dX8_bestSpeed_32 rfl (rfl) (by decide) (by decide) ?_
      exact mC.thr 0 (by show e_fit r = 1; unfold e_fit; exact (if_pos c_5)) a1 t1 rfl h1
  · obtain ⟨z, hz, z3⟩ := rOk.z c_5
    have hr0 := h.r hz z3
    have hrl : rlW x.1 (xR x r) := hW.1.r r.toInt
    have h10 : (xR x r).1.length ≤ 10 := hrl.2.2.2.1
    refine j_iconst (v := 0) dX8_bestSpeed_8 (by decide) ?_
    refine j_goto (tgt := 13) dX8_bestSpeed_9 (by decide) ?_
    refine j_puti dX8_bestSpeed_13 hB fp_X8_bestSpeed_34 (by first | exact h0.1 | exact h0.2.1 | exact h0.2.2.1 | exact h0.2.2.2.1 | exact h0.2.2.2.2.1 | exact h0.2.2.2.2.2.1 | exact h0.2.2.2.2.2.2.1 | exact h0.2.2.2.2.2.2.2.1 | exact h0.2.2.2.2.2.2.2.2) (by rfl) ?_
    generalize hV1 : jset V q 0 0 = V1
    have t1 : isI (V1 q 0) 0 := by rw [← hV1, jset_eq]; decide
    have a1 : jAg V V1 q (q + 9) := by rw [← hV1]; exact jAg.rf.set (by omega) (by omega)
    have h1 : moIs T V1 q x := by rw [← hV1]; exact h.f (by decide) (by decide)
    refine j_aload_n dX8_bestSpeed_16 rfl ?_
    refine j_geti dX8_bestSpeed_17 hB fl_X8_34 (by first | exact h0.1 | exact h0.2.1 | exact h0.2.2.1 | exact h0.2.2.2.1 | exact h0.2.2.2.2.1 | exact h0.2.2.2.2.2.1 | exact h0.2.2.2.2.2.2.1 | exact h0.2.2.2.2.2.2.2.1 | exact h0.2.2.2.2.2.2.2.2) (by rfl) ?_
    refine m_if_le (tgt := 27) dX8_bestSpeed_20 (by decide) (t1) (fun c_20 => ?_) (fun c_20 => ?_)
    · refine j_aload_n dX8_bestSpeed_27 rfl ?_
      refine j_iload_n dX8_bestSpeed_28 rfl ?_
      refine j_cVi dX8_bestSpeed_29 hB mo_X8_bestSpeedNow ml_X8_203 (sp_X8_bestSpeedNow hB h0 hz z3 h1 hW.1) (by first | exact h0.1 | exact h0.2.1 | exact h0.2.2.1 | exact h0.2.2.2.1 | exact h0.2.2.2.2.1 | exact h0.2.2.2.2.2.1 | exact h0.2.2.2.2.2.2.1 | exact h0.2.2.2.2.2.2.2.1 | exact h0.2.2.2.2.2.2.2.2) rfl rfl rfl rfl ⟨rfl, rfl, by decide, by decide⟩ (Nat.le_of_ble_eq_true rfl) ⟨by decide, by decide⟩ (fun r_29 V_29 h_29 => ?_)
      obtain ⟨h_29, aL⟩ := h_29
      refine j_iret dX8_bestSpeed_32 rfl (rfl) (by decide) (by decide) ?_
      exact mC.ret (by show e_fit r = 0; unfold e_fit; exact (if_neg (fun z => z c_5))) (a1.tr (aL.wide (by omega) (by omega))) (by rw [aL q (by omega)]; exact t1) h_29 (h1.kp (mKp.ag aL (by omega) (by omega)))
    · exact absurd c_20 (by decide)
set_option maxRecDepth 100000 in
set_option maxHeartbeats 4000000 in
theorem sp_X8_offShare (hB : jB l s0 D) {q : Nat} (h0 : moT T q) {x : aX} (h : moIs T V q x) (hW : xW x) {r : Int32} : Sp l s0 D kX8_offShare (jR 6 0 0) 0 0 [.ref q, .int r] T V X sz (mCF T V X sz q (e_fit r) (ofV x.1 (xR x r)) x) := by
  refine Sp.of pn_X8_offShare rfl (Nat.le_of_ble_eq_true rfl) ?_
  refine j_aload_n dX8_offShare_0 rfl ?_
  refine j_iload_n dX8_offShare_1 rfl ?_
  refine j_cSi dX8_offShare_2 hB mo_X8_isReel ml_X8_42 (sp_X8_isReel hB) rfl rfl ⟨rfl, rfl, by decide, by decide⟩ (Nat.le_of_ble_eq_true rfl) ⟨by decide, by decide⟩ (fun r_2 V_2 h_2 => ?_)
  obtain ⟨rfl, b_2⟩ := h_2
  refine m_ifeqB (tgt := 12) dX8_offShare_5 (by decide) b_2 (fun c_5 => ?_) (fun c_5 => ?_)
  · refine j_iconst (v := 1) dX8_offShare_12 (by decide) ?_
    refine j_puti dX8_offShare_13 hB fp_X8_offShare_34 (by first | exact h0.1 | exact h0.2.1 | exact h0.2.2.1 | exact h0.2.2.2.1 | exact h0.2.2.2.2.1 | exact h0.2.2.2.2.2.1 | exact h0.2.2.2.2.2.2.1 | exact h0.2.2.2.2.2.2.2.1 | exact h0.2.2.2.2.2.2.2.2) (by rfl) ?_
    generalize hV1 : jset V q 0 1 = V1
    have t1 : isI (V1 q 0) 1 := by rw [← hV1, jset_eq]; decide
    have a1 : jAg V V1 q (q + 9) := by rw [← hV1]; exact jAg.rf.set (by omega) (by omega)
    have h1 : moIs T V1 q x := by rw [← hV1]; exact h.f (by decide) (by decide)
    refine j_aload_n dX8_offShare_16 rfl ?_
    refine j_geti dX8_offShare_17 hB fl_X8_34 (by first | exact h0.1 | exact h0.2.1 | exact h0.2.2.1 | exact h0.2.2.2.1 | exact h0.2.2.2.2.1 | exact h0.2.2.2.2.2.1 | exact h0.2.2.2.2.2.2.1 | exact h0.2.2.2.2.2.2.2.1 | exact h0.2.2.2.2.2.2.2.2) (by rfl) ?_
    refine m_if_le (tgt := 25) dX8_offShare_20 (by decide) (t1) (fun c_20 => ?_) (fun c_20 => ?_)
    · exact absurd c_20 (by decide)
    · refine j_fconst0 dX8_offShare_23 ?_
      refine j_fret dX8_offShare_24 rfl (by decide) (by decide) ?_
      exact ⟨_, rfl, rfl, rfl, rfl, a1, by rw [show e_fit r = 1 from if_pos c_5]; exact t1, fun z9 => absurd (z9.symm.trans (show e_fit r = 1 from if_pos c_5)) (by decide), h1⟩
  · obtain ⟨z, hz, z3⟩ := rOk.z c_5
    have hr0 := h.r hz z3
    have hrl : rlW x.1 (xR x r) := hW.1.r r.toInt
    have h10 : (xR x r).1.length ≤ 10 := hrl.2.2.2.1
    refine j_iconst (v := 0) dX8_offShare_8 (by decide) ?_
    refine j_goto (tgt := 13) dX8_offShare_9 (by decide) ?_
    refine j_puti dX8_offShare_13 hB fp_X8_offShare_34 (by first | exact h0.1 | exact h0.2.1 | exact h0.2.2.1 | exact h0.2.2.2.1 | exact h0.2.2.2.2.1 | exact h0.2.2.2.2.2.1 | exact h0.2.2.2.2.2.2.1 | exact h0.2.2.2.2.2.2.2.1 | exact h0.2.2.2.2.2.2.2.2) (by rfl) ?_
    generalize hV1 : jset V q 0 0 = V1
    have t1 : isI (V1 q 0) 0 := by rw [← hV1, jset_eq]; decide
    have a1 : jAg V V1 q (q + 9) := by rw [← hV1]; exact jAg.rf.set (by omega) (by omega)
    have h1 : moIs T V1 q x := by rw [← hV1]; exact h.f (by decide) (by decide)
    refine j_aload_n dX8_offShare_16 rfl ?_
    refine j_geti dX8_offShare_17 hB fl_X8_34 (by first | exact h0.1 | exact h0.2.1 | exact h0.2.2.1 | exact h0.2.2.2.1 | exact h0.2.2.2.2.1 | exact h0.2.2.2.2.2.1 | exact h0.2.2.2.2.2.2.1 | exact h0.2.2.2.2.2.2.2.1 | exact h0.2.2.2.2.2.2.2.2) (by rfl) ?_
    refine m_if_le (tgt := 25) dX8_offShare_20 (by decide) (t1) (fun c_20 => ?_) (fun c_20 => ?_)
    · refine j_aload_n dX8_offShare_25 rfl ?_
      refine j_iload_n dX8_offShare_26 rfl ?_
      refine j_iconst (v := 0) dX8_offShare_27 (by decide) ?_
      refine j_cVu dX8_offShare_28 hB mo_X8_lay ml_X8_113 (sp_X8_lay hB h0 hz z3 h1 hW.1 (Or.inl rfl)) (by first | exact h0.1 | exact h0.2.1 | exact h0.2.2.1 | exact h0.2.2.2.1 | exact h0.2.2.2.2.1 | exact h0.2.2.2.2.2.1 | exact h0.2.2.2.2.2.2.1 | exact h0.2.2.2.2.2.2.2.1 | exact h0.2.2.2.2.2.2.2.2) rfl rfl rfl rfl ⟨rfl, rfl, by decide, by decide⟩ (Nat.le_of_ble_eq_true rfl) ⟨by decide, by decide⟩ (fun V_28 h_28 => ?_)
      obtain ⟨gL, aL⟩ := h_28
      have h2 : moIs T V_28 q x := h1.kp (mKp.ag aL (by omega) (by omega))
      have a2 : jAg V V_28 q (q + 9) := a1.tr (aL.wide (by omega) (by omega))
      have t2 : isI (V_28 q 0) 0 := by rw [aL q (by omega)]; exact t1
      refine j_aload_n dX8_offShare_31 rfl ?_
      refine j_iload_n dX8_offShare_32 rfl ?_
      refine j_cVf dX8_offShare_33 hB mo_X8_offNow ml_X8_206 (sp_X8_offNow hB h0 hz z3 h2 hW.1 gL (Nat.le_refl _)) (by first | exact h0.1 | exact h0.2.1 | exact h0.2.2.1 | exact h0.2.2.2.1 | exact h0.2.2.2.2.1 | exact h0.2.2.2.2.2.1 | exact h0.2.2.2.2.2.2.1 | exact h0.2.2.2.2.2.2.2.1 | exact h0.2.2.2.2.2.2.2.2) rfl rfl rfl rfl ⟨rfl, rfl, by decide, by decide⟩ (Nat.le_of_ble_eq_true rfl) ⟨by decide, by decide⟩ (fun r_33 V_33 h_33 => ?_)
      obtain ⟨rfl, h_33⟩ := h_33
      refine j_fret dX8_offShare_36 rfl (by decide) (by decide) ?_
      exact ⟨_, rfl, rfl, rfl, rfl, a2, by rw [show e_fit r = 0 from if_neg (fun z9 => z9 c_5)]; exact t2, fun _ => h_33, h2⟩
    · exact absurd c_20 (by decide)
set_option maxRecDepth 100000 in
set_option maxHeartbeats 4000000 in
theorem sp_X8_meanSpeed (hB : jB l s0 D) {q : Nat} (h0 : moT T q) {x : aX} (h : moIs T V q x) (hW : xW x) {r : Int32} : Sp l s0 D kX8_meanSpeed (jR 6 0 0) 0 0 [.ref q, .int r] T V X sz (mCD T V X sz q (e_fit r) (mnV (xR x r)) x) := by
  refine Sp.of pn_X8_meanSpeed rfl (Nat.le_of_ble_eq_true rfl) ?_
  refine j_aload_n dX8_meanSpeed_0 rfl ?_
  refine j_iload_n dX8_meanSpeed_1 rfl ?_
  refine j_cSi dX8_meanSpeed_2 hB mo_X8_isReel ml_X8_42 (sp_X8_isReel hB) rfl rfl ⟨rfl, rfl, by decide, by decide⟩ (Nat.le_of_ble_eq_true rfl) ⟨by decide, by decide⟩ (fun r_2 V_2 h_2 => ?_)
  obtain ⟨rfl, b_2⟩ := h_2
  refine m_ifeqB (tgt := 12) dX8_meanSpeed_5 (by decide) b_2 (fun c_5 => ?_) (fun c_5 => ?_)
  · refine j_iconst (v := 1) dX8_meanSpeed_12 (by decide) ?_
    refine j_puti dX8_meanSpeed_13 hB fp_X8_meanSpeed_34 (by first | exact h0.1 | exact h0.2.1 | exact h0.2.2.1 | exact h0.2.2.2.1 | exact h0.2.2.2.2.1 | exact h0.2.2.2.2.2.1 | exact h0.2.2.2.2.2.2.1 | exact h0.2.2.2.2.2.2.2.1 | exact h0.2.2.2.2.2.2.2.2) (by rfl) ?_
    generalize hV1 : jset V q 0 1 = V1
    have t1 : isI (V1 q 0) 1 := by rw [← hV1, jset_eq]; decide
    have a1 : jAg V V1 q (q + 9) := by rw [← hV1]; exact jAg.rf.set (by omega) (by omega)
    have h1 : moIs T V1 q x := by rw [← hV1]; exact h.f (by decide) (by decide)
    refine j_aload_n dX8_meanSpeed_16 rfl ?_
    refine j_geti dX8_meanSpeed_17 hB fl_X8_34 (by first | exact h0.1 | exact h0.2.1 | exact h0.2.2.1 | exact h0.2.2.2.1 | exact h0.2.2.2.2.1 | exact h0.2.2.2.2.2.1 | exact h0.2.2.2.2.2.2.1 | exact h0.2.2.2.2.2.2.2.1 | exact h0.2.2.2.2.2.2.2.2) (by rfl) ?_
    refine m_if_le (tgt := 25) dX8_meanSpeed_20 (by decide) (t1) (fun c_20 => ?_) (fun c_20 => ?_)
    · exact absurd c_20 (by decide)
    · refine j_dconst0 dX8_meanSpeed_23 ?_
      refine j_dret dX8_meanSpeed_24 rfl (by decide) (by decide) ?_
      exact ⟨_, rfl, rfl, rfl, rfl, a1, by rw [show e_fit r = 1 from if_pos c_5]; exact t1, fun z9 => absurd (z9.symm.trans (show e_fit r = 1 from if_pos c_5)) (by decide), h1⟩
  · obtain ⟨z, hz, z3⟩ := rOk.z c_5
    have hr0 := h.r hz z3
    have hrl : rlW x.1 (xR x r) := hW.1.r r.toInt
    have h10 : (xR x r).1.length ≤ 10 := hrl.2.2.2.1
    refine j_iconst (v := 0) dX8_meanSpeed_8 (by decide) ?_
    refine j_goto (tgt := 13) dX8_meanSpeed_9 (by decide) ?_
    refine j_puti dX8_meanSpeed_13 hB fp_X8_meanSpeed_34 (by first | exact h0.1 | exact h0.2.1 | exact h0.2.2.1 | exact h0.2.2.2.1 | exact h0.2.2.2.2.1 | exact h0.2.2.2.2.2.1 | exact h0.2.2.2.2.2.2.1 | exact h0.2.2.2.2.2.2.2.1 | exact h0.2.2.2.2.2.2.2.2) (by rfl) ?_
    generalize hV1 : jset V q 0 0 = V1
    have t1 : isI (V1 q 0) 0 := by rw [← hV1, jset_eq]; decide
    have a1 : jAg V V1 q (q + 9) := by rw [← hV1]; exact jAg.rf.set (by omega) (by omega)
    have h1 : moIs T V1 q x := by rw [← hV1]; exact h.f (by decide) (by decide)
    refine j_aload_n dX8_meanSpeed_16 rfl ?_
    refine j_geti dX8_meanSpeed_17 hB fl_X8_34 (by first | exact h0.1 | exact h0.2.1 | exact h0.2.2.1 | exact h0.2.2.2.1 | exact h0.2.2.2.2.1 | exact h0.2.2.2.2.2.1 | exact h0.2.2.2.2.2.2.1 | exact h0.2.2.2.2.2.2.2.1 | exact h0.2.2.2.2.2.2.2.2) (by rfl) ?_
    refine m_if_le (tgt := 25) dX8_meanSpeed_20 (by decide) (t1) (fun c_20 => ?_) (fun c_20 => ?_)
    · refine j_aload_n dX8_meanSpeed_25 rfl ?_
      refine j_iload_n dX8_meanSpeed_26 rfl ?_
      refine j_iconst (v := 0) dX8_meanSpeed_27 (by decide) ?_
      refine j_cVu dX8_meanSpeed_28 hB mo_X8_lay ml_X8_113 (sp_X8_lay hB h0 hz z3 h1 hW.1 (Or.inl rfl)) (by first | exact h0.1 | exact h0.2.1 | exact h0.2.2.1 | exact h0.2.2.2.1 | exact h0.2.2.2.2.1 | exact h0.2.2.2.2.2.1 | exact h0.2.2.2.2.2.2.1 | exact h0.2.2.2.2.2.2.2.1 | exact h0.2.2.2.2.2.2.2.2) rfl rfl rfl rfl ⟨rfl, rfl, by decide, by decide⟩ (Nat.le_of_ble_eq_true rfl) ⟨by decide, by decide⟩ (fun V_28 h_28 => ?_)
      obtain ⟨gL, aL⟩ := h_28
      have h2 : moIs T V_28 q x := h1.kp (mKp.ag aL (by omega) (by omega))
      have a2 : jAg V V_28 q (q + 9) := a1.tr (aL.wide (by omega) (by omega))
      have t2 : isI (V_28 q 0) 0 := by rw [aL q (by omega)]; exact t1
      refine j_aload_n dX8_meanSpeed_31 rfl ?_
      refine j_iload_n dX8_meanSpeed_32 rfl ?_
      refine j_cVd dX8_meanSpeed_33 hB mo_X8_meanNow ml_X8_212 (sp_X8_meanNow hB h0 hz z3 h2 hW.1 gL (Nat.le_refl _)) (by first | exact h0.1 | exact h0.2.1 | exact h0.2.2.1 | exact h0.2.2.2.1 | exact h0.2.2.2.2.1 | exact h0.2.2.2.2.2.1 | exact h0.2.2.2.2.2.2.1 | exact h0.2.2.2.2.2.2.2.1 | exact h0.2.2.2.2.2.2.2.2) rfl rfl rfl rfl ⟨rfl, rfl, by decide, by decide⟩ (Nat.le_of_ble_eq_true rfl) ⟨by decide, by decide⟩ (fun r_33 V_33 h_33 => ?_)
      obtain ⟨rfl, h_33⟩ := h_33
      refine j_dret dX8_meanSpeed_36 rfl (by decide) (by decide) ?_
      exact ⟨_, rfl, rfl, rfl, rfl, a2, by rw [show e_fit r = 0 from if_neg (fun z9 => z9 c_5)]; exact t2, fun _ => h_33, h2⟩
    · exact absurd c_20 (by decide)
end JM12
