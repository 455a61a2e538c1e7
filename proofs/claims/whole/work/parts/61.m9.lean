/-! CueSheetsModel: the public methods that change it -/
theorem xR_set {x : aX} {r : Int32} {rr : aR} : xR (xSet x r rr) r = rr := sR_set
theorem zPc.add {Z Z' : Nat → Int32} {s : aS} {a b c : Int32} (h : zPc Z s) (hp : pcW s) (e0 : (Z' 201).toInt = (Z 201).toInt + 1) (e1 : Z' (202 + 3 * s.2.1.1.length + 0) = a) (e2 : Z' (202 + 3 * s.2.1.1.length + 1) = b) (e3 : Z' (202 + 3 * s.2.1.1.length + 2) = c) (e : ∀ t, ¬ t = 201 → t < 202 + 3 * s.2.1.1.length → Z' t = Z t) {A : aR × aR × aR} {C : Int32 × Int32} : zPc Z' (A, (s.2.1.1 ++ [a], s.2.1.2.1 ++ [b], s.2.1.2.2 ++ [c]), C) := by
  obtain ⟨h1, h2⟩ := h
  refine ⟨?_, fun k hk => ?_⟩
  · show (Z' 201).toInt = ((s.2.1.1 ++ [a]).length : Nat)
    rw [e0, h1, List.length_append]; rfl
  · have hk : k < (s.2.1.1 ++ [a]).length := hk
    rw [List.length_append] at hk
    have hk : k < s.2.1.1.length + 1 := hk
    show Z' (202 + 3 * k) = atZ (s.2.1.1 ++ [a]) k ∧ Z' (202 + 3 * k + 1) = atZ (s.2.1.2.1 ++ [b]) k ∧ Z' (202 + 3 * k + 2) = atZ (s.2.1.2.2 ++ [c]) k
    rw [atZ_app, atZ_app, atZ_app, hp.1, hp.2.1]
    by_cases g : k < s.2.1.1.length
    · rw [if_pos g, if_pos g, if_pos g, e _ (by omega) (by omega), e _ (by omega) (by omega), e _ (by omega) (by omega)]
      exact h2 k g
    · have : k = s.2.1.1.length := by omega
      subst this
      rw [if_neg g, if_neg g, if_neg g, Nat.sub_self]
      exact ⟨e1, e2, e3⟩
section JM9
variable {l : Launch} {s0 : State} {D : jD} {T : jT} {V : jV} {X : jX} {sz : Nat}
set_option maxRecDepth 100000 in
set_option maxHeartbeats 4000000 in
theorem sp_X8_addScene (hB : jB l s0 D) {q : Nat} (h0 : moT T q) {x : aX} (h : moIs T V q x) (hW : xW x) {r len : Int32} : Sp l s0 D kX8_addScene (jR 2 0 0) 0 0 [.ref q, .int r, .int len] T V X sz (mC T V X sz q (e_add x r len) (fun y => isI y (v_add x r)) x (s_add x r len)) := by
  refine Sp.of pn_X8_addScene rfl (Nat.le_of_ble_eq_true rfl) ?_
  refine j_iload_n dX8_addScene_0 rfl ?_
  refine j_cSi dX8_addScene_1 hB mo_X8_isReel ml_X8_42 (sp_X8_isReel hB) rfl rfl ⟨rfl, rfl, by decide, by decide⟩ (Nat.le_of_ble_eq_true rfl) ⟨by decide, by decide⟩ (fun r_1 V_1 h_1 => ?_)
  obtain ⟨rfl, b_1⟩ := h_1
  refine m_ifneB (tgt := 14) dX8_addScene_4 (by decide) b_1 (fun c_4 => ?_) (fun c_4 => ?_)
  · obtain ⟨z, hz, z3⟩ := rOk.z c_4
    have hr0 := h.r hz z3
    have hrl := hW.1.r r.toInt
    have h10 : (xR x r).1.length ≤ 10 := hrl.2.2.2.1
    refine j_aload_n dX8_addScene_14 rfl ?_
    refine j_iload_n dX8_addScene_15 rfl ?_
    refine j_iconst (v := 1) dX8_addScene_16 (by decide) ?_
    refine j_sipush (v := 900) dX8_addScene_17 (by decide) ?_
    refine j_cSi dX8_addScene_20 hB mo_X8_within ml_X8_38 (sp_X8_within hB  (iV) (iC 1 (by decide)) (iC 900 (by decide))) rfl rfl ⟨rfl, rfl, by decide, by decide⟩ (Nat.le_of_ble_eq_true rfl) ⟨by decide, by decide⟩ (fun r_20 V_20 h_20 => ?_)
    obtain ⟨rfl, b_20⟩ := h_20
    replace b_20 : bQ _ (inR len 1 900) := b_20.cg (by omega)
    refine m_ifneB (tgt := 30) dX8_addScene_23 (by decide) b_20 (fun c_23 => ?_) (fun c_23 => ?_)
    · refine j_aload_n dX8_addScene_30 rfl ?_
      refine j_iload_n dX8_addScene_31 rfl ?_
      refine j_cVi dX8_addScene_32 hB mo_X8_scenes ml_X8_46 (sp_X8_scenes hB h0 (ixk (k := z) (hz) (by omega)) z3) (by first | exact h0.1 | exact h0.2.1 | exact h0.2.2.1 | exact h0.2.2.2.1 | exact h0.2.2.2.2.1 | exact h0.2.2.2.2.2.1 | exact h0.2.2.2.2.2.2.1 | exact h0.2.2.2.2.2.2.2.1 | exact h0.2.2.2.2.2.2.2.2) rfl rfl rfl rfl ⟨rfl, rfl, by decide, by decide⟩ (Nat.le_of_ble_eq_true rfl) ⟨by decide, by decide⟩ (fun r_32 V_32 h_32 => ?_)
      obtain ⟨rfl, h_32⟩ := h_32
      subst h_32
      refine j_bipush (v := 10) dX8_addScene_35 (by decide) ?_
      refine m_icmp_ne (tgt := 44) dX8_addScene_37 (by decide) (hr0.1) (iC 10 (by decide)) (fun c_37 => ?_) (fun c_37 => ?_)
      · refine j_iconst (v := 0) dX8_addScene_44 (by decide) ?_
        refine j_puti dX8_addScene_45 hB fp_X8_addScene_34 (by first | exact h0.1 | exact h0.2.1 | exact h0.2.2.1 | exact h0.2.2.2.1 | exact h0.2.2.2.2.1 | exact h0.2.2.2.2.2.1 | exact h0.2.2.2.2.2.2.1 | exact h0.2.2.2.2.2.2.2.1 | exact h0.2.2.2.2.2.2.2.2) (by rfl) ?_
        generalize hV1 : jset V q 0 0 = V1
        have t1 : isI (V1 q 0) 0 := by rw [← hV1, jset_eq]; decide
        have a1 : jAg V V1 q (q + 9) := by rw [← hV1]; exact jAg.rf.set (by omega) (by omega)
        have h1 : moIs T V1 q x := by rw [← hV1]; exact h.f (by decide) (by decide)
        refine j_aload_n dX8_addScene_48 rfl ?_
        refine j_geti dX8_addScene_49 hB fl_X8_34 (by first | exact h0.1 | exact h0.2.1 | exact h0.2.2.1 | exact h0.2.2.2.1 | exact h0.2.2.2.2.1 | exact h0.2.2.2.2.2.1 | exact h0.2.2.2.2.2.2.1 | exact h0.2.2.2.2.2.2.2.1 | exact h0.2.2.2.2.2.2.2.2) (by rfl) ?_
        refine m_if_le (tgt := 57) dX8_addScene_52 (by decide) (t1) (fun c_52 => ?_) (fun c_52 => ?_)
        · refine j_aload_n dX8_addScene_57 rfl ?_
          refine j_cVu dX8_addScene_58 hB mo_X8_save ml_X8_91 (sp_X8_save hB h0 h1 hW) (by first | exact h0.1 | exact h0.2.1 | exact h0.2.2.1 | exact h0.2.2.2.1 | exact h0.2.2.2.2.1 | exact h0.2.2.2.2.2.1 | exact h0.2.2.2.2.2.2.1 | exact h0.2.2.2.2.2.2.2.1 | exact h0.2.2.2.2.2.2.2.2) rfl rfl rfl rfl ⟨rfl, rfl, by decide, by decide⟩ (Nat.le_of_ble_eq_true rfl) ⟨by decide, by decide⟩ (fun V_58 h_58 => ?_)
          obtain ⟨hS, eS, tS, aS, xS⟩ := h_58
          refine j_aload_n dX8_addScene_61 rfl ?_
          refine j_iload_n dX8_addScene_62 rfl ?_
          refine j_iload_n dX8_addScene_63 rfl ?_
          refine j_ldc dX8_addScene_64 hB kc_X8_62 ?_
          refine j_iconst (v := 0) dX8_addScene_66 (by decide) ?_
          refine j_iconst (v := 0) dX8_addScene_67 (by decide) ?_
          refine j_cVu dX8_addScene_68 hB mo_X8_bring ml_X8_94 (sp_X8_bring hB h0 hz z3 hS hW.1 (show (xR x r).1.length < 10 by omega)) (by first | exact h0.1 | exact h0.2.1 | exact h0.2.2.1 | exact h0.2.2.2.1 | exact h0.2.2.2.2.1 | exact h0.2.2.2.2.2.1 | exact h0.2.2.2.2.2.2.1 | exact h0.2.2.2.2.2.2.2.1 | exact h0.2.2.2.2.2.2.2.2) rfl rfl rfl rfl ⟨rfl, rfl, by decide, by decide⟩ (Nat.le_of_ble_eq_true rfl) ⟨by decide, by decide⟩ (fun V_68 h_68 => ?_)
          obtain ⟨zB, aB⟩ := h_68
          have h3 : moIs T V_68 q (s_add x r len) := hS.z aB zB
          have hr3 : zRl (V_68 (q + 1)) (67 * z) (rExt (xR x r) len NN 0 0) := by have := h3.r hz z3; unfold s_add at this; rw [xR_set] at this; exact this
          have l3 : (rExt (xR x r) len NN 0 0).1.length = (xR x r).1.length + 1 := List.length_append
          refine j_aload_n dX8_addScene_71 rfl ?_
          refine j_iload_n dX8_addScene_72 rfl ?_
          refine j_cVi dX8_addScene_73 hB mo_X8_scenes ml_X8_46 (sp_X8_scenes hB h0 (ixk (k := z) (hz) (by omega)) z3) (by first | exact h0.1 | exact h0.2.1 | exact h0.2.2.1 | exact h0.2.2.2.1 | exact h0.2.2.2.2.1 | exact h0.2.2.2.2.2.1 | exact h0.2.2.2.2.2.2.1 | exact h0.2.2.2.2.2.2.2.1 | exact h0.2.2.2.2.2.2.2.2) rfl rfl rfl rfl ⟨rfl, rfl, by decide, by decide⟩ (Nat.le_of_ble_eq_true rfl) ⟨by decide, by decide⟩ (fun r_73 V_73 h_73 => ?_)
          obtain ⟨rfl, h_73⟩ := h_73
          subst h_73
          refine j_iconst (v := 1) dX8_addScene_76 (by decide) ?_
          refine j_isub dX8_addScene_77 ?_
          refine j_iret dX8_addScene_78 rfl (rfl) (by decide) (by decide) ?_
          exact mC.ret (by show e_add x r len = 0; unfold e_add; exact ((if_neg (fun z => z c_4)).trans ((if_neg (fun z => z c_23)).trans (if_neg (by omega))))) ((a1.tr aS).tr (aB.wide (by omega) (by omega))) (by rw [aB q (by omega), tS]; exact t1) (ixz (iS (hr3.1) (iC 1 (by decide)) (by omega)) (by unfold v_add; omega)) h3
        · exact absurd c_52 (by decide)
      · refine j_iconst (v := 3) dX8_addScene_40 (by decide) ?_
        refine j_goto (tgt := 45) dX8_addScene_41 (by decide) ?_
        refine j_puti dX8_addScene_45 hB fp_X8_addScene_34 (by first | exact h0.1 | exact h0.2.1 | exact h0.2.2.1 | exact h0.2.2.2.1 | exact h0.2.2.2.2.1 | exact h0.2.2.2.2.2.1 | exact h0.2.2.2.2.2.2.1 | exact h0.2.2.2.2.2.2.2.1 | exact h0.2.2.2.2.2.2.2.2) (by rfl) ?_
        generalize hV1 : jset V q 0 3 = V1
        have t1 : isI (V1 q 0) 3 := by rw [← hV1, jset_eq]; decide
        have a1 : jAg V V1 q (q + 9) := by rw [← hV1]; exact jAg.rf.set (by omega) (by omega)
        have h1 : moIs T V1 q x := by rw [← hV1]; exact h.f (by decide) (by decide)
        refine j_aload_n dX8_addScene_48 rfl ?_
        refine j_geti dX8_addScene_49 hB fl_X8_34 (by first | exact h0.1 | exact h0.2.1 | exact h0.2.2.1 | exact h0.2.2.2.1 | exact h0.2.2.2.2.1 | exact h0.2.2.2.2.2.1 | exact h0.2.2.2.2.2.2.1 | exact h0.2.2.2.2.2.2.2.1 | exact h0.2.2.2.2.2.2.2.2) (by rfl) ?_
        refine m_if_le (tgt := 57) dX8_addScene_52 (by decide) (t1) (fun c_52 => ?_) (fun c_52 => ?_)
        · exact absurd c_52 (by decide)
        · refine j_iconst (v := 0) dX8_addScene_55 (by decide) ?_
          refine j_iret dX8_addScene_56 rfl (rfl) (by decide) (by decide) ?_
          exact mC.thr 2 (by show e_add x r len = 3; unfold e_add; exact ((if_neg (fun z => z c_4)).trans ((if_neg (fun z => z c_23)).trans (if_pos (by omega))))) a1 t1 rfl h1
    · refine j_iconst (v := 2) dX8_addScene_26 (by decide) ?_
      refine j_goto (tgt := 45) dX8_addScene_27 (by decide) ?_
      refine j_puti dX8_addScene_45 hB fp_X8_addScene_34 (by first | exact h0.1 | exact h0.2.1 | exact h0.2.2.1 | exact h0.2.2.2.1 | exact h0.2.2.2.2.1 | exact h0.2.2.2.2.2.1 | exact h0.2.2.2.2.2.2.1 | exact h0.2.2.2.2.2.2.2.1 | exact h0.2.2.2.2.2.2.2.2) (by rfl) ?_
      generalize hV1 : jset V q 0 2 = V1
      have t1 : isI (V1 q 0) 2 := by rw [← hV1, jset_eq]; decide
      have a1 : jAg V V1 q (q + 9) := by rw [← hV1]; exact jAg.rf.set (by omega) (by omega)
      have h1 : moIs T V1 q x := by rw [← hV1]; exact h.f (by decide) (by decide)
      refine j_aload_n dX8_addScene_48 rfl ?_
      refine j_geti dX8_addScene_49 hB fl_X8_34 (by first | exact h0.1 | exact h0.2.1 | exact h0.2.2.1 | exact h0.2.2.2.1 | exact h0.2.2.2.2.1 | exact h0.2.2.2.2.2.1 | exact h0.2.2.2.2.2.2.1 | exact h0.2.2.2.2.2.2.2.1 | exact h0.2.2.2.2.2.2.2.2) (by rfl) ?_
      refine m_if_le (tgt := 57) dX8_addScene_52 (by decide) (t1) (fun c_52 => ?_) (fun c_52 => ?_)
      · exact absurd c_52 (by decide)
      · refine j_iconst (v := 0) dX8_addScene_55 (by decide) ?_
        refine j_iret dX8_addScene_56 rfl (rfl) (by decide) (by decide) ?_
        exact mC.thr 1 (by show e_add x r len = 2; unfold e_add; exact ((if_neg (fun z => z c_4)).trans (if_pos c_23))) a1 t1 rfl h1
  · refine j_aload_n dX8_addScene_7 rfl ?_
    refine j_iconst (v := 1) dX8_addScene_8 (by decide) ?_
    refine j_puti dX8_addScene_9 hB fp_X8_addScene_34 (by first | exact h0.1 | exact h0.2.1 | exact h0.2.2.1 | exact h0.2.2.2.1 | exact h0.2.2.2.2.1 | exact h0.2.2.2.2.2.1 | exact h0.2.2.2.2.2.2.1 | exact h0.2.2.2.2.2.2.2.1 | exact h0.2.2.2.2.2.2.2.2) (by rfl) ?_
    generalize hV1 : jset V q 0 1 = V1
    have t1 : isI (V1 q 0) 1 := by rw [← hV1, jset_eq]; decide
    have a1 : jAg V V1 q (q + 9) := by rw [← hV1]; exact jAg.rf.set (by omega) (by omega)
    have h1 : moIs T V1 q x := by rw [← hV1]; exact h.f (by decide) (by decide)
    refine j_iconst (v := 0) dX8_addScene_12 (by decide) ?_
    refine j_iret dX8_addScene_13 rfl (rfl) (by decide) (by decide) ?_
    exact mC.thr 0 (by show e_add x r len = 1; unfold e_add; exact (if_pos c_4)) a1 t1 rfl h1
set_option maxRecDepth 100000 in
set_option maxHeartbeats 4000000 in
theorem sp_X8_removeScene (hB : jB l s0 D) {q : Nat} (h0 : moT T q) {x : aX} (h : moIs T V q x) (hW : xW x) {r s : Int32} : Sp l s0 D kX8_removeScene (jR 3 0 0) 0 0 [.ref q, .int r, .int s] T V X sz (mC T V X sz q (e_rem x r s) (fun y => isI y (v_rem x r)) x (s_rem x r s)) := by
  refine Sp.of pn_X8_removeScene rfl (Nat.le_of_ble_eq_true rfl) ?_
  refine j_aload_n dX8_removeScene_0 rfl ?_
  refine j_aload_n dX8_removeScene_1 rfl ?_
  refine j_iload_n dX8_removeScene_2 rfl ?_
  refine j_iload_n dX8_removeScene_3 rfl ?_
  refine j_cVi dX8_removeScene_4 hB mo_X8_isScene ml_X8_98 (sp_X8_isScene hB h0 h hW.1) (by first | exact h0.1 | exact h0.2.1 | exact h0.2.2.1 | exact h0.2.2.2.1 | exact h0.2.2.2.2.1 | exact h0.2.2.2.2.2.1 | exact h0.2.2.2.2.2.2.1 | exact h0.2.2.2.2.2.2.2.1 | exact h0.2.2.2.2.2.2.2.2) rfl rfl rfl rfl ⟨rfl, rfl, by decide, by decide⟩ (Nat.le_of_ble_eq_true rfl) ⟨by decide, by decide⟩ (fun r_4 V_4 h_4 => ?_)
  obtain ⟨rfl, b_4⟩ := h_4
  refine m_ifeqB (tgt := 14) dX8_removeScene_7 (by decide) b_4 (fun c_7 => ?_) (fun c_7 => ?_)
  · refine j_iconst (v := 1) dX8_removeScene_14 (by decide) ?_
    refine j_puti dX8_removeScene_15 hB fp_X8_removeScene_34 (by first | exact h0.1 | exact h0.2.1 | exact h0.2.2.1 | exact h0.2.2.2.1 | exact h0.2.2.2.2.1 | exact h0.2.2.2.2.2.1 | exact h0.2.2.2.2.2.2.1 | exact h0.2.2.2.2.2.2.2.1 | exact h0.2.2.2.2.2.2.2.2) (by rfl) ?_
    generalize hV1 : jset V q 0 1 = V1
    have t1 : isI (V1 q 0) 1 := by rw [← hV1, jset_eq]; decide
    have a1 : jAg V V1 q (q + 9) := by rw [← hV1]; exact jAg.rf.set (by omega) (by omega)
    have h1 : moIs T V1 q x := by rw [← hV1]; exact h.f (by decide) (by decide)
    refine j_aload_n dX8_removeScene_18 rfl ?_
    refine j_geti dX8_removeScene_19 hB fl_X8_34 (by first | exact h0.1 | exact h0.2.1 | exact h0.2.2.1 | exact h0.2.2.2.1 | exact h0.2.2.2.2.1 | exact h0.2.2.2.2.2.1 | exact h0.2.2.2.2.2.2.1 | exact h0.2.2.2.2.2.2.2.1 | exact h0.2.2.2.2.2.2.2.2) (by rfl) ?_
    refine m_if_le (tgt := 27) dX8_removeScene_22 (by decide) (t1) (fun c_22 => ?_) (fun c_22 => ?_)
    · exact absurd c_22 (by decide)
    · refine j_iconst (v := 0) dX8_removeScene_25 (by decide) ?_
      refine j_iret dX8_removeScene_26 rfl (rfl) (by decide) (by decide) ?_
      exact mC.thr 0 (by show e_rem x r s = 1; unfold e_rem; exact (if_pos c_7)) a1 t1 rfl h1
  · obtain ⟨z, hz, z3⟩ := rOk.z c_7.1
    have hr0 := h.r hz z3
    have hrl := hW.1.r r.toInt
    have h10 : (xR x r).1.length ≤ 10 := hrl.2.2.2.1
    obtain ⟨kk, hkk, hkl⟩ : ∃ kk : Nat, s.toInt = kk ∧ kk < (xR x r).1.length := ⟨s.toInt.toNat, by have := c_7.2; omega, by have := c_7.2; omega⟩
    refine j_iconst (v := 0) dX8_removeScene_10 (by decide) ?_
    refine j_goto (tgt := 15) dX8_removeScene_11 (by decide) ?_
    refine j_puti dX8_removeScene_15 hB fp_X8_removeScene_34 (by first | exact h0.1 | exact h0.2.1 | exact h0.2.2.1 | exact h0.2.2.2.1 | exact h0.2.2.2.2.1 | exact h0.2.2.2.2.2.1 | exact h0.2.2.2.2.2.2.1 | exact h0.2.2.2.2.2.2.2.1 | exact h0.2.2.2.2.2.2.2.2) (by rfl) ?_
    generalize hV1 : jset V q 0 0 = V1
    have t1 : isI (V1 q 0) 0 := by rw [← hV1, jset_eq]; decide
    have a1 : jAg V V1 q (q + 9) := by rw [← hV1]; exact jAg.rf.set (by omega) (by omega)
    have h1 : moIs T V1 q x := by rw [← hV1]; exact h.f (by decide) (by decide)
    refine j_aload_n dX8_removeScene_18 rfl ?_
    refine j_geti dX8_removeScene_19 hB fl_X8_34 (by first | exact h0.1 | exact h0.2.1 | exact h0.2.2.1 | exact h0.2.2.2.1 | exact h0.2.2.2.2.1 | exact h0.2.2.2.2.2.1 | exact h0.2.2.2.2.2.2.1 | exact h0.2.2.2.2.2.2.2.1 | exact h0.2.2.2.2.2.2.2.2) (by rfl) ?_
    refine m_if_le (tgt := 27) dX8_removeScene_22 (by decide) (t1) (fun c_22 => ?_) (fun c_22 => ?_)
    · refine j_aload_n dX8_removeScene_27 rfl ?_
      refine j_cVu dX8_removeScene_28 hB mo_X8_save ml_X8_91 (sp_X8_save hB h0 h1 hW) (by first | exact h0.1 | exact h0.2.1 | exact h0.2.2.1 | exact h0.2.2.2.1 | exact h0.2.2.2.2.1 | exact h0.2.2.2.2.2.1 | exact h0.2.2.2.2.2.2.1 | exact h0.2.2.2.2.2.2.2.1 | exact h0.2.2.2.2.2.2.2.2) rfl rfl rfl rfl ⟨rfl, rfl, by decide, by decide⟩ (Nat.le_of_ble_eq_true rfl) ⟨by decide, by decide⟩ (fun V_28 h_28 => ?_)
      obtain ⟨hS, eS, tS, aS, xS⟩ := h_28
      have hn1 : isI (V_28 (q + 1) (67 * z)) (xR x r).1.length := by rw [eS]; exact (h1.r hz z3).1
      have hr2 : zRl (V_28 (q + 1)) (67 * z) (xR x r) := by rw [eS]; exact h1.r hz z3
      refine j_aload_n dX8_removeScene_31 rfl ?_
      refine j_getr dX8_removeScene_32 hB fl_X8_7 (by first | exact h0.1 | exact h0.2.1 | exact h0.2.2.1 | exact h0.2.2.2.1 | exact h0.2.2.2.2.1 | exact h0.2.2.2.2.2.1 | exact h0.2.2.2.2.2.2.1 | exact h0.2.2.2.2.2.2.2.1 | exact h0.2.2.2.2.2.2.2.2) (by rfl) ?_
      refine j_bipush (v := 67) dX8_removeScene_35 (by decide) ?_
      refine j_iload_n dX8_removeScene_37 rfl ?_
      refine j_imul dX8_removeScene_38 ?_
      refine j_iconst (v := 0) dX8_removeScene_39 (by decide) ?_
      refine j_iadd dX8_removeScene_40 ?_
      refine j_dup2 dX8_removeScene_41 rfl rfl ?_
      refine m_iald (k := 67 * z) dX8_removeScene_42 hB (by first | exact h0.1 | exact h0.2.1 | exact h0.2.2.1 | exact h0.2.2.2.1 | exact h0.2.2.2.2.1 | exact h0.2.2.2.2.2.1 | exact h0.2.2.2.2.2.2.1 | exact h0.2.2.2.2.2.2.2.1 | exact h0.2.2.2.2.2.2.2.2) (ixk (iA (iM (iC 67 (by decide)) (hz) (by omega)) (iC 0 (by decide)) (by omega)) (by omega)) (by omega) ?_
      refine j_iconst (v := 1) dX8_removeScene_43 (by decide) ?_
      refine j_isub dX8_removeScene_44 ?_
      refine m_iast (k := 67 * z) dX8_removeScene_45 hB (by first | exact h0.1 | exact h0.2.1 | exact h0.2.2.1 | exact h0.2.2.2.1 | exact h0.2.2.2.2.1 | exact h0.2.2.2.2.2.1 | exact h0.2.2.2.2.2.2.1 | exact h0.2.2.2.2.2.2.2.1 | exact h0.2.2.2.2.2.2.2.2) (ixk (iA (iM (iC 67 (by decide)) (hz) (by omega)) (iC 0 (by decide)) (by omega)) (by omega)) (by omega) ?_
      refine j_bipush (v := 67) dX8_removeScene_46 (by decide) ?_
      refine j_iload_n dX8_removeScene_48 rfl ?_
      refine j_imul dX8_removeScene_49 ?_
      refine j_iconst (v := 1) dX8_removeScene_50 (by decide) ?_
      refine j_iadd dX8_removeScene_51 ?_
      refine j_istore_n (L' := [(0, _), (1, _), (2, _), (3, _)]) dX8_removeScene_52 (by decide) rfl ?_
      refine j_iload_n dX8_removeScene_53 rfl ?_
      refine j_iconst (v := 4) dX8_removeScene_54 (by decide) ?_
      refine j_iload_n dX8_removeScene_55 rfl ?_
      refine j_imul dX8_removeScene_56 ?_
      refine j_iadd dX8_removeScene_57 ?_
      refine j_istore (L' := [(0, _), (1, _), (2, _), (3, _), (4, _)]) dX8_removeScene_58 (by decide) rfl ?_
      have loop : ∀ (n t : Nat) (i pl : Int32) (V3 : jV), t + n = 4 * ((xR x r).1.length - 1 - kk) → pl.toInt = ((67 * z + 1 : Nat) : Int) → i.toInt = ((67 * z + 1 + 4 * kk + t : Nat) : Int) → jAg V_28 V3 (q + 1) (q + 2) → (V3 (q + 1) (67 * z)).toInt = ((xR x r).1.length - 1 : Nat) → (∀ a : Nat, ¬ a = 67 * z → (a < 67 * z + 1 + 4 * kk ∨ 67 * z + 1 + 4 * kk + t ≤ a) → V3 (q + 1) a = V_28 (q + 1) a) → (∀ a : Nat, 67 * z + 1 + 4 * kk ≤ a → a < 67 * z + 1 + 4 * kk + t → V3 (q + 1) a = V_28 (q + 1) (a + 4)) → J l s0 D kX8_removeScene (jR 3 0 0) 0 0 (mC T V X sz q (e_rem x r s) (fun y => isI y (v_rem x r)) x (s_rem x r s)) 60 [(0, .ref q), (1, .int r), (2, .int s), (3, .int pl), (4, .int i)] [] T V3 X sz 0 0 := by
        intro n
        refine Nat.strongRecOn n ?_
        clear n
        intro n ih t i pl V3 hn hpl hi ha hb0 e1 e2
        refine j_iload dX8_removeScene_60 rfl ?_
        refine j_iload_n dX8_removeScene_62 rfl ?_
        refine j_iconst (v := 4) dX8_removeScene_63 (by decide) ?_
        refine j_aload_n dX8_removeScene_64 rfl ?_
        refine j_iload_n dX8_removeScene_65 rfl ?_
        refine j_cVi dX8_removeScene_66 hB mo_X8_scenes ml_X8_46 (sp_X8_scenes hB h0 (ixk (k := z) (hz) (by omega)) z3) (by first | exact h0.1 | exact h0.2.1 | exact h0.2.2.1 | exact h0.2.2.2.1 | exact h0.2.2.2.2.1 | exact h0.2.2.2.2.2.1 | exact h0.2.2.2.2.2.2.1 | exact h0.2.2.2.2.2.2.2.1 | exact h0.2.2.2.2.2.2.2.2) rfl rfl rfl rfl ⟨rfl, rfl, by decide, by decide⟩ (Nat.le_of_ble_eq_true rfl) ⟨by decide, by decide⟩ (fun r_66 V_66 h_66 => ?_)
        obtain ⟨rfl, h_66⟩ := h_66
        subst h_66
        refine j_imul dX8_removeScene_69 ?_
        refine j_iadd dX8_removeScene_70 ?_
        refine m_icmp_ge (tgt := 96) dX8_removeScene_71 (by decide) (hi) (iA (hpl) (iM (iC 4 (by decide)) (hb0) (by omega)) (by omega)) (fun c_71 => ?_) (fun c_71 => ?_)
        · refine j_aload_n dX8_removeScene_96 rfl ?_
          refine j_iload_n dX8_removeScene_97 rfl ?_
          refine j_cVi dX8_removeScene_98 hB mo_X8_scenes ml_X8_46 (sp_X8_scenes hB h0 (ixk (k := z) (hz) (by omega)) z3) (by first | exact h0.1 | exact h0.2.1 | exact h0.2.2.1 | exact h0.2.2.2.1 | exact h0.2.2.2.2.1 | exact h0.2.2.2.2.2.1 | exact h0.2.2.2.2.2.2.1 | exact h0.2.2.2.2.2.2.2.1 | exact h0.2.2.2.2.2.2.2.2) rfl rfl rfl rfl ⟨rfl, rfl, by decide, by decide⟩ (Nat.le_of_ble_eq_true rfl) ⟨by decide, by decide⟩ (fun r_98 V_98 h_98 => ?_)
          obtain ⟨rfl, h_98⟩ := h_98
          subst h_98
          refine j_iret dX8_removeScene_101 rfl (rfl) (by decide) (by decide) ?_
          have ht : t = 4 * ((xR x r).1.length - 1 - kk) := by omega
          have hcut : zRl (V3 (q + 1)) (67 * z) (rCut (xR x r) s.toInt.toNat) := by
            rw [show s.toInt.toNat = kk by omega]
            refine hr2.cut hrl hkl ?_ (fun t9 h8 h9 => e1 t9 (by omega) (by omega)) (fun t9 h8 h9 => e2 t9 h8 (by omega)) (fun t9 h9 => e1 t9 (by omega) (by omega))
            rw [hb0, hr2.1]; omega
          have zz := h.2.1.set hW.1 z3 (Z' := V3 (q + 1)) (fun i9 hi9 => by rw [e1 i9 (by omega) (by omega), eS, ← hV1, jset_row (by omega)]) hcut
          have h3 : moIs T V3 q (s_rem x r s) := by
            have := hS.z ha zz
            rw [← hz] at this
            exact this
          exact mC.ret (by show e_rem x r s = 0; unfold e_rem; exact (if_neg (fun z => z c_7))) ((a1.tr aS).tr (ha.wide (by omega) (by omega))) (by rw [ha q (by omega), tS]; exact t1) (ixz (hb0) (by unfold v_rem; omega)) h3
        · refine j_aload_n dX8_removeScene_74 rfl ?_
          refine j_getr dX8_removeScene_75 hB fl_X8_7 (by first | exact h0.1 | exact h0.2.1 | exact h0.2.2.1 | exact h0.2.2.2.1 | exact h0.2.2.2.2.1 | exact h0.2.2.2.2.2.1 | exact h0.2.2.2.2.2.2.1 | exact h0.2.2.2.2.2.2.2.1 | exact h0.2.2.2.2.2.2.2.2) (by rfl) ?_
          refine j_iload dX8_removeScene_78 rfl ?_
          refine j_aload_n dX8_removeScene_80 rfl ?_
          refine j_getr dX8_removeScene_81 hB fl_X8_7 (by first | exact h0.1 | exact h0.2.1 | exact h0.2.2.1 | exact h0.2.2.2.1 | exact h0.2.2.2.2.1 | exact h0.2.2.2.2.2.1 | exact h0.2.2.2.2.2.2.1 | exact h0.2.2.2.2.2.2.2.1 | exact h0.2.2.2.2.2.2.2.2) (by rfl) ?_
          refine j_iload dX8_removeScene_84 rfl ?_
          refine j_iconst (v := 4) dX8_removeScene_86 (by decide) ?_
          refine j_iadd dX8_removeScene_87 ?_
          refine m_iald (k := (67 * z + 1 + 4 * kk + t) + 4) dX8_removeScene_88 hB (by first | exact h0.1 | exact h0.2.1 | exact h0.2.2.1 | exact h0.2.2.2.1 | exact h0.2.2.2.2.1 | exact h0.2.2.2.2.2.1 | exact h0.2.2.2.2.2.2.1 | exact h0.2.2.2.2.2.2.2.1 | exact h0.2.2.2.2.2.2.2.2) (ixk (iA (hi) (iC 4 (by decide)) (by omega)) (by omega)) (by omega) ?_
          refine m_iast (k := (67 * z + 1 + 4 * kk + t)) dX8_removeScene_89 hB (by first | exact h0.1 | exact h0.2.1 | exact h0.2.2.1 | exact h0.2.2.2.1 | exact h0.2.2.2.2.1 | exact h0.2.2.2.2.2.1 | exact h0.2.2.2.2.2.2.1 | exact h0.2.2.2.2.2.2.2.1 | exact h0.2.2.2.2.2.2.2.2) (ixk (hi) (by omega)) (by omega) ?_
          refine j_iinc (v := 1) (L' := [(0, _), (1, _), (2, _), (3, _), (4, _)]) dX8_removeScene_90 rfl (by decide) (by decide) rfl ?_
          refine j_goto (tgt := 60) dX8_removeScene_93 (by decide) ?_
          refine ih (n - 1) (by omega) (t + 1) _ _ _ (by omega) hpl ?_ (ha.set (by omega) (by omega)) ?_ ?_ ?_
          · exact (ixk (k := 67 * z + 1 + 4 * kk + (t + 1)) (iA (hi) (iC 1 (by decide)) (by omega)) (by omega))
          · rw [jset_ne (Or.inr (by omega))]; exact hb0
          · intro a h8 h9; rw [jset_ne (Or.inr (by omega))]; exact e1 a h8 (by omega)
          · intro a h8 h9
            rcases Nat.lt_or_ge a (67 * z + 1 + 4 * kk + t) with g | g
            · rw [jset_ne (Or.inr (by omega))]; exact e2 a h8 g
            · rw [show a = 67 * z + 1 + 4 * kk + t by omega, jset_eq]; exact e1 _ (by omega) (by omega)
      refine loop (4 * ((xR x r).1.length - 1 - kk)) 0 _ _ _ (by omega) ?_ ?_ (jAg.rf.set (by omega) (by omega)) ?_ (fun a h8 _ => jset_ne (Or.inr h8)) (fun a h8 h9 => absurd h9 (by omega))
      · exact (ixk (k := 67 * z + 1) (iA (iM (iC 67 (by decide)) (hz) (by omega)) (iC 1 (by decide)) (by omega)) (by omega))
      · exact (ixk (k := 67 * z + 1 + 4 * kk + 0) (iA (iA (iM (iC 67 (by decide)) (hz) (by omega)) (iC 1 (by decide)) (by omega)) (iM (iC 4 (by decide)) (hkk) (by omega)) (by omega)) (by omega))
      · rw [jset_eq]; exact ixz (iS hn1 (iC 1 (by decide)) (by omega)) (by omega)
    · exact absurd c_22 (by decide)
set_option maxRecDepth 100000 in
set_option maxHeartbeats 4000000 in
theorem sp_X8_crank (hB : jB l s0 D) {q : Nat} (h0 : moT T q) {x : aX} (h : moIs T V q x) (hW : xW x) {r f v : Int32} : Sp l s0 D kX8_crank (jR 2 0 0) 0 0 [.ref q, .int r, .int f, .int v] T V X sz (mC T V X sz q (e_crank x r f v) (fun y => isI y (v_crank x r f v)) x (s_crank x r f v)) := by
  refine Sp.of pn_X8_crank rfl (Nat.le_of_ble_eq_true rfl) ?_
  refine j_iload_n dX8_crank_0 rfl ?_
  refine j_cSi dX8_crank_1 hB mo_X8_isReel ml_X8_42 (sp_X8_isReel hB) rfl rfl ⟨rfl, rfl, by decide, by decide⟩ (Nat.le_of_ble_eq_true rfl) ⟨by decide, by decide⟩ (fun r_1 V_1 h_1 => ?_)
  obtain ⟨rfl, b_1⟩ := h_1
  refine m_ifneB (tgt := 14) dX8_crank_4 (by decide) b_1 (fun c_4 => ?_) (fun c_4 => ?_)
  · obtain ⟨z, hz, z3⟩ := rOk.z c_4
    have hr0 := h.r hz z3
    have hrl := hW.1.r r.toInt
    have h10 : (xR x r).1.length ≤ 10 := hrl.2.2.2.1
    have hP1 := hr0.2.2.1
    have h6 := hP1.1
    refine j_bipush (v := 67) dX8_crank_14 (by decide) ?_
    refine j_iload_n dX8_crank_16 rfl ?_
    refine j_imul dX8_crank_17 ?_
    refine j_bipush (v := 41) dX8_crank_18 (by decide) ?_
    refine j_iadd dX8_crank_20 ?_
    refine j_istore (L' := [(0, _), (1, _), (2, _), (3, _), (4, _)]) dX8_crank_21 (by decide) rfl ?_
    refine j_iload_n dX8_crank_23 rfl ?_
    refine j_iconst (v := 0) dX8_crank_24 (by decide) ?_
    refine j_sipush (v := 9000) dX8_crank_25 (by decide) ?_
    refine j_cSi dX8_crank_28 hB mo_X8_within ml_X8_38 (sp_X8_within hB  (iV) (iC 0 (by decide)) (iC 9000 (by decide))) rfl rfl ⟨rfl, rfl, by decide, by decide⟩ (Nat.le_of_ble_eq_true rfl) ⟨by decide, by decide⟩ (fun r_28 V_28 h_28 => ?_)
    obtain ⟨rfl, b_28⟩ := h_28
    replace b_28 : bQ _ (inR f 0 9000) := b_28.cg (by omega)
    refine m_ifeqB (tgt := 49) dX8_crank_31 (by decide) b_28 (fun c_31 => ?_) (fun c_31 => ?_)
    · refine j_iconst (v := 0) dX8_crank_49 (by decide) ?_
      refine j_istore (L' := [(0, _), (1, _), (2, _), (3, _), (4, _), (5, _)]) dX8_crank_50 (by decide) rfl ?_
      refine j_aload_n dX8_crank_52 rfl ?_
      refine j_iload dX8_crank_53 rfl ?_
      refine m_if_ne (tgt := 62) dX8_crank_55 (by decide) (iC 0 (by decide)) (fun c_55 => ?_) (fun c_55 => ?_)
      · exact absurd c_55 (by decide)
      · refine j_iconst (v := 2) dX8_crank_58 (by decide) ?_
        refine j_goto (tgt := 79) dX8_crank_59 (by decide) ?_
        refine j_puti dX8_crank_79 hB fp_X8_crank_34 (by first | exact h0.1 | exact h0.2.1 | exact h0.2.2.1 | exact h0.2.2.2.1 | exact h0.2.2.2.2.1 | exact h0.2.2.2.2.2.1 | exact h0.2.2.2.2.2.2.1 | exact h0.2.2.2.2.2.2.2.1 | exact h0.2.2.2.2.2.2.2.2) (by rfl) ?_
        generalize hV1 : jset V q 0 2 = V1
        have t1 : isI (V1 q 0) 2 := by rw [← hV1, jset_eq]; decide
        have a1 : jAg V V1 q (q + 9) := by rw [← hV1]; exact jAg.rf.set (by omega) (by omega)
        have h1 : moIs T V1 q x := by rw [← hV1]; exact h.f (by decide) (by decide)
        refine j_aload_n dX8_crank_82 rfl ?_
        refine j_geti dX8_crank_83 hB fl_X8_34 (by first | exact h0.1 | exact h0.2.1 | exact h0.2.2.1 | exact h0.2.2.2.1 | exact h0.2.2.2.2.1 | exact h0.2.2.2.2.2.1 | exact h0.2.2.2.2.2.2.1 | exact h0.2.2.2.2.2.2.2.1 | exact h0.2.2.2.2.2.2.2.2) (by rfl) ?_
        refine m_if_le (tgt := 93) dX8_crank_86 (by decide) (t1) (fun c_86 => ?_) (fun c_86 => ?_)
        · exact absurd c_86 (by decide)
        · refine j_iconst (v := 0) dX8_crank_89 (by decide) ?_
          refine j_goto (tgt := 101) dX8_crank_90 (by decide) ?_
          refine j_iret dX8_crank_101 rfl (rfl) (by decide) (by decide) ?_
          exact mC.thr 1 (by show e_crank x r f v = 2; unfold e_crank; exact ((if_neg (fun z => z c_4)).trans (if_pos (fun z9 => c_31 z9.1)))) a1 t1 rfl h1
    · refine j_iload_n dX8_crank_34 rfl ?_
      refine j_bipush (v := 10) dX8_crank_35 (by decide) ?_
      refine j_bipush (v := 30) dX8_crank_37 (by decide) ?_
      refine j_cSi dX8_crank_39 hB mo_X8_within ml_X8_38 (sp_X8_within hB  (iV) (iC 10 (by decide)) (iC 30 (by decide))) rfl rfl ⟨rfl, rfl, by decide, by decide⟩ (Nat.le_of_ble_eq_true rfl) ⟨by decide, by decide⟩ (fun r_39 V_39 h_39 => ?_)
      obtain ⟨rfl, b_39⟩ := h_39
      replace b_39 : bQ _ (inR v 10 30) := b_39.cg (by omega)
      refine m_ifeqB (tgt := 49) dX8_crank_42 (by decide) b_39 (fun c_42 => ?_) (fun c_42 => ?_)
      · refine j_iconst (v := 0) dX8_crank_49 (by decide) ?_
        refine j_istore (L' := [(0, _), (1, _), (2, _), (3, _), (4, _), (5, _)]) dX8_crank_50 (by decide) rfl ?_
        refine j_aload_n dX8_crank_52 rfl ?_
        refine j_iload dX8_crank_53 rfl ?_
        refine m_if_ne (tgt := 62) dX8_crank_55 (by decide) (iC 0 (by decide)) (fun c_55 => ?_) (fun c_55 => ?_)
        · exact absurd c_55 (by decide)
        · refine j_iconst (v := 2) dX8_crank_58 (by decide) ?_
          refine j_goto (tgt := 79) dX8_crank_59 (by decide) ?_
          refine j_puti dX8_crank_79 hB fp_X8_crank_34 (by first | exact h0.1 | exact h0.2.1 | exact h0.2.2.1 | exact h0.2.2.2.1 | exact h0.2.2.2.2.1 | exact h0.2.2.2.2.2.1 | exact h0.2.2.2.2.2.2.1 | exact h0.2.2.2.2.2.2.2.1 | exact h0.2.2.2.2.2.2.2.2) (by rfl) ?_
          generalize hV1 : jset V q 0 2 = V1
          have t1 : isI (V1 q 0) 2 := by rw [← hV1, jset_eq]; decide
          have a1 : jAg V V1 q (q + 9) := by rw [← hV1]; exact jAg.rf.set (by omega) (by omega)
          have h1 : moIs T V1 q x := by rw [← hV1]; exact h.f (by decide) (by decide)
          refine j_aload_n dX8_crank_82 rfl ?_
          refine j_geti dX8_crank_83 hB fl_X8_34 (by first | exact h0.1 | exact h0.2.1 | exact h0.2.2.1 | exact h0.2.2.2.1 | exact h0.2.2.2.2.1 | exact h0.2.2.2.2.2.1 | exact h0.2.2.2.2.2.2.1 | exact h0.2.2.2.2.2.2.2.1 | exact h0.2.2.2.2.2.2.2.2) (by rfl) ?_
          refine m_if_le (tgt := 93) dX8_crank_86 (by decide) (t1) (fun c_86 => ?_) (fun c_86 => ?_)
          · exact absurd c_86 (by decide)
          · refine j_iconst (v := 0) dX8_crank_89 (by decide) ?_
            refine j_goto (tgt := 101) dX8_crank_90 (by decide) ?_
            refine j_iret dX8_crank_101 rfl (rfl) (by decide) (by decide) ?_
            exact mC.thr 1 (by show e_crank x r f v = 2; unfold e_crank; exact ((if_neg (fun z => z c_4)).trans (if_pos (fun z9 => c_42 z9.2)))) a1 t1 rfl h1
      · refine j_iconst (v := 1) dX8_crank_45 (by decide) ?_
        refine j_goto (tgt := 50) dX8_crank_46 (by decide) ?_
        refine j_istore (L' := [(0, _), (1, _), (2, _), (3, _), (4, _), (5, _)]) dX8_crank_50 (by decide) rfl ?_
        refine j_aload_n dX8_crank_52 rfl ?_
        refine j_iload dX8_crank_53 rfl ?_
        refine m_if_ne (tgt := 62) dX8_crank_55 (by decide) (iC 1 (by decide)) (fun c_55 => ?_) (fun c_55 => ?_)
        · refine j_aload_n dX8_crank_62 rfl ?_
          refine j_iload dX8_crank_63 rfl ?_
          refine j_iload_n dX8_crank_65 rfl ?_
          refine j_cVi dX8_crank_66 hB mo_X8_holdAt ml_X8_101 (sp_X8_holdAt hB h0 (ixk (k := 67 * z + 41) (iA (iM (iC 67 (by decide)) (hz) (by omega)) (iC 41 (by decide)) (by omega)) (by omega)) (by omega) hP1) (by first | exact h0.1 | exact h0.2.1 | exact h0.2.2.1 | exact h0.2.2.2.1 | exact h0.2.2.2.2.1 | exact h0.2.2.2.2.2.1 | exact h0.2.2.2.2.2.2.1 | exact h0.2.2.2.2.2.2.2.1 | exact h0.2.2.2.2.2.2.2.2) rfl rfl rfl rfl ⟨rfl, rfl, by decide, by decide⟩ (Nat.le_of_ble_eq_true rfl) ⟨by decide, by decide⟩ (fun r_66 V_66 h_66 => ?_)
          obtain ⟨rfl, j, hj, hj2, hj3, hj4⟩ := h_66
          refine j_bipush (v := 6) dX8_crank_69 (by decide) ?_
          refine m_icmp_ne (tgt := 78) dX8_crank_71 (by decide) (hj) (iC 6 (by decide)) (fun c_71 => ?_) (fun c_71 => ?_)
          · have hroom : (xR x r).2.2.2.2.1.length < 6 ∨ pHas (xR x r).2.2.2.2.1 f := by
              rcases Nat.lt_or_ge (xR x r).2.2.2.2.1.length 6 with g | g
              · exact Or.inl g
              · exact Or.inr (hP1.has.mpr ⟨j, by omega, hj4 (by omega)⟩)
            refine j_iconst (v := 0) dX8_crank_78 (by decide) ?_
            refine j_puti dX8_crank_79 hB fp_X8_crank_34 (by first | exact h0.1 | exact h0.2.1 | exact h0.2.2.1 | exact h0.2.2.2.1 | exact h0.2.2.2.2.1 | exact h0.2.2.2.2.2.1 | exact h0.2.2.2.2.2.2.1 | exact h0.2.2.2.2.2.2.2.1 | exact h0.2.2.2.2.2.2.2.2) (by rfl) ?_
            generalize hV1 : jset V q 0 0 = V1
            have t1 : isI (V1 q 0) 0 := by rw [← hV1, jset_eq]; decide
            have a1 : jAg V V1 q (q + 9) := by rw [← hV1]; exact jAg.rf.set (by omega) (by omega)
            have h1 : moIs T V1 q x := by rw [← hV1]; exact h.f (by decide) (by decide)
            refine j_aload_n dX8_crank_82 rfl ?_
            refine j_geti dX8_crank_83 hB fl_X8_34 (by first | exact h0.1 | exact h0.2.1 | exact h0.2.2.1 | exact h0.2.2.2.1 | exact h0.2.2.2.2.1 | exact h0.2.2.2.2.2.1 | exact h0.2.2.2.2.2.2.1 | exact h0.2.2.2.2.2.2.2.1 | exact h0.2.2.2.2.2.2.2.2) (by rfl) ?_
            refine m_if_le (tgt := 93) dX8_crank_86 (by decide) (t1) (fun c_86 => ?_) (fun c_86 => ?_)
            · have hr1 := h1.r hz z3
              refine j_aload_n dX8_crank_93 rfl ?_
              refine j_iload dX8_crank_94 rfl ?_
              refine j_iload_n dX8_crank_96 rfl ?_
              refine j_iload_n dX8_crank_97 rfl ?_
              refine j_cVi dX8_crank_98 hB mo_X8_hold ml_X8_104 (sp_X8_hold hB h0 h1 hW (ixk (k := 67 * z + 41) (iA (iM (iC 67 (by decide)) (hz) (by omega)) (iC 41 (by decide)) (by omega)) (by omega)) (by omega) hr1.2.2.1 hrl.2.2.2.2.2.2.1.1 hroom) (by first | exact h0.1 | exact h0.2.1 | exact h0.2.2.1 | exact h0.2.2.2.1 | exact h0.2.2.2.2.1 | exact h0.2.2.2.2.2.1 | exact h0.2.2.2.2.2.2.1 | exact h0.2.2.2.2.2.2.2.1 | exact h0.2.2.2.2.2.2.2.2) rfl rfl rfl rfl ⟨rfl, rfl, by decide, by decide⟩ (Nat.le_of_ble_eq_true rfl) ⟨by decide, by decide⟩ (fun r_98 V_98 h_98 => ?_)
              obtain ⟨hy, V2, hS, eS, tS, aS, aZ, hH, eZ⟩ := h_98
              have zz := h1.2.1.set hW.1 z3 (Z' := V_98 (q + 1)) (fun i9 hi9 => eZ i9 (by omega)) (hr1.sp h10 (fun t9 h9 => eZ t9 (by omega)) hH)
              have h3 := hS.z aZ zz
              rw [← hz] at h3
              have a3 := (a1.tr aS).tr (aZ.wide (by omega) (by omega))
              have t3 : isI (V_98 q 0) 0 := by rw [aZ q (by omega), tS]; exact t1
              refine j_iret dX8_crank_101 rfl (rfl) (by decide) (by decide) ?_
              exact mC.ret (by show e_crank x r f v = 0; unfold e_crank; exact ((if_neg (fun z => z c_4)).trans ((if_neg (fun z => z ⟨c_31, c_42⟩)).trans (if_neg (fun z => z hroom))))) a3 t3 hy h3
            · exact absurd c_86 (by decide)
          · refine j_iconst (v := 3) dX8_crank_74 (by decide) ?_
            refine j_goto (tgt := 79) dX8_crank_75 (by decide) ?_
            refine j_puti dX8_crank_79 hB fp_X8_crank_34 (by first | exact h0.1 | exact h0.2.1 | exact h0.2.2.1 | exact h0.2.2.2.1 | exact h0.2.2.2.2.1 | exact h0.2.2.2.2.2.1 | exact h0.2.2.2.2.2.2.1 | exact h0.2.2.2.2.2.2.2.1 | exact h0.2.2.2.2.2.2.2.2) (by rfl) ?_
            generalize hV1 : jset V q 0 3 = V1
            have t1 : isI (V1 q 0) 3 := by rw [← hV1, jset_eq]; decide
            have a1 : jAg V V1 q (q + 9) := by rw [← hV1]; exact jAg.rf.set (by omega) (by omega)
            have h1 : moIs T V1 q x := by rw [← hV1]; exact h.f (by decide) (by decide)
            refine j_aload_n dX8_crank_82 rfl ?_
            refine j_geti dX8_crank_83 hB fl_X8_34 (by first | exact h0.1 | exact h0.2.1 | exact h0.2.2.1 | exact h0.2.2.2.1 | exact h0.2.2.2.2.1 | exact h0.2.2.2.2.2.1 | exact h0.2.2.2.2.2.2.1 | exact h0.2.2.2.2.2.2.2.1 | exact h0.2.2.2.2.2.2.2.2) (by rfl) ?_
            refine m_if_le (tgt := 93) dX8_crank_86 (by decide) (t1) (fun c_86 => ?_) (fun c_86 => ?_)
            · exact absurd c_86 (by decide)
            · refine j_iconst (v := 0) dX8_crank_89 (by decide) ?_
              refine j_goto (tgt := 101) dX8_crank_90 (by decide) ?_
              refine j_iret dX8_crank_101 rfl (rfl) (by decide) (by decide) ?_
              exact mC.thr 2 (by show e_crank x r f v = 3; unfold e_crank; exact ((if_neg (fun z => z c_4)).trans ((if_neg (fun z => z ⟨c_31, c_42⟩)).trans (if_pos (fun z9 => z9.elim (fun z9 => by omega) (fun z9 => by obtain ⟨i9, a9, b9⟩ := hP1.has.mp z9; exact hj3 i9 (by omega) b9)))))) a1 t1 rfl h1
        · exact absurd c_55 (by decide)
  · refine j_aload_n dX8_crank_7 rfl ?_
    refine j_iconst (v := 1) dX8_crank_8 (by decide) ?_
    refine j_puti dX8_crank_9 hB fp_X8_crank_34 (by first | exact h0.1 | exact h0.2.1 | exact h0.2.2.1 | exact h0.2.2.2.1 | exact h0.2.2.2.2.1 | exact h0.2.2.2.2.2.1 | exact h0.2.2.2.2.2.2.1 | exact h0.2.2.2.2.2.2.2.1 | exact h0.2.2.2.2.2.2.2.2) (by rfl) ?_
    generalize hV1 : jset V q 0 1 = V1
    have t1 : isI (V1 q 0) 1 := by rw [← hV1, jset_eq]; decide
    have a1 : jAg V V1 q (q + 9) := by rw [← hV1]; exact jAg.rf.set (by omega) (by omega)
    have h1 : moIs T V1 q x := by rw [← hV1]; exact h.f (by decide) (by decide)
    refine j_iconst (v := 0) dX8_crank_12 (by decide) ?_
    refine j_iret dX8_crank_13 rfl (rfl) (by decide) (by decide) ?_
    exact mC.thr 0 (by show e_crank x r f v = 1; unfold e_crank; exact (if_pos c_4)) a1 t1 rfl h1
set_option maxRecDepth 100000 in
set_option maxHeartbeats 4000000 in
theorem sp_X8_splice (hB : jB l s0 D) {q : Nat} (h0 : moT T q) {x : aX} (h : moIs T V q x) (hW : xW x) {r f v : Int32} : Sp l s0 D kX8_splice (jR 2 0 0) 0 0 [.ref q, .int r, .int f, .int v] T V X sz (mC T V X sz q (e_spl x r f v) (fun y => isI y (v_spl x r f v)) x (s_spl x r f v)) := by
  refine Sp.of pn_X8_splice rfl (Nat.le_of_ble_eq_true rfl) ?_
  refine j_iload_n dX8_splice_0 rfl ?_
  refine j_cSi dX8_splice_1 hB mo_X8_isReel ml_X8_42 (sp_X8_isReel hB) rfl rfl ⟨rfl, rfl, by decide, by decide⟩ (Nat.le_of_ble_eq_true rfl) ⟨by decide, by decide⟩ (fun r_1 V_1 h_1 => ?_)
  obtain ⟨rfl, b_1⟩ := h_1
  refine m_ifneB (tgt := 14) dX8_splice_4 (by decide) b_1 (fun c_4 => ?_) (fun c_4 => ?_)
  · obtain ⟨z, hz, z3⟩ := rOk.z c_4
    have hr0 := h.r hz z3
    have hrl := hW.1.r r.toInt
    have h10 : (xR x r).1.length ≤ 10 := hrl.2.2.2.1
    have hP1 := hr0.2.2.2
    have h6 := hP1.1
    refine j_bipush (v := 67) dX8_splice_14 (by decide) ?_
    refine j_iload_n dX8_splice_16 rfl ?_
    refine j_imul dX8_splice_17 ?_
    refine j_bipush (v := 54) dX8_splice_18 (by decide) ?_
    refine j_iadd dX8_splice_20 ?_
    refine j_istore (L' := [(0, _), (1, _), (2, _), (3, _), (4, _)]) dX8_splice_21 (by decide) rfl ?_
    refine j_iload_n dX8_splice_23 rfl ?_
    refine j_iconst (v := 0) dX8_splice_24 (by decide) ?_
    refine j_sipush (v := 9000) dX8_splice_25 (by decide) ?_
    refine j_cSi dX8_splice_28 hB mo_X8_within ml_X8_38 (sp_X8_within hB  (iV) (iC 0 (by decide)) (iC 9000 (by decide))) rfl rfl ⟨rfl, rfl, by decide, by decide⟩ (Nat.le_of_ble_eq_true rfl) ⟨by decide, by decide⟩ (fun r_28 V_28 h_28 => ?_)
    obtain ⟨rfl, b_28⟩ := h_28
    replace b_28 : bQ _ (inR f 0 9000) := b_28.cg (by omega)
    refine m_ifeqB (tgt := 48) dX8_splice_31 (by decide) b_28 (fun c_31 => ?_) (fun c_31 => ?_)
    · refine j_iconst (v := 0) dX8_splice_48 (by decide) ?_
      refine j_istore (L' := [(0, _), (1, _), (2, _), (3, _), (4, _), (5, _)]) dX8_splice_49 (by decide) rfl ?_
      refine j_aload_n dX8_splice_51 rfl ?_
      refine j_iload dX8_splice_52 rfl ?_
      refine m_if_ne (tgt := 61) dX8_splice_54 (by decide) (iC 0 (by decide)) (fun c_54 => ?_) (fun c_54 => ?_)
      · exact absurd c_54 (by decide)
      · refine j_iconst (v := 2) dX8_splice_57 (by decide) ?_
        refine j_goto (tgt := 82) dX8_splice_58 (by decide) ?_
        refine j_puti dX8_splice_82 hB fp_X8_splice_34 (by first | exact h0.1 | exact h0.2.1 | exact h0.2.2.1 | exact h0.2.2.2.1 | exact h0.2.2.2.2.1 | exact h0.2.2.2.2.2.1 | exact h0.2.2.2.2.2.2.1 | exact h0.2.2.2.2.2.2.2.1 | exact h0.2.2.2.2.2.2.2.2) (by rfl) ?_
        generalize hV1 : jset V q 0 2 = V1
        have t1 : isI (V1 q 0) 2 := by rw [← hV1, jset_eq]; decide
        have a1 : jAg V V1 q (q + 9) := by rw [← hV1]; exact jAg.rf.set (by omega) (by omega)
        have h1 : moIs T V1 q x := by rw [← hV1]; exact h.f (by decide) (by decide)
        refine j_aload_n dX8_splice_85 rfl ?_
        refine j_geti dX8_splice_86 hB fl_X8_34 (by first | exact h0.1 | exact h0.2.1 | exact h0.2.2.1 | exact h0.2.2.2.1 | exact h0.2.2.2.2.1 | exact h0.2.2.2.2.2.1 | exact h0.2.2.2.2.2.2.1 | exact h0.2.2.2.2.2.2.2.1 | exact h0.2.2.2.2.2.2.2.2) (by rfl) ?_
        refine m_if_le (tgt := 94) dX8_splice_89 (by decide) (t1) (fun c_89 => ?_) (fun c_89 => ?_)
        · exact absurd c_89 (by decide)
        · refine j_iconst (v := 0) dX8_splice_92 (by decide) ?_
          refine j_iret dX8_splice_93 rfl (rfl) (by decide) (by decide) ?_
          exact mC.thr 1 (by show e_spl x r f v = 2; unfold e_spl; exact ((if_neg (fun z => z c_4)).trans (if_pos (fun z9 => c_31 z9.1)))) a1 t1 rfl h1
    · refine j_iload_n dX8_splice_34 rfl ?_
      refine j_iconst (v := 0) dX8_splice_35 (by decide) ?_
      refine j_bipush (v := 50) dX8_splice_36 (by decide) ?_
      refine j_cSi dX8_splice_38 hB mo_X8_within ml_X8_38 (sp_X8_within hB  (iV) (iC 0 (by decide)) (iC 50 (by decide))) rfl rfl ⟨rfl, rfl, by decide, by decide⟩ (Nat.le_of_ble_eq_true rfl) ⟨by decide, by decide⟩ (fun r_38 V_38 h_38 => ?_)
      obtain ⟨rfl, b_38⟩ := h_38
      replace b_38 : bQ _ (inR v 0 50) := b_38.cg (by omega)
      refine m_ifeqB (tgt := 48) dX8_splice_41 (by decide) b_38 (fun c_41 => ?_) (fun c_41 => ?_)
      · refine j_iconst (v := 0) dX8_splice_48 (by decide) ?_
        refine j_istore (L' := [(0, _), (1, _), (2, _), (3, _), (4, _), (5, _)]) dX8_splice_49 (by decide) rfl ?_
        refine j_aload_n dX8_splice_51 rfl ?_
        refine j_iload dX8_splice_52 rfl ?_
        refine m_if_ne (tgt := 61) dX8_splice_54 (by decide) (iC 0 (by decide)) (fun c_54 => ?_) (fun c_54 => ?_)
        · exact absurd c_54 (by decide)
        · refine j_iconst (v := 2) dX8_splice_57 (by decide) ?_
          refine j_goto (tgt := 82) dX8_splice_58 (by decide) ?_
          refine j_puti dX8_splice_82 hB fp_X8_splice_34 (by first | exact h0.1 | exact h0.2.1 | exact h0.2.2.1 | exact h0.2.2.2.1 | exact h0.2.2.2.2.1 | exact h0.2.2.2.2.2.1 | exact h0.2.2.2.2.2.2.1 | exact h0.2.2.2.2.2.2.2.1 | exact h0.2.2.2.2.2.2.2.2) (by rfl) ?_
          generalize hV1 : jset V q 0 2 = V1
          have t1 : isI (V1 q 0) 2 := by rw [← hV1, jset_eq]; decide
          have a1 : jAg V V1 q (q + 9) := by rw [← hV1]; exact jAg.rf.set (by omega) (by omega)
          have h1 : moIs T V1 q x := by rw [← hV1]; exact h.f (by decide) (by decide)
          refine j_aload_n dX8_splice_85 rfl ?_
          refine j_geti dX8_splice_86 hB fl_X8_34 (by first | exact h0.1 | exact h0.2.1 | exact h0.2.2.1 | exact h0.2.2.2.1 | exact h0.2.2.2.2.1 | exact h0.2.2.2.2.2.1 | exact h0.2.2.2.2.2.2.1 | exact h0.2.2.2.2.2.2.2.1 | exact h0.2.2.2.2.2.2.2.2) (by rfl) ?_
          refine m_if_le (tgt := 94) dX8_splice_89 (by decide) (t1) (fun c_89 => ?_) (fun c_89 => ?_)
          · exact absurd c_89 (by decide)
          · refine j_iconst (v := 0) dX8_splice_92 (by decide) ?_
            refine j_iret dX8_splice_93 rfl (rfl) (by decide) (by decide) ?_
            exact mC.thr 1 (by show e_spl x r f v = 2; unfold e_spl; exact ((if_neg (fun z => z c_4)).trans (if_pos (fun z9 => c_41 z9.2)))) a1 t1 rfl h1
      · refine j_iconst (v := 1) dX8_splice_44 (by decide) ?_
        refine j_goto (tgt := 49) dX8_splice_45 (by decide) ?_
        refine j_istore (L' := [(0, _), (1, _), (2, _), (3, _), (4, _), (5, _)]) dX8_splice_49 (by decide) rfl ?_
        refine j_aload_n dX8_splice_51 rfl ?_
        refine j_iload dX8_splice_52 rfl ?_
        refine m_if_ne (tgt := 61) dX8_splice_54 (by decide) (iC 1 (by decide)) (fun c_54 => ?_) (fun c_54 => ?_)
        · refine j_iload_n dX8_splice_61 rfl ?_
          refine m_if_le (tgt := 81) dX8_splice_62 (by decide) (iV) (fun c_62 => ?_) (fun c_62 => ?_)
          · have hv0 : v = 0 := ti_inj (by rw [ti_0]; have := c_41.1; omega)
            refine j_iconst (v := 0) dX8_splice_81 (by decide) ?_
            refine j_puti dX8_splice_82 hB fp_X8_splice_34 (by first | exact h0.1 | exact h0.2.1 | exact h0.2.2.1 | exact h0.2.2.2.1 | exact h0.2.2.2.2.1 | exact h0.2.2.2.2.2.1 | exact h0.2.2.2.2.2.2.1 | exact h0.2.2.2.2.2.2.2.1 | exact h0.2.2.2.2.2.2.2.2) (by rfl) ?_
            generalize hV1 : jset V q 0 0 = V1
            have t1 : isI (V1 q 0) 0 := by rw [← hV1, jset_eq]; decide
            have a1 : jAg V V1 q (q + 9) := by rw [← hV1]; exact jAg.rf.set (by omega) (by omega)
            have h1 : moIs T V1 q x := by rw [← hV1]; exact h.f (by decide) (by decide)
            refine j_aload_n dX8_splice_85 rfl ?_
            refine j_geti dX8_splice_86 hB fl_X8_34 (by first | exact h0.1 | exact h0.2.1 | exact h0.2.2.1 | exact h0.2.2.2.1 | exact h0.2.2.2.2.1 | exact h0.2.2.2.2.2.1 | exact h0.2.2.2.2.2.2.1 | exact h0.2.2.2.2.2.2.2.1 | exact h0.2.2.2.2.2.2.2.2) (by rfl) ?_
            refine m_if_le (tgt := 94) dX8_splice_89 (by decide) (t1) (fun c_89 => ?_) (fun c_89 => ?_)
            · have hr1 := h1.r hz z3
              refine j_iload_n dX8_splice_94 rfl ?_
              refine m_if_ne (tgt := 108) dX8_splice_95 (by decide) (iV) (fun c_95 => ?_) (fun c_95 => ?_)
              · exact absurd c_95 (by have := c_41.1; omega)
              · refine j_aload_n dX8_splice_98 rfl ?_
                refine j_iload dX8_splice_99 rfl ?_
                refine j_iload_n dX8_splice_101 rfl ?_
                refine j_cVi dX8_splice_102 hB mo_X8_drop ml_X8_107 (sp_X8_drop hB h0 h1 hW (ixk (k := 67 * z + 54) (iA (iM (iC 67 (by decide)) (hz) (by omega)) (iC 54 (by decide)) (by omega)) (by omega)) (by omega) hr1.2.2.2 hr1.2.2.2.2.1) (by first | exact h0.1 | exact h0.2.1 | exact h0.2.2.1 | exact h0.2.2.2.1 | exact h0.2.2.2.2.1 | exact h0.2.2.2.2.2.1 | exact h0.2.2.2.2.2.2.1 | exact h0.2.2.2.2.2.2.2.1 | exact h0.2.2.2.2.2.2.2.2) rfl rfl rfl rfl ⟨rfl, rfl, by decide, by decide⟩ (Nat.le_of_ble_eq_true rfl) ⟨by decide, by decide⟩ (fun r_102 V_102 h_102 => ?_)
                obtain ⟨hy, V2, hS, eS, tS, aS, aZ, hH, eZ⟩ := h_102
                have zz := h1.2.1.set hW.1 z3 (Z' := V_102 (q + 1)) (fun i9 hi9 => eZ i9 (by omega)) (hr1.sl h10 (fun t9 h9 => eZ t9 (by omega)) hH)
                have h3 := hS.z aZ zz
                rw [← hz] at h3
                have a3 := (a1.tr aS).tr (aZ.wide (by omega) (by omega))
                have t3 : isI (V_102 q 0) 0 := by rw [aZ q (by omega), tS]; exact t1
                refine j_goto (tgt := 116) dX8_splice_105 (by decide) ?_
                refine j_iret dX8_splice_116 rfl (rfl) (by decide) (by decide) ?_
                exact mC.ret (by show e_spl x r f v = 0; unfold e_spl; exact ((if_neg (fun z => z c_4)).trans ((if_neg (fun z => z ⟨c_31, c_41⟩)).trans (if_neg (fun z9 => z9.1 hv0))))) a3 t3 (by unfold v_spl xSpl; rw [if_pos hv0]; exact hy) (by unfold s_spl xSpl; rw [if_pos hv0]; exact h3)
            · exact absurd c_89 (by decide)
          · have hv0 : ¬ v = 0 := fun e => by rw [e, ti_0] at c_62; omega
            refine j_aload_n dX8_splice_65 rfl ?_
            refine j_iload dX8_splice_66 rfl ?_
            refine j_iload_n dX8_splice_68 rfl ?_
            refine j_cVi dX8_splice_69 hB mo_X8_holdAt ml_X8_101 (sp_X8_holdAt hB h0 (ixk (k := 67 * z + 54) (iA (iM (iC 67 (by decide)) (hz) (by omega)) (iC 54 (by decide)) (by omega)) (by omega)) (by omega) hP1) (by first | exact h0.1 | exact h0.2.1 | exact h0.2.2.1 | exact h0.2.2.2.1 | exact h0.2.2.2.2.1 | exact h0.2.2.2.2.2.1 | exact h0.2.2.2.2.2.2.1 | exact h0.2.2.2.2.2.2.2.1 | exact h0.2.2.2.2.2.2.2.2) rfl rfl rfl rfl ⟨rfl, rfl, by decide, by decide⟩ (Nat.le_of_ble_eq_true rfl) ⟨by decide, by decide⟩ (fun r_69 V_69 h_69 => ?_)
            obtain ⟨rfl, j, hj, hj2, hj3, hj4⟩ := h_69
            refine j_bipush (v := 6) dX8_splice_72 (by decide) ?_
            refine m_icmp_ne (tgt := 81) dX8_splice_74 (by decide) (hj) (iC 6 (by decide)) (fun c_74 => ?_) (fun c_74 => ?_)
            · have hroom : (xR x r).2.2.2.2.2.length < 6 ∨ pHas (xR x r).2.2.2.2.2 f := by
                rcases Nat.lt_or_ge (xR x r).2.2.2.2.2.length 6 with g | g
                · exact Or.inl g
                · exact Or.inr (hP1.has.mpr ⟨j, by omega, hj4 (by omega)⟩)
              refine j_iconst (v := 0) dX8_splice_81 (by decide) ?_
              refine j_puti dX8_splice_82 hB fp_X8_splice_34 (by first | exact h0.1 | exact h0.2.1 | exact h0.2.2.1 | exact h0.2.2.2.1 | exact h0.2.2.2.2.1 | exact h0.2.2.2.2.2.1 | exact h0.2.2.2.2.2.2.1 | exact h0.2.2.2.2.2.2.2.1 | exact h0.2.2.2.2.2.2.2.2) (by rfl) ?_
              generalize hV1 : jset V q 0 0 = V1
              have t1 : isI (V1 q 0) 0 := by rw [← hV1, jset_eq]; decide
              have a1 : jAg V V1 q (q + 9) := by rw [← hV1]; exact jAg.rf.set (by omega) (by omega)
              have h1 : moIs T V1 q x := by rw [← hV1]; exact h.f (by decide) (by decide)
              refine j_aload_n dX8_splice_85 rfl ?_
              refine j_geti dX8_splice_86 hB fl_X8_34 (by first | exact h0.1 | exact h0.2.1 | exact h0.2.2.1 | exact h0.2.2.2.1 | exact h0.2.2.2.2.1 | exact h0.2.2.2.2.2.1 | exact h0.2.2.2.2.2.2.1 | exact h0.2.2.2.2.2.2.2.1 | exact h0.2.2.2.2.2.2.2.2) (by rfl) ?_
              refine m_if_le (tgt := 94) dX8_splice_89 (by decide) (t1) (fun c_89 => ?_) (fun c_89 => ?_)
              · have hr1 := h1.r hz z3
                refine j_iload_n dX8_splice_94 rfl ?_
                refine m_if_ne (tgt := 108) dX8_splice_95 (by decide) (iV) (fun c_95 => ?_) (fun c_95 => ?_)
                · refine j_aload_n dX8_splice_108 rfl ?_
                  refine j_iload dX8_splice_109 rfl ?_
                  refine j_iload_n dX8_splice_111 rfl ?_
                  refine j_iload_n dX8_splice_112 rfl ?_
                  refine j_cVi dX8_splice_113 hB mo_X8_hold ml_X8_104 (sp_X8_hold hB h0 h1 hW (ixk (k := 67 * z + 54) (iA (iM (iC 67 (by decide)) (hz) (by omega)) (iC 54 (by decide)) (by omega)) (by omega)) (by omega) hr1.2.2.2 hr1.2.2.2.2.1 hroom) (by first | exact h0.1 | exact h0.2.1 | exact h0.2.2.1 | exact h0.2.2.2.1 | exact h0.2.2.2.2.1 | exact h0.2.2.2.2.2.1 | exact h0.2.2.2.2.2.2.1 | exact h0.2.2.2.2.2.2.2.1 | exact h0.2.2.2.2.2.2.2.2) rfl rfl rfl rfl ⟨rfl, rfl, by decide, by decide⟩ (Nat.le_of_ble_eq_true rfl) ⟨by decide, by decide⟩ (fun r_113 V_113 h_113 => ?_)
                  obtain ⟨hy, V2, hS, eS, tS, aS, aZ, hH, eZ⟩ := h_113
                  have zz := h1.2.1.set hW.1 z3 (Z' := V_113 (q + 1)) (fun i9 hi9 => eZ i9 (by omega)) (hr1.sl h10 (fun t9 h9 => eZ t9 (by omega)) hH)
                  have h3 := hS.z aZ zz
                  rw [← hz] at h3
                  have a3 := (a1.tr aS).tr (aZ.wide (by omega) (by omega))
                  have t3 : isI (V_113 q 0) 0 := by rw [aZ q (by omega), tS]; exact t1
                  refine j_iret dX8_splice_116 rfl (rfl) (by decide) (by decide) ?_
                  exact mC.ret (by show e_spl x r f v = 0; unfold e_spl; exact ((if_neg (fun z => z c_4)).trans ((if_neg (fun z => z ⟨c_31, c_41⟩)).trans (if_neg (fun z9 => z9.2 hroom))))) a3 t3 (by unfold v_spl xSpl; rw [if_neg hv0]; exact hy) (by unfold s_spl xSpl; rw [if_neg hv0]; exact h3)
                · exact absurd c_95 (by omega)
              · exact absurd c_89 (by decide)
            · refine j_iconst (v := 3) dX8_splice_77 (by decide) ?_
              refine j_goto (tgt := 82) dX8_splice_78 (by decide) ?_
              refine j_puti dX8_splice_82 hB fp_X8_splice_34 (by first | exact h0.1 | exact h0.2.1 | exact h0.2.2.1 | exact h0.2.2.2.1 | exact h0.2.2.2.2.1 | exact h0.2.2.2.2.2.1 | exact h0.2.2.2.2.2.2.1 | exact h0.2.2.2.2.2.2.2.1 | exact h0.2.2.2.2.2.2.2.2) (by rfl) ?_
              generalize hV1 : jset V q 0 3 = V1
              have t1 : isI (V1 q 0) 3 := by rw [← hV1, jset_eq]; decide
              have a1 : jAg V V1 q (q + 9) := by rw [← hV1]; exact jAg.rf.set (by omega) (by omega)
              have h1 : moIs T V1 q x := by rw [← hV1]; exact h.f (by decide) (by decide)
              refine j_aload_n dX8_splice_85 rfl ?_
              refine j_geti dX8_splice_86 hB fl_X8_34 (by first | exact h0.1 | exact h0.2.1 | exact h0.2.2.1 | exact h0.2.2.2.1 | exact h0.2.2.2.2.1 | exact h0.2.2.2.2.2.1 | exact h0.2.2.2.2.2.2.1 | exact h0.2.2.2.2.2.2.2.1 | exact h0.2.2.2.2.2.2.2.2) (by rfl) ?_
              refine m_if_le (tgt := 94) dX8_splice_89 (by decide) (t1) (fun c_89 => ?_) (fun c_89 => ?_)
              · exact absurd c_89 (by decide)
              · refine j_iconst (v := 0) dX8_splice_92 (by decide) ?_
                refine j_iret dX8_splice_93 rfl (rfl) (by decide) (by decide) ?_
                exact mC.thr 2 (by show e_spl x r f v = 3; unfold e_spl; exact ((if_neg (fun z => z c_4)).trans ((if_neg (fun z => z ⟨c_31, c_41⟩)).trans (if_pos ⟨hv0, fun z9 => z9.elim (fun z9 => by omega) (fun z9 => by obtain ⟨i9, a9, b9⟩ := hP1.has.mp z9; exact hj3 i9 (by omega) b9)⟩)))) a1 t1 rfl h1
        · exact absurd c_54 (by decide)
  · refine j_aload_n dX8_splice_7 rfl ?_
    refine j_iconst (v := 1) dX8_splice_8 (by decide) ?_
    refine j_puti dX8_splice_9 hB fp_X8_splice_34 (by first | exact h0.1 | exact h0.2.1 | exact h0.2.2.1 | exact h0.2.2.2.1 | exact h0.2.2.2.2.1 | exact h0.2.2.2.2.2.1 | exact h0.2.2.2.2.2.2.1 | exact h0.2.2.2.2.2.2.2.1 | exact h0.2.2.2.2.2.2.2.2) (by rfl) ?_
    generalize hV1 : jset V q 0 1 = V1
    have t1 : isI (V1 q 0) 1 := by rw [← hV1, jset_eq]; decide
    have a1 : jAg V V1 q (q + 9) := by rw [← hV1]; exact jAg.rf.set (by omega) (by omega)
    have h1 : moIs T V1 q x := by rw [← hV1]; exact h.f (by decide) (by decide)
    refine j_iconst (v := 0) dX8_splice_12 (by decide) ?_
    refine j_iret dX8_splice_13 rfl (rfl) (by decide) (by decide) ?_
    exact mC.thr 0 (by show e_spl x r f v = 1; unfold e_spl; exact (if_pos c_4)) a1 t1 rfl h1
end JM9
