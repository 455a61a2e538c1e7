/-! THE LAW: when cues begin and end, beside the class' own -/
def lyF (V V' : jV) (ca ea : Nat) : Prop := ∀ b, b ≠ ca → b ≠ ea → V' b = V b
def lyO (V : jV) (ca ea : Nat) (s : aS) (r : aR) (w : Int) (n : Nat) : Prop := ∀ k : Nat, k < n → isI (V ca (2 * k)) (aCb s r w k) ∧ isI (V ca (2 * k + 1)) (aMus s r w (k + 1)) ∧ isI (V ea k) (aBeg r w (k + 1))
theorem lyO.cg {V V' : jV} {ca ea n : Nat} {s : aS} {r : aR} {w : Int} (h : lyO V ca ea s r w n) (e1 : V' ca = V ca) (e2 : V' ea = V ea) : lyO V' ca ea s r w n := fun k hk => by rw [e1, e2]; exact h k hk
section JLL
variable {l : Launch} {s0 : State} {D : jD} {T : jT} {V : jV} {X : jX} {sz : Nat}
set_option maxRecDepth 100000 in
set_option maxHeartbeats 4000000 in
theorem sp_L_lay (hB : jB l s0 D) {ra pa ca ea : Nat} {s : aS} {rr : aR} {w : Int32} {wz : Int} (hr : T ra = some (kI 60)) (hpa : T pa = some (kI 12)) (hca : T ca = some (kI 10)) (hea : T ea = some (kI 5)) (hd : ca ≠ ea ∧ ra ≠ ca ∧ ra ≠ ea ∧ pa ≠ ca ∧ pa ≠ ea) (hz : zRl (V ra) rr) (hpz : zPa (V pa) s) (hp : pcW s) (hW : rlW s rr) (hw : isI w wz) (hw2 : wz = 0 ∨ 10 ≤ wz) (hw3 : wz ≤ 1000) : Sp l s0 D kL_lay (jR 2 0 0) 0 0 [.int w, .ref ra, .ref pa, .ref ca, .ref ea] T V X sz (qU T X sz (fun V' => lyF V V' ca ea ∧ lyO V' ca ea s rr wz rr.1.length)) := by
  refine Sp.of pn_L_lay rfl (Nat.le_of_ble_eq_true rfl) ?_
  have h5 := hz.2.1
  have loop : ∀ (n j : Nat) (i pl nw : Int32) (V1 : jV), j + n = rr.1.length → i.toInt = j → isI pl (aMus s rr wz j) → isI nw (aBeg rr wz j) → lyF V V1 ca ea → lyO V1 ca ea s rr wz j → J l s0 D kL_lay (jR 2 0 0) 0 0 (qU T X sz (fun V' => lyF V V' ca ea ∧ lyO V' ca ea s rr wz rr.1.length)) 9 [(0, .int w), (1, .ref ra), (2, .ref pa), (3, .ref ca), (4, .ref ea), (5, .int pl), (6, .int nw), (7, .int i)] [] T V1 X sz 0 0 := by
    intro n
    refine Nat.strongRecOn n ?_
    clear n
    intro n ih j i pl nw V1 hn hi hpl hnw hF hO
    have eR1 : V1 ra = V ra := hF ra hd.2.1 hd.2.2.1
    have eP1 : V1 pa = V pa := hF pa hd.2.2.2.1 hd.2.2.2.2
    have hz1 : zRl (V1 ra) rr := by rw [eR1]; exact hz
    have hp1 : zPa (V1 pa) s := by rw [eP1]; exact hpz
    have hn1 : isI (V1 ra 0) rr.1.length := hz1.1
    refine j_iload dL_lay_9 rfl ?_
    refine j_aload_n dL_lay_11 rfl ?_
    refine j_iconst (v := 0) dL_lay_12 (by decide) ?_
    refine m_iald (k := 0) dL_lay_13 hB (by assumption) (ixk (iC 0 (by decide)) (by omega)) (by omega) ?_
    refine m_icmp_ge (tgt := 135) dL_lay_14 (by decide) (hi) (hn1) (fun c_14 => ?_) (fun c_14 => ?_)
    · refine j_vret dL_lay_135 rfl (by decide) (by decide) ?_
      have hj : j = rr.1.length := by omega
      subst hj
      exact ⟨rfl, rfl, rfl, rfl, hF, hO⟩
    · have hj : j < rr.1.length := by omega
      have b0 := aBeg_rng hW hw2 j (by omega)
      have b1 := aTime_rng hW hw2 hj
      have m0 := aMus_rng hp hW hw2 j (by omega)
      have f0 := aFirst_rng hW j (by omega)
      have f1 := len_rng hW hj
      have cb0 : 0 ≤ aCb s rr wz j ∧ aCb s rr wz j ≤ 300000 := by unfold aCb; omega
      have mid : ∀ cb : Int32, isI cb (aCb s rr wz j) → J l s0 D kL_lay (jR 2 0 0) 0 0 (qU T X sz (fun V' => lyF V V' ca ea ∧ lyO V' ca ea s rr wz rr.1.length)) 36 [(0, .int w), (1, .ref ra), (2, .ref pa), (3, .ref ca), (4, .ref ea), (5, .int pl), (6, .int nw), (7, .int i)] [.int cb, .int (2 * i), .ref ca] T V1 X sz 0 0 := by
        intro cb hcb
        refine m_iast (k := 2 * j) dL_lay_36 hB (by assumption) (ixk (iM (iC 2 (by decide)) (hi) (by omega)) (by omega)) (by omega) ?_
        generalize hV2 : jset V1 ca (2 * j) cb = V2
        have eR2 : V2 ra = V1 ra := by rw [← hV2]; exact jset_row hd.2.1
        have eP2 : V2 pa = V1 pa := by rw [← hV2]; exact jset_row hd.2.2.2.1
        have hz2 : zRl (V2 ra) rr := by rw [eR2]; exact hz1
        have hp2 : zPa (V2 pa) s := by rw [eP2]; exact hp1
        have hcb2 : isI (V2 ca (2 * j)) (aCb s rr wz j) := by rw [← hV2, jset_eq]; exact hcb
        have q2 : isI (V2 ra (2 + 4 * j)) (atZ rr.2.1 j).toInt := congrArg Int32.toInt (hz2.2.2.1 j hj).2.1
        have mid2 : ∀ pl2 : Int32, isI pl2 (aMus s rr wz (j + 1)) → J l s0 D kL_lay (jR 2 0 0) 0 0 (qU T X sz (fun V' => lyF V V' ca ea ∧ lyO V' ca ea s rr wz rr.1.length)) 87 [(0, .int w), (1, .ref ra), (2, .ref pa), (3, .ref ca), (4, .ref ea), (5, .int pl2), (6, .int nw), (7, .int i)] [] T V2 X sz 0 0 := by
          intro pl2 hpl2
          refine j_aload_n dL_lay_87 rfl ?_
          refine j_iconst (v := 2) dL_lay_88 (by decide) ?_
          refine j_iload dL_lay_89 rfl ?_
          refine j_imul dL_lay_91 ?_
          refine j_iconst (v := 1) dL_lay_92 (by decide) ?_
          refine j_iadd dL_lay_93 ?_
          refine j_iload dL_lay_94 rfl ?_
          refine m_iast (k := 2 * j + 1) dL_lay_96 hB (by assumption) (ixk (iA (iM (iC 2 (by decide)) (hi) (by omega)) (iC 1 (by decide)) (by omega)) (by omega)) (by omega) ?_
          generalize hV3 : jset V2 ca (2 * j + 1) pl2 = V3
          have eR3 : V3 ra = V2 ra := by rw [← hV3]; exact jset_row hd.2.1
          have hz3 : zRl (V3 ra) rr := by rw [eR3]; exact hz2
          refine j_iload dL_lay_97 rfl ?_
          refine j_iload dL_lay_99 rfl ?_
          refine j_aload_n dL_lay_101 rfl ?_
          refine j_cSi dL_lay_102 hB mo_L_start ml_L_26 (sp_L_start hB hr hz3 hW hi (by omega)) rfl rfl ⟨rfl, rfl, by decide, by decide⟩ (Nat.le_of_ble_eq_true rfl) ⟨by decide, by decide⟩ (fun r_102 V_102 h_102 => ?_)
          obtain ⟨rfl, h_102⟩ := h_102
          refine j_iload dL_lay_105 rfl ?_
          refine j_iconst (v := 1) dL_lay_107 (by decide) ?_
          refine j_iadd dL_lay_108 ?_
          refine j_aload_n dL_lay_109 rfl ?_
          refine j_cSi dL_lay_110 hB mo_L_start ml_L_26 (sp_L_start hB hr hz3 hW (ixk (k := j + 1) (iA (hi) (iC 1 (by decide)) (by omega)) (by omega)) (by omega)) rfl rfl ⟨rfl, rfl, by decide, by decide⟩ (Nat.le_of_ble_eq_true rfl) ⟨by decide, by decide⟩ (fun r_110 V_110 h_110 => ?_)
          obtain ⟨rfl, h_110⟩ := h_110
          refine j_iconst (v := 1) dL_lay_113 (by decide) ?_
          refine j_iload_n dL_lay_114 rfl ?_
          refine j_aload_n dL_lay_115 rfl ?_
          refine j_cSi dL_lay_116 hB mo_L_feet ml_L_29 (sp_L_feet hB (N := (atZ rr.1 j).toInt.toNat) hr hz3 hW h_102 f0.1 (ixz h_110 (by show aFirst rr j + (atZ rr.1 j).toInt = _; omega)) (by omega) (by omega) (iC 1 (by decide)) (Or.inr rfl) hw hw2 hw3) rfl rfl ⟨rfl, rfl, by decide, by decide⟩ (Nat.le_of_ble_eq_true rfl) ⟨by decide, by decide⟩ (fun r_116 V_116 h_116 => ?_)
          obtain ⟨rfl, h_116⟩ := h_116
          rw [tmN_1] at h_116
          replace h_116 : isI r_116 (aTime rr wz j) := h_116
          refine j_iadd dL_lay_119 ?_
          refine j_istore (L' := [(0, _), (1, _), (2, _), (3, _), (4, _), (5, _), (6, _), (7, _)]) dL_lay_120 (by decide) rfl ?_
          refine j_aload dL_lay_122 rfl ?_
          refine j_iload dL_lay_124 rfl ?_
          refine j_iload dL_lay_126 rfl ?_
          refine m_iast (k := j) dL_lay_128 hB (by assumption) (ixk (hi) (by omega)) (by omega) ?_
          generalize hV4 : jset V3 ea j (nw + r_116) = V4
          have e4c : V4 ca = V3 ca := by rw [← hV4]; exact jset_row hd.1
          have e3e : V3 ea = V1 ea := by rw [← hV3, jset_row hd.1.symm, ← hV2, jset_row hd.1.symm]
          have c1 : ∀ t, ¬ t = 2 * j → ¬ t = 2 * j + 1 → V4 ca t = V1 ca t := fun t h1 h2 => by rw [e4c, ← hV3, jset_ne (Or.inr h2), ← hV2, jset_ne (Or.inr h1)]
          have c2 : V4 ca (2 * j) = cb := by rw [e4c, ← hV3, jset_ne (Or.inr (by omega)), ← hV2, jset_eq]
          have c3 : V4 ca (2 * j + 1) = pl2 := by rw [e4c, ← hV3, jset_eq]
          have d1 : ∀ t, ¬ t = j → V4 ea t = V1 ea t := fun t h1 => by rw [← hV4, jset_ne (Or.inr h1), e3e]
          have d2 : V4 ea j = nw + r_116 := by rw [← hV4, jset_eq]
          refine j_iinc (v := 1) (L' := [(0, _), (1, _), (2, _), (3, _), (4, _), (5, _), (6, _), (7, _)]) dL_lay_129 rfl (by decide) (by decide) rfl ?_
          refine j_goto (tgt := 9) dL_lay_132 (by decide) ?_
          refine ih (n - 1) (by omega) (j + 1) _ _ _ _ (by omega) ?_ ?_ ?_ ?_ ?_
          · exact (ixk (k := j + 1) (iA (hi) (iC 1 (by decide)) (by omega)) (by omega))
          · exact hpl2
          · exact ixz (iA (hnw) (h_116) (by omega)) rfl
          · intro b h1 h2
            rw [← hV4, jset_row h2, ← hV3, jset_row h1, ← hV2, jset_row h1]
            exact hF b h1 h2
          · intro k hk
            by_cases e : k = j
            · subst e
              rw [c2, c3, d2]
              exact ⟨hcb, hpl2, ixz (iA (hnw) (h_116) (by omega)) rfl⟩
            · rw [c1 _ (by omega) (by omega), c1 _ (by omega) (by omega), d1 _ e]
              exact hO k (by omega)
        refine j_aload_n dL_lay_37 rfl ?_
        refine j_iconst (v := 2) dL_lay_38 (by decide) ?_
        refine j_iconst (v := 4) dL_lay_39 (by decide) ?_
        refine j_iload dL_lay_40 rfl ?_
        refine j_imul dL_lay_42 ?_
        refine j_iadd dL_lay_43 ?_
        refine m_iald (k := 2 + 4 * j) dL_lay_44 hB (by assumption) (ixk (iA (iC 2 (by decide)) (iM (iC 4 (by decide)) (hi) (by omega)) (by omega)) (by omega)) (by omega) ?_
        refine j_ldc dL_lay_45 hB kc_L_21 ?_
        refine m_icmp_eq (tgt := 87) dL_lay_47 (by decide) (q2) (iC (-2000001) (by decide)) (fun c_47 => ?_) (fun c_47 => ?_)
        · have hc : ¬ isCue rr j := fun z => isCue_iff.mp z c_47
          exact mid2 _ (ixz hpl (by show _ = cueI rr j _ _; rw [cueI_f hc]))
        · have hc : isCue rr j := isCue_iff.mpr c_47
          have crr := cue_rng hW hj hc
          have ap := aPlay_rng hp hW hj hc
          have q3 : isI (V2 ra (3 + 4 * j)) (atZ rr.2.2.1 j).toInt := congrArg Int32.toInt ((hz2.2.2.1 j hj).2.2 hc).1
          have q4 : isI (V2 ra (4 + 4 * j)) (atZ rr.2.2.2.1 j).toInt := congrArg Int32.toInt ((hz2.2.2.1 j hj).2.2 hc).2
          refine j_aload_n dL_lay_50 rfl ?_
          refine j_iconst (v := 2) dL_lay_51 (by decide) ?_
          refine j_iload dL_lay_52 rfl ?_
          refine j_imul dL_lay_54 ?_
          refine m_iald (k := 2 * j) dL_lay_55 hB (by assumption) (ixk (iM (iC 2 (by decide)) (hi) (by omega)) (by omega)) (by omega) ?_
          refine j_aload_n dL_lay_56 rfl ?_
          refine j_iconst (v := 2) dL_lay_57 (by decide) ?_
          refine j_iconst (v := 4) dL_lay_58 (by decide) ?_
          refine j_iload dL_lay_59 rfl ?_
          refine j_imul dL_lay_61 ?_
          refine j_iadd dL_lay_62 ?_
          refine m_iald (k := 2 + 4 * j) dL_lay_63 hB (by assumption) (ixk (iA (iC 2 (by decide)) (iM (iC 4 (by decide)) (hi) (by omega)) (by omega)) (by omega)) (by omega) ?_
          refine j_aload_n dL_lay_64 rfl ?_
          refine j_iconst (v := 3) dL_lay_65 (by decide) ?_
          refine j_iconst (v := 4) dL_lay_66 (by decide) ?_
          refine j_iload dL_lay_67 rfl ?_
          refine j_imul dL_lay_69 ?_
          refine j_iadd dL_lay_70 ?_
          refine m_iald (k := 3 + 4 * j) dL_lay_71 hB (by assumption) (ixk (iA (iC 3 (by decide)) (iM (iC 4 (by decide)) (hi) (by omega)) (by omega)) (by omega)) (by omega) ?_
          refine j_aload_n dL_lay_72 rfl ?_
          refine j_iconst (v := 4) dL_lay_73 (by decide) ?_
          refine j_iconst (v := 4) dL_lay_74 (by decide) ?_
          refine j_iload dL_lay_75 rfl ?_
          refine j_imul dL_lay_77 ?_
          refine j_iadd dL_lay_78 ?_
          refine m_iald (k := 4 + 4 * j) dL_lay_79 hB (by assumption) (ixk (iA (iC 4 (by decide)) (iM (iC 4 (by decide)) (hi) (by omega)) (by omega)) (by omega)) (by omega) ?_
          refine j_aload_n dL_lay_80 rfl ?_
          refine j_cSi dL_lay_81 hB mo_L_music ml_L_22 (sp_L_music hB hpa hp2 hp (ixk (k := (atZ rr.2.1 j).toInt.toNat) q2 (by omega)) (by omega) q3 (by omega) (by omega) q4 (by omega)) rfl rfl ⟨rfl, rfl, by decide, by decide⟩ (Nat.le_of_ble_eq_true rfl) ⟨by decide, by decide⟩ (fun r_81 V_81 h_81 => ?_)
          obtain ⟨rfl, h_81⟩ := h_81
          rw [Int.toNat_of_nonneg crr.1] at h_81
          replace h_81 : isI r_81 (aPlay s rr j) := h_81
          refine j_iadd dL_lay_84 ?_
          refine j_istore (L' := [(0, _), (1, _), (2, _), (3, _), (4, _), (5, _), (6, _), (7, _)]) dL_lay_85 (by decide) rfl ?_
          exact mid2 _ (ixz (iA (hcb2) (h_81) (by omega)) (by show _ = cueI rr j _ _; rw [cueI_t hc]; rfl))
      refine j_aload_n dL_lay_17 rfl ?_
      refine j_iconst (v := 2) dL_lay_18 (by decide) ?_
      refine j_iload dL_lay_19 rfl ?_
      refine j_imul dL_lay_21 ?_
      refine j_iload dL_lay_22 rfl ?_
      refine j_iload dL_lay_24 rfl ?_
      refine m_icmp_le (tgt := 34) dL_lay_26 (by decide) (hpl) (hnw) (fun c_26 => ?_) (fun c_26 => ?_)
      · refine j_iload dL_lay_34 rfl ?_
        exact mid _ (ixz (hnw) (by unfold aCb; omega))
      · refine j_iload dL_lay_29 rfl ?_
        refine j_goto (tgt := 36) dL_lay_31 (by decide) ?_
        exact mid _ (ixz (hpl) (by unfold aCb; omega))
  refine j_iconst (v := 0) dL_lay_0 (by decide) ?_
  refine j_istore (L' := [(0, _), (1, _), (2, _), (3, _), (4, _), (5, _)]) dL_lay_1 (by decide) rfl ?_
  refine j_iconst (v := 0) dL_lay_3 (by decide) ?_
  refine j_istore (L' := [(0, _), (1, _), (2, _), (3, _), (4, _), (5, _), (6, _)]) dL_lay_4 (by decide) rfl ?_
  refine j_iconst (v := 0) dL_lay_6 (by decide) ?_
  refine j_istore (L' := [(0, _), (1, _), (2, _), (3, _), (4, _), (5, _), (6, _), (7, _)]) dL_lay_7 (by decide) rfl ?_
  exact loop rr.1.length 0 0 0 0 V (by omega) rfl rfl rfl (fun _ _ _ => rfl) (fun k hk => absurd hk (Nat.not_lt_zero _))
set_option maxRecDepth 100000 in
set_option maxHeartbeats 4000000 in
theorem sp_L_drift (hB : jB l s0 D) {ra ca ea : Nat} {s : aS} {rr : aR} {wz : Int} (hr : T ra = some (kI 60)) (hca : T ca = some (kI 10)) (hea : T ea = some (kI 5)) (hz : zRl (V ra) rr) (hO : lyO V ca ea s rr wz rr.1.length) (hp : pcW s) (hW : rlW s rr) (hw2 : wz = 0 ∨ 10 ≤ wz) {k0 : Int32} {k : Nat} (hk0 : k0.toInt = k) (hk : k < rr.1.length) : Sp l s0 D kL_drift (jR 0 0 0) 0 0 [.int k0, .ref ra, .ref ca, .ref ea] T V X sz (qI T X sz (fun y V' => V = V' ∧ isI y (aDrift s rr wz k))) := by
  refine Sp.of pn_L_drift rfl (Nat.le_of_ble_eq_true rfl) ?_
  have h5 := hz.2.1
  have q2 : isI (V ra (2 + 4 * k)) (atZ rr.2.1 k).toInt := congrArg Int32.toInt (hz.2.2.1 k hk).2.1
  obtain ⟨-, o2, o3⟩ := hO k hk
  have b0 := aBeg_rng hW hw2 (k + 1) (by omega)
  have m0 := aMus_rng hp hW hw2 (k + 1) (by omega)
  refine j_aload_n dL_drift_0 rfl ?_
  refine j_iconst (v := 2) dL_drift_1 (by decide) ?_
  refine j_iconst (v := 4) dL_drift_2 (by decide) ?_
  refine j_iload_n dL_drift_3 rfl ?_
  refine j_imul dL_drift_4 ?_
  refine j_iadd dL_drift_5 ?_
  refine m_iald (k := 2 + 4 * k) dL_drift_6 hB (by assumption) (ixk (iA (iC 2 (by decide)) (iM (iC 4 (by decide)) (hk0) (by omega)) (by omega)) (by omega)) (by omega) ?_
  refine j_ldc dL_drift_7 hB kc_L_21 ?_
  refine m_icmp_ne (tgt := 16) dL_drift_9 (by decide) (q2) (iC (-2000001) (by decide)) (fun c_9 => ?_) (fun c_9 => ?_)
  · refine j_aload_n dL_drift_16 rfl ?_
    refine j_iconst (v := 2) dL_drift_17 (by decide) ?_
    refine j_iload_n dL_drift_18 rfl ?_
    refine j_imul dL_drift_19 ?_
    refine j_iconst (v := 1) dL_drift_20 (by decide) ?_
    refine j_iadd dL_drift_21 ?_
    refine m_iald (k := 2 * k + 1) dL_drift_22 hB (by assumption) (ixk (iA (iM (iC 2 (by decide)) (hk0) (by omega)) (iC 1 (by decide)) (by omega)) (by omega)) (by omega) ?_
    refine j_aload_n dL_drift_23 rfl ?_
    refine j_iload_n dL_drift_24 rfl ?_
    refine m_iald (k := k) dL_drift_25 hB (by assumption) (ixk (hk0) (by omega)) (by omega) ?_
    refine j_isub dL_drift_26 ?_
    refine j_iret dL_drift_27 rfl (rfl) (by decide) (by decide) ?_
    exact ⟨_, rfl, rfl, rfl, rfl, rfl, ixz (iS (o2) (o3) (by omega)) (by unfold aDrift; rw [cueI_t (isCue_iff.mpr c_9)])⟩
  · refine j_iconst (v := 0) dL_drift_12 (by decide) ?_
    refine j_goto (tgt := 27) dL_drift_13 (by decide) ?_
    refine j_iret dL_drift_27 rfl (rfl) (by decide) (by decide) ?_
    exact ⟨_, rfl, rfl, rfl, rfl, rfl, by unfold aDrift; rw [cueI_f (fun z => isCue_iff.mp z c_9)]; rfl⟩
set_option maxRecDepth 100000 in
set_option maxHeartbeats 4000000 in
theorem sp_L_bads (hB : jB l s0 D) {ra ca ea : Nat} {s : aS} {rr : aR} {wz : Int} (hr : T ra = some (kI 60)) (hca : T ca = some (kI 10)) (hea : T ea = some (kI 5)) (hz : zRl (V ra) rr) (hO : lyO V ca ea s rr wz rr.1.length) (hp : pcW s) (hW : rlW s rr) (hw2 : wz = 0 ∨ 10 ≤ wz) {da : Nat} (hda : T da = some (kI 3)) (hdz : zDd (V da) s) : Sp l s0 D kL_bads (jR 1 0 0) 0 0 [.ref ra, .ref ca, .ref ea, .ref da] T V X sz (qI T X sz (fun y V' => V = V' ∧ isI y (aSum (aBad1 s rr wz) rr.1.length))) := by
  refine Sp.of pn_L_bads rfl (Nat.le_of_ble_eq_true rfl) ?_
  have h5 := hz.2.1
  have hn0 : isI (V ra 0) rr.1.length := hz.1
  have loop : ∀ (n j : Nat) (i y : Int32), j + n = rr.1.length → i.toInt = j → isI y (aSum (aBad1 s rr wz) j) → J l s0 D kL_bads (jR 1 0 0) 0 0 (qI T X sz (fun y V' => V = V' ∧ isI y (aSum (aBad1 s rr wz) rr.1.length))) 6 [(0, .ref ra), (1, .ref ca), (2, .ref ea), (3, .ref da), (4, .int y), (5, .int i)] [] T V X sz 0 0 := by
    intro n
    refine Nat.strongRecOn n ?_
    clear n
    intro n ih j i y hn hi hy
    have sr := aSum_rng (f := aBad1 s rr wz) (B := 1) (n := rr.1.length) (fun k _ => by unfold aBad1; split <;> omega) j (by omega)
    refine j_iload dL_bads_6 rfl ?_
    refine j_aload_n dL_bads_8 rfl ?_
    refine j_iconst (v := 0) dL_bads_9 (by decide) ?_
    refine m_iald (k := 0) dL_bads_10 hB (by assumption) (ixk (iC 0 (by decide)) (by omega)) (by omega) ?_
    refine m_icmp_ge (tgt := 47) dL_bads_11 (by decide) (hi) (hn0) (fun c_11 => ?_) (fun c_11 => ?_)
    · refine j_iload dL_bads_47 rfl ?_
      refine j_iret dL_bads_49 rfl (rfl) (by decide) (by decide) ?_
      exact ⟨_, rfl, rfl, rfl, rfl, rfl, by rw [show rr.1.length = j by omega]; exact hy⟩
    · have dr := aDrift_rng hp hW hw2 (k := j) (by omega)
      have ht : isI (V da 1) s.2.2.1.toInt := congrArg Int32.toInt hdz.2.1
      refine j_iload dL_bads_14 rfl ?_
      refine j_iload dL_bads_16 rfl ?_
      refine j_aload_n dL_bads_18 rfl ?_
      refine j_aload_n dL_bads_19 rfl ?_
      refine j_aload_n dL_bads_20 rfl ?_
      refine j_cSi dL_bads_21 hB mo_L_drift ml_L_33 (sp_L_drift hB hr hca hea hz hO hp hW hw2 hi (by omega)) rfl rfl ⟨rfl, rfl, by decide, by decide⟩ (Nat.le_of_ble_eq_true rfl) ⟨by decide, by decide⟩ (fun r_21 V_21 h_21 => ?_)
      obtain ⟨rfl, h_21⟩ := h_21
      refine j_cSi dL_bads_24 hB mo_L_abs ml_L_37 (sp_L_abs hB h_21 (by omega) (by omega)) rfl rfl ⟨rfl, rfl, by decide, by decide⟩ (Nat.le_of_ble_eq_true rfl) ⟨by decide, by decide⟩ (fun r_24 V_24 h_24 => ?_)
      obtain ⟨rfl, h_24⟩ := h_24
      refine j_aload_n dL_bads_27 rfl ?_
      refine j_iconst (v := 1) dL_bads_28 (by decide) ?_
      refine m_iald (k := 1) dL_bads_29 hB (by assumption) (ixk (iC 1 (by decide)) (by omega)) (by omega) ?_
      refine m_icmp_le (tgt := 37) dL_bads_30 (by decide) (h_24) (ht) (fun c_30 => ?_) (fun c_30 => ?_)
      · refine j_iconst (v := 0) dL_bads_37 (by decide) ?_
        refine j_iadd dL_bads_38 ?_
        refine j_istore (L' := [(0, _), (1, _), (2, _), (3, _), (4, _), (5, _)]) dL_bads_39 (by decide) rfl ?_
        refine j_iinc (v := 1) (L' := [(0, _), (1, _), (2, _), (3, _), (4, _), (5, _)]) dL_bads_41 rfl (by decide) (by decide) rfl ?_
        refine j_goto (tgt := 6) dL_bads_44 (by decide) ?_
        refine ih (n - 1) (by omega) (j + 1) _ _ (by omega) (ixk (k := j + 1) (iA (hi) (iC 1 (by decide)) (by omega)) (by omega)) (ixz (iA (hy) (iC 0 (by decide)) (by omega)) ?_)
        show _ = aSum (aBad1 s rr wz) j + aBad1 s rr wz j
        unfold aBad1
        rw [if_neg (by omega)]
      · refine j_iconst (v := 1) dL_bads_33 (by decide) ?_
        refine j_goto (tgt := 38) dL_bads_34 (by decide) ?_
        refine j_iadd dL_bads_38 ?_
        refine j_istore (L' := [(0, _), (1, _), (2, _), (3, _), (4, _), (5, _)]) dL_bads_39 (by decide) rfl ?_
        refine j_iinc (v := 1) (L' := [(0, _), (1, _), (2, _), (3, _), (4, _), (5, _)]) dL_bads_41 rfl (by decide) (by decide) rfl ?_
        refine j_goto (tgt := 6) dL_bads_44 (by decide) ?_
        refine ih (n - 1) (by omega) (j + 1) _ _ (by omega) (ixk (k := j + 1) (iA (hi) (iC 1 (by decide)) (by omega)) (by omega)) (ixz (iA (hy) (iC 1 (by decide)) (by omega)) ?_)
        show _ = aSum (aBad1 s rr wz) j + aBad1 s rr wz j
        unfold aBad1
        rw [if_pos (by omega)]
  refine j_iconst (v := 0) dL_bads_0 (by decide) ?_
  refine j_istore (L' := [(0, _), (1, _), (2, _), (3, _), (4, _)]) dL_bads_1 (by decide) rfl ?_
  refine j_iconst (v := 0) dL_bads_3 (by decide) ?_
  refine j_istore (L' := [(0, _), (1, _), (2, _), (3, _), (4, _), (5, _)]) dL_bads_4 (by decide) rfl ?_
  exact loop rr.1.length 0 0 0 (by omega) rfl rfl
set_option maxRecDepth 100000 in
set_option maxHeartbeats 4000000 in
theorem sp_L_drifts (hB : jB l s0 D) {ra ca ea : Nat} {s : aS} {rr : aR} {wz : Int} (hr : T ra = some (kI 60)) (hca : T ca = some (kI 10)) (hea : T ea = some (kI 5)) (hz : zRl (V ra) rr) (hO : lyO V ca ea s rr wz rr.1.length) (hp : pcW s) (hW : rlW s rr) (hw2 : wz = 0 ∨ 10 ≤ wz) : Sp l s0 D kL_drifts (jR 1 0 0) 0 0 [.ref ra, .ref ca, .ref ea] T V X sz (qI T X sz (fun y V' => V = V' ∧ isI y (aSum (aDs1 s rr wz) rr.1.length))) := by
  refine Sp.of pn_L_drifts rfl (Nat.le_of_ble_eq_true rfl) ?_
  have h5 := hz.2.1
  have hn0 : isI (V ra 0) rr.1.length := hz.1
  have loop : ∀ (n j : Nat) (i y : Int32), j + n = rr.1.length → i.toInt = j → isI y (aSum (aDs1 s rr wz) j) → J l s0 D kL_drifts (jR 1 0 0) 0 0 (qI T X sz (fun y V' => V = V' ∧ isI y (aSum (aDs1 s rr wz) rr.1.length))) 5 [(0, .ref ra), (1, .ref ca), (2, .ref ea), (3, .int y), (4, .int i)] [] T V X sz 0 0 := by
    intro n
    refine Nat.strongRecOn n ?_
    clear n
    intro n ih j i y hn hi hy
    have sr := aSum_rng (f := aDs1 s rr wz) (B := 300000) (n := rr.1.length) (fun k hk => by have := aDrift_rng hp hW hw2 hk; unfold aDs1; omega) j (by omega)
    refine j_iload dL_drifts_5 rfl ?_
    refine j_aload_n dL_drifts_7 rfl ?_
    refine j_iconst (v := 0) dL_drifts_8 (by decide) ?_
    refine m_iald (k := 0) dL_drifts_9 hB (by assumption) (ixk (iC 0 (by decide)) (by omega)) (by omega) ?_
    refine m_icmp_ge (tgt := 33) dL_drifts_10 (by decide) (hi) (hn0) (fun c_10 => ?_) (fun c_10 => ?_)
    · refine j_iload_n dL_drifts_33 rfl ?_
      refine j_iret dL_drifts_34 rfl (rfl) (by decide) (by decide) ?_
      exact ⟨_, rfl, rfl, rfl, rfl, rfl, by rw [show rr.1.length = j by omega]; exact hy⟩
    · have dr := aDrift_rng hp hW hw2 (k := j) (by omega)
      refine j_iload_n dL_drifts_13 rfl ?_
      refine j_iload dL_drifts_14 rfl ?_
      refine j_aload_n dL_drifts_16 rfl ?_
      refine j_aload_n dL_drifts_17 rfl ?_
      refine j_aload_n dL_drifts_18 rfl ?_
      refine j_cSi dL_drifts_19 hB mo_L_drift ml_L_33 (sp_L_drift hB hr hca hea hz hO hp hW hw2 hi (by omega)) rfl rfl ⟨rfl, rfl, by decide, by decide⟩ (Nat.le_of_ble_eq_true rfl) ⟨by decide, by decide⟩ (fun r_19 V_19 h_19 => ?_)
      obtain ⟨rfl, h_19⟩ := h_19
      refine j_cSi dL_drifts_22 hB mo_L_abs ml_L_37 (sp_L_abs hB h_19 (by omega) (by omega)) rfl rfl ⟨rfl, rfl, by decide, by decide⟩ (Nat.le_of_ble_eq_true rfl) ⟨by decide, by decide⟩ (fun r_22 V_22 h_22 => ?_)
      obtain ⟨rfl, h_22⟩ := h_22
      refine j_iadd dL_drifts_25 ?_
      refine j_istore_n (L' := [(0, _), (1, _), (2, _), (3, _), (4, _)]) dL_drifts_26 (by decide) rfl ?_
      refine j_iinc (v := 1) (L' := [(0, _), (1, _), (2, _), (3, _), (4, _)]) dL_drifts_27 rfl (by decide) (by decide) rfl ?_
      refine j_goto (tgt := 5) dL_drifts_30 (by decide) ?_
      exact ih (n - 1) (by omega) (j + 1) _ _ (by omega) (ixk (k := j + 1) (iA (hi) (iC 1 (by decide)) (by omega)) (by omega)) (ixz (iA (hy) (h_22) (by omega)) rfl)
  refine j_iconst (v := 0) dL_drifts_0 (by decide) ?_
  refine j_istore_n (L' := [(0, _), (1, _), (2, _), (3, _)]) dL_drifts_1 (by decide) rfl ?_
  refine j_iconst (v := 0) dL_drifts_2 (by decide) ?_
  refine j_istore (L' := [(0, _), (1, _), (2, _), (3, _), (4, _)]) dL_drifts_3 (by decide) rfl ?_
  exact loop rr.1.length 0 0 0 (by omega) rfl rfl
end JLL
