/-! CueSheetsModel: cues, drifts, sums -/
section JM3
variable {l : Launch} {s0 : State} {D : jD} {T : jT} {V : jV} {X : jX} {sz : Nat}
set_option maxRecDepth 100000 in
set_option maxHeartbeats 4000000 in
theorem sp_X8_layCue (hB : jB l s0 D) {q : Nat} (h0 : moT T q) {r : Int32} {z : Nat} (hz : r.toInt = z) (z3 : z < 3) {x : aX} (h : moIs T V q x) (hW : stW x.1) {k0 : Int32} {k : Nat} (hk0 : k0.toInt = k) (hk : k < (xR x r).1.length) {w : Int} (hw : w = 0 ∨ 10 ≤ w) (hb : ∀ a : Nat, a ≤ (xR x r).1.length → (V (q + 4) a).toInt = aBeg (xR x r) w a) (he : ∀ a : Nat, a < k → (V (q + 7) a).toInt = aEnd x.1 (xR x r) w a)  : Sp l s0 D kX8_layCue (jR 2 0 0) 0 0 [.ref q, .int r, .int k0] T V X sz (qU T X sz (fun V' => ∃ cb ce : Int32, V' = jset (jset V (q + 6) k cb) (q + 7) k ce ∧ cb.toInt = aCb x.1 (xR x r) w k ∧ ce.toInt = aEnd x.1 (xR x r) w k)) := by
  refine Sp.of pn_X8_layCue rfl (Nat.le_of_ble_eq_true rfl) ?_
  have hr := h.r hz z3
  have hrl : rlW x.1 (xR x r) := hW.r _
  have h10 := hrl.2.2.2.1
  have hp := hW.1
  have b0 := aBeg_rng hrl hw k (by omega)
  have m0 := aMus_rng hp hrl hw k (by omega)
  have cb0 : 0 ≤ aCb x.1 (xR x r) w k ∧ aCb x.1 (xR x r) w k ≤ 300000 := by unfold aCb; omega
  refine j_aload_n dX8_layCue_0 rfl ?_
  refine j_getr dX8_layCue_1 hB fl_X8_25 (by first | exact h0.1 | exact h0.2.1 | exact h0.2.2.1 | exact h0.2.2.2.1 | exact h0.2.2.2.2.1 | exact h0.2.2.2.2.2.1 | exact h0.2.2.2.2.2.2.1 | exact h0.2.2.2.2.2.2.2.1 | exact h0.2.2.2.2.2.2.2.2) (by rfl) ?_
  refine j_iload_n dX8_layCue_4 rfl ?_
  refine j_aload_n dX8_layCue_5 rfl ?_
  refine j_iload_n dX8_layCue_6 rfl ?_
  refine j_iload_n dX8_layCue_7 rfl ?_
  refine j_cVi dX8_layCue_8 hB mo_X8_beginOf ml_X8_63 (sp_X8_beginOf hB h0 hz z3 h hW hk0 hk hw hb he) (by first | exact h0.1 | exact h0.2.1 | exact h0.2.2.1 | exact h0.2.2.2.1 | exact h0.2.2.2.2.1 | exact h0.2.2.2.2.2.1 | exact h0.2.2.2.2.2.2.1 | exact h0.2.2.2.2.2.2.2.1 | exact h0.2.2.2.2.2.2.2.2) rfl rfl rfl rfl ⟨rfl, rfl, by decide, by decide⟩ (Nat.le_of_ble_eq_true rfl) ⟨by decide, by decide⟩ (fun r_8 V_8 h_8 => ?_)
  obtain ⟨rfl, h_8⟩ := h_8
  refine m_iast (k := k) dX8_layCue_11 hB (by first | exact h0.1 | exact h0.2.1 | exact h0.2.2.1 | exact h0.2.2.2.1 | exact h0.2.2.2.2.1 | exact h0.2.2.2.2.2.1 | exact h0.2.2.2.2.2.2.1 | exact h0.2.2.2.2.2.2.2.1 | exact h0.2.2.2.2.2.2.2.2) (ixk (hk0) (by omega)) (by omega) ?_
  generalize hV1 : jset V (q + 6) k r_8 = V1
  have ag1 : jAg V V1 (q + 4) (q + 8) := by rw [← hV1]; exact jAg.rf.set (by omega) (by omega)
  have hr1 : zRl (V1 (q + 1)) (67 * z) (xR x r) := by rw [ag1 (q + 1) (by omega)]; exact hr
  have h1 : moIs T V1 q x := h.kp (mKp.ag ag1 (by omega) (by omega))
  have hcb : isI (V1 (q + 6) k) (aCb x.1 (xR x r) w k) := by rw [← hV1, jset_eq]; exact h_8
  refine j_aload_n dX8_layCue_12 rfl ?_
  refine j_getr dX8_layCue_13 hB fl_X8_28 (by first | exact h0.1 | exact h0.2.1 | exact h0.2.2.1 | exact h0.2.2.2.1 | exact h0.2.2.2.2.1 | exact h0.2.2.2.2.2.1 | exact h0.2.2.2.2.2.2.1 | exact h0.2.2.2.2.2.2.2.1 | exact h0.2.2.2.2.2.2.2.2) (by rfl) ?_
  refine j_iload_n dX8_layCue_16 rfl ?_
  refine j_aload_n dX8_layCue_17 rfl ?_
  refine j_iload_n dX8_layCue_18 rfl ?_
  refine j_iload_n dX8_layCue_19 rfl ?_
  refine j_iconst (v := 1) dX8_layCue_20 (by decide) ?_
  refine j_cVi dX8_layCue_21 hB mo_X8_of ml_X8_50 (sp_X8_of hB h0 (ixk (k := z) (hz) (by omega)) z3 (ixk (k := k) (hk0) (by omega)) (by omega) (ixk (k := 1) (iC 1 (by decide)) (by omega)) (by omega)) (by first | exact h0.1 | exact h0.2.1 | exact h0.2.2.1 | exact h0.2.2.2.1 | exact h0.2.2.2.2.1 | exact h0.2.2.2.2.2.1 | exact h0.2.2.2.2.2.2.1 | exact h0.2.2.2.2.2.2.2.1 | exact h0.2.2.2.2.2.2.2.2) rfl rfl rfl rfl ⟨rfl, rfl, by decide, by decide⟩ (Nat.le_of_ble_eq_true rfl) ⟨by decide, by decide⟩ (fun r_21 V_21 h_21 => ?_)
  obtain ⟨rfl, h_21⟩ := h_21
  replace h_21 := h_21.trans (hr1.2.1 k hk).2.1
  subst h_21
  refine j_ldc dX8_layCue_24 hB kc_X8_62 ?_
  refine m_icmp_ne (tgt := 33) dX8_layCue_26 (by decide) (iV) (iC (-2000001) (by decide)) (fun c_26 => ?_) (fun c_26 => ?_)
  · have hcc := isCue_i.mpr c_26
    have cr := cue_rng hrl hk hcc
    have pr := aPlay_rng hp hrl hk hcc
    have hl8 := hW.2.2.1
    refine j_aload_n dX8_layCue_33 rfl ?_
    refine j_getr dX8_layCue_34 hB fl_X8_25 (by first | exact h0.1 | exact h0.2.1 | exact h0.2.2.1 | exact h0.2.2.2.1 | exact h0.2.2.2.2.1 | exact h0.2.2.2.2.2.1 | exact h0.2.2.2.2.2.2.1 | exact h0.2.2.2.2.2.2.2.1 | exact h0.2.2.2.2.2.2.2.2) (by rfl) ?_
    refine j_iload_n dX8_layCue_37 rfl ?_
    refine m_iald (k := k) dX8_layCue_38 hB (by first | exact h0.1 | exact h0.2.1 | exact h0.2.2.1 | exact h0.2.2.2.1 | exact h0.2.2.2.2.1 | exact h0.2.2.2.2.2.1 | exact h0.2.2.2.2.2.2.1 | exact h0.2.2.2.2.2.2.2.1 | exact h0.2.2.2.2.2.2.2.2) (ixk (hk0) (by omega)) (by omega) ?_
    refine j_aload_n dX8_layCue_39 rfl ?_
    refine j_aload_n dX8_layCue_40 rfl ?_
    refine j_iload_n dX8_layCue_41 rfl ?_
    refine j_iload_n dX8_layCue_42 rfl ?_
    refine j_iconst (v := 1) dX8_layCue_43 (by decide) ?_
    refine j_cVi dX8_layCue_44 hB mo_X8_of ml_X8_50 (sp_X8_of hB h0 (ixk (k := z) (hz) (by omega)) z3 (ixk (k := k) (hk0) (by omega)) (by omega) (ixk (k := 1) (iC 1 (by decide)) (by omega)) (by omega)) (by first | exact h0.1 | exact h0.2.1 | exact h0.2.2.1 | exact h0.2.2.2.1 | exact h0.2.2.2.2.1 | exact h0.2.2.2.2.2.1 | exact h0.2.2.2.2.2.2.1 | exact h0.2.2.2.2.2.2.2.1 | exact h0.2.2.2.2.2.2.2.2) rfl rfl rfl rfl ⟨rfl, rfl, by decide, by decide⟩ (Nat.le_of_ble_eq_true rfl) ⟨by decide, by decide⟩ (fun r_44 V_44 h_44 => ?_)
    obtain ⟨rfl, h_44⟩ := h_44
    replace h_44 := h_44.trans (hr1.2.1 k hk).2.1
    subst h_44
    refine j_aload_n dX8_layCue_47 rfl ?_
    refine j_iload_n dX8_layCue_48 rfl ?_
    refine j_iload_n dX8_layCue_49 rfl ?_
    refine j_iconst (v := 2) dX8_layCue_50 (by decide) ?_
    refine j_cVi dX8_layCue_51 hB mo_X8_of ml_X8_50 (sp_X8_of hB h0 (ixk (k := z) (hz) (by omega)) z3 (ixk (k := k) (hk0) (by omega)) (by omega) (ixk (k := 2) (iC 2 (by decide)) (by omega)) (by omega)) (by first | exact h0.1 | exact h0.2.1 | exact h0.2.2.1 | exact h0.2.2.2.1 | exact h0.2.2.2.2.1 | exact h0.2.2.2.2.2.1 | exact h0.2.2.2.2.2.2.1 | exact h0.2.2.2.2.2.2.2.1 | exact h0.2.2.2.2.2.2.2.2) rfl rfl rfl rfl ⟨rfl, rfl, by decide, by decide⟩ (Nat.le_of_ble_eq_true rfl) ⟨by decide, by decide⟩ (fun r_51 V_51 h_51 => ?_)
    obtain ⟨rfl, h_51⟩ := h_51
    replace h_51 := h_51.trans ((hr1.2.1 k hk).2.2 (isCue_i.mpr c_26)).1
    subst h_51
    refine j_aload_n dX8_layCue_54 rfl ?_
    refine j_iload_n dX8_layCue_55 rfl ?_
    refine j_iload_n dX8_layCue_56 rfl ?_
    refine j_iconst (v := 3) dX8_layCue_57 (by decide) ?_
    refine j_cVi dX8_layCue_58 hB mo_X8_of ml_X8_50 (sp_X8_of hB h0 (ixk (k := z) (hz) (by omega)) z3 (ixk (k := k) (hk0) (by omega)) (by omega) (ixk (k := 3) (iC 3 (by decide)) (by omega)) (by omega)) (by first | exact h0.1 | exact h0.2.1 | exact h0.2.2.1 | exact h0.2.2.2.1 | exact h0.2.2.2.2.1 | exact h0.2.2.2.2.2.1 | exact h0.2.2.2.2.2.2.1 | exact h0.2.2.2.2.2.2.2.1 | exact h0.2.2.2.2.2.2.2.2) rfl rfl rfl rfl ⟨rfl, rfl, by decide, by decide⟩ (Nat.le_of_ble_eq_true rfl) ⟨by decide, by decide⟩ (fun r_58 V_58 h_58 => ?_)
    obtain ⟨rfl, h_58⟩ := h_58
    replace h_58 := h_58.trans ((hr1.2.1 k hk).2.2 (isCue_i.mpr c_26)).2
    subst h_58
    refine j_cVi dX8_layCue_61 hB mo_X8_playTime ml_X8_66 (sp_X8_playTime hB h0 h1 hp (pp := (atZ (xR x r).2.1 k).toInt.toNat) (by omega) (by omega) hW.2.2.1 (iV) (by omega) (by omega) (iV) (by omega)) (by first | exact h0.1 | exact h0.2.1 | exact h0.2.2.1 | exact h0.2.2.2.1 | exact h0.2.2.2.2.1 | exact h0.2.2.2.2.2.1 | exact h0.2.2.2.2.2.2.1 | exact h0.2.2.2.2.2.2.2.1 | exact h0.2.2.2.2.2.2.2.2) rfl rfl rfl rfl ⟨rfl, rfl, by decide, by decide⟩ (Nat.le_of_ble_eq_true rfl) ⟨by decide, by decide⟩ (fun r_61 V_61 h_61 => ?_)
    obtain ⟨rfl, h_61⟩ := h_61
    replace h_61 : isI r_61 (aPlay x.1 (xR x r) k) := by rw [show (((atZ (xR x r).2.1 k).toInt.toNat : Nat) : Int) = (atZ (xR x r).2.1 k).toInt by omega] at h_61; exact h_61
    refine j_iadd dX8_layCue_64 ?_
    refine m_iast (k := k) dX8_layCue_65 hB (by first | exact h0.1 | exact h0.2.1 | exact h0.2.2.1 | exact h0.2.2.2.1 | exact h0.2.2.2.2.1 | exact h0.2.2.2.2.2.1 | exact h0.2.2.2.2.2.2.1 | exact h0.2.2.2.2.2.2.2.1 | exact h0.2.2.2.2.2.2.2.2) (ixk (hk0) (by omega)) (by omega) ?_
    refine j_vret dX8_layCue_66 rfl (by decide) (by decide) ?_
    subst hV1
    exact ⟨rfl, rfl, rfl, rfl, _, _, rfl, h_8, by rw [aEnd_c hcc, aMus_c hcc]; exact (iA (hcb) (h_61) (by omega))⟩
  · refine j_iconst (v := 0) dX8_layCue_29 (by decide) ?_
    refine j_goto (tgt := 65) dX8_layCue_30 (by decide) ?_
    refine m_iast (k := k) dX8_layCue_65 hB (by first | exact h0.1 | exact h0.2.1 | exact h0.2.2.1 | exact h0.2.2.2.1 | exact h0.2.2.2.2.1 | exact h0.2.2.2.2.2.1 | exact h0.2.2.2.2.2.2.1 | exact h0.2.2.2.2.2.2.2.1 | exact h0.2.2.2.2.2.2.2.2) (ixk (hk0) (by omega)) (by omega) ?_
    refine j_vret dX8_layCue_66 rfl (by decide) (by decide) ?_
    subst hV1
    exact ⟨rfl, rfl, rfl, rfl, _, _, rfl, h_8, by rw [show aEnd x.1 (xR x r) w k = 0 from cueI_f (fun z9 => isCue_i.mp z9 c_26)]; rfl⟩
set_option maxRecDepth 100000 in
set_option maxHeartbeats 4000000 in
theorem sp_X8_lay (hB : jB l s0 D) {q : Nat} (h0 : moT T q) {r : Int32} {z : Nat} (hz : r.toInt = z) (z3 : z < 3) {x : aX} (h : moIs T V q x) (hW : stW x.1) {w : Int32} (hw : w.toInt = 0 ∨ 10 ≤ w.toInt) : Sp l s0 D kX8_lay (jR 3 0 0) 0 0 [.ref q, .int r, .int w] T V X sz (qU T X sz (fun V' => lyP V' q x.1 (xR x r) w.toInt (xR x r).1.length ∧ jAg V V' (q + 4) (q + 8))) := by
  refine Sp.of pn_X8_lay rfl (Nat.le_of_ble_eq_true rfl) ?_
  have hr := h.r hz z3
  have hrl : rlW x.1 (xR x r) := hW.r _
  have h10 := hrl.2.2.2.1
  have hp := hW.1
  have loop : ∀ (n j : Nat) (i : Int32) (V1 : jV), j + n = (xR x r).1.length → i.toInt = j → lyP V1 q x.1 (xR x r) w.toInt j → jAg V V1 (q + 4) (q + 8) → J l s0 D kX8_lay (jR 3 0 0) 0 0 (qU T X sz (fun V' => lyP V' q x.1 (xR x r) w.toInt (xR x r).1.length ∧ jAg V V' (q + 4) (q + 8))) 8 [(0, .ref q), (1, .int r), (2, .int w), (3, .int i)] [] T V1 X sz 0 0 := by
    intro n
    refine Nat.strongRecOn n ?_
    clear n
    intro n ih j i V1 hn hi hl ha
    have h1 : moIs T V1 q x := h.kp (mKp.ag ha (by omega) (by omega))
    have hr1 := h1.r hz z3
    refine j_iload_n dX8_lay_8 rfl ?_
    refine j_aload_n dX8_lay_9 rfl ?_
    refine j_iload_n dX8_lay_10 rfl ?_
    refine j_cVi dX8_lay_11 hB mo_X8_scenes ml_X8_46 (sp_X8_scenes hB h0 (ixk (k := z) (hz) (by omega)) z3) (by first | exact h0.1 | exact h0.2.1 | exact h0.2.2.1 | exact h0.2.2.2.1 | exact h0.2.2.2.2.1 | exact h0.2.2.2.2.2.1 | exact h0.2.2.2.2.2.2.1 | exact h0.2.2.2.2.2.2.2.1 | exact h0.2.2.2.2.2.2.2.2) rfl rfl rfl rfl ⟨rfl, rfl, by decide, by decide⟩ (Nat.le_of_ble_eq_true rfl) ⟨by decide, by decide⟩ (fun r_11 V_11 h_11 => ?_)
    obtain ⟨rfl, h_11⟩ := h_11
    subst h_11
    refine m_icmp_ge (tgt := 29) dX8_lay_14 (by decide) (hi) (hr1.1) (fun c_14 => ?_) (fun c_14 => ?_)
    · refine j_vret dX8_lay_29 rfl (by decide) (by decide) ?_
      exact ⟨rfl, rfl, rfl, rfl, hl.le (by omega), ha⟩
    · refine j_aload_n dX8_lay_17 rfl ?_
      refine j_iload_n dX8_lay_18 rfl ?_
      refine j_iload_n dX8_lay_19 rfl ?_
      refine j_cVu dX8_lay_20 hB mo_X8_layCue ml_X8_73 (sp_X8_layCue hB h0 hz z3 h1 hW hi (by omega) hw hl.1.1 (fun a h9 => (hl.2 a h9).2)) (by first | exact h0.1 | exact h0.2.1 | exact h0.2.2.1 | exact h0.2.2.2.1 | exact h0.2.2.2.2.1 | exact h0.2.2.2.2.2.1 | exact h0.2.2.2.2.2.2.1 | exact h0.2.2.2.2.2.2.2.1 | exact h0.2.2.2.2.2.2.2.2) rfl rfl rfl rfl ⟨rfl, rfl, by decide, by decide⟩ (Nat.le_of_ble_eq_true rfl) ⟨by decide, by decide⟩ (fun V_20 h_20 => ?_)
      refine j_iinc (v := 1) (L' := [(0, _), (1, _), (2, _), (3, _)]) dX8_lay_23 rfl (by decide) (by decide) rfl ?_
      refine j_goto (tgt := 8) dX8_lay_26 (by decide) ?_
      obtain ⟨cb, ce, hV, e1, e2⟩ := h_20
      refine ih (n - 1) (by omega) (j + 1) _ _ (by omega) ?_ ?_ ?_
      · exact (ixk (k := j + 1) (iA (hi) (iC 1 (by decide)) (by omega)) (by omega))
      · rw [hV]
        refine ⟨⟨fun a h9 => ?_, fun a h9 => ?_⟩, fun a h9 => ?_⟩
        · rw [jset_row (by omega), jset_row (by omega)]; exact hl.1.1 a h9
        · rw [jset_row (by omega), jset_row (by omega)]; exact hl.1.2 a h9
        · rcases Nat.lt_or_ge a j with g | g
          · rw [jset_row (by omega), jset_ne (Or.inr (by omega)), jset_ne (Or.inr (by omega)), jset_row (by omega)]; exact hl.2 a g
          · have : a = j := by omega
            subst this
            rw [jset_row (by omega), jset_eq, jset_eq]
            exact ⟨e1, e2⟩
      · rw [hV]
        exact (ha.set (by omega) (by omega)).set (by omega) (by omega)
  refine j_aload_n dX8_lay_0 rfl ?_
  refine j_iload_n dX8_lay_1 rfl ?_
  refine j_iload_n dX8_lay_2 rfl ?_
  refine j_cVu dX8_lay_3 hB mo_X8_layScenes ml_X8_69 (sp_X8_layScenes hB h0 hz z3 h hW hw) (by first | exact h0.1 | exact h0.2.1 | exact h0.2.2.1 | exact h0.2.2.2.1 | exact h0.2.2.2.2.1 | exact h0.2.2.2.2.2.1 | exact h0.2.2.2.2.2.2.1 | exact h0.2.2.2.2.2.2.2.1 | exact h0.2.2.2.2.2.2.2.2) rfl rfl rfl rfl ⟨rfl, rfl, by decide, by decide⟩ (Nat.le_of_ble_eq_true rfl) ⟨by decide, by decide⟩ (fun V_3 h_3 => ?_)
  obtain ⟨hL, aL⟩ := h_3
  refine j_iconst (v := 0) dX8_lay_6 (by decide) ?_
  refine j_istore_n (L' := [(0, _), (1, _), (2, _), (3, _)]) dX8_lay_7 (by decide) rfl ?_
  exact loop (xR x r).1.length 0 0 V_3 (by omega) rfl ⟨hL, fun a h9 => absurd h9 (Nat.not_lt_zero _)⟩ (aL.wide (by omega) (by omega))
set_option maxRecDepth 100000 in
set_option maxHeartbeats 4000000 in
theorem sp_X8_drift (hB : jB l s0 D) {q : Nat} (h0 : moT T q) {r : Int32} {z : Nat} (hz : r.toInt = z) (z3 : z < 3) {x : aX} (h : moIs T V q x) (hW : stW x.1) {k0 : Int32} {k : Nat} (hk0 : k0.toInt = k) (hk : k < (xR x r).1.length) {w : Int} {m : Nat} (hw : w = 0 ∨ 10 ≤ w) (hl : lyP V q x.1 (xR x r) w m) (hm : k < m) : Sp l s0 D kX8_drift (jR 1 0 0) 0 0 [.ref q, .int r, .int k0] T V X sz (qI T X sz (fun y V' => V = V' ∧ y.toInt = aDrift x.1 (xR x r) w k)) := by
  refine Sp.of pn_X8_drift rfl (Nat.le_of_ble_eq_true rfl) ?_
  have hr := h.r hz z3
  have hrl : rlW x.1 (xR x r) := hW.r _
  have h10 := hrl.2.2.2.1
  have hp := hW.1
  have b0 := aBeg_rng hrl hw (k + 1) (by omega)
  have m0 := aMus_rng hp hrl hw (k + 1) (by omega)
  refine j_aload_n dX8_drift_0 rfl ?_
  refine j_iload_n dX8_drift_1 rfl ?_
  refine j_iload_n dX8_drift_2 rfl ?_
  refine j_iconst (v := 1) dX8_drift_3 (by decide) ?_
  refine j_cVi dX8_drift_4 hB mo_X8_of ml_X8_50 (sp_X8_of hB h0 (ixk (k := z) (hz) (by omega)) z3 (ixk (k := k) (hk0) (by omega)) (by omega) (ixk (k := 1) (iC 1 (by decide)) (by omega)) (by omega)) (by first | exact h0.1 | exact h0.2.1 | exact h0.2.2.1 | exact h0.2.2.2.1 | exact h0.2.2.2.2.1 | exact h0.2.2.2.2.2.1 | exact h0.2.2.2.2.2.2.1 | exact h0.2.2.2.2.2.2.2.1 | exact h0.2.2.2.2.2.2.2.2) rfl rfl rfl rfl ⟨rfl, rfl, by decide, by decide⟩ (Nat.le_of_ble_eq_true rfl) ⟨by decide, by decide⟩ (fun r_4 V_4 h_4 => ?_)
  obtain ⟨rfl, h_4⟩ := h_4
  replace h_4 := h_4.trans (hr.2.1 k hk).2.1
  subst h_4
  refine j_ldc dX8_drift_7 hB kc_X8_62 ?_
  refine m_icmp_ne (tgt := 16) dX8_drift_9 (by decide) (iV) (iC (-2000001) (by decide)) (fun c_9 => ?_) (fun c_9 => ?_)
  · have hcc := isCue_i.mpr c_9
    have hce : isI (V (q + 7) k) (aMus x.1 (xR x r) w (k + 1)) := by rw [← aEnd_c hcc]; exact (hl.2 k hm).2
    have hb1 : isI (V (q + 4) (k + 1)) (aBeg (xR x r) w (k + 1)) := hl.1.1 (k + 1) (by omega)
    refine j_aload_n dX8_drift_16 rfl ?_
    refine j_getr dX8_drift_17 hB fl_X8_28 (by first | exact h0.1 | exact h0.2.1 | exact h0.2.2.1 | exact h0.2.2.2.1 | exact h0.2.2.2.2.1 | exact h0.2.2.2.2.2.1 | exact h0.2.2.2.2.2.2.1 | exact h0.2.2.2.2.2.2.2.1 | exact h0.2.2.2.2.2.2.2.2) (by rfl) ?_
    refine j_iload_n dX8_drift_20 rfl ?_
    refine m_iald (k := k) dX8_drift_21 hB (by first | exact h0.1 | exact h0.2.1 | exact h0.2.2.1 | exact h0.2.2.2.1 | exact h0.2.2.2.2.1 | exact h0.2.2.2.2.2.1 | exact h0.2.2.2.2.2.2.1 | exact h0.2.2.2.2.2.2.2.1 | exact h0.2.2.2.2.2.2.2.2) (ixk (hk0) (by omega)) (by omega) ?_
    refine j_aload_n dX8_drift_22 rfl ?_
    refine j_getr dX8_drift_23 hB fl_X8_19 (by first | exact h0.1 | exact h0.2.1 | exact h0.2.2.1 | exact h0.2.2.2.1 | exact h0.2.2.2.2.1 | exact h0.2.2.2.2.2.1 | exact h0.2.2.2.2.2.2.1 | exact h0.2.2.2.2.2.2.2.1 | exact h0.2.2.2.2.2.2.2.2) (by rfl) ?_
    refine j_iload_n dX8_drift_26 rfl ?_
    refine j_iconst (v := 1) dX8_drift_27 (by decide) ?_
    refine j_iadd dX8_drift_28 ?_
    refine m_iald (k := k + 1) dX8_drift_29 hB (by first | exact h0.1 | exact h0.2.1 | exact h0.2.2.1 | exact h0.2.2.2.1 | exact h0.2.2.2.2.1 | exact h0.2.2.2.2.2.1 | exact h0.2.2.2.2.2.2.1 | exact h0.2.2.2.2.2.2.2.1 | exact h0.2.2.2.2.2.2.2.2) (ixk (iA (hk0) (iC 1 (by decide)) (by omega)) (by omega)) (by omega) ?_
    refine j_isub dX8_drift_30 ?_
    refine j_iret dX8_drift_31 rfl (rfl) (by decide) (by decide) ?_
    exact ⟨_, rfl, rfl, rfl, rfl, rfl, ixz (iS (hce) (hb1) (by omega)) (cueI_t hcc).symm⟩
  · refine j_iconst (v := 0) dX8_drift_12 (by decide) ?_
    refine j_goto (tgt := 31) dX8_drift_13 (by decide) ?_
    refine j_iret dX8_drift_31 rfl (rfl) (by decide) (by decide) ?_
    exact ⟨_, rfl, rfl, rfl, rfl, rfl, ixz (iC 0 (by decide)) (cueI_f (fun z9 => isCue_i.mp z9 c_9)).symm⟩
set_option maxRecDepth 100000 in
set_option maxHeartbeats 4000000 in
theorem sp_X8_isBad (hB : jB l s0 D) {q : Nat} (h0 : moT T q) {r : Int32} {z : Nat} (hz : r.toInt = z) (z3 : z < 3) {x : aX} (h : moIs T V q x) (hW : stW x.1) {k0 : Int32} {k : Nat} (hk0 : k0.toInt = k) (hk : k < (xR x r).1.length) {w : Int} {m : Nat} (hw : w = 0 ∨ 10 ≤ w) (hl : lyP V q x.1 (xR x r) w m) (hm : k < m) : Sp l s0 D kX8_isBad (jR 2 0 0) 0 0 [.ref q, .int r, .int k0] T V X sz (qI T X sz (fun y V' => V = V' ∧ bQ y (x.1.2.2.1.toInt < ((aDrift x.1 (xR x r) w k).natAbs : Int)))) := by
  refine Sp.of pn_X8_isBad rfl (Nat.le_of_ble_eq_true rfl) ?_
  have hr := h.r hz z3
  have hrl : rlW x.1 (xR x r) := hW.r _
  have h10 := hrl.2.2.2.1
  have hp := hW.1
  have htol : isI (V (q + 1) 226) x.1.2.2.1.toInt := congrArg Int32.toInt h.2.1.2.2.2.2.1
  refine j_aload_n dX8_isBad_0 rfl ?_
  refine j_iload_n dX8_isBad_1 rfl ?_
  refine j_iload_n dX8_isBad_2 rfl ?_
  refine j_cVi dX8_isBad_3 hB mo_X8_drift ml_X8_76 (sp_X8_drift hB h0 hz z3 h hW (ixk (k := k) (hk0) (by omega)) (by omega) hw hl (by omega)) (by first | exact h0.1 | exact h0.2.1 | exact h0.2.2.1 | exact h0.2.2.2.1 | exact h0.2.2.2.2.1 | exact h0.2.2.2.2.2.1 | exact h0.2.2.2.2.2.2.1 | exact h0.2.2.2.2.2.2.2.1 | exact h0.2.2.2.2.2.2.2.2) rfl rfl rfl rfl ⟨rfl, rfl, by decide, by decide⟩ (Nat.le_of_ble_eq_true rfl) ⟨by decide, by decide⟩ (fun r_3 V_3 h_3 => ?_)
  obtain ⟨rfl, h_3⟩ := h_3
  have dg := aDrift_rng hp hrl hw (k := k) (by omega)
  refine j_cSi dX8_isBad_6 hB mo_X8_size ml_X8_79 (sp_X8_size hB (h_3) (by omega) (by omega)) rfl rfl ⟨rfl, rfl, by decide, by decide⟩ (Nat.le_of_ble_eq_true rfl) ⟨by decide, by decide⟩ (fun r_6 V_6 h_6 => ?_)
  obtain ⟨rfl, h_6⟩ := h_6
  refine j_aload_n dX8_isBad_9 rfl ?_
  refine j_getr dX8_isBad_10 hB fl_X8_7 (by first | exact h0.1 | exact h0.2.1 | exact h0.2.2.1 | exact h0.2.2.2.1 | exact h0.2.2.2.2.1 | exact h0.2.2.2.2.2.1 | exact h0.2.2.2.2.2.2.1 | exact h0.2.2.2.2.2.2.2.1 | exact h0.2.2.2.2.2.2.2.2) (by rfl) ?_
  refine j_sipush (v := 226) dX8_isBad_13 (by decide) ?_
  refine m_iald (k := 226) dX8_isBad_16 hB (by first | exact h0.1 | exact h0.2.1 | exact h0.2.2.1 | exact h0.2.2.2.1 | exact h0.2.2.2.2.1 | exact h0.2.2.2.2.2.1 | exact h0.2.2.2.2.2.2.1 | exact h0.2.2.2.2.2.2.2.1 | exact h0.2.2.2.2.2.2.2.2) (ixk (iC 226 (by decide)) (by omega)) (by omega) ?_
  refine m_icmp_le (tgt := 24) dX8_isBad_17 (by decide) (h_6) (htol) (fun c_17 => ?_) (fun c_17 => ?_)
  · refine j_iconst (v := 0) dX8_isBad_24 (by decide) ?_
    refine j_iret dX8_isBad_25 rfl (by first | decide | exact m_nrB (by assumption)) (by decide) (by decide) ?_
    exact ⟨_, rfl, rfl, rfl, rfl, rfl, by first | exact Or.inl ⟨rfl, by omega⟩ | exact Or.inr ⟨rfl, by omega⟩⟩
  · refine j_iconst (v := 1) dX8_isBad_20 (by decide) ?_
    refine j_goto (tgt := 25) dX8_isBad_21 (by decide) ?_
    refine j_iret dX8_isBad_25 rfl (by first | decide | exact m_nrB (by assumption)) (by decide) (by decide) ?_
    exact ⟨_, rfl, rfl, rfl, rfl, rfl, by first | exact Or.inl ⟨rfl, by omega⟩ | exact Or.inr ⟨rfl, by omega⟩⟩
set_option maxRecDepth 100000 in
set_option maxHeartbeats 4000000 in
theorem sp_X8_bads (hB : jB l s0 D) {q : Nat} (h0 : moT T q) {r : Int32} {z : Nat} (hz : r.toInt = z) (z3 : z < 3) {x : aX} (h : moIs T V q x) (hW : stW x.1) {w : Int} {m : Nat} (hw : w = 0 ∨ 10 ≤ w) (hl : lyP V q x.1 (xR x r) w m) (hm : (xR x r).1.length ≤ m) : Sp l s0 D kX8_bads (jR 3 0 0) 0 0 [.ref q, .int r] T V X sz (qI T X sz (fun y V' => V = V' ∧ y.toInt = aSum (aBad1 x.1 (xR x r) w) (xR x r).1.length)) := by
  refine Sp.of pn_X8_bads rfl (Nat.le_of_ble_eq_true rfl) ?_
  have hr := h.r hz z3
  have hrl : rlW x.1 (xR x r) := hW.r _
  have h10 := hrl.2.2.2.1
  have hp := hW.1
  have hB9 : ∀ k : Nat, k < (xR x r).1.length → 0 ≤ (aBad1 x.1 (xR x r) w) k ∧ (aBad1 x.1 (xR x r) w) k ≤ 1 := fun k hk => by unfold aBad1; split <;> omega
  have loop : ∀ (n j : Nat) (i y : Int32), j + n = (xR x r).1.length → i.toInt = j → y.toInt = aSum (aBad1 x.1 (xR x r) w) j → J l s0 D kX8_bads (jR 3 0 0) 0 0 (qI T X sz (fun y V' => V = V' ∧ y.toInt = aSum (aBad1 x.1 (xR x r) w) (xR x r).1.length)) 4 [(0, .ref q), (1, .int r), (2, .int y), (3, .int i)] [] T V X sz 0 0 := by
    intro n
    refine Nat.strongRecOn n ?_
    clear n
    intro n ih j i y hn hi hy
    have hys := aSum_rng (f := aBad1 x.1 (xR x r) w) (B := 1) (n := (xR x r).1.length) hB9 j (by omega)
    refine j_iload_n dX8_bads_4 rfl ?_
    refine j_aload_n dX8_bads_5 rfl ?_
    refine j_iload_n dX8_bads_6 rfl ?_
    refine j_cVi dX8_bads_7 hB mo_X8_scenes ml_X8_46 (sp_X8_scenes hB h0 (ixk (k := z) (hz) (by omega)) z3) (by first | exact h0.1 | exact h0.2.1 | exact h0.2.2.1 | exact h0.2.2.2.1 | exact h0.2.2.2.2.1 | exact h0.2.2.2.2.2.1 | exact h0.2.2.2.2.2.2.1 | exact h0.2.2.2.2.2.2.2.1 | exact h0.2.2.2.2.2.2.2.2) rfl rfl rfl rfl ⟨rfl, rfl, by decide, by decide⟩ (Nat.le_of_ble_eq_true rfl) ⟨by decide, by decide⟩ (fun r_7 V_7 h_7 => ?_)
    obtain ⟨rfl, h_7⟩ := h_7
    subst h_7
    refine m_icmp_ge (tgt := 36) dX8_bads_10 (by decide) (hi) (hr.1) (fun c_10 => ?_) (fun c_10 => ?_)
    · refine j_iload_n dX8_bads_36 rfl ?_
      refine j_iret dX8_bads_37 rfl (rfl) (by decide) (by decide) ?_
      exact ⟨_, rfl, rfl, rfl, rfl, rfl, by rw [hy, show j = (xR x r).1.length by omega]⟩
    · refine j_iload_n dX8_bads_13 rfl ?_
      refine j_aload_n dX8_bads_14 rfl ?_
      refine j_iload_n dX8_bads_15 rfl ?_
      refine j_iload_n dX8_bads_16 rfl ?_
      refine j_cVi dX8_bads_17 hB mo_X8_isBad ml_X8_82 (sp_X8_isBad hB h0 hz z3 h hW (ixk (k := j) (hi) (by omega)) (by omega) hw hl (by omega)) (by first | exact h0.1 | exact h0.2.1 | exact h0.2.2.1 | exact h0.2.2.2.1 | exact h0.2.2.2.2.1 | exact h0.2.2.2.2.2.1 | exact h0.2.2.2.2.2.2.1 | exact h0.2.2.2.2.2.2.2.1 | exact h0.2.2.2.2.2.2.2.2) rfl rfl rfl rfl ⟨rfl, rfl, by decide, by decide⟩ (Nat.le_of_ble_eq_true rfl) ⟨by decide, by decide⟩ (fun r_17 V_17 h_17 => ?_)
      obtain ⟨rfl, b_17⟩ := h_17
      refine m_ifeqB (tgt := 27) dX8_bads_20 (by decide) b_17 (fun c_20 => ?_) (fun c_20 => ?_)
      · refine j_iconst (v := 0) dX8_bads_27 (by decide) ?_
        refine j_iadd dX8_bads_28 ?_
        refine j_istore_n (L' := [(0, _), (1, _), (2, _), (3, _)]) dX8_bads_29 (by decide) rfl ?_
        refine j_iinc (v := 1) (L' := [(0, _), (1, _), (2, _), (3, _)]) dX8_bads_30 rfl (by decide) (by decide) rfl ?_
        refine j_goto (tgt := 4) dX8_bads_33 (by decide) ?_
        refine ih (n - 1) (by omega) (j + 1) _ _ (by omega) ?_ ?_
        · exact (ixk (k := j + 1) (iA (hi) (iC 1 (by decide)) (by omega)) (by omega))
        · exact ixz (iA (hy) (iC 0 (by decide)) (by omega)) (show aSum (aBad1 x.1 (xR x r) w) j + 0 = aSum (aBad1 x.1 (xR x r) w) j + (if _ then 1 else 0) by rw [if_neg c_20])
      · refine j_iconst (v := 1) dX8_bads_23 (by decide) ?_
        refine j_goto (tgt := 28) dX8_bads_24 (by decide) ?_
        refine j_iadd dX8_bads_28 ?_
        refine j_istore_n (L' := [(0, _), (1, _), (2, _), (3, _)]) dX8_bads_29 (by decide) rfl ?_
        refine j_iinc (v := 1) (L' := [(0, _), (1, _), (2, _), (3, _)]) dX8_bads_30 rfl (by decide) (by decide) rfl ?_
        refine j_goto (tgt := 4) dX8_bads_33 (by decide) ?_
        refine ih (n - 1) (by omega) (j + 1) _ _ (by omega) ?_ ?_
        · exact (ixk (k := j + 1) (iA (hi) (iC 1 (by decide)) (by omega)) (by omega))
        · exact ixz (iA (hy) (iC 1 (by decide)) (by omega)) (show aSum (aBad1 x.1 (xR x r) w) j + 1 = aSum (aBad1 x.1 (xR x r) w) j + (if _ then 1 else 0) by rw [if_pos c_20])
  refine j_iconst (v := 0) dX8_bads_0 (by decide) ?_
  refine j_istore_n (L' := [(0, _), (1, _), (2, _)]) dX8_bads_1 (by decide) rfl ?_
  refine j_iconst (v := 0) dX8_bads_2 (by decide) ?_
  refine j_istore_n (L' := [(0, _), (1, _), (2, _), (3, _)]) dX8_bads_3 (by decide) rfl ?_
  exact loop (xR x r).1.length 0 0 0 (by omega) rfl rfl
set_option maxRecDepth 100000 in
set_option maxHeartbeats 4000000 in
theorem sp_X8_drifts (hB : jB l s0 D) {q : Nat} (h0 : moT T q) {r : Int32} {z : Nat} (hz : r.toInt = z) (z3 : z < 3) {x : aX} (h : moIs T V q x) (hW : stW x.1) {w : Int} {m : Nat} (hw : w = 0 ∨ 10 ≤ w) (hl : lyP V q x.1 (xR x r) w m) (hm : (xR x r).1.length ≤ m) : Sp l s0 D kX8_drifts (jR 2 0 0) 0 0 [.ref q, .int r] T V X sz (qI T X sz (fun y V' => V = V' ∧ y.toInt = aSum (aDs1 x.1 (xR x r) w) (xR x r).1.length)) := by
  refine Sp.of pn_X8_drifts rfl (Nat.le_of_ble_eq_true rfl) ?_
  have hr := h.r hz z3
  have hrl : rlW x.1 (xR x r) := hW.r _
  have h10 := hrl.2.2.2.1
  have hp := hW.1
  have hB9 : ∀ k : Nat, k < (xR x r).1.length → 0 ≤ (aDs1 x.1 (xR x r) w) k ∧ (aDs1 x.1 (xR x r) w) k ≤ 300000 := fun k hk => by have := aDrift_rng hp hrl hw hk; unfold aDs1; omega
  have loop : ∀ (n j : Nat) (i y : Int32), j + n = (xR x r).1.length → i.toInt = j → y.toInt = aSum (aDs1 x.1 (xR x r) w) j → J l s0 D kX8_drifts (jR 2 0 0) 0 0 (qI T X sz (fun y V' => V = V' ∧ y.toInt = aSum (aDs1 x.1 (xR x r) w) (xR x r).1.length)) 4 [(0, .ref q), (1, .int r), (2, .int y), (3, .int i)] [] T V X sz 0 0 := by
    intro n
    refine Nat.strongRecOn n ?_
    clear n
    intro n ih j i y hn hi hy
    have hys := aSum_rng (f := aDs1 x.1 (xR x r) w) (B := 300000) (n := (xR x r).1.length) hB9 j (by omega)
    refine j_iload_n dX8_drifts_4 rfl ?_
    refine j_aload_n dX8_drifts_5 rfl ?_
    refine j_iload_n dX8_drifts_6 rfl ?_
    refine j_cVi dX8_drifts_7 hB mo_X8_scenes ml_X8_46 (sp_X8_scenes hB h0 (ixk (k := z) (hz) (by omega)) z3) (by first | exact h0.1 | exact h0.2.1 | exact h0.2.2.1 | exact h0.2.2.2.1 | exact h0.2.2.2.2.1 | exact h0.2.2.2.2.2.1 | exact h0.2.2.2.2.2.2.1 | exact h0.2.2.2.2.2.2.2.1 | exact h0.2.2.2.2.2.2.2.2) rfl rfl rfl rfl ⟨rfl, rfl, by decide, by decide⟩ (Nat.le_of_ble_eq_true rfl) ⟨by decide, by decide⟩ (fun r_7 V_7 h_7 => ?_)
    obtain ⟨rfl, h_7⟩ := h_7
    subst h_7
    refine m_icmp_ge (tgt := 31) dX8_drifts_10 (by decide) (hi) (hr.1) (fun c_10 => ?_) (fun c_10 => ?_)
    · refine j_iload_n dX8_drifts_31 rfl ?_
      refine j_iret dX8_drifts_32 rfl (rfl) (by decide) (by decide) ?_
      exact ⟨_, rfl, rfl, rfl, rfl, rfl, by rw [hy, show j = (xR x r).1.length by omega]⟩
    · refine j_iload_n dX8_drifts_13 rfl ?_
      refine j_aload_n dX8_drifts_14 rfl ?_
      refine j_iload_n dX8_drifts_15 rfl ?_
      refine j_iload_n dX8_drifts_16 rfl ?_
      refine j_cVi dX8_drifts_17 hB mo_X8_drift ml_X8_76 (sp_X8_drift hB h0 hz z3 h hW (ixk (k := j) (hi) (by omega)) (by omega) hw hl (by omega)) (by first | exact h0.1 | exact h0.2.1 | exact h0.2.2.1 | exact h0.2.2.2.1 | exact h0.2.2.2.2.1 | exact h0.2.2.2.2.2.1 | exact h0.2.2.2.2.2.2.1 | exact h0.2.2.2.2.2.2.2.1 | exact h0.2.2.2.2.2.2.2.2) rfl rfl rfl rfl ⟨rfl, rfl, by decide, by decide⟩ (Nat.le_of_ble_eq_true rfl) ⟨by decide, by decide⟩ (fun r_17 V_17 h_17 => ?_)
      obtain ⟨rfl, h_17⟩ := h_17
      have dg := aDrift_rng hp hrl hw (k := j) (by omega)
      refine j_cSi dX8_drifts_20 hB mo_X8_size ml_X8_79 (sp_X8_size hB (h_17) (by omega) (by omega)) rfl rfl ⟨rfl, rfl, by decide, by decide⟩ (Nat.le_of_ble_eq_true rfl) ⟨by decide, by decide⟩ (fun r_20 V_20 h_20 => ?_)
      obtain ⟨rfl, h_20⟩ := h_20
      refine j_iadd dX8_drifts_23 ?_
      refine j_istore_n (L' := [(0, _), (1, _), (2, _), (3, _)]) dX8_drifts_24 (by decide) rfl ?_
      refine j_iinc (v := 1) (L' := [(0, _), (1, _), (2, _), (3, _)]) dX8_drifts_25 rfl (by decide) (by decide) rfl ?_
      refine j_goto (tgt := 4) dX8_drifts_28 (by decide) ?_
      refine ih (n - 1) (by omega) (j + 1) _ _ (by omega) ?_ ?_
      · exact (ixk (k := j + 1) (iA (hi) (iC 1 (by decide)) (by omega)) (by omega))
      · exact ixz (iA (hy) (h_20) (by omega)) rfl
  refine j_iconst (v := 0) dX8_drifts_0 (by decide) ?_
  refine j_istore_n (L' := [(0, _), (1, _), (2, _)]) dX8_drifts_1 (by decide) rfl ?_
  refine j_iconst (v := 0) dX8_drifts_2 (by decide) ?_
  refine j_istore_n (L' := [(0, _), (1, _), (2, _), (3, _)]) dX8_drifts_3 (by decide) rfl ?_
  exact loop (xR x r).1.length 0 0 0 (by omega) rfl rfl
set_option maxRecDepth 100000 in
set_option maxHeartbeats 4000000 in
theorem sp_X8_lostFeet (hB : jB l s0 D) {q : Nat} (h0 : moT T q) {r : Int32} {z : Nat} (hz : r.toInt = z) (z3 : z < 3) {x : aX} (h : moIs T V q x) (hW : stW x.1) {w : Int} {m : Nat} (hw : w = 0 ∨ 10 ≤ w) (hl : lyP V q x.1 (xR x r) w m) (hm : (xR x r).1.length ≤ m) : Sp l s0 D kX8_lostFeet (jR 1 0 0) 0 0 [.ref q, .int r] T V X sz (qI T X sz (fun y V' => V = V' ∧ y.toInt = aSum (aLost (xR x r)) (xR x r).1.length)) := by
  refine Sp.of pn_X8_lostFeet rfl (Nat.le_of_ble_eq_true rfl) ?_
  have hr := h.r hz z3
  have hrl : rlW x.1 (xR x r) := hW.r _
  have h10 := hrl.2.2.2.1
  have hp := hW.1
  have hB9 : ∀ k : Nat, k < (xR x r).1.length → 0 ≤ (aLost (xR x r)) k ∧ (aLost (xR x r)) k ≤ 900 := fun k hk => by have := cnt_le (lostB (xR x r).2.2.2.2.2) (aFirst (xR x r) k) (atZ (xR x r).1 k).toInt.toNat; have := len_rng hrl hk; unfold aLost; omega
  have loop : ∀ (n j : Nat) (i y : Int32), j + n = (xR x r).1.length → i.toInt = j → y.toInt = aSum (aLost (xR x r)) j → J l s0 D kX8_lostFeet (jR 1 0 0) 0 0 (qI T X sz (fun y V' => V = V' ∧ y.toInt = aSum (aLost (xR x r)) (xR x r).1.length)) 4 [(0, .ref q), (1, .int r), (2, .int y), (3, .int i)] [] T V X sz 0 0 := by
    intro n
    refine Nat.strongRecOn n ?_
    clear n
    intro n ih j i y hn hi hy
    have hys := aSum_rng (f := aLost (xR x r)) (B := 900) (n := (xR x r).1.length) hB9 j (by omega)
    refine j_iload_n dX8_lostFeet_4 rfl ?_
    refine j_aload_n dX8_lostFeet_5 rfl ?_
    refine j_iload_n dX8_lostFeet_6 rfl ?_
    refine j_cVi dX8_lostFeet_7 hB mo_X8_scenes ml_X8_46 (sp_X8_scenes hB h0 (ixk (k := z) (hz) (by omega)) z3) (by first | exact h0.1 | exact h0.2.1 | exact h0.2.2.1 | exact h0.2.2.2.1 | exact h0.2.2.2.2.1 | exact h0.2.2.2.2.2.1 | exact h0.2.2.2.2.2.2.1 | exact h0.2.2.2.2.2.2.2.1 | exact h0.2.2.2.2.2.2.2.2) rfl rfl rfl rfl ⟨rfl, rfl, by decide, by decide⟩ (Nat.le_of_ble_eq_true rfl) ⟨by decide, by decide⟩ (fun r_7 V_7 h_7 => ?_)
    obtain ⟨rfl, h_7⟩ := h_7
    subst h_7
    refine m_icmp_ge (tgt := 28) dX8_lostFeet_10 (by decide) (hi) (hr.1) (fun c_10 => ?_) (fun c_10 => ?_)
    · refine j_iload_n dX8_lostFeet_28 rfl ?_
      refine j_iret dX8_lostFeet_29 rfl (rfl) (by decide) (by decide) ?_
      exact ⟨_, rfl, rfl, rfl, rfl, rfl, by rw [hy, show j = (xR x r).1.length by omega]⟩
    · have hB8 := hB9 j (by omega)
      have hlo : isI (V (q + 5) j) (aLost (xR x r) j) := hl.1.2 j (by omega)
      refine j_iload_n dX8_lostFeet_13 rfl ?_
      refine j_aload_n dX8_lostFeet_14 rfl ?_
      refine j_getr dX8_lostFeet_15 hB fl_X8_22 (by first | exact h0.1 | exact h0.2.1 | exact h0.2.2.1 | exact h0.2.2.2.1 | exact h0.2.2.2.2.1 | exact h0.2.2.2.2.2.1 | exact h0.2.2.2.2.2.2.1 | exact h0.2.2.2.2.2.2.2.1 | exact h0.2.2.2.2.2.2.2.2) (by rfl) ?_
      refine j_iload_n dX8_lostFeet_18 rfl ?_
      refine m_iald (k := j) dX8_lostFeet_19 hB (by first | exact h0.1 | exact h0.2.1 | exact h0.2.2.1 | exact h0.2.2.2.1 | exact h0.2.2.2.2.1 | exact h0.2.2.2.2.2.1 | exact h0.2.2.2.2.2.2.1 | exact h0.2.2.2.2.2.2.2.1 | exact h0.2.2.2.2.2.2.2.2) (ixk (hi) (by omega)) (by omega) ?_
      refine j_iadd dX8_lostFeet_20 ?_
      refine j_istore_n (L' := [(0, _), (1, _), (2, _), (3, _)]) dX8_lostFeet_21 (by decide) rfl ?_
      refine j_iinc (v := 1) (L' := [(0, _), (1, _), (2, _), (3, _)]) dX8_lostFeet_22 rfl (by decide) (by decide) rfl ?_
      refine j_goto (tgt := 4) dX8_lostFeet_25 (by decide) ?_
      refine ih (n - 1) (by omega) (j + 1) _ _ (by omega) ?_ ?_
      · exact (ixk (k := j + 1) (iA (hi) (iC 1 (by decide)) (by omega)) (by omega))
      · exact ixz (iA (hy) (hlo) (by omega)) rfl
  refine j_iconst (v := 0) dX8_lostFeet_0 (by decide) ?_
  refine j_istore_n (L' := [(0, _), (1, _), (2, _)]) dX8_lostFeet_1 (by decide) rfl ?_
  refine j_iconst (v := 0) dX8_lostFeet_2 (by decide) ?_
  refine j_istore_n (L' := [(0, _), (1, _), (2, _), (3, _)]) dX8_lostFeet_3 (by decide) rfl ?_
  exact loop (xR x r).1.length 0 0 0 (by omega) rfl rfl
set_option maxRecDepth 100000 in
set_option maxHeartbeats 4000000 in
theorem sp_X8_cues (hB : jB l s0 D) {q : Nat} (h0 : moT T q) {r : Int32} {z : Nat} (hz : r.toInt = z) (z3 : z < 3) {x : aX} (h : moIs T V q x) (hW : stW x.1)  : Sp l s0 D kX8_cues (jR 1 0 0) 0 0 [.ref q, .int r] T V X sz (qI T X sz (fun y V' => V = V' ∧ y.toInt = aSum (aCue1 (xR x r)) (xR x r).1.length)) := by
  refine Sp.of pn_X8_cues rfl (Nat.le_of_ble_eq_true rfl) ?_
  have hr := h.r hz z3
  have hrl : rlW x.1 (xR x r) := hW.r _
  have h10 := hrl.2.2.2.1
  have hp := hW.1
  have hB9 : ∀ k : Nat, k < (xR x r).1.length → 0 ≤ (aCue1 (xR x r)) k ∧ (aCue1 (xR x r)) k ≤ 1 := fun k hk => by unfold aCue1 cueI; split <;> omega
  have loop : ∀ (n j : Nat) (i y : Int32), j + n = (xR x r).1.length → i.toInt = j → y.toInt = aSum (aCue1 (xR x r)) j → J l s0 D kX8_cues (jR 1 0 0) 0 0 (qI T X sz (fun y V' => V = V' ∧ y.toInt = aSum (aCue1 (xR x r)) (xR x r).1.length)) 4 [(0, .ref q), (1, .int r), (2, .int y), (3, .int i)] [] T V X sz 0 0 := by
    intro n
    refine Nat.strongRecOn n ?_
    clear n
    intro n ih j i y hn hi hy
    have hys := aSum_rng (f := aCue1 (xR x r)) (B := 1) (n := (xR x r).1.length) hB9 j (by omega)
    refine j_iload_n dX8_cues_4 rfl ?_
    refine j_aload_n dX8_cues_5 rfl ?_
    refine j_iload_n dX8_cues_6 rfl ?_
    refine j_cVi dX8_cues_7 hB mo_X8_scenes ml_X8_46 (sp_X8_scenes hB h0 (ixk (k := z) (hz) (by omega)) z3) (by first | exact h0.1 | exact h0.2.1 | exact h0.2.2.1 | exact h0.2.2.2.1 | exact h0.2.2.2.2.1 | exact h0.2.2.2.2.2.1 | exact h0.2.2.2.2.2.2.1 | exact h0.2.2.2.2.2.2.2.1 | exact h0.2.2.2.2.2.2.2.2) rfl rfl rfl rfl ⟨rfl, rfl, by decide, by decide⟩ (Nat.le_of_ble_eq_true rfl) ⟨by decide, by decide⟩ (fun r_7 V_7 h_7 => ?_)
    obtain ⟨rfl, h_7⟩ := h_7
    subst h_7
    refine m_icmp_ge (tgt := 39) dX8_cues_10 (by decide) (hi) (hr.1) (fun c_10 => ?_) (fun c_10 => ?_)
    · refine j_iload_n dX8_cues_39 rfl ?_
      refine j_iret dX8_cues_40 rfl (rfl) (by decide) (by decide) ?_
      exact ⟨_, rfl, rfl, rfl, rfl, rfl, by rw [hy, show j = (xR x r).1.length by omega]⟩
    · refine j_iload_n dX8_cues_13 rfl ?_
      refine j_aload_n dX8_cues_14 rfl ?_
      refine j_iload_n dX8_cues_15 rfl ?_
      refine j_iload_n dX8_cues_16 rfl ?_
      refine j_iconst (v := 1) dX8_cues_17 (by decide) ?_
      refine j_cVi dX8_cues_18 hB mo_X8_of ml_X8_50 (sp_X8_of hB h0 (ixk (k := z) (hz) (by omega)) z3 (ixk (k := j) (hi) (by omega)) (by omega) (ixk (k := 1) (iC 1 (by decide)) (by omega)) (by omega)) (by first | exact h0.1 | exact h0.2.1 | exact h0.2.2.1 | exact h0.2.2.2.1 | exact h0.2.2.2.2.1 | exact h0.2.2.2.2.2.1 | exact h0.2.2.2.2.2.2.1 | exact h0.2.2.2.2.2.2.2.1 | exact h0.2.2.2.2.2.2.2.2) rfl rfl rfl rfl ⟨rfl, rfl, by decide, by decide⟩ (Nat.le_of_ble_eq_true rfl) ⟨by decide, by decide⟩ (fun r_18 V_18 h_18 => ?_)
      obtain ⟨rfl, h_18⟩ := h_18
      replace h_18 := h_18.trans (hr.2.1 j (by omega)).2.1
      subst h_18
      refine j_ldc dX8_cues_21 hB kc_X8_62 ?_
      refine m_icmp_ne (tgt := 30) dX8_cues_23 (by decide) (iV) (iC (-2000001) (by decide)) (fun c_23 => ?_) (fun c_23 => ?_)
      · refine j_iconst (v := 1) dX8_cues_30 (by decide) ?_
        refine j_iadd dX8_cues_31 ?_
        refine j_istore_n (L' := [(0, _), (1, _), (2, _), (3, _)]) dX8_cues_32 (by decide) rfl ?_
        refine j_iinc (v := 1) (L' := [(0, _), (1, _), (2, _), (3, _)]) dX8_cues_33 rfl (by decide) (by decide) rfl ?_
        refine j_goto (tgt := 4) dX8_cues_36 (by decide) ?_
        refine ih (n - 1) (by omega) (j + 1) _ _ (by omega) ?_ ?_
        · exact (ixk (k := j + 1) (iA (hi) (iC 1 (by decide)) (by omega)) (by omega))
        · exact ixz (iA (hy) (iC 1 (by decide)) (by omega)) (show _ = aSum (aCue1 (xR x r)) j + cueI (xR x r) j 1 0 by rw [cueI_t (isCue_i.mpr c_23)])
      · refine j_iconst (v := 0) dX8_cues_26 (by decide) ?_
        refine j_goto (tgt := 31) dX8_cues_27 (by decide) ?_
        refine j_iadd dX8_cues_31 ?_
        refine j_istore_n (L' := [(0, _), (1, _), (2, _), (3, _)]) dX8_cues_32 (by decide) rfl ?_
        refine j_iinc (v := 1) (L' := [(0, _), (1, _), (2, _), (3, _)]) dX8_cues_33 rfl (by decide) (by decide) rfl ?_
        refine j_goto (tgt := 4) dX8_cues_36 (by decide) ?_
        refine ih (n - 1) (by omega) (j + 1) _ _ (by omega) ?_ ?_
        · exact (ixk (k := j + 1) (iA (hi) (iC 1 (by decide)) (by omega)) (by omega))
        · exact ixz (iA (hy) (iC 0 (by decide)) (by omega)) (show _ = aSum (aCue1 (xR x r)) j + cueI (xR x r) j 1 0 by rw [cueI_f (fun z9 => isCue_i.mp z9 c_23)])
  refine j_iconst (v := 0) dX8_cues_0 (by decide) ?_
  refine j_istore_n (L' := [(0, _), (1, _), (2, _)]) dX8_cues_1 (by decide) rfl ?_
  refine j_iconst (v := 0) dX8_cues_2 (by decide) ?_
  refine j_istore_n (L' := [(0, _), (1, _), (2, _), (3, _)]) dX8_cues_3 (by decide) rfl ?_
  exact loop (xR x r).1.length 0 0 0 (by omega) rfl rfl
end JM3
