/-! CueSheetsModel: pieces, counts, the best piece, the best speed, the share, the mean speed -/
section JM6
variable {l : Launch} {s0 : State} {D : jD} {T : jT} {V : jV} {X : jX} {sz : Nat}
/-- the sum over the first k reels -/
noncomputable def ov3 (s : aS) (w : Int) : Nat → Int
  | 0 => 0
  | k + 1 => ov3 s w k + rlP s (sR s k) w
theorem ov3_rng {s : aS} (hW : stW s) {w : Int} (hw : w = 0 ∨ w = 3 ∨ w = 6 ∨ w = 7) : ∀ k : Nat, k ≤ 3 → 0 ≤ ov3 s w k ∧ ov3 s w k ≤ 144000 * k
  | 0, _ => ⟨Int.le_refl 0, Int.le_refl 0⟩
  | k + 1, hk => by
    have ih := ov3_rng hW hw k (by omega)
    have r := rlP_m hW.1 (hW.r k) hw
    show 0 ≤ ov3 s w k + rlP s (sR s k) w ∧ ov3 s w k + rlP s (sR s k) w ≤ _
    omega
set_option maxRecDepth 100000 in
set_option maxHeartbeats 4000000 in
theorem sp_X8_usesOf (hB : jB l s0 D) {q : Nat} (h0 : moT T q) {x : aX} (h : moIs T V q x) (hW : stW x.1) {a : Int32} : Sp l s0 D kX8_usesOf (jR 1 0 0) 0 0 [.ref q, .int a] T V X sz (qI T X sz (fun y V' => V = V' ∧ y.toInt = cuT x.1 a 3)) := by
  refine Sp.of pn_X8_usesOf rfl (Nat.le_of_ble_eq_true rfl) ?_
  have cu0 : ∀ z : Nat, 0 ≤ cuN (sR x.1 z) a ∧ cuN (sR x.1 z) a ≤ 10 := fun z => by
    have h1 := hW.r z
    have h2 : (sR x.1 z).2.1.count a ≤ (sR x.1 z).2.1.length := List.count_le_length
    have h3 := h1.1
    have h4 := h1.2.2.2.1
    unfold cuN
    omega
  have outer : ∀ (n z : Nat) (r y : Int32) (L : List (Nat × Value)), z + n = 3 → r.toInt = z → y.toInt = cuT x.1 a z → 0 ≤ y.toInt → y.toInt ≤ 10 * z → J l s0 D kX8_usesOf (jR 1 0 0) 0 0 (qI T X sz (fun y V' => V = V' ∧ y.toInt = cuT x.1 a 3)) 4 [(0, .ref q), (1, .int a), (2, .int y), (3, .int r)] [] T V X sz 0 0 := by
    intro n
    refine Nat.strongRecOn n ?_
    clear n
    intro n ih z r y L hn hz hy hy0 hy1
    have inner : z < 3 → ∀ (m j : Nat) (i y : Int32), j + m = (sR x.1 z).1.length → i.toInt = j → y.toInt = cuT x.1 a z + (((sR x.1 z).2.1.take j).count a : Nat) → J l s0 D kX8_usesOf (jR 1 0 0) 0 0 (qI T X sz (fun y V' => V = V' ∧ y.toInt = cuT x.1 a 3)) 12 [(0, .ref q), (1, .int a), (2, .int y), (3, .int r), (4, .int i)] [] T V X sz 0 0 := by
      intro z3 m
      refine Nat.strongRecOn m ?_
      clear m
      intro m ih2 j i y hm hi hyj
      have hr := h.2.1.r z3
      have hrl := hW.r z
      have c0 := cu0 z
      have h10 := hrl.2.2.2.1
      have hy2 : 0 ≤ cuT x.1 a z ∧ cuT x.1 a z ≤ 10 * z := ⟨by rw [← hy]; exact hy0, by rw [← hy]; exact hy1⟩
      have hc1 : ((sR x.1 z).2.1.take j).count a ≤ ((sR x.1 z).2.1.take j).length := List.count_le_length
      have hc2 : ((sR x.1 z).2.1.take j).length ≤ j := by rw [List.length_take]; omega
      refine j_iload dX8_usesOf_12 rfl ?_
      refine j_aload_n dX8_usesOf_14 rfl ?_
      refine j_iload_n dX8_usesOf_15 rfl ?_
      refine j_cVi dX8_usesOf_16 hB mo_X8_scenes ml_X8_46 (sp_X8_scenes hB h0 (ixk (k := z) (hz) (by omega)) z3) (by first | exact h0.1 | exact h0.2.1 | exact h0.2.2.1 | exact h0.2.2.2.1 | exact h0.2.2.2.2.1 | exact h0.2.2.2.2.2.1 | exact h0.2.2.2.2.2.2.1 | exact h0.2.2.2.2.2.2.2.1 | exact h0.2.2.2.2.2.2.2.2) rfl rfl rfl rfl ⟨rfl, rfl, by decide, by decide⟩ (Nat.le_of_ble_eq_true rfl) ⟨by decide, by decide⟩ (fun r_16 V_16 h_16 => ?_)
      obtain ⟨rfl, h_16⟩ := h_16
      subst h_16
      refine m_icmp_ge (tgt := 48) dX8_usesOf_19 (by decide) (hi) (hr.1) (fun c_19 => ?_) (fun c_19 => ?_)
      · refine j_iinc (v := 1) (L' := [(0, _), (1, _), (2, _), (3, _), (4, _)]) dX8_usesOf_48 rfl (by decide) (by decide) rfl ?_
        refine j_goto (tgt := 4) dX8_usesOf_51 (by decide) ?_
        refine j_sub2 (L' := [(0, _), (1, _), (2, _), (3, _)]) (List.forall_mem_cons.mpr ⟨rfl, List.forall_mem_cons.mpr ⟨rfl, List.forall_mem_cons.mpr ⟨rfl, List.forall_mem_cons.mpr ⟨rfl, fun _ h9 => nomatch h9⟩⟩⟩⟩) ?_
        refine ih (n - 1) (by omega) (z + 1) _ _ [] (by omega) ?_ ?_ ?_ ?_
        · exact (ixk (k := z + 1) (iA (hz) (iC 1 (by decide)) (by omega)) (by omega))
        · rw [hyj, List.take_of_length_le (by have := hrl.1; omega)]; rfl
        · rw [hyj]; omega
        · rw [hyj]; omega
      · refine j_iload_n dX8_usesOf_22 rfl ?_
        refine j_aload_n dX8_usesOf_23 rfl ?_
        refine j_iload_n dX8_usesOf_24 rfl ?_
        refine j_iload dX8_usesOf_25 rfl ?_
        refine j_iconst (v := 1) dX8_usesOf_27 (by decide) ?_
        refine j_cVi dX8_usesOf_28 hB mo_X8_of ml_X8_50 (sp_X8_of hB h0 (ixk (k := z) (hz) (by omega)) z3 (ixk (k := j) (hi) (by omega)) (by omega) (ixk (k := 1) (iC 1 (by decide)) (by omega)) (by omega)) (by first | exact h0.1 | exact h0.2.1 | exact h0.2.2.1 | exact h0.2.2.2.1 | exact h0.2.2.2.2.1 | exact h0.2.2.2.2.2.1 | exact h0.2.2.2.2.2.2.1 | exact h0.2.2.2.2.2.2.2.1 | exact h0.2.2.2.2.2.2.2.2) rfl rfl rfl rfl ⟨rfl, rfl, by decide, by decide⟩ (Nat.le_of_ble_eq_true rfl) ⟨by decide, by decide⟩ (fun r_28 V_28 h_28 => ?_)
        obtain ⟨rfl, h_28⟩ := h_28
        replace h_28 := h_28.trans (hr.2.1 j (by omega)).2.1
        subst h_28
        refine j_iload_n dX8_usesOf_31 rfl ?_
        refine j_icmp_ne (tgt := 39) dX8_usesOf_32 (by decide) (fun c_32 => ?_) (fun c_32 => ?_)
        · refine j_iconst (v := 0) dX8_usesOf_39 (by decide) ?_
          refine j_iadd dX8_usesOf_40 ?_
          refine j_istore_n (L' := [(0, _), (1, _), (2, _), (3, _), (4, _)]) dX8_usesOf_41 (by decide) rfl ?_
          refine j_iinc (v := 1) (L' := [(0, _), (1, _), (2, _), (3, _), (4, _)]) dX8_usesOf_42 rfl (by decide) (by decide) rfl ?_
          refine j_goto (tgt := 12) dX8_usesOf_45 (by decide) ?_
          refine ih2 (m - 1) (by omega) (j + 1) _ _ (by omega) ?_ ?_
          · exact (ixk (k := j + 1) (iA (hi) (iC 1 (by decide)) (by omega)) (by omega))
          · rw [← getD_take _ _ (show j < (sR x.1 z).2.1.length by have := hrl.1; omega), List.count_append]
            have e9 : (sR x.1 z).2.1.getD j 0 = atZ (sR x.1 z).2.1 j := by rw [atZ_in (by omega), Int.toNat_natCast]
            rw [e9]
            refine ixz (iA (hyj) (iC 0 (by decide)) (by omega)) ?_
            rw [List.count_singleton, if_neg (by simpa using c_32)]; omega
        · refine j_iconst (v := 1) dX8_usesOf_35 (by decide) ?_
          refine j_goto (tgt := 40) dX8_usesOf_36 (by decide) ?_
          refine j_iadd dX8_usesOf_40 ?_
          refine j_istore_n (L' := [(0, _), (1, _), (2, _), (3, _), (4, _)]) dX8_usesOf_41 (by decide) rfl ?_
          refine j_iinc (v := 1) (L' := [(0, _), (1, _), (2, _), (3, _), (4, _)]) dX8_usesOf_42 rfl (by decide) (by decide) rfl ?_
          refine j_goto (tgt := 12) dX8_usesOf_45 (by decide) ?_
          refine ih2 (m - 1) (by omega) (j + 1) _ _ (by omega) ?_ ?_
          · exact (ixk (k := j + 1) (iA (hi) (iC 1 (by decide)) (by omega)) (by omega))
          · rw [← getD_take _ _ (show j < (sR x.1 z).2.1.length by have := hrl.1; omega), List.count_append]
            have e9 : (sR x.1 z).2.1.getD j 0 = atZ (sR x.1 z).2.1 j := by rw [atZ_in (by omega), Int.toNat_natCast]
            rw [e9]
            refine ixz (iA (hyj) (iC 1 (by decide)) (by omega)) ?_
            rw [List.count_singleton, if_pos (by simpa using c_32)]; omega
    refine j_iload_n dX8_usesOf_4 rfl ?_
    refine j_iconst (v := 3) dX8_usesOf_5 (by decide) ?_
    refine m_icmp_ge (tgt := 54) dX8_usesOf_6 (by decide) (hz) (iC 3 (by decide)) (fun c_6 => ?_) (fun c_6 => ?_)
    · refine j_iload_n dX8_usesOf_54 rfl ?_
      refine j_iret dX8_usesOf_55 rfl (rfl) (by decide) (by decide) ?_
      exact ⟨_, rfl, rfl, rfl, rfl, rfl, by rw [hy, show z = 3 by omega]⟩
    · refine j_iconst (v := 0) dX8_usesOf_9 (by decide) ?_
      refine j_istore (L' := [(0, _), (1, _), (2, _), (3, _), (4, _)]) dX8_usesOf_10 (by decide) rfl ?_
      exact inner (by omega) (sR x.1 z).1.length 0 0 y (by omega) rfl (by rw [hy]; simp)
  refine j_iconst (v := 0) dX8_usesOf_0 (by decide) ?_
  refine j_istore_n (L' := [(0, _), (1, _), (2, _)]) dX8_usesOf_1 (by decide) rfl ?_
  refine j_iconst (v := 0) dX8_usesOf_2 (by decide) ?_
  refine j_istore_n (L' := [(0, _), (1, _), (2, _), (3, _)]) dX8_usesOf_3 (by decide) rfl ?_
  exact outer 3 0 0 0 [] rfl rfl rfl (by decide) (by decide)
set_option maxRecDepth 100000 in
set_option maxHeartbeats 4000000 in
theorem sp_X8_pieceNow (hB : jB l s0 D) {q : Nat} (h0 : moT T q) {x : aX} (h : moIs T V q x) (hW : stW x.1) {a w : Int32} (ha : pcOk x.1 a) (w0 : 0 ≤ w.toInt) (w1 : w.toInt ≤ 3) : Sp l s0 D kX8_pieceNow (jR 2 0 0) 0 0 [.ref q, .int a, .int w] T V X sz (qI T X sz (fun y V' => V = V' ∧ y.toInt = pcP x.1 a w.toInt)) := by
  refine Sp.of pn_X8_pieceNow rfl (Nat.le_of_ble_eq_true rfl) ?_
  have hl8 := hW.2.2.1
  obtain ⟨pp, hap⟩ : ∃ pp : Nat, a.toInt = pp := ⟨a.toInt.toNat, by have := ha.1; omega⟩
  obtain ⟨ww, hww⟩ : ∃ ww : Nat, w.toInt = ww := ⟨w.toInt.toNat, by omega⟩
  have hpp : pp < x.1.2.1.1.length := by have := ha.2; omega
  have hz := h.2.1.2.2.2.1.2 pp hpp
  refine j_iload_n dX8_pieceNow_0 rfl ?_
  refine j_iconst (v := 3) dX8_pieceNow_1 (by decide) ?_
  refine m_icmp_ge (tgt := 22) dX8_pieceNow_2 (by decide) (hww) (iC 3 (by decide)) (fun c_2 => ?_) (fun c_2 => ?_)
  · refine j_aload_n dX8_pieceNow_22 rfl ?_
    refine j_iload_n dX8_pieceNow_23 rfl ?_
    refine j_cVi dX8_pieceNow_24 hB mo_X8_usesOf ml_X8_188 (sp_X8_usesOf hB h0 h hW) (by first | exact h0.1 | exact h0.2.1 | exact h0.2.2.1 | exact h0.2.2.2.1 | exact h0.2.2.2.2.1 | exact h0.2.2.2.2.2.1 | exact h0.2.2.2.2.2.2.1 | exact h0.2.2.2.2.2.2.2.1 | exact h0.2.2.2.2.2.2.2.2) rfl rfl rfl rfl ⟨rfl, rfl, by decide, by decide⟩ (Nat.le_of_ble_eq_true rfl) ⟨by decide, by decide⟩ (fun r_24 V_24 h_24 => ?_)
    obtain ⟨rfl, h_24⟩ := h_24
    refine j_iret dX8_pieceNow_27 rfl (rfl) (by decide) (by decide) ?_
    refine ⟨_, rfl, rfl, rfl, rfl, rfl, ?_⟩
    rw [show w.toInt = 3 by omega]; exact h_24
  · refine j_aload_n dX8_pieceNow_5 rfl ?_
    refine j_getr dX8_pieceNow_6 hB fl_X8_7 (by first | exact h0.1 | exact h0.2.1 | exact h0.2.2.1 | exact h0.2.2.2.1 | exact h0.2.2.2.2.1 | exact h0.2.2.2.2.2.1 | exact h0.2.2.2.2.2.2.1 | exact h0.2.2.2.2.2.2.2.1 | exact h0.2.2.2.2.2.2.2.2) (by rfl) ?_
    refine j_sipush (v := 202) dX8_pieceNow_9 (by decide) ?_
    refine j_iconst (v := 3) dX8_pieceNow_12 (by decide) ?_
    refine j_iload_n dX8_pieceNow_13 rfl ?_
    refine j_imul dX8_pieceNow_14 ?_
    refine j_iadd dX8_pieceNow_15 ?_
    refine j_iload_n dX8_pieceNow_16 rfl ?_
    refine j_iadd dX8_pieceNow_17 ?_
    refine m_iald (k := 202 + 3 * pp + ww) dX8_pieceNow_18 hB (by first | exact h0.1 | exact h0.2.1 | exact h0.2.2.1 | exact h0.2.2.2.1 | exact h0.2.2.2.2.1 | exact h0.2.2.2.2.2.1 | exact h0.2.2.2.2.2.2.1 | exact h0.2.2.2.2.2.2.2.1 | exact h0.2.2.2.2.2.2.2.2) (ixk (iA (iA (iC 202 (by decide)) (iM (iC 3 (by decide)) (hap) (by omega)) (by omega)) (hww) (by omega)) (by omega)) (by omega) ?_
    refine j_goto (tgt := 27) dX8_pieceNow_19 (by decide) ?_
    refine j_iret dX8_pieceNow_27 rfl (rfl) (by decide) (by decide) ?_
    refine ⟨_, rfl, rfl, rfl, rfl, rfl, ?_⟩
    rcases (show ww = 0 ∨ ww = 1 ∨ ww = 2 by omega) with e | e | e
    · subst e; rw [hww]; exact (congrArg Int32.toInt hz.1).trans (by rw [← hap]; rfl)
    · subst e; rw [hww]; exact (congrArg Int32.toInt hz.2.1).trans (by rw [← hap]; rfl)
    · subst e; rw [hww]; exact (congrArg Int32.toInt hz.2.2).trans (by rw [← hap]; rfl)
set_option maxRecDepth 100000 in
set_option maxHeartbeats 4000000 in
theorem sp_X8_overReels (hB : jB l s0 D) {q : Nat} (h0 : moT T q) {x : aX} (h : moIs T V q x) (hW : stW x.1) {w : Int32} (hw : w.toInt = 0 ∨ w.toInt = 3 ∨ w.toInt = 6 ∨ w.toInt = 7) : Sp l s0 D kX8_overReels (jR 5 0 0) 0 0 [.ref q, .int w] T V X sz (qI T X sz (fun y V' => y.toInt = ovR x.1 w.toInt ∧ jAg V V' (q + 4) (q + 8))) := by
  refine Sp.of pn_X8_overReels rfl (Nat.le_of_ble_eq_true rfl) ?_
  have loop : ∀ (n z : Nat) (r y : Int32) (V1 : jV), z + n = 3 → r.toInt = z → y.toInt = (ov3 x.1 w.toInt z) → jAg V V1 (q + 4) (q + 8) → J l s0 D kX8_overReels (jR 5 0 0) 0 0 (qI T X sz (fun y V' => y.toInt = ovR x.1 w.toInt ∧ jAg V V' (q + 4) (q + 8))) 4 [(0, .ref q), (1, .int w), (2, .int y), (3, .int r)] [] T V1 X sz 0 0 := by
    intro n
    refine Nat.strongRecOn n ?_
    clear n
    intro n ih z r y V1 hn hz hy ha
    have h1 : moIs T V1 q x := h.kp (mKp.ag ha (by omega) (by omega))
    have o0 := ov3_rng hW hw z (by omega)
    have rg := rlP_m hW.1 (hW.r z) hw
    have ex : xR x r = sR x.1 z := by unfold xR; rw [hz]
    refine j_iload_n dX8_overReels_4 rfl ?_
    refine j_iconst (v := 3) dX8_overReels_5 (by decide) ?_
    refine m_icmp_ge (tgt := 30) dX8_overReels_6 (by decide) (hz) (iC 3 (by decide)) (fun c_6 => ?_) (fun c_6 => ?_)
    · refine j_iload_n dX8_overReels_30 rfl ?_
      refine j_iret dX8_overReels_31 rfl (rfl) (by decide) (by decide) ?_
      exact ⟨_, rfl, rfl, rfl, rfl, by rw [hy, show z = 3 by omega]; show (0 : Int) + _ + _ + _ = _; unfold ovR; rw [Int.zero_add]; rfl, ha⟩
    · refine j_aload_n dX8_overReels_9 rfl ?_
      refine j_iload_n dX8_overReels_10 rfl ?_
      refine j_iconst (v := 0) dX8_overReels_11 (by decide) ?_
      refine j_cVu dX8_overReels_12 hB mo_X8_lay ml_X8_113 (sp_X8_lay hB h0 hz (by omega) h1 hW (Or.inl rfl)) (by first | exact h0.1 | exact h0.2.1 | exact h0.2.2.1 | exact h0.2.2.2.1 | exact h0.2.2.2.2.1 | exact h0.2.2.2.2.2.1 | exact h0.2.2.2.2.2.2.1 | exact h0.2.2.2.2.2.2.2.1 | exact h0.2.2.2.2.2.2.2.2) rfl rfl rfl rfl ⟨rfl, rfl, by decide, by decide⟩ (Nat.le_of_ble_eq_true rfl) ⟨by decide, by decide⟩ (fun V_12 h_12 => ?_)
      obtain ⟨gL, aL⟩ := h_12
      have h2 : moIs T V_12 q x := h1.kp (mKp.ag aL (by omega) (by omega))
      refine j_iload_n dX8_overReels_15 rfl ?_
      refine j_aload_n dX8_overReels_16 rfl ?_
      refine j_iload_n dX8_overReels_17 rfl ?_
      refine j_iload_n dX8_overReels_18 rfl ?_
      refine j_cVi dX8_overReels_19 hB mo_X8_reelNow ml_X8_185 (sp_X8_reelNow hB h0 hz (by omega) h2 hW gL (Nat.le_refl _) (by omega) (by omega)) (by first | exact h0.1 | exact h0.2.1 | exact h0.2.2.1 | exact h0.2.2.2.1 | exact h0.2.2.2.2.1 | exact h0.2.2.2.2.2.1 | exact h0.2.2.2.2.2.2.1 | exact h0.2.2.2.2.2.2.2.1 | exact h0.2.2.2.2.2.2.2.2) rfl rfl rfl rfl ⟨rfl, rfl, by decide, by decide⟩ (Nat.le_of_ble_eq_true rfl) ⟨by decide, by decide⟩ (fun r_19 V_19 h_19 => ?_)
      obtain ⟨rfl, h_19⟩ := h_19
      rw [ex] at h_19
      refine j_iadd dX8_overReels_22 ?_
      refine j_istore_n (L' := [(0, _), (1, _), (2, _), (3, _)]) dX8_overReels_23 (by decide) rfl ?_
      refine j_iinc (v := 1) (L' := [(0, _), (1, _), (2, _), (3, _)]) dX8_overReels_24 rfl (by decide) (by decide) rfl ?_
      refine j_goto (tgt := 4) dX8_overReels_27 (by decide) ?_
      refine ih (n - 1) (by omega) (z + 1) _ _ _ (by omega) ?_ ?_ (ha.tr aL)
      · exact (ixk (k := z + 1) (iA (hz) (iC 1 (by decide)) (by omega)) (by omega))
      · exact ixz (iA (hy) (h_19) (by omega)) rfl
  refine j_iconst (v := 0) dX8_overReels_0 (by decide) ?_
  refine j_istore_n (L' := [(0, _), (1, _), (2, _)]) dX8_overReels_1 (by decide) rfl ?_
  refine j_iconst (v := 0) dX8_overReels_2 (by decide) ?_
  refine j_istore_n (L' := [(0, _), (1, _), (2, _), (3, _)]) dX8_overReels_3 (by decide) rfl ?_
  exact loop 3 0 0 0 V rfl rfl rfl jAg.rf
set_option maxRecDepth 100000 in
set_option maxHeartbeats 4000000 in
theorem sp_X8_counted (hB : jB l s0 D) {q : Nat} (h0 : moT T q) {x : aX} (h : moIs T V q x) (hW : stW x.1) {w : Int32} (w0 : 0 ≤ w.toInt) (w1 : w.toInt ≤ 7) : Sp l s0 D kX8_counted (jR 6 0 0) 0 0 [.ref q, .int w] T V X sz (qI T X sz (fun y V' => y.toInt = ctP x w.toInt ∧ jAg V V' (q + 4) (q + 8))) := by
  refine Sp.of pn_X8_counted rfl (Nat.le_of_ble_eq_true rfl) ?_
  refine j_iload_n dX8_counted_0 rfl ?_
  refine j_tsw_7 (td := 97) (t0 := 44) (t1 := 50) (t2 := 59) (t3 := 66) (t4 := 73) (t5 := 82) (t6 := 91) dX8_counted_1 (by decide) (by decide) (fun s_1 => ?_) (fun s_1 => ?_) (fun s_1 => ?_) (fun s_1 => ?_) (fun s_1 => ?_) (fun s_1 => ?_) (fun s_1 => ?_) (fun s_1 => ?_)
  · refine j_aload_n dX8_counted_44 rfl ?_
    refine j_iconst (v := 0) dX8_counted_45 (by decide) ?_
    refine j_cVi dX8_counted_46 hB mo_X8_overReels ml_X8_194 (sp_X8_overReels hB h0 h hW (by decide)) (by first | exact h0.1 | exact h0.2.1 | exact h0.2.2.1 | exact h0.2.2.2.1 | exact h0.2.2.2.2.1 | exact h0.2.2.2.2.2.1 | exact h0.2.2.2.2.2.2.1 | exact h0.2.2.2.2.2.2.2.1 | exact h0.2.2.2.2.2.2.2.2) rfl rfl rfl rfl ⟨rfl, rfl, by decide, by decide⟩ (Nat.le_of_ble_eq_true rfl) ⟨by decide, by decide⟩ (fun r_46 V_46 h_46 => ?_)
    obtain ⟨t_46, a_46⟩ := h_46
    refine j_iret dX8_counted_49 rfl (rfl) (by decide) (by decide) ?_
    exact ⟨_, rfl, rfl, rfl, rfl, by rw [s_1]; exact t_46, a_46⟩
  · refine j_aload_n dX8_counted_50 rfl ?_
    refine j_getr dX8_counted_51 hB fl_X8_7 (by first | exact h0.1 | exact h0.2.1 | exact h0.2.2.1 | exact h0.2.2.2.1 | exact h0.2.2.2.2.1 | exact h0.2.2.2.2.2.1 | exact h0.2.2.2.2.2.2.1 | exact h0.2.2.2.2.2.2.2.1 | exact h0.2.2.2.2.2.2.2.2) (by rfl) ?_
    refine j_sipush (v := 201) dX8_counted_54 (by decide) ?_
    refine m_iald (k := 201) dX8_counted_57 hB (by first | exact h0.1 | exact h0.2.1 | exact h0.2.2.1 | exact h0.2.2.2.1 | exact h0.2.2.2.2.1 | exact h0.2.2.2.2.2.1 | exact h0.2.2.2.2.2.2.1 | exact h0.2.2.2.2.2.2.2.1 | exact h0.2.2.2.2.2.2.2.2) (ixk (iC 201 (by decide)) (by omega)) (by omega) ?_
    refine j_iret dX8_counted_58 rfl (rfl) (by decide) (by decide) ?_
    exact ⟨_, rfl, rfl, rfl, rfl, by rw [s_1]; exact h.2.1.2.2.2.1.1, jAg.rf⟩
  · refine j_aload_n dX8_counted_59 rfl ?_
    refine j_bipush (v := 6) dX8_counted_60 (by decide) ?_
    refine j_cVi dX8_counted_62 hB mo_X8_overReels ml_X8_194 (sp_X8_overReels hB h0 h hW (by decide)) (by first | exact h0.1 | exact h0.2.1 | exact h0.2.2.1 | exact h0.2.2.2.1 | exact h0.2.2.2.2.1 | exact h0.2.2.2.2.2.1 | exact h0.2.2.2.2.2.2.1 | exact h0.2.2.2.2.2.2.2.1 | exact h0.2.2.2.2.2.2.2.2) rfl rfl rfl rfl ⟨rfl, rfl, by decide, by decide⟩ (Nat.le_of_ble_eq_true rfl) ⟨by decide, by decide⟩ (fun r_62 V_62 h_62 => ?_)
    obtain ⟨t_62, a_62⟩ := h_62
    refine j_iret dX8_counted_65 rfl (rfl) (by decide) (by decide) ?_
    exact ⟨_, rfl, rfl, rfl, rfl, by rw [s_1]; exact t_62, a_62⟩
  · refine j_aload_n dX8_counted_66 rfl ?_
    refine j_bipush (v := 7) dX8_counted_67 (by decide) ?_
    refine j_cVi dX8_counted_69 hB mo_X8_overReels ml_X8_194 (sp_X8_overReels hB h0 h hW (by decide)) (by first | exact h0.1 | exact h0.2.1 | exact h0.2.2.1 | exact h0.2.2.2.1 | exact h0.2.2.2.2.1 | exact h0.2.2.2.2.2.1 | exact h0.2.2.2.2.2.2.1 | exact h0.2.2.2.2.2.2.2.1 | exact h0.2.2.2.2.2.2.2.2) rfl rfl rfl rfl ⟨rfl, rfl, by decide, by decide⟩ (Nat.le_of_ble_eq_true rfl) ⟨by decide, by decide⟩ (fun r_69 V_69 h_69 => ?_)
    obtain ⟨t_69, a_69⟩ := h_69
    refine j_iret dX8_counted_72 rfl (rfl) (by decide) (by decide) ?_
    exact ⟨_, rfl, rfl, rfl, rfl, by rw [s_1]; exact t_69, a_69⟩
  · refine j_aload_n dX8_counted_73 rfl ?_
    refine j_getr dX8_counted_74 hB fl_X8_7 (by first | exact h0.1 | exact h0.2.1 | exact h0.2.2.1 | exact h0.2.2.2.1 | exact h0.2.2.2.2.1 | exact h0.2.2.2.2.2.1 | exact h0.2.2.2.2.2.2.1 | exact h0.2.2.2.2.2.2.2.1 | exact h0.2.2.2.2.2.2.2.2) (by rfl) ?_
    refine j_sipush (v := 226) dX8_counted_77 (by decide) ?_
    refine m_iald (k := 226) dX8_counted_80 hB (by first | exact h0.1 | exact h0.2.1 | exact h0.2.2.1 | exact h0.2.2.2.1 | exact h0.2.2.2.2.1 | exact h0.2.2.2.2.2.1 | exact h0.2.2.2.2.2.2.1 | exact h0.2.2.2.2.2.2.2.1 | exact h0.2.2.2.2.2.2.2.2) (ixk (iC 226 (by decide)) (by omega)) (by omega) ?_
    refine j_iret dX8_counted_81 rfl (rfl) (by decide) (by decide) ?_
    exact ⟨_, rfl, rfl, rfl, rfl, by rw [s_1]; exact (congrArg Int32.toInt h.2.1.2.2.2.2.1), jAg.rf⟩
  · refine j_aload_n dX8_counted_82 rfl ?_
    refine j_getr dX8_counted_83 hB fl_X8_7 (by first | exact h0.1 | exact h0.2.1 | exact h0.2.2.1 | exact h0.2.2.2.1 | exact h0.2.2.2.2.1 | exact h0.2.2.2.2.2.1 | exact h0.2.2.2.2.2.2.1 | exact h0.2.2.2.2.2.2.2.1 | exact h0.2.2.2.2.2.2.2.2) (by rfl) ?_
    refine j_sipush (v := 227) dX8_counted_86 (by decide) ?_
    refine m_iald (k := 227) dX8_counted_89 hB (by first | exact h0.1 | exact h0.2.1 | exact h0.2.2.1 | exact h0.2.2.2.1 | exact h0.2.2.2.2.1 | exact h0.2.2.2.2.2.1 | exact h0.2.2.2.2.2.2.1 | exact h0.2.2.2.2.2.2.2.1 | exact h0.2.2.2.2.2.2.2.2) (ixk (iC 227 (by decide)) (by omega)) (by omega) ?_
    refine j_iret dX8_counted_90 rfl (rfl) (by decide) (by decide) ?_
    exact ⟨_, rfl, rfl, rfl, rfl, by rw [s_1]; exact (congrArg Int32.toInt h.2.1.2.2.2.2.2), jAg.rf⟩
  · refine j_aload_n dX8_counted_91 rfl ?_
    refine j_iconst (v := 3) dX8_counted_92 (by decide) ?_
    refine j_cVi dX8_counted_93 hB mo_X8_overReels ml_X8_194 (sp_X8_overReels hB h0 h hW (by decide)) (by first | exact h0.1 | exact h0.2.1 | exact h0.2.2.1 | exact h0.2.2.2.1 | exact h0.2.2.2.2.1 | exact h0.2.2.2.2.2.1 | exact h0.2.2.2.2.2.2.1 | exact h0.2.2.2.2.2.2.2.1 | exact h0.2.2.2.2.2.2.2.2) rfl rfl rfl rfl ⟨rfl, rfl, by decide, by decide⟩ (Nat.le_of_ble_eq_true rfl) ⟨by decide, by decide⟩ (fun r_93 V_93 h_93 => ?_)
    obtain ⟨t_93, a_93⟩ := h_93
    refine j_iret dX8_counted_96 rfl (rfl) (by decide) (by decide) ?_
    exact ⟨_, rfl, rfl, rfl, rfl, by rw [s_1]; exact t_93, a_93⟩
  · refine j_aload_n dX8_counted_97 rfl ?_
    refine j_geti dX8_counted_98 hB fl_X8_88 (by first | exact h0.1 | exact h0.2.1 | exact h0.2.2.1 | exact h0.2.2.2.1 | exact h0.2.2.2.2.1 | exact h0.2.2.2.2.2.1 | exact h0.2.2.2.2.2.2.1 | exact h0.2.2.2.2.2.2.2.1 | exact h0.2.2.2.2.2.2.2.2) (by rfl) ?_
    refine j_iret dX8_counted_101 rfl (rfl) (by decide) (by decide) ?_
    exact ⟨_, rfl, rfl, rfl, rfl, by rw [show w.toInt = 7 by omega]; exact h.2.2.1.1, jAg.rf⟩
set_option maxRecDepth 100000 in
set_option maxHeartbeats 4000000 in
theorem sp_X8_bestPieceNow (hB : jB l s0 D) {q : Nat} (h0 : moT T q) {r : Int32} {z : Nat} (hz : r.toInt = z) (z3 : z < 3) {x : aX} (h : moIs T V q x) (hW : stW x.1) {k0 : Int32} {k : Nat} (hk0 : k0.toInt = k) (hk : k < (xR x r).1.length) {m : Nat} (hl : lyP V q x.1 (xR x r) 0 m) (hm : k < m) : Sp l s0 D kX8_bestPieceNow (jR 3 0 0) 0 0 [.ref q, .int r, .int k0] T V X sz (qI T X sz (fun y V' => y.toInt = bpV x.1 (xR x r) k ∧ mF V V' q)) := by
  refine Sp.of pn_X8_bestPieceNow rfl (Nat.le_of_ble_eq_true rfl) ?_
  have hr := h.r hz z3
  have hrl : rlW x.1 (xR x r) := hW.r _
  have h10 := hrl.2.2.2.1
  have hp := hW.1
  have hl8 := hW.2.2.1
  have loop : ∀ (n j : Nat) (i b le : Int32) (V1 : jV), j + n = x.1.2.1.1.length → i.toInt = j → b.toInt = (bpN x.1 (aRoom x.1 (xR x r) 0 k) j).1 → le.toInt = (bpN x.1 (aRoom x.1 (xR x r) 0 k) j).2 → mF V V1 q → J l s0 D kX8_bestPieceNow (jR 3 0 0) 0 0 (qI T X sz (fun y V' => y.toInt = bpV x.1 (xR x r) k ∧ mF V V' q)) 9 [(0, .ref q), (1, .int r), (2, .int k0), (3, .int b), (4, .int le), (5, .int i)] [] T V1 X sz 0 0 := by
    intro n
    refine Nat.strongRecOn n ?_
    clear n
    intro n ih j i b le V1 hn hi hb hle ha
    have h1 : moIs T V1 q x := h.kp ha.kp
    have hl1 := ha.ly hl
    have hpn : (V1 (q + 1) 201).toInt = x.1.2.1.1.length := h1.2.1.2.2.2.1.1
    refine j_iload dX8_bestPieceNow_9 rfl ?_
    refine j_aload_n dX8_bestPieceNow_11 rfl ?_
    refine j_getr dX8_bestPieceNow_12 hB fl_X8_7 (by first | exact h0.1 | exact h0.2.1 | exact h0.2.2.1 | exact h0.2.2.2.1 | exact h0.2.2.2.2.1 | exact h0.2.2.2.2.2.1 | exact h0.2.2.2.2.2.2.1 | exact h0.2.2.2.2.2.2.2.1 | exact h0.2.2.2.2.2.2.2.2) (by rfl) ?_
    refine j_sipush (v := 201) dX8_bestPieceNow_15 (by decide) ?_
    refine m_iald (k := 201) dX8_bestPieceNow_18 hB (by first | exact h0.1 | exact h0.2.1 | exact h0.2.2.1 | exact h0.2.2.2.1 | exact h0.2.2.2.2.1 | exact h0.2.2.2.2.2.1 | exact h0.2.2.2.2.2.2.1 | exact h0.2.2.2.2.2.2.2.1 | exact h0.2.2.2.2.2.2.2.2) (ixk (iC 201 (by decide)) (by omega)) (by omega) ?_
    refine m_icmp_ge (tgt := 61) dX8_bestPieceNow_19 (by decide) (hi) (hpn) (fun c_19 => ?_) (fun c_19 => ?_)
    · refine j_iload_n dX8_bestPieceNow_61 rfl ?_
      refine j_iret dX8_bestPieceNow_62 rfl (rfl) (by decide) (by decide) ?_
      exact ⟨_, rfl, rfl, rfl, rfl, by rw [hb, show j = x.1.2.1.1.length by omega]; rfl, ha⟩
    · refine j_aload_n dX8_bestPieceNow_22 rfl ?_
      refine j_iload_n dX8_bestPieceNow_23 rfl ?_
      refine j_iload_n dX8_bestPieceNow_24 rfl ?_
      refine j_iload dX8_bestPieceNow_25 rfl ?_
      refine j_cVi dX8_bestPieceNow_27 hB mo_X8_bestOf ml_X8_116 (sp_X8_bestOf hB h0 hz z3 h1 hW hk0 hk (Or.inl rfl) hl1.1.1 (fun a h9 => (hl1.2 a (by omega)).2) hi (by omega)) (by first | exact h0.1 | exact h0.2.1 | exact h0.2.2.1 | exact h0.2.2.2.1 | exact h0.2.2.2.2.1 | exact h0.2.2.2.2.2.1 | exact h0.2.2.2.2.2.2.1 | exact h0.2.2.2.2.2.2.2.1 | exact h0.2.2.2.2.2.2.2.2) rfl rfl rfl rfl ⟨rfl, rfl, by decide, by decide⟩ (Nat.le_of_ble_eq_true rfl) ⟨by decide, by decide⟩ (fun r_27 V_27 h_27 => ?_)
      obtain ⟨bb, hV, e1, e2⟩ := h_27
      have hbs : isI (V_27 q 10) (bestT x.1 j (aRoom x.1 (xR x r) 0 k)).2.2 := by rw [hV, jset_eq]; exact e1
      have a2 : mF V V_27 q := by rw [hV]; exact ha.f (by omega)
      refine j_pop dX8_bestPieceNow_30 rfl ?_
      refine j_iload_n dX8_bestPieceNow_31 rfl ?_
      refine j_ldc dX8_bestPieceNow_32 hB kc_X8_62 ?_
      refine m_icmp_eq (tgt := 46) dX8_bestPieceNow_34 (by decide) (hb) (iC (-2000001) (by decide)) (fun c_34 => ?_) (fun c_34 => ?_)
      · refine j_iload dX8_bestPieceNow_46 rfl ?_
        refine j_istore_n (L' := [(0, _), (1, _), (2, _), (3, _), (4, _), (5, _)]) dX8_bestPieceNow_48 (by decide) rfl ?_
        refine j_aload_n dX8_bestPieceNow_49 rfl ?_
        refine j_geti dX8_bestPieceNow_50 hB fl_X8_85 (by first | exact h0.1 | exact h0.2.1 | exact h0.2.2.1 | exact h0.2.2.2.1 | exact h0.2.2.2.2.1 | exact h0.2.2.2.2.2.1 | exact h0.2.2.2.2.2.2.1 | exact h0.2.2.2.2.2.2.2.1 | exact h0.2.2.2.2.2.2.2.2) (by rfl) ?_
        refine j_istore (L' := [(0, _), (1, _), (2, _), (3, _), (4, _), (5, _)]) dX8_bestPieceNow_53 (by decide) rfl ?_
        refine j_iinc (v := 1) (L' := [(0, _), (1, _), (2, _), (3, _), (4, _), (5, _)]) dX8_bestPieceNow_55 rfl (by decide) (by decide) rfl ?_
        refine j_goto (tgt := 9) dX8_bestPieceNow_58 (by decide) ?_
        refine ih (n - 1) (by omega) (j + 1) _ _ _ _ (by omega) ?_ ?_ ?_ a2
        · exact (ixk (k := j + 1) (iA (hi) (iC 1 (by decide)) (by omega)) (by omega))
        · exact hi.trans (congrArg Prod.fst (show bpN x.1 (aRoom x.1 (xR x r) 0 k) (j + 1) = ((j : Int), (bestT x.1 j (aRoom x.1 (xR x r) 0 k)).2.2) from if_pos (show (bpN x.1 (aRoom x.1 (xR x r) 0 k) j).1 = -2000001 ∨ (bestT x.1 j (aRoom x.1 (xR x r) 0 k)).2.2 < (bpN x.1 (aRoom x.1 (xR x r) 0 k) j).2 by omega))).symm
        · exact Eq.trans hbs (congrArg Prod.snd (show bpN x.1 (aRoom x.1 (xR x r) 0 k) (j + 1) = ((j : Int), (bestT x.1 j (aRoom x.1 (xR x r) 0 k)).2.2) from if_pos (show (bpN x.1 (aRoom x.1 (xR x r) 0 k) j).1 = -2000001 ∨ (bestT x.1 j (aRoom x.1 (xR x r) 0 k)).2.2 < (bpN x.1 (aRoom x.1 (xR x r) 0 k) j).2 by omega))).symm
      · refine j_aload_n dX8_bestPieceNow_37 rfl ?_
        refine j_geti dX8_bestPieceNow_38 hB fl_X8_85 (by first | exact h0.1 | exact h0.2.1 | exact h0.2.2.1 | exact h0.2.2.2.1 | exact h0.2.2.2.2.1 | exact h0.2.2.2.2.2.1 | exact h0.2.2.2.2.2.2.1 | exact h0.2.2.2.2.2.2.2.1 | exact h0.2.2.2.2.2.2.2.2) (by rfl) ?_
        refine j_iload dX8_bestPieceNow_41 rfl ?_
        refine m_icmp_ge (tgt := 55) dX8_bestPieceNow_43 (by decide) (hbs) (hle) (fun c_43 => ?_) (fun c_43 => ?_)
        · refine j_iinc (v := 1) (L' := [(0, _), (1, _), (2, _), (3, _), (4, _), (5, _)]) dX8_bestPieceNow_55 rfl (by decide) (by decide) rfl ?_
          refine j_goto (tgt := 9) dX8_bestPieceNow_58 (by decide) ?_
          refine ih (n - 1) (by omega) (j + 1) _ _ _ _ (by omega) ?_ ?_ ?_ a2
          · exact (ixk (k := j + 1) (iA (hi) (iC 1 (by decide)) (by omega)) (by omega))
          · exact hb.trans (congrArg Prod.fst (show bpN x.1 (aRoom x.1 (xR x r) 0 k) (j + 1) = (bpN x.1 (aRoom x.1 (xR x r) 0 k) j) from if_neg (show ¬ ((bpN x.1 (aRoom x.1 (xR x r) 0 k) j).1 = -2000001 ∨ (bestT x.1 j (aRoom x.1 (xR x r) 0 k)).2.2 < (bpN x.1 (aRoom x.1 (xR x r) 0 k) j).2) by omega))).symm
          · exact hle.trans (congrArg Prod.snd (show bpN x.1 (aRoom x.1 (xR x r) 0 k) (j + 1) = (bpN x.1 (aRoom x.1 (xR x r) 0 k) j) from if_neg (show ¬ ((bpN x.1 (aRoom x.1 (xR x r) 0 k) j).1 = -2000001 ∨ (bestT x.1 j (aRoom x.1 (xR x r) 0 k)).2.2 < (bpN x.1 (aRoom x.1 (xR x r) 0 k) j).2) by omega))).symm
        · refine j_iload dX8_bestPieceNow_46 rfl ?_
          refine j_istore_n (L' := [(0, _), (1, _), (2, _), (3, _), (4, _), (5, _)]) dX8_bestPieceNow_48 (by decide) rfl ?_
          refine j_aload_n dX8_bestPieceNow_49 rfl ?_
          refine j_geti dX8_bestPieceNow_50 hB fl_X8_85 (by first | exact h0.1 | exact h0.2.1 | exact h0.2.2.1 | exact h0.2.2.2.1 | exact h0.2.2.2.2.1 | exact h0.2.2.2.2.2.1 | exact h0.2.2.2.2.2.2.1 | exact h0.2.2.2.2.2.2.2.1 | exact h0.2.2.2.2.2.2.2.2) (by rfl) ?_
          refine j_istore (L' := [(0, _), (1, _), (2, _), (3, _), (4, _), (5, _)]) dX8_bestPieceNow_53 (by decide) rfl ?_
          refine j_iinc (v := 1) (L' := [(0, _), (1, _), (2, _), (3, _), (4, _), (5, _)]) dX8_bestPieceNow_55 rfl (by decide) (by decide) rfl ?_
          refine j_goto (tgt := 9) dX8_bestPieceNow_58 (by decide) ?_
          refine ih (n - 1) (by omega) (j + 1) _ _ _ _ (by omega) ?_ ?_ ?_ a2
          · exact (ixk (k := j + 1) (iA (hi) (iC 1 (by decide)) (by omega)) (by omega))
          · exact hi.trans (congrArg Prod.fst (show bpN x.1 (aRoom x.1 (xR x r) 0 k) (j + 1) = ((j : Int), (bestT x.1 j (aRoom x.1 (xR x r) 0 k)).2.2) from if_pos (show (bpN x.1 (aRoom x.1 (xR x r) 0 k) j).1 = -2000001 ∨ (bestT x.1 j (aRoom x.1 (xR x r) 0 k)).2.2 < (bpN x.1 (aRoom x.1 (xR x r) 0 k) j).2 by omega))).symm
          · exact Eq.trans hbs (congrArg Prod.snd (show bpN x.1 (aRoom x.1 (xR x r) 0 k) (j + 1) = ((j : Int), (bestT x.1 j (aRoom x.1 (xR x r) 0 k)).2.2) from if_pos (show (bpN x.1 (aRoom x.1 (xR x r) 0 k) j).1 = -2000001 ∨ (bestT x.1 j (aRoom x.1 (xR x r) 0 k)).2.2 < (bpN x.1 (aRoom x.1 (xR x r) 0 k) j).2 by omega))).symm
  refine j_ldc dX8_bestPieceNow_0 hB kc_X8_62 ?_
  refine j_istore_n (L' := [(0, _), (1, _), (2, _), (3, _)]) dX8_bestPieceNow_2 (by decide) rfl ?_
  refine j_iconst (v := 0) dX8_bestPieceNow_3 (by decide) ?_
  refine j_istore (L' := [(0, _), (1, _), (2, _), (3, _), (4, _)]) dX8_bestPieceNow_4 (by decide) rfl ?_
  refine j_iconst (v := 0) dX8_bestPieceNow_6 (by decide) ?_
  refine j_istore (L' := [(0, _), (1, _), (2, _), (3, _), (4, _), (5, _)]) dX8_bestPieceNow_7 (by decide) rfl ?_
  exact loop x.1.2.1.1.length 0 0 _ 0 V (by omega) rfl (show (-2000001 : Int32).toInt = -2000001 by decide) rfl mF.rf
set_option maxRecDepth 100000 in
set_option maxHeartbeats 4000000 in
theorem sp_X8_bestSpeedNow (hB : jB l s0 D) {q : Nat} (h0 : moT T q) {r : Int32} {z : Nat} (hz : r.toInt = z) (z3 : z < 3) {x : aX} (h : moIs T V q x) (hW : stW x.1)  : Sp l s0 D kX8_bestSpeedNow (jR 4 0 0) 0 0 [.ref q, .int r] T V X sz (qI T X sz (fun y V' => y.toInt = bsV x.1 (xR x r) ∧ jAg V V' (q + 4) (q + 8))) := by
  refine Sp.of pn_X8_bestSpeedNow rfl (Nat.le_of_ble_eq_true rfl) ?_
  have hr := h.r hz z3
  have hrl : rlW x.1 (xR x r) := hW.r _
  have h10 := hrl.2.2.2.1
  have hp := hW.1
  have loop : ∀ (n j : Nat) (i b le : Int32) (V1 : jV), j + n = 21 → i.toInt = 10 + (j : Int) → (j = 0 ∧ b.toInt = -2000001 ∨ 0 < j ∧ 10 ≤ (bsN x.1 (xR x r) j).1 ∧ b.toInt = (bsN x.1 (xR x r) j).1 ∧ le.toInt = (bsN x.1 (xR x r) j).2) → jAg V V1 (q + 4) (q + 8) → J l s0 D kX8_bestSpeedNow (jR 4 0 0) 0 0 (qI T X sz (fun y V' => y.toInt = bsV x.1 (xR x r) ∧ jAg V V' (q + 4) (q + 8))) 9 [(0, .ref q), (1, .int r), (2, .int b), (3, .int le), (4, .int i)] [] T V1 X sz 0 0 := by
    intro n
    refine Nat.strongRecOn n ?_
    clear n
    intro n ih j i b le V1 hn hi hbl ha
    have h1 : moIs T V1 q x := h.kp (mKp.ag ha (by omega) (by omega))
    refine j_iload dX8_bestSpeedNow_9 rfl ?_
    refine j_bipush (v := 30) dX8_bestSpeedNow_11 (by decide) ?_
    refine m_icmp_gt (tgt := 54) dX8_bestSpeedNow_13 (by decide) (hi) (iC 30 (by decide)) (fun c_13 => ?_) (fun c_13 => ?_)
    · refine j_iload_n dX8_bestSpeedNow_54 rfl ?_
      refine j_iret dX8_bestSpeedNow_55 rfl (rfl) (by decide) (by decide) ?_
      rcases hbl with ⟨z1, z2⟩ | ⟨z1, z2, z4, z5⟩
      · omega
      · exact ⟨_, rfl, rfl, rfl, rfl, by rw [z4, show j = 21 by omega]; rfl, ha⟩
    · refine j_aload_n dX8_bestSpeedNow_16 rfl ?_
      refine j_iload_n dX8_bestSpeedNow_17 rfl ?_
      refine j_iload dX8_bestSpeedNow_18 rfl ?_
      refine j_cVu dX8_bestSpeedNow_20 hB mo_X8_lay ml_X8_113 (sp_X8_lay hB h0 hz z3 h1 hW (Or.inr (by omega))) (by first | exact h0.1 | exact h0.2.1 | exact h0.2.2.1 | exact h0.2.2.2.1 | exact h0.2.2.2.2.1 | exact h0.2.2.2.2.2.1 | exact h0.2.2.2.2.2.2.1 | exact h0.2.2.2.2.2.2.2.1 | exact h0.2.2.2.2.2.2.2.2) rfl rfl rfl rfl ⟨rfl, rfl, by decide, by decide⟩ (Nat.le_of_ble_eq_true rfl) ⟨by decide, by decide⟩ (fun V_20 h_20 => ?_)
      obtain ⟨gL, aL⟩ := h_20
      have h2 : moIs T V_20 q x := h1.kp (mKp.ag aL (by omega) (by omega))
      refine j_aload_n dX8_bestSpeedNow_23 rfl ?_
      refine j_iload_n dX8_bestSpeedNow_24 rfl ?_
      refine j_cVi dX8_bestSpeedNow_25 hB mo_X8_drifts ml_X8_176 (sp_X8_drifts hB h0 hz z3 h2 hW (Or.inr (by omega)) gL (Nat.le_refl _)) (by first | exact h0.1 | exact h0.2.1 | exact h0.2.2.1 | exact h0.2.2.2.1 | exact h0.2.2.2.2.1 | exact h0.2.2.2.2.2.1 | exact h0.2.2.2.2.2.2.1 | exact h0.2.2.2.2.2.2.2.1 | exact h0.2.2.2.2.2.2.2.2) rfl rfl rfl rfl ⟨rfl, rfl, by decide, by decide⟩ (Nat.le_of_ble_eq_true rfl) ⟨by decide, by decide⟩ (fun r_25 V_25 h_25 => ?_)
      obtain ⟨rfl, h_25⟩ := h_25
      rw [hi] at h_25
      refine j_istore (L' := [(0, _), (1, _), (2, _), (3, _), (4, _), (5, _)]) dX8_bestSpeedNow_28 (by decide) rfl ?_
      refine j_iload_n dX8_bestSpeedNow_30 rfl ?_
      refine j_ldc dX8_bestSpeedNow_31 hB kc_X8_62 ?_
      refine m_icmp_eq (tgt := 42) dX8_bestSpeedNow_33 (by decide) (iV) (iC (-2000001) (by decide)) (fun c_33 => ?_) (fun c_33 => ?_)
      · refine j_iload dX8_bestSpeedNow_42 rfl ?_
        refine j_istore_n (L' := [(0, _), (1, _), (2, _), (3, _), (4, _), (5, _)]) dX8_bestSpeedNow_44 (by decide) rfl ?_
        refine j_iload dX8_bestSpeedNow_45 rfl ?_
        refine j_istore_n (L' := [(0, _), (1, _), (2, _), (3, _), (4, _), (5, _)]) dX8_bestSpeedNow_47 (by decide) rfl ?_
        refine j_iinc (v := 1) (L' := [(0, _), (1, _), (2, _), (3, _), (4, _), (5, _)]) dX8_bestSpeedNow_48 rfl (by decide) (by decide) rfl ?_
        refine j_goto (tgt := 9) dX8_bestSpeedNow_51 (by decide) ?_
        refine j_sub2 (L' := [(0, _), (1, _), (2, _), (3, _), (4, _)]) (List.forall_mem_cons.mpr ⟨rfl, List.forall_mem_cons.mpr ⟨rfl, List.forall_mem_cons.mpr ⟨rfl, List.forall_mem_cons.mpr ⟨rfl, List.forall_mem_cons.mpr ⟨rfl, fun _ h9 => nomatch h9⟩⟩⟩⟩⟩) ?_
        refine ih (n - 1) (by omega) (j + 1) _ _ _ _ (by omega) ?_ ?_ (ha.tr aL)
        · exact ixz (iA (hi) (iC 1 (by decide)) (by omega)) (by omega)
        · refine Or.inr ⟨by omega, ?_⟩
          have e9 : (bsN x.1 (xR x r) (j + 1)) = (10 + (j : Int), aSum (aDs1 x.1 (xR x r) (10 + (j : Int))) (xR x r).1.length) := if_pos (show j = 0 ∨ aSum (aDs1 x.1 (xR x r) (10 + (j : Int))) (xR x r).1.length < (bsN x.1 (xR x r) j).2 by omega)
          rw [e9]
          exact ⟨by show 10 ≤ 10 + (j : Int); omega, hi, h_25⟩
      · refine j_iload dX8_bestSpeedNow_36 rfl ?_
        refine j_iload_n dX8_bestSpeedNow_38 rfl ?_
        refine m_icmp_ge (tgt := 48) dX8_bestSpeedNow_39 (by decide) (h_25) (iV) (fun c_39 => ?_) (fun c_39 => ?_)
        · refine j_iinc (v := 1) (L' := [(0, _), (1, _), (2, _), (3, _), (4, _), (5, _)]) dX8_bestSpeedNow_48 rfl (by decide) (by decide) rfl ?_
          refine j_goto (tgt := 9) dX8_bestSpeedNow_51 (by decide) ?_
          refine j_sub2 (L' := [(0, _), (1, _), (2, _), (3, _), (4, _)]) (List.forall_mem_cons.mpr ⟨rfl, List.forall_mem_cons.mpr ⟨rfl, List.forall_mem_cons.mpr ⟨rfl, List.forall_mem_cons.mpr ⟨rfl, List.forall_mem_cons.mpr ⟨rfl, fun _ h9 => nomatch h9⟩⟩⟩⟩⟩) ?_
          refine ih (n - 1) (by omega) (j + 1) _ _ _ _ (by omega) ?_ ?_ (ha.tr aL)
          · exact ixz (iA (hi) (iC 1 (by decide)) (by omega)) (by omega)
          · refine Or.inr ⟨by omega, ?_⟩
            have e9 : (bsN x.1 (xR x r) (j + 1)) = (bsN x.1 (xR x r) j) := if_neg (show ¬ (j = 0 ∨ aSum (aDs1 x.1 (xR x r) (10 + (j : Int))) (xR x r).1.length < (bsN x.1 (xR x r) j).2) by omega)
            rw [e9]
            rcases hbl with ⟨z1, z2⟩ | ⟨z1, z2, z4, z5⟩
            · omega
            · exact ⟨z2, z4, z5⟩
        · refine j_iload dX8_bestSpeedNow_42 rfl ?_
          refine j_istore_n (L' := [(0, _), (1, _), (2, _), (3, _), (4, _), (5, _)]) dX8_bestSpeedNow_44 (by decide) rfl ?_
          refine j_iload dX8_bestSpeedNow_45 rfl ?_
          refine j_istore_n (L' := [(0, _), (1, _), (2, _), (3, _), (4, _), (5, _)]) dX8_bestSpeedNow_47 (by decide) rfl ?_
          refine j_iinc (v := 1) (L' := [(0, _), (1, _), (2, _), (3, _), (4, _), (5, _)]) dX8_bestSpeedNow_48 rfl (by decide) (by decide) rfl ?_
          refine j_goto (tgt := 9) dX8_bestSpeedNow_51 (by decide) ?_
          refine j_sub2 (L' := [(0, _), (1, _), (2, _), (3, _), (4, _)]) (List.forall_mem_cons.mpr ⟨rfl, List.forall_mem_cons.mpr ⟨rfl, List.forall_mem_cons.mpr ⟨rfl, List.forall_mem_cons.mpr ⟨rfl, List.forall_mem_cons.mpr ⟨rfl, fun _ h9 => nomatch h9⟩⟩⟩⟩⟩) ?_
          refine ih (n - 1) (by omega) (j + 1) _ _ _ _ (by omega) ?_ ?_ (ha.tr aL)
          · exact ixz (iA (hi) (iC 1 (by decide)) (by omega)) (by omega)
          · refine Or.inr ⟨by omega, ?_⟩
            have e9 : (bsN x.1 (xR x r) (j + 1)) = (10 + (j : Int), aSum (aDs1 x.1 (xR x r) (10 + (j : Int))) (xR x r).1.length) := if_pos (show j = 0 ∨ aSum (aDs1 x.1 (xR x r) (10 + (j : Int))) (xR x r).1.length < (bsN x.1 (xR x r) j).2 by omega)
            rw [e9]
            exact ⟨by show 10 ≤ 10 + (j : Int); omega, hi, h_25⟩
  refine j_ldc dX8_bestSpeedNow_0 hB kc_X8_62 ?_
  refine j_istore_n (L' := [(0, _), (1, _), (2, _)]) dX8_bestSpeedNow_2 (by decide) rfl ?_
  refine j_iconst (v := 0) dX8_bestSpeedNow_3 (by decide) ?_
  refine j_istore_n (L' := [(0, _), (1, _), (2, _), (3, _)]) dX8_bestSpeedNow_4 (by decide) rfl ?_
  refine j_bipush (v := 10) dX8_bestSpeedNow_5 (by decide) ?_
  refine j_istore (L' := [(0, _), (1, _), (2, _), (3, _), (4, _)]) dX8_bestSpeedNow_7 (by decide) rfl ?_
  exact loop 21 0 10 _ 0 V rfl rfl (Or.inl ⟨rfl, by decide⟩) jAg.rf
set_option maxRecDepth 100000 in
set_option maxHeartbeats 4000000 in
theorem sp_X8_offNow (hB : jB l s0 D) {q : Nat} (h0 : moT T q) {r : Int32} {z : Nat} (hz : r.toInt = z) (z3 : z < 3) {x : aX} (h : moIs T V q x) (hW : stW x.1) {m : Nat} (hl : lyP V q x.1 (xR x r) 0 m) (hm : (xR x r).1.length ≤ m) : Sp l s0 D kX8_offNow (jR 5 0 0) 0 0 [.ref q, .int r] T V X sz (qF T X sz (fun y V' => V = V' ∧ y = ofV x.1 (xR x r))) := by
  refine Sp.of pn_X8_offNow rfl (Nat.le_of_ble_eq_true rfl) ?_
  have hr := h.r hz z3
  have hrl : rlW x.1 (xR x r) := hW.r _
  have h10 := hrl.2.2.2.1
  have hp := hW.1
  have hn := (ofV_V hp hrl).n
  refine j_aload_n dX8_offNow_0 rfl ?_
  refine j_iload_n dX8_offNow_1 rfl ?_
  refine j_iconst (v := 3) dX8_offNow_2 (by decide) ?_
  refine j_cVi dX8_offNow_3 hB mo_X8_reelNow ml_X8_185 (sp_X8_reelNow hB h0 hz z3 h hW hl hm (by decide) (by decide)) (by first | exact h0.1 | exact h0.2.1 | exact h0.2.2.1 | exact h0.2.2.2.1 | exact h0.2.2.2.2.1 | exact h0.2.2.2.2.2.1 | exact h0.2.2.2.2.2.2.1 | exact h0.2.2.2.2.2.2.2.1 | exact h0.2.2.2.2.2.2.2.2) rfl rfl rfl rfl ⟨rfl, rfl, by decide, by decide⟩ (Nat.le_of_ble_eq_true rfl) ⟨by decide, by decide⟩ (fun r_3 V_3 h_3 => ?_)
  obtain ⟨rfl, h_3⟩ := h_3
  replace h_3 : r_3.toInt = aBeg (xR x r) 0 (xR x r).1.length := h_3
  refine j_istore_n (L' := [(0, _), (1, _), (2, _)]) dX8_offNow_6 (by decide) rfl ?_
  refine j_iload_n dX8_offNow_7 rfl ?_
  refine m_if_ne (tgt := 15) dX8_offNow_8 (by decide) (h_3) (fun c_8 => ?_) (fun c_8 => ?_)
  · refine j_aload_n dX8_offNow_15 rfl ?_
    refine j_iload_n dX8_offNow_16 rfl ?_
    refine j_cVi dX8_offNow_17 hB mo_X8_drifts ml_X8_176 (sp_X8_drifts hB h0 hz z3 h hW (Or.inl rfl) hl hm) (by first | exact h0.1 | exact h0.2.1 | exact h0.2.2.1 | exact h0.2.2.2.1 | exact h0.2.2.2.2.1 | exact h0.2.2.2.2.2.1 | exact h0.2.2.2.2.2.2.1 | exact h0.2.2.2.2.2.2.2.1 | exact h0.2.2.2.2.2.2.2.2) rfl rfl rfl rfl ⟨rfl, rfl, by decide, by decide⟩ (Nat.le_of_ble_eq_true rfl) ⟨by decide, by decide⟩ (fun r_17 V_17 h_17 => ?_)
    obtain ⟨rfl, h_17⟩ := h_17
    have hof : ofV x.1 (xR x r) = FP.fdiv (FP.i2f r_17) (FP.i2f r_3) := by unfold ofV; rw [if_neg c_8, ← ofI_ti h_17, ← ofI_ti h_3]
    rw [hof] at hn
    refine j_i2f dX8_offNow_20 ?_
    refine j_iload_n dX8_offNow_21 rfl ?_
    refine j_i2f dX8_offNow_22 ?_
    refine j_fdiv dX8_offNow_23 (hn) ?_
    refine j_fret dX8_offNow_24 rfl (by decide) (by decide) ?_
    exact ⟨_, rfl, rfl, rfl, rfl, rfl, hof.symm⟩
  · refine j_fconst0 dX8_offNow_11 ?_
    refine j_goto (tgt := 24) dX8_offNow_12 (by decide) ?_
    refine j_fret dX8_offNow_24 rfl (by decide) (by decide) ?_
    exact ⟨_, rfl, rfl, rfl, rfl, rfl, by unfold ofV; rw [if_pos c_8]; rfl⟩
set_option maxRecDepth 100000 in
set_option maxHeartbeats 4000000 in
theorem sp_X8_meanNow (hB : jB l s0 D) {q : Nat} (h0 : moT T q) {r : Int32} {z : Nat} (hz : r.toInt = z) (z3 : z < 3) {x : aX} (h : moIs T V q x) (hW : stW x.1) {m : Nat} (hl : lyP V q x.1 (xR x r) 0 m) (hm : (xR x r).1.length ≤ m) : Sp l s0 D kX8_meanNow (jR 5 0 0) 0 0 [.ref q, .int r] T V X sz (qD T X sz (fun y V' => V = V' ∧ y = mnV (xR x r))) := by
  refine Sp.of pn_X8_meanNow rfl (Nat.le_of_ble_eq_true rfl) ?_
  have hr := h.r hz z3
  have hrl : rlW x.1 (xR x r) := hW.r _
  have h10 := hrl.2.2.2.1
  have hp := hW.1
  have hn := (mnV_V hrl).1.n
  have hn2 := (mnV_V hrl).2
  have l3 := lost_le hrl (xR x r).1.length (Nat.le_refl _)
  have l4 := aFirst_rng hrl (xR x r).1.length (Nat.le_refl _)
  have l5 := aBeg_rng hrl (w := 0) (Or.inl rfl) (xR x r).1.length (Nat.le_refl _)
  refine j_aload_n dX8_meanNow_0 rfl ?_
  refine j_iload_n dX8_meanNow_1 rfl ?_
  refine j_iconst (v := 3) dX8_meanNow_2 (by decide) ?_
  refine j_cVi dX8_meanNow_3 hB mo_X8_reelNow ml_X8_185 (sp_X8_reelNow hB h0 hz z3 h hW hl hm (by decide) (by decide)) (by first | exact h0.1 | exact h0.2.1 | exact h0.2.2.1 | exact h0.2.2.2.1 | exact h0.2.2.2.2.1 | exact h0.2.2.2.2.2.1 | exact h0.2.2.2.2.2.2.1 | exact h0.2.2.2.2.2.2.2.1 | exact h0.2.2.2.2.2.2.2.2) rfl rfl rfl rfl ⟨rfl, rfl, by decide, by decide⟩ (Nat.le_of_ble_eq_true rfl) ⟨by decide, by decide⟩ (fun r_3 V_3 h_3 => ?_)
  obtain ⟨rfl, h_3⟩ := h_3
  replace h_3 : r_3.toInt = aBeg (xR x r) 0 (xR x r).1.length := h_3
  refine j_istore_n (L' := [(0, _), (1, _), (2, _)]) dX8_meanNow_6 (by decide) rfl ?_
  refine j_bipush (v := 16) dX8_meanNow_7 (by decide) ?_
  refine j_aload_n dX8_meanNow_9 rfl ?_
  refine j_iload_n dX8_meanNow_10 rfl ?_
  refine j_iconst (v := 1) dX8_meanNow_11 (by decide) ?_
  refine j_cVi dX8_meanNow_12 hB mo_X8_reelNow ml_X8_185 (sp_X8_reelNow hB h0 hz z3 h hW hl hm (by decide) (by decide)) (by first | exact h0.1 | exact h0.2.1 | exact h0.2.2.1 | exact h0.2.2.2.1 | exact h0.2.2.2.2.1 | exact h0.2.2.2.2.2.1 | exact h0.2.2.2.2.2.2.1 | exact h0.2.2.2.2.2.2.2.1 | exact h0.2.2.2.2.2.2.2.2) rfl rfl rfl rfl ⟨rfl, rfl, by decide, by decide⟩ (Nat.le_of_ble_eq_true rfl) ⟨by decide, by decide⟩ (fun r_12 V_12 h_12 => ?_)
  obtain ⟨rfl, h_12⟩ := h_12
  replace h_12 : r_12.toInt = aFirst (xR x r) (xR x r).1.length := h_12
  refine j_aload_n dX8_meanNow_15 rfl ?_
  refine j_iload_n dX8_meanNow_16 rfl ?_
  refine j_cVi dX8_meanNow_17 hB mo_X8_lostFeet ml_X8_167 (sp_X8_lostFeet hB h0 hz z3 h hW (Or.inl rfl) hl hm) (by first | exact h0.1 | exact h0.2.1 | exact h0.2.2.1 | exact h0.2.2.2.1 | exact h0.2.2.2.2.1 | exact h0.2.2.2.2.2.1 | exact h0.2.2.2.2.2.2.1 | exact h0.2.2.2.2.2.2.2.1 | exact h0.2.2.2.2.2.2.2.2) rfl rfl rfl rfl ⟨rfl, rfl, by decide, by decide⟩ (Nat.le_of_ble_eq_true rfl) ⟨by decide, by decide⟩ (fun r_17 V_17 h_17 => ?_)
  obtain ⟨rfl, h_17⟩ := h_17
  refine j_isub dX8_meanNow_20 ?_
  refine j_imul dX8_meanNow_21 ?_
  refine j_istore_n (L' := [(0, _), (1, _), (2, _), (3, _)]) dX8_meanNow_22 (by decide) rfl ?_
  refine j_iload_n dX8_meanNow_23 rfl ?_
  refine m_if_ne (tgt := 31) dX8_meanNow_24 (by decide) (h_3) (fun c_24 => ?_) (fun c_24 => ?_)
  · have h22 : (16 * (r_12 - r_17)).toInt = (aFirst (xR x r) (xR x r).1.length - aSum (aLost (xR x r)) (xR x r).1.length) * 16 := ixz (iM (iC 16 (by decide)) (iS (h_12) (h_17) (by omega)) (by omega)) (by omega)
    have m1 := dmul_1 (x := 16 * (r_12 - r_17)) (by rw [h22]; omega)
    have m2 := dmul_1 (x := r_3) (by rw [h_3]; omega)
    have hn2 := hn2 c_24
    rw [← ofI_ti h_3] at hn2
    have hof : mnV (xR x r) = FP.ddiv (FP.i2d (16 * (r_12 - r_17))) (FP.ddiv (FP.i2d r_3) 4621819117588971520) := by unfold mnV; rw [if_neg c_24, ← ofI_ti h_3, ← ofI_ti h22]
    rw [hof] at hn
    refine j_dconst1 dX8_meanNow_31 ?_
    refine j_iload_n dX8_meanNow_32 rfl ?_
    refine j_i2d dX8_meanNow_33 ?_
    refine j_dmul dX8_meanNow_34 (by rw [m1.1]; exact m1.2) ?_
    rw [m1.1]
    refine j_dconst1 dX8_meanNow_35 ?_
    refine j_iload_n dX8_meanNow_36 rfl ?_
    refine j_i2d dX8_meanNow_37 ?_
    refine j_dmul dX8_meanNow_38 (by rw [m2.1]; exact m2.2) ?_
    rw [m2.1]
    refine j_ldc2d dX8_meanNow_39 hB kc_X8_210 ?_
    refine j_ddiv dX8_meanNow_42 (hn2) ?_
    refine j_ddiv dX8_meanNow_43 (hn) ?_
    refine j_dret dX8_meanNow_44 rfl (by decide) (by decide) ?_
    exact ⟨_, rfl, rfl, rfl, rfl, rfl, hof.symm⟩
  · refine j_dconst0 dX8_meanNow_27 ?_
    refine j_goto (tgt := 44) dX8_meanNow_28 (by decide) ?_
    refine j_dret dX8_meanNow_44 rfl (by decide) (by decide) ?_
    exact ⟨_, rfl, rfl, rfl, rfl, rfl, by unfold mnV; rw [if_pos c_24]; rfl⟩
end JM6
