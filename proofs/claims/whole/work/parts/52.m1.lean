/-! CueSheetsModel: what is read -/
section JM1
variable {l : Launch} {s0 : State} {D : jD} {T : jT} {V : jV} {X : jX} {sz : Nat}
set_option maxRecDepth 100000 in
set_option maxHeartbeats 4000000 in
theorem sp_X8_thrown (hB : jB l s0 D) {q : Nat} (h0 : moT T q)  : Sp l s0 D kX8_thrown (jR 0 0 0) 0 0 [.ref q] T V X sz (qI T X sz (fun r V' => V = V' ∧ r = V q 0)) := by
  refine Sp.of pn_X8_thrown rfl (Nat.le_of_ble_eq_true rfl) ?_
  refine j_aload_n dX8_thrown_0 rfl ?_
  refine j_geti dX8_thrown_1 hB fl_X8_34 (by first | exact h0.1 | exact h0.2.1 | exact h0.2.2.1 | exact h0.2.2.2.1 | exact h0.2.2.2.2.1 | exact h0.2.2.2.2.2.1 | exact h0.2.2.2.2.2.2.1 | exact h0.2.2.2.2.2.2.2.1 | exact h0.2.2.2.2.2.2.2.2) (by rfl) ?_
  refine j_iret dX8_thrown_4 rfl (rfl) (by decide) (by decide) ?_
  exact ⟨_, rfl, rfl, rfl, rfl, rfl, rfl⟩
set_option maxRecDepth 100000 in
set_option maxHeartbeats 4000000 in
theorem sp_X8_within (hB : jB l s0 D) {a b c : Int32} {x y z : Int} (ha : isI a x) (hb : isI b y) (hc : isI c z) : Sp l s0 D kX8_within (jR 0 0 0) 0 0 [.int a, .int b, .int c] T V X sz (qI T X sz (fun r V' => V = V' ∧ bQ r (y ≤ x ∧ x ≤ z))) := by
  refine Sp.of pn_X8_within rfl (Nat.le_of_ble_eq_true rfl) ?_
  refine j_iload_n dX8_within_0 rfl ?_
  refine j_iload_n dX8_within_1 rfl ?_
  refine m_icmp_lt (tgt := 14) dX8_within_2 (by decide) (ha) (hb) (fun c_2 => ?_) (fun c_2 => ?_)
  · refine j_iconst (v := 0) dX8_within_14 (by decide) ?_
    refine j_iret dX8_within_15 rfl (by first | decide | exact m_nrB (by assumption)) (by decide) (by decide) ?_
    exact ⟨_, rfl, rfl, rfl, rfl, rfl, by first | exact Or.inl ⟨rfl, by omega⟩ | exact Or.inr ⟨rfl, by omega⟩⟩
  · refine j_iload_n dX8_within_5 rfl ?_
    refine j_iload_n dX8_within_6 rfl ?_
    refine m_icmp_gt (tgt := 14) dX8_within_7 (by decide) (ha) (hc) (fun c_7 => ?_) (fun c_7 => ?_)
    · refine j_iconst (v := 0) dX8_within_14 (by decide) ?_
      refine j_iret dX8_within_15 rfl (by first | decide | exact m_nrB (by assumption)) (by decide) (by decide) ?_
      exact ⟨_, rfl, rfl, rfl, rfl, rfl, by first | exact Or.inl ⟨rfl, by omega⟩ | exact Or.inr ⟨rfl, by omega⟩⟩
    · refine j_iconst (v := 1) dX8_within_10 (by decide) ?_
      refine j_goto (tgt := 15) dX8_within_11 (by decide) ?_
      refine j_iret dX8_within_15 rfl (by first | decide | exact m_nrB (by assumption)) (by decide) (by decide) ?_
      exact ⟨_, rfl, rfl, rfl, rfl, rfl, by first | exact Or.inl ⟨rfl, by omega⟩ | exact Or.inr ⟨rfl, by omega⟩⟩
set_option maxRecDepth 100000 in
set_option maxHeartbeats 4000000 in
theorem sp_X8_size (hB : jB l s0 D) {a : Int32} {x : Int} (ha : isI a x) (h1 : -2147483648 < x) (h2 : x < 2147483648) : Sp l s0 D kX8_size (jR 0 0 0) 0 0 [.int a] T V X sz (qI T X sz (fun r V' => V = V' ∧ r.toInt = (x.natAbs : Int))) := by
  refine Sp.of pn_X8_size rfl (Nat.le_of_ble_eq_true rfl) ?_
  refine j_iload_n dX8_size_0 rfl ?_
  refine m_if_ge (tgt := 9) dX8_size_1 (by decide) (ha) (fun c_1 => ?_) (fun c_1 => ?_)
  · refine j_iload_n dX8_size_9 rfl ?_
    refine j_iret dX8_size_10 rfl (rfl) (by decide) (by decide) ?_
    exact ⟨_, rfl, rfl, rfl, rfl, rfl, ixz (ha) (by omega)⟩
  · refine j_iload_n dX8_size_4 rfl ?_
    refine j_ineg dX8_size_5 ?_
    refine j_goto (tgt := 10) dX8_size_6 (by decide) ?_
    refine j_iret dX8_size_10 rfl (rfl) (by decide) (by decide) ?_
    exact ⟨_, rfl, rfl, rfl, rfl, rfl, ixz (iN (ha) (by omega)) (by omega)⟩
set_option maxRecDepth 100000 in
set_option maxHeartbeats 4000000 in
theorem sp_X8_isReel (hB : jB l s0 D) {a : Int32} : Sp l s0 D kX8_isReel (jR 1 0 0) 0 0 [.int a] T V X sz (qI T X sz (fun r V' => V = V' ∧ bQ r (rOk a))) := by
  refine Sp.of pn_X8_isReel rfl (Nat.le_of_ble_eq_true rfl) ?_
  refine j_iload_n dX8_isReel_0 rfl ?_
  refine j_iconst (v := 0) dX8_isReel_1 (by decide) ?_
  refine j_iconst (v := 2) dX8_isReel_2 (by decide) ?_
  refine j_cSi dX8_isReel_3 hB mo_X8_within ml_X8_38 (sp_X8_within hB  (iV) (iC 0 (by decide)) (iC 2 (by decide))) rfl rfl ⟨rfl, rfl, by decide, by decide⟩ (Nat.le_of_ble_eq_true rfl) ⟨by decide, by decide⟩ (fun r_3 V_3 h_3 => ?_)
  obtain ⟨rfl, b_3⟩ := h_3
  replace b_3 : bQ _ (rOk a) := b_3.cg (by omega)
  refine j_iret dX8_isReel_6 rfl (by first | decide | exact m_nrB (by assumption)) (by decide) (by decide) ?_
  exact ⟨_, rfl, rfl, rfl, rfl, rfl, b_3⟩
set_option maxRecDepth 100000 in
set_option maxHeartbeats 4000000 in
theorem sp_X8_scenes (hB : jB l s0 D) {q : Nat} (h0 : moT T q) {r : Int32} {z : Nat} (hz : r.toInt = z) (z3 : z < 3)  : Sp l s0 D kX8_scenes (jR 0 0 0) 0 0 [.ref q, .int r] T V X sz (qI T X sz (fun x V' => V = V' ∧ x = V (q + 1) (67 * z))) := by
  refine Sp.of pn_X8_scenes rfl (Nat.le_of_ble_eq_true rfl) ?_
  refine j_aload_n dX8_scenes_0 rfl ?_
  refine j_getr dX8_scenes_1 hB fl_X8_7 (by first | exact h0.1 | exact h0.2.1 | exact h0.2.2.1 | exact h0.2.2.2.1 | exact h0.2.2.2.2.1 | exact h0.2.2.2.2.2.1 | exact h0.2.2.2.2.2.2.1 | exact h0.2.2.2.2.2.2.2.1 | exact h0.2.2.2.2.2.2.2.2) (by rfl) ?_
  refine j_bipush (v := 67) dX8_scenes_4 (by decide) ?_
  refine j_iload_n dX8_scenes_6 rfl ?_
  refine j_imul dX8_scenes_7 ?_
  refine j_iconst (v := 0) dX8_scenes_8 (by decide) ?_
  refine j_iadd dX8_scenes_9 ?_
  refine m_iald (k := 67 * z) dX8_scenes_10 hB (by first | exact h0.1 | exact h0.2.1 | exact h0.2.2.1 | exact h0.2.2.2.1 | exact h0.2.2.2.2.1 | exact h0.2.2.2.2.2.1 | exact h0.2.2.2.2.2.2.1 | exact h0.2.2.2.2.2.2.2.1 | exact h0.2.2.2.2.2.2.2.2) (ixk (iA (iM (iC 67 (by decide)) (hz) (by omega)) (iC 0 (by decide)) (by omega)) (by omega)) (by omega) ?_
  refine j_iret dX8_scenes_11 rfl (rfl) (by decide) (by decide) ?_
  exact ⟨_, rfl, rfl, rfl, rfl, rfl, rfl⟩
set_option maxRecDepth 100000 in
set_option maxHeartbeats 4000000 in
theorem sp_X8_isScene (hB : jB l s0 D) {q : Nat} (h0 : moT T q) {x : aX} {r k : Int32} (h : moIs T V q x) (hW : stW x.1) : Sp l s0 D kX8_isScene (jR 2 0 0) 0 0 [.ref q, .int r, .int k] T V X sz (qI T X sz (fun y V' => V = V' ∧ bQ y (scOk x r k))) := by
  refine Sp.of pn_X8_isScene rfl (Nat.le_of_ble_eq_true rfl) ?_
  refine j_iload_n dX8_isScene_0 rfl ?_
  refine j_cSi dX8_isScene_1 hB mo_X8_isReel ml_X8_42 (sp_X8_isReel hB) rfl rfl ⟨rfl, rfl, by decide, by decide⟩ (Nat.le_of_ble_eq_true rfl) ⟨by decide, by decide⟩ (fun r_1 V_1 h_1 => ?_)
  obtain ⟨rfl, b_1⟩ := h_1
  refine m_ifeqB (tgt := 26) dX8_isScene_4 (by decide) b_1 (fun c_4 => ?_) (fun c_4 => ?_)
  · refine j_iconst (v := 0) dX8_isScene_26 (by decide) ?_
    refine j_iret dX8_isScene_27 rfl (by first | decide | exact m_nrB (by assumption)) (by decide) (by decide) ?_
    exact ⟨_, rfl, rfl, rfl, rfl, rfl, Or.inr ⟨rfl, fun z => c_4 z.1⟩⟩
  · obtain ⟨z, hz, z3⟩ := rOk.z c_4
    have h10 : (xR x r).1.length ≤ 10 := (hW.r r.toInt).2.2.2.1
    have hn := (h.r hz z3).1
    refine j_iload_n dX8_isScene_7 rfl ?_
    refine j_iconst (v := 0) dX8_isScene_8 (by decide) ?_
    refine j_aload_n dX8_isScene_9 rfl ?_
    refine j_iload_n dX8_isScene_10 rfl ?_
    refine j_cVi dX8_isScene_11 hB mo_X8_scenes ml_X8_46 (sp_X8_scenes hB h0 (ixk (k := z) (hz) (by omega)) z3) (by first | exact h0.1 | exact h0.2.1 | exact h0.2.2.1 | exact h0.2.2.2.1 | exact h0.2.2.2.2.1 | exact h0.2.2.2.2.2.1 | exact h0.2.2.2.2.2.2.1 | exact h0.2.2.2.2.2.2.2.1 | exact h0.2.2.2.2.2.2.2.2) rfl rfl rfl rfl ⟨rfl, rfl, by decide, by decide⟩ (Nat.le_of_ble_eq_true rfl) ⟨by decide, by decide⟩ (fun r_11 V_11 h_11 => ?_)
    obtain ⟨rfl, h_11⟩ := h_11
    subst h_11
    refine j_iconst (v := 1) dX8_isScene_14 (by decide) ?_
    refine j_isub dX8_isScene_15 ?_
    refine j_cSi dX8_isScene_16 hB mo_X8_within ml_X8_38 (sp_X8_within hB  (iV) (iC 0 (by decide)) (iS (hn) (iC 1 (by decide)) (by omega))) rfl rfl ⟨rfl, rfl, by decide, by decide⟩ (Nat.le_of_ble_eq_true rfl) ⟨by decide, by decide⟩ (fun r_16 V_16 h_16 => ?_)
    obtain ⟨rfl, b_16⟩ := h_16
    refine m_ifeqB (tgt := 26) dX8_isScene_19 (by decide) b_16 (fun c_19 => ?_) (fun c_19 => ?_)
    · refine j_iconst (v := 0) dX8_isScene_26 (by decide) ?_
      refine j_iret dX8_isScene_27 rfl (by first | decide | exact m_nrB (by assumption)) (by decide) (by decide) ?_
      exact ⟨_, rfl, rfl, rfl, rfl, rfl, Or.inr ⟨rfl, fun z9 => c_19 ⟨z9.2.1, by have := z9.2.2; omega⟩⟩⟩
    · refine j_iconst (v := 1) dX8_isScene_22 (by decide) ?_
      refine j_goto (tgt := 27) dX8_isScene_23 (by decide) ?_
      refine j_iret dX8_isScene_27 rfl (by first | decide | exact m_nrB (by assumption)) (by decide) (by decide) ?_
      exact ⟨_, rfl, rfl, rfl, rfl, rfl, Or.inl ⟨rfl, c_4, c_19.1, by have := c_19.2; omega⟩⟩
set_option maxRecDepth 100000 in
set_option maxHeartbeats 4000000 in
theorem sp_X8_isPiece (hB : jB l s0 D) {q : Nat} (h0 : moT T q) {x : aX} {a : Int32} (h : moIs T V q x) (hl : x.1.2.1.1.length ≤ 8) : Sp l s0 D kX8_isPiece (jR 1 0 0) 0 0 [.ref q, .int a] T V X sz (qI T X sz (fun r V' => V = V' ∧ bQ r (pcOk x.1 a))) := by
  refine Sp.of pn_X8_isPiece rfl (Nat.le_of_ble_eq_true rfl) ?_
  have hl8 : x.1.2.1.1.length ≤ 8 := hl
  refine j_iload_n dX8_isPiece_0 rfl ?_
  refine j_iconst (v := 0) dX8_isPiece_1 (by decide) ?_
  refine j_aload_n dX8_isPiece_2 rfl ?_
  refine j_getr dX8_isPiece_3 hB fl_X8_7 (by first | exact h0.1 | exact h0.2.1 | exact h0.2.2.1 | exact h0.2.2.2.1 | exact h0.2.2.2.2.1 | exact h0.2.2.2.2.2.1 | exact h0.2.2.2.2.2.2.1 | exact h0.2.2.2.2.2.2.2.1 | exact h0.2.2.2.2.2.2.2.2) (by rfl) ?_
  refine j_sipush (v := 201) dX8_isPiece_6 (by decide) ?_
  refine m_iald (k := 201) dX8_isPiece_9 hB (by first | exact h0.1 | exact h0.2.1 | exact h0.2.2.1 | exact h0.2.2.2.1 | exact h0.2.2.2.2.1 | exact h0.2.2.2.2.2.1 | exact h0.2.2.2.2.2.2.1 | exact h0.2.2.2.2.2.2.2.1 | exact h0.2.2.2.2.2.2.2.2) (ixk (iC 201 (by decide)) (by omega)) (by omega) ?_
  refine j_iconst (v := 1) dX8_isPiece_10 (by decide) ?_
  refine j_isub dX8_isPiece_11 ?_
  refine j_cSi dX8_isPiece_12 hB mo_X8_within ml_X8_38 (sp_X8_within hB  (iV) (iC 0 (by decide)) (iS (h.2.1.2.2.2.1.1) (iC 1 (by decide)) (by omega))) rfl rfl ⟨rfl, rfl, by decide, by decide⟩ (Nat.le_of_ble_eq_true rfl) ⟨by decide, by decide⟩ (fun r_12 V_12 h_12 => ?_)
  obtain ⟨rfl, b_12⟩ := h_12
  replace b_12 : bQ _ (pcOk x.1 a) := b_12.cg (by omega)
  refine j_iret dX8_isPiece_15 rfl (by first | decide | exact m_nrB (by assumption)) (by decide) (by decide) ?_
  exact ⟨_, rfl, rfl, rfl, rfl, rfl, b_12⟩
set_option maxRecDepth 100000 in
set_option maxHeartbeats 4000000 in
theorem sp_X8_of (hB : jB l s0 D) {q : Nat} (h0 : moT T q) {r : Int32} {z : Nat} (hz : r.toInt = z) (z3 : z < 3) {k w : Int32} {kk ww : Nat} (hk : k.toInt = kk) (k10 : kk < 10) (hw : w.toInt = ww) (w4 : ww < 4) : Sp l s0 D kX8_of (jR 0 0 0) 0 0 [.ref q, .int r, .int k, .int w] T V X sz (qI T X sz (fun x V' => V = V' ∧ x = V (q + 1) (67 * z + 1 + 4 * kk + ww))) := by
  refine Sp.of pn_X8_of rfl (Nat.le_of_ble_eq_true rfl) ?_
  refine j_aload_n dX8_of_0 rfl ?_
  refine j_getr dX8_of_1 hB fl_X8_7 (by first | exact h0.1 | exact h0.2.1 | exact h0.2.2.1 | exact h0.2.2.2.1 | exact h0.2.2.2.2.1 | exact h0.2.2.2.2.2.1 | exact h0.2.2.2.2.2.2.1 | exact h0.2.2.2.2.2.2.2.1 | exact h0.2.2.2.2.2.2.2.2) (by rfl) ?_
  refine j_bipush (v := 67) dX8_of_4 (by decide) ?_
  refine j_iload_n dX8_of_6 rfl ?_
  refine j_imul dX8_of_7 ?_
  refine j_iconst (v := 1) dX8_of_8 (by decide) ?_
  refine j_iadd dX8_of_9 ?_
  refine j_iconst (v := 4) dX8_of_10 (by decide) ?_
  refine j_iload_n dX8_of_11 rfl ?_
  refine j_imul dX8_of_12 ?_
  refine j_iadd dX8_of_13 ?_
  refine j_iload_n dX8_of_14 rfl ?_
  refine j_iadd dX8_of_15 ?_
  refine m_iald (k := 67 * z + 1 + 4 * kk + ww) dX8_of_16 hB (by first | exact h0.1 | exact h0.2.1 | exact h0.2.2.1 | exact h0.2.2.2.1 | exact h0.2.2.2.2.1 | exact h0.2.2.2.2.2.1 | exact h0.2.2.2.2.2.2.1 | exact h0.2.2.2.2.2.2.2.1 | exact h0.2.2.2.2.2.2.2.2) (ixk (iA (iA (iA (iM (iC 67 (by decide)) (hz) (by omega)) (iC 1 (by decide)) (by omega)) (iM (iC 4 (by decide)) (hk) (by omega)) (by omega)) (hw) (by omega)) (by omega)) (by omega) ?_
  refine j_iret dX8_of_17 rfl (rfl) (by decide) (by decide) ?_
  exact ⟨_, rfl, rfl, rfl, rfl, rfl, rfl⟩
set_option maxRecDepth 100000 in
set_option maxHeartbeats 4000000 in
theorem sp_X8_firstFoot (hB : jB l s0 D) {q : Nat} (h0 : moT T q) {r : Int32} {z : Nat} (hz : r.toInt = z) (z3 : z < 3) {rr : aR} {s : aS} (hr : zRl (V (q + 1)) (67 * z) rr) (hrl : rlW s rr) {k0 : Int32} {k : Nat} (hk0 : k0.toInt = k) (hk : k ≤ rr.1.length) : Sp l s0 D kX8_firstFoot (jR 1 0 0) 0 0 [.ref q, .int r, .int k0] T V X sz (qI T X sz (fun y V' => V = V' ∧ y.toInt = aFirst rr k)) := by
  refine Sp.of pn_X8_firstFoot rfl (Nat.le_of_ble_eq_true rfl) ?_
  have h10 := hrl.2.2.2.1
  have loop : ∀ (n j : Nat) (i y : Int32), j + n = k → i.toInt = j → y.toInt = aFirst rr j → J l s0 D kX8_firstFoot (jR 1 0 0) 0 0 (qI T X sz (fun y V' => V = V' ∧ y.toInt = aFirst rr k)) 5 [(0, .ref q), (1, .int r), (2, .int k0), (3, .int y), (4, .int i)] [] T V X sz 0 0 := by
    intro n
    refine Nat.strongRecOn n ?_
    clear n
    intro n ih j i y hn hi hy
    have f0 := aFirst_rng hrl j (by omega)
    refine j_iload dX8_firstFoot_5 rfl ?_
    refine j_iload_n dX8_firstFoot_7 rfl ?_
    refine m_icmp_ge (tgt := 28) dX8_firstFoot_8 (by decide) (hi) (hk0) (fun c_8 => ?_) (fun c_8 => ?_)
    · refine j_iload_n dX8_firstFoot_28 rfl ?_
      refine j_iret dX8_firstFoot_29 rfl (rfl) (by decide) (by decide) ?_
      exact ⟨_, rfl, rfl, rfl, rfl, rfl, by rw [hy, show j = k by omega]⟩
    · refine j_iload_n dX8_firstFoot_11 rfl ?_
      refine j_aload_n dX8_firstFoot_12 rfl ?_
      refine j_iload_n dX8_firstFoot_13 rfl ?_
      refine j_iload dX8_firstFoot_14 rfl ?_
      refine j_iconst (v := 0) dX8_firstFoot_16 (by decide) ?_
      refine j_cVi dX8_firstFoot_17 hB mo_X8_of ml_X8_50 (sp_X8_of hB h0 (ixk (k := z) (hz) (by omega)) z3 (ixk (k := j) (hi) (by omega)) (by omega) (ixk (k := 0) (iC 0 (by decide)) (by omega)) (by omega)) (by first | exact h0.1 | exact h0.2.1 | exact h0.2.2.1 | exact h0.2.2.2.1 | exact h0.2.2.2.2.1 | exact h0.2.2.2.2.2.1 | exact h0.2.2.2.2.2.2.1 | exact h0.2.2.2.2.2.2.2.1 | exact h0.2.2.2.2.2.2.2.2) rfl rfl rfl rfl ⟨rfl, rfl, by decide, by decide⟩ (Nat.le_of_ble_eq_true rfl) ⟨by decide, by decide⟩ (fun r_17 V_17 h_17 => ?_)
      obtain ⟨rfl, h_17⟩ := h_17
      replace h_17 := h_17.trans (hr.2.1 j (by omega)).1
      subst h_17
      have f1 := len_rng hrl (k := j) (by omega)
      refine j_iadd dX8_firstFoot_20 ?_
      refine j_istore_n (L' := [(0, _), (1, _), (2, _), (3, _), (4, _)]) dX8_firstFoot_21 (by decide) rfl ?_
      refine j_iinc (v := 1) (L' := [(0, _), (1, _), (2, _), (3, _), (4, _)]) dX8_firstFoot_22 rfl (by decide) (by decide) rfl ?_
      refine j_goto (tgt := 5) dX8_firstFoot_25 (by decide) ?_
      exact ih (n - 1) (by omega) (j + 1) _ _ (by omega) (ixk (k := j + 1) (iA (hi) (iC 1 (by decide)) (by omega)) (by omega)) (iA (hy) (iV) (by omega))
  refine j_iconst (v := 0) dX8_firstFoot_0 (by decide) ?_
  refine j_istore_n (L' := [(0, _), (1, _), (2, _), (3, _)]) dX8_firstFoot_1 (by decide) rfl ?_
  refine j_iconst (v := 0) dX8_firstFoot_2 (by decide) ?_
  refine j_istore (L' := [(0, _), (1, _), (2, _), (3, _), (4, _)]) dX8_firstFoot_3 (by decide) rfl ?_
  exact loop k 0 0 0 (by omega) rfl rfl
set_option maxRecDepth 100000 in
set_option maxHeartbeats 4000000 in
theorem sp_X8_playTime (hB : jB l s0 D) {q : Nat} (h0 : moT T q) {x : aX} {pc st pa : Int32} {pp : Nat} {kz pz : Int} (h : moIs T V q x) (hp : pcW x.1) (hpc : pc.toInt = pp) (hl : pp < x.1.2.1.1.length) (hl8 : x.1.2.1.1.length ≤ 8) (hst : isI st kz) (k0 : 0 ≤ kz) (k9 : kz ≤ 9) (hpa : isI pa pz) (p0 : 80 ≤ pz) : Sp l s0 D kX8_playTime (jR 0 0 0) 0 0 [.ref q, .int pc, .int st, .int pa] T V X sz (qI T X sz (fun r V' => V = V' ∧ r.toInt = plT x.1 pp kz pz)) := by
  refine Sp.of pn_X8_playTime rfl (Nat.le_of_ble_eq_true rfl) ?_
  have hz := h.2.1.2.2.2.1.2 pp hl
  have e1 : isI (V (q + 1) (202 + 3 * pp)) (atZ x.1.2.1.1 pp).toInt := congrArg Int32.toInt hz.1
  have e2 : isI (V (q + 1) (202 + 3 * pp + 1)) (atZ x.1.2.1.2.1 pp).toInt := congrArg Int32.toInt hz.2.1
  have e3 : isI (V (q + 1) (202 + 3 * pp + 2)) (atZ x.1.2.1.2.2 pp).toInt := congrArg Int32.toInt hz.2.2
  obtain ⟨a0, a1, a2, a3, a4, a5⟩ := pcW_at hp (i := (pp : Int)) (by omega) (by omega)
  have m0 := mul_rng k0 k9 (show (0 : Int) ≤ (atZ x.1.2.1.2.1 pp).toInt by omega) a3
  refine j_sipush (v := 202) dX8_playTime_0 (by decide) ?_
  refine j_iconst (v := 3) dX8_playTime_3 (by decide) ?_
  refine j_iload_n dX8_playTime_4 rfl ?_
  refine j_imul dX8_playTime_5 ?_
  refine j_iadd dX8_playTime_6 ?_
  refine j_istore (L' := [(0, _), (1, _), (2, _), (3, _), (4, _)]) dX8_playTime_7 (by decide) rfl ?_
  refine j_aload_n dX8_playTime_9 rfl ?_
  refine j_getr dX8_playTime_10 hB fl_X8_7 (by first | exact h0.1 | exact h0.2.1 | exact h0.2.2.1 | exact h0.2.2.2.1 | exact h0.2.2.2.2.1 | exact h0.2.2.2.2.2.1 | exact h0.2.2.2.2.2.2.1 | exact h0.2.2.2.2.2.2.2.1 | exact h0.2.2.2.2.2.2.2.2) (by rfl) ?_
  refine j_iload dX8_playTime_13 rfl ?_
  refine m_iald (k := 202 + 3 * pp) dX8_playTime_15 hB (by first | exact h0.1 | exact h0.2.1 | exact h0.2.2.1 | exact h0.2.2.2.1 | exact h0.2.2.2.2.1 | exact h0.2.2.2.2.2.1 | exact h0.2.2.2.2.2.2.1 | exact h0.2.2.2.2.2.2.2.1 | exact h0.2.2.2.2.2.2.2.2) (ixk (iA (iC 202 (by decide)) (iM (iC 3 (by decide)) (hpc) (by omega)) (by omega)) (by omega)) (by omega) ?_
  refine j_iload_n dX8_playTime_16 rfl ?_
  refine j_aload_n dX8_playTime_17 rfl ?_
  refine j_getr dX8_playTime_18 hB fl_X8_7 (by first | exact h0.1 | exact h0.2.1 | exact h0.2.2.1 | exact h0.2.2.2.1 | exact h0.2.2.2.2.1 | exact h0.2.2.2.2.2.1 | exact h0.2.2.2.2.2.2.1 | exact h0.2.2.2.2.2.2.2.1 | exact h0.2.2.2.2.2.2.2.2) (by rfl) ?_
  refine j_iload dX8_playTime_21 rfl ?_
  refine j_iconst (v := 1) dX8_playTime_23 (by decide) ?_
  refine j_iadd dX8_playTime_24 ?_
  refine m_iald (k := 202 + 3 * pp + 1) dX8_playTime_25 hB (by first | exact h0.1 | exact h0.2.1 | exact h0.2.2.1 | exact h0.2.2.2.1 | exact h0.2.2.2.2.1 | exact h0.2.2.2.2.2.1 | exact h0.2.2.2.2.2.2.1 | exact h0.2.2.2.2.2.2.2.1 | exact h0.2.2.2.2.2.2.2.2) (ixk (iA (iA (iC 202 (by decide)) (iM (iC 3 (by decide)) (hpc) (by omega)) (by omega)) (iC 1 (by decide)) (by omega)) (by omega)) (by omega) ?_
  refine j_imul dX8_playTime_26 ?_
  refine j_iadd dX8_playTime_27 ?_
  refine j_aload_n dX8_playTime_28 rfl ?_
  refine j_getr dX8_playTime_29 hB fl_X8_7 (by first | exact h0.1 | exact h0.2.1 | exact h0.2.2.1 | exact h0.2.2.2.1 | exact h0.2.2.2.2.1 | exact h0.2.2.2.2.2.1 | exact h0.2.2.2.2.2.2.1 | exact h0.2.2.2.2.2.2.2.1 | exact h0.2.2.2.2.2.2.2.2) (by rfl) ?_
  refine j_iload dX8_playTime_32 rfl ?_
  refine j_iconst (v := 2) dX8_playTime_34 (by decide) ?_
  refine j_iadd dX8_playTime_35 ?_
  refine m_iald (k := 202 + 3 * pp + 2) dX8_playTime_36 hB (by first | exact h0.1 | exact h0.2.1 | exact h0.2.2.1 | exact h0.2.2.2.1 | exact h0.2.2.2.2.1 | exact h0.2.2.2.2.2.1 | exact h0.2.2.2.2.2.2.1 | exact h0.2.2.2.2.2.2.2.1 | exact h0.2.2.2.2.2.2.2.2) (ixk (iA (iA (iC 202 (by decide)) (iM (iC 3 (by decide)) (hpc) (by omega)) (by omega)) (iC 2 (by decide)) (by omega)) (by omega)) (by omega) ?_
  refine j_iadd dX8_playTime_37 ?_
  refine j_bipush (v := 100) dX8_playTime_38 (by decide) ?_
  refine j_imul dX8_playTime_40 ?_
  refine j_iload_n dX8_playTime_41 rfl ?_
  refine j_idiv dX8_playTime_42 (fun z => by rw [z] at hpa; have : (0 : Int) = pz := hpa; omega) ?_
  refine j_iret dX8_playTime_43 rfl (rfl) (by decide) (by decide) ?_
  exact ⟨_, rfl, rfl, rfl, rfl, rfl, ixz (iD (iM (iA (iA (e1) (iM (hst) (e2) (by omega)) (by omega)) (e3) (by omega)) (iC 100 (by decide)) (by omega)) (hpa) (by omega)) rfl⟩
set_option maxRecDepth 100000 in
set_option maxHeartbeats 4000000 in
theorem sp_X8_isLost (hB : jB l s0 D) {q : Nat} (h0 : moT T q) {r : Int32} {z : Nat} (hz : r.toInt = z) (z3 : z < 3) {P : pL} {f : Int32} (hP : zHl (V (q + 1)) (67 * z + 54) P) (hw : slW P) (f0 : 0 ≤ f.toInt) (f1 : f.toInt ≤ 9000) : Sp l s0 D kX8_isLost (jR 1 0 0) 0 0 [.ref q, .int r, .int f] T V X sz (qI T X sz (fun y V' => V = V' ∧ bQ y (lostB P f.toInt = true))) := by
  refine Sp.of pn_X8_isLost rfl (Nat.le_of_ble_eq_true rfl) ?_
  have h6 := hP.1
  have loop : ∀ (n j : Nat) (i y : Int32), j + n = P.length → i.toInt = j → bQ y (∃ jj : Nat, jj < j ∧ (V (q + 1) (67 * z + 54 + 1 + 2 * jj)).toInt ≤ f.toInt ∧ f.toInt < (V (q + 1) (67 * z + 54 + 1 + 2 * jj)).toInt + (V (q + 1) (67 * z + 54 + 1 + 2 * jj + 1)).toInt) → J l s0 D kX8_isLost (jR 1 0 0) 0 0 (qI T X sz (fun y V' => V = V' ∧ bQ y (lostB P f.toInt = true))) 5 [(0, .ref q), (1, .int r), (2, .int f), (3, .int y), (4, .int i)] [] T V X sz 0 0 := by
    intro n
    refine Nat.strongRecOn n ?_
    clear n
    intro n ih j i y hn hi hy
    refine j_iload dX8_isLost_5 rfl ?_
    refine j_aload_n dX8_isLost_7 rfl ?_
    refine j_getr dX8_isLost_8 hB fl_X8_7 (by first | exact h0.1 | exact h0.2.1 | exact h0.2.2.1 | exact h0.2.2.2.1 | exact h0.2.2.2.2.1 | exact h0.2.2.2.2.2.1 | exact h0.2.2.2.2.2.2.1 | exact h0.2.2.2.2.2.2.2.1 | exact h0.2.2.2.2.2.2.2.2) (by rfl) ?_
    refine j_bipush (v := 67) dX8_isLost_11 (by decide) ?_
    refine j_iload_n dX8_isLost_13 rfl ?_
    refine j_imul dX8_isLost_14 ?_
    refine j_bipush (v := 54) dX8_isLost_15 (by decide) ?_
    refine j_iadd dX8_isLost_17 ?_
    refine m_iald (k := 67 * z + 54) dX8_isLost_18 hB (by first | exact h0.1 | exact h0.2.1 | exact h0.2.2.1 | exact h0.2.2.2.1 | exact h0.2.2.2.2.1 | exact h0.2.2.2.2.2.1 | exact h0.2.2.2.2.2.2.1 | exact h0.2.2.2.2.2.2.2.1 | exact h0.2.2.2.2.2.2.2.2) (ixk (iA (iM (iC 67 (by decide)) (hz) (by omega)) (iC 54 (by decide)) (by omega)) (by omega)) (by omega) ?_
    refine m_icmp_ge (tgt := 90) dX8_isLost_19 (by decide) (hi) (hP.n) (fun c_19 => ?_) (fun c_19 => ?_)
    · refine j_iload_n dX8_isLost_90 rfl ?_
      refine j_iret dX8_isLost_91 rfl (by first | decide | exact m_nrB (by assumption)) (by decide) (by decide) ?_
      exact ⟨_, rfl, rfl, rfl, rfl, rfl, hy.cg ((lost_zH hP f.toInt).trans (by rw [show P.length = j by omega])).symm⟩
    · have hj := hP.mem (j := j) (by omega)
      obtain ⟨w0, w1, w2, w3⟩ := hw _ hj
      have hj1 : isI (V (q + 1) (67 * z + 54 + 1 + 2 * j)) (V (q + 1) (67 * z + 54 + 1 + 2 * j)).toInt := rfl
      have hj2 : isI (V (q + 1) (67 * z + 54 + 1 + 2 * j + 1)) (V (q + 1) (67 * z + 54 + 1 + 2 * j + 1)).toInt := rfl
      simp only at w0 w1 w2 w3
      refine j_aload_n dX8_isLost_22 rfl ?_
      refine j_getr dX8_isLost_23 hB fl_X8_7 (by first | exact h0.1 | exact h0.2.1 | exact h0.2.2.1 | exact h0.2.2.2.1 | exact h0.2.2.2.2.1 | exact h0.2.2.2.2.2.1 | exact h0.2.2.2.2.2.2.1 | exact h0.2.2.2.2.2.2.2.1 | exact h0.2.2.2.2.2.2.2.2) (by rfl) ?_
      refine j_bipush (v := 67) dX8_isLost_26 (by decide) ?_
      refine j_iload_n dX8_isLost_28 rfl ?_
      refine j_imul dX8_isLost_29 ?_
      refine j_bipush (v := 55) dX8_isLost_30 (by decide) ?_
      refine j_iadd dX8_isLost_32 ?_
      refine j_iconst (v := 2) dX8_isLost_33 (by decide) ?_
      refine j_iload dX8_isLost_34 rfl ?_
      refine j_imul dX8_isLost_36 ?_
      refine j_iadd dX8_isLost_37 ?_
      refine m_iald (k := 67 * z + 54 + 1 + 2 * j) dX8_isLost_38 hB (by first | exact h0.1 | exact h0.2.1 | exact h0.2.2.1 | exact h0.2.2.2.1 | exact h0.2.2.2.2.1 | exact h0.2.2.2.2.2.1 | exact h0.2.2.2.2.2.2.1 | exact h0.2.2.2.2.2.2.2.1 | exact h0.2.2.2.2.2.2.2.2) (ixk (iA (iA (iM (iC 67 (by decide)) (hz) (by omega)) (iC 55 (by decide)) (by omega)) (iM (iC 2 (by decide)) (hi) (by omega)) (by omega)) (by omega)) (by omega) ?_
      refine j_istore (L' := [(0, _), (1, _), (2, _), (3, _), (4, _), (5, _)]) dX8_isLost_39 (by decide) rfl ?_
      refine j_iload_n dX8_isLost_41 rfl ?_
      refine m_ifneB (tgt := 78) dX8_isLost_42 (by decide) hy (fun c_42 => ?_) (fun c_42 => ?_)
      · refine j_iconst (v := 1) dX8_isLost_78 (by decide) ?_
        refine j_goto (tgt := 83) dX8_isLost_79 (by decide) ?_
        refine j_istore_n (L' := [(0, _), (1, _), (2, _), (3, _), (4, _), (5, _)]) dX8_isLost_83 (by decide) rfl ?_
        refine j_iinc (v := 1) (L' := [(0, _), (1, _), (2, _), (3, _), (4, _), (5, _)]) dX8_isLost_84 rfl (by decide) (by decide) rfl ?_
        refine j_goto (tgt := 5) dX8_isLost_87 (by decide) ?_
        refine j_sub2 (L' := [(0, _), (1, _), (2, _), (3, _), (4, _)]) (List.forall_mem_cons.mpr ⟨rfl, List.forall_mem_cons.mpr ⟨rfl, List.forall_mem_cons.mpr ⟨rfl, List.forall_mem_cons.mpr ⟨rfl, List.forall_mem_cons.mpr ⟨rfl, fun _ h9 => nomatch h9⟩⟩⟩⟩⟩) ?_
        refine ih (n - 1) (by omega) (j + 1) _ _ (by omega) ?_ ?_
        · exact (ixk (k := j + 1) (iA (hi) (iC 1 (by decide)) (by omega)) (by omega))
        exact Or.inl ⟨rfl, by obtain ⟨j2, a, b⟩ := c_42; exact ⟨j2, by omega, b⟩⟩
      · refine j_iload_n dX8_isLost_45 rfl ?_
        refine j_iload dX8_isLost_46 rfl ?_
        refine j_iload dX8_isLost_48 rfl ?_
        refine j_aload_n dX8_isLost_50 rfl ?_
        refine j_getr dX8_isLost_51 hB fl_X8_7 (by first | exact h0.1 | exact h0.2.1 | exact h0.2.2.1 | exact h0.2.2.2.1 | exact h0.2.2.2.2.1 | exact h0.2.2.2.2.2.1 | exact h0.2.2.2.2.2.2.1 | exact h0.2.2.2.2.2.2.2.1 | exact h0.2.2.2.2.2.2.2.2) (by rfl) ?_
        refine j_bipush (v := 67) dX8_isLost_54 (by decide) ?_
        refine j_iload_n dX8_isLost_56 rfl ?_
        refine j_imul dX8_isLost_57 ?_
        refine j_bipush (v := 55) dX8_isLost_58 (by decide) ?_
        refine j_iadd dX8_isLost_60 ?_
        refine j_iconst (v := 2) dX8_isLost_61 (by decide) ?_
        refine j_iload dX8_isLost_62 rfl ?_
        refine j_imul dX8_isLost_64 ?_
        refine j_iadd dX8_isLost_65 ?_
        refine j_iconst (v := 1) dX8_isLost_66 (by decide) ?_
        refine j_iadd dX8_isLost_67 ?_
        refine m_iald (k := 67 * z + 54 + 1 + 2 * j + 1) dX8_isLost_68 hB (by first | exact h0.1 | exact h0.2.1 | exact h0.2.2.1 | exact h0.2.2.2.1 | exact h0.2.2.2.2.1 | exact h0.2.2.2.2.2.1 | exact h0.2.2.2.2.2.2.1 | exact h0.2.2.2.2.2.2.2.1 | exact h0.2.2.2.2.2.2.2.2) (ixk (iA (iA (iA (iM (iC 67 (by decide)) (hz) (by omega)) (iC 55 (by decide)) (by omega)) (iM (iC 2 (by decide)) (hi) (by omega)) (by omega)) (iC 1 (by decide)) (by omega)) (by omega)) (by omega) ?_
        refine j_iadd dX8_isLost_69 ?_
        refine j_iconst (v := 1) dX8_isLost_70 (by decide) ?_
        refine j_isub dX8_isLost_71 ?_
        refine j_cSi dX8_isLost_72 hB mo_X8_within ml_X8_38 (sp_X8_within hB  (iV) (hj1) (iS (iA (hj1) (hj2) (by omega)) (iC 1 (by decide)) (by omega))) rfl rfl ⟨rfl, rfl, by decide, by decide⟩ (Nat.le_of_ble_eq_true rfl) ⟨by decide, by decide⟩ (fun r_72 V_72 h_72 => ?_)
        obtain ⟨rfl, b_72⟩ := h_72
        refine m_ifeqB (tgt := 82) dX8_isLost_75 (by decide) b_72 (fun c_75 => ?_) (fun c_75 => ?_)
        · refine j_iconst (v := 0) dX8_isLost_82 (by decide) ?_
          refine j_istore_n (L' := [(0, _), (1, _), (2, _), (3, _), (4, _), (5, _)]) dX8_isLost_83 (by decide) rfl ?_
          refine j_iinc (v := 1) (L' := [(0, _), (1, _), (2, _), (3, _), (4, _), (5, _)]) dX8_isLost_84 rfl (by decide) (by decide) rfl ?_
          refine j_goto (tgt := 5) dX8_isLost_87 (by decide) ?_
          refine j_sub2 (L' := [(0, _), (1, _), (2, _), (3, _), (4, _)]) (List.forall_mem_cons.mpr ⟨rfl, List.forall_mem_cons.mpr ⟨rfl, List.forall_mem_cons.mpr ⟨rfl, List.forall_mem_cons.mpr ⟨rfl, List.forall_mem_cons.mpr ⟨rfl, fun _ h9 => nomatch h9⟩⟩⟩⟩⟩) ?_
          refine ih (n - 1) (by omega) (j + 1) _ _ (by omega) ?_ ?_
          · exact (ixk (k := j + 1) (iA (hi) (iC 1 (by decide)) (by omega)) (by omega))
          refine Or.inr ⟨rfl, fun ⟨j2, a, b, c⟩ => ?_⟩
          rcases Nat.lt_or_ge j2 j with g | g
          · exact c_42 ⟨j2, g, b, c⟩
          · have : j2 = j := by omega
            subst this
            exact c_75 ⟨b, by omega⟩
        · refine j_iconst (v := 1) dX8_isLost_78 (by decide) ?_
          refine j_goto (tgt := 83) dX8_isLost_79 (by decide) ?_
          refine j_istore_n (L' := [(0, _), (1, _), (2, _), (3, _), (4, _), (5, _)]) dX8_isLost_83 (by decide) rfl ?_
          refine j_iinc (v := 1) (L' := [(0, _), (1, _), (2, _), (3, _), (4, _), (5, _)]) dX8_isLost_84 rfl (by decide) (by decide) rfl ?_
          refine j_goto (tgt := 5) dX8_isLost_87 (by decide) ?_
          refine j_sub2 (L' := [(0, _), (1, _), (2, _), (3, _), (4, _)]) (List.forall_mem_cons.mpr ⟨rfl, List.forall_mem_cons.mpr ⟨rfl, List.forall_mem_cons.mpr ⟨rfl, List.forall_mem_cons.mpr ⟨rfl, List.forall_mem_cons.mpr ⟨rfl, fun _ h9 => nomatch h9⟩⟩⟩⟩⟩) ?_
          refine ih (n - 1) (by omega) (j + 1) _ _ (by omega) ?_ ?_
          · exact (ixk (k := j + 1) (iA (hi) (iC 1 (by decide)) (by omega)) (by omega))
          exact Or.inl ⟨rfl, j, by omega, c_75.1, by have := c_75.2; omega⟩
  refine j_iconst (v := 0) dX8_isLost_0 (by decide) ?_
  refine j_istore_n (L' := [(0, _), (1, _), (2, _), (3, _)]) dX8_isLost_1 (by decide) rfl ?_
  refine j_iconst (v := 0) dX8_isLost_2 (by decide) ?_
  refine j_istore (L' := [(0, _), (1, _), (2, _), (3, _), (4, _)]) dX8_isLost_3 (by decide) rfl ?_
  exact loop P.length 0 0 0 (by omega) rfl (Or.inr ⟨rfl, fun ⟨j2, a, _⟩ => absurd a (Nat.not_lt_zero _)⟩)
set_option maxRecDepth 100000 in
set_option maxHeartbeats 4000000 in
theorem sp_X8_speedOf (hB : jB l s0 D) {q : Nat} (h0 : moT T q) {r : Int32} {z : Nat} (hz : r.toInt = z) (z3 : z < 3) {P : pL} {f : Int32} (hP : zHl (V (q + 1)) (67 * z + 41) P) (hw : spW P)  : Sp l s0 D kX8_speedOf (jR 0 0 0) 0 0 [.ref q, .int r, .int f] T V X sz (qI T X sz (fun y V' => V = V' ∧ y = pHold P f.toInt)) := by
  refine Sp.of pn_X8_speedOf rfl (Nat.le_of_ble_eq_true rfl) ?_
  have h6 := hP.1
  have loop : ∀ (n j : Nat) (i fr y : Int32), j + n = P.length → i.toInt = j → ((fr = -1 ∧ y = 0 ∧ ∀ i9 : Nat, i9 < j → f.toInt < (V (q + 1) (67 * z + 41 + 1 + 2 * i9)).toInt) ∨ ∃ j9 : Nat, j9 < j ∧ fr = (V (q + 1) (67 * z + 41 + 1 + 2 * j9)) ∧ y = (V (q + 1) (67 * z + 41 + 1 + 2 * j9 + 1)) ∧ (V (q + 1) (67 * z + 41 + 1 + 2 * j9)).toInt ≤ f.toInt ∧ ∀ i9 : Nat, i9 < j → (V (q + 1) (67 * z + 41 + 1 + 2 * i9)).toInt ≤ f.toInt → (V (q + 1) (67 * z + 41 + 1 + 2 * i9)).toInt ≤ (V (q + 1) (67 * z + 41 + 1 + 2 * j9)).toInt) → J l s0 D kX8_speedOf (jR 0 0 0) 0 0 (qI T X sz (fun y V' => V = V' ∧ y = pHold P f.toInt)) 8 [(0, .ref q), (1, .int r), (2, .int f), (3, .int fr), (4, .int y), (5, .int i)] [] T V X sz 0 0 := by
    intro n
    refine Nat.strongRecOn n ?_
    clear n
    intro n ih j i fr y hn hi hy
    refine j_iload dX8_speedOf_8 rfl ?_
    refine j_aload_n dX8_speedOf_10 rfl ?_
    refine j_getr dX8_speedOf_11 hB fl_X8_7 (by first | exact h0.1 | exact h0.2.1 | exact h0.2.2.1 | exact h0.2.2.2.1 | exact h0.2.2.2.2.1 | exact h0.2.2.2.2.2.1 | exact h0.2.2.2.2.2.2.1 | exact h0.2.2.2.2.2.2.2.1 | exact h0.2.2.2.2.2.2.2.2) (by rfl) ?_
    refine j_bipush (v := 67) dX8_speedOf_14 (by decide) ?_
    refine j_iload_n dX8_speedOf_16 rfl ?_
    refine j_imul dX8_speedOf_17 ?_
    refine j_bipush (v := 41) dX8_speedOf_18 (by decide) ?_
    refine j_iadd dX8_speedOf_20 ?_
    refine m_iald (k := 67 * z + 41) dX8_speedOf_21 hB (by first | exact h0.1 | exact h0.2.1 | exact h0.2.2.1 | exact h0.2.2.2.1 | exact h0.2.2.2.2.1 | exact h0.2.2.2.2.2.1 | exact h0.2.2.2.2.2.2.1 | exact h0.2.2.2.2.2.2.2.1 | exact h0.2.2.2.2.2.2.2.2) (ixk (iA (iM (iC 67 (by decide)) (hz) (by omega)) (iC 41 (by decide)) (by omega)) (by omega)) (by omega) ?_
    refine m_icmp_ge (tgt := 86) dX8_speedOf_22 (by decide) (hi) (hP.n) (fun c_22 => ?_) (fun c_22 => ?_)
    · refine j_iload dX8_speedOf_86 rfl ?_
      refine j_iret dX8_speedOf_88 rfl (rfl) (by decide) (by decide) ?_
      refine ⟨_, rfl, rfl, rfl, rfl, rfl, ?_⟩
      have hj : j = P.length := by omega
      subst hj
      rcases hy with ⟨e1, e2, e3⟩ | ⟨j9, a, e1, e2, e3, e4⟩
      · rw [e2, hold_no hP e3]
      · rw [e2, hold_zH hP hw.1 a e3 e4]
    · have hj := hP.mem (j := j) (by omega)
      obtain ⟨w0, w1, w2, w3⟩ := hw.2.2 _ hj
      simp only at w0 w1 w2 w3
      refine j_aload_n dX8_speedOf_25 rfl ?_
      refine j_getr dX8_speedOf_26 hB fl_X8_7 (by first | exact h0.1 | exact h0.2.1 | exact h0.2.2.1 | exact h0.2.2.2.1 | exact h0.2.2.2.2.1 | exact h0.2.2.2.2.2.1 | exact h0.2.2.2.2.2.2.1 | exact h0.2.2.2.2.2.2.2.1 | exact h0.2.2.2.2.2.2.2.2) (by rfl) ?_
      refine j_bipush (v := 67) dX8_speedOf_29 (by decide) ?_
      refine j_iload_n dX8_speedOf_31 rfl ?_
      refine j_imul dX8_speedOf_32 ?_
      refine j_bipush (v := 42) dX8_speedOf_33 (by decide) ?_
      refine j_iadd dX8_speedOf_35 ?_
      refine j_iconst (v := 2) dX8_speedOf_36 (by decide) ?_
      refine j_iload dX8_speedOf_37 rfl ?_
      refine j_imul dX8_speedOf_39 ?_
      refine j_iadd dX8_speedOf_40 ?_
      refine m_iald (k := 67 * z + 41 + 1 + 2 * j) dX8_speedOf_41 hB (by first | exact h0.1 | exact h0.2.1 | exact h0.2.2.1 | exact h0.2.2.2.1 | exact h0.2.2.2.2.1 | exact h0.2.2.2.2.2.1 | exact h0.2.2.2.2.2.2.1 | exact h0.2.2.2.2.2.2.2.1 | exact h0.2.2.2.2.2.2.2.2) (ixk (iA (iA (iM (iC 67 (by decide)) (hz) (by omega)) (iC 42 (by decide)) (by omega)) (iM (iC 2 (by decide)) (hi) (by omega)) (by omega)) (by omega)) (by omega) ?_
      refine j_istore (L' := [(0, _), (1, _), (2, _), (3, _), (4, _), (5, _), (6, _)]) dX8_speedOf_42 (by decide) rfl ?_
      refine j_iload dX8_speedOf_44 rfl ?_
      refine j_iload_n dX8_speedOf_46 rfl ?_
      refine m_icmp_gt (tgt := 80) dX8_speedOf_47 (by decide) (iV) (iV) (fun c_47 => ?_) (fun c_47 => ?_)
      · refine j_iinc (v := 1) (L' := [(0, _), (1, _), (2, _), (3, _), (4, _), (5, _), (6, _)]) dX8_speedOf_80 rfl (by decide) (by decide) rfl ?_
        refine j_goto (tgt := 8) dX8_speedOf_83 (by decide) ?_
        refine j_sub2 (L' := [(0, _), (1, _), (2, _), (3, _), (4, _), (5, _)]) (List.forall_mem_cons.mpr ⟨rfl, List.forall_mem_cons.mpr ⟨rfl, List.forall_mem_cons.mpr ⟨rfl, List.forall_mem_cons.mpr ⟨rfl, List.forall_mem_cons.mpr ⟨rfl, List.forall_mem_cons.mpr ⟨rfl, fun _ h9 => nomatch h9⟩⟩⟩⟩⟩⟩) ?_
        refine ih (n - 1) (by omega) (j + 1) _ _ _ (by omega) ?_ ?_
        · exact (ixk (k := j + 1) (iA (hi) (iC 1 (by decide)) (by omega)) (by omega))
        rcases hy with ⟨e1, e2, e3⟩ | ⟨j9, a, e1, e2, e3, e4⟩
        · exact Or.inl ⟨e1, e2, fun i9 h9 => by
            rcases Nat.lt_or_ge i9 j with g | g
            · exact e3 i9 g
            · have : i9 = j := by omega
              subst this
              omega⟩
        · exact Or.inr ⟨j9, by omega, e1, e2, e3, fun i9 h9 hf => by
            rcases Nat.lt_or_ge i9 j with g | g
            · exact e4 i9 g hf
            · have : i9 = j := by omega
              subst this
              omega⟩
      · refine j_iload dX8_speedOf_50 rfl ?_
        refine j_iload_n dX8_speedOf_52 rfl ?_
        refine m_icmp_le (tgt := 80) dX8_speedOf_53 (by decide) (iV) (iV) (fun c_53 => ?_) (fun c_53 => ?_)
        · refine j_iinc (v := 1) (L' := [(0, _), (1, _), (2, _), (3, _), (4, _), (5, _), (6, _)]) dX8_speedOf_80 rfl (by decide) (by decide) rfl ?_
          refine j_goto (tgt := 8) dX8_speedOf_83 (by decide) ?_
          refine j_sub2 (L' := [(0, _), (1, _), (2, _), (3, _), (4, _), (5, _)]) (List.forall_mem_cons.mpr ⟨rfl, List.forall_mem_cons.mpr ⟨rfl, List.forall_mem_cons.mpr ⟨rfl, List.forall_mem_cons.mpr ⟨rfl, List.forall_mem_cons.mpr ⟨rfl, List.forall_mem_cons.mpr ⟨rfl, fun _ h9 => nomatch h9⟩⟩⟩⟩⟩⟩) ?_
          refine ih (n - 1) (by omega) (j + 1) _ _ _ (by omega) ?_ ?_
          · exact (ixk (k := j + 1) (iA (hi) (iC 1 (by decide)) (by omega)) (by omega))
          rcases hy with ⟨e1, e2, e3⟩ | ⟨j9, a, e1, e2, e3, e4⟩
          · rw [e1, ti_m1] at c_53
            omega
          · exact Or.inr ⟨j9, by omega, e1, e2, e3, fun i9 h9 hf => by
              rcases Nat.lt_or_ge i9 j with g | g
              · exact e4 i9 g hf
              · have : i9 = j := by omega
                subst this
                rw [e1] at c_53
                exact c_53⟩
        · refine j_iload dX8_speedOf_56 rfl ?_
          refine j_istore_n (L' := [(0, _), (1, _), (2, _), (3, _), (4, _), (5, _), (6, _)]) dX8_speedOf_58 (by decide) rfl ?_
          refine j_aload_n dX8_speedOf_59 rfl ?_
          refine j_getr dX8_speedOf_60 hB fl_X8_7 (by first | exact h0.1 | exact h0.2.1 | exact h0.2.2.1 | exact h0.2.2.2.1 | exact h0.2.2.2.2.1 | exact h0.2.2.2.2.2.1 | exact h0.2.2.2.2.2.2.1 | exact h0.2.2.2.2.2.2.2.1 | exact h0.2.2.2.2.2.2.2.2) (by rfl) ?_
          refine j_bipush (v := 67) dX8_speedOf_63 (by decide) ?_
          refine j_iload_n dX8_speedOf_65 rfl ?_
          refine j_imul dX8_speedOf_66 ?_
          refine j_bipush (v := 42) dX8_speedOf_67 (by decide) ?_
          refine j_iadd dX8_speedOf_69 ?_
          refine j_iconst (v := 2) dX8_speedOf_70 (by decide) ?_
          refine j_iload dX8_speedOf_71 rfl ?_
          refine j_imul dX8_speedOf_73 ?_
          refine j_iadd dX8_speedOf_74 ?_
          refine j_iconst (v := 1) dX8_speedOf_75 (by decide) ?_
          refine j_iadd dX8_speedOf_76 ?_
          refine m_iald (k := 67 * z + 41 + 1 + 2 * j + 1) dX8_speedOf_77 hB (by first | exact h0.1 | exact h0.2.1 | exact h0.2.2.1 | exact h0.2.2.2.1 | exact h0.2.2.2.2.1 | exact h0.2.2.2.2.2.1 | exact h0.2.2.2.2.2.2.1 | exact h0.2.2.2.2.2.2.2.1 | exact h0.2.2.2.2.2.2.2.2) (ixk (iA (iA (iA (iM (iC 67 (by decide)) (hz) (by omega)) (iC 42 (by decide)) (by omega)) (iM (iC 2 (by decide)) (hi) (by omega)) (by omega)) (iC 1 (by decide)) (by omega)) (by omega)) (by omega) ?_
          refine j_istore (L' := [(0, _), (1, _), (2, _), (3, _), (4, _), (5, _), (6, _)]) dX8_speedOf_78 (by decide) rfl ?_
          refine j_iinc (v := 1) (L' := [(0, _), (1, _), (2, _), (3, _), (4, _), (5, _), (6, _)]) dX8_speedOf_80 rfl (by decide) (by decide) rfl ?_
          refine j_goto (tgt := 8) dX8_speedOf_83 (by decide) ?_
          refine j_sub2 (L' := [(0, _), (1, _), (2, _), (3, _), (4, _), (5, _)]) (List.forall_mem_cons.mpr ⟨rfl, List.forall_mem_cons.mpr ⟨rfl, List.forall_mem_cons.mpr ⟨rfl, List.forall_mem_cons.mpr ⟨rfl, List.forall_mem_cons.mpr ⟨rfl, List.forall_mem_cons.mpr ⟨rfl, fun _ h9 => nomatch h9⟩⟩⟩⟩⟩⟩) ?_
          refine ih (n - 1) (by omega) (j + 1) _ _ _ (by omega) ?_ ?_
          · exact (ixk (k := j + 1) (iA (hi) (iC 1 (by decide)) (by omega)) (by omega))
          refine Or.inr ⟨j, by omega, rfl, rfl, c_47, fun i9 h9 hf => ?_⟩
          rcases Nat.lt_or_ge i9 j with g | g
          · rcases hy with ⟨e1, e2, e3⟩ | ⟨j9, a, e1, e2, e3, e4⟩
            · have := e3 i9 g
              omega
            · have := e4 i9 g hf
              rw [e1] at c_53
              omega
          · have : i9 = j := by omega
            subst this
            exact Int.le_refl _
  refine j_iconst (v := -1) dX8_speedOf_0 (by decide) ?_
  refine j_istore_n (L' := [(0, _), (1, _), (2, _), (3, _)]) dX8_speedOf_1 (by decide) rfl ?_
  refine j_iconst (v := 0) dX8_speedOf_2 (by decide) ?_
  refine j_istore (L' := [(0, _), (1, _), (2, _), (3, _), (4, _)]) dX8_speedOf_3 (by decide) rfl ?_
  refine j_iconst (v := 0) dX8_speedOf_5 (by decide) ?_
  refine j_istore (L' := [(0, _), (1, _), (2, _), (3, _), (4, _), (5, _)]) dX8_speedOf_6 (by decide) rfl ?_
  exact loop P.length 0 0 (-1) 0 (by omega) rfl (Or.inl ⟨rfl, rfl, fun i9 h9 => absurd h9 (Nat.not_lt_zero _)⟩)
end JM1
