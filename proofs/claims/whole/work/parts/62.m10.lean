/-! CueSheetsModel: pieces, cues, fitting, tolerance and leeway, the buffer, undo -/
theorem aFirst_cue {r : aR} {i : Int} {b c d : Int32} : ∀ k : Nat, aFirst (rCue r i b c d) k = aFirst r k
  | 0 => rfl
  | k + 1 => by show aFirst (rCue r i b c d) k + _ = aFirst r k + _; rw [aFirst_cue k]; rfl
theorem aLost_cue {r : aR} {i : Int} {b c d : Int32} (k : Nat) : aLost (rCue r i b c d) k = aLost r k := by
  unfold aLost; rw [aFirst_cue]; rfl
theorem aTime_cue {r : aR} {i w : Int} {b c d : Int32} (k : Nat) : aTime (rCue r i b c d) w k = aTime r w k := by
  unfold aTime; rw [aFirst_cue]; rfl
theorem aBeg_cue {r : aR} {i w : Int} {b c d : Int32} : ∀ k : Nat, aBeg (rCue r i b c d) w k = aBeg r w k
  | 0 => rfl
  | k + 1 => by show aBeg (rCue r i b c d) w k + _ = aBeg r w k + _; rw [aBeg_cue k, aTime_cue]
theorem lyB_cue {V : jV} {q : Nat} {r : aR} {w : Int} {i : Int} {b c d : Int32} (h : lyB V q r w) : lyB V q (rCue r i b c d) w := ⟨fun k hk => (h.1 k hk).trans (aBeg_cue k).symm, fun k hk => (h.2 k hk).trans (aLost_cue k).symm⟩
/-- what lies ahead of a scene doesn't change when it gets another cue -/
theorem aMus_cue {s : aS} {r : aR} {i : Nat} {w z : Int} {b c d : Int32} {X9 : aR} (hl : i < r.2.1.length ∧ i < r.2.2.1.length ∧ i < r.2.2.2.1.length) : ∀ k : Nat, k ≤ i → aMus (sSet s z X9) (rCue r i b c d) w k = aMus s r w k
  | 0, _ => rfl
  | k + 1, hk => by
    have ih := aMus_cue (s := s) (z := z) (b := b) (c := c) (d := d) (w := w) (X9 := X9) hl k (by omega)
    have e1 : atZ (rCue r i b c d).2.1 k = atZ r.2.1 k := by show atZ (setZ r.2.1 i b) k = _; rw [atZ_set (by omega) (by omega), if_neg (by omega)]
    have e2 : atZ (rCue r i b c d).2.2.1 k = atZ r.2.2.1 k := by show atZ (setZ r.2.2.1 i c) k = _; rw [atZ_set (by omega) (by omega), if_neg (by omega)]
    have e3 : atZ (rCue r i b c d).2.2.2.1 k = atZ r.2.2.2.1 k := by show atZ (setZ r.2.2.2.1 i d) k = _; rw [atZ_set (by omega) (by omega), if_neg (by omega)]
    have ep : aPlay (sSet s z X9) (rCue r i b c d) k = aPlay s r k := by
      unfold aPlay plT wrT
      rw [e1, e2, e3, sSet_2]
    show cueI (rCue r i b c d) k (max (aBeg (rCue r i b c d) w k) (aMus _ _ w k) + aPlay _ _ k) (aMus _ _ w k) = cueI r k (max (aBeg r w k) (aMus s r w k) + aPlay s r k) (aMus s r w k)
    rw [ih, aBeg_cue, ep]
    by_cases hc : isCue r k
    · rw [cueI_t hc, cueI_t (by unfold isCue; rw [e1]; exact hc)]
    · rw [cueI_f hc, cueI_f (by unfold isCue; rw [e1]; exact hc)]
def lyE (V : jV) (q : Nat) (s : aS) (r : aR) (w : Int) (m : Nat) : Prop := lyB V q r w ∧ ∀ k : Nat, k < m → (V (q + 7) k).toInt = aEnd s r w k
theorem lyP.e {V : jV} {q : Nat} {s : aS} {r : aR} {w : Int} {m : Nat} (h : lyP V q s r w m) : lyE V q s r w m := ⟨h.1, fun k hk => (h.2 k hk).2⟩
theorem lyE_cue {V : jV} {q : Nat} {s : aS} {r : aR} {w z : Int} {i : Nat} {b c d : Int32} {X9 : aR} (hl : i < r.2.1.length ∧ i < r.2.2.1.length ∧ i < r.2.2.2.1.length) (h : lyE V q s r w i) : lyE V q (sSet s z X9) (rCue r i b c d) w i := by
  refine ⟨lyB_cue h.1, fun k hk => ?_⟩
  have e1 : atZ (rCue r i b c d).2.1 k = atZ r.2.1 k := by show atZ (setZ r.2.1 i b) k = _; rw [atZ_set (by omega) (by omega), if_neg (by omega)]
  have m2 := aMus_cue (s := s) (z := z) (b := b) (c := c) (d := d) (w := w) (X9 := X9) hl (k + 1) (by omega)
  have g := h.2 k hk
  refine g.trans ?_
  unfold aEnd
  rw [m2]
  by_cases hc : isCue r k
  · rw [cueI_t hc, cueI_t (by unfold isCue; rw [e1]; exact hc)]
  · rw [cueI_f hc, cueI_f (by unfold isCue; rw [e1]; exact hc)]
theorem aEnd_0 {s : aS} {r : aR} {w : Int} {k : Nat} (hc : ¬ isCue r k) : aEnd s r w k = 0 := cueI_f hc
theorem dm1000 {y : Int32} {a b : Int} (h : y.toInt = 1000 * a + b) (a0 : 1 ≤ a) (a1 : a ≤ 9) (b0 : 80 ≤ b) (b1 : b ≤ 120) : (y / 1000).toInt = a ∧ (y - y / 1000 * 1000).toInt = b := by
  have h1 : isI (y / 1000) a := ixz (iD (show isI y (1000 * a + b) from h) (iC 1000 (by decide)) (by omega)) (by omega)
  exact ⟨h1, ixz (iS (show isI y (1000 * a + b) from h) (iM h1 (iC 1000 (by decide)) (by omega)) (by omega)) (by omega)⟩
section JM10
variable {l : Launch} {s0 : State} {D : jD} {T : jT} {V : jV} {X : jX} {sz : Nat}
set_option maxRecDepth 100000 in
set_option maxHeartbeats 4000000 in
theorem sp_X8_addPiece (hB : jB l s0 D) {q : Nat} (h0 : moT T q) {x : aX} (h : moIs T V q x) (hW : xW x) {a b c : Int32} : Sp l s0 D kX8_addPiece (jR 1 0 0) 0 0 [.ref q, .int a, .int b, .int c] T V X sz (mC T V X sz q (e_pc x a b c) (fun y => isI y (v_pc x)) x (s_pc x a b c)) := by
  refine Sp.of pn_X8_addPiece rfl (Nat.le_of_ble_eq_true rfl) ?_
  have hpn : isI (V (q + 1) 201) x.1.2.1.1.length := h.2.1.2.2.2.1.1
  have hl8 := hW.1.2.2.1
  refine j_iload_n dX8_addPiece_0 rfl ?_
  refine j_iconst (v := 0) dX8_addPiece_1 (by decide) ?_
  refine j_sipush (v := 600) dX8_addPiece_2 (by decide) ?_
  refine j_cSi dX8_addPiece_5 hB mo_X8_within ml_X8_38 (sp_X8_within hB  (iV) (iC 0 (by decide)) (iC 600 (by decide))) rfl rfl ⟨rfl, rfl, by decide, by decide⟩ (Nat.le_of_ble_eq_true rfl) ⟨by decide, by decide⟩ (fun r_5 V_5 h_5 => ?_)
  obtain ⟨rfl, b_5⟩ := h_5
  replace b_5 : bQ _ (inR a 0 600) := b_5.cg (by omega)
  refine m_ifeqB (tgt := 38) dX8_addPiece_8 (by decide) b_5 (fun c_8 => ?_) (fun c_8 => ?_)
  · refine j_iconst (v := 0) dX8_addPiece_38 (by decide) ?_
    refine j_istore (L' := [(0, _), (1, _), (2, _), (3, _), (4, _)]) dX8_addPiece_39 (by decide) rfl ?_
    refine j_aload_n dX8_addPiece_41 rfl ?_
    refine j_iload dX8_addPiece_42 rfl ?_
    refine m_if_ne (tgt := 51) dX8_addPiece_44 (by decide) (iC 0 (by decide)) (fun c_44 => ?_) (fun c_44 => ?_)
    · exact absurd c_44 (by decide)
    · refine j_iconst (v := 1) dX8_addPiece_47 (by decide) ?_
      refine j_goto (tgt := 69) dX8_addPiece_48 (by decide) ?_
      refine j_puti dX8_addPiece_69 hB fp_X8_addPiece_34 (by first | exact h0.1 | exact h0.2.1 | exact h0.2.2.1 | exact h0.2.2.2.1 | exact h0.2.2.2.2.1 | exact h0.2.2.2.2.2.1 | exact h0.2.2.2.2.2.2.1 | exact h0.2.2.2.2.2.2.2.1 | exact h0.2.2.2.2.2.2.2.2) (by rfl) ?_
      generalize hV1 : jset V q 0 1 = V1
      have t1 : isI (V1 q 0) 1 := by rw [← hV1, jset_eq]; decide
      have a1 : jAg V V1 q (q + 9) := by rw [← hV1]; exact jAg.rf.set (by omega) (by omega)
      have h1 : moIs T V1 q x := by rw [← hV1]; exact h.f (by decide) (by decide)
      refine j_aload_n dX8_addPiece_72 rfl ?_
      refine j_geti dX8_addPiece_73 hB fl_X8_34 (by first | exact h0.1 | exact h0.2.1 | exact h0.2.2.1 | exact h0.2.2.2.1 | exact h0.2.2.2.2.1 | exact h0.2.2.2.2.2.1 | exact h0.2.2.2.2.2.2.1 | exact h0.2.2.2.2.2.2.2.1 | exact h0.2.2.2.2.2.2.2.2) (by rfl) ?_
      refine m_if_le (tgt := 81) dX8_addPiece_76 (by decide) (t1) (fun c_76 => ?_) (fun c_76 => ?_)
      · exact absurd c_76 (by decide)
      · refine j_iconst (v := 0) dX8_addPiece_79 (by decide) ?_
        refine j_iret dX8_addPiece_80 rfl (rfl) (by decide) (by decide) ?_
        exact mC.thr 0 (by show e_pc x a b c = 1; unfold e_pc; exact (if_pos (fun z9 => c_8 z9.1))) a1 t1 rfl h1
  · refine j_iload_n dX8_addPiece_11 rfl ?_
    refine j_bipush (v := 10) dX8_addPiece_12 (by decide) ?_
    refine j_sipush (v := 1200) dX8_addPiece_14 (by decide) ?_
    refine j_cSi dX8_addPiece_17 hB mo_X8_within ml_X8_38 (sp_X8_within hB  (iV) (iC 10 (by decide)) (iC 1200 (by decide))) rfl rfl ⟨rfl, rfl, by decide, by decide⟩ (Nat.le_of_ble_eq_true rfl) ⟨by decide, by decide⟩ (fun r_17 V_17 h_17 => ?_)
    obtain ⟨rfl, b_17⟩ := h_17
    replace b_17 : bQ _ (inR b 10 1200) := b_17.cg (by omega)
    refine m_ifeqB (tgt := 38) dX8_addPiece_20 (by decide) b_17 (fun c_20 => ?_) (fun c_20 => ?_)
    · refine j_iconst (v := 0) dX8_addPiece_38 (by decide) ?_
      refine j_istore (L' := [(0, _), (1, _), (2, _), (3, _), (4, _)]) dX8_addPiece_39 (by decide) rfl ?_
      refine j_aload_n dX8_addPiece_41 rfl ?_
      refine j_iload dX8_addPiece_42 rfl ?_
      refine m_if_ne (tgt := 51) dX8_addPiece_44 (by decide) (iC 0 (by decide)) (fun c_44 => ?_) (fun c_44 => ?_)
      · exact absurd c_44 (by decide)
      · refine j_iconst (v := 1) dX8_addPiece_47 (by decide) ?_
        refine j_goto (tgt := 69) dX8_addPiece_48 (by decide) ?_
        refine j_puti dX8_addPiece_69 hB fp_X8_addPiece_34 (by first | exact h0.1 | exact h0.2.1 | exact h0.2.2.1 | exact h0.2.2.2.1 | exact h0.2.2.2.2.1 | exact h0.2.2.2.2.2.1 | exact h0.2.2.2.2.2.2.1 | exact h0.2.2.2.2.2.2.2.1 | exact h0.2.2.2.2.2.2.2.2) (by rfl) ?_
        generalize hV1 : jset V q 0 1 = V1
        have t1 : isI (V1 q 0) 1 := by rw [← hV1, jset_eq]; decide
        have a1 : jAg V V1 q (q + 9) := by rw [← hV1]; exact jAg.rf.set (by omega) (by omega)
        have h1 : moIs T V1 q x := by rw [← hV1]; exact h.f (by decide) (by decide)
        refine j_aload_n dX8_addPiece_72 rfl ?_
        refine j_geti dX8_addPiece_73 hB fl_X8_34 (by first | exact h0.1 | exact h0.2.1 | exact h0.2.2.1 | exact h0.2.2.2.1 | exact h0.2.2.2.2.1 | exact h0.2.2.2.2.2.1 | exact h0.2.2.2.2.2.2.1 | exact h0.2.2.2.2.2.2.2.1 | exact h0.2.2.2.2.2.2.2.2) (by rfl) ?_
        refine m_if_le (tgt := 81) dX8_addPiece_76 (by decide) (t1) (fun c_76 => ?_) (fun c_76 => ?_)
        · exact absurd c_76 (by decide)
        · refine j_iconst (v := 0) dX8_addPiece_79 (by decide) ?_
          refine j_iret dX8_addPiece_80 rfl (rfl) (by decide) (by decide) ?_
          exact mC.thr 0 (by show e_pc x a b c = 1; unfold e_pc; exact (if_pos (fun z9 => c_20 z9.2.1))) a1 t1 rfl h1
    · refine j_iload_n dX8_addPiece_23 rfl ?_
      refine j_iconst (v := 0) dX8_addPiece_24 (by decide) ?_
      refine j_sipush (v := 600) dX8_addPiece_25 (by decide) ?_
      refine j_cSi dX8_addPiece_28 hB mo_X8_within ml_X8_38 (sp_X8_within hB  (iV) (iC 0 (by decide)) (iC 600 (by decide))) rfl rfl ⟨rfl, rfl, by decide, by decide⟩ (Nat.le_of_ble_eq_true rfl) ⟨by decide, by decide⟩ (fun r_28 V_28 h_28 => ?_)
      obtain ⟨rfl, b_28⟩ := h_28
      replace b_28 : bQ _ (inR c 0 600) := b_28.cg (by omega)
      refine m_ifeqB (tgt := 38) dX8_addPiece_31 (by decide) b_28 (fun c_31 => ?_) (fun c_31 => ?_)
      · refine j_iconst (v := 0) dX8_addPiece_38 (by decide) ?_
        refine j_istore (L' := [(0, _), (1, _), (2, _), (3, _), (4, _)]) dX8_addPiece_39 (by decide) rfl ?_
        refine j_aload_n dX8_addPiece_41 rfl ?_
        refine j_iload dX8_addPiece_42 rfl ?_
        refine m_if_ne (tgt := 51) dX8_addPiece_44 (by decide) (iC 0 (by decide)) (fun c_44 => ?_) (fun c_44 => ?_)
        · exact absurd c_44 (by decide)
        · refine j_iconst (v := 1) dX8_addPiece_47 (by decide) ?_
          refine j_goto (tgt := 69) dX8_addPiece_48 (by decide) ?_
          refine j_puti dX8_addPiece_69 hB fp_X8_addPiece_34 (by first | exact h0.1 | exact h0.2.1 | exact h0.2.2.1 | exact h0.2.2.2.1 | exact h0.2.2.2.2.1 | exact h0.2.2.2.2.2.1 | exact h0.2.2.2.2.2.2.1 | exact h0.2.2.2.2.2.2.2.1 | exact h0.2.2.2.2.2.2.2.2) (by rfl) ?_
          generalize hV1 : jset V q 0 1 = V1
          have t1 : isI (V1 q 0) 1 := by rw [← hV1, jset_eq]; decide
          have a1 : jAg V V1 q (q + 9) := by rw [← hV1]; exact jAg.rf.set (by omega) (by omega)
          have h1 : moIs T V1 q x := by rw [← hV1]; exact h.f (by decide) (by decide)
          refine j_aload_n dX8_addPiece_72 rfl ?_
          refine j_geti dX8_addPiece_73 hB fl_X8_34 (by first | exact h0.1 | exact h0.2.1 | exact h0.2.2.1 | exact h0.2.2.2.1 | exact h0.2.2.2.2.1 | exact h0.2.2.2.2.2.1 | exact h0.2.2.2.2.2.2.1 | exact h0.2.2.2.2.2.2.2.1 | exact h0.2.2.2.2.2.2.2.2) (by rfl) ?_
          refine m_if_le (tgt := 81) dX8_addPiece_76 (by decide) (t1) (fun c_76 => ?_) (fun c_76 => ?_)
          · exact absurd c_76 (by decide)
          · refine j_iconst (v := 0) dX8_addPiece_79 (by decide) ?_
            refine j_iret dX8_addPiece_80 rfl (rfl) (by decide) (by decide) ?_
            exact mC.thr 0 (by show e_pc x a b c = 1; unfold e_pc; exact (if_pos (fun z9 => c_31 z9.2.2))) a1 t1 rfl h1
      · refine j_iconst (v := 1) dX8_addPiece_34 (by decide) ?_
        refine j_goto (tgt := 39) dX8_addPiece_35 (by decide) ?_
        refine j_istore (L' := [(0, _), (1, _), (2, _), (3, _), (4, _)]) dX8_addPiece_39 (by decide) rfl ?_
        refine j_aload_n dX8_addPiece_41 rfl ?_
        refine j_iload dX8_addPiece_42 rfl ?_
        refine m_if_ne (tgt := 51) dX8_addPiece_44 (by decide) (iC 1 (by decide)) (fun c_44 => ?_) (fun c_44 => ?_)
        · refine j_aload_n dX8_addPiece_51 rfl ?_
          refine j_getr dX8_addPiece_52 hB fl_X8_7 (by first | exact h0.1 | exact h0.2.1 | exact h0.2.2.1 | exact h0.2.2.2.1 | exact h0.2.2.2.2.1 | exact h0.2.2.2.2.2.1 | exact h0.2.2.2.2.2.2.1 | exact h0.2.2.2.2.2.2.2.1 | exact h0.2.2.2.2.2.2.2.2) (by rfl) ?_
          refine j_sipush (v := 201) dX8_addPiece_55 (by decide) ?_
          refine m_iald (k := 201) dX8_addPiece_58 hB (by first | exact h0.1 | exact h0.2.1 | exact h0.2.2.1 | exact h0.2.2.2.1 | exact h0.2.2.2.2.1 | exact h0.2.2.2.2.2.1 | exact h0.2.2.2.2.2.2.1 | exact h0.2.2.2.2.2.2.2.1 | exact h0.2.2.2.2.2.2.2.2) (ixk (iC 201 (by decide)) (by omega)) (by omega) ?_
          refine j_bipush (v := 8) dX8_addPiece_59 (by decide) ?_
          refine m_icmp_ne (tgt := 68) dX8_addPiece_61 (by decide) (hpn) (iC 8 (by decide)) (fun c_61 => ?_) (fun c_61 => ?_)
          · refine j_iconst (v := 0) dX8_addPiece_68 (by decide) ?_
            refine j_puti dX8_addPiece_69 hB fp_X8_addPiece_34 (by first | exact h0.1 | exact h0.2.1 | exact h0.2.2.1 | exact h0.2.2.2.1 | exact h0.2.2.2.2.1 | exact h0.2.2.2.2.2.1 | exact h0.2.2.2.2.2.2.1 | exact h0.2.2.2.2.2.2.2.1 | exact h0.2.2.2.2.2.2.2.2) (by rfl) ?_
            generalize hV1 : jset V q 0 0 = V1
            have t1 : isI (V1 q 0) 0 := by rw [← hV1, jset_eq]; decide
            have a1 : jAg V V1 q (q + 9) := by rw [← hV1]; exact jAg.rf.set (by omega) (by omega)
            have h1 : moIs T V1 q x := by rw [← hV1]; exact h.f (by decide) (by decide)
            refine j_aload_n dX8_addPiece_72 rfl ?_
            refine j_geti dX8_addPiece_73 hB fl_X8_34 (by first | exact h0.1 | exact h0.2.1 | exact h0.2.2.1 | exact h0.2.2.2.1 | exact h0.2.2.2.2.1 | exact h0.2.2.2.2.2.1 | exact h0.2.2.2.2.2.2.1 | exact h0.2.2.2.2.2.2.2.1 | exact h0.2.2.2.2.2.2.2.2) (by rfl) ?_
            refine m_if_le (tgt := 81) dX8_addPiece_76 (by decide) (t1) (fun c_76 => ?_) (fun c_76 => ?_)
            · refine j_aload_n dX8_addPiece_81 rfl ?_
              refine j_cVu dX8_addPiece_82 hB mo_X8_save ml_X8_91 (sp_X8_save hB h0 h1 hW) (by first | exact h0.1 | exact h0.2.1 | exact h0.2.2.1 | exact h0.2.2.2.1 | exact h0.2.2.2.2.1 | exact h0.2.2.2.2.2.1 | exact h0.2.2.2.2.2.2.1 | exact h0.2.2.2.2.2.2.2.1 | exact h0.2.2.2.2.2.2.2.2) rfl rfl rfl rfl ⟨rfl, rfl, by decide, by decide⟩ (Nat.le_of_ble_eq_true rfl) ⟨by decide, by decide⟩ (fun V_82 h_82 => ?_)
              obtain ⟨hS, eS, tS, aS, xS⟩ := h_82
              have hpn2 : isI (V_82 (q + 1) 201) x.1.2.1.1.length := by rw [eS]; exact h1.2.1.2.2.2.1.1
              refine j_sipush (v := 202) dX8_addPiece_85 (by decide) ?_
              refine j_iconst (v := 3) dX8_addPiece_88 (by decide) ?_
              refine j_aload_n dX8_addPiece_89 rfl ?_
              refine j_getr dX8_addPiece_90 hB fl_X8_7 (by first | exact h0.1 | exact h0.2.1 | exact h0.2.2.1 | exact h0.2.2.2.1 | exact h0.2.2.2.2.1 | exact h0.2.2.2.2.2.1 | exact h0.2.2.2.2.2.2.1 | exact h0.2.2.2.2.2.2.2.1 | exact h0.2.2.2.2.2.2.2.2) (by rfl) ?_
              refine j_sipush (v := 201) dX8_addPiece_93 (by decide) ?_
              refine m_iald (k := 201) dX8_addPiece_96 hB (by first | exact h0.1 | exact h0.2.1 | exact h0.2.2.1 | exact h0.2.2.2.1 | exact h0.2.2.2.2.1 | exact h0.2.2.2.2.2.1 | exact h0.2.2.2.2.2.2.1 | exact h0.2.2.2.2.2.2.2.1 | exact h0.2.2.2.2.2.2.2.2) (ixk (iC 201 (by decide)) (by omega)) (by omega) ?_
              refine j_imul dX8_addPiece_97 ?_
              refine j_iadd dX8_addPiece_98 ?_
              refine j_istore (L' := [(0, _), (1, _), (2, _), (3, _), (4, _), (5, _)]) dX8_addPiece_99 (by decide) rfl ?_
              refine j_aload_n dX8_addPiece_101 rfl ?_
              refine j_getr dX8_addPiece_102 hB fl_X8_7 (by first | exact h0.1 | exact h0.2.1 | exact h0.2.2.1 | exact h0.2.2.2.1 | exact h0.2.2.2.2.1 | exact h0.2.2.2.2.2.1 | exact h0.2.2.2.2.2.2.1 | exact h0.2.2.2.2.2.2.2.1 | exact h0.2.2.2.2.2.2.2.2) (by rfl) ?_
              refine j_iload dX8_addPiece_105 rfl ?_
              refine j_iload_n dX8_addPiece_107 rfl ?_
              refine m_iast (k := 202 + 3 * x.1.2.1.1.length + 0) dX8_addPiece_108 hB (by first | exact h0.1 | exact h0.2.1 | exact h0.2.2.1 | exact h0.2.2.2.1 | exact h0.2.2.2.2.1 | exact h0.2.2.2.2.2.1 | exact h0.2.2.2.2.2.2.1 | exact h0.2.2.2.2.2.2.2.1 | exact h0.2.2.2.2.2.2.2.2) (ixk (iA (iC 202 (by decide)) (iM (iC 3 (by decide)) (hpn2) (by omega)) (by omega)) (by omega)) (by omega) ?_
              refine j_aload_n dX8_addPiece_109 rfl ?_
              refine j_getr dX8_addPiece_110 hB fl_X8_7 (by first | exact h0.1 | exact h0.2.1 | exact h0.2.2.1 | exact h0.2.2.2.1 | exact h0.2.2.2.2.1 | exact h0.2.2.2.2.2.1 | exact h0.2.2.2.2.2.2.1 | exact h0.2.2.2.2.2.2.2.1 | exact h0.2.2.2.2.2.2.2.2) (by rfl) ?_
              refine j_iload dX8_addPiece_113 rfl ?_
              refine j_iconst (v := 1) dX8_addPiece_115 (by decide) ?_
              refine j_iadd dX8_addPiece_116 ?_
              refine j_iload_n dX8_addPiece_117 rfl ?_
              refine m_iast (k := 202 + 3 * x.1.2.1.1.length + 1) dX8_addPiece_118 hB (by first | exact h0.1 | exact h0.2.1 | exact h0.2.2.1 | exact h0.2.2.2.1 | exact h0.2.2.2.2.1 | exact h0.2.2.2.2.2.1 | exact h0.2.2.2.2.2.2.1 | exact h0.2.2.2.2.2.2.2.1 | exact h0.2.2.2.2.2.2.2.2) (ixk (iA (iA (iC 202 (by decide)) (iM (iC 3 (by decide)) (hpn2) (by omega)) (by omega)) (iC 1 (by decide)) (by omega)) (by omega)) (by omega) ?_
              refine j_aload_n dX8_addPiece_119 rfl ?_
              refine j_getr dX8_addPiece_120 hB fl_X8_7 (by first | exact h0.1 | exact h0.2.1 | exact h0.2.2.1 | exact h0.2.2.2.1 | exact h0.2.2.2.2.1 | exact h0.2.2.2.2.2.1 | exact h0.2.2.2.2.2.2.1 | exact h0.2.2.2.2.2.2.2.1 | exact h0.2.2.2.2.2.2.2.2) (by rfl) ?_
              refine j_iload dX8_addPiece_123 rfl ?_
              refine j_iconst (v := 2) dX8_addPiece_125 (by decide) ?_
              refine j_iadd dX8_addPiece_126 ?_
              refine j_iload_n dX8_addPiece_127 rfl ?_
              refine m_iast (k := 202 + 3 * x.1.2.1.1.length + 2) dX8_addPiece_128 hB (by first | exact h0.1 | exact h0.2.1 | exact h0.2.2.1 | exact h0.2.2.2.1 | exact h0.2.2.2.2.1 | exact h0.2.2.2.2.2.1 | exact h0.2.2.2.2.2.2.1 | exact h0.2.2.2.2.2.2.2.1 | exact h0.2.2.2.2.2.2.2.2) (ixk (iA (iA (iC 202 (by decide)) (iM (iC 3 (by decide)) (hpn2) (by omega)) (by omega)) (iC 2 (by decide)) (by omega)) (by omega)) (by omega) ?_
              generalize hV2 : jset (jset (jset V_82 (q + 1) (202 + 3 * x.1.2.1.1.length + 0) a) (q + 1) (202 + 3 * x.1.2.1.1.length + 1) b) (q + 1) (202 + 3 * x.1.2.1.1.length + 2) c = V2
              have a2 : jAg V_82 V2 (q + 1) (q + 2) := by rw [← hV2]; exact ((jAg.rf.set (by omega) (by omega)).set (by omega) (by omega)).set (by omega) (by omega)
              have z0 : V2 (q + 1) (202 + 3 * x.1.2.1.1.length + 0) = a := by rw [← hV2, jset_ne (Or.inr (by omega)), jset_ne (Or.inr (by omega)), jset_eq]
              have z1 : V2 (q + 1) (202 + 3 * x.1.2.1.1.length + 1) = b := by rw [← hV2, jset_ne (Or.inr (by omega)), jset_eq]
              have z2 : V2 (q + 1) (202 + 3 * x.1.2.1.1.length + 2) = c := by rw [← hV2, jset_eq]
              have zr : ∀ t, (t < 202 + 3 * x.1.2.1.1.length + 0 ∨ 202 + 3 * x.1.2.1.1.length + 3 ≤ t) → V2 (q + 1) t = V_82 (q + 1) t := fun t ht => by rw [← hV2, jset_ne (Or.inr (by omega)), jset_ne (Or.inr (by omega)), jset_ne (Or.inr (by omega))]
              have zn : isI (V2 (q + 1) 201) x.1.2.1.1.length := by rw [zr _ (by omega)]; exact hpn2
              refine j_aload_n dX8_addPiece_129 rfl ?_
              refine j_getr dX8_addPiece_130 hB fl_X8_7 (by first | exact h0.1 | exact h0.2.1 | exact h0.2.2.1 | exact h0.2.2.2.1 | exact h0.2.2.2.2.1 | exact h0.2.2.2.2.2.1 | exact h0.2.2.2.2.2.2.1 | exact h0.2.2.2.2.2.2.2.1 | exact h0.2.2.2.2.2.2.2.2) (by rfl) ?_
              refine j_sipush (v := 201) dX8_addPiece_133 (by decide) ?_
              refine j_dup2 dX8_addPiece_136 rfl rfl ?_
              refine m_iald (k := 201) dX8_addPiece_137 hB (by first | exact h0.1 | exact h0.2.1 | exact h0.2.2.1 | exact h0.2.2.2.1 | exact h0.2.2.2.2.1 | exact h0.2.2.2.2.2.1 | exact h0.2.2.2.2.2.2.1 | exact h0.2.2.2.2.2.2.2.1 | exact h0.2.2.2.2.2.2.2.2) (ixk (iC 201 (by decide)) (by omega)) (by omega) ?_
              refine j_iconst (v := 1) dX8_addPiece_138 (by decide) ?_
              refine j_iadd dX8_addPiece_139 ?_
              refine m_iast (k := 201) dX8_addPiece_140 hB (by first | exact h0.1 | exact h0.2.1 | exact h0.2.2.1 | exact h0.2.2.2.1 | exact h0.2.2.2.2.1 | exact h0.2.2.2.2.2.1 | exact h0.2.2.2.2.2.2.1 | exact h0.2.2.2.2.2.2.2.1 | exact h0.2.2.2.2.2.2.2.2) (ixk (iC 201 (by decide)) (by omega)) (by omega) ?_
              generalize hV3 : jset V2 (q + 1) 201 (V2 (q + 1) 201 + 1) = V3
              have a3 : jAg V_82 V3 (q + 1) (q + 2) := by rw [← hV3]; exact a2.set (by omega) (by omega)
              have zn2 : isI (V3 (q + 1) 201) (x.1.2.1.1.length + 1) := by rw [← hV3, jset_eq]; exact iA zn (iC 1 (by decide)) (by omega)
              have zr2 : ∀ t, ¬ t = 201 → V3 (q + 1) t = V2 (q + 1) t := fun t ht => by rw [← hV3, jset_ne (Or.inr ht)]
              have zz : zIs (V3 (q + 1)) (s_pc x a b c).1 := by
                obtain ⟨g1, g2, g3, g4, g5, g6⟩ := hS.2.1
                have e9 : ∀ t, ¬ t = 201 → (t < 202 + 3 * x.1.2.1.1.length + 0 ∨ 202 + 3 * x.1.2.1.1.length + 3 ≤ t) → V3 (q + 1) t = V_82 (q + 1) t := fun t h8 h9 => (zr2 t h8).trans (zr t h9)
                refine ⟨g1.cg (hW.1.n 0) (fun i _ h9 => e9 i (by omega) (by omega)), g2.cg (hW.1.n 1) (fun i _ h9 => e9 i (by omega) (by omega)), g3.cg (hW.1.n 2) (fun i _ h9 => e9 i (by omega) (by omega)), g4.add hW.1.1 ?_ ?_ ?_ ?_ (fun t h8 h9 => e9 t h8 (Or.inl h9)), by rw [e9 226 (by omega) (by omega)]; exact g5, by rw [e9 227 (by omega) (by omega)]; exact g6⟩
                · have e1 := g4.1
                  rw [zn2, e1]; rfl
                · exact (zr2 _ (by omega)).trans z0
                · exact (zr2 _ (by omega)).trans z1
                · exact (zr2 _ (by omega)).trans z2
              have h3 : moIs T V3 q (s_pc x a b c) := hS.z a3 zz
              refine j_aload_n dX8_addPiece_141 rfl ?_
              refine j_getr dX8_addPiece_142 hB fl_X8_7 (by first | exact h0.1 | exact h0.2.1 | exact h0.2.2.1 | exact h0.2.2.2.1 | exact h0.2.2.2.2.1 | exact h0.2.2.2.2.2.1 | exact h0.2.2.2.2.2.2.1 | exact h0.2.2.2.2.2.2.2.1 | exact h0.2.2.2.2.2.2.2.2) (by rfl) ?_
              refine j_sipush (v := 201) dX8_addPiece_145 (by decide) ?_
              refine m_iald (k := 201) dX8_addPiece_148 hB (by first | exact h0.1 | exact h0.2.1 | exact h0.2.2.1 | exact h0.2.2.2.1 | exact h0.2.2.2.2.1 | exact h0.2.2.2.2.2.1 | exact h0.2.2.2.2.2.2.1 | exact h0.2.2.2.2.2.2.2.1 | exact h0.2.2.2.2.2.2.2.2) (ixk (iC 201 (by decide)) (by omega)) (by omega) ?_
              refine j_iconst (v := 1) dX8_addPiece_149 (by decide) ?_
              refine j_isub dX8_addPiece_150 ?_
              refine j_iret dX8_addPiece_151 rfl (rfl) (by decide) (by decide) ?_
              exact mC.ret (by show e_pc x a b c = 0; unfold e_pc; exact ((if_neg (fun z => z ⟨c_8, c_20, c_31⟩)).trans (if_neg (by omega)))) ((a1.tr aS).tr (a3.wide (by omega) (by omega))) (by rw [a3 q (by omega), tS]; exact t1) (ixz (iS (zn2) (iC 1 (by decide)) (by omega)) (by unfold v_pc; omega)) h3
            · exact absurd c_76 (by decide)
          · refine j_iconst (v := 2) dX8_addPiece_64 (by decide) ?_
            refine j_goto (tgt := 69) dX8_addPiece_65 (by decide) ?_
            refine j_puti dX8_addPiece_69 hB fp_X8_addPiece_34 (by first | exact h0.1 | exact h0.2.1 | exact h0.2.2.1 | exact h0.2.2.2.1 | exact h0.2.2.2.2.1 | exact h0.2.2.2.2.2.1 | exact h0.2.2.2.2.2.2.1 | exact h0.2.2.2.2.2.2.2.1 | exact h0.2.2.2.2.2.2.2.2) (by rfl) ?_
            generalize hV1 : jset V q 0 2 = V1
            have t1 : isI (V1 q 0) 2 := by rw [← hV1, jset_eq]; decide
            have a1 : jAg V V1 q (q + 9) := by rw [← hV1]; exact jAg.rf.set (by omega) (by omega)
            have h1 : moIs T V1 q x := by rw [← hV1]; exact h.f (by decide) (by decide)
            refine j_aload_n dX8_addPiece_72 rfl ?_
            refine j_geti dX8_addPiece_73 hB fl_X8_34 (by first | exact h0.1 | exact h0.2.1 | exact h0.2.2.1 | exact h0.2.2.2.1 | exact h0.2.2.2.2.1 | exact h0.2.2.2.2.2.1 | exact h0.2.2.2.2.2.2.1 | exact h0.2.2.2.2.2.2.2.1 | exact h0.2.2.2.2.2.2.2.2) (by rfl) ?_
            refine m_if_le (tgt := 81) dX8_addPiece_76 (by decide) (t1) (fun c_76 => ?_) (fun c_76 => ?_)
            · exact absurd c_76 (by decide)
            · refine j_iconst (v := 0) dX8_addPiece_79 (by decide) ?_
              refine j_iret dX8_addPiece_80 rfl (rfl) (by decide) (by decide) ?_
              exact mC.thr 1 (by show e_pc x a b c = 2; unfold e_pc; exact ((if_neg (fun z => z ⟨c_8, c_20, c_31⟩)).trans (if_pos (by omega)))) a1 t1 rfl h1
        · exact absurd c_44 (by decide)
set_option maxRecDepth 100000 in
set_option maxHeartbeats 4000000 in
theorem sp_X8_set (hB : jB l s0 D) {q : Nat} (h0 : moT T q) {x : aX} (h : moIs T V q x) (hW : xW x) {t w : Int32} : Sp l s0 D kX8_set (jR 1 0 0) 0 0 [.ref q, .int t, .int w] T V X sz (mC T V X sz q (e_set t w) (fun y => isI y (v_set x)) x (s_set x t w)) := by
  refine Sp.of pn_X8_set rfl (Nat.le_of_ble_eq_true rfl) ?_
  obtain ⟨lw0, lw1, lw2, lw3⟩ := hW.1.2.1
  refine j_aload_n dX8_set_0 rfl ?_
  refine j_iload_n dX8_set_1 rfl ?_
  refine j_iconst (v := 0) dX8_set_2 (by decide) ?_
  refine j_sipush (v := 600) dX8_set_3 (by decide) ?_
  refine j_cSi dX8_set_6 hB mo_X8_within ml_X8_38 (sp_X8_within hB  (iV) (iC 0 (by decide)) (iC 600 (by decide))) rfl rfl ⟨rfl, rfl, by decide, by decide⟩ (Nat.le_of_ble_eq_true rfl) ⟨by decide, by decide⟩ (fun r_6 V_6 h_6 => ?_)
  obtain ⟨rfl, b_6⟩ := h_6
  replace b_6 : bQ _ (inR t 0 600) := b_6.cg (by omega)
  refine m_ifeqB (tgt := 26) dX8_set_9 (by decide) b_6 (fun c_9 => ?_) (fun c_9 => ?_)
  · refine j_iconst (v := 1) dX8_set_26 (by decide) ?_
    refine j_puti dX8_set_27 hB fp_X8_set_34 (by first | exact h0.1 | exact h0.2.1 | exact h0.2.2.1 | exact h0.2.2.2.1 | exact h0.2.2.2.2.1 | exact h0.2.2.2.2.2.1 | exact h0.2.2.2.2.2.2.1 | exact h0.2.2.2.2.2.2.2.1 | exact h0.2.2.2.2.2.2.2.2) (by rfl) ?_
    generalize hV1 : jset V q 0 1 = V1
    have t1 : isI (V1 q 0) 1 := by rw [← hV1, jset_eq]; decide
    have a1 : jAg V V1 q (q + 9) := by rw [← hV1]; exact jAg.rf.set (by omega) (by omega)
    have h1 : moIs T V1 q x := by rw [← hV1]; exact h.f (by decide) (by decide)
    refine j_aload_n dX8_set_30 rfl ?_
    refine j_geti dX8_set_31 hB fl_X8_34 (by first | exact h0.1 | exact h0.2.1 | exact h0.2.2.1 | exact h0.2.2.2.1 | exact h0.2.2.2.2.1 | exact h0.2.2.2.2.2.1 | exact h0.2.2.2.2.2.2.1 | exact h0.2.2.2.2.2.2.2.1 | exact h0.2.2.2.2.2.2.2.2) (by rfl) ?_
    refine m_if_le (tgt := 39) dX8_set_34 (by decide) (t1) (fun c_34 => ?_) (fun c_34 => ?_)
    · exact absurd c_34 (by decide)
    · refine j_iconst (v := 0) dX8_set_37 (by decide) ?_
      refine j_iret dX8_set_38 rfl (rfl) (by decide) (by decide) ?_
      exact mC.thr 0 (by show e_set t w = 1; unfold e_set; exact (if_pos (fun z9 => c_9 z9.1))) a1 t1 rfl h1
  · refine j_iload_n dX8_set_12 rfl ?_
    refine j_iconst (v := 0) dX8_set_13 (by decide) ?_
    refine j_bipush (v := 20) dX8_set_14 (by decide) ?_
    refine j_cSi dX8_set_16 hB mo_X8_within ml_X8_38 (sp_X8_within hB  (iV) (iC 0 (by decide)) (iC 20 (by decide))) rfl rfl ⟨rfl, rfl, by decide, by decide⟩ (Nat.le_of_ble_eq_true rfl) ⟨by decide, by decide⟩ (fun r_16 V_16 h_16 => ?_)
    obtain ⟨rfl, b_16⟩ := h_16
    replace b_16 : bQ _ (inR w 0 20) := b_16.cg (by omega)
    refine m_ifeqB (tgt := 26) dX8_set_19 (by decide) b_16 (fun c_19 => ?_) (fun c_19 => ?_)
    · refine j_iconst (v := 1) dX8_set_26 (by decide) ?_
      refine j_puti dX8_set_27 hB fp_X8_set_34 (by first | exact h0.1 | exact h0.2.1 | exact h0.2.2.1 | exact h0.2.2.2.1 | exact h0.2.2.2.2.1 | exact h0.2.2.2.2.2.1 | exact h0.2.2.2.2.2.2.1 | exact h0.2.2.2.2.2.2.2.1 | exact h0.2.2.2.2.2.2.2.2) (by rfl) ?_
      generalize hV1 : jset V q 0 1 = V1
      have t1 : isI (V1 q 0) 1 := by rw [← hV1, jset_eq]; decide
      have a1 : jAg V V1 q (q + 9) := by rw [← hV1]; exact jAg.rf.set (by omega) (by omega)
      have h1 : moIs T V1 q x := by rw [← hV1]; exact h.f (by decide) (by decide)
      refine j_aload_n dX8_set_30 rfl ?_
      refine j_geti dX8_set_31 hB fl_X8_34 (by first | exact h0.1 | exact h0.2.1 | exact h0.2.2.1 | exact h0.2.2.2.1 | exact h0.2.2.2.2.1 | exact h0.2.2.2.2.2.1 | exact h0.2.2.2.2.2.2.1 | exact h0.2.2.2.2.2.2.2.1 | exact h0.2.2.2.2.2.2.2.2) (by rfl) ?_
      refine m_if_le (tgt := 39) dX8_set_34 (by decide) (t1) (fun c_34 => ?_) (fun c_34 => ?_)
      · exact absurd c_34 (by decide)
      · refine j_iconst (v := 0) dX8_set_37 (by decide) ?_
        refine j_iret dX8_set_38 rfl (rfl) (by decide) (by decide) ?_
        exact mC.thr 0 (by show e_set t w = 1; unfold e_set; exact (if_pos (fun z9 => c_19 z9.2))) a1 t1 rfl h1
    · refine j_iconst (v := 0) dX8_set_22 (by decide) ?_
      refine j_goto (tgt := 27) dX8_set_23 (by decide) ?_
      refine j_puti dX8_set_27 hB fp_X8_set_34 (by first | exact h0.1 | exact h0.2.1 | exact h0.2.2.1 | exact h0.2.2.2.1 | exact h0.2.2.2.2.1 | exact h0.2.2.2.2.2.1 | exact h0.2.2.2.2.2.2.1 | exact h0.2.2.2.2.2.2.2.1 | exact h0.2.2.2.2.2.2.2.2) (by rfl) ?_
      generalize hV1 : jset V q 0 0 = V1
      have t1 : isI (V1 q 0) 0 := by rw [← hV1, jset_eq]; decide
      have a1 : jAg V V1 q (q + 9) := by rw [← hV1]; exact jAg.rf.set (by omega) (by omega)
      have h1 : moIs T V1 q x := by rw [← hV1]; exact h.f (by decide) (by decide)
      refine j_aload_n dX8_set_30 rfl ?_
      refine j_geti dX8_set_31 hB fl_X8_34 (by first | exact h0.1 | exact h0.2.1 | exact h0.2.2.1 | exact h0.2.2.2.1 | exact h0.2.2.2.2.1 | exact h0.2.2.2.2.2.1 | exact h0.2.2.2.2.2.2.1 | exact h0.2.2.2.2.2.2.2.1 | exact h0.2.2.2.2.2.2.2.2) (by rfl) ?_
      refine m_if_le (tgt := 39) dX8_set_34 (by decide) (t1) (fun c_34 => ?_) (fun c_34 => ?_)
      · refine j_aload_n dX8_set_39 rfl ?_
        refine j_cVu dX8_set_40 hB mo_X8_save ml_X8_91 (sp_X8_save hB h0 h1 hW) (by first | exact h0.1 | exact h0.2.1 | exact h0.2.2.1 | exact h0.2.2.2.1 | exact h0.2.2.2.2.1 | exact h0.2.2.2.2.2.1 | exact h0.2.2.2.2.2.2.1 | exact h0.2.2.2.2.2.2.2.1 | exact h0.2.2.2.2.2.2.2.2) rfl rfl rfl rfl ⟨rfl, rfl, by decide, by decide⟩ (Nat.le_of_ble_eq_true rfl) ⟨by decide, by decide⟩ (fun V_40 h_40 => ?_)
        obtain ⟨hS, eS, tS, aS, xS⟩ := h_40
        have ht9 : isI (V_40 (q + 1) 226) x.1.2.2.1.toInt := congrArg Int32.toInt hS.2.1.2.2.2.2.1
        have hl9 : isI (V_40 (q + 1) 227) x.1.2.2.2.toInt := congrArg Int32.toInt hS.2.1.2.2.2.2.2
        refine j_bipush (v := 100) dX8_set_43 (by decide) ?_
        refine j_aload_n dX8_set_45 rfl ?_
        refine j_getr dX8_set_46 hB fl_X8_7 (by first | exact h0.1 | exact h0.2.1 | exact h0.2.2.1 | exact h0.2.2.2.1 | exact h0.2.2.2.2.1 | exact h0.2.2.2.2.2.1 | exact h0.2.2.2.2.2.2.1 | exact h0.2.2.2.2.2.2.2.1 | exact h0.2.2.2.2.2.2.2.2) (by rfl) ?_
        refine j_sipush (v := 226) dX8_set_49 (by decide) ?_
        refine m_iald (k := 226) dX8_set_52 hB (by first | exact h0.1 | exact h0.2.1 | exact h0.2.2.1 | exact h0.2.2.2.1 | exact h0.2.2.2.2.1 | exact h0.2.2.2.2.2.1 | exact h0.2.2.2.2.2.2.1 | exact h0.2.2.2.2.2.2.2.1 | exact h0.2.2.2.2.2.2.2.2) (ixk (iC 226 (by decide)) (by omega)) (by omega) ?_
        refine j_imul dX8_set_53 ?_
        refine j_aload_n dX8_set_54 rfl ?_
        refine j_getr dX8_set_55 hB fl_X8_7 (by first | exact h0.1 | exact h0.2.1 | exact h0.2.2.1 | exact h0.2.2.2.1 | exact h0.2.2.2.2.1 | exact h0.2.2.2.2.2.1 | exact h0.2.2.2.2.2.2.1 | exact h0.2.2.2.2.2.2.2.1 | exact h0.2.2.2.2.2.2.2.2) (by rfl) ?_
        refine j_sipush (v := 227) dX8_set_58 (by decide) ?_
        refine m_iald (k := 227) dX8_set_61 hB (by first | exact h0.1 | exact h0.2.1 | exact h0.2.2.1 | exact h0.2.2.2.1 | exact h0.2.2.2.2.1 | exact h0.2.2.2.2.2.1 | exact h0.2.2.2.2.2.2.1 | exact h0.2.2.2.2.2.2.2.1 | exact h0.2.2.2.2.2.2.2.2) (ixk (iC 227 (by decide)) (by omega)) (by omega) ?_
        refine j_iadd dX8_set_62 ?_
        refine j_istore_n (L' := [(0, _), (1, _), (2, _), (3, _)]) dX8_set_63 (by decide) rfl ?_
        refine j_aload_n dX8_set_64 rfl ?_
        refine j_getr dX8_set_65 hB fl_X8_7 (by first | exact h0.1 | exact h0.2.1 | exact h0.2.2.1 | exact h0.2.2.2.1 | exact h0.2.2.2.2.1 | exact h0.2.2.2.2.2.1 | exact h0.2.2.2.2.2.2.1 | exact h0.2.2.2.2.2.2.2.1 | exact h0.2.2.2.2.2.2.2.2) (by rfl) ?_
        refine j_sipush (v := 226) dX8_set_68 (by decide) ?_
        refine j_iload_n dX8_set_71 rfl ?_
        refine m_iast (k := 226) dX8_set_72 hB (by first | exact h0.1 | exact h0.2.1 | exact h0.2.2.1 | exact h0.2.2.2.1 | exact h0.2.2.2.2.1 | exact h0.2.2.2.2.2.1 | exact h0.2.2.2.2.2.2.1 | exact h0.2.2.2.2.2.2.2.1 | exact h0.2.2.2.2.2.2.2.2) (ixk (iC 226 (by decide)) (by omega)) (by omega) ?_
        refine j_aload_n dX8_set_73 rfl ?_
        refine j_getr dX8_set_74 hB fl_X8_7 (by first | exact h0.1 | exact h0.2.1 | exact h0.2.2.1 | exact h0.2.2.2.1 | exact h0.2.2.2.2.1 | exact h0.2.2.2.2.2.1 | exact h0.2.2.2.2.2.2.1 | exact h0.2.2.2.2.2.2.2.1 | exact h0.2.2.2.2.2.2.2.2) (by rfl) ?_
        refine j_sipush (v := 227) dX8_set_77 (by decide) ?_
        refine j_iload_n dX8_set_80 rfl ?_
        refine m_iast (k := 227) dX8_set_81 hB (by first | exact h0.1 | exact h0.2.1 | exact h0.2.2.1 | exact h0.2.2.2.1 | exact h0.2.2.2.2.1 | exact h0.2.2.2.2.2.1 | exact h0.2.2.2.2.2.2.1 | exact h0.2.2.2.2.2.2.2.1 | exact h0.2.2.2.2.2.2.2.2) (ixk (iC 227 (by decide)) (by omega)) (by omega) ?_
        generalize hV3 : jset (jset V_40 (q + 1) 226 t) (q + 1) 227 w = V3
        have a3 : jAg V_40 V3 (q + 1) (q + 2) := by rw [← hV3]; exact (jAg.rf.set (by omega) (by omega)).set (by omega) (by omega)
        have e9 : ∀ i, i < 226 → V3 (q + 1) i = V_40 (q + 1) i := fun i hi => by rw [← hV3, jset_ne (Or.inr (by omega)), jset_ne (Or.inr (by omega))]
        have h3 : moIs T V3 q (s_set x t w) := hS.z a3 (by
          obtain ⟨g1, g2, g3, g4, g5, g6⟩ := hS.2.1
          exact ⟨g1.cg (hW.1.n 0) (fun i _ h9 => e9 i (by omega)), g2.cg (hW.1.n 1) (fun i _ h9 => e9 i (by omega)), g3.cg (hW.1.n 2) (fun i _ h9 => e9 i (by omega)), g4.cg hW.1.2.2.1 (fun i _ h9 => e9 i (by omega)), by rw [← hV3, jset_ne (Or.inr (by omega)), jset_eq], by rw [← hV3, jset_eq]⟩)
        refine j_iload_n dX8_set_82 rfl ?_
        refine j_iret dX8_set_83 rfl (rfl) (by decide) (by decide) ?_
        exact mC.ret (by show e_set t w = 0; unfold e_set; exact (if_neg (fun z => z ⟨c_9, c_19⟩))) ((a1.tr aS).tr (a3.wide (by omega) (by omega))) (by rw [a3 q (by omega), tS]; exact t1) (ixz (iA (iM (iC 100 (by decide)) (ht9) (by omega)) (hl9) (by omega)) (by unfold v_set; omega)) h3
      · exact absurd c_34 (by decide)
set_option maxRecDepth 100000 in
set_option maxHeartbeats 4000000 in
theorem sp_X8_append (hB : jB l s0 D) {q : Nat} (h0 : moT T q) {x : aX} (h : moIs T V q x) (hW : xW x) {c : Int32} : Sp l s0 D kX8_append (jR 1 0 0) 0 0 [.ref q, .int c] T V X sz (mC T V X sz q (e_app x c) (fun y => isI y (v_app x)) x (s_app x c)) := by
  refine Sp.of pn_X8_append rfl (Nat.le_of_ble_eq_true rfl) ?_
  have hln : isI (V q 4) x.2.2.length := h.2.2.2.1
  have h60 := hW.2.2.2.1
  refine j_aload_n dX8_append_0 rfl ?_
  refine j_iload_n dX8_append_1 rfl ?_
  refine j_bipush (v := 33) dX8_append_2 (by decide) ?_
  refine j_bipush (v := 126) dX8_append_4 (by decide) ?_
  refine j_cSi dX8_append_6 hB mo_X8_within ml_X8_38 (sp_X8_within hB  (iV) (iC 33 (by decide)) (iC 126 (by decide))) rfl rfl ⟨rfl, rfl, by decide, by decide⟩ (Nat.le_of_ble_eq_true rfl) ⟨by decide, by decide⟩ (fun r_6 V_6 h_6 => ?_)
  obtain ⟨rfl, b_6⟩ := h_6
  replace b_6 : bQ _ (inR c 33 126) := b_6.cg (by omega)
  refine m_ifneB (tgt := 16) dX8_append_9 (by decide) b_6 (fun c_9 => ?_) (fun c_9 => ?_)
  · refine j_aload_n dX8_append_16 rfl ?_
    refine j_geti dX8_append_17 hB fl_X8_119 (by first | exact h0.1 | exact h0.2.1 | exact h0.2.2.1 | exact h0.2.2.2.1 | exact h0.2.2.2.2.1 | exact h0.2.2.2.2.2.1 | exact h0.2.2.2.2.2.2.1 | exact h0.2.2.2.2.2.2.2.1 | exact h0.2.2.2.2.2.2.2.2) (by rfl) ?_
    refine j_bipush (v := 60) dX8_append_20 (by decide) ?_
    refine m_icmp_ne (tgt := 29) dX8_append_22 (by decide) (hln) (iC 60 (by decide)) (fun c_22 => ?_) (fun c_22 => ?_)
    · refine j_iconst (v := 0) dX8_append_29 (by decide) ?_
      refine j_puti dX8_append_30 hB fp_X8_append_34 (by first | exact h0.1 | exact h0.2.1 | exact h0.2.2.1 | exact h0.2.2.2.1 | exact h0.2.2.2.2.1 | exact h0.2.2.2.2.2.1 | exact h0.2.2.2.2.2.2.1 | exact h0.2.2.2.2.2.2.2.1 | exact h0.2.2.2.2.2.2.2.2) (by rfl) ?_
      generalize hV1 : jset V q 0 0 = V1
      have t1 : isI (V1 q 0) 0 := by rw [← hV1, jset_eq]; decide
      have a1 : jAg V V1 q (q + 9) := by rw [← hV1]; exact jAg.rf.set (by omega) (by omega)
      have h1 : moIs T V1 q x := by rw [← hV1]; exact h.f (by decide) (by decide)
      refine j_aload_n dX8_append_33 rfl ?_
      refine j_geti dX8_append_34 hB fl_X8_34 (by first | exact h0.1 | exact h0.2.1 | exact h0.2.2.1 | exact h0.2.2.2.1 | exact h0.2.2.2.2.1 | exact h0.2.2.2.2.2.1 | exact h0.2.2.2.2.2.2.1 | exact h0.2.2.2.2.2.2.2.1 | exact h0.2.2.2.2.2.2.2.2) (by rfl) ?_
      refine m_if_le (tgt := 42) dX8_append_37 (by decide) (t1) (fun c_37 => ?_) (fun c_37 => ?_)
      · have hl1 : isI (V1 q 4) x.2.2.length := h1.2.2.2.1
        refine j_aload_n dX8_append_42 rfl ?_
        refine j_getr dX8_append_43 hB fl_X8_16 (by first | exact h0.1 | exact h0.2.1 | exact h0.2.2.1 | exact h0.2.2.2.1 | exact h0.2.2.2.2.1 | exact h0.2.2.2.2.2.1 | exact h0.2.2.2.2.2.2.1 | exact h0.2.2.2.2.2.2.2.1 | exact h0.2.2.2.2.2.2.2.2) (by rfl) ?_
        refine j_aload_n dX8_append_46 rfl ?_
        refine j_geti dX8_append_47 hB fl_X8_119 (by first | exact h0.1 | exact h0.2.1 | exact h0.2.2.1 | exact h0.2.2.2.1 | exact h0.2.2.2.2.1 | exact h0.2.2.2.2.2.1 | exact h0.2.2.2.2.2.2.1 | exact h0.2.2.2.2.2.2.2.1 | exact h0.2.2.2.2.2.2.2.2) (by rfl) ?_
        refine j_iload_n dX8_append_50 rfl ?_
        refine m_iast (k := x.2.2.length) dX8_append_51 hB (by first | exact h0.1 | exact h0.2.1 | exact h0.2.2.1 | exact h0.2.2.2.1 | exact h0.2.2.2.2.1 | exact h0.2.2.2.2.2.1 | exact h0.2.2.2.2.2.2.1 | exact h0.2.2.2.2.2.2.2.1 | exact h0.2.2.2.2.2.2.2.2) (ixk (hl1) (by omega)) (by omega) ?_
        generalize hV2 : jset V1 (q + 3) x.2.2.length c = V2
        have hl2 : isI (V2 q 4) x.2.2.length := by rw [← hV2, jset_row (by omega)]; exact hl1
        refine j_aload_n dX8_append_52 rfl ?_
        refine j_dup dX8_append_53 rfl ?_
        refine j_geti dX8_append_54 hB fl_X8_119 (by first | exact h0.1 | exact h0.2.1 | exact h0.2.2.1 | exact h0.2.2.2.1 | exact h0.2.2.2.2.1 | exact h0.2.2.2.2.2.1 | exact h0.2.2.2.2.2.2.1 | exact h0.2.2.2.2.2.2.2.1 | exact h0.2.2.2.2.2.2.2.2) (by rfl) ?_
        refine j_iconst (v := 1) dX8_append_57 (by decide) ?_
        refine j_iadd dX8_append_58 ?_
        refine j_puti dX8_append_59 hB fp_X8_append_119 (by first | exact h0.1 | exact h0.2.1 | exact h0.2.2.1 | exact h0.2.2.2.1 | exact h0.2.2.2.2.1 | exact h0.2.2.2.2.2.1 | exact h0.2.2.2.2.2.2.1 | exact h0.2.2.2.2.2.2.2.1 | exact h0.2.2.2.2.2.2.2.2) (by rfl) ?_
        generalize hV3 : jset V2 q 4 (V2 q 4 + 1) = V3
        have a3 : jAg V1 V3 q (q + 9) := by rw [← hV3, ← hV2]; exact (jAg.rf.set (by omega) (by omega)).set (by omega) (by omega)
        have hl3 : isI (V3 q 4) (x.2.2.length + 1) := by rw [← hV3, jset_eq]; exact iA hl2 (iC 1 (by decide)) (by omega)
        have e0 : ∀ {k : Nat}, V3 q 0 = V1 q 0 := fun {_} => by rw [← hV3, jset_ne (Or.inr (by omega)), ← hV2, jset_row (by omega)]
        have e0 := e0 (k := 0)
        have h3 : moIs T V3 q (s_app x c) := by
          obtain ⟨g1, g2, g3, g4, g5⟩ := h1
          have e1 : V3 (q + 1) = V1 (q + 1) := by rw [← hV3, jset_row (by omega), ← hV2, jset_row (by omega)]
          have e2 : V3 (q + 2) = V1 (q + 2) := by rw [← hV3, jset_row (by omega), ← hV2, jset_row (by omega)]
          have e3 : ∀ i, V3 (q + 3) i = if i = x.2.2.length then c else V1 (q + 3) i := fun i => by
            rw [← hV3, jset_row (by omega), ← hV2]
            by_cases z9 : i = x.2.2.length
            · rw [z9, jset_eq, if_pos rfl]
            · rw [jset_ne (Or.inr z9), if_neg z9]
          have e4 : V3 q 2 = V1 q 2 := by rw [← hV3, jset_ne (Or.inr (by omega)), ← hV2, jset_row (by omega)]
          refine ⟨g1, by rw [e1]; exact g2, by rw [e2, e4]; exact g3, ?_, fun k d hk => ?_⟩
          · show (V3 q 4).toInt = ((x.2.2 ++ [c]).length : Nat)
            rw [hl3, List.length_append]; rfl
          · have hk : (x.2.2 ++ [c])[k]? = some d := hk
            rw [e3]
            by_cases z9 : k < x.2.2.length
            · rw [if_neg (by omega)]
              rw [List.getElem?_append_left z9] at hk
              exact g5 k d hk
            · have z8 : k < (x.2.2 ++ [c]).length := (List.getElem?_eq_some_iff.mp hk).1
              rw [List.length_append] at z8
              have z8 : k < x.2.2.length + 1 := z8
              have : k = x.2.2.length := by omega
              subst this
              rw [List.getElem?_append_right (Nat.le_refl _), Nat.sub_self] at hk
              rw [if_pos rfl]
              exact Option.some.inj hk
        refine j_aload_n dX8_append_62 rfl ?_
        refine j_geti dX8_append_63 hB fl_X8_119 (by first | exact h0.1 | exact h0.2.1 | exact h0.2.2.1 | exact h0.2.2.2.1 | exact h0.2.2.2.2.1 | exact h0.2.2.2.2.2.1 | exact h0.2.2.2.2.2.2.1 | exact h0.2.2.2.2.2.2.2.1 | exact h0.2.2.2.2.2.2.2.2) (by rfl) ?_
        refine j_iret dX8_append_66 rfl (rfl) (by decide) (by decide) ?_
        exact mC.ret (by show e_app x c = 0; unfold e_app; exact ((if_neg (fun z => z c_9)).trans (if_neg (by omega)))) (a1.tr a3) (by rw [e0]; exact t1) (ixz (hl3) (by unfold v_app; omega)) h3
      · exact absurd c_37 (by decide)
    · refine j_iconst (v := 2) dX8_append_25 (by decide) ?_
      refine j_goto (tgt := 30) dX8_append_26 (by decide) ?_
      refine j_puti dX8_append_30 hB fp_X8_append_34 (by first | exact h0.1 | exact h0.2.1 | exact h0.2.2.1 | exact h0.2.2.2.1 | exact h0.2.2.2.2.1 | exact h0.2.2.2.2.2.1 | exact h0.2.2.2.2.2.2.1 | exact h0.2.2.2.2.2.2.2.1 | exact h0.2.2.2.2.2.2.2.2) (by rfl) ?_
      generalize hV1 : jset V q 0 2 = V1
      have t1 : isI (V1 q 0) 2 := by rw [← hV1, jset_eq]; decide
      have a1 : jAg V V1 q (q + 9) := by rw [← hV1]; exact jAg.rf.set (by omega) (by omega)
      have h1 : moIs T V1 q x := by rw [← hV1]; exact h.f (by decide) (by decide)
      refine j_aload_n dX8_append_33 rfl ?_
      refine j_geti dX8_append_34 hB fl_X8_34 (by first | exact h0.1 | exact h0.2.1 | exact h0.2.2.1 | exact h0.2.2.2.1 | exact h0.2.2.2.2.1 | exact h0.2.2.2.2.2.1 | exact h0.2.2.2.2.2.2.1 | exact h0.2.2.2.2.2.2.2.1 | exact h0.2.2.2.2.2.2.2.2) (by rfl) ?_
      refine m_if_le (tgt := 42) dX8_append_37 (by decide) (t1) (fun c_37 => ?_) (fun c_37 => ?_)
      · exact absurd c_37 (by decide)
      · refine j_iconst (v := 0) dX8_append_40 (by decide) ?_
        refine j_iret dX8_append_41 rfl (rfl) (by decide) (by decide) ?_
        exact mC.thr 1 (by show e_app x c = 2; unfold e_app; exact ((if_neg (fun z => z c_9)).trans (if_pos (by omega)))) a1 t1 rfl h1
  · refine j_iconst (v := 1) dX8_append_12 (by decide) ?_
    refine j_goto (tgt := 30) dX8_append_13 (by decide) ?_
    refine j_puti dX8_append_30 hB fp_X8_append_34 (by first | exact h0.1 | exact h0.2.1 | exact h0.2.2.1 | exact h0.2.2.2.1 | exact h0.2.2.2.2.1 | exact h0.2.2.2.2.2.1 | exact h0.2.2.2.2.2.2.1 | exact h0.2.2.2.2.2.2.2.1 | exact h0.2.2.2.2.2.2.2.2) (by rfl) ?_
    generalize hV1 : jset V q 0 1 = V1
    have t1 : isI (V1 q 0) 1 := by rw [← hV1, jset_eq]; decide
    have a1 : jAg V V1 q (q + 9) := by rw [← hV1]; exact jAg.rf.set (by omega) (by omega)
    have h1 : moIs T V1 q x := by rw [← hV1]; exact h.f (by decide) (by decide)
    refine j_aload_n dX8_append_33 rfl ?_
    refine j_geti dX8_append_34 hB fl_X8_34 (by first | exact h0.1 | exact h0.2.1 | exact h0.2.2.1 | exact h0.2.2.2.1 | exact h0.2.2.2.2.1 | exact h0.2.2.2.2.2.1 | exact h0.2.2.2.2.2.2.1 | exact h0.2.2.2.2.2.2.2.1 | exact h0.2.2.2.2.2.2.2.2) (by rfl) ?_
    refine m_if_le (tgt := 42) dX8_append_37 (by decide) (t1) (fun c_37 => ?_) (fun c_37 => ?_)
    · exact absurd c_37 (by decide)
    · refine j_iconst (v := 0) dX8_append_40 (by decide) ?_
      refine j_iret dX8_append_41 rfl (rfl) (by decide) (by decide) ?_
      exact mC.thr 0 (by show e_app x c = 1; unfold e_app; exact (if_pos c_9)) a1 t1 rfl h1
set_option maxRecDepth 100000 in
set_option maxHeartbeats 4000000 in
theorem sp_X8_clearBuffer (hB : jB l s0 D) {q : Nat} (h0 : moT T q) {x : aX} (h : moIs T V q x) (hW : xW x)  : Sp l s0 D kX8_clearBuffer (jR 0 0 0) 0 0 [.ref q] T V X sz (mC T V X sz q (0) (fun y => isI y (x.2.2.length)) x (s_clr x)) := by
  refine Sp.of pn_X8_clearBuffer rfl (Nat.le_of_ble_eq_true rfl) ?_
  refine j_aload_n dX8_clearBuffer_0 rfl ?_
  refine j_iconst (v := 0) dX8_clearBuffer_1 (by decide) ?_
  refine j_puti dX8_clearBuffer_2 hB fp_X8_clearBuffer_34 (by first | exact h0.1 | exact h0.2.1 | exact h0.2.2.1 | exact h0.2.2.2.1 | exact h0.2.2.2.2.1 | exact h0.2.2.2.2.2.1 | exact h0.2.2.2.2.2.2.1 | exact h0.2.2.2.2.2.2.2.1 | exact h0.2.2.2.2.2.2.2.2) (by rfl) ?_
  generalize hV1 : jset V q 0 0 = V1
  have t1 : isI (V1 q 0) 0 := by rw [← hV1, jset_eq]; decide
  have a1 : jAg V V1 q (q + 9) := by rw [← hV1]; exact jAg.rf.set (by omega) (by omega)
  have h1 : moIs T V1 q x := by rw [← hV1]; exact h.f (by decide) (by decide)
  have hl1 : isI (V1 q 4) x.2.2.length := h1.2.2.2.1
  refine j_aload_n dX8_clearBuffer_5 rfl ?_
  refine j_geti dX8_clearBuffer_6 hB fl_X8_119 (by first | exact h0.1 | exact h0.2.1 | exact h0.2.2.1 | exact h0.2.2.2.1 | exact h0.2.2.2.2.1 | exact h0.2.2.2.2.2.1 | exact h0.2.2.2.2.2.2.1 | exact h0.2.2.2.2.2.2.2.1 | exact h0.2.2.2.2.2.2.2.2) (by rfl) ?_
  refine j_istore_n (L' := [(0, _), (1, _)]) dX8_clearBuffer_9 (by decide) rfl ?_
  refine j_aload_n dX8_clearBuffer_10 rfl ?_
  refine j_iconst (v := 0) dX8_clearBuffer_11 (by decide) ?_
  refine j_puti dX8_clearBuffer_12 hB fp_X8_clearBuffer_119 (by first | exact h0.1 | exact h0.2.1 | exact h0.2.2.1 | exact h0.2.2.2.1 | exact h0.2.2.2.2.1 | exact h0.2.2.2.2.2.1 | exact h0.2.2.2.2.2.2.1 | exact h0.2.2.2.2.2.2.2.1 | exact h0.2.2.2.2.2.2.2.2) (by rfl) ?_
  refine j_iload_n dX8_clearBuffer_15 rfl ?_
  refine j_iret dX8_clearBuffer_16 rfl (rfl) (by decide) (by decide) ?_
  refine mC.ret rfl (a1.tr (jAg.rf.set (by omega) (by omega))) (by rw [jset_ne (Or.inr (by omega))]; exact t1) hl1 ?_
  obtain ⟨g1, g2, g3, g4, g5⟩ := h1
  have e2 : jset V1 q 4 0 q 2 = V1 q 2 := jset_ne (Or.inr (by omega))
  have r1 : jset V1 q 4 0 (q + 1) = V1 (q + 1) := jset_row (by omega)
  have r2 : jset V1 q 4 0 (q + 2) = V1 (q + 2) := jset_row (by omega)
  exact ⟨g1, by rw [r1]; exact g2, by rw [r2, e2]; exact g3, by rw [jset_eq]; rfl, fun k d hk => by cases hk⟩
set_option maxRecDepth 100000 in
set_option maxHeartbeats 4000000 in
theorem sp_X8_undo (hB : jB l s0 D) {q : Nat} (h0 : moT T q) {x : aX} (h : moIs T V q x) (hW : xW x)  : Sp l s0 D kX8_undo (jR 0 0 0) 0 0 [.ref q] T V X sz (mC T V X sz q (e_undo x) (fun y => isI y (v_undo x)) x (s_undo x)) := by
  refine Sp.of pn_X8_undo rfl (Nat.le_of_ble_eq_true rfl) ?_
  have hsv : isI (V q 2) x.2.1.length := h.2.2.1.1
  have hn6 := hW.2.2.1
  refine j_aload_n dX8_undo_0 rfl ?_
  refine j_aload_n dX8_undo_1 rfl ?_
  refine j_geti dX8_undo_2 hB fl_X8_88 (by first | exact h0.1 | exact h0.2.1 | exact h0.2.2.1 | exact h0.2.2.2.1 | exact h0.2.2.2.2.1 | exact h0.2.2.2.2.2.1 | exact h0.2.2.2.2.2.2.1 | exact h0.2.2.2.2.2.2.2.1 | exact h0.2.2.2.2.2.2.2.2) (by rfl) ?_
  refine m_if_le (tgt := 12) dX8_undo_5 (by decide) (hsv) (fun c_5 => ?_) (fun c_5 => ?_)
  · refine j_iconst (v := 1) dX8_undo_12 (by decide) ?_
    refine j_puti dX8_undo_13 hB fp_X8_undo_34 (by first | exact h0.1 | exact h0.2.1 | exact h0.2.2.1 | exact h0.2.2.2.1 | exact h0.2.2.2.2.1 | exact h0.2.2.2.2.2.1 | exact h0.2.2.2.2.2.2.1 | exact h0.2.2.2.2.2.2.2.1 | exact h0.2.2.2.2.2.2.2.2) (by rfl) ?_
    generalize hV1 : jset V q 0 1 = V1
    have t1 : isI (V1 q 0) 1 := by rw [← hV1, jset_eq]; decide
    have a1 : jAg V V1 q (q + 9) := by rw [← hV1]; exact jAg.rf.set (by omega) (by omega)
    have h1 : moIs T V1 q x := by rw [← hV1]; exact h.f (by decide) (by decide)
    refine j_aload_n dX8_undo_16 rfl ?_
    refine j_geti dX8_undo_17 hB fl_X8_34 (by first | exact h0.1 | exact h0.2.1 | exact h0.2.2.1 | exact h0.2.2.2.1 | exact h0.2.2.2.2.1 | exact h0.2.2.2.2.2.1 | exact h0.2.2.2.2.2.2.1 | exact h0.2.2.2.2.2.2.2.1 | exact h0.2.2.2.2.2.2.2.2) (by rfl) ?_
    refine m_if_le (tgt := 25) dX8_undo_20 (by decide) (t1) (fun c_20 => ?_) (fun c_20 => ?_)
    · exact absurd c_20 (by decide)
    · refine j_iconst (v := 0) dX8_undo_23 (by decide) ?_
      refine j_iret dX8_undo_24 rfl (rfl) (by decide) (by decide) ?_
      exact mC.thr 0 (by show e_undo x = 1; unfold e_undo; exact (if_pos (by omega))) a1 t1 rfl h1
  · refine j_iconst (v := 0) dX8_undo_8 (by decide) ?_
    refine j_goto (tgt := 13) dX8_undo_9 (by decide) ?_
    refine j_puti dX8_undo_13 hB fp_X8_undo_34 (by first | exact h0.1 | exact h0.2.1 | exact h0.2.2.1 | exact h0.2.2.2.1 | exact h0.2.2.2.2.1 | exact h0.2.2.2.2.2.1 | exact h0.2.2.2.2.2.2.1 | exact h0.2.2.2.2.2.2.2.1 | exact h0.2.2.2.2.2.2.2.2) (by rfl) ?_
    generalize hV1 : jset V q 0 0 = V1
    have t1 : isI (V1 q 0) 0 := by rw [← hV1, jset_eq]; decide
    have a1 : jAg V V1 q (q + 9) := by rw [← hV1]; exact jAg.rf.set (by omega) (by omega)
    have h1 : moIs T V1 q x := by rw [← hV1]; exact h.f (by decide) (by decide)
    refine j_aload_n dX8_undo_16 rfl ?_
    refine j_geti dX8_undo_17 hB fl_X8_34 (by first | exact h0.1 | exact h0.2.1 | exact h0.2.2.1 | exact h0.2.2.2.1 | exact h0.2.2.2.2.1 | exact h0.2.2.2.2.2.1 | exact h0.2.2.2.2.2.2.1 | exact h0.2.2.2.2.2.2.2.1 | exact h0.2.2.2.2.2.2.2.2) (by rfl) ?_
    refine m_if_le (tgt := 25) dX8_undo_20 (by decide) (t1) (fun c_20 => ?_) (fun c_20 => ?_)
    · have hs1 : isI (V1 q 2) x.2.1.length := h1.2.2.1.1
      refine j_aload_n dX8_undo_25 rfl ?_
      refine j_dup dX8_undo_26 rfl ?_
      refine j_geti dX8_undo_27 hB fl_X8_88 (by first | exact h0.1 | exact h0.2.1 | exact h0.2.2.1 | exact h0.2.2.2.1 | exact h0.2.2.2.2.1 | exact h0.2.2.2.2.2.1 | exact h0.2.2.2.2.2.2.1 | exact h0.2.2.2.2.2.2.2.1 | exact h0.2.2.2.2.2.2.2.2) (by rfl) ?_
      refine j_iconst (v := 1) dX8_undo_30 (by decide) ?_
      refine j_isub dX8_undo_31 ?_
      refine j_puti dX8_undo_32 hB fp_X8_undo_88 (by first | exact h0.1 | exact h0.2.1 | exact h0.2.2.1 | exact h0.2.2.2.1 | exact h0.2.2.2.2.1 | exact h0.2.2.2.2.2.1 | exact h0.2.2.2.2.2.2.1 | exact h0.2.2.2.2.2.2.2.1 | exact h0.2.2.2.2.2.2.2.2) (by rfl) ?_
      generalize hV2 : jset V1 q 2 (V1 q 2 - 1) = V2
      have hs2 : isI (V2 q 2) ((x.2.1.length - 1 : Nat) : Int) := by rw [← hV2, jset_eq]; exact ixz (iS hs1 (iC 1 (by decide)) (by omega)) (by omega)
      have ho2 : ∀ a : Nat, ¬ a = q → V2 a = V a := fun a h9 => by rw [← hV2, jset_row h9, ← hV1, jset_row h9]
      have hr2 : V2 (q + 2) = V (q + 2) := ho2 _ (by omega)
      have hf2 : ∀ k : Nat, ¬ k = 2 → ¬ k = 0 → V2 q k = V q k := fun k h8 h9 => by rw [← hV2, jset_ne (Or.inr h8), ← hV1, jset_ne (Or.inr h9)]
      have t2 : isI (V2 q 0) 0 := by rw [← hV2, jset_ne (Or.inr (by omega))]; exact t1
      refine j_iconst (v := 0) dX8_undo_35 (by decide) ?_
      refine j_istore_n (L' := [(0, _), (1, _)]) dX8_undo_36 (by decide) rfl ?_
      have loop : ∀ (n k : Nat) (i : Int32) (V3 : jV), k + n = 231 → i.toInt = k → (∀ a : Nat, ¬ a = q + 1 → V3 a = V2 a) → (∀ j : Nat, j < k → V3 (q + 1) j = V (q + 2) (231 * (x.2.1.length - 1) + j)) → J l s0 D kX8_undo (jR 0 0 0) 0 0 (mC T V X sz q (e_undo x) (fun y => isI y (v_undo x)) x (s_undo x)) 37 [(0, .ref q), (1, .int i)] [] T V3 X sz 0 0 := by
        intro n
        refine Nat.strongRecOn n ?_
        clear n
        intro n ih k i V3 hn hi ha h3
        have hs3 : isI (V3 q 2) ((x.2.1.length - 1 : Nat) : Int) := by rw [ha q (by omega)]; exact hs2
        have hr3 : V3 (q + 2) = V (q + 2) := by rw [ha (q + 2) (by omega)]; exact hr2
        refine j_iload_n dX8_undo_37 rfl ?_
        refine j_sipush (v := 231) dX8_undo_38 (by decide) ?_
        refine m_icmp_ge (tgt := 71) dX8_undo_41 (by decide) (hi) (iC 231 (by decide)) (fun c_41 => ?_) (fun c_41 => ?_)
        · refine j_aload_n dX8_undo_71 rfl ?_
          refine j_geti dX8_undo_72 hB fl_X8_88 (by first | exact h0.1 | exact h0.2.1 | exact h0.2.2.1 | exact h0.2.2.2.1 | exact h0.2.2.2.2.1 | exact h0.2.2.2.2.2.1 | exact h0.2.2.2.2.2.2.1 | exact h0.2.2.2.2.2.2.2.1 | exact h0.2.2.2.2.2.2.2.2) (by rfl) ?_
          refine j_iret dX8_undo_75 rfl (rfl) (by decide) (by decide) ?_
          have hk : k = 231 := by omega
          subst hk
          have f4 : V3 q 4 = V q 4 := by rw [ha q (by omega)]; exact hf2 4 (by omega) (by omega)
          have f0 : isI (V3 q 0) 0 := by rw [ha q (by omega)]; exact t2
          have r3 : V3 (q + 3) = V (q + 3) := by rw [ha (q + 3) (by omega)]; exact ho2 _ (by omega)
          have ag : jAg V V3 q (q + 9) := fun a h9 => by rw [ha a (by omega)]; exact ho2 a (by omega)
          have hlast : x.2.1[x.2.1.length - 1]? = some (x.2.1.getLastD x.1) := by
            rw [List.getLastD_eq_getLast?, List.getLast?_eq_getElem?]
            rw [List.getElem?_eq_getElem (show x.2.1.length - 1 < x.2.1.length by omega)]
            rfl
          have hwl := hW.2.1 _ (List.mem_of_getElem? hlast)
          refine mC.ret (by show e_undo x = 0; unfold e_undo; exact (if_neg (by omega))) ag f0 (ixz (hs3) (by unfold v_undo; omega)) ⟨h.1, ?_, ⟨?_, fun k s hk => ?_⟩, by rw [f4]; exact h.2.2.2.1, by rw [r3]; exact h.2.2.2.2⟩
          · exact (h.2.2.1.2 _ _ hlast).cg hwl (fun i9 hi9 => h3 i9 hi9)
          · rw [hs3]
            show _ = ((x.2.1.dropLast.length : Nat) : Int)
            rw [List.length_dropLast]
          · have hk : x.2.1.dropLast[k]? = some s := hk
            rw [hr3]
            rw [List.getElem?_dropLast] at hk
            by_cases z9 : k < x.2.1.length - 1
            · rw [if_pos z9] at hk
              exact h.2.2.1.2 k s hk
            · rw [if_neg z9] at hk
              cases hk
        · refine j_aload_n dX8_undo_44 rfl ?_
          refine j_getr dX8_undo_45 hB fl_X8_7 (by first | exact h0.1 | exact h0.2.1 | exact h0.2.2.1 | exact h0.2.2.2.1 | exact h0.2.2.2.2.1 | exact h0.2.2.2.2.2.1 | exact h0.2.2.2.2.2.2.1 | exact h0.2.2.2.2.2.2.2.1 | exact h0.2.2.2.2.2.2.2.2) (by rfl) ?_
          refine j_iload_n dX8_undo_48 rfl ?_
          refine j_aload_n dX8_undo_49 rfl ?_
          refine j_getr dX8_undo_50 hB fl_X8_13 (by first | exact h0.1 | exact h0.2.1 | exact h0.2.2.1 | exact h0.2.2.2.1 | exact h0.2.2.2.2.1 | exact h0.2.2.2.2.2.1 | exact h0.2.2.2.2.2.2.1 | exact h0.2.2.2.2.2.2.2.1 | exact h0.2.2.2.2.2.2.2.2) (by rfl) ?_
          refine j_sipush (v := 231) dX8_undo_53 (by decide) ?_
          refine j_aload_n dX8_undo_56 rfl ?_
          refine j_geti dX8_undo_57 hB fl_X8_88 (by first | exact h0.1 | exact h0.2.1 | exact h0.2.2.1 | exact h0.2.2.2.1 | exact h0.2.2.2.2.1 | exact h0.2.2.2.2.2.1 | exact h0.2.2.2.2.2.2.1 | exact h0.2.2.2.2.2.2.2.1 | exact h0.2.2.2.2.2.2.2.2) (by rfl) ?_
          refine j_imul dX8_undo_60 ?_
          refine j_iload_n dX8_undo_61 rfl ?_
          refine j_iadd dX8_undo_62 ?_
          refine m_iald (k := 231 * ((x.2.1.length - 1)) + k) dX8_undo_63 hB (by first | exact h0.1 | exact h0.2.1 | exact h0.2.2.1 | exact h0.2.2.2.1 | exact h0.2.2.2.2.1 | exact h0.2.2.2.2.2.1 | exact h0.2.2.2.2.2.2.1 | exact h0.2.2.2.2.2.2.2.1 | exact h0.2.2.2.2.2.2.2.2) (ixk (iA (iM (iC 231 (by decide)) (hs3) (by omega)) (hi) (by omega)) (by omega)) (by omega) ?_
          refine m_iast (k := k) dX8_undo_64 hB (by first | exact h0.1 | exact h0.2.1 | exact h0.2.2.1 | exact h0.2.2.2.1 | exact h0.2.2.2.2.1 | exact h0.2.2.2.2.2.1 | exact h0.2.2.2.2.2.2.1 | exact h0.2.2.2.2.2.2.2.1 | exact h0.2.2.2.2.2.2.2.2) (ixk (hi) (by omega)) (by omega) ?_
          refine j_iinc (v := 1) (L' := [(0, _), (1, _)]) dX8_undo_65 rfl (by decide) (by decide) rfl ?_
          refine j_goto (tgt := 37) dX8_undo_68 (by decide) ?_
          refine ih (n - 1) (by omega) (k + 1) _ _ (by omega) ?_ ?_ ?_
          · exact (ixk (k := k + 1) (iA (hi) (iC 1 (by decide)) (by omega)) (by omega))
          · intro a h9; rw [jset_row h9]; exact ha a h9
          · intro j h9
            rcases Nat.lt_or_ge j k with g | g
            · rw [jset_ne (Or.inr (by omega))]; exact h3 j g
            · rw [show j = k by omega, jset_eq, hr3]
      refine loop 231 0 0 _ (by omega) rfl (fun a _ => rfl) (fun j h9 => absurd h9 (Nat.not_lt_zero _))
    · exact absurd c_20 (by decide)
end JM10
