/-! CueSheetsModel: a reel is laid out -/
def lyB (V : jV) (q : Nat) (r : aR) (w : Int) : Prop := (∀ k : Nat, k ≤ r.1.length → (V (q + 4) k).toInt = aBeg r w k) ∧ ∀ k : Nat, k < r.1.length → (V (q + 5) k).toInt = aLost r k
def lyP (V : jV) (q : Nat) (s : aS) (r : aR) (w : Int) (m : Nat) : Prop := lyB V q r w ∧ ∀ k : Nat, k < m → (V (q + 6) k).toInt = aCb s r w k ∧ (V (q + 7) k).toInt = aEnd s r w k
theorem lyP.le {V : jV} {q : Nat} {s : aS} {r : aR} {w : Int} {m m' : Nat} (h : lyP V q s r w m) (hm : m' ≤ m) : lyP V q s r w m' := ⟨h.1, fun k hk => h.2 k (by omega)⟩
theorem isCue_i {r : aR} {k : Nat} : isCue r k ↔ ¬ (atZ r.2.1 k).toInt = -2000001 := ⟨fun h e => h (ti_inj (by rw [e]; rfl)), fun h e => h (by rw [e]; rfl)⟩
theorem aMus_up {s : aS} {r : aR} (hp : pcW s) (h : rlW s r) {w : Int} {k : Nat} (hk : k < r.1.length) : aMus s r w k ≤ aMus s r w (k + 1) := by
  show _ ≤ cueI r k (max (aBeg r w k) (aMus s r w k) + aPlay s r k) (aMus s r w k)
  by_cases hc : isCue r k
  · rw [cueI_t hc]
    have := aPlay_rng hp h hk hc
    omega
  · rw [cueI_f hc]
    exact Int.le_refl _
theorem aEnd_c {s : aS} {r : aR} {w : Int} {k : Nat} (hc : isCue r k) : aEnd s r w k = aMus s r w (k + 1) := cueI_t hc
theorem aMus_n {s : aS} {r : aR} {w : Int} {k : Nat} (hc : ¬ isCue r k) : aMus s r w (k + 1) = aMus s r w k := cueI_f hc
theorem aMus_c {s : aS} {r : aR} {w : Int} {k : Nat} (hc : isCue r k) : aMus s r w (k + 1) = aCb s r w k + aPlay s r k := cueI_t hc
section JM2
variable {l : Launch} {s0 : State} {D : jD} {T : jT} {V : jV} {X : jX} {sz : Nat}
set_option maxRecDepth 100000 in
set_option maxHeartbeats 4000000 in
theorem sp_X8_layScenes (hB : jB l s0 D) {q : Nat} (h0 : moT T q) {r : Int32} {z : Nat} (hz : r.toInt = z) (z3 : z < 3) {x : aX} (h : moIs T V q x) (hW : stW x.1) {w : Int32} (hw : w.toInt = 0 ∨ 10 ≤ w.toInt) : Sp l s0 D kX8_layScenes (jR 2 0 0) 0 0 [.ref q, .int r, .int w] T V X sz (qU T X sz (fun V' => lyB V' q (xR x r) w.toInt ∧ jAg V V' (q + 4) (q + 6))) := by
  refine Sp.of pn_X8_layScenes rfl (Nat.le_of_ble_eq_true rfl) ?_
  have hr := h.r hz z3
  have hrl : rlW x.1 (xR x r) := hW.r _
  have h10 := hrl.2.2.2.1
  have hp := hW.1
  have outer : ∀ (n j : Nat) (i ft : Int32) (V1 : jV), j + n = (xR x r).1.length → i.toInt = j → ft.toInt = aFirst (xR x r) j → (∀ a : Nat, a ≤ j → (V1 (q + 4) a).toInt = aBeg (xR x r) w.toInt a) → (∀ a : Nat, a < j → (V1 (q + 5) a).toInt = aLost (xR x r) a) → jAg V V1 (q + 4) (q + 6) → J l s0 D kX8_layScenes (jR 2 0 0) 0 0 (qU T X sz (fun V' => lyB V' q (xR x r) w.toInt ∧ jAg V V' (q + 4) (q + 6))) 12 [(0, .ref q), (1, .int r), (2, .int w), (3, .int ft), (4, .int i)] [] T V1 X sz 0 0 := by
    intro n
    refine Nat.strongRecOn n ?_
    clear n
    intro n ih j i ft V1 hn hi hft hb hl ha
    have hr1 : zRl (V1 (q + 1)) (67 * z) (xR x r) := by rw [ha (q + 1) (by omega)]; exact hr
    have inner : j < (xR x r).1.length → ∀ (m n2 : Nat) (i2 ft : Int32) (V2 : jV), n2 + m = (atZ (xR x r).1 j).toInt.toNat → i2.toInt = n2 → ft.toInt = aFirst (xR x r) j + n2 → (∀ a : Nat, a ≤ j → (V2 (q + 4) a).toInt = aBeg (xR x r) w.toInt a) → (V2 (q + 4) (j + 1)).toInt = aBeg (xR x r) w.toInt j + tmN (ftm (xR x r).2.2.2.2.1 (xR x r).2.2.2.2.2 w.toInt) (aFirst (xR x r) j) n2 → (∀ a : Nat, a < j → (V2 (q + 5) a).toInt = aLost (xR x r) a) → (V2 (q + 5) j).toInt = cnt (lostB (xR x r).2.2.2.2.2) (aFirst (xR x r) j) n2 → jAg V V2 (q + 4) (q + 6) → J l s0 D kX8_layScenes (jR 2 0 0) 0 0 (qU T X sz (fun V' => lyB V' q (xR x r) w.toInt ∧ jAg V V' (q + 4) (q + 6))) 49 [(0, .ref q), (1, .int r), (2, .int w), (3, .int ft), (4, .int i), (5, .int i2)] [] T V2 X sz 0 0 := by
      intro hj m
      refine Nat.strongRecOn m ?_
      clear m
      intro m ih2 n2 i2 ft V2 hm hi2 hft hb2 hbj hl2 hlj ha2
      have hr2 : zRl (V2 (q + 1)) (67 * z) (xR x r) := by rw [ha2 (q + 1) (by omega)]; exact hr
      have f1 := len_rng hrl hj
      have f0 := aFirst_rng hrl j (by omega)
      have f2 := aBeg_rng hrl hw j (by omega)
      have f3 := tm_le (sl := (xR x r).2.2.2.2.2) hrl.2.2.2.2.2.2.1 hw f0.1 n2
      have f4 := cnt_le (lostB (xR x r).2.2.2.2.2) (aFirst (xR x r) j) n2
      have f5 : n2 ≤ 900 := by omega
      have hbj' : isI (V2 (q + 4) (j + 1)) (aBeg (xR x r) w.toInt j + tmN (ftm (xR x r).2.2.2.2.1 (xR x r).2.2.2.2.2 w.toInt) (aFirst (xR x r) j) n2) := hbj
      have hlj' : isI (V2 (q + 5) j) (cnt (lostB (xR x r).2.2.2.2.2) (aFirst (xR x r) j) n2) := hlj
      refine j_iload dX8_layScenes_49 rfl ?_
      refine j_aload_n dX8_layScenes_51 rfl ?_
      refine j_iload_n dX8_layScenes_52 rfl ?_
      refine j_iload dX8_layScenes_53 rfl ?_
      refine j_iconst (v := 0) dX8_layScenes_55 (by decide) ?_
      refine j_cVi dX8_layScenes_56 hB mo_X8_of ml_X8_50 (sp_X8_of hB h0 (ixk (k := z) (hz) (by omega)) z3 (ixk (k := j) (hi) (by omega)) (by omega) (ixk (k := 0) (iC 0 (by decide)) (by omega)) (by omega)) (by first | exact h0.1 | exact h0.2.1 | exact h0.2.2.1 | exact h0.2.2.2.1 | exact h0.2.2.2.2.1 | exact h0.2.2.2.2.2.1 | exact h0.2.2.2.2.2.2.1 | exact h0.2.2.2.2.2.2.2.1 | exact h0.2.2.2.2.2.2.2.2) rfl rfl rfl rfl ⟨rfl, rfl, by decide, by decide⟩ (Nat.le_of_ble_eq_true rfl) ⟨by decide, by decide⟩ (fun r_56 V_56 h_56 => ?_)
      obtain ⟨rfl, h_56⟩ := h_56
      replace h_56 := h_56.trans (hr2.2.1 j hj).1
      subst h_56
      refine m_icmp_ge (tgt := 124) dX8_layScenes_59 (by decide) (hi2) (iV) (fun c_59 => ?_) (fun c_59 => ?_)
      · refine j_iinc (v := 1) (L' := [(0, _), (1, _), (2, _), (3, _), (4, _), (5, _)]) dX8_layScenes_124 rfl (by decide) (by decide) rfl ?_
        refine j_goto (tgt := 12) dX8_layScenes_127 (by decide) ?_
        refine j_sub2 (L' := [(0, _), (1, _), (2, _), (3, _), (4, _)]) (List.forall_mem_cons.mpr ⟨rfl, List.forall_mem_cons.mpr ⟨rfl, List.forall_mem_cons.mpr ⟨rfl, List.forall_mem_cons.mpr ⟨rfl, List.forall_mem_cons.mpr ⟨rfl, fun _ h9 => nomatch h9⟩⟩⟩⟩⟩) ?_
        have hm2 : n2 = (atZ (xR x r).1 j).toInt.toNat := by omega
        refine ih (n - 1) (by omega) (j + 1) _ _ _ (by omega) ?_ ?_ ?_ ?_ ha2
        · exact (ixk (k := j + 1) (iA (hi) (iC 1 (by decide)) (by omega)) (by omega))
        · rw [hft]
          show _ = aFirst (xR x r) j + (atZ (xR x r).1 j).toInt
          omega
        · intro a h9
          rcases Nat.lt_or_ge j a with g | g
          · rw [show a = j + 1 by omega, hbj, hm2]; rfl
          · exact hb2 a g
        · intro a h9
          rcases Nat.lt_or_ge a j with g | g
          · exact hl2 a g
          · rw [show a = j by omega, hlj, hm2]; rfl
      · refine j_aload_n dX8_layScenes_62 rfl ?_
        refine j_iload_n dX8_layScenes_63 rfl ?_
        refine j_iload_n dX8_layScenes_64 rfl ?_
        refine j_cVi dX8_layScenes_65 hB mo_X8_isLost ml_X8_54 (sp_X8_isLost hB h0 hz z3 hr2.2.2.2 hrl.2.2.2.2.2.2.2 (by omega) (by omega)) (by first | exact h0.1 | exact h0.2.1 | exact h0.2.2.1 | exact h0.2.2.2.1 | exact h0.2.2.2.2.1 | exact h0.2.2.2.2.2.1 | exact h0.2.2.2.2.2.2.1 | exact h0.2.2.2.2.2.2.2.1 | exact h0.2.2.2.2.2.2.2.2) rfl rfl rfl rfl ⟨rfl, rfl, by decide, by decide⟩ (Nat.le_of_ble_eq_true rfl) ⟨by decide, by decide⟩ (fun r_65 V_65 h_65 => ?_)
        obtain ⟨rfl, b_65⟩ := h_65
        rw [hft] at b_65
        refine m_ifeqB (tgt := 85) dX8_layScenes_68 (by decide) b_65 (fun c_68 => ?_) (fun c_68 => ?_)
        · refine j_aload_n dX8_layScenes_85 rfl ?_
          refine j_getr dX8_layScenes_86 hB fl_X8_19 (by first | exact h0.1 | exact h0.2.1 | exact h0.2.2.1 | exact h0.2.2.2.1 | exact h0.2.2.2.2.1 | exact h0.2.2.2.2.2.1 | exact h0.2.2.2.2.2.2.1 | exact h0.2.2.2.2.2.2.2.1 | exact h0.2.2.2.2.2.2.2.2) (by rfl) ?_
          refine j_iload dX8_layScenes_89 rfl ?_
          refine j_iconst (v := 1) dX8_layScenes_91 (by decide) ?_
          refine j_iadd dX8_layScenes_92 ?_
          refine j_dup2 dX8_layScenes_93 rfl rfl ?_
          refine m_iald (k := j + 1) dX8_layScenes_94 hB (by first | exact h0.1 | exact h0.2.1 | exact h0.2.2.1 | exact h0.2.2.2.1 | exact h0.2.2.2.2.1 | exact h0.2.2.2.2.2.1 | exact h0.2.2.2.2.2.2.1 | exact h0.2.2.2.2.2.2.2.1 | exact h0.2.2.2.2.2.2.2.2) (ixk (iA (hi) (iC 1 (by decide)) (by omega)) (by omega)) (by omega) ?_
          refine j_sipush (v := 160) dX8_layScenes_95 (by decide) ?_
          refine j_iload_n dX8_layScenes_98 rfl ?_
          refine m_if_ne (tgt := 111) dX8_layScenes_99 (by decide) (iV) (fun c_99 => ?_) (fun c_99 => ?_)
          · have hv : 10 ≤ w.toInt := by omega
            have dv := div160 hv
            refine j_iload_n dX8_layScenes_111 rfl ?_
            refine j_idiv dX8_layScenes_112 (fun z9 => by have := congrArg Int32.toInt z9; rw [ti_0] at this; omega) ?_
            refine j_iadd dX8_layScenes_113 ?_
            refine m_iast (k := j + 1) dX8_layScenes_114 hB (by first | exact h0.1 | exact h0.2.1 | exact h0.2.2.1 | exact h0.2.2.2.1 | exact h0.2.2.2.2.1 | exact h0.2.2.2.2.2.1 | exact h0.2.2.2.2.2.2.1 | exact h0.2.2.2.2.2.2.2.1 | exact h0.2.2.2.2.2.2.2.2) (ixk (iA (hi) (iC 1 (by decide)) (by omega)) (by omega)) (by omega) ?_
            refine j_iinc (v := 1) (L' := [(0, _), (1, _), (2, _), (3, _), (4, _), (5, _)]) dX8_layScenes_115 rfl (by decide) (by decide) rfl ?_
            refine j_iinc (v := 1) (L' := [(0, _), (1, _), (2, _), (3, _), (4, _), (5, _)]) dX8_layScenes_118 rfl (by decide) (by decide) rfl ?_
            refine j_goto (tgt := 49) dX8_layScenes_121 (by decide) ?_
            refine ih2 (m - 1) (by omega) (n2 + 1) _ _ _ (by omega) ?_ ?_ ?_ ?_ ?_ ?_ ?_
            · exact (ixk (k := n2 + 1) (iA (hi2) (iC 1 (by decide)) (by omega)) (by omega))
            · exact ixz (iA (hft) (iC 1 (by decide)) (by omega)) (by omega)
            · intro a h9; rw [jset_ne (Or.inr (by omega))]; exact hb2 a h9
            · rw [jset_eq]
              refine ixz (iA (hbj') (iD (iC 160 (by decide)) (iV) (by omega)) (by omega)) ?_
              show _ = _ + (tmN (ftm (xR x r).2.2.2.2.1 (xR x r).2.2.2.2.2 w.toInt) (aFirst (xR x r) j) n2 + (ftm (xR x r).2.2.2.2.1 (xR x r).2.2.2.2.2 w.toInt) (aFirst (xR x r) j + n2))
              rw [show (ftm (xR x r).2.2.2.2.1 (xR x r).2.2.2.2.2 w.toInt) (aFirst (xR x r) j + n2) = 160 / w.toInt by unfold ftm; rw [if_neg c_68, if_neg c_99]]
              omega
            · intro a h9; rw [jset_row (by omega)]; exact hl2 a h9
            · rw [jset_row (by omega), hlj]
              show _ = cnt (lostB (xR x r).2.2.2.2.2) (aFirst (xR x r) j) n2 + (if lostB (xR x r).2.2.2.2.2 (aFirst (xR x r) j + n2) = true then 1 else 0)
              rw [if_neg c_68]
              omega
            · exact ha2.set (by omega) (by omega)
          · refine j_aload_n dX8_layScenes_102 rfl ?_
            refine j_iload_n dX8_layScenes_103 rfl ?_
            refine j_iload_n dX8_layScenes_104 rfl ?_
            refine j_cVi dX8_layScenes_105 hB mo_X8_speedOf ml_X8_58 (sp_X8_speedOf hB h0 hz z3 hr2.2.2.1 hrl.2.2.2.2.2.2.1) (by first | exact h0.1 | exact h0.2.1 | exact h0.2.2.1 | exact h0.2.2.2.1 | exact h0.2.2.2.2.1 | exact h0.2.2.2.2.2.1 | exact h0.2.2.2.2.2.2.1 | exact h0.2.2.2.2.2.2.2.1 | exact h0.2.2.2.2.2.2.2.2) rfl rfl rfl rfl ⟨rfl, rfl, by decide, by decide⟩ (Nat.le_of_ble_eq_true rfl) ⟨by decide, by decide⟩ (fun r_105 V_105 h_105 => ?_)
            obtain ⟨rfl, h_105⟩ := h_105
            subst h_105
            have hv := (pHold_rng hrl.2.2.2.2.2.2.1 ft.toInt).2.2 (by omega)
            have dv := div160 hv
            refine j_goto (tgt := 112) dX8_layScenes_108 (by decide) ?_
            refine j_idiv dX8_layScenes_112 (fun z9 => by have := congrArg Int32.toInt z9; rw [ti_0] at this; omega) ?_
            refine j_iadd dX8_layScenes_113 ?_
            refine m_iast (k := j + 1) dX8_layScenes_114 hB (by first | exact h0.1 | exact h0.2.1 | exact h0.2.2.1 | exact h0.2.2.2.1 | exact h0.2.2.2.2.1 | exact h0.2.2.2.2.2.1 | exact h0.2.2.2.2.2.2.1 | exact h0.2.2.2.2.2.2.2.1 | exact h0.2.2.2.2.2.2.2.2) (ixk (iA (hi) (iC 1 (by decide)) (by omega)) (by omega)) (by omega) ?_
            refine j_iinc (v := 1) (L' := [(0, _), (1, _), (2, _), (3, _), (4, _), (5, _)]) dX8_layScenes_115 rfl (by decide) (by decide) rfl ?_
            refine j_iinc (v := 1) (L' := [(0, _), (1, _), (2, _), (3, _), (4, _), (5, _)]) dX8_layScenes_118 rfl (by decide) (by decide) rfl ?_
            refine j_goto (tgt := 49) dX8_layScenes_121 (by decide) ?_
            refine ih2 (m - 1) (by omega) (n2 + 1) _ _ _ (by omega) ?_ ?_ ?_ ?_ ?_ ?_ ?_
            · exact (ixk (k := n2 + 1) (iA (hi2) (iC 1 (by decide)) (by omega)) (by omega))
            · exact ixz (iA (hft) (iC 1 (by decide)) (by omega)) (by omega)
            · intro a h9; rw [jset_ne (Or.inr (by omega))]; exact hb2 a h9
            · rw [jset_eq]
              refine ixz (iA (hbj') (iD (iC 160 (by decide)) (iV) (by omega)) (by omega)) ?_
              show _ = _ + (tmN (ftm (xR x r).2.2.2.2.1 (xR x r).2.2.2.2.2 w.toInt) (aFirst (xR x r) j) n2 + (ftm (xR x r).2.2.2.2.1 (xR x r).2.2.2.2.2 w.toInt) (aFirst (xR x r) j + n2))
              rw [show (ftm (xR x r).2.2.2.2.1 (xR x r).2.2.2.2.2 w.toInt) (aFirst (xR x r) j + n2) = 160 / (pHold (xR x r).2.2.2.2.1 (aFirst (xR x r) j + n2)).toInt by unfold ftm; rw [if_neg c_68, if_pos c_99]]
              rw [hft]
              omega
            · intro a h9; rw [jset_row (by omega)]; exact hl2 a h9
            · rw [jset_row (by omega), hlj]
              show _ = cnt (lostB (xR x r).2.2.2.2.2) (aFirst (xR x r) j) n2 + (if lostB (xR x r).2.2.2.2.2 (aFirst (xR x r) j + n2) = true then 1 else 0)
              rw [if_neg c_68]
              omega
            · exact ha2.set (by omega) (by omega)
        · refine j_aload_n dX8_layScenes_71 rfl ?_
          refine j_getr dX8_layScenes_72 hB fl_X8_22 (by first | exact h0.1 | exact h0.2.1 | exact h0.2.2.1 | exact h0.2.2.2.1 | exact h0.2.2.2.2.1 | exact h0.2.2.2.2.2.1 | exact h0.2.2.2.2.2.2.1 | exact h0.2.2.2.2.2.2.2.1 | exact h0.2.2.2.2.2.2.2.2) (by rfl) ?_
          refine j_iload dX8_layScenes_75 rfl ?_
          refine j_dup2 dX8_layScenes_77 rfl rfl ?_
          refine m_iald (k := j) dX8_layScenes_78 hB (by first | exact h0.1 | exact h0.2.1 | exact h0.2.2.1 | exact h0.2.2.2.1 | exact h0.2.2.2.2.1 | exact h0.2.2.2.2.2.1 | exact h0.2.2.2.2.2.2.1 | exact h0.2.2.2.2.2.2.2.1 | exact h0.2.2.2.2.2.2.2.2) (ixk (hi) (by omega)) (by omega) ?_
          refine j_iconst (v := 1) dX8_layScenes_79 (by decide) ?_
          refine j_iadd dX8_layScenes_80 ?_
          refine m_iast (k := j) dX8_layScenes_81 hB (by first | exact h0.1 | exact h0.2.1 | exact h0.2.2.1 | exact h0.2.2.2.1 | exact h0.2.2.2.2.1 | exact h0.2.2.2.2.2.1 | exact h0.2.2.2.2.2.2.1 | exact h0.2.2.2.2.2.2.2.1 | exact h0.2.2.2.2.2.2.2.2) (ixk (hi) (by omega)) (by omega) ?_
          refine j_goto (tgt := 115) dX8_layScenes_82 (by decide) ?_
          refine j_iinc (v := 1) (L' := [(0, _), (1, _), (2, _), (3, _), (4, _), (5, _)]) dX8_layScenes_115 rfl (by decide) (by decide) rfl ?_
          refine j_iinc (v := 1) (L' := [(0, _), (1, _), (2, _), (3, _), (4, _), (5, _)]) dX8_layScenes_118 rfl (by decide) (by decide) rfl ?_
          refine j_goto (tgt := 49) dX8_layScenes_121 (by decide) ?_
          refine ih2 (m - 1) (by omega) (n2 + 1) _ _ _ (by omega) ?_ ?_ ?_ ?_ ?_ ?_ ?_
          · exact (ixk (k := n2 + 1) (iA (hi2) (iC 1 (by decide)) (by omega)) (by omega))
          · exact ixz (iA (hft) (iC 1 (by decide)) (by omega)) (by omega)
          · intro a h9; rw [jset_row (by omega)]; exact hb2 a h9
          · rw [jset_row (by omega), hbj]
            show _ + _ = _ + (tmN (ftm (xR x r).2.2.2.2.1 (xR x r).2.2.2.2.2 w.toInt) (aFirst (xR x r) j) n2 + (ftm (xR x r).2.2.2.2.1 (xR x r).2.2.2.2.2 w.toInt) (aFirst (xR x r) j + n2))
            rw [show (ftm (xR x r).2.2.2.2.1 (xR x r).2.2.2.2.2 w.toInt) (aFirst (xR x r) j + n2) = 0 by unfold ftm; rw [if_pos c_68]]
            omega
          · intro a h9; rw [jset_ne (Or.inr (by omega))]; exact hl2 a h9
          · rw [jset_eq]
            refine ixz (iA (hlj') (iC 1 (by decide)) (by omega)) ?_
            show _ = cnt (lostB (xR x r).2.2.2.2.2) (aFirst (xR x r) j) n2 + (if lostB (xR x r).2.2.2.2.2 (aFirst (xR x r) j + n2) = true then 1 else 0)
            rw [if_pos c_68]
          · exact ha2.set (by omega) (by omega)
    refine j_iload dX8_layScenes_12 rfl ?_
    refine j_aload_n dX8_layScenes_14 rfl ?_
    refine j_iload_n dX8_layScenes_15 rfl ?_
    refine j_cVi dX8_layScenes_16 hB mo_X8_scenes ml_X8_46 (sp_X8_scenes hB h0 (ixk (k := z) (hz) (by omega)) z3) (by first | exact h0.1 | exact h0.2.1 | exact h0.2.2.1 | exact h0.2.2.2.1 | exact h0.2.2.2.2.1 | exact h0.2.2.2.2.2.1 | exact h0.2.2.2.2.2.2.1 | exact h0.2.2.2.2.2.2.2.1 | exact h0.2.2.2.2.2.2.2.2) rfl rfl rfl rfl ⟨rfl, rfl, by decide, by decide⟩ (Nat.le_of_ble_eq_true rfl) ⟨by decide, by decide⟩ (fun r_16 V_16 h_16 => ?_)
    obtain ⟨rfl, h_16⟩ := h_16
    subst h_16
    refine m_icmp_ge (tgt := 130) dX8_layScenes_19 (by decide) (hi) (hr1.1) (fun c_19 => ?_) (fun c_19 => ?_)
    · refine j_vret dX8_layScenes_130 rfl (by decide) (by decide) ?_
      exact ⟨rfl, rfl, rfl, rfl, ⟨fun a h9 => hb a (by omega), fun a h9 => hl a (by omega)⟩, ha⟩
    · have hj : j < (xR x r).1.length := by omega
      have f2 := aBeg_rng hrl hw j (by omega)
      refine j_aload_n dX8_layScenes_22 rfl ?_
      refine j_getr dX8_layScenes_23 hB fl_X8_19 (by first | exact h0.1 | exact h0.2.1 | exact h0.2.2.1 | exact h0.2.2.2.1 | exact h0.2.2.2.2.1 | exact h0.2.2.2.2.2.1 | exact h0.2.2.2.2.2.2.1 | exact h0.2.2.2.2.2.2.2.1 | exact h0.2.2.2.2.2.2.2.2) (by rfl) ?_
      refine j_iload dX8_layScenes_26 rfl ?_
      refine j_iconst (v := 1) dX8_layScenes_28 (by decide) ?_
      refine j_iadd dX8_layScenes_29 ?_
      refine j_aload_n dX8_layScenes_30 rfl ?_
      refine j_getr dX8_layScenes_31 hB fl_X8_19 (by first | exact h0.1 | exact h0.2.1 | exact h0.2.2.1 | exact h0.2.2.2.1 | exact h0.2.2.2.2.1 | exact h0.2.2.2.2.2.1 | exact h0.2.2.2.2.2.2.1 | exact h0.2.2.2.2.2.2.2.1 | exact h0.2.2.2.2.2.2.2.2) (by rfl) ?_
      refine j_iload dX8_layScenes_34 rfl ?_
      refine m_iald (k := j) dX8_layScenes_36 hB (by first | exact h0.1 | exact h0.2.1 | exact h0.2.2.1 | exact h0.2.2.2.1 | exact h0.2.2.2.2.1 | exact h0.2.2.2.2.2.1 | exact h0.2.2.2.2.2.2.1 | exact h0.2.2.2.2.2.2.2.1 | exact h0.2.2.2.2.2.2.2.2) (ixk (hi) (by omega)) (by omega) ?_
      refine m_iast (k := j + 1) dX8_layScenes_37 hB (by first | exact h0.1 | exact h0.2.1 | exact h0.2.2.1 | exact h0.2.2.2.1 | exact h0.2.2.2.2.1 | exact h0.2.2.2.2.2.1 | exact h0.2.2.2.2.2.2.1 | exact h0.2.2.2.2.2.2.2.1 | exact h0.2.2.2.2.2.2.2.2) (ixk (iA (hi) (iC 1 (by decide)) (by omega)) (by omega)) (by omega) ?_
      refine j_aload_n dX8_layScenes_38 rfl ?_
      refine j_getr dX8_layScenes_39 hB fl_X8_22 (by first | exact h0.1 | exact h0.2.1 | exact h0.2.2.1 | exact h0.2.2.2.1 | exact h0.2.2.2.2.1 | exact h0.2.2.2.2.2.1 | exact h0.2.2.2.2.2.2.1 | exact h0.2.2.2.2.2.2.2.1 | exact h0.2.2.2.2.2.2.2.2) (by rfl) ?_
      refine j_iload dX8_layScenes_42 rfl ?_
      refine j_iconst (v := 0) dX8_layScenes_44 (by decide) ?_
      refine m_iast (k := j) dX8_layScenes_45 hB (by first | exact h0.1 | exact h0.2.1 | exact h0.2.2.1 | exact h0.2.2.2.1 | exact h0.2.2.2.2.1 | exact h0.2.2.2.2.2.1 | exact h0.2.2.2.2.2.2.1 | exact h0.2.2.2.2.2.2.2.1 | exact h0.2.2.2.2.2.2.2.2) (ixk (hi) (by omega)) (by omega) ?_
      refine j_iconst (v := 0) dX8_layScenes_46 (by decide) ?_
      refine j_istore (L' := [(0, _), (1, _), (2, _), (3, _), (4, _), (5, _)]) dX8_layScenes_47 (by decide) rfl ?_
      refine inner hj (atZ (xR x r).1 j).toInt.toNat 0 _ _ _ (by omega) ?_ ?_ ?_ ?_ ?_ ?_ ?_
      · rfl
      · rw [hft]; omega
      · intro a h9; rw [jset_row (by omega), jset_ne (Or.inr (by omega))]; exact hb a h9
      · rw [jset_row (by omega), jset_eq, hb j (Nat.le_refl j)]
        show _ = _ + (0 : Int)
        omega
      · intro a h9; rw [jset_ne (Or.inr (by omega)), jset_row (by omega)]; exact hl a h9
      · rw [jset_eq]; rfl
      · exact (ha.set (by omega) (by omega)).set (by omega) (by omega)
  refine j_aload_n dX8_layScenes_0 rfl ?_
  refine j_getr dX8_layScenes_1 hB fl_X8_19 (by first | exact h0.1 | exact h0.2.1 | exact h0.2.2.1 | exact h0.2.2.2.1 | exact h0.2.2.2.2.1 | exact h0.2.2.2.2.2.1 | exact h0.2.2.2.2.2.2.1 | exact h0.2.2.2.2.2.2.2.1 | exact h0.2.2.2.2.2.2.2.2) (by rfl) ?_
  refine j_iconst (v := 0) dX8_layScenes_4 (by decide) ?_
  refine j_iconst (v := 0) dX8_layScenes_5 (by decide) ?_
  refine m_iast (k := 0) dX8_layScenes_6 hB (by first | exact h0.1 | exact h0.2.1 | exact h0.2.2.1 | exact h0.2.2.2.1 | exact h0.2.2.2.2.1 | exact h0.2.2.2.2.2.1 | exact h0.2.2.2.2.2.2.1 | exact h0.2.2.2.2.2.2.2.1 | exact h0.2.2.2.2.2.2.2.2) (ixk (iC 0 (by decide)) (by omega)) (by omega) ?_
  refine j_iconst (v := 0) dX8_layScenes_7 (by decide) ?_
  refine j_istore_n (L' := [(0, _), (1, _), (2, _), (3, _)]) dX8_layScenes_8 (by decide) rfl ?_
  refine j_iconst (v := 0) dX8_layScenes_9 (by decide) ?_
  refine j_istore (L' := [(0, _), (1, _), (2, _), (3, _), (4, _)]) dX8_layScenes_10 (by decide) rfl ?_
  refine outer (xR x r).1.length 0 0 0 _ (by omega) rfl rfl ?_ ?_ ?_
  · intro a h9; rw [show a = 0 by omega, jset_eq]; rfl
  · intro a h9; exact absurd h9 (Nat.not_lt_zero _)
  · exact jAg.rf.set (by omega) (by omega)
set_option maxRecDepth 100000 in
set_option maxHeartbeats 4000000 in
theorem sp_X8_beginOf (hB : jB l s0 D) {q : Nat} (h0 : moT T q) {r : Int32} {z : Nat} (hz : r.toInt = z) (z3 : z < 3) {x : aX} (h : moIs T V q x) (hW : stW x.1) {k0 : Int32} {k : Nat} (hk0 : k0.toInt = k) (hk : k < (xR x r).1.length) {w : Int} (hw : w = 0 ∨ 10 ≤ w) (hb : ∀ a : Nat, a ≤ (xR x r).1.length → (V (q + 4) a).toInt = aBeg (xR x r) w a) (he : ∀ a : Nat, a < k → (V (q + 7) a).toInt = aEnd x.1 (xR x r) w a)  : Sp l s0 D kX8_beginOf (jR 1 0 0) 0 0 [.ref q, .int r, .int k0] T V X sz (qI T X sz (fun y V' => V = V' ∧ y.toInt = aCb x.1 (xR x r) w k)) := by
  refine Sp.of pn_X8_beginOf rfl (Nat.le_of_ble_eq_true rfl) ?_
  have hr := h.r hz z3
  have hrl : rlW x.1 (xR x r) := hW.r _
  have h10 := hrl.2.2.2.1
  have hp := hW.1
  have hbk : (V (q + 4) k).toInt = aBeg (xR x r) w k := hb k (by omega)
  have loop : ∀ (n j : Nat) (i fr : Int32), j + n = k → i.toInt = j → fr.toInt = max (aBeg (xR x r) w k) (aMus x.1 (xR x r) w j) → J l s0 D kX8_beginOf (jR 1 0 0) 0 0 (qI T X sz (fun y V' => V = V' ∧ y.toInt = aCb x.1 (xR x r) w k)) 10 [(0, .ref q), (1, .int r), (2, .int k0), (3, .int fr), (4, .int i)] [] T V X sz 0 0 := by
    intro n
    refine Nat.strongRecOn n ?_
    clear n
    intro n ih j i fr hn hi hfr
    refine j_iload dX8_beginOf_10 rfl ?_
    refine j_iload_n dX8_beginOf_12 rfl ?_
    refine m_icmp_ge (tgt := 58) dX8_beginOf_13 (by decide) (hi) (hk0) (fun c_13 => ?_) (fun c_13 => ?_)
    · refine j_iload_n dX8_beginOf_58 rfl ?_
      refine j_iret dX8_beginOf_59 rfl (rfl) (by decide) (by decide) ?_
      exact ⟨_, rfl, rfl, rfl, rfl, rfl, by rw [hfr, show j = k by omega]; rfl⟩
    · have hej : isI (V (q + 7) j) (aEnd x.1 (xR x r) w j) := he j (by omega)
      have up := aMus_up (w := w) hp hrl (k := j) (by omega)
      refine j_aload_n dX8_beginOf_16 rfl ?_
      refine j_iload_n dX8_beginOf_17 rfl ?_
      refine j_iload dX8_beginOf_18 rfl ?_
      refine j_iconst (v := 1) dX8_beginOf_20 (by decide) ?_
      refine j_cVi dX8_beginOf_21 hB mo_X8_of ml_X8_50 (sp_X8_of hB h0 (ixk (k := z) (hz) (by omega)) z3 (ixk (k := j) (hi) (by omega)) (by omega) (ixk (k := 1) (iC 1 (by decide)) (by omega)) (by omega)) (by first | exact h0.1 | exact h0.2.1 | exact h0.2.2.1 | exact h0.2.2.2.1 | exact h0.2.2.2.2.1 | exact h0.2.2.2.2.2.1 | exact h0.2.2.2.2.2.2.1 | exact h0.2.2.2.2.2.2.2.1 | exact h0.2.2.2.2.2.2.2.2) rfl rfl rfl rfl ⟨rfl, rfl, by decide, by decide⟩ (Nat.le_of_ble_eq_true rfl) ⟨by decide, by decide⟩ (fun r_21 V_21 h_21 => ?_)
      obtain ⟨rfl, h_21⟩ := h_21
      replace h_21 := h_21.trans (hr.2.1 j (by omega)).2.1
      subst h_21
      refine j_ldc dX8_beginOf_24 hB kc_X8_62 ?_
      refine m_icmp_eq (tgt := 50) dX8_beginOf_26 (by decide) (iV) (iC (-2000001) (by decide)) (fun c_26 => ?_) (fun c_26 => ?_)
      · refine j_iload_n dX8_beginOf_50 rfl ?_
        refine j_istore_n (L' := [(0, _), (1, _), (2, _), (3, _), (4, _)]) dX8_beginOf_51 (by decide) rfl ?_
        refine j_iinc (v := 1) (L' := [(0, _), (1, _), (2, _), (3, _), (4, _)]) dX8_beginOf_52 rfl (by decide) (by decide) rfl ?_
        refine j_goto (tgt := 10) dX8_beginOf_55 (by decide) ?_
        refine ih (n - 1) (by omega) (j + 1) _ _ (by omega) ?_ ?_
        · exact (ixk (k := j + 1) (iA (hi) (iC 1 (by decide)) (by omega)) (by omega))
        · rw [hfr, aMus_n (fun z => isCue_i.mp z c_26)]
      · refine j_aload_n dX8_beginOf_29 rfl ?_
        refine j_getr dX8_beginOf_30 hB fl_X8_28 (by first | exact h0.1 | exact h0.2.1 | exact h0.2.2.1 | exact h0.2.2.2.1 | exact h0.2.2.2.2.1 | exact h0.2.2.2.2.2.1 | exact h0.2.2.2.2.2.2.1 | exact h0.2.2.2.2.2.2.2.1 | exact h0.2.2.2.2.2.2.2.2) (by rfl) ?_
        refine j_iload dX8_beginOf_33 rfl ?_
        refine m_iald (k := j) dX8_beginOf_35 hB (by first | exact h0.1 | exact h0.2.1 | exact h0.2.2.1 | exact h0.2.2.2.1 | exact h0.2.2.2.2.1 | exact h0.2.2.2.2.2.1 | exact h0.2.2.2.2.2.2.1 | exact h0.2.2.2.2.2.2.2.1 | exact h0.2.2.2.2.2.2.2.2) (ixk (hi) (by omega)) (by omega) ?_
        refine j_iload_n dX8_beginOf_36 rfl ?_
        refine m_icmp_le (tgt := 50) dX8_beginOf_37 (by decide) (hej) (hfr) (fun c_37 => ?_) (fun c_37 => ?_)
        · refine j_iload_n dX8_beginOf_50 rfl ?_
          refine j_istore_n (L' := [(0, _), (1, _), (2, _), (3, _), (4, _)]) dX8_beginOf_51 (by decide) rfl ?_
          refine j_iinc (v := 1) (L' := [(0, _), (1, _), (2, _), (3, _), (4, _)]) dX8_beginOf_52 rfl (by decide) (by decide) rfl ?_
          refine j_goto (tgt := 10) dX8_beginOf_55 (by decide) ?_
          refine ih (n - 1) (by omega) (j + 1) _ _ (by omega) ?_ ?_
          · exact (ixk (k := j + 1) (iA (hi) (iC 1 (by decide)) (by omega)) (by omega))
          · rw [aEnd_c (isCue_i.mpr c_26)] at c_37
            rw [hfr]
            omega
        · refine j_aload_n dX8_beginOf_40 rfl ?_
          refine j_getr dX8_beginOf_41 hB fl_X8_28 (by first | exact h0.1 | exact h0.2.1 | exact h0.2.2.1 | exact h0.2.2.2.1 | exact h0.2.2.2.2.1 | exact h0.2.2.2.2.2.1 | exact h0.2.2.2.2.2.2.1 | exact h0.2.2.2.2.2.2.2.1 | exact h0.2.2.2.2.2.2.2.2) (by rfl) ?_
          refine j_iload dX8_beginOf_44 rfl ?_
          refine m_iald (k := j) dX8_beginOf_46 hB (by first | exact h0.1 | exact h0.2.1 | exact h0.2.2.1 | exact h0.2.2.2.1 | exact h0.2.2.2.2.1 | exact h0.2.2.2.2.2.1 | exact h0.2.2.2.2.2.2.1 | exact h0.2.2.2.2.2.2.2.1 | exact h0.2.2.2.2.2.2.2.2) (ixk (hi) (by omega)) (by omega) ?_
          refine j_goto (tgt := 51) dX8_beginOf_47 (by decide) ?_
          refine j_istore_n (L' := [(0, _), (1, _), (2, _), (3, _), (4, _)]) dX8_beginOf_51 (by decide) rfl ?_
          refine j_iinc (v := 1) (L' := [(0, _), (1, _), (2, _), (3, _), (4, _)]) dX8_beginOf_52 rfl (by decide) (by decide) rfl ?_
          refine j_goto (tgt := 10) dX8_beginOf_55 (by decide) ?_
          refine ih (n - 1) (by omega) (j + 1) _ _ (by omega) ?_ ?_
          · exact (ixk (k := j + 1) (iA (hi) (iC 1 (by decide)) (by omega)) (by omega))
          · rw [aEnd_c (isCue_i.mpr c_26)] at c_37 hej
            rw [hej]
            omega
  refine j_aload_n dX8_beginOf_0 rfl ?_
  refine j_getr dX8_beginOf_1 hB fl_X8_19 (by first | exact h0.1 | exact h0.2.1 | exact h0.2.2.1 | exact h0.2.2.2.1 | exact h0.2.2.2.2.1 | exact h0.2.2.2.2.2.1 | exact h0.2.2.2.2.2.2.1 | exact h0.2.2.2.2.2.2.2.1 | exact h0.2.2.2.2.2.2.2.2) (by rfl) ?_
  refine j_iload_n dX8_beginOf_4 rfl ?_
  refine m_iald (k := k) dX8_beginOf_5 hB (by first | exact h0.1 | exact h0.2.1 | exact h0.2.2.1 | exact h0.2.2.2.1 | exact h0.2.2.2.2.1 | exact h0.2.2.2.2.2.1 | exact h0.2.2.2.2.2.2.1 | exact h0.2.2.2.2.2.2.2.1 | exact h0.2.2.2.2.2.2.2.2) (ixk (hk0) (by omega)) (by omega) ?_
  refine j_istore_n (L' := [(0, _), (1, _), (2, _), (3, _)]) dX8_beginOf_6 (by decide) rfl ?_
  refine j_iconst (v := 0) dX8_beginOf_7 (by decide) ?_
  refine j_istore (L' := [(0, _), (1, _), (2, _), (3, _), (4, _)]) dX8_beginOf_8 (by decide) rfl ?_
  refine loop k 0 0 _ (by omega) rfl ?_
  rw [hbk]; show _ = max _ (0 : Int); have := aBeg_rng hrl hw k (by omega); omega
end JM2
