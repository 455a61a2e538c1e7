/-! CueSheetsModel: the digest -/
def xOK (X X' : jX) (q : Nat) : Prop := (∀ a, ¬ a = q → X'.1 a = X.1 a) ∧ X'.2 = X.2
theorem xOK.rf {X : jX} {q : Nat} : xOK X X q := ⟨fun _ _ => rfl, rfl⟩
theorem xOK.tr {X X1 X2 : jX} {q : Nat} (h : xOK X X1 q) (h' : xOK X1 X2 q) : xOK X X2 q := ⟨fun a ha => (h'.1 a ha).trans (h.1 a ha), h'.2.trans h.2⟩
theorem xOK.set {X X1 : jX} {q : Nat} {v : Int64} (h : xOK X X1 q) : xOK X (jset X1.1 q 15 v, X1.2) q := ⟨fun a ha => (jset_row ha).trans (h.1 a ha), h.2⟩
theorem jx_eq {X : jX} {q : Nat} {v : Int64} {Y : Nat → Nat → UInt64} : ((jset X.1 q 15 v, Y) : jX).1 q 15 = v := jset_eq
def qLN (P : Int64 → jT → jV → jX → Nat → Prop) : jQ := fun o T' V' X' sz' => ∃ r : Int64, o = .inl (some (.long r)) ∧ P r T' V' X' sz'
/-- the pieces' part, number by number -/
noncomputable def dgK (s : aS) (g : Int64) (k : Nat) : Int64 := mixN (fun w => pcP s (Int32.ofInt ((k / 4 : Nat) : Int)) w) (dgPc s g (k / 4)) (k % 4)
theorem dgK_s (s : aS) (g : Int64) (k : Nat) : dgK s g (k + 1) = mixI (dgK s g k) (pcP s (Int32.ofInt ((k / 4 : Nat) : Int)) ((k % 4 : Nat) : Int)) := by
  unfold dgK
  by_cases h : k % 4 = 3
  · rw [show (k + 1) % 4 = 0 by omega, show (k + 1) / 4 = k / 4 + 1 by omega, h]
    rfl
  · rw [show (k + 1) % 4 = k % 4 + 1 by omega, show (k + 1) / 4 = k / 4 by omega]
    rfl
theorem dgK_e (s : aS) (g : Int64) (n : Nat) : dgK s g (4 * n) = dgPc s g n := by
  unfold dgK
  rw [show 4 * n % 4 = 0 by omega, show 4 * n / 4 = n by omega]
  rfl
section JM19
variable {l : Launch} {s0 : State} {D : jD} {T : jT} {V : jV} {X : jX} {sz : Nat}
set_option maxRecDepth 100000 in
set_option maxHeartbeats 4000000 in
theorem sp_X8_mixReel (hB : jB l s0 D) {q : Nat} (h0 : moT T q) {r : Int32} {z : Nat} (hz : r.toInt = z) (z3 : z < 3) {x : aX} (h : moIs T V q x) (hW : stW x.1)  : Sp l s0 D kX8_mixReel (jR 6 0 0) 0 0 [.ref q, .int r] T V X sz (qN (fun T' V' X' sz' => T = T' ∧ sz = sz' ∧ mKp V V' q ∧ xOK X X' q ∧ X'.1 q 15 = dgRl x.1 (xR x r) (X.1 q 15))) := by
  refine Sp.of pn_X8_mixReel rfl (Nat.le_of_ble_eq_true rfl) ?_
  have hr := h.r hz z3
  have hrl : rlW x.1 (xR x r) := hW.r _
  have h10 := hrl.2.2.2.1
  have hp := hW.1
  have loopC : ∀ (n k : Nat) (i : Int32) (V1 : jV) (X1 : jX), k + n = 10 → i.toInt = ((100 * k : Nat) : Int) → lyP V1 q x.1 (xR x r) 0 (xR x r).1.length → mKp V V1 q → xOK X X1 q → X1.1 q 15 = mixN (fun i => (pHold (xR x r).2.2.2.2.1 (100 * i)).toInt) (dgSc x.1 (xR x r) (mixN (fun w => rlP x.1 (xR x r) w) (X.1 q 15) 11) (xR x r).1.length) k → J l s0 D kX8_mixReel (jR 6 0 0) 0 0 (qN (fun T' V' X' sz' => T = T' ∧ sz = sz' ∧ mKp V V' q ∧ xOK X X' q ∧ X'.1 q 15 = dgRl x.1 (xR x r) (X.1 q 15))) 87 [(0, .ref q), (1, .int r), (2, .int i)] [] T V1 X1 sz 0 0 := by
    intro n
    refine Nat.strongRecOn n ?_
    clear n
    intro n ih k i V1 X1 hn hi hl hk hx hh
    have hm : moIs T V1 q x := h.kp hk
    have hr1 := hm.r hz z3
    refine j_iload_n dX8_mixReel_87 rfl ?_
    refine j_sipush (v := 900) dX8_mixReel_88 (by decide) ?_
    refine m_icmp_gt (tgt := 111) dX8_mixReel_91 (by decide) (hi) (iC 900 (by decide)) (fun c_91 => ?_) (fun c_91 => ?_)
    · refine j_aload_n dX8_mixReel_111 rfl ?_
      refine j_iload_n dX8_mixReel_112 rfl ?_
      refine j_cVf dX8_mixReel_113 hB mo_X8_offNow ml_X8_206 (sp_X8_offNow hB h0 hz z3 hm hW hl (Nat.le_refl _)) (by first | exact h0.1 | exact h0.2.1 | exact h0.2.2.1 | exact h0.2.2.2.1 | exact h0.2.2.2.2.1 | exact h0.2.2.2.2.2.1 | exact h0.2.2.2.2.2.2.1 | exact h0.2.2.2.2.2.2.2.1 | exact h0.2.2.2.2.2.2.2.2) rfl rfl rfl rfl ⟨rfl, rfl, by decide, by decide⟩ (Nat.le_of_ble_eq_true rfl) ⟨by decide, by decide⟩ (fun r_113 V_113 h_113 => ?_)
      obtain ⟨rfl, f1⟩ := h_113
      subst f1
      refine j_cSi dX8_mixReel_116 hB mo_Jxf58ca_floatToIntBits_5c35a ml_X8_226 (sp_Jxf58ca_floatToIntBits_5c35a hB (ofV_V hW.1 hrl)) rfl rfl ⟨rfl, rfl, by decide, by decide⟩ (Nat.le_of_ble_eq_true rfl) ⟨by decide, by decide⟩ (fun r_116 V_116 h_116 => ?_)
      obtain ⟨rfl, f2⟩ := h_116
      refine j_istore_n (L' := [(0, _), (1, _), (2, _)]) dX8_mixReel_119 (by decide) rfl ?_
      refine j_aload_n dX8_mixReel_120 rfl ?_
      refine j_iload_n dX8_mixReel_121 rfl ?_
      refine j_cVd dX8_mixReel_122 hB mo_X8_meanNow ml_X8_212 (sp_X8_meanNow hB h0 hz z3 hm hW hl (Nat.le_refl _)) (by first | exact h0.1 | exact h0.2.1 | exact h0.2.2.1 | exact h0.2.2.2.1 | exact h0.2.2.2.2.1 | exact h0.2.2.2.2.2.1 | exact h0.2.2.2.2.2.2.1 | exact h0.2.2.2.2.2.2.2.1 | exact h0.2.2.2.2.2.2.2.2) rfl rfl rfl rfl ⟨rfl, rfl, by decide, by decide⟩ (Nat.le_of_ble_eq_true rfl) ⟨by decide, by decide⟩ (fun r_122 V_122 h_122 => ?_)
      obtain ⟨rfl, f3⟩ := h_122
      subst f3
      refine j_cSl dX8_mixReel_125 hB mo_Jxe99ae_doubleToLongBits_ccdee ml_X8_232 (sp_Jxe99ae_doubleToLongBits_ccdee hB (mnV_V hrl).1) rfl rfl ⟨rfl, rfl, by decide, by decide⟩ (Nat.le_of_ble_eq_true rfl) ⟨by decide, by decide⟩ (fun r_125 V_125 h_125 => ?_)
      obtain ⟨rfl, f4⟩ := h_125
      refine j_lstore_n (L' := [(0, _), (1, _), (2, _), (3, _)]) dX8_mixReel_128 (by decide) rfl ?_
      refine j_aload_n dX8_mixReel_129 rfl ?_
      refine j_aload_n dX8_mixReel_130 rfl ?_
      refine j_iload_n dX8_mixReel_131 rfl ?_
      refine j_cVi dX8_mixReel_132 hB mo_X8_bestSpeedNow ml_X8_203 (sp_X8_bestSpeedNow hB h0 hz z3 hm hW) (by first | exact h0.1 | exact h0.2.1 | exact h0.2.2.1 | exact h0.2.2.2.1 | exact h0.2.2.2.2.1 | exact h0.2.2.2.2.2.1 | exact h0.2.2.2.2.2.2.1 | exact h0.2.2.2.2.2.2.2.1 | exact h0.2.2.2.2.2.2.2.2) rfl rfl rfl rfl ⟨rfl, rfl, by decide, by decide⟩ (Nat.le_of_ble_eq_true rfl) ⟨by decide, by decide⟩ (fun r_132 V_132 h_132 => ?_)
      obtain ⟨t5, aL⟩ := h_132
      refine j_i2l dX8_mixReel_135 ?_
      refine j_cVn dX8_mixReel_136 hB mo_X8_mix ml_X8_222 (sp_X8_mix hB h0) (by first | exact h0.1 | exact h0.2.1 | exact h0.2.2.1 | exact h0.2.2.2.1 | exact h0.2.2.2.2.1 | exact h0.2.2.2.2.2.1 | exact h0.2.2.2.2.2.2.1 | exact h0.2.2.2.2.2.2.2.1 | exact h0.2.2.2.2.2.2.2.2) rfl rfl rfl rfl ⟨rfl, rfl, by decide, by decide⟩ (Nat.le_of_ble_eq_true rfl) ⟨by decide, by decide⟩ (fun T_136 V_136 X_136 sz_136 h_136 => ?_)
      obtain ⟨rfl, rfl, rfl, rfl⟩ := h_136
      refine j_aload_n dX8_mixReel_139 rfl ?_
      refine j_iload_n dX8_mixReel_140 rfl ?_
      refine j_i2l dX8_mixReel_141 ?_
      refine j_cVn dX8_mixReel_142 hB mo_X8_mix ml_X8_222 (sp_X8_mix hB h0) (by first | exact h0.1 | exact h0.2.1 | exact h0.2.2.1 | exact h0.2.2.2.1 | exact h0.2.2.2.2.1 | exact h0.2.2.2.2.2.1 | exact h0.2.2.2.2.2.2.1 | exact h0.2.2.2.2.2.2.2.1 | exact h0.2.2.2.2.2.2.2.2) rfl rfl rfl rfl ⟨rfl, rfl, by decide, by decide⟩ (Nat.le_of_ble_eq_true rfl) ⟨by decide, by decide⟩ (fun T_142 V_142 X_142 sz_142 h_142 => ?_)
      obtain ⟨rfl, rfl, rfl, rfl⟩ := h_142
      refine j_aload_n dX8_mixReel_145 rfl ?_
      refine j_lload_n dX8_mixReel_146 rfl ?_
      refine j_cVn dX8_mixReel_147 hB mo_X8_mix ml_X8_222 (sp_X8_mix hB h0) (by first | exact h0.1 | exact h0.2.1 | exact h0.2.2.1 | exact h0.2.2.2.1 | exact h0.2.2.2.2.1 | exact h0.2.2.2.2.2.1 | exact h0.2.2.2.2.2.2.1 | exact h0.2.2.2.2.2.2.2.1 | exact h0.2.2.2.2.2.2.2.2) rfl rfl rfl rfl ⟨rfl, rfl, by decide, by decide⟩ (Nat.le_of_ble_eq_true rfl) ⟨by decide, by decide⟩ (fun T_147 V_147 X_147 sz_147 h_147 => ?_)
      obtain ⟨rfl, rfl, rfl, rfl⟩ := h_147
      refine j_vret dX8_mixReel_150 rfl (by decide) (by decide) ?_
      refine ⟨rfl, rfl, rfl, hk.tr (mKp.ag aL (by omega) (by omega)), ((hx.set).set).set, ?_⟩
      simp only [jset_eq]
      rw [mixI_of t5, f2, f4, (ofV_V hW.1 hrl).bits, hh, show k = 10 by omega]
      rfl
    · refine j_aload_n dX8_mixReel_94 rfl ?_
      refine j_aload_n dX8_mixReel_95 rfl ?_
      refine j_iload_n dX8_mixReel_96 rfl ?_
      refine j_iload_n dX8_mixReel_97 rfl ?_
      refine j_cVi dX8_mixReel_98 hB mo_X8_speedOf ml_X8_58 (sp_X8_speedOf hB h0 hz z3 hr1.2.2.1 hrl.2.2.2.2.2.2.1) (by first | exact h0.1 | exact h0.2.1 | exact h0.2.2.1 | exact h0.2.2.2.1 | exact h0.2.2.2.2.1 | exact h0.2.2.2.2.2.1 | exact h0.2.2.2.2.2.2.1 | exact h0.2.2.2.2.2.2.2.1 | exact h0.2.2.2.2.2.2.2.2) rfl rfl rfl rfl ⟨rfl, rfl, by decide, by decide⟩ (Nat.le_of_ble_eq_true rfl) ⟨by decide, by decide⟩ (fun r_98 V_98 h_98 => ?_)
      obtain ⟨rfl, t1⟩ := h_98
      have t2 := congrArg Int32.toInt t1
      rw [hi] at t2
      refine j_i2l dX8_mixReel_101 ?_
      refine j_cVn dX8_mixReel_102 hB mo_X8_mix ml_X8_222 (sp_X8_mix hB h0) (by first | exact h0.1 | exact h0.2.1 | exact h0.2.2.1 | exact h0.2.2.2.1 | exact h0.2.2.2.2.1 | exact h0.2.2.2.2.2.1 | exact h0.2.2.2.2.2.2.1 | exact h0.2.2.2.2.2.2.2.1 | exact h0.2.2.2.2.2.2.2.2) rfl rfl rfl rfl ⟨rfl, rfl, by decide, by decide⟩ (Nat.le_of_ble_eq_true rfl) ⟨by decide, by decide⟩ (fun T_102 V_102 X_102 sz_102 h_102 => ?_)
      obtain ⟨rfl, rfl, rfl, rfl⟩ := h_102
      refine j_iinc (v := 100) (L' := [(0, _), (1, _), (2, _)]) dX8_mixReel_105 rfl (by decide) (by decide) rfl ?_
      refine j_goto (tgt := 87) dX8_mixReel_108 (by decide) ?_
      refine ih (n - 1) (by omega) (k + 1) _ V1 _ (by omega) ?_ hl hk hx.set ?_
      · exact (ixk (k := 100 * (k + 1)) (iA (hi) (iC 100 (by decide)) (by omega)) (by omega))
      · rw [jx_eq, hh]
        exact mixI_of (by rw [t2, show ((100 * k : Nat) : Int) = 100 * (k : Int) by omega])
  have loopB : ∀ (n k : Nat) (i : Int32) (V1 : jV) (X1 : jX), k + n = (xR x r).1.length → i.toInt = k → lyP V1 q x.1 (xR x r) 0 (xR x r).1.length → mKp V V1 q → xOK X X1 q → X1.1 q 15 = dgSc x.1 (xR x r) (mixN (fun w => rlP x.1 (xR x r) w) (X.1 q 15) 11) k → J l s0 D kX8_mixReel (jR 6 0 0) 0 0 (qN (fun T' V' X' sz' => T = T' ∧ sz = sz' ∧ mKp V V' q ∧ xOK X X' q ∧ X'.1 q 15 = dgRl x.1 (xR x r) (X.1 q 15))) 33 [(0, .ref q), (1, .int r), (2, .int i)] [] T V1 X1 sz 0 0 := by
    intro n
    refine Nat.strongRecOn n ?_
    clear n
    intro n ih k i V1 X1 hn hi hl hk hx hh
    have hm : moIs T V1 q x := h.kp hk
    have hr1 := hm.r hz z3
    have inner : k < (xR x r).1.length → ∀ (n2 k2 : Nat) (j : Int32) (X2 : jX), k2 + n2 = 12 → j.toInt = k2 → xOK X X2 q → X2.1 q 15 = mixN (fun w => scP x.1 (xR x r) k w) (X1.1 q 15) k2 → J l s0 D kX8_mixReel (jR 6 0 0) 0 0 (qN (fun T' V' X' sz' => T = T' ∧ sz = sz' ∧ mKp V V' q ∧ xOK X X' q ∧ X'.1 q 15 = dgRl x.1 (xR x r) (X.1 q 15))) 44 [(0, .ref q), (1, .int r), (2, .int i), (3, .int j)] [] T V1 X2 sz 0 0 := by
      intro hkl n2
      refine Nat.strongRecOn n2 ?_
      clear n2
      intro n2 ih2 k2 j X2 hn2 hj hx2 hh2
      refine j_iload_n dX8_mixReel_44 rfl ?_
      refine j_bipush (v := 12) dX8_mixReel_45 (by decide) ?_
      refine m_icmp_ge (tgt := 68) dX8_mixReel_47 (by decide) (hj) (iC 12 (by decide)) (fun c_47 => ?_) (fun c_47 => ?_)
      · refine j_aload_n dX8_mixReel_68 rfl ?_
        refine j_aload_n dX8_mixReel_69 rfl ?_
        refine j_iload_n dX8_mixReel_70 rfl ?_
        refine j_iload_n dX8_mixReel_71 rfl ?_
        refine j_cVi dX8_mixReel_72 hB mo_X8_bestPieceNow ml_X8_200 (sp_X8_bestPieceNow hB h0 hz z3 hm hW hi hkl hl hkl) (by first | exact h0.1 | exact h0.2.1 | exact h0.2.2.1 | exact h0.2.2.2.1 | exact h0.2.2.2.2.1 | exact h0.2.2.2.2.2.1 | exact h0.2.2.2.2.2.2.1 | exact h0.2.2.2.2.2.2.2.1 | exact h0.2.2.2.2.2.2.2.2) rfl rfl rfl rfl ⟨rfl, rfl, by decide, by decide⟩ (Nat.le_of_ble_eq_true rfl) ⟨by decide, by decide⟩ (fun r_72 V_72 h_72 => ?_)
        obtain ⟨t2, a2⟩ := h_72
        refine j_i2l dX8_mixReel_75 ?_
        refine j_cVn dX8_mixReel_76 hB mo_X8_mix ml_X8_222 (sp_X8_mix hB h0) (by first | exact h0.1 | exact h0.2.1 | exact h0.2.2.1 | exact h0.2.2.2.1 | exact h0.2.2.2.2.1 | exact h0.2.2.2.2.2.1 | exact h0.2.2.2.2.2.2.1 | exact h0.2.2.2.2.2.2.2.1 | exact h0.2.2.2.2.2.2.2.2) rfl rfl rfl rfl ⟨rfl, rfl, by decide, by decide⟩ (Nat.le_of_ble_eq_true rfl) ⟨by decide, by decide⟩ (fun T_76 V_76 X_76 sz_76 h_76 => ?_)
        obtain ⟨rfl, rfl, rfl, rfl⟩ := h_76
        refine j_iinc (v := 1) (L' := [(0, _), (1, _), (2, _), (3, _)]) dX8_mixReel_79 rfl (by decide) (by decide) rfl ?_
        refine j_goto (tgt := 33) dX8_mixReel_82 (by decide) ?_
        refine j_sub2 (L' := [(0, _), (1, _), (2, _)]) (List.forall_mem_cons.mpr ⟨rfl, List.forall_mem_cons.mpr ⟨rfl, List.forall_mem_cons.mpr ⟨rfl, fun _ h9 => nomatch h9⟩⟩⟩) ?_
        refine ih (n - 1) (by omega) (k + 1) _ _ _ (by omega) ?_ (a2.ly hl) (hk.tr a2.kp) hx2.set ?_
        · exact (ixk (k := k + 1) (iA (hi) (iC 1 (by decide)) (by omega)) (by omega))
        · rw [jx_eq, mixI_of t2, hh2, show k2 = 12 by omega, hh]
          rfl
      · refine j_aload_n dX8_mixReel_50 rfl ?_
        refine j_aload_n dX8_mixReel_51 rfl ?_
        refine j_iload_n dX8_mixReel_52 rfl ?_
        refine j_iload_n dX8_mixReel_53 rfl ?_
        refine j_iload_n dX8_mixReel_54 rfl ?_
        refine j_cVi dX8_mixReel_55 hB mo_X8_sceneNow ml_X8_164 (sp_X8_sceneNow hB h0 hz z3 hm hW hi hkl hl hkl (by omega) (by omega)) (by first | exact h0.1 | exact h0.2.1 | exact h0.2.2.1 | exact h0.2.2.2.1 | exact h0.2.2.2.2.1 | exact h0.2.2.2.2.2.1 | exact h0.2.2.2.2.2.2.1 | exact h0.2.2.2.2.2.2.2.1 | exact h0.2.2.2.2.2.2.2.2) rfl rfl rfl rfl ⟨rfl, rfl, by decide, by decide⟩ (Nat.le_of_ble_eq_true rfl) ⟨by decide, by decide⟩ (fun r_55 V_55 h_55 => ?_)
        obtain ⟨rfl, t1⟩ := h_55
        rw [hj] at t1
        refine j_i2l dX8_mixReel_58 ?_
        refine j_cVn dX8_mixReel_59 hB mo_X8_mix ml_X8_222 (sp_X8_mix hB h0) (by first | exact h0.1 | exact h0.2.1 | exact h0.2.2.1 | exact h0.2.2.2.1 | exact h0.2.2.2.2.1 | exact h0.2.2.2.2.2.1 | exact h0.2.2.2.2.2.2.1 | exact h0.2.2.2.2.2.2.2.1 | exact h0.2.2.2.2.2.2.2.2) rfl rfl rfl rfl ⟨rfl, rfl, by decide, by decide⟩ (Nat.le_of_ble_eq_true rfl) ⟨by decide, by decide⟩ (fun T_59 V_59 X_59 sz_59 h_59 => ?_)
        obtain ⟨rfl, rfl, rfl, rfl⟩ := h_59
        refine j_iinc (v := 1) (L' := [(0, _), (1, _), (2, _), (3, _)]) dX8_mixReel_62 rfl (by decide) (by decide) rfl ?_
        refine j_goto (tgt := 44) dX8_mixReel_65 (by decide) ?_
        refine ih2 (n2 - 1) (by omega) (k2 + 1) _ _ (by omega) ?_ hx2.set ?_
        · exact (ixk (k := k2 + 1) (iA (hj) (iC 1 (by decide)) (by omega)) (by omega))
        · rw [jx_eq, hh2]
          exact mixI_of t1
    refine j_iload_n dX8_mixReel_33 rfl ?_
    refine j_aload_n dX8_mixReel_34 rfl ?_
    refine j_iload_n dX8_mixReel_35 rfl ?_
    refine j_cVi dX8_mixReel_36 hB mo_X8_scenes ml_X8_46 (sp_X8_scenes hB h0 (ixk (k := z) (hz) (by omega)) z3) (by first | exact h0.1 | exact h0.2.1 | exact h0.2.2.1 | exact h0.2.2.2.1 | exact h0.2.2.2.2.1 | exact h0.2.2.2.2.2.1 | exact h0.2.2.2.2.2.2.1 | exact h0.2.2.2.2.2.2.2.1 | exact h0.2.2.2.2.2.2.2.2) rfl rfl rfl rfl ⟨rfl, rfl, by decide, by decide⟩ (Nat.le_of_ble_eq_true rfl) ⟨by decide, by decide⟩ (fun r_36 V_36 h_36 => ?_)
    obtain ⟨rfl, h_36⟩ := h_36
    subst h_36
    refine m_icmp_ge (tgt := 85) dX8_mixReel_39 (by decide) (hi) (hr1.1) (fun c_39 => ?_) (fun c_39 => ?_)
    · refine j_iconst (v := 0) dX8_mixReel_85 (by decide) ?_
      refine j_istore_n (L' := [(0, _), (1, _), (2, _)]) dX8_mixReel_86 (by decide) rfl ?_
      exact loopC 10 0 0 V1 X1 rfl rfl hl hk hx (by rw [hh, show k = (xR x r).1.length by omega]; rfl)
    · refine j_iconst (v := 0) dX8_mixReel_42 (by decide) ?_
      refine j_istore_n (L' := [(0, _), (1, _), (2, _), (3, _)]) dX8_mixReel_43 (by decide) rfl ?_
      exact inner (by omega) 12 0 0 X1 rfl rfl hx rfl
  have loopA : ∀ (n k : Nat) (i : Int32) (V1 : jV) (X1 : jX), k + n = 11 → i.toInt = k → lyP V1 q x.1 (xR x r) 0 (xR x r).1.length → mKp V V1 q → xOK X X1 q → X1.1 q 15 = mixN (fun w => rlP x.1 (xR x r) w) (X.1 q 15) k → J l s0 D kX8_mixReel (jR 6 0 0) 0 0 (qN (fun T' V' X' sz' => T = T' ∧ sz = sz' ∧ mKp V V' q ∧ xOK X X' q ∧ X'.1 q 15 = dgRl x.1 (xR x r) (X.1 q 15))) 8 [(0, .ref q), (1, .int r), (2, .int i)] [] T V1 X1 sz 0 0 := by
    intro n
    refine Nat.strongRecOn n ?_
    clear n
    intro n ih k i V1 X1 hn hi hl hk hx hh
    have hm : moIs T V1 q x := h.kp hk
    refine j_iload_n dX8_mixReel_8 rfl ?_
    refine j_bipush (v := 11) dX8_mixReel_9 (by decide) ?_
    refine m_icmp_ge (tgt := 31) dX8_mixReel_11 (by decide) (hi) (iC 11 (by decide)) (fun c_11 => ?_) (fun c_11 => ?_)
    · refine j_iconst (v := 0) dX8_mixReel_31 (by decide) ?_
      refine j_istore_n (L' := [(0, _), (1, _), (2, _)]) dX8_mixReel_32 (by decide) rfl ?_
      exact loopB (xR x r).1.length 0 0 V1 X1 (by omega) rfl hl hk hx (by rw [hh, show k = 11 by omega]; rfl)
    · refine j_aload_n dX8_mixReel_14 rfl ?_
      refine j_aload_n dX8_mixReel_15 rfl ?_
      refine j_iload_n dX8_mixReel_16 rfl ?_
      refine j_iload_n dX8_mixReel_17 rfl ?_
      refine j_cVi dX8_mixReel_18 hB mo_X8_reelNow ml_X8_185 (sp_X8_reelNow hB h0 hz z3 hm hW hl (Nat.le_refl _) (by omega) (by omega)) (by first | exact h0.1 | exact h0.2.1 | exact h0.2.2.1 | exact h0.2.2.2.1 | exact h0.2.2.2.2.1 | exact h0.2.2.2.2.2.1 | exact h0.2.2.2.2.2.2.1 | exact h0.2.2.2.2.2.2.2.1 | exact h0.2.2.2.2.2.2.2.2) rfl rfl rfl rfl ⟨rfl, rfl, by decide, by decide⟩ (Nat.le_of_ble_eq_true rfl) ⟨by decide, by decide⟩ (fun r_18 V_18 h_18 => ?_)
      obtain ⟨rfl, t1⟩ := h_18
      rw [hi] at t1
      refine j_i2l dX8_mixReel_21 ?_
      refine j_cVn dX8_mixReel_22 hB mo_X8_mix ml_X8_222 (sp_X8_mix hB h0) (by first | exact h0.1 | exact h0.2.1 | exact h0.2.2.1 | exact h0.2.2.2.1 | exact h0.2.2.2.2.1 | exact h0.2.2.2.2.2.1 | exact h0.2.2.2.2.2.2.1 | exact h0.2.2.2.2.2.2.2.1 | exact h0.2.2.2.2.2.2.2.2) rfl rfl rfl rfl ⟨rfl, rfl, by decide, by decide⟩ (Nat.le_of_ble_eq_true rfl) ⟨by decide, by decide⟩ (fun T_22 V_22 X_22 sz_22 h_22 => ?_)
      obtain ⟨rfl, rfl, rfl, rfl⟩ := h_22
      refine j_iinc (v := 1) (L' := [(0, _), (1, _), (2, _)]) dX8_mixReel_25 rfl (by decide) (by decide) rfl ?_
      refine j_goto (tgt := 8) dX8_mixReel_28 (by decide) ?_
      refine ih (n - 1) (by omega) (k + 1) _ V1 _ (by omega) ?_ hl hk hx.set ?_
      · exact (ixk (k := k + 1) (iA (hi) (iC 1 (by decide)) (by omega)) (by omega))
      · rw [jx_eq, hh]
        exact mixI_of t1
  refine j_aload_n dX8_mixReel_0 rfl ?_
  refine j_iload_n dX8_mixReel_1 rfl ?_
  refine j_iconst (v := 0) dX8_mixReel_2 (by decide) ?_
  refine j_cVu dX8_mixReel_3 hB mo_X8_lay ml_X8_113 (sp_X8_lay hB h0 hz z3 h hW (Or.inl rfl)) (by first | exact h0.1 | exact h0.2.1 | exact h0.2.2.1 | exact h0.2.2.2.1 | exact h0.2.2.2.2.1 | exact h0.2.2.2.2.2.1 | exact h0.2.2.2.2.2.2.1 | exact h0.2.2.2.2.2.2.2.1 | exact h0.2.2.2.2.2.2.2.2) rfl rfl rfl rfl ⟨rfl, rfl, by decide, by decide⟩ (Nat.le_of_ble_eq_true rfl) ⟨by decide, by decide⟩ (fun V_3 h_3 => ?_)
  obtain ⟨gL, aL⟩ := h_3
  refine j_iconst (v := 0) dX8_mixReel_6 (by decide) ?_
  refine j_istore_n (L' := [(0, _), (1, _), (2, _)]) dX8_mixReel_7 (by decide) rfl ?_
  exact loopA 11 0 0 V_3 X rfl rfl gL (mKp.ag aL (by omega) (by omega)) xOK.rf rfl
set_option maxRecDepth 100000 in
set_option maxHeartbeats 4000000 in
theorem sp_X8_digest (hB : jB l s0 D) {q : Nat} (h0 : moT T q) {x : aX} (h : moIs T V q x) (hW : xW x)  : Sp l s0 D kX8_digest (jR 7 0 0) 0 0 [.ref q] T V X sz (qLN (fun r T' V' X' sz' => T = T' ∧ sz = sz' ∧ jAg V V' q (q + 9) ∧ isI (V' q 0) 0 ∧ moIs T V' q x ∧ xOK X X' q ∧ r = v_dg x)) := by
  refine Sp.of pn_X8_digest rfl (Nat.le_of_ble_eq_true rfl) ?_
  have hl60 := hW.2.2.2.1
  have hl8 := hW.1.2.2.1
  have loopD : ∀ (n k : Nat) (i : Int32) (V1 : jV) (X1 : jX), k + n = x.2.2.length → i.toInt = k → moIs T V1 q x → jAg V V1 q (q + 9) → isI (V1 q 0) 0 → xOK X X1 q → X1.1 q 15 = mixN (fun i => (atZ x.2.2 i).toInt) (mixI (dgR3 x (dgPc x.1 (mixN (fun w => ctP x w) 2237 8) x.1.2.1.1.length) 3) x.2.2.length) k → J l s0 D kX8_digest (jR 7 0 0) 0 0 (qLN (fun r T' V' X' sz' => T = T' ∧ sz = sz' ∧ jAg V V' q (q + 9) ∧ isI (V' q 0) 0 ∧ moIs T V' q x ∧ xOK X X' q ∧ r = v_dg x)) 102 [(0, .ref q), (1, .int i)] [] T V1 X1 sz 0 0 := by
    intro n
    refine Nat.strongRecOn n ?_
    clear n
    intro n ih k i V1 X1 hn hi hm ha ht hx hh
    have hln : isI (V1 q 4) x.2.2.length := hm.2.2.2.1
    refine j_iload_n dX8_digest_102 rfl ?_
    refine j_aload_n dX8_digest_103 rfl ?_
    refine j_geti dX8_digest_104 hB fl_X8_119 (by first | exact h0.1 | exact h0.2.1 | exact h0.2.2.1 | exact h0.2.2.2.1 | exact h0.2.2.2.2.1 | exact h0.2.2.2.2.2.1 | exact h0.2.2.2.2.2.2.1 | exact h0.2.2.2.2.2.2.2.1 | exact h0.2.2.2.2.2.2.2.2) (by rfl) ?_
    refine m_icmp_ge (tgt := 127) dX8_digest_107 (by decide) (hi) (hln) (fun c_107 => ?_) (fun c_107 => ?_)
    · refine j_aload_n dX8_digest_127 rfl ?_
      refine j_getl dX8_digest_128 hB fl_X8_218 (by first | exact h0.1 | exact h0.2.1 | exact h0.2.2.1 | exact h0.2.2.2.1 | exact h0.2.2.2.2.1 | exact h0.2.2.2.2.2.1 | exact h0.2.2.2.2.2.2.1 | exact h0.2.2.2.2.2.2.2.1 | exact h0.2.2.2.2.2.2.2.2) (by rfl) ?_
      refine j_lret dX8_digest_131 rfl (by decide) (by decide) ?_
      refine ⟨_, rfl, rfl, rfl, ha, ht, hm, hx, ?_⟩
      rw [hh, show k = x.2.2.length by omega]; rfl
    · have hlt : k < x.2.2.length := by omega
      have htx : V1 (q + 3) k = atZ x.2.2 k := by
        rw [atZ_nat, List.getD_eq_getElem?_getD]
        have := hm.2.2.2.2 k x.2.2[k] (List.getElem?_eq_getElem hlt)
        rw [List.getElem?_eq_getElem hlt, this]; rfl
      refine j_aload_n dX8_digest_110 rfl ?_
      refine j_aload_n dX8_digest_111 rfl ?_
      refine j_getr dX8_digest_112 hB fl_X8_16 (by first | exact h0.1 | exact h0.2.1 | exact h0.2.2.1 | exact h0.2.2.2.1 | exact h0.2.2.2.2.1 | exact h0.2.2.2.2.2.1 | exact h0.2.2.2.2.2.2.1 | exact h0.2.2.2.2.2.2.2.1 | exact h0.2.2.2.2.2.2.2.2) (by rfl) ?_
      refine j_iload_n dX8_digest_115 rfl ?_
      refine m_iald (k := k) dX8_digest_116 hB (by first | exact h0.1 | exact h0.2.1 | exact h0.2.2.1 | exact h0.2.2.2.1 | exact h0.2.2.2.2.1 | exact h0.2.2.2.2.2.1 | exact h0.2.2.2.2.2.2.1 | exact h0.2.2.2.2.2.2.2.1 | exact h0.2.2.2.2.2.2.2.2) (ixk (hi) (by omega)) (by omega) ?_
      refine j_i2l dX8_digest_117 ?_
      refine j_cVn dX8_digest_118 hB mo_X8_mix ml_X8_222 (sp_X8_mix hB h0) (by first | exact h0.1 | exact h0.2.1 | exact h0.2.2.1 | exact h0.2.2.2.1 | exact h0.2.2.2.2.1 | exact h0.2.2.2.2.2.1 | exact h0.2.2.2.2.2.2.1 | exact h0.2.2.2.2.2.2.2.1 | exact h0.2.2.2.2.2.2.2.2) rfl rfl rfl rfl ⟨rfl, rfl, by decide, by decide⟩ (Nat.le_of_ble_eq_true rfl) ⟨by decide, by decide⟩ (fun T_118 V_118 X_118 sz_118 h_118 => ?_)
      obtain ⟨rfl, rfl, rfl, rfl⟩ := h_118
      refine j_iinc (v := 1) (L' := [(0, _), (1, _)]) dX8_digest_121 rfl (by decide) (by decide) rfl ?_
      refine j_goto (tgt := 102) dX8_digest_124 (by decide) ?_
      refine ih (n - 1) (by omega) (k + 1) _ V1 _ (by omega) ?_ (hm) (ha) (ht) (hx.set) ?_
      · exact (ixk (k := k + 1) (iA (hi) (iC 1 (by decide)) (by omega)) (by omega))
      · rw [jx_eq, hh]
        exact mixI_of (congrArg Int32.toInt htx)
  have loopC : ∀ (n k : Nat) (i : Int32) (V1 : jV) (X1 : jX), k + n = 3 → i.toInt = k → moIs T V1 q x → jAg V V1 q (q + 9) → isI (V1 q 0) 0 → xOK X X1 q → X1.1 q 15 = dgR3 x (dgPc x.1 (mixN (fun w => ctP x w) 2237 8) x.1.2.1.1.length) k → J l s0 D kX8_digest (jR 7 0 0) 0 0 (qLN (fun r T' V' X' sz' => T = T' ∧ sz = sz' ∧ jAg V V' q (q + 9) ∧ isI (V' q 0) 0 ∧ moIs T V' q x ∧ xOK X X' q ∧ r = v_dg x)) 75 [(0, .ref q), (1, .int i)] [] T V1 X1 sz 0 0 := by
    intro n
    refine Nat.strongRecOn n ?_
    clear n
    intro n ih k i V1 X1 hn hi hm ha ht hx hh
    refine j_iload_n dX8_digest_75 rfl ?_
    refine j_iconst (v := 3) dX8_digest_76 (by decide) ?_
    refine m_icmp_ge (tgt := 91) dX8_digest_77 (by decide) (hi) (iC 3 (by decide)) (fun c_77 => ?_) (fun c_77 => ?_)
    · have hln : isI (V1 q 4) x.2.2.length := hm.2.2.2.1
      refine j_aload_n dX8_digest_91 rfl ?_
      refine j_aload_n dX8_digest_92 rfl ?_
      refine j_geti dX8_digest_93 hB fl_X8_119 (by first | exact h0.1 | exact h0.2.1 | exact h0.2.2.1 | exact h0.2.2.2.1 | exact h0.2.2.2.2.1 | exact h0.2.2.2.2.2.1 | exact h0.2.2.2.2.2.2.1 | exact h0.2.2.2.2.2.2.2.1 | exact h0.2.2.2.2.2.2.2.2) (by rfl) ?_
      refine j_i2l dX8_digest_96 ?_
      refine j_cVn dX8_digest_97 hB mo_X8_mix ml_X8_222 (sp_X8_mix hB h0) (by first | exact h0.1 | exact h0.2.1 | exact h0.2.2.1 | exact h0.2.2.2.1 | exact h0.2.2.2.2.1 | exact h0.2.2.2.2.2.1 | exact h0.2.2.2.2.2.2.1 | exact h0.2.2.2.2.2.2.2.1 | exact h0.2.2.2.2.2.2.2.2) rfl rfl rfl rfl ⟨rfl, rfl, by decide, by decide⟩ (Nat.le_of_ble_eq_true rfl) ⟨by decide, by decide⟩ (fun T_97 V_97 X_97 sz_97 h_97 => ?_)
      obtain ⟨rfl, rfl, rfl, rfl⟩ := h_97
      refine j_iconst (v := 0) dX8_digest_100 (by decide) ?_
      refine j_istore_n (L' := [(0, _), (1, _)]) dX8_digest_101 (by decide) rfl ?_
      refine loopD x.2.2.length 0 0 V1 _ (by omega) rfl hm ha ht hx.set ?_
      rw [jx_eq, hh, show k = 3 by omega]
      exact mixI_of hln
    · refine j_aload_n dX8_digest_80 rfl ?_
      refine j_iload_n dX8_digest_81 rfl ?_
      refine j_cVn dX8_digest_82 hB mo_X8_mixReel ml_X8_240 (sp_X8_mixReel hB h0 hi (by omega) hm hW.1) (by first | exact h0.1 | exact h0.2.1 | exact h0.2.2.1 | exact h0.2.2.2.1 | exact h0.2.2.2.2.1 | exact h0.2.2.2.2.2.1 | exact h0.2.2.2.2.2.2.1 | exact h0.2.2.2.2.2.2.2.1 | exact h0.2.2.2.2.2.2.2.2) rfl rfl rfl rfl ⟨rfl, rfl, by decide, by decide⟩ (Nat.le_of_ble_eq_true rfl) ⟨by decide, by decide⟩ (fun T_82 V_82 X_82 sz_82 h_82 => ?_)
      obtain ⟨rfl, rfl, a2, hx2, e2⟩ := h_82
      have ex : xR x i = sR x.1 k := by unfold xR; rw [hi]
      refine j_iinc (v := 1) (L' := [(0, _), (1, _)]) dX8_digest_85 rfl (by decide) (by decide) rfl ?_
      refine j_goto (tgt := 75) dX8_digest_88 (by decide) ?_
      refine ih (n - 1) (by omega) (k + 1) _ _ _ (by omega) ?_ (hm.kp a2) (ha.tr a2.ja) (by rw [a2.2.2.2.2 0 (by omega)]; exact ht) (hx.tr hx2) ?_
      · exact (ixk (k := k + 1) (iA (hi) (iC 1 (by decide)) (by omega)) (by omega))
      · rw [e2, hh, ex]; rfl
  have loopB : ∀ (n k : Nat) (i : Int32) (V1 : jV) (X1 : jX), k + n = 4 * x.1.2.1.1.length → i.toInt = k → moIs T V1 q x → jAg V V1 q (q + 9) → isI (V1 q 0) 0 → xOK X X1 q → X1.1 q 15 = dgK x.1 (mixN (fun w => ctP x w) 2237 8) k → J l s0 D kX8_digest (jR 7 0 0) 0 0 (qLN (fun r T' V' X' sz' => T = T' ∧ sz = sz' ∧ jAg V V' q (q + 9) ∧ isI (V' q 0) 0 ∧ moIs T V' q x ∧ xOK X X' q ∧ r = v_dg x)) 38 [(0, .ref q), (1, .int i)] [] T V1 X1 sz 0 0 := by
    intro n
    refine Nat.strongRecOn n ?_
    clear n
    intro n ih k i V1 X1 hn hi hm ha ht hx hh
    have hpn : isI (V1 (q + 1) 201) x.1.2.1.1.length := hm.2.1.2.2.2.1.1
    refine j_iload_n dX8_digest_38 rfl ?_
    refine j_iconst (v := 4) dX8_digest_39 (by decide) ?_
    refine j_aload_n dX8_digest_40 rfl ?_
    refine j_getr dX8_digest_41 hB fl_X8_7 (by first | exact h0.1 | exact h0.2.1 | exact h0.2.2.1 | exact h0.2.2.2.1 | exact h0.2.2.2.2.1 | exact h0.2.2.2.2.2.1 | exact h0.2.2.2.2.2.2.1 | exact h0.2.2.2.2.2.2.2.1 | exact h0.2.2.2.2.2.2.2.2) (by rfl) ?_
    refine j_sipush (v := 201) dX8_digest_44 (by decide) ?_
    refine m_iald (k := 201) dX8_digest_47 hB (by first | exact h0.1 | exact h0.2.1 | exact h0.2.2.1 | exact h0.2.2.2.1 | exact h0.2.2.2.2.1 | exact h0.2.2.2.2.2.1 | exact h0.2.2.2.2.2.2.1 | exact h0.2.2.2.2.2.2.2.1 | exact h0.2.2.2.2.2.2.2.2) (ixk (iC 201 (by decide)) (by omega)) (by omega) ?_
    refine j_imul dX8_digest_48 ?_
    refine m_icmp_ge (tgt := 73) dX8_digest_49 (by decide) (hi) (iM (iC 4 (by decide)) (hpn) (by omega)) (fun c_49 => ?_) (fun c_49 => ?_)
    · refine j_iconst (v := 0) dX8_digest_73 (by decide) ?_
      refine j_istore_n (L' := [(0, _), (1, _)]) dX8_digest_74 (by decide) rfl ?_
      refine loopC 3 0 0 V1 X1 rfl rfl hm ha ht hx ?_
      rw [hh, show k = 4 * x.1.2.1.1.length by omega, dgK_e]; rfl
    · have w1 : (i / 4).toInt = ((k / 4 : Nat) : Int) := ixz (iD (show isI i (k : Int) from hi) (iC 4 (by decide)) (by omega)) (by omega)
      have w2 : (i - i / 4 * 4).toInt = ((k % 4 : Nat) : Int) := ixz (iS (show isI i (k : Int) from hi) (iM (show isI (i / 4) _ from w1) (iC 4 (by decide)) (by omega)) (by omega)) (by omega)
      refine j_aload_n dX8_digest_52 rfl ?_
      refine j_aload_n dX8_digest_53 rfl ?_
      refine j_iload_n dX8_digest_54 rfl ?_
      refine j_iconst (v := 4) dX8_digest_55 (by decide) ?_
      refine j_idiv dX8_digest_56 (by decide) ?_
      refine j_iload_n dX8_digest_57 rfl ?_
      refine j_iconst (v := 4) dX8_digest_58 (by decide) ?_
      refine j_irem dX8_digest_59 (by decide) ?_
      refine j_cVi dX8_digest_60 hB mo_X8_pieceNow ml_X8_191 (sp_X8_pieceNow hB h0 hm hW.1 (show pcOk x.1 (i / 4) by exact ⟨by rw [w1]; omega, by rw [w1]; omega⟩) (by rw [w2]; omega) (by rw [w2]; omega)) (by first | exact h0.1 | exact h0.2.1 | exact h0.2.2.1 | exact h0.2.2.2.1 | exact h0.2.2.2.2.1 | exact h0.2.2.2.2.2.1 | exact h0.2.2.2.2.2.2.1 | exact h0.2.2.2.2.2.2.2.1 | exact h0.2.2.2.2.2.2.2.2) rfl rfl rfl rfl ⟨rfl, rfl, by decide, by decide⟩ (Nat.le_of_ble_eq_true rfl) ⟨by decide, by decide⟩ (fun r_60 V_60 h_60 => ?_)
      obtain ⟨rfl, t1⟩ := h_60
      rw [w2, ofI_ti w1] at t1
      refine j_i2l dX8_digest_63 ?_
      refine j_cVn dX8_digest_64 hB mo_X8_mix ml_X8_222 (sp_X8_mix hB h0) (by first | exact h0.1 | exact h0.2.1 | exact h0.2.2.1 | exact h0.2.2.2.1 | exact h0.2.2.2.2.1 | exact h0.2.2.2.2.2.1 | exact h0.2.2.2.2.2.2.1 | exact h0.2.2.2.2.2.2.2.1 | exact h0.2.2.2.2.2.2.2.2) rfl rfl rfl rfl ⟨rfl, rfl, by decide, by decide⟩ (Nat.le_of_ble_eq_true rfl) ⟨by decide, by decide⟩ (fun T_64 V_64 X_64 sz_64 h_64 => ?_)
      obtain ⟨rfl, rfl, rfl, rfl⟩ := h_64
      refine j_iinc (v := 1) (L' := [(0, _), (1, _)]) dX8_digest_67 rfl (by decide) (by decide) rfl ?_
      refine j_goto (tgt := 38) dX8_digest_70 (by decide) ?_
      refine ih (n - 1) (by omega) (k + 1) _ V1 _ (by omega) ?_ (hm) (ha) (ht) (hx.set) ?_
      · exact (ixk (k := k + 1) (iA (hi) (iC 1 (by decide)) (by omega)) (by omega))
      · rw [jx_eq, dgK_s, hh]
        exact mixI_of t1
  have loopA : ∀ (n k : Nat) (i : Int32) (V1 : jV) (X1 : jX), k + n = 8 → i.toInt = k → moIs T V1 q x → jAg V V1 q (q + 9) → isI (V1 q 0) 0 → xOK X X1 q → X1.1 q 15 = mixN (fun w => ctP x w) 2237 k → J l s0 D kX8_digest (jR 7 0 0) 0 0 (qLN (fun r T' V' X' sz' => T = T' ∧ sz = sz' ∧ jAg V V' q (q + 9) ∧ isI (V' q 0) 0 ∧ moIs T V' q x ∧ xOK X X' q ∧ r = v_dg x)) 14 [(0, .ref q), (1, .int i)] [] T V1 X1 sz 0 0 := by
    intro n
    refine Nat.strongRecOn n ?_
    clear n
    intro n ih k i V1 X1 hn hi hm ha ht hx hh
    refine j_iload_n dX8_digest_14 rfl ?_
    refine j_bipush (v := 8) dX8_digest_15 (by decide) ?_
    refine m_icmp_ge (tgt := 36) dX8_digest_17 (by decide) (hi) (iC 8 (by decide)) (fun c_17 => ?_) (fun c_17 => ?_)
    · refine j_iconst (v := 0) dX8_digest_36 (by decide) ?_
      refine j_istore_n (L' := [(0, _), (1, _)]) dX8_digest_37 (by decide) rfl ?_
      refine loopB (4 * x.1.2.1.1.length) 0 0 V1 X1 (by omega) rfl hm ha ht hx ?_
      rw [hh, show k = 8 by omega]; rfl
    · refine j_aload_n dX8_digest_20 rfl ?_
      refine j_aload_n dX8_digest_21 rfl ?_
      refine j_iload_n dX8_digest_22 rfl ?_
      refine j_cVi dX8_digest_23 hB mo_X8_counted ml_X8_197 (sp_X8_counted hB h0 hm hW.1 (by omega) (by omega)) (by first | exact h0.1 | exact h0.2.1 | exact h0.2.2.1 | exact h0.2.2.2.1 | exact h0.2.2.2.2.1 | exact h0.2.2.2.2.2.1 | exact h0.2.2.2.2.2.2.1 | exact h0.2.2.2.2.2.2.2.1 | exact h0.2.2.2.2.2.2.2.2) rfl rfl rfl rfl ⟨rfl, rfl, by decide, by decide⟩ (Nat.le_of_ble_eq_true rfl) ⟨by decide, by decide⟩ (fun r_23 V_23 h_23 => ?_)
      obtain ⟨t1, aL⟩ := h_23
      rw [hi] at t1
      refine j_i2l dX8_digest_26 ?_
      refine j_cVn dX8_digest_27 hB mo_X8_mix ml_X8_222 (sp_X8_mix hB h0) (by first | exact h0.1 | exact h0.2.1 | exact h0.2.2.1 | exact h0.2.2.2.1 | exact h0.2.2.2.2.1 | exact h0.2.2.2.2.2.1 | exact h0.2.2.2.2.2.2.1 | exact h0.2.2.2.2.2.2.2.1 | exact h0.2.2.2.2.2.2.2.2) rfl rfl rfl rfl ⟨rfl, rfl, by decide, by decide⟩ (Nat.le_of_ble_eq_true rfl) ⟨by decide, by decide⟩ (fun T_27 V_27 X_27 sz_27 h_27 => ?_)
      obtain ⟨rfl, rfl, rfl, rfl⟩ := h_27
      refine j_iinc (v := 1) (L' := [(0, _), (1, _)]) dX8_digest_30 rfl (by decide) (by decide) rfl ?_
      refine j_goto (tgt := 14) dX8_digest_33 (by decide) ?_
      refine ih (n - 1) (by omega) (k + 1) _ _ _ (by omega) ?_ (hm.kp (mKp.ag aL (by omega) (by omega))) (ha.tr (aL.wide (by omega) (by omega))) (by rw [aL q (by omega)]; exact ht) (hx.set) ?_
      · exact (ixk (k := k + 1) (iA (hi) (iC 1 (by decide)) (by omega)) (by omega))
      · rw [jx_eq, hh]
        exact mixI_of t1
  refine j_aload_n dX8_digest_0 rfl ?_
  refine j_iconst (v := 0) dX8_digest_1 (by decide) ?_
  refine j_puti dX8_digest_2 hB fp_X8_digest_34 (by first | exact h0.1 | exact h0.2.1 | exact h0.2.2.1 | exact h0.2.2.2.1 | exact h0.2.2.2.2.1 | exact h0.2.2.2.2.2.1 | exact h0.2.2.2.2.2.2.1 | exact h0.2.2.2.2.2.2.2.1 | exact h0.2.2.2.2.2.2.2.2) (by rfl) ?_
  generalize hV1 : jset V q 0 0 = V1
  have t1 : isI (V1 q 0) 0 := by rw [← hV1, jset_eq]; decide
  have a1 : jAg V V1 q (q + 9) := by rw [← hV1]; exact jAg.rf.set (by omega) (by omega)
  have h1 : moIs T V1 q x := by rw [← hV1]; exact h.f (by decide) (by decide)
  refine j_aload_n dX8_digest_5 rfl ?_
  refine j_ldc2 dX8_digest_6 hB kc_X8_238 ?_
  refine j_putl dX8_digest_9 hB fp_X8_digest_218 (by first | exact h0.1 | exact h0.2.1 | exact h0.2.2.1 | exact h0.2.2.2.1 | exact h0.2.2.2.2.1 | exact h0.2.2.2.2.2.1 | exact h0.2.2.2.2.2.2.1 | exact h0.2.2.2.2.2.2.2.1 | exact h0.2.2.2.2.2.2.2.2) (by rfl) ?_
  refine j_iconst (v := 0) dX8_digest_12 (by decide) ?_
  refine j_istore_n (L' := [(0, _), (1, _)]) dX8_digest_13 (by decide) rfl ?_
  exact loopA 8 0 0 V1 _ rfl rfl h1 a1 t1 xOK.rf.set jset_eq
end JM19
