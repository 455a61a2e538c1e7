/-! CueSheets: digest -/
theorem mixI_of {h : Int64} {x : Int32} {z : Int} (e : x.toInt = z) : 31 * h + x.toInt64 = mixI h z := by rw [i64_i, e]; rfl
/-- the reels' part, k of them -/
noncomputable def dgR3 (x : aX) (g : Int64) : Nat → Int64
  | 0 => g
  | k + 1 => dgRl x.1 (sR x.1 k) (dgR3 x g k)
section JCuA
variable {l : Launch} {s0 : State} {D : jD} {T : jT} {V : jV} {X : jX} {sz : Nat}
set_option maxRecDepth 100000 in
set_option maxHeartbeats 4000000 in
theorem sp_X7_mixReel (hB : jB l s0 D) {q : Nat} {x : aX} {r : Int32} {h0 : Int64} (h : cuIs T V q x) (hW : stW x.1) : Sp l s0 D kX7_mixReel (jR 6 0 0) 0 0 [.ref q, .long h0, .ref (reelA (q + 1) r.toInt)] T V X sz (qL T X sz (fun v V' => v = dgRl x.1 (sR x.1 r.toInt) h0 ∧ cuIs T V' q x ∧ jAg V V' (q + 461) (q + 492))) := by
  refine Sp.of pn_X7_mixReel rfl (Nat.le_of_ble_eq_true rfl) ?_
  have hrl := hW.r r.toInt
  have h10 := hrl.2.2.2.1
  have k11 : (11 : Int32).toInt = 11 := by decide
  have k12 : (12 : Int32).toInt = 12 := by decide
  have k900 : (900 : Int32).toInt = 900 := by decide
  have k100 : (100 : Int32).toInt = 100 := by decide
  have hs := h.st
  have hr := hs.reel r.toInt
  -- the feet, the speeds, the shares
  have loopC : ∀ (n k : Nat) (i : Int32) (h1 h2 : Int64) (V1 : jV) (L : List (Nat × Value)), L.lookup 0 = some (.ref q) → L.lookup 1 = some (.long h0) → L.lookup 3 = some (.ref (reelA (q + 1) r.toInt)) → L.lookup 4 = some (.long h2) → L.lookup 6 = some (.int i) → i.toInt = 100 * k → k + n = 10 → h1 = dgSc x.1 (sR x.1 r.toInt) (mixN (fun w => rlP x.1 (sR x.1 r.toInt) w) h0 11) (sR x.1 r.toInt).1.length → h2 = mixN (fun i => (pHold (sR x.1 r.toInt).2.2.2.2.1 (100 * i)).toInt) h1 k → cuIs T V1 q x → TmIs T V1 (q + 461) x.1 (sR x.1 r.toInt) 0 → jAg V V1 (q + 461) (q + 492) → J l s0 D kX7_mixReel (jR 6 0 0) 0 0 (qL T X sz (fun v V' => v = dgRl x.1 (sR x.1 r.toInt) h0 ∧ cuIs T V' q x ∧ jAg V V' (q + 461) (q + 492))) 122 L [] T V1 X sz 0 0 := by
    intro n
    induction n with
    | zero =>
      intro k i h1 h2 V1 L l0 l1 l2 l3 l4 hi hk hh1 hh2 hc hT ha
      have hk : k = 10 := by omega
      subst hk
      refine j_sub2 (L' := [(0, .ref q), (1, .long h0), (3, .ref (reelA (q + 1) r.toInt)), (4, .long h2), (6, .int i)]) (List.forall_mem_cons.mpr ⟨l0, List.forall_mem_cons.mpr ⟨l1, List.forall_mem_cons.mpr ⟨l2, List.forall_mem_cons.mpr ⟨l3, List.forall_mem_cons.mpr ⟨l4, fun _ h9 => nomatch h9⟩⟩⟩⟩⟩) ?_
      refine j_iload dX7_mixReel_122 rfl ?_
      refine j_sipush (v := 900) dX7_mixReel_124 (by decide) ?_
      refine j_icmp_gt (tgt := 153) dX7_mixReel_127 (by decide) (fun c_127 => ?_) (fun c_127 => ?_)
      · refine j_lload dX7_mixReel_153 rfl ?_
        refine j_aload_n dX7_mixReel_155 rfl ?_
        refine j_aload_n dX7_mixReel_156 rfl ?_
        refine j_cVi dX7_mixReel_157 hB mo_X7_speedForReel ml_X7_248 (sp_X7_speedForReel hB hc hW) (by first | exact h.k | exact hs.1 | exact hr.1 | exact hr.2.1.1 | exact hr.2.2.1.1 | exact hr.2.2.2.1.1 | exact hr.2.2.2.2.1.1 | exact hr.2.2.2.2.2.1.1 | exact hr.2.2.2.2.2.2.1.1 | exact hs.2.2.2.2.1.1 | exact hs.2.2.2.2.2.1.1 | exact hs.2.2.2.2.2.2.1.1 | exact h.t0.2.2 | exact h.rk.1 | exact h.rk.2.1.1 | exact h.rk.2.2.1.1 | exact h.rk.2.2.2.1.1 | exact h.rk.2.2.2.2.1 | exact h.tk.1 | exact h.tk.2.1.1 | exact h.tk.2.2.1.1 | exact h.tk.2.2.2.1.1 | exact h.tk.2.2.2.2.1.1 | exact h.tk.2.2.2.2.2.1.1 | exact h.tk.2.2.2.2.2.2.1.1 | exact h.tk.2.2.2.2.2.2.2.1 | exact h.tk2.1 | exact h.b.1.1) rfl rfl rfl rfl ⟨rfl, rfl, by decide, by decide⟩ (Nat.le_of_ble_eq_true rfl) ⟨by decide, by decide⟩ (fun r_157 V_157 h_157 => ?_)
        obtain ⟨t1, cS, aS⟩ := h_157
        have hT2 := hT.ag aS (by omega)
        refine j_i2l dX7_mixReel_160 ?_
        refine j_cSl dX7_mixReel_161 hB mo_X7_mix ml_X7_262 (sp_X7_mix hB) rfl rfl ⟨rfl, rfl, by decide, by decide⟩ (Nat.le_of_ble_eq_true rfl) ⟨by decide, by decide⟩ (fun r_161 V_161 h_161 => ?_)
        obtain ⟨rfl, m_161⟩ := h_161
        refine j_lstore (L' := [(0, _), (1, _), (3, _), (4, _), (6, _)]) dX7_mixReel_164 (by decide) rfl ?_
        refine j_lload dX7_mixReel_166 rfl ?_
        refine j_aload_n dX7_mixReel_168 rfl ?_
        refine j_cVf dX7_mixReel_169 hB mo_X7_measuredOffShare ml_X7_252 (sp_X7_measuredOffShare hB cS hW.1 hrl hT2) (by first | exact h.k | exact hs.1 | exact hr.1 | exact hr.2.1.1 | exact hr.2.2.1.1 | exact hr.2.2.2.1.1 | exact hr.2.2.2.2.1.1 | exact hr.2.2.2.2.2.1.1 | exact hr.2.2.2.2.2.2.1.1 | exact hs.2.2.2.2.1.1 | exact hs.2.2.2.2.2.1.1 | exact hs.2.2.2.2.2.2.1.1 | exact h.t0.2.2 | exact h.rk.1 | exact h.rk.2.1.1 | exact h.rk.2.2.1.1 | exact h.rk.2.2.2.1.1 | exact h.rk.2.2.2.2.1 | exact h.tk.1 | exact h.tk.2.1.1 | exact h.tk.2.2.1.1 | exact h.tk.2.2.2.1.1 | exact h.tk.2.2.2.2.1.1 | exact h.tk.2.2.2.2.2.1.1 | exact h.tk.2.2.2.2.2.2.1.1 | exact h.tk.2.2.2.2.2.2.2.1 | exact h.tk2.1 | exact h.b.1.1) rfl rfl rfl rfl ⟨rfl, rfl, by decide, by decide⟩ (Nat.le_of_ble_eq_true rfl) ⟨by decide, by decide⟩ (fun r_169 V_169 h_169 => ?_)
        obtain ⟨rfl, f1⟩ := h_169
        subst f1
        refine j_cSl dX7_mixReel_172 hB mo_X7_floatBits ml_X7_351 (sp_X7_floatBits hB (ofV_S hW.1 hrl)) rfl rfl ⟨rfl, rfl, by decide, by decide⟩ (Nat.le_of_ble_eq_true rfl) ⟨by decide, by decide⟩ (fun r_172 V_172 h_172 => ?_)
        obtain ⟨rfl, f2⟩ := h_172
        refine j_cSl dX7_mixReel_175 hB mo_X7_mix ml_X7_262 (sp_X7_mix hB) rfl rfl ⟨rfl, rfl, by decide, by decide⟩ (Nat.le_of_ble_eq_true rfl) ⟨by decide, by decide⟩ (fun r_175 V_175 h_175 => ?_)
        obtain ⟨rfl, m_175⟩ := h_175
        refine j_lstore (L' := [(0, _), (1, _), (3, _), (4, _), (6, _)]) dX7_mixReel_178 (by decide) rfl ?_
        refine j_lload dX7_mixReel_180 rfl ?_
        refine j_aload_n dX7_mixReel_182 rfl ?_
        refine j_cVd dX7_mixReel_183 hB mo_X7_measuredMeanSpeed ml_X7_256 (sp_X7_measuredMeanSpeed hB cS hW.1 hrl hT2) (by first | exact h.k | exact hs.1 | exact hr.1 | exact hr.2.1.1 | exact hr.2.2.1.1 | exact hr.2.2.2.1.1 | exact hr.2.2.2.2.1.1 | exact hr.2.2.2.2.2.1.1 | exact hr.2.2.2.2.2.2.1.1 | exact hs.2.2.2.2.1.1 | exact hs.2.2.2.2.2.1.1 | exact hs.2.2.2.2.2.2.1.1 | exact h.t0.2.2 | exact h.rk.1 | exact h.rk.2.1.1 | exact h.rk.2.2.1.1 | exact h.rk.2.2.2.1.1 | exact h.rk.2.2.2.2.1 | exact h.tk.1 | exact h.tk.2.1.1 | exact h.tk.2.2.1.1 | exact h.tk.2.2.2.1.1 | exact h.tk.2.2.2.2.1.1 | exact h.tk.2.2.2.2.2.1.1 | exact h.tk.2.2.2.2.2.2.1.1 | exact h.tk.2.2.2.2.2.2.2.1 | exact h.tk2.1 | exact h.b.1.1) rfl rfl rfl rfl ⟨rfl, rfl, by decide, by decide⟩ (Nat.le_of_ble_eq_true rfl) ⟨by decide, by decide⟩ (fun r_183 V_183 h_183 => ?_)
        obtain ⟨rfl, f3⟩ := h_183
        subst f3
        refine j_cSl dX7_mixReel_186 hB mo_X7_doubleBits ml_X7_355 (sp_X7_doubleBits hB (mnV_S hrl).1) rfl rfl ⟨rfl, rfl, by decide, by decide⟩ (Nat.le_of_ble_eq_true rfl) ⟨by decide, by decide⟩ (fun r_186 V_186 h_186 => ?_)
        obtain ⟨rfl, f4⟩ := h_186
        refine j_cSl dX7_mixReel_189 hB mo_X7_mix ml_X7_262 (sp_X7_mix hB) rfl rfl ⟨rfl, rfl, by decide, by decide⟩ (Nat.le_of_ble_eq_true rfl) ⟨by decide, by decide⟩ (fun r_189 V_189 h_189 => ?_)
        obtain ⟨rfl, m_189⟩ := h_189
        refine j_lret dX7_mixReel_192 rfl (by decide) (by decide) ?_
        refine ⟨_, rfl, rfl, rfl, rfl, ?_, cS, ha.tr (aS.wide (by omega) (by omega))⟩
        rw [m_189, f4, m_175, f2, m_161, mixI_of t1, hh2, hh1]; rfl
      · exact absurd c_127 (by omega)
    | succ n ih =>
      intro k i h1 h2 V1 L l0 l1 l2 l3 l4 hi hk hh1 hh2 hc hT ha
      have hr1 := hc.st.reel r.toInt
      refine j_sub2 (L' := [(0, .ref q), (1, .long h0), (3, .ref (reelA (q + 1) r.toInt)), (4, .long h2), (6, .int i)]) (List.forall_mem_cons.mpr ⟨l0, List.forall_mem_cons.mpr ⟨l1, List.forall_mem_cons.mpr ⟨l2, List.forall_mem_cons.mpr ⟨l3, List.forall_mem_cons.mpr ⟨l4, fun _ h9 => nomatch h9⟩⟩⟩⟩⟩) ?_
      refine j_iload dX7_mixReel_122 rfl ?_
      refine j_sipush (v := 900) dX7_mixReel_124 (by decide) ?_
      refine j_icmp_gt (tgt := 153) dX7_mixReel_127 (by decide) (fun c_127 => ?_) (fun c_127 => ?_)
      · exact absurd c_127 (by omega)
      · refine j_lload dX7_mixReel_130 rfl ?_
        refine j_aload_n dX7_mixReel_132 rfl ?_
        refine j_getr dX7_mixReel_133 hB fl_X7_92 (by first | exact h.k | exact hs.1 | exact hr.1 | exact hr.2.1.1 | exact hr.2.2.1.1 | exact hr.2.2.2.1.1 | exact hr.2.2.2.2.1.1 | exact hr.2.2.2.2.2.1.1 | exact hr.2.2.2.2.2.2.1.1 | exact hs.2.2.2.2.1.1 | exact hs.2.2.2.2.2.1.1 | exact hs.2.2.2.2.2.2.1.1 | exact h.t0.2.2 | exact h.rk.1 | exact h.rk.2.1.1 | exact h.rk.2.2.1.1 | exact h.rk.2.2.2.1.1 | exact h.rk.2.2.2.2.1 | exact h.tk.1 | exact h.tk.2.1.1 | exact h.tk.2.2.1.1 | exact h.tk.2.2.2.1.1 | exact h.tk.2.2.2.2.1.1 | exact h.tk.2.2.2.2.2.1.1 | exact h.tk.2.2.2.2.2.2.1.1 | exact h.tk.2.2.2.2.2.2.2.1 | exact h.tk2.1 | exact h.b.1.1) (by rfl) ?_
        refine j_iload dX7_mixReel_136 rfl ?_
        refine j_cVi dX7_mixReel_138 hB mo_X1_valueHoldingAt ml_X7_220 (sp_X1_valueHoldingAt hB hr1.2.2.2.2.2.1) (by first | exact h.k | exact hs.1 | exact hr.1 | exact hr.2.1.1 | exact hr.2.2.1.1 | exact hr.2.2.2.1.1 | exact hr.2.2.2.2.1.1 | exact hr.2.2.2.2.2.1.1 | exact hr.2.2.2.2.2.2.1.1 | exact hs.2.2.2.2.1.1 | exact hs.2.2.2.2.2.1.1 | exact hs.2.2.2.2.2.2.1.1 | exact h.t0.2.2 | exact h.rk.1 | exact h.rk.2.1.1 | exact h.rk.2.2.1.1 | exact h.rk.2.2.2.1.1 | exact h.rk.2.2.2.2.1 | exact h.tk.1 | exact h.tk.2.1.1 | exact h.tk.2.2.1.1 | exact h.tk.2.2.2.1.1 | exact h.tk.2.2.2.2.1.1 | exact h.tk.2.2.2.2.2.1.1 | exact h.tk.2.2.2.2.2.2.1.1 | exact h.tk.2.2.2.2.2.2.2.1 | exact h.tk2.1 | exact h.b.1.1) rfl rfl rfl rfl ⟨rfl, rfl, by decide, by decide⟩ (Nat.le_of_ble_eq_true rfl) ⟨by decide, by decide⟩ (fun r_138 V_138 h_138 => ?_)
        obtain ⟨rfl, t1⟩ := h_138
        have t2 := congrArg Int32.toInt t1
        rw [hi] at t2
        refine j_i2l dX7_mixReel_141 ?_
        refine j_cSl dX7_mixReel_142 hB mo_X7_mix ml_X7_262 (sp_X7_mix hB) rfl rfl ⟨rfl, rfl, by decide, by decide⟩ (Nat.le_of_ble_eq_true rfl) ⟨by decide, by decide⟩ (fun r_142 V_142 h_142 => ?_)
        obtain ⟨rfl, m_142⟩ := h_142
        refine j_lstore (L' := [(0, _), (1, _), (3, _), (4, _), (6, _)]) dX7_mixReel_145 (by decide) rfl ?_
        refine j_iinc (v := 100) (L' := [(0, _), (1, _), (3, _), (4, _), (6, _)]) dX7_mixReel_147 rfl (by decide) (by decide) rfl ?_
        refine j_goto (tgt := 122) dX7_mixReel_150 (by decide) ?_
        refine ih (k + 1) _ h1 _ _ _ rfl rfl rfl rfl rfl ?_ (by omega) hh1 ?_ hc hT ha
        · rw [ti_add (by rw [k100]; omega) (by rw [k100]; omega), k100]; omega
        · rw [m_142, hh2]; exact mixI_of t2
  have loopB : ∀ (n k : Nat) (i : Int32) (g : Int64) (V1 : jV) (L : List (Nat × Value)), L.lookup 0 = some (.ref q) → L.lookup 1 = some (.long h0) → L.lookup 3 = some (.ref (reelA (q + 1) r.toInt)) → L.lookup 4 = some (.long g) → L.lookup 6 = some (.int i) → i.toInt = k → k + n = (sR x.1 r.toInt).1.length → g = dgSc x.1 (sR x.1 r.toInt) (mixN (fun w => rlP x.1 (sR x.1 r.toInt) w) h0 11) k → cuIs T V1 q x → TmIs T V1 (q + 461) x.1 (sR x.1 r.toInt) 0 → jAg V V1 (q + 461) (q + 492) → J l s0 D kX7_mixReel (jR 6 0 0) 0 0 (qL T X sz (fun v V' => v = dgRl x.1 (sR x.1 r.toInt) h0 ∧ cuIs T V' q x ∧ jAg V V' (q + 461) (q + 492))) 50 L [] T V1 X sz 0 0 := by
    intro n
    induction n with
    | zero =>
      intro k i g V1 L l0 l1 l2 l3 l4 hi hk hh hc hT ha
      have hr1 := hc.st.reel r.toInt
      refine j_sub2 (L' := [(0, .ref q), (1, .long h0), (3, .ref (reelA (q + 1) r.toInt)), (4, .long g), (6, .int i)]) (List.forall_mem_cons.mpr ⟨l0, List.forall_mem_cons.mpr ⟨l1, List.forall_mem_cons.mpr ⟨l2, List.forall_mem_cons.mpr ⟨l3, List.forall_mem_cons.mpr ⟨l4, fun _ h9 => nomatch h9⟩⟩⟩⟩⟩) ?_
      refine j_iload dX7_mixReel_50 rfl ?_
      refine j_aload_n dX7_mixReel_52 rfl ?_
      refine j_cVi dX7_mixReel_53 hB mo_X2_scenes ml_X7_64 (sp_X2_scenes hB hr1) (by first | exact h.k | exact hs.1 | exact hr.1 | exact hr.2.1.1 | exact hr.2.2.1.1 | exact hr.2.2.2.1.1 | exact hr.2.2.2.2.1.1 | exact hr.2.2.2.2.2.1.1 | exact hr.2.2.2.2.2.2.1.1 | exact hs.2.2.2.2.1.1 | exact hs.2.2.2.2.2.1.1 | exact hs.2.2.2.2.2.2.1.1 | exact h.t0.2.2 | exact h.rk.1 | exact h.rk.2.1.1 | exact h.rk.2.2.1.1 | exact h.rk.2.2.2.1.1 | exact h.rk.2.2.2.2.1 | exact h.tk.1 | exact h.tk.2.1.1 | exact h.tk.2.2.1.1 | exact h.tk.2.2.2.1.1 | exact h.tk.2.2.2.2.1.1 | exact h.tk.2.2.2.2.2.1.1 | exact h.tk.2.2.2.2.2.2.1.1 | exact h.tk.2.2.2.2.2.2.2.1 | exact h.tk2.1 | exact h.b.1.1) rfl rfl rfl rfl ⟨rfl, rfl, by decide, by decide⟩ (Nat.le_of_ble_eq_true rfl) ⟨by decide, by decide⟩ (fun r_53 V_53 h_53 => ?_)
      obtain ⟨rfl, hn⟩ := h_53
      refine j_icmp_ge (tgt := 119) dX7_mixReel_56 (by decide) (fun c_56 => ?_) (fun c_56 => ?_)
      · refine j_iconst (v := 0) dX7_mixReel_119 (by decide) ?_
        refine j_istore (L' := [(0, _), (1, _), (3, _), (4, _), (6, _)]) dX7_mixReel_120 (by decide) rfl ?_
        exact loopC 10 0 0 g g V1 _ rfl rfl rfl rfl rfl rfl rfl (by rw [hh, show k = (sR x.1 r.toInt).1.length by omega]) rfl hc hT ha
      · exact absurd c_56 (by omega)
    | succ n ih =>
      intro k i g V1 L l0 l1 l2 l3 l4 hi hk hh hc hT ha
      have hr1 := hc.st.reel r.toInt
      have hin : ∀ (n2 k2 : Nat) (j : Int32) (h3 : Int64), j.toInt = k2 → k2 + n2 = 12 → h3 = mixN (fun w => scP x.1 (sR x.1 r.toInt) k w) g k2 → J l s0 D kX7_mixReel (jR 6 0 0) 0 0 (qL T X sz (fun v V' => v = dgRl x.1 (sR x.1 r.toInt) h0 ∧ cuIs T V' q x ∧ jAg V V' (q + 461) (q + 492))) 62 [(0, .ref q), (1, .long h0), (3, .ref (reelA (q + 1) r.toInt)), (4, .long h3), (6, .int i), (7, .int j)] [] T V1 X sz 0 0 := by
        intro n2
        induction n2 with
        | zero =>
          intro k2 j h3 hj hk2 hh3
          have hk2' : k2 = 12 := by omega
          subst hk2'
          have hro := aRoom_rng hW.1 hrl (w := 0) (Or.inl rfl) (show k < (sR x.1 r.toInt).1.length by omega)
          refine j_iload dX7_mixReel_62 rfl ?_
          refine j_bipush (v := 12) dX7_mixReel_64 (by decide) ?_
          refine j_icmp_ge (tgt := 92) dX7_mixReel_66 (by decide) (fun c_66 => ?_) (fun c_66 => ?_)
          · refine j_lload dX7_mixReel_92 rfl ?_
            refine j_aload_n dX7_mixReel_94 rfl ?_
            refine j_aload_n dX7_mixReel_95 rfl ?_
            refine j_getr dX7_mixReel_96 hB fl_X7_39 (by first | exact h.k | exact hs.1 | exact hr.1 | exact hr.2.1.1 | exact hr.2.2.1.1 | exact hr.2.2.2.1.1 | exact hr.2.2.2.2.1.1 | exact hr.2.2.2.2.2.1.1 | exact hr.2.2.2.2.2.2.1.1 | exact hs.2.2.2.2.1.1 | exact hs.2.2.2.2.2.1.1 | exact hs.2.2.2.2.2.2.1.1 | exact h.t0.2.2 | exact h.rk.1 | exact h.rk.2.1.1 | exact h.rk.2.2.1.1 | exact h.rk.2.2.2.1.1 | exact h.rk.2.2.2.2.1 | exact h.tk.1 | exact h.tk.2.1.1 | exact h.tk.2.2.1.1 | exact h.tk.2.2.2.1.1 | exact h.tk.2.2.2.2.1.1 | exact h.tk.2.2.2.2.2.1.1 | exact h.tk.2.2.2.2.2.2.1.1 | exact h.tk.2.2.2.2.2.2.2.1 | exact h.tk2.1 | exact h.b.1.1) (by rfl) ?_
            refine j_iload dX7_mixReel_99 rfl ?_
            refine j_cVi dX7_mixReel_101 hB mo_X6_roomForCue ml_X7_230 (sp_X6_roomForCue hB hT hW.1 hrl (Or.inl rfl) (by omega) hi) (by first | exact h.k | exact hs.1 | exact hr.1 | exact hr.2.1.1 | exact hr.2.2.1.1 | exact hr.2.2.2.1.1 | exact hr.2.2.2.2.1.1 | exact hr.2.2.2.2.2.1.1 | exact hr.2.2.2.2.2.2.1.1 | exact hs.2.2.2.2.1.1 | exact hs.2.2.2.2.2.1.1 | exact hs.2.2.2.2.2.2.1.1 | exact h.t0.2.2 | exact h.rk.1 | exact h.rk.2.1.1 | exact h.rk.2.2.1.1 | exact h.rk.2.2.2.1.1 | exact h.rk.2.2.2.2.1 | exact h.tk.1 | exact h.tk.2.1.1 | exact h.tk.2.2.1.1 | exact h.tk.2.2.2.1.1 | exact h.tk.2.2.2.2.1.1 | exact h.tk.2.2.2.2.2.1.1 | exact h.tk.2.2.2.2.2.2.1.1 | exact h.tk.2.2.2.2.2.2.2.1 | exact h.tk2.1 | exact h.b.1.1) rfl rfl rfl rfl ⟨rfl, rfl, by decide, by decide⟩ (Nat.le_of_ble_eq_true rfl) ⟨by decide, by decide⟩ (fun r_101 V_101 h_101 => ?_)
            obtain ⟨rfl, y2⟩ := h_101
            refine j_cVi dX7_mixReel_104 hB mo_X7_pieceForRoom ml_X7_242 (sp_X7_pieceForRoom hB hc hW (by omega) (by omega)) (by first | exact h.k | exact hs.1 | exact hr.1 | exact hr.2.1.1 | exact hr.2.2.1.1 | exact hr.2.2.2.1.1 | exact hr.2.2.2.2.1.1 | exact hr.2.2.2.2.2.1.1 | exact hr.2.2.2.2.2.2.1.1 | exact hs.2.2.2.2.1.1 | exact hs.2.2.2.2.2.1.1 | exact hs.2.2.2.2.2.2.1.1 | exact h.t0.2.2 | exact h.rk.1 | exact h.rk.2.1.1 | exact h.rk.2.2.1.1 | exact h.rk.2.2.2.1.1 | exact h.rk.2.2.2.2.1 | exact h.tk.1 | exact h.tk.2.1.1 | exact h.tk.2.2.1.1 | exact h.tk.2.2.2.1.1 | exact h.tk.2.2.2.2.1.1 | exact h.tk.2.2.2.2.2.1.1 | exact h.tk.2.2.2.2.2.2.1.1 | exact h.tk.2.2.2.2.2.2.2.1 | exact h.tk2.1 | exact h.b.1.1) rfl rfl rfl rfl ⟨rfl, rfl, by decide, by decide⟩ (Nat.le_of_ble_eq_true rfl) ⟨by decide, by decide⟩ (fun r_104 V_104 h_104 => ?_)
            obtain ⟨t1, cC, aC⟩ := h_104
            rw [y2] at t1
            refine j_i2l dX7_mixReel_107 ?_
            refine j_cSl dX7_mixReel_108 hB mo_X7_mix ml_X7_262 (sp_X7_mix hB) rfl rfl ⟨rfl, rfl, by decide, by decide⟩ (Nat.le_of_ble_eq_true rfl) ⟨by decide, by decide⟩ (fun r_108 V_108 h_108 => ?_)
            obtain ⟨rfl, m_108⟩ := h_108
            refine j_lstore (L' := [(0, _), (1, _), (3, _), (4, _), (6, _), (7, _)]) dX7_mixReel_111 (by decide) rfl ?_
            refine j_iinc (v := 1) (L' := [(0, _), (1, _), (3, _), (4, _), (6, _), (7, _)]) dX7_mixReel_113 rfl (by decide) (by decide) rfl ?_
            refine j_goto (tgt := 50) dX7_mixReel_116 (by decide) ?_
            refine ih (k + 1) _ _ V_104 _ rfl rfl rfl rfl rfl ?_ (by omega) ?_ cC (hT.ag aC (by omega)) (ha.tr (aC.wide (by omega) (by omega)))
            · rw [ti_add (by rw [ti_1]; omega) (by rw [ti_1]; omega), ti_1]; omega
            · rw [m_108, mixI_of t1, hh3, hh]; rfl
          · exact absurd c_66 (by omega)
        | succ n2 ih2 =>
          intro k2 j h3 hj hk2 hh3
          refine j_iload dX7_mixReel_62 rfl ?_
          refine j_bipush (v := 12) dX7_mixReel_64 (by decide) ?_
          refine j_icmp_ge (tgt := 92) dX7_mixReel_66 (by decide) (fun c_66 => ?_) (fun c_66 => ?_)
          · exact absurd c_66 (by omega)
          · refine j_lload dX7_mixReel_69 rfl ?_
            refine j_aload_n dX7_mixReel_71 rfl ?_
            refine j_aload_n dX7_mixReel_72 rfl ?_
            refine j_iload dX7_mixReel_73 rfl ?_
            refine j_iload dX7_mixReel_75 rfl ?_
            refine j_cVi dX7_mixReel_77 hB mo_X7_sceneProperty ml_X7_212 (sp_X7_sceneProperty hB hc hW hT hi (by omega) (by omega) (by omega)) (by first | exact h.k | exact hs.1 | exact hr.1 | exact hr.2.1.1 | exact hr.2.2.1.1 | exact hr.2.2.2.1.1 | exact hr.2.2.2.2.1.1 | exact hr.2.2.2.2.2.1.1 | exact hr.2.2.2.2.2.2.1.1 | exact hs.2.2.2.2.1.1 | exact hs.2.2.2.2.2.1.1 | exact hs.2.2.2.2.2.2.1.1 | exact h.t0.2.2 | exact h.rk.1 | exact h.rk.2.1.1 | exact h.rk.2.2.1.1 | exact h.rk.2.2.2.1.1 | exact h.rk.2.2.2.2.1 | exact h.tk.1 | exact h.tk.2.1.1 | exact h.tk.2.2.1.1 | exact h.tk.2.2.2.1.1 | exact h.tk.2.2.2.2.1.1 | exact h.tk.2.2.2.2.2.1.1 | exact h.tk.2.2.2.2.2.2.1.1 | exact h.tk.2.2.2.2.2.2.2.1 | exact h.tk2.1 | exact h.b.1.1) rfl rfl rfl rfl ⟨rfl, rfl, by decide, by decide⟩ (Nat.le_of_ble_eq_true rfl) ⟨by decide, by decide⟩ (fun r_77 V_77 h_77 => ?_)
            obtain ⟨rfl, t_77⟩ := h_77
            rw [hj] at t_77
            refine j_i2l dX7_mixReel_80 ?_
            refine j_cSl dX7_mixReel_81 hB mo_X7_mix ml_X7_262 (sp_X7_mix hB) rfl rfl ⟨rfl, rfl, by decide, by decide⟩ (Nat.le_of_ble_eq_true rfl) ⟨by decide, by decide⟩ (fun r_81 V_81 h_81 => ?_)
            obtain ⟨rfl, m_81⟩ := h_81
            refine j_lstore (L' := [(0, _), (1, _), (3, _), (4, _), (6, _), (7, _)]) dX7_mixReel_84 (by decide) rfl ?_
            refine j_iinc (v := 1) (L' := [(0, _), (1, _), (3, _), (4, _), (6, _), (7, _)]) dX7_mixReel_86 rfl (by decide) (by decide) rfl ?_
            refine j_goto (tgt := 62) dX7_mixReel_89 (by decide) ?_
            refine ih2 (k2 + 1) _ _ ?_ (by omega) ?_
            · rw [ti_add (by rw [ti_1]; omega) (by rw [ti_1]; omega), ti_1]; omega
            · rw [m_81, hh3]; exact mixI_of t_77
      refine j_sub2 (L' := [(0, .ref q), (1, .long h0), (3, .ref (reelA (q + 1) r.toInt)), (4, .long g), (6, .int i)]) (List.forall_mem_cons.mpr ⟨l0, List.forall_mem_cons.mpr ⟨l1, List.forall_mem_cons.mpr ⟨l2, List.forall_mem_cons.mpr ⟨l3, List.forall_mem_cons.mpr ⟨l4, fun _ h9 => nomatch h9⟩⟩⟩⟩⟩) ?_
      refine j_iload dX7_mixReel_50 rfl ?_
      refine j_aload_n dX7_mixReel_52 rfl ?_
      refine j_cVi dX7_mixReel_53 hB mo_X2_scenes ml_X7_64 (sp_X2_scenes hB hr1) (by first | exact h.k | exact hs.1 | exact hr.1 | exact hr.2.1.1 | exact hr.2.2.1.1 | exact hr.2.2.2.1.1 | exact hr.2.2.2.2.1.1 | exact hr.2.2.2.2.2.1.1 | exact hr.2.2.2.2.2.2.1.1 | exact hs.2.2.2.2.1.1 | exact hs.2.2.2.2.2.1.1 | exact hs.2.2.2.2.2.2.1.1 | exact h.t0.2.2 | exact h.rk.1 | exact h.rk.2.1.1 | exact h.rk.2.2.1.1 | exact h.rk.2.2.2.1.1 | exact h.rk.2.2.2.2.1 | exact h.tk.1 | exact h.tk.2.1.1 | exact h.tk.2.2.1.1 | exact h.tk.2.2.2.1.1 | exact h.tk.2.2.2.2.1.1 | exact h.tk.2.2.2.2.2.1.1 | exact h.tk.2.2.2.2.2.2.1.1 | exact h.tk.2.2.2.2.2.2.2.1 | exact h.tk2.1 | exact h.b.1.1) rfl rfl rfl rfl ⟨rfl, rfl, by decide, by decide⟩ (Nat.le_of_ble_eq_true rfl) ⟨by decide, by decide⟩ (fun r_53 V_53 h_53 => ?_)
      obtain ⟨rfl, hn⟩ := h_53
      refine j_icmp_ge (tgt := 119) dX7_mixReel_56 (by decide) (fun c_56 => ?_) (fun c_56 => ?_)
      · exact absurd c_56 (by omega)
      · refine j_iconst (v := 0) dX7_mixReel_59 (by decide) ?_
        refine j_istore (L' := [(0, _), (1, _), (3, _), (4, _), (6, _), (7, _)]) dX7_mixReel_60 (by decide) rfl ?_
        exact hin 12 0 0 g rfl rfl rfl
  have loopA : ∀ (n k : Nat) (i : Int32) (g : Int64) (V1 : jV), i.toInt = k → k + n = 11 → g = mixN (fun w => rlP x.1 (sR x.1 r.toInt) w) h0 k → cuIs T V1 q x → TmIs T V1 (q + 461) x.1 (sR x.1 r.toInt) 0 → jAg V V1 (q + 461) (q + 492) → J l s0 D kX7_mixReel (jR 6 0 0) 0 0 (qL T X sz (fun v V' => v = dgRl x.1 (sR x.1 r.toInt) h0 ∧ cuIs T V' q x ∧ jAg V V' (q + 461) (q + 492))) 19 [(0, .ref q), (1, .long h0), (3, .ref (reelA (q + 1) r.toInt)), (4, .long g), (6, .int i)] [] T V1 X sz 0 0 := by
    intro n
    induction n with
    | zero =>
      intro k i g V1 hi hk hh hc hT ha
      have hk : k = 11 := by omega
      subst hk
      refine j_iload dX7_mixReel_19 rfl ?_
      refine j_bipush (v := 11) dX7_mixReel_21 (by decide) ?_
      refine j_icmp_ge (tgt := 47) dX7_mixReel_23 (by decide) (fun c_23 => ?_) (fun c_23 => ?_)
      · refine j_iconst (v := 0) dX7_mixReel_47 (by decide) ?_
        refine j_istore (L' := [(0, _), (1, _), (3, _), (4, _), (6, _)]) dX7_mixReel_48 (by decide) rfl ?_
        exact loopB (sR x.1 r.toInt).1.length 0 0 g V1 _ rfl rfl rfl rfl rfl rfl (by omega) hh hc hT ha
      · exact absurd c_23 (by omega)
    | succ n ih =>
      intro k i g V1 hi hk hh hc hT ha
      refine j_iload dX7_mixReel_19 rfl ?_
      refine j_bipush (v := 11) dX7_mixReel_21 (by decide) ?_
      refine j_icmp_ge (tgt := 47) dX7_mixReel_23 (by decide) (fun c_23 => ?_) (fun c_23 => ?_)
      · exact absurd c_23 (by omega)
      · refine j_lload dX7_mixReel_26 rfl ?_
        refine j_aload_n dX7_mixReel_28 rfl ?_
        refine j_aload_n dX7_mixReel_29 rfl ?_
        refine j_iload dX7_mixReel_30 rfl ?_
        refine j_cVi dX7_mixReel_32 hB mo_X7_reelProperty ml_X7_216 (sp_X7_reelProperty hB hc hW hT (by omega) (by omega)) (by first | exact h.k | exact hs.1 | exact hr.1 | exact hr.2.1.1 | exact hr.2.2.1.1 | exact hr.2.2.2.1.1 | exact hr.2.2.2.2.1.1 | exact hr.2.2.2.2.2.1.1 | exact hr.2.2.2.2.2.2.1.1 | exact hs.2.2.2.2.1.1 | exact hs.2.2.2.2.2.1.1 | exact hs.2.2.2.2.2.2.1.1 | exact h.t0.2.2 | exact h.rk.1 | exact h.rk.2.1.1 | exact h.rk.2.2.1.1 | exact h.rk.2.2.2.1.1 | exact h.rk.2.2.2.2.1 | exact h.tk.1 | exact h.tk.2.1.1 | exact h.tk.2.2.1.1 | exact h.tk.2.2.2.1.1 | exact h.tk.2.2.2.2.1.1 | exact h.tk.2.2.2.2.2.1.1 | exact h.tk.2.2.2.2.2.2.1.1 | exact h.tk.2.2.2.2.2.2.2.1 | exact h.tk2.1 | exact h.b.1.1) rfl rfl rfl rfl ⟨rfl, rfl, by decide, by decide⟩ (Nat.le_of_ble_eq_true rfl) ⟨by decide, by decide⟩ (fun r_32 V_32 h_32 => ?_)
        obtain ⟨rfl, t_32⟩ := h_32
        rw [hi] at t_32
        refine j_i2l dX7_mixReel_35 ?_
        refine j_cSl dX7_mixReel_36 hB mo_X7_mix ml_X7_262 (sp_X7_mix hB) rfl rfl ⟨rfl, rfl, by decide, by decide⟩ (Nat.le_of_ble_eq_true rfl) ⟨by decide, by decide⟩ (fun r_36 V_36 h_36 => ?_)
        obtain ⟨rfl, m_36⟩ := h_36
        refine j_lstore (L' := [(0, _), (1, _), (3, _), (4, _), (6, _)]) dX7_mixReel_39 (by decide) rfl ?_
        refine j_iinc (v := 1) (L' := [(0, _), (1, _), (3, _), (4, _), (6, _)]) dX7_mixReel_41 rfl (by decide) (by decide) rfl ?_
        refine j_goto (tgt := 19) dX7_mixReel_44 (by decide) ?_
        refine ih (k + 1) _ _ V1 ?_ (by omega) ?_ hc hT ha
        · rw [ti_add (by rw [ti_1]; omega) (by rw [ti_1]; omega), ti_1]; omega
        · rw [m_36, hh]; exact mixI_of t_32
  refine j_lload_n dX7_mixReel_0 rfl ?_
  refine j_lstore (L' := [(0, _), (1, _), (3, _), (4, _)]) dX7_mixReel_1 (by decide) rfl ?_
  refine j_aload_n dX7_mixReel_3 rfl ?_
  refine j_getr dX7_mixReel_4 hB fl_X7_39 (by first | exact h.k | exact hs.1 | exact hr.1 | exact hr.2.1.1 | exact hr.2.2.1.1 | exact hr.2.2.2.1.1 | exact hr.2.2.2.2.1.1 | exact hr.2.2.2.2.2.1.1 | exact hr.2.2.2.2.2.2.1.1 | exact hs.2.2.2.2.1.1 | exact hs.2.2.2.2.2.1.1 | exact hs.2.2.2.2.2.2.1.1 | exact h.t0.2.2 | exact h.rk.1 | exact h.rk.2.1.1 | exact h.rk.2.2.1.1 | exact h.rk.2.2.2.1.1 | exact h.rk.2.2.2.2.1 | exact h.tk.1 | exact h.tk.2.1.1 | exact h.tk.2.2.1.1 | exact h.tk.2.2.2.1.1 | exact h.tk.2.2.2.2.1.1 | exact h.tk.2.2.2.2.2.1.1 | exact h.tk.2.2.2.2.2.2.1.1 | exact h.tk.2.2.2.2.2.2.2.1 | exact h.tk2.1 | exact h.b.1.1) (by rfl) ?_
  refine j_aload_n dX7_mixReel_7 rfl ?_
  refine j_getr dX7_mixReel_8 hB fl_X7_10 (by first | exact h.k | exact hs.1 | exact hr.1 | exact hr.2.1.1 | exact hr.2.2.1.1 | exact hr.2.2.2.1.1 | exact hr.2.2.2.2.1.1 | exact hr.2.2.2.2.2.1.1 | exact hr.2.2.2.2.2.2.1.1 | exact hs.2.2.2.2.1.1 | exact hs.2.2.2.2.2.1.1 | exact hs.2.2.2.2.2.2.1.1 | exact h.t0.2.2 | exact h.rk.1 | exact h.rk.2.1.1 | exact h.rk.2.2.1.1 | exact h.rk.2.2.2.1.1 | exact h.rk.2.2.2.2.1 | exact h.tk.1 | exact h.tk.2.1.1 | exact h.tk.2.2.1.1 | exact h.tk.2.2.2.1.1 | exact h.tk.2.2.2.2.1.1 | exact h.tk.2.2.2.2.2.1.1 | exact h.tk.2.2.2.2.2.2.1.1 | exact h.tk.2.2.2.2.2.2.2.1 | exact h.tk2.1 | exact h.b.1.1) (by rfl) ?_
  refine j_aload_n dX7_mixReel_11 rfl ?_
  refine j_iconst (v := 0) dX7_mixReel_12 (by decide) ?_
  refine j_cVu dX7_mixReel_13 hB mo_X6_measure ml_X7_141 (sp_X6_measure hB h.tk h.st (hr) (by omega) (by have := reelA_in (q + 1) r.toInt; omega) hW.1 (hW.r _) (Or.inl rfl) hW.2.1.1) (by first | exact h.k | exact hs.1 | exact hr.1 | exact hr.2.1.1 | exact hr.2.2.1.1 | exact hr.2.2.2.1.1 | exact hr.2.2.2.2.1.1 | exact hr.2.2.2.2.2.1.1 | exact hr.2.2.2.2.2.2.1.1 | exact hs.2.2.2.2.1.1 | exact hs.2.2.2.2.2.1.1 | exact hs.2.2.2.2.2.2.1.1 | exact h.t0.2.2 | exact h.rk.1 | exact h.rk.2.1.1 | exact h.rk.2.2.1.1 | exact h.rk.2.2.2.1.1 | exact h.rk.2.2.2.2.1 | exact h.tk.1 | exact h.tk.2.1.1 | exact h.tk.2.2.1.1 | exact h.tk.2.2.2.1.1 | exact h.tk.2.2.2.2.1.1 | exact h.tk.2.2.2.2.2.1.1 | exact h.tk.2.2.2.2.2.2.1.1 | exact h.tk.2.2.2.2.2.2.2.1 | exact h.tk2.1 | exact h.b.1.1) rfl rfl rfl rfl ⟨rfl, rfl, by decide, by decide⟩ (Nat.le_of_ble_eq_true rfl) ⟨by decide, by decide⟩ (fun V_13 h_13 => ?_)
  obtain ⟨gT, aT⟩ := h_13
  have gT : TmIs T V_13 (q + 461) x.1 _ 0 := gT
  have cT := h.tm aT gT.k
  refine j_iconst (v := 0) dX7_mixReel_16 (by decide) ?_
  refine j_istore (L' := [(0, _), (1, _), (3, _), (4, _), (6, _)]) dX7_mixReel_17 (by decide) rfl ?_
  exact loopA 11 0 0 h0 V_13 rfl rfl rfl cT gT (aT.wide (by omega) (by omega))
set_option maxRecDepth 100000 in
set_option maxHeartbeats 4000000 in
theorem sp_X7_digest (hB : jB l s0 D) {q : Nat} {x : aX} (h : cuIs T V q x) (hW : xW x) : Sp l s0 D kX7_digest (jR 7 0 0) 0 0 [.ref q] T V X sz (qC T V X sz q (0) [] (fun v => v = some (.long (v_dg x))) x (x)) := by
  refine Sp.of pn_X7_digest rfl (Nat.le_of_ble_eq_true rfl) ?_
  have hs := h.st
  have k8 : (8 : Int32).toInt = 8 := by decide
  have k4 : (4 : Int32).toInt = 4 := by decide
  have k3 : (3 : Int32).toInt = 3 := by decide
  have hl8 := hW.1.2.2.1
  have hl60 := hW.2.2.2.1
  have loopD : ∀ (n k : Nat) (i : Int32) (g h1 : Int64) (V1 : jV) (L : List (Nat × Value)), L.lookup 0 = some (.ref q) → L.lookup 1 = some (.long g) → L.lookup 3 = some (.int i) → i.toInt = k → k + n = x.2.2.length → h1 = mixI (dgR3 x (dgPc x.1 (mixN (fun w => ctP x w) 2237 8) x.1.2.1.1.length) 3) x.2.2.length → g = mixN (fun i => (atZ x.2.2 i).toInt) h1 k → cuIs T V1 q x → jAg V V1 q (q + 492) → J l s0 D kX7_digest (jR 7 0 0) 0 0 (qC T V X sz q 0 [] (fun v => v = some (.long (v_dg x))) x x) 118 L [] T V1 X sz 0 0 := by
    intro n
    induction n with
    | zero =>
      intro k i g h1 V1 L l0 l1 l2 hi hk hh1 hh hc ha
      refine j_sub2 (L' := [(0, .ref q), (1, .long g), (3, .int i)]) (List.forall_mem_cons.mpr ⟨l0, List.forall_mem_cons.mpr ⟨l1, List.forall_mem_cons.mpr ⟨l2, fun _ h9 => nomatch h9⟩⟩⟩) ?_
      refine j_iload_n dX7_digest_118 rfl ?_
      refine j_aload_n dX7_digest_119 rfl ?_
      refine j_getr dX7_digest_120 hB fl_X7_25 (by first | exact h.k | exact hs.1 | exact hr.1 | exact hr.2.1.1 | exact hr.2.2.1.1 | exact hr.2.2.2.1.1 | exact hr.2.2.2.2.1.1 | exact hr.2.2.2.2.2.1.1 | exact hr.2.2.2.2.2.2.1.1 | exact hs.2.2.2.2.1.1 | exact hs.2.2.2.2.2.1.1 | exact hs.2.2.2.2.2.2.1.1 | exact h.t0.2.2 | exact h.rk.1 | exact h.rk.2.1.1 | exact h.rk.2.2.1.1 | exact h.rk.2.2.2.1.1 | exact h.rk.2.2.2.2.1 | exact h.tk.1 | exact h.tk.2.1.1 | exact h.tk.2.2.1.1 | exact h.tk.2.2.2.1.1 | exact h.tk.2.2.2.2.1.1 | exact h.tk.2.2.2.2.2.1.1 | exact h.tk.2.2.2.2.2.2.1.1 | exact h.tk.2.2.2.2.2.2.2.1 | exact h.tk2.1 | exact h.b.1.1) (by rfl) ?_
      refine j_cVi dX7_digest_123 hB mo_X3_size ml_X7_166 (sp_X3_size hB hc.b.1) (by first | exact h.k | exact hs.1 | exact hr.1 | exact hr.2.1.1 | exact hr.2.2.1.1 | exact hr.2.2.2.1.1 | exact hr.2.2.2.2.1.1 | exact hr.2.2.2.2.2.1.1 | exact hr.2.2.2.2.2.2.1.1 | exact hs.2.2.2.2.1.1 | exact hs.2.2.2.2.2.1.1 | exact hs.2.2.2.2.2.2.1.1 | exact h.t0.2.2 | exact h.rk.1 | exact h.rk.2.1.1 | exact h.rk.2.2.1.1 | exact h.rk.2.2.2.1.1 | exact h.rk.2.2.2.2.1 | exact h.tk.1 | exact h.tk.2.1.1 | exact h.tk.2.2.1.1 | exact h.tk.2.2.2.1.1 | exact h.tk.2.2.2.2.1.1 | exact h.tk.2.2.2.2.2.1.1 | exact h.tk.2.2.2.2.2.2.1.1 | exact h.tk.2.2.2.2.2.2.2.1 | exact h.tk2.1 | exact h.b.1.1) rfl rfl rfl rfl ⟨rfl, rfl, by decide, by decide⟩ (Nat.le_of_ble_eq_true rfl) ⟨by decide, by decide⟩ (fun r_123 V_123 h_123 => ?_)
      obtain ⟨rfl, hn⟩ := h_123
      rw [hc.b.2] at hn
      refine j_icmp_ge (tgt := 149) dX7_digest_126 (by decide) (fun c_126 => ?_) (fun c_126 => ?_)
      · refine j_lload_n dX7_digest_149 rfl ?_
        refine j_lret dX7_digest_150 rfl (by decide) (by decide) ?_
        exact qC.ret rfl (by rw [hh, hh1, show k = x.2.2.length by omega]; rfl) ha hc
      · exact absurd c_126 (by omega)
    | succ n ih =>
      intro k i g h1 V1 L l0 l1 l2 hi hk hh1 hh hc ha
      refine j_sub2 (L' := [(0, .ref q), (1, .long g), (3, .int i)]) (List.forall_mem_cons.mpr ⟨l0, List.forall_mem_cons.mpr ⟨l1, List.forall_mem_cons.mpr ⟨l2, fun _ h9 => nomatch h9⟩⟩⟩) ?_
      refine j_iload_n dX7_digest_118 rfl ?_
      refine j_aload_n dX7_digest_119 rfl ?_
      refine j_getr dX7_digest_120 hB fl_X7_25 (by first | exact h.k | exact hs.1 | exact hr.1 | exact hr.2.1.1 | exact hr.2.2.1.1 | exact hr.2.2.2.1.1 | exact hr.2.2.2.2.1.1 | exact hr.2.2.2.2.2.1.1 | exact hr.2.2.2.2.2.2.1.1 | exact hs.2.2.2.2.1.1 | exact hs.2.2.2.2.2.1.1 | exact hs.2.2.2.2.2.2.1.1 | exact h.t0.2.2 | exact h.rk.1 | exact h.rk.2.1.1 | exact h.rk.2.2.1.1 | exact h.rk.2.2.2.1.1 | exact h.rk.2.2.2.2.1 | exact h.tk.1 | exact h.tk.2.1.1 | exact h.tk.2.2.1.1 | exact h.tk.2.2.2.1.1 | exact h.tk.2.2.2.2.1.1 | exact h.tk.2.2.2.2.2.1.1 | exact h.tk.2.2.2.2.2.2.1.1 | exact h.tk.2.2.2.2.2.2.2.1 | exact h.tk2.1 | exact h.b.1.1) (by rfl) ?_
      refine j_cVi dX7_digest_123 hB mo_X3_size ml_X7_166 (sp_X3_size hB hc.b.1) (by first | exact h.k | exact hs.1 | exact hr.1 | exact hr.2.1.1 | exact hr.2.2.1.1 | exact hr.2.2.2.1.1 | exact hr.2.2.2.2.1.1 | exact hr.2.2.2.2.2.1.1 | exact hr.2.2.2.2.2.2.1.1 | exact hs.2.2.2.2.1.1 | exact hs.2.2.2.2.2.1.1 | exact hs.2.2.2.2.2.2.1.1 | exact h.t0.2.2 | exact h.rk.1 | exact h.rk.2.1.1 | exact h.rk.2.2.1.1 | exact h.rk.2.2.2.1.1 | exact h.rk.2.2.2.2.1 | exact h.tk.1 | exact h.tk.2.1.1 | exact h.tk.2.2.1.1 | exact h.tk.2.2.2.1.1 | exact h.tk.2.2.2.2.1.1 | exact h.tk.2.2.2.2.2.1.1 | exact h.tk.2.2.2.2.2.2.1.1 | exact h.tk.2.2.2.2.2.2.2.1 | exact h.tk2.1 | exact h.b.1.1) rfl rfl rfl rfl ⟨rfl, rfl, by decide, by decide⟩ (Nat.le_of_ble_eq_true rfl) ⟨by decide, by decide⟩ (fun r_123 V_123 h_123 => ?_)
      obtain ⟨rfl, hn⟩ := h_123
      rw [hc.b.2] at hn
      refine j_icmp_ge (tgt := 149) dX7_digest_126 (by decide) (fun c_126 => ?_) (fun c_126 => ?_)
      · exact absurd c_126 (by omega)
      · refine j_lload_n dX7_digest_129 rfl ?_
        refine j_aload_n dX7_digest_130 rfl ?_
        refine j_getr dX7_digest_131 hB fl_X7_25 (by first | exact h.k | exact hs.1 | exact hr.1 | exact hr.2.1.1 | exact hr.2.2.1.1 | exact hr.2.2.2.1.1 | exact hr.2.2.2.2.1.1 | exact hr.2.2.2.2.2.1.1 | exact hr.2.2.2.2.2.2.1.1 | exact hs.2.2.2.2.1.1 | exact hs.2.2.2.2.2.1.1 | exact hs.2.2.2.2.2.2.1.1 | exact h.t0.2.2 | exact h.rk.1 | exact h.rk.2.1.1 | exact h.rk.2.2.1.1 | exact h.rk.2.2.2.1.1 | exact h.rk.2.2.2.2.1 | exact h.tk.1 | exact h.tk.2.1.1 | exact h.tk.2.2.1.1 | exact h.tk.2.2.2.1.1 | exact h.tk.2.2.2.2.1.1 | exact h.tk.2.2.2.2.2.1.1 | exact h.tk.2.2.2.2.2.2.1.1 | exact h.tk.2.2.2.2.2.2.2.1 | exact h.tk2.1 | exact h.b.1.1) (by rfl) ?_
        refine j_iload_n dX7_digest_134 rfl ?_
        refine j_cVi dX7_digest_135 hB mo_X3_at ml_X7_148 (sp_X3_at hB hc.b.1) (by first | exact h.k | exact hs.1 | exact hr.1 | exact hr.2.1.1 | exact hr.2.2.1.1 | exact hr.2.2.2.1.1 | exact hr.2.2.2.2.1.1 | exact hr.2.2.2.2.2.1.1 | exact hr.2.2.2.2.2.2.1.1 | exact hs.2.2.2.2.1.1 | exact hs.2.2.2.2.2.1.1 | exact hs.2.2.2.2.2.2.1.1 | exact h.t0.2.2 | exact h.rk.1 | exact h.rk.2.1.1 | exact h.rk.2.2.1.1 | exact h.rk.2.2.2.1.1 | exact h.rk.2.2.2.2.1 | exact h.tk.1 | exact h.tk.2.1.1 | exact h.tk.2.2.1.1 | exact h.tk.2.2.2.1.1 | exact h.tk.2.2.2.2.1.1 | exact h.tk.2.2.2.2.2.1.1 | exact h.tk.2.2.2.2.2.2.1.1 | exact h.tk.2.2.2.2.2.2.2.1 | exact h.tk2.1 | exact h.b.1.1) rfl rfl rfl rfl ⟨rfl, rfl, by decide, by decide⟩ (Nat.le_of_ble_eq_true rfl) ⟨by decide, by decide⟩ (fun r_135 V_135 h_135 => ?_)
        obtain ⟨rfl, y1⟩ := h_135
        rw [hc.b.2, hi] at y1
        refine j_i2l dX7_digest_138 ?_
        refine j_cSl dX7_digest_139 hB mo_X7_mix ml_X7_262 (sp_X7_mix hB) rfl rfl ⟨rfl, rfl, by decide, by decide⟩ (Nat.le_of_ble_eq_true rfl) ⟨by decide, by decide⟩ (fun r_139 V_139 h_139 => ?_)
        obtain ⟨rfl, m_139⟩ := h_139
        refine j_lstore_n (L' := [(0, _), (1, _), (3, _)]) dX7_digest_142 (by decide) rfl ?_
        refine j_iinc (v := 1) (L' := [(0, _), (1, _), (3, _)]) dX7_digest_143 rfl (by decide) (by decide) rfl ?_
        refine j_goto (tgt := 118) dX7_digest_146 (by decide) ?_
        refine ih (k + 1) _ _ h1 V1 _ rfl rfl rfl ?_ (by omega) hh1 ?_ hc ha
        · rw [ti_add (by rw [ti_1]; omega) (by rw [ti_1]; omega), ti_1]; omega
        · rw [m_139, hh]; exact mixI_of (congrArg Int32.toInt y1)
  have loopC : ∀ (n k : Nat) (i : Int32) (g : Int64) (V1 : jV) (L : List (Nat × Value)), L.lookup 0 = some (.ref q) → L.lookup 1 = some (.long g) → L.lookup 3 = some (.int i) → i.toInt = k → k + n = 3 → g = dgR3 x (dgPc x.1 (mixN (fun w => ctP x w) 2237 8) x.1.2.1.1.length) k → cuIs T V1 q x → jAg V V1 q (q + 492) → J l s0 D kX7_digest (jR 7 0 0) 0 0 (qC T V X sz q 0 [] (fun v => v = some (.long (v_dg x))) x x) 78 L [] T V1 X sz 0 0 := by
    intro n
    induction n with
    | zero =>
      intro k i g V1 L l0 l1 l2 hi hk hh hc ha
      have hk : k = 3 := by omega
      subst hk
      refine j_sub2 (L' := [(0, .ref q), (1, .long g), (3, .int i)]) (List.forall_mem_cons.mpr ⟨l0, List.forall_mem_cons.mpr ⟨l1, List.forall_mem_cons.mpr ⟨l2, fun _ h9 => nomatch h9⟩⟩⟩) ?_
      refine j_iload_n dX7_digest_78 rfl ?_
      refine j_iconst (v := 3) dX7_digest_79 (by decide) ?_
      refine j_icmp_ge (tgt := 103) dX7_digest_80 (by decide) (fun c_80 => ?_) (fun c_80 => ?_)
      · refine j_lload_n dX7_digest_103 rfl ?_
        refine j_aload_n dX7_digest_104 rfl ?_
        refine j_getr dX7_digest_105 hB fl_X7_25 (by first | exact h.k | exact hs.1 | exact hr.1 | exact hr.2.1.1 | exact hr.2.2.1.1 | exact hr.2.2.2.1.1 | exact hr.2.2.2.2.1.1 | exact hr.2.2.2.2.2.1.1 | exact hr.2.2.2.2.2.2.1.1 | exact hs.2.2.2.2.1.1 | exact hs.2.2.2.2.2.1.1 | exact hs.2.2.2.2.2.2.1.1 | exact h.t0.2.2 | exact h.rk.1 | exact h.rk.2.1.1 | exact h.rk.2.2.1.1 | exact h.rk.2.2.2.1.1 | exact h.rk.2.2.2.2.1 | exact h.tk.1 | exact h.tk.2.1.1 | exact h.tk.2.2.1.1 | exact h.tk.2.2.2.1.1 | exact h.tk.2.2.2.2.1.1 | exact h.tk.2.2.2.2.2.1.1 | exact h.tk.2.2.2.2.2.2.1.1 | exact h.tk.2.2.2.2.2.2.2.1 | exact h.tk2.1 | exact h.b.1.1) (by rfl) ?_
        refine j_cVi dX7_digest_108 hB mo_X3_size ml_X7_166 (sp_X3_size hB hc.b.1) (by first | exact h.k | exact hs.1 | exact hr.1 | exact hr.2.1.1 | exact hr.2.2.1.1 | exact hr.2.2.2.1.1 | exact hr.2.2.2.2.1.1 | exact hr.2.2.2.2.2.1.1 | exact hr.2.2.2.2.2.2.1.1 | exact hs.2.2.2.2.1.1 | exact hs.2.2.2.2.2.1.1 | exact hs.2.2.2.2.2.2.1.1 | exact h.t0.2.2 | exact h.rk.1 | exact h.rk.2.1.1 | exact h.rk.2.2.1.1 | exact h.rk.2.2.2.1.1 | exact h.rk.2.2.2.2.1 | exact h.tk.1 | exact h.tk.2.1.1 | exact h.tk.2.2.1.1 | exact h.tk.2.2.2.1.1 | exact h.tk.2.2.2.2.1.1 | exact h.tk.2.2.2.2.2.1.1 | exact h.tk.2.2.2.2.2.2.1.1 | exact h.tk.2.2.2.2.2.2.2.1 | exact h.tk2.1 | exact h.b.1.1) rfl rfl rfl rfl ⟨rfl, rfl, by decide, by decide⟩ (Nat.le_of_ble_eq_true rfl) ⟨by decide, by decide⟩ (fun r_108 V_108 h_108 => ?_)
        obtain ⟨rfl, hn⟩ := h_108
        rw [hc.b.2] at hn
        refine j_i2l dX7_digest_111 ?_
        refine j_cSl dX7_digest_112 hB mo_X7_mix ml_X7_262 (sp_X7_mix hB) rfl rfl ⟨rfl, rfl, by decide, by decide⟩ (Nat.le_of_ble_eq_true rfl) ⟨by decide, by decide⟩ (fun r_112 V_112 h_112 => ?_)
        obtain ⟨rfl, m_112⟩ := h_112
        refine j_lstore_n (L' := [(0, _), (1, _), (3, _)]) dX7_digest_115 (by decide) rfl ?_
        refine j_iconst (v := 0) dX7_digest_116 (by decide) ?_
        refine j_istore_n (L' := [(0, _), (1, _), (3, _)]) dX7_digest_117 (by decide) rfl ?_
        exact loopD x.2.2.length 0 0 _ _ V1 _ rfl rfl rfl rfl (by omega) (by rw [m_112, hh]; exact mixI_of hn) rfl hc ha
      · exact absurd c_80 (by omega)
    | succ n ih =>
      intro k i g V1 L l0 l1 l2 hi hk hh hc ha
      have hs1 := hc.st
      refine j_sub2 (L' := [(0, .ref q), (1, .long g), (3, .int i)]) (List.forall_mem_cons.mpr ⟨l0, List.forall_mem_cons.mpr ⟨l1, List.forall_mem_cons.mpr ⟨l2, fun _ h9 => nomatch h9⟩⟩⟩) ?_
      refine j_iload_n dX7_digest_78 rfl ?_
      refine j_iconst (v := 3) dX7_digest_79 (by decide) ?_
      refine j_icmp_ge (tgt := 103) dX7_digest_80 (by decide) (fun c_80 => ?_) (fun c_80 => ?_)
      · exact absurd c_80 (by omega)
      · refine j_aload_n dX7_digest_83 rfl ?_
        refine j_lload_n dX7_digest_84 rfl ?_
        refine j_aload_n dX7_digest_85 rfl ?_
        refine j_getr dX7_digest_86 hB fl_X7_10 (by first | exact h.k | exact hs.1 | exact hr.1 | exact hr.2.1.1 | exact hr.2.2.1.1 | exact hr.2.2.2.1.1 | exact hr.2.2.2.2.1.1 | exact hr.2.2.2.2.2.1.1 | exact hr.2.2.2.2.2.2.1.1 | exact hs.2.2.2.2.1.1 | exact hs.2.2.2.2.2.1.1 | exact hs.2.2.2.2.2.2.1.1 | exact h.t0.2.2 | exact h.rk.1 | exact h.rk.2.1.1 | exact h.rk.2.2.1.1 | exact h.rk.2.2.2.1.1 | exact h.rk.2.2.2.2.1 | exact h.tk.1 | exact h.tk.2.1.1 | exact h.tk.2.2.1.1 | exact h.tk.2.2.2.1.1 | exact h.tk.2.2.2.2.1.1 | exact h.tk.2.2.2.2.2.1.1 | exact h.tk.2.2.2.2.2.2.1.1 | exact h.tk.2.2.2.2.2.2.2.1 | exact h.tk2.1 | exact h.b.1.1) (by rfl) ?_
        refine j_iload_n dX7_digest_89 rfl ?_
        refine j_cVa dX7_digest_90 hB mo_X5_reelAt ml_X7_60 (sp_X5_reelAt hB hs1) (by exact hs1.1) rfl rfl rfl rfl ⟨rfl, rfl, by decide, by decide⟩ (Nat.le_of_ble_eq_true rfl) ⟨by decide, by decide⟩ (fun r_90 V_90 h_90 => ?_)
        obtain ⟨rfl, hq⟩ := h_90
        subst hq
        refine j_cVl dX7_digest_93 hB mo_X7_mixReel ml_X7_266 (sp_X7_mixReel hB hc hW.1) (by first | exact h.k | exact hs.1 | exact hr.1 | exact hr.2.1.1 | exact hr.2.2.1.1 | exact hr.2.2.2.1.1 | exact hr.2.2.2.2.1.1 | exact hr.2.2.2.2.2.1.1 | exact hr.2.2.2.2.2.2.1.1 | exact hs.2.2.2.2.1.1 | exact hs.2.2.2.2.2.1.1 | exact hs.2.2.2.2.2.2.1.1 | exact h.t0.2.2 | exact h.rk.1 | exact h.rk.2.1.1 | exact h.rk.2.2.1.1 | exact h.rk.2.2.2.1.1 | exact h.rk.2.2.2.2.1 | exact h.tk.1 | exact h.tk.2.1.1 | exact h.tk.2.2.1.1 | exact h.tk.2.2.2.1.1 | exact h.tk.2.2.2.2.1.1 | exact h.tk.2.2.2.2.2.1.1 | exact h.tk.2.2.2.2.2.2.1.1 | exact h.tk.2.2.2.2.2.2.2.1 | exact h.tk2.1 | exact h.b.1.1) rfl rfl rfl rfl ⟨rfl, rfl, by decide, by decide⟩ (Nat.le_of_ble_eq_true rfl) ⟨by decide, by decide⟩ (fun r_93 V_93 h_93 => ?_)
        obtain ⟨m1, hc2, a2⟩ := h_93
        refine j_lstore_n (L' := [(0, _), (1, _), (3, _)]) dX7_digest_96 (by decide) rfl ?_
        refine j_iinc (v := 1) (L' := [(0, _), (1, _), (3, _)]) dX7_digest_97 rfl (by decide) (by decide) rfl ?_
        refine j_goto (tgt := 78) dX7_digest_100 (by decide) ?_
        refine ih (k + 1) _ _ V_93 _ rfl rfl rfl ?_ (by omega) ?_ hc2 (ha.tr (a2.wide (by omega) (by omega)))
        · rw [ti_add (by rw [ti_1]; omega) (by rw [ti_1]; omega), ti_1]; omega
        · rw [m1, hh, hi]; rfl
  have loopB : ∀ (n k : Nat) (i : Int32) (g : Int64) (V1 : jV) (L : List (Nat × Value)), L.lookup 0 = some (.ref q) → L.lookup 1 = some (.long g) → L.lookup 3 = some (.int i) → i.toInt = k → k + n = x.1.2.1.1.length → g = dgPc x.1 (mixN (fun w => ctP x w) 2237 8) k → cuIs T V1 q x → jAg V V1 q (q + 492) → J l s0 D kX7_digest (jR 7 0 0) 0 0 (qC T V X sz q 0 [] (fun v => v = some (.long (v_dg x))) x x) 31 L [] T V1 X sz 0 0 := by
    intro n
    induction n with
    | zero =>
      intro k i g V1 L l0 l1 l2 hi hk hh hc ha
      have hs := hc.st
      refine j_sub2 (L' := [(0, .ref q), (1, .long g), (3, .int i)]) (List.forall_mem_cons.mpr ⟨l0, List.forall_mem_cons.mpr ⟨l1, List.forall_mem_cons.mpr ⟨l2, fun _ h9 => nomatch h9⟩⟩⟩) ?_
      refine j_iload_n dX7_digest_31 rfl ?_
      refine j_aload_n dX7_digest_32 rfl ?_
      refine j_getr dX7_digest_33 hB fl_X7_10 (by first | exact h.k | exact hs.1 | exact hr.1 | exact hr.2.1.1 | exact hr.2.2.1.1 | exact hr.2.2.2.1.1 | exact hr.2.2.2.2.1.1 | exact hr.2.2.2.2.2.1.1 | exact hr.2.2.2.2.2.2.1.1 | exact hs.2.2.2.2.1.1 | exact hs.2.2.2.2.2.1.1 | exact hs.2.2.2.2.2.2.1.1 | exact h.t0.2.2 | exact h.rk.1 | exact h.rk.2.1.1 | exact h.rk.2.2.1.1 | exact h.rk.2.2.2.1.1 | exact h.rk.2.2.2.2.1 | exact h.tk.1 | exact h.tk.2.1.1 | exact h.tk.2.2.1.1 | exact h.tk.2.2.2.1.1 | exact h.tk.2.2.2.2.1.1 | exact h.tk.2.2.2.2.2.1.1 | exact h.tk.2.2.2.2.2.2.1.1 | exact h.tk.2.2.2.2.2.2.2.1 | exact h.tk2.1 | exact h.b.1.1) (by rfl) ?_
      refine j_cVi dX7_digest_36 hB mo_X5_pieces ml_X7_118 (sp_X5_pieces hB hs) (by first | exact h.k | exact hs.1 | exact hr.1 | exact hr.2.1.1 | exact hr.2.2.1.1 | exact hr.2.2.2.1.1 | exact hr.2.2.2.2.1.1 | exact hr.2.2.2.2.2.1.1 | exact hr.2.2.2.2.2.2.1.1 | exact hs.2.2.2.2.1.1 | exact hs.2.2.2.2.2.1.1 | exact hs.2.2.2.2.2.2.1.1 | exact h.t0.2.2 | exact h.rk.1 | exact h.rk.2.1.1 | exact h.rk.2.2.1.1 | exact h.rk.2.2.2.1.1 | exact h.rk.2.2.2.2.1 | exact h.tk.1 | exact h.tk.2.1.1 | exact h.tk.2.2.1.1 | exact h.tk.2.2.2.1.1 | exact h.tk.2.2.2.2.1.1 | exact h.tk.2.2.2.2.2.1.1 | exact h.tk.2.2.2.2.2.2.1.1 | exact h.tk.2.2.2.2.2.2.2.1 | exact h.tk2.1 | exact h.b.1.1) rfl rfl rfl rfl ⟨rfl, rfl, by decide, by decide⟩ (Nat.le_of_ble_eq_true rfl) ⟨by decide, by decide⟩ (fun r_36 V_36 h_36 => ?_)
      obtain ⟨rfl, hn⟩ := h_36
      refine j_icmp_ge (tgt := 76) dX7_digest_39 (by decide) (fun c_39 => ?_) (fun c_39 => ?_)
      · refine j_iconst (v := 0) dX7_digest_76 (by decide) ?_
        refine j_istore_n (L' := [(0, _), (1, _), (3, _)]) dX7_digest_77 (by decide) rfl ?_
        exact loopC 3 0 0 g V1 _ rfl rfl rfl rfl rfl (by rw [hh, show k = x.1.2.1.1.length by omega]; rfl) hc ha
      · exact absurd c_39 (by omega)
    | succ n ih =>
      intro k i g V1 L l0 l1 l2 hi hk hh hc ha
      have hs := hc.st
      have hin : ∀ (n2 k2 : Nat) (j : Int32) (h3 : Int64), j.toInt = k2 → k2 + n2 = 4 → h3 = mixN (fun w => pcP x.1 (Int32.ofInt k) w) g k2 → J l s0 D kX7_digest (jR 7 0 0) 0 0 (qC T V X sz q 0 [] (fun v => v = some (.long (v_dg x))) x x) 45 [(0, .ref q), (1, .long h3), (3, .int i), (4, .int j)] [] T V1 X sz 0 0 := by
        intro n2
        induction n2 with
        | zero =>
          intro k2 j h3 hj hk2 hh3
          have hk2' : k2 = 4 := by omega
          subst hk2'
          refine j_iload dX7_digest_45 rfl ?_
          refine j_iconst (v := 4) dX7_digest_47 (by decide) ?_
          refine j_icmp_ge (tgt := 70) dX7_digest_48 (by decide) (fun c_48 => ?_) (fun c_48 => ?_)
          · refine j_iinc (v := 1) (L' := [(0, _), (1, _), (3, _), (4, _)]) dX7_digest_70 rfl (by decide) (by decide) rfl ?_
            refine j_goto (tgt := 31) dX7_digest_73 (by decide) ?_
            refine ih (k + 1) _ _ V1 _ rfl rfl rfl ?_ (by omega) ?_ hc ha
            · rw [ti_add (by rw [ti_1]; omega) (by rw [ti_1]; omega), ti_1]; omega
            · rw [hh3, hh]; rfl
          · exact absurd c_48 (by omega)
        | succ n2 ih2 =>
          intro k2 j h3 hj hk2 hh3
          refine j_iload dX7_digest_45 rfl ?_
          refine j_iconst (v := 4) dX7_digest_47 (by decide) ?_
          refine j_icmp_ge (tgt := 70) dX7_digest_48 (by decide) (fun c_48 => ?_) (fun c_48 => ?_)
          · exact absurd c_48 (by omega)
          · refine j_lload_n dX7_digest_51 rfl ?_
            refine j_aload_n dX7_digest_52 rfl ?_
            refine j_iload_n dX7_digest_53 rfl ?_
            refine j_iload dX7_digest_54 rfl ?_
            refine j_cVi dX7_digest_56 hB mo_X7_pieceProperty ml_X7_223 (sp_X7_pieceProperty hB hc (by omega) (by omega)) (by first | exact h.k | exact hs.1 | exact hr.1 | exact hr.2.1.1 | exact hr.2.2.1.1 | exact hr.2.2.2.1.1 | exact hr.2.2.2.2.1.1 | exact hr.2.2.2.2.2.1.1 | exact hr.2.2.2.2.2.2.1.1 | exact hs.2.2.2.2.1.1 | exact hs.2.2.2.2.2.1.1 | exact hs.2.2.2.2.2.2.1.1 | exact h.t0.2.2 | exact h.rk.1 | exact h.rk.2.1.1 | exact h.rk.2.2.1.1 | exact h.rk.2.2.2.1.1 | exact h.rk.2.2.2.2.1 | exact h.tk.1 | exact h.tk.2.1.1 | exact h.tk.2.2.1.1 | exact h.tk.2.2.2.1.1 | exact h.tk.2.2.2.2.1.1 | exact h.tk.2.2.2.2.2.1.1 | exact h.tk.2.2.2.2.2.2.1.1 | exact h.tk.2.2.2.2.2.2.2.1 | exact h.tk2.1 | exact h.b.1.1) rfl rfl rfl rfl ⟨rfl, rfl, by decide, by decide⟩ (Nat.le_of_ble_eq_true rfl) ⟨by decide, by decide⟩ (fun r_56 V_56 h_56 => ?_)
            obtain ⟨rfl, t_56⟩ := h_56
            rw [hj, ofI_ti hi] at t_56
            refine j_i2l dX7_digest_59 ?_
            refine j_cSl dX7_digest_60 hB mo_X7_mix ml_X7_262 (sp_X7_mix hB) rfl rfl ⟨rfl, rfl, by decide, by decide⟩ (Nat.le_of_ble_eq_true rfl) ⟨by decide, by decide⟩ (fun r_60 V_60 h_60 => ?_)
            obtain ⟨rfl, m_60⟩ := h_60
            refine j_lstore_n (L' := [(0, _), (1, _), (3, _), (4, _)]) dX7_digest_63 (by decide) rfl ?_
            refine j_iinc (v := 1) (L' := [(0, _), (1, _), (3, _), (4, _)]) dX7_digest_64 rfl (by decide) (by decide) rfl ?_
            refine j_goto (tgt := 45) dX7_digest_67 (by decide) ?_
            refine ih2 (k2 + 1) _ _ ?_ (by omega) ?_
            · rw [ti_add (by rw [ti_1]; omega) (by rw [ti_1]; omega), ti_1]; omega
            · rw [m_60, hh3]; exact mixI_of t_56
      refine j_sub2 (L' := [(0, .ref q), (1, .long g), (3, .int i)]) (List.forall_mem_cons.mpr ⟨l0, List.forall_mem_cons.mpr ⟨l1, List.forall_mem_cons.mpr ⟨l2, fun _ h9 => nomatch h9⟩⟩⟩) ?_
      refine j_iload_n dX7_digest_31 rfl ?_
      refine j_aload_n dX7_digest_32 rfl ?_
      refine j_getr dX7_digest_33 hB fl_X7_10 (by first | exact h.k | exact hs.1 | exact hr.1 | exact hr.2.1.1 | exact hr.2.2.1.1 | exact hr.2.2.2.1.1 | exact hr.2.2.2.2.1.1 | exact hr.2.2.2.2.2.1.1 | exact hr.2.2.2.2.2.2.1.1 | exact hs.2.2.2.2.1.1 | exact hs.2.2.2.2.2.1.1 | exact hs.2.2.2.2.2.2.1.1 | exact h.t0.2.2 | exact h.rk.1 | exact h.rk.2.1.1 | exact h.rk.2.2.1.1 | exact h.rk.2.2.2.1.1 | exact h.rk.2.2.2.2.1 | exact h.tk.1 | exact h.tk.2.1.1 | exact h.tk.2.2.1.1 | exact h.tk.2.2.2.1.1 | exact h.tk.2.2.2.2.1.1 | exact h.tk.2.2.2.2.2.1.1 | exact h.tk.2.2.2.2.2.2.1.1 | exact h.tk.2.2.2.2.2.2.2.1 | exact h.tk2.1 | exact h.b.1.1) (by rfl) ?_
      refine j_cVi dX7_digest_36 hB mo_X5_pieces ml_X7_118 (sp_X5_pieces hB hs) (by first | exact h.k | exact hs.1 | exact hr.1 | exact hr.2.1.1 | exact hr.2.2.1.1 | exact hr.2.2.2.1.1 | exact hr.2.2.2.2.1.1 | exact hr.2.2.2.2.2.1.1 | exact hr.2.2.2.2.2.2.1.1 | exact hs.2.2.2.2.1.1 | exact hs.2.2.2.2.2.1.1 | exact hs.2.2.2.2.2.2.1.1 | exact h.t0.2.2 | exact h.rk.1 | exact h.rk.2.1.1 | exact h.rk.2.2.1.1 | exact h.rk.2.2.2.1.1 | exact h.rk.2.2.2.2.1 | exact h.tk.1 | exact h.tk.2.1.1 | exact h.tk.2.2.1.1 | exact h.tk.2.2.2.1.1 | exact h.tk.2.2.2.2.1.1 | exact h.tk.2.2.2.2.2.1.1 | exact h.tk.2.2.2.2.2.2.1.1 | exact h.tk.2.2.2.2.2.2.2.1 | exact h.tk2.1 | exact h.b.1.1) rfl rfl rfl rfl ⟨rfl, rfl, by decide, by decide⟩ (Nat.le_of_ble_eq_true rfl) ⟨by decide, by decide⟩ (fun r_36 V_36 h_36 => ?_)
      obtain ⟨rfl, hn⟩ := h_36
      refine j_icmp_ge (tgt := 76) dX7_digest_39 (by decide) (fun c_39 => ?_) (fun c_39 => ?_)
      · exact absurd c_39 (by omega)
      · refine j_iconst (v := 0) dX7_digest_42 (by decide) ?_
        refine j_istore (L' := [(0, _), (1, _), (3, _), (4, _)]) dX7_digest_43 (by decide) rfl ?_
        exact hin 4 0 0 g rfl rfl rfl
  have loopA : ∀ (n k : Nat) (i : Int32) (g : Int64) (V1 : jV), i.toInt = k → k + n = 8 → g = mixN (fun w => ctP x w) 2237 k → cuIs T V1 q x → jAg V V1 q (q + 492) → J l s0 D kX7_digest (jR 7 0 0) 0 0 (qC T V X sz q 0 [] (fun v => v = some (.long (v_dg x))) x x) 6 [(0, .ref q), (1, .long g), (3, .int i)] [] T V1 X sz 0 0 := by
    intro n
    induction n with
    | zero =>
      intro k i g V1 hi hk hh hc ha
      have hk : k = 8 := by omega
      subst hk
      refine j_iload_n dX7_digest_6 rfl ?_
      refine j_bipush (v := 8) dX7_digest_7 (by decide) ?_
      refine j_icmp_ge (tgt := 29) dX7_digest_9 (by decide) (fun c_9 => ?_) (fun c_9 => ?_)
      · refine j_iconst (v := 0) dX7_digest_29 (by decide) ?_
        refine j_istore_n (L' := [(0, _), (1, _), (3, _)]) dX7_digest_30 (by decide) rfl ?_
        exact loopB x.1.2.1.1.length 0 0 g V1 _ rfl rfl rfl rfl (by omega) hh hc ha
      · exact absurd c_9 (by omega)
    | succ n ih =>
      intro k i g V1 hi hk hh hc ha
      refine j_iload_n dX7_digest_6 rfl ?_
      refine j_bipush (v := 8) dX7_digest_7 (by decide) ?_
      refine j_icmp_ge (tgt := 29) dX7_digest_9 (by decide) (fun c_9 => ?_) (fun c_9 => ?_)
      · exact absurd c_9 (by omega)
      · refine j_lload_n dX7_digest_12 rfl ?_
        refine j_aload_n dX7_digest_13 rfl ?_
        refine j_iload_n dX7_digest_14 rfl ?_
        refine j_cVi dX7_digest_15 hB mo_X7_countProperty ml_X7_227 (sp_X7_countProperty hB hc hW.1 (by omega) (by omega)) (by first | exact h.k | exact hs.1 | exact hr.1 | exact hr.2.1.1 | exact hr.2.2.1.1 | exact hr.2.2.2.1.1 | exact hr.2.2.2.2.1.1 | exact hr.2.2.2.2.2.1.1 | exact hr.2.2.2.2.2.2.1.1 | exact hs.2.2.2.2.1.1 | exact hs.2.2.2.2.2.1.1 | exact hs.2.2.2.2.2.2.1.1 | exact h.t0.2.2 | exact h.rk.1 | exact h.rk.2.1.1 | exact h.rk.2.2.1.1 | exact h.rk.2.2.2.1.1 | exact h.rk.2.2.2.2.1 | exact h.tk.1 | exact h.tk.2.1.1 | exact h.tk.2.2.1.1 | exact h.tk.2.2.2.1.1 | exact h.tk.2.2.2.2.1.1 | exact h.tk.2.2.2.2.2.1.1 | exact h.tk.2.2.2.2.2.2.1.1 | exact h.tk.2.2.2.2.2.2.2.1 | exact h.tk2.1 | exact h.b.1.1) rfl rfl rfl rfl ⟨rfl, rfl, by decide, by decide⟩ (Nat.le_of_ble_eq_true rfl) ⟨by decide, by decide⟩ (fun r_15 V_15 h_15 => ?_)
        obtain ⟨t_15, hc2, a2⟩ := h_15
        rw [hi] at t_15
        refine j_i2l dX7_digest_18 ?_
        refine j_cSl dX7_digest_19 hB mo_X7_mix ml_X7_262 (sp_X7_mix hB) rfl rfl ⟨rfl, rfl, by decide, by decide⟩ (Nat.le_of_ble_eq_true rfl) ⟨by decide, by decide⟩ (fun r_19 V_19 h_19 => ?_)
        obtain ⟨rfl, m_19⟩ := h_19
        refine j_lstore_n (L' := [(0, _), (1, _), (3, _)]) dX7_digest_22 (by decide) rfl ?_
        refine j_iinc (v := 1) (L' := [(0, _), (1, _), (3, _)]) dX7_digest_23 rfl (by decide) (by decide) rfl ?_
        refine j_goto (tgt := 6) dX7_digest_26 (by decide) ?_
        refine ih (k + 1) _ _ V_15 ?_ (by omega) ?_ hc2 (ha.tr (a2.wide (by omega) (by omega)))
        · rw [ti_add (by rw [ti_1]; omega) (by rw [ti_1]; omega), ti_1]; omega
        · rw [m_19, hh]; exact mixI_of t_15
  refine j_ldc2 dX7_digest_0 hB kc_X7_260 ?_
  refine j_lstore_n (L' := [(0, _), (1, _)]) dX7_digest_3 (by decide) rfl ?_
  refine j_iconst (v := 0) dX7_digest_4 (by decide) ?_
  refine j_istore_n (L' := [(0, _), (1, _), (3, _)]) dX7_digest_5 (by decide) rfl ?_
  exact loopA 8 0 0 2237 V rfl rfl rfl h jAg.rf
end JCuA
