/-! THE LAW, whole -/
abbrev kLaw : jM := (x, cL_law, 11, some .boolean, [])
theorem cuIs.of0 {T : jT} {V : jV} {q : Nat} (h : cuOK T V q cu0) : cuIs T V q xBeg := ⟨fun _ => st0, 0, h, by decide, Nat.le_of_ble_eq_true rfl, fun i hi => absurd hi (Nat.not_lt_zero _)⟩
theorem zRl_0 {Z : Nat → Int32} (h0 : Z 0 = 0) (h30 : Z 30 = 1) (h31 : Z 31 = 0) (h32 : Z 32 = 16) (h45 : Z 45 = 0) : zRl Z rl0 := by
  refine ⟨by rw [h0]; rfl, by decide, fun k hk => absurd hk (Nat.not_lt_zero _), ⟨by decide, List.pairwise_singleton _ _, [(0, 16)], List.Perm.refl _, by rw [h30]; rfl, fun k hk => ?_⟩, ⟨by decide, List.Pairwise.nil, [], List.Perm.refl _, by rw [h45]; rfl, fun k hk => absurd hk (Nat.not_lt_zero _)⟩⟩
  have hk : k < 1 := hk
  have : k = 0 := by omega
  subst this
  show some ((0 : Int32), (16 : Int32)) = some (Z 31, Z 32)
  rw [h31, h32]
section JLL
variable {l : Launch} {s0 : State} {D : jD}

set_option maxRecDepth 100000 in
set_option maxHeartbeats 4000000 in
theorem lw_loop {T : jT} {X : jX} (hB : jB l s0 D) {b N q : Nat} {xs : Nat → Int32} (hXs : va_X b N xs s0 s0.heap) (hbs : b < s0.heap.size) (hN : N ≤ 260) (hT : lwT T q) : ∀ (n j : Nat) (t : Int32) (V : jV) (sz c1 n1 : Nat) (y : aX), j + n = 22 → t.toInt = (j : Int) → lwV T V q y → xW y → (1 ≤ j → 1 ≤ y.2.1.length) → (j = 0 → y.1.2.1.1.length = 0) → c1 ≤ 2000 + 1000 * j → n1 ≤ 10000 + 6000 * j → J l s0 D kLaw room_1 705757 6984428 (fun o _ _ _ _ => o = .inl (some (.int 1))) 111 [(0, .ref b), (1, .ref q), (2, .ref (q + 492)), (3, .ref (q + 493)), (4, .ref (q + 494)), (5, .ref (q + 495)), (6, .ref (q + 496)), (7, .int t)] [] T V X sz c1 n1 := by
  intro n
  induction n using Nat.strongRecOn with
  | ind n ih =>
    intro j t V sz c1 n1 y hn hi w hW hl1 h00 hc1 hn1
    refine j_iload dL_law_111 rfl ?_
    refine j_bipush (v := 22) dL_law_113 (by decide) ?_
    refine m_icmp_ge (tgt := 286) dL_law_115 (by decide) (hi) (iC 22 (by decide)) (fun c_115 => ?_) (fun c_115 => ?_)
    · refine j_aload_n dL_law_286 rfl ?_
      refine j_bipush (v := 7) dL_law_287 (by decide) ?_
      refine j_cCi dL_law_289 hB mo_X7_count ml_L_96 (sp_X7_count hB w.1 hW) (e_ct0 (by decide) (by decide)) w.1.k rfl rfl rfl rfl ⟨rfl, rfl, by decide, by decide⟩ (Nat.le_of_ble_eq_true rfl) ⟨by show _ ≤ 705757; omega, by show _ ≤ 6984428; omega⟩ (fun y_289 V_289 h_289 a_289 g_289 => ?_)
      replace h_289 := (h_289.trans (ct_7 (by decide))).trans ctP_7
      refine m_if_le (tgt := 299) dL_law_292 (by decide) (h_289) (fun c_292 => ?_) (fun c_292 => ?_)
      · exact absurd (hl1 (by omega)) (by omega)
      · refine j_iconst (v := 1) dL_law_295 (by decide) ?_
        refine j_goto (tgt := 300) dL_law_296 (by decide) ?_
        refine j_iret dL_law_300 rfl (by first | decide | exact m_nrB (by assumption)) (by omega) (by omega) ?_
        exact rfl
    · refine j_aload_n dL_law_118 rfl ?_
      refine j_iconst (v := 2) dL_law_119 (by decide) ?_
      refine j_iload dL_law_120 rfl ?_
      refine j_imul dL_law_122 ?_
      refine j_cSi dL_law_123 hB mo_L_cell ml_L_152 (sp_L_cell hB hXs hbs hN (by have h9 : isI (2 * t) (2 * (j : Int)) := iM (iC 2 (by decide)) hi (by omega); have h8 : (2 * t).toInt = 2 * (j : Int) := h9; omega)) rfl rfl ⟨rfl, rfl, by decide, by decide⟩ (Nat.le_of_ble_eq_true rfl) ⟨by show _ ≤ 705757; omega, by show _ ≤ 6984428; omega⟩ (fun r_123 V_123 h_123 => ?_)
      obtain rfl := h_123
      refine j_ldc dL_law_126 hB kc_L_156 ?_
      refine j_iand dL_law_128 ?_
      refine j_istore (L' := [(0, _), (1, _), (2, _), (3, _), (4, _), (5, _), (6, _), (7, _), (8, _)]) dL_law_129 (by decide) rfl ?_
      refine j_aload_n dL_law_131 rfl ?_
      refine j_iconst (v := 2) dL_law_132 (by decide) ?_
      refine j_iload dL_law_133 rfl ?_
      refine j_imul dL_law_135 ?_
      refine j_iconst (v := 1) dL_law_136 (by decide) ?_
      refine j_iadd dL_law_137 ?_
      refine j_cSi dL_law_138 hB mo_L_cell ml_L_152 (sp_L_cell hB hXs hbs hN (by have h9 : isI (2 * t + 1) (2 * (j : Int) + 1) := iA (iM (iC 2 (by decide)) hi (by omega)) (iC 1 (by decide)) (by omega); have h8 : (2 * t + 1).toInt = 2 * (j : Int) + 1 := h9; omega)) rfl rfl ⟨rfl, rfl, by decide, by decide⟩ (Nat.le_of_ble_eq_true rfl) ⟨by show _ ≤ 705757; omega, by show _ ≤ 6984428; omega⟩ (fun r_138 V_138 h_138 => ?_)
      obtain rfl := h_138
      refine j_ldc dL_law_141 hB kc_L_156 ?_
      refine j_iand dL_law_143 ?_
      refine j_istore (L' := [(0, _), (1, _), (2, _), (3, _), (4, _), (5, _), (6, _), (7, _), (8, _), (9, _)]) dL_law_144 (by decide) rfl ?_
      have mid : ∀ av : Int32, (j = 0 → av.toInt = 6) → J l s0 D kLaw room_1 705757 6984428 (fun o _ _ _ _ => o = .inl (some (.int 1))) 178 [(0, .ref b), (1, .ref q), (2, .ref (q + 492)), (3, .ref (q + 493)), (4, .ref (q + 494)), (5, .ref (q + 495)), (6, .ref (q + 496)), (7, .int t), (8, .int (r_123 &&& 2147483647)), (9, .int (r_138 &&& 2147483647))] [.int av, .ref q] T V X sz c1 n1 := by
        intro av hav
        refine j_iload dL_law_178 rfl ?_
        refine j_iload dL_law_180 rfl ?_
        refine j_aload_n dL_law_182 rfl ?_
        refine j_aload_n dL_law_183 rfl ?_
        refine j_aload dL_law_184 rfl ?_
        refine j_aload dL_law_186 rfl ?_
        refine j_aload dL_law_188 rfl ?_
        refine j_cK dL_law_190 hB mo_L_act ml_L_157 (sp_L_act hB hT w hW) rfl rfl ⟨rfl, rfl, by decide, by decide⟩ (Nat.le_of_ble_eq_true rfl) ⟨by show _ ≤ 705757; omega, by show _ ≤ 6984428; omega⟩ (fun V_190 sz_190 z_190 h_190 => ?_)
        obtain ⟨y2, w2, hW2, hl2, hl3⟩ := h_190
        clear w
        refine m_if_eq (tgt := 215) dL_law_193 (by decide) (iC 1 (by decide)) (fun c_193 => ?_) (fun c_193 => ?_)
        · exact absurd c_193 (by decide)
        · refine j_aload_n dL_law_196 rfl ?_
          refine j_iload dL_law_197 rfl ?_
          refine j_iconst (v := 2) dL_law_199 (by decide) ?_
          refine j_ishr dL_law_200 ?_
          refine j_aload_n dL_law_201 rfl ?_
          refine j_aload_n dL_law_202 rfl ?_
          refine j_aload dL_law_203 rfl ?_
          refine j_aload dL_law_205 rfl ?_
          refine j_aload dL_law_207 rfl ?_
          refine j_cK dL_law_209 hB mo_L_told ml_L_148 (sp_L_told hB hW2 hT w2) rfl rfl ⟨rfl, rfl, by decide, by decide⟩ (Nat.le_of_ble_eq_true rfl) ⟨by show _ ≤ 705757; omega, by show _ ≤ 6984428; omega⟩ (fun V_209 sz_209 z_209 h_209 => ?_)
          replace w2 := w2.ag h_209.1 h_209.2
          refine m_if_ne (tgt := 217) dL_law_212 (by decide) (iC 1 (by decide)) (fun c_212 => ?_) (fun c_212 => ?_)
          · refine j_iload dL_law_217 rfl ?_
            refine j_iconst (v := 5) dL_law_219 (by decide) ?_
            refine j_ishr dL_law_220 ?_
            refine j_iconst (v := 3) dL_law_221 (by decide) ?_
            refine j_cSi dL_law_222 hB mo_L_at ml_L_71 (sp_L_at hB (by decide)) rfl rfl ⟨rfl, rfl, by decide, by decide⟩ (Nat.le_of_ble_eq_true rfl) ⟨by show _ ≤ 705757; omega, by show _ ≤ 6984428; omega⟩ (fun r_222 V_222 h_222 => ?_)
            obtain ⟨rfl, f222, g222⟩ := h_222
            rw [show (3 : Int32).toInt = 3 by decide] at g222
            refine j_istore (L' := [(0, _), (1, _), (2, _), (3, _), (4, _), (5, _), (6, _), (7, _), (8, _), (9, _), (10, _)]) dL_law_225 (by decide) rfl ?_
            refine j_iload dL_law_227 rfl ?_
            refine j_bipush (v := 6) dL_law_229 (by decide) ?_
            refine j_irem dL_law_231 (by decide) ?_
            refine j_iconst (v := 5) dL_law_232 (by decide) ?_
            refine m_icmp_ne (tgt := 280) dL_law_233 (by decide) (iV) (iC 5 (by decide)) (fun c_233 => ?_) (fun c_233 => ?_)
            · refine j_iinc (v := 1) (L' := [(0, _), (1, _), (2, _), (3, _), (4, _), (5, _), (6, _), (7, _), (8, _), (9, _), (10, _)]) dL_law_280 rfl (by decide) (by decide) rfl ?_
              refine j_goto (tgt := 111) dL_law_283 (by decide) ?_
              refine j_sub2 (L' := [(0, _), (1, _), (2, _), (3, _), (4, _), (5, _), (6, _), (7, _)]) (List.forall_mem_cons.mpr ⟨rfl, List.forall_mem_cons.mpr ⟨rfl, List.forall_mem_cons.mpr ⟨rfl, List.forall_mem_cons.mpr ⟨rfl, List.forall_mem_cons.mpr ⟨rfl, List.forall_mem_cons.mpr ⟨rfl, List.forall_mem_cons.mpr ⟨rfl, List.forall_mem_cons.mpr ⟨rfl, fun _ h9 => nomatch h9⟩⟩⟩⟩⟩⟩⟩⟩) ?_
              refine ih (n - 1) (by omega) (j + 1) _ _ _ _ _ y2 (by omega) (ixk (k := j + 1) (iA (hi) (iC 1 (by decide)) (by omega)) (by omega)) w2 hW2 (fun _ => ?_) (fun z9 => absurd z9 (by omega)) ?_ ?_
              · by_cases e : j = 0
                · exact hl3 (hav e) (by rw [h00 e]; decide)
                · exact hl2 (hl1 (by omega))
              · omega
              · omega
            · refine j_aload_n dL_law_236 rfl ?_
              refine j_iload dL_law_237 rfl ?_
              refine j_iload dL_law_239 rfl ?_
              refine j_iconst (v := 2) dL_law_241 (by decide) ?_
              refine j_ishr dL_law_242 ?_
              refine j_iload dL_law_243 rfl ?_
              refine j_iconst (v := 2) dL_law_245 (by decide) ?_
              refine j_ishr dL_law_246 ?_
              refine j_iload dL_law_247 rfl ?_
              refine m_if_ne (tgt := 256) dL_law_249 (by decide) (iV) (fun c_249 => ?_) (fun c_249 => ?_)
              · refine j_iload dL_law_256 rfl ?_
                refine j_iconst (v := 1) dL_law_258 (by decide) ?_
                refine m_icmp_ne (tgt := 266) dL_law_259 (by decide) (iV) (iC 1 (by decide)) (fun c_259 => ?_) (fun c_259 => ?_)
                · refine j_aload dL_law_266 rfl ?_
                  refine j_aload dL_law_268 rfl ?_
                  refine j_aload dL_law_270 rfl ?_
                  have hz0 : r_222.toInt = ((2 : Nat) : Int) := by omega
                  have hxr : xR y2 r_222 = sR y2.1 2 := by unfold xR; rw [hz0]; rfl
                  refine j_cK dL_law_272 hB mo_L_ahead ml_L_161 (sp_L_ahead hB (z := 2) w2.1 hW2 hz0 (by decide) hT.2.2.1 hT.2.2.2.1 hT.2.2.2.2 (by omega) (by rw [hxr]; exact w2.2.2.2.1) w2.2.2.2.2.1 w2.2.2.2.2.2) rfl rfl ⟨rfl, rfl, by decide, by decide⟩ (Nat.le_of_ble_eq_true rfl) ⟨by show _ ≤ 705757; omega, by show _ ≤ 6984428; omega⟩ (fun V_272 sz_272 z_272 h_272 => ?_)
                  replace w2 := w2.ag h_272.1 h_272.2
                  refine m_if_ne (tgt := 280) dL_law_275 (by decide) (iC 1 (by decide)) (fun c_275 => ?_) (fun c_275 => ?_)
                  · refine j_iinc (v := 1) (L' := [(0, _), (1, _), (2, _), (3, _), (4, _), (5, _), (6, _), (7, _), (8, _), (9, _), (10, _)]) dL_law_280 rfl (by decide) (by decide) rfl ?_
                    refine j_goto (tgt := 111) dL_law_283 (by decide) ?_
                    refine j_sub2 (L' := [(0, _), (1, _), (2, _), (3, _), (4, _), (5, _), (6, _), (7, _)]) (List.forall_mem_cons.mpr ⟨rfl, List.forall_mem_cons.mpr ⟨rfl, List.forall_mem_cons.mpr ⟨rfl, List.forall_mem_cons.mpr ⟨rfl, List.forall_mem_cons.mpr ⟨rfl, List.forall_mem_cons.mpr ⟨rfl, List.forall_mem_cons.mpr ⟨rfl, List.forall_mem_cons.mpr ⟨rfl, fun _ h9 => nomatch h9⟩⟩⟩⟩⟩⟩⟩⟩) ?_
                    refine ih (n - 1) (by omega) (j + 1) _ _ _ _ _ y2 (by omega) (ixk (k := j + 1) (iA (hi) (iC 1 (by decide)) (by omega)) (by omega)) w2 hW2 (fun _ => ?_) (fun z9 => absurd z9 (by omega)) ?_ ?_
                    · by_cases e : j = 0
                      · exact hl3 (hav e) (by rw [h00 e]; decide)
                      · exact hl2 (hl1 (by omega))
                    · omega
                    · omega
                  · exact absurd c_275 (by decide)
                · refine j_aload_n dL_law_262 rfl ?_
                  refine j_goto (tgt := 268) dL_law_263 (by decide) ?_
                  refine j_aload dL_law_268 rfl ?_
                  refine j_aload dL_law_270 rfl ?_
                  have hz0 : r_222.toInt = ((1 : Nat) : Int) := by omega
                  have hxr : xR y2 r_222 = sR y2.1 1 := by unfold xR; rw [hz0]; rfl
                  refine j_cK dL_law_272 hB mo_L_ahead ml_L_161 (sp_L_ahead hB (z := 1) w2.1 hW2 hz0 (by decide) hT.2.1 hT.2.2.2.1 hT.2.2.2.2 (by omega) (by rw [hxr]; exact w2.2.2.1) w2.2.2.2.2.1 w2.2.2.2.2.2) rfl rfl ⟨rfl, rfl, by decide, by decide⟩ (Nat.le_of_ble_eq_true rfl) ⟨by show _ ≤ 705757; omega, by show _ ≤ 6984428; omega⟩ (fun V_272 sz_272 z_272 h_272 => ?_)
                  replace w2 := w2.ag h_272.1 h_272.2
                  refine m_if_ne (tgt := 280) dL_law_275 (by decide) (iC 1 (by decide)) (fun c_275 => ?_) (fun c_275 => ?_)
                  · refine j_iinc (v := 1) (L' := [(0, _), (1, _), (2, _), (3, _), (4, _), (5, _), (6, _), (7, _), (8, _), (9, _), (10, _)]) dL_law_280 rfl (by decide) (by decide) rfl ?_
                    refine j_goto (tgt := 111) dL_law_283 (by decide) ?_
                    refine j_sub2 (L' := [(0, _), (1, _), (2, _), (3, _), (4, _), (5, _), (6, _), (7, _)]) (List.forall_mem_cons.mpr ⟨rfl, List.forall_mem_cons.mpr ⟨rfl, List.forall_mem_cons.mpr ⟨rfl, List.forall_mem_cons.mpr ⟨rfl, List.forall_mem_cons.mpr ⟨rfl, List.forall_mem_cons.mpr ⟨rfl, List.forall_mem_cons.mpr ⟨rfl, List.forall_mem_cons.mpr ⟨rfl, fun _ h9 => nomatch h9⟩⟩⟩⟩⟩⟩⟩⟩) ?_
                    refine ih (n - 1) (by omega) (j + 1) _ _ _ _ _ y2 (by omega) (ixk (k := j + 1) (iA (hi) (iC 1 (by decide)) (by omega)) (by omega)) w2 hW2 (fun _ => ?_) (fun z9 => absurd z9 (by omega)) ?_ ?_
                    · by_cases e : j = 0
                      · exact hl3 (hav e) (by rw [h00 e]; decide)
                      · exact hl2 (hl1 (by omega))
                    · omega
                    · omega
                  · exact absurd c_275 (by decide)
              · refine j_aload_n dL_law_252 rfl ?_
                refine j_goto (tgt := 268) dL_law_253 (by decide) ?_
                refine j_aload dL_law_268 rfl ?_
                refine j_aload dL_law_270 rfl ?_
                have hz0 : r_222.toInt = ((0 : Nat) : Int) := by omega
                have hxr : xR y2 r_222 = sR y2.1 0 := by unfold xR; rw [hz0]; rfl
                refine j_cK dL_law_272 hB mo_L_ahead ml_L_161 (sp_L_ahead hB (z := 0) w2.1 hW2 hz0 (by decide) hT.1 hT.2.2.2.1 hT.2.2.2.2 (by omega) (by rw [hxr]; exact w2.2.1) w2.2.2.2.2.1 w2.2.2.2.2.2) rfl rfl ⟨rfl, rfl, by decide, by decide⟩ (Nat.le_of_ble_eq_true rfl) ⟨by show _ ≤ 705757; omega, by show _ ≤ 6984428; omega⟩ (fun V_272 sz_272 z_272 h_272 => ?_)
                replace w2 := w2.ag h_272.1 h_272.2
                refine m_if_ne (tgt := 280) dL_law_275 (by decide) (iC 1 (by decide)) (fun c_275 => ?_) (fun c_275 => ?_)
                · refine j_iinc (v := 1) (L' := [(0, _), (1, _), (2, _), (3, _), (4, _), (5, _), (6, _), (7, _), (8, _), (9, _), (10, _)]) dL_law_280 rfl (by decide) (by decide) rfl ?_
                  refine j_goto (tgt := 111) dL_law_283 (by decide) ?_
                  refine j_sub2 (L' := [(0, _), (1, _), (2, _), (3, _), (4, _), (5, _), (6, _), (7, _)]) (List.forall_mem_cons.mpr ⟨rfl, List.forall_mem_cons.mpr ⟨rfl, List.forall_mem_cons.mpr ⟨rfl, List.forall_mem_cons.mpr ⟨rfl, List.forall_mem_cons.mpr ⟨rfl, List.forall_mem_cons.mpr ⟨rfl, List.forall_mem_cons.mpr ⟨rfl, List.forall_mem_cons.mpr ⟨rfl, fun _ h9 => nomatch h9⟩⟩⟩⟩⟩⟩⟩⟩) ?_
                  refine ih (n - 1) (by omega) (j + 1) _ _ _ _ _ y2 (by omega) (ixk (k := j + 1) (iA (hi) (iC 1 (by decide)) (by omega)) (by omega)) w2 hW2 (fun _ => ?_) (fun z9 => absurd z9 (by omega)) ?_ ?_
                  · by_cases e : j = 0
                    · exact hl3 (hav e) (by rw [h00 e]; decide)
                    · exact hl2 (hl1 (by omega))
                  · omega
                  · omega
                · exact absurd c_275 (by decide)
          · exact absurd c_212 (by decide)
      refine j_aload_n dL_law_146 rfl ?_
      refine j_iload dL_law_147 rfl ?_
      refine j_iconst (v := 2) dL_law_149 (by decide) ?_
      refine m_icmp_ge (tgt := 158) dL_law_150 (by decide) (hi) (iC 2 (by decide)) (fun c_150 => ?_) (fun c_150 => ?_)
      · refine j_iload dL_law_158 rfl ?_
        refine j_iconst (v := 4) dL_law_160 (by decide) ?_
        refine m_icmp_ge (tgt := 168) dL_law_161 (by decide) (hi) (iC 4 (by decide)) (fun c_161 => ?_) (fun c_161 => ?_)
        · refine j_iload dL_law_168 rfl ?_
          refine j_bipush (v := 12) dL_law_170 (by decide) ?_
          refine j_ishr dL_law_172 ?_
          refine j_bipush (v := 15) dL_law_173 (by decide) ?_
          refine j_cSi dL_law_175 hB mo_L_at ml_L_71 (sp_L_at hB (by decide)) rfl rfl ⟨rfl, rfl, by decide, by decide⟩ (Nat.le_of_ble_eq_true rfl) ⟨by show _ ≤ 705757; omega, by show _ ≤ 6984428; omega⟩ (fun r_175 V_175 h_175 => ?_)
          obtain ⟨rfl, f175, g175⟩ := h_175
          exact mid _ (fun z9 => absurd z9 (by omega))
        · refine j_iconst (v := 0) dL_law_164 (by decide) ?_
          refine j_goto (tgt := 178) dL_law_165 (by decide) ?_
          exact mid _ (fun z9 => absurd z9 (by omega))
      · refine j_bipush (v := 6) dL_law_153 (by decide) ?_
        refine j_goto (tgt := 178) dL_law_155 (by decide) ?_
        exact mid _ (fun _ => rfl)
set_option maxRecDepth 100000 in
set_option maxHeartbeats 4000000 in
theorem lw_J (hB : jB l s0 D) {b N : Nat} {xs : Nat → Int32} (hXs : va_X b N xs s0 s0.heap) (hbs : b < s0.heap.size) (hN : N ≤ 260) {T : jT} {V : jV} {X : jX} : J l s0 D kLaw room_1 705757 6984428 (fun o _ _ _ _ => o = .inl (some (.int 1))) 0 [(0, .ref b)] [] T V X s0.heap.size 0 0 := by
  generalize hq : s0.heap.size = q
  refine j_new dL_law_0 hB nw_L_54 (by decide) (by decide) ?_
  refine j_dup dL_law_3 rfl ?_
  refine j_cI dL_law_4 hB mo_X7_init ml_L_147 (sp_X7_init hB jup_eq jz_row) rfl rfl ⟨rfl, rfl, by decide, by decide⟩ (Nat.le_of_ble_eq_true rfl) ⟨by decide, by decide⟩ (fun T1 V1 X1 sz1 h1 => ?_)
  obtain ⟨rfl, g1, w1⟩ := h1
  refine j_astore_n (L' := [(0, _), (1, _)]) dL_law_7 (by decide) rfl ?_
  refine j_bipush (v := 60) dL_law_8 (by decide) ?_
  refine j_newi (N := 60) dL_law_10 hB ac_int (by decide) (by decide) (by first | decide | omega) (by first | decide | omega) ?_
  refine j_astore_n (L' := [(0, _), (1, _), (2, _)]) dL_law_12 (by decide) rfl ?_
  refine j_bipush (v := 60) dL_law_13 (by decide) ?_
  refine j_newi (N := 60) dL_law_15 hB ac_int (by decide) (by decide) (by first | decide | omega) (by first | decide | omega) ?_
  refine j_astore_n (L' := [(0, _), (1, _), (2, _), (3, _)]) dL_law_17 (by decide) rfl ?_
  refine j_bipush (v := 60) dL_law_18 (by decide) ?_
  refine j_newi (N := 60) dL_law_20 hB ac_int (by decide) (by decide) (by first | decide | omega) (by first | decide | omega) ?_
  refine j_astore (L' := [(0, _), (1, _), (2, _), (3, _), (4, _)]) dL_law_22 (by decide) rfl ?_
  refine j_bipush (v := 12) dL_law_24 (by decide) ?_
  refine j_newi (N := 12) dL_law_26 hB ac_int (by decide) (by decide) (by first | decide | omega) (by first | decide | omega) ?_
  refine j_astore (L' := [(0, _), (1, _), (2, _), (3, _), (4, _), (5, _)]) dL_law_28 (by decide) rfl ?_
  refine j_iconst (v := 3) dL_law_30 (by decide) ?_
  refine j_newi (N := 3) dL_law_31 hB ac_int (by decide) (by decide) (by first | decide | omega) (by first | decide | omega) ?_
  refine j_astore (L' := [(0, _), (1, _), (2, _), (3, _), (4, _), (5, _), (6, _)]) dL_law_33 (by decide) rfl ?_
  refine j_abT (fun T3 hT3 => ?_)
  refine j_abV (fun V2 hV2 => ?_)
  have hT : lwT T3 q := by
    refine ⟨?_, ?_, ?_, ?_, ?_⟩
    · rw [hT3, jup_ne (by omega), jup_ne (by omega), jup_ne (by omega), jup_ne (by omega)]; exact jup_eq
    · rw [hT3, jup_ne (by omega), jup_ne (by omega), jup_ne (by omega)]; exact jup_eq
    · rw [hT3, jup_ne (by omega), jup_ne (by omega)]; exact jup_eq
    · rw [hT3, jup_ne (by omega)]; exact jup_eq
    · rw [hT3]; exact jup_eq
  have hTa := hT.1
  have hTb := hT.2.1
  have hTc := hT.2.2.1
  have hTd := hT.2.2.2.2
  refine j_aload dL_law_35 rfl ?_
  refine j_iconst (v := 1) dL_law_37 (by decide) ?_
  refine j_bipush (v := 20) dL_law_38 (by decide) ?_
  refine m_iast (k := 1) dL_law_40 hB (by assumption) (ixk (iC 1 (by decide)) (by omega)) (by omega) ?_
  refine j_aload dL_law_41 rfl ?_
  refine j_iconst (v := 2) dL_law_43 (by decide) ?_
  refine j_iconst (v := 5) dL_law_44 (by decide) ?_
  refine m_iast (k := 2) dL_law_45 hB (by assumption) (ixk (iC 2 (by decide)) (by omega)) (by omega) ?_
  refine j_aload_n dL_law_46 rfl ?_
  refine j_bipush (v := 30) dL_law_47 (by decide) ?_
  refine j_iconst (v := 1) dL_law_49 (by decide) ?_
  refine m_iast (k := 30) dL_law_50 hB (by assumption) (ixk (iC 30 (by decide)) (by omega)) (by omega) ?_
  refine j_aload_n dL_law_51 rfl ?_
  refine j_bipush (v := 30) dL_law_52 (by decide) ?_
  refine j_iconst (v := 1) dL_law_54 (by decide) ?_
  refine m_iast (k := 30) dL_law_55 hB (by assumption) (ixk (iC 30 (by decide)) (by omega)) (by omega) ?_
  refine j_aload dL_law_56 rfl ?_
  refine j_bipush (v := 30) dL_law_58 (by decide) ?_
  refine j_iconst (v := 1) dL_law_60 (by decide) ?_
  refine m_iast (k := 30) dL_law_61 hB (by assumption) (ixk (iC 30 (by decide)) (by omega)) (by omega) ?_
  refine j_aload_n dL_law_62 rfl ?_
  refine j_bipush (v := 32) dL_law_63 (by decide) ?_
  refine j_bipush (v := 16) dL_law_65 (by decide) ?_
  refine m_iast (k := 32) dL_law_67 hB (by assumption) (ixk (iC 32 (by decide)) (by omega)) (by omega) ?_
  refine j_aload_n dL_law_68 rfl ?_
  refine j_bipush (v := 32) dL_law_69 (by decide) ?_
  refine j_bipush (v := 16) dL_law_71 (by decide) ?_
  refine m_iast (k := 32) dL_law_73 hB (by assumption) (ixk (iC 32 (by decide)) (by omega)) (by omega) ?_
  refine j_aload dL_law_74 rfl ?_
  refine j_bipush (v := 32) dL_law_76 (by decide) ?_
  refine j_bipush (v := 16) dL_law_78 (by decide) ?_
  refine m_iast (k := 32) dL_law_80 hB (by assumption) (ixk (iC 32 (by decide)) (by omega)) (by omega) ?_
  generalize hV3 : jset (jset (jset (jset (jset (jset (jset (jset V2 (q + 496) 1 20) (q + 496) 2 5) (q + 492) 30 1) (q + 493) 30 1) (q + 494) 30 1) (q + 492) 32 16) (q + 493) 32 16) (q + 494) 32 16 = V3
  have cu3 : cuIs T3 V3 q xBeg := (cuIs.of0 g1).cg (fun a ha hb => ⟨by rw [hT3, jup_ne (by omega), jup_ne (by omega), jup_ne (by omega), jup_ne (by omega), jup_ne (by omega)], by rw [← hV3, jset_row (by omega), jset_row (by omega), jset_row (by omega), jset_row (by omega), jset_row (by omega), jset_row (by omega), jset_row (by omega), jset_row (by omega), hV2, jz_ne (by omega), jz_ne (by omega), jz_ne (by omega), jz_ne (by omega), jz_ne (by omega)]⟩)
  have z0 : ∀ i k, i < 5 → V2 (q + 492 + i) k = 0 := by
    intro i k hi
    rw [hV2]
    rcases (show i = 0 ∨ i = 1 ∨ i = 2 ∨ i = 3 ∨ i = 4 by omega) with rfl | rfl | rfl | rfl | rfl
    · rw [jz_ne (by omega), jz_ne (by omega), jz_ne (by omega), jz_ne (by omega)]; exact jz_at
    · rw [jz_ne (by omega), jz_ne (by omega), jz_ne (by omega)]; exact jz_at
    · rw [jz_ne (by omega), jz_ne (by omega)]; exact jz_at
    · rw [jz_ne (by omega)]; exact jz_at
    · exact jz_at
  have hs : ∀ b k, V3 b k = if b = q + 494 ∧ k = 32 then 16 else if b = q + 493 ∧ k = 32 then 16 else if b = q + 492 ∧ k = 32 then 16 else if b = q + 494 ∧ k = 30 then 1 else if b = q + 493 ∧ k = 30 then 1 else if b = q + 492 ∧ k = 30 then 1 else if b = q + 496 ∧ k = 2 then 5 else if b = q + 496 ∧ k = 1 then 20 else V2 b k := fun b k => by rw [← hV3]; rfl
  have w : lwV T3 V3 q xBeg := by
    refine ⟨cu3, ?_, ?_, ?_, ?_, ?_⟩
    · refine zRl_0 ?_ ?_ ?_ ?_ ?_ <;> rw [hs] <;> simp <;> exact z0 0 _ (by omega)
    · refine zRl_0 ?_ ?_ ?_ ?_ ?_ <;> rw [hs] <;> simp <;> exact z0 1 _ (by omega)
    · refine zRl_0 ?_ ?_ ?_ ?_ ?_ <;> rw [hs] <;> simp <;> exact z0 2 _ (by omega)
    · exact ⟨by decide, fun k hk => absurd hk (Nat.not_lt_zero _)⟩
    · refine ⟨?_, ?_, ?_⟩
      · rw [hs]; simp; rw [z0 4 0 (by omega)]; rfl
      · rw [hs]; simp; rfl
      · rw [hs]; simp; rfl
  
  refine j_aload_n dL_law_81 rfl ?_
  refine j_iconst (v := 1) dL_law_82 (by decide) ?_
  refine j_aload_n dL_law_83 rfl ?_
  refine j_aload_n dL_law_84 rfl ?_
  refine j_aload dL_law_85 rfl ?_
  refine j_aload dL_law_87 rfl ?_
  refine j_aload dL_law_89 rfl ?_
  refine j_cK dL_law_91 hB mo_L_told ml_L_148 (sp_L_told hB xW_x0 hT w) rfl rfl ⟨rfl, rfl, by decide, by decide⟩ (Nat.le_of_ble_eq_true rfl) ⟨by decide, by decide⟩ (fun V_91 sz_91 z_91 h_91 => ?_)
  replace w := w.ag h_91.1 h_91.2
  refine m_if_eq (tgt := 106) dL_law_94 (by decide) (iC 1 (by decide)) (fun c_94 => ?_) (fun c_94 => ?_)
  · exact absurd c_94 (by decide)
  · refine j_aload_n dL_law_97 rfl ?_
    refine j_bipush (v := 7) dL_law_98 (by decide) ?_
    refine j_cCi dL_law_100 hB mo_X7_count ml_L_96 (sp_X7_count hB w.1 xW_x0) (e_ct0 (by decide) (by decide)) w.1.k rfl rfl rfl rfl ⟨rfl, rfl, by decide, by decide⟩ (Nat.le_of_ble_eq_true rfl) ⟨by decide, by decide⟩ (fun y_100 V_100 h_100 a_100 g_100 => ?_)
    replace h_100 : isI y_100 0 := (h_100.trans (ct_7 (by decide))).trans ctP_7
    replace w := w.ag a_100 g_100
    refine m_if_eq (tgt := 108) dL_law_103 (by decide) (h_100) (fun c_103 => ?_) (fun c_103 => ?_)
    · refine j_iconst (v := 0) dL_law_108 (by decide) ?_
      refine j_istore (L' := [(0, _), (1, _), (2, _), (3, _), (4, _), (5, _), (6, _), (7, _)]) dL_law_109 (by decide) rfl ?_
      exact lw_loop hB hXs hbs hN hT 22 0 0 _ _ _ _ xBeg rfl rfl w xW_x0 (fun z9 => absurd z9 (by decide)) (fun _ => rfl) (by decide) (by decide)
    · exact absurd rfl c_103
end JLL
