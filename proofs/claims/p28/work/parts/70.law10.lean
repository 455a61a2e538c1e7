/-! THE LAW: what is done, whole -/
section JLL
variable {l : Launch} {s0 : State} {D : jD} {T : jT} {V : jV} {X : jX} {sz : Nat}
set_option maxRecDepth 100000 in
set_option maxHeartbeats 4000000 in
theorem ac_add (hB : jB l s0 D) {q z ra : Nat} {x : aX} {a0 x0 y0 r0 ft : Int32} (hT : lwT T q) (w : lwV T V q x) (hW : xW x) (hra : ra = q + 492 + z) (z3 : z < 3) (hz0 : r0.toInt = (z : Int)) (hr : T ra = some (kI 60)) (hz : zRl (V ra) (xR x r0)) (h6 : ¬ a0.toInt = 6) : J l s0 D kL_act (jR 9 10 60) 10 60 (qK T X sz (fun V' => ∃ x' : aX, lwV T V' q x' ∧ xW x' ∧ (1 ≤ x.2.1.length → 1 ≤ x'.2.1.length) ∧ (a0.toInt = 6 → x.1.2.1.1.length < 4 → 1 ≤ x'.2.1.length))) 83 [(0, .ref q), (1, .int a0), (2, .int x0), (3, .int y0), (4, .ref (q + 492)), (5, .ref (q + 493)), (6, .ref (q + 494)), (7, .ref (q + 495)), (8, .ref (q + 496)), (9, .int r0), (10, .ref ra), (11, .int ft)] [] T V X sz 0 0 := by
  have hrl : rlW x.1 (xR x r0) := hW.r r0
  have hp : pcW x.1 := hW.1.1
  have h5 := hz.2.1
  have hn1 : isI (V ra 0) (xR x r0).1.length := hz.1
  have hTp := hT.2.2.2.1
  have hTd := hT.2.2.2.2
  refine j_aload dL_act_83 rfl ?_
  refine j_iconst (v := 0) dL_act_85 (by decide) ?_
  refine m_iald (k := 0) dL_act_86 hB (by assumption) (ixk (iC 0 (by decide)) (by omega)) (by omega) ?_
  refine j_iconst (v := 5) dL_act_87 (by decide) ?_
  refine m_icmp_ne (tgt := 93) dL_act_88 (by decide) (hn1) (iC 5 (by decide)) (fun c_88 => ?_) (fun c_88 => ?_)
  · refine j_iconst (v := 1) dL_act_93 (by decide) ?_
    refine j_iconst (v := 4) dL_act_94 (by decide) ?_
    refine j_aload dL_act_95 rfl ?_
    refine j_iconst (v := 0) dL_act_97 (by decide) ?_
    refine m_iald (k := 0) dL_act_98 hB (by assumption) (ixk (iC 0 (by decide)) (by omega)) (by omega) ?_
    refine j_imul dL_act_99 ?_
    refine j_iadd dL_act_100 ?_
    refine j_istore (L' := [(0, _), (1, _), (2, _), (3, _), (4, _), (5, _), (6, _), (7, _), (8, _), (9, _), (10, _), (11, _), (12, _)]) dL_act_101 (by decide) rfl ?_
    refine j_aload dL_act_103 rfl ?_
    refine j_iload dL_act_105 rfl ?_
    refine j_iconst (v := 1) dL_act_107 (by decide) ?_
    refine j_iload_n dL_act_108 rfl ?_
    refine j_bipush (v := 80) dL_act_109 (by decide) ?_
    refine j_cSi dL_act_111 hB mo_L_at ml_L_71 (sp_L_at hB (by decide)) rfl rfl ⟨rfl, rfl, by decide, by decide⟩ (Nat.le_of_ble_eq_true rfl) ⟨by decide, by decide⟩ (fun r_111 V_111 h_111 => ?_)
    obtain ⟨rfl, f111, g111⟩ := h_111
    rw [show (80 : Int32).toInt = 80 by decide] at g111
    refine j_iadd dL_act_114 ?_
    refine m_iast (k := 1 + 4 * ((xR x r0).1.length)) dL_act_115 hB (by assumption) (ixk (iA (iC 1 (by decide)) (iM (iC 4 (by decide)) (hn1) (by omega)) (by omega)) (by omega)) (by omega) ?_
    have hln : isI (1 + r_111) (1 + r_111.toInt) := iA (iC 1 (by decide)) iV (by omega)
    have hlni : (1 + r_111).toInt = 1 + r_111.toInt := hln
    refine j_aload dL_act_116 rfl ?_
    refine j_iload dL_act_118 rfl ?_
    refine j_iconst (v := 1) dL_act_120 (by decide) ?_
    refine j_iadd dL_act_121 ?_
    refine j_ldc dL_act_122 hB kc_L_21 ?_
    refine m_iast (k := 2 + 4 * (xR x r0).1.length) dL_act_124 hB (by assumption) (ixk (iA (iA (iC 1 (by decide)) (iM (iC 4 (by decide)) (hn1) (by omega)) (by omega)) (iC 1 (by decide)) (by omega)) (by omega)) (by omega) ?_
    generalize hV2 : jset (jset V ra (1 + 4 * (xR x r0).1.length) (1 + r_111)) ra (2 + 4 * (xR x r0).1.length) (-2000001) = V2
    have e9 : isI (V2 ra 0) (xR x r0).1.length := by rw [← hV2, jset_ne (Or.inr (by omega)), jset_ne (Or.inr (by omega))]; exact hn1
    refine j_aload dL_act_125 rfl ?_
    refine j_iconst (v := 0) dL_act_127 (by decide) ?_
    refine j_dup2 dL_act_128 rfl rfl ?_
    refine m_iald (k := 0) dL_act_129 hB (by assumption) (ixk (iC 0 (by decide)) (by omega)) (by omega) ?_
    refine j_iconst (v := 1) dL_act_130 (by decide) ?_
    refine j_iadd dL_act_131 ?_
    refine m_iast (k := 0) dL_act_132 hB (by assumption) (ixk (iC 0 (by decide)) (by omega)) (by omega) ?_
    generalize hV3 : jset V2 ra 0 (V2 ra 0 + 1) = V3
    have ef : ∀ b, ¬ b = ra → V3 b = V b := fun b h => by rw [← hV3, jset_row h, ← hV2, jset_row h, jset_row h]
    have e0 : isI (V3 ra 0) (((xR x r0).1.length : Int) + 1) := by rw [← hV3, jset_eq]; exact iA e9 (iC 1 (by decide)) (by omega)
    have eL : V3 ra (1 + 4 * (xR x r0).1.length) = (1 + r_111) := by rw [← hV3, jset_ne (Or.inr (by omega)), ← hV2, jset_ne (Or.inr (by omega)), jset_eq]
    have eP : V3 ra (2 + 4 * (xR x r0).1.length) = -2000001 := by rw [← hV3, jset_ne (Or.inr (by omega)), ← hV2, jset_eq]
    have eO : ∀ t, ¬ t = 0 → ¬ t = 1 + 4 * (xR x r0).1.length → ¬ t = 2 + 4 * (xR x r0).1.length → V3 ra t = V ra t := fun t h1 h2 h3 => by rw [← hV3, jset_ne (Or.inr h1), ← hV2, jset_ne (Or.inr h3), jset_ne (Or.inr h2)]
    have hz3 := hz.ext (Z' := V3 ra) hrl (by omega) (by rw [e0, hz.1]) eL eP eO
    have cu3 : cuIs T V3 q x := w.1.cg (fun a ha hb => ⟨rfl, ef a (by omega)⟩)
    have he := e_add0 (x := x) (r := r0) (len := (1 + r_111)) hz0 z3 (by omega) (by omega) (by omega)
    refine j_aload_n dL_act_133 rfl ?_
    refine j_iload dL_act_134 rfl ?_
    refine j_aload dL_act_136 rfl ?_
    refine j_iload dL_act_138 rfl ?_
    refine m_iald (k := 1 + 4 * ((xR x r0).1.length)) dL_act_140 hB (by assumption) (ixk (iA (iC 1 (by decide)) (iM (iC 4 (by decide)) (hn1) (by omega)) (by omega)) (by omega)) (by omega) ?_
    rw [eL]
    refine j_cCi dL_act_141 hB mo_X7_addScene ml_L_115 (sp_X7_addScene hB cu3 hW) (he) cu3.k rfl rfl rfl rfl ⟨rfl, rfl, by decide, by decide⟩ (Nat.le_of_ble_eq_true rfl) ⟨by decide, by decide⟩ (fun y_141 V_141 h_141 a_141 g_141 => ?_)
    replace h_141 : isI y_141 (xR x r0).1.length := h_141
    have e10 : isI (V_141 ra 0) (((xR x r0).1.length : Int) + 1) := by rw [a_141 ra (Or.inr (by omega))]; exact e0
    refine j_aload dL_act_144 rfl ?_
    refine j_iconst (v := 0) dL_act_146 (by decide) ?_
    refine m_iald (k := 0) dL_act_147 hB (by assumption) (ixk (iC 0 (by decide)) (by omega)) (by omega) ?_
    refine j_iconst (v := 1) dL_act_148 (by decide) ?_
    refine j_isub dL_act_149 ?_
    refine m_icmp_ne (tgt := 157) dL_act_150 (by decide) (h_141) (iS (e10) (iC 1 (by decide)) (by omega)) (fun c_150 => ?_) (fun c_150 => ?_)
    · exact absurd (by omega) c_150
    · refine j_iconst (v := 1) dL_act_153 (by decide) ?_
      refine j_goto (tgt := 158) dL_act_154 (by decide) ?_
      refine j_iret dL_act_158 rfl (by first | decide | exact m_nrB (by assumption)) (by decide) (by decide) ?_
      exact ⟨rfl, rfl, rfl, Nat.le_refl _, s_add x r0 (1 + r_111), lwV_set w hra z3 hz0 hz3 (fun b h1 h2 h3 => ef b h1) a_141 g_141, xw_add hW he, fun _ => xPush_1, fun _ _ => xPush_1⟩
  · refine j_iconst (v := 1) dL_act_91 (by decide) ?_
    refine j_iret dL_act_92 rfl (by first | decide | exact m_nrB (by assumption)) (by decide) (by decide) ?_
    exact ⟨rfl, rfl, rfl, Nat.le_refl _, x, w, hW, fun z9 => z9, fun z8 z9 => absurd z8 (by omega)⟩
set_option maxRecDepth 100000 in
set_option maxHeartbeats 4000000 in
theorem ac_crank (hB : jB l s0 D) {q z ra : Nat} {x : aX} {a0 x0 y0 r0 ft : Int32} (hT : lwT T q) (w : lwV T V q x) (hW : xW x) (hra : ra = q + 492 + z) (z3 : z < 3) (hz0 : r0.toInt = (z : Int)) (hr : T ra = some (kI 60)) (hz : zRl (V ra) (xR x r0)) (h4 : a0.toInt = 4) (f0 : 0 ≤ ft.toInt) (f1 : ft.toInt < 300) : J l s0 D kL_act (jR 9 10 60) 10 60 (qK T X sz (fun V' => ∃ x' : aX, lwV T V' q x' ∧ xW x' ∧ (1 ≤ x.2.1.length → 1 ≤ x'.2.1.length) ∧ (a0.toInt = 6 → x.1.2.1.1.length < 4 → 1 ≤ x'.2.1.length))) 164 [(0, .ref q), (1, .int a0), (2, .int x0), (3, .int y0), (4, .ref (q + 492)), (5, .ref (q + 493)), (6, .ref (q + 494)), (7, .ref (q + 495)), (8, .ref (q + 496)), (9, .int r0), (10, .ref ra), (11, .int ft)] [] T V X sz 0 0 := by
  have hrl : rlW x.1 (xR x r0) := hW.r r0
  have hp : pcW x.1 := hW.1.1
  have h5 := hz.2.1
  have hn1 : isI (V ra 0) (xR x r0).1.length := hz.1
  have hTp := hT.2.2.2.1
  have hTd := hT.2.2.2.2
  refine j_bipush (v := 30) dL_act_164 (by decide) ?_
  refine j_iload dL_act_166 rfl ?_
  refine j_aload dL_act_168 rfl ?_
  refine j_cSi dL_act_170 hB mo_L_isFull ml_L_118 (sp_L_isFull hB hr (by decide : (30 : Int32).toInt = ((30 : Nat) : Int)) (Or.inl rfl) hz.2.2.2.1) rfl rfl ⟨rfl, rfl, by decide, by decide⟩ (Nat.le_of_ble_eq_true rfl) ⟨by decide, by decide⟩ (fun r_170 V_170 h_170 => ?_)
  obtain ⟨rfl, b_170⟩ := h_170
  refine m_ifeqB (tgt := 178) dL_act_173 (by decide) b_170 (fun c_173 => ?_) (fun c_173 => ?_)
  · refine j_bipush (v := 10) dL_act_178 (by decide) ?_
    refine j_iload_n dL_act_180 rfl ?_
    refine j_bipush (v := 21) dL_act_181 (by decide) ?_
    refine j_cSi dL_act_183 hB mo_L_at ml_L_71 (sp_L_at hB (by decide)) rfl rfl ⟨rfl, rfl, by decide, by decide⟩ (Nat.le_of_ble_eq_true rfl) ⟨by decide, by decide⟩ (fun r_183 V_183 h_183 => ?_)
    obtain ⟨rfl, f183, g183⟩ := h_183
    rw [show (21 : Int32).toInt = 21 by decide] at g183
    refine j_iadd dL_act_186 ?_
    refine j_istore (L' := [(0, _), (1, _), (2, _), (3, _), (4, _), (5, _), (6, _), (7, _), (8, _), (9, _), (10, _), (11, _), (12, _)]) dL_act_187 (by decide) rfl ?_
    have hsp : isI (10 + r_183) (10 + r_183.toInt) := iA (iC 10 (by decide)) iV (by omega)
    have hspi : (10 + r_183).toInt = 10 + r_183.toInt := hsp
    have hlen := pSet_len (f := ft) (v := (10 + r_183)) hz.2.2.2.1.2.1
    have h66 := hz.2.2.2.1.1
    have hroom : (xR x r0).2.2.2.2.1.length < 6 ∨ pHas (xR x r0).2.2.2.2.1 ft := by
      by_cases e : pHas (xR x r0).2.2.2.2.1 ft
      · exact Or.inr e
      · exact Or.inl (by have : ¬ (xR x r0).2.2.2.2.1.length = 6 := fun z9 => c_173 ⟨e, z9⟩; omega)
    have h6 : (pSet (xR x r0).2.2.2.2.1 ft (10 + r_183)).length ≤ 6 := by
      by_cases e : pHas (xR x r0).2.2.2.2.1 ft
      · rw [hlen.1 e]; exact h66
      · rw [hlen.2 e]; have := hroom.resolve_right e; omega
    have he := e_crank0 (x := x) (r := r0) (f := ft) (v := (10 + r_183)) hz0 z3 f0 (by omega) (by omega) (by omega) hroom
    refine j_bipush (v := 30) dL_act_189 (by decide) ?_
    refine j_iload dL_act_191 rfl ?_
    refine j_iload dL_act_193 rfl ?_
    refine j_aload dL_act_195 rfl ?_
    refine j_cSi dL_act_197 hB mo_L_hold ml_L_122 (sp_L_hold hB hr (by decide : (30 : Int32).toInt = ((30 : Nat) : Int)) (Or.inl rfl) hz.2.2.2.1 h6) rfl rfl ⟨rfl, rfl, by decide, by decide⟩ (Nat.le_of_ble_eq_true rfl) ⟨by decide, by decide⟩ (fun r_197 V_197 h_197 => ?_)
    obtain ⟨hy, hH, hfr, hoth⟩ := h_197
    have cu3 : cuIs T V_197 q x := w.1.cg (fun a ha hb => ⟨rfl, hoth a (by omega)⟩)
    refine j_aload_n dL_act_200 rfl ?_
    refine j_iload dL_act_201 rfl ?_
    refine j_iload dL_act_203 rfl ?_
    refine j_iload dL_act_205 rfl ?_
    refine j_cCi dL_act_207 hB mo_X7_crank ml_L_125 (sp_X7_crank hB cu3 hW) (he) cu3.k rfl rfl rfl rfl ⟨rfl, rfl, by decide, by decide⟩ (Nat.le_of_ble_eq_true rfl) ⟨by decide, by decide⟩ (fun y_207 V_207 h_207 a_207 g_207 => ?_)
    replace h_207 : isI y_207 (pSet (xR x r0).2.2.2.2.1 ft (10 + r_183)).length := h_207
    refine m_icmp_ne (tgt := 217) dL_act_210 (by decide) (hy) (h_207) (fun c_210 => ?_) (fun c_210 => ?_)
    · exact absurd rfl c_210
    · refine j_iconst (v := 1) dL_act_213 (by decide) ?_
      refine j_goto (tgt := 218) dL_act_214 (by decide) ?_
      refine j_iret dL_act_218 rfl (by first | decide | exact m_nrB (by assumption)) (by decide) (by decide) ?_
      exact ⟨rfl, rfl, rfl, Nat.le_refl _, s_crank x r0 ft (10 + r_183), lwV_set w hra z3 hz0 (hz.sp hH (fun i hi => hfr i (by omega))) (fun b h1 h2 h3 => hoth b h1) a_207 g_207, xw_crank hW he, fun _ => xPush_1, fun _ _ => xPush_1⟩
  · refine j_iconst (v := 1) dL_act_176 (by decide) ?_
    refine j_iret dL_act_177 rfl (by first | decide | exact m_nrB (by assumption)) (by decide) (by decide) ?_
    exact ⟨rfl, rfl, rfl, Nat.le_refl _, x, w, hW, fun z9 => z9, fun z8 z9 => absurd z8 (by omega)⟩
set_option maxRecDepth 100000 in
set_option maxHeartbeats 4000000 in
theorem ac_spl (hB : jB l s0 D) {q z ra : Nat} {x : aX} {a0 x0 y0 r0 ft : Int32} (hT : lwT T q) (w : lwV T V q x) (hW : xW x) (hra : ra = q + 492 + z) (z3 : z < 3) (hz0 : r0.toInt = (z : Int)) (hr : T ra = some (kI 60)) (hz : zRl (V ra) (xR x r0)) (h4 : a0.toInt = 5) (f0 : 0 ≤ ft.toInt) (f1 : ft.toInt < 300) : J l s0 D kL_act (jR 9 10 60) 10 60 (qK T X sz (fun V' => ∃ x' : aX, lwV T V' q x' ∧ xW x' ∧ (1 ≤ x.2.1.length → 1 ≤ x'.2.1.length) ∧ (a0.toInt = 6 → x.1.2.1.1.length < 4 → 1 ≤ x'.2.1.length))) 224 [(0, .ref q), (1, .int a0), (2, .int x0), (3, .int y0), (4, .ref (q + 492)), (5, .ref (q + 493)), (6, .ref (q + 494)), (7, .ref (q + 495)), (8, .ref (q + 496)), (9, .int r0), (10, .ref ra), (11, .int ft)] [] T V X sz 0 0 := by
  have hrl : rlW x.1 (xR x r0) := hW.r r0
  have hp : pcW x.1 := hW.1.1
  have h5 := hz.2.1
  have hn1 : isI (V ra 0) (xR x r0).1.length := hz.1
  have hTp := hT.2.2.2.1
  have hTd := hT.2.2.2.2
  have hPn := hz.2.2.2.2.n
  refine j_iload_n dL_act_224 rfl ?_
  refine j_bipush (v := 51) dL_act_225 (by decide) ?_
  refine j_cSi dL_act_227 hB mo_L_at ml_L_71 (sp_L_at hB (by decide)) rfl rfl ⟨rfl, rfl, by decide, by decide⟩ (Nat.le_of_ble_eq_true rfl) ⟨by decide, by decide⟩ (fun r_227 V_227 h_227 => ?_)
  obtain ⟨rfl, f227, g227⟩ := h_227
  rw [show (51 : Int32).toInt = 51 by decide] at g227
  refine j_istore (L' := [(0, _), (1, _), (2, _), (3, _), (4, _), (5, _), (6, _), (7, _), (8, _), (9, _), (10, _), (11, _), (12, _)]) dL_act_230 (by decide) rfl ?_
  refine j_iload dL_act_232 rfl ?_
  refine m_if_ne (tgt := 348) dL_act_234 (by decide) (iV) (fun c_234 => ?_) (fun c_234 => ?_)
  · refine j_bipush (v := 45) dL_act_348 (by decide) ?_
    refine j_iload dL_act_350 rfl ?_
    refine j_aload dL_act_352 rfl ?_
    refine j_cSi dL_act_354 hB mo_L_isFull ml_L_118 (sp_L_isFull hB hr (by decide : (45 : Int32).toInt = ((45 : Nat) : Int)) (Or.inr rfl) hz.2.2.2.2) rfl rfl ⟨rfl, rfl, by decide, by decide⟩ (Nat.le_of_ble_eq_true rfl) ⟨by decide, by decide⟩ (fun r_354 V_354 h_354 => ?_)
    obtain ⟨rfl, b_354⟩ := h_354
    refine m_ifeqB (tgt := 362) dL_act_357 (by decide) b_354 (fun c_357 => ?_) (fun c_357 => ?_)
    · have hv0 : ¬ r_227 = 0 := fun z9 => c_234 (by rw [z9]; rfl)
      have hlen := pSet_len (f := ft) (v := r_227) hz.2.2.2.2.2.1
      have h66 := hz.2.2.2.2.1
      have hroom : (xR x r0).2.2.2.2.2.length < 6 ∨ pHas (xR x r0).2.2.2.2.2 ft := by
        by_cases e : pHas (xR x r0).2.2.2.2.2 ft
        · exact Or.inr e
        · exact Or.inl (by have : ¬ (xR x r0).2.2.2.2.2.length = 6 := fun z9 => c_357 ⟨e, z9⟩; omega)
      have h6 : (pSet (xR x r0).2.2.2.2.2 ft r_227).length ≤ 6 := by
        by_cases e : pHas (xR x r0).2.2.2.2.2 ft
        · rw [hlen.1 e]; exact h66
        · rw [hlen.2 e]; have := hroom.resolve_right e; omega
      have eX : xSpl x r0 ft r_227 = pSet (xR x r0).2.2.2.2.2 ft r_227 := if_neg hv0
      have he := e_spl0 (x := x) (r := r0) (f := ft) (v := r_227) hz0 z3 f0 (by omega) (by omega) (by omega) (Or.inr hroom)
      refine j_bipush (v := 45) dL_act_362 (by decide) ?_
      refine j_iload dL_act_364 rfl ?_
      refine j_iload dL_act_366 rfl ?_
      refine j_aload dL_act_368 rfl ?_
      refine j_cSi dL_act_370 hB mo_L_hold ml_L_122 (sp_L_hold hB hr (by decide : (45 : Int32).toInt = ((45 : Nat) : Int)) (Or.inr rfl) hz.2.2.2.2 h6) rfl rfl ⟨rfl, rfl, by decide, by decide⟩ (Nat.le_of_ble_eq_true rfl) ⟨by decide, by decide⟩ (fun r_370 V_370 h_370 => ?_)
      obtain ⟨hy, hH, hfr, hoth⟩ := h_370
      have cu3 : cuIs T V_370 q x := w.1.cg (fun a ha hb => ⟨rfl, hoth a (by omega)⟩)
      refine j_aload_n dL_act_373 rfl ?_
      refine j_iload dL_act_374 rfl ?_
      refine j_iload dL_act_376 rfl ?_
      refine j_iload dL_act_378 rfl ?_
      refine j_cCi dL_act_380 hB mo_X7_splice ml_L_128 (sp_X7_splice hB cu3 hW) (he) cu3.k rfl rfl rfl rfl ⟨rfl, rfl, by decide, by decide⟩ (Nat.le_of_ble_eq_true rfl) ⟨by decide, by decide⟩ (fun y_380 V_380 h_380 a_380 g_380 => ?_)
      replace h_380 : isI y_380 (pSet (xR x r0).2.2.2.2.2 ft r_227).length := by rw [← eX]; exact h_380
      refine m_icmp_ne (tgt := 390) dL_act_383 (by decide) (hy) (h_380) (fun c_383 => ?_) (fun c_383 => ?_)
      · exact absurd rfl c_383
      · refine j_iconst (v := 1) dL_act_386 (by decide) ?_
        refine j_goto (tgt := 391) dL_act_387 (by decide) ?_
        refine j_iret dL_act_391 rfl (by first | decide | exact m_nrB (by assumption)) (by decide) (by decide) ?_
        exact ⟨rfl, rfl, rfl, Nat.le_refl _, s_spl x r0 ft r_227, lwV_set w hra z3 hz0 (by rw [eX]; exact hz.sl hH (fun i hi => hfr i (Or.inl hi))) (fun b h1 h2 h3 => hoth b h1) a_380 g_380, xw_spl hW he, fun _ => xPush_1, fun _ _ => xPush_1⟩
    · refine j_iconst (v := 1) dL_act_360 (by decide) ?_
      refine j_iret dL_act_361 rfl (by first | decide | exact m_nrB (by assumption)) (by decide) (by decide) ?_
      exact ⟨rfl, rfl, rfl, Nat.le_refl _, x, w, hW, fun z9 => z9, fun z8 z9 => absurd z8 (by omega)⟩
  · have k325 : ∀ (V1 : jV) (k : Int32), zHl (V1 ra) 45 (pDel (xR x r0).2.2.2.2.2 ft) → (∀ t, t < 45 → V1 ra t = V ra t) → (∀ b, ¬ b = ra → V1 b = V b) → J l s0 D kL_act (jR 9 10 60) 10 60 (qK T X sz (fun V' => ∃ x' : aX, lwV T V' q x' ∧ xW x' ∧ (1 ≤ x.2.1.length → 1 ≤ x'.2.1.length) ∧ (a0.toInt = 6 → x.1.2.1.1.length < 4 → 1 ≤ x'.2.1.length))) 325 [(0, .ref q), (1, .int a0), (2, .int x0), (3, .int y0), (4, .ref (q + 492)), (5, .ref (q + 493)), (6, .ref (q + 494)), (7, .ref (q + 495)), (8, .ref (q + 496)), (9, .int r0), (10, .ref ra), (11, .int ft), (12, .int r_227), (13, .int k)] [] T V1 X sz 0 0 := by
      intro V1 k hH hfr hoth
      have cu3 : cuIs T V1 q x := w.1.cg (fun a ha hb => ⟨rfl, hoth a (by omega)⟩)
      have eX : xSpl x r0 ft 0 = (pDel (xR x r0).2.2.2.2.2 ft) := if_pos rfl
      have he := e_spl0 (x := x) (r := r0) (f := ft) (v := 0) hz0 z3 f0 (by omega) (by decide) (by decide) (Or.inl rfl)
      refine j_aload_n dL_act_325 rfl ?_
      refine j_iload dL_act_326 rfl ?_
      refine j_iload dL_act_328 rfl ?_
      refine j_iconst (v := 0) dL_act_330 (by decide) ?_
      refine j_cCi dL_act_331 hB mo_X7_splice ml_L_128 (sp_X7_splice hB cu3 hW) (he) cu3.k rfl rfl rfl rfl ⟨rfl, rfl, by decide, by decide⟩ (Nat.le_of_ble_eq_true rfl) ⟨by decide, by decide⟩ (fun y_331 V_331 h_331 a_331 g_331 => ?_)
      replace h_331 : isI y_331 (pDel (xR x r0).2.2.2.2.2 ft).length := by rw [← eX]; exact h_331
      have h9 : isI (V_331 ra 45) (pDel (xR x r0).2.2.2.2.2 ft).length := by rw [a_331 ra (Or.inr (by omega))]; exact hH.n
      refine j_aload dL_act_334 rfl ?_
      refine j_bipush (v := 45) dL_act_336 (by decide) ?_
      refine m_iald (k := 45) dL_act_338 hB (by assumption) (ixk (iC 45 (by decide)) (by omega)) (by omega) ?_
      refine m_icmp_ne (tgt := 346) dL_act_339 (by decide) (h_331) (h9) (fun c_339 => ?_) (fun c_339 => ?_)
      · exact absurd rfl c_339
      · refine j_iconst (v := 1) dL_act_342 (by decide) ?_
        refine j_goto (tgt := 347) dL_act_343 (by decide) ?_
        refine j_iret dL_act_347 rfl (by first | decide | exact m_nrB (by assumption)) (by decide) (by decide) ?_
        exact ⟨rfl, rfl, rfl, Nat.le_refl _, s_spl x r0 ft 0, lwV_set w hra z3 hz0 (by rw [eX]; exact hz.sl hH hfr) (fun b h1 h2 h3 => hoth b h1) a_331 g_331, xw_spl hW he, fun _ => xPush_1, fun _ _ => xPush_1⟩
    have lF : ∀ (V1 : jV), zHl (V1 ra) 45 (pDel (xR x r0).2.2.2.2.2 ft) → (∀ t, t < 45 → V1 ra t = V ra t) → (∀ b, ¬ b = ra → V1 b = V b) → ∀ (N m : Nat) (k : Int32), N = 10 - m → m ≤ 8 → k.toInt = (m : Int) → J l s0 D kL_act (jR 9 10 60) 10 60 (qK T X sz (fun V' => ∃ x' : aX, lwV T V' q x' ∧ xW x' ∧ (1 ≤ x.2.1.length → 1 ≤ x'.2.1.length) ∧ (a0.toInt = 6 → x.1.2.1.1.length < 4 → 1 ≤ x'.2.1.length))) 240 [(0, .ref q), (1, .int a0), (2, .int x0), (3, .int y0), (4, .ref (q + 492)), (5, .ref (q + 493)), (6, .ref (q + 494)), (7, .ref (q + 495)), (8, .ref (q + 496)), (9, .int r0), (10, .ref ra), (11, .int ft), (12, .int r_227), (13, .int k)] [] T V1 X sz 0 0 := by
      intro V1 hH hfr hoth N
      refine Nat.strongRecOn N ?_
      clear N
      intro n ih m k hn hm hk
      have h66 := hH.1
      have hnn := hH.n
      have hno : ¬ pHas (pDel (xR x r0).2.2.2.2.2 ft) ft := fun z9 => by
        obtain ⟨y, hy, e⟩ := List.mem_map.mp z9
        have := (List.mem_filter.mp hy).2
        rw [e] at this
        simp at this
      refine j_iload dL_act_240 rfl ?_
      refine j_aload dL_act_242 rfl ?_
      refine j_bipush (v := 45) dL_act_244 (by decide) ?_
      refine m_iald (k := 45) dL_act_246 hB (by assumption) (ixk (iC 45 (by decide)) (by omega)) (by omega) ?_
      refine m_icmp_ge (tgt := 325) dL_act_247 (by decide) (hk) (hnn) (fun c_247 => ?_) (fun c_247 => ?_)
      · exact k325 V1 k hH hfr hoth
      · refine j_aload dL_act_250 rfl ?_
        refine j_bipush (v := 46) dL_act_252 (by decide) ?_
        refine j_iconst (v := 2) dL_act_254 (by decide) ?_
        refine j_iload dL_act_255 rfl ?_
        refine j_imul dL_act_257 ?_
        refine j_iadd dL_act_258 ?_
        refine m_iald (k := 45 + 1 + 2 * m) dL_act_259 hB (by assumption) (ixk (iA (iC 46 (by decide)) (iM (iC 2 (by decide)) (hk) (by omega)) (by omega)) (by omega)) (by omega) ?_
        refine j_iload dL_act_260 rfl ?_
        refine m_icmp_eq (tgt := 268) dL_act_262 (by decide) (iV) (iV) (fun c_262 => ?_) (fun c_262 => ?_)
        · exact absurd ((hH.has (f := ft)).mpr ⟨m, by omega, ti_inj c_262⟩) hno
        · refine j_goto (tgt := 319) dL_act_265 (by decide) ?_
          refine j_iinc (v := 1) (L' := [(0, _), (1, _), (2, _), (3, _), (4, _), (5, _), (6, _), (7, _), (8, _), (9, _), (10, _), (11, _), (12, _), (13, _)]) dL_act_319 rfl (by decide) (by decide) rfl ?_
          refine j_goto (tgt := 240) dL_act_322 (by decide) ?_
          exact ih (n - 1) (by omega) (m + 1) _ (by omega) (by omega) (ixk (k := m + 1) (iA (hk) (iC 1 (by decide)) (by omega)) (by omega))
    have lA : ∀ (N j : Nat) (k : Int32), j + N = (xR x r0).2.2.2.2.2.length → k.toInt = (j : Int) → (∀ i9 : Nat, i9 < j → ¬ V ra (45 + 1 + 2 * i9) = ft) → J l s0 D kL_act (jR 9 10 60) 10 60 (qK T X sz (fun V' => ∃ x' : aX, lwV T V' q x' ∧ xW x' ∧ (1 ≤ x.2.1.length → 1 ≤ x'.2.1.length) ∧ (a0.toInt = 6 → x.1.2.1.1.length < 4 → 1 ≤ x'.2.1.length))) 240 [(0, .ref q), (1, .int a0), (2, .int x0), (3, .int y0), (4, .ref (q + 492)), (5, .ref (q + 493)), (6, .ref (q + 494)), (7, .ref (q + 495)), (8, .ref (q + 496)), (9, .int r0), (10, .ref ra), (11, .int ft), (12, .int r_227), (13, .int k)] [] T V X sz 0 0 := by
      intro N
      refine Nat.strongRecOn N ?_
      clear N
      intro n ih j k hn hk hy
      have h66 := hz.2.2.2.2.1
      refine j_iload dL_act_240 rfl ?_
      refine j_aload dL_act_242 rfl ?_
      refine j_bipush (v := 45) dL_act_244 (by decide) ?_
      refine m_iald (k := 45) dL_act_246 hB (by assumption) (ixk (iC 45 (by decide)) (by omega)) (by omega) ?_
      refine m_icmp_ge (tgt := 325) dL_act_247 (by decide) (hk) (hPn) (fun c_247 => ?_) (fun c_247 => ?_)
      · have hno : ¬ pHas (xR x r0).2.2.2.2.2 ft := fun z9 => by
          obtain ⟨i9, a, e9⟩ := (hz.2.2.2.2.has (f := ft)).mp z9
          exact hy i9 (by omega) e9
        exact k325 V k (by rw [(pDel_eq hz.2.2.2.2.2.1).2 hno]; exact hz.2.2.2.2) (fun _ _ => rfl) (fun _ _ => rfl)
      · refine j_aload dL_act_250 rfl ?_
        refine j_bipush (v := 46) dL_act_252 (by decide) ?_
        refine j_iconst (v := 2) dL_act_254 (by decide) ?_
        refine j_iload dL_act_255 rfl ?_
        refine j_imul dL_act_257 ?_
        refine j_iadd dL_act_258 ?_
        refine m_iald (k := 45 + 1 + 2 * j) dL_act_259 hB (by assumption) (ixk (iA (iC 46 (by decide)) (iM (iC 2 (by decide)) (hk) (by omega)) (by omega)) (by omega)) (by omega) ?_
        refine j_iload dL_act_260 rfl ?_
        refine m_icmp_eq (tgt := 268) dL_act_262 (by decide) (iV) (iV) (fun c_262 => ?_) (fun c_262 => ?_)
        · have lS : ∀ (N t : Nat) (i : Int32) (V3 : jV), N + t = 46 + 2 * ((xR x r0).2.2.2.2.2.length - 1) → i.toInt = (t : Int) → 46 + 2 * j ≤ t → (∀ u, ¬ u = 45 → (u < 46 + 2 * j ∨ t ≤ u) → V3 ra u = V ra u) → (∀ u, 46 + 2 * j ≤ u → u < t → V3 ra u = V ra (u + 2)) → isI (V3 ra 45) (((xR x r0).2.2.2.2.2.length : Int) - 1) → (∀ b, ¬ b = ra → V3 b = V b) → J l s0 D kL_act (jR 9 10 60) 10 60 (qK T X sz (fun V' => ∃ x' : aX, lwV T V' q x' ∧ xW x' ∧ (1 ≤ x.2.1.length → 1 ≤ x'.2.1.length) ∧ (a0.toInt = 6 → x.1.2.1.1.length < 4 → 1 ≤ x'.2.1.length))) 286 [(0, .ref q), (1, .int a0), (2, .int x0), (3, .int y0), (4, .ref (q + 492)), (5, .ref (q + 493)), (6, .ref (q + 494)), (7, .ref (q + 495)), (8, .ref (q + 496)), (9, .int r0), (10, .ref ra), (11, .int ft), (12, .int r_227), (13, .int k), (14, .int i)] [] T V3 X sz 0 0 := by
            intro N
            refine Nat.strongRecOn N ?_
            clear N
            intro n ih2 t i V3 hn hi ht h1 h2 h0 ef
            refine j_iload dL_act_286 rfl ?_
            refine j_bipush (v := 46) dL_act_288 (by decide) ?_
            refine j_iconst (v := 2) dL_act_290 (by decide) ?_
            refine j_aload dL_act_291 rfl ?_
            refine j_bipush (v := 45) dL_act_293 (by decide) ?_
            refine m_iald (k := 45) dL_act_295 hB (by assumption) (ixk (iC 45 (by decide)) (by omega)) (by omega) ?_
            refine j_imul dL_act_296 ?_
            refine j_iadd dL_act_297 ?_
            refine m_icmp_ge (tgt := 319) dL_act_298 (by decide) (hi) (iA (iC 46 (by decide)) (iM (iC 2 (by decide)) (h0) (by omega)) (by omega)) (fun c_298 => ?_) (fun c_298 => ?_)
            · have et : t = 46 + 2 * ((xR x r0).2.2.2.2.2.length - 1) := by omega
              subst et
              have hH := hz.2.2.2.2.drop (Z' := V3 ra) (j := j) (f := ft) hz.2.2.2.2.2.1 (by omega) (ti_inj c_262) (by rw [h0, hPn]) (fun i9 a => ⟨h1 _ (by omega) (Or.inl (by omega)), h1 _ (by omega) (Or.inl (by omega))⟩) (fun i9 a b => ⟨(h2 _ (by omega) (by omega)).trans (congrArg (V ra) (by omega)), (h2 _ (by omega) (by omega)).trans (congrArg (V ra) (by omega))⟩)
              refine j_iinc (v := 1) (L' := [(0, _), (1, _), (2, _), (3, _), (4, _), (5, _), (6, _), (7, _), (8, _), (9, _), (10, _), (11, _), (12, _), (13, _), (14, _)]) dL_act_319 rfl (by decide) (by decide) rfl ?_
              refine j_goto (tgt := 240) dL_act_322 (by decide) ?_
              refine j_sub2 (L' := [(0, _), (1, _), (2, _), (3, _), (4, _), (5, _), (6, _), (7, _), (8, _), (9, _), (10, _), (11, _), (12, _), (13, _)]) (List.forall_mem_cons.mpr ⟨rfl, List.forall_mem_cons.mpr ⟨rfl, List.forall_mem_cons.mpr ⟨rfl, List.forall_mem_cons.mpr ⟨rfl, List.forall_mem_cons.mpr ⟨rfl, List.forall_mem_cons.mpr ⟨rfl, List.forall_mem_cons.mpr ⟨rfl, List.forall_mem_cons.mpr ⟨rfl, List.forall_mem_cons.mpr ⟨rfl, List.forall_mem_cons.mpr ⟨rfl, List.forall_mem_cons.mpr ⟨rfl, List.forall_mem_cons.mpr ⟨rfl, List.forall_mem_cons.mpr ⟨rfl, List.forall_mem_cons.mpr ⟨rfl, fun _ h9 => nomatch h9⟩⟩⟩⟩⟩⟩⟩⟩⟩⟩⟩⟩⟩⟩) ?_
              exact lF V3 hH (fun t9 h9 => h1 t9 (by omega) (Or.inl (by omega))) ef _ (j + 1) _ rfl (by omega) (ixk (k := j + 1) (iA (hk) (iC 1 (by decide)) (by omega)) (by omega))
            · refine j_aload dL_act_301 rfl ?_
              refine j_iload dL_act_303 rfl ?_
              refine j_aload dL_act_305 rfl ?_
              refine j_iload dL_act_307 rfl ?_
              refine j_iconst (v := 2) dL_act_309 (by decide) ?_
              refine j_iadd dL_act_310 ?_
              refine m_iald (k := t + 2) dL_act_311 hB (by assumption) (ixk (iA (hi) (iC 2 (by decide)) (by omega)) (by omega)) (by omega) ?_
              refine m_iast (k := t) dL_act_312 hB (by assumption) (ixk (hi) (by omega)) (by omega) ?_
              refine j_iinc (v := 1) (L' := [(0, _), (1, _), (2, _), (3, _), (4, _), (5, _), (6, _), (7, _), (8, _), (9, _), (10, _), (11, _), (12, _), (13, _), (14, _)]) dL_act_313 rfl (by decide) (by decide) rfl ?_
              refine j_goto (tgt := 286) dL_act_316 (by decide) ?_
              refine ih2 (n - 1) (by omega) (t + 1) _ _ (by omega) (ixk (k := t + 1) (iA (hi) (iC 1 (by decide)) (by omega)) (by omega)) (by omega) (fun u a b => ?_) (fun u a b => ?_) ?_ (fun b h => ?_)
              · rw [jset_ne (Or.inr (by omega))]; exact h1 u a (by omega)
              · by_cases e : u = t
                · subst e
                  rw [jset_eq]; exact h1 _ (by omega) (Or.inr (by omega))
                · rw [jset_ne (Or.inr e)]; exact h2 u a (by omega)
              · rw [jset_ne (Or.inr (by omega))]; exact h0
              · rw [jset_row h]; exact ef b h
          refine j_aload dL_act_268 rfl ?_
          refine j_bipush (v := 45) dL_act_270 (by decide) ?_
          refine j_dup2 dL_act_272 rfl rfl ?_
          refine m_iald (k := 45) dL_act_273 hB (by assumption) (ixk (iC 45 (by decide)) (by omega)) (by omega) ?_
          refine j_iconst (v := 1) dL_act_274 (by decide) ?_
          refine j_isub dL_act_275 ?_
          refine m_iast (k := 45) dL_act_276 hB (by assumption) (ixk (iC 45 (by decide)) (by omega)) (by omega) ?_
          refine j_bipush (v := 46) dL_act_277 (by decide) ?_
          refine j_iconst (v := 2) dL_act_279 (by decide) ?_
          refine j_iload dL_act_280 rfl ?_
          refine j_imul dL_act_282 ?_
          refine j_iadd dL_act_283 ?_
          refine j_istore (L' := [(0, _), (1, _), (2, _), (3, _), (4, _), (5, _), (6, _), (7, _), (8, _), (9, _), (10, _), (11, _), (12, _), (13, _), (14, _)]) dL_act_284 (by decide) rfl ?_
          refine lS _ (46 + 2 * j) _ _ (Nat.sub_add_cancel (by omega)) (ixk (k := 46 + 2 * j) (iA (iC 46 (by decide)) (iM (iC 2 (by decide)) (hk) (by omega)) (by omega)) (by omega)) (Nat.le_refl _) (fun u a b => ?_) (fun u a b => absurd b (by omega)) ?_ (fun b h => ?_)
          · rw [jset_ne (Or.inr a)]
          · rw [jset_eq]; exact iS hPn (iC 1 (by decide)) (by omega)
          · rw [jset_row h]
        · refine j_goto (tgt := 319) dL_act_265 (by decide) ?_
          refine j_iinc (v := 1) (L' := [(0, _), (1, _), (2, _), (3, _), (4, _), (5, _), (6, _), (7, _), (8, _), (9, _), (10, _), (11, _), (12, _), (13, _)]) dL_act_319 rfl (by decide) (by decide) rfl ?_
          refine j_goto (tgt := 240) dL_act_322 (by decide) ?_
          refine ih (n - 1) (by omega) (j + 1) _ (by omega) (ixk (k := j + 1) (iA (hk) (iC 1 (by decide)) (by omega)) (by omega)) (fun i9 h9 z9 => ?_)
          rcases Nat.lt_or_ge i9 j with g | g
          · exact hy i9 g z9
          · have : i9 = j := by omega
            subst this
            exact c_262 (by rw [z9])
    refine j_iconst (v := 0) dL_act_237 (by decide) ?_
    refine j_istore (L' := [(0, _), (1, _), (2, _), (3, _), (4, _), (5, _), (6, _), (7, _), (8, _), (9, _), (10, _), (11, _), (12, _), (13, _)]) dL_act_238 (by decide) rfl ?_
    exact lA (xR x r0).2.2.2.2.2.length 0 0 (by omega) rfl (fun i9 h9 => absurd h9 (Nat.not_lt_zero _))
set_option maxRecDepth 100000 in
set_option maxHeartbeats 4000000 in
theorem ac_pc (hB : jB l s0 D) {q z ra : Nat} {x : aX} {a0 x0 y0 r0 ft : Int32} (hT : lwT T q) (w : lwV T V q x) (hW : xW x) (hra : ra = q + 492 + z) (z3 : z < 3) (hz0 : r0.toInt = (z : Int)) (hr : T ra = some (kI 60)) (hz : zRl (V ra) (xR x r0)) (h4 : a0.toInt = 6) : J l s0 D kL_act (jR 9 10 60) 10 60 (qK T X sz (fun V' => ∃ x' : aX, lwV T V' q x' ∧ xW x' ∧ (1 ≤ x.2.1.length → 1 ≤ x'.2.1.length) ∧ (a0.toInt = 6 → x.1.2.1.1.length < 4 → 1 ≤ x'.2.1.length))) 398 [(0, .ref q), (1, .int a0), (2, .int x0), (3, .int y0), (4, .ref (q + 492)), (5, .ref (q + 493)), (6, .ref (q + 494)), (7, .ref (q + 495)), (8, .ref (q + 496)), (9, .int r0), (10, .ref ra), (11, .int ft)] [] T V X sz 0 0 := by
  have hrl : rlW x.1 (xR x r0) := hW.r r0
  have hp : pcW x.1 := hW.1.1
  have h5 := hz.2.1
  have hn1 : isI (V ra 0) (xR x r0).1.length := hz.1
  have hTp := hT.2.2.2.1
  have hTd := hT.2.2.2.2
  have hdn : isI (V (q + 496) 0) x.1.2.1.1.length := w.2.2.2.2.2.1
  have hl4 := w.2.2.2.2.1.1
  refine j_aload dL_act_398 rfl ?_
  refine j_iconst (v := 0) dL_act_400 (by decide) ?_
  refine m_iald (k := 0) dL_act_401 hB (by assumption) (ixk (iC 0 (by decide)) (by omega)) (by omega) ?_
  refine j_iconst (v := 4) dL_act_402 (by decide) ?_
  refine m_icmp_ne (tgt := 408) dL_act_403 (by decide) (hdn) (iC 4 (by decide)) (fun c_403 => ?_) (fun c_403 => ?_)
  · refine j_iconst (v := 3) dL_act_408 (by decide) ?_
    refine j_aload dL_act_409 rfl ?_
    refine j_iconst (v := 0) dL_act_411 (by decide) ?_
    refine m_iald (k := 0) dL_act_412 hB (by assumption) (ixk (iC 0 (by decide)) (by omega)) (by omega) ?_
    refine j_imul dL_act_413 ?_
    refine j_istore (L' := [(0, _), (1, _), (2, _), (3, _), (4, _), (5, _), (6, _), (7, _), (8, _), (9, _), (10, _), (11, _), (12, _)]) dL_act_414 (by decide) rfl ?_
    refine j_aload dL_act_416 rfl ?_
    refine j_iload dL_act_418 rfl ?_
    refine j_iload_n dL_act_420 rfl ?_
    refine j_iconst (v := 3) dL_act_421 (by decide) ?_
    refine j_ishr dL_act_422 ?_
    refine j_sipush (v := 601) dL_act_423 (by decide) ?_
    refine j_cSi dL_act_426 hB mo_L_at ml_L_71 (sp_L_at hB (by decide)) rfl rfl ⟨rfl, rfl, by decide, by decide⟩ (Nat.le_of_ble_eq_true rfl) ⟨by decide, by decide⟩ (fun r_426 V_426 h_426 => ?_)
    obtain ⟨rfl, f426, g426⟩ := h_426
    rw [show (601 : Int32).toInt = 601 by decide] at g426
    refine m_iast (k := 3 * x.1.2.1.1.length) dL_act_429 hB (by assumption) (ixk (iM (iC 3 (by decide)) (hdn) (by omega)) (by omega)) (by omega) ?_
    refine j_aload dL_act_430 rfl ?_
    refine j_iload dL_act_432 rfl ?_
    refine j_iconst (v := 1) dL_act_434 (by decide) ?_
    refine j_iadd dL_act_435 ?_
    refine j_bipush (v := 10) dL_act_436 (by decide) ?_
    refine j_iload_n dL_act_438 rfl ?_
    refine j_iload_n dL_act_439 rfl ?_
    refine j_iconst (v := 2) dL_act_440 (by decide) ?_
    refine j_cSi dL_act_441 hB mo_L_at ml_L_71 (sp_L_at hB (by decide)) rfl rfl ⟨rfl, rfl, by decide, by decide⟩ (Nat.le_of_ble_eq_true rfl) ⟨by decide, by decide⟩ (fun r_441 V_441 h_441 => ?_)
    obtain ⟨rfl, f441, g441⟩ := h_441
    rw [show (2 : Int32).toInt = 2 by decide] at g441
    refine m_if_ne (tgt := 453) dL_act_444 (by decide) (iV) (fun c_444 => ?_) (fun c_444 => ?_)
    · refine j_bipush (v := 90) dL_act_453 (by decide) ?_
      refine j_cSi dL_act_455 hB mo_L_at ml_L_71 (sp_L_at hB (by decide)) rfl rfl ⟨rfl, rfl, by decide, by decide⟩ (Nat.le_of_ble_eq_true rfl) ⟨by decide, by decide⟩ (fun r_455 V_455 h_455 => ?_)
      obtain ⟨rfl, f455, g455⟩ := h_455
      have k455 : r_455.toInt < 1191 := Int.lt_of_lt_of_le g455 (by decide)
      have hst : isI (10 + r_455) (10 + r_455.toInt) := iA (iC 10 (by decide)) iV (by omega)
      have hsti : (10 + r_455).toInt = 10 + r_455.toInt := hst
      refine j_iadd dL_act_458 ?_
      refine m_iast (k := 3 * x.1.2.1.1.length + 1) dL_act_459 hB (by assumption) (ixk (iA (iM (iC 3 (by decide)) (hdn) (by omega)) (iC 1 (by decide)) (by omega)) (by omega)) (by omega) ?_
      refine j_aload dL_act_460 rfl ?_
      refine j_iload dL_act_462 rfl ?_
      refine j_iconst (v := 2) dL_act_464 (by decide) ?_
      refine j_iadd dL_act_465 ?_
      refine j_iload_n dL_act_466 rfl ?_
      refine j_bipush (v := 7) dL_act_467 (by decide) ?_
      refine j_ishr dL_act_469 ?_
      refine j_sipush (v := 200) dL_act_470 (by decide) ?_
      refine j_cSi dL_act_473 hB mo_L_at ml_L_71 (sp_L_at hB (by decide)) rfl rfl ⟨rfl, rfl, by decide, by decide⟩ (Nat.le_of_ble_eq_true rfl) ⟨by decide, by decide⟩ (fun r_473 V_473 h_473 => ?_)
      obtain ⟨rfl, f473, g473⟩ := h_473
      rw [show (200 : Int32).toInt = 200 by decide] at g473
      refine m_iast (k := 3 * x.1.2.1.1.length + 2) dL_act_476 hB (by assumption) (ixk (iA (iM (iC 3 (by decide)) (hdn) (by omega)) (iC 2 (by decide)) (by omega)) (by omega)) (by omega) ?_
      generalize hV3 : jset (jset (jset V (q + 495) (3 * x.1.2.1.1.length) r_426) (q + 495) (3 * x.1.2.1.1.length + 1) (10 + r_455)) (q + 495) (3 * x.1.2.1.1.length + 2) r_473 = V3
      have e9 : isI (V3 (q + 496) 0) x.1.2.1.1.length := by rw [← hV3, jset_row (by omega), jset_row (by omega), jset_row (by omega)]; exact hdn
      refine j_aload dL_act_477 rfl ?_
      refine j_iconst (v := 0) dL_act_479 (by decide) ?_
      refine j_dup2 dL_act_480 rfl rfl ?_
      refine m_iald (k := 0) dL_act_481 hB (by assumption) (ixk (iC 0 (by decide)) (by omega)) (by omega) ?_
      refine j_iconst (v := 1) dL_act_482 (by decide) ?_
      refine j_iadd dL_act_483 ?_
      refine m_iast (k := 0) dL_act_484 hB (by assumption) (ixk (iC 0 (by decide)) (by omega)) (by omega) ?_
      generalize hV4 : jset V3 (q + 496) 0 (V3 (q + 496) 0 + 1) = V4
      have ef : ∀ b, ¬ b = q + 495 → ¬ b = q + 496 → V4 b = V b := fun b h1 h2 => by rw [← hV4, jset_row h2, ← hV3, jset_row h1, jset_row h1, jset_row h1]
      have e0 : isI (V4 (q + 496) 0) ((x.1.2.1.1.length : Int) + 1) := by rw [← hV4, jset_eq]; exact iA e9 (iC 1 (by decide)) (by omega)
      have g0 : V4 (q + 495) (3 * x.1.2.1.1.length) = r_426 := by rw [← hV4, jset_row (by omega), ← hV3, jset_ne (Or.inr (by omega)), jset_ne (Or.inr (by omega)), jset_eq]
      have g1 : V4 (q + 495) (3 * x.1.2.1.1.length + 1) = 10 + r_455 := by rw [← hV4, jset_row (by omega), ← hV3, jset_ne (Or.inr (by omega)), jset_eq]
      have g2 : V4 (q + 495) (3 * x.1.2.1.1.length + 2) = r_473 := by rw [← hV4, jset_row (by omega), ← hV3, jset_eq]
      have gO : ∀ t, t < 3 * x.1.2.1.1.length → V4 (q + 495) t = V (q + 495) t := fun t h => by rw [← hV4, jset_row (by omega), ← hV3, jset_ne (Or.inr (by omega)), jset_ne (Or.inr (by omega)), jset_ne (Or.inr (by omega))]
      have dO : ∀ t, ¬ t = 0 → V4 (q + 496) t = V (q + 496) t := fun t h => by rw [← hV4, jset_ne (Or.inr h), ← hV3, jset_row (by omega), jset_row (by omega), jset_row (by omega)]
      have cu3 : cuIs T V4 q x := w.1.cg (fun a ha hb => ⟨rfl, ef a (by omega) (by omega)⟩)
      have he := e_pc0 (x := x) (o := r_426) (s := 10 + r_455) (c := r_473) f426 (by omega) (by omega) (by omega) f473 (by omega) (by omega)
      have hp4 : zPa (V4 (q + 495)) (s_pc x r_426 (10 + r_455) r_473).1 := by
        refine ⟨?_, fun k hk => ?_⟩
        · show (x.1.2.1.1 ++ [r_426]).length ≤ 4
          rw [List.length_append]
          show _ + 1 ≤ 4
          omega
        · have hk : k < (x.1.2.1.1 ++ [r_426]).length := hk
          rw [List.length_append] at hk
          have hk : k < x.1.2.1.1.length + 1 := hk
          show V4 (q + 495) (3 * k) = atZ (x.1.2.1.1 ++ [r_426]) k ∧ V4 (q + 495) (3 * k + 1) = atZ (x.1.2.1.2.1 ++ [10 + r_455]) k ∧ V4 (q + 495) (3 * k + 2) = atZ (x.1.2.1.2.2 ++ [r_473]) k
          rw [atZ_app, atZ_app, atZ_app, hp.1, hp.2.1]
          by_cases g : k < x.1.2.1.1.length
          · rw [if_pos g, if_pos g, if_pos g, gO _ (by omega), gO _ (by omega), gO _ (by omega)]
            exact w.2.2.2.2.1.2 k g
          · have : k = x.1.2.1.1.length := by omega
            subst this
            rw [if_neg g, if_neg g, if_neg g, Nat.sub_self]
            exact ⟨g0, g1, g2⟩
      have hd4 : zDd (V4 (q + 496)) (s_pc x r_426 (10 + r_455) r_473).1 := by
        refine ⟨?_, (dO 1 (by omega)).trans w.2.2.2.2.2.2.1, (dO 2 (by omega)).trans w.2.2.2.2.2.2.2⟩
        show (V4 (q + 496) 0).toInt = ((x.1.2.1.1 ++ [r_426]).length : Nat)
        rw [e0, List.length_append]
        rfl
      refine j_aload_n dL_act_485 rfl ?_
      refine j_aload dL_act_486 rfl ?_
      refine j_iload dL_act_488 rfl ?_
      refine m_iald (k := 3 * x.1.2.1.1.length) dL_act_490 hB (by assumption) (ixk (iM (iC 3 (by decide)) (hdn) (by omega)) (by omega)) (by omega) ?_
      refine j_aload dL_act_491 rfl ?_
      refine j_iload dL_act_493 rfl ?_
      refine j_iconst (v := 1) dL_act_495 (by decide) ?_
      refine j_iadd dL_act_496 ?_
      refine m_iald (k := 3 * x.1.2.1.1.length + 1) dL_act_497 hB (by assumption) (ixk (iA (iM (iC 3 (by decide)) (hdn) (by omega)) (iC 1 (by decide)) (by omega)) (by omega)) (by omega) ?_
      refine j_aload dL_act_498 rfl ?_
      refine j_iload dL_act_500 rfl ?_
      refine j_iconst (v := 2) dL_act_502 (by decide) ?_
      refine j_iadd dL_act_503 ?_
      refine m_iald (k := 3 * x.1.2.1.1.length + 2) dL_act_504 hB (by assumption) (ixk (iA (iM (iC 3 (by decide)) (hdn) (by omega)) (iC 2 (by decide)) (by omega)) (by omega)) (by omega) ?_
      rw [g0, g1, g2]
      refine j_cCi dL_act_505 hB mo_X7_addPiece ml_L_131 (sp_X7_addPiece hB cu3 hW) (he) cu3.k rfl rfl rfl rfl ⟨rfl, rfl, by decide, by decide⟩ (Nat.le_of_ble_eq_true rfl) ⟨by decide, by decide⟩ (fun y_505 V_505 h_505 a_505 g_505 => ?_)
      replace h_505 : isI y_505 x.1.2.1.1.length := h_505
      have e10 : isI (V_505 (q + 496) 0) ((x.1.2.1.1.length : Int) + 1) := by rw [a_505 _ (Or.inr (by omega))]; exact e0
      refine j_aload dL_act_508 rfl ?_
      refine j_iconst (v := 0) dL_act_510 (by decide) ?_
      refine m_iald (k := 0) dL_act_511 hB (by assumption) (ixk (iC 0 (by decide)) (by omega)) (by omega) ?_
      refine j_iconst (v := 1) dL_act_512 (by decide) ?_
      refine j_isub dL_act_513 ?_
      refine m_icmp_ne (tgt := 521) dL_act_514 (by decide) (h_505) (iS (e10) (iC 1 (by decide)) (by omega)) (fun c_514 => ?_) (fun c_514 => ?_)
      · exact absurd (by omega) c_514
      · refine j_iconst (v := 1) dL_act_517 (by decide) ?_
        refine j_goto (tgt := 522) dL_act_518 (by decide) ?_
        refine j_iret dL_act_522 rfl (by first | decide | exact m_nrB (by assumption)) (by decide) (by decide) ?_
        exact ⟨rfl, rfl, rfl, Nat.le_refl _, s_pc x r_426 (10 + r_455) r_473, lwV_d (V3 := V4) w rfl hp4 hd4 (fun b h1 h2 h3 h4 => ef b h1 h2) a_505 g_505, xw_pc hW he, fun _ => xPush_1, fun _ _ => xPush_1⟩
    · refine j_sipush (v := 1191) dL_act_447 (by decide) ?_
      refine j_goto (tgt := 455) dL_act_450 (by decide) ?_
      refine j_cSi dL_act_455 hB mo_L_at ml_L_71 (sp_L_at hB (by decide)) rfl rfl ⟨rfl, rfl, by decide, by decide⟩ (Nat.le_of_ble_eq_true rfl) ⟨by decide, by decide⟩ (fun r_455 V_455 h_455 => ?_)
      obtain ⟨rfl, f455, g455⟩ := h_455
      have k455 : r_455.toInt < 1191 := Int.lt_of_lt_of_le g455 (by decide)
      have hst : isI (10 + r_455) (10 + r_455.toInt) := iA (iC 10 (by decide)) iV (by omega)
      have hsti : (10 + r_455).toInt = 10 + r_455.toInt := hst
      refine j_iadd dL_act_458 ?_
      refine m_iast (k := 3 * x.1.2.1.1.length + 1) dL_act_459 hB (by assumption) (ixk (iA (iM (iC 3 (by decide)) (hdn) (by omega)) (iC 1 (by decide)) (by omega)) (by omega)) (by omega) ?_
      refine j_aload dL_act_460 rfl ?_
      refine j_iload dL_act_462 rfl ?_
      refine j_iconst (v := 2) dL_act_464 (by decide) ?_
      refine j_iadd dL_act_465 ?_
      refine j_iload_n dL_act_466 rfl ?_
      refine j_bipush (v := 7) dL_act_467 (by decide) ?_
      refine j_ishr dL_act_469 ?_
      refine j_sipush (v := 200) dL_act_470 (by decide) ?_
      refine j_cSi dL_act_473 hB mo_L_at ml_L_71 (sp_L_at hB (by decide)) rfl rfl ⟨rfl, rfl, by decide, by decide⟩ (Nat.le_of_ble_eq_true rfl) ⟨by decide, by decide⟩ (fun r_473 V_473 h_473 => ?_)
      obtain ⟨rfl, f473, g473⟩ := h_473
      rw [show (200 : Int32).toInt = 200 by decide] at g473
      refine m_iast (k := 3 * x.1.2.1.1.length + 2) dL_act_476 hB (by assumption) (ixk (iA (iM (iC 3 (by decide)) (hdn) (by omega)) (iC 2 (by decide)) (by omega)) (by omega)) (by omega) ?_
      generalize hV3 : jset (jset (jset V (q + 495) (3 * x.1.2.1.1.length) r_426) (q + 495) (3 * x.1.2.1.1.length + 1) (10 + r_455)) (q + 495) (3 * x.1.2.1.1.length + 2) r_473 = V3
      have e9 : isI (V3 (q + 496) 0) x.1.2.1.1.length := by rw [← hV3, jset_row (by omega), jset_row (by omega), jset_row (by omega)]; exact hdn
      refine j_aload dL_act_477 rfl ?_
      refine j_iconst (v := 0) dL_act_479 (by decide) ?_
      refine j_dup2 dL_act_480 rfl rfl ?_
      refine m_iald (k := 0) dL_act_481 hB (by assumption) (ixk (iC 0 (by decide)) (by omega)) (by omega) ?_
      refine j_iconst (v := 1) dL_act_482 (by decide) ?_
      refine j_iadd dL_act_483 ?_
      refine m_iast (k := 0) dL_act_484 hB (by assumption) (ixk (iC 0 (by decide)) (by omega)) (by omega) ?_
      generalize hV4 : jset V3 (q + 496) 0 (V3 (q + 496) 0 + 1) = V4
      have ef : ∀ b, ¬ b = q + 495 → ¬ b = q + 496 → V4 b = V b := fun b h1 h2 => by rw [← hV4, jset_row h2, ← hV3, jset_row h1, jset_row h1, jset_row h1]
      have e0 : isI (V4 (q + 496) 0) ((x.1.2.1.1.length : Int) + 1) := by rw [← hV4, jset_eq]; exact iA e9 (iC 1 (by decide)) (by omega)
      have g0 : V4 (q + 495) (3 * x.1.2.1.1.length) = r_426 := by rw [← hV4, jset_row (by omega), ← hV3, jset_ne (Or.inr (by omega)), jset_ne (Or.inr (by omega)), jset_eq]
      have g1 : V4 (q + 495) (3 * x.1.2.1.1.length + 1) = 10 + r_455 := by rw [← hV4, jset_row (by omega), ← hV3, jset_ne (Or.inr (by omega)), jset_eq]
      have g2 : V4 (q + 495) (3 * x.1.2.1.1.length + 2) = r_473 := by rw [← hV4, jset_row (by omega), ← hV3, jset_eq]
      have gO : ∀ t, t < 3 * x.1.2.1.1.length → V4 (q + 495) t = V (q + 495) t := fun t h => by rw [← hV4, jset_row (by omega), ← hV3, jset_ne (Or.inr (by omega)), jset_ne (Or.inr (by omega)), jset_ne (Or.inr (by omega))]
      have dO : ∀ t, ¬ t = 0 → V4 (q + 496) t = V (q + 496) t := fun t h => by rw [← hV4, jset_ne (Or.inr h), ← hV3, jset_row (by omega), jset_row (by omega), jset_row (by omega)]
      have cu3 : cuIs T V4 q x := w.1.cg (fun a ha hb => ⟨rfl, ef a (by omega) (by omega)⟩)
      have he := e_pc0 (x := x) (o := r_426) (s := 10 + r_455) (c := r_473) f426 (by omega) (by omega) (by omega) f473 (by omega) (by omega)
      have hp4 : zPa (V4 (q + 495)) (s_pc x r_426 (10 + r_455) r_473).1 := by
        refine ⟨?_, fun k hk => ?_⟩
        · show (x.1.2.1.1 ++ [r_426]).length ≤ 4
          rw [List.length_append]
          show _ + 1 ≤ 4
          omega
        · have hk : k < (x.1.2.1.1 ++ [r_426]).length := hk
          rw [List.length_append] at hk
          have hk : k < x.1.2.1.1.length + 1 := hk
          show V4 (q + 495) (3 * k) = atZ (x.1.2.1.1 ++ [r_426]) k ∧ V4 (q + 495) (3 * k + 1) = atZ (x.1.2.1.2.1 ++ [10 + r_455]) k ∧ V4 (q + 495) (3 * k + 2) = atZ (x.1.2.1.2.2 ++ [r_473]) k
          rw [atZ_app, atZ_app, atZ_app, hp.1, hp.2.1]
          by_cases g : k < x.1.2.1.1.length
          · rw [if_pos g, if_pos g, if_pos g, gO _ (by omega), gO _ (by omega), gO _ (by omega)]
            exact w.2.2.2.2.1.2 k g
          · have : k = x.1.2.1.1.length := by omega
            subst this
            rw [if_neg g, if_neg g, if_neg g, Nat.sub_self]
            exact ⟨g0, g1, g2⟩
      have hd4 : zDd (V4 (q + 496)) (s_pc x r_426 (10 + r_455) r_473).1 := by
        refine ⟨?_, (dO 1 (by omega)).trans w.2.2.2.2.2.2.1, (dO 2 (by omega)).trans w.2.2.2.2.2.2.2⟩
        show (V4 (q + 496) 0).toInt = ((x.1.2.1.1 ++ [r_426]).length : Nat)
        rw [e0, List.length_append]
        rfl
      refine j_aload_n dL_act_485 rfl ?_
      refine j_aload dL_act_486 rfl ?_
      refine j_iload dL_act_488 rfl ?_
      refine m_iald (k := 3 * x.1.2.1.1.length) dL_act_490 hB (by assumption) (ixk (iM (iC 3 (by decide)) (hdn) (by omega)) (by omega)) (by omega) ?_
      refine j_aload dL_act_491 rfl ?_
      refine j_iload dL_act_493 rfl ?_
      refine j_iconst (v := 1) dL_act_495 (by decide) ?_
      refine j_iadd dL_act_496 ?_
      refine m_iald (k := 3 * x.1.2.1.1.length + 1) dL_act_497 hB (by assumption) (ixk (iA (iM (iC 3 (by decide)) (hdn) (by omega)) (iC 1 (by decide)) (by omega)) (by omega)) (by omega) ?_
      refine j_aload dL_act_498 rfl ?_
      refine j_iload dL_act_500 rfl ?_
      refine j_iconst (v := 2) dL_act_502 (by decide) ?_
      refine j_iadd dL_act_503 ?_
      refine m_iald (k := 3 * x.1.2.1.1.length + 2) dL_act_504 hB (by assumption) (ixk (iA (iM (iC 3 (by decide)) (hdn) (by omega)) (iC 2 (by decide)) (by omega)) (by omega)) (by omega) ?_
      rw [g0, g1, g2]
      refine j_cCi dL_act_505 hB mo_X7_addPiece ml_L_131 (sp_X7_addPiece hB cu3 hW) (he) cu3.k rfl rfl rfl rfl ⟨rfl, rfl, by decide, by decide⟩ (Nat.le_of_ble_eq_true rfl) ⟨by decide, by decide⟩ (fun y_505 V_505 h_505 a_505 g_505 => ?_)
      replace h_505 : isI y_505 x.1.2.1.1.length := h_505
      have e10 : isI (V_505 (q + 496) 0) ((x.1.2.1.1.length : Int) + 1) := by rw [a_505 _ (Or.inr (by omega))]; exact e0
      refine j_aload dL_act_508 rfl ?_
      refine j_iconst (v := 0) dL_act_510 (by decide) ?_
      refine m_iald (k := 0) dL_act_511 hB (by assumption) (ixk (iC 0 (by decide)) (by omega)) (by omega) ?_
      refine j_iconst (v := 1) dL_act_512 (by decide) ?_
      refine j_isub dL_act_513 ?_
      refine m_icmp_ne (tgt := 521) dL_act_514 (by decide) (h_505) (iS (e10) (iC 1 (by decide)) (by omega)) (fun c_514 => ?_) (fun c_514 => ?_)
      · exact absurd (by omega) c_514
      · refine j_iconst (v := 1) dL_act_517 (by decide) ?_
        refine j_goto (tgt := 522) dL_act_518 (by decide) ?_
        refine j_iret dL_act_522 rfl (by first | decide | exact m_nrB (by assumption)) (by decide) (by decide) ?_
        exact ⟨rfl, rfl, rfl, Nat.le_refl _, s_pc x r_426 (10 + r_455) r_473, lwV_d (V3 := V4) w rfl hp4 hd4 (fun b h1 h2 h3 h4 => ef b h1 h2) a_505 g_505, xw_pc hW he, fun _ => xPush_1, fun _ _ => xPush_1⟩
  · refine j_iconst (v := 1) dL_act_406 (by decide) ?_
    refine j_iret dL_act_407 rfl (by first | decide | exact m_nrB (by assumption)) (by decide) (by decide) ?_
    exact ⟨rfl, rfl, rfl, Nat.le_refl _, x, w, hW, fun z9 => z9, fun z8 z9 => absurd z9 (by omega)⟩
set_option maxRecDepth 100000 in
set_option maxHeartbeats 4000000 in
theorem ac_oth (hB : jB l s0 D) {q z ra : Nat} {x : aX} {a0 x0 y0 r0 ft : Int32} (hT : lwT T q) (w : lwV T V q x) (hW : xW x) (hra : ra = q + 492 + z) (z3 : z < 3) (hz0 : r0.toInt = (z : Int)) (hr : T ra = some (kI 60)) (hz : zRl (V ra) (xR x r0)) (hdom : ∀ b k, T b = some k → b < sz) (h7 : 7 ≤ a0.toInt) (h12 : 12 ≤ a0.toInt ∨ ¬ (((xR x r0).1.length : Nat) : Int) = 0) : J l s0 D kL_act (jR 9 10 60) 10 60 (qK T X sz (fun V' => ∃ x' : aX, lwV T V' q x' ∧ xW x' ∧ (1 ≤ x.2.1.length → 1 ≤ x'.2.1.length) ∧ (a0.toInt = 6 → x.1.2.1.1.length < 4 → 1 ≤ x'.2.1.length))) 523 [(0, .ref q), (1, .int a0), (2, .int x0), (3, .int y0), (4, .ref (q + 492)), (5, .ref (q + 493)), (6, .ref (q + 494)), (7, .ref (q + 495)), (8, .ref (q + 496)), (9, .int r0), (10, .ref ra), (11, .int ft)] [] T V X sz 0 0 := by
  have hrl : rlW x.1 (xR x r0) := hW.r r0
  have hp : pcW x.1 := hW.1.1
  have h5 := hz.2.1
  have hn1 : isI (V ra 0) (xR x r0).1.length := hz.1
  have hTp := hT.2.2.2.1
  have hTd := hT.2.2.2.2
  have e4 := hdom (q + 496) _ hTd
  have mid : ∀ (kv : Int32) (kk : Nat), kv.toInt = (kk : Int) → (((xR x r0).1.length = 0 ∧ 12 ≤ a0.toInt) ∨ kk < (xR x r0).1.length) → J l s0 D kL_act (jR 9 10 60) 10 60 (qK T X sz (fun V' => ∃ x' : aX, lwV T V' q x' ∧ xW x' ∧ (1 ≤ x.2.1.length → 1 ≤ x'.2.1.length) ∧ (a0.toInt = 6 → x.1.2.1.1.length < 4 → 1 ≤ x'.2.1.length))) 544 [(0, .ref q), (1, .int a0), (2, .int x0), (3, .int y0), (4, .ref (q + 492)), (5, .ref (q + 493)), (6, .ref (q + 494)), (7, .ref (q + 495)), (8, .ref (q + 496)), (9, .int r0), (10, .ref ra), (11, .int ft)] [.int kv] T V X sz 0 0 := by
    intro kv kk hkv hkk
    refine j_istore (L' := [(0, _), (1, _), (2, _), (3, _), (4, _), (5, _), (6, _), (7, _), (8, _), (9, _), (10, _), (11, _), (12, _)]) dL_act_544 (by decide) rfl ?_
    refine j_bipush (v := 10) dL_act_546 (by decide) ?_
    refine j_newi (N := 10) dL_act_548 hB ac_int (by decide) (by decide) (by first | decide | omega) (by first | decide | omega) ?_
    refine j_astore (L' := [(0, _), (1, _), (2, _), (3, _), (4, _), (5, _), (6, _), (7, _), (8, _), (9, _), (10, _), (11, _), (12, _), (13, _)]) dL_act_550 (by decide) rfl ?_
    refine j_iconst (v := 5) dL_act_552 (by decide) ?_
    refine j_newi (N := 5) dL_act_553 hB ac_int (by decide) (by decide) (by first | decide | omega) (by first | decide | omega) ?_
    refine j_astore (L' := [(0, _), (1, _), (2, _), (3, _), (4, _), (5, _), (6, _), (7, _), (8, _), (9, _), (10, _), (11, _), (12, _), (13, _), (14, _)]) dL_act_555 (by decide) rfl ?_
    refine j_abT (fun T2 hT2 => ?_)
    refine j_abV (fun V2 hV2 => ?_)
    have t1 : ∀ a, a < sz → T2 a = T a := fun a ha => by rw [hT2, jup_ne (by omega), jup_ne (by omega)]
    have v1 : ∀ a, a < sz → V2 a = V a := fun a ha => by rw [hV2, jz_ne (by omega), jz_ne (by omega)]
    have tc : T2 sz = some (kI 10) := by rw [hT2, jup_ne (by omega)]; exact jup_eq
    have te : T2 (sz + 1) = some (kI 5) := by rw [hT2]; exact jup_eq
    have hT2 : lwT T2 q := ⟨(t1 _ (by omega)).trans hT.1, (t1 _ (by omega)).trans hT.2.1, (t1 _ (by omega)).trans hT.2.2.1, (t1 _ (by omega)).trans hT.2.2.2.1, (t1 _ (by omega)).trans hT.2.2.2.2⟩
    have w2 : lwV T2 V2 q x := ⟨w.1.cg (fun a ha hb => ⟨t1 a (by omega), v1 a (by omega)⟩), by rw [v1 _ (by omega)]; exact w.2.1, by rw [v1 _ (by omega)]; exact w.2.2.1, by rw [v1 _ (by omega)]; exact w.2.2.2.1, by rw [v1 _ (by omega)]; exact w.2.2.2.2.1, by rw [v1 _ (by omega)]; exact w.2.2.2.2.2⟩
    have hr2 : T2 ra = some (kI 60) := (t1 _ (by omega)).trans hr
    have hz2 : zRl (V2 ra) (xR x r0) := by rw [v1 _ (by omega)]; exact hz
    refine j_iload_n dL_act_557 rfl ?_
    refine j_bipush (v := 11) dL_act_558 (by decide) ?_
    refine m_icmp_ge (tgt := 702) dL_act_560 (by decide) (iV) (iC 11 (by decide)) (fun c_560 => ?_) (fun c_560 => ?_)
    · refine j_iload_n dL_act_702 rfl ?_
      refine j_bipush (v := 11) dL_act_703 (by decide) ?_
      refine m_icmp_ne (tgt := 776) dL_act_705 (by decide) (iV) (iC 11 (by decide)) (fun c_705 => ?_) (fun c_705 => ?_)
      · refine j_iload_n dL_act_776 rfl ?_
        refine j_bipush (v := 12) dL_act_777 (by decide) ?_
        refine m_icmp_ne (tgt := 855) dL_act_779 (by decide) (iV) (iC 12 (by decide)) (fun c_779 => ?_) (fun c_779 => ?_)
        · refine ac_fit hB hT2 w2 hW hra z3 hz0 hr2 hz2 tc te (by omega) (by omega) hkv (fun pcr d V' c' n' L x' w' hW' h1 hc hn => ?_)
          refine j_fgt (T' := T) (V' := fun b => if b < sz then V' b else V b) (fun b k hb => ⟨(t1 b (hdom b k hb)).trans hb, if_pos (hdom b k hb)⟩) ?_
          refine j_iret d rfl (by decide) hc hn ⟨rfl, rfl, rfl, by omega, x', ⟨w'.1.cg (fun a ha hb => ⟨(t1 a (by omega)).symm, if_pos (by omega)⟩), ?_, ?_, ?_, ?_, ?_⟩, hW', fun _ => h1, fun _ _ => h1⟩
          · show zRl (if q + 492 < sz then V' (q + 492) else V (q + 492)) _
            rw [if_pos (by omega)]; exact w'.2.1
          · show zRl (if q + 493 < sz then V' (q + 493) else V (q + 493)) _
            rw [if_pos (by omega)]; exact w'.2.2.1
          · show zRl (if q + 494 < sz then V' (q + 494) else V (q + 494)) _
            rw [if_pos (by omega)]; exact w'.2.2.2.1
          · show zPa (if q + 495 < sz then V' (q + 495) else V (q + 495)) _
            rw [if_pos (by omega)]; exact w'.2.2.2.2.1
          · show zDd (if q + 496 < sz then V' (q + 496) else V (q + 496)) _
            rw [if_pos (by omega)]; exact w'.2.2.2.2.2
        · refine ac_set hB hT2 w2 hW hra z3 hz0 hr2 hz2 tc te (by omega) (by omega) hkv (fun pcr d V' c' n' L x' w' hW' h1 hc hn => ?_)
          refine j_fgt (T' := T) (V' := fun b => if b < sz then V' b else V b) (fun b k hb => ⟨(t1 b (hdom b k hb)).trans hb, if_pos (hdom b k hb)⟩) ?_
          refine j_iret d rfl (by decide) hc hn ⟨rfl, rfl, rfl, by omega, x', ⟨w'.1.cg (fun a ha hb => ⟨(t1 a (by omega)).symm, if_pos (by omega)⟩), ?_, ?_, ?_, ?_, ?_⟩, hW', fun _ => h1, fun _ _ => h1⟩
          · show zRl (if q + 492 < sz then V' (q + 492) else V (q + 492)) _
            rw [if_pos (by omega)]; exact w'.2.1
          · show zRl (if q + 493 < sz then V' (q + 493) else V (q + 493)) _
            rw [if_pos (by omega)]; exact w'.2.2.1
          · show zRl (if q + 494 < sz then V' (q + 494) else V (q + 494)) _
            rw [if_pos (by omega)]; exact w'.2.2.2.1
          · show zPa (if q + 495 < sz then V' (q + 495) else V (q + 495)) _
            rw [if_pos (by omega)]; exact w'.2.2.2.2.1
          · show zDd (if q + 496 < sz then V' (q + 496) else V (q + 496)) _
            rw [if_pos (by omega)]; exact w'.2.2.2.2.2
      · refine ac_rem hB hT2 w2 hW hra z3 hz0 hr2 hz2 tc te (by omega) (by omega) hkv (by omega) (fun pcr d V' c' n' L x' w' hW' h1 hc hn => ?_)
        refine j_fgt (T' := T) (V' := fun b => if b < sz then V' b else V b) (fun b k hb => ⟨(t1 b (hdom b k hb)).trans hb, if_pos (hdom b k hb)⟩) ?_
        refine j_iret d rfl (by decide) hc hn ⟨rfl, rfl, rfl, by omega, x', ⟨w'.1.cg (fun a ha hb => ⟨(t1 a (by omega)).symm, if_pos (by omega)⟩), ?_, ?_, ?_, ?_, ?_⟩, hW', fun _ => h1, fun _ _ => h1⟩
        · show zRl (if q + 492 < sz then V' (q + 492) else V (q + 492)) _
          rw [if_pos (by omega)]; exact w'.2.1
        · show zRl (if q + 493 < sz then V' (q + 493) else V (q + 493)) _
          rw [if_pos (by omega)]; exact w'.2.2.1
        · show zRl (if q + 494 < sz then V' (q + 494) else V (q + 494)) _
          rw [if_pos (by omega)]; exact w'.2.2.2.1
        · show zPa (if q + 495 < sz then V' (q + 495) else V (q + 495)) _
          rw [if_pos (by omega)]; exact w'.2.2.2.2.1
        · show zDd (if q + 496 < sz then V' (q + 496) else V (q + 496)) _
          rw [if_pos (by omega)]; exact w'.2.2.2.2.2
    · refine ac_cue hB hT2 w2 hW hra z3 hz0 hr2 hz2 tc te (by omega) (by omega) hkv (by omega) (fun pcr d V' c' n' L x' w' hW' h1 hc hn => ?_)
      refine j_fgt (T' := T) (V' := fun b => if b < sz then V' b else V b) (fun b k hb => ⟨(t1 b (hdom b k hb)).trans hb, if_pos (hdom b k hb)⟩) ?_
      refine j_iret d rfl (by decide) hc hn ⟨rfl, rfl, rfl, by omega, x', ⟨w'.1.cg (fun a ha hb => ⟨(t1 a (by omega)).symm, if_pos (by omega)⟩), ?_, ?_, ?_, ?_, ?_⟩, hW', fun _ => h1, fun _ _ => h1⟩
      · show zRl (if q + 492 < sz then V' (q + 492) else V (q + 492)) _
        rw [if_pos (by omega)]; exact w'.2.1
      · show zRl (if q + 493 < sz then V' (q + 493) else V (q + 493)) _
        rw [if_pos (by omega)]; exact w'.2.2.1
      · show zRl (if q + 494 < sz then V' (q + 494) else V (q + 494)) _
        rw [if_pos (by omega)]; exact w'.2.2.2.1
      · show zPa (if q + 495 < sz then V' (q + 495) else V (q + 495)) _
        rw [if_pos (by omega)]; exact w'.2.2.2.2.1
      · show zDd (if q + 496 < sz then V' (q + 496) else V (q + 496)) _
        rw [if_pos (by omega)]; exact w'.2.2.2.2.2
  refine j_aload dL_act_523 rfl ?_
  refine j_iconst (v := 0) dL_act_525 (by decide) ?_
  refine m_iald (k := 0) dL_act_526 hB (by assumption) (ixk (iC 0 (by decide)) (by omega)) (by omega) ?_
  refine m_if_ne (tgt := 534) dL_act_527 (by decide) (hn1) (fun c_527 => ?_) (fun c_527 => ?_)
  · refine j_iload_n dL_act_534 rfl ?_
    refine j_iconst (v := 4) dL_act_535 (by decide) ?_
    refine j_ishr dL_act_536 ?_
    refine j_aload dL_act_537 rfl ?_
    refine j_iconst (v := 0) dL_act_539 (by decide) ?_
    refine m_iald (k := 0) dL_act_540 hB (by assumption) (ixk (iC 0 (by decide)) (by omega)) (by omega) ?_
    refine j_cSi dL_act_541 hB mo_L_at ml_L_71 (sp_L_at hB (by have h9 : (V ra 0).toInt = _ := hn1; omega)) rfl rfl ⟨rfl, rfl, by decide, by decide⟩ (Nat.le_of_ble_eq_true rfl) ⟨by decide, by decide⟩ (fun r_541 V_541 h_541 => ?_)
    obtain ⟨rfl, f541, g541⟩ := h_541
    have h9 : (V ra 0).toInt = _ := hn1
    exact mid _ r_541.toInt.toNat (by omega) (Or.inr (by omega))
  · refine j_iconst (v := 0) dL_act_530 (by decide) ?_
    refine j_goto (tgt := 544) dL_act_531 (by decide) ?_
    exact mid _ 0 rfl (Or.inl ⟨by omega, by omega⟩)
set_option maxRecDepth 100000 in
set_option maxHeartbeats 4000000 in
theorem ac_all (hB : jB l s0 D) {q z ra : Nat} {x : aX} {a0 x0 y0 r0 ft : Int32} (hT : lwT T q) (w : lwV T V q x) (hW : xW x) (hra : ra = q + 492 + z) (z3 : z < 3) (hz0 : r0.toInt = (z : Int)) (hr : T ra = some (kI 60)) (hz : zRl (V ra) (xR x r0)) (hdom : ∀ b k, T b = some k → b < sz) (f0 : 0 ≤ ft.toInt) (f1 : ft.toInt < 300) : J l s0 D kL_act (jR 9 10 60) 10 60 (qK T X sz (fun V' => ∃ x' : aX, lwV T V' q x' ∧ xW x' ∧ (1 ≤ x.2.1.length → 1 ≤ x'.2.1.length) ∧ (a0.toInt = 6 → x.1.2.1.1.length < 4 → 1 ≤ x'.2.1.length))) 59 [(0, .ref q), (1, .int a0), (2, .int x0), (3, .int y0), (4, .ref (q + 492)), (5, .ref (q + 493)), (6, .ref (q + 494)), (7, .ref (q + 495)), (8, .ref (q + 496)), (9, .int r0), (10, .ref ra), (11, .int ft)] [] T V X sz 0 0 := by
  have hrl : rlW x.1 (xR x r0) := hW.r r0
  have hp : pcW x.1 := hW.1.1
  have h5 := hz.2.1
  have hn1 : isI (V ra 0) (xR x r0).1.length := hz.1
  have hTp := hT.2.2.2.1
  have hTd := hT.2.2.2.2
  refine j_iload_n dL_act_59 rfl ?_
  refine j_iconst (v := 4) dL_act_60 (by decide) ?_
  refine m_icmp_lt (tgt := 83) dL_act_61 (by decide) (iV) (iC 4 (by decide)) (fun c_61 => ?_) (fun c_61 => ?_)
  · exact ac_add hB hT w hW hra z3 hz0 hr hz (by omega)
  · refine j_iload_n dL_act_64 rfl ?_
    refine j_bipush (v := 12) dL_act_65 (by decide) ?_
    refine m_icmp_ge (tgt := 159) dL_act_67 (by decide) (iV) (iC 12 (by decide)) (fun c_67 => ?_) (fun c_67 => ?_)
    · refine j_iload_n dL_act_159 rfl ?_
      refine j_iconst (v := 4) dL_act_160 (by decide) ?_
      refine m_icmp_ne (tgt := 219) dL_act_161 (by decide) (iV) (iC 4 (by decide)) (fun c_161 => ?_) (fun c_161 => ?_)
      · refine j_iload_n dL_act_219 rfl ?_
        refine j_iconst (v := 5) dL_act_220 (by decide) ?_
        refine m_icmp_ne (tgt := 392) dL_act_221 (by decide) (iV) (iC 5 (by decide)) (fun c_221 => ?_) (fun c_221 => ?_)
        · refine j_iload_n dL_act_392 rfl ?_
          refine j_bipush (v := 6) dL_act_393 (by decide) ?_
          refine m_icmp_ne (tgt := 523) dL_act_395 (by decide) (iV) (iC 6 (by decide)) (fun c_395 => ?_) (fun c_395 => ?_)
          · exact ac_oth hB hT w hW hra z3 hz0 hr hz hdom (by omega) (by omega)
          · exact ac_pc hB hT w hW hra z3 hz0 hr hz (by omega)
        · exact ac_spl hB hT w hW hra z3 hz0 hr hz (by omega) f0 f1
      · exact ac_crank hB hT w hW hra z3 hz0 hr hz (by omega) f0 f1
    · refine j_iload_n dL_act_70 rfl ?_
      refine j_bipush (v := 6) dL_act_71 (by decide) ?_
      refine m_icmp_le (tgt := 159) dL_act_73 (by decide) (iV) (iC 6 (by decide)) (fun c_73 => ?_) (fun c_73 => ?_)
      · refine j_iload_n dL_act_159 rfl ?_
        refine j_iconst (v := 4) dL_act_160 (by decide) ?_
        refine m_icmp_ne (tgt := 219) dL_act_161 (by decide) (iV) (iC 4 (by decide)) (fun c_161 => ?_) (fun c_161 => ?_)
        · refine j_iload_n dL_act_219 rfl ?_
          refine j_iconst (v := 5) dL_act_220 (by decide) ?_
          refine m_icmp_ne (tgt := 392) dL_act_221 (by decide) (iV) (iC 5 (by decide)) (fun c_221 => ?_) (fun c_221 => ?_)
          · refine j_iload_n dL_act_392 rfl ?_
            refine j_bipush (v := 6) dL_act_393 (by decide) ?_
            refine m_icmp_ne (tgt := 523) dL_act_395 (by decide) (iV) (iC 6 (by decide)) (fun c_395 => ?_) (fun c_395 => ?_)
            · exact ac_oth hB hT w hW hra z3 hz0 hr hz hdom (by omega) (by omega)
            · exact ac_pc hB hT w hW hra z3 hz0 hr hz (by omega)
          · exact ac_spl hB hT w hW hra z3 hz0 hr hz (by omega) f0 f1
        · exact ac_crank hB hT w hW hra z3 hz0 hr hz (by omega) f0 f1
      · refine j_aload dL_act_76 rfl ?_
        refine j_iconst (v := 0) dL_act_78 (by decide) ?_
        refine m_iald (k := 0) dL_act_79 hB (by assumption) (ixk (iC 0 (by decide)) (by omega)) (by omega) ?_
        refine m_if_ne (tgt := 159) dL_act_80 (by decide) (hn1) (fun c_80 => ?_) (fun c_80 => ?_)
        · refine j_iload_n dL_act_159 rfl ?_
          refine j_iconst (v := 4) dL_act_160 (by decide) ?_
          refine m_icmp_ne (tgt := 219) dL_act_161 (by decide) (iV) (iC 4 (by decide)) (fun c_161 => ?_) (fun c_161 => ?_)
          · refine j_iload_n dL_act_219 rfl ?_
            refine j_iconst (v := 5) dL_act_220 (by decide) ?_
            refine m_icmp_ne (tgt := 392) dL_act_221 (by decide) (iV) (iC 5 (by decide)) (fun c_221 => ?_) (fun c_221 => ?_)
            · refine j_iload_n dL_act_392 rfl ?_
              refine j_bipush (v := 6) dL_act_393 (by decide) ?_
              refine m_icmp_ne (tgt := 523) dL_act_395 (by decide) (iV) (iC 6 (by decide)) (fun c_395 => ?_) (fun c_395 => ?_)
              · exact ac_oth hB hT w hW hra z3 hz0 hr hz hdom (by omega) (by omega)
              · exact ac_pc hB hT w hW hra z3 hz0 hr hz (by omega)
            · exact ac_spl hB hT w hW hra z3 hz0 hr hz (by omega) f0 f1
          · exact ac_crank hB hT w hW hra z3 hz0 hr hz (by omega) f0 f1
        · exact ac_add hB hT w hW hra z3 hz0 hr hz (by omega)
set_option maxRecDepth 100000 in
set_option maxHeartbeats 4000000 in
theorem sp_L_act (hB : jB l s0 D) {q : Nat} {x : aX} {a0 x0 y0 : Int32} (hT : lwT T q) (w : lwV T V q x) (hW : xW x) : Sp l s0 D kL_act (jR 9 10 60) 10 60 [.ref q, .int a0, .int x0, .int y0, .ref (q + 492), .ref (q + 493), .ref (q + 494), .ref (q + 495), .ref (q + 496)] T V X sz (qK T X sz (fun V' => ∃ x' : aX, lwV T V' q x' ∧ xW x' ∧ (1 ≤ x.2.1.length → 1 ≤ x'.2.1.length) ∧ (a0.toInt = 6 → x.1.2.1.1.length < 4 → 1 ≤ x'.2.1.length))) := by
  refine Sp.of pn_L_act rfl (Nat.le_of_ble_eq_true rfl) ?_
  refine j_dom (fun hdom => ?_)
  refine j_iload_n dL_act_0 rfl ?_
  refine j_iconst (v := 3) dL_act_1 (by decide) ?_
  refine j_cSi dL_act_2 hB mo_L_at ml_L_71 (sp_L_at hB (by decide)) rfl rfl ⟨rfl, rfl, by decide, by decide⟩ (Nat.le_of_ble_eq_true rfl) ⟨by decide, by decide⟩ (fun r_2 V_2 h_2 => ?_)
  obtain ⟨rfl, f2, g2⟩ := h_2
  rw [show (3 : Int32).toInt = 3 by decide] at g2
  refine j_istore (L' := [(0, _), (1, _), (2, _), (3, _), (4, _), (5, _), (6, _), (7, _), (8, _), (9, _)]) dL_act_5 (by decide) rfl ?_
  refine j_iload dL_act_7 rfl ?_
  refine m_if_ne (tgt := 17) dL_act_9 (by decide) (iV) (fun c_9 => ?_) (fun c_9 => ?_)
  · refine j_iload dL_act_17 rfl ?_
    refine j_iconst (v := 1) dL_act_19 (by decide) ?_
    refine m_icmp_ne (tgt := 28) dL_act_20 (by decide) (iV) (iC 1 (by decide)) (fun c_20 => ?_) (fun c_20 => ?_)
    · refine j_aload dL_act_28 rfl ?_
      refine j_astore (L' := [(0, _), (1, _), (2, _), (3, _), (4, _), (5, _), (6, _), (7, _), (8, _), (9, _), (10, _)]) dL_act_30 (by decide) rfl ?_
      refine j_iload_n dL_act_32 rfl ?_
      refine j_iconst (v := 4) dL_act_33 (by decide) ?_
      refine j_ishr dL_act_34 ?_
      refine j_iload_n dL_act_35 rfl ?_
      refine j_bipush (v := 9) dL_act_36 (by decide) ?_
      refine j_ishr dL_act_38 ?_
      refine j_iconst (v := 3) dL_act_39 (by decide) ?_
      refine j_cSi dL_act_40 hB mo_L_at ml_L_71 (sp_L_at hB (by decide)) rfl rfl ⟨rfl, rfl, by decide, by decide⟩ (Nat.le_of_ble_eq_true rfl) ⟨by decide, by decide⟩ (fun r_40 V_40 h_40 => ?_)
      obtain ⟨rfl, f40, g40⟩ := h_40
      rw [show (3 : Int32).toInt = 3 by decide] at g40
      refine m_if_ne (tgt := 52) dL_act_43 (by decide) (iV) (fun c_43 => ?_) (fun c_43 => ?_)
      · refine j_bipush (v := 60) dL_act_52 (by decide) ?_
        refine j_cSi dL_act_54 hB mo_L_at ml_L_71 (sp_L_at hB (by decide)) rfl rfl ⟨rfl, rfl, by decide, by decide⟩ (Nat.le_of_ble_eq_true rfl) ⟨by decide, by decide⟩ (fun r_54 V_54 h_54 => ?_)
        obtain ⟨rfl, f54, g54⟩ := h_54
        have k54 : r_54.toInt < 300 := Int.lt_of_lt_of_le g54 (by decide)
        refine j_istore (L' := [(0, _), (1, _), (2, _), (3, _), (4, _), (5, _), (6, _), (7, _), (8, _), (9, _), (10, _), (11, _)]) dL_act_57 (by decide) rfl ?_
        have hz0 : r_2.toInt = ((2 : Nat) : Int) := by omega
        have hxr : xR x r_2 = sR x.1 2 := by unfold xR; rw [hz0]; rfl
        exact ac_all (ra := q + 494) hB hT w hW (z := 2) (by omega) (by decide) hz0 hT.2.2.1 (by rw [hxr]; exact w.2.2.2.1) hdom f54 k54
      · refine j_sipush (v := 300) dL_act_46 (by decide) ?_
        refine j_goto (tgt := 54) dL_act_49 (by decide) ?_
        refine j_cSi dL_act_54 hB mo_L_at ml_L_71 (sp_L_at hB (by decide)) rfl rfl ⟨rfl, rfl, by decide, by decide⟩ (Nat.le_of_ble_eq_true rfl) ⟨by decide, by decide⟩ (fun r_54 V_54 h_54 => ?_)
        obtain ⟨rfl, f54, g54⟩ := h_54
        have k54 : r_54.toInt < 300 := Int.lt_of_lt_of_le g54 (by decide)
        refine j_istore (L' := [(0, _), (1, _), (2, _), (3, _), (4, _), (5, _), (6, _), (7, _), (8, _), (9, _), (10, _), (11, _)]) dL_act_57 (by decide) rfl ?_
        have hz0 : r_2.toInt = ((2 : Nat) : Int) := by omega
        have hxr : xR x r_2 = sR x.1 2 := by unfold xR; rw [hz0]; rfl
        exact ac_all (ra := q + 494) hB hT w hW (z := 2) (by omega) (by decide) hz0 hT.2.2.1 (by rw [hxr]; exact w.2.2.2.1) hdom f54 k54
    · refine j_aload dL_act_23 rfl ?_
      refine j_goto (tgt := 30) dL_act_25 (by decide) ?_
      refine j_astore (L' := [(0, _), (1, _), (2, _), (3, _), (4, _), (5, _), (6, _), (7, _), (8, _), (9, _), (10, _)]) dL_act_30 (by decide) rfl ?_
      refine j_iload_n dL_act_32 rfl ?_
      refine j_iconst (v := 4) dL_act_33 (by decide) ?_
      refine j_ishr dL_act_34 ?_
      refine j_iload_n dL_act_35 rfl ?_
      refine j_bipush (v := 9) dL_act_36 (by decide) ?_
      refine j_ishr dL_act_38 ?_
      refine j_iconst (v := 3) dL_act_39 (by decide) ?_
      refine j_cSi dL_act_40 hB mo_L_at ml_L_71 (sp_L_at hB (by decide)) rfl rfl ⟨rfl, rfl, by decide, by decide⟩ (Nat.le_of_ble_eq_true rfl) ⟨by decide, by decide⟩ (fun r_40 V_40 h_40 => ?_)
      obtain ⟨rfl, f40, g40⟩ := h_40
      rw [show (3 : Int32).toInt = 3 by decide] at g40
      refine m_if_ne (tgt := 52) dL_act_43 (by decide) (iV) (fun c_43 => ?_) (fun c_43 => ?_)
      · refine j_bipush (v := 60) dL_act_52 (by decide) ?_
        refine j_cSi dL_act_54 hB mo_L_at ml_L_71 (sp_L_at hB (by decide)) rfl rfl ⟨rfl, rfl, by decide, by decide⟩ (Nat.le_of_ble_eq_true rfl) ⟨by decide, by decide⟩ (fun r_54 V_54 h_54 => ?_)
        obtain ⟨rfl, f54, g54⟩ := h_54
        have k54 : r_54.toInt < 300 := Int.lt_of_lt_of_le g54 (by decide)
        refine j_istore (L' := [(0, _), (1, _), (2, _), (3, _), (4, _), (5, _), (6, _), (7, _), (8, _), (9, _), (10, _), (11, _)]) dL_act_57 (by decide) rfl ?_
        have hz0 : r_2.toInt = ((1 : Nat) : Int) := by omega
        have hxr : xR x r_2 = sR x.1 1 := by unfold xR; rw [hz0]; rfl
        exact ac_all (ra := q + 493) hB hT w hW (z := 1) (by omega) (by decide) hz0 hT.2.1 (by rw [hxr]; exact w.2.2.1) hdom f54 k54
      · refine j_sipush (v := 300) dL_act_46 (by decide) ?_
        refine j_goto (tgt := 54) dL_act_49 (by decide) ?_
        refine j_cSi dL_act_54 hB mo_L_at ml_L_71 (sp_L_at hB (by decide)) rfl rfl ⟨rfl, rfl, by decide, by decide⟩ (Nat.le_of_ble_eq_true rfl) ⟨by decide, by decide⟩ (fun r_54 V_54 h_54 => ?_)
        obtain ⟨rfl, f54, g54⟩ := h_54
        have k54 : r_54.toInt < 300 := Int.lt_of_lt_of_le g54 (by decide)
        refine j_istore (L' := [(0, _), (1, _), (2, _), (3, _), (4, _), (5, _), (6, _), (7, _), (8, _), (9, _), (10, _), (11, _)]) dL_act_57 (by decide) rfl ?_
        have hz0 : r_2.toInt = ((1 : Nat) : Int) := by omega
        have hxr : xR x r_2 = sR x.1 1 := by unfold xR; rw [hz0]; rfl
        exact ac_all (ra := q + 493) hB hT w hW (z := 1) (by omega) (by decide) hz0 hT.2.1 (by rw [hxr]; exact w.2.2.1) hdom f54 k54
  · refine j_aload dL_act_12 rfl ?_
    refine j_goto (tgt := 30) dL_act_14 (by decide) ?_
    refine j_astore (L' := [(0, _), (1, _), (2, _), (3, _), (4, _), (5, _), (6, _), (7, _), (8, _), (9, _), (10, _)]) dL_act_30 (by decide) rfl ?_
    refine j_iload_n dL_act_32 rfl ?_
    refine j_iconst (v := 4) dL_act_33 (by decide) ?_
    refine j_ishr dL_act_34 ?_
    refine j_iload_n dL_act_35 rfl ?_
    refine j_bipush (v := 9) dL_act_36 (by decide) ?_
    refine j_ishr dL_act_38 ?_
    refine j_iconst (v := 3) dL_act_39 (by decide) ?_
    refine j_cSi dL_act_40 hB mo_L_at ml_L_71 (sp_L_at hB (by decide)) rfl rfl ⟨rfl, rfl, by decide, by decide⟩ (Nat.le_of_ble_eq_true rfl) ⟨by decide, by decide⟩ (fun r_40 V_40 h_40 => ?_)
    obtain ⟨rfl, f40, g40⟩ := h_40
    rw [show (3 : Int32).toInt = 3 by decide] at g40
    refine m_if_ne (tgt := 52) dL_act_43 (by decide) (iV) (fun c_43 => ?_) (fun c_43 => ?_)
    · refine j_bipush (v := 60) dL_act_52 (by decide) ?_
      refine j_cSi dL_act_54 hB mo_L_at ml_L_71 (sp_L_at hB (by decide)) rfl rfl ⟨rfl, rfl, by decide, by decide⟩ (Nat.le_of_ble_eq_true rfl) ⟨by decide, by decide⟩ (fun r_54 V_54 h_54 => ?_)
      obtain ⟨rfl, f54, g54⟩ := h_54
      have k54 : r_54.toInt < 300 := Int.lt_of_lt_of_le g54 (by decide)
      refine j_istore (L' := [(0, _), (1, _), (2, _), (3, _), (4, _), (5, _), (6, _), (7, _), (8, _), (9, _), (10, _), (11, _)]) dL_act_57 (by decide) rfl ?_
      have hz0 : r_2.toInt = ((0 : Nat) : Int) := by omega
      have hxr : xR x r_2 = sR x.1 0 := by unfold xR; rw [hz0]; rfl
      exact ac_all (ra := q + 492) hB hT w hW (z := 0) (by omega) (by decide) hz0 hT.1 (by rw [hxr]; exact w.2.1) hdom f54 k54
    · refine j_sipush (v := 300) dL_act_46 (by decide) ?_
      refine j_goto (tgt := 54) dL_act_49 (by decide) ?_
      refine j_cSi dL_act_54 hB mo_L_at ml_L_71 (sp_L_at hB (by decide)) rfl rfl ⟨rfl, rfl, by decide, by decide⟩ (Nat.le_of_ble_eq_true rfl) ⟨by decide, by decide⟩ (fun r_54 V_54 h_54 => ?_)
      obtain ⟨rfl, f54, g54⟩ := h_54
      have k54 : r_54.toInt < 300 := Int.lt_of_lt_of_le g54 (by decide)
      refine j_istore (L' := [(0, _), (1, _), (2, _), (3, _), (4, _), (5, _), (6, _), (7, _), (8, _), (9, _), (10, _), (11, _)]) dL_act_57 (by decide) rfl ?_
      have hz0 : r_2.toInt = ((0 : Nat) : Int) := by omega
      have hxr : xR x r_2 = sR x.1 0 := by unfold xR; rw [hz0]; rfl
      exact ac_all (ra := q + 492) hB hT w hW (z := 0) (by omega) (by decide) hz0 hT.1 (by rw [hxr]; exact w.2.1) hdom f54 k54
end JLL
