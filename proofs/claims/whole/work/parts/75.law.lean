/-! THE LAW: its loop over the script -/
abbrev kLaw : jM := (x, cL_law, 9, some .boolean, [])
theorem lg_self (a : Int64) : lg_cmp a a = 0 := by
  unfold lg_cmp
  rw [if_neg (by rw [gt_iff_lt, Int64.lt_iff_toInt_lt]; omega), if_pos rfl]
section JL0
variable {l : Launch} {s0 : State} {D : jD} {M : jM} {R : Room} {mc ms : Nat} {Q : jQ} {pc : Nat} {L : List (Nat × Value)} {st rest : List Value} {T : jT} {V : jV} {X : jX} {sz c n : Nat}
theorem j_sld {b N k : Nat} {xs : Nat → Int32} {i : Int32} (d : decode M.2.1 pc = .ok (.iaload, 1)) (hX : va_X b N xs s0 s0.heap) (hb : b < s0.heap.size) (hi : i.toInt = (k : Int)) (hk : k < N) (K : J l s0 D M R mc ms Q (pc + 1) L (.int (xs k) :: rest) T V X sz c n) : J l s0 D M R mc ms Q pc L (.int i :: .ref b :: rest) T V X sz c n := by
  intro p e s m args below meth cd H locs ls hC hH hl
  have hW := hC.2.2.2.2.2.2.1
  refine va_sld hC.1 hC.2.1 (A := jA s0) (H0 := s.heap) ((hX.moved hW.alike).kept (hH.2.2.1 b hb)) (Nat.lt_of_lt_of_le hb hH.1) (Nat.not_le.mpr hb) hH.va (jin_of (by omega) (by omega)) d ?_
  rw [cl_toNat, hi, Int.toNat_natCast]
  exact K p e s m args below meth cd H locs ls hC hH hl
theorem j_slen {b N : Nat} {xs : Nat → Int32} (d : decode M.2.1 pc = .ok (.arraylength, 1)) (hX : va_X b N xs s0 s0.heap) (hb : b < s0.heap.size) (K : J l s0 D M R mc ms Q (pc + 1) L (.int (Int32.ofNat N) :: rest) T V X sz c n) : J l s0 D M R mc ms Q pc L (.ref b :: rest) T V X sz c n := by
  intro p e s m args below meth cd H locs ls hC hH hl
  have hW := hC.2.2.2.2.2.2.1
  exact va_slen hC.1 hC.2.1 (A := jA s0) (H0 := s.heap) ((hX.moved hW.alike).kept (hH.2.2.1 b hb)) (Nat.lt_of_lt_of_le hb hH.1) (Nat.not_le.mpr hb) hH.va d (K p e s m args below meth cd H locs ls hC hH hl)
theorem j_cVln {M2 : jM} {R2 : Room} {idx ci b na : Nat} {as : List Value} {fs : List (Nat ⊕ Option Nat)} {r : vw_C} {P : Int64 → jT → jV → jX → Nat → Prop} (d : decode M.2.1 pc = .ok (.invokevirtual idx, 3)) (hB : jB l s0 D) (hm : jmV M2 na) (hlk : Cond.methodLink M.1.cls idx M2.1 ∈ lw_tbl) (sp : Sp l s0 D M2 R2 0 0 (.ref b :: as) T V X sz (qLN P)) (ht : T b = some (.inl (ci, fs))) (hc : vwCl[ci]? = some r) (hr : r.1 = M2.1.cls) (hn : as.length = na) (hst : st = as.reverse ++ .ref b :: rest) (hrm : jrm R R2 0 0 M2.2.2.1) (hcat : (rest.map fun v => v.category).sum ≤ 8) (hf : c ≤ R.cells ∧ n ≤ R.slots)
    (K : ∀ r T' V' X' sz', P r T' V' X' sz' → J l s0 D M R mc ms Q (pc + 3) L (.long r :: rest) T' V' X' sz' c n) : J l s0 D M R mc ms Q pc L st T V X sz c n :=
  j_callV d hB hm hlk sp ht hc hr hn hst hrm hcat hf (by rintro v T' V' X' sz' ⟨r, h, hp⟩; cases h; exact K r T' V' X' sz' hp) (by rintro E T' V' X' sz' ⟨r, h, -⟩; cases h)
theorem moIs.fr {T : jT} {V V' : jV} {q lo hi : Nat} {x : aX} (h : moIs T V q x) (ha : jAg V V' lo hi) (hd : q + 9 ≤ lo ∨ hi ≤ q) : moIs T V' q x := by
  obtain ⟨g1, g2, g3, g4, g5⟩ := h
  exact ⟨g1, by rw [ha _ (by omega)]; exact g2, by rw [ha (q + 2) (by omega), ha q (by omega)]; exact g3, by rw [ha q (by omega)]; exact g4, by rw [ha (q + 3) (by omega)]; exact g5⟩
theorem cuIs.fr {T : jT} {V V' : jV} {q lo hi : Nat} {x : aX} (h : cuIs T V q x) (ha : jAg V V' lo hi) (hd : q + 492 ≤ lo ∨ hi ≤ q) : cuIs T V' q x := by
  obtain ⟨sv, o, ⟨h0, h1, h2, h3, h4, h5, h6, h7, h8, h9⟩, r⟩ := h
  exact ⟨sv, o, ⟨h0, h1.ag ha (by omega), fun i hi => (h2 i hi).ag ha (by unfold svA; omega), by rw [ha q (by omega)]; exact h3, by rw [ha q (by omega)]; exact h4, h5.ag ha (by omega), by rw [Rw_ag ha (by omega)]; exact h6, h7.ag ha (by omega), h8.ag ha (by omega), h9.ag ha (by omega)⟩, r⟩
end JL0
section JL
variable {l : Launch} {s0 : State} {D : jD} {T : jT} {V : jV} {X : jX} {sz : Nat}
set_option maxRecDepth 100000 in
set_option maxHeartbeats 4000000 in
theorem lc_0 (hB : jB l s0 D) (hN : jN s0) {b N qx : Nat} {xs : Nat → Int32} (hXs : va_X b N xs s0 s0.heap) (hbs : b < s0.heap.size) (hN3 : N ≤ 3072) (hT1 : T (qx + 501) = some (kJ 1)) (hT2 : T (qx + 502) = some (kDb 1)) {j : Nat} {i : Int32} {V : jV} {X : jX} {sz c1 n1 : Nat} {y : aX} (hj : 6 * j + 6 ≤ N) (hi : i.toInt = ((6 * j : Nat) : Int)) (hcu : cuIs T V qx y) (hmo : moIs T V (qx + 492) y) (hW : xW y) (hc1 : c1 ≤ 600 + 5 * j) (hn1 : n1 ≤ 6000 + 30 * j)
    (next : ∀ (j' : Nat), (j < j' ∧ j' ≤ 512) → ∀ i : Int32, i.toInt = ((6 * (j' - 1) : Nat) : Int) → ∀ (V : jV) (X : jX) (sz c1 n1 : Nat) (y : aX), cuIs T V qx y → moIs T V (qx + 492) y → xW y → c1 ≤ 600 + 5 * j' → n1 ≤ 6000 + 30 * j' → J l s0 D kLaw room_1 616825 7245630 (fun o _ _ _ _ => o = .inl (some (.int 1))) 1727 [(0, .ref b), (1, .ref qx), (2, .ref (qx + 492)), (3, .ref (qx + 501)), (4, .ref (qx + 502)), (5, .int i)] [] T V X sz c1 n1) : J l s0 D kLaw room_1 616825 7245630 (fun o _ _ _ _ => o = .inl (some (.int 1))) 160 [(0, .ref b), (1, .ref qx), (2, .ref (qx + 492)), (3, .ref (qx + 501)), (4, .ref (qx + 502)), (5, .int i)] [] T V X sz c1 n1 := by
  refine j_aload_n dL_law_160 rfl ?_
  refine j_aload_n dL_law_161 rfl ?_
  refine j_iload dL_law_162 rfl ?_
  refine j_iconst (v := 1) dL_law_164 (by decide) ?_
  refine j_iadd dL_law_165 ?_
  refine j_sld (k := 6 * j + 1) dL_law_166 hXs hbs (ixk (iA (hi) (iC 1 (by decide)) (by omega)) (by omega)) (by omega) ?_
  refine j_aload_n dL_law_167 rfl ?_
  refine j_iload dL_law_168 rfl ?_
  refine j_iconst (v := 2) dL_law_170 (by decide) ?_
  refine j_iadd dL_law_171 ?_
  refine j_sld (k := 6 * j + 2) dL_law_172 hXs hbs (ixk (iA (hi) (iC 2 (by decide)) (by omega)) (by omega)) (by omega) ?_
  refine j_aload_n dL_law_173 rfl ?_
  refine j_callH dL_law_174 hB mo_L_addScene ml_L_92 (sp_L_addScene hB hN hcu hW hT1) rfl rfl ⟨rfl, rfl, by decide, by decide⟩ (Nat.le_of_ble_eq_true rfl) ⟨by show c1 + 3 ≤ 616825; omega, by show n1 + 18 ≤ 7245630; omega⟩ ?_ (by rintro E9 T9 V9 X9 sz9 ⟨k9, h9, -⟩; cases h9)
  rintro v9 T2 V2 X2 sz2 ⟨k1, h9, rfl, hz9, ha1, he1, hy1, hn1⟩
  cases h9
  have hmo1 := hmo.fr ha1 (Or.inr (Nat.le_refl _))
  refine j_istore (L' := [(0, _), (1, _), (2, _), (3, _), (4, _), (5, _), (6, _)]) dL_law_177 (by decide) rfl ?_
  refine j_aload_n dL_law_179 rfl ?_
  refine j_aload_n dL_law_180 rfl ?_
  refine j_iload dL_law_181 rfl ?_
  refine j_iconst (v := 1) dL_law_183 (by decide) ?_
  refine j_iadd dL_law_184 ?_
  refine j_sld (k := 6 * j + 1) dL_law_185 hXs hbs (ixk (iA (hi) (iC 1 (by decide)) (by omega)) (by omega)) (by omega) ?_
  refine j_aload_n dL_law_186 rfl ?_
  refine j_iload dL_law_187 rfl ?_
  refine j_iconst (v := 2) dL_law_189 (by decide) ?_
  refine j_iadd dL_law_190 ?_
  refine j_sld (k := 6 * j + 2) dL_law_191 hXs hbs (ixk (iA (hi) (iC 2 (by decide)) (by omega)) (by omega)) (by omega) ?_
  refine j_cVi dL_law_192 hB mo_X8_addScene ml_L_97 (sp_X8_addScene hB hmo1.1 hmo1 hW) hmo1.1.1 rfl rfl rfl rfl ⟨rfl, rfl, by decide, by decide⟩ (Nat.le_of_ble_eq_true rfl) ⟨by show c1 + 3 ≤ 616825; omega, by show n1 + 18 ≤ 7245630; omega⟩ (fun r2 V3 h3 => ?_)
  obtain ⟨ha3, he3, hy3, hn3⟩ := h3
  refine j_istore (L' := [(0, _), (1, _), (2, _), (3, _), (4, _), (5, _), (6, _), (7, _)]) dL_law_195 (by decide) rfl ?_
  refine j_aload_n dL_law_197 rfl ?_
  refine j_cVi dL_law_198 hB mo_X8_thrown ml_L_98 (sp_X8_thrown hB hmo1.1) hmo1.1.1 rfl rfl rfl rfl ⟨rfl, rfl, by decide, by decide⟩ (Nat.le_of_ble_eq_true rfl) ⟨by show c1 + 3 ≤ 616825; omega, by show n1 + 18 ≤ 7245630; omega⟩ (fun r4 V4 h4 => ?_)
  obtain ⟨rfl, h4⟩ := h4
  subst h4
  refine j_iload dL_law_201 rfl ?_
  refine m_icmp_eq (tgt := 208) dL_law_203 (by decide) (he3) (he1) (fun c_203 => ?_) (fun c_203 => ?_)
  · refine j_iload dL_law_208 rfl ?_
    refine m_if_ne (tgt := 225) dL_law_210 (by decide) (he1) (fun c_210 => ?_) (fun c_210 => ?_)
    · have e9 : ¬ (e_add y (xs (6 * j + 1)) (xs (6 * j + 2))) = 0 := by omega
      obtain ⟨hcu1, rfl⟩ := hn1 e9
      have hmo3 := hn3 e9
      refine j_goto (tgt := 1727) dL_law_225 (by decide) ?_
      refine j_sub2 (L' := [(0, _), (1, _), (2, _), (3, _), (4, _), (5, _)]) (List.forall_mem_cons.mpr ⟨rfl, List.forall_mem_cons.mpr ⟨rfl, List.forall_mem_cons.mpr ⟨rfl, List.forall_mem_cons.mpr ⟨rfl, List.forall_mem_cons.mpr ⟨rfl, List.forall_mem_cons.mpr ⟨rfl, fun _ h9 => nomatch h9⟩⟩⟩⟩⟩⟩) ?_
      exact next (j + 1) (by omega) _ (by omega) V3 _ sz2 (c1 + 3) (n1 + 18) y (hcu1.fr ha3 (Or.inl (Nat.le_refl _))) hmo3 hW (by omega) (by omega)
    · have e9 : (e_add y (xs (6 * j + 1)) (xs (6 * j + 2))) = 0 := by omega
      obtain ⟨hcu1, r1, rfl, hr1⟩ := hy1 e9
      obtain ⟨hr3, hmo3⟩ := hy3 e9
      have hrr : r2 = r1 := ti_inj (Eq.trans hr3 (Eq.symm hr1))
      subst hrr
      refine j_aload_n dL_law_213 rfl ?_
      refine j_iconst (v := 0) dL_law_214 (by decide) ?_
      refine j_lald dL_law_215 hB (hT1) (by decide) (by decide) ?_
      refine j_iload dL_law_216 rfl ?_
      refine j_i2l dL_law_218 ?_
      refine j_lcmp dL_law_219 ?_
      rw [show (jset X.1 (qx + 501) 0 r2.toInt64, X.2).1 (qx + 501) (0 : Int32).toNatClampNeg = r2.toInt64 from jset_eq, lg_self]
      refine m_if_eq (tgt := 225) dL_law_220 (by decide) (iC 0 (by decide)) (fun c_220 => ?_) (fun c_220 => ?_)
      · refine j_goto (tgt := 1727) dL_law_225 (by decide) ?_
        refine j_sub2 (L' := [(0, _), (1, _), (2, _), (3, _), (4, _), (5, _)]) (List.forall_mem_cons.mpr ⟨rfl, List.forall_mem_cons.mpr ⟨rfl, List.forall_mem_cons.mpr ⟨rfl, List.forall_mem_cons.mpr ⟨rfl, List.forall_mem_cons.mpr ⟨rfl, List.forall_mem_cons.mpr ⟨rfl, fun _ h9 => nomatch h9⟩⟩⟩⟩⟩⟩) ?_
        exact next (j + 1) (by omega) _ (by omega) V3 _ sz2 (c1 + 3) (n1 + 18) (s_add y (xs (6 * j + 1)) (xs (6 * j + 2))) (hcu1.fr ha3 (Or.inl (Nat.le_refl _))) hmo3 (xw_add hW e9) (by omega) (by omega)
      · exact absurd c_220 (by decide)
  · exact absurd rfl c_203
set_option maxRecDepth 100000 in
set_option maxHeartbeats 4000000 in
theorem lc_1 (hB : jB l s0 D) (hN : jN s0) {b N qx : Nat} {xs : Nat → Int32} (hXs : va_X b N xs s0 s0.heap) (hbs : b < s0.heap.size) (hN3 : N ≤ 3072) (hT1 : T (qx + 501) = some (kJ 1)) (hT2 : T (qx + 502) = some (kDb 1)) {j : Nat} {i : Int32} {V : jV} {X : jX} {sz c1 n1 : Nat} {y : aX} (hj : 6 * j + 6 ≤ N) (hi : i.toInt = ((6 * j : Nat) : Int)) (hcu : cuIs T V qx y) (hmo : moIs T V (qx + 492) y) (hW : xW y) (hc1 : c1 ≤ 600 + 5 * j) (hn1 : n1 ≤ 6000 + 30 * j)
    (next : ∀ (j' : Nat), (j < j' ∧ j' ≤ 512) → ∀ i : Int32, i.toInt = ((6 * (j' - 1) : Nat) : Int) → ∀ (V : jV) (X : jX) (sz c1 n1 : Nat) (y : aX), cuIs T V qx y → moIs T V (qx + 492) y → xW y → c1 ≤ 600 + 5 * j' → n1 ≤ 6000 + 30 * j' → J l s0 D kLaw room_1 616825 7245630 (fun o _ _ _ _ => o = .inl (some (.int 1))) 1727 [(0, .ref b), (1, .ref qx), (2, .ref (qx + 492)), (3, .ref (qx + 501)), (4, .ref (qx + 502)), (5, .int i)] [] T V X sz c1 n1) : J l s0 D kLaw room_1 616825 7245630 (fun o _ _ _ _ => o = .inl (some (.int 1))) 228 [(0, .ref b), (1, .ref qx), (2, .ref (qx + 492)), (3, .ref (qx + 501)), (4, .ref (qx + 502)), (5, .int i)] [] T V X sz c1 n1 := by
  refine j_aload_n dL_law_228 rfl ?_
  refine j_aload_n dL_law_229 rfl ?_
  refine j_iload dL_law_230 rfl ?_
  refine j_iconst (v := 1) dL_law_232 (by decide) ?_
  refine j_iadd dL_law_233 ?_
  refine j_sld (k := 6 * j + 1) dL_law_234 hXs hbs (ixk (iA (hi) (iC 1 (by decide)) (by omega)) (by omega)) (by omega) ?_
  refine j_aload_n dL_law_235 rfl ?_
  refine j_iload dL_law_236 rfl ?_
  refine j_iconst (v := 2) dL_law_238 (by decide) ?_
  refine j_iadd dL_law_239 ?_
  refine j_sld (k := 6 * j + 2) dL_law_240 hXs hbs (ixk (iA (hi) (iC 2 (by decide)) (by omega)) (by omega)) (by omega) ?_
  refine j_aload_n dL_law_241 rfl ?_
  refine j_callH dL_law_242 hB mo_L_removeScene ml_L_101 (sp_L_removeScene hB hN hcu hW hT1) rfl rfl ⟨rfl, rfl, by decide, by decide⟩ (Nat.le_of_ble_eq_true rfl) ⟨by show c1 + 2 ≤ 616825; omega, by show n1 + 12 ≤ 7245630; omega⟩ ?_ (by rintro E9 T9 V9 X9 sz9 ⟨k9, h9, -⟩; cases h9)
  rintro v9 T2 V2 X2 sz2 ⟨k1, h9, rfl, hz9, ha1, he1, hy1, hn1⟩
  cases h9
  have hmo1 := hmo.fr ha1 (Or.inr (Nat.le_refl _))
  refine j_istore (L' := [(0, _), (1, _), (2, _), (3, _), (4, _), (5, _), (6, _)]) dL_law_245 (by decide) rfl ?_
  refine j_aload_n dL_law_247 rfl ?_
  refine j_aload_n dL_law_248 rfl ?_
  refine j_iload dL_law_249 rfl ?_
  refine j_iconst (v := 1) dL_law_251 (by decide) ?_
  refine j_iadd dL_law_252 ?_
  refine j_sld (k := 6 * j + 1) dL_law_253 hXs hbs (ixk (iA (hi) (iC 1 (by decide)) (by omega)) (by omega)) (by omega) ?_
  refine j_aload_n dL_law_254 rfl ?_
  refine j_iload dL_law_255 rfl ?_
  refine j_iconst (v := 2) dL_law_257 (by decide) ?_
  refine j_iadd dL_law_258 ?_
  refine j_sld (k := 6 * j + 2) dL_law_259 hXs hbs (ixk (iA (hi) (iC 2 (by decide)) (by omega)) (by omega)) (by omega) ?_
  refine j_cVi dL_law_260 hB mo_X8_removeScene ml_L_103 (sp_X8_removeScene hB hmo1.1 hmo1 hW) hmo1.1.1 rfl rfl rfl rfl ⟨rfl, rfl, by decide, by decide⟩ (Nat.le_of_ble_eq_true rfl) ⟨by show c1 + 2 ≤ 616825; omega, by show n1 + 12 ≤ 7245630; omega⟩ (fun r2 V3 h3 => ?_)
  obtain ⟨ha3, he3, hy3, hn3⟩ := h3
  refine j_istore (L' := [(0, _), (1, _), (2, _), (3, _), (4, _), (5, _), (6, _), (7, _)]) dL_law_263 (by decide) rfl ?_
  refine j_aload_n dL_law_265 rfl ?_
  refine j_cVi dL_law_266 hB mo_X8_thrown ml_L_98 (sp_X8_thrown hB hmo1.1) hmo1.1.1 rfl rfl rfl rfl ⟨rfl, rfl, by decide, by decide⟩ (Nat.le_of_ble_eq_true rfl) ⟨by show c1 + 2 ≤ 616825; omega, by show n1 + 12 ≤ 7245630; omega⟩ (fun r4 V4 h4 => ?_)
  obtain ⟨rfl, h4⟩ := h4
  subst h4
  refine j_iload dL_law_269 rfl ?_
  refine m_icmp_eq (tgt := 276) dL_law_271 (by decide) (he3) (he1) (fun c_271 => ?_) (fun c_271 => ?_)
  · refine j_iload dL_law_276 rfl ?_
    refine m_if_ne (tgt := 293) dL_law_278 (by decide) (he1) (fun c_278 => ?_) (fun c_278 => ?_)
    · have e9 : ¬ (e_rem y (xs (6 * j + 1)) (xs (6 * j + 2))) = 0 := by omega
      obtain ⟨hcu1, rfl⟩ := hn1 e9
      have hmo3 := hn3 e9
      refine j_goto (tgt := 1727) dL_law_293 (by decide) ?_
      refine j_sub2 (L' := [(0, _), (1, _), (2, _), (3, _), (4, _), (5, _)]) (List.forall_mem_cons.mpr ⟨rfl, List.forall_mem_cons.mpr ⟨rfl, List.forall_mem_cons.mpr ⟨rfl, List.forall_mem_cons.mpr ⟨rfl, List.forall_mem_cons.mpr ⟨rfl, List.forall_mem_cons.mpr ⟨rfl, fun _ h9 => nomatch h9⟩⟩⟩⟩⟩⟩) ?_
      exact next (j + 1) (by omega) _ (by omega) V3 _ sz2 (c1 + 2) (n1 + 12) y (hcu1.fr ha3 (Or.inl (Nat.le_refl _))) hmo3 hW (by omega) (by omega)
    · have e9 : (e_rem y (xs (6 * j + 1)) (xs (6 * j + 2))) = 0 := by omega
      obtain ⟨hcu1, r1, rfl, hr1⟩ := hy1 e9
      obtain ⟨hr3, hmo3⟩ := hy3 e9
      have hrr : r2 = r1 := ti_inj (Eq.trans hr3 (Eq.symm hr1))
      subst hrr
      refine j_aload_n dL_law_281 rfl ?_
      refine j_iconst (v := 0) dL_law_282 (by decide) ?_
      refine j_lald dL_law_283 hB (hT1) (by decide) (by decide) ?_
      refine j_iload dL_law_284 rfl ?_
      refine j_i2l dL_law_286 ?_
      refine j_lcmp dL_law_287 ?_
      rw [show (jset X.1 (qx + 501) 0 r2.toInt64, X.2).1 (qx + 501) (0 : Int32).toNatClampNeg = r2.toInt64 from jset_eq, lg_self]
      refine m_if_eq (tgt := 293) dL_law_288 (by decide) (iC 0 (by decide)) (fun c_288 => ?_) (fun c_288 => ?_)
      · refine j_goto (tgt := 1727) dL_law_293 (by decide) ?_
        refine j_sub2 (L' := [(0, _), (1, _), (2, _), (3, _), (4, _), (5, _)]) (List.forall_mem_cons.mpr ⟨rfl, List.forall_mem_cons.mpr ⟨rfl, List.forall_mem_cons.mpr ⟨rfl, List.forall_mem_cons.mpr ⟨rfl, List.forall_mem_cons.mpr ⟨rfl, List.forall_mem_cons.mpr ⟨rfl, fun _ h9 => nomatch h9⟩⟩⟩⟩⟩⟩) ?_
        exact next (j + 1) (by omega) _ (by omega) V3 _ sz2 (c1 + 2) (n1 + 12) (s_rem y (xs (6 * j + 1)) (xs (6 * j + 2))) (hcu1.fr ha3 (Or.inl (Nat.le_refl _))) hmo3 (xw_rem hW e9) (by omega) (by omega)
      · exact absurd c_288 (by decide)
  · exact absurd rfl c_271
set_option maxRecDepth 100000 in
set_option maxHeartbeats 4000000 in
theorem lc_2 (hB : jB l s0 D) (hN : jN s0) {b N qx : Nat} {xs : Nat → Int32} (hXs : va_X b N xs s0 s0.heap) (hbs : b < s0.heap.size) (hN3 : N ≤ 3072) (hT1 : T (qx + 501) = some (kJ 1)) (hT2 : T (qx + 502) = some (kDb 1)) {j : Nat} {i : Int32} {V : jV} {X : jX} {sz c1 n1 : Nat} {y : aX} (hj : 6 * j + 6 ≤ N) (hi : i.toInt = ((6 * j : Nat) : Int)) (hcu : cuIs T V qx y) (hmo : moIs T V (qx + 492) y) (hW : xW y) (hc1 : c1 ≤ 600 + 5 * j) (hn1 : n1 ≤ 6000 + 30 * j)
    (next : ∀ (j' : Nat), (j < j' ∧ j' ≤ 512) → ∀ i : Int32, i.toInt = ((6 * (j' - 1) : Nat) : Int) → ∀ (V : jV) (X : jX) (sz c1 n1 : Nat) (y : aX), cuIs T V qx y → moIs T V (qx + 492) y → xW y → c1 ≤ 600 + 5 * j' → n1 ≤ 6000 + 30 * j' → J l s0 D kLaw room_1 616825 7245630 (fun o _ _ _ _ => o = .inl (some (.int 1))) 1727 [(0, .ref b), (1, .ref qx), (2, .ref (qx + 492)), (3, .ref (qx + 501)), (4, .ref (qx + 502)), (5, .int i)] [] T V X sz c1 n1) : J l s0 D kLaw room_1 616825 7245630 (fun o _ _ _ _ => o = .inl (some (.int 1))) 296 [(0, .ref b), (1, .ref qx), (2, .ref (qx + 492)), (3, .ref (qx + 501)), (4, .ref (qx + 502)), (5, .int i)] [] T V X sz c1 n1 := by
  refine j_aload_n dL_law_296 rfl ?_
  refine j_aload_n dL_law_297 rfl ?_
  refine j_iload dL_law_298 rfl ?_
  refine j_iconst (v := 1) dL_law_300 (by decide) ?_
  refine j_iadd dL_law_301 ?_
  refine j_sld (k := 6 * j + 1) dL_law_302 hXs hbs (ixk (iA (hi) (iC 1 (by decide)) (by omega)) (by omega)) (by omega) ?_
  refine j_aload_n dL_law_303 rfl ?_
  refine j_iload dL_law_304 rfl ?_
  refine j_iconst (v := 2) dL_law_306 (by decide) ?_
  refine j_iadd dL_law_307 ?_
  refine j_sld (k := 6 * j + 2) dL_law_308 hXs hbs (ixk (iA (hi) (iC 2 (by decide)) (by omega)) (by omega)) (by omega) ?_
  refine j_aload_n dL_law_309 rfl ?_
  refine j_iload dL_law_310 rfl ?_
  refine j_iconst (v := 3) dL_law_312 (by decide) ?_
  refine j_iadd dL_law_313 ?_
  refine j_sld (k := 6 * j + 3) dL_law_314 hXs hbs (ixk (iA (hi) (iC 3 (by decide)) (by omega)) (by omega)) (by omega) ?_
  refine j_aload_n dL_law_315 rfl ?_
  refine j_callH dL_law_316 hB mo_L_crank ml_L_104 (sp_L_crank hB hN hcu hW hT1) rfl rfl ⟨rfl, rfl, by decide, by decide⟩ (Nat.le_of_ble_eq_true rfl) ⟨by show c1 + 4 ≤ 616825; omega, by show n1 + 24 ≤ 7245630; omega⟩ ?_ (by rintro E9 T9 V9 X9 sz9 ⟨k9, h9, -⟩; cases h9)
  rintro v9 T2 V2 X2 sz2 ⟨k1, h9, rfl, hz9, ha1, he1, hy1, hn1⟩
  cases h9
  have hmo1 := hmo.fr ha1 (Or.inr (Nat.le_refl _))
  refine j_istore (L' := [(0, _), (1, _), (2, _), (3, _), (4, _), (5, _), (6, _)]) dL_law_319 (by decide) rfl ?_
  refine j_aload_n dL_law_321 rfl ?_
  refine j_aload_n dL_law_322 rfl ?_
  refine j_iload dL_law_323 rfl ?_
  refine j_iconst (v := 1) dL_law_325 (by decide) ?_
  refine j_iadd dL_law_326 ?_
  refine j_sld (k := 6 * j + 1) dL_law_327 hXs hbs (ixk (iA (hi) (iC 1 (by decide)) (by omega)) (by omega)) (by omega) ?_
  refine j_aload_n dL_law_328 rfl ?_
  refine j_iload dL_law_329 rfl ?_
  refine j_iconst (v := 2) dL_law_331 (by decide) ?_
  refine j_iadd dL_law_332 ?_
  refine j_sld (k := 6 * j + 2) dL_law_333 hXs hbs (ixk (iA (hi) (iC 2 (by decide)) (by omega)) (by omega)) (by omega) ?_
  refine j_aload_n dL_law_334 rfl ?_
  refine j_iload dL_law_335 rfl ?_
  refine j_iconst (v := 3) dL_law_337 (by decide) ?_
  refine j_iadd dL_law_338 ?_
  refine j_sld (k := 6 * j + 3) dL_law_339 hXs hbs (ixk (iA (hi) (iC 3 (by decide)) (by omega)) (by omega)) (by omega) ?_
  refine j_cVi dL_law_340 hB mo_X8_crank ml_L_107 (sp_X8_crank hB hmo1.1 hmo1 hW) hmo1.1.1 rfl rfl rfl rfl ⟨rfl, rfl, by decide, by decide⟩ (Nat.le_of_ble_eq_true rfl) ⟨by show c1 + 4 ≤ 616825; omega, by show n1 + 24 ≤ 7245630; omega⟩ (fun r2 V3 h3 => ?_)
  obtain ⟨ha3, he3, hy3, hn3⟩ := h3
  refine j_istore (L' := [(0, _), (1, _), (2, _), (3, _), (4, _), (5, _), (6, _), (7, _)]) dL_law_343 (by decide) rfl ?_
  refine j_aload_n dL_law_345 rfl ?_
  refine j_cVi dL_law_346 hB mo_X8_thrown ml_L_98 (sp_X8_thrown hB hmo1.1) hmo1.1.1 rfl rfl rfl rfl ⟨rfl, rfl, by decide, by decide⟩ (Nat.le_of_ble_eq_true rfl) ⟨by show c1 + 4 ≤ 616825; omega, by show n1 + 24 ≤ 7245630; omega⟩ (fun r4 V4 h4 => ?_)
  obtain ⟨rfl, h4⟩ := h4
  subst h4
  refine j_iload dL_law_349 rfl ?_
  refine m_icmp_eq (tgt := 356) dL_law_351 (by decide) (he3) (he1) (fun c_351 => ?_) (fun c_351 => ?_)
  · refine j_iload dL_law_356 rfl ?_
    refine m_if_ne (tgt := 373) dL_law_358 (by decide) (he1) (fun c_358 => ?_) (fun c_358 => ?_)
    · have e9 : ¬ (e_crank y (xs (6 * j + 1)) (xs (6 * j + 2)) (xs (6 * j + 3))) = 0 := by omega
      obtain ⟨hcu1, rfl⟩ := hn1 e9
      have hmo3 := hn3 e9
      refine j_goto (tgt := 1727) dL_law_373 (by decide) ?_
      refine j_sub2 (L' := [(0, _), (1, _), (2, _), (3, _), (4, _), (5, _)]) (List.forall_mem_cons.mpr ⟨rfl, List.forall_mem_cons.mpr ⟨rfl, List.forall_mem_cons.mpr ⟨rfl, List.forall_mem_cons.mpr ⟨rfl, List.forall_mem_cons.mpr ⟨rfl, List.forall_mem_cons.mpr ⟨rfl, fun _ h9 => nomatch h9⟩⟩⟩⟩⟩⟩) ?_
      exact next (j + 1) (by omega) _ (by omega) V3 _ sz2 (c1 + 4) (n1 + 24) y (hcu1.fr ha3 (Or.inl (Nat.le_refl _))) hmo3 hW (by omega) (by omega)
    · have e9 : (e_crank y (xs (6 * j + 1)) (xs (6 * j + 2)) (xs (6 * j + 3))) = 0 := by omega
      obtain ⟨hcu1, r1, rfl, hr1⟩ := hy1 e9
      obtain ⟨hr3, hmo3⟩ := hy3 e9
      have hrr : r2 = r1 := ti_inj (Eq.trans hr3 (Eq.symm hr1))
      subst hrr
      refine j_aload_n dL_law_361 rfl ?_
      refine j_iconst (v := 0) dL_law_362 (by decide) ?_
      refine j_lald dL_law_363 hB (hT1) (by decide) (by decide) ?_
      refine j_iload dL_law_364 rfl ?_
      refine j_i2l dL_law_366 ?_
      refine j_lcmp dL_law_367 ?_
      rw [show (jset X.1 (qx + 501) 0 r2.toInt64, X.2).1 (qx + 501) (0 : Int32).toNatClampNeg = r2.toInt64 from jset_eq, lg_self]
      refine m_if_eq (tgt := 373) dL_law_368 (by decide) (iC 0 (by decide)) (fun c_368 => ?_) (fun c_368 => ?_)
      · refine j_goto (tgt := 1727) dL_law_373 (by decide) ?_
        refine j_sub2 (L' := [(0, _), (1, _), (2, _), (3, _), (4, _), (5, _)]) (List.forall_mem_cons.mpr ⟨rfl, List.forall_mem_cons.mpr ⟨rfl, List.forall_mem_cons.mpr ⟨rfl, List.forall_mem_cons.mpr ⟨rfl, List.forall_mem_cons.mpr ⟨rfl, List.forall_mem_cons.mpr ⟨rfl, fun _ h9 => nomatch h9⟩⟩⟩⟩⟩⟩) ?_
        exact next (j + 1) (by omega) _ (by omega) V3 _ sz2 (c1 + 4) (n1 + 24) (s_crank y (xs (6 * j + 1)) (xs (6 * j + 2)) (xs (6 * j + 3))) (hcu1.fr ha3 (Or.inl (Nat.le_refl _))) hmo3 (xw_crank hW e9) (by omega) (by omega)
      · exact absurd c_368 (by decide)
  · exact absurd rfl c_351
set_option maxRecDepth 100000 in
set_option maxHeartbeats 4000000 in
theorem lc_3 (hB : jB l s0 D) (hN : jN s0) {b N qx : Nat} {xs : Nat → Int32} (hXs : va_X b N xs s0 s0.heap) (hbs : b < s0.heap.size) (hN3 : N ≤ 3072) (hT1 : T (qx + 501) = some (kJ 1)) (hT2 : T (qx + 502) = some (kDb 1)) {j : Nat} {i : Int32} {V : jV} {X : jX} {sz c1 n1 : Nat} {y : aX} (hj : 6 * j + 6 ≤ N) (hi : i.toInt = ((6 * j : Nat) : Int)) (hcu : cuIs T V qx y) (hmo : moIs T V (qx + 492) y) (hW : xW y) (hc1 : c1 ≤ 600 + 5 * j) (hn1 : n1 ≤ 6000 + 30 * j)
    (next : ∀ (j' : Nat), (j < j' ∧ j' ≤ 512) → ∀ i : Int32, i.toInt = ((6 * (j' - 1) : Nat) : Int) → ∀ (V : jV) (X : jX) (sz c1 n1 : Nat) (y : aX), cuIs T V qx y → moIs T V (qx + 492) y → xW y → c1 ≤ 600 + 5 * j' → n1 ≤ 6000 + 30 * j' → J l s0 D kLaw room_1 616825 7245630 (fun o _ _ _ _ => o = .inl (some (.int 1))) 1727 [(0, .ref b), (1, .ref qx), (2, .ref (qx + 492)), (3, .ref (qx + 501)), (4, .ref (qx + 502)), (5, .int i)] [] T V X sz c1 n1) : J l s0 D kLaw room_1 616825 7245630 (fun o _ _ _ _ => o = .inl (some (.int 1))) 376 [(0, .ref b), (1, .ref qx), (2, .ref (qx + 492)), (3, .ref (qx + 501)), (4, .ref (qx + 502)), (5, .int i)] [] T V X sz c1 n1 := by
  refine j_aload_n dL_law_376 rfl ?_
  refine j_aload_n dL_law_377 rfl ?_
  refine j_iload dL_law_378 rfl ?_
  refine j_iconst (v := 1) dL_law_380 (by decide) ?_
  refine j_iadd dL_law_381 ?_
  refine j_sld (k := 6 * j + 1) dL_law_382 hXs hbs (ixk (iA (hi) (iC 1 (by decide)) (by omega)) (by omega)) (by omega) ?_
  refine j_aload_n dL_law_383 rfl ?_
  refine j_iload dL_law_384 rfl ?_
  refine j_iconst (v := 2) dL_law_386 (by decide) ?_
  refine j_iadd dL_law_387 ?_
  refine j_sld (k := 6 * j + 2) dL_law_388 hXs hbs (ixk (iA (hi) (iC 2 (by decide)) (by omega)) (by omega)) (by omega) ?_
  refine j_aload_n dL_law_389 rfl ?_
  refine j_iload dL_law_390 rfl ?_
  refine j_iconst (v := 3) dL_law_392 (by decide) ?_
  refine j_iadd dL_law_393 ?_
  refine j_sld (k := 6 * j + 3) dL_law_394 hXs hbs (ixk (iA (hi) (iC 3 (by decide)) (by omega)) (by omega)) (by omega) ?_
  refine j_aload_n dL_law_395 rfl ?_
  refine j_callH dL_law_396 hB mo_L_splice ml_L_108 (sp_L_splice hB hN hcu hW hT1) rfl rfl ⟨rfl, rfl, by decide, by decide⟩ (Nat.le_of_ble_eq_true rfl) ⟨by show c1 + 4 ≤ 616825; omega, by show n1 + 24 ≤ 7245630; omega⟩ ?_ (by rintro E9 T9 V9 X9 sz9 ⟨k9, h9, -⟩; cases h9)
  rintro v9 T2 V2 X2 sz2 ⟨k1, h9, rfl, hz9, ha1, he1, hy1, hn1⟩
  cases h9
  have hmo1 := hmo.fr ha1 (Or.inr (Nat.le_refl _))
  refine j_istore (L' := [(0, _), (1, _), (2, _), (3, _), (4, _), (5, _), (6, _)]) dL_law_399 (by decide) rfl ?_
  refine j_aload_n dL_law_401 rfl ?_
  refine j_aload_n dL_law_402 rfl ?_
  refine j_iload dL_law_403 rfl ?_
  refine j_iconst (v := 1) dL_law_405 (by decide) ?_
  refine j_iadd dL_law_406 ?_
  refine j_sld (k := 6 * j + 1) dL_law_407 hXs hbs (ixk (iA (hi) (iC 1 (by decide)) (by omega)) (by omega)) (by omega) ?_
  refine j_aload_n dL_law_408 rfl ?_
  refine j_iload dL_law_409 rfl ?_
  refine j_iconst (v := 2) dL_law_411 (by decide) ?_
  refine j_iadd dL_law_412 ?_
  refine j_sld (k := 6 * j + 2) dL_law_413 hXs hbs (ixk (iA (hi) (iC 2 (by decide)) (by omega)) (by omega)) (by omega) ?_
  refine j_aload_n dL_law_414 rfl ?_
  refine j_iload dL_law_415 rfl ?_
  refine j_iconst (v := 3) dL_law_417 (by decide) ?_
  refine j_iadd dL_law_418 ?_
  refine j_sld (k := 6 * j + 3) dL_law_419 hXs hbs (ixk (iA (hi) (iC 3 (by decide)) (by omega)) (by omega)) (by omega) ?_
  refine j_cVi dL_law_420 hB mo_X8_splice ml_L_110 (sp_X8_splice hB hmo1.1 hmo1 hW) hmo1.1.1 rfl rfl rfl rfl ⟨rfl, rfl, by decide, by decide⟩ (Nat.le_of_ble_eq_true rfl) ⟨by show c1 + 4 ≤ 616825; omega, by show n1 + 24 ≤ 7245630; omega⟩ (fun r2 V3 h3 => ?_)
  obtain ⟨ha3, he3, hy3, hn3⟩ := h3
  refine j_istore (L' := [(0, _), (1, _), (2, _), (3, _), (4, _), (5, _), (6, _), (7, _)]) dL_law_423 (by decide) rfl ?_
  refine j_aload_n dL_law_425 rfl ?_
  refine j_cVi dL_law_426 hB mo_X8_thrown ml_L_98 (sp_X8_thrown hB hmo1.1) hmo1.1.1 rfl rfl rfl rfl ⟨rfl, rfl, by decide, by decide⟩ (Nat.le_of_ble_eq_true rfl) ⟨by show c1 + 4 ≤ 616825; omega, by show n1 + 24 ≤ 7245630; omega⟩ (fun r4 V4 h4 => ?_)
  obtain ⟨rfl, h4⟩ := h4
  subst h4
  refine j_iload dL_law_429 rfl ?_
  refine m_icmp_eq (tgt := 436) dL_law_431 (by decide) (he3) (he1) (fun c_431 => ?_) (fun c_431 => ?_)
  · refine j_iload dL_law_436 rfl ?_
    refine m_if_ne (tgt := 453) dL_law_438 (by decide) (he1) (fun c_438 => ?_) (fun c_438 => ?_)
    · have e9 : ¬ (e_spl y (xs (6 * j + 1)) (xs (6 * j + 2)) (xs (6 * j + 3))) = 0 := by omega
      obtain ⟨hcu1, rfl⟩ := hn1 e9
      have hmo3 := hn3 e9
      refine j_goto (tgt := 1727) dL_law_453 (by decide) ?_
      refine j_sub2 (L' := [(0, _), (1, _), (2, _), (3, _), (4, _), (5, _)]) (List.forall_mem_cons.mpr ⟨rfl, List.forall_mem_cons.mpr ⟨rfl, List.forall_mem_cons.mpr ⟨rfl, List.forall_mem_cons.mpr ⟨rfl, List.forall_mem_cons.mpr ⟨rfl, List.forall_mem_cons.mpr ⟨rfl, fun _ h9 => nomatch h9⟩⟩⟩⟩⟩⟩) ?_
      exact next (j + 1) (by omega) _ (by omega) V3 _ sz2 (c1 + 4) (n1 + 24) y (hcu1.fr ha3 (Or.inl (Nat.le_refl _))) hmo3 hW (by omega) (by omega)
    · have e9 : (e_spl y (xs (6 * j + 1)) (xs (6 * j + 2)) (xs (6 * j + 3))) = 0 := by omega
      obtain ⟨hcu1, r1, rfl, hr1⟩ := hy1 e9
      obtain ⟨hr3, hmo3⟩ := hy3 e9
      have hrr : r2 = r1 := ti_inj (Eq.trans hr3 (Eq.symm hr1))
      subst hrr
      refine j_aload_n dL_law_441 rfl ?_
      refine j_iconst (v := 0) dL_law_442 (by decide) ?_
      refine j_lald dL_law_443 hB (hT1) (by decide) (by decide) ?_
      refine j_iload dL_law_444 rfl ?_
      refine j_i2l dL_law_446 ?_
      refine j_lcmp dL_law_447 ?_
      rw [show (jset X.1 (qx + 501) 0 r2.toInt64, X.2).1 (qx + 501) (0 : Int32).toNatClampNeg = r2.toInt64 from jset_eq, lg_self]
      refine m_if_eq (tgt := 453) dL_law_448 (by decide) (iC 0 (by decide)) (fun c_448 => ?_) (fun c_448 => ?_)
      · refine j_goto (tgt := 1727) dL_law_453 (by decide) ?_
        refine j_sub2 (L' := [(0, _), (1, _), (2, _), (3, _), (4, _), (5, _)]) (List.forall_mem_cons.mpr ⟨rfl, List.forall_mem_cons.mpr ⟨rfl, List.forall_mem_cons.mpr ⟨rfl, List.forall_mem_cons.mpr ⟨rfl, List.forall_mem_cons.mpr ⟨rfl, List.forall_mem_cons.mpr ⟨rfl, fun _ h9 => nomatch h9⟩⟩⟩⟩⟩⟩) ?_
        exact next (j + 1) (by omega) _ (by omega) V3 _ sz2 (c1 + 4) (n1 + 24) (s_spl y (xs (6 * j + 1)) (xs (6 * j + 2)) (xs (6 * j + 3))) (hcu1.fr ha3 (Or.inl (Nat.le_refl _))) hmo3 (xw_spl hW e9) (by omega) (by omega)
      · exact absurd c_448 (by decide)
  · exact absurd rfl c_431
set_option maxRecDepth 100000 in
set_option maxHeartbeats 4000000 in
theorem lc_4 (hB : jB l s0 D) (hN : jN s0) {b N qx : Nat} {xs : Nat → Int32} (hXs : va_X b N xs s0 s0.heap) (hbs : b < s0.heap.size) (hN3 : N ≤ 3072) (hT1 : T (qx + 501) = some (kJ 1)) (hT2 : T (qx + 502) = some (kDb 1)) {j : Nat} {i : Int32} {V : jV} {X : jX} {sz c1 n1 : Nat} {y : aX} (hj : 6 * j + 6 ≤ N) (hi : i.toInt = ((6 * j : Nat) : Int)) (hcu : cuIs T V qx y) (hmo : moIs T V (qx + 492) y) (hW : xW y) (hc1 : c1 ≤ 600 + 5 * j) (hn1 : n1 ≤ 6000 + 30 * j)
    (next : ∀ (j' : Nat), (j < j' ∧ j' ≤ 512) → ∀ i : Int32, i.toInt = ((6 * (j' - 1) : Nat) : Int) → ∀ (V : jV) (X : jX) (sz c1 n1 : Nat) (y : aX), cuIs T V qx y → moIs T V (qx + 492) y → xW y → c1 ≤ 600 + 5 * j' → n1 ≤ 6000 + 30 * j' → J l s0 D kLaw room_1 616825 7245630 (fun o _ _ _ _ => o = .inl (some (.int 1))) 1727 [(0, .ref b), (1, .ref qx), (2, .ref (qx + 492)), (3, .ref (qx + 501)), (4, .ref (qx + 502)), (5, .int i)] [] T V X sz c1 n1) : J l s0 D kLaw room_1 616825 7245630 (fun o _ _ _ _ => o = .inl (some (.int 1))) 456 [(0, .ref b), (1, .ref qx), (2, .ref (qx + 492)), (3, .ref (qx + 501)), (4, .ref (qx + 502)), (5, .int i)] [] T V X sz c1 n1 := by
  refine j_aload_n dL_law_456 rfl ?_
  refine j_aload_n dL_law_457 rfl ?_
  refine j_iload dL_law_458 rfl ?_
  refine j_iconst (v := 1) dL_law_460 (by decide) ?_
  refine j_iadd dL_law_461 ?_
  refine j_sld (k := 6 * j + 1) dL_law_462 hXs hbs (ixk (iA (hi) (iC 1 (by decide)) (by omega)) (by omega)) (by omega) ?_
  refine j_aload_n dL_law_463 rfl ?_
  refine j_iload dL_law_464 rfl ?_
  refine j_iconst (v := 2) dL_law_466 (by decide) ?_
  refine j_iadd dL_law_467 ?_
  refine j_sld (k := 6 * j + 2) dL_law_468 hXs hbs (ixk (iA (hi) (iC 2 (by decide)) (by omega)) (by omega)) (by omega) ?_
  refine j_aload_n dL_law_469 rfl ?_
  refine j_iload dL_law_470 rfl ?_
  refine j_iconst (v := 3) dL_law_472 (by decide) ?_
  refine j_iadd dL_law_473 ?_
  refine j_sld (k := 6 * j + 3) dL_law_474 hXs hbs (ixk (iA (hi) (iC 3 (by decide)) (by omega)) (by omega)) (by omega) ?_
  refine j_aload_n dL_law_475 rfl ?_
  refine j_callH dL_law_476 hB mo_L_addPiece ml_L_111 (sp_L_addPiece hB hN hcu hW hT1) rfl rfl ⟨rfl, rfl, by decide, by decide⟩ (Nat.le_of_ble_eq_true rfl) ⟨by show c1 + 4 ≤ 616825; omega, by show n1 + 24 ≤ 7245630; omega⟩ ?_ (by rintro E9 T9 V9 X9 sz9 ⟨k9, h9, -⟩; cases h9)
  rintro v9 T2 V2 X2 sz2 ⟨k1, h9, rfl, hz9, ha1, he1, hy1, hn1⟩
  cases h9
  have hmo1 := hmo.fr ha1 (Or.inr (Nat.le_refl _))
  refine j_istore (L' := [(0, _), (1, _), (2, _), (3, _), (4, _), (5, _), (6, _)]) dL_law_479 (by decide) rfl ?_
  refine j_aload_n dL_law_481 rfl ?_
  refine j_aload_n dL_law_482 rfl ?_
  refine j_iload dL_law_483 rfl ?_
  refine j_iconst (v := 1) dL_law_485 (by decide) ?_
  refine j_iadd dL_law_486 ?_
  refine j_sld (k := 6 * j + 1) dL_law_487 hXs hbs (ixk (iA (hi) (iC 1 (by decide)) (by omega)) (by omega)) (by omega) ?_
  refine j_aload_n dL_law_488 rfl ?_
  refine j_iload dL_law_489 rfl ?_
  refine j_iconst (v := 2) dL_law_491 (by decide) ?_
  refine j_iadd dL_law_492 ?_
  refine j_sld (k := 6 * j + 2) dL_law_493 hXs hbs (ixk (iA (hi) (iC 2 (by decide)) (by omega)) (by omega)) (by omega) ?_
  refine j_aload_n dL_law_494 rfl ?_
  refine j_iload dL_law_495 rfl ?_
  refine j_iconst (v := 3) dL_law_497 (by decide) ?_
  refine j_iadd dL_law_498 ?_
  refine j_sld (k := 6 * j + 3) dL_law_499 hXs hbs (ixk (iA (hi) (iC 3 (by decide)) (by omega)) (by omega)) (by omega) ?_
  refine j_cVi dL_law_500 hB mo_X8_addPiece ml_L_113 (sp_X8_addPiece hB hmo1.1 hmo1 hW) hmo1.1.1 rfl rfl rfl rfl ⟨rfl, rfl, by decide, by decide⟩ (Nat.le_of_ble_eq_true rfl) ⟨by show c1 + 4 ≤ 616825; omega, by show n1 + 24 ≤ 7245630; omega⟩ (fun r2 V3 h3 => ?_)
  obtain ⟨ha3, he3, hy3, hn3⟩ := h3
  refine j_istore (L' := [(0, _), (1, _), (2, _), (3, _), (4, _), (5, _), (6, _), (7, _)]) dL_law_503 (by decide) rfl ?_
  refine j_aload_n dL_law_505 rfl ?_
  refine j_cVi dL_law_506 hB mo_X8_thrown ml_L_98 (sp_X8_thrown hB hmo1.1) hmo1.1.1 rfl rfl rfl rfl ⟨rfl, rfl, by decide, by decide⟩ (Nat.le_of_ble_eq_true rfl) ⟨by show c1 + 4 ≤ 616825; omega, by show n1 + 24 ≤ 7245630; omega⟩ (fun r4 V4 h4 => ?_)
  obtain ⟨rfl, h4⟩ := h4
  subst h4
  refine j_iload dL_law_509 rfl ?_
  refine m_icmp_eq (tgt := 516) dL_law_511 (by decide) (he3) (he1) (fun c_511 => ?_) (fun c_511 => ?_)
  · refine j_iload dL_law_516 rfl ?_
    refine m_if_ne (tgt := 533) dL_law_518 (by decide) (he1) (fun c_518 => ?_) (fun c_518 => ?_)
    · have e9 : ¬ (e_pc y (xs (6 * j + 1)) (xs (6 * j + 2)) (xs (6 * j + 3))) = 0 := by omega
      obtain ⟨hcu1, rfl⟩ := hn1 e9
      have hmo3 := hn3 e9
      refine j_goto (tgt := 1727) dL_law_533 (by decide) ?_
      refine j_sub2 (L' := [(0, _), (1, _), (2, _), (3, _), (4, _), (5, _)]) (List.forall_mem_cons.mpr ⟨rfl, List.forall_mem_cons.mpr ⟨rfl, List.forall_mem_cons.mpr ⟨rfl, List.forall_mem_cons.mpr ⟨rfl, List.forall_mem_cons.mpr ⟨rfl, List.forall_mem_cons.mpr ⟨rfl, fun _ h9 => nomatch h9⟩⟩⟩⟩⟩⟩) ?_
      exact next (j + 1) (by omega) _ (by omega) V3 _ sz2 (c1 + 4) (n1 + 24) y (hcu1.fr ha3 (Or.inl (Nat.le_refl _))) hmo3 hW (by omega) (by omega)
    · have e9 : (e_pc y (xs (6 * j + 1)) (xs (6 * j + 2)) (xs (6 * j + 3))) = 0 := by omega
      obtain ⟨hcu1, r1, rfl, hr1⟩ := hy1 e9
      obtain ⟨hr3, hmo3⟩ := hy3 e9
      have hrr : r2 = r1 := ti_inj (Eq.trans hr3 (Eq.symm hr1))
      subst hrr
      refine j_aload_n dL_law_521 rfl ?_
      refine j_iconst (v := 0) dL_law_522 (by decide) ?_
      refine j_lald dL_law_523 hB (hT1) (by decide) (by decide) ?_
      refine j_iload dL_law_524 rfl ?_
      refine j_i2l dL_law_526 ?_
      refine j_lcmp dL_law_527 ?_
      rw [show (jset X.1 (qx + 501) 0 r2.toInt64, X.2).1 (qx + 501) (0 : Int32).toNatClampNeg = r2.toInt64 from jset_eq, lg_self]
      refine m_if_eq (tgt := 533) dL_law_528 (by decide) (iC 0 (by decide)) (fun c_528 => ?_) (fun c_528 => ?_)
      · refine j_goto (tgt := 1727) dL_law_533 (by decide) ?_
        refine j_sub2 (L' := [(0, _), (1, _), (2, _), (3, _), (4, _), (5, _)]) (List.forall_mem_cons.mpr ⟨rfl, List.forall_mem_cons.mpr ⟨rfl, List.forall_mem_cons.mpr ⟨rfl, List.forall_mem_cons.mpr ⟨rfl, List.forall_mem_cons.mpr ⟨rfl, List.forall_mem_cons.mpr ⟨rfl, fun _ h9 => nomatch h9⟩⟩⟩⟩⟩⟩) ?_
        exact next (j + 1) (by omega) _ (by omega) V3 _ sz2 (c1 + 4) (n1 + 24) (s_pc y (xs (6 * j + 1)) (xs (6 * j + 2)) (xs (6 * j + 3))) (hcu1.fr ha3 (Or.inl (Nat.le_refl _))) hmo3 (xw_pc hW e9) (by omega) (by omega)
      · exact absurd c_528 (by decide)
  · exact absurd rfl c_511
set_option maxRecDepth 100000 in
set_option maxHeartbeats 4000000 in
theorem lc_5 (hB : jB l s0 D) (hN : jN s0) {b N qx : Nat} {xs : Nat → Int32} (hXs : va_X b N xs s0 s0.heap) (hbs : b < s0.heap.size) (hN3 : N ≤ 3072) (hT1 : T (qx + 501) = some (kJ 1)) (hT2 : T (qx + 502) = some (kDb 1)) {j : Nat} {i : Int32} {V : jV} {X : jX} {sz c1 n1 : Nat} {y : aX} (hj : 6 * j + 6 ≤ N) (hi : i.toInt = ((6 * j : Nat) : Int)) (hcu : cuIs T V qx y) (hmo : moIs T V (qx + 492) y) (hW : xW y) (hc1 : c1 ≤ 600 + 5 * j) (hn1 : n1 ≤ 6000 + 30 * j)
    (next : ∀ (j' : Nat), (j < j' ∧ j' ≤ 512) → ∀ i : Int32, i.toInt = ((6 * (j' - 1) : Nat) : Int) → ∀ (V : jV) (X : jX) (sz c1 n1 : Nat) (y : aX), cuIs T V qx y → moIs T V (qx + 492) y → xW y → c1 ≤ 600 + 5 * j' → n1 ≤ 6000 + 30 * j' → J l s0 D kLaw room_1 616825 7245630 (fun o _ _ _ _ => o = .inl (some (.int 1))) 1727 [(0, .ref b), (1, .ref qx), (2, .ref (qx + 492)), (3, .ref (qx + 501)), (4, .ref (qx + 502)), (5, .int i)] [] T V X sz c1 n1) : J l s0 D kLaw room_1 616825 7245630 (fun o _ _ _ _ => o = .inl (some (.int 1))) 536 [(0, .ref b), (1, .ref qx), (2, .ref (qx + 492)), (3, .ref (qx + 501)), (4, .ref (qx + 502)), (5, .int i)] [] T V X sz c1 n1 := by
  refine j_aload_n dL_law_536 rfl ?_
  refine j_aload_n dL_law_537 rfl ?_
  refine j_iload dL_law_538 rfl ?_
  refine j_iconst (v := 1) dL_law_540 (by decide) ?_
  refine j_iadd dL_law_541 ?_
  refine j_sld (k := 6 * j + 1) dL_law_542 hXs hbs (ixk (iA (hi) (iC 1 (by decide)) (by omega)) (by omega)) (by omega) ?_
  refine j_aload_n dL_law_543 rfl ?_
  refine j_iload dL_law_544 rfl ?_
  refine j_iconst (v := 2) dL_law_546 (by decide) ?_
  refine j_iadd dL_law_547 ?_
  refine j_sld (k := 6 * j + 2) dL_law_548 hXs hbs (ixk (iA (hi) (iC 2 (by decide)) (by omega)) (by omega)) (by omega) ?_
  refine j_aload_n dL_law_549 rfl ?_
  refine j_iload dL_law_550 rfl ?_
  refine j_iconst (v := 3) dL_law_552 (by decide) ?_
  refine j_iadd dL_law_553 ?_
  refine j_sld (k := 6 * j + 3) dL_law_554 hXs hbs (ixk (iA (hi) (iC 3 (by decide)) (by omega)) (by omega)) (by omega) ?_
  refine j_aload_n dL_law_555 rfl ?_
  refine j_iload dL_law_556 rfl ?_
  refine j_iconst (v := 4) dL_law_558 (by decide) ?_
  refine j_iadd dL_law_559 ?_
  refine j_sld (k := 6 * j + 4) dL_law_560 hXs hbs (ixk (iA (hi) (iC 4 (by decide)) (by omega)) (by omega)) (by omega) ?_
  refine j_aload_n dL_law_561 rfl ?_
  refine j_iload dL_law_562 rfl ?_
  refine j_iconst (v := 5) dL_law_564 (by decide) ?_
  refine j_iadd dL_law_565 ?_
  refine j_sld (k := 6 * j + 5) dL_law_566 hXs hbs (ixk (iA (hi) (iC 5 (by decide)) (by omega)) (by omega)) (by omega) ?_
  refine j_aload_n dL_law_567 rfl ?_
  refine j_callH dL_law_568 hB mo_L_setCue ml_L_114 (sp_L_setCue hB hN hcu hW hT1) rfl rfl ⟨rfl, rfl, by decide, by decide⟩ (Nat.le_of_ble_eq_true rfl) ⟨by show c1 + 5 ≤ 616825; omega, by show n1 + 30 ≤ 7245630; omega⟩ ?_ (by rintro E9 T9 V9 X9 sz9 ⟨k9, h9, -⟩; cases h9)
  rintro v9 T2 V2 X2 sz2 ⟨k1, h9, rfl, hz9, ha1, he1, hy1, hn1⟩
  cases h9
  have hmo1 := hmo.fr ha1 (Or.inr (Nat.le_refl _))
  refine j_istore (L' := [(0, _), (1, _), (2, _), (3, _), (4, _), (5, _), (6, _)]) dL_law_571 (by decide) rfl ?_
  refine j_aload_n dL_law_573 rfl ?_
  refine j_aload_n dL_law_574 rfl ?_
  refine j_iload dL_law_575 rfl ?_
  refine j_iconst (v := 1) dL_law_577 (by decide) ?_
  refine j_iadd dL_law_578 ?_
  refine j_sld (k := 6 * j + 1) dL_law_579 hXs hbs (ixk (iA (hi) (iC 1 (by decide)) (by omega)) (by omega)) (by omega) ?_
  refine j_aload_n dL_law_580 rfl ?_
  refine j_iload dL_law_581 rfl ?_
  refine j_iconst (v := 2) dL_law_583 (by decide) ?_
  refine j_iadd dL_law_584 ?_
  refine j_sld (k := 6 * j + 2) dL_law_585 hXs hbs (ixk (iA (hi) (iC 2 (by decide)) (by omega)) (by omega)) (by omega) ?_
  refine j_aload_n dL_law_586 rfl ?_
  refine j_iload dL_law_587 rfl ?_
  refine j_iconst (v := 3) dL_law_589 (by decide) ?_
  refine j_iadd dL_law_590 ?_
  refine j_sld (k := 6 * j + 3) dL_law_591 hXs hbs (ixk (iA (hi) (iC 3 (by decide)) (by omega)) (by omega)) (by omega) ?_
  refine j_aload_n dL_law_592 rfl ?_
  refine j_iload dL_law_593 rfl ?_
  refine j_iconst (v := 4) dL_law_595 (by decide) ?_
  refine j_iadd dL_law_596 ?_
  refine j_sld (k := 6 * j + 4) dL_law_597 hXs hbs (ixk (iA (hi) (iC 4 (by decide)) (by omega)) (by omega)) (by omega) ?_
  refine j_aload_n dL_law_598 rfl ?_
  refine j_iload dL_law_599 rfl ?_
  refine j_iconst (v := 5) dL_law_601 (by decide) ?_
  refine j_iadd dL_law_602 ?_
  refine j_sld (k := 6 * j + 5) dL_law_603 hXs hbs (ixk (iA (hi) (iC 5 (by decide)) (by omega)) (by omega)) (by omega) ?_
  refine j_cVi dL_law_604 hB mo_X8_setCue ml_L_117 (sp_X8_setCue hB hmo1.1 hmo1 hW) hmo1.1.1 rfl rfl rfl rfl ⟨rfl, rfl, by decide, by decide⟩ (Nat.le_of_ble_eq_true rfl) ⟨by show c1 + 5 ≤ 616825; omega, by show n1 + 30 ≤ 7245630; omega⟩ (fun r2 V3 h3 => ?_)
  obtain ⟨ha3, he3, hy3, hn3⟩ := h3
  refine j_istore (L' := [(0, _), (1, _), (2, _), (3, _), (4, _), (5, _), (6, _), (7, _)]) dL_law_607 (by decide) rfl ?_
  refine j_aload_n dL_law_609 rfl ?_
  refine j_cVi dL_law_610 hB mo_X8_thrown ml_L_98 (sp_X8_thrown hB hmo1.1) hmo1.1.1 rfl rfl rfl rfl ⟨rfl, rfl, by decide, by decide⟩ (Nat.le_of_ble_eq_true rfl) ⟨by show c1 + 5 ≤ 616825; omega, by show n1 + 30 ≤ 7245630; omega⟩ (fun r4 V4 h4 => ?_)
  obtain ⟨rfl, h4⟩ := h4
  subst h4
  refine j_iload dL_law_613 rfl ?_
  refine m_icmp_eq (tgt := 620) dL_law_615 (by decide) (he3) (he1) (fun c_615 => ?_) (fun c_615 => ?_)
  · refine j_iload dL_law_620 rfl ?_
    refine m_if_ne (tgt := 637) dL_law_622 (by decide) (he1) (fun c_622 => ?_) (fun c_622 => ?_)
    · have e9 : ¬ (e_cue y (xs (6 * j + 1)) (xs (6 * j + 2)) (xs (6 * j + 3)) (xs (6 * j + 4)) (xs (6 * j + 5))) = 0 := by omega
      obtain ⟨hcu1, rfl⟩ := hn1 e9
      have hmo3 := hn3 e9
      refine j_goto (tgt := 1727) dL_law_637 (by decide) ?_
      refine j_sub2 (L' := [(0, _), (1, _), (2, _), (3, _), (4, _), (5, _)]) (List.forall_mem_cons.mpr ⟨rfl, List.forall_mem_cons.mpr ⟨rfl, List.forall_mem_cons.mpr ⟨rfl, List.forall_mem_cons.mpr ⟨rfl, List.forall_mem_cons.mpr ⟨rfl, List.forall_mem_cons.mpr ⟨rfl, fun _ h9 => nomatch h9⟩⟩⟩⟩⟩⟩) ?_
      exact next (j + 1) (by omega) _ (by omega) V3 _ sz2 (c1 + 5) (n1 + 30) y (hcu1.fr ha3 (Or.inl (Nat.le_refl _))) hmo3 hW (by omega) (by omega)
    · have e9 : (e_cue y (xs (6 * j + 1)) (xs (6 * j + 2)) (xs (6 * j + 3)) (xs (6 * j + 4)) (xs (6 * j + 5))) = 0 := by omega
      obtain ⟨hcu1, r1, rfl, hr1⟩ := hy1 e9
      obtain ⟨hr3, hmo3⟩ := hy3 e9
      have hrr : r2 = r1 := ti_inj (Eq.trans hr3 (Eq.symm hr1))
      subst hrr
      refine j_aload_n dL_law_625 rfl ?_
      refine j_iconst (v := 0) dL_law_626 (by decide) ?_
      refine j_lald dL_law_627 hB (hT1) (by decide) (by decide) ?_
      refine j_iload dL_law_628 rfl ?_
      refine j_i2l dL_law_630 ?_
      refine j_lcmp dL_law_631 ?_
      rw [show (jset X.1 (qx + 501) 0 r2.toInt64, X.2).1 (qx + 501) (0 : Int32).toNatClampNeg = r2.toInt64 from jset_eq, lg_self]
      refine m_if_eq (tgt := 637) dL_law_632 (by decide) (iC 0 (by decide)) (fun c_632 => ?_) (fun c_632 => ?_)
      · refine j_goto (tgt := 1727) dL_law_637 (by decide) ?_
        refine j_sub2 (L' := [(0, _), (1, _), (2, _), (3, _), (4, _), (5, _)]) (List.forall_mem_cons.mpr ⟨rfl, List.forall_mem_cons.mpr ⟨rfl, List.forall_mem_cons.mpr ⟨rfl, List.forall_mem_cons.mpr ⟨rfl, List.forall_mem_cons.mpr ⟨rfl, List.forall_mem_cons.mpr ⟨rfl, fun _ h9 => nomatch h9⟩⟩⟩⟩⟩⟩) ?_
        exact next (j + 1) (by omega) _ (by omega) V3 _ sz2 (c1 + 5) (n1 + 30) (s_cue y (xs (6 * j + 1)) (xs (6 * j + 2)) (xs (6 * j + 3)) (xs (6 * j + 4)) (xs (6 * j + 5))) (hcu1.fr ha3 (Or.inl (Nat.le_refl _))) hmo3 (xw_cue hW e9) (by omega) (by omega)
      · exact absurd c_632 (by decide)
  · exact absurd rfl c_615
set_option maxRecDepth 100000 in
set_option maxHeartbeats 4000000 in
theorem lc_6 (hB : jB l s0 D) (hN : jN s0) {b N qx : Nat} {xs : Nat → Int32} (hXs : va_X b N xs s0 s0.heap) (hbs : b < s0.heap.size) (hN3 : N ≤ 3072) (hT1 : T (qx + 501) = some (kJ 1)) (hT2 : T (qx + 502) = some (kDb 1)) {j : Nat} {i : Int32} {V : jV} {X : jX} {sz c1 n1 : Nat} {y : aX} (hj : 6 * j + 6 ≤ N) (hi : i.toInt = ((6 * j : Nat) : Int)) (hcu : cuIs T V qx y) (hmo : moIs T V (qx + 492) y) (hW : xW y) (hc1 : c1 ≤ 600 + 5 * j) (hn1 : n1 ≤ 6000 + 30 * j)
    (next : ∀ (j' : Nat), (j < j' ∧ j' ≤ 512) → ∀ i : Int32, i.toInt = ((6 * (j' - 1) : Nat) : Int) → ∀ (V : jV) (X : jX) (sz c1 n1 : Nat) (y : aX), cuIs T V qx y → moIs T V (qx + 492) y → xW y → c1 ≤ 600 + 5 * j' → n1 ≤ 6000 + 30 * j' → J l s0 D kLaw room_1 616825 7245630 (fun o _ _ _ _ => o = .inl (some (.int 1))) 1727 [(0, .ref b), (1, .ref qx), (2, .ref (qx + 492)), (3, .ref (qx + 501)), (4, .ref (qx + 502)), (5, .int i)] [] T V X sz c1 n1) : J l s0 D kLaw room_1 616825 7245630 (fun o _ _ _ _ => o = .inl (some (.int 1))) 640 [(0, .ref b), (1, .ref qx), (2, .ref (qx + 492)), (3, .ref (qx + 501)), (4, .ref (qx + 502)), (5, .int i)] [] T V X sz c1 n1 := by
  refine j_aload_n dL_law_640 rfl ?_
  refine j_aload_n dL_law_641 rfl ?_
  refine j_iload dL_law_642 rfl ?_
  refine j_iconst (v := 1) dL_law_644 (by decide) ?_
  refine j_iadd dL_law_645 ?_
  refine j_sld (k := 6 * j + 1) dL_law_646 hXs hbs (ixk (iA (hi) (iC 1 (by decide)) (by omega)) (by omega)) (by omega) ?_
  refine j_aload_n dL_law_647 rfl ?_
  refine j_callH dL_law_648 hB mo_L_fit ml_L_118 (sp_L_fit hB hN hcu hW hT1) rfl rfl ⟨rfl, rfl, by decide, by decide⟩ (Nat.le_of_ble_eq_true rfl) ⟨by show c1 + 1 ≤ 616825; omega, by show n1 + 6 ≤ 7245630; omega⟩ ?_ (by rintro E9 T9 V9 X9 sz9 ⟨k9, h9, -⟩; cases h9)
  rintro v9 T2 V2 X2 sz2 ⟨k1, h9, rfl, hz9, ha1, he1, hy1, hn1⟩
  cases h9
  have hmo1 := hmo.fr ha1 (Or.inr (Nat.le_refl _))
  refine j_istore (L' := [(0, _), (1, _), (2, _), (3, _), (4, _), (5, _), (6, _)]) dL_law_651 (by decide) rfl ?_
  refine j_aload_n dL_law_653 rfl ?_
  refine j_aload_n dL_law_654 rfl ?_
  refine j_iload dL_law_655 rfl ?_
  refine j_iconst (v := 1) dL_law_657 (by decide) ?_
  refine j_iadd dL_law_658 ?_
  refine j_sld (k := 6 * j + 1) dL_law_659 hXs hbs (ixk (iA (hi) (iC 1 (by decide)) (by omega)) (by omega)) (by omega) ?_
  refine j_cVi dL_law_660 hB mo_X8_fit ml_L_121 (sp_X8_fit hB hmo1.1 hmo1 hW) hmo1.1.1 rfl rfl rfl rfl ⟨rfl, rfl, by decide, by decide⟩ (Nat.le_of_ble_eq_true rfl) ⟨by show c1 + 1 ≤ 616825; omega, by show n1 + 6 ≤ 7245630; omega⟩ (fun r2 V3 h3 => ?_)
  obtain ⟨ha3, he3, hy3, hn3⟩ := h3
  refine j_istore (L' := [(0, _), (1, _), (2, _), (3, _), (4, _), (5, _), (6, _), (7, _)]) dL_law_663 (by decide) rfl ?_
  refine j_aload_n dL_law_665 rfl ?_
  refine j_cVi dL_law_666 hB mo_X8_thrown ml_L_98 (sp_X8_thrown hB hmo1.1) hmo1.1.1 rfl rfl rfl rfl ⟨rfl, rfl, by decide, by decide⟩ (Nat.le_of_ble_eq_true rfl) ⟨by show c1 + 1 ≤ 616825; omega, by show n1 + 6 ≤ 7245630; omega⟩ (fun r4 V4 h4 => ?_)
  obtain ⟨rfl, h4⟩ := h4
  subst h4
  refine j_iload dL_law_669 rfl ?_
  refine m_icmp_eq (tgt := 676) dL_law_671 (by decide) (he3) (he1) (fun c_671 => ?_) (fun c_671 => ?_)
  · refine j_iload dL_law_676 rfl ?_
    refine m_if_ne (tgt := 693) dL_law_678 (by decide) (he1) (fun c_678 => ?_) (fun c_678 => ?_)
    · have e9 : ¬ (e_fit (xs (6 * j + 1))) = 0 := by omega
      obtain ⟨hcu1, rfl⟩ := hn1 e9
      have hmo3 := hn3 e9
      refine j_goto (tgt := 1727) dL_law_693 (by decide) ?_
      refine j_sub2 (L' := [(0, _), (1, _), (2, _), (3, _), (4, _), (5, _)]) (List.forall_mem_cons.mpr ⟨rfl, List.forall_mem_cons.mpr ⟨rfl, List.forall_mem_cons.mpr ⟨rfl, List.forall_mem_cons.mpr ⟨rfl, List.forall_mem_cons.mpr ⟨rfl, List.forall_mem_cons.mpr ⟨rfl, fun _ h9 => nomatch h9⟩⟩⟩⟩⟩⟩) ?_
      exact next (j + 1) (by omega) _ (by omega) V3 _ sz2 (c1 + 1) (n1 + 6) y (hcu1.fr ha3 (Or.inl (Nat.le_refl _))) hmo3 hW (by omega) (by omega)
    · have e9 : (e_fit (xs (6 * j + 1))) = 0 := by omega
      obtain ⟨hcu1, r1, rfl, hr1⟩ := hy1 e9
      obtain ⟨hr3, hmo3⟩ := hy3 e9
      have hrr : r2 = r1 := ti_inj (Eq.trans hr3 (Eq.symm hr1))
      subst hrr
      refine j_aload_n dL_law_681 rfl ?_
      refine j_iconst (v := 0) dL_law_682 (by decide) ?_
      refine j_lald dL_law_683 hB (hT1) (by decide) (by decide) ?_
      refine j_iload dL_law_684 rfl ?_
      refine j_i2l dL_law_686 ?_
      refine j_lcmp dL_law_687 ?_
      rw [show (jset X.1 (qx + 501) 0 r2.toInt64, X.2).1 (qx + 501) (0 : Int32).toNatClampNeg = r2.toInt64 from jset_eq, lg_self]
      refine m_if_eq (tgt := 693) dL_law_688 (by decide) (iC 0 (by decide)) (fun c_688 => ?_) (fun c_688 => ?_)
      · refine j_goto (tgt := 1727) dL_law_693 (by decide) ?_
        refine j_sub2 (L' := [(0, _), (1, _), (2, _), (3, _), (4, _), (5, _)]) (List.forall_mem_cons.mpr ⟨rfl, List.forall_mem_cons.mpr ⟨rfl, List.forall_mem_cons.mpr ⟨rfl, List.forall_mem_cons.mpr ⟨rfl, List.forall_mem_cons.mpr ⟨rfl, List.forall_mem_cons.mpr ⟨rfl, fun _ h9 => nomatch h9⟩⟩⟩⟩⟩⟩) ?_
        exact next (j + 1) (by omega) _ (by omega) V3 _ sz2 (c1 + 1) (n1 + 6) (s_fit y (xs (6 * j + 1))) (hcu1.fr ha3 (Or.inl (Nat.le_refl _))) hmo3 (xw_fit hW) (by omega) (by omega)
      · exact absurd c_688 (by decide)
  · exact absurd rfl c_671
set_option maxRecDepth 100000 in
set_option maxHeartbeats 4000000 in
theorem lc_7 (hB : jB l s0 D) (hN : jN s0) {b N qx : Nat} {xs : Nat → Int32} (hXs : va_X b N xs s0 s0.heap) (hbs : b < s0.heap.size) (hN3 : N ≤ 3072) (hT1 : T (qx + 501) = some (kJ 1)) (hT2 : T (qx + 502) = some (kDb 1)) {j : Nat} {i : Int32} {V : jV} {X : jX} {sz c1 n1 : Nat} {y : aX} (hj : 6 * j + 6 ≤ N) (hi : i.toInt = ((6 * j : Nat) : Int)) (hcu : cuIs T V qx y) (hmo : moIs T V (qx + 492) y) (hW : xW y) (hc1 : c1 ≤ 600 + 5 * j) (hn1 : n1 ≤ 6000 + 30 * j)
    (next : ∀ (j' : Nat), (j < j' ∧ j' ≤ 512) → ∀ i : Int32, i.toInt = ((6 * (j' - 1) : Nat) : Int) → ∀ (V : jV) (X : jX) (sz c1 n1 : Nat) (y : aX), cuIs T V qx y → moIs T V (qx + 492) y → xW y → c1 ≤ 600 + 5 * j' → n1 ≤ 6000 + 30 * j' → J l s0 D kLaw room_1 616825 7245630 (fun o _ _ _ _ => o = .inl (some (.int 1))) 1727 [(0, .ref b), (1, .ref qx), (2, .ref (qx + 492)), (3, .ref (qx + 501)), (4, .ref (qx + 502)), (5, .int i)] [] T V X sz c1 n1) : J l s0 D kLaw room_1 616825 7245630 (fun o _ _ _ _ => o = .inl (some (.int 1))) 696 [(0, .ref b), (1, .ref qx), (2, .ref (qx + 492)), (3, .ref (qx + 501)), (4, .ref (qx + 502)), (5, .int i)] [] T V X sz c1 n1 := by
  refine j_aload_n dL_law_696 rfl ?_
  refine j_aload_n dL_law_697 rfl ?_
  refine j_iload dL_law_698 rfl ?_
  refine j_iconst (v := 1) dL_law_700 (by decide) ?_
  refine j_iadd dL_law_701 ?_
  refine j_sld (k := 6 * j + 1) dL_law_702 hXs hbs (ixk (iA (hi) (iC 1 (by decide)) (by omega)) (by omega)) (by omega) ?_
  refine j_aload_n dL_law_703 rfl ?_
  refine j_iload dL_law_704 rfl ?_
  refine j_iconst (v := 2) dL_law_706 (by decide) ?_
  refine j_iadd dL_law_707 ?_
  refine j_sld (k := 6 * j + 2) dL_law_708 hXs hbs (ixk (iA (hi) (iC 2 (by decide)) (by omega)) (by omega)) (by omega) ?_
  refine j_aload_n dL_law_709 rfl ?_
  refine j_callH dL_law_710 hB mo_L_set ml_L_122 (sp_L_set hB hN hcu hW hT1) rfl rfl ⟨rfl, rfl, by decide, by decide⟩ (Nat.le_of_ble_eq_true rfl) ⟨by show c1 + 2 ≤ 616825; omega, by show n1 + 12 ≤ 7245630; omega⟩ ?_ (by rintro E9 T9 V9 X9 sz9 ⟨k9, h9, -⟩; cases h9)
  rintro v9 T2 V2 X2 sz2 ⟨k1, h9, rfl, hz9, ha1, he1, hy1, hn1⟩
  cases h9
  have hmo1 := hmo.fr ha1 (Or.inr (Nat.le_refl _))
  refine j_istore (L' := [(0, _), (1, _), (2, _), (3, _), (4, _), (5, _), (6, _)]) dL_law_713 (by decide) rfl ?_
  refine j_aload_n dL_law_715 rfl ?_
  refine j_aload_n dL_law_716 rfl ?_
  refine j_iload dL_law_717 rfl ?_
  refine j_iconst (v := 1) dL_law_719 (by decide) ?_
  refine j_iadd dL_law_720 ?_
  refine j_sld (k := 6 * j + 1) dL_law_721 hXs hbs (ixk (iA (hi) (iC 1 (by decide)) (by omega)) (by omega)) (by omega) ?_
  refine j_aload_n dL_law_722 rfl ?_
  refine j_iload dL_law_723 rfl ?_
  refine j_iconst (v := 2) dL_law_725 (by decide) ?_
  refine j_iadd dL_law_726 ?_
  refine j_sld (k := 6 * j + 2) dL_law_727 hXs hbs (ixk (iA (hi) (iC 2 (by decide)) (by omega)) (by omega)) (by omega) ?_
  refine j_cVi dL_law_728 hB mo_X8_set ml_L_124 (sp_X8_set hB hmo1.1 hmo1 hW) hmo1.1.1 rfl rfl rfl rfl ⟨rfl, rfl, by decide, by decide⟩ (Nat.le_of_ble_eq_true rfl) ⟨by show c1 + 2 ≤ 616825; omega, by show n1 + 12 ≤ 7245630; omega⟩ (fun r2 V3 h3 => ?_)
  obtain ⟨ha3, he3, hy3, hn3⟩ := h3
  refine j_istore (L' := [(0, _), (1, _), (2, _), (3, _), (4, _), (5, _), (6, _), (7, _)]) dL_law_731 (by decide) rfl ?_
  refine j_aload_n dL_law_733 rfl ?_
  refine j_cVi dL_law_734 hB mo_X8_thrown ml_L_98 (sp_X8_thrown hB hmo1.1) hmo1.1.1 rfl rfl rfl rfl ⟨rfl, rfl, by decide, by decide⟩ (Nat.le_of_ble_eq_true rfl) ⟨by show c1 + 2 ≤ 616825; omega, by show n1 + 12 ≤ 7245630; omega⟩ (fun r4 V4 h4 => ?_)
  obtain ⟨rfl, h4⟩ := h4
  subst h4
  refine j_iload dL_law_737 rfl ?_
  refine m_icmp_eq (tgt := 744) dL_law_739 (by decide) (he3) (he1) (fun c_739 => ?_) (fun c_739 => ?_)
  · refine j_iload dL_law_744 rfl ?_
    refine m_if_ne (tgt := 761) dL_law_746 (by decide) (he1) (fun c_746 => ?_) (fun c_746 => ?_)
    · have e9 : ¬ (e_set (xs (6 * j + 1)) (xs (6 * j + 2))) = 0 := by omega
      obtain ⟨hcu1, rfl⟩ := hn1 e9
      have hmo3 := hn3 e9
      refine j_goto (tgt := 1727) dL_law_761 (by decide) ?_
      refine j_sub2 (L' := [(0, _), (1, _), (2, _), (3, _), (4, _), (5, _)]) (List.forall_mem_cons.mpr ⟨rfl, List.forall_mem_cons.mpr ⟨rfl, List.forall_mem_cons.mpr ⟨rfl, List.forall_mem_cons.mpr ⟨rfl, List.forall_mem_cons.mpr ⟨rfl, List.forall_mem_cons.mpr ⟨rfl, fun _ h9 => nomatch h9⟩⟩⟩⟩⟩⟩) ?_
      exact next (j + 1) (by omega) _ (by omega) V3 _ sz2 (c1 + 2) (n1 + 12) y (hcu1.fr ha3 (Or.inl (Nat.le_refl _))) hmo3 hW (by omega) (by omega)
    · have e9 : (e_set (xs (6 * j + 1)) (xs (6 * j + 2))) = 0 := by omega
      obtain ⟨hcu1, r1, rfl, hr1⟩ := hy1 e9
      obtain ⟨hr3, hmo3⟩ := hy3 e9
      have hrr : r2 = r1 := ti_inj (Eq.trans hr3 (Eq.symm hr1))
      subst hrr
      refine j_aload_n dL_law_749 rfl ?_
      refine j_iconst (v := 0) dL_law_750 (by decide) ?_
      refine j_lald dL_law_751 hB (hT1) (by decide) (by decide) ?_
      refine j_iload dL_law_752 rfl ?_
      refine j_i2l dL_law_754 ?_
      refine j_lcmp dL_law_755 ?_
      rw [show (jset X.1 (qx + 501) 0 r2.toInt64, X.2).1 (qx + 501) (0 : Int32).toNatClampNeg = r2.toInt64 from jset_eq, lg_self]
      refine m_if_eq (tgt := 761) dL_law_756 (by decide) (iC 0 (by decide)) (fun c_756 => ?_) (fun c_756 => ?_)
      · refine j_goto (tgt := 1727) dL_law_761 (by decide) ?_
        refine j_sub2 (L' := [(0, _), (1, _), (2, _), (3, _), (4, _), (5, _)]) (List.forall_mem_cons.mpr ⟨rfl, List.forall_mem_cons.mpr ⟨rfl, List.forall_mem_cons.mpr ⟨rfl, List.forall_mem_cons.mpr ⟨rfl, List.forall_mem_cons.mpr ⟨rfl, List.forall_mem_cons.mpr ⟨rfl, fun _ h9 => nomatch h9⟩⟩⟩⟩⟩⟩) ?_
        exact next (j + 1) (by omega) _ (by omega) V3 _ sz2 (c1 + 2) (n1 + 12) (s_set y (xs (6 * j + 1)) (xs (6 * j + 2))) (hcu1.fr ha3 (Or.inl (Nat.le_refl _))) hmo3 (xw_set hW e9) (by omega) (by omega)
      · exact absurd c_756 (by decide)
  · exact absurd rfl c_739
set_option maxRecDepth 100000 in
set_option maxHeartbeats 4000000 in
theorem lc_8 (hB : jB l s0 D) (hN : jN s0) {b N qx : Nat} {xs : Nat → Int32} (hXs : va_X b N xs s0 s0.heap) (hbs : b < s0.heap.size) (hN3 : N ≤ 3072) (hT1 : T (qx + 501) = some (kJ 1)) (hT2 : T (qx + 502) = some (kDb 1)) {j : Nat} {i : Int32} {V : jV} {X : jX} {sz c1 n1 : Nat} {y : aX} (hj : 6 * j + 6 ≤ N) (hi : i.toInt = ((6 * j : Nat) : Int)) (hcu : cuIs T V qx y) (hmo : moIs T V (qx + 492) y) (hW : xW y) (hc1 : c1 ≤ 600 + 5 * j) (hn1 : n1 ≤ 6000 + 30 * j)
    (next : ∀ (j' : Nat), (j < j' ∧ j' ≤ 512) → ∀ i : Int32, i.toInt = ((6 * (j' - 1) : Nat) : Int) → ∀ (V : jV) (X : jX) (sz c1 n1 : Nat) (y : aX), cuIs T V qx y → moIs T V (qx + 492) y → xW y → c1 ≤ 600 + 5 * j' → n1 ≤ 6000 + 30 * j' → J l s0 D kLaw room_1 616825 7245630 (fun o _ _ _ _ => o = .inl (some (.int 1))) 1727 [(0, .ref b), (1, .ref qx), (2, .ref (qx + 492)), (3, .ref (qx + 501)), (4, .ref (qx + 502)), (5, .int i)] [] T V X sz c1 n1) : J l s0 D kLaw room_1 616825 7245630 (fun o _ _ _ _ => o = .inl (some (.int 1))) 764 [(0, .ref b), (1, .ref qx), (2, .ref (qx + 492)), (3, .ref (qx + 501)), (4, .ref (qx + 502)), (5, .int i)] [] T V X sz c1 n1 := by
  refine j_aload_n dL_law_764 rfl ?_
  refine j_aload_n dL_law_765 rfl ?_
  refine j_iload dL_law_766 rfl ?_
  refine j_iconst (v := 1) dL_law_768 (by decide) ?_
  refine j_iadd dL_law_769 ?_
  refine j_sld (k := 6 * j + 1) dL_law_770 hXs hbs (ixk (iA (hi) (iC 1 (by decide)) (by omega)) (by omega)) (by omega) ?_
  refine j_aload_n dL_law_771 rfl ?_
  refine j_callH dL_law_772 hB mo_L_append ml_L_125 (sp_L_append hB hN hcu hW hT1) rfl rfl ⟨rfl, rfl, by decide, by decide⟩ (Nat.le_of_ble_eq_true rfl) ⟨by show c1 + 2 ≤ 616825; omega, by show n1 + 12 ≤ 7245630; omega⟩ ?_ (by rintro E9 T9 V9 X9 sz9 ⟨k9, h9, -⟩; cases h9)
  rintro v9 T2 V2 X2 sz2 ⟨k1, h9, rfl, hz9, ha1, he1, hy1, hn1⟩
  cases h9
  have hmo1 := hmo.fr ha1 (Or.inr (Nat.le_refl _))
  refine j_istore (L' := [(0, _), (1, _), (2, _), (3, _), (4, _), (5, _), (6, _)]) dL_law_775 (by decide) rfl ?_
  refine j_aload_n dL_law_777 rfl ?_
  refine j_aload_n dL_law_778 rfl ?_
  refine j_iload dL_law_779 rfl ?_
  refine j_iconst (v := 1) dL_law_781 (by decide) ?_
  refine j_iadd dL_law_782 ?_
  refine j_sld (k := 6 * j + 1) dL_law_783 hXs hbs (ixk (iA (hi) (iC 1 (by decide)) (by omega)) (by omega)) (by omega) ?_
  refine j_cVi dL_law_784 hB mo_X8_append ml_L_127 (sp_X8_append hB hmo1.1 hmo1 hW) hmo1.1.1 rfl rfl rfl rfl ⟨rfl, rfl, by decide, by decide⟩ (Nat.le_of_ble_eq_true rfl) ⟨by show c1 + 2 ≤ 616825; omega, by show n1 + 12 ≤ 7245630; omega⟩ (fun r2 V3 h3 => ?_)
  obtain ⟨ha3, he3, hy3, hn3⟩ := h3
  refine j_istore (L' := [(0, _), (1, _), (2, _), (3, _), (4, _), (5, _), (6, _), (7, _)]) dL_law_787 (by decide) rfl ?_
  refine j_aload_n dL_law_789 rfl ?_
  refine j_cVi dL_law_790 hB mo_X8_thrown ml_L_98 (sp_X8_thrown hB hmo1.1) hmo1.1.1 rfl rfl rfl rfl ⟨rfl, rfl, by decide, by decide⟩ (Nat.le_of_ble_eq_true rfl) ⟨by show c1 + 2 ≤ 616825; omega, by show n1 + 12 ≤ 7245630; omega⟩ (fun r4 V4 h4 => ?_)
  obtain ⟨rfl, h4⟩ := h4
  subst h4
  refine j_iload dL_law_793 rfl ?_
  refine m_icmp_eq (tgt := 800) dL_law_795 (by decide) (he3) (he1) (fun c_795 => ?_) (fun c_795 => ?_)
  · refine j_iload dL_law_800 rfl ?_
    refine m_if_ne (tgt := 817) dL_law_802 (by decide) (he1) (fun c_802 => ?_) (fun c_802 => ?_)
    · have e9 : ¬ (e_app y (xs (6 * j + 1))) = 0 := by omega
      obtain ⟨hcu1, rfl⟩ := hn1 e9
      have hmo3 := hn3 e9
      refine j_goto (tgt := 1727) dL_law_817 (by decide) ?_
      refine j_sub2 (L' := [(0, _), (1, _), (2, _), (3, _), (4, _), (5, _)]) (List.forall_mem_cons.mpr ⟨rfl, List.forall_mem_cons.mpr ⟨rfl, List.forall_mem_cons.mpr ⟨rfl, List.forall_mem_cons.mpr ⟨rfl, List.forall_mem_cons.mpr ⟨rfl, List.forall_mem_cons.mpr ⟨rfl, fun _ h9 => nomatch h9⟩⟩⟩⟩⟩⟩) ?_
      exact next (j + 1) (by omega) _ (by omega) V3 _ sz2 (c1 + 2) (n1 + 12) y (hcu1.fr ha3 (Or.inl (Nat.le_refl _))) hmo3 hW (by omega) (by omega)
    · have e9 : (e_app y (xs (6 * j + 1))) = 0 := by omega
      obtain ⟨hcu1, r1, rfl, hr1⟩ := hy1 e9
      obtain ⟨hr3, hmo3⟩ := hy3 e9
      have hrr : r2 = r1 := ti_inj (Eq.trans hr3 (Eq.symm hr1))
      subst hrr
      refine j_aload_n dL_law_805 rfl ?_
      refine j_iconst (v := 0) dL_law_806 (by decide) ?_
      refine j_lald dL_law_807 hB (hT1) (by decide) (by decide) ?_
      refine j_iload dL_law_808 rfl ?_
      refine j_i2l dL_law_810 ?_
      refine j_lcmp dL_law_811 ?_
      rw [show (jset X.1 (qx + 501) 0 r2.toInt64, X.2).1 (qx + 501) (0 : Int32).toNatClampNeg = r2.toInt64 from jset_eq, lg_self]
      refine m_if_eq (tgt := 817) dL_law_812 (by decide) (iC 0 (by decide)) (fun c_812 => ?_) (fun c_812 => ?_)
      · refine j_goto (tgt := 1727) dL_law_817 (by decide) ?_
        refine j_sub2 (L' := [(0, _), (1, _), (2, _), (3, _), (4, _), (5, _)]) (List.forall_mem_cons.mpr ⟨rfl, List.forall_mem_cons.mpr ⟨rfl, List.forall_mem_cons.mpr ⟨rfl, List.forall_mem_cons.mpr ⟨rfl, List.forall_mem_cons.mpr ⟨rfl, List.forall_mem_cons.mpr ⟨rfl, fun _ h9 => nomatch h9⟩⟩⟩⟩⟩⟩) ?_
        exact next (j + 1) (by omega) _ (by omega) V3 _ sz2 (c1 + 2) (n1 + 12) (s_app y (xs (6 * j + 1))) (hcu1.fr ha3 (Or.inl (Nat.le_refl _))) hmo3 (xw_app hW e9) (by omega) (by omega)
      · exact absurd c_812 (by decide)
  · exact absurd rfl c_795
set_option maxRecDepth 100000 in
set_option maxHeartbeats 4000000 in
theorem lc_9 (hB : jB l s0 D) (hN : jN s0) {b N qx : Nat} {xs : Nat → Int32} (hXs : va_X b N xs s0 s0.heap) (hbs : b < s0.heap.size) (hN3 : N ≤ 3072) (hT1 : T (qx + 501) = some (kJ 1)) (hT2 : T (qx + 502) = some (kDb 1)) {j : Nat} {i : Int32} {V : jV} {X : jX} {sz c1 n1 : Nat} {y : aX} (hj : 6 * j + 6 ≤ N) (hi : i.toInt = ((6 * j : Nat) : Int)) (hcu : cuIs T V qx y) (hmo : moIs T V (qx + 492) y) (hW : xW y) (hc1 : c1 ≤ 600 + 5 * j) (hn1 : n1 ≤ 6000 + 30 * j)
    (next : ∀ (j' : Nat), (j < j' ∧ j' ≤ 512) → ∀ i : Int32, i.toInt = ((6 * (j' - 1) : Nat) : Int) → ∀ (V : jV) (X : jX) (sz c1 n1 : Nat) (y : aX), cuIs T V qx y → moIs T V (qx + 492) y → xW y → c1 ≤ 600 + 5 * j' → n1 ≤ 6000 + 30 * j' → J l s0 D kLaw room_1 616825 7245630 (fun o _ _ _ _ => o = .inl (some (.int 1))) 1727 [(0, .ref b), (1, .ref qx), (2, .ref (qx + 492)), (3, .ref (qx + 501)), (4, .ref (qx + 502)), (5, .int i)] [] T V X sz c1 n1) : J l s0 D kLaw room_1 616825 7245630 (fun o _ _ _ _ => o = .inl (some (.int 1))) 820 [(0, .ref b), (1, .ref qx), (2, .ref (qx + 492)), (3, .ref (qx + 501)), (4, .ref (qx + 502)), (5, .int i)] [] T V X sz c1 n1 := by
  refine j_aload_n dL_law_820 rfl ?_
  refine j_callV dL_law_821 hB mo_X7_clearBuffer ml_L_128 (sp_X7_clearBuffer hB hcu hW) hcu.k rfl rfl rfl rfl ⟨rfl, rfl, by decide, by decide⟩ (Nat.le_of_ble_eq_true rfl) ⟨by show c1 + 0 ≤ 616825; omega, by show n1 + 0 ≤ 7245630; omega⟩ ?_ (by rintro E9 T9 V9 X9 sz9 ⟨rfl, rfl, -, ⟨v9, h9, -⟩ | ⟨E8, k9, h9, h8, h7, -⟩⟩; (cases h9); cases h7)
  rintro v9 T2 V2 X2 sz2 ⟨rfl, rfl, ha1, ⟨v8, h9, rfl, -, hv1, hcu1⟩ | ⟨E8, k9, h9, -⟩⟩
  rotate_left
  · cases h9
  cases h9
  obtain ⟨r1, rfl, hr1⟩ := hv1
  have hmo1 := hmo.fr ha1 (Or.inr (Nat.le_refl _))
  refine j_aload_n dL_law_824 rfl ?_
  refine j_cVi dL_law_825 hB mo_X8_clearBuffer ml_L_131 (sp_X8_clearBuffer hB hmo1.1 hmo1 hW) hmo1.1.1 rfl rfl rfl rfl ⟨rfl, rfl, by decide, by decide⟩ (Nat.le_of_ble_eq_true rfl) ⟨by show c1 + 0 ≤ 616825; omega, by show n1 + 0 ≤ 7245630; omega⟩ (fun r2 V3 h3 => ?_)
  obtain ⟨ha3, he3, hy3, -⟩ := h3
  obtain ⟨hr3, hmo3⟩ := hy3 rfl
  refine m_icmp_eq (tgt := 1727) dL_law_828 (by decide) (hr1) (hr3) (fun c_828 => ?_) (fun c_828 => ?_)
  · exact next (j + 1) (by omega) _ (by omega) V3 _ _ (c1 + 0) (n1 + 0) (s_clr y) (hcu1.fr ha3 (Or.inl (Nat.le_refl _))) hmo3 (xw_clr hW) (by omega) (by omega)
  · exact absurd rfl c_828
set_option maxRecDepth 100000 in
set_option maxHeartbeats 4000000 in
theorem lc_10 (hB : jB l s0 D) (hN : jN s0) {b N qx : Nat} {xs : Nat → Int32} (hXs : va_X b N xs s0 s0.heap) (hbs : b < s0.heap.size) (hN3 : N ≤ 3072) (hT1 : T (qx + 501) = some (kJ 1)) (hT2 : T (qx + 502) = some (kDb 1)) {j : Nat} {i : Int32} {V : jV} {X : jX} {sz c1 n1 : Nat} {y : aX} (hj : 6 * j + 6 ≤ N) (hi : i.toInt = ((6 * j : Nat) : Int)) (hcu : cuIs T V qx y) (hmo : moIs T V (qx + 492) y) (hW : xW y) (hc1 : c1 ≤ 600 + 5 * j) (hn1 : n1 ≤ 6000 + 30 * j)
    (next : ∀ (j' : Nat), (j < j' ∧ j' ≤ 512) → ∀ i : Int32, i.toInt = ((6 * (j' - 1) : Nat) : Int) → ∀ (V : jV) (X : jX) (sz c1 n1 : Nat) (y : aX), cuIs T V qx y → moIs T V (qx + 492) y → xW y → c1 ≤ 600 + 5 * j' → n1 ≤ 6000 + 30 * j' → J l s0 D kLaw room_1 616825 7245630 (fun o _ _ _ _ => o = .inl (some (.int 1))) 1727 [(0, .ref b), (1, .ref qx), (2, .ref (qx + 492)), (3, .ref (qx + 501)), (4, .ref (qx + 502)), (5, .int i)] [] T V X sz c1 n1) : J l s0 D kLaw room_1 616825 7245630 (fun o _ _ _ _ => o = .inl (some (.int 1))) 833 [(0, .ref b), (1, .ref qx), (2, .ref (qx + 492)), (3, .ref (qx + 501)), (4, .ref (qx + 502)), (5, .int i)] [] T V X sz c1 n1 := by
  refine j_aload_n dL_law_833 rfl ?_
  refine j_callV dL_law_834 hB mo_X7_firstError ml_L_132 (sp_X7_firstError hB hcu hW) hcu.k rfl rfl rfl rfl ⟨rfl, rfl, by decide, by decide⟩ (Nat.le_of_ble_eq_true rfl) ⟨by show c1 + 0 ≤ 616825; omega, by show n1 + 0 ≤ 7245630; omega⟩ ?_ (by rintro E9 T9 V9 X9 sz9 ⟨rfl, rfl, -, ⟨v9, h9, -⟩ | ⟨E8, k9, h9, h8, h7, -⟩⟩; (cases h9); cases h7)
  rintro v9 T2 V2 X2 sz2 ⟨rfl, rfl, ha1, ⟨v8, h9, rfl, -, hv1, hcu1⟩ | ⟨E8, k9, h9, -⟩⟩
  rotate_left
  · cases h9
  cases h9
  obtain ⟨r1, rfl, hr1⟩ := hv1
  have hmo1 := hmo.fr ha1 (Or.inr (Nat.le_refl _))
  refine j_aload_n dL_law_837 rfl ?_
  refine j_cVi dL_law_838 hB mo_X8_firstError ml_L_135 (sp_X8_firstError hB hmo1.1 hmo1 hW) hmo1.1.1 rfl rfl rfl rfl ⟨rfl, rfl, by decide, by decide⟩ (Nat.le_of_ble_eq_true rfl) ⟨by show c1 + 0 ≤ 616825; omega, by show n1 + 0 ≤ 7245630; omega⟩ (fun r2 V3 h3 => ?_)
  obtain ⟨ha3, he3, hy3, -⟩ := h3
  obtain ⟨hr3, hmo3⟩ := hy3 rfl
  refine m_icmp_eq (tgt := 1727) dL_law_841 (by decide) (hr1) (hr3) (fun c_841 => ?_) (fun c_841 => ?_)
  · exact next (j + 1) (by omega) _ (by omega) V3 _ _ (c1 + 0) (n1 + 0) y (hcu1.fr ha3 (Or.inl (Nat.le_refl _))) hmo3 hW (by omega) (by omega)
  · exact absurd rfl c_841
set_option maxRecDepth 100000 in
set_option maxHeartbeats 4000000 in
theorem lc_11 (hB : jB l s0 D) (hN : jN s0) {b N qx : Nat} {xs : Nat → Int32} (hXs : va_X b N xs s0 s0.heap) (hbs : b < s0.heap.size) (hN3 : N ≤ 3072) (hT1 : T (qx + 501) = some (kJ 1)) (hT2 : T (qx + 502) = some (kDb 1)) {j : Nat} {i : Int32} {V : jV} {X : jX} {sz c1 n1 : Nat} {y : aX} (hj : 6 * j + 6 ≤ N) (hi : i.toInt = ((6 * j : Nat) : Int)) (hcu : cuIs T V qx y) (hmo : moIs T V (qx + 492) y) (hW : xW y) (hc1 : c1 ≤ 600 + 5 * j) (hn1 : n1 ≤ 6000 + 30 * j)
    (next : ∀ (j' : Nat), (j < j' ∧ j' ≤ 512) → ∀ i : Int32, i.toInt = ((6 * (j' - 1) : Nat) : Int) → ∀ (V : jV) (X : jX) (sz c1 n1 : Nat) (y : aX), cuIs T V qx y → moIs T V (qx + 492) y → xW y → c1 ≤ 600 + 5 * j' → n1 ≤ 6000 + 30 * j' → J l s0 D kLaw room_1 616825 7245630 (fun o _ _ _ _ => o = .inl (some (.int 1))) 1727 [(0, .ref b), (1, .ref qx), (2, .ref (qx + 492)), (3, .ref (qx + 501)), (4, .ref (qx + 502)), (5, .int i)] [] T V X sz c1 n1) : J l s0 D kLaw room_1 616825 7245630 (fun o _ _ _ _ => o = .inl (some (.int 1))) 846 [(0, .ref b), (1, .ref qx), (2, .ref (qx + 492)), (3, .ref (qx + 501)), (4, .ref (qx + 502)), (5, .int i)] [] T V X sz c1 n1 := by
  refine j_aload_n dL_law_846 rfl ?_
  refine j_aload_n dL_law_847 rfl ?_
  refine j_iload dL_law_848 rfl ?_
  refine j_iconst (v := 1) dL_law_850 (by decide) ?_
  refine j_iadd dL_law_851 ?_
  refine j_sld (k := 6 * j + 1) dL_law_852 hXs hbs (ixk (iA (hi) (iC 1 (by decide)) (by omega)) (by omega)) (by omega) ?_
  refine j_aload_n dL_law_853 rfl ?_
  refine j_callH dL_law_854 hB mo_L_load ml_L_136 (sp_L_load hB hN hcu hW hT1) rfl rfl ⟨rfl, rfl, by decide, by decide⟩ (Nat.le_of_ble_eq_true rfl) ⟨by show c1 + 3 ≤ 616825; omega, by show n1 + 18 ≤ 7245630; omega⟩ ?_ (by rintro E9 T9 V9 X9 sz9 ⟨k9, h9, -⟩; cases h9)
  rintro v9 T2 V2 X2 sz2 ⟨k1, h9, rfl, hz9, ha1, he1, hy1, hn1⟩
  cases h9
  have hmo1 := hmo.fr ha1 (Or.inr (Nat.le_refl _))
  refine j_istore (L' := [(0, _), (1, _), (2, _), (3, _), (4, _), (5, _), (6, _)]) dL_law_857 (by decide) rfl ?_
  refine j_aload_n dL_law_859 rfl ?_
  refine j_aload_n dL_law_860 rfl ?_
  refine j_iload dL_law_861 rfl ?_
  refine j_iconst (v := 1) dL_law_863 (by decide) ?_
  refine j_iadd dL_law_864 ?_
  refine j_sld (k := 6 * j + 1) dL_law_865 hXs hbs (ixk (iA (hi) (iC 1 (by decide)) (by omega)) (by omega)) (by omega) ?_
  refine j_cVi dL_law_866 hB mo_X8_load ml_L_138 (sp_X8_load hB hmo1.1 hmo1 hW) hmo1.1.1 rfl rfl rfl rfl ⟨rfl, rfl, by decide, by decide⟩ (Nat.le_of_ble_eq_true rfl) ⟨by show c1 + 3 ≤ 616825; omega, by show n1 + 18 ≤ 7245630; omega⟩ (fun r2 V3 h3 => ?_)
  obtain ⟨ha3, he3, hy3, hn3⟩ := h3
  refine j_istore (L' := [(0, _), (1, _), (2, _), (3, _), (4, _), (5, _), (6, _), (7, _)]) dL_law_869 (by decide) rfl ?_
  refine j_aload_n dL_law_871 rfl ?_
  refine j_cVi dL_law_872 hB mo_X8_thrown ml_L_98 (sp_X8_thrown hB hmo1.1) hmo1.1.1 rfl rfl rfl rfl ⟨rfl, rfl, by decide, by decide⟩ (Nat.le_of_ble_eq_true rfl) ⟨by show c1 + 3 ≤ 616825; omega, by show n1 + 18 ≤ 7245630; omega⟩ (fun r4 V4 h4 => ?_)
  obtain ⟨rfl, h4⟩ := h4
  subst h4
  refine j_iload dL_law_875 rfl ?_
  refine m_icmp_eq (tgt := 882) dL_law_877 (by decide) (he3) (he1) (fun c_877 => ?_) (fun c_877 => ?_)
  · refine j_iload dL_law_882 rfl ?_
    refine m_if_ne (tgt := 899) dL_law_884 (by decide) (he1) (fun c_884 => ?_) (fun c_884 => ?_)
    · have e9 : ¬ (e_load y (xs (6 * j + 1))) = 0 := by omega
      obtain ⟨hcu1, rfl⟩ := hn1 e9
      have hmo3 := hn3 e9
      refine j_goto (tgt := 1727) dL_law_899 (by decide) ?_
      refine j_sub2 (L' := [(0, _), (1, _), (2, _), (3, _), (4, _), (5, _)]) (List.forall_mem_cons.mpr ⟨rfl, List.forall_mem_cons.mpr ⟨rfl, List.forall_mem_cons.mpr ⟨rfl, List.forall_mem_cons.mpr ⟨rfl, List.forall_mem_cons.mpr ⟨rfl, List.forall_mem_cons.mpr ⟨rfl, fun _ h9 => nomatch h9⟩⟩⟩⟩⟩⟩) ?_
      exact next (j + 1) (by omega) _ (by omega) V3 _ sz2 (c1 + 3) (n1 + 18) y (hcu1.fr ha3 (Or.inl (Nat.le_refl _))) hmo3 hW (by omega) (by omega)
    · have e9 : (e_load y (xs (6 * j + 1))) = 0 := by omega
      obtain ⟨hcu1, r1, rfl, hr1⟩ := hy1 e9
      obtain ⟨hr3, hmo3⟩ := hy3 e9
      have hrr : r2 = r1 := ti_inj (Eq.trans hr3 (Eq.symm hr1))
      subst hrr
      refine j_aload_n dL_law_887 rfl ?_
      refine j_iconst (v := 0) dL_law_888 (by decide) ?_
      refine j_lald dL_law_889 hB (hT1) (by decide) (by decide) ?_
      refine j_iload dL_law_890 rfl ?_
      refine j_i2l dL_law_892 ?_
      refine j_lcmp dL_law_893 ?_
      rw [show (jset X.1 (qx + 501) 0 r2.toInt64, X.2).1 (qx + 501) (0 : Int32).toNatClampNeg = r2.toInt64 from jset_eq, lg_self]
      refine m_if_eq (tgt := 899) dL_law_894 (by decide) (iC 0 (by decide)) (fun c_894 => ?_) (fun c_894 => ?_)
      · refine j_goto (tgt := 1727) dL_law_899 (by decide) ?_
        refine j_sub2 (L' := [(0, _), (1, _), (2, _), (3, _), (4, _), (5, _)]) (List.forall_mem_cons.mpr ⟨rfl, List.forall_mem_cons.mpr ⟨rfl, List.forall_mem_cons.mpr ⟨rfl, List.forall_mem_cons.mpr ⟨rfl, List.forall_mem_cons.mpr ⟨rfl, List.forall_mem_cons.mpr ⟨rfl, fun _ h9 => nomatch h9⟩⟩⟩⟩⟩⟩) ?_
        exact next (j + 1) (by omega) _ (by omega) V3 _ sz2 (c1 + 3) (n1 + 18) (s_load y (xs (6 * j + 1))) (hcu1.fr ha3 (Or.inl (Nat.le_refl _))) hmo3 (xw_load hW e9) (by omega) (by omega)
      · exact absurd c_894 (by decide)
  · exact absurd rfl c_877
set_option maxRecDepth 100000 in
set_option maxHeartbeats 4000000 in
theorem lc_12 (hB : jB l s0 D) (hN : jN s0) {b N qx : Nat} {xs : Nat → Int32} (hXs : va_X b N xs s0 s0.heap) (hbs : b < s0.heap.size) (hN3 : N ≤ 3072) (hT1 : T (qx + 501) = some (kJ 1)) (hT2 : T (qx + 502) = some (kDb 1)) {j : Nat} {i : Int32} {V : jV} {X : jX} {sz c1 n1 : Nat} {y : aX} (hj : 6 * j + 6 ≤ N) (hi : i.toInt = ((6 * j : Nat) : Int)) (hcu : cuIs T V qx y) (hmo : moIs T V (qx + 492) y) (hW : xW y) (hc1 : c1 ≤ 600 + 5 * j) (hn1 : n1 ≤ 6000 + 30 * j)
    (next : ∀ (j' : Nat), (j < j' ∧ j' ≤ 512) → ∀ i : Int32, i.toInt = ((6 * (j' - 1) : Nat) : Int) → ∀ (V : jV) (X : jX) (sz c1 n1 : Nat) (y : aX), cuIs T V qx y → moIs T V (qx + 492) y → xW y → c1 ≤ 600 + 5 * j' → n1 ≤ 6000 + 30 * j' → J l s0 D kLaw room_1 616825 7245630 (fun o _ _ _ _ => o = .inl (some (.int 1))) 1727 [(0, .ref b), (1, .ref qx), (2, .ref (qx + 492)), (3, .ref (qx + 501)), (4, .ref (qx + 502)), (5, .int i)] [] T V X sz c1 n1) : J l s0 D kLaw room_1 616825 7245630 (fun o _ _ _ _ => o = .inl (some (.int 1))) 902 [(0, .ref b), (1, .ref qx), (2, .ref (qx + 492)), (3, .ref (qx + 501)), (4, .ref (qx + 502)), (5, .int i)] [] T V X sz c1 n1 := by
  refine j_aload_n dL_law_902 rfl ?_
  refine j_aload_n dL_law_903 rfl ?_
  refine j_callH dL_law_904 hB mo_L_undo ml_L_139 (sp_L_undo hB hN hcu hW hT1) rfl rfl ⟨rfl, rfl, by decide, by decide⟩ (Nat.le_of_ble_eq_true rfl) ⟨by show c1 + 1 ≤ 616825; omega, by show n1 + 6 ≤ 7245630; omega⟩ ?_ (by rintro E9 T9 V9 X9 sz9 ⟨k9, h9, -⟩; cases h9)
  rintro v9 T2 V2 X2 sz2 ⟨k1, h9, rfl, hz9, ha1, he1, hy1, hn1⟩
  cases h9
  have hmo1 := hmo.fr ha1 (Or.inr (Nat.le_refl _))
  refine j_istore (L' := [(0, _), (1, _), (2, _), (3, _), (4, _), (5, _), (6, _)]) dL_law_907 (by decide) rfl ?_
  refine j_aload_n dL_law_909 rfl ?_
  refine j_cVi dL_law_910 hB mo_X8_undo ml_L_142 (sp_X8_undo hB hmo1.1 hmo1 hW) hmo1.1.1 rfl rfl rfl rfl ⟨rfl, rfl, by decide, by decide⟩ (Nat.le_of_ble_eq_true rfl) ⟨by show c1 + 1 ≤ 616825; omega, by show n1 + 6 ≤ 7245630; omega⟩ (fun r2 V3 h3 => ?_)
  obtain ⟨ha3, he3, hy3, hn3⟩ := h3
  refine j_istore (L' := [(0, _), (1, _), (2, _), (3, _), (4, _), (5, _), (6, _), (7, _)]) dL_law_913 (by decide) rfl ?_
  refine j_aload_n dL_law_915 rfl ?_
  refine j_cVi dL_law_916 hB mo_X8_thrown ml_L_98 (sp_X8_thrown hB hmo1.1) hmo1.1.1 rfl rfl rfl rfl ⟨rfl, rfl, by decide, by decide⟩ (Nat.le_of_ble_eq_true rfl) ⟨by show c1 + 1 ≤ 616825; omega, by show n1 + 6 ≤ 7245630; omega⟩ (fun r4 V4 h4 => ?_)
  obtain ⟨rfl, h4⟩ := h4
  subst h4
  refine j_iload dL_law_919 rfl ?_
  refine m_icmp_eq (tgt := 926) dL_law_921 (by decide) (he3) (he1) (fun c_921 => ?_) (fun c_921 => ?_)
  · refine j_iload dL_law_926 rfl ?_
    refine m_if_ne (tgt := 943) dL_law_928 (by decide) (he1) (fun c_928 => ?_) (fun c_928 => ?_)
    · have e9 : ¬ (e_undo y) = 0 := by omega
      obtain ⟨hcu1, rfl⟩ := hn1 e9
      have hmo3 := hn3 e9
      refine j_goto (tgt := 1727) dL_law_943 (by decide) ?_
      refine j_sub2 (L' := [(0, _), (1, _), (2, _), (3, _), (4, _), (5, _)]) (List.forall_mem_cons.mpr ⟨rfl, List.forall_mem_cons.mpr ⟨rfl, List.forall_mem_cons.mpr ⟨rfl, List.forall_mem_cons.mpr ⟨rfl, List.forall_mem_cons.mpr ⟨rfl, List.forall_mem_cons.mpr ⟨rfl, fun _ h9 => nomatch h9⟩⟩⟩⟩⟩⟩) ?_
      exact next (j + 1) (by omega) _ (by omega) V3 _ sz2 (c1 + 1) (n1 + 6) y (hcu1.fr ha3 (Or.inl (Nat.le_refl _))) hmo3 hW (by omega) (by omega)
    · have e9 : (e_undo y) = 0 := by omega
      obtain ⟨hcu1, r1, rfl, hr1⟩ := hy1 e9
      obtain ⟨hr3, hmo3⟩ := hy3 e9
      have hrr : r2 = r1 := ti_inj (Eq.trans hr3 (Eq.symm hr1))
      subst hrr
      refine j_aload_n dL_law_931 rfl ?_
      refine j_iconst (v := 0) dL_law_932 (by decide) ?_
      refine j_lald dL_law_933 hB (hT1) (by decide) (by decide) ?_
      refine j_iload dL_law_934 rfl ?_
      refine j_i2l dL_law_936 ?_
      refine j_lcmp dL_law_937 ?_
      rw [show (jset X.1 (qx + 501) 0 r2.toInt64, X.2).1 (qx + 501) (0 : Int32).toNatClampNeg = r2.toInt64 from jset_eq, lg_self]
      refine m_if_eq (tgt := 943) dL_law_938 (by decide) (iC 0 (by decide)) (fun c_938 => ?_) (fun c_938 => ?_)
      · refine j_goto (tgt := 1727) dL_law_943 (by decide) ?_
        refine j_sub2 (L' := [(0, _), (1, _), (2, _), (3, _), (4, _), (5, _)]) (List.forall_mem_cons.mpr ⟨rfl, List.forall_mem_cons.mpr ⟨rfl, List.forall_mem_cons.mpr ⟨rfl, List.forall_mem_cons.mpr ⟨rfl, List.forall_mem_cons.mpr ⟨rfl, List.forall_mem_cons.mpr ⟨rfl, fun _ h9 => nomatch h9⟩⟩⟩⟩⟩⟩) ?_
        exact next (j + 1) (by omega) _ (by omega) V3 _ sz2 (c1 + 1) (n1 + 6) (s_undo y) (hcu1.fr ha3 (Or.inl (Nat.le_refl _))) hmo3 (xw_undo hW e9) (by omega) (by omega)
      · exact absurd c_938 (by decide)
  · exact absurd rfl c_921
set_option maxRecDepth 100000 in
set_option maxHeartbeats 4000000 in
theorem lc_13 (hB : jB l s0 D) (hN : jN s0) {b N qx : Nat} {xs : Nat → Int32} (hXs : va_X b N xs s0 s0.heap) (hbs : b < s0.heap.size) (hN3 : N ≤ 3072) (hT1 : T (qx + 501) = some (kJ 1)) (hT2 : T (qx + 502) = some (kDb 1)) {j : Nat} {i : Int32} {V : jV} {X : jX} {sz c1 n1 : Nat} {y : aX} (hj : 6 * j + 6 ≤ N) (hi : i.toInt = ((6 * j : Nat) : Int)) (hcu : cuIs T V qx y) (hmo : moIs T V (qx + 492) y) (hW : xW y) (hc1 : c1 ≤ 600 + 5 * j) (hn1 : n1 ≤ 6000 + 30 * j)
    (next : ∀ (j' : Nat), (j < j' ∧ j' ≤ 512) → ∀ i : Int32, i.toInt = ((6 * (j' - 1) : Nat) : Int) → ∀ (V : jV) (X : jX) (sz c1 n1 : Nat) (y : aX), cuIs T V qx y → moIs T V (qx + 492) y → xW y → c1 ≤ 600 + 5 * j' → n1 ≤ 6000 + 30 * j' → J l s0 D kLaw room_1 616825 7245630 (fun o _ _ _ _ => o = .inl (some (.int 1))) 1727 [(0, .ref b), (1, .ref qx), (2, .ref (qx + 492)), (3, .ref (qx + 501)), (4, .ref (qx + 502)), (5, .int i)] [] T V X sz c1 n1) : J l s0 D kLaw room_1 616825 7245630 (fun o _ _ _ _ => o = .inl (some (.int 1))) 946 [(0, .ref b), (1, .ref qx), (2, .ref (qx + 492)), (3, .ref (qx + 501)), (4, .ref (qx + 502)), (5, .int i)] [] T V X sz c1 n1 := by
  refine j_aload_n dL_law_946 rfl ?_
  refine j_aload_n dL_law_947 rfl ?_
  refine j_iload dL_law_948 rfl ?_
  refine j_iconst (v := 1) dL_law_950 (by decide) ?_
  refine j_iadd dL_law_951 ?_
  refine j_sld (k := 6 * j + 1) dL_law_952 hXs hbs (ixk (iA (hi) (iC 1 (by decide)) (by omega)) (by omega)) (by omega) ?_
  refine j_aload_n dL_law_953 rfl ?_
  refine j_iload dL_law_954 rfl ?_
  refine j_iconst (v := 2) dL_law_956 (by decide) ?_
  refine j_iadd dL_law_957 ?_
  refine j_sld (k := 6 * j + 2) dL_law_958 hXs hbs (ixk (iA (hi) (iC 2 (by decide)) (by omega)) (by omega)) (by omega) ?_
  refine j_aload_n dL_law_959 rfl ?_
  refine j_iload dL_law_960 rfl ?_
  refine j_iconst (v := 3) dL_law_962 (by decide) ?_
  refine j_iadd dL_law_963 ?_
  refine j_sld (k := 6 * j + 3) dL_law_964 hXs hbs (ixk (iA (hi) (iC 3 (by decide)) (by omega)) (by omega)) (by omega) ?_
  refine j_aload_n dL_law_965 rfl ?_
  refine j_callH dL_law_966 hB mo_L_scene ml_L_143 (sp_L_scene hB hN hcu hW hT1) rfl rfl ⟨rfl, rfl, by decide, by decide⟩ (Nat.le_of_ble_eq_true rfl) ⟨by show c1 + 3 ≤ 616825; omega, by show n1 + 18 ≤ 7245630; omega⟩ ?_ (by rintro E9 T9 V9 X9 sz9 ⟨k9, h9, -⟩; cases h9)
  rintro v9 T2 V2 X2 sz2 ⟨k1, h9, rfl, hz9, ha1, he1, hy1, hn1⟩
  cases h9
  have hmo1 := hmo.fr ha1 (Or.inr (Nat.le_refl _))
  refine j_istore (L' := [(0, _), (1, _), (2, _), (3, _), (4, _), (5, _), (6, _)]) dL_law_969 (by decide) rfl ?_
  refine j_aload_n dL_law_971 rfl ?_
  refine j_aload_n dL_law_972 rfl ?_
  refine j_iload dL_law_973 rfl ?_
  refine j_iconst (v := 1) dL_law_975 (by decide) ?_
  refine j_iadd dL_law_976 ?_
  refine j_sld (k := 6 * j + 1) dL_law_977 hXs hbs (ixk (iA (hi) (iC 1 (by decide)) (by omega)) (by omega)) (by omega) ?_
  refine j_aload_n dL_law_978 rfl ?_
  refine j_iload dL_law_979 rfl ?_
  refine j_iconst (v := 2) dL_law_981 (by decide) ?_
  refine j_iadd dL_law_982 ?_
  refine j_sld (k := 6 * j + 2) dL_law_983 hXs hbs (ixk (iA (hi) (iC 2 (by decide)) (by omega)) (by omega)) (by omega) ?_
  refine j_aload_n dL_law_984 rfl ?_
  refine j_iload dL_law_985 rfl ?_
  refine j_iconst (v := 3) dL_law_987 (by decide) ?_
  refine j_iadd dL_law_988 ?_
  refine j_sld (k := 6 * j + 3) dL_law_989 hXs hbs (ixk (iA (hi) (iC 3 (by decide)) (by omega)) (by omega)) (by omega) ?_
  refine j_cVi dL_law_990 hB mo_X8_scene ml_L_145 (sp_X8_scene hB hmo1.1 hmo1 hW) hmo1.1.1 rfl rfl rfl rfl ⟨rfl, rfl, by decide, by decide⟩ (Nat.le_of_ble_eq_true rfl) ⟨by show c1 + 3 ≤ 616825; omega, by show n1 + 18 ≤ 7245630; omega⟩ (fun r2 V3 h3 => ?_)
  obtain ⟨ha3, he3, hy3, hn3⟩ := h3
  refine j_istore (L' := [(0, _), (1, _), (2, _), (3, _), (4, _), (5, _), (6, _), (7, _)]) dL_law_993 (by decide) rfl ?_
  refine j_aload_n dL_law_995 rfl ?_
  refine j_cVi dL_law_996 hB mo_X8_thrown ml_L_98 (sp_X8_thrown hB hmo1.1) hmo1.1.1 rfl rfl rfl rfl ⟨rfl, rfl, by decide, by decide⟩ (Nat.le_of_ble_eq_true rfl) ⟨by show c1 + 3 ≤ 616825; omega, by show n1 + 18 ≤ 7245630; omega⟩ (fun r4 V4 h4 => ?_)
  obtain ⟨rfl, h4⟩ := h4
  subst h4
  refine j_iload dL_law_999 rfl ?_
  refine m_icmp_eq (tgt := 1006) dL_law_1001 (by decide) (he3) (he1) (fun c_1001 => ?_) (fun c_1001 => ?_)
  · refine j_iload dL_law_1006 rfl ?_
    refine m_if_ne (tgt := 1023) dL_law_1008 (by decide) (he1) (fun c_1008 => ?_) (fun c_1008 => ?_)
    · have e9 : ¬ (e_scene y (xs (6 * j + 1)) (xs (6 * j + 2)) (xs (6 * j + 3))) = 0 := by omega
      obtain ⟨hcu1, rfl⟩ := hn1 e9
      have hmo3 := hn3 e9
      refine j_goto (tgt := 1727) dL_law_1023 (by decide) ?_
      refine j_sub2 (L' := [(0, _), (1, _), (2, _), (3, _), (4, _), (5, _)]) (List.forall_mem_cons.mpr ⟨rfl, List.forall_mem_cons.mpr ⟨rfl, List.forall_mem_cons.mpr ⟨rfl, List.forall_mem_cons.mpr ⟨rfl, List.forall_mem_cons.mpr ⟨rfl, List.forall_mem_cons.mpr ⟨rfl, fun _ h9 => nomatch h9⟩⟩⟩⟩⟩⟩) ?_
      exact next (j + 1) (by omega) _ (by omega) V3 _ sz2 (c1 + 3) (n1 + 18) y (hcu1.fr ha3 (Or.inl (Nat.le_refl _))) hmo3 hW (by omega) (by omega)
    · have e9 : (e_scene y (xs (6 * j + 1)) (xs (6 * j + 2)) (xs (6 * j + 3))) = 0 := by omega
      obtain ⟨hcu1, r1, rfl, hr1⟩ := hy1 e9
      obtain ⟨hr3, hmo3⟩ := hy3 e9
      have hrr : r2 = r1 := ti_inj (Eq.trans hr3 (Eq.symm hr1))
      subst hrr
      refine j_aload_n dL_law_1011 rfl ?_
      refine j_iconst (v := 0) dL_law_1012 (by decide) ?_
      refine j_lald dL_law_1013 hB (hT1) (by decide) (by decide) ?_
      refine j_iload dL_law_1014 rfl ?_
      refine j_i2l dL_law_1016 ?_
      refine j_lcmp dL_law_1017 ?_
      rw [show (jset X.1 (qx + 501) 0 r2.toInt64, X.2).1 (qx + 501) (0 : Int32).toNatClampNeg = r2.toInt64 from jset_eq, lg_self]
      refine m_if_eq (tgt := 1023) dL_law_1018 (by decide) (iC 0 (by decide)) (fun c_1018 => ?_) (fun c_1018 => ?_)
      · refine j_goto (tgt := 1727) dL_law_1023 (by decide) ?_
        refine j_sub2 (L' := [(0, _), (1, _), (2, _), (3, _), (4, _), (5, _)]) (List.forall_mem_cons.mpr ⟨rfl, List.forall_mem_cons.mpr ⟨rfl, List.forall_mem_cons.mpr ⟨rfl, List.forall_mem_cons.mpr ⟨rfl, List.forall_mem_cons.mpr ⟨rfl, List.forall_mem_cons.mpr ⟨rfl, fun _ h9 => nomatch h9⟩⟩⟩⟩⟩⟩) ?_
        exact next (j + 1) (by omega) _ (by omega) V3 _ sz2 (c1 + 3) (n1 + 18) y (hcu1.fr ha3 (Or.inl (Nat.le_refl _))) hmo3 hW (by omega) (by omega)
      · exact absurd c_1018 (by decide)
  · exact absurd rfl c_1001
set_option maxRecDepth 100000 in
set_option maxHeartbeats 4000000 in
theorem lc_14 (hB : jB l s0 D) (hN : jN s0) {b N qx : Nat} {xs : Nat → Int32} (hXs : va_X b N xs s0 s0.heap) (hbs : b < s0.heap.size) (hN3 : N ≤ 3072) (hT1 : T (qx + 501) = some (kJ 1)) (hT2 : T (qx + 502) = some (kDb 1)) {j : Nat} {i : Int32} {V : jV} {X : jX} {sz c1 n1 : Nat} {y : aX} (hj : 6 * j + 6 ≤ N) (hi : i.toInt = ((6 * j : Nat) : Int)) (hcu : cuIs T V qx y) (hmo : moIs T V (qx + 492) y) (hW : xW y) (hc1 : c1 ≤ 600 + 5 * j) (hn1 : n1 ≤ 6000 + 30 * j)
    (next : ∀ (j' : Nat), (j < j' ∧ j' ≤ 512) → ∀ i : Int32, i.toInt = ((6 * (j' - 1) : Nat) : Int) → ∀ (V : jV) (X : jX) (sz c1 n1 : Nat) (y : aX), cuIs T V qx y → moIs T V (qx + 492) y → xW y → c1 ≤ 600 + 5 * j' → n1 ≤ 6000 + 30 * j' → J l s0 D kLaw room_1 616825 7245630 (fun o _ _ _ _ => o = .inl (some (.int 1))) 1727 [(0, .ref b), (1, .ref qx), (2, .ref (qx + 492)), (3, .ref (qx + 501)), (4, .ref (qx + 502)), (5, .int i)] [] T V X sz c1 n1) : J l s0 D kLaw room_1 616825 7245630 (fun o _ _ _ _ => o = .inl (some (.int 1))) 1026 [(0, .ref b), (1, .ref qx), (2, .ref (qx + 492)), (3, .ref (qx + 501)), (4, .ref (qx + 502)), (5, .int i)] [] T V X sz c1 n1 := by
  refine j_aload_n dL_law_1026 rfl ?_
  refine j_aload_n dL_law_1027 rfl ?_
  refine j_iload dL_law_1028 rfl ?_
  refine j_iconst (v := 1) dL_law_1030 (by decide) ?_
  refine j_iadd dL_law_1031 ?_
  refine j_sld (k := 6 * j + 1) dL_law_1032 hXs hbs (ixk (iA (hi) (iC 1 (by decide)) (by omega)) (by omega)) (by omega) ?_
  refine j_aload_n dL_law_1033 rfl ?_
  refine j_iload dL_law_1034 rfl ?_
  refine j_iconst (v := 2) dL_law_1036 (by decide) ?_
  refine j_iadd dL_law_1037 ?_
  refine j_sld (k := 6 * j + 2) dL_law_1038 hXs hbs (ixk (iA (hi) (iC 2 (by decide)) (by omega)) (by omega)) (by omega) ?_
  refine j_aload_n dL_law_1039 rfl ?_
  refine j_callH dL_law_1040 hB mo_L_reel ml_L_146 (sp_L_reel hB hN hcu hW hT1) rfl rfl ⟨rfl, rfl, by decide, by decide⟩ (Nat.le_of_ble_eq_true rfl) ⟨by show c1 + 2 ≤ 616825; omega, by show n1 + 12 ≤ 7245630; omega⟩ ?_ (by rintro E9 T9 V9 X9 sz9 ⟨k9, h9, -⟩; cases h9)
  rintro v9 T2 V2 X2 sz2 ⟨k1, h9, rfl, hz9, ha1, he1, hy1, hn1⟩
  cases h9
  have hmo1 := hmo.fr ha1 (Or.inr (Nat.le_refl _))
  refine j_istore (L' := [(0, _), (1, _), (2, _), (3, _), (4, _), (5, _), (6, _)]) dL_law_1043 (by decide) rfl ?_
  refine j_aload_n dL_law_1045 rfl ?_
  refine j_aload_n dL_law_1046 rfl ?_
  refine j_iload dL_law_1047 rfl ?_
  refine j_iconst (v := 1) dL_law_1049 (by decide) ?_
  refine j_iadd dL_law_1050 ?_
  refine j_sld (k := 6 * j + 1) dL_law_1051 hXs hbs (ixk (iA (hi) (iC 1 (by decide)) (by omega)) (by omega)) (by omega) ?_
  refine j_aload_n dL_law_1052 rfl ?_
  refine j_iload dL_law_1053 rfl ?_
  refine j_iconst (v := 2) dL_law_1055 (by decide) ?_
  refine j_iadd dL_law_1056 ?_
  refine j_sld (k := 6 * j + 2) dL_law_1057 hXs hbs (ixk (iA (hi) (iC 2 (by decide)) (by omega)) (by omega)) (by omega) ?_
  refine j_cVi dL_law_1058 hB mo_X8_reel ml_L_148 (sp_X8_reel hB hmo1.1 hmo1 hW) hmo1.1.1 rfl rfl rfl rfl ⟨rfl, rfl, by decide, by decide⟩ (Nat.le_of_ble_eq_true rfl) ⟨by show c1 + 2 ≤ 616825; omega, by show n1 + 12 ≤ 7245630; omega⟩ (fun r2 V3 h3 => ?_)
  obtain ⟨ha3, he3, hy3, hn3⟩ := h3
  refine j_istore (L' := [(0, _), (1, _), (2, _), (3, _), (4, _), (5, _), (6, _), (7, _)]) dL_law_1061 (by decide) rfl ?_
  refine j_aload_n dL_law_1063 rfl ?_
  refine j_cVi dL_law_1064 hB mo_X8_thrown ml_L_98 (sp_X8_thrown hB hmo1.1) hmo1.1.1 rfl rfl rfl rfl ⟨rfl, rfl, by decide, by decide⟩ (Nat.le_of_ble_eq_true rfl) ⟨by show c1 + 2 ≤ 616825; omega, by show n1 + 12 ≤ 7245630; omega⟩ (fun r4 V4 h4 => ?_)
  obtain ⟨rfl, h4⟩ := h4
  subst h4
  refine j_iload dL_law_1067 rfl ?_
  refine m_icmp_eq (tgt := 1074) dL_law_1069 (by decide) (he3) (he1) (fun c_1069 => ?_) (fun c_1069 => ?_)
  · refine j_iload dL_law_1074 rfl ?_
    refine m_if_ne (tgt := 1091) dL_law_1076 (by decide) (he1) (fun c_1076 => ?_) (fun c_1076 => ?_)
    · have e9 : ¬ (e_reel (xs (6 * j + 1)) (xs (6 * j + 2))) = 0 := by omega
      obtain ⟨hcu1, rfl⟩ := hn1 e9
      have hmo3 := hn3 e9
      refine j_goto (tgt := 1727) dL_law_1091 (by decide) ?_
      refine j_sub2 (L' := [(0, _), (1, _), (2, _), (3, _), (4, _), (5, _)]) (List.forall_mem_cons.mpr ⟨rfl, List.forall_mem_cons.mpr ⟨rfl, List.forall_mem_cons.mpr ⟨rfl, List.forall_mem_cons.mpr ⟨rfl, List.forall_mem_cons.mpr ⟨rfl, List.forall_mem_cons.mpr ⟨rfl, fun _ h9 => nomatch h9⟩⟩⟩⟩⟩⟩) ?_
      exact next (j + 1) (by omega) _ (by omega) V3 _ sz2 (c1 + 2) (n1 + 12) y (hcu1.fr ha3 (Or.inl (Nat.le_refl _))) hmo3 hW (by omega) (by omega)
    · have e9 : (e_reel (xs (6 * j + 1)) (xs (6 * j + 2))) = 0 := by omega
      obtain ⟨hcu1, r1, rfl, hr1⟩ := hy1 e9
      obtain ⟨hr3, hmo3⟩ := hy3 e9
      have hrr : r2 = r1 := ti_inj (Eq.trans hr3 (Eq.symm hr1))
      subst hrr
      refine j_aload_n dL_law_1079 rfl ?_
      refine j_iconst (v := 0) dL_law_1080 (by decide) ?_
      refine j_lald dL_law_1081 hB (hT1) (by decide) (by decide) ?_
      refine j_iload dL_law_1082 rfl ?_
      refine j_i2l dL_law_1084 ?_
      refine j_lcmp dL_law_1085 ?_
      rw [show (jset X.1 (qx + 501) 0 r2.toInt64, X.2).1 (qx + 501) (0 : Int32).toNatClampNeg = r2.toInt64 from jset_eq, lg_self]
      refine m_if_eq (tgt := 1091) dL_law_1086 (by decide) (iC 0 (by decide)) (fun c_1086 => ?_) (fun c_1086 => ?_)
      · refine j_goto (tgt := 1727) dL_law_1091 (by decide) ?_
        refine j_sub2 (L' := [(0, _), (1, _), (2, _), (3, _), (4, _), (5, _)]) (List.forall_mem_cons.mpr ⟨rfl, List.forall_mem_cons.mpr ⟨rfl, List.forall_mem_cons.mpr ⟨rfl, List.forall_mem_cons.mpr ⟨rfl, List.forall_mem_cons.mpr ⟨rfl, List.forall_mem_cons.mpr ⟨rfl, fun _ h9 => nomatch h9⟩⟩⟩⟩⟩⟩) ?_
        exact next (j + 1) (by omega) _ (by omega) V3 _ sz2 (c1 + 2) (n1 + 12) y (hcu1.fr ha3 (Or.inl (Nat.le_refl _))) hmo3 hW (by omega) (by omega)
      · exact absurd c_1086 (by decide)
  · exact absurd rfl c_1069
set_option maxRecDepth 100000 in
set_option maxHeartbeats 4000000 in
theorem lc_15 (hB : jB l s0 D) (hN : jN s0) {b N qx : Nat} {xs : Nat → Int32} (hXs : va_X b N xs s0 s0.heap) (hbs : b < s0.heap.size) (hN3 : N ≤ 3072) (hT1 : T (qx + 501) = some (kJ 1)) (hT2 : T (qx + 502) = some (kDb 1)) {j : Nat} {i : Int32} {V : jV} {X : jX} {sz c1 n1 : Nat} {y : aX} (hj : 6 * j + 6 ≤ N) (hi : i.toInt = ((6 * j : Nat) : Int)) (hcu : cuIs T V qx y) (hmo : moIs T V (qx + 492) y) (hW : xW y) (hc1 : c1 ≤ 600 + 5 * j) (hn1 : n1 ≤ 6000 + 30 * j)
    (next : ∀ (j' : Nat), (j < j' ∧ j' ≤ 512) → ∀ i : Int32, i.toInt = ((6 * (j' - 1) : Nat) : Int) → ∀ (V : jV) (X : jX) (sz c1 n1 : Nat) (y : aX), cuIs T V qx y → moIs T V (qx + 492) y → xW y → c1 ≤ 600 + 5 * j' → n1 ≤ 6000 + 30 * j' → J l s0 D kLaw room_1 616825 7245630 (fun o _ _ _ _ => o = .inl (some (.int 1))) 1727 [(0, .ref b), (1, .ref qx), (2, .ref (qx + 492)), (3, .ref (qx + 501)), (4, .ref (qx + 502)), (5, .int i)] [] T V X sz c1 n1) : J l s0 D kLaw room_1 616825 7245630 (fun o _ _ _ _ => o = .inl (some (.int 1))) 1094 [(0, .ref b), (1, .ref qx), (2, .ref (qx + 492)), (3, .ref (qx + 501)), (4, .ref (qx + 502)), (5, .int i)] [] T V X sz c1 n1 := by
  refine j_aload_n dL_law_1094 rfl ?_
  refine j_aload_n dL_law_1095 rfl ?_
  refine j_iload dL_law_1096 rfl ?_
  refine j_iconst (v := 1) dL_law_1098 (by decide) ?_
  refine j_iadd dL_law_1099 ?_
  refine j_sld (k := 6 * j + 1) dL_law_1100 hXs hbs (ixk (iA (hi) (iC 1 (by decide)) (by omega)) (by omega)) (by omega) ?_
  refine j_aload_n dL_law_1101 rfl ?_
  refine j_iload dL_law_1102 rfl ?_
  refine j_iconst (v := 2) dL_law_1104 (by decide) ?_
  refine j_iadd dL_law_1105 ?_
  refine j_sld (k := 6 * j + 2) dL_law_1106 hXs hbs (ixk (iA (hi) (iC 2 (by decide)) (by omega)) (by omega)) (by omega) ?_
  refine j_aload_n dL_law_1107 rfl ?_
  refine j_callH dL_law_1108 hB mo_L_speedAt ml_L_149 (sp_L_speedAt hB hN hcu hW hT1) rfl rfl ⟨rfl, rfl, by decide, by decide⟩ (Nat.le_of_ble_eq_true rfl) ⟨by show c1 + 2 ≤ 616825; omega, by show n1 + 12 ≤ 7245630; omega⟩ ?_ (by rintro E9 T9 V9 X9 sz9 ⟨k9, h9, -⟩; cases h9)
  rintro v9 T2 V2 X2 sz2 ⟨k1, h9, rfl, hz9, ha1, he1, hy1, hn1⟩
  cases h9
  have hmo1 := hmo.fr ha1 (Or.inr (Nat.le_refl _))
  refine j_istore (L' := [(0, _), (1, _), (2, _), (3, _), (4, _), (5, _), (6, _)]) dL_law_1111 (by decide) rfl ?_
  refine j_aload_n dL_law_1113 rfl ?_
  refine j_aload_n dL_law_1114 rfl ?_
  refine j_iload dL_law_1115 rfl ?_
  refine j_iconst (v := 1) dL_law_1117 (by decide) ?_
  refine j_iadd dL_law_1118 ?_
  refine j_sld (k := 6 * j + 1) dL_law_1119 hXs hbs (ixk (iA (hi) (iC 1 (by decide)) (by omega)) (by omega)) (by omega) ?_
  refine j_aload_n dL_law_1120 rfl ?_
  refine j_iload dL_law_1121 rfl ?_
  refine j_iconst (v := 2) dL_law_1123 (by decide) ?_
  refine j_iadd dL_law_1124 ?_
  refine j_sld (k := 6 * j + 2) dL_law_1125 hXs hbs (ixk (iA (hi) (iC 2 (by decide)) (by omega)) (by omega)) (by omega) ?_
  refine j_cVi dL_law_1126 hB mo_X8_speedAt ml_L_151 (sp_X8_speedAt hB hmo1.1 hmo1 hW) hmo1.1.1 rfl rfl rfl rfl ⟨rfl, rfl, by decide, by decide⟩ (Nat.le_of_ble_eq_true rfl) ⟨by show c1 + 2 ≤ 616825; omega, by show n1 + 12 ≤ 7245630; omega⟩ (fun r2 V3 h3 => ?_)
  obtain ⟨ha3, he3, hy3, hn3⟩ := h3
  refine j_istore (L' := [(0, _), (1, _), (2, _), (3, _), (4, _), (5, _), (6, _), (7, _)]) dL_law_1129 (by decide) rfl ?_
  refine j_aload_n dL_law_1131 rfl ?_
  refine j_cVi dL_law_1132 hB mo_X8_thrown ml_L_98 (sp_X8_thrown hB hmo1.1) hmo1.1.1 rfl rfl rfl rfl ⟨rfl, rfl, by decide, by decide⟩ (Nat.le_of_ble_eq_true rfl) ⟨by show c1 + 2 ≤ 616825; omega, by show n1 + 12 ≤ 7245630; omega⟩ (fun r4 V4 h4 => ?_)
  obtain ⟨rfl, h4⟩ := h4
  subst h4
  refine j_iload dL_law_1135 rfl ?_
  refine m_icmp_eq (tgt := 1142) dL_law_1137 (by decide) (he3) (he1) (fun c_1137 => ?_) (fun c_1137 => ?_)
  · refine j_iload dL_law_1142 rfl ?_
    refine m_if_ne (tgt := 1159) dL_law_1144 (by decide) (he1) (fun c_1144 => ?_) (fun c_1144 => ?_)
    · have e9 : ¬ (e_spd (xs (6 * j + 1)) (xs (6 * j + 2))) = 0 := by omega
      obtain ⟨hcu1, rfl⟩ := hn1 e9
      have hmo3 := hn3 e9
      refine j_goto (tgt := 1727) dL_law_1159 (by decide) ?_
      refine j_sub2 (L' := [(0, _), (1, _), (2, _), (3, _), (4, _), (5, _)]) (List.forall_mem_cons.mpr ⟨rfl, List.forall_mem_cons.mpr ⟨rfl, List.forall_mem_cons.mpr ⟨rfl, List.forall_mem_cons.mpr ⟨rfl, List.forall_mem_cons.mpr ⟨rfl, List.forall_mem_cons.mpr ⟨rfl, fun _ h9 => nomatch h9⟩⟩⟩⟩⟩⟩) ?_
      exact next (j + 1) (by omega) _ (by omega) V3 _ sz2 (c1 + 2) (n1 + 12) y (hcu1.fr ha3 (Or.inl (Nat.le_refl _))) hmo3 hW (by omega) (by omega)
    · have e9 : (e_spd (xs (6 * j + 1)) (xs (6 * j + 2))) = 0 := by omega
      obtain ⟨hcu1, r1, rfl, hr1⟩ := hy1 e9
      obtain ⟨hr3, hmo3⟩ := hy3 e9
      have hrr : r2 = r1 := ti_inj (Eq.trans hr3 (Eq.symm hr1))
      subst hrr
      refine j_aload_n dL_law_1147 rfl ?_
      refine j_iconst (v := 0) dL_law_1148 (by decide) ?_
      refine j_lald dL_law_1149 hB (hT1) (by decide) (by decide) ?_
      refine j_iload dL_law_1150 rfl ?_
      refine j_i2l dL_law_1152 ?_
      refine j_lcmp dL_law_1153 ?_
      rw [show (jset X.1 (qx + 501) 0 r2.toInt64, X.2).1 (qx + 501) (0 : Int32).toNatClampNeg = r2.toInt64 from jset_eq, lg_self]
      refine m_if_eq (tgt := 1159) dL_law_1154 (by decide) (iC 0 (by decide)) (fun c_1154 => ?_) (fun c_1154 => ?_)
      · refine j_goto (tgt := 1727) dL_law_1159 (by decide) ?_
        refine j_sub2 (L' := [(0, _), (1, _), (2, _), (3, _), (4, _), (5, _)]) (List.forall_mem_cons.mpr ⟨rfl, List.forall_mem_cons.mpr ⟨rfl, List.forall_mem_cons.mpr ⟨rfl, List.forall_mem_cons.mpr ⟨rfl, List.forall_mem_cons.mpr ⟨rfl, List.forall_mem_cons.mpr ⟨rfl, fun _ h9 => nomatch h9⟩⟩⟩⟩⟩⟩) ?_
        exact next (j + 1) (by omega) _ (by omega) V3 _ sz2 (c1 + 2) (n1 + 12) y (hcu1.fr ha3 (Or.inl (Nat.le_refl _))) hmo3 hW (by omega) (by omega)
      · exact absurd c_1154 (by decide)
  · exact absurd rfl c_1137
set_option maxRecDepth 100000 in
set_option maxHeartbeats 4000000 in
theorem lc_16 (hB : jB l s0 D) (hN : jN s0) {b N qx : Nat} {xs : Nat → Int32} (hXs : va_X b N xs s0 s0.heap) (hbs : b < s0.heap.size) (hN3 : N ≤ 3072) (hT1 : T (qx + 501) = some (kJ 1)) (hT2 : T (qx + 502) = some (kDb 1)) {j : Nat} {i : Int32} {V : jV} {X : jX} {sz c1 n1 : Nat} {y : aX} (hj : 6 * j + 6 ≤ N) (hi : i.toInt = ((6 * j : Nat) : Int)) (hcu : cuIs T V qx y) (hmo : moIs T V (qx + 492) y) (hW : xW y) (hc1 : c1 ≤ 600 + 5 * j) (hn1 : n1 ≤ 6000 + 30 * j)
    (next : ∀ (j' : Nat), (j < j' ∧ j' ≤ 512) → ∀ i : Int32, i.toInt = ((6 * (j' - 1) : Nat) : Int) → ∀ (V : jV) (X : jX) (sz c1 n1 : Nat) (y : aX), cuIs T V qx y → moIs T V (qx + 492) y → xW y → c1 ≤ 600 + 5 * j' → n1 ≤ 6000 + 30 * j' → J l s0 D kLaw room_1 616825 7245630 (fun o _ _ _ _ => o = .inl (some (.int 1))) 1727 [(0, .ref b), (1, .ref qx), (2, .ref (qx + 492)), (3, .ref (qx + 501)), (4, .ref (qx + 502)), (5, .int i)] [] T V X sz c1 n1) : J l s0 D kLaw room_1 616825 7245630 (fun o _ _ _ _ => o = .inl (some (.int 1))) 1162 [(0, .ref b), (1, .ref qx), (2, .ref (qx + 492)), (3, .ref (qx + 501)), (4, .ref (qx + 502)), (5, .int i)] [] T V X sz c1 n1 := by
  refine j_aload_n dL_law_1162 rfl ?_
  refine j_aload_n dL_law_1163 rfl ?_
  refine j_iload dL_law_1164 rfl ?_
  refine j_iconst (v := 1) dL_law_1166 (by decide) ?_
  refine j_iadd dL_law_1167 ?_
  refine j_sld (k := 6 * j + 1) dL_law_1168 hXs hbs (ixk (iA (hi) (iC 1 (by decide)) (by omega)) (by omega)) (by omega) ?_
  refine j_aload_n dL_law_1169 rfl ?_
  refine j_iload dL_law_1170 rfl ?_
  refine j_iconst (v := 2) dL_law_1172 (by decide) ?_
  refine j_iadd dL_law_1173 ?_
  refine j_sld (k := 6 * j + 2) dL_law_1174 hXs hbs (ixk (iA (hi) (iC 2 (by decide)) (by omega)) (by omega)) (by omega) ?_
  refine j_aload_n dL_law_1175 rfl ?_
  refine j_callH dL_law_1176 hB mo_L_piece ml_L_152 (sp_L_piece hB hN hcu hW hT1) rfl rfl ⟨rfl, rfl, by decide, by decide⟩ (Nat.le_of_ble_eq_true rfl) ⟨by show c1 + 2 ≤ 616825; omega, by show n1 + 12 ≤ 7245630; omega⟩ ?_ (by rintro E9 T9 V9 X9 sz9 ⟨k9, h9, -⟩; cases h9)
  rintro v9 T2 V2 X2 sz2 ⟨k1, h9, rfl, hz9, ha1, he1, hy1, hn1⟩
  cases h9
  have hmo1 := hmo.fr ha1 (Or.inr (Nat.le_refl _))
  refine j_istore (L' := [(0, _), (1, _), (2, _), (3, _), (4, _), (5, _), (6, _)]) dL_law_1179 (by decide) rfl ?_
  refine j_aload_n dL_law_1181 rfl ?_
  refine j_aload_n dL_law_1182 rfl ?_
  refine j_iload dL_law_1183 rfl ?_
  refine j_iconst (v := 1) dL_law_1185 (by decide) ?_
  refine j_iadd dL_law_1186 ?_
  refine j_sld (k := 6 * j + 1) dL_law_1187 hXs hbs (ixk (iA (hi) (iC 1 (by decide)) (by omega)) (by omega)) (by omega) ?_
  refine j_aload_n dL_law_1188 rfl ?_
  refine j_iload dL_law_1189 rfl ?_
  refine j_iconst (v := 2) dL_law_1191 (by decide) ?_
  refine j_iadd dL_law_1192 ?_
  refine j_sld (k := 6 * j + 2) dL_law_1193 hXs hbs (ixk (iA (hi) (iC 2 (by decide)) (by omega)) (by omega)) (by omega) ?_
  refine j_cVi dL_law_1194 hB mo_X8_piece ml_L_154 (sp_X8_piece hB hmo1.1 hmo1 hW) hmo1.1.1 rfl rfl rfl rfl ⟨rfl, rfl, by decide, by decide⟩ (Nat.le_of_ble_eq_true rfl) ⟨by show c1 + 2 ≤ 616825; omega, by show n1 + 12 ≤ 7245630; omega⟩ (fun r2 V3 h3 => ?_)
  obtain ⟨ha3, he3, hy3, hn3⟩ := h3
  refine j_istore (L' := [(0, _), (1, _), (2, _), (3, _), (4, _), (5, _), (6, _), (7, _)]) dL_law_1197 (by decide) rfl ?_
  refine j_aload_n dL_law_1199 rfl ?_
  refine j_cVi dL_law_1200 hB mo_X8_thrown ml_L_98 (sp_X8_thrown hB hmo1.1) hmo1.1.1 rfl rfl rfl rfl ⟨rfl, rfl, by decide, by decide⟩ (Nat.le_of_ble_eq_true rfl) ⟨by show c1 + 2 ≤ 616825; omega, by show n1 + 12 ≤ 7245630; omega⟩ (fun r4 V4 h4 => ?_)
  obtain ⟨rfl, h4⟩ := h4
  subst h4
  refine j_iload dL_law_1203 rfl ?_
  refine m_icmp_eq (tgt := 1210) dL_law_1205 (by decide) (he3) (he1) (fun c_1205 => ?_) (fun c_1205 => ?_)
  · refine j_iload dL_law_1210 rfl ?_
    refine m_if_ne (tgt := 1227) dL_law_1212 (by decide) (he1) (fun c_1212 => ?_) (fun c_1212 => ?_)
    · have e9 : ¬ (e_piece y (xs (6 * j + 1)) (xs (6 * j + 2))) = 0 := by omega
      obtain ⟨hcu1, rfl⟩ := hn1 e9
      have hmo3 := hn3 e9
      refine j_goto (tgt := 1727) dL_law_1227 (by decide) ?_
      refine j_sub2 (L' := [(0, _), (1, _), (2, _), (3, _), (4, _), (5, _)]) (List.forall_mem_cons.mpr ⟨rfl, List.forall_mem_cons.mpr ⟨rfl, List.forall_mem_cons.mpr ⟨rfl, List.forall_mem_cons.mpr ⟨rfl, List.forall_mem_cons.mpr ⟨rfl, List.forall_mem_cons.mpr ⟨rfl, fun _ h9 => nomatch h9⟩⟩⟩⟩⟩⟩) ?_
      exact next (j + 1) (by omega) _ (by omega) V3 _ sz2 (c1 + 2) (n1 + 12) y (hcu1.fr ha3 (Or.inl (Nat.le_refl _))) hmo3 hW (by omega) (by omega)
    · have e9 : (e_piece y (xs (6 * j + 1)) (xs (6 * j + 2))) = 0 := by omega
      obtain ⟨hcu1, r1, rfl, hr1⟩ := hy1 e9
      obtain ⟨hr3, hmo3⟩ := hy3 e9
      have hrr : r2 = r1 := ti_inj (Eq.trans hr3 (Eq.symm hr1))
      subst hrr
      refine j_aload_n dL_law_1215 rfl ?_
      refine j_iconst (v := 0) dL_law_1216 (by decide) ?_
      refine j_lald dL_law_1217 hB (hT1) (by decide) (by decide) ?_
      refine j_iload dL_law_1218 rfl ?_
      refine j_i2l dL_law_1220 ?_
      refine j_lcmp dL_law_1221 ?_
      rw [show (jset X.1 (qx + 501) 0 r2.toInt64, X.2).1 (qx + 501) (0 : Int32).toNatClampNeg = r2.toInt64 from jset_eq, lg_self]
      refine m_if_eq (tgt := 1227) dL_law_1222 (by decide) (iC 0 (by decide)) (fun c_1222 => ?_) (fun c_1222 => ?_)
      · refine j_goto (tgt := 1727) dL_law_1227 (by decide) ?_
        refine j_sub2 (L' := [(0, _), (1, _), (2, _), (3, _), (4, _), (5, _)]) (List.forall_mem_cons.mpr ⟨rfl, List.forall_mem_cons.mpr ⟨rfl, List.forall_mem_cons.mpr ⟨rfl, List.forall_mem_cons.mpr ⟨rfl, List.forall_mem_cons.mpr ⟨rfl, List.forall_mem_cons.mpr ⟨rfl, fun _ h9 => nomatch h9⟩⟩⟩⟩⟩⟩) ?_
        exact next (j + 1) (by omega) _ (by omega) V3 _ sz2 (c1 + 2) (n1 + 12) y (hcu1.fr ha3 (Or.inl (Nat.le_refl _))) hmo3 hW (by omega) (by omega)
      · exact absurd c_1222 (by decide)
  · exact absurd rfl c_1205
set_option maxRecDepth 100000 in
set_option maxHeartbeats 4000000 in
theorem lc_17 (hB : jB l s0 D) (hN : jN s0) {b N qx : Nat} {xs : Nat → Int32} (hXs : va_X b N xs s0 s0.heap) (hbs : b < s0.heap.size) (hN3 : N ≤ 3072) (hT1 : T (qx + 501) = some (kJ 1)) (hT2 : T (qx + 502) = some (kDb 1)) {j : Nat} {i : Int32} {V : jV} {X : jX} {sz c1 n1 : Nat} {y : aX} (hj : 6 * j + 6 ≤ N) (hi : i.toInt = ((6 * j : Nat) : Int)) (hcu : cuIs T V qx y) (hmo : moIs T V (qx + 492) y) (hW : xW y) (hc1 : c1 ≤ 600 + 5 * j) (hn1 : n1 ≤ 6000 + 30 * j)
    (next : ∀ (j' : Nat), (j < j' ∧ j' ≤ 512) → ∀ i : Int32, i.toInt = ((6 * (j' - 1) : Nat) : Int) → ∀ (V : jV) (X : jX) (sz c1 n1 : Nat) (y : aX), cuIs T V qx y → moIs T V (qx + 492) y → xW y → c1 ≤ 600 + 5 * j' → n1 ≤ 6000 + 30 * j' → J l s0 D kLaw room_1 616825 7245630 (fun o _ _ _ _ => o = .inl (some (.int 1))) 1727 [(0, .ref b), (1, .ref qx), (2, .ref (qx + 492)), (3, .ref (qx + 501)), (4, .ref (qx + 502)), (5, .int i)] [] T V X sz c1 n1) : J l s0 D kLaw room_1 616825 7245630 (fun o _ _ _ _ => o = .inl (some (.int 1))) 1230 [(0, .ref b), (1, .ref qx), (2, .ref (qx + 492)), (3, .ref (qx + 501)), (4, .ref (qx + 502)), (5, .int i)] [] T V X sz c1 n1 := by
  refine j_aload_n dL_law_1230 rfl ?_
  refine j_aload_n dL_law_1231 rfl ?_
  refine j_iload dL_law_1232 rfl ?_
  refine j_iconst (v := 1) dL_law_1234 (by decide) ?_
  refine j_iadd dL_law_1235 ?_
  refine j_sld (k := 6 * j + 1) dL_law_1236 hXs hbs (ixk (iA (hi) (iC 1 (by decide)) (by omega)) (by omega)) (by omega) ?_
  refine j_aload_n dL_law_1237 rfl ?_
  refine j_callH dL_law_1238 hB mo_L_count ml_L_155 (sp_L_count hB hN hcu hW hT1) rfl rfl ⟨rfl, rfl, by decide, by decide⟩ (Nat.le_of_ble_eq_true rfl) ⟨by show c1 + 1 ≤ 616825; omega, by show n1 + 6 ≤ 7245630; omega⟩ ?_ (by rintro E9 T9 V9 X9 sz9 ⟨k9, h9, -⟩; cases h9)
  rintro v9 T2 V2 X2 sz2 ⟨k1, h9, rfl, hz9, ha1, he1, hy1, hn1⟩
  cases h9
  have hmo1 := hmo.fr ha1 (Or.inr (Nat.le_refl _))
  refine j_istore (L' := [(0, _), (1, _), (2, _), (3, _), (4, _), (5, _), (6, _)]) dL_law_1241 (by decide) rfl ?_
  refine j_aload_n dL_law_1243 rfl ?_
  refine j_aload_n dL_law_1244 rfl ?_
  refine j_iload dL_law_1245 rfl ?_
  refine j_iconst (v := 1) dL_law_1247 (by decide) ?_
  refine j_iadd dL_law_1248 ?_
  refine j_sld (k := 6 * j + 1) dL_law_1249 hXs hbs (ixk (iA (hi) (iC 1 (by decide)) (by omega)) (by omega)) (by omega) ?_
  refine j_cVi dL_law_1250 hB mo_X8_count ml_L_157 (sp_X8_count hB hmo1.1 hmo1 hW) hmo1.1.1 rfl rfl rfl rfl ⟨rfl, rfl, by decide, by decide⟩ (Nat.le_of_ble_eq_true rfl) ⟨by show c1 + 1 ≤ 616825; omega, by show n1 + 6 ≤ 7245630; omega⟩ (fun r2 V3 h3 => ?_)
  obtain ⟨ha3, he3, hy3, hn3⟩ := h3
  refine j_istore (L' := [(0, _), (1, _), (2, _), (3, _), (4, _), (5, _), (6, _), (7, _)]) dL_law_1253 (by decide) rfl ?_
  refine j_aload_n dL_law_1255 rfl ?_
  refine j_cVi dL_law_1256 hB mo_X8_thrown ml_L_98 (sp_X8_thrown hB hmo1.1) hmo1.1.1 rfl rfl rfl rfl ⟨rfl, rfl, by decide, by decide⟩ (Nat.le_of_ble_eq_true rfl) ⟨by show c1 + 1 ≤ 616825; omega, by show n1 + 6 ≤ 7245630; omega⟩ (fun r4 V4 h4 => ?_)
  obtain ⟨rfl, h4⟩ := h4
  subst h4
  refine j_iload dL_law_1259 rfl ?_
  refine m_icmp_eq (tgt := 1266) dL_law_1261 (by decide) (he3) (he1) (fun c_1261 => ?_) (fun c_1261 => ?_)
  · refine j_iload dL_law_1266 rfl ?_
    refine m_if_ne (tgt := 1283) dL_law_1268 (by decide) (he1) (fun c_1268 => ?_) (fun c_1268 => ?_)
    · have e9 : ¬ (e_count (xs (6 * j + 1))) = 0 := by omega
      obtain ⟨hcu1, rfl⟩ := hn1 e9
      have hmo3 := hn3 e9
      refine j_goto (tgt := 1727) dL_law_1283 (by decide) ?_
      refine j_sub2 (L' := [(0, _), (1, _), (2, _), (3, _), (4, _), (5, _)]) (List.forall_mem_cons.mpr ⟨rfl, List.forall_mem_cons.mpr ⟨rfl, List.forall_mem_cons.mpr ⟨rfl, List.forall_mem_cons.mpr ⟨rfl, List.forall_mem_cons.mpr ⟨rfl, List.forall_mem_cons.mpr ⟨rfl, fun _ h9 => nomatch h9⟩⟩⟩⟩⟩⟩) ?_
      exact next (j + 1) (by omega) _ (by omega) V3 _ sz2 (c1 + 1) (n1 + 6) y (hcu1.fr ha3 (Or.inl (Nat.le_refl _))) hmo3 hW (by omega) (by omega)
    · have e9 : (e_count (xs (6 * j + 1))) = 0 := by omega
      obtain ⟨hcu1, r1, rfl, hr1⟩ := hy1 e9
      obtain ⟨hr3, hmo3⟩ := hy3 e9
      have hrr : r2 = r1 := ti_inj (Eq.trans hr3 (Eq.symm hr1))
      subst hrr
      refine j_aload_n dL_law_1271 rfl ?_
      refine j_iconst (v := 0) dL_law_1272 (by decide) ?_
      refine j_lald dL_law_1273 hB (hT1) (by decide) (by decide) ?_
      refine j_iload dL_law_1274 rfl ?_
      refine j_i2l dL_law_1276 ?_
      refine j_lcmp dL_law_1277 ?_
      rw [show (jset X.1 (qx + 501) 0 r2.toInt64, X.2).1 (qx + 501) (0 : Int32).toNatClampNeg = r2.toInt64 from jset_eq, lg_self]
      refine m_if_eq (tgt := 1283) dL_law_1278 (by decide) (iC 0 (by decide)) (fun c_1278 => ?_) (fun c_1278 => ?_)
      · refine j_goto (tgt := 1727) dL_law_1283 (by decide) ?_
        refine j_sub2 (L' := [(0, _), (1, _), (2, _), (3, _), (4, _), (5, _)]) (List.forall_mem_cons.mpr ⟨rfl, List.forall_mem_cons.mpr ⟨rfl, List.forall_mem_cons.mpr ⟨rfl, List.forall_mem_cons.mpr ⟨rfl, List.forall_mem_cons.mpr ⟨rfl, List.forall_mem_cons.mpr ⟨rfl, fun _ h9 => nomatch h9⟩⟩⟩⟩⟩⟩) ?_
        exact next (j + 1) (by omega) _ (by omega) V3 _ sz2 (c1 + 1) (n1 + 6) y (hcu1.fr ha3 (Or.inl (Nat.le_refl _))) hmo3 hW (by omega) (by omega)
      · exact absurd c_1278 (by decide)
  · exact absurd rfl c_1261
set_option maxRecDepth 100000 in
set_option maxHeartbeats 4000000 in
theorem lc_18 (hB : jB l s0 D) (hN : jN s0) {b N qx : Nat} {xs : Nat → Int32} (hXs : va_X b N xs s0 s0.heap) (hbs : b < s0.heap.size) (hN3 : N ≤ 3072) (hT1 : T (qx + 501) = some (kJ 1)) (hT2 : T (qx + 502) = some (kDb 1)) {j : Nat} {i : Int32} {V : jV} {X : jX} {sz c1 n1 : Nat} {y : aX} (hj : 6 * j + 6 ≤ N) (hi : i.toInt = ((6 * j : Nat) : Int)) (hcu : cuIs T V qx y) (hmo : moIs T V (qx + 492) y) (hW : xW y) (hc1 : c1 ≤ 600 + 5 * j) (hn1 : n1 ≤ 6000 + 30 * j)
    (next : ∀ (j' : Nat), (j < j' ∧ j' ≤ 512) → ∀ i : Int32, i.toInt = ((6 * (j' - 1) : Nat) : Int) → ∀ (V : jV) (X : jX) (sz c1 n1 : Nat) (y : aX), cuIs T V qx y → moIs T V (qx + 492) y → xW y → c1 ≤ 600 + 5 * j' → n1 ≤ 6000 + 30 * j' → J l s0 D kLaw room_1 616825 7245630 (fun o _ _ _ _ => o = .inl (some (.int 1))) 1727 [(0, .ref b), (1, .ref qx), (2, .ref (qx + 492)), (3, .ref (qx + 501)), (4, .ref (qx + 502)), (5, .int i)] [] T V X sz c1 n1) : J l s0 D kLaw room_1 616825 7245630 (fun o _ _ _ _ => o = .inl (some (.int 1))) 1286 [(0, .ref b), (1, .ref qx), (2, .ref (qx + 492)), (3, .ref (qx + 501)), (4, .ref (qx + 502)), (5, .int i)] [] T V X sz c1 n1 := by
  refine j_aload_n dL_law_1286 rfl ?_
  refine j_aload_n dL_law_1287 rfl ?_
  refine j_iload dL_law_1288 rfl ?_
  refine j_iconst (v := 1) dL_law_1290 (by decide) ?_
  refine j_iadd dL_law_1291 ?_
  refine j_sld (k := 6 * j + 1) dL_law_1292 hXs hbs (ixk (iA (hi) (iC 1 (by decide)) (by omega)) (by omega)) (by omega) ?_
  refine j_aload_n dL_law_1293 rfl ?_
  refine j_iload dL_law_1294 rfl ?_
  refine j_iconst (v := 2) dL_law_1296 (by decide) ?_
  refine j_iadd dL_law_1297 ?_
  refine j_sld (k := 6 * j + 2) dL_law_1298 hXs hbs (ixk (iA (hi) (iC 2 (by decide)) (by omega)) (by omega)) (by omega) ?_
  refine j_aload_n dL_law_1299 rfl ?_
  refine j_iload dL_law_1300 rfl ?_
  refine j_iconst (v := 3) dL_law_1302 (by decide) ?_
  refine j_iadd dL_law_1303 ?_
  refine j_sld (k := 6 * j + 3) dL_law_1304 hXs hbs (ixk (iA (hi) (iC 3 (by decide)) (by omega)) (by omega)) (by omega) ?_
  refine j_aload_n dL_law_1305 rfl ?_
  refine j_callH dL_law_1306 hB mo_L_bestCue ml_L_158 (sp_L_bestCue hB hN hcu hW hT1) rfl rfl ⟨rfl, rfl, by decide, by decide⟩ (Nat.le_of_ble_eq_true rfl) ⟨by show c1 + 3 ≤ 616825; omega, by show n1 + 18 ≤ 7245630; omega⟩ ?_ (by rintro E9 T9 V9 X9 sz9 ⟨k9, h9, -⟩; cases h9)
  rintro v9 T2 V2 X2 sz2 ⟨k1, h9, rfl, hz9, ha1, he1, hy1, hn1⟩
  cases h9
  have hmo1 := hmo.fr ha1 (Or.inr (Nat.le_refl _))
  refine j_istore (L' := [(0, _), (1, _), (2, _), (3, _), (4, _), (5, _), (6, _)]) dL_law_1309 (by decide) rfl ?_
  refine j_aload_n dL_law_1311 rfl ?_
  refine j_aload_n dL_law_1312 rfl ?_
  refine j_iload dL_law_1313 rfl ?_
  refine j_iconst (v := 1) dL_law_1315 (by decide) ?_
  refine j_iadd dL_law_1316 ?_
  refine j_sld (k := 6 * j + 1) dL_law_1317 hXs hbs (ixk (iA (hi) (iC 1 (by decide)) (by omega)) (by omega)) (by omega) ?_
  refine j_aload_n dL_law_1318 rfl ?_
  refine j_iload dL_law_1319 rfl ?_
  refine j_iconst (v := 2) dL_law_1321 (by decide) ?_
  refine j_iadd dL_law_1322 ?_
  refine j_sld (k := 6 * j + 2) dL_law_1323 hXs hbs (ixk (iA (hi) (iC 2 (by decide)) (by omega)) (by omega)) (by omega) ?_
  refine j_aload_n dL_law_1324 rfl ?_
  refine j_iload dL_law_1325 rfl ?_
  refine j_iconst (v := 3) dL_law_1327 (by decide) ?_
  refine j_iadd dL_law_1328 ?_
  refine j_sld (k := 6 * j + 3) dL_law_1329 hXs hbs (ixk (iA (hi) (iC 3 (by decide)) (by omega)) (by omega)) (by omega) ?_
  refine j_cVi dL_law_1330 hB mo_X8_bestCue ml_L_160 (sp_X8_bestCue hB hmo1.1 hmo1 hW) hmo1.1.1 rfl rfl rfl rfl ⟨rfl, rfl, by decide, by decide⟩ (Nat.le_of_ble_eq_true rfl) ⟨by show c1 + 3 ≤ 616825; omega, by show n1 + 18 ≤ 7245630; omega⟩ (fun r2 V3 h3 => ?_)
  obtain ⟨ha3, he3, hy3, hn3⟩ := h3
  refine j_istore (L' := [(0, _), (1, _), (2, _), (3, _), (4, _), (5, _), (6, _), (7, _)]) dL_law_1333 (by decide) rfl ?_
  refine j_aload_n dL_law_1335 rfl ?_
  refine j_cVi dL_law_1336 hB mo_X8_thrown ml_L_98 (sp_X8_thrown hB hmo1.1) hmo1.1.1 rfl rfl rfl rfl ⟨rfl, rfl, by decide, by decide⟩ (Nat.le_of_ble_eq_true rfl) ⟨by show c1 + 3 ≤ 616825; omega, by show n1 + 18 ≤ 7245630; omega⟩ (fun r4 V4 h4 => ?_)
  obtain ⟨rfl, h4⟩ := h4
  subst h4
  refine j_iload dL_law_1339 rfl ?_
  refine m_icmp_eq (tgt := 1346) dL_law_1341 (by decide) (he3) (he1) (fun c_1341 => ?_) (fun c_1341 => ?_)
  · refine j_iload dL_law_1346 rfl ?_
    refine m_if_ne (tgt := 1363) dL_law_1348 (by decide) (he1) (fun c_1348 => ?_) (fun c_1348 => ?_)
    · have e9 : ¬ (e_bc y (xs (6 * j + 1)) (xs (6 * j + 2)) (xs (6 * j + 3))) = 0 := by omega
      obtain ⟨hcu1, rfl⟩ := hn1 e9
      have hmo3 := hn3 e9
      refine j_goto (tgt := 1727) dL_law_1363 (by decide) ?_
      refine j_sub2 (L' := [(0, _), (1, _), (2, _), (3, _), (4, _), (5, _)]) (List.forall_mem_cons.mpr ⟨rfl, List.forall_mem_cons.mpr ⟨rfl, List.forall_mem_cons.mpr ⟨rfl, List.forall_mem_cons.mpr ⟨rfl, List.forall_mem_cons.mpr ⟨rfl, List.forall_mem_cons.mpr ⟨rfl, fun _ h9 => nomatch h9⟩⟩⟩⟩⟩⟩) ?_
      exact next (j + 1) (by omega) _ (by omega) V3 _ sz2 (c1 + 3) (n1 + 18) y (hcu1.fr ha3 (Or.inl (Nat.le_refl _))) hmo3 hW (by omega) (by omega)
    · have e9 : (e_bc y (xs (6 * j + 1)) (xs (6 * j + 2)) (xs (6 * j + 3))) = 0 := by omega
      obtain ⟨hcu1, r1, rfl, hr1⟩ := hy1 e9
      obtain ⟨hr3, hmo3⟩ := hy3 e9
      have hrr : r2 = r1 := ti_inj (Eq.trans hr3 (Eq.symm hr1))
      subst hrr
      refine j_aload_n dL_law_1351 rfl ?_
      refine j_iconst (v := 0) dL_law_1352 (by decide) ?_
      refine j_lald dL_law_1353 hB (hT1) (by decide) (by decide) ?_
      refine j_iload dL_law_1354 rfl ?_
      refine j_i2l dL_law_1356 ?_
      refine j_lcmp dL_law_1357 ?_
      rw [show (jset X.1 (qx + 501) 0 r2.toInt64, X.2).1 (qx + 501) (0 : Int32).toNatClampNeg = r2.toInt64 from jset_eq, lg_self]
      refine m_if_eq (tgt := 1363) dL_law_1358 (by decide) (iC 0 (by decide)) (fun c_1358 => ?_) (fun c_1358 => ?_)
      · refine j_goto (tgt := 1727) dL_law_1363 (by decide) ?_
        refine j_sub2 (L' := [(0, _), (1, _), (2, _), (3, _), (4, _), (5, _)]) (List.forall_mem_cons.mpr ⟨rfl, List.forall_mem_cons.mpr ⟨rfl, List.forall_mem_cons.mpr ⟨rfl, List.forall_mem_cons.mpr ⟨rfl, List.forall_mem_cons.mpr ⟨rfl, List.forall_mem_cons.mpr ⟨rfl, fun _ h9 => nomatch h9⟩⟩⟩⟩⟩⟩) ?_
        exact next (j + 1) (by omega) _ (by omega) V3 _ sz2 (c1 + 3) (n1 + 18) y (hcu1.fr ha3 (Or.inl (Nat.le_refl _))) hmo3 hW (by omega) (by omega)
      · exact absurd c_1358 (by decide)
  · exact absurd rfl c_1341
set_option maxRecDepth 100000 in
set_option maxHeartbeats 4000000 in
theorem lc_19 (hB : jB l s0 D) (hN : jN s0) {b N qx : Nat} {xs : Nat → Int32} (hXs : va_X b N xs s0 s0.heap) (hbs : b < s0.heap.size) (hN3 : N ≤ 3072) (hT1 : T (qx + 501) = some (kJ 1)) (hT2 : T (qx + 502) = some (kDb 1)) {j : Nat} {i : Int32} {V : jV} {X : jX} {sz c1 n1 : Nat} {y : aX} (hj : 6 * j + 6 ≤ N) (hi : i.toInt = ((6 * j : Nat) : Int)) (hcu : cuIs T V qx y) (hmo : moIs T V (qx + 492) y) (hW : xW y) (hc1 : c1 ≤ 600 + 5 * j) (hn1 : n1 ≤ 6000 + 30 * j)
    (next : ∀ (j' : Nat), (j < j' ∧ j' ≤ 512) → ∀ i : Int32, i.toInt = ((6 * (j' - 1) : Nat) : Int) → ∀ (V : jV) (X : jX) (sz c1 n1 : Nat) (y : aX), cuIs T V qx y → moIs T V (qx + 492) y → xW y → c1 ≤ 600 + 5 * j' → n1 ≤ 6000 + 30 * j' → J l s0 D kLaw room_1 616825 7245630 (fun o _ _ _ _ => o = .inl (some (.int 1))) 1727 [(0, .ref b), (1, .ref qx), (2, .ref (qx + 492)), (3, .ref (qx + 501)), (4, .ref (qx + 502)), (5, .int i)] [] T V X sz c1 n1) : J l s0 D kLaw room_1 616825 7245630 (fun o _ _ _ _ => o = .inl (some (.int 1))) 1366 [(0, .ref b), (1, .ref qx), (2, .ref (qx + 492)), (3, .ref (qx + 501)), (4, .ref (qx + 502)), (5, .int i)] [] T V X sz c1 n1 := by
  refine j_aload_n dL_law_1366 rfl ?_
  refine j_aload_n dL_law_1367 rfl ?_
  refine j_iload dL_law_1368 rfl ?_
  refine j_iconst (v := 1) dL_law_1370 (by decide) ?_
  refine j_iadd dL_law_1371 ?_
  refine j_sld (k := 6 * j + 1) dL_law_1372 hXs hbs (ixk (iA (hi) (iC 1 (by decide)) (by omega)) (by omega)) (by omega) ?_
  refine j_aload_n dL_law_1373 rfl ?_
  refine j_iload dL_law_1374 rfl ?_
  refine j_iconst (v := 2) dL_law_1376 (by decide) ?_
  refine j_iadd dL_law_1377 ?_
  refine j_sld (k := 6 * j + 2) dL_law_1378 hXs hbs (ixk (iA (hi) (iC 2 (by decide)) (by omega)) (by omega)) (by omega) ?_
  refine j_aload_n dL_law_1379 rfl ?_
  refine j_callH dL_law_1380 hB mo_L_bestPiece ml_L_161 (sp_L_bestPiece hB hN hcu hW hT1) rfl rfl ⟨rfl, rfl, by decide, by decide⟩ (Nat.le_of_ble_eq_true rfl) ⟨by show c1 + 2 ≤ 616825; omega, by show n1 + 12 ≤ 7245630; omega⟩ ?_ (by rintro E9 T9 V9 X9 sz9 ⟨k9, h9, -⟩; cases h9)
  rintro v9 T2 V2 X2 sz2 ⟨k1, h9, rfl, hz9, ha1, he1, hy1, hn1⟩
  cases h9
  have hmo1 := hmo.fr ha1 (Or.inr (Nat.le_refl _))
  refine j_istore (L' := [(0, _), (1, _), (2, _), (3, _), (4, _), (5, _), (6, _)]) dL_law_1383 (by decide) rfl ?_
  refine j_aload_n dL_law_1385 rfl ?_
  refine j_aload_n dL_law_1386 rfl ?_
  refine j_iload dL_law_1387 rfl ?_
  refine j_iconst (v := 1) dL_law_1389 (by decide) ?_
  refine j_iadd dL_law_1390 ?_
  refine j_sld (k := 6 * j + 1) dL_law_1391 hXs hbs (ixk (iA (hi) (iC 1 (by decide)) (by omega)) (by omega)) (by omega) ?_
  refine j_aload_n dL_law_1392 rfl ?_
  refine j_iload dL_law_1393 rfl ?_
  refine j_iconst (v := 2) dL_law_1395 (by decide) ?_
  refine j_iadd dL_law_1396 ?_
  refine j_sld (k := 6 * j + 2) dL_law_1397 hXs hbs (ixk (iA (hi) (iC 2 (by decide)) (by omega)) (by omega)) (by omega) ?_
  refine j_cVi dL_law_1398 hB mo_X8_bestPiece ml_L_163 (sp_X8_bestPiece hB hmo1.1 hmo1 hW) hmo1.1.1 rfl rfl rfl rfl ⟨rfl, rfl, by decide, by decide⟩ (Nat.le_of_ble_eq_true rfl) ⟨by show c1 + 2 ≤ 616825; omega, by show n1 + 12 ≤ 7245630; omega⟩ (fun r2 V3 h3 => ?_)
  obtain ⟨ha3, he3, hy3, hn3⟩ := h3
  refine j_istore (L' := [(0, _), (1, _), (2, _), (3, _), (4, _), (5, _), (6, _), (7, _)]) dL_law_1401 (by decide) rfl ?_
  refine j_aload_n dL_law_1403 rfl ?_
  refine j_cVi dL_law_1404 hB mo_X8_thrown ml_L_98 (sp_X8_thrown hB hmo1.1) hmo1.1.1 rfl rfl rfl rfl ⟨rfl, rfl, by decide, by decide⟩ (Nat.le_of_ble_eq_true rfl) ⟨by show c1 + 2 ≤ 616825; omega, by show n1 + 12 ≤ 7245630; omega⟩ (fun r4 V4 h4 => ?_)
  obtain ⟨rfl, h4⟩ := h4
  subst h4
  refine j_iload dL_law_1407 rfl ?_
  refine m_icmp_eq (tgt := 1414) dL_law_1409 (by decide) (he3) (he1) (fun c_1409 => ?_) (fun c_1409 => ?_)
  · refine j_iload dL_law_1414 rfl ?_
    refine m_if_ne (tgt := 1431) dL_law_1416 (by decide) (he1) (fun c_1416 => ?_) (fun c_1416 => ?_)
    · have e9 : ¬ (e_bp y (xs (6 * j + 1)) (xs (6 * j + 2))) = 0 := by omega
      obtain ⟨hcu1, rfl⟩ := hn1 e9
      have hmo3 := hn3 e9
      refine j_goto (tgt := 1727) dL_law_1431 (by decide) ?_
      refine j_sub2 (L' := [(0, _), (1, _), (2, _), (3, _), (4, _), (5, _)]) (List.forall_mem_cons.mpr ⟨rfl, List.forall_mem_cons.mpr ⟨rfl, List.forall_mem_cons.mpr ⟨rfl, List.forall_mem_cons.mpr ⟨rfl, List.forall_mem_cons.mpr ⟨rfl, List.forall_mem_cons.mpr ⟨rfl, fun _ h9 => nomatch h9⟩⟩⟩⟩⟩⟩) ?_
      exact next (j + 1) (by omega) _ (by omega) V3 _ sz2 (c1 + 2) (n1 + 12) y (hcu1.fr ha3 (Or.inl (Nat.le_refl _))) hmo3 hW (by omega) (by omega)
    · have e9 : (e_bp y (xs (6 * j + 1)) (xs (6 * j + 2))) = 0 := by omega
      obtain ⟨hcu1, r1, rfl, hr1⟩ := hy1 e9
      obtain ⟨hr3, hmo3⟩ := hy3 e9
      have hrr : r2 = r1 := ti_inj (Eq.trans hr3 (Eq.symm hr1))
      subst hrr
      refine j_aload_n dL_law_1419 rfl ?_
      refine j_iconst (v := 0) dL_law_1420 (by decide) ?_
      refine j_lald dL_law_1421 hB (hT1) (by decide) (by decide) ?_
      refine j_iload dL_law_1422 rfl ?_
      refine j_i2l dL_law_1424 ?_
      refine j_lcmp dL_law_1425 ?_
      rw [show (jset X.1 (qx + 501) 0 r2.toInt64, X.2).1 (qx + 501) (0 : Int32).toNatClampNeg = r2.toInt64 from jset_eq, lg_self]
      refine m_if_eq (tgt := 1431) dL_law_1426 (by decide) (iC 0 (by decide)) (fun c_1426 => ?_) (fun c_1426 => ?_)
      · refine j_goto (tgt := 1727) dL_law_1431 (by decide) ?_
        refine j_sub2 (L' := [(0, _), (1, _), (2, _), (3, _), (4, _), (5, _)]) (List.forall_mem_cons.mpr ⟨rfl, List.forall_mem_cons.mpr ⟨rfl, List.forall_mem_cons.mpr ⟨rfl, List.forall_mem_cons.mpr ⟨rfl, List.forall_mem_cons.mpr ⟨rfl, List.forall_mem_cons.mpr ⟨rfl, fun _ h9 => nomatch h9⟩⟩⟩⟩⟩⟩) ?_
        exact next (j + 1) (by omega) _ (by omega) V3 _ sz2 (c1 + 2) (n1 + 12) y (hcu1.fr ha3 (Or.inl (Nat.le_refl _))) hmo3 hW (by omega) (by omega)
      · exact absurd c_1426 (by decide)
  · exact absurd rfl c_1409
set_option maxRecDepth 100000 in
set_option maxHeartbeats 4000000 in
theorem lc_20 (hB : jB l s0 D) (hN : jN s0) {b N qx : Nat} {xs : Nat → Int32} (hXs : va_X b N xs s0 s0.heap) (hbs : b < s0.heap.size) (hN3 : N ≤ 3072) (hT1 : T (qx + 501) = some (kJ 1)) (hT2 : T (qx + 502) = some (kDb 1)) {j : Nat} {i : Int32} {V : jV} {X : jX} {sz c1 n1 : Nat} {y : aX} (hj : 6 * j + 6 ≤ N) (hi : i.toInt = ((6 * j : Nat) : Int)) (hcu : cuIs T V qx y) (hmo : moIs T V (qx + 492) y) (hW : xW y) (hc1 : c1 ≤ 600 + 5 * j) (hn1 : n1 ≤ 6000 + 30 * j)
    (next : ∀ (j' : Nat), (j < j' ∧ j' ≤ 512) → ∀ i : Int32, i.toInt = ((6 * (j' - 1) : Nat) : Int) → ∀ (V : jV) (X : jX) (sz c1 n1 : Nat) (y : aX), cuIs T V qx y → moIs T V (qx + 492) y → xW y → c1 ≤ 600 + 5 * j' → n1 ≤ 6000 + 30 * j' → J l s0 D kLaw room_1 616825 7245630 (fun o _ _ _ _ => o = .inl (some (.int 1))) 1727 [(0, .ref b), (1, .ref qx), (2, .ref (qx + 492)), (3, .ref (qx + 501)), (4, .ref (qx + 502)), (5, .int i)] [] T V X sz c1 n1) : J l s0 D kLaw room_1 616825 7245630 (fun o _ _ _ _ => o = .inl (some (.int 1))) 1434 [(0, .ref b), (1, .ref qx), (2, .ref (qx + 492)), (3, .ref (qx + 501)), (4, .ref (qx + 502)), (5, .int i)] [] T V X sz c1 n1 := by
  refine j_aload_n dL_law_1434 rfl ?_
  refine j_aload_n dL_law_1435 rfl ?_
  refine j_iload dL_law_1436 rfl ?_
  refine j_iconst (v := 1) dL_law_1438 (by decide) ?_
  refine j_iadd dL_law_1439 ?_
  refine j_sld (k := 6 * j + 1) dL_law_1440 hXs hbs (ixk (iA (hi) (iC 1 (by decide)) (by omega)) (by omega)) (by omega) ?_
  refine j_aload_n dL_law_1441 rfl ?_
  refine j_iload dL_law_1442 rfl ?_
  refine j_iconst (v := 2) dL_law_1444 (by decide) ?_
  refine j_iadd dL_law_1445 ?_
  refine j_sld (k := 6 * j + 2) dL_law_1446 hXs hbs (ixk (iA (hi) (iC 2 (by decide)) (by omega)) (by omega)) (by omega) ?_
  refine j_aload_n dL_law_1447 rfl ?_
  refine j_callH dL_law_1448 hB mo_L_ifCranked ml_L_164 (sp_L_ifCranked hB hN hcu hW hT1) rfl rfl ⟨rfl, rfl, by decide, by decide⟩ (Nat.le_of_ble_eq_true rfl) ⟨by show c1 + 2 ≤ 616825; omega, by show n1 + 12 ≤ 7245630; omega⟩ ?_ (by rintro E9 T9 V9 X9 sz9 ⟨k9, h9, -⟩; cases h9)
  rintro v9 T2 V2 X2 sz2 ⟨k1, h9, rfl, hz9, ha1, he1, hy1, hn1⟩
  cases h9
  have hmo1 := hmo.fr ha1 (Or.inr (Nat.le_refl _))
  refine j_istore (L' := [(0, _), (1, _), (2, _), (3, _), (4, _), (5, _), (6, _)]) dL_law_1451 (by decide) rfl ?_
  refine j_aload_n dL_law_1453 rfl ?_
  refine j_aload_n dL_law_1454 rfl ?_
  refine j_iload dL_law_1455 rfl ?_
  refine j_iconst (v := 1) dL_law_1457 (by decide) ?_
  refine j_iadd dL_law_1458 ?_
  refine j_sld (k := 6 * j + 1) dL_law_1459 hXs hbs (ixk (iA (hi) (iC 1 (by decide)) (by omega)) (by omega)) (by omega) ?_
  refine j_aload_n dL_law_1460 rfl ?_
  refine j_iload dL_law_1461 rfl ?_
  refine j_iconst (v := 2) dL_law_1463 (by decide) ?_
  refine j_iadd dL_law_1464 ?_
  refine j_sld (k := 6 * j + 2) dL_law_1465 hXs hbs (ixk (iA (hi) (iC 2 (by decide)) (by omega)) (by omega)) (by omega) ?_
  refine j_cVi dL_law_1466 hB mo_X8_ifCranked ml_L_166 (sp_X8_ifCranked hB hmo1.1 hmo1 hW) hmo1.1.1 rfl rfl rfl rfl ⟨rfl, rfl, by decide, by decide⟩ (Nat.le_of_ble_eq_true rfl) ⟨by show c1 + 2 ≤ 616825; omega, by show n1 + 12 ≤ 7245630; omega⟩ (fun r2 V3 h3 => ?_)
  obtain ⟨ha3, he3, hy3, hn3⟩ := h3
  refine j_istore (L' := [(0, _), (1, _), (2, _), (3, _), (4, _), (5, _), (6, _), (7, _)]) dL_law_1469 (by decide) rfl ?_
  refine j_aload_n dL_law_1471 rfl ?_
  refine j_cVi dL_law_1472 hB mo_X8_thrown ml_L_98 (sp_X8_thrown hB hmo1.1) hmo1.1.1 rfl rfl rfl rfl ⟨rfl, rfl, by decide, by decide⟩ (Nat.le_of_ble_eq_true rfl) ⟨by show c1 + 2 ≤ 616825; omega, by show n1 + 12 ≤ 7245630; omega⟩ (fun r4 V4 h4 => ?_)
  obtain ⟨rfl, h4⟩ := h4
  subst h4
  refine j_iload dL_law_1475 rfl ?_
  refine m_icmp_eq (tgt := 1482) dL_law_1477 (by decide) (he3) (he1) (fun c_1477 => ?_) (fun c_1477 => ?_)
  · refine j_iload dL_law_1482 rfl ?_
    refine m_if_ne (tgt := 1499) dL_law_1484 (by decide) (he1) (fun c_1484 => ?_) (fun c_1484 => ?_)
    · have e9 : ¬ (e_if (xs (6 * j + 1)) (xs (6 * j + 2))) = 0 := by omega
      obtain ⟨hcu1, rfl⟩ := hn1 e9
      have hmo3 := hn3 e9
      refine j_goto (tgt := 1727) dL_law_1499 (by decide) ?_
      refine j_sub2 (L' := [(0, _), (1, _), (2, _), (3, _), (4, _), (5, _)]) (List.forall_mem_cons.mpr ⟨rfl, List.forall_mem_cons.mpr ⟨rfl, List.forall_mem_cons.mpr ⟨rfl, List.forall_mem_cons.mpr ⟨rfl, List.forall_mem_cons.mpr ⟨rfl, List.forall_mem_cons.mpr ⟨rfl, fun _ h9 => nomatch h9⟩⟩⟩⟩⟩⟩) ?_
      exact next (j + 1) (by omega) _ (by omega) V3 _ sz2 (c1 + 2) (n1 + 12) y (hcu1.fr ha3 (Or.inl (Nat.le_refl _))) hmo3 hW (by omega) (by omega)
    · have e9 : (e_if (xs (6 * j + 1)) (xs (6 * j + 2))) = 0 := by omega
      obtain ⟨hcu1, r1, rfl, hr1⟩ := hy1 e9
      obtain ⟨hr3, hmo3⟩ := hy3 e9
      have hrr : r2 = r1 := ti_inj (Eq.trans hr3 (Eq.symm hr1))
      subst hrr
      refine j_aload_n dL_law_1487 rfl ?_
      refine j_iconst (v := 0) dL_law_1488 (by decide) ?_
      refine j_lald dL_law_1489 hB (hT1) (by decide) (by decide) ?_
      refine j_iload dL_law_1490 rfl ?_
      refine j_i2l dL_law_1492 ?_
      refine j_lcmp dL_law_1493 ?_
      rw [show (jset X.1 (qx + 501) 0 r2.toInt64, X.2).1 (qx + 501) (0 : Int32).toNatClampNeg = r2.toInt64 from jset_eq, lg_self]
      refine m_if_eq (tgt := 1499) dL_law_1494 (by decide) (iC 0 (by decide)) (fun c_1494 => ?_) (fun c_1494 => ?_)
      · refine j_goto (tgt := 1727) dL_law_1499 (by decide) ?_
        refine j_sub2 (L' := [(0, _), (1, _), (2, _), (3, _), (4, _), (5, _)]) (List.forall_mem_cons.mpr ⟨rfl, List.forall_mem_cons.mpr ⟨rfl, List.forall_mem_cons.mpr ⟨rfl, List.forall_mem_cons.mpr ⟨rfl, List.forall_mem_cons.mpr ⟨rfl, List.forall_mem_cons.mpr ⟨rfl, fun _ h9 => nomatch h9⟩⟩⟩⟩⟩⟩) ?_
        exact next (j + 1) (by omega) _ (by omega) V3 _ sz2 (c1 + 2) (n1 + 12) y (hcu1.fr ha3 (Or.inl (Nat.le_refl _))) hmo3 hW (by omega) (by omega)
      · exact absurd c_1494 (by decide)
  · exact absurd rfl c_1477
set_option maxRecDepth 100000 in
set_option maxHeartbeats 4000000 in
theorem lc_21 (hB : jB l s0 D) (hN : jN s0) {b N qx : Nat} {xs : Nat → Int32} (hXs : va_X b N xs s0 s0.heap) (hbs : b < s0.heap.size) (hN3 : N ≤ 3072) (hT1 : T (qx + 501) = some (kJ 1)) (hT2 : T (qx + 502) = some (kDb 1)) {j : Nat} {i : Int32} {V : jV} {X : jX} {sz c1 n1 : Nat} {y : aX} (hj : 6 * j + 6 ≤ N) (hi : i.toInt = ((6 * j : Nat) : Int)) (hcu : cuIs T V qx y) (hmo : moIs T V (qx + 492) y) (hW : xW y) (hc1 : c1 ≤ 600 + 5 * j) (hn1 : n1 ≤ 6000 + 30 * j)
    (next : ∀ (j' : Nat), (j < j' ∧ j' ≤ 512) → ∀ i : Int32, i.toInt = ((6 * (j' - 1) : Nat) : Int) → ∀ (V : jV) (X : jX) (sz c1 n1 : Nat) (y : aX), cuIs T V qx y → moIs T V (qx + 492) y → xW y → c1 ≤ 600 + 5 * j' → n1 ≤ 6000 + 30 * j' → J l s0 D kLaw room_1 616825 7245630 (fun o _ _ _ _ => o = .inl (some (.int 1))) 1727 [(0, .ref b), (1, .ref qx), (2, .ref (qx + 492)), (3, .ref (qx + 501)), (4, .ref (qx + 502)), (5, .int i)] [] T V X sz c1 n1) : J l s0 D kLaw room_1 616825 7245630 (fun o _ _ _ _ => o = .inl (some (.int 1))) 1502 [(0, .ref b), (1, .ref qx), (2, .ref (qx + 492)), (3, .ref (qx + 501)), (4, .ref (qx + 502)), (5, .int i)] [] T V X sz c1 n1 := by
  refine j_aload_n dL_law_1502 rfl ?_
  refine j_aload_n dL_law_1503 rfl ?_
  refine j_iload dL_law_1504 rfl ?_
  refine j_iconst (v := 1) dL_law_1506 (by decide) ?_
  refine j_iadd dL_law_1507 ?_
  refine j_sld (k := 6 * j + 1) dL_law_1508 hXs hbs (ixk (iA (hi) (iC 1 (by decide)) (by omega)) (by omega)) (by omega) ?_
  refine j_aload_n dL_law_1509 rfl ?_
  refine j_callH dL_law_1510 hB mo_L_bestSpeed ml_L_167 (sp_L_bestSpeed hB hN hcu hW hT1) rfl rfl ⟨rfl, rfl, by decide, by decide⟩ (Nat.le_of_ble_eq_true rfl) ⟨by show c1 + 1 ≤ 616825; omega, by show n1 + 6 ≤ 7245630; omega⟩ ?_ (by rintro E9 T9 V9 X9 sz9 ⟨k9, h9, -⟩; cases h9)
  rintro v9 T2 V2 X2 sz2 ⟨k1, h9, rfl, hz9, ha1, he1, hy1, hn1⟩
  cases h9
  have hmo1 := hmo.fr ha1 (Or.inr (Nat.le_refl _))
  refine j_istore (L' := [(0, _), (1, _), (2, _), (3, _), (4, _), (5, _), (6, _)]) dL_law_1513 (by decide) rfl ?_
  refine j_aload_n dL_law_1515 rfl ?_
  refine j_aload_n dL_law_1516 rfl ?_
  refine j_iload dL_law_1517 rfl ?_
  refine j_iconst (v := 1) dL_law_1519 (by decide) ?_
  refine j_iadd dL_law_1520 ?_
  refine j_sld (k := 6 * j + 1) dL_law_1521 hXs hbs (ixk (iA (hi) (iC 1 (by decide)) (by omega)) (by omega)) (by omega) ?_
  refine j_cVi dL_law_1522 hB mo_X8_bestSpeed ml_L_169 (sp_X8_bestSpeed hB hmo1.1 hmo1 hW) hmo1.1.1 rfl rfl rfl rfl ⟨rfl, rfl, by decide, by decide⟩ (Nat.le_of_ble_eq_true rfl) ⟨by show c1 + 1 ≤ 616825; omega, by show n1 + 6 ≤ 7245630; omega⟩ (fun r2 V3 h3 => ?_)
  obtain ⟨ha3, he3, hy3, hn3⟩ := h3
  refine j_istore (L' := [(0, _), (1, _), (2, _), (3, _), (4, _), (5, _), (6, _), (7, _)]) dL_law_1525 (by decide) rfl ?_
  refine j_aload_n dL_law_1527 rfl ?_
  refine j_cVi dL_law_1528 hB mo_X8_thrown ml_L_98 (sp_X8_thrown hB hmo1.1) hmo1.1.1 rfl rfl rfl rfl ⟨rfl, rfl, by decide, by decide⟩ (Nat.le_of_ble_eq_true rfl) ⟨by show c1 + 1 ≤ 616825; omega, by show n1 + 6 ≤ 7245630; omega⟩ (fun r4 V4 h4 => ?_)
  obtain ⟨rfl, h4⟩ := h4
  subst h4
  refine j_iload dL_law_1531 rfl ?_
  refine m_icmp_eq (tgt := 1538) dL_law_1533 (by decide) (he3) (he1) (fun c_1533 => ?_) (fun c_1533 => ?_)
  · refine j_iload dL_law_1538 rfl ?_
    refine m_if_ne (tgt := 1555) dL_law_1540 (by decide) (he1) (fun c_1540 => ?_) (fun c_1540 => ?_)
    · have e9 : ¬ (e_fit (xs (6 * j + 1))) = 0 := by omega
      obtain ⟨hcu1, rfl⟩ := hn1 e9
      have hmo3 := hn3 e9
      refine j_goto (tgt := 1727) dL_law_1555 (by decide) ?_
      refine j_sub2 (L' := [(0, _), (1, _), (2, _), (3, _), (4, _), (5, _)]) (List.forall_mem_cons.mpr ⟨rfl, List.forall_mem_cons.mpr ⟨rfl, List.forall_mem_cons.mpr ⟨rfl, List.forall_mem_cons.mpr ⟨rfl, List.forall_mem_cons.mpr ⟨rfl, List.forall_mem_cons.mpr ⟨rfl, fun _ h9 => nomatch h9⟩⟩⟩⟩⟩⟩) ?_
      exact next (j + 1) (by omega) _ (by omega) V3 _ sz2 (c1 + 1) (n1 + 6) y (hcu1.fr ha3 (Or.inl (Nat.le_refl _))) hmo3 hW (by omega) (by omega)
    · have e9 : (e_fit (xs (6 * j + 1))) = 0 := by omega
      obtain ⟨hcu1, r1, rfl, hr1⟩ := hy1 e9
      obtain ⟨hr3, hmo3⟩ := hy3 e9
      have hrr : r2 = r1 := ti_inj (Eq.trans hr3 (Eq.symm hr1))
      subst hrr
      refine j_aload_n dL_law_1543 rfl ?_
      refine j_iconst (v := 0) dL_law_1544 (by decide) ?_
      refine j_lald dL_law_1545 hB (hT1) (by decide) (by decide) ?_
      refine j_iload dL_law_1546 rfl ?_
      refine j_i2l dL_law_1548 ?_
      refine j_lcmp dL_law_1549 ?_
      rw [show (jset X.1 (qx + 501) 0 r2.toInt64, X.2).1 (qx + 501) (0 : Int32).toNatClampNeg = r2.toInt64 from jset_eq, lg_self]
      refine m_if_eq (tgt := 1555) dL_law_1550 (by decide) (iC 0 (by decide)) (fun c_1550 => ?_) (fun c_1550 => ?_)
      · refine j_goto (tgt := 1727) dL_law_1555 (by decide) ?_
        refine j_sub2 (L' := [(0, _), (1, _), (2, _), (3, _), (4, _), (5, _)]) (List.forall_mem_cons.mpr ⟨rfl, List.forall_mem_cons.mpr ⟨rfl, List.forall_mem_cons.mpr ⟨rfl, List.forall_mem_cons.mpr ⟨rfl, List.forall_mem_cons.mpr ⟨rfl, List.forall_mem_cons.mpr ⟨rfl, fun _ h9 => nomatch h9⟩⟩⟩⟩⟩⟩) ?_
        exact next (j + 1) (by omega) _ (by omega) V3 _ sz2 (c1 + 1) (n1 + 6) y (hcu1.fr ha3 (Or.inl (Nat.le_refl _))) hmo3 hW (by omega) (by omega)
      · exact absurd c_1550 (by decide)
  · exact absurd rfl c_1533
set_option maxRecDepth 100000 in
set_option maxHeartbeats 4000000 in
theorem lc_22 (hB : jB l s0 D) (hN : jN s0) {b N qx : Nat} {xs : Nat → Int32} (hXs : va_X b N xs s0 s0.heap) (hbs : b < s0.heap.size) (hN3 : N ≤ 3072) (hT1 : T (qx + 501) = some (kJ 1)) (hT2 : T (qx + 502) = some (kDb 1)) {j : Nat} {i : Int32} {V : jV} {X : jX} {sz c1 n1 : Nat} {y : aX} (hj : 6 * j + 6 ≤ N) (hi : i.toInt = ((6 * j : Nat) : Int)) (hcu : cuIs T V qx y) (hmo : moIs T V (qx + 492) y) (hW : xW y) (hc1 : c1 ≤ 600 + 5 * j) (hn1 : n1 ≤ 6000 + 30 * j)
    (next : ∀ (j' : Nat), (j < j' ∧ j' ≤ 512) → ∀ i : Int32, i.toInt = ((6 * (j' - 1) : Nat) : Int) → ∀ (V : jV) (X : jX) (sz c1 n1 : Nat) (y : aX), cuIs T V qx y → moIs T V (qx + 492) y → xW y → c1 ≤ 600 + 5 * j' → n1 ≤ 6000 + 30 * j' → J l s0 D kLaw room_1 616825 7245630 (fun o _ _ _ _ => o = .inl (some (.int 1))) 1727 [(0, .ref b), (1, .ref qx), (2, .ref (qx + 492)), (3, .ref (qx + 501)), (4, .ref (qx + 502)), (5, .int i)] [] T V X sz c1 n1) : J l s0 D kLaw room_1 616825 7245630 (fun o _ _ _ _ => o = .inl (some (.int 1))) 1558 [(0, .ref b), (1, .ref qx), (2, .ref (qx + 492)), (3, .ref (qx + 501)), (4, .ref (qx + 502)), (5, .int i)] [] T V X sz c1 n1 := by
  refine j_aload_n dL_law_1558 rfl ?_
  refine j_aload_n dL_law_1559 rfl ?_
  refine j_iload dL_law_1560 rfl ?_
  refine j_iconst (v := 1) dL_law_1562 (by decide) ?_
  refine j_iadd dL_law_1563 ?_
  refine j_sld (k := 6 * j + 1) dL_law_1564 hXs hbs (ixk (iA (hi) (iC 1 (by decide)) (by omega)) (by omega)) (by omega) ?_
  refine j_aload dL_law_1565 rfl ?_
  refine j_callH dL_law_1567 hB mo_L_offShare ml_L_170 (sp_L_offShare hB hN hcu hW hT2) rfl rfl ⟨rfl, rfl, by decide, by decide⟩ (Nat.le_of_ble_eq_true rfl) ⟨by show c1 + 1 ≤ 616825; omega, by show n1 + 6 ≤ 7245630; omega⟩ ?_ (by rintro E9 T9 V9 X9 sz9 ⟨k9, h9, -⟩; cases h9)
  rintro v9 T2 V2 X2 sz2 ⟨k1, h9, rfl, hz9, ha1, he1, hy1, hn1⟩
  cases h9
  have hmo1 := hmo.fr ha1 (Or.inr (Nat.le_refl _))
  refine j_istore (L' := [(0, _), (1, _), (2, _), (3, _), (4, _), (5, _), (6, _)]) dL_law_1570 (by decide) rfl ?_
  refine j_aload_n dL_law_1572 rfl ?_
  refine j_aload_n dL_law_1573 rfl ?_
  refine j_iload dL_law_1574 rfl ?_
  refine j_iconst (v := 1) dL_law_1576 (by decide) ?_
  refine j_iadd dL_law_1577 ?_
  refine j_sld (k := 6 * j + 1) dL_law_1578 hXs hbs (ixk (iA (hi) (iC 1 (by decide)) (by omega)) (by omega)) (by omega) ?_
  refine j_cVf dL_law_1579 hB mo_X8_offShare ml_L_173 (sp_X8_offShare hB hmo1.1 hmo1 hW) hmo1.1.1 rfl rfl rfl rfl ⟨rfl, rfl, by decide, by decide⟩ (Nat.le_of_ble_eq_true rfl) ⟨by show c1 + 1 ≤ 616825; omega, by show n1 + 6 ≤ 7245630; omega⟩ (fun r2 V3 h3 => ?_)
  obtain ⟨ha3, he3, hv3, hmo3⟩ := h3
  refine j_fstore (L' := [(0, _), (1, _), (2, _), (3, _), (4, _), (5, _), (6, _), (7, _)]) dL_law_1582 (by decide) rfl ?_
  refine j_aload_n dL_law_1584 rfl ?_
  refine j_cVi dL_law_1585 hB mo_X8_thrown ml_L_98 (sp_X8_thrown hB hmo1.1) hmo1.1.1 rfl rfl rfl rfl ⟨rfl, rfl, by decide, by decide⟩ (Nat.le_of_ble_eq_true rfl) ⟨by show c1 + 1 ≤ 616825; omega, by show n1 + 6 ≤ 7245630; omega⟩ (fun r4 V4 h4 => ?_)
  obtain ⟨rfl, h4⟩ := h4
  subst h4
  refine j_iload dL_law_1588 rfl ?_
  refine m_icmp_eq (tgt := 1595) dL_law_1590 (by decide) (he3) (he1) (fun c_1590 => ?_) (fun c_1590 => ?_)
  · refine j_iload dL_law_1595 rfl ?_
    refine m_if_ne (tgt := 1633) dL_law_1597 (by decide) (he1) (fun c_1597 => ?_) (fun c_1597 => ?_)
    · have e9 : ¬ (e_fit (xs (6 * j + 1))) = 0 := by omega
      obtain ⟨hcu1, rfl⟩ := hn1 e9
      refine j_goto (tgt := 1727) dL_law_1633 (by decide) ?_
      refine j_sub2 (L' := [(0, _), (1, _), (2, _), (3, _), (4, _), (5, _)]) (List.forall_mem_cons.mpr ⟨rfl, List.forall_mem_cons.mpr ⟨rfl, List.forall_mem_cons.mpr ⟨rfl, List.forall_mem_cons.mpr ⟨rfl, List.forall_mem_cons.mpr ⟨rfl, List.forall_mem_cons.mpr ⟨rfl, fun _ h9 => nomatch h9⟩⟩⟩⟩⟩⟩) ?_
      exact next (j + 1) (by omega) _ (by omega) V3 _ sz2 (c1 + 1) (n1 + 6) y (hcu1.fr ha3 (Or.inl (Nat.le_refl _))) hmo3 hW (by omega) (by omega)
    · have e9 : (e_fit (xs (6 * j + 1))) = 0 := by omega
      obtain ⟨hcu1, rfl⟩ := hy1 e9
      have hv3 := hv3 e9
      subst hv3
      refine j_aload dL_law_1600 rfl ?_
      refine j_iconst (v := 0) dL_law_1602 (by decide) ?_
      refine j_dald dL_law_1603 hB (hT2) (by decide) (by decide) ?_
      refine j_fload dL_law_1604 rfl ?_
      refine j_f2d dL_law_1606 ((f2d_V (ofV_V hW.1.1 (hW.r (xs (6 * j + 1))))).n) ?_
      refine j_dcmp dL_law_1607 ?_
      rw [show (X.1, jset X.2 (qx + 502) 0 (FP.f2d (ofV y.1 (xR y (xs (6 * j + 1)))))).2 (qx + 502) (0 : Int32).toNatClampNeg = (FP.f2d (ofV y.1 (xR y (xs (6 * j + 1))))) from jset_eq, dcmp_self (f2d_V (ofV_V hW.1.1 (hW.r (xs (6 * j + 1))))), show Op.cmpValue (some Ordering.eq) .l = 0 from rfl]
      refine m_if_eq (tgt := 1633) dL_law_1608 (by decide) (iC 0 (by decide)) (fun c_1608 => ?_) (fun c_1608 => ?_)
      · refine j_goto (tgt := 1727) dL_law_1633 (by decide) ?_
        refine j_sub2 (L' := [(0, _), (1, _), (2, _), (3, _), (4, _), (5, _)]) (List.forall_mem_cons.mpr ⟨rfl, List.forall_mem_cons.mpr ⟨rfl, List.forall_mem_cons.mpr ⟨rfl, List.forall_mem_cons.mpr ⟨rfl, List.forall_mem_cons.mpr ⟨rfl, List.forall_mem_cons.mpr ⟨rfl, fun _ h9 => nomatch h9⟩⟩⟩⟩⟩⟩) ?_
        exact next (j + 1) (by omega) _ (by omega) V3 _ sz2 (c1 + 1) (n1 + 6) y (hcu1.fr ha3 (Or.inl (Nat.le_refl _))) hmo3 hW (by omega) (by omega)
      · exact absurd c_1608 (by decide)
  · exact absurd rfl c_1590
set_option maxRecDepth 100000 in
set_option maxHeartbeats 4000000 in
theorem lc_23 (hB : jB l s0 D) (hN : jN s0) {b N qx : Nat} {xs : Nat → Int32} (hXs : va_X b N xs s0 s0.heap) (hbs : b < s0.heap.size) (hN3 : N ≤ 3072) (hT1 : T (qx + 501) = some (kJ 1)) (hT2 : T (qx + 502) = some (kDb 1)) {j : Nat} {i : Int32} {V : jV} {X : jX} {sz c1 n1 : Nat} {y : aX} (hj : 6 * j + 6 ≤ N) (hi : i.toInt = ((6 * j : Nat) : Int)) (hcu : cuIs T V qx y) (hmo : moIs T V (qx + 492) y) (hW : xW y) (hc1 : c1 ≤ 600 + 5 * j) (hn1 : n1 ≤ 6000 + 30 * j)
    (next : ∀ (j' : Nat), (j < j' ∧ j' ≤ 512) → ∀ i : Int32, i.toInt = ((6 * (j' - 1) : Nat) : Int) → ∀ (V : jV) (X : jX) (sz c1 n1 : Nat) (y : aX), cuIs T V qx y → moIs T V (qx + 492) y → xW y → c1 ≤ 600 + 5 * j' → n1 ≤ 6000 + 30 * j' → J l s0 D kLaw room_1 616825 7245630 (fun o _ _ _ _ => o = .inl (some (.int 1))) 1727 [(0, .ref b), (1, .ref qx), (2, .ref (qx + 492)), (3, .ref (qx + 501)), (4, .ref (qx + 502)), (5, .int i)] [] T V X sz c1 n1) : J l s0 D kLaw room_1 616825 7245630 (fun o _ _ _ _ => o = .inl (some (.int 1))) 1636 [(0, .ref b), (1, .ref qx), (2, .ref (qx + 492)), (3, .ref (qx + 501)), (4, .ref (qx + 502)), (5, .int i)] [] T V X sz c1 n1 := by
  refine j_aload_n dL_law_1636 rfl ?_
  refine j_aload_n dL_law_1637 rfl ?_
  refine j_iload dL_law_1638 rfl ?_
  refine j_iconst (v := 1) dL_law_1640 (by decide) ?_
  refine j_iadd dL_law_1641 ?_
  refine j_sld (k := 6 * j + 1) dL_law_1642 hXs hbs (ixk (iA (hi) (iC 1 (by decide)) (by omega)) (by omega)) (by omega) ?_
  refine j_aload dL_law_1643 rfl ?_
  refine j_callH dL_law_1645 hB mo_L_meanSpeed ml_L_174 (sp_L_meanSpeed hB hN hcu hW hT2) rfl rfl ⟨rfl, rfl, by decide, by decide⟩ (Nat.le_of_ble_eq_true rfl) ⟨by show c1 + 1 ≤ 616825; omega, by show n1 + 6 ≤ 7245630; omega⟩ ?_ (by rintro E9 T9 V9 X9 sz9 ⟨k9, h9, -⟩; cases h9)
  rintro v9 T2 V2 X2 sz2 ⟨k1, h9, rfl, hz9, ha1, he1, hy1, hn1⟩
  cases h9
  have hmo1 := hmo.fr ha1 (Or.inr (Nat.le_refl _))
  refine j_istore (L' := [(0, _), (1, _), (2, _), (3, _), (4, _), (5, _), (6, _)]) dL_law_1648 (by decide) rfl ?_
  refine j_aload_n dL_law_1650 rfl ?_
  refine j_aload_n dL_law_1651 rfl ?_
  refine j_iload dL_law_1652 rfl ?_
  refine j_iconst (v := 1) dL_law_1654 (by decide) ?_
  refine j_iadd dL_law_1655 ?_
  refine j_sld (k := 6 * j + 1) dL_law_1656 hXs hbs (ixk (iA (hi) (iC 1 (by decide)) (by omega)) (by omega)) (by omega) ?_
  refine j_cVd dL_law_1657 hB mo_X8_meanSpeed ml_L_176 (sp_X8_meanSpeed hB hmo1.1 hmo1 hW) hmo1.1.1 rfl rfl rfl rfl ⟨rfl, rfl, by decide, by decide⟩ (Nat.le_of_ble_eq_true rfl) ⟨by show c1 + 1 ≤ 616825; omega, by show n1 + 6 ≤ 7245630; omega⟩ (fun r2 V3 h3 => ?_)
  obtain ⟨ha3, he3, hv3, hmo3⟩ := h3
  refine j_dstore (L' := [(0, _), (1, _), (2, _), (3, _), (4, _), (5, _), (6, _), (7, _)]) dL_law_1660 (by decide) rfl ?_
  refine j_aload_n dL_law_1662 rfl ?_
  refine j_cVi dL_law_1663 hB mo_X8_thrown ml_L_98 (sp_X8_thrown hB hmo1.1) hmo1.1.1 rfl rfl rfl rfl ⟨rfl, rfl, by decide, by decide⟩ (Nat.le_of_ble_eq_true rfl) ⟨by show c1 + 1 ≤ 616825; omega, by show n1 + 6 ≤ 7245630; omega⟩ (fun r4 V4 h4 => ?_)
  obtain ⟨rfl, h4⟩ := h4
  subst h4
  refine j_iload dL_law_1666 rfl ?_
  refine m_icmp_eq (tgt := 1673) dL_law_1668 (by decide) (he3) (he1) (fun c_1668 => ?_) (fun c_1668 => ?_)
  · refine j_iload dL_law_1673 rfl ?_
    refine m_if_ne (tgt := 1710) dL_law_1675 (by decide) (he1) (fun c_1675 => ?_) (fun c_1675 => ?_)
    · have e9 : ¬ (e_fit (xs (6 * j + 1))) = 0 := by omega
      obtain ⟨hcu1, rfl⟩ := hn1 e9
      refine j_goto (tgt := 1727) dL_law_1710 (by decide) ?_
      refine j_sub2 (L' := [(0, _), (1, _), (2, _), (3, _), (4, _), (5, _)]) (List.forall_mem_cons.mpr ⟨rfl, List.forall_mem_cons.mpr ⟨rfl, List.forall_mem_cons.mpr ⟨rfl, List.forall_mem_cons.mpr ⟨rfl, List.forall_mem_cons.mpr ⟨rfl, List.forall_mem_cons.mpr ⟨rfl, fun _ h9 => nomatch h9⟩⟩⟩⟩⟩⟩) ?_
      exact next (j + 1) (by omega) _ (by omega) V3 _ sz2 (c1 + 1) (n1 + 6) y (hcu1.fr ha3 (Or.inl (Nat.le_refl _))) hmo3 hW (by omega) (by omega)
    · have e9 : (e_fit (xs (6 * j + 1))) = 0 := by omega
      obtain ⟨hcu1, rfl⟩ := hy1 e9
      have hv3 := hv3 e9
      subst hv3
      refine j_aload dL_law_1678 rfl ?_
      refine j_iconst (v := 0) dL_law_1680 (by decide) ?_
      refine j_dald dL_law_1681 hB (hT2) (by decide) (by decide) ?_
      refine j_dload dL_law_1682 rfl ?_
      refine j_dcmp dL_law_1684 ?_
      rw [show (X.1, jset X.2 (qx + 502) 0 ((mnV (xR y (xs (6 * j + 1)))))).2 (qx + 502) (0 : Int32).toNatClampNeg = ((mnV (xR y (xs (6 * j + 1))))) from jset_eq, dcmp_self (mnV_V (hW.r (xs (6 * j + 1)))).1, show Op.cmpValue (some Ordering.eq) .l = 0 from rfl]
      refine m_if_eq (tgt := 1710) dL_law_1685 (by decide) (iC 0 (by decide)) (fun c_1685 => ?_) (fun c_1685 => ?_)
      · refine j_goto (tgt := 1727) dL_law_1710 (by decide) ?_
        refine j_sub2 (L' := [(0, _), (1, _), (2, _), (3, _), (4, _), (5, _)]) (List.forall_mem_cons.mpr ⟨rfl, List.forall_mem_cons.mpr ⟨rfl, List.forall_mem_cons.mpr ⟨rfl, List.forall_mem_cons.mpr ⟨rfl, List.forall_mem_cons.mpr ⟨rfl, List.forall_mem_cons.mpr ⟨rfl, fun _ h9 => nomatch h9⟩⟩⟩⟩⟩⟩) ?_
        exact next (j + 1) (by omega) _ (by omega) V3 _ sz2 (c1 + 1) (n1 + 6) y (hcu1.fr ha3 (Or.inl (Nat.le_refl _))) hmo3 hW (by omega) (by omega)
      · exact absurd c_1685 (by decide)
  · exact absurd rfl c_1668
set_option maxRecDepth 100000 in
set_option maxHeartbeats 4000000 in
theorem lc_24 (hB : jB l s0 D) (hN : jN s0) {b N qx : Nat} {xs : Nat → Int32} (hXs : va_X b N xs s0 s0.heap) (hbs : b < s0.heap.size) (hN3 : N ≤ 3072) (hT1 : T (qx + 501) = some (kJ 1)) (hT2 : T (qx + 502) = some (kDb 1)) {j : Nat} {i : Int32} {V : jV} {X : jX} {sz c1 n1 : Nat} {y : aX} (hj : 6 * j + 6 ≤ N) (hi : i.toInt = ((6 * j : Nat) : Int)) (hcu : cuIs T V qx y) (hmo : moIs T V (qx + 492) y) (hW : xW y) (hc1 : c1 ≤ 600 + 5 * j) (hn1 : n1 ≤ 6000 + 30 * j)
    (next : ∀ (j' : Nat), (j < j' ∧ j' ≤ 512) → ∀ i : Int32, i.toInt = ((6 * (j' - 1) : Nat) : Int) → ∀ (V : jV) (X : jX) (sz c1 n1 : Nat) (y : aX), cuIs T V qx y → moIs T V (qx + 492) y → xW y → c1 ≤ 600 + 5 * j' → n1 ≤ 6000 + 30 * j' → J l s0 D kLaw room_1 616825 7245630 (fun o _ _ _ _ => o = .inl (some (.int 1))) 1727 [(0, .ref b), (1, .ref qx), (2, .ref (qx + 492)), (3, .ref (qx + 501)), (4, .ref (qx + 502)), (5, .int i)] [] T V X sz c1 n1) : J l s0 D kLaw room_1 616825 7245630 (fun o _ _ _ _ => o = .inl (some (.int 1))) 1713 [(0, .ref b), (1, .ref qx), (2, .ref (qx + 492)), (3, .ref (qx + 501)), (4, .ref (qx + 502)), (5, .int i)] [] T V X sz c1 n1 := by
  refine j_aload_n dL_law_1713 rfl ?_
  refine j_callV dL_law_1714 hB mo_X7_digest ml_L_177 (sp_X7_digest hB hcu hW) hcu.k rfl rfl rfl rfl ⟨rfl, rfl, by decide, by decide⟩ (Nat.le_of_ble_eq_true rfl) ⟨by show c1 + 0 ≤ 616825; omega, by show n1 + 0 ≤ 7245630; omega⟩ ?_ (by rintro E9 T9 V9 X9 sz9 ⟨rfl, rfl, -, ⟨v9, h9, -⟩ | ⟨E8, k9, h9, h8, h7, -⟩⟩; (cases h9); cases h7)
  rintro v9 T2 V2 X2 sz2 ⟨rfl, rfl, ha1, ⟨v8, h9, rfl, -, hv1, hcu1⟩ | ⟨E8, k9, h9, -⟩⟩
  rotate_left
  · cases h9
  cases h9
  subst hv1
  have hmo1 := hmo.fr ha1 (Or.inr (Nat.le_refl _))
  refine j_aload_n dL_law_1717 rfl ?_
  refine j_cVln dL_law_1718 hB mo_X8_digest ml_L_181 (sp_X8_digest hB hmo1.1 hmo1 hW) hmo1.1.1 rfl rfl rfl rfl ⟨rfl, rfl, by decide, by decide⟩ (Nat.le_of_ble_eq_true rfl) ⟨by show c1 + 0 ≤ 616825; omega, by show n1 + 0 ≤ 7245630; omega⟩ (fun r2 T3 V3 X3 sz3 h3 => ?_)
  obtain ⟨rfl, rfl, ha3, -, hmo3, -, rfl⟩ := h3
  refine j_lcmp dL_law_1721 ?_
  rw [lg_self]
  refine m_if_eq (tgt := 1727) dL_law_1722 (by decide) (iC 0 (by decide)) (fun c_1722 => ?_) (fun c_1722 => ?_)
  · exact next (j + 1) (by omega) _ (by omega) V3 _ _ (c1 + 0) (n1 + 0) y (hcu1.fr ha3 (Or.inl (Nat.le_refl _))) hmo3 hW (by omega) (by omega)
  · exact absurd c_1722 (by decide)
end JL
