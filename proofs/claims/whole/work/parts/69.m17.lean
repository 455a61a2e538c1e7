/-! the bits of floats and doubles; load -/
theorem cmp_self {f : Jvm.FP.Core.Fmt} {c : Nat} {q : Int} (hf : fok f) (h : nrm f c q) : Jvm.FP.Core.cmp f (nbits f c q) (nbits f c q) = some .eq := by
  unfold Jvm.FP.Core.cmp
  rw [decode_n hf h]
  show some (compare (Jvm.FP.Core.signed false (Jvm.FP.Core.inUnits c q (min q q))) (Jvm.FP.Core.signed false (Jvm.FP.Core.inUnits c q (min q q)))) = _
  congr 1
  exact Int.compare_eq_eq.mpr rfl
theorem fcmp_self {v : UInt32} (h : fV v) : FP.fcmp v v = some .eq := by
  rcases h with rfl | ⟨c, q, h, rfl⟩
  · exact cmp_00 f32
  · show Jvm.FP.Core.cmp Jvm.FP.Core.b32 _ _ = _
    rw [(nb32 h).1]
    exact cmp_self f32 h
theorem dcmp_self {v : UInt64} (h : dV v) : FP.dcmp v v = some .eq := by
  rcases h with rfl | ⟨c, q, h, rfl⟩
  · exact cmp_00 f64
  · show Jvm.FP.Core.cmp Jvm.FP.Core.b64 _ _ = _
    rw [(nb64 h).1]
    exact cmp_self f64 h
theorem fV.bits {v : UInt32} (h : fV v) : (v.toInt32).toInt64 = v.toUInt64.toInt64 := by
  have hl := h.lt
  rw [i64_i, u32_l]
  congr 1
  show v.toBitVec.toInt = (v.toBitVec.toNat : Int)
  rw [BitVec.toInt_eq_toNat_of_lt]
  show 2 * v.toNat < 4294967296
  omega
theorem j_ofWF {l : Launch} {y : MethodName} {ws ws' : List Cond} {rm : Room} {Pc : Array Value → State → Prop} {Qc : Array Value → State → Outcome → State → Prop} {XC : String → State → State → Prop} {mc ms : Nat} {free : Addr → Prop} {cc : ByteArray} {maxL : Nat} {ret : Option FieldType}
    (hy : plainFor y = true) (hw : ws = Cond.code y cc maxL ret :: ws')
    (body : ∀ p e s m args below meth c s₁, BodyLoose p l y (headSpec ws rm) cc maxL ret e s m args below meth c s₁ → c.maxLocals = maxL → (∀ x ∈ c.exceptionTable.toList, False) → Pc args s →
      W p l e (headSpec ws rm).room s m args below meth c s.heap [] 0 0 (vx_MQ below Qc XC args s mc ms free) (entryFrame m args maxL)) : vx_Met l y ws rm Pc Qc XC mc ms free := by
  refine MetFree.of_bodySF (code := cc) (maxLocals := maxL) (ret := ret) hy ?_ ?_
  · intro args s m h hn
    obtain ⟨meth, c, h1, h2, h3, h4, h5, h6, -, -⟩ := Cond.code_spec hn (atoms_spec (ws := ws) h _ (by rw [hw]; exact List.mem_cons_self))
    exact ⟨meth, c, h1, h2, h3, h4, h5, h6⟩
  · intro p e s m args below meth c s₁ B hml hP _
    have hh0 : s₁.heap = s.heap := by rw [B.state]; rfl
    have ht : ∀ x ∈ c.exceptionTable.toList, False := by
      obtain ⟨meth9, c9, h1, h2, -, -, -, -, h7, -⟩ := Cond.code_spec B.named (atoms_spec (ws := ws) B.pre _ (by rw [hw]; exact List.mem_cons_self))
      cases Option.some.inj (h1.symm.trans B.method)
      cases Option.some.inj (h2.symm.trans (Stand.of_body B).code)
      intro x hx
      rw [Array.isEmpty_iff.mp h7] at hx
      cases hx
    obtain ⟨t, a1, o, b1, b2, b3⟩ := body p e s m args below meth c s₁ B hml ht hP s₁ hh0 (Stand.of_body B)
    exact ⟨t, o, a1, b1, b2, b3⟩
theorem Sp.ofF {l : Launch} {s0 : State} {D : jD} {M : jM} {R : Room} {mc ms : Nat} {as : List Value} {T : jT} {V : jV} {X : jX} {sz : Nat} {Q : jQ} (hy : plainFor M.1 = true) (hh : M.2.2.2.2 = []) (hL : (lg_sl as).length ≤ M.2.2.1)
    (k : J l s0 D M R mc ms Q 0 (lv_args 0 as) [] T V X sz 0 0) : Sp l s0 D M R mc ms as T V X sz Q := by
  refine j_ofWF hy rfl ?_
  intro p e s m args below meth c s₁ B hml ht hv
  obtain ⟨rfl, w1, w2, w3, w4, w5⟩ := hv
  rw [lg_entry_eq]
  refine k p e s m as.toArray below meth c s.heap [] _ ⟨B.exec, B.bytes, hml, B.returns, findClass_of_methodNamed B.named, B.notSynchronized, w1, (name_of_methodNamed B.named B.method).1, ?_⟩ ⟨w2, Nat.le_refl _, w3, w3, w4, w5, fun z hz => nomatch hz⟩ (lv_entry as hL)
  rw [hh]
  cases hc : c.exceptionTable.toList with
  | nil => rfl
  | cons a r => exact absurd (ht a (by rw [hc]; exact List.mem_cons_self)) id
theorem pnJ_f1 : plainFor (kJxf58ca_isNaN_12338 : jM).1 = true := by decide +kernel
theorem pnJ_f2 : plainFor (kJxf58ca_floatToIntBits_5c35a : jM).1 = true := by decide +kernel
theorem pnJ_d1 : plainFor (kJxe99ae_isNaN_b9ae7 : jM).1 = true := by decide +kernel
theorem pnJ_d2 : plainFor (kJxe99ae_doubleToLongBits_ccdee : jM).1 = true := by decide +kernel
section JM17
variable {l : Launch} {s0 : State} {D : jD} {M : jM} {R : Room} {mc ms : Nat} {Q : jQ} {pc : Nat} {L : List (Nat × Value)} {st rest : List Value} {T : jT} {V : jV} {X : jX} {sz c n : Nat}
theorem j_f2i {idx : Nat} {b : UInt32} (d : decode M.2.1 pc = .ok (.invokestatic idx, 3)) (hB : jB l s0 D) (hlk : Cond.methodLink M.1.cls idx ⟨"java/lang/Float", "floatToRawIntBits", "(F)I"⟩ ∈ lw_tbl) (hR : 1 ≤ R.frames) (hR2 : (rest.map fun v => v.category).sum + 15 ≤ R.locals) (K : J l s0 D M R mc ms Q (pc + 3) L (.int b.toInt32 :: rest) T V X sz c n) : J l s0 D M R mc ms Q pc L (.float b :: rest) T V X sz c n := by
  intro p e s m args below meth cd H locs ls hC hH hl
  have hW := hC.2.2.2.2.2.2.1
  exact vn_f2i hC.1 hC.2.1 (hC.2.2.1.trans hl.1.symm) hC.2.2.2.2.1 (hB.word hW hlk rfl args) (hB.word hW (j_tb (List.mem_of_getElem? (i := 1275) (by decide +kernel))) rfl args) (hB.word hW (j_tb (List.mem_of_getElem? (i := 1274) (by decide +kernel))) rfl args) (hB.word hW (j_tb (List.mem_of_getElem? (i := 17) (by decide +kernel))) rfl args) hR hR2 d (K p e s m args below meth cd H locs ls hC hH hl)
theorem j_d2l' {idx : Nat} {b : UInt64} (d : decode M.2.1 pc = .ok (.invokestatic idx, 3)) (hB : jB l s0 D) (hlk : Cond.methodLink M.1.cls idx ⟨"java/lang/Double", "doubleToRawLongBits", "(D)J"⟩ ∈ lw_tbl) (hR : 1 ≤ R.frames) (hR2 : (rest.map fun v => v.category).sum + 15 ≤ R.locals) (K : J l s0 D M R mc ms Q (pc + 3) L (.long b.toInt64 :: rest) T V X sz c n) : J l s0 D M R mc ms Q pc L (.double b :: rest) T V X sz c n := by
  intro p e s m args below meth cd H locs ls hC hH hl
  have hW := hC.2.2.2.2.2.2.1
  exact vn_d2l hC.1 hC.2.1 (hC.2.2.1.trans hl.1.symm) hC.2.2.2.2.1 (hB.word hW hlk rfl args) (hB.word hW (j_tb (List.mem_of_getElem? (i := 1285) (by decide +kernel))) rfl args) (hB.word hW (j_tb (List.mem_of_getElem? (i := 1284) (by decide +kernel))) rfl args) (hB.word hW (j_tb (List.mem_of_getElem? (i := 18) (by decide +kernel))) rfl args) hR hR2 d (K p e s m args below meth cd H locs ls hC hH hl)
theorem j_cVn {M2 : jM} {R2 : Room} {mc2 ms2 idx ci b na : Nat} {as : List Value} {fs : List (Nat ⊕ Option Nat)} {r : vw_C} {P : jT → jV → jX → Nat → Prop} (d : decode M.2.1 pc = .ok (.invokevirtual idx, 3)) (hB : jB l s0 D) (hm : jmV M2 na) (hlk : Cond.methodLink M.1.cls idx M2.1 ∈ lw_tbl) (sp : Sp l s0 D M2 R2 mc2 ms2 (.ref b :: as) T V X sz (qN P)) (ht : T b = some (.inl (ci, fs))) (hc : vwCl[ci]? = some r) (hr : r.1 = M2.1.cls) (hn : as.length = na) (hst : st = as.reverse ++ .ref b :: rest) (hrm : jrm R R2 mc2 ms2 M2.2.2.1) (hcat : (rest.map fun v => v.category).sum ≤ 8) (hf : c + mc2 ≤ R.cells ∧ n + ms2 ≤ R.slots)
    (K : ∀ T' V' X' sz', P T' V' X' sz' → J l s0 D M R mc ms Q (pc + 3) L rest T' V' X' sz' (c + mc2) (n + ms2)) : J l s0 D M R mc ms Q pc L st T V X sz c n :=
  j_callV d hB hm hlk sp ht hc hr hn hst hrm hcat hf (by rintro v T' V' X' sz' ⟨h, hp⟩; cases h; exact K T' V' X' sz' hp) (by rintro E T' V' X' sz' ⟨h, -⟩; cases h)
end JM17
section JM17b
variable {l : Launch} {s0 : State} {D : jD} {T : jT} {V : jV} {X : jX} {sz : Nat}
set_option maxRecDepth 100000 in
set_option maxHeartbeats 4000000 in
theorem sp_Jxf58ca_isNaN_12338 (hB : jB l s0 D) {v : UInt32} (hv : fV v) : Sp l s0 D kJxf58ca_isNaN_12338 (jR 0 0 0) 0 0 [.float v] T V X sz (qI T X sz (fun r V' => V = V' ∧ r = 0)) := by
  refine Sp.ofF pnJ_f1 rfl (Nat.le_of_ble_eq_true rfl) ?_
  have hc := fcmp_self hv
  refine j_fload_n dJxf58ca_isNaN_12338_0 rfl ?_
  refine j_fload_n dJxf58ca_isNaN_12338_1 rfl ?_
  refine j_fcmp dJxf58ca_isNaN_12338_2 ?_
  rw [hc, show Op.cmpValue (some Ordering.eq) .l = 0 from rfl]
  refine m_if_eq (tgt := 10) dJxf58ca_isNaN_12338_3 (by decide) (iC 0 (by decide)) (fun c_3 => ?_) (fun c_3 => ?_)
  · refine j_iconst (v := 0) dJxf58ca_isNaN_12338_10 (by decide) ?_
    refine j_iret dJxf58ca_isNaN_12338_11 rfl (by first | decide | exact m_nrB (by assumption)) (by decide) (by decide) ?_
    exact ⟨_, rfl, rfl, rfl, rfl, rfl, rfl⟩
  · exact absurd c_3 (by decide)
set_option maxRecDepth 100000 in
set_option maxHeartbeats 4000000 in
theorem sp_Jxf58ca_floatToIntBits_5c35a (hB : jB l s0 D) {v : UInt32} (hv : fV v) : Sp l s0 D kJxf58ca_floatToIntBits_5c35a (jR 1 0 0) 0 0 [.float v] T V X sz (qI T X sz (fun r V' => V = V' ∧ r = v.toInt32)) := by
  refine Sp.ofF pnJ_f2 rfl (Nat.le_of_ble_eq_true rfl) ?_
  refine j_fload_n dJxf58ca_floatToIntBits_5c35a_0 rfl ?_
  refine j_cSi dJxf58ca_floatToIntBits_5c35a_1 hB mo_Jxf58ca_isNaN_12338 ml_Jxf58ca_59 (sp_Jxf58ca_isNaN_12338 hB hv) rfl rfl ⟨rfl, rfl, by decide, by decide⟩ (Nat.le_of_ble_eq_true rfl) ⟨by decide, by decide⟩ (fun r_1 V_1 h_1 => ?_)
  obtain ⟨rfl, rfl⟩ := h_1
  refine m_if_ne (tgt := 12) dJxf58ca_floatToIntBits_5c35a_4 (by decide) (iC 0 (by decide)) (fun c_4 => ?_) (fun c_4 => ?_)
  · exact absurd c_4 (by decide)
  · refine j_fload_n dJxf58ca_floatToIntBits_5c35a_7 rfl ?_
    refine j_f2i dJxf58ca_floatToIntBits_5c35a_8 hB (j_tb (List.mem_of_getElem? (i := 1273) (by decide +kernel))) (by decide) (Nat.le_of_ble_eq_true rfl) ?_
    refine j_iret dJxf58ca_floatToIntBits_5c35a_11 rfl (rfl) (by decide) (by decide) ?_
    exact ⟨_, rfl, rfl, rfl, rfl, rfl, rfl⟩
set_option maxRecDepth 100000 in
set_option maxHeartbeats 4000000 in
theorem sp_Jxe99ae_isNaN_b9ae7 (hB : jB l s0 D) {v : UInt64} (hv : dV v) : Sp l s0 D kJxe99ae_isNaN_b9ae7 (jR 0 0 0) 0 0 [.double v] T V X sz (qI T X sz (fun r V' => V = V' ∧ r = 0)) := by
  refine Sp.ofF pnJ_d1 rfl (Nat.le_of_ble_eq_true rfl) ?_
  have hc := dcmp_self hv
  refine j_dload_n dJxe99ae_isNaN_b9ae7_0 rfl ?_
  refine j_dload_n dJxe99ae_isNaN_b9ae7_1 rfl ?_
  refine j_dcmp dJxe99ae_isNaN_b9ae7_2 ?_
  rw [hc, show Op.cmpValue (some Ordering.eq) .l = 0 from rfl]
  refine m_if_eq (tgt := 10) dJxe99ae_isNaN_b9ae7_3 (by decide) (iC 0 (by decide)) (fun c_3 => ?_) (fun c_3 => ?_)
  · refine j_iconst (v := 0) dJxe99ae_isNaN_b9ae7_10 (by decide) ?_
    refine j_iret dJxe99ae_isNaN_b9ae7_11 rfl (by first | decide | exact m_nrB (by assumption)) (by decide) (by decide) ?_
    exact ⟨_, rfl, rfl, rfl, rfl, rfl, rfl⟩
  · exact absurd c_3 (by decide)
set_option maxRecDepth 100000 in
set_option maxHeartbeats 4000000 in
theorem sp_Jxe99ae_doubleToLongBits_ccdee (hB : jB l s0 D) {v : UInt64} (hv : dV v) : Sp l s0 D kJxe99ae_doubleToLongBits_ccdee (jR 1 0 0) 0 0 [.double v] T V X sz (qL T X sz (fun r V' => V = V' ∧ r = v.toInt64)) := by
  refine Sp.ofF pnJ_d2 rfl (Nat.le_of_ble_eq_true rfl) ?_
  refine j_dload_n dJxe99ae_doubleToLongBits_ccdee_0 rfl ?_
  refine j_cSi dJxe99ae_doubleToLongBits_ccdee_1 hB mo_Jxe99ae_isNaN_b9ae7 ml_Jxe99ae_122 (sp_Jxe99ae_isNaN_b9ae7 hB hv) rfl rfl ⟨rfl, rfl, by decide, by decide⟩ (Nat.le_of_ble_eq_true rfl) ⟨by decide, by decide⟩ (fun r_1 V_1 h_1 => ?_)
  obtain ⟨rfl, rfl⟩ := h_1
  refine m_if_ne (tgt := 12) dJxe99ae_doubleToLongBits_ccdee_4 (by decide) (iC 0 (by decide)) (fun c_4 => ?_) (fun c_4 => ?_)
  · exact absurd c_4 (by decide)
  · refine j_dload_n dJxe99ae_doubleToLongBits_ccdee_7 rfl ?_
    refine j_d2l' dJxe99ae_doubleToLongBits_ccdee_8 hB (j_tb (List.mem_of_getElem? (i := 1283) (by decide +kernel))) (by decide) (Nat.le_of_ble_eq_true rfl) ?_
    refine j_lret dJxe99ae_doubleToLongBits_ccdee_11 rfl (by decide) (by decide) ?_
    exact ⟨_, rfl, rfl, rfl, rfl, rfl, rfl⟩
set_option maxRecDepth 100000 in
set_option maxHeartbeats 4000000 in
theorem sp_X8_mix (hB : jB l s0 D) {q : Nat} (h0 : moT T q) {v : Int64} : Sp l s0 D kX8_mix (jR 0 0 0) 0 0 [.ref q, .long v] T V X sz (qN (fun T' V' X' sz' => T = T' ∧ V = V' ∧ X' = (jset X.1 q 15 (31 * X.1 q 15 + v), X.2) ∧ sz = sz')) := by
  refine Sp.of pn_X8_mix rfl (Nat.le_of_ble_eq_true rfl) ?_
  refine j_aload_n dX8_mix_0 rfl ?_
  refine j_ldc2 dX8_mix_1 hB kc_X8_216 ?_
  refine j_aload_n dX8_mix_4 rfl ?_
  refine j_getl dX8_mix_5 hB fl_X8_218 (by first | exact h0.1 | exact h0.2.1 | exact h0.2.2.1 | exact h0.2.2.2.1 | exact h0.2.2.2.2.1 | exact h0.2.2.2.2.2.1 | exact h0.2.2.2.2.2.2.1 | exact h0.2.2.2.2.2.2.2.1 | exact h0.2.2.2.2.2.2.2.2) (by rfl) ?_
  refine j_lmul dX8_mix_8 ?_
  refine j_lload_n dX8_mix_9 rfl ?_
  refine j_ladd dX8_mix_10 ?_
  refine j_putl dX8_mix_11 hB fp_X8_mix_218 (by first | exact h0.1 | exact h0.2.1 | exact h0.2.2.1 | exact h0.2.2.2.1 | exact h0.2.2.2.2.1 | exact h0.2.2.2.2.2.1 | exact h0.2.2.2.2.2.2.1 | exact h0.2.2.2.2.2.2.2.1 | exact h0.2.2.2.2.2.2.2.2) (by rfl) ?_
  refine j_vret dX8_mix_14 rfl (by decide) (by decide) ?_
  exact ⟨rfl, rfl, rfl, rfl, rfl⟩
end JM17b
