/-! CueSheets: offShare, meanSpeed; bits of a share, a speed -/
theorem i64_i {x : Int32} : x.toInt64 = Int64.ofInt x.toInt := Int64.toInt_inj.mp (by
  have h1 := x.le_toInt
  have h2 := x.toInt_lt
  rw [Int32.toInt_toInt64, Int64.toInt_ofInt_of_le (by omega) (by omega)])
theorem u32_l {v : UInt32} : v.toUInt64.toInt64 = Int64.ofInt v.toNat := by
  apply Int64.toBitVec_inj.mp
  apply BitVec.eq_of_toNat_eq
  have := v.toNat_lt
  show v.toUInt64.toNat = (BitVec.ofInt 64 (v.toNat : Int)).toNat
  rw [UInt32.toNat_toUInt64, BitVec.ofInt_natCast, BitVec.toNat_ofNat, Nat.mod_eq_of_lt (by omega)]
theorem u64_l {v : UInt64} : v.toInt64 = Int64.ofInt v.toNat := by
  apply Int64.toBitVec_inj.mp
  apply BitVec.eq_of_toNat_eq
  have := v.toNat_lt
  show v.toNat = (BitVec.ofInt 64 (v.toNat : Int)).toNat
  rw [BitVec.ofInt_natCast, BitVec.toNat_ofNat, Nat.mod_eq_of_lt (by omega)]
theorem shl23 : ∀ n : Fin 256, (Int64.ofInt (n.val : Int)) <<< ((23 : Int32).toInt64 &&& 63) = Int64.ofInt ((n.val * 8388608 : Nat) : Int) := by decide +kernel
theorem shl52 : ∀ n : Fin 2048, (Int64.ofInt (n.val : Int)) <<< ((52 : Int32).toInt64 &&& 63) = Int64.ofInt ((n.val * 4503599627370496 : Nat) : Int) := by decide +kernel
theorem l_ofI {x : Int64} {z : Int} (h : x.toInt = z) : x = Int64.ofInt z := by rw [← h, Int64.ofInt_toInt]
theorem l_add {x y : Int64} {a b : Int} (h : x.toInt = a) (h' : y.toInt = b) (h0 : -1000000 ≤ a + b) (h1 : a + b ≤ 1000000) : (x + y).toInt = a + b := by
  rw [l_ofI h, l_ofI h', ← Int64.ofInt_add, Int64.toInt_ofInt_of_le (by omega) (by omega)]
theorem l_sub {x y : Int64} {a b : Int} (h : x.toInt = a) (h' : y.toInt = b) (h0 : -1000000 ≤ a - b) (h1 : a - b ≤ 1000000) : (x - y).toInt = a - b := by
  rw [l_ofI h, l_ofI h', ← Int64.ofInt_sub, Int64.toInt_ofInt_of_le (by omega) (by omega)]
theorem two32 : nrm Jvm.FP.Core.b32 (Jvm.FP.Core.b32).tails (-22) ∧ FP.fconst2 = UInt32.ofNat (nbits Jvm.FP.Core.b32 (Jvm.FP.Core.b32).tails (-22)) := ⟨by unfold nrm; decide, by decide⟩
theorem lo32 : nrm Jvm.FP.Core.b32 (Jvm.FP.Core.b32).tails 0 ∧ (1258291200 : UInt32) = UInt32.ofNat (nbits Jvm.FP.Core.b32 (Jvm.FP.Core.b32).tails 0) := ⟨by unfold nrm; decide, by decide⟩
theorem two64 : nrm Jvm.FP.Core.b64 (Jvm.FP.Core.b64).tails (-51) ∧ (4611686018427387904 : UInt64) = UInt64.ofNat (nbits Jvm.FP.Core.b64 (Jvm.FP.Core.b64).tails (-51)) := ⟨by unfold nrm; decide, by decide⟩
theorem lo64 : nrm Jvm.FP.Core.b64 (Jvm.FP.Core.b64).tails 0 ∧ (4841369599423283200 : UInt64) = UInt64.ofNat (nbits Jvm.FP.Core.b64 (Jvm.FP.Core.b64).tails 0) := ⟨by unfold nrm; decide, by decide⟩
/-- the last steps, 32 bits -/
theorem fB_end {c : Nat} {q0 : Int} {e : Int64} (h0 : nrm Jvm.FP.Core.b32 c q0) (h : nrm Jvm.FP.Core.b32 c 0) (he : e.toInt = 150 + q0) : e <<< ((23 : Int32).toInt64 &&& 63) + (FP.f2l (UInt32.ofNat (nbits Jvm.FP.Core.b32 c 0)) - 8388608) = (UInt32.ofNat (nbits Jvm.FP.Core.b32 c q0)).toUInt64.toInt64 := by
  have hc := h.1
  have hc2 := h.2.1
  have hq := h0.2.2
  rw [c32.1] at hc
  rw [c32.2.2.2.2] at hc2
  rw [c32.2.2.1, c32.2.2.2.1] at hq
  have hc3 : c < 16777216 := hc2
  have d : FP.f2l (UInt32.ofNat (nbits Jvm.FP.Core.b32 c 0)) = Int64.ofInt c := by
    show Jvm.FP.Core.toL (Jvm.FP.Core.decode Jvm.FP.Core.b32 (UInt32.ofNat _).toNat) = _
    rw [(nb32 h).1, decode_n f32 h]
    unfold Jvm.FP.Core.toL Jvm.FP.Core.toInt Jvm.FP.Core.truncate Jvm.FP.Core.signed
    dsimp only
    have e : ((c * 2 ^ (0 : Int).toNat / 2 ^ (-(0 : Int)).toNat : Nat) : Int) = c := by simp
    rw [if_neg (by decide), e, show max (-2 ^ 63 : Int) (min (2 ^ 63 - 1) (c : Int)) = c by omega]
  rw [u32_l, (nb32 h0).1, d, l_ofI he]
  obtain ⟨E, hE⟩ : ∃ E : Nat, (150 + q0 : Int) = E := ⟨(150 + q0).toNat, by omega⟩
  have s := shl23 ⟨E, by omega⟩
  have s : (Int64.ofInt (E : Int)) <<< ((23 : Int32).toInt64 &&& 63) = Int64.ofInt ((E * 8388608 : Nat) : Int) := s
  rw [hE, s, show (8388608 : Int64) = Int64.ofInt 8388608 from rfl, ← Int64.ofInt_sub, ← Int64.ofInt_add]
  congr 1
  unfold nbits
  rw [c32.1, c32.2.2.1, show (q0 - (-149)).toNat + 1 = E by omega]
  omega
theorem dB_end {c : Nat} {q0 : Int} {e : Int64} (h0 : nrm Jvm.FP.Core.b64 c q0) (h : nrm Jvm.FP.Core.b64 c 0) (he : e.toInt = 1075 + q0) : e <<< ((52 : Int32).toInt64 &&& 63) + (FP.d2l (UInt64.ofNat (nbits Jvm.FP.Core.b64 c 0)) - 4503599627370496) = (UInt64.ofNat (nbits Jvm.FP.Core.b64 c q0)).toInt64 := by
  have hc := h.1
  have hc2 := h.2.1
  have hq := h0.2.2
  rw [c64.1] at hc
  rw [c64.2.2.2.2] at hc2
  rw [c64.2.2.1, c64.2.2.2.1] at hq
  have hc3 : c < 9007199254740992 := hc2
  have d : FP.d2l (UInt64.ofNat (nbits Jvm.FP.Core.b64 c 0)) = Int64.ofInt c := by
    show Jvm.FP.Core.toL (Jvm.FP.Core.decode Jvm.FP.Core.b64 (UInt64.ofNat _).toNat) = _
    rw [(nb64 h).1, decode_n f64 h]
    unfold Jvm.FP.Core.toL Jvm.FP.Core.toInt Jvm.FP.Core.truncate Jvm.FP.Core.signed
    dsimp only
    have e : ((c * 2 ^ (0 : Int).toNat / 2 ^ (-(0 : Int)).toNat : Nat) : Int) = c := by simp
    rw [if_neg (by decide), e, show max (-2 ^ 63 : Int) (min (2 ^ 63 - 1) (c : Int)) = c by omega]
  rw [u64_l, (nb64 h0).1, d, l_ofI he]
  obtain ⟨E, hE⟩ : ∃ E : Nat, (1075 + q0 : Int) = E := ⟨(1075 + q0).toNat, by omega⟩
  have s := shl52 ⟨E, by omega⟩
  have s : (Int64.ofInt (E : Int)) <<< ((52 : Int32).toInt64 &&& 63) = Int64.ofInt ((E * 4503599627370496 : Nat) : Int) := s
  rw [hE, s, show (4503599627370496 : Int64) = Int64.ofInt 4503599627370496 from rfl, ← Int64.ofInt_sub, ← Int64.ofInt_add]
  congr 1
  unfold nbits
  rw [c64.1, c64.2.2.1, show (q0 - (-1074)).toNat + 1 = E by omega]
  omega
section JLdcF
variable {p : Program} {l : Launch} {e : Env} {R : Room} {s : State} {m : MethodId} {args : Array Value} {below : List Frame} {meth : Method} {c : Code} {T : State} {locs : List Loc} {cells slots : Nat}
theorem j_ldcwF (X : Stand p l e R s m args below meth c T locs cells slots) (hexec : p.tables.exec = Jvm.exec) {own : String} {index : Nat} {v : UInt32} (hown : s.vm.findClass own = some m.cls)
    (hconst : (Cond.constantFloat own index v).before args s = true) {g : JFrame} (hg : g.method = m) (hdg : decode c.code g.pc = .ok (.ldc_w index, 3)) :
    ∀ target, Steps p.tables e below (T.setTop { g with pc := g.pc + 3, stack := .float v :: g.stack }) target → Steps p.tables e below (T.setTop g) target := by
  obtain ⟨k, cf, hk, hcf, hcp⟩ := Cond.constantFloat_spec hown hconst
  obtain ⟨k', hk', he⟩ := X.warmed.alike.2.2 _ _ hk
  intro target hrest
  subst hg
  jvm_step X.here [hexec, hdg, Op.ldc_w.wp_float (s := T) (f := g) X.here.top hk' (by rw [he]; exact hcf) hcp]
  exact hrest
end JLdcF
section JLdcF2
variable {l : Launch} {s0 : State} {D : jD} {M : jM} {R : Room} {mc ms : Nat} {Q : jQ} {pc : Nat} {L : List (Nat × Value)} {st rest : List Value} {T : jT} {V : jV} {X : jX} {sz c n : Nat}
theorem j_ldcfw {i : Nat} {v : UInt32} (d : decode M.2.1 pc = .ok (.ldc_w i, 3)) (hB : jB l s0 D) (hc : Cond.constantFloat M.1.cls i v ∈ lw_tbl) (k : J l s0 D M R mc ms Q (pc + 3) L (.float v :: rest) T V X sz c n) : J l s0 D M R mc ms Q pc L rest T V X sz c n := by
  intro p e s m args below meth cd H locs ls hC hH hl
  intro U hU Y
  obtain ⟨t, a, b⟩ := k p e s m args below meth cd H locs ls hC hH hl U hU Y
  exact ⟨t, j_ldcwF Y hC.1 hC.2.2.2.2.1 (hB.word hC.2.2.2.2.2.2.1 hc rfl args) (g := F0 m pc ls rest) rfl (by rw [hC.2.1]; exact d) t a, b⟩
end JLdcF2
section JCu8
variable {l : Launch} {s0 : State} {D : jD} {T : jT} {V : jV} {X : jX} {sz : Nat}
set_option maxRecDepth 100000 in
set_option maxHeartbeats 4000000 in
theorem sp_X7_floatBits (hB : jB l s0 D) {v : UInt32} (hv : fS v) : Sp l s0 D kX7_floatBits (jR 0 0 0) 0 0 [.float v] T V X sz (qL T X sz (fun r V' => V = V' ∧ r = v.toUInt64.toInt64)) := by
  refine Sp.of pn_X7_floatBits rfl (Nat.le_of_ble_eq_true rfl) ?_
  have kM : (300 : Int32).toInt = 300 := by decide
  rcases hv with rfl | ⟨c, q0, h0, hle, rfl⟩
  · have hcmp : FP.fcmp 0 FP.fconst0 = some .eq := cmp_00 f32
    refine j_fload_n dX7_floatBits_0 rfl ?_
    refine j_fconst0 dX7_floatBits_1 ?_
    refine j_fcmp dX7_floatBits_2 ?_
    rw [hcmp]
    refine j_if_gt (tgt := 8) dX7_floatBits_3 (by decide) (fun c_3 => ?_) (fun c_3 => ?_)
    · exact absurd c_3 (by decide)
    · refine j_lconst (v := 0) dX7_floatBits_6 (by decide) ?_
      refine j_lret dX7_floatBits_7 rfl (by decide) (by decide) ?_
      exact ⟨_, rfl, rfl, rfl, rfl, rfl, by decide⟩
  · have hcmp : FP.fcmp (UInt32.ofNat (nbits Jvm.FP.Core.b32 c q0)) FP.fconst0 = some .gt := by
      show Jvm.FP.Core.cmp Jvm.FP.Core.b32 (UInt32.ofNat _).toNat (0 : UInt32).toNat = _
      rw [(nb32 h0).1]; exact cmp_n0 f32 h0
    have hq0 := h0.2.2
    rw [c32.2.2.1, c32.2.2.2.1] at hq0
    have nq : ∀ qq : Int, -149 ≤ qq → qq ≤ 104 → nrm Jvm.FP.Core.b32 c qq := fun qq a a2 => ⟨h0.1, h0.2.1, by rw [c32.2.2.1]; exact a, by rw [c32.2.2.2.1]; exact a2⟩
    have hlt : ∀ (qq r : Int), -149 ≤ qq → qq ≤ 104 → -149 ≤ r → r ≤ 104 → (qq < r → FP.fcmp (UInt32.ofNat (nbits Jvm.FP.Core.b32 c qq)) (UInt32.ofNat (nbits Jvm.FP.Core.b32 (Jvm.FP.Core.b32).tails r)) = some .lt) ∧ (r ≤ qq → FP.fcmp (UInt32.ofNat (nbits Jvm.FP.Core.b32 c qq)) (UInt32.ofNat (nbits Jvm.FP.Core.b32 (Jvm.FP.Core.b32).tails r)) = some .gt ∨ FP.fcmp (UInt32.ofNat (nbits Jvm.FP.Core.b32 c qq)) (UInt32.ofNat (nbits Jvm.FP.Core.b32 (Jvm.FP.Core.b32).tails r)) = some .eq) := by
      intro qq r a a2 a3 a4
      have n1 := nq qq a a2
      have n2 := nrm_t f32 n1 (by rw [c32.2.2.1]; exact a3) (by rw [c32.2.2.2.1]; exact a4)
      show (qq < r → Jvm.FP.Core.cmp Jvm.FP.Core.b32 (UInt32.ofNat _).toNat (UInt32.ofNat _).toNat = _) ∧ (r ≤ qq → Jvm.FP.Core.cmp Jvm.FP.Core.b32 (UInt32.ofNat _).toNat (UInt32.ofNat _).toNat = _ ∨ Jvm.FP.Core.cmp Jvm.FP.Core.b32 (UInt32.ofNat _).toNat (UInt32.ofNat _).toNat = _)
      rw [(nb32 n1).1, (nb32 n2).1]
      exact cmp_t f32 n1 n2
    have hmul : ∀ qq : Int, -149 ≤ qq → qq < 0 → FP.fmul (UInt32.ofNat (nbits Jvm.FP.Core.b32 c qq)) FP.fconst2 = (UInt32.ofNat (nbits Jvm.FP.Core.b32 c (qq + 1))) := by
      intro qq a a2
      have n1 := nq qq a (by omega)
      have e : qq + (-22) + (((Jvm.FP.Core.b32).p : Int) - 1) = qq + 1 := by rw [c32.2.2.2.2]; omega
      rw [two32.2]
      show UInt32.ofNat (Jvm.FP.Core.mul Jvm.FP.Core.b32 (UInt32.ofNat _).toNat (UInt32.ofNat _).toNat) = _
      rw [(nb32 n1).1, (nb32 two32.1).1, mul_n f32 n1 two32.1 (by rw [e]; exact nq _ (by omega) (by omega)), e]
    have hN : ∀ qq : Int, -149 ≤ qq → qq ≤ 104 → vf_n32 (UInt32.ofNat (nbits Jvm.FP.Core.b32 c qq)) := fun qq a a2 => fV.n (Or.inr ⟨c, qq, nq qq a a2, rfl⟩)
    generalize hvv : (UInt32.ofNat (nbits Jvm.FP.Core.b32 c q0)) = v at hcmp
    have L1 : ∀ (n : Nat) (qq : Int) (i : Int32) (e : Int64), qq + n = 0 → -149 ≤ qq → qq ≤ 104 → e.toInt + qq = 150 + q0 → 0 ≤ i.toInt → i.toInt + n ≤ -(-149) → J l s0 D kX7_floatBits (jR 0 0 0) 0 0 (qL T X sz (fun r V' => V = V' ∧ r = v.toUInt64.toInt64)) 17 [(0, .float v), (1, .float (UInt32.ofNat (nbits Jvm.FP.Core.b32 c qq))), (2, .long e), (4, .int i)] [] T V X sz 0 0 := by
      intro n
      induction n with
      | zero =>
        intro qq i e hq hm hx he hi0 hi
        have hq0' : qq = 0 := by omega
        subst hq0'
        have hc := (hlt 0 0 (by decide) (by decide) (by decide) (by decide)).2 (by decide)
        rw [← lo32.2] at hc
        rcases hc with hc | hc
        · refine j_iload dX7_floatBits_17 rfl ?_
          refine j_sipush (v := 300) dX7_floatBits_19 (by decide) ?_
          refine j_icmp_ge (tgt := 47) dX7_floatBits_22 (by decide) (fun c_22 => ?_) (fun c_22 => ?_)
          · exact absurd c_22 (by rw [kM]; omega)
          · refine j_fload_n dX7_floatBits_25 rfl ?_
            refine j_ldcfw dX7_floatBits_26 hB kc_X7_361 ?_
            refine j_fcmp dX7_floatBits_29 ?_
            rw [hc]
            refine j_if_ge (tgt := 47) dX7_floatBits_30 (by decide) (fun c_30 => ?_) (fun c_30 => ?_)
            · refine j_lload_n dX7_floatBits_47 rfl ?_
              refine j_bipush (v := 23) dX7_floatBits_48 (by decide) ?_
              refine j_lshl dX7_floatBits_50 ?_
              refine j_fload_n dX7_floatBits_51 rfl ?_
              refine j_f2l dX7_floatBits_52 ?_
              refine j_ldc2 dX7_floatBits_53 hB kc_X7_362 ?_
              refine j_lsub dX7_floatBits_56 ?_
              refine j_ladd dX7_floatBits_57 ?_
              refine j_lret dX7_floatBits_58 rfl (by decide) (by decide) ?_
              exact ⟨_, rfl, rfl, rfl, rfl, rfl, by rw [← hvv]; exact fB_end h0 (nq 0 (by decide) (by decide)) (by omega)⟩
            · exact absurd c_30 (by decide)
        · refine j_iload dX7_floatBits_17 rfl ?_
          refine j_sipush (v := 300) dX7_floatBits_19 (by decide) ?_
          refine j_icmp_ge (tgt := 47) dX7_floatBits_22 (by decide) (fun c_22 => ?_) (fun c_22 => ?_)
          · exact absurd c_22 (by rw [kM]; omega)
          · refine j_fload_n dX7_floatBits_25 rfl ?_
            refine j_ldcfw dX7_floatBits_26 hB kc_X7_361 ?_
            refine j_fcmp dX7_floatBits_29 ?_
            rw [hc]
            refine j_if_ge (tgt := 47) dX7_floatBits_30 (by decide) (fun c_30 => ?_) (fun c_30 => ?_)
            · refine j_lload_n dX7_floatBits_47 rfl ?_
              refine j_bipush (v := 23) dX7_floatBits_48 (by decide) ?_
              refine j_lshl dX7_floatBits_50 ?_
              refine j_fload_n dX7_floatBits_51 rfl ?_
              refine j_f2l dX7_floatBits_52 ?_
              refine j_ldc2 dX7_floatBits_53 hB kc_X7_362 ?_
              refine j_lsub dX7_floatBits_56 ?_
              refine j_ladd dX7_floatBits_57 ?_
              refine j_lret dX7_floatBits_58 rfl (by decide) (by decide) ?_
              exact ⟨_, rfl, rfl, rfl, rfl, rfl, by rw [← hvv]; exact fB_end h0 (nq 0 (by decide) (by decide)) (by omega)⟩
            · exact absurd c_30 (by decide)
      | succ n ih =>
        intro qq i e hq hm hx he hi0 hi
        have hc := (hlt qq 0 hm hx (by decide) (by decide)).1 (by omega)
        rw [← lo32.2] at hc
        have hd := hmul qq hm (by omega)
        have hnn := hN (qq + 1) (by omega) (by omega)
        rw [← hd] at hnn
        refine j_iload dX7_floatBits_17 rfl ?_
        refine j_sipush (v := 300) dX7_floatBits_19 (by decide) ?_
        refine j_icmp_ge (tgt := 47) dX7_floatBits_22 (by decide) (fun c_22 => ?_) (fun c_22 => ?_)
        · exact absurd c_22 (by rw [kM]; omega)
        · refine j_fload_n dX7_floatBits_25 rfl ?_
          refine j_ldcfw dX7_floatBits_26 hB kc_X7_361 ?_
          refine j_fcmp dX7_floatBits_29 ?_
          rw [hc]
          refine j_if_ge (tgt := 47) dX7_floatBits_30 (by decide) (fun c_30 => ?_) (fun c_30 => ?_)
          · exact absurd c_30 (by decide)
          · refine j_fload_n dX7_floatBits_33 rfl ?_
            refine j_fconst2 dX7_floatBits_34 ?_
            refine j_fmul dX7_floatBits_35 (hnn) ?_
            refine j_fstore_n (L' := [(0, _), (1, _), (2, _), (4, _)]) dX7_floatBits_36 (by decide) rfl ?_
            refine j_lload_n dX7_floatBits_37 rfl ?_
            refine j_lconst (v := 1) dX7_floatBits_38 (by decide) ?_
            refine j_lsub dX7_floatBits_39 ?_
            refine j_lstore_n (L' := [(0, _), (1, _), (2, _), (4, _)]) dX7_floatBits_40 (by decide) rfl ?_
            refine j_iinc (v := 1) (L' := [(0, _), (1, _), (2, _), (4, _)]) dX7_floatBits_41 rfl (by decide) (by decide) rfl ?_
            refine j_goto (tgt := 17) dX7_floatBits_44 (by decide) ?_
            rw [hd]
            refine ih (qq + 1) _ _ (by omega) (by omega) (by omega) ?_ ?_ ?_
            · rw [l_sub (a := 150 + q0 - qq) (b := 1) (by omega) (by decide : (1 : Int64).toInt = 1) (by omega) (by omega)]; omega
            · rw [ti_add (by rw [ti_1]; omega) (by rw [ti_1]; omega), ti_1]; omega
            · rw [ti_add (by rw [ti_1]; omega) (by rw [ti_1]; omega), ti_1]; omega
    refine j_fload_n dX7_floatBits_0 rfl ?_
    refine j_fconst0 dX7_floatBits_1 ?_
    refine j_fcmp dX7_floatBits_2 ?_
    rw [hcmp]
    refine j_if_gt (tgt := 8) dX7_floatBits_3 (by decide) (fun c_3 => ?_) (fun c_3 => ?_)
    · refine j_fload_n dX7_floatBits_8 rfl ?_
      refine j_fstore_n (L' := [(0, _), (1, _)]) dX7_floatBits_9 (by decide) rfl ?_
      refine j_ldc2 dX7_floatBits_10 hB kc_X7_359 ?_
      refine j_lstore_n (L' := [(0, _), (1, _), (2, _)]) dX7_floatBits_13 (by decide) rfl ?_
      refine j_iconst (v := 0) dX7_floatBits_14 (by decide) ?_
      refine j_istore (L' := [(0, _), (1, _), (2, _), (4, _)]) dX7_floatBits_15 (by decide) rfl ?_
      rw [← hvv]
      have := L1 (0 - q0).toNat q0 0 150 (by omega) (by omega) (by omega) (by rw [show (150 : Int64).toInt = 150 from by decide]) (by decide) (by rw [ti_0]; omega)
      rw [hvv] at this ⊢
      exact this
    · exact absurd c_3 (by decide)
set_option maxRecDepth 100000 in
set_option maxHeartbeats 4000000 in
theorem sp_X7_doubleBits (hB : jB l s0 D) {v : UInt64} (hv : dS v) : Sp l s0 D kX7_doubleBits (jR 0 0 0) 0 0 [.double v] T V X sz (qL T X sz (fun r V' => V = V' ∧ r = v.toInt64)) := by
  refine Sp.of pn_X7_doubleBits rfl (Nat.le_of_ble_eq_true rfl) ?_
  have kM : (2200 : Int32).toInt = 2200 := by decide
  rcases hv with rfl | ⟨c, q0, h0, hle, rfl⟩
  · have hcmp : FP.dcmp 0 FP.dconst0 = some .eq := cmp_00 f64
    refine j_dload_n dX7_doubleBits_0 rfl ?_
    refine j_dconst0 dX7_doubleBits_1 ?_
    refine j_dcmp dX7_doubleBits_2 ?_
    rw [hcmp]
    refine j_if_gt (tgt := 8) dX7_doubleBits_3 (by decide) (fun c_3 => ?_) (fun c_3 => ?_)
    · exact absurd c_3 (by decide)
    · refine j_lconst (v := 0) dX7_doubleBits_6 (by decide) ?_
      refine j_lret dX7_doubleBits_7 rfl (by decide) (by decide) ?_
      exact ⟨_, rfl, rfl, rfl, rfl, rfl, by decide⟩
  · have hcmp : FP.dcmp (UInt64.ofNat (nbits Jvm.FP.Core.b64 c q0)) FP.dconst0 = some .gt := by
      show Jvm.FP.Core.cmp Jvm.FP.Core.b64 (UInt64.ofNat _).toNat (0 : UInt64).toNat = _
      rw [(nb64 h0).1]; exact cmp_n0 f64 h0
    have hq0 := h0.2.2
    rw [c64.2.2.1, c64.2.2.2.1] at hq0
    have nq : ∀ qq : Int, -1074 ≤ qq → qq ≤ 971 → nrm Jvm.FP.Core.b64 c qq := fun qq a a2 => ⟨h0.1, h0.2.1, by rw [c64.2.2.1]; exact a, by rw [c64.2.2.2.1]; exact a2⟩
    have hlt : ∀ (qq r : Int), -1074 ≤ qq → qq ≤ 971 → -1074 ≤ r → r ≤ 971 → (qq < r → FP.dcmp (UInt64.ofNat (nbits Jvm.FP.Core.b64 c qq)) (UInt64.ofNat (nbits Jvm.FP.Core.b64 (Jvm.FP.Core.b64).tails r)) = some .lt) ∧ (r ≤ qq → FP.dcmp (UInt64.ofNat (nbits Jvm.FP.Core.b64 c qq)) (UInt64.ofNat (nbits Jvm.FP.Core.b64 (Jvm.FP.Core.b64).tails r)) = some .gt ∨ FP.dcmp (UInt64.ofNat (nbits Jvm.FP.Core.b64 c qq)) (UInt64.ofNat (nbits Jvm.FP.Core.b64 (Jvm.FP.Core.b64).tails r)) = some .eq) := by
      intro qq r a a2 a3 a4
      have n1 := nq qq a a2
      have n2 := nrm_t f64 n1 (by rw [c64.2.2.1]; exact a3) (by rw [c64.2.2.2.1]; exact a4)
      show (qq < r → Jvm.FP.Core.cmp Jvm.FP.Core.b64 (UInt64.ofNat _).toNat (UInt64.ofNat _).toNat = _) ∧ (r ≤ qq → Jvm.FP.Core.cmp Jvm.FP.Core.b64 (UInt64.ofNat _).toNat (UInt64.ofNat _).toNat = _ ∨ Jvm.FP.Core.cmp Jvm.FP.Core.b64 (UInt64.ofNat _).toNat (UInt64.ofNat _).toNat = _)
      rw [(nb64 n1).1, (nb64 n2).1]
      exact cmp_t f64 n1 n2
    have hmul : ∀ qq : Int, -1074 ≤ qq → qq < 0 → FP.dmul (UInt64.ofNat (nbits Jvm.FP.Core.b64 c qq)) 4611686018427387904 = (UInt64.ofNat (nbits Jvm.FP.Core.b64 c (qq + 1))) := by
      intro qq a a2
      have n1 := nq qq a (by omega)
      have e : qq + (-51) + (((Jvm.FP.Core.b64).p : Int) - 1) = qq + 1 := by rw [c64.2.2.2.2]; omega
      rw [two64.2]
      show UInt64.ofNat (Jvm.FP.Core.mul Jvm.FP.Core.b64 (UInt64.ofNat _).toNat (UInt64.ofNat _).toNat) = _
      rw [(nb64 n1).1, (nb64 two64.1).1, mul_n f64 n1 two64.1 (by rw [e]; exact nq _ (by omega) (by omega)), e]
    have hN : ∀ qq : Int, -1074 ≤ qq → qq ≤ 971 → vf_n64 (UInt64.ofNat (nbits Jvm.FP.Core.b64 c qq)) := fun qq a a2 => dV.n (Or.inr ⟨c, qq, nq qq a a2, rfl⟩)
    generalize hvv : (UInt64.ofNat (nbits Jvm.FP.Core.b64 c q0)) = v at hcmp
    have L1 : ∀ (n : Nat) (qq : Int) (i : Int32) (e : Int64), qq + n = 0 → -1074 ≤ qq → qq ≤ 971 → e.toInt + qq = 1075 + q0 → 0 ≤ i.toInt → i.toInt + n ≤ -(-1074) → J l s0 D kX7_doubleBits (jR 0 0 0) 0 0 (qL T X sz (fun r V' => V = V' ∧ r = v.toInt64)) 18 [(0, .double v), (2, .double (UInt64.ofNat (nbits Jvm.FP.Core.b64 c qq))), (4, .long e), (6, .int i)] [] T V X sz 0 0 := by
      intro n
      induction n with
      | zero =>
        intro qq i e hq hm hx he hi0 hi
        have hq0' : qq = 0 := by omega
        subst hq0'
        have hc := (hlt 0 0 (by decide) (by decide) (by decide) (by decide)).2 (by decide)
        rw [← lo64.2] at hc
        rcases hc with hc | hc
        · refine j_iload dX7_doubleBits_18 rfl ?_
          refine j_sipush (v := 2200) dX7_doubleBits_20 (by decide) ?_
          refine j_icmp_ge (tgt := 52) dX7_doubleBits_23 (by decide) (fun c_23 => ?_) (fun c_23 => ?_)
          · exact absurd c_23 (by rw [kM]; omega)
          · refine j_dload_n dX7_doubleBits_26 rfl ?_
            refine j_ldc2d dX7_doubleBits_27 hB kc_X7_366 ?_
            refine j_dcmp dX7_doubleBits_30 ?_
            rw [hc]
            refine j_if_ge (tgt := 52) dX7_doubleBits_31 (by decide) (fun c_31 => ?_) (fun c_31 => ?_)
            · refine j_lload dX7_doubleBits_52 rfl ?_
              refine j_bipush (v := 52) dX7_doubleBits_54 (by decide) ?_
              refine j_lshl dX7_doubleBits_56 ?_
              refine j_dload_n dX7_doubleBits_57 rfl ?_
              refine j_d2l dX7_doubleBits_58 ?_
              refine j_ldc2 dX7_doubleBits_59 hB kc_X7_370 ?_
              refine j_lsub dX7_doubleBits_62 ?_
              refine j_ladd dX7_doubleBits_63 ?_
              refine j_lret dX7_doubleBits_64 rfl (by decide) (by decide) ?_
              exact ⟨_, rfl, rfl, rfl, rfl, rfl, by rw [← hvv]; exact dB_end h0 (nq 0 (by decide) (by decide)) (by omega)⟩
            · exact absurd c_31 (by decide)
        · refine j_iload dX7_doubleBits_18 rfl ?_
          refine j_sipush (v := 2200) dX7_doubleBits_20 (by decide) ?_
          refine j_icmp_ge (tgt := 52) dX7_doubleBits_23 (by decide) (fun c_23 => ?_) (fun c_23 => ?_)
          · exact absurd c_23 (by rw [kM]; omega)
          · refine j_dload_n dX7_doubleBits_26 rfl ?_
            refine j_ldc2d dX7_doubleBits_27 hB kc_X7_366 ?_
            refine j_dcmp dX7_doubleBits_30 ?_
            rw [hc]
            refine j_if_ge (tgt := 52) dX7_doubleBits_31 (by decide) (fun c_31 => ?_) (fun c_31 => ?_)
            · refine j_lload dX7_doubleBits_52 rfl ?_
              refine j_bipush (v := 52) dX7_doubleBits_54 (by decide) ?_
              refine j_lshl dX7_doubleBits_56 ?_
              refine j_dload_n dX7_doubleBits_57 rfl ?_
              refine j_d2l dX7_doubleBits_58 ?_
              refine j_ldc2 dX7_doubleBits_59 hB kc_X7_370 ?_
              refine j_lsub dX7_doubleBits_62 ?_
              refine j_ladd dX7_doubleBits_63 ?_
              refine j_lret dX7_doubleBits_64 rfl (by decide) (by decide) ?_
              exact ⟨_, rfl, rfl, rfl, rfl, rfl, by rw [← hvv]; exact dB_end h0 (nq 0 (by decide) (by decide)) (by omega)⟩
            · exact absurd c_31 (by decide)
      | succ n ih =>
        intro qq i e hq hm hx he hi0 hi
        have hc := (hlt qq 0 hm hx (by decide) (by decide)).1 (by omega)
        rw [← lo64.2] at hc
        have hd := hmul qq hm (by omega)
        have hnn := hN (qq + 1) (by omega) (by omega)
        rw [← hd] at hnn
        refine j_iload dX7_doubleBits_18 rfl ?_
        refine j_sipush (v := 2200) dX7_doubleBits_20 (by decide) ?_
        refine j_icmp_ge (tgt := 52) dX7_doubleBits_23 (by decide) (fun c_23 => ?_) (fun c_23 => ?_)
        · exact absurd c_23 (by rw [kM]; omega)
        · refine j_dload_n dX7_doubleBits_26 rfl ?_
          refine j_ldc2d dX7_doubleBits_27 hB kc_X7_366 ?_
          refine j_dcmp dX7_doubleBits_30 ?_
          rw [hc]
          refine j_if_ge (tgt := 52) dX7_doubleBits_31 (by decide) (fun c_31 => ?_) (fun c_31 => ?_)
          · exact absurd c_31 (by decide)
          · refine j_dload_n dX7_doubleBits_34 rfl ?_
            refine j_ldc2d dX7_doubleBits_35 hB kc_X7_368 ?_
            refine j_dmul dX7_doubleBits_38 (hnn) ?_
            refine j_dstore_n (L' := [(0, _), (2, _), (4, _), (6, _)]) dX7_doubleBits_39 (by decide) rfl ?_
            refine j_lload dX7_doubleBits_40 rfl ?_
            refine j_lconst (v := 1) dX7_doubleBits_42 (by decide) ?_
            refine j_lsub dX7_doubleBits_43 ?_
            refine j_lstore (L' := [(0, _), (2, _), (4, _), (6, _)]) dX7_doubleBits_44 (by decide) rfl ?_
            refine j_iinc (v := 1) (L' := [(0, _), (2, _), (4, _), (6, _)]) dX7_doubleBits_46 rfl (by decide) (by decide) rfl ?_
            refine j_goto (tgt := 18) dX7_doubleBits_49 (by decide) ?_
            rw [hd]
            refine ih (qq + 1) _ _ (by omega) (by omega) (by omega) ?_ ?_ ?_
            · rw [l_sub (a := 1075 + q0 - qq) (b := 1) (by omega) (by decide : (1 : Int64).toInt = 1) (by omega) (by omega)]; omega
            · rw [ti_add (by rw [ti_1]; omega) (by rw [ti_1]; omega), ti_1]; omega
            · rw [ti_add (by rw [ti_1]; omega) (by rw [ti_1]; omega), ti_1]; omega
    refine j_dload_n dX7_doubleBits_0 rfl ?_
    refine j_dconst0 dX7_doubleBits_1 ?_
    refine j_dcmp dX7_doubleBits_2 ?_
    rw [hcmp]
    refine j_if_gt (tgt := 8) dX7_doubleBits_3 (by decide) (fun c_3 => ?_) (fun c_3 => ?_)
    · refine j_dload_n dX7_doubleBits_8 rfl ?_
      refine j_dstore_n (L' := [(0, _), (2, _)]) dX7_doubleBits_9 (by decide) rfl ?_
      refine j_ldc2 dX7_doubleBits_10 hB kc_X7_364 ?_
      refine j_lstore (L' := [(0, _), (2, _), (4, _)]) dX7_doubleBits_13 (by decide) rfl ?_
      refine j_iconst (v := 0) dX7_doubleBits_15 (by decide) ?_
      refine j_istore (L' := [(0, _), (2, _), (4, _), (6, _)]) dX7_doubleBits_16 (by decide) rfl ?_
      rw [← hvv]
      have := L1 (0 - q0).toNat q0 0 1075 (by omega) (by omega) (by omega) (by rw [show (1075 : Int64).toInt = 1075 from by decide]) (by decide) (by rw [ti_0]; omega)
      rw [hvv] at this ⊢
      exact this
    · exact absurd c_3 (by decide)
end JCu8
