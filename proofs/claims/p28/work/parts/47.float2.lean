/-! FLOATS: the operations on positive normal numbers, in any format; the bits of a float, a double -/
theorem nrm_t {f : Jvm.FP.Core.Fmt} {c : Nat} {q r : Int} (hf : fok f) (h : nrm f c q) (h1 : f.qmin ≤ r) (h2 : r ≤ f.qmax) : nrm f f.tails r := ⟨Nat.le_refl _, by have := tails2 hf; have := tails0 (f := f); omega, h1, h2⟩
theorem mul_n {f : Jvm.FP.Core.Fmt} {c : Nat} {q r : Int} (hf : fok f) (h : nrm f c q) (ht : nrm f f.tails r) (h' : nrm f c (q + r + ((f.p : Int) - 1))) : Jvm.FP.Core.mul f (nbits f c q) (nbits f f.tails r) = nbits f c (q + r + ((f.p : Int) - 1)) := by
  unfold Jvm.FP.Core.mul
  rw [decode_n hf h, decode_n hf ht]
  show Jvm.FP.Core.encode f (Jvm.FP.Core.roundRatio f false (c * f.tails) 1 (q + r)) = _
  have hp := hf.1
  rw [rr_exact hf (by decide) h' (by rw [show (q + r - (q + r + ((f.p : Int) - 1))).toNat = 0 by omega, show (q + r + ((f.p : Int) - 1) - (q + r)).toNat = f.p - 1 by omega, Nat.pow_zero, Nat.mul_one, Nat.one_mul]; rfl), encode_n h']
theorem mul_n' {f : Jvm.FP.Core.Fmt} {c : Nat} {q r : Int} (hf : fok f) (h : nrm f c q) (ht : nrm f f.tails r) (h' : nrm f c (q + r + ((f.p : Int) - 1))) : Jvm.FP.Core.mul f (nbits f f.tails r) (nbits f c q) = nbits f c (q + r + ((f.p : Int) - 1)) := by
  unfold Jvm.FP.Core.mul
  rw [decode_n hf h, decode_n hf ht]
  show Jvm.FP.Core.encode f (Jvm.FP.Core.roundRatio f false (f.tails * c) 1 (r + q)) = _
  have hp := hf.1
  rw [rr_exact hf (by decide) h' (by rw [show (r + q - (q + r + ((f.p : Int) - 1))).toNat = 0 by omega, show (q + r + ((f.p : Int) - 1) - (r + q)).toNat = f.p - 1 by omega, Nat.pow_zero, Nat.mul_one, Nat.one_mul, Nat.mul_comm]; rfl), encode_n h']
theorem div_n {f : Jvm.FP.Core.Fmt} {c : Nat} {q r : Int} (hf : fok f) (h : nrm f c q) (ht : nrm f f.tails r) (h' : nrm f c (q - r - ((f.p : Int) - 1))) : Jvm.FP.Core.div f (nbits f c q) (nbits f f.tails r) = nbits f c (q - r - ((f.p : Int) - 1)) := by
  unfold Jvm.FP.Core.div
  rw [decode_n hf h, decode_n hf ht]
  have h0 := tails0 (f := f)
  show Jvm.FP.Core.encode f (if f.tails = 0 then _ else Jvm.FP.Core.roundRatio f false c f.tails (q - r)) = _
  have hp := hf.1
  rw [if_neg (by omega), rr_exact hf h0 h' (by rw [show (q - r - ((f.p : Int) - 1) - (q - r)).toNat = 0 by omega, show (q - r - (q - r - ((f.p : Int) - 1))).toNat = f.p - 1 by omega, Nat.pow_zero, Nat.mul_one]; rfl), encode_n h']
theorem div_g {f : Jvm.FP.Core.Fmt} {c d : Nat} {q r : Int} (hf : fok f) (h : nrm f c q) (h2 : nrm f d r) (l : f.qmin ≤ q - r - f.p) (u : q - r - f.p + 2 ≤ f.qmax) : ∃ (c' : Nat) (q' : Int), Jvm.FP.Core.div f (nbits f c q) (nbits f d r) = nbits f c' q' ∧ nrm f c' q' ∧ q - r - f.p ≤ q' ∧ q' ≤ q - r - f.p + 2 := by
  have h0 := tails0 (f := f)
  have ht := tails2 hf
  have hc := h.1
  have hc2 := h.2.1
  have hd := h2.1
  have hd2 := h2.2.1
  have hl := lead_of (num := c) (den := d) (by omega) (by omega)
  generalize hk : Jvm.FP.Core.leading c d = k at hl
  have k0 : k ≤ 0 := by
    by_cases e : k ≤ 0
    · exact e
    · have a := hl.1
      rw [show (-k).toNat = 0 by omega, Nat.pow_zero, Nat.mul_one] at a
      have b : d * 2 ^ 1 ≤ d * 2 ^ k.toNat := Nat.mul_le_mul_left _ (Nat.pow_le_pow_right (by decide) (by omega))
      omega
  have k1 : -1 ≤ k := by
    by_cases e : -1 ≤ k
    · exact e
    · have a := hl.2
      rw [show (k + 1).toNat = 0 by omega, Nat.pow_zero, Nat.mul_one] at a
      have b : c * 2 ^ 1 ≤ c * 2 ^ (-(k + 1)).toNat := Nat.mul_le_mul_left _ (Nat.pow_le_pow_right (by decide) (by omega))
      omega
  obtain ⟨c', q', e1, e2, e3⟩ := rr_normal (f := f) (num := c) (den := d) (e := q - r) (k := k) hf (by omega) (by omega) hk (by omega) (by omega)
  refine ⟨c', q', ?_, e2, by omega, by omega⟩
  unfold Jvm.FP.Core.div
  rw [decode_n hf h, decode_n hf h2]
  show Jvm.FP.Core.encode f (if d = 0 then _ else Jvm.FP.Core.roundRatio f false c d (q - r)) = _
  rw [if_neg (by omega), e1, encode_n e2]
theorem enc_0 {f : Jvm.FP.Core.Fmt} : Jvm.FP.Core.encode f (.fin false 0 f.qmin) = 0 := by
  unfold Jvm.FP.Core.encode
  dsimp only
  rw [if_pos tails0]
  unfold Jvm.FP.Core.assemble
  simp
theorem div_0 {f : Jvm.FP.Core.Fmt} {d : Nat} {r : Int} (hf : fok f) (h2 : nrm f d r) : Jvm.FP.Core.div f 0 (nbits f d r) = 0 := by
  unfold Jvm.FP.Core.div
  have h0 := tails0 (f := f)
  rw [decode_0 hf, decode_n hf h2]
  show Jvm.FP.Core.encode f (if d = 0 then _ else Jvm.FP.Core.roundRatio f false 0 d _) = 0
  rw [if_neg (by have := h2.1; omega)]
  unfold Jvm.FP.Core.roundRatio
  rw [if_pos rfl, enc_0]
theorem mul_0' {f : Jvm.FP.Core.Fmt} {d : Nat} {r : Int} (hf : fok f) (h2 : nrm f d r) : Jvm.FP.Core.mul f (nbits f d r) 0 = 0 := by
  unfold Jvm.FP.Core.mul
  rw [decode_0 hf, decode_n hf h2]
  show Jvm.FP.Core.encode f (Jvm.FP.Core.roundRatio f false (d * 0) 1 _) = 0
  unfold Jvm.FP.Core.roundRatio
  rw [if_pos (Nat.mul_zero d), enc_0]
theorem int_0 {f : Jvm.FP.Core.Fmt} : Jvm.FP.Core.fromInt f 0 = 0 := by
  unfold Jvm.FP.Core.fromInt
  show Jvm.FP.Core.encode f (Jvm.FP.Core.roundRatio f false 0 1 0) = 0
  unfold Jvm.FP.Core.roundRatio
  rw [if_pos rfl, enc_0]
theorem int_b {f : Jvm.FP.Core.Fmt} {n j : Nat} (hf : fok f) (h0 : 0 < n) (h1 : n < 2 ^ j) (hj : j ≤ f.p - 1) (l : f.qmin ≤ - ((f.p : Int) - 1)) (u : 1 ≤ f.qmax) : ∃ (c : Nat) (q : Int), Jvm.FP.Core.fromInt f n = nbits f c q ∧ nrm f c q ∧ -((f.p : Int) - 1) ≤ q ∧ q ≤ (j : Int) - ((f.p : Int) - 1) := by
  have hp := hf.1
  have hl := lead_of (num := n) (den := 1) h0 (by decide)
  generalize hk : Jvm.FP.Core.leading n 1 = k at hl
  have k0 : 0 ≤ k := by
    by_cases e : 0 ≤ k
    · exact e
    · have a := hl.2
      rw [show (k + 1).toNat = 0 by omega, Nat.pow_zero] at a
      have b : n * 2 ^ 0 ≤ n * 2 ^ (-(k + 1)).toNat := Nat.mul_le_mul_left _ (Nat.pow_le_pow_right (by decide) (by omega))
      omega
  have k1 : k < (j : Int) := by
    by_cases e : k < (j : Int)
    · exact e
    · have a := hl.1
      rw [show (-k).toNat = 0 by omega, Nat.pow_zero, Nat.mul_one, Nat.one_mul] at a
      have b : 2 ^ j ≤ 2 ^ k.toNat := Nat.pow_le_pow_right (by decide) (by omega)
      omega
  obtain ⟨c, q, e1, e2, e3⟩ := rr_normal (f := f) (num := n) (den := 1) (e := 0) (k := k) hf h0 (by decide) hk (by omega) (by omega)
  refine ⟨c, q, ?_, e2, by omega, by omega⟩
  unfold Jvm.FP.Core.fromInt
  show Jvm.FP.Core.encode f (Jvm.FP.Core.roundRatio f (decide ((n : Int) < 0)) (n : Int).natAbs 1 0) = _
  rw [decide_eq_false (by omega), Int.natAbs_natCast, e1, encode_n e2]
theorem int_n {f : Jvm.FP.Core.Fmt} {n : Nat} (hf : fok f) (h0 : 0 < n) (h1 : n < 2 ^ (f.p - 1)) (l : f.qmin ≤ - ((f.p : Int) - 1)) (u : 1 ≤ f.qmax) : ∃ (c : Nat) (q : Int), Jvm.FP.Core.fromInt f n = nbits f c q ∧ nrm f c q ∧ -((f.p : Int) - 1) ≤ q ∧ q ≤ 0 := by
  have hp := hf.1
  obtain ⟨c, q, e1, e2, e3, e4⟩ := int_b hf h0 h1 (Nat.le_refl _) l u
  exact ⟨c, q, e1, e2, e3, by omega⟩
theorem cmp_n0 {f : Jvm.FP.Core.Fmt} {c : Nat} {q : Int} (hf : fok f) (h : nrm f c q) : Jvm.FP.Core.cmp f (nbits f c q) 0 = some .gt := by
  unfold Jvm.FP.Core.cmp
  rw [decode_0 hf, decode_n hf h]
  have h0 := tails0 (f := f)
  show some (compare (Jvm.FP.Core.signed false (Jvm.FP.Core.inUnits c q _)) (Jvm.FP.Core.signed false (Jvm.FP.Core.inUnits 0 _ _))) = _
  have e : Jvm.FP.Core.inUnits 0 f.qmin (min q f.qmin) = 0 := Nat.zero_mul _
  rw [e]
  have hp : 0 < Jvm.FP.Core.inUnits c q (min q f.qmin) := Nat.mul_pos (by have := h.1; omega) (Nat.two_pow_pos _)
  congr 1
  show compare ((Jvm.FP.Core.inUnits c q (min q f.qmin) : Nat) : Int) ((0 : Nat) : Int) = .gt
  rw [Int.compare_eq_gt]
  omega
theorem cmp_00 {f : Jvm.FP.Core.Fmt} (hf : fok f) : Jvm.FP.Core.cmp f 0 0 = some .eq := by
  unfold Jvm.FP.Core.cmp
  rw [decode_0 hf]
  show some (compare (Jvm.FP.Core.signed false (Jvm.FP.Core.inUnits 0 _ _)) (Jvm.FP.Core.signed false (Jvm.FP.Core.inUnits 0 _ _))) = _
  rw [show Jvm.FP.Core.inUnits 0 f.qmin (min f.qmin f.qmin) = 0 from Nat.zero_mul _]
  rfl
/-- against tails * 2^r: less just where q < r -/
theorem cmp_t {f : Jvm.FP.Core.Fmt} {c : Nat} {q r : Int} (hf : fok f) (h : nrm f c q) (ht : nrm f f.tails r) : (q < r → Jvm.FP.Core.cmp f (nbits f c q) (nbits f f.tails r) = some .lt) ∧ (r ≤ q → Jvm.FP.Core.cmp f (nbits f c q) (nbits f f.tails r) = some .gt ∨ Jvm.FP.Core.cmp f (nbits f c q) (nbits f f.tails r) = some .eq) := by
  have h2 := tails2 hf
  have h0 := tails0 (f := f)
  have e : Jvm.FP.Core.cmp f (nbits f c q) (nbits f f.tails r) = some (compare (((Jvm.FP.Core.inUnits c q (min q r) : Nat)) : Int) (((Jvm.FP.Core.inUnits f.tails r (min q r) : Nat)) : Int)) := by
    unfold Jvm.FP.Core.cmp
    rw [decode_n hf ht, decode_n hf h]; rfl
  rw [e]
  constructor
  · intro hlt
    rw [show min q r = q by omega]
    congr 1
    rw [Int.compare_eq_lt]
    have a : Jvm.FP.Core.inUnits c q q = c := by unfold Jvm.FP.Core.inUnits; rw [Int.sub_self]; exact Nat.mul_one c
    have b : f.tails * 2 ^ 1 ≤ Jvm.FP.Core.inUnits f.tails r q := Nat.mul_le_mul_left _ (Nat.pow_le_pow_right (by decide) (by omega))
    rw [a]
    have := h.2.1
    omega
  · intro hle
    rw [show min q r = r by omega]
    have a : Jvm.FP.Core.inUnits f.tails r r = f.tails := by unfold Jvm.FP.Core.inUnits; rw [Int.sub_self]; exact Nat.mul_one _
    have b : c * 2 ^ 0 ≤ Jvm.FP.Core.inUnits c q r := Nat.mul_le_mul_left _ (Nat.pow_le_pow_right (by decide) (by omega))
    rw [a]
    have := h.1
    by_cases e1 : ((Jvm.FP.Core.inUnits c q r : Nat) : Int) = (f.tails : Int)
    · right; congr 1; rw [e1]; exact Int.compare_eq_eq.mpr rfl
    · left; congr 1; rw [Int.compare_eq_gt]; omega
theorem f32 : fok Jvm.FP.Core.b32 := by unfold fok; decide
theorem f64 : fok Jvm.FP.Core.b64 := by unfold fok; decide
theorem c32 : (Jvm.FP.Core.b32).tails = 8388608 ∧ (Jvm.FP.Core.b32).exps = 256 ∧ (Jvm.FP.Core.b32).qmin = -149 ∧ (Jvm.FP.Core.b32).qmax = 104 ∧ (Jvm.FP.Core.b32).p = 24 := by decide
theorem c64 : (Jvm.FP.Core.b64).tails = 4503599627370496 ∧ (Jvm.FP.Core.b64).exps = 2048 ∧ (Jvm.FP.Core.b64).qmin = -1074 ∧ (Jvm.FP.Core.b64).qmax = 971 ∧ (Jvm.FP.Core.b64).p = 53 := by decide
/-- a float that is 0 or a positive normal number -/
def fV (v : UInt32) : Prop := v = 0 ∨ ∃ c q, nrm Jvm.FP.Core.b32 c q ∧ v = UInt32.ofNat (nbits Jvm.FP.Core.b32 c q)
def dV (v : UInt64) : Prop := v = 0 ∨ ∃ c q, nrm Jvm.FP.Core.b64 c q ∧ v = UInt64.ofNat (nbits Jvm.FP.Core.b64 c q)
theorem u32n {n : Nat} (h : n < 4294967296) : (UInt32.ofNat n).toNat = n := Nat.mod_eq_of_lt h
theorem u64n {n : Nat} (h : n < 18446744073709551616) : (UInt64.ofNat n).toNat = n := Nat.mod_eq_of_lt h
theorem nb32 {c : Nat} {q : Int} (h : nrm Jvm.FP.Core.b32 c q) : (UInt32.ofNat (nbits Jvm.FP.Core.b32 c q)).toNat = nbits Jvm.FP.Core.b32 c q ∧ nbits Jvm.FP.Core.b32 c q < 2139095040 := by
  have := (nbits_lt f32 h).1
  rw [c32.1, c32.2.1] at this
  exact ⟨u32n (by omega), by omega⟩
theorem nb64 {c : Nat} {q : Int} (h : nrm Jvm.FP.Core.b64 c q) : (UInt64.ofNat (nbits Jvm.FP.Core.b64 c q)).toNat = nbits Jvm.FP.Core.b64 c q ∧ nbits Jvm.FP.Core.b64 c q < 9218868437227405312 := by
  have := (nbits_lt f64 h).1
  rw [c64.1, c64.2.1] at this
  exact ⟨u64n (by omega), by omega⟩
theorem fV.lt {v : UInt32} (h : fV v) : v.toNat < 2139095040 := by
  rcases h with e | ⟨c, q, h, e⟩
  · rw [e]; decide
  · rw [e, (nb32 h).1]; exact (nb32 h).2
theorem dV.lt {v : UInt64} (h : dV v) : v.toNat < 9218868437227405312 := by
  rcases h with e | ⟨c, q, h, e⟩
  · rw [e]; decide
  · rw [e, (nb64 h).1]; exact (nb64 h).2
theorem fV.n {v : UInt32} (h : fV v) : vf_n32 v := by
  have := h.lt
  unfold vf_n32
  rw [UInt32.le_iff_toNat_le, UInt32.toNat_and]
  exact Nat.le_trans Nat.and_le_left (Nat.le_of_lt this)
theorem dV.n {v : UInt64} (h : dV v) : vf_n64 v := by
  have := h.lt
  unfold vf_n64
  rw [UInt64.le_iff_toNat_le, UInt64.toNat_and]
  exact Nat.le_trans Nat.and_le_left (Nat.le_of_lt this)
theorem i2f_n {x : Int32} (h0 : 0 < x.toInt) (h1 : x.toInt < 8388608) : ∃ c q, nrm Jvm.FP.Core.b32 c q ∧ FP.i2f x = UInt32.ofNat (nbits Jvm.FP.Core.b32 c q) ∧ -23 ≤ q ∧ q ≤ 0 := by
  obtain ⟨c, q, e1, e2, e3, e4⟩ := int_n (f := Jvm.FP.Core.b32) (n := x.toInt.toNat) f32 (by omega) (by rw [c32.2.2.2.2]; show _ < 8388608; omega) (by rw [c32.2.2.1, c32.2.2.2.2]; decide) (by rw [c32.2.2.2.1]; decide)
  rw [c32.2.2.2.2] at e3
  refine ⟨c, q, e2, ?_, by omega, e4⟩
  show UInt32.ofNat (Jvm.FP.Core.fromInt Jvm.FP.Core.b32 x.toInt) = _
  rw [show x.toInt = (x.toInt.toNat : Int) by omega, e1]
theorem i2d_n {x : Int32} (h0 : 0 < x.toInt) : ∃ c q, nrm Jvm.FP.Core.b64 c q ∧ FP.i2d x = UInt64.ofNat (nbits Jvm.FP.Core.b64 c q) ∧ -52 ≤ q ∧ q ≤ 0 := by
  have := x.toInt_lt
  obtain ⟨c, q, e1, e2, e3, e4⟩ := int_n (f := Jvm.FP.Core.b64) (n := x.toInt.toNat) f64 (by omega) (by rw [c64.2.2.2.2]; show _ < 4503599627370496; omega) (by rw [c64.2.2.1, c64.2.2.2.2]; decide) (by rw [c64.2.2.2.1]; decide)
  rw [c64.2.2.2.2] at e3
  refine ⟨c, q, e2, ?_, by omega, e4⟩
  show UInt64.ofNat (Jvm.FP.Core.fromInt Jvm.FP.Core.b64 x.toInt) = _
  rw [show x.toInt = (x.toInt.toNat : Int) by omega, e1]
theorem i2f_b {x : Int32} (h0 : 0 < x.toInt) (h1 : x.toInt < 4194304) : ∃ c q, nrm Jvm.FP.Core.b32 c q ∧ FP.i2f x = UInt32.ofNat (nbits Jvm.FP.Core.b32 c q) ∧ -23 ≤ q ∧ q ≤ -1 := by
  obtain ⟨c, q, e1, e2, e3, e4⟩ := int_b (f := Jvm.FP.Core.b32) (n := x.toInt.toNat) (j := 22) f32 (by omega) (by show _ < 4194304; omega) (by rw [c32.2.2.2.2]; decide) (by rw [c32.2.2.1, c32.2.2.2.2]; decide) (by rw [c32.2.2.2.1]; decide)
  rw [c32.2.2.2.2] at e3 e4
  refine ⟨c, q, e2, ?_, by omega, by omega⟩
  show UInt32.ofNat (Jvm.FP.Core.fromInt Jvm.FP.Core.b32 x.toInt) = _
  rw [show x.toInt = (x.toInt.toNat : Int) by omega, e1]
theorem i2d_b {x : Int32} (h0 : 0 < x.toInt) : ∃ c q, nrm Jvm.FP.Core.b64 c q ∧ FP.i2d x = UInt64.ofNat (nbits Jvm.FP.Core.b64 c q) ∧ -52 ≤ q ∧ q ≤ -21 := by
  have := x.toInt_lt
  obtain ⟨c, q, e1, e2, e3, e4⟩ := int_b (f := Jvm.FP.Core.b64) (n := x.toInt.toNat) (j := 31) f64 (by omega) (by show _ < 2147483648; omega) (by rw [c64.2.2.2.2]; decide) (by rw [c64.2.2.1, c64.2.2.2.2]; decide) (by rw [c64.2.2.2.1]; decide)
  rw [c64.2.2.2.2] at e3 e4
  refine ⟨c, q, e2, ?_, by omega, by omega⟩
  show UInt64.ofNat (Jvm.FP.Core.fromInt Jvm.FP.Core.b64 x.toInt) = _
  rw [show x.toInt = (x.toInt.toNat : Int) by omega, e1]
theorem i2f_0 : FP.i2f 0 = 0 := by
  show UInt32.ofNat (Jvm.FP.Core.fromInt Jvm.FP.Core.b32 (0 : Int32).toInt) = 0
  rw [ti_0, int_0]; rfl
theorem i2d_0 : FP.i2d 0 = 0 := by
  show UInt64.ofNat (Jvm.FP.Core.fromInt Jvm.FP.Core.b64 (0 : Int32).toInt) = 0
  rw [ti_0, int_0]; rfl
/-- 0, or a positive normal number below 2 to the p-th -/
def fS (v : UInt32) : Prop := v = 0 ∨ ∃ c q, nrm Jvm.FP.Core.b32 c q ∧ q ≤ 0 ∧ v = UInt32.ofNat (nbits Jvm.FP.Core.b32 c q)
def dS (v : UInt64) : Prop := v = 0 ∨ ∃ c q, nrm Jvm.FP.Core.b64 c q ∧ q ≤ 0 ∧ v = UInt64.ofNat (nbits Jvm.FP.Core.b64 c q)
theorem fS.V {v : UInt32} (h : fS v) : fV v := by
  rcases h with e | ⟨c, q, h, -, e⟩
  · exact Or.inl e
  · exact Or.inr ⟨c, q, h, e⟩
theorem dS.V {v : UInt64} (h : dS v) : dV v := by
  rcases h with e | ⟨c, q, h, -, e⟩
  · exact Or.inl e
  · exact Or.inr ⟨c, q, h, e⟩
theorem fdiv_S {x y : Int32} (h0 : 0 ≤ x.toInt) (h1 : x.toInt < 4194304) (g0 : 0 < y.toInt) (g1 : y.toInt < 8388608) : fS (FP.fdiv (FP.i2f x) (FP.i2f y)) := by
  obtain ⟨d, r, n2, e2, a3, a4⟩ := i2f_n g0 g1
  by_cases z : x.toInt = 0
  · rw [show x = 0 from Int32.toInt_inj.mp (z.trans ti_0.symm), i2f_0, e2]
    left
    show UInt32.ofNat (Jvm.FP.Core.div Jvm.FP.Core.b32 (0 : UInt32).toNat (UInt32.ofNat _).toNat) = 0
    rw [(nb32 n2).1, show (0 : UInt32).toNat = 0 from rfl, div_0 f32 n2]; rfl
  · obtain ⟨c, q, n1, e1, a1, a2⟩ := i2f_b (x := x) (by omega) h1
    obtain ⟨c', q', k1, k2, -, k4⟩ := div_g f32 n1 n2 (by rw [c32.2.2.1, c32.2.2.2.2]; omega) (by rw [c32.2.2.2.1, c32.2.2.2.2]; omega)
    rw [c32.2.2.2.2] at k4
    right
    refine ⟨c', q', k2, by omega, ?_⟩
    rw [e1, e2]
    show UInt32.ofNat (Jvm.FP.Core.div Jvm.FP.Core.b32 (UInt32.ofNat _).toNat (UInt32.ofNat _).toNat) = _
    rw [(nb32 n1).1, (nb32 n2).1, k1]
theorem ten : nrm Jvm.FP.Core.b64 5629499534213120 (-49) ∧ (0x4024000000000000 : UInt64) = UInt64.ofNat (nbits Jvm.FP.Core.b64 5629499534213120 (-49)) := by
  constructor
  · unfold nrm; decide
  · decide
theorem one64 : nrm Jvm.FP.Core.b64 (Jvm.FP.Core.b64).tails (-52) ∧ FP.dconst1 = UInt64.ofNat (nbits Jvm.FP.Core.b64 (Jvm.FP.Core.b64).tails (-52)) := by
  constructor
  · unfold nrm; decide
  · decide
theorem ddiv_S {x y : Int32} (h0 : 0 ≤ x.toInt) (g0 : 0 < y.toInt) : vf_n64 (FP.ddiv (FP.i2d y) 0x4024000000000000) ∧ dS (FP.ddiv (FP.i2d x) (FP.ddiv (FP.i2d y) 0x4024000000000000)) := by
  obtain ⟨d, r, n2, e2, a3, a4⟩ := i2d_n g0
  obtain ⟨d', r', k1, k2, k3, k4⟩ := div_g f64 n2 ten.1 (by rw [c64.2.2.1, c64.2.2.2.2]; omega) (by rw [c64.2.2.2.1, c64.2.2.2.2]; omega)
  rw [c64.2.2.2.2] at k3 k4
  have hy : FP.ddiv (FP.i2d y) 0x4024000000000000 = UInt64.ofNat (nbits Jvm.FP.Core.b64 d' r') := by
    rw [e2, ten.2]
    show UInt64.ofNat (Jvm.FP.Core.div Jvm.FP.Core.b64 (UInt64.ofNat _).toNat (UInt64.ofNat _).toNat) = _
    rw [(nb64 n2).1, (nb64 ten.1).1, k1]
  rw [hy]
  refine ⟨dV.n (Or.inr ⟨d', r', k2, rfl⟩), ?_⟩
  by_cases z : x.toInt = 0
  · rw [show x = 0 from Int32.toInt_inj.mp (z.trans ti_0.symm), i2d_0]
    left
    show UInt64.ofNat (Jvm.FP.Core.div Jvm.FP.Core.b64 (0 : UInt64).toNat (UInt64.ofNat _).toNat) = 0
    rw [(nb64 k2).1, show (0 : UInt64).toNat = 0 from rfl, div_0 f64 k2]; rfl
  · obtain ⟨c, q, n1, e1, a1, a2⟩ := i2d_b (x := x) (by omega)
    obtain ⟨c', q', m1, m2, -, m4⟩ := div_g f64 n1 k2 (by rw [c64.2.2.1, c64.2.2.2.2]; omega) (by rw [c64.2.2.2.1, c64.2.2.2.2]; omega)
    rw [c64.2.2.2.2] at m4
    right
    refine ⟨c', q', m2, by omega, ?_⟩
    rw [e1]
    show UInt64.ofNat (Jvm.FP.Core.div Jvm.FP.Core.b64 (UInt64.ofNat _).toNat (UInt64.ofNat _).toNat) = _
    rw [(nb64 n1).1, (nb64 k2).1, m1]
/-- 1.0 times an int -/
theorem dmul_1 {x : Int32} (h0 : 0 ≤ x.toInt) : FP.dmul FP.dconst1 (FP.i2d x) = FP.i2d x ∧ vf_n64 (FP.i2d x) := by
  by_cases z : x.toInt = 0
  · rw [show x = 0 from Int32.toInt_inj.mp (z.trans ti_0.symm), i2d_0]
    refine ⟨?_, dV.n (Or.inl rfl)⟩
    show UInt64.ofNat (Jvm.FP.Core.mul Jvm.FP.Core.b64 FP.dconst1.toNat (0 : UInt64).toNat) = 0
    rw [one64.2, (nb64 one64.1).1, show (0 : UInt64).toNat = 0 from rfl, mul_0' f64 one64.1]; rfl
  · obtain ⟨c, q, n1, e1, a1, a2⟩ := i2d_n (x := x) (by omega)
    refine ⟨?_, by rw [e1]; exact dV.n (Or.inr ⟨c, q, n1, rfl⟩)⟩
    rw [e1, one64.2]
    show UInt64.ofNat (Jvm.FP.Core.mul Jvm.FP.Core.b64 (UInt64.ofNat _).toNat (UInt64.ofNat _).toNat) = _
    have e : q + (-52) + (((Jvm.FP.Core.b64).p : Int) - 1) = q := by rw [c64.2.2.2.2]; omega
    rw [(nb64 n1).1, (nb64 one64.1).1, mul_n' f64 n1 one64.1 (by rw [e]; exact n1), e]
