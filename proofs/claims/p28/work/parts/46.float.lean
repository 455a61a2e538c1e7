/-! FLOATS: positive normal numbers of a format; rounding of what is exact, and of what is normal -/
/-- c * 2^q is a normal number of f -/
def nrm (f : Jvm.FP.Core.Fmt) (c : Nat) (q : Int) : Prop := f.tails ≤ c ∧ c < 2 ^ f.p ∧ f.qmin ≤ q ∧ q ≤ f.qmax
def nbits (f : Jvm.FP.Core.Fmt) (c : Nat) (q : Int) : Nat := ((q - f.qmin).toNat + 1) * f.tails + (c - f.tails)
def fok (f : Jvm.FP.Core.Fmt) : Prop := 2 ≤ f.p ∧ 2 ≤ f.w
theorem tails2 {f : Jvm.FP.Core.Fmt} (h : fok f) : 2 * f.tails = 2 ^ f.p := by
  unfold Jvm.FP.Core.Fmt.tails
  rw [← Nat.pow_succ']
  congr 1
  have := h.1
  omega
theorem tails0 {f : Jvm.FP.Core.Fmt} : 0 < f.tails := Nat.two_pow_pos _
theorem expsE {f : Jvm.FP.Core.Fmt} (h : fok f) : f.qmax - f.qmin + 3 = f.exps := by
  have e : f.exps = 2 * 2 ^ (f.w - 1) := by
    unfold Jvm.FP.Core.Fmt.exps
    rw [← Nat.pow_succ']
    congr 1
    have := h.2
    omega
  have h2 : 2 ≤ 2 ^ (f.w - 1) := Nat.le_trans (by decide) (Nat.pow_le_pow_right (n := 2) (by decide) (show 1 ≤ f.w - 1 by have := h.2; omega))
  rw [e]
  unfold Jvm.FP.Core.Fmt.qmax Jvm.FP.Core.Fmt.qmin Jvm.FP.Core.Fmt.emax
  omega
theorem encode_n {f : Jvm.FP.Core.Fmt} {c : Nat} {q : Int} (h : nrm f c q) : Jvm.FP.Core.encode f (.fin false c q) = nbits f c q := by
  unfold Jvm.FP.Core.encode Jvm.FP.Core.assemble nbits
  dsimp only
  rw [if_neg (by have := h.1; omega)]
  simp
theorem decode_n {f : Jvm.FP.Core.Fmt} {c : Nat} {q : Int} (hf : fok f) (h : nrm f c q) : Jvm.FP.Core.decode f (nbits f c q) = .fin false c q := by
  obtain ⟨h1, h2, h3, h4⟩ := h
  have ht := tails2 hf
  have h0 := tails0 (f := f)
  have hE := expsE hf
  have d1 : nbits f c q / f.tails = (q - f.qmin).toNat + 1 := by
    unfold nbits
    rw [Nat.mul_comm, Nat.mul_add_div h0, Nat.div_eq_of_lt (by omega), Nat.add_zero]
  have d2 : nbits f c q % f.tails = c - f.tails := by
    unfold nbits
    rw [Nat.mul_comm, Nat.mul_add_mod, Nat.mod_eq_of_lt (by omega)]
  have e1 : Jvm.FP.Core.fieldE f (nbits f c q) = (q - f.qmin).toNat + 1 := by
    unfold Jvm.FP.Core.fieldE
    rw [d1, Nat.mod_eq_of_lt (by omega)]
  have e2 : Jvm.FP.Core.fieldT f (nbits f c q) = c - f.tails := d2
  have e3 : Jvm.FP.Core.fieldS f (nbits f c q) = false := by
    unfold Jvm.FP.Core.fieldS
    rw [d1, Nat.div_eq_of_lt (by omega)]; rfl
  unfold Jvm.FP.Core.decode
  rw [e1, e2, e3, if_neg (by omega), if_neg (by omega), show f.tails + (c - f.tails) = c by omega, show f.qmin + (((((q - f.qmin).toNat + 1 : Nat)) : Int) - 1) = q by omega]
theorem nbits_lt {f : Jvm.FP.Core.Fmt} {c : Nat} {q : Int} (hf : fok f) (h : nrm f c q) : nbits f c q < (f.exps - 1) * f.tails ∧ 0 < nbits f c q := by
  obtain ⟨h1, h2, h3, h4⟩ := h
  have ht := tails2 hf
  have h0 := tails0 (f := f)
  have hE := expsE hf
  have hm : ((q - f.qmin).toNat + 1 + 1) * f.tails ≤ (f.exps - 1) * f.tails := Nat.mul_le_mul_right _ (by omega)
  rw [Nat.add_mul] at hm
  unfold nbits
  rw [Nat.add_mul] at hm ⊢
  omega
theorem decode_0 {f : Jvm.FP.Core.Fmt} (hf : fok f) : Jvm.FP.Core.decode f 0 = .fin false 0 f.qmin := by
  have h0 := tails0 (f := f)
  have hE := expsE hf
  have hq : f.qmin ≤ f.qmax := by
    have h2 : 2 ≤ 2 ^ (f.w - 1) := Nat.le_trans (by decide) (Nat.pow_le_pow_right (n := 2) (by decide) (show 1 ≤ f.w - 1 by have := hf.2; omega))
    unfold Jvm.FP.Core.Fmt.qmax Jvm.FP.Core.Fmt.qmin Jvm.FP.Core.Fmt.emax
    omega
  have e1 : Jvm.FP.Core.fieldE f 0 = 0 := by unfold Jvm.FP.Core.fieldE; rw [Nat.zero_div, Nat.zero_mod]
  have e2 : Jvm.FP.Core.fieldT f 0 = 0 := by unfold Jvm.FP.Core.fieldT; rw [Nat.zero_mod]
  have e3 : Jvm.FP.Core.fieldS f 0 = false := by unfold Jvm.FP.Core.fieldS; rw [Nat.zero_div, Nat.zero_div]; rfl
  unfold Jvm.FP.Core.decode
  rw [e1, e2, e3, if_neg (by omega), if_pos rfl]
/-- num / den lies between 2^k and 2^(k+1): by products -/
def lead (num den : Nat) (k : Int) : Prop := den * 2 ^ k.toNat ≤ num * 2 ^ (-k).toNat ∧ num * 2 ^ (-(k + 1)).toNat < den * 2 ^ (k + 1).toNat
theorem pw {a b : Nat} : 2 ^ (a + b) = 2 ^ a * 2 ^ b := Nat.pow_add 2 a b
theorem lead_of {num den : Nat} (hn : 0 < num) (hd : 0 < den) : lead num den (Jvm.FP.Core.leading num den) := by
  have n1 := Nat.log2_self_le (show num ≠ 0 by omega)
  have n2 := Nat.lt_log2_self (n := num)
  have d1 := Nat.log2_self_le (show den ≠ 0 by omega)
  have d2 := Nat.lt_log2_self (n := den)
  generalize ha : num.log2 = a at n1 n2
  generalize hb : den.log2 = b at d1 d2
  rw [pw] at n2 d2
  have n2 : num < 2 ^ a * 2 := n2
  have d2 : den < 2 ^ b * 2 := d2
  unfold Jvm.FP.Core.leading
  rw [ha, hb]
  dsimp only
  -- num < den * 2^(k+1) in products, k = a - b
  have up : num * 2 ^ (-((a : Int) - b + 1)).toNat < den * 2 ^ ((a : Int) - b + 1).toNat := by
    rcases Nat.le_total b a with h | h
    · rw [show (-((a : Int) - b + 1)).toNat = 0 by omega, show ((a : Int) - b + 1).toNat = (a - b) + 1 by omega, pw, Nat.pow_zero, Nat.mul_one]
      have : 2 ^ a * 2 = 2 ^ b * (2 ^ (a - b) * 2) := by rw [← Nat.mul_assoc, ← pw, show b + (a - b) = a by omega]
      calc num < 2 ^ a * 2 := n2
        _ = 2 ^ b * (2 ^ (a - b) * 2) := this
        _ ≤ den * (2 ^ (a - b) * 2 ^ 1) := Nat.mul_le_mul_right _ d1
    · by_cases e : a = b
      · subst e
        rw [show (-((a : Int) - a + 1)).toNat = 0 by omega, show ((a : Int) - a + 1).toNat = 1 by omega, Nat.pow_zero, Nat.mul_one]
        calc num < 2 ^ a * 2 := n2
          _ ≤ den * 2 ^ 1 := Nat.mul_le_mul_right _ d1
      · rw [show ((a : Int) - b + 1).toNat = 0 by omega, show (-((a : Int) - b + 1)).toNat = b - a - 1 by omega, Nat.pow_zero, Nat.mul_one]
        calc num * 2 ^ (b - a - 1) < 2 ^ a * 2 * 2 ^ (b - a - 1) := Nat.mul_lt_mul_of_pos_right n2 (Nat.two_pow_pos _)
          _ = 2 ^ b := by rw [Nat.mul_assoc, show (2 : Nat) * 2 ^ (b - a - 1) = 2 ^ (b - a) by rw [← Nat.pow_succ']; congr 1; omega, ← pw]; congr 1; omega
          _ ≤ den := d1
  -- den * 2^(k-1) <= num
  have lo : den * 2 ^ ((a : Int) - b - 1).toNat ≤ num * 2 ^ (-((a : Int) - b - 1)).toNat := by
    rcases Nat.lt_or_ge b a with h | h
    · rw [show (-((a : Int) - b - 1)).toNat = 0 by omega, show ((a : Int) - b - 1).toNat = a - b - 1 by omega, Nat.pow_zero, Nat.mul_one]
      calc den * 2 ^ (a - b - 1) ≤ 2 ^ b * 2 * 2 ^ (a - b - 1) := Nat.mul_le_mul_right _ (Nat.le_of_lt d2)
        _ = 2 ^ a := by rw [Nat.mul_assoc, show (2 : Nat) * 2 ^ (a - b - 1) = 2 ^ (a - b) by rw [← Nat.pow_succ']; congr 1; omega, ← pw]; congr 1; omega
        _ ≤ num := n1
    · rw [show ((a : Int) - b - 1).toNat = 0 by omega, show (-((a : Int) - b - 1)).toNat = (b - a) + 1 by omega, pw, Nat.pow_zero, Nat.mul_one]
      calc den ≤ 2 ^ b * 2 := Nat.le_of_lt d2
        _ = 2 ^ a * (2 ^ (b - a) * 2) := by rw [← Nat.mul_assoc, ← pw, show a + (b - a) = b by omega]
        _ ≤ num * (2 ^ (b - a) * 2 ^ 1) := Nat.mul_le_mul_right _ n1
  split
  · rename_i h; exact ⟨h, up⟩
  · rename_i h
    refine ⟨lo, ?_⟩
    rw [show (a : Int) - b - 1 + 1 = (a : Int) - b by omega]
    omega
theorem lead_one {num den : Nat} {j k : Int} (hn : 0 < num) (hd : 0 < den) (h : lead num den j) (h' : lead num den k) : j = k := by
  have go : ∀ {j k : Int}, lead num den j → lead num den k → ¬ j < k := by
    intro j k h h' hlt
    have a1 := h.2
    have a2 := h'.1
    -- num * 2^-(j+1) < den * 2^(j+1), den * 2^k <= num * 2^-k, j + 1 <= k
    have b1 : num * 2 ^ (-(j + 1)).toNat * (2 ^ (-k).toNat * 2 ^ k.toNat) < den * 2 ^ (j + 1).toNat * (2 ^ (-k).toNat * 2 ^ k.toNat) := Nat.mul_lt_mul_of_pos_right a1 (Nat.mul_pos (Nat.two_pow_pos _) (Nat.two_pow_pos _))
    have b2 : den * 2 ^ k.toNat * (2 ^ (j + 1).toNat * 2 ^ (-(j + 1)).toNat) ≤ num * 2 ^ (-k).toNat * (2 ^ (j + 1).toNat * 2 ^ (-(j + 1)).toNat) := Nat.mul_le_mul_right _ a2
    have c1 : num * 2 ^ ((-(j + 1)).toNat + (-k).toNat + k.toNat) < den * 2 ^ ((j + 1).toNat + (-k).toNat + k.toNat) := by
      rw [pw, pw, pw, pw, Nat.mul_assoc (2 ^ (-(j + 1)).toNat), Nat.mul_assoc (2 ^ (j + 1).toNat), ← Nat.mul_assoc num, ← Nat.mul_assoc den]; exact b1
    have c2 : den * 2 ^ (k.toNat + (j + 1).toNat + (-(j + 1)).toNat) ≤ num * 2 ^ ((-k).toNat + (j + 1).toNat + (-(j + 1)).toNat) := by
      rw [pw, pw, pw, pw, Nat.mul_assoc (2 ^ k.toNat), Nat.mul_assoc (2 ^ (-k).toNat), ← Nat.mul_assoc num, ← Nat.mul_assoc den]; exact b2
    have d1 : num * 2 ^ ((-k).toNat + (j + 1).toNat + (-(j + 1)).toNat) ≤ num * 2 ^ ((-(j + 1)).toNat + (-k).toNat + k.toNat) := Nat.mul_le_mul_left _ (Nat.pow_le_pow_right (by decide) (by omega))
    have d2 : den * 2 ^ ((j + 1).toNat + (-k).toNat + k.toNat) ≤ den * 2 ^ (k.toNat + (j + 1).toNat + (-(j + 1)).toNat) := Nat.mul_le_mul_left _ (Nat.pow_le_pow_right (by decide) (by omega))
    omega
  have := go h h'
  have := go h' h
  omega
theorem nearest_exact {c d : Nat} (hd : 0 < d) : Jvm.FP.Core.nearest (c * d) d = c := by
  unfold Jvm.FP.Core.nearest
  rw [Nat.mul_mod_left, if_pos (by omega), Nat.mul_div_cancel c hd]
/-- a number that is exact keeps its digits -/
theorem rr_exact {f : Jvm.FP.Core.Fmt} {s : Bool} {num den c : Nat} {e q : Int} (hf : fok f) (hd : 0 < den) (h : nrm f c q) (hx : num * 2 ^ (e - q).toNat = c * (den * 2 ^ (q - e).toNat)) : Jvm.FP.Core.roundRatio f s num den e = .fin s c q := by
  obtain ⟨h1, h2, h3, h4⟩ := h
  have ht := tails2 hf
  have h0 := tails0 (f := f)
  have hn : 0 < num := by
    rcases Nat.eq_zero_or_pos num with z | z
    · rw [z, Nat.zero_mul] at hx
      have : 0 < c * (den * 2 ^ (q - e).toNat) := Nat.mul_pos (by omega) (Nat.mul_pos hd (Nat.two_pow_pos _))
      omega
    · exact z
  have hl : lead num den (q - e + ((f.p : Int) - 1)) := by
    have hp := hf.1
    have t1 : 2 ^ (f.p - 1) ≤ c := h1
    have t2 : c < 2 ^ (f.p - 1) * 2 := by rw [← Nat.pow_succ, show (f.p - 1).succ = f.p by omega]; exact h2
    generalize hm : f.p - 1 = m at t1 t2
    have hpm : (f.p : Int) - 1 = m := by omega
    rw [hpm]
    have key : ∀ (k : Int) (A : Nat), (q - e).toNat + k.toNat + A = (q - e).toNat + k.toNat + A := fun _ _ => rfl
    constructor
    · -- den * 2^K <= num * 2^-K
      have : den * 2 ^ (q - e + m).toNat * 2 ^ ((e - q).toNat + (q - e).toNat) ≤ num * 2 ^ (-(q - e + m)).toNat * 2 ^ ((e - q).toNat + (q - e).toNat) := by
        have r1 : num * 2 ^ (-(q - e + m)).toNat * 2 ^ ((e - q).toNat + (q - e).toNat) = c * (den * 2 ^ (q - e).toNat) * (2 ^ (-(q - e + m)).toNat * 2 ^ (q - e).toNat) := by
          rw [← hx, pw]; ac_rfl
        rw [r1]
        have r2 : c * (den * 2 ^ (q - e).toNat) * (2 ^ (-(q - e + m)).toNat * 2 ^ (q - e).toNat) = c * (den * 2 ^ ((q - e).toNat + (-(q - e + m)).toNat + (q - e).toNat)) := by rw [pw, pw]; ac_rfl
        rw [r2]
        calc den * 2 ^ (q - e + m).toNat * 2 ^ ((e - q).toNat + (q - e).toNat) = den * 2 ^ ((q - e + m).toNat + ((e - q).toNat + (q - e).toNat)) := by rw [Nat.mul_assoc, ← pw]
          _ ≤ den * 2 ^ (m + ((q - e).toNat + (-(q - e + m)).toNat + (q - e).toNat)) := Nat.mul_le_mul_left _ (Nat.pow_le_pow_right (by decide) (by omega))
          _ = 2 ^ m * (den * 2 ^ ((q - e).toNat + (-(q - e + m)).toNat + (q - e).toNat)) := by rw [pw]; ac_rfl
          _ ≤ c * (den * 2 ^ ((q - e).toNat + (-(q - e + m)).toNat + (q - e).toNat)) := Nat.mul_le_mul_right _ t1
      exact Nat.le_of_mul_le_mul_right this (Nat.two_pow_pos _)
    · have : num * 2 ^ (-(q - e + m + 1)).toNat * 2 ^ ((e - q).toNat + (q - e).toNat) < den * 2 ^ (q - e + m + 1).toNat * 2 ^ ((e - q).toNat + (q - e).toNat) := by
        have r1 : num * 2 ^ (-(q - e + m + 1)).toNat * 2 ^ ((e - q).toNat + (q - e).toNat) = c * (den * 2 ^ (q - e).toNat) * (2 ^ (-(q - e + m + 1)).toNat * 2 ^ (q - e).toNat) := by
          rw [← hx, pw]; ac_rfl
        rw [r1]
        have r2 : c * (den * 2 ^ (q - e).toNat) * (2 ^ (-(q - e + m + 1)).toNat * 2 ^ (q - e).toNat) = c * (den * 2 ^ ((q - e).toNat + (-(q - e + m + 1)).toNat + (q - e).toNat)) := by rw [pw, pw]; ac_rfl
        rw [r2]
        calc c * (den * 2 ^ ((q - e).toNat + (-(q - e + m + 1)).toNat + (q - e).toNat)) < 2 ^ m * 2 * (den * 2 ^ ((q - e).toNat + (-(q - e + m + 1)).toNat + (q - e).toNat)) := Nat.mul_lt_mul_of_pos_right t2 (Nat.mul_pos hd (Nat.two_pow_pos _))
          _ = den * 2 ^ (m + 1 + ((q - e).toNat + (-(q - e + m + 1)).toNat + (q - e).toNat)) := by simp only [pw, Nat.pow_one]; ac_rfl
          _ ≤ den * 2 ^ ((q - e + m + 1).toNat + ((e - q).toNat + (q - e).toNat)) := Nat.mul_le_mul_left _ (Nat.pow_le_pow_right (by decide) (by omega))
          _ = den * 2 ^ (q - e + m + 1).toNat * 2 ^ ((e - q).toNat + (q - e).toNat) := by rw [Nat.mul_assoc, ← pw]
      exact Nat.lt_of_mul_lt_mul_right this
  have hL := lead_one hn hd (lead_of hn hd) hl
  have hq : Jvm.FP.Core.quantum f num den e = q := by unfold Jvm.FP.Core.quantum; rw [hL]; omega
  unfold Jvm.FP.Core.roundRatio
  rw [if_neg (by omega), hq]
  unfold Jvm.FP.Core.roundAt Jvm.FP.Core.unitsNum Jvm.FP.Core.unitsDen Jvm.FP.Core.settle Jvm.FP.Core.bound
  rw [hx, nearest_exact (Nat.mul_pos hd (Nat.two_pow_pos _)), if_pos h2, if_pos h4]
/-- what lies well within the normal numbers becomes one -/
theorem rr_normal {f : Jvm.FP.Core.Fmt} {num den : Nat} {e k : Int} (hf : fok f) (hn : 0 < num) (hd : 0 < den) (hk : Jvm.FP.Core.leading num den = k) (h1 : f.qmin ≤ k + e - ((f.p : Int) - 1)) (h2 : k + e - ((f.p : Int) - 1) < f.qmax) : ∃ (c : Nat) (q : Int), Jvm.FP.Core.roundRatio f false num den e = .fin false c q ∧ nrm f c q ∧ (q = k + e - ((f.p : Int) - 1) ∨ q = k + e - ((f.p : Int) - 1) + 1) := by
  have ht := tails2 hf
  have h0 := tails0 (f := f)
  have hl := lead_of hn hd
  rw [hk] at hl
  have hq : Jvm.FP.Core.quantum f num den e = k + e - ((f.p : Int) - 1) := by unfold Jvm.FP.Core.quantum; rw [hk]; omega
  generalize hQ : k + e - ((f.p : Int) - 1) = q at h1 h2 hq
  have hp := hf.1
  have hm : (f.p : Int) - 1 = ((f.p - 1 : Nat) : Int) := by omega
  have hN : 2 ^ (f.p - 1) * Jvm.FP.Core.unitsDen den e q ≤ Jvm.FP.Core.unitsNum num e q ∧ Jvm.FP.Core.unitsNum num e q < 2 ^ (f.p - 1) * 2 * Jvm.FP.Core.unitsDen den e q := by
    generalize f.p - 1 = m at hm
    unfold Jvm.FP.Core.unitsNum Jvm.FP.Core.unitsDen
    have hkq : k = q - e + m := by omega
    subst hkq
    constructor
    · have : 2 ^ m * (den * 2 ^ (q - e).toNat) * 2 ^ ((-(q - e + m)).toNat) ≤ num * 2 ^ (e - q).toNat * 2 ^ ((-(q - e + m)).toNat) := by
        have a := Nat.mul_le_mul_right (2 ^ (e - q).toNat) hl.1
        calc 2 ^ m * (den * 2 ^ (q - e).toNat) * 2 ^ ((-(q - e + m)).toNat) = den * 2 ^ (m + (q - e).toNat + (-(q - e + m)).toNat) := by rw [pw, pw]; ac_rfl
          _ ≤ den * 2 ^ ((q - e + m).toNat + (e - q).toNat) := Nat.mul_le_mul_left _ (Nat.pow_le_pow_right (by decide) (by omega))
          _ = den * 2 ^ (q - e + m).toNat * 2 ^ (e - q).toNat := by rw [Nat.mul_assoc, ← pw]
          _ ≤ num * 2 ^ (-(q - e + m)).toNat * 2 ^ (e - q).toNat := a
          _ = num * 2 ^ (e - q).toNat * 2 ^ ((-(q - e + m)).toNat) := by ac_rfl
      exact Nat.le_of_mul_le_mul_right this (Nat.two_pow_pos _)
    · have : num * 2 ^ (e - q).toNat * 2 ^ ((-(q - e + m + 1)).toNat) < 2 ^ m * 2 * (den * 2 ^ (q - e).toNat) * 2 ^ ((-(q - e + m + 1)).toNat) := by
        have a := Nat.mul_lt_mul_of_pos_right hl.2 (Nat.two_pow_pos (e - q).toNat)
        calc num * 2 ^ (e - q).toNat * 2 ^ ((-(q - e + m + 1)).toNat) = num * 2 ^ (-(q - e + m + 1)).toNat * 2 ^ (e - q).toNat := by ac_rfl
          _ < den * 2 ^ (q - e + m + 1).toNat * 2 ^ (e - q).toNat := a
          _ = den * 2 ^ ((q - e + m + 1).toNat + (e - q).toNat) := by rw [Nat.mul_assoc, ← pw]
          _ ≤ den * 2 ^ (m + 1 + (q - e).toNat + (-(q - e + m + 1)).toNat) := Nat.mul_le_mul_left _ (Nat.pow_le_pow_right (by decide) (by omega))
          _ = 2 ^ m * 2 * (den * 2 ^ (q - e).toNat) * 2 ^ ((-(q - e + m + 1)).toNat) := by simp only [pw, Nat.pow_one]; ac_rfl
      exact Nat.lt_of_mul_lt_mul_right this
  have hD : 0 < Jvm.FP.Core.unitsDen den e q := Nat.mul_pos hd (Nat.two_pow_pos _)
  have c1 : f.tails ≤ Jvm.FP.Core.nearest (Jvm.FP.Core.unitsNum num e q) (Jvm.FP.Core.unitsDen den e q) ∧ Jvm.FP.Core.nearest (Jvm.FP.Core.unitsNum num e q) (Jvm.FP.Core.unitsDen den e q) ≤ 2 * f.tails := by
    generalize Jvm.FP.Core.unitsDen den e q = B at hN hD
    generalize Jvm.FP.Core.unitsNum num e q = A at hN
    have q1 : f.tails ≤ A / B := (Nat.le_div_iff_mul_le hD).mpr hN.1
    have q2 : A / B < 2 * f.tails := (Nat.div_lt_iff_lt_mul hD).mpr (by rw [Nat.mul_comm 2]; exact hN.2)
    unfold Jvm.FP.Core.nearest
    split
    · omega
    · split <;> omega
  have hE : Jvm.FP.Core.roundAt f false num den e q = Jvm.FP.Core.settle f false (Jvm.FP.Core.nearest (Jvm.FP.Core.unitsNum num e q) (Jvm.FP.Core.unitsDen den e q)) q := rfl
  refine ⟨if Jvm.FP.Core.nearest (Jvm.FP.Core.unitsNum num e q) (Jvm.FP.Core.unitsDen den e q) < 2 ^ f.p then Jvm.FP.Core.nearest (Jvm.FP.Core.unitsNum num e q) (Jvm.FP.Core.unitsDen den e q) else f.tails, if Jvm.FP.Core.nearest (Jvm.FP.Core.unitsNum num e q) (Jvm.FP.Core.unitsDen den e q) < 2 ^ f.p then q else q + 1, ?_, ?_, ?_⟩
  · unfold Jvm.FP.Core.roundRatio
    rw [if_neg (by omega), hq, hE]
    unfold Jvm.FP.Core.settle Jvm.FP.Core.bound
    split
    · rw [if_pos (by omega)]
    · rw [if_pos (by omega)]
  · split
    · exact ⟨c1.1, by assumption, h1, by omega⟩
    · exact ⟨Nat.le_refl _, by omega, by omega, by omega⟩
  · split
    · exact Or.inl rfl
    · exact Or.inr rfl
