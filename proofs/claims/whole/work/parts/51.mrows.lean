/-! THE MODEL: rows with their numbers; what it holds -/
abbrev isI (x : Int32) (z : Int) : Prop := x.toInt = z
theorem iC {x : Int32} (z : Int) (h : x.toInt = z) : isI x z := h
theorem iV {x : Int32} : isI x x.toInt := rfl
theorem iA {x y : Int32} {a b : Int} (hx : isI x a) (hy : isI y b) (h : -2147483648 ≤ a + b ∧ a + b < 2147483648) : isI (x + y) (a + b) := by
  show (x + y).toInt = a + b
  rw [ti_add (by rw [hx, hy]; exact h.1) (by rw [hx, hy]; exact h.2), hx, hy]
theorem iS {x y : Int32} {a b : Int} (hx : isI x a) (hy : isI y b) (h : -2147483648 ≤ a - b ∧ a - b < 2147483648) : isI (x - y) (a - b) := by
  show (x - y).toInt = a - b
  rw [ti_sub (by rw [hx, hy]; exact h.1) (by rw [hx, hy]; exact h.2), hx, hy]
theorem iM {x y : Int32} {a b : Int} (hx : isI x a) (hy : isI y b) (h : -2147483648 ≤ a * b ∧ a * b < 2147483648) : isI (x * y) (a * b) := by
  show (x * y).toInt = a * b
  rw [ti_mul (by rw [hx, hy]; exact h.1) (by rw [hx, hy]; exact h.2), hx, hy]
theorem iD {x y : Int32} {a b : Int} (hx : isI x a) (hy : isI y b) (h : 0 ≤ a) : isI (x / y) (a / b) := by
  show (x / y).toInt = a / b
  rw [div_ti (by rw [hx]; exact h), hx, hy]
theorem iN {x : Int32} {a : Int} (hx : isI x a) (h : -2147483648 < a ∧ a ≤ 2147483648) : isI (-x) (-a) := by
  have e : -x = 0 - x := by rw [Int32.zero_sub]
  show (-x).toInt = -a
  have hx : x.toInt = a := hx
  rw [e, ti_sub (by rw [ti_0, hx]; omega) (by rw [ti_0, hx]; omega), ti_0, hx]
  omega
theorem ixk {x : Int32} {z : Int} {k : Nat} (h : isI x z) (e : z = (k : Int)) : x.toInt = (k : Int) := h.trans e
theorem ixz {x : Int32} {z k : Int} (h : isI x z) (e : z = k) : isI x k := h.trans e
theorem ti_inj {x y : Int32} (h : x.toInt = y.toInt) : x = y := Int32.toInt_inj.mp h
abbrev bQ (r : Int32) (P : Prop) : Prop := r = 1 ∧ P ∨ r = 0 ∧ ¬ P
theorem bQ.cg {r : Int32} {P P' : Prop} (h : bQ r P) (e : P ↔ P') : bQ r P' := by
  rcases h with ⟨h1, h2⟩ | ⟨h1, h2⟩
  · exact Or.inl ⟨h1, e.mp h2⟩
  · exact Or.inr ⟨h1, fun z => h2 (e.mpr z)⟩
theorem m_nrB {r : Int32} {P : Prop} (h : bQ r P) : narrow .boolean (.int r) = .int r := by
  rcases h with ⟨rfl, -⟩ | ⟨rfl, -⟩ <;> decide
section JMr
variable {l : Launch} {s0 : State} {D : jD} {M : jM} {R : Room} {mc ms : Nat} {Q : jQ} {pc : Nat} {L : List (Nat × Value)} {st rest : List Value} {T : jT} {V : jV} {X : jX} {sz c n : Nat}
theorem m_iald {a len k : Nat} {i : Int32} (d : decode M.2.1 pc = .ok (.iaload, 1)) (hB : jB l s0 D) (ht : T a = some (kI len)) (hi : i.toInt = (k : Int)) (hk : k < len) (K : J l s0 D M R mc ms Q (pc + 1) L (.int (V a k) :: rest) T V X sz c n) : J l s0 D M R mc ms Q pc L (.int i :: .ref a :: rest) T V X sz c n :=
  j_iald d hB ht (by omega) (by omega) (by rw [cl_toNat, hi, Int.toNat_natCast]; exact K)
theorem m_iast {a len k : Nat} {i v : Int32} (d : decode M.2.1 pc = .ok (.iastore, 1)) (hB : jB l s0 D) (ht : T a = some (kI len)) (hi : i.toInt = (k : Int)) (hk : k < len) (K : J l s0 D M R mc ms Q (pc + 1) L rest T (jset V a k v) X sz c n) : J l s0 D M R mc ms Q pc L (.int v :: .int i :: .ref a :: rest) T V X sz c n :=
  j_iast d hB ht (by omega) (by omega) (by rw [cl_toNat, hi, Int.toNat_natCast]; exact K)
theorem m_icmp_eq {x y : Int32} {a b off : Int} {tgt : Nat} (d : decode M.2.1 pc = .ok (.if_icmp .eq off, 3)) (ht : (pc : Int) + off = (tgt : Int)) (hx : isI x a) (hy : isI y b) (kt : a = b → J l s0 D M R mc ms Q tgt L rest T V X sz c n) (kf : ¬ a = b → J l s0 D M R mc ms Q (pc + 3) L rest T V X sz c n) : J l s0 D M R mc ms Q pc L (.int y :: .int x :: rest) T V X sz c n := by
  have hx : x.toInt = a := hx
  have hy : y.toInt = b := hy
  exact j_icmp_eq d ht (fun z => kt (by rw [← hx, ← hy, z])) (fun z => kf (fun e => z (ti_inj (by rw [hx, hy, e]))))
theorem m_if_eq {x : Int32} {a off : Int} {tgt : Nat} (d : decode M.2.1 pc = .ok (.ifCond .eq off, 3)) (ht : (pc : Int) + off = (tgt : Int)) (hx : isI x a) (kt : a = 0 → J l s0 D M R mc ms Q tgt L rest T V X sz c n) (kf : ¬ a = 0 → J l s0 D M R mc ms Q (pc + 3) L rest T V X sz c n) : J l s0 D M R mc ms Q pc L (.int x :: rest) T V X sz c n := by
  have hx : x.toInt = a := hx
  exact j_if_eq d ht (fun z => kt (by rw [← hx, z]; rfl)) (fun z => kf (fun e => z (ti_inj (by rw [hx, e]; rfl))))
theorem m_icmp_ne {x y : Int32} {a b off : Int} {tgt : Nat} (d : decode M.2.1 pc = .ok (.if_icmp .ne off, 3)) (ht : (pc : Int) + off = (tgt : Int)) (hx : isI x a) (hy : isI y b) (kt : ¬ a = b → J l s0 D M R mc ms Q tgt L rest T V X sz c n) (kf : a = b → J l s0 D M R mc ms Q (pc + 3) L rest T V X sz c n) : J l s0 D M R mc ms Q pc L (.int y :: .int x :: rest) T V X sz c n := by
  have hx : x.toInt = a := hx
  have hy : y.toInt = b := hy
  exact j_icmp_ne d ht (fun z => kt (fun e => z (ti_inj (by rw [hx, hy, e])))) (fun z => kf (by rw [← hx, ← hy, z]))
theorem m_if_ne {x : Int32} {a off : Int} {tgt : Nat} (d : decode M.2.1 pc = .ok (.ifCond .ne off, 3)) (ht : (pc : Int) + off = (tgt : Int)) (hx : isI x a) (kt : ¬ a = 0 → J l s0 D M R mc ms Q tgt L rest T V X sz c n) (kf : a = 0 → J l s0 D M R mc ms Q (pc + 3) L rest T V X sz c n) : J l s0 D M R mc ms Q pc L (.int x :: rest) T V X sz c n := by
  have hx : x.toInt = a := hx
  exact j_if_ne d ht (fun z => kt (fun e => z (ti_inj (by rw [hx, e]; rfl)))) (fun z => kf (by rw [← hx, z]; rfl))
theorem m_icmp_lt {x y : Int32} {a b off : Int} {tgt : Nat} (d : decode M.2.1 pc = .ok (.if_icmp .lt off, 3)) (ht : (pc : Int) + off = (tgt : Int)) (hx : isI x a) (hy : isI y b) (kt : a < b → J l s0 D M R mc ms Q tgt L rest T V X sz c n) (kf : b ≤ a → J l s0 D M R mc ms Q (pc + 3) L rest T V X sz c n) : J l s0 D M R mc ms Q pc L (.int y :: .int x :: rest) T V X sz c n := by
  have hx : x.toInt = a := hx
  have hy : y.toInt = b := hy
  exact j_icmp_lt d ht (fun z => kt (by rw [hx, hy] at z; exact z)) (fun z => kf (by rw [hx, hy] at z; exact z))
theorem m_if_lt {x : Int32} {a off : Int} {tgt : Nat} (d : decode M.2.1 pc = .ok (.ifCond .lt off, 3)) (ht : (pc : Int) + off = (tgt : Int)) (hx : isI x a) (kt : a < 0 → J l s0 D M R mc ms Q tgt L rest T V X sz c n) (kf : 0 ≤ a → J l s0 D M R mc ms Q (pc + 3) L rest T V X sz c n) : J l s0 D M R mc ms Q pc L (.int x :: rest) T V X sz c n := by
  have hx : x.toInt = a := hx
  exact j_if_lt d ht (fun z => kt (by rw [hx] at z; exact z)) (fun z => kf (by rw [hx] at z; exact z))
theorem m_icmp_ge {x y : Int32} {a b off : Int} {tgt : Nat} (d : decode M.2.1 pc = .ok (.if_icmp .ge off, 3)) (ht : (pc : Int) + off = (tgt : Int)) (hx : isI x a) (hy : isI y b) (kt : b ≤ a → J l s0 D M R mc ms Q tgt L rest T V X sz c n) (kf : a < b → J l s0 D M R mc ms Q (pc + 3) L rest T V X sz c n) : J l s0 D M R mc ms Q pc L (.int y :: .int x :: rest) T V X sz c n := by
  have hx : x.toInt = a := hx
  have hy : y.toInt = b := hy
  exact j_icmp_ge d ht (fun z => kt (by rw [hx, hy] at z; exact z)) (fun z => kf (by rw [hx, hy] at z; exact z))
theorem m_if_ge {x : Int32} {a off : Int} {tgt : Nat} (d : decode M.2.1 pc = .ok (.ifCond .ge off, 3)) (ht : (pc : Int) + off = (tgt : Int)) (hx : isI x a) (kt : 0 ≤ a → J l s0 D M R mc ms Q tgt L rest T V X sz c n) (kf : a < 0 → J l s0 D M R mc ms Q (pc + 3) L rest T V X sz c n) : J l s0 D M R mc ms Q pc L (.int x :: rest) T V X sz c n := by
  have hx : x.toInt = a := hx
  exact j_if_ge d ht (fun z => kt (by rw [hx] at z; exact z)) (fun z => kf (by rw [hx] at z; exact z))
theorem m_icmp_gt {x y : Int32} {a b off : Int} {tgt : Nat} (d : decode M.2.1 pc = .ok (.if_icmp .gt off, 3)) (ht : (pc : Int) + off = (tgt : Int)) (hx : isI x a) (hy : isI y b) (kt : b < a → J l s0 D M R mc ms Q tgt L rest T V X sz c n) (kf : a ≤ b → J l s0 D M R mc ms Q (pc + 3) L rest T V X sz c n) : J l s0 D M R mc ms Q pc L (.int y :: .int x :: rest) T V X sz c n := by
  have hx : x.toInt = a := hx
  have hy : y.toInt = b := hy
  exact j_icmp_gt d ht (fun z => kt (by rw [hx, hy] at z; exact z)) (fun z => kf (by rw [hx, hy] at z; exact z))
theorem m_if_gt {x : Int32} {a off : Int} {tgt : Nat} (d : decode M.2.1 pc = .ok (.ifCond .gt off, 3)) (ht : (pc : Int) + off = (tgt : Int)) (hx : isI x a) (kt : 0 < a → J l s0 D M R mc ms Q tgt L rest T V X sz c n) (kf : a ≤ 0 → J l s0 D M R mc ms Q (pc + 3) L rest T V X sz c n) : J l s0 D M R mc ms Q pc L (.int x :: rest) T V X sz c n := by
  have hx : x.toInt = a := hx
  exact j_if_gt d ht (fun z => kt (by rw [hx] at z; exact z)) (fun z => kf (by rw [hx] at z; exact z))
theorem m_icmp_le {x y : Int32} {a b off : Int} {tgt : Nat} (d : decode M.2.1 pc = .ok (.if_icmp .le off, 3)) (ht : (pc : Int) + off = (tgt : Int)) (hx : isI x a) (hy : isI y b) (kt : a ≤ b → J l s0 D M R mc ms Q tgt L rest T V X sz c n) (kf : b < a → J l s0 D M R mc ms Q (pc + 3) L rest T V X sz c n) : J l s0 D M R mc ms Q pc L (.int y :: .int x :: rest) T V X sz c n := by
  have hx : x.toInt = a := hx
  have hy : y.toInt = b := hy
  exact j_icmp_le d ht (fun z => kt (by rw [hx, hy] at z; exact z)) (fun z => kf (by rw [hx, hy] at z; exact z))
theorem m_if_le {x : Int32} {a off : Int} {tgt : Nat} (d : decode M.2.1 pc = .ok (.ifCond .le off, 3)) (ht : (pc : Int) + off = (tgt : Int)) (hx : isI x a) (kt : a ≤ 0 → J l s0 D M R mc ms Q tgt L rest T V X sz c n) (kf : 0 < a → J l s0 D M R mc ms Q (pc + 3) L rest T V X sz c n) : J l s0 D M R mc ms Q pc L (.int x :: rest) T V X sz c n := by
  have hx : x.toInt = a := hx
  exact j_if_le d ht (fun z => kt (by rw [hx] at z; exact z)) (fun z => kf (by rw [hx] at z; exact z))
theorem m_ifeqB {x : Int32} {P : Prop} {off : Int} {tgt : Nat} (d : decode M.2.1 pc = .ok (.ifCond .eq off, 3)) (ht : (pc : Int) + off = (tgt : Int)) (hb : bQ x P) (kt : ¬ P → J l s0 D M R mc ms Q tgt L rest T V X sz c n) (kf : P → J l s0 D M R mc ms Q (pc + 3) L rest T V X sz c n) : J l s0 D M R mc ms Q pc L (.int x :: rest) T V X sz c n := by
  rcases hb with ⟨rfl, h2⟩ | ⟨rfl, h2⟩
  · exact j_if_eq d ht (fun z => absurd z (by decide)) (fun z => kf h2)
  · exact j_if_eq d ht (fun z => kt h2) (fun z => absurd rfl z)
theorem m_ifneB {x : Int32} {P : Prop} {off : Int} {tgt : Nat} (d : decode M.2.1 pc = .ok (.ifCond .ne off, 3)) (ht : (pc : Int) + off = (tgt : Int)) (hb : bQ x P) (kt : P → J l s0 D M R mc ms Q tgt L rest T V X sz c n) (kf : ¬ P → J l s0 D M R mc ms Q (pc + 3) L rest T V X sz c n) : J l s0 D M R mc ms Q pc L (.int x :: rest) T V X sz c n := by
  rcases hb with ⟨rfl, h2⟩ | ⟨rfl, h2⟩
  · exact j_if_ne d ht (fun z => kt h2) (fun z => absurd z (by decide))
  · exact j_if_ne d ht (fun z => absurd rfl z) (fun z => kf h2)
end JMr
def moT (T : jT) (q : Nat) : Prop := T q = some (kModel (q + 1) (q + 2) (q + 3) (q + 4) (q + 5) (q + 6) (q + 7) (q + 8)) ∧ T (q + 1) = some (kI 231) ∧ T (q + 2) = some (kI 1386) ∧ T (q + 3) = some (kI 60) ∧ T (q + 4) = some (kI 11) ∧ T (q + 5) = some (kI 10) ∧ T (q + 6) = some (kI 10) ∧ T (q + 7) = some (kI 10) ∧ T (q + 8) = some (kI 124)
/-- rows of two numbers, in any order -/
def zHl (Z : Nat → Int32) (b : Nat) (P : pL) : Prop := P.length ≤ 6 ∧ pSrt P ∧ ∃ W : pL, W.Perm P ∧ (Z b).toInt = W.length ∧ ∀ k : Nat, k < W.length → W[k]? = some (Z (b + 1 + 2 * k), Z (b + 1 + 2 * k + 1))
def zRl (Z : Nat → Int32) (b : Nat) (r : aR) : Prop := (Z b).toInt = r.1.length ∧ (∀ k : Nat, k < r.1.length → Z (b + 1 + 4 * k + 0) = atZ r.1 k ∧ Z (b + 1 + 4 * k + 1) = atZ r.2.1 k ∧ (isCue r k → Z (b + 1 + 4 * k + 2) = atZ r.2.2.1 k ∧ Z (b + 1 + 4 * k + 3) = atZ r.2.2.2.1 k)) ∧ zHl Z (b + 41) r.2.2.2.2.1 ∧ zHl Z (b + 54) r.2.2.2.2.2
def zPc (Z : Nat → Int32) (s : aS) : Prop := (Z 201).toInt = s.2.1.1.length ∧ ∀ k : Nat, k < s.2.1.1.length → Z (202 + 3 * k) = atZ s.2.1.1 k ∧ Z (202 + 3 * k + 1) = atZ s.2.1.2.1 k ∧ Z (202 + 3 * k + 2) = atZ s.2.1.2.2 k
def zIs (Z : Nat → Int32) (s : aS) : Prop := zRl Z 0 s.1.1 ∧ zRl Z 67 s.1.2.1 ∧ zRl Z 134 s.1.2.2 ∧ zPc Z s ∧ Z 226 = s.2.2.1 ∧ Z 227 = s.2.2.2
def moIs (T : jT) (V : jV) (q : Nat) (x : aX) : Prop := moT T q ∧ zIs (V (q + 1)) x.1 ∧ ((V q 2).toInt = x.2.1.length ∧ ∀ (k : Nat) (s : aS), x.2.1[k]? = some s → zIs (fun i => V (q + 2) (231 * k + i)) s) ∧ (V q 4).toInt = x.2.2.length ∧ ∀ (k : Nat) (c : Int32), x.2.2[k]? = some c → V (q + 3) k = c
/-- what no measuring changes -/
def mKp (V V' : jV) (q : Nat) : Prop := (∀ a, a < q ∨ q + 9 ≤ a → V' a = V a) ∧ V' (q + 1) = V (q + 1) ∧ V' (q + 2) = V (q + 2) ∧ V' (q + 3) = V (q + 3) ∧ ∀ k, k < 10 → V' q k = V q k
theorem mKp.rf {V : jV} {q : Nat} : mKp V V q := ⟨fun _ _ => rfl, rfl, rfl, rfl, fun _ _ => rfl⟩
theorem mKp.tr {V V1 V2 : jV} {q : Nat} (h : mKp V V1 q) (h' : mKp V1 V2 q) : mKp V V2 q := ⟨fun a ha => (h'.1 a ha).trans (h.1 a ha), h'.2.1.trans h.2.1, h'.2.2.1.trans h.2.2.1, h'.2.2.2.1.trans h.2.2.2.1, fun k hk => (h'.2.2.2.2 k hk).trans (h.2.2.2.2 k hk)⟩
theorem mKp.ag {V V' : jV} {q lo hi : Nat} (h : jAg V V' lo hi) (h1 : q + 4 ≤ lo) (h2 : hi ≤ q + 9) : mKp V V' q := ⟨fun a ha => h a (by omega), h _ (by omega), h _ (by omega), h _ (by omega), fun k _ => by rw [h q (by omega)]⟩
theorem mKp.ja {V V' : jV} {q : Nat} (h : mKp V V' q) : jAg V V' q (q + 9) := fun a ha => h.1 a (by omega)
theorem mKp.f {V : jV} {q k : Nat} {v : Int32} (h : 10 ≤ k) : mKp V (jset V q k v) q := ⟨fun a ha => jset_row (by omega), jset_row (by omega), jset_row (by omega), jset_row (by omega), fun i hi => jset_ne (Or.inr (by omega))⟩
theorem moIs.kp {T : jT} {V V' : jV} {q : Nat} {x : aX} (h : moIs T V q x) (k : mKp V V' q) : moIs T V' q x := by
  obtain ⟨h1, h2, h3, h4, h5⟩ := h
  obtain ⟨k0, k1, k2, k3, k4⟩ := k
  exact ⟨h1, by rw [k1]; exact h2, by rw [k2, k4 2 (by omega)]; exact h3, by rw [k4 4 (by omega)]; exact h4, by rw [k3]; exact h5⟩
theorem zIs.r {Z : Nat → Int32} {s : aS} (h : zIs Z s) {z : Nat} (hz : z < 3) : zRl Z (67 * z) (sR s z) := by
  rcases (show z = 0 ∨ z = 1 ∨ z = 2 by omega) with rfl | rfl | rfl
  · exact h.1
  · exact h.2.1
  · exact h.2.2.1
theorem moIs.r {T : jT} {V : jV} {q : Nat} {x : aX} (h : moIs T V q x) {r : Int32} {z : Nat} (hz : r.toInt = z) (z3 : z < 3) : zRl (V (q + 1)) (67 * z) (xR x r) := by
  unfold xR
  rw [hz]
  exact h.2.1.r z3
theorem rOk.z {r : Int32} (h : rOk r) : ∃ z : Nat, r.toInt = z ∧ z < 3 := ⟨r.toInt.toNat, by have := h.1; omega, by have := h.1; have := h.2; omega⟩
theorem lost_zH {Z : Nat → Int32} {b : Nat} {P : pL} (h : zHl Z b P) (f : Int) : lostB P f = true ↔ ∃ j : Nat, j < P.length ∧ (Z (b + 1 + 2 * j)).toInt ≤ f ∧ f < (Z (b + 1 + 2 * j)).toInt + (Z (b + 1 + 2 * j + 1)).toInt := by
  obtain ⟨-, -, W, hp, hn, hw⟩ := h
  unfold lostB
  rw [List.any_eq_true]
  constructor
  · rintro ⟨x, hx, e⟩
    obtain ⟨j, hj⟩ := List.getElem?_of_mem (hp.mem_iff.mpr hx)
    have hj' : j < W.length := (List.getElem?_eq_some_iff.mp hj).1
    have e2 := hw j hj'
    rw [hj] at e2
    have e3 := Option.some.inj e2
    subst e3
    simp only [Bool.and_eq_true, decide_eq_true_eq] at e
    exact ⟨j, by rw [← hp.length_eq]; exact hj', e⟩
  · rintro ⟨j, hj, e⟩
    rw [← hp.length_eq] at hj
    refine ⟨_, hp.mem_iff.mp (List.mem_of_getElem? (hw j hj)), ?_⟩
    simp only [Bool.and_eq_true, decide_eq_true_eq]
    exact e
theorem zHl.n {Z : Nat → Int32} {b : Nat} {P : pL} (h : zHl Z b P) : (Z b).toInt = P.length := by
  obtain ⟨-, -, W, hp, hn, hw⟩ := h
  rw [hn, hp.length_eq]
theorem zHl.mem {Z : Nat → Int32} {b : Nat} {P : pL} (h : zHl Z b P) {j : Nat} (hj : j < P.length) : (Z (b + 1 + 2 * j), Z (b + 1 + 2 * j + 1)) ∈ P := by
  obtain ⟨-, -, W, hp, hn, hw⟩ := h
  exact hp.mem_iff.mp (List.mem_of_getElem? (hw j (by rw [hp.length_eq]; exact hj)))
theorem zHl.of {Z : Nat → Int32} {b : Nat} {P : pL} (h : zHl Z b P) {x : Int32 × Int32} (hx : x ∈ P) : ∃ j : Nat, j < P.length ∧ x = (Z (b + 1 + 2 * j), Z (b + 1 + 2 * j + 1)) := by
  obtain ⟨-, -, W, hp, hn, hw⟩ := h
  obtain ⟨j, hj⟩ := List.getElem?_of_mem (hp.mem_iff.mpr hx)
  have hj' : j < W.length := (List.getElem?_eq_some_iff.mp hj).1
  have e2 := hw j hj'
  rw [hj] at e2
  exact ⟨j, by rw [← hp.length_eq]; exact hj', Option.some.inj e2⟩
theorem hold_no {Z : Nat → Int32} {b : Nat} {P : pL} (h : zHl Z b P) {f : Int} (hn : ∀ j : Nat, j < P.length → f < (Z (b + 1 + 2 * j)).toInt) : pHold P f = 0 := by
  refine pHoldF_hi fun x hx => ?_
  obtain ⟨j, hj, rfl⟩ := h.of hx
  exact hn j hj
theorem hold_zH {Z : Nat → Int32} {b : Nat} {P : pL} (h : zHl Z b P) (hs : pSrt P) {f : Int} {j : Nat} (hj : j < P.length) (h1 : (Z (b + 1 + 2 * j)).toInt ≤ f) (h2 : ∀ i : Nat, i < P.length → (Z (b + 1 + 2 * i)).toInt ≤ f → (Z (b + 1 + 2 * i)).toInt ≤ (Z (b + 1 + 2 * j)).toInt) : pHold P f = Z (b + 1 + 2 * j + 1) := by
  obtain ⟨m, hm, e⟩ := List.getElem_of_mem (h.mem hj)
  rw [pHold_at hs hm (by rw [e]; exact h1) (fun hm1 => ?_), e]
  apply Int.not_le.mp
  intro hc
  obtain ⟨i, hi, e2⟩ := h.of (List.getElem_mem hm1)
  have h3 := List.pairwise_iff_getElem.mp hs m (m + 1) hm hm1 (Nat.lt_succ_self m)
  rw [e, e2] at h3
  rw [e2] at hc
  have := h2 i hi hc
  simp only at h3
  omega
