/-! THE LAW: rows with their numbers, rows of two numbers in any order -/
abbrev isI (x : Int32) (z : Int) : Prop := x.toInt = z
theorem iC {x : Int32} (z : Int) (h : x.toInt = z) : isI x z := h
theorem iV {x : Int32} : isI x x.toInt := rfl
theorem iA {x y : Int32} {a b : Int} (hx : isI x a) (hy : isI y b) (h : -2147483648 ≤ a + b ∧ a + b < 2147483648) : isI (x + y) (a + b) := by
  show (x + y).toInt = a + b
  rw [ti_add (by rw [hx, hy]; exact h.1) (by rw [hx, hy]; exact h.2), hx, hy]
theorem iS {x y : Int32} {a b : Int} (hx : isI x a) (hy : isI y b) (h : -2147483648 ≤ a - b ∧ a - b < 2147483648) : isI (x - y) (a - b) := by
  show (x - y).toInt = a - b
  rw [ti_sub (by rw [hx, hy]; exact h.1) (by rw [hx, hy]; exact h.2), hx, hy]
theorem iM {x y : Int32} {a b : Int} (hx : isI x a) (hy : isI y b) (h : -2147483648 ≤ a * b ∧ a * b < 2147483648) : isI (x * y) (a * b) := by
  show (x * y).toInt = a * b
  rw [ti_mul (by rw [hx, hy]; exact h.1) (by rw [hx, hy]; exact h.2), hx, hy]
theorem iD {x y : Int32} {a b : Int} (hx : isI x a) (hy : isI y b) (h : 0 ≤ a) : isI (x / y) (a / b) := by
  show (x / y).toInt = a / b
  rw [div_ti (by rw [hx]; exact h), hx, hy]
theorem iN {x : Int32} {a : Int} (hx : isI x a) (h : -2147483648 < a ∧ a ≤ 2147483648) : isI (-x) (-a) := by
  have e : -x = 0 - x := by rw [Int32.zero_sub]
  show (-x).toInt = -a
  have hx : x.toInt = a := hx
  rw [e, ti_sub (by rw [ti_0, hx]; omega) (by rw [ti_0, hx]; omega), ti_0, hx]
  omega
theorem ixk {x : Int32} {z : Int} {k : Nat} (h : isI x z) (e : z = (k : Int)) : x.toInt = (k : Int) := h.trans e
theorem ixz {x : Int32} {z k : Int} (h : isI x z) (e : z = k) : isI x k := h.trans e
theorem ti_inj {x y : Int32} (h : x.toInt = y.toInt) : x = y := Int32.toInt_inj.mp h
abbrev bQ (r : Int32) (P : Prop) : Prop := r = 1 ∧ P ∨ r = 0 ∧ ¬ P
theorem bQ.cg {r : Int32} {P P' : Prop} (h : bQ r P) (e : P ↔ P') : bQ r P' := by
  rcases h with ⟨h1, h2⟩ | ⟨h1, h2⟩
  · exact Or.inl ⟨h1, e.mp h2⟩
  · exact Or.inr ⟨h1, fun z => h2 (e.mpr z)⟩
theorem m_nrB {r : Int32} {P : Prop} (h : bQ r P) : narrow .boolean (.int r) = .int r := by
  rcases h with ⟨rfl, -⟩ | ⟨rfl, -⟩ <;> decide
section JMr
variable {l : Launch} {s0 : State} {D : jD} {M : jM} {R : Room} {mc ms : Nat} {Q : jQ} {pc : Nat} {L : List (Nat × Value)} {st rest : List Value} {T : jT} {V : jV} {X : jX} {sz c n : Nat}
theorem m_iald {a len k : Nat} {i : Int32} (d : decode M.2.1 pc = .ok (.iaload, 1)) (hB : jB l s0 D) (ht : T a = some (kI len)) (hi : i.toInt = (k : Int)) (hk : k < len) (K : J l s0 D M R mc ms Q (pc + 1) L (.int (V a k) :: rest) T V X sz c n) : J l s0 D M R mc ms Q pc L (.int i :: .ref a :: rest) T V X sz c n :=
  j_iald d hB ht (by omega) (by omega) (by rw [cl_toNat, hi, Int.toNat_natCast]; exact K)
theorem m_iast {a len k : Nat} {i v : Int32} (d : decode M.2.1 pc = .ok (.iastore, 1)) (hB : jB l s0 D) (ht : T a = some (kI len)) (hi : i.toInt = (k : Int)) (hk : k < len) (K : J l s0 D M R mc ms Q (pc + 1) L rest T (jset V a k v) X sz c n) : J l s0 D M R mc ms Q pc L (.int v :: .int i :: .ref a :: rest) T V X sz c n :=
  j_iast d hB ht (by omega) (by omega) (by rw [cl_toNat, hi, Int.toNat_natCast]; exact K)
theorem m_icmp_eq {x y : Int32} {a b off : Int} {tgt : Nat} (d : decode M.2.1 pc = .ok (.if_icmp .eq off, 3)) (ht : (pc : Int) + off = (tgt : Int)) (hx : isI x a) (hy : isI y b) (kt : a = b → J l s0 D M R mc ms Q tgt L rest T V X sz c n) (kf : ¬ a = b → J l s0 D M R mc ms Q (pc + 3) L rest T V X sz c n) : J l s0 D M R mc ms Q pc L (.int y :: .int x :: rest) T V X sz c n := by
  have hx : x.toInt = a := hx
  have hy : y.toInt = b := hy
  exact j_icmp_eq d ht (fun z => kt (by rw [← hx, ← hy, z])) (fun z => kf (fun e => z (ti_inj (by rw [hx, hy, e]))))
theorem m_if_eq {x : Int32} {a off : Int} {tgt : Nat} (d : decode M.2.1 pc = .ok (.ifCond .eq off, 3)) (ht : (pc : Int) + off = (tgt : Int)) (hx : isI x a) (kt : a = 0 → J l s0 D M R mc ms Q tgt L rest T V X sz c n) (kf : ¬ a = 0 → J l s0 D M R mc ms Q (pc + 3) L rest T V X sz c n) : J l s0 D M R mc ms Q pc L (.int x :: rest) T V X sz c n := by
  have hx : x.toInt = a := hx
  exact j_if_eq d ht (fun z => kt (by rw [← hx, z]; rfl)) (fun z => kf (fun e => z (ti_inj (by rw [hx, e]; rfl))))
theorem m_icmp_ne {x y : Int32} {a b off : Int} {tgt : Nat} (d : decode M.2.1 pc = .ok (.if_icmp .ne off, 3)) (ht : (pc : Int) + off = (tgt : Int)) (hx : isI x a) (hy : isI y b) (kt : ¬ a = b → J l s0 D M R mc ms Q tgt L rest T V X sz c n) (kf : a = b → J l s0 D M R mc ms Q (pc + 3) L rest T V X sz c n) : J l s0 D M R mc ms Q pc L (.int y :: .int x :: rest) T V X sz c n := by
  have hx : x.toInt = a := hx
  have hy : y.toInt = b := hy
  exact j_icmp_ne d ht (fun z => kt (fun e => z (ti_inj (by rw [hx, hy, e])))) (fun z => kf (by rw [← hx, ← hy, z]))
theorem m_if_ne {x : Int32} {a off : Int} {tgt : Nat} (d : decode M.2.1 pc = .ok (.ifCond .ne off, 3)) (ht : (pc : Int) + off = (tgt : Int)) (hx : isI x a) (kt : ¬ a = 0 → J l s0 D M R mc ms Q tgt L rest T V X sz c n) (kf : a = 0 → J l s0 D M R mc ms Q (pc + 3) L rest T V X sz c n) : J l s0 D M R mc ms Q pc L (.int x :: rest) T V X sz c n := by
  have hx : x.toInt = a := hx
  exact j_if_ne d ht (fun z => kt (fun e => z (ti_inj (by rw [hx, e]; rfl)))) (fun z => kf (by rw [← hx, z]; rfl))
theorem m_icmp_lt {x y : Int32} {a b off : Int} {tgt : Nat} (d : decode M.2.1 pc = .ok (.if_icmp .lt off, 3)) (ht : (pc : Int) + off = (tgt : Int)) (hx : isI x a) (hy : isI y b) (kt : a < b → J l s0 D M R mc ms Q tgt L rest T V X sz c n) (kf : b ≤ a → J l s0 D M R mc ms Q (pc + 3) L rest T V X sz c n) : J l s0 D M R mc ms Q pc L (.int y :: .int x :: rest) T V X sz c n := by
  have hx : x.toInt = a := hx
  have hy : y.toInt = b := hy
  exact j_icmp_lt d ht (fun z => kt (by rw [hx, hy] at z; exact z)) (fun z => kf (by rw [hx, hy] at z; exact z))
theorem m_if_lt {x : Int32} {a off : Int} {tgt : Nat} (d : decode M.2.1 pc = .ok (.ifCond .lt off, 3)) (ht : (pc : Int) + off = (tgt : Int)) (hx : isI x a) (kt : a < 0 → J l s0 D M R mc ms Q tgt L rest T V X sz c n) (kf : 0 ≤ a → J l s0 D M R mc ms Q (pc + 3) L rest T V X sz c n) : J l s0 D M R mc ms Q pc L (.int x :: rest) T V X sz c n := by
  have hx : x.toInt = a := hx
  exact j_if_lt d ht (fun z => kt (by rw [hx] at z; exact z)) (fun z => kf (by rw [hx] at z; exact z))
theorem m_icmp_ge {x y : Int32} {a b off : Int} {tgt : Nat} (d : decode M.2.1 pc = .ok (.if_icmp .ge off, 3)) (ht : (pc : Int) + off = (tgt : Int)) (hx : isI x a) (hy : isI y b) (kt : b ≤ a → J l s0 D M R mc ms Q tgt L rest T V X sz c n) (kf : a < b → J l s0 D M R mc ms Q (pc + 3) L rest T V X sz c n) : J l s0 D M R mc ms Q pc L (.int y :: .int x :: rest) T V X sz c n := by
  have hx : x.toInt = a := hx
  have hy : y.toInt = b := hy
  exact j_icmp_ge d ht (fun z => kt (by rw [hx, hy] at z; exact z)) (fun z => kf (by rw [hx, hy] at z; exact z))
theorem m_if_ge {x : Int32} {a off : Int} {tgt : Nat} (d : decode M.2.1 pc = .ok (.ifCond .ge off, 3)) (ht : (pc : Int) + off = (tgt : Int)) (hx : isI x a) (kt : 0 ≤ a → J l s0 D M R mc ms Q tgt L rest T V X sz c n) (kf : a < 0 → J l s0 D M R mc ms Q (pc + 3) L rest T V X sz c n) : J l s0 D M R mc ms Q pc L (.int x :: rest) T V X sz c n := by
  have hx : x.toInt = a := hx
  exact j_if_ge d ht (fun z => kt (by rw [hx] at z; exact z)) (fun z => kf (by rw [hx] at z; exact z))
theorem m_icmp_gt {x y : Int32} {a b off : Int} {tgt : Nat} (d : decode M.2.1 pc = .ok (.if_icmp .gt off, 3)) (ht : (pc : Int) + off = (tgt : Int)) (hx : isI x a) (hy : isI y b) (kt : b < a → J l s0 D M R mc ms Q tgt L rest T V X sz c n) (kf : a ≤ b → J l s0 D M R mc ms Q (pc + 3) L rest T V X sz c n) : J l s0 D M R mc ms Q pc L (.int y :: .int x :: rest) T V X sz c n := by
  have hx : x.toInt = a := hx
  have hy : y.toInt = b := hy
  exact j_icmp_gt d ht (fun z => kt (by rw [hx, hy] at z; exact z)) (fun z => kf (by rw [hx, hy] at z; exact z))
theorem m_if_gt {x : Int32} {a off : Int} {tgt : Nat} (d : decode M.2.1 pc = .ok (.ifCond .gt off, 3)) (ht : (pc : Int) + off = (tgt : Int)) (hx : isI x a) (kt : 0 < a → J l s0 D M R mc ms Q tgt L rest T V X sz c n) (kf : a ≤ 0 → J l s0 D M R mc ms Q (pc + 3) L rest T V X sz c n) : J l s0 D M R mc ms Q pc L (.int x :: rest) T V X sz c n := by
  have hx : x.toInt = a := hx
  exact j_if_gt d ht (fun z => kt (by rw [hx] at z; exact z)) (fun z => kf (by rw [hx] at z; exact z))
theorem m_icmp_le {x y : Int32} {a b off : Int} {tgt : Nat} (d : decode M.2.1 pc = .ok (.if_icmp .le off, 3)) (ht : (pc : Int) + off = (tgt : Int)) (hx : isI x a) (hy : isI y b) (kt : a ≤ b → J l s0 D M R mc ms Q tgt L rest T V X sz c n) (kf : b < a → J l s0 D M R mc ms Q (pc + 3) L rest T V X sz c n) : J l s0 D M R mc ms Q pc L (.int y :: .int x :: rest) T V X sz c n := by
  have hx : x.toInt = a := hx
  have hy : y.toInt = b := hy
  exact j_icmp_le d ht (fun z => kt (by rw [hx, hy] at z; exact z)) (fun z => kf (by rw [hx, hy] at z; exact z))
theorem m_if_le {x : Int32} {a off : Int} {tgt : Nat} (d : decode M.2.1 pc = .ok (.ifCond .le off, 3)) (ht : (pc : Int) + off = (tgt : Int)) (hx : isI x a) (kt : a ≤ 0 → J l s0 D M R mc ms Q tgt L rest T V X sz c n) (kf : 0 < a → J l s0 D M R mc ms Q (pc + 3) L rest T V X sz c n) : J l s0 D M R mc ms Q pc L (.int x :: rest) T V X sz c n := by
  have hx : x.toInt = a := hx
  exact j_if_le d ht (fun z => kt (by rw [hx] at z; exact z)) (fun z => kf (by rw [hx] at z; exact z))
theorem m_ifeqB {x : Int32} {P : Prop} {off : Int} {tgt : Nat} (d : decode M.2.1 pc = .ok (.ifCond .eq off, 3)) (ht : (pc : Int) + off = (tgt : Int)) (hb : bQ x P) (kt : ¬ P → J l s0 D M R mc ms Q tgt L rest T V X sz c n) (kf : P → J l s0 D M R mc ms Q (pc + 3) L rest T V X sz c n) : J l s0 D M R mc ms Q pc L (.int x :: rest) T V X sz c n := by
  rcases hb with ⟨rfl, h2⟩ | ⟨rfl, h2⟩
  · exact j_if_eq d ht (fun z => absurd z (by decide)) (fun z => kf h2)
  · exact j_if_eq d ht (fun z => kt h2) (fun z => absurd rfl z)
theorem m_ifneB {x : Int32} {P : Prop} {off : Int} {tgt : Nat} (d : decode M.2.1 pc = .ok (.ifCond .ne off, 3)) (ht : (pc : Int) + off = (tgt : Int)) (hb : bQ x P) (kt : P → J l s0 D M R mc ms Q tgt L rest T V X sz c n) (kf : ¬ P → J l s0 D M R mc ms Q (pc + 3) L rest T V X sz c n) : J l s0 D M R mc ms Q pc L (.int x :: rest) T V X sz c n := by
  rcases hb with ⟨rfl, h2⟩ | ⟨rfl, h2⟩
  · exact j_if_ne d ht (fun z => kt h2) (fun z => absurd z (by decide))
  · exact j_if_ne d ht (fun z => absurd rfl z) (fun z => kf h2)
end JMr
/-- rows of two numbers, in any order -/
def zHl (Z : Nat → Int32) (b : Nat) (P : pL) : Prop := P.length ≤ 6 ∧ pSrt P ∧ ∃ W : pL, W.Perm P ∧ (Z b).toInt = W.length ∧ ∀ k : Nat, k < W.length → W[k]? = some (Z (b + 1 + 2 * k), Z (b + 1 + 2 * k + 1))
/-- the law's row of a reel -/
def zRl (Z : Nat → Int32) (r : aR) : Prop := (Z 0).toInt = r.1.length ∧ r.1.length ≤ 5 ∧ (∀ k : Nat, k < r.1.length → Z (1 + 4 * k) = atZ r.1 k ∧ Z (2 + 4 * k) = atZ r.2.1 k ∧ (isCue r k → Z (3 + 4 * k) = atZ r.2.2.1 k ∧ Z (4 + 4 * k) = atZ r.2.2.2.1 k)) ∧ zHl Z 30 r.2.2.2.2.1 ∧ zHl Z 45 r.2.2.2.2.2
/-- .. of the pieces -/
def zPa (Z : Nat → Int32) (s : aS) : Prop := s.2.1.1.length ≤ 4 ∧ ∀ k : Nat, k < s.2.1.1.length → Z (3 * k) = atZ s.2.1.1 k ∧ Z (3 * k + 1) = atZ s.2.1.2.1 k ∧ Z (3 * k + 2) = atZ s.2.1.2.2 k
/-- .. of their number, tolerance, leeway -/
def zDd (Z : Nat → Int32) (s : aS) : Prop := (Z 0).toInt = s.2.1.1.length ∧ Z 1 = s.2.2.1 ∧ Z 2 = s.2.2.2
theorem rOk.z {r : Int32} (h : rOk r) : ∃ z : Nat, r.toInt = z ∧ z < 3 := ⟨r.toInt.toNat, by have := h.1; omega, by have := h.1; have := h.2; omega⟩
theorem lost_zH {Z : Nat → Int32} {b : Nat} {P : pL} (h : zHl Z b P) (f : Int) : lostB P f = true ↔ ∃ j : Nat, j < P.length ∧ (Z (b + 1 + 2 * j)).toInt ≤ f ∧ f < (Z (b + 1 + 2 * j)).toInt + (Z (b + 1 + 2 * j + 1)).toInt := by
  obtain ⟨-, -, W, hp, hn, hw⟩ := h
  unfold lostB
  rw [List.any_eq_true]
  constructor
  · rintro ⟨x, hx, e⟩
    obtain ⟨j, hj⟩ := List.getElem?_of_mem (hp.mem_iff.mpr hx)
    have hj' : j < W.length := (List.getElem?_eq_some_iff.mp hj).1
    have e2 := hw j hj'
    rw [hj] at e2
    have e3 := Option.some.inj e2
    subst e3
    simp only [Bool.and_eq_true, decide_eq_true_eq] at e
    exact ⟨j, by rw [← hp.length_eq]; exact hj', e⟩
  · rintro ⟨j, hj, e⟩
    rw [← hp.length_eq] at hj
    refine ⟨_, hp.mem_iff.mp (List.mem_of_getElem? (hw j hj)), ?_⟩
    simp only [Bool.and_eq_true, decide_eq_true_eq]
    exact e
theorem zHl.n {Z : Nat → Int32} {b : Nat} {P : pL} (h : zHl Z b P) : (Z b).toInt = P.length := by
  obtain ⟨-, -, W, hp, hn, hw⟩ := h
  rw [hn, hp.length_eq]
theorem zHl.mem {Z : Nat → Int32} {b : Nat} {P : pL} (h : zHl Z b P) {j : Nat} (hj : j < P.length) : (Z (b + 1 + 2 * j), Z (b + 1 + 2 * j + 1)) ∈ P := by
  obtain ⟨-, -, W, hp, hn, hw⟩ := h
  exact hp.mem_iff.mp (List.mem_of_getElem? (hw j (by rw [hp.length_eq]; exact hj)))
theorem zHl.of {Z : Nat → Int32} {b : Nat} {P : pL} (h : zHl Z b P) {x : Int32 × Int32} (hx : x ∈ P) : ∃ j : Nat, j < P.length ∧ x = (Z (b + 1 + 2 * j), Z (b + 1 + 2 * j + 1)) := by
  obtain ⟨-, -, W, hp, hn, hw⟩ := h
  obtain ⟨j, hj⟩ := List.getElem?_of_mem (hp.mem_iff.mpr hx)
  have hj' : j < W.length := (List.getElem?_eq_some_iff.mp hj).1
  have e2 := hw j hj'
  rw [hj] at e2
  exact ⟨j, by rw [← hp.length_eq]; exact hj', Option.some.inj e2⟩
theorem hold_no {Z : Nat → Int32} {b : Nat} {P : pL} (h : zHl Z b P) {f : Int} (hn : ∀ j : Nat, j < P.length → f < (Z (b + 1 + 2 * j)).toInt) : pHold P f = 0 := by
  refine pHoldF_hi fun x hx => ?_
  obtain ⟨j, hj, rfl⟩ := h.of hx
  exact hn j hj
theorem hold_zH {Z : Nat → Int32} {b : Nat} {P : pL} (h : zHl Z b P) (hs : pSrt P) {f : Int} {j : Nat} (hj : j < P.length) (h1 : (Z (b + 1 + 2 * j)).toInt ≤ f) (h2 : ∀ i : Nat, i < P.length → (Z (b + 1 + 2 * i)).toInt ≤ f → (Z (b + 1 + 2 * i)).toInt ≤ (Z (b + 1 + 2 * j)).toInt) : pHold P f = Z (b + 1 + 2 * j + 1) := by
  obtain ⟨m, hm, e⟩ := List.getElem_of_mem (h.mem hj)
  rw [pHold_at hs hm (by rw [e]; exact h1) (fun hm1 => ?_), e]
  apply Int.not_le.mp
  intro hc
  obtain ⟨i, hi, e2⟩ := h.of (List.getElem_mem hm1)
  have h3 := List.pairwise_iff_getElem.mp hs m (m + 1) hm hm1 (Nat.lt_succ_self m)
  rw [e, e2] at h3
  rw [e2] at hc
  have := h2 i hi hc
  simp only at h3
  omega
theorem pm_at {α : Type} : ∀ (A : List α) (i : Nat) (h : i < A.length), A.Perm (A[i] :: A.eraseIdx i)
  | [], i, h => absurd h (Nat.not_lt_zero _)
  | a :: r, 0, h => List.Perm.refl _
  | a :: r, i + 1, h => by
    have := pm_at r i (Nat.lt_of_succ_lt_succ h)
    exact (this.cons a).trans (List.Perm.swap _ _ _)
theorem pm_set {α : Type} (y : α) : ∀ (A : List α) (i : Nat), i < A.length → (A.set i y).Perm (y :: A.eraseIdx i)
  | [], i, h => absurd h (Nat.not_lt_zero _)
  | a :: r, 0, h => List.Perm.refl _
  | a :: r, i + 1, h => by
    have := pm_set y r i (Nat.lt_of_succ_lt_succ h)
    exact (this.cons a).trans (List.Perm.swap _ _ _)
theorem pSrt_inj {P : pL} (hs : pSrt P) {x y : Int32 × Int32} (hx : x ∈ P) (hy : y ∈ P) (e : x.1 = y.1) : x = y := by
  obtain ⟨i, hi, rfl⟩ := List.getElem_of_mem hx
  obtain ⟨j, hj, rfl⟩ := List.getElem_of_mem hy
  have hp := List.pairwise_iff_getElem.mp hs
  rcases Nat.lt_trichotomy i j with g | g | g
  · have := hp i j hi hj g; rw [e] at this; omega
  · subst g; rfl
  · have := hp j i hj hi g; rw [e] at this; omega
theorem pos_key {P : pL} {f : Int32} (hs : pSrt P) (hf : pHas P f) : ∃ h : pPos P f < P.length, P[pPos P f].1 = f := by
  obtain ⟨h1, h2⟩ := (pPos_at hs).mpr hf
  refine ⟨h1, ?_⟩
  rw [(map_getD P _ h1).1] at h2
  exact h2
theorem zHl.has {Z : Nat → Int32} {b : Nat} {P : pL} {f : Int32} (h : zHl Z b P) : pHas P f ↔ ∃ i : Nat, i < P.length ∧ Z (b + 1 + 2 * i) = f := by
  constructor
  · intro hf
    obtain ⟨x, hx, e⟩ := List.mem_map.mp hf
    obtain ⟨i, hi, rfl⟩ := h.of hx
    exact ⟨i, hi, e⟩
  · rintro ⟨i, hi, e⟩
    exact List.mem_map.mpr ⟨_, h.mem hi, e⟩
theorem pSet_len {P : pL} {f v : Int32} (hs : pSrt P) : (pHas P f → (pSet P f v).length = P.length) ∧ (¬ pHas P f → (pSet P f v).length = P.length + 1) := by
  obtain ⟨h1, h2⟩ := pSet_eq (v := v) (f := f) hs
  refine ⟨fun h => by rw [h1 h, List.length_set], fun h => ?_⟩
  rw [h2 h, List.length_append, List.length_cons, List.length_take, List.length_drop]
  have := pPos_le P f
  omega
theorem zHl.hold {Z Z' : Nat → Int32} {b j : Nat} {P : pL} {f v : Int32} (h : zHl Z b P) (hs : pSrt P) (hj : j ≤ P.length) (h1 : ∀ i : Nat, i < j → ¬ Z (b + 1 + 2 * i) = f) (h2 : j < P.length → Z (b + 1 + 2 * j) = f) (h6 : (pSet P f v).length ≤ 6) (e0 : (Z' b).toInt = (Z b).toInt + (if j = P.length then 1 else 0)) (e1 : Z' (b + 1 + 2 * j) = f) (e2 : Z' (b + 1 + 2 * j + 1) = v) (e3 : ∀ i : Nat, i < P.length → ¬ i = j → Z' (b + 1 + 2 * i) = Z (b + 1 + 2 * i) ∧ Z' (b + 1 + 2 * i + 1) = Z (b + 1 + 2 * i + 1)) : zHl Z' b (pSet P f v) := by
  have hh := h.has (f := f)
  obtain ⟨h6', hs', W, hp, hn, hw⟩ := h
  have hl := hp.length_eq
  refine ⟨h6, pSet_srt hs, ?_⟩
  by_cases hc : j < P.length
  · have hf : pHas P f := hh.mpr ⟨j, hc, h2 hc⟩
    obtain ⟨k1, k2⟩ := pos_key hs hf
    have hjW : j < W.length := by omega
    have ew : W[j] = P[pPos P f] := by
      have e := hw j hjW
      rw [List.getElem?_eq_getElem hjW] at e
      have e := Option.some.inj e
      refine pSrt_inj hs (hp.mem_iff.mp (List.getElem_mem hjW)) (List.getElem_mem k1) ?_
      rw [e, k2]
      exact h2 hc
    refine ⟨W.set j (f, v), ?_, ?_, fun k hk => ?_⟩
    · rw [(pSet_eq (v := v) hs).1 hf]
      have a1 := pm_at W j hjW
      have a2 := pm_at P (pPos P f) k1
      rw [ew] at a1
      have a3 := (a1.symm.trans (hp.trans a2)).cons_inv
      exact (pm_set (f, v) W j hjW).trans ((a3.cons (f, v)).trans (pm_set (f, v) P _ k1).symm)
    · rw [e0, if_neg (by omega), List.length_set, hn]; omega
    · rw [List.length_set] at hk
      rw [List.getElem?_set]
      by_cases e : j = k
      · subst e
        rw [if_pos rfl, if_pos hjW, e1, e2]
      · rw [if_neg e]
        obtain ⟨g1, g2⟩ := e3 k (by omega) (fun z => e z.symm)
        rw [g1, g2]
        exact hw k hk
  · have hf : ¬ pHas P f := fun z => by
      obtain ⟨i, hi, e⟩ := hh.mp z
      exact h1 i (by omega) e
    refine ⟨W ++ [(f, v)], ?_, ?_, fun k hk => ?_⟩
    · rw [(pSet_eq (v := v) hs).2 hf]
      refine (List.perm_append_singleton _ _).trans ((hp.cons (f, v)).trans ?_)
      refine (List.Perm.trans ?_ List.perm_middle.symm)
      rw [List.take_append_drop]
    · rw [e0, if_pos (by omega), List.length_append, hn]; rfl
    · rw [List.length_append] at hk
      have hk : k < W.length + 1 := hk
      by_cases e : k < W.length
      · rw [List.getElem?_append_left e]
        obtain ⟨g1, g2⟩ := e3 k (by omega) (by omega)
        rw [g1, g2]
        exact hw k e
      · have : k = j := by omega
        subst this
        rw [List.getElem?_append_right (by omega), show k - W.length = 0 by omega, e1, e2]
        rfl
theorem zHl.drop {Z Z' : Nat → Int32} {b j : Nat} {P : pL} {f : Int32} (h : zHl Z b P) (hs : pSrt P) (hj : j < P.length) (h2 : Z (b + 1 + 2 * j) = f) (e0 : (Z' b).toInt = (Z b).toInt - 1) (e1 : ∀ i : Nat, i < j → Z' (b + 1 + 2 * i) = Z (b + 1 + 2 * i) ∧ Z' (b + 1 + 2 * i + 1) = Z (b + 1 + 2 * i + 1)) (e2 : ∀ i : Nat, j ≤ i → i + 1 < P.length → Z' (b + 1 + 2 * i) = Z (b + 1 + 2 * (i + 1)) ∧ Z' (b + 1 + 2 * i + 1) = Z (b + 1 + 2 * (i + 1) + 1)) : zHl Z' b (pDel P f) := by
  have hf : pHas P f := h.has.mpr ⟨j, hj, h2⟩
  obtain ⟨h6', hs', W, hp, hn, hw⟩ := h
  have hl := hp.length_eq
  obtain ⟨k1, k2⟩ := pos_key hs hf
  have hjW : j < W.length := by omega
  have ew : W[j] = P[pPos P f] := by
    have e := hw j hjW
    rw [List.getElem?_eq_getElem hjW] at e
    have e := Option.some.inj e
    refine pSrt_inj hs (hp.mem_iff.mp (List.getElem_mem hjW)) (List.getElem_mem k1) ?_
    rw [e, k2]
    exact h2
  have l1 := List.length_eraseIdx_of_lt hjW
  have l2 := List.length_eraseIdx_of_lt k1
  rw [(pDel_eq hs).1 hf]
  refine ⟨by omega, by rw [← (pDel_eq hs).1 hf]; exact pDel_srt hs, W.eraseIdx j, ?_, by rw [e0, l1, hn]; omega, fun k hk => ?_⟩
  · have a1 := pm_at W j hjW
    have a2 := pm_at P (pPos P f) k1
    rw [ew] at a1
    exact (a1.symm.trans (hp.trans a2)).cons_inv
  · rw [List.getElem?_eraseIdx]
    rw [l1] at hk
    by_cases e : k < j
    · rw [if_pos e, (e1 k e).1, (e1 k e).2]
      exact hw k (by omega)
    · rw [if_neg e, (e2 k (by omega) (by omega)).1, (e2 k (by omega) (by omega)).2]
      exact hw (k + 1) (by omega)
theorem zHl.cg {Z Z' : Nat → Int32} {b : Nat} {P : pL} (h : zHl Z b P) (e : ∀ i, b ≤ i → i < b + 13 → Z' i = Z i) : zHl Z' b P := by
  obtain ⟨h6, hs', W, hp, hn, hw⟩ := h
  have hl := hp.length_eq
  refine ⟨h6, hs', W, hp, by rw [e b (by omega) (by omega)]; exact hn, fun k hk => ?_⟩
  rw [e _ (by omega) (by omega), e _ (by omega) (by omega)]
  exact hw k hk
theorem stW.n {s : aS} (h : stW s) (z : Int) : (sR s z).1.length ≤ 10 := (h.r z).2.2.2.1
theorem atZ_sing {a : Int32} : atZ [a] 0 = a := rfl
theorem dm1000 {y : Int32} {a b : Int} (h : y.toInt = 1000 * a + b) (a0 : 1 ≤ a) (a1 : a ≤ 9) (b0 : 80 ≤ b) (b1 : b ≤ 120) : (y / 1000).toInt = a ∧ (y - y / 1000 * 1000).toInt = b := by
  have h1 : isI (y / 1000) a := ixz (iD (show isI y (1000 * a + b) from h) (iC 1000 (by decide)) (by omega)) (by omega)
  exact ⟨h1, ixz (iS (show isI y (1000 * a + b) from h) (iM h1 (iC 1000 (by decide)) (by omega)) (by omega)) (by omega)⟩
theorem zRl.cg {Z Z' : Nat → Int32} {r : aR} (h : zRl Z r) (e : ∀ i, i < 60 → Z' i = Z i) : zRl Z' r := by
  obtain ⟨h1, h5, h2, h3, h4⟩ := h
  refine ⟨by rw [e 0 (by omega)]; exact h1, h5, fun k hk => ?_, h3.cg (fun i a c => e i (by omega)), h4.cg (fun i a c => e i (by omega))⟩
  rw [e _ (by omega), e _ (by omega), e _ (by omega), e _ (by omega)]
  exact h2 k hk
/-- a scene without a cue more -/
theorem zRl.ext {Z Z' : Nat → Int32} {s : aS} {r : aR} {a1 : Int32} (h : zRl Z r) (hW : rlW s r) (h5 : r.1.length < 5) (e0 : (Z' 0).toInt = (Z 0).toInt + 1) (e1 : Z' (1 + 4 * r.1.length) = a1) (e2 : Z' (2 + 4 * r.1.length) = -2000001) (e : ∀ i, ¬ i = 0 → ¬ i = 1 + 4 * r.1.length → ¬ i = 2 + 4 * r.1.length → Z' i = Z i) : zRl Z' (rExt r a1 (-2000001) 0 0) := by
  obtain ⟨h1, -, h2, h3, h4⟩ := h
  obtain ⟨w1, w2, w3, -⟩ := hW
  refine ⟨?_, ?_, fun k hk => ?_, h3.cg (fun i a c => e i (by omega) (by omega) (by omega)), h4.cg (fun i a c => e i (by omega) (by omega) (by omega))⟩
  · show (Z' 0).toInt = ((r.1 ++ [a1]).length : Nat)
    rw [e0, h1, List.length_append]; rfl
  · show (r.1 ++ [a1]).length ≤ 5
    rw [List.length_append]
    show _ + 1 ≤ 5
    omega
  · have hk : k < (r.1 ++ [a1]).length := hk
    rw [List.length_append] at hk
    have hk : k < r.1.length + 1 := hk
    show Z' (1 + 4 * k) = atZ (r.1 ++ [a1]) k ∧ Z' (2 + 4 * k) = atZ (r.2.1 ++ [-2000001]) k ∧ (¬ atZ (r.2.1 ++ [-2000001]) k = -2000001 → Z' (3 + 4 * k) = atZ (r.2.2.1 ++ [0]) k ∧ Z' (4 + 4 * k) = atZ (r.2.2.2.1 ++ [0]) k)
    rw [atZ_app, atZ_app, atZ_app, atZ_app, w1, w2, w3]
    by_cases g : k < r.1.length
    · rw [if_pos g, if_pos g, if_pos g, if_pos g, e _ (by omega) (by omega) (by omega), e _ (by omega) (by omega) (by omega), e _ (by omega) (by omega) (by omega), e _ (by omega) (by omega) (by omega)]
      exact h2 k g
    · have : k = r.1.length := by omega
      subst this
      rw [if_neg g, if_neg g, if_neg g, if_neg g, Nat.sub_self]
      exact ⟨e1, e2, fun z => absurd rfl z⟩
theorem zRl.cut {Z Z' : Nat → Int32} {i : Nat} {s : aS} {r : aR} (h : zRl Z r) (hW : rlW s r) (hi : i < r.1.length) (e0 : (Z' 0).toInt = (Z 0).toInt - 1) (e1 : ∀ t, 1 ≤ t → t < 1 + 4 * i → Z' t = Z t) (e2 : ∀ t, 1 + 4 * i ≤ t → t < 1 + 4 * (r.1.length - 1) → Z' t = Z (t + 4)) (e3 : ∀ t, 1 + 4 * (r.1.length - 1) ≤ t → Z' t = Z t) : zRl Z' (rCut r i) := by
  obtain ⟨h1, h5, h2, h3, h4⟩ := h
  obtain ⟨w1, w2, w3, w4, -⟩ := hW
  have l1 := List.length_eraseIdx_of_lt hi
  refine ⟨?_, ?_, fun k hk => ?_, h3.cg (fun i a c => e3 i (by omega)), h4.cg (fun i a c => e3 i (by omega))⟩
  · show (Z' 0).toInt = ((r.1.eraseIdx i).length : Nat)
    rw [e0, h1, l1]; omega
  · show (r.1.eraseIdx i).length ≤ 5
    omega
  · have hk : k < (r.1.eraseIdx i).length := hk
    rw [l1] at hk
    show Z' (1 + 4 * k) = atZ (r.1.eraseIdx i) k ∧ Z' (2 + 4 * k) = atZ (r.2.1.eraseIdx i) k ∧ (¬ atZ (r.2.1.eraseIdx i) k = -2000001 → Z' (3 + 4 * k) = atZ (r.2.2.1.eraseIdx i) k ∧ Z' (4 + 4 * k) = atZ (r.2.2.2.1.eraseIdx i) k)
    rw [atZ_erase, atZ_erase, atZ_erase, atZ_erase]
    by_cases g : k < i
    · rw [if_pos g, if_pos g, if_pos g, if_pos g, e1 _ (by omega) (by omega), e1 _ (by omega) (by omega), e1 _ (by omega) (by omega), e1 _ (by omega) (by omega)]
      exact h2 k (by omega)
    · rw [if_neg g, if_neg g, if_neg g, if_neg g, e2 _ (by omega) (by omega), e2 _ (by omega) (by omega), e2 _ (by omega) (by omega)]
      have := h2 (k + 1) (by omega)
      rw [show 1 + 4 * k + 4 = 1 + 4 * (k + 1) by omega, show 2 + 4 * k + 4 = 2 + 4 * (k + 1) by omega, show 3 + 4 * k + 4 = 3 + 4 * (k + 1) by omega]
      by_cases g2 : 4 + 4 * k < 1 + 4 * (r.1.length - 1)
      · rw [e2 _ (by omega) g2, show 4 + 4 * k + 4 = 4 + 4 * (k + 1) by omega]
        exact this
      · omega
theorem zRl.cue {Z Z' : Nat → Int32} {i : Nat} {s : aS} {r : aR} {a2 a3 a4 b3 b4 : Int32} (h : zRl Z r) (hW : rlW s r) (hi : i < r.1.length) (e2 : Z' (2 + 4 * i) = a2) (e3 : ¬ a2 = -2000001 → Z' (3 + 4 * i) = b3 ∧ Z' (4 + 4 * i) = b4) (e4 : ¬ a2 = -2000001 → a3 = b3 ∧ a4 = b4) (e : ∀ t, ¬ t = 2 + 4 * i → ¬ t = 3 + 4 * i → ¬ t = 4 + 4 * i → Z' t = Z t) : zRl Z' (rCue r i a2 a3 a4) := by
  obtain ⟨h1, h5, h2, h3, h4⟩ := h
  obtain ⟨w1, w2, w3, w4, -⟩ := hW
  refine ⟨by rw [e _ (by omega) (by omega) (by omega)]; exact h1, h5, fun k hk => ?_, h3.cg (fun i a c => e i (by omega) (by omega) (by omega)), h4.cg (fun i a c => e i (by omega) (by omega) (by omega))⟩
  have hk : k < r.1.length := hk
  show Z' (1 + 4 * k) = atZ r.1 k ∧ Z' (2 + 4 * k) = atZ (setZ r.2.1 i a2) k ∧ (¬ atZ (setZ r.2.1 i a2) k = -2000001 → Z' (3 + 4 * k) = atZ (setZ r.2.2.1 i a3) k ∧ Z' (4 + 4 * k) = atZ (setZ r.2.2.2.1 i a4) k)
  rw [atZ_set (by omega) (by omega), atZ_set (by omega) (by omega), atZ_set (by omega) (by omega)]
  by_cases g : k = i
  · subst g
    rw [if_pos rfl, if_pos rfl, if_pos rfl, e _ (by omega) (by omega) (by omega)]
    exact ⟨(h2 k hk).1, e2, fun z => by rw [(e4 z).1, (e4 z).2]; exact e3 z⟩
  · rw [if_neg (by omega), if_neg (by omega), if_neg (by omega), e _ (by omega) (by omega) (by omega), e _ (by omega) (by omega) (by omega), e _ (by omega) (by omega) (by omega), e _ (by omega) (by omega) (by omega)]
    exact h2 k hk
theorem zRl.sp {Z Z' : Nat → Int32} {r : aR} {P : pL} (h : zRl Z r) (hP : zHl Z' 30 P) (e : ∀ i, (i < 30 ∨ 45 ≤ i) → Z' i = Z i) : zRl Z' (rSp r P) := by
  obtain ⟨h1, h5, h2, h3, h4⟩ := h
  refine ⟨by rw [e 0 (by omega)]; exact h1, h5, fun k hk => ?_, hP, h4.cg (fun i a c => e i (by omega))⟩
  have hk : k < r.1.length := hk
  rw [e _ (by omega), e _ (by omega), e _ (by omega), e _ (by omega)]
  exact h2 k hk
theorem zRl.sl {Z Z' : Nat → Int32} {r : aR} {P : pL} (h : zRl Z r) (hP : zHl Z' 45 P) (e : ∀ i, i < 45 → Z' i = Z i) : zRl Z' (rSl r P) := by
  obtain ⟨h1, h5, h2, h3, h4⟩ := h
  refine ⟨by rw [e 0 (by omega)]; exact h1, h5, fun k hk => ?_, h3.cg (fun i a c => e i (by omega)), hP⟩
  have hk : k < r.1.length := hk
  rw [e _ (by omega), e _ (by omega), e _ (by omega), e _ (by omega)]
  exact h2 k hk
theorem isCue_iff {r : aR} {k : Nat} : isCue r k ↔ ¬ (atZ r.2.1 k).toInt = -2000001 := by
  unfold isCue
  constructor
  · intro h z; exact h (ti_inj z)
  · intro h z; exact h (by rw [z]; rfl)

section JLr
variable {l : Launch} {s0 : State} {D : jD} {M : jM} {R : Room} {mc ms : Nat} {Q : jQ} {pc : Nat} {L : List (Nat × Value)} {st rest : List Value} {T : jT} {V : jV} {X : jX} {sz c n : Nat}
theorem j_dom (K : (∀ b k, T b = some k → b < sz) → J l s0 D M R mc ms Q pc L st T V X sz c n) : J l s0 D M R mc ms Q pc L st T V X sz c n := by
  intro p e s m args below meth cd H locs ls hC hH hl
  refine K (fun b k hb => ?_) p e s m args below meth cd H locs ls hC hH hl
  have := va_at.lt (hH.2.2.2.2.1 b k hb).2
  rw [← hH.2.2.2.2.2.1]
  exact this
/-- kinds and numbers of what isn't known any more are forgotten -/
theorem j_fgt {T' : jT} {V' : jV} (hT : ∀ q k, T' q = some k → T q = some k ∧ V' q = V q) (K : J l s0 D M R mc ms Q pc L st T' V' X sz c n) : J l s0 D M R mc ms Q pc L st T V X sz c n := by
  intro p e s m args below meth cd H locs ls hC hH hl
  refine K p e s m args below meth cd H locs ls hC ⟨hH.1, hH.2.1, hH.2.2.1, hH.2.2.2.1, fun q k hq => ?_, hH.2.2.2.2.2⟩ hl
  obtain ⟨g1, g2⟩ := hT q k hq
  obtain ⟨k1, k2⟩ := hH.2.2.2.2.1 q k g1
  refine ⟨k1, ?_⟩
  rw [j_E_congr g2 rfl rfl]
  exact k2
theorem j_wid {c' n' : Nat} (hc : c ≤ c') (hn : n ≤ n') (K : J l s0 D M R mc ms Q pc L st T V X sz c' n') : J l s0 D M R mc ms Q pc L st T V X sz c n := by
  intro p e s m args below meth cd H locs ls hC hH hl
  exact W.widen hc hn (K p e s m args below meth cd H locs ls hC hH hl)
/-- a call of the class that throws nothing -/
theorem j_cC {M2 : jM} {R2 : Room} {mc2 ms2 idx ci q na ex : Nat} {as : List Value} {fs : List (Nat ⊕ Option Nat)} {r : vw_C} {Es : List String} {P : Option Value → Prop} {x x' : aX} (d : decode M.2.1 pc = .ok (.invokevirtual idx, 3)) (hB : jB l s0 D) (hm : jmV M2 na) (hlk : Cond.methodLink M.1.cls idx M2.1 ∈ lw_tbl) (sp : Sp l s0 D M2 R2 mc2 ms2 (.ref q :: as) T V X sz (qC T V X sz q ex Es P x x')) (he : ex = 0) (ht : T q = some (.inl (ci, fs))) (hc : vwCl[ci]? = some r) (hr : r.1 = M2.1.cls) (hn : as.length = na) (hst : st = as.reverse ++ .ref q :: rest) (hrm : jrm R R2 mc2 ms2 M2.2.2.1) (hcat : (rest.map fun v => v.category).sum ≤ 8) (hf : c + mc2 ≤ R.cells ∧ n + ms2 ≤ R.slots)
    (K : ∀ v V', P v → jAg V V' q (q + 492) → cuIs T V' q x' → J l s0 D M R mc ms Q (pc + 3) L (v.toList ++ rest) T V' X sz (c + mc2) (n + ms2)) : J l s0 D M R mc ms Q pc L st T V X sz c n := by
  refine j_callV d hB hm hlk sp ht hc hr hn hst hrm hcat hf ?_ ?_
  · rintro v T' V' X' sz' ⟨rfl, rfl, ha, ⟨v', h, rfl, -, hp, hcu⟩ | ⟨E, k, h, -⟩⟩
    · cases h; exact K v V' hp ha hcu
    · cases h
  · rintro E T' V' X' sz' ⟨rfl, rfl, ha, ⟨v', h, -⟩ | ⟨E2, k, h, h2, h3, h4, -⟩⟩
    · cases h
    · omega
theorem j_cCi {M2 : jM} {R2 : Room} {mc2 ms2 idx ci q na ex : Nat} {as : List Value} {fs : List (Nat ⊕ Option Nat)} {r : vw_C} {Es : List String} {z : Int} {x x' : aX} (d : decode M.2.1 pc = .ok (.invokevirtual idx, 3)) (hB : jB l s0 D) (hm : jmV M2 na) (hlk : Cond.methodLink M.1.cls idx M2.1 ∈ lw_tbl) (sp : Sp l s0 D M2 R2 mc2 ms2 (.ref q :: as) T V X sz (qC T V X sz q ex Es (pInt z) x x')) (he : ex = 0) (ht : T q = some (.inl (ci, fs))) (hc : vwCl[ci]? = some r) (hr : r.1 = M2.1.cls) (hn : as.length = na) (hst : st = as.reverse ++ .ref q :: rest) (hrm : jrm R R2 mc2 ms2 M2.2.2.1) (hcat : (rest.map fun v => v.category).sum ≤ 8) (hf : c + mc2 ≤ R.cells ∧ n + ms2 ≤ R.slots)
    (K : ∀ y V', isI y z → jAg V V' q (q + 492) → cuIs T V' q x' → J l s0 D M R mc ms Q (pc + 3) L (.int y :: rest) T V' X sz (c + mc2) (n + ms2)) : J l s0 D M R mc ms Q pc L st T V X sz c n :=
  j_cC d hB hm hlk sp he ht hc hr hn hst hrm hcat hf (by rintro v V' ⟨y, rfl, hy⟩ ha hcu; exact K y V' hy ha hcu)
/-- a test of the law: it answers true, makes nothing that is known, and P holds behind it -/
def qK (T : jT) (X : jX) (sz : Nat) (P : jV → Prop) : jQ := fun o T' V' X' sz' => o = .inl (some (.int 1)) ∧ T' = T ∧ X' = X ∧ sz ≤ sz' ∧ P V'
theorem j_cK {M2 : jM} {R2 : Room} {mc2 ms2 idx na : Nat} {as : List Value} {P : jV → Prop} (d : decode M.2.1 pc = .ok (.invokestatic idx, 3)) (hB : jB l s0 D) (hm : jmS M2 na) (hlk : Cond.methodLink M.1.cls idx M2.1 ∈ lw_tbl) (sp : Sp l s0 D M2 R2 mc2 ms2 as T V X sz (qK T X sz P)) (hn : as.length = na) (hst : st = as.reverse ++ rest) (hrm : jrm R R2 mc2 ms2 M2.2.2.1) (hcat : (rest.map fun v => v.category).sum ≤ 8) (hf : c + mc2 ≤ R.cells ∧ n + ms2 ≤ R.slots)
    (K : ∀ V' sz', sz ≤ sz' → P V' → J l s0 D M R mc ms Q (pc + 3) L (.int 1 :: rest) T V' X sz' (c + mc2) (n + ms2)) : J l s0 D M R mc ms Q pc L st T V X sz c n :=
  j_callS d hB hm hlk sp hn hst hrm hcat hf (by rintro v T' V' X' sz' ⟨h, rfl, rfl, hz, hp⟩; cases h; exact K V' sz' hz hp) (by rintro E T' V' X' sz' ⟨h, -⟩; cases h)

theorem j_sld {b N k : Nat} {xs : Nat → Int32} {i : Int32} (d : decode M.2.1 pc = .ok (.iaload, 1)) (hX : va_X b N xs s0 s0.heap) (hb : b < s0.heap.size) (hi : i.toInt = (k : Int)) (hk : k < N) (K : J l s0 D M R mc ms Q (pc + 1) L (.int (xs k) :: rest) T V X sz c n) : J l s0 D M R mc ms Q pc L (.int i :: .ref b :: rest) T V X sz c n := by
  intro p e s m args below meth cd H locs ls hC hH hl
  have hW := hC.2.2.2.2.2.2.1
  refine va_sld hC.1 hC.2.1 (A := jA s0) (H0 := s.heap) ((hX.moved hW.alike).kept (hH.2.2.1 b hb)) (Nat.lt_of_lt_of_le hb hH.1) (Nat.not_le.mpr hb) hH.va (jin_of (by omega) (by omega)) d ?_
  rw [cl_toNat, hi, Int.toNat_natCast]
  exact K p e s m args below meth cd H locs ls hC hH hl
theorem j_slen {b N : Nat} {xs : Nat → Int32} (d : decode M.2.1 pc = .ok (.arraylength, 1)) (hX : va_X b N xs s0 s0.heap) (hb : b < s0.heap.size) (K : J l s0 D M R mc ms Q (pc + 1) L (.int (Int32.ofNat N) :: rest) T V X sz c n) : J l s0 D M R mc ms Q pc L (.ref b :: rest) T V X sz c n := by
  intro p e s m args below meth cd H locs ls hC hH hl
  have hW := hC.2.2.2.2.2.2.1
  exact va_slen hC.1 hC.2.1 (A := jA s0) (H0 := s.heap) ((hX.moved hW.alike).kept (hH.2.2.1 b hb)) (Nat.lt_of_lt_of_le hb hH.1) (Nat.not_le.mpr hb) hH.va d (K p e s m args below meth cd H locs ls hC hH hl)
end JLr
theorem cuIs.fr {T : jT} {V V' : jV} {q lo hi : Nat} {x : aX} (h : cuIs T V q x) (ha : jAg V V' lo hi) (hd : q + 492 ≤ lo ∨ hi ≤ q) : cuIs T V' q x := by
  obtain ⟨sv, o, ⟨h0, h1, h2, h3, h4, h5, h6, h7, h8, h9⟩, r⟩ := h
  exact ⟨sv, o, ⟨h0, h1.ag ha (by omega), fun i hi => (h2 i hi).ag ha (by unfold svA; omega), by rw [ha q (by omega)]; exact h3, by rw [ha q (by omega)]; exact h4, h5.ag ha (by omega), by rw [Rw_ag ha (by omega)]; exact h6, h7.ag ha (by omega), h8.ag ha (by omega), h9.ag ha (by omega)⟩, r⟩
