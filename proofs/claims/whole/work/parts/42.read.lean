/-! READING: what stands in the rows while a sheet is read -/
def entOK (L p s a : Int32) : Prop := 1 ≤ L.toInt ∧ L.toInt ≤ 900 ∧ ((p = NN ∧ s = 0 ∧ a = 0) ∨ (0 ≤ p.toInt ∧ p.toInt ≤ 7 ∧ 1 ≤ s.toInt ∧ s.toInt ≤ 9 ∧ 80 ≤ a.toInt ∧ a.toInt ≤ 120))
def curOK (pl L p s a : Int32) : Prop :=
  (pl = 0 ∧ 0 ≤ L.toInt ∧ L.toInt ≤ 900 ∧ p = NN ∧ s = 0 ∧ a = 0) ∨
  (pl = 1 ∧ 1 ≤ L.toInt ∧ L.toInt ≤ 900 ∧ p = NN ∧ s = 0 ∧ a = 0) ∨
  ((pl = 2 ∨ pl = 3) ∧ 1 ≤ L.toInt ∧ L.toInt ≤ 900 ∧ 0 ≤ p.toInt ∧ p.toInt ≤ 7 ∧ s = 0 ∧ a = 0) ∨
  (pl = 4 ∧ 1 ≤ L.toInt ∧ L.toInt ≤ 900 ∧ 0 ≤ p.toInt ∧ p.toInt ≤ 7 ∧ 1 ≤ s.toInt ∧ s.toInt ≤ 9 ∧ a = 100) ∨
  (pl = 5 ∧ 1 ≤ L.toInt ∧ L.toInt ≤ 900 ∧ 0 ≤ p.toInt ∧ p.toInt ≤ 7 ∧ 1 ≤ s.toInt ∧ s.toInt ≤ 9 ∧ (a.toInt = 0 ∨ a.toInt = 1 ∨ (8 ≤ a.toInt ∧ a.toInt ≤ 12) ∨ (80 ≤ a.toInt ∧ a.toInt ≤ 120)))
/-- k characters have been read -/
def rInv (t : tR) (k : Nat) : Prop := ∃ n : Nat, t.1.length = n + 1 ∧ t.2.1.length = n + 1 ∧ t.2.2.1.length = n + 1 ∧ t.2.2.2.1.length = n + 1 ∧ (∀ j : Nat, j < n → entOK (atZ t.1 j) (atZ t.2.1 j) (atZ t.2.2.1 j) (atZ t.2.2.2.1 j)) ∧
  curOK t.2.2.2.2 (atZ t.1 n) (atZ t.2.1 n) (atZ t.2.2.1 n) (atZ t.2.2.2.1 n) ∧ 2 * n ≤ k ∧ (¬ (t.2.2.2.2 = 0 ∧ (atZ t.1 n).toInt = 0) → 2 * n + 1 ≤ k)
theorem rInv_0 : rInv r0 0 := ⟨0, rfl, rfl, rfl, rfl, fun j hj => absurd hj (by omega), Or.inl ⟨rfl, by decide, by decide, rfl, rfl, rfl⟩, Nat.le_refl _, fun h => absurd ⟨rfl, by decide⟩ h⟩
theorem curOK.L {pl L p s a : Int32} (h : curOK pl L p s a) : 0 ≤ L.toInt ∧ L.toInt ≤ 900 ∧ 0 ≤ a.toInt ∧ a.toInt ≤ 900 := by
  have e100 : (100 : Int32).toInt = 100 := by decide
  rcases h with ⟨-, h1, h2, -, -, h3⟩ | ⟨-, h1, h2, -, -, h3⟩ | ⟨-, h1, h2, -, -, -, h3⟩ | ⟨-, h1, h2, -, -, -, -, h3⟩ | ⟨-, h1, h2, -, -, -, -, h3⟩
  · rw [h3, ti_0]; omega
  · rw [h3, ti_0]; omega
  · rw [h3, ti_0]; omega
  · rw [h3, e100]; omega
  · omega
theorem rInv.comp {t : tR} {k : Nat} (h : rInv t k) (hc : rComp t) : ∃ n : Nat, t.1.length = n + 1 ∧ t.2.1.length = n + 1 ∧ t.2.2.1.length = n + 1 ∧ t.2.2.2.1.length = n + 1 ∧ (∀ j : Nat, j < n + 1 → entOK (atZ t.1 j) (atZ t.2.1 j) (atZ t.2.2.1 j) (atZ t.2.2.2.1 j)) ∧ 2 * n + 1 ≤ k := by
  obtain ⟨n, l1, l2, l3, l4, he, hcu, z1, z2⟩ := h
  have hN : rN t = (n : Int) := by unfold rN; omega
  have e100 : (100 : Int32).toInt = 100 := by decide
  unfold rComp at hc
  rw [hN] at hc
  refine ⟨n, l1, l2, l3, l4, fun j hj => ?_, z2 ?_⟩
  · by_cases e : j < n
    · exact he j e
    · have e : j = n := by omega
      subst e
      rcases hcu with ⟨q, a1, a2, a3, a4, a5⟩ | ⟨q, -⟩ | ⟨q, -⟩ | ⟨q, a1, a2, a3, a4, a5, a6, a7⟩ | ⟨q, a1, a2, a3, a4, a5, a6, a7⟩
      · rcases hc with ⟨c1, c2⟩ | c1 | ⟨c1, c2⟩
        · exact ⟨by omega, a2, Or.inl ⟨a3, a4, a5⟩⟩
        · rw [q] at c1; exact absurd c1 (by decide)
        · rw [q] at c1; exact absurd c1 (by decide)
      · rcases hc with ⟨c1, c2⟩ | c1 | ⟨c1, c2⟩ <;> (rw [q] at c1; exact absurd c1 (by decide))
      · rcases hc with ⟨c1, c2⟩ | c1 | ⟨c1, c2⟩ <;> rcases q with q | q <;> (rw [q] at c1; exact absurd c1 (by decide))
      · exact ⟨a1, a2, Or.inr ⟨a3, a4, a5, a6, by rw [a7, e100]; omega, by rw [a7, e100]; omega⟩⟩
      · rcases hc with ⟨c1, c2⟩ | c1 | ⟨c1, c2⟩
        · rw [q] at c1; exact absurd c1 (by decide)
        · rw [q] at c1; exact absurd c1 (by decide)
        · exact ⟨a1, a2, Or.inr ⟨a3, a4, a5, a6, by omega, by omega⟩⟩
  · rintro ⟨y1, y2⟩
    rcases hc with ⟨c1, c2⟩ | c1 | ⟨c1, c2⟩
    · omega
    · rw [y1] at c1; exact absurd c1 (by decide)
    · rw [y1] at c1; exact absurd c1 (by decide)
theorem rInv.step {t t' : tR} {c : Int32} {k : Nat} (h : rInv t k) (hr : rRd t c t') : rInv t' (k + 1) := by
  have hcomp := h.comp
  obtain ⟨n, l1, l2, l3, l4, he, hcu, z1, z2⟩ := h
  have hN : rN t = (n : Int) := by unfold rN; omega
  have g : ∀ (L : List Int32) (v : Int32), L.length = n + 1 → atZ (setZ L n v) (n : Int) = v := fun L v hl => by rw [atZ_set (by omega) (by omega), if_pos rfl]
  have g' : ∀ (L : List Int32) (v : Int32) (j : Nat), L.length = n + 1 → j < n → atZ (setZ L n v) (j : Int) = atZ L j := fun L v j hl hj => by rw [atZ_set (by omega) (by omega), if_neg (by omega)]
  rcases hr with ⟨-, hc, rfl⟩ | ⟨-, p0, hc, rfl⟩ | ⟨-, p2, rfl⟩ | ⟨-, p4, rfl⟩ | ⟨c0, c9, hd⟩
  · obtain ⟨m, m1, m2, m3, m4, me, mk⟩ := hcomp hc
    have app : ∀ (L : List Int32) (v : Int32) (j : Nat), L.length = m + 1 → j < m + 1 → atZ (L ++ [v]) (j : Int) = atZ L j := fun L v j hl hj => by rw [atZ_app, if_pos (by omega)]
    have app' : ∀ (L : List Int32) (v : Int32), L.length = m + 1 → atZ (L ++ [v]) ((m + 1 : Nat) : Int) = v := fun L v hl => by rw [atZ_app, if_neg (by omega), hl, Nat.sub_self]; rfl
    refine ⟨m + 1, by show (t.1 ++ [0]).length = _; rw [List.length_append, m1]; rfl, by show (t.2.1 ++ [-2000001]).length = _; rw [List.length_append, m2]; rfl, by show (t.2.2.1 ++ [0]).length = _; rw [List.length_append, m3]; rfl, by show (t.2.2.2.1 ++ [0]).length = _; rw [List.length_append, m4]; rfl, fun j hj => ?_, ?_, by omega, fun hz => absurd ?_ hz⟩
    · show entOK (atZ (t.1 ++ [0]) j) (atZ (t.2.1 ++ [-2000001]) j) (atZ (t.2.2.1 ++ [0]) j) (atZ (t.2.2.2.1 ++ [0]) j)
      rw [app _ _ j m1 hj, app _ _ j m2 hj, app _ _ j m3 hj, app _ _ j m4 hj]
      exact me j hj
    · show curOK 0 (atZ (t.1 ++ [0]) ((m + 1 : Nat) : Int)) (atZ (t.2.1 ++ [-2000001]) ((m + 1 : Nat) : Int)) (atZ (t.2.2.1 ++ [0]) ((m + 1 : Nat) : Int)) (atZ (t.2.2.2.1 ++ [0]) ((m + 1 : Nat) : Int))
      rw [app' _ _ m1, app' _ _ m2, app' _ _ m3, app' _ _ m4]
      exact Or.inl ⟨rfl, by decide, by decide, rfl, rfl, rfl⟩
    · refine ⟨rfl, ?_⟩
      show (atZ (t.1 ++ [0]) ((m + 1 : Nat) : Int)).toInt = 0
      rw [app' _ _ m1]; rfl
  · unfold rComp at hc
    rw [hN] at hc
    have hL : 0 < (atZ t.1 n).toInt := by
      rcases hc with ⟨-, c2⟩ | c1 | ⟨c1, -⟩
      · exact c2
      · rw [p0] at c1; exact absurd c1 (by decide)
      · rw [p0] at c1; exact absurd c1 (by decide)
    refine ⟨n, l1, l2, l3, l4, he, ?_, by omega, fun _ => by have := z2 (fun y => by omega); omega⟩
    rcases hcu with ⟨q, a1, a2, a3⟩ | ⟨q, -⟩ | ⟨q, -⟩ | ⟨q, -⟩ | ⟨q, -⟩
    · exact Or.inr (Or.inl ⟨rfl, by show 1 ≤ (atZ t.1 n).toInt; omega, a2, a3⟩)
    · rw [p0] at q; exact absurd q (by decide)
    · rw [p0] at q; exact absurd q (by decide)
    · rw [p0] at q; exact absurd q (by decide)
    · rw [p0] at q; exact absurd q (by decide)
  · refine ⟨n, l1, l2, l3, l4, he, ?_, by omega, fun _ => by have := z2 (fun y => by rw [p2] at y; exact absurd y.1 (by decide)); omega⟩
    rcases hcu with ⟨q, -⟩ | ⟨q, -⟩ | ⟨q, a⟩ | ⟨q, -⟩ | ⟨q, -⟩
    · rw [p2] at q; exact absurd q (by decide)
    · rw [p2] at q; exact absurd q (by decide)
    · exact Or.inr (Or.inr (Or.inl ⟨Or.inr rfl, a⟩))
    · rw [p2] at q; exact absurd q (by decide)
    · rw [p2] at q; exact absurd q (by decide)
  · rw [hN]
    refine ⟨n, l1, l2, l3, by dsimp only; rw [setZ_len]; exact l4, fun j hj => ?_, ?_, by omega, fun _ => by have := z2 (fun y => by rw [p4] at y; exact absurd y.1 (by decide)); omega⟩
    · show entOK (atZ t.1 j) (atZ t.2.1 j) (atZ t.2.2.1 j) (atZ (setZ t.2.2.2.1 n 0) j)
      rw [g' _ _ j l4 hj]; exact he j hj
    · show curOK 5 (atZ t.1 n) (atZ t.2.1 n) (atZ t.2.2.1 n) (atZ (setZ t.2.2.2.1 n 0) n)
      rw [g _ _ l4]
      rcases hcu with ⟨q, -⟩ | ⟨q, -⟩ | ⟨q, -⟩ | ⟨q, a1, a2, a3, a4, a5, a6, a7⟩ | ⟨q, -⟩
      · rw [p4] at q; exact absurd q (by decide)
      · rw [p4] at q; exact absurd q (by decide)
      · rw [p4] at q; exact absurd q (by decide)
      · exact Or.inr (Or.inr (Or.inr (Or.inr ⟨rfl, a1, a2, a3, a4, a5, a6, Or.inl rfl⟩)))
      · rw [p4] at q; exact absurd q (by decide)
  · have k48 : (48 : Int32).toInt = 48 := by decide
    have k10 : (10 : Int32).toInt = 10 := by decide
    have td : (c - 48).toInt = c.toInt - 48 := by rw [ti_sub (by rw [k48]; omega) (by rw [k48]; omega), k48]
    generalize c - 48 = d at hd td
    unfold rDig at hd
    rw [hN] at hd
    have hcl := hcu.L
    rcases hd with ⟨q, d1, d2, rfl⟩ | ⟨q, d1, rfl⟩ | ⟨q, d1, rfl⟩ | ⟨q, d1, rfl⟩
    · have tn : (10 * atZ t.1 n + d).toInt = 10 * (atZ t.1 n).toInt + d.toInt := by
        have m : (10 * atZ t.1 (n : Int)).toInt = 10 * (atZ t.1 n).toInt := by rw [ti_mul (by rw [k10]; omega) (by rw [k10]; omega), k10]
        rw [ti_add (by omega) (by omega), m]
      refine ⟨n, by dsimp only; rw [setZ_len]; exact l1, l2, l3, l4, fun j hj => ?_, ?_, by omega, fun _ => by omega⟩
      · show entOK (atZ (setZ t.1 n _) j) (atZ t.2.1 j) (atZ t.2.2.1 j) (atZ t.2.2.2.1 j)
        rw [g' _ _ j l1 hj]; exact he j hj
      · show curOK 0 (atZ (setZ t.1 n _) n) (atZ t.2.1 n) (atZ t.2.2.1 n) (atZ t.2.2.2.1 n)
        rw [g _ _ l1]
        rcases hcu with ⟨_, a1, a2, a3⟩ | ⟨y, -⟩ | ⟨y, -⟩ | ⟨y, -⟩ | ⟨y, -⟩
        · exact Or.inl ⟨rfl, by omega, by omega, a3⟩
        · rw [q] at y; exact absurd y (by decide)
        · rw [q] at y; exact absurd y (by decide)
        · rw [q] at y; exact absurd y (by decide)
        · rw [q] at y; exact absurd y (by decide)
    · refine ⟨n, l1, by dsimp only; rw [setZ_len]; exact l2, l3, l4, fun j hj => ?_, ?_, by omega, fun _ => by have := z2 (fun y => by rw [q] at y; exact absurd y.1 (by decide)); omega⟩
      · show entOK (atZ t.1 j) (atZ (setZ t.2.1 n _) j) (atZ t.2.2.1 j) (atZ t.2.2.2.1 j)
        rw [g' _ _ j l2 hj]; exact he j hj
      · show curOK 2 (atZ t.1 n) (atZ (setZ t.2.1 n _) n) (atZ t.2.2.1 n) (atZ t.2.2.2.1 n)
        rw [g _ _ l2]
        rcases hcu with ⟨y, -⟩ | ⟨_, a1, a2, a3, a4, a5⟩ | ⟨y, -⟩ | ⟨y, -⟩ | ⟨y, -⟩
        · rw [q] at y; exact absurd y (by decide)
        · exact Or.inr (Or.inr (Or.inl ⟨Or.inl rfl, a1, a2, by omega, by omega, a4, a5⟩))
        · rw [q] at y; exact absurd y (by decide)
        · rw [q] at y; exact absurd y (by decide)
        · rw [q] at y; exact absurd y (by decide)
    · refine ⟨n, l1, l2, by dsimp only; rw [setZ_len]; exact l3, by dsimp only; rw [setZ_len]; exact l4, fun j hj => ?_, ?_, by omega, fun _ => by have := z2 (fun y => by rw [q] at y; exact absurd y.1 (by decide)); omega⟩
      · show entOK (atZ t.1 j) (atZ t.2.1 j) (atZ (setZ t.2.2.1 n _) j) (atZ (setZ t.2.2.2.1 n _) j)
        rw [g' _ _ j l3 hj, g' _ _ j l4 hj]; exact he j hj
      · show curOK 4 (atZ t.1 n) (atZ t.2.1 n) (atZ (setZ t.2.2.1 n _) n) (atZ (setZ t.2.2.2.1 n _) n)
        rw [g _ _ l3, g _ _ l4]
        rcases hcu with ⟨y, -⟩ | ⟨y, -⟩ | ⟨_, a1, a2, a3, a4, a5, a6⟩ | ⟨y, -⟩ | ⟨y, -⟩
        · rw [q] at y; exact absurd y (by decide)
        · rw [q] at y; exact absurd y (by decide)
        · exact Or.inr (Or.inr (Or.inr (Or.inl ⟨rfl, a1, a2, a3, a4, d1, by omega, rfl⟩)))
        · rw [q] at y; exact absurd y (by decide)
        · rw [q] at y; exact absurd y (by decide)
    · have tn : (10 * atZ t.2.2.2.1 n + d).toInt = 10 * (atZ t.2.2.2.1 n).toInt + d.toInt := by
        have m : (10 * atZ t.2.2.2.1 (n : Int)).toInt = 10 * (atZ t.2.2.2.1 n).toInt := by rw [ti_mul (by rw [k10]; omega) (by rw [k10]; omega), k10]
        rw [ti_add (by omega) (by omega), m]
      refine ⟨n, l1, l2, l3, by dsimp only; rw [setZ_len]; exact l4, fun j hj => ?_, ?_, by omega, fun _ => by have := z2 (fun y => by rw [q] at y; exact absurd y.1 (by decide)); omega⟩
      · show entOK (atZ t.1 j) (atZ t.2.1 j) (atZ t.2.2.1 j) (atZ (setZ t.2.2.2.1 n _) j)
        rw [g' _ _ j l4 hj]; exact he j hj
      · show curOK 5 (atZ t.1 n) (atZ t.2.1 n) (atZ t.2.2.1 n) (atZ (setZ t.2.2.2.1 n _) n)
        rw [g _ _ l4, ]
        rcases hcu with ⟨y, -⟩ | ⟨y, -⟩ | ⟨y, -⟩ | ⟨y, -⟩ | ⟨_, a1, a2, a3, a4, a5, a6, a7⟩
        · rw [q] at y; exact absurd y (by decide)
        · rw [q] at y; exact absurd y (by decide)
        · rw [q] at y; rcases y with y | y <;> exact absurd y (by decide)
        · rw [q] at y; exact absurd y (by decide)
        · refine Or.inr (Or.inr (Or.inr (Or.inr ⟨rfl, a1, a2, a3, a4, a5, a6, ?_⟩)))
          rw [tn]
          have d1 : 10 * (atZ t.2.2.2.1 n).toInt + d.toInt = 1 ∨ _ := d1
          omega
theorem rdL_le {t : tR} : ∀ B : List Int32, (rdL t B).1 ≤ B.length := by
  intro B
  induction B generalizing t with
  | nil => exact Nat.le_refl 0
  | cons c r ih =>
    unfold rdL
    cases hs : rdS t c with
    | none => exact Nat.zero_le _
    | some t' => exact Nat.succ_le_succ ih
theorem rRd_of {t t' : tR} {c : Int32} (h : rdS t c = some t') : rRd t c t' := by
  unfold rdS at h
  by_cases e : ∃ t', rRd t c t'
  · rw [dif_pos e] at h
    have := Classical.choose_spec e
    rw [Option.some.inj h] at this
    exact this
  · rw [dif_neg e] at h; exact absurd h (by simp)
theorem rdL_inv {t : tR} {k : Nat} (h : rInv t k) : ∀ B : List Int32, rInv (rdL t B).2 (k + (rdL t B).1) := by
  intro B
  induction B generalizing t k with
  | nil => exact h
  | cons c r ih =>
    unfold rdL
    cases hs : rdS t c with
    | none => exact h
    | some t' =>
      have := ih (h.step (rRd_of hs))
      show rInv (rdL t' r).2 (k + ((rdL t' r).1 + 1))
      rw [show k + ((rdL t' r).1 + 1) = k + 1 + (rdL t' r).1 by omega]
      exact this
