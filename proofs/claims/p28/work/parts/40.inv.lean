/-! RANGES: what a call leaves in its ranges; lists -/
theorem atZ_nat {L : List Int32} {k : Nat} : atZ L (k : Int) = L.getD k 0 := by rw [atZ_in (by omega), Int.toNat_natCast]
theorem setZ_len {L : List Int32} {i : Int} {v : Int32} : (setZ L i v).length = L.length := by unfold setZ; split <;> simp
theorem atZ_set {L : List Int32} {i : Int} {v : Int32} {k : Nat} (h0 : 0 ≤ i) (h1 : i < L.length) : atZ (setZ L i v) (k : Int) = if (k : Int) = i then v else atZ L k := by
  rw [atZ_nat, atZ_nat]
  unfold setZ
  rw [if_pos h0, List.getD_eq_getElem?_getD, List.getD_eq_getElem?_getD, List.getElem?_set]
  by_cases e : (k : Int) = i
  · rw [if_pos e, if_pos (by omega), if_pos (by omega)]; rfl
  · rw [if_neg e, if_neg (by omega)]
theorem atZ_app {L M : List Int32} {k : Nat} : atZ (L ++ M) (k : Int) = if k < L.length then atZ L k else atZ M ((k - L.length : Nat) : Int) := by
  rw [atZ_nat, atZ_nat, atZ_nat, List.getD_eq_getElem?_getD, List.getD_eq_getElem?_getD, List.getD_eq_getElem?_getD]
  by_cases e : k < L.length
  · rw [if_pos e, List.getElem?_append_left e]
  · rw [if_neg e, List.getElem?_append_right (by omega)]
theorem atZ_erase {L : List Int32} {i k : Nat} : atZ (L.eraseIdx i) (k : Int) = if k < i then atZ L k else atZ L ((k + 1 : Nat) : Int) := by
  rw [atZ_nat, atZ_nat, atZ_nat, List.getD_eq_getElem?_getD, List.getD_eq_getElem?_getD, List.getD_eq_getElem?_getD, List.getElem?_eraseIdx]
  split <;> rfl
theorem cueW.le {s s' : aS} {a b c : Int32} (e : s.2.1.1.length ≤ s'.2.1.1.length) (h : cueW s a b c) : cueW s' a b c := by
  rcases h with h | ⟨h1, h2, h3⟩
  · exact Or.inl h
  · exact Or.inr ⟨h1, by omega, h3⟩
theorem rlW.le {s s' : aS} {r : aR} (e : s.2.1.1.length ≤ s'.2.1.1.length) (h : rlW s r) : rlW s' r := by
  obtain ⟨h1, h2, h3, h4, h5, h6, h7, h8⟩ := h
  exact ⟨h1, h2, h3, h4, h5, fun k hk => (h6 k hk).le e, h7, h8⟩
theorem sSet_2 {s : aS} {z : Int} {r : aR} : (sSet s z r).2 = s.2 := by unfold sSet; split <;> (try split) <;> rfl
theorem sR_set {s : aS} {z : Int} {r : aR} : sR (sSet s z r) z = r := by
  unfold sR sSet
  by_cases e : z = 0
  · simp [e]
  · by_cases e1 : z = 1
    · simp [e1]
    · simp [e, e1]
theorem stW.set {s : aS} {z : Int} {r : aR} (h : stW s) (hr : rlW s r) : stW (sSet s z r) := by
  have e2 : (sSet s z r).2 = s.2 := sSet_2
  have hle : ∀ {r' : aR}, rlW s r' → rlW (sSet s z r) r' := fun h => h.le (by rw [e2]; exact Nat.le_refl _)
  obtain ⟨h1, h2, h3, h4, h5, h6⟩ := h
  refine ⟨by unfold pcW; rw [e2]; exact h1, by unfold lwW; rw [e2]; exact h2, by rw [e2]; exact h3, ?_, ?_, ?_⟩
  · refine hle ?_
    unfold sSet
    split
    · exact hr
    · split <;> exact h4
  · refine hle ?_
    unfold sSet
    split
    · exact h5
    · split
      · exact hr
      · exact h5
  · refine hle ?_
    unfold sSet
    split
    · exact h6
    · split
      · exact h6
      · exact hr
theorem xW_now {x : aX} {s : aS} (h : xW x) (hs : stW s) : xW (xNow x s) := by
  obtain ⟨h1, h2, h3, h4, h5⟩ := h
  refine ⟨hs, fun u hu => ?_, ?_, h4, h5⟩
  · have hu : u ∈ xPush x := hu
    unfold xPush at hu
    rcases List.mem_append.mp hu with z | z
    · split at z
      · exact h2 u (List.mem_of_mem_tail z)
      · exact h2 u z
    · rw [List.mem_singleton.mp z]; exact h1
  · show (xPush x).length ≤ 6
    unfold xPush
    rw [List.length_append]
    show _ + 1 ≤ 6
    split
    · rw [List.length_tail]; omega
    · omega
theorem xW_set {x : aX} {r : Int32} {rr : aR} (h : xW x) (hr : rlW x.1 rr) : xW (xSet x r rr) := xW_now h (h.1.set hr)
theorem xW.r {x : aX} (h : xW x) (r : Int32) : rlW x.1 (xR x r) := h.1.r r.toInt
theorem pSet_mem {P : pL} {f v : Int32} {b : Int32 × Int32} (h : b ∈ pSet P f v) : b = (f, v) ∨ b ∈ P := by
  induction P with
  | nil => exact Or.inl (List.mem_singleton.mp h)
  | cons a r ih =>
    unfold pSet at h
    split at h
    · rcases List.mem_cons.mp h with e | e
      · rw [e]; exact Or.inr List.mem_cons_self
      · rcases ih e with e | e
        · exact Or.inl e
        · exact Or.inr (List.mem_cons_of_mem _ e)
    · split at h
      · rcases List.mem_cons.mp h with e | e
        · exact Or.inl e
        · exact Or.inr (List.mem_cons_of_mem _ e)
      · rcases List.mem_cons.mp h with e | e
        · exact Or.inl e
        · exact Or.inr e
theorem spW.set {P : pL} {f v : Int32} (h : spW P) (hf : inR f 0 9000) (hv : inR v 10 30) : spW (pSet P f v) := by
  obtain ⟨h1, ⟨u, R, h2⟩, h3⟩ := h
  refine ⟨pSet_srt h1, ?_, fun b hb => ?_⟩
  · subst h2
    unfold pSet
    split
    · exact ⟨u, _, rfl⟩
    · split
      · rename_i e; exact ⟨v, R, by rw [← e]⟩
      · rename_i n1 n2
        have : ¬ (0 : Int32).toInt < f.toInt := n1
        rw [ti_0] at this
        exact absurd (Int32.toInt_inj.mp (by rw [ti_0]; omega)) n2
  · rcases pSet_mem hb with e | e
    · rw [e]; exact ⟨hf.1, hf.2, hv.1, hv.2⟩
    · exact h3 b e
theorem slW.set {P : pL} {f v : Int32} (h : slW P) (hf : inR f 0 9000) (hv : inR v 0 50) (h0 : ¬ v = 0) : slW (pSet P f v) := fun b hb => by
  rcases pSet_mem hb with e | e
  · rw [e]
    have : v.toInt ≠ 0 := fun z => h0 (Int32.toInt_inj.mp (by rw [z]; rfl))
    exact ⟨hf.1, hf.2, by show 1 ≤ v.toInt; omega, hv.2⟩
  · exact h b e
theorem slW.del {P : pL} {f : Int32} (h : slW P) : slW (pDel P f) := fun b hb => h b (List.mem_filter.mp hb).1
theorem rlW.app {s : aS} {r : aR} {A B C E : List Int32} (h : rlW s r) (hl : r.1.length + A.length ≤ 10) (hB : B.length = A.length) (hC : C.length = A.length) (hE : E.length = A.length) (hA : ∀ x ∈ A, 1 ≤ x.toInt ∧ x.toInt ≤ 900) (hc : ∀ k : Nat, k < A.length → cueW s (atZ B k) (atZ C k) (atZ E k)) : rlW s (r.1 ++ A, r.2.1 ++ B, r.2.2.1 ++ C, r.2.2.2.1 ++ E, r.2.2.2.2) := by
  obtain ⟨h1, h2, h3, h4, h5, h6, h7, h8⟩ := h
  refine ⟨by simp only [List.length_append]; omega, by simp only [List.length_append]; omega, by simp only [List.length_append]; omega, by simp only [List.length_append]; omega, fun x hx => ?_, fun k hk => ?_, h7, h8⟩
  · rcases List.mem_append.mp hx with e | e
    · exact h5 x e
    · exact hA x e
  · have hk : k < (r.1 ++ A).length := hk
    rw [List.length_append] at hk
    show cueW s (atZ (r.2.1 ++ B) k) (atZ (r.2.2.1 ++ C) k) (atZ (r.2.2.2.1 ++ E) k)
    rw [atZ_app, atZ_app, atZ_app, h1, h2, h3]
    by_cases e : k < r.1.length
    · rw [if_pos e, if_pos e, if_pos e]; exact h6 k e
    · rw [if_neg e, if_neg e, if_neg e]; exact hc _ (by omega)
theorem rlW.cut {s : aS} {r : aR} {i : Nat} (h : rlW s r) (hi : i < r.1.length) : rlW s (rCut r i) := by
  obtain ⟨h1, h2, h3, h4, h5, h6, h7, h8⟩ := h
  have l1 := List.length_eraseIdx_of_lt hi
  have l2 := List.length_eraseIdx_of_lt (l := r.2.1) (show i < r.2.1.length by omega)
  have l3 := List.length_eraseIdx_of_lt (l := r.2.2.1) (show i < r.2.2.1.length by omega)
  have l4 := List.length_eraseIdx_of_lt (l := r.2.2.2.1) (show i < r.2.2.2.1.length by omega)
  refine ⟨by show (r.2.1.eraseIdx i).length = (r.1.eraseIdx i).length; omega, by show (r.2.2.1.eraseIdx i).length = (r.1.eraseIdx i).length; omega, by show (r.2.2.2.1.eraseIdx i).length = (r.1.eraseIdx i).length; omega, by show (r.1.eraseIdx i).length ≤ 10; omega, fun x hx => h5 x (List.mem_of_mem_eraseIdx hx), fun k hk => ?_, h7, h8⟩
  have hk : k < (r.1.eraseIdx i).length := hk
  show cueW s (atZ (r.2.1.eraseIdx i) k) (atZ (r.2.2.1.eraseIdx i) k) (atZ (r.2.2.2.1.eraseIdx i) k)
  rw [atZ_erase, atZ_erase, atZ_erase]
  by_cases e : k < i
  · rw [if_pos e, if_pos e, if_pos e]; exact h6 k (by omega)
  · rw [if_neg e, if_neg e, if_neg e]; exact h6 (k + 1) (by omega)
theorem rlW.cue {s : aS} {r : aR} {i : Int} {b c d : Int32} (h : rlW s r) (h0 : 0 ≤ i) (hi : i < r.1.length) (hc : cueW s b c d) : rlW s (rCue r i b c d) := by
  obtain ⟨h1, h2, h3, h4, h5, h6, h7, h8⟩ := h
  refine ⟨setZ_len.trans h1, setZ_len.trans h2, setZ_len.trans h3, h4, h5, fun k hk => ?_, h7, h8⟩
  have hk : k < r.1.length := hk
  show cueW s (atZ (setZ r.2.1 i b) k) (atZ (setZ r.2.2.1 i c) k) (atZ (setZ r.2.2.2.1 i d) k)
  rw [atZ_set h0 (by omega), atZ_set h0 (by omega), atZ_set h0 (by omega)]
  by_cases e : (k : Int) = i
  · rw [if_pos e, if_pos e, if_pos e]; exact hc
  · rw [if_neg e, if_neg e, if_neg e]; exact h6 k hk
theorem rlW.sp {s : aS} {r : aR} {P : pL} (h : rlW s r) (hP : spW P) : rlW s (rSp r P) := by
  obtain ⟨h1, h2, h3, h4, h5, h6, h7, h8⟩ := h
  exact ⟨h1, h2, h3, h4, h5, h6, hP, h8⟩
theorem rlW.sl {s : aS} {r : aR} {P : pL} (h : rlW s r) (hP : slW P) : rlW s (rSl r P) := by
  obtain ⟨h1, h2, h3, h4, h5, h6, h7, h8⟩ := h
  exact ⟨h1, h2, h3, h4, h5, h6, h7, hP⟩
/-- the best cue lies in its ranges -/
def cP (c : cT) : Prop := 1 ≤ c.1 ∧ c.1 ≤ 9 ∧ 80 ≤ c.2.1 ∧ c.2.1 ≤ 120 ∧ 0 ≤ c.2.2 ∧ c.2.2 ≤ 2000000
theorem cCons_P {c : cT} {n p d : Int} (h : cP c ∨ c.2.2 = 1000000000) (n1 : 1 ≤ n) (n9 : n ≤ 9) (p0 : 80 ≤ p) (p1 : p ≤ 120) (d0 : -2000000 ≤ d) (d1 : d ≤ 2000000) : cP (cCons c n p d) := by
  unfold cCons
  split
  · refine ⟨n1, n9, p0, p1, ?_, ?_⟩ <;> (show _ ≤ _; dsimp only; omega)
  · rcases h with h | h
    · exact h
    · omega
theorem bestT_P {s : aS} {i m : Int} (hp : pcW s) (hl : lwW s) (i0 : 0 ≤ i) (i1 : i < s.2.1.1.length) (m0 : -1000000 ≤ m) (m1 : m ≤ 1000000) : cP (bestT s i m) := by
  obtain ⟨x0, x1, x2, x3, x4, x5⟩ := pcW_at hp i0 i1
  obtain ⟨_, _, l0, l1⟩ := hl
  unfold bestT
  generalize hu : (atZ s.2.1.1 i).toInt + (atZ s.2.1.2.2 i).toInt = u
  generalize hst : (atZ s.2.1.2.1 i).toInt = st at x2 x3
  have hst' : ∀ (o n : Int) (c : cT), 0 ≤ o → o ≤ 20 → 1 ≤ n → n ≤ 9 → (cP c ∨ c.2.2 = 1000000000) → cP (cStep u st m c o n) := by
    intro o n c o0 o1 n1 n9 hc
    have r1 := cD_rng (u := u) (s := st) (m := m) (n := n) (p := 100 - o) (by omega) (by omega) (by omega) (by omega) m0 m1 (by omega) n9 (by omega)
    have r2 := cD_rng (u := u) (s := st) (m := m) (n := n) (p := 100 + o) (by omega) (by omega) (by omega) (by omega) m0 m1 (by omega) n9 (by omega)
    exact cCons_P (Or.inl (cCons_P hc n1 n9 (by omega) (by omega) (by omega) (by omega))) n1 n9 (by omega) (by omega) (by omega) (by omega)
  have htry : ∀ (o : Int) (c : cT), 0 ≤ o → o ≤ 20 → (cP c ∨ c.2.2 = 1000000000) → ∀ k : Nat, k < 9 → cP (cTry u st m c o (k + 1)) := by
    intro o c o0 o1 hc k
    induction k with
    | zero => intro _; exact hst' o _ c o0 o1 (by decide) (by decide) hc
    | succ k ih => intro hk; exact hst' o _ _ o0 o1 (by omega) (by omega) (Or.inl (ih (by omega)))
  have hs : ∀ k : Nat, k ≤ 20 → cP (cSrch u st m (0, 0, 1000000000) (k + 1)) := by
    intro k
    induction k with
    | zero => intro _; exact htry _ _ (by decide) (by decide) (Or.inr rfl) 8 (by decide)
    | succ k ih => intro hk; exact htry _ _ (by omega) (by omega) (Or.inl (ih (by omega))) 8 (by decide)
  exact hs _ (by omega)
theorem ti_ofInt {z : Int} (h0 : -2147483648 ≤ z) (h1 : z ≤ 2147483647) : (Int32.ofInt z).toInt = z := by
  rw [Int32.toInt_ofInt, show Int32.size = 4294967296 from rfl]
  exact Int.bmod_eq_of_le (by omega) (by omega)
theorem fitS_W {s : aS} {z : Int} {k : Nat} (h : stW s) (hk : k < (sR s z).1.length) (hc : ¬ atZ (sR s z).2.1 k = NN) : stW (fitS s z k).1 := by
  have hr := h.r z
  have hcr := cue_rng hr hk hc
  have hro := aRoom_rng h.1 hr (w := 0) (Or.inl rfl) hk
  have hb := bestT_P h.1 h.2.1 hcr.1 hcr.2.1 hro.1 hro.2
  refine h.set (hr.cue (by omega) (by omega) (Or.inr ⟨hcr.1, hcr.2.1, ?_⟩))
  rw [ti_ofInt (by have := hb.1; omega) (by have := hb.2.1; omega), ti_ofInt (by have := hb.2.2.1; omega) (by have := hb.2.2.2.1; omega)]
  exact ⟨hb.1, hb.2.1, hb.2.2.1, hb.2.2.2.1⟩
theorem fitS_1 {s : aS} {z : Int} {k : Nat} : (sR (fitS s z k).1 z).1 = (sR s z).1 := by
  show (sR (sSet s z _) z).1 = _
  rw [sR_set]; rfl
theorem fitN_W {s : aS} {z : Int} (h : stW s) : ∀ k : Nat, k ≤ (sR s z).1.length → stW (fitN s z k).1 ∧ (sR (fitN s z k).1 z).1 = (sR s z).1 ∧ (∀ j : Nat, k ≤ j → atZ (sR (fitN s z k).1 z).2.1 j = atZ (sR s z).2.1 j) ∧ 0 ≤ (fitN s z k).2 ∧ (fitN s z k).2 ≤ k
  | 0, _ => ⟨h, rfl, fun _ _ => rfl, Int.le_refl 0, Int.le_refl 0⟩
  | k + 1, hk => by
    obtain ⟨i1, i2, i3, i4, i5⟩ := fitN_W (z := z) h k (by omega)
    unfold fitN
    split
    · exact ⟨i1, i2, fun j hj => i3 j (by omega), i4, by omega⟩
    · rename_i hne
      have hne' : ¬ atZ (sR (fitN s z k).1 z).2.1 k = NN := by rw [i3 k (Nat.le_refl k)]; exact hne
      have hl : k < (sR (fitN s z k).1 z).1.length := by rw [i2]; omega
      have hd : (fitS (fitN s z k).1 z k).2 = 0 ∨ (fitS (fitN s z k).1 z k).2 = 1 := by
        unfold fitS
        dsimp only
        split
        · exact Or.inl rfl
        · exact Or.inr rfl
      refine ⟨fitS_W i1 hl hne', fitS_1.trans i2, fun j hj => ?_, ?_, ?_⟩
      · show atZ (sR (sSet _ z _) z).2.1 j = _
        rw [sR_set]
        show atZ (setZ (sR (fitN s z k).1 z).2.1 k _) j = _
        rw [atZ_set (by omega) (by have := (i1.r z).1; omega), if_neg (by omega)]
        exact i3 j (by omega)
      · show 0 ≤ (fitN s z k).2 + (fitS (fitN s z k).1 z k).2; omega
      · show (fitN s z k).2 + (fitS (fitN s z k).1 z k).2 ≤ _; omega
