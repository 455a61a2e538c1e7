/-! CueSheetsModel: rows of numbers that change, as values -/
theorem pm_at {α : Type} : ∀ (A : List α) (i : Nat) (h : i < A.length), A.Perm (A[i] :: A.eraseIdx i)
  | [], i, h => absurd h (Nat.not_lt_zero _)
  | a :: r, 0, h => List.Perm.refl _
  | a :: r, i + 1, h => by
    have := pm_at r i (Nat.lt_of_succ_lt_succ h)
    exact (this.cons a).trans (List.Perm.swap _ _ _)
theorem pm_set {α : Type} (y : α) : ∀ (A : List α) (i : Nat), i < A.length → (A.set i y).Perm (y :: A.eraseIdx i)
  | [], i, h => absurd h (Nat.not_lt_zero _)
  | a :: r, 0, h => List.Perm.refl _
  | a :: r, i + 1, h => by
    have := pm_set y r i (Nat.lt_of_succ_lt_succ h)
    exact (this.cons a).trans (List.Perm.swap _ _ _)
theorem pSrt_inj {P : pL} (hs : pSrt P) {x y : Int32 × Int32} (hx : x ∈ P) (hy : y ∈ P) (e : x.1 = y.1) : x = y := by
  obtain ⟨i, hi, rfl⟩ := List.getElem_of_mem hx
  obtain ⟨j, hj, rfl⟩ := List.getElem_of_mem hy
  have hp := List.pairwise_iff_getElem.mp hs
  rcases Nat.lt_trichotomy i j with g | g | g
  · have := hp i j hi hj g; rw [e] at this; omega
  · subst g; rfl
  · have := hp j i hj hi g; rw [e] at this; omega
theorem pos_key {P : pL} {f : Int32} (hs : pSrt P) (hf : pHas P f) : ∃ h : pPos P f < P.length, P[pPos P f].1 = f := by
  obtain ⟨h1, h2⟩ := (pPos_at hs).mpr hf
  refine ⟨h1, ?_⟩
  rw [(map_getD P _ h1).1] at h2
  exact h2
theorem zHl.has {Z : Nat → Int32} {b : Nat} {P : pL} {f : Int32} (h : zHl Z b P) : pHas P f ↔ ∃ i : Nat, i < P.length ∧ Z (b + 1 + 2 * i) = f := by
  constructor
  · intro hf
    obtain ⟨x, hx, e⟩ := List.mem_map.mp hf
    obtain ⟨i, hi, rfl⟩ := h.of hx
    exact ⟨i, hi, e⟩
  · rintro ⟨i, hi, e⟩
    exact List.mem_map.mpr ⟨_, h.mem hi, e⟩
theorem pSet_len {P : pL} {f v : Int32} (hs : pSrt P) : (pHas P f → (pSet P f v).length = P.length) ∧ (¬ pHas P f → (pSet P f v).length = P.length + 1) := by
  obtain ⟨h1, h2⟩ := pSet_eq (v := v) (f := f) hs
  refine ⟨fun h => by rw [h1 h, List.length_set], fun h => ?_⟩
  rw [h2 h, List.length_append, List.length_cons, List.length_take, List.length_drop]
  have := pPos_le P f
  omega
theorem zHl.hold {Z Z' : Nat → Int32} {b j : Nat} {P : pL} {f v : Int32} (h : zHl Z b P) (hs : pSrt P) (hj : j ≤ P.length) (h1 : ∀ i : Nat, i < j → ¬ Z (b + 1 + 2 * i) = f) (h2 : j < P.length → Z (b + 1 + 2 * j) = f) (h6 : (pSet P f v).length ≤ 6) (e0 : (Z' b).toInt = (Z b).toInt + (if j = P.length then 1 else 0)) (e1 : Z' (b + 1 + 2 * j) = f) (e2 : Z' (b + 1 + 2 * j + 1) = v) (e3 : ∀ i : Nat, i < P.length → ¬ i = j → Z' (b + 1 + 2 * i) = Z (b + 1 + 2 * i) ∧ Z' (b + 1 + 2 * i + 1) = Z (b + 1 + 2 * i + 1)) : zHl Z' b (pSet P f v) := by
  have hh := h.has (f := f)
  obtain ⟨h6', hs', W, hp, hn, hw⟩ := h
  have hl := hp.length_eq
  refine ⟨h6, pSet_srt hs, ?_⟩
  by_cases hc : j < P.length
  · have hf : pHas P f := hh.mpr ⟨j, hc, h2 hc⟩
    obtain ⟨k1, k2⟩ := pos_key hs hf
    have hjW : j < W.length := by omega
    have ew : W[j] = P[pPos P f] := by
      have e := hw j hjW
      rw [List.getElem?_eq_getElem hjW] at e
      have e := Option.some.inj e
      refine pSrt_inj hs (hp.mem_iff.mp (List.getElem_mem hjW)) (List.getElem_mem k1) ?_
      rw [e, k2]
      exact h2 hc
    refine ⟨W.set j (f, v), ?_, ?_, fun k hk => ?_⟩
    · rw [(pSet_eq (v := v) hs).1 hf]
      have a1 := pm_at W j hjW
      have a2 := pm_at P (pPos P f) k1
      rw [ew] at a1
      have a3 := (a1.symm.trans (hp.trans a2)).cons_inv
      exact (pm_set (f, v) W j hjW).trans ((a3.cons (f, v)).trans (pm_set (f, v) P _ k1).symm)
    · rw [e0, if_neg (by omega), List.length_set, hn]; omega
    · rw [List.length_set] at hk
      rw [List.getElem?_set]
      by_cases e : j = k
      · subst e
        rw [if_pos rfl, if_pos hjW, e1, e2]
      · rw [if_neg e]
        obtain ⟨g1, g2⟩ := e3 k (by omega) (fun z => e z.symm)
        rw [g1, g2]
        exact hw k hk
  · have hf : ¬ pHas P f := fun z => by
      obtain ⟨i, hi, e⟩ := hh.mp z
      exact h1 i (by omega) e
    refine ⟨W ++ [(f, v)], ?_, ?_, fun k hk => ?_⟩
    · rw [(pSet_eq (v := v) hs).2 hf]
      refine (List.perm_append_singleton _ _).trans ((hp.cons (f, v)).trans ?_)
      refine (List.Perm.trans ?_ List.perm_middle.symm)
      rw [List.take_append_drop]
    · rw [e0, if_pos (by omega), List.length_append, hn]; rfl
    · rw [List.length_append] at hk
      have hk : k < W.length + 1 := hk
      by_cases e : k < W.length
      · rw [List.getElem?_append_left e]
        obtain ⟨g1, g2⟩ := e3 k (by omega) (by omega)
        rw [g1, g2]
        exact hw k e
      · have : k = j := by omega
        subst this
        rw [List.getElem?_append_right (by omega), show k - W.length = 0 by omega, e1, e2]
        rfl
theorem zHl.drop {Z Z' : Nat → Int32} {b j : Nat} {P : pL} {f : Int32} (h : zHl Z b P) (hs : pSrt P) (hj : j < P.length) (h2 : Z (b + 1 + 2 * j) = f) (e0 : (Z' b).toInt = (Z b).toInt - 1) (e1 : ∀ i : Nat, i < j → Z' (b + 1 + 2 * i) = Z (b + 1 + 2 * i) ∧ Z' (b + 1 + 2 * i + 1) = Z (b + 1 + 2 * i + 1)) (e2 : ∀ i : Nat, j ≤ i → i + 1 < P.length → Z' (b + 1 + 2 * i) = Z (b + 1 + 2 * (i + 1)) ∧ Z' (b + 1 + 2 * i + 1) = Z (b + 1 + 2 * (i + 1) + 1)) : zHl Z' b (pDel P f) := by
  have hf : pHas P f := h.has.mpr ⟨j, hj, h2⟩
  obtain ⟨h6', hs', W, hp, hn, hw⟩ := h
  have hl := hp.length_eq
  obtain ⟨k1, k2⟩ := pos_key hs hf
  have hjW : j < W.length := by omega
  have ew : W[j] = P[pPos P f] := by
    have e := hw j hjW
    rw [List.getElem?_eq_getElem hjW] at e
    have e := Option.some.inj e
    refine pSrt_inj hs (hp.mem_iff.mp (List.getElem_mem hjW)) (List.getElem_mem k1) ?_
    rw [e, k2]
    exact h2
  have l1 := List.length_eraseIdx_of_lt hjW
  have l2 := List.length_eraseIdx_of_lt k1
  rw [(pDel_eq hs).1 hf]
  refine ⟨by omega, by rw [← (pDel_eq hs).1 hf]; exact pDel_srt hs, W.eraseIdx j, ?_, by rw [e0, l1, hn]; omega, fun k hk => ?_⟩
  · have a1 := pm_at W j hjW
    have a2 := pm_at P (pPos P f) k1
    rw [ew] at a1
    exact (a1.symm.trans (hp.trans a2)).cons_inv
  · rw [List.getElem?_eraseIdx]
    rw [l1] at hk
    by_cases e : k < j
    · rw [if_pos e, (e1 k e).1, (e1 k e).2]
      exact hw k (by omega)
    · rw [if_neg e, (e2 k (by omega) (by omega)).1, (e2 k (by omega) (by omega)).2]
      exact hw (k + 1) (by omega)
theorem zHl.cg {Z Z' : Nat → Int32} {b : Nat} {P : pL} (h : zHl Z b P) (e : ∀ i, b ≤ i → i < b + 13 → Z' i = Z i) : zHl Z' b P := by
  obtain ⟨h6, hs', W, hp, hn, hw⟩ := h
  have hl := hp.length_eq
  refine ⟨h6, hs', W, hp, by rw [e b (by omega) (by omega)]; exact hn, fun k hk => ?_⟩
  rw [e _ (by omega) (by omega), e _ (by omega) (by omega)]
  exact hw k hk
theorem zRl.cg {Z Z' : Nat → Int32} {b : Nat} {r : aR} (h : zRl Z b r) (h10 : r.1.length ≤ 10) (e : ∀ i, b ≤ i → i < b + 67 → Z' i = Z i) : zRl Z' b r := by
  obtain ⟨h1, h2, h3, h4⟩ := h
  refine ⟨by rw [e b (by omega) (by omega)]; exact h1, fun k hk => ?_, h3.cg (fun i a c => e i (by omega) (by omega)), h4.cg (fun i a c => e i (by omega) (by omega))⟩
  rw [e _ (by omega) (by omega), e _ (by omega) (by omega), e _ (by omega) (by omega), e _ (by omega) (by omega)]
  exact h2 k hk
theorem zPc.cg {Z Z' : Nat → Int32} {s : aS} (h : zPc Z s) (h8 : s.2.1.1.length ≤ 8) (e : ∀ i, 201 ≤ i → i < 226 → Z' i = Z i) : zPc Z' s := by
  obtain ⟨h1, h2⟩ := h
  refine ⟨by rw [e _ (by omega) (by omega)]; exact h1, fun k hk => ?_⟩
  rw [e _ (by omega) (by omega), e _ (by omega) (by omega), e _ (by omega) (by omega)]
  exact h2 k hk
theorem stW.n {s : aS} (h : stW s) (z : Int) : (sR s z).1.length ≤ 10 := (h.r z).2.2.2.1
theorem zIs.cg {Z Z' : Nat → Int32} {s : aS} (h : zIs Z s) (hW : stW s) (e : ∀ i, i < 231 → Z' i = Z i) : zIs Z' s := by
  obtain ⟨h1, h2, h3, h4, h5, h6⟩ := h
  exact ⟨h1.cg (hW.n 0) (fun i _ b => e i (by omega)), h2.cg (hW.n 1) (fun i _ b => e i (by omega)), h3.cg (hW.n 2) (fun i _ b => e i (by omega)), h4.cg hW.2.2.1 (fun i _ b => e i (by omega)), by rw [e _ (by omega)]; exact h5, by rw [e _ (by omega)]; exact h6⟩
/-- one reel changed -/
theorem zIs.set {Z Z' : Nat → Int32} {s : aS} {z : Nat} {rr : aR} (h : zIs Z s) (hW : stW s) (hz : z < 3) (e : ∀ i, (i < 67 * z ∨ 67 * z + 67 ≤ i) → Z' i = Z i) (hr : zRl Z' (67 * z) rr) : zIs Z' (sSet s z rr) := by
  obtain ⟨h1, h2, h3, h4, h5, h6⟩ := h
  have g1 : z ≠ 0 → zRl Z' 0 s.1.1 := fun hz => h1.cg (hW.n 0) (fun i _ b => e i (by omega))
  have g2 : z ≠ 1 → zRl Z' 67 s.1.2.1 := fun hz => h2.cg (hW.n 1) (fun i _ b => e i (by omega))
  have g3 : z ≠ 2 → zRl Z' 134 s.1.2.2 := fun hz => h3.cg (hW.n 2) (fun i _ b => e i (by omega))
  have g4 := h4.cg hW.2.2.1 (fun i a b => e i (by omega))
  have g5 := h5
  rw [← e 226 (by omega)] at g5
  have g6 := h6
  rw [← e 227 (by omega)] at g6
  rcases (show z = 0 ∨ z = 1 ∨ z = 2 by omega) with rfl | rfl | rfl
  · exact ⟨hr, g2 (by omega), g3 (by omega), g4, g5, g6⟩
  · exact ⟨g1 (by omega), hr, g3 (by omega), g4, g5, g6⟩
  · exact ⟨g1 (by omega), g2 (by omega), hr, g4, g5, g6⟩
theorem atZ_sing {a : Int32} : atZ [a] 0 = a := rfl
theorem isCue_app {A B C E : List Int32} {P Q : pL} {k : Nat} {b : Int32} (h : k < B.length) : isCue (A, B ++ [b], C, E, P, Q) k ↔ isCue (A, B, C, E, P, Q) k := by
  show ¬ atZ (B ++ [b]) k = _ ↔ ¬ atZ B k = _
  rw [atZ_app, if_pos h]
theorem zRl.ext {Z Z' : Nat → Int32} {b : Nat} {s : aS} {r : aR} {a1 a2 a3 a4 : Int32} (h : zRl Z b r) (hW : rlW s r) (h10 : r.1.length < 10) (e0 : (Z' b).toInt = (Z b).toInt + 1) (e1 : Z' (b + 1 + 4 * r.1.length + 0) = a1) (e2 : Z' (b + 1 + 4 * r.1.length + 1) = a2) (e3 : Z' (b + 1 + 4 * r.1.length + 2) = a3) (e4 : Z' (b + 1 + 4 * r.1.length + 3) = a4) (e : ∀ i, ¬ i = b → (i < b + 1 + 4 * r.1.length ∨ b + 1 + 4 * r.1.length + 4 ≤ i) → Z' i = Z i) : zRl Z' b (rExt r a1 a2 a3 a4) := by
  obtain ⟨h1, h2, h3, h4⟩ := h
  obtain ⟨w1, w2, w3, -⟩ := hW
  refine ⟨?_, fun k hk => ?_, h3.cg (fun i a c => e i (by omega) (by omega)), h4.cg (fun i a c => e i (by omega) (by omega))⟩
  · show (Z' b).toInt = ((r.1 ++ [a1]).length : Nat)
    rw [e0, h1, List.length_append]; rfl
  · have hk : k < (r.1 ++ [a1]).length := hk
    rw [List.length_append] at hk
    have hk : k < r.1.length + 1 := hk
    show Z' (b + 1 + 4 * k + 0) = atZ (r.1 ++ [a1]) k ∧ Z' (b + 1 + 4 * k + 1) = atZ (r.2.1 ++ [a2]) k ∧ (¬ atZ (r.2.1 ++ [a2]) k = -2000001 → Z' (b + 1 + 4 * k + 2) = atZ (r.2.2.1 ++ [a3]) k ∧ Z' (b + 1 + 4 * k + 3) = atZ (r.2.2.2.1 ++ [a4]) k)
    rw [atZ_app, atZ_app, atZ_app, atZ_app, w1, w2, w3]
    by_cases g : k < r.1.length
    · rw [if_pos g, if_pos g, if_pos g, if_pos g, e _ (by omega) (by omega), e _ (by omega) (by omega), e _ (by omega) (by omega), e _ (by omega) (by omega)]
      exact h2 k g
    · have : k = r.1.length := by omega
      subst this
      rw [if_neg g, if_neg g, if_neg g, if_neg g, Nat.sub_self]
      exact ⟨e1, e2, fun _ => ⟨e3, e4⟩⟩
theorem zRl.cut {Z Z' : Nat → Int32} {b i : Nat} {s : aS} {r : aR} (h : zRl Z b r) (hW : rlW s r) (hi : i < r.1.length) (e0 : (Z' b).toInt = (Z b).toInt - 1) (e1 : ∀ t, b + 1 ≤ t → t < b + 1 + 4 * i → Z' t = Z t) (e2 : ∀ t, b + 1 + 4 * i ≤ t → t < b + 1 + 4 * (r.1.length - 1) → Z' t = Z (t + 4)) (e3 : ∀ t, b + 1 + 4 * (r.1.length - 1) ≤ t → Z' t = Z t) : zRl Z' b (rCut r i) := by
  obtain ⟨h1, h2, h3, h4⟩ := h
  obtain ⟨w1, w2, w3, w4, -⟩ := hW
  have l1 := List.length_eraseIdx_of_lt hi
  refine ⟨?_, fun k hk => ?_, h3.cg (fun i a c => e3 i (by omega)), h4.cg (fun i a c => e3 i (by omega))⟩
  · show (Z' b).toInt = ((r.1.eraseIdx i).length : Nat)
    rw [e0, h1, l1]; omega
  · have hk : k < (r.1.eraseIdx i).length := hk
    rw [l1] at hk
    show Z' (b + 1 + 4 * k + 0) = atZ (r.1.eraseIdx i) k ∧ Z' (b + 1 + 4 * k + 1) = atZ (r.2.1.eraseIdx i) k ∧ (¬ atZ (r.2.1.eraseIdx i) k = -2000001 → Z' (b + 1 + 4 * k + 2) = atZ (r.2.2.1.eraseIdx i) k ∧ Z' (b + 1 + 4 * k + 3) = atZ (r.2.2.2.1.eraseIdx i) k)
    rw [atZ_erase, atZ_erase, atZ_erase, atZ_erase]
    by_cases g : k < i
    · rw [if_pos g, if_pos g, if_pos g, if_pos g, e1 _ (by omega) (by omega), e1 _ (by omega) (by omega), e1 _ (by omega) (by omega), e1 _ (by omega) (by omega)]
      exact h2 k (by omega)
    · rw [if_neg g, if_neg g, if_neg g, if_neg g, e2 _ (by omega) (by omega), e2 _ (by omega) (by omega), e2 _ (by omega) (by omega), e2 _ (by omega) (by omega)]
      have := h2 (k + 1) (by omega)
      rw [show b + 1 + 4 * k + 0 + 4 = b + 1 + 4 * (k + 1) + 0 by omega, show b + 1 + 4 * k + 1 + 4 = b + 1 + 4 * (k + 1) + 1 by omega, show b + 1 + 4 * k + 2 + 4 = b + 1 + 4 * (k + 1) + 2 by omega, show b + 1 + 4 * k + 3 + 4 = b + 1 + 4 * (k + 1) + 3 by omega]
      exact this
theorem zRl.cue {Z Z' : Nat → Int32} {b i : Nat} {s : aS} {r : aR} {a2 a3 a4 : Int32} (h : zRl Z b r) (hW : rlW s r) (hi : i < r.1.length) (e2 : Z' (b + 1 + 4 * i + 1) = a2) (e3 : ¬ a2 = -2000001 → Z' (b + 1 + 4 * i + 2) = a3 ∧ Z' (b + 1 + 4 * i + 3) = a4) (e : ∀ t, ¬ t = b + 1 + 4 * i + 1 → ¬ t = b + 1 + 4 * i + 2 → ¬ t = b + 1 + 4 * i + 3 → Z' t = Z t) : zRl Z' b (rCue r i a2 a3 a4) := by
  obtain ⟨h1, h2, h3, h4⟩ := h
  obtain ⟨w1, w2, w3, w4, -⟩ := hW
  refine ⟨by rw [e _ (by omega) (by omega) (by omega)]; exact h1, fun k hk => ?_, h3.cg (fun i a c => e i (by omega) (by omega) (by omega)), h4.cg (fun i a c => e i (by omega) (by omega) (by omega))⟩
  have hk : k < r.1.length := hk
  show Z' (b + 1 + 4 * k + 0) = atZ r.1 k ∧ Z' (b + 1 + 4 * k + 1) = atZ (setZ r.2.1 i a2) k ∧ (¬ atZ (setZ r.2.1 i a2) k = -2000001 → Z' (b + 1 + 4 * k + 2) = atZ (setZ r.2.2.1 i a3) k ∧ Z' (b + 1 + 4 * k + 3) = atZ (setZ r.2.2.2.1 i a4) k)
  rw [atZ_set (by omega) (by omega), atZ_set (by omega) (by omega), atZ_set (by omega) (by omega)]
  by_cases g : k = i
  · subst g
    rw [if_pos rfl, if_pos rfl, if_pos rfl, e _ (by omega) (by omega) (by omega)]
    exact ⟨(h2 k hk).1, e2, e3⟩
  · rw [if_neg (by omega), if_neg (by omega), if_neg (by omega), e _ (by omega) (by omega) (by omega), e _ (by omega) (by omega) (by omega), e _ (by omega) (by omega) (by omega), e _ (by omega) (by omega) (by omega)]
    exact h2 k hk
theorem zRl.sp {Z Z' : Nat → Int32} {b : Nat} {r : aR} {P : pL} (h : zRl Z b r) (h10 : r.1.length ≤ 10) (e : ∀ t, (t < b + 41 ∨ b + 54 ≤ t) → Z' t = Z t) (hP : zHl Z' (b + 41) P) : zRl Z' b (rSp r P) := by
  obtain ⟨h1, h2, h3, h4⟩ := h
  refine ⟨by rw [e _ (by omega)]; exact h1, fun k hk => ?_, hP, h4.cg (fun i a c => e i (by omega))⟩
  have hk : k < r.1.length := hk
  rw [e _ (by omega), e _ (by omega), e _ (by omega), e _ (by omega)]
  exact h2 k hk
theorem zRl.sl {Z Z' : Nat → Int32} {b : Nat} {r : aR} {P : pL} (h : zRl Z b r) (h10 : r.1.length ≤ 10) (e : ∀ t, (t < b + 54 ∨ b + 67 ≤ t) → Z' t = Z t) (hP : zHl Z' (b + 54) P) : zRl Z' b (rSl r P) := by
  obtain ⟨h1, h2, h3, h4⟩ := h
  refine ⟨by rw [e _ (by omega)]; exact h1, fun k hk => ?_, h3.cg (fun i a c => e i (by omega)), hP⟩
  have hk : k < r.1.length := hk
  rw [e _ (by omega), e _ (by omega), e _ (by omega), e _ (by omega)]
  exact h2 k hk
/-- the model's numbers changed -/
theorem moIs.z {T : jT} {V V' : jV} {q : Nat} {x : aX} {s : aS} (h : moIs T V q x) (ha : jAg V V' (q + 1) (q + 2)) (hz : zIs (V' (q + 1)) s) : moIs T V' q (s, x.2) := by
  obtain ⟨h1, h2, h3, h4, h5⟩ := h
  exact ⟨h1, hz, by rw [ha (q + 2) (by omega), ha q (by omega)]; exact h3, by rw [ha q (by omega)]; exact h4, by rw [ha (q + 3) (by omega)]; exact h5⟩
theorem moIs.f {T : jT} {V : jV} {q k : Nat} {x : aX} {v : Int32} (h : moIs T V q x) (h2 : ¬ k = 2) (h4 : ¬ k = 4) : moIs T (jset V q k v) q x := by
  obtain ⟨a1, a2, a3, a4, a5⟩ := h
  have e1 : jset V q k v (q + 1) = V (q + 1) := jset_row (by omega)
  have e2 : jset V q k v (q + 2) = V (q + 2) := jset_row (by omega)
  have e3 : jset V q k v (q + 3) = V (q + 3) := jset_row (by omega)
  have e4 : jset V q k v q 2 = V q 2 := jset_ne (Or.inr (fun z => h2 z.symm))
  have e5 : jset V q k v q 4 = V q 4 := jset_ne (Or.inr (fun z => h4 z.symm))
  exact ⟨a1, by rw [e1]; exact a2, by rw [e2, e4]; exact a3, by rw [e5]; exact a4, by rw [e3]; exact a5⟩
/-- what a public method of the model answers -/
def mC (T : jT) (V : jV) (X : jX) (sz q : Nat) (e : Nat) (P : Int32 → Prop) (x x' : aX) : jQ := qI T X sz (fun r V' => jAg V V' q (q + 9) ∧ isI (V' q 0) e ∧ (e = 0 → P r ∧ moIs T V' q x') ∧ (¬ e = 0 → moIs T V' q x))
