/-! every call keeps what is in its ranges -/
def xBeg : aX := (st0, [], [])
theorem xW_x0 : xW xBeg := by
  have hr : rlW st0 rl0 := ⟨rfl, rfl, rfl, by decide, fun x h => (by cases h), fun k h => absurd h (Nat.not_lt_zero _), ⟨List.pairwise_singleton _ _, ⟨16, [], rfl⟩, fun b hb => by rw [List.mem_singleton.mp hb]; decide⟩, fun b hb => (by cases hb)⟩
  exact ⟨⟨⟨rfl, rfl, fun x h => (by cases h), fun x h => (by cases h), fun x h => (by cases h)⟩, ⟨by decide, by decide, by decide, by decide⟩, by decide, hr, hr, hr⟩, fun u h => (by cases h), by decide, by decide, fun c h => (by cases h)⟩
theorem xw_add {x : aX} {r len : Int32} (h : xW x) (he : e_add x r len = 0) : xW (s_add x r len) := by
  unfold e_add at he
  split at he
  · cases he
  · split at he
    · cases he
    · split at he
      · cases he
      · rename_i a b c
        have b := Classical.not_not.mp b
        refine xW_set h ((h.r r).app (A := [len]) (B := [NN]) (C := [0]) (E := [0]) (by show _ + 1 ≤ 10; omega) rfl rfl rfl (fun x hx => by rw [List.mem_singleton.mp hx]; exact b) (fun k hk => ?_))
        have hk : k < 1 := hk
        have : k = 0 := by omega
        subst this
        exact Or.inl ⟨rfl, rfl, rfl⟩
theorem xw_rem {x : aX} {r s : Int32} (h : xW x) (he : e_rem x r s = 0) : xW (s_rem x r s) := by
  unfold e_rem at he
  split at he
  · cases he
  · rename_i a
    have a := Classical.not_not.mp a
    exact xW_set h ((h.r r).cut (by have := a.2; omega))
theorem xw_crank {x : aX} {r f v : Int32} (h : xW x) (he : e_crank x r f v = 0) : xW (s_crank x r f v) := by
  unfold e_crank at he
  split at he
  · cases he
  · split at he
    · cases he
    · rename_i a b
      have b := Classical.not_not.mp b
      exact xW_set h ((h.r r).sp ((h.r r).2.2.2.2.2.2.1.set b.1 b.2))
theorem xw_spl {x : aX} {r f v : Int32} (h : xW x) (he : e_spl x r f v = 0) : xW (s_spl x r f v) := by
  unfold e_spl at he
  split at he
  · cases he
  · split at he
    · cases he
    · rename_i a b
      have b := Classical.not_not.mp b
      refine xW_set h ((h.r r).sl ?_)
      unfold xSpl
      split
      · exact (h.r r).2.2.2.2.2.2.2.del
      · rename_i hv
        exact (h.r r).2.2.2.2.2.2.2.set b.1 b.2 hv
theorem xw_pc {x : aX} {o s c : Int32} (h : xW x) (he : e_pc x o s c = 0) : xW (s_pc x o s c) := by
  unfold e_pc at he
  split at he
  · cases he
  · split at he
    · cases he
    · rename_i a b
      obtain ⟨a1, a2, a3⟩ := Classical.not_not.mp a
      obtain ⟨⟨p1, p2, p3, p4, p5⟩, hl, h8, r1, r2, r3⟩ := h.1
      have le : x.1.2.1.1.length ≤ (x.1.2.1.1 ++ [o]).length := by rw [List.length_append]; omega
      refine xW_now h ⟨⟨?_, ?_, fun y hy => ?_, fun y hy => ?_, fun y hy => ?_⟩, hl, ?_, r1.le le, r2.le le, r3.le le⟩
      · show (x.1.2.1.2.1 ++ [s]).length = (x.1.2.1.1 ++ [o]).length
        rw [List.length_append, List.length_append, p1]; rfl
      · show (x.1.2.1.2.2 ++ [c]).length = (x.1.2.1.1 ++ [o]).length
        rw [List.length_append, List.length_append, p2]; rfl
      · rcases List.mem_append.mp hy with z | z
        · exact p3 y z
        · rw [List.mem_singleton.mp z]; exact a1
      · rcases List.mem_append.mp hy with z | z
        · exact p4 y z
        · rw [List.mem_singleton.mp z]; exact a2
      · rcases List.mem_append.mp hy with z | z
        · exact p5 y z
        · rw [List.mem_singleton.mp z]; exact a3
      · show (x.1.2.1.1 ++ [o]).length ≤ 8
        rw [List.length_append]
        show _ + 1 ≤ 8
        omega
theorem xw_cue {x : aX} {r s p k a : Int32} (h : xW x) (he : e_cue x r s p k a = 0) : xW (s_cue x r s p k a) := by
  unfold e_cue at he
  split at he
  · cases he
  · split at he
    · cases he
    · rename_i a1 b1
      obtain ⟨c1, c2⟩ := Classical.not_not.mp a1
      obtain ⟨d1, d2⟩ := Classical.not_not.mp b1
      refine xW_set h ?_
      split
      · exact (h.r r).cue c1.2.1 (by have := c1.2.2; omega) (Or.inl ⟨rfl, rfl, rfl⟩)
      · rename_i hp
        have c3 := c2.resolve_left hp
        exact (h.r r).cue c1.2.1 (by have := c1.2.2; omega) (Or.inr ⟨c3.1, c3.2, d1.1, d1.2, d2.1, d2.2⟩)
theorem xw_fit {x : aX} {r : Int32} (h : xW x) : xW (s_fit x r) := xW_now h (fitN_W h.1 (z := r.toInt) (xR x r).1.length (Nat.le_refl _)).1
theorem xw_set {x : aX} {t l : Int32} (h : xW x) (he : e_set t l = 0) : xW (s_set x t l) := by
  unfold e_set at he
  split at he
  · cases he
  · rename_i a
    obtain ⟨a1, a2⟩ := Classical.not_not.mp a
    obtain ⟨p, hl, h8, r1, r2, r3⟩ := h.1
    exact xW_now h ⟨p, ⟨a1.1, a1.2, a2.1, a2.2⟩, h8, r1.le (Nat.le_refl _), r2.le (Nat.le_refl _), r3.le (Nat.le_refl _)⟩
