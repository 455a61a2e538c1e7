/-! CueSheets$Marks: feet in rising order, each with a number; feet in the row at q + 1, numbers in the row at q + 3 -/
abbrev pL : Type := List (Int32 × Int32)
def pSrt (P : pL) : Prop := P.Pairwise (fun a b => a.1.toInt < b.1.toInt)
/-- how many feet lie ahead of f -/
def pPos : pL → Int32 → Nat
  | [], _ => 0
  | a :: r, f => if a.1.toInt < f.toInt then pPos r f + 1 else 0
/-- with f's number set -/
def pSet : pL → Int32 → Int32 → pL
  | [], f, v => [(f, v)]
  | a :: r, f, v => if a.1.toInt < f.toInt then a :: pSet r f v else if a.1 = f then (f, v) :: r else (f, v) :: a :: r
def pDel (P : pL) (f : Int32) : pL := P.filter (fun a => !(a.1 == f))
def pHas (P : pL) (f : Int32) : Prop := f ∈ P.map Prod.fst
/-- the number that holds at f: of the last foot that is at most f -/
def pHoldF (x : Int32) : pL → Int → Int32
  | [], _ => x
  | a :: r, f => if a.1.toInt ≤ f then pHoldF a.2 r f else pHoldF x r f
def pHold (P : pL) (f : Int) : Int32 := pHoldF 0 P f
def MkOK (T : jT) (V : jV) (q : Nat) (P : pL) : Prop := T q = some (kMarks (q + 1) (q + 3)) ∧ RowOK T V (q + 1) 6 ∧ RowOK T V (q + 3) 6 ∧ Rw V (q + 1) = P.map Prod.fst ∧ Rw V (q + 3) = P.map Prod.snd ∧ pSrt P
theorem pPos_le (P : pL) (f : Int32) : pPos P f ≤ P.length := by
  induction P with
  | nil => exact Nat.le_refl _
  | cons a r ih => unfold pPos; split <;> simp <;> omega
theorem MkOK.len {T : jT} {V : jV} {q : Nat} {P : pL} (h : MkOK T V q P) : P.length ≤ 6 := by
  have := h.2.1.le
  rw [h.2.2.2.1, List.length_map] at this
  exact this
theorem MkOK.ag {T : jT} {V V' : jV} {q lo hi : Nat} {P : pL} (h : MkOK T V q P) (ha : jAg V V' lo hi) (hd : q + 5 ≤ lo ∨ hi ≤ q) : MkOK T V' q P :=
  ⟨h.1, h.2.1.ag ha (by omega), h.2.2.1.ag ha (by omega), by rw [Rw_ag ha (by omega)]; exact h.2.2.2.1, by rw [Rw_ag ha (by omega)]; exact h.2.2.2.2.1, h.2.2.2.2.2⟩
theorem pPos_at {P : pL} {f : Int32} (hs : pSrt P) : (pPos P f < P.length ∧ (P.map Prod.fst).getD (pPos P f) 0 = f) ↔ pHas P f := by
  induction P with
  | nil => simp [pPos, pHas]
  | cons a r ih =>
    have hs' := List.pairwise_cons.mp hs
    unfold pPos
    by_cases h : a.1.toInt < f.toInt
    · rw [if_pos h]
      have hne : ¬ f = a.1 := fun e => by rw [e] at h; omega
      have := ih hs'.2
      simp [pHas, hne] at this ⊢
      exact this
    · rw [if_neg h]
      simp only [List.map_cons, List.length_cons, List.getD_cons_zero, pHas, List.mem_cons]
      constructor
      · rintro ⟨-, e⟩; exact Or.inl e.symm
      · rintro (e | e)
        · exact ⟨by omega, e.symm⟩
        · obtain ⟨b, hb, e⟩ := List.mem_map.mp e
          have := hs'.1 b hb
          rw [e] at this
          omega
theorem pSet_eq {P : pL} {f v : Int32} (hs : pSrt P) : (pHas P f → pSet P f v = P.set (pPos P f) (f, v)) ∧ (¬ pHas P f → pSet P f v = P.take (pPos P f) ++ (f, v) :: P.drop (pPos P f)) := by
  induction P with
  | nil => exact ⟨fun h => by simp [pHas] at h, fun _ => rfl⟩
  | cons a r ih =>
    have hs' := List.pairwise_cons.mp hs
    obtain ⟨i1, i2⟩ := ih hs'.2
    unfold pSet pPos
    by_cases h : a.1.toInt < f.toInt
    · have hne : ¬ f = a.1 := fun e => by rw [e] at h; omega
      rw [if_pos h, if_pos h]
      refine ⟨fun hh => ?_, fun hh => ?_⟩
      · have : pHas r f := by simpa [pHas, hne] using hh
        rw [i1 this]; rfl
      · have : ¬ pHas r f := by simpa [pHas, hne] using hh
        rw [i2 this]; rfl
    · rw [if_neg h, if_neg h]
      by_cases e : a.1 = f
      · rw [if_pos e]
        exact ⟨fun _ => rfl, fun hh => absurd (by simp [pHas, e]) hh⟩
      · rw [if_neg e]
        refine ⟨fun hh => ?_, fun _ => rfl⟩
        simp only [pHas, List.map_cons, List.mem_cons] at hh
        rcases hh with hh | hh
        · exact absurd hh.symm e
        · obtain ⟨b, hb, e'⟩ := List.mem_map.mp hh
          have := hs'.1 b hb
          rw [e'] at this
          omega
theorem pDel_eq {P : pL} {f : Int32} (hs : pSrt P) : (pHas P f → pDel P f = P.eraseIdx (pPos P f)) ∧ (¬ pHas P f → pDel P f = P) := by
  induction P with
  | nil => exact ⟨fun h => by simp [pHas] at h, fun _ => rfl⟩
  | cons a r ih =>
    have hs' := List.pairwise_cons.mp hs
    obtain ⟨i1, i2⟩ := ih hs'.2
    by_cases h : a.1.toInt < f.toInt
    · have hne : ¬ f = a.1 := fun e => by rw [e] at h; omega
      have e1 : pDel (a :: r) f = a :: pDel r f := by simp [pDel, Ne.symm hne]
      have e2 : pPos (a :: r) f = pPos r f + 1 := if_pos h
      rw [e1, e2]
      refine ⟨fun hh => ?_, fun hh => ?_⟩
      · have : pHas r f := by simpa [pHas, hne] using hh
        rw [i1 this]; rfl
      · have : ¬ pHas r f := by simpa [pHas, hne] using hh
        rw [i2 this]
    · have e2 : pPos (a :: r) f = 0 := if_neg h
      have hr : pDel r f = r := by
        rw [pDel, List.filter_eq_self]
        intro b hb
        have := hs'.1 b hb
        have : ¬ b.1 = f := fun e => by rw [e] at this; omega
        simp [this]
      rw [e2]
      by_cases e : a.1 = f
      · refine ⟨fun _ => ?_, fun hh => absurd (by simp [pHas, e]) hh⟩
        have : pDel (a :: r) f = pDel r f := by simp [pDel, e]
        rw [this, hr]; rfl
      · refine ⟨fun hh => ?_, fun _ => ?_⟩
        · simp only [pHas, List.map_cons, List.mem_cons] at hh
          rcases hh with hh | hh
          · exact absurd hh.symm e
          · obtain ⟨b, hb, e'⟩ := List.mem_map.mp hh
            have := hs'.1 b hb
            rw [e'] at this
            omega
        · have : pDel (a :: r) f = a :: pDel r f := by simp [pDel, e]
          rw [this, hr]
theorem pSet_srt {P : pL} {f v : Int32} (hs : pSrt P) : pSrt (pSet P f v) := by
  have key : ∀ P : pL, pSrt P → pSrt (pSet P f v) ∧ ∀ x : Int32, x.toInt < f.toInt → (∀ b ∈ P, x.toInt < b.1.toInt) → ∀ b ∈ pSet P f v, x.toInt < b.1.toInt := by
    intro P
    induction P with
    | nil =>
      intro _
      refine ⟨List.pairwise_singleton _ _, fun x hx _ b hb => ?_⟩
      rw [List.mem_singleton.mp hb]; exact hx
    | cons a r ih =>
      intro hs
      have hs' := List.pairwise_cons.mp hs
      obtain ⟨i1, i2⟩ := ih hs'.2
      unfold pSet
      by_cases h : a.1.toInt < f.toInt
      · rw [if_pos h]
        refine ⟨List.pairwise_cons.mpr ⟨i2 a.1 h hs'.1, i1⟩, fun x hx hb b hbm => ?_⟩
        rcases List.mem_cons.mp hbm with rfl | hbm
        · exact hb _ List.mem_cons_self
        · exact i2 x hx (fun b hb' => hb b (List.mem_cons_of_mem _ hb')) b hbm
      · rw [if_neg h]
        by_cases e : a.1 = f
        · rw [if_pos e]
          refine ⟨List.pairwise_cons.mpr ⟨fun b hb => by have := hs'.1 b hb; rw [e] at this; exact this, hs'.2⟩, fun x hx hb b hbm => ?_⟩
          rcases List.mem_cons.mp hbm with rfl | hbm
          · exact hx
          · exact hb b (List.mem_cons_of_mem _ hbm)
        · rw [if_neg e]
          have hlt : f.toInt < a.1.toInt := by
            have : f.toInt ≠ a.1.toInt := fun z => e (Int32.toInt_inj.mp z).symm
            omega
          refine ⟨List.pairwise_cons.mpr ⟨fun b hb => ?_, hs⟩, fun x hx hb b hbm => ?_⟩
          · rcases List.mem_cons.mp hb with rfl | hb
            · exact hlt
            · have := hs'.1 b hb; show f.toInt < b.1.toInt; omega
          · rcases List.mem_cons.mp hbm with rfl | hbm
            · exact hx
            · exact hb b hbm
  exact (key P hs).1
theorem pDel_srt {P : pL} {f : Int32} (hs : pSrt P) : pSrt (pDel P f) := List.Pairwise.filter _ hs
theorem pHoldF_hi {x : Int32} {P : pL} {f : Int} (h : ∀ b ∈ P, f < b.1.toInt) : pHoldF x P f = x := by
  induction P with
  | nil => rfl
  | cons a r ih =>
    unfold pHoldF
    rw [if_neg (by have := h a List.mem_cons_self; omega)]
    exact ih fun b hb => h b (List.mem_cons_of_mem _ hb)
theorem map_getD (P : pL) (i : Nat) (h : i < P.length) : (P.map Prod.fst).getD i 0 = P[i].1 ∧ (P.map Prod.snd).getD i 0 = P[i].2 := by
  simp [List.getD_eq_getElem?_getD, h]
theorem map_erase {α β : Type} (g : α → β) : ∀ (l : List α) (k : Nat), (l.map g).eraseIdx k = (l.eraseIdx k).map g
  | [], _ => rfl
  | _ :: _, 0 => rfl
  | a :: r, k + 1 => by simp [map_erase g r k]
theorem pPos_cons (a : Int32 × Int32) (r : pL) (f : Int32) : pPos (a :: r) f = if a.1.toInt < f.toInt then pPos r f + 1 else 0 := rfl
theorem set_self {l : List Int32} {k : Nat} {x : Int32} (h : k < l.length) (e : l.getD k 0 = x) : l.set k x = l := by
  apply List.ext_getElem?
  intro j
  rw [List.getElem?_set]
  by_cases hj : k = j
  · subst hj
    rw [List.getD_eq_getElem?_getD, List.getElem?_eq_getElem h] at e
    simp at e
    simp [h, e]
  · simp [hj]
section JMarks
variable {l : Launch} {s0 : State} {D : jD} {T : jT} {V : jV} {X : jX} {sz : Nat}
set_option maxRecDepth 100000 in
set_option maxHeartbeats 4000000 in
theorem sp_X1_size (hB : jB l s0 D) {q : Nat} {P : pL} (h : MkOK T V q P) : Sp l s0 D kX1_size (jR 1 0 0) 0 0 [.ref q] T V X sz (qI T X sz (fun r V' => V = V' ∧ r.toInt = P.length)) := by
  refine Sp.of pn_X1_size rfl (Nat.le_of_ble_eq_true rfl) ?_
  refine j_aload_n dX1_size_0 rfl ?_
  refine j_getr dX1_size_1 hB fl_X1_14 (by first | exact h.1 | exact h.2.1.1 | exact h.2.2.1.1) (by rfl) ?_
  refine j_cVi dX1_size_4 hB mo_X3_size ml_X1_23 (sp_X3_size hB h.2.1) (by first | exact h.1 | exact h.2.1.1 | exact h.2.2.1.1) rfl rfl rfl rfl ⟨rfl, rfl, by decide, by decide⟩ (Nat.le_of_ble_eq_true rfl) ⟨by decide, by decide⟩ (fun r_4 V_4 h_4 => ?_)
  obtain ⟨rfl, hr⟩ := h_4
  refine j_iret dX1_size_7 rfl (rfl) (by decide) (by decide) ?_
  exact ⟨_, rfl, rfl, rfl, rfl, rfl, by rw [hr, h.2.2.2.1, List.length_map]⟩
set_option maxRecDepth 100000 in
set_option maxHeartbeats 4000000 in
theorem sp_X1_placeOf (hB : jB l s0 D) {q : Nat} {P : pL} {f : Int32} (h : MkOK T V q P) : Sp l s0 D kX1_placeOf (jR 1 0 0) 0 0 [.ref q, .int f] T V X sz (qI T X sz (fun r V' => V = V' ∧ r.toInt = pPos P f)) := by
  refine Sp.of pn_X1_placeOf rfl (Nat.le_of_ble_eq_true rfl) ?_
  have hlen := h.len
  have loop : ∀ (n k : Nat) (i : Int32), i.toInt = k → k + n = P.length → pPos (P.drop k) f + k = pPos P f → J l s0 D kX1_placeOf (jR 1 0 0) 0 0 (qI T X sz (fun r V' => V = V' ∧ r.toInt = pPos P f)) 2 [(0, .ref q), (1, .int f), (2, .int i)] [] T V X sz 0 0 := by
    intro n
    induction n with
    | zero =>
      intro k i hi hk hp
      refine j_iload_n dX1_placeOf_2 rfl ?_
      refine j_aload_n dX1_placeOf_3 rfl ?_
      refine j_getr dX1_placeOf_4 hB fl_X1_14 (by first | exact h.1 | exact h.2.1.1 | exact h.2.2.1.1) (by rfl) ?_
      refine j_cVi dX1_placeOf_7 hB mo_X3_size ml_X1_23 (sp_X3_size hB h.2.1) (by first | exact h.1 | exact h.2.1.1 | exact h.2.2.1.1) rfl rfl rfl rfl ⟨rfl, rfl, by decide, by decide⟩ (Nat.le_of_ble_eq_true rfl) ⟨by decide, by decide⟩ (fun r_7 V_7 h_7 => ?_)
      obtain ⟨rfl, hr⟩ := h_7
      rw [h.2.2.2.1, List.length_map] at hr
      refine j_icmp_ge (tgt := 31) dX1_placeOf_10 (by decide) (fun c_10 => ?_) (fun c_10 => ?_)
      · refine j_iload_n dX1_placeOf_31 rfl ?_
        refine j_iret dX1_placeOf_32 rfl (rfl) (by decide) (by decide) ?_
        exact ⟨_, rfl, rfl, rfl, rfl, rfl, by rw [List.drop_eq_nil_of_le (by omega)] at hp; simp [pPos] at hp; omega⟩
      · exact absurd c_10 (by omega)
    | succ n ih =>
      intro k i hi hk hp
      have hlt : k < P.length := by omega
      have hd := List.drop_eq_getElem_cons hlt
      refine j_iload_n dX1_placeOf_2 rfl ?_
      refine j_aload_n dX1_placeOf_3 rfl ?_
      refine j_getr dX1_placeOf_4 hB fl_X1_14 (by first | exact h.1 | exact h.2.1.1 | exact h.2.2.1.1) (by rfl) ?_
      refine j_cVi dX1_placeOf_7 hB mo_X3_size ml_X1_23 (sp_X3_size hB h.2.1) (by first | exact h.1 | exact h.2.1.1 | exact h.2.2.1.1) rfl rfl rfl rfl ⟨rfl, rfl, by decide, by decide⟩ (Nat.le_of_ble_eq_true rfl) ⟨by decide, by decide⟩ (fun r_7 V_7 h_7 => ?_)
      obtain ⟨rfl, hr⟩ := h_7
      rw [h.2.2.2.1, List.length_map] at hr
      refine j_icmp_ge (tgt := 31) dX1_placeOf_10 (by decide) (fun c_10 => ?_) (fun c_10 => ?_)
      · exact absurd c_10 (by omega)
      · refine j_aload_n dX1_placeOf_13 rfl ?_
        refine j_getr dX1_placeOf_14 hB fl_X1_14 (by first | exact h.1 | exact h.2.1.1 | exact h.2.2.1.1) (by rfl) ?_
        refine j_iload_n dX1_placeOf_17 rfl ?_
        refine j_cVi dX1_placeOf_18 hB mo_X3_at ml_X1_27 (sp_X3_at hB h.2.1) (by first | exact h.1 | exact h.2.1.1 | exact h.2.2.1.1) rfl rfl rfl rfl ⟨rfl, rfl, by decide, by decide⟩ (Nat.le_of_ble_eq_true rfl) ⟨by decide, by decide⟩ (fun r_18 V_18 h_18 => ?_)
        obtain ⟨rfl, hx⟩ := h_18
        rw [h.2.2.2.1, atZ_in (by omega), show i.toInt.toNat = k by omega, (map_getD P k hlt).1] at hx
        subst hx
        refine j_iload_n dX1_placeOf_21 rfl ?_
        refine j_icmp_ge (tgt := 31) dX1_placeOf_22 (by decide) (fun c_22 => ?_) (fun c_22 => ?_)
        · refine j_iload_n dX1_placeOf_31 rfl ?_
          refine j_iret dX1_placeOf_32 rfl (rfl) (by decide) (by decide) ?_
          rw [hd] at hp
          exact ⟨_, rfl, rfl, rfl, rfl, rfl, by rw [pPos_cons, if_neg (by omega)] at hp; omega⟩
        · refine j_iinc (v := 1) (L' := [(0, _), (1, _), (2, _)]) dX1_placeOf_25 rfl (by decide) (by decide) rfl ?_
          refine j_goto (tgt := 2) dX1_placeOf_28 (by decide) ?_
          refine ih (k + 1) _ ?_ (by omega) ?_
          · rw [ti_add (by rw [ti_1]; omega) (by rw [ti_1]; omega), ti_1]; omega
          · rw [hd, pPos_cons, if_pos (by omega)] at hp
            omega
  refine j_iconst (v := 0) dX1_placeOf_0 (by decide) ?_
  refine j_istore_n (L' := [(0, _), (1, _), (2, _)]) dX1_placeOf_1 (by decide) rfl ?_
  exact loop P.length 0 0 rfl (by omega) (by simp)
set_option maxRecDepth 100000 in
set_option maxHeartbeats 4000000 in
theorem sp_X1_isAt (hB : jB l s0 D) {q : Nat} {P : pL} {i f : Int32} (h : MkOK T V q P) (hi : i.toInt = pPos P f) : Sp l s0 D kX1_isAt (jR 1 0 0) 0 0 [.ref q, .int i, .int f] T V X sz (qI T X sz (fun r V' => V = V' ∧ (r = 1 ∧ pHas P f ∨ r = 0 ∧ ¬ pHas P f))) := by
  refine Sp.of pn_X1_isAt rfl (Nat.le_of_ble_eq_true rfl) ?_
  have hlen := h.len
  have hp := pPos_at (f := f) h.2.2.2.2.2
  refine j_iload_n dX1_isAt_0 rfl ?_
  refine j_aload_n dX1_isAt_1 rfl ?_
  refine j_getr dX1_isAt_2 hB fl_X1_14 (by first | exact h.1 | exact h.2.1.1 | exact h.2.2.1.1) (by rfl) ?_
  refine j_cVi dX1_isAt_5 hB mo_X3_size ml_X1_23 (sp_X3_size hB h.2.1) (by first | exact h.1 | exact h.2.1.1 | exact h.2.2.1.1) rfl rfl rfl rfl ⟨rfl, rfl, by decide, by decide⟩ (Nat.le_of_ble_eq_true rfl) ⟨by decide, by decide⟩ (fun r_5 V_5 h_5 => ?_)
  obtain ⟨rfl, hr⟩ := h_5
  rw [h.2.2.2.1, List.length_map] at hr
  refine j_icmp_ge (tgt := 27) dX1_isAt_8 (by decide) (fun c_8 => ?_) (fun c_8 => ?_)
  · refine j_iconst (v := 0) dX1_isAt_27 (by decide) ?_
    refine j_iret dX1_isAt_28 rfl (rfl) (by decide) (by decide) ?_
    refine ⟨_, rfl, rfl, rfl, rfl, rfl, ?_⟩
    first
      | exact Or.inr ⟨rfl, fun z => absurd (hp.mpr z).1 (by omega)⟩
      | exact Or.inr ⟨rfl, fun z => absurd (hp.mpr z).2 c_20⟩
      | exact Or.inl ⟨rfl, hp.mp ⟨by omega, c_20⟩⟩
  · refine j_aload_n dX1_isAt_11 rfl ?_
    refine j_getr dX1_isAt_12 hB fl_X1_14 (by first | exact h.1 | exact h.2.1.1 | exact h.2.2.1.1) (by rfl) ?_
    refine j_iload_n dX1_isAt_15 rfl ?_
    refine j_cVi dX1_isAt_16 hB mo_X3_at ml_X1_27 (sp_X3_at hB h.2.1) (by first | exact h.1 | exact h.2.1.1 | exact h.2.2.1.1) rfl rfl rfl rfl ⟨rfl, rfl, by decide, by decide⟩ (Nat.le_of_ble_eq_true rfl) ⟨by decide, by decide⟩ (fun r_16 V_16 h_16 => ?_)
    obtain ⟨rfl, hx⟩ := h_16
    rw [h.2.2.2.1, atZ_in (by omega), show i.toInt.toNat = pPos P f by omega] at hx
    subst hx
    refine j_iload_n dX1_isAt_19 rfl ?_
    refine j_icmp_ne (tgt := 27) dX1_isAt_20 (by decide) (fun c_20 => ?_) (fun c_20 => ?_)
    · refine j_iconst (v := 0) dX1_isAt_27 (by decide) ?_
      refine j_iret dX1_isAt_28 rfl (rfl) (by decide) (by decide) ?_
      refine ⟨_, rfl, rfl, rfl, rfl, rfl, ?_⟩
      first
        | exact Or.inr ⟨rfl, fun z => absurd (hp.mpr z).1 (by omega)⟩
        | exact Or.inr ⟨rfl, fun z => absurd (hp.mpr z).2 c_20⟩
        | exact Or.inl ⟨rfl, hp.mp ⟨by omega, c_20⟩⟩
    · refine j_iconst (v := 1) dX1_isAt_23 (by decide) ?_
      refine j_goto (tgt := 28) dX1_isAt_24 (by decide) ?_
      refine j_iret dX1_isAt_28 rfl (rfl) (by decide) (by decide) ?_
      refine ⟨_, rfl, rfl, rfl, rfl, rfl, ?_⟩
      first
        | exact Or.inr ⟨rfl, fun z => absurd (hp.mpr z).1 (by omega)⟩
        | exact Or.inr ⟨rfl, fun z => absurd (hp.mpr z).2 c_20⟩
        | exact Or.inl ⟨rfl, hp.mp ⟨by omega, c_20⟩⟩
set_option maxRecDepth 100000 in
set_option maxHeartbeats 4000000 in
theorem sp_X1_hasRoomFor (hB : jB l s0 D) {q : Nat} {P : pL} {f : Int32} (h : MkOK T V q P) : Sp l s0 D kX1_hasRoomFor (jR 2 0 0) 0 0 [.ref q, .int f] T V X sz (qI T X sz (fun r V' => V = V' ∧ (r = 1 ∧ (P.length < 6 ∨ pHas P f) ∨ r = 0 ∧ ¬ (P.length < 6 ∨ pHas P f)))) := by
  refine Sp.of pn_X1_hasRoomFor rfl (Nat.le_of_ble_eq_true rfl) ?_
  have h6 : (6 : Int32).toInt = 6 := by decide
  refine j_aload_n dX1_hasRoomFor_0 rfl ?_
  refine j_getr dX1_hasRoomFor_1 hB fl_X1_14 (by first | exact h.1 | exact h.2.1.1 | exact h.2.2.1.1) (by rfl) ?_
  refine j_cVi dX1_hasRoomFor_4 hB mo_X3_size ml_X1_23 (sp_X3_size hB h.2.1) (by first | exact h.1 | exact h.2.1.1 | exact h.2.2.1.1) rfl rfl rfl rfl ⟨rfl, rfl, by decide, by decide⟩ (Nat.le_of_ble_eq_true rfl) ⟨by decide, by decide⟩ (fun r_4 V_4 h_4 => ?_)
  obtain ⟨rfl, hr⟩ := h_4
  rw [h.2.2.2.1, List.length_map] at hr
  refine j_bipush (v := 6) dX1_hasRoomFor_7 (by decide) ?_
  refine j_icmp_lt (tgt := 25) dX1_hasRoomFor_9 (by decide) (fun c_9 => ?_) (fun c_9 => ?_)
  · refine j_iconst (v := 1) dX1_hasRoomFor_25 (by decide) ?_
    refine j_goto (tgt := 30) dX1_hasRoomFor_26 (by decide) ?_
    refine j_iret dX1_hasRoomFor_30 rfl (rfl) (by decide) (by decide) ?_
    refine ⟨_, rfl, rfl, rfl, rfl, rfl, ?_⟩
    first
      | exact Or.inl ⟨rfl, Or.inl (by omega)⟩
      | (rcases hy with ⟨h1, h2⟩ | ⟨h1, h2⟩ <;> subst h1 <;> first | exact Or.inl ⟨rfl, Or.inr h2⟩ | exact absurd c_22 (by decide) | exact absurd rfl c_22 | exact Or.inr ⟨rfl, fun z => z.elim (fun z => absurd z (by omega)) h2⟩)
  · refine j_aload_n dX1_hasRoomFor_12 rfl ?_
    refine j_aload_n dX1_hasRoomFor_13 rfl ?_
    refine j_iload_n dX1_hasRoomFor_14 rfl ?_
    refine j_cVi dX1_hasRoomFor_15 hB mo_X1_placeOf ml_X1_31 (sp_X1_placeOf hB h) (by first | exact h.1 | exact h.2.1.1 | exact h.2.2.1.1) rfl rfl rfl rfl ⟨rfl, rfl, by decide, by decide⟩ (Nat.le_of_ble_eq_true rfl) ⟨by decide, by decide⟩ (fun r_15 V_15 h_15 => ?_)
    obtain ⟨rfl, hx⟩ := h_15
    refine j_iload_n dX1_hasRoomFor_18 rfl ?_
    refine j_cVi dX1_hasRoomFor_19 hB mo_X1_isAt ml_X1_34 (sp_X1_isAt hB h hx) (by first | exact h.1 | exact h.2.1.1 | exact h.2.2.1.1) rfl rfl rfl rfl ⟨rfl, rfl, by decide, by decide⟩ (Nat.le_of_ble_eq_true rfl) ⟨by decide, by decide⟩ (fun r_19 V_19 h_19 => ?_)
    obtain ⟨rfl, hy⟩ := h_19
    refine j_if_eq (tgt := 29) dX1_hasRoomFor_22 (by decide) (fun c_22 => ?_) (fun c_22 => ?_)
    · refine j_iconst (v := 0) dX1_hasRoomFor_29 (by decide) ?_
      refine j_iret dX1_hasRoomFor_30 rfl (rfl) (by decide) (by decide) ?_
      refine ⟨_, rfl, rfl, rfl, rfl, rfl, ?_⟩
      first
        | exact Or.inl ⟨rfl, Or.inl (by omega)⟩
        | (rcases hy with ⟨h1, h2⟩ | ⟨h1, h2⟩ <;> subst h1 <;> first | exact Or.inl ⟨rfl, Or.inr h2⟩ | exact absurd c_22 (by decide) | exact absurd rfl c_22 | exact Or.inr ⟨rfl, fun z => z.elim (fun z => absurd z (by omega)) h2⟩)
    · refine j_iconst (v := 1) dX1_hasRoomFor_25 (by decide) ?_
      refine j_goto (tgt := 30) dX1_hasRoomFor_26 (by decide) ?_
      refine j_iret dX1_hasRoomFor_30 rfl (rfl) (by decide) (by decide) ?_
      refine ⟨_, rfl, rfl, rfl, rfl, rfl, ?_⟩
      first
        | exact Or.inl ⟨rfl, Or.inl (by omega)⟩
        | (rcases hy with ⟨h1, h2⟩ | ⟨h1, h2⟩ <;> subst h1 <;> first | exact Or.inl ⟨rfl, Or.inr h2⟩ | exact absurd c_22 (by decide) | exact absurd rfl c_22 | exact Or.inr ⟨rfl, fun z => z.elim (fun z => absurd z (by omega)) h2⟩)
set_option maxRecDepth 100000 in
set_option maxHeartbeats 4000000 in
theorem sp_X1_mark (hB : jB l s0 D) {q : Nat} {P : pL} {f v : Int32} (h : MkOK T V q P) (hroom : P.length < 6 ∨ pHas P f) : Sp l s0 D kX1_mark (jR 2 0 0) 0 0 [.ref q, .int f, .int v] T V X sz (qU T X sz (fun V' => MkOK T V' q (pSet P f v) ∧ jAg V V' q (q + 5))) := by
  refine Sp.of pn_X1_mark rfl (Nat.le_of_ble_eq_true rfl) ?_
  have hle := pPos_le P f
  have hat := pPos_at (f := f) h.2.2.2.2.2
  have hset := pSet_eq (f := f) (v := v) h.2.2.2.2.2
  have hlen := h.len
  have hl1 : (Rw V (q + 1)).length = P.length := by rw [h.2.2.2.1, List.length_map]
  have hl3 : (Rw V (q + 3)).length = P.length := by rw [h.2.2.2.2.1, List.length_map]
  refine j_aload_n dX1_mark_0 rfl ?_
  refine j_iload_n dX1_mark_1 rfl ?_
  refine j_cVi dX1_mark_2 hB mo_X1_placeOf ml_X1_31 (sp_X1_placeOf hB h) (by first | exact h.1 | exact h.2.1.1 | exact h.2.2.1.1) rfl rfl rfl rfl ⟨rfl, rfl, by decide, by decide⟩ (Nat.le_of_ble_eq_true rfl) ⟨by decide, by decide⟩ (fun r_2 V_2 h_2 => ?_)
  obtain ⟨rfl, hx⟩ := h_2
  refine j_istore_n (L' := [(0, _), (1, _), (2, _), (3, _)]) dX1_mark_5 (by decide) rfl ?_
  refine j_aload_n dX1_mark_6 rfl ?_
  refine j_iload_n dX1_mark_7 rfl ?_
  refine j_iload_n dX1_mark_8 rfl ?_
  refine j_cVi dX1_mark_9 hB mo_X1_isAt ml_X1_34 (sp_X1_isAt hB h hx) (by first | exact h.1 | exact h.2.1.1 | exact h.2.2.1.1) rfl rfl rfl rfl ⟨rfl, rfl, by decide, by decide⟩ (Nat.le_of_ble_eq_true rfl) ⟨by decide, by decide⟩ (fun r_9 V_9 h_9 => ?_)
  obtain ⟨rfl, hy⟩ := h_9
  refine j_if_eq (tgt := 27) dX1_mark_12 (by decide) (fun c_12 => ?_) (fun c_12 => ?_)
  · have h2 : ¬ pHas P f := by rcases hy with ⟨h1, h2⟩ | ⟨h1, h2⟩; (exact absurd c_12 (by rw [h1]; decide)); exact h2
    refine j_aload_n dX1_mark_27 rfl ?_
    refine j_getr dX1_mark_28 hB fl_X1_14 (by first | exact h.1 | exact h.2.1.1 | exact h.2.2.1.1) (by rfl) ?_
    refine j_iload_n dX1_mark_31 rfl ?_
    refine j_iload_n dX1_mark_32 rfl ?_
    refine j_cVu dX1_mark_33 hB mo_X3_insert ml_X1_42 (sp_X3_insert hB h.2.1 (by omega) (by omega) (by rcases hy with ⟨h1, h2⟩ | ⟨h1, h2⟩ <;> first | exact absurd c_12 (by rw [h1]; decide) | (rcases hroom with z | z <;> first | omega | exact absurd z h2))) (by first | exact h.1 | exact h.2.1.1 | exact h.2.2.1.1) rfl rfl rfl rfl ⟨rfl, rfl, by decide, by decide⟩ (Nat.le_of_ble_eq_true rfl) ⟨by decide, by decide⟩ (fun V_33 h_33 => ?_)
    obtain ⟨g1, g2, g3⟩ := h_33
    have hr3 := Rw_ag g3 (show q + 3 + 2 ≤ q + 1 ∨ q + 1 + 2 ≤ q + 3 by omega)
    refine j_aload_n dX1_mark_36 rfl ?_
    refine j_getr dX1_mark_37 hB fl_X1_20 (by first | exact h.1 | exact h.2.1.1 | exact h.2.2.1.1) (by rfl) ?_
    refine j_iload_n dX1_mark_40 rfl ?_
    refine j_iload_n dX1_mark_41 rfl ?_
    refine j_cVu dX1_mark_42 hB mo_X3_insert ml_X1_42 (sp_X3_insert hB (h.2.2.1.ag g3 (by omega)) (by omega) (by rw [hr3]; omega) (by rw [hr3]; rcases hy with ⟨h1, h2⟩ | ⟨h1, h2⟩ <;> first | exact absurd c_12 (by rw [h1]; decide) | (rcases hroom with z | z <;> first | omega | exact absurd z h2))) (by first | exact h.1 | exact h.2.1.1 | exact h.2.2.1.1) rfl rfl rfl rfl ⟨rfl, rfl, by decide, by decide⟩ (Nat.le_of_ble_eq_true rfl) ⟨by decide, by decide⟩ (fun V_42 h_42 => ?_)
    obtain ⟨k1, k2, k3⟩ := h_42
    refine j_vret dX1_mark_45 rfl (by decide) (by decide) ?_
    first
      | exact ⟨rfl, rfl, rfl, rfl, ⟨h.1, g1.ag k3 (by omega), k1, by rw [hset.2 h2, Rw_ag k3 (by omega), g2, h.2.2.2.1, hx]; simp, by rw [hset.2 h2, k2, hr3, h.2.2.2.2.1, hx]; simp, pSet_srt h.2.2.2.2.2⟩, (g3.wide (by omega) (by omega)).tr (k3.wide (by omega) (by omega))⟩
      | exact ⟨rfl, rfl, rfl, rfl, ⟨h.1, h.2.1.ag g3 (by omega), g1, by rw [hset.1 h2, Rw_ag g3 (by omega), h.2.2.2.1, List.map_set]; exact (set_self (by rw [List.length_map]; exact a1) a2).symm, by rw [hset.1 h2, g2, h.2.2.2.2.1, setZ, if_pos (by omega), hx]; simp, pSet_srt h.2.2.2.2.2⟩, g3.wide (by omega) (by omega)⟩
  · have h2 : pHas P f := by rcases hy with ⟨h1, h2⟩ | ⟨h1, h2⟩; (exact h2); exact absurd h1 c_12
    obtain ⟨a1, a2⟩ := hat.mpr h2
    refine j_aload_n dX1_mark_15 rfl ?_
    refine j_getr dX1_mark_16 hB fl_X1_20 (by first | exact h.1 | exact h.2.1.1 | exact h.2.2.1.1) (by rfl) ?_
    refine j_iload_n dX1_mark_19 rfl ?_
    refine j_iload_n dX1_mark_20 rfl ?_
    refine j_cVu dX1_mark_21 hB mo_X3_put ml_X1_38 (sp_X3_put hB h.2.2.1) (by first | exact h.1 | exact h.2.1.1 | exact h.2.2.1.1) rfl rfl rfl rfl ⟨rfl, rfl, by decide, by decide⟩ (Nat.le_of_ble_eq_true rfl) ⟨by decide, by decide⟩ (fun V_21 h_21 => ?_)
    obtain ⟨g1, g2, g3⟩ := h_21
    refine j_goto (tgt := 45) dX1_mark_24 (by decide) ?_
    refine j_vret dX1_mark_45 rfl (by decide) (by decide) ?_
    first
      | exact ⟨rfl, rfl, rfl, rfl, ⟨h.1, g1.ag k3 (by omega), k1, by rw [hset.2 h2, Rw_ag k3 (by omega), g2, h.2.2.2.1, hx]; simp, by rw [hset.2 h2, k2, hr3, h.2.2.2.2.1, hx]; simp, pSet_srt h.2.2.2.2.2⟩, (g3.wide (by omega) (by omega)).tr (k3.wide (by omega) (by omega))⟩
      | exact ⟨rfl, rfl, rfl, rfl, ⟨h.1, h.2.1.ag g3 (by omega), g1, by rw [hset.1 h2, Rw_ag g3 (by omega), h.2.2.2.1, List.map_set]; exact (set_self (by rw [List.length_map]; exact a1) a2).symm, by rw [hset.1 h2, g2, h.2.2.2.2.1, setZ, if_pos (by omega), hx]; simp, pSet_srt h.2.2.2.2.2⟩, g3.wide (by omega) (by omega)⟩
set_option maxRecDepth 100000 in
set_option maxHeartbeats 4000000 in
theorem sp_X1_unmark (hB : jB l s0 D) {q : Nat} {P : pL} {f : Int32} (h : MkOK T V q P) : Sp l s0 D kX1_unmark (jR 2 0 0) 0 0 [.ref q, .int f] T V X sz (qU T X sz (fun V' => MkOK T V' q (pDel P f) ∧ jAg V V' q (q + 5))) := by
  refine Sp.of pn_X1_unmark rfl (Nat.le_of_ble_eq_true rfl) ?_
  have hle := pPos_le P f
  have hdel := pDel_eq (f := f) h.2.2.2.2.2
  refine j_aload_n dX1_unmark_0 rfl ?_
  refine j_iload_n dX1_unmark_1 rfl ?_
  refine j_cVi dX1_unmark_2 hB mo_X1_placeOf ml_X1_31 (sp_X1_placeOf hB h) (by first | exact h.1 | exact h.2.1.1 | exact h.2.2.1.1) rfl rfl rfl rfl ⟨rfl, rfl, by decide, by decide⟩ (Nat.le_of_ble_eq_true rfl) ⟨by decide, by decide⟩ (fun r_2 V_2 h_2 => ?_)
  obtain ⟨rfl, hx⟩ := h_2
  refine j_istore_n (L' := [(0, _), (1, _), (2, _)]) dX1_unmark_5 (by decide) rfl ?_
  refine j_aload_n dX1_unmark_6 rfl ?_
  refine j_iload_n dX1_unmark_7 rfl ?_
  refine j_iload_n dX1_unmark_8 rfl ?_
  refine j_cVi dX1_unmark_9 hB mo_X1_isAt ml_X1_34 (sp_X1_isAt hB h hx) (by first | exact h.1 | exact h.2.1.1 | exact h.2.2.1.1) rfl rfl rfl rfl ⟨rfl, rfl, by decide, by decide⟩ (Nat.le_of_ble_eq_true rfl) ⟨by decide, by decide⟩ (fun r_9 V_9 h_9 => ?_)
  obtain ⟨rfl, hy⟩ := h_9
  refine j_if_eq (tgt := 31) dX1_unmark_12 (by decide) (fun c_12 => ?_) (fun c_12 => ?_)
  · have h2 : ¬ pHas P f := by rcases hy with ⟨h1, h2⟩ | ⟨h1, h2⟩; (exact absurd c_12 (by rw [h1]; decide)); exact h2
    refine j_vret dX1_unmark_31 rfl (by decide) (by decide) ?_
    first
      | exact ⟨rfl, rfl, rfl, rfl, by rw [hdel.2 h2]; exact h, jAg.rf⟩
      | exact ⟨rfl, rfl, rfl, rfl, ⟨h.1, g1.ag k3 (by omega), k1, by rw [hdel.1 h2, Rw_ag k3 (by omega), g2, if_pos (by omega), h.2.2.2.1, hx]; simp only [Int.toNat_natCast]; exact map_erase _ _ _, by rw [hdel.1 h2, k2, hr3, if_pos (by omega), h.2.2.2.2.1, hx]; simp only [Int.toNat_natCast]; exact map_erase _ _ _, pDel_srt h.2.2.2.2.2⟩, (g3.wide (by omega) (by omega)).tr (k3.wide (by omega) (by omega))⟩
  · have h2 : pHas P f := by rcases hy with ⟨h1, h2⟩ | ⟨h1, h2⟩; (exact h2); exact absurd h1 c_12
    refine j_aload_n dX1_unmark_15 rfl ?_
    refine j_getr dX1_unmark_16 hB fl_X1_14 (by first | exact h.1 | exact h.2.1.1 | exact h.2.2.1.1) (by rfl) ?_
    refine j_iload_n dX1_unmark_19 rfl ?_
    refine j_cVu dX1_unmark_20 hB mo_X3_remove ml_X1_45 (sp_X3_remove hB h.2.1) (by first | exact h.1 | exact h.2.1.1 | exact h.2.2.1.1) rfl rfl rfl rfl ⟨rfl, rfl, by decide, by decide⟩ (Nat.le_of_ble_eq_true rfl) ⟨by decide, by decide⟩ (fun V_20 h_20 => ?_)
    obtain ⟨g1, g2, g3⟩ := h_20
    have hr3 := Rw_ag g3 (show q + 3 + 2 ≤ q + 1 ∨ q + 1 + 2 ≤ q + 3 by omega)
    refine j_aload_n dX1_unmark_23 rfl ?_
    refine j_getr dX1_unmark_24 hB fl_X1_20 (by first | exact h.1 | exact h.2.1.1 | exact h.2.2.1.1) (by rfl) ?_
    refine j_iload_n dX1_unmark_27 rfl ?_
    refine j_cVu dX1_unmark_28 hB mo_X3_remove ml_X1_45 (sp_X3_remove hB (h.2.2.1.ag g3 (by omega))) (by first | exact h.1 | exact h.2.1.1 | exact h.2.2.1.1) rfl rfl rfl rfl ⟨rfl, rfl, by decide, by decide⟩ (Nat.le_of_ble_eq_true rfl) ⟨by decide, by decide⟩ (fun V_28 h_28 => ?_)
    obtain ⟨k1, k2, k3⟩ := h_28
    refine j_vret dX1_unmark_31 rfl (by decide) (by decide) ?_
    first
      | exact ⟨rfl, rfl, rfl, rfl, by rw [hdel.2 h2]; exact h, jAg.rf⟩
      | exact ⟨rfl, rfl, rfl, rfl, ⟨h.1, g1.ag k3 (by omega), k1, by rw [hdel.1 h2, Rw_ag k3 (by omega), g2, if_pos (by omega), h.2.2.2.1, hx]; simp only [Int.toNat_natCast]; exact map_erase _ _ _, by rw [hdel.1 h2, k2, hr3, if_pos (by omega), h.2.2.2.2.1, hx]; simp only [Int.toNat_natCast]; exact map_erase _ _ _, pDel_srt h.2.2.2.2.2⟩, (g3.wide (by omega) (by omega)).tr (k3.wide (by omega) (by omega))⟩
set_option maxRecDepth 100000 in
set_option maxHeartbeats 4000000 in
theorem sp_X1_valueHoldingAt (hB : jB l s0 D) {q : Nat} {P : pL} {f : Int32} (h : MkOK T V q P) : Sp l s0 D kX1_valueHoldingAt (jR 1 0 0) 0 0 [.ref q, .int f] T V X sz (qI T X sz (fun r V' => V = V' ∧ r = pHold P f.toInt)) := by
  refine Sp.of pn_X1_valueHoldingAt rfl (Nat.le_of_ble_eq_true rfl) ?_
  have hlen := h.len
  have loop : ∀ (n k : Nat) (i x : Int32), i.toInt = k → k + n = P.length → pHoldF x (P.drop k) f.toInt = pHold P f.toInt → J l s0 D kX1_valueHoldingAt (jR 1 0 0) 0 0 (qI T X sz (fun r V' => V = V' ∧ r = pHold P f.toInt)) 4 [(0, .ref q), (1, .int f), (2, .int x), (3, .int i)] [] T V X sz 0 0 := by
    intro n
    induction n with
    | zero =>
      intro k i x hi hk hp
      refine j_iload_n dX1_valueHoldingAt_4 rfl ?_
      refine j_aload_n dX1_valueHoldingAt_5 rfl ?_
      refine j_getr dX1_valueHoldingAt_6 hB fl_X1_14 (by first | exact h.1 | exact h.2.1.1 | exact h.2.2.1.1) (by rfl) ?_
      refine j_cVi dX1_valueHoldingAt_9 hB mo_X3_size ml_X1_23 (sp_X3_size hB h.2.1) (by first | exact h.1 | exact h.2.1.1 | exact h.2.2.1.1) rfl rfl rfl rfl ⟨rfl, rfl, by decide, by decide⟩ (Nat.le_of_ble_eq_true rfl) ⟨by decide, by decide⟩ (fun r_9 V_9 h_9 => ?_)
      obtain ⟨rfl, hr⟩ := h_9
      rw [h.2.2.2.1, List.length_map] at hr
      refine j_icmp_ge (tgt := 42) dX1_valueHoldingAt_12 (by decide) (fun c_12 => ?_) (fun c_12 => ?_)
      · refine j_iload_n dX1_valueHoldingAt_42 rfl ?_
        refine j_iret dX1_valueHoldingAt_43 rfl (rfl) (by decide) (by decide) ?_
        exact ⟨_, rfl, rfl, rfl, rfl, rfl, by rw [List.drop_eq_nil_of_le (by omega)] at hp; exact hp⟩
      · exact absurd c_12 (by omega)
    | succ n ih =>
      intro k i x hi hk hp
      have hlt : k < P.length := by omega
      have hd := List.drop_eq_getElem_cons hlt
      have hsd : pSrt (P.drop k) := List.Pairwise.sublist (List.drop_sublist k P) h.2.2.2.2.2
      rw [hd] at hsd
      have hsd' := (List.pairwise_cons.mp hsd).1
      refine j_iload_n dX1_valueHoldingAt_4 rfl ?_
      refine j_aload_n dX1_valueHoldingAt_5 rfl ?_
      refine j_getr dX1_valueHoldingAt_6 hB fl_X1_14 (by first | exact h.1 | exact h.2.1.1 | exact h.2.2.1.1) (by rfl) ?_
      refine j_cVi dX1_valueHoldingAt_9 hB mo_X3_size ml_X1_23 (sp_X3_size hB h.2.1) (by first | exact h.1 | exact h.2.1.1 | exact h.2.2.1.1) rfl rfl rfl rfl ⟨rfl, rfl, by decide, by decide⟩ (Nat.le_of_ble_eq_true rfl) ⟨by decide, by decide⟩ (fun r_9 V_9 h_9 => ?_)
      obtain ⟨rfl, hr⟩ := h_9
      rw [h.2.2.2.1, List.length_map] at hr
      refine j_icmp_ge (tgt := 42) dX1_valueHoldingAt_12 (by decide) (fun c_12 => ?_) (fun c_12 => ?_)
      · exact absurd c_12 (by omega)
      · refine j_aload_n dX1_valueHoldingAt_15 rfl ?_
        refine j_getr dX1_valueHoldingAt_16 hB fl_X1_14 (by first | exact h.1 | exact h.2.1.1 | exact h.2.2.1.1) (by rfl) ?_
        refine j_iload_n dX1_valueHoldingAt_19 rfl ?_
        refine j_cVi dX1_valueHoldingAt_20 hB mo_X3_at ml_X1_27 (sp_X3_at hB h.2.1) (by first | exact h.1 | exact h.2.1.1 | exact h.2.2.1.1) rfl rfl rfl rfl ⟨rfl, rfl, by decide, by decide⟩ (Nat.le_of_ble_eq_true rfl) ⟨by decide, by decide⟩ (fun r_20 V_20 h_20 => ?_)
        obtain ⟨rfl, hx⟩ := h_20
        rw [h.2.2.2.1, atZ_in (by omega), show i.toInt.toNat = k by omega, (map_getD P k hlt).1] at hx
        subst hx
        refine j_iload_n dX1_valueHoldingAt_23 rfl ?_
        refine j_icmp_gt (tgt := 42) dX1_valueHoldingAt_24 (by decide) (fun c_24 => ?_) (fun c_24 => ?_)
        · refine j_iload_n dX1_valueHoldingAt_42 rfl ?_
          refine j_iret dX1_valueHoldingAt_43 rfl (rfl) (by decide) (by decide) ?_
          refine ⟨_, rfl, rfl, rfl, rfl, rfl, ?_⟩
          rw [← hp, hd]
          exact (pHoldF_hi (fun b hb => by rcases List.mem_cons.mp hb with rfl | hb <;> first | omega | (have := hsd' b hb; omega))).symm
        · refine j_aload_n dX1_valueHoldingAt_27 rfl ?_
          refine j_getr dX1_valueHoldingAt_28 hB fl_X1_20 (by first | exact h.1 | exact h.2.1.1 | exact h.2.2.1.1) (by rfl) ?_
          refine j_iload_n dX1_valueHoldingAt_31 rfl ?_
          refine j_cVi dX1_valueHoldingAt_32 hB mo_X3_at ml_X1_27 (sp_X3_at hB h.2.2.1) (by first | exact h.1 | exact h.2.1.1 | exact h.2.2.1.1) rfl rfl rfl rfl ⟨rfl, rfl, by decide, by decide⟩ (Nat.le_of_ble_eq_true rfl) ⟨by decide, by decide⟩ (fun r_32 V_32 h_32 => ?_)
          obtain ⟨rfl, hy⟩ := h_32
          rw [h.2.2.2.2.1, atZ_in (by omega), show i.toInt.toNat = k by omega, (map_getD P k hlt).2] at hy
          subst hy
          refine j_istore_n (L' := [(0, _), (1, _), (2, _), (3, _)]) dX1_valueHoldingAt_35 (by decide) rfl ?_
          refine j_iinc (v := 1) (L' := [(0, _), (1, _), (2, _), (3, _)]) dX1_valueHoldingAt_36 rfl (by decide) (by decide) rfl ?_
          refine j_goto (tgt := 4) dX1_valueHoldingAt_39 (by decide) ?_
          refine ih (k + 1) _ _ ?_ (by omega) ?_
          · rw [ti_add (by rw [ti_1]; omega) (by rw [ti_1]; omega), ti_1]; omega
          · rw [← hp, hd]
            exact (if_pos (by omega)).symm
  refine j_iconst (v := 0) dX1_valueHoldingAt_0 (by decide) ?_
  refine j_istore_n (L' := [(0, _), (1, _), (2, _)]) dX1_valueHoldingAt_1 (by decide) rfl ?_
  refine j_iconst (v := 0) dX1_valueHoldingAt_2 (by decide) ?_
  refine j_istore_n (L' := [(0, _), (1, _), (2, _), (3, _)]) dX1_valueHoldingAt_3 (by decide) rfl ?_
  exact loop P.length 0 0 0 rfl (by omega) (by simp [pHold])
set_option maxRecDepth 100000 in
set_option maxHeartbeats 4000000 in
theorem sp_X1_takeFrom (hB : jB l s0 D) {q q' : Nat} {P P' : pL} (h : MkOK T V q P) (h' : MkOK T V q' P') (hd : q + 5 ≤ q' ∨ q' + 5 ≤ q) : Sp l s0 D kX1_takeFrom (jR 2 0 0) 0 0 [.ref q, .ref q'] T V X sz (qU T X sz (fun V' => MkOK T V' q P' ∧ jAg V V' q (q + 5))) := by
  refine Sp.of pn_X1_takeFrom rfl (Nat.le_of_ble_eq_true rfl) ?_
  refine j_aload_n dX1_takeFrom_0 rfl ?_
  refine j_getr dX1_takeFrom_1 hB fl_X1_14 (by first | exact h.1 | exact h'.1 | exact h.2.1.1 | exact h.2.2.1.1) (by rfl) ?_
  refine j_aload_n dX1_takeFrom_4 rfl ?_
  refine j_getr dX1_takeFrom_5 hB fl_X1_14 (by first | exact h.1 | exact h'.1 | exact h.2.1.1 | exact h.2.2.1.1) (by rfl) ?_
  refine j_cVu dX1_takeFrom_8 hB mo_X3_takeFrom ml_X1_48 (sp_X3_takeFrom hB h.2.1 h'.2.1 (by omega) h'.2.1.le) (by first | exact h.1 | exact h'.1 | exact h.2.1.1 | exact h.2.2.1.1) rfl rfl rfl rfl ⟨rfl, rfl, by decide, by decide⟩ (Nat.le_of_ble_eq_true rfl) ⟨by decide, by decide⟩ (fun V_8 h_8 => ?_)
  obtain ⟨g1, g2, g3⟩ := h_8
  have hr3 := Rw_ag g3 (show q' + 3 + 2 ≤ q + 1 ∨ q + 1 + 2 ≤ q' + 3 by omega)
  refine j_aload_n dX1_takeFrom_11 rfl ?_
  refine j_getr dX1_takeFrom_12 hB fl_X1_20 (by first | exact h.1 | exact h'.1 | exact h.2.1.1 | exact h.2.2.1.1) (by rfl) ?_
  refine j_aload_n dX1_takeFrom_15 rfl ?_
  refine j_getr dX1_takeFrom_16 hB fl_X1_20 (by first | exact h.1 | exact h'.1 | exact h.2.1.1 | exact h.2.2.1.1) (by rfl) ?_
  refine j_cVu dX1_takeFrom_19 hB mo_X3_takeFrom ml_X1_48 (sp_X3_takeFrom hB (h.2.2.1.ag g3 (by omega)) (h'.2.2.1.ag g3 (by omega)) (by omega) (by rw [hr3]; exact h'.2.2.1.le)) (by first | exact h.1 | exact h'.1 | exact h.2.1.1 | exact h.2.2.1.1) rfl rfl rfl rfl ⟨rfl, rfl, by decide, by decide⟩ (Nat.le_of_ble_eq_true rfl) ⟨by decide, by decide⟩ (fun V_19 h_19 => ?_)
  obtain ⟨k1, k2, k3⟩ := h_19
  refine j_vret dX1_takeFrom_22 rfl (by decide) (by decide) ?_
  exact ⟨rfl, rfl, rfl, rfl, ⟨h.1, g1.ag k3 (by omega), k1, by rw [Rw_ag k3 (by omega), g2, h'.2.2.2.1], by rw [k2, hr3, h'.2.2.2.2.1], h'.2.2.2.2.2⟩, (g3.wide (by omega) (by omega)).tr (k3.wide (by omega) (by omega))⟩
end JMarks
