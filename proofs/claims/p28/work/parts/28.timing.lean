/-! CueSheets$Timing: the mathematical values of a reel -/
def isCue (r : aR) (k : Nat) : Prop := ¬ atZ r.2.1 k = -2000001
noncomputable def cueI (r : aR) (k : Nat) (x y : Int) : Int := @ite _ (isCue r k) (Classical.propDecidable _) x y
theorem cueI_t {r : aR} {k : Nat} {x y : Int} (h : isCue r k) : cueI r k x y = x := if_pos h
theorem cueI_f {r : aR} {k : Nat} {x y : Int} (h : ¬ isCue r k) : cueI r k x y = y := if_neg h
/-- the first foot of scene k -/
def aFirst (r : aR) : Nat → Int
  | 0 => 0
  | k + 1 => aFirst r k + (atZ r.1 k).toInt
def aLost (r : aR) (k : Nat) : Int := cnt (lostB r.2.2.2.2.2) (aFirst r k) (atZ r.1 k).toInt.toNat
def aTime (r : aR) (w : Int) (k : Nat) : Int := tmN (ftm r.2.2.2.2.1 r.2.2.2.2.2 w) (aFirst r k) (atZ r.1 k).toInt.toNat
/-- when scene k begins -/
def aBeg (r : aR) (w : Int) : Nat → Int
  | 0 => 0
  | k + 1 => aBeg r w k + aTime r w k
def aPlay (s : aS) (r : aR) (k : Nat) : Int := plT s (atZ r.2.1 k).toInt (atZ r.2.2.1 k).toInt (atZ r.2.2.2.1 k).toInt
/-- when the last cue ahead of scene k has ended -/
noncomputable def aMus (s : aS) (r : aR) (w : Int) : Nat → Int
  | 0 => 0
  | k + 1 => cueI r k (max (aBeg r w k) (aMus s r w k) + aPlay s r k) (aMus s r w k)
noncomputable def aCb (s : aS) (r : aR) (w : Int) (k : Nat) : Int := max (aBeg r w k) (aMus s r w k)
noncomputable def aEnd (s : aS) (r : aR) (w : Int) (k : Nat) : Int := cueI r k (aMus s r w (k + 1)) 0
noncomputable def aDrift (s : aS) (r : aR) (w : Int) (k : Nat) : Int := cueI r k (aMus s r w (k + 1) - aBeg r w (k + 1)) 0
/-- sums over the first k scenes -/
def aSum (f : Nat → Int) : Nat → Int
  | 0 => 0
  | k + 1 => aSum f k + f k
noncomputable def aCue1 (r : aR) (k : Nat) : Int := cueI r k 1 0
noncomputable def aBad1 (s : aS) (r : aR) (w : Int) (k : Nat) : Int := if s.2.2.1.toInt < ((aDrift s r w k).natAbs : Int) then 1 else 0
noncomputable def aDs1 (s : aS) (r : aR) (w : Int) (k : Nat) : Int := ((aDrift s r w k).natAbs : Int)
def cueW (s : aS) (p k a : Int32) : Prop := (p = -2000001 ∧ k = 0 ∧ a = 0) ∨ (0 ≤ p.toInt ∧ p.toInt < s.2.1.1.length ∧ 1 ≤ k.toInt ∧ k.toInt ≤ 9 ∧ 80 ≤ a.toInt ∧ a.toInt ≤ 120)
/-- a reel in its ranges -/
def rlW (s : aS) (r : aR) : Prop := r.2.1.length = r.1.length ∧ r.2.2.1.length = r.1.length ∧ r.2.2.2.1.length = r.1.length ∧ r.1.length ≤ 10 ∧ (∀ x ∈ r.1, 1 ≤ x.toInt ∧ x.toInt ≤ 900) ∧ (∀ k : Nat, k < r.1.length → cueW s (atZ r.2.1 k) (atZ r.2.2.1 k) (atZ r.2.2.2.1 k)) ∧ spW r.2.2.2.2.1 ∧ slW r.2.2.2.2.2
def LIs (L : List Int32) (n : Nat) (f : Nat → Int) : Prop := L.length = n ∧ ∀ k : Nat, k < n → (atZ L k).toInt = f k
theorem LIs_nil {f : Nat → Int} : LIs [] 0 f := ⟨rfl, fun k h => absurd h (by omega)⟩
theorem LIs_app {L : List Int32} {n : Nat} {f : Nat → Int} {x : Int32} (h : LIs L n f) (hx : x.toInt = f n) : LIs (L ++ [x]) (n + 1) f := by
  refine ⟨by rw [List.length_append, h.1]; rfl, fun k hk => ?_⟩
  rw [atZ_in (by omega), Int.toNat_natCast, List.getD_eq_getElem?_getD]
  by_cases e : k < n
  · rw [List.getElem?_append_left (by rw [h.1]; exact e)]
    have := h.2 k e
    rw [atZ_in (by omega), Int.toNat_natCast, List.getD_eq_getElem?_getD] at this
    exact this
  · have e : k = n := by omega
    subst e
    rw [List.getElem?_append_right (by rw [h.1]; omega), h.1, Nat.sub_self]
    exact hx
theorem len_rng {s : aS} {r : aR} (h : rlW s r) {k : Nat} (hk : k < r.1.length) : 1 ≤ (atZ r.1 k).toInt ∧ (atZ r.1 k).toInt ≤ 900 := h.2.2.2.2.1 _ (atZ_mem (by omega) (by omega))
theorem aFirst_rng {s : aS} {r : aR} (h : rlW s r) : ∀ k : Nat, k ≤ r.1.length → 0 ≤ aFirst r k ∧ aFirst r k ≤ 900 * k
  | 0, _ => by simp [aFirst]
  | k + 1, hk => by
    have := aFirst_rng h k (by omega)
    have := len_rng h (show k < r.1.length by omega)
    show 0 ≤ aFirst r k + _ ∧ aFirst r k + _ ≤ _
    omega
theorem aTime_rng {s : aS} {r : aR} (h : rlW s r) {w : Int} (hw : w = 0 ∨ 10 ≤ w) {k : Nat} (hk : k < r.1.length) : 0 ≤ aTime r w k ∧ aTime r w k ≤ 14400 := by
  have h1 := len_rng h hk
  have h2 := aFirst_rng h k (by omega)
  have := tm_le (sl := r.2.2.2.2.2) h.2.2.2.2.2.2.1 hw h2.1 (atZ r.1 k).toInt.toNat
  unfold aTime
  omega
theorem aBeg_rng {s : aS} {r : aR} (h : rlW s r) {w : Int} (hw : w = 0 ∨ 10 ≤ w) : ∀ k : Nat, k ≤ r.1.length → 0 ≤ aBeg r w k ∧ aBeg r w k ≤ 14400 * k
  | 0, _ => by simp [aBeg]
  | k + 1, hk => by
    have := aBeg_rng h hw k (by omega)
    have := aTime_rng h hw (show k < r.1.length by omega)
    show 0 ≤ aBeg r w k + _ ∧ aBeg r w k + _ ≤ _
    omega
theorem cue_rng {s : aS} {r : aR} (h : rlW s r) {k : Nat} (hk : k < r.1.length) (hc : isCue r k) : 0 ≤ (atZ r.2.1 k).toInt ∧ (atZ r.2.1 k).toInt < s.2.1.1.length ∧ 1 ≤ (atZ r.2.2.1 k).toInt ∧ (atZ r.2.2.1 k).toInt ≤ 9 ∧ 80 ≤ (atZ r.2.2.2.1 k).toInt ∧ (atZ r.2.2.2.1 k).toInt ≤ 120 := by
  rcases h.2.2.2.2.2.1 k hk with e | e
  · exact absurd e.1 hc
  · exact e
theorem aPlay_rng {s : aS} {r : aR} (hp : pcW s) (h : rlW s r) {k : Nat} (hk : k < r.1.length) (hc : isCue r k) : 0 ≤ aPlay s r k ∧ aPlay s r k ≤ 15000 := by
  obtain ⟨c1, c2, c3, c4, c5, c6⟩ := cue_rng h hk hc
  exact plT_rng hp c1 c2 (by omega) c4 c5
theorem aMus_rng {s : aS} {r : aR} (hp : pcW s) (h : rlW s r) {w : Int} (hw : w = 0 ∨ 10 ≤ w) : ∀ k : Nat, k ≤ r.1.length → 0 ≤ aMus s r w k ∧ aMus s r w k ≤ 30000 * k
  | 0, _ => by simp [aMus]
  | k + 1, hk => by
    have i1 := aMus_rng hp h hw k (by omega)
    have i2 := aBeg_rng h hw k (by omega)
    unfold aMus
    by_cases hc : isCue r k
    · have := aPlay_rng hp h (show k < r.1.length by omega) hc
      rw [cueI_t hc]; omega
    · rw [cueI_f hc]; omega
theorem aDrift_rng {s : aS} {r : aR} (hp : pcW s) (h : rlW s r) {w : Int} (hw : w = 0 ∨ 10 ≤ w) {k : Nat} (hk : k < r.1.length) : -144000 ≤ aDrift s r w k ∧ aDrift s r w k ≤ 300000 := by
  have h4 := h.2.2.2.1
  have i1 := aMus_rng hp h hw (k + 1) (by omega)
  have i2 := aBeg_rng h hw (k + 1) (by omega)
  unfold aDrift
  by_cases hc : isCue r k
  · rw [cueI_t hc]; omega
  · rw [cueI_f hc]; omega
theorem aSum_rng {f : Nat → Int} {B : Int} {n : Nat} (h : ∀ k, k < n → 0 ≤ f k ∧ f k ≤ B) : ∀ k, k ≤ n → 0 ≤ aSum f k ∧ aSum f k ≤ B * k
  | 0, _ => by simp [aSum]
  | k + 1, hk => by
    have i := aSum_rng h k (by omega)
    have := h k (by omega)
    show 0 ≤ aSum f k + f k ∧ aSum f k + f k ≤ _
    rw [show B * ((k + 1 : Nat) : Int) = B * k + B by rw [Int.natCast_add, Int.mul_add]; simp]
    omega
/-- the rows and numbers of the scenes, n of them; of the cues -/
def TmA (T : jT) (V : jV) (q : Nat) (r : aR) (w : Int) (n : Nat) : Prop := RowOK T V (q + 1) 10 ∧ RowOK T V (q + 3) 10 ∧ RowOK T V (q + 5) 10 ∧ RowOK T V (q + 7) 10 ∧ LIs (Rw V (q + 1)) n (aFirst r) ∧ LIs (Rw V (q + 3)) n (aLost r) ∧ LIs (Rw V (q + 5)) n (aTime r w) ∧ LIs (Rw V (q + 7)) n (aBeg r w) ∧ (V q 7).toInt = aFirst r n ∧ (V q 8).toInt = aSum (aLost r) n ∧ (V q 9).toInt = aBeg r w n
def TmB (T : jT) (V : jV) (q : Nat) (s : aS) (r : aR) (w : Int) (n : Nat) : Prop := RowOK T V (q + 9) 10 ∧ RowOK T V (q + 11) 10 ∧ RowOK T V (q + 13) 10 ∧ LIs (Rw V (q + 9)) n (aCb s r w) ∧ LIs (Rw V (q + 11)) n (aEnd s r w) ∧ LIs (Rw V (q + 13)) n (aDrift s r w) ∧ (V q 10).toInt = aSum (aCue1 r) n ∧ (V q 11).toInt = aSum (aBad1 s r w) n ∧ (V q 12).toInt = aSum (aDs1 s r w) n ∧ (V q 13).toInt = aMus s r w n
def TmK (T : jT) (V : jV) (q : Nat) : Prop := T q = some (kTiming (q + 1) (q + 3) (q + 5) (q + 7) (q + 9) (q + 11) (q + 13)) ∧ RowOK T V (q + 1) 10 ∧ RowOK T V (q + 3) 10 ∧ RowOK T V (q + 5) 10 ∧ RowOK T V (q + 7) 10 ∧ RowOK T V (q + 9) 10 ∧ RowOK T V (q + 11) 10 ∧ RowOK T V (q + 13) 10
def TmIs (T : jT) (V : jV) (q : Nat) (s : aS) (r : aR) (w : Int) : Prop := T q = some (kTiming (q + 1) (q + 3) (q + 5) (q + 7) (q + 9) (q + 11) (q + 13)) ∧ TmA T V q r w r.1.length ∧ TmB T V q s r w r.1.length
theorem TmK.ag {T : jT} {V V' : jV} {q lo hi : Nat} (h : TmK T V q) (ha : jAg V V' lo hi) (hd : q + 15 ≤ lo ∨ hi ≤ q) : TmK T V' q := by
  obtain ⟨h0, h1, h2, h3, h4, h5, h6, h7⟩ := h
  exact ⟨h0, h1.ag ha (by omega), h2.ag ha (by omega), h3.ag ha (by omega), h4.ag ha (by omega), h5.ag ha (by omega), h6.ag ha (by omega), h7.ag ha (by omega)⟩
theorem TmA.ag {T : jT} {V V' : jV} {q lo hi n : Nat} {r : aR} {w : Int} (h : TmA T V q r w n) (ha : jAg V V' lo hi) (hd : q + 9 ≤ lo ∨ hi ≤ q) : TmA T V' q r w n := by
  obtain ⟨h1, h2, h3, h4, l1, l2, l3, l4, f1, f2, f3⟩ := h
  refine ⟨h1.ag ha (by omega), h2.ag ha (by omega), h3.ag ha (by omega), h4.ag ha (by omega), ?_, ?_, ?_, ?_, ?_, ?_, ?_⟩
  · rw [Rw_ag ha (by omega)]; exact l1
  · rw [Rw_ag ha (by omega)]; exact l2
  · rw [Rw_ag ha (by omega)]; exact l3
  · rw [Rw_ag ha (by omega)]; exact l4
  · rw [ha q (by omega)]; exact f1
  · rw [ha q (by omega)]; exact f2
  · rw [ha q (by omega)]; exact f3
theorem TmA.set {T : jT} {V : jV} {q n k : Nat} {r : aR} {w : Int} {v : Int32} (h : TmA T V q r w n) (hk : 10 ≤ k) : TmA T (jset V q k v) q r w n := by
  have ha : jAg V (jset V q k v) q (q + 1) := jAg.rf.set (by omega) (by omega)
  obtain ⟨h1, h2, h3, h4, l1, l2, l3, l4, f1, f2, f3⟩ := h
  refine ⟨h1.ag ha (by omega), h2.ag ha (by omega), h3.ag ha (by omega), h4.ag ha (by omega), ?_, ?_, ?_, ?_, ?_, ?_, ?_⟩
  · rw [Rw_ag ha (by omega)]; exact l1
  · rw [Rw_ag ha (by omega)]; exact l2
  · rw [Rw_ag ha (by omega)]; exact l3
  · rw [Rw_ag ha (by omega)]; exact l4
  · rw [jset_ne (Or.inr (by omega))]; exact f1
  · rw [jset_ne (Or.inr (by omega))]; exact f2
  · rw [jset_ne (Or.inr (by omega))]; exact f3
section JTiming
variable {l : Launch} {s0 : State} {D : jD} {T : jT} {V : jV} {X : jX} {sz : Nat}
set_option maxRecDepth 100000 in
set_option maxHeartbeats 4000000 in
theorem sp_X6_clear (hB : jB l s0 D) {q : Nat} {s : aS} {r : aR} {w : Int} (h : TmK T V q) : Sp l s0 D kX6_clear (jR 1 0 0) 0 0 [.ref q] T V X sz (qU T X sz (fun V' => TmA T V' q r w 0 ∧ TmB T V' q s r w 0 ∧ jAg V V' q (q + 15))) := by
  refine Sp.of pn_X6_clear rfl (Nat.le_of_ble_eq_true rfl) ?_
  obtain ⟨h0, h1, h2, h3, h4, h5, h6, h7⟩ := h
  refine j_aload_n dX6_clear_0 rfl ?_
  refine j_getr dX6_clear_1 hB fl_X6_14 (by first | exact h0 | exact h1.1 | exact h2.1 | exact h3.1 | exact h4.1 | exact h5.1 | exact h6.1 | exact h7.1) (by rfl) ?_
  refine j_cVu dX6_clear_4 hB mo_X3_clear ml_X6_79 (sp_X3_clear hB (h1)) (by first | exact h0 | exact h1.1 | exact h2.1 | exact h3.1 | exact h4.1 | exact h5.1 | exact h6.1 | exact h7.1) rfl rfl rfl rfl ⟨rfl, rfl, by decide, by decide⟩ (Nat.le_of_ble_eq_true rfl) ⟨by decide, by decide⟩ (fun V_4 h_4 => ?_)
  obtain ⟨g1, f1, a1⟩ := h_4
  refine j_aload_n dX6_clear_7 rfl ?_
  refine j_getr dX6_clear_8 hB fl_X6_20 (by first | exact h0 | exact h1.1 | exact h2.1 | exact h3.1 | exact h4.1 | exact h5.1 | exact h6.1 | exact h7.1) (by rfl) ?_
  refine j_cVu dX6_clear_11 hB mo_X3_clear ml_X6_79 (sp_X3_clear hB ((h2).ag a1 (by omega))) (by first | exact h0 | exact h1.1 | exact h2.1 | exact h3.1 | exact h4.1 | exact h5.1 | exact h6.1 | exact h7.1) rfl rfl rfl rfl ⟨rfl, rfl, by decide, by decide⟩ (Nat.le_of_ble_eq_true rfl) ⟨by decide, by decide⟩ (fun V_11 h_11 => ?_)
  obtain ⟨g3, f3, a3⟩ := h_11
  refine j_aload_n dX6_clear_14 rfl ?_
  refine j_getr dX6_clear_15 hB fl_X6_23 (by first | exact h0 | exact h1.1 | exact h2.1 | exact h3.1 | exact h4.1 | exact h5.1 | exact h6.1 | exact h7.1) (by rfl) ?_
  refine j_cVu dX6_clear_18 hB mo_X3_clear ml_X6_79 (sp_X3_clear hB (((h3).ag a1 (by omega)).ag a3 (by omega))) (by first | exact h0 | exact h1.1 | exact h2.1 | exact h3.1 | exact h4.1 | exact h5.1 | exact h6.1 | exact h7.1) rfl rfl rfl rfl ⟨rfl, rfl, by decide, by decide⟩ (Nat.le_of_ble_eq_true rfl) ⟨by decide, by decide⟩ (fun V_18 h_18 => ?_)
  obtain ⟨g5, f5, a5⟩ := h_18
  refine j_aload_n dX6_clear_21 rfl ?_
  refine j_getr dX6_clear_22 hB fl_X6_26 (by first | exact h0 | exact h1.1 | exact h2.1 | exact h3.1 | exact h4.1 | exact h5.1 | exact h6.1 | exact h7.1) (by rfl) ?_
  refine j_cVu dX6_clear_25 hB mo_X3_clear ml_X6_79 (sp_X3_clear hB ((((h4).ag a1 (by omega)).ag a3 (by omega)).ag a5 (by omega))) (by first | exact h0 | exact h1.1 | exact h2.1 | exact h3.1 | exact h4.1 | exact h5.1 | exact h6.1 | exact h7.1) rfl rfl rfl rfl ⟨rfl, rfl, by decide, by decide⟩ (Nat.le_of_ble_eq_true rfl) ⟨by decide, by decide⟩ (fun V_25 h_25 => ?_)
  obtain ⟨g7, f7, a7⟩ := h_25
  refine j_aload_n dX6_clear_28 rfl ?_
  refine j_getr dX6_clear_29 hB fl_X6_29 (by first | exact h0 | exact h1.1 | exact h2.1 | exact h3.1 | exact h4.1 | exact h5.1 | exact h6.1 | exact h7.1) (by rfl) ?_
  refine j_cVu dX6_clear_32 hB mo_X3_clear ml_X6_79 (sp_X3_clear hB (((((h5).ag a1 (by omega)).ag a3 (by omega)).ag a5 (by omega)).ag a7 (by omega))) (by first | exact h0 | exact h1.1 | exact h2.1 | exact h3.1 | exact h4.1 | exact h5.1 | exact h6.1 | exact h7.1) rfl rfl rfl rfl ⟨rfl, rfl, by decide, by decide⟩ (Nat.le_of_ble_eq_true rfl) ⟨by decide, by decide⟩ (fun V_32 h_32 => ?_)
  obtain ⟨g9, f9, a9⟩ := h_32
  refine j_aload_n dX6_clear_35 rfl ?_
  refine j_getr dX6_clear_36 hB fl_X6_32 (by first | exact h0 | exact h1.1 | exact h2.1 | exact h3.1 | exact h4.1 | exact h5.1 | exact h6.1 | exact h7.1) (by rfl) ?_
  refine j_cVu dX6_clear_39 hB mo_X3_clear ml_X6_79 (sp_X3_clear hB ((((((h6).ag a1 (by omega)).ag a3 (by omega)).ag a5 (by omega)).ag a7 (by omega)).ag a9 (by omega))) (by first | exact h0 | exact h1.1 | exact h2.1 | exact h3.1 | exact h4.1 | exact h5.1 | exact h6.1 | exact h7.1) rfl rfl rfl rfl ⟨rfl, rfl, by decide, by decide⟩ (Nat.le_of_ble_eq_true rfl) ⟨by decide, by decide⟩ (fun V_39 h_39 => ?_)
  obtain ⟨g11, f11, a11⟩ := h_39
  refine j_aload_n dX6_clear_42 rfl ?_
  refine j_getr dX6_clear_43 hB fl_X6_35 (by first | exact h0 | exact h1.1 | exact h2.1 | exact h3.1 | exact h4.1 | exact h5.1 | exact h6.1 | exact h7.1) (by rfl) ?_
  refine j_cVu dX6_clear_46 hB mo_X3_clear ml_X6_79 (sp_X3_clear hB (((((((h7).ag a1 (by omega)).ag a3 (by omega)).ag a5 (by omega)).ag a7 (by omega)).ag a9 (by omega)).ag a11 (by omega))) (by first | exact h0 | exact h1.1 | exact h2.1 | exact h3.1 | exact h4.1 | exact h5.1 | exact h6.1 | exact h7.1) rfl rfl rfl rfl ⟨rfl, rfl, by decide, by decide⟩ (Nat.le_of_ble_eq_true rfl) ⟨by decide, by decide⟩ (fun V_46 h_46 => ?_)
  obtain ⟨g13, f13, a13⟩ := h_46
  refine j_aload_n dX6_clear_49 rfl ?_
  refine j_iconst (v := 0) dX6_clear_50 (by decide) ?_
  refine j_puti dX6_clear_51 hB fp_X6_clear_47 (by first | exact h0 | exact h1.1 | exact h2.1 | exact h3.1 | exact h4.1 | exact h5.1 | exact h6.1 | exact h7.1) (by rfl) ?_
  refine j_aload_n dX6_clear_54 rfl ?_
  refine j_iconst (v := 0) dX6_clear_55 (by decide) ?_
  refine j_puti dX6_clear_56 hB fp_X6_clear_72 (by first | exact h0 | exact h1.1 | exact h2.1 | exact h3.1 | exact h4.1 | exact h5.1 | exact h6.1 | exact h7.1) (by rfl) ?_
  refine j_aload_n dX6_clear_59 rfl ?_
  refine j_iconst (v := 0) dX6_clear_60 (by decide) ?_
  refine j_puti dX6_clear_61 hB fp_X6_clear_69 (by first | exact h0 | exact h1.1 | exact h2.1 | exact h3.1 | exact h4.1 | exact h5.1 | exact h6.1 | exact h7.1) (by rfl) ?_
  refine j_aload_n dX6_clear_64 rfl ?_
  refine j_iconst (v := 0) dX6_clear_65 (by decide) ?_
  refine j_puti dX6_clear_66 hB fp_X6_clear_80 (by first | exact h0 | exact h1.1 | exact h2.1 | exact h3.1 | exact h4.1 | exact h5.1 | exact h6.1 | exact h7.1) (by rfl) ?_
  refine j_aload_n dX6_clear_69 rfl ?_
  refine j_iconst (v := 0) dX6_clear_70 (by decide) ?_
  refine j_puti dX6_clear_71 hB fp_X6_clear_83 (by first | exact h0 | exact h1.1 | exact h2.1 | exact h3.1 | exact h4.1 | exact h5.1 | exact h6.1 | exact h7.1) (by rfl) ?_
  refine j_aload_n dX6_clear_74 rfl ?_
  refine j_iconst (v := 0) dX6_clear_75 (by decide) ?_
  refine j_puti dX6_clear_76 hB fp_X6_clear_86 (by first | exact h0 | exact h1.1 | exact h2.1 | exact h3.1 | exact h4.1 | exact h5.1 | exact h6.1 | exact h7.1) (by rfl) ?_
  refine j_aload_n dX6_clear_79 rfl ?_
  refine j_iconst (v := 0) dX6_clear_80 (by decide) ?_
  refine j_puti dX6_clear_81 hB fp_X6_clear_89 (by first | exact h0 | exact h1.1 | exact h2.1 | exact h3.1 | exact h4.1 | exact h5.1 | exact h6.1 | exact h7.1) (by rfl) ?_
  refine j_vret dX6_clear_84 rfl (by decide) (by decide) ?_
  refine ⟨rfl, rfl, rfl, rfl, ?_⟩
  generalize hVF : jset (jset (jset (jset (jset (jset (jset V_46 q 7 0) q 8 0) q 9 0) q 10 0) q 11 0) q 12 0) q 13 0 = VF
  have aF : jAg V_46 VF q (q + 1) := by
    rw [← hVF]
    exact (((((((jAg.rf.set (Nat.le_refl q) (Nat.lt_succ_self q)).set (Nat.le_refl q) (Nat.lt_succ_self q)).set (Nat.le_refl q) (Nat.lt_succ_self q)).set (Nat.le_refl q) (Nat.lt_succ_self q)).set (Nat.le_refl q) (Nat.lt_succ_self q)).set (Nat.le_refl q) (Nat.lt_succ_self q)).set (Nat.le_refl q) (Nat.lt_succ_self q))
  have hz : VF q 7 = 0 ∧ VF q 8 = 0 ∧ VF q 9 = 0 ∧ VF q 10 = 0 ∧ VF q 11 = 0 ∧ VF q 12 = 0 ∧ VF q 13 = 0 := by rw [← hVF]; simp [jset]
  obtain ⟨z7, z8, z9, z10, z11, z12, z13⟩ := hz
  refine ⟨⟨(((((((g1).ag a3 (by omega)).ag a5 (by omega)).ag a7 (by omega)).ag a9 (by omega)).ag a11 (by omega)).ag a13 (by omega)).ag aF (by omega), ((((((g3).ag a5 (by omega)).ag a7 (by omega)).ag a9 (by omega)).ag a11 (by omega)).ag a13 (by omega)).ag aF (by omega), (((((g5).ag a7 (by omega)).ag a9 (by omega)).ag a11 (by omega)).ag a13 (by omega)).ag aF (by omega), ((((g7).ag a9 (by omega)).ag a11 (by omega)).ag a13 (by omega)).ag aF (by omega), by rw [Rw_ag aF (by omega), Rw_ag a13 (by omega), Rw_ag a11 (by omega), Rw_ag a9 (by omega), Rw_ag a7 (by omega), Rw_ag a5 (by omega), Rw_ag a3 (by omega), f1]; exact LIs_nil, by rw [Rw_ag aF (by omega), Rw_ag a13 (by omega), Rw_ag a11 (by omega), Rw_ag a9 (by omega), Rw_ag a7 (by omega), Rw_ag a5 (by omega), f3]; exact LIs_nil, by rw [Rw_ag aF (by omega), Rw_ag a13 (by omega), Rw_ag a11 (by omega), Rw_ag a9 (by omega), Rw_ag a7 (by omega), f5]; exact LIs_nil, by rw [Rw_ag aF (by omega), Rw_ag a13 (by omega), Rw_ag a11 (by omega), Rw_ag a9 (by omega), f7]; exact LIs_nil, by rw [z7]; rfl, by rw [z8]; rfl, by rw [z9]; rfl⟩, ⟨(((g9).ag a11 (by omega)).ag a13 (by omega)).ag aF (by omega), ((g11).ag a13 (by omega)).ag aF (by omega), (g13).ag aF (by omega), by rw [Rw_ag aF (by omega), Rw_ag a13 (by omega), Rw_ag a11 (by omega), f9]; exact LIs_nil, by rw [Rw_ag aF (by omega), Rw_ag a13 (by omega), f11]; exact LIs_nil, by rw [Rw_ag aF (by omega), f13]; exact LIs_nil, by rw [z10]; rfl, by rw [z11]; rfl, by rw [z12]; rfl, by rw [z13]; rfl⟩, ?_⟩
  exact (((((((a1.wide (lo' := q) (hi' := q + 15) (by omega) (by omega)).tr (a3.wide (by omega) (by omega))).tr (a5.wide (by omega) (by omega))).tr (a7.wide (by omega) (by omega))).tr (a9.wide (by omega) (by omega))).tr (a11.wide (by omega) (by omega))).tr (a13.wide (by omega) (by omega))).tr (aF.wide (by omega) (by omega))
end JTiming
