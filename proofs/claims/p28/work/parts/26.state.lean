/-! CueSheets$State: reels at q + 1, q + 20, q + 39, rows at q + 58 (openings), q + 60 (strains), q + 62 (closes), tolerance, leeway -/
abbrev aS : Type := (aR × aR × aR) × (List Int32 × List Int32 × List Int32) × (Int32 × Int32)
/-- a reel by its number -/
def sR (s : aS) (z : Int) : aR := if z = 0 then s.1.1 else if z = 1 then s.1.2.1 else s.1.2.2
def reelA (q : Nat) (z : Int) : Nat := if z = 0 then q + 1 else if z = 1 then q + 20 else q + 39
def StOK (T : jT) (V : jV) (q : Nat) (s : aS) : Prop := T q = some (kState (q + 1) (q + 20) (q + 39) (q + 58) (q + 60) (q + 62)) ∧ ReelOK T V (q + 1) s.1.1 ∧ ReelOK T V (q + 20) s.1.2.1 ∧ ReelOK T V (q + 39) s.1.2.2 ∧ RowOK T V (q + 58) 8 ∧ RowOK T V (q + 60) 8 ∧ RowOK T V (q + 62) 8 ∧ Rw V (q + 58) = s.2.1.1 ∧ Rw V (q + 60) = s.2.1.2.1 ∧ Rw V (q + 62) = s.2.1.2.2 ∧ V q 6 = s.2.2.1 ∧ V q 7 = s.2.2.2
theorem StOK.ag {T : jT} {V V' : jV} {q lo hi : Nat} {s : aS} (h : StOK T V q s) (ha : jAg V V' lo hi) (hd : q + 64 ≤ lo ∨ hi ≤ q) : StOK T V' q s := by
  obtain ⟨h0, h1, h2, h3, h4, h5, h6, e1, e2, e3, e4, e5⟩ := h
  exact ⟨h0, h1.ag ha (by omega), h2.ag ha (by omega), h3.ag ha (by omega), h4.ag ha (by omega), h5.ag ha (by omega), h6.ag ha (by omega), by rw [Rw_ag ha (by omega)]; exact e1, by rw [Rw_ag ha (by omega)]; exact e2, by rw [Rw_ag ha (by omega)]; exact e3, by rw [ha q (by omega)]; exact e4, by rw [ha q (by omega)]; exact e5⟩
theorem StOK.reel {T : jT} {V : jV} {q : Nat} {s : aS} (h : StOK T V q s) (z : Int) : ReelOK T V (reelA q z) (sR s z) := by
  unfold reelA sR
  split
  · exact h.2.1
  · split
    · exact h.2.2.1
    · exact h.2.2.2.1
/-- a state with one reel set -/
def sSet (s : aS) (z : Int) (r : aR) : aS := if z = 0 then ((r, s.1.2.1, s.1.2.2), s.2) else if z = 1 then ((s.1.1, r, s.1.2.2), s.2) else ((s.1.1, s.1.2.1, r), s.2)
theorem reelA_in (q : Nat) (z : Int) : q + 1 ≤ reelA q z ∧ reelA q z + 19 ≤ q + 58 := by
  unfold reelA; split <;> (try split) <;> omega
theorem StOK.setReel {T : jT} {V V' : jV} {q : Nat} {s : aS} (h : StOK T V q s) {z : Int} {r : aR} (ha : jAg V V' (reelA q z) (reelA q z + 19)) (hr : ReelOK T V' (reelA q z) r) : StOK T V' q (sSet s z r) := by
  have hin := reelA_in q z
  obtain ⟨h0, h1, h2, h3, h4, h5, h6, e1, e2, e3, e4, e5⟩ := h
  have k4 := h4.ag ha (by omega)
  have k5 := h5.ag ha (by omega)
  have k6 := h6.ag ha (by omega)
  rw [← Rw_ag ha (by omega)] at e1 e2 e3
  rw [← ha q (by omega)] at e4 e5
  unfold sSet
  unfold reelA at ha hr
  by_cases z0 : z = 0
  · rw [if_pos z0] at ha hr ⊢
    exact ⟨h0, hr, h2.ag ha (by omega), h3.ag ha (by omega), k4, k5, k6, e1, e2, e3, e4, e5⟩
  · rw [if_neg z0] at ha hr ⊢
    by_cases z1 : z = 1
    · rw [if_pos z1] at ha hr ⊢
      exact ⟨h0, h1.ag ha (by omega), hr, h3.ag ha (by omega), k4, k5, k6, e1, e2, e3, e4, e5⟩
    · rw [if_neg z1] at ha hr ⊢
      exact ⟨h0, h1.ag ha (by omega), h2.ag ha (by omega), hr, k4, k5, k6, e1, e2, e3, e4, e5⟩
theorem ti_abs {x : Int32} (h : -2147483648 < x.toInt) : (if 0 ≤ x then x else 0 - x).toInt = x.toInt.natAbs := by
  split
  · rename_i h1; have := ti_le h1; rw [ti_0] at this; omega
  · rename_i h1
    have h2 := ti_nle h1
    rw [ti_0] at h2
    rw [ti_sub (by rw [ti_0]; omega) (by rw [ti_0]; omega), ti_0]; omega
theorem div_ti {w pa : Int32} (h0 : 0 ≤ w.toInt) : (w / pa).toInt = w.toInt / pa.toInt := by
  have ne : w ≠ Int32.minValue := fun z => by rw [z] at h0; exact absurd h0 (by decide)
  rw [Int32.toInt_div_of_ne_left _ _ ne, Int.tdiv_eq_ediv_of_nonneg h0]
section JState
variable {l : Launch} {s0 : State} {D : jD} {T : jT} {V : jV} {X : jX} {sz : Nat}
set_option maxRecDepth 100000 in
set_option maxHeartbeats 4000000 in
theorem sp_X5_reelAt (hB : jB l s0 D) {q : Nat} {s : aS} {i : Int32} (h : StOK T V q s) : Sp l s0 D kX5_reelAt (jR 0 0 0) 0 0 [.ref q, .int i] T V X sz (qA T X sz (fun r V' => V = V' ∧ r = some (reelA q i.toInt))) := by
  refine Sp.of pn_X5_reelAt rfl (Nat.le_of_ble_eq_true rfl) ?_
  refine j_iload_n dX5_reelAt_0 rfl ?_
  refine j_if_ne (tgt := 11) dX5_reelAt_1 (by decide) (fun c_1 => ?_) (fun c_1 => ?_)
  · refine j_iload_n dX5_reelAt_11 rfl ?_
    refine j_iconst (v := 1) dX5_reelAt_12 (by decide) ?_
    refine j_icmp_ne (tgt := 23) dX5_reelAt_13 (by decide) (fun c_13 => ?_) (fun c_13 => ?_)
    · refine j_aload_n dX5_reelAt_23 rfl ?_
      refine j_getr dX5_reelAt_24 hB fl_X5_21 (by first | exact h.1 | exact h.2.2.2.2.1.1 | exact h.2.2.2.2.2.1.1 | exact h.2.2.2.2.2.2.1.1) (by rfl) ?_
      refine j_aret (r := some _) dX5_reelAt_27 rfl (Or.inl ⟨_, rfl⟩) (by decide) (by decide) ?_
      refine ⟨some _, rfl, rfl, rfl, rfl, rfl, ?_⟩
      unfold reelA
      first
        | (rw [if_pos (by rw [c_1, ti_0])]; done)
        | (rw [if_neg (fun z => c_1 (Int32.toInt_inj.mp (z.trans ti_0.symm))), if_pos (by rw [c_13, ti_1])]; done)
        | rw [if_neg (fun z => c_1 (Int32.toInt_inj.mp (z.trans ti_0.symm))), if_neg (fun z => c_13 (Int32.toInt_inj.mp (z.trans ti_1.symm)))]
    · refine j_aload_n dX5_reelAt_16 rfl ?_
      refine j_getr dX5_reelAt_17 hB fl_X5_18 (by first | exact h.1 | exact h.2.2.2.2.1.1 | exact h.2.2.2.2.2.1.1 | exact h.2.2.2.2.2.2.1.1) (by rfl) ?_
      refine j_goto (tgt := 27) dX5_reelAt_20 (by decide) ?_
      refine j_aret (r := some _) dX5_reelAt_27 rfl (Or.inl ⟨_, rfl⟩) (by decide) (by decide) ?_
      refine ⟨some _, rfl, rfl, rfl, rfl, rfl, ?_⟩
      unfold reelA
      first
        | (rw [if_pos (by rw [c_1, ti_0])]; done)
        | (rw [if_neg (fun z => c_1 (Int32.toInt_inj.mp (z.trans ti_0.symm))), if_pos (by rw [c_13, ti_1])]; done)
        | rw [if_neg (fun z => c_1 (Int32.toInt_inj.mp (z.trans ti_0.symm))), if_neg (fun z => c_13 (Int32.toInt_inj.mp (z.trans ti_1.symm)))]
  · refine j_aload_n dX5_reelAt_4 rfl ?_
    refine j_getr dX5_reelAt_5 hB fl_X5_12 (by first | exact h.1 | exact h.2.2.2.2.1.1 | exact h.2.2.2.2.2.1.1 | exact h.2.2.2.2.2.2.1.1) (by rfl) ?_
    refine j_goto (tgt := 27) dX5_reelAt_8 (by decide) ?_
    refine j_aret (r := some _) dX5_reelAt_27 rfl (Or.inl ⟨_, rfl⟩) (by decide) (by decide) ?_
    refine ⟨some _, rfl, rfl, rfl, rfl, rfl, ?_⟩
    unfold reelA
    first
      | (rw [if_pos (by rw [c_1, ti_0])]; done)
      | (rw [if_neg (fun z => c_1 (Int32.toInt_inj.mp (z.trans ti_0.symm))), if_pos (by rw [c_13, ti_1])]; done)
      | rw [if_neg (fun z => c_1 (Int32.toInt_inj.mp (z.trans ti_0.symm))), if_neg (fun z => c_13 (Int32.toInt_inj.mp (z.trans ti_1.symm)))]
set_option maxRecDepth 100000 in
set_option maxHeartbeats 4000000 in
theorem sp_X5_pieces (hB : jB l s0 D) {q : Nat} {s : aS} (h : StOK T V q s) : Sp l s0 D kX5_pieces (jR 1 0 0) 0 0 [.ref q] T V X sz (qI T X sz (fun r V' => V = V' ∧ r.toInt = s.2.1.1.length)) := by
  refine Sp.of pn_X5_pieces rfl (Nat.le_of_ble_eq_true rfl) ?_
  refine j_aload_n dX5_pieces_0 rfl ?_
  refine j_getr dX5_pieces_1 hB fl_X5_29 (by first | exact h.1 | exact h.2.2.2.2.1.1 | exact h.2.2.2.2.2.1.1 | exact h.2.2.2.2.2.2.1.1) (by rfl) ?_
  refine j_cVi dX5_pieces_4 hB mo_X3_size ml_X5_46 (sp_X3_size hB h.2.2.2.2.1) (by first | exact h.1 | exact h.2.2.2.2.1.1 | exact h.2.2.2.2.2.1.1 | exact h.2.2.2.2.2.2.1.1) rfl rfl rfl rfl ⟨rfl, rfl, by decide, by decide⟩ (Nat.le_of_ble_eq_true rfl) ⟨by decide, by decide⟩ (fun r_4 V_4 h_4 => ?_)
  obtain ⟨rfl, hr⟩ := h_4
  refine j_iret dX5_pieces_7 rfl (rfl) (by decide) (by decide) ?_
  exact ⟨_, rfl, rfl, rfl, rfl, rfl, by rw [hr, h.2.2.2.2.2.2.2.1]⟩
set_option maxRecDepth 100000 in
set_option maxHeartbeats 4000000 in
theorem sp_X5_hasPiece (hB : jB l s0 D) {q : Nat} {s : aS} {i : Int32} (h : StOK T V q s) : Sp l s0 D kX5_hasPiece (jR 2 0 0) 0 0 [.ref q, .int i] T V X sz (qI T X sz (fun r V' => V = V' ∧ (r = 1 ∧ (0 ≤ i.toInt ∧ i.toInt < s.2.1.1.length) ∨ r = 0 ∧ ¬ (0 ≤ i.toInt ∧ i.toInt < s.2.1.1.length)))) := by
  refine Sp.of pn_X5_hasPiece rfl (Nat.le_of_ble_eq_true rfl) ?_
  refine j_iload_n dX5_hasPiece_0 rfl ?_
  refine j_if_lt (tgt := 16) dX5_hasPiece_1 (by decide) (fun c_1 => ?_) (fun c_1 => ?_)
  · refine j_iconst (v := 0) dX5_hasPiece_16 (by decide) ?_
    refine j_iret dX5_hasPiece_17 rfl (rfl) (by decide) (by decide) ?_
    refine ⟨_, rfl, rfl, rfl, rfl, rfl, ?_⟩
    first | exact Or.inl ⟨rfl, by omega⟩ | exact Or.inr ⟨rfl, by omega⟩
  · refine j_iload_n dX5_hasPiece_4 rfl ?_
    refine j_aload_n dX5_hasPiece_5 rfl ?_
    refine j_cVi dX5_hasPiece_6 hB mo_X5_pieces ml_X5_50 (sp_X5_pieces hB h) (by first | exact h.1 | exact h.2.2.2.2.1.1 | exact h.2.2.2.2.2.1.1 | exact h.2.2.2.2.2.2.1.1) rfl rfl rfl rfl ⟨rfl, rfl, by decide, by decide⟩ (Nat.le_of_ble_eq_true rfl) ⟨by decide, by decide⟩ (fun r_6 V_6 h_6 => ?_)
    obtain ⟨rfl, hr⟩ := h_6
    refine j_icmp_ge (tgt := 16) dX5_hasPiece_9 (by decide) (fun c_9 => ?_) (fun c_9 => ?_)
    · refine j_iconst (v := 0) dX5_hasPiece_16 (by decide) ?_
      refine j_iret dX5_hasPiece_17 rfl (rfl) (by decide) (by decide) ?_
      refine ⟨_, rfl, rfl, rfl, rfl, rfl, ?_⟩
      first | exact Or.inl ⟨rfl, by omega⟩ | exact Or.inr ⟨rfl, by omega⟩
    · refine j_iconst (v := 1) dX5_hasPiece_12 (by decide) ?_
      refine j_goto (tgt := 17) dX5_hasPiece_13 (by decide) ?_
      refine j_iret dX5_hasPiece_17 rfl (rfl) (by decide) (by decide) ?_
      refine ⟨_, rfl, rfl, rfl, rfl, rfl, ?_⟩
      first | exact Or.inl ⟨rfl, by omega⟩ | exact Or.inr ⟨rfl, by omega⟩
set_option maxRecDepth 100000 in
set_option maxHeartbeats 4000000 in
theorem sp_X5_timeAtPace (hB : jB l s0 D) {w pa : Int32} (h0 : 0 ≤ w.toInt) (h1 : w.toInt ≤ 20000) (hp : 1 ≤ pa.toInt) : Sp l s0 D kX5_timeAtPace (jR 0 0 0) 0 0 [.int w, .int pa] T V X sz (qI T X sz (fun r V' => V = V' ∧ r.toInt = w.toInt * 100 / pa.toInt)) := by
  refine Sp.of pn_X5_timeAtPace rfl (Nat.le_of_ble_eq_true rfl) ?_
  have h100 : (100 : Int32).toInt = 100 := by decide
  have hm : (w * 100).toInt = w.toInt * 100 := by rw [ti_mul (by rw [h100]; omega) (by rw [h100]; omega), h100]
  refine j_iload_n dX5_timeAtPace_0 rfl ?_
  refine j_if_gt (tgt := 8) dX5_timeAtPace_1 (by decide) (fun c_1 => ?_) (fun c_1 => ?_)
  · refine j_iload_n dX5_timeAtPace_8 rfl ?_
    refine j_bipush (v := 100) dX5_timeAtPace_9 (by decide) ?_
    refine j_imul dX5_timeAtPace_11 ?_
    refine j_iload_n dX5_timeAtPace_12 rfl ?_
    refine j_idiv dX5_timeAtPace_13 (fun z => by rw [z, ti_0] at hp; omega) ?_
    refine j_iret dX5_timeAtPace_14 rfl (rfl) (by decide) (by decide) ?_
    refine ⟨_, rfl, rfl, rfl, rfl, rfl, ?_⟩
    rw [div_ti (by omega), hm]
  · exact absurd c_1 (by omega)
/-- the pieces in their ranges -/
def pcW (s : aS) : Prop := s.2.1.2.1.length = s.2.1.1.length ∧ s.2.1.2.2.length = s.2.1.1.length ∧ (∀ x ∈ s.2.1.1, 0 ≤ x.toInt ∧ x.toInt ≤ 600) ∧ (∀ x ∈ s.2.1.2.1, 10 ≤ x.toInt ∧ x.toInt ≤ 1200) ∧ (∀ x ∈ s.2.1.2.2, 0 ≤ x.toInt ∧ x.toInt ≤ 600)
/-- how long a piece plays, written: with k strains at pace 100 -/
def wrT (s : aS) (i k : Int) : Int := (atZ s.2.1.1 i).toInt + k * (atZ s.2.1.2.1 i).toInt + (atZ s.2.1.2.2 i).toInt
def plT (s : aS) (i k pa : Int) : Int := wrT s i k * 100 / pa
theorem atZ_mem {L : List Int32} {i : Int} (h0 : 0 ≤ i) (h1 : i < L.length) : atZ L i ∈ L := by
  rw [atZ_in h0, List.getD_eq_getElem?_getD, List.getElem?_eq_getElem (by omega)]
  exact List.getElem_mem _
theorem pcW_at {s : aS} (h : pcW s) {i : Int} (h0 : 0 ≤ i) (h1 : i < s.2.1.1.length) : 0 ≤ (atZ s.2.1.1 i).toInt ∧ (atZ s.2.1.1 i).toInt ≤ 600 ∧ 10 ≤ (atZ s.2.1.2.1 i).toInt ∧ (atZ s.2.1.2.1 i).toInt ≤ 1200 ∧ 0 ≤ (atZ s.2.1.2.2 i).toInt ∧ (atZ s.2.1.2.2 i).toInt ≤ 600 := by
  obtain ⟨a, b, c, d, e⟩ := h
  have x1 := c _ (atZ_mem h0 h1)
  have x2 := d _ (atZ_mem h0 (show i < s.2.1.2.1.length by omega))
  have x3 := e _ (atZ_mem h0 (show i < s.2.1.2.2.length by omega))
  exact ⟨x1.1, x1.2, x2.1, x2.2, x3.1, x3.2⟩
theorem mul_rng {k x : Int} (k0 : 0 ≤ k) (k1 : k ≤ 9) (x0 : 0 ≤ x) (x1 : x ≤ 1200) : 0 ≤ k * x ∧ k * x ≤ 10800 := by
  constructor
  · exact Int.mul_nonneg k0 x0
  · have := Int.mul_le_mul k1 x1 x0 (by omega : (0 : Int) ≤ 9)
    omega
theorem wrT_rng {s : aS} (h : pcW s) {i k : Int} (h0 : 0 ≤ i) (h1 : i < s.2.1.1.length) (k0 : 0 ≤ k) (k1 : k ≤ 9) : 0 ≤ wrT s i k ∧ wrT s i k ≤ 12000 := by
  obtain ⟨a, b, c, d, e, f⟩ := pcW_at h h0 h1
  have := mul_rng k0 k1 (show 0 ≤ (atZ s.2.1.2.1 i).toInt by omega) d
  unfold wrT
  omega
theorem plT_rng {s : aS} (h : pcW s) {i k pa : Int} (h0 : 0 ≤ i) (h1 : i < s.2.1.1.length) (k0 : 0 ≤ k) (k1 : k ≤ 9) (p0 : 80 ≤ pa) : 0 ≤ plT s i k pa ∧ plT s i k pa ≤ 15000 := by
  have := wrT_rng h h0 h1 k0 k1
  unfold plT
  constructor
  · exact Int.ediv_nonneg (by omega) (by omega)
  · have h9 : wrT s i k * 100 / pa < 15001 := Int.ediv_lt_of_lt_mul (by omega) (by omega)
    omega
set_option maxRecDepth 100000 in
set_option maxHeartbeats 4000000 in
theorem sp_X5_playTime (hB : jB l s0 D) {q : Nat} {s : aS} {i k pa : Int32} (h : StOK T V q s) (hw : pcW s) (h0 : 0 ≤ i.toInt) (h1 : i.toInt < s.2.1.1.length) (k0 : 0 ≤ k.toInt) (k1 : k.toInt ≤ 9) (p0 : 80 ≤ pa.toInt) : Sp l s0 D kX5_playTime (jR 1 0 0) 0 0 [.ref q, .int i, .int k, .int pa] T V X sz (qI T X sz (fun r V' => V = V' ∧ r.toInt = plT s i.toInt k.toInt pa.toInt)) := by
  refine Sp.of pn_X5_playTime rfl (Nat.le_of_ble_eq_true rfl) ?_
  obtain ⟨a, b, c, d, e, f⟩ := pcW_at hw h0 h1
  have hm := mul_rng k0 k1 (show 0 ≤ (atZ s.2.1.2.1 i.toInt).toInt by omega) d
  have hwr := wrT_rng hw h0 h1 k0 k1
  have t1 : (k * atZ s.2.1.2.1 i.toInt).toInt = k.toInt * (atZ s.2.1.2.1 i.toInt).toInt := ti_mul (by omega) (by omega)
  have t2 : (atZ s.2.1.1 i.toInt + k * atZ s.2.1.2.1 i.toInt).toInt = (atZ s.2.1.1 i.toInt).toInt + k.toInt * (atZ s.2.1.2.1 i.toInt).toInt := by rw [ti_add (by omega) (by omega), t1]
  have t3 : (atZ s.2.1.1 i.toInt + k * atZ s.2.1.2.1 i.toInt + atZ s.2.1.2.2 i.toInt).toInt = wrT s i.toInt k.toInt := by rw [ti_add (by omega) (by omega), t2]; rfl
  refine j_aload_n dX5_playTime_0 rfl ?_
  refine j_getr dX5_playTime_1 hB fl_X5_29 (by first | exact h.1 | exact h.2.2.2.2.1.1 | exact h.2.2.2.2.2.1.1 | exact h.2.2.2.2.2.2.1.1) (by rfl) ?_
  refine j_iload_n dX5_playTime_4 rfl ?_
  refine j_cVi dX5_playTime_5 hB mo_X3_at ml_X5_59 (sp_X3_at hB (h.2.2.2.2.1)) (by first | exact h.1 | exact h.2.2.2.2.1.1 | exact h.2.2.2.2.2.1.1 | exact h.2.2.2.2.2.2.1.1) rfl rfl rfl rfl ⟨rfl, rfl, by decide, by decide⟩ (Nat.le_of_ble_eq_true rfl) ⟨by decide, by decide⟩ (fun r_5 V_5 h_5 => ?_)
  obtain ⟨rfl, x1⟩ := h_5
  rw [h.2.2.2.2.2.2.2.1] at x1
  subst x1
  refine j_iload_n dX5_playTime_8 rfl ?_
  refine j_aload_n dX5_playTime_9 rfl ?_
  refine j_getr dX5_playTime_10 hB fl_X5_33 (by first | exact h.1 | exact h.2.2.2.2.1.1 | exact h.2.2.2.2.2.1.1 | exact h.2.2.2.2.2.2.1.1) (by rfl) ?_
  refine j_iload_n dX5_playTime_13 rfl ?_
  refine j_cVi dX5_playTime_14 hB mo_X3_at ml_X5_59 (sp_X3_at hB (h.2.2.2.2.2.1)) (by first | exact h.1 | exact h.2.2.2.2.1.1 | exact h.2.2.2.2.2.1.1 | exact h.2.2.2.2.2.2.1.1) rfl rfl rfl rfl ⟨rfl, rfl, by decide, by decide⟩ (Nat.le_of_ble_eq_true rfl) ⟨by decide, by decide⟩ (fun r_14 V_14 h_14 => ?_)
  obtain ⟨rfl, x2⟩ := h_14
  rw [h.2.2.2.2.2.2.2.2.1] at x2
  subst x2
  refine j_imul dX5_playTime_17 ?_
  refine j_iadd dX5_playTime_18 ?_
  refine j_aload_n dX5_playTime_19 rfl ?_
  refine j_getr dX5_playTime_20 hB fl_X5_36 (by first | exact h.1 | exact h.2.2.2.2.1.1 | exact h.2.2.2.2.2.1.1 | exact h.2.2.2.2.2.2.1.1) (by rfl) ?_
  refine j_iload_n dX5_playTime_23 rfl ?_
  refine j_cVi dX5_playTime_24 hB mo_X3_at ml_X5_59 (sp_X3_at hB (h.2.2.2.2.2.2.1)) (by first | exact h.1 | exact h.2.2.2.2.1.1 | exact h.2.2.2.2.2.1.1 | exact h.2.2.2.2.2.2.1.1) rfl rfl rfl rfl ⟨rfl, rfl, by decide, by decide⟩ (Nat.le_of_ble_eq_true rfl) ⟨by decide, by decide⟩ (fun r_24 V_24 h_24 => ?_)
  obtain ⟨rfl, x3⟩ := h_24
  rw [h.2.2.2.2.2.2.2.2.2.1] at x3
  subst x3
  refine j_iadd dX5_playTime_27 ?_
  refine j_iload_n dX5_playTime_28 rfl ?_
  refine j_cSi dX5_playTime_29 hB mo_X5_timeAtPace ml_X5_63 (sp_X5_timeAtPace hB (by omega) (by omega) (by omega)) rfl rfl ⟨rfl, rfl, by decide, by decide⟩ (Nat.le_of_ble_eq_true rfl) ⟨by decide, by decide⟩ (fun r_29 V_29 h_29 => ?_)
  obtain ⟨rfl, hr⟩ := h_29
  refine j_iret dX5_playTime_32 rfl (rfl) (by decide) (by decide) ?_
  exact ⟨_, rfl, rfl, rfl, rfl, rfl, by rw [hr, t3]; rfl⟩
set_option maxRecDepth 100000 in
set_option maxHeartbeats 4000000 in
theorem sp_X5_isBad (hB : jB l s0 D) {q : Nat} {s : aS} {x : Int32} (h : StOK T V q s) (hx : -2147483648 < x.toInt) : Sp l s0 D kX5_isBad (jR 1 0 0) 0 0 [.ref q, .int x] T V X sz (qI T X sz (fun r V' => V = V' ∧ (r = 1 ∧ s.2.2.1.toInt < x.toInt.natAbs ∨ r = 0 ∧ ¬ s.2.2.1.toInt < x.toInt.natAbs))) := by
  refine Sp.of pn_X5_isBad rfl (Nat.le_of_ble_eq_true rfl) ?_
  refine j_iload_n dX5_isBad_0 rfl ?_
  refine j_mabs dX5_isBad_1 hB ml_X5_67 (by decide) (Nat.le_of_ble_eq_true rfl) (by decide) (by decide) ?_
  refine j_aload_n dX5_isBad_4 rfl ?_
  refine j_geti dX5_isBad_5 hB fl_X5_39 (by first | exact h.1 | exact h.2.2.2.2.1.1 | exact h.2.2.2.2.2.1.1 | exact h.2.2.2.2.2.2.1.1) (by rfl) ?_
  refine j_icmp_le (tgt := 15) dX5_isBad_8 (by decide) (fun c_8 => ?_) (fun c_8 => ?_)
  · refine j_iconst (v := 0) dX5_isBad_15 (by decide) ?_
    refine j_iret dX5_isBad_16 rfl (rfl) (by decide) (by decide) ?_
    refine ⟨_, rfl, rfl, rfl, rfl, rfl, ?_⟩
    rw [ti_abs hx, h.2.2.2.2.2.2.2.2.2.2.1] at c_8
    first | exact Or.inl ⟨rfl, by omega⟩ | exact Or.inr ⟨rfl, by omega⟩
  · refine j_iconst (v := 1) dX5_isBad_11 (by decide) ?_
    refine j_goto (tgt := 16) dX5_isBad_12 (by decide) ?_
    refine j_iret dX5_isBad_16 rfl (rfl) (by decide) (by decide) ?_
    refine ⟨_, rfl, rfl, rfl, rfl, rfl, ?_⟩
    rw [ti_abs hx, h.2.2.2.2.2.2.2.2.2.2.1] at c_8
    first | exact Or.inl ⟨rfl, by omega⟩ | exact Or.inr ⟨rfl, by omega⟩
def cuN (r : aR) (x : Int32) : Int := (r.2.1.count x : Nat)
theorem cuN_rng {T : jT} {V : jV} {q : Nat} {r : aR} (h : ReelOK T V q r) (x : Int32) : 0 ≤ cuN r x ∧ cuN r x ≤ 10 := by
  have h1 := h.2.2.1.le
  rw [h.2.2.2.2.2.2.2.2.1] at h1
  have h2 : r.2.1.count x ≤ r.2.1.length := List.count_le_length
  unfold cuN
  omega
def cuT (s : aS) (x : Int32) : Nat → Int
  | 0 => 0
  | n + 1 => cuT s x n + cuN (sR s n) x
set_option maxRecDepth 100000 in
set_option maxHeartbeats 4000000 in
theorem sp_X5_cuesWith (hB : jB l s0 D) {q : Nat} {s : aS} {x : Int32} (h : StOK T V q s) : Sp l s0 D kX5_cuesWith (jR 1 0 0) 0 0 [.ref q, .int x] T V X sz (qI T X sz (fun r V' => V = V' ∧ r.toInt = cuT s x 3)) := by
  refine Sp.of pn_X5_cuesWith rfl (Nat.le_of_ble_eq_true rfl) ?_
  have h3 : (3 : Int32).toInt = 3 := by decide
  have outer : ∀ (n k : Nat) (i y : Int32) (L : List (Nat × Value)), L.lookup 0 = some (.ref q) → L.lookup 1 = some (.int x) → L.lookup 2 = some (.int y) → L.lookup 3 = some (.int i) → i.toInt = k → k + n = 3 → y.toInt = cuT s x k → 0 ≤ y.toInt → y.toInt ≤ 10 * k → J l s0 D kX5_cuesWith (jR 1 0 0) 0 0 (qI T X sz (fun r V' => V = V' ∧ r.toInt = cuT s x 3)) 4 L [] T V X sz 0 0 := by
    intro n
    induction n with
    | zero =>
      intro k i y L l0 l1 l2 l3 hi hk hy y0 y1
      refine j_sub2 (L' := [(0, .ref q), (1, .int x), (2, .int y), (3, .int i)]) (List.forall_mem_cons.mpr ⟨l0, List.forall_mem_cons.mpr ⟨l1, List.forall_mem_cons.mpr ⟨l2, List.forall_mem_cons.mpr ⟨l3, fun _ h9 => nomatch h9⟩⟩⟩⟩) ?_
      refine j_iload_n dX5_cuesWith_4 rfl ?_
      refine j_iconst (v := 3) dX5_cuesWith_5 (by decide) ?_
      refine j_icmp_ge (tgt := 63) dX5_cuesWith_6 (by decide) (fun c_6 => ?_) (fun c_6 => ?_)
      · refine j_iload_n dX5_cuesWith_63 rfl ?_
        refine j_iret dX5_cuesWith_64 rfl (rfl) (by decide) (by decide) ?_
        exact ⟨_, rfl, rfl, rfl, rfl, rfl, by rw [hy, show k = 3 by omega]⟩
      · exact absurd c_6 (by omega)
    | succ n ih =>
      intro k i y L l0 l1 l2 l3 hi hk hy y0 y1
      refine j_sub2 (L' := [(0, .ref q), (1, .int x), (2, .int y), (3, .int i)]) (List.forall_mem_cons.mpr ⟨l0, List.forall_mem_cons.mpr ⟨l1, List.forall_mem_cons.mpr ⟨l2, List.forall_mem_cons.mpr ⟨l3, fun _ h9 => nomatch h9⟩⟩⟩⟩) ?_
      have hrl := h.reel i.toInt
      have hcr := cuN_rng hrl x
      generalize hra : reelA q i.toInt = ra at hrl
      generalize hrr : sR s i.toInt = rr at hrl hcr
      have hlen := hrl.2.2.1.le
      have hrw := hrl.2.2.2.2.2.2.2.2.1
      rw [hrw] at hlen
      have hin : ∀ (n2 k2 : Nat) (j y2 : Int32), j.toInt = k2 → k2 + n2 = rr.2.1.length → y2.toInt = y.toInt + ((rr.2.1.take k2).count x : Nat) → J l s0 D kX5_cuesWith (jR 1 0 0) 0 0 (qI T X sz (fun r V' => V = V' ∧ r.toInt = cuT s x 3)) 22 [(0, .ref q), (1, .int x), (2, .int y2), (3, .int i), (4, .ref (ra + 3)), (5, .int j)] [] T V X sz 0 0 := by
        intro n2
        induction n2 with
        | zero =>
          intro k2 j y2 hj hk2 hy2
          refine j_iload dX5_cuesWith_22 rfl ?_
          refine j_aload dX5_cuesWith_24 rfl ?_
          refine j_cVi dX5_cuesWith_26 hB mo_X3_size ml_X5_46 (sp_X3_size hB hrl.2.2.1) (by exact hrl.2.2.1.1) rfl rfl rfl rfl ⟨rfl, rfl, by decide, by decide⟩ (Nat.le_of_ble_eq_true rfl) ⟨by decide, by decide⟩ (fun r_26 V_26 h_26 => ?_)
          obtain ⟨rfl, hr⟩ := h_26
          rw [hrw] at hr
          refine j_icmp_ge (tgt := 57) dX5_cuesWith_29 (by decide) (fun c_29 => ?_) (fun c_29 => ?_)
          · refine j_iinc (v := 1) (L' := [(0, _), (1, _), (2, _), (3, _), (4, _), (5, _)]) dX5_cuesWith_57 rfl (by decide) (by decide) rfl ?_
            refine j_goto (tgt := 4) dX5_cuesWith_60 (by decide) ?_
            refine ih (k + 1) _ y2 _ rfl rfl rfl rfl ?_ (by omega) ?_ ?_ ?_
            · rw [ti_add (by rw [ti_1]; omega) (by rw [ti_1]; omega), ti_1]; omega
            all_goals
              rw [List.take_of_length_le (by omega)] at hy2
              unfold cuN at hcr
            · show _ = cuT s x k + cuN (sR s k) x
              rw [← hi, hrr, ← hy]
              exact hy2
            · omega
            · omega
          · exact absurd c_29 (by omega)
        | succ n2 ih2 =>
          intro k2 j y2 hj hk2 hy2
          have hlt : k2 < rr.2.1.length := by omega
          have hcl : (rr.2.1.take k2).count x ≤ k2 := Nat.le_trans List.count_le_length (by rw [List.length_take]; omega)
          have hct : (rr.2.1.take (k2 + 1)).count x = (rr.2.1.take k2).count x + (if rr.2.1[k2] = x then 1 else 0) := by
            rw [← List.take_append_getElem hlt, List.count_append]
            congr 1
            simp [List.count_singleton, beq_iff_eq]
          refine j_iload dX5_cuesWith_22 rfl ?_
          refine j_aload dX5_cuesWith_24 rfl ?_
          refine j_cVi dX5_cuesWith_26 hB mo_X3_size ml_X5_46 (sp_X3_size hB hrl.2.2.1) (by exact hrl.2.2.1.1) rfl rfl rfl rfl ⟨rfl, rfl, by decide, by decide⟩ (Nat.le_of_ble_eq_true rfl) ⟨by decide, by decide⟩ (fun r_26 V_26 h_26 => ?_)
          obtain ⟨rfl, hr⟩ := h_26
          rw [hrw] at hr
          refine j_icmp_ge (tgt := 57) dX5_cuesWith_29 (by decide) (fun c_29 => ?_) (fun c_29 => ?_)
          · exact absurd c_29 (by omega)
          · refine j_iload_n dX5_cuesWith_32 rfl ?_
            refine j_aload dX5_cuesWith_33 rfl ?_
            refine j_iload dX5_cuesWith_35 rfl ?_
            refine j_cVi dX5_cuesWith_37 hB mo_X3_at ml_X5_59 (sp_X3_at hB hrl.2.2.1) (by exact hrl.2.2.1.1) rfl rfl rfl rfl ⟨rfl, rfl, by decide, by decide⟩ (Nat.le_of_ble_eq_true rfl) ⟨by decide, by decide⟩ (fun r_37 V_37 h_37 => ?_)
            obtain ⟨rfl, hv⟩ := h_37
            rw [hrw, atZ_in (by omega), show j.toInt.toNat = k2 by omega, List.getD_eq_getElem?_getD, List.getElem?_eq_getElem hlt] at hv
            have hv : r_37 = rr.2.1[k2] := hv
            subst hv
            refine j_iload_n dX5_cuesWith_40 rfl ?_
            refine j_icmp_ne (tgt := 48) dX5_cuesWith_41 (by decide) (fun c_41 => ?_) (fun c_41 => ?_)
            · refine j_iconst (v := 0) dX5_cuesWith_48 (by decide) ?_
              refine j_iadd dX5_cuesWith_49 ?_
              refine j_istore_n (L' := [(0, _), (1, _), (2, _), (3, _), (4, _), (5, _)]) dX5_cuesWith_50 (by decide) rfl ?_
              refine j_iinc (v := 1) (L' := [(0, _), (1, _), (2, _), (3, _), (4, _), (5, _)]) dX5_cuesWith_51 rfl (by decide) (by decide) rfl ?_
              refine j_goto (tgt := 22) dX5_cuesWith_54 (by decide) ?_
              refine ih2 (k2 + 1) _ _ ?_ (by omega) ?_
              · rw [ti_add (by rw [ti_1]; omega) (by rw [ti_1]; omega), ti_1]; omega
              · rw [hct]
                first
                | rw [if_pos c_41, ti_add (by rw [ti_1]; omega) (by rw [ti_1]; omega), ti_1]; omega
                | rw [if_neg c_41, ti_add (by rw [ti_0]; omega) (by rw [ti_0]; omega), ti_0]; omega
            · refine j_iconst (v := 1) dX5_cuesWith_44 (by decide) ?_
              refine j_goto (tgt := 49) dX5_cuesWith_45 (by decide) ?_
              refine j_iadd dX5_cuesWith_49 ?_
              refine j_istore_n (L' := [(0, _), (1, _), (2, _), (3, _), (4, _), (5, _)]) dX5_cuesWith_50 (by decide) rfl ?_
              refine j_iinc (v := 1) (L' := [(0, _), (1, _), (2, _), (3, _), (4, _), (5, _)]) dX5_cuesWith_51 rfl (by decide) (by decide) rfl ?_
              refine j_goto (tgt := 22) dX5_cuesWith_54 (by decide) ?_
              refine ih2 (k2 + 1) _ _ ?_ (by omega) ?_
              · rw [ti_add (by rw [ti_1]; omega) (by rw [ti_1]; omega), ti_1]; omega
              · rw [hct]
                first
                | rw [if_pos c_41, ti_add (by rw [ti_1]; omega) (by rw [ti_1]; omega), ti_1]; omega
                | rw [if_neg c_41, ti_add (by rw [ti_0]; omega) (by rw [ti_0]; omega), ti_0]; omega
      refine j_iload_n dX5_cuesWith_4 rfl ?_
      refine j_iconst (v := 3) dX5_cuesWith_5 (by decide) ?_
      refine j_icmp_ge (tgt := 63) dX5_cuesWith_6 (by decide) (fun c_6 => ?_) (fun c_6 => ?_)
      · exact absurd c_6 (by omega)
      · refine j_aload_n dX5_cuesWith_9 rfl ?_
        refine j_iload_n dX5_cuesWith_10 rfl ?_
        refine j_cVa dX5_cuesWith_11 hB mo_X5_reelAt ml_X5_53 (sp_X5_reelAt hB h) (by first | exact h.1 | exact hrl.1) rfl rfl rfl rfl ⟨rfl, rfl, by decide, by decide⟩ (Nat.le_of_ble_eq_true rfl) ⟨by decide, by decide⟩ (fun r_11 V_11 h_11 => ?_)
        obtain ⟨rfl, hr⟩ := h_11
        subst hr
        rw [hra]
        refine j_getr dX5_cuesWith_14 hB fl_X5_57 (by first | exact h.1 | exact hrl.1) (by rfl) ?_
        refine j_astore (L' := [(0, _), (1, _), (2, _), (3, _), (4, _)]) dX5_cuesWith_17 (by decide) rfl ?_
        refine j_iconst (v := 0) dX5_cuesWith_19 (by decide) ?_
        refine j_istore (L' := [(0, _), (1, _), (2, _), (3, _), (4, _), (5, _)]) dX5_cuesWith_20 (by decide) rfl ?_
        exact hin rr.2.1.length 0 0 y rfl (by omega) (by simp)
  refine j_iconst (v := 0) dX5_cuesWith_0 (by decide) ?_
  refine j_istore_n (L' := [(0, _), (1, _), (2, _)]) dX5_cuesWith_1 (by decide) rfl ?_
  refine j_iconst (v := 0) dX5_cuesWith_2 (by decide) ?_
  refine j_istore_n (L' := [(0, _), (1, _), (2, _), (3, _)]) dX5_cuesWith_3 (by decide) rfl ?_
  exact outer 3 0 0 0 _ rfl rfl rfl rfl rfl rfl rfl (by decide) (by decide)
set_option maxRecDepth 100000 in
set_option maxHeartbeats 4000000 in
theorem sp_X5_takeFrom (hB : jB l s0 D) {q q' : Nat} {s s' : aS} (h : StOK T V q s) (h' : StOK T V q' s') (hd : q + 64 ≤ q' ∨ q' + 64 ≤ q) : Sp l s0 D kX5_takeFrom (jR 4 0 0) 0 0 [.ref q, .ref q'] T V X sz (qU T X sz (fun V' => StOK T V' q s' ∧ jAg V V' q (q + 64))) := by
  refine Sp.of pn_X5_takeFrom rfl (Nat.le_of_ble_eq_true rfl) ?_
  obtain ⟨h0, h1, h2, h3, h4, h5, h6, e1, e2, e3, e4, e5⟩ := id h
  obtain ⟨p0, p1, p2, p3, p4, p5, p6, d1, d2, d3, d4, d5⟩ := id h'
  refine j_aload_n dX5_takeFrom_0 rfl ?_
  refine j_getr dX5_takeFrom_1 hB fl_X5_12 (by first | exact h0 | exact p0 | exact h1.1 | exact h2.1 | exact h3.1 | exact h4.1 | exact h5.1 | exact h6.1 | exact p1.1 | exact p2.1 | exact p3.1 | exact p4.1 | exact p5.1 | exact p6.1) (by rfl) ?_
  refine j_aload_n dX5_takeFrom_4 rfl ?_
  refine j_getr dX5_takeFrom_5 hB fl_X5_12 (by first | exact h0 | exact p0 | exact h1.1 | exact h2.1 | exact h3.1 | exact h4.1 | exact h5.1 | exact h6.1 | exact p1.1 | exact p2.1 | exact p3.1 | exact p4.1 | exact p5.1 | exact p6.1) (by rfl) ?_
  refine j_cVu dX5_takeFrom_8 hB mo_X2_takeFrom ml_X5_72 (sp_X2_takeFrom hB (h1) (p1) (by omega)) (by first | exact h0 | exact p0 | exact h1.1 | exact h2.1 | exact h3.1 | exact h4.1 | exact h5.1 | exact h6.1 | exact p1.1 | exact p2.1 | exact p3.1 | exact p4.1 | exact p5.1 | exact p6.1) rfl rfl rfl rfl ⟨rfl, rfl, by decide, by decide⟩ (Nat.le_of_ble_eq_true rfl) ⟨by decide, by decide⟩ (fun V_8 h_8 => ?_)
  obtain ⟨g1, a1⟩ := h_8
  refine j_aload_n dX5_takeFrom_11 rfl ?_
  refine j_getr dX5_takeFrom_12 hB fl_X5_18 (by first | exact h0 | exact p0 | exact h1.1 | exact h2.1 | exact h3.1 | exact h4.1 | exact h5.1 | exact h6.1 | exact p1.1 | exact p2.1 | exact p3.1 | exact p4.1 | exact p5.1 | exact p6.1) (by rfl) ?_
  refine j_aload_n dX5_takeFrom_15 rfl ?_
  refine j_getr dX5_takeFrom_16 hB fl_X5_18 (by first | exact h0 | exact p0 | exact h1.1 | exact h2.1 | exact h3.1 | exact h4.1 | exact h5.1 | exact h6.1 | exact p1.1 | exact p2.1 | exact p3.1 | exact p4.1 | exact p5.1 | exact p6.1) (by rfl) ?_
  refine j_cVu dX5_takeFrom_19 hB mo_X2_takeFrom ml_X5_72 (sp_X2_takeFrom hB ((h2).ag a1 (by omega)) ((p2).ag a1 (by omega)) (by omega)) (by first | exact h0 | exact p0 | exact h1.1 | exact h2.1 | exact h3.1 | exact h4.1 | exact h5.1 | exact h6.1 | exact p1.1 | exact p2.1 | exact p3.1 | exact p4.1 | exact p5.1 | exact p6.1) rfl rfl rfl rfl ⟨rfl, rfl, by decide, by decide⟩ (Nat.le_of_ble_eq_true rfl) ⟨by decide, by decide⟩ (fun V_19 h_19 => ?_)
  obtain ⟨g2, a2⟩ := h_19
  refine j_aload_n dX5_takeFrom_22 rfl ?_
  refine j_getr dX5_takeFrom_23 hB fl_X5_21 (by first | exact h0 | exact p0 | exact h1.1 | exact h2.1 | exact h3.1 | exact h4.1 | exact h5.1 | exact h6.1 | exact p1.1 | exact p2.1 | exact p3.1 | exact p4.1 | exact p5.1 | exact p6.1) (by rfl) ?_
  refine j_aload_n dX5_takeFrom_26 rfl ?_
  refine j_getr dX5_takeFrom_27 hB fl_X5_21 (by first | exact h0 | exact p0 | exact h1.1 | exact h2.1 | exact h3.1 | exact h4.1 | exact h5.1 | exact h6.1 | exact p1.1 | exact p2.1 | exact p3.1 | exact p4.1 | exact p5.1 | exact p6.1) (by rfl) ?_
  refine j_cVu dX5_takeFrom_30 hB mo_X2_takeFrom ml_X5_72 (sp_X2_takeFrom hB (((h3).ag a1 (by omega)).ag a2 (by omega)) (((p3).ag a1 (by omega)).ag a2 (by omega)) (by omega)) (by first | exact h0 | exact p0 | exact h1.1 | exact h2.1 | exact h3.1 | exact h4.1 | exact h5.1 | exact h6.1 | exact p1.1 | exact p2.1 | exact p3.1 | exact p4.1 | exact p5.1 | exact p6.1) rfl rfl rfl rfl ⟨rfl, rfl, by decide, by decide⟩ (Nat.le_of_ble_eq_true rfl) ⟨by decide, by decide⟩ (fun V_30 h_30 => ?_)
  obtain ⟨g3, a3⟩ := h_30
  refine j_aload_n dX5_takeFrom_33 rfl ?_
  refine j_getr dX5_takeFrom_34 hB fl_X5_29 (by first | exact h0 | exact p0 | exact h1.1 | exact h2.1 | exact h3.1 | exact h4.1 | exact h5.1 | exact h6.1 | exact p1.1 | exact p2.1 | exact p3.1 | exact p4.1 | exact p5.1 | exact p6.1) (by rfl) ?_
  refine j_aload_n dX5_takeFrom_37 rfl ?_
  refine j_getr dX5_takeFrom_38 hB fl_X5_29 (by first | exact h0 | exact p0 | exact h1.1 | exact h2.1 | exact h3.1 | exact h4.1 | exact h5.1 | exact h6.1 | exact p1.1 | exact p2.1 | exact p3.1 | exact p4.1 | exact p5.1 | exact p6.1) (by rfl) ?_
  refine j_cVu dX5_takeFrom_41 hB mo_X3_takeFrom ml_X5_76 (sp_X3_takeFrom hB ((((h4).ag a1 (by omega)).ag a2 (by omega)).ag a3 (by omega)) ((((p4).ag a1 (by omega)).ag a2 (by omega)).ag a3 (by omega)) (by omega) (by rw [Rw_ag a3 (by omega), Rw_ag a2 (by omega), Rw_ag a1 (by omega)]; exact p4.le)) (by first | exact h0 | exact p0 | exact h1.1 | exact h2.1 | exact h3.1 | exact h4.1 | exact h5.1 | exact h6.1 | exact p1.1 | exact p2.1 | exact p3.1 | exact p4.1 | exact p5.1 | exact p6.1) rfl rfl rfl rfl ⟨rfl, rfl, by decide, by decide⟩ (Nat.le_of_ble_eq_true rfl) ⟨by decide, by decide⟩ (fun V_41 h_41 => ?_)
  obtain ⟨g4, f4, a4⟩ := h_41
  refine j_aload_n dX5_takeFrom_44 rfl ?_
  refine j_getr dX5_takeFrom_45 hB fl_X5_33 (by first | exact h0 | exact p0 | exact h1.1 | exact h2.1 | exact h3.1 | exact h4.1 | exact h5.1 | exact h6.1 | exact p1.1 | exact p2.1 | exact p3.1 | exact p4.1 | exact p5.1 | exact p6.1) (by rfl) ?_
  refine j_aload_n dX5_takeFrom_48 rfl ?_
  refine j_getr dX5_takeFrom_49 hB fl_X5_33 (by first | exact h0 | exact p0 | exact h1.1 | exact h2.1 | exact h3.1 | exact h4.1 | exact h5.1 | exact h6.1 | exact p1.1 | exact p2.1 | exact p3.1 | exact p4.1 | exact p5.1 | exact p6.1) (by rfl) ?_
  refine j_cVu dX5_takeFrom_52 hB mo_X3_takeFrom ml_X5_76 (sp_X3_takeFrom hB (((((h5).ag a1 (by omega)).ag a2 (by omega)).ag a3 (by omega)).ag a4 (by omega)) (((((p5).ag a1 (by omega)).ag a2 (by omega)).ag a3 (by omega)).ag a4 (by omega)) (by omega) (by rw [Rw_ag a4 (by omega), Rw_ag a3 (by omega), Rw_ag a2 (by omega), Rw_ag a1 (by omega)]; exact p5.le)) (by first | exact h0 | exact p0 | exact h1.1 | exact h2.1 | exact h3.1 | exact h4.1 | exact h5.1 | exact h6.1 | exact p1.1 | exact p2.1 | exact p3.1 | exact p4.1 | exact p5.1 | exact p6.1) rfl rfl rfl rfl ⟨rfl, rfl, by decide, by decide⟩ (Nat.le_of_ble_eq_true rfl) ⟨by decide, by decide⟩ (fun V_52 h_52 => ?_)
  obtain ⟨g5, f5, a5⟩ := h_52
  refine j_aload_n dX5_takeFrom_55 rfl ?_
  refine j_getr dX5_takeFrom_56 hB fl_X5_36 (by first | exact h0 | exact p0 | exact h1.1 | exact h2.1 | exact h3.1 | exact h4.1 | exact h5.1 | exact h6.1 | exact p1.1 | exact p2.1 | exact p3.1 | exact p4.1 | exact p5.1 | exact p6.1) (by rfl) ?_
  refine j_aload_n dX5_takeFrom_59 rfl ?_
  refine j_getr dX5_takeFrom_60 hB fl_X5_36 (by first | exact h0 | exact p0 | exact h1.1 | exact h2.1 | exact h3.1 | exact h4.1 | exact h5.1 | exact h6.1 | exact p1.1 | exact p2.1 | exact p3.1 | exact p4.1 | exact p5.1 | exact p6.1) (by rfl) ?_
  refine j_cVu dX5_takeFrom_63 hB mo_X3_takeFrom ml_X5_76 (sp_X3_takeFrom hB ((((((h6).ag a1 (by omega)).ag a2 (by omega)).ag a3 (by omega)).ag a4 (by omega)).ag a5 (by omega)) ((((((p6).ag a1 (by omega)).ag a2 (by omega)).ag a3 (by omega)).ag a4 (by omega)).ag a5 (by omega)) (by omega) (by rw [Rw_ag a5 (by omega), Rw_ag a4 (by omega), Rw_ag a3 (by omega), Rw_ag a2 (by omega), Rw_ag a1 (by omega)]; exact p6.le)) (by first | exact h0 | exact p0 | exact h1.1 | exact h2.1 | exact h3.1 | exact h4.1 | exact h5.1 | exact h6.1 | exact p1.1 | exact p2.1 | exact p3.1 | exact p4.1 | exact p5.1 | exact p6.1) rfl rfl rfl rfl ⟨rfl, rfl, by decide, by decide⟩ (Nat.le_of_ble_eq_true rfl) ⟨by decide, by decide⟩ (fun V_63 h_63 => ?_)
  obtain ⟨g6, f6, a6⟩ := h_63
  refine j_aload_n dX5_takeFrom_66 rfl ?_
  refine j_aload_n dX5_takeFrom_67 rfl ?_
  refine j_geti dX5_takeFrom_68 hB fl_X5_39 (by first | exact h0 | exact p0 | exact h1.1 | exact h2.1 | exact h3.1 | exact h4.1 | exact h5.1 | exact h6.1 | exact p1.1 | exact p2.1 | exact p3.1 | exact p4.1 | exact p5.1 | exact p6.1) (by rfl) ?_
  refine j_puti dX5_takeFrom_71 hB fp_X5_takeFrom_39 (by first | exact h0 | exact p0 | exact h1.1 | exact h2.1 | exact h3.1 | exact h4.1 | exact h5.1 | exact h6.1 | exact p1.1 | exact p2.1 | exact p3.1 | exact p4.1 | exact p5.1 | exact p6.1) (by rfl) ?_
  refine j_aload_n dX5_takeFrom_74 rfl ?_
  refine j_aload_n dX5_takeFrom_75 rfl ?_
  refine j_geti dX5_takeFrom_76 hB fl_X5_43 (by first | exact h0 | exact p0 | exact h1.1 | exact h2.1 | exact h3.1 | exact h4.1 | exact h5.1 | exact h6.1 | exact p1.1 | exact p2.1 | exact p3.1 | exact p4.1 | exact p5.1 | exact p6.1) (by rfl) ?_
  refine j_puti dX5_takeFrom_79 hB fp_X5_takeFrom_43 (by first | exact h0 | exact p0 | exact h1.1 | exact h2.1 | exact h3.1 | exact h4.1 | exact h5.1 | exact h6.1 | exact p1.1 | exact p2.1 | exact p3.1 | exact p4.1 | exact p5.1 | exact p6.1) (by rfl) ?_
  refine j_vret dX5_takeFrom_82 rfl (by decide) (by decide) ?_
  have w1 := a1.wide (show q ≤ q + 1 by omega) (show q + 1 + 19 ≤ q + 64 by omega)
  have w2 := a2.wide (show q ≤ q + 20 by omega) (show q + 20 + 19 ≤ q + 64 by omega)
  have w3 := a3.wide (show q ≤ q + 39 by omega) (show q + 39 + 19 ≤ q + 64 by omega)
  have w4 := a4.wide (show q ≤ q + 58 by omega) (show q + 58 + 2 ≤ q + 64 by omega)
  have w5 := a5.wide (show q ≤ q + 60 by omega) (show q + 60 + 2 ≤ q + 64 by omega)
  have w6 := a6.wide (show q ≤ q + 62 by omega) (show q + 62 + 2 ≤ q + 64 by omega)
  have wA := ((((w1.tr w2).tr w3).tr w4).tr w5).tr w6
  rw [Rw_ag a3 (by omega), Rw_ag a2 (by omega), Rw_ag a1 (by omega), d1] at f4
  rw [Rw_ag a4 (by omega), Rw_ag a3 (by omega), Rw_ag a2 (by omega), Rw_ag a1 (by omega), d2] at f5
  rw [Rw_ag a5 (by omega), Rw_ag a4 (by omega), Rw_ag a3 (by omega), Rw_ag a2 (by omega), Rw_ag a1 (by omega), d3] at f6
  rw [wA q' (by omega)]
  have wB := jAg.rf (V := V_63) (lo := q) (hi := q + 1) |>.set (k := 6) (v := V q' 6) (Nat.le_refl q) (by omega)
  have wC := wB.set (k := 7) (v := (jset V_63 q 6 (V q' 6)) q' 7) (Nat.le_refl q) (by omega)
  have hv : (jset V_63 q 6 (V q' 6)) q' 7 = V q' 7 := by rw [jset_ne (Or.inl (by omega)), wA q' (by omega)]
  rw [hv] at wC ⊢
  refine ⟨rfl, rfl, rfl, rfl, ⟨h0, (((((g1.ag a2 (by omega)).ag a3 (by omega)).ag a4 (by omega)).ag a5 (by omega)).ag a6 (by omega)).ag wC (by omega), ((((g2.ag a3 (by omega)).ag a4 (by omega)).ag a5 (by omega)).ag a6 (by omega)).ag wC (by omega), (((g3.ag a4 (by omega)).ag a5 (by omega)).ag a6 (by omega)).ag wC (by omega), ((g4.ag a5 (by omega)).ag a6 (by omega)).ag wC (by omega), (g5.ag a6 (by omega)).ag wC (by omega), g6.ag wC (by omega), by rw [Rw_ag wC (by omega), Rw_ag a6 (by omega), Rw_ag a5 (by omega)]; exact f4, by rw [Rw_ag wC (by omega), Rw_ag a6 (by omega)]; exact f5, by rw [Rw_ag wC (by omega)]; exact f6, ?_, ?_⟩, wA.tr (wC.wide (by omega) (by omega))⟩
  · rw [jset_ne (Or.inr (by decide)), jset_eq]; exact d4
  · rw [jset_eq]; exact d5
end JState
