/-! CueSheets$Timing: measure, roomForCue, silence -/
theorem TmB.ag {T : jT} {V V' : jV} {q lo hi n : Nat} {s : aS} {r : aR} {w : Int} (h : TmB T V q s r w n) (ha : jAg V V' lo hi) (hd : (q < lo ∧ hi ≤ q + 9) ∨ q + 15 ≤ lo ∨ hi ≤ q) : TmB T V' q s r w n := by
  obtain ⟨h1, h2, h3, l1, l2, l3, f1, f2, f3, f4⟩ := h
  refine ⟨h1.ag ha (by omega), h2.ag ha (by omega), h3.ag ha (by omega), ?_, ?_, ?_, ?_, ?_, ?_, ?_⟩
  · rw [Rw_ag ha (by omega)]; exact l1
  · rw [Rw_ag ha (by omega)]; exact l2
  · rw [Rw_ag ha (by omega)]; exact l3
  · rw [ha q (by omega)]; exact f1
  · rw [ha q (by omega)]; exact f2
  · rw [ha q (by omega)]; exact f3
  · rw [ha q (by omega)]; exact f4
theorem TmB.set {T : jT} {V : jV} {q n k : Nat} {s : aS} {r : aR} {w : Int} {v : Int32} (h : TmB T V q s r w n) (hk : k < 10) : TmB T (jset V q k v) q s r w n := by
  have ha : jAg V (jset V q k v) q (q + 1) := jAg.f1
  obtain ⟨h1, h2, h3, l1, l2, l3, f1, f2, f3, f4⟩ := h
  refine ⟨h1.ag ha (by omega), h2.ag ha (by omega), h3.ag ha (by omega), ?_, ?_, ?_, ?_, ?_, ?_, ?_⟩
  · rw [Rw_ag ha (by omega)]; exact l1
  · rw [Rw_ag ha (by omega)]; exact l2
  · rw [Rw_ag ha (by omega)]; exact l3
  · rw [jset_ne (Or.inr (by omega))]; exact f1
  · rw [jset_ne (Or.inr (by omega))]; exact f2
  · rw [jset_ne (Or.inr (by omega))]; exact f3
  · rw [jset_ne (Or.inr (by omega))]; exact f4
theorem TmIs.ag {T : jT} {V V' : jV} {q lo hi : Nat} {s : aS} {r : aR} {w : Int} (h : TmIs T V q s r w) (ha : jAg V V' lo hi) (hd : q + 15 ≤ lo ∨ hi ≤ q) : TmIs T V' q s r w := ⟨h.1, h.2.1.ag ha (by omega), h.2.2.ag ha (by omega)⟩
theorem TmIs.k {T : jT} {V : jV} {q : Nat} {s : aS} {r : aR} {w : Int} (h : TmIs T V q s r w) : TmK T V q := ⟨h.1, h.2.1.1, h.2.1.2.1, h.2.1.2.2.1, h.2.1.2.2.2.1, h.2.2.1, h.2.2.2.1, h.2.2.2.2.1⟩
theorem LIs.at {L : List Int32} {n k : Nat} {f : Nat → Int} (h : LIs L n f) (hk : k < n) : (atZ L k).toInt = f k := h.2 k hk
/-- what the music of scene k takes of the reel's time -/
noncomputable def aMu (s : aS) (r : aR) (w : Int) (k : Nat) : Int := cueI r k (max 0 (min (aEnd s r w k) (aBeg r w r.1.length) - aCb s r w k)) 0
noncomputable def aSil (s : aS) (r : aR) (w : Int) : Int := aBeg r w r.1.length - aSum (aMu s r w) r.1.length
noncomputable def aRoom (s : aS) (r : aR) (w : Int) (k : Nat) : Int := aBeg r w k + aTime r w k - aCb s r w k
theorem aMu_rng {s : aS} {r : aR} (hp : pcW s) (h : rlW s r) {w : Int} (hw : w = 0 ∨ 10 ≤ w) {k : Nat} (hk : k < r.1.length) : 0 ≤ aMu s r w k ∧ aMu s r w k ≤ 300000 := by
  have h4 := h.2.2.2.1
  have i1 := aMus_rng hp h hw k (by omega)
  have i2 := aBeg_rng h hw k (by omega)
  have i3 := aBeg_rng h hw r.1.length (by omega)
  unfold aMu aCb
  by_cases hc : isCue r k
  · rw [cueI_t hc]; omega
  · rw [cueI_f hc]; omega
theorem aRoom_rng {s : aS} {r : aR} (hp : pcW s) (h : rlW s r) {w : Int} (hw : w = 0 ∨ 10 ≤ w) {k : Nat} (hk : k < r.1.length) : -1000000 ≤ aRoom s r w k ∧ aRoom s r w k ≤ 1000000 := by
  have h4 := h.2.2.2.1
  have i1 := aMus_rng hp h hw k (by omega)
  have i2 := aBeg_rng h hw k (by omega)
  have i3 := aTime_rng h hw hk
  unfold aRoom aCb
  omega
section JTiming3
variable {l : Launch} {s0 : State} {D : jD} {T : jT} {V : jV} {X : jX} {sz : Nat}
set_option maxRecDepth 100000 in
set_option maxHeartbeats 4000000 in
theorem sp_X6_measure (hB : jB l s0 D) {q qs qr : Nat} {s : aS} {r : aR} {w : Int32} (hK : TmK T V q) (hs : StOK T V qs s) (hr : ReelOK T V qr r) (hd1 : q + 15 ≤ qs ∨ qs + 64 ≤ q) (hd2 : q + 15 ≤ qr ∨ qr + 19 ≤ q) (hp : pcW s) (hrl : rlW s r) (hw : w = 0 ∨ 10 ≤ w.toInt) (hlw : 0 ≤ s.2.2.1.toInt) : Sp l s0 D kX6_measure (jR 4 0 0) 0 0 [.ref q, .ref qs, .ref qr, .int w] T V X sz (qU T X sz (fun V' => TmIs T V' q s r w.toInt ∧ jAg V V' q (q + 15))) := by
  refine Sp.of pn_X6_measure rfl (Nat.le_of_ble_eq_true rfl) ?_
  have hn10 := hrl.2.2.2.1
  have hw' : w.toInt = 0 ∨ 10 ≤ w.toInt := by rcases hw with e | e; (left; rw [e]; rfl); exact Or.inr e
  have loop : ∀ (n k : Nat) (i : Int32) (V1 : jV) (L : List (Nat × Value)), L.lookup 0 = some (.ref q) → L.lookup 1 = some (.ref qs) → L.lookup 2 = some (.ref qr) → L.lookup 3 = some (.int w) → L.lookup 4 = some (.int i) → i.toInt = k → k + n = r.1.length → TmA T V1 q r w.toInt k → TmB T V1 q s r w.toInt k → jAg V V1 q (q + 15) → J l s0 D kX6_measure (jR 4 0 0) 0 0 (qU T X sz (fun V' => TmIs T V' q s r w.toInt ∧ jAg V V' q (q + 15))) 7 L [] T V1 X sz 0 0 := by
    intro n
    induction n with
    | zero =>
      intro k i V1 L l0 l1 l2 l3 l4 hi hk hA hBt ha
      have hr1 := hr.ag ha (by omega)
      refine j_sub2 (L' := [(0, .ref q), (1, .ref qs), (2, .ref qr), (3, .int w), (4, .int i)]) (List.forall_mem_cons.mpr ⟨l0, List.forall_mem_cons.mpr ⟨l1, List.forall_mem_cons.mpr ⟨l2, List.forall_mem_cons.mpr ⟨l3, List.forall_mem_cons.mpr ⟨l4, fun _ h9 => nomatch h9⟩⟩⟩⟩⟩) ?_
      refine j_iload dX6_measure_7 rfl ?_
      refine j_aload_n dX6_measure_9 rfl ?_
      refine j_cVi dX6_measure_10 hB mo_X2_scenes ml_X6_41 (sp_X2_scenes hB hr1) (by first | exact hK.1 | exact hA.1.1 | exact hA.2.1.1 | exact hA.2.2.1.1 | exact hA.2.2.2.1.1 | exact hr.1 | exact hs.1 | exact hr.2.1.1) rfl rfl rfl rfl ⟨rfl, rfl, by decide, by decide⟩ (Nat.le_of_ble_eq_true rfl) ⟨by decide, by decide⟩ (fun r_10 V_10 h_10 => ?_)
      obtain ⟨rfl, hn⟩ := h_10
      refine j_icmp_ge (tgt := 139) dX6_measure_13 (by decide) (fun c_13 => ?_) (fun c_13 => ?_)
      · refine j_vret dX6_measure_139 rfl (by decide) (by decide) ?_
        exact ⟨rfl, rfl, rfl, rfl, ⟨hK.1, by rw [show r.1.length = k by omega]; exact hA, by rw [show r.1.length = k by omega]; exact hBt⟩, ha⟩
      · exact absurd c_13 (by omega)
    | succ n ih =>
      intro k i V1 L l0 l1 l2 l3 l4 hi hk hA hBt ha
      have hr1 := hr.ag ha (by omega)
      have hs1 := hs.ag ha (by omega)
      obtain ⟨h1, h2, h3, h4, m1, m2, m3, m4, f1, f2, f3⟩ := id hA
      have r1 := aFirst_rng hrl k (by omega)
      have r1' := len_rng hrl (show k < r.1.length by omega)
      have r2 := aBeg_rng hrl hw' k (by omega)
      have r3 := aTime_rng hrl hw' (show k < r.1.length by omega)
      have r4 : ∀ j : Nat, j < r.1.length → 0 ≤ aLost r j ∧ aLost r j ≤ 900 := fun j hj => by
        have := cnt_le (lostB r.2.2.2.2.2) (aFirst r j) (atZ r.1 j).toInt.toNat
        have := len_rng hrl hj
        unfold aLost
        omega
      have r5 := aSum_rng (f := aLost r) (B := 900) (n := r.1.length) r4 k (by omega)
      have r6 := r4 k (by omega)
      refine j_sub2 (L' := [(0, .ref q), (1, .ref qs), (2, .ref qr), (3, .int w), (4, .int i)]) (List.forall_mem_cons.mpr ⟨l0, List.forall_mem_cons.mpr ⟨l1, List.forall_mem_cons.mpr ⟨l2, List.forall_mem_cons.mpr ⟨l3, List.forall_mem_cons.mpr ⟨l4, fun _ h9 => nomatch h9⟩⟩⟩⟩⟩) ?_
      refine j_iload dX6_measure_7 rfl ?_
      refine j_aload_n dX6_measure_9 rfl ?_
      refine j_cVi dX6_measure_10 hB mo_X2_scenes ml_X6_41 (sp_X2_scenes hB hr1) (by first | exact hK.1 | exact hA.1.1 | exact hA.2.1.1 | exact hA.2.2.1.1 | exact hA.2.2.2.1.1 | exact hr.1 | exact hs.1 | exact hr.2.1.1) rfl rfl rfl rfl ⟨rfl, rfl, by decide, by decide⟩ (Nat.le_of_ble_eq_true rfl) ⟨by decide, by decide⟩ (fun r_10 V_10 h_10 => ?_)
      obtain ⟨rfl, hn⟩ := h_10
      refine j_icmp_ge (tgt := 139) dX6_measure_13 (by decide) (fun c_13 => ?_) (fun c_13 => ?_)
      · exact absurd c_13 (by omega)
      · refine j_aload_n dX6_measure_16 rfl ?_
        refine j_geti dX6_measure_17 hB fl_X6_47 (by first | exact hK.1 | exact hA.1.1 | exact hA.2.1.1 | exact hA.2.2.1.1 | exact hA.2.2.2.1.1 | exact hr.1 | exact hs.1 | exact hr.2.1.1) (by rfl) ?_
        refine j_aload_n dX6_measure_20 rfl ?_
        refine j_getr dX6_measure_21 hB fl_X6_51 (by first | exact hK.1 | exact hA.1.1 | exact hA.2.1.1 | exact hA.2.2.1.1 | exact hA.2.2.2.1.1 | exact hr.1 | exact hs.1 | exact hr.2.1.1) (by rfl) ?_
        refine j_iload dX6_measure_24 rfl ?_
        refine j_cVi dX6_measure_26 hB mo_X3_at ml_X6_54 (sp_X3_at hB hr1.2.1) (by first | exact hK.1 | exact hA.1.1 | exact hA.2.1.1 | exact hA.2.2.1.1 | exact hA.2.2.2.1.1 | exact hr.1 | exact hs.1 | exact hr.2.1.1) rfl rfl rfl rfl ⟨rfl, rfl, by decide, by decide⟩ (Nat.le_of_ble_eq_true rfl) ⟨by decide, by decide⟩ (fun r_26 V_26 h_26 => ?_)
        obtain ⟨rfl, y1⟩ := h_26
        rw [hr1.2.2.2.2.2.2.2.1, hi] at y1
        subst y1
        refine j_iadd dX6_measure_29 ?_
        refine j_topi (fun b5 e5 => ?_)
        have t5 : b5.toInt = aFirst r (k + 1) := by rw [e5, ti_add (by omega) (by omega), f1]; rfl
        have t5' : aFirst r (k + 1) = aFirst r k + (atZ r.1 k).toInt := rfl
        refine j_istore (L' := [(0, _), (1, _), (2, _), (3, _), (4, _), (5, _)]) dX6_measure_30 (by decide) rfl ?_
        refine j_aload_n dX6_measure_32 rfl ?_
        refine j_aload_n dX6_measure_33 rfl ?_
        refine j_geti dX6_measure_34 hB fl_X6_47 (by first | exact hK.1 | exact hA.1.1 | exact hA.2.1.1 | exact hA.2.2.1.1 | exact hA.2.2.2.1.1 | exact hr.1 | exact hs.1 | exact hr.2.1.1) (by rfl) ?_
        refine j_iload dX6_measure_37 rfl ?_
        refine j_cVi dX6_measure_39 hB mo_X2_lostBetween ml_X6_58 (sp_X2_lostBetween hB hr1 hrl.2.2.2.2.2.2.2 (by omega) (by omega) (by omega)) (by first | exact hK.1 | exact hA.1.1 | exact hA.2.1.1 | exact hA.2.2.1.1 | exact hA.2.2.2.1.1 | exact hr.1 | exact hs.1 | exact hr.2.1.1) rfl rfl rfl rfl ⟨rfl, rfl, by decide, by decide⟩ (Nat.le_of_ble_eq_true rfl) ⟨by decide, by decide⟩ (fun r_39 V_39 h_39 => ?_)
        obtain ⟨rfl, t6⟩ := h_39
        rw [t5, f1, t5', show aFirst r k + (atZ r.1 k).toInt - aFirst r k = (atZ r.1 k).toInt by omega] at t6
        have t6 : r_39.toInt = aLost r k := t6
        refine j_istore (L' := [(0, _), (1, _), (2, _), (3, _), (4, _), (5, _), (6, _)]) dX6_measure_42 (by decide) rfl ?_
        refine j_aload_n dX6_measure_44 rfl ?_
        refine j_aload_n dX6_measure_45 rfl ?_
        refine j_geti dX6_measure_46 hB fl_X6_47 (by first | exact hK.1 | exact hA.1.1 | exact hA.2.1.1 | exact hA.2.2.1.1 | exact hA.2.2.2.1.1 | exact hr.1 | exact hs.1 | exact hr.2.1.1) (by rfl) ?_
        refine j_iload dX6_measure_49 rfl ?_
        refine j_iload_n dX6_measure_51 rfl ?_
        refine j_cVi dX6_measure_52 hB mo_X2_timeBetween ml_X6_62 (sp_X2_timeBetween hB hr1 hrl.2.2.2.2.2.2.2 hrl.2.2.2.2.2.2.1 (by omega) (by omega) (by omega) hw) (by first | exact hK.1 | exact hA.1.1 | exact hA.2.1.1 | exact hA.2.2.1.1 | exact hA.2.2.2.1.1 | exact hr.1 | exact hs.1 | exact hr.2.1.1) rfl rfl rfl rfl ⟨rfl, rfl, by decide, by decide⟩ (Nat.le_of_ble_eq_true rfl) ⟨by decide, by decide⟩ (fun r_52 V_52 h_52 => ?_)
        obtain ⟨rfl, t7⟩ := h_52
        rw [t5, f1, t5', show aFirst r k + (atZ r.1 k).toInt - aFirst r k = (atZ r.1 k).toInt by omega] at t7
        have t7 : r_52.toInt = aTime r w.toInt k := t7
        refine j_istore (L' := [(0, _), (1, _), (2, _), (3, _), (4, _), (5, _), (6, _), (7, _)]) dX6_measure_55 (by decide) rfl ?_
        refine j_aload_n dX6_measure_57 rfl ?_
        refine j_getr dX6_measure_58 hB fl_X6_14 (by first | exact hK.1 | exact hA.1.1 | exact hA.2.1.1 | exact hA.2.2.1.1 | exact hA.2.2.2.1.1 | exact hr.1 | exact hs.1 | exact hr.2.1.1) (by rfl) ?_
        refine j_aload_n dX6_measure_61 rfl ?_
        refine j_geti dX6_measure_62 hB fl_X6_47 (by first | exact hK.1 | exact hA.1.1 | exact hA.2.1.1 | exact hA.2.2.1.1 | exact hA.2.2.2.1.1 | exact hr.1 | exact hs.1 | exact hr.2.1.1) (by rfl) ?_
        refine j_cVu dX6_measure_65 hB mo_X3_add ml_X6_66 (sp_X3_add hB h1) (by first | exact hK.1 | exact hA.1.1 | exact hA.2.1.1 | exact hA.2.2.1.1 | exact hA.2.2.2.1.1 | exact hr.1 | exact hs.1 | exact hr.2.1.1) rfl rfl rfl rfl ⟨rfl, rfl, by decide, by decide⟩ (Nat.le_of_ble_eq_true rfl) ⟨by decide, by decide⟩ (fun V_65 h_65 => ?_)
        obtain ⟨g1, p1, a1⟩ := h_65
        rw [if_pos (by rw [m1.1]; omega)] at p1
        refine j_aload_n dX6_measure_68 rfl ?_
        refine j_getr dX6_measure_69 hB fl_X6_20 (by first | exact hK.1 | exact hA.1.1 | exact hA.2.1.1 | exact hA.2.2.1.1 | exact hA.2.2.2.1.1 | exact hr.1 | exact hs.1 | exact hr.2.1.1) (by rfl) ?_
        refine j_iload dX6_measure_72 rfl ?_
        refine j_cVu dX6_measure_74 hB mo_X3_add ml_X6_66 (sp_X3_add hB (h2.ag a1 (by omega))) (by first | exact hK.1 | exact hA.1.1 | exact hA.2.1.1 | exact hA.2.2.1.1 | exact hA.2.2.2.1.1 | exact hr.1 | exact hs.1 | exact hr.2.1.1) rfl rfl rfl rfl ⟨rfl, rfl, by decide, by decide⟩ (Nat.le_of_ble_eq_true rfl) ⟨by decide, by decide⟩ (fun V_74 h_74 => ?_)
        obtain ⟨g2, p2, a2⟩ := h_74
        rw [Rw_ag a1 (by omega), if_pos (by rw [m2.1]; omega)] at p2
        refine j_aload_n dX6_measure_77 rfl ?_
        refine j_getr dX6_measure_78 hB fl_X6_23 (by first | exact hK.1 | exact hA.1.1 | exact hA.2.1.1 | exact hA.2.2.1.1 | exact hA.2.2.2.1.1 | exact hr.1 | exact hs.1 | exact hr.2.1.1) (by rfl) ?_
        refine j_iload dX6_measure_81 rfl ?_
        refine j_cVu dX6_measure_83 hB mo_X3_add ml_X6_66 (sp_X3_add hB ((h3.ag a1 (by omega)).ag a2 (by omega))) (by first | exact hK.1 | exact hA.1.1 | exact hA.2.1.1 | exact hA.2.2.1.1 | exact hA.2.2.2.1.1 | exact hr.1 | exact hs.1 | exact hr.2.1.1) rfl rfl rfl rfl ⟨rfl, rfl, by decide, by decide⟩ (Nat.le_of_ble_eq_true rfl) ⟨by decide, by decide⟩ (fun V_83 h_83 => ?_)
        obtain ⟨g3, p3, a3⟩ := h_83
        rw [Rw_ag a2 (by omega), Rw_ag a1 (by omega), if_pos (by rw [m3.1]; omega)] at p3
        refine j_aload_n dX6_measure_86 rfl ?_
        refine j_getr dX6_measure_87 hB fl_X6_26 (by first | exact hK.1 | exact hA.1.1 | exact hA.2.1.1 | exact hA.2.2.1.1 | exact hA.2.2.2.1.1 | exact hr.1 | exact hs.1 | exact hr.2.1.1) (by rfl) ?_
        refine j_aload_n dX6_measure_90 rfl ?_
        refine j_geti dX6_measure_91 hB fl_X6_69 (by first | exact hK.1 | exact hA.1.1 | exact hA.2.1.1 | exact hA.2.2.1.1 | exact hA.2.2.2.1.1 | exact hr.1 | exact hs.1 | exact hr.2.1.1) (by rfl) ?_
        refine j_cVu dX6_measure_94 hB mo_X3_add ml_X6_66 (sp_X3_add hB (((h4.ag a1 (by omega)).ag a2 (by omega)).ag a3 (by omega))) (by first | exact hK.1 | exact hA.1.1 | exact hA.2.1.1 | exact hA.2.2.1.1 | exact hA.2.2.2.1.1 | exact hr.1 | exact hs.1 | exact hr.2.1.1) rfl rfl rfl rfl ⟨rfl, rfl, by decide, by decide⟩ (Nat.le_of_ble_eq_true rfl) ⟨by decide, by decide⟩ (fun V_94 h_94 => ?_)
        obtain ⟨g4, p4, a4⟩ := h_94
        rw [Rw_ag a3 (by omega), Rw_ag a2 (by omega), Rw_ag a1 (by omega), if_pos (by rw [m4.1]; omega), a3 q (by omega), a2 q (by omega), a1 q (by omega)] at p4
        have hq : V_94 q = V1 q := by rw [a4 q (by omega), a3 q (by omega), a2 q (by omega), a1 q (by omega)]
        refine j_aload_n dX6_measure_97 rfl ?_
        refine j_iload dX6_measure_98 rfl ?_
        refine j_puti dX6_measure_100 hB fp_X6_measure_47 (by first | exact hK.1 | exact hA.1.1 | exact hA.2.1.1 | exact hA.2.2.1.1 | exact hA.2.2.2.1.1 | exact hr.1 | exact hs.1 | exact hr.2.1.1) (by rfl) ?_
        refine j_aload_n dX6_measure_103 rfl ?_
        refine j_dup dX6_measure_104 rfl ?_
        refine j_geti dX6_measure_105 hB fl_X6_72 (by first | exact hK.1 | exact hA.1.1 | exact hA.2.1.1 | exact hA.2.2.1.1 | exact hA.2.2.2.1.1 | exact hr.1 | exact hs.1 | exact hr.2.1.1) (by rfl) ?_
        refine j_iload dX6_measure_108 rfl ?_
        refine j_iadd dX6_measure_110 ?_
        refine j_topi (fun x8 e8 => ?_)
        rw [jset_ne (Or.inr (by decide)), hq] at e8
        have t8 : x8.toInt = aSum (aLost r) (k + 1) := by rw [e8, ti_add (by omega) (by omega), f2, t6]; rfl
        refine j_puti dX6_measure_111 hB fp_X6_measure_72 (by first | exact hK.1 | exact hA.1.1 | exact hA.2.1.1 | exact hA.2.2.1.1 | exact hA.2.2.2.1.1 | exact hr.1 | exact hs.1 | exact hr.2.1.1) (by rfl) ?_
        refine j_aload_n dX6_measure_114 rfl ?_
        refine j_dup dX6_measure_115 rfl ?_
        refine j_geti dX6_measure_116 hB fl_X6_69 (by first | exact hK.1 | exact hA.1.1 | exact hA.2.1.1 | exact hA.2.2.1.1 | exact hA.2.2.2.1.1 | exact hr.1 | exact hs.1 | exact hr.2.1.1) (by rfl) ?_
        refine j_iload dX6_measure_119 rfl ?_
        refine j_iadd dX6_measure_121 ?_
        refine j_topi (fun x9 e9 => ?_)
        rw [jset_ne (Or.inr (by decide)), jset_ne (Or.inr (by decide)), hq] at e9
        have t9 : x9.toInt = aBeg r w.toInt (k + 1) := by rw [e9, ti_add (by omega) (by omega), f3, t7]; rfl
        refine j_puti dX6_measure_122 hB fp_X6_measure_69 (by first | exact hK.1 | exact hA.1.1 | exact hA.2.1.1 | exact hA.2.2.1.1 | exact hA.2.2.2.1.1 | exact hr.1 | exact hs.1 | exact hr.2.1.1) (by rfl) ?_
        refine j_aload_n dX6_measure_125 rfl ?_
        refine j_aload_n dX6_measure_126 rfl ?_
        refine j_aload_n dX6_measure_127 rfl ?_
        have u1 : jAg V_94 (jset V_94 q 7 b5) q (q + 1) := jAg.f1
        have u2 : jAg (jset V_94 q 7 b5) (jset (jset V_94 q 7 b5) q 8 x8) q (q + 1) := jAg.f1
        have u3 : jAg (jset (jset V_94 q 7 b5) q 8 x8) (jset (jset (jset V_94 q 7 b5) q 8 x8) q 9 x9) q (q + 1) := jAg.f1
        have hB2 : TmB T (jset (jset (jset V_94 q 7 b5) q 8 x8) q 9 x9) q s r w.toInt k := ((((((hBt.ag a1 (by omega)).ag a2 (by omega)).ag a3 (by omega)).ag a4 (by omega)).set (by decide)).set (by decide)).set (by decide)
        have hA2 : TmA T (jset (jset (jset V_94 q 7 b5) q 8 x8) q 9 x9) q r w.toInt (k + 1) := by
          refine ⟨(((((g1.ag a2 (by omega)).ag a3 (by omega)).ag a4 (by omega)).ag u1 (by omega)).ag u2 (by omega)).ag u3 (by omega), ((((g2.ag a3 (by omega)).ag a4 (by omega)).ag u1 (by omega)).ag u2 (by omega)).ag u3 (by omega), (((g3.ag a4 (by omega)).ag u1 (by omega)).ag u2 (by omega)).ag u3 (by omega), ((g4.ag u1 (by omega)).ag u2 (by omega)).ag u3 (by omega), ?_, ?_, ?_, ?_, ?_, ?_, ?_⟩
          · rw [Rw_ag u3 (by omega), Rw_ag u2 (by omega), Rw_ag u1 (by omega), Rw_ag a4 (by omega), Rw_ag a3 (by omega), Rw_ag a2 (by omega), p1]; exact LIs_app m1 f1
          · rw [Rw_ag u3 (by omega), Rw_ag u2 (by omega), Rw_ag u1 (by omega), Rw_ag a4 (by omega), Rw_ag a3 (by omega), p2]; exact LIs_app m2 t6
          · rw [Rw_ag u3 (by omega), Rw_ag u2 (by omega), Rw_ag u1 (by omega), Rw_ag a4 (by omega), p3]; exact LIs_app m3 t7
          · rw [Rw_ag u3 (by omega), Rw_ag u2 (by omega), Rw_ag u1 (by omega), p4]; exact LIs_app m4 f3
          · rw [jset_ne (Or.inr (by decide)), jset_ne (Or.inr (by decide)), jset_eq]; exact t5
          · rw [jset_ne (Or.inr (by decide)), jset_eq]; exact t8
          · rw [jset_eq]; exact t9
        have aAll : jAg V (jset (jset (jset V_94 q 7 b5) q 8 x8) q 9 x9) q (q + 15) := (((((((ha.tr (a1.wide (by omega) (by omega))).tr (a2.wide (by omega) (by omega))).tr (a3.wide (by omega) (by omega))).tr (a4.wide (by omega) (by omega))).tr (u1.wide (by omega) (by omega))).tr (u2.wide (by omega) (by omega))).tr (u3.wide (by omega) (by omega)))
        refine j_iload dX6_measure_128 rfl ?_
        refine j_cVu dX6_measure_130 hB mo_X6_measureCue ml_X6_75 (sp_X6_measureCue hB hK.1 hA2 hB2 (hs.ag aAll (by omega)) (hr.ag aAll (by omega)) hd1 hd2 hp hrl hw' hlw (by omega) hi) (by first | exact hK.1 | exact hA.1.1 | exact hA.2.1.1 | exact hA.2.2.1.1 | exact hA.2.2.2.1.1 | exact hr.1 | exact hs.1 | exact hr.2.1.1) rfl rfl rfl rfl ⟨rfl, rfl, by decide, by decide⟩ (Nat.le_of_ble_eq_true rfl) ⟨by decide, by decide⟩ (fun V_130 h_130 => ?_)
        obtain ⟨gA, gB, aC⟩ := h_130
        refine j_iinc (v := 1) (L' := [(0, _), (1, _), (2, _), (3, _), (4, _), (5, _), (6, _), (7, _)]) dX6_measure_133 rfl (by decide) (by decide) rfl ?_
        refine j_goto (tgt := 7) dX6_measure_136 (by decide) ?_
        refine ih (k + 1) _ V_130 _ rfl rfl rfl rfl rfl ?_ (by omega) gA gB (aAll.tr aC)
        rw [ti_add (by rw [ti_1]; omega) (by rw [ti_1]; omega), ti_1]; omega
  refine j_aload_n dX6_measure_0 rfl ?_
  refine j_cVu dX6_measure_1 hB mo_X6_clear ml_X6_38 (sp_X6_clear (s := s) (r := r) (w := w.toInt) hB hK) (by first | exact hK.1 | exact hA.1.1 | exact hA.2.1.1 | exact hA.2.2.1.1 | exact hA.2.2.2.1.1 | exact hr.1 | exact hs.1 | exact hr.2.1.1) rfl rfl rfl rfl ⟨rfl, rfl, by decide, by decide⟩ (Nat.le_of_ble_eq_true rfl) ⟨by decide, by decide⟩ (fun V_1 h_1 => ?_)
  obtain ⟨gA, gB, aC⟩ := h_1
  refine j_iconst (v := 0) dX6_measure_4 (by decide) ?_
  refine j_istore (L' := [(0, _), (1, _), (2, _), (3, _), (4, _)]) dX6_measure_5 (by decide) rfl ?_
  exact loop r.1.length 0 0 V_1 _ rfl rfl rfl rfl rfl rfl (by omega) gA gB aC
set_option maxRecDepth 100000 in
set_option maxHeartbeats 4000000 in
theorem sp_X6_roomForCue (hB : jB l s0 D) {q n : Nat} {s : aS} {r : aR} {w : Int} {i : Int32} (h : TmIs T V q s r w) (hp : pcW s) (hrl : rlW s r) (hw : w = 0 ∨ 10 ≤ w) (hn : n < r.1.length) (hi : i.toInt = n) : Sp l s0 D kX6_roomForCue (jR 1 0 0) 0 0 [.ref q, .int i] T V X sz (qI T X sz (fun x V' => V = V' ∧ x.toInt = aRoom s r w n)) := by
  refine Sp.of pn_X6_roomForCue rfl (Nat.le_of_ble_eq_true rfl) ?_
  obtain ⟨h0, hA, hBt⟩ := id h
  have h4 := hrl.2.2.2.1
  have i1 := aMus_rng hp hrl hw n (by omega)
  have i2 := aBeg_rng hrl hw n (by omega)
  have i3 := aTime_rng hrl hw hn
  have hcb : aCb s r w n = max (aBeg r w n) (aMus s r w n) := rfl
  refine j_aload_n dX6_roomForCue_0 rfl ?_
  refine j_getr dX6_roomForCue_1 hB fl_X6_26 (by first | exact h.1 | exact hA.1.1 | exact hA.2.1.1 | exact hA.2.2.1.1 | exact hA.2.2.2.1.1 | exact h.2.2.1.1 | exact h.2.2.2.1.1 | exact h.2.2.2.2.1.1 | exact hr.1) (by rfl) ?_
  refine j_iload_n dX6_roomForCue_4 rfl ?_
  refine j_cVi dX6_roomForCue_5 hB mo_X3_at ml_X6_54 (sp_X3_at hB hA.2.2.2.1) (by first | exact h.1 | exact hA.1.1 | exact hA.2.1.1 | exact hA.2.2.1.1 | exact hA.2.2.2.1.1 | exact h.2.2.1.1 | exact h.2.2.2.1.1 | exact h.2.2.2.2.1.1 | exact hr.1) rfl rfl rfl rfl ⟨rfl, rfl, by decide, by decide⟩ (Nat.le_of_ble_eq_true rfl) ⟨by decide, by decide⟩ (fun r_5 V_5 h_5 => ?_)
  obtain ⟨rfl, y1⟩ := h_5
  rw [hi] at y1
  have t1 := congrArg Int32.toInt y1
  rw [hA.2.2.2.2.2.2.2.1.at hn] at t1
  refine j_aload_n dX6_roomForCue_8 rfl ?_
  refine j_getr dX6_roomForCue_9 hB fl_X6_23 (by first | exact h.1 | exact hA.1.1 | exact hA.2.1.1 | exact hA.2.2.1.1 | exact hA.2.2.2.1.1 | exact h.2.2.1.1 | exact h.2.2.2.1.1 | exact h.2.2.2.2.1.1 | exact hr.1) (by rfl) ?_
  refine j_iload_n dX6_roomForCue_12 rfl ?_
  refine j_cVi dX6_roomForCue_13 hB mo_X3_at ml_X6_54 (sp_X3_at hB hA.2.2.1) (by first | exact h.1 | exact hA.1.1 | exact hA.2.1.1 | exact hA.2.2.1.1 | exact hA.2.2.2.1.1 | exact h.2.2.1.1 | exact h.2.2.2.1.1 | exact h.2.2.2.2.1.1 | exact hr.1) rfl rfl rfl rfl ⟨rfl, rfl, by decide, by decide⟩ (Nat.le_of_ble_eq_true rfl) ⟨by decide, by decide⟩ (fun r_13 V_13 h_13 => ?_)
  obtain ⟨rfl, y2⟩ := h_13
  rw [hi] at y2
  have t2 := congrArg Int32.toInt y2
  rw [hA.2.2.2.2.2.2.1.at hn] at t2
  refine j_iadd dX6_roomForCue_16 ?_
  refine j_aload_n dX6_roomForCue_17 rfl ?_
  refine j_getr dX6_roomForCue_18 hB fl_X6_29 (by first | exact h.1 | exact hA.1.1 | exact hA.2.1.1 | exact hA.2.2.1.1 | exact hA.2.2.2.1.1 | exact h.2.2.1.1 | exact h.2.2.2.1.1 | exact h.2.2.2.2.1.1 | exact hr.1) (by rfl) ?_
  refine j_iload_n dX6_roomForCue_21 rfl ?_
  refine j_cVi dX6_roomForCue_22 hB mo_X3_at ml_X6_54 (sp_X3_at hB hBt.1) (by first | exact h.1 | exact hA.1.1 | exact hA.2.1.1 | exact hA.2.2.1.1 | exact hA.2.2.2.1.1 | exact h.2.2.1.1 | exact h.2.2.2.1.1 | exact h.2.2.2.2.1.1 | exact hr.1) rfl rfl rfl rfl ⟨rfl, rfl, by decide, by decide⟩ (Nat.le_of_ble_eq_true rfl) ⟨by decide, by decide⟩ (fun r_22 V_22 h_22 => ?_)
  obtain ⟨rfl, y3⟩ := h_22
  rw [hi] at y3
  have t3 := congrArg Int32.toInt y3
  rw [hBt.2.2.2.1.at hn] at t3
  have t4 : (r_5 + r_13).toInt = aBeg r w n + aTime r w n := by rw [ti_add (by omega) (by omega), t1, t2]
  refine j_isub dX6_roomForCue_25 ?_
  refine j_iret dX6_roomForCue_26 rfl (rfl) (by decide) (by decide) ?_
  exact ⟨_, rfl, rfl, rfl, rfl, rfl, by rw [ti_sub (by omega) (by omega), t4, t3]; rfl⟩
set_option maxRecDepth 100000 in
set_option maxHeartbeats 4000000 in
theorem sp_X6_silence (hB : jB l s0 D) {q qr : Nat} {s : aS} {r : aR} {w : Int} (h : TmIs T V q s r w) (hr : ReelOK T V qr r) (hp : pcW s) (hrl : rlW s r) (hw : w = 0 ∨ 10 ≤ w) : Sp l s0 D kX6_silence (jR 2 0 0) 0 0 [.ref q, .ref qr] T V X sz (qI T X sz (fun x V' => V = V' ∧ x.toInt = aSil s r w)) := by
  refine Sp.of pn_X6_silence rfl (Nat.le_of_ble_eq_true rfl) ?_
  obtain ⟨h0, hA, hBt⟩ := id h
  have hn10 := hrl.2.2.2.1
  have t9 := hA.2.2.2.2.2.2.2.2.2.2
  have rE := aBeg_rng hrl hw r.1.length (by omega)
  have rS := fun k hk => aSum_rng (f := aMu s r w) (B := 300000) (n := r.1.length) (fun k hk => aMu_rng hp hrl hw hk) k hk
  have rE' := rS r.1.length (by omega)
  have loop : ∀ (n k : Nat) (i y : Int32) (L : List (Nat × Value)), L.lookup 0 = some (.ref q) → L.lookup 1 = some (.ref qr) → L.lookup 2 = some (.int y) → L.lookup 3 = some (.int i) → i.toInt = k → k + n = r.1.length → y.toInt = aSum (aMu s r w) k → J l s0 D kX6_silence (jR 2 0 0) 0 0 (qI T X sz (fun x V' => V = V' ∧ x.toInt = aSil s r w)) 4 L [] T V X sz 0 0 := by
    intro n
    induction n with
    | zero =>
      intro k i y L l0 l1 l2 l3 hi hk hy
      refine j_sub2 (L' := [(0, .ref q), (1, .ref qr), (2, .int y), (3, .int i)]) (List.forall_mem_cons.mpr ⟨l0, List.forall_mem_cons.mpr ⟨l1, List.forall_mem_cons.mpr ⟨l2, List.forall_mem_cons.mpr ⟨l3, fun _ h9 => nomatch h9⟩⟩⟩⟩) ?_
      refine j_iload_n dX6_silence_4 rfl ?_
      refine j_aload_n dX6_silence_5 rfl ?_
      refine j_cVi dX6_silence_6 hB mo_X2_scenes ml_X6_41 (sp_X2_scenes hB hr) (by first | exact h.1 | exact hA.1.1 | exact hA.2.1.1 | exact hA.2.2.1.1 | exact hA.2.2.2.1.1 | exact h.2.2.1.1 | exact h.2.2.2.1.1 | exact h.2.2.2.2.1.1 | exact hr.1) rfl rfl rfl rfl ⟨rfl, rfl, by decide, by decide⟩ (Nat.le_of_ble_eq_true rfl) ⟨by decide, by decide⟩ (fun r_6 V_6 h_6 => ?_)
      obtain ⟨rfl, hn⟩ := h_6
      refine j_icmp_ge (tgt := 57) dX6_silence_9 (by decide) (fun c_9 => ?_) (fun c_9 => ?_)
      · refine j_aload_n dX6_silence_57 rfl ?_
        refine j_geti dX6_silence_58 hB fl_X6_69 (by first | exact h.1 | exact hA.1.1 | exact hA.2.1.1 | exact hA.2.2.1.1 | exact hA.2.2.2.1.1 | exact h.2.2.1.1 | exact h.2.2.2.1.1 | exact h.2.2.2.2.1.1 | exact hr.1) (by rfl) ?_
        refine j_iload_n dX6_silence_61 rfl ?_
        refine j_isub dX6_silence_62 ?_
        refine j_iret dX6_silence_63 rfl (rfl) (by decide) (by decide) ?_
        exact ⟨_, rfl, rfl, rfl, rfl, rfl, by rw [show k = r.1.length by omega] at hy; rw [ti_sub (by omega) (by omega), t9, hy]; rfl⟩
      · exact absurd c_9 (by omega)
    | succ n ih =>
      intro k i y L l0 l1 l2 l3 hi hk hy
      have hlt : k < r.1.length := by omega
      have i0 := rS k (by omega)
      have i0' := aMu_rng hp hrl hw hlt
      have i1 := aMus_rng hp hrl hw k (by omega)
      have i1' := aMus_rng hp hrl hw (k + 1) (by omega)
      have i2 := aBeg_rng hrl hw k (by omega)
      have hcb : aCb s r w k = max (aBeg r w k) (aMus s r w k) := rfl
      have hsm : aSum (aMu s r w) (k + 1) = aSum (aMu s r w) k + aMu s r w k := rfl
      refine j_sub2 (L' := [(0, .ref q), (1, .ref qr), (2, .int y), (3, .int i)]) (List.forall_mem_cons.mpr ⟨l0, List.forall_mem_cons.mpr ⟨l1, List.forall_mem_cons.mpr ⟨l2, List.forall_mem_cons.mpr ⟨l3, fun _ h9 => nomatch h9⟩⟩⟩⟩) ?_
      refine j_iload_n dX6_silence_4 rfl ?_
      refine j_aload_n dX6_silence_5 rfl ?_
      refine j_cVi dX6_silence_6 hB mo_X2_scenes ml_X6_41 (sp_X2_scenes hB hr) (by first | exact h.1 | exact hA.1.1 | exact hA.2.1.1 | exact hA.2.2.1.1 | exact hA.2.2.2.1.1 | exact h.2.2.1.1 | exact h.2.2.2.1.1 | exact h.2.2.2.2.1.1 | exact hr.1) rfl rfl rfl rfl ⟨rfl, rfl, by decide, by decide⟩ (Nat.le_of_ble_eq_true rfl) ⟨by decide, by decide⟩ (fun r_6 V_6 h_6 => ?_)
      obtain ⟨rfl, hn⟩ := h_6
      refine j_icmp_ge (tgt := 57) dX6_silence_9 (by decide) (fun c_9 => ?_) (fun c_9 => ?_)
      · exact absurd c_9 (by omega)
      · refine j_aload_n dX6_silence_12 rfl ?_
        refine j_iload_n dX6_silence_13 rfl ?_
        refine j_cVi dX6_silence_14 hB mo_X2_hasCue ml_X6_97 (sp_X2_hasCue hB hr) (by first | exact h.1 | exact hA.1.1 | exact hA.2.1.1 | exact hA.2.2.1.1 | exact hA.2.2.2.1.1 | exact h.2.2.1.1 | exact h.2.2.2.1.1 | exact h.2.2.2.2.1.1 | exact hr.1) rfl rfl rfl rfl ⟨rfl, rfl, by decide, by decide⟩ (Nat.le_of_ble_eq_true rfl) ⟨by decide, by decide⟩ (fun r_14 V_14 h_14 => ?_)
        obtain ⟨rfl, hc⟩ := h_14
        rw [hi] at hc
        refine j_if_eq (tgt := 51) dX6_silence_17 (by decide) (fun c_17 => ?_) (fun c_17 => ?_)
        · have hcue : ¬ isCue r k := by rcases hc with ⟨z, z2⟩ | ⟨z, z2⟩; (rw [z] at c_17; exact absurd c_17 (by decide)); exact fun y => y z2
          have hmu : aMu s r w k = 0 := cueI_f hcue
          refine j_iinc (v := 1) (L' := [(0, _), (1, _), (2, _), (3, _)]) dX6_silence_51 rfl (by decide) (by decide) rfl ?_
          refine j_goto (tgt := 4) dX6_silence_54 (by decide) ?_
          refine ih (k + 1) _ _ _ rfl rfl rfl rfl ?_ (by omega) ?_
          · rw [ti_add (by rw [ti_1]; omega) (by rw [ti_1]; omega), ti_1]; omega
          · rw [hsm, hmu, hy]; omega
        · have hcue : isCue r k := by rcases hc with ⟨z, z2⟩ | ⟨z, z2⟩; (exact z2); exact absurd z c_17
          have hmu : aMu s r w k = max 0 (min (aMus s r w (k + 1)) (aBeg r w r.1.length) - aCb s r w k) := by unfold aMu; rw [cueI_t hcue, show aEnd s r w k = aMus s r w (k + 1) from cueI_t hcue]
          refine j_iload_n dX6_silence_20 rfl ?_
          refine j_iconst (v := 0) dX6_silence_21 (by decide) ?_
          refine j_aload_n dX6_silence_22 rfl ?_
          refine j_getr dX6_silence_23 hB fl_X6_32 (by first | exact h.1 | exact hA.1.1 | exact hA.2.1.1 | exact hA.2.2.1.1 | exact hA.2.2.2.1.1 | exact h.2.2.1.1 | exact h.2.2.2.1.1 | exact h.2.2.2.2.1.1 | exact hr.1) (by rfl) ?_
          refine j_iload_n dX6_silence_26 rfl ?_
          refine j_cVi dX6_silence_27 hB mo_X3_at ml_X6_54 (sp_X3_at hB hBt.2.1) (by first | exact h.1 | exact hA.1.1 | exact hA.2.1.1 | exact hA.2.2.1.1 | exact hA.2.2.2.1.1 | exact h.2.2.1.1 | exact h.2.2.2.1.1 | exact h.2.2.2.2.1.1 | exact hr.1) rfl rfl rfl rfl ⟨rfl, rfl, by decide, by decide⟩ (Nat.le_of_ble_eq_true rfl) ⟨by decide, by decide⟩ (fun r_27 V_27 h_27 => ?_)
          obtain ⟨rfl, y2⟩ := h_27
          rw [hi] at y2
          have t2 := congrArg Int32.toInt y2
          rw [hBt.2.2.2.2.1.at hlt, show aEnd s r w k = aMus s r w (k + 1) from cueI_t hcue] at t2
          refine j_aload_n dX6_silence_30 rfl ?_
          refine j_geti dX6_silence_31 hB fl_X6_69 (by first | exact h.1 | exact hA.1.1 | exact hA.2.1.1 | exact hA.2.2.1.1 | exact hA.2.2.2.1.1 | exact h.2.2.1.1 | exact h.2.2.2.1.1 | exact h.2.2.2.2.1.1 | exact hr.1) (by rfl) ?_
          refine j_mmin dX6_silence_34 hB ml_X6_121 (by decide) (Nat.le_of_ble_eq_true rfl) (by decide) (by decide) ?_
          refine j_topi (fun xm em => ?_)
          have tm := congrArg Int32.toInt em
          rw [ti_min, t2, t9] at tm
          refine j_aload_n dX6_silence_37 rfl ?_
          refine j_getr dX6_silence_38 hB fl_X6_29 (by first | exact h.1 | exact hA.1.1 | exact hA.2.1.1 | exact hA.2.2.1.1 | exact hA.2.2.2.1.1 | exact h.2.2.1.1 | exact h.2.2.2.1.1 | exact h.2.2.2.2.1.1 | exact hr.1) (by rfl) ?_
          refine j_iload_n dX6_silence_41 rfl ?_
          refine j_cVi dX6_silence_42 hB mo_X3_at ml_X6_54 (sp_X3_at hB hBt.1) (by first | exact h.1 | exact hA.1.1 | exact hA.2.1.1 | exact hA.2.2.1.1 | exact hA.2.2.2.1.1 | exact h.2.2.1.1 | exact h.2.2.2.1.1 | exact h.2.2.2.2.1.1 | exact hr.1) rfl rfl rfl rfl ⟨rfl, rfl, by decide, by decide⟩ (Nat.le_of_ble_eq_true rfl) ⟨by decide, by decide⟩ (fun r_42 V_42 h_42 => ?_)
          obtain ⟨rfl, y3⟩ := h_42
          rw [hi] at y3
          have t3 := congrArg Int32.toInt y3
          rw [hBt.2.2.2.1.at hlt] at t3
          refine j_isub dX6_silence_45 ?_
          refine j_mmax dX6_silence_46 hB ml_X6_92 (by decide) (Nat.le_of_ble_eq_true rfl) (by decide) (by decide) ?_
          refine j_iadd dX6_silence_49 ?_
          refine j_topi (fun b2 e2 => ?_)
          have ts : (xm - r_42).toInt = min (aMus s r w (k + 1)) (aBeg r w r.1.length) - aCb s r w k := by rw [ti_sub (by omega) (by omega), tm, t3]
          have hz : (0 : Int32).toInt = 0 := rfl
          have tq := congrArg Int32.toInt e2
          rw [ti_add (by rw [ti_max, hz, ts]; omega) (by rw [ti_max, hz, ts]; omega), ti_max, hz, ts, ← hmu, hy, ← hsm] at tq
          refine j_istore_n (L' := [(0, _), (1, _), (2, _), (3, _)]) dX6_silence_50 (by decide) rfl ?_
          refine j_iinc (v := 1) (L' := [(0, _), (1, _), (2, _), (3, _)]) dX6_silence_51 rfl (by decide) (by decide) rfl ?_
          refine j_goto (tgt := 4) dX6_silence_54 (by decide) ?_
          refine ih (k + 1) _ _ _ rfl rfl rfl rfl ?_ (by omega) ?_
          · rw [ti_add (by rw [ti_1]; omega) (by rw [ti_1]; omega), ti_1]; omega
          · exact tq
  refine j_iconst (v := 0) dX6_silence_0 (by decide) ?_
  refine j_istore_n (L' := [(0, _), (1, _), (2, _)]) dX6_silence_1 (by decide) rfl ?_
  refine j_iconst (v := 0) dX6_silence_2 (by decide) ?_
  refine j_istore_n (L' := [(0, _), (1, _), (2, _), (3, _)]) dX6_silence_3 (by decide) rfl ?_
  exact loop r.1.length 0 0 0 _ rfl rfl rfl rfl rfl (by omega) rfl
end JTiming3
