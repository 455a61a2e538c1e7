/-! CueSheets$Timing: measureCue, measure -/
theorem jAg.f1 {V : jV} {q k : Nat} {v : Int32} : jAg V (jset V q k v) q (q + 1) := jAg.rf.set (Nat.le_refl q) (Nat.lt_succ_self q)
section JTiming2
variable {l : Launch} {s0 : State} {D : jD} {T : jT} {V : jV} {X : jX} {sz : Nat}
set_option maxRecDepth 100000 in
set_option maxHeartbeats 4000000 in
theorem sp_X6_measureCue (hB : jB l s0 D) {q qs qr n : Nat} {s : aS} {r : aR} {w : Int} {i : Int32} (h0 : T q = some (kTiming (q + 1) (q + 3) (q + 5) (q + 7) (q + 9) (q + 11) (q + 13))) (hA : TmA T V q r w (n + 1)) (hBt : TmB T V q s r w n) (hs : StOK T V qs s) (hr : ReelOK T V qr r) (hd1 : q + 15 ≤ qs ∨ qs + 64 ≤ q) (hd2 : q + 15 ≤ qr ∨ qr + 19 ≤ q) (hp : pcW s) (hrl : rlW s r) (hw : w = 0 ∨ 10 ≤ w) (hlw : 0 ≤ s.2.2.1.toInt) (hn : n < r.1.length) (hi : i.toInt = n) : Sp l s0 D kX6_measureCue (jR 3 0 0) 0 0 [.ref q, .ref qs, .ref qr, .int i] T V X sz (qU T X sz (fun V' => TmA T V' q r w (n + 1) ∧ TmB T V' q s r w (n + 1) ∧ jAg V V' q (q + 15))) := by
  refine Sp.of pn_X6_measureCue rfl (Nat.le_of_ble_eq_true rfl) ?_
  have hn10 := hrl.2.2.2.1
  obtain ⟨b1, b2, b3, m1, m2, m3, k1, k2, k3, k4⟩ := id hBt
  have hbeg : (atZ (Rw V (q + 7)) i.toInt).toInt = aBeg r w n := by rw [hi]; exact hA.2.2.2.2.2.2.2.1.2 n (by omega)
  have r1 := aBeg_rng hrl hw n (by omega)
  have r1' := aBeg_rng hrl hw (n + 1) (by omega)
  have r2 := aMus_rng hp hrl hw n (by omega)
  have r2' := aMus_rng hp hrl hw (n + 1) (by omega)
  have r3 := aDrift_rng hp hrl hw hn
  have rs1 := aSum_rng (f := aCue1 r) (B := 1) (n := n) (fun k _ => by unfold aCue1; by_cases hc : isCue r k; (rw [cueI_t hc]; omega); (rw [cueI_f hc]; omega)) n (Nat.le_refl n)
  have rs2 := aSum_rng (f := aBad1 s r w) (B := 1) (n := n) (fun k _ => by unfold aBad1; split <;> omega) n (Nat.le_refl n)
  have rs3 := aSum_rng (f := aDs1 s r w) (B := 300000) (n := n) (fun k hk => by have := aDrift_rng hp hrl hw (show k < r.1.length by omega); unfold aDs1; omega) n (Nat.le_refl n)
  refine j_aload_n dX6_measureCue_0 rfl ?_
  refine j_getr dX6_measureCue_1 hB fl_X6_26 (by first | exact h0 | exact hA.1.1 | exact hA.2.1.1 | exact hA.2.2.1.1 | exact hA.2.2.2.1.1 | exact hBt.1.1 | exact hBt.2.1.1 | exact hBt.2.2.1.1 | exact hr.1 | exact hs.1 | exact hr.2.1.1 | exact hr.2.2.1.1 | exact hr.2.2.2.1.1 | exact hr.2.2.2.2.1.1) (by rfl) ?_
  refine j_iload_n dX6_measureCue_4 rfl ?_
  refine j_cVi dX6_measureCue_5 hB mo_X3_at ml_X6_54 (sp_X3_at hB hA.2.2.2.1) (by first | exact h0 | exact hA.1.1 | exact hA.2.1.1 | exact hA.2.2.1.1 | exact hA.2.2.2.1.1 | exact hBt.1.1 | exact hBt.2.1.1 | exact hBt.2.2.1.1 | exact hr.1 | exact hs.1 | exact hr.2.1.1 | exact hr.2.2.1.1 | exact hr.2.2.2.1.1 | exact hr.2.2.2.2.1.1) rfl rfl rfl rfl ⟨rfl, rfl, by decide, by decide⟩ (Nat.le_of_ble_eq_true rfl) ⟨by decide, by decide⟩ (fun r_5 V_5 h_5 => ?_)
  obtain ⟨rfl, y1⟩ := h_5
  subst y1
  refine j_aload_n dX6_measureCue_8 rfl ?_
  refine j_geti dX6_measureCue_9 hB fl_X6_89 (by first | exact h0 | exact hA.1.1 | exact hA.2.1.1 | exact hA.2.2.1.1 | exact hA.2.2.2.1.1 | exact hBt.1.1 | exact hBt.2.1.1 | exact hBt.2.2.1.1 | exact hr.1 | exact hs.1 | exact hr.2.1.1 | exact hr.2.2.1.1 | exact hr.2.2.2.1.1 | exact hr.2.2.2.2.1.1) (by rfl) ?_
  refine j_mmax dX6_measureCue_12 hB ml_X6_92 (by decide) (Nat.le_of_ble_eq_true rfl) (by decide) (by decide) ?_
  refine j_topi (fun b4 e4 => ?_)
  have t4 := congrArg Int32.toInt e4
  rw [ti_max, hbeg, k4] at t4
  refine j_istore (L' := [(0, _), (1, _), (2, _), (3, _), (4, _)]) dX6_measureCue_15 (by decide) rfl ?_
  refine j_aload_n dX6_measureCue_17 rfl ?_
  refine j_getr dX6_measureCue_18 hB fl_X6_29 (by first | exact h0 | exact hA.1.1 | exact hA.2.1.1 | exact hA.2.2.1.1 | exact hA.2.2.2.1.1 | exact hBt.1.1 | exact hBt.2.1.1 | exact hBt.2.2.1.1 | exact hr.1 | exact hs.1 | exact hr.2.1.1 | exact hr.2.2.1.1 | exact hr.2.2.2.1.1 | exact hr.2.2.2.2.1.1) (by rfl) ?_
  refine j_iload dX6_measureCue_21 rfl ?_
  refine j_cVu dX6_measureCue_23 hB mo_X3_add ml_X6_66 (sp_X3_add hB b1) (by first | exact h0 | exact hA.1.1 | exact hA.2.1.1 | exact hA.2.2.1.1 | exact hA.2.2.2.1.1 | exact hBt.1.1 | exact hBt.2.1.1 | exact hBt.2.2.1.1 | exact hr.1 | exact hs.1 | exact hr.2.1.1 | exact hr.2.2.1.1 | exact hr.2.2.2.1.1 | exact hr.2.2.2.2.1.1) rfl rfl rfl rfl ⟨rfl, rfl, by decide, by decide⟩ (Nat.le_of_ble_eq_true rfl) ⟨by decide, by decide⟩ (fun V_23 h_23 => ?_)
  obtain ⟨g9, f9, a9⟩ := h_23
  rw [if_pos (by rw [m1.1]; omega)] at f9
  have hr1 := hr.ag a9 (by omega)
  have hs1 := hs.ag a9 (by omega)
  have hcb : LIs (Rw V_23 (q + 9)) (n + 1) (aCb s r w) := by rw [f9]; exact LIs_app m1 t4
  refine j_aload_n dX6_measureCue_26 rfl ?_
  refine j_iload_n dX6_measureCue_27 rfl ?_
  refine j_cVi dX6_measureCue_28 hB mo_X2_hasCue ml_X6_97 (sp_X2_hasCue hB hr1) (by first | exact h0 | exact hA.1.1 | exact hA.2.1.1 | exact hA.2.2.1.1 | exact hA.2.2.2.1.1 | exact hBt.1.1 | exact hBt.2.1.1 | exact hBt.2.2.1.1 | exact hr.1 | exact hs.1 | exact hr.2.1.1 | exact hr.2.2.1.1 | exact hr.2.2.2.1.1 | exact hr.2.2.2.2.1.1) rfl rfl rfl rfl ⟨rfl, rfl, by decide, by decide⟩ (Nat.le_of_ble_eq_true rfl) ⟨by decide, by decide⟩ (fun r_28 V_28 h_28 => ?_)
  obtain ⟨rfl, hc⟩ := h_28
  rw [hi] at hc
  refine j_if_ne (tgt := 51) dX6_measureCue_31 (by decide) (fun c_31 => ?_) (fun c_31 => ?_)
  · have hcue : isCue r n := by rcases hc with ⟨z, z2⟩ | ⟨z, z2⟩; (exact z2); exact absurd z c_31
    have cr := cue_rng hrl hn hcue
    have r4 := aPlay_rng hp hrl hn hcue
    refine j_aload_n dX6_measureCue_51 rfl ?_
    refine j_iload dX6_measureCue_52 rfl ?_
    refine j_aload_n dX6_measureCue_54 rfl ?_
    refine j_aload_n dX6_measureCue_55 rfl ?_
    refine j_getr dX6_measureCue_56 hB fl_X6_101 (by first | exact h0 | exact hA.1.1 | exact hA.2.1.1 | exact hA.2.2.1.1 | exact hA.2.2.2.1.1 | exact hBt.1.1 | exact hBt.2.1.1 | exact hBt.2.2.1.1 | exact hr.1 | exact hs.1 | exact hr.2.1.1 | exact hr.2.2.1.1 | exact hr.2.2.2.1.1 | exact hr.2.2.2.2.1.1) (by rfl) ?_
    refine j_iload_n dX6_measureCue_59 rfl ?_
    refine j_cVi dX6_measureCue_60 hB mo_X3_at ml_X6_54 (sp_X3_at hB (hr1.2.2.1)) (by first | exact h0 | exact hA.1.1 | exact hA.2.1.1 | exact hA.2.2.1.1 | exact hA.2.2.2.1.1 | exact hBt.1.1 | exact hBt.2.1.1 | exact hBt.2.2.1.1 | exact hr.1 | exact hs.1 | exact hr.2.1.1 | exact hr.2.2.1.1 | exact hr.2.2.2.1.1 | exact hr.2.2.2.2.1.1) rfl rfl rfl rfl ⟨rfl, rfl, by decide, by decide⟩ (Nat.le_of_ble_eq_true rfl) ⟨by decide, by decide⟩ (fun r_60 V_60 h_60 => ?_)
    obtain ⟨rfl, y2⟩ := h_60
    rw [hr1.2.2.2.2.2.2.2.2.1, hi] at y2
    subst y2
    refine j_aload_n dX6_measureCue_63 rfl ?_
    refine j_getr dX6_measureCue_64 hB fl_X6_104 (by first | exact h0 | exact hA.1.1 | exact hA.2.1.1 | exact hA.2.2.1.1 | exact hA.2.2.2.1.1 | exact hBt.1.1 | exact hBt.2.1.1 | exact hBt.2.2.1.1 | exact hr.1 | exact hs.1 | exact hr.2.1.1 | exact hr.2.2.1.1 | exact hr.2.2.2.1.1 | exact hr.2.2.2.2.1.1) (by rfl) ?_
    refine j_iload_n dX6_measureCue_67 rfl ?_
    refine j_cVi dX6_measureCue_68 hB mo_X3_at ml_X6_54 (sp_X3_at hB (hr1.2.2.2.1)) (by first | exact h0 | exact hA.1.1 | exact hA.2.1.1 | exact hA.2.2.1.1 | exact hA.2.2.2.1.1 | exact hBt.1.1 | exact hBt.2.1.1 | exact hBt.2.2.1.1 | exact hr.1 | exact hs.1 | exact hr.2.1.1 | exact hr.2.2.1.1 | exact hr.2.2.2.1.1 | exact hr.2.2.2.2.1.1) rfl rfl rfl rfl ⟨rfl, rfl, by decide, by decide⟩ (Nat.le_of_ble_eq_true rfl) ⟨by decide, by decide⟩ (fun r_68 V_68 h_68 => ?_)
    obtain ⟨rfl, y3⟩ := h_68
    rw [hr1.2.2.2.2.2.2.2.2.2.1, hi] at y3
    subst y3
    refine j_aload_n dX6_measureCue_71 rfl ?_
    refine j_getr dX6_measureCue_72 hB fl_X6_107 (by first | exact h0 | exact hA.1.1 | exact hA.2.1.1 | exact hA.2.2.1.1 | exact hA.2.2.2.1.1 | exact hBt.1.1 | exact hBt.2.1.1 | exact hBt.2.2.1.1 | exact hr.1 | exact hs.1 | exact hr.2.1.1 | exact hr.2.2.1.1 | exact hr.2.2.2.1.1 | exact hr.2.2.2.2.1.1) (by rfl) ?_
    refine j_iload_n dX6_measureCue_75 rfl ?_
    refine j_cVi dX6_measureCue_76 hB mo_X3_at ml_X6_54 (sp_X3_at hB (hr1.2.2.2.2.1)) (by first | exact h0 | exact hA.1.1 | exact hA.2.1.1 | exact hA.2.2.1.1 | exact hA.2.2.2.1.1 | exact hBt.1.1 | exact hBt.2.1.1 | exact hBt.2.2.1.1 | exact hr.1 | exact hs.1 | exact hr.2.1.1 | exact hr.2.2.1.1 | exact hr.2.2.2.1.1 | exact hr.2.2.2.2.1.1) rfl rfl rfl rfl ⟨rfl, rfl, by decide, by decide⟩ (Nat.le_of_ble_eq_true rfl) ⟨by decide, by decide⟩ (fun r_76 V_76 h_76 => ?_)
    obtain ⟨rfl, y4⟩ := h_76
    rw [hr1.2.2.2.2.2.2.2.2.2.2, hi] at y4
    subst y4
    refine j_cVi dX6_measureCue_79 hB mo_X5_playTime ml_X6_110 (sp_X5_playTime hB hs1 hp cr.1 cr.2.1 (by omega) cr.2.2.2.1 cr.2.2.2.2.1) (by first | exact h0 | exact hA.1.1 | exact hA.2.1.1 | exact hA.2.2.1.1 | exact hA.2.2.2.1.1 | exact hBt.1.1 | exact hBt.2.1.1 | exact hBt.2.2.1.1 | exact hr.1 | exact hs.1 | exact hr.2.1.1 | exact hr.2.2.1.1 | exact hr.2.2.2.1.1 | exact hr.2.2.2.2.1.1) rfl rfl rfl rfl ⟨rfl, rfl, by decide, by decide⟩ (Nat.le_of_ble_eq_true rfl) ⟨by decide, by decide⟩ (fun r_79 V_79 h_79 => ?_)
    obtain ⟨rfl, hpl⟩ := h_79
    have hpl : r_79.toInt = aPlay s r n := hpl
    refine j_iadd dX6_measureCue_82 ?_
    refine j_topi (fun x13 e13 => ?_)
    have t13 : x13.toInt = aMus s r w (n + 1) := by rw [e13, ti_add (by omega) (by omega), t4, hpl]; exact (cueI_t hcue).symm
    refine j_puti dX6_measureCue_83 hB fp_X6_measureCue_89 (by first | exact h0 | exact hA.1.1 | exact hA.2.1.1 | exact hA.2.2.1.1 | exact hA.2.2.2.1.1 | exact hBt.1.1 | exact hBt.2.1.1 | exact hBt.2.2.1.1 | exact hr.1 | exact hs.1 | exact hr.2.1.1 | exact hr.2.2.1.1 | exact hr.2.2.2.1.1 | exact hr.2.2.2.2.1.1) (by rfl) ?_
    refine j_aload_n dX6_measureCue_86 rfl ?_
    refine j_geti dX6_measureCue_87 hB fl_X6_89 (by first | exact h0 | exact hA.1.1 | exact hA.2.1.1 | exact hA.2.2.1.1 | exact hA.2.2.2.1.1 | exact hBt.1.1 | exact hBt.2.1.1 | exact hBt.2.2.1.1 | exact hr.1 | exact hs.1 | exact hr.2.1.1 | exact hr.2.2.1.1 | exact hr.2.2.2.1.1 | exact hr.2.2.2.2.1.1) (by rfl) ?_
    refine j_aload_n dX6_measureCue_90 rfl ?_
    refine j_geti dX6_measureCue_91 hB fl_X6_69 (by first | exact h0 | exact hA.1.1 | exact hA.2.1.1 | exact hA.2.2.1.1 | exact hA.2.2.2.1.1 | exact hBt.1.1 | exact hBt.2.1.1 | exact hBt.2.2.1.1 | exact hr.1 | exact hs.1 | exact hr.2.1.1 | exact hr.2.2.1.1 | exact hr.2.2.2.1.1 | exact hr.2.2.2.2.1.1) (by rfl) ?_
    refine j_isub dX6_measureCue_94 ?_
    refine j_topi (fun b5 e5 => ?_)
    rw [jset_eq, jset_ne (Or.inr (by decide)), a9 q (by omega)] at e5
    have ht9 := hA.2.2.2.2.2.2.2.2.2.2
    have t5 : b5.toInt = aDrift s r w n := by rw [e5, ti_sub (by rw [t13, ht9]; omega) (by rw [t13, ht9]; omega), t13, ht9]; exact (cueI_t hcue).symm
    have u1 : jAg V_23 (jset V_23 q 13 x13) q (q + 1) := jAg.f1
    refine j_istore (L' := [(0, _), (1, _), (2, _), (3, _), (4, _), (5, _)]) dX6_measureCue_95 (by decide) rfl ?_
    refine j_aload_n dX6_measureCue_97 rfl ?_
    refine j_getr dX6_measureCue_98 hB fl_X6_32 (by first | exact h0 | exact hA.1.1 | exact hA.2.1.1 | exact hA.2.2.1.1 | exact hA.2.2.2.1.1 | exact hBt.1.1 | exact hBt.2.1.1 | exact hBt.2.2.1.1 | exact hr.1 | exact hs.1 | exact hr.2.1.1 | exact hr.2.2.1.1 | exact hr.2.2.2.1.1 | exact hr.2.2.2.2.1.1) (by rfl) ?_
    refine j_aload_n dX6_measureCue_101 rfl ?_
    refine j_geti dX6_measureCue_102 hB fl_X6_89 (by first | exact h0 | exact hA.1.1 | exact hA.2.1.1 | exact hA.2.2.1.1 | exact hA.2.2.2.1.1 | exact hBt.1.1 | exact hBt.2.1.1 | exact hBt.2.2.1.1 | exact hr.1 | exact hs.1 | exact hr.2.1.1 | exact hr.2.2.1.1 | exact hr.2.2.2.1.1 | exact hr.2.2.2.2.1.1) (by rfl) ?_
    refine j_cVu dX6_measureCue_105 hB mo_X3_add ml_X6_66 (sp_X3_add hB ((b2.ag a9 (by omega)).ag u1 (by omega))) (by first | exact h0 | exact hA.1.1 | exact hA.2.1.1 | exact hA.2.2.1.1 | exact hA.2.2.2.1.1 | exact hBt.1.1 | exact hBt.2.1.1 | exact hBt.2.2.1.1 | exact hr.1 | exact hs.1 | exact hr.2.1.1 | exact hr.2.2.1.1 | exact hr.2.2.2.1.1 | exact hr.2.2.2.2.1.1) rfl rfl rfl rfl ⟨rfl, rfl, by decide, by decide⟩ (Nat.le_of_ble_eq_true rfl) ⟨by decide, by decide⟩ (fun V_105 h_105 => ?_)
    obtain ⟨g11, f11, a11⟩ := h_105
    rw [Rw_ag u1 (by omega), Rw_ag a9 (by omega), if_pos (by rw [m2.1]; omega), jset_eq] at f11
    refine j_aload_n dX6_measureCue_108 rfl ?_
    refine j_getr dX6_measureCue_109 hB fl_X6_35 (by first | exact h0 | exact hA.1.1 | exact hA.2.1.1 | exact hA.2.2.1.1 | exact hA.2.2.2.1.1 | exact hBt.1.1 | exact hBt.2.1.1 | exact hBt.2.2.1.1 | exact hr.1 | exact hs.1 | exact hr.2.1.1 | exact hr.2.2.1.1 | exact hr.2.2.2.1.1 | exact hr.2.2.2.2.1.1) (by rfl) ?_
    refine j_iload dX6_measureCue_112 rfl ?_
    refine j_cVu dX6_measureCue_114 hB mo_X3_add ml_X6_66 (sp_X3_add hB (((b3.ag a9 (by omega)).ag u1 (by omega)).ag a11 (by omega))) (by first | exact h0 | exact hA.1.1 | exact hA.2.1.1 | exact hA.2.2.1.1 | exact hA.2.2.2.1.1 | exact hBt.1.1 | exact hBt.2.1.1 | exact hBt.2.2.1.1 | exact hr.1 | exact hs.1 | exact hr.2.1.1 | exact hr.2.2.1.1 | exact hr.2.2.2.1.1 | exact hr.2.2.2.2.1.1) rfl rfl rfl rfl ⟨rfl, rfl, by decide, by decide⟩ (Nat.le_of_ble_eq_true rfl) ⟨by decide, by decide⟩ (fun V_114 h_114 => ?_)
    obtain ⟨g13, f13, a13⟩ := h_114
    rw [Rw_ag a11 (by omega), Rw_ag u1 (by omega), Rw_ag a9 (by omega), if_pos (by rw [m3.1]; omega)] at f13
    have hq : V_114 q = jset V_23 q 13 x13 q := by rw [a13 q (by omega), a11 q (by omega)]
    have hq2 : ∀ k, k ≠ 13 → V_114 q k = V q k := fun k hk => by rw [hq, jset_ne (Or.inr hk), a9 q (by omega)]
    refine j_aload_n dX6_measureCue_117 rfl ?_
    refine j_dup dX6_measureCue_118 rfl ?_
    refine j_geti dX6_measureCue_119 hB fl_X6_80 (by first | exact h0 | exact hA.1.1 | exact hA.2.1.1 | exact hA.2.2.1.1 | exact hA.2.2.2.1.1 | exact hBt.1.1 | exact hBt.2.1.1 | exact hBt.2.2.1.1 | exact hr.1 | exact hs.1 | exact hr.2.1.1 | exact hr.2.2.1.1 | exact hr.2.2.2.1.1 | exact hr.2.2.2.2.1.1) (by rfl) ?_
    refine j_iconst (v := 1) dX6_measureCue_122 (by decide) ?_
    refine j_iadd dX6_measureCue_123 ?_
    refine j_topi (fun x10 e10 => ?_)
    rw [hq2 10 (by decide)] at e10
    have t10 : x10.toInt = aSum (aCue1 r) (n + 1) := by rw [e10, ti_add (by rw [ti_1]; omega) (by rw [ti_1]; omega), ti_1, k1]; show _ = aSum (aCue1 r) n + aCue1 r n; unfold aCue1; rw [cueI_t hcue]
    refine j_puti dX6_measureCue_124 hB fp_X6_measureCue_80 (by first | exact h0 | exact hA.1.1 | exact hA.2.1.1 | exact hA.2.2.1.1 | exact hA.2.2.2.1.1 | exact hBt.1.1 | exact hBt.2.1.1 | exact hBt.2.2.1.1 | exact hr.1 | exact hs.1 | exact hr.2.1.1 | exact hr.2.2.1.1 | exact hr.2.2.2.1.1 | exact hr.2.2.2.2.1.1) (by rfl) ?_
    refine j_aload_n dX6_measureCue_127 rfl ?_
    refine j_dup dX6_measureCue_128 rfl ?_
    refine j_geti dX6_measureCue_129 hB fl_X6_86 (by first | exact h0 | exact hA.1.1 | exact hA.2.1.1 | exact hA.2.2.1.1 | exact hA.2.2.2.1.1 | exact hBt.1.1 | exact hBt.2.1.1 | exact hBt.2.2.1.1 | exact hr.1 | exact hs.1 | exact hr.2.1.1 | exact hr.2.2.1.1 | exact hr.2.2.2.1.1 | exact hr.2.2.2.2.1.1) (by rfl) ?_
    refine j_iload dX6_measureCue_132 rfl ?_
    refine j_mabs dX6_measureCue_134 hB ml_X6_115 (by decide) (Nat.le_of_ble_eq_true rfl) (by decide) (by decide) ?_
    refine j_iadd dX6_measureCue_137 ?_
    refine j_topi (fun x12 e12 => ?_)
    rw [jset_ne (Or.inr (by decide)), hq2 12 (by decide)] at e12
    have tab := ti_abs (x := b5) (by omega)
    have t12 : x12.toInt = aSum (aDs1 s r w) (n + 1) := by rw [e12, ti_add (by rw [tab]; omega) (by rw [tab]; omega), tab, k3, t5]; rfl
    have u2 : jAg V_114 (jset V_114 q 10 x10) q (q + 1) := jAg.f1
    have u3 : jAg (jset V_114 q 10 x10) (jset (jset V_114 q 10 x10) q 12 x12) q (q + 1) := jAg.f1
    refine j_puti dX6_measureCue_138 hB fp_X6_measureCue_86 (by first | exact h0 | exact hA.1.1 | exact hA.2.1.1 | exact hA.2.2.1.1 | exact hA.2.2.2.1.1 | exact hBt.1.1 | exact hBt.2.1.1 | exact hBt.2.2.1.1 | exact hr.1 | exact hs.1 | exact hr.2.1.1 | exact hr.2.2.1.1 | exact hr.2.2.2.1.1 | exact hr.2.2.2.2.1.1) (by rfl) ?_
    refine j_aload_n dX6_measureCue_141 rfl ?_
    refine j_dup dX6_measureCue_142 rfl ?_
    refine j_geti dX6_measureCue_143 hB fl_X6_83 (by first | exact h0 | exact hA.1.1 | exact hA.2.1.1 | exact hA.2.2.1.1 | exact hA.2.2.2.1.1 | exact hBt.1.1 | exact hBt.2.1.1 | exact hBt.2.2.1.1 | exact hr.1 | exact hs.1 | exact hr.2.1.1 | exact hr.2.2.1.1 | exact hr.2.2.2.1.1 | exact hr.2.2.2.2.1.1) (by rfl) ?_
    refine j_aload_n dX6_measureCue_146 rfl ?_
    refine j_iload dX6_measureCue_147 rfl ?_
    refine j_cVi dX6_measureCue_149 hB mo_X5_isBad ml_X6_118 (sp_X5_isBad hB (((((hs1.ag u1 (by omega)).ag a11 (by omega)).ag a13 (by omega)).ag u2 (by omega)).ag u3 (by omega)) (by omega)) (by first | exact h0 | exact hA.1.1 | exact hA.2.1.1 | exact hA.2.2.1.1 | exact hA.2.2.2.1.1 | exact hBt.1.1 | exact hBt.2.1.1 | exact hBt.2.2.1.1 | exact hr.1 | exact hs.1 | exact hr.2.1.1 | exact hr.2.2.1.1 | exact hr.2.2.2.1.1 | exact hr.2.2.2.2.1.1) rfl rfl rfl rfl ⟨rfl, rfl, by decide, by decide⟩ (Nat.le_of_ble_eq_true rfl) ⟨by decide, by decide⟩ (fun r_149 V_149 h_149 => ?_)
    obtain ⟨rfl, hbad⟩ := h_149
    rw [t5] at hbad
    refine j_if_eq (tgt := 159) dX6_measureCue_152 (by decide) (fun c_152 => ?_) (fun c_152 => ?_)
    · refine j_iconst (v := 0) dX6_measureCue_159 (by decide) ?_
      refine j_iadd dX6_measureCue_160 ?_
      refine j_topi (fun x11 e11 => ?_)
      rw [jset_ne (Or.inr (by decide)), jset_ne (Or.inr (by decide)), hq2 11 (by decide)] at e11
      refine j_puti dX6_measureCue_161 hB fp_X6_measureCue_83 (by first | exact h0 | exact hA.1.1 | exact hA.2.1.1 | exact hA.2.2.1.1 | exact hA.2.2.2.1.1 | exact hBt.1.1 | exact hBt.2.1.1 | exact hBt.2.2.1.1 | exact hr.1 | exact hs.1 | exact hr.2.1.1 | exact hr.2.2.1.1 | exact hr.2.2.2.1.1 | exact hr.2.2.2.2.1.1) (by rfl) ?_
      refine j_vret dX6_measureCue_164 rfl (by decide) (by decide) ?_
      have t11 : x11.toInt = aSum (aBad1 s r w) (n + 1) := by
        show _ = aSum (aBad1 s r w) n + aBad1 s r w n
        rcases hbad with ⟨z, z2⟩ | ⟨z, z2⟩
        · first
          | (rw [z] at c_152; exact absurd c_152 (by decide))
          | rw [show aBad1 s r w n = 1 from if_pos z2, e11, ti_add (by rw [ti_1]; omega) (by rw [ti_1]; omega), ti_1, k2]
        · first
          | exact absurd z c_152
          | rw [show aBad1 s r w n = 0 from if_neg z2, e11, ti_add (by rw [ti_0]; omega) (by rw [ti_0]; omega), ti_0, k2]
      have u4 : jAg (jset (jset V_114 q 10 x10) q 12 x12) (jset (jset (jset V_114 q 10 x10) q 12 x12) q 11 x11) q (q + 1) := jAg.f1
      refine ⟨rfl, rfl, rfl, rfl, ?_, ⟨((((((g9.ag u1 (by omega)).ag a11 (by omega)).ag a13 (by omega)).ag u2 (by omega)).ag u3 (by omega)).ag u4 (by omega)), ((((g11.ag a13 (by omega)).ag u2 (by omega)).ag u3 (by omega)).ag u4 (by omega)), (((g13.ag u2 (by omega)).ag u3 (by omega)).ag u4 (by omega)), ?_, ?_, ?_, ?_, ?_, ?_, ?_⟩, ?_⟩
      · exact ((((((hA.ag a9 (by omega)).set (by omega)).ag a11 (by omega)).ag a13 (by omega)).set (by omega)).set (by omega)).set (by omega)
      · rw [Rw_ag u4 (by omega), Rw_ag u3 (by omega), Rw_ag u2 (by omega), Rw_ag a13 (by omega), Rw_ag a11 (by omega), Rw_ag u1 (by omega)]; exact hcb
      · rw [Rw_ag u4 (by omega), Rw_ag u3 (by omega), Rw_ag u2 (by omega), Rw_ag a13 (by omega), f11]
        exact LIs_app m2 (by rw [t13]; exact (cueI_t hcue).symm)
      · rw [Rw_ag u4 (by omega), Rw_ag u3 (by omega), Rw_ag u2 (by omega), f13]
        exact LIs_app m3 t5
      · rw [jset_ne (Or.inr (by decide)), jset_ne (Or.inr (by decide)), jset_eq]; exact t10
      · rw [jset_eq]; exact t11
      · rw [jset_ne (Or.inr (by decide)), jset_eq]; exact t12
      · rw [jset_ne (Or.inr (by decide)), jset_ne (Or.inr (by decide)), jset_ne (Or.inr (by decide)), hq, jset_eq]; exact t13
      · exact ((((((a9.wide (lo' := q) (hi' := q + 15) (by omega) (by omega)).tr (u1.wide (by omega) (by omega))).tr (a11.wide (by omega) (by omega))).tr (a13.wide (by omega) (by omega))).tr (u2.wide (by omega) (by omega))).tr (u3.wide (by omega) (by omega))).tr (u4.wide (by omega) (by omega))
    · refine j_iconst (v := 1) dX6_measureCue_155 (by decide) ?_
      refine j_goto (tgt := 160) dX6_measureCue_156 (by decide) ?_
      refine j_iadd dX6_measureCue_160 ?_
      refine j_topi (fun x11 e11 => ?_)
      rw [jset_ne (Or.inr (by decide)), jset_ne (Or.inr (by decide)), hq2 11 (by decide)] at e11
      refine j_puti dX6_measureCue_161 hB fp_X6_measureCue_83 (by first | exact h0 | exact hA.1.1 | exact hA.2.1.1 | exact hA.2.2.1.1 | exact hA.2.2.2.1.1 | exact hBt.1.1 | exact hBt.2.1.1 | exact hBt.2.2.1.1 | exact hr.1 | exact hs.1 | exact hr.2.1.1 | exact hr.2.2.1.1 | exact hr.2.2.2.1.1 | exact hr.2.2.2.2.1.1) (by rfl) ?_
      refine j_vret dX6_measureCue_164 rfl (by decide) (by decide) ?_
      have t11 : x11.toInt = aSum (aBad1 s r w) (n + 1) := by
        show _ = aSum (aBad1 s r w) n + aBad1 s r w n
        rcases hbad with ⟨z, z2⟩ | ⟨z, z2⟩
        · first
          | (rw [z] at c_152; exact absurd c_152 (by decide))
          | rw [show aBad1 s r w n = 1 from if_pos z2, e11, ti_add (by rw [ti_1]; omega) (by rw [ti_1]; omega), ti_1, k2]
        · first
          | exact absurd z c_152
          | rw [show aBad1 s r w n = 0 from if_neg z2, e11, ti_add (by rw [ti_0]; omega) (by rw [ti_0]; omega), ti_0, k2]
      have u4 : jAg (jset (jset V_114 q 10 x10) q 12 x12) (jset (jset (jset V_114 q 10 x10) q 12 x12) q 11 x11) q (q + 1) := jAg.f1
      refine ⟨rfl, rfl, rfl, rfl, ?_, ⟨((((((g9.ag u1 (by omega)).ag a11 (by omega)).ag a13 (by omega)).ag u2 (by omega)).ag u3 (by omega)).ag u4 (by omega)), ((((g11.ag a13 (by omega)).ag u2 (by omega)).ag u3 (by omega)).ag u4 (by omega)), (((g13.ag u2 (by omega)).ag u3 (by omega)).ag u4 (by omega)), ?_, ?_, ?_, ?_, ?_, ?_, ?_⟩, ?_⟩
      · exact ((((((hA.ag a9 (by omega)).set (by omega)).ag a11 (by omega)).ag a13 (by omega)).set (by omega)).set (by omega)).set (by omega)
      · rw [Rw_ag u4 (by omega), Rw_ag u3 (by omega), Rw_ag u2 (by omega), Rw_ag a13 (by omega), Rw_ag a11 (by omega), Rw_ag u1 (by omega)]; exact hcb
      · rw [Rw_ag u4 (by omega), Rw_ag u3 (by omega), Rw_ag u2 (by omega), Rw_ag a13 (by omega), f11]
        exact LIs_app m2 (by rw [t13]; exact (cueI_t hcue).symm)
      · rw [Rw_ag u4 (by omega), Rw_ag u3 (by omega), Rw_ag u2 (by omega), f13]
        exact LIs_app m3 t5
      · rw [jset_ne (Or.inr (by decide)), jset_ne (Or.inr (by decide)), jset_eq]; exact t10
      · rw [jset_eq]; exact t11
      · rw [jset_ne (Or.inr (by decide)), jset_eq]; exact t12
      · rw [jset_ne (Or.inr (by decide)), jset_ne (Or.inr (by decide)), jset_ne (Or.inr (by decide)), hq, jset_eq]; exact t13
      · exact ((((((a9.wide (lo' := q) (hi' := q + 15) (by omega) (by omega)).tr (u1.wide (by omega) (by omega))).tr (a11.wide (by omega) (by omega))).tr (a13.wide (by omega) (by omega))).tr (u2.wide (by omega) (by omega))).tr (u3.wide (by omega) (by omega))).tr (u4.wide (by omega) (by omega))
  · have hcue : ¬ isCue r n := by rcases hc with ⟨z, z2⟩ | ⟨z, z2⟩; (rw [z] at c_31; exact absurd c_31 (by decide)); exact fun y => y z2
    refine j_aload_n dX6_measureCue_34 rfl ?_
    refine j_getr dX6_measureCue_35 hB fl_X6_32 (by first | exact h0 | exact hA.1.1 | exact hA.2.1.1 | exact hA.2.2.1.1 | exact hA.2.2.2.1.1 | exact hBt.1.1 | exact hBt.2.1.1 | exact hBt.2.2.1.1 | exact hr.1 | exact hs.1 | exact hr.2.1.1 | exact hr.2.2.1.1 | exact hr.2.2.2.1.1 | exact hr.2.2.2.2.1.1) (by rfl) ?_
    refine j_iconst (v := 0) dX6_measureCue_38 (by decide) ?_
    refine j_cVu dX6_measureCue_39 hB mo_X3_add ml_X6_66 (sp_X3_add hB (b2.ag a9 (by omega))) (by first | exact h0 | exact hA.1.1 | exact hA.2.1.1 | exact hA.2.2.1.1 | exact hA.2.2.2.1.1 | exact hBt.1.1 | exact hBt.2.1.1 | exact hBt.2.2.1.1 | exact hr.1 | exact hs.1 | exact hr.2.1.1 | exact hr.2.2.1.1 | exact hr.2.2.2.1.1 | exact hr.2.2.2.2.1.1) rfl rfl rfl rfl ⟨rfl, rfl, by decide, by decide⟩ (Nat.le_of_ble_eq_true rfl) ⟨by decide, by decide⟩ (fun V_39 h_39 => ?_)
    obtain ⟨g11, f11, a11⟩ := h_39
    rw [Rw_ag a9 (by omega), if_pos (by rw [m2.1]; omega)] at f11
    refine j_aload_n dX6_measureCue_42 rfl ?_
    refine j_getr dX6_measureCue_43 hB fl_X6_35 (by first | exact h0 | exact hA.1.1 | exact hA.2.1.1 | exact hA.2.2.1.1 | exact hA.2.2.2.1.1 | exact hBt.1.1 | exact hBt.2.1.1 | exact hBt.2.2.1.1 | exact hr.1 | exact hs.1 | exact hr.2.1.1 | exact hr.2.2.1.1 | exact hr.2.2.2.1.1 | exact hr.2.2.2.2.1.1) (by rfl) ?_
    refine j_iconst (v := 0) dX6_measureCue_46 (by decide) ?_
    refine j_cVu dX6_measureCue_47 hB mo_X3_add ml_X6_66 (sp_X3_add hB ((b3.ag a9 (by omega)).ag a11 (by omega))) (by first | exact h0 | exact hA.1.1 | exact hA.2.1.1 | exact hA.2.2.1.1 | exact hA.2.2.2.1.1 | exact hBt.1.1 | exact hBt.2.1.1 | exact hBt.2.2.1.1 | exact hr.1 | exact hs.1 | exact hr.2.1.1 | exact hr.2.2.1.1 | exact hr.2.2.2.1.1 | exact hr.2.2.2.2.1.1) rfl rfl rfl rfl ⟨rfl, rfl, by decide, by decide⟩ (Nat.le_of_ble_eq_true rfl) ⟨by decide, by decide⟩ (fun V_47 h_47 => ?_)
    obtain ⟨g13, f13, a13⟩ := h_47
    rw [Rw_ag a11 (by omega), Rw_ag a9 (by omega), if_pos (by rw [m3.1]; omega)] at f13
    refine j_vret dX6_measureCue_50 rfl (by decide) (by decide) ?_
    refine ⟨rfl, rfl, rfl, rfl, ((hA.ag a9 (by omega)).ag a11 (by omega)).ag a13 (by omega), ⟨(g9.ag a11 (by omega)).ag a13 (by omega), g11.ag a13 (by omega), g13, ?_, ?_, ?_, ?_, ?_, ?_, ?_⟩, ((a9.wide (lo' := q) (hi' := q + 15) (by omega) (by omega)).tr (a11.wide (by omega) (by omega))).tr (a13.wide (by omega) (by omega))⟩
    · rw [Rw_ag a13 (by omega), Rw_ag a11 (by omega)]; exact hcb
    · rw [Rw_ag a13 (by omega), f11]
      exact LIs_app m2 (by rw [ti_0]; exact (cueI_f hcue).symm)
    · rw [f13]
      exact LIs_app m3 (by rw [ti_0]; exact (cueI_f hcue).symm)
    · rw [a13 q (by omega), a11 q (by omega), a9 q (by omega), k1]; show _ = aSum (aCue1 r) n + aCue1 r n; unfold aCue1; rw [cueI_f hcue]; omega
    · rw [a13 q (by omega), a11 q (by omega), a9 q (by omega), k2]; show _ = aSum (aBad1 s r w) n + aBad1 s r w n; unfold aBad1; have e : aDrift s r w n = 0 := cueI_f hcue
      rw [e, if_neg (by have := hlw; simp; omega)]; omega
    · rw [a13 q (by omega), a11 q (by omega), a9 q (by omega), k3]; show _ = aSum (aDs1 s r w) n + aDs1 s r w n; have e : aDrift s r w n = 0 := cueI_f hcue
      unfold aDs1; rw [e]; simp
    · rw [a13 q (by omega), a11 q (by omega), a9 q (by omega), k4]; exact (cueI_f hcue).symm
end JTiming2
