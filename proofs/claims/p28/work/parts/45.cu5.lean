/-! CueSheets: bestCue, bestPiece, ifCranked, bestSpeed -/
section JCu7
variable {l : Launch} {s0 : State} {D : jD} {T : jT} {V : jV} {X : jX} {sz : Nat}
set_option maxRecDepth 100000 in
set_option maxHeartbeats 4000000 in
theorem sp_X7_bestCue (hB : jB l s0 D) {q : Nat} {x : aX} {r s p : Int32} (h : cuIs T V q x) (hW : xW x) : Sp l s0 D kX7_bestCue (jR 8 3 18) 3 18 [.ref q, .int r, .int s, .int p] T V X sz (qC T V X sz q (e_bc x r s p) [IO] (pInt (v_bc x r s p)) x (x)) := by
  refine Sp.of pn_X7_bestCue rfl (Nat.le_of_ble_eq_true rfl) ?_
  have hs := h.st
  have hr := hs.reel r.toInt
  have hrl := hW.1.r r.toInt
  refine j_aload_n dX7_bestCue_0 rfl ?_
  refine j_iload_n dX7_bestCue_1 rfl ?_
  refine j_iload_n dX7_bestCue_2 rfl ?_
  refine j_tV dX7_bestCue_3 hB mo_X7_requireScene ml_X7_85 (sp_X7_requireScene hB h) (by first | exact h.k | exact hs.1 | exact hr.1 | exact hr.2.1.1 | exact hr.2.2.1.1 | exact hr.2.2.2.1.1 | exact hr.2.2.2.2.1.1 | exact hr.2.2.2.2.2.1.1 | exact hr.2.2.2.2.2.2.1.1 | exact hs.2.2.2.2.1.1 | exact hs.2.2.2.2.2.1.1 | exact hs.2.2.2.2.2.2.1.1 | exact h.t0.2.2 | exact h.rk.1 | exact h.rk.2.1.1 | exact h.rk.2.2.1.1 | exact h.rk.2.2.2.1.1 | exact h.rk.2.2.2.2.1 | exact h.tk.1 | exact h.tk.2.1.1 | exact h.tk.2.2.1.1 | exact h.tk.2.2.2.1.1 | exact h.tk.2.2.2.2.1.1 | exact h.tk.2.2.2.2.2.1.1 | exact h.tk.2.2.2.2.2.2.1.1 | exact h.tk.2.2.2.2.2.2.2.1 | exact h.tk2.1 | exact h.b.1.1) rfl rfl rfl rfl ⟨rfl, rfl, by decide, by decide⟩ (Nat.le_of_ble_eq_true rfl) ⟨by decide, by decide⟩ rfl ⟨by decide, by decide⟩ (fun E V_3 sz_3 hz hx => by obtain ⟨rfl, rfl, hn⟩ := hx; exact qC.thr 0 hz rfl (by show e_bc x r s p = 1; unfold e_bc; exact (if_pos (fun z => hn z.1))) jAg.rf h) (fun v_3 V_3 h_3 => ?_)
  obtain ⟨rfl, rfl, h_3⟩ := h_3
  refine j_aload_n dX7_bestCue_6 rfl ?_
  refine j_iload_n dX7_bestCue_7 rfl ?_
  refine j_tV dX7_bestCue_8 hB mo_X7_requirePiece ml_X7_135 (sp_X7_requirePiece hB h) (by first | exact h.k | exact hs.1 | exact hr.1 | exact hr.2.1.1 | exact hr.2.2.1.1 | exact hr.2.2.2.1.1 | exact hr.2.2.2.2.1.1 | exact hr.2.2.2.2.2.1.1 | exact hr.2.2.2.2.2.2.1.1 | exact hs.2.2.2.2.1.1 | exact hs.2.2.2.2.2.1.1 | exact hs.2.2.2.2.2.2.1.1 | exact h.t0.2.2 | exact h.rk.1 | exact h.rk.2.1.1 | exact h.rk.2.2.1.1 | exact h.rk.2.2.2.1.1 | exact h.rk.2.2.2.2.1 | exact h.tk.1 | exact h.tk.2.1.1 | exact h.tk.2.2.1.1 | exact h.tk.2.2.2.1.1 | exact h.tk.2.2.2.2.1.1 | exact h.tk.2.2.2.2.2.1.1 | exact h.tk.2.2.2.2.2.2.1.1 | exact h.tk.2.2.2.2.2.2.2.1 | exact h.tk2.1 | exact h.b.1.1) rfl rfl rfl rfl ⟨rfl, rfl, by decide, by decide⟩ (Nat.le_of_ble_eq_true rfl) ⟨by decide, by decide⟩ rfl ⟨by decide, by decide⟩ (fun E V_8 sz_8 hz hx => by obtain ⟨rfl, rfl, hn⟩ := hx; exact qC.thr 0 hz rfl (by show e_bc x r s p = 1; unfold e_bc; exact (if_pos (fun z => hn z.2))) jAg.rf h) (fun v_8 V_8 h_8 => ?_)
  obtain ⟨rfl, rfl, h_8⟩ := h_8
  refine j_aload_n dX7_bestCue_11 rfl ?_
  refine j_getr dX7_bestCue_12 hB fl_X7_39 (by first | exact h.k | exact hs.1 | exact hr.1 | exact hr.2.1.1 | exact hr.2.2.1.1 | exact hr.2.2.2.1.1 | exact hr.2.2.2.2.1.1 | exact hr.2.2.2.2.2.1.1 | exact hr.2.2.2.2.2.2.1.1 | exact hs.2.2.2.2.1.1 | exact hs.2.2.2.2.2.1.1 | exact hs.2.2.2.2.2.2.1.1 | exact h.t0.2.2 | exact h.rk.1 | exact h.rk.2.1.1 | exact h.rk.2.2.1.1 | exact h.rk.2.2.2.1.1 | exact h.rk.2.2.2.2.1 | exact h.tk.1 | exact h.tk.2.1.1 | exact h.tk.2.2.1.1 | exact h.tk.2.2.2.1.1 | exact h.tk.2.2.2.2.1.1 | exact h.tk.2.2.2.2.2.1.1 | exact h.tk.2.2.2.2.2.2.1.1 | exact h.tk.2.2.2.2.2.2.2.1 | exact h.tk2.1 | exact h.b.1.1) (by rfl) ?_
  refine j_aload_n dX7_bestCue_15 rfl ?_
  refine j_getr dX7_bestCue_16 hB fl_X7_10 (by first | exact h.k | exact hs.1 | exact hr.1 | exact hr.2.1.1 | exact hr.2.2.1.1 | exact hr.2.2.2.1.1 | exact hr.2.2.2.2.1.1 | exact hr.2.2.2.2.2.1.1 | exact hr.2.2.2.2.2.2.1.1 | exact hs.2.2.2.2.1.1 | exact hs.2.2.2.2.2.1.1 | exact hs.2.2.2.2.2.2.1.1 | exact h.t0.2.2 | exact h.rk.1 | exact h.rk.2.1.1 | exact h.rk.2.2.1.1 | exact h.rk.2.2.2.1.1 | exact h.rk.2.2.2.2.1 | exact h.tk.1 | exact h.tk.2.1.1 | exact h.tk.2.2.1.1 | exact h.tk.2.2.2.1.1 | exact h.tk.2.2.2.2.1.1 | exact h.tk.2.2.2.2.2.1.1 | exact h.tk.2.2.2.2.2.2.1.1 | exact h.tk.2.2.2.2.2.2.2.1 | exact h.tk2.1 | exact h.b.1.1) (by rfl) ?_
  refine j_aload_n dX7_bestCue_19 rfl ?_
  refine j_getr dX7_bestCue_20 hB fl_X7_10 (by first | exact h.k | exact hs.1 | exact hr.1 | exact hr.2.1.1 | exact hr.2.2.1.1 | exact hr.2.2.2.1.1 | exact hr.2.2.2.2.1.1 | exact hr.2.2.2.2.2.1.1 | exact hr.2.2.2.2.2.2.1.1 | exact hs.2.2.2.2.1.1 | exact hs.2.2.2.2.2.1.1 | exact hs.2.2.2.2.2.2.1.1 | exact h.t0.2.2 | exact h.rk.1 | exact h.rk.2.1.1 | exact h.rk.2.2.1.1 | exact h.rk.2.2.2.1.1 | exact h.rk.2.2.2.2.1 | exact h.tk.1 | exact h.tk.2.1.1 | exact h.tk.2.2.1.1 | exact h.tk.2.2.2.1.1 | exact h.tk.2.2.2.2.1.1 | exact h.tk.2.2.2.2.2.1.1 | exact h.tk.2.2.2.2.2.2.1.1 | exact h.tk.2.2.2.2.2.2.2.1 | exact h.tk2.1 | exact h.b.1.1) (by rfl) ?_
  refine j_iload_n dX7_bestCue_23 rfl ?_
  refine j_cVa dX7_bestCue_24 hB mo_X5_reelAt ml_X7_60 (sp_X5_reelAt hB hs) (by first | exact h.k | exact hs.1 | exact hr.1 | exact hr.2.1.1 | exact hr.2.2.1.1 | exact hr.2.2.2.1.1 | exact hr.2.2.2.2.1.1 | exact hr.2.2.2.2.2.1.1 | exact hr.2.2.2.2.2.2.1.1 | exact hs.2.2.2.2.1.1 | exact hs.2.2.2.2.2.1.1 | exact hs.2.2.2.2.2.2.1.1 | exact h.t0.2.2 | exact h.rk.1 | exact h.rk.2.1.1 | exact h.rk.2.2.1.1 | exact h.rk.2.2.2.1.1 | exact h.rk.2.2.2.2.1 | exact h.tk.1 | exact h.tk.2.1.1 | exact h.tk.2.2.1.1 | exact h.tk.2.2.2.1.1 | exact h.tk.2.2.2.2.1.1 | exact h.tk.2.2.2.2.2.1.1 | exact h.tk.2.2.2.2.2.2.1.1 | exact h.tk.2.2.2.2.2.2.2.1 | exact h.tk2.1 | exact h.b.1.1) rfl rfl rfl rfl ⟨rfl, rfl, by decide, by decide⟩ (Nat.le_of_ble_eq_true rfl) ⟨by decide, by decide⟩ (fun r_24 V_24 h_24 => ?_)
  obtain ⟨rfl, hq⟩ := h_24
  subst hq
  refine j_iconst (v := 0) dX7_bestCue_27 (by decide) ?_
  refine j_cVu dX7_bestCue_28 hB mo_X6_measure ml_X7_141 (sp_X6_measure hB h.tk h.st (hr) (by omega) (by have := reelA_in (q + 1) r.toInt; omega) hW.1.1 (hW.1.r _) (Or.inl rfl) hW.1.2.1.1) (by first | exact h.k | exact hs.1 | exact hr.1 | exact hr.2.1.1 | exact hr.2.2.1.1 | exact hr.2.2.2.1.1 | exact hr.2.2.2.2.1.1 | exact hr.2.2.2.2.2.1.1 | exact hr.2.2.2.2.2.2.1.1 | exact hs.2.2.2.2.1.1 | exact hs.2.2.2.2.2.1.1 | exact hs.2.2.2.2.2.2.1.1 | exact h.t0.2.2 | exact h.rk.1 | exact h.rk.2.1.1 | exact h.rk.2.2.1.1 | exact h.rk.2.2.2.1.1 | exact h.rk.2.2.2.2.1 | exact h.tk.1 | exact h.tk.2.1.1 | exact h.tk.2.2.1.1 | exact h.tk.2.2.2.1.1 | exact h.tk.2.2.2.2.1.1 | exact h.tk.2.2.2.2.2.1.1 | exact h.tk.2.2.2.2.2.2.1.1 | exact h.tk.2.2.2.2.2.2.2.1 | exact h.tk2.1 | exact h.b.1.1) rfl rfl rfl rfl ⟨rfl, rfl, by decide, by decide⟩ (Nat.le_of_ble_eq_true rfl) ⟨by decide, by decide⟩ (fun V_28 h_28 => ?_)
  obtain ⟨gT, aT⟩ := h_28
  have gT : TmIs T V_28 (q + 461) x.1 _ 0 := gT
  have cT := h.tm aT gT.k
  refine j_aload_n dX7_bestCue_31 rfl ?_
  have hsi : s.toInt = (s.toInt.toNat : Int) := by have := h_3.2.1; omega
  have hsk : s.toInt.toNat < (sR x.1 r.toInt).1.length := by have := h_3.2.2; unfold xR at this; omega
  have hro := aRoom_rng hW.1.1 hrl (w := 0) (Or.inl rfl) hsk
  have hbP := bestT_P hW.1.1 hW.1.2.1 h_8.1 h_8.2 hro.1 hro.2
  refine j_getr dX7_bestCue_32 hB fl_X7_49 (by first | exact h.k | exact hs.1 | exact hr.1 | exact hr.2.1.1 | exact hr.2.2.1.1 | exact hr.2.2.2.1.1 | exact hr.2.2.2.2.1.1 | exact hr.2.2.2.2.2.1.1 | exact hr.2.2.2.2.2.2.1.1 | exact hs.2.2.2.2.1.1 | exact hs.2.2.2.2.2.1.1 | exact hs.2.2.2.2.2.2.1.1 | exact h.t0.2.2 | exact h.rk.1 | exact h.rk.2.1.1 | exact h.rk.2.2.1.1 | exact h.rk.2.2.2.1.1 | exact h.rk.2.2.2.2.1 | exact h.tk.1 | exact h.tk.2.1.1 | exact h.tk.2.2.1.1 | exact h.tk.2.2.2.1.1 | exact h.tk.2.2.2.2.1.1 | exact h.tk.2.2.2.2.2.1.1 | exact h.tk.2.2.2.2.2.2.1.1 | exact h.tk.2.2.2.2.2.2.2.1 | exact h.tk2.1 | exact h.b.1.1) (by rfl) ?_
  refine j_aload_n dX7_bestCue_35 rfl ?_
  refine j_getr dX7_bestCue_36 hB fl_X7_10 (by first | exact h.k | exact hs.1 | exact hr.1 | exact hr.2.1.1 | exact hr.2.2.1.1 | exact hr.2.2.2.1.1 | exact hr.2.2.2.2.1.1 | exact hr.2.2.2.2.2.1.1 | exact hr.2.2.2.2.2.2.1.1 | exact hs.2.2.2.2.1.1 | exact hs.2.2.2.2.2.1.1 | exact hs.2.2.2.2.2.2.1.1 | exact h.t0.2.2 | exact h.rk.1 | exact h.rk.2.1.1 | exact h.rk.2.2.1.1 | exact h.rk.2.2.2.1.1 | exact h.rk.2.2.2.2.1 | exact h.tk.1 | exact h.tk.2.1.1 | exact h.tk.2.2.1.1 | exact h.tk.2.2.2.1.1 | exact h.tk.2.2.2.2.1.1 | exact h.tk.2.2.2.2.2.1.1 | exact h.tk.2.2.2.2.2.2.1.1 | exact h.tk.2.2.2.2.2.2.2.1 | exact h.tk2.1 | exact h.b.1.1) (by rfl) ?_
  refine j_iload_n dX7_bestCue_39 rfl ?_
  refine j_aload_n dX7_bestCue_40 rfl ?_
  refine j_getr dX7_bestCue_41 hB fl_X7_39 (by first | exact h.k | exact hs.1 | exact hr.1 | exact hr.2.1.1 | exact hr.2.2.1.1 | exact hr.2.2.2.1.1 | exact hr.2.2.2.2.1.1 | exact hr.2.2.2.2.2.1.1 | exact hr.2.2.2.2.2.2.1.1 | exact hs.2.2.2.2.1.1 | exact hs.2.2.2.2.2.1.1 | exact hs.2.2.2.2.2.2.1.1 | exact h.t0.2.2 | exact h.rk.1 | exact h.rk.2.1.1 | exact h.rk.2.2.1.1 | exact h.rk.2.2.2.1.1 | exact h.rk.2.2.2.2.1 | exact h.tk.1 | exact h.tk.2.1.1 | exact h.tk.2.2.1.1 | exact h.tk.2.2.2.1.1 | exact h.tk.2.2.2.2.1.1 | exact h.tk.2.2.2.2.2.1.1 | exact h.tk.2.2.2.2.2.2.1.1 | exact h.tk.2.2.2.2.2.2.2.1 | exact h.tk2.1 | exact h.b.1.1) (by rfl) ?_
  refine j_iload_n dX7_bestCue_44 rfl ?_
  refine j_cVi dX7_bestCue_45 hB mo_X6_roomForCue ml_X7_230 (sp_X6_roomForCue hB gT hW.1.1 hrl (Or.inl rfl) hsk hsi) (by first | exact h.k | exact hs.1 | exact hr.1 | exact hr.2.1.1 | exact hr.2.2.1.1 | exact hr.2.2.2.1.1 | exact hr.2.2.2.2.1.1 | exact hr.2.2.2.2.2.1.1 | exact hr.2.2.2.2.2.2.1.1 | exact hs.2.2.2.2.1.1 | exact hs.2.2.2.2.2.1.1 | exact hs.2.2.2.2.2.2.1.1 | exact h.t0.2.2 | exact h.rk.1 | exact h.rk.2.1.1 | exact h.rk.2.2.1.1 | exact h.rk.2.2.2.1.1 | exact h.rk.2.2.2.2.1 | exact h.tk.1 | exact h.tk.2.1.1 | exact h.tk.2.2.1.1 | exact h.tk.2.2.2.1.1 | exact h.tk.2.2.2.2.1.1 | exact h.tk.2.2.2.2.2.1.1 | exact h.tk.2.2.2.2.2.2.1.1 | exact h.tk.2.2.2.2.2.2.2.1 | exact h.tk2.1 | exact h.b.1.1) rfl rfl rfl rfl ⟨rfl, rfl, by decide, by decide⟩ (Nat.le_of_ble_eq_true rfl) ⟨by decide, by decide⟩ (fun r_45 V_45 h_45 => ?_)
  obtain ⟨rfl, y2⟩ := h_45
  refine j_cVu dX7_bestCue_48 hB mo_X0_search ml_X7_233 (sp_X0_search hB h.t0.2.2 (by omega) cT.st hW.1.1 hW.1.2.1 h_8.1 h_8.2 (by omega) (by omega)) (by first | exact h.k | exact hs.1 | exact hr.1 | exact hr.2.1.1 | exact hr.2.2.1.1 | exact hr.2.2.2.1.1 | exact hr.2.2.2.2.1.1 | exact hr.2.2.2.2.2.1.1 | exact hr.2.2.2.2.2.2.1.1 | exact hs.2.2.2.2.1.1 | exact hs.2.2.2.2.2.1.1 | exact hs.2.2.2.2.2.2.1.1 | exact h.t0.2.2 | exact h.rk.1 | exact h.rk.2.1.1 | exact h.rk.2.2.1.1 | exact h.rk.2.2.2.1.1 | exact h.rk.2.2.2.2.1 | exact h.tk.1 | exact h.tk.2.1.1 | exact h.tk.2.2.1.1 | exact h.tk.2.2.2.1.1 | exact h.tk.2.2.2.2.1.1 | exact h.tk.2.2.2.2.2.1.1 | exact h.tk.2.2.2.2.2.2.1.1 | exact h.tk.2.2.2.2.2.2.2.1 | exact h.tk2.1 | exact h.b.1.1) rfl rfl rfl rfl ⟨rfl, rfl, by decide, by decide⟩ (Nat.le_of_ble_eq_true rfl) ⟨by decide, by decide⟩ (fun V_48 h_48 => ?_)
  obtain ⟨gC, aC⟩ := h_48
  rw [y2] at gC
  have cC := cT.ch aC
  generalize hb : bestT x.1 p.toInt (aRoom x.1 (sR x.1 r.toInt) 0 s.toInt.toNat) = b at hbP gC
  obtain ⟨p1, p2, p3, p4, p5, p6⟩ := hbP
  have k1000 : (1000 : Int32).toInt = 1000 := by decide
  have m1 : (1000 * V_48 (q + 491) 0).toInt = 1000 * b.1 := by rw [ti_mul (by rw [k1000, gC.1]; omega) (by rw [k1000, gC.1]; omega), k1000, gC.1]
  refine j_sipush (v := 1000) dX7_bestCue_51 (by decide) ?_
  refine j_aload_n dX7_bestCue_54 rfl ?_
  refine j_getr dX7_bestCue_55 hB fl_X7_49 (by first | exact h.k | exact hs.1 | exact hr.1 | exact hr.2.1.1 | exact hr.2.2.1.1 | exact hr.2.2.2.1.1 | exact hr.2.2.2.2.1.1 | exact hr.2.2.2.2.2.1.1 | exact hr.2.2.2.2.2.2.1.1 | exact hs.2.2.2.2.1.1 | exact hs.2.2.2.2.2.1.1 | exact hs.2.2.2.2.2.2.1.1 | exact h.t0.2.2 | exact h.rk.1 | exact h.rk.2.1.1 | exact h.rk.2.2.1.1 | exact h.rk.2.2.2.1.1 | exact h.rk.2.2.2.2.1 | exact h.tk.1 | exact h.tk.2.1.1 | exact h.tk.2.2.1.1 | exact h.tk.2.2.2.1.1 | exact h.tk.2.2.2.2.1.1 | exact h.tk.2.2.2.2.2.1.1 | exact h.tk.2.2.2.2.2.2.1.1 | exact h.tk.2.2.2.2.2.2.2.1 | exact h.tk2.1 | exact h.b.1.1) (by rfl) ?_
  refine j_geti dX7_bestCue_58 hB fl_X7_237 (by first | exact h.k | exact hs.1 | exact hr.1 | exact hr.2.1.1 | exact hr.2.2.1.1 | exact hr.2.2.2.1.1 | exact hr.2.2.2.2.1.1 | exact hr.2.2.2.2.2.1.1 | exact hr.2.2.2.2.2.2.1.1 | exact hs.2.2.2.2.1.1 | exact hs.2.2.2.2.2.1.1 | exact hs.2.2.2.2.2.2.1.1 | exact h.t0.2.2 | exact h.rk.1 | exact h.rk.2.1.1 | exact h.rk.2.2.1.1 | exact h.rk.2.2.2.1.1 | exact h.rk.2.2.2.2.1 | exact h.tk.1 | exact h.tk.2.1.1 | exact h.tk.2.2.1.1 | exact h.tk.2.2.2.1.1 | exact h.tk.2.2.2.2.1.1 | exact h.tk.2.2.2.2.2.1.1 | exact h.tk.2.2.2.2.2.2.1.1 | exact h.tk.2.2.2.2.2.2.2.1 | exact h.tk2.1 | exact h.b.1.1) (by rfl) ?_
  refine j_imul dX7_bestCue_61 ?_
  refine j_aload_n dX7_bestCue_62 rfl ?_
  refine j_getr dX7_bestCue_63 hB fl_X7_49 (by first | exact h.k | exact hs.1 | exact hr.1 | exact hr.2.1.1 | exact hr.2.2.1.1 | exact hr.2.2.2.1.1 | exact hr.2.2.2.2.1.1 | exact hr.2.2.2.2.2.1.1 | exact hr.2.2.2.2.2.2.1.1 | exact hs.2.2.2.2.1.1 | exact hs.2.2.2.2.2.1.1 | exact hs.2.2.2.2.2.2.1.1 | exact h.t0.2.2 | exact h.rk.1 | exact h.rk.2.1.1 | exact h.rk.2.2.1.1 | exact h.rk.2.2.2.1.1 | exact h.rk.2.2.2.2.1 | exact h.tk.1 | exact h.tk.2.1.1 | exact h.tk.2.2.1.1 | exact h.tk.2.2.2.1.1 | exact h.tk.2.2.2.2.1.1 | exact h.tk.2.2.2.2.2.1.1 | exact h.tk.2.2.2.2.2.2.1.1 | exact h.tk.2.2.2.2.2.2.2.1 | exact h.tk2.1 | exact h.b.1.1) (by rfl) ?_
  refine j_geti dX7_bestCue_66 hB fl_X7_239 (by first | exact h.k | exact hs.1 | exact hr.1 | exact hr.2.1.1 | exact hr.2.2.1.1 | exact hr.2.2.2.1.1 | exact hr.2.2.2.2.1.1 | exact hr.2.2.2.2.2.1.1 | exact hr.2.2.2.2.2.2.1.1 | exact hs.2.2.2.2.1.1 | exact hs.2.2.2.2.2.1.1 | exact hs.2.2.2.2.2.2.1.1 | exact h.t0.2.2 | exact h.rk.1 | exact h.rk.2.1.1 | exact h.rk.2.2.1.1 | exact h.rk.2.2.2.1.1 | exact h.rk.2.2.2.2.1 | exact h.tk.1 | exact h.tk.2.1.1 | exact h.tk.2.2.1.1 | exact h.tk.2.2.2.1.1 | exact h.tk.2.2.2.2.1.1 | exact h.tk.2.2.2.2.2.1.1 | exact h.tk.2.2.2.2.2.2.1.1 | exact h.tk.2.2.2.2.2.2.2.1 | exact h.tk2.1 | exact h.b.1.1) (by rfl) ?_
  refine j_iadd dX7_bestCue_69 ?_
  refine j_iret dX7_bestCue_70 rfl (rfl) (by decide) (by decide) ?_
  exact qC.ret (by show e_bc x r s p = 0; unfold e_bc; exact (if_neg (fun z => z ⟨h_3, h_8⟩))) ⟨_, rfl, by rw [ti_add (by rw [m1, gC.2.1]; omega) (by rw [m1, gC.2.1]; omega), m1, gC.2.1]; unfold v_bc xR; rw [hb]⟩ ((aT.wide (by omega) (by omega)).tr (aC.wide (by omega) (by omega))) cC
set_option maxRecDepth 100000 in
set_option maxHeartbeats 4000000 in
theorem sp_X7_pieceForRoom (hB : jB l s0 D) {q : Nat} {x : aX} {m : Int32} (h : cuIs T V q x) (hW : stW x.1) (m0 : -1000000 ≤ m.toInt) (m1 : m.toInt ≤ 1000000) : Sp l s0 D kX7_pieceForRoom (jR 4 0 0) 0 0 [.ref q, .int m] T V X sz (qI T X sz (fun v V' => v.toInt = (bpN x.1 m.toInt x.1.2.1.1.length).1 ∧ cuIs T V' q x ∧ jAg V V' (q + 491) (q + 491 + 1))) := by
  refine Sp.of pn_X7_pieceForRoom rfl (Nat.le_of_ble_eq_true rfl) ?_
  have hl8 := hW.2.2.1
  have knn : (-2000001 : Int32).toInt = -2000001 := by decide
  have loop : ∀ (n k : Nat) (i b z : Int32) (V1 : jV) (L : List (Nat × Value)), L.lookup 0 = some (.ref q) → L.lookup 1 = some (.int m) → L.lookup 2 = some (.int b) → L.lookup 3 = some (.int z) → L.lookup 4 = some (.int i) → i.toInt = k → k + n = x.1.2.1.1.length → b.toInt = (bpN x.1 m.toInt k).1 → z.toInt = (bpN x.1 m.toInt k).2 → cuIs T V1 q x → jAg V V1 (q + 491) (q + 491 + 1) → J l s0 D kX7_pieceForRoom (jR 4 0 0) 0 0 (qI T X sz (fun v V' => v.toInt = (bpN x.1 m.toInt x.1.2.1.1.length).1 ∧ cuIs T V' q x ∧ jAg V V' (q + 491) (q + 491 + 1))) 8 L [] T V1 X sz 0 0 := by
    intro n
    induction n with
    | zero =>
      intro k i b z V1 L l0 l1 l2 l3 l4 hi hk hb hz hc ha
      refine j_sub2 (L' := [(0, .ref q), (1, .int m), (2, .int b), (3, .int z), (4, .int i)]) (List.forall_mem_cons.mpr ⟨l0, List.forall_mem_cons.mpr ⟨l1, List.forall_mem_cons.mpr ⟨l2, List.forall_mem_cons.mpr ⟨l3, List.forall_mem_cons.mpr ⟨l4, fun _ h9 => nomatch h9⟩⟩⟩⟩⟩) ?_
      refine j_iload dX7_pieceForRoom_8 rfl ?_
      refine j_aload_n dX7_pieceForRoom_10 rfl ?_
      refine j_getr dX7_pieceForRoom_11 hB fl_X7_10 (by first | exact h.k | exact hs.1 | exact hr.1 | exact hr.2.1.1 | exact hr.2.2.1.1 | exact hr.2.2.2.1.1 | exact hr.2.2.2.2.1.1 | exact hr.2.2.2.2.2.1.1 | exact hr.2.2.2.2.2.2.1.1 | exact hs.2.2.2.2.1.1 | exact hs.2.2.2.2.2.1.1 | exact hs.2.2.2.2.2.2.1.1 | exact h.t0.2.2 | exact h.rk.1 | exact h.rk.2.1.1 | exact h.rk.2.2.1.1 | exact h.rk.2.2.2.1.1 | exact h.rk.2.2.2.2.1 | exact h.tk.1 | exact h.tk.2.1.1 | exact h.tk.2.2.1.1 | exact h.tk.2.2.2.1.1 | exact h.tk.2.2.2.2.1.1 | exact h.tk.2.2.2.2.2.1.1 | exact h.tk.2.2.2.2.2.2.1.1 | exact h.tk.2.2.2.2.2.2.2.1 | exact h.tk2.1 | exact h.b.1.1) (by rfl) ?_
      refine j_cVi dX7_pieceForRoom_14 hB mo_X5_pieces ml_X7_118 (sp_X5_pieces hB hc.st) (by exact hc.st.1) rfl rfl rfl rfl ⟨rfl, rfl, by decide, by decide⟩ (Nat.le_of_ble_eq_true rfl) ⟨by decide, by decide⟩ (fun r_14 V_14 h_14 => ?_)
      obtain ⟨rfl, hn⟩ := h_14
      refine j_icmp_ge (tgt := 68) dX7_pieceForRoom_17 (by decide) (fun c_17 => ?_) (fun c_17 => ?_)
      · refine j_iload_n dX7_pieceForRoom_68 rfl ?_
        refine j_iret dX7_pieceForRoom_69 rfl (rfl) (by decide) (by decide) ?_
        exact ⟨_, rfl, rfl, rfl, rfl, by rw [hb, show k = x.1.2.1.1.length by omega], hc, ha⟩
      · exact absurd c_17 (by omega)
    | succ n ih =>
      intro k i b z V1 L l0 l1 l2 l3 l4 hi hk hb hz hc ha
      refine j_sub2 (L' := [(0, .ref q), (1, .int m), (2, .int b), (3, .int z), (4, .int i)]) (List.forall_mem_cons.mpr ⟨l0, List.forall_mem_cons.mpr ⟨l1, List.forall_mem_cons.mpr ⟨l2, List.forall_mem_cons.mpr ⟨l3, List.forall_mem_cons.mpr ⟨l4, fun _ h9 => nomatch h9⟩⟩⟩⟩⟩) ?_
      refine j_iload dX7_pieceForRoom_8 rfl ?_
      refine j_aload_n dX7_pieceForRoom_10 rfl ?_
      refine j_getr dX7_pieceForRoom_11 hB fl_X7_10 (by first | exact h.k | exact hs.1 | exact hr.1 | exact hr.2.1.1 | exact hr.2.2.1.1 | exact hr.2.2.2.1.1 | exact hr.2.2.2.2.1.1 | exact hr.2.2.2.2.2.1.1 | exact hr.2.2.2.2.2.2.1.1 | exact hs.2.2.2.2.1.1 | exact hs.2.2.2.2.2.1.1 | exact hs.2.2.2.2.2.2.1.1 | exact h.t0.2.2 | exact h.rk.1 | exact h.rk.2.1.1 | exact h.rk.2.2.1.1 | exact h.rk.2.2.2.1.1 | exact h.rk.2.2.2.2.1 | exact h.tk.1 | exact h.tk.2.1.1 | exact h.tk.2.2.1.1 | exact h.tk.2.2.2.1.1 | exact h.tk.2.2.2.2.1.1 | exact h.tk.2.2.2.2.2.1.1 | exact h.tk.2.2.2.2.2.2.1.1 | exact h.tk.2.2.2.2.2.2.2.1 | exact h.tk2.1 | exact h.b.1.1) (by rfl) ?_
      refine j_cVi dX7_pieceForRoom_14 hB mo_X5_pieces ml_X7_118 (sp_X5_pieces hB hc.st) (by exact hc.st.1) rfl rfl rfl rfl ⟨rfl, rfl, by decide, by decide⟩ (Nat.le_of_ble_eq_true rfl) ⟨by decide, by decide⟩ (fun r_14 V_14 h_14 => ?_)
      obtain ⟨rfl, hn⟩ := h_14
      refine j_icmp_ge (tgt := 68) dX7_pieceForRoom_17 (by decide) (fun c_17 => ?_) (fun c_17 => ?_)
      · exact absurd c_17 (by omega)
      · refine j_aload_n dX7_pieceForRoom_20 rfl ?_
        refine j_getr dX7_pieceForRoom_21 hB fl_X7_49 (by first | exact h.k | exact hs.1 | exact hr.1 | exact hr.2.1.1 | exact hr.2.2.1.1 | exact hr.2.2.2.1.1 | exact hr.2.2.2.2.1.1 | exact hr.2.2.2.2.2.1.1 | exact hr.2.2.2.2.2.2.1.1 | exact hs.2.2.2.2.1.1 | exact hs.2.2.2.2.2.1.1 | exact hs.2.2.2.2.2.2.1.1 | exact h.t0.2.2 | exact h.rk.1 | exact h.rk.2.1.1 | exact h.rk.2.2.1.1 | exact h.rk.2.2.2.1.1 | exact h.rk.2.2.2.2.1 | exact h.tk.1 | exact h.tk.2.1.1 | exact h.tk.2.2.1.1 | exact h.tk.2.2.2.1.1 | exact h.tk.2.2.2.2.1.1 | exact h.tk.2.2.2.2.2.1.1 | exact h.tk.2.2.2.2.2.2.1.1 | exact h.tk.2.2.2.2.2.2.2.1 | exact h.tk2.1 | exact h.b.1.1) (by rfl) ?_
        refine j_aload_n dX7_pieceForRoom_24 rfl ?_
        refine j_getr dX7_pieceForRoom_25 hB fl_X7_10 (by first | exact h.k | exact hs.1 | exact hr.1 | exact hr.2.1.1 | exact hr.2.2.1.1 | exact hr.2.2.2.1.1 | exact hr.2.2.2.2.1.1 | exact hr.2.2.2.2.2.1.1 | exact hr.2.2.2.2.2.2.1.1 | exact hs.2.2.2.2.1.1 | exact hs.2.2.2.2.2.1.1 | exact hs.2.2.2.2.2.2.1.1 | exact h.t0.2.2 | exact h.rk.1 | exact h.rk.2.1.1 | exact h.rk.2.2.1.1 | exact h.rk.2.2.2.1.1 | exact h.rk.2.2.2.2.1 | exact h.tk.1 | exact h.tk.2.1.1 | exact h.tk.2.2.1.1 | exact h.tk.2.2.2.1.1 | exact h.tk.2.2.2.2.1.1 | exact h.tk.2.2.2.2.2.1.1 | exact h.tk.2.2.2.2.2.2.1.1 | exact h.tk.2.2.2.2.2.2.2.1 | exact h.tk2.1 | exact h.b.1.1) (by rfl) ?_
        refine j_iload dX7_pieceForRoom_28 rfl ?_
        refine j_iload_n dX7_pieceForRoom_30 rfl ?_
        refine j_cVu dX7_pieceForRoom_31 hB mo_X0_search ml_X7_233 (sp_X0_search hB h.t0.2.2 (by omega) hc.st hW.1 hW.2.1 (by omega) (by omega) m0 m1) (by first | exact h.k | exact hs.1 | exact hr.1 | exact hr.2.1.1 | exact hr.2.2.1.1 | exact hr.2.2.2.1.1 | exact hr.2.2.2.2.1.1 | exact hr.2.2.2.2.2.1.1 | exact hr.2.2.2.2.2.2.1.1 | exact hs.2.2.2.2.1.1 | exact hs.2.2.2.2.2.1.1 | exact hs.2.2.2.2.2.2.1.1 | exact h.t0.2.2 | exact h.rk.1 | exact h.rk.2.1.1 | exact h.rk.2.2.1.1 | exact h.rk.2.2.2.1.1 | exact h.rk.2.2.2.2.1 | exact h.tk.1 | exact h.tk.2.1.1 | exact h.tk.2.2.1.1 | exact h.tk.2.2.2.1.1 | exact h.tk.2.2.2.2.1.1 | exact h.tk.2.2.2.2.2.1.1 | exact h.tk.2.2.2.2.2.2.1.1 | exact h.tk.2.2.2.2.2.2.2.1 | exact h.tk2.1 | exact h.b.1.1) rfl rfl rfl rfl ⟨rfl, rfl, by decide, by decide⟩ (Nat.le_of_ble_eq_true rfl) ⟨by decide, by decide⟩ (fun V_31 h_31 => ?_)
        obtain ⟨gC, aC⟩ := h_31
        rw [hi] at gC
        have cC := hc.ch aC
        refine j_iload_n dX7_pieceForRoom_34 rfl ?_
        refine j_ldc dX7_pieceForRoom_35 hB kc_X7_80 ?_
        refine j_icmp_eq (tgt := 51) dX7_pieceForRoom_37 (by decide) (fun c_37 => ?_) (fun c_37 => ?_)
        · refine j_iload dX7_pieceForRoom_51 rfl ?_
          refine j_istore_n (L' := [(0, _), (1, _), (2, _), (3, _), (4, _)]) dX7_pieceForRoom_53 (by decide) rfl ?_
          refine j_aload_n dX7_pieceForRoom_54 rfl ?_
          refine j_getr dX7_pieceForRoom_55 hB fl_X7_49 (by first | exact h.k | exact hs.1 | exact hr.1 | exact hr.2.1.1 | exact hr.2.2.1.1 | exact hr.2.2.2.1.1 | exact hr.2.2.2.2.1.1 | exact hr.2.2.2.2.2.1.1 | exact hr.2.2.2.2.2.2.1.1 | exact hs.2.2.2.2.1.1 | exact hs.2.2.2.2.2.1.1 | exact hs.2.2.2.2.2.2.1.1 | exact h.t0.2.2 | exact h.rk.1 | exact h.rk.2.1.1 | exact h.rk.2.2.1.1 | exact h.rk.2.2.2.1.1 | exact h.rk.2.2.2.2.1 | exact h.tk.1 | exact h.tk.2.1.1 | exact h.tk.2.2.1.1 | exact h.tk.2.2.2.1.1 | exact h.tk.2.2.2.2.1.1 | exact h.tk.2.2.2.2.2.1.1 | exact h.tk.2.2.2.2.2.2.1.1 | exact h.tk.2.2.2.2.2.2.2.1 | exact h.tk2.1 | exact h.b.1.1) (by rfl) ?_
          refine j_geti dX7_pieceForRoom_58 hB fl_X7_296 (by first | exact h.k | exact hs.1 | exact hr.1 | exact hr.2.1.1 | exact hr.2.2.1.1 | exact hr.2.2.2.1.1 | exact hr.2.2.2.2.1.1 | exact hr.2.2.2.2.2.1.1 | exact hr.2.2.2.2.2.2.1.1 | exact hs.2.2.2.2.1.1 | exact hs.2.2.2.2.2.1.1 | exact hs.2.2.2.2.2.2.1.1 | exact h.t0.2.2 | exact h.rk.1 | exact h.rk.2.1.1 | exact h.rk.2.2.1.1 | exact h.rk.2.2.2.1.1 | exact h.rk.2.2.2.2.1 | exact h.tk.1 | exact h.tk.2.1.1 | exact h.tk.2.2.1.1 | exact h.tk.2.2.2.1.1 | exact h.tk.2.2.2.2.1.1 | exact h.tk.2.2.2.2.2.1.1 | exact h.tk.2.2.2.2.2.2.1.1 | exact h.tk.2.2.2.2.2.2.2.1 | exact h.tk2.1 | exact h.b.1.1) (by rfl) ?_
          refine j_istore_n (L' := [(0, _), (1, _), (2, _), (3, _), (4, _)]) dX7_pieceForRoom_61 (by decide) rfl ?_
          refine j_iinc (v := 1) (L' := [(0, _), (1, _), (2, _), (3, _), (4, _)]) dX7_pieceForRoom_62 rfl (by decide) (by decide) rfl ?_
          refine j_goto (tgt := 8) dX7_pieceForRoom_65 (by decide) ?_
          have hst : bpN x.1 m.toInt (k + 1) = ((k : Int), (bestT x.1 k m.toInt).2.2) := by
            have h1 : (bpN x.1 m.toInt k).1 = -2000001 ∨ (bestT x.1 k m.toInt).2.2 < (bpN x.1 m.toInt k).2 := by
              rw [← hb, ← hz, ← gC.2.2]
              exact Or.inl (by rw [c_37]; exact knn)
            exact if_pos h1
          refine ih (k + 1) _ i (V_31 (q + 491) 2) V_31 _ rfl rfl rfl rfl rfl ?_ (by omega) (by rw [hst]; exact hi) (by rw [hst]; exact gC.2.2) cC (ha.tr aC)
          rw [ti_add (by rw [ti_1]; omega) (by rw [ti_1]; omega), ti_1]; omega
        · refine j_aload_n dX7_pieceForRoom_40 rfl ?_
          refine j_getr dX7_pieceForRoom_41 hB fl_X7_49 (by first | exact h.k | exact hs.1 | exact hr.1 | exact hr.2.1.1 | exact hr.2.2.1.1 | exact hr.2.2.2.1.1 | exact hr.2.2.2.2.1.1 | exact hr.2.2.2.2.2.1.1 | exact hr.2.2.2.2.2.2.1.1 | exact hs.2.2.2.2.1.1 | exact hs.2.2.2.2.2.1.1 | exact hs.2.2.2.2.2.2.1.1 | exact h.t0.2.2 | exact h.rk.1 | exact h.rk.2.1.1 | exact h.rk.2.2.1.1 | exact h.rk.2.2.2.1.1 | exact h.rk.2.2.2.2.1 | exact h.tk.1 | exact h.tk.2.1.1 | exact h.tk.2.2.1.1 | exact h.tk.2.2.2.1.1 | exact h.tk.2.2.2.2.1.1 | exact h.tk.2.2.2.2.2.1.1 | exact h.tk.2.2.2.2.2.2.1.1 | exact h.tk.2.2.2.2.2.2.2.1 | exact h.tk2.1 | exact h.b.1.1) (by rfl) ?_
          refine j_geti dX7_pieceForRoom_44 hB fl_X7_296 (by first | exact h.k | exact hs.1 | exact hr.1 | exact hr.2.1.1 | exact hr.2.2.1.1 | exact hr.2.2.2.1.1 | exact hr.2.2.2.2.1.1 | exact hr.2.2.2.2.2.1.1 | exact hr.2.2.2.2.2.2.1.1 | exact hs.2.2.2.2.1.1 | exact hs.2.2.2.2.2.1.1 | exact hs.2.2.2.2.2.2.1.1 | exact h.t0.2.2 | exact h.rk.1 | exact h.rk.2.1.1 | exact h.rk.2.2.1.1 | exact h.rk.2.2.2.1.1 | exact h.rk.2.2.2.2.1 | exact h.tk.1 | exact h.tk.2.1.1 | exact h.tk.2.2.1.1 | exact h.tk.2.2.2.1.1 | exact h.tk.2.2.2.2.1.1 | exact h.tk.2.2.2.2.2.1.1 | exact h.tk.2.2.2.2.2.2.1.1 | exact h.tk.2.2.2.2.2.2.2.1 | exact h.tk2.1 | exact h.b.1.1) (by rfl) ?_
          refine j_iload_n dX7_pieceForRoom_47 rfl ?_
          refine j_icmp_ge (tgt := 62) dX7_pieceForRoom_48 (by decide) (fun c_48 => ?_) (fun c_48 => ?_)
          · refine j_iinc (v := 1) (L' := [(0, _), (1, _), (2, _), (3, _), (4, _)]) dX7_pieceForRoom_62 rfl (by decide) (by decide) rfl ?_
            refine j_goto (tgt := 8) dX7_pieceForRoom_65 (by decide) ?_
            have hst : bpN x.1 m.toInt (k + 1) = bpN x.1 m.toInt k := by
              have h1 : ¬ ((bpN x.1 m.toInt k).1 = -2000001 ∨ (bestT x.1 k m.toInt).2.2 < (bpN x.1 m.toInt k).2) := by
                rw [← hb, ← hz, ← gC.2.2]
                rintro (e | e)
                · exact c_37 (Int32.toInt_inj.mp (by rw [e, knn]))
                · omega
              exact if_neg h1
            refine ih (k + 1) _ b z V_31 _ rfl rfl rfl rfl rfl ?_ (by omega) (by rw [hst]; exact hb) (by rw [hst]; exact hz) cC (ha.tr aC)
            rw [ti_add (by rw [ti_1]; omega) (by rw [ti_1]; omega), ti_1]; omega
          · refine j_iload dX7_pieceForRoom_51 rfl ?_
            refine j_istore_n (L' := [(0, _), (1, _), (2, _), (3, _), (4, _)]) dX7_pieceForRoom_53 (by decide) rfl ?_
            refine j_aload_n dX7_pieceForRoom_54 rfl ?_
            refine j_getr dX7_pieceForRoom_55 hB fl_X7_49 (by first | exact h.k | exact hs.1 | exact hr.1 | exact hr.2.1.1 | exact hr.2.2.1.1 | exact hr.2.2.2.1.1 | exact hr.2.2.2.2.1.1 | exact hr.2.2.2.2.2.1.1 | exact hr.2.2.2.2.2.2.1.1 | exact hs.2.2.2.2.1.1 | exact hs.2.2.2.2.2.1.1 | exact hs.2.2.2.2.2.2.1.1 | exact h.t0.2.2 | exact h.rk.1 | exact h.rk.2.1.1 | exact h.rk.2.2.1.1 | exact h.rk.2.2.2.1.1 | exact h.rk.2.2.2.2.1 | exact h.tk.1 | exact h.tk.2.1.1 | exact h.tk.2.2.1.1 | exact h.tk.2.2.2.1.1 | exact h.tk.2.2.2.2.1.1 | exact h.tk.2.2.2.2.2.1.1 | exact h.tk.2.2.2.2.2.2.1.1 | exact h.tk.2.2.2.2.2.2.2.1 | exact h.tk2.1 | exact h.b.1.1) (by rfl) ?_
            refine j_geti dX7_pieceForRoom_58 hB fl_X7_296 (by first | exact h.k | exact hs.1 | exact hr.1 | exact hr.2.1.1 | exact hr.2.2.1.1 | exact hr.2.2.2.1.1 | exact hr.2.2.2.2.1.1 | exact hr.2.2.2.2.2.1.1 | exact hr.2.2.2.2.2.2.1.1 | exact hs.2.2.2.2.1.1 | exact hs.2.2.2.2.2.1.1 | exact hs.2.2.2.2.2.2.1.1 | exact h.t0.2.2 | exact h.rk.1 | exact h.rk.2.1.1 | exact h.rk.2.2.1.1 | exact h.rk.2.2.2.1.1 | exact h.rk.2.2.2.2.1 | exact h.tk.1 | exact h.tk.2.1.1 | exact h.tk.2.2.1.1 | exact h.tk.2.2.2.1.1 | exact h.tk.2.2.2.2.1.1 | exact h.tk.2.2.2.2.2.1.1 | exact h.tk.2.2.2.2.2.2.1.1 | exact h.tk.2.2.2.2.2.2.2.1 | exact h.tk2.1 | exact h.b.1.1) (by rfl) ?_
            refine j_istore_n (L' := [(0, _), (1, _), (2, _), (3, _), (4, _)]) dX7_pieceForRoom_61 (by decide) rfl ?_
            refine j_iinc (v := 1) (L' := [(0, _), (1, _), (2, _), (3, _), (4, _)]) dX7_pieceForRoom_62 rfl (by decide) (by decide) rfl ?_
            refine j_goto (tgt := 8) dX7_pieceForRoom_65 (by decide) ?_
            have hst : bpN x.1 m.toInt (k + 1) = ((k : Int), (bestT x.1 k m.toInt).2.2) := by
              have h1 : (bpN x.1 m.toInt k).1 = -2000001 ∨ (bestT x.1 k m.toInt).2.2 < (bpN x.1 m.toInt k).2 := by
                rw [← hb, ← hz, ← gC.2.2]
                exact Or.inr (by omega)
              exact if_pos h1
            refine ih (k + 1) _ i (V_31 (q + 491) 2) V_31 _ rfl rfl rfl rfl rfl ?_ (by omega) (by rw [hst]; exact hi) (by rw [hst]; exact gC.2.2) cC (ha.tr aC)
            rw [ti_add (by rw [ti_1]; omega) (by rw [ti_1]; omega), ti_1]; omega
  refine j_ldc dX7_pieceForRoom_0 hB kc_X7_80 ?_
  refine j_istore_n (L' := [(0, _), (1, _), (2, _)]) dX7_pieceForRoom_2 (by decide) rfl ?_
  refine j_iconst (v := 0) dX7_pieceForRoom_3 (by decide) ?_
  refine j_istore_n (L' := [(0, _), (1, _), (2, _), (3, _)]) dX7_pieceForRoom_4 (by decide) rfl ?_
  refine j_iconst (v := 0) dX7_pieceForRoom_5 (by decide) ?_
  refine j_istore (L' := [(0, _), (1, _), (2, _), (3, _), (4, _)]) dX7_pieceForRoom_6 (by decide) rfl ?_
  exact loop x.1.2.1.1.length 0 0 (-2000001) 0 V _ rfl rfl rfl rfl rfl rfl (by omega) knn rfl h jAg.rf
set_option maxRecDepth 100000 in
set_option maxHeartbeats 4000000 in
theorem sp_X7_bestPiece (hB : jB l s0 D) {q : Nat} {x : aX} {r s : Int32} (h : cuIs T V q x) (hW : xW x) : Sp l s0 D kX7_bestPiece (jR 8 2 12) 2 12 [.ref q, .int r, .int s] T V X sz (qC T V X sz q (e_bp x r s) [IO] (pInt (bpV x.1 (xR x r) s.toInt.toNat)) x (x)) := by
  refine Sp.of pn_X7_bestPiece rfl (Nat.le_of_ble_eq_true rfl) ?_
  have hs := h.st
  have hr := hs.reel r.toInt
  have hrl := hW.1.r r.toInt
  refine j_aload_n dX7_bestPiece_0 rfl ?_
  refine j_iload_n dX7_bestPiece_1 rfl ?_
  refine j_iload_n dX7_bestPiece_2 rfl ?_
  refine j_tV dX7_bestPiece_3 hB mo_X7_requireScene ml_X7_85 (sp_X7_requireScene hB h) (by first | exact h.k | exact hs.1 | exact hr.1 | exact hr.2.1.1 | exact hr.2.2.1.1 | exact hr.2.2.2.1.1 | exact hr.2.2.2.2.1.1 | exact hr.2.2.2.2.2.1.1 | exact hr.2.2.2.2.2.2.1.1 | exact hs.2.2.2.2.1.1 | exact hs.2.2.2.2.2.1.1 | exact hs.2.2.2.2.2.2.1.1 | exact h.t0.2.2 | exact h.rk.1 | exact h.rk.2.1.1 | exact h.rk.2.2.1.1 | exact h.rk.2.2.2.1.1 | exact h.rk.2.2.2.2.1 | exact h.tk.1 | exact h.tk.2.1.1 | exact h.tk.2.2.1.1 | exact h.tk.2.2.2.1.1 | exact h.tk.2.2.2.2.1.1 | exact h.tk.2.2.2.2.2.1.1 | exact h.tk.2.2.2.2.2.2.1.1 | exact h.tk.2.2.2.2.2.2.2.1 | exact h.tk2.1 | exact h.b.1.1) rfl rfl rfl rfl ⟨rfl, rfl, by decide, by decide⟩ (Nat.le_of_ble_eq_true rfl) ⟨by decide, by decide⟩ rfl ⟨by decide, by decide⟩ (fun E V_3 sz_3 hz hx => by obtain ⟨rfl, rfl, hn⟩ := hx; exact qC.thr 0 hz rfl (by show e_bp x r s = 1; unfold e_bp; exact (if_pos hn)) jAg.rf h) (fun v_3 V_3 h_3 => ?_)
  obtain ⟨rfl, rfl, h_3⟩ := h_3
  refine j_aload_n dX7_bestPiece_6 rfl ?_
  refine j_getr dX7_bestPiece_7 hB fl_X7_39 (by first | exact h.k | exact hs.1 | exact hr.1 | exact hr.2.1.1 | exact hr.2.2.1.1 | exact hr.2.2.2.1.1 | exact hr.2.2.2.2.1.1 | exact hr.2.2.2.2.2.1.1 | exact hr.2.2.2.2.2.2.1.1 | exact hs.2.2.2.2.1.1 | exact hs.2.2.2.2.2.1.1 | exact hs.2.2.2.2.2.2.1.1 | exact h.t0.2.2 | exact h.rk.1 | exact h.rk.2.1.1 | exact h.rk.2.2.1.1 | exact h.rk.2.2.2.1.1 | exact h.rk.2.2.2.2.1 | exact h.tk.1 | exact h.tk.2.1.1 | exact h.tk.2.2.1.1 | exact h.tk.2.2.2.1.1 | exact h.tk.2.2.2.2.1.1 | exact h.tk.2.2.2.2.2.1.1 | exact h.tk.2.2.2.2.2.2.1.1 | exact h.tk.2.2.2.2.2.2.2.1 | exact h.tk2.1 | exact h.b.1.1) (by rfl) ?_
  refine j_aload_n dX7_bestPiece_10 rfl ?_
  refine j_getr dX7_bestPiece_11 hB fl_X7_10 (by first | exact h.k | exact hs.1 | exact hr.1 | exact hr.2.1.1 | exact hr.2.2.1.1 | exact hr.2.2.2.1.1 | exact hr.2.2.2.2.1.1 | exact hr.2.2.2.2.2.1.1 | exact hr.2.2.2.2.2.2.1.1 | exact hs.2.2.2.2.1.1 | exact hs.2.2.2.2.2.1.1 | exact hs.2.2.2.2.2.2.1.1 | exact h.t0.2.2 | exact h.rk.1 | exact h.rk.2.1.1 | exact h.rk.2.2.1.1 | exact h.rk.2.2.2.1.1 | exact h.rk.2.2.2.2.1 | exact h.tk.1 | exact h.tk.2.1.1 | exact h.tk.2.2.1.1 | exact h.tk.2.2.2.1.1 | exact h.tk.2.2.2.2.1.1 | exact h.tk.2.2.2.2.2.1.1 | exact h.tk.2.2.2.2.2.2.1.1 | exact h.tk.2.2.2.2.2.2.2.1 | exact h.tk2.1 | exact h.b.1.1) (by rfl) ?_
  refine j_aload_n dX7_bestPiece_14 rfl ?_
  refine j_getr dX7_bestPiece_15 hB fl_X7_10 (by first | exact h.k | exact hs.1 | exact hr.1 | exact hr.2.1.1 | exact hr.2.2.1.1 | exact hr.2.2.2.1.1 | exact hr.2.2.2.2.1.1 | exact hr.2.2.2.2.2.1.1 | exact hr.2.2.2.2.2.2.1.1 | exact hs.2.2.2.2.1.1 | exact hs.2.2.2.2.2.1.1 | exact hs.2.2.2.2.2.2.1.1 | exact h.t0.2.2 | exact h.rk.1 | exact h.rk.2.1.1 | exact h.rk.2.2.1.1 | exact h.rk.2.2.2.1.1 | exact h.rk.2.2.2.2.1 | exact h.tk.1 | exact h.tk.2.1.1 | exact h.tk.2.2.1.1 | exact h.tk.2.2.2.1.1 | exact h.tk.2.2.2.2.1.1 | exact h.tk.2.2.2.2.2.1.1 | exact h.tk.2.2.2.2.2.2.1.1 | exact h.tk.2.2.2.2.2.2.2.1 | exact h.tk2.1 | exact h.b.1.1) (by rfl) ?_
  refine j_iload_n dX7_bestPiece_18 rfl ?_
  refine j_cVa dX7_bestPiece_19 hB mo_X5_reelAt ml_X7_60 (sp_X5_reelAt hB hs) (by first | exact h.k | exact hs.1 | exact hr.1 | exact hr.2.1.1 | exact hr.2.2.1.1 | exact hr.2.2.2.1.1 | exact hr.2.2.2.2.1.1 | exact hr.2.2.2.2.2.1.1 | exact hr.2.2.2.2.2.2.1.1 | exact hs.2.2.2.2.1.1 | exact hs.2.2.2.2.2.1.1 | exact hs.2.2.2.2.2.2.1.1 | exact h.t0.2.2 | exact h.rk.1 | exact h.rk.2.1.1 | exact h.rk.2.2.1.1 | exact h.rk.2.2.2.1.1 | exact h.rk.2.2.2.2.1 | exact h.tk.1 | exact h.tk.2.1.1 | exact h.tk.2.2.1.1 | exact h.tk.2.2.2.1.1 | exact h.tk.2.2.2.2.1.1 | exact h.tk.2.2.2.2.2.1.1 | exact h.tk.2.2.2.2.2.2.1.1 | exact h.tk.2.2.2.2.2.2.2.1 | exact h.tk2.1 | exact h.b.1.1) rfl rfl rfl rfl ⟨rfl, rfl, by decide, by decide⟩ (Nat.le_of_ble_eq_true rfl) ⟨by decide, by decide⟩ (fun r_19 V_19 h_19 => ?_)
  obtain ⟨rfl, hq⟩ := h_19
  subst hq
  refine j_iconst (v := 0) dX7_bestPiece_22 (by decide) ?_
  refine j_cVu dX7_bestPiece_23 hB mo_X6_measure ml_X7_141 (sp_X6_measure hB h.tk h.st (hr) (by omega) (by have := reelA_in (q + 1) r.toInt; omega) hW.1.1 (hW.1.r _) (Or.inl rfl) hW.1.2.1.1) (by first | exact h.k | exact hs.1 | exact hr.1 | exact hr.2.1.1 | exact hr.2.2.1.1 | exact hr.2.2.2.1.1 | exact hr.2.2.2.2.1.1 | exact hr.2.2.2.2.2.1.1 | exact hr.2.2.2.2.2.2.1.1 | exact hs.2.2.2.2.1.1 | exact hs.2.2.2.2.2.1.1 | exact hs.2.2.2.2.2.2.1.1 | exact h.t0.2.2 | exact h.rk.1 | exact h.rk.2.1.1 | exact h.rk.2.2.1.1 | exact h.rk.2.2.2.1.1 | exact h.rk.2.2.2.2.1 | exact h.tk.1 | exact h.tk.2.1.1 | exact h.tk.2.2.1.1 | exact h.tk.2.2.2.1.1 | exact h.tk.2.2.2.2.1.1 | exact h.tk.2.2.2.2.2.1.1 | exact h.tk.2.2.2.2.2.2.1.1 | exact h.tk.2.2.2.2.2.2.2.1 | exact h.tk2.1 | exact h.b.1.1) rfl rfl rfl rfl ⟨rfl, rfl, by decide, by decide⟩ (Nat.le_of_ble_eq_true rfl) ⟨by decide, by decide⟩ (fun V_23 h_23 => ?_)
  obtain ⟨gT, aT⟩ := h_23
  have gT : TmIs T V_23 (q + 461) x.1 _ 0 := gT
  have cT := h.tm aT gT.k
  refine j_aload_n dX7_bestPiece_26 rfl ?_
  have hsi : s.toInt = (s.toInt.toNat : Int) := by have := h_3.2.1; omega
  have hsk : s.toInt.toNat < (sR x.1 r.toInt).1.length := by have := h_3.2.2; unfold xR at this; omega
  have hro := aRoom_rng hW.1.1 hrl (w := 0) (Or.inl rfl) hsk
  refine j_aload_n dX7_bestPiece_27 rfl ?_
  refine j_getr dX7_bestPiece_28 hB fl_X7_39 (by first | exact h.k | exact hs.1 | exact hr.1 | exact hr.2.1.1 | exact hr.2.2.1.1 | exact hr.2.2.2.1.1 | exact hr.2.2.2.2.1.1 | exact hr.2.2.2.2.2.1.1 | exact hr.2.2.2.2.2.2.1.1 | exact hs.2.2.2.2.1.1 | exact hs.2.2.2.2.2.1.1 | exact hs.2.2.2.2.2.2.1.1 | exact h.t0.2.2 | exact h.rk.1 | exact h.rk.2.1.1 | exact h.rk.2.2.1.1 | exact h.rk.2.2.2.1.1 | exact h.rk.2.2.2.2.1 | exact h.tk.1 | exact h.tk.2.1.1 | exact h.tk.2.2.1.1 | exact h.tk.2.2.2.1.1 | exact h.tk.2.2.2.2.1.1 | exact h.tk.2.2.2.2.2.1.1 | exact h.tk.2.2.2.2.2.2.1.1 | exact h.tk.2.2.2.2.2.2.2.1 | exact h.tk2.1 | exact h.b.1.1) (by rfl) ?_
  refine j_iload_n dX7_bestPiece_31 rfl ?_
  refine j_cVi dX7_bestPiece_32 hB mo_X6_roomForCue ml_X7_230 (sp_X6_roomForCue hB gT hW.1.1 hrl (Or.inl rfl) hsk hsi) (by first | exact h.k | exact hs.1 | exact hr.1 | exact hr.2.1.1 | exact hr.2.2.1.1 | exact hr.2.2.2.1.1 | exact hr.2.2.2.2.1.1 | exact hr.2.2.2.2.2.1.1 | exact hr.2.2.2.2.2.2.1.1 | exact hs.2.2.2.2.1.1 | exact hs.2.2.2.2.2.1.1 | exact hs.2.2.2.2.2.2.1.1 | exact h.t0.2.2 | exact h.rk.1 | exact h.rk.2.1.1 | exact h.rk.2.2.1.1 | exact h.rk.2.2.2.1.1 | exact h.rk.2.2.2.2.1 | exact h.tk.1 | exact h.tk.2.1.1 | exact h.tk.2.2.1.1 | exact h.tk.2.2.2.1.1 | exact h.tk.2.2.2.2.1.1 | exact h.tk.2.2.2.2.2.1.1 | exact h.tk.2.2.2.2.2.2.1.1 | exact h.tk.2.2.2.2.2.2.2.1 | exact h.tk2.1 | exact h.b.1.1) rfl rfl rfl rfl ⟨rfl, rfl, by decide, by decide⟩ (Nat.le_of_ble_eq_true rfl) ⟨by decide, by decide⟩ (fun r_32 V_32 h_32 => ?_)
  obtain ⟨rfl, y2⟩ := h_32
  refine j_cVi dX7_bestPiece_35 hB mo_X7_pieceForRoom ml_X7_242 (sp_X7_pieceForRoom hB cT hW.1 (by omega) (by omega)) (by first | exact h.k | exact hs.1 | exact hr.1 | exact hr.2.1.1 | exact hr.2.2.1.1 | exact hr.2.2.2.1.1 | exact hr.2.2.2.2.1.1 | exact hr.2.2.2.2.2.1.1 | exact hr.2.2.2.2.2.2.1.1 | exact hs.2.2.2.2.1.1 | exact hs.2.2.2.2.2.1.1 | exact hs.2.2.2.2.2.2.1.1 | exact h.t0.2.2 | exact h.rk.1 | exact h.rk.2.1.1 | exact h.rk.2.2.1.1 | exact h.rk.2.2.2.1.1 | exact h.rk.2.2.2.2.1 | exact h.tk.1 | exact h.tk.2.1.1 | exact h.tk.2.2.1.1 | exact h.tk.2.2.2.1.1 | exact h.tk.2.2.2.2.1.1 | exact h.tk.2.2.2.2.2.1.1 | exact h.tk.2.2.2.2.2.2.1.1 | exact h.tk.2.2.2.2.2.2.2.1 | exact h.tk2.1 | exact h.b.1.1) rfl rfl rfl rfl ⟨rfl, rfl, by decide, by decide⟩ (Nat.le_of_ble_eq_true rfl) ⟨by decide, by decide⟩ (fun r_35 V_35 h_35 => ?_)
  obtain ⟨t1, cC, aC⟩ := h_35
  rw [y2] at t1
  refine j_iret dX7_bestPiece_38 rfl (rfl) (by decide) (by decide) ?_
  exact qC.ret (by show e_bp x r s = 0; unfold e_bp; exact (if_neg (fun z => z h_3))) ⟨_, rfl, t1⟩ ((aT.wide (by omega) (by omega)).tr (aC.wide (by omega) (by omega))) cC
set_option maxRecDepth 100000 in
set_option maxHeartbeats 4000000 in
theorem sp_X7_ifCranked (hB : jB l s0 D) {q : Nat} {x : aX} {r w : Int32} (h : cuIs T V q x) (hW : xW x) : Sp l s0 D kX7_ifCranked (jR 8 2 12) 2 12 [.ref q, .int r, .int w] T V X sz (qC T V X sz q (e_if r w) [IO, IA] (pInt (aSum (aBad1 x.1 (xR x r) w.toInt) (xR x r).1.length)) x (x)) := by
  refine Sp.of pn_X7_ifCranked rfl (Nat.le_of_ble_eq_true rfl) ?_
  have hs := h.st
  have hr := hs.reel r.toInt
  have hrl := hW.1.r r.toInt
  refine j_aload_n dX7_ifCranked_0 rfl ?_
  refine j_iload_n dX7_ifCranked_1 rfl ?_
  refine j_tV dX7_ifCranked_2 hB mo_X7_requireReel ml_X7_53 (sp_X7_requireReel hB) (by first | exact h.k | exact hs.1 | exact hr.1 | exact hr.2.1.1 | exact hr.2.2.1.1 | exact hr.2.2.2.1.1 | exact hr.2.2.2.2.1.1 | exact hr.2.2.2.2.2.1.1 | exact hr.2.2.2.2.2.2.1.1 | exact hs.2.2.2.2.1.1 | exact hs.2.2.2.2.2.1.1 | exact hs.2.2.2.2.2.2.1.1 | exact h.t0.2.2 | exact h.rk.1 | exact h.rk.2.1.1 | exact h.rk.2.2.1.1 | exact h.rk.2.2.2.1.1 | exact h.rk.2.2.2.2.1 | exact h.tk.1 | exact h.tk.2.1.1 | exact h.tk.2.2.1.1 | exact h.tk.2.2.2.1.1 | exact h.tk.2.2.2.2.1.1 | exact h.tk.2.2.2.2.2.1.1 | exact h.tk.2.2.2.2.2.2.1.1 | exact h.tk.2.2.2.2.2.2.2.1 | exact h.tk2.1 | exact h.b.1.1 | exact h.tk2.1) rfl rfl rfl rfl ⟨rfl, rfl, by decide, by decide⟩ (Nat.le_of_ble_eq_true rfl) ⟨by decide, by decide⟩ rfl ⟨by decide, by decide⟩ (fun E V_2 sz_2 hz hx => by obtain ⟨rfl, rfl, hn⟩ := hx; exact qC.thr 0 hz rfl (by show e_if r w = 1; unfold e_if; exact (if_pos hn)) jAg.rf h) (fun v_2 V_2 h_2 => ?_)
  obtain ⟨rfl, rfl, h_2⟩ := h_2
  refine j_iload_n dX7_ifCranked_5 rfl ?_
  refine j_bipush (v := 10) dX7_ifCranked_6 (by decide) ?_
  refine j_bipush (v := 30) dX7_ifCranked_8 (by decide) ?_
  refine j_tS dX7_ifCranked_10 hB mo_X7_requireRange ml_X7_56 (sp_X7_requireRange hB) rfl rfl ⟨rfl, rfl, by decide, by decide⟩ (Nat.le_of_ble_eq_true rfl) ⟨by decide, by decide⟩ rfl ⟨by decide, by decide⟩ (fun E V_10 sz_10 hz hx => by obtain ⟨rfl, rfl, hn⟩ := hx; exact qC.thr 1 hz rfl (by show e_if r w = 2; unfold e_if; exact ((if_neg (fun z => z h_2)).trans (if_pos hn))) jAg.rf h) (fun v_10 V_10 h_10 => ?_)
  obtain ⟨rfl, rfl, h_10⟩ := h_10
  have h_10 : inR w 10 30 := h_10
  refine j_aload_n dX7_ifCranked_13 rfl ?_
  refine j_getr dX7_ifCranked_14 hB fl_X7_43 (by first | exact h.k | exact hs.1 | exact hr.1 | exact hr.2.1.1 | exact hr.2.2.1.1 | exact hr.2.2.2.1.1 | exact hr.2.2.2.2.1.1 | exact hr.2.2.2.2.2.1.1 | exact hr.2.2.2.2.2.2.1.1 | exact hs.2.2.2.2.1.1 | exact hs.2.2.2.2.2.1.1 | exact hs.2.2.2.2.2.2.1.1 | exact h.t0.2.2 | exact h.rk.1 | exact h.rk.2.1.1 | exact h.rk.2.2.1.1 | exact h.rk.2.2.2.1.1 | exact h.rk.2.2.2.2.1 | exact h.tk.1 | exact h.tk.2.1.1 | exact h.tk.2.2.1.1 | exact h.tk.2.2.2.1.1 | exact h.tk.2.2.2.2.1.1 | exact h.tk.2.2.2.2.2.1.1 | exact h.tk.2.2.2.2.2.2.1.1 | exact h.tk.2.2.2.2.2.2.2.1 | exact h.tk2.1 | exact h.b.1.1 | exact h.tk2.1) (by rfl) ?_
  refine j_aload_n dX7_ifCranked_17 rfl ?_
  refine j_getr dX7_ifCranked_18 hB fl_X7_10 (by first | exact h.k | exact hs.1 | exact hr.1 | exact hr.2.1.1 | exact hr.2.2.1.1 | exact hr.2.2.2.1.1 | exact hr.2.2.2.2.1.1 | exact hr.2.2.2.2.2.1.1 | exact hr.2.2.2.2.2.2.1.1 | exact hs.2.2.2.2.1.1 | exact hs.2.2.2.2.2.1.1 | exact hs.2.2.2.2.2.2.1.1 | exact h.t0.2.2 | exact h.rk.1 | exact h.rk.2.1.1 | exact h.rk.2.2.1.1 | exact h.rk.2.2.2.1.1 | exact h.rk.2.2.2.2.1 | exact h.tk.1 | exact h.tk.2.1.1 | exact h.tk.2.2.1.1 | exact h.tk.2.2.2.1.1 | exact h.tk.2.2.2.2.1.1 | exact h.tk.2.2.2.2.2.1.1 | exact h.tk.2.2.2.2.2.2.1.1 | exact h.tk.2.2.2.2.2.2.2.1 | exact h.tk2.1 | exact h.b.1.1 | exact h.tk2.1) (by rfl) ?_
  refine j_aload_n dX7_ifCranked_21 rfl ?_
  refine j_getr dX7_ifCranked_22 hB fl_X7_10 (by first | exact h.k | exact hs.1 | exact hr.1 | exact hr.2.1.1 | exact hr.2.2.1.1 | exact hr.2.2.2.1.1 | exact hr.2.2.2.2.1.1 | exact hr.2.2.2.2.2.1.1 | exact hr.2.2.2.2.2.2.1.1 | exact hs.2.2.2.2.1.1 | exact hs.2.2.2.2.2.1.1 | exact hs.2.2.2.2.2.2.1.1 | exact h.t0.2.2 | exact h.rk.1 | exact h.rk.2.1.1 | exact h.rk.2.2.1.1 | exact h.rk.2.2.2.1.1 | exact h.rk.2.2.2.2.1 | exact h.tk.1 | exact h.tk.2.1.1 | exact h.tk.2.2.1.1 | exact h.tk.2.2.2.1.1 | exact h.tk.2.2.2.2.1.1 | exact h.tk.2.2.2.2.2.1.1 | exact h.tk.2.2.2.2.2.2.1.1 | exact h.tk.2.2.2.2.2.2.2.1 | exact h.tk2.1 | exact h.b.1.1 | exact h.tk2.1) (by rfl) ?_
  refine j_iload_n dX7_ifCranked_25 rfl ?_
  refine j_cVa dX7_ifCranked_26 hB mo_X5_reelAt ml_X7_60 (sp_X5_reelAt hB hs) (by first | exact h.k | exact hs.1 | exact hr.1 | exact hr.2.1.1 | exact hr.2.2.1.1 | exact hr.2.2.2.1.1 | exact hr.2.2.2.2.1.1 | exact hr.2.2.2.2.2.1.1 | exact hr.2.2.2.2.2.2.1.1 | exact hs.2.2.2.2.1.1 | exact hs.2.2.2.2.2.1.1 | exact hs.2.2.2.2.2.2.1.1 | exact h.t0.2.2 | exact h.rk.1 | exact h.rk.2.1.1 | exact h.rk.2.2.1.1 | exact h.rk.2.2.2.1.1 | exact h.rk.2.2.2.2.1 | exact h.tk.1 | exact h.tk.2.1.1 | exact h.tk.2.2.1.1 | exact h.tk.2.2.2.1.1 | exact h.tk.2.2.2.2.1.1 | exact h.tk.2.2.2.2.2.1.1 | exact h.tk.2.2.2.2.2.2.1.1 | exact h.tk.2.2.2.2.2.2.2.1 | exact h.tk2.1 | exact h.b.1.1 | exact h.tk2.1) rfl rfl rfl rfl ⟨rfl, rfl, by decide, by decide⟩ (Nat.le_of_ble_eq_true rfl) ⟨by decide, by decide⟩ (fun r_26 V_26 h_26 => ?_)
  obtain ⟨rfl, hq⟩ := h_26
  subst hq
  refine j_iload_n dX7_ifCranked_29 rfl ?_
  refine j_cVu dX7_ifCranked_30 hB mo_X6_measure ml_X7_141 (sp_X6_measure hB h.tk2 h.st (hr) (by omega) (by have := reelA_in (q + 1) r.toInt; omega) hW.1.1 (hW.1.r _) (Or.inr h_10.1) hW.1.2.1.1) (by first | exact h.k | exact hs.1 | exact hr.1 | exact hr.2.1.1 | exact hr.2.2.1.1 | exact hr.2.2.2.1.1 | exact hr.2.2.2.2.1.1 | exact hr.2.2.2.2.2.1.1 | exact hr.2.2.2.2.2.2.1.1 | exact hs.2.2.2.2.1.1 | exact hs.2.2.2.2.2.1.1 | exact hs.2.2.2.2.2.2.1.1 | exact h.t0.2.2 | exact h.rk.1 | exact h.rk.2.1.1 | exact h.rk.2.2.1.1 | exact h.rk.2.2.2.1.1 | exact h.rk.2.2.2.2.1 | exact h.tk.1 | exact h.tk.2.1.1 | exact h.tk.2.2.1.1 | exact h.tk.2.2.2.1.1 | exact h.tk.2.2.2.2.1.1 | exact h.tk.2.2.2.2.2.1.1 | exact h.tk.2.2.2.2.2.2.1.1 | exact h.tk.2.2.2.2.2.2.2.1 | exact h.tk2.1 | exact h.b.1.1 | exact h.tk2.1) rfl rfl rfl rfl ⟨rfl, rfl, by decide, by decide⟩ (Nat.le_of_ble_eq_true rfl) ⟨by decide, by decide⟩ (fun V_30 h_30 => ?_)
  obtain ⟨gT, aT⟩ := h_30
  have gT : TmIs T V_30 (q + 476) x.1 _ w.toInt := gT
  have cT := h.tm2 aT gT.k
  refine j_aload_n dX7_ifCranked_33 rfl ?_
  refine j_getr dX7_ifCranked_34 hB fl_X7_43 (by first | exact h.k | exact hs.1 | exact hr.1 | exact hr.2.1.1 | exact hr.2.2.1.1 | exact hr.2.2.2.1.1 | exact hr.2.2.2.2.1.1 | exact hr.2.2.2.2.2.1.1 | exact hr.2.2.2.2.2.2.1.1 | exact hs.2.2.2.2.1.1 | exact hs.2.2.2.2.2.1.1 | exact hs.2.2.2.2.2.2.1.1 | exact h.t0.2.2 | exact h.rk.1 | exact h.rk.2.1.1 | exact h.rk.2.2.1.1 | exact h.rk.2.2.2.1.1 | exact h.rk.2.2.2.2.1 | exact h.tk.1 | exact h.tk.2.1.1 | exact h.tk.2.2.1.1 | exact h.tk.2.2.2.1.1 | exact h.tk.2.2.2.2.1.1 | exact h.tk.2.2.2.2.2.1.1 | exact h.tk.2.2.2.2.2.2.1.1 | exact h.tk.2.2.2.2.2.2.2.1 | exact h.tk2.1 | exact h.b.1.1 | exact h.tk2.1) (by rfl) ?_
  refine j_geti dX7_ifCranked_37 hB fl_X7_245 (by first | exact h.k | exact hs.1 | exact hr.1 | exact hr.2.1.1 | exact hr.2.2.1.1 | exact hr.2.2.2.1.1 | exact hr.2.2.2.2.1.1 | exact hr.2.2.2.2.2.1.1 | exact hr.2.2.2.2.2.2.1.1 | exact hs.2.2.2.2.1.1 | exact hs.2.2.2.2.2.1.1 | exact hs.2.2.2.2.2.2.1.1 | exact h.t0.2.2 | exact h.rk.1 | exact h.rk.2.1.1 | exact h.rk.2.2.1.1 | exact h.rk.2.2.2.1.1 | exact h.rk.2.2.2.2.1 | exact h.tk.1 | exact h.tk.2.1.1 | exact h.tk.2.2.1.1 | exact h.tk.2.2.2.1.1 | exact h.tk.2.2.2.2.1.1 | exact h.tk.2.2.2.2.2.1.1 | exact h.tk.2.2.2.2.2.2.1.1 | exact h.tk.2.2.2.2.2.2.2.1 | exact h.tk2.1 | exact h.b.1.1 | exact h.tk2.1) (by rfl) ?_
  refine j_iret dX7_ifCranked_40 rfl (rfl) (by decide) (by decide) ?_
  exact qC.ret (by show e_if r w = 0; unfold e_if; exact ((if_neg (fun z => z h_2)).trans (if_neg (fun z => z h_10)))) ⟨_, rfl, gT.2.2.2.2.2.2.2.2.2.1⟩ (aT.wide (by omega) (by omega)) cT
set_option maxRecDepth 100000 in
set_option maxHeartbeats 4000000 in
theorem sp_X7_speedForReel (hB : jB l s0 D) {q : Nat} {x : aX} {r : Int32} (h : cuIs T V q x) (hW : stW x.1) : Sp l s0 D kX7_speedForReel (jR 5 0 0) 0 0 [.ref q, .ref (reelA (q + 1) r.toInt)] T V X sz (qI T X sz (fun v V' => v.toInt = bsV x.1 (sR x.1 r.toInt) ∧ cuIs T V' q x ∧ jAg V V' (q + 476) (q + 476 + 15))) := by
  refine Sp.of pn_X7_speedForReel rfl (Nat.le_of_ble_eq_true rfl) ?_
  have hrl := hW.r r.toInt
  have k10 : (10 : Int32).toInt = 10 := by decide
  have k30 : (30 : Int32).toInt = 30 := by decide
  have loop : ∀ (n k : Nat) (i b z : Int32) (V1 : jV) (L : List (Nat × Value)), L.lookup 0 = some (.ref q) → L.lookup 1 = some (.ref (reelA (q + 1) r.toInt)) → L.lookup 2 = some (.int b) → L.lookup 3 = some (.int z) → L.lookup 4 = some (.int i) → i.toInt = 10 + k → k + n = 21 → b.toInt = (bsN x.1 (sR x.1 r.toInt) k).1 → z.toInt = (bsN x.1 (sR x.1 r.toInt) k).2 → cuIs T V1 q x → jAg V V1 (q + 476) (q + 476 + 15) → J l s0 D kX7_speedForReel (jR 5 0 0) 0 0 (qI T X sz (fun v V' => v.toInt = bsV x.1 (sR x.1 r.toInt) ∧ cuIs T V' q x ∧ jAg V V' (q + 476) (q + 476 + 15))) 9 L [] T V1 X sz 0 0 := by
    intro n
    induction n with
    | zero =>
      intro k i b z V1 L l0 l1 l2 l3 l4 hi hk hb hz hc ha
      refine j_sub2 (L' := [(0, .ref q), (1, .ref (reelA (q + 1) r.toInt)), (2, .int b), (3, .int z), (4, .int i)]) (List.forall_mem_cons.mpr ⟨l0, List.forall_mem_cons.mpr ⟨l1, List.forall_mem_cons.mpr ⟨l2, List.forall_mem_cons.mpr ⟨l3, List.forall_mem_cons.mpr ⟨l4, fun _ h9 => nomatch h9⟩⟩⟩⟩⟩) ?_
      refine j_iload dX7_speedForReel_9 rfl ?_
      refine j_bipush (v := 30) dX7_speedForReel_11 (by decide) ?_
      refine j_icmp_gt (tgt := 65) dX7_speedForReel_13 (by decide) (fun c_13 => ?_) (fun c_13 => ?_)
      · refine j_iload_n dX7_speedForReel_65 rfl ?_
        refine j_iret dX7_speedForReel_66 rfl (rfl) (by decide) (by decide) ?_
        exact ⟨_, rfl, rfl, rfl, rfl, by rw [hb, show k = 21 by omega]; rfl, hc, ha⟩
      · exact absurd c_13 (by rw [k30]; omega)
    | succ n ih =>
      intro k i b z V1 L l0 l1 l2 l3 l4 hi hk hb hz hc ha
      have hr := hc.st.reel r.toInt
      refine j_sub2 (L' := [(0, .ref q), (1, .ref (reelA (q + 1) r.toInt)), (2, .int b), (3, .int z), (4, .int i)]) (List.forall_mem_cons.mpr ⟨l0, List.forall_mem_cons.mpr ⟨l1, List.forall_mem_cons.mpr ⟨l2, List.forall_mem_cons.mpr ⟨l3, List.forall_mem_cons.mpr ⟨l4, fun _ h9 => nomatch h9⟩⟩⟩⟩⟩) ?_
      refine j_iload dX7_speedForReel_9 rfl ?_
      refine j_bipush (v := 30) dX7_speedForReel_11 (by decide) ?_
      refine j_icmp_gt (tgt := 65) dX7_speedForReel_13 (by decide) (fun c_13 => ?_) (fun c_13 => ?_)
      · exact absurd c_13 (by rw [k30]; omega)
      · refine j_aload_n dX7_speedForReel_16 rfl ?_
        refine j_getr dX7_speedForReel_17 hB fl_X7_43 (by first | exact h.k | exact hs.1 | exact hr.1 | exact hr.2.1.1 | exact hr.2.2.1.1 | exact hr.2.2.2.1.1 | exact hr.2.2.2.2.1.1 | exact hr.2.2.2.2.2.1.1 | exact hr.2.2.2.2.2.2.1.1 | exact hs.2.2.2.2.1.1 | exact hs.2.2.2.2.2.1.1 | exact hs.2.2.2.2.2.2.1.1 | exact h.t0.2.2 | exact h.rk.1 | exact h.rk.2.1.1 | exact h.rk.2.2.1.1 | exact h.rk.2.2.2.1.1 | exact h.rk.2.2.2.2.1 | exact h.tk.1 | exact h.tk.2.1.1 | exact h.tk.2.2.1.1 | exact h.tk.2.2.2.1.1 | exact h.tk.2.2.2.2.1.1 | exact h.tk.2.2.2.2.2.1.1 | exact h.tk.2.2.2.2.2.2.1.1 | exact h.tk.2.2.2.2.2.2.2.1 | exact h.tk2.1 | exact h.b.1.1) (by rfl) ?_
        refine j_aload_n dX7_speedForReel_20 rfl ?_
        refine j_getr dX7_speedForReel_21 hB fl_X7_10 (by first | exact h.k | exact hs.1 | exact hr.1 | exact hr.2.1.1 | exact hr.2.2.1.1 | exact hr.2.2.2.1.1 | exact hr.2.2.2.2.1.1 | exact hr.2.2.2.2.2.1.1 | exact hr.2.2.2.2.2.2.1.1 | exact hs.2.2.2.2.1.1 | exact hs.2.2.2.2.2.1.1 | exact hs.2.2.2.2.2.2.1.1 | exact h.t0.2.2 | exact h.rk.1 | exact h.rk.2.1.1 | exact h.rk.2.2.1.1 | exact h.rk.2.2.2.1.1 | exact h.rk.2.2.2.2.1 | exact h.tk.1 | exact h.tk.2.1.1 | exact h.tk.2.2.1.1 | exact h.tk.2.2.2.1.1 | exact h.tk.2.2.2.2.1.1 | exact h.tk.2.2.2.2.2.1.1 | exact h.tk.2.2.2.2.2.2.1.1 | exact h.tk.2.2.2.2.2.2.2.1 | exact h.tk2.1 | exact h.b.1.1) (by rfl) ?_
        refine j_aload_n dX7_speedForReel_24 rfl ?_
        refine j_iload dX7_speedForReel_25 rfl ?_
        refine j_cVu dX7_speedForReel_27 hB mo_X6_measure ml_X7_141 (sp_X6_measure hB hc.tk2 hc.st hr (by omega) (by have := reelA_in (q + 1) r.toInt; omega) hW.1 hrl (Or.inr (by omega)) hW.2.1.1) (by first | exact h.k | exact hs.1 | exact hr.1 | exact hr.2.1.1 | exact hr.2.2.1.1 | exact hr.2.2.2.1.1 | exact hr.2.2.2.2.1.1 | exact hr.2.2.2.2.2.1.1 | exact hr.2.2.2.2.2.2.1.1 | exact hs.2.2.2.2.1.1 | exact hs.2.2.2.2.2.1.1 | exact hs.2.2.2.2.2.2.1.1 | exact h.t0.2.2 | exact h.rk.1 | exact h.rk.2.1.1 | exact h.rk.2.2.1.1 | exact h.rk.2.2.2.1.1 | exact h.rk.2.2.2.2.1 | exact h.tk.1 | exact h.tk.2.1.1 | exact h.tk.2.2.1.1 | exact h.tk.2.2.2.1.1 | exact h.tk.2.2.2.2.1.1 | exact h.tk.2.2.2.2.2.1.1 | exact h.tk.2.2.2.2.2.2.1.1 | exact h.tk.2.2.2.2.2.2.2.1 | exact h.tk2.1 | exact h.b.1.1) rfl rfl rfl rfl ⟨rfl, rfl, by decide, by decide⟩ (Nat.le_of_ble_eq_true rfl) ⟨by decide, by decide⟩ (fun V_27 h_27 => ?_)
        obtain ⟨gT, aT⟩ := h_27
        have cT := hc.tm2 aT gT.k
        have hds := gT.2.2.2.2.2.2.2.2.2.2.1
        rw [hi] at hds
        refine j_iload dX7_speedForReel_30 rfl ?_
        refine j_bipush (v := 10) dX7_speedForReel_32 (by decide) ?_
        refine j_icmp_eq (tgt := 48) dX7_speedForReel_34 (by decide) (fun c_34 => ?_) (fun c_34 => ?_)
        · refine j_iload dX7_speedForReel_48 rfl ?_
          refine j_istore_n (L' := [(0, _), (1, _), (2, _), (3, _), (4, _)]) dX7_speedForReel_50 (by decide) rfl ?_
          refine j_aload_n dX7_speedForReel_51 rfl ?_
          refine j_getr dX7_speedForReel_52 hB fl_X7_43 (by first | exact h.k | exact hs.1 | exact hr.1 | exact hr.2.1.1 | exact hr.2.2.1.1 | exact hr.2.2.2.1.1 | exact hr.2.2.2.2.1.1 | exact hr.2.2.2.2.2.1.1 | exact hr.2.2.2.2.2.2.1.1 | exact hs.2.2.2.2.1.1 | exact hs.2.2.2.2.2.1.1 | exact hs.2.2.2.2.2.2.1.1 | exact h.t0.2.2 | exact h.rk.1 | exact h.rk.2.1.1 | exact h.rk.2.2.1.1 | exact h.rk.2.2.2.1.1 | exact h.rk.2.2.2.2.1 | exact h.tk.1 | exact h.tk.2.1.1 | exact h.tk.2.2.1.1 | exact h.tk.2.2.2.1.1 | exact h.tk.2.2.2.2.1.1 | exact h.tk.2.2.2.2.2.1.1 | exact h.tk.2.2.2.2.2.2.1.1 | exact h.tk.2.2.2.2.2.2.2.1 | exact h.tk2.1 | exact h.b.1.1) (by rfl) ?_
          refine j_geti dX7_speedForReel_55 hB fl_X7_298 (by first | exact h.k | exact hs.1 | exact hr.1 | exact hr.2.1.1 | exact hr.2.2.1.1 | exact hr.2.2.2.1.1 | exact hr.2.2.2.2.1.1 | exact hr.2.2.2.2.2.1.1 | exact hr.2.2.2.2.2.2.1.1 | exact hs.2.2.2.2.1.1 | exact hs.2.2.2.2.2.1.1 | exact hs.2.2.2.2.2.2.1.1 | exact h.t0.2.2 | exact h.rk.1 | exact h.rk.2.1.1 | exact h.rk.2.2.1.1 | exact h.rk.2.2.2.1.1 | exact h.rk.2.2.2.2.1 | exact h.tk.1 | exact h.tk.2.1.1 | exact h.tk.2.2.1.1 | exact h.tk.2.2.2.1.1 | exact h.tk.2.2.2.2.1.1 | exact h.tk.2.2.2.2.2.1.1 | exact h.tk.2.2.2.2.2.2.1.1 | exact h.tk.2.2.2.2.2.2.2.1 | exact h.tk2.1 | exact h.b.1.1) (by rfl) ?_
          refine j_istore_n (L' := [(0, _), (1, _), (2, _), (3, _), (4, _)]) dX7_speedForReel_58 (by decide) rfl ?_
          refine j_iinc (v := 1) (L' := [(0, _), (1, _), (2, _), (3, _), (4, _)]) dX7_speedForReel_59 rfl (by decide) (by decide) rfl ?_
          refine j_goto (tgt := 9) dX7_speedForReel_62 (by decide) ?_
          have hst : bsN x.1 (sR x.1 r.toInt) (k + 1) = (10 + (k : Int), aSum (aDs1 x.1 (sR x.1 r.toInt) (10 + k)) (sR x.1 r.toInt).1.length) := by
            have h1 : k = 0 ∨ aSum (aDs1 x.1 (sR x.1 r.toInt) (10 + k)) (sR x.1 r.toInt).1.length < (bsN x.1 (sR x.1 r.toInt) k).2 := by
              rw [← hz, ← hds]
              exact Or.inl (by have := congrArg Int32.toInt c_34; rw [hi, k10] at this; omega)
            exact if_pos h1
          refine ih (k + 1) _ i (V_27 (q + 476) 12) V_27 _ rfl rfl rfl rfl rfl ?_ (by omega) (by rw [hst]; exact hi) (by rw [hst]; exact hds) cT (ha.tr aT)
          rw [ti_add (by rw [ti_1]; omega) (by rw [ti_1]; omega), ti_1]; omega
        · refine j_aload_n dX7_speedForReel_37 rfl ?_
          refine j_getr dX7_speedForReel_38 hB fl_X7_43 (by first | exact h.k | exact hs.1 | exact hr.1 | exact hr.2.1.1 | exact hr.2.2.1.1 | exact hr.2.2.2.1.1 | exact hr.2.2.2.2.1.1 | exact hr.2.2.2.2.2.1.1 | exact hr.2.2.2.2.2.2.1.1 | exact hs.2.2.2.2.1.1 | exact hs.2.2.2.2.2.1.1 | exact hs.2.2.2.2.2.2.1.1 | exact h.t0.2.2 | exact h.rk.1 | exact h.rk.2.1.1 | exact h.rk.2.2.1.1 | exact h.rk.2.2.2.1.1 | exact h.rk.2.2.2.2.1 | exact h.tk.1 | exact h.tk.2.1.1 | exact h.tk.2.2.1.1 | exact h.tk.2.2.2.1.1 | exact h.tk.2.2.2.2.1.1 | exact h.tk.2.2.2.2.2.1.1 | exact h.tk.2.2.2.2.2.2.1.1 | exact h.tk.2.2.2.2.2.2.2.1 | exact h.tk2.1 | exact h.b.1.1) (by rfl) ?_
          refine j_geti dX7_speedForReel_41 hB fl_X7_298 (by first | exact h.k | exact hs.1 | exact hr.1 | exact hr.2.1.1 | exact hr.2.2.1.1 | exact hr.2.2.2.1.1 | exact hr.2.2.2.2.1.1 | exact hr.2.2.2.2.2.1.1 | exact hr.2.2.2.2.2.2.1.1 | exact hs.2.2.2.2.1.1 | exact hs.2.2.2.2.2.1.1 | exact hs.2.2.2.2.2.2.1.1 | exact h.t0.2.2 | exact h.rk.1 | exact h.rk.2.1.1 | exact h.rk.2.2.1.1 | exact h.rk.2.2.2.1.1 | exact h.rk.2.2.2.2.1 | exact h.tk.1 | exact h.tk.2.1.1 | exact h.tk.2.2.1.1 | exact h.tk.2.2.2.1.1 | exact h.tk.2.2.2.2.1.1 | exact h.tk.2.2.2.2.2.1.1 | exact h.tk.2.2.2.2.2.2.1.1 | exact h.tk.2.2.2.2.2.2.2.1 | exact h.tk2.1 | exact h.b.1.1) (by rfl) ?_
          refine j_iload_n dX7_speedForReel_44 rfl ?_
          refine j_icmp_ge (tgt := 59) dX7_speedForReel_45 (by decide) (fun c_45 => ?_) (fun c_45 => ?_)
          · refine j_iinc (v := 1) (L' := [(0, _), (1, _), (2, _), (3, _), (4, _)]) dX7_speedForReel_59 rfl (by decide) (by decide) rfl ?_
            refine j_goto (tgt := 9) dX7_speedForReel_62 (by decide) ?_
            have hst : bsN x.1 (sR x.1 r.toInt) (k + 1) = bsN x.1 (sR x.1 r.toInt) k := by
              have h1 : ¬ (k = 0 ∨ aSum (aDs1 x.1 (sR x.1 r.toInt) (10 + k)) (sR x.1 r.toInt).1.length < (bsN x.1 (sR x.1 r.toInt) k).2) := by
                rw [← hz, ← hds]
                rintro (e | e)
                · exact c_34 (Int32.toInt_inj.mp (by rw [hi, k10]; omega))
                · omega
              exact if_neg h1
            refine ih (k + 1) _ b z V_27 _ rfl rfl rfl rfl rfl ?_ (by omega) (by rw [hst]; exact hb) (by rw [hst]; exact hz) cT (ha.tr aT)
            rw [ti_add (by rw [ti_1]; omega) (by rw [ti_1]; omega), ti_1]; omega
          · refine j_iload dX7_speedForReel_48 rfl ?_
            refine j_istore_n (L' := [(0, _), (1, _), (2, _), (3, _), (4, _)]) dX7_speedForReel_50 (by decide) rfl ?_
            refine j_aload_n dX7_speedForReel_51 rfl ?_
            refine j_getr dX7_speedForReel_52 hB fl_X7_43 (by first | exact h.k | exact hs.1 | exact hr.1 | exact hr.2.1.1 | exact hr.2.2.1.1 | exact hr.2.2.2.1.1 | exact hr.2.2.2.2.1.1 | exact hr.2.2.2.2.2.1.1 | exact hr.2.2.2.2.2.2.1.1 | exact hs.2.2.2.2.1.1 | exact hs.2.2.2.2.2.1.1 | exact hs.2.2.2.2.2.2.1.1 | exact h.t0.2.2 | exact h.rk.1 | exact h.rk.2.1.1 | exact h.rk.2.2.1.1 | exact h.rk.2.2.2.1.1 | exact h.rk.2.2.2.2.1 | exact h.tk.1 | exact h.tk.2.1.1 | exact h.tk.2.2.1.1 | exact h.tk.2.2.2.1.1 | exact h.tk.2.2.2.2.1.1 | exact h.tk.2.2.2.2.2.1.1 | exact h.tk.2.2.2.2.2.2.1.1 | exact h.tk.2.2.2.2.2.2.2.1 | exact h.tk2.1 | exact h.b.1.1) (by rfl) ?_
            refine j_geti dX7_speedForReel_55 hB fl_X7_298 (by first | exact h.k | exact hs.1 | exact hr.1 | exact hr.2.1.1 | exact hr.2.2.1.1 | exact hr.2.2.2.1.1 | exact hr.2.2.2.2.1.1 | exact hr.2.2.2.2.2.1.1 | exact hr.2.2.2.2.2.2.1.1 | exact hs.2.2.2.2.1.1 | exact hs.2.2.2.2.2.1.1 | exact hs.2.2.2.2.2.2.1.1 | exact h.t0.2.2 | exact h.rk.1 | exact h.rk.2.1.1 | exact h.rk.2.2.1.1 | exact h.rk.2.2.2.1.1 | exact h.rk.2.2.2.2.1 | exact h.tk.1 | exact h.tk.2.1.1 | exact h.tk.2.2.1.1 | exact h.tk.2.2.2.1.1 | exact h.tk.2.2.2.2.1.1 | exact h.tk.2.2.2.2.2.1.1 | exact h.tk.2.2.2.2.2.2.1.1 | exact h.tk.2.2.2.2.2.2.2.1 | exact h.tk2.1 | exact h.b.1.1) (by rfl) ?_
            refine j_istore_n (L' := [(0, _), (1, _), (2, _), (3, _), (4, _)]) dX7_speedForReel_58 (by decide) rfl ?_
            refine j_iinc (v := 1) (L' := [(0, _), (1, _), (2, _), (3, _), (4, _)]) dX7_speedForReel_59 rfl (by decide) (by decide) rfl ?_
            refine j_goto (tgt := 9) dX7_speedForReel_62 (by decide) ?_
            have hst : bsN x.1 (sR x.1 r.toInt) (k + 1) = (10 + (k : Int), aSum (aDs1 x.1 (sR x.1 r.toInt) (10 + k)) (sR x.1 r.toInt).1.length) := by
              have h1 : k = 0 ∨ aSum (aDs1 x.1 (sR x.1 r.toInt) (10 + k)) (sR x.1 r.toInt).1.length < (bsN x.1 (sR x.1 r.toInt) k).2 := by
                rw [← hz, ← hds]
                exact Or.inr (by omega)
              exact if_pos h1
            refine ih (k + 1) _ i (V_27 (q + 476) 12) V_27 _ rfl rfl rfl rfl rfl ?_ (by omega) (by rw [hst]; exact hi) (by rw [hst]; exact hds) cT (ha.tr aT)
            rw [ti_add (by rw [ti_1]; omega) (by rw [ti_1]; omega), ti_1]; omega
  refine j_bipush (v := 10) dX7_speedForReel_0 (by decide) ?_
  refine j_istore_n (L' := [(0, _), (1, _), (2, _)]) dX7_speedForReel_2 (by decide) rfl ?_
  refine j_iconst (v := 0) dX7_speedForReel_3 (by decide) ?_
  refine j_istore_n (L' := [(0, _), (1, _), (2, _), (3, _)]) dX7_speedForReel_4 (by decide) rfl ?_
  refine j_bipush (v := 10) dX7_speedForReel_5 (by decide) ?_
  refine j_istore (L' := [(0, _), (1, _), (2, _), (3, _), (4, _)]) dX7_speedForReel_7 (by decide) rfl ?_
  exact loop 21 0 10 10 0 V _ rfl rfl rfl rfl rfl rfl rfl rfl rfl h jAg.rf
set_option maxRecDepth 100000 in
set_option maxHeartbeats 4000000 in
theorem sp_X7_bestSpeed (hB : jB l s0 D) {q : Nat} {x : aX} {r : Int32} (h : cuIs T V q x) (hW : xW x) : Sp l s0 D kX7_bestSpeed (jR 8 1 6) 1 6 [.ref q, .int r] T V X sz (qC T V X sz q (e_fit r) [IO] (pInt (bsV x.1 (xR x r))) x (x)) := by
  refine Sp.of pn_X7_bestSpeed rfl (Nat.le_of_ble_eq_true rfl) ?_
  have hs := h.st
  have hr := hs.reel r.toInt
  have hrl := hW.1.r r.toInt
  refine j_aload_n dX7_bestSpeed_0 rfl ?_
  refine j_iload_n dX7_bestSpeed_1 rfl ?_
  refine j_tV dX7_bestSpeed_2 hB mo_X7_requireReel ml_X7_53 (sp_X7_requireReel hB) (by first | exact h.k | exact hs.1 | exact hr.1 | exact hr.2.1.1 | exact hr.2.2.1.1 | exact hr.2.2.2.1.1 | exact hr.2.2.2.2.1.1 | exact hr.2.2.2.2.2.1.1 | exact hr.2.2.2.2.2.2.1.1 | exact hs.2.2.2.2.1.1 | exact hs.2.2.2.2.2.1.1 | exact hs.2.2.2.2.2.2.1.1 | exact h.t0.2.2 | exact h.rk.1 | exact h.rk.2.1.1 | exact h.rk.2.2.1.1 | exact h.rk.2.2.2.1.1 | exact h.rk.2.2.2.2.1 | exact h.tk.1 | exact h.tk.2.1.1 | exact h.tk.2.2.1.1 | exact h.tk.2.2.2.1.1 | exact h.tk.2.2.2.2.1.1 | exact h.tk.2.2.2.2.2.1.1 | exact h.tk.2.2.2.2.2.2.1.1 | exact h.tk.2.2.2.2.2.2.2.1 | exact h.tk2.1 | exact h.b.1.1) rfl rfl rfl rfl ⟨rfl, rfl, by decide, by decide⟩ (Nat.le_of_ble_eq_true rfl) ⟨by decide, by decide⟩ rfl ⟨by decide, by decide⟩ (fun E V_2 sz_2 hz hx => by obtain ⟨rfl, rfl, hn⟩ := hx; exact qC.thr 0 hz rfl (by show e_fit r = 1; unfold e_fit; exact (if_pos hn)) jAg.rf h) (fun v_2 V_2 h_2 => ?_)
  obtain ⟨rfl, rfl, h_2⟩ := h_2
  refine j_aload_n dX7_bestSpeed_5 rfl ?_
  refine j_aload_n dX7_bestSpeed_6 rfl ?_
  refine j_getr dX7_bestSpeed_7 hB fl_X7_10 (by first | exact h.k | exact hs.1 | exact hr.1 | exact hr.2.1.1 | exact hr.2.2.1.1 | exact hr.2.2.2.1.1 | exact hr.2.2.2.2.1.1 | exact hr.2.2.2.2.2.1.1 | exact hr.2.2.2.2.2.2.1.1 | exact hs.2.2.2.2.1.1 | exact hs.2.2.2.2.2.1.1 | exact hs.2.2.2.2.2.2.1.1 | exact h.t0.2.2 | exact h.rk.1 | exact h.rk.2.1.1 | exact h.rk.2.2.1.1 | exact h.rk.2.2.2.1.1 | exact h.rk.2.2.2.2.1 | exact h.tk.1 | exact h.tk.2.1.1 | exact h.tk.2.2.1.1 | exact h.tk.2.2.2.1.1 | exact h.tk.2.2.2.2.1.1 | exact h.tk.2.2.2.2.2.1.1 | exact h.tk.2.2.2.2.2.2.1.1 | exact h.tk.2.2.2.2.2.2.2.1 | exact h.tk2.1 | exact h.b.1.1) (by rfl) ?_
  refine j_iload_n dX7_bestSpeed_10 rfl ?_
  refine j_cVa dX7_bestSpeed_11 hB mo_X5_reelAt ml_X7_60 (sp_X5_reelAt hB hs) (by first | exact h.k | exact hs.1 | exact hr.1 | exact hr.2.1.1 | exact hr.2.2.1.1 | exact hr.2.2.2.1.1 | exact hr.2.2.2.2.1.1 | exact hr.2.2.2.2.2.1.1 | exact hr.2.2.2.2.2.2.1.1 | exact hs.2.2.2.2.1.1 | exact hs.2.2.2.2.2.1.1 | exact hs.2.2.2.2.2.2.1.1 | exact h.t0.2.2 | exact h.rk.1 | exact h.rk.2.1.1 | exact h.rk.2.2.1.1 | exact h.rk.2.2.2.1.1 | exact h.rk.2.2.2.2.1 | exact h.tk.1 | exact h.tk.2.1.1 | exact h.tk.2.2.1.1 | exact h.tk.2.2.2.1.1 | exact h.tk.2.2.2.2.1.1 | exact h.tk.2.2.2.2.2.1.1 | exact h.tk.2.2.2.2.2.2.1.1 | exact h.tk.2.2.2.2.2.2.2.1 | exact h.tk2.1 | exact h.b.1.1) rfl rfl rfl rfl ⟨rfl, rfl, by decide, by decide⟩ (Nat.le_of_ble_eq_true rfl) ⟨by decide, by decide⟩ (fun r_11 V_11 h_11 => ?_)
  obtain ⟨rfl, hq⟩ := h_11
  subst hq
  refine j_cVi dX7_bestSpeed_14 hB mo_X7_speedForReel ml_X7_248 (sp_X7_speedForReel hB h hW.1) (by first | exact h.k | exact hs.1 | exact hr.1 | exact hr.2.1.1 | exact hr.2.2.1.1 | exact hr.2.2.2.1.1 | exact hr.2.2.2.2.1.1 | exact hr.2.2.2.2.2.1.1 | exact hr.2.2.2.2.2.2.1.1 | exact hs.2.2.2.2.1.1 | exact hs.2.2.2.2.2.1.1 | exact hs.2.2.2.2.2.2.1.1 | exact h.t0.2.2 | exact h.rk.1 | exact h.rk.2.1.1 | exact h.rk.2.2.1.1 | exact h.rk.2.2.2.1.1 | exact h.rk.2.2.2.2.1 | exact h.tk.1 | exact h.tk.2.1.1 | exact h.tk.2.2.1.1 | exact h.tk.2.2.2.1.1 | exact h.tk.2.2.2.2.1.1 | exact h.tk.2.2.2.2.2.1.1 | exact h.tk.2.2.2.2.2.2.1.1 | exact h.tk.2.2.2.2.2.2.2.1 | exact h.tk2.1 | exact h.b.1.1) rfl rfl rfl rfl ⟨rfl, rfl, by decide, by decide⟩ (Nat.le_of_ble_eq_true rfl) ⟨by decide, by decide⟩ (fun r_14 V_14 h_14 => ?_)
  obtain ⟨t1, cC, aC⟩ := h_14
  refine j_iret dX7_bestSpeed_17 rfl (rfl) (by decide) (by decide) ?_
  exact qC.ret (by show e_fit r = 0; unfold e_fit; exact (if_neg (fun z => z h_2))) ⟨_, rfl, t1⟩ (aC.wide (by omega) (by omega)) cC
end JCu7
