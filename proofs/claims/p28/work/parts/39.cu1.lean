/-! CueSheets: addScene, removeScene, crank, splice, addPiece, set -/
section JCu3
variable {l : Launch} {s0 : State} {D : jD} {T : jT} {V : jV} {X : jX} {sz : Nat}
theorem ReelOK.sp {V' : jV} {q : Nat} {r : aR} {P : pL} (h : ReelOK T V q r) (a : jAg V V' (q + 9) (q + 9 + 5)) (g : MkOK T V' (q + 9) P) : ReelOK T V' q (rSp r P) := by
  obtain ⟨h0, h1, h2, h3, h4, h5, h6, e1, e2, e3, e4⟩ := h
  exact ⟨h0, h1.ag a (by omega), h2.ag a (by omega), h3.ag a (by omega), h4.ag a (by omega), g, h6.ag a (by omega), by rw [Rw_ag a (by omega)]; exact e1, by rw [Rw_ag a (by omega)]; exact e2, by rw [Rw_ag a (by omega)]; exact e3, by rw [Rw_ag a (by omega)]; exact e4⟩
theorem ReelOK.sl {V' : jV} {q : Nat} {r : aR} {P : pL} (h : ReelOK T V q r) (a : jAg V V' (q + 14) (q + 14 + 5)) (g : MkOK T V' (q + 14) P) : ReelOK T V' q (rSl r P) := by
  obtain ⟨h0, h1, h2, h3, h4, h5, h6, e1, e2, e3, e4⟩ := h
  exact ⟨h0, h1.ag a (by omega), h2.ag a (by omega), h3.ag a (by omega), h4.ag a (by omega), h5.ag a (by omega), g, by rw [Rw_ag a (by omega)]; exact e1, by rw [Rw_ag a (by omega)]; exact e2, by rw [Rw_ag a (by omega)]; exact e3, by rw [Rw_ag a (by omega)]; exact e4⟩
/-- a reel of the state is set -/
theorem cuIs.setR {V' : jV} {q : Nat} {x : aX} {s : aS} {z : Int} {r : aR} (h : cuIs T V q (s, x.2)) (ha : jAg V V' (reelA (q + 1) z) (reelA (q + 1) z + 19)) (hr : ReelOK T V' (reelA (q + 1) z) r) : cuIs T V' q (sSet s z r, x.2) ∧ jAg V V' q (q + 492) := by
  have hin := reelA_in (q + 1) z
  exact ⟨h.now (ha.wide (by omega) (by omega)) (h.st.setReel ha hr), ha.wide (by omega) (by omega)⟩
theorem cuIs.setR' {V' : jV} {q : Nat} {x : aX} {z : Int} {r : aR} (h : cuIs T V q x) (ha : jAg V V' (reelA (q + 1) z) (reelA (q + 1) z + 19)) (hr : ReelOK T V' (reelA (q + 1) z) r) : cuIs T V' q (sSet x.1 z r, x.2) ∧ jAg V V' q (q + 492) := cuIs.setR (x := x) (s := x.1) h ha hr
set_option maxRecDepth 100000 in
set_option maxHeartbeats 4000000 in
theorem sp_X7_addScene (hB : jB l s0 D) {q : Nat} {x : aX} {r len : Int32} (h : cuIs T V q x) (hW : xW x) : Sp l s0 D kX7_addScene (jR 8 3 18) 3 18 [.ref q, .int r, .int len] T V X sz (qC T V X sz q (e_add x r len) [IO, IA, IS] (pInt (v_add x r)) x (s_add x r len)) := by
  refine Sp.of pn_X7_addScene rfl (Nat.le_of_ble_eq_true rfl) ?_
  have hs := h.st
  have hr := hs.reel r.toInt
  have hrl := hW.1.r r.toInt
  have hlen : (sR x.1 r.toInt).2.1.length = (sR x.1 r.toInt).1.length ∧ (sR x.1 r.toInt).2.2.1.length = (sR x.1 r.toInt).1.length ∧ (sR x.1 r.toInt).2.2.2.1.length = (sR x.1 r.toInt).1.length := ⟨hrl.1, hrl.2.1, hrl.2.2.1⟩
  have k10 : (10 : Int32).toInt = 10 := by decide
  refine j_aload_n dX7_addScene_0 rfl ?_
  refine j_iload_n dX7_addScene_1 rfl ?_
  refine j_tV dX7_addScene_2 hB mo_X7_requireReel ml_X7_53 (sp_X7_requireReel hB) (by first | exact h.k | exact hs.1 | exact hr.1 | exact hr.2.2.2.2.2.1.1 | exact hr.2.2.2.2.2.2.1.1 | exact hs.2.2.2.2.1.1 | exact hs.2.2.2.2.2.1.1 | exact hs.2.2.2.2.2.2.1.1) rfl rfl rfl rfl ⟨rfl, rfl, by decide, by decide⟩ (Nat.le_of_ble_eq_true rfl) ⟨by decide, by decide⟩ rfl ⟨by decide, by decide⟩ (fun E V_2 sz_2 hz hx => by obtain ⟨rfl, rfl, hn⟩ := hx; exact qC.thr 0 hz rfl (by show e_add x r len = 1; unfold e_add; exact (if_pos hn)) jAg.rf h) (fun v_2 V_2 h_2 => ?_)
  obtain ⟨rfl, rfl, h_2⟩ := h_2
  refine j_iload_n dX7_addScene_5 rfl ?_
  refine j_iconst (v := 1) dX7_addScene_6 (by decide) ?_
  refine j_sipush (v := 900) dX7_addScene_7 (by decide) ?_
  refine j_tS dX7_addScene_10 hB mo_X7_requireRange ml_X7_56 (sp_X7_requireRange hB) rfl rfl ⟨rfl, rfl, by decide, by decide⟩ (Nat.le_of_ble_eq_true rfl) ⟨by decide, by decide⟩ rfl ⟨by decide, by decide⟩ (fun E V_10 sz_10 hz hx => by obtain ⟨rfl, rfl, hn⟩ := hx; exact qC.thr 1 hz rfl (by show e_add x r len = 2; unfold e_add; exact ((if_neg (fun z => z h_2)).trans (if_pos hn))) jAg.rf h) (fun v_10 V_10 h_10 => ?_)
  obtain ⟨rfl, rfl, h_10⟩ := h_10
  have h_10 : inR len 1 900 := h_10
  refine j_aload_n dX7_addScene_13 rfl ?_
  refine j_getr dX7_addScene_14 hB fl_X7_10 (by first | exact h.k | exact hs.1 | exact hr.1 | exact hr.2.2.2.2.2.1.1 | exact hr.2.2.2.2.2.2.1.1 | exact hs.2.2.2.2.1.1 | exact hs.2.2.2.2.2.1.1 | exact hs.2.2.2.2.2.2.1.1) (by rfl) ?_
  refine j_iload_n dX7_addScene_17 rfl ?_
  refine j_cVa dX7_addScene_18 hB mo_X5_reelAt ml_X7_60 (sp_X5_reelAt hB hs) (by first | exact h.k | exact hs.1 | exact hr.1 | exact hr.2.2.2.2.2.1.1 | exact hr.2.2.2.2.2.2.1.1 | exact hs.2.2.2.2.1.1 | exact hs.2.2.2.2.2.1.1 | exact hs.2.2.2.2.2.2.1.1) rfl rfl rfl rfl ⟨rfl, rfl, by decide, by decide⟩ (Nat.le_of_ble_eq_true rfl) ⟨by decide, by decide⟩ (fun r_18 V_18 h_18 => ?_)
  obtain ⟨rfl, hq⟩ := h_18
  subst hq
  refine j_astore_n (L' := [(0, _), (1, _), (2, _), (3, _)]) dX7_addScene_21 (by decide) rfl ?_
  refine j_aload_n dX7_addScene_22 rfl ?_
  refine j_cVi dX7_addScene_23 hB mo_X2_scenes ml_X7_64 (sp_X2_scenes hB hr) (by first | exact h.k | exact hs.1 | exact hr.1 | exact hr.2.2.2.2.2.1.1 | exact hr.2.2.2.2.2.2.1.1 | exact hs.2.2.2.2.1.1 | exact hs.2.2.2.2.2.1.1 | exact hs.2.2.2.2.2.2.1.1) rfl rfl rfl rfl ⟨rfl, rfl, by decide, by decide⟩ (Nat.le_of_ble_eq_true rfl) ⟨by decide, by decide⟩ (fun r_23 V_23 h_23 => ?_)
  obtain ⟨rfl, hn⟩ := h_23
  refine j_bipush (v := 10) dX7_addScene_26 (by decide) ?_
  refine j_icmp_lt (tgt := 41) dX7_addScene_28 (by decide) (fun c_28 => ?_) (fun c_28 => ?_)
  · refine j_aload_n dX7_addScene_41 rfl ?_
    refine j_cVu dX7_addScene_42 hB mo_X7_save ml_X7_77 (sp_X7_save hB h) (by first | exact h.k | exact hs.1 | exact hr.1 | exact hr.2.2.2.2.2.1.1 | exact hr.2.2.2.2.2.2.1.1 | exact hs.2.2.2.2.1.1 | exact hs.2.2.2.2.2.1.1 | exact hs.2.2.2.2.2.2.1.1) rfl rfl rfl rfl ⟨rfl, rfl, by decide, by decide⟩ (Nat.le_of_ble_eq_true rfl) ⟨by decide, by decide⟩ (fun V_42 h_42 => ?_)
    obtain ⟨gS, aS⟩ := h_42
    have aS := aS.wide (hi' := q + 492) (Nat.le_refl q) (by omega)
    refine j_aload_n dX7_addScene_45 rfl ?_
    refine j_iload_n dX7_addScene_46 rfl ?_
    refine j_ldc dX7_addScene_47 hB kc_X7_80 ?_
    refine j_iconst (v := 0) dX7_addScene_49 (by decide) ?_
    refine j_iconst (v := 0) dX7_addScene_50 (by decide) ?_
    refine j_cVu dX7_addScene_51 hB mo_X2_extend ml_X7_81 (sp_X2_extend hB (gS.st.reel r.toInt) (by show (sR x.1 r.toInt).1.length < 10; omega) (by show (sR x.1 r.toInt).2.1.length < 10; omega) (by show (sR x.1 r.toInt).2.2.1.length < 10; omega) (by show (sR x.1 r.toInt).2.2.2.1.length < 10; omega)) (by first | exact h.k | exact hs.1 | exact hr.1 | exact hr.2.2.2.2.2.1.1 | exact hr.2.2.2.2.2.2.1.1 | exact hs.2.2.2.2.1.1 | exact hs.2.2.2.2.2.1.1 | exact hs.2.2.2.2.2.2.1.1) rfl rfl rfl rfl ⟨rfl, rfl, by decide, by decide⟩ (Nat.le_of_ble_eq_true rfl) ⟨by decide, by decide⟩ (fun V_51 h_51 => ?_)
    obtain ⟨g2, a2⟩ := h_51
    refine j_aload_n dX7_addScene_54 rfl ?_
    refine j_cVi dX7_addScene_55 hB mo_X2_scenes ml_X7_64 (sp_X2_scenes hB g2) (by first | exact h.k | exact hs.1 | exact hr.1 | exact hr.2.2.2.2.2.1.1 | exact hr.2.2.2.2.2.2.1.1 | exact hs.2.2.2.2.1.1 | exact hs.2.2.2.2.2.1.1 | exact hs.2.2.2.2.2.2.1.1) rfl rfl rfl rfl ⟨rfl, rfl, by decide, by decide⟩ (Nat.le_of_ble_eq_true rfl) ⟨by decide, by decide⟩ (fun r_55 V_55 h_55 => ?_)
    obtain ⟨rfl, hn2⟩ := h_55
    rw [List.length_append] at hn2
    have hn2 : r_55.toInt = (((sR x.1 r.toInt).1.length + 1 : Nat) : Int) := hn2
    refine j_iconst (v := 1) dX7_addScene_58 (by decide) ?_
    refine j_isub dX7_addScene_59 ?_
    refine j_iret dX7_addScene_60 rfl (rfl) (by decide) (by decide) ?_
    have h7 := gS.setR' a2 g2
    exact qC.ret (by show e_add x r len = 0; unfold e_add; exact ((if_neg (fun z => z h_2)).trans ((if_neg (fun z => z h_10)).trans (if_neg (by unfold xR; omega))))) ⟨_, rfl, by rw [ti_sub (by rw [ti_1]; omega) (by rw [ti_1]; omega), ti_1, hn2]; unfold v_add xR; omega⟩ (aS.tr h7.2) h7.1
  · refine j_throw dX7_addScene_31 dX7_addScene_34 dX7_addScene_35 dX7_addScene_37 dX7_addScene_40 hB rfl th_X7_addScene_31 (by decide) (Nat.le_of_ble_eq_true rfl) (by decide) (by decide) (by decide) (by decide) ?_
    exact fun sz1 hz => qC.thr 2 hz rfl (by show e_add x r len = 3; unfold e_add; exact ((if_neg (fun z => z h_2)).trans ((if_neg (fun z => z h_10)).trans (if_pos (by unfold xR; omega))))) jAg.rf h
set_option maxRecDepth 100000 in
set_option maxHeartbeats 4000000 in
theorem sp_X7_removeScene (hB : jB l s0 D) {q : Nat} {x : aX} {r s : Int32} (h : cuIs T V q x) (hW : xW x) : Sp l s0 D kX7_removeScene (jR 8 2 12) 2 12 [.ref q, .int r, .int s] T V X sz (qC T V X sz q (e_rem x r s) [IO] (pInt (v_rem x r)) x (s_rem x r s)) := by
  refine Sp.of pn_X7_removeScene rfl (Nat.le_of_ble_eq_true rfl) ?_
  have hs := h.st
  have hr := hs.reel r.toInt
  have hrl := hW.1.r r.toInt
  refine j_aload_n dX7_removeScene_0 rfl ?_
  refine j_iload_n dX7_removeScene_1 rfl ?_
  refine j_iload_n dX7_removeScene_2 rfl ?_
  refine j_tV dX7_removeScene_3 hB mo_X7_requireScene ml_X7_85 (sp_X7_requireScene hB h) (by first | exact h.k | exact hs.1 | exact hr.1 | exact hr.2.2.2.2.2.1.1 | exact hr.2.2.2.2.2.2.1.1 | exact hs.2.2.2.2.1.1 | exact hs.2.2.2.2.2.1.1 | exact hs.2.2.2.2.2.2.1.1) rfl rfl rfl rfl ⟨rfl, rfl, by decide, by decide⟩ (Nat.le_of_ble_eq_true rfl) ⟨by decide, by decide⟩ rfl ⟨by decide, by decide⟩ (fun E V_3 sz_3 hz hx => by obtain ⟨rfl, rfl, hn⟩ := hx; exact qC.thr 0 hz rfl (by show e_rem x r s = 1; unfold e_rem; exact (if_pos hn)) jAg.rf h) (fun v_3 V_3 h_3 => ?_)
  obtain ⟨rfl, rfl, h_3⟩ := h_3
  refine j_aload_n dX7_removeScene_6 rfl ?_
  refine j_cVu dX7_removeScene_7 hB mo_X7_save ml_X7_77 (sp_X7_save hB h) (by first | exact h.k | exact hs.1 | exact hr.1 | exact hr.2.2.2.2.2.1.1 | exact hr.2.2.2.2.2.2.1.1 | exact hs.2.2.2.2.1.1 | exact hs.2.2.2.2.2.1.1 | exact hs.2.2.2.2.2.2.1.1) rfl rfl rfl rfl ⟨rfl, rfl, by decide, by decide⟩ (Nat.le_of_ble_eq_true rfl) ⟨by decide, by decide⟩ (fun V_7 h_7 => ?_)
  obtain ⟨gS, aS⟩ := h_7
  have aS := aS.wide (hi' := q + 492) (Nat.le_refl q) (by omega)
  refine j_aload_n dX7_removeScene_10 rfl ?_
  refine j_getr dX7_removeScene_11 hB fl_X7_10 (by first | exact h.k | exact hs.1 | exact hr.1 | exact hr.2.2.2.2.2.1.1 | exact hr.2.2.2.2.2.2.1.1 | exact hs.2.2.2.2.1.1 | exact hs.2.2.2.2.2.1.1 | exact hs.2.2.2.2.2.2.1.1) (by rfl) ?_
  refine j_iload_n dX7_removeScene_14 rfl ?_
  refine j_cVa dX7_removeScene_15 hB mo_X5_reelAt ml_X7_60 (sp_X5_reelAt hB gS.st) (by first | exact h.k | exact hs.1 | exact hr.1 | exact hr.2.2.2.2.2.1.1 | exact hr.2.2.2.2.2.2.1.1 | exact hs.2.2.2.2.1.1 | exact hs.2.2.2.2.2.1.1 | exact hs.2.2.2.2.2.2.1.1) rfl rfl rfl rfl ⟨rfl, rfl, by decide, by decide⟩ (Nat.le_of_ble_eq_true rfl) ⟨by decide, by decide⟩ (fun r_15 V_15 h_15 => ?_)
  obtain ⟨rfl, hq⟩ := h_15
  subst hq
  refine j_astore_n (L' := [(0, _), (1, _), (2, _), (3, _)]) dX7_removeScene_18 (by decide) rfl ?_
  refine j_aload_n dX7_removeScene_19 rfl ?_
  refine j_iload_n dX7_removeScene_20 rfl ?_
  refine j_cVu dX7_removeScene_21 hB mo_X2_cutOut ml_X7_89 (sp_X2_cutOut hB (gS.st.reel r.toInt) h_3.2.1) (by first | exact h.k | exact hs.1 | exact hr.1 | exact hr.2.2.2.2.2.1.1 | exact hr.2.2.2.2.2.2.1.1 | exact hs.2.2.2.2.1.1 | exact hs.2.2.2.2.2.1.1 | exact hs.2.2.2.2.2.2.1.1) rfl rfl rfl rfl ⟨rfl, rfl, by decide, by decide⟩ (Nat.le_of_ble_eq_true rfl) ⟨by decide, by decide⟩ (fun V_21 h_21 => ?_)
  obtain ⟨g2, a2⟩ := h_21
  refine j_aload_n dX7_removeScene_24 rfl ?_
  refine j_cVi dX7_removeScene_25 hB mo_X2_scenes ml_X7_64 (sp_X2_scenes hB g2) (by first | exact h.k | exact hs.1 | exact hr.1 | exact hr.2.2.2.2.2.1.1 | exact hr.2.2.2.2.2.2.1.1 | exact hs.2.2.2.2.1.1 | exact hs.2.2.2.2.2.1.1 | exact hs.2.2.2.2.2.2.1.1) rfl rfl rfl rfl ⟨rfl, rfl, by decide, by decide⟩ (Nat.le_of_ble_eq_true rfl) ⟨by decide, by decide⟩ (fun r_25 V_25 h_25 => ?_)
  obtain ⟨rfl, hn2⟩ := h_25
  have hl := h_3.2.2
  rw [List.length_eraseIdx_of_lt (by show _ < (sR x.1 r.toInt).1.length; unfold xR at hl; omega)] at hn2
  have hn2 : r_25.toInt = (((sR x.1 r.toInt).1.length - 1 : Nat) : Int) := hn2
  refine j_iret dX7_removeScene_28 rfl (rfl) (by decide) (by decide) ?_
  have h7 := gS.setR' a2 g2
  exact qC.ret (by show e_rem x r s = 0; unfold e_rem; exact (if_neg (fun z => z h_3))) ⟨_, rfl, by rw [hn2]; unfold v_rem; unfold xR at hl ⊢; omega⟩ (aS.tr h7.2) h7.1
set_option maxRecDepth 100000 in
set_option maxHeartbeats 4000000 in
theorem sp_X7_crank (hB : jB l s0 D) {q : Nat} {x : aX} {r f v : Int32} (h : cuIs T V q x) (hW : xW x) : Sp l s0 D kX7_crank (jR 8 4 24) 4 24 [.ref q, .int r, .int f, .int v] T V X sz (qC T V X sz q (e_crank x r f v) [IO, IA, IS] (pInt (v_crank x r f v)) x (s_crank x r f v)) := by
  refine Sp.of pn_X7_crank rfl (Nat.le_of_ble_eq_true rfl) ?_
  have hs := h.st
  have hr := hs.reel r.toInt
  have hrl := hW.1.r r.toInt
  refine j_aload_n dX7_crank_0 rfl ?_
  refine j_iload_n dX7_crank_1 rfl ?_
  refine j_tV dX7_crank_2 hB mo_X7_requireReel ml_X7_53 (sp_X7_requireReel hB) (by first | exact h.k | exact hs.1 | exact hr.1 | exact hr.2.2.2.2.2.1.1 | exact hr.2.2.2.2.2.2.1.1 | exact hs.2.2.2.2.1.1 | exact hs.2.2.2.2.2.1.1 | exact hs.2.2.2.2.2.2.1.1) rfl rfl rfl rfl ⟨rfl, rfl, by decide, by decide⟩ (Nat.le_of_ble_eq_true rfl) ⟨by decide, by decide⟩ rfl ⟨by decide, by decide⟩ (fun E V_2 sz_2 hz hx => by obtain ⟨rfl, rfl, hn⟩ := hx; exact qC.thr 0 hz rfl (by show e_crank x r f v = 1; unfold e_crank; exact (if_pos hn)) jAg.rf h) (fun v_2 V_2 h_2 => ?_)
  obtain ⟨rfl, rfl, h_2⟩ := h_2
  refine j_iload_n dX7_crank_5 rfl ?_
  refine j_iconst (v := 0) dX7_crank_6 (by decide) ?_
  refine j_sipush (v := 9000) dX7_crank_7 (by decide) ?_
  refine j_tS dX7_crank_10 hB mo_X7_requireRange ml_X7_56 (sp_X7_requireRange hB) rfl rfl ⟨rfl, rfl, by decide, by decide⟩ (Nat.le_of_ble_eq_true rfl) ⟨by decide, by decide⟩ rfl ⟨by decide, by decide⟩ (fun E V_10 sz_10 hz hx => by obtain ⟨rfl, rfl, hn⟩ := hx; exact qC.thr 1 hz rfl (by show e_crank x r f v = 2; unfold e_crank; exact ((if_neg (fun z => z h_2)).trans (if_pos (fun z => hn z.1)))) jAg.rf h) (fun v_10 V_10 h_10 => ?_)
  obtain ⟨rfl, rfl, h_10⟩ := h_10
  have h_10 : inR f 0 9000 := h_10
  refine j_iload_n dX7_crank_13 rfl ?_
  refine j_bipush (v := 10) dX7_crank_14 (by decide) ?_
  refine j_bipush (v := 30) dX7_crank_16 (by decide) ?_
  refine j_tS dX7_crank_18 hB mo_X7_requireRange ml_X7_56 (sp_X7_requireRange hB) rfl rfl ⟨rfl, rfl, by decide, by decide⟩ (Nat.le_of_ble_eq_true rfl) ⟨by decide, by decide⟩ rfl ⟨by decide, by decide⟩ (fun E V_18 sz_18 hz hx => by obtain ⟨rfl, rfl, hn⟩ := hx; exact qC.thr 1 hz rfl (by show e_crank x r f v = 2; unfold e_crank; exact ((if_neg (fun z => z h_2)).trans (if_pos (fun z => hn z.2)))) jAg.rf h) (fun v_18 V_18 h_18 => ?_)
  obtain ⟨rfl, rfl, h_18⟩ := h_18
  have h_18 : inR v 10 30 := h_18
  refine j_aload_n dX7_crank_21 rfl ?_
  refine j_getr dX7_crank_22 hB fl_X7_10 (by first | exact h.k | exact hs.1 | exact hr.1 | exact hr.2.2.2.2.2.1.1 | exact hr.2.2.2.2.2.2.1.1 | exact hs.2.2.2.2.1.1 | exact hs.2.2.2.2.2.1.1 | exact hs.2.2.2.2.2.2.1.1) (by rfl) ?_
  refine j_iload_n dX7_crank_25 rfl ?_
  refine j_cVa dX7_crank_26 hB mo_X5_reelAt ml_X7_60 (sp_X5_reelAt hB hs) (by first | exact h.k | exact hs.1 | exact hr.1 | exact hr.2.2.2.2.2.1.1 | exact hr.2.2.2.2.2.2.1.1 | exact hs.2.2.2.2.1.1 | exact hs.2.2.2.2.2.1.1 | exact hs.2.2.2.2.2.2.1.1) rfl rfl rfl rfl ⟨rfl, rfl, by decide, by decide⟩ (Nat.le_of_ble_eq_true rfl) ⟨by decide, by decide⟩ (fun r_26 V_26 h_26 => ?_)
  obtain ⟨rfl, hq⟩ := h_26
  subst hq
  refine j_getr dX7_crank_29 hB fl_X7_92 (by first | exact h.k | exact hs.1 | exact hr.1 | exact hr.2.2.2.2.2.1.1 | exact hr.2.2.2.2.2.2.1.1 | exact hs.2.2.2.2.1.1 | exact hs.2.2.2.2.2.1.1 | exact hs.2.2.2.2.2.2.1.1) (by rfl) ?_
  refine j_astore (L' := [(0, _), (1, _), (2, _), (3, _), (4, _)]) dX7_crank_32 (by decide) rfl ?_
  refine j_aload dX7_crank_34 rfl ?_
  refine j_iload_n dX7_crank_36 rfl ?_
  refine j_cVi dX7_crank_37 hB mo_X1_hasRoomFor ml_X7_96 (sp_X1_hasRoomFor hB hr.2.2.2.2.2.1) (by first | exact h.k | exact hs.1 | exact hr.1 | exact hr.2.2.2.2.2.1.1 | exact hr.2.2.2.2.2.2.1.1 | exact hs.2.2.2.2.1.1 | exact hs.2.2.2.2.2.1.1 | exact hs.2.2.2.2.2.2.1.1) rfl rfl rfl rfl ⟨rfl, rfl, by decide, by decide⟩ (Nat.le_of_ble_eq_true rfl) ⟨by decide, by decide⟩ (fun r_37 V_37 h_37 => ?_)
  obtain ⟨rfl, hc⟩ := h_37
  refine j_if_ne (tgt := 53) dX7_crank_40 (by decide) (fun c_40 => ?_) (fun c_40 => ?_)
  · have hroom : (sR x.1 r.toInt).2.2.2.2.1.length < 6 ∨ pHas (sR x.1 r.toInt).2.2.2.2.1 f := by rcases hc with ⟨_, z⟩ | ⟨z, _⟩; (exact z); exact absurd z c_40
    refine j_aload_n dX7_crank_53 rfl ?_
    refine j_cVu dX7_crank_54 hB mo_X7_save ml_X7_77 (sp_X7_save hB h) (by first | exact h.k | exact hs.1 | exact hr.1 | exact hr.2.2.2.2.2.1.1 | exact hr.2.2.2.2.2.2.1.1 | exact hs.2.2.2.2.1.1 | exact hs.2.2.2.2.2.1.1 | exact hs.2.2.2.2.2.2.1.1) rfl rfl rfl rfl ⟨rfl, rfl, by decide, by decide⟩ (Nat.le_of_ble_eq_true rfl) ⟨by decide, by decide⟩ (fun V_54 h_54 => ?_)
    obtain ⟨gS, aS⟩ := h_54
    have aS := aS.wide (hi' := q + 492) (Nat.le_refl q) (by omega)
    refine j_aload dX7_crank_57 rfl ?_
    refine j_iload_n dX7_crank_59 rfl ?_
    refine j_iload_n dX7_crank_60 rfl ?_
    refine j_cVu dX7_crank_61 hB mo_X1_mark ml_X7_104 (sp_X1_mark hB (gS.st.reel r.toInt).2.2.2.2.2.1 hroom) (by first | exact h.k | exact hs.1 | exact hr.1 | exact hr.2.2.2.2.2.1.1 | exact hr.2.2.2.2.2.2.1.1 | exact hs.2.2.2.2.1.1 | exact hs.2.2.2.2.2.1.1 | exact hs.2.2.2.2.2.2.1.1) rfl rfl rfl rfl ⟨rfl, rfl, by decide, by decide⟩ (Nat.le_of_ble_eq_true rfl) ⟨by decide, by decide⟩ (fun V_61 h_61 => ?_)
    obtain ⟨g2, a2⟩ := h_61
    refine j_aload dX7_crank_64 rfl ?_
    refine j_cVi dX7_crank_66 hB mo_X1_size ml_X7_107 (sp_X1_size hB g2) (by first | exact h.k | exact hs.1 | exact hr.1 | exact hr.2.2.2.2.2.1.1 | exact hr.2.2.2.2.2.2.1.1 | exact hs.2.2.2.2.1.1 | exact hs.2.2.2.2.2.1.1 | exact hs.2.2.2.2.2.2.1.1) rfl rfl rfl rfl ⟨rfl, rfl, by decide, by decide⟩ (Nat.le_of_ble_eq_true rfl) ⟨by decide, by decide⟩ (fun r_66 V_66 h_66 => ?_)
    obtain ⟨rfl, hn2⟩ := h_66
    refine j_iret dX7_crank_69 rfl (rfl) (by decide) (by decide) ?_
    have a3 := a2.wide (lo' := reelA (q + 1) r.toInt) (hi' := reelA (q + 1) r.toInt + 19) (by omega) (by omega)
    have h7 := gS.setR' a3 ((gS.st.reel r.toInt).sp a2 g2)
    exact qC.ret (by show e_crank x r f v = 0; unfold e_crank; exact ((if_neg (fun z => z h_2)).trans ((if_neg (fun z => z ⟨h_10, h_18⟩)).trans (if_neg (fun z => z hroom))))) ⟨_, rfl, hn2⟩ (aS.tr h7.2) h7.1
  · have hroom : ¬ ((sR x.1 r.toInt).2.2.2.2.1.length < 6 ∨ pHas (sR x.1 r.toInt).2.2.2.2.1 f) := by rcases hc with ⟨z, _⟩ | ⟨_, z⟩; (rw [c_40] at z; exact absurd z (by decide)); exact z
    refine j_throw dX7_crank_43 dX7_crank_46 dX7_crank_47 dX7_crank_49 dX7_crank_52 hB rfl th_X7_crank_43 (by decide) (Nat.le_of_ble_eq_true rfl) (by decide) (by decide) (by decide) (by decide) ?_
    exact fun sz1 hz => qC.thr 2 hz rfl (by show e_crank x r f v = 3; unfold e_crank; exact ((if_neg (fun z => z h_2)).trans ((if_neg (fun z => z ⟨h_10, h_18⟩)).trans (if_pos hroom)))) jAg.rf h
set_option maxRecDepth 100000 in
set_option maxHeartbeats 4000000 in
theorem sp_X7_splice (hB : jB l s0 D) {q : Nat} {x : aX} {r f v : Int32} (h : cuIs T V q x) (hW : xW x) : Sp l s0 D kX7_splice (jR 8 4 24) 4 24 [.ref q, .int r, .int f, .int v] T V X sz (qC T V X sz q (e_spl x r f v) [IO, IA, IS] (pInt (v_spl x r f v)) x (s_spl x r f v)) := by
  refine Sp.of pn_X7_splice rfl (Nat.le_of_ble_eq_true rfl) ?_
  have hs := h.st
  have hr := hs.reel r.toInt
  have hrl := hW.1.r r.toInt
  refine j_aload_n dX7_splice_0 rfl ?_
  refine j_iload_n dX7_splice_1 rfl ?_
  refine j_tV dX7_splice_2 hB mo_X7_requireReel ml_X7_53 (sp_X7_requireReel hB) (by first | exact h.k | exact hs.1 | exact hr.1 | exact hr.2.2.2.2.2.1.1 | exact hr.2.2.2.2.2.2.1.1 | exact hs.2.2.2.2.1.1 | exact hs.2.2.2.2.2.1.1 | exact hs.2.2.2.2.2.2.1.1) rfl rfl rfl rfl ⟨rfl, rfl, by decide, by decide⟩ (Nat.le_of_ble_eq_true rfl) ⟨by decide, by decide⟩ rfl ⟨by decide, by decide⟩ (fun E V_2 sz_2 hz hx => by obtain ⟨rfl, rfl, hn⟩ := hx; exact qC.thr 0 hz rfl (by show e_spl x r f v = 1; unfold e_spl; exact (if_pos hn)) jAg.rf h) (fun v_2 V_2 h_2 => ?_)
  obtain ⟨rfl, rfl, h_2⟩ := h_2
  refine j_iload_n dX7_splice_5 rfl ?_
  refine j_iconst (v := 0) dX7_splice_6 (by decide) ?_
  refine j_sipush (v := 9000) dX7_splice_7 (by decide) ?_
  refine j_tS dX7_splice_10 hB mo_X7_requireRange ml_X7_56 (sp_X7_requireRange hB) rfl rfl ⟨rfl, rfl, by decide, by decide⟩ (Nat.le_of_ble_eq_true rfl) ⟨by decide, by decide⟩ rfl ⟨by decide, by decide⟩ (fun E V_10 sz_10 hz hx => by obtain ⟨rfl, rfl, hn⟩ := hx; exact qC.thr 1 hz rfl (by show e_spl x r f v = 2; unfold e_spl; exact ((if_neg (fun z => z h_2)).trans (if_pos (fun z => hn z.1)))) jAg.rf h) (fun v_10 V_10 h_10 => ?_)
  obtain ⟨rfl, rfl, h_10⟩ := h_10
  have h_10 : inR f 0 9000 := h_10
  refine j_iload_n dX7_splice_13 rfl ?_
  refine j_iconst (v := 0) dX7_splice_14 (by decide) ?_
  refine j_bipush (v := 50) dX7_splice_15 (by decide) ?_
  refine j_tS dX7_splice_17 hB mo_X7_requireRange ml_X7_56 (sp_X7_requireRange hB) rfl rfl ⟨rfl, rfl, by decide, by decide⟩ (Nat.le_of_ble_eq_true rfl) ⟨by decide, by decide⟩ rfl ⟨by decide, by decide⟩ (fun E V_17 sz_17 hz hx => by obtain ⟨rfl, rfl, hn⟩ := hx; exact qC.thr 1 hz rfl (by show e_spl x r f v = 2; unfold e_spl; exact ((if_neg (fun z => z h_2)).trans (if_pos (fun z => hn z.2)))) jAg.rf h) (fun v_17 V_17 h_17 => ?_)
  obtain ⟨rfl, rfl, h_17⟩ := h_17
  have h_17 : inR v 0 50 := h_17
  refine j_aload_n dX7_splice_20 rfl ?_
  refine j_getr dX7_splice_21 hB fl_X7_10 (by first | exact h.k | exact hs.1 | exact hr.1 | exact hr.2.2.2.2.2.1.1 | exact hr.2.2.2.2.2.2.1.1 | exact hs.2.2.2.2.1.1 | exact hs.2.2.2.2.2.1.1 | exact hs.2.2.2.2.2.2.1.1) (by rfl) ?_
  refine j_iload_n dX7_splice_24 rfl ?_
  refine j_cVa dX7_splice_25 hB mo_X5_reelAt ml_X7_60 (sp_X5_reelAt hB hs) (by first | exact h.k | exact hs.1 | exact hr.1 | exact hr.2.2.2.2.2.1.1 | exact hr.2.2.2.2.2.2.1.1 | exact hs.2.2.2.2.1.1 | exact hs.2.2.2.2.2.1.1 | exact hs.2.2.2.2.2.2.1.1) rfl rfl rfl rfl ⟨rfl, rfl, by decide, by decide⟩ (Nat.le_of_ble_eq_true rfl) ⟨by decide, by decide⟩ (fun r_25 V_25 h_25 => ?_)
  obtain ⟨rfl, hq⟩ := h_25
  subst hq
  refine j_getr dX7_splice_28 hB fl_X7_110 (by first | exact h.k | exact hs.1 | exact hr.1 | exact hr.2.2.2.2.2.1.1 | exact hr.2.2.2.2.2.2.1.1 | exact hs.2.2.2.2.1.1 | exact hs.2.2.2.2.2.1.1 | exact hs.2.2.2.2.2.2.1.1) (by rfl) ?_
  refine j_astore (L' := [(0, _), (1, _), (2, _), (3, _), (4, _)]) dX7_splice_31 (by decide) rfl ?_
  refine j_iload_n dX7_splice_33 rfl ?_
  refine j_if_eq (tgt := 56) dX7_splice_34 (by decide) (fun c_34 => ?_) (fun c_34 => ?_)
  · have hroom : ¬ (¬ v = 0 ∧ ¬ ((sR x.1 r.toInt).2.2.2.2.2.length < 6 ∨ pHas (sR x.1 r.toInt).2.2.2.2.2 f)) := fun z => z.1 c_34
    refine j_aload_n dX7_splice_56 rfl ?_
    refine j_cVu dX7_splice_57 hB mo_X7_save ml_X7_77 (sp_X7_save hB h) (by first | exact h.k | exact hs.1 | exact hr.1 | exact hr.2.2.2.2.2.1.1 | exact hr.2.2.2.2.2.2.1.1 | exact hs.2.2.2.2.1.1 | exact hs.2.2.2.2.2.1.1 | exact hs.2.2.2.2.2.2.1.1) rfl rfl rfl rfl ⟨rfl, rfl, by decide, by decide⟩ (Nat.le_of_ble_eq_true rfl) ⟨by decide, by decide⟩ (fun V_57 h_57 => ?_)
    obtain ⟨gS, aS⟩ := h_57
    have aS := aS.wide (hi' := q + 492) (Nat.le_refl q) (by omega)
    refine j_iload_n dX7_splice_60 rfl ?_
    refine j_if_ne (tgt := 73) dX7_splice_61 (by decide) (fun c_61 => ?_) (fun c_61 => ?_)
    · exact absurd c_34 c_61
    · refine j_aload dX7_splice_64 rfl ?_
      refine j_iload_n dX7_splice_66 rfl ?_
      refine j_cVu dX7_splice_67 hB mo_X1_unmark ml_X7_115 (sp_X1_unmark hB (gS.st.reel r.toInt).2.2.2.2.2.2.1) (by first | exact h.k | exact hs.1 | exact hr.1 | exact hr.2.2.2.2.2.1.1 | exact hr.2.2.2.2.2.2.1.1 | exact hs.2.2.2.2.1.1 | exact hs.2.2.2.2.2.1.1 | exact hs.2.2.2.2.2.2.1.1) rfl rfl rfl rfl ⟨rfl, rfl, by decide, by decide⟩ (Nat.le_of_ble_eq_true rfl) ⟨by decide, by decide⟩ (fun V_67 h_67 => ?_)
      obtain ⟨g2, a2⟩ := h_67
      refine j_goto (tgt := 80) dX7_splice_70 (by decide) ?_
      refine j_aload dX7_splice_80 rfl ?_
      refine j_cVi dX7_splice_82 hB mo_X1_size ml_X7_107 (sp_X1_size hB g2) (by first | exact h.k | exact hs.1 | exact hr.1 | exact hr.2.2.2.2.2.1.1 | exact hr.2.2.2.2.2.2.1.1 | exact hs.2.2.2.2.1.1 | exact hs.2.2.2.2.2.1.1 | exact hs.2.2.2.2.2.2.1.1) rfl rfl rfl rfl ⟨rfl, rfl, by decide, by decide⟩ (Nat.le_of_ble_eq_true rfl) ⟨by decide, by decide⟩ (fun r_82 V_82 h_82 => ?_)
      obtain ⟨rfl, hn2⟩ := h_82
      refine j_iret dX7_splice_85 rfl (rfl) (by decide) (by decide) ?_
      have a3 := a2.wide (lo' := reelA (q + 1) r.toInt) (hi' := reelA (q + 1) r.toInt + 19) (by omega) (by omega)
      have h7 := gS.setR' a3 ((gS.st.reel r.toInt).sl a2 g2)
      have hxs : xSpl x r f v = _ := if_pos c_34
      exact qC.ret (by show e_spl x r f v = 0; unfold e_spl; exact ((if_neg (fun z => z h_2)).trans ((if_neg (fun z => z ⟨h_10, h_17⟩)).trans (if_neg (fun z => hroom z))))) ⟨_, rfl, by unfold v_spl; rw [hxs]; exact hn2⟩ (aS.tr h7.2) (by unfold s_spl; rw [hxs]; exact h7.1)
  · refine j_aload dX7_splice_37 rfl ?_
    refine j_iload_n dX7_splice_39 rfl ?_
    refine j_cVi dX7_splice_40 hB mo_X1_hasRoomFor ml_X7_96 (sp_X1_hasRoomFor hB hr.2.2.2.2.2.2.1) (by first | exact h.k | exact hs.1 | exact hr.1 | exact hr.2.2.2.2.2.1.1 | exact hr.2.2.2.2.2.2.1.1 | exact hs.2.2.2.2.1.1 | exact hs.2.2.2.2.2.1.1 | exact hs.2.2.2.2.2.2.1.1) rfl rfl rfl rfl ⟨rfl, rfl, by decide, by decide⟩ (Nat.le_of_ble_eq_true rfl) ⟨by decide, by decide⟩ (fun r_40 V_40 h_40 => ?_)
    obtain ⟨rfl, hc⟩ := h_40
    refine j_if_ne (tgt := 56) dX7_splice_43 (by decide) (fun c_43 => ?_) (fun c_43 => ?_)
    · have hroom0 : (sR x.1 r.toInt).2.2.2.2.2.length < 6 ∨ pHas (sR x.1 r.toInt).2.2.2.2.2 f := by rcases hc with ⟨_, z⟩ | ⟨z, _⟩; (exact z); exact absurd z c_43
      have hroom : ¬ (¬ v = 0 ∧ ¬ ((sR x.1 r.toInt).2.2.2.2.2.length < 6 ∨ pHas (sR x.1 r.toInt).2.2.2.2.2 f)) := fun z => z.2 hroom0
      refine j_aload_n dX7_splice_56 rfl ?_
      refine j_cVu dX7_splice_57 hB mo_X7_save ml_X7_77 (sp_X7_save hB h) (by first | exact h.k | exact hs.1 | exact hr.1 | exact hr.2.2.2.2.2.1.1 | exact hr.2.2.2.2.2.2.1.1 | exact hs.2.2.2.2.1.1 | exact hs.2.2.2.2.2.1.1 | exact hs.2.2.2.2.2.2.1.1) rfl rfl rfl rfl ⟨rfl, rfl, by decide, by decide⟩ (Nat.le_of_ble_eq_true rfl) ⟨by decide, by decide⟩ (fun V_57 h_57 => ?_)
      obtain ⟨gS, aS⟩ := h_57
      have aS := aS.wide (hi' := q + 492) (Nat.le_refl q) (by omega)
      refine j_iload_n dX7_splice_60 rfl ?_
      refine j_if_ne (tgt := 73) dX7_splice_61 (by decide) (fun c_61 => ?_) (fun c_61 => ?_)
      · refine j_aload dX7_splice_73 rfl ?_
        refine j_iload_n dX7_splice_75 rfl ?_
        refine j_iload_n dX7_splice_76 rfl ?_
        refine j_cVu dX7_splice_77 hB mo_X1_mark ml_X7_104 (sp_X1_mark hB (gS.st.reel r.toInt).2.2.2.2.2.2.1 hroom0) (by first | exact h.k | exact hs.1 | exact hr.1 | exact hr.2.2.2.2.2.1.1 | exact hr.2.2.2.2.2.2.1.1 | exact hs.2.2.2.2.1.1 | exact hs.2.2.2.2.2.1.1 | exact hs.2.2.2.2.2.2.1.1) rfl rfl rfl rfl ⟨rfl, rfl, by decide, by decide⟩ (Nat.le_of_ble_eq_true rfl) ⟨by decide, by decide⟩ (fun V_77 h_77 => ?_)
        obtain ⟨g2, a2⟩ := h_77
        refine j_aload dX7_splice_80 rfl ?_
        refine j_cVi dX7_splice_82 hB mo_X1_size ml_X7_107 (sp_X1_size hB g2) (by first | exact h.k | exact hs.1 | exact hr.1 | exact hr.2.2.2.2.2.1.1 | exact hr.2.2.2.2.2.2.1.1 | exact hs.2.2.2.2.1.1 | exact hs.2.2.2.2.2.1.1 | exact hs.2.2.2.2.2.2.1.1) rfl rfl rfl rfl ⟨rfl, rfl, by decide, by decide⟩ (Nat.le_of_ble_eq_true rfl) ⟨by decide, by decide⟩ (fun r_82 V_82 h_82 => ?_)
        obtain ⟨rfl, hn2⟩ := h_82
        refine j_iret dX7_splice_85 rfl (rfl) (by decide) (by decide) ?_
        have a3 := a2.wide (lo' := reelA (q + 1) r.toInt) (hi' := reelA (q + 1) r.toInt + 19) (by omega) (by omega)
        have h7 := gS.setR' a3 ((gS.st.reel r.toInt).sl a2 g2)
        have hxs : xSpl x r f v = _ := if_neg c_34
        exact qC.ret (by show e_spl x r f v = 0; unfold e_spl; exact ((if_neg (fun z => z h_2)).trans ((if_neg (fun z => z ⟨h_10, h_17⟩)).trans (if_neg (fun z => hroom z))))) ⟨_, rfl, by unfold v_spl; rw [hxs]; exact hn2⟩ (aS.tr h7.2) (by unfold s_spl; rw [hxs]; exact h7.1)
      · exact absurd c_61 c_34
    · have hroom : ¬ ((sR x.1 r.toInt).2.2.2.2.2.length < 6 ∨ pHas (sR x.1 r.toInt).2.2.2.2.2 f) := by rcases hc with ⟨z, _⟩ | ⟨_, z⟩; (rw [c_43] at z; exact absurd z (by decide)); exact z
      refine j_throw dX7_splice_46 dX7_splice_49 dX7_splice_50 dX7_splice_52 dX7_splice_55 hB rfl th_X7_splice_46 (by decide) (Nat.le_of_ble_eq_true rfl) (by decide) (by decide) (by decide) (by decide) ?_
      exact fun sz1 hz => qC.thr 2 hz rfl (by show e_spl x r f v = 3; unfold e_spl; exact ((if_neg (fun z => z h_2)).trans ((if_neg (fun z => z ⟨h_10, h_17⟩)).trans (if_pos ⟨c_34, hroom⟩)))) jAg.rf h
set_option maxRecDepth 100000 in
set_option maxHeartbeats 4000000 in
theorem sp_X7_addPiece (hB : jB l s0 D) {q : Nat} {x : aX} {a b c : Int32} (h : cuIs T V q x) (hW : xW x) : Sp l s0 D kX7_addPiece (jR 8 4 24) 4 24 [.ref q, .int a, .int b, .int c] T V X sz (qC T V X sz q (e_pc x a b c) [IA, IS] (pInt (v_pc x)) x (s_pc x a b c)) := by
  refine Sp.of pn_X7_addPiece rfl (Nat.le_of_ble_eq_true rfl) ?_
  have hs := h.st
  have k8 : (8 : Int32).toInt = 8 := by decide
  have hl1 := hW.1.1.1
  have hl2 := hW.1.1.2.1
  have hl8 := hW.1.2.2.1
  refine j_iload_n dX7_addPiece_0 rfl ?_
  refine j_iconst (v := 0) dX7_addPiece_1 (by decide) ?_
  refine j_sipush (v := 600) dX7_addPiece_2 (by decide) ?_
  refine j_tS dX7_addPiece_5 hB mo_X7_requireRange ml_X7_56 (sp_X7_requireRange hB) rfl rfl ⟨rfl, rfl, by decide, by decide⟩ (Nat.le_of_ble_eq_true rfl) ⟨by decide, by decide⟩ rfl ⟨by decide, by decide⟩ (fun E V_5 sz_5 hz hx => by obtain ⟨rfl, rfl, hn⟩ := hx; exact qC.thr 0 hz rfl (by show e_pc x a b c = 1; unfold e_pc; exact (if_pos (fun z => hn z.1))) jAg.rf h) (fun v_5 V_5 h_5 => ?_)
  obtain ⟨rfl, rfl, h_5⟩ := h_5
  have h_5 : inR a 0 600 := h_5
  refine j_iload_n dX7_addPiece_8 rfl ?_
  refine j_bipush (v := 10) dX7_addPiece_9 (by decide) ?_
  refine j_sipush (v := 1200) dX7_addPiece_11 (by decide) ?_
  refine j_tS dX7_addPiece_14 hB mo_X7_requireRange ml_X7_56 (sp_X7_requireRange hB) rfl rfl ⟨rfl, rfl, by decide, by decide⟩ (Nat.le_of_ble_eq_true rfl) ⟨by decide, by decide⟩ rfl ⟨by decide, by decide⟩ (fun E V_14 sz_14 hz hx => by obtain ⟨rfl, rfl, hn⟩ := hx; exact qC.thr 0 hz rfl (by show e_pc x a b c = 1; unfold e_pc; exact (if_pos (fun z => hn z.2.1))) jAg.rf h) (fun v_14 V_14 h_14 => ?_)
  obtain ⟨rfl, rfl, h_14⟩ := h_14
  have h_14 : inR b 10 1200 := h_14
  refine j_iload_n dX7_addPiece_17 rfl ?_
  refine j_iconst (v := 0) dX7_addPiece_18 (by decide) ?_
  refine j_sipush (v := 600) dX7_addPiece_19 (by decide) ?_
  refine j_tS dX7_addPiece_22 hB mo_X7_requireRange ml_X7_56 (sp_X7_requireRange hB) rfl rfl ⟨rfl, rfl, by decide, by decide⟩ (Nat.le_of_ble_eq_true rfl) ⟨by decide, by decide⟩ rfl ⟨by decide, by decide⟩ (fun E V_22 sz_22 hz hx => by obtain ⟨rfl, rfl, hn⟩ := hx; exact qC.thr 0 hz rfl (by show e_pc x a b c = 1; unfold e_pc; exact (if_pos (fun z => hn z.2.2))) jAg.rf h) (fun v_22 V_22 h_22 => ?_)
  obtain ⟨rfl, rfl, h_22⟩ := h_22
  have h_22 : inR c 0 600 := h_22
  refine j_aload_n dX7_addPiece_25 rfl ?_
  refine j_getr dX7_addPiece_26 hB fl_X7_10 (by first | exact h.k | exact hs.1 | exact hr.1 | exact hr.2.2.2.2.2.1.1 | exact hr.2.2.2.2.2.2.1.1 | exact hs.2.2.2.2.1.1 | exact hs.2.2.2.2.2.1.1 | exact hs.2.2.2.2.2.2.1.1) (by rfl) ?_
  refine j_cVi dX7_addPiece_29 hB mo_X5_pieces ml_X7_118 (sp_X5_pieces hB hs) (by first | exact h.k | exact hs.1 | exact hr.1 | exact hr.2.2.2.2.2.1.1 | exact hr.2.2.2.2.2.2.1.1 | exact hs.2.2.2.2.1.1 | exact hs.2.2.2.2.2.1.1 | exact hs.2.2.2.2.2.2.1.1) rfl rfl rfl rfl ⟨rfl, rfl, by decide, by decide⟩ (Nat.le_of_ble_eq_true rfl) ⟨by decide, by decide⟩ (fun r_29 V_29 h_29 => ?_)
  obtain ⟨rfl, hn⟩ := h_29
  refine j_bipush (v := 8) dX7_addPiece_32 (by decide) ?_
  refine j_icmp_lt (tgt := 47) dX7_addPiece_34 (by decide) (fun c_34 => ?_) (fun c_34 => ?_)
  · refine j_aload_n dX7_addPiece_47 rfl ?_
    refine j_cVu dX7_addPiece_48 hB mo_X7_save ml_X7_77 (sp_X7_save hB h) (by first | exact h.k | exact hs.1 | exact hr.1 | exact hr.2.2.2.2.2.1.1 | exact hr.2.2.2.2.2.2.1.1 | exact hs.2.2.2.2.1.1 | exact hs.2.2.2.2.2.1.1 | exact hs.2.2.2.2.2.2.1.1) rfl rfl rfl rfl ⟨rfl, rfl, by decide, by decide⟩ (Nat.le_of_ble_eq_true rfl) ⟨by decide, by decide⟩ (fun V_48 h_48 => ?_)
    obtain ⟨gS, aS⟩ := h_48
    have aS := aS.wide (hi' := q + 492) (Nat.le_refl q) (by omega)
    refine j_aload_n dX7_addPiece_51 rfl ?_
    refine j_getr dX7_addPiece_52 hB fl_X7_10 (by first | exact h.k | exact hs.1 | exact hr.1 | exact hr.2.2.2.2.2.1.1 | exact hr.2.2.2.2.2.2.1.1 | exact hs.2.2.2.2.1.1 | exact hs.2.2.2.2.2.1.1 | exact hs.2.2.2.2.2.2.1.1) (by rfl) ?_
    refine j_getr dX7_addPiece_55 hB fl_X7_123 (by first | exact h.k | exact hs.1 | exact hr.1 | exact hr.2.2.2.2.2.1.1 | exact hr.2.2.2.2.2.2.1.1 | exact hs.2.2.2.2.1.1 | exact hs.2.2.2.2.2.1.1 | exact hs.2.2.2.2.2.2.1.1) (by rfl) ?_
    refine j_iload_n dX7_addPiece_58 rfl ?_
    refine j_cVu dX7_addPiece_59 hB mo_X3_add ml_X7_126 (sp_X3_add hB gS.st.2.2.2.2.1) (by first | exact h.k | exact hs.1 | exact hr.1 | exact hr.2.2.2.2.2.1.1 | exact hr.2.2.2.2.2.2.1.1 | exact hs.2.2.2.2.1.1 | exact hs.2.2.2.2.2.1.1 | exact hs.2.2.2.2.2.2.1.1) rfl rfl rfl rfl ⟨rfl, rfl, by decide, by decide⟩ (Nat.le_of_ble_eq_true rfl) ⟨by decide, by decide⟩ (fun V_59 h_59 => ?_)
    obtain ⟨g1, f1, a1⟩ := h_59
    rw [gS.st.2.2.2.2.2.2.2.1, if_pos (by show x.1.2.1.1.length < 8; omega)] at f1
    refine j_aload_n dX7_addPiece_62 rfl ?_
    refine j_getr dX7_addPiece_63 hB fl_X7_10 (by first | exact h.k | exact hs.1 | exact hr.1 | exact hr.2.2.2.2.2.1.1 | exact hr.2.2.2.2.2.2.1.1 | exact hs.2.2.2.2.1.1 | exact hs.2.2.2.2.2.1.1 | exact hs.2.2.2.2.2.2.1.1) (by rfl) ?_
    refine j_getr dX7_addPiece_66 hB fl_X7_129 (by first | exact h.k | exact hs.1 | exact hr.1 | exact hr.2.2.2.2.2.1.1 | exact hr.2.2.2.2.2.2.1.1 | exact hs.2.2.2.2.1.1 | exact hs.2.2.2.2.2.1.1 | exact hs.2.2.2.2.2.2.1.1) (by rfl) ?_
    refine j_iload_n dX7_addPiece_69 rfl ?_
    refine j_cVu dX7_addPiece_70 hB mo_X3_add ml_X7_126 (sp_X3_add hB (gS.st.2.2.2.2.2.1.ag a1 (by omega))) (by first | exact h.k | exact hs.1 | exact hr.1 | exact hr.2.2.2.2.2.1.1 | exact hr.2.2.2.2.2.2.1.1 | exact hs.2.2.2.2.1.1 | exact hs.2.2.2.2.2.1.1 | exact hs.2.2.2.2.2.2.1.1) rfl rfl rfl rfl ⟨rfl, rfl, by decide, by decide⟩ (Nat.le_of_ble_eq_true rfl) ⟨by decide, by decide⟩ (fun V_70 h_70 => ?_)
    obtain ⟨g2, f2, a2⟩ := h_70
    rw [Rw_ag a1 (by omega), gS.st.2.2.2.2.2.2.2.2.1, if_pos (by show x.1.2.1.2.1.length < 8; omega)] at f2
    refine j_aload_n dX7_addPiece_73 rfl ?_
    refine j_getr dX7_addPiece_74 hB fl_X7_10 (by first | exact h.k | exact hs.1 | exact hr.1 | exact hr.2.2.2.2.2.1.1 | exact hr.2.2.2.2.2.2.1.1 | exact hs.2.2.2.2.1.1 | exact hs.2.2.2.2.2.1.1 | exact hs.2.2.2.2.2.2.1.1) (by rfl) ?_
    refine j_getr dX7_addPiece_77 hB fl_X7_132 (by first | exact h.k | exact hs.1 | exact hr.1 | exact hr.2.2.2.2.2.1.1 | exact hr.2.2.2.2.2.2.1.1 | exact hs.2.2.2.2.1.1 | exact hs.2.2.2.2.2.1.1 | exact hs.2.2.2.2.2.2.1.1) (by rfl) ?_
    refine j_iload_n dX7_addPiece_80 rfl ?_
    refine j_cVu dX7_addPiece_81 hB mo_X3_add ml_X7_126 (sp_X3_add hB ((gS.st.2.2.2.2.2.2.1.ag a1 (by omega)).ag a2 (by omega))) (by first | exact h.k | exact hs.1 | exact hr.1 | exact hr.2.2.2.2.2.1.1 | exact hr.2.2.2.2.2.2.1.1 | exact hs.2.2.2.2.1.1 | exact hs.2.2.2.2.2.1.1 | exact hs.2.2.2.2.2.2.1.1) rfl rfl rfl rfl ⟨rfl, rfl, by decide, by decide⟩ (Nat.le_of_ble_eq_true rfl) ⟨by decide, by decide⟩ (fun V_81 h_81 => ?_)
    obtain ⟨g3, f3, a3⟩ := h_81
    rw [Rw_ag a2 (by omega), Rw_ag a1 (by omega), gS.st.2.2.2.2.2.2.2.2.2.1, if_pos (by show x.1.2.1.2.2.length < 8; omega)] at f3
    have a4 : jAg V_48 V_81 (q + 1 + 58) (q + 1 + 64) := ((a1.wide (by omega) (by omega)).tr (a2.wide (by omega) (by omega))).tr (a3.wide (by omega) (by omega))
    have hS4 : StOK T V_81 (q + 1) (s_pc x a b c).1 := by
      obtain ⟨h0, h1, h2, h3, h4, h5, h6, e1, e2, e3, e4, e5⟩ := gS.st
      exact ⟨h0, h1.ag a4 (by omega), h2.ag a4 (by omega), h3.ag a4 (by omega), (g1.ag a2 (by omega)).ag a3 (by omega), g2.ag a3 (by omega), g3, by rw [Rw_ag a3 (by omega), Rw_ag a2 (by omega)]; exact f1, by rw [Rw_ag a3 (by omega)]; exact f2, f3, by rw [a4 (q + 1) (by omega)]; exact e4, by rw [a4 (q + 1) (by omega)]; exact e5⟩
    refine j_aload_n dX7_addPiece_84 rfl ?_
    refine j_getr dX7_addPiece_85 hB fl_X7_10 (by first | exact h.k | exact hs.1 | exact hr.1 | exact hr.2.2.2.2.2.1.1 | exact hr.2.2.2.2.2.2.1.1 | exact hs.2.2.2.2.1.1 | exact hs.2.2.2.2.2.1.1 | exact hs.2.2.2.2.2.2.1.1) (by rfl) ?_
    refine j_cVi dX7_addPiece_88 hB mo_X5_pieces ml_X7_118 (sp_X5_pieces hB hS4) (by first | exact h.k | exact hs.1 | exact hr.1 | exact hr.2.2.2.2.2.1.1 | exact hr.2.2.2.2.2.2.1.1 | exact hs.2.2.2.2.1.1 | exact hs.2.2.2.2.2.1.1 | exact hs.2.2.2.2.2.2.1.1) rfl rfl rfl rfl ⟨rfl, rfl, by decide, by decide⟩ (Nat.le_of_ble_eq_true rfl) ⟨by decide, by decide⟩ (fun r_88 V_88 h_88 => ?_)
    obtain ⟨rfl, hn2⟩ := h_88
    have hn2 : r_88.toInt = (((x.1.2.1.1 ++ [a]).length : Nat) : Int) := hn2
    rw [List.length_append] at hn2
    have hn2 : r_88.toInt = ((x.1.2.1.1.length + 1 : Nat) : Int) := hn2
    refine j_iconst (v := 1) dX7_addPiece_91 (by decide) ?_
    refine j_isub dX7_addPiece_92 ?_
    refine j_iret dX7_addPiece_93 rfl (rfl) (by decide) (by decide) ?_
    exact qC.ret (by show e_pc x a b c = 0; unfold e_pc; exact ((if_neg (fun z => z ⟨h_5, h_14, h_22⟩)).trans (if_neg (by omega)))) ⟨_, rfl, by rw [ti_sub (by rw [ti_1]; omega) (by rw [ti_1]; omega), ti_1, hn2]; unfold v_pc; omega⟩ (aS.tr (a4.wide (by omega) (by omega))) (gS.now (a4.wide (by omega) (by omega)) hS4)
  · refine j_throw dX7_addPiece_37 dX7_addPiece_40 dX7_addPiece_41 dX7_addPiece_43 dX7_addPiece_46 hB rfl th_X7_addPiece_37 (by decide) (Nat.le_of_ble_eq_true rfl) (by decide) (by decide) (by decide) (by decide) ?_
    exact fun sz1 hz => qC.thr 1 hz rfl (by show e_pc x a b c = 2; unfold e_pc; exact ((if_neg (fun z => z ⟨h_5, h_14, h_22⟩)).trans (if_pos (by omega)))) jAg.rf h
set_option maxRecDepth 100000 in
set_option maxHeartbeats 4000000 in
theorem sp_X7_set (hB : jB l s0 D) {q : Nat} {x : aX} {t w : Int32} (h : cuIs T V q x) (hW : xW x) : Sp l s0 D kX7_set (jR 8 2 12) 2 12 [.ref q, .int t, .int w] T V X sz (qC T V X sz q (e_set t w) [IA] (pInt (v_set x)) x (s_set x t w)) := by
  refine Sp.of pn_X7_set rfl (Nat.le_of_ble_eq_true rfl) ?_
  have hs := h.st
  have hl := hW.1.2.1
  have k100 : (100 : Int32).toInt = 100 := by decide
  refine j_iload_n dX7_set_0 rfl ?_
  refine j_iconst (v := 0) dX7_set_1 (by decide) ?_
  refine j_sipush (v := 600) dX7_set_2 (by decide) ?_
  refine j_tS dX7_set_5 hB mo_X7_requireRange ml_X7_56 (sp_X7_requireRange hB) rfl rfl ⟨rfl, rfl, by decide, by decide⟩ (Nat.le_of_ble_eq_true rfl) ⟨by decide, by decide⟩ rfl ⟨by decide, by decide⟩ (fun E V_5 sz_5 hz hx => by obtain ⟨rfl, rfl, hn⟩ := hx; exact qC.thr 0 hz rfl (by show e_set t w = 1; unfold e_set; exact (if_pos (fun z => hn z.1))) jAg.rf h) (fun v_5 V_5 h_5 => ?_)
  obtain ⟨rfl, rfl, h_5⟩ := h_5
  have h_5 : inR t 0 600 := h_5
  refine j_iload_n dX7_set_8 rfl ?_
  refine j_iconst (v := 0) dX7_set_9 (by decide) ?_
  refine j_bipush (v := 20) dX7_set_10 (by decide) ?_
  refine j_tS dX7_set_12 hB mo_X7_requireRange ml_X7_56 (sp_X7_requireRange hB) rfl rfl ⟨rfl, rfl, by decide, by decide⟩ (Nat.le_of_ble_eq_true rfl) ⟨by decide, by decide⟩ rfl ⟨by decide, by decide⟩ (fun E V_12 sz_12 hz hx => by obtain ⟨rfl, rfl, hn⟩ := hx; exact qC.thr 0 hz rfl (by show e_set t w = 1; unfold e_set; exact (if_pos (fun z => hn z.2))) jAg.rf h) (fun v_12 V_12 h_12 => ?_)
  obtain ⟨rfl, rfl, h_12⟩ := h_12
  have h_12 : inR w 0 20 := h_12
  refine j_aload_n dX7_set_15 rfl ?_
  refine j_cVu dX7_set_16 hB mo_X7_save ml_X7_77 (sp_X7_save hB h) (by first | exact h.k | exact hs.1 | exact hr.1 | exact hr.2.2.2.2.2.1.1 | exact hr.2.2.2.2.2.2.1.1 | exact hs.2.2.2.2.1.1 | exact hs.2.2.2.2.2.1.1 | exact hs.2.2.2.2.2.2.1.1) rfl rfl rfl rfl ⟨rfl, rfl, by decide, by decide⟩ (Nat.le_of_ble_eq_true rfl) ⟨by decide, by decide⟩ (fun V_16 h_16 => ?_)
  obtain ⟨gS, aS⟩ := h_16
  have aS := aS.wide (hi' := q + 492) (Nat.le_refl q) (by omega)
  refine j_bipush (v := 100) dX7_set_19 (by decide) ?_
  refine j_aload_n dX7_set_21 rfl ?_
  refine j_getr dX7_set_22 hB fl_X7_10 (by first | exact h.k | exact hs.1 | exact hr.1 | exact hr.2.2.2.2.2.1.1 | exact hr.2.2.2.2.2.2.1.1 | exact hs.2.2.2.2.1.1 | exact hs.2.2.2.2.2.1.1 | exact hs.2.2.2.2.2.2.1.1) (by rfl) ?_
  refine j_geti dX7_set_25 hB fl_X7_159 (by first | exact h.k | exact hs.1 | exact hr.1 | exact hr.2.2.2.2.2.1.1 | exact hr.2.2.2.2.2.2.1.1 | exact hs.2.2.2.2.1.1 | exact hs.2.2.2.2.2.1.1 | exact hs.2.2.2.2.2.2.1.1) (by rfl) ?_
  refine j_imul dX7_set_28 ?_
  refine j_aload_n dX7_set_29 rfl ?_
  refine j_getr dX7_set_30 hB fl_X7_10 (by first | exact h.k | exact hs.1 | exact hr.1 | exact hr.2.2.2.2.2.1.1 | exact hr.2.2.2.2.2.2.1.1 | exact hs.2.2.2.2.1.1 | exact hs.2.2.2.2.2.1.1 | exact hs.2.2.2.2.2.2.1.1) (by rfl) ?_
  refine j_geti dX7_set_33 hB fl_X7_163 (by first | exact h.k | exact hs.1 | exact hr.1 | exact hr.2.2.2.2.2.1.1 | exact hr.2.2.2.2.2.2.1.1 | exact hs.2.2.2.2.1.1 | exact hs.2.2.2.2.2.1.1 | exact hs.2.2.2.2.2.2.1.1) (by rfl) ?_
  refine j_iadd dX7_set_36 ?_
  refine j_topi (fun y ey => ?_)
  have e6 : V_16 (q + 1) 6 = x.1.2.2.1 := gS.st.2.2.2.2.2.2.2.2.2.2.1
  have e7 : V_16 (q + 1) 7 = x.1.2.2.2 := gS.st.2.2.2.2.2.2.2.2.2.2.2
  rw [e6, e7] at ey
  have ty : y.toInt = v_set x := by
    obtain ⟨l1, l2, l3, l4⟩ := hl
    have m1 : (100 * x.1.2.2.1).toInt = 100 * x.1.2.2.1.toInt := by rw [ti_mul (by rw [k100]; omega) (by rw [k100]; omega), k100]
    rw [ey, ti_add (by omega) (by omega), m1]; rfl
  refine j_istore_n (L' := [(0, _), (1, _), (2, _), (3, _)]) dX7_set_37 (by decide) rfl ?_
  refine j_aload_n dX7_set_38 rfl ?_
  refine j_getr dX7_set_39 hB fl_X7_10 (by first | exact h.k | exact hs.1 | exact hr.1 | exact hr.2.2.2.2.2.1.1 | exact hr.2.2.2.2.2.2.1.1 | exact hs.2.2.2.2.1.1 | exact hs.2.2.2.2.2.1.1 | exact hs.2.2.2.2.2.2.1.1) (by rfl) ?_
  refine j_iload_n dX7_set_42 rfl ?_
  refine j_puti dX7_set_43 hB fp_X7_set_159 (by first | exact h.k | exact hs.1 | exact hr.1 | exact hr.2.2.2.2.2.1.1 | exact hr.2.2.2.2.2.2.1.1 | exact hs.2.2.2.2.1.1 | exact hs.2.2.2.2.2.1.1 | exact hs.2.2.2.2.2.2.1.1) (by rfl) ?_
  refine j_aload_n dX7_set_46 rfl ?_
  refine j_getr dX7_set_47 hB fl_X7_10 (by first | exact h.k | exact hs.1 | exact hr.1 | exact hr.2.2.2.2.2.1.1 | exact hr.2.2.2.2.2.2.1.1 | exact hs.2.2.2.2.1.1 | exact hs.2.2.2.2.2.1.1 | exact hs.2.2.2.2.2.2.1.1) (by rfl) ?_
  refine j_iload_n dX7_set_50 rfl ?_
  refine j_puti dX7_set_51 hB fp_X7_set_163 (by first | exact h.k | exact hs.1 | exact hr.1 | exact hr.2.2.2.2.2.1.1 | exact hr.2.2.2.2.2.2.1.1 | exact hs.2.2.2.2.1.1 | exact hs.2.2.2.2.2.1.1 | exact hs.2.2.2.2.2.2.1.1) (by rfl) ?_
  refine j_iload_n dX7_set_54 rfl ?_
  refine j_iret dX7_set_55 rfl (rfl) (by decide) (by decide) ?_
  have a4 : jAg V_16 (jset (jset V_16 (q + 1) 6 t) (q + 1) 7 w) (q + 1) (q + 1 + 1) := (jAg.rf.set (Nat.le_refl _) (Nat.lt_succ_self _)).set (Nat.le_refl _) (Nat.lt_succ_self _)
  have hS4 : StOK T (jset (jset V_16 (q + 1) 6 t) (q + 1) 7 w) (q + 1) (s_set x t w).1 := by
    obtain ⟨h0, h1, h2, h3, h4, h5, h6, e1, e2, e3, e4, e5⟩ := gS.st
    exact ⟨h0, h1.ag a4 (by omega), h2.ag a4 (by omega), h3.ag a4 (by omega), h4.ag a4 (by omega), h5.ag a4 (by omega), h6.ag a4 (by omega), by rw [Rw_ag a4 (by omega)]; exact e1, by rw [Rw_ag a4 (by omega)]; exact e2, by rw [Rw_ag a4 (by omega)]; exact e3, by rw [jset_ne (Or.inr (by decide)), jset_eq]; rfl, by rw [jset_eq]; rfl⟩
  exact qC.ret (by show e_set t w = 0; unfold e_set; exact (if_neg (fun z => z ⟨h_5, h_12⟩))) ⟨_, rfl, ty⟩ (aS.tr (a4.wide (by omega) (by omega))) (gS.now (a4.wide (by omega) (by omega)) hS4)
end JCu3
