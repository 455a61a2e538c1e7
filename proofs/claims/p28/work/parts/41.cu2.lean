/-! CueSheets: setCue, fit, append, clearBuffer -/
section JCu4
variable {l : Launch} {s0 : State} {D : jD} {T : jT} {V : jV} {X : jX} {sz : Nat}
set_option maxRecDepth 100000 in
set_option maxHeartbeats 4000000 in
theorem sp_X7_setCue (hB : jB l s0 D) {q : Nat} {x : aX} {r s p k a : Int32} (h : cuIs T V q x) (hW : xW x) : Sp l s0 D kX7_setCue (jR 8 5 30) 5 30 [.ref q, .int r, .int s, .int p, .int k, .int a] T V X sz (qC T V X sz q (e_cue x r s p k a) [IO, IA] (pInt (v_cue x r s p k a)) x (s_cue x r s p k a)) := by
  refine Sp.of pn_X7_setCue rfl (Nat.le_of_ble_eq_true rfl) ?_
  have hs := h.st
  have hr := hs.reel r.toInt
  have hrl := hW.1.r r.toInt
  refine j_aload_n dX7_setCue_0 rfl ?_
  refine j_iload_n dX7_setCue_1 rfl ?_
  refine j_iload_n dX7_setCue_2 rfl ?_
  refine j_tV dX7_setCue_3 hB mo_X7_requireScene ml_X7_85 (sp_X7_requireScene hB h) (by first | exact h.k | exact hs.1 | exact hr.1 | exact hr.2.1.1 | exact hr.2.2.1.1 | exact hr.2.2.2.1.1 | exact hr.2.2.2.2.1.1 | exact hr.2.2.2.2.2.1.1 | exact hr.2.2.2.2.2.2.1.1 | exact hs.2.2.2.2.1.1 | exact hs.2.2.2.2.2.1.1 | exact hs.2.2.2.2.2.2.1.1 | exact h.t0.2.2 | exact h.rk.1 | exact h.rk.2.1.1 | exact h.rk.2.2.1.1 | exact h.rk.2.2.2.1.1 | exact h.rk.2.2.2.2.1 | exact h.tk.1 | exact h.tk.2.1.1 | exact h.tk.2.2.1.1 | exact h.tk.2.2.2.1.1 | exact h.tk.2.2.2.2.1.1 | exact h.tk.2.2.2.2.2.1.1 | exact h.tk.2.2.2.2.2.2.1.1 | exact h.tk.2.2.2.2.2.2.2.1 | exact h.tk2.1 | exact h.b.1.1) rfl rfl rfl rfl ⟨rfl, rfl, by decide, by decide⟩ (Nat.le_of_ble_eq_true rfl) ⟨by decide, by decide⟩ rfl ⟨by decide, by decide⟩ (fun E V_3 sz_3 hz hx => by obtain ⟨rfl, rfl, hn⟩ := hx; exact qC.thr 0 hz rfl (by show e_cue x r s p k a = 1; unfold e_cue; exact (if_pos (fun z => hn z.1))) jAg.rf h) (fun v_3 V_3 h_3 => ?_)
  obtain ⟨rfl, rfl, h_3⟩ := h_3
  refine j_iload_n dX7_setCue_6 rfl ?_
  refine j_ldc dX7_setCue_7 hB kc_X7_80 ?_
  refine j_icmp_eq (tgt := 17) dX7_setCue_9 (by decide) (fun c_9 => ?_) (fun c_9 => ?_)
  · have hpo : p = NN ∨ pcOk x.1 p := Or.inl c_9
    refine j_iload dX7_setCue_17 rfl ?_
    refine j_iconst (v := 1) dX7_setCue_19 (by decide) ?_
    refine j_bipush (v := 9) dX7_setCue_20 (by decide) ?_
    refine j_tS dX7_setCue_22 hB mo_X7_requireRange ml_X7_56 (sp_X7_requireRange hB) rfl rfl ⟨rfl, rfl, by decide, by decide⟩ (Nat.le_of_ble_eq_true rfl) ⟨by decide, by decide⟩ rfl ⟨by decide, by decide⟩ (fun E V_22 sz_22 hz hx => by obtain ⟨rfl, rfl, hn⟩ := hx; exact qC.thr 1 hz rfl (by show e_cue x r s p k a = 2; unfold e_cue; exact ((if_neg (fun z => z ⟨h_3, hpo⟩)).trans (if_pos (fun z => hn z.1)))) jAg.rf h) (fun v_22 V_22 h_22 => ?_)
    obtain ⟨rfl, rfl, h_22⟩ := h_22
    have h_22 : inR k 1 9 := h_22
    refine j_iload dX7_setCue_25 rfl ?_
    refine j_bipush (v := 80) dX7_setCue_27 (by decide) ?_
    refine j_bipush (v := 120) dX7_setCue_29 (by decide) ?_
    refine j_tS dX7_setCue_31 hB mo_X7_requireRange ml_X7_56 (sp_X7_requireRange hB) rfl rfl ⟨rfl, rfl, by decide, by decide⟩ (Nat.le_of_ble_eq_true rfl) ⟨by decide, by decide⟩ rfl ⟨by decide, by decide⟩ (fun E V_31 sz_31 hz hx => by obtain ⟨rfl, rfl, hn⟩ := hx; exact qC.thr 1 hz rfl (by show e_cue x r s p k a = 2; unfold e_cue; exact ((if_neg (fun z => z ⟨h_3, hpo⟩)).trans (if_pos (fun z => hn z.2)))) jAg.rf h) (fun v_31 V_31 h_31 => ?_)
    obtain ⟨rfl, rfl, h_31⟩ := h_31
    have h_31 : inR a 80 120 := h_31
    refine j_aload_n dX7_setCue_34 rfl ?_
    refine j_cVu dX7_setCue_35 hB mo_X7_save ml_X7_77 (sp_X7_save hB h) (by first | exact h.k | exact hs.1 | exact hr.1 | exact hr.2.1.1 | exact hr.2.2.1.1 | exact hr.2.2.2.1.1 | exact hr.2.2.2.2.1.1 | exact hr.2.2.2.2.2.1.1 | exact hr.2.2.2.2.2.2.1.1 | exact hs.2.2.2.2.1.1 | exact hs.2.2.2.2.2.1.1 | exact hs.2.2.2.2.2.2.1.1 | exact h.t0.2.2 | exact h.rk.1 | exact h.rk.2.1.1 | exact h.rk.2.2.1.1 | exact h.rk.2.2.2.1.1 | exact h.rk.2.2.2.2.1 | exact h.tk.1 | exact h.tk.2.1.1 | exact h.tk.2.2.1.1 | exact h.tk.2.2.2.1.1 | exact h.tk.2.2.2.2.1.1 | exact h.tk.2.2.2.2.2.1.1 | exact h.tk.2.2.2.2.2.2.1.1 | exact h.tk.2.2.2.2.2.2.2.1 | exact h.tk2.1 | exact h.b.1.1) rfl rfl rfl rfl ⟨rfl, rfl, by decide, by decide⟩ (Nat.le_of_ble_eq_true rfl) ⟨by decide, by decide⟩ (fun V_35 h_35 => ?_)
    obtain ⟨gS, aS⟩ := h_35
    have aS := aS.wide (hi' := q + 492) (Nat.le_refl q) (by omega)
    refine j_aload_n dX7_setCue_38 rfl ?_
    refine j_getr dX7_setCue_39 hB fl_X7_10 (by first | exact h.k | exact hs.1 | exact hr.1 | exact hr.2.1.1 | exact hr.2.2.1.1 | exact hr.2.2.2.1.1 | exact hr.2.2.2.2.1.1 | exact hr.2.2.2.2.2.1.1 | exact hr.2.2.2.2.2.2.1.1 | exact hs.2.2.2.2.1.1 | exact hs.2.2.2.2.2.1.1 | exact hs.2.2.2.2.2.2.1.1 | exact h.t0.2.2 | exact h.rk.1 | exact h.rk.2.1.1 | exact h.rk.2.2.1.1 | exact h.rk.2.2.2.1.1 | exact h.rk.2.2.2.2.1 | exact h.tk.1 | exact h.tk.2.1.1 | exact h.tk.2.2.1.1 | exact h.tk.2.2.2.1.1 | exact h.tk.2.2.2.2.1.1 | exact h.tk.2.2.2.2.2.1.1 | exact h.tk.2.2.2.2.2.2.1.1 | exact h.tk.2.2.2.2.2.2.2.1 | exact h.tk2.1 | exact h.b.1.1) (by rfl) ?_
    refine j_iload_n dX7_setCue_42 rfl ?_
    refine j_cVa dX7_setCue_43 hB mo_X5_reelAt ml_X7_60 (sp_X5_reelAt hB gS.st) (by first | exact h.k | exact hs.1 | exact hr.1 | exact hr.2.1.1 | exact hr.2.2.1.1 | exact hr.2.2.2.1.1 | exact hr.2.2.2.2.1.1 | exact hr.2.2.2.2.2.1.1 | exact hr.2.2.2.2.2.2.1.1 | exact hs.2.2.2.2.1.1 | exact hs.2.2.2.2.2.1.1 | exact hs.2.2.2.2.2.2.1.1 | exact h.t0.2.2 | exact h.rk.1 | exact h.rk.2.1.1 | exact h.rk.2.2.1.1 | exact h.rk.2.2.2.1.1 | exact h.rk.2.2.2.2.1 | exact h.tk.1 | exact h.tk.2.1.1 | exact h.tk.2.2.1.1 | exact h.tk.2.2.2.1.1 | exact h.tk.2.2.2.2.1.1 | exact h.tk.2.2.2.2.2.1.1 | exact h.tk.2.2.2.2.2.2.1.1 | exact h.tk.2.2.2.2.2.2.2.1 | exact h.tk2.1 | exact h.b.1.1) rfl rfl rfl rfl ⟨rfl, rfl, by decide, by decide⟩ (Nat.le_of_ble_eq_true rfl) ⟨by decide, by decide⟩ (fun r_43 V_43 h_43 => ?_)
    obtain ⟨rfl, hq⟩ := h_43
    subst hq
    refine j_astore (L' := [(0, _), (1, _), (2, _), (3, _), (4, _), (5, _), (6, _)]) dX7_setCue_46 (by decide) rfl ?_
    refine j_iload_n dX7_setCue_48 rfl ?_
    refine j_ldc dX7_setCue_49 hB kc_X7_80 ?_
    refine j_icmp_ne (tgt := 66) dX7_setCue_51 (by decide) (fun c_51 => ?_) (fun c_51 => ?_)
    · exact absurd c_9 c_51
    · refine j_aload dX7_setCue_54 rfl ?_
      refine j_iload_n dX7_setCue_56 rfl ?_
      refine j_ldc dX7_setCue_57 hB kc_X7_80 ?_
      refine j_iconst (v := 0) dX7_setCue_59 (by decide) ?_
      refine j_iconst (v := 0) dX7_setCue_60 (by decide) ?_
      refine j_cVu dX7_setCue_61 hB mo_X2_giveCue ml_X7_138 (sp_X2_giveCue hB (gS.st.reel r.toInt)) (by first | exact h.k | exact hs.1 | exact hr.1 | exact hr.2.1.1 | exact hr.2.2.1.1 | exact hr.2.2.2.1.1 | exact hr.2.2.2.2.1.1 | exact hr.2.2.2.2.2.1.1 | exact hr.2.2.2.2.2.2.1.1 | exact hs.2.2.2.2.1.1 | exact hs.2.2.2.2.2.1.1 | exact hs.2.2.2.2.2.2.1.1 | exact h.t0.2.2 | exact h.rk.1 | exact h.rk.2.1.1 | exact h.rk.2.2.1.1 | exact h.rk.2.2.2.1.1 | exact h.rk.2.2.2.2.1 | exact h.tk.1 | exact h.tk.2.1.1 | exact h.tk.2.2.1.1 | exact h.tk.2.2.2.1.1 | exact h.tk.2.2.2.2.1.1 | exact h.tk.2.2.2.2.2.1.1 | exact h.tk.2.2.2.2.2.2.1.1 | exact h.tk.2.2.2.2.2.2.2.1 | exact h.tk2.1 | exact h.b.1.1) rfl rfl rfl rfl ⟨rfl, rfl, by decide, by decide⟩ (Nat.le_of_ble_eq_true rfl) ⟨by decide, by decide⟩ (fun V_61 h_61 => ?_)
      obtain ⟨g2, a2⟩ := h_61
      refine j_iconst (v := 0) dX7_setCue_64 (by decide) ?_
      refine j_iret dX7_setCue_65 rfl (rfl) (by decide) (by decide) ?_
      have h7 := gS.setR' a2 g2
      subst c_51
      have hsc : s_cue x r s NN k a = _ := congrArg (fun z => xSet x r z) (if_pos rfl)
      exact qC.ret (by show e_cue x r s NN k a = 0; unfold e_cue; exact ((if_neg (fun z => z ⟨h_3, hpo⟩)).trans (if_neg (fun z => z ⟨h_22, h_31⟩)))) ⟨_, rfl, by show (0 : Int32).toInt = v_cue x r s NN k a; unfold v_cue; rw [if_pos rfl]; rfl⟩ (aS.tr h7.2) (by rw [hsc]; exact h7.1)
  · refine j_aload_n dX7_setCue_12 rfl ?_
    refine j_iload_n dX7_setCue_13 rfl ?_
    refine j_tV dX7_setCue_14 hB mo_X7_requirePiece ml_X7_135 (sp_X7_requirePiece hB h) (by first | exact h.k | exact hs.1 | exact hr.1 | exact hr.2.1.1 | exact hr.2.2.1.1 | exact hr.2.2.2.1.1 | exact hr.2.2.2.2.1.1 | exact hr.2.2.2.2.2.1.1 | exact hr.2.2.2.2.2.2.1.1 | exact hs.2.2.2.2.1.1 | exact hs.2.2.2.2.2.1.1 | exact hs.2.2.2.2.2.2.1.1 | exact h.t0.2.2 | exact h.rk.1 | exact h.rk.2.1.1 | exact h.rk.2.2.1.1 | exact h.rk.2.2.2.1.1 | exact h.rk.2.2.2.2.1 | exact h.tk.1 | exact h.tk.2.1.1 | exact h.tk.2.2.1.1 | exact h.tk.2.2.2.1.1 | exact h.tk.2.2.2.2.1.1 | exact h.tk.2.2.2.2.2.1.1 | exact h.tk.2.2.2.2.2.2.1.1 | exact h.tk.2.2.2.2.2.2.2.1 | exact h.tk2.1 | exact h.b.1.1) rfl rfl rfl rfl ⟨rfl, rfl, by decide, by decide⟩ (Nat.le_of_ble_eq_true rfl) ⟨by decide, by decide⟩ rfl ⟨by decide, by decide⟩ (fun E V_14 sz_14 hz hx => by obtain ⟨rfl, rfl, hn⟩ := hx; exact qC.thr 0 hz rfl (by show e_cue x r s p k a = 1; unfold e_cue; exact (if_pos (fun z => z.2.elim (fun y => c_9 y) hn))) jAg.rf h) (fun v_14 V_14 h_14 => ?_)
    obtain ⟨rfl, rfl, h_14⟩ := h_14
    have hpo : p = NN ∨ pcOk x.1 p := Or.inr h_14
    refine j_iload dX7_setCue_17 rfl ?_
    refine j_iconst (v := 1) dX7_setCue_19 (by decide) ?_
    refine j_bipush (v := 9) dX7_setCue_20 (by decide) ?_
    refine j_tS dX7_setCue_22 hB mo_X7_requireRange ml_X7_56 (sp_X7_requireRange hB) rfl rfl ⟨rfl, rfl, by decide, by decide⟩ (Nat.le_of_ble_eq_true rfl) ⟨by decide, by decide⟩ rfl ⟨by decide, by decide⟩ (fun E V_22 sz_22 hz hx => by obtain ⟨rfl, rfl, hn⟩ := hx; exact qC.thr 1 hz rfl (by show e_cue x r s p k a = 2; unfold e_cue; exact ((if_neg (fun z => z ⟨h_3, hpo⟩)).trans (if_pos (fun z => hn z.1)))) jAg.rf h) (fun v_22 V_22 h_22 => ?_)
    obtain ⟨rfl, rfl, h_22⟩ := h_22
    have h_22 : inR k 1 9 := h_22
    refine j_iload dX7_setCue_25 rfl ?_
    refine j_bipush (v := 80) dX7_setCue_27 (by decide) ?_
    refine j_bipush (v := 120) dX7_setCue_29 (by decide) ?_
    refine j_tS dX7_setCue_31 hB mo_X7_requireRange ml_X7_56 (sp_X7_requireRange hB) rfl rfl ⟨rfl, rfl, by decide, by decide⟩ (Nat.le_of_ble_eq_true rfl) ⟨by decide, by decide⟩ rfl ⟨by decide, by decide⟩ (fun E V_31 sz_31 hz hx => by obtain ⟨rfl, rfl, hn⟩ := hx; exact qC.thr 1 hz rfl (by show e_cue x r s p k a = 2; unfold e_cue; exact ((if_neg (fun z => z ⟨h_3, hpo⟩)).trans (if_pos (fun z => hn z.2)))) jAg.rf h) (fun v_31 V_31 h_31 => ?_)
    obtain ⟨rfl, rfl, h_31⟩ := h_31
    have h_31 : inR a 80 120 := h_31
    refine j_aload_n dX7_setCue_34 rfl ?_
    refine j_cVu dX7_setCue_35 hB mo_X7_save ml_X7_77 (sp_X7_save hB h) (by first | exact h.k | exact hs.1 | exact hr.1 | exact hr.2.1.1 | exact hr.2.2.1.1 | exact hr.2.2.2.1.1 | exact hr.2.2.2.2.1.1 | exact hr.2.2.2.2.2.1.1 | exact hr.2.2.2.2.2.2.1.1 | exact hs.2.2.2.2.1.1 | exact hs.2.2.2.2.2.1.1 | exact hs.2.2.2.2.2.2.1.1 | exact h.t0.2.2 | exact h.rk.1 | exact h.rk.2.1.1 | exact h.rk.2.2.1.1 | exact h.rk.2.2.2.1.1 | exact h.rk.2.2.2.2.1 | exact h.tk.1 | exact h.tk.2.1.1 | exact h.tk.2.2.1.1 | exact h.tk.2.2.2.1.1 | exact h.tk.2.2.2.2.1.1 | exact h.tk.2.2.2.2.2.1.1 | exact h.tk.2.2.2.2.2.2.1.1 | exact h.tk.2.2.2.2.2.2.2.1 | exact h.tk2.1 | exact h.b.1.1) rfl rfl rfl rfl ⟨rfl, rfl, by decide, by decide⟩ (Nat.le_of_ble_eq_true rfl) ⟨by decide, by decide⟩ (fun V_35 h_35 => ?_)
    obtain ⟨gS, aS⟩ := h_35
    have aS := aS.wide (hi' := q + 492) (Nat.le_refl q) (by omega)
    refine j_aload_n dX7_setCue_38 rfl ?_
    refine j_getr dX7_setCue_39 hB fl_X7_10 (by first | exact h.k | exact hs.1 | exact hr.1 | exact hr.2.1.1 | exact hr.2.2.1.1 | exact hr.2.2.2.1.1 | exact hr.2.2.2.2.1.1 | exact hr.2.2.2.2.2.1.1 | exact hr.2.2.2.2.2.2.1.1 | exact hs.2.2.2.2.1.1 | exact hs.2.2.2.2.2.1.1 | exact hs.2.2.2.2.2.2.1.1 | exact h.t0.2.2 | exact h.rk.1 | exact h.rk.2.1.1 | exact h.rk.2.2.1.1 | exact h.rk.2.2.2.1.1 | exact h.rk.2.2.2.2.1 | exact h.tk.1 | exact h.tk.2.1.1 | exact h.tk.2.2.1.1 | exact h.tk.2.2.2.1.1 | exact h.tk.2.2.2.2.1.1 | exact h.tk.2.2.2.2.2.1.1 | exact h.tk.2.2.2.2.2.2.1.1 | exact h.tk.2.2.2.2.2.2.2.1 | exact h.tk2.1 | exact h.b.1.1) (by rfl) ?_
    refine j_iload_n dX7_setCue_42 rfl ?_
    refine j_cVa dX7_setCue_43 hB mo_X5_reelAt ml_X7_60 (sp_X5_reelAt hB gS.st) (by first | exact h.k | exact hs.1 | exact hr.1 | exact hr.2.1.1 | exact hr.2.2.1.1 | exact hr.2.2.2.1.1 | exact hr.2.2.2.2.1.1 | exact hr.2.2.2.2.2.1.1 | exact hr.2.2.2.2.2.2.1.1 | exact hs.2.2.2.2.1.1 | exact hs.2.2.2.2.2.1.1 | exact hs.2.2.2.2.2.2.1.1 | exact h.t0.2.2 | exact h.rk.1 | exact h.rk.2.1.1 | exact h.rk.2.2.1.1 | exact h.rk.2.2.2.1.1 | exact h.rk.2.2.2.2.1 | exact h.tk.1 | exact h.tk.2.1.1 | exact h.tk.2.2.1.1 | exact h.tk.2.2.2.1.1 | exact h.tk.2.2.2.2.1.1 | exact h.tk.2.2.2.2.2.1.1 | exact h.tk.2.2.2.2.2.2.1.1 | exact h.tk.2.2.2.2.2.2.2.1 | exact h.tk2.1 | exact h.b.1.1) rfl rfl rfl rfl ⟨rfl, rfl, by decide, by decide⟩ (Nat.le_of_ble_eq_true rfl) ⟨by decide, by decide⟩ (fun r_43 V_43 h_43 => ?_)
    obtain ⟨rfl, hq⟩ := h_43
    subst hq
    refine j_astore (L' := [(0, _), (1, _), (2, _), (3, _), (4, _), (5, _), (6, _)]) dX7_setCue_46 (by decide) rfl ?_
    refine j_iload_n dX7_setCue_48 rfl ?_
    refine j_ldc dX7_setCue_49 hB kc_X7_80 ?_
    refine j_icmp_ne (tgt := 66) dX7_setCue_51 (by decide) (fun c_51 => ?_) (fun c_51 => ?_)
    · refine j_aload dX7_setCue_66 rfl ?_
      refine j_iload_n dX7_setCue_68 rfl ?_
      refine j_iload_n dX7_setCue_69 rfl ?_
      refine j_iload dX7_setCue_70 rfl ?_
      refine j_iload dX7_setCue_72 rfl ?_
      refine j_cVu dX7_setCue_74 hB mo_X2_giveCue ml_X7_138 (sp_X2_giveCue hB (gS.st.reel r.toInt)) (by first | exact h.k | exact hs.1 | exact hr.1 | exact hr.2.1.1 | exact hr.2.2.1.1 | exact hr.2.2.2.1.1 | exact hr.2.2.2.2.1.1 | exact hr.2.2.2.2.2.1.1 | exact hr.2.2.2.2.2.2.1.1 | exact hs.2.2.2.2.1.1 | exact hs.2.2.2.2.2.1.1 | exact hs.2.2.2.2.2.2.1.1 | exact h.t0.2.2 | exact h.rk.1 | exact h.rk.2.1.1 | exact h.rk.2.2.1.1 | exact h.rk.2.2.2.1.1 | exact h.rk.2.2.2.2.1 | exact h.tk.1 | exact h.tk.2.1.1 | exact h.tk.2.2.1.1 | exact h.tk.2.2.2.1.1 | exact h.tk.2.2.2.2.1.1 | exact h.tk.2.2.2.2.2.1.1 | exact h.tk.2.2.2.2.2.2.1.1 | exact h.tk.2.2.2.2.2.2.2.1 | exact h.tk2.1 | exact h.b.1.1) rfl rfl rfl rfl ⟨rfl, rfl, by decide, by decide⟩ (Nat.le_of_ble_eq_true rfl) ⟨by decide, by decide⟩ (fun V_74 h_74 => ?_)
      obtain ⟨g2, a2⟩ := h_74
      have h7 := gS.setR' a2 g2
      have h7a : cuIs T V_74 q (sSet x.1 r.toInt (rCue (xR x r) s.toInt p k a), xPush x, x.2.2) := h7.1
      have hpc : pcOk x.1 p := hpo.elim (fun y => absurd y c_51) id
      have hst : stW (sSet x.1 r.toInt (rCue (xR x r) s.toInt p k a)) := hW.1.set (hrl.cue h_3.2.1 h_3.2.2 (Or.inr ⟨hpc.1, hpc.2, h_22.1, h_22.2, h_31.1, h_31.2⟩))
      have hrr : ReelOK T V_74 (reelA (q + 1) r.toInt) (rCue (xR x r) s.toInt p k a) := g2
      have hst2 := hst.r r.toInt
      rw [sR_set] at hst2
      have hsl : s.toInt.toNat < (rCue (xR x r) s.toInt p k a).1.length := by have e1 := h_3.2.1; have e2 := h_3.2.2; show _ < (xR x r).1.length; omega
      refine j_aload_n dX7_setCue_77 rfl ?_
      refine j_getr dX7_setCue_78 hB fl_X7_39 (by first | exact h.k | exact hs.1 | exact hr.1 | exact hr.2.1.1 | exact hr.2.2.1.1 | exact hr.2.2.2.1.1 | exact hr.2.2.2.2.1.1 | exact hr.2.2.2.2.2.1.1 | exact hr.2.2.2.2.2.2.1.1 | exact hs.2.2.2.2.1.1 | exact hs.2.2.2.2.2.1.1 | exact hs.2.2.2.2.2.2.1.1 | exact h.t0.2.2 | exact h.rk.1 | exact h.rk.2.1.1 | exact h.rk.2.2.1.1 | exact h.rk.2.2.2.1.1 | exact h.rk.2.2.2.2.1 | exact h.tk.1 | exact h.tk.2.1.1 | exact h.tk.2.2.1.1 | exact h.tk.2.2.2.1.1 | exact h.tk.2.2.2.2.1.1 | exact h.tk.2.2.2.2.2.1.1 | exact h.tk.2.2.2.2.2.2.1.1 | exact h.tk.2.2.2.2.2.2.2.1 | exact h.tk2.1 | exact h.b.1.1) (by rfl) ?_
      refine j_aload_n dX7_setCue_81 rfl ?_
      refine j_getr dX7_setCue_82 hB fl_X7_10 (by first | exact h.k | exact hs.1 | exact hr.1 | exact hr.2.1.1 | exact hr.2.2.1.1 | exact hr.2.2.2.1.1 | exact hr.2.2.2.2.1.1 | exact hr.2.2.2.2.2.1.1 | exact hr.2.2.2.2.2.2.1.1 | exact hs.2.2.2.2.1.1 | exact hs.2.2.2.2.2.1.1 | exact hs.2.2.2.2.2.2.1.1 | exact h.t0.2.2 | exact h.rk.1 | exact h.rk.2.1.1 | exact h.rk.2.2.1.1 | exact h.rk.2.2.2.1.1 | exact h.rk.2.2.2.2.1 | exact h.tk.1 | exact h.tk.2.1.1 | exact h.tk.2.2.1.1 | exact h.tk.2.2.2.1.1 | exact h.tk.2.2.2.2.1.1 | exact h.tk.2.2.2.2.2.1.1 | exact h.tk.2.2.2.2.2.2.1.1 | exact h.tk.2.2.2.2.2.2.2.1 | exact h.tk2.1 | exact h.b.1.1) (by rfl) ?_
      refine j_aload dX7_setCue_85 rfl ?_
      refine j_iconst (v := 0) dX7_setCue_87 (by decide) ?_
      refine j_cVu dX7_setCue_88 hB mo_X6_measure ml_X7_141 (sp_X6_measure hB h7a.tk h7a.st hrr (by omega) (by have := reelA_in (q + 1) r.toInt; omega) hst.1 hst2 (Or.inl rfl) hst.2.1.1) (by first | exact h.k | exact hs.1 | exact hr.1 | exact hr.2.1.1 | exact hr.2.2.1.1 | exact hr.2.2.2.1.1 | exact hr.2.2.2.2.1.1 | exact hr.2.2.2.2.2.1.1 | exact hr.2.2.2.2.2.2.1.1 | exact hs.2.2.2.2.1.1 | exact hs.2.2.2.2.2.1.1 | exact hs.2.2.2.2.2.2.1.1 | exact h.t0.2.2 | exact h.rk.1 | exact h.rk.2.1.1 | exact h.rk.2.2.1.1 | exact h.rk.2.2.2.1.1 | exact h.rk.2.2.2.2.1 | exact h.tk.1 | exact h.tk.2.1.1 | exact h.tk.2.2.1.1 | exact h.tk.2.2.2.1.1 | exact h.tk.2.2.2.2.1.1 | exact h.tk.2.2.2.2.2.1.1 | exact h.tk.2.2.2.2.2.2.1.1 | exact h.tk.2.2.2.2.2.2.2.1 | exact h.tk2.1 | exact h.b.1.1) rfl rfl rfl rfl ⟨rfl, rfl, by decide, by decide⟩ (Nat.le_of_ble_eq_true rfl) ⟨by decide, by decide⟩ (fun V_88 h_88 => ?_)
      obtain ⟨gT, aT⟩ := h_88
      have gT : TmIs T V_88 (q + 461) (sSet x.1 r.toInt (rCue (xR x r) s.toInt p k a)) (rCue (xR x r) s.toInt p k a) 0 := gT
      have cT := h7a.tm aT gT.k
      refine j_aload_n dX7_setCue_91 rfl ?_
      refine j_getr dX7_setCue_92 hB fl_X7_39 (by first | exact h.k | exact hs.1 | exact hr.1 | exact hr.2.1.1 | exact hr.2.2.1.1 | exact hr.2.2.2.1.1 | exact hr.2.2.2.2.1.1 | exact hr.2.2.2.2.2.1.1 | exact hr.2.2.2.2.2.2.1.1 | exact hs.2.2.2.2.1.1 | exact hs.2.2.2.2.2.1.1 | exact hs.2.2.2.2.2.2.1.1 | exact h.t0.2.2 | exact h.rk.1 | exact h.rk.2.1.1 | exact h.rk.2.2.1.1 | exact h.rk.2.2.2.1.1 | exact h.rk.2.2.2.2.1 | exact h.tk.1 | exact h.tk.2.1.1 | exact h.tk.2.2.1.1 | exact h.tk.2.2.2.1.1 | exact h.tk.2.2.2.2.1.1 | exact h.tk.2.2.2.2.2.1.1 | exact h.tk.2.2.2.2.2.2.1.1 | exact h.tk.2.2.2.2.2.2.2.1 | exact h.tk2.1 | exact h.b.1.1) (by rfl) ?_
      refine j_getr dX7_setCue_95 hB fl_X7_145 (by first | exact h.k | exact hs.1 | exact hr.1 | exact hr.2.1.1 | exact hr.2.2.1.1 | exact hr.2.2.2.1.1 | exact hr.2.2.2.2.1.1 | exact hr.2.2.2.2.2.1.1 | exact hr.2.2.2.2.2.2.1.1 | exact hs.2.2.2.2.1.1 | exact hs.2.2.2.2.2.1.1 | exact hs.2.2.2.2.2.2.1.1 | exact h.t0.2.2 | exact h.rk.1 | exact h.rk.2.1.1 | exact h.rk.2.2.1.1 | exact h.rk.2.2.2.1.1 | exact h.rk.2.2.2.2.1 | exact h.tk.1 | exact h.tk.2.1.1 | exact h.tk.2.2.1.1 | exact h.tk.2.2.2.1.1 | exact h.tk.2.2.2.2.1.1 | exact h.tk.2.2.2.2.2.1.1 | exact h.tk.2.2.2.2.2.2.1.1 | exact h.tk.2.2.2.2.2.2.2.1 | exact h.tk2.1 | exact h.b.1.1) (by rfl) ?_
      refine j_iload_n dX7_setCue_98 rfl ?_
      refine j_cVi dX7_setCue_99 hB mo_X3_at ml_X7_148 (sp_X3_at hB gT.2.2.2.2.1) (by first | exact h.k | exact hs.1 | exact hr.1 | exact hr.2.1.1 | exact hr.2.2.1.1 | exact hr.2.2.2.1.1 | exact hr.2.2.2.2.1.1 | exact hr.2.2.2.2.2.1.1 | exact hr.2.2.2.2.2.2.1.1 | exact hs.2.2.2.2.1.1 | exact hs.2.2.2.2.2.1.1 | exact hs.2.2.2.2.2.2.1.1 | exact h.t0.2.2 | exact h.rk.1 | exact h.rk.2.1.1 | exact h.rk.2.2.1.1 | exact h.rk.2.2.2.1.1 | exact h.rk.2.2.2.2.1 | exact h.tk.1 | exact h.tk.2.1.1 | exact h.tk.2.2.1.1 | exact h.tk.2.2.2.1.1 | exact h.tk.2.2.2.2.1.1 | exact h.tk.2.2.2.2.2.1.1 | exact h.tk.2.2.2.2.2.2.1.1 | exact h.tk.2.2.2.2.2.2.2.1 | exact h.tk2.1 | exact h.b.1.1) rfl rfl rfl rfl ⟨rfl, rfl, by decide, by decide⟩ (Nat.le_of_ble_eq_true rfl) ⟨by decide, by decide⟩ (fun r_99 V_99 h_99 => ?_)
      obtain ⟨rfl, y1⟩ := h_99
      have t1 := congrArg Int32.toInt y1
      have hs0 : s.toInt = (s.toInt.toNat : Int) := by have e1 := h_3.2.1; omega
      rw [hs0, gT.2.2.2.2.2.2.2.1.at hsl] at t1
      refine j_iret dX7_setCue_102 rfl (rfl) (by decide) (by decide) ?_
      have hsc : s_cue x r s p k a = _ := congrArg (fun z => xSet x r z) (if_neg c_51)
      exact qC.ret (by show e_cue x r s p k a = 0; unfold e_cue; exact ((if_neg (fun z => z ⟨h_3, hpo⟩)).trans (if_neg (fun z => z ⟨h_22, h_31⟩)))) ⟨_, rfl, by unfold v_cue; rw [if_neg c_51]; exact t1⟩ ((aS.tr h7.2).tr (aT.wide (by omega) (by omega))) (by rw [hsc]; exact cT)
    · exact absurd c_51 c_9
set_option maxRecDepth 100000 in
set_option maxHeartbeats 4000000 in
theorem sp_X7_fitScene (hB : jB l s0 D) {q k : Nat} {x : aX} {r i : Int32} (h : cuIs T V q x) (hW : stW x.1) (hi : i.toInt = k) (hk : k < (sR x.1 r.toInt).1.length) (hc : ¬ atZ (sR x.1 r.toInt).2.1 k = NN) : Sp l s0 D kX7_fitScene (jR 5 0 0) 0 0 [.ref q, .ref (reelA (q + 1) r.toInt), .int i] T V X sz (qI T X sz (fun v V' => (v = 1 ∧ (fitS x.1 r.toInt k).2 = 1 ∨ v = 0 ∧ (fitS x.1 r.toInt k).2 = 0) ∧ cuIs T V' q ((fitS x.1 r.toInt k).1, x.2) ∧ jAg V V' q (q + 492))) := by
  refine Sp.of pn_X7_fitScene rfl (Nat.le_of_ble_eq_true rfl) ?_
  have hs := h.st
  have hr := hs.reel r.toInt
  have hrl := hW.r r.toInt
  have hcr := cue_rng hrl hk hc
  have hro := aRoom_rng hW.1 hrl (w := 0) (Or.inl rfl) hk
  have hbP := bestT_P hW.1 hW.2.1 hcr.1 hcr.2.1 hro.1 hro.2
  generalize hb : bestT x.1 (atZ (sR x.1 r.toInt).2.1 k).toInt (aRoom x.1 (sR x.1 r.toInt) 0 k) = b at hbP
  have hfs : fitS x.1 r.toInt k = (sSet x.1 r.toInt (rCue (sR x.1 r.toInt) k (atZ (sR x.1 r.toInt).2.1 k) (Int32.ofInt b.1) (Int32.ofInt b.2.1)), if (atZ (sR x.1 r.toInt).2.2.1 k).toInt = b.1 ∧ (atZ (sR x.1 r.toInt).2.2.2.1 k).toInt = b.2.1 then 0 else 1) := by rw [← hb]; rfl
  obtain ⟨p1, p2, p3, p4, p5, p6⟩ := hbP
  have o1 := ti_ofInt (z := b.1) (by omega) (by omega)
  have o2 := ti_ofInt (z := b.2.1) (by omega) (by omega)
  refine j_aload_n dX7_fitScene_0 rfl ?_
  refine j_getr dX7_fitScene_1 hB fl_X7_293 (by first | exact h.k | exact hs.1 | exact hr.1 | exact hr.2.1.1 | exact hr.2.2.1.1 | exact hr.2.2.2.1.1 | exact hr.2.2.2.2.1.1 | exact hr.2.2.2.2.2.1.1 | exact hr.2.2.2.2.2.2.1.1 | exact hs.2.2.2.2.1.1 | exact hs.2.2.2.2.2.1.1 | exact hs.2.2.2.2.2.2.1.1 | exact h.t0.2.2 | exact h.rk.1 | exact h.rk.2.1.1 | exact h.rk.2.2.1.1 | exact h.rk.2.2.2.1.1 | exact h.rk.2.2.2.2.1 | exact h.tk.1 | exact h.tk.2.1.1 | exact h.tk.2.2.1.1 | exact h.tk.2.2.2.1.1 | exact h.tk.2.2.2.2.1.1 | exact h.tk.2.2.2.2.2.1.1 | exact h.tk.2.2.2.2.2.2.1.1 | exact h.tk.2.2.2.2.2.2.2.1 | exact h.tk2.1 | exact h.b.1.1) (by rfl) ?_
  refine j_iload_n dX7_fitScene_4 rfl ?_
  refine j_cVi dX7_fitScene_5 hB mo_X3_at ml_X7_148 (sp_X3_at hB hr.2.2.1) (by first | exact h.k | exact hs.1 | exact hr.1 | exact hr.2.1.1 | exact hr.2.2.1.1 | exact hr.2.2.2.1.1 | exact hr.2.2.2.2.1.1 | exact hr.2.2.2.2.2.1.1 | exact hr.2.2.2.2.2.2.1.1 | exact hs.2.2.2.2.1.1 | exact hs.2.2.2.2.2.1.1 | exact hs.2.2.2.2.2.2.1.1 | exact h.t0.2.2 | exact h.rk.1 | exact h.rk.2.1.1 | exact h.rk.2.2.1.1 | exact h.rk.2.2.2.1.1 | exact h.rk.2.2.2.2.1 | exact h.tk.1 | exact h.tk.2.1.1 | exact h.tk.2.2.1.1 | exact h.tk.2.2.2.1.1 | exact h.tk.2.2.2.2.1.1 | exact h.tk.2.2.2.2.2.1.1 | exact h.tk.2.2.2.2.2.2.1.1 | exact h.tk.2.2.2.2.2.2.2.1 | exact h.tk2.1 | exact h.b.1.1) rfl rfl rfl rfl ⟨rfl, rfl, by decide, by decide⟩ (Nat.le_of_ble_eq_true rfl) ⟨by decide, by decide⟩ (fun r_5 V_5 h_5 => ?_)
  obtain ⟨rfl, y1⟩ := h_5
  rw [hr.2.2.2.2.2.2.2.2.1, hi] at y1
  subst y1
  refine j_istore_n (L' := [(0, _), (1, _), (2, _), (3, _)]) dX7_fitScene_8 (by decide) rfl ?_
  refine j_aload_n dX7_fitScene_9 rfl ?_
  refine j_getr dX7_fitScene_10 hB fl_X7_39 (by first | exact h.k | exact hs.1 | exact hr.1 | exact hr.2.1.1 | exact hr.2.2.1.1 | exact hr.2.2.2.1.1 | exact hr.2.2.2.2.1.1 | exact hr.2.2.2.2.2.1.1 | exact hr.2.2.2.2.2.2.1.1 | exact hs.2.2.2.2.1.1 | exact hs.2.2.2.2.2.1.1 | exact hs.2.2.2.2.2.2.1.1 | exact h.t0.2.2 | exact h.rk.1 | exact h.rk.2.1.1 | exact h.rk.2.2.1.1 | exact h.rk.2.2.2.1.1 | exact h.rk.2.2.2.2.1 | exact h.tk.1 | exact h.tk.2.1.1 | exact h.tk.2.2.1.1 | exact h.tk.2.2.2.1.1 | exact h.tk.2.2.2.2.1.1 | exact h.tk.2.2.2.2.2.1.1 | exact h.tk.2.2.2.2.2.2.1.1 | exact h.tk.2.2.2.2.2.2.2.1 | exact h.tk2.1 | exact h.b.1.1) (by rfl) ?_
  refine j_aload_n dX7_fitScene_13 rfl ?_
  refine j_getr dX7_fitScene_14 hB fl_X7_10 (by first | exact h.k | exact hs.1 | exact hr.1 | exact hr.2.1.1 | exact hr.2.2.1.1 | exact hr.2.2.2.1.1 | exact hr.2.2.2.2.1.1 | exact hr.2.2.2.2.2.1.1 | exact hr.2.2.2.2.2.2.1.1 | exact hs.2.2.2.2.1.1 | exact hs.2.2.2.2.2.1.1 | exact hs.2.2.2.2.2.2.1.1 | exact h.t0.2.2 | exact h.rk.1 | exact h.rk.2.1.1 | exact h.rk.2.2.1.1 | exact h.rk.2.2.2.1.1 | exact h.rk.2.2.2.2.1 | exact h.tk.1 | exact h.tk.2.1.1 | exact h.tk.2.2.1.1 | exact h.tk.2.2.2.1.1 | exact h.tk.2.2.2.2.1.1 | exact h.tk.2.2.2.2.2.1.1 | exact h.tk.2.2.2.2.2.2.1.1 | exact h.tk.2.2.2.2.2.2.2.1 | exact h.tk2.1 | exact h.b.1.1) (by rfl) ?_
  refine j_aload_n dX7_fitScene_17 rfl ?_
  refine j_iconst (v := 0) dX7_fitScene_18 (by decide) ?_
  refine j_cVu dX7_fitScene_19 hB mo_X6_measure ml_X7_141 (sp_X6_measure hB h.tk h.st (hr) (by omega) (by have := reelA_in (q + 1) r.toInt; omega) hW.1 (hW.r _) (Or.inl rfl) hW.2.1.1) (by first | exact h.k | exact hs.1 | exact hr.1 | exact hr.2.1.1 | exact hr.2.2.1.1 | exact hr.2.2.2.1.1 | exact hr.2.2.2.2.1.1 | exact hr.2.2.2.2.2.1.1 | exact hr.2.2.2.2.2.2.1.1 | exact hs.2.2.2.2.1.1 | exact hs.2.2.2.2.2.1.1 | exact hs.2.2.2.2.2.2.1.1 | exact h.t0.2.2 | exact h.rk.1 | exact h.rk.2.1.1 | exact h.rk.2.2.1.1 | exact h.rk.2.2.2.1.1 | exact h.rk.2.2.2.2.1 | exact h.tk.1 | exact h.tk.2.1.1 | exact h.tk.2.2.1.1 | exact h.tk.2.2.2.1.1 | exact h.tk.2.2.2.2.1.1 | exact h.tk.2.2.2.2.2.1.1 | exact h.tk.2.2.2.2.2.2.1.1 | exact h.tk.2.2.2.2.2.2.2.1 | exact h.tk2.1 | exact h.b.1.1) rfl rfl rfl rfl ⟨rfl, rfl, by decide, by decide⟩ (Nat.le_of_ble_eq_true rfl) ⟨by decide, by decide⟩ (fun V_19 h_19 => ?_)
  obtain ⟨gT, aT⟩ := h_19
  have gT : TmIs T V_19 (q + 461) x.1 _ 0 := gT
  have cT := h.tm aT gT.k
  refine j_aload_n dX7_fitScene_22 rfl ?_
  refine j_getr dX7_fitScene_23 hB fl_X7_49 (by first | exact h.k | exact hs.1 | exact hr.1 | exact hr.2.1.1 | exact hr.2.2.1.1 | exact hr.2.2.2.1.1 | exact hr.2.2.2.2.1.1 | exact hr.2.2.2.2.2.1.1 | exact hr.2.2.2.2.2.2.1.1 | exact hs.2.2.2.2.1.1 | exact hs.2.2.2.2.2.1.1 | exact hs.2.2.2.2.2.2.1.1 | exact h.t0.2.2 | exact h.rk.1 | exact h.rk.2.1.1 | exact h.rk.2.2.1.1 | exact h.rk.2.2.2.1.1 | exact h.rk.2.2.2.2.1 | exact h.tk.1 | exact h.tk.2.1.1 | exact h.tk.2.2.1.1 | exact h.tk.2.2.2.1.1 | exact h.tk.2.2.2.2.1.1 | exact h.tk.2.2.2.2.2.1.1 | exact h.tk.2.2.2.2.2.2.1.1 | exact h.tk.2.2.2.2.2.2.2.1 | exact h.tk2.1 | exact h.b.1.1) (by rfl) ?_
  refine j_aload_n dX7_fitScene_26 rfl ?_
  refine j_getr dX7_fitScene_27 hB fl_X7_10 (by first | exact h.k | exact hs.1 | exact hr.1 | exact hr.2.1.1 | exact hr.2.2.1.1 | exact hr.2.2.2.1.1 | exact hr.2.2.2.2.1.1 | exact hr.2.2.2.2.2.1.1 | exact hr.2.2.2.2.2.2.1.1 | exact hs.2.2.2.2.1.1 | exact hs.2.2.2.2.2.1.1 | exact hs.2.2.2.2.2.2.1.1 | exact h.t0.2.2 | exact h.rk.1 | exact h.rk.2.1.1 | exact h.rk.2.2.1.1 | exact h.rk.2.2.2.1.1 | exact h.rk.2.2.2.2.1 | exact h.tk.1 | exact h.tk.2.1.1 | exact h.tk.2.2.1.1 | exact h.tk.2.2.2.1.1 | exact h.tk.2.2.2.2.1.1 | exact h.tk.2.2.2.2.2.1.1 | exact h.tk.2.2.2.2.2.2.1.1 | exact h.tk.2.2.2.2.2.2.2.1 | exact h.tk2.1 | exact h.b.1.1) (by rfl) ?_
  refine j_iload_n dX7_fitScene_30 rfl ?_
  refine j_aload_n dX7_fitScene_31 rfl ?_
  refine j_getr dX7_fitScene_32 hB fl_X7_39 (by first | exact h.k | exact hs.1 | exact hr.1 | exact hr.2.1.1 | exact hr.2.2.1.1 | exact hr.2.2.2.1.1 | exact hr.2.2.2.2.1.1 | exact hr.2.2.2.2.2.1.1 | exact hr.2.2.2.2.2.2.1.1 | exact hs.2.2.2.2.1.1 | exact hs.2.2.2.2.2.1.1 | exact hs.2.2.2.2.2.2.1.1 | exact h.t0.2.2 | exact h.rk.1 | exact h.rk.2.1.1 | exact h.rk.2.2.1.1 | exact h.rk.2.2.2.1.1 | exact h.rk.2.2.2.2.1 | exact h.tk.1 | exact h.tk.2.1.1 | exact h.tk.2.2.1.1 | exact h.tk.2.2.2.1.1 | exact h.tk.2.2.2.2.1.1 | exact h.tk.2.2.2.2.2.1.1 | exact h.tk.2.2.2.2.2.2.1.1 | exact h.tk.2.2.2.2.2.2.2.1 | exact h.tk2.1 | exact h.b.1.1) (by rfl) ?_
  refine j_iload_n dX7_fitScene_35 rfl ?_
  refine j_cVi dX7_fitScene_36 hB mo_X6_roomForCue ml_X7_230 (sp_X6_roomForCue hB gT hW.1 hrl (Or.inl rfl) hk hi) (by first | exact h.k | exact hs.1 | exact hr.1 | exact hr.2.1.1 | exact hr.2.2.1.1 | exact hr.2.2.2.1.1 | exact hr.2.2.2.2.1.1 | exact hr.2.2.2.2.2.1.1 | exact hr.2.2.2.2.2.2.1.1 | exact hs.2.2.2.2.1.1 | exact hs.2.2.2.2.2.1.1 | exact hs.2.2.2.2.2.2.1.1 | exact h.t0.2.2 | exact h.rk.1 | exact h.rk.2.1.1 | exact h.rk.2.2.1.1 | exact h.rk.2.2.2.1.1 | exact h.rk.2.2.2.2.1 | exact h.tk.1 | exact h.tk.2.1.1 | exact h.tk.2.2.1.1 | exact h.tk.2.2.2.1.1 | exact h.tk.2.2.2.2.1.1 | exact h.tk.2.2.2.2.2.1.1 | exact h.tk.2.2.2.2.2.2.1.1 | exact h.tk.2.2.2.2.2.2.2.1 | exact h.tk2.1 | exact h.b.1.1) rfl rfl rfl rfl ⟨rfl, rfl, by decide, by decide⟩ (Nat.le_of_ble_eq_true rfl) ⟨by decide, by decide⟩ (fun r_36 V_36 h_36 => ?_)
  obtain ⟨rfl, y2⟩ := h_36
  refine j_cVu dX7_fitScene_39 hB mo_X0_search ml_X7_233 (sp_X0_search hB h.t0.2.2 (by omega) cT.st hW.1 hW.2.1 hcr.1 hcr.2.1 (by omega) (by omega)) (by first | exact h.k | exact hs.1 | exact hr.1 | exact hr.2.1.1 | exact hr.2.2.1.1 | exact hr.2.2.2.1.1 | exact hr.2.2.2.2.1.1 | exact hr.2.2.2.2.2.1.1 | exact hr.2.2.2.2.2.2.1.1 | exact hs.2.2.2.2.1.1 | exact hs.2.2.2.2.2.1.1 | exact hs.2.2.2.2.2.2.1.1 | exact h.t0.2.2 | exact h.rk.1 | exact h.rk.2.1.1 | exact h.rk.2.2.1.1 | exact h.rk.2.2.2.1.1 | exact h.rk.2.2.2.2.1 | exact h.tk.1 | exact h.tk.2.1.1 | exact h.tk.2.2.1.1 | exact h.tk.2.2.2.1.1 | exact h.tk.2.2.2.2.1.1 | exact h.tk.2.2.2.2.2.1.1 | exact h.tk.2.2.2.2.2.2.1.1 | exact h.tk.2.2.2.2.2.2.2.1 | exact h.tk2.1 | exact h.b.1.1) rfl rfl rfl rfl ⟨rfl, rfl, by decide, by decide⟩ (Nat.le_of_ble_eq_true rfl) ⟨by decide, by decide⟩ (fun V_39 h_39 => ?_)
  obtain ⟨gC, aC⟩ := h_39
  rw [y2, hb] at gC
  have cC := cT.ch aC
  have e1 : V_39 (q + 491) 0 = Int32.ofInt b.1 := Int32.toInt_inj.mp (by rw [gC.1, o1])
  have e2 : V_39 (q + 491) 1 = Int32.ofInt b.2.1 := Int32.toInt_inj.mp (by rw [gC.2.1, o2])
  have hr3 := cC.st.reel r.toInt
  have hr3 : ReelOK T V_39 (reelA (q + 1) r.toInt) (sR x.1 r.toInt) := hr3
  refine j_aload_n dX7_fitScene_42 rfl ?_
  refine j_getr dX7_fitScene_43 hB fl_X7_294 (by first | exact h.k | exact hs.1 | exact hr.1 | exact hr.2.1.1 | exact hr.2.2.1.1 | exact hr.2.2.2.1.1 | exact hr.2.2.2.2.1.1 | exact hr.2.2.2.2.2.1.1 | exact hr.2.2.2.2.2.2.1.1 | exact hs.2.2.2.2.1.1 | exact hs.2.2.2.2.2.1.1 | exact hs.2.2.2.2.2.2.1.1 | exact h.t0.2.2 | exact h.rk.1 | exact h.rk.2.1.1 | exact h.rk.2.2.1.1 | exact h.rk.2.2.2.1.1 | exact h.rk.2.2.2.2.1 | exact h.tk.1 | exact h.tk.2.1.1 | exact h.tk.2.2.1.1 | exact h.tk.2.2.2.1.1 | exact h.tk.2.2.2.2.1.1 | exact h.tk.2.2.2.2.2.1.1 | exact h.tk.2.2.2.2.2.2.1.1 | exact h.tk.2.2.2.2.2.2.2.1 | exact h.tk2.1 | exact h.b.1.1) (by rfl) ?_
  refine j_iload_n dX7_fitScene_46 rfl ?_
  refine j_cVi dX7_fitScene_47 hB mo_X3_at ml_X7_148 (sp_X3_at hB hr3.2.2.2.1) (by first | exact h.k | exact hs.1 | exact hr.1 | exact hr.2.1.1 | exact hr.2.2.1.1 | exact hr.2.2.2.1.1 | exact hr.2.2.2.2.1.1 | exact hr.2.2.2.2.2.1.1 | exact hr.2.2.2.2.2.2.1.1 | exact hs.2.2.2.2.1.1 | exact hs.2.2.2.2.2.1.1 | exact hs.2.2.2.2.2.2.1.1 | exact h.t0.2.2 | exact h.rk.1 | exact h.rk.2.1.1 | exact h.rk.2.2.1.1 | exact h.rk.2.2.2.1.1 | exact h.rk.2.2.2.2.1 | exact h.tk.1 | exact h.tk.2.1.1 | exact h.tk.2.2.1.1 | exact h.tk.2.2.2.1.1 | exact h.tk.2.2.2.2.1.1 | exact h.tk.2.2.2.2.2.1.1 | exact h.tk.2.2.2.2.2.2.1.1 | exact h.tk.2.2.2.2.2.2.2.1 | exact h.tk2.1 | exact h.b.1.1) rfl rfl rfl rfl ⟨rfl, rfl, by decide, by decide⟩ (Nat.le_of_ble_eq_true rfl) ⟨by decide, by decide⟩ (fun r_47 V_47 h_47 => ?_)
  obtain ⟨rfl, y3⟩ := h_47
  rw [hr3.2.2.2.2.2.2.2.2.2.1, hi] at y3
  refine j_aload_n dX7_fitScene_50 rfl ?_
  refine j_getr dX7_fitScene_51 hB fl_X7_49 (by first | exact h.k | exact hs.1 | exact hr.1 | exact hr.2.1.1 | exact hr.2.2.1.1 | exact hr.2.2.2.1.1 | exact hr.2.2.2.2.1.1 | exact hr.2.2.2.2.2.1.1 | exact hr.2.2.2.2.2.2.1.1 | exact hs.2.2.2.2.1.1 | exact hs.2.2.2.2.2.1.1 | exact hs.2.2.2.2.2.2.1.1 | exact h.t0.2.2 | exact h.rk.1 | exact h.rk.2.1.1 | exact h.rk.2.2.1.1 | exact h.rk.2.2.2.1.1 | exact h.rk.2.2.2.2.1 | exact h.tk.1 | exact h.tk.2.1.1 | exact h.tk.2.2.1.1 | exact h.tk.2.2.2.1.1 | exact h.tk.2.2.2.2.1.1 | exact h.tk.2.2.2.2.2.1.1 | exact h.tk.2.2.2.2.2.2.1.1 | exact h.tk.2.2.2.2.2.2.2.1 | exact h.tk2.1 | exact h.b.1.1) (by rfl) ?_
  refine j_geti dX7_fitScene_54 hB fl_X7_237 (by first | exact h.k | exact hs.1 | exact hr.1 | exact hr.2.1.1 | exact hr.2.2.1.1 | exact hr.2.2.2.1.1 | exact hr.2.2.2.2.1.1 | exact hr.2.2.2.2.2.1.1 | exact hr.2.2.2.2.2.2.1.1 | exact hs.2.2.2.2.1.1 | exact hs.2.2.2.2.2.1.1 | exact hs.2.2.2.2.2.2.1.1 | exact h.t0.2.2 | exact h.rk.1 | exact h.rk.2.1.1 | exact h.rk.2.2.1.1 | exact h.rk.2.2.2.1.1 | exact h.rk.2.2.2.2.1 | exact h.tk.1 | exact h.tk.2.1.1 | exact h.tk.2.2.1.1 | exact h.tk.2.2.2.1.1 | exact h.tk.2.2.2.2.1.1 | exact h.tk.2.2.2.2.2.1.1 | exact h.tk.2.2.2.2.2.2.1.1 | exact h.tk.2.2.2.2.2.2.2.1 | exact h.tk2.1 | exact h.b.1.1) (by rfl) ?_
  refine j_icmp_ne (tgt := 78) dX7_fitScene_57 (by decide) (fun c_57 => ?_) (fun c_57 => ?_)
  · refine j_iconst (v := 1) dX7_fitScene_78 (by decide) ?_
    refine j_goto (tgt := 83) dX7_fitScene_79 (by decide) ?_
    refine j_istore (L' := [(0, _), (1, _), (2, _), (3, _), (4, _)]) dX7_fitScene_83 (by decide) rfl ?_
    refine j_aload_n dX7_fitScene_85 rfl ?_
    refine j_iload_n dX7_fitScene_86 rfl ?_
    refine j_iload_n dX7_fitScene_87 rfl ?_
    refine j_aload_n dX7_fitScene_88 rfl ?_
    refine j_getr dX7_fitScene_89 hB fl_X7_49 (by first | exact h.k | exact hs.1 | exact hr.1 | exact hr.2.1.1 | exact hr.2.2.1.1 | exact hr.2.2.2.1.1 | exact hr.2.2.2.2.1.1 | exact hr.2.2.2.2.2.1.1 | exact hr.2.2.2.2.2.2.1.1 | exact hs.2.2.2.2.1.1 | exact hs.2.2.2.2.2.1.1 | exact hs.2.2.2.2.2.2.1.1 | exact h.t0.2.2 | exact h.rk.1 | exact h.rk.2.1.1 | exact h.rk.2.2.1.1 | exact h.rk.2.2.2.1.1 | exact h.rk.2.2.2.2.1 | exact h.tk.1 | exact h.tk.2.1.1 | exact h.tk.2.2.1.1 | exact h.tk.2.2.2.1.1 | exact h.tk.2.2.2.2.1.1 | exact h.tk.2.2.2.2.2.1.1 | exact h.tk.2.2.2.2.2.2.1.1 | exact h.tk.2.2.2.2.2.2.2.1 | exact h.tk2.1 | exact h.b.1.1) (by rfl) ?_
    refine j_geti dX7_fitScene_92 hB fl_X7_237 (by first | exact h.k | exact hs.1 | exact hr.1 | exact hr.2.1.1 | exact hr.2.2.1.1 | exact hr.2.2.2.1.1 | exact hr.2.2.2.2.1.1 | exact hr.2.2.2.2.2.1.1 | exact hr.2.2.2.2.2.2.1.1 | exact hs.2.2.2.2.1.1 | exact hs.2.2.2.2.2.1.1 | exact hs.2.2.2.2.2.2.1.1 | exact h.t0.2.2 | exact h.rk.1 | exact h.rk.2.1.1 | exact h.rk.2.2.1.1 | exact h.rk.2.2.2.1.1 | exact h.rk.2.2.2.2.1 | exact h.tk.1 | exact h.tk.2.1.1 | exact h.tk.2.2.1.1 | exact h.tk.2.2.2.1.1 | exact h.tk.2.2.2.2.1.1 | exact h.tk.2.2.2.2.2.1.1 | exact h.tk.2.2.2.2.2.2.1.1 | exact h.tk.2.2.2.2.2.2.2.1 | exact h.tk2.1 | exact h.b.1.1) (by rfl) ?_
    refine j_aload_n dX7_fitScene_95 rfl ?_
    refine j_getr dX7_fitScene_96 hB fl_X7_49 (by first | exact h.k | exact hs.1 | exact hr.1 | exact hr.2.1.1 | exact hr.2.2.1.1 | exact hr.2.2.2.1.1 | exact hr.2.2.2.2.1.1 | exact hr.2.2.2.2.2.1.1 | exact hr.2.2.2.2.2.2.1.1 | exact hs.2.2.2.2.1.1 | exact hs.2.2.2.2.2.1.1 | exact hs.2.2.2.2.2.2.1.1 | exact h.t0.2.2 | exact h.rk.1 | exact h.rk.2.1.1 | exact h.rk.2.2.1.1 | exact h.rk.2.2.2.1.1 | exact h.rk.2.2.2.2.1 | exact h.tk.1 | exact h.tk.2.1.1 | exact h.tk.2.2.1.1 | exact h.tk.2.2.2.1.1 | exact h.tk.2.2.2.2.1.1 | exact h.tk.2.2.2.2.2.1.1 | exact h.tk.2.2.2.2.2.2.1.1 | exact h.tk.2.2.2.2.2.2.2.1 | exact h.tk2.1 | exact h.b.1.1) (by rfl) ?_
    refine j_geti dX7_fitScene_99 hB fl_X7_239 (by first | exact h.k | exact hs.1 | exact hr.1 | exact hr.2.1.1 | exact hr.2.2.1.1 | exact hr.2.2.2.1.1 | exact hr.2.2.2.2.1.1 | exact hr.2.2.2.2.2.1.1 | exact hr.2.2.2.2.2.2.1.1 | exact hs.2.2.2.2.1.1 | exact hs.2.2.2.2.2.1.1 | exact hs.2.2.2.2.2.2.1.1 | exact h.t0.2.2 | exact h.rk.1 | exact h.rk.2.1.1 | exact h.rk.2.2.1.1 | exact h.rk.2.2.2.1.1 | exact h.rk.2.2.2.2.1 | exact h.tk.1 | exact h.tk.2.1.1 | exact h.tk.2.2.1.1 | exact h.tk.2.2.2.1.1 | exact h.tk.2.2.2.2.1.1 | exact h.tk.2.2.2.2.2.1.1 | exact h.tk.2.2.2.2.2.2.1.1 | exact h.tk.2.2.2.2.2.2.2.1 | exact h.tk2.1 | exact h.b.1.1) (by rfl) ?_
    refine j_cVu dX7_fitScene_102 hB mo_X2_giveCue ml_X7_138 (sp_X2_giveCue hB hr3) (by first | exact h.k | exact hs.1 | exact hr.1 | exact hr.2.1.1 | exact hr.2.2.1.1 | exact hr.2.2.2.1.1 | exact hr.2.2.2.2.1.1 | exact hr.2.2.2.2.2.1.1 | exact hr.2.2.2.2.2.2.1.1 | exact hs.2.2.2.2.1.1 | exact hs.2.2.2.2.2.1.1 | exact hs.2.2.2.2.2.2.1.1 | exact h.t0.2.2 | exact h.rk.1 | exact h.rk.2.1.1 | exact h.rk.2.2.1.1 | exact h.rk.2.2.2.1.1 | exact h.rk.2.2.2.2.1 | exact h.tk.1 | exact h.tk.2.1.1 | exact h.tk.2.2.1.1 | exact h.tk.2.2.2.1.1 | exact h.tk.2.2.2.2.1.1 | exact h.tk.2.2.2.2.2.1.1 | exact h.tk.2.2.2.2.2.2.1.1 | exact h.tk.2.2.2.2.2.2.2.1 | exact h.tk2.1 | exact h.b.1.1) rfl rfl rfl rfl ⟨rfl, rfl, by decide, by decide⟩ (Nat.le_of_ble_eq_true rfl) ⟨by decide, by decide⟩ (fun V_102 h_102 => ?_)
    obtain ⟨g2, a2⟩ := h_102
    rw [e1, e2, hi] at g2
    have h7 := cC.setR' a2 g2
    refine j_iload dX7_fitScene_105 rfl ?_
    refine j_iret dX7_fitScene_107 rfl (by decide) (by decide) (by decide) ?_
    refine ⟨_, rfl, rfl, rfl, rfl, ?_, by rw [hfs]; exact h7.1, ((aT.wide (by omega) (by omega)).tr (aC.wide (by omega) (by omega))).tr h7.2⟩
    refine Or.inl ⟨rfl, ?_⟩
    rw [hfs]
    exact if_neg (fun z => c_57 (Int32.toInt_inj.mp (by rw [y3, z.1, e1, o1])))
  · refine j_aload_n dX7_fitScene_60 rfl ?_
    refine j_getr dX7_fitScene_61 hB fl_X7_295 (by first | exact h.k | exact hs.1 | exact hr.1 | exact hr.2.1.1 | exact hr.2.2.1.1 | exact hr.2.2.2.1.1 | exact hr.2.2.2.2.1.1 | exact hr.2.2.2.2.2.1.1 | exact hr.2.2.2.2.2.2.1.1 | exact hs.2.2.2.2.1.1 | exact hs.2.2.2.2.2.1.1 | exact hs.2.2.2.2.2.2.1.1 | exact h.t0.2.2 | exact h.rk.1 | exact h.rk.2.1.1 | exact h.rk.2.2.1.1 | exact h.rk.2.2.2.1.1 | exact h.rk.2.2.2.2.1 | exact h.tk.1 | exact h.tk.2.1.1 | exact h.tk.2.2.1.1 | exact h.tk.2.2.2.1.1 | exact h.tk.2.2.2.2.1.1 | exact h.tk.2.2.2.2.2.1.1 | exact h.tk.2.2.2.2.2.2.1.1 | exact h.tk.2.2.2.2.2.2.2.1 | exact h.tk2.1 | exact h.b.1.1) (by rfl) ?_
    refine j_iload_n dX7_fitScene_64 rfl ?_
    refine j_cVi dX7_fitScene_65 hB mo_X3_at ml_X7_148 (sp_X3_at hB hr3.2.2.2.2.1) (by first | exact h.k | exact hs.1 | exact hr.1 | exact hr.2.1.1 | exact hr.2.2.1.1 | exact hr.2.2.2.1.1 | exact hr.2.2.2.2.1.1 | exact hr.2.2.2.2.2.1.1 | exact hr.2.2.2.2.2.2.1.1 | exact hs.2.2.2.2.1.1 | exact hs.2.2.2.2.2.1.1 | exact hs.2.2.2.2.2.2.1.1 | exact h.t0.2.2 | exact h.rk.1 | exact h.rk.2.1.1 | exact h.rk.2.2.1.1 | exact h.rk.2.2.2.1.1 | exact h.rk.2.2.2.2.1 | exact h.tk.1 | exact h.tk.2.1.1 | exact h.tk.2.2.1.1 | exact h.tk.2.2.2.1.1 | exact h.tk.2.2.2.2.1.1 | exact h.tk.2.2.2.2.2.1.1 | exact h.tk.2.2.2.2.2.2.1.1 | exact h.tk.2.2.2.2.2.2.2.1 | exact h.tk2.1 | exact h.b.1.1) rfl rfl rfl rfl ⟨rfl, rfl, by decide, by decide⟩ (Nat.le_of_ble_eq_true rfl) ⟨by decide, by decide⟩ (fun r_65 V_65 h_65 => ?_)
    obtain ⟨rfl, y4⟩ := h_65
    rw [hr3.2.2.2.2.2.2.2.2.2.2, hi] at y4
    refine j_aload_n dX7_fitScene_68 rfl ?_
    refine j_getr dX7_fitScene_69 hB fl_X7_49 (by first | exact h.k | exact hs.1 | exact hr.1 | exact hr.2.1.1 | exact hr.2.2.1.1 | exact hr.2.2.2.1.1 | exact hr.2.2.2.2.1.1 | exact hr.2.2.2.2.2.1.1 | exact hr.2.2.2.2.2.2.1.1 | exact hs.2.2.2.2.1.1 | exact hs.2.2.2.2.2.1.1 | exact hs.2.2.2.2.2.2.1.1 | exact h.t0.2.2 | exact h.rk.1 | exact h.rk.2.1.1 | exact h.rk.2.2.1.1 | exact h.rk.2.2.2.1.1 | exact h.rk.2.2.2.2.1 | exact h.tk.1 | exact h.tk.2.1.1 | exact h.tk.2.2.1.1 | exact h.tk.2.2.2.1.1 | exact h.tk.2.2.2.2.1.1 | exact h.tk.2.2.2.2.2.1.1 | exact h.tk.2.2.2.2.2.2.1.1 | exact h.tk.2.2.2.2.2.2.2.1 | exact h.tk2.1 | exact h.b.1.1) (by rfl) ?_
    refine j_geti dX7_fitScene_72 hB fl_X7_239 (by first | exact h.k | exact hs.1 | exact hr.1 | exact hr.2.1.1 | exact hr.2.2.1.1 | exact hr.2.2.2.1.1 | exact hr.2.2.2.2.1.1 | exact hr.2.2.2.2.2.1.1 | exact hr.2.2.2.2.2.2.1.1 | exact hs.2.2.2.2.1.1 | exact hs.2.2.2.2.2.1.1 | exact hs.2.2.2.2.2.2.1.1 | exact h.t0.2.2 | exact h.rk.1 | exact h.rk.2.1.1 | exact h.rk.2.2.1.1 | exact h.rk.2.2.2.1.1 | exact h.rk.2.2.2.2.1 | exact h.tk.1 | exact h.tk.2.1.1 | exact h.tk.2.2.1.1 | exact h.tk.2.2.2.1.1 | exact h.tk.2.2.2.2.1.1 | exact h.tk.2.2.2.2.2.1.1 | exact h.tk.2.2.2.2.2.2.1.1 | exact h.tk.2.2.2.2.2.2.2.1 | exact h.tk2.1 | exact h.b.1.1) (by rfl) ?_
    refine j_icmp_eq (tgt := 82) dX7_fitScene_75 (by decide) (fun c_75 => ?_) (fun c_75 => ?_)
    · refine j_iconst (v := 0) dX7_fitScene_82 (by decide) ?_
      refine j_istore (L' := [(0, _), (1, _), (2, _), (3, _), (4, _)]) dX7_fitScene_83 (by decide) rfl ?_
      refine j_aload_n dX7_fitScene_85 rfl ?_
      refine j_iload_n dX7_fitScene_86 rfl ?_
      refine j_iload_n dX7_fitScene_87 rfl ?_
      refine j_aload_n dX7_fitScene_88 rfl ?_
      refine j_getr dX7_fitScene_89 hB fl_X7_49 (by first | exact h.k | exact hs.1 | exact hr.1 | exact hr.2.1.1 | exact hr.2.2.1.1 | exact hr.2.2.2.1.1 | exact hr.2.2.2.2.1.1 | exact hr.2.2.2.2.2.1.1 | exact hr.2.2.2.2.2.2.1.1 | exact hs.2.2.2.2.1.1 | exact hs.2.2.2.2.2.1.1 | exact hs.2.2.2.2.2.2.1.1 | exact h.t0.2.2 | exact h.rk.1 | exact h.rk.2.1.1 | exact h.rk.2.2.1.1 | exact h.rk.2.2.2.1.1 | exact h.rk.2.2.2.2.1 | exact h.tk.1 | exact h.tk.2.1.1 | exact h.tk.2.2.1.1 | exact h.tk.2.2.2.1.1 | exact h.tk.2.2.2.2.1.1 | exact h.tk.2.2.2.2.2.1.1 | exact h.tk.2.2.2.2.2.2.1.1 | exact h.tk.2.2.2.2.2.2.2.1 | exact h.tk2.1 | exact h.b.1.1) (by rfl) ?_
      refine j_geti dX7_fitScene_92 hB fl_X7_237 (by first | exact h.k | exact hs.1 | exact hr.1 | exact hr.2.1.1 | exact hr.2.2.1.1 | exact hr.2.2.2.1.1 | exact hr.2.2.2.2.1.1 | exact hr.2.2.2.2.2.1.1 | exact hr.2.2.2.2.2.2.1.1 | exact hs.2.2.2.2.1.1 | exact hs.2.2.2.2.2.1.1 | exact hs.2.2.2.2.2.2.1.1 | exact h.t0.2.2 | exact h.rk.1 | exact h.rk.2.1.1 | exact h.rk.2.2.1.1 | exact h.rk.2.2.2.1.1 | exact h.rk.2.2.2.2.1 | exact h.tk.1 | exact h.tk.2.1.1 | exact h.tk.2.2.1.1 | exact h.tk.2.2.2.1.1 | exact h.tk.2.2.2.2.1.1 | exact h.tk.2.2.2.2.2.1.1 | exact h.tk.2.2.2.2.2.2.1.1 | exact h.tk.2.2.2.2.2.2.2.1 | exact h.tk2.1 | exact h.b.1.1) (by rfl) ?_
      refine j_aload_n dX7_fitScene_95 rfl ?_
      refine j_getr dX7_fitScene_96 hB fl_X7_49 (by first | exact h.k | exact hs.1 | exact hr.1 | exact hr.2.1.1 | exact hr.2.2.1.1 | exact hr.2.2.2.1.1 | exact hr.2.2.2.2.1.1 | exact hr.2.2.2.2.2.1.1 | exact hr.2.2.2.2.2.2.1.1 | exact hs.2.2.2.2.1.1 | exact hs.2.2.2.2.2.1.1 | exact hs.2.2.2.2.2.2.1.1 | exact h.t0.2.2 | exact h.rk.1 | exact h.rk.2.1.1 | exact h.rk.2.2.1.1 | exact h.rk.2.2.2.1.1 | exact h.rk.2.2.2.2.1 | exact h.tk.1 | exact h.tk.2.1.1 | exact h.tk.2.2.1.1 | exact h.tk.2.2.2.1.1 | exact h.tk.2.2.2.2.1.1 | exact h.tk.2.2.2.2.2.1.1 | exact h.tk.2.2.2.2.2.2.1.1 | exact h.tk.2.2.2.2.2.2.2.1 | exact h.tk2.1 | exact h.b.1.1) (by rfl) ?_
      refine j_geti dX7_fitScene_99 hB fl_X7_239 (by first | exact h.k | exact hs.1 | exact hr.1 | exact hr.2.1.1 | exact hr.2.2.1.1 | exact hr.2.2.2.1.1 | exact hr.2.2.2.2.1.1 | exact hr.2.2.2.2.2.1.1 | exact hr.2.2.2.2.2.2.1.1 | exact hs.2.2.2.2.1.1 | exact hs.2.2.2.2.2.1.1 | exact hs.2.2.2.2.2.2.1.1 | exact h.t0.2.2 | exact h.rk.1 | exact h.rk.2.1.1 | exact h.rk.2.2.1.1 | exact h.rk.2.2.2.1.1 | exact h.rk.2.2.2.2.1 | exact h.tk.1 | exact h.tk.2.1.1 | exact h.tk.2.2.1.1 | exact h.tk.2.2.2.1.1 | exact h.tk.2.2.2.2.1.1 | exact h.tk.2.2.2.2.2.1.1 | exact h.tk.2.2.2.2.2.2.1.1 | exact h.tk.2.2.2.2.2.2.2.1 | exact h.tk2.1 | exact h.b.1.1) (by rfl) ?_
      refine j_cVu dX7_fitScene_102 hB mo_X2_giveCue ml_X7_138 (sp_X2_giveCue hB hr3) (by first | exact h.k | exact hs.1 | exact hr.1 | exact hr.2.1.1 | exact hr.2.2.1.1 | exact hr.2.2.2.1.1 | exact hr.2.2.2.2.1.1 | exact hr.2.2.2.2.2.1.1 | exact hr.2.2.2.2.2.2.1.1 | exact hs.2.2.2.2.1.1 | exact hs.2.2.2.2.2.1.1 | exact hs.2.2.2.2.2.2.1.1 | exact h.t0.2.2 | exact h.rk.1 | exact h.rk.2.1.1 | exact h.rk.2.2.1.1 | exact h.rk.2.2.2.1.1 | exact h.rk.2.2.2.2.1 | exact h.tk.1 | exact h.tk.2.1.1 | exact h.tk.2.2.1.1 | exact h.tk.2.2.2.1.1 | exact h.tk.2.2.2.2.1.1 | exact h.tk.2.2.2.2.2.1.1 | exact h.tk.2.2.2.2.2.2.1.1 | exact h.tk.2.2.2.2.2.2.2.1 | exact h.tk2.1 | exact h.b.1.1) rfl rfl rfl rfl ⟨rfl, rfl, by decide, by decide⟩ (Nat.le_of_ble_eq_true rfl) ⟨by decide, by decide⟩ (fun V_102 h_102 => ?_)
      obtain ⟨g2, a2⟩ := h_102
      rw [e1, e2, hi] at g2
      have h7 := cC.setR' a2 g2
      refine j_iload dX7_fitScene_105 rfl ?_
      refine j_iret dX7_fitScene_107 rfl (by decide) (by decide) (by decide) ?_
      refine ⟨_, rfl, rfl, rfl, rfl, ?_, by rw [hfs]; exact h7.1, ((aT.wide (by omega) (by omega)).tr (aC.wide (by omega) (by omega))).tr h7.2⟩
      refine Or.inr ⟨rfl, ?_⟩
      rw [hfs]
      refine if_pos ⟨?_, ?_⟩
      · rw [← y3, c_57, e1, o1]
      · rw [← y4, c_75, e2, o2]
    · refine j_iconst (v := 1) dX7_fitScene_78 (by decide) ?_
      refine j_goto (tgt := 83) dX7_fitScene_79 (by decide) ?_
      refine j_istore (L' := [(0, _), (1, _), (2, _), (3, _), (4, _)]) dX7_fitScene_83 (by decide) rfl ?_
      refine j_aload_n dX7_fitScene_85 rfl ?_
      refine j_iload_n dX7_fitScene_86 rfl ?_
      refine j_iload_n dX7_fitScene_87 rfl ?_
      refine j_aload_n dX7_fitScene_88 rfl ?_
      refine j_getr dX7_fitScene_89 hB fl_X7_49 (by first | exact h.k | exact hs.1 | exact hr.1 | exact hr.2.1.1 | exact hr.2.2.1.1 | exact hr.2.2.2.1.1 | exact hr.2.2.2.2.1.1 | exact hr.2.2.2.2.2.1.1 | exact hr.2.2.2.2.2.2.1.1 | exact hs.2.2.2.2.1.1 | exact hs.2.2.2.2.2.1.1 | exact hs.2.2.2.2.2.2.1.1 | exact h.t0.2.2 | exact h.rk.1 | exact h.rk.2.1.1 | exact h.rk.2.2.1.1 | exact h.rk.2.2.2.1.1 | exact h.rk.2.2.2.2.1 | exact h.tk.1 | exact h.tk.2.1.1 | exact h.tk.2.2.1.1 | exact h.tk.2.2.2.1.1 | exact h.tk.2.2.2.2.1.1 | exact h.tk.2.2.2.2.2.1.1 | exact h.tk.2.2.2.2.2.2.1.1 | exact h.tk.2.2.2.2.2.2.2.1 | exact h.tk2.1 | exact h.b.1.1) (by rfl) ?_
      refine j_geti dX7_fitScene_92 hB fl_X7_237 (by first | exact h.k | exact hs.1 | exact hr.1 | exact hr.2.1.1 | exact hr.2.2.1.1 | exact hr.2.2.2.1.1 | exact hr.2.2.2.2.1.1 | exact hr.2.2.2.2.2.1.1 | exact hr.2.2.2.2.2.2.1.1 | exact hs.2.2.2.2.1.1 | exact hs.2.2.2.2.2.1.1 | exact hs.2.2.2.2.2.2.1.1 | exact h.t0.2.2 | exact h.rk.1 | exact h.rk.2.1.1 | exact h.rk.2.2.1.1 | exact h.rk.2.2.2.1.1 | exact h.rk.2.2.2.2.1 | exact h.tk.1 | exact h.tk.2.1.1 | exact h.tk.2.2.1.1 | exact h.tk.2.2.2.1.1 | exact h.tk.2.2.2.2.1.1 | exact h.tk.2.2.2.2.2.1.1 | exact h.tk.2.2.2.2.2.2.1.1 | exact h.tk.2.2.2.2.2.2.2.1 | exact h.tk2.1 | exact h.b.1.1) (by rfl) ?_
      refine j_aload_n dX7_fitScene_95 rfl ?_
      refine j_getr dX7_fitScene_96 hB fl_X7_49 (by first | exact h.k | exact hs.1 | exact hr.1 | exact hr.2.1.1 | exact hr.2.2.1.1 | exact hr.2.2.2.1.1 | exact hr.2.2.2.2.1.1 | exact hr.2.2.2.2.2.1.1 | exact hr.2.2.2.2.2.2.1.1 | exact hs.2.2.2.2.1.1 | exact hs.2.2.2.2.2.1.1 | exact hs.2.2.2.2.2.2.1.1 | exact h.t0.2.2 | exact h.rk.1 | exact h.rk.2.1.1 | exact h.rk.2.2.1.1 | exact h.rk.2.2.2.1.1 | exact h.rk.2.2.2.2.1 | exact h.tk.1 | exact h.tk.2.1.1 | exact h.tk.2.2.1.1 | exact h.tk.2.2.2.1.1 | exact h.tk.2.2.2.2.1.1 | exact h.tk.2.2.2.2.2.1.1 | exact h.tk.2.2.2.2.2.2.1.1 | exact h.tk.2.2.2.2.2.2.2.1 | exact h.tk2.1 | exact h.b.1.1) (by rfl) ?_
      refine j_geti dX7_fitScene_99 hB fl_X7_239 (by first | exact h.k | exact hs.1 | exact hr.1 | exact hr.2.1.1 | exact hr.2.2.1.1 | exact hr.2.2.2.1.1 | exact hr.2.2.2.2.1.1 | exact hr.2.2.2.2.2.1.1 | exact hr.2.2.2.2.2.2.1.1 | exact hs.2.2.2.2.1.1 | exact hs.2.2.2.2.2.1.1 | exact hs.2.2.2.2.2.2.1.1 | exact h.t0.2.2 | exact h.rk.1 | exact h.rk.2.1.1 | exact h.rk.2.2.1.1 | exact h.rk.2.2.2.1.1 | exact h.rk.2.2.2.2.1 | exact h.tk.1 | exact h.tk.2.1.1 | exact h.tk.2.2.1.1 | exact h.tk.2.2.2.1.1 | exact h.tk.2.2.2.2.1.1 | exact h.tk.2.2.2.2.2.1.1 | exact h.tk.2.2.2.2.2.2.1.1 | exact h.tk.2.2.2.2.2.2.2.1 | exact h.tk2.1 | exact h.b.1.1) (by rfl) ?_
      refine j_cVu dX7_fitScene_102 hB mo_X2_giveCue ml_X7_138 (sp_X2_giveCue hB hr3) (by first | exact h.k | exact hs.1 | exact hr.1 | exact hr.2.1.1 | exact hr.2.2.1.1 | exact hr.2.2.2.1.1 | exact hr.2.2.2.2.1.1 | exact hr.2.2.2.2.2.1.1 | exact hr.2.2.2.2.2.2.1.1 | exact hs.2.2.2.2.1.1 | exact hs.2.2.2.2.2.1.1 | exact hs.2.2.2.2.2.2.1.1 | exact h.t0.2.2 | exact h.rk.1 | exact h.rk.2.1.1 | exact h.rk.2.2.1.1 | exact h.rk.2.2.2.1.1 | exact h.rk.2.2.2.2.1 | exact h.tk.1 | exact h.tk.2.1.1 | exact h.tk.2.2.1.1 | exact h.tk.2.2.2.1.1 | exact h.tk.2.2.2.2.1.1 | exact h.tk.2.2.2.2.2.1.1 | exact h.tk.2.2.2.2.2.2.1.1 | exact h.tk.2.2.2.2.2.2.2.1 | exact h.tk2.1 | exact h.b.1.1) rfl rfl rfl rfl ⟨rfl, rfl, by decide, by decide⟩ (Nat.le_of_ble_eq_true rfl) ⟨by decide, by decide⟩ (fun V_102 h_102 => ?_)
      obtain ⟨g2, a2⟩ := h_102
      rw [e1, e2, hi] at g2
      have h7 := cC.setR' a2 g2
      refine j_iload dX7_fitScene_105 rfl ?_
      refine j_iret dX7_fitScene_107 rfl (by decide) (by decide) (by decide) ?_
      refine ⟨_, rfl, rfl, rfl, rfl, ?_, by rw [hfs]; exact h7.1, ((aT.wide (by omega) (by omega)).tr (aC.wide (by omega) (by omega))).tr h7.2⟩
      refine Or.inl ⟨rfl, ?_⟩
      rw [hfs]
      exact if_neg (fun z => c_75 (Int32.toInt_inj.mp (by rw [y4, z.2, e2, o2])))
set_option maxRecDepth 100000 in
set_option maxHeartbeats 4000000 in
theorem sp_X7_fit (hB : jB l s0 D) {q : Nat} {x : aX} {r : Int32} (h : cuIs T V q x) (hW : xW x) : Sp l s0 D kX7_fit (jR 8 1 6) 1 6 [.ref q, .int r] T V X sz (qC T V X sz q (e_fit r) [IO] (pInt (v_fit x r)) x (s_fit x r)) := by
  refine Sp.of pn_X7_fit rfl (Nat.le_of_ble_eq_true rfl) ?_
  have hs := h.st
  have hr := hs.reel r.toInt
  have hlen10 := (hW.1.r r.toInt).2.2.2.1
  have loop : ∀ (n k : Nat) (i y : Int32) (V1 : jV) (L : List (Nat × Value)), rOk r → L.lookup 0 = some (.ref q) → L.lookup 1 = some (.int r) → L.lookup 2 = some (.ref (reelA (q + 1) r.toInt)) → L.lookup 3 = some (.int y) → L.lookup 4 = some (.int i) → i.toInt = k → k + n = (sR x.1 r.toInt).1.length → y.toInt = (fitN x.1 r.toInt k).2 → cuIs T V1 q ((fitN x.1 r.toInt k).1, xPush x, x.2.2) → jAg V V1 q (q + 492) → J l s0 D kX7_fit (jR 8 1 6) 1 6 (qC T V X sz q (e_fit r) [IO] (pInt (v_fit x r)) x (s_fit x r)) 23 L [] T V1 X sz (0 + 1) (0 + 6) := by
    intro n
    induction n with
    | zero =>
      intro k i y V1 L hrk l0 l1 l2 l3 l4 hi hk hy hc ha
      obtain ⟨w1, w2, w3, w4, w5⟩ := fitN_W (z := r.toInt) hW.1 k (by omega)
      have hr1 := hc.st.reel r.toInt
      refine j_sub2 (L' := [(0, .ref q), (1, .int r), (2, .ref (reelA (q + 1) r.toInt)), (3, .int y), (4, .int i)]) (List.forall_mem_cons.mpr ⟨l0, List.forall_mem_cons.mpr ⟨l1, List.forall_mem_cons.mpr ⟨l2, List.forall_mem_cons.mpr ⟨l3, List.forall_mem_cons.mpr ⟨l4, fun _ h9 => nomatch h9⟩⟩⟩⟩⟩) ?_
      refine j_iload dX7_fit_23 rfl ?_
      refine j_aload_n dX7_fit_25 rfl ?_
      refine j_cVi dX7_fit_26 hB mo_X2_scenes ml_X7_64 (sp_X2_scenes hB hr1) (by first | exact h.k | exact hs.1 | exact hr.1 | exact hr.2.1.1 | exact hr.2.2.1.1 | exact hr.2.2.2.1.1 | exact hr.2.2.2.2.1.1 | exact hr.2.2.2.2.2.1.1 | exact hr.2.2.2.2.2.2.1.1 | exact hs.2.2.2.2.1.1 | exact hs.2.2.2.2.2.1.1 | exact hs.2.2.2.2.2.2.1.1 | exact h.t0.2.2 | exact h.rk.1 | exact h.rk.2.1.1 | exact h.rk.2.2.1.1 | exact h.rk.2.2.2.1.1 | exact h.rk.2.2.2.2.1 | exact h.tk.1 | exact h.tk.2.1.1 | exact h.tk.2.2.1.1 | exact h.tk.2.2.2.1.1 | exact h.tk.2.2.2.2.1.1 | exact h.tk.2.2.2.2.2.1.1 | exact h.tk.2.2.2.2.2.2.1.1 | exact h.tk.2.2.2.2.2.2.2.1 | exact h.tk2.1 | exact h.b.1.1) rfl rfl rfl rfl ⟨rfl, rfl, by decide, by decide⟩ (Nat.le_of_ble_eq_true rfl) ⟨by decide, by decide⟩ (fun r_26 V_26 h_26 => ?_)
      obtain ⟨rfl, hn⟩ := h_26
      have hn : r_26.toInt = ((sR (fitN x.1 r.toInt k).1 r.toInt).1.length : Int) := hn
      rw [w2] at hn
      refine j_icmp_ge (tgt := 60) dX7_fit_29 (by decide) (fun c_29 => ?_) (fun c_29 => ?_)
      · refine j_iload_n dX7_fit_60 rfl ?_
        refine j_iret dX7_fit_61 rfl (rfl) (by decide) (by decide) ?_
        have hkl : k = (sR x.1 r.toInt).1.length := by omega
        exact qC.ret (by show e_fit r = 0; unfold e_fit; exact if_neg (fun z => z hrk)) ⟨_, rfl, by rw [hy, hkl]; rfl⟩ ha (by rw [hkl] at hc; exact hc)
      · exact absurd c_29 (by omega)
    | succ n ih =>
      intro k i y V1 L hrk l0 l1 l2 l3 l4 hi hk hy hc ha
      obtain ⟨w1, w2, w3, w4, w5⟩ := fitN_W (z := r.toInt) hW.1 k (by omega)
      have hr1 := hc.st.reel r.toInt
      refine j_sub2 (L' := [(0, .ref q), (1, .int r), (2, .ref (reelA (q + 1) r.toInt)), (3, .int y), (4, .int i)]) (List.forall_mem_cons.mpr ⟨l0, List.forall_mem_cons.mpr ⟨l1, List.forall_mem_cons.mpr ⟨l2, List.forall_mem_cons.mpr ⟨l3, List.forall_mem_cons.mpr ⟨l4, fun _ h9 => nomatch h9⟩⟩⟩⟩⟩) ?_
      refine j_iload dX7_fit_23 rfl ?_
      refine j_aload_n dX7_fit_25 rfl ?_
      refine j_cVi dX7_fit_26 hB mo_X2_scenes ml_X7_64 (sp_X2_scenes hB hr1) (by first | exact h.k | exact hs.1 | exact hr.1 | exact hr.2.1.1 | exact hr.2.2.1.1 | exact hr.2.2.2.1.1 | exact hr.2.2.2.2.1.1 | exact hr.2.2.2.2.2.1.1 | exact hr.2.2.2.2.2.2.1.1 | exact hs.2.2.2.2.1.1 | exact hs.2.2.2.2.2.1.1 | exact hs.2.2.2.2.2.2.1.1 | exact h.t0.2.2 | exact h.rk.1 | exact h.rk.2.1.1 | exact h.rk.2.2.1.1 | exact h.rk.2.2.2.1.1 | exact h.rk.2.2.2.2.1 | exact h.tk.1 | exact h.tk.2.1.1 | exact h.tk.2.2.1.1 | exact h.tk.2.2.2.1.1 | exact h.tk.2.2.2.2.1.1 | exact h.tk.2.2.2.2.2.1.1 | exact h.tk.2.2.2.2.2.2.1.1 | exact h.tk.2.2.2.2.2.2.2.1 | exact h.tk2.1 | exact h.b.1.1) rfl rfl rfl rfl ⟨rfl, rfl, by decide, by decide⟩ (Nat.le_of_ble_eq_true rfl) ⟨by decide, by decide⟩ (fun r_26 V_26 h_26 => ?_)
      obtain ⟨rfl, hn⟩ := h_26
      have hn : r_26.toInt = ((sR (fitN x.1 r.toInt k).1 r.toInt).1.length : Int) := hn
      rw [w2] at hn
      refine j_icmp_ge (tgt := 60) dX7_fit_29 (by decide) (fun c_29 => ?_) (fun c_29 => ?_)
      · exact absurd c_29 (by omega)
      · refine j_aload_n dX7_fit_32 rfl ?_
        refine j_iload dX7_fit_33 rfl ?_
        refine j_cVi dX7_fit_35 hB mo_X2_hasCue ml_X7_152 (sp_X2_hasCue hB hr1) (by first | exact h.k | exact hs.1 | exact hr.1 | exact hr.2.1.1 | exact hr.2.2.1.1 | exact hr.2.2.2.1.1 | exact hr.2.2.2.2.1.1 | exact hr.2.2.2.2.2.1.1 | exact hr.2.2.2.2.2.2.1.1 | exact hs.2.2.2.2.1.1 | exact hs.2.2.2.2.2.1.1 | exact hs.2.2.2.2.2.2.1.1 | exact h.t0.2.2 | exact h.rk.1 | exact h.rk.2.1.1 | exact h.rk.2.2.1.1 | exact h.rk.2.2.2.1.1 | exact h.rk.2.2.2.2.1 | exact h.tk.1 | exact h.tk.2.1.1 | exact h.tk.2.2.1.1 | exact h.tk.2.2.2.1.1 | exact h.tk.2.2.2.2.1.1 | exact h.tk.2.2.2.2.2.1.1 | exact h.tk.2.2.2.2.2.2.1.1 | exact h.tk.2.2.2.2.2.2.2.1 | exact h.tk2.1 | exact h.b.1.1) rfl rfl rfl rfl ⟨rfl, rfl, by decide, by decide⟩ (Nat.le_of_ble_eq_true rfl) ⟨by decide, by decide⟩ (fun r_35 V_35 h_35 => ?_)
        obtain ⟨rfl, hcu⟩ := h_35
        rw [hi] at hcu
        have hcu : r_35 = 1 ∧ ¬ atZ (sR (fitN x.1 r.toInt k).1 r.toInt).2.1 k = NN ∨ r_35 = 0 ∧ atZ (sR (fitN x.1 r.toInt k).1 r.toInt).2.1 k = NN := hcu
        refine j_if_eq (tgt := 54) dX7_fit_38 (by decide) (fun c_38 => ?_) (fun c_38 => ?_)
        · have hcue : atZ (sR x.1 r.toInt).2.1 k = NN := by rw [w3 k (Nat.le_refl k)] at hcu; rcases hcu with ⟨z, _⟩ | ⟨_, z⟩; (rw [z] at c_38; exact absurd c_38 (by decide)); exact z
          have hst : fitN x.1 r.toInt (k + 1) = fitN x.1 r.toInt k := if_pos hcue
          refine j_iinc (v := 1) (L' := [(0, _), (1, _), (2, _), (3, _), (4, _)]) dX7_fit_54 rfl (by decide) (by decide) rfl ?_
          refine j_goto (tgt := 23) dX7_fit_57 (by decide) ?_
          refine ih (k + 1) _ _ _ _ hrk rfl rfl rfl rfl rfl ?_ (by omega) ?_ ?_ ?_
          · rw [ti_add (by rw [ti_1]; omega) (by rw [ti_1]; omega), ti_1]; omega
          · rw [hst]; exact hy
          · rw [hst]; exact hc
          · exact ha
        · have hcue : ¬ atZ (sR (fitN x.1 r.toInt k).1 r.toInt).2.1 k = NN := by rcases hcu with ⟨_, z⟩ | ⟨z, _⟩; (exact z); exact absurd z c_38
          have hst : fitN x.1 r.toInt (k + 1) = ((fitS (fitN x.1 r.toInt k).1 r.toInt k).1, (fitN x.1 r.toInt k).2 + (fitS (fitN x.1 r.toInt k).1 r.toInt k).2) := if_neg (by rw [← w3 k (Nat.le_refl k)]; exact hcue)
          refine j_aload_n dX7_fit_41 rfl ?_
          refine j_aload_n dX7_fit_42 rfl ?_
          refine j_iload dX7_fit_43 rfl ?_
          refine j_cVi dX7_fit_45 hB mo_X7_fitScene ml_X7_155 (sp_X7_fitScene hB hc w1 hi (by show k < (sR (fitN x.1 r.toInt k).1 r.toInt).1.length; rw [w2]; omega) hcue) (by first | exact h.k | exact hs.1 | exact hr.1 | exact hr.2.1.1 | exact hr.2.2.1.1 | exact hr.2.2.2.1.1 | exact hr.2.2.2.2.1.1 | exact hr.2.2.2.2.2.1.1 | exact hr.2.2.2.2.2.2.1.1 | exact hs.2.2.2.2.1.1 | exact hs.2.2.2.2.2.1.1 | exact hs.2.2.2.2.2.2.1.1 | exact h.t0.2.2 | exact h.rk.1 | exact h.rk.2.1.1 | exact h.rk.2.2.1.1 | exact h.rk.2.2.2.1.1 | exact h.rk.2.2.2.2.1 | exact h.tk.1 | exact h.tk.2.1.1 | exact h.tk.2.2.1.1 | exact h.tk.2.2.2.1.1 | exact h.tk.2.2.2.2.1.1 | exact h.tk.2.2.2.2.2.1.1 | exact h.tk.2.2.2.2.2.2.1.1 | exact h.tk.2.2.2.2.2.2.2.1 | exact h.tk2.1 | exact h.b.1.1) rfl rfl rfl rfl ⟨rfl, rfl, by decide, by decide⟩ (Nat.le_of_ble_eq_true rfl) ⟨by decide, by decide⟩ (fun r_45 V_45 h_45 => ?_)
          obtain ⟨hch, gF, aF⟩ := h_45
          refine j_if_eq (tgt := 54) dX7_fit_48 (by decide) (fun c_48 => ?_) (fun c_48 => ?_)
          · refine j_iinc (v := 1) (L' := [(0, _), (1, _), (2, _), (3, _), (4, _)]) dX7_fit_54 rfl (by decide) (by decide) rfl ?_
            refine j_goto (tgt := 23) dX7_fit_57 (by decide) ?_
            refine ih (k + 1) _ _ _ _ hrk rfl rfl rfl rfl rfl ?_ (by omega) ?_ ?_ ?_
            · rw [ti_add (by rw [ti_1]; omega) (by rw [ti_1]; omega), ti_1]; omega
            · rw [hst]; rcases hch with ⟨z, z2⟩ | ⟨z, z2⟩
              · exact absurd (c_48.symm.trans z) (by decide)
              · show _ = _ + _; rw [z2]; omega
            · rw [hst]; exact gF
            · exact ha.tr aF
          · refine j_iinc (v := 1) (L' := [(0, _), (1, _), (2, _), (3, _), (4, _)]) dX7_fit_51 rfl (by decide) (by decide) rfl ?_
            refine j_iinc (v := 1) (L' := [(0, _), (1, _), (2, _), (3, _), (4, _)]) dX7_fit_54 rfl (by decide) (by decide) rfl ?_
            refine j_goto (tgt := 23) dX7_fit_57 (by decide) ?_
            refine ih (k + 1) _ _ _ _ hrk rfl rfl rfl rfl rfl ?_ (by omega) ?_ ?_ ?_
            · rw [ti_add (by rw [ti_1]; omega) (by rw [ti_1]; omega), ti_1]; omega
            · rw [hst]; rcases hch with ⟨z, z2⟩ | ⟨z, z2⟩
              · show _ = _ + _; rw [z2, ti_add (by rw [ti_1]; omega) (by rw [ti_1]; omega), ti_1, hy]
              · exact absurd z c_48
            · rw [hst]; exact gF
            · exact ha.tr aF
  refine j_aload_n dX7_fit_0 rfl ?_
  refine j_iload_n dX7_fit_1 rfl ?_
  refine j_tV dX7_fit_2 hB mo_X7_requireReel ml_X7_53 (sp_X7_requireReel hB) (by first | exact h.k | exact hs.1 | exact hr.1 | exact hr.2.1.1 | exact hr.2.2.1.1 | exact hr.2.2.2.1.1 | exact hr.2.2.2.2.1.1 | exact hr.2.2.2.2.2.1.1 | exact hr.2.2.2.2.2.2.1.1 | exact hs.2.2.2.2.1.1 | exact hs.2.2.2.2.2.1.1 | exact hs.2.2.2.2.2.2.1.1 | exact h.t0.2.2 | exact h.rk.1 | exact h.rk.2.1.1 | exact h.rk.2.2.1.1 | exact h.rk.2.2.2.1.1 | exact h.rk.2.2.2.2.1 | exact h.tk.1 | exact h.tk.2.1.1 | exact h.tk.2.2.1.1 | exact h.tk.2.2.2.1.1 | exact h.tk.2.2.2.2.1.1 | exact h.tk.2.2.2.2.2.1.1 | exact h.tk.2.2.2.2.2.2.1.1 | exact h.tk.2.2.2.2.2.2.2.1 | exact h.tk2.1 | exact h.b.1.1) rfl rfl rfl rfl ⟨rfl, rfl, by decide, by decide⟩ (Nat.le_of_ble_eq_true rfl) ⟨by decide, by decide⟩ rfl ⟨by decide, by decide⟩ (fun E V_2 sz_2 hz hx => by obtain ⟨rfl, rfl, hn⟩ := hx; exact qC.thr 0 hz rfl (by show e_fit r = 1; unfold e_fit; exact (if_pos hn)) jAg.rf h) (fun v_2 V_2 h_2 => ?_)
  obtain ⟨rfl, rfl, h_2⟩ := h_2
  refine j_aload_n dX7_fit_5 rfl ?_
  refine j_cVu dX7_fit_6 hB mo_X7_save ml_X7_77 (sp_X7_save hB h) (by first | exact h.k | exact hs.1 | exact hr.1 | exact hr.2.1.1 | exact hr.2.2.1.1 | exact hr.2.2.2.1.1 | exact hr.2.2.2.2.1.1 | exact hr.2.2.2.2.2.1.1 | exact hr.2.2.2.2.2.2.1.1 | exact hs.2.2.2.2.1.1 | exact hs.2.2.2.2.2.1.1 | exact hs.2.2.2.2.2.2.1.1 | exact h.t0.2.2 | exact h.rk.1 | exact h.rk.2.1.1 | exact h.rk.2.2.1.1 | exact h.rk.2.2.2.1.1 | exact h.rk.2.2.2.2.1 | exact h.tk.1 | exact h.tk.2.1.1 | exact h.tk.2.2.1.1 | exact h.tk.2.2.2.1.1 | exact h.tk.2.2.2.2.1.1 | exact h.tk.2.2.2.2.2.1.1 | exact h.tk.2.2.2.2.2.2.1.1 | exact h.tk.2.2.2.2.2.2.2.1 | exact h.tk2.1 | exact h.b.1.1) rfl rfl rfl rfl ⟨rfl, rfl, by decide, by decide⟩ (Nat.le_of_ble_eq_true rfl) ⟨by decide, by decide⟩ (fun V_6 h_6 => ?_)
  obtain ⟨gS, aS⟩ := h_6
  have aS := aS.wide (hi' := q + 492) (Nat.le_refl q) (by omega)
  refine j_aload_n dX7_fit_9 rfl ?_
  refine j_getr dX7_fit_10 hB fl_X7_10 (by first | exact h.k | exact hs.1 | exact hr.1 | exact hr.2.1.1 | exact hr.2.2.1.1 | exact hr.2.2.2.1.1 | exact hr.2.2.2.2.1.1 | exact hr.2.2.2.2.2.1.1 | exact hr.2.2.2.2.2.2.1.1 | exact hs.2.2.2.2.1.1 | exact hs.2.2.2.2.2.1.1 | exact hs.2.2.2.2.2.2.1.1 | exact h.t0.2.2 | exact h.rk.1 | exact h.rk.2.1.1 | exact h.rk.2.2.1.1 | exact h.rk.2.2.2.1.1 | exact h.rk.2.2.2.2.1 | exact h.tk.1 | exact h.tk.2.1.1 | exact h.tk.2.2.1.1 | exact h.tk.2.2.2.1.1 | exact h.tk.2.2.2.2.1.1 | exact h.tk.2.2.2.2.2.1.1 | exact h.tk.2.2.2.2.2.2.1.1 | exact h.tk.2.2.2.2.2.2.2.1 | exact h.tk2.1 | exact h.b.1.1) (by rfl) ?_
  refine j_iload_n dX7_fit_13 rfl ?_
  refine j_cVa dX7_fit_14 hB mo_X5_reelAt ml_X7_60 (sp_X5_reelAt hB gS.st) (by first | exact h.k | exact hs.1 | exact hr.1 | exact hr.2.1.1 | exact hr.2.2.1.1 | exact hr.2.2.2.1.1 | exact hr.2.2.2.2.1.1 | exact hr.2.2.2.2.2.1.1 | exact hr.2.2.2.2.2.2.1.1 | exact hs.2.2.2.2.1.1 | exact hs.2.2.2.2.2.1.1 | exact hs.2.2.2.2.2.2.1.1 | exact h.t0.2.2 | exact h.rk.1 | exact h.rk.2.1.1 | exact h.rk.2.2.1.1 | exact h.rk.2.2.2.1.1 | exact h.rk.2.2.2.2.1 | exact h.tk.1 | exact h.tk.2.1.1 | exact h.tk.2.2.1.1 | exact h.tk.2.2.2.1.1 | exact h.tk.2.2.2.2.1.1 | exact h.tk.2.2.2.2.2.1.1 | exact h.tk.2.2.2.2.2.2.1.1 | exact h.tk.2.2.2.2.2.2.2.1 | exact h.tk2.1 | exact h.b.1.1) rfl rfl rfl rfl ⟨rfl, rfl, by decide, by decide⟩ (Nat.le_of_ble_eq_true rfl) ⟨by decide, by decide⟩ (fun r_14 V_14 h_14 => ?_)
  obtain ⟨rfl, hq⟩ := h_14
  subst hq
  refine j_astore_n (L' := [(0, _), (1, _), (2, _)]) dX7_fit_17 (by decide) rfl ?_
  refine j_iconst (v := 0) dX7_fit_18 (by decide) ?_
  refine j_istore_n (L' := [(0, _), (1, _), (2, _), (3, _)]) dX7_fit_19 (by decide) rfl ?_
  refine j_iconst (v := 0) dX7_fit_20 (by decide) ?_
  refine j_istore (L' := [(0, _), (1, _), (2, _), (3, _), (4, _)]) dX7_fit_21 (by decide) rfl ?_
  exact loop (sR x.1 r.toInt).1.length 0 0 0 V_6 _ h_2 rfl rfl rfl rfl rfl rfl (by omega) rfl gS aS
end JCu4
