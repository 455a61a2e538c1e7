/-! CueSheets: scene, reel, speedAt, piece, count -/
section JCu6
variable {l : Launch} {s0 : State} {D : jD} {T : jT} {V : jV} {X : jX} {sz : Nat}
set_option maxRecDepth 100000 in
set_option maxHeartbeats 4000000 in
theorem sp_X7_sceneProperty (hB : jB l s0 D) {q k : Nat} {x : aX} {r : Int32} (h : cuIs T V q x) (hW : stW x.1) (hT : TmIs T V (q + 461) x.1 (sR x.1 r.toInt) 0) {i w : Int32} (hi : i.toInt = k) (hk : k < (sR x.1 r.toInt).1.length) (w0 : 0 ≤ w.toInt) (w1 : w.toInt ≤ 11) : Sp l s0 D kX7_sceneProperty (jR 2 0 0) 0 0 [.ref q, .ref (reelA (q + 1) r.toInt), .int i, .int w] T V X sz (qI T X sz (fun v V' => V = V' ∧ v.toInt = scP x.1 (sR x.1 r.toInt) k w.toInt)) := by
  refine Sp.of pn_X7_sceneProperty rfl (Nat.le_of_ble_eq_true rfl) ?_
  have hs := h.st
  have hr := hs.reel r.toInt
  obtain ⟨-, hA, hBt⟩ := hT
  refine j_iload_n dX7_sceneProperty_0 rfl ?_
  refine j_tsw_11 (td := 192) (t0 := 60) (t1 := 69) (t2 := 81) (t3 := 93) (t4 := 105) (t5 := 117) (t6 := 126) (t7 := 135) (t8 := 144) (t9 := 168) (t10 := 180) dX7_sceneProperty_1 (by decide) (by decide) (fun s_1 => ?_) (fun s_1 => ?_) (fun s_1 => ?_) (fun s_1 => ?_) (fun s_1 => ?_) (fun s_1 => ?_) (fun s_1 => ?_) (fun s_1 => ?_) (fun s_1 => ?_) (fun s_1 => ?_) (fun s_1 => ?_) (fun s_1 => ?_)
  · refine j_aload_n dX7_sceneProperty_60 rfl ?_
    refine j_getr dX7_sceneProperty_61 hB fl_X7_301 (by first | exact h.k | exact hs.1 | exact hr.1 | exact hr.2.1.1 | exact hr.2.2.1.1 | exact hr.2.2.2.1.1 | exact hr.2.2.2.2.1.1 | exact hr.2.2.2.2.2.1.1 | exact hr.2.2.2.2.2.2.1.1 | exact hs.2.2.2.2.1.1 | exact hs.2.2.2.2.2.1.1 | exact hs.2.2.2.2.2.2.1.1 | exact h.t0.2.2 | exact h.rk.1 | exact h.rk.2.1.1 | exact h.rk.2.2.1.1 | exact h.rk.2.2.2.1.1 | exact h.rk.2.2.2.2.1 | exact h.tk.1 | exact h.tk.2.1.1 | exact h.tk.2.2.1.1 | exact h.tk.2.2.2.1.1 | exact h.tk.2.2.2.2.1.1 | exact h.tk.2.2.2.2.2.1.1 | exact h.tk.2.2.2.2.2.2.1.1 | exact h.tk.2.2.2.2.2.2.2.1 | exact h.tk2.1 | exact h.b.1.1) (by rfl) ?_
    refine j_iload_n dX7_sceneProperty_64 rfl ?_
    refine j_cVi dX7_sceneProperty_65 hB mo_X3_at ml_X7_148 (sp_X3_at hB (hr.2.1)) (by first | exact h.k | exact hs.1 | exact hr.1 | exact hr.2.1.1 | exact hr.2.2.1.1 | exact hr.2.2.2.1.1 | exact hr.2.2.2.2.1.1 | exact hr.2.2.2.2.2.1.1 | exact hr.2.2.2.2.2.2.1.1 | exact hs.2.2.2.2.1.1 | exact hs.2.2.2.2.2.1.1 | exact hs.2.2.2.2.2.2.1.1 | exact h.t0.2.2 | exact h.rk.1 | exact h.rk.2.1.1 | exact h.rk.2.2.1.1 | exact h.rk.2.2.2.1.1 | exact h.rk.2.2.2.2.1 | exact h.tk.1 | exact h.tk.2.1.1 | exact h.tk.2.2.1.1 | exact h.tk.2.2.2.1.1 | exact h.tk.2.2.2.2.1.1 | exact h.tk.2.2.2.2.2.1.1 | exact h.tk.2.2.2.2.2.2.1.1 | exact h.tk.2.2.2.2.2.2.2.1 | exact h.tk2.1 | exact h.b.1.1) rfl rfl rfl rfl ⟨rfl, rfl, by decide, by decide⟩ (Nat.le_of_ble_eq_true rfl) ⟨by decide, by decide⟩ (fun r_65 V_65 h_65 => ?_)
    obtain ⟨rfl, y1⟩ := h_65
    rw [hi] at y1
    have t1 := congrArg Int32.toInt y1
    rw [hr.2.2.2.2.2.2.2.1] at t1
    refine j_iret dX7_sceneProperty_68 rfl (rfl) (by decide) (by decide) ?_
    exact ⟨_, rfl, rfl, rfl, rfl, rfl, by rw [s_1]; exact t1⟩
  · refine j_aload_n dX7_sceneProperty_69 rfl ?_
    refine j_getr dX7_sceneProperty_70 hB fl_X7_39 (by first | exact h.k | exact hs.1 | exact hr.1 | exact hr.2.1.1 | exact hr.2.2.1.1 | exact hr.2.2.2.1.1 | exact hr.2.2.2.2.1.1 | exact hr.2.2.2.2.2.1.1 | exact hr.2.2.2.2.2.2.1.1 | exact hs.2.2.2.2.1.1 | exact hs.2.2.2.2.2.1.1 | exact hs.2.2.2.2.2.2.1.1 | exact h.t0.2.2 | exact h.rk.1 | exact h.rk.2.1.1 | exact h.rk.2.2.1.1 | exact h.rk.2.2.2.1.1 | exact h.rk.2.2.2.2.1 | exact h.tk.1 | exact h.tk.2.1.1 | exact h.tk.2.2.1.1 | exact h.tk.2.2.2.1.1 | exact h.tk.2.2.2.2.1.1 | exact h.tk.2.2.2.2.2.1.1 | exact h.tk.2.2.2.2.2.2.1.1 | exact h.tk.2.2.2.2.2.2.2.1 | exact h.tk2.1 | exact h.b.1.1) (by rfl) ?_
    refine j_getr dX7_sceneProperty_73 hB fl_X7_302 (by first | exact h.k | exact hs.1 | exact hr.1 | exact hr.2.1.1 | exact hr.2.2.1.1 | exact hr.2.2.2.1.1 | exact hr.2.2.2.2.1.1 | exact hr.2.2.2.2.2.1.1 | exact hr.2.2.2.2.2.2.1.1 | exact hs.2.2.2.2.1.1 | exact hs.2.2.2.2.2.1.1 | exact hs.2.2.2.2.2.2.1.1 | exact h.t0.2.2 | exact h.rk.1 | exact h.rk.2.1.1 | exact h.rk.2.2.1.1 | exact h.rk.2.2.2.1.1 | exact h.rk.2.2.2.2.1 | exact h.tk.1 | exact h.tk.2.1.1 | exact h.tk.2.2.1.1 | exact h.tk.2.2.2.1.1 | exact h.tk.2.2.2.2.1.1 | exact h.tk.2.2.2.2.2.1.1 | exact h.tk.2.2.2.2.2.2.1.1 | exact h.tk.2.2.2.2.2.2.2.1 | exact h.tk2.1 | exact h.b.1.1) (by rfl) ?_
    refine j_iload_n dX7_sceneProperty_76 rfl ?_
    refine j_cVi dX7_sceneProperty_77 hB mo_X3_at ml_X7_148 (sp_X3_at hB (hA.1)) (by first | exact h.k | exact hs.1 | exact hr.1 | exact hr.2.1.1 | exact hr.2.2.1.1 | exact hr.2.2.2.1.1 | exact hr.2.2.2.2.1.1 | exact hr.2.2.2.2.2.1.1 | exact hr.2.2.2.2.2.2.1.1 | exact hs.2.2.2.2.1.1 | exact hs.2.2.2.2.2.1.1 | exact hs.2.2.2.2.2.2.1.1 | exact h.t0.2.2 | exact h.rk.1 | exact h.rk.2.1.1 | exact h.rk.2.2.1.1 | exact h.rk.2.2.2.1.1 | exact h.rk.2.2.2.2.1 | exact h.tk.1 | exact h.tk.2.1.1 | exact h.tk.2.2.1.1 | exact h.tk.2.2.2.1.1 | exact h.tk.2.2.2.2.1.1 | exact h.tk.2.2.2.2.2.1.1 | exact h.tk.2.2.2.2.2.2.1.1 | exact h.tk.2.2.2.2.2.2.2.1 | exact h.tk2.1 | exact h.b.1.1) rfl rfl rfl rfl ⟨rfl, rfl, by decide, by decide⟩ (Nat.le_of_ble_eq_true rfl) ⟨by decide, by decide⟩ (fun r_77 V_77 h_77 => ?_)
    obtain ⟨rfl, y1⟩ := h_77
    rw [hi] at y1
    have t1 := congrArg Int32.toInt y1
    rw [hA.2.2.2.2.1.at hk] at t1
    refine j_iret dX7_sceneProperty_80 rfl (rfl) (by decide) (by decide) ?_
    exact ⟨_, rfl, rfl, rfl, rfl, rfl, by rw [s_1]; exact t1⟩
  · refine j_aload_n dX7_sceneProperty_81 rfl ?_
    refine j_getr dX7_sceneProperty_82 hB fl_X7_39 (by first | exact h.k | exact hs.1 | exact hr.1 | exact hr.2.1.1 | exact hr.2.2.1.1 | exact hr.2.2.2.1.1 | exact hr.2.2.2.2.1.1 | exact hr.2.2.2.2.2.1.1 | exact hr.2.2.2.2.2.2.1.1 | exact hs.2.2.2.2.1.1 | exact hs.2.2.2.2.2.1.1 | exact hs.2.2.2.2.2.2.1.1 | exact h.t0.2.2 | exact h.rk.1 | exact h.rk.2.1.1 | exact h.rk.2.2.1.1 | exact h.rk.2.2.2.1.1 | exact h.rk.2.2.2.2.1 | exact h.tk.1 | exact h.tk.2.1.1 | exact h.tk.2.2.1.1 | exact h.tk.2.2.2.1.1 | exact h.tk.2.2.2.2.1.1 | exact h.tk.2.2.2.2.2.1.1 | exact h.tk.2.2.2.2.2.2.1.1 | exact h.tk.2.2.2.2.2.2.2.1 | exact h.tk2.1 | exact h.b.1.1) (by rfl) ?_
    refine j_getr dX7_sceneProperty_85 hB fl_X7_305 (by first | exact h.k | exact hs.1 | exact hr.1 | exact hr.2.1.1 | exact hr.2.2.1.1 | exact hr.2.2.2.1.1 | exact hr.2.2.2.2.1.1 | exact hr.2.2.2.2.2.1.1 | exact hr.2.2.2.2.2.2.1.1 | exact hs.2.2.2.2.1.1 | exact hs.2.2.2.2.2.1.1 | exact hs.2.2.2.2.2.2.1.1 | exact h.t0.2.2 | exact h.rk.1 | exact h.rk.2.1.1 | exact h.rk.2.2.1.1 | exact h.rk.2.2.2.1.1 | exact h.rk.2.2.2.2.1 | exact h.tk.1 | exact h.tk.2.1.1 | exact h.tk.2.2.1.1 | exact h.tk.2.2.2.1.1 | exact h.tk.2.2.2.2.1.1 | exact h.tk.2.2.2.2.2.1.1 | exact h.tk.2.2.2.2.2.2.1.1 | exact h.tk.2.2.2.2.2.2.2.1 | exact h.tk2.1 | exact h.b.1.1) (by rfl) ?_
    refine j_iload_n dX7_sceneProperty_88 rfl ?_
    refine j_cVi dX7_sceneProperty_89 hB mo_X3_at ml_X7_148 (sp_X3_at hB (hA.2.1)) (by first | exact h.k | exact hs.1 | exact hr.1 | exact hr.2.1.1 | exact hr.2.2.1.1 | exact hr.2.2.2.1.1 | exact hr.2.2.2.2.1.1 | exact hr.2.2.2.2.2.1.1 | exact hr.2.2.2.2.2.2.1.1 | exact hs.2.2.2.2.1.1 | exact hs.2.2.2.2.2.1.1 | exact hs.2.2.2.2.2.2.1.1 | exact h.t0.2.2 | exact h.rk.1 | exact h.rk.2.1.1 | exact h.rk.2.2.1.1 | exact h.rk.2.2.2.1.1 | exact h.rk.2.2.2.2.1 | exact h.tk.1 | exact h.tk.2.1.1 | exact h.tk.2.2.1.1 | exact h.tk.2.2.2.1.1 | exact h.tk.2.2.2.2.1.1 | exact h.tk.2.2.2.2.2.1.1 | exact h.tk.2.2.2.2.2.2.1.1 | exact h.tk.2.2.2.2.2.2.2.1 | exact h.tk2.1 | exact h.b.1.1) rfl rfl rfl rfl ⟨rfl, rfl, by decide, by decide⟩ (Nat.le_of_ble_eq_true rfl) ⟨by decide, by decide⟩ (fun r_89 V_89 h_89 => ?_)
    obtain ⟨rfl, y1⟩ := h_89
    rw [hi] at y1
    have t1 := congrArg Int32.toInt y1
    rw [hA.2.2.2.2.2.1.at hk] at t1
    refine j_iret dX7_sceneProperty_92 rfl (rfl) (by decide) (by decide) ?_
    exact ⟨_, rfl, rfl, rfl, rfl, rfl, by rw [s_1]; exact t1⟩
  · refine j_aload_n dX7_sceneProperty_93 rfl ?_
    refine j_getr dX7_sceneProperty_94 hB fl_X7_39 (by first | exact h.k | exact hs.1 | exact hr.1 | exact hr.2.1.1 | exact hr.2.2.1.1 | exact hr.2.2.2.1.1 | exact hr.2.2.2.2.1.1 | exact hr.2.2.2.2.2.1.1 | exact hr.2.2.2.2.2.2.1.1 | exact hs.2.2.2.2.1.1 | exact hs.2.2.2.2.2.1.1 | exact hs.2.2.2.2.2.2.1.1 | exact h.t0.2.2 | exact h.rk.1 | exact h.rk.2.1.1 | exact h.rk.2.2.1.1 | exact h.rk.2.2.2.1.1 | exact h.rk.2.2.2.2.1 | exact h.tk.1 | exact h.tk.2.1.1 | exact h.tk.2.2.1.1 | exact h.tk.2.2.2.1.1 | exact h.tk.2.2.2.2.1.1 | exact h.tk.2.2.2.2.2.1.1 | exact h.tk.2.2.2.2.2.2.1.1 | exact h.tk.2.2.2.2.2.2.2.1 | exact h.tk2.1 | exact h.b.1.1) (by rfl) ?_
    refine j_getr dX7_sceneProperty_97 hB fl_X7_308 (by first | exact h.k | exact hs.1 | exact hr.1 | exact hr.2.1.1 | exact hr.2.2.1.1 | exact hr.2.2.2.1.1 | exact hr.2.2.2.2.1.1 | exact hr.2.2.2.2.2.1.1 | exact hr.2.2.2.2.2.2.1.1 | exact hs.2.2.2.2.1.1 | exact hs.2.2.2.2.2.1.1 | exact hs.2.2.2.2.2.2.1.1 | exact h.t0.2.2 | exact h.rk.1 | exact h.rk.2.1.1 | exact h.rk.2.2.1.1 | exact h.rk.2.2.2.1.1 | exact h.rk.2.2.2.2.1 | exact h.tk.1 | exact h.tk.2.1.1 | exact h.tk.2.2.1.1 | exact h.tk.2.2.2.1.1 | exact h.tk.2.2.2.2.1.1 | exact h.tk.2.2.2.2.2.1.1 | exact h.tk.2.2.2.2.2.2.1.1 | exact h.tk.2.2.2.2.2.2.2.1 | exact h.tk2.1 | exact h.b.1.1) (by rfl) ?_
    refine j_iload_n dX7_sceneProperty_100 rfl ?_
    refine j_cVi dX7_sceneProperty_101 hB mo_X3_at ml_X7_148 (sp_X3_at hB (hA.2.2.1)) (by first | exact h.k | exact hs.1 | exact hr.1 | exact hr.2.1.1 | exact hr.2.2.1.1 | exact hr.2.2.2.1.1 | exact hr.2.2.2.2.1.1 | exact hr.2.2.2.2.2.1.1 | exact hr.2.2.2.2.2.2.1.1 | exact hs.2.2.2.2.1.1 | exact hs.2.2.2.2.2.1.1 | exact hs.2.2.2.2.2.2.1.1 | exact h.t0.2.2 | exact h.rk.1 | exact h.rk.2.1.1 | exact h.rk.2.2.1.1 | exact h.rk.2.2.2.1.1 | exact h.rk.2.2.2.2.1 | exact h.tk.1 | exact h.tk.2.1.1 | exact h.tk.2.2.1.1 | exact h.tk.2.2.2.1.1 | exact h.tk.2.2.2.2.1.1 | exact h.tk.2.2.2.2.2.1.1 | exact h.tk.2.2.2.2.2.2.1.1 | exact h.tk.2.2.2.2.2.2.2.1 | exact h.tk2.1 | exact h.b.1.1) rfl rfl rfl rfl ⟨rfl, rfl, by decide, by decide⟩ (Nat.le_of_ble_eq_true rfl) ⟨by decide, by decide⟩ (fun r_101 V_101 h_101 => ?_)
    obtain ⟨rfl, y1⟩ := h_101
    rw [hi] at y1
    have t1 := congrArg Int32.toInt y1
    rw [hA.2.2.2.2.2.2.1.at hk] at t1
    refine j_iret dX7_sceneProperty_104 rfl (rfl) (by decide) (by decide) ?_
    exact ⟨_, rfl, rfl, rfl, rfl, rfl, by rw [s_1]; exact t1⟩
  · refine j_aload_n dX7_sceneProperty_105 rfl ?_
    refine j_getr dX7_sceneProperty_106 hB fl_X7_39 (by first | exact h.k | exact hs.1 | exact hr.1 | exact hr.2.1.1 | exact hr.2.2.1.1 | exact hr.2.2.2.1.1 | exact hr.2.2.2.2.1.1 | exact hr.2.2.2.2.2.1.1 | exact hr.2.2.2.2.2.2.1.1 | exact hs.2.2.2.2.1.1 | exact hs.2.2.2.2.2.1.1 | exact hs.2.2.2.2.2.2.1.1 | exact h.t0.2.2 | exact h.rk.1 | exact h.rk.2.1.1 | exact h.rk.2.2.1.1 | exact h.rk.2.2.2.1.1 | exact h.rk.2.2.2.2.1 | exact h.tk.1 | exact h.tk.2.1.1 | exact h.tk.2.2.1.1 | exact h.tk.2.2.2.1.1 | exact h.tk.2.2.2.2.1.1 | exact h.tk.2.2.2.2.2.1.1 | exact h.tk.2.2.2.2.2.2.1.1 | exact h.tk.2.2.2.2.2.2.2.1 | exact h.tk2.1 | exact h.b.1.1) (by rfl) ?_
    refine j_getr dX7_sceneProperty_109 hB fl_X7_311 (by first | exact h.k | exact hs.1 | exact hr.1 | exact hr.2.1.1 | exact hr.2.2.1.1 | exact hr.2.2.2.1.1 | exact hr.2.2.2.2.1.1 | exact hr.2.2.2.2.2.1.1 | exact hr.2.2.2.2.2.2.1.1 | exact hs.2.2.2.2.1.1 | exact hs.2.2.2.2.2.1.1 | exact hs.2.2.2.2.2.2.1.1 | exact h.t0.2.2 | exact h.rk.1 | exact h.rk.2.1.1 | exact h.rk.2.2.1.1 | exact h.rk.2.2.2.1.1 | exact h.rk.2.2.2.2.1 | exact h.tk.1 | exact h.tk.2.1.1 | exact h.tk.2.2.1.1 | exact h.tk.2.2.2.1.1 | exact h.tk.2.2.2.2.1.1 | exact h.tk.2.2.2.2.2.1.1 | exact h.tk.2.2.2.2.2.2.1.1 | exact h.tk.2.2.2.2.2.2.2.1 | exact h.tk2.1 | exact h.b.1.1) (by rfl) ?_
    refine j_iload_n dX7_sceneProperty_112 rfl ?_
    refine j_cVi dX7_sceneProperty_113 hB mo_X3_at ml_X7_148 (sp_X3_at hB (hA.2.2.2.1)) (by first | exact h.k | exact hs.1 | exact hr.1 | exact hr.2.1.1 | exact hr.2.2.1.1 | exact hr.2.2.2.1.1 | exact hr.2.2.2.2.1.1 | exact hr.2.2.2.2.2.1.1 | exact hr.2.2.2.2.2.2.1.1 | exact hs.2.2.2.2.1.1 | exact hs.2.2.2.2.2.1.1 | exact hs.2.2.2.2.2.2.1.1 | exact h.t0.2.2 | exact h.rk.1 | exact h.rk.2.1.1 | exact h.rk.2.2.1.1 | exact h.rk.2.2.2.1.1 | exact h.rk.2.2.2.2.1 | exact h.tk.1 | exact h.tk.2.1.1 | exact h.tk.2.2.1.1 | exact h.tk.2.2.2.1.1 | exact h.tk.2.2.2.2.1.1 | exact h.tk.2.2.2.2.2.1.1 | exact h.tk.2.2.2.2.2.2.1.1 | exact h.tk.2.2.2.2.2.2.2.1 | exact h.tk2.1 | exact h.b.1.1) rfl rfl rfl rfl ⟨rfl, rfl, by decide, by decide⟩ (Nat.le_of_ble_eq_true rfl) ⟨by decide, by decide⟩ (fun r_113 V_113 h_113 => ?_)
    obtain ⟨rfl, y1⟩ := h_113
    rw [hi] at y1
    have t1 := congrArg Int32.toInt y1
    rw [hA.2.2.2.2.2.2.2.1.at hk] at t1
    refine j_iret dX7_sceneProperty_116 rfl (rfl) (by decide) (by decide) ?_
    exact ⟨_, rfl, rfl, rfl, rfl, rfl, by rw [s_1]; exact t1⟩
  · refine j_aload_n dX7_sceneProperty_117 rfl ?_
    refine j_getr dX7_sceneProperty_118 hB fl_X7_293 (by first | exact h.k | exact hs.1 | exact hr.1 | exact hr.2.1.1 | exact hr.2.2.1.1 | exact hr.2.2.2.1.1 | exact hr.2.2.2.2.1.1 | exact hr.2.2.2.2.2.1.1 | exact hr.2.2.2.2.2.2.1.1 | exact hs.2.2.2.2.1.1 | exact hs.2.2.2.2.2.1.1 | exact hs.2.2.2.2.2.2.1.1 | exact h.t0.2.2 | exact h.rk.1 | exact h.rk.2.1.1 | exact h.rk.2.2.1.1 | exact h.rk.2.2.2.1.1 | exact h.rk.2.2.2.2.1 | exact h.tk.1 | exact h.tk.2.1.1 | exact h.tk.2.2.1.1 | exact h.tk.2.2.2.1.1 | exact h.tk.2.2.2.2.1.1 | exact h.tk.2.2.2.2.2.1.1 | exact h.tk.2.2.2.2.2.2.1.1 | exact h.tk.2.2.2.2.2.2.2.1 | exact h.tk2.1 | exact h.b.1.1) (by rfl) ?_
    refine j_iload_n dX7_sceneProperty_121 rfl ?_
    refine j_cVi dX7_sceneProperty_122 hB mo_X3_at ml_X7_148 (sp_X3_at hB (hr.2.2.1)) (by first | exact h.k | exact hs.1 | exact hr.1 | exact hr.2.1.1 | exact hr.2.2.1.1 | exact hr.2.2.2.1.1 | exact hr.2.2.2.2.1.1 | exact hr.2.2.2.2.2.1.1 | exact hr.2.2.2.2.2.2.1.1 | exact hs.2.2.2.2.1.1 | exact hs.2.2.2.2.2.1.1 | exact hs.2.2.2.2.2.2.1.1 | exact h.t0.2.2 | exact h.rk.1 | exact h.rk.2.1.1 | exact h.rk.2.2.1.1 | exact h.rk.2.2.2.1.1 | exact h.rk.2.2.2.2.1 | exact h.tk.1 | exact h.tk.2.1.1 | exact h.tk.2.2.1.1 | exact h.tk.2.2.2.1.1 | exact h.tk.2.2.2.2.1.1 | exact h.tk.2.2.2.2.2.1.1 | exact h.tk.2.2.2.2.2.2.1.1 | exact h.tk.2.2.2.2.2.2.2.1 | exact h.tk2.1 | exact h.b.1.1) rfl rfl rfl rfl ⟨rfl, rfl, by decide, by decide⟩ (Nat.le_of_ble_eq_true rfl) ⟨by decide, by decide⟩ (fun r_122 V_122 h_122 => ?_)
    obtain ⟨rfl, y1⟩ := h_122
    rw [hi] at y1
    have t1 := congrArg Int32.toInt y1
    rw [hr.2.2.2.2.2.2.2.2.1] at t1
    refine j_iret dX7_sceneProperty_125 rfl (rfl) (by decide) (by decide) ?_
    exact ⟨_, rfl, rfl, rfl, rfl, rfl, by rw [s_1]; exact t1⟩
  · refine j_aload_n dX7_sceneProperty_126 rfl ?_
    refine j_getr dX7_sceneProperty_127 hB fl_X7_294 (by first | exact h.k | exact hs.1 | exact hr.1 | exact hr.2.1.1 | exact hr.2.2.1.1 | exact hr.2.2.2.1.1 | exact hr.2.2.2.2.1.1 | exact hr.2.2.2.2.2.1.1 | exact hr.2.2.2.2.2.2.1.1 | exact hs.2.2.2.2.1.1 | exact hs.2.2.2.2.2.1.1 | exact hs.2.2.2.2.2.2.1.1 | exact h.t0.2.2 | exact h.rk.1 | exact h.rk.2.1.1 | exact h.rk.2.2.1.1 | exact h.rk.2.2.2.1.1 | exact h.rk.2.2.2.2.1 | exact h.tk.1 | exact h.tk.2.1.1 | exact h.tk.2.2.1.1 | exact h.tk.2.2.2.1.1 | exact h.tk.2.2.2.2.1.1 | exact h.tk.2.2.2.2.2.1.1 | exact h.tk.2.2.2.2.2.2.1.1 | exact h.tk.2.2.2.2.2.2.2.1 | exact h.tk2.1 | exact h.b.1.1) (by rfl) ?_
    refine j_iload_n dX7_sceneProperty_130 rfl ?_
    refine j_cVi dX7_sceneProperty_131 hB mo_X3_at ml_X7_148 (sp_X3_at hB (hr.2.2.2.1)) (by first | exact h.k | exact hs.1 | exact hr.1 | exact hr.2.1.1 | exact hr.2.2.1.1 | exact hr.2.2.2.1.1 | exact hr.2.2.2.2.1.1 | exact hr.2.2.2.2.2.1.1 | exact hr.2.2.2.2.2.2.1.1 | exact hs.2.2.2.2.1.1 | exact hs.2.2.2.2.2.1.1 | exact hs.2.2.2.2.2.2.1.1 | exact h.t0.2.2 | exact h.rk.1 | exact h.rk.2.1.1 | exact h.rk.2.2.1.1 | exact h.rk.2.2.2.1.1 | exact h.rk.2.2.2.2.1 | exact h.tk.1 | exact h.tk.2.1.1 | exact h.tk.2.2.1.1 | exact h.tk.2.2.2.1.1 | exact h.tk.2.2.2.2.1.1 | exact h.tk.2.2.2.2.2.1.1 | exact h.tk.2.2.2.2.2.2.1.1 | exact h.tk.2.2.2.2.2.2.2.1 | exact h.tk2.1 | exact h.b.1.1) rfl rfl rfl rfl ⟨rfl, rfl, by decide, by decide⟩ (Nat.le_of_ble_eq_true rfl) ⟨by decide, by decide⟩ (fun r_131 V_131 h_131 => ?_)
    obtain ⟨rfl, y1⟩ := h_131
    rw [hi] at y1
    have t1 := congrArg Int32.toInt y1
    rw [hr.2.2.2.2.2.2.2.2.2.1] at t1
    refine j_iret dX7_sceneProperty_134 rfl (rfl) (by decide) (by decide) ?_
    exact ⟨_, rfl, rfl, rfl, rfl, rfl, by rw [s_1]; exact t1⟩
  · refine j_aload_n dX7_sceneProperty_135 rfl ?_
    refine j_getr dX7_sceneProperty_136 hB fl_X7_295 (by first | exact h.k | exact hs.1 | exact hr.1 | exact hr.2.1.1 | exact hr.2.2.1.1 | exact hr.2.2.2.1.1 | exact hr.2.2.2.2.1.1 | exact hr.2.2.2.2.2.1.1 | exact hr.2.2.2.2.2.2.1.1 | exact hs.2.2.2.2.1.1 | exact hs.2.2.2.2.2.1.1 | exact hs.2.2.2.2.2.2.1.1 | exact h.t0.2.2 | exact h.rk.1 | exact h.rk.2.1.1 | exact h.rk.2.2.1.1 | exact h.rk.2.2.2.1.1 | exact h.rk.2.2.2.2.1 | exact h.tk.1 | exact h.tk.2.1.1 | exact h.tk.2.2.1.1 | exact h.tk.2.2.2.1.1 | exact h.tk.2.2.2.2.1.1 | exact h.tk.2.2.2.2.2.1.1 | exact h.tk.2.2.2.2.2.2.1.1 | exact h.tk.2.2.2.2.2.2.2.1 | exact h.tk2.1 | exact h.b.1.1) (by rfl) ?_
    refine j_iload_n dX7_sceneProperty_139 rfl ?_
    refine j_cVi dX7_sceneProperty_140 hB mo_X3_at ml_X7_148 (sp_X3_at hB (hr.2.2.2.2.1)) (by first | exact h.k | exact hs.1 | exact hr.1 | exact hr.2.1.1 | exact hr.2.2.1.1 | exact hr.2.2.2.1.1 | exact hr.2.2.2.2.1.1 | exact hr.2.2.2.2.2.1.1 | exact hr.2.2.2.2.2.2.1.1 | exact hs.2.2.2.2.1.1 | exact hs.2.2.2.2.2.1.1 | exact hs.2.2.2.2.2.2.1.1 | exact h.t0.2.2 | exact h.rk.1 | exact h.rk.2.1.1 | exact h.rk.2.2.1.1 | exact h.rk.2.2.2.1.1 | exact h.rk.2.2.2.2.1 | exact h.tk.1 | exact h.tk.2.1.1 | exact h.tk.2.2.1.1 | exact h.tk.2.2.2.1.1 | exact h.tk.2.2.2.2.1.1 | exact h.tk.2.2.2.2.2.1.1 | exact h.tk.2.2.2.2.2.2.1.1 | exact h.tk.2.2.2.2.2.2.2.1 | exact h.tk2.1 | exact h.b.1.1) rfl rfl rfl rfl ⟨rfl, rfl, by decide, by decide⟩ (Nat.le_of_ble_eq_true rfl) ⟨by decide, by decide⟩ (fun r_140 V_140 h_140 => ?_)
    obtain ⟨rfl, y1⟩ := h_140
    rw [hi] at y1
    have t1 := congrArg Int32.toInt y1
    rw [hr.2.2.2.2.2.2.2.2.2.2] at t1
    refine j_iret dX7_sceneProperty_143 rfl (rfl) (by decide) (by decide) ?_
    exact ⟨_, rfl, rfl, rfl, rfl, rfl, by rw [s_1]; exact t1⟩
  · refine j_aload_n dX7_sceneProperty_144 rfl ?_
    refine j_iload_n dX7_sceneProperty_145 rfl ?_
    refine j_cVi dX7_sceneProperty_146 hB mo_X2_hasCue ml_X7_152 (sp_X2_hasCue hB hr) (by first | exact h.k | exact hs.1 | exact hr.1 | exact hr.2.1.1 | exact hr.2.2.1.1 | exact hr.2.2.2.1.1 | exact hr.2.2.2.2.1.1 | exact hr.2.2.2.2.2.1.1 | exact hr.2.2.2.2.2.2.1.1 | exact hs.2.2.2.2.1.1 | exact hs.2.2.2.2.2.1.1 | exact hs.2.2.2.2.2.2.1.1 | exact h.t0.2.2 | exact h.rk.1 | exact h.rk.2.1.1 | exact h.rk.2.2.1.1 | exact h.rk.2.2.2.1.1 | exact h.rk.2.2.2.2.1 | exact h.tk.1 | exact h.tk.2.1.1 | exact h.tk.2.2.1.1 | exact h.tk.2.2.2.1.1 | exact h.tk.2.2.2.2.1.1 | exact h.tk.2.2.2.2.2.1.1 | exact h.tk.2.2.2.2.2.2.1.1 | exact h.tk.2.2.2.2.2.2.2.1 | exact h.tk2.1 | exact h.b.1.1) rfl rfl rfl rfl ⟨rfl, rfl, by decide, by decide⟩ (Nat.le_of_ble_eq_true rfl) ⟨by decide, by decide⟩ (fun r_146 V_146 h_146 => ?_)
    obtain ⟨rfl, hc⟩ := h_146
    rw [hi] at hc
    refine j_if_eq (tgt := 166) dX7_sceneProperty_149 (by decide) (fun c_149 => ?_) (fun c_149 => ?_)
    · refine j_iconst (v := 0) dX7_sceneProperty_166 (by decide) ?_
      refine j_iret dX7_sceneProperty_167 rfl (rfl) (by decide) (by decide) ?_
      exact ⟨_, rfl, rfl, rfl, rfl, rfl, by rw [s_1]; show _ = cueI _ _ _ _; rcases hc with ⟨z, z2⟩ | ⟨z, z2⟩; (rw [z] at c_149; exact absurd c_149 (by decide)); exact (cueI_f (fun y => y z2)).symm⟩
    · refine j_aload_n dX7_sceneProperty_152 rfl ?_
      refine j_getr dX7_sceneProperty_153 hB fl_X7_39 (by first | exact h.k | exact hs.1 | exact hr.1 | exact hr.2.1.1 | exact hr.2.2.1.1 | exact hr.2.2.2.1.1 | exact hr.2.2.2.2.1.1 | exact hr.2.2.2.2.2.1.1 | exact hr.2.2.2.2.2.2.1.1 | exact hs.2.2.2.2.1.1 | exact hs.2.2.2.2.2.1.1 | exact hs.2.2.2.2.2.2.1.1 | exact h.t0.2.2 | exact h.rk.1 | exact h.rk.2.1.1 | exact h.rk.2.2.1.1 | exact h.rk.2.2.2.1.1 | exact h.rk.2.2.2.2.1 | exact h.tk.1 | exact h.tk.2.1.1 | exact h.tk.2.2.1.1 | exact h.tk.2.2.2.1.1 | exact h.tk.2.2.2.2.1.1 | exact h.tk.2.2.2.2.2.1.1 | exact h.tk.2.2.2.2.2.2.1.1 | exact h.tk.2.2.2.2.2.2.2.1 | exact h.tk2.1 | exact h.b.1.1) (by rfl) ?_
      refine j_getr dX7_sceneProperty_156 hB fl_X7_314 (by first | exact h.k | exact hs.1 | exact hr.1 | exact hr.2.1.1 | exact hr.2.2.1.1 | exact hr.2.2.2.1.1 | exact hr.2.2.2.2.1.1 | exact hr.2.2.2.2.2.1.1 | exact hr.2.2.2.2.2.2.1.1 | exact hs.2.2.2.2.1.1 | exact hs.2.2.2.2.2.1.1 | exact hs.2.2.2.2.2.2.1.1 | exact h.t0.2.2 | exact h.rk.1 | exact h.rk.2.1.1 | exact h.rk.2.2.1.1 | exact h.rk.2.2.2.1.1 | exact h.rk.2.2.2.2.1 | exact h.tk.1 | exact h.tk.2.1.1 | exact h.tk.2.2.1.1 | exact h.tk.2.2.2.1.1 | exact h.tk.2.2.2.2.1.1 | exact h.tk.2.2.2.2.2.1.1 | exact h.tk.2.2.2.2.2.2.1.1 | exact h.tk.2.2.2.2.2.2.2.1 | exact h.tk2.1 | exact h.b.1.1) (by rfl) ?_
      refine j_iload_n dX7_sceneProperty_159 rfl ?_
      refine j_cVi dX7_sceneProperty_160 hB mo_X3_at ml_X7_148 (sp_X3_at hB (hBt.1)) (by first | exact h.k | exact hs.1 | exact hr.1 | exact hr.2.1.1 | exact hr.2.2.1.1 | exact hr.2.2.2.1.1 | exact hr.2.2.2.2.1.1 | exact hr.2.2.2.2.2.1.1 | exact hr.2.2.2.2.2.2.1.1 | exact hs.2.2.2.2.1.1 | exact hs.2.2.2.2.2.1.1 | exact hs.2.2.2.2.2.2.1.1 | exact h.t0.2.2 | exact h.rk.1 | exact h.rk.2.1.1 | exact h.rk.2.2.1.1 | exact h.rk.2.2.2.1.1 | exact h.rk.2.2.2.2.1 | exact h.tk.1 | exact h.tk.2.1.1 | exact h.tk.2.2.1.1 | exact h.tk.2.2.2.1.1 | exact h.tk.2.2.2.2.1.1 | exact h.tk.2.2.2.2.2.1.1 | exact h.tk.2.2.2.2.2.2.1.1 | exact h.tk.2.2.2.2.2.2.2.1 | exact h.tk2.1 | exact h.b.1.1) rfl rfl rfl rfl ⟨rfl, rfl, by decide, by decide⟩ (Nat.le_of_ble_eq_true rfl) ⟨by decide, by decide⟩ (fun r_160 V_160 h_160 => ?_)
      obtain ⟨rfl, y1⟩ := h_160
      rw [hi] at y1
      have t1 := congrArg Int32.toInt y1
      rw [hBt.2.2.2.1.at hk] at t1
      refine j_goto (tgt := 167) dX7_sceneProperty_163 (by decide) ?_
      refine j_iret dX7_sceneProperty_167 rfl (rfl) (by decide) (by decide) ?_
      exact ⟨_, rfl, rfl, rfl, rfl, rfl, by rw [s_1]; show _ = cueI _ _ _ _; rcases hc with ⟨z, z2⟩ | ⟨z, z2⟩; (exact t1.trans (cueI_t z2).symm); exact absurd z c_149⟩
  · refine j_aload_n dX7_sceneProperty_168 rfl ?_
    refine j_getr dX7_sceneProperty_169 hB fl_X7_39 (by first | exact h.k | exact hs.1 | exact hr.1 | exact hr.2.1.1 | exact hr.2.2.1.1 | exact hr.2.2.2.1.1 | exact hr.2.2.2.2.1.1 | exact hr.2.2.2.2.2.1.1 | exact hr.2.2.2.2.2.2.1.1 | exact hs.2.2.2.2.1.1 | exact hs.2.2.2.2.2.1.1 | exact hs.2.2.2.2.2.2.1.1 | exact h.t0.2.2 | exact h.rk.1 | exact h.rk.2.1.1 | exact h.rk.2.2.1.1 | exact h.rk.2.2.2.1.1 | exact h.rk.2.2.2.2.1 | exact h.tk.1 | exact h.tk.2.1.1 | exact h.tk.2.2.1.1 | exact h.tk.2.2.2.1.1 | exact h.tk.2.2.2.2.1.1 | exact h.tk.2.2.2.2.2.1.1 | exact h.tk.2.2.2.2.2.2.1.1 | exact h.tk.2.2.2.2.2.2.2.1 | exact h.tk2.1 | exact h.b.1.1) (by rfl) ?_
    refine j_getr dX7_sceneProperty_172 hB fl_X7_317 (by first | exact h.k | exact hs.1 | exact hr.1 | exact hr.2.1.1 | exact hr.2.2.1.1 | exact hr.2.2.2.1.1 | exact hr.2.2.2.2.1.1 | exact hr.2.2.2.2.2.1.1 | exact hr.2.2.2.2.2.2.1.1 | exact hs.2.2.2.2.1.1 | exact hs.2.2.2.2.2.1.1 | exact hs.2.2.2.2.2.2.1.1 | exact h.t0.2.2 | exact h.rk.1 | exact h.rk.2.1.1 | exact h.rk.2.2.1.1 | exact h.rk.2.2.2.1.1 | exact h.rk.2.2.2.2.1 | exact h.tk.1 | exact h.tk.2.1.1 | exact h.tk.2.2.1.1 | exact h.tk.2.2.2.1.1 | exact h.tk.2.2.2.2.1.1 | exact h.tk.2.2.2.2.2.1.1 | exact h.tk.2.2.2.2.2.2.1.1 | exact h.tk.2.2.2.2.2.2.2.1 | exact h.tk2.1 | exact h.b.1.1) (by rfl) ?_
    refine j_iload_n dX7_sceneProperty_175 rfl ?_
    refine j_cVi dX7_sceneProperty_176 hB mo_X3_at ml_X7_148 (sp_X3_at hB (hBt.2.1)) (by first | exact h.k | exact hs.1 | exact hr.1 | exact hr.2.1.1 | exact hr.2.2.1.1 | exact hr.2.2.2.1.1 | exact hr.2.2.2.2.1.1 | exact hr.2.2.2.2.2.1.1 | exact hr.2.2.2.2.2.2.1.1 | exact hs.2.2.2.2.1.1 | exact hs.2.2.2.2.2.1.1 | exact hs.2.2.2.2.2.2.1.1 | exact h.t0.2.2 | exact h.rk.1 | exact h.rk.2.1.1 | exact h.rk.2.2.1.1 | exact h.rk.2.2.2.1.1 | exact h.rk.2.2.2.2.1 | exact h.tk.1 | exact h.tk.2.1.1 | exact h.tk.2.2.1.1 | exact h.tk.2.2.2.1.1 | exact h.tk.2.2.2.2.1.1 | exact h.tk.2.2.2.2.2.1.1 | exact h.tk.2.2.2.2.2.2.1.1 | exact h.tk.2.2.2.2.2.2.2.1 | exact h.tk2.1 | exact h.b.1.1) rfl rfl rfl rfl ⟨rfl, rfl, by decide, by decide⟩ (Nat.le_of_ble_eq_true rfl) ⟨by decide, by decide⟩ (fun r_176 V_176 h_176 => ?_)
    obtain ⟨rfl, y1⟩ := h_176
    rw [hi] at y1
    have t1 := congrArg Int32.toInt y1
    rw [hBt.2.2.2.2.1.at hk] at t1
    refine j_iret dX7_sceneProperty_179 rfl (rfl) (by decide) (by decide) ?_
    exact ⟨_, rfl, rfl, rfl, rfl, rfl, by rw [s_1]; exact t1⟩
  · refine j_aload_n dX7_sceneProperty_180 rfl ?_
    refine j_getr dX7_sceneProperty_181 hB fl_X7_39 (by first | exact h.k | exact hs.1 | exact hr.1 | exact hr.2.1.1 | exact hr.2.2.1.1 | exact hr.2.2.2.1.1 | exact hr.2.2.2.2.1.1 | exact hr.2.2.2.2.2.1.1 | exact hr.2.2.2.2.2.2.1.1 | exact hs.2.2.2.2.1.1 | exact hs.2.2.2.2.2.1.1 | exact hs.2.2.2.2.2.2.1.1 | exact h.t0.2.2 | exact h.rk.1 | exact h.rk.2.1.1 | exact h.rk.2.2.1.1 | exact h.rk.2.2.2.1.1 | exact h.rk.2.2.2.2.1 | exact h.tk.1 | exact h.tk.2.1.1 | exact h.tk.2.2.1.1 | exact h.tk.2.2.2.1.1 | exact h.tk.2.2.2.2.1.1 | exact h.tk.2.2.2.2.2.1.1 | exact h.tk.2.2.2.2.2.2.1.1 | exact h.tk.2.2.2.2.2.2.2.1 | exact h.tk2.1 | exact h.b.1.1) (by rfl) ?_
    refine j_getr dX7_sceneProperty_184 hB fl_X7_145 (by first | exact h.k | exact hs.1 | exact hr.1 | exact hr.2.1.1 | exact hr.2.2.1.1 | exact hr.2.2.2.1.1 | exact hr.2.2.2.2.1.1 | exact hr.2.2.2.2.2.1.1 | exact hr.2.2.2.2.2.2.1.1 | exact hs.2.2.2.2.1.1 | exact hs.2.2.2.2.2.1.1 | exact hs.2.2.2.2.2.2.1.1 | exact h.t0.2.2 | exact h.rk.1 | exact h.rk.2.1.1 | exact h.rk.2.2.1.1 | exact h.rk.2.2.2.1.1 | exact h.rk.2.2.2.2.1 | exact h.tk.1 | exact h.tk.2.1.1 | exact h.tk.2.2.1.1 | exact h.tk.2.2.2.1.1 | exact h.tk.2.2.2.2.1.1 | exact h.tk.2.2.2.2.2.1.1 | exact h.tk.2.2.2.2.2.2.1.1 | exact h.tk.2.2.2.2.2.2.2.1 | exact h.tk2.1 | exact h.b.1.1) (by rfl) ?_
    refine j_iload_n dX7_sceneProperty_187 rfl ?_
    refine j_cVi dX7_sceneProperty_188 hB mo_X3_at ml_X7_148 (sp_X3_at hB (hBt.2.2.1)) (by first | exact h.k | exact hs.1 | exact hr.1 | exact hr.2.1.1 | exact hr.2.2.1.1 | exact hr.2.2.2.1.1 | exact hr.2.2.2.2.1.1 | exact hr.2.2.2.2.2.1.1 | exact hr.2.2.2.2.2.2.1.1 | exact hs.2.2.2.2.1.1 | exact hs.2.2.2.2.2.1.1 | exact hs.2.2.2.2.2.2.1.1 | exact h.t0.2.2 | exact h.rk.1 | exact h.rk.2.1.1 | exact h.rk.2.2.1.1 | exact h.rk.2.2.2.1.1 | exact h.rk.2.2.2.2.1 | exact h.tk.1 | exact h.tk.2.1.1 | exact h.tk.2.2.1.1 | exact h.tk.2.2.2.1.1 | exact h.tk.2.2.2.2.1.1 | exact h.tk.2.2.2.2.2.1.1 | exact h.tk.2.2.2.2.2.2.1.1 | exact h.tk.2.2.2.2.2.2.2.1 | exact h.tk2.1 | exact h.b.1.1) rfl rfl rfl rfl ⟨rfl, rfl, by decide, by decide⟩ (Nat.le_of_ble_eq_true rfl) ⟨by decide, by decide⟩ (fun r_188 V_188 h_188 => ?_)
    obtain ⟨rfl, y1⟩ := h_188
    rw [hi] at y1
    have t1 := congrArg Int32.toInt y1
    rw [hBt.2.2.2.2.2.1.at hk] at t1
    refine j_iret dX7_sceneProperty_191 rfl (rfl) (by decide) (by decide) ?_
    exact ⟨_, rfl, rfl, rfl, rfl, rfl, by rw [s_1]; exact t1⟩
  · refine j_aload_n dX7_sceneProperty_192 rfl ?_
    refine j_getr dX7_sceneProperty_193 hB fl_X7_10 (by first | exact h.k | exact hs.1 | exact hr.1 | exact hr.2.1.1 | exact hr.2.2.1.1 | exact hr.2.2.2.1.1 | exact hr.2.2.2.2.1.1 | exact hr.2.2.2.2.2.1.1 | exact hr.2.2.2.2.2.2.1.1 | exact hs.2.2.2.2.1.1 | exact hs.2.2.2.2.2.1.1 | exact hs.2.2.2.2.2.2.1.1 | exact h.t0.2.2 | exact h.rk.1 | exact h.rk.2.1.1 | exact h.rk.2.2.1.1 | exact h.rk.2.2.2.1.1 | exact h.rk.2.2.2.2.1 | exact h.tk.1 | exact h.tk.2.1.1 | exact h.tk.2.2.1.1 | exact h.tk.2.2.2.1.1 | exact h.tk.2.2.2.2.1.1 | exact h.tk.2.2.2.2.2.1.1 | exact h.tk.2.2.2.2.2.2.1.1 | exact h.tk.2.2.2.2.2.2.2.1 | exact h.tk2.1 | exact h.b.1.1) (by rfl) ?_
    refine j_aload_n dX7_sceneProperty_196 rfl ?_
    refine j_getr dX7_sceneProperty_197 hB fl_X7_39 (by first | exact h.k | exact hs.1 | exact hr.1 | exact hr.2.1.1 | exact hr.2.2.1.1 | exact hr.2.2.2.1.1 | exact hr.2.2.2.2.1.1 | exact hr.2.2.2.2.2.1.1 | exact hr.2.2.2.2.2.2.1.1 | exact hs.2.2.2.2.1.1 | exact hs.2.2.2.2.2.1.1 | exact hs.2.2.2.2.2.2.1.1 | exact h.t0.2.2 | exact h.rk.1 | exact h.rk.2.1.1 | exact h.rk.2.2.1.1 | exact h.rk.2.2.2.1.1 | exact h.rk.2.2.2.2.1 | exact h.tk.1 | exact h.tk.2.1.1 | exact h.tk.2.2.1.1 | exact h.tk.2.2.2.1.1 | exact h.tk.2.2.2.2.1.1 | exact h.tk.2.2.2.2.2.1.1 | exact h.tk.2.2.2.2.2.2.1.1 | exact h.tk.2.2.2.2.2.2.2.1 | exact h.tk2.1 | exact h.b.1.1) (by rfl) ?_
    refine j_getr dX7_sceneProperty_200 hB fl_X7_145 (by first | exact h.k | exact hs.1 | exact hr.1 | exact hr.2.1.1 | exact hr.2.2.1.1 | exact hr.2.2.2.1.1 | exact hr.2.2.2.2.1.1 | exact hr.2.2.2.2.2.1.1 | exact hr.2.2.2.2.2.2.1.1 | exact hs.2.2.2.2.1.1 | exact hs.2.2.2.2.2.1.1 | exact hs.2.2.2.2.2.2.1.1 | exact h.t0.2.2 | exact h.rk.1 | exact h.rk.2.1.1 | exact h.rk.2.2.1.1 | exact h.rk.2.2.2.1.1 | exact h.rk.2.2.2.2.1 | exact h.tk.1 | exact h.tk.2.1.1 | exact h.tk.2.2.1.1 | exact h.tk.2.2.2.1.1 | exact h.tk.2.2.2.2.1.1 | exact h.tk.2.2.2.2.2.1.1 | exact h.tk.2.2.2.2.2.2.1.1 | exact h.tk.2.2.2.2.2.2.2.1 | exact h.tk2.1 | exact h.b.1.1) (by rfl) ?_
    refine j_iload_n dX7_sceneProperty_203 rfl ?_
    refine j_cVi dX7_sceneProperty_204 hB mo_X3_at ml_X7_148 (sp_X3_at hB (hBt.2.2.1)) (by first | exact h.k | exact hs.1 | exact hr.1 | exact hr.2.1.1 | exact hr.2.2.1.1 | exact hr.2.2.2.1.1 | exact hr.2.2.2.2.1.1 | exact hr.2.2.2.2.2.1.1 | exact hr.2.2.2.2.2.2.1.1 | exact hs.2.2.2.2.1.1 | exact hs.2.2.2.2.2.1.1 | exact hs.2.2.2.2.2.2.1.1 | exact h.t0.2.2 | exact h.rk.1 | exact h.rk.2.1.1 | exact h.rk.2.2.1.1 | exact h.rk.2.2.2.1.1 | exact h.rk.2.2.2.2.1 | exact h.tk.1 | exact h.tk.2.1.1 | exact h.tk.2.2.1.1 | exact h.tk.2.2.2.1.1 | exact h.tk.2.2.2.2.1.1 | exact h.tk.2.2.2.2.2.1.1 | exact h.tk.2.2.2.2.2.2.1.1 | exact h.tk.2.2.2.2.2.2.2.1 | exact h.tk2.1 | exact h.b.1.1) rfl rfl rfl rfl ⟨rfl, rfl, by decide, by decide⟩ (Nat.le_of_ble_eq_true rfl) ⟨by decide, by decide⟩ (fun r_204 V_204 h_204 => ?_)
    obtain ⟨rfl, y1⟩ := h_204
    rw [hi] at y1
    have t1 := congrArg Int32.toInt y1
    rw [hBt.2.2.2.2.2.1.at hk] at t1
    refine j_cVi dX7_sceneProperty_207 hB mo_X5_isBad ml_X7_320 (sp_X5_isBad hB hs (by have := aDrift_rng hW.1 (hW.r r.toInt) (w := 0) (Or.inl rfl) hk; omega)) (by first | exact h.k | exact hs.1 | exact hr.1 | exact hr.2.1.1 | exact hr.2.2.1.1 | exact hr.2.2.2.1.1 | exact hr.2.2.2.2.1.1 | exact hr.2.2.2.2.2.1.1 | exact hr.2.2.2.2.2.2.1.1 | exact hs.2.2.2.2.1.1 | exact hs.2.2.2.2.2.1.1 | exact hs.2.2.2.2.2.2.1.1 | exact h.t0.2.2 | exact h.rk.1 | exact h.rk.2.1.1 | exact h.rk.2.2.1.1 | exact h.rk.2.2.2.1.1 | exact h.rk.2.2.2.2.1 | exact h.tk.1 | exact h.tk.2.1.1 | exact h.tk.2.2.1.1 | exact h.tk.2.2.2.1.1 | exact h.tk.2.2.2.2.1.1 | exact h.tk.2.2.2.2.2.1.1 | exact h.tk.2.2.2.2.2.2.1.1 | exact h.tk.2.2.2.2.2.2.2.1 | exact h.tk2.1 | exact h.b.1.1) rfl rfl rfl rfl ⟨rfl, rfl, by decide, by decide⟩ (Nat.le_of_ble_eq_true rfl) ⟨by decide, by decide⟩ (fun r_207 V_207 h_207 => ?_)
    obtain ⟨rfl, hb⟩ := h_207
    rw [t1] at hb
    refine j_if_eq (tgt := 217) dX7_sceneProperty_210 (by decide) (fun c_210 => ?_) (fun c_210 => ?_)
    · refine j_iconst (v := 0) dX7_sceneProperty_217 (by decide) ?_
      refine j_iret dX7_sceneProperty_218 rfl (rfl) (by decide) (by decide) ?_
      have s_1 : w.toInt = 11 := by omega
      exact ⟨_, rfl, rfl, rfl, rfl, rfl, by rw [s_1]; show _ = aBad1 x.1 (sR x.1 r.toInt) 0 k; unfold aBad1; rcases hb with ⟨z, z2⟩ | ⟨z, z2⟩; (rw [z] at c_210; exact absurd c_210 (by decide)); exact (if_neg z2).symm⟩
    · refine j_iconst (v := 1) dX7_sceneProperty_213 (by decide) ?_
      refine j_goto (tgt := 218) dX7_sceneProperty_214 (by decide) ?_
      refine j_iret dX7_sceneProperty_218 rfl (rfl) (by decide) (by decide) ?_
      have s_1 : w.toInt = 11 := by omega
      exact ⟨_, rfl, rfl, rfl, rfl, rfl, by rw [s_1]; show _ = aBad1 x.1 (sR x.1 r.toInt) 0 k; unfold aBad1; rcases hb with ⟨z, z2⟩ | ⟨z, z2⟩; (exact (if_pos z2).symm); exact absurd z c_210⟩
set_option maxRecDepth 100000 in
set_option maxHeartbeats 4000000 in
theorem sp_X7_reelProperty (hB : jB l s0 D) {q : Nat} {x : aX} {r : Int32} (h : cuIs T V q x) (hW : stW x.1) (hT : TmIs T V (q + 461) x.1 (sR x.1 r.toInt) 0) {w : Int32} (w0 : 0 ≤ w.toInt) (w1 : w.toInt ≤ 10) : Sp l s0 D kX7_reelProperty (jR 3 0 0) 0 0 [.ref q, .ref (reelA (q + 1) r.toInt), .int w] T V X sz (qI T X sz (fun v V' => V = V' ∧ v.toInt = rlP x.1 (sR x.1 r.toInt) w.toInt)) := by
  refine Sp.of pn_X7_reelProperty rfl (Nat.le_of_ble_eq_true rfl) ?_
  have hs := h.st
  have hr := hs.reel r.toInt
  have hT' := hT
  obtain ⟨-, hA, hBt⟩ := hT
  refine j_iload_n dX7_reelProperty_0 rfl ?_
  refine j_tsw_10 (td := 134) (t0 := 56) (t1 := 61) (t2 := 69) (t3 := 77) (t4 := 85) (t5 := 93) (t6 := 101) (t7 := 109) (t8 := 117) (t9 := 125) dX7_reelProperty_1 (by decide) (by decide) (fun s_1 => ?_) (fun s_1 => ?_) (fun s_1 => ?_) (fun s_1 => ?_) (fun s_1 => ?_) (fun s_1 => ?_) (fun s_1 => ?_) (fun s_1 => ?_) (fun s_1 => ?_) (fun s_1 => ?_) (fun s_1 => ?_)
  · refine j_aload_n dX7_reelProperty_56 rfl ?_
    refine j_cVi dX7_reelProperty_57 hB mo_X2_scenes ml_X7_64 (sp_X2_scenes hB hr) (by first | exact h.k | exact hs.1 | exact hr.1 | exact hr.2.1.1 | exact hr.2.2.1.1 | exact hr.2.2.2.1.1 | exact hr.2.2.2.2.1.1 | exact hr.2.2.2.2.2.1.1 | exact hr.2.2.2.2.2.2.1.1 | exact hs.2.2.2.2.1.1 | exact hs.2.2.2.2.2.1.1 | exact hs.2.2.2.2.2.2.1.1 | exact h.t0.2.2 | exact h.rk.1 | exact h.rk.2.1.1 | exact h.rk.2.2.1.1 | exact h.rk.2.2.2.1.1 | exact h.rk.2.2.2.2.1 | exact h.tk.1 | exact h.tk.2.1.1 | exact h.tk.2.2.1.1 | exact h.tk.2.2.2.1.1 | exact h.tk.2.2.2.2.1.1 | exact h.tk.2.2.2.2.2.1.1 | exact h.tk.2.2.2.2.2.2.1.1 | exact h.tk.2.2.2.2.2.2.2.1 | exact h.tk2.1 | exact h.b.1.1) rfl rfl rfl rfl ⟨rfl, rfl, by decide, by decide⟩ (Nat.le_of_ble_eq_true rfl) ⟨by decide, by decide⟩ (fun r_57 V_57 h_57 => ?_)
    obtain ⟨rfl, t1⟩ := h_57
    refine j_iret dX7_reelProperty_60 rfl (rfl) (by decide) (by decide) ?_
    exact ⟨_, rfl, rfl, rfl, rfl, rfl, by rw [s_1]; exact t1⟩
  · refine j_aload_n dX7_reelProperty_61 rfl ?_
    refine j_getr dX7_reelProperty_62 hB fl_X7_39 (by first | exact h.k | exact hs.1 | exact hr.1 | exact hr.2.1.1 | exact hr.2.2.1.1 | exact hr.2.2.2.1.1 | exact hr.2.2.2.2.1.1 | exact hr.2.2.2.2.2.1.1 | exact hr.2.2.2.2.2.2.1.1 | exact hs.2.2.2.2.1.1 | exact hs.2.2.2.2.2.1.1 | exact hs.2.2.2.2.2.2.1.1 | exact h.t0.2.2 | exact h.rk.1 | exact h.rk.2.1.1 | exact h.rk.2.2.1.1 | exact h.rk.2.2.2.1.1 | exact h.rk.2.2.2.2.1 | exact h.tk.1 | exact h.tk.2.1.1 | exact h.tk.2.2.1.1 | exact h.tk.2.2.2.1.1 | exact h.tk.2.2.2.2.1.1 | exact h.tk.2.2.2.2.2.1.1 | exact h.tk.2.2.2.2.2.2.1.1 | exact h.tk.2.2.2.2.2.2.2.1 | exact h.tk2.1 | exact h.b.1.1) (by rfl) ?_
    refine j_geti dX7_reelProperty_65 hB fl_X7_323 (by first | exact h.k | exact hs.1 | exact hr.1 | exact hr.2.1.1 | exact hr.2.2.1.1 | exact hr.2.2.2.1.1 | exact hr.2.2.2.2.1.1 | exact hr.2.2.2.2.2.1.1 | exact hr.2.2.2.2.2.2.1.1 | exact hs.2.2.2.2.1.1 | exact hs.2.2.2.2.2.1.1 | exact hs.2.2.2.2.2.2.1.1 | exact h.t0.2.2 | exact h.rk.1 | exact h.rk.2.1.1 | exact h.rk.2.2.1.1 | exact h.rk.2.2.2.1.1 | exact h.rk.2.2.2.2.1 | exact h.tk.1 | exact h.tk.2.1.1 | exact h.tk.2.2.1.1 | exact h.tk.2.2.2.1.1 | exact h.tk.2.2.2.2.1.1 | exact h.tk.2.2.2.2.2.1.1 | exact h.tk.2.2.2.2.2.2.1.1 | exact h.tk.2.2.2.2.2.2.2.1 | exact h.tk2.1 | exact h.b.1.1) (by rfl) ?_
    refine j_iret dX7_reelProperty_68 rfl (rfl) (by decide) (by decide) ?_
    exact ⟨_, rfl, rfl, rfl, rfl, rfl, by rw [s_1]; exact hA.2.2.2.2.2.2.2.2.1⟩
  · refine j_aload_n dX7_reelProperty_69 rfl ?_
    refine j_getr dX7_reelProperty_70 hB fl_X7_39 (by first | exact h.k | exact hs.1 | exact hr.1 | exact hr.2.1.1 | exact hr.2.2.1.1 | exact hr.2.2.2.1.1 | exact hr.2.2.2.2.1.1 | exact hr.2.2.2.2.2.1.1 | exact hr.2.2.2.2.2.2.1.1 | exact hs.2.2.2.2.1.1 | exact hs.2.2.2.2.2.1.1 | exact hs.2.2.2.2.2.2.1.1 | exact h.t0.2.2 | exact h.rk.1 | exact h.rk.2.1.1 | exact h.rk.2.2.1.1 | exact h.rk.2.2.2.1.1 | exact h.rk.2.2.2.2.1 | exact h.tk.1 | exact h.tk.2.1.1 | exact h.tk.2.2.1.1 | exact h.tk.2.2.2.1.1 | exact h.tk.2.2.2.2.1.1 | exact h.tk.2.2.2.2.2.1.1 | exact h.tk.2.2.2.2.2.2.1.1 | exact h.tk.2.2.2.2.2.2.2.1 | exact h.tk2.1 | exact h.b.1.1) (by rfl) ?_
    refine j_geti dX7_reelProperty_73 hB fl_X7_326 (by first | exact h.k | exact hs.1 | exact hr.1 | exact hr.2.1.1 | exact hr.2.2.1.1 | exact hr.2.2.2.1.1 | exact hr.2.2.2.2.1.1 | exact hr.2.2.2.2.2.1.1 | exact hr.2.2.2.2.2.2.1.1 | exact hs.2.2.2.2.1.1 | exact hs.2.2.2.2.2.1.1 | exact hs.2.2.2.2.2.2.1.1 | exact h.t0.2.2 | exact h.rk.1 | exact h.rk.2.1.1 | exact h.rk.2.2.1.1 | exact h.rk.2.2.2.1.1 | exact h.rk.2.2.2.2.1 | exact h.tk.1 | exact h.tk.2.1.1 | exact h.tk.2.2.1.1 | exact h.tk.2.2.2.1.1 | exact h.tk.2.2.2.2.1.1 | exact h.tk.2.2.2.2.2.1.1 | exact h.tk.2.2.2.2.2.2.1.1 | exact h.tk.2.2.2.2.2.2.2.1 | exact h.tk2.1 | exact h.b.1.1) (by rfl) ?_
    refine j_iret dX7_reelProperty_76 rfl (rfl) (by decide) (by decide) ?_
    exact ⟨_, rfl, rfl, rfl, rfl, rfl, by rw [s_1]; exact hA.2.2.2.2.2.2.2.2.2.1⟩
  · refine j_aload_n dX7_reelProperty_77 rfl ?_
    refine j_getr dX7_reelProperty_78 hB fl_X7_39 (by first | exact h.k | exact hs.1 | exact hr.1 | exact hr.2.1.1 | exact hr.2.2.1.1 | exact hr.2.2.2.1.1 | exact hr.2.2.2.2.1.1 | exact hr.2.2.2.2.2.1.1 | exact hr.2.2.2.2.2.2.1.1 | exact hs.2.2.2.2.1.1 | exact hs.2.2.2.2.2.1.1 | exact hs.2.2.2.2.2.2.1.1 | exact h.t0.2.2 | exact h.rk.1 | exact h.rk.2.1.1 | exact h.rk.2.2.1.1 | exact h.rk.2.2.2.1.1 | exact h.rk.2.2.2.2.1 | exact h.tk.1 | exact h.tk.2.1.1 | exact h.tk.2.2.1.1 | exact h.tk.2.2.2.1.1 | exact h.tk.2.2.2.2.1.1 | exact h.tk.2.2.2.2.2.1.1 | exact h.tk.2.2.2.2.2.2.1.1 | exact h.tk.2.2.2.2.2.2.2.1 | exact h.tk2.1 | exact h.b.1.1) (by rfl) ?_
    refine j_geti dX7_reelProperty_81 hB fl_X7_329 (by first | exact h.k | exact hs.1 | exact hr.1 | exact hr.2.1.1 | exact hr.2.2.1.1 | exact hr.2.2.2.1.1 | exact hr.2.2.2.2.1.1 | exact hr.2.2.2.2.2.1.1 | exact hr.2.2.2.2.2.2.1.1 | exact hs.2.2.2.2.1.1 | exact hs.2.2.2.2.2.1.1 | exact hs.2.2.2.2.2.2.1.1 | exact h.t0.2.2 | exact h.rk.1 | exact h.rk.2.1.1 | exact h.rk.2.2.1.1 | exact h.rk.2.2.2.1.1 | exact h.rk.2.2.2.2.1 | exact h.tk.1 | exact h.tk.2.1.1 | exact h.tk.2.2.1.1 | exact h.tk.2.2.2.1.1 | exact h.tk.2.2.2.2.1.1 | exact h.tk.2.2.2.2.2.1.1 | exact h.tk.2.2.2.2.2.2.1.1 | exact h.tk.2.2.2.2.2.2.2.1 | exact h.tk2.1 | exact h.b.1.1) (by rfl) ?_
    refine j_iret dX7_reelProperty_84 rfl (rfl) (by decide) (by decide) ?_
    exact ⟨_, rfl, rfl, rfl, rfl, rfl, by rw [s_1]; exact hA.2.2.2.2.2.2.2.2.2.2⟩
  · refine j_aload_n dX7_reelProperty_85 rfl ?_
    refine j_getr dX7_reelProperty_86 hB fl_X7_92 (by first | exact h.k | exact hs.1 | exact hr.1 | exact hr.2.1.1 | exact hr.2.2.1.1 | exact hr.2.2.2.1.1 | exact hr.2.2.2.2.1.1 | exact hr.2.2.2.2.2.1.1 | exact hr.2.2.2.2.2.2.1.1 | exact hs.2.2.2.2.1.1 | exact hs.2.2.2.2.2.1.1 | exact hs.2.2.2.2.2.2.1.1 | exact h.t0.2.2 | exact h.rk.1 | exact h.rk.2.1.1 | exact h.rk.2.2.1.1 | exact h.rk.2.2.2.1.1 | exact h.rk.2.2.2.2.1 | exact h.tk.1 | exact h.tk.2.1.1 | exact h.tk.2.2.1.1 | exact h.tk.2.2.2.1.1 | exact h.tk.2.2.2.2.1.1 | exact h.tk.2.2.2.2.2.1.1 | exact h.tk.2.2.2.2.2.2.1.1 | exact h.tk.2.2.2.2.2.2.2.1 | exact h.tk2.1 | exact h.b.1.1) (by rfl) ?_
    refine j_cVi dX7_reelProperty_89 hB mo_X1_size ml_X7_107 (sp_X1_size hB hr.2.2.2.2.2.1) (by first | exact h.k | exact hs.1 | exact hr.1 | exact hr.2.1.1 | exact hr.2.2.1.1 | exact hr.2.2.2.1.1 | exact hr.2.2.2.2.1.1 | exact hr.2.2.2.2.2.1.1 | exact hr.2.2.2.2.2.2.1.1 | exact hs.2.2.2.2.1.1 | exact hs.2.2.2.2.2.1.1 | exact hs.2.2.2.2.2.2.1.1 | exact h.t0.2.2 | exact h.rk.1 | exact h.rk.2.1.1 | exact h.rk.2.2.1.1 | exact h.rk.2.2.2.1.1 | exact h.rk.2.2.2.2.1 | exact h.tk.1 | exact h.tk.2.1.1 | exact h.tk.2.2.1.1 | exact h.tk.2.2.2.1.1 | exact h.tk.2.2.2.2.1.1 | exact h.tk.2.2.2.2.2.1.1 | exact h.tk.2.2.2.2.2.2.1.1 | exact h.tk.2.2.2.2.2.2.2.1 | exact h.tk2.1 | exact h.b.1.1) rfl rfl rfl rfl ⟨rfl, rfl, by decide, by decide⟩ (Nat.le_of_ble_eq_true rfl) ⟨by decide, by decide⟩ (fun r_89 V_89 h_89 => ?_)
    obtain ⟨rfl, t1⟩ := h_89
    refine j_iret dX7_reelProperty_92 rfl (rfl) (by decide) (by decide) ?_
    exact ⟨_, rfl, rfl, rfl, rfl, rfl, by rw [s_1]; exact t1⟩
  · refine j_aload_n dX7_reelProperty_93 rfl ?_
    refine j_getr dX7_reelProperty_94 hB fl_X7_110 (by first | exact h.k | exact hs.1 | exact hr.1 | exact hr.2.1.1 | exact hr.2.2.1.1 | exact hr.2.2.2.1.1 | exact hr.2.2.2.2.1.1 | exact hr.2.2.2.2.2.1.1 | exact hr.2.2.2.2.2.2.1.1 | exact hs.2.2.2.2.1.1 | exact hs.2.2.2.2.2.1.1 | exact hs.2.2.2.2.2.2.1.1 | exact h.t0.2.2 | exact h.rk.1 | exact h.rk.2.1.1 | exact h.rk.2.2.1.1 | exact h.rk.2.2.2.1.1 | exact h.rk.2.2.2.2.1 | exact h.tk.1 | exact h.tk.2.1.1 | exact h.tk.2.2.1.1 | exact h.tk.2.2.2.1.1 | exact h.tk.2.2.2.2.1.1 | exact h.tk.2.2.2.2.2.1.1 | exact h.tk.2.2.2.2.2.2.1.1 | exact h.tk.2.2.2.2.2.2.2.1 | exact h.tk2.1 | exact h.b.1.1) (by rfl) ?_
    refine j_cVi dX7_reelProperty_97 hB mo_X1_size ml_X7_107 (sp_X1_size hB hr.2.2.2.2.2.2.1) (by first | exact h.k | exact hs.1 | exact hr.1 | exact hr.2.1.1 | exact hr.2.2.1.1 | exact hr.2.2.2.1.1 | exact hr.2.2.2.2.1.1 | exact hr.2.2.2.2.2.1.1 | exact hr.2.2.2.2.2.2.1.1 | exact hs.2.2.2.2.1.1 | exact hs.2.2.2.2.2.1.1 | exact hs.2.2.2.2.2.2.1.1 | exact h.t0.2.2 | exact h.rk.1 | exact h.rk.2.1.1 | exact h.rk.2.2.1.1 | exact h.rk.2.2.2.1.1 | exact h.rk.2.2.2.2.1 | exact h.tk.1 | exact h.tk.2.1.1 | exact h.tk.2.2.1.1 | exact h.tk.2.2.2.1.1 | exact h.tk.2.2.2.2.1.1 | exact h.tk.2.2.2.2.2.1.1 | exact h.tk.2.2.2.2.2.2.1.1 | exact h.tk.2.2.2.2.2.2.2.1 | exact h.tk2.1 | exact h.b.1.1) rfl rfl rfl rfl ⟨rfl, rfl, by decide, by decide⟩ (Nat.le_of_ble_eq_true rfl) ⟨by decide, by decide⟩ (fun r_97 V_97 h_97 => ?_)
    obtain ⟨rfl, t1⟩ := h_97
    refine j_iret dX7_reelProperty_100 rfl (rfl) (by decide) (by decide) ?_
    exact ⟨_, rfl, rfl, rfl, rfl, rfl, by rw [s_1]; exact t1⟩
  · refine j_aload_n dX7_reelProperty_101 rfl ?_
    refine j_getr dX7_reelProperty_102 hB fl_X7_39 (by first | exact h.k | exact hs.1 | exact hr.1 | exact hr.2.1.1 | exact hr.2.2.1.1 | exact hr.2.2.2.1.1 | exact hr.2.2.2.2.1.1 | exact hr.2.2.2.2.2.1.1 | exact hr.2.2.2.2.2.2.1.1 | exact hs.2.2.2.2.1.1 | exact hs.2.2.2.2.2.1.1 | exact hs.2.2.2.2.2.2.1.1 | exact h.t0.2.2 | exact h.rk.1 | exact h.rk.2.1.1 | exact h.rk.2.2.1.1 | exact h.rk.2.2.2.1.1 | exact h.rk.2.2.2.2.1 | exact h.tk.1 | exact h.tk.2.1.1 | exact h.tk.2.2.1.1 | exact h.tk.2.2.2.1.1 | exact h.tk.2.2.2.2.1.1 | exact h.tk.2.2.2.2.2.1.1 | exact h.tk.2.2.2.2.2.2.1.1 | exact h.tk.2.2.2.2.2.2.2.1 | exact h.tk2.1 | exact h.b.1.1) (by rfl) ?_
    refine j_geti dX7_reelProperty_105 hB fl_X7_332 (by first | exact h.k | exact hs.1 | exact hr.1 | exact hr.2.1.1 | exact hr.2.2.1.1 | exact hr.2.2.2.1.1 | exact hr.2.2.2.2.1.1 | exact hr.2.2.2.2.2.1.1 | exact hr.2.2.2.2.2.2.1.1 | exact hs.2.2.2.2.1.1 | exact hs.2.2.2.2.2.1.1 | exact hs.2.2.2.2.2.2.1.1 | exact h.t0.2.2 | exact h.rk.1 | exact h.rk.2.1.1 | exact h.rk.2.2.1.1 | exact h.rk.2.2.2.1.1 | exact h.rk.2.2.2.2.1 | exact h.tk.1 | exact h.tk.2.1.1 | exact h.tk.2.2.1.1 | exact h.tk.2.2.2.1.1 | exact h.tk.2.2.2.2.1.1 | exact h.tk.2.2.2.2.2.1.1 | exact h.tk.2.2.2.2.2.2.1.1 | exact h.tk.2.2.2.2.2.2.2.1 | exact h.tk2.1 | exact h.b.1.1) (by rfl) ?_
    refine j_iret dX7_reelProperty_108 rfl (rfl) (by decide) (by decide) ?_
    exact ⟨_, rfl, rfl, rfl, rfl, rfl, by rw [s_1]; exact hBt.2.2.2.2.2.2.1⟩
  · refine j_aload_n dX7_reelProperty_109 rfl ?_
    refine j_getr dX7_reelProperty_110 hB fl_X7_39 (by first | exact h.k | exact hs.1 | exact hr.1 | exact hr.2.1.1 | exact hr.2.2.1.1 | exact hr.2.2.2.1.1 | exact hr.2.2.2.2.1.1 | exact hr.2.2.2.2.2.1.1 | exact hr.2.2.2.2.2.2.1.1 | exact hs.2.2.2.2.1.1 | exact hs.2.2.2.2.2.1.1 | exact hs.2.2.2.2.2.2.1.1 | exact h.t0.2.2 | exact h.rk.1 | exact h.rk.2.1.1 | exact h.rk.2.2.1.1 | exact h.rk.2.2.2.1.1 | exact h.rk.2.2.2.2.1 | exact h.tk.1 | exact h.tk.2.1.1 | exact h.tk.2.2.1.1 | exact h.tk.2.2.2.1.1 | exact h.tk.2.2.2.2.1.1 | exact h.tk.2.2.2.2.2.1.1 | exact h.tk.2.2.2.2.2.2.1.1 | exact h.tk.2.2.2.2.2.2.2.1 | exact h.tk2.1 | exact h.b.1.1) (by rfl) ?_
    refine j_geti dX7_reelProperty_113 hB fl_X7_245 (by first | exact h.k | exact hs.1 | exact hr.1 | exact hr.2.1.1 | exact hr.2.2.1.1 | exact hr.2.2.2.1.1 | exact hr.2.2.2.2.1.1 | exact hr.2.2.2.2.2.1.1 | exact hr.2.2.2.2.2.2.1.1 | exact hs.2.2.2.2.1.1 | exact hs.2.2.2.2.2.1.1 | exact hs.2.2.2.2.2.2.1.1 | exact h.t0.2.2 | exact h.rk.1 | exact h.rk.2.1.1 | exact h.rk.2.2.1.1 | exact h.rk.2.2.2.1.1 | exact h.rk.2.2.2.2.1 | exact h.tk.1 | exact h.tk.2.1.1 | exact h.tk.2.2.1.1 | exact h.tk.2.2.2.1.1 | exact h.tk.2.2.2.2.1.1 | exact h.tk.2.2.2.2.2.1.1 | exact h.tk.2.2.2.2.2.2.1.1 | exact h.tk.2.2.2.2.2.2.2.1 | exact h.tk2.1 | exact h.b.1.1) (by rfl) ?_
    refine j_iret dX7_reelProperty_116 rfl (rfl) (by decide) (by decide) ?_
    exact ⟨_, rfl, rfl, rfl, rfl, rfl, by rw [s_1]; exact hBt.2.2.2.2.2.2.2.1⟩
  · refine j_aload_n dX7_reelProperty_117 rfl ?_
    refine j_getr dX7_reelProperty_118 hB fl_X7_39 (by first | exact h.k | exact hs.1 | exact hr.1 | exact hr.2.1.1 | exact hr.2.2.1.1 | exact hr.2.2.2.1.1 | exact hr.2.2.2.2.1.1 | exact hr.2.2.2.2.2.1.1 | exact hr.2.2.2.2.2.2.1.1 | exact hs.2.2.2.2.1.1 | exact hs.2.2.2.2.2.1.1 | exact hs.2.2.2.2.2.2.1.1 | exact h.t0.2.2 | exact h.rk.1 | exact h.rk.2.1.1 | exact h.rk.2.2.1.1 | exact h.rk.2.2.2.1.1 | exact h.rk.2.2.2.2.1 | exact h.tk.1 | exact h.tk.2.1.1 | exact h.tk.2.2.1.1 | exact h.tk.2.2.2.1.1 | exact h.tk.2.2.2.2.1.1 | exact h.tk.2.2.2.2.2.1.1 | exact h.tk.2.2.2.2.2.2.1.1 | exact h.tk.2.2.2.2.2.2.2.1 | exact h.tk2.1 | exact h.b.1.1) (by rfl) ?_
    refine j_geti dX7_reelProperty_121 hB fl_X7_298 (by first | exact h.k | exact hs.1 | exact hr.1 | exact hr.2.1.1 | exact hr.2.2.1.1 | exact hr.2.2.2.1.1 | exact hr.2.2.2.2.1.1 | exact hr.2.2.2.2.2.1.1 | exact hr.2.2.2.2.2.2.1.1 | exact hs.2.2.2.2.1.1 | exact hs.2.2.2.2.2.1.1 | exact hs.2.2.2.2.2.2.1.1 | exact h.t0.2.2 | exact h.rk.1 | exact h.rk.2.1.1 | exact h.rk.2.2.1.1 | exact h.rk.2.2.2.1.1 | exact h.rk.2.2.2.2.1 | exact h.tk.1 | exact h.tk.2.1.1 | exact h.tk.2.2.1.1 | exact h.tk.2.2.2.1.1 | exact h.tk.2.2.2.2.1.1 | exact h.tk.2.2.2.2.2.1.1 | exact h.tk.2.2.2.2.2.2.1.1 | exact h.tk.2.2.2.2.2.2.2.1 | exact h.tk2.1 | exact h.b.1.1) (by rfl) ?_
    refine j_iret dX7_reelProperty_124 rfl (rfl) (by decide) (by decide) ?_
    exact ⟨_, rfl, rfl, rfl, rfl, rfl, by rw [s_1]; exact hBt.2.2.2.2.2.2.2.2.1⟩
  · refine j_aload_n dX7_reelProperty_125 rfl ?_
    refine j_getr dX7_reelProperty_126 hB fl_X7_39 (by first | exact h.k | exact hs.1 | exact hr.1 | exact hr.2.1.1 | exact hr.2.2.1.1 | exact hr.2.2.2.1.1 | exact hr.2.2.2.2.1.1 | exact hr.2.2.2.2.2.1.1 | exact hr.2.2.2.2.2.2.1.1 | exact hs.2.2.2.2.1.1 | exact hs.2.2.2.2.2.1.1 | exact hs.2.2.2.2.2.2.1.1 | exact h.t0.2.2 | exact h.rk.1 | exact h.rk.2.1.1 | exact h.rk.2.2.1.1 | exact h.rk.2.2.2.1.1 | exact h.rk.2.2.2.2.1 | exact h.tk.1 | exact h.tk.2.1.1 | exact h.tk.2.2.1.1 | exact h.tk.2.2.2.1.1 | exact h.tk.2.2.2.2.1.1 | exact h.tk.2.2.2.2.2.1.1 | exact h.tk.2.2.2.2.2.2.1.1 | exact h.tk.2.2.2.2.2.2.2.1 | exact h.tk2.1 | exact h.b.1.1) (by rfl) ?_
    refine j_aload_n dX7_reelProperty_129 rfl ?_
    refine j_cVi dX7_reelProperty_130 hB mo_X6_silence ml_X7_335 (sp_X6_silence hB hT' hr hW.1 (hW.r r.toInt) (Or.inl rfl)) (by first | exact h.k | exact hs.1 | exact hr.1 | exact hr.2.1.1 | exact hr.2.2.1.1 | exact hr.2.2.2.1.1 | exact hr.2.2.2.2.1.1 | exact hr.2.2.2.2.2.1.1 | exact hr.2.2.2.2.2.2.1.1 | exact hs.2.2.2.2.1.1 | exact hs.2.2.2.2.2.1.1 | exact hs.2.2.2.2.2.2.1.1 | exact h.t0.2.2 | exact h.rk.1 | exact h.rk.2.1.1 | exact h.rk.2.2.1.1 | exact h.rk.2.2.2.1.1 | exact h.rk.2.2.2.2.1 | exact h.tk.1 | exact h.tk.2.1.1 | exact h.tk.2.2.1.1 | exact h.tk.2.2.2.1.1 | exact h.tk.2.2.2.2.1.1 | exact h.tk.2.2.2.2.2.1.1 | exact h.tk.2.2.2.2.2.2.1.1 | exact h.tk.2.2.2.2.2.2.2.1 | exact h.tk2.1 | exact h.b.1.1) rfl rfl rfl rfl ⟨rfl, rfl, by decide, by decide⟩ (Nat.le_of_ble_eq_true rfl) ⟨by decide, by decide⟩ (fun r_130 V_130 h_130 => ?_)
    obtain ⟨rfl, t1⟩ := h_130
    refine j_iret dX7_reelProperty_133 rfl (rfl) (by decide) (by decide) ?_
    exact ⟨_, rfl, rfl, rfl, rfl, rfl, by rw [s_1]; exact t1⟩
  · refine j_aload_n dX7_reelProperty_134 rfl ?_
    refine j_getr dX7_reelProperty_135 hB fl_X7_39 (by first | exact h.k | exact hs.1 | exact hr.1 | exact hr.2.1.1 | exact hr.2.2.1.1 | exact hr.2.2.2.1.1 | exact hr.2.2.2.2.1.1 | exact hr.2.2.2.2.2.1.1 | exact hr.2.2.2.2.2.2.1.1 | exact hs.2.2.2.2.1.1 | exact hs.2.2.2.2.2.1.1 | exact hs.2.2.2.2.2.2.1.1 | exact h.t0.2.2 | exact h.rk.1 | exact h.rk.2.1.1 | exact h.rk.2.2.1.1 | exact h.rk.2.2.2.1.1 | exact h.rk.2.2.2.2.1 | exact h.tk.1 | exact h.tk.2.1.1 | exact h.tk.2.2.1.1 | exact h.tk.2.2.2.1.1 | exact h.tk.2.2.2.2.1.1 | exact h.tk.2.2.2.2.2.1.1 | exact h.tk.2.2.2.2.2.2.1.1 | exact h.tk.2.2.2.2.2.2.2.1 | exact h.tk2.1 | exact h.b.1.1) (by rfl) ?_
    refine j_geti dX7_reelProperty_138 hB fl_X7_338 (by first | exact h.k | exact hs.1 | exact hr.1 | exact hr.2.1.1 | exact hr.2.2.1.1 | exact hr.2.2.2.1.1 | exact hr.2.2.2.2.1.1 | exact hr.2.2.2.2.2.1.1 | exact hr.2.2.2.2.2.2.1.1 | exact hs.2.2.2.2.1.1 | exact hs.2.2.2.2.2.1.1 | exact hs.2.2.2.2.2.2.1.1 | exact h.t0.2.2 | exact h.rk.1 | exact h.rk.2.1.1 | exact h.rk.2.2.1.1 | exact h.rk.2.2.2.1.1 | exact h.rk.2.2.2.2.1 | exact h.tk.1 | exact h.tk.2.1.1 | exact h.tk.2.2.1.1 | exact h.tk.2.2.2.1.1 | exact h.tk.2.2.2.2.1.1 | exact h.tk.2.2.2.2.2.1.1 | exact h.tk.2.2.2.2.2.2.1.1 | exact h.tk.2.2.2.2.2.2.2.1 | exact h.tk2.1 | exact h.b.1.1) (by rfl) ?_
    refine j_iret dX7_reelProperty_141 rfl (rfl) (by decide) (by decide) ?_
    have s_1 : w.toInt = 10 := by omega
    exact ⟨_, rfl, rfl, rfl, rfl, rfl, by rw [s_1]; exact hBt.2.2.2.2.2.2.2.2.2⟩
set_option maxRecDepth 100000 in
set_option maxHeartbeats 4000000 in
theorem sp_X7_scene (hB : jB l s0 D) {q : Nat} {x : aX} {r s w : Int32} (h : cuIs T V q x) (hW : xW x) : Sp l s0 D kX7_scene (jR 8 3 18) 3 18 [.ref q, .int r, .int s, .int w] T V X sz (qC T V X sz q (e_scene x r s w) [IO, IA] (pInt (scP x.1 (xR x r) s.toInt.toNat w.toInt)) x (x)) := by
  refine Sp.of pn_X7_scene rfl (Nat.le_of_ble_eq_true rfl) ?_
  have hs := h.st
  have hr := hs.reel r.toInt
  have hrl := hW.1.r r.toInt
  refine j_aload_n dX7_scene_0 rfl ?_
  refine j_iload_n dX7_scene_1 rfl ?_
  refine j_iload_n dX7_scene_2 rfl ?_
  refine j_tV dX7_scene_3 hB mo_X7_requireScene ml_X7_85 (sp_X7_requireScene hB h) (by first | exact h.k | exact hs.1 | exact hr.1 | exact hr.2.1.1 | exact hr.2.2.1.1 | exact hr.2.2.2.1.1 | exact hr.2.2.2.2.1.1 | exact hr.2.2.2.2.2.1.1 | exact hr.2.2.2.2.2.2.1.1 | exact hs.2.2.2.2.1.1 | exact hs.2.2.2.2.2.1.1 | exact hs.2.2.2.2.2.2.1.1 | exact h.t0.2.2 | exact h.rk.1 | exact h.rk.2.1.1 | exact h.rk.2.2.1.1 | exact h.rk.2.2.2.1.1 | exact h.rk.2.2.2.2.1 | exact h.tk.1 | exact h.tk.2.1.1 | exact h.tk.2.2.1.1 | exact h.tk.2.2.2.1.1 | exact h.tk.2.2.2.2.1.1 | exact h.tk.2.2.2.2.2.1.1 | exact h.tk.2.2.2.2.2.2.1.1 | exact h.tk.2.2.2.2.2.2.2.1 | exact h.tk2.1 | exact h.b.1.1) rfl rfl rfl rfl ⟨rfl, rfl, by decide, by decide⟩ (Nat.le_of_ble_eq_true rfl) ⟨by decide, by decide⟩ rfl ⟨by decide, by decide⟩ (fun E V_3 sz_3 hz hx => by obtain ⟨rfl, rfl, hn⟩ := hx; exact qC.thr 0 hz rfl (by show e_scene x r s w = 1; unfold e_scene; exact (if_pos hn)) jAg.rf h) (fun v_3 V_3 h_3 => ?_)
  obtain ⟨rfl, rfl, h_3⟩ := h_3
  refine j_iload_n dX7_scene_6 rfl ?_
  refine j_iconst (v := 0) dX7_scene_7 (by decide) ?_
  refine j_bipush (v := 11) dX7_scene_8 (by decide) ?_
  refine j_tS dX7_scene_10 hB mo_X7_requireRange ml_X7_56 (sp_X7_requireRange hB) rfl rfl ⟨rfl, rfl, by decide, by decide⟩ (Nat.le_of_ble_eq_true rfl) ⟨by decide, by decide⟩ rfl ⟨by decide, by decide⟩ (fun E V_10 sz_10 hz hx => by obtain ⟨rfl, rfl, hn⟩ := hx; exact qC.thr 1 hz rfl (by show e_scene x r s w = 2; unfold e_scene; exact ((if_neg (fun z => z h_3)).trans (if_pos hn))) jAg.rf h) (fun v_10 V_10 h_10 => ?_)
  obtain ⟨rfl, rfl, h_10⟩ := h_10
  have h_10 : inR w 0 11 := h_10
  refine j_aload_n dX7_scene_13 rfl ?_
  refine j_getr dX7_scene_14 hB fl_X7_10 (by first | exact h.k | exact hs.1 | exact hr.1 | exact hr.2.1.1 | exact hr.2.2.1.1 | exact hr.2.2.2.1.1 | exact hr.2.2.2.2.1.1 | exact hr.2.2.2.2.2.1.1 | exact hr.2.2.2.2.2.2.1.1 | exact hs.2.2.2.2.1.1 | exact hs.2.2.2.2.2.1.1 | exact hs.2.2.2.2.2.2.1.1 | exact h.t0.2.2 | exact h.rk.1 | exact h.rk.2.1.1 | exact h.rk.2.2.1.1 | exact h.rk.2.2.2.1.1 | exact h.rk.2.2.2.2.1 | exact h.tk.1 | exact h.tk.2.1.1 | exact h.tk.2.2.1.1 | exact h.tk.2.2.2.1.1 | exact h.tk.2.2.2.2.1.1 | exact h.tk.2.2.2.2.2.1.1 | exact h.tk.2.2.2.2.2.2.1.1 | exact h.tk.2.2.2.2.2.2.2.1 | exact h.tk2.1 | exact h.b.1.1) (by rfl) ?_
  refine j_iload_n dX7_scene_17 rfl ?_
  refine j_cVa dX7_scene_18 hB mo_X5_reelAt ml_X7_60 (sp_X5_reelAt hB hs) (by first | exact h.k | exact hs.1 | exact hr.1 | exact hr.2.1.1 | exact hr.2.2.1.1 | exact hr.2.2.2.1.1 | exact hr.2.2.2.2.1.1 | exact hr.2.2.2.2.2.1.1 | exact hr.2.2.2.2.2.2.1.1 | exact hs.2.2.2.2.1.1 | exact hs.2.2.2.2.2.1.1 | exact hs.2.2.2.2.2.2.1.1 | exact h.t0.2.2 | exact h.rk.1 | exact h.rk.2.1.1 | exact h.rk.2.2.1.1 | exact h.rk.2.2.2.1.1 | exact h.rk.2.2.2.2.1 | exact h.tk.1 | exact h.tk.2.1.1 | exact h.tk.2.2.1.1 | exact h.tk.2.2.2.1.1 | exact h.tk.2.2.2.2.1.1 | exact h.tk.2.2.2.2.2.1.1 | exact h.tk.2.2.2.2.2.2.1.1 | exact h.tk.2.2.2.2.2.2.2.1 | exact h.tk2.1 | exact h.b.1.1) rfl rfl rfl rfl ⟨rfl, rfl, by decide, by decide⟩ (Nat.le_of_ble_eq_true rfl) ⟨by decide, by decide⟩ (fun r_18 V_18 h_18 => ?_)
  obtain ⟨rfl, hq⟩ := h_18
  subst hq
  refine j_astore (L' := [(0, _), (1, _), (2, _), (3, _), (4, _)]) dX7_scene_21 (by decide) rfl ?_
  refine j_aload_n dX7_scene_23 rfl ?_
  refine j_getr dX7_scene_24 hB fl_X7_39 (by first | exact h.k | exact hs.1 | exact hr.1 | exact hr.2.1.1 | exact hr.2.2.1.1 | exact hr.2.2.2.1.1 | exact hr.2.2.2.2.1.1 | exact hr.2.2.2.2.2.1.1 | exact hr.2.2.2.2.2.2.1.1 | exact hs.2.2.2.2.1.1 | exact hs.2.2.2.2.2.1.1 | exact hs.2.2.2.2.2.2.1.1 | exact h.t0.2.2 | exact h.rk.1 | exact h.rk.2.1.1 | exact h.rk.2.2.1.1 | exact h.rk.2.2.2.1.1 | exact h.rk.2.2.2.2.1 | exact h.tk.1 | exact h.tk.2.1.1 | exact h.tk.2.2.1.1 | exact h.tk.2.2.2.1.1 | exact h.tk.2.2.2.2.1.1 | exact h.tk.2.2.2.2.2.1.1 | exact h.tk.2.2.2.2.2.2.1.1 | exact h.tk.2.2.2.2.2.2.2.1 | exact h.tk2.1 | exact h.b.1.1) (by rfl) ?_
  refine j_aload_n dX7_scene_27 rfl ?_
  refine j_getr dX7_scene_28 hB fl_X7_10 (by first | exact h.k | exact hs.1 | exact hr.1 | exact hr.2.1.1 | exact hr.2.2.1.1 | exact hr.2.2.2.1.1 | exact hr.2.2.2.2.1.1 | exact hr.2.2.2.2.2.1.1 | exact hr.2.2.2.2.2.2.1.1 | exact hs.2.2.2.2.1.1 | exact hs.2.2.2.2.2.1.1 | exact hs.2.2.2.2.2.2.1.1 | exact h.t0.2.2 | exact h.rk.1 | exact h.rk.2.1.1 | exact h.rk.2.2.1.1 | exact h.rk.2.2.2.1.1 | exact h.rk.2.2.2.2.1 | exact h.tk.1 | exact h.tk.2.1.1 | exact h.tk.2.2.1.1 | exact h.tk.2.2.2.1.1 | exact h.tk.2.2.2.2.1.1 | exact h.tk.2.2.2.2.2.1.1 | exact h.tk.2.2.2.2.2.2.1.1 | exact h.tk.2.2.2.2.2.2.2.1 | exact h.tk2.1 | exact h.b.1.1) (by rfl) ?_
  refine j_aload dX7_scene_31 rfl ?_
  refine j_iconst (v := 0) dX7_scene_33 (by decide) ?_
  refine j_cVu dX7_scene_34 hB mo_X6_measure ml_X7_141 (sp_X6_measure hB h.tk h.st (hr) (by omega) (by have := reelA_in (q + 1) r.toInt; omega) hW.1.1 (hW.1.r _) (Or.inl rfl) hW.1.2.1.1) (by first | exact h.k | exact hs.1 | exact hr.1 | exact hr.2.1.1 | exact hr.2.2.1.1 | exact hr.2.2.2.1.1 | exact hr.2.2.2.2.1.1 | exact hr.2.2.2.2.2.1.1 | exact hr.2.2.2.2.2.2.1.1 | exact hs.2.2.2.2.1.1 | exact hs.2.2.2.2.2.1.1 | exact hs.2.2.2.2.2.2.1.1 | exact h.t0.2.2 | exact h.rk.1 | exact h.rk.2.1.1 | exact h.rk.2.2.1.1 | exact h.rk.2.2.2.1.1 | exact h.rk.2.2.2.2.1 | exact h.tk.1 | exact h.tk.2.1.1 | exact h.tk.2.2.1.1 | exact h.tk.2.2.2.1.1 | exact h.tk.2.2.2.2.1.1 | exact h.tk.2.2.2.2.2.1.1 | exact h.tk.2.2.2.2.2.2.1.1 | exact h.tk.2.2.2.2.2.2.2.1 | exact h.tk2.1 | exact h.b.1.1) rfl rfl rfl rfl ⟨rfl, rfl, by decide, by decide⟩ (Nat.le_of_ble_eq_true rfl) ⟨by decide, by decide⟩ (fun V_34 h_34 => ?_)
  obtain ⟨gT, aT⟩ := h_34
  have gT : TmIs T V_34 (q + 461) x.1 _ 0 := gT
  have cT := h.tm aT gT.k
  refine j_aload_n dX7_scene_37 rfl ?_
  refine j_aload dX7_scene_38 rfl ?_
  have hsi : s.toInt = (s.toInt.toNat : Int) := by have := h_3.2.1; omega
  have hsk : s.toInt.toNat < (sR x.1 r.toInt).1.length := by have := h_3.2.2; unfold xR at this; omega
  refine j_iload_n dX7_scene_40 rfl ?_
  refine j_iload_n dX7_scene_41 rfl ?_
  refine j_cVi dX7_scene_42 hB mo_X7_sceneProperty ml_X7_212 (sp_X7_sceneProperty hB cT hW.1 gT hsi hsk h_10.1 h_10.2) (by first | exact h.k | exact hs.1 | exact hr.1 | exact hr.2.1.1 | exact hr.2.2.1.1 | exact hr.2.2.2.1.1 | exact hr.2.2.2.2.1.1 | exact hr.2.2.2.2.2.1.1 | exact hr.2.2.2.2.2.2.1.1 | exact hs.2.2.2.2.1.1 | exact hs.2.2.2.2.2.1.1 | exact hs.2.2.2.2.2.2.1.1 | exact h.t0.2.2 | exact h.rk.1 | exact h.rk.2.1.1 | exact h.rk.2.2.1.1 | exact h.rk.2.2.2.1.1 | exact h.rk.2.2.2.2.1 | exact h.tk.1 | exact h.tk.2.1.1 | exact h.tk.2.2.1.1 | exact h.tk.2.2.2.1.1 | exact h.tk.2.2.2.2.1.1 | exact h.tk.2.2.2.2.2.1.1 | exact h.tk.2.2.2.2.2.2.1.1 | exact h.tk.2.2.2.2.2.2.2.1 | exact h.tk2.1 | exact h.b.1.1) rfl rfl rfl rfl ⟨rfl, rfl, by decide, by decide⟩ (Nat.le_of_ble_eq_true rfl) ⟨by decide, by decide⟩ (fun r_42 V_42 h_42 => ?_)
  obtain ⟨rfl, t1⟩ := h_42
  refine j_iret dX7_scene_45 rfl (rfl) (by decide) (by decide) ?_
  exact qC.ret (by show e_scene x r s w = 0; unfold e_scene; exact ((if_neg (fun z => z h_3)).trans (if_neg (fun z => z h_10)))) ⟨_, rfl, t1⟩ (aT.wide (by omega) (by omega)) cT
set_option maxRecDepth 100000 in
set_option maxHeartbeats 4000000 in
theorem sp_X7_reel (hB : jB l s0 D) {q : Nat} {x : aX} {r w : Int32} (h : cuIs T V q x) (hW : xW x) : Sp l s0 D kX7_reel (jR 8 2 12) 2 12 [.ref q, .int r, .int w] T V X sz (qC T V X sz q (e_reel r w) [IO, IA] (pInt (rlP x.1 (xR x r) w.toInt)) x (x)) := by
  refine Sp.of pn_X7_reel rfl (Nat.le_of_ble_eq_true rfl) ?_
  have hs := h.st
  have hr := hs.reel r.toInt
  have hrl := hW.1.r r.toInt
  refine j_aload_n dX7_reel_0 rfl ?_
  refine j_iload_n dX7_reel_1 rfl ?_
  refine j_tV dX7_reel_2 hB mo_X7_requireReel ml_X7_53 (sp_X7_requireReel hB) (by first | exact h.k | exact hs.1 | exact hr.1 | exact hr.2.1.1 | exact hr.2.2.1.1 | exact hr.2.2.2.1.1 | exact hr.2.2.2.2.1.1 | exact hr.2.2.2.2.2.1.1 | exact hr.2.2.2.2.2.2.1.1 | exact hs.2.2.2.2.1.1 | exact hs.2.2.2.2.2.1.1 | exact hs.2.2.2.2.2.2.1.1 | exact h.t0.2.2 | exact h.rk.1 | exact h.rk.2.1.1 | exact h.rk.2.2.1.1 | exact h.rk.2.2.2.1.1 | exact h.rk.2.2.2.2.1 | exact h.tk.1 | exact h.tk.2.1.1 | exact h.tk.2.2.1.1 | exact h.tk.2.2.2.1.1 | exact h.tk.2.2.2.2.1.1 | exact h.tk.2.2.2.2.2.1.1 | exact h.tk.2.2.2.2.2.2.1.1 | exact h.tk.2.2.2.2.2.2.2.1 | exact h.tk2.1 | exact h.b.1.1) rfl rfl rfl rfl ⟨rfl, rfl, by decide, by decide⟩ (Nat.le_of_ble_eq_true rfl) ⟨by decide, by decide⟩ rfl ⟨by decide, by decide⟩ (fun E V_2 sz_2 hz hx => by obtain ⟨rfl, rfl, hn⟩ := hx; exact qC.thr 0 hz rfl (by show e_reel r w = 1; unfold e_reel; exact (if_pos hn)) jAg.rf h) (fun v_2 V_2 h_2 => ?_)
  obtain ⟨rfl, rfl, h_2⟩ := h_2
  refine j_iload_n dX7_reel_5 rfl ?_
  refine j_iconst (v := 0) dX7_reel_6 (by decide) ?_
  refine j_bipush (v := 10) dX7_reel_7 (by decide) ?_
  refine j_tS dX7_reel_9 hB mo_X7_requireRange ml_X7_56 (sp_X7_requireRange hB) rfl rfl ⟨rfl, rfl, by decide, by decide⟩ (Nat.le_of_ble_eq_true rfl) ⟨by decide, by decide⟩ rfl ⟨by decide, by decide⟩ (fun E V_9 sz_9 hz hx => by obtain ⟨rfl, rfl, hn⟩ := hx; exact qC.thr 1 hz rfl (by show e_reel r w = 2; unfold e_reel; exact ((if_neg (fun z => z h_2)).trans (if_pos hn))) jAg.rf h) (fun v_9 V_9 h_9 => ?_)
  obtain ⟨rfl, rfl, h_9⟩ := h_9
  have h_9 : inR w 0 10 := h_9
  refine j_aload_n dX7_reel_12 rfl ?_
  refine j_getr dX7_reel_13 hB fl_X7_10 (by first | exact h.k | exact hs.1 | exact hr.1 | exact hr.2.1.1 | exact hr.2.2.1.1 | exact hr.2.2.2.1.1 | exact hr.2.2.2.2.1.1 | exact hr.2.2.2.2.2.1.1 | exact hr.2.2.2.2.2.2.1.1 | exact hs.2.2.2.2.1.1 | exact hs.2.2.2.2.2.1.1 | exact hs.2.2.2.2.2.2.1.1 | exact h.t0.2.2 | exact h.rk.1 | exact h.rk.2.1.1 | exact h.rk.2.2.1.1 | exact h.rk.2.2.2.1.1 | exact h.rk.2.2.2.2.1 | exact h.tk.1 | exact h.tk.2.1.1 | exact h.tk.2.2.1.1 | exact h.tk.2.2.2.1.1 | exact h.tk.2.2.2.2.1.1 | exact h.tk.2.2.2.2.2.1.1 | exact h.tk.2.2.2.2.2.2.1.1 | exact h.tk.2.2.2.2.2.2.2.1 | exact h.tk2.1 | exact h.b.1.1) (by rfl) ?_
  refine j_iload_n dX7_reel_16 rfl ?_
  refine j_cVa dX7_reel_17 hB mo_X5_reelAt ml_X7_60 (sp_X5_reelAt hB hs) (by first | exact h.k | exact hs.1 | exact hr.1 | exact hr.2.1.1 | exact hr.2.2.1.1 | exact hr.2.2.2.1.1 | exact hr.2.2.2.2.1.1 | exact hr.2.2.2.2.2.1.1 | exact hr.2.2.2.2.2.2.1.1 | exact hs.2.2.2.2.1.1 | exact hs.2.2.2.2.2.1.1 | exact hs.2.2.2.2.2.2.1.1 | exact h.t0.2.2 | exact h.rk.1 | exact h.rk.2.1.1 | exact h.rk.2.2.1.1 | exact h.rk.2.2.2.1.1 | exact h.rk.2.2.2.2.1 | exact h.tk.1 | exact h.tk.2.1.1 | exact h.tk.2.2.1.1 | exact h.tk.2.2.2.1.1 | exact h.tk.2.2.2.2.1.1 | exact h.tk.2.2.2.2.2.1.1 | exact h.tk.2.2.2.2.2.2.1.1 | exact h.tk.2.2.2.2.2.2.2.1 | exact h.tk2.1 | exact h.b.1.1) rfl rfl rfl rfl ⟨rfl, rfl, by decide, by decide⟩ (Nat.le_of_ble_eq_true rfl) ⟨by decide, by decide⟩ (fun r_17 V_17 h_17 => ?_)
  obtain ⟨rfl, hq⟩ := h_17
  subst hq
  refine j_astore_n (L' := [(0, _), (1, _), (2, _), (3, _)]) dX7_reel_20 (by decide) rfl ?_
  refine j_aload_n dX7_reel_21 rfl ?_
  refine j_getr dX7_reel_22 hB fl_X7_39 (by first | exact h.k | exact hs.1 | exact hr.1 | exact hr.2.1.1 | exact hr.2.2.1.1 | exact hr.2.2.2.1.1 | exact hr.2.2.2.2.1.1 | exact hr.2.2.2.2.2.1.1 | exact hr.2.2.2.2.2.2.1.1 | exact hs.2.2.2.2.1.1 | exact hs.2.2.2.2.2.1.1 | exact hs.2.2.2.2.2.2.1.1 | exact h.t0.2.2 | exact h.rk.1 | exact h.rk.2.1.1 | exact h.rk.2.2.1.1 | exact h.rk.2.2.2.1.1 | exact h.rk.2.2.2.2.1 | exact h.tk.1 | exact h.tk.2.1.1 | exact h.tk.2.2.1.1 | exact h.tk.2.2.2.1.1 | exact h.tk.2.2.2.2.1.1 | exact h.tk.2.2.2.2.2.1.1 | exact h.tk.2.2.2.2.2.2.1.1 | exact h.tk.2.2.2.2.2.2.2.1 | exact h.tk2.1 | exact h.b.1.1) (by rfl) ?_
  refine j_aload_n dX7_reel_25 rfl ?_
  refine j_getr dX7_reel_26 hB fl_X7_10 (by first | exact h.k | exact hs.1 | exact hr.1 | exact hr.2.1.1 | exact hr.2.2.1.1 | exact hr.2.2.2.1.1 | exact hr.2.2.2.2.1.1 | exact hr.2.2.2.2.2.1.1 | exact hr.2.2.2.2.2.2.1.1 | exact hs.2.2.2.2.1.1 | exact hs.2.2.2.2.2.1.1 | exact hs.2.2.2.2.2.2.1.1 | exact h.t0.2.2 | exact h.rk.1 | exact h.rk.2.1.1 | exact h.rk.2.2.1.1 | exact h.rk.2.2.2.1.1 | exact h.rk.2.2.2.2.1 | exact h.tk.1 | exact h.tk.2.1.1 | exact h.tk.2.2.1.1 | exact h.tk.2.2.2.1.1 | exact h.tk.2.2.2.2.1.1 | exact h.tk.2.2.2.2.2.1.1 | exact h.tk.2.2.2.2.2.2.1.1 | exact h.tk.2.2.2.2.2.2.2.1 | exact h.tk2.1 | exact h.b.1.1) (by rfl) ?_
  refine j_aload_n dX7_reel_29 rfl ?_
  refine j_iconst (v := 0) dX7_reel_30 (by decide) ?_
  refine j_cVu dX7_reel_31 hB mo_X6_measure ml_X7_141 (sp_X6_measure hB h.tk h.st (hr) (by omega) (by have := reelA_in (q + 1) r.toInt; omega) hW.1.1 (hW.1.r _) (Or.inl rfl) hW.1.2.1.1) (by first | exact h.k | exact hs.1 | exact hr.1 | exact hr.2.1.1 | exact hr.2.2.1.1 | exact hr.2.2.2.1.1 | exact hr.2.2.2.2.1.1 | exact hr.2.2.2.2.2.1.1 | exact hr.2.2.2.2.2.2.1.1 | exact hs.2.2.2.2.1.1 | exact hs.2.2.2.2.2.1.1 | exact hs.2.2.2.2.2.2.1.1 | exact h.t0.2.2 | exact h.rk.1 | exact h.rk.2.1.1 | exact h.rk.2.2.1.1 | exact h.rk.2.2.2.1.1 | exact h.rk.2.2.2.2.1 | exact h.tk.1 | exact h.tk.2.1.1 | exact h.tk.2.2.1.1 | exact h.tk.2.2.2.1.1 | exact h.tk.2.2.2.2.1.1 | exact h.tk.2.2.2.2.2.1.1 | exact h.tk.2.2.2.2.2.2.1.1 | exact h.tk.2.2.2.2.2.2.2.1 | exact h.tk2.1 | exact h.b.1.1) rfl rfl rfl rfl ⟨rfl, rfl, by decide, by decide⟩ (Nat.le_of_ble_eq_true rfl) ⟨by decide, by decide⟩ (fun V_31 h_31 => ?_)
  obtain ⟨gT, aT⟩ := h_31
  have gT : TmIs T V_31 (q + 461) x.1 _ 0 := gT
  have cT := h.tm aT gT.k
  refine j_aload_n dX7_reel_34 rfl ?_
  refine j_aload_n dX7_reel_35 rfl ?_
  refine j_iload_n dX7_reel_36 rfl ?_
  refine j_cVi dX7_reel_37 hB mo_X7_reelProperty ml_X7_216 (sp_X7_reelProperty hB cT hW.1 gT h_9.1 h_9.2) (by first | exact h.k | exact hs.1 | exact hr.1 | exact hr.2.1.1 | exact hr.2.2.1.1 | exact hr.2.2.2.1.1 | exact hr.2.2.2.2.1.1 | exact hr.2.2.2.2.2.1.1 | exact hr.2.2.2.2.2.2.1.1 | exact hs.2.2.2.2.1.1 | exact hs.2.2.2.2.2.1.1 | exact hs.2.2.2.2.2.2.1.1 | exact h.t0.2.2 | exact h.rk.1 | exact h.rk.2.1.1 | exact h.rk.2.2.1.1 | exact h.rk.2.2.2.1.1 | exact h.rk.2.2.2.2.1 | exact h.tk.1 | exact h.tk.2.1.1 | exact h.tk.2.2.1.1 | exact h.tk.2.2.2.1.1 | exact h.tk.2.2.2.2.1.1 | exact h.tk.2.2.2.2.2.1.1 | exact h.tk.2.2.2.2.2.2.1.1 | exact h.tk.2.2.2.2.2.2.2.1 | exact h.tk2.1 | exact h.b.1.1) rfl rfl rfl rfl ⟨rfl, rfl, by decide, by decide⟩ (Nat.le_of_ble_eq_true rfl) ⟨by decide, by decide⟩ (fun r_37 V_37 h_37 => ?_)
  obtain ⟨rfl, t1⟩ := h_37
  refine j_iret dX7_reel_40 rfl (rfl) (by decide) (by decide) ?_
  exact qC.ret (by show e_reel r w = 0; unfold e_reel; exact ((if_neg (fun z => z h_2)).trans (if_neg (fun z => z h_9)))) ⟨_, rfl, t1⟩ (aT.wide (by omega) (by omega)) cT
set_option maxRecDepth 100000 in
set_option maxHeartbeats 4000000 in
theorem sp_X7_speedAt (hB : jB l s0 D) {q : Nat} {x : aX} {r f : Int32} (h : cuIs T V q x) (hW : xW x) : Sp l s0 D kX7_speedAt (jR 8 2 12) 2 12 [.ref q, .int r, .int f] T V X sz (qC T V X sz q (e_spd r f) [IO, IA] (pInt (pHold (xR x r).2.2.2.2.1 f.toInt).toInt) x (x)) := by
  refine Sp.of pn_X7_speedAt rfl (Nat.le_of_ble_eq_true rfl) ?_
  have hs := h.st
  have hr := hs.reel r.toInt
  have hrl := hW.1.r r.toInt
  refine j_aload_n dX7_speedAt_0 rfl ?_
  refine j_iload_n dX7_speedAt_1 rfl ?_
  refine j_tV dX7_speedAt_2 hB mo_X7_requireReel ml_X7_53 (sp_X7_requireReel hB) (by first | exact h.k | exact hs.1 | exact hr.1 | exact hr.2.1.1 | exact hr.2.2.1.1 | exact hr.2.2.2.1.1 | exact hr.2.2.2.2.1.1 | exact hr.2.2.2.2.2.1.1 | exact hr.2.2.2.2.2.2.1.1 | exact hs.2.2.2.2.1.1 | exact hs.2.2.2.2.2.1.1 | exact hs.2.2.2.2.2.2.1.1 | exact h.t0.2.2 | exact h.rk.1 | exact h.rk.2.1.1 | exact h.rk.2.2.1.1 | exact h.rk.2.2.2.1.1 | exact h.rk.2.2.2.2.1 | exact h.tk.1 | exact h.tk.2.1.1 | exact h.tk.2.2.1.1 | exact h.tk.2.2.2.1.1 | exact h.tk.2.2.2.2.1.1 | exact h.tk.2.2.2.2.2.1.1 | exact h.tk.2.2.2.2.2.2.1.1 | exact h.tk.2.2.2.2.2.2.2.1 | exact h.tk2.1 | exact h.b.1.1) rfl rfl rfl rfl ⟨rfl, rfl, by decide, by decide⟩ (Nat.le_of_ble_eq_true rfl) ⟨by decide, by decide⟩ rfl ⟨by decide, by decide⟩ (fun E V_2 sz_2 hz hx => by obtain ⟨rfl, rfl, hn⟩ := hx; exact qC.thr 0 hz rfl (by show e_spd r f = 1; unfold e_spd; exact (if_pos hn)) jAg.rf h) (fun v_2 V_2 h_2 => ?_)
  obtain ⟨rfl, rfl, h_2⟩ := h_2
  refine j_iload_n dX7_speedAt_5 rfl ?_
  refine j_iconst (v := 0) dX7_speedAt_6 (by decide) ?_
  refine j_sipush (v := 9000) dX7_speedAt_7 (by decide) ?_
  refine j_tS dX7_speedAt_10 hB mo_X7_requireRange ml_X7_56 (sp_X7_requireRange hB) rfl rfl ⟨rfl, rfl, by decide, by decide⟩ (Nat.le_of_ble_eq_true rfl) ⟨by decide, by decide⟩ rfl ⟨by decide, by decide⟩ (fun E V_10 sz_10 hz hx => by obtain ⟨rfl, rfl, hn⟩ := hx; exact qC.thr 1 hz rfl (by show e_spd r f = 2; unfold e_spd; exact ((if_neg (fun z => z h_2)).trans (if_pos hn))) jAg.rf h) (fun v_10 V_10 h_10 => ?_)
  obtain ⟨rfl, rfl, h_10⟩ := h_10
  have h_10 : inR f 0 9000 := h_10
  refine j_aload_n dX7_speedAt_13 rfl ?_
  refine j_getr dX7_speedAt_14 hB fl_X7_10 (by first | exact h.k | exact hs.1 | exact hr.1 | exact hr.2.1.1 | exact hr.2.2.1.1 | exact hr.2.2.2.1.1 | exact hr.2.2.2.2.1.1 | exact hr.2.2.2.2.2.1.1 | exact hr.2.2.2.2.2.2.1.1 | exact hs.2.2.2.2.1.1 | exact hs.2.2.2.2.2.1.1 | exact hs.2.2.2.2.2.2.1.1 | exact h.t0.2.2 | exact h.rk.1 | exact h.rk.2.1.1 | exact h.rk.2.2.1.1 | exact h.rk.2.2.2.1.1 | exact h.rk.2.2.2.2.1 | exact h.tk.1 | exact h.tk.2.1.1 | exact h.tk.2.2.1.1 | exact h.tk.2.2.2.1.1 | exact h.tk.2.2.2.2.1.1 | exact h.tk.2.2.2.2.2.1.1 | exact h.tk.2.2.2.2.2.2.1.1 | exact h.tk.2.2.2.2.2.2.2.1 | exact h.tk2.1 | exact h.b.1.1) (by rfl) ?_
  refine j_iload_n dX7_speedAt_17 rfl ?_
  refine j_cVa dX7_speedAt_18 hB mo_X5_reelAt ml_X7_60 (sp_X5_reelAt hB hs) (by first | exact h.k | exact hs.1 | exact hr.1 | exact hr.2.1.1 | exact hr.2.2.1.1 | exact hr.2.2.2.1.1 | exact hr.2.2.2.2.1.1 | exact hr.2.2.2.2.2.1.1 | exact hr.2.2.2.2.2.2.1.1 | exact hs.2.2.2.2.1.1 | exact hs.2.2.2.2.2.1.1 | exact hs.2.2.2.2.2.2.1.1 | exact h.t0.2.2 | exact h.rk.1 | exact h.rk.2.1.1 | exact h.rk.2.2.1.1 | exact h.rk.2.2.2.1.1 | exact h.rk.2.2.2.2.1 | exact h.tk.1 | exact h.tk.2.1.1 | exact h.tk.2.2.1.1 | exact h.tk.2.2.2.1.1 | exact h.tk.2.2.2.2.1.1 | exact h.tk.2.2.2.2.2.1.1 | exact h.tk.2.2.2.2.2.2.1.1 | exact h.tk.2.2.2.2.2.2.2.1 | exact h.tk2.1 | exact h.b.1.1) rfl rfl rfl rfl ⟨rfl, rfl, by decide, by decide⟩ (Nat.le_of_ble_eq_true rfl) ⟨by decide, by decide⟩ (fun r_18 V_18 h_18 => ?_)
  obtain ⟨rfl, hq⟩ := h_18
  subst hq
  refine j_getr dX7_speedAt_21 hB fl_X7_92 (by first | exact h.k | exact hs.1 | exact hr.1 | exact hr.2.1.1 | exact hr.2.2.1.1 | exact hr.2.2.2.1.1 | exact hr.2.2.2.2.1.1 | exact hr.2.2.2.2.2.1.1 | exact hr.2.2.2.2.2.2.1.1 | exact hs.2.2.2.2.1.1 | exact hs.2.2.2.2.2.1.1 | exact hs.2.2.2.2.2.2.1.1 | exact h.t0.2.2 | exact h.rk.1 | exact h.rk.2.1.1 | exact h.rk.2.2.1.1 | exact h.rk.2.2.2.1.1 | exact h.rk.2.2.2.2.1 | exact h.tk.1 | exact h.tk.2.1.1 | exact h.tk.2.2.1.1 | exact h.tk.2.2.2.1.1 | exact h.tk.2.2.2.2.1.1 | exact h.tk.2.2.2.2.2.1.1 | exact h.tk.2.2.2.2.2.2.1.1 | exact h.tk.2.2.2.2.2.2.2.1 | exact h.tk2.1 | exact h.b.1.1) (by rfl) ?_
  refine j_iload_n dX7_speedAt_24 rfl ?_
  refine j_cVi dX7_speedAt_25 hB mo_X1_valueHoldingAt ml_X7_220 (sp_X1_valueHoldingAt hB hr.2.2.2.2.2.1) (by first | exact h.k | exact hs.1 | exact hr.1 | exact hr.2.1.1 | exact hr.2.2.1.1 | exact hr.2.2.2.1.1 | exact hr.2.2.2.2.1.1 | exact hr.2.2.2.2.2.1.1 | exact hr.2.2.2.2.2.2.1.1 | exact hs.2.2.2.2.1.1 | exact hs.2.2.2.2.2.1.1 | exact hs.2.2.2.2.2.2.1.1 | exact h.t0.2.2 | exact h.rk.1 | exact h.rk.2.1.1 | exact h.rk.2.2.1.1 | exact h.rk.2.2.2.1.1 | exact h.rk.2.2.2.2.1 | exact h.tk.1 | exact h.tk.2.1.1 | exact h.tk.2.2.1.1 | exact h.tk.2.2.2.1.1 | exact h.tk.2.2.2.2.1.1 | exact h.tk.2.2.2.2.2.1.1 | exact h.tk.2.2.2.2.2.2.1.1 | exact h.tk.2.2.2.2.2.2.2.1 | exact h.tk2.1 | exact h.b.1.1) rfl rfl rfl rfl ⟨rfl, rfl, by decide, by decide⟩ (Nat.le_of_ble_eq_true rfl) ⟨by decide, by decide⟩ (fun r_25 V_25 h_25 => ?_)
  obtain ⟨rfl, t1⟩ := h_25
  refine j_iret dX7_speedAt_28 rfl (rfl) (by decide) (by decide) ?_
  exact qC.ret (by show e_spd r f = 0; unfold e_spd; exact ((if_neg (fun z => z h_2)).trans (if_neg (fun z => z h_10)))) ⟨_, rfl, by rw [t1]; rfl⟩ jAg.rf h
set_option maxRecDepth 100000 in
set_option maxHeartbeats 4000000 in
theorem sp_X7_pieceProperty (hB : jB l s0 D) {q : Nat} {x : aX} (h : cuIs T V q x) {i w : Int32} (w0 : 0 ≤ w.toInt) (w1 : w.toInt ≤ 3) : Sp l s0 D kX7_pieceProperty (jR 2 0 0) 0 0 [.ref q, .int i, .int w] T V X sz (qI T X sz (fun v V' => V = V' ∧ v.toInt = pcP x.1 i w.toInt)) := by
  refine Sp.of pn_X7_pieceProperty rfl (Nat.le_of_ble_eq_true rfl) ?_
  have hs := h.st
  refine j_iload_n dX7_pieceProperty_0 rfl ?_
  refine j_tsw_3 (td := 64) (t0 := 28) (t1 := 40) (t2 := 52) dX7_pieceProperty_1 (by decide) (by decide) (fun s_1 => ?_) (fun s_1 => ?_) (fun s_1 => ?_) (fun s_1 => ?_)
  · refine j_aload_n dX7_pieceProperty_28 rfl ?_
    refine j_getr dX7_pieceProperty_29 hB fl_X7_10 (by first | exact h.k | exact hs.1 | exact hr.1 | exact hr.2.1.1 | exact hr.2.2.1.1 | exact hr.2.2.2.1.1 | exact hr.2.2.2.2.1.1 | exact hr.2.2.2.2.2.1.1 | exact hr.2.2.2.2.2.2.1.1 | exact hs.2.2.2.2.1.1 | exact hs.2.2.2.2.2.1.1 | exact hs.2.2.2.2.2.2.1.1 | exact h.t0.2.2 | exact h.rk.1 | exact h.rk.2.1.1 | exact h.rk.2.2.1.1 | exact h.rk.2.2.2.1.1 | exact h.rk.2.2.2.2.1 | exact h.tk.1 | exact h.tk.2.1.1 | exact h.tk.2.2.1.1 | exact h.tk.2.2.2.1.1 | exact h.tk.2.2.2.2.1.1 | exact h.tk.2.2.2.2.2.1.1 | exact h.tk.2.2.2.2.2.2.1.1 | exact h.tk.2.2.2.2.2.2.2.1 | exact h.tk2.1 | exact h.b.1.1) (by rfl) ?_
    refine j_getr dX7_pieceProperty_32 hB fl_X7_123 (by first | exact h.k | exact hs.1 | exact hr.1 | exact hr.2.1.1 | exact hr.2.2.1.1 | exact hr.2.2.2.1.1 | exact hr.2.2.2.2.1.1 | exact hr.2.2.2.2.2.1.1 | exact hr.2.2.2.2.2.2.1.1 | exact hs.2.2.2.2.1.1 | exact hs.2.2.2.2.2.1.1 | exact hs.2.2.2.2.2.2.1.1 | exact h.t0.2.2 | exact h.rk.1 | exact h.rk.2.1.1 | exact h.rk.2.2.1.1 | exact h.rk.2.2.2.1.1 | exact h.rk.2.2.2.2.1 | exact h.tk.1 | exact h.tk.2.1.1 | exact h.tk.2.2.1.1 | exact h.tk.2.2.2.1.1 | exact h.tk.2.2.2.2.1.1 | exact h.tk.2.2.2.2.2.1.1 | exact h.tk.2.2.2.2.2.2.1.1 | exact h.tk.2.2.2.2.2.2.2.1 | exact h.tk2.1 | exact h.b.1.1) (by rfl) ?_
    refine j_iload_n dX7_pieceProperty_35 rfl ?_
    refine j_cVi dX7_pieceProperty_36 hB mo_X3_at ml_X7_148 (sp_X3_at hB hs.2.2.2.2.1) (by first | exact h.k | exact hs.1 | exact hr.1 | exact hr.2.1.1 | exact hr.2.2.1.1 | exact hr.2.2.2.1.1 | exact hr.2.2.2.2.1.1 | exact hr.2.2.2.2.2.1.1 | exact hr.2.2.2.2.2.2.1.1 | exact hs.2.2.2.2.1.1 | exact hs.2.2.2.2.2.1.1 | exact hs.2.2.2.2.2.2.1.1 | exact h.t0.2.2 | exact h.rk.1 | exact h.rk.2.1.1 | exact h.rk.2.2.1.1 | exact h.rk.2.2.2.1.1 | exact h.rk.2.2.2.2.1 | exact h.tk.1 | exact h.tk.2.1.1 | exact h.tk.2.2.1.1 | exact h.tk.2.2.2.1.1 | exact h.tk.2.2.2.2.1.1 | exact h.tk.2.2.2.2.2.1.1 | exact h.tk.2.2.2.2.2.2.1.1 | exact h.tk.2.2.2.2.2.2.2.1 | exact h.tk2.1 | exact h.b.1.1) rfl rfl rfl rfl ⟨rfl, rfl, by decide, by decide⟩ (Nat.le_of_ble_eq_true rfl) ⟨by decide, by decide⟩ (fun r_36 V_36 h_36 => ?_)
    obtain ⟨rfl, y1⟩ := h_36
    rw [hs.2.2.2.2.2.2.2.1] at y1
    refine j_iret dX7_pieceProperty_39 rfl (rfl) (by decide) (by decide) ?_
    exact ⟨_, rfl, rfl, rfl, rfl, rfl, by rw [s_1, y1]; rfl⟩
  · refine j_aload_n dX7_pieceProperty_40 rfl ?_
    refine j_getr dX7_pieceProperty_41 hB fl_X7_10 (by first | exact h.k | exact hs.1 | exact hr.1 | exact hr.2.1.1 | exact hr.2.2.1.1 | exact hr.2.2.2.1.1 | exact hr.2.2.2.2.1.1 | exact hr.2.2.2.2.2.1.1 | exact hr.2.2.2.2.2.2.1.1 | exact hs.2.2.2.2.1.1 | exact hs.2.2.2.2.2.1.1 | exact hs.2.2.2.2.2.2.1.1 | exact h.t0.2.2 | exact h.rk.1 | exact h.rk.2.1.1 | exact h.rk.2.2.1.1 | exact h.rk.2.2.2.1.1 | exact h.rk.2.2.2.2.1 | exact h.tk.1 | exact h.tk.2.1.1 | exact h.tk.2.2.1.1 | exact h.tk.2.2.2.1.1 | exact h.tk.2.2.2.2.1.1 | exact h.tk.2.2.2.2.2.1.1 | exact h.tk.2.2.2.2.2.2.1.1 | exact h.tk.2.2.2.2.2.2.2.1 | exact h.tk2.1 | exact h.b.1.1) (by rfl) ?_
    refine j_getr dX7_pieceProperty_44 hB fl_X7_129 (by first | exact h.k | exact hs.1 | exact hr.1 | exact hr.2.1.1 | exact hr.2.2.1.1 | exact hr.2.2.2.1.1 | exact hr.2.2.2.2.1.1 | exact hr.2.2.2.2.2.1.1 | exact hr.2.2.2.2.2.2.1.1 | exact hs.2.2.2.2.1.1 | exact hs.2.2.2.2.2.1.1 | exact hs.2.2.2.2.2.2.1.1 | exact h.t0.2.2 | exact h.rk.1 | exact h.rk.2.1.1 | exact h.rk.2.2.1.1 | exact h.rk.2.2.2.1.1 | exact h.rk.2.2.2.2.1 | exact h.tk.1 | exact h.tk.2.1.1 | exact h.tk.2.2.1.1 | exact h.tk.2.2.2.1.1 | exact h.tk.2.2.2.2.1.1 | exact h.tk.2.2.2.2.2.1.1 | exact h.tk.2.2.2.2.2.2.1.1 | exact h.tk.2.2.2.2.2.2.2.1 | exact h.tk2.1 | exact h.b.1.1) (by rfl) ?_
    refine j_iload_n dX7_pieceProperty_47 rfl ?_
    refine j_cVi dX7_pieceProperty_48 hB mo_X3_at ml_X7_148 (sp_X3_at hB hs.2.2.2.2.2.1) (by first | exact h.k | exact hs.1 | exact hr.1 | exact hr.2.1.1 | exact hr.2.2.1.1 | exact hr.2.2.2.1.1 | exact hr.2.2.2.2.1.1 | exact hr.2.2.2.2.2.1.1 | exact hr.2.2.2.2.2.2.1.1 | exact hs.2.2.2.2.1.1 | exact hs.2.2.2.2.2.1.1 | exact hs.2.2.2.2.2.2.1.1 | exact h.t0.2.2 | exact h.rk.1 | exact h.rk.2.1.1 | exact h.rk.2.2.1.1 | exact h.rk.2.2.2.1.1 | exact h.rk.2.2.2.2.1 | exact h.tk.1 | exact h.tk.2.1.1 | exact h.tk.2.2.1.1 | exact h.tk.2.2.2.1.1 | exact h.tk.2.2.2.2.1.1 | exact h.tk.2.2.2.2.2.1.1 | exact h.tk.2.2.2.2.2.2.1.1 | exact h.tk.2.2.2.2.2.2.2.1 | exact h.tk2.1 | exact h.b.1.1) rfl rfl rfl rfl ⟨rfl, rfl, by decide, by decide⟩ (Nat.le_of_ble_eq_true rfl) ⟨by decide, by decide⟩ (fun r_48 V_48 h_48 => ?_)
    obtain ⟨rfl, y1⟩ := h_48
    rw [hs.2.2.2.2.2.2.2.2.1] at y1
    refine j_iret dX7_pieceProperty_51 rfl (rfl) (by decide) (by decide) ?_
    exact ⟨_, rfl, rfl, rfl, rfl, rfl, by rw [s_1, y1]; rfl⟩
  · refine j_aload_n dX7_pieceProperty_52 rfl ?_
    refine j_getr dX7_pieceProperty_53 hB fl_X7_10 (by first | exact h.k | exact hs.1 | exact hr.1 | exact hr.2.1.1 | exact hr.2.2.1.1 | exact hr.2.2.2.1.1 | exact hr.2.2.2.2.1.1 | exact hr.2.2.2.2.2.1.1 | exact hr.2.2.2.2.2.2.1.1 | exact hs.2.2.2.2.1.1 | exact hs.2.2.2.2.2.1.1 | exact hs.2.2.2.2.2.2.1.1 | exact h.t0.2.2 | exact h.rk.1 | exact h.rk.2.1.1 | exact h.rk.2.2.1.1 | exact h.rk.2.2.2.1.1 | exact h.rk.2.2.2.2.1 | exact h.tk.1 | exact h.tk.2.1.1 | exact h.tk.2.2.1.1 | exact h.tk.2.2.2.1.1 | exact h.tk.2.2.2.2.1.1 | exact h.tk.2.2.2.2.2.1.1 | exact h.tk.2.2.2.2.2.2.1.1 | exact h.tk.2.2.2.2.2.2.2.1 | exact h.tk2.1 | exact h.b.1.1) (by rfl) ?_
    refine j_getr dX7_pieceProperty_56 hB fl_X7_132 (by first | exact h.k | exact hs.1 | exact hr.1 | exact hr.2.1.1 | exact hr.2.2.1.1 | exact hr.2.2.2.1.1 | exact hr.2.2.2.2.1.1 | exact hr.2.2.2.2.2.1.1 | exact hr.2.2.2.2.2.2.1.1 | exact hs.2.2.2.2.1.1 | exact hs.2.2.2.2.2.1.1 | exact hs.2.2.2.2.2.2.1.1 | exact h.t0.2.2 | exact h.rk.1 | exact h.rk.2.1.1 | exact h.rk.2.2.1.1 | exact h.rk.2.2.2.1.1 | exact h.rk.2.2.2.2.1 | exact h.tk.1 | exact h.tk.2.1.1 | exact h.tk.2.2.1.1 | exact h.tk.2.2.2.1.1 | exact h.tk.2.2.2.2.1.1 | exact h.tk.2.2.2.2.2.1.1 | exact h.tk.2.2.2.2.2.2.1.1 | exact h.tk.2.2.2.2.2.2.2.1 | exact h.tk2.1 | exact h.b.1.1) (by rfl) ?_
    refine j_iload_n dX7_pieceProperty_59 rfl ?_
    refine j_cVi dX7_pieceProperty_60 hB mo_X3_at ml_X7_148 (sp_X3_at hB hs.2.2.2.2.2.2.1) (by first | exact h.k | exact hs.1 | exact hr.1 | exact hr.2.1.1 | exact hr.2.2.1.1 | exact hr.2.2.2.1.1 | exact hr.2.2.2.2.1.1 | exact hr.2.2.2.2.2.1.1 | exact hr.2.2.2.2.2.2.1.1 | exact hs.2.2.2.2.1.1 | exact hs.2.2.2.2.2.1.1 | exact hs.2.2.2.2.2.2.1.1 | exact h.t0.2.2 | exact h.rk.1 | exact h.rk.2.1.1 | exact h.rk.2.2.1.1 | exact h.rk.2.2.2.1.1 | exact h.rk.2.2.2.2.1 | exact h.tk.1 | exact h.tk.2.1.1 | exact h.tk.2.2.1.1 | exact h.tk.2.2.2.1.1 | exact h.tk.2.2.2.2.1.1 | exact h.tk.2.2.2.2.2.1.1 | exact h.tk.2.2.2.2.2.2.1.1 | exact h.tk.2.2.2.2.2.2.2.1 | exact h.tk2.1 | exact h.b.1.1) rfl rfl rfl rfl ⟨rfl, rfl, by decide, by decide⟩ (Nat.le_of_ble_eq_true rfl) ⟨by decide, by decide⟩ (fun r_60 V_60 h_60 => ?_)
    obtain ⟨rfl, y1⟩ := h_60
    rw [hs.2.2.2.2.2.2.2.2.2.1] at y1
    refine j_iret dX7_pieceProperty_63 rfl (rfl) (by decide) (by decide) ?_
    exact ⟨_, rfl, rfl, rfl, rfl, rfl, by rw [s_1, y1]; rfl⟩
  · refine j_aload_n dX7_pieceProperty_64 rfl ?_
    refine j_getr dX7_pieceProperty_65 hB fl_X7_10 (by first | exact h.k | exact hs.1 | exact hr.1 | exact hr.2.1.1 | exact hr.2.2.1.1 | exact hr.2.2.2.1.1 | exact hr.2.2.2.2.1.1 | exact hr.2.2.2.2.2.1.1 | exact hr.2.2.2.2.2.2.1.1 | exact hs.2.2.2.2.1.1 | exact hs.2.2.2.2.2.1.1 | exact hs.2.2.2.2.2.2.1.1 | exact h.t0.2.2 | exact h.rk.1 | exact h.rk.2.1.1 | exact h.rk.2.2.1.1 | exact h.rk.2.2.2.1.1 | exact h.rk.2.2.2.2.1 | exact h.tk.1 | exact h.tk.2.1.1 | exact h.tk.2.2.1.1 | exact h.tk.2.2.2.1.1 | exact h.tk.2.2.2.2.1.1 | exact h.tk.2.2.2.2.2.1.1 | exact h.tk.2.2.2.2.2.2.1.1 | exact h.tk.2.2.2.2.2.2.2.1 | exact h.tk2.1 | exact h.b.1.1) (by rfl) ?_
    refine j_iload_n dX7_pieceProperty_68 rfl ?_
    refine j_cVi dX7_pieceProperty_69 hB mo_X5_cuesWith ml_X7_341 (sp_X5_cuesWith hB hs) (by first | exact h.k | exact hs.1 | exact hr.1 | exact hr.2.1.1 | exact hr.2.2.1.1 | exact hr.2.2.2.1.1 | exact hr.2.2.2.2.1.1 | exact hr.2.2.2.2.2.1.1 | exact hr.2.2.2.2.2.2.1.1 | exact hs.2.2.2.2.1.1 | exact hs.2.2.2.2.2.1.1 | exact hs.2.2.2.2.2.2.1.1 | exact h.t0.2.2 | exact h.rk.1 | exact h.rk.2.1.1 | exact h.rk.2.2.1.1 | exact h.rk.2.2.2.1.1 | exact h.rk.2.2.2.2.1 | exact h.tk.1 | exact h.tk.2.1.1 | exact h.tk.2.2.1.1 | exact h.tk.2.2.2.1.1 | exact h.tk.2.2.2.2.1.1 | exact h.tk.2.2.2.2.2.1.1 | exact h.tk.2.2.2.2.2.2.1.1 | exact h.tk.2.2.2.2.2.2.2.1 | exact h.tk2.1 | exact h.b.1.1) rfl rfl rfl rfl ⟨rfl, rfl, by decide, by decide⟩ (Nat.le_of_ble_eq_true rfl) ⟨by decide, by decide⟩ (fun r_69 V_69 h_69 => ?_)
    obtain ⟨rfl, t1⟩ := h_69
    refine j_iret dX7_pieceProperty_72 rfl (rfl) (by decide) (by decide) ?_
    have s_1 : w.toInt = 3 := by omega
    exact ⟨_, rfl, rfl, rfl, rfl, rfl, by rw [s_1]; exact t1⟩
set_option maxRecDepth 100000 in
set_option maxHeartbeats 4000000 in
theorem sp_X7_piece (hB : jB l s0 D) {q : Nat} {x : aX} {i w : Int32} (h : cuIs T V q x) (hW : xW x) : Sp l s0 D kX7_piece (jR 8 2 12) 2 12 [.ref q, .int i, .int w] T V X sz (qC T V X sz q (e_piece x i w) [IO, IA] (pInt (pcP x.1 i w.toInt)) x (x)) := by
  refine Sp.of pn_X7_piece rfl (Nat.le_of_ble_eq_true rfl) ?_
  have hs := h.st

  refine j_aload_n dX7_piece_0 rfl ?_
  refine j_iload_n dX7_piece_1 rfl ?_
  refine j_tV dX7_piece_2 hB mo_X7_requirePiece ml_X7_135 (sp_X7_requirePiece hB h) (by first | exact h.k | exact hs.1 | exact hr.1 | exact hr.2.1.1 | exact hr.2.2.1.1 | exact hr.2.2.2.1.1 | exact hr.2.2.2.2.1.1 | exact hr.2.2.2.2.2.1.1 | exact hr.2.2.2.2.2.2.1.1 | exact hs.2.2.2.2.1.1 | exact hs.2.2.2.2.2.1.1 | exact hs.2.2.2.2.2.2.1.1 | exact h.t0.2.2 | exact h.rk.1 | exact h.rk.2.1.1 | exact h.rk.2.2.1.1 | exact h.rk.2.2.2.1.1 | exact h.rk.2.2.2.2.1 | exact h.tk.1 | exact h.tk.2.1.1 | exact h.tk.2.2.1.1 | exact h.tk.2.2.2.1.1 | exact h.tk.2.2.2.2.1.1 | exact h.tk.2.2.2.2.2.1.1 | exact h.tk.2.2.2.2.2.2.1.1 | exact h.tk.2.2.2.2.2.2.2.1 | exact h.tk2.1 | exact h.b.1.1) rfl rfl rfl rfl ⟨rfl, rfl, by decide, by decide⟩ (Nat.le_of_ble_eq_true rfl) ⟨by decide, by decide⟩ rfl ⟨by decide, by decide⟩ (fun E V_2 sz_2 hz hx => by obtain ⟨rfl, rfl, hn⟩ := hx; exact qC.thr 0 hz rfl (by show e_piece x i w = 1; unfold e_piece; exact (if_pos hn)) jAg.rf h) (fun v_2 V_2 h_2 => ?_)
  obtain ⟨rfl, rfl, h_2⟩ := h_2
  refine j_iload_n dX7_piece_5 rfl ?_
  refine j_iconst (v := 0) dX7_piece_6 (by decide) ?_
  refine j_iconst (v := 3) dX7_piece_7 (by decide) ?_
  refine j_tS dX7_piece_8 hB mo_X7_requireRange ml_X7_56 (sp_X7_requireRange hB) rfl rfl ⟨rfl, rfl, by decide, by decide⟩ (Nat.le_of_ble_eq_true rfl) ⟨by decide, by decide⟩ rfl ⟨by decide, by decide⟩ (fun E V_8 sz_8 hz hx => by obtain ⟨rfl, rfl, hn⟩ := hx; exact qC.thr 1 hz rfl (by show e_piece x i w = 2; unfold e_piece; exact ((if_neg (fun z => z h_2)).trans (if_pos hn))) jAg.rf h) (fun v_8 V_8 h_8 => ?_)
  obtain ⟨rfl, rfl, h_8⟩ := h_8
  have h_8 : inR w 0 3 := h_8
  refine j_aload_n dX7_piece_11 rfl ?_
  refine j_iload_n dX7_piece_12 rfl ?_
  refine j_iload_n dX7_piece_13 rfl ?_
  refine j_cVi dX7_piece_14 hB mo_X7_pieceProperty ml_X7_223 (sp_X7_pieceProperty hB h h_8.1 h_8.2) (by first | exact h.k | exact hs.1 | exact hr.1 | exact hr.2.1.1 | exact hr.2.2.1.1 | exact hr.2.2.2.1.1 | exact hr.2.2.2.2.1.1 | exact hr.2.2.2.2.2.1.1 | exact hr.2.2.2.2.2.2.1.1 | exact hs.2.2.2.2.1.1 | exact hs.2.2.2.2.2.1.1 | exact hs.2.2.2.2.2.2.1.1 | exact h.t0.2.2 | exact h.rk.1 | exact h.rk.2.1.1 | exact h.rk.2.2.1.1 | exact h.rk.2.2.2.1.1 | exact h.rk.2.2.2.2.1 | exact h.tk.1 | exact h.tk.2.1.1 | exact h.tk.2.2.1.1 | exact h.tk.2.2.2.1.1 | exact h.tk.2.2.2.2.1.1 | exact h.tk.2.2.2.2.2.1.1 | exact h.tk.2.2.2.2.2.2.1.1 | exact h.tk.2.2.2.2.2.2.2.1 | exact h.tk2.1 | exact h.b.1.1) rfl rfl rfl rfl ⟨rfl, rfl, by decide, by decide⟩ (Nat.le_of_ble_eq_true rfl) ⟨by decide, by decide⟩ (fun r_14 V_14 h_14 => ?_)
  obtain ⟨rfl, t1⟩ := h_14
  refine j_iret dX7_piece_17 rfl (rfl) (by decide) (by decide) ?_
  exact qC.ret (by show e_piece x i w = 0; unfold e_piece; exact ((if_neg (fun z => z h_2)).trans (if_neg (fun z => z h_8)))) ⟨_, rfl, t1⟩ jAg.rf h
def ctM (w : Int) : Int := if w = 0 then 0 else if w = 2 then 6 else if w = 3 then 7 else 3
theorem rlP_rng {s : aS} {rr : aR} {w : Int} (hp : pcW s) (hrl : rlW s rr) (hw : w = 0 ∨ w = 2 ∨ w = 3 ∨ w = 6) : 0 ≤ rlP s rr (ctM w) ∧ rlP s rr (ctM w) ≤ 144000 := by
  have h10 := hrl.2.2.2.1
  rcases hw with e | e | e | e <;> subst e
  · show 0 ≤ (rr.1.length : Int) ∧ (rr.1.length : Int) ≤ _; omega
  · have := aSum_rng (f := aCue1 rr) (B := 1) (n := rr.1.length) (fun k _ => by unfold aCue1; by_cases hc : isCue rr k; (rw [cueI_t hc]; omega); (rw [cueI_f hc]; omega)) rr.1.length (Nat.le_refl _)
    show 0 ≤ aSum (aCue1 rr) rr.1.length ∧ aSum (aCue1 rr) rr.1.length ≤ _; omega
  · have := aSum_rng (f := aBad1 s rr 0) (B := 1) (n := rr.1.length) (fun k _ => by unfold aBad1; split <;> omega) rr.1.length (Nat.le_refl _)
    show 0 ≤ aSum (aBad1 s rr 0) rr.1.length ∧ aSum (aBad1 s rr 0) rr.1.length ≤ _; omega
  · have := aBeg_rng hrl (w := 0) (Or.inl rfl) rr.1.length (Nat.le_refl _)
    show 0 ≤ aBeg rr 0 rr.1.length ∧ aBeg rr 0 rr.1.length ≤ _; omega
set_option maxRecDepth 100000 in
set_option maxHeartbeats 4000000 in
theorem sp_X7_sumOverReels (hB : jB l s0 D) {q : Nat} {x : aX} {w : Int32} (h : cuIs T V q x) (hW : stW x.1) (hw : w.toInt = 0 ∨ w.toInt = 2 ∨ w.toInt = 3 ∨ w.toInt = 6) : Sp l s0 D kX7_sumOverReels (jR 5 0 0) 0 0 [.ref q, .int w] T V X sz (qI T X sz (fun v V' => v.toInt = ovR x.1 (ctM w.toInt) ∧ cuIs T V' q x ∧ jAg V V' (q + 461) (q + 461 + 15))) := by
  refine Sp.of pn_X7_sumOverReels rfl (Nat.le_of_ble_eq_true rfl) ?_
  have k3 : (3 : Int32).toInt = 3 := by decide
  have rg : ∀ k : Nat, k ≤ 3 → 0 ≤ aSum (fun j => rlP x.1 (sR x.1 j) (ctM w.toInt)) k ∧ aSum (fun j => rlP x.1 (sR x.1 j) (ctM w.toInt)) k ≤ 144000 * k := fun k hk => aSum_rng (n := 3) (fun j _ => rlP_rng hW.1 (hW.r j) hw) k hk
  have loop : ∀ (n k : Nat) (i y : Int32) (V1 : jV) (L : List (Nat × Value)), L.lookup 0 = some (.ref q) → L.lookup 1 = some (.int w) → L.lookup 2 = some (.int y) → L.lookup 3 = some (.int i) → i.toInt = k → k + n = 3 → y.toInt = aSum (fun j => rlP x.1 (sR x.1 j) (ctM w.toInt)) k → cuIs T V1 q x → jAg V V1 (q + 461) (q + 461 + 15) → J l s0 D kX7_sumOverReels (jR 5 0 0) 0 0 (qI T X sz (fun v V' => v.toInt = ovR x.1 (ctM w.toInt) ∧ cuIs T V' q x ∧ jAg V V' (q + 461) (q + 461 + 15))) 4 L [] T V1 X sz 0 0 := by
    intro n
    induction n with
    | zero =>
      intro k i y V1 L l0 l1 l2 l3 hi hk hy hc ha
      refine j_sub2 (L' := [(0, .ref q), (1, .int w), (2, .int y), (3, .int i)]) (List.forall_mem_cons.mpr ⟨l0, List.forall_mem_cons.mpr ⟨l1, List.forall_mem_cons.mpr ⟨l2, List.forall_mem_cons.mpr ⟨l3, fun _ h9 => nomatch h9⟩⟩⟩⟩) ?_
      refine j_iload_n dX7_sumOverReels_4 rfl ?_
      refine j_iconst (v := 3) dX7_sumOverReels_5 (by decide) ?_
      refine j_icmp_ge (tgt := 117) dX7_sumOverReels_6 (by decide) (fun c_6 => ?_) (fun c_6 => ?_)
      · refine j_iload_n dX7_sumOverReels_117 rfl ?_
        refine j_iret dX7_sumOverReels_118 rfl (rfl) (by decide) (by decide) ?_
        exact ⟨_, rfl, rfl, rfl, rfl, by rw [hy, show k = 3 by omega]; unfold ovR; show ((0 : Int) + rlP x.1 (sR x.1 0) (ctM w.toInt)) + rlP x.1 (sR x.1 1) (ctM w.toInt) + rlP x.1 (sR x.1 2) (ctM w.toInt) = _; omega, hc, ha⟩
      · exact absurd c_6 (by omega)
    | succ n ih =>
      intro k i y V1 L l0 l1 l2 l3 hi hk hy hc ha
      have hs := hc.st
      have hr := hs.reel i.toInt
      have hrl := hW.r i.toInt
      have rk := rg k (by omega)
      have rq := rlP_rng hW.1 hrl hw
      refine j_sub2 (L' := [(0, .ref q), (1, .int w), (2, .int y), (3, .int i)]) (List.forall_mem_cons.mpr ⟨l0, List.forall_mem_cons.mpr ⟨l1, List.forall_mem_cons.mpr ⟨l2, List.forall_mem_cons.mpr ⟨l3, fun _ h9 => nomatch h9⟩⟩⟩⟩) ?_
      refine j_iload_n dX7_sumOverReels_4 rfl ?_
      refine j_iconst (v := 3) dX7_sumOverReels_5 (by decide) ?_
      refine j_icmp_ge (tgt := 117) dX7_sumOverReels_6 (by decide) (fun c_6 => ?_) (fun c_6 => ?_)
      · exact absurd c_6 (by omega)
      · refine j_aload_n dX7_sumOverReels_9 rfl ?_
        refine j_getr dX7_sumOverReels_10 hB fl_X7_10 (by first | exact h.k | exact hs.1 | exact hr.1 | exact hr.2.1.1 | exact hr.2.2.1.1 | exact hr.2.2.2.1.1 | exact hr.2.2.2.2.1.1 | exact hr.2.2.2.2.2.1.1 | exact hr.2.2.2.2.2.2.1.1 | exact hs.2.2.2.2.1.1 | exact hs.2.2.2.2.2.1.1 | exact hs.2.2.2.2.2.2.1.1 | exact h.t0.2.2 | exact h.rk.1 | exact h.rk.2.1.1 | exact h.rk.2.2.1.1 | exact h.rk.2.2.2.1.1 | exact h.rk.2.2.2.2.1 | exact h.tk.1 | exact h.tk.2.1.1 | exact h.tk.2.2.1.1 | exact h.tk.2.2.2.1.1 | exact h.tk.2.2.2.2.1.1 | exact h.tk.2.2.2.2.2.1.1 | exact h.tk.2.2.2.2.2.2.1.1 | exact h.tk.2.2.2.2.2.2.2.1 | exact h.tk2.1 | exact h.b.1.1) (by rfl) ?_
        refine j_iload_n dX7_sumOverReels_13 rfl ?_
        refine j_cVa dX7_sumOverReels_14 hB mo_X5_reelAt ml_X7_60 (sp_X5_reelAt hB hs) (by first | exact h.k | exact hs.1 | exact hr.1 | exact hr.2.1.1 | exact hr.2.2.1.1 | exact hr.2.2.2.1.1 | exact hr.2.2.2.2.1.1 | exact hr.2.2.2.2.2.1.1 | exact hr.2.2.2.2.2.2.1.1 | exact hs.2.2.2.2.1.1 | exact hs.2.2.2.2.2.1.1 | exact hs.2.2.2.2.2.2.1.1 | exact h.t0.2.2 | exact h.rk.1 | exact h.rk.2.1.1 | exact h.rk.2.2.1.1 | exact h.rk.2.2.2.1.1 | exact h.rk.2.2.2.2.1 | exact h.tk.1 | exact h.tk.2.1.1 | exact h.tk.2.2.1.1 | exact h.tk.2.2.2.1.1 | exact h.tk.2.2.2.2.1.1 | exact h.tk.2.2.2.2.2.1.1 | exact h.tk.2.2.2.2.2.2.1.1 | exact h.tk.2.2.2.2.2.2.2.1 | exact h.tk2.1 | exact h.b.1.1) rfl rfl rfl rfl ⟨rfl, rfl, by decide, by decide⟩ (Nat.le_of_ble_eq_true rfl) ⟨by decide, by decide⟩ (fun r_14 V_14 h_14 => ?_)
        obtain ⟨rfl, hq⟩ := h_14
        subst hq
        refine j_astore (L' := [(0, _), (1, _), (2, _), (3, _), (4, _)]) dX7_sumOverReels_17 (by decide) rfl ?_
        refine j_aload_n dX7_sumOverReels_19 rfl ?_
        refine j_getr dX7_sumOverReels_20 hB fl_X7_39 (by first | exact h.k | exact hs.1 | exact hr.1 | exact hr.2.1.1 | exact hr.2.2.1.1 | exact hr.2.2.2.1.1 | exact hr.2.2.2.2.1.1 | exact hr.2.2.2.2.2.1.1 | exact hr.2.2.2.2.2.2.1.1 | exact hs.2.2.2.2.1.1 | exact hs.2.2.2.2.2.1.1 | exact hs.2.2.2.2.2.2.1.1 | exact h.t0.2.2 | exact h.rk.1 | exact h.rk.2.1.1 | exact h.rk.2.2.1.1 | exact h.rk.2.2.2.1.1 | exact h.rk.2.2.2.2.1 | exact h.tk.1 | exact h.tk.2.1.1 | exact h.tk.2.2.1.1 | exact h.tk.2.2.2.1.1 | exact h.tk.2.2.2.2.1.1 | exact h.tk.2.2.2.2.2.1.1 | exact h.tk.2.2.2.2.2.2.1.1 | exact h.tk.2.2.2.2.2.2.2.1 | exact h.tk2.1 | exact h.b.1.1) (by rfl) ?_
        refine j_aload_n dX7_sumOverReels_23 rfl ?_
        refine j_getr dX7_sumOverReels_24 hB fl_X7_10 (by first | exact h.k | exact hs.1 | exact hr.1 | exact hr.2.1.1 | exact hr.2.2.1.1 | exact hr.2.2.2.1.1 | exact hr.2.2.2.2.1.1 | exact hr.2.2.2.2.2.1.1 | exact hr.2.2.2.2.2.2.1.1 | exact hs.2.2.2.2.1.1 | exact hs.2.2.2.2.2.1.1 | exact hs.2.2.2.2.2.2.1.1 | exact h.t0.2.2 | exact h.rk.1 | exact h.rk.2.1.1 | exact h.rk.2.2.1.1 | exact h.rk.2.2.2.1.1 | exact h.rk.2.2.2.2.1 | exact h.tk.1 | exact h.tk.2.1.1 | exact h.tk.2.2.1.1 | exact h.tk.2.2.2.1.1 | exact h.tk.2.2.2.2.1.1 | exact h.tk.2.2.2.2.2.1.1 | exact h.tk.2.2.2.2.2.2.1.1 | exact h.tk.2.2.2.2.2.2.2.1 | exact h.tk2.1 | exact h.b.1.1) (by rfl) ?_
        refine j_aload dX7_sumOverReels_27 rfl ?_
        refine j_iconst (v := 0) dX7_sumOverReels_29 (by decide) ?_
        refine j_cVu dX7_sumOverReels_30 hB mo_X6_measure ml_X7_141 (sp_X6_measure hB hc.tk hc.st hr (by omega) (by have := reelA_in (q + 1) i.toInt; omega) hW.1 hrl (Or.inl rfl) hW.2.1.1) (by first | exact h.k | exact hs.1 | exact hr.1 | exact hr.2.1.1 | exact hr.2.2.1.1 | exact hr.2.2.2.1.1 | exact hr.2.2.2.2.1.1 | exact hr.2.2.2.2.2.1.1 | exact hr.2.2.2.2.2.2.1.1 | exact hs.2.2.2.2.1.1 | exact hs.2.2.2.2.2.1.1 | exact hs.2.2.2.2.2.2.1.1 | exact h.t0.2.2 | exact h.rk.1 | exact h.rk.2.1.1 | exact h.rk.2.2.1.1 | exact h.rk.2.2.2.1.1 | exact h.rk.2.2.2.2.1 | exact h.tk.1 | exact h.tk.2.1.1 | exact h.tk.2.2.1.1 | exact h.tk.2.2.2.1.1 | exact h.tk.2.2.2.2.1.1 | exact h.tk.2.2.2.2.2.1.1 | exact h.tk.2.2.2.2.2.2.1.1 | exact h.tk.2.2.2.2.2.2.2.1 | exact h.tk2.1 | exact h.b.1.1) rfl rfl rfl rfl ⟨rfl, rfl, by decide, by decide⟩ (Nat.le_of_ble_eq_true rfl) ⟨by decide, by decide⟩ (fun V_30 h_30 => ?_)
        obtain ⟨gT, aT⟩ := h_30
        have gT : TmIs T V_30 (q + 461) x.1 (sR x.1 i.toInt) 0 := gT
        have cT := hc.tm aT gT.k
        have hr2 := cT.st.reel i.toInt
        obtain ⟨-, hA, hBt⟩ := gT
        refine j_iload_n dX7_sumOverReels_33 rfl ?_
        refine j_tsw_4 (td := 101) (t0 := 64) (t1 := 101) (t2 := 75) (t3 := 88) dX7_sumOverReels_34 (by decide) (by decide) (fun s_34 => ?_) (fun s_34 => ?_) (fun s_34 => ?_) (fun s_34 => ?_) (fun s_34 => ?_)
        · refine j_iload_n dX7_sumOverReels_64 rfl ?_
          refine j_aload dX7_sumOverReels_65 rfl ?_
          refine j_cVi dX7_sumOverReels_67 hB mo_X2_scenes ml_X7_64 (sp_X2_scenes hB hr2) (by first | exact h.k | exact hs.1 | exact hr.1 | exact hr.2.1.1 | exact hr.2.2.1.1 | exact hr.2.2.2.1.1 | exact hr.2.2.2.2.1.1 | exact hr.2.2.2.2.2.1.1 | exact hr.2.2.2.2.2.2.1.1 | exact hs.2.2.2.2.1.1 | exact hs.2.2.2.2.2.1.1 | exact hs.2.2.2.2.2.2.1.1 | exact h.t0.2.2 | exact h.rk.1 | exact h.rk.2.1.1 | exact h.rk.2.2.1.1 | exact h.rk.2.2.2.1.1 | exact h.rk.2.2.2.2.1 | exact h.tk.1 | exact h.tk.2.1.1 | exact h.tk.2.2.1.1 | exact h.tk.2.2.2.1.1 | exact h.tk.2.2.2.2.1.1 | exact h.tk.2.2.2.2.2.1.1 | exact h.tk.2.2.2.2.2.2.1.1 | exact h.tk.2.2.2.2.2.2.2.1 | exact h.tk2.1 | exact h.b.1.1) rfl rfl rfl rfl ⟨rfl, rfl, by decide, by decide⟩ (Nat.le_of_ble_eq_true rfl) ⟨by decide, by decide⟩ (fun r_67 V_67 h_67 => ?_)
          obtain ⟨rfl, hn⟩ := h_67
          refine j_iadd dX7_sumOverReels_70 ?_
          refine j_topi (fun y2 e2 => ?_)
          have t2 : y2.toInt = aSum (fun j => rlP x.1 (sR x.1 j) (ctM w.toInt)) (k + 1) := by
            have f1 : _ = rlP x.1 (sR x.1 i.toInt) (ctM w.toInt) := hn.trans (by rw [s_34]; rfl)
            have f2 : aSum (fun j => rlP x.1 (sR x.1 j) (ctM w.toInt)) (k + 1) = aSum (fun j => rlP x.1 (sR x.1 j) (ctM w.toInt)) k + rlP x.1 (sR x.1 i.toInt) (ctM w.toInt) := by rw [hi]; rfl
            rw [e2, ti_add (by rw [f1]; omega) (by rw [f1]; omega), f1, hy, f2]
          refine j_istore_n (L' := [(0, _), (1, _), (2, _), (3, _), (4, _)]) dX7_sumOverReels_71 (by decide) rfl ?_
          refine j_goto (tgt := 111) dX7_sumOverReels_72 (by decide) ?_
          refine j_iinc (v := 1) (L' := [(0, _), (1, _), (2, _), (3, _), (4, _)]) dX7_sumOverReels_111 rfl (by decide) (by decide) rfl ?_
          refine j_goto (tgt := 4) dX7_sumOverReels_114 (by decide) ?_
          refine ih (k + 1) _ y2 _ _ rfl rfl rfl rfl ?_ (by omega) t2 cT (ha.tr aT)
          rw [ti_add (by rw [ti_1]; omega) (by rw [ti_1]; omega), ti_1]; omega
        · exact absurd s_34 (by omega)
        · refine j_iload_n dX7_sumOverReels_75 rfl ?_
          refine j_aload_n dX7_sumOverReels_76 rfl ?_
          refine j_getr dX7_sumOverReels_77 hB fl_X7_39 (by first | exact h.k | exact hs.1 | exact hr.1 | exact hr.2.1.1 | exact hr.2.2.1.1 | exact hr.2.2.2.1.1 | exact hr.2.2.2.2.1.1 | exact hr.2.2.2.2.2.1.1 | exact hr.2.2.2.2.2.2.1.1 | exact hs.2.2.2.2.1.1 | exact hs.2.2.2.2.2.1.1 | exact hs.2.2.2.2.2.2.1.1 | exact h.t0.2.2 | exact h.rk.1 | exact h.rk.2.1.1 | exact h.rk.2.2.1.1 | exact h.rk.2.2.2.1.1 | exact h.rk.2.2.2.2.1 | exact h.tk.1 | exact h.tk.2.1.1 | exact h.tk.2.2.1.1 | exact h.tk.2.2.2.1.1 | exact h.tk.2.2.2.2.1.1 | exact h.tk.2.2.2.2.2.1.1 | exact h.tk.2.2.2.2.2.2.1.1 | exact h.tk.2.2.2.2.2.2.2.1 | exact h.tk2.1 | exact h.b.1.1) (by rfl) ?_
          refine j_geti dX7_sumOverReels_80 hB fl_X7_332 (by first | exact h.k | exact hs.1 | exact hr.1 | exact hr.2.1.1 | exact hr.2.2.1.1 | exact hr.2.2.2.1.1 | exact hr.2.2.2.2.1.1 | exact hr.2.2.2.2.2.1.1 | exact hr.2.2.2.2.2.2.1.1 | exact hs.2.2.2.2.1.1 | exact hs.2.2.2.2.2.1.1 | exact hs.2.2.2.2.2.2.1.1 | exact h.t0.2.2 | exact h.rk.1 | exact h.rk.2.1.1 | exact h.rk.2.2.1.1 | exact h.rk.2.2.2.1.1 | exact h.rk.2.2.2.2.1 | exact h.tk.1 | exact h.tk.2.1.1 | exact h.tk.2.2.1.1 | exact h.tk.2.2.2.1.1 | exact h.tk.2.2.2.2.1.1 | exact h.tk.2.2.2.2.2.1.1 | exact h.tk.2.2.2.2.2.2.1.1 | exact h.tk.2.2.2.2.2.2.2.1 | exact h.tk2.1 | exact h.b.1.1) (by rfl) ?_
          refine j_iadd dX7_sumOverReels_83 ?_
          refine j_topi (fun y2 e2 => ?_)
          have t2 : y2.toInt = aSum (fun j => rlP x.1 (sR x.1 j) (ctM w.toInt)) (k + 1) := by
            have f1 : _ = rlP x.1 (sR x.1 i.toInt) (ctM w.toInt) := hBt.2.2.2.2.2.2.1.trans (by rw [s_34]; rfl)
            have f2 : aSum (fun j => rlP x.1 (sR x.1 j) (ctM w.toInt)) (k + 1) = aSum (fun j => rlP x.1 (sR x.1 j) (ctM w.toInt)) k + rlP x.1 (sR x.1 i.toInt) (ctM w.toInt) := by rw [hi]; rfl
            rw [e2, ti_add (by rw [f1]; omega) (by rw [f1]; omega), f1, hy, f2]
          refine j_istore_n (L' := [(0, _), (1, _), (2, _), (3, _), (4, _)]) dX7_sumOverReels_84 (by decide) rfl ?_
          refine j_goto (tgt := 111) dX7_sumOverReels_85 (by decide) ?_
          refine j_iinc (v := 1) (L' := [(0, _), (1, _), (2, _), (3, _), (4, _)]) dX7_sumOverReels_111 rfl (by decide) (by decide) rfl ?_
          refine j_goto (tgt := 4) dX7_sumOverReels_114 (by decide) ?_
          refine ih (k + 1) _ y2 _ _ rfl rfl rfl rfl ?_ (by omega) t2 cT (ha.tr aT)
          rw [ti_add (by rw [ti_1]; omega) (by rw [ti_1]; omega), ti_1]; omega
        · refine j_iload_n dX7_sumOverReels_88 rfl ?_
          refine j_aload_n dX7_sumOverReels_89 rfl ?_
          refine j_getr dX7_sumOverReels_90 hB fl_X7_39 (by first | exact h.k | exact hs.1 | exact hr.1 | exact hr.2.1.1 | exact hr.2.2.1.1 | exact hr.2.2.2.1.1 | exact hr.2.2.2.2.1.1 | exact hr.2.2.2.2.2.1.1 | exact hr.2.2.2.2.2.2.1.1 | exact hs.2.2.2.2.1.1 | exact hs.2.2.2.2.2.1.1 | exact hs.2.2.2.2.2.2.1.1 | exact h.t0.2.2 | exact h.rk.1 | exact h.rk.2.1.1 | exact h.rk.2.2.1.1 | exact h.rk.2.2.2.1.1 | exact h.rk.2.2.2.2.1 | exact h.tk.1 | exact h.tk.2.1.1 | exact h.tk.2.2.1.1 | exact h.tk.2.2.2.1.1 | exact h.tk.2.2.2.2.1.1 | exact h.tk.2.2.2.2.2.1.1 | exact h.tk.2.2.2.2.2.2.1.1 | exact h.tk.2.2.2.2.2.2.2.1 | exact h.tk2.1 | exact h.b.1.1) (by rfl) ?_
          refine j_geti dX7_sumOverReels_93 hB fl_X7_245 (by first | exact h.k | exact hs.1 | exact hr.1 | exact hr.2.1.1 | exact hr.2.2.1.1 | exact hr.2.2.2.1.1 | exact hr.2.2.2.2.1.1 | exact hr.2.2.2.2.2.1.1 | exact hr.2.2.2.2.2.2.1.1 | exact hs.2.2.2.2.1.1 | exact hs.2.2.2.2.2.1.1 | exact hs.2.2.2.2.2.2.1.1 | exact h.t0.2.2 | exact h.rk.1 | exact h.rk.2.1.1 | exact h.rk.2.2.1.1 | exact h.rk.2.2.2.1.1 | exact h.rk.2.2.2.2.1 | exact h.tk.1 | exact h.tk.2.1.1 | exact h.tk.2.2.1.1 | exact h.tk.2.2.2.1.1 | exact h.tk.2.2.2.2.1.1 | exact h.tk.2.2.2.2.2.1.1 | exact h.tk.2.2.2.2.2.2.1.1 | exact h.tk.2.2.2.2.2.2.2.1 | exact h.tk2.1 | exact h.b.1.1) (by rfl) ?_
          refine j_iadd dX7_sumOverReels_96 ?_
          refine j_topi (fun y2 e2 => ?_)
          have t2 : y2.toInt = aSum (fun j => rlP x.1 (sR x.1 j) (ctM w.toInt)) (k + 1) := by
            have f1 : _ = rlP x.1 (sR x.1 i.toInt) (ctM w.toInt) := hBt.2.2.2.2.2.2.2.1.trans (by rw [s_34]; rfl)
            have f2 : aSum (fun j => rlP x.1 (sR x.1 j) (ctM w.toInt)) (k + 1) = aSum (fun j => rlP x.1 (sR x.1 j) (ctM w.toInt)) k + rlP x.1 (sR x.1 i.toInt) (ctM w.toInt) := by rw [hi]; rfl
            rw [e2, ti_add (by rw [f1]; omega) (by rw [f1]; omega), f1, hy, f2]
          refine j_istore_n (L' := [(0, _), (1, _), (2, _), (3, _), (4, _)]) dX7_sumOverReels_97 (by decide) rfl ?_
          refine j_goto (tgt := 111) dX7_sumOverReels_98 (by decide) ?_
          refine j_iinc (v := 1) (L' := [(0, _), (1, _), (2, _), (3, _), (4, _)]) dX7_sumOverReels_111 rfl (by decide) (by decide) rfl ?_
          refine j_goto (tgt := 4) dX7_sumOverReels_114 (by decide) ?_
          refine ih (k + 1) _ y2 _ _ rfl rfl rfl rfl ?_ (by omega) t2 cT (ha.tr aT)
          rw [ti_add (by rw [ti_1]; omega) (by rw [ti_1]; omega), ti_1]; omega
        · refine j_iload_n dX7_sumOverReels_101 rfl ?_
          refine j_aload_n dX7_sumOverReels_102 rfl ?_
          refine j_getr dX7_sumOverReels_103 hB fl_X7_39 (by first | exact h.k | exact hs.1 | exact hr.1 | exact hr.2.1.1 | exact hr.2.2.1.1 | exact hr.2.2.2.1.1 | exact hr.2.2.2.2.1.1 | exact hr.2.2.2.2.2.1.1 | exact hr.2.2.2.2.2.2.1.1 | exact hs.2.2.2.2.1.1 | exact hs.2.2.2.2.2.1.1 | exact hs.2.2.2.2.2.2.1.1 | exact h.t0.2.2 | exact h.rk.1 | exact h.rk.2.1.1 | exact h.rk.2.2.1.1 | exact h.rk.2.2.2.1.1 | exact h.rk.2.2.2.2.1 | exact h.tk.1 | exact h.tk.2.1.1 | exact h.tk.2.2.1.1 | exact h.tk.2.2.2.1.1 | exact h.tk.2.2.2.2.1.1 | exact h.tk.2.2.2.2.2.1.1 | exact h.tk.2.2.2.2.2.2.1.1 | exact h.tk.2.2.2.2.2.2.2.1 | exact h.tk2.1 | exact h.b.1.1) (by rfl) ?_
          refine j_geti dX7_sumOverReels_106 hB fl_X7_329 (by first | exact h.k | exact hs.1 | exact hr.1 | exact hr.2.1.1 | exact hr.2.2.1.1 | exact hr.2.2.2.1.1 | exact hr.2.2.2.2.1.1 | exact hr.2.2.2.2.2.1.1 | exact hr.2.2.2.2.2.2.1.1 | exact hs.2.2.2.2.1.1 | exact hs.2.2.2.2.2.1.1 | exact hs.2.2.2.2.2.2.1.1 | exact h.t0.2.2 | exact h.rk.1 | exact h.rk.2.1.1 | exact h.rk.2.2.1.1 | exact h.rk.2.2.2.1.1 | exact h.rk.2.2.2.2.1 | exact h.tk.1 | exact h.tk.2.1.1 | exact h.tk.2.2.1.1 | exact h.tk.2.2.2.1.1 | exact h.tk.2.2.2.2.1.1 | exact h.tk.2.2.2.2.2.1.1 | exact h.tk.2.2.2.2.2.2.1.1 | exact h.tk.2.2.2.2.2.2.2.1 | exact h.tk2.1 | exact h.b.1.1) (by rfl) ?_
          refine j_iadd dX7_sumOverReels_109 ?_
          have s_34 : w.toInt = 6 := by omega
          refine j_topi (fun y2 e2 => ?_)
          have t2 : y2.toInt = aSum (fun j => rlP x.1 (sR x.1 j) (ctM w.toInt)) (k + 1) := by
            have f1 : _ = rlP x.1 (sR x.1 i.toInt) (ctM w.toInt) := hA.2.2.2.2.2.2.2.2.2.2.trans (by rw [s_34]; rfl)
            have f2 : aSum (fun j => rlP x.1 (sR x.1 j) (ctM w.toInt)) (k + 1) = aSum (fun j => rlP x.1 (sR x.1 j) (ctM w.toInt)) k + rlP x.1 (sR x.1 i.toInt) (ctM w.toInt) := by rw [hi]; rfl
            rw [e2, ti_add (by rw [f1]; omega) (by rw [f1]; omega), f1, hy, f2]
          refine j_istore_n (L' := [(0, _), (1, _), (2, _), (3, _), (4, _)]) dX7_sumOverReels_110 (by decide) rfl ?_
          refine j_iinc (v := 1) (L' := [(0, _), (1, _), (2, _), (3, _), (4, _)]) dX7_sumOverReels_111 rfl (by decide) (by decide) rfl ?_
          refine j_goto (tgt := 4) dX7_sumOverReels_114 (by decide) ?_
          refine ih (k + 1) _ y2 _ _ rfl rfl rfl rfl ?_ (by omega) t2 cT (ha.tr aT)
          rw [ti_add (by rw [ti_1]; omega) (by rw [ti_1]; omega), ti_1]; omega
  refine j_iconst (v := 0) dX7_sumOverReels_0 (by decide) ?_
  refine j_istore_n (L' := [(0, _), (1, _), (2, _)]) dX7_sumOverReels_1 (by decide) rfl ?_
  refine j_iconst (v := 0) dX7_sumOverReels_2 (by decide) ?_
  refine j_istore_n (L' := [(0, _), (1, _), (2, _), (3, _)]) dX7_sumOverReels_3 (by decide) rfl ?_
  exact loop 3 0 0 0 V _ rfl rfl rfl rfl rfl rfl rfl h jAg.rf
set_option maxRecDepth 100000 in
set_option maxHeartbeats 4000000 in
theorem sp_X7_countProperty (hB : jB l s0 D) {q : Nat} {x : aX} {w : Int32} (h : cuIs T V q x) (hW : stW x.1) (w0 : 0 ≤ w.toInt) (w1 : w.toInt ≤ 7) : Sp l s0 D kX7_countProperty (jR 6 0 0) 0 0 [.ref q, .int w] T V X sz (qI T X sz (fun v V' => v.toInt = ctP x w.toInt ∧ cuIs T V' q x ∧ jAg V V' (q + 461) (q + 461 + 15))) := by
  refine Sp.of pn_X7_countProperty rfl (Nat.le_of_ble_eq_true rfl) ?_
  have hs := h.st
  refine j_iload_n dX7_countProperty_0 rfl ?_
  refine j_tsw_7 (td := 73) (t0 := 44) (t1 := 73) (t2 := 73) (t3 := 52) (t4 := 60) (t5 := 73) (t6 := 68) dX7_countProperty_1 (by decide) (by decide) (fun s_1 => ?_) (fun s_1 => ?_) (fun s_1 => ?_) (fun s_1 => ?_) (fun s_1 => ?_) (fun s_1 => ?_) (fun s_1 => ?_) (fun s_1 => ?_)
  · refine j_aload_n dX7_countProperty_44 rfl ?_
    refine j_getr dX7_countProperty_45 hB fl_X7_10 (by first | exact h.k | exact hs.1 | exact hr.1 | exact hr.2.1.1 | exact hr.2.2.1.1 | exact hr.2.2.2.1.1 | exact hr.2.2.2.2.1.1 | exact hr.2.2.2.2.2.1.1 | exact hr.2.2.2.2.2.2.1.1 | exact hs.2.2.2.2.1.1 | exact hs.2.2.2.2.2.1.1 | exact hs.2.2.2.2.2.2.1.1 | exact h.t0.2.2 | exact h.rk.1 | exact h.rk.2.1.1 | exact h.rk.2.2.1.1 | exact h.rk.2.2.2.1.1 | exact h.rk.2.2.2.2.1 | exact h.tk.1 | exact h.tk.2.1.1 | exact h.tk.2.2.1.1 | exact h.tk.2.2.2.1.1 | exact h.tk.2.2.2.2.1.1 | exact h.tk.2.2.2.2.2.1.1 | exact h.tk.2.2.2.2.2.2.1.1 | exact h.tk.2.2.2.2.2.2.2.1 | exact h.tk2.1 | exact h.b.1.1) (by rfl) ?_
    refine j_cVi dX7_countProperty_48 hB mo_X5_pieces ml_X7_118 (sp_X5_pieces hB hs) (by first | exact h.k | exact hs.1 | exact hr.1 | exact hr.2.1.1 | exact hr.2.2.1.1 | exact hr.2.2.2.1.1 | exact hr.2.2.2.2.1.1 | exact hr.2.2.2.2.2.1.1 | exact hr.2.2.2.2.2.2.1.1 | exact hs.2.2.2.2.1.1 | exact hs.2.2.2.2.2.1.1 | exact hs.2.2.2.2.2.2.1.1 | exact h.t0.2.2 | exact h.rk.1 | exact h.rk.2.1.1 | exact h.rk.2.2.1.1 | exact h.rk.2.2.2.1.1 | exact h.rk.2.2.2.2.1 | exact h.tk.1 | exact h.tk.2.1.1 | exact h.tk.2.2.1.1 | exact h.tk.2.2.2.1.1 | exact h.tk.2.2.2.2.1.1 | exact h.tk.2.2.2.2.2.1.1 | exact h.tk.2.2.2.2.2.2.1.1 | exact h.tk.2.2.2.2.2.2.2.1 | exact h.tk2.1 | exact h.b.1.1) rfl rfl rfl rfl ⟨rfl, rfl, by decide, by decide⟩ (Nat.le_of_ble_eq_true rfl) ⟨by decide, by decide⟩ (fun r_48 V_48 h_48 => ?_)
    obtain ⟨rfl, t1⟩ := h_48
    refine j_iret dX7_countProperty_51 rfl (rfl) (by decide) (by decide) ?_
    exact ⟨_, rfl, rfl, rfl, rfl, by rw [s_1]; exact t1, h, jAg.rf⟩
  · refine j_aload_n dX7_countProperty_73 rfl ?_
    refine j_iload_n dX7_countProperty_74 rfl ?_
    refine j_cVi dX7_countProperty_75 hB mo_X7_sumOverReels ml_X7_344 (sp_X7_sumOverReels hB h hW (by omega)) (by first | exact h.k | exact hs.1 | exact hr.1 | exact hr.2.1.1 | exact hr.2.2.1.1 | exact hr.2.2.2.1.1 | exact hr.2.2.2.2.1.1 | exact hr.2.2.2.2.2.1.1 | exact hr.2.2.2.2.2.2.1.1 | exact hs.2.2.2.2.1.1 | exact hs.2.2.2.2.2.1.1 | exact hs.2.2.2.2.2.2.1.1 | exact h.t0.2.2 | exact h.rk.1 | exact h.rk.2.1.1 | exact h.rk.2.2.1.1 | exact h.rk.2.2.2.1.1 | exact h.rk.2.2.2.2.1 | exact h.tk.1 | exact h.tk.2.1.1 | exact h.tk.2.2.1.1 | exact h.tk.2.2.2.1.1 | exact h.tk.2.2.2.2.1.1 | exact h.tk.2.2.2.2.2.1.1 | exact h.tk.2.2.2.2.2.2.1.1 | exact h.tk.2.2.2.2.2.2.2.1 | exact h.tk2.1 | exact h.b.1.1) rfl rfl rfl rfl ⟨rfl, rfl, by decide, by decide⟩ (Nat.le_of_ble_eq_true rfl) ⟨by decide, by decide⟩ (fun r_75 V_75 h_75 => ?_)
    obtain ⟨t1, hc, ha⟩ := h_75
    refine j_iret dX7_countProperty_78 rfl (rfl) (by decide) (by decide) ?_
    exact ⟨_, rfl, rfl, rfl, rfl, by rw [t1, s_1]; rfl, hc, ha⟩
  · refine j_aload_n dX7_countProperty_73 rfl ?_
    refine j_iload_n dX7_countProperty_74 rfl ?_
    refine j_cVi dX7_countProperty_75 hB mo_X7_sumOverReels ml_X7_344 (sp_X7_sumOverReels hB h hW (by omega)) (by first | exact h.k | exact hs.1 | exact hr.1 | exact hr.2.1.1 | exact hr.2.2.1.1 | exact hr.2.2.2.1.1 | exact hr.2.2.2.2.1.1 | exact hr.2.2.2.2.2.1.1 | exact hr.2.2.2.2.2.2.1.1 | exact hs.2.2.2.2.1.1 | exact hs.2.2.2.2.2.1.1 | exact hs.2.2.2.2.2.2.1.1 | exact h.t0.2.2 | exact h.rk.1 | exact h.rk.2.1.1 | exact h.rk.2.2.1.1 | exact h.rk.2.2.2.1.1 | exact h.rk.2.2.2.2.1 | exact h.tk.1 | exact h.tk.2.1.1 | exact h.tk.2.2.1.1 | exact h.tk.2.2.2.1.1 | exact h.tk.2.2.2.2.1.1 | exact h.tk.2.2.2.2.2.1.1 | exact h.tk.2.2.2.2.2.2.1.1 | exact h.tk.2.2.2.2.2.2.2.1 | exact h.tk2.1 | exact h.b.1.1) rfl rfl rfl rfl ⟨rfl, rfl, by decide, by decide⟩ (Nat.le_of_ble_eq_true rfl) ⟨by decide, by decide⟩ (fun r_75 V_75 h_75 => ?_)
    obtain ⟨t1, hc, ha⟩ := h_75
    refine j_iret dX7_countProperty_78 rfl (rfl) (by decide) (by decide) ?_
    exact ⟨_, rfl, rfl, rfl, rfl, by rw [t1, s_1]; rfl, hc, ha⟩
  · refine j_aload_n dX7_countProperty_52 rfl ?_
    refine j_getr dX7_countProperty_53 hB fl_X7_10 (by first | exact h.k | exact hs.1 | exact hr.1 | exact hr.2.1.1 | exact hr.2.2.1.1 | exact hr.2.2.2.1.1 | exact hr.2.2.2.2.1.1 | exact hr.2.2.2.2.2.1.1 | exact hr.2.2.2.2.2.2.1.1 | exact hs.2.2.2.2.1.1 | exact hs.2.2.2.2.2.1.1 | exact hs.2.2.2.2.2.2.1.1 | exact h.t0.2.2 | exact h.rk.1 | exact h.rk.2.1.1 | exact h.rk.2.2.1.1 | exact h.rk.2.2.2.1.1 | exact h.rk.2.2.2.2.1 | exact h.tk.1 | exact h.tk.2.1.1 | exact h.tk.2.2.1.1 | exact h.tk.2.2.2.1.1 | exact h.tk.2.2.2.2.1.1 | exact h.tk.2.2.2.2.2.1.1 | exact h.tk.2.2.2.2.2.2.1.1 | exact h.tk.2.2.2.2.2.2.2.1 | exact h.tk2.1 | exact h.b.1.1) (by rfl) ?_
    refine j_geti dX7_countProperty_56 hB fl_X7_159 (by first | exact h.k | exact hs.1 | exact hr.1 | exact hr.2.1.1 | exact hr.2.2.1.1 | exact hr.2.2.2.1.1 | exact hr.2.2.2.2.1.1 | exact hr.2.2.2.2.2.1.1 | exact hr.2.2.2.2.2.2.1.1 | exact hs.2.2.2.2.1.1 | exact hs.2.2.2.2.2.1.1 | exact hs.2.2.2.2.2.2.1.1 | exact h.t0.2.2 | exact h.rk.1 | exact h.rk.2.1.1 | exact h.rk.2.2.1.1 | exact h.rk.2.2.2.1.1 | exact h.rk.2.2.2.2.1 | exact h.tk.1 | exact h.tk.2.1.1 | exact h.tk.2.2.1.1 | exact h.tk.2.2.2.1.1 | exact h.tk.2.2.2.2.1.1 | exact h.tk.2.2.2.2.2.1.1 | exact h.tk.2.2.2.2.2.2.1.1 | exact h.tk.2.2.2.2.2.2.2.1 | exact h.tk2.1 | exact h.b.1.1) (by rfl) ?_
    refine j_iret dX7_countProperty_59 rfl (rfl) (by decide) (by decide) ?_
    exact ⟨_, rfl, rfl, rfl, rfl, by rw [s_1]; exact congrArg Int32.toInt hs.2.2.2.2.2.2.2.2.2.2.1, h, jAg.rf⟩
  · refine j_aload_n dX7_countProperty_60 rfl ?_
    refine j_getr dX7_countProperty_61 hB fl_X7_10 (by first | exact h.k | exact hs.1 | exact hr.1 | exact hr.2.1.1 | exact hr.2.2.1.1 | exact hr.2.2.2.1.1 | exact hr.2.2.2.2.1.1 | exact hr.2.2.2.2.2.1.1 | exact hr.2.2.2.2.2.2.1.1 | exact hs.2.2.2.2.1.1 | exact hs.2.2.2.2.2.1.1 | exact hs.2.2.2.2.2.2.1.1 | exact h.t0.2.2 | exact h.rk.1 | exact h.rk.2.1.1 | exact h.rk.2.2.1.1 | exact h.rk.2.2.2.1.1 | exact h.rk.2.2.2.2.1 | exact h.tk.1 | exact h.tk.2.1.1 | exact h.tk.2.2.1.1 | exact h.tk.2.2.2.1.1 | exact h.tk.2.2.2.2.1.1 | exact h.tk.2.2.2.2.2.1.1 | exact h.tk.2.2.2.2.2.2.1.1 | exact h.tk.2.2.2.2.2.2.2.1 | exact h.tk2.1 | exact h.b.1.1) (by rfl) ?_
    refine j_geti dX7_countProperty_64 hB fl_X7_163 (by first | exact h.k | exact hs.1 | exact hr.1 | exact hr.2.1.1 | exact hr.2.2.1.1 | exact hr.2.2.2.1.1 | exact hr.2.2.2.2.1.1 | exact hr.2.2.2.2.2.1.1 | exact hr.2.2.2.2.2.2.1.1 | exact hs.2.2.2.2.1.1 | exact hs.2.2.2.2.2.1.1 | exact hs.2.2.2.2.2.2.1.1 | exact h.t0.2.2 | exact h.rk.1 | exact h.rk.2.1.1 | exact h.rk.2.2.1.1 | exact h.rk.2.2.2.1.1 | exact h.rk.2.2.2.2.1 | exact h.tk.1 | exact h.tk.2.1.1 | exact h.tk.2.2.1.1 | exact h.tk.2.2.2.1.1 | exact h.tk.2.2.2.2.1.1 | exact h.tk.2.2.2.2.2.1.1 | exact h.tk.2.2.2.2.2.2.1.1 | exact h.tk.2.2.2.2.2.2.2.1 | exact h.tk2.1 | exact h.b.1.1) (by rfl) ?_
    refine j_iret dX7_countProperty_67 rfl (rfl) (by decide) (by decide) ?_
    exact ⟨_, rfl, rfl, rfl, rfl, by rw [s_1]; exact congrArg Int32.toInt hs.2.2.2.2.2.2.2.2.2.2.2, h, jAg.rf⟩
  · refine j_aload_n dX7_countProperty_73 rfl ?_
    refine j_iload_n dX7_countProperty_74 rfl ?_
    refine j_cVi dX7_countProperty_75 hB mo_X7_sumOverReels ml_X7_344 (sp_X7_sumOverReels hB h hW (by omega)) (by first | exact h.k | exact hs.1 | exact hr.1 | exact hr.2.1.1 | exact hr.2.2.1.1 | exact hr.2.2.2.1.1 | exact hr.2.2.2.2.1.1 | exact hr.2.2.2.2.2.1.1 | exact hr.2.2.2.2.2.2.1.1 | exact hs.2.2.2.2.1.1 | exact hs.2.2.2.2.2.1.1 | exact hs.2.2.2.2.2.2.1.1 | exact h.t0.2.2 | exact h.rk.1 | exact h.rk.2.1.1 | exact h.rk.2.2.1.1 | exact h.rk.2.2.2.1.1 | exact h.rk.2.2.2.2.1 | exact h.tk.1 | exact h.tk.2.1.1 | exact h.tk.2.2.1.1 | exact h.tk.2.2.2.1.1 | exact h.tk.2.2.2.2.1.1 | exact h.tk.2.2.2.2.2.1.1 | exact h.tk.2.2.2.2.2.2.1.1 | exact h.tk.2.2.2.2.2.2.2.1 | exact h.tk2.1 | exact h.b.1.1) rfl rfl rfl rfl ⟨rfl, rfl, by decide, by decide⟩ (Nat.le_of_ble_eq_true rfl) ⟨by decide, by decide⟩ (fun r_75 V_75 h_75 => ?_)
    obtain ⟨t1, hc, ha⟩ := h_75
    refine j_iret dX7_countProperty_78 rfl (rfl) (by decide) (by decide) ?_
    exact ⟨_, rfl, rfl, rfl, rfl, by rw [t1, s_1]; rfl, hc, ha⟩
  · refine j_aload_n dX7_countProperty_68 rfl ?_
    refine j_geti dX7_countProperty_69 hB fl_X7_199 (by first | exact h.k | exact hs.1 | exact hr.1 | exact hr.2.1.1 | exact hr.2.2.1.1 | exact hr.2.2.2.1.1 | exact hr.2.2.2.2.1.1 | exact hr.2.2.2.2.2.1.1 | exact hr.2.2.2.2.2.2.1.1 | exact hs.2.2.2.2.1.1 | exact hs.2.2.2.2.2.1.1 | exact hs.2.2.2.2.2.2.1.1 | exact h.t0.2.2 | exact h.rk.1 | exact h.rk.2.1.1 | exact h.rk.2.2.1.1 | exact h.rk.2.2.2.1.1 | exact h.rk.2.2.2.2.1 | exact h.tk.1 | exact h.tk.2.1.1 | exact h.tk.2.2.1.1 | exact h.tk.2.2.2.1.1 | exact h.tk.2.2.2.2.1.1 | exact h.tk.2.2.2.2.2.1.1 | exact h.tk.2.2.2.2.2.2.1.1 | exact h.tk.2.2.2.2.2.2.2.1 | exact h.tk2.1 | exact h.b.1.1) (by rfl) ?_
    refine j_iret dX7_countProperty_72 rfl (rfl) (by decide) (by decide) ?_
    exact ⟨_, rfl, rfl, rfl, rfl, by rw [s_1]; exact h.n.1, h, jAg.rf⟩
  · refine j_aload_n dX7_countProperty_73 rfl ?_
    refine j_iload_n dX7_countProperty_74 rfl ?_
    refine j_cVi dX7_countProperty_75 hB mo_X7_sumOverReels ml_X7_344 (sp_X7_sumOverReels hB h hW (by omega)) (by first | exact h.k | exact hs.1 | exact hr.1 | exact hr.2.1.1 | exact hr.2.2.1.1 | exact hr.2.2.2.1.1 | exact hr.2.2.2.2.1.1 | exact hr.2.2.2.2.2.1.1 | exact hr.2.2.2.2.2.2.1.1 | exact hs.2.2.2.2.1.1 | exact hs.2.2.2.2.2.1.1 | exact hs.2.2.2.2.2.2.1.1 | exact h.t0.2.2 | exact h.rk.1 | exact h.rk.2.1.1 | exact h.rk.2.2.1.1 | exact h.rk.2.2.2.1.1 | exact h.rk.2.2.2.2.1 | exact h.tk.1 | exact h.tk.2.1.1 | exact h.tk.2.2.1.1 | exact h.tk.2.2.2.1.1 | exact h.tk.2.2.2.2.1.1 | exact h.tk.2.2.2.2.2.1.1 | exact h.tk.2.2.2.2.2.2.1.1 | exact h.tk.2.2.2.2.2.2.2.1 | exact h.tk2.1 | exact h.b.1.1) rfl rfl rfl rfl ⟨rfl, rfl, by decide, by decide⟩ (Nat.le_of_ble_eq_true rfl) ⟨by decide, by decide⟩ (fun r_75 V_75 h_75 => ?_)
    obtain ⟨t1, hc, ha⟩ := h_75
    refine j_iret dX7_countProperty_78 rfl (rfl) (by decide) (by decide) ?_
    have s_1 : w.toInt = 0 := by omega
    exact ⟨_, rfl, rfl, rfl, rfl, by rw [t1, s_1]; rfl, hc, ha⟩
set_option maxRecDepth 100000 in
set_option maxHeartbeats 4000000 in
theorem sp_X7_count (hB : jB l s0 D) {q : Nat} {x : aX} {w : Int32} (h : cuIs T V q x) (hW : xW x) : Sp l s0 D kX7_count (jR 8 1 6) 1 6 [.ref q, .int w] T V X sz (qC T V X sz q (e_count w) [IA] (pInt (ctP x w.toInt)) x (x)) := by
  refine Sp.of pn_X7_count rfl (Nat.le_of_ble_eq_true rfl) ?_
  have hs := h.st

  refine j_iload_n dX7_count_0 rfl ?_
  refine j_iconst (v := 0) dX7_count_1 (by decide) ?_
  refine j_bipush (v := 7) dX7_count_2 (by decide) ?_
  refine j_tS dX7_count_4 hB mo_X7_requireRange ml_X7_56 (sp_X7_requireRange hB) rfl rfl ⟨rfl, rfl, by decide, by decide⟩ (Nat.le_of_ble_eq_true rfl) ⟨by decide, by decide⟩ rfl ⟨by decide, by decide⟩ (fun E V_4 sz_4 hz hx => by obtain ⟨rfl, rfl, hn⟩ := hx; exact qC.thr 0 hz rfl (by show e_count w = 1; unfold e_count; exact (if_pos hn)) jAg.rf h) (fun v_4 V_4 h_4 => ?_)
  obtain ⟨rfl, rfl, h_4⟩ := h_4
  have h_4 : inR w 0 7 := h_4
  refine j_aload_n dX7_count_7 rfl ?_
  refine j_iload_n dX7_count_8 rfl ?_
  refine j_cVi dX7_count_9 hB mo_X7_countProperty ml_X7_227 (sp_X7_countProperty hB h hW.1 h_4.1 h_4.2) (by first | exact h.k | exact hs.1 | exact hr.1 | exact hr.2.1.1 | exact hr.2.2.1.1 | exact hr.2.2.2.1.1 | exact hr.2.2.2.2.1.1 | exact hr.2.2.2.2.2.1.1 | exact hr.2.2.2.2.2.2.1.1 | exact hs.2.2.2.2.1.1 | exact hs.2.2.2.2.2.1.1 | exact hs.2.2.2.2.2.2.1.1 | exact h.t0.2.2 | exact h.rk.1 | exact h.rk.2.1.1 | exact h.rk.2.2.1.1 | exact h.rk.2.2.2.1.1 | exact h.rk.2.2.2.2.1 | exact h.tk.1 | exact h.tk.2.1.1 | exact h.tk.2.2.1.1 | exact h.tk.2.2.2.1.1 | exact h.tk.2.2.2.2.1.1 | exact h.tk.2.2.2.2.2.1.1 | exact h.tk.2.2.2.2.2.2.1.1 | exact h.tk.2.2.2.2.2.2.2.1 | exact h.tk2.1 | exact h.b.1.1) rfl rfl rfl rfl ⟨rfl, rfl, by decide, by decide⟩ (Nat.le_of_ble_eq_true rfl) ⟨by decide, by decide⟩ (fun r_9 V_9 h_9 => ?_)
  obtain ⟨t1, hc, ha⟩ := h_9
  refine j_iret dX7_count_12 rfl (rfl) (by decide) (by decide) ?_
  exact qC.ret (by show e_count w = 0; unfold e_count; exact (if_neg (fun z => z h_4))) ⟨_, rfl, t1⟩ (ha.wide (by omega) (by omega)) hc
end JCu6
