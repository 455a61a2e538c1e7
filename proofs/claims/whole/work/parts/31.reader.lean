/-! CueSheets$SheetReader: what has been read of a sheet (lengths, pieces, strains, paces, place), a character on -/
abbrev tR : Type := List Int32 × List Int32 × List Int32 × List Int32 × Int32
def rN (t : tR) : Int := (t.1.length : Int) - 1
def rComp (t : tR) : Prop := (t.2.2.2.2 = 0 ∧ 0 < (atZ t.1 (rN t)).toInt) ∨ t.2.2.2.2 = 4 ∨ (t.2.2.2.2 = 5 ∧ 80 ≤ (atZ t.2.2.2.1 (rN t)).toInt)
def rNew (t : tR) : tR := (t.1 ++ [0], t.2.1 ++ [-2000001], t.2.2.1 ++ [0], t.2.2.2.1 ++ [0], 0)
def rGo (t : tR) (p : Int32) : tR := (t.1, t.2.1, t.2.2.1, t.2.2.2.1, p)
def rDig (t : tR) (d : Int32) (t' : tR) : Prop :=
  (t.2.2.2.2 = 0 ∧ 10 * (atZ t.1 (rN t)).toInt + d.toInt ≠ 0 ∧ 10 * (atZ t.1 (rN t)).toInt + d.toInt ≤ 900 ∧ t' = (setZ t.1 (rN t) (10 * atZ t.1 (rN t) + d), t.2.1, t.2.2.1, t.2.2.2.1, 0)) ∨
  (t.2.2.2.2 = 1 ∧ d.toInt < 8 ∧ t' = (t.1, setZ t.2.1 (rN t) d, t.2.2.1, t.2.2.2.1, 2)) ∨
  (t.2.2.2.2 = 3 ∧ 1 ≤ d.toInt ∧ t' = (t.1, t.2.1, setZ t.2.2.1 (rN t) d, setZ t.2.2.2.1 (rN t) 100, 4)) ∨
  (t.2.2.2.2 = 5 ∧ (let n := 10 * (atZ t.2.2.2.1 (rN t)).toInt + d.toInt; n = 1 ∨ (8 ≤ n ∧ n ≤ 12) ∨ (80 ≤ n ∧ n ≤ 120)) ∧ t' = (t.1, t.2.1, t.2.2.1, setZ t.2.2.2.1 (rN t) (10 * atZ t.2.2.2.1 (rN t) + d), 5))
/-- c is read behind t, which gives t' -/
def rRd (t : tR) (c : Int32) (t' : tR) : Prop :=
  (c.toInt = 44 ∧ rComp t ∧ t' = rNew t) ∨
  (c.toInt = 58 ∧ t.2.2.2.2 = 0 ∧ rComp t ∧ t' = rGo t 1) ∨
  (c.toInt = 120 ∧ t.2.2.2.2 = 2 ∧ t' = rGo t 3) ∨
  (c.toInt = 64 ∧ t.2.2.2.2 = 4 ∧ t' = (t.1, t.2.1, t.2.2.1, setZ t.2.2.2.1 (rN t) 0, 5)) ∨
  (48 ≤ c.toInt ∧ c.toInt ≤ 57 ∧ rDig t (c - 48) t')
def rdK (T : jT) (V : jV) (q : Nat) : Prop := T q = some (kReader (q + 1) (q + 3) (q + 5) (q + 7)) ∧ RowOK T V (q + 1) 60 ∧ RowOK T V (q + 3) 60 ∧ RowOK T V (q + 5) 60 ∧ RowOK T V (q + 7) 60
def rdOK (T : jT) (V : jV) (q : Nat) (t : tR) : Prop := T q = some (kReader (q + 1) (q + 3) (q + 5) (q + 7)) ∧ RowOK T V (q + 1) 60 ∧ RowOK T V (q + 3) 60 ∧ RowOK T V (q + 5) 60 ∧ RowOK T V (q + 7) 60 ∧ Rw V (q + 1) = t.1 ∧ Rw V (q + 3) = t.2.1 ∧ Rw V (q + 5) = t.2.2.1 ∧ Rw V (q + 7) = t.2.2.2.1 ∧ V q 4 = t.2.2.2.2
theorem rdOK.k {T : jT} {V : jV} {q : Nat} {t : tR} (h : rdOK T V q t) : rdK T V q := ⟨h.1, h.2.1, h.2.2.1, h.2.2.2.1, h.2.2.2.2.1⟩
theorem rdK.ag {T : jT} {V V' : jV} {q lo hi : Nat} (h : rdK T V q) (ha : jAg V V' lo hi) (hd : q + 9 ≤ lo ∨ hi ≤ q) : rdK T V' q := ⟨h.1, h.2.1.ag ha (by omega), h.2.2.1.ag ha (by omega), h.2.2.2.1.ag ha (by omega), h.2.2.2.2.ag ha (by omega)⟩
theorem rdOK.ag {T : jT} {V V' : jV} {q lo hi : Nat} {t : tR} (h : rdOK T V q t) (ha : jAg V V' lo hi) (hd : q + 9 ≤ lo ∨ hi ≤ q) : rdOK T V' q t := by
  obtain ⟨h0, h1, h2, h3, h4, e1, e2, e3, e4, e5⟩ := h
  exact ⟨h0, h1.ag ha (by omega), h2.ag ha (by omega), h3.ag ha (by omega), h4.ag ha (by omega), by rw [Rw_ag ha (by omega)]; exact e1, by rw [Rw_ag ha (by omega)]; exact e2, by rw [Rw_ag ha (by omega)]; exact e3, by rw [Rw_ag ha (by omega)]; exact e4, by rw [ha q (by omega)]; exact e5⟩
/-- the place alone is set -/
theorem rdOK.go {T : jT} {V : jV} {q : Nat} {t : tR} {p : Int32} (h : rdOK T V q t) : rdOK T (jset V q 4 p) q (rGo t p) := by
  have ha : jAg V (jset V q 4 p) q (q + 1) := jAg.f1
  obtain ⟨h0, h1, h2, h3, h4, e1, e2, e3, e4, e5⟩ := h
  exact ⟨h0, h1.ag ha (by omega), h2.ag ha (by omega), h3.ag ha (by omega), h4.ag ha (by omega), by rw [Rw_ag ha (by omega)]; exact e1, by rw [Rw_ag ha (by omega)]; exact e2, by rw [Rw_ag ha (by omega)]; exact e3, by rw [Rw_ag ha (by omega)]; exact e4, jset_eq⟩
section JReader
variable {l : Launch} {s0 : State} {D : jD} {T : jT} {V : jV} {X : jX} {sz : Nat}
set_option maxRecDepth 100000 in
set_option maxHeartbeats 4000000 in
theorem sp_X4_scenes (hB : jB l s0 D) {q : Nat} {t : tR} (h : rdOK T V q t) : Sp l s0 D kX4_scenes (jR 1 0 0) 0 0 [.ref q] T V X sz (qI T X sz (fun r V' => V = V' ∧ r.toInt = t.1.length)) := by
  refine Sp.of pn_X4_scenes rfl (Nat.le_of_ble_eq_true rfl) ?_
  refine j_aload_n dX4_scenes_0 rfl ?_
  refine j_getr dX4_scenes_1 hB fl_X4_14 (by first | exact h.1 | exact h.2.1.1 | exact h.2.2.1.1 | exact h.2.2.2.1.1 | exact h.2.2.2.2.1.1) (by rfl) ?_
  refine j_cVi dX4_scenes_4 hB mo_X3_size ml_X4_29 (sp_X3_size hB h.2.1) (by first | exact h.1 | exact h.2.1.1 | exact h.2.2.1.1 | exact h.2.2.2.1.1 | exact h.2.2.2.2.1.1) rfl rfl rfl rfl ⟨rfl, rfl, by decide, by decide⟩ (Nat.le_of_ble_eq_true rfl) ⟨by decide, by decide⟩ (fun r_4 V_4 h_4 => ?_)
  obtain ⟨rfl, hn⟩ := h_4
  rw [h.2.2.2.2.2.1] at hn
  refine j_iret dX4_scenes_7 rfl (rfl) (by decide) (by decide) ?_
  exact ⟨_, rfl, rfl, rfl, rfl, rfl, hn⟩
set_option maxRecDepth 100000 in
set_option maxHeartbeats 4000000 in
theorem sp_X4_latest (hB : jB l s0 D) {q : Nat} {t : tR} (h : rdOK T V q t) : Sp l s0 D kX4_latest (jR 1 0 0) 0 0 [.ref q] T V X sz (qI T X sz (fun r V' => V = V' ∧ r.toInt = rN t)) := by
  refine Sp.of pn_X4_latest rfl (Nat.le_of_ble_eq_true rfl) ?_
  have h60 := h.2.1.le
  refine j_aload_n dX4_latest_0 rfl ?_
  refine j_getr dX4_latest_1 hB fl_X4_14 (by first | exact h.1 | exact h.2.1.1 | exact h.2.2.1.1 | exact h.2.2.2.1.1 | exact h.2.2.2.2.1.1) (by rfl) ?_
  refine j_cVi dX4_latest_4 hB mo_X3_size ml_X4_29 (sp_X3_size hB h.2.1) (by first | exact h.1 | exact h.2.1.1 | exact h.2.2.1.1 | exact h.2.2.2.1.1 | exact h.2.2.2.2.1.1) rfl rfl rfl rfl ⟨rfl, rfl, by decide, by decide⟩ (Nat.le_of_ble_eq_true rfl) ⟨by decide, by decide⟩ (fun r_4 V_4 h_4 => ?_)
  obtain ⟨rfl, hn⟩ := h_4
  have hn2 := hn
  rw [h.2.2.2.2.2.1] at hn
  refine j_iconst (v := 1) dX4_latest_7 (by decide) ?_
  refine j_isub dX4_latest_8 ?_
  refine j_iret dX4_latest_9 rfl (rfl) (by decide) (by decide) ?_
  exact ⟨_, rfl, rfl, rfl, rfl, rfl, by rw [ti_sub (by rw [ti_1]; omega) (by rw [ti_1]; omega), ti_1, hn]; rfl⟩
set_option maxRecDepth 100000 in
set_option maxHeartbeats 4000000 in
theorem sp_X4_isComplete (hB : jB l s0 D) {q : Nat} {t : tR} (h : rdOK T V q t) : Sp l s0 D kX4_isComplete (jR 2 0 0) 0 0 [.ref q] T V X sz (qI T X sz (fun r V' => V = V' ∧ (r = 1 ∧ rComp t ∨ r = 0 ∧ ¬ rComp t))) := by
  refine Sp.of pn_X4_isComplete rfl (Nat.le_of_ble_eq_true rfl) ?_
  have hp := h.2.2.2.2.2.2.2.2.2
  have h80 : (80 : Int32).toInt = 80 := by decide
  have tz : ∀ {x : Int32} {k : Int32}, x.toInt = k.toInt → x = k := fun e => Int32.toInt_inj.mp e
  refine j_aload_n dX4_isComplete_0 rfl ?_
  refine j_geti dX4_isComplete_1 hB fl_X4_43 (by first | exact h.1 | exact h.2.1.1 | exact h.2.2.1.1 | exact h.2.2.2.1.1 | exact h.2.2.2.2.1.1) (by rfl) ?_
  refine j_lsw_3 (td := 84) (t0 := 40) (t1 := 60) (t2 := 62) dX4_isComplete_4 (by decide) (by decide) (fun s_4 => ?_) (fun s_4 => ?_) (fun s_4 => ?_) (fun s_4_0 s_4_1 s_4_2 => ?_)
  · have e0 : t.2.2.2.2 = 0 := by rw [← hp]; exact tz s_4
    refine j_aload_n dX4_isComplete_40 rfl ?_
    refine j_getr dX4_isComplete_41 hB fl_X4_14 (by first | exact h.1 | exact h.2.1.1 | exact h.2.2.1.1 | exact h.2.2.2.1.1 | exact h.2.2.2.2.1.1) (by rfl) ?_
    refine j_aload_n dX4_isComplete_44 rfl ?_
    refine j_cVi dX4_isComplete_45 hB mo_X4_latest ml_X4_47 (sp_X4_latest hB h) (by first | exact h.1 | exact h.2.1.1 | exact h.2.2.1.1 | exact h.2.2.2.1.1 | exact h.2.2.2.2.1.1) rfl rfl rfl rfl ⟨rfl, rfl, by decide, by decide⟩ (Nat.le_of_ble_eq_true rfl) ⟨by decide, by decide⟩ (fun r_45 V_45 h_45 => ?_)
    obtain ⟨rfl, hi_45⟩ := h_45
    refine j_cVi dX4_isComplete_48 hB mo_X3_at ml_X4_50 (sp_X3_at hB h.2.1) (by first | exact h.1 | exact h.2.1.1 | exact h.2.2.1.1 | exact h.2.2.2.1.1 | exact h.2.2.2.2.1.1) rfl rfl rfl rfl ⟨rfl, rfl, by decide, by decide⟩ (Nat.le_of_ble_eq_true rfl) ⟨by decide, by decide⟩ (fun r_48 V_48 h_48 => ?_)
    obtain ⟨rfl, y1⟩ := h_48
    rw [hi_45, h.2.2.2.2.2.1] at y1
    refine j_if_le (tgt := 58) dX4_isComplete_51 (by decide) (fun c_51 => ?_) (fun c_51 => ?_)
    · refine j_iconst (v := 0) dX4_isComplete_58 (by decide) ?_
      refine j_iret dX4_isComplete_59 rfl (rfl) (by decide) (by decide) ?_
      refine ⟨_, rfl, rfl, rfl, rfl, rfl, Or.inr ⟨rfl, fun hc => ?_⟩⟩
      rcases hc with ⟨_, z⟩ | z | ⟨z, _⟩
      · rw [← y1] at z; omega
      · rw [e0] at z; exact absurd z (by decide)
      · rw [e0] at z; exact absurd z (by decide)
    · refine j_iconst (v := 1) dX4_isComplete_54 (by decide) ?_
      refine j_goto (tgt := 59) dX4_isComplete_55 (by decide) ?_
      refine j_iret dX4_isComplete_59 rfl (rfl) (by decide) (by decide) ?_
      exact ⟨_, rfl, rfl, rfl, rfl, rfl, Or.inl ⟨rfl, Or.inl ⟨e0, by rw [← y1]; exact c_51⟩⟩⟩
  · have e0 : t.2.2.2.2 = 4 := by rw [← hp]; exact tz s_4
    refine j_iconst (v := 1) dX4_isComplete_60 (by decide) ?_
    refine j_iret dX4_isComplete_61 rfl (rfl) (by decide) (by decide) ?_
    exact ⟨_, rfl, rfl, rfl, rfl, rfl, Or.inl ⟨rfl, Or.inr (Or.inl e0)⟩⟩
  · have e0 : t.2.2.2.2 = 5 := by rw [← hp]; exact tz s_4
    refine j_aload_n dX4_isComplete_62 rfl ?_
    refine j_getr dX4_isComplete_63 hB fl_X4_26 (by first | exact h.1 | exact h.2.1.1 | exact h.2.2.1.1 | exact h.2.2.2.1.1 | exact h.2.2.2.2.1.1) (by rfl) ?_
    refine j_aload_n dX4_isComplete_66 rfl ?_
    refine j_cVi dX4_isComplete_67 hB mo_X4_latest ml_X4_47 (sp_X4_latest hB h) (by first | exact h.1 | exact h.2.1.1 | exact h.2.2.1.1 | exact h.2.2.2.1.1 | exact h.2.2.2.2.1.1) rfl rfl rfl rfl ⟨rfl, rfl, by decide, by decide⟩ (Nat.le_of_ble_eq_true rfl) ⟨by decide, by decide⟩ (fun r_67 V_67 h_67 => ?_)
    obtain ⟨rfl, hi_67⟩ := h_67
    refine j_cVi dX4_isComplete_70 hB mo_X3_at ml_X4_50 (sp_X3_at hB h.2.2.2.2.1) (by first | exact h.1 | exact h.2.1.1 | exact h.2.2.1.1 | exact h.2.2.2.1.1 | exact h.2.2.2.2.1.1) rfl rfl rfl rfl ⟨rfl, rfl, by decide, by decide⟩ (Nat.le_of_ble_eq_true rfl) ⟨by decide, by decide⟩ (fun r_70 V_70 h_70 => ?_)
    obtain ⟨rfl, y1⟩ := h_70
    rw [hi_67, h.2.2.2.2.2.2.2.2.1] at y1
    refine j_bipush (v := 80) dX4_isComplete_73 (by decide) ?_
    refine j_icmp_lt (tgt := 82) dX4_isComplete_75 (by decide) (fun c_75 => ?_) (fun c_75 => ?_)
    · refine j_iconst (v := 0) dX4_isComplete_82 (by decide) ?_
      refine j_iret dX4_isComplete_83 rfl (rfl) (by decide) (by decide) ?_
      refine ⟨_, rfl, rfl, rfl, rfl, rfl, Or.inr ⟨rfl, fun hc => ?_⟩⟩
      rcases hc with ⟨z, _⟩ | z | ⟨_, z⟩
      · rw [e0] at z; exact absurd z (by decide)
      · rw [e0] at z; exact absurd z (by decide)
      · rw [← y1] at z; omega
    · refine j_iconst (v := 1) dX4_isComplete_78 (by decide) ?_
      refine j_goto (tgt := 83) dX4_isComplete_79 (by decide) ?_
      refine j_iret dX4_isComplete_83 rfl (rfl) (by decide) (by decide) ?_
      exact ⟨_, rfl, rfl, rfl, rfl, rfl, Or.inl ⟨rfl, Or.inr (Or.inr ⟨e0, by rw [← y1]; omega⟩)⟩⟩
  · have e0 : t.2.2.2.2 ≠ 0 := fun e => s_4_0 (by rw [hp, e]; rfl)
    have e4 : t.2.2.2.2 ≠ 4 := fun e => s_4_1 (by rw [hp, e]; rfl)
    have e5 : t.2.2.2.2 ≠ 5 := fun e => s_4_2 (by rw [hp, e]; rfl)
    refine j_iconst (v := 0) dX4_isComplete_84 (by decide) ?_
    refine j_iret dX4_isComplete_85 rfl (rfl) (by decide) (by decide) ?_
    refine ⟨_, rfl, rfl, rfl, rfl, rfl, Or.inr ⟨rfl, fun hc => ?_⟩⟩
    rcases hc with ⟨z, _⟩ | z | ⟨z, _⟩
    · exact e0 z
    · exact e4 z
    · exact e5 z
set_option maxRecDepth 100000 in
set_option maxHeartbeats 4000000 in
theorem sp_X4_beginScene (hB : jB l s0 D) {q : Nat} {t : tR} (h : rdOK T V q t) (n1 : t.1.length < 60) (n2 : t.2.1.length < 60) (n3 : t.2.2.1.length < 60) (n4 : t.2.2.2.1.length < 60) : Sp l s0 D kX4_beginScene (jR 1 0 0) 0 0 [.ref q] T V X sz (qU T X sz (fun V' => rdOK T V' q (rNew t) ∧ jAg V V' q (q + 9))) := by
  refine Sp.of pn_X4_beginScene rfl (Nat.le_of_ble_eq_true rfl) ?_
  obtain ⟨h0, h1, h2, h3, h4, e1, e2, e3, e4, e5⟩ := id h
  refine j_aload_n dX4_beginScene_0 rfl ?_
  refine j_getr dX4_beginScene_1 hB fl_X4_14 (by first | exact h.1 | exact h.2.1.1 | exact h.2.2.1.1 | exact h.2.2.2.1.1 | exact h.2.2.2.2.1.1) (by rfl) ?_
  refine j_iconst (v := 0) dX4_beginScene_4 (by decide) ?_
  refine j_cVu dX4_beginScene_5 hB mo_X3_add ml_X4_39 (sp_X3_add hB (h1)) (by first | exact h.1 | exact h.2.1.1 | exact h.2.2.1.1 | exact h.2.2.2.1.1 | exact h.2.2.2.2.1.1) rfl rfl rfl rfl ⟨rfl, rfl, by decide, by decide⟩ (Nat.le_of_ble_eq_true rfl) ⟨by decide, by decide⟩ (fun V_5 h_5 => ?_)
  obtain ⟨g1, f1, a1⟩ := h_5
  refine j_aload_n dX4_beginScene_8 rfl ?_
  refine j_getr dX4_beginScene_9 hB fl_X4_20 (by first | exact h.1 | exact h.2.1.1 | exact h.2.2.1.1 | exact h.2.2.2.1.1 | exact h.2.2.2.2.1.1) (by rfl) ?_
  refine j_ldc dX4_beginScene_12 hB kc_X4_42 ?_
  refine j_cVu dX4_beginScene_14 hB mo_X3_add ml_X4_39 (sp_X3_add hB (h2.ag a1 (by omega))) (by first | exact h.1 | exact h.2.1.1 | exact h.2.2.1.1 | exact h.2.2.2.1.1 | exact h.2.2.2.2.1.1) rfl rfl rfl rfl ⟨rfl, rfl, by decide, by decide⟩ (Nat.le_of_ble_eq_true rfl) ⟨by decide, by decide⟩ (fun V_14 h_14 => ?_)
  obtain ⟨g2, f2, a2⟩ := h_14
  refine j_aload_n dX4_beginScene_17 rfl ?_
  refine j_getr dX4_beginScene_18 hB fl_X4_23 (by first | exact h.1 | exact h.2.1.1 | exact h.2.2.1.1 | exact h.2.2.2.1.1 | exact h.2.2.2.2.1.1) (by rfl) ?_
  refine j_iconst (v := 0) dX4_beginScene_21 (by decide) ?_
  refine j_cVu dX4_beginScene_22 hB mo_X3_add ml_X4_39 (sp_X3_add hB ((h3.ag a1 (by omega)).ag a2 (by omega))) (by first | exact h.1 | exact h.2.1.1 | exact h.2.2.1.1 | exact h.2.2.2.1.1 | exact h.2.2.2.2.1.1) rfl rfl rfl rfl ⟨rfl, rfl, by decide, by decide⟩ (Nat.le_of_ble_eq_true rfl) ⟨by decide, by decide⟩ (fun V_22 h_22 => ?_)
  obtain ⟨g3, f3, a3⟩ := h_22
  refine j_aload_n dX4_beginScene_25 rfl ?_
  refine j_getr dX4_beginScene_26 hB fl_X4_26 (by first | exact h.1 | exact h.2.1.1 | exact h.2.2.1.1 | exact h.2.2.2.1.1 | exact h.2.2.2.2.1.1) (by rfl) ?_
  refine j_iconst (v := 0) dX4_beginScene_29 (by decide) ?_
  refine j_cVu dX4_beginScene_30 hB mo_X3_add ml_X4_39 (sp_X3_add hB (((h4.ag a1 (by omega)).ag a2 (by omega)).ag a3 (by omega))) (by first | exact h.1 | exact h.2.1.1 | exact h.2.2.1.1 | exact h.2.2.2.1.1 | exact h.2.2.2.2.1.1) rfl rfl rfl rfl ⟨rfl, rfl, by decide, by decide⟩ (Nat.le_of_ble_eq_true rfl) ⟨by decide, by decide⟩ (fun V_30 h_30 => ?_)
  obtain ⟨g4, f4, a4⟩ := h_30
  refine j_aload_n dX4_beginScene_33 rfl ?_
  refine j_iconst (v := 0) dX4_beginScene_34 (by decide) ?_
  refine j_puti dX4_beginScene_35 hB fp_X4_beginScene_43 (by first | exact h.1 | exact h.2.1.1 | exact h.2.2.1.1 | exact h.2.2.2.1.1 | exact h.2.2.2.2.1.1) (by rfl) ?_
  refine j_vret dX4_beginScene_38 rfl (by decide) (by decide) ?_
  rw [e1, if_pos n1] at f1
  rw [Rw_ag a1 (by omega), e2, if_pos n2] at f2
  rw [Rw_ag a2 (by omega), Rw_ag a1 (by omega), e3, if_pos n3] at f3
  rw [Rw_ag a3 (by omega), Rw_ag a2 (by omega), Rw_ag a1 (by omega), e4, if_pos n4] at f4
  have u : jAg V_30 (jset V_30 q 4 0) q (q + 1) := jAg.f1
  refine ⟨rfl, rfl, rfl, rfl, ⟨h0, (((g1.ag a2 (by omega)).ag a3 (by omega)).ag a4 (by omega)).ag u (by omega), ((g2.ag a3 (by omega)).ag a4 (by omega)).ag u (by omega), (g3.ag a4 (by omega)).ag u (by omega), g4.ag u (by omega), ?_, ?_, ?_, ?_, jset_eq⟩, ((((a1.wide (by omega) (by omega)).tr (a2.wide (by omega) (by omega))).tr (a3.wide (by omega) (by omega))).tr (a4.wide (by omega) (by omega))).tr (u.wide (by omega) (by omega))⟩
  · rw [Rw_ag u (by omega), Rw_ag a4 (by omega), Rw_ag a3 (by omega), Rw_ag a2 (by omega), f1]; rfl
  · rw [Rw_ag u (by omega), Rw_ag a4 (by omega), Rw_ag a3 (by omega), f2]; rfl
  · rw [Rw_ag u (by omega), Rw_ag a4 (by omega), f3]; rfl
  · rw [Rw_ag u (by omega), f4]; rfl
def r0 : tR := rNew ([], [], [], [], 0)
set_option maxRecDepth 100000 in
set_option maxHeartbeats 4000000 in
theorem sp_X4_begin (hB : jB l s0 D) {q : Nat} (h : rdK T V q) : Sp l s0 D kX4_begin (jR 2 0 0) 0 0 [.ref q] T V X sz (qU T X sz (fun V' => rdOK T V' q r0 ∧ jAg V V' q (q + 9))) := by
  refine Sp.of pn_X4_begin rfl (Nat.le_of_ble_eq_true rfl) ?_
  obtain ⟨h0, h1, h2, h3, h4⟩ := id h
  refine j_aload_n dX4_begin_0 rfl ?_
  refine j_getr dX4_begin_1 hB fl_X4_14 (by first | exact h0 | exact h1.1 | exact h2.1 | exact h3.1 | exact h4.1) (by rfl) ?_
  refine j_cVu dX4_begin_4 hB mo_X3_clear ml_X4_33 (sp_X3_clear hB (h1)) (by first | exact h0 | exact h1.1 | exact h2.1 | exact h3.1 | exact h4.1) rfl rfl rfl rfl ⟨rfl, rfl, by decide, by decide⟩ (Nat.le_of_ble_eq_true rfl) ⟨by decide, by decide⟩ (fun V_4 h_4 => ?_)
  obtain ⟨g1, f1, a1⟩ := h_4
  refine j_aload_n dX4_begin_7 rfl ?_
  refine j_getr dX4_begin_8 hB fl_X4_20 (by first | exact h0 | exact h1.1 | exact h2.1 | exact h3.1 | exact h4.1) (by rfl) ?_
  refine j_cVu dX4_begin_11 hB mo_X3_clear ml_X4_33 (sp_X3_clear hB (h2.ag a1 (by omega))) (by first | exact h0 | exact h1.1 | exact h2.1 | exact h3.1 | exact h4.1) rfl rfl rfl rfl ⟨rfl, rfl, by decide, by decide⟩ (Nat.le_of_ble_eq_true rfl) ⟨by decide, by decide⟩ (fun V_11 h_11 => ?_)
  obtain ⟨g2, f2, a2⟩ := h_11
  refine j_aload_n dX4_begin_14 rfl ?_
  refine j_getr dX4_begin_15 hB fl_X4_23 (by first | exact h0 | exact h1.1 | exact h2.1 | exact h3.1 | exact h4.1) (by rfl) ?_
  refine j_cVu dX4_begin_18 hB mo_X3_clear ml_X4_33 (sp_X3_clear hB ((h3.ag a1 (by omega)).ag a2 (by omega))) (by first | exact h0 | exact h1.1 | exact h2.1 | exact h3.1 | exact h4.1) rfl rfl rfl rfl ⟨rfl, rfl, by decide, by decide⟩ (Nat.le_of_ble_eq_true rfl) ⟨by decide, by decide⟩ (fun V_18 h_18 => ?_)
  obtain ⟨g3, f3, a3⟩ := h_18
  refine j_aload_n dX4_begin_21 rfl ?_
  refine j_getr dX4_begin_22 hB fl_X4_26 (by first | exact h0 | exact h1.1 | exact h2.1 | exact h3.1 | exact h4.1) (by rfl) ?_
  refine j_cVu dX4_begin_25 hB mo_X3_clear ml_X4_33 (sp_X3_clear hB (((h4.ag a1 (by omega)).ag a2 (by omega)).ag a3 (by omega))) (by first | exact h0 | exact h1.1 | exact h2.1 | exact h3.1 | exact h4.1) rfl rfl rfl rfl ⟨rfl, rfl, by decide, by decide⟩ (Nat.le_of_ble_eq_true rfl) ⟨by decide, by decide⟩ (fun V_25 h_25 => ?_)
  obtain ⟨g4, f4, a4⟩ := h_25
  have hk : rdOK T V_25 q ([], [], [], [], V_25 q 4) := ⟨h0, ((g1.ag a2 (by omega)).ag a3 (by omega)).ag a4 (by omega), (g2.ag a3 (by omega)).ag a4 (by omega), g3.ag a4 (by omega), g4, by rw [Rw_ag a4 (by omega), Rw_ag a3 (by omega), Rw_ag a2 (by omega), f1], by rw [Rw_ag a4 (by omega), Rw_ag a3 (by omega), f2], by rw [Rw_ag a4 (by omega), f3], f4, rfl⟩
  refine j_aload_n dX4_begin_28 rfl ?_
  refine j_cVu dX4_begin_29 hB mo_X4_beginScene ml_X4_36 (sp_X4_beginScene hB hk (Nat.succ_pos 59) (Nat.succ_pos 59) (Nat.succ_pos 59) (Nat.succ_pos 59)) (by first | exact h0 | exact h1.1 | exact h2.1 | exact h3.1 | exact h4.1) rfl rfl rfl rfl ⟨rfl, rfl, by decide, by decide⟩ (Nat.le_of_ble_eq_true rfl) ⟨by decide, by decide⟩ (fun V_29 h_29 => ?_)
  obtain ⟨g5, a5⟩ := h_29
  refine j_vret dX4_begin_32 rfl (by decide) (by decide) ?_
  exact ⟨rfl, rfl, rfl, rfl, g5, ((((a1.wide (by omega) (by omega)).tr (a2.wide (by omega) (by omega))).tr (a3.wide (by omega) (by omega))).tr (a4.wide (by omega) (by omega))).tr a5⟩
set_option maxRecDepth 100000 in
set_option maxHeartbeats 4000000 in
theorem sp_X4_step (hB : jB l s0 D) {q : Nat} {t : tR} {a p : Int32} (h : rdOK T V q t) (ha : a = 1 ∨ a = 0) : Sp l s0 D kX4_step (jR 0 0 0) 0 0 [.ref q, .int a, .int p] T V X sz (qI T X sz (fun r V' => r = a ∧ (a = 1 → rdOK T V' q (rGo t p)) ∧ (a = 0 → V = V') ∧ jAg V V' q (q + 9))) := by
  refine Sp.of pn_X4_step rfl (Nat.le_of_ble_eq_true rfl) ?_
  refine j_iload_n dX4_step_0 rfl ?_
  refine j_if_eq (tgt := 9) dX4_step_1 (by decide) (fun c_1 => ?_) (fun c_1 => ?_)
  · refine j_iload_n dX4_step_9 rfl ?_
    refine j_iret dX4_step_10 rfl (by rcases ha with e | e <;> rw [e] <;> decide) (by decide) (by decide) ?_
    exact ⟨_, rfl, rfl, rfl, rfl, rfl, fun e => absurd (e.symm.trans c_1) (by decide), fun _ => rfl, jAg.rf⟩
  · refine j_aload_n dX4_step_4 rfl ?_
    refine j_iload_n dX4_step_5 rfl ?_
    refine j_puti dX4_step_6 hB fp_X4_step_43 (by first | exact h.1 | exact h.2.1.1 | exact h.2.2.1.1 | exact h.2.2.2.1.1 | exact h.2.2.2.2.1.1) (by rfl) ?_
    refine j_iload_n dX4_step_9 rfl ?_
    refine j_iret dX4_step_10 rfl (by rcases ha with e | e <;> rw [e] <;> decide) (by decide) (by decide) ?_
    exact ⟨_, rfl, rfl, rfl, rfl, rfl, fun _ => h.go, fun e => absurd e c_1, jAg.f1.wide (by omega) (by omega)⟩
end JReader
