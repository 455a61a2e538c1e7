/-! CueSheets$Reel: lostBetween -/
theorem lostB_app {A : pL} {x : Int32 × Int32} (f : Int) : lostB (A ++ [x]) f = (lostB A f || (decide (x.1.toInt ≤ f) && decide (f < x.1.toInt + x.2.toInt))) := by
  simp [lostB, List.any_append]
theorem lost_step {A : pL} {x : Int32 × Int32} (hA : ∀ b ∈ A, b.1.toInt < x.1.toInt) {a z r : Int} {N : Nat} (h0 : a + N = z) (hr : a ≤ r) (hr2 : r ≤ z)
    (I1 : ∀ f, a ≤ f → f < z → lostB A f = true → f < r) (I2 : ∀ f, a ≤ f → f < r → (∀ b ∈ A, b.1.toInt ≤ f) → lostB A f = true) {b e r' : Int} (hb : b = max x.1.toInt r) (he : e = min (x.1.toInt + x.2.toInt) z) (hr' : r' = if b < e then e else r) :
    cnt (lostB (A ++ [x])) a N = cnt (lostB A) a N + (if b < e then e - b else 0) ∧ (∀ f, a ≤ f → f < z → lostB (A ++ [x]) f = true → f < r') ∧ (∀ f, a ≤ f → f < r' → (∀ b ∈ A ++ [x], b.1.toInt ≤ f) → lostB (A ++ [x]) f = true) ∧ a ≤ r' ∧ r' ≤ z := by
  have hS := lostB_app (A := A) (x := x)
  obtain ⟨x1, x2⟩ := x
  dsimp only at hA hb he hS
  have hrr : r ≤ r' := by rw [hr']; split <;> omega
  refine ⟨?_, fun f h1 h2 h3 => ?_, fun f h1 h2 h3 => ?_, by omega, ?_⟩
  · have e1 : cnt (lostB (A ++ [(x1, x2)])) a N = cnt (fun f => lostB A f || (decide (b ≤ f) && decide (f < e))) a N := by
      apply cnt_congr
      intro f h1 h2
      rw [hS f]
      by_cases hl : lostB A f = true
      · rw [hl]; rfl
      · have hl' : lostB A f = false := by simpa using hl
        rw [hl']
        simp only [Bool.false_or]
        by_cases hs : x1.toInt ≤ f
        · have : ¬ f < r := fun z => hl (I2 f h1 z (fun b hb => by have := hA b hb; omega))
          rw [decide_eq_true hs, decide_eq_true (show b ≤ f by omega)]
          congr 1
          exact decide_eq_decide.mpr (by omega)
        · rw [decide_eq_false hs, decide_eq_false (show ¬ b ≤ f by omega)]; rfl
    rw [e1, cnt_or (g := lostB A) (g' := fun f => decide (b ≤ f) && decide (f < e)) ?_, cnt_iv (by omega)]
    · congr 1
      split <;> omega
    · rintro f h1 h2 ⟨h3, h4⟩
      have := I1 f h1 (by omega) h3
      simp at h4
      omega
  · rw [hS f] at h3
    by_cases hl : lostB A f = true
    · have := I1 f h1 h2 hl; omega
    · simp [hl] at h3
      rw [hr']
      split <;> omega
  · rw [hS f]
    by_cases hfr : f < r
    · rw [I2 f h1 hfr (fun b hb => h3 b (List.mem_append_left _ hb))]; rfl
    · have hs : x1.toInt ≤ f := by
        have := h3 (x1, x2) (List.mem_append_right _ (List.mem_singleton.mpr rfl))
        omega
      have : f < e := by rw [hr'] at h2; split at h2 <;> omega
      rw [decide_eq_true hs, decide_eq_true (show f < x1.toInt + x2.toInt by omega)]
      simp
  · rw [hr']; split <;> omega
/-- splices in their ranges -/
def slW (P : pL) : Prop := ∀ b ∈ P, 0 ≤ b.1.toInt ∧ b.1.toInt ≤ 9000 ∧ 1 ≤ b.2.toInt ∧ b.2.toInt ≤ 50
section JReel2
variable {l : Launch} {s0 : State} {D : jD} {T : jT} {V : jV} {X : jX} {sz : Nat}
set_option maxRecDepth 100000 in
set_option maxHeartbeats 4000000 in
theorem sp_X2_lostBetween (hB : jB l s0 D) {q : Nat} {r : aR} {a z : Int32} (h : ReelOK T V q r) (hw : slW r.2.2.2.2.2) (h0 : 0 ≤ a.toInt) (h1 : a.toInt ≤ z.toInt) (h2 : z.toInt ≤ 9000) : Sp l s0 D kX2_lostBetween (jR 1 0 0) 0 0 [.ref q, .int a, .int z] T V X sz (qI T X sz (fun x V' => V = V' ∧ x.toInt = cnt (lostB r.2.2.2.2.2) a.toInt (z.toInt - a.toInt).toNat)) := by
  refine Sp.of pn_X2_lostBetween rfl (Nat.le_of_ble_eq_true rfl) ?_
  generalize hP : r.2.2.2.2.2 = P at hw ⊢
  have hm := h.2.2.2.2.2.2.1
  rw [hP] at hm
  have hlen := hm.len
  generalize hN : (z.toInt - a.toInt).toNat = N
  have hcl := cnt_le (lostB P) a.toInt N
  have loop : ∀ (n k : Nat) (i x re : Int32), i.toInt = k → k + n = P.length → x.toInt = cnt (lostB (P.take k)) a.toInt N → a.toInt ≤ re.toInt → re.toInt ≤ z.toInt → (∀ f, a.toInt ≤ f → f < z.toInt → lostB (P.take k) f = true → f < re.toInt) → (∀ f, a.toInt ≤ f → f < re.toInt → (∀ b ∈ P.take k, b.1.toInt ≤ f) → lostB (P.take k) f = true) → J l s0 D kX2_lostBetween (jR 1 0 0) 0 0 (qI T X sz (fun x V' => V = V' ∧ x.toInt = cnt (lostB P) a.toInt N)) 8 [(0, .ref q), (1, .int a), (2, .int z), (3, .int x), (4, .int re), (5, .int i)] [] T V X sz 0 0 := by
    intro n
    induction n with
    | zero =>
      intro k i x re hi hk hx hr1 hr2 I1 I2
      refine j_iload dX2_lostBetween_8 rfl ?_
      refine j_aload_n dX2_lostBetween_10 rfl ?_
      refine j_getr dX2_lostBetween_11 hB fl_X2_36 (by first | exact h.1 | exact h.2.2.2.2.2.2.1.1 | exact h.2.2.2.2.2.2.1.2.1.1 | exact h.2.2.2.2.2.2.1.2.2.1.1) (by rfl) ?_
      refine j_getr dX2_lostBetween_14 hB fl_X2_61 (by first | exact h.1 | exact h.2.2.2.2.2.2.1.1 | exact h.2.2.2.2.2.2.1.2.1.1 | exact h.2.2.2.2.2.2.1.2.2.1.1) (by rfl) ?_
      refine j_cVi dX2_lostBetween_17 hB mo_X3_size ml_X2_43 (sp_X3_size hB hm.2.1) (by first | exact h.1 | exact h.2.2.2.2.2.2.1.1 | exact h.2.2.2.2.2.2.1.2.1.1 | exact h.2.2.2.2.2.2.1.2.2.1.1) rfl rfl rfl rfl ⟨rfl, rfl, by decide, by decide⟩ (Nat.le_of_ble_eq_true rfl) ⟨by decide, by decide⟩ (fun r_17 V_17 h_17 => ?_)
      obtain ⟨rfl, hr⟩ := h_17
      rw [hm.2.2.2.1, List.length_map] at hr
      refine j_icmp_ge (tgt := 92) dX2_lostBetween_20 (by decide) (fun c_20 => ?_) (fun c_20 => ?_)
      · refine j_iload_n dX2_lostBetween_92 rfl ?_
        refine j_iret dX2_lostBetween_93 rfl (rfl) (by decide) (by decide) ?_
        exact ⟨_, rfl, rfl, rfl, rfl, rfl, by rw [hx, List.take_of_length_le (by omega)]⟩
      · exact absurd c_20 (by omega)
    | succ n ih =>
      intro k i x re hi hk hx hr1 hr2 I1 I2
      have hlt : k < P.length := by omega
      have hta := (List.take_append_getElem hlt).symm
      have hsA : ∀ b ∈ P.take k, b.1.toInt < P[k].1.toInt := by
        intro b hb
        have h2 : pSrt (P.take (k + 1)) := List.Pairwise.sublist (List.take_sublist _ _) hm.2.2.2.2.2
        rw [hta] at h2
        exact (List.pairwise_append.mp h2).2.2 b hb P[k] (List.mem_singleton.mpr rfl)
      have hwk := hw P[k] (List.getElem_mem hlt)
      have hck := cnt_le (lostB (P.take k)) a.toInt N
      refine j_iload dX2_lostBetween_8 rfl ?_
      refine j_aload_n dX2_lostBetween_10 rfl ?_
      refine j_getr dX2_lostBetween_11 hB fl_X2_36 (by first | exact h.1 | exact h.2.2.2.2.2.2.1.1 | exact h.2.2.2.2.2.2.1.2.1.1 | exact h.2.2.2.2.2.2.1.2.2.1.1) (by rfl) ?_
      refine j_getr dX2_lostBetween_14 hB fl_X2_61 (by first | exact h.1 | exact h.2.2.2.2.2.2.1.1 | exact h.2.2.2.2.2.2.1.2.1.1 | exact h.2.2.2.2.2.2.1.2.2.1.1) (by rfl) ?_
      refine j_cVi dX2_lostBetween_17 hB mo_X3_size ml_X2_43 (sp_X3_size hB hm.2.1) (by first | exact h.1 | exact h.2.2.2.2.2.2.1.1 | exact h.2.2.2.2.2.2.1.2.1.1 | exact h.2.2.2.2.2.2.1.2.2.1.1) rfl rfl rfl rfl ⟨rfl, rfl, by decide, by decide⟩ (Nat.le_of_ble_eq_true rfl) ⟨by decide, by decide⟩ (fun r_17 V_17 h_17 => ?_)
      obtain ⟨rfl, hr⟩ := h_17
      rw [hm.2.2.2.1, List.length_map] at hr
      refine j_icmp_ge (tgt := 92) dX2_lostBetween_20 (by decide) (fun c_20 => ?_) (fun c_20 => ?_)
      · exact absurd c_20 (by omega)
      · refine j_aload_n dX2_lostBetween_23 rfl ?_
        refine j_getr dX2_lostBetween_24 hB fl_X2_36 (by first | exact h.1 | exact h.2.2.2.2.2.2.1.1 | exact h.2.2.2.2.2.2.1.2.1.1 | exact h.2.2.2.2.2.2.1.2.2.1.1) (by rfl) ?_
        refine j_getr dX2_lostBetween_27 hB fl_X2_61 (by first | exact h.1 | exact h.2.2.2.2.2.2.1.1 | exact h.2.2.2.2.2.2.1.2.1.1 | exact h.2.2.2.2.2.2.1.2.2.1.1) (by rfl) ?_
        refine j_iload dX2_lostBetween_30 rfl ?_
        refine j_cVi dX2_lostBetween_32 hB mo_X3_at ml_X2_47 (sp_X3_at hB hm.2.1) (by first | exact h.1 | exact h.2.2.2.2.2.2.1.1 | exact h.2.2.2.2.2.2.1.2.1.1 | exact h.2.2.2.2.2.2.1.2.2.1.1) rfl rfl rfl rfl ⟨rfl, rfl, by decide, by decide⟩ (Nat.le_of_ble_eq_true rfl) ⟨by decide, by decide⟩ (fun r_32 V_32 h_32 => ?_)
        obtain ⟨rfl, hf⟩ := h_32
        rw [hm.2.2.2.1, atZ_in (by omega), show i.toInt.toNat = k by omega, (map_getD P k hlt).1] at hf
        subst hf
        refine j_istore (L' := [(0, _), (1, _), (2, _), (3, _), (4, _), (5, _), (6, _)]) dX2_lostBetween_35 (by decide) rfl ?_
        refine j_iload dX2_lostBetween_37 rfl ?_
        refine j_iload dX2_lostBetween_39 rfl ?_
        refine j_mmax dX2_lostBetween_41 hB ml_X2_64 (by decide) (Nat.le_of_ble_eq_true rfl) (by decide) (by decide) ?_
        refine j_topi (fun b7 e7 => ?_)
        have t7 := congrArg Int32.toInt e7
        rw [ti_max] at t7
        refine j_istore (L' := [(0, _), (1, _), (2, _), (3, _), (4, _), (5, _), (6, _), (7, _)]) dX2_lostBetween_44 (by decide) rfl ?_
        refine j_iload dX2_lostBetween_46 rfl ?_
        refine j_aload_n dX2_lostBetween_48 rfl ?_
        refine j_getr dX2_lostBetween_49 hB fl_X2_36 (by first | exact h.1 | exact h.2.2.2.2.2.2.1.1 | exact h.2.2.2.2.2.2.1.2.1.1 | exact h.2.2.2.2.2.2.1.2.2.1.1) (by rfl) ?_
        refine j_getr dX2_lostBetween_52 hB fl_X2_70 (by first | exact h.1 | exact h.2.2.2.2.2.2.1.1 | exact h.2.2.2.2.2.2.1.2.1.1 | exact h.2.2.2.2.2.2.1.2.2.1.1) (by rfl) ?_
        refine j_iload dX2_lostBetween_55 rfl ?_
        refine j_cVi dX2_lostBetween_57 hB mo_X3_at ml_X2_47 (sp_X3_at hB hm.2.2.1) (by first | exact h.1 | exact h.2.2.2.2.2.2.1.1 | exact h.2.2.2.2.2.2.1.2.1.1 | exact h.2.2.2.2.2.2.1.2.2.1.1) rfl rfl rfl rfl ⟨rfl, rfl, by decide, by decide⟩ (Nat.le_of_ble_eq_true rfl) ⟨by decide, by decide⟩ (fun r_57 V_57 h_57 => ?_)
        obtain ⟨rfl, hg⟩ := h_57
        rw [hm.2.2.2.2.1, atZ_in (by omega), show i.toInt.toNat = k by omega, (map_getD P k hlt).2] at hg
        subst hg
        refine j_iadd dX2_lostBetween_60 ?_
        refine j_iload_n dX2_lostBetween_61 rfl ?_
        refine j_mmin dX2_lostBetween_62 hB ml_X2_73 (by decide) (Nat.le_of_ble_eq_true rfl) (by decide) (by decide) ?_
        refine j_topi (fun b8 e8 => ?_)
        have t8 := congrArg Int32.toInt e8
        rw [ti_min, ti_add (by omega) (by omega)] at t8
        have st := lost_step hsA (N := N) (z := z.toInt) (by omega) hr1 hr2 I1 I2 t7 t8 rfl
        rw [← hta] at st
        obtain ⟨s1, s2, s3, s4, s5⟩ := st
        refine j_istore (L' := [(0, _), (1, _), (2, _), (3, _), (4, _), (5, _), (6, _), (7, _), (8, _)]) dX2_lostBetween_65 (by decide) rfl ?_
        refine j_iload dX2_lostBetween_67 rfl ?_
        refine j_iload dX2_lostBetween_69 rfl ?_
        refine j_icmp_le (tgt := 86) dX2_lostBetween_71 (by decide) (fun c_71 => ?_) (fun c_71 => ?_)
        · rw [if_neg (by omega)] at s1 s2 s3 s4 s5
          refine j_iinc (v := 1) (L' := [(0, _), (1, _), (2, _), (3, _), (4, _), (5, _), (6, _), (7, _), (8, _)]) dX2_lostBetween_86 rfl (by decide) (by decide) rfl ?_
          refine j_goto (tgt := 8) dX2_lostBetween_89 (by decide) ?_
          refine j_sub2 (L' := [(0, .ref q), (1, .int a), (2, .int z), (3, .int _), (4, .int _), (5, .int _)]) (List.forall_mem_cons.mpr ⟨rfl, List.forall_mem_cons.mpr ⟨rfl, List.forall_mem_cons.mpr ⟨rfl, List.forall_mem_cons.mpr ⟨rfl, List.forall_mem_cons.mpr ⟨rfl, List.forall_mem_cons.mpr ⟨rfl, fun _ h9 => nomatch h9⟩⟩⟩⟩⟩⟩) ?_
          refine ih (k + 1) _ _ _ ?_ (by omega) ?_ s4 s5 s2 s3
          · rw [ti_add (by rw [ti_1]; omega) (by rw [ti_1]; omega), ti_1]; omega
          · first
            | rw [s1]; omega
            | rw [ti_add (by rw [ti_sub (by omega) (by omega)]; omega) (by rw [ti_sub (by omega) (by omega)]; omega), ti_sub (by omega) (by omega)]; omega
        · rw [if_pos (by omega)] at s1 s2 s3 s4 s5
          have hck1 := cnt_le (lostB (P.take (k + 1))) a.toInt N
          refine j_iload_n dX2_lostBetween_74 rfl ?_
          refine j_iload dX2_lostBetween_75 rfl ?_
          refine j_iload dX2_lostBetween_77 rfl ?_
          refine j_isub dX2_lostBetween_79 ?_
          refine j_iadd dX2_lostBetween_80 ?_
          refine j_istore_n (L' := [(0, _), (1, _), (2, _), (3, _), (4, _), (5, _), (6, _), (7, _), (8, _)]) dX2_lostBetween_81 (by decide) rfl ?_
          refine j_iload dX2_lostBetween_82 rfl ?_
          refine j_istore (L' := [(0, _), (1, _), (2, _), (3, _), (4, _), (5, _), (6, _), (7, _), (8, _)]) dX2_lostBetween_84 (by decide) rfl ?_
          refine j_iinc (v := 1) (L' := [(0, _), (1, _), (2, _), (3, _), (4, _), (5, _), (6, _), (7, _), (8, _)]) dX2_lostBetween_86 rfl (by decide) (by decide) rfl ?_
          refine j_goto (tgt := 8) dX2_lostBetween_89 (by decide) ?_
          refine j_sub2 (L' := [(0, .ref q), (1, .int a), (2, .int z), (3, .int _), (4, .int _), (5, .int _)]) (List.forall_mem_cons.mpr ⟨rfl, List.forall_mem_cons.mpr ⟨rfl, List.forall_mem_cons.mpr ⟨rfl, List.forall_mem_cons.mpr ⟨rfl, List.forall_mem_cons.mpr ⟨rfl, List.forall_mem_cons.mpr ⟨rfl, fun _ h9 => nomatch h9⟩⟩⟩⟩⟩⟩) ?_
          refine ih (k + 1) _ _ _ ?_ (by omega) ?_ s4 s5 s2 s3
          · rw [ti_add (by rw [ti_1]; omega) (by rw [ti_1]; omega), ti_1]; omega
          · first
            | rw [s1]; omega
            | rw [ti_add (by rw [ti_sub (by omega) (by omega)]; omega) (by rw [ti_sub (by omega) (by omega)]; omega), ti_sub (by omega) (by omega)]; omega
  refine j_iconst (v := 0) dX2_lostBetween_0 (by decide) ?_
  refine j_istore_n (L' := [(0, _), (1, _), (2, _), (3, _)]) dX2_lostBetween_1 (by decide) rfl ?_
  refine j_iload_n dX2_lostBetween_2 rfl ?_
  refine j_istore (L' := [(0, _), (1, _), (2, _), (3, _), (4, _)]) dX2_lostBetween_3 (by decide) rfl ?_
  refine j_iconst (v := 0) dX2_lostBetween_5 (by decide) ?_
  refine j_istore (L' := [(0, _), (1, _), (2, _), (3, _), (4, _), (5, _)]) dX2_lostBetween_6 (by decide) rfl ?_
  exact loop P.length 0 0 0 a rfl (by omega) (by rw [List.take_zero]; exact cnt_0.symm) (Int.le_refl _) h1 (fun f _ _ h => by simp [lostB] at h) (fun f h1 h2 _ => by omega)
end JReel2
