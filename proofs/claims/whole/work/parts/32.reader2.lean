/-! CueSheets$SheetReader: grow, a digit, a character -/
/-- n begins a number from least to most -/
def gOk (n least most : Int) : Prop := n ≠ 0 ∧ ((n ≤ most ∧ least ≤ n) ∨ (n * 10 ≤ most ∧ least ≤ n * 10 + 9) ∨ (n * 100 ≤ most ∧ least ≤ n * 100 + 99))
section JReader2
variable {l : Launch} {s0 : State} {D : jD} {T : jT} {V : jV} {X : jX} {sz : Nat}
set_option maxRecDepth 100000 in
set_option maxHeartbeats 4000000 in
theorem sp_X4_grow (hB : jB l s0 D) {q qr : Nat} {t : tR} {L : List Int32} {d least most : Int32} (h : rdOK T V q t) (hr : RowOK T V qr 60) (hL : Rw V qr = L) (x0 : 0 ≤ (atZ L (rN t)).toInt) (x1 : (atZ L (rN t)).toInt ≤ 900) (d0 : 0 ≤ d.toInt) (d1 : d.toInt ≤ 9) : Sp l s0 D kX4_grow (jR 2 0 0) 0 0 [.ref q, .ref qr, .int d, .int least, .int most] T V X sz (qI T X sz (fun r V' => (r = 1 ∧ gOk (10 * (atZ L (rN t)).toInt + d.toInt) least.toInt most.toInt ∧ RowOK T V' qr 60 ∧ Rw V' qr = setZ L (rN t) (10 * atZ L (rN t) + d) ∧ jAg V V' qr (qr + 2)) ∨ (r = 0 ∧ ¬ gOk (10 * (atZ L (rN t)).toInt + d.toInt) least.toInt most.toInt ∧ V = V'))) := by
  refine Sp.of pn_X4_grow rfl (Nat.le_of_ble_eq_true rfl) ?_
  have h10 : (10 : Int32).toInt = 10 := by decide
  have h100 : (100 : Int32).toInt = 100 := by decide
  have t1 : (10 * atZ L (rN t)).toInt = 10 * (atZ L (rN t)).toInt := by rw [ti_mul (by rw [h10]; omega) (by rw [h10]; omega), h10]
  have t2 : (10 * atZ L (rN t) + d).toInt = 10 * (atZ L (rN t)).toInt + d.toInt := by rw [ti_add (by omega) (by omega), t1]
  generalize hN : 10 * atZ L (rN t) + d = N at t2
  generalize hn : 10 * (atZ L (rN t)).toInt + d.toInt = n at t2
  have n0 : 0 ≤ n := by omega
  have n1 : n ≤ 9009 := by omega
  have it : ∀ (sc : Int32) (s : Int), sc.toInt = s → (s = 1 ∨ s = 10 ∨ s = 100) → n ≠ 0 → ((¬ (n * s ≤ most.toInt ∧ least.toInt ≤ n * s + s - 1)) → J l s0 D kX4_grow (jR 2 0 0) 0 0 (qI T X sz (fun r V' => (r = 1 ∧ gOk n least.toInt most.toInt ∧ RowOK T V' qr 60 ∧ Rw V' qr = setZ L (rN t) N ∧ jAg V V' qr (qr + 2)) ∨ (r = 0 ∧ ¬ gOk n least.toInt most.toInt ∧ V = V'))) 25 [(0, .ref q), (1, .ref qr), (2, .int d), (3, .int least), (4, .int most), (5, .int N), (6, .int (sc * 10))] [] T V X sz 0 0) → J l s0 D kX4_grow (jR 2 0 0) 0 0 (qI T X sz (fun r V' => (r = 1 ∧ gOk n least.toInt most.toInt ∧ RowOK T V' qr 60 ∧ Rw V' qr = setZ L (rN t) N ∧ jAg V V' qr (qr + 2)) ∨ (r = 0 ∧ ¬ gOk n least.toInt most.toInt ∧ V = V'))) 25 [(0, .ref q), (1, .ref qr), (2, .int d), (3, .int least), (4, .int most), (5, .int N), (6, .int sc)] [] T V X sz 0 0 := by
    intro sc s hs hsc hn0 k
    have ms : 0 ≤ n * s ∧ n * s ≤ 900900 := by rcases hsc with e | e | e <;> rw [e] <;> omega
    have m1 : (N * sc).toInt = n * s := by rw [ti_mul (by rw [t2, hs]; omega) (by rw [t2, hs]; omega), t2, hs]
    have m2 : (N * sc + sc).toInt = n * s + s := by rw [ti_add (by omega) (by omega), m1, hs]
    have m3 : (N * sc + sc - 1).toInt = n * s + s - 1 := by rw [ti_sub (by rw [ti_1]; omega) (by rw [ti_1]; omega), m2, ti_1]
    refine j_iload dX4_grow_25 rfl ?_
    refine j_bipush (v := 100) dX4_grow_27 (by decide) ?_
    refine j_icmp_gt (tgt := 78) dX4_grow_29 (by decide) (fun c_29 => ?_) (fun c_29 => ?_)
    · exact absurd c_29 (by rw [h100]; omega)
    · refine j_iload dX4_grow_32 rfl ?_
      refine j_iload dX4_grow_34 rfl ?_
      refine j_imul dX4_grow_36 ?_
      refine j_iload dX4_grow_37 rfl ?_
      refine j_icmp_gt (tgt := 68) dX4_grow_39 (by decide) (fun c_39 => ?_) (fun c_39 => ?_)
      · refine j_iload dX4_grow_68 rfl ?_
        refine j_bipush (v := 10) dX4_grow_70 (by decide) ?_
        refine j_imul dX4_grow_72 ?_
        refine j_istore (L' := [(0, _), (1, _), (2, _), (3, _), (4, _), (5, _), (6, _)]) dX4_grow_73 (by decide) rfl ?_
        refine j_goto (tgt := 25) dX4_grow_75 (by decide) ?_
        exact k (fun z => by rw [m1] at c_39; omega)
      · refine j_iload dX4_grow_42 rfl ?_
        refine j_iload dX4_grow_44 rfl ?_
        refine j_imul dX4_grow_46 ?_
        refine j_iload dX4_grow_47 rfl ?_
        refine j_iadd dX4_grow_49 ?_
        refine j_iconst (v := 1) dX4_grow_50 (by decide) ?_
        refine j_isub dX4_grow_51 ?_
        refine j_iload_n dX4_grow_52 rfl ?_
        refine j_icmp_lt (tgt := 68) dX4_grow_53 (by decide) (fun c_53 => ?_) (fun c_53 => ?_)
        · refine j_iload dX4_grow_68 rfl ?_
          refine j_bipush (v := 10) dX4_grow_70 (by decide) ?_
          refine j_imul dX4_grow_72 ?_
          refine j_istore (L' := [(0, _), (1, _), (2, _), (3, _), (4, _), (5, _), (6, _)]) dX4_grow_73 (by decide) rfl ?_
          refine j_goto (tgt := 25) dX4_grow_75 (by decide) ?_
          exact k (fun z => by rw [m3] at c_53; omega)
        · refine j_aload_n dX4_grow_56 rfl ?_
          refine j_aload_n dX4_grow_57 rfl ?_
          refine j_cVi dX4_grow_58 hB mo_X4_latest ml_X4_47 (sp_X4_latest hB h) (by first | exact h.1 | exact hr.1) rfl rfl rfl rfl ⟨rfl, rfl, by decide, by decide⟩ (Nat.le_of_ble_eq_true rfl) ⟨by decide, by decide⟩ (fun r_58 V_58 h_58 => ?_)
          obtain ⟨rfl, hi_58⟩ := h_58
          refine j_iload dX4_grow_61 rfl ?_
          refine j_cVu dX4_grow_63 hB mo_X3_put ml_X4_72 (sp_X3_put hB hr) (by first | exact h.1 | exact hr.1) rfl rfl rfl rfl ⟨rfl, rfl, by decide, by decide⟩ (Nat.le_of_ble_eq_true rfl) ⟨by decide, by decide⟩ (fun V_63 h_63 => ?_)
          obtain ⟨g1, f1, a1⟩ := h_63
          rw [hi_58, hL] at f1
          refine j_iconst (v := 1) dX4_grow_66 (by decide) ?_
          refine j_iret dX4_grow_67 rfl (rfl) (by decide) (by decide) ?_
          refine ⟨_, rfl, rfl, rfl, rfl, Or.inl ⟨rfl, ⟨hn0, ?_⟩, g1, f1, a1⟩⟩
          rw [m1] at c_39
          rw [m3] at c_53
          rcases hsc with e | e | e <;> rw [e] at c_39 c_53 <;> omega
  have fin : ∀ sc : Int32, 100 < sc.toInt → ¬ gOk n least.toInt most.toInt → J l s0 D kX4_grow (jR 2 0 0) 0 0 (qI T X sz (fun r V' => (r = 1 ∧ gOk n least.toInt most.toInt ∧ RowOK T V' qr 60 ∧ Rw V' qr = setZ L (rN t) N ∧ jAg V V' qr (qr + 2)) ∨ (r = 0 ∧ ¬ gOk n least.toInt most.toInt ∧ V = V'))) 25 [(0, .ref q), (1, .ref qr), (2, .int d), (3, .int least), (4, .int most), (5, .int N), (6, .int sc)] [] T V X sz 0 0 := by
    intro sc hs hng
    refine j_iload dX4_grow_25 rfl ?_
    refine j_bipush (v := 100) dX4_grow_27 (by decide) ?_
    refine j_icmp_gt (tgt := 78) dX4_grow_29 (by decide) (fun c_29 => ?_) (fun c_29 => ?_)
    · refine j_iconst (v := 0) dX4_grow_78 (by decide) ?_
      refine j_iret dX4_grow_79 rfl (rfl) (by decide) (by decide) ?_
      exact ⟨_, rfl, rfl, rfl, rfl, Or.inr ⟨rfl, hng, rfl⟩⟩
    · exact absurd c_29 (by rw [h100]; omega)
  refine j_bipush (v := 10) dX4_grow_0 (by decide) ?_
  refine j_aload_n dX4_grow_2 rfl ?_
  refine j_aload_n dX4_grow_3 rfl ?_
  refine j_cVi dX4_grow_4 hB mo_X4_latest ml_X4_47 (sp_X4_latest hB h) (by first | exact h.1 | exact hr.1) rfl rfl rfl rfl ⟨rfl, rfl, by decide, by decide⟩ (Nat.le_of_ble_eq_true rfl) ⟨by decide, by decide⟩ (fun r_4 V_4 h_4 => ?_)
  obtain ⟨rfl, hi_4⟩ := h_4
  refine j_cVi dX4_grow_7 hB mo_X3_at ml_X4_50 (sp_X3_at hB hr) (by first | exact h.1 | exact hr.1) rfl rfl rfl rfl ⟨rfl, rfl, by decide, by decide⟩ (Nat.le_of_ble_eq_true rfl) ⟨by decide, by decide⟩ (fun r_7 V_7 h_7 => ?_)
  obtain ⟨rfl, y1⟩ := h_7
  rw [hi_4, hL] at y1
  subst y1
  refine j_imul dX4_grow_10 ?_
  refine j_iload_n dX4_grow_11 rfl ?_
  refine j_iadd dX4_grow_12 ?_
  rw [hN]
  refine j_istore (L' := [(0, _), (1, _), (2, _), (3, _), (4, _), (5, _)]) dX4_grow_13 (by decide) rfl ?_
  refine j_iload dX4_grow_15 rfl ?_
  refine j_if_ne (tgt := 22) dX4_grow_17 (by decide) (fun c_17 => ?_) (fun c_17 => ?_)
  · have hz : n ≠ 0 := fun e => c_17 (Int32.toInt_inj.mp (by rw [t2, e]; rfl))
    refine j_iconst (v := 1) dX4_grow_22 (by decide) ?_
    refine j_istore (L' := [(0, _), (1, _), (2, _), (3, _), (4, _), (5, _), (6, _)]) dX4_grow_23 (by decide) rfl ?_
    refine it 1 1 rfl (Or.inl rfl) hz (fun z1 => ?_)
    refine it 10 10 rfl (Or.inr (Or.inl rfl)) hz (fun z2 => ?_)
    refine it 100 100 rfl (Or.inr (Or.inr rfl)) hz (fun z3 => ?_)
    refine fin 1000 (by decide) (fun z => ?_)
    rcases z.2 with z | z | z <;> omega
  · have hz : n = 0 := by rw [← t2, c_17]; rfl
    refine j_iconst (v := 0) dX4_grow_20 (by decide) ?_
    refine j_iret dX4_grow_21 rfl (rfl) (by decide) (by decide) ?_
    exact ⟨_, rfl, rfl, rfl, rfl, Or.inr ⟨rfl, fun z => z.1 hz, rfl⟩⟩
end JReader2
