/-! THE LAW, whole -/
section JLL
variable {l : Launch} {s0 : State} {D : jD}
theorem cuIs.of0 {T : jT} {V : jV} {q : Nat} (h : cuOK T V q cu0) : cuIs T V q x0 := ⟨fun _ => st0, 0, h, by decide, Nat.le_of_ble_eq_true rfl, fun i hi => absurd hi (Nat.not_lt_zero _)⟩
theorem moIs.cg {T T' : jT} {V V' : jV} {q : Nat} {x : aX} (h : moIs T V q x) (e : jEq T V T' V' q (q + 9)) : moIs T' V' q x := by
  obtain ⟨⟨t0, t1, t2, t3, t4, t5, t6, t7, t8⟩, g2, g3, g4, g5⟩ := h
  have e0 := e q (by omega) (by omega)
  have e1 := e (q + 1) (by omega) (by omega)
  have e2 := e (q + 2) (by omega) (by omega)
  have e3 := e (q + 3) (by omega) (by omega)
  refine ⟨⟨e0.1.trans t0, e1.1.trans t1, e2.1.trans t2, e3.1.trans t3, (e _ (by omega) (by omega)).1.trans t4, (e _ (by omega) (by omega)).1.trans t5, (e _ (by omega) (by omega)).1.trans t6, (e _ (by omega) (by omega)).1.trans t7, (e _ (by omega) (by omega)).1.trans t8⟩, ?_, ?_, ?_, ?_⟩
  · rw [e1.2]; exact g2
  · rw [e2.2, e0.2]; exact g3
  · rw [e0.2]; exact g4
  · rw [e3.2]; exact g5
theorem lw_loop {T : jT} (hB : jB l s0 D) (hN : jN s0) {b N qx : Nat} {xs : Nat → Int32} (hXs : va_X b N xs s0 s0.heap) (hbs : b < s0.heap.size) (hN3 : N ≤ 3072) (hT1 : T (qx + 501) = some (kJ 1)) (hT2 : T (qx + 502) = some (kDb 1)) : ∀ (n j : Nat) (i : Int32) (V : jV) (X : jX) (sz c1 n1 : Nat) (y : aX), j + n = 600 → i.toInt = ((6 * j : Nat) : Int) → cuIs T V qx y → moIs T V (qx + 492) y → xW y → c1 ≤ 600 + 5 * j → n1 ≤ 6000 + 30 * j → J l s0 D kLaw room_1 616825 7245630 (fun o _ _ _ _ => o = .inl (some (.int 1))) 28 [(0, .ref b), (1, .ref qx), (2, .ref (qx + 492)), (3, .ref (qx + 501)), (4, .ref (qx + 502)), (5, .int i)] [] T V X sz c1 n1 := by
  intro n
  induction n using Nat.strongRecOn with
  | ind n ih =>
  intro j i V X sz c1 n1 y hn hi hcu hmo hW hc1 hn1
  have hNt : isI (Int32.ofNat N) (N : Int) := Int32.toInt_ofNat_of_lt (by omega)
  refine j_iload dL_law_28 rfl ?_
  refine j_aload_n dL_law_30 rfl ?_
  refine j_slen dL_law_31 hXs hbs ?_
  refine j_bipush (v := 6) dL_law_32 (by decide) ?_
  refine j_isub dL_law_34 ?_
  refine m_icmp_gt (tgt := 1733) dL_law_35 (by decide) (iC ((6 * j : Nat) : Int) hi) (iS hNt (iC 6 (by decide)) (by omega)) (fun c_35 => ?_) (fun c_35 => ?_)
  · refine j_iconst (v := 1) dL_law_1733 (by decide) ?_
    refine j_iret dL_law_1734 rfl rfl ?_ ?_ rfl
    · first | (show c1 ≤ 616825; omega) | (show n1 ≤ 7245630; omega)
    · first | (show c1 ≤ 616825; omega) | (show n1 ≤ 7245630; omega)
  have next : ∀ (j' : Nat), (j < j' ∧ j' ≤ 512) → ∀ i : Int32, i.toInt = ((6 * (j' - 1) : Nat) : Int) → ∀ (V : jV) (X : jX) (sz c1 n1 : Nat) (y : aX), cuIs T V qx y → moIs T V (qx + 492) y → xW y → c1 ≤ 600 + 5 * j' → n1 ≤ 6000 + 30 * j' → J l s0 D kLaw room_1 616825 7245630 (fun o _ _ _ _ => o = .inl (some (.int 1))) 1727 [(0, .ref b), (1, .ref qx), (2, .ref (qx + 492)), (3, .ref (qx + 501)), (4, .ref (qx + 502)), (5, .int i)] [] T V X sz c1 n1 := by
    intro j' hj' i' hi' V' X' sz' c' n' y' k1 k2 k3 k4 k5
    refine j_iinc (v := 6) (L' := [(0, _), (1, _), (2, _), (3, _), (4, _), (5, _)]) dL_law_1727 rfl (by decide) (by decide) rfl ?_
    refine j_goto (tgt := 28) dL_law_1730 (by decide) ?_
    exact ih (600 - j') (by omega) j' (i' + 6) V' X' sz' c' n' y' (by omega) (Eq.trans (iA (iC _ hi') (iC 6 (by decide)) (by omega)) (by omega)) k1 k2 k3 k4 k5
  refine j_aload_n dL_law_38 rfl ?_
  refine j_iload dL_law_39 rfl ?_
  refine j_sld (k := 6 * j) dL_law_41 hXs hbs hi (by omega) ?_
  refine j_bipush (v := 31) dL_law_42 (by decide) ?_
  refine j_iand dL_law_44 ?_
  have hj6 : 6 * j + 6 ≤ N := by omega
  refine j_tsw_25 (t0 := 160) (t1 := 228) (t2 := 296) (t3 := 376) (t4 := 456) (t5 := 536) (t6 := 640) (t7 := 696) (t8 := 764) (t9 := 820) (t10 := 833) (t11 := 846) (t12 := 902) (t13 := 946) (t14 := 1026) (t15 := 1094) (t16 := 1162) (t17 := 1230) (t18 := 1286) (t19 := 1366) (t20 := 1434) (t21 := 1502) (t22 := 1558) (t23 := 1636) (t24 := 1713) (td := 1727) dL_law_45 (by decide) (by decide) (fun _ => ?_) (fun _ => ?_) (fun _ => ?_) (fun _ => ?_) (fun _ => ?_) (fun _ => ?_) (fun _ => ?_) (fun _ => ?_) (fun _ => ?_) (fun _ => ?_) (fun _ => ?_) (fun _ => ?_) (fun _ => ?_) (fun _ => ?_) (fun _ => ?_) (fun _ => ?_) (fun _ => ?_) (fun _ => ?_) (fun _ => ?_) (fun _ => ?_) (fun _ => ?_) (fun _ => ?_) (fun _ => ?_) (fun _ => ?_) (fun _ => ?_) (fun _ => ?_)
  · exact lc_0 hB hN hXs hbs hN3 hT1 hT2 hj6 hi hcu hmo hW hc1 hn1 next
  · exact lc_1 hB hN hXs hbs hN3 hT1 hT2 hj6 hi hcu hmo hW hc1 hn1 next
  · exact lc_2 hB hN hXs hbs hN3 hT1 hT2 hj6 hi hcu hmo hW hc1 hn1 next
  · exact lc_3 hB hN hXs hbs hN3 hT1 hT2 hj6 hi hcu hmo hW hc1 hn1 next
  · exact lc_4 hB hN hXs hbs hN3 hT1 hT2 hj6 hi hcu hmo hW hc1 hn1 next
  · exact lc_5 hB hN hXs hbs hN3 hT1 hT2 hj6 hi hcu hmo hW hc1 hn1 next
  · exact lc_6 hB hN hXs hbs hN3 hT1 hT2 hj6 hi hcu hmo hW hc1 hn1 next
  · exact lc_7 hB hN hXs hbs hN3 hT1 hT2 hj6 hi hcu hmo hW hc1 hn1 next
  · exact lc_8 hB hN hXs hbs hN3 hT1 hT2 hj6 hi hcu hmo hW hc1 hn1 next
  · exact lc_9 hB hN hXs hbs hN3 hT1 hT2 hj6 hi hcu hmo hW hc1 hn1 next
  · exact lc_10 hB hN hXs hbs hN3 hT1 hT2 hj6 hi hcu hmo hW hc1 hn1 next
  · exact lc_11 hB hN hXs hbs hN3 hT1 hT2 hj6 hi hcu hmo hW hc1 hn1 next
  · exact lc_12 hB hN hXs hbs hN3 hT1 hT2 hj6 hi hcu hmo hW hc1 hn1 next
  · exact lc_13 hB hN hXs hbs hN3 hT1 hT2 hj6 hi hcu hmo hW hc1 hn1 next
  · exact lc_14 hB hN hXs hbs hN3 hT1 hT2 hj6 hi hcu hmo hW hc1 hn1 next
  · exact lc_15 hB hN hXs hbs hN3 hT1 hT2 hj6 hi hcu hmo hW hc1 hn1 next
  · exact lc_16 hB hN hXs hbs hN3 hT1 hT2 hj6 hi hcu hmo hW hc1 hn1 next
  · exact lc_17 hB hN hXs hbs hN3 hT1 hT2 hj6 hi hcu hmo hW hc1 hn1 next
  · exact lc_18 hB hN hXs hbs hN3 hT1 hT2 hj6 hi hcu hmo hW hc1 hn1 next
  · exact lc_19 hB hN hXs hbs hN3 hT1 hT2 hj6 hi hcu hmo hW hc1 hn1 next
  · exact lc_20 hB hN hXs hbs hN3 hT1 hT2 hj6 hi hcu hmo hW hc1 hn1 next
  · exact lc_21 hB hN hXs hbs hN3 hT1 hT2 hj6 hi hcu hmo hW hc1 hn1 next
  · exact lc_22 hB hN hXs hbs hN3 hT1 hT2 hj6 hi hcu hmo hW hc1 hn1 next
  · exact lc_23 hB hN hXs hbs hN3 hT1 hT2 hj6 hi hcu hmo hW hc1 hn1 next
  · exact lc_24 hB hN hXs hbs hN3 hT1 hT2 hj6 hi hcu hmo hW hc1 hn1 next
  · exact next (j + 1) (by omega) i hi V X sz c1 n1 y hcu hmo hW (by omega) (by omega)
theorem lw_J (hB : jB l s0 D) (hN : jN s0) {b N : Nat} {xs : Nat → Int32} (hXs : va_X b N xs s0 s0.heap) (hbs : b < s0.heap.size) (hN3 : N ≤ 3072) {T : jT} {V : jV} {X : jX} : J l s0 D kLaw room_1 616825 7245630 (fun o _ _ _ _ => o = .inl (some (.int 1))) 0 [(0, .ref b)] [] T V X s0.heap.size 0 0 := by
  generalize hq : s0.heap.size = q
  refine j_new dL_law_0 hB nw_L_8 (by decide) (by decide) ?_
  refine j_dup dL_law_3 rfl ?_
  refine j_cI dL_law_4 hB mo_X7_init ml_L_88 (sp_X7_init hB jup_eq jz_row) rfl rfl ⟨rfl, rfl, by decide, by decide⟩ (Nat.le_of_ble_eq_true rfl) ⟨by decide, by decide⟩ (fun T1 V1 X1 sz1 h1 => ?_)
  obtain ⟨rfl, g1, w1⟩ := h1
  refine j_astore_n (L' := [(0, _), (1, _)]) dL_law_7 (by decide) rfl ?_
  refine j_new dL_law_8 hB nw_L_89 (by decide) (by decide) ?_
  refine j_dup dL_law_11 rfl ?_
  refine j_cI dL_law_12 hB mo_X8_init ml_L_91 (sp_X8_init hB jup_eq jz_row) rfl rfl ⟨rfl, rfl, by decide, by decide⟩ (Nat.le_of_ble_eq_true rfl) ⟨by decide, by decide⟩ (fun T2 V2 X2 sz2 h2 => ?_)
  obtain ⟨z2, g2, w2⟩ := h2
  have z2 : sz2 = q + 501 := by omega
  subst z2
  have e1 : ∀ a, a < q + 492 → T2 a = T1 a ∧ V2 a = V1 a := fun a ha => by
    obtain ⟨y1, y2, -, -⟩ := w2 a ha
    exact ⟨y1.trans (jup_ne (by omega)), y2.trans (jz_ne (by omega))⟩
  have k1 : cuOK T2 V2 q cu0 := g1.cg (fun a ha hb => e1 a hb)
  refine j_astore_n (L' := [(0, _), (1, _), (2, _)]) dL_law_15 (by decide) rfl ?_
  refine j_iconst (v := 1) dL_law_16 (by decide) ?_
  refine j_newl (N := 1) dL_law_17 hB ac_long (by decide) (by decide) (by decide) (by decide) ?_
  refine j_astore_n (L' := [(0, _), (1, _), (2, _), (3, _)]) dL_law_19 (by decide) rfl ?_
  refine j_iconst (v := 1) dL_law_20 (by decide) ?_
  refine j_newd (N := 1) dL_law_21 hB ac_double (by decide) (by decide) (by decide) (by decide) ?_
  refine j_astore (L' := [(0, _), (1, _), (2, _), (3, _), (4, _)]) dL_law_23 (by decide) rfl ?_
  refine j_iconst (v := 0) dL_law_25 (by decide) ?_
  refine j_istore (L' := [(0, _), (1, _), (2, _), (3, _), (4, _), (5, _)]) dL_law_26 (by decide) rfl ?_
  refine j_abT (fun T3 hT3 => ?_)
  have e3 : ∀ a, a < q + 501 → T3 a = T2 a := fun a ha => by rw [hT3, jup_ne (by omega), jup_ne (by omega)]
  exact lw_loop hB hN hXs hbs hN3 (qx := q) (by rw [hT3, jup_ne (by omega)]; exact jup_eq) (by rw [hT3]; exact jup_eq) 600 0 0 V2 _ _ _ _ x0 rfl rfl (cuIs.of0 (k1.cg (fun a ha hb => ⟨e3 a (by omega), rfl⟩))) (g2.cg (fun a ha hb => ⟨e3 a (by omega), rfl⟩)) xW_x0 (by decide) (by decide)
end JLL
