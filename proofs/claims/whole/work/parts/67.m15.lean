/-! CueSheetsModel: a part of an entry, a character, a text -/
theorem mRd.go {V V1 : jV} {q m k : Nat} {t : tR} {A B C E : List Int32} {pl : Int32} (g : mRd V q t m k) (hp0 : ¬ pl = 0) (e1 : A.length = m + 1) (hV : ∀ i, V1 q i = V q i) (z8 : ∀ i, i < 4 * m → V1 (q + 8) i = V (q + 8) i) (hA : ∀ j : Nat, j < m → atZ A j = atZ t.1 j) (hB : ∀ j : Nat, j < m → atZ B j = atZ t.2.1 j) (hC : ∀ j : Nat, j < m → atZ C j = atZ t.2.2.1 j) (hE : ∀ j : Nat, j < m → atZ E j = atZ t.2.2.2.1 j) (h0 : V1 (q + 8) (4 * m + 0) = atZ A m) (h1 : V1 (q + 8) (4 * m + 1) = atZ B m) (h2 : V1 (q + 8) (4 * m + 2) = atZ C m) (h3 : V1 (q + 8) (4 * m + 3) = atZ E m) (p5 : pl = 5 → (atZ E m).toInt = 0) : mRd (jset (jset V1 q 11 pl) q 12 0) q (A, B, C, E, pl) m (k + 1) := by
  have r8 : jset (jset V1 q 11 pl) q 12 0 (q + 8) = V1 (q + 8) := by rw [jset_row (by omega), jset_row (by omega)]
  have d12 : (jset (jset V1 q 11 pl) q 12 0 q 12).toInt = 0 := by rw [jset_eq]; rfl
  refine mRd.mk g e1 (by rw [jset_ne (Or.inr (by omega)), jset_ne (Or.inr (by omega)), hV]) (by rw [jset_ne (Or.inr (by omega)), jset_eq]) (fun i hi => by rw [r8]; exact z8 i hi) hA hB hC hE (by rw [r8]; exact h0) (by rw [r8]; exact h1) (by rw [r8]; exact h2) (by rw [r8]; exact h3) (by rw [d12]; omega) (by rw [d12]; omega) (fun z => absurd z hp0) (fun z => ?_)
  rw [d12, p5 z]
theorem mRd.new {V V1 : jV} {q m k : Nat} {t : tR} (g : mRd V q t m k) (l2 : t.2.1.length = m + 1) (l3 : t.2.2.1.length = m + 1) (l4 : t.2.2.2.1.length = m + 1) (f13 : (V1 q 13).toInt = ((m + 1 : Nat) : Int)) (f11 : V1 q 11 = 0) (f12 : V1 q 12 = 0) (z8 : ∀ i, i < 4 * (m + 1) → V1 (q + 8) i = V (q + 8) i) (h0 : V1 (q + 8) (4 * (m + 1) + 0) = 0) (h1 : V1 (q + 8) (4 * (m + 1) + 1) = -2000001) (h2 : V1 (q + 8) (4 * (m + 1) + 2) = 0) (h3 : V1 (q + 8) (4 * (m + 1) + 3) = 0) : mRd V1 q (rNew t) (m + 1) (k + 1) := by
  obtain ⟨g1, g2, g3, g4, g5, g6, g7, g8⟩ := g
  have ap : ∀ (L : List Int32) (v : Int32), L.length = m + 1 → atZ (L ++ [v]) ((m + 1 : Nat) : Int) = v ∧ ∀ j : Nat, j ≤ m → atZ (L ++ [v]) j = atZ L j := fun L v hl => ⟨by rw [atZ_app, if_neg (by omega), hl, Nat.sub_self]; rfl, fun j hj => by rw [atZ_app, if_pos (by omega)]⟩
  have a1 := ap t.1 0 g1
  have a2 := ap t.2.1 (-2000001) l2
  have a3 := ap t.2.2.1 0 l3
  have a4 := ap t.2.2.2.1 0 l4
  refine ⟨?_, f13, f11, fun j hj => ?_, by rw [f12]; decide, by rw [f12, ti_0]; omega, fun _ => ?_, fun z => absurd z (show ¬ (0 : Int32) = 5 by decide)⟩
  · show (t.1 ++ [0]).length = _
    rw [List.length_append, g1]; rfl
  · show _ = atZ (t.1 ++ [0]) j ∧ _ = atZ (t.2.1 ++ [-2000001]) j ∧ _ = atZ (t.2.2.1 ++ [0]) j ∧ _ = atZ (t.2.2.2.1 ++ [0]) j
    rcases Nat.lt_or_ge m j with z | z
    · have : j = m + 1 := by omega
      subst this
      rw [a1.1, a2.1, a3.1, a4.1]
      exact ⟨h0, h1, h2, h3⟩
    · rw [a1.2 j z, a2.2 j z, a3.2 j z, a4.2 j z, z8 _ (by omega), z8 _ (by omega), z8 _ (by omega), z8 _ (by omega)]
      exact g4 j z
  · show _ ↔ 0 < (atZ (t.1 ++ [0]) ((m + 1 : Nat) : Int)).toInt
    rw [a1.1, f12]
theorem mRd.r0 {V1 : jV} {q : Nat} (f13 : (V1 q 13).toInt = 0) (f11 : V1 q 11 = 0) (f12 : V1 q 12 = 0) (h0 : V1 (q + 8) (4 * 0 + 0) = 0) (h1 : V1 (q + 8) (4 * 0 + 1) = -2000001) (h2 : V1 (q + 8) (4 * 0 + 2) = 0) (h3 : V1 (q + 8) (4 * 0 + 3) = 0) : mRd V1 q r0 0 0 := by
  refine ⟨rfl, f13, f11, fun j hj => ?_, by rw [f12]; decide, by rw [f12]; decide, fun _ => ?_, fun z => absurd z (show ¬ (0 : Int32) = 5 by decide)⟩
  · have : j = 0 := by omega
    subst this
    exact ⟨h0, h1, h2, h3⟩
  · show _ ↔ 0 < (0 : Int32).toInt
    rw [f12]
section JM15
variable {l : Launch} {s0 : State} {D : jD} {T : jT} {V : jV} {X : jX} {sz : Nat}
set_option maxRecDepth 100000 in
set_option maxHeartbeats 4000000 in
theorem sp_X8_takesPart (hB : jB l s0 D) {q : Nat} (h0 : moT T q) {t : tR} {n k : Nat} {c : Int32} (h : mRd V q t n k) (hv : rInv t k) (k60 : k < 60) (c0 : 33 ≤ c.toInt) (c1 : c.toInt ≤ 126) (hc44 : ¬ (c.toInt = 44 ∧ rComp t))  : Sp l s0 D kX8_takesPart (jR 2 0 0) 0 0 [.ref q, .int c] T V X sz (tkQ T V X sz q t c k) := by
  refine Sp.of pn_X8_takesPart rfl (Nat.le_of_ble_eq_true rfl) ?_
  have hv' := hv
  obtain ⟨m, l1, l2, l3, l4, -, hcu, z1, -⟩ := hv'
  have hmn : m = n := by have := h.1; omega
  subst hmn
  have h' := h
  obtain ⟨g1, g2, g3, g4, g5, g6, g7, g8⟩ := h
  have hN : rN t = (m : Int) := by unfold rN; omega
  have hcl := hcu.L
  have hpl : (V q 11).toInt = t.2.2.2.2.toInt := by rw [g3]
  have k48 : (48 : Int32).toInt = 48 := by decide
  have cs : (c - 48).toInt = c.toInt - 48 := by rw [ti_sub (by omega) (by omega), k48]
  have g4m := g4 m (Nat.le_refl m)
  have hplr : 0 ≤ t.2.2.2.2.toInt ∧ t.2.2.2.2.toInt ≤ 5 := by
    rcases hcu with ⟨z, -⟩ | ⟨z, -⟩ | ⟨z | z, -⟩ | ⟨z, -⟩ | ⟨z, -⟩ <;> rw [z] <;> decide
  refine j_aload_n dX8_takesPart_0 rfl ?_
  refine j_geti dX8_takesPart_1 hB fl_X8_122 (by first | exact h0.1 | exact h0.2.1 | exact h0.2.2.1 | exact h0.2.2.2.1 | exact h0.2.2.2.2.1 | exact h0.2.2.2.2.2.1 | exact h0.2.2.2.2.2.2.1 | exact h0.2.2.2.2.2.2.2.1 | exact h0.2.2.2.2.2.2.2.2) (by rfl) ?_
  refine j_tsw_5 (td := 182) (t0 := 40) (t1 := 46) (t2 := 77) (t3 := 94) (t4 := 140) dX8_takesPart_4 (by decide) (by decide) (fun s_4 => ?_) (fun s_4 => ?_) (fun s_4 => ?_) (fun s_4 => ?_) (fun s_4 => ?_) (fun s_4 => ?_)
  · have hpk : t.2.2.2.2 = 0 := ti_inj (by rw [← hpl, s_4]; rfl)
    refine j_aload_n dX8_takesPart_40 rfl ?_
    refine j_iload_n dX8_takesPart_41 rfl ?_
    refine j_cVi dX8_takesPart_42 hB mo_X8_takesLength ml_X8_135 (sp_X8_takesLength hB h0 h' hv k60 c0 c1 hc44 hpk) (by first | exact h0.1 | exact h0.2.1 | exact h0.2.2.1 | exact h0.2.2.2.1 | exact h0.2.2.2.2.1 | exact h0.2.2.2.2.2.1 | exact h0.2.2.2.2.2.2.1 | exact h0.2.2.2.2.2.2.2.1 | exact h0.2.2.2.2.2.2.2.2) rfl rfl rfl rfl ⟨rfl, rfl, by decide, by decide⟩ (Nat.le_of_ble_eq_true rfl) ⟨by decide, by decide⟩ (fun r_42 V_42 h_42 => ?_)
    obtain ⟨hk9, hb9, hr9⟩ := h_42
    have h_42 : tkQ T V X sz q t c k (.inl (some (.int r_42))) T V_42 X sz := ⟨_, rfl, rfl, rfl, rfl, hk9, hb9, hr9⟩
    refine j_iret dX8_takesPart_45 rfl (by first | decide | exact m_nrB (by assumption)) (by decide) (by decide) ?_
    exact h_42
  · have hpk : t.2.2.2.2 = 1 := ti_inj (by rw [← hpl, s_4]; rfl)
    refine j_aload_n dX8_takesPart_46 rfl ?_
    refine j_getr dX8_takesPart_47 hB fl_X8_31 (by first | exact h0.1 | exact h0.2.1 | exact h0.2.2.1 | exact h0.2.2.2.1 | exact h0.2.2.2.2.1 | exact h0.2.2.2.2.2.1 | exact h0.2.2.2.2.2.2.1 | exact h0.2.2.2.2.2.2.2.1 | exact h0.2.2.2.2.2.2.2.2) (by rfl) ?_
    refine j_iconst (v := 4) dX8_takesPart_50 (by decide) ?_
    refine j_aload_n dX8_takesPart_51 rfl ?_
    refine j_geti dX8_takesPart_52 hB fl_X8_128 (by first | exact h0.1 | exact h0.2.1 | exact h0.2.2.1 | exact h0.2.2.2.1 | exact h0.2.2.2.2.1 | exact h0.2.2.2.2.2.1 | exact h0.2.2.2.2.2.2.1 | exact h0.2.2.2.2.2.2.2.1 | exact h0.2.2.2.2.2.2.2.2) (by rfl) ?_
    refine j_imul dX8_takesPart_55 ?_
    refine j_iconst (v := 1) dX8_takesPart_56 (by decide) ?_
    refine j_iadd dX8_takesPart_57 ?_
    refine j_iload_n dX8_takesPart_58 rfl ?_
    refine j_bipush (v := 48) dX8_takesPart_59 (by decide) ?_
    refine j_isub dX8_takesPart_61 ?_
    refine m_iast (k := 4 * m + 1) dX8_takesPart_62 hB (by first | exact h0.1 | exact h0.2.1 | exact h0.2.2.1 | exact h0.2.2.2.1 | exact h0.2.2.2.2.1 | exact h0.2.2.2.2.2.1 | exact h0.2.2.2.2.2.2.1 | exact h0.2.2.2.2.2.2.2.1 | exact h0.2.2.2.2.2.2.2.2) (ixk (iA (iM (iC 4 (by decide)) (g2) (by omega)) (iC 1 (by decide)) (by omega)) (by omega)) (by omega) ?_
    generalize hvv : c - 48 = v
    generalize hV1 : jset V (q + 8) (4 * m + 1) v = V1
    have hq1 : ∀ i, V1 q i = V q i := fun i => by rw [← hV1, jset_row (by omega)]
    have z8 : ∀ i, ¬ i = 4 * m + 1 → V1 (q + 8) i = V (q + 8) i := fun i hi => by rw [← hV1, jset_ne (Or.inr hi)]
    refine j_aload_n dX8_takesPart_63 rfl ?_
    refine j_iload_n dX8_takesPart_64 rfl ?_
    refine j_bipush (v := 48) dX8_takesPart_65 (by decide) ?_
    refine j_bipush (v := 55) dX8_takesPart_67 (by decide) ?_
    refine j_cSi dX8_takesPart_69 hB mo_X8_within ml_X8_38 (sp_X8_within hB  (iV) (iC 48 (by decide)) (iC 55 (by decide))) rfl rfl ⟨rfl, rfl, by decide, by decide⟩ (Nat.le_of_ble_eq_true rfl) ⟨by decide, by decide⟩ (fun r_69 V_69 h_69 => ?_)
    obtain ⟨rfl, b_69⟩ := h_69
    replace b_69 : bQ _ (48 ≤ c.toInt ∧ c.toInt ≤ 55) := b_69.cg (by omega)
    refine j_iconst (v := 2) dX8_takesPart_72 (by decide) ?_
    refine j_cVi dX8_takesPart_73 hB mo_X8_goes ml_X8_131 (sp_X8_goes hB h0 b_69) (by first | exact h0.1 | exact h0.2.1 | exact h0.2.2.1 | exact h0.2.2.2.1 | exact h0.2.2.2.2.1 | exact h0.2.2.2.2.2.1 | exact h0.2.2.2.2.2.2.1 | exact h0.2.2.2.2.2.2.2.1 | exact h0.2.2.2.2.2.2.2.2) rfl rfl rfl rfl ⟨rfl, rfl, by decide, by decide⟩ (Nat.le_of_ble_eq_true rfl) ⟨by decide, by decide⟩ (fun r_73 V_73 h_73 => ?_)
    obtain ⟨rfl, hgP, hgN⟩ := h_73
    refine j_iret dX8_takesPart_76 rfl (by first | decide | exact m_nrB (by assumption)) (by decide) (by decide) ?_
    rcases b_69 with ⟨z9, hd⟩ | ⟨z9, hd⟩
    · subst z9
      obtain ⟨w1, w2⟩ := setm (L := t.2.1) (m := m) (v := v) (by omega)
      have hr : rRd t c (t.1, setZ t.2.1 m v, t.2.2.1, t.2.2.2.1, 2) := by
        refine Or.inr (Or.inr (Or.inr (Or.inr ⟨by omega, by omega, Or.inr (Or.inl ⟨hpk, by rw [cs]; omega, ?_⟩)⟩)))
        rw [hN, hvv]
      rw [hgP hd]
      refine tkQ.yes (n := m) (by rw [← hV1]; exact ((mKp.rf.s8).sf (by omega)).sf (by omega)) hr (mRd.go h' (by decide) g1 hq1 (fun i hi => z8 i (by omega)) (fun _ _ => rfl) w2 (fun _ _ => rfl) (fun _ _ => rfl) ?_ ?_ ?_ ?_ (fun z => absurd z (by decide)))
      · rw [z8 _ (by omega)]; exact g4m.1
      · rw [w1, ← hV1, jset_eq]
      · rw [z8 _ (by omega)]; exact g4m.2.2.1
      · rw [z8 _ (by omega)]; exact g4m.2.2.2
    · subst z9
      exact tkQ.no (by rw [hgN hd, ← hV1]; exact mKp.rf.s8) (rno1 hpk c0 c1 hc44 (by omega))
  · have hpk : t.2.2.2.2 = 2 := ti_inj (by rw [← hpl, s_4]; rfl)
    refine j_aload_n dX8_takesPart_77 rfl ?_
    refine j_iload_n dX8_takesPart_78 rfl ?_
    refine j_bipush (v := 120) dX8_takesPart_79 (by decide) ?_
    refine m_icmp_ne (tgt := 88) dX8_takesPart_81 (by decide) (iV) (iC 120 (by decide)) (fun c_81 => ?_) (fun c_81 => ?_)
    · refine j_iconst (v := 0) dX8_takesPart_88 (by decide) ?_
      refine j_iconst (v := 3) dX8_takesPart_89 (by decide) ?_
      refine j_cVi dX8_takesPart_90 hB mo_X8_goes ml_X8_131 (sp_X8_goes hB h0 (P := c.toInt = 120) (Or.inr ⟨rfl, c_81⟩)) (by first | exact h0.1 | exact h0.2.1 | exact h0.2.2.1 | exact h0.2.2.2.1 | exact h0.2.2.2.2.1 | exact h0.2.2.2.2.2.1 | exact h0.2.2.2.2.2.2.1 | exact h0.2.2.2.2.2.2.2.1 | exact h0.2.2.2.2.2.2.2.2) rfl rfl rfl rfl ⟨rfl, rfl, by decide, by decide⟩ (Nat.le_of_ble_eq_true rfl) ⟨by decide, by decide⟩ (fun r_90 V_90 h_90 => ?_)
      obtain ⟨rfl, hgP, hgN⟩ := h_90
      refine j_iret dX8_takesPart_93 rfl (by first | decide | exact m_nrB (by assumption)) (by decide) (by decide) ?_
      exact tkQ.no (by rw [hgN c_81]; exact mKp.rf) (rno2 hpk c0 c1 hc44 c_81)
    · refine j_iconst (v := 1) dX8_takesPart_84 (by decide) ?_
      refine j_goto (tgt := 89) dX8_takesPart_85 (by decide) ?_
      refine j_iconst (v := 3) dX8_takesPart_89 (by decide) ?_
      refine j_cVi dX8_takesPart_90 hB mo_X8_goes ml_X8_131 (sp_X8_goes hB h0 (P := c.toInt = 120) (Or.inl ⟨rfl, c_81⟩)) (by first | exact h0.1 | exact h0.2.1 | exact h0.2.2.1 | exact h0.2.2.2.1 | exact h0.2.2.2.2.1 | exact h0.2.2.2.2.2.1 | exact h0.2.2.2.2.2.2.1 | exact h0.2.2.2.2.2.2.2.1 | exact h0.2.2.2.2.2.2.2.2) rfl rfl rfl rfl ⟨rfl, rfl, by decide, by decide⟩ (Nat.le_of_ble_eq_true rfl) ⟨by decide, by decide⟩ (fun r_90 V_90 h_90 => ?_)
      obtain ⟨rfl, hgP, hgN⟩ := h_90
      refine j_iret dX8_takesPart_93 rfl (by first | decide | exact m_nrB (by assumption)) (by decide) (by decide) ?_
      rw [hgP c_81]
      exact tkQ.yes (n := m) ((mKp.rf.sf (by omega)).sf (by omega)) (show rRd t c (t.1, t.2.1, t.2.2.1, t.2.2.2.1, 3) from Or.inr (Or.inr (Or.inl ⟨c_81, hpk, rfl⟩))) (mRd.go h' (by decide) g1 (fun _ => rfl) (fun _ _ => rfl) (fun _ _ => rfl) (fun _ _ => rfl) (fun _ _ => rfl) (fun _ _ => rfl) g4m.1 g4m.2.1 g4m.2.2.1 g4m.2.2.2 (fun z => absurd z (by decide)))
  · have hpk : t.2.2.2.2 = 3 := ti_inj (by rw [← hpl, s_4]; rfl)
    refine j_aload_n dX8_takesPart_94 rfl ?_
    refine j_getr dX8_takesPart_95 hB fl_X8_31 (by first | exact h0.1 | exact h0.2.1 | exact h0.2.2.1 | exact h0.2.2.2.1 | exact h0.2.2.2.2.1 | exact h0.2.2.2.2.2.1 | exact h0.2.2.2.2.2.2.1 | exact h0.2.2.2.2.2.2.2.1 | exact h0.2.2.2.2.2.2.2.2) (by rfl) ?_
    refine j_iconst (v := 4) dX8_takesPart_98 (by decide) ?_
    refine j_aload_n dX8_takesPart_99 rfl ?_
    refine j_geti dX8_takesPart_100 hB fl_X8_128 (by first | exact h0.1 | exact h0.2.1 | exact h0.2.2.1 | exact h0.2.2.2.1 | exact h0.2.2.2.2.1 | exact h0.2.2.2.2.2.1 | exact h0.2.2.2.2.2.2.1 | exact h0.2.2.2.2.2.2.2.1 | exact h0.2.2.2.2.2.2.2.2) (by rfl) ?_
    refine j_imul dX8_takesPart_103 ?_
    refine j_iconst (v := 2) dX8_takesPart_104 (by decide) ?_
    refine j_iadd dX8_takesPart_105 ?_
    refine j_iload_n dX8_takesPart_106 rfl ?_
    refine j_bipush (v := 48) dX8_takesPart_107 (by decide) ?_
    refine j_isub dX8_takesPart_109 ?_
    refine m_iast (k := 4 * m + 2) dX8_takesPart_110 hB (by first | exact h0.1 | exact h0.2.1 | exact h0.2.2.1 | exact h0.2.2.2.1 | exact h0.2.2.2.2.1 | exact h0.2.2.2.2.2.1 | exact h0.2.2.2.2.2.2.1 | exact h0.2.2.2.2.2.2.2.1 | exact h0.2.2.2.2.2.2.2.2) (ixk (iA (iM (iC 4 (by decide)) (g2) (by omega)) (iC 2 (by decide)) (by omega)) (by omega)) (by omega) ?_
    generalize hvv : c - 48 = v
    have g2b : isI (jset V (q + 8) (4 * m + 2) v q 13) m := by rw [jset_row (by omega)]; exact g2
    refine j_aload_n dX8_takesPart_111 rfl ?_
    refine j_getr dX8_takesPart_112 hB fl_X8_31 (by first | exact h0.1 | exact h0.2.1 | exact h0.2.2.1 | exact h0.2.2.2.1 | exact h0.2.2.2.2.1 | exact h0.2.2.2.2.2.1 | exact h0.2.2.2.2.2.2.1 | exact h0.2.2.2.2.2.2.2.1 | exact h0.2.2.2.2.2.2.2.2) (by rfl) ?_
    refine j_iconst (v := 4) dX8_takesPart_115 (by decide) ?_
    refine j_aload_n dX8_takesPart_116 rfl ?_
    refine j_geti dX8_takesPart_117 hB fl_X8_128 (by first | exact h0.1 | exact h0.2.1 | exact h0.2.2.1 | exact h0.2.2.2.1 | exact h0.2.2.2.2.1 | exact h0.2.2.2.2.2.1 | exact h0.2.2.2.2.2.2.1 | exact h0.2.2.2.2.2.2.2.1 | exact h0.2.2.2.2.2.2.2.2) (by rfl) ?_
    refine j_imul dX8_takesPart_120 ?_
    refine j_iconst (v := 3) dX8_takesPart_121 (by decide) ?_
    refine j_iadd dX8_takesPart_122 ?_
    refine j_bipush (v := 100) dX8_takesPart_123 (by decide) ?_
    refine m_iast (k := 4 * m + 3) dX8_takesPart_125 hB (by first | exact h0.1 | exact h0.2.1 | exact h0.2.2.1 | exact h0.2.2.2.1 | exact h0.2.2.2.2.1 | exact h0.2.2.2.2.2.1 | exact h0.2.2.2.2.2.2.1 | exact h0.2.2.2.2.2.2.2.1 | exact h0.2.2.2.2.2.2.2.2) (ixk (iA (iM (iC 4 (by decide)) (g2b) (by omega)) (iC 3 (by decide)) (by omega)) (by omega)) (by omega) ?_
    generalize hV1 : jset (jset V (q + 8) (4 * m + 2) v) (q + 8) (4 * m + 3) 100 = V1
    have hq1 : ∀ i, V1 q i = V q i := fun i => by rw [← hV1, jset_row (by omega), jset_row (by omega)]
    have z8 : ∀ i, ¬ i = 4 * m + 2 → ¬ i = 4 * m + 3 → V1 (q + 8) i = V (q + 8) i := fun i h8 h9 => by rw [← hV1, jset_ne (Or.inr h9), jset_ne (Or.inr h8)]
    refine j_aload_n dX8_takesPart_126 rfl ?_
    refine j_iload_n dX8_takesPart_127 rfl ?_
    refine j_bipush (v := 49) dX8_takesPart_128 (by decide) ?_
    refine j_bipush (v := 57) dX8_takesPart_130 (by decide) ?_
    refine j_cSi dX8_takesPart_132 hB mo_X8_within ml_X8_38 (sp_X8_within hB  (iV) (iC 49 (by decide)) (iC 57 (by decide))) rfl rfl ⟨rfl, rfl, by decide, by decide⟩ (Nat.le_of_ble_eq_true rfl) ⟨by decide, by decide⟩ (fun r_132 V_132 h_132 => ?_)
    obtain ⟨rfl, b_132⟩ := h_132
    replace b_132 : bQ _ (49 ≤ c.toInt ∧ c.toInt ≤ 57) := b_132.cg (by omega)
    refine j_iconst (v := 4) dX8_takesPart_135 (by decide) ?_
    refine j_cVi dX8_takesPart_136 hB mo_X8_goes ml_X8_131 (sp_X8_goes hB h0 b_132) (by first | exact h0.1 | exact h0.2.1 | exact h0.2.2.1 | exact h0.2.2.2.1 | exact h0.2.2.2.2.1 | exact h0.2.2.2.2.2.1 | exact h0.2.2.2.2.2.2.1 | exact h0.2.2.2.2.2.2.2.1 | exact h0.2.2.2.2.2.2.2.2) rfl rfl rfl rfl ⟨rfl, rfl, by decide, by decide⟩ (Nat.le_of_ble_eq_true rfl) ⟨by decide, by decide⟩ (fun r_136 V_136 h_136 => ?_)
    obtain ⟨rfl, hgP, hgN⟩ := h_136
    refine j_iret dX8_takesPart_139 rfl (by first | decide | exact m_nrB (by assumption)) (by decide) (by decide) ?_
    rcases b_132 with ⟨z9, hd⟩ | ⟨z9, hd⟩
    · subst z9
      obtain ⟨w1, w2⟩ := setm (L := t.2.2.1) (m := m) (v := v) (by omega)
      obtain ⟨w3, w4⟩ := setm (L := t.2.2.2.1) (m := m) (v := 100) (by omega)
      have hr : rRd t c (t.1, t.2.1, setZ t.2.2.1 m v, setZ t.2.2.2.1 m 100, 4) := by
        refine Or.inr (Or.inr (Or.inr (Or.inr ⟨by omega, by omega, Or.inr (Or.inr (Or.inl ⟨hpk, by rw [cs]; omega, ?_⟩))⟩)))
        rw [hN, hvv]
      rw [hgP hd]
      refine tkQ.yes (n := m) (by rw [← hV1]; exact (((mKp.rf.s8).s8).sf (by omega)).sf (by omega)) hr (mRd.go h' (by decide) g1 hq1 (fun i hi => z8 i (by omega) (by omega)) (fun _ _ => rfl) (fun _ _ => rfl) w2 w4 ?_ ?_ ?_ ?_ (fun z => absurd z (by decide)))
      · rw [z8 _ (by omega) (by omega)]; exact g4m.1
      · rw [z8 _ (by omega) (by omega)]; exact g4m.2.1
      · rw [w1, ← hV1, jset_ne (Or.inr (by omega)), jset_eq]
      · rw [w3, ← hV1, jset_eq]
    · subst z9
      exact tkQ.no (by rw [hgN hd, ← hV1]; exact (mKp.rf.s8).s8) (rno3 hpk c0 c1 hc44 (by omega))
  · have hpk : t.2.2.2.2 = 4 := ti_inj (by rw [← hpl, s_4]; rfl)
    refine j_aload_n dX8_takesPart_140 rfl ?_
    refine j_getr dX8_takesPart_141 hB fl_X8_31 (by first | exact h0.1 | exact h0.2.1 | exact h0.2.2.1 | exact h0.2.2.2.1 | exact h0.2.2.2.2.1 | exact h0.2.2.2.2.2.1 | exact h0.2.2.2.2.2.2.1 | exact h0.2.2.2.2.2.2.2.1 | exact h0.2.2.2.2.2.2.2.2) (by rfl) ?_
    refine j_iconst (v := 4) dX8_takesPart_144 (by decide) ?_
    refine j_aload_n dX8_takesPart_145 rfl ?_
    refine j_geti dX8_takesPart_146 hB fl_X8_128 (by first | exact h0.1 | exact h0.2.1 | exact h0.2.2.1 | exact h0.2.2.2.1 | exact h0.2.2.2.2.1 | exact h0.2.2.2.2.2.1 | exact h0.2.2.2.2.2.2.1 | exact h0.2.2.2.2.2.2.2.1 | exact h0.2.2.2.2.2.2.2.2) (by rfl) ?_
    refine j_imul dX8_takesPart_149 ?_
    refine j_iconst (v := 3) dX8_takesPart_150 (by decide) ?_
    refine j_iadd dX8_takesPart_151 ?_
    refine j_iload_n dX8_takesPart_152 rfl ?_
    refine j_bipush (v := 64) dX8_takesPart_153 (by decide) ?_
    refine m_icmp_ne (tgt := 162) dX8_takesPart_155 (by decide) (iV) (iC 64 (by decide)) (fun c_155 => ?_) (fun c_155 => ?_)
    · refine j_bipush (v := 100) dX8_takesPart_162 (by decide) ?_
      refine m_iast (k := 4 * m + 3) dX8_takesPart_164 hB (by first | exact h0.1 | exact h0.2.1 | exact h0.2.2.1 | exact h0.2.2.2.1 | exact h0.2.2.2.2.1 | exact h0.2.2.2.2.2.1 | exact h0.2.2.2.2.2.2.1 | exact h0.2.2.2.2.2.2.2.1 | exact h0.2.2.2.2.2.2.2.2) (ixk (iA (iM (iC 4 (by decide)) (g2) (by omega)) (iC 3 (by decide)) (by omega)) (by omega)) (by omega) ?_
      refine j_aload_n dX8_takesPart_165 rfl ?_
      refine j_iload_n dX8_takesPart_166 rfl ?_
      refine j_bipush (v := 64) dX8_takesPart_167 (by decide) ?_
      refine m_icmp_ne (tgt := 176) dX8_takesPart_169 (by decide) (iV) (iC 64 (by decide)) (fun c_169 => ?_) (fun c_169 => ?_)
      · refine j_iconst (v := 0) dX8_takesPart_176 (by decide) ?_
        refine j_iconst (v := 5) dX8_takesPart_177 (by decide) ?_
        refine j_cVi dX8_takesPart_178 hB mo_X8_goes ml_X8_131 (sp_X8_goes hB h0 (P := c.toInt = 64) (Or.inr ⟨rfl, c_169⟩)) (by first | exact h0.1 | exact h0.2.1 | exact h0.2.2.1 | exact h0.2.2.2.1 | exact h0.2.2.2.2.1 | exact h0.2.2.2.2.2.1 | exact h0.2.2.2.2.2.2.1 | exact h0.2.2.2.2.2.2.2.1 | exact h0.2.2.2.2.2.2.2.2) rfl rfl rfl rfl ⟨rfl, rfl, by decide, by decide⟩ (Nat.le_of_ble_eq_true rfl) ⟨by decide, by decide⟩ (fun r_178 V_178 h_178 => ?_)
        obtain ⟨rfl, hgP, hgN⟩ := h_178
        refine j_iret dX8_takesPart_181 rfl (by first | decide | exact m_nrB (by assumption)) (by decide) (by decide) ?_
        exact tkQ.no (by rw [hgN c_169]; exact mKp.rf.s8) (rno4 hpk c0 c1 hc44 c_155)
      · exact absurd c_169 c_155
    · refine j_iconst (v := 0) dX8_takesPart_158 (by decide) ?_
      refine j_goto (tgt := 164) dX8_takesPart_159 (by decide) ?_
      refine m_iast (k := 4 * m + 3) dX8_takesPart_164 hB (by first | exact h0.1 | exact h0.2.1 | exact h0.2.2.1 | exact h0.2.2.2.1 | exact h0.2.2.2.2.1 | exact h0.2.2.2.2.2.1 | exact h0.2.2.2.2.2.2.1 | exact h0.2.2.2.2.2.2.2.1 | exact h0.2.2.2.2.2.2.2.2) (ixk (iA (iM (iC 4 (by decide)) (g2) (by omega)) (iC 3 (by decide)) (by omega)) (by omega)) (by omega) ?_
      refine j_aload_n dX8_takesPart_165 rfl ?_
      refine j_iload_n dX8_takesPart_166 rfl ?_
      refine j_bipush (v := 64) dX8_takesPart_167 (by decide) ?_
      refine m_icmp_ne (tgt := 176) dX8_takesPart_169 (by decide) (iV) (iC 64 (by decide)) (fun c_169 => ?_) (fun c_169 => ?_)
      · exact absurd c_155 c_169
      · refine j_iconst (v := 1) dX8_takesPart_172 (by decide) ?_
        refine j_goto (tgt := 177) dX8_takesPart_173 (by decide) ?_
        refine j_iconst (v := 5) dX8_takesPart_177 (by decide) ?_
        refine j_cVi dX8_takesPart_178 hB mo_X8_goes ml_X8_131 (sp_X8_goes hB h0 (P := c.toInt = 64) (Or.inl ⟨rfl, c_169⟩)) (by first | exact h0.1 | exact h0.2.1 | exact h0.2.2.1 | exact h0.2.2.2.1 | exact h0.2.2.2.2.1 | exact h0.2.2.2.2.2.1 | exact h0.2.2.2.2.2.2.1 | exact h0.2.2.2.2.2.2.2.1 | exact h0.2.2.2.2.2.2.2.2) rfl rfl rfl rfl ⟨rfl, rfl, by decide, by decide⟩ (Nat.le_of_ble_eq_true rfl) ⟨by decide, by decide⟩ (fun r_178 V_178 h_178 => ?_)
        obtain ⟨rfl, hgP, hgN⟩ := h_178
        refine j_iret dX8_takesPart_181 rfl (by first | decide | exact m_nrB (by assumption)) (by decide) (by decide) ?_
        obtain ⟨w1, w2⟩ := setm (L := t.2.2.2.1) (m := m) (v := 0) (by omega)
        rw [hgP c_169]
        refine tkQ.yes (n := m) (((mKp.rf.s8).sf (by omega)).sf (by omega)) (show rRd t c (t.1, t.2.1, t.2.2.1, setZ t.2.2.2.1 m 0, 5) from Or.inr (Or.inr (Or.inr (Or.inl ⟨c_155, hpk, by rw [hN]⟩)))) (mRd.go h' (by decide) g1 (fun i => jset_ne (Or.inl (by omega))) (fun i hi => jset_ne (Or.inr (by omega))) (fun _ _ => rfl) (fun _ _ => rfl) (fun _ _ => rfl) w2 ?_ ?_ ?_ ?_ (fun _ => by rw [w1]; rfl))
        · rw [jset_ne (Or.inr (by omega))]; exact g4m.1
        · rw [jset_ne (Or.inr (by omega))]; exact g4m.2.1
        · rw [jset_ne (Or.inr (by omega))]; exact g4m.2.2.1
        · rw [w1, jset_eq]
  · have hp6 : t.2.2.2.2.toInt = 5 := by omega
    have hpk : t.2.2.2.2 = 5 := ti_inj (by rw [hp6]; rfl)
    refine j_aload_n dX8_takesPart_182 rfl ?_
    refine j_iload_n dX8_takesPart_183 rfl ?_
    refine j_cVi dX8_takesPart_184 hB mo_X8_takesPace ml_X8_138 (sp_X8_takesPace hB h0 h' hv k60 c0 c1 hc44 hpk) (by first | exact h0.1 | exact h0.2.1 | exact h0.2.2.1 | exact h0.2.2.2.1 | exact h0.2.2.2.2.1 | exact h0.2.2.2.2.2.1 | exact h0.2.2.2.2.2.2.1 | exact h0.2.2.2.2.2.2.2.1 | exact h0.2.2.2.2.2.2.2.2) rfl rfl rfl rfl ⟨rfl, rfl, by decide, by decide⟩ (Nat.le_of_ble_eq_true rfl) ⟨by decide, by decide⟩ (fun r_184 V_184 h_184 => ?_)
    obtain ⟨hk9, hb9, hr9⟩ := h_184
    have h_184 : tkQ T V X sz q t c k (.inl (some (.int r_184))) T V_184 X sz := ⟨_, rfl, rfl, rfl, rfl, hk9, hb9, hr9⟩
    refine j_iret dX8_takesPart_187 rfl (by first | decide | exact m_nrB (by assumption)) (by decide) (by decide) ?_
    exact h_184
end JM15
