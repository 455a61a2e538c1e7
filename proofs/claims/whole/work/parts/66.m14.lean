/-! CueSheetsModel: a character on -/
def tkQ (T : jT) (V : jV) (X : jX) (sz q : Nat) (t : tR) (c : Int32) (k : Nat) : jQ := qI T X sz (fun r V' => mKp V V' q ∧ bQ r (∃ t', rRd t c t') ∧ ∀ t', rRd t c t' → ∃ n', mRd V' q t' n' (k + 1))
theorem tkQ.yes {T : jT} {V V' : jV} {X : jX} {sz q k n : Nat} {t t' : tR} {c : Int32} (hk : mKp V V' q) (h : rRd t c t') (h2 : mRd V' q t' n (k + 1)) : tkQ T V X sz q t c k (.inl (some (.int 1))) T V' X sz :=
  ⟨1, rfl, rfl, rfl, rfl, hk, Or.inl ⟨rfl, t', h⟩, fun t2 h9 => ⟨n, by rw [← rRd.one h h9]; exact h2⟩⟩
theorem tkQ.no {T : jT} {V V' : jV} {X : jX} {sz q k : Nat} {t : tR} {c : Int32} (hk : mKp V V' q) (h : ∀ t', ¬ rRd t c t') : tkQ T V X sz q t c k (.inl (some (.int 0))) T V' X sz :=
  ⟨0, rfl, rfl, rfl, rfl, hk, Or.inr ⟨rfl, fun ⟨t', z⟩ => h t' z⟩, fun t2 h9 => absurd h9 (h t2)⟩
theorem setm {L : List Int32} {m : Nat} {v : Int32} (h : m < L.length) : atZ (setZ L m v) m = v ∧ ∀ j : Nat, j < m → atZ (setZ L m v) j = atZ L j :=
  ⟨by rw [atZ_set (by omega) (by omega), if_pos rfl], fun j hj => by rw [atZ_set (by omega) (by omega), if_neg (by omega)]⟩
theorem mRd.mk {V V2 : jV} {q m k : Nat} {t : tR} {A B C E : List Int32} {pl : Int32} (g : mRd V q t m k) (e1 : A.length = m + 1) (f13 : V2 q 13 = V q 13) (f11 : V2 q 11 = pl) (z8 : ∀ i, i < 4 * m → V2 (q + 8) i = V (q + 8) i) (hA : ∀ j : Nat, j < m → atZ A j = atZ t.1 j) (hB : ∀ j : Nat, j < m → atZ B j = atZ t.2.1 j) (hC : ∀ j : Nat, j < m → atZ C j = atZ t.2.2.1 j) (hE : ∀ j : Nat, j < m → atZ E j = atZ t.2.2.2.1 j) (h0 : V2 (q + 8) (4 * m + 0) = atZ A m) (h1 : V2 (q + 8) (4 * m + 1) = atZ B m) (h2 : V2 (q + 8) (4 * m + 2) = atZ C m) (h3 : V2 (q + 8) (4 * m + 3) = atZ E m) (d0 : 0 ≤ (V2 q 12).toInt) (d1 : (V2 q 12).toInt ≤ ((k + 1 : Nat) : Int)) (p0 : pl = 0 → (0 < (V2 q 12).toInt ↔ 0 < (atZ A m).toInt)) (p5 : pl = 5 → ((V2 q 12).toInt = 0 ↔ (atZ E m).toInt = 0)) : mRd V2 q (A, B, C, E, pl) m (k + 1) :=
  ⟨e1, by rw [f13]; exact g.2.1, f11, g.2.2.2.1.of (t' := (A, B, C, E, pl)) z8 (fun j hj => ⟨hA j hj, hB j hj, hC j hj, hE j hj⟩) h0 h1 h2 h3, d0, d1, p0, p5⟩
theorem mRd.L {V V2 : jV} {q m k : Nat} {t : tR} {v : Int32} (g : mRd V q t m k) (f13 : V2 q 13 = V q 13) (f11 : V2 q 11 = V q 11) (f12 : (V2 q 12).toInt = (V q 12).toInt + 1) (z8 : ∀ i, ¬ i = 4 * m → V2 (q + 8) i = V (q + 8) i) (z8v : V2 (q + 8) (4 * m) = v) (h0 : t.2.2.2.2 = 0) (hv : 0 < v.toInt) : mRd V2 q (setZ t.1 m v, t.2.1, t.2.2.1, t.2.2.2.1, 0) m (k + 1) := by
  have g1 := g.1
  obtain ⟨s1, s2⟩ := setm (L := t.1) (m := m) (v := v) (by omega)
  have g4 := g.2.2.2.1 m (Nat.le_refl m)
  have g5 := g.2.2.2.2.1
  have g6 := g.2.2.2.2.2.1
  refine mRd.mk g (setZ_len.trans g1) f13 (by rw [f11, g.2.2.1]; exact h0) (fun i hi => z8 i (by omega)) s2 (fun _ _ => rfl) (fun _ _ => rfl) (fun _ _ => rfl) ?_ ?_ ?_ ?_ (by omega) (by omega) ?_ ?_
  · rw [s1]; exact z8v
  · rw [z8 _ (by omega)]; exact g4.2.1
  · rw [z8 _ (by omega)]; exact g4.2.2.1
  · rw [z8 _ (by omega)]; exact g4.2.2.2
  · intro _; rw [s1, f12]; omega
  · intro z9; exact absurd z9 (by decide)
theorem mRd.P {V V2 : jV} {q m k : Nat} {t : tR} {v : Int32} (g : mRd V q t m k) (hl : t.2.2.2.1.length = m + 1) (f13 : V2 q 13 = V q 13) (f11 : V2 q 11 = V q 11) (f12 : (V2 q 12).toInt = (V q 12).toInt + 1) (z8 : ∀ i, ¬ i = 4 * m + 3 → V2 (q + 8) i = V (q + 8) i) (z8v : V2 (q + 8) (4 * m + 3) = v) (h5 : t.2.2.2.2 = 5) (hv : 0 < v.toInt) : mRd V2 q (t.1, t.2.1, t.2.2.1, setZ t.2.2.2.1 m v, 5) m (k + 1) := by
  obtain ⟨s1, s2⟩ := setm (L := t.2.2.2.1) (m := m) (v := v) (by omega)
  have g4 := g.2.2.2.1 m (Nat.le_refl m)
  have g5 := g.2.2.2.2.1
  have g6 := g.2.2.2.2.2.1
  refine mRd.mk g g.1 f13 (by rw [f11, g.2.2.1]; exact h5) (fun i hi => z8 i (by omega)) (fun _ _ => rfl) (fun _ _ => rfl) (fun _ _ => rfl) s2 ?_ ?_ ?_ ?_ (by omega) (by omega) ?_ ?_
  · rw [z8 _ (by omega)]; exact g4.1
  · rw [z8 _ (by omega)]; exact g4.2.1
  · rw [z8 _ (by omega)]; exact g4.2.2.1
  · rw [s1]; exact z8v
  · intro z9; exact absurd z9 (by decide)
  · intro _; rw [s1, f12]; omega
theorem add_cs {x c : Int32} {k : Int} (h0 : 0 ≤ x.toInt) (h1 : x.toInt ≤ 900) (c0 : 33 ≤ c.toInt) (c1 : c.toInt ≤ 126) : (10 * x + (c - 48)).toInt = 10 * x.toInt + c.toInt - 48 ∧ 10 * x + c - 48 = 10 * x + (c - 48) := by
  have k48 : (48 : Int32).toInt = 48 := by decide
  have k10 : (10 : Int32).toInt = 10 := by decide
  have cs : (c - 48).toInt = c.toInt - 48 := by rw [ti_sub (by omega) (by omega), k48]
  have e10 : (10 * x).toInt = 10 * x.toInt := by rw [ti_mul (by rw [k10]; omega) (by rw [k10]; omega), k10]
  have e1 : (10 * x + c).toInt = 10 * x.toInt + c.toInt := by rw [ti_add (by rw [e10]; omega) (by rw [e10]; omega), e10]
  have e2 : (10 * x + c - 48).toInt = 10 * x.toInt + c.toInt - 48 := by rw [ti_sub (by rw [e1]; omega) (by rw [e1]; omega), e1, k48]
  have e3 : (10 * x + (c - 48)).toInt = 10 * x.toInt + c.toInt - 48 := by rw [ti_add (by rw [e10, cs]; omega) (by rw [e10, cs]; omega), e10, cs]; omega
  exact ⟨e3, ti_inj (by rw [e2, e3])⟩
theorem rRd_L {t : tR} {c v : Int32} {m : Nat} (hN : rN t = (m : Int)) (h0 : t.2.2.2.2 = 0) (cs : (c - 48).toInt = c.toInt - 48) (d0 : 48 ≤ c.toInt) (d1 : c.toInt ≤ 57) (n0 : 1 ≤ 10 * (atZ t.1 m).toInt + c.toInt - 48) (n1 : 10 * (atZ t.1 m).toInt + c.toInt - 48 ≤ 900) (hv : 10 * atZ t.1 m + (c - 48) = v) : rRd t c (setZ t.1 m v, t.2.1, t.2.2.1, t.2.2.2.1, 0) := by
  refine Or.inr (Or.inr (Or.inr (Or.inr ⟨d0, d1, Or.inl ⟨h0, ?_, ?_, ?_⟩⟩)))
  · rw [hN, cs]; omega
  · rw [hN, cs]; omega
  · rw [hN, hv]
theorem rRd_P {t : tR} {c v : Int32} {m : Nat} (hN : rN t = (m : Int)) (h5 : t.2.2.2.2 = 5) (cs : (c - 48).toInt = c.toInt - 48) (d0 : 48 ≤ c.toInt) (d1 : c.toInt ≤ 57) (n0 : 10 * (atZ t.2.2.2.1 m).toInt + c.toInt - 48 = 1 ∨ (8 ≤ 10 * (atZ t.2.2.2.1 m).toInt + c.toInt - 48 ∧ 10 * (atZ t.2.2.2.1 m).toInt + c.toInt - 48 ≤ 12) ∨ (80 ≤ 10 * (atZ t.2.2.2.1 m).toInt + c.toInt - 48 ∧ 10 * (atZ t.2.2.2.1 m).toInt + c.toInt - 48 ≤ 120)) (hv : 10 * atZ t.2.2.2.1 m + (c - 48) = v) : rRd t c (t.1, t.2.1, t.2.2.1, setZ t.2.2.2.1 m v, 5) := by
  refine Or.inr (Or.inr (Or.inr (Or.inr ⟨d0, d1, Or.inr (Or.inr (Or.inr ⟨h5, ?_, ?_⟩))⟩)))
  · rw [hN, cs]; simp only; omega
  · rw [hN, hv]
section JM14
variable {l : Launch} {s0 : State} {D : jD} {T : jT} {V : jV} {X : jX} {sz : Nat}
set_option maxRecDepth 100000 in
set_option maxHeartbeats 4000000 in
theorem sp_X8_takesLength (hB : jB l s0 D) {q : Nat} (h0 : moT T q) {t : tR} {n k : Nat} {c : Int32} (h : mRd V q t n k) (hv : rInv t k) (k60 : k < 60) (c0 : 33 ≤ c.toInt) (c1 : c.toInt ≤ 126) (hc44 : ¬ (c.toInt = 44 ∧ rComp t)) (h0' : t.2.2.2.2 = 0) : Sp l s0 D kX8_takesLength (jR 1 0 0) 0 0 [.ref q, .int c] T V X sz (tkQ T V X sz q t c k) := by
  refine Sp.of pn_X8_takesLength rfl (Nat.le_of_ble_eq_true rfl) ?_
  have hv' := hv
  obtain ⟨m, l1, l2, l3, l4, -, hcu, z1, -⟩ := hv'
  have hmn : m = n := by have := h.1; omega
  subst hmn
  have h' := h
  obtain ⟨g1, g2, g3, g4, g5, g6, g7, g8⟩ := h
  have hN : rN t = (m : Int) := by unfold rN; omega
  have hcl := hcu.L
  have hpl : (V q 11).toInt = t.2.2.2.2.toInt := by rw [g3]
  have hL0 : isI (V (q + 8) (4 * m)) (atZ t.1 m).toInt := congrArg Int32.toInt (g4 m (Nat.le_refl m)).1
  have hP0 : isI (V (q + 8) (4 * m + 3)) (atZ t.2.2.2.1 m).toInt := congrArg Int32.toInt (g4 m (Nat.le_refl m)).2.2.2
  have k48 : (48 : Int32).toInt = 48 := by decide
  have cs : (c - 48).toInt = c.toInt - 48 := by rw [ti_sub (by omega) (by omega), k48]
  have g4m := g4 m (Nat.le_refl m)
  refine j_bipush (v := 10) dX8_takesLength_0 (by decide) ?_
  refine j_aload_n dX8_takesLength_2 rfl ?_
  refine j_getr dX8_takesLength_3 hB fl_X8_31 (by first | exact h0.1 | exact h0.2.1 | exact h0.2.2.1 | exact h0.2.2.2.1 | exact h0.2.2.2.2.1 | exact h0.2.2.2.2.2.1 | exact h0.2.2.2.2.2.2.1 | exact h0.2.2.2.2.2.2.2.1 | exact h0.2.2.2.2.2.2.2.2) (by rfl) ?_
  refine j_iconst (v := 4) dX8_takesLength_6 (by decide) ?_
  refine j_aload_n dX8_takesLength_7 rfl ?_
  refine j_geti dX8_takesLength_8 hB fl_X8_128 (by first | exact h0.1 | exact h0.2.1 | exact h0.2.2.1 | exact h0.2.2.2.1 | exact h0.2.2.2.2.1 | exact h0.2.2.2.2.2.1 | exact h0.2.2.2.2.2.2.1 | exact h0.2.2.2.2.2.2.2.1 | exact h0.2.2.2.2.2.2.2.2) (by rfl) ?_
  refine j_imul dX8_takesLength_11 ?_
  refine m_iald (k := 4 * m) dX8_takesLength_12 hB (by first | exact h0.1 | exact h0.2.1 | exact h0.2.2.1 | exact h0.2.2.2.1 | exact h0.2.2.2.2.1 | exact h0.2.2.2.2.2.1 | exact h0.2.2.2.2.2.2.1 | exact h0.2.2.2.2.2.2.2.1 | exact h0.2.2.2.2.2.2.2.2) (ixk (iM (iC 4 (by decide)) (g2) (by omega)) (by omega)) (by omega) ?_
  refine j_imul dX8_takesLength_13 ?_
  refine j_iload_n dX8_takesLength_14 rfl ?_
  refine j_iadd dX8_takesLength_15 ?_
  refine j_bipush (v := 48) dX8_takesLength_16 (by decide) ?_
  refine j_isub dX8_takesLength_18 ?_
  refine j_istore_n (L' := [(0, _), (1, _), (2, _)]) dX8_takesLength_19 (by decide) rfl ?_
  refine j_iload_n dX8_takesLength_20 rfl ?_
  refine j_bipush (v := 48) dX8_takesLength_21 (by decide) ?_
  refine j_bipush (v := 57) dX8_takesLength_23 (by decide) ?_
  refine j_cSi dX8_takesLength_25 hB mo_X8_within ml_X8_38 (sp_X8_within hB  (iV) (iC 48 (by decide)) (iC 57 (by decide))) rfl rfl ⟨rfl, rfl, by decide, by decide⟩ (Nat.le_of_ble_eq_true rfl) ⟨by decide, by decide⟩ (fun r_25 V_25 h_25 => ?_)
  obtain ⟨rfl, b_25⟩ := h_25
  replace b_25 : bQ _ (48 ≤ c.toInt ∧ c.toInt ≤ 57) := b_25.cg (by omega)
  refine m_ifeqB (tgt := 46) dX8_takesLength_28 (by decide) b_25 (fun c_28 => ?_) (fun c_28 => ?_)
  · refine j_iconst (v := 0) dX8_takesLength_46 (by decide) ?_
    refine j_istore_n (L' := [(0, _), (1, _), (2, _), (3, _)]) dX8_takesLength_47 (by decide) rfl ?_
    refine j_aload_n dX8_takesLength_48 rfl ?_
    refine j_getr dX8_takesLength_49 hB fl_X8_31 (by first | exact h0.1 | exact h0.2.1 | exact h0.2.2.1 | exact h0.2.2.2.1 | exact h0.2.2.2.2.1 | exact h0.2.2.2.2.2.1 | exact h0.2.2.2.2.2.2.1 | exact h0.2.2.2.2.2.2.2.1 | exact h0.2.2.2.2.2.2.2.2) (by rfl) ?_
    refine j_iconst (v := 4) dX8_takesLength_52 (by decide) ?_
    refine j_aload_n dX8_takesLength_53 rfl ?_
    refine j_geti dX8_takesLength_54 hB fl_X8_128 (by first | exact h0.1 | exact h0.2.1 | exact h0.2.2.1 | exact h0.2.2.2.1 | exact h0.2.2.2.2.1 | exact h0.2.2.2.2.2.1 | exact h0.2.2.2.2.2.2.1 | exact h0.2.2.2.2.2.2.2.1 | exact h0.2.2.2.2.2.2.2.2) (by rfl) ?_
    refine j_imul dX8_takesLength_57 ?_
    refine j_iload_n dX8_takesLength_58 rfl ?_
    refine m_if_eq (tgt := 66) dX8_takesLength_59 (by decide) (iC 0 (by decide)) (fun c_59 => ?_) (fun c_59 => ?_)
    · refine j_aload_n dX8_takesLength_66 rfl ?_
      refine j_getr dX8_takesLength_67 hB fl_X8_31 (by first | exact h0.1 | exact h0.2.1 | exact h0.2.2.1 | exact h0.2.2.2.1 | exact h0.2.2.2.2.1 | exact h0.2.2.2.2.2.1 | exact h0.2.2.2.2.2.2.1 | exact h0.2.2.2.2.2.2.2.1 | exact h0.2.2.2.2.2.2.2.2) (by rfl) ?_
      refine j_iconst (v := 4) dX8_takesLength_70 (by decide) ?_
      refine j_aload_n dX8_takesLength_71 rfl ?_
      refine j_geti dX8_takesLength_72 hB fl_X8_128 (by first | exact h0.1 | exact h0.2.1 | exact h0.2.2.1 | exact h0.2.2.2.1 | exact h0.2.2.2.2.1 | exact h0.2.2.2.2.2.1 | exact h0.2.2.2.2.2.2.1 | exact h0.2.2.2.2.2.2.2.1 | exact h0.2.2.2.2.2.2.2.2) (by rfl) ?_
      refine j_imul dX8_takesLength_75 ?_
      refine m_iald (k := 4 * m) dX8_takesLength_76 hB (by first | exact h0.1 | exact h0.2.1 | exact h0.2.2.1 | exact h0.2.2.2.1 | exact h0.2.2.2.2.1 | exact h0.2.2.2.2.2.1 | exact h0.2.2.2.2.2.2.1 | exact h0.2.2.2.2.2.2.2.1 | exact h0.2.2.2.2.2.2.2.2) (ixk (iM (iC 4 (by decide)) (g2) (by omega)) (by omega)) (by omega) ?_
      refine m_iast (k := 4 * m) dX8_takesLength_77 hB (by first | exact h0.1 | exact h0.2.1 | exact h0.2.2.1 | exact h0.2.2.2.1 | exact h0.2.2.2.2.1 | exact h0.2.2.2.2.2.1 | exact h0.2.2.2.2.2.2.1 | exact h0.2.2.2.2.2.2.2.1 | exact h0.2.2.2.2.2.2.2.2) (ixk (iM (iC 4 (by decide)) (g2) (by omega)) (by omega)) (by omega) ?_
      rw [jset_self]
      refine j_aload_n dX8_takesLength_78 rfl ?_
      refine j_dup dX8_takesLength_79 rfl ?_
      refine j_geti dX8_takesLength_80 hB fl_X8_125 (by first | exact h0.1 | exact h0.2.1 | exact h0.2.2.1 | exact h0.2.2.2.1 | exact h0.2.2.2.2.1 | exact h0.2.2.2.2.2.1 | exact h0.2.2.2.2.2.2.1 | exact h0.2.2.2.2.2.2.2.1 | exact h0.2.2.2.2.2.2.2.2) (by rfl) ?_
      refine j_iload_n dX8_takesLength_83 rfl ?_
      refine m_if_eq (tgt := 91) dX8_takesLength_84 (by decide) (iC 0 (by decide)) (fun c_84 => ?_) (fun c_84 => ?_)
      · refine j_iconst (v := 0) dX8_takesLength_91 (by decide) ?_
        refine j_iadd dX8_takesLength_92 ?_
        refine j_puti dX8_takesLength_93 hB fp_X8_takesLength_125 (by first | exact h0.1 | exact h0.2.1 | exact h0.2.2.1 | exact h0.2.2.2.1 | exact h0.2.2.2.2.1 | exact h0.2.2.2.2.2.1 | exact h0.2.2.2.2.2.2.1 | exact h0.2.2.2.2.2.2.2.1 | exact h0.2.2.2.2.2.2.2.2) (by rfl) ?_
        rw [Int32.add_zero, jset_self]
        refine j_iload_n dX8_takesLength_96 rfl ?_
        refine m_if_ne (tgt := 126) dX8_takesLength_97 (by decide) (iC 0 (by decide)) (fun c_97 => ?_) (fun c_97 => ?_)
        · exact absurd c_97 (by decide)
        · refine j_aload_n dX8_takesLength_100 rfl ?_
          refine j_geti dX8_takesLength_101 hB fl_X8_125 (by first | exact h0.1 | exact h0.2.1 | exact h0.2.2.1 | exact h0.2.2.2.1 | exact h0.2.2.2.2.1 | exact h0.2.2.2.2.2.1 | exact h0.2.2.2.2.2.2.1 | exact h0.2.2.2.2.2.2.2.1 | exact h0.2.2.2.2.2.2.2.2) (by rfl) ?_
          refine m_if_le (tgt := 130) dX8_takesLength_104 (by decide) (iV) (fun c_104 => ?_) (fun c_104 => ?_)
          · refine j_iconst (v := 0) dX8_takesLength_130 (by decide) ?_
            refine j_iret dX8_takesLength_131 rfl (by first | decide | exact m_nrB (by assumption)) (by decide) (by decide) ?_
            exact tkQ.no mKp.rf (rno0 h0' c0 c1 hc44 (by rw [hN]; omega) (fun z9 => c_28 ⟨z9.1, z9.2.1⟩) (fun z9 => by rw [hN] at z9; have := (g7 h0').mpr z9.2; omega))
          · refine j_aload_n dX8_takesLength_107 rfl ?_
            refine j_iload_n dX8_takesLength_108 rfl ?_
            refine j_bipush (v := 58) dX8_takesLength_109 (by decide) ?_
            refine m_icmp_ne (tgt := 118) dX8_takesLength_111 (by decide) (iV) (iC 58 (by decide)) (fun c_111 => ?_) (fun c_111 => ?_)
            · refine j_iconst (v := 0) dX8_takesLength_118 (by decide) ?_
              refine j_iconst (v := 1) dX8_takesLength_119 (by decide) ?_
              refine j_cVi dX8_takesLength_120 hB mo_X8_goes ml_X8_131 (sp_X8_goes hB h0 (P := c.toInt = 58) (Or.inr ⟨rfl, c_111⟩)) (by first | exact h0.1 | exact h0.2.1 | exact h0.2.2.1 | exact h0.2.2.2.1 | exact h0.2.2.2.2.1 | exact h0.2.2.2.2.2.1 | exact h0.2.2.2.2.2.2.1 | exact h0.2.2.2.2.2.2.2.1 | exact h0.2.2.2.2.2.2.2.2) rfl rfl rfl rfl ⟨rfl, rfl, by decide, by decide⟩ (Nat.le_of_ble_eq_true rfl) ⟨by decide, by decide⟩ (fun r_120 V_120 h_120 => ?_)
              obtain ⟨rfl, hgP, hgN⟩ := h_120
              refine m_if_eq (tgt := 130) dX8_takesLength_123 (by decide) (iC 0 (by decide)) (fun c_123 => ?_) (fun c_123 => ?_)
              · refine j_iconst (v := 0) dX8_takesLength_130 (by decide) ?_
                refine j_iret dX8_takesLength_131 rfl (by first | decide | exact m_nrB (by assumption)) (by decide) (by decide) ?_
                exact tkQ.no (by rw [hgN c_111]; exact mKp.rf) (rno0 h0' c0 c1 hc44 (by rw [hN]; omega) (fun z9 => c_28 ⟨z9.1, z9.2.1⟩) (fun z9 => c_111 z9.1))
              · exact absurd c_123 (by decide)
            · refine j_iconst (v := 1) dX8_takesLength_114 (by decide) ?_
              refine j_goto (tgt := 119) dX8_takesLength_115 (by decide) ?_
              refine j_iconst (v := 1) dX8_takesLength_119 (by decide) ?_
              refine j_cVi dX8_takesLength_120 hB mo_X8_goes ml_X8_131 (sp_X8_goes hB h0 (P := c.toInt = 58) (Or.inl ⟨rfl, c_111⟩)) (by first | exact h0.1 | exact h0.2.1 | exact h0.2.2.1 | exact h0.2.2.2.1 | exact h0.2.2.2.2.1 | exact h0.2.2.2.2.2.1 | exact h0.2.2.2.2.2.2.1 | exact h0.2.2.2.2.2.2.2.1 | exact h0.2.2.2.2.2.2.2.2) rfl rfl rfl rfl ⟨rfl, rfl, by decide, by decide⟩ (Nat.le_of_ble_eq_true rfl) ⟨by decide, by decide⟩ (fun r_120 V_120 h_120 => ?_)
              obtain ⟨rfl, hgP, hgN⟩ := h_120
              refine m_if_eq (tgt := 130) dX8_takesLength_123 (by decide) (iC 1 (by decide)) (fun c_123 => ?_) (fun c_123 => ?_)
              · exact absurd c_123 (by decide)
              · refine j_iconst (v := 1) dX8_takesLength_126 (by decide) ?_
                refine j_goto (tgt := 131) dX8_takesLength_127 (by decide) ?_
                refine j_iret dX8_takesLength_131 rfl (by first | decide | exact m_nrB (by assumption)) (by decide) (by decide) ?_
                have hdp : 0 < (atZ t.1 m).toInt := (g7 h0').mp c_104
                refine tkQ.yes (n := m) (t' := rGo t 1) (by rw [hgP c_111]; exact (mKp.rf.sf (by omega)).sf (by omega)) (Or.inr (Or.inl ⟨c_111, h0', Or.inl ⟨h0', by rw [hN]; exact hdp⟩, rfl⟩)) ?_
                rw [hgP c_111]
                refine ⟨g1, by rw [jset_ne (Or.inr (by omega)), jset_ne (Or.inr (by omega))]; exact g2, by rw [jset_ne (Or.inr (by omega)), jset_eq]; rfl, by rw [jset_row (by omega), jset_row (by omega)]; exact g4, by rw [jset_eq]; decide, by rw [jset_eq, ti_0]; omega, fun z9 => absurd z9 (show ¬ (1 : Int32) = 0 by decide), fun z9 => absurd z9 (show ¬ (1 : Int32) = 5 by decide)⟩
      · exact absurd c_84 (by decide)
    · exact absurd c_59 (by decide)
  · refine j_iload_n dX8_takesLength_31 rfl ?_
    refine j_iconst (v := 1) dX8_takesLength_32 (by decide) ?_
    refine j_sipush (v := 900) dX8_takesLength_33 (by decide) ?_
    refine j_cSi dX8_takesLength_36 hB mo_X8_within ml_X8_38 (sp_X8_within hB  (iS (iA (iM (iC 10 (by decide)) (hL0) (by omega)) (iV) (by omega)) (iC 48 (by decide)) (by omega)) (iC 1 (by decide)) (iC 900 (by decide))) rfl rfl ⟨rfl, rfl, by decide, by decide⟩ (Nat.le_of_ble_eq_true rfl) ⟨by decide, by decide⟩ (fun r_36 V_36 h_36 => ?_)
    obtain ⟨rfl, b_36⟩ := h_36
    replace b_36 : bQ _ (1 ≤ 10 * (atZ t.1 m).toInt + c.toInt - 48 ∧ 10 * (atZ t.1 m).toInt + c.toInt - 48 ≤ 900) := b_36.cg (by omega)
    refine m_ifeqB (tgt := 46) dX8_takesLength_39 (by decide) b_36 (fun c_39 => ?_) (fun c_39 => ?_)
    · refine j_iconst (v := 0) dX8_takesLength_46 (by decide) ?_
      refine j_istore_n (L' := [(0, _), (1, _), (2, _), (3, _)]) dX8_takesLength_47 (by decide) rfl ?_
      refine j_aload_n dX8_takesLength_48 rfl ?_
      refine j_getr dX8_takesLength_49 hB fl_X8_31 (by first | exact h0.1 | exact h0.2.1 | exact h0.2.2.1 | exact h0.2.2.2.1 | exact h0.2.2.2.2.1 | exact h0.2.2.2.2.2.1 | exact h0.2.2.2.2.2.2.1 | exact h0.2.2.2.2.2.2.2.1 | exact h0.2.2.2.2.2.2.2.2) (by rfl) ?_
      refine j_iconst (v := 4) dX8_takesLength_52 (by decide) ?_
      refine j_aload_n dX8_takesLength_53 rfl ?_
      refine j_geti dX8_takesLength_54 hB fl_X8_128 (by first | exact h0.1 | exact h0.2.1 | exact h0.2.2.1 | exact h0.2.2.2.1 | exact h0.2.2.2.2.1 | exact h0.2.2.2.2.2.1 | exact h0.2.2.2.2.2.2.1 | exact h0.2.2.2.2.2.2.2.1 | exact h0.2.2.2.2.2.2.2.2) (by rfl) ?_
      refine j_imul dX8_takesLength_57 ?_
      refine j_iload_n dX8_takesLength_58 rfl ?_
      refine m_if_eq (tgt := 66) dX8_takesLength_59 (by decide) (iC 0 (by decide)) (fun c_59 => ?_) (fun c_59 => ?_)
      · refine j_aload_n dX8_takesLength_66 rfl ?_
        refine j_getr dX8_takesLength_67 hB fl_X8_31 (by first | exact h0.1 | exact h0.2.1 | exact h0.2.2.1 | exact h0.2.2.2.1 | exact h0.2.2.2.2.1 | exact h0.2.2.2.2.2.1 | exact h0.2.2.2.2.2.2.1 | exact h0.2.2.2.2.2.2.2.1 | exact h0.2.2.2.2.2.2.2.2) (by rfl) ?_
        refine j_iconst (v := 4) dX8_takesLength_70 (by decide) ?_
        refine j_aload_n dX8_takesLength_71 rfl ?_
        refine j_geti dX8_takesLength_72 hB fl_X8_128 (by first | exact h0.1 | exact h0.2.1 | exact h0.2.2.1 | exact h0.2.2.2.1 | exact h0.2.2.2.2.1 | exact h0.2.2.2.2.2.1 | exact h0.2.2.2.2.2.2.1 | exact h0.2.2.2.2.2.2.2.1 | exact h0.2.2.2.2.2.2.2.2) (by rfl) ?_
        refine j_imul dX8_takesLength_75 ?_
        refine m_iald (k := 4 * m) dX8_takesLength_76 hB (by first | exact h0.1 | exact h0.2.1 | exact h0.2.2.1 | exact h0.2.2.2.1 | exact h0.2.2.2.2.1 | exact h0.2.2.2.2.2.1 | exact h0.2.2.2.2.2.2.1 | exact h0.2.2.2.2.2.2.2.1 | exact h0.2.2.2.2.2.2.2.2) (ixk (iM (iC 4 (by decide)) (g2) (by omega)) (by omega)) (by omega) ?_
        refine m_iast (k := 4 * m) dX8_takesLength_77 hB (by first | exact h0.1 | exact h0.2.1 | exact h0.2.2.1 | exact h0.2.2.2.1 | exact h0.2.2.2.2.1 | exact h0.2.2.2.2.2.1 | exact h0.2.2.2.2.2.2.1 | exact h0.2.2.2.2.2.2.2.1 | exact h0.2.2.2.2.2.2.2.2) (ixk (iM (iC 4 (by decide)) (g2) (by omega)) (by omega)) (by omega) ?_
        rw [jset_self]
        refine j_aload_n dX8_takesLength_78 rfl ?_
        refine j_dup dX8_takesLength_79 rfl ?_
        refine j_geti dX8_takesLength_80 hB fl_X8_125 (by first | exact h0.1 | exact h0.2.1 | exact h0.2.2.1 | exact h0.2.2.2.1 | exact h0.2.2.2.2.1 | exact h0.2.2.2.2.2.1 | exact h0.2.2.2.2.2.2.1 | exact h0.2.2.2.2.2.2.2.1 | exact h0.2.2.2.2.2.2.2.2) (by rfl) ?_
        refine j_iload_n dX8_takesLength_83 rfl ?_
        refine m_if_eq (tgt := 91) dX8_takesLength_84 (by decide) (iC 0 (by decide)) (fun c_84 => ?_) (fun c_84 => ?_)
        · refine j_iconst (v := 0) dX8_takesLength_91 (by decide) ?_
          refine j_iadd dX8_takesLength_92 ?_
          refine j_puti dX8_takesLength_93 hB fp_X8_takesLength_125 (by first | exact h0.1 | exact h0.2.1 | exact h0.2.2.1 | exact h0.2.2.2.1 | exact h0.2.2.2.2.1 | exact h0.2.2.2.2.2.1 | exact h0.2.2.2.2.2.2.1 | exact h0.2.2.2.2.2.2.2.1 | exact h0.2.2.2.2.2.2.2.2) (by rfl) ?_
          rw [Int32.add_zero, jset_self]
          refine j_iload_n dX8_takesLength_96 rfl ?_
          refine m_if_ne (tgt := 126) dX8_takesLength_97 (by decide) (iC 0 (by decide)) (fun c_97 => ?_) (fun c_97 => ?_)
          · exact absurd c_97 (by decide)
          · refine j_aload_n dX8_takesLength_100 rfl ?_
            refine j_geti dX8_takesLength_101 hB fl_X8_125 (by first | exact h0.1 | exact h0.2.1 | exact h0.2.2.1 | exact h0.2.2.2.1 | exact h0.2.2.2.2.1 | exact h0.2.2.2.2.2.1 | exact h0.2.2.2.2.2.2.1 | exact h0.2.2.2.2.2.2.2.1 | exact h0.2.2.2.2.2.2.2.2) (by rfl) ?_
            refine m_if_le (tgt := 130) dX8_takesLength_104 (by decide) (iV) (fun c_104 => ?_) (fun c_104 => ?_)
            · refine j_iconst (v := 0) dX8_takesLength_130 (by decide) ?_
              refine j_iret dX8_takesLength_131 rfl (by first | decide | exact m_nrB (by assumption)) (by decide) (by decide) ?_
              exact tkQ.no mKp.rf (rno0 h0' c0 c1 hc44 (by rw [hN]; omega) (fun z9 => c_39 (by rw [hN] at z9; omega)) (fun z9 => by rw [hN] at z9; have := (g7 h0').mpr z9.2; omega))
            · refine j_aload_n dX8_takesLength_107 rfl ?_
              refine j_iload_n dX8_takesLength_108 rfl ?_
              refine j_bipush (v := 58) dX8_takesLength_109 (by decide) ?_
              refine m_icmp_ne (tgt := 118) dX8_takesLength_111 (by decide) (iV) (iC 58 (by decide)) (fun c_111 => ?_) (fun c_111 => ?_)
              · refine j_iconst (v := 0) dX8_takesLength_118 (by decide) ?_
                refine j_iconst (v := 1) dX8_takesLength_119 (by decide) ?_
                refine j_cVi dX8_takesLength_120 hB mo_X8_goes ml_X8_131 (sp_X8_goes hB h0 (P := c.toInt = 58) (Or.inr ⟨rfl, c_111⟩)) (by first | exact h0.1 | exact h0.2.1 | exact h0.2.2.1 | exact h0.2.2.2.1 | exact h0.2.2.2.2.1 | exact h0.2.2.2.2.2.1 | exact h0.2.2.2.2.2.2.1 | exact h0.2.2.2.2.2.2.2.1 | exact h0.2.2.2.2.2.2.2.2) rfl rfl rfl rfl ⟨rfl, rfl, by decide, by decide⟩ (Nat.le_of_ble_eq_true rfl) ⟨by decide, by decide⟩ (fun r_120 V_120 h_120 => ?_)
                obtain ⟨rfl, hgP, hgN⟩ := h_120
                refine m_if_eq (tgt := 130) dX8_takesLength_123 (by decide) (iC 0 (by decide)) (fun c_123 => ?_) (fun c_123 => ?_)
                · refine j_iconst (v := 0) dX8_takesLength_130 (by decide) ?_
                  refine j_iret dX8_takesLength_131 rfl (by first | decide | exact m_nrB (by assumption)) (by decide) (by decide) ?_
                  exact tkQ.no (by rw [hgN c_111]; exact mKp.rf) (rno0 h0' c0 c1 hc44 (by rw [hN]; omega) (fun z9 => c_39 (by rw [hN] at z9; omega)) (fun z9 => c_111 z9.1))
                · exact absurd c_123 (by decide)
              · refine j_iconst (v := 1) dX8_takesLength_114 (by decide) ?_
                refine j_goto (tgt := 119) dX8_takesLength_115 (by decide) ?_
                refine j_iconst (v := 1) dX8_takesLength_119 (by decide) ?_
                refine j_cVi dX8_takesLength_120 hB mo_X8_goes ml_X8_131 (sp_X8_goes hB h0 (P := c.toInt = 58) (Or.inl ⟨rfl, c_111⟩)) (by first | exact h0.1 | exact h0.2.1 | exact h0.2.2.1 | exact h0.2.2.2.1 | exact h0.2.2.2.2.1 | exact h0.2.2.2.2.2.1 | exact h0.2.2.2.2.2.2.1 | exact h0.2.2.2.2.2.2.2.1 | exact h0.2.2.2.2.2.2.2.2) rfl rfl rfl rfl ⟨rfl, rfl, by decide, by decide⟩ (Nat.le_of_ble_eq_true rfl) ⟨by decide, by decide⟩ (fun r_120 V_120 h_120 => ?_)
                obtain ⟨rfl, hgP, hgN⟩ := h_120
                refine m_if_eq (tgt := 130) dX8_takesLength_123 (by decide) (iC 1 (by decide)) (fun c_123 => ?_) (fun c_123 => ?_)
                · exact absurd c_123 (by decide)
                · refine j_iconst (v := 1) dX8_takesLength_126 (by decide) ?_
                  refine j_goto (tgt := 131) dX8_takesLength_127 (by decide) ?_
                  refine j_iret dX8_takesLength_131 rfl (by first | decide | exact m_nrB (by assumption)) (by decide) (by decide) ?_
                  have hdp : 0 < (atZ t.1 m).toInt := (g7 h0').mp c_104
                  refine tkQ.yes (n := m) (t' := rGo t 1) (by rw [hgP c_111]; exact (mKp.rf.sf (by omega)).sf (by omega)) (Or.inr (Or.inl ⟨c_111, h0', Or.inl ⟨h0', by rw [hN]; exact hdp⟩, rfl⟩)) ?_
                  rw [hgP c_111]
                  refine ⟨g1, by rw [jset_ne (Or.inr (by omega)), jset_ne (Or.inr (by omega))]; exact g2, by rw [jset_ne (Or.inr (by omega)), jset_eq]; rfl, by rw [jset_row (by omega), jset_row (by omega)]; exact g4, by rw [jset_eq]; decide, by rw [jset_eq, ti_0]; omega, fun z9 => absurd z9 (show ¬ (1 : Int32) = 0 by decide), fun z9 => absurd z9 (show ¬ (1 : Int32) = 5 by decide)⟩
        · exact absurd c_84 (by decide)
      · exact absurd c_59 (by decide)
    · refine j_iconst (v := 1) dX8_takesLength_42 (by decide) ?_
      refine j_goto (tgt := 47) dX8_takesLength_43 (by decide) ?_
      refine j_istore_n (L' := [(0, _), (1, _), (2, _), (3, _)]) dX8_takesLength_47 (by decide) rfl ?_
      refine j_aload_n dX8_takesLength_48 rfl ?_
      refine j_getr dX8_takesLength_49 hB fl_X8_31 (by first | exact h0.1 | exact h0.2.1 | exact h0.2.2.1 | exact h0.2.2.2.1 | exact h0.2.2.2.2.1 | exact h0.2.2.2.2.2.1 | exact h0.2.2.2.2.2.2.1 | exact h0.2.2.2.2.2.2.2.1 | exact h0.2.2.2.2.2.2.2.2) (by rfl) ?_
      refine j_iconst (v := 4) dX8_takesLength_52 (by decide) ?_
      refine j_aload_n dX8_takesLength_53 rfl ?_
      refine j_geti dX8_takesLength_54 hB fl_X8_128 (by first | exact h0.1 | exact h0.2.1 | exact h0.2.2.1 | exact h0.2.2.2.1 | exact h0.2.2.2.2.1 | exact h0.2.2.2.2.2.1 | exact h0.2.2.2.2.2.2.1 | exact h0.2.2.2.2.2.2.2.1 | exact h0.2.2.2.2.2.2.2.2) (by rfl) ?_
      refine j_imul dX8_takesLength_57 ?_
      refine j_iload_n dX8_takesLength_58 rfl ?_
      refine m_if_eq (tgt := 66) dX8_takesLength_59 (by decide) (iC 1 (by decide)) (fun c_59 => ?_) (fun c_59 => ?_)
      · exact absurd c_59 (by decide)
      · refine j_iload_n dX8_takesLength_62 rfl ?_
        refine j_goto (tgt := 77) dX8_takesLength_63 (by decide) ?_
        refine m_iast (k := 4 * m) dX8_takesLength_77 hB (by first | exact h0.1 | exact h0.2.1 | exact h0.2.2.1 | exact h0.2.2.2.1 | exact h0.2.2.2.2.1 | exact h0.2.2.2.2.2.1 | exact h0.2.2.2.2.2.2.1 | exact h0.2.2.2.2.2.2.2.1 | exact h0.2.2.2.2.2.2.2.2) (ixk (iM (iC 4 (by decide)) (g2) (by omega)) (by omega)) (by omega) ?_
        generalize hV1 : jset V (q + 8) (4 * m) (10 * V (q + 8) (4 * m) + c - 48) = V1
        have d12 : isI (V1 q 12) (V q 12).toInt := by rw [← hV1, jset_row (by omega)]
        refine j_aload_n dX8_takesLength_78 rfl ?_
        refine j_dup dX8_takesLength_79 rfl ?_
        refine j_geti dX8_takesLength_80 hB fl_X8_125 (by first | exact h0.1 | exact h0.2.1 | exact h0.2.2.1 | exact h0.2.2.2.1 | exact h0.2.2.2.2.1 | exact h0.2.2.2.2.2.1 | exact h0.2.2.2.2.2.2.1 | exact h0.2.2.2.2.2.2.2.1 | exact h0.2.2.2.2.2.2.2.2) (by rfl) ?_
        refine j_iload_n dX8_takesLength_83 rfl ?_
        refine m_if_eq (tgt := 91) dX8_takesLength_84 (by decide) (iC 1 (by decide)) (fun c_84 => ?_) (fun c_84 => ?_)
        · exact absurd c_84 (by decide)
        · refine j_iconst (v := 1) dX8_takesLength_87 (by decide) ?_
          refine j_goto (tgt := 92) dX8_takesLength_88 (by decide) ?_
          refine j_iadd dX8_takesLength_92 ?_
          refine j_puti dX8_takesLength_93 hB fp_X8_takesLength_125 (by first | exact h0.1 | exact h0.2.1 | exact h0.2.2.1 | exact h0.2.2.2.1 | exact h0.2.2.2.2.1 | exact h0.2.2.2.2.2.1 | exact h0.2.2.2.2.2.2.1 | exact h0.2.2.2.2.2.2.2.1 | exact h0.2.2.2.2.2.2.2.2) (by rfl) ?_
          generalize hV2 : jset V1 q 12 (V1 q 12 + 1) = V2
          have f12 : (V2 q 12).toInt = (V q 12).toInt + 1 := by rw [← hV2, jset_eq]; exact iA d12 (iC 1 (by decide)) (by omega)
          have f11 : V2 q 11 = V q 11 := by rw [← hV2, jset_ne (Or.inr (by omega)), ← hV1, jset_row (by omega)]
          have f13 : V2 q 13 = V q 13 := by rw [← hV2, jset_ne (Or.inr (by omega)), ← hV1, jset_row (by omega)]
          have z8 : ∀ i, ¬ i = 4 * m → V2 (q + 8) i = V (q + 8) i := fun i hi => by rw [← hV2, jset_row (by omega), ← hV1, jset_ne (Or.inr hi)]
          have z8v : V2 (q + 8) (4 * m) = 10 * V (q + 8) (4 * m) + c - 48 := by rw [← hV2, jset_row (by omega), ← hV1, jset_eq]
          have ak : mKp V V2 q := by rw [← hV2, ← hV1]; exact (mKp.rf.s8).sf (by omega)
          refine j_iload_n dX8_takesLength_96 rfl ?_
          refine m_if_ne (tgt := 126) dX8_takesLength_97 (by decide) (iC 1 (by decide)) (fun c_97 => ?_) (fun c_97 => ?_)
          · refine j_iconst (v := 1) dX8_takesLength_126 (by decide) ?_
            refine j_goto (tgt := 131) dX8_takesLength_127 (by decide) ?_
            refine j_iret dX8_takesLength_131 rfl (by first | decide | exact m_nrB (by assumption)) (by decide) (by decide) ?_
            obtain ⟨hx, hxe⟩ := add_cs (x := atZ t.1 m) (k := 0) (by omega) (by omega) c0 c1
            have e8 : V (q + 8) (4 * m) = atZ t.1 m := g4m.1
            rw [e8, hxe] at z8v
            generalize hvv : 10 * atZ t.1 m + (c - 48) = v at hx z8v
            have hr := rRd_L hN h0' cs (by omega) (by omega) (by omega) (by omega) hvv
            exact tkQ.yes (n := m) ak hr (mRd.L h' f13 f11 f12 z8 z8v h0' (by omega))
          · exact absurd c_97 (by decide)
set_option maxRecDepth 100000 in
set_option maxHeartbeats 4000000 in
theorem sp_X8_takesPace (hB : jB l s0 D) {q : Nat} (h0 : moT T q) {t : tR} {n k : Nat} {c : Int32} (h : mRd V q t n k) (hv : rInv t k) (k60 : k < 60) (c0 : 33 ≤ c.toInt) (c1 : c.toInt ≤ 126) (hc44 : ¬ (c.toInt = 44 ∧ rComp t)) (h5' : t.2.2.2.2 = 5) : Sp l s0 D kX8_takesPace (jR 1 0 0) 0 0 [.ref q, .int c] T V X sz (tkQ T V X sz q t c k) := by
  refine Sp.of pn_X8_takesPace rfl (Nat.le_of_ble_eq_true rfl) ?_
  have hv' := hv
  obtain ⟨m, l1, l2, l3, l4, -, hcu, z1, -⟩ := hv'
  have hmn : m = n := by have := h.1; omega
  subst hmn
  have h' := h
  obtain ⟨g1, g2, g3, g4, g5, g6, g7, g8⟩ := h
  have hN : rN t = (m : Int) := by unfold rN; omega
  have hcl := hcu.L
  have hpl : (V q 11).toInt = t.2.2.2.2.toInt := by rw [g3]
  have hL0 : isI (V (q + 8) (4 * m)) (atZ t.1 m).toInt := congrArg Int32.toInt (g4 m (Nat.le_refl m)).1
  have hP0 : isI (V (q + 8) (4 * m + 3)) (atZ t.2.2.2.1 m).toInt := congrArg Int32.toInt (g4 m (Nat.le_refl m)).2.2.2
  have k48 : (48 : Int32).toInt = 48 := by decide
  have cs : (c - 48).toInt = c.toInt - 48 := by rw [ti_sub (by omega) (by omega), k48]
  have g4m := g4 m (Nat.le_refl m)
  have g8' := g8 h5'
  have hd0 : isI (V q 12) (V q 12).toInt := rfl
  have hp5 : (atZ t.2.2.2.1 m).toInt = 0 ∨ (atZ t.2.2.2.1 m).toInt = 1 ∨ (8 ≤ (atZ t.2.2.2.1 m).toInt ∧ (atZ t.2.2.2.1 m).toInt ≤ 12) ∨ (80 ≤ (atZ t.2.2.2.1 m).toInt ∧ (atZ t.2.2.2.1 m).toInt ≤ 120) := by
    rcases hcu with ⟨z, -⟩ | ⟨z, -⟩ | ⟨z | z, -⟩ | ⟨z, -⟩ | ⟨z, -, -, -, -, -, -, y⟩
    · rw [h5'] at z; exact absurd z (by decide)
    · rw [h5'] at z; exact absurd z (by decide)
    · rw [h5'] at z; exact absurd z (by decide)
    · rw [h5'] at z; exact absurd z (by decide)
    · rw [h5'] at z; exact absurd z (by decide)
    · exact y
  refine j_aload_n dX8_takesPace_0 rfl ?_
  refine j_getr dX8_takesPace_1 hB fl_X8_31 (by first | exact h0.1 | exact h0.2.1 | exact h0.2.2.1 | exact h0.2.2.2.1 | exact h0.2.2.2.2.1 | exact h0.2.2.2.2.2.1 | exact h0.2.2.2.2.2.2.1 | exact h0.2.2.2.2.2.2.2.1 | exact h0.2.2.2.2.2.2.2.2) (by rfl) ?_
  refine j_iconst (v := 4) dX8_takesPace_4 (by decide) ?_
  refine j_aload_n dX8_takesPace_5 rfl ?_
  refine j_geti dX8_takesPace_6 hB fl_X8_128 (by first | exact h0.1 | exact h0.2.1 | exact h0.2.2.1 | exact h0.2.2.2.1 | exact h0.2.2.2.2.1 | exact h0.2.2.2.2.2.1 | exact h0.2.2.2.2.2.2.1 | exact h0.2.2.2.2.2.2.2.1 | exact h0.2.2.2.2.2.2.2.2) (by rfl) ?_
  refine j_imul dX8_takesPace_9 ?_
  refine j_iconst (v := 3) dX8_takesPace_10 (by decide) ?_
  refine j_iadd dX8_takesPace_11 ?_
  refine m_iald (k := 4 * m + 3) dX8_takesPace_12 hB (by first | exact h0.1 | exact h0.2.1 | exact h0.2.2.1 | exact h0.2.2.2.1 | exact h0.2.2.2.2.1 | exact h0.2.2.2.2.2.1 | exact h0.2.2.2.2.2.2.1 | exact h0.2.2.2.2.2.2.2.1 | exact h0.2.2.2.2.2.2.2.2) (ixk (iA (iM (iC 4 (by decide)) (g2) (by omega)) (iC 3 (by decide)) (by omega)) (by omega)) (by omega) ?_
  refine j_istore_n (L' := [(0, _), (1, _), (2, _)]) dX8_takesPace_13 (by decide) rfl ?_
  refine j_bipush (v := 10) dX8_takesPace_14 (by decide) ?_
  refine j_iload_n dX8_takesPace_16 rfl ?_
  refine j_imul dX8_takesPace_17 ?_
  refine j_iload_n dX8_takesPace_18 rfl ?_
  refine j_iadd dX8_takesPace_19 ?_
  refine j_bipush (v := 48) dX8_takesPace_20 (by decide) ?_
  refine j_isub dX8_takesPace_22 ?_
  refine j_istore_n (L' := [(0, _), (1, _), (2, _), (3, _)]) dX8_takesPace_23 (by decide) rfl ?_
  refine j_aload_n dX8_takesPace_24 rfl ?_
  refine j_geti dX8_takesPace_25 hB fl_X8_125 (by first | exact h0.1 | exact h0.2.1 | exact h0.2.2.1 | exact h0.2.2.2.1 | exact h0.2.2.2.2.1 | exact h0.2.2.2.2.2.1 | exact h0.2.2.2.2.2.2.1 | exact h0.2.2.2.2.2.2.2.1 | exact h0.2.2.2.2.2.2.2.2) (by rfl) ?_
  refine m_if_ne (tgt := 50) dX8_takesPace_28 (by decide) (hd0) (fun c_28 => ?_) (fun c_28 => ?_)
  · refine j_iload_n dX8_takesPace_50 rfl ?_
    refine j_bipush (v := 10) dX8_takesPace_51 (by decide) ?_
    refine m_icmp_ge (tgt := 81) dX8_takesPace_53 (by decide) (hP0) (iC 10 (by decide)) (fun c_53 => ?_) (fun c_53 => ?_)
    · refine j_iload_n dX8_takesPace_81 rfl ?_
      refine j_bipush (v := 13) dX8_takesPace_82 (by decide) ?_
      refine m_icmp_ge (tgt := 97) dX8_takesPace_84 (by decide) (hP0) (iC 13 (by decide)) (fun c_84 => ?_) (fun c_84 => ?_)
      · refine j_iconst (v := 0) dX8_takesPace_97 (by decide) ?_
        refine j_istore (L' := [(0, _), (1, _), (2, _), (3, _), (4, _)]) dX8_takesPace_98 (by decide) rfl ?_
        refine j_iload_n dX8_takesPace_100 rfl ?_
        refine j_bipush (v := 48) dX8_takesPace_101 (by decide) ?_
        refine j_bipush (v := 57) dX8_takesPace_103 (by decide) ?_
        refine j_cSi dX8_takesPace_105 hB mo_X8_within ml_X8_38 (sp_X8_within hB  (iV) (iC 48 (by decide)) (iC 57 (by decide))) rfl rfl ⟨rfl, rfl, by decide, by decide⟩ (Nat.le_of_ble_eq_true rfl) ⟨by decide, by decide⟩ (fun r_105 V_105 h_105 => ?_)
        obtain ⟨rfl, b_105⟩ := h_105
        replace b_105 : bQ _ (48 ≤ c.toInt ∧ c.toInt ≤ 57) := b_105.cg (by omega)
        refine m_ifeqB (tgt := 120) dX8_takesPace_108 (by decide) b_105 (fun c_108 => ?_) (fun c_108 => ?_)
        · refine j_iconst (v := 0) dX8_takesPace_120 (by decide) ?_
          refine j_istore (L' := [(0, _), (1, _), (2, _), (3, _), (4, _), (5, _)]) dX8_takesPace_121 (by decide) rfl ?_
          refine j_aload_n dX8_takesPace_123 rfl ?_
          refine j_getr dX8_takesPace_124 hB fl_X8_31 (by first | exact h0.1 | exact h0.2.1 | exact h0.2.2.1 | exact h0.2.2.2.1 | exact h0.2.2.2.2.1 | exact h0.2.2.2.2.2.1 | exact h0.2.2.2.2.2.2.1 | exact h0.2.2.2.2.2.2.2.1 | exact h0.2.2.2.2.2.2.2.2) (by rfl) ?_
          refine j_iconst (v := 4) dX8_takesPace_127 (by decide) ?_
          refine j_aload_n dX8_takesPace_128 rfl ?_
          refine j_geti dX8_takesPace_129 hB fl_X8_128 (by first | exact h0.1 | exact h0.2.1 | exact h0.2.2.1 | exact h0.2.2.2.1 | exact h0.2.2.2.2.1 | exact h0.2.2.2.2.2.1 | exact h0.2.2.2.2.2.2.1 | exact h0.2.2.2.2.2.2.2.1 | exact h0.2.2.2.2.2.2.2.2) (by rfl) ?_
          refine j_imul dX8_takesPace_132 ?_
          refine j_iconst (v := 3) dX8_takesPace_133 (by decide) ?_
          refine j_iadd dX8_takesPace_134 ?_
          refine j_iload dX8_takesPace_135 rfl ?_
          refine m_if_eq (tgt := 144) dX8_takesPace_137 (by decide) (iC 0 (by decide)) (fun c_137 => ?_) (fun c_137 => ?_)
          · refine j_iload_n dX8_takesPace_144 rfl ?_
            refine m_iast (k := 4 * m + 3) dX8_takesPace_145 hB (by first | exact h0.1 | exact h0.2.1 | exact h0.2.2.1 | exact h0.2.2.2.1 | exact h0.2.2.2.2.1 | exact h0.2.2.2.2.2.1 | exact h0.2.2.2.2.2.2.1 | exact h0.2.2.2.2.2.2.2.1 | exact h0.2.2.2.2.2.2.2.2) (ixk (iA (iM (iC 4 (by decide)) (g2) (by omega)) (iC 3 (by decide)) (by omega)) (by omega)) (by omega) ?_
            rw [jset_self]
            refine j_aload_n dX8_takesPace_146 rfl ?_
            refine j_dup dX8_takesPace_147 rfl ?_
            refine j_geti dX8_takesPace_148 hB fl_X8_125 (by first | exact h0.1 | exact h0.2.1 | exact h0.2.2.1 | exact h0.2.2.2.1 | exact h0.2.2.2.2.1 | exact h0.2.2.2.2.2.1 | exact h0.2.2.2.2.2.2.1 | exact h0.2.2.2.2.2.2.2.1 | exact h0.2.2.2.2.2.2.2.2) (by rfl) ?_
            refine j_iload dX8_takesPace_151 rfl ?_
            refine m_if_eq (tgt := 160) dX8_takesPace_153 (by decide) (iC 0 (by decide)) (fun c_153 => ?_) (fun c_153 => ?_)
            · refine j_iconst (v := 0) dX8_takesPace_160 (by decide) ?_
              refine j_iadd dX8_takesPace_161 ?_
              refine j_puti dX8_takesPace_162 hB fp_X8_takesPace_125 (by first | exact h0.1 | exact h0.2.1 | exact h0.2.2.1 | exact h0.2.2.2.1 | exact h0.2.2.2.2.1 | exact h0.2.2.2.2.2.1 | exact h0.2.2.2.2.2.2.1 | exact h0.2.2.2.2.2.2.2.1 | exact h0.2.2.2.2.2.2.2.2) (by rfl) ?_
              rw [Int32.add_zero, jset_self]
              refine j_iload dX8_takesPace_165 rfl ?_
              refine j_iret dX8_takesPace_167 rfl (by first | decide | exact m_nrB (by assumption)) (by decide) (by decide) ?_
              exact tkQ.no mKp.rf (rno5 h5' c0 c1 hc44 (by rw [hN]; omega))
            · exact absurd c_153 (by decide)
          · exact absurd c_137 (by decide)
        · refine j_iload dX8_takesPace_111 rfl ?_
          refine m_if_eq (tgt := 120) dX8_takesPace_113 (by decide) (iC 0 (by decide)) (fun c_113 => ?_) (fun c_113 => ?_)
          · refine j_iconst (v := 0) dX8_takesPace_120 (by decide) ?_
            refine j_istore (L' := [(0, _), (1, _), (2, _), (3, _), (4, _), (5, _)]) dX8_takesPace_121 (by decide) rfl ?_
            refine j_aload_n dX8_takesPace_123 rfl ?_
            refine j_getr dX8_takesPace_124 hB fl_X8_31 (by first | exact h0.1 | exact h0.2.1 | exact h0.2.2.1 | exact h0.2.2.2.1 | exact h0.2.2.2.2.1 | exact h0.2.2.2.2.2.1 | exact h0.2.2.2.2.2.2.1 | exact h0.2.2.2.2.2.2.2.1 | exact h0.2.2.2.2.2.2.2.2) (by rfl) ?_
            refine j_iconst (v := 4) dX8_takesPace_127 (by decide) ?_
            refine j_aload_n dX8_takesPace_128 rfl ?_
            refine j_geti dX8_takesPace_129 hB fl_X8_128 (by first | exact h0.1 | exact h0.2.1 | exact h0.2.2.1 | exact h0.2.2.2.1 | exact h0.2.2.2.2.1 | exact h0.2.2.2.2.2.1 | exact h0.2.2.2.2.2.2.1 | exact h0.2.2.2.2.2.2.2.1 | exact h0.2.2.2.2.2.2.2.2) (by rfl) ?_
            refine j_imul dX8_takesPace_132 ?_
            refine j_iconst (v := 3) dX8_takesPace_133 (by decide) ?_
            refine j_iadd dX8_takesPace_134 ?_
            refine j_iload dX8_takesPace_135 rfl ?_
            refine m_if_eq (tgt := 144) dX8_takesPace_137 (by decide) (iC 0 (by decide)) (fun c_137 => ?_) (fun c_137 => ?_)
            · refine j_iload_n dX8_takesPace_144 rfl ?_
              refine m_iast (k := 4 * m + 3) dX8_takesPace_145 hB (by first | exact h0.1 | exact h0.2.1 | exact h0.2.2.1 | exact h0.2.2.2.1 | exact h0.2.2.2.2.1 | exact h0.2.2.2.2.2.1 | exact h0.2.2.2.2.2.2.1 | exact h0.2.2.2.2.2.2.2.1 | exact h0.2.2.2.2.2.2.2.2) (ixk (iA (iM (iC 4 (by decide)) (g2) (by omega)) (iC 3 (by decide)) (by omega)) (by omega)) (by omega) ?_
              rw [jset_self]
              refine j_aload_n dX8_takesPace_146 rfl ?_
              refine j_dup dX8_takesPace_147 rfl ?_
              refine j_geti dX8_takesPace_148 hB fl_X8_125 (by first | exact h0.1 | exact h0.2.1 | exact h0.2.2.1 | exact h0.2.2.2.1 | exact h0.2.2.2.2.1 | exact h0.2.2.2.2.2.1 | exact h0.2.2.2.2.2.2.1 | exact h0.2.2.2.2.2.2.2.1 | exact h0.2.2.2.2.2.2.2.2) (by rfl) ?_
              refine j_iload dX8_takesPace_151 rfl ?_
              refine m_if_eq (tgt := 160) dX8_takesPace_153 (by decide) (iC 0 (by decide)) (fun c_153 => ?_) (fun c_153 => ?_)
              · refine j_iconst (v := 0) dX8_takesPace_160 (by decide) ?_
                refine j_iadd dX8_takesPace_161 ?_
                refine j_puti dX8_takesPace_162 hB fp_X8_takesPace_125 (by first | exact h0.1 | exact h0.2.1 | exact h0.2.2.1 | exact h0.2.2.2.1 | exact h0.2.2.2.2.1 | exact h0.2.2.2.2.2.1 | exact h0.2.2.2.2.2.2.1 | exact h0.2.2.2.2.2.2.2.1 | exact h0.2.2.2.2.2.2.2.2) (by rfl) ?_
                rw [Int32.add_zero, jset_self]
                refine j_iload dX8_takesPace_165 rfl ?_
                refine j_iret dX8_takesPace_167 rfl (by first | decide | exact m_nrB (by assumption)) (by decide) (by decide) ?_
                exact tkQ.no mKp.rf (rno5 h5' c0 c1 hc44 (by rw [hN]; omega))
              · exact absurd c_153 (by decide)
            · exact absurd c_137 (by decide)
          · exact absurd c_113 (by decide)
      · refine j_iload_n dX8_takesPace_87 rfl ?_
        refine j_bipush (v := 120) dX8_takesPace_88 (by decide) ?_
        refine m_icmp_gt (tgt := 97) dX8_takesPace_90 (by decide) (iS (iA (iM (iC 10 (by decide)) (hP0) (by omega)) (iV) (by omega)) (iC 48 (by decide)) (by omega)) (iC 120 (by decide)) (fun c_90 => ?_) (fun c_90 => ?_)
        · refine j_iconst (v := 0) dX8_takesPace_97 (by decide) ?_
          refine j_istore (L' := [(0, _), (1, _), (2, _), (3, _), (4, _)]) dX8_takesPace_98 (by decide) rfl ?_
          refine j_iload_n dX8_takesPace_100 rfl ?_
          refine j_bipush (v := 48) dX8_takesPace_101 (by decide) ?_
          refine j_bipush (v := 57) dX8_takesPace_103 (by decide) ?_
          refine j_cSi dX8_takesPace_105 hB mo_X8_within ml_X8_38 (sp_X8_within hB  (iV) (iC 48 (by decide)) (iC 57 (by decide))) rfl rfl ⟨rfl, rfl, by decide, by decide⟩ (Nat.le_of_ble_eq_true rfl) ⟨by decide, by decide⟩ (fun r_105 V_105 h_105 => ?_)
          obtain ⟨rfl, b_105⟩ := h_105
          replace b_105 : bQ _ (48 ≤ c.toInt ∧ c.toInt ≤ 57) := b_105.cg (by omega)
          refine m_ifeqB (tgt := 120) dX8_takesPace_108 (by decide) b_105 (fun c_108 => ?_) (fun c_108 => ?_)
          · refine j_iconst (v := 0) dX8_takesPace_120 (by decide) ?_
            refine j_istore (L' := [(0, _), (1, _), (2, _), (3, _), (4, _), (5, _)]) dX8_takesPace_121 (by decide) rfl ?_
            refine j_aload_n dX8_takesPace_123 rfl ?_
            refine j_getr dX8_takesPace_124 hB fl_X8_31 (by first | exact h0.1 | exact h0.2.1 | exact h0.2.2.1 | exact h0.2.2.2.1 | exact h0.2.2.2.2.1 | exact h0.2.2.2.2.2.1 | exact h0.2.2.2.2.2.2.1 | exact h0.2.2.2.2.2.2.2.1 | exact h0.2.2.2.2.2.2.2.2) (by rfl) ?_
            refine j_iconst (v := 4) dX8_takesPace_127 (by decide) ?_
            refine j_aload_n dX8_takesPace_128 rfl ?_
            refine j_geti dX8_takesPace_129 hB fl_X8_128 (by first | exact h0.1 | exact h0.2.1 | exact h0.2.2.1 | exact h0.2.2.2.1 | exact h0.2.2.2.2.1 | exact h0.2.2.2.2.2.1 | exact h0.2.2.2.2.2.2.1 | exact h0.2.2.2.2.2.2.2.1 | exact h0.2.2.2.2.2.2.2.2) (by rfl) ?_
            refine j_imul dX8_takesPace_132 ?_
            refine j_iconst (v := 3) dX8_takesPace_133 (by decide) ?_
            refine j_iadd dX8_takesPace_134 ?_
            refine j_iload dX8_takesPace_135 rfl ?_
            refine m_if_eq (tgt := 144) dX8_takesPace_137 (by decide) (iC 0 (by decide)) (fun c_137 => ?_) (fun c_137 => ?_)
            · refine j_iload_n dX8_takesPace_144 rfl ?_
              refine m_iast (k := 4 * m + 3) dX8_takesPace_145 hB (by first | exact h0.1 | exact h0.2.1 | exact h0.2.2.1 | exact h0.2.2.2.1 | exact h0.2.2.2.2.1 | exact h0.2.2.2.2.2.1 | exact h0.2.2.2.2.2.2.1 | exact h0.2.2.2.2.2.2.2.1 | exact h0.2.2.2.2.2.2.2.2) (ixk (iA (iM (iC 4 (by decide)) (g2) (by omega)) (iC 3 (by decide)) (by omega)) (by omega)) (by omega) ?_
              rw [jset_self]
              refine j_aload_n dX8_takesPace_146 rfl ?_
              refine j_dup dX8_takesPace_147 rfl ?_
              refine j_geti dX8_takesPace_148 hB fl_X8_125 (by first | exact h0.1 | exact h0.2.1 | exact h0.2.2.1 | exact h0.2.2.2.1 | exact h0.2.2.2.2.1 | exact h0.2.2.2.2.2.1 | exact h0.2.2.2.2.2.2.1 | exact h0.2.2.2.2.2.2.2.1 | exact h0.2.2.2.2.2.2.2.2) (by rfl) ?_
              refine j_iload dX8_takesPace_151 rfl ?_
              refine m_if_eq (tgt := 160) dX8_takesPace_153 (by decide) (iC 0 (by decide)) (fun c_153 => ?_) (fun c_153 => ?_)
              · refine j_iconst (v := 0) dX8_takesPace_160 (by decide) ?_
                refine j_iadd dX8_takesPace_161 ?_
                refine j_puti dX8_takesPace_162 hB fp_X8_takesPace_125 (by first | exact h0.1 | exact h0.2.1 | exact h0.2.2.1 | exact h0.2.2.2.1 | exact h0.2.2.2.2.1 | exact h0.2.2.2.2.2.1 | exact h0.2.2.2.2.2.2.1 | exact h0.2.2.2.2.2.2.2.1 | exact h0.2.2.2.2.2.2.2.2) (by rfl) ?_
                rw [Int32.add_zero, jset_self]
                refine j_iload dX8_takesPace_165 rfl ?_
                refine j_iret dX8_takesPace_167 rfl (by first | decide | exact m_nrB (by assumption)) (by decide) (by decide) ?_
                exact tkQ.no mKp.rf (rno5 h5' c0 c1 hc44 (by rw [hN]; omega))
              · exact absurd c_153 (by decide)
            · exact absurd c_137 (by decide)
          · refine j_iload dX8_takesPace_111 rfl ?_
            refine m_if_eq (tgt := 120) dX8_takesPace_113 (by decide) (iC 0 (by decide)) (fun c_113 => ?_) (fun c_113 => ?_)
            · refine j_iconst (v := 0) dX8_takesPace_120 (by decide) ?_
              refine j_istore (L' := [(0, _), (1, _), (2, _), (3, _), (4, _), (5, _)]) dX8_takesPace_121 (by decide) rfl ?_
              refine j_aload_n dX8_takesPace_123 rfl ?_
              refine j_getr dX8_takesPace_124 hB fl_X8_31 (by first | exact h0.1 | exact h0.2.1 | exact h0.2.2.1 | exact h0.2.2.2.1 | exact h0.2.2.2.2.1 | exact h0.2.2.2.2.2.1 | exact h0.2.2.2.2.2.2.1 | exact h0.2.2.2.2.2.2.2.1 | exact h0.2.2.2.2.2.2.2.2) (by rfl) ?_
              refine j_iconst (v := 4) dX8_takesPace_127 (by decide) ?_
              refine j_aload_n dX8_takesPace_128 rfl ?_
              refine j_geti dX8_takesPace_129 hB fl_X8_128 (by first | exact h0.1 | exact h0.2.1 | exact h0.2.2.1 | exact h0.2.2.2.1 | exact h0.2.2.2.2.1 | exact h0.2.2.2.2.2.1 | exact h0.2.2.2.2.2.2.1 | exact h0.2.2.2.2.2.2.2.1 | exact h0.2.2.2.2.2.2.2.2) (by rfl) ?_
              refine j_imul dX8_takesPace_132 ?_
              refine j_iconst (v := 3) dX8_takesPace_133 (by decide) ?_
              refine j_iadd dX8_takesPace_134 ?_
              refine j_iload dX8_takesPace_135 rfl ?_
              refine m_if_eq (tgt := 144) dX8_takesPace_137 (by decide) (iC 0 (by decide)) (fun c_137 => ?_) (fun c_137 => ?_)
              · refine j_iload_n dX8_takesPace_144 rfl ?_
                refine m_iast (k := 4 * m + 3) dX8_takesPace_145 hB (by first | exact h0.1 | exact h0.2.1 | exact h0.2.2.1 | exact h0.2.2.2.1 | exact h0.2.2.2.2.1 | exact h0.2.2.2.2.2.1 | exact h0.2.2.2.2.2.2.1 | exact h0.2.2.2.2.2.2.2.1 | exact h0.2.2.2.2.2.2.2.2) (ixk (iA (iM (iC 4 (by decide)) (g2) (by omega)) (iC 3 (by decide)) (by omega)) (by omega)) (by omega) ?_
                rw [jset_self]
                refine j_aload_n dX8_takesPace_146 rfl ?_
                refine j_dup dX8_takesPace_147 rfl ?_
                refine j_geti dX8_takesPace_148 hB fl_X8_125 (by first | exact h0.1 | exact h0.2.1 | exact h0.2.2.1 | exact h0.2.2.2.1 | exact h0.2.2.2.2.1 | exact h0.2.2.2.2.2.1 | exact h0.2.2.2.2.2.2.1 | exact h0.2.2.2.2.2.2.2.1 | exact h0.2.2.2.2.2.2.2.2) (by rfl) ?_
                refine j_iload dX8_takesPace_151 rfl ?_
                refine m_if_eq (tgt := 160) dX8_takesPace_153 (by decide) (iC 0 (by decide)) (fun c_153 => ?_) (fun c_153 => ?_)
                · refine j_iconst (v := 0) dX8_takesPace_160 (by decide) ?_
                  refine j_iadd dX8_takesPace_161 ?_
                  refine j_puti dX8_takesPace_162 hB fp_X8_takesPace_125 (by first | exact h0.1 | exact h0.2.1 | exact h0.2.2.1 | exact h0.2.2.2.1 | exact h0.2.2.2.2.1 | exact h0.2.2.2.2.2.1 | exact h0.2.2.2.2.2.2.1 | exact h0.2.2.2.2.2.2.2.1 | exact h0.2.2.2.2.2.2.2.2) (by rfl) ?_
                  rw [Int32.add_zero, jset_self]
                  refine j_iload dX8_takesPace_165 rfl ?_
                  refine j_iret dX8_takesPace_167 rfl (by first | decide | exact m_nrB (by assumption)) (by decide) (by decide) ?_
                  exact tkQ.no mKp.rf (rno5 h5' c0 c1 hc44 (by rw [hN]; omega))
                · exact absurd c_153 (by decide)
              · exact absurd c_137 (by decide)
            · exact absurd c_113 (by decide)
        · refine j_iconst (v := 1) dX8_takesPace_93 (by decide) ?_
          refine j_goto (tgt := 98) dX8_takesPace_94 (by decide) ?_
          refine j_istore (L' := [(0, _), (1, _), (2, _), (3, _), (4, _)]) dX8_takesPace_98 (by decide) rfl ?_
          refine j_iload_n dX8_takesPace_100 rfl ?_
          refine j_bipush (v := 48) dX8_takesPace_101 (by decide) ?_
          refine j_bipush (v := 57) dX8_takesPace_103 (by decide) ?_
          refine j_cSi dX8_takesPace_105 hB mo_X8_within ml_X8_38 (sp_X8_within hB  (iV) (iC 48 (by decide)) (iC 57 (by decide))) rfl rfl ⟨rfl, rfl, by decide, by decide⟩ (Nat.le_of_ble_eq_true rfl) ⟨by decide, by decide⟩ (fun r_105 V_105 h_105 => ?_)
          obtain ⟨rfl, b_105⟩ := h_105
          replace b_105 : bQ _ (48 ≤ c.toInt ∧ c.toInt ≤ 57) := b_105.cg (by omega)
          refine m_ifeqB (tgt := 120) dX8_takesPace_108 (by decide) b_105 (fun c_108 => ?_) (fun c_108 => ?_)
          · refine j_iconst (v := 0) dX8_takesPace_120 (by decide) ?_
            refine j_istore (L' := [(0, _), (1, _), (2, _), (3, _), (4, _), (5, _)]) dX8_takesPace_121 (by decide) rfl ?_
            refine j_aload_n dX8_takesPace_123 rfl ?_
            refine j_getr dX8_takesPace_124 hB fl_X8_31 (by first | exact h0.1 | exact h0.2.1 | exact h0.2.2.1 | exact h0.2.2.2.1 | exact h0.2.2.2.2.1 | exact h0.2.2.2.2.2.1 | exact h0.2.2.2.2.2.2.1 | exact h0.2.2.2.2.2.2.2.1 | exact h0.2.2.2.2.2.2.2.2) (by rfl) ?_
            refine j_iconst (v := 4) dX8_takesPace_127 (by decide) ?_
            refine j_aload_n dX8_takesPace_128 rfl ?_
            refine j_geti dX8_takesPace_129 hB fl_X8_128 (by first | exact h0.1 | exact h0.2.1 | exact h0.2.2.1 | exact h0.2.2.2.1 | exact h0.2.2.2.2.1 | exact h0.2.2.2.2.2.1 | exact h0.2.2.2.2.2.2.1 | exact h0.2.2.2.2.2.2.2.1 | exact h0.2.2.2.2.2.2.2.2) (by rfl) ?_
            refine j_imul dX8_takesPace_132 ?_
            refine j_iconst (v := 3) dX8_takesPace_133 (by decide) ?_
            refine j_iadd dX8_takesPace_134 ?_
            refine j_iload dX8_takesPace_135 rfl ?_
            refine m_if_eq (tgt := 144) dX8_takesPace_137 (by decide) (iC 0 (by decide)) (fun c_137 => ?_) (fun c_137 => ?_)
            · refine j_iload_n dX8_takesPace_144 rfl ?_
              refine m_iast (k := 4 * m + 3) dX8_takesPace_145 hB (by first | exact h0.1 | exact h0.2.1 | exact h0.2.2.1 | exact h0.2.2.2.1 | exact h0.2.2.2.2.1 | exact h0.2.2.2.2.2.1 | exact h0.2.2.2.2.2.2.1 | exact h0.2.2.2.2.2.2.2.1 | exact h0.2.2.2.2.2.2.2.2) (ixk (iA (iM (iC 4 (by decide)) (g2) (by omega)) (iC 3 (by decide)) (by omega)) (by omega)) (by omega) ?_
              rw [jset_self]
              refine j_aload_n dX8_takesPace_146 rfl ?_
              refine j_dup dX8_takesPace_147 rfl ?_
              refine j_geti dX8_takesPace_148 hB fl_X8_125 (by first | exact h0.1 | exact h0.2.1 | exact h0.2.2.1 | exact h0.2.2.2.1 | exact h0.2.2.2.2.1 | exact h0.2.2.2.2.2.1 | exact h0.2.2.2.2.2.2.1 | exact h0.2.2.2.2.2.2.2.1 | exact h0.2.2.2.2.2.2.2.2) (by rfl) ?_
              refine j_iload dX8_takesPace_151 rfl ?_
              refine m_if_eq (tgt := 160) dX8_takesPace_153 (by decide) (iC 0 (by decide)) (fun c_153 => ?_) (fun c_153 => ?_)
              · refine j_iconst (v := 0) dX8_takesPace_160 (by decide) ?_
                refine j_iadd dX8_takesPace_161 ?_
                refine j_puti dX8_takesPace_162 hB fp_X8_takesPace_125 (by first | exact h0.1 | exact h0.2.1 | exact h0.2.2.1 | exact h0.2.2.2.1 | exact h0.2.2.2.2.1 | exact h0.2.2.2.2.2.1 | exact h0.2.2.2.2.2.2.1 | exact h0.2.2.2.2.2.2.2.1 | exact h0.2.2.2.2.2.2.2.2) (by rfl) ?_
                rw [Int32.add_zero, jset_self]
                refine j_iload dX8_takesPace_165 rfl ?_
                refine j_iret dX8_takesPace_167 rfl (by first | decide | exact m_nrB (by assumption)) (by decide) (by decide) ?_
                exact tkQ.no mKp.rf (rno5 h5' c0 c1 hc44 (by rw [hN]; omega))
              · exact absurd c_153 (by decide)
            · exact absurd c_137 (by decide)
          · refine j_iload dX8_takesPace_111 rfl ?_
            refine m_if_eq (tgt := 120) dX8_takesPace_113 (by decide) (iC 1 (by decide)) (fun c_113 => ?_) (fun c_113 => ?_)
            · exact absurd c_113 (by decide)
            · refine j_iconst (v := 1) dX8_takesPace_116 (by decide) ?_
              refine j_goto (tgt := 121) dX8_takesPace_117 (by decide) ?_
              refine j_istore (L' := [(0, _), (1, _), (2, _), (3, _), (4, _), (5, _)]) dX8_takesPace_121 (by decide) rfl ?_
              refine j_aload_n dX8_takesPace_123 rfl ?_
              refine j_getr dX8_takesPace_124 hB fl_X8_31 (by first | exact h0.1 | exact h0.2.1 | exact h0.2.2.1 | exact h0.2.2.2.1 | exact h0.2.2.2.2.1 | exact h0.2.2.2.2.2.1 | exact h0.2.2.2.2.2.2.1 | exact h0.2.2.2.2.2.2.2.1 | exact h0.2.2.2.2.2.2.2.2) (by rfl) ?_
              refine j_iconst (v := 4) dX8_takesPace_127 (by decide) ?_
              refine j_aload_n dX8_takesPace_128 rfl ?_
              refine j_geti dX8_takesPace_129 hB fl_X8_128 (by first | exact h0.1 | exact h0.2.1 | exact h0.2.2.1 | exact h0.2.2.2.1 | exact h0.2.2.2.2.1 | exact h0.2.2.2.2.2.1 | exact h0.2.2.2.2.2.2.1 | exact h0.2.2.2.2.2.2.2.1 | exact h0.2.2.2.2.2.2.2.2) (by rfl) ?_
              refine j_imul dX8_takesPace_132 ?_
              refine j_iconst (v := 3) dX8_takesPace_133 (by decide) ?_
              refine j_iadd dX8_takesPace_134 ?_
              refine j_iload dX8_takesPace_135 rfl ?_
              refine m_if_eq (tgt := 144) dX8_takesPace_137 (by decide) (iC 1 (by decide)) (fun c_137 => ?_) (fun c_137 => ?_)
              · exact absurd c_137 (by decide)
              · refine j_iload_n dX8_takesPace_140 rfl ?_
                refine j_goto (tgt := 145) dX8_takesPace_141 (by decide) ?_
                refine m_iast (k := 4 * m + 3) dX8_takesPace_145 hB (by first | exact h0.1 | exact h0.2.1 | exact h0.2.2.1 | exact h0.2.2.2.1 | exact h0.2.2.2.2.1 | exact h0.2.2.2.2.2.1 | exact h0.2.2.2.2.2.2.1 | exact h0.2.2.2.2.2.2.2.1 | exact h0.2.2.2.2.2.2.2.2) (ixk (iA (iM (iC 4 (by decide)) (g2) (by omega)) (iC 3 (by decide)) (by omega)) (by omega)) (by omega) ?_
                generalize hV1 : jset V (q + 8) (4 * m + 3) (10 * V (q + 8) (4 * m + 3) + c - 48) = V1
                have d12 : isI (V1 q 12) (V q 12).toInt := by rw [← hV1, jset_row (by omega)]
                refine j_aload_n dX8_takesPace_146 rfl ?_
                refine j_dup dX8_takesPace_147 rfl ?_
                refine j_geti dX8_takesPace_148 hB fl_X8_125 (by first | exact h0.1 | exact h0.2.1 | exact h0.2.2.1 | exact h0.2.2.2.1 | exact h0.2.2.2.2.1 | exact h0.2.2.2.2.2.1 | exact h0.2.2.2.2.2.2.1 | exact h0.2.2.2.2.2.2.2.1 | exact h0.2.2.2.2.2.2.2.2) (by rfl) ?_
                refine j_iload dX8_takesPace_151 rfl ?_
                refine m_if_eq (tgt := 160) dX8_takesPace_153 (by decide) (iC 1 (by decide)) (fun c_153 => ?_) (fun c_153 => ?_)
                · exact absurd c_153 (by decide)
                · refine j_iconst (v := 1) dX8_takesPace_156 (by decide) ?_
                  refine j_goto (tgt := 161) dX8_takesPace_157 (by decide) ?_
                  refine j_iadd dX8_takesPace_161 ?_
                  refine j_puti dX8_takesPace_162 hB fp_X8_takesPace_125 (by first | exact h0.1 | exact h0.2.1 | exact h0.2.2.1 | exact h0.2.2.2.1 | exact h0.2.2.2.2.1 | exact h0.2.2.2.2.2.1 | exact h0.2.2.2.2.2.2.1 | exact h0.2.2.2.2.2.2.2.1 | exact h0.2.2.2.2.2.2.2.2) (by rfl) ?_
                  generalize hV2 : jset V1 q 12 (V1 q 12 + 1) = V2
                  have f12 : (V2 q 12).toInt = (V q 12).toInt + 1 := by rw [← hV2, jset_eq]; exact iA d12 (iC 1 (by decide)) (by omega)
                  have f11 : V2 q 11 = V q 11 := by rw [← hV2, jset_ne (Or.inr (by omega)), ← hV1, jset_row (by omega)]
                  have f13 : V2 q 13 = V q 13 := by rw [← hV2, jset_ne (Or.inr (by omega)), ← hV1, jset_row (by omega)]
                  have z8 : ∀ i, ¬ i = 4 * m + 3 → V2 (q + 8) i = V (q + 8) i := fun i hi => by rw [← hV2, jset_row (by omega), ← hV1, jset_ne (Or.inr hi)]
                  have z8v : V2 (q + 8) (4 * m + 3) = 10 * V (q + 8) (4 * m + 3) + c - 48 := by rw [← hV2, jset_row (by omega), ← hV1, jset_eq]
                  have ak : mKp V V2 q := by rw [← hV2, ← hV1]; exact (mKp.rf.s8).sf (by omega)
                  refine j_iload dX8_takesPace_165 rfl ?_
                  refine j_iret dX8_takesPace_167 rfl (by first | decide | exact m_nrB (by assumption)) (by decide) (by decide) ?_
                  obtain ⟨hx, hxe⟩ := add_cs (x := atZ t.2.2.2.1 m) (k := 0) (by omega) (by omega) c0 c1
                  have e8 : V (q + 8) (4 * m + 3) = atZ t.2.2.2.1 m := g4m.2.2.2
                  rw [e8, hxe] at z8v
                  generalize hvv : 10 * atZ t.2.2.2.1 m + (c - 48) = v at hx z8v
                  have hr := rRd_P hN h5' cs (by omega) (by omega) (by omega) hvv
                  exact tkQ.yes (n := m) ak hr (mRd.P h' (by omega) f13 f11 f12 z8 z8v h5' (by omega))
    · refine j_iload_n dX8_takesPace_56 rfl ?_
      refine j_bipush (v := 10) dX8_takesPace_57 (by decide) ?_
      refine j_bipush (v := 12) dX8_takesPace_59 (by decide) ?_
      refine j_cSi dX8_takesPace_61 hB mo_X8_within ml_X8_38 (sp_X8_within hB  (iS (iA (iM (iC 10 (by decide)) (hP0) (by omega)) (iV) (by omega)) (iC 48 (by decide)) (by omega)) (iC 10 (by decide)) (iC 12 (by decide))) rfl rfl ⟨rfl, rfl, by decide, by decide⟩ (Nat.le_of_ble_eq_true rfl) ⟨by decide, by decide⟩ (fun r_61 V_61 h_61 => ?_)
      obtain ⟨rfl, b_61⟩ := h_61
      replace b_61 : bQ _ (10 ≤ 10 * (atZ t.2.2.2.1 m).toInt + c.toInt - 48 ∧ 10 * (atZ t.2.2.2.1 m).toInt + c.toInt - 48 ≤ 12) := b_61.cg (by omega)
      refine m_ifneB (tgt := 73) dX8_takesPace_64 (by decide) b_61 (fun c_64 => ?_) (fun c_64 => ?_)
      · refine j_iconst (v := 1) dX8_takesPace_73 (by decide) ?_
        refine j_goto (tgt := 98) dX8_takesPace_74 (by decide) ?_
        refine j_istore (L' := [(0, _), (1, _), (2, _), (3, _), (4, _)]) dX8_takesPace_98 (by decide) rfl ?_
        refine j_iload_n dX8_takesPace_100 rfl ?_
        refine j_bipush (v := 48) dX8_takesPace_101 (by decide) ?_
        refine j_bipush (v := 57) dX8_takesPace_103 (by decide) ?_
        refine j_cSi dX8_takesPace_105 hB mo_X8_within ml_X8_38 (sp_X8_within hB  (iV) (iC 48 (by decide)) (iC 57 (by decide))) rfl rfl ⟨rfl, rfl, by decide, by decide⟩ (Nat.le_of_ble_eq_true rfl) ⟨by decide, by decide⟩ (fun r_105 V_105 h_105 => ?_)
        obtain ⟨rfl, b_105⟩ := h_105
        replace b_105 : bQ _ (48 ≤ c.toInt ∧ c.toInt ≤ 57) := b_105.cg (by omega)
        refine m_ifeqB (tgt := 120) dX8_takesPace_108 (by decide) b_105 (fun c_108 => ?_) (fun c_108 => ?_)
        · refine j_iconst (v := 0) dX8_takesPace_120 (by decide) ?_
          refine j_istore (L' := [(0, _), (1, _), (2, _), (3, _), (4, _), (5, _)]) dX8_takesPace_121 (by decide) rfl ?_
          refine j_aload_n dX8_takesPace_123 rfl ?_
          refine j_getr dX8_takesPace_124 hB fl_X8_31 (by first | exact h0.1 | exact h0.2.1 | exact h0.2.2.1 | exact h0.2.2.2.1 | exact h0.2.2.2.2.1 | exact h0.2.2.2.2.2.1 | exact h0.2.2.2.2.2.2.1 | exact h0.2.2.2.2.2.2.2.1 | exact h0.2.2.2.2.2.2.2.2) (by rfl) ?_
          refine j_iconst (v := 4) dX8_takesPace_127 (by decide) ?_
          refine j_aload_n dX8_takesPace_128 rfl ?_
          refine j_geti dX8_takesPace_129 hB fl_X8_128 (by first | exact h0.1 | exact h0.2.1 | exact h0.2.2.1 | exact h0.2.2.2.1 | exact h0.2.2.2.2.1 | exact h0.2.2.2.2.2.1 | exact h0.2.2.2.2.2.2.1 | exact h0.2.2.2.2.2.2.2.1 | exact h0.2.2.2.2.2.2.2.2) (by rfl) ?_
          refine j_imul dX8_takesPace_132 ?_
          refine j_iconst (v := 3) dX8_takesPace_133 (by decide) ?_
          refine j_iadd dX8_takesPace_134 ?_
          refine j_iload dX8_takesPace_135 rfl ?_
          refine m_if_eq (tgt := 144) dX8_takesPace_137 (by decide) (iC 0 (by decide)) (fun c_137 => ?_) (fun c_137 => ?_)
          · refine j_iload_n dX8_takesPace_144 rfl ?_
            refine m_iast (k := 4 * m + 3) dX8_takesPace_145 hB (by first | exact h0.1 | exact h0.2.1 | exact h0.2.2.1 | exact h0.2.2.2.1 | exact h0.2.2.2.2.1 | exact h0.2.2.2.2.2.1 | exact h0.2.2.2.2.2.2.1 | exact h0.2.2.2.2.2.2.2.1 | exact h0.2.2.2.2.2.2.2.2) (ixk (iA (iM (iC 4 (by decide)) (g2) (by omega)) (iC 3 (by decide)) (by omega)) (by omega)) (by omega) ?_
            rw [jset_self]
            refine j_aload_n dX8_takesPace_146 rfl ?_
            refine j_dup dX8_takesPace_147 rfl ?_
            refine j_geti dX8_takesPace_148 hB fl_X8_125 (by first | exact h0.1 | exact h0.2.1 | exact h0.2.2.1 | exact h0.2.2.2.1 | exact h0.2.2.2.2.1 | exact h0.2.2.2.2.2.1 | exact h0.2.2.2.2.2.2.1 | exact h0.2.2.2.2.2.2.2.1 | exact h0.2.2.2.2.2.2.2.2) (by rfl) ?_
            refine j_iload dX8_takesPace_151 rfl ?_
            refine m_if_eq (tgt := 160) dX8_takesPace_153 (by decide) (iC 0 (by decide)) (fun c_153 => ?_) (fun c_153 => ?_)
            · refine j_iconst (v := 0) dX8_takesPace_160 (by decide) ?_
              refine j_iadd dX8_takesPace_161 ?_
              refine j_puti dX8_takesPace_162 hB fp_X8_takesPace_125 (by first | exact h0.1 | exact h0.2.1 | exact h0.2.2.1 | exact h0.2.2.2.1 | exact h0.2.2.2.2.1 | exact h0.2.2.2.2.2.1 | exact h0.2.2.2.2.2.2.1 | exact h0.2.2.2.2.2.2.2.1 | exact h0.2.2.2.2.2.2.2.2) (by rfl) ?_
              rw [Int32.add_zero, jset_self]
              refine j_iload dX8_takesPace_165 rfl ?_
              refine j_iret dX8_takesPace_167 rfl (by first | decide | exact m_nrB (by assumption)) (by decide) (by decide) ?_
              exact tkQ.no mKp.rf (rno5 h5' c0 c1 hc44 (by rw [hN]; omega))
            · exact absurd c_153 (by decide)
          · exact absurd c_137 (by decide)
        · refine j_iload dX8_takesPace_111 rfl ?_
          refine m_if_eq (tgt := 120) dX8_takesPace_113 (by decide) (iC 1 (by decide)) (fun c_113 => ?_) (fun c_113 => ?_)
          · exact absurd c_113 (by decide)
          · refine j_iconst (v := 1) dX8_takesPace_116 (by decide) ?_
            refine j_goto (tgt := 121) dX8_takesPace_117 (by decide) ?_
            refine j_istore (L' := [(0, _), (1, _), (2, _), (3, _), (4, _), (5, _)]) dX8_takesPace_121 (by decide) rfl ?_
            refine j_aload_n dX8_takesPace_123 rfl ?_
            refine j_getr dX8_takesPace_124 hB fl_X8_31 (by first | exact h0.1 | exact h0.2.1 | exact h0.2.2.1 | exact h0.2.2.2.1 | exact h0.2.2.2.2.1 | exact h0.2.2.2.2.2.1 | exact h0.2.2.2.2.2.2.1 | exact h0.2.2.2.2.2.2.2.1 | exact h0.2.2.2.2.2.2.2.2) (by rfl) ?_
            refine j_iconst (v := 4) dX8_takesPace_127 (by decide) ?_
            refine j_aload_n dX8_takesPace_128 rfl ?_
            refine j_geti dX8_takesPace_129 hB fl_X8_128 (by first | exact h0.1 | exact h0.2.1 | exact h0.2.2.1 | exact h0.2.2.2.1 | exact h0.2.2.2.2.1 | exact h0.2.2.2.2.2.1 | exact h0.2.2.2.2.2.2.1 | exact h0.2.2.2.2.2.2.2.1 | exact h0.2.2.2.2.2.2.2.2) (by rfl) ?_
            refine j_imul dX8_takesPace_132 ?_
            refine j_iconst (v := 3) dX8_takesPace_133 (by decide) ?_
            refine j_iadd dX8_takesPace_134 ?_
            refine j_iload dX8_takesPace_135 rfl ?_
            refine m_if_eq (tgt := 144) dX8_takesPace_137 (by decide) (iC 1 (by decide)) (fun c_137 => ?_) (fun c_137 => ?_)
            · exact absurd c_137 (by decide)
            · refine j_iload_n dX8_takesPace_140 rfl ?_
              refine j_goto (tgt := 145) dX8_takesPace_141 (by decide) ?_
              refine m_iast (k := 4 * m + 3) dX8_takesPace_145 hB (by first | exact h0.1 | exact h0.2.1 | exact h0.2.2.1 | exact h0.2.2.2.1 | exact h0.2.2.2.2.1 | exact h0.2.2.2.2.2.1 | exact h0.2.2.2.2.2.2.1 | exact h0.2.2.2.2.2.2.2.1 | exact h0.2.2.2.2.2.2.2.2) (ixk (iA (iM (iC 4 (by decide)) (g2) (by omega)) (iC 3 (by decide)) (by omega)) (by omega)) (by omega) ?_
              generalize hV1 : jset V (q + 8) (4 * m + 3) (10 * V (q + 8) (4 * m + 3) + c - 48) = V1
              have d12 : isI (V1 q 12) (V q 12).toInt := by rw [← hV1, jset_row (by omega)]
              refine j_aload_n dX8_takesPace_146 rfl ?_
              refine j_dup dX8_takesPace_147 rfl ?_
              refine j_geti dX8_takesPace_148 hB fl_X8_125 (by first | exact h0.1 | exact h0.2.1 | exact h0.2.2.1 | exact h0.2.2.2.1 | exact h0.2.2.2.2.1 | exact h0.2.2.2.2.2.1 | exact h0.2.2.2.2.2.2.1 | exact h0.2.2.2.2.2.2.2.1 | exact h0.2.2.2.2.2.2.2.2) (by rfl) ?_
              refine j_iload dX8_takesPace_151 rfl ?_
              refine m_if_eq (tgt := 160) dX8_takesPace_153 (by decide) (iC 1 (by decide)) (fun c_153 => ?_) (fun c_153 => ?_)
              · exact absurd c_153 (by decide)
              · refine j_iconst (v := 1) dX8_takesPace_156 (by decide) ?_
                refine j_goto (tgt := 161) dX8_takesPace_157 (by decide) ?_
                refine j_iadd dX8_takesPace_161 ?_
                refine j_puti dX8_takesPace_162 hB fp_X8_takesPace_125 (by first | exact h0.1 | exact h0.2.1 | exact h0.2.2.1 | exact h0.2.2.2.1 | exact h0.2.2.2.2.1 | exact h0.2.2.2.2.2.1 | exact h0.2.2.2.2.2.2.1 | exact h0.2.2.2.2.2.2.2.1 | exact h0.2.2.2.2.2.2.2.2) (by rfl) ?_
                generalize hV2 : jset V1 q 12 (V1 q 12 + 1) = V2
                have f12 : (V2 q 12).toInt = (V q 12).toInt + 1 := by rw [← hV2, jset_eq]; exact iA d12 (iC 1 (by decide)) (by omega)
                have f11 : V2 q 11 = V q 11 := by rw [← hV2, jset_ne (Or.inr (by omega)), ← hV1, jset_row (by omega)]
                have f13 : V2 q 13 = V q 13 := by rw [← hV2, jset_ne (Or.inr (by omega)), ← hV1, jset_row (by omega)]
                have z8 : ∀ i, ¬ i = 4 * m + 3 → V2 (q + 8) i = V (q + 8) i := fun i hi => by rw [← hV2, jset_row (by omega), ← hV1, jset_ne (Or.inr hi)]
                have z8v : V2 (q + 8) (4 * m + 3) = 10 * V (q + 8) (4 * m + 3) + c - 48 := by rw [← hV2, jset_row (by omega), ← hV1, jset_eq]
                have ak : mKp V V2 q := by rw [← hV2, ← hV1]; exact (mKp.rf.s8).sf (by omega)
                refine j_iload dX8_takesPace_165 rfl ?_
                refine j_iret dX8_takesPace_167 rfl (by first | decide | exact m_nrB (by assumption)) (by decide) (by decide) ?_
                obtain ⟨hx, hxe⟩ := add_cs (x := atZ t.2.2.2.1 m) (k := 0) (by omega) (by omega) c0 c1
                have e8 : V (q + 8) (4 * m + 3) = atZ t.2.2.2.1 m := g4m.2.2.2
                rw [e8, hxe] at z8v
                generalize hvv : 10 * atZ t.2.2.2.1 m + (c - 48) = v at hx z8v
                have hr := rRd_P hN h5' cs (by omega) (by omega) (by omega) hvv
                exact tkQ.yes (n := m) ak hr (mRd.P h' (by omega) f13 f11 f12 z8 z8v h5' (by omega))
      · refine j_iload_n dX8_takesPace_67 rfl ?_
        refine j_bipush (v := 79) dX8_takesPace_68 (by decide) ?_
        refine m_icmp_le (tgt := 77) dX8_takesPace_70 (by decide) (iS (iA (iM (iC 10 (by decide)) (hP0) (by omega)) (iV) (by omega)) (iC 48 (by decide)) (by omega)) (iC 79 (by decide)) (fun c_70 => ?_) (fun c_70 => ?_)
        · refine j_iconst (v := 0) dX8_takesPace_77 (by decide) ?_
          refine j_goto (tgt := 98) dX8_takesPace_78 (by decide) ?_
          refine j_istore (L' := [(0, _), (1, _), (2, _), (3, _), (4, _)]) dX8_takesPace_98 (by decide) rfl ?_
          refine j_iload_n dX8_takesPace_100 rfl ?_
          refine j_bipush (v := 48) dX8_takesPace_101 (by decide) ?_
          refine j_bipush (v := 57) dX8_takesPace_103 (by decide) ?_
          refine j_cSi dX8_takesPace_105 hB mo_X8_within ml_X8_38 (sp_X8_within hB  (iV) (iC 48 (by decide)) (iC 57 (by decide))) rfl rfl ⟨rfl, rfl, by decide, by decide⟩ (Nat.le_of_ble_eq_true rfl) ⟨by decide, by decide⟩ (fun r_105 V_105 h_105 => ?_)
          obtain ⟨rfl, b_105⟩ := h_105
          replace b_105 : bQ _ (48 ≤ c.toInt ∧ c.toInt ≤ 57) := b_105.cg (by omega)
          refine m_ifeqB (tgt := 120) dX8_takesPace_108 (by decide) b_105 (fun c_108 => ?_) (fun c_108 => ?_)
          · refine j_iconst (v := 0) dX8_takesPace_120 (by decide) ?_
            refine j_istore (L' := [(0, _), (1, _), (2, _), (3, _), (4, _), (5, _)]) dX8_takesPace_121 (by decide) rfl ?_
            refine j_aload_n dX8_takesPace_123 rfl ?_
            refine j_getr dX8_takesPace_124 hB fl_X8_31 (by first | exact h0.1 | exact h0.2.1 | exact h0.2.2.1 | exact h0.2.2.2.1 | exact h0.2.2.2.2.1 | exact h0.2.2.2.2.2.1 | exact h0.2.2.2.2.2.2.1 | exact h0.2.2.2.2.2.2.2.1 | exact h0.2.2.2.2.2.2.2.2) (by rfl) ?_
            refine j_iconst (v := 4) dX8_takesPace_127 (by decide) ?_
            refine j_aload_n dX8_takesPace_128 rfl ?_
            refine j_geti dX8_takesPace_129 hB fl_X8_128 (by first | exact h0.1 | exact h0.2.1 | exact h0.2.2.1 | exact h0.2.2.2.1 | exact h0.2.2.2.2.1 | exact h0.2.2.2.2.2.1 | exact h0.2.2.2.2.2.2.1 | exact h0.2.2.2.2.2.2.2.1 | exact h0.2.2.2.2.2.2.2.2) (by rfl) ?_
            refine j_imul dX8_takesPace_132 ?_
            refine j_iconst (v := 3) dX8_takesPace_133 (by decide) ?_
            refine j_iadd dX8_takesPace_134 ?_
            refine j_iload dX8_takesPace_135 rfl ?_
            refine m_if_eq (tgt := 144) dX8_takesPace_137 (by decide) (iC 0 (by decide)) (fun c_137 => ?_) (fun c_137 => ?_)
            · refine j_iload_n dX8_takesPace_144 rfl ?_
              refine m_iast (k := 4 * m + 3) dX8_takesPace_145 hB (by first | exact h0.1 | exact h0.2.1 | exact h0.2.2.1 | exact h0.2.2.2.1 | exact h0.2.2.2.2.1 | exact h0.2.2.2.2.2.1 | exact h0.2.2.2.2.2.2.1 | exact h0.2.2.2.2.2.2.2.1 | exact h0.2.2.2.2.2.2.2.2) (ixk (iA (iM (iC 4 (by decide)) (g2) (by omega)) (iC 3 (by decide)) (by omega)) (by omega)) (by omega) ?_
              rw [jset_self]
              refine j_aload_n dX8_takesPace_146 rfl ?_
              refine j_dup dX8_takesPace_147 rfl ?_
              refine j_geti dX8_takesPace_148 hB fl_X8_125 (by first | exact h0.1 | exact h0.2.1 | exact h0.2.2.1 | exact h0.2.2.2.1 | exact h0.2.2.2.2.1 | exact h0.2.2.2.2.2.1 | exact h0.2.2.2.2.2.2.1 | exact h0.2.2.2.2.2.2.2.1 | exact h0.2.2.2.2.2.2.2.2) (by rfl) ?_
              refine j_iload dX8_takesPace_151 rfl ?_
              refine m_if_eq (tgt := 160) dX8_takesPace_153 (by decide) (iC 0 (by decide)) (fun c_153 => ?_) (fun c_153 => ?_)
              · refine j_iconst (v := 0) dX8_takesPace_160 (by decide) ?_
                refine j_iadd dX8_takesPace_161 ?_
                refine j_puti dX8_takesPace_162 hB fp_X8_takesPace_125 (by first | exact h0.1 | exact h0.2.1 | exact h0.2.2.1 | exact h0.2.2.2.1 | exact h0.2.2.2.2.1 | exact h0.2.2.2.2.2.1 | exact h0.2.2.2.2.2.2.1 | exact h0.2.2.2.2.2.2.2.1 | exact h0.2.2.2.2.2.2.2.2) (by rfl) ?_
                rw [Int32.add_zero, jset_self]
                refine j_iload dX8_takesPace_165 rfl ?_
                refine j_iret dX8_takesPace_167 rfl (by first | decide | exact m_nrB (by assumption)) (by decide) (by decide) ?_
                exact tkQ.no mKp.rf (rno5 h5' c0 c1 hc44 (by rw [hN]; omega))
              · exact absurd c_153 (by decide)
            · exact absurd c_137 (by decide)
          · refine j_iload dX8_takesPace_111 rfl ?_
            refine m_if_eq (tgt := 120) dX8_takesPace_113 (by decide) (iC 0 (by decide)) (fun c_113 => ?_) (fun c_113 => ?_)
            · refine j_iconst (v := 0) dX8_takesPace_120 (by decide) ?_
              refine j_istore (L' := [(0, _), (1, _), (2, _), (3, _), (4, _), (5, _)]) dX8_takesPace_121 (by decide) rfl ?_
              refine j_aload_n dX8_takesPace_123 rfl ?_
              refine j_getr dX8_takesPace_124 hB fl_X8_31 (by first | exact h0.1 | exact h0.2.1 | exact h0.2.2.1 | exact h0.2.2.2.1 | exact h0.2.2.2.2.1 | exact h0.2.2.2.2.2.1 | exact h0.2.2.2.2.2.2.1 | exact h0.2.2.2.2.2.2.2.1 | exact h0.2.2.2.2.2.2.2.2) (by rfl) ?_
              refine j_iconst (v := 4) dX8_takesPace_127 (by decide) ?_
              refine j_aload_n dX8_takesPace_128 rfl ?_
              refine j_geti dX8_takesPace_129 hB fl_X8_128 (by first | exact h0.1 | exact h0.2.1 | exact h0.2.2.1 | exact h0.2.2.2.1 | exact h0.2.2.2.2.1 | exact h0.2.2.2.2.2.1 | exact h0.2.2.2.2.2.2.1 | exact h0.2.2.2.2.2.2.2.1 | exact h0.2.2.2.2.2.2.2.2) (by rfl) ?_
              refine j_imul dX8_takesPace_132 ?_
              refine j_iconst (v := 3) dX8_takesPace_133 (by decide) ?_
              refine j_iadd dX8_takesPace_134 ?_
              refine j_iload dX8_takesPace_135 rfl ?_
              refine m_if_eq (tgt := 144) dX8_takesPace_137 (by decide) (iC 0 (by decide)) (fun c_137 => ?_) (fun c_137 => ?_)
              · refine j_iload_n dX8_takesPace_144 rfl ?_
                refine m_iast (k := 4 * m + 3) dX8_takesPace_145 hB (by first | exact h0.1 | exact h0.2.1 | exact h0.2.2.1 | exact h0.2.2.2.1 | exact h0.2.2.2.2.1 | exact h0.2.2.2.2.2.1 | exact h0.2.2.2.2.2.2.1 | exact h0.2.2.2.2.2.2.2.1 | exact h0.2.2.2.2.2.2.2.2) (ixk (iA (iM (iC 4 (by decide)) (g2) (by omega)) (iC 3 (by decide)) (by omega)) (by omega)) (by omega) ?_
                rw [jset_self]
                refine j_aload_n dX8_takesPace_146 rfl ?_
                refine j_dup dX8_takesPace_147 rfl ?_
                refine j_geti dX8_takesPace_148 hB fl_X8_125 (by first | exact h0.1 | exact h0.2.1 | exact h0.2.2.1 | exact h0.2.2.2.1 | exact h0.2.2.2.2.1 | exact h0.2.2.2.2.2.1 | exact h0.2.2.2.2.2.2.1 | exact h0.2.2.2.2.2.2.2.1 | exact h0.2.2.2.2.2.2.2.2) (by rfl) ?_
                refine j_iload dX8_takesPace_151 rfl ?_
                refine m_if_eq (tgt := 160) dX8_takesPace_153 (by decide) (iC 0 (by decide)) (fun c_153 => ?_) (fun c_153 => ?_)
                · refine j_iconst (v := 0) dX8_takesPace_160 (by decide) ?_
                  refine j_iadd dX8_takesPace_161 ?_
                  refine j_puti dX8_takesPace_162 hB fp_X8_takesPace_125 (by first | exact h0.1 | exact h0.2.1 | exact h0.2.2.1 | exact h0.2.2.2.1 | exact h0.2.2.2.2.1 | exact h0.2.2.2.2.2.1 | exact h0.2.2.2.2.2.2.1 | exact h0.2.2.2.2.2.2.2.1 | exact h0.2.2.2.2.2.2.2.2) (by rfl) ?_
                  rw [Int32.add_zero, jset_self]
                  refine j_iload dX8_takesPace_165 rfl ?_
                  refine j_iret dX8_takesPace_167 rfl (by first | decide | exact m_nrB (by assumption)) (by decide) (by decide) ?_
                  exact tkQ.no mKp.rf (rno5 h5' c0 c1 hc44 (by rw [hN]; omega))
                · exact absurd c_153 (by decide)
              · exact absurd c_137 (by decide)
            · exact absurd c_113 (by decide)
        · refine j_iconst (v := 1) dX8_takesPace_73 (by decide) ?_
          refine j_goto (tgt := 98) dX8_takesPace_74 (by decide) ?_
          refine j_istore (L' := [(0, _), (1, _), (2, _), (3, _), (4, _)]) dX8_takesPace_98 (by decide) rfl ?_
          refine j_iload_n dX8_takesPace_100 rfl ?_
          refine j_bipush (v := 48) dX8_takesPace_101 (by decide) ?_
          refine j_bipush (v := 57) dX8_takesPace_103 (by decide) ?_
          refine j_cSi dX8_takesPace_105 hB mo_X8_within ml_X8_38 (sp_X8_within hB  (iV) (iC 48 (by decide)) (iC 57 (by decide))) rfl rfl ⟨rfl, rfl, by decide, by decide⟩ (Nat.le_of_ble_eq_true rfl) ⟨by decide, by decide⟩ (fun r_105 V_105 h_105 => ?_)
          obtain ⟨rfl, b_105⟩ := h_105
          replace b_105 : bQ _ (48 ≤ c.toInt ∧ c.toInt ≤ 57) := b_105.cg (by omega)
          refine m_ifeqB (tgt := 120) dX8_takesPace_108 (by decide) b_105 (fun c_108 => ?_) (fun c_108 => ?_)
          · refine j_iconst (v := 0) dX8_takesPace_120 (by decide) ?_
            refine j_istore (L' := [(0, _), (1, _), (2, _), (3, _), (4, _), (5, _)]) dX8_takesPace_121 (by decide) rfl ?_
            refine j_aload_n dX8_takesPace_123 rfl ?_
            refine j_getr dX8_takesPace_124 hB fl_X8_31 (by first | exact h0.1 | exact h0.2.1 | exact h0.2.2.1 | exact h0.2.2.2.1 | exact h0.2.2.2.2.1 | exact h0.2.2.2.2.2.1 | exact h0.2.2.2.2.2.2.1 | exact h0.2.2.2.2.2.2.2.1 | exact h0.2.2.2.2.2.2.2.2) (by rfl) ?_
            refine j_iconst (v := 4) dX8_takesPace_127 (by decide) ?_
            refine j_aload_n dX8_takesPace_128 rfl ?_
            refine j_geti dX8_takesPace_129 hB fl_X8_128 (by first | exact h0.1 | exact h0.2.1 | exact h0.2.2.1 | exact h0.2.2.2.1 | exact h0.2.2.2.2.1 | exact h0.2.2.2.2.2.1 | exact h0.2.2.2.2.2.2.1 | exact h0.2.2.2.2.2.2.2.1 | exact h0.2.2.2.2.2.2.2.2) (by rfl) ?_
            refine j_imul dX8_takesPace_132 ?_
            refine j_iconst (v := 3) dX8_takesPace_133 (by decide) ?_
            refine j_iadd dX8_takesPace_134 ?_
            refine j_iload dX8_takesPace_135 rfl ?_
            refine m_if_eq (tgt := 144) dX8_takesPace_137 (by decide) (iC 0 (by decide)) (fun c_137 => ?_) (fun c_137 => ?_)
            · refine j_iload_n dX8_takesPace_144 rfl ?_
              refine m_iast (k := 4 * m + 3) dX8_takesPace_145 hB (by first | exact h0.1 | exact h0.2.1 | exact h0.2.2.1 | exact h0.2.2.2.1 | exact h0.2.2.2.2.1 | exact h0.2.2.2.2.2.1 | exact h0.2.2.2.2.2.2.1 | exact h0.2.2.2.2.2.2.2.1 | exact h0.2.2.2.2.2.2.2.2) (ixk (iA (iM (iC 4 (by decide)) (g2) (by omega)) (iC 3 (by decide)) (by omega)) (by omega)) (by omega) ?_
              rw [jset_self]
              refine j_aload_n dX8_takesPace_146 rfl ?_
              refine j_dup dX8_takesPace_147 rfl ?_
              refine j_geti dX8_takesPace_148 hB fl_X8_125 (by first | exact h0.1 | exact h0.2.1 | exact h0.2.2.1 | exact h0.2.2.2.1 | exact h0.2.2.2.2.1 | exact h0.2.2.2.2.2.1 | exact h0.2.2.2.2.2.2.1 | exact h0.2.2.2.2.2.2.2.1 | exact h0.2.2.2.2.2.2.2.2) (by rfl) ?_
              refine j_iload dX8_takesPace_151 rfl ?_
              refine m_if_eq (tgt := 160) dX8_takesPace_153 (by decide) (iC 0 (by decide)) (fun c_153 => ?_) (fun c_153 => ?_)
              · refine j_iconst (v := 0) dX8_takesPace_160 (by decide) ?_
                refine j_iadd dX8_takesPace_161 ?_
                refine j_puti dX8_takesPace_162 hB fp_X8_takesPace_125 (by first | exact h0.1 | exact h0.2.1 | exact h0.2.2.1 | exact h0.2.2.2.1 | exact h0.2.2.2.2.1 | exact h0.2.2.2.2.2.1 | exact h0.2.2.2.2.2.2.1 | exact h0.2.2.2.2.2.2.2.1 | exact h0.2.2.2.2.2.2.2.2) (by rfl) ?_
                rw [Int32.add_zero, jset_self]
                refine j_iload dX8_takesPace_165 rfl ?_
                refine j_iret dX8_takesPace_167 rfl (by first | decide | exact m_nrB (by assumption)) (by decide) (by decide) ?_
                exact tkQ.no mKp.rf (rno5 h5' c0 c1 hc44 (by rw [hN]; omega))
              · exact absurd c_153 (by decide)
            · exact absurd c_137 (by decide)
          · refine j_iload dX8_takesPace_111 rfl ?_
            refine m_if_eq (tgt := 120) dX8_takesPace_113 (by decide) (iC 1 (by decide)) (fun c_113 => ?_) (fun c_113 => ?_)
            · exact absurd c_113 (by decide)
            · refine j_iconst (v := 1) dX8_takesPace_116 (by decide) ?_
              refine j_goto (tgt := 121) dX8_takesPace_117 (by decide) ?_
              refine j_istore (L' := [(0, _), (1, _), (2, _), (3, _), (4, _), (5, _)]) dX8_takesPace_121 (by decide) rfl ?_
              refine j_aload_n dX8_takesPace_123 rfl ?_
              refine j_getr dX8_takesPace_124 hB fl_X8_31 (by first | exact h0.1 | exact h0.2.1 | exact h0.2.2.1 | exact h0.2.2.2.1 | exact h0.2.2.2.2.1 | exact h0.2.2.2.2.2.1 | exact h0.2.2.2.2.2.2.1 | exact h0.2.2.2.2.2.2.2.1 | exact h0.2.2.2.2.2.2.2.2) (by rfl) ?_
              refine j_iconst (v := 4) dX8_takesPace_127 (by decide) ?_
              refine j_aload_n dX8_takesPace_128 rfl ?_
              refine j_geti dX8_takesPace_129 hB fl_X8_128 (by first | exact h0.1 | exact h0.2.1 | exact h0.2.2.1 | exact h0.2.2.2.1 | exact h0.2.2.2.2.1 | exact h0.2.2.2.2.2.1 | exact h0.2.2.2.2.2.2.1 | exact h0.2.2.2.2.2.2.2.1 | exact h0.2.2.2.2.2.2.2.2) (by rfl) ?_
              refine j_imul dX8_takesPace_132 ?_
              refine j_iconst (v := 3) dX8_takesPace_133 (by decide) ?_
              refine j_iadd dX8_takesPace_134 ?_
              refine j_iload dX8_takesPace_135 rfl ?_
              refine m_if_eq (tgt := 144) dX8_takesPace_137 (by decide) (iC 1 (by decide)) (fun c_137 => ?_) (fun c_137 => ?_)
              · exact absurd c_137 (by decide)
              · refine j_iload_n dX8_takesPace_140 rfl ?_
                refine j_goto (tgt := 145) dX8_takesPace_141 (by decide) ?_
                refine m_iast (k := 4 * m + 3) dX8_takesPace_145 hB (by first | exact h0.1 | exact h0.2.1 | exact h0.2.2.1 | exact h0.2.2.2.1 | exact h0.2.2.2.2.1 | exact h0.2.2.2.2.2.1 | exact h0.2.2.2.2.2.2.1 | exact h0.2.2.2.2.2.2.2.1 | exact h0.2.2.2.2.2.2.2.2) (ixk (iA (iM (iC 4 (by decide)) (g2) (by omega)) (iC 3 (by decide)) (by omega)) (by omega)) (by omega) ?_
                generalize hV1 : jset V (q + 8) (4 * m + 3) (10 * V (q + 8) (4 * m + 3) + c - 48) = V1
                have d12 : isI (V1 q 12) (V q 12).toInt := by rw [← hV1, jset_row (by omega)]
                refine j_aload_n dX8_takesPace_146 rfl ?_
                refine j_dup dX8_takesPace_147 rfl ?_
                refine j_geti dX8_takesPace_148 hB fl_X8_125 (by first | exact h0.1 | exact h0.2.1 | exact h0.2.2.1 | exact h0.2.2.2.1 | exact h0.2.2.2.2.1 | exact h0.2.2.2.2.2.1 | exact h0.2.2.2.2.2.2.1 | exact h0.2.2.2.2.2.2.2.1 | exact h0.2.2.2.2.2.2.2.2) (by rfl) ?_
                refine j_iload dX8_takesPace_151 rfl ?_
                refine m_if_eq (tgt := 160) dX8_takesPace_153 (by decide) (iC 1 (by decide)) (fun c_153 => ?_) (fun c_153 => ?_)
                · exact absurd c_153 (by decide)
                · refine j_iconst (v := 1) dX8_takesPace_156 (by decide) ?_
                  refine j_goto (tgt := 161) dX8_takesPace_157 (by decide) ?_
                  refine j_iadd dX8_takesPace_161 ?_
                  refine j_puti dX8_takesPace_162 hB fp_X8_takesPace_125 (by first | exact h0.1 | exact h0.2.1 | exact h0.2.2.1 | exact h0.2.2.2.1 | exact h0.2.2.2.2.1 | exact h0.2.2.2.2.2.1 | exact h0.2.2.2.2.2.2.1 | exact h0.2.2.2.2.2.2.2.1 | exact h0.2.2.2.2.2.2.2.2) (by rfl) ?_
                  generalize hV2 : jset V1 q 12 (V1 q 12 + 1) = V2
                  have f12 : (V2 q 12).toInt = (V q 12).toInt + 1 := by rw [← hV2, jset_eq]; exact iA d12 (iC 1 (by decide)) (by omega)
                  have f11 : V2 q 11 = V q 11 := by rw [← hV2, jset_ne (Or.inr (by omega)), ← hV1, jset_row (by omega)]
                  have f13 : V2 q 13 = V q 13 := by rw [← hV2, jset_ne (Or.inr (by omega)), ← hV1, jset_row (by omega)]
                  have z8 : ∀ i, ¬ i = 4 * m + 3 → V2 (q + 8) i = V (q + 8) i := fun i hi => by rw [← hV2, jset_row (by omega), ← hV1, jset_ne (Or.inr hi)]
                  have z8v : V2 (q + 8) (4 * m + 3) = 10 * V (q + 8) (4 * m + 3) + c - 48 := by rw [← hV2, jset_row (by omega), ← hV1, jset_eq]
                  have ak : mKp V V2 q := by rw [← hV2, ← hV1]; exact (mKp.rf.s8).sf (by omega)
                  refine j_iload dX8_takesPace_165 rfl ?_
                  refine j_iret dX8_takesPace_167 rfl (by first | decide | exact m_nrB (by assumption)) (by decide) (by decide) ?_
                  obtain ⟨hx, hxe⟩ := add_cs (x := atZ t.2.2.2.1 m) (k := 0) (by omega) (by omega) c0 c1
                  have e8 : V (q + 8) (4 * m + 3) = atZ t.2.2.2.1 m := g4m.2.2.2
                  rw [e8, hxe] at z8v
                  generalize hvv : 10 * atZ t.2.2.2.1 m + (c - 48) = v at hx z8v
                  have hr := rRd_P hN h5' cs (by omega) (by omega) (by omega) hvv
                  exact tkQ.yes (n := m) ak hr (mRd.P h' (by omega) f13 f11 f12 z8 z8v h5' (by omega))
  · refine j_iload_n dX8_takesPace_31 rfl ?_
    refine j_iconst (v := 1) dX8_takesPace_32 (by decide) ?_
    refine m_icmp_eq (tgt := 42) dX8_takesPace_33 (by decide) (iS (iA (iM (iC 10 (by decide)) (hP0) (by omega)) (iV) (by omega)) (iC 48 (by decide)) (by omega)) (iC 1 (by decide)) (fun c_33 => ?_) (fun c_33 => ?_)
    · refine j_iconst (v := 1) dX8_takesPace_42 (by decide) ?_
      refine j_goto (tgt := 98) dX8_takesPace_43 (by decide) ?_
      refine j_istore (L' := [(0, _), (1, _), (2, _), (3, _), (4, _)]) dX8_takesPace_98 (by decide) rfl ?_
      refine j_iload_n dX8_takesPace_100 rfl ?_
      refine j_bipush (v := 48) dX8_takesPace_101 (by decide) ?_
      refine j_bipush (v := 57) dX8_takesPace_103 (by decide) ?_
      refine j_cSi dX8_takesPace_105 hB mo_X8_within ml_X8_38 (sp_X8_within hB  (iV) (iC 48 (by decide)) (iC 57 (by decide))) rfl rfl ⟨rfl, rfl, by decide, by decide⟩ (Nat.le_of_ble_eq_true rfl) ⟨by decide, by decide⟩ (fun r_105 V_105 h_105 => ?_)
      obtain ⟨rfl, b_105⟩ := h_105
      replace b_105 : bQ _ (48 ≤ c.toInt ∧ c.toInt ≤ 57) := b_105.cg (by omega)
      refine m_ifeqB (tgt := 120) dX8_takesPace_108 (by decide) b_105 (fun c_108 => ?_) (fun c_108 => ?_)
      · refine j_iconst (v := 0) dX8_takesPace_120 (by decide) ?_
        refine j_istore (L' := [(0, _), (1, _), (2, _), (3, _), (4, _), (5, _)]) dX8_takesPace_121 (by decide) rfl ?_
        refine j_aload_n dX8_takesPace_123 rfl ?_
        refine j_getr dX8_takesPace_124 hB fl_X8_31 (by first | exact h0.1 | exact h0.2.1 | exact h0.2.2.1 | exact h0.2.2.2.1 | exact h0.2.2.2.2.1 | exact h0.2.2.2.2.2.1 | exact h0.2.2.2.2.2.2.1 | exact h0.2.2.2.2.2.2.2.1 | exact h0.2.2.2.2.2.2.2.2) (by rfl) ?_
        refine j_iconst (v := 4) dX8_takesPace_127 (by decide) ?_
        refine j_aload_n dX8_takesPace_128 rfl ?_
        refine j_geti dX8_takesPace_129 hB fl_X8_128 (by first | exact h0.1 | exact h0.2.1 | exact h0.2.2.1 | exact h0.2.2.2.1 | exact h0.2.2.2.2.1 | exact h0.2.2.2.2.2.1 | exact h0.2.2.2.2.2.2.1 | exact h0.2.2.2.2.2.2.2.1 | exact h0.2.2.2.2.2.2.2.2) (by rfl) ?_
        refine j_imul dX8_takesPace_132 ?_
        refine j_iconst (v := 3) dX8_takesPace_133 (by decide) ?_
        refine j_iadd dX8_takesPace_134 ?_
        refine j_iload dX8_takesPace_135 rfl ?_
        refine m_if_eq (tgt := 144) dX8_takesPace_137 (by decide) (iC 0 (by decide)) (fun c_137 => ?_) (fun c_137 => ?_)
        · refine j_iload_n dX8_takesPace_144 rfl ?_
          refine m_iast (k := 4 * m + 3) dX8_takesPace_145 hB (by first | exact h0.1 | exact h0.2.1 | exact h0.2.2.1 | exact h0.2.2.2.1 | exact h0.2.2.2.2.1 | exact h0.2.2.2.2.2.1 | exact h0.2.2.2.2.2.2.1 | exact h0.2.2.2.2.2.2.2.1 | exact h0.2.2.2.2.2.2.2.2) (ixk (iA (iM (iC 4 (by decide)) (g2) (by omega)) (iC 3 (by decide)) (by omega)) (by omega)) (by omega) ?_
          rw [jset_self]
          refine j_aload_n dX8_takesPace_146 rfl ?_
          refine j_dup dX8_takesPace_147 rfl ?_
          refine j_geti dX8_takesPace_148 hB fl_X8_125 (by first | exact h0.1 | exact h0.2.1 | exact h0.2.2.1 | exact h0.2.2.2.1 | exact h0.2.2.2.2.1 | exact h0.2.2.2.2.2.1 | exact h0.2.2.2.2.2.2.1 | exact h0.2.2.2.2.2.2.2.1 | exact h0.2.2.2.2.2.2.2.2) (by rfl) ?_
          refine j_iload dX8_takesPace_151 rfl ?_
          refine m_if_eq (tgt := 160) dX8_takesPace_153 (by decide) (iC 0 (by decide)) (fun c_153 => ?_) (fun c_153 => ?_)
          · refine j_iconst (v := 0) dX8_takesPace_160 (by decide) ?_
            refine j_iadd dX8_takesPace_161 ?_
            refine j_puti dX8_takesPace_162 hB fp_X8_takesPace_125 (by first | exact h0.1 | exact h0.2.1 | exact h0.2.2.1 | exact h0.2.2.2.1 | exact h0.2.2.2.2.1 | exact h0.2.2.2.2.2.1 | exact h0.2.2.2.2.2.2.1 | exact h0.2.2.2.2.2.2.2.1 | exact h0.2.2.2.2.2.2.2.2) (by rfl) ?_
            rw [Int32.add_zero, jset_self]
            refine j_iload dX8_takesPace_165 rfl ?_
            refine j_iret dX8_takesPace_167 rfl (by first | decide | exact m_nrB (by assumption)) (by decide) (by decide) ?_
            exact tkQ.no mKp.rf (rno5 h5' c0 c1 hc44 (by rw [hN]; omega))
          · exact absurd c_153 (by decide)
        · exact absurd c_137 (by decide)
      · refine j_iload dX8_takesPace_111 rfl ?_
        refine m_if_eq (tgt := 120) dX8_takesPace_113 (by decide) (iC 1 (by decide)) (fun c_113 => ?_) (fun c_113 => ?_)
        · exact absurd c_113 (by decide)
        · refine j_iconst (v := 1) dX8_takesPace_116 (by decide) ?_
          refine j_goto (tgt := 121) dX8_takesPace_117 (by decide) ?_
          refine j_istore (L' := [(0, _), (1, _), (2, _), (3, _), (4, _), (5, _)]) dX8_takesPace_121 (by decide) rfl ?_
          refine j_aload_n dX8_takesPace_123 rfl ?_
          refine j_getr dX8_takesPace_124 hB fl_X8_31 (by first | exact h0.1 | exact h0.2.1 | exact h0.2.2.1 | exact h0.2.2.2.1 | exact h0.2.2.2.2.1 | exact h0.2.2.2.2.2.1 | exact h0.2.2.2.2.2.2.1 | exact h0.2.2.2.2.2.2.2.1 | exact h0.2.2.2.2.2.2.2.2) (by rfl) ?_
          refine j_iconst (v := 4) dX8_takesPace_127 (by decide) ?_
          refine j_aload_n dX8_takesPace_128 rfl ?_
          refine j_geti dX8_takesPace_129 hB fl_X8_128 (by first | exact h0.1 | exact h0.2.1 | exact h0.2.2.1 | exact h0.2.2.2.1 | exact h0.2.2.2.2.1 | exact h0.2.2.2.2.2.1 | exact h0.2.2.2.2.2.2.1 | exact h0.2.2.2.2.2.2.2.1 | exact h0.2.2.2.2.2.2.2.2) (by rfl) ?_
          refine j_imul dX8_takesPace_132 ?_
          refine j_iconst (v := 3) dX8_takesPace_133 (by decide) ?_
          refine j_iadd dX8_takesPace_134 ?_
          refine j_iload dX8_takesPace_135 rfl ?_
          refine m_if_eq (tgt := 144) dX8_takesPace_137 (by decide) (iC 1 (by decide)) (fun c_137 => ?_) (fun c_137 => ?_)
          · exact absurd c_137 (by decide)
          · refine j_iload_n dX8_takesPace_140 rfl ?_
            refine j_goto (tgt := 145) dX8_takesPace_141 (by decide) ?_
            refine m_iast (k := 4 * m + 3) dX8_takesPace_145 hB (by first | exact h0.1 | exact h0.2.1 | exact h0.2.2.1 | exact h0.2.2.2.1 | exact h0.2.2.2.2.1 | exact h0.2.2.2.2.2.1 | exact h0.2.2.2.2.2.2.1 | exact h0.2.2.2.2.2.2.2.1 | exact h0.2.2.2.2.2.2.2.2) (ixk (iA (iM (iC 4 (by decide)) (g2) (by omega)) (iC 3 (by decide)) (by omega)) (by omega)) (by omega) ?_
            generalize hV1 : jset V (q + 8) (4 * m + 3) (10 * V (q + 8) (4 * m + 3) + c - 48) = V1
            have d12 : isI (V1 q 12) (V q 12).toInt := by rw [← hV1, jset_row (by omega)]
            refine j_aload_n dX8_takesPace_146 rfl ?_
            refine j_dup dX8_takesPace_147 rfl ?_
            refine j_geti dX8_takesPace_148 hB fl_X8_125 (by first | exact h0.1 | exact h0.2.1 | exact h0.2.2.1 | exact h0.2.2.2.1 | exact h0.2.2.2.2.1 | exact h0.2.2.2.2.2.1 | exact h0.2.2.2.2.2.2.1 | exact h0.2.2.2.2.2.2.2.1 | exact h0.2.2.2.2.2.2.2.2) (by rfl) ?_
            refine j_iload dX8_takesPace_151 rfl ?_
            refine m_if_eq (tgt := 160) dX8_takesPace_153 (by decide) (iC 1 (by decide)) (fun c_153 => ?_) (fun c_153 => ?_)
            · exact absurd c_153 (by decide)
            · refine j_iconst (v := 1) dX8_takesPace_156 (by decide) ?_
              refine j_goto (tgt := 161) dX8_takesPace_157 (by decide) ?_
              refine j_iadd dX8_takesPace_161 ?_
              refine j_puti dX8_takesPace_162 hB fp_X8_takesPace_125 (by first | exact h0.1 | exact h0.2.1 | exact h0.2.2.1 | exact h0.2.2.2.1 | exact h0.2.2.2.2.1 | exact h0.2.2.2.2.2.1 | exact h0.2.2.2.2.2.2.1 | exact h0.2.2.2.2.2.2.2.1 | exact h0.2.2.2.2.2.2.2.2) (by rfl) ?_
              generalize hV2 : jset V1 q 12 (V1 q 12 + 1) = V2
              have f12 : (V2 q 12).toInt = (V q 12).toInt + 1 := by rw [← hV2, jset_eq]; exact iA d12 (iC 1 (by decide)) (by omega)
              have f11 : V2 q 11 = V q 11 := by rw [← hV2, jset_ne (Or.inr (by omega)), ← hV1, jset_row (by omega)]
              have f13 : V2 q 13 = V q 13 := by rw [← hV2, jset_ne (Or.inr (by omega)), ← hV1, jset_row (by omega)]
              have z8 : ∀ i, ¬ i = 4 * m + 3 → V2 (q + 8) i = V (q + 8) i := fun i hi => by rw [← hV2, jset_row (by omega), ← hV1, jset_ne (Or.inr hi)]
              have z8v : V2 (q + 8) (4 * m + 3) = 10 * V (q + 8) (4 * m + 3) + c - 48 := by rw [← hV2, jset_row (by omega), ← hV1, jset_eq]
              have ak : mKp V V2 q := by rw [← hV2, ← hV1]; exact (mKp.rf.s8).sf (by omega)
              refine j_iload dX8_takesPace_165 rfl ?_
              refine j_iret dX8_takesPace_167 rfl (by first | decide | exact m_nrB (by assumption)) (by decide) (by decide) ?_
              obtain ⟨hx, hxe⟩ := add_cs (x := atZ t.2.2.2.1 m) (k := 0) (by omega) (by omega) c0 c1
              have e8 : V (q + 8) (4 * m + 3) = atZ t.2.2.2.1 m := g4m.2.2.2
              rw [e8, hxe] at z8v
              generalize hvv : 10 * atZ t.2.2.2.1 m + (c - 48) = v at hx z8v
              have hr := rRd_P hN h5' cs (by omega) (by omega) (by omega) hvv
              exact tkQ.yes (n := m) ak hr (mRd.P h' (by omega) f13 f11 f12 z8 z8v h5' (by omega))
    · refine j_iload_n dX8_takesPace_36 rfl ?_
      refine j_bipush (v := 7) dX8_takesPace_37 (by decide) ?_
      refine m_icmp_le (tgt := 46) dX8_takesPace_39 (by decide) (iS (iA (iM (iC 10 (by decide)) (hP0) (by omega)) (iV) (by omega)) (iC 48 (by decide)) (by omega)) (iC 7 (by decide)) (fun c_39 => ?_) (fun c_39 => ?_)
      · refine j_iconst (v := 0) dX8_takesPace_46 (by decide) ?_
        refine j_goto (tgt := 98) dX8_takesPace_47 (by decide) ?_
        refine j_istore (L' := [(0, _), (1, _), (2, _), (3, _), (4, _)]) dX8_takesPace_98 (by decide) rfl ?_
        refine j_iload_n dX8_takesPace_100 rfl ?_
        refine j_bipush (v := 48) dX8_takesPace_101 (by decide) ?_
        refine j_bipush (v := 57) dX8_takesPace_103 (by decide) ?_
        refine j_cSi dX8_takesPace_105 hB mo_X8_within ml_X8_38 (sp_X8_within hB  (iV) (iC 48 (by decide)) (iC 57 (by decide))) rfl rfl ⟨rfl, rfl, by decide, by decide⟩ (Nat.le_of_ble_eq_true rfl) ⟨by decide, by decide⟩ (fun r_105 V_105 h_105 => ?_)
        obtain ⟨rfl, b_105⟩ := h_105
        replace b_105 : bQ _ (48 ≤ c.toInt ∧ c.toInt ≤ 57) := b_105.cg (by omega)
        refine m_ifeqB (tgt := 120) dX8_takesPace_108 (by decide) b_105 (fun c_108 => ?_) (fun c_108 => ?_)
        · refine j_iconst (v := 0) dX8_takesPace_120 (by decide) ?_
          refine j_istore (L' := [(0, _), (1, _), (2, _), (3, _), (4, _), (5, _)]) dX8_takesPace_121 (by decide) rfl ?_
          refine j_aload_n dX8_takesPace_123 rfl ?_
          refine j_getr dX8_takesPace_124 hB fl_X8_31 (by first | exact h0.1 | exact h0.2.1 | exact h0.2.2.1 | exact h0.2.2.2.1 | exact h0.2.2.2.2.1 | exact h0.2.2.2.2.2.1 | exact h0.2.2.2.2.2.2.1 | exact h0.2.2.2.2.2.2.2.1 | exact h0.2.2.2.2.2.2.2.2) (by rfl) ?_
          refine j_iconst (v := 4) dX8_takesPace_127 (by decide) ?_
          refine j_aload_n dX8_takesPace_128 rfl ?_
          refine j_geti dX8_takesPace_129 hB fl_X8_128 (by first | exact h0.1 | exact h0.2.1 | exact h0.2.2.1 | exact h0.2.2.2.1 | exact h0.2.2.2.2.1 | exact h0.2.2.2.2.2.1 | exact h0.2.2.2.2.2.2.1 | exact h0.2.2.2.2.2.2.2.1 | exact h0.2.2.2.2.2.2.2.2) (by rfl) ?_
          refine j_imul dX8_takesPace_132 ?_
          refine j_iconst (v := 3) dX8_takesPace_133 (by decide) ?_
          refine j_iadd dX8_takesPace_134 ?_
          refine j_iload dX8_takesPace_135 rfl ?_
          refine m_if_eq (tgt := 144) dX8_takesPace_137 (by decide) (iC 0 (by decide)) (fun c_137 => ?_) (fun c_137 => ?_)
          · refine j_iload_n dX8_takesPace_144 rfl ?_
            refine m_iast (k := 4 * m + 3) dX8_takesPace_145 hB (by first | exact h0.1 | exact h0.2.1 | exact h0.2.2.1 | exact h0.2.2.2.1 | exact h0.2.2.2.2.1 | exact h0.2.2.2.2.2.1 | exact h0.2.2.2.2.2.2.1 | exact h0.2.2.2.2.2.2.2.1 | exact h0.2.2.2.2.2.2.2.2) (ixk (iA (iM (iC 4 (by decide)) (g2) (by omega)) (iC 3 (by decide)) (by omega)) (by omega)) (by omega) ?_
            rw [jset_self]
            refine j_aload_n dX8_takesPace_146 rfl ?_
            refine j_dup dX8_takesPace_147 rfl ?_
            refine j_geti dX8_takesPace_148 hB fl_X8_125 (by first | exact h0.1 | exact h0.2.1 | exact h0.2.2.1 | exact h0.2.2.2.1 | exact h0.2.2.2.2.1 | exact h0.2.2.2.2.2.1 | exact h0.2.2.2.2.2.2.1 | exact h0.2.2.2.2.2.2.2.1 | exact h0.2.2.2.2.2.2.2.2) (by rfl) ?_
            refine j_iload dX8_takesPace_151 rfl ?_
            refine m_if_eq (tgt := 160) dX8_takesPace_153 (by decide) (iC 0 (by decide)) (fun c_153 => ?_) (fun c_153 => ?_)
            · refine j_iconst (v := 0) dX8_takesPace_160 (by decide) ?_
              refine j_iadd dX8_takesPace_161 ?_
              refine j_puti dX8_takesPace_162 hB fp_X8_takesPace_125 (by first | exact h0.1 | exact h0.2.1 | exact h0.2.2.1 | exact h0.2.2.2.1 | exact h0.2.2.2.2.1 | exact h0.2.2.2.2.2.1 | exact h0.2.2.2.2.2.2.1 | exact h0.2.2.2.2.2.2.2.1 | exact h0.2.2.2.2.2.2.2.2) (by rfl) ?_
              rw [Int32.add_zero, jset_self]
              refine j_iload dX8_takesPace_165 rfl ?_
              refine j_iret dX8_takesPace_167 rfl (by first | decide | exact m_nrB (by assumption)) (by decide) (by decide) ?_
              exact tkQ.no mKp.rf (rno5 h5' c0 c1 hc44 (by rw [hN]; omega))
            · exact absurd c_153 (by decide)
          · exact absurd c_137 (by decide)
        · refine j_iload dX8_takesPace_111 rfl ?_
          refine m_if_eq (tgt := 120) dX8_takesPace_113 (by decide) (iC 0 (by decide)) (fun c_113 => ?_) (fun c_113 => ?_)
          · refine j_iconst (v := 0) dX8_takesPace_120 (by decide) ?_
            refine j_istore (L' := [(0, _), (1, _), (2, _), (3, _), (4, _), (5, _)]) dX8_takesPace_121 (by decide) rfl ?_
            refine j_aload_n dX8_takesPace_123 rfl ?_
            refine j_getr dX8_takesPace_124 hB fl_X8_31 (by first | exact h0.1 | exact h0.2.1 | exact h0.2.2.1 | exact h0.2.2.2.1 | exact h0.2.2.2.2.1 | exact h0.2.2.2.2.2.1 | exact h0.2.2.2.2.2.2.1 | exact h0.2.2.2.2.2.2.2.1 | exact h0.2.2.2.2.2.2.2.2) (by rfl) ?_
            refine j_iconst (v := 4) dX8_takesPace_127 (by decide) ?_
            refine j_aload_n dX8_takesPace_128 rfl ?_
            refine j_geti dX8_takesPace_129 hB fl_X8_128 (by first | exact h0.1 | exact h0.2.1 | exact h0.2.2.1 | exact h0.2.2.2.1 | exact h0.2.2.2.2.1 | exact h0.2.2.2.2.2.1 | exact h0.2.2.2.2.2.2.1 | exact h0.2.2.2.2.2.2.2.1 | exact h0.2.2.2.2.2.2.2.2) (by rfl) ?_
            refine j_imul dX8_takesPace_132 ?_
            refine j_iconst (v := 3) dX8_takesPace_133 (by decide) ?_
            refine j_iadd dX8_takesPace_134 ?_
            refine j_iload dX8_takesPace_135 rfl ?_
            refine m_if_eq (tgt := 144) dX8_takesPace_137 (by decide) (iC 0 (by decide)) (fun c_137 => ?_) (fun c_137 => ?_)
            · refine j_iload_n dX8_takesPace_144 rfl ?_
              refine m_iast (k := 4 * m + 3) dX8_takesPace_145 hB (by first | exact h0.1 | exact h0.2.1 | exact h0.2.2.1 | exact h0.2.2.2.1 | exact h0.2.2.2.2.1 | exact h0.2.2.2.2.2.1 | exact h0.2.2.2.2.2.2.1 | exact h0.2.2.2.2.2.2.2.1 | exact h0.2.2.2.2.2.2.2.2) (ixk (iA (iM (iC 4 (by decide)) (g2) (by omega)) (iC 3 (by decide)) (by omega)) (by omega)) (by omega) ?_
              rw [jset_self]
              refine j_aload_n dX8_takesPace_146 rfl ?_
              refine j_dup dX8_takesPace_147 rfl ?_
              refine j_geti dX8_takesPace_148 hB fl_X8_125 (by first | exact h0.1 | exact h0.2.1 | exact h0.2.2.1 | exact h0.2.2.2.1 | exact h0.2.2.2.2.1 | exact h0.2.2.2.2.2.1 | exact h0.2.2.2.2.2.2.1 | exact h0.2.2.2.2.2.2.2.1 | exact h0.2.2.2.2.2.2.2.2) (by rfl) ?_
              refine j_iload dX8_takesPace_151 rfl ?_
              refine m_if_eq (tgt := 160) dX8_takesPace_153 (by decide) (iC 0 (by decide)) (fun c_153 => ?_) (fun c_153 => ?_)
              · refine j_iconst (v := 0) dX8_takesPace_160 (by decide) ?_
                refine j_iadd dX8_takesPace_161 ?_
                refine j_puti dX8_takesPace_162 hB fp_X8_takesPace_125 (by first | exact h0.1 | exact h0.2.1 | exact h0.2.2.1 | exact h0.2.2.2.1 | exact h0.2.2.2.2.1 | exact h0.2.2.2.2.2.1 | exact h0.2.2.2.2.2.2.1 | exact h0.2.2.2.2.2.2.2.1 | exact h0.2.2.2.2.2.2.2.2) (by rfl) ?_
                rw [Int32.add_zero, jset_self]
                refine j_iload dX8_takesPace_165 rfl ?_
                refine j_iret dX8_takesPace_167 rfl (by first | decide | exact m_nrB (by assumption)) (by decide) (by decide) ?_
                exact tkQ.no mKp.rf (rno5 h5' c0 c1 hc44 (by rw [hN]; omega))
              · exact absurd c_153 (by decide)
            · exact absurd c_137 (by decide)
          · exact absurd c_113 (by decide)
      · refine j_iconst (v := 1) dX8_takesPace_42 (by decide) ?_
        refine j_goto (tgt := 98) dX8_takesPace_43 (by decide) ?_
        refine j_istore (L' := [(0, _), (1, _), (2, _), (3, _), (4, _)]) dX8_takesPace_98 (by decide) rfl ?_
        refine j_iload_n dX8_takesPace_100 rfl ?_
        refine j_bipush (v := 48) dX8_takesPace_101 (by decide) ?_
        refine j_bipush (v := 57) dX8_takesPace_103 (by decide) ?_
        refine j_cSi dX8_takesPace_105 hB mo_X8_within ml_X8_38 (sp_X8_within hB  (iV) (iC 48 (by decide)) (iC 57 (by decide))) rfl rfl ⟨rfl, rfl, by decide, by decide⟩ (Nat.le_of_ble_eq_true rfl) ⟨by decide, by decide⟩ (fun r_105 V_105 h_105 => ?_)
        obtain ⟨rfl, b_105⟩ := h_105
        replace b_105 : bQ _ (48 ≤ c.toInt ∧ c.toInt ≤ 57) := b_105.cg (by omega)
        refine m_ifeqB (tgt := 120) dX8_takesPace_108 (by decide) b_105 (fun c_108 => ?_) (fun c_108 => ?_)
        · refine j_iconst (v := 0) dX8_takesPace_120 (by decide) ?_
          refine j_istore (L' := [(0, _), (1, _), (2, _), (3, _), (4, _), (5, _)]) dX8_takesPace_121 (by decide) rfl ?_
          refine j_aload_n dX8_takesPace_123 rfl ?_
          refine j_getr dX8_takesPace_124 hB fl_X8_31 (by first | exact h0.1 | exact h0.2.1 | exact h0.2.2.1 | exact h0.2.2.2.1 | exact h0.2.2.2.2.1 | exact h0.2.2.2.2.2.1 | exact h0.2.2.2.2.2.2.1 | exact h0.2.2.2.2.2.2.2.1 | exact h0.2.2.2.2.2.2.2.2) (by rfl) ?_
          refine j_iconst (v := 4) dX8_takesPace_127 (by decide) ?_
          refine j_aload_n dX8_takesPace_128 rfl ?_
          refine j_geti dX8_takesPace_129 hB fl_X8_128 (by first | exact h0.1 | exact h0.2.1 | exact h0.2.2.1 | exact h0.2.2.2.1 | exact h0.2.2.2.2.1 | exact h0.2.2.2.2.2.1 | exact h0.2.2.2.2.2.2.1 | exact h0.2.2.2.2.2.2.2.1 | exact h0.2.2.2.2.2.2.2.2) (by rfl) ?_
          refine j_imul dX8_takesPace_132 ?_
          refine j_iconst (v := 3) dX8_takesPace_133 (by decide) ?_
          refine j_iadd dX8_takesPace_134 ?_
          refine j_iload dX8_takesPace_135 rfl ?_
          refine m_if_eq (tgt := 144) dX8_takesPace_137 (by decide) (iC 0 (by decide)) (fun c_137 => ?_) (fun c_137 => ?_)
          · refine j_iload_n dX8_takesPace_144 rfl ?_
            refine m_iast (k := 4 * m + 3) dX8_takesPace_145 hB (by first | exact h0.1 | exact h0.2.1 | exact h0.2.2.1 | exact h0.2.2.2.1 | exact h0.2.2.2.2.1 | exact h0.2.2.2.2.2.1 | exact h0.2.2.2.2.2.2.1 | exact h0.2.2.2.2.2.2.2.1 | exact h0.2.2.2.2.2.2.2.2) (ixk (iA (iM (iC 4 (by decide)) (g2) (by omega)) (iC 3 (by decide)) (by omega)) (by omega)) (by omega) ?_
            rw [jset_self]
            refine j_aload_n dX8_takesPace_146 rfl ?_
            refine j_dup dX8_takesPace_147 rfl ?_
            refine j_geti dX8_takesPace_148 hB fl_X8_125 (by first | exact h0.1 | exact h0.2.1 | exact h0.2.2.1 | exact h0.2.2.2.1 | exact h0.2.2.2.2.1 | exact h0.2.2.2.2.2.1 | exact h0.2.2.2.2.2.2.1 | exact h0.2.2.2.2.2.2.2.1 | exact h0.2.2.2.2.2.2.2.2) (by rfl) ?_
            refine j_iload dX8_takesPace_151 rfl ?_
            refine m_if_eq (tgt := 160) dX8_takesPace_153 (by decide) (iC 0 (by decide)) (fun c_153 => ?_) (fun c_153 => ?_)
            · refine j_iconst (v := 0) dX8_takesPace_160 (by decide) ?_
              refine j_iadd dX8_takesPace_161 ?_
              refine j_puti dX8_takesPace_162 hB fp_X8_takesPace_125 (by first | exact h0.1 | exact h0.2.1 | exact h0.2.2.1 | exact h0.2.2.2.1 | exact h0.2.2.2.2.1 | exact h0.2.2.2.2.2.1 | exact h0.2.2.2.2.2.2.1 | exact h0.2.2.2.2.2.2.2.1 | exact h0.2.2.2.2.2.2.2.2) (by rfl) ?_
              rw [Int32.add_zero, jset_self]
              refine j_iload dX8_takesPace_165 rfl ?_
              refine j_iret dX8_takesPace_167 rfl (by first | decide | exact m_nrB (by assumption)) (by decide) (by decide) ?_
              exact tkQ.no mKp.rf (rno5 h5' c0 c1 hc44 (by rw [hN]; omega))
            · exact absurd c_153 (by decide)
          · exact absurd c_137 (by decide)
        · refine j_iload dX8_takesPace_111 rfl ?_
          refine m_if_eq (tgt := 120) dX8_takesPace_113 (by decide) (iC 1 (by decide)) (fun c_113 => ?_) (fun c_113 => ?_)
          · exact absurd c_113 (by decide)
          · refine j_iconst (v := 1) dX8_takesPace_116 (by decide) ?_
            refine j_goto (tgt := 121) dX8_takesPace_117 (by decide) ?_
            refine j_istore (L' := [(0, _), (1, _), (2, _), (3, _), (4, _), (5, _)]) dX8_takesPace_121 (by decide) rfl ?_
            refine j_aload_n dX8_takesPace_123 rfl ?_
            refine j_getr dX8_takesPace_124 hB fl_X8_31 (by first | exact h0.1 | exact h0.2.1 | exact h0.2.2.1 | exact h0.2.2.2.1 | exact h0.2.2.2.2.1 | exact h0.2.2.2.2.2.1 | exact h0.2.2.2.2.2.2.1 | exact h0.2.2.2.2.2.2.2.1 | exact h0.2.2.2.2.2.2.2.2) (by rfl) ?_
            refine j_iconst (v := 4) dX8_takesPace_127 (by decide) ?_
            refine j_aload_n dX8_takesPace_128 rfl ?_
            refine j_geti dX8_takesPace_129 hB fl_X8_128 (by first | exact h0.1 | exact h0.2.1 | exact h0.2.2.1 | exact h0.2.2.2.1 | exact h0.2.2.2.2.1 | exact h0.2.2.2.2.2.1 | exact h0.2.2.2.2.2.2.1 | exact h0.2.2.2.2.2.2.2.1 | exact h0.2.2.2.2.2.2.2.2) (by rfl) ?_
            refine j_imul dX8_takesPace_132 ?_
            refine j_iconst (v := 3) dX8_takesPace_133 (by decide) ?_
            refine j_iadd dX8_takesPace_134 ?_
            refine j_iload dX8_takesPace_135 rfl ?_
            refine m_if_eq (tgt := 144) dX8_takesPace_137 (by decide) (iC 1 (by decide)) (fun c_137 => ?_) (fun c_137 => ?_)
            · exact absurd c_137 (by decide)
            · refine j_iload_n dX8_takesPace_140 rfl ?_
              refine j_goto (tgt := 145) dX8_takesPace_141 (by decide) ?_
              refine m_iast (k := 4 * m + 3) dX8_takesPace_145 hB (by first | exact h0.1 | exact h0.2.1 | exact h0.2.2.1 | exact h0.2.2.2.1 | exact h0.2.2.2.2.1 | exact h0.2.2.2.2.2.1 | exact h0.2.2.2.2.2.2.1 | exact h0.2.2.2.2.2.2.2.1 | exact h0.2.2.2.2.2.2.2.2) (ixk (iA (iM (iC 4 (by decide)) (g2) (by omega)) (iC 3 (by decide)) (by omega)) (by omega)) (by omega) ?_
              generalize hV1 : jset V (q + 8) (4 * m + 3) (10 * V (q + 8) (4 * m + 3) + c - 48) = V1
              have d12 : isI (V1 q 12) (V q 12).toInt := by rw [← hV1, jset_row (by omega)]
              refine j_aload_n dX8_takesPace_146 rfl ?_
              refine j_dup dX8_takesPace_147 rfl ?_
              refine j_geti dX8_takesPace_148 hB fl_X8_125 (by first | exact h0.1 | exact h0.2.1 | exact h0.2.2.1 | exact h0.2.2.2.1 | exact h0.2.2.2.2.1 | exact h0.2.2.2.2.2.1 | exact h0.2.2.2.2.2.2.1 | exact h0.2.2.2.2.2.2.2.1 | exact h0.2.2.2.2.2.2.2.2) (by rfl) ?_
              refine j_iload dX8_takesPace_151 rfl ?_
              refine m_if_eq (tgt := 160) dX8_takesPace_153 (by decide) (iC 1 (by decide)) (fun c_153 => ?_) (fun c_153 => ?_)
              · exact absurd c_153 (by decide)
              · refine j_iconst (v := 1) dX8_takesPace_156 (by decide) ?_
                refine j_goto (tgt := 161) dX8_takesPace_157 (by decide) ?_
                refine j_iadd dX8_takesPace_161 ?_
                refine j_puti dX8_takesPace_162 hB fp_X8_takesPace_125 (by first | exact h0.1 | exact h0.2.1 | exact h0.2.2.1 | exact h0.2.2.2.1 | exact h0.2.2.2.2.1 | exact h0.2.2.2.2.2.1 | exact h0.2.2.2.2.2.2.1 | exact h0.2.2.2.2.2.2.2.1 | exact h0.2.2.2.2.2.2.2.2) (by rfl) ?_
                generalize hV2 : jset V1 q 12 (V1 q 12 + 1) = V2
                have f12 : (V2 q 12).toInt = (V q 12).toInt + 1 := by rw [← hV2, jset_eq]; exact iA d12 (iC 1 (by decide)) (by omega)
                have f11 : V2 q 11 = V q 11 := by rw [← hV2, jset_ne (Or.inr (by omega)), ← hV1, jset_row (by omega)]
                have f13 : V2 q 13 = V q 13 := by rw [← hV2, jset_ne (Or.inr (by omega)), ← hV1, jset_row (by omega)]
                have z8 : ∀ i, ¬ i = 4 * m + 3 → V2 (q + 8) i = V (q + 8) i := fun i hi => by rw [← hV2, jset_row (by omega), ← hV1, jset_ne (Or.inr hi)]
                have z8v : V2 (q + 8) (4 * m + 3) = 10 * V (q + 8) (4 * m + 3) + c - 48 := by rw [← hV2, jset_row (by omega), ← hV1, jset_eq]
                have ak : mKp V V2 q := by rw [← hV2, ← hV1]; exact (mKp.rf.s8).sf (by omega)
                refine j_iload dX8_takesPace_165 rfl ?_
                refine j_iret dX8_takesPace_167 rfl (by first | decide | exact m_nrB (by assumption)) (by decide) (by decide) ?_
                obtain ⟨hx, hxe⟩ := add_cs (x := atZ t.2.2.2.1 m) (k := 0) (by omega) (by omega) c0 c1
                have e8 : V (q + 8) (4 * m + 3) = atZ t.2.2.2.1 m := g4m.2.2.2
                rw [e8, hxe] at z8v
                generalize hvv : 10 * atZ t.2.2.2.1 m + (c - 48) = v at hx z8v
                have hr := rRd_P hN h5' cs (by omega) (by omega) (by omega) hvv
                exact tkQ.yes (n := m) ak hr (mRd.P h' (by omega) f13 f11 f12 z8 z8v h5' (by omega))
end JM14
