/-! CueSheetsModel: the best cue -/
/-- the best so far, as the model keeps it -/
def bR (c : cT) (b n : Int32) : Prop := (b.toInt = -2000001 ∧ c = (0, 0, 1000000000)) ∨ (cP c ∧ b.toInt = 1000 * c.1 + c.2.1 ∧ n.toInt = c.2.2)
theorem bR.step {c : cT} {b n b' n' : Int32} {k p d : Int} (h : bR c b n) (k1 : 1 ≤ k) (k9 : k ≤ 9) (p0 : 80 ≤ p) (p1 : p ≤ 120) (d0 : -2000000 ≤ d) (d1 : d ≤ 2000000) (h1 : (b.toInt = -2000001 ∨ (d.natAbs : Int) < n.toInt) → b'.toInt = 1000 * k + p ∧ n'.toInt = d.natAbs) (h2 : ¬ (b.toInt = -2000001 ∨ (d.natAbs : Int) < n.toInt) → b' = b ∧ n' = n) : bR (cCons c k p d) b' n' := by
  rcases h with ⟨e1, e2⟩ | ⟨e1, e2, e3⟩
  · obtain ⟨g1, g2⟩ := h1 (Or.inl e1)
    subst e2
    have e : cCons (0, 0, 1000000000) k p d = (k, p, (d.natAbs : Int)) := if_pos (show (d.natAbs : Int) < 1000000000 by omega)
    rw [e]
    refine Or.inr ⟨⟨k1, k9, p0, p1, ?_, ?_⟩, g1, g2⟩ <;> (show _ ≤ _; dsimp only; omega)
  · have hb : ¬ b.toInt = -2000001 := by have := e1.1; have := e1.2.2.1; omega
    by_cases hd : (d.natAbs : Int) < c.2.2
    · obtain ⟨g1, g2⟩ := h1 (Or.inr (by omega))
      have e : cCons c k p d = (k, p, (d.natAbs : Int)) := if_pos hd
      rw [e]
      refine Or.inr ⟨⟨k1, k9, p0, p1, ?_, ?_⟩, g1, g2⟩ <;> (show _ ≤ _; dsimp only; omega)
    · obtain ⟨rfl, rfl⟩ := h2 (by omega)
      rw [show cCons c k p d = c from if_neg hd]
      exact Or.inr ⟨e1, e2, e3⟩
theorem cStep_0 {u s m n : Int} {c : cT} : cStep u s m c 0 n = cCons c n 100 (cD u s m n 100) := by
  show cCons (cCons c n 100 (cD u s m n 100)) n 100 (cD u s m n 100) = _
  exact cCons_no (cCons_le c n 100 _).2
theorem plT_cD {s : aS} {i k p m : Int} : plT s i k p - m = cD ((atZ s.2.1.1 i).toInt + (atZ s.2.1.2.2 i).toInt) (atZ s.2.1.2.1 i).toInt m k p := by
  unfold plT cD wrT
  rw [show (atZ s.2.1.1 i).toInt + k * (atZ s.2.1.2.1 i).toInt + (atZ s.2.1.2.2 i).toInt = (atZ s.2.1.1 i).toInt + (atZ s.2.1.2.2 i).toInt + k * (atZ s.2.1.2.1 i).toInt by omega]
section JM4
variable {l : Launch} {s0 : State} {D : jD} {T : jT} {V : jV} {X : jX} {sz : Nat}
set_option maxRecDepth 100000 in
set_option maxHeartbeats 4000000 in
theorem sp_X8_bestOf (hB : jB l s0 D) {q : Nat} (h0 : moT T q) {r : Int32} {z : Nat} (hz : r.toInt = z) (z3 : z < 3) {x : aX} (h : moIs T V q x) (hW : stW x.1) {k0 : Int32} {k : Nat} (hk0 : k0.toInt = k) (hk : k < (xR x r).1.length) {w : Int} (hw : w = 0 ∨ 10 ≤ w) (hb : ∀ a : Nat, a ≤ (xR x r).1.length → (V (q + 4) a).toInt = aBeg (xR x r) w a) (he : ∀ a : Nat, a < k → (V (q + 7) a).toInt = aEnd x.1 (xR x r) w a) {p0 : Int32} {pp : Nat} (hp0 : p0.toInt = pp) (hpp : pp < x.1.2.1.1.length) : Sp l s0 D kX8_bestOf (jR 2 0 0) 0 0 [.ref q, .int r, .int k0, .int p0] T V X sz (qI T X sz (fun y V' => ∃ b : Int32, V' = jset V q 10 b ∧ b.toInt = (bestT x.1 pp (aRoom x.1 (xR x r) w k)).2.2 ∧ y.toInt = 1000 * (bestT x.1 pp (aRoom x.1 (xR x r) w k)).1 + (bestT x.1 pp (aRoom x.1 (xR x r) w k)).2.1)) := by
  refine Sp.of pn_X8_bestOf rfl (Nat.le_of_ble_eq_true rfl) ?_
  have hr := h.r hz z3
  have hrl : rlW x.1 (xR x r) := hW.r _
  have h10 := hrl.2.2.2.1
  have hp := hW.1
  have hr0 := aRoom_rng hp hrl hw hk
  have b0 := aBeg_rng hrl hw (k + 1) (by omega)
  have bk0 := aBeg_rng hrl hw k (by omega)
  have m0 := aMus_rng hp hrl hw k (by omega)
  have cb0 : 0 ≤ aCb x.1 (xR x r) w k ∧ aCb x.1 (xR x r) w k ≤ 300000 := by unfold aCb; omega
  have hl8 := hW.2.2.1
  have hlw := hW.2.1
  have rme : (aRoom x.1 (xR x r) w k) = aBeg (xR x r) w (k + 1) - aCb x.1 (xR x r) w k := rfl
  have hb1 : isI (V (q + 4) (k + 1)) (aBeg (xR x r) w (k + 1)) := hb (k + 1) (by omega)
  have hlee : isI (V (q + 1) 227) x.1.2.2.2.toInt := congrArg Int32.toInt h.2.1.2.2.2.2.2
  obtain ⟨y0, y1, y2, y3, y4, y5⟩ := pcW_at hp (i := (pp : Int)) (by omega) (by omega)
  have hlw2 := hlw.2.2
  -- one cue is tried
  have body : ∀ (fj nj : Nat) (fr far sn pa b nr : Int32) (pz : Int) (c : cT), fr.toInt = aCb x.1 (xR x r) w k → far.toInt = fj → fj ≤ 20 → sn.toInt = (nj : Int) + 1 → nj < 9 → isI pa pz → 80 ≤ pz → pz ≤ 120 → pz ≤ 100 + fj → bR c b nr → (∀ b nr ten : Int32, bR (cCons c ((nj : Int) + 1) pz (cD ((atZ x.1.2.1.1 pp).toInt + (atZ x.1.2.1.2.2 pp).toInt) (atZ x.1.2.1.2.1 pp).toInt (aRoom x.1 (xR x r) w k) ((nj : Int) + 1) pz)) b nr → J l s0 D kX8_bestOf (jR 2 0 0) 0 0 (qI T X sz (fun y V' => ∃ b : Int32, V' = jset V q 10 b ∧ b.toInt = (bestT x.1 pp (aRoom x.1 (xR x r) w k)).2.2 ∧ y.toInt = 1000 * (bestT x.1 pp (aRoom x.1 (xR x r) w k)).1 + (bestT x.1 pp (aRoom x.1 (xR x r) w k)).2.1)) 113 [(0, .ref q), (1, .int r), (2, .int k0), (3, .int p0), (4, .int fr), (5, .int b), (6, .int nr), (7, .int far), (8, .int sn), (9, .int pa), (10, .int ten)] [] T V X sz 0 0) → J l s0 D kX8_bestOf (jR 2 0 0) 0 0 (qI T X sz (fun y V' => ∃ b : Int32, V' = jset V q 10 b ∧ b.toInt = (bestT x.1 pp (aRoom x.1 (xR x r) w k)).2.2 ∧ y.toInt = 1000 * (bestT x.1 pp (aRoom x.1 (xR x r) w k)).1 + (bestT x.1 pp (aRoom x.1 (xR x r) w k)).2.1)) 48 [(0, .ref q), (1, .int r), (2, .int k0), (3, .int p0), (4, .int fr), (5, .int b), (6, .int nr), (7, .int far), (8, .int sn), (9, .int pa)] [] T V X sz 0 0 := by
    intro fj nj fr far sn pa b nr pz c hfr hfar hf20 hsn hn9 hpa pz0 pz1 pzf hc K
    have dr := cD_rng (u := ((atZ x.1.2.1.1 pp).toInt + (atZ x.1.2.1.2.2 pp).toInt)) (s := (atZ x.1.2.1.2.1 pp).toInt) (m := (aRoom x.1 (xR x r) w k)) (n := (nj : Int) + 1) (p := pz) (by omega) (by omega) (by omega) (by omega) hr0.1 hr0.2 (by omega) (by omega) pz0
    have pr := plT_rng hp (i := (pp : Int)) (k := (nj : Int) + 1) (pa := pz) (by omega) (by omega) (by omega) (by omega) pz0
    have e9 := plT_cD (s := x.1) (i := (pp : Int)) (k := (nj : Int) + 1) (p := pz) (m := (aRoom x.1 (xR x r) w k))
    rw [rme] at e9
    rw [← rme] at e9
    refine j_iload dX8_bestOf_48 rfl ?_
    refine j_bipush (v := 100) dX8_bestOf_50 (by decide) ?_
    refine j_iload dX8_bestOf_52 rfl ?_
    refine j_iadd dX8_bestOf_54 ?_
    refine m_icmp_gt (tgt := 134) dX8_bestOf_55 (by decide) (hpa) (iA (iC 100 (by decide)) (hfar) (by omega)) (fun c_55 => ?_) (fun c_55 => ?_)
    · exact absurd c_55 (by omega)
    · refine j_iload dX8_bestOf_58 rfl ?_
      refine j_aload_n dX8_bestOf_60 rfl ?_
      refine j_iload_n dX8_bestOf_61 rfl ?_
      refine j_iload dX8_bestOf_62 rfl ?_
      refine j_iload dX8_bestOf_64 rfl ?_
      refine j_cVi dX8_bestOf_66 hB mo_X8_playTime ml_X8_66 (sp_X8_playTime hB h0 h hp (ixk (k := pp) (hp0) (by omega)) hpp hl8 (hsn) (by omega) (by omega) (hpa) (by omega)) (by first | exact h0.1 | exact h0.2.1 | exact h0.2.2.1 | exact h0.2.2.2.1 | exact h0.2.2.2.2.1 | exact h0.2.2.2.2.2.1 | exact h0.2.2.2.2.2.2.1 | exact h0.2.2.2.2.2.2.2.1 | exact h0.2.2.2.2.2.2.2.2) rfl rfl rfl rfl ⟨rfl, rfl, by decide, by decide⟩ (Nat.le_of_ble_eq_true rfl) ⟨by decide, by decide⟩ (fun r_66 V_66 h_66 => ?_)
      obtain ⟨rfl, h_66⟩ := h_66
      refine j_iadd dX8_bestOf_69 ?_
      refine j_aload_n dX8_bestOf_70 rfl ?_
      refine j_getr dX8_bestOf_71 hB fl_X8_19 (by first | exact h0.1 | exact h0.2.1 | exact h0.2.2.1 | exact h0.2.2.2.1 | exact h0.2.2.2.2.1 | exact h0.2.2.2.2.2.1 | exact h0.2.2.2.2.2.2.1 | exact h0.2.2.2.2.2.2.2.1 | exact h0.2.2.2.2.2.2.2.2) (by rfl) ?_
      refine j_iload_n dX8_bestOf_74 rfl ?_
      refine j_iconst (v := 1) dX8_bestOf_75 (by decide) ?_
      refine j_iadd dX8_bestOf_76 ?_
      refine m_iald (k := k + 1) dX8_bestOf_77 hB (by first | exact h0.1 | exact h0.2.1 | exact h0.2.2.1 | exact h0.2.2.2.1 | exact h0.2.2.2.2.1 | exact h0.2.2.2.2.2.1 | exact h0.2.2.2.2.2.2.1 | exact h0.2.2.2.2.2.2.2.1 | exact h0.2.2.2.2.2.2.2.2) (ixk (iA (hk0) (iC 1 (by decide)) (by omega)) (by omega)) (by omega) ?_
      refine j_isub dX8_bestOf_78 ?_
      refine j_cSi dX8_bestOf_79 hB mo_X8_size ml_X8_79 (sp_X8_size hB (iS (iA (hfr) (h_66) (by omega)) (hb1) (by omega)) (by omega) (by omega)) rfl rfl ⟨rfl, rfl, by decide, by decide⟩ (Nat.le_of_ble_eq_true rfl) ⟨by decide, by decide⟩ (fun r_79 V_79 h_79 => ?_)
      obtain ⟨rfl, h_79⟩ := h_79
      replace h_79 : isI r_79 ((cD ((atZ x.1.2.1.1 pp).toInt + (atZ x.1.2.1.2.2 pp).toInt) (atZ x.1.2.1.2.1 pp).toInt (aRoom x.1 (xR x r) w k) ((nj : Int) + 1) pz).natAbs : Int) := h_79.trans (by congr 1; omega)
      refine j_istore (L' := [(0, _), (1, _), (2, _), (3, _), (4, _), (5, _), (6, _), (7, _), (8, _), (9, _), (10, _)]) dX8_bestOf_82 (by decide) rfl ?_
      refine j_iload dX8_bestOf_84 rfl ?_
      refine j_ldc dX8_bestOf_86 hB kc_X8_62 ?_
      refine m_icmp_eq (tgt := 98) dX8_bestOf_88 (by decide) (iV) (iC (-2000001) (by decide)) (fun c_88 => ?_) (fun c_88 => ?_)
      · refine j_sipush (v := 1000) dX8_bestOf_98 (by decide) ?_
        refine j_iload dX8_bestOf_101 rfl ?_
        refine j_imul dX8_bestOf_103 ?_
        refine j_iload dX8_bestOf_104 rfl ?_
        refine j_iadd dX8_bestOf_106 ?_
        refine j_istore (L' := [(0, _), (1, _), (2, _), (3, _), (4, _), (5, _), (6, _), (7, _), (8, _), (9, _), (10, _)]) dX8_bestOf_107 (by decide) rfl ?_
        refine j_iload dX8_bestOf_109 rfl ?_
        refine j_istore (L' := [(0, _), (1, _), (2, _), (3, _), (4, _), (5, _), (6, _), (7, _), (8, _), (9, _), (10, _)]) dX8_bestOf_111 (by decide) rfl ?_
        refine K _ _ _ (hc.step (by omega) (by omega) pz0 pz1 (by omega) (by omega) ?_ ?_)
        · exact fun _ => ⟨ixz (iA (iM (iC 1000 (by decide)) (hsn) (by omega)) (hpa) (by omega)) rfl, h_79⟩
        · exact fun z9 => absurd (Or.inl c_88) z9
      · refine j_iload dX8_bestOf_91 rfl ?_
        refine j_iload dX8_bestOf_93 rfl ?_
        refine m_icmp_ge (tgt := 113) dX8_bestOf_95 (by decide) (h_79) (iV) (fun c_95 => ?_) (fun c_95 => ?_)
        · refine K _ _ _ (hc.step (by omega) (by omega) pz0 pz1 (by omega) (by omega) ?_ ?_)
          · exact fun z9 => absurd z9 (by omega)
          · exact fun _ => ⟨rfl, rfl⟩
        · refine j_sipush (v := 1000) dX8_bestOf_98 (by decide) ?_
          refine j_iload dX8_bestOf_101 rfl ?_
          refine j_imul dX8_bestOf_103 ?_
          refine j_iload dX8_bestOf_104 rfl ?_
          refine j_iadd dX8_bestOf_106 ?_
          refine j_istore (L' := [(0, _), (1, _), (2, _), (3, _), (4, _), (5, _), (6, _), (7, _), (8, _), (9, _), (10, _)]) dX8_bestOf_107 (by decide) rfl ?_
          refine j_iload dX8_bestOf_109 rfl ?_
          refine j_istore (L' := [(0, _), (1, _), (2, _), (3, _), (4, _), (5, _), (6, _), (7, _), (8, _), (9, _), (10, _)]) dX8_bestOf_111 (by decide) rfl ?_
          refine K _ _ _ (hc.step (by omega) (by omega) pz0 pz1 (by omega) (by omega) ?_ ?_)
          · exact fun _ => ⟨ixz (iA (iM (iC 1000 (by decide)) (hsn) (by omega)) (hpa) (by omega)) rfl, h_79⟩
          · exact fun z9 => absurd (Or.inr c_95) z9
  have far_ : ∀ (n fj : Nat) (fr b nr far : Int32) (L : List (Nat × Value)), fj + n = x.1.2.2.2.toInt.toNat + 1 → fr.toInt = aCb x.1 (xR x r) w k → far.toInt = fj → bR (cSrch ((atZ x.1.2.1.1 pp).toInt + (atZ x.1.2.1.2.2 pp).toInt) (atZ x.1.2.1.2.1 pp).toInt (aRoom x.1 (xR x r) w k) (0, 0, 1000000000) fj) b nr → J l s0 D kX8_bestOf (jR 2 0 0) 0 0 (qI T X sz (fun y V' => ∃ b : Int32, V' = jset V q 10 b ∧ b.toInt = (bestT x.1 pp (aRoom x.1 (xR x r) w k)).2.2 ∧ y.toInt = 1000 * (bestT x.1 pp (aRoom x.1 (xR x r) w k)).1 + (bestT x.1 pp (aRoom x.1 (xR x r) w k)).2.1)) 18 [(0, .ref q), (1, .int r), (2, .int k0), (3, .int p0), (4, .int fr), (5, .int b), (6, .int nr), (7, .int far)] [] T V X sz 0 0 := by
    intro n
    refine Nat.strongRecOn n ?_
    clear n
    intro n ih fj fr b nr far L hn hfr hfar hc
    have str : fj ≤ 20 → 0 < n → ∀ (m nj : Nat) (b nr sn : Int32), nj + m = 9 → sn.toInt = (nj : Int) + 1 → bR (cTry ((atZ x.1.2.1.1 pp).toInt + (atZ x.1.2.1.2.2 pp).toInt) (atZ x.1.2.1.2.1 pp).toInt (aRoom x.1 (xR x r) w k) (cSrch ((atZ x.1.2.1.1 pp).toInt + (atZ x.1.2.1.2.2 pp).toInt) (atZ x.1.2.1.2.1 pp).toInt (aRoom x.1 (xR x r) w k) (0, 0, 1000000000) fj) fj nj) b nr → J l s0 D kX8_bestOf (jR 2 0 0) 0 0 (qI T X sz (fun y V' => ∃ b : Int32, V' = jset V q 10 b ∧ b.toInt = (bestT x.1 pp (aRoom x.1 (xR x r) w k)).2.2 ∧ y.toInt = 1000 * (bestT x.1 pp (aRoom x.1 (xR x r) w k)).1 + (bestT x.1 pp (aRoom x.1 (xR x r) w k)).2.1)) 34 [(0, .ref q), (1, .int r), (2, .int k0), (3, .int p0), (4, .int fr), (5, .int b), (6, .int nr), (7, .int far), (8, .int sn)] [] T V X sz 0 0 := by
      intro hf20 hn0 m
      refine Nat.strongRecOn m ?_
      clear m
      intro m ih2 nj b nr sn hm hsn hc
      have tail : nj < 9 → ∀ (pa b nr : Int32) (pz : Int), isI pa pz → 100 + fj < pz → bR (cTry ((atZ x.1.2.1.1 pp).toInt + (atZ x.1.2.1.2.2 pp).toInt) (atZ x.1.2.1.2.1 pp).toInt (aRoom x.1 (xR x r) w k) (cSrch ((atZ x.1.2.1.1 pp).toInt + (atZ x.1.2.1.2.2 pp).toInt) (atZ x.1.2.1.2.1 pp).toInt (aRoom x.1 (xR x r) w k) (0, 0, 1000000000) fj) fj (nj + 1)) b nr → J l s0 D kX8_bestOf (jR 2 0 0) 0 0 (qI T X sz (fun y V' => ∃ b : Int32, V' = jset V q 10 b ∧ b.toInt = (bestT x.1 pp (aRoom x.1 (xR x r) w k)).2.2 ∧ y.toInt = 1000 * (bestT x.1 pp (aRoom x.1 (xR x r) w k)).1 + (bestT x.1 pp (aRoom x.1 (xR x r) w k)).2.1)) 48 [(0, .ref q), (1, .int r), (2, .int k0), (3, .int p0), (4, .int fr), (5, .int b), (6, .int nr), (7, .int far), (8, .int sn), (9, .int pa)] [] T V X sz 0 0 := by
        intro hn9 pa b nr pz hpa hpz hc
        refine j_iload dX8_bestOf_48 rfl ?_
        refine j_bipush (v := 100) dX8_bestOf_50 (by decide) ?_
        refine j_iload dX8_bestOf_52 rfl ?_
        refine j_iadd dX8_bestOf_54 ?_
        refine m_icmp_gt (tgt := 134) dX8_bestOf_55 (by decide) (hpa) (iA (iC 100 (by decide)) (hfar) (by omega)) (fun c_55 => ?_) (fun c_55 => ?_)
        · refine j_iinc (v := 1) (L' := [(0, _), (1, _), (2, _), (3, _), (4, _), (5, _), (6, _), (7, _), (8, _), (9, _)]) dX8_bestOf_134 rfl (by decide) (by decide) rfl ?_
          refine j_goto (tgt := 34) dX8_bestOf_137 (by decide) ?_
          refine j_sub2 (L' := [(0, _), (1, _), (2, _), (3, _), (4, _), (5, _), (6, _), (7, _), (8, _)]) (List.forall_mem_cons.mpr ⟨rfl, List.forall_mem_cons.mpr ⟨rfl, List.forall_mem_cons.mpr ⟨rfl, List.forall_mem_cons.mpr ⟨rfl, List.forall_mem_cons.mpr ⟨rfl, List.forall_mem_cons.mpr ⟨rfl, List.forall_mem_cons.mpr ⟨rfl, List.forall_mem_cons.mpr ⟨rfl, List.forall_mem_cons.mpr ⟨rfl, fun _ h9 => nomatch h9⟩⟩⟩⟩⟩⟩⟩⟩⟩) ?_
          refine ih2 (m - 1) (by omega) (nj + 1) _ _ _ (by omega) ?_ hc
          exact ixz (iA (hsn) (iC 1 (by decide)) (by omega)) (by omega)
        · exact absurd c_55 (by omega)
      refine j_iload dX8_bestOf_34 rfl ?_
      refine j_bipush (v := 9) dX8_bestOf_36 (by decide) ?_
      refine m_icmp_gt (tgt := 140) dX8_bestOf_38 (by decide) (hsn) (iC 9 (by decide)) (fun c_38 => ?_) (fun c_38 => ?_)
      · refine j_iinc (v := 1) (L' := [(0, _), (1, _), (2, _), (3, _), (4, _), (5, _), (6, _), (7, _), (8, _)]) dX8_bestOf_140 rfl (by decide) (by decide) rfl ?_
        refine j_goto (tgt := 18) dX8_bestOf_143 (by decide) ?_
        refine j_sub2 (L' := [(0, _), (1, _), (2, _), (3, _), (4, _), (5, _), (6, _), (7, _)]) (List.forall_mem_cons.mpr ⟨rfl, List.forall_mem_cons.mpr ⟨rfl, List.forall_mem_cons.mpr ⟨rfl, List.forall_mem_cons.mpr ⟨rfl, List.forall_mem_cons.mpr ⟨rfl, List.forall_mem_cons.mpr ⟨rfl, List.forall_mem_cons.mpr ⟨rfl, List.forall_mem_cons.mpr ⟨rfl, fun _ h9 => nomatch h9⟩⟩⟩⟩⟩⟩⟩⟩) ?_
        refine ih (n - 1) (by omega) (fj + 1) _ _ _ _ [] (by omega) hfr ?_ ?_
        · exact (ixk (k := fj + 1) (iA (hfar) (iC 1 (by decide)) (by omega)) (by omega))
        · rw [show nj = 9 by omega] at hc
          exact hc
      · have hn9 : nj < 9 := by omega
        refine j_bipush (v := 100) dX8_bestOf_41 (by decide) ?_
        refine j_iload dX8_bestOf_43 rfl ?_
        refine j_isub dX8_bestOf_45 ?_
        refine j_istore (L' := [(0, _), (1, _), (2, _), (3, _), (4, _), (5, _), (6, _), (7, _), (8, _), (9, _)]) dX8_bestOf_46 (by decide) rfl ?_
        have hpa : isI (100 - far) (100 - (fj : Int)) := iS (iC 100 (by decide)) hfar (by omega)
        have hf20' := hf20
        generalize (100 - far : Int32) = pa at hpa ⊢
        refine body fj nj _ _ _ _ _ _ _ _ hfr hfar hf20 hsn (by omega) hpa (by omega) (by omega) (by omega) hc (fun b1 nr1 ten1 hc1 => ?_)
        by_cases hf0 : fj = 0
        · subst hf0
          have hc2 : bR (cTry ((atZ x.1.2.1.1 pp).toInt + (atZ x.1.2.1.2.2 pp).toInt) (atZ x.1.2.1.2.1 pp).toInt (aRoom x.1 (xR x r) w k) (cSrch ((atZ x.1.2.1.1 pp).toInt + (atZ x.1.2.1.2.2 pp).toInt) (atZ x.1.2.1.2.1 pp).toInt (aRoom x.1 (xR x r) w k) (0, 0, 1000000000) 0) (0 : Nat) (nj + 1)) b1 nr1 := by
            show bR (cStep ((atZ x.1.2.1.1 pp).toInt + (atZ x.1.2.1.2.2 pp).toInt) (atZ x.1.2.1.2.1 pp).toInt (aRoom x.1 (xR x r) w k) (cTry ((atZ x.1.2.1.1 pp).toInt + (atZ x.1.2.1.2.2 pp).toInt) (atZ x.1.2.1.2.1 pp).toInt (aRoom x.1 (xR x r) w k) (cSrch ((atZ x.1.2.1.1 pp).toInt + (atZ x.1.2.1.2.2 pp).toInt) (atZ x.1.2.1.2.1 pp).toInt (aRoom x.1 (xR x r) w k) (0, 0, 1000000000) 0) (0 : Nat) nj) (0 : Nat) ((nj : Int) + 1)) b1 nr1
            rw [show (((0 : Nat) : Int)) = 0 from rfl, cStep_0]
            exact hc1
          refine j_iload dX8_bestOf_113 rfl ?_
          refine j_iload dX8_bestOf_115 rfl ?_
          refine m_if_ne (tgt := 124) dX8_bestOf_117 (by decide) (hfar) (fun c_117 => ?_) (fun c_117 => ?_)
          · exact absurd rfl c_117
          · refine j_iconst (v := 1) dX8_bestOf_120 (by decide) ?_
            refine j_goto (tgt := 128) dX8_bestOf_121 (by decide) ?_
            refine j_iadd dX8_bestOf_128 ?_
            refine j_istore (L' := [(0, _), (1, _), (2, _), (3, _), (4, _), (5, _), (6, _), (7, _), (8, _), (9, _), (10, _)]) dX8_bestOf_129 (by decide) rfl ?_
            refine j_goto (tgt := 48) dX8_bestOf_131 (by decide) ?_
            refine j_sub2 (L' := [(0, _), (1, _), (2, _), (3, _), (4, _), (5, _), (6, _), (7, _), (8, _), (9, _)]) (List.forall_mem_cons.mpr ⟨rfl, List.forall_mem_cons.mpr ⟨rfl, List.forall_mem_cons.mpr ⟨rfl, List.forall_mem_cons.mpr ⟨rfl, List.forall_mem_cons.mpr ⟨rfl, List.forall_mem_cons.mpr ⟨rfl, List.forall_mem_cons.mpr ⟨rfl, List.forall_mem_cons.mpr ⟨rfl, List.forall_mem_cons.mpr ⟨rfl, List.forall_mem_cons.mpr ⟨rfl, fun _ h9 => nomatch h9⟩⟩⟩⟩⟩⟩⟩⟩⟩⟩) ?_
            exact tail (by omega) _ _ _ _ (iA (hpa) (iC 1 (by decide)) (by omega)) (by omega) hc2
        · have key : ∀ (pa b nr ten : Int32), isI pa (100 + (fj : Int)) → bR (cCons (cCons (cTry ((atZ x.1.2.1.1 pp).toInt + (atZ x.1.2.1.2.2 pp).toInt) (atZ x.1.2.1.2.1 pp).toInt (aRoom x.1 (xR x r) w k) (cSrch ((atZ x.1.2.1.1 pp).toInt + (atZ x.1.2.1.2.2 pp).toInt) (atZ x.1.2.1.2.1 pp).toInt (aRoom x.1 (xR x r) w k) (0, 0, 1000000000) fj) fj nj) ((nj : Int) + 1) (100 - fj) (cD ((atZ x.1.2.1.1 pp).toInt + (atZ x.1.2.1.2.2 pp).toInt) (atZ x.1.2.1.2.1 pp).toInt (aRoom x.1 (xR x r) w k) ((nj : Int) + 1) (100 - fj))) ((nj : Int) + 1) (100 + fj) (cD ((atZ x.1.2.1.1 pp).toInt + (atZ x.1.2.1.2.2 pp).toInt) (atZ x.1.2.1.2.1 pp).toInt (aRoom x.1 (xR x r) w k) ((nj : Int) + 1) (100 + fj))) b nr → J l s0 D kX8_bestOf (jR 2 0 0) 0 0 (qI T X sz (fun y V' => ∃ b : Int32, V' = jset V q 10 b ∧ b.toInt = (bestT x.1 pp (aRoom x.1 (xR x r) w k)).2.2 ∧ y.toInt = 1000 * (bestT x.1 pp (aRoom x.1 (xR x r) w k)).1 + (bestT x.1 pp (aRoom x.1 (xR x r) w k)).2.1)) 113 [(0, .ref q), (1, .int r), (2, .int k0), (3, .int p0), (4, .int fr), (5, .int b), (6, .int nr), (7, .int far), (8, .int sn), (9, .int pa), (10, .int ten)] [] T V X sz 0 0 := by
            intro pa b nr ten hpa hc
            refine j_iload dX8_bestOf_113 rfl ?_
            refine j_iload dX8_bestOf_115 rfl ?_
            refine m_if_ne (tgt := 124) dX8_bestOf_117 (by decide) (hfar) (fun c_117 => ?_) (fun c_117 => ?_)
            · refine j_iconst (v := 2) dX8_bestOf_124 (by decide) ?_
              refine j_iload dX8_bestOf_125 rfl ?_
              refine j_imul dX8_bestOf_127 ?_
              refine j_iadd dX8_bestOf_128 ?_
              refine j_istore (L' := [(0, _), (1, _), (2, _), (3, _), (4, _), (5, _), (6, _), (7, _), (8, _), (9, _), (10, _)]) dX8_bestOf_129 (by decide) rfl ?_
              refine j_goto (tgt := 48) dX8_bestOf_131 (by decide) ?_
              refine j_sub2 (L' := [(0, _), (1, _), (2, _), (3, _), (4, _), (5, _), (6, _), (7, _), (8, _), (9, _)]) (List.forall_mem_cons.mpr ⟨rfl, List.forall_mem_cons.mpr ⟨rfl, List.forall_mem_cons.mpr ⟨rfl, List.forall_mem_cons.mpr ⟨rfl, List.forall_mem_cons.mpr ⟨rfl, List.forall_mem_cons.mpr ⟨rfl, List.forall_mem_cons.mpr ⟨rfl, List.forall_mem_cons.mpr ⟨rfl, List.forall_mem_cons.mpr ⟨rfl, List.forall_mem_cons.mpr ⟨rfl, fun _ h9 => nomatch h9⟩⟩⟩⟩⟩⟩⟩⟩⟩⟩) ?_
              refine tail (by omega) _ _ _ _ (iA (hpa) (iM (iC 2 (by decide)) (hfar) (by omega)) (by omega)) (by omega) ?_
              exact hc
            · exact absurd c_117 (by omega)
          refine j_iload dX8_bestOf_113 rfl ?_
          refine j_iload dX8_bestOf_115 rfl ?_
          refine m_if_ne (tgt := 124) dX8_bestOf_117 (by decide) (hfar) (fun c_117 => ?_) (fun c_117 => ?_)
          · refine j_iconst (v := 2) dX8_bestOf_124 (by decide) ?_
            refine j_iload dX8_bestOf_125 rfl ?_
            refine j_imul dX8_bestOf_127 ?_
            refine j_iadd dX8_bestOf_128 ?_
            refine j_istore (L' := [(0, _), (1, _), (2, _), (3, _), (4, _), (5, _), (6, _), (7, _), (8, _), (9, _), (10, _)]) dX8_bestOf_129 (by decide) rfl ?_
            refine j_goto (tgt := 48) dX8_bestOf_131 (by decide) ?_
            refine j_sub2 (L' := [(0, _), (1, _), (2, _), (3, _), (4, _), (5, _), (6, _), (7, _), (8, _), (9, _)]) (List.forall_mem_cons.mpr ⟨rfl, List.forall_mem_cons.mpr ⟨rfl, List.forall_mem_cons.mpr ⟨rfl, List.forall_mem_cons.mpr ⟨rfl, List.forall_mem_cons.mpr ⟨rfl, List.forall_mem_cons.mpr ⟨rfl, List.forall_mem_cons.mpr ⟨rfl, List.forall_mem_cons.mpr ⟨rfl, List.forall_mem_cons.mpr ⟨rfl, List.forall_mem_cons.mpr ⟨rfl, fun _ h9 => nomatch h9⟩⟩⟩⟩⟩⟩⟩⟩⟩⟩) ?_
            refine body fj nj _ _ _ _ _ _ (100 + (fj : Int)) _ hfr hfar hf20 hsn (by omega) (ixz (iA (hpa) (iM (iC 2 (by decide)) (hfar) (by omega)) (by omega)) (by omega)) (by omega) (by omega) (by omega) hc1 (fun b2 nr2 ten2 hc2 => ?_)
            exact key _ _ _ _ (ixz (iA (hpa) (iM (iC 2 (by decide)) (hfar) (by omega)) (by omega)) (by omega)) hc2
          · exact absurd c_117 (by omega)
    refine j_iload dX8_bestOf_18 rfl ?_
    refine j_aload_n dX8_bestOf_20 rfl ?_
    refine j_getr dX8_bestOf_21 hB fl_X8_7 (by first | exact h0.1 | exact h0.2.1 | exact h0.2.2.1 | exact h0.2.2.2.1 | exact h0.2.2.2.2.1 | exact h0.2.2.2.2.2.1 | exact h0.2.2.2.2.2.2.1 | exact h0.2.2.2.2.2.2.2.1 | exact h0.2.2.2.2.2.2.2.2) (by rfl) ?_
    refine j_sipush (v := 227) dX8_bestOf_24 (by decide) ?_
    refine m_iald (k := 227) dX8_bestOf_27 hB (by first | exact h0.1 | exact h0.2.1 | exact h0.2.2.1 | exact h0.2.2.2.1 | exact h0.2.2.2.2.1 | exact h0.2.2.2.2.2.1 | exact h0.2.2.2.2.2.2.1 | exact h0.2.2.2.2.2.2.2.1 | exact h0.2.2.2.2.2.2.2.2) (ixk (iC 227 (by decide)) (by omega)) (by omega) ?_
    refine m_icmp_gt (tgt := 146) dX8_bestOf_28 (by decide) (hfar) (hlee) (fun c_28 => ?_) (fun c_28 => ?_)
    · refine j_aload_n dX8_bestOf_146 rfl ?_
      refine j_iload dX8_bestOf_147 rfl ?_
      refine j_puti dX8_bestOf_149 hB fp_X8_bestOf_85 (by first | exact h0.1 | exact h0.2.1 | exact h0.2.2.1 | exact h0.2.2.2.1 | exact h0.2.2.2.2.1 | exact h0.2.2.2.2.2.1 | exact h0.2.2.2.2.2.2.1 | exact h0.2.2.2.2.2.2.2.1 | exact h0.2.2.2.2.2.2.2.2) (by rfl) ?_
      refine j_iload dX8_bestOf_152 rfl ?_
      refine j_iret dX8_bestOf_154 rfl (rfl) (by decide) (by decide) ?_
      rcases hc with ⟨e1, e2⟩ | ⟨e1, e2, e3⟩
      · exfalso
        have bp := bestT_P hp hlw (i := (pp : Int)) (by omega) (by omega) hr0.1 hr0.2
        rw [show fj = x.1.2.2.2.toInt.toNat + 1 by omega] at e2
        have bp1 := bp.1
        unfold bestT at bp1
        rw [e2] at bp1
        exact absurd bp1 (by decide)
      · rw [show fj = x.1.2.2.2.toInt.toNat + 1 by omega] at e2 e3
        exact ⟨_, rfl, rfl, rfl, rfl, _, rfl, e3, e2⟩
    · refine j_iconst (v := 1) dX8_bestOf_31 (by decide) ?_
      refine j_istore (L' := [(0, _), (1, _), (2, _), (3, _), (4, _), (5, _), (6, _), (7, _), (8, _)]) dX8_bestOf_32 (by decide) rfl ?_
      refine str (by omega) (by omega) 9 0 _ _ _ (by omega) ?_ hc
      rfl
  refine j_aload_n dX8_bestOf_0 rfl ?_
  refine j_iload_n dX8_bestOf_1 rfl ?_
  refine j_iload_n dX8_bestOf_2 rfl ?_
  refine j_cVi dX8_bestOf_3 hB mo_X8_beginOf ml_X8_63 (sp_X8_beginOf hB h0 hz z3 h hW hk0 hk hw hb he) (by first | exact h0.1 | exact h0.2.1 | exact h0.2.2.1 | exact h0.2.2.2.1 | exact h0.2.2.2.2.1 | exact h0.2.2.2.2.2.1 | exact h0.2.2.2.2.2.2.1 | exact h0.2.2.2.2.2.2.2.1 | exact h0.2.2.2.2.2.2.2.2) rfl rfl rfl rfl ⟨rfl, rfl, by decide, by decide⟩ (Nat.le_of_ble_eq_true rfl) ⟨by decide, by decide⟩ (fun r_3 V_3 h_3 => ?_)
  obtain ⟨rfl, h_3⟩ := h_3
  refine j_istore (L' := [(0, _), (1, _), (2, _), (3, _), (4, _)]) dX8_bestOf_6 (by decide) rfl ?_
  refine j_ldc dX8_bestOf_8 hB kc_X8_62 ?_
  refine j_istore (L' := [(0, _), (1, _), (2, _), (3, _), (4, _), (5, _)]) dX8_bestOf_10 (by decide) rfl ?_
  refine j_iconst (v := 0) dX8_bestOf_12 (by decide) ?_
  refine j_istore (L' := [(0, _), (1, _), (2, _), (3, _), (4, _), (5, _), (6, _)]) dX8_bestOf_13 (by decide) rfl ?_
  refine j_iconst (v := 0) dX8_bestOf_15 (by decide) ?_
  refine j_istore (L' := [(0, _), (1, _), (2, _), (3, _), (4, _), (5, _), (6, _), (7, _)]) dX8_bestOf_16 (by decide) rfl ?_
  exact far_ (x.1.2.2.2.toInt.toNat + 1) 0 _ _ _ _ [] (by omega) h_3 rfl (Or.inl ⟨by decide, rfl⟩)
end JM4
