/-! THE LAW: best cues, pieces, speeds -/
def tRw (T : jT) (V0 V : jV) (q : Nat) (x : aX) (ra pa da ca ea : Nat) (rr : aR) : Prop := (∀ b, (b < q ∨ q + 492 ≤ b) → b ≠ ca → b ≠ ea → V b = V0 b) ∧ cuIs T V q x ∧ zRl (V ra) rr ∧ zPa (V pa) x.1 ∧ zDd (V da) x.1
theorem tRw.ag {T : jT} {V0 V V' : jV} {q : Nat} {x : aX} {ra pa da ca ea : Nat} {rr : aR} (h : tRw T V0 V q x ra pa da ca ea rr) (ha : jAg V V' q (q + 492)) (hc : cuIs T V' q x) (d : dQ q ra pa da ca ea) : tRw T V0 V' q x ra pa da ca ea rr := by
  obtain ⟨h1, h2, h3, h4, h5⟩ := h
  obtain ⟨d1, d2, d3, d4, d5⟩ := d
  exact ⟨fun b hb b1 b2 => (ha b hb).trans (h1 b hb b1 b2), hc, by rw [ha ra (Or.inr d1)]; exact h3, by rw [ha pa (Or.inr d2)]; exact h4, by rw [ha da (Or.inr d3)]; exact h5⟩
theorem tRw.ly {T : jT} {V0 V V' : jV} {q : Nat} {x : aX} {ra pa da ca ea : Nat} {rr : aR} (h : tRw T V0 V q x ra pa da ca ea rr) (ha : lyF V V' ca ea) (d : dQ q ra pa da ca ea) (hd : ca ≠ ea ∧ ra ≠ ca ∧ ra ≠ ea ∧ pa ≠ ca ∧ pa ≠ ea) (hd2 : da ≠ ca ∧ da ≠ ea) : tRw T V0 V' q x ra pa da ca ea rr := by
  obtain ⟨h1, h2, h3, h4, h5⟩ := h
  obtain ⟨d1, d2, d3, d4, d5⟩ := d
  exact ⟨fun b hb b1 b2 => (ha b b1 b2).trans (h1 b hb b1 b2), h2.cg (fun a a1 a2 => ⟨rfl, ha a (by omega) (by omega)⟩), by rw [ha ra hd.2.1 hd.2.2.1]; exact h3, by rw [ha pa hd.2.2.2.1 hd.2.2.2.2]; exact h4, by rw [ha da hd2.1 hd2.2]; exact h5⟩
/-- the least sum of drifts, and of those with it the lowest speed -/
noncomputable def dsS (s : aS) (rr : aR) (v : Int) : Int := aSum (aDs1 s rr v) rr.1.length
/-- the best of the speeds above vz -/
def spI (s : aS) (rr : aR) (fa le : Int32) (vz : Int) : Prop := (fa.toInt = -1 ∧ vz = 30) ∨ ∃ f : Int, vz < f ∧ f ≤ 30 ∧ isI fa f ∧ isI le (dsS s rr f) ∧ ∀ u : Int, vz < u → u ≤ 30 → dsS s rr f ≤ dsS s rr u ∧ (dsS s rr u = dsS s rr f → f ≤ u)
theorem bsN_min {s : aS} {rr : aR} : ∀ k : Nat, ∃ f : Int, 10 ≤ f ∧ f < 11 + k ∧ bsN s rr (k + 1) = (f, dsS s rr f) ∧ ∀ u : Int, 10 ≤ u → u < 11 + k → dsS s rr f ≤ dsS s rr u ∧ (dsS s rr u = dsS s rr f → f ≤ u)
  | 0 => by
    refine ⟨10, by omega, by omega, ?_, fun u h1 h2 => ?_⟩
    · show (if (0 : Nat) = 0 ∨ _ then _ else _) = _
      rw [if_pos (Or.inl rfl)]
      rfl
    · rw [show u = 10 by omega]
      exact ⟨Int.le_refl _, fun _ => Int.le_refl _⟩
  | k + 1 => by
    obtain ⟨f, h1, h2, h3, h4⟩ := bsN_min (s := s) (rr := rr) k
    have e : bsN s rr (k + 1 + 1) = if k + 1 = 0 ∨ dsS s rr (10 + ((k + 1 : Nat) : Int)) < (bsN s rr (k + 1)).2 then (10 + ((k + 1 : Nat) : Int), dsS s rr (10 + ((k + 1 : Nat) : Int))) else bsN s rr (k + 1) := rfl
    rw [e, h3]
    by_cases c : dsS s rr (10 + ((k + 1 : Nat) : Int)) < dsS s rr f
    · rw [if_pos (Or.inr c)]
      refine ⟨10 + ((k + 1 : Nat) : Int), by omega, by omega, rfl, fun u a b => ?_⟩
      by_cases g : u < 11 + k
      · have := h4 u a g
        omega
      · rw [show u = 10 + ((k + 1 : Nat) : Int) by omega]
        exact ⟨Int.le_refl _, fun _ => Int.le_refl _⟩
    · rw [if_neg (fun z => by rcases z with z | z; (exact absurd z (by omega)); (exact c z))]
      refine ⟨f, h1, by omega, rfl, fun u a b => ?_⟩
      by_cases g : u < 11 + k
      · exact h4 u a g
      · have : u = 10 + ((k + 1 : Nat) : Int) := by omega
        rw [← this] at c
        exact ⟨by omega, fun _ => by omega⟩
theorem bsV_is {s : aS} {rr : aR} {f : Int} (h1 : 10 ≤ f) (h2 : f ≤ 30) (h : ∀ u : Int, 10 ≤ u → u ≤ 30 → dsS s rr f ≤ dsS s rr u ∧ (dsS s rr u = dsS s rr f → f ≤ u)) : bsV s rr = f := by
  obtain ⟨g, g1, g2, g3, g4⟩ := bsN_min (s := s) (rr := rr) 20
  have e : bsV s rr = g := by unfold bsV; rw [g3]
  rw [e]
  have a := h g g1 (by omega)
  have b := g4 f h1 (by omega)
  have c1 := a.2
  have c2 := b.2
  omega
theorem bestT_g {s : aS} {i m : Int} (hp : pcW s) (hl : lwW s) (i0 : 0 ≤ i) (i1 : i < s.2.1.1.length) (m0 : -1000000 ≤ m) (m1 : m ≤ 1000000) : (bestT s i m).2.2 = ((plT s i (bestT s i m).1 (bestT s i m).2.1 - m).natAbs : Int) := by
  obtain ⟨x0, x1, x2, x3, x4, x5⟩ := pcW_at hp i0 i1
  obtain ⟨_, _, l0, l1⟩ := hl
  have hg := gB_s (u := (atZ s.2.1.1 i).toInt + (atZ s.2.1.2.2 i).toInt) (s := (atZ s.2.1.2.1 i).toInt) (m := m) (by
    have dr := cD_rng (u := (atZ s.2.1.1 i).toInt + (atZ s.2.1.2.2 i).toInt) (s := (atZ s.2.1.2.1 i).toInt) (m := m) (n := 1) (p := 100) (by omega) (by omega) (by omega) (by omega) m0 m1 (by omega) (by omega) (by omega)
    omega) s.2.2.2.toInt.toNat (by omega)
  have h := hg.2.2.1
  rw [plT_cD]
  exact h
section JLL
variable {l : Launch} {s0 : State} {D : jD} {T : jT} {V : jV} {X : jX} {sz : Nat}
set_option maxRecDepth 100000 in
set_option maxHeartbeats 4000000 in
theorem ah_body (hB : jB l s0 D) {q ra pa da ca ea : Nat} {x : aX} {r0 x0 y0 : Int32} {z : Nat} {Q : jQ} (hcu : cuIs T V q x) (hW : xW x) (hz0 : r0.toInt = (z : Int)) (z3 : z < 3) (hr : T ra = some (kI 60)) (hpa : T pa = some (kI 12)) (hda : T da = some (kI 3)) (hca : T ca = some (kI 10)) (hea : T ea = some (kI 5)) (dq : dQ q ra pa da ca ea) (hd : ca ≠ ea ∧ ra ≠ ca ∧ ra ≠ ea ∧ pa ≠ ca ∧ pa ≠ ea) (hd2 : da ≠ ca ∧ da ≠ ea) (hz : zRl (V ra) (xR x r0)) (hpz : zPa (V pa) x.1) (hdz : zDd (V da) x.1)
  (K1 : ∀ (V' : jV) (c' n' : Nat) (L : List (Nat × Value)), tRw T V V' q x ra pa da ca ea (xR x r0) → c' ≤ 30 → n' ≤ 300 → J l s0 D kL_ahead (jR 9 30 300) 30 300 Q 148 L [.int 1] T V' X sz c' n')
  (K2 : ∀ (V' : jV) (c' n' : Nat) (L : List (Nat × Value)), tRw T V V' q x ra pa da ca ea (xR x r0) → c' ≤ 30 → n' ≤ 300 → J l s0 D kL_ahead (jR 9 30 300) 30 300 Q 311 L [.int 1] T V' X sz c' n') : J l s0 D kL_ahead (jR 9 30 300) 30 300 Q 11 [(0, .ref q), (1, .int r0), (2, .int x0), (3, .int y0), (4, .ref ra), (5, .ref pa), (6, .ref da), (7, .ref ca), (8, .ref ea)] [] T V X sz 2 15 := by
  have hrl : rlW x.1 (xR x r0) := hW.r r0
  have hp : pcW x.1 := hW.1.1
  have hlw : lwW x.1 := hW.1.2.1
  have h5 := hz.2.1
  have dq2 := dq
  obtain ⟨dq3, dq4, dq5, dq6, dq7⟩ := dq2
  have w : tRw T V V q x ra pa da ca ea (xR x r0) := ⟨fun _ _ _ _ => rfl, hcu, hz, hpz, hdz⟩
  refine j_bipush (v := 10) dL_ahead_11 (by decide) ?_
  refine j_iload_n dL_ahead_13 rfl ?_
  refine j_bipush (v := 21) dL_ahead_14 (by decide) ?_
  refine j_cSi dL_ahead_16 hB mo_L_at ml_L_71 (sp_L_at hB (by decide)) rfl rfl ⟨rfl, rfl, by decide, by decide⟩ (Nat.le_of_ble_eq_true rfl) ⟨by show _ ≤ 30; omega, by show _ ≤ 300; omega⟩ (fun r_16 V_16 h_16 => ?_)
  obtain ⟨rfl, f0, f1⟩ := h_16
  rw [show (21 : Int32).toInt = 21 by decide] at f1
  have hsp : (10 + r_16).toInt = 10 + r_16.toInt := iA (iC 10 (by decide)) iV (by omega)
  refine j_iadd dL_ahead_19 ?_
  refine j_istore (L' := [(0, _), (1, _), (2, _), (3, _), (4, _), (5, _), (6, _), (7, _), (8, _), (9, _)]) dL_ahead_20 (by decide) rfl ?_
  refine j_iload dL_ahead_22 rfl ?_
  refine j_aload dL_ahead_24 rfl ?_
  refine j_aload dL_ahead_26 rfl ?_
  refine j_aload dL_ahead_28 rfl ?_
  refine j_aload dL_ahead_30 rfl ?_
  refine j_cSu dL_ahead_32 hB mo_L_lay ml_L_49 (sp_L_lay hB hr hpa hca hea hd w.2.2.1 w.2.2.2.1 hp hrl (rfl) (Or.inr (by rw [hsp]; omega)) (by rw [hsp]; omega)) rfl rfl ⟨rfl, rfl, by decide, by decide⟩ (Nat.le_of_ble_eq_true rfl) ⟨by show _ ≤ 30; omega, by show _ ≤ 300; omega⟩ (fun V_32 h_32 => ?_)
  obtain ⟨hF, h_32⟩ := h_32
  replace w := w.ly hF dq hd hd2
  clear hF
  have hO : lyO V_32 ca ea x.1 (xR x r0) (10 + r_16).toInt (xR x r0).1.length := h_32
  refine j_aload_n dL_ahead_35 rfl ?_
  refine j_iload_n dL_ahead_36 rfl ?_
  refine j_iload dL_ahead_37 rfl ?_
  refine j_cCi dL_ahead_39 hB mo_X7_ifCranked ml_L_99 (sp_X7_ifCranked hB w.2.1 hW) (e_if0 hz0 z3 (by rw [hsp]; omega) (by rw [hsp]; omega)) w.2.1.k rfl rfl rfl rfl ⟨rfl, rfl, by decide, by decide⟩ (Nat.le_of_ble_eq_true rfl) ⟨by show _ ≤ 30; omega, by show _ ≤ 300; omega⟩ (fun y_39 V_39 h_39 a_39 g_39 => ?_)
  replace w := w.ag a_39 g_39 dq
  replace hO := hO.cg (a_39 ca (Or.inr dq6)) (a_39 ea (Or.inr dq7))
  replace h_39 := h_39.trans (rfl)
  refine j_aload dL_ahead_42 rfl ?_
  refine j_aload dL_ahead_44 rfl ?_
  refine j_aload dL_ahead_46 rfl ?_
  refine j_aload dL_ahead_48 rfl ?_
  refine j_cSi dL_ahead_50 hB mo_L_bads ml_L_67 (sp_L_bads hB hr hca hea w.2.2.1 hO hp hrl (Or.inr (by rw [hsp]; omega)) hda w.2.2.2.2) rfl rfl ⟨rfl, rfl, by decide, by decide⟩ (Nat.le_of_ble_eq_true rfl) ⟨by show _ ≤ 30; omega, by show _ ≤ 300; omega⟩ (fun r_50 V_50 h_50 => ?_)
  obtain ⟨rfl, h_50⟩ := h_50
  refine m_icmp_eq (tgt := 58) dL_ahead_53 (by decide) (h_39) (h_50) (fun c_53 => ?_) (fun c_53 => ?_)
  · have bh : ∀ (fa le v : Int32) (V1 : jV) (c1 n1 : Nat), tRw T V V1 q x ra pa da ca ea (xR x r0) → c1 ≤ 5 → n1 ≤ 40 → J l s0 D kL_ahead (jR 9 30 300) 30 300 Q 140 [(0, .ref q), (1, .int r0), (2, .int x0), (3, .int y0), (4, .ref ra), (5, .ref pa), (6, .ref da), (7, .ref ca), (8, .ref ea), (9, .int (10 + r_16)), (10, .int fa), (11, .int le), (12, .int v)] [] T V1 X sz c1 n1 := by
      intro fa le v V1 c1 n1 w hc1 hn1
      refine j_aload dL_ahead_140 rfl ?_
      refine j_iconst (v := 0) dL_ahead_142 (by decide) ?_
      refine m_iald (k := 0) dL_ahead_143 hB (by assumption) (ixk (iC 0 (by decide)) (by omega)) (by omega) ?_
      refine m_if_ne (tgt := 149) dL_ahead_144 (by decide) (w.2.2.1.1) (fun c_144 => ?_) (fun c_144 => ?_)
      · refine j_iconst (v := 0) dL_ahead_149 (by decide) ?_
        refine j_aload dL_ahead_150 rfl ?_
        refine j_aload dL_ahead_152 rfl ?_
        refine j_aload dL_ahead_154 rfl ?_
        refine j_aload dL_ahead_156 rfl ?_
        refine j_cSu dL_ahead_158 hB mo_L_lay ml_L_49 (sp_L_lay hB hr hpa hca hea hd w.2.2.1 w.2.2.2.1 hp hrl (iC 0 (by decide)) (Or.inl rfl) (by decide)) rfl rfl ⟨rfl, rfl, by decide, by decide⟩ (Nat.le_of_ble_eq_true rfl) ⟨by show _ ≤ 30; omega, by show _ ≤ 300; omega⟩ (fun V_158 h_158 => ?_)
        obtain ⟨hF, h_158⟩ := h_158
        replace w := w.ly hF dq hd hd2
        clear hF
        have hO : lyO V_158 ca ea x.1 (xR x r0) 0 (xR x r0).1.length := h_158
        refine j_iload_n dL_ahead_161 rfl ?_
        refine j_aload dL_ahead_162 rfl ?_
        refine j_iconst (v := 0) dL_ahead_164 (by decide) ?_
        refine m_iald (k := 0) dL_ahead_165 hB (by assumption) (ixk (iC 0 (by decide)) (by omega)) (by omega) ?_
        refine j_cSi dL_ahead_166 hB mo_L_at ml_L_71 (sp_L_at hB (by show 0 < (_ : Int32).toInt; have hn0 : (V_158 ra 0).toInt = _ := w.2.2.1.1; omega)) rfl rfl ⟨rfl, rfl, by decide, by decide⟩ (Nat.le_of_ble_eq_true rfl) ⟨by show _ ≤ 30; omega, by show _ ≤ 300; omega⟩ (fun r_166 V_166 h_166 => ?_)
        obtain ⟨rfl, f0, f1⟩ := h_166
        have hn0 : (V_158 ra 0).toInt = _ := w.2.2.1.1
        obtain ⟨k, hk0⟩ : ∃ k : Nat, r_166.toInt = (k : Int) := ⟨r_166.toInt.toNat, by omega⟩
        have hk : k < (xR x r0).1.length := by omega
        have hr0 := aRoom_rng hp hrl (w := 0) (Or.inl rfl) hk
        have b0 := aBeg_rng hrl (w := 0) (Or.inl rfl) (k + 1) (by omega)
        have bk0 := aBeg_rng hrl (w := 0) (Or.inl rfl) k (by omega)
        have m0 := aMus_rng hp hrl (w := 0) (Or.inl rfl) k (by omega)
        have cb0 : 0 ≤ aCb x.1 (xR x r0) 0 k ∧ aCb x.1 (xR x r0) 0 k ≤ 300000 := by unfold aCb; omega
        have rme : (aRoom x.1 (xR x r0) 0 k) = aBeg (xR x r0) 0 (k + 1) - aCb x.1 (xR x r0) 0 k := rfl
        have pl : ∀ (N jp : Nat) (pc0 ne p0 : Int32) (V1 : jV) (c1 n1 : Nat), jp + N = x.1.2.1.1.length → p0.toInt = (jp : Int) → isI pc0 (bpN x.1 (aRoom x.1 (xR x r0) 0 k) jp).1 → isI ne (bpN x.1 (aRoom x.1 (xR x r0) 0 k) jp).2 → tRw T V V1 q x ra pa da ca ea (xR x r0) → lyO V1 ca ea x.1 (xR x r0) 0 (xR x r0).1.length → c1 ≤ 5 + 3 * jp → n1 ≤ 40 + 18 * jp → J l s0 D kL_ahead (jR 9 30 300) 30 300 Q 181 [(0, .ref q), (1, .int r0), (2, .int x0), (3, .int y0), (4, .ref ra), (5, .ref pa), (6, .ref da), (7, .ref ca), (8, .ref ea), (9, .int (10 + r_16)), (10, .int fa), (11, .int le), (12, .int r_166), (13, .int pc0), (14, .int ne), (15, .int p0)] [] T V1 X sz c1 n1 := by
          intro N
          refine Nat.strongRecOn N ?_
          clear N
          intro n ih jp pc0 ne p0 V1 c1 n1 hn hp0 hpc hne w hO hc1 hn1
          have hl4 := w.2.2.2.1.1
          refine j_iload dL_ahead_181 rfl ?_
          refine j_aload dL_ahead_183 rfl ?_
          refine j_iconst (v := 0) dL_ahead_185 (by decide) ?_
          refine m_iald (k := 0) dL_ahead_186 hB (by assumption) (ixk (iC 0 (by decide)) (by omega)) (by omega) ?_
          refine m_icmp_ge (tgt := 294) dL_ahead_187 (by decide) (hp0) (w.2.2.2.2.1) (fun c_187 => ?_) (fun c_187 => ?_)
          · have hj : jp = x.1.2.1.1.length := by omega
            subst hj
            have vp : bpV x.1 (xR x r0) r_166.toInt.toNat = (bpN x.1 (aRoom x.1 (xR x r0) 0 k) x.1.2.1.1.length).1 := by unfold bpV; rw [hk0, Int.toNat_natCast]
            refine j_aload_n dL_ahead_294 rfl ?_
            refine j_iload_n dL_ahead_295 rfl ?_
            refine j_iload dL_ahead_296 rfl ?_
            refine j_cCi dL_ahead_298 hB mo_X7_bestPiece ml_L_112 (sp_X7_bestPiece hB w.2.1 hW) (e_bp0 hz0 z3 hk0 hk) w.2.1.k rfl rfl rfl rfl ⟨rfl, rfl, by decide, by decide⟩ (Nat.le_of_ble_eq_true rfl) ⟨by show _ ≤ 30; omega, by show _ ≤ 300; omega⟩ (fun y_298 V_298 h_298 a_298 g_298 => ?_)
            replace w := w.ag a_298 g_298 dq
            replace hO := hO.cg (a_298 ca (Or.inr dq6)) (a_298 ea (Or.inr dq7))
            replace h_298 := h_298.trans (vp)
            refine j_iload dL_ahead_301 rfl ?_
            refine m_icmp_ne (tgt := 310) dL_ahead_303 (by decide) (h_298) (hpc) (fun c_303 => ?_) (fun c_303 => ?_)
            · exact absurd rfl c_303
            · refine j_iconst (v := 1) dL_ahead_306 (by decide) ?_
              refine j_goto (tgt := 311) dL_ahead_307 (by decide) ?_
              exact K2 _ _ _ _ w (by omega) (by omega)
          · have hj : jp < x.1.2.1.1.length := by omega
            have bp := bestT_P hp hlw (i := (jp : Int)) (by omega) (by omega) hr0.1 hr0.2
            obtain ⟨bp1, bp2, bp3, bp4, bp5, bp6⟩ := bp
            have bp := bestT_P hp hlw (i := (jp : Int)) (by omega) (by omega) hr0.1 hr0.2
            have pr := plT_rng hp (i := (jp : Int)) (k := (bestT x.1 jp (aRoom x.1 (xR x r0) 0 k)).1) (pa := (bestT x.1 jp (aRoom x.1 (xR x r0) 0 k)).2.1) (by omega) (by omega) (by omega) (by omega) (by omega)
            have vb : v_bc x r0 r_166 p0 = 1000 * (bestT x.1 jp (aRoom x.1 (xR x r0) 0 k)).1 + (bestT x.1 jp (aRoom x.1 (xR x r0) 0 k)).2.1 := by unfold v_bc; rw [hp0, hk0, Int.toNat_natCast]
            have hb : bpN x.1 (aRoom x.1 (xR x r0) 0 k) (jp + 1) = if (bpN x.1 (aRoom x.1 (xR x r0) 0 k) jp).1 = -2000001 ∨ (bestT x.1 jp (aRoom x.1 (xR x r0) 0 k)).2.2 < (bpN x.1 (aRoom x.1 (xR x r0) 0 k) jp).2 then ((jp : Int), (bestT x.1 jp (aRoom x.1 (xR x r0) 0 k)).2.2) else bpN x.1 (aRoom x.1 (xR x r0) 0 k) jp := rfl
            refine j_iload dL_ahead_190 rfl ?_
            refine j_iload dL_ahead_192 rfl ?_
            refine j_aload dL_ahead_194 rfl ?_
            refine j_aload dL_ahead_196 rfl ?_
            refine j_aload dL_ahead_198 rfl ?_
            refine j_aload dL_ahead_200 rfl ?_
            refine j_aload dL_ahead_202 rfl ?_
            refine j_cSi dL_ahead_204 hB mo_L_best ml_L_105 (sp_L_best hB hpa hca hea hda w.2.2.2.1 w.2.2.2.2 h5 hO hp hrl hlw hk0 hk hp0 hj) rfl rfl ⟨rfl, rfl, by decide, by decide⟩ (Nat.le_of_ble_eq_true rfl) ⟨by show _ ≤ 30; omega, by show _ ≤ 300; omega⟩ (fun r_204 V_204 h_204 => ?_)
            obtain ⟨rfl, h_204⟩ := h_204
            obtain ⟨d1, d2⟩ := dm1000 h_204 bp.1 bp.2.1 bp.2.2.1 bp.2.2.2.1
            replace d1 : isI (r_204 / 1000) (bestT x.1 jp (aRoom x.1 (xR x r0) 0 k)).1 := d1
            replace d2 : isI (r_204 - r_204 / 1000 * 1000) (bestT x.1 jp (aRoom x.1 (xR x r0) 0 k)).2.1 := d2
            refine j_istore (L' := [(0, _), (1, _), (2, _), (3, _), (4, _), (5, _), (6, _), (7, _), (8, _), (9, _), (10, _), (11, _), (12, _), (13, _), (14, _), (15, _), (16, _)]) dL_ahead_207 (by decide) rfl ?_
            refine j_aload_n dL_ahead_209 rfl ?_
            refine j_iload_n dL_ahead_210 rfl ?_
            refine j_iload dL_ahead_211 rfl ?_
            refine j_iload dL_ahead_213 rfl ?_
            refine j_cCi dL_ahead_215 hB mo_X7_bestCue ml_L_109 (sp_X7_bestCue hB w.2.1 hW) (e_bc0 hz0 z3 hk0 hk hp0 hj) w.2.1.k rfl rfl rfl rfl ⟨rfl, rfl, by decide, by decide⟩ (Nat.le_of_ble_eq_true rfl) ⟨by show _ ≤ 30; omega, by show _ ≤ 300; omega⟩ (fun y_215 V_215 h_215 a_215 g_215 => ?_)
            replace w := w.ag a_215 g_215 dq
            replace hO := hO.cg (a_215 ca (Or.inr dq6)) (a_215 ea (Or.inr dq7))
            replace h_215 := h_215.trans (vb)
            refine j_iload dL_ahead_218 rfl ?_
            refine m_icmp_eq (tgt := 225) dL_ahead_220 (by decide) (h_215) (h_204) (fun c_220 => ?_) (fun c_220 => ?_)
            · refine j_aload dL_ahead_225 rfl ?_
              refine j_iconst (v := 2) dL_ahead_227 (by decide) ?_
              refine j_iload dL_ahead_228 rfl ?_
              refine j_imul dL_ahead_230 ?_
              refine m_iald (k := 2 * k) dL_ahead_231 hB (by assumption) (ixk (iM (iC 2 (by decide)) (hk0) (by omega)) (by omega)) (by omega) ?_
              refine j_iload dL_ahead_232 rfl ?_
              refine j_iload dL_ahead_234 rfl ?_
              refine j_sipush (v := 1000) dL_ahead_236 (by decide) ?_
              refine j_idiv dL_ahead_239 (by decide) ?_
              refine j_iload dL_ahead_240 rfl ?_
              refine j_sipush (v := 1000) dL_ahead_242 (by decide) ?_
              refine j_irem dL_ahead_245 (by decide) ?_
              refine j_aload dL_ahead_246 rfl ?_
              refine j_cSi dL_ahead_248 hB mo_L_music ml_L_22 (sp_L_music hB hpa w.2.2.2.1 hp hp0 hj d1 (by omega) (by omega) d2 (by omega)) rfl rfl ⟨rfl, rfl, by decide, by decide⟩ (Nat.le_of_ble_eq_true rfl) ⟨by show _ ≤ 30; omega, by show _ ≤ 300; omega⟩ (fun r_248 V_248 h_248 => ?_)
              obtain ⟨rfl, h_248⟩ := h_248
              refine j_iadd dL_ahead_251 ?_
              refine j_aload dL_ahead_252 rfl ?_
              refine j_iload dL_ahead_254 rfl ?_
              refine m_iald (k := k) dL_ahead_256 hB (by assumption) (ixk (hk0) (by omega)) (by omega) ?_
              refine j_isub dL_ahead_257 ?_
              refine j_cSi dL_ahead_258 hB mo_L_abs ml_L_37 (sp_L_abs hB (iS (iA ((hO k hk).1) (h_248) (by omega)) ((hO k hk).2.2) (by omega)) (by omega) (by omega)) rfl rfl ⟨rfl, rfl, by decide, by decide⟩ (Nat.le_of_ble_eq_true rfl) ⟨by show _ ≤ 30; omega, by show _ ≤ 300; omega⟩ (fun r_258 V_258 h_258 => ?_)
              obtain ⟨rfl, h_258⟩ := h_258
              replace h_258 : isI r_258 (bestT x.1 jp (aRoom x.1 (xR x r0) 0 k)).2.2 := h_258.trans (by rw [bestT_g hp hlw (i := (jp : Int)) (by omega) (by omega) hr0.1 hr0.2, rme]; congr 1; omega)
              refine j_istore (L' := [(0, _), (1, _), (2, _), (3, _), (4, _), (5, _), (6, _), (7, _), (8, _), (9, _), (10, _), (11, _), (12, _), (13, _), (14, _), (15, _), (16, _), (17, _)]) dL_ahead_261 (by decide) rfl ?_
              refine j_iload dL_ahead_263 rfl ?_
              refine j_ldc dL_ahead_265 hB kc_L_21 ?_
              refine m_icmp_eq (tgt := 280) dL_ahead_267 (by decide) (hpc) (iC (-2000001) (by decide)) (fun c_267 => ?_) (fun c_267 => ?_)
              · refine j_iload dL_ahead_280 rfl ?_
                refine j_istore (L' := [(0, _), (1, _), (2, _), (3, _), (4, _), (5, _), (6, _), (7, _), (8, _), (9, _), (10, _), (11, _), (12, _), (13, _), (14, _), (15, _), (16, _), (17, _)]) dL_ahead_282 (by decide) rfl ?_
                refine j_iload dL_ahead_284 rfl ?_
                refine j_istore (L' := [(0, _), (1, _), (2, _), (3, _), (4, _), (5, _), (6, _), (7, _), (8, _), (9, _), (10, _), (11, _), (12, _), (13, _), (14, _), (15, _), (16, _), (17, _)]) dL_ahead_286 (by decide) rfl ?_
                refine j_iinc (v := 1) (L' := [(0, _), (1, _), (2, _), (3, _), (4, _), (5, _), (6, _), (7, _), (8, _), (9, _), (10, _), (11, _), (12, _), (13, _), (14, _), (15, _), (16, _), (17, _)]) dL_ahead_288 rfl (by decide) (by decide) rfl ?_
                refine j_goto (tgt := 181) dL_ahead_291 (by decide) ?_
                refine j_sub2 (L' := [(0, _), (1, _), (2, _), (3, _), (4, _), (5, _), (6, _), (7, _), (8, _), (9, _), (10, _), (11, _), (12, _), (13, _), (14, _), (15, _)]) (List.forall_mem_cons.mpr ⟨rfl, List.forall_mem_cons.mpr ⟨rfl, List.forall_mem_cons.mpr ⟨rfl, List.forall_mem_cons.mpr ⟨rfl, List.forall_mem_cons.mpr ⟨rfl, List.forall_mem_cons.mpr ⟨rfl, List.forall_mem_cons.mpr ⟨rfl, List.forall_mem_cons.mpr ⟨rfl, List.forall_mem_cons.mpr ⟨rfl, List.forall_mem_cons.mpr ⟨rfl, List.forall_mem_cons.mpr ⟨rfl, List.forall_mem_cons.mpr ⟨rfl, List.forall_mem_cons.mpr ⟨rfl, List.forall_mem_cons.mpr ⟨rfl, List.forall_mem_cons.mpr ⟨rfl, List.forall_mem_cons.mpr ⟨rfl, fun _ h9 => nomatch h9⟩⟩⟩⟩⟩⟩⟩⟩⟩⟩⟩⟩⟩⟩⟩⟩) ?_
                refine ih (n - 1) (by omega) (jp + 1) _ _ _ _ _ _ (by omega) (ixk (k := jp + 1) (iA (hp0) (iC 1 (by decide)) (by omega)) (by omega)) (ixz hp0 (by rw [hb, if_pos (Or.inl c_267)])) (ixz h_258 (by rw [hb, if_pos (Or.inl c_267)])) w hO (by omega) (by omega)
              · refine j_iload dL_ahead_270 rfl ?_
                refine j_iload dL_ahead_272 rfl ?_
                refine m_icmp_lt (tgt := 280) dL_ahead_274 (by decide) (h_258) (hne) (fun c_274 => ?_) (fun c_274 => ?_)
                · refine j_iload dL_ahead_280 rfl ?_
                  refine j_istore (L' := [(0, _), (1, _), (2, _), (3, _), (4, _), (5, _), (6, _), (7, _), (8, _), (9, _), (10, _), (11, _), (12, _), (13, _), (14, _), (15, _), (16, _), (17, _)]) dL_ahead_282 (by decide) rfl ?_
                  refine j_iload dL_ahead_284 rfl ?_
                  refine j_istore (L' := [(0, _), (1, _), (2, _), (3, _), (4, _), (5, _), (6, _), (7, _), (8, _), (9, _), (10, _), (11, _), (12, _), (13, _), (14, _), (15, _), (16, _), (17, _)]) dL_ahead_286 (by decide) rfl ?_
                  refine j_iinc (v := 1) (L' := [(0, _), (1, _), (2, _), (3, _), (4, _), (5, _), (6, _), (7, _), (8, _), (9, _), (10, _), (11, _), (12, _), (13, _), (14, _), (15, _), (16, _), (17, _)]) dL_ahead_288 rfl (by decide) (by decide) rfl ?_
                  refine j_goto (tgt := 181) dL_ahead_291 (by decide) ?_
                  refine j_sub2 (L' := [(0, _), (1, _), (2, _), (3, _), (4, _), (5, _), (6, _), (7, _), (8, _), (9, _), (10, _), (11, _), (12, _), (13, _), (14, _), (15, _)]) (List.forall_mem_cons.mpr ⟨rfl, List.forall_mem_cons.mpr ⟨rfl, List.forall_mem_cons.mpr ⟨rfl, List.forall_mem_cons.mpr ⟨rfl, List.forall_mem_cons.mpr ⟨rfl, List.forall_mem_cons.mpr ⟨rfl, List.forall_mem_cons.mpr ⟨rfl, List.forall_mem_cons.mpr ⟨rfl, List.forall_mem_cons.mpr ⟨rfl, List.forall_mem_cons.mpr ⟨rfl, List.forall_mem_cons.mpr ⟨rfl, List.forall_mem_cons.mpr ⟨rfl, List.forall_mem_cons.mpr ⟨rfl, List.forall_mem_cons.mpr ⟨rfl, List.forall_mem_cons.mpr ⟨rfl, List.forall_mem_cons.mpr ⟨rfl, fun _ h9 => nomatch h9⟩⟩⟩⟩⟩⟩⟩⟩⟩⟩⟩⟩⟩⟩⟩⟩) ?_
                  refine ih (n - 1) (by omega) (jp + 1) _ _ _ _ _ _ (by omega) (ixk (k := jp + 1) (iA (hp0) (iC 1 (by decide)) (by omega)) (by omega)) (ixz hp0 (by rw [hb, if_pos (Or.inr c_274)])) (ixz h_258 (by rw [hb, if_pos (Or.inr c_274)])) w hO (by omega) (by omega)
                · refine j_goto (tgt := 288) dL_ahead_277 (by decide) ?_
                  refine j_iinc (v := 1) (L' := [(0, _), (1, _), (2, _), (3, _), (4, _), (5, _), (6, _), (7, _), (8, _), (9, _), (10, _), (11, _), (12, _), (13, _), (14, _), (15, _), (16, _), (17, _)]) dL_ahead_288 rfl (by decide) (by decide) rfl ?_
                  refine j_goto (tgt := 181) dL_ahead_291 (by decide) ?_
                  refine j_sub2 (L' := [(0, _), (1, _), (2, _), (3, _), (4, _), (5, _), (6, _), (7, _), (8, _), (9, _), (10, _), (11, _), (12, _), (13, _), (14, _), (15, _)]) (List.forall_mem_cons.mpr ⟨rfl, List.forall_mem_cons.mpr ⟨rfl, List.forall_mem_cons.mpr ⟨rfl, List.forall_mem_cons.mpr ⟨rfl, List.forall_mem_cons.mpr ⟨rfl, List.forall_mem_cons.mpr ⟨rfl, List.forall_mem_cons.mpr ⟨rfl, List.forall_mem_cons.mpr ⟨rfl, List.forall_mem_cons.mpr ⟨rfl, List.forall_mem_cons.mpr ⟨rfl, List.forall_mem_cons.mpr ⟨rfl, List.forall_mem_cons.mpr ⟨rfl, List.forall_mem_cons.mpr ⟨rfl, List.forall_mem_cons.mpr ⟨rfl, List.forall_mem_cons.mpr ⟨rfl, List.forall_mem_cons.mpr ⟨rfl, fun _ h9 => nomatch h9⟩⟩⟩⟩⟩⟩⟩⟩⟩⟩⟩⟩⟩⟩⟩⟩) ?_
                  refine ih (n - 1) (by omega) (jp + 1) _ _ _ _ _ _ (by omega) (ixk (k := jp + 1) (iA (hp0) (iC 1 (by decide)) (by omega)) (by omega)) (ixz hpc (by rw [hb, if_neg (fun z9 => by rcases z9 with z9 | z9; (exact c_267 z9); (omega))])) (ixz hne (by rw [hb, if_neg (fun z9 => by rcases z9 with z9 | z9; (exact c_267 z9); (omega))])) w hO (by omega) (by omega)
            · exact absurd rfl c_220
        refine j_istore (L' := [(0, _), (1, _), (2, _), (3, _), (4, _), (5, _), (6, _), (7, _), (8, _), (9, _), (10, _), (11, _), (12, _)]) dL_ahead_169 (by decide) rfl ?_
        refine j_ldc dL_ahead_171 hB kc_L_21 ?_
        refine j_istore (L' := [(0, _), (1, _), (2, _), (3, _), (4, _), (5, _), (6, _), (7, _), (8, _), (9, _), (10, _), (11, _), (12, _), (13, _)]) dL_ahead_173 (by decide) rfl ?_
        refine j_iconst (v := 0) dL_ahead_175 (by decide) ?_
        refine j_istore (L' := [(0, _), (1, _), (2, _), (3, _), (4, _), (5, _), (6, _), (7, _), (8, _), (9, _), (10, _), (11, _), (12, _), (13, _), (14, _)]) dL_ahead_176 (by decide) rfl ?_
        refine j_iconst (v := 0) dL_ahead_178 (by decide) ?_
        refine j_istore (L' := [(0, _), (1, _), (2, _), (3, _), (4, _), (5, _), (6, _), (7, _), (8, _), (9, _), (10, _), (11, _), (12, _), (13, _), (14, _), (15, _)]) dL_ahead_179 (by decide) rfl ?_
        exact pl x.1.2.1.1.length 0 _ 0 0 _ _ _ (by omega) rfl rfl rfl w hO (by omega) (by omega)
      · refine j_iconst (v := 1) dL_ahead_147 (by decide) ?_
        exact K1 _ _ _ _ w (by omega) (by omega)
    have sl : ∀ (N : Nat) (vz : Int) (fa le v : Int32) (V1 : jV), N = (vz - 9).toNat → isI v vz → 9 ≤ vz → vz ≤ 30 → spI x.1 (xR x r0) fa le vz → tRw T V V1 q x ra pa da ca ea (xR x r0) → J l s0 D kL_ahead (jR 9 30 300) 30 300 Q 68 [(0, .ref q), (1, .int r0), (2, .int x0), (3, .int y0), (4, .ref ra), (5, .ref pa), (6, .ref da), (7, .ref ca), (8, .ref ea), (9, .int (10 + r_16)), (10, .int fa), (11, .int le), (12, .int v)] [] T V1 X sz 4 27 := by
      intro N
      refine Nat.strongRecOn N ?_
      clear N
      intro N ih vz fa le v V1 hN hv v9 v30 hy w
      refine j_iload dL_ahead_68 rfl ?_
      refine j_bipush (v := 9) dL_ahead_70 (by decide) ?_
      refine m_icmp_le (tgt := 128) dL_ahead_72 (by decide) (hv) (iC 9 (by decide)) (fun c_72 => ?_) (fun c_72 => ?_)
      · refine j_aload_n dL_ahead_128 rfl ?_
        refine j_iload_n dL_ahead_129 rfl ?_
        refine j_cCi dL_ahead_130 hB mo_X7_bestSpeed ml_L_102 (sp_X7_bestSpeed hB w.2.1 hW) (e_fit0 hz0 z3) w.2.1.k rfl rfl rfl rfl ⟨rfl, rfl, by decide, by decide⟩ (Nat.le_of_ble_eq_true rfl) ⟨by show _ ≤ 30; omega, by show _ ≤ 300; omega⟩ (fun y_130 V_130 h_130 a_130 g_130 => ?_)
        replace w := w.ag a_130 g_130 dq
        replace h_130 := h_130.trans (rfl)
        refine j_iload dL_ahead_133 rfl ?_
        refine m_icmp_eq (tgt := 140) dL_ahead_135 (by decide) (h_130) (iV) (fun c_135 => ?_) (fun c_135 => ?_)
        · exact bh _ _ _ _ _ _ w (by omega) (by omega)
        · exact absurd (by
        rcases hy with ⟨e1, e2⟩ | ⟨f, a1, a2, a3, a4, a5⟩
        · omega
        · exact (bsV_is (by omega) a2 (fun u u1 u2 => a5 u (by omega) u2)).trans a3.symm) c_135
      · refine j_iload dL_ahead_75 rfl ?_
        refine j_aload dL_ahead_77 rfl ?_
        refine j_aload dL_ahead_79 rfl ?_
        refine j_aload dL_ahead_81 rfl ?_
        refine j_aload dL_ahead_83 rfl ?_
        refine j_cSu dL_ahead_85 hB mo_L_lay ml_L_49 (sp_L_lay hB hr hpa hca hea hd w.2.2.1 w.2.2.2.1 hp hrl (hv) (Or.inr (by omega)) (by omega)) rfl rfl ⟨rfl, rfl, by decide, by decide⟩ (Nat.le_of_ble_eq_true rfl) ⟨by show _ ≤ 30; omega, by show _ ≤ 300; omega⟩ (fun V_85 h_85 => ?_)
        obtain ⟨hF, h_85⟩ := h_85
        replace w := w.ly hF dq hd hd2
        clear hF
        have hO : lyO V_85 ca ea x.1 (xR x r0) vz (xR x r0).1.length := h_85
        refine j_aload dL_ahead_88 rfl ?_
        refine j_aload dL_ahead_90 rfl ?_
        refine j_aload dL_ahead_92 rfl ?_
        refine j_cSi dL_ahead_94 hB mo_L_drifts ml_L_59 (sp_L_drifts hB hr hca hea w.2.2.1 hO hp hrl (Or.inr (by omega))) rfl rfl ⟨rfl, rfl, by decide, by decide⟩ (Nat.le_of_ble_eq_true rfl) ⟨by show _ ≤ 30; omega, by show _ ≤ 300; omega⟩ (fun r_94 V_94 h_94 => ?_)
        obtain ⟨rfl, h_94⟩ := h_94
        replace h_94 : isI r_94 (dsS x.1 (xR x r0) vz) := h_94
        refine j_istore (L' := [(0, _), (1, _), (2, _), (3, _), (4, _), (5, _), (6, _), (7, _), (8, _), (9, _), (10, _), (11, _), (12, _), (13, _)]) dL_ahead_97 (by decide) rfl ?_
        refine j_iload dL_ahead_99 rfl ?_
        refine m_if_lt (tgt := 114) dL_ahead_101 (by decide) (iV) (fun c_101 => ?_) (fun c_101 => ?_)
        · refine j_iload dL_ahead_114 rfl ?_
          refine j_istore (L' := [(0, _), (1, _), (2, _), (3, _), (4, _), (5, _), (6, _), (7, _), (8, _), (9, _), (10, _), (11, _), (12, _), (13, _)]) dL_ahead_116 (by decide) rfl ?_
          refine j_iload dL_ahead_118 rfl ?_
          refine j_istore (L' := [(0, _), (1, _), (2, _), (3, _), (4, _), (5, _), (6, _), (7, _), (8, _), (9, _), (10, _), (11, _), (12, _), (13, _)]) dL_ahead_120 (by decide) rfl ?_
          refine j_iinc (v := -1) (L' := [(0, _), (1, _), (2, _), (3, _), (4, _), (5, _), (6, _), (7, _), (8, _), (9, _), (10, _), (11, _), (12, _), (13, _)]) dL_ahead_122 rfl (by decide) (by decide) rfl ?_
          refine j_goto (tgt := 68) dL_ahead_125 (by decide) ?_
          refine j_sub2 (L' := [(0, _), (1, _), (2, _), (3, _), (4, _), (5, _), (6, _), (7, _), (8, _), (9, _), (10, _), (11, _), (12, _)]) (List.forall_mem_cons.mpr ⟨rfl, List.forall_mem_cons.mpr ⟨rfl, List.forall_mem_cons.mpr ⟨rfl, List.forall_mem_cons.mpr ⟨rfl, List.forall_mem_cons.mpr ⟨rfl, List.forall_mem_cons.mpr ⟨rfl, List.forall_mem_cons.mpr ⟨rfl, List.forall_mem_cons.mpr ⟨rfl, List.forall_mem_cons.mpr ⟨rfl, List.forall_mem_cons.mpr ⟨rfl, List.forall_mem_cons.mpr ⟨rfl, List.forall_mem_cons.mpr ⟨rfl, List.forall_mem_cons.mpr ⟨rfl, fun _ h9 => nomatch h9⟩⟩⟩⟩⟩⟩⟩⟩⟩⟩⟩⟩⟩) ?_
          refine ih (N - 1) (by omega) (vz - 1) _ _ _ _ (by omega) (iA (hv) (iC (-1) (by decide)) (by omega)) (by omega) (by omega) (Or.inr ⟨vz, by omega, by omega, hv, h_94, fun u u1 u2 => ?_⟩) w
          by_cases g : u = vz
          · subst g
            exact ⟨Int.le_refl _, fun _ => Int.le_refl _⟩
          · rcases hy with ⟨e1, e2⟩ | ⟨f, a1, a2, a3, a4, a5⟩
            · omega
            · have := a5 u (by omega) u2
              have a3 : fa.toInt = f := a3
              have a4 : le.toInt = dsS x.1 (xR x r0) f := a4
              omega
        · refine j_iload dL_ahead_104 rfl ?_
          refine j_iload dL_ahead_106 rfl ?_
          refine m_icmp_le (tgt := 114) dL_ahead_108 (by decide) (h_94) (iV) (fun c_108 => ?_) (fun c_108 => ?_)
          · refine j_iload dL_ahead_114 rfl ?_
            refine j_istore (L' := [(0, _), (1, _), (2, _), (3, _), (4, _), (5, _), (6, _), (7, _), (8, _), (9, _), (10, _), (11, _), (12, _), (13, _)]) dL_ahead_116 (by decide) rfl ?_
            refine j_iload dL_ahead_118 rfl ?_
            refine j_istore (L' := [(0, _), (1, _), (2, _), (3, _), (4, _), (5, _), (6, _), (7, _), (8, _), (9, _), (10, _), (11, _), (12, _), (13, _)]) dL_ahead_120 (by decide) rfl ?_
            refine j_iinc (v := -1) (L' := [(0, _), (1, _), (2, _), (3, _), (4, _), (5, _), (6, _), (7, _), (8, _), (9, _), (10, _), (11, _), (12, _), (13, _)]) dL_ahead_122 rfl (by decide) (by decide) rfl ?_
            refine j_goto (tgt := 68) dL_ahead_125 (by decide) ?_
            refine j_sub2 (L' := [(0, _), (1, _), (2, _), (3, _), (4, _), (5, _), (6, _), (7, _), (8, _), (9, _), (10, _), (11, _), (12, _)]) (List.forall_mem_cons.mpr ⟨rfl, List.forall_mem_cons.mpr ⟨rfl, List.forall_mem_cons.mpr ⟨rfl, List.forall_mem_cons.mpr ⟨rfl, List.forall_mem_cons.mpr ⟨rfl, List.forall_mem_cons.mpr ⟨rfl, List.forall_mem_cons.mpr ⟨rfl, List.forall_mem_cons.mpr ⟨rfl, List.forall_mem_cons.mpr ⟨rfl, List.forall_mem_cons.mpr ⟨rfl, List.forall_mem_cons.mpr ⟨rfl, List.forall_mem_cons.mpr ⟨rfl, List.forall_mem_cons.mpr ⟨rfl, fun _ h9 => nomatch h9⟩⟩⟩⟩⟩⟩⟩⟩⟩⟩⟩⟩⟩) ?_
            refine ih (N - 1) (by omega) (vz - 1) _ _ _ _ (by omega) (iA (hv) (iC (-1) (by decide)) (by omega)) (by omega) (by omega) (Or.inr ⟨vz, by omega, by omega, hv, h_94, fun u u1 u2 => ?_⟩) w
            by_cases g : u = vz
            · subst g
              exact ⟨Int.le_refl _, fun _ => Int.le_refl _⟩
            · rcases hy with ⟨e1, e2⟩ | ⟨f, a1, a2, a3, a4, a5⟩
              · omega
              · have := a5 u (by omega) u2
                have a3 : fa.toInt = f := a3
                have a4 : le.toInt = dsS x.1 (xR x r0) f := a4
                omega
          · refine j_goto (tgt := 122) dL_ahead_111 (by decide) ?_
            refine j_iinc (v := -1) (L' := [(0, _), (1, _), (2, _), (3, _), (4, _), (5, _), (6, _), (7, _), (8, _), (9, _), (10, _), (11, _), (12, _), (13, _)]) dL_ahead_122 rfl (by decide) (by decide) rfl ?_
            refine j_goto (tgt := 68) dL_ahead_125 (by decide) ?_
            refine j_sub2 (L' := [(0, _), (1, _), (2, _), (3, _), (4, _), (5, _), (6, _), (7, _), (8, _), (9, _), (10, _), (11, _), (12, _)]) (List.forall_mem_cons.mpr ⟨rfl, List.forall_mem_cons.mpr ⟨rfl, List.forall_mem_cons.mpr ⟨rfl, List.forall_mem_cons.mpr ⟨rfl, List.forall_mem_cons.mpr ⟨rfl, List.forall_mem_cons.mpr ⟨rfl, List.forall_mem_cons.mpr ⟨rfl, List.forall_mem_cons.mpr ⟨rfl, List.forall_mem_cons.mpr ⟨rfl, List.forall_mem_cons.mpr ⟨rfl, List.forall_mem_cons.mpr ⟨rfl, List.forall_mem_cons.mpr ⟨rfl, List.forall_mem_cons.mpr ⟨rfl, fun _ h9 => nomatch h9⟩⟩⟩⟩⟩⟩⟩⟩⟩⟩⟩⟩⟩) ?_
            refine ih (N - 1) (by omega) (vz - 1) _ _ _ _ (by omega) (iA (hv) (iC (-1) (by decide)) (by omega)) (by omega) (by omega) ?_ w
            rcases hy with ⟨e1, e2⟩ | ⟨f, a1, a2, a3, a4, a5⟩
            · omega
            · refine Or.inr ⟨f, by omega, a2, a3, a4, fun u u1 u2 => ?_⟩
              by_cases g : u = vz
              · subst g
                have a4 : le.toInt = dsS x.1 (xR x r0) f := a4
                omega
              · exact a5 u (by omega) u2
    refine j_iconst (v := -1) dL_ahead_58 (by decide) ?_
    refine j_istore (L' := [(0, _), (1, _), (2, _), (3, _), (4, _), (5, _), (6, _), (7, _), (8, _), (9, _), (10, _)]) dL_ahead_59 (by decide) rfl ?_
    refine j_iconst (v := 0) dL_ahead_61 (by decide) ?_
    refine j_istore (L' := [(0, _), (1, _), (2, _), (3, _), (4, _), (5, _), (6, _), (7, _), (8, _), (9, _), (10, _), (11, _)]) dL_ahead_62 (by decide) rfl ?_
    refine j_bipush (v := 30) dL_ahead_64 (by decide) ?_
    refine j_istore (L' := [(0, _), (1, _), (2, _), (3, _), (4, _), (5, _), (6, _), (7, _), (8, _), (9, _), (10, _), (11, _), (12, _)]) dL_ahead_66 (by decide) rfl ?_
    exact sl 21 30 _ _ _ _ rfl rfl (by omega) (by omega) (Or.inl ⟨rfl, rfl⟩) w
  · exact absurd rfl c_53
set_option maxRecDepth 100000 in
set_option maxHeartbeats 4000000 in
theorem sp_L_ahead (hB : jB l s0 D) {q ra pa da : Nat} {x : aX} {r0 x0 y0 : Int32} {z : Nat} (hcu : cuIs T V q x) (hW : xW x) (hz0 : r0.toInt = (z : Int)) (z3 : z < 3) (hr : T ra = some (kI 60)) (hpa : T pa = some (kI 12)) (hda : T da = some (kI 3)) (dq : q + 492 ≤ ra ∧ q + 492 ≤ pa ∧ q + 492 ≤ da) (hz : zRl (V ra) (xR x r0)) (hpz : zPa (V pa) x.1) (hdz : zDd (V da) x.1) : Sp l s0 D kL_ahead (jR 9 30 300) 30 300 [.ref q, .int r0, .int x0, .int y0, .ref ra, .ref pa, .ref da] T V X sz (qK T X sz (fun V' => jAg V V' q (q + 492) ∧ cuIs T V' q x)) := by
  refine Sp.of pn_L_ahead rfl (Nat.le_of_ble_eq_true rfl) ?_
  refine j_dom (fun hdom => ?_)
  have e1 := hdom ra _ hr
  have e2 := hdom pa _ hpa
  have e3 := hdom da _ hda
  have e4 := hdom (q + 491) _ hcu.t0.2.2
  refine j_bipush (v := 10) dL_ahead_0 (by decide) ?_
  refine j_newi (N := 10) dL_ahead_2 hB ac_int (by decide) (by decide) (by first | decide | omega) (by first | decide | omega) ?_
  refine j_astore (L' := [(0, _), (1, _), (2, _), (3, _), (4, _), (5, _), (6, _), (7, _)]) dL_ahead_4 (by decide) rfl ?_
  refine j_iconst (v := 5) dL_ahead_6 (by decide) ?_
  refine j_newi (N := 5) dL_ahead_7 hB ac_int (by decide) (by decide) (by first | decide | omega) (by first | decide | omega) ?_
  refine j_astore (L' := [(0, _), (1, _), (2, _), (3, _), (4, _), (5, _), (6, _), (7, _), (8, _)]) dL_ahead_9 (by decide) rfl ?_
  refine j_abT (fun T2 hT2 => ?_)
  refine j_abV (fun V2 hV2 => ?_)
  have t1 : ∀ a, a < sz → T2 a = T a := fun a ha => by rw [hT2, jup_ne (by omega), jup_ne (by omega)]
  have v1 : ∀ a, a < sz → V2 a = V a := fun a ha => by rw [hV2, jz_ne (by omega), jz_ne (by omega)]
  have tc : T2 sz = some (kI 10) := by rw [hT2, jup_ne (by omega)]; exact jup_eq
  have te : T2 (sz + 1) = some (kI 5) := by rw [hT2]; exact jup_eq
  refine ah_body hB (hcu.cg (fun a ha hb => ⟨t1 a (by omega), v1 a (by omega)⟩)) hW hz0 z3 ((t1 ra e1).trans hr) ((t1 pa e2).trans hpa) ((t1 da e3).trans hda) tc te (by unfold dQ; omega) (by omega) (by omega) (by rw [v1 ra e1]; exact hz) (by rw [v1 pa e2]; exact hpz) (by rw [v1 da e3]; exact hdz) (fun V' c' n' L w hc hn => ?_) (fun V' c' n' L w hc hn => ?_)
  · skip
    refine j_fgt (T' := T) (V' := fun b => if b < sz then V' b else V b) (fun b k hb => ⟨(t1 b (hdom b k hb)).trans hb, if_pos (hdom b k hb)⟩) ?_
    refine j_iret dL_ahead_148 rfl (by decide) hc hn ⟨rfl, rfl, rfl, by omega, fun b hb => ?_, w.2.1.cg (fun a ha hb => ⟨(t1 a (by omega)).symm, if_pos (by omega)⟩)⟩
    show (if b < sz then V' b else V b) = V b
    by_cases g : b < sz
    · rw [if_pos g, w.1 b hb (by omega) (by omega), v1 b g]
    · rw [if_neg g]
  · skip
    refine j_fgt (T' := T) (V' := fun b => if b < sz then V' b else V b) (fun b k hb => ⟨(t1 b (hdom b k hb)).trans hb, if_pos (hdom b k hb)⟩) ?_
    refine j_iret dL_ahead_311 rfl (by decide) hc hn ⟨rfl, rfl, rfl, by omega, fun b hb => ?_, w.2.1.cg (fun a ha hb => ⟨(t1 a (by omega)).symm, if_pos (by omega)⟩)⟩
    show (if b < sz then V' b else V b) = V b
    by_cases g : b < sz
    · rw [if_pos g, w.1 b hb (by omega) (by omega), v1 b g]
    · rw [if_neg g]
end JLL
