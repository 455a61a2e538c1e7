/-! THE LAW: what all reels tell -/
theorem xR_0 {x : aX} : xR x 0 = sR x.1 0 := by unfold xR; rw [ti_0]
theorem xR_1 {x : aX} : xR x 1 = sR x.1 1 := by unfold xR; rw [show (1 : Int32).toInt = 1 by decide]
theorem xR_2 {x : aX} : xR x 2 = sR x.1 2 := by unfold xR; rw [show (2 : Int32).toInt = 2 by decide]
/-- the law's own rows, beside V0 what the class and a lay may change is changed -/
def tX (T : jT) (V0 V : jV) (q : Nat) (x : aX) (ca ea : Nat) : Prop := (∀ b, (b < q ∨ q + 492 ≤ b) → b ≠ ca → b ≠ ea → V b = V0 b) ∧ cuIs T V q x ∧ zRl (V (q + 492)) (sR x.1 0) ∧ zRl (V (q + 493)) (sR x.1 1) ∧ zRl (V (q + 494)) (sR x.1 2) ∧ zPa (V (q + 495)) x.1 ∧ zDd (V (q + 496)) x.1
theorem tX.ag {T : jT} {V0 V V' : jV} {q : Nat} {x : aX} {ca ea : Nat} (h : tX T V0 V q x ca ea) (ha : jAg V V' q (q + 492)) (hc : cuIs T V' q x) : tX T V0 V' q x ca ea := by
  obtain ⟨h1, h2, h3, h4, h5, h6, h7⟩ := h
  exact ⟨fun b hb b1 b2 => (ha b hb).trans (h1 b hb b1 b2), hc, by rw [ha _ (by omega)]; exact h3, by rw [ha _ (by omega)]; exact h4, by rw [ha _ (by omega)]; exact h5, by rw [ha _ (by omega)]; exact h6, by rw [ha _ (by omega)]; exact h7⟩
theorem tX.ly {T : jT} {V0 V V' : jV} {q : Nat} {x : aX} {ca ea : Nat} (h : tX T V0 V q x ca ea) (ha : lyF V V' ca ea) (d : q + 497 ≤ ca ∧ q + 497 ≤ ea) : tX T V0 V' q x ca ea := by
  obtain ⟨h1, h2, h3, h4, h5, h6, h7⟩ := h
  exact ⟨fun b hb b1 b2 => (ha b b1 b2).trans (h1 b hb b1 b2), h2.cg (fun a a1 a2 => ⟨rfl, ha a (by omega) (by omega)⟩), by rw [ha _ (by omega) (by omega)]; exact h3, by rw [ha _ (by omega) (by omega)]; exact h4, by rw [ha _ (by omega) (by omega)]; exact h5, by rw [ha _ (by omega) (by omega)]; exact h6, by rw [ha _ (by omega) (by omega)]; exact h7⟩
/-- the law's rows are there -/
def lwT (T : jT) (q : Nat) : Prop := T (q + 492) = some (kI 60) ∧ T (q + 493) = some (kI 60) ∧ T (q + 494) = some (kI 60) ∧ T (q + 495) = some (kI 12) ∧ T (q + 496) = some (kI 3)
/-- .. and hold what the class holds -/
def lwV (T : jT) (V : jV) (q : Nat) (x : aX) : Prop := cuIs T V q x ∧ zRl (V (q + 492)) (sR x.1 0) ∧ zRl (V (q + 493)) (sR x.1 1) ∧ zRl (V (q + 494)) (sR x.1 2) ∧ zPa (V (q + 495)) x.1 ∧ zDd (V (q + 496)) x.1
/-- a piece's uses, as the law counts them -/
def usB (s : aS) (p : Int) (k : Nat) : Prop := k % 5 < (sR s ((k / 5 : Nat) : Int)).1.length ∧ (atZ (sR s ((k / 5 : Nat) : Int)).2.1 ((k % 5 : Nat) : Int)).toInt = p
noncomputable def usN (s : aS) (p : Int) : Nat → Int
  | 0 => 0
  | k + 1 => usN s p k + @ite _ (usB s p k) (Classical.propDecidable _) 1 0
theorem usN_rng {s : aS} {p : Int} : ∀ k : Nat, 0 ≤ usN s p k ∧ usN s p k ≤ k
  | 0 => ⟨Int.le_refl _, Int.le_refl _⟩
  | k + 1 => by
    have ih := usN_rng (s := s) (p := p) k
    unfold usN
    split <;> omega
theorem count_N {L : List Int32} {p : Int32} : ∀ n : Nat, n ≤ L.length → (((L.take n).count p : Nat) : Int) = aSum (fun k => if (atZ L k).toInt = p.toInt then 1 else 0) n
  | 0, _ => rfl
  | n + 1, hn => by
    have ih := count_N (L := L) (p := p) n (by omega)
    have e : atZ L (n : Int) = L[n] := by rw [atZ_nat, List.getD_eq_getElem?_getD, List.getElem?_eq_getElem (by omega)]; rfl
    show _ = aSum (fun k : Nat => if (atZ L k).toInt = p.toInt then (1 : Int) else 0) n + (if (atZ L (n : Int)).toInt = p.toInt then (1 : Int) else 0)
    rw [← ih, e, List.take_succ, List.count_append, List.getElem?_eq_getElem (by omega)]
    show ((_ + List.count p [L[n]] : Nat) : Int) = _
    by_cases c : L[n] = p
    · have h1 : List.count p [L[n]] = 1 := by rw [c]; simp
      rw [if_pos (by rw [c]), h1]; omega
    · have h1 : List.count p [L[n]] = 0 := List.count_eq_zero.mpr (fun z => c (List.mem_singleton.mp z).symm)
      rw [if_neg (fun z => c (ti_inj z)), h1]; omega
theorem usN_row {s : aS} {p : Int32} {r : aR} {z : Nat} (hr : sR s (z : Int) = r) (h1 : r.2.1.length = r.1.length) : ∀ n : Nat, n ≤ 5 → usN s p.toInt (5 * z + n) = usN s p.toInt (5 * z) + (((r.2.1.take n).count p : Nat) : Int)
  | 0, _ => by simp
  | n + 1, hn => by
    have ih := usN_row hr h1 (p := p) n (by omega)
    show usN s p.toInt (5 * z + n) + @ite _ (usB s p.toInt (5 * z + n)) (Classical.propDecidable _) 1 0 = _
    rw [ih]
    have e1 : (5 * z + n) / 5 = z := by omega
    have e2 : (5 * z + n) % 5 = n := by omega
    have eB : usB s p.toInt (5 * z + n) ↔ (n < r.1.length ∧ (atZ r.2.1 n).toInt = p.toInt) := by
      unfold usB
      rw [e1, e2, hr]
    by_cases c : n < r.1.length
    · have h2 := count_N (L := r.2.1) (p := p) n (by omega)
      have h3 := count_N (L := r.2.1) (p := p) (n + 1) (by omega)
      have h4 : aSum (fun k : Nat => if (atZ r.2.1 k).toInt = p.toInt then (1 : Int) else 0) (n + 1) = aSum (fun k : Nat => if (atZ r.2.1 k).toInt = p.toInt then (1 : Int) else 0) n + (if (atZ r.2.1 n).toInt = p.toInt then (1 : Int) else 0) := rfl
      rw [h3, h4, h2]
      by_cases e : (atZ r.2.1 n).toInt = p.toInt
      · rw [if_pos (eB.mpr ⟨c, e⟩), if_pos e]; omega
      · rw [if_neg (fun z9 => e (eB.mp z9).2), if_neg e]; omega
    · rw [if_neg (fun z9 => c (eB.mp z9).1), List.take_of_length_le (by omega), List.take_of_length_le (by omega)]
      omega
theorem usN_15 {s : aS} {p : Int32} (h : stW s) (h5 : (sR s 0).1.length ≤ 5 ∧ (sR s 1).1.length ≤ 5 ∧ (sR s 2).1.length ≤ 5) : usN s p.toInt 15 = cuT s p 3 := by
  have a0 := usN_row (s := s) (p := p) (z := 0) rfl (h.r 0).1 5 (by omega)
  have a1 := usN_row (s := s) (p := p) (z := 1) rfl (h.r 1).1 5 (by omega)
  have a2 := usN_row (s := s) (p := p) (z := 2) rfl (h.r 2).1 5 (by omega)
  have b0 := (h.r 0).1
  have b1 := (h.r 1).1
  have b2 := (h.r 2).1
  rw [List.take_of_length_le (by show (sR s 0).2.1.length ≤ 5; omega)] at a0
  rw [List.take_of_length_le (by show (sR s 1).2.1.length ≤ 5; omega)] at a1
  rw [List.take_of_length_le (by show (sR s 2).2.1.length ≤ 5; omega)] at a2
  have e0 : usN s p.toInt (5 * 0) = 0 := rfl
  rw [e0] at a0
  show usN s p.toInt (5 * 2 + 5) = _
  have c1 : usN s p.toInt (5 * 2) = usN s p.toInt (5 * 1 + 5) := rfl
  have c0 : usN s p.toInt (5 * 1) = usN s p.toInt (5 * 0 + 5) := rfl
  rw [a2, c1, a1, c0, a0]
  show 0 + cuN (sR s 0) p + cuN (sR s 1) p + cuN (sR s 2) p = _
  rfl
theorem ov_0 {s : aS} : ovR s 0 = ((sR s 0).1.length : Int) + ((sR s 1).1.length : Int) + ((sR s 2).1.length : Int) := by unfold ovR; rw [rlP_0, rlP_0, rlP_0]
theorem ov_3 {s : aS} : ovR s 3 = aBeg (sR s 0) 0 (sR s 0).1.length + aBeg (sR s 1) 0 (sR s 1).1.length + aBeg (sR s 2) 0 (sR s 2).1.length := by unfold ovR; rw [rlP_3, rlP_3, rlP_3]
theorem ov_6 {s : aS} : ovR s 6 = aSum (aCue1 (sR s 0)) (sR s 0).1.length + aSum (aCue1 (sR s 1)) (sR s 1).1.length + aSum (aCue1 (sR s 2)) (sR s 2).1.length := by unfold ovR; rw [rlP_6, rlP_6, rlP_6]
theorem ov_7 {s : aS} : ovR s 7 = aSum (aBad1 s (sR s 0) 0) (sR s 0).1.length + aSum (aBad1 s (sR s 1) 0) (sR s 1).1.length + aSum (aBad1 s (sR s 2) 0) (sR s 2).1.length := by unfold ovR; rw [rlP_7, rlP_7, rlP_7]
section JLL
variable {l : Launch} {s0 : State} {D : jD} {T : jT} {V : jV} {X : jX} {sz : Nat}
set_option maxRecDepth 100000 in
set_option maxHeartbeats 4000000 in
theorem sp_L_toldReel (hB : jB l s0 D) {q ra pa da : Nat} {x : aX} {r0 x0 : Int32} {z : Nat} (hcu : cuIs T V q x) (hW : xW x) (hz0 : r0.toInt = (z : Int)) (z3 : z < 3) (hr : T ra = some (kI 60)) (hpa : T pa = some (kI 12)) (hda : T da = some (kI 3)) (dq : q + 492 ≤ ra ∧ q + 492 ≤ pa ∧ q + 492 ≤ da) (hz : zRl (V ra) (xR x r0)) (hpz : zPa (V pa) x.1) (hdz : zDd (V da) x.1) : Sp l s0 D kL_toldReel (jR 9 230 1400) 230 1400 [.ref q, .int r0, .int x0, .ref ra, .ref pa, .ref da] T V X sz (qK T X sz (fun V' => jAg V V' q (q + 492) ∧ cuIs T V' q x)) := by
  refine Sp.of pn_L_toldReel rfl (Nat.le_of_ble_eq_true rfl) ?_
  refine j_dom (fun hdom => ?_)
  have e1 := hdom ra _ hr
  have e2 := hdom pa _ hpa
  have e3 := hdom da _ hda
  have e4 := hdom (q + 491) _ hcu.t0.2.2
  refine j_bipush (v := 10) dL_toldReel_0 (by decide) ?_
  refine j_newi (N := 10) dL_toldReel_2 hB ac_int (by decide) (by decide) (by first | decide | omega) (by first | decide | omega) ?_
  refine j_astore (L' := [(0, _), (1, _), (2, _), (3, _), (4, _), (5, _), (6, _)]) dL_toldReel_4 (by decide) rfl ?_
  refine j_iconst (v := 5) dL_toldReel_6 (by decide) ?_
  refine j_newi (N := 5) dL_toldReel_7 hB ac_int (by decide) (by decide) (by first | decide | omega) (by first | decide | omega) ?_
  refine j_astore (L' := [(0, _), (1, _), (2, _), (3, _), (4, _), (5, _), (6, _), (7, _)]) dL_toldReel_9 (by decide) rfl ?_
  refine j_abT (fun T2 hT2 => ?_)
  refine j_abV (fun V2 hV2 => ?_)
  have t1 : ∀ a, a < sz → T2 a = T a := fun a ha => by rw [hT2, jup_ne (by omega), jup_ne (by omega)]
  have v1 : ∀ a, a < sz → V2 a = V a := fun a ha => by rw [hV2, jz_ne (by omega), jz_ne (by omega)]
  have tc : T2 sz = some (kI 10) := by rw [hT2, jup_ne (by omega)]; exact jup_eq
  have te : T2 (sz + 1) = some (kI 5) := by rw [hT2]; exact jup_eq
  refine tr_body hB (hcu.cg (fun a ha hb => ⟨t1 a (by omega), v1 a (by omega)⟩)) hW hz0 z3 ((t1 ra e1).trans hr) ((t1 pa e2).trans hpa) ((t1 da e3).trans hda) tc te (by unfold dQ; omega) (by omega) (by omega) (by rw [v1 ra e1]; exact hz) (by rw [v1 pa e2]; exact hpz) (by rw [v1 da e3]; exact hdz) (fun V' c' n' L w hc hn => ?_)
  refine j_fgt (T' := T) (V' := fun b => if b < sz then V' b else V b) (fun b k hb => ⟨(t1 b (hdom b k hb)).trans hb, if_pos (hdom b k hb)⟩) ?_
  refine j_iret dL_toldReel_763 rfl (by decide) hc hn ⟨rfl, rfl, rfl, by omega, fun b hb => ?_, w.2.1.cg (fun a ha hb => ⟨(t1 a (by omega)).symm, if_pos (by omega)⟩)⟩
  show (if b < sz then V' b else V b) = V b
  by_cases g : b < sz
  · rw [if_pos g, w.1 b hb (by omega) (by omega), v1 b g]
  · rw [if_neg g]
set_option maxRecDepth 100000 in
set_option maxHeartbeats 4000000 in
theorem td_body (hB : jB l s0 D) {q ca ea : Nat} {x : aX} {x0 : Int32} {Q : jQ} (hW : xW x) (hT : lwT T q) (hca : T ca = some (kI 10)) (hea : T ea = some (kI 5)) (hd : ca ≠ ea) (dc : q + 497 ≤ ca ∧ q + 497 ≤ ea) (w : tX T V V q x ca ea)
  (K : ∀ (V' : jV) (c' n' : Nat) (L : List (Nat × Value)), tX T V V' q x ca ea → c' ≤ 760 → n' ≤ 4600 → J l s0 D kL_told (jR 11 760 4600) 760 4600 Q 446 L [.int 1] T V' X sz c' n') : J l s0 D kL_told (jR 11 760 4600) 760 4600 Q 61 [(0, .ref q), (1, .int x0), (2, .ref (q + 492)), (3, .ref (q + 493)), (4, .ref (q + 494)), (5, .ref (q + 495)), (6, .ref (q + 496)), (7, .ref ca), (8, .ref ea)] [] T V X sz 692 4215 := by
  have hp : pcW x.1 := hW.1.1
  have hTa := hT.1
  have hTb := hT.2.1
  have hTc := hT.2.2.1
  have hTp := hT.2.2.2.1
  have hTd := hT.2.2.2.2
  obtain ⟨dc1, dc2⟩ := dc
  have bn0 := aBeg_rng (hW.1.r 0) (w := 0) (Or.inl rfl) (sR x.1 0).1.length (Nat.le_refl _)
  have sb0 := aSum_rng (f := aBad1 x.1 (sR x.1 0) 0) (B := 1) (n := (sR x.1 0).1.length) (fun k _ => by unfold aBad1; split <;> omega) (sR x.1 0).1.length (Nat.le_refl _)
  have su0 := aSum_rng (f := aCue1 (sR x.1 0)) (B := 1) (n := (sR x.1 0).1.length) (fun k _ => by unfold aCue1 cueI; split <;> omega) (sR x.1 0).1.length (Nat.le_refl _)
  have l50 := w.2.2.1.2.1
  have bn1 := aBeg_rng (hW.1.r 1) (w := 0) (Or.inl rfl) (sR x.1 1).1.length (Nat.le_refl _)
  have sb1 := aSum_rng (f := aBad1 x.1 (sR x.1 1) 0) (B := 1) (n := (sR x.1 1).1.length) (fun k _ => by unfold aBad1; split <;> omega) (sR x.1 1).1.length (Nat.le_refl _)
  have su1 := aSum_rng (f := aCue1 (sR x.1 1)) (B := 1) (n := (sR x.1 1).1.length) (fun k _ => by unfold aCue1 cueI; split <;> omega) (sR x.1 1).1.length (Nat.le_refl _)
  have l51 := w.2.2.2.1.2.1
  have bn2 := aBeg_rng (hW.1.r 2) (w := 0) (Or.inl rfl) (sR x.1 2).1.length (Nat.le_refl _)
  have sb2 := aSum_rng (f := aBad1 x.1 (sR x.1 2) 0) (B := 1) (n := (sR x.1 2).1.length) (fun k _ => by unfold aBad1; split <;> omega) (sR x.1 2).1.length (Nat.le_refl _)
  have su2 := aSum_rng (f := aCue1 (sR x.1 2)) (B := 1) (n := (sR x.1 2).1.length) (fun k _ => by unfold aCue1 cueI; split <;> omega) (sR x.1 2).1.length (Nat.le_refl _)
  have l52 := w.2.2.2.2.1.2.1
  have seg : ∀ (rho : Nat) (rr : aR) (k b t u : Int32) (bz tz uz : Int) (V1 : jV), T rho = some (kI 60) → zRl (V1 rho) rr → rlW x.1 rr → q + 492 ≤ rho → rho < q + 497 → tX T V V1 q x ca ea → isI b bz → isI t tz → isI u uz → 0 ≤ bz ∧ bz ≤ 100 → 0 ≤ tz ∧ tz ≤ 1000000 → 0 ≤ uz ∧ uz ≤ 100 → (∀ (V2 : jV) (b2 t2 u2 i2 : Int32), tX T V V2 q x ca ea → isI b2 (bz + aSum (aBad1 x.1 rr 0) rr.1.length) → isI t2 (tz + aBeg rr 0 rr.1.length) → isI u2 (uz + aSum (aCue1 rr) rr.1.length) → J l s0 D kL_told (jR 11 760 4600) 760 4600 Q 197 [(0, .ref q), (1, .int x0), (2, .ref (q + 492)), (3, .ref (q + 493)), (4, .ref (q + 494)), (5, .ref (q + 495)), (6, .ref (q + 496)), (7, .ref ca), (8, .ref ea), (9, .int b2), (10, .int t2), (11, .int u2), (12, .int k), (13, .ref rho), (14, .int i2)] [] T V2 X sz 692 4215) → J l s0 D kL_told (jR 11 760 4600) 760 4600 Q 102 [(0, .ref q), (1, .int x0), (2, .ref (q + 492)), (3, .ref (q + 493)), (4, .ref (q + 494)), (5, .ref (q + 495)), (6, .ref (q + 496)), (7, .ref ca), (8, .ref ea), (9, .int b), (10, .int t), (11, .int u), (12, .int k), (13, .ref rho)] [] T V1 X sz 692 4215 := by
    intro rho rr k b t u bz tz uz V1 hrho hzr hrl d1 d2 w hb ht hu bz0 tz0 uz0 K
    have h5 := hzr.2.1
    have bn := aBeg_rng hrl (w := 0) (Or.inl rfl) rr.1.length (Nat.le_refl _)
    have sb := aSum_rng (f := aBad1 x.1 rr 0) (B := 1) (n := rr.1.length) (fun k _ => by unfold aBad1; split <;> omega) rr.1.length (Nat.le_refl _)
    refine j_iconst (v := 0) dL_told_102 (by decide) ?_
    refine j_aload dL_told_103 rfl ?_
    refine j_aload dL_told_105 rfl ?_
    refine j_aload dL_told_107 rfl ?_
    refine j_aload dL_told_109 rfl ?_
    refine j_cSu dL_told_111 hB mo_L_lay ml_L_49 (sp_L_lay hB hrho hT.2.2.2.1 hca hea (by omega) hzr w.2.2.2.2.2.1 hp hrl (iC 0 (by decide)) (Or.inl rfl) (by decide)) rfl rfl ⟨rfl, rfl, by decide, by decide⟩ (Nat.le_of_ble_eq_true rfl) ⟨by show _ ≤ 760; omega, by show _ ≤ 4600; omega⟩ (fun V_111 h_111 => ?_)
    obtain ⟨hF, hO⟩ := h_111
    replace w := w.ly hF (by omega)
    replace hzr : zRl (V_111 rho) rr := by rw [hF rho (by omega) (by omega)]; exact hzr
    have cl : ∀ (b2 t2 : Int32), isI b2 (bz + aSum (aBad1 x.1 rr 0) rr.1.length) → isI t2 (tz + aBeg rr 0 rr.1.length) → ∀ (N j : Nat) (u2 i2 : Int32), j + N = rr.1.length → i2.toInt = (j : Int) → isI u2 (uz + aSum (aCue1 rr) j) → J l s0 D kL_told (jR 11 760 4600) 760 4600 Q 158 [(0, .ref q), (1, .int x0), (2, .ref (q + 492)), (3, .ref (q + 493)), (4, .ref (q + 494)), (5, .ref (q + 495)), (6, .ref (q + 496)), (7, .ref ca), (8, .ref ea), (9, .int b2), (10, .int t2), (11, .int u2), (12, .int k), (13, .ref rho), (14, .int i2)] [] T V_111 X sz 692 4215 := by
      intro b2 t2 hb2 ht2 N
      refine Nat.strongRecOn N ?_
      clear N
      intro n ih j u2 i2 hn hi hu2
      have sc := aSum_rng (f := aCue1 rr) (B := 1) (n := rr.1.length) (fun k _ => by unfold aCue1 cueI; split <;> omega) j (by omega)
      refine j_iload dL_told_158 rfl ?_
      refine j_aload dL_told_160 rfl ?_
      refine j_iconst (v := 0) dL_told_162 (by decide) ?_
      refine m_iald (k := 0) dL_told_163 hB (by assumption) (ixk (iC 0 (by decide)) (by omega)) (by omega) ?_
      refine m_icmp_ge (tgt := 197) dL_told_164 (by decide) (hi) (hzr.1) (fun c_164 => ?_) (fun c_164 => ?_)
      · have hj : j = rr.1.length := by omega
        subst hj
        exact K _ _ _ _ _ w hb2 ht2 hu2
      · have hj : j < rr.1.length := by omega
        refine j_iload dL_told_167 rfl ?_
        refine j_aload dL_told_169 rfl ?_
        refine j_iconst (v := 2) dL_told_171 (by decide) ?_
        refine j_iconst (v := 4) dL_told_172 (by decide) ?_
        refine j_iload dL_told_173 rfl ?_
        refine j_imul dL_told_175 ?_
        refine j_iadd dL_told_176 ?_
        refine m_iald (k := 2 + 4 * j) dL_told_177 hB (by assumption) (ixk (iA (iC 2 (by decide)) (iM (iC 4 (by decide)) (hi) (by omega)) (by omega)) (by omega)) (by omega) ?_
        refine j_ldc dL_told_178 hB kc_L_21 ?_
        refine m_icmp_eq (tgt := 187) dL_told_180 (by decide) ((congrArg Int32.toInt (hzr.2.2.1 j hj).2.1)) (iC (-2000001) (by decide)) (fun c_180 => ?_) (fun c_180 => ?_)
        · refine j_iconst (v := 0) dL_told_187 (by decide) ?_
          refine j_iadd dL_told_188 ?_
          refine j_istore (L' := [(0, _), (1, _), (2, _), (3, _), (4, _), (5, _), (6, _), (7, _), (8, _), (9, _), (10, _), (11, _), (12, _), (13, _), (14, _)]) dL_told_189 (by decide) rfl ?_
          refine j_iinc (v := 1) (L' := [(0, _), (1, _), (2, _), (3, _), (4, _), (5, _), (6, _), (7, _), (8, _), (9, _), (10, _), (11, _), (12, _), (13, _), (14, _)]) dL_told_191 rfl (by decide) (by decide) rfl ?_
          refine j_goto (tgt := 158) dL_told_194 (by decide) ?_
          refine ih (n - 1) (by omega) (j + 1) _ _ (by omega) (ixk (k := j + 1) (iA (hi) (iC 1 (by decide)) (by omega)) (by omega)) (ixz (iA (hu2) (iC 0 (by decide)) (by omega)) ?_)
          show _ = uz + (aSum (aCue1 rr) j + cueI rr j 1 0)
          rw [cueI_f (fun z9 => isCue_iff.mp z9 c_180)]; omega
        · refine j_iconst (v := 1) dL_told_183 (by decide) ?_
          refine j_goto (tgt := 188) dL_told_184 (by decide) ?_
          refine j_iadd dL_told_188 ?_
          refine j_istore (L' := [(0, _), (1, _), (2, _), (3, _), (4, _), (5, _), (6, _), (7, _), (8, _), (9, _), (10, _), (11, _), (12, _), (13, _), (14, _)]) dL_told_189 (by decide) rfl ?_
          refine j_iinc (v := 1) (L' := [(0, _), (1, _), (2, _), (3, _), (4, _), (5, _), (6, _), (7, _), (8, _), (9, _), (10, _), (11, _), (12, _), (13, _), (14, _)]) dL_told_191 rfl (by decide) (by decide) rfl ?_
          refine j_goto (tgt := 158) dL_told_194 (by decide) ?_
          refine ih (n - 1) (by omega) (j + 1) _ _ (by omega) (ixk (k := j + 1) (iA (hi) (iC 1 (by decide)) (by omega)) (by omega)) (ixz (iA (hu2) (iC 1 (by decide)) (by omega)) ?_)
          show _ = uz + (aSum (aCue1 rr) j + cueI rr j 1 0)
          rw [cueI_t (isCue_iff.mpr c_180)]; omega
    refine j_iload dL_told_114 rfl ?_
    refine j_aload dL_told_116 rfl ?_
    refine j_aload dL_told_118 rfl ?_
    refine j_aload dL_told_120 rfl ?_
    refine j_aload dL_told_122 rfl ?_
    refine j_cSi dL_told_124 hB mo_L_bads ml_L_67 (sp_L_bads hB hrho hca hea hzr hO hp hrl (Or.inl rfl) hT.2.2.2.2 w.2.2.2.2.2.2) rfl rfl ⟨rfl, rfl, by decide, by decide⟩ (Nat.le_of_ble_eq_true rfl) ⟨by show _ ≤ 760; omega, by show _ ≤ 4600; omega⟩ (fun r_124 V_124 h_124 => ?_)
    obtain ⟨rfl, h_124⟩ := h_124
    refine j_iadd dL_told_127 ?_
    refine j_istore (L' := [(0, _), (1, _), (2, _), (3, _), (4, _), (5, _), (6, _), (7, _), (8, _), (9, _), (10, _), (11, _), (12, _), (13, _)]) dL_told_128 (by decide) rfl ?_
    refine j_iload dL_told_130 rfl ?_
    refine j_aload dL_told_132 rfl ?_
    refine j_iconst (v := 0) dL_told_134 (by decide) ?_
    refine m_iald (k := 0) dL_told_135 hB (by assumption) (ixk (iC 0 (by decide)) (by omega)) (by omega) ?_
    refine m_if_ne (tgt := 143) dL_told_136 (by decide) (hzr.1) (fun c_136 => ?_) (fun c_136 => ?_)
    · have e151 : isI (V_111 ea (rr.1.length - 1)) (aBeg rr 0 rr.1.length) := by
        have h9 := (hO (rr.1.length - 1) (by omega)).2.2
        rw [show rr.1.length - 1 + 1 = rr.1.length by omega] at h9
        exact h9
      refine j_aload dL_told_143 rfl ?_
      refine j_aload dL_told_145 rfl ?_
      refine j_iconst (v := 0) dL_told_147 (by decide) ?_
      refine m_iald (k := 0) dL_told_148 hB (by assumption) (ixk (iC 0 (by decide)) (by omega)) (by omega) ?_
      refine j_iconst (v := 1) dL_told_149 (by decide) ?_
      refine j_isub dL_told_150 ?_
      refine m_iald (k := rr.1.length - 1) dL_told_151 hB (by assumption) (ixk (iS (hzr.1) (iC 1 (by decide)) (by omega)) (by omega)) (by omega) ?_
      refine j_iadd dL_told_152 ?_
      refine j_istore (L' := [(0, _), (1, _), (2, _), (3, _), (4, _), (5, _), (6, _), (7, _), (8, _), (9, _), (10, _), (11, _), (12, _), (13, _)]) dL_told_153 (by decide) rfl ?_
      refine j_iconst (v := 0) dL_told_155 (by decide) ?_
      refine j_istore (L' := [(0, _), (1, _), (2, _), (3, _), (4, _), (5, _), (6, _), (7, _), (8, _), (9, _), (10, _), (11, _), (12, _), (13, _), (14, _)]) dL_told_156 (by decide) rfl ?_
      exact cl _ _ (ixz (iA (hb) (h_124) (by omega)) rfl) (ixz (iA (ht) (e151) (by omega)) rfl) rr.1.length 0 _ 0 (by omega) rfl (ixz hu (by show _ = uz + 0; omega))
    · refine j_iconst (v := 0) dL_told_139 (by decide) ?_
      refine j_goto (tgt := 152) dL_told_140 (by decide) ?_
      refine j_iadd dL_told_152 ?_
      refine j_istore (L' := [(0, _), (1, _), (2, _), (3, _), (4, _), (5, _), (6, _), (7, _), (8, _), (9, _), (10, _), (11, _), (12, _), (13, _)]) dL_told_153 (by decide) rfl ?_
      refine j_iconst (v := 0) dL_told_155 (by decide) ?_
      refine j_istore (L' := [(0, _), (1, _), (2, _), (3, _), (4, _), (5, _), (6, _), (7, _), (8, _), (9, _), (10, _), (11, _), (12, _), (13, _), (14, _)]) dL_told_156 (by decide) rfl ?_
      exact cl _ _ (ixz (iA (hb) (h_124) (by omega)) rfl) (ixz (iA (ht) (iC 0 (by decide)) (by omega)) (by rw [show rr.1.length = 0 by omega]; show _ = tz + 0; omega)) rr.1.length 0 _ 0 (by omega) rfl (ixz hu (by show _ = uz + 0; omega))
  have ploop : ∀ (b t u : Int32), isI b (0 + aSum (aBad1 x.1 (sR x.1 0) 0) (sR x.1 0).1.length + aSum (aBad1 x.1 (sR x.1 1) 0) (sR x.1 1).1.length + aSum (aBad1 x.1 (sR x.1 2) 0) (sR x.1 2).1.length) → isI t (0 + aBeg (sR x.1 0) 0 (sR x.1 0).1.length + aBeg (sR x.1 1) 0 (sR x.1 1).1.length + aBeg (sR x.1 2) 0 (sR x.1 2).1.length) → isI u (0 + aSum (aCue1 (sR x.1 0)) (sR x.1 0).1.length + aSum (aCue1 (sR x.1 1)) (sR x.1 1).1.length + aSum (aCue1 (sR x.1 2)) (sR x.1 2).1.length) → ∀ (N jp : Nat) (p : Int32) (V1 : jV) (c1 n1 : Nat), jp + N = x.1.2.1.1.length → p.toInt = (jp : Int) → tX T V V1 q x ca ea → c1 ≤ 692 + 8 * jp → n1 ≤ 4215 + 48 * jp → J l s0 D kL_told (jR 11 760 4600) 760 4600 Q 206 [(0, .ref q), (1, .int x0), (2, .ref (q + 492)), (3, .ref (q + 493)), (4, .ref (q + 494)), (5, .ref (q + 495)), (6, .ref (q + 496)), (7, .ref ca), (8, .ref ea), (9, .int b), (10, .int t), (11, .int u), (12, .int p)] [] T V1 X sz c1 n1 := by
    intro b t u hb ht hu N
    refine Nat.strongRecOn N ?_
    clear N
    intro n ih jp p V1 c1 n1 hn hpj w hc1 hn1
    have hl4 := w.2.2.2.2.2.1.1
    have h55 : (sR x.1 0).1.length ≤ 5 ∧ (sR x.1 1).1.length ≤ 5 ∧ (sR x.1 2).1.length ≤ 5 := ⟨w.2.2.1.2.1, w.2.2.2.1.2.1, w.2.2.2.2.1.2.1⟩
    refine j_iload dL_told_206 rfl ?_
    refine j_aload dL_told_208 rfl ?_
    refine j_iconst (v := 0) dL_told_210 (by decide) ?_
    refine m_iald (k := 0) dL_told_211 hB (by assumption) (ixk (iC 0 (by decide)) (by omega)) (by omega) ?_
    refine m_icmp_ge (tgt := 354) dL_told_212 (by decide) (hpj) (w.2.2.2.2.2.2.1) (fun c_212 => ?_) (fun c_212 => ?_)
    · refine j_aload_n dL_told_354 rfl ?_
      refine j_iconst (v := 0) dL_told_355 (by decide) ?_
      refine j_cCi dL_told_356 hB mo_X7_count ml_L_96 (sp_X7_count hB w.2.1 hW) (e_ct0 (by decide) (by decide)) w.2.1.k rfl rfl rfl rfl ⟨rfl, rfl, by decide, by decide⟩ (Nat.le_of_ble_eq_true rfl) ⟨by show _ ≤ 760; omega, by show _ ≤ 4600; omega⟩ (fun y_356 V_356 h_356 a_356 g_356 => ?_)
      replace w := w.ag a_356 g_356
      replace h_356 := h_356.trans (ct_0 (by decide))
      refine j_aload_n dL_told_359 rfl ?_
      refine j_iconst (v := 0) dL_told_360 (by decide) ?_
      refine m_iald (k := 0) dL_told_361 hB (by assumption) (ixk (iC 0 (by decide)) (by omega)) (by omega) ?_
      refine j_aload_n dL_told_362 rfl ?_
      refine j_iconst (v := 0) dL_told_363 (by decide) ?_
      refine m_iald (k := 0) dL_told_364 hB (by assumption) (ixk (iC 0 (by decide)) (by omega)) (by omega) ?_
      refine j_iadd dL_told_365 ?_
      refine j_aload dL_told_366 rfl ?_
      refine j_iconst (v := 0) dL_told_368 (by decide) ?_
      refine m_iald (k := 0) dL_told_369 hB (by assumption) (ixk (iC 0 (by decide)) (by omega)) (by omega) ?_
      refine j_iadd dL_told_370 ?_
      refine m_icmp_ne (tgt := 445) dL_told_371 (by decide) (h_356) (iA (iA (w.2.2.1.1) (w.2.2.2.1.1) (by omega)) (w.2.2.2.2.1.1) (by omega)) (fun c_371 => ?_) (fun c_371 => ?_)
      · exact absurd (by rw [ctP_0, ov_0]) c_371
      · refine j_aload_n dL_told_374 rfl ?_
        refine j_iconst (v := 1) dL_told_375 (by decide) ?_
        refine j_cCi dL_told_376 hB mo_X7_count ml_L_96 (sp_X7_count hB w.2.1 hW) (e_ct0 (by decide) (by decide)) w.2.1.k rfl rfl rfl rfl ⟨rfl, rfl, by decide, by decide⟩ (Nat.le_of_ble_eq_true rfl) ⟨by show _ ≤ 760; omega, by show _ ≤ 4600; omega⟩ (fun y_376 V_376 h_376 a_376 g_376 => ?_)
        replace w := w.ag a_376 g_376
        replace h_376 := h_376.trans (ct_1 (by decide))
        refine j_aload dL_told_379 rfl ?_
        refine j_iconst (v := 0) dL_told_381 (by decide) ?_
        refine m_iald (k := 0) dL_told_382 hB (by assumption) (ixk (iC 0 (by decide)) (by omega)) (by omega) ?_
        refine m_icmp_ne (tgt := 445) dL_told_383 (by decide) (h_376) (w.2.2.2.2.2.2.1) (fun c_383 => ?_) (fun c_383 => ?_)
        · exact absurd ctP_1 c_383
        · refine j_aload_n dL_told_386 rfl ?_
          refine j_iconst (v := 2) dL_told_387 (by decide) ?_
          refine j_cCi dL_told_388 hB mo_X7_count ml_L_96 (sp_X7_count hB w.2.1 hW) (e_ct0 (by decide) (by decide)) w.2.1.k rfl rfl rfl rfl ⟨rfl, rfl, by decide, by decide⟩ (Nat.le_of_ble_eq_true rfl) ⟨by show _ ≤ 760; omega, by show _ ≤ 4600; omega⟩ (fun y_388 V_388 h_388 a_388 g_388 => ?_)
          replace w := w.ag a_388 g_388
          replace h_388 := h_388.trans (ct_2 (by decide))
          refine j_iload dL_told_391 rfl ?_
          refine m_icmp_ne (tgt := 445) dL_told_393 (by decide) (h_388) (hu) (fun c_393 => ?_) (fun c_393 => ?_)
          · exact absurd (by rw [ctP_2, ov_6]; omega) c_393
          · refine j_aload_n dL_told_396 rfl ?_
            refine j_iconst (v := 3) dL_told_397 (by decide) ?_
            refine j_cCi dL_told_398 hB mo_X7_count ml_L_96 (sp_X7_count hB w.2.1 hW) (e_ct0 (by decide) (by decide)) w.2.1.k rfl rfl rfl rfl ⟨rfl, rfl, by decide, by decide⟩ (Nat.le_of_ble_eq_true rfl) ⟨by show _ ≤ 760; omega, by show _ ≤ 4600; omega⟩ (fun y_398 V_398 h_398 a_398 g_398 => ?_)
            replace w := w.ag a_398 g_398
            replace h_398 := h_398.trans (ct_3 (by decide))
            refine j_iload dL_told_401 rfl ?_
            refine m_icmp_ne (tgt := 445) dL_told_403 (by decide) (h_398) (hb) (fun c_403 => ?_) (fun c_403 => ?_)
            · exact absurd (by rw [ctP_3, ov_7]; omega) c_403
            · refine j_aload_n dL_told_406 rfl ?_
              refine j_iconst (v := 4) dL_told_407 (by decide) ?_
              refine j_cCi dL_told_408 hB mo_X7_count ml_L_96 (sp_X7_count hB w.2.1 hW) (e_ct0 (by decide) (by decide)) w.2.1.k rfl rfl rfl rfl ⟨rfl, rfl, by decide, by decide⟩ (Nat.le_of_ble_eq_true rfl) ⟨by show _ ≤ 760; omega, by show _ ≤ 4600; omega⟩ (fun y_408 V_408 h_408 a_408 g_408 => ?_)
              replace w := w.ag a_408 g_408
              replace h_408 := h_408.trans (ct_4 (by decide))
              refine j_aload dL_told_411 rfl ?_
              refine j_iconst (v := 1) dL_told_413 (by decide) ?_
              refine m_iald (k := 1) dL_told_414 hB (by assumption) (ixk (iC 1 (by decide)) (by omega)) (by omega) ?_
              refine m_icmp_ne (tgt := 445) dL_told_415 (by decide) (h_408) ((congrArg Int32.toInt w.2.2.2.2.2.2.2.1)) (fun c_415 => ?_) (fun c_415 => ?_)
              · exact absurd ctP_4 c_415
              · refine j_aload_n dL_told_418 rfl ?_
                refine j_iconst (v := 5) dL_told_419 (by decide) ?_
                refine j_cCi dL_told_420 hB mo_X7_count ml_L_96 (sp_X7_count hB w.2.1 hW) (e_ct0 (by decide) (by decide)) w.2.1.k rfl rfl rfl rfl ⟨rfl, rfl, by decide, by decide⟩ (Nat.le_of_ble_eq_true rfl) ⟨by show _ ≤ 760; omega, by show _ ≤ 4600; omega⟩ (fun y_420 V_420 h_420 a_420 g_420 => ?_)
                replace w := w.ag a_420 g_420
                replace h_420 := h_420.trans (ct_5 (by decide))
                refine j_aload dL_told_423 rfl ?_
                refine j_iconst (v := 2) dL_told_425 (by decide) ?_
                refine m_iald (k := 2) dL_told_426 hB (by assumption) (ixk (iC 2 (by decide)) (by omega)) (by omega) ?_
                refine m_icmp_ne (tgt := 445) dL_told_427 (by decide) (h_420) ((congrArg Int32.toInt w.2.2.2.2.2.2.2.2)) (fun c_427 => ?_) (fun c_427 => ?_)
                · exact absurd ctP_5 c_427
                · refine j_aload_n dL_told_430 rfl ?_
                  refine j_bipush (v := 6) dL_told_431 (by decide) ?_
                  refine j_cCi dL_told_433 hB mo_X7_count ml_L_96 (sp_X7_count hB w.2.1 hW) (e_ct0 (by decide) (by decide)) w.2.1.k rfl rfl rfl rfl ⟨rfl, rfl, by decide, by decide⟩ (Nat.le_of_ble_eq_true rfl) ⟨by show _ ≤ 760; omega, by show _ ≤ 4600; omega⟩ (fun y_433 V_433 h_433 a_433 g_433 => ?_)
                  replace w := w.ag a_433 g_433
                  replace h_433 := h_433.trans (ct_6 (by decide))
                  refine j_iload dL_told_436 rfl ?_
                  refine m_icmp_ne (tgt := 445) dL_told_438 (by decide) (h_433) (ht) (fun c_438 => ?_) (fun c_438 => ?_)
                  · exact absurd (by rw [ctP_6, ov_3]; omega) c_438
                  · refine j_iconst (v := 1) dL_told_441 (by decide) ?_
                    refine j_goto (tgt := 446) dL_told_442 (by decide) ?_
                    exact K _ _ _ _ w (by omega) (by omega)
    · have hj : jp < x.1.2.1.1.length := by omega
      have tail : ∀ (us i : Int32) (V1 : jV) (c1 n1 : Nat), tX T V V1 q x ca ea → c1 ≤ 692 + 8 * jp → n1 ≤ 4215 + 48 * jp → isI us (cuT x.1 p 3) → J l s0 D kL_told (jR 11 760 4600) 760 4600 Q 296 [(0, .ref q), (1, .int x0), (2, .ref (q + 492)), (3, .ref (q + 493)), (4, .ref (q + 494)), (5, .ref (q + 495)), (6, .ref (q + 496)), (7, .ref ca), (8, .ref ea), (9, .int b), (10, .int t), (11, .int u), (12, .int p), (13, .int us), (14, .int i)] [] T V1 X sz c1 n1 := by
        intro us i V1 c1 n1 w hc1 hn1 hus
        refine j_iconst (v := 0) dL_told_296 (by decide) ?_
        refine j_istore (L' := [(0, _), (1, _), (2, _), (3, _), (4, _), (5, _), (6, _), (7, _), (8, _), (9, _), (10, _), (11, _), (12, _), (13, _), (14, _)]) dL_told_297 (by decide) rfl ?_
        refine j_iload dL_told_299 rfl ?_
        refine j_iconst (v := 3) dL_told_301 (by decide) ?_
        refine m_icmp_ge (tgt := 334) dL_told_302 (by decide) (iC 0 (by decide)) (iC 3 (by decide)) (fun c_302 => ?_) (fun c_302 => ?_)
        · exact absurd c_302 (by decide)
        · refine j_aload_n dL_told_305 rfl ?_
          refine j_iload dL_told_306 rfl ?_
          refine j_iload dL_told_308 rfl ?_
          refine j_cCi dL_told_310 hB mo_X7_piece ml_L_93 (sp_X7_piece hB w.2.1 hW) (e_pi0 hpj hj (by decide) (by decide)) w.2.1.k rfl rfl rfl rfl ⟨rfl, rfl, by decide, by decide⟩ (Nat.le_of_ble_eq_true rfl) ⟨by show _ ≤ 760; omega, by show _ ≤ 4600; omega⟩ (fun y_310 V_310 h_310 a_310 g_310 => ?_)
          replace w := w.ag a_310 g_310
          replace h_310 := h_310.trans (pc_0 hpj (by decide))
          refine j_aload dL_told_313 rfl ?_
          refine j_iconst (v := 3) dL_told_315 (by decide) ?_
          refine j_iload dL_told_316 rfl ?_
          refine j_imul dL_told_318 ?_
          refine j_iload dL_told_319 rfl ?_
          refine j_iadd dL_told_321 ?_
          refine m_iald (k := 3 * jp) dL_told_322 hB (by assumption) (ixk (iA (iM (iC 3 (by decide)) (hpj) (by omega)) (iC 0 (by decide)) (by omega)) (by omega)) (by omega) ?_
          refine m_icmp_eq (tgt := 328) dL_told_323 (by decide) (h_310) ((congrArg Int32.toInt (w.2.2.2.2.2.1.2 jp hj).1)) (fun c_323 => ?_) (fun c_323 => ?_)
          · refine j_iinc (v := 1) (L' := [(0, _), (1, _), (2, _), (3, _), (4, _), (5, _), (6, _), (7, _), (8, _), (9, _), (10, _), (11, _), (12, _), (13, _), (14, _)]) dL_told_328 rfl (by decide) (by decide) rfl ?_
            refine j_goto (tgt := 299) dL_told_331 (by decide) ?_
            refine j_iload dL_told_299 rfl ?_
            refine j_iconst (v := 3) dL_told_301 (by decide) ?_
            refine m_icmp_ge (tgt := 334) dL_told_302 (by decide) (iC 1 (by decide)) (iC 3 (by decide)) (fun c_302 => ?_) (fun c_302 => ?_)
            · exact absurd c_302 (by decide)
            · refine j_aload_n dL_told_305 rfl ?_
              refine j_iload dL_told_306 rfl ?_
              refine j_iload dL_told_308 rfl ?_
              refine j_cCi dL_told_310 hB mo_X7_piece ml_L_93 (sp_X7_piece hB w.2.1 hW) (e_pi0 hpj hj (by decide) (by decide)) w.2.1.k rfl rfl rfl rfl ⟨rfl, rfl, by decide, by decide⟩ (Nat.le_of_ble_eq_true rfl) ⟨by show _ ≤ 760; omega, by show _ ≤ 4600; omega⟩ (fun y_310 V_310 h_310 a_310 g_310 => ?_)
              replace w := w.ag a_310 g_310
              replace h_310 := h_310.trans (pc_1 hpj (by decide))
              refine j_aload dL_told_313 rfl ?_
              refine j_iconst (v := 3) dL_told_315 (by decide) ?_
              refine j_iload dL_told_316 rfl ?_
              refine j_imul dL_told_318 ?_
              refine j_iload dL_told_319 rfl ?_
              refine j_iadd dL_told_321 ?_
              refine m_iald (k := 3 * jp + 1) dL_told_322 hB (by assumption) (ixk (iA (iM (iC 3 (by decide)) (hpj) (by omega)) (iC 1 (by decide)) (by omega)) (by omega)) (by omega) ?_
              refine m_icmp_eq (tgt := 328) dL_told_323 (by decide) (h_310) ((congrArg Int32.toInt (w.2.2.2.2.2.1.2 jp hj).2.1)) (fun c_323 => ?_) (fun c_323 => ?_)
              · refine j_iinc (v := 1) (L' := [(0, _), (1, _), (2, _), (3, _), (4, _), (5, _), (6, _), (7, _), (8, _), (9, _), (10, _), (11, _), (12, _), (13, _), (14, _)]) dL_told_328 rfl (by decide) (by decide) rfl ?_
                refine j_goto (tgt := 299) dL_told_331 (by decide) ?_
                refine j_iload dL_told_299 rfl ?_
                refine j_iconst (v := 3) dL_told_301 (by decide) ?_
                refine m_icmp_ge (tgt := 334) dL_told_302 (by decide) (iC 2 (by decide)) (iC 3 (by decide)) (fun c_302 => ?_) (fun c_302 => ?_)
                · exact absurd c_302 (by decide)
                · refine j_aload_n dL_told_305 rfl ?_
                  refine j_iload dL_told_306 rfl ?_
                  refine j_iload dL_told_308 rfl ?_
                  refine j_cCi dL_told_310 hB mo_X7_piece ml_L_93 (sp_X7_piece hB w.2.1 hW) (e_pi0 hpj hj (by decide) (by decide)) w.2.1.k rfl rfl rfl rfl ⟨rfl, rfl, by decide, by decide⟩ (Nat.le_of_ble_eq_true rfl) ⟨by show _ ≤ 760; omega, by show _ ≤ 4600; omega⟩ (fun y_310 V_310 h_310 a_310 g_310 => ?_)
                  replace w := w.ag a_310 g_310
                  replace h_310 := h_310.trans (pc_2 hpj (by decide))
                  refine j_aload dL_told_313 rfl ?_
                  refine j_iconst (v := 3) dL_told_315 (by decide) ?_
                  refine j_iload dL_told_316 rfl ?_
                  refine j_imul dL_told_318 ?_
                  refine j_iload dL_told_319 rfl ?_
                  refine j_iadd dL_told_321 ?_
                  refine m_iald (k := 3 * jp + 2) dL_told_322 hB (by assumption) (ixk (iA (iM (iC 3 (by decide)) (hpj) (by omega)) (iC 2 (by decide)) (by omega)) (by omega)) (by omega) ?_
                  refine m_icmp_eq (tgt := 328) dL_told_323 (by decide) (h_310) ((congrArg Int32.toInt (w.2.2.2.2.2.1.2 jp hj).2.2)) (fun c_323 => ?_) (fun c_323 => ?_)
                  · refine j_iinc (v := 1) (L' := [(0, _), (1, _), (2, _), (3, _), (4, _), (5, _), (6, _), (7, _), (8, _), (9, _), (10, _), (11, _), (12, _), (13, _), (14, _)]) dL_told_328 rfl (by decide) (by decide) rfl ?_
                    refine j_goto (tgt := 299) dL_told_331 (by decide) ?_
                    refine j_iload dL_told_299 rfl ?_
                    refine j_iconst (v := 3) dL_told_301 (by decide) ?_
                    refine m_icmp_ge (tgt := 334) dL_told_302 (by decide) (iC 3 (by decide)) (iC 3 (by decide)) (fun c_302 => ?_) (fun c_302 => ?_)
                    · refine j_aload_n dL_told_334 rfl ?_
                      refine j_iload dL_told_335 rfl ?_
                      refine j_iconst (v := 3) dL_told_337 (by decide) ?_
                      refine j_cCi dL_told_338 hB mo_X7_piece ml_L_93 (sp_X7_piece hB w.2.1 hW) (e_pi0 hpj hj (by decide) (by decide)) w.2.1.k rfl rfl rfl rfl ⟨rfl, rfl, by decide, by decide⟩ (Nat.le_of_ble_eq_true rfl) ⟨by show _ ≤ 760; omega, by show _ ≤ 4600; omega⟩ (fun y_338 V_338 h_338 a_338 g_338 => ?_)
                      replace w := w.ag a_338 g_338
                      replace h_338 := h_338.trans (pc_3 hpj (by decide))
                      refine j_iload dL_told_341 rfl ?_
                      refine m_icmp_eq (tgt := 348) dL_told_343 (by decide) (h_338) (hus) (fun c_343 => ?_) (fun c_343 => ?_)
                      · refine j_iinc (v := 1) (L' := [(0, _), (1, _), (2, _), (3, _), (4, _), (5, _), (6, _), (7, _), (8, _), (9, _), (10, _), (11, _), (12, _), (13, _), (14, _)]) dL_told_348 rfl (by decide) (by decide) rfl ?_
                        refine j_goto (tgt := 206) dL_told_351 (by decide) ?_
                        refine j_sub2 (L' := [(0, _), (1, _), (2, _), (3, _), (4, _), (5, _), (6, _), (7, _), (8, _), (9, _), (10, _), (11, _), (12, _)]) (List.forall_mem_cons.mpr ⟨rfl, List.forall_mem_cons.mpr ⟨rfl, List.forall_mem_cons.mpr ⟨rfl, List.forall_mem_cons.mpr ⟨rfl, List.forall_mem_cons.mpr ⟨rfl, List.forall_mem_cons.mpr ⟨rfl, List.forall_mem_cons.mpr ⟨rfl, List.forall_mem_cons.mpr ⟨rfl, List.forall_mem_cons.mpr ⟨rfl, List.forall_mem_cons.mpr ⟨rfl, List.forall_mem_cons.mpr ⟨rfl, List.forall_mem_cons.mpr ⟨rfl, List.forall_mem_cons.mpr ⟨rfl, fun _ h9 => nomatch h9⟩⟩⟩⟩⟩⟩⟩⟩⟩⟩⟩⟩⟩) ?_
                        refine ih (n - 1) (by omega) (jp + 1) _ _ _ _ (by omega) (ixk (k := jp + 1) (iA (hpj) (iC 1 (by decide)) (by omega)) (by omega)) w ?_ ?_
                        · omega
                        · omega
                      · exact absurd rfl c_343
                    · exact absurd c_302 (by decide)
                  · exact absurd rfl c_323
              · exact absurd rfl c_323
          · exact absurd rfl c_323
      have ul : ∀ (V1 : jV) (c1 n1 : Nat), tX T V V1 q x ca ea → c1 ≤ 692 + 8 * jp → n1 ≤ 4215 + 48 * jp → ∀ (N j : Nat) (us i : Int32), j + N = 15 → i.toInt = (j : Int) → isI us (usN x.1 p.toInt j) → J l s0 D kL_told (jR 11 760 4600) 760 4600 Q 221 [(0, .ref q), (1, .int x0), (2, .ref (q + 492)), (3, .ref (q + 493)), (4, .ref (q + 494)), (5, .ref (q + 495)), (6, .ref (q + 496)), (7, .ref ca), (8, .ref ea), (9, .int b), (10, .int t), (11, .int u), (12, .int p), (13, .int us), (14, .int i)] [] T V1 X sz c1 n1 := by
        intro V1 c1 n1 w hc1 hn1 N
        refine Nat.strongRecOn N ?_
        clear N
        intro n ih j us i hn hi hus
        have ur := usN_rng (s := x.1) (p := p.toInt) j
        have m5 : j < 15 → isI (i - i / 5 * 5) ((j % 5 : Nat) : Int) := fun _ => by
          show (i - i / 5 * 5).toInt = _
          rw [ti_rem (by omega) (by decide), hi, show (5 : Int32).toInt = 5 by decide]
          omega
        refine j_iload dL_told_221 rfl ?_
        refine j_bipush (v := 15) dL_told_223 (by decide) ?_
        refine m_icmp_ge (tgt := 296) dL_told_225 (by decide) (hi) (iC 15 (by decide)) (fun c_225 => ?_) (fun c_225 => ?_)
        · rw [show j = 15 by omega] at hus
          exact tail _ _ _ _ _ w hc1 hn1 (ixz hus (usN_15 hW.1 h55))
        · refine j_iload dL_told_228 rfl ?_
          refine j_iconst (v := 5) dL_told_230 (by decide) ?_
          refine m_icmp_ge (tgt := 238) dL_told_231 (by decide) (hi) (iC 5 (by decide)) (fun c_231 => ?_) (fun c_231 => ?_)
          · refine j_iload dL_told_238 rfl ?_
            refine j_bipush (v := 10) dL_told_240 (by decide) ?_
            refine m_icmp_ge (tgt := 249) dL_told_242 (by decide) (hi) (iC 10 (by decide)) (fun c_242 => ?_) (fun c_242 => ?_)
            · refine j_aload dL_told_249 rfl ?_
              refine j_astore (L' := [(0, _), (1, _), (2, _), (3, _), (4, _), (5, _), (6, _), (7, _), (8, _), (9, _), (10, _), (11, _), (12, _), (13, _), (14, _), (15, _)]) dL_told_251 (by decide) rfl ?_
              refine j_iload dL_told_253 rfl ?_
              refine j_iload dL_told_255 rfl ?_
              refine j_iconst (v := 5) dL_told_257 (by decide) ?_
              refine j_irem dL_told_258 (by decide) ?_
              refine j_aload dL_told_259 rfl ?_
              refine j_iconst (v := 0) dL_told_261 (by decide) ?_
              refine m_iald (k := 0) dL_told_262 hB (by assumption) (ixk (iC 0 (by decide)) (by omega)) (by omega) ?_
              refine m_icmp_ge (tgt := 286) dL_told_263 (by decide) ((m5 (by omega))) (w.2.2.2.2.1.1) (fun c_263 => ?_) (fun c_263 => ?_)
              · refine j_iconst (v := 0) dL_told_286 (by decide) ?_
                refine j_iadd dL_told_287 ?_
                refine j_istore (L' := [(0, _), (1, _), (2, _), (3, _), (4, _), (5, _), (6, _), (7, _), (8, _), (9, _), (10, _), (11, _), (12, _), (13, _), (14, _), (15, _)]) dL_told_288 (by decide) rfl ?_
                refine j_iinc (v := 1) (L' := [(0, _), (1, _), (2, _), (3, _), (4, _), (5, _), (6, _), (7, _), (8, _), (9, _), (10, _), (11, _), (12, _), (13, _), (14, _), (15, _)]) dL_told_290 rfl (by decide) (by decide) rfl ?_
                refine j_goto (tgt := 221) dL_told_293 (by decide) ?_
                refine j_sub2 (L' := [(0, _), (1, _), (2, _), (3, _), (4, _), (5, _), (6, _), (7, _), (8, _), (9, _), (10, _), (11, _), (12, _), (13, _), (14, _)]) (List.forall_mem_cons.mpr ⟨rfl, List.forall_mem_cons.mpr ⟨rfl, List.forall_mem_cons.mpr ⟨rfl, List.forall_mem_cons.mpr ⟨rfl, List.forall_mem_cons.mpr ⟨rfl, List.forall_mem_cons.mpr ⟨rfl, List.forall_mem_cons.mpr ⟨rfl, List.forall_mem_cons.mpr ⟨rfl, List.forall_mem_cons.mpr ⟨rfl, List.forall_mem_cons.mpr ⟨rfl, List.forall_mem_cons.mpr ⟨rfl, List.forall_mem_cons.mpr ⟨rfl, List.forall_mem_cons.mpr ⟨rfl, List.forall_mem_cons.mpr ⟨rfl, List.forall_mem_cons.mpr ⟨rfl, fun _ h9 => nomatch h9⟩⟩⟩⟩⟩⟩⟩⟩⟩⟩⟩⟩⟩⟩⟩) ?_
                have e5 : j / 5 = 2 := by omega
                have eB : usB x.1 p.toInt j ↔ (j % 5 < (sR x.1 2).1.length ∧ (atZ (sR x.1 2).2.1 ((j % 5 : Nat) : Int)).toInt = p.toInt) := by
                  unfold usB
                  rw [e5]
                  exact Iff.rfl
                refine ih (n - 1) (by omega) (j + 1) _ _ (by omega) (ixk (k := j + 1) (iA (hi) (iC 1 (by decide)) (by omega)) (by omega)) (ixz (iA (hus) (iC 0 (by decide)) (by omega)) ?_)
                show _ = usN x.1 p.toInt j + @ite _ (usB x.1 p.toInt j) (Classical.propDecidable _) 1 0
                rw [if_neg (fun z9 => absurd (eB.mp z9).1 (by omega))]
              · refine j_aload dL_told_266 rfl ?_
                refine j_iconst (v := 2) dL_told_268 (by decide) ?_
                refine j_iconst (v := 4) dL_told_269 (by decide) ?_
                refine j_iload dL_told_270 rfl ?_
                refine j_iconst (v := 5) dL_told_272 (by decide) ?_
                refine j_irem dL_told_273 (by decide) ?_
                refine j_imul dL_told_274 ?_
                refine j_iadd dL_told_275 ?_
                refine m_iald (k := 2 + 4 * (j % 5)) dL_told_276 hB (by assumption) (ixk (iA (iC 2 (by decide)) (iM (iC 4 (by decide)) ((m5 (by omega))) (by omega)) (by omega)) (by omega)) (by omega) ?_
                refine j_iload dL_told_277 rfl ?_
                refine m_icmp_ne (tgt := 286) dL_told_279 (by decide) ((congrArg Int32.toInt (w.2.2.2.2.1.2.2.1 (j % 5) (by omega)).2.1)) (hpj) (fun c_279 => ?_) (fun c_279 => ?_)
                · refine j_iconst (v := 0) dL_told_286 (by decide) ?_
                  refine j_iadd dL_told_287 ?_
                  refine j_istore (L' := [(0, _), (1, _), (2, _), (3, _), (4, _), (5, _), (6, _), (7, _), (8, _), (9, _), (10, _), (11, _), (12, _), (13, _), (14, _), (15, _)]) dL_told_288 (by decide) rfl ?_
                  refine j_iinc (v := 1) (L' := [(0, _), (1, _), (2, _), (3, _), (4, _), (5, _), (6, _), (7, _), (8, _), (9, _), (10, _), (11, _), (12, _), (13, _), (14, _), (15, _)]) dL_told_290 rfl (by decide) (by decide) rfl ?_
                  refine j_goto (tgt := 221) dL_told_293 (by decide) ?_
                  refine j_sub2 (L' := [(0, _), (1, _), (2, _), (3, _), (4, _), (5, _), (6, _), (7, _), (8, _), (9, _), (10, _), (11, _), (12, _), (13, _), (14, _)]) (List.forall_mem_cons.mpr ⟨rfl, List.forall_mem_cons.mpr ⟨rfl, List.forall_mem_cons.mpr ⟨rfl, List.forall_mem_cons.mpr ⟨rfl, List.forall_mem_cons.mpr ⟨rfl, List.forall_mem_cons.mpr ⟨rfl, List.forall_mem_cons.mpr ⟨rfl, List.forall_mem_cons.mpr ⟨rfl, List.forall_mem_cons.mpr ⟨rfl, List.forall_mem_cons.mpr ⟨rfl, List.forall_mem_cons.mpr ⟨rfl, List.forall_mem_cons.mpr ⟨rfl, List.forall_mem_cons.mpr ⟨rfl, List.forall_mem_cons.mpr ⟨rfl, List.forall_mem_cons.mpr ⟨rfl, fun _ h9 => nomatch h9⟩⟩⟩⟩⟩⟩⟩⟩⟩⟩⟩⟩⟩⟩⟩) ?_
                  have e5 : j / 5 = 2 := by omega
                  have eB : usB x.1 p.toInt j ↔ (j % 5 < (sR x.1 2).1.length ∧ (atZ (sR x.1 2).2.1 ((j % 5 : Nat) : Int)).toInt = p.toInt) := by
                    unfold usB
                    rw [e5]
                    exact Iff.rfl
                  refine ih (n - 1) (by omega) (j + 1) _ _ (by omega) (ixk (k := j + 1) (iA (hi) (iC 1 (by decide)) (by omega)) (by omega)) (ixz (iA (hus) (iC 0 (by decide)) (by omega)) ?_)
                  show _ = usN x.1 p.toInt j + @ite _ (usB x.1 p.toInt j) (Classical.propDecidable _) 1 0
                  rw [if_neg (fun z9 => absurd (eB.mp z9).2 (by omega))]
                · refine j_iconst (v := 1) dL_told_282 (by decide) ?_
                  refine j_goto (tgt := 287) dL_told_283 (by decide) ?_
                  refine j_iadd dL_told_287 ?_
                  refine j_istore (L' := [(0, _), (1, _), (2, _), (3, _), (4, _), (5, _), (6, _), (7, _), (8, _), (9, _), (10, _), (11, _), (12, _), (13, _), (14, _), (15, _)]) dL_told_288 (by decide) rfl ?_
                  refine j_iinc (v := 1) (L' := [(0, _), (1, _), (2, _), (3, _), (4, _), (5, _), (6, _), (7, _), (8, _), (9, _), (10, _), (11, _), (12, _), (13, _), (14, _), (15, _)]) dL_told_290 rfl (by decide) (by decide) rfl ?_
                  refine j_goto (tgt := 221) dL_told_293 (by decide) ?_
                  refine j_sub2 (L' := [(0, _), (1, _), (2, _), (3, _), (4, _), (5, _), (6, _), (7, _), (8, _), (9, _), (10, _), (11, _), (12, _), (13, _), (14, _)]) (List.forall_mem_cons.mpr ⟨rfl, List.forall_mem_cons.mpr ⟨rfl, List.forall_mem_cons.mpr ⟨rfl, List.forall_mem_cons.mpr ⟨rfl, List.forall_mem_cons.mpr ⟨rfl, List.forall_mem_cons.mpr ⟨rfl, List.forall_mem_cons.mpr ⟨rfl, List.forall_mem_cons.mpr ⟨rfl, List.forall_mem_cons.mpr ⟨rfl, List.forall_mem_cons.mpr ⟨rfl, List.forall_mem_cons.mpr ⟨rfl, List.forall_mem_cons.mpr ⟨rfl, List.forall_mem_cons.mpr ⟨rfl, List.forall_mem_cons.mpr ⟨rfl, List.forall_mem_cons.mpr ⟨rfl, fun _ h9 => nomatch h9⟩⟩⟩⟩⟩⟩⟩⟩⟩⟩⟩⟩⟩⟩⟩) ?_
                  have e5 : j / 5 = 2 := by omega
                  have eB : usB x.1 p.toInt j ↔ (j % 5 < (sR x.1 2).1.length ∧ (atZ (sR x.1 2).2.1 ((j % 5 : Nat) : Int)).toInt = p.toInt) := by
                    unfold usB
                    rw [e5]
                    exact Iff.rfl
                  refine ih (n - 1) (by omega) (j + 1) _ _ (by omega) (ixk (k := j + 1) (iA (hi) (iC 1 (by decide)) (by omega)) (by omega)) (ixz (iA (hus) (iC 1 (by decide)) (by omega)) ?_)
                  show _ = usN x.1 p.toInt j + @ite _ (usB x.1 p.toInt j) (Classical.propDecidable _) 1 0
                  rw [if_pos (eB.mpr ⟨by omega, by omega⟩)]
            · refine j_aload_n dL_told_245 rfl ?_
              refine j_goto (tgt := 251) dL_told_246 (by decide) ?_
              refine j_astore (L' := [(0, _), (1, _), (2, _), (3, _), (4, _), (5, _), (6, _), (7, _), (8, _), (9, _), (10, _), (11, _), (12, _), (13, _), (14, _), (15, _)]) dL_told_251 (by decide) rfl ?_
              refine j_iload dL_told_253 rfl ?_
              refine j_iload dL_told_255 rfl ?_
              refine j_iconst (v := 5) dL_told_257 (by decide) ?_
              refine j_irem dL_told_258 (by decide) ?_
              refine j_aload dL_told_259 rfl ?_
              refine j_iconst (v := 0) dL_told_261 (by decide) ?_
              refine m_iald (k := 0) dL_told_262 hB (by assumption) (ixk (iC 0 (by decide)) (by omega)) (by omega) ?_
              refine m_icmp_ge (tgt := 286) dL_told_263 (by decide) ((m5 (by omega))) (w.2.2.2.1.1) (fun c_263 => ?_) (fun c_263 => ?_)
              · refine j_iconst (v := 0) dL_told_286 (by decide) ?_
                refine j_iadd dL_told_287 ?_
                refine j_istore (L' := [(0, _), (1, _), (2, _), (3, _), (4, _), (5, _), (6, _), (7, _), (8, _), (9, _), (10, _), (11, _), (12, _), (13, _), (14, _), (15, _)]) dL_told_288 (by decide) rfl ?_
                refine j_iinc (v := 1) (L' := [(0, _), (1, _), (2, _), (3, _), (4, _), (5, _), (6, _), (7, _), (8, _), (9, _), (10, _), (11, _), (12, _), (13, _), (14, _), (15, _)]) dL_told_290 rfl (by decide) (by decide) rfl ?_
                refine j_goto (tgt := 221) dL_told_293 (by decide) ?_
                refine j_sub2 (L' := [(0, _), (1, _), (2, _), (3, _), (4, _), (5, _), (6, _), (7, _), (8, _), (9, _), (10, _), (11, _), (12, _), (13, _), (14, _)]) (List.forall_mem_cons.mpr ⟨rfl, List.forall_mem_cons.mpr ⟨rfl, List.forall_mem_cons.mpr ⟨rfl, List.forall_mem_cons.mpr ⟨rfl, List.forall_mem_cons.mpr ⟨rfl, List.forall_mem_cons.mpr ⟨rfl, List.forall_mem_cons.mpr ⟨rfl, List.forall_mem_cons.mpr ⟨rfl, List.forall_mem_cons.mpr ⟨rfl, List.forall_mem_cons.mpr ⟨rfl, List.forall_mem_cons.mpr ⟨rfl, List.forall_mem_cons.mpr ⟨rfl, List.forall_mem_cons.mpr ⟨rfl, List.forall_mem_cons.mpr ⟨rfl, List.forall_mem_cons.mpr ⟨rfl, fun _ h9 => nomatch h9⟩⟩⟩⟩⟩⟩⟩⟩⟩⟩⟩⟩⟩⟩⟩) ?_
                have e5 : j / 5 = 1 := by omega
                have eB : usB x.1 p.toInt j ↔ (j % 5 < (sR x.1 1).1.length ∧ (atZ (sR x.1 1).2.1 ((j % 5 : Nat) : Int)).toInt = p.toInt) := by
                  unfold usB
                  rw [e5]
                  exact Iff.rfl
                refine ih (n - 1) (by omega) (j + 1) _ _ (by omega) (ixk (k := j + 1) (iA (hi) (iC 1 (by decide)) (by omega)) (by omega)) (ixz (iA (hus) (iC 0 (by decide)) (by omega)) ?_)
                show _ = usN x.1 p.toInt j + @ite _ (usB x.1 p.toInt j) (Classical.propDecidable _) 1 0
                rw [if_neg (fun z9 => absurd (eB.mp z9).1 (by omega))]
              · refine j_aload dL_told_266 rfl ?_
                refine j_iconst (v := 2) dL_told_268 (by decide) ?_
                refine j_iconst (v := 4) dL_told_269 (by decide) ?_
                refine j_iload dL_told_270 rfl ?_
                refine j_iconst (v := 5) dL_told_272 (by decide) ?_
                refine j_irem dL_told_273 (by decide) ?_
                refine j_imul dL_told_274 ?_
                refine j_iadd dL_told_275 ?_
                refine m_iald (k := 2 + 4 * (j % 5)) dL_told_276 hB (by assumption) (ixk (iA (iC 2 (by decide)) (iM (iC 4 (by decide)) ((m5 (by omega))) (by omega)) (by omega)) (by omega)) (by omega) ?_
                refine j_iload dL_told_277 rfl ?_
                refine m_icmp_ne (tgt := 286) dL_told_279 (by decide) ((congrArg Int32.toInt (w.2.2.2.1.2.2.1 (j % 5) (by omega)).2.1)) (hpj) (fun c_279 => ?_) (fun c_279 => ?_)
                · refine j_iconst (v := 0) dL_told_286 (by decide) ?_
                  refine j_iadd dL_told_287 ?_
                  refine j_istore (L' := [(0, _), (1, _), (2, _), (3, _), (4, _), (5, _), (6, _), (7, _), (8, _), (9, _), (10, _), (11, _), (12, _), (13, _), (14, _), (15, _)]) dL_told_288 (by decide) rfl ?_
                  refine j_iinc (v := 1) (L' := [(0, _), (1, _), (2, _), (3, _), (4, _), (5, _), (6, _), (7, _), (8, _), (9, _), (10, _), (11, _), (12, _), (13, _), (14, _), (15, _)]) dL_told_290 rfl (by decide) (by decide) rfl ?_
                  refine j_goto (tgt := 221) dL_told_293 (by decide) ?_
                  refine j_sub2 (L' := [(0, _), (1, _), (2, _), (3, _), (4, _), (5, _), (6, _), (7, _), (8, _), (9, _), (10, _), (11, _), (12, _), (13, _), (14, _)]) (List.forall_mem_cons.mpr ⟨rfl, List.forall_mem_cons.mpr ⟨rfl, List.forall_mem_cons.mpr ⟨rfl, List.forall_mem_cons.mpr ⟨rfl, List.forall_mem_cons.mpr ⟨rfl, List.forall_mem_cons.mpr ⟨rfl, List.forall_mem_cons.mpr ⟨rfl, List.forall_mem_cons.mpr ⟨rfl, List.forall_mem_cons.mpr ⟨rfl, List.forall_mem_cons.mpr ⟨rfl, List.forall_mem_cons.mpr ⟨rfl, List.forall_mem_cons.mpr ⟨rfl, List.forall_mem_cons.mpr ⟨rfl, List.forall_mem_cons.mpr ⟨rfl, List.forall_mem_cons.mpr ⟨rfl, fun _ h9 => nomatch h9⟩⟩⟩⟩⟩⟩⟩⟩⟩⟩⟩⟩⟩⟩⟩) ?_
                  have e5 : j / 5 = 1 := by omega
                  have eB : usB x.1 p.toInt j ↔ (j % 5 < (sR x.1 1).1.length ∧ (atZ (sR x.1 1).2.1 ((j % 5 : Nat) : Int)).toInt = p.toInt) := by
                    unfold usB
                    rw [e5]
                    exact Iff.rfl
                  refine ih (n - 1) (by omega) (j + 1) _ _ (by omega) (ixk (k := j + 1) (iA (hi) (iC 1 (by decide)) (by omega)) (by omega)) (ixz (iA (hus) (iC 0 (by decide)) (by omega)) ?_)
                  show _ = usN x.1 p.toInt j + @ite _ (usB x.1 p.toInt j) (Classical.propDecidable _) 1 0
                  rw [if_neg (fun z9 => absurd (eB.mp z9).2 (by omega))]
                · refine j_iconst (v := 1) dL_told_282 (by decide) ?_
                  refine j_goto (tgt := 287) dL_told_283 (by decide) ?_
                  refine j_iadd dL_told_287 ?_
                  refine j_istore (L' := [(0, _), (1, _), (2, _), (3, _), (4, _), (5, _), (6, _), (7, _), (8, _), (9, _), (10, _), (11, _), (12, _), (13, _), (14, _), (15, _)]) dL_told_288 (by decide) rfl ?_
                  refine j_iinc (v := 1) (L' := [(0, _), (1, _), (2, _), (3, _), (4, _), (5, _), (6, _), (7, _), (8, _), (9, _), (10, _), (11, _), (12, _), (13, _), (14, _), (15, _)]) dL_told_290 rfl (by decide) (by decide) rfl ?_
                  refine j_goto (tgt := 221) dL_told_293 (by decide) ?_
                  refine j_sub2 (L' := [(0, _), (1, _), (2, _), (3, _), (4, _), (5, _), (6, _), (7, _), (8, _), (9, _), (10, _), (11, _), (12, _), (13, _), (14, _)]) (List.forall_mem_cons.mpr ⟨rfl, List.forall_mem_cons.mpr ⟨rfl, List.forall_mem_cons.mpr ⟨rfl, List.forall_mem_cons.mpr ⟨rfl, List.forall_mem_cons.mpr ⟨rfl, List.forall_mem_cons.mpr ⟨rfl, List.forall_mem_cons.mpr ⟨rfl, List.forall_mem_cons.mpr ⟨rfl, List.forall_mem_cons.mpr ⟨rfl, List.forall_mem_cons.mpr ⟨rfl, List.forall_mem_cons.mpr ⟨rfl, List.forall_mem_cons.mpr ⟨rfl, List.forall_mem_cons.mpr ⟨rfl, List.forall_mem_cons.mpr ⟨rfl, List.forall_mem_cons.mpr ⟨rfl, fun _ h9 => nomatch h9⟩⟩⟩⟩⟩⟩⟩⟩⟩⟩⟩⟩⟩⟩⟩) ?_
                  have e5 : j / 5 = 1 := by omega
                  have eB : usB x.1 p.toInt j ↔ (j % 5 < (sR x.1 1).1.length ∧ (atZ (sR x.1 1).2.1 ((j % 5 : Nat) : Int)).toInt = p.toInt) := by
                    unfold usB
                    rw [e5]
                    exact Iff.rfl
                  refine ih (n - 1) (by omega) (j + 1) _ _ (by omega) (ixk (k := j + 1) (iA (hi) (iC 1 (by decide)) (by omega)) (by omega)) (ixz (iA (hus) (iC 1 (by decide)) (by omega)) ?_)
                  show _ = usN x.1 p.toInt j + @ite _ (usB x.1 p.toInt j) (Classical.propDecidable _) 1 0
                  rw [if_pos (eB.mpr ⟨by omega, by omega⟩)]
          · refine j_aload_n dL_told_234 rfl ?_
            refine j_goto (tgt := 251) dL_told_235 (by decide) ?_
            refine j_astore (L' := [(0, _), (1, _), (2, _), (3, _), (4, _), (5, _), (6, _), (7, _), (8, _), (9, _), (10, _), (11, _), (12, _), (13, _), (14, _), (15, _)]) dL_told_251 (by decide) rfl ?_
            refine j_iload dL_told_253 rfl ?_
            refine j_iload dL_told_255 rfl ?_
            refine j_iconst (v := 5) dL_told_257 (by decide) ?_
            refine j_irem dL_told_258 (by decide) ?_
            refine j_aload dL_told_259 rfl ?_
            refine j_iconst (v := 0) dL_told_261 (by decide) ?_
            refine m_iald (k := 0) dL_told_262 hB (by assumption) (ixk (iC 0 (by decide)) (by omega)) (by omega) ?_
            refine m_icmp_ge (tgt := 286) dL_told_263 (by decide) ((m5 (by omega))) (w.2.2.1.1) (fun c_263 => ?_) (fun c_263 => ?_)
            · refine j_iconst (v := 0) dL_told_286 (by decide) ?_
              refine j_iadd dL_told_287 ?_
              refine j_istore (L' := [(0, _), (1, _), (2, _), (3, _), (4, _), (5, _), (6, _), (7, _), (8, _), (9, _), (10, _), (11, _), (12, _), (13, _), (14, _), (15, _)]) dL_told_288 (by decide) rfl ?_
              refine j_iinc (v := 1) (L' := [(0, _), (1, _), (2, _), (3, _), (4, _), (5, _), (6, _), (7, _), (8, _), (9, _), (10, _), (11, _), (12, _), (13, _), (14, _), (15, _)]) dL_told_290 rfl (by decide) (by decide) rfl ?_
              refine j_goto (tgt := 221) dL_told_293 (by decide) ?_
              refine j_sub2 (L' := [(0, _), (1, _), (2, _), (3, _), (4, _), (5, _), (6, _), (7, _), (8, _), (9, _), (10, _), (11, _), (12, _), (13, _), (14, _)]) (List.forall_mem_cons.mpr ⟨rfl, List.forall_mem_cons.mpr ⟨rfl, List.forall_mem_cons.mpr ⟨rfl, List.forall_mem_cons.mpr ⟨rfl, List.forall_mem_cons.mpr ⟨rfl, List.forall_mem_cons.mpr ⟨rfl, List.forall_mem_cons.mpr ⟨rfl, List.forall_mem_cons.mpr ⟨rfl, List.forall_mem_cons.mpr ⟨rfl, List.forall_mem_cons.mpr ⟨rfl, List.forall_mem_cons.mpr ⟨rfl, List.forall_mem_cons.mpr ⟨rfl, List.forall_mem_cons.mpr ⟨rfl, List.forall_mem_cons.mpr ⟨rfl, List.forall_mem_cons.mpr ⟨rfl, fun _ h9 => nomatch h9⟩⟩⟩⟩⟩⟩⟩⟩⟩⟩⟩⟩⟩⟩⟩) ?_
              have e5 : j / 5 = 0 := by omega
              have eB : usB x.1 p.toInt j ↔ (j % 5 < (sR x.1 0).1.length ∧ (atZ (sR x.1 0).2.1 ((j % 5 : Nat) : Int)).toInt = p.toInt) := by
                unfold usB
                rw [e5]
                exact Iff.rfl
              refine ih (n - 1) (by omega) (j + 1) _ _ (by omega) (ixk (k := j + 1) (iA (hi) (iC 1 (by decide)) (by omega)) (by omega)) (ixz (iA (hus) (iC 0 (by decide)) (by omega)) ?_)
              show _ = usN x.1 p.toInt j + @ite _ (usB x.1 p.toInt j) (Classical.propDecidable _) 1 0
              rw [if_neg (fun z9 => absurd (eB.mp z9).1 (by omega))]
            · refine j_aload dL_told_266 rfl ?_
              refine j_iconst (v := 2) dL_told_268 (by decide) ?_
              refine j_iconst (v := 4) dL_told_269 (by decide) ?_
              refine j_iload dL_told_270 rfl ?_
              refine j_iconst (v := 5) dL_told_272 (by decide) ?_
              refine j_irem dL_told_273 (by decide) ?_
              refine j_imul dL_told_274 ?_
              refine j_iadd dL_told_275 ?_
              refine m_iald (k := 2 + 4 * (j % 5)) dL_told_276 hB (by assumption) (ixk (iA (iC 2 (by decide)) (iM (iC 4 (by decide)) ((m5 (by omega))) (by omega)) (by omega)) (by omega)) (by omega) ?_
              refine j_iload dL_told_277 rfl ?_
              refine m_icmp_ne (tgt := 286) dL_told_279 (by decide) ((congrArg Int32.toInt (w.2.2.1.2.2.1 (j % 5) (by omega)).2.1)) (hpj) (fun c_279 => ?_) (fun c_279 => ?_)
              · refine j_iconst (v := 0) dL_told_286 (by decide) ?_
                refine j_iadd dL_told_287 ?_
                refine j_istore (L' := [(0, _), (1, _), (2, _), (3, _), (4, _), (5, _), (6, _), (7, _), (8, _), (9, _), (10, _), (11, _), (12, _), (13, _), (14, _), (15, _)]) dL_told_288 (by decide) rfl ?_
                refine j_iinc (v := 1) (L' := [(0, _), (1, _), (2, _), (3, _), (4, _), (5, _), (6, _), (7, _), (8, _), (9, _), (10, _), (11, _), (12, _), (13, _), (14, _), (15, _)]) dL_told_290 rfl (by decide) (by decide) rfl ?_
                refine j_goto (tgt := 221) dL_told_293 (by decide) ?_
                refine j_sub2 (L' := [(0, _), (1, _), (2, _), (3, _), (4, _), (5, _), (6, _), (7, _), (8, _), (9, _), (10, _), (11, _), (12, _), (13, _), (14, _)]) (List.forall_mem_cons.mpr ⟨rfl, List.forall_mem_cons.mpr ⟨rfl, List.forall_mem_cons.mpr ⟨rfl, List.forall_mem_cons.mpr ⟨rfl, List.forall_mem_cons.mpr ⟨rfl, List.forall_mem_cons.mpr ⟨rfl, List.forall_mem_cons.mpr ⟨rfl, List.forall_mem_cons.mpr ⟨rfl, List.forall_mem_cons.mpr ⟨rfl, List.forall_mem_cons.mpr ⟨rfl, List.forall_mem_cons.mpr ⟨rfl, List.forall_mem_cons.mpr ⟨rfl, List.forall_mem_cons.mpr ⟨rfl, List.forall_mem_cons.mpr ⟨rfl, List.forall_mem_cons.mpr ⟨rfl, fun _ h9 => nomatch h9⟩⟩⟩⟩⟩⟩⟩⟩⟩⟩⟩⟩⟩⟩⟩) ?_
                have e5 : j / 5 = 0 := by omega
                have eB : usB x.1 p.toInt j ↔ (j % 5 < (sR x.1 0).1.length ∧ (atZ (sR x.1 0).2.1 ((j % 5 : Nat) : Int)).toInt = p.toInt) := by
                  unfold usB
                  rw [e5]
                  exact Iff.rfl
                refine ih (n - 1) (by omega) (j + 1) _ _ (by omega) (ixk (k := j + 1) (iA (hi) (iC 1 (by decide)) (by omega)) (by omega)) (ixz (iA (hus) (iC 0 (by decide)) (by omega)) ?_)
                show _ = usN x.1 p.toInt j + @ite _ (usB x.1 p.toInt j) (Classical.propDecidable _) 1 0
                rw [if_neg (fun z9 => absurd (eB.mp z9).2 (by omega))]
              · refine j_iconst (v := 1) dL_told_282 (by decide) ?_
                refine j_goto (tgt := 287) dL_told_283 (by decide) ?_
                refine j_iadd dL_told_287 ?_
                refine j_istore (L' := [(0, _), (1, _), (2, _), (3, _), (4, _), (5, _), (6, _), (7, _), (8, _), (9, _), (10, _), (11, _), (12, _), (13, _), (14, _), (15, _)]) dL_told_288 (by decide) rfl ?_
                refine j_iinc (v := 1) (L' := [(0, _), (1, _), (2, _), (3, _), (4, _), (5, _), (6, _), (7, _), (8, _), (9, _), (10, _), (11, _), (12, _), (13, _), (14, _), (15, _)]) dL_told_290 rfl (by decide) (by decide) rfl ?_
                refine j_goto (tgt := 221) dL_told_293 (by decide) ?_
                refine j_sub2 (L' := [(0, _), (1, _), (2, _), (3, _), (4, _), (5, _), (6, _), (7, _), (8, _), (9, _), (10, _), (11, _), (12, _), (13, _), (14, _)]) (List.forall_mem_cons.mpr ⟨rfl, List.forall_mem_cons.mpr ⟨rfl, List.forall_mem_cons.mpr ⟨rfl, List.forall_mem_cons.mpr ⟨rfl, List.forall_mem_cons.mpr ⟨rfl, List.forall_mem_cons.mpr ⟨rfl, List.forall_mem_cons.mpr ⟨rfl, List.forall_mem_cons.mpr ⟨rfl, List.forall_mem_cons.mpr ⟨rfl, List.forall_mem_cons.mpr ⟨rfl, List.forall_mem_cons.mpr ⟨rfl, List.forall_mem_cons.mpr ⟨rfl, List.forall_mem_cons.mpr ⟨rfl, List.forall_mem_cons.mpr ⟨rfl, List.forall_mem_cons.mpr ⟨rfl, fun _ h9 => nomatch h9⟩⟩⟩⟩⟩⟩⟩⟩⟩⟩⟩⟩⟩⟩⟩) ?_
                have e5 : j / 5 = 0 := by omega
                have eB : usB x.1 p.toInt j ↔ (j % 5 < (sR x.1 0).1.length ∧ (atZ (sR x.1 0).2.1 ((j % 5 : Nat) : Int)).toInt = p.toInt) := by
                  unfold usB
                  rw [e5]
                  exact Iff.rfl
                refine ih (n - 1) (by omega) (j + 1) _ _ (by omega) (ixk (k := j + 1) (iA (hi) (iC 1 (by decide)) (by omega)) (by omega)) (ixz (iA (hus) (iC 1 (by decide)) (by omega)) ?_)
                show _ = usN x.1 p.toInt j + @ite _ (usB x.1 p.toInt j) (Classical.propDecidable _) 1 0
                rw [if_pos (eB.mpr ⟨by omega, by omega⟩)]
      refine j_iconst (v := 0) dL_told_215 (by decide) ?_
      refine j_istore (L' := [(0, _), (1, _), (2, _), (3, _), (4, _), (5, _), (6, _), (7, _), (8, _), (9, _), (10, _), (11, _), (12, _), (13, _)]) dL_told_216 (by decide) rfl ?_
      refine j_iconst (v := 0) dL_told_218 (by decide) ?_
      refine j_istore (L' := [(0, _), (1, _), (2, _), (3, _), (4, _), (5, _), (6, _), (7, _), (8, _), (9, _), (10, _), (11, _), (12, _), (13, _), (14, _)]) dL_told_219 (by decide) rfl ?_
      exact ul _ _ _ w hc1 hn1 15 0 0 0 (by omega) rfl rfl
  refine j_iconst (v := 0) dL_told_61 (by decide) ?_
  refine j_istore (L' := [(0, _), (1, _), (2, _), (3, _), (4, _), (5, _), (6, _), (7, _), (8, _), (9, _)]) dL_told_62 (by decide) rfl ?_
  refine j_iconst (v := 0) dL_told_64 (by decide) ?_
  refine j_istore (L' := [(0, _), (1, _), (2, _), (3, _), (4, _), (5, _), (6, _), (7, _), (8, _), (9, _), (10, _)]) dL_told_65 (by decide) rfl ?_
  refine j_iconst (v := 0) dL_told_67 (by decide) ?_
  refine j_istore (L' := [(0, _), (1, _), (2, _), (3, _), (4, _), (5, _), (6, _), (7, _), (8, _), (9, _), (10, _), (11, _)]) dL_told_68 (by decide) rfl ?_
  refine j_iconst (v := 0) dL_told_70 (by decide) ?_
  refine j_istore (L' := [(0, _), (1, _), (2, _), (3, _), (4, _), (5, _), (6, _), (7, _), (8, _), (9, _), (10, _), (11, _), (12, _)]) dL_told_71 (by decide) rfl ?_
  refine j_iload dL_told_73 rfl ?_
  refine j_iconst (v := 3) dL_told_75 (by decide) ?_
  refine m_icmp_ge (tgt := 203) dL_told_76 (by decide) (iC 0 (by decide)) (iC 3 (by decide)) (fun c_76 => ?_) (fun c_76 => ?_)
  · exact absurd c_76 (by decide)
  · refine j_iload dL_told_79 rfl ?_
    refine m_if_ne (tgt := 88) dL_told_81 (by decide) (iC 0 (by decide)) (fun c_81 => ?_) (fun c_81 => ?_)
    · exact absurd c_81 (by decide)
    · refine j_aload_n dL_told_84 rfl ?_
      refine j_goto (tgt := 100) dL_told_85 (by decide) ?_
      refine j_astore (L' := [(0, _), (1, _), (2, _), (3, _), (4, _), (5, _), (6, _), (7, _), (8, _), (9, _), (10, _), (11, _), (12, _), (13, _)]) dL_told_100 (by decide) rfl ?_
      refine seg (q + 492) (sR x.1 0) _ _ _ _ (0) (0) (0) _ hT.1 w.2.2.1 (hW.1.r 0) (by omega) (by omega) w rfl rfl rfl (by omega) (by omega) (by omega) (fun W1 b1 t1 u1 i1 w hb1 ht1 hu1 => ?_)
      refine j_iinc (v := 1) (L' := [(0, _), (1, _), (2, _), (3, _), (4, _), (5, _), (6, _), (7, _), (8, _), (9, _), (10, _), (11, _), (12, _), (13, _), (14, _)]) dL_told_197 rfl (by decide) (by decide) rfl ?_
      refine j_goto (tgt := 73) dL_told_200 (by decide) ?_
      refine j_iload dL_told_73 rfl ?_
      refine j_iconst (v := 3) dL_told_75 (by decide) ?_
      refine m_icmp_ge (tgt := 203) dL_told_76 (by decide) (iC 1 (by decide)) (iC 3 (by decide)) (fun c_76 => ?_) (fun c_76 => ?_)
      · exact absurd c_76 (by decide)
      · refine j_iload dL_told_79 rfl ?_
        refine m_if_ne (tgt := 88) dL_told_81 (by decide) (iC 1 (by decide)) (fun c_81 => ?_) (fun c_81 => ?_)
        · refine j_iload dL_told_88 rfl ?_
          refine j_iconst (v := 1) dL_told_90 (by decide) ?_
          refine m_icmp_ne (tgt := 98) dL_told_91 (by decide) (iC 1 (by decide)) (iC 1 (by decide)) (fun c_91 => ?_) (fun c_91 => ?_)
          · exact absurd c_91 (by decide)
          · refine j_aload_n dL_told_94 rfl ?_
            refine j_goto (tgt := 100) dL_told_95 (by decide) ?_
            refine j_astore (L' := [(0, _), (1, _), (2, _), (3, _), (4, _), (5, _), (6, _), (7, _), (8, _), (9, _), (10, _), (11, _), (12, _), (13, _), (14, _)]) dL_told_100 (by decide) rfl ?_
            refine j_sub2 (L' := [(0, _), (1, _), (2, _), (3, _), (4, _), (5, _), (6, _), (7, _), (8, _), (9, _), (10, _), (11, _), (12, _), (13, _)]) (List.forall_mem_cons.mpr ⟨rfl, List.forall_mem_cons.mpr ⟨rfl, List.forall_mem_cons.mpr ⟨rfl, List.forall_mem_cons.mpr ⟨rfl, List.forall_mem_cons.mpr ⟨rfl, List.forall_mem_cons.mpr ⟨rfl, List.forall_mem_cons.mpr ⟨rfl, List.forall_mem_cons.mpr ⟨rfl, List.forall_mem_cons.mpr ⟨rfl, List.forall_mem_cons.mpr ⟨rfl, List.forall_mem_cons.mpr ⟨rfl, List.forall_mem_cons.mpr ⟨rfl, List.forall_mem_cons.mpr ⟨rfl, List.forall_mem_cons.mpr ⟨rfl, fun _ h9 => nomatch h9⟩⟩⟩⟩⟩⟩⟩⟩⟩⟩⟩⟩⟩⟩) ?_
            refine seg (q + 493) (sR x.1 1) _ _ _ _ (0 + aSum (aBad1 x.1 (sR x.1 0) 0) (sR x.1 0).1.length) (0 + aBeg (sR x.1 0) 0 (sR x.1 0).1.length) (0 + aSum (aCue1 (sR x.1 0)) (sR x.1 0).1.length) _ hT.2.1 w.2.2.2.1 (hW.1.r 1) (by omega) (by omega) w hb1 ht1 hu1 (by omega) (by omega) (by omega) (fun W2 b2 t2 u2 i2 w hb2 ht2 hu2 => ?_)
            refine j_iinc (v := 1) (L' := [(0, _), (1, _), (2, _), (3, _), (4, _), (5, _), (6, _), (7, _), (8, _), (9, _), (10, _), (11, _), (12, _), (13, _), (14, _)]) dL_told_197 rfl (by decide) (by decide) rfl ?_
            refine j_goto (tgt := 73) dL_told_200 (by decide) ?_
            refine j_iload dL_told_73 rfl ?_
            refine j_iconst (v := 3) dL_told_75 (by decide) ?_
            refine m_icmp_ge (tgt := 203) dL_told_76 (by decide) (iC 2 (by decide)) (iC 3 (by decide)) (fun c_76 => ?_) (fun c_76 => ?_)
            · exact absurd c_76 (by decide)
            · refine j_iload dL_told_79 rfl ?_
              refine m_if_ne (tgt := 88) dL_told_81 (by decide) (iC 2 (by decide)) (fun c_81 => ?_) (fun c_81 => ?_)
              · refine j_iload dL_told_88 rfl ?_
                refine j_iconst (v := 1) dL_told_90 (by decide) ?_
                refine m_icmp_ne (tgt := 98) dL_told_91 (by decide) (iC 2 (by decide)) (iC 1 (by decide)) (fun c_91 => ?_) (fun c_91 => ?_)
                · refine j_aload dL_told_98 rfl ?_
                  refine j_astore (L' := [(0, _), (1, _), (2, _), (3, _), (4, _), (5, _), (6, _), (7, _), (8, _), (9, _), (10, _), (11, _), (12, _), (13, _), (14, _)]) dL_told_100 (by decide) rfl ?_
                  refine j_sub2 (L' := [(0, _), (1, _), (2, _), (3, _), (4, _), (5, _), (6, _), (7, _), (8, _), (9, _), (10, _), (11, _), (12, _), (13, _)]) (List.forall_mem_cons.mpr ⟨rfl, List.forall_mem_cons.mpr ⟨rfl, List.forall_mem_cons.mpr ⟨rfl, List.forall_mem_cons.mpr ⟨rfl, List.forall_mem_cons.mpr ⟨rfl, List.forall_mem_cons.mpr ⟨rfl, List.forall_mem_cons.mpr ⟨rfl, List.forall_mem_cons.mpr ⟨rfl, List.forall_mem_cons.mpr ⟨rfl, List.forall_mem_cons.mpr ⟨rfl, List.forall_mem_cons.mpr ⟨rfl, List.forall_mem_cons.mpr ⟨rfl, List.forall_mem_cons.mpr ⟨rfl, List.forall_mem_cons.mpr ⟨rfl, fun _ h9 => nomatch h9⟩⟩⟩⟩⟩⟩⟩⟩⟩⟩⟩⟩⟩⟩) ?_
                  refine seg (q + 494) (sR x.1 2) _ _ _ _ (0 + aSum (aBad1 x.1 (sR x.1 0) 0) (sR x.1 0).1.length + aSum (aBad1 x.1 (sR x.1 1) 0) (sR x.1 1).1.length) (0 + aBeg (sR x.1 0) 0 (sR x.1 0).1.length + aBeg (sR x.1 1) 0 (sR x.1 1).1.length) (0 + aSum (aCue1 (sR x.1 0)) (sR x.1 0).1.length + aSum (aCue1 (sR x.1 1)) (sR x.1 1).1.length) _ hT.2.2.1 w.2.2.2.2.1 (hW.1.r 2) (by omega) (by omega) w hb2 ht2 hu2 (by omega) (by omega) (by omega) (fun W3 b3 t3 u3 i3 w hb3 ht3 hu3 => ?_)
                  refine j_iinc (v := 1) (L' := [(0, _), (1, _), (2, _), (3, _), (4, _), (5, _), (6, _), (7, _), (8, _), (9, _), (10, _), (11, _), (12, _), (13, _), (14, _)]) dL_told_197 rfl (by decide) (by decide) rfl ?_
                  refine j_goto (tgt := 73) dL_told_200 (by decide) ?_
                  refine j_iload dL_told_73 rfl ?_
                  refine j_iconst (v := 3) dL_told_75 (by decide) ?_
                  refine m_icmp_ge (tgt := 203) dL_told_76 (by decide) (iC 3 (by decide)) (iC 3 (by decide)) (fun c_76 => ?_) (fun c_76 => ?_)
                  · refine j_iconst (v := 0) dL_told_203 (by decide) ?_
                    refine j_istore (L' := [(0, _), (1, _), (2, _), (3, _), (4, _), (5, _), (6, _), (7, _), (8, _), (9, _), (10, _), (11, _), (12, _), (13, _), (14, _)]) dL_told_204 (by decide) rfl ?_
                    refine j_sub2 (L' := [(0, _), (1, _), (2, _), (3, _), (4, _), (5, _), (6, _), (7, _), (8, _), (9, _), (10, _), (11, _), (12, _)]) (List.forall_mem_cons.mpr ⟨rfl, List.forall_mem_cons.mpr ⟨rfl, List.forall_mem_cons.mpr ⟨rfl, List.forall_mem_cons.mpr ⟨rfl, List.forall_mem_cons.mpr ⟨rfl, List.forall_mem_cons.mpr ⟨rfl, List.forall_mem_cons.mpr ⟨rfl, List.forall_mem_cons.mpr ⟨rfl, List.forall_mem_cons.mpr ⟨rfl, List.forall_mem_cons.mpr ⟨rfl, List.forall_mem_cons.mpr ⟨rfl, List.forall_mem_cons.mpr ⟨rfl, List.forall_mem_cons.mpr ⟨rfl, fun _ h9 => nomatch h9⟩⟩⟩⟩⟩⟩⟩⟩⟩⟩⟩⟩⟩) ?_
                    exact ploop _ _ _ hb3 ht3 hu3 x.1.2.1.1.length 0 _ _ _ _ (by omega) rfl w (by omega) (by omega)
                  · exact absurd c_76 (by decide)
                · exact absurd c_91 (by decide)
              · exact absurd c_81 (by decide)
        · exact absurd c_81 (by decide)
theorem lwV.ag {V' : jV} {q : Nat} {x : aX} (h : lwV T V q x) (ha : jAg V V' q (q + 492)) (hc : cuIs T V' q x) : lwV T V' q x := by
  obtain ⟨h2, h3, h4, h5, h6, h7⟩ := h
  exact ⟨hc, by rw [ha _ (by omega)]; exact h3, by rw [ha _ (by omega)]; exact h4, by rw [ha _ (by omega)]; exact h5, by rw [ha _ (by omega)]; exact h6, by rw [ha _ (by omega)]; exact h7⟩
set_option maxRecDepth 100000 in
set_option maxHeartbeats 4000000 in
theorem sp_L_told (hB : jB l s0 D) {q : Nat} {x : aX} {x0 : Int32} (hW : xW x) (hT : lwT T q) (w0 : lwV T V q x) : Sp l s0 D kL_told (jR 11 760 4600) 760 4600 [.ref q, .int x0, .ref (q + 492), .ref (q + 493), .ref (q + 494), .ref (q + 495), .ref (q + 496)] T V X sz (qK T X sz (fun V' => jAg V V' q (q + 492) ∧ cuIs T V' q x)) := by
  refine Sp.of pn_L_told rfl (Nat.le_of_ble_eq_true rfl) ?_
  refine j_dom (fun hdom => ?_)
  have e4 := hdom (q + 496) _ hT.2.2.2.2
  refine j_aload_n dL_told_0 rfl ?_
  refine j_iconst (v := 0) dL_told_1 (by decide) ?_
  refine j_iload_n dL_told_2 rfl ?_
  refine j_aload_n dL_told_3 rfl ?_
  refine j_aload dL_told_4 rfl ?_
  refine j_aload dL_told_6 rfl ?_
  refine j_cK dL_told_8 hB mo_L_toldReel ml_L_89 (sp_L_toldReel hB w0.1 hW (z := 0) (by decide) (by decide) hT.1 hT.2.2.2.1 hT.2.2.2.2 (by omega) (by rw [xR_0]; exact w0.2.1) w0.2.2.2.2.1 w0.2.2.2.2.2) rfl rfl ⟨rfl, rfl, by decide, by decide⟩ (Nat.le_of_ble_eq_true rfl) ⟨by decide, by decide⟩ (fun V1 sz1 z1 h1 => ?_)
  have w1 := w0.ag h1.1 h1.2
  refine m_if_eq (tgt := 48) dL_told_11 (by decide) (iC 1 (by decide)) (fun c_11 => ?_) (fun c_11 => ?_)
  · exact absurd c_11 (by decide)
  · refine j_aload_n dL_told_14 rfl ?_
    refine j_iconst (v := 1) dL_told_15 (by decide) ?_
    refine j_iload_n dL_told_16 rfl ?_
    refine j_iconst (v := 3) dL_told_17 (by decide) ?_
    refine j_ishr dL_told_18 ?_
    refine j_aload_n dL_told_19 rfl ?_
    refine j_aload dL_told_20 rfl ?_
    refine j_aload dL_told_22 rfl ?_
    refine j_cK dL_told_24 hB mo_L_toldReel ml_L_89 (sp_L_toldReel hB w1.1 hW (z := 1) (by decide) (by decide) hT.2.1 hT.2.2.2.1 hT.2.2.2.2 (by omega) (by rw [xR_1]; exact w1.2.2.1) w1.2.2.2.2.1 w1.2.2.2.2.2) rfl rfl ⟨rfl, rfl, by decide, by decide⟩ (Nat.le_of_ble_eq_true rfl) ⟨by decide, by decide⟩ (fun V2 sz2 z2 h2 => ?_)
    have w2 := w1.ag h2.1 h2.2
    refine m_if_eq (tgt := 48) dL_told_27 (by decide) (iC 1 (by decide)) (fun c_27 => ?_) (fun c_27 => ?_)
    · exact absurd c_27 (by decide)
    · refine j_aload_n dL_told_30 rfl ?_
      refine j_iconst (v := 2) dL_told_31 (by decide) ?_
      refine j_iload_n dL_told_32 rfl ?_
      refine j_bipush (v := 6) dL_told_33 (by decide) ?_
      refine j_ishr dL_told_35 ?_
      refine j_aload dL_told_36 rfl ?_
      refine j_aload dL_told_38 rfl ?_
      refine j_aload dL_told_40 rfl ?_
      refine j_cK dL_told_42 hB mo_L_toldReel ml_L_89 (sp_L_toldReel hB w2.1 hW (z := 2) (by decide) (by decide) hT.2.2.1 hT.2.2.2.1 hT.2.2.2.2 (by omega) (by rw [xR_2]; exact w2.2.2.2.1) w2.2.2.2.2.1 w2.2.2.2.2.2) rfl rfl ⟨rfl, rfl, by decide, by decide⟩ (Nat.le_of_ble_eq_true rfl) ⟨by decide, by decide⟩ (fun V3 sz3 z3 h3 => ?_)
      have w3 := w2.ag h3.1 h3.2
      refine m_if_ne (tgt := 50) dL_told_45 (by decide) (iC 1 (by decide)) (fun c_45 => ?_) (fun c_45 => ?_)
      · refine j_bipush (v := 10) dL_told_50 (by decide) ?_
        refine j_newi (N := 10) dL_told_52 hB ac_int (by decide) (by decide) (by first | decide | omega) (by first | decide | omega) ?_
        refine j_astore (L' := [(0, _), (1, _), (2, _), (3, _), (4, _), (5, _), (6, _), (7, _)]) dL_told_54 (by decide) rfl ?_
        refine j_iconst (v := 5) dL_told_56 (by decide) ?_
        refine j_newi (N := 5) dL_told_57 hB ac_int (by decide) (by decide) (by first | decide | omega) (by first | decide | omega) ?_
        refine j_astore (L' := [(0, _), (1, _), (2, _), (3, _), (4, _), (5, _), (6, _), (7, _), (8, _)]) dL_told_59 (by decide) rfl ?_
        refine j_abT (fun T2 hT2 => ?_)
        refine j_abV (fun V4 hV4 => ?_)
        have t1 : ∀ a, a < sz → T2 a = T a := fun a ha => by rw [hT2, jup_ne (by omega), jup_ne (by omega)]
        have v1 : ∀ a, a < sz → V4 a = V3 a := fun a ha => by rw [hV4, jz_ne (by omega), jz_ne (by omega)]
        have tc : T2 sz3 = some (kI 10) := by rw [hT2, jup_ne (by omega)]; exact jup_eq
        have te : T2 (sz3 + 1) = some (kI 5) := by rw [hT2]; exact jup_eq
        have ag3 : jAg V V3 q (q + 492) := (h1.1.tr h2.1).tr h3.1
        refine td_body hB (V := V4) hW ⟨(t1 _ (by omega)).trans hT.1, (t1 _ (by omega)).trans hT.2.1, (t1 _ (by omega)).trans hT.2.2.1, (t1 _ (by omega)).trans hT.2.2.2.1, (t1 _ (by omega)).trans hT.2.2.2.2⟩ tc te (by omega) (by omega) ⟨fun _ _ _ _ => rfl, w3.1.cg (fun a ha hb => ⟨t1 a (by omega), v1 a (by omega)⟩), by rw [v1 _ (by omega)]; exact w3.2.1, by rw [v1 _ (by omega)]; exact w3.2.2.1, by rw [v1 _ (by omega)]; exact w3.2.2.2.1, by rw [v1 _ (by omega)]; exact w3.2.2.2.2.1, by rw [v1 _ (by omega)]; exact w3.2.2.2.2.2⟩ (fun V' c' n' L w hc hn => ?_)
        refine j_fgt (T' := T) (V' := fun b => if b < sz then V' b else V b) (fun b k hb => ⟨(t1 b (hdom b k hb)).trans hb, if_pos (hdom b k hb)⟩) ?_
        refine j_iret dL_told_446 rfl (by decide) hc hn ⟨rfl, rfl, rfl, by omega, fun b hb => ?_, w.2.1.cg (fun a ha hb => ⟨(t1 a (by omega)).symm, if_pos (by omega)⟩)⟩
        show (if b < sz then V' b else V b) = V b
        by_cases g : b < sz
        · rw [if_pos g, w.1 b hb (by omega) (by omega), v1 b g]
          exact ag3 b hb
        · rw [if_neg g]
      · exact absurd c_45 (by decide)
end JLL
