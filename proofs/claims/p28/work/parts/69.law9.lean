/-! THE LAW: what is done, and what the law's rows hold behind it -/
theorem sR_sSet {s : aS} {z z' : Nat} {r : aR} (h : z < 3) (h' : z' < 3) : sR (sSet s (z : Int) r) (z' : Int) = if z' = z then r else sR s (z' : Int) := by
  rcases (show z = 0 ∨ z = 1 ∨ z = 2 by omega) with rfl | rfl | rfl <;> rcases (show z' = 0 ∨ z' = 1 ∨ z' = 2 by omega) with rfl | rfl | rfl <;> rfl
theorem fitN_2 {s : aS} {z : Int} : ∀ k : Nat, (fitN s z k).1.2 = s.2
  | 0 => rfl
  | k + 1 => by
    unfold fitN
    split
    · exact fitN_2 k
    · show (sSet (fitN s z k).1 z _).2 = _
      rw [sSet_2]; exact fitN_2 k
theorem fitN_o {s : aS} {z z' : Nat} (h : z < 3) (h' : z' < 3) (hne : ¬ z' = z) : ∀ k : Nat, sR (fitN s (z : Int) k).1 (z' : Int) = sR s (z' : Int)
  | 0 => rfl
  | k + 1 => by
    unfold fitN
    split
    · exact fitN_o h h' hne k
    · show sR (sSet (fitN s (z : Int) k).1 (z : Int) _) (z' : Int) = _
      rw [sR_sSet h h', if_neg hne]
      exact fitN_o h h' hne k
theorem xPush_1 {x : aX} : 1 ≤ (xPush x).length := by
  unfold xPush
  rw [List.length_append]
  show 1 ≤ _ + 1
  omega
theorem zPa_2 {Z : Nat → Int32} {s s' : aS} (h : zPa Z s) (e : s'.2 = s.2) : zPa Z s' := by
  unfold zPa at *
  rw [e]; exact h
theorem zDd_2 {Z : Nat → Int32} {s s' : aS} (h : zDd Z s) (e : s'.2 = s.2) : zDd Z s' := by
  unfold zDd at *
  rw [e]; exact h
theorem lwV.row {T : jT} {V : jV} {q z : Nat} {x : aX} (h : lwV T V q x) (z3 : z < 3) : zRl (V (q + 492 + z)) (sR x.1 (z : Int)) := by
  rcases (show z = 0 ∨ z = 1 ∨ z = 2 by omega) with rfl | rfl | rfl
  · exact h.2.1
  · exact h.2.2.1
  · exact h.2.2.2.1
theorem lwV_row {T : jT} {V V3 V4 : jV} {q z ra : Nat} {x x' : aX} (w : lwV T V q x) (hra : ra = q + 492 + z) (z3 : z < 3) (h1 : ∀ z' : Nat, z' < 3 → ¬ z' = z → sR x'.1 (z' : Int) = sR x.1 (z' : Int)) (h2 : x'.1.2 = x.1.2) (hrow : zRl (V3 ra) (sR x'.1 (z : Int))) (ef : ∀ b, ¬ b = ra → q + 492 ≤ b → b < q + 497 → V3 b = V b) (a : jAg V3 V4 q (q + 492)) (hc : cuIs T V4 q x') : lwV T V4 q x' := by
  have key : ∀ z' : Nat, z' < 3 → zRl (V4 (q + 492 + z')) (sR x'.1 (z' : Int)) := by
    intro z' h'
    rw [a _ (Or.inr (by omega))]
    by_cases e : z' = z
    · rw [e, ← hra]; exact hrow
    · rw [ef _ (by omega) (by omega) (by omega), h1 z' h' e]
      exact w.row h'
  have kp := w.2.2.2.2.1
  have kd := w.2.2.2.2.2
  refine ⟨hc, key 0 (by omega), key 1 (by omega), key 2 (by omega), ?_, ?_⟩
  · rw [a _ (Or.inr (by omega)), ef _ (by omega) (by omega) (by omega)]; exact zPa_2 kp h2
  · rw [a _ (Or.inr (by omega)), ef _ (by omega) (by omega) (by omega)]; exact zDd_2 kd h2
theorem lwV_set {T : jT} {V V3 V4 : jV} {q z ra : Nat} {x : aX} {r : Int32} {rr : aR} (w : lwV T V q x) (hra : ra = q + 492 + z) (z3 : z < 3) (hr : r.toInt = (z : Int)) (hrow : zRl (V3 ra) rr) (ef : ∀ b, ¬ b = ra → q + 492 ≤ b → b < q + 497 → V3 b = V b) (a : jAg V3 V4 q (q + 492)) (hc : cuIs T V4 q (xSet x r rr)) : lwV T V4 q (xSet x r rr) := by
  have e0 : (xSet x r rr).1 = sSet x.1 (z : Int) rr := by unfold xSet; rw [hr]; rfl
  refine lwV_row w hra z3 (fun z' h' hne => ?_) ?_ ?_ ef a hc
  · rw [e0, sR_sSet z3 h', if_neg hne]
  · rw [e0]; exact sSet_2
  · rw [e0, sR_set]; exact hrow
theorem lwV_d {T : jT} {V V3 V4 : jV} {q : Nat} {x x' : aX} (w : lwV T V q x) (h1 : x'.1.1 = x.1.1) (hp : zPa (V3 (q + 495)) x'.1) (hd : zDd (V3 (q + 496)) x'.1) (ef : ∀ b, ¬ b = q + 495 → ¬ b = q + 496 → q + 492 ≤ b → b < q + 497 → V3 b = V b) (a : jAg V3 V4 q (q + 492)) (hc : cuIs T V4 q x') : lwV T V4 q x' := by
  have e : ∀ z : Int, sR x'.1 z = sR x.1 z := fun z => by unfold sR; rw [h1]
  refine ⟨hc, ?_, ?_, ?_, ?_, ?_⟩
  · rw [a _ (Or.inr (by omega)), ef _ (by omega) (by omega) (by omega) (by omega), e]; exact w.2.1
  · rw [a _ (Or.inr (by omega)), ef _ (by omega) (by omega) (by omega) (by omega), e]; exact w.2.2.1
  · rw [a _ (Or.inr (by omega)), ef _ (by omega) (by omega) (by omega) (by omega), e]; exact w.2.2.2.1
  · rw [a _ (Or.inr (by omega))]; exact hp
  · rw [a _ (Or.inr (by omega))]; exact hd
theorem e_add0 {x : aX} {r len : Int32} {z : Nat} (hz : r.toInt = (z : Int)) (z3 : z < 3) (l0 : 1 ≤ len.toInt) (l1 : len.toInt ≤ 900) (h : (xR x r).1.length < 10) : e_add x r len = 0 := by
  unfold e_add
  rw [if_neg (fun z9 => z9 ⟨by omega, by omega⟩), if_neg (fun z9 => z9 ⟨l0, l1⟩), if_neg (by omega)]
theorem e_rem0 {x : aX} {r s : Int32} {z kk : Nat} (hz : r.toInt = (z : Int)) (z3 : z < 3) (hs : s.toInt = (kk : Int)) (hk : kk < (xR x r).1.length) : e_rem x r s = 0 := by
  unfold e_rem
  rw [if_neg (fun z9 => z9 ⟨⟨by omega, by omega⟩, by omega, by omega⟩)]
theorem e_crank0 {x : aX} {r f v : Int32} {z : Nat} (hz : r.toInt = (z : Int)) (z3 : z < 3) (f0 : 0 ≤ f.toInt) (f1 : f.toInt ≤ 9000) (v0 : 10 ≤ v.toInt) (v1 : v.toInt ≤ 30) (h : (xR x r).2.2.2.2.1.length < 6 ∨ pHas (xR x r).2.2.2.2.1 f) : e_crank x r f v = 0 := by
  unfold e_crank
  rw [if_neg (fun z9 => z9 ⟨by omega, by omega⟩), if_neg (fun z9 => z9 ⟨⟨f0, f1⟩, v0, v1⟩), if_neg (fun z9 => z9 h)]
theorem e_spl0 {x : aX} {r f v : Int32} {z : Nat} (hz : r.toInt = (z : Int)) (z3 : z < 3) (f0 : 0 ≤ f.toInt) (f1 : f.toInt ≤ 9000) (v0 : 0 ≤ v.toInt) (v1 : v.toInt ≤ 50) (h : v = 0 ∨ (xR x r).2.2.2.2.2.length < 6 ∨ pHas (xR x r).2.2.2.2.2 f) : e_spl x r f v = 0 := by
  unfold e_spl
  rw [if_neg (fun z9 => z9 ⟨by omega, by omega⟩), if_neg (fun z9 => z9 ⟨⟨f0, f1⟩, v0, v1⟩), if_neg (fun z9 => z9.2 (h.resolve_left z9.1))]
theorem e_pc0 {x : aX} {o s c : Int32} (o0 : 0 ≤ o.toInt) (o1 : o.toInt ≤ 600) (s0 : 10 ≤ s.toInt) (s1 : s.toInt ≤ 1200) (c0 : 0 ≤ c.toInt) (c1 : c.toInt ≤ 600) (h : x.1.2.1.1.length < 8) : e_pc x o s c = 0 := by
  unfold e_pc
  rw [if_neg (fun z9 => z9 ⟨⟨o0, o1⟩, ⟨s0, s1⟩, c0, c1⟩), if_neg (by omega)]
theorem e_cue0 {x : aX} {r s p k a : Int32} {z kk : Nat} (hz : r.toInt = (z : Int)) (z3 : z < 3) (hs : s.toInt = (kk : Int)) (hk : kk < (xR x r).1.length) (hp : p = NN ∨ (0 ≤ p.toInt ∧ p.toInt < x.1.2.1.1.length)) (k0 : 1 ≤ k.toInt) (k1 : k.toInt ≤ 9) (a0 : 80 ≤ a.toInt) (a1 : a.toInt ≤ 120) : e_cue x r s p k a = 0 := by
  unfold e_cue
  rw [if_neg (fun z9 => z9 ⟨⟨⟨by omega, by omega⟩, by omega, by omega⟩, hp⟩), if_neg (fun z9 => z9 ⟨⟨k0, k1⟩, a0, a1⟩)]
theorem e_set0 {t l : Int32} (t0 : 0 ≤ t.toInt) (t1 : t.toInt ≤ 600) (l0 : 0 ≤ l.toInt) (l1 : l.toInt ≤ 20) : e_set t l = 0 := by
  unfold e_set
  rw [if_neg (fun z9 => z9 ⟨⟨t0, t1⟩, l0, l1⟩)]
section JLL
variable {l : Launch} {s0 : State} {D : jD} {T : jT} {V : jV} {X : jX} {sz : Nat}
set_option maxRecDepth 100000 in
set_option maxHeartbeats 4000000 in
theorem ac_cue (hB : jB l s0 D) {q ca ea z ra kk : Nat} {x : aX} {a0 x0 y0 r0 ft kv : Int32} {Q : jQ} (hT : lwT T q) (w : lwV T V q x) (hW : xW x) (hra : ra = q + 492 + z) (z3 : z < 3) (hz0 : r0.toInt = (z : Int)) (hr : T ra = some (kI 60)) (hz : zRl (V ra) (xR x r0)) (hca : T ca = some (kI 10)) (hea : T ea = some (kI 5)) (hd : ca ≠ ea) (dc : q + 497 ≤ ca ∧ q + 497 ≤ ea) (hkv : kv.toInt = (kk : Int)) (hk : kk < (xR x r0).1.length)
  (K : ∀ (pcr : Nat) (d : decode cL_act pcr = .ok (.ireturn, 1)) (V' : jV) (c' n' : Nat) (L : List (Nat × Value)) (x' : aX), lwV T V' q x' → xW x' → 1 ≤ x'.2.1.length → c' ≤ 10 → n' ≤ 60 → J l s0 D kL_act (jR 9 10 60) 10 60 Q pcr L [.int 1] T V' X sz c' n') : J l s0 D kL_act (jR 9 10 60) 10 60 Q 563 [(0, .ref q), (1, .int a0), (2, .int x0), (3, .int y0), (4, .ref (q + 492)), (5, .ref (q + 493)), (6, .ref (q + 494)), (7, .ref (q + 495)), (8, .ref (q + 496)), (9, .int r0), (10, .ref ra), (11, .int ft), (12, .int kv), (13, .ref ca), (14, .ref ea)] [] T V X sz 2 15 := by
  have hrl : rlW x.1 (xR x r0) := hW.r r0
  have hp : pcW x.1 := hW.1.1
  have h5 := hz.2.1
  have hTp := hT.2.2.2.1
  have hTd := hT.2.2.2.2
  obtain ⟨dc1, dc2⟩ := dc
  have mid : ∀ pv : Int32, (pv = NN ∨ (0 ≤ pv.toInt ∧ pv.toInt < x.1.2.1.1.length)) → J l s0 D kL_act (jR 9 10 60) 10 60 Q 594 [(0, .ref q), (1, .int a0), (2, .int x0), (3, .int y0), (4, .ref (q + 492)), (5, .ref (q + 493)), (6, .ref (q + 494)), (7, .ref (q + 495)), (8, .ref (q + 496)), (9, .int r0), (10, .ref ra), (11, .int ft), (12, .int kv), (13, .ref ca), (14, .ref ea)] [.int pv] T V X sz 2 15 := by
    intro pv hpv
    refine j_istore (L' := [(0, _), (1, _), (2, _), (3, _), (4, _), (5, _), (6, _), (7, _), (8, _), (9, _), (10, _), (11, _), (12, _), (13, _), (14, _), (15, _)]) dL_act_594 (by decide) rfl ?_
    refine j_iconst (v := 1) dL_act_596 (by decide) ?_
    refine j_iload_n dL_act_597 rfl ?_
    refine j_bipush (v := 7) dL_act_598 (by decide) ?_
    refine j_ishr dL_act_600 ?_
    refine j_bipush (v := 9) dL_act_601 (by decide) ?_
    refine j_cSi dL_act_603 hB mo_L_at ml_L_71 (sp_L_at hB (by decide)) rfl rfl ⟨rfl, rfl, by decide, by decide⟩ (Nat.le_of_ble_eq_true rfl) ⟨by decide, by decide⟩ (fun r_603 V_603 h_603 => ?_)
    obtain ⟨rfl, f603, g603⟩ := h_603
    rw [show (9 : Int32).toInt = 9 by decide] at g603
    refine j_iadd dL_act_606 ?_
    refine j_istore (L' := [(0, _), (1, _), (2, _), (3, _), (4, _), (5, _), (6, _), (7, _), (8, _), (9, _), (10, _), (11, _), (12, _), (13, _), (14, _), (15, _), (16, _)]) dL_act_607 (by decide) rfl ?_
    refine j_bipush (v := 80) dL_act_609 (by decide) ?_
    refine j_iload_n dL_act_611 rfl ?_
    refine j_bipush (v := 6) dL_act_612 (by decide) ?_
    refine j_ishr dL_act_614 ?_
    refine j_bipush (v := 41) dL_act_615 (by decide) ?_
    refine j_cSi dL_act_617 hB mo_L_at ml_L_71 (sp_L_at hB (by decide)) rfl rfl ⟨rfl, rfl, by decide, by decide⟩ (Nat.le_of_ble_eq_true rfl) ⟨by decide, by decide⟩ (fun r_617 V_617 h_617 => ?_)
    obtain ⟨rfl, f617, g617⟩ := h_617
    rw [show (41 : Int32).toInt = 41 by decide] at g617
    refine j_iadd dL_act_620 ?_
    refine j_istore (L' := [(0, _), (1, _), (2, _), (3, _), (4, _), (5, _), (6, _), (7, _), (8, _), (9, _), (10, _), (11, _), (12, _), (13, _), (14, _), (15, _), (16, _), (17, _)]) dL_act_621 (by decide) rfl ?_
    have hst : isI (1 + r_603) (1 + r_603.toInt) := iA (iC 1 (by decide)) iV (by omega)
    have hpa : isI (80 + r_617) (80 + r_617.toInt) := iA (iC 80 (by decide)) iV (by omega)
    have hsti : (1 + r_603).toInt = 1 + r_603.toInt := hst
    have hpai : (80 + r_617).toInt = 80 + r_617.toInt := hpa
    refine j_aload dL_act_623 rfl ?_
    refine j_iconst (v := 2) dL_act_625 (by decide) ?_
    refine j_iconst (v := 4) dL_act_626 (by decide) ?_
    refine j_iload dL_act_627 rfl ?_
    refine j_imul dL_act_629 ?_
    refine j_iadd dL_act_630 ?_
    refine j_iload dL_act_631 rfl ?_
    refine m_iast (k := 2 + 4 * kk) dL_act_633 hB (by assumption) (ixk (iA (iC 2 (by decide)) (iM (iC 4 (by decide)) (hkv) (by omega)) (by omega)) (by omega)) (by omega) ?_
    refine j_aload dL_act_634 rfl ?_
    refine j_iconst (v := 3) dL_act_636 (by decide) ?_
    refine j_iconst (v := 4) dL_act_637 (by decide) ?_
    refine j_iload dL_act_638 rfl ?_
    refine j_imul dL_act_640 ?_
    refine j_iadd dL_act_641 ?_
    refine j_iload dL_act_642 rfl ?_
    refine m_iast (k := 3 + 4 * kk) dL_act_644 hB (by assumption) (ixk (iA (iC 3 (by decide)) (iM (iC 4 (by decide)) (hkv) (by omega)) (by omega)) (by omega)) (by omega) ?_
    refine j_aload dL_act_645 rfl ?_
    refine j_iconst (v := 4) dL_act_647 (by decide) ?_
    refine j_iconst (v := 4) dL_act_648 (by decide) ?_
    refine j_iload dL_act_649 rfl ?_
    refine j_imul dL_act_651 ?_
    refine j_iadd dL_act_652 ?_
    refine j_iload dL_act_653 rfl ?_
    refine m_iast (k := 4 + 4 * kk) dL_act_655 hB (by assumption) (ixk (iA (iC 4 (by decide)) (iM (iC 4 (by decide)) (hkv) (by omega)) (by omega)) (by omega)) (by omega) ?_
    generalize hV3 : jset (jset (jset V ra (2 + 4 * kk) pv) ra (3 + 4 * kk) (1 + r_603)) ra (4 + 4 * kk) (80 + r_617) = V3
    have ef : ∀ b, ¬ b = ra → V3 b = V b := fun b h => by rw [← hV3, jset_row h, jset_row h, jset_row h]
    have he := e_cue0 (x := x) (r := r0) (s := kv) (p := pv) (k := (1 + r_603)) (a := (80 + r_617)) hz0 z3 hkv hk hpv (by omega) (by omega) (by omega) (by omega)
    have hWx := xw_cue hW he
    obtain ⟨rr, hrr⟩ : ∃ rr : aR, rr = (if pv = NN then rCue (xR x r0) kv.toInt NN 0 0 else rCue (xR x r0) kv.toInt pv (1 + r_603) (80 + r_617)) := ⟨_, rfl⟩
    have hxx : (s_cue x r0 kv pv (1 + r_603) (80 + r_617)) = xSet x r0 rr := by rw [hrr]; rfl
    have hxr : xR (s_cue x r0 kv pv (1 + r_603) (80 + r_617)) r0 = rr := by rw [hxx]; exact sR_set
    have hrl2 : rlW (s_cue x r0 kv pv (1 + r_603) (80 + r_617)).1 rr := by rw [← hxr]; exact hWx.r r0
    have h22 : (s_cue x r0 kv pv (1 + r_603) (80 + r_617)).1.2 = x.1.2 := by rw [hxx]; exact sSet_2
    have hz3 : zRl (V3 ra) rr := by
      have e2 : V3 ra (2 + 4 * kk) = pv := by rw [← hV3, jset_ne (Or.inr (by omega)), jset_ne (Or.inr (by omega)), jset_eq]
      have e3 : V3 ra (3 + 4 * kk) = (1 + r_603) := by rw [← hV3, jset_ne (Or.inr (by omega)), jset_eq]
      have e4 : V3 ra (4 + 4 * kk) = (80 + r_617) := by rw [← hV3, jset_eq]
      have e5 : ∀ t, ¬ t = 2 + 4 * kk → ¬ t = 3 + 4 * kk → ¬ t = 4 + 4 * kk → V3 ra t = V ra t := fun t h1 h2 h3 => by rw [← hV3, jset_ne (Or.inr h3), jset_ne (Or.inr h2), jset_ne (Or.inr h1)]
      rw [hrr, hkv]
      by_cases e : pv = NN
      · rw [if_pos e]
        exact hz.cue hrl hk (e2.trans e) (fun h => absurd rfl h) (b3 := 0) (b4 := 0) (fun h => absurd rfl h) e5
      · rw [if_neg e]
        exact hz.cue hrl hk e2 (fun _ => ⟨e3, e4⟩) (fun _ => ⟨rfl, rfl⟩) e5
    have hpz3 : zPa (V3 (q + 495)) (s_cue x r0 kv pv (1 + r_603) (80 + r_617)).1 := by rw [ef _ (by omega)]; exact zPa_2 w.2.2.2.2.1 h22
    have hl2 : rr.1.length = (xR x r0).1.length := by rw [hrr]; split <;> rfl
    refine j_iconst (v := 0) dL_act_656 (by decide) ?_
    refine j_aload dL_act_657 rfl ?_
    refine j_aload dL_act_659 rfl ?_
    refine j_aload dL_act_661 rfl ?_
    refine j_aload dL_act_663 rfl ?_
    refine j_cSu dL_act_665 hB mo_L_lay ml_L_49 (sp_L_lay hB (s := (s_cue x r0 kv pv (1 + r_603) (80 + r_617)).1) hr hTp hca hea (by omega) hz3 hpz3 hWx.1.1 hrl2 (iC 0 (by decide)) (Or.inl rfl) (by decide)) rfl rfl ⟨rfl, rfl, by decide, by decide⟩ (Nat.le_of_ble_eq_true rfl) ⟨by decide, by decide⟩ (fun V_665 h_665 => ?_)
    obtain ⟨hF, hO⟩ := h_665
    have cu4 : cuIs T V_665 q x := w.1.cg (fun a ha hb => ⟨rfl, (hF a (by omega) (by omega)).trans (ef a (by omega))⟩)
    have hz4 : zRl (V_665 ra) rr := by rw [hF ra (by omega) (by omega)]; exact hz3
    refine j_aload_n dL_act_668 rfl ?_
    refine j_iload dL_act_669 rfl ?_
    refine j_iload dL_act_671 rfl ?_
    refine j_iload dL_act_673 rfl ?_
    refine j_iload dL_act_675 rfl ?_
    refine j_iload dL_act_677 rfl ?_
    refine j_cCi dL_act_679 hB mo_X7_setCue ml_L_134 (sp_X7_setCue hB cu4 hW) (he) cu4.k rfl rfl rfl rfl ⟨rfl, rfl, by decide, by decide⟩ (Nat.le_of_ble_eq_true rfl) ⟨by decide, by decide⟩ (fun y_679 V_679 h_679 a_679 g_679 => ?_)
    have hz5 : zRl (V_679 ra) rr := by rw [a_679 ra (Or.inr (by omega))]; exact hz4
    have hO5 := hO.cg (a_679 ca (Or.inr (by omega))) (a_679 ea (Or.inr (by omega)))
    have hv5 : v_cue x r0 kv pv (1 + r_603) (80 + r_617) = aDrift (s_cue x r0 kv pv (1 + r_603) (80 + r_617)).1 rr 0 kk := by
      unfold v_cue
      by_cases e : pv = NN
      · rw [if_pos e]
        refine (cueI_f (fun hc => hc ?_)).symm
        rw [hrr, if_pos e, hkv]
        show atZ (setZ (xR x r0).2.1 kk NN) kk = _
        have w1 := hrl.1
        rw [atZ_set (by omega) (by omega), if_pos rfl]
      · rw [if_neg e, hxx, hrr, if_neg e, hkv]
        rfl
    refine j_iload dL_act_682 rfl ?_
    refine j_aload dL_act_684 rfl ?_
    refine j_aload dL_act_686 rfl ?_
    refine j_aload dL_act_688 rfl ?_
    refine j_cSi dL_act_690 hB mo_L_drift ml_L_33 (sp_L_drift hB hr hca hea hz5 hO5 hWx.1.1 hrl2 (Or.inl rfl) hkv (by omega)) rfl rfl ⟨rfl, rfl, by decide, by decide⟩ (Nat.le_of_ble_eq_true rfl) ⟨by decide, by decide⟩ (fun r_690 V_690 h_690 => ?_)
    obtain ⟨rfl, h_690⟩ := h_690
    refine m_icmp_ne (tgt := 700) dL_act_693 (by decide) (h_679) (h_690) (fun c_693 => ?_) (fun c_693 => ?_)
    · exact absurd hv5 c_693
    · refine j_iconst (v := 1) dL_act_696 (by decide) ?_
      refine j_goto (tgt := 701) dL_act_697 (by decide) ?_
      refine K _ dL_act_701 _ _ _ _ (s_cue x r0 kv pv (1 + r_603) (80 + r_617)) ?_ hWx xPush_1 (by decide) (by decide)
      rw [hxx] at g_679 ⊢
      exact lwV_set w hra z3 hz0 hz4 (fun b h1 h2 h3 => (hF b (by omega) (by omega)).trans (ef b h1)) a_679 g_679
  refine j_aload dL_act_563 rfl ?_
  refine j_iconst (v := 0) dL_act_565 (by decide) ?_
  refine m_iald (k := 0) dL_act_566 hB (by assumption) (ixk (iC 0 (by decide)) (by omega)) (by omega) ?_
  refine m_if_eq (tgt := 579) dL_act_567 (by decide) (w.2.2.2.2.2.1) (fun c_567 => ?_) (fun c_567 => ?_)
  · refine j_ldc dL_act_579 hB kc_L_21 ?_
    refine j_goto (tgt := 594) dL_act_581 (by decide) ?_
    exact mid _ (Or.inl rfl)
  · refine j_iload_n dL_act_570 rfl ?_
    refine j_bipush (v := 7) dL_act_571 (by decide) ?_
    refine j_cSi dL_act_573 hB mo_L_at ml_L_71 (sp_L_at hB (by decide)) rfl rfl ⟨rfl, rfl, by decide, by decide⟩ (Nat.le_of_ble_eq_true rfl) ⟨by decide, by decide⟩ (fun r_573 V_573 h_573 => ?_)
    obtain ⟨rfl, f573, g573⟩ := h_573
    rw [show (7 : Int32).toInt = 7 by decide] at g573
    refine m_if_ne (tgt := 584) dL_act_576 (by decide) (iV) (fun c_576 => ?_) (fun c_576 => ?_)
    · refine j_iload_n dL_act_584 rfl ?_
      refine j_iconst (v := 3) dL_act_585 (by decide) ?_
      refine j_ishr dL_act_586 ?_
      refine j_aload dL_act_587 rfl ?_
      refine j_iconst (v := 0) dL_act_589 (by decide) ?_
      refine m_iald (k := 0) dL_act_590 hB (by assumption) (ixk (iC 0 (by decide)) (by omega)) (by omega) ?_
      refine j_cSi dL_act_591 hB mo_L_at ml_L_71 (sp_L_at hB (by have h9 : (V (q + 496) 0).toInt = _ := w.2.2.2.2.2.1; omega)) rfl rfl ⟨rfl, rfl, by decide, by decide⟩ (Nat.le_of_ble_eq_true rfl) ⟨by decide, by decide⟩ (fun r_591 V_591 h_591 => ?_)
      obtain ⟨rfl, f591, g591⟩ := h_591
      have h9 : (V (q + 496) 0).toInt = _ := w.2.2.2.2.2.1
      exact mid _ (Or.inr ⟨f591, by omega⟩)
    · refine j_ldc dL_act_579 hB kc_L_21 ?_
      refine j_goto (tgt := 594) dL_act_581 (by decide) ?_
      exact mid _ (Or.inl rfl)
set_option maxRecDepth 100000 in
set_option maxHeartbeats 4000000 in
theorem ac_rem (hB : jB l s0 D) {q ca ea z ra kk : Nat} {x : aX} {a0 x0 y0 r0 ft kv : Int32} {Q : jQ} (hT : lwT T q) (w : lwV T V q x) (hW : xW x) (hra : ra = q + 492 + z) (z3 : z < 3) (hz0 : r0.toInt = (z : Int)) (hr : T ra = some (kI 60)) (hz : zRl (V ra) (xR x r0)) (hca : T ca = some (kI 10)) (hea : T ea = some (kI 5)) (hd : ca ≠ ea) (dc : q + 497 ≤ ca ∧ q + 497 ≤ ea) (hkv : kv.toInt = (kk : Int)) (hk : kk < (xR x r0).1.length)
  (K : ∀ (pcr : Nat) (d : decode cL_act pcr = .ok (.ireturn, 1)) (V' : jV) (c' n' : Nat) (L : List (Nat × Value)) (x' : aX), lwV T V' q x' → xW x' → 1 ≤ x'.2.1.length → c' ≤ 10 → n' ≤ 60 → J l s0 D kL_act (jR 9 10 60) 10 60 Q pcr L [.int 1] T V' X sz c' n') : J l s0 D kL_act (jR 9 10 60) 10 60 Q 708 [(0, .ref q), (1, .int a0), (2, .int x0), (3, .int y0), (4, .ref (q + 492)), (5, .ref (q + 493)), (6, .ref (q + 494)), (7, .ref (q + 495)), (8, .ref (q + 496)), (9, .int r0), (10, .ref ra), (11, .int ft), (12, .int kv), (13, .ref ca), (14, .ref ea)] [] T V X sz 2 15 := by
  have hrl : rlW x.1 (xR x r0) := hW.r r0
  have hp : pcW x.1 := hW.1.1
  have h5 := hz.2.1
  have hTp := hT.2.2.2.1
  have hTd := hT.2.2.2.2
  obtain ⟨dc1, dc2⟩ := dc
  have lps : ∀ (N t : Nat) (i : Int32) (V3 : jV), N + t = 1 + 4 * ((xR x r0).1.length - 1) → i.toInt = (t : Int) → 1 + 4 * kk ≤ t → (∀ u, ¬ u = 0 → (u < 1 + 4 * kk ∨ t ≤ u) → V3 ra u = V ra u) → (∀ u, 1 + 4 * kk ≤ u → u < t → V3 ra u = V ra (u + 4)) → isI (V3 ra 0) (((xR x r0).1.length : Int) - 1) → (∀ b, ¬ b = ra → V3 b = V b) → J l s0 D kL_act (jR 9 10 60) 10 60 Q 724 [(0, .ref q), (1, .int a0), (2, .int x0), (3, .int y0), (4, .ref (q + 492)), (5, .ref (q + 493)), (6, .ref (q + 494)), (7, .ref (q + 495)), (8, .ref (q + 496)), (9, .int r0), (10, .ref ra), (11, .int ft), (12, .int kv), (13, .ref ca), (14, .ref ea), (15, .int i)] [] T V3 X sz 2 15 := by
    intro N
    refine Nat.strongRecOn N ?_
    clear N
    intro n ih t i V3 hn hi ht h1 h2 h0 ef
    refine j_iload dL_act_724 rfl ?_
    refine j_iconst (v := 1) dL_act_726 (by decide) ?_
    refine j_iconst (v := 4) dL_act_727 (by decide) ?_
    refine j_aload dL_act_728 rfl ?_
    refine j_iconst (v := 0) dL_act_730 (by decide) ?_
    refine m_iald (k := 0) dL_act_731 hB (by assumption) (ixk (iC 0 (by decide)) (by omega)) (by omega) ?_
    refine j_imul dL_act_732 ?_
    refine j_iadd dL_act_733 ?_
    refine m_icmp_ge (tgt := 755) dL_act_734 (by decide) (hi) (iA (iC 1 (by decide)) (iM (iC 4 (by decide)) (h0) (by omega)) (by omega)) (fun c_734 => ?_) (fun c_734 => ?_)
    · have et : t = 1 + 4 * ((xR x r0).1.length - 1) := by omega
      subst et
      have hz3 := hz.cut (Z' := V3 ra) hrl hk (by rw [h0, hz.1]) (fun u a b => h1 u (by omega) (Or.inl b)) (fun u a b => h2 u a b) (fun u a => h1 u (by omega) (Or.inr a))
      have cu3 : cuIs T V3 q x := w.1.cg (fun a ha hb => ⟨rfl, ef a (by omega)⟩)
      refine j_aload_n dL_act_755 rfl ?_
      refine j_iload dL_act_756 rfl ?_
      refine j_iload dL_act_758 rfl ?_
      refine j_cCi dL_act_760 hB mo_X7_removeScene ml_L_138 (sp_X7_removeScene hB cu3 hW) (e_rem0 hz0 z3 hkv hk) cu3.k rfl rfl rfl rfl ⟨rfl, rfl, by decide, by decide⟩ (Nat.le_of_ble_eq_true rfl) ⟨by decide, by decide⟩ (fun y_760 V_760 h_760 a_760 g_760 => ?_)
      have h9 : isI (V_760 ra 0) (((xR x r0).1.length : Int) - 1) := by rw [a_760 ra (Or.inr (by omega))]; exact h0
      replace h_760 : isI y_760 (((xR x r0).1.length : Int) - 1) := h_760
      refine j_aload dL_act_763 rfl ?_
      refine j_iconst (v := 0) dL_act_765 (by decide) ?_
      refine m_iald (k := 0) dL_act_766 hB (by assumption) (ixk (iC 0 (by decide)) (by omega)) (by omega) ?_
      refine m_icmp_ne (tgt := 774) dL_act_767 (by decide) (h_760) (h9) (fun c_767 => ?_) (fun c_767 => ?_)
      · exact absurd rfl c_767
      · refine j_iconst (v := 1) dL_act_770 (by decide) ?_
        refine j_goto (tgt := 775) dL_act_771 (by decide) ?_
        refine K _ dL_act_775 _ _ _ _ (s_rem x r0 kv) ?_ (xw_rem hW (e_rem0 hz0 z3 hkv hk)) xPush_1 (by decide) (by decide)
        have ek : kv.toInt.toNat = kk := by rw [hkv]; rfl
        unfold s_rem at g_760 ⊢
        rw [ek] at g_760 ⊢
        exact lwV_set w hra z3 hz0 hz3 (fun b h1 h2 h3 => ef b h1) a_760 g_760
    · refine j_aload dL_act_737 rfl ?_
      refine j_iload dL_act_739 rfl ?_
      refine j_aload dL_act_741 rfl ?_
      refine j_iload dL_act_743 rfl ?_
      refine j_iconst (v := 4) dL_act_745 (by decide) ?_
      refine j_iadd dL_act_746 ?_
      refine m_iald (k := t + 4) dL_act_747 hB (by assumption) (ixk (iA (hi) (iC 4 (by decide)) (by omega)) (by omega)) (by omega) ?_
      refine m_iast (k := t) dL_act_748 hB (by assumption) (ixk (hi) (by omega)) (by omega) ?_
      refine j_iinc (v := 1) (L' := [(0, _), (1, _), (2, _), (3, _), (4, _), (5, _), (6, _), (7, _), (8, _), (9, _), (10, _), (11, _), (12, _), (13, _), (14, _), (15, _)]) dL_act_749 rfl (by decide) (by decide) rfl ?_
      refine j_goto (tgt := 724) dL_act_752 (by decide) ?_
      refine ih (n - 1) (by omega) (t + 1) _ _ (by omega) (ixk (k := t + 1) (iA (hi) (iC 1 (by decide)) (by omega)) (by omega)) (by omega) (fun u a b => ?_) (fun u a b => ?_) ?_ (fun b h => ?_)
      · rw [jset_ne (Or.inr (by omega))]; exact h1 u a (by omega)
      · by_cases e : u = t
        · subst e
          rw [jset_eq]; exact h1 _ (by omega) (Or.inr (by omega))
        · rw [jset_ne (Or.inr e)]; exact h2 u a (by omega)
      · rw [jset_ne (Or.inr (by omega))]; exact h0
      · rw [jset_row h]; exact ef b h
  have hn1 : isI (V ra 0) (xR x r0).1.length := hz.1
  refine j_aload dL_act_708 rfl ?_
  refine j_iconst (v := 0) dL_act_710 (by decide) ?_
  refine j_dup2 dL_act_711 rfl rfl ?_
  refine m_iald (k := 0) dL_act_712 hB (by assumption) (ixk (iC 0 (by decide)) (by omega)) (by omega) ?_
  refine j_iconst (v := 1) dL_act_713 (by decide) ?_
  refine j_isub dL_act_714 ?_
  refine m_iast (k := 0) dL_act_715 hB (by assumption) (ixk (iC 0 (by decide)) (by omega)) (by omega) ?_
  refine j_iconst (v := 1) dL_act_716 (by decide) ?_
  refine j_iconst (v := 4) dL_act_717 (by decide) ?_
  refine j_iload dL_act_718 rfl ?_
  refine j_imul dL_act_720 ?_
  refine j_iadd dL_act_721 ?_
  refine j_istore (L' := [(0, _), (1, _), (2, _), (3, _), (4, _), (5, _), (6, _), (7, _), (8, _), (9, _), (10, _), (11, _), (12, _), (13, _), (14, _), (15, _)]) dL_act_722 (by decide) rfl ?_
  refine lps _ (1 + 4 * kk) _ _ (Nat.sub_add_cancel (by omega)) (ixk (k := 1 + 4 * kk) (iA (iC 1 (by decide)) (iM (iC 4 (by decide)) (hkv) (by omega)) (by omega)) (by omega)) (Nat.le_refl _) (fun u a b => ?_) (fun u a b => absurd b (by omega)) ?_ (fun b h => ?_)
  · rw [jset_ne (Or.inr a)]
  · rw [jset_eq]; exact iS hn1 (iC 1 (by decide)) (by omega)
  · rw [jset_row h]
set_option maxRecDepth 100000 in
set_option maxHeartbeats 4000000 in
theorem ac_set (hB : jB l s0 D) {q ca ea z ra kk : Nat} {x : aX} {a0 x0 y0 r0 ft kv : Int32} {Q : jQ} (hT : lwT T q) (w : lwV T V q x) (hW : xW x) (hra : ra = q + 492 + z) (z3 : z < 3) (hz0 : r0.toInt = (z : Int)) (hr : T ra = some (kI 60)) (hz : zRl (V ra) (xR x r0)) (hca : T ca = some (kI 10)) (hea : T ea = some (kI 5)) (hd : ca ≠ ea) (dc : q + 497 ≤ ca ∧ q + 497 ≤ ea) (hkv : kv.toInt = (kk : Int)) 
  (K : ∀ (pcr : Nat) (d : decode cL_act pcr = .ok (.ireturn, 1)) (V' : jV) (c' n' : Nat) (L : List (Nat × Value)) (x' : aX), lwV T V' q x' → xW x' → 1 ≤ x'.2.1.length → c' ≤ 10 → n' ≤ 60 → J l s0 D kL_act (jR 9 10 60) 10 60 Q pcr L [.int 1] T V' X sz c' n') : J l s0 D kL_act (jR 9 10 60) 10 60 Q 782 [(0, .ref q), (1, .int a0), (2, .int x0), (3, .int y0), (4, .ref (q + 492)), (5, .ref (q + 493)), (6, .ref (q + 494)), (7, .ref (q + 495)), (8, .ref (q + 496)), (9, .int r0), (10, .ref ra), (11, .int ft), (12, .int kv), (13, .ref ca), (14, .ref ea)] [] T V X sz 2 15 := by
  have hrl : rlW x.1 (xR x r0) := hW.r r0
  have hp : pcW x.1 := hW.1.1
  have h5 := hz.2.1
  have hTp := hT.2.2.2.1
  have hTd := hT.2.2.2.2
  obtain ⟨dc1, dc2⟩ := dc
  have ht1 : isI (V (q + 496) 1) x.1.2.2.1.toInt := congrArg Int32.toInt w.2.2.2.2.2.2.1
  have ht2 : isI (V (q + 496) 2) x.1.2.2.2.toInt := congrArg Int32.toInt w.2.2.2.2.2.2.2
  obtain ⟨tw0, tw1, lw0, lw1⟩ := hW.1.2.1
  refine j_bipush (v := 100) dL_act_782 (by decide) ?_
  refine j_aload dL_act_784 rfl ?_
  refine j_iconst (v := 1) dL_act_786 (by decide) ?_
  refine m_iald (k := 1) dL_act_787 hB (by assumption) (ixk (iC 1 (by decide)) (by omega)) (by omega) ?_
  refine j_imul dL_act_788 ?_
  refine j_aload dL_act_789 rfl ?_
  refine j_iconst (v := 2) dL_act_791 (by decide) ?_
  refine m_iald (k := 2) dL_act_792 hB (by assumption) (ixk (iC 2 (by decide)) (by omega)) (by omega) ?_
  refine j_iadd dL_act_793 ?_
  refine j_istore (L' := [(0, _), (1, _), (2, _), (3, _), (4, _), (5, _), (6, _), (7, _), (8, _), (9, _), (10, _), (11, _), (12, _), (13, _), (14, _), (15, _)]) dL_act_794 (by decide) rfl ?_
  refine j_aload dL_act_796 rfl ?_
  refine j_iconst (v := 1) dL_act_798 (by decide) ?_
  refine j_iload_n dL_act_799 rfl ?_
  refine j_iconst (v := 3) dL_act_800 (by decide) ?_
  refine j_ishr dL_act_801 ?_
  refine j_iload_n dL_act_802 rfl ?_
  refine j_iconst (v := 2) dL_act_803 (by decide) ?_
  refine j_cSi dL_act_804 hB mo_L_at ml_L_71 (sp_L_at hB (by decide)) rfl rfl ⟨rfl, rfl, by decide, by decide⟩ (Nat.le_of_ble_eq_true rfl) ⟨by decide, by decide⟩ (fun r_804 V_804 h_804 => ?_)
  obtain ⟨rfl, f804, g804⟩ := h_804
  rw [show (2 : Int32).toInt = 2 by decide] at g804
  refine m_if_ne (tgt := 816) dL_act_807 (by decide) (iV) (fun c_807 => ?_) (fun c_807 => ?_)
  · refine j_bipush (v := 60) dL_act_816 (by decide) ?_
    refine j_cSi dL_act_818 hB mo_L_at ml_L_71 (sp_L_at hB (by decide)) rfl rfl ⟨rfl, rfl, by decide, by decide⟩ (Nat.le_of_ble_eq_true rfl) ⟨by decide, by decide⟩ (fun r_818 V_818 h_818 => ?_)
    obtain ⟨rfl, f818, g818⟩ := h_818
    have g818b : r_818.toInt ≤ 600 := Int.le_of_lt_add_one (Int.lt_of_lt_of_le g818 (by decide))
    refine m_iast (k := 1) dL_act_821 hB (by assumption) (ixk (iC 1 (by decide)) (by omega)) (by omega) ?_
    refine j_aload dL_act_822 rfl ?_
    refine j_iconst (v := 2) dL_act_824 (by decide) ?_
    refine j_iload_n dL_act_825 rfl ?_
    refine j_bipush (v := 21) dL_act_826 (by decide) ?_
    refine j_cSi dL_act_828 hB mo_L_at ml_L_71 (sp_L_at hB (by decide)) rfl rfl ⟨rfl, rfl, by decide, by decide⟩ (Nat.le_of_ble_eq_true rfl) ⟨by decide, by decide⟩ (fun r_828 V_828 h_828 => ?_)
    obtain ⟨rfl, f828, g828⟩ := h_828
    rw [show (21 : Int32).toInt = 21 by decide] at g828
    refine m_iast (k := 2) dL_act_831 hB (by assumption) (ixk (iC 2 (by decide)) (by omega)) (by omega) ?_
    generalize hV3 : jset (jset V (q + 496) 1 r_818) (q + 496) 2 r_828 = V3
    have e1 : V3 (q + 496) 1 = r_818 := by rw [← hV3, jset_ne (Or.inr (by omega)), jset_eq]
    have e2 : V3 (q + 496) 2 = r_828 := by rw [← hV3, jset_eq]
    have e0 : V3 (q + 496) 0 = V (q + 496) 0 := by rw [← hV3, jset_ne (Or.inr (by omega)), jset_ne (Or.inr (by omega))]
    have ef : ∀ b, ¬ b = q + 496 → V3 b = V b := fun b h => by rw [← hV3, jset_row h, jset_row h]
    have cu3 : cuIs T V3 q x := w.1.cg (fun a ha hb => ⟨rfl, ef a (by omega)⟩)
    refine j_aload_n dL_act_832 rfl ?_
    refine j_aload dL_act_833 rfl ?_
    refine j_iconst (v := 1) dL_act_835 (by decide) ?_
    refine m_iald (k := 1) dL_act_836 hB (by assumption) (ixk (iC 1 (by decide)) (by omega)) (by omega) ?_
    refine j_aload dL_act_837 rfl ?_
    refine j_iconst (v := 2) dL_act_839 (by decide) ?_
    refine m_iald (k := 2) dL_act_840 hB (by assumption) (ixk (iC 2 (by decide)) (by omega)) (by omega) ?_
    rw [e1, e2]
    refine j_cCi dL_act_841 hB mo_X7_set ml_L_141 (sp_X7_set hB cu3 hW) (e_set0 f818 g818b f828 (by omega)) cu3.k rfl rfl rfl rfl ⟨rfl, rfl, by decide, by decide⟩ (Nat.le_of_ble_eq_true rfl) ⟨by decide, by decide⟩ (fun y_841 V_841 h_841 a_841 g_841 => ?_)
    replace h_841 : isI y_841 (100 * x.1.2.2.1.toInt + x.1.2.2.2.toInt) := h_841
    refine j_iload dL_act_844 rfl ?_
    refine m_icmp_ne (tgt := 853) dL_act_846 (by decide) (h_841) (iA (iM (iC 100 (by decide)) (ht1) (by omega)) (ht2) (by omega)) (fun c_846 => ?_) (fun c_846 => ?_)
    · exact absurd rfl c_846
    · refine j_iconst (v := 1) dL_act_849 (by decide) ?_
      refine j_goto (tgt := 854) dL_act_850 (by decide) ?_
      refine K _ dL_act_854 _ _ _ _ (s_set x r_818 r_828) ?_ (xw_set hW (e_set0 f818 g818b f828 (by omega))) xPush_1 (by decide) (by decide)
      refine lwV_d (V3 := V3) w rfl ?_ ?_ (fun b h1 h2 h3 h4 => ef b h2) a_841 g_841
      · rw [ef _ (by omega)]; exact w.2.2.2.2.1
      · exact ⟨by rw [e0]; exact w.2.2.2.2.2.1, e1, e2⟩
  · refine j_sipush (v := 601) dL_act_810 (by decide) ?_
    refine j_goto (tgt := 818) dL_act_813 (by decide) ?_
    refine j_cSi dL_act_818 hB mo_L_at ml_L_71 (sp_L_at hB (by decide)) rfl rfl ⟨rfl, rfl, by decide, by decide⟩ (Nat.le_of_ble_eq_true rfl) ⟨by decide, by decide⟩ (fun r_818 V_818 h_818 => ?_)
    obtain ⟨rfl, f818, g818⟩ := h_818
    have g818b : r_818.toInt ≤ 600 := Int.le_of_lt_add_one (Int.lt_of_lt_of_le g818 (by decide))
    refine m_iast (k := 1) dL_act_821 hB (by assumption) (ixk (iC 1 (by decide)) (by omega)) (by omega) ?_
    refine j_aload dL_act_822 rfl ?_
    refine j_iconst (v := 2) dL_act_824 (by decide) ?_
    refine j_iload_n dL_act_825 rfl ?_
    refine j_bipush (v := 21) dL_act_826 (by decide) ?_
    refine j_cSi dL_act_828 hB mo_L_at ml_L_71 (sp_L_at hB (by decide)) rfl rfl ⟨rfl, rfl, by decide, by decide⟩ (Nat.le_of_ble_eq_true rfl) ⟨by decide, by decide⟩ (fun r_828 V_828 h_828 => ?_)
    obtain ⟨rfl, f828, g828⟩ := h_828
    rw [show (21 : Int32).toInt = 21 by decide] at g828
    refine m_iast (k := 2) dL_act_831 hB (by assumption) (ixk (iC 2 (by decide)) (by omega)) (by omega) ?_
    generalize hV3 : jset (jset V (q + 496) 1 r_818) (q + 496) 2 r_828 = V3
    have e1 : V3 (q + 496) 1 = r_818 := by rw [← hV3, jset_ne (Or.inr (by omega)), jset_eq]
    have e2 : V3 (q + 496) 2 = r_828 := by rw [← hV3, jset_eq]
    have e0 : V3 (q + 496) 0 = V (q + 496) 0 := by rw [← hV3, jset_ne (Or.inr (by omega)), jset_ne (Or.inr (by omega))]
    have ef : ∀ b, ¬ b = q + 496 → V3 b = V b := fun b h => by rw [← hV3, jset_row h, jset_row h]
    have cu3 : cuIs T V3 q x := w.1.cg (fun a ha hb => ⟨rfl, ef a (by omega)⟩)
    refine j_aload_n dL_act_832 rfl ?_
    refine j_aload dL_act_833 rfl ?_
    refine j_iconst (v := 1) dL_act_835 (by decide) ?_
    refine m_iald (k := 1) dL_act_836 hB (by assumption) (ixk (iC 1 (by decide)) (by omega)) (by omega) ?_
    refine j_aload dL_act_837 rfl ?_
    refine j_iconst (v := 2) dL_act_839 (by decide) ?_
    refine m_iald (k := 2) dL_act_840 hB (by assumption) (ixk (iC 2 (by decide)) (by omega)) (by omega) ?_
    rw [e1, e2]
    refine j_cCi dL_act_841 hB mo_X7_set ml_L_141 (sp_X7_set hB cu3 hW) (e_set0 f818 g818b f828 (by omega)) cu3.k rfl rfl rfl rfl ⟨rfl, rfl, by decide, by decide⟩ (Nat.le_of_ble_eq_true rfl) ⟨by decide, by decide⟩ (fun y_841 V_841 h_841 a_841 g_841 => ?_)
    replace h_841 : isI y_841 (100 * x.1.2.2.1.toInt + x.1.2.2.2.toInt) := h_841
    refine j_iload dL_act_844 rfl ?_
    refine m_icmp_ne (tgt := 853) dL_act_846 (by decide) (h_841) (iA (iM (iC 100 (by decide)) (ht1) (by omega)) (ht2) (by omega)) (fun c_846 => ?_) (fun c_846 => ?_)
    · exact absurd rfl c_846
    · refine j_iconst (v := 1) dL_act_849 (by decide) ?_
      refine j_goto (tgt := 854) dL_act_850 (by decide) ?_
      refine K _ dL_act_854 _ _ _ _ (s_set x r_818 r_828) ?_ (xw_set hW (e_set0 f818 g818b f828 (by omega))) xPush_1 (by decide) (by decide)
      refine lwV_d (V3 := V3) w rfl ?_ ?_ (fun b h1 h2 h3 h4 => ef b h2) a_841 g_841
      · rw [ef _ (by omega)]; exact w.2.2.2.2.1
      · exact ⟨by rw [e0]; exact w.2.2.2.2.2.1, e1, e2⟩
set_option maxRecDepth 100000 in
set_option maxHeartbeats 4000000 in
theorem ac_fit (hB : jB l s0 D) {q ca ea z ra kk : Nat} {x : aX} {a0 x0 y0 r0 ft kv : Int32} {Q : jQ} (hT : lwT T q) (w : lwV T V q x) (hW : xW x) (hra : ra = q + 492 + z) (z3 : z < 3) (hz0 : r0.toInt = (z : Int)) (hr : T ra = some (kI 60)) (hz : zRl (V ra) (xR x r0)) (hca : T ca = some (kI 10)) (hea : T ea = some (kI 5)) (hd : ca ≠ ea) (dc : q + 497 ≤ ca ∧ q + 497 ≤ ea) (hkv : kv.toInt = (kk : Int)) 
  (K : ∀ (pcr : Nat) (d : decode cL_act pcr = .ok (.ireturn, 1)) (V' : jV) (c' n' : Nat) (L : List (Nat × Value)) (x' : aX), lwV T V' q x' → xW x' → 1 ≤ x'.2.1.length → c' ≤ 10 → n' ≤ 60 → J l s0 D kL_act (jR 9 10 60) 10 60 Q pcr L [.int 1] T V' X sz c' n') : J l s0 D kL_act (jR 9 10 60) 10 60 Q 855 [(0, .ref q), (1, .int a0), (2, .int x0), (3, .int y0), (4, .ref (q + 492)), (5, .ref (q + 493)), (6, .ref (q + 494)), (7, .ref (q + 495)), (8, .ref (q + 496)), (9, .int r0), (10, .ref ra), (11, .int ft), (12, .int kv), (13, .ref ca), (14, .ref ea)] [] T V X sz 2 15 := by
  have hrl : rlW x.1 (xR x r0) := hW.r r0
  have hp : pcW x.1 := hW.1.1
  have h5 := hz.2.1
  have hTp := hT.2.2.2.1
  have hTd := hT.2.2.2.2
  obtain ⟨dc1, dc2⟩ := dc
  have lpf : ∀ (N j : Nat) (nn i : Int32) (V1 : jV), j + N = (xR x r0).1.length → i.toInt = (j : Int) → isI nn (fitN x.1 r0.toInt j).2 → zRl (V1 ra) (sR (fitN x.1 r0.toInt j).1 r0.toInt) → (∀ b, ¬ b = ra → ¬ b = ca → ¬ b = ea → V1 b = V b) → J l s0 D kL_act (jR 9 10 60) 10 60 Q 861 [(0, .ref q), (1, .int a0), (2, .int x0), (3, .int y0), (4, .ref (q + 492)), (5, .ref (q + 493)), (6, .ref (q + 494)), (7, .ref (q + 495)), (8, .ref (q + 496)), (9, .int r0), (10, .ref ra), (11, .int ft), (12, .int kv), (13, .ref ca), (14, .ref ea), (15, .int nn), (16, .int i)] [] T V1 X sz 2 15 := by
    intro N
    refine Nat.strongRecOn N ?_
    clear N
    intro n ih j nn i V1 hn hi hnn hz1 ef
    obtain ⟨i1, i2, i3, i4, i5⟩ := fitN_W (z := r0.toInt) hW.1 j (show j ≤ (xR x r0).1.length by omega)
    have hL : (sR (fitN x.1 r0.toInt j).1 r0.toInt).1.length = (xR x r0).1.length := by rw [i2]; rfl
    have hn1 : isI (V1 ra 0) (xR x r0).1.length := ixz hz1.1 (by omega)
    refine j_iload dL_act_861 rfl ?_
    refine j_aload dL_act_863 rfl ?_
    refine j_iconst (v := 0) dL_act_865 (by decide) ?_
    refine m_iald (k := 0) dL_act_866 hB (by assumption) (ixk (iC 0 (by decide)) (by omega)) (by omega) ?_
    refine m_icmp_ge (tgt := 999) dL_act_867 (by decide) (hi) (hn1) (fun c_867 => ?_) (fun c_867 => ?_)
    · have hj : j = (xR x r0).1.length := by omega
      subst hj
      have cu3 : cuIs T V1 q x := w.1.cg (fun a ha hb => ⟨rfl, ef a (by omega) (by omega) (by omega)⟩)
      refine j_aload_n dL_act_999 rfl ?_
      refine j_iload dL_act_1000 rfl ?_
      refine j_cCi dL_act_1002 hB mo_X7_fit ml_L_144 (sp_X7_fit hB cu3 hW) (e_fit0 hz0 z3) cu3.k rfl rfl rfl rfl ⟨rfl, rfl, by decide, by decide⟩ (Nat.le_of_ble_eq_true rfl) ⟨by decide, by decide⟩ (fun y_1002 V_1002 h_1002 a_1002 g_1002 => ?_)
      replace h_1002 : isI y_1002 (fitN x.1 r0.toInt (xR x r0).1.length).2 := h_1002
      refine j_iload dL_act_1005 rfl ?_
      refine m_icmp_ne (tgt := 1014) dL_act_1007 (by decide) (h_1002) (hnn) (fun c_1007 => ?_) (fun c_1007 => ?_)
      · exact absurd rfl c_1007
      · refine j_iconst (v := 1) dL_act_1010 (by decide) ?_
        refine j_goto (tgt := 1015) dL_act_1011 (by decide) ?_
        refine K _ dL_act_1015 _ _ _ _ (s_fit x r0) ?_ (xw_fit hW) xPush_1 (by decide) (by decide)
        refine lwV_row (V3 := V1) w hra z3 (fun z' h' hne => ?_) (fitN_2 _) ?_ (fun b h1 h2 h3 => ef b h1 (by omega) (by omega)) a_1002 g_1002
        · show sR (fitN x.1 r0.toInt _).1 (z' : Int) = _
          rw [hz0]; exact fitN_o z3 h' hne _
        · show zRl (V1 ra) (sR (fitN x.1 r0.toInt _).1 (z : Int))
          rw [← hz0]
          exact hz1
    · have hj : j < (xR x r0).1.length := by omega
      have hjj : j < (sR (fitN x.1 r0.toInt j).1 r0.toInt).1.length := by omega
      have q2 : isI (V1 ra (2 + 4 * j)) (atZ (sR (fitN x.1 r0.toInt j).1 r0.toInt).2.1 j).toInt := congrArg Int32.toInt (hz1.2.2.1 j hjj).2.1
      have hpz1 : zPa (V1 (q + 495)) (fitN x.1 r0.toInt j).1 := by rw [ef _ (by omega) (by omega) (by omega)]; exact zPa_2 w.2.2.2.2.1 (fitN_2 j)
      have hdz1 : zDd (V1 (q + 496)) (fitN x.1 r0.toInt j).1 := by rw [ef _ (by omega) (by omega) (by omega)]; exact zDd_2 w.2.2.2.2.2 (fitN_2 j)
      refine j_aload dL_act_870 rfl ?_
      refine j_iconst (v := 2) dL_act_872 (by decide) ?_
      refine j_iconst (v := 4) dL_act_873 (by decide) ?_
      refine j_iload dL_act_874 rfl ?_
      refine j_imul dL_act_876 ?_
      refine j_iadd dL_act_877 ?_
      refine m_iald (k := 2 + 4 * j) dL_act_878 hB (by assumption) (ixk (iA (iC 2 (by decide)) (iM (iC 4 (by decide)) (hi) (by omega)) (by omega)) (by omega)) (by omega) ?_
      refine j_ldc dL_act_879 hB kc_L_21 ?_
      refine m_icmp_ne (tgt := 887) dL_act_881 (by decide) (q2) (iC (-2000001) (by decide)) (fun c_881 => ?_) (fun c_881 => ?_)
      · have hc : isCue (sR (fitN x.1 r0.toInt j).1 r0.toInt) j := isCue_iff.mpr c_881
        have crr := cue_rng (i1.r r0.toInt) hjj hc
        have hr9 := aRoom_rng i1.1 (i1.r r0.toInt) (w := 0) (Or.inl rfl) hjj
        refine j_iconst (v := 0) dL_act_887 (by decide) ?_
        refine j_aload dL_act_888 rfl ?_
        refine j_aload dL_act_890 rfl ?_
        refine j_aload dL_act_892 rfl ?_
        refine j_aload dL_act_894 rfl ?_
        refine j_cSu dL_act_896 hB mo_L_lay ml_L_49 (sp_L_lay hB (s := (fitN x.1 r0.toInt j).1) hr hTp hca hea (by omega) hz1 hpz1 i1.1 (i1.r r0.toInt) (iC 0 (by decide)) (Or.inl rfl) (by decide)) rfl rfl ⟨rfl, rfl, by decide, by decide⟩ (Nat.le_of_ble_eq_true rfl) ⟨by decide, by decide⟩ (fun V_896 h_896 => ?_)
        obtain ⟨hF, hO⟩ := h_896
        have hz8 : zRl (V_896 ra) (sR (fitN x.1 r0.toInt j).1 r0.toInt) := by rw [hF ra (by omega) (by omega)]; exact hz1
        have hp8 : zPa (V_896 (q + 495)) (fitN x.1 r0.toInt j).1 := by rw [hF _ (by omega) (by omega)]; exact hpz1
        have hd8 : zDd (V_896 (q + 496)) (fitN x.1 r0.toInt j).1 := by rw [hF _ (by omega) (by omega)]; exact hdz1
        have q2 : isI (V_896 ra (2 + 4 * j)) (atZ (sR (fitN x.1 r0.toInt j).1 r0.toInt).2.1 j).toInt := congrArg Int32.toInt (hz8.2.2.1 j hjj).2.1
        refine j_iload dL_act_899 rfl ?_
        refine j_aload dL_act_901 rfl ?_
        refine j_iconst (v := 2) dL_act_903 (by decide) ?_
        refine j_iconst (v := 4) dL_act_904 (by decide) ?_
        refine j_iload dL_act_905 rfl ?_
        refine j_imul dL_act_907 ?_
        refine j_iadd dL_act_908 ?_
        refine m_iald (k := 2 + 4 * j) dL_act_909 hB (by assumption) (ixk (iA (iC 2 (by decide)) (iM (iC 4 (by decide)) (hi) (by omega)) (by omega)) (by omega)) (by omega) ?_
        refine j_aload dL_act_910 rfl ?_
        refine j_aload dL_act_912 rfl ?_
        refine j_aload dL_act_914 rfl ?_
        refine j_aload dL_act_916 rfl ?_
        refine j_aload dL_act_918 rfl ?_
        refine j_cSi dL_act_920 hB mo_L_best ml_L_105 (sp_L_best hB hTp hca hea hTd hp8 hd8 (by omega) hO i1.1 (i1.r r0.toInt) i1.2.1 hi hjj (ixk (k := (atZ (sR (fitN x.1 r0.toInt j).1 r0.toInt).2.1 j).toInt.toNat) q2 (by omega)) (by omega)) rfl rfl ⟨rfl, rfl, by decide, by decide⟩ (Nat.le_of_ble_eq_true rfl) ⟨by decide, by decide⟩ (fun r_920 V_920 h_920 => ?_)
        obtain ⟨rfl, h_920⟩ := h_920
        rw [Int.toNat_of_nonneg crr.1] at h_920
        have bp := bestT_P i1.1 i1.2.1 crr.1 crr.2.1 hr9.1 hr9.2
        obtain ⟨d1, d2⟩ := dm1000 h_920 bp.1 bp.2.1 bp.2.2.1 bp.2.2.2.1
        obtain ⟨bp1, bp2, bp3, bp4, bp5, bp6⟩ := bp
        have q3 : isI (V_896 ra (3 + 4 * j)) (atZ (sR (fitN x.1 r0.toInt j).1 r0.toInt).2.2.1 j).toInt := congrArg Int32.toInt ((hz8.2.2.1 j hjj).2.2 hc).1
        have q4 : isI (V_896 ra (4 + 4 * j)) (atZ (sR (fitN x.1 r0.toInt j).1 r0.toInt).2.2.2.1 j).toInt := congrArg Int32.toInt ((hz8.2.2.1 j hjj).2.2 hc).2
        have eN : (fitS (fitN x.1 r0.toInt j).1 r0.toInt j).2 = if (atZ (sR (fitN x.1 r0.toInt j).1 r0.toInt).2.2.1 j).toInt = (bestT (fitN x.1 r0.toInt j).1 (atZ (sR (fitN x.1 r0.toInt j).1 r0.toInt).2.1 j).toInt (aRoom (fitN x.1 r0.toInt j).1 (sR (fitN x.1 r0.toInt j).1 r0.toInt) 0 j)).1 ∧ (atZ (sR (fitN x.1 r0.toInt j).1 r0.toInt).2.2.2.1 j).toInt = (bestT (fitN x.1 r0.toInt j).1 (atZ (sR (fitN x.1 r0.toInt j).1 r0.toInt).2.1 j).toInt (aRoom (fitN x.1 r0.toInt j).1 (sR (fitN x.1 r0.toInt j).1 r0.toInt) 0 j)).2.1 then 0 else 1 := rfl
        have mid9 : ∀ nn2 : Int32, isI nn2 ((fitN x.1 r0.toInt j).2 + (fitS (fitN x.1 r0.toInt j).1 r0.toInt j).2) → J l s0 D kL_act (jR 9 10 60) 10 60 Q 963 [(0, .ref q), (1, .int a0), (2, .int x0), (3, .int y0), (4, .ref (q + 492)), (5, .ref (q + 493)), (6, .ref (q + 494)), (7, .ref (q + 495)), (8, .ref (q + 496)), (9, .int r0), (10, .ref ra), (11, .int ft), (12, .int kv), (13, .ref ca), (14, .ref ea), (15, .int nn2), (16, .int i), (17, .int r_920)] [] T V_896 X sz 2 15 := by
          intro nn2 hnn2
          refine j_aload dL_act_963 rfl ?_
          refine j_iconst (v := 3) dL_act_965 (by decide) ?_
          refine j_iconst (v := 4) dL_act_966 (by decide) ?_
          refine j_iload dL_act_967 rfl ?_
          refine j_imul dL_act_969 ?_
          refine j_iadd dL_act_970 ?_
          refine j_iload dL_act_971 rfl ?_
          refine j_sipush (v := 1000) dL_act_973 (by decide) ?_
          refine j_idiv dL_act_976 (by decide) ?_
          refine m_iast (k := 3 + 4 * j) dL_act_977 hB (by assumption) (ixk (iA (iC 3 (by decide)) (iM (iC 4 (by decide)) (hi) (by omega)) (by omega)) (by omega)) (by omega) ?_
          refine j_aload dL_act_978 rfl ?_
          refine j_iconst (v := 4) dL_act_980 (by decide) ?_
          refine j_iconst (v := 4) dL_act_981 (by decide) ?_
          refine j_iload dL_act_982 rfl ?_
          refine j_imul dL_act_984 ?_
          refine j_iadd dL_act_985 ?_
          refine j_iload dL_act_986 rfl ?_
          refine j_sipush (v := 1000) dL_act_988 (by decide) ?_
          refine j_irem dL_act_991 (by decide) ?_
          refine m_iast (k := 4 + 4 * j) dL_act_992 hB (by assumption) (ixk (iA (iC 4 (by decide)) (iM (iC 4 (by decide)) (hi) (by omega)) (by omega)) (by omega)) (by omega) ?_
          refine j_iinc (v := 1) (L' := [(0, _), (1, _), (2, _), (3, _), (4, _), (5, _), (6, _), (7, _), (8, _), (9, _), (10, _), (11, _), (12, _), (13, _), (14, _), (15, _), (16, _), (17, _)]) dL_act_993 rfl (by decide) (by decide) rfl ?_
          refine j_goto (tgt := 861) dL_act_996 (by decide) ?_
          refine j_sub2 (L' := [(0, _), (1, _), (2, _), (3, _), (4, _), (5, _), (6, _), (7, _), (8, _), (9, _), (10, _), (11, _), (12, _), (13, _), (14, _), (15, _), (16, _)]) (List.forall_mem_cons.mpr ⟨rfl, List.forall_mem_cons.mpr ⟨rfl, List.forall_mem_cons.mpr ⟨rfl, List.forall_mem_cons.mpr ⟨rfl, List.forall_mem_cons.mpr ⟨rfl, List.forall_mem_cons.mpr ⟨rfl, List.forall_mem_cons.mpr ⟨rfl, List.forall_mem_cons.mpr ⟨rfl, List.forall_mem_cons.mpr ⟨rfl, List.forall_mem_cons.mpr ⟨rfl, List.forall_mem_cons.mpr ⟨rfl, List.forall_mem_cons.mpr ⟨rfl, List.forall_mem_cons.mpr ⟨rfl, List.forall_mem_cons.mpr ⟨rfl, List.forall_mem_cons.mpr ⟨rfl, List.forall_mem_cons.mpr ⟨rfl, List.forall_mem_cons.mpr ⟨rfl, fun _ h9 => nomatch h9⟩⟩⟩⟩⟩⟩⟩⟩⟩⟩⟩⟩⟩⟩⟩⟩⟩) ?_
          generalize hV5 : jset (jset V_896 ra (3 + 4 * j) (r_920 / 1000)) ra (4 + 4 * j) (r_920 - r_920 / 1000 * 1000) = V5
          have e3 : V5 ra (3 + 4 * j) = r_920 / 1000 := by rw [← hV5, jset_ne (Or.inr (by omega)), jset_eq]
          have e4 : V5 ra (4 + 4 * j) = r_920 - r_920 / 1000 * 1000 := by rw [← hV5, jset_eq]
          have e5 : ∀ t, ¬ t = 2 + 4 * j → ¬ t = 3 + 4 * j → ¬ t = 4 + 4 * j → V5 ra t = V_896 ra t := fun t h1 h2 h3 => by rw [← hV5, jset_ne (Or.inr h3), jset_ne (Or.inr h2)]
          have e2 : V5 ra (2 + 4 * j) = atZ (sR (fitN x.1 r0.toInt j).1 r0.toInt).2.1 j := by rw [← hV5, jset_ne (Or.inr (by omega)), jset_ne (Or.inr (by omega))]; exact (hz8.2.2.1 j hjj).2.1
          have eF : fitN x.1 r0.toInt (j + 1) = ((fitS (fitN x.1 r0.toInt j).1 r0.toInt j).1, (fitN x.1 r0.toInt j).2 + (fitS (fitN x.1 r0.toInt j).1 r0.toInt j).2) := if_neg (fun z9 => hc (by rw [i3 j (Nat.le_refl j)]; exact z9))
          have eS : sR (fitS (fitN x.1 r0.toInt j).1 r0.toInt j).1 r0.toInt = rCue (sR (fitN x.1 r0.toInt j).1 r0.toInt) j (atZ (sR (fitN x.1 r0.toInt j).1 r0.toInt).2.1 j) (Int32.ofInt (bestT (fitN x.1 r0.toInt j).1 (atZ (sR (fitN x.1 r0.toInt j).1 r0.toInt).2.1 j).toInt (aRoom (fitN x.1 r0.toInt j).1 (sR (fitN x.1 r0.toInt j).1 r0.toInt) 0 j)).1) (Int32.ofInt (bestT (fitN x.1 r0.toInt j).1 (atZ (sR (fitN x.1 r0.toInt j).1 r0.toInt).2.1 j).toInt (aRoom (fitN x.1 r0.toInt j).1 (sR (fitN x.1 r0.toInt j).1 r0.toInt) 0 j)).2.1) := sR_set
          refine ih (n - 1) (by omega) (j + 1) _ _ _ (by omega) (ixk (k := j + 1) (iA (hi) (iC 1 (by decide)) (by omega)) (by omega)) ?_ ?_ ?_
          · rw [eF]; exact hnn2
          · rw [eF, eS]
            exact hz8.cue (i1.r r0.toInt) hjj e2 (fun _ => ⟨e3, e4⟩) (fun _ => ⟨(ofI_ti d1).symm, (ofI_ti d2).symm⟩) e5
          · intro b h1 h2 h3
            rw [← hV5, jset_row h1, jset_row h1]
            exact (hF b h2 h3).trans (ef b h1 h2 h3)
        refine j_istore (L' := [(0, _), (1, _), (2, _), (3, _), (4, _), (5, _), (6, _), (7, _), (8, _), (9, _), (10, _), (11, _), (12, _), (13, _), (14, _), (15, _), (16, _), (17, _)]) dL_act_923 (by decide) rfl ?_
        refine j_iload dL_act_925 rfl ?_
        refine j_iload dL_act_927 rfl ?_
        refine j_sipush (v := 1000) dL_act_929 (by decide) ?_
        refine j_aload dL_act_932 rfl ?_
        refine j_iconst (v := 3) dL_act_934 (by decide) ?_
        refine j_iconst (v := 4) dL_act_935 (by decide) ?_
        refine j_iload dL_act_936 rfl ?_
        refine j_imul dL_act_938 ?_
        refine j_iadd dL_act_939 ?_
        refine m_iald (k := 3 + 4 * j) dL_act_940 hB (by assumption) (ixk (iA (iC 3 (by decide)) (iM (iC 4 (by decide)) (hi) (by omega)) (by omega)) (by omega)) (by omega) ?_
        refine j_imul dL_act_941 ?_
        refine j_aload dL_act_942 rfl ?_
        refine j_iconst (v := 4) dL_act_944 (by decide) ?_
        refine j_iconst (v := 4) dL_act_945 (by decide) ?_
        refine j_iload dL_act_946 rfl ?_
        refine j_imul dL_act_948 ?_
        refine j_iadd dL_act_949 ?_
        refine m_iald (k := 4 + 4 * j) dL_act_950 hB (by assumption) (ixk (iA (iC 4 (by decide)) (iM (iC 4 (by decide)) (hi) (by omega)) (by omega)) (by omega)) (by omega) ?_
        refine j_iadd dL_act_951 ?_
        refine m_icmp_eq (tgt := 959) dL_act_952 (by decide) (h_920) (iA (iM (iC 1000 (by decide)) (q3) (by omega)) (q4) (by omega)) (fun c_952 => ?_) (fun c_952 => ?_)
        · refine j_iconst (v := 0) dL_act_959 (by decide) ?_
          refine j_iadd dL_act_960 ?_
          refine j_istore (L' := [(0, _), (1, _), (2, _), (3, _), (4, _), (5, _), (6, _), (7, _), (8, _), (9, _), (10, _), (11, _), (12, _), (13, _), (14, _), (15, _), (16, _), (17, _)]) dL_act_961 (by decide) rfl ?_
          exact mid9 _ (ixz (iA (hnn) (iC 0 (by decide)) (by omega)) (by rw [eN, if_pos (by omega)]))
        · refine j_iconst (v := 1) dL_act_955 (by decide) ?_
          refine j_goto (tgt := 960) dL_act_956 (by decide) ?_
          refine j_iadd dL_act_960 ?_
          refine j_istore (L' := [(0, _), (1, _), (2, _), (3, _), (4, _), (5, _), (6, _), (7, _), (8, _), (9, _), (10, _), (11, _), (12, _), (13, _), (14, _), (15, _), (16, _), (17, _)]) dL_act_961 (by decide) rfl ?_
          exact mid9 _ (ixz (iA (hnn) (iC 1 (by decide)) (by omega)) (by rw [eN, if_neg (by omega)]))
      · refine j_goto (tgt := 993) dL_act_884 (by decide) ?_
        refine j_iinc (v := 1) (L' := [(0, _), (1, _), (2, _), (3, _), (4, _), (5, _), (6, _), (7, _), (8, _), (9, _), (10, _), (11, _), (12, _), (13, _), (14, _), (15, _), (16, _)]) dL_act_993 rfl (by decide) (by decide) rfl ?_
        refine j_goto (tgt := 861) dL_act_996 (by decide) ?_
        have eF : fitN x.1 r0.toInt (j + 1) = (fitN x.1 r0.toInt j) := if_pos (by have h9 := i3 j (Nat.le_refl j); rw [← h9]; exact ti_inj c_881)
        refine ih (n - 1) (by omega) (j + 1) _ _ _ (by omega) (ixk (k := j + 1) (iA (hi) (iC 1 (by decide)) (by omega)) (by omega)) ?_ ?_ ef
        · rw [eF]; exact hnn
        · rw [eF]; exact hz1
  refine j_iconst (v := 0) dL_act_855 (by decide) ?_
  refine j_istore (L' := [(0, _), (1, _), (2, _), (3, _), (4, _), (5, _), (6, _), (7, _), (8, _), (9, _), (10, _), (11, _), (12, _), (13, _), (14, _), (15, _)]) dL_act_856 (by decide) rfl ?_
  refine j_iconst (v := 0) dL_act_858 (by decide) ?_
  refine j_istore (L' := [(0, _), (1, _), (2, _), (3, _), (4, _), (5, _), (6, _), (7, _), (8, _), (9, _), (10, _), (11, _), (12, _), (13, _), (14, _), (15, _), (16, _)]) dL_act_859 (by decide) rfl ?_
  exact lpf (xR x r0).1.length 0 0 0 V (by omega) rfl rfl hz (fun _ _ _ _ => rfl)
end JLL
