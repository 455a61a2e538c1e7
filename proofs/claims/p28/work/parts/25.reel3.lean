/-! CueSheets$Reel: timeBetween -/
/-- the sum of n numbers from a on -/
def tmN (g : Int → Int) (a : Int) : Nat → Int
  | 0 => 0
  | n + 1 => tmN g a n + g (a + n)
/-- the time of a foot; w: the speed for all feet, 0: each by the speed that holds there -/
def ftm (sp sl : pL) (w : Int) (f : Int) : Int := if lostB sl f = true then 0 else 160 / (if w = 0 then (pHold sp f).toInt else w)
def spW (P : pL) : Prop := pSrt P ∧ (∃ v R, P = (0, v) :: R) ∧ ∀ b ∈ P, 0 ≤ b.1.toInt ∧ b.1.toInt ≤ 9000 ∧ 10 ≤ b.2.toInt ∧ b.2.toInt ≤ 30
theorem tmN_add (g : Int → Int) (a : Int) (m n : Nat) : tmN g a (m + n) = tmN g a m + tmN g (a + m) n := by
  induction n with
  | zero => simp [tmN]
  | succ n ih =>
    show tmN g a (m + n) + g (a + (m + n : Nat)) = tmN g a m + (tmN g (a + m) n + g (a + m + n))
    rw [ih, show a + ((m + n : Nat) : Int) = a + m + n by omega]
    omega
theorem tmN_congr {g g' : Int → Int} {a : Int} {n : Nat} (h : ∀ f, a ≤ f → f < a + n → g f = g' f) : tmN g a n = tmN g' a n := by
  induction n with
  | zero => rfl
  | succ n ih =>
    unfold tmN
    rw [ih (fun f h1 h2 => h f h1 (by omega)), h (a + n) (by omega) (by omega)]
theorem tmN_seg (q : Int → Bool) (K a : Int) (n : Nat) : tmN (fun f => if q f = true then 0 else K) a n = (n - cnt q a n) * K := by
  induction n with
  | zero => simp [tmN, cnt]
  | succ n ih =>
    unfold tmN cnt
    rw [ih]
    by_cases h : q (a + n) = true
    · rw [if_pos h, if_pos h, show ((n + 1 : Nat) : Int) - (cnt q a n + 1) = n - cnt q a n by omega]; omega
    · rw [if_neg h, if_neg h, show ((n + 1 : Nat) : Int) - (cnt q a n + 0) = (n - cnt q a n) + 1 by omega, Int.add_mul]; omega
theorem tmN_le {g : Int → Int} {a K : Int} {n : Nat} (hK : 0 ≤ K) (h : ∀ f, 0 ≤ g f ∧ g f ≤ K) : 0 ≤ tmN g a n ∧ tmN g a n ≤ n * K := by
  induction n with
  | zero => simp [tmN]
  | succ n ih =>
    have := h (a + n)
    show 0 ≤ tmN g a n + g (a + n) ∧ tmN g a n + g (a + n) ≤ _
    rw [show ((n + 1 : Nat) : Int) * K = n * K + K by rw [Int.natCast_add, Int.add_mul]; simp]
    omega
theorem div160 {v : Int} (h : 10 ≤ v) : 0 ≤ 160 / v ∧ 160 / v ≤ 16 := by
  constructor
  · exact Int.ediv_nonneg (by omega) (by omega)
  · have : 160 / v < 17 := Int.ediv_lt_of_lt_mul (by omega) (by omega)
    omega
theorem pHoldF_app {x : Int32} {A B : pL} {f : Int} : pHoldF x (A ++ B) f = pHoldF (pHoldF x A f) B f := by
  induction A generalizing x with
  | nil => rfl
  | cons a r ih =>
    show (if a.1.toInt ≤ f then pHoldF a.2 (r ++ B) f else pHoldF x (r ++ B) f) = pHoldF (if a.1.toInt ≤ f then pHoldF a.2 r f else pHoldF x r f) B f
    split <;> exact ih
theorem pHold_at {P : pL} (hs : pSrt P) {k : Nat} (hk : k < P.length) {f : Int} (h1 : P[k].1.toInt ≤ f) (h2 : ∀ h : k + 1 < P.length, f < P[k + 1].1.toInt) : pHold P f = P[k].2 := by
  have e : P = P.take k ++ P[k] :: P.drop (k + 1) := by rw [← List.drop_eq_getElem_cons hk, List.take_append_drop]
  have hR : ∀ b ∈ P.drop (k + 1), f < b.1.toInt := by
    intro b hb
    by_cases hl : k + 1 < P.length
    · have hd := List.drop_eq_getElem_cons hl
      rw [hd] at hb
      have h3 := h2 hl
      rcases List.mem_cons.mp hb with rfl | hb
      · exact h3
      · have hs2 : pSrt (P.drop (k + 1)) := List.Pairwise.sublist (List.drop_sublist _ _) hs
        rw [hd] at hs2
        have := (List.pairwise_cons.mp hs2).1 b hb
        omega
    · rw [List.drop_eq_nil_of_le (by omega)] at hb
      cases hb
  unfold pHold
  conv => lhs; rw [e]
  rw [pHoldF_app]
  show (if P[k].1.toInt ≤ f then pHoldF P[k].2 (P.drop (k + 1)) f else _) = _
  rw [if_pos h1, pHoldF_hi hR]
theorem pHold_rng {P : pL} (h : spW P) (f : Int) : 0 ≤ (pHold P f).toInt ∧ (pHold P f).toInt ≤ 30 ∧ (0 ≤ f → 10 ≤ (pHold P f).toInt) := by
  have key : ∀ (P : pL) (x : Int32), (∀ b ∈ P, 10 ≤ b.2.toInt ∧ b.2.toInt ≤ 30) → pHoldF x P f = x ∨ (10 ≤ (pHoldF x P f).toInt ∧ (pHoldF x P f).toInt ≤ 30) := by
    intro P
    induction P with
    | nil => intro x _; exact Or.inl rfl
    | cons a r ih =>
      intro x hb
      unfold pHoldF
      split
      · rcases ih a.2 (fun b h => hb b (List.mem_cons_of_mem _ h)) with e | e
        · rw [e]; exact Or.inr (hb a List.mem_cons_self)
        · exact Or.inr e
      · exact ih x (fun b h => hb b (List.mem_cons_of_mem _ h))
  obtain ⟨hs, ⟨v, R, hP⟩, hb⟩ := h
  have hb' : ∀ b ∈ P, 10 ≤ b.2.toInt ∧ b.2.toInt ≤ 30 := fun b h => ⟨(hb b h).2.2.1, (hb b h).2.2.2⟩
  refine ⟨?_, ?_, fun hf => ?_⟩
  · rcases key P 0 hb' with e | e
    · show 0 ≤ (pHoldF 0 P f).toInt; rw [e]; decide
    · show 0 ≤ (pHoldF 0 P f).toInt; omega
  · rcases key P 0 hb' with e | e
    · show (pHoldF 0 P f).toInt ≤ 30; rw [e]; decide
    · exact e.2
  · subst hP
    have hv := hb' (0, v) List.mem_cons_self
    have e1 : pHold ((0, v) :: R) f = pHoldF v R f := if_pos (by show (0 : Int32).toInt ≤ f; rw [ti_0]; exact hf)
    rw [e1]
    rcases key R v (fun b h => hb' b (List.mem_cons_of_mem _ h)) with e | e
    · rw [e]; exact hv.1
    · exact e.1
theorem ftm_rng {sp sl : pL} (h : spW sp) {w : Int} (hw : w = 0 ∨ 10 ≤ w) (f : Int) (hf : 0 ≤ f) : 0 ≤ ftm sp sl w f ∧ ftm sp sl w f ≤ 16 := by
  unfold ftm
  split
  · omega
  · split
    · exact div160 ((pHold_rng h f).2.2 hf)
    · exact div160 (by omega)
theorem tm_le {sp sl : pL} (h : spW sp) {w : Int} (hw : w = 0 ∨ 10 ≤ w) {a : Int} (ha : 0 ≤ a) (n : Nat) : 0 ≤ tmN (ftm sp sl w) a n ∧ tmN (ftm sp sl w) a n ≤ n * 16 := by
  induction n with
  | zero => simp [tmN]
  | succ n ih =>
    have := ftm_rng (sl := sl) h hw (a + n) (by omega)
    show 0 ≤ tmN (ftm sp sl w) a n + ftm sp sl w (a + n) ∧ tmN (ftm sp sl w) a n + ftm sp sl w (a + n) ≤ _
    omega
theorem mulK {x K : Int} (h0 : 0 ≤ x) (h1 : x ≤ 9000) (k0 : 0 ≤ K) (k1 : K ≤ 16) : 0 ≤ x * K ∧ x * K ≤ 144000 := by
  constructor
  · exact Int.mul_nonneg h0 k0
  · have := Int.mul_le_mul h1 k1 k0 (by omega : (0 : Int) ≤ 9000)
    omega
section JReel3
variable {l : Launch} {s0 : State} {D : jD} {T : jT} {V : jV} {X : jX} {sz : Nat}
set_option maxRecDepth 100000 in
set_option maxHeartbeats 4000000 in
theorem sp_X2_timeBetween (hB : jB l s0 D) {q : Nat} {r : aR} {a z w : Int32} (h : ReelOK T V q r) (hsl : slW r.2.2.2.2.2) (hsp : spW r.2.2.2.2.1) (h0 : 0 ≤ a.toInt) (h1 : a.toInt ≤ z.toInt) (h2 : z.toInt ≤ 9000) (hw : w = 0 ∨ 10 ≤ w.toInt) : Sp l s0 D kX2_timeBetween (jR 2 0 0) 0 0 [.ref q, .int a, .int z, .int w] T V X sz (qI T X sz (fun x V' => V = V' ∧ x.toInt = tmN (ftm r.2.2.2.2.1 r.2.2.2.2.2 w.toInt) a.toInt (z.toInt - a.toInt).toNat)) := by
  refine Sp.of pn_X2_timeBetween rfl (Nat.le_of_ble_eq_true rfl) ?_
  have hm := h.2.2.2.2.2.1
  have hsl' := hsl
  generalize hP : r.2.2.2.2.1 = P at hsp hm ⊢
  generalize hS : r.2.2.2.2.2 = S at hsl' ⊢
  have hlen := hm.len
  obtain ⟨hsrt, ⟨v0, R0, hP0⟩, hrng⟩ := id hsp
  have hpos : 0 < P.length := by rw [hP0]; simp
  have hF0 : P[0].1 = 0 := by simp [hP0]
  have hwi : w.toInt = 0 ∨ 10 ≤ w.toInt := hw.imp (fun e => by rw [e]; rfl) id
  have loop : w = 0 → ∀ (n k : Nat) (i x la : Int32), i.toInt = k → k + n = P.length → la.toInt = P.length - 1 → x.toInt = tmN (ftm P S 0) a.toInt ((if hk : k < P.length then min z.toInt (max a.toInt P[k].1.toInt) else z.toInt) - a.toInt).toNat → J l s0 D kX2_timeBetween (jR 2 0 0) 0 0 (qI T X sz (fun x V' => V = V' ∧ x.toInt = tmN (ftm P S 0) a.toInt (z.toInt - a.toInt).toNat)) 40 [(0, .ref q), (1, .int a), (2, .int z), (3, .int w), (4, .int x), (5, .int la), (6, .int i)] [] T V X sz 0 0 := by
    intro hw0 n
    induction n with
    | zero =>
      intro k i x la hi hk hla hx
      refine j_iload dX2_timeBetween_40 rfl ?_
      refine j_iload dX2_timeBetween_42 rfl ?_
      refine j_icmp_gt (tgt := 144) dX2_timeBetween_44 (by decide) (fun c_44 => ?_) (fun c_44 => ?_)
      · refine j_iload dX2_timeBetween_144 rfl ?_
        refine j_iret dX2_timeBetween_146 rfl (rfl) (by decide) (by decide) ?_
        exact ⟨_, rfl, rfl, rfl, rfl, rfl, by rw [dif_neg (by omega)] at hx; exact hx⟩
      · exact absurd c_44 (by omega)
    | succ n ih =>
      intro k i x la hi hk hla hx
      have hlt : k < P.length := by omega
      rw [dif_pos hlt] at hx
      have hrk := hrng P[k] (List.getElem_mem hlt)
      have hnext : ∀ h' : k + 1 < P.length, P[k].1.toInt < P[k + 1].1.toInt := fun h' => List.pairwise_iff_getElem.mp hsrt k (k + 1) hlt h' (by omega)
      have hxr := tm_le (sl := S) hsp (w := 0) (Or.inl rfl) h0 ((min z.toInt (max a.toInt P[k].1.toInt) - a.toInt).toNat)
      rw [← hx] at hxr
      refine j_iload dX2_timeBetween_40 rfl ?_
      refine j_iload dX2_timeBetween_42 rfl ?_
      refine j_icmp_gt (tgt := 144) dX2_timeBetween_44 (by decide) (fun c_44 => ?_) (fun c_44 => ?_)
      · exact absurd c_44 (by omega)
      · refine j_iload_n dX2_timeBetween_47 rfl ?_
        refine j_aload_n dX2_timeBetween_48 rfl ?_
        refine j_getr dX2_timeBetween_49 hB fl_X2_32 (by first | exact h.1 | exact h.2.2.2.2.2.1.1 | exact hm.1 | exact hm.2.1.1 | exact hm.2.2.1.1) (by rfl) ?_
        refine j_getr dX2_timeBetween_52 hB fl_X2_61 (by first | exact h.1 | exact h.2.2.2.2.2.1.1 | exact hm.1 | exact hm.2.1.1 | exact hm.2.2.1.1) (by rfl) ?_
        refine j_iload dX2_timeBetween_55 rfl ?_
        refine j_cVi dX2_timeBetween_57 hB mo_X3_at ml_X2_47 (sp_X3_at hB hm.2.1) (by first | exact h.1 | exact h.2.2.2.2.2.1.1 | exact hm.1 | exact hm.2.1.1 | exact hm.2.2.1.1) rfl rfl rfl rfl ⟨rfl, rfl, by decide, by decide⟩ (Nat.le_of_ble_eq_true rfl) ⟨by decide, by decide⟩ (fun r_57 V_57 h_57 => ?_)
        obtain ⟨rfl, hf⟩ := h_57
        rw [hm.2.2.2.1, atZ_in (by omega), show i.toInt.toNat = k by omega, (map_getD P k hlt).1] at hf
        subst hf
        refine j_mmax dX2_timeBetween_60 hB ml_X2_64 (by decide) (Nat.le_of_ble_eq_true rfl) (by decide) (by decide) ?_
        refine j_topi (fun b7 e7 => ?_)
        have t7 := congrArg Int32.toInt e7
        rw [ti_max] at t7
        refine j_istore (L' := [(0, _), (1, _), (2, _), (3, _), (4, _), (5, _), (6, _), (7, _)]) dX2_timeBetween_63 (by decide) rfl ?_
        refine j_iload dX2_timeBetween_65 rfl ?_
        refine j_iload dX2_timeBetween_67 rfl ?_
        refine j_icmp_ge (tgt := 93) dX2_timeBetween_69 (by decide) (fun c_69 => ?_) (fun c_69 => ?_)
        · refine j_iload_n dX2_timeBetween_93 rfl ?_
          refine j_topi (fun b8 e8 => ?_)
          have t8 := congrArg Int32.toInt e8
          try rw [ti_min] at t8
          refine j_istore (L' := [(0, _), (1, _), (2, _), (3, _), (4, _), (5, _), (6, _), (7, _), (8, _)]) dX2_timeBetween_94 (by decide) rfl ?_
          refine j_iload dX2_timeBetween_96 rfl ?_
          refine j_iload dX2_timeBetween_98 rfl ?_
          refine j_icmp_ge (tgt := 138) dX2_timeBetween_100 (by decide) (fun c_100 => ?_) (fun c_100 => ?_)
          · refine j_iinc (v := 1) (L' := [(0, _), (1, _), (2, _), (3, _), (4, _), (5, _), (6, _), (7, _), (8, _)]) dX2_timeBetween_138 rfl (by decide) (by decide) rfl ?_
            refine j_goto (tgt := 40) dX2_timeBetween_141 (by decide) ?_
            have hi1 : (i + 1).toInt = k + 1 := by rw [ti_add (by rw [ti_1]; omega) (by rw [ti_1]; omega), ti_1]; omega
            refine j_sub2 (L' := [(0, .ref q), (1, .int a), (2, .int z), (3, .int w), (4, .int _), (5, .int _), (6, .int _)]) (List.forall_mem_cons.mpr ⟨rfl, List.forall_mem_cons.mpr ⟨rfl, List.forall_mem_cons.mpr ⟨rfl, List.forall_mem_cons.mpr ⟨rfl, List.forall_mem_cons.mpr ⟨rfl, List.forall_mem_cons.mpr ⟨rfl, List.forall_mem_cons.mpr ⟨rfl, fun _ h9 => nomatch h9⟩⟩⟩⟩⟩⟩⟩) ?_
            refine ih (k + 1) _ _ _ (by rw [hi1]; rfl) (by omega) hla ?_
            rw [hx]
            congr 2
            split <;> (try have := hnext (by assumption)) <;> omega
          · refine j_iload dX2_timeBetween_103 rfl ?_
            refine j_iload dX2_timeBetween_105 rfl ?_
            refine j_iload dX2_timeBetween_107 rfl ?_
            refine j_isub dX2_timeBetween_109 ?_
            refine j_aload_n dX2_timeBetween_110 rfl ?_
            refine j_iload dX2_timeBetween_111 rfl ?_
            refine j_iload dX2_timeBetween_113 rfl ?_
            refine j_cVi dX2_timeBetween_115 hB mo_X2_lostBetween ml_X2_76 (sp_X2_lostBetween hB h hsl (by omega) (by omega) (by omega)) (by first | exact h.1 | exact h.2.2.2.2.2.1.1 | exact hm.1 | exact hm.2.1.1 | exact hm.2.2.1.1) rfl rfl rfl rfl ⟨rfl, rfl, by decide, by decide⟩ (Nat.le_of_ble_eq_true rfl) ⟨by decide, by decide⟩ (fun r_115 V_115 h_115 => ?_)
            obtain ⟨rfl, hl⟩ := h_115
            rw [hS] at hl
            refine j_isub dX2_timeBetween_118 ?_
            refine j_aload_n dX2_timeBetween_119 rfl ?_
            refine j_getr dX2_timeBetween_120 hB fl_X2_32 (by first | exact h.1 | exact h.2.2.2.2.2.1.1 | exact hm.1 | exact hm.2.1.1 | exact hm.2.2.1.1) (by rfl) ?_
            refine j_getr dX2_timeBetween_123 hB fl_X2_70 (by first | exact h.1 | exact h.2.2.2.2.2.1.1 | exact hm.1 | exact hm.2.1.1 | exact hm.2.2.1.1) (by rfl) ?_
            refine j_iload dX2_timeBetween_126 rfl ?_
            refine j_cVi dX2_timeBetween_128 hB mo_X3_at ml_X2_47 (sp_X3_at hB hm.2.2.1) (by first | exact h.1 | exact h.2.2.2.2.2.1.1 | exact hm.1 | exact hm.2.1.1 | exact hm.2.2.1.1) rfl rfl rfl rfl ⟨rfl, rfl, by decide, by decide⟩ (Nat.le_of_ble_eq_true rfl) ⟨by decide, by decide⟩ (fun r_128 V_128 h_128 => ?_)
            obtain ⟨rfl, hv⟩ := h_128
            rw [hm.2.2.2.2.1, atZ_in (by omega), show i.toInt.toNat = k by omega, (map_getD P k hlt).2] at hv
            subst hv
            refine j_cSi dX2_timeBetween_131 hB mo_X2_footTime ml_X2_79 (sp_X2_footTime hB) rfl rfl ⟨rfl, rfl, by decide, by decide⟩ (Nat.le_of_ble_eq_true rfl) ⟨by decide, by decide⟩ (fun r_131 V_131 h_131 => ?_)
            obtain ⟨rfl, hft, -⟩ := h_131
            have hft := hft (by omega)
            have hd := div160 (show 10 ≤ P[k].2.toInt by omega)
            refine j_imul dX2_timeBetween_134 ?_
            refine j_iadd dX2_timeBetween_135 ?_
            refine j_istore (L' := [(0, _), (1, _), (2, _), (3, _), (4, _), (5, _), (6, _), (7, _), (8, _)]) dX2_timeBetween_136 (by decide) rfl ?_
            refine j_iinc (v := 1) (L' := [(0, _), (1, _), (2, _), (3, _), (4, _), (5, _), (6, _), (7, _), (8, _)]) dX2_timeBetween_138 rfl (by decide) (by decide) rfl ?_
            refine j_goto (tgt := 40) dX2_timeBetween_141 (by decide) ?_
            have hi1 : (i + 1).toInt = k + 1 := by rw [ti_add (by rw [ti_1]; omega) (by rw [ti_1]; omega), ti_1]; omega
            have hcl := cnt_le (lostB S) b7.toInt (b8.toInt - b7.toInt).toNat
            have hseg : tmN (ftm P S 0) b7.toInt (b8.toInt - b7.toInt).toNat = (b8.toInt - b7.toInt - r_115.toInt) * r_131.toInt := by
              have e5 : b8.toInt - b7.toInt = ((b8.toInt - b7.toInt).toNat : Int) := by omega
              rw [hl, hft]
              generalize (b8.toInt - b7.toInt).toNat = N2 at e5 ⊢
              rw [e5, ← tmN_seg]
              apply tmN_congr
              intro f f1 f2
              unfold ftm
              rw [if_pos rfl, pHold_at hsrt hlt (by omega) (fun h' => by have := hnext h'; omega)]
            have hmul := mulK (x := b8.toInt - b7.toInt - r_115.toInt) (K := r_131.toInt) (by omega) (by omega) (by omega) (by omega)
            have m1 : (b8 - b7).toInt = b8.toInt - b7.toInt := ti_sub (by omega) (by omega)
            have m2 : (b8 - b7 - r_115).toInt = b8.toInt - b7.toInt - r_115.toInt := by rw [ti_sub (by omega) (by omega), m1]
            have m3 : ((b8 - b7 - r_115) * r_131).toInt = (b8.toInt - b7.toInt - r_115.toInt) * r_131.toInt := by rw [ti_mul (by rw [m2]; omega) (by rw [m2]; omega), m2]
            have m4 : (x + (b8 - b7 - r_115) * r_131).toInt = x.toInt + (b8.toInt - b7.toInt - r_115.toInt) * r_131.toInt := by rw [ti_add (by rw [m3]; omega) (by rw [m3]; omega), m3]
            refine j_sub2 (L' := [(0, .ref q), (1, .int a), (2, .int z), (3, .int w), (4, .int _), (5, .int _), (6, .int _)]) (List.forall_mem_cons.mpr ⟨rfl, List.forall_mem_cons.mpr ⟨rfl, List.forall_mem_cons.mpr ⟨rfl, List.forall_mem_cons.mpr ⟨rfl, List.forall_mem_cons.mpr ⟨rfl, List.forall_mem_cons.mpr ⟨rfl, List.forall_mem_cons.mpr ⟨rfl, fun _ h9 => nomatch h9⟩⟩⟩⟩⟩⟩⟩) ?_
            refine ih (k + 1) _ _ _ (by rw [hi1]; rfl) (by omega) hla ?_
            rw [m4, hx, ← hseg]
            have e1 : (min z.toInt (max a.toInt P[k].1.toInt) - a.toInt).toNat + (b8.toInt - b7.toInt).toNat = ((if hk : k + 1 < P.length then min z.toInt (max a.toInt P[k + 1].1.toInt) else z.toInt) - a.toInt).toNat := by split <;> (try have := hnext (by assumption)) <;> omega
            rw [← e1, tmN_add, show a.toInt + ((min z.toInt (max a.toInt P[k].1.toInt) - a.toInt).toNat : Int) = b7.toInt by omega]
        · refine j_iload_n dX2_timeBetween_72 rfl ?_
          refine j_aload_n dX2_timeBetween_73 rfl ?_
          refine j_getr dX2_timeBetween_74 hB fl_X2_32 (by first | exact h.1 | exact h.2.2.2.2.2.1.1 | exact hm.1 | exact hm.2.1.1 | exact hm.2.2.1.1) (by rfl) ?_
          refine j_getr dX2_timeBetween_77 hB fl_X2_61 (by first | exact h.1 | exact h.2.2.2.2.2.1.1 | exact hm.1 | exact hm.2.1.1 | exact hm.2.2.1.1) (by rfl) ?_
          refine j_iload dX2_timeBetween_80 rfl ?_
          refine j_iconst (v := 1) dX2_timeBetween_82 (by decide) ?_
          refine j_iadd dX2_timeBetween_83 ?_
          refine j_cVi dX2_timeBetween_84 hB mo_X3_at ml_X2_47 (sp_X3_at hB hm.2.1) (by first | exact h.1 | exact h.2.2.2.2.2.1.1 | exact hm.1 | exact hm.2.1.1 | exact hm.2.2.1.1) rfl rfl rfl rfl ⟨rfl, rfl, by decide, by decide⟩ (Nat.le_of_ble_eq_true rfl) ⟨by decide, by decide⟩ (fun r_84 V_84 h_84 => ?_)
          obtain ⟨rfl, hf⟩ := h_84
          have hi1 : (i + 1).toInt = k + 1 := by rw [ti_add (by rw [ti_1]; omega) (by rw [ti_1]; omega), ti_1]; omega
          have hlt1 : k + 1 < P.length := by omega
          have hnx := hnext hlt1
          have hr1 := hrng P[k + 1] (List.getElem_mem hlt1)
          rw [hm.2.2.2.1, atZ_in (by omega), show (i + 1).toInt.toNat = k + 1 by omega, (map_getD P (k + 1) hlt1).1] at hf
          subst hf
          refine j_mmin dX2_timeBetween_87 hB ml_X2_73 (by decide) (Nat.le_of_ble_eq_true rfl) (by decide) (by decide) ?_
          refine j_goto (tgt := 94) dX2_timeBetween_90 (by decide) ?_
          refine j_topi (fun b8 e8 => ?_)
          have t8 := congrArg Int32.toInt e8
          try rw [ti_min] at t8
          refine j_istore (L' := [(0, _), (1, _), (2, _), (3, _), (4, _), (5, _), (6, _), (7, _), (8, _)]) dX2_timeBetween_94 (by decide) rfl ?_
          refine j_iload dX2_timeBetween_96 rfl ?_
          refine j_iload dX2_timeBetween_98 rfl ?_
          refine j_icmp_ge (tgt := 138) dX2_timeBetween_100 (by decide) (fun c_100 => ?_) (fun c_100 => ?_)
          · refine j_iinc (v := 1) (L' := [(0, _), (1, _), (2, _), (3, _), (4, _), (5, _), (6, _), (7, _), (8, _)]) dX2_timeBetween_138 rfl (by decide) (by decide) rfl ?_
            refine j_goto (tgt := 40) dX2_timeBetween_141 (by decide) ?_
            have hi1 : (i + 1).toInt = k + 1 := by rw [ti_add (by rw [ti_1]; omega) (by rw [ti_1]; omega), ti_1]; omega
            refine j_sub2 (L' := [(0, .ref q), (1, .int a), (2, .int z), (3, .int w), (4, .int _), (5, .int _), (6, .int _)]) (List.forall_mem_cons.mpr ⟨rfl, List.forall_mem_cons.mpr ⟨rfl, List.forall_mem_cons.mpr ⟨rfl, List.forall_mem_cons.mpr ⟨rfl, List.forall_mem_cons.mpr ⟨rfl, List.forall_mem_cons.mpr ⟨rfl, List.forall_mem_cons.mpr ⟨rfl, fun _ h9 => nomatch h9⟩⟩⟩⟩⟩⟩⟩) ?_
            refine ih (k + 1) _ _ _ (by rw [hi1]; rfl) (by omega) hla ?_
            rw [hx]
            congr 2
            split <;> (try have := hnext (by assumption)) <;> omega
          · refine j_iload dX2_timeBetween_103 rfl ?_
            refine j_iload dX2_timeBetween_105 rfl ?_
            refine j_iload dX2_timeBetween_107 rfl ?_
            refine j_isub dX2_timeBetween_109 ?_
            refine j_aload_n dX2_timeBetween_110 rfl ?_
            refine j_iload dX2_timeBetween_111 rfl ?_
            refine j_iload dX2_timeBetween_113 rfl ?_
            refine j_cVi dX2_timeBetween_115 hB mo_X2_lostBetween ml_X2_76 (sp_X2_lostBetween hB h hsl (by omega) (by omega) (by omega)) (by first | exact h.1 | exact h.2.2.2.2.2.1.1 | exact hm.1 | exact hm.2.1.1 | exact hm.2.2.1.1) rfl rfl rfl rfl ⟨rfl, rfl, by decide, by decide⟩ (Nat.le_of_ble_eq_true rfl) ⟨by decide, by decide⟩ (fun r_115 V_115 h_115 => ?_)
            obtain ⟨rfl, hl⟩ := h_115
            rw [hS] at hl
            refine j_isub dX2_timeBetween_118 ?_
            refine j_aload_n dX2_timeBetween_119 rfl ?_
            refine j_getr dX2_timeBetween_120 hB fl_X2_32 (by first | exact h.1 | exact h.2.2.2.2.2.1.1 | exact hm.1 | exact hm.2.1.1 | exact hm.2.2.1.1) (by rfl) ?_
            refine j_getr dX2_timeBetween_123 hB fl_X2_70 (by first | exact h.1 | exact h.2.2.2.2.2.1.1 | exact hm.1 | exact hm.2.1.1 | exact hm.2.2.1.1) (by rfl) ?_
            refine j_iload dX2_timeBetween_126 rfl ?_
            refine j_cVi dX2_timeBetween_128 hB mo_X3_at ml_X2_47 (sp_X3_at hB hm.2.2.1) (by first | exact h.1 | exact h.2.2.2.2.2.1.1 | exact hm.1 | exact hm.2.1.1 | exact hm.2.2.1.1) rfl rfl rfl rfl ⟨rfl, rfl, by decide, by decide⟩ (Nat.le_of_ble_eq_true rfl) ⟨by decide, by decide⟩ (fun r_128 V_128 h_128 => ?_)
            obtain ⟨rfl, hv⟩ := h_128
            rw [hm.2.2.2.2.1, atZ_in (by omega), show i.toInt.toNat = k by omega, (map_getD P k hlt).2] at hv
            subst hv
            refine j_cSi dX2_timeBetween_131 hB mo_X2_footTime ml_X2_79 (sp_X2_footTime hB) rfl rfl ⟨rfl, rfl, by decide, by decide⟩ (Nat.le_of_ble_eq_true rfl) ⟨by decide, by decide⟩ (fun r_131 V_131 h_131 => ?_)
            obtain ⟨rfl, hft, -⟩ := h_131
            have hft := hft (by omega)
            have hd := div160 (show 10 ≤ P[k].2.toInt by omega)
            refine j_imul dX2_timeBetween_134 ?_
            refine j_iadd dX2_timeBetween_135 ?_
            refine j_istore (L' := [(0, _), (1, _), (2, _), (3, _), (4, _), (5, _), (6, _), (7, _), (8, _)]) dX2_timeBetween_136 (by decide) rfl ?_
            refine j_iinc (v := 1) (L' := [(0, _), (1, _), (2, _), (3, _), (4, _), (5, _), (6, _), (7, _), (8, _)]) dX2_timeBetween_138 rfl (by decide) (by decide) rfl ?_
            refine j_goto (tgt := 40) dX2_timeBetween_141 (by decide) ?_
            have hi1 : (i + 1).toInt = k + 1 := by rw [ti_add (by rw [ti_1]; omega) (by rw [ti_1]; omega), ti_1]; omega
            have hcl := cnt_le (lostB S) b7.toInt (b8.toInt - b7.toInt).toNat
            have hseg : tmN (ftm P S 0) b7.toInt (b8.toInt - b7.toInt).toNat = (b8.toInt - b7.toInt - r_115.toInt) * r_131.toInt := by
              have e5 : b8.toInt - b7.toInt = ((b8.toInt - b7.toInt).toNat : Int) := by omega
              rw [hl, hft]
              generalize (b8.toInt - b7.toInt).toNat = N2 at e5 ⊢
              rw [e5, ← tmN_seg]
              apply tmN_congr
              intro f f1 f2
              unfold ftm
              rw [if_pos rfl, pHold_at hsrt hlt (by omega) (fun h' => by have := hnext h'; omega)]
            have hmul := mulK (x := b8.toInt - b7.toInt - r_115.toInt) (K := r_131.toInt) (by omega) (by omega) (by omega) (by omega)
            have m1 : (b8 - b7).toInt = b8.toInt - b7.toInt := ti_sub (by omega) (by omega)
            have m2 : (b8 - b7 - r_115).toInt = b8.toInt - b7.toInt - r_115.toInt := by rw [ti_sub (by omega) (by omega), m1]
            have m3 : ((b8 - b7 - r_115) * r_131).toInt = (b8.toInt - b7.toInt - r_115.toInt) * r_131.toInt := by rw [ti_mul (by rw [m2]; omega) (by rw [m2]; omega), m2]
            have m4 : (x + (b8 - b7 - r_115) * r_131).toInt = x.toInt + (b8.toInt - b7.toInt - r_115.toInt) * r_131.toInt := by rw [ti_add (by rw [m3]; omega) (by rw [m3]; omega), m3]
            refine j_sub2 (L' := [(0, .ref q), (1, .int a), (2, .int z), (3, .int w), (4, .int _), (5, .int _), (6, .int _)]) (List.forall_mem_cons.mpr ⟨rfl, List.forall_mem_cons.mpr ⟨rfl, List.forall_mem_cons.mpr ⟨rfl, List.forall_mem_cons.mpr ⟨rfl, List.forall_mem_cons.mpr ⟨rfl, List.forall_mem_cons.mpr ⟨rfl, List.forall_mem_cons.mpr ⟨rfl, fun _ h9 => nomatch h9⟩⟩⟩⟩⟩⟩⟩) ?_
            refine ih (k + 1) _ _ _ (by rw [hi1]; rfl) (by omega) hla ?_
            rw [m4, hx, ← hseg]
            have e1 : (min z.toInt (max a.toInt P[k].1.toInt) - a.toInt).toNat + (b8.toInt - b7.toInt).toNat = ((if hk : k + 1 < P.length then min z.toInt (max a.toInt P[k + 1].1.toInt) else z.toInt) - a.toInt).toNat := by split <;> (try have := hnext (by assumption)) <;> omega
            rw [← e1, tmN_add, show a.toInt + ((min z.toInt (max a.toInt P[k].1.toInt) - a.toInt).toNat : Int) = b7.toInt by omega]
  refine j_iload_n dX2_timeBetween_0 rfl ?_
  refine j_if_eq (tgt := 20) dX2_timeBetween_1 (by decide) (fun c_1 => ?_) (fun c_1 => ?_)
  · refine j_iconst (v := 0) dX2_timeBetween_20 (by decide) ?_
    refine j_istore (L' := [(0, _), (1, _), (2, _), (3, _), (4, _)]) dX2_timeBetween_21 (by decide) rfl ?_
    refine j_aload_n dX2_timeBetween_23 rfl ?_
    refine j_getr dX2_timeBetween_24 hB fl_X2_32 (by first | exact h.1 | exact h.2.2.2.2.2.1.1 | exact hm.1 | exact hm.2.1.1 | exact hm.2.2.1.1) (by rfl) ?_
    refine j_getr dX2_timeBetween_27 hB fl_X2_61 (by first | exact h.1 | exact h.2.2.2.2.2.1.1 | exact hm.1 | exact hm.2.1.1 | exact hm.2.2.1.1) (by rfl) ?_
    refine j_cVi dX2_timeBetween_30 hB mo_X3_size ml_X2_43 (sp_X3_size hB hm.2.1) (by first | exact h.1 | exact h.2.2.2.2.2.1.1 | exact hm.1 | exact hm.2.1.1 | exact hm.2.2.1.1) rfl rfl rfl rfl ⟨rfl, rfl, by decide, by decide⟩ (Nat.le_of_ble_eq_true rfl) ⟨by decide, by decide⟩ (fun r_30 V_30 h_30 => ?_)
    obtain ⟨rfl, hr⟩ := h_30
    rw [hm.2.2.2.1, List.length_map] at hr
    refine j_iconst (v := 1) dX2_timeBetween_33 (by decide) ?_
    refine j_isub dX2_timeBetween_34 ?_
    refine j_istore (L' := [(0, _), (1, _), (2, _), (3, _), (4, _), (5, _)]) dX2_timeBetween_35 (by decide) rfl ?_
    refine j_iconst (v := 0) dX2_timeBetween_37 (by decide) ?_
    refine j_istore (L' := [(0, _), (1, _), (2, _), (3, _), (4, _), (5, _), (6, _)]) dX2_timeBetween_38 (by decide) rfl ?_
    subst c_1
    rw [ti_0]
    refine loop rfl P.length 0 0 0 _ rfl (by omega) (by rw [ti_sub (by rw [ti_1]; omega) (by rw [ti_1]; omega), ti_1]; omega) ?_
    rw [dif_pos hpos, hF0, ti_0]
    rw [show (min z.toInt (max a.toInt 0) - a.toInt).toNat = 0 by omega]
    rfl
  · refine j_iload_n dX2_timeBetween_4 rfl ?_
    refine j_iload_n dX2_timeBetween_5 rfl ?_
    refine j_isub dX2_timeBetween_6 ?_
    refine j_aload_n dX2_timeBetween_7 rfl ?_
    refine j_iload_n dX2_timeBetween_8 rfl ?_
    refine j_iload_n dX2_timeBetween_9 rfl ?_
    refine j_cVi dX2_timeBetween_10 hB mo_X2_lostBetween ml_X2_76 (sp_X2_lostBetween hB h hsl h0 h1 h2) (by first | exact h.1 | exact h.2.2.2.2.2.1.1 | exact hm.1 | exact hm.2.1.1 | exact hm.2.2.1.1) rfl rfl rfl rfl ⟨rfl, rfl, by decide, by decide⟩ (Nat.le_of_ble_eq_true rfl) ⟨by decide, by decide⟩ (fun r_10 V_10 h_10 => ?_)
    obtain ⟨rfl, hl⟩ := h_10
    rw [hS] at hl
    refine j_isub dX2_timeBetween_13 ?_
    refine j_iload_n dX2_timeBetween_14 rfl ?_
    refine j_cSi dX2_timeBetween_15 hB mo_X2_footTime ml_X2_79 (sp_X2_footTime hB) rfl rfl ⟨rfl, rfl, by decide, by decide⟩ (Nat.le_of_ble_eq_true rfl) ⟨by decide, by decide⟩ (fun r_15 V_15 h_15 => ?_)
    obtain ⟨rfl, hft, -⟩ := h_15
    refine j_imul dX2_timeBetween_18 ?_
    refine j_iret dX2_timeBetween_19 rfl (rfl) (by decide) (by decide) ?_
    have hw1 : 10 ≤ w.toInt := by rcases hw with e | e; (exact absurd e c_1); exact e
    have hft := hft (by omega)
    have hd := div160 hw1
    have hcl := cnt_le (lostB S) a.toInt (z.toInt - a.toInt).toNat
    have hmul := mulK (x := z.toInt - a.toInt - r_10.toInt) (K := r_15.toInt) (by omega) (by omega) (by omega) (by omega)
    have m1 : (z - a).toInt = z.toInt - a.toInt := ti_sub (by omega) (by omega)
    have m2 : (z - a - r_10).toInt = z.toInt - a.toInt - r_10.toInt := by rw [ti_sub (by omega) (by omega), m1]
    refine ⟨_, rfl, rfl, rfl, rfl, rfl, ?_⟩
    rw [ti_mul (by rw [m2]; omega) (by rw [m2]; omega), m2, hl, hft]
    conv => lhs; lhs; lhs; rw [show z.toInt - a.toInt = ((z.toInt - a.toInt).toNat : Int) by omega]
    rw [← tmN_seg]
    apply tmN_congr
    intro f f1 f2
    unfold ftm
    rw [if_neg (show ¬ w.toInt = 0 by omega)]
end JReel3
