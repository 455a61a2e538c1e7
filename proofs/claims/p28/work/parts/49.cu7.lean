/-! CueSheets: offShare, meanSpeed, digest -/
theorem ofI_ti {x : Int32} {z : Int} (h : x.toInt = z) : x = Int32.ofInt z := by rw [← h, Int32.ofInt_toInt]
theorem lost_le {s : aS} {r : aR} (h : rlW s r) : ∀ k : Nat, k ≤ r.1.length → 0 ≤ aSum (aLost r) k ∧ aSum (aLost r) k ≤ aFirst r k
  | 0, _ => ⟨Int.le_refl 0, Int.le_refl 0⟩
  | k + 1, hk => by
    have ih := lost_le h k (by omega)
    have c := cnt_le (lostB r.2.2.2.2.2) (aFirst r k) (atZ r.1 k).toInt.toNat
    have l := len_rng h (show k < r.1.length by omega)
    have e : aLost r k = cnt (lostB r.2.2.2.2.2) (aFirst r k) (atZ r.1 k).toInt.toNat := rfl
    show 0 ≤ aSum (aLost r) k + aLost r k ∧ aSum (aLost r) k + aLost r k ≤ aFirst r k + (atZ r.1 k).toInt
    omega
theorem ds_rng {s : aS} {r : aR} {w : Int} (hp : pcW s) (hrl : rlW s r) (hw : w = 0 ∨ 10 ≤ w) : 0 ≤ aSum (aDs1 s r w) r.1.length ∧ aSum (aDs1 s r w) r.1.length ≤ 3000000 := by
  have h10 := hrl.2.2.2.1
  have := aSum_rng (f := aDs1 s r w) (B := 300000) (n := r.1.length) (fun k hk => by have := aDrift_rng hp hrl hw hk; unfold aDs1; omega) r.1.length (Nat.le_refl _)
  omega
/-- the share and the speed are no NaNs, 0 or positive and normal -/
theorem ofV_S {s : aS} {r : aR} (hp : pcW s) (hrl : rlW s r) : fS (ofV s r) := by
  have h1 := ds_rng hp hrl (w := 0) (Or.inl rfl)
  have h2 := aBeg_rng hrl (w := 0) (Or.inl rfl) r.1.length (Nat.le_refl _)
  have h10 := hrl.2.2.2.1
  unfold ofV
  split
  · exact Or.inl rfl
  · have e1 := ti_ofInt (z := aSum (aDs1 s r 0) r.1.length) (by omega) (by omega)
    have e2 := ti_ofInt (z := aBeg r 0 r.1.length) (by omega) (by omega)
    exact fdiv_S (by rw [e1]; omega) (by rw [e1]; omega) (by rw [e2]; omega) (by rw [e2]; omega)
theorem ofV_V {s : aS} {r : aR} (hp : pcW s) (hrl : rlW s r) : fV (ofV s r) := (ofV_S hp hrl).V
theorem mnV_S {s : aS} {r : aR} (hrl : rlW s r) : dS (mnV r) ∧ (¬ aBeg r 0 r.1.length = 0 → vf_n64 (FP.ddiv (FP.i2d (Int32.ofInt (aBeg r 0 r.1.length))) 0x4024000000000000)) := by
  have h2 := aBeg_rng hrl (w := 0) (Or.inl rfl) r.1.length (Nat.le_refl _)
  have h3 := lost_le hrl r.1.length (Nat.le_refl _)
  have h4 := aFirst_rng hrl r.1.length (Nat.le_refl _)
  have h10 := hrl.2.2.2.1
  have e1 := ti_ofInt (z := (aFirst r r.1.length - aSum (aLost r) r.1.length) * 16) (by omega) (by omega)
  have e2 := ti_ofInt (z := aBeg r 0 r.1.length) (by omega) (by omega)
  unfold mnV
  by_cases z : aBeg r 0 r.1.length = 0
  · rw [if_pos z]; exact ⟨Or.inl rfl, fun y => absurd z y⟩
  · rw [if_neg z]
    have := ddiv_S (x := Int32.ofInt ((aFirst r r.1.length - aSum (aLost r) r.1.length) * 16)) (y := Int32.ofInt (aBeg r 0 r.1.length)) (by rw [e1]; omega) (by rw [e2]; omega)
    exact ⟨this.2, fun _ => this.1⟩
theorem mnV_V {s : aS} {r : aR} (hrl : rlW s r) : dV (mnV r) ∧ (¬ aBeg r 0 r.1.length = 0 → vf_n64 (FP.ddiv (FP.i2d (Int32.ofInt (aBeg r 0 r.1.length))) 0x4024000000000000)) := ⟨(mnV_S hrl).1.V, (mnV_S hrl).2⟩
section JCu9
variable {l : Launch} {s0 : State} {D : jD} {T : jT} {V : jV} {X : jX} {sz : Nat}
set_option maxRecDepth 100000 in
set_option maxHeartbeats 4000000 in
theorem sp_X7_measuredOffShare (hB : jB l s0 D) {q : Nat} {x : aX} {rr : aR} (h : cuIs T V q x) (hp : pcW x.1) (hrl : rlW x.1 rr) (hT : TmIs T V (q + 461) x.1 rr 0) : Sp l s0 D kX7_measuredOffShare (jR 0 0 0) 0 0 [.ref q] T V X sz (qF T X sz (fun r V' => V = V' ∧ r = ofV x.1 rr)) := by
  refine Sp.of pn_X7_measuredOffShare rfl (Nat.le_of_ble_eq_true rfl) ?_
  obtain ⟨-, hA, hBt⟩ := hT
  have t9 := hA.2.2.2.2.2.2.2.2.2.2
  have t12 := hBt.2.2.2.2.2.2.2.2.1
  have o9 := ofI_ti t9
  have o12 := ofI_ti t12
  have hn := (ofV_V hp hrl).n
  refine j_aload_n dX7_measuredOffShare_0 rfl ?_
  refine j_getr dX7_measuredOffShare_1 hB fl_X7_39 (by first | exact h.k | exact hs.1 | exact hr.1 | exact hr.2.1.1 | exact hr.2.2.1.1 | exact hr.2.2.2.1.1 | exact hr.2.2.2.2.1.1 | exact hr.2.2.2.2.2.1.1 | exact hr.2.2.2.2.2.2.1.1 | exact hs.2.2.2.2.1.1 | exact hs.2.2.2.2.2.1.1 | exact hs.2.2.2.2.2.2.1.1 | exact h.t0.2.2 | exact h.rk.1 | exact h.rk.2.1.1 | exact h.rk.2.2.1.1 | exact h.rk.2.2.2.1.1 | exact h.rk.2.2.2.2.1 | exact h.tk.1 | exact h.tk.2.1.1 | exact h.tk.2.2.1.1 | exact h.tk.2.2.2.1.1 | exact h.tk.2.2.2.2.1.1 | exact h.tk.2.2.2.2.2.1.1 | exact h.tk.2.2.2.2.2.2.1.1 | exact h.tk.2.2.2.2.2.2.2.1 | exact h.tk2.1 | exact h.b.1.1) (by rfl) ?_
  refine j_geti dX7_measuredOffShare_4 hB fl_X7_329 (by first | exact h.k | exact hs.1 | exact hr.1 | exact hr.2.1.1 | exact hr.2.2.1.1 | exact hr.2.2.2.1.1 | exact hr.2.2.2.2.1.1 | exact hr.2.2.2.2.2.1.1 | exact hr.2.2.2.2.2.2.1.1 | exact hs.2.2.2.2.1.1 | exact hs.2.2.2.2.2.1.1 | exact hs.2.2.2.2.2.2.1.1 | exact h.t0.2.2 | exact h.rk.1 | exact h.rk.2.1.1 | exact h.rk.2.2.1.1 | exact h.rk.2.2.2.1.1 | exact h.rk.2.2.2.2.1 | exact h.tk.1 | exact h.tk.2.1.1 | exact h.tk.2.2.1.1 | exact h.tk.2.2.2.1.1 | exact h.tk.2.2.2.2.1.1 | exact h.tk.2.2.2.2.2.1.1 | exact h.tk.2.2.2.2.2.2.1.1 | exact h.tk.2.2.2.2.2.2.2.1 | exact h.tk2.1 | exact h.b.1.1) (by rfl) ?_
  refine j_if_ne (tgt := 14) dX7_measuredOffShare_7 (by decide) (fun c_7 => ?_) (fun c_7 => ?_)
  · have hz : ¬ aBeg rr 0 rr.1.length = 0 := fun e => c_7 (Int32.toInt_inj.mp (by rw [t9, e]; rfl))
    have hof : ofV x.1 rr = FP.fdiv (FP.i2f (V (q + 461) 12)) (FP.i2f (V (q + 461) 9)) := by unfold ofV; rw [if_neg hz, o9, o12]
    rw [hof] at hn
    refine j_aload_n dX7_measuredOffShare_14 rfl ?_
    refine j_getr dX7_measuredOffShare_15 hB fl_X7_39 (by first | exact h.k | exact hs.1 | exact hr.1 | exact hr.2.1.1 | exact hr.2.2.1.1 | exact hr.2.2.2.1.1 | exact hr.2.2.2.2.1.1 | exact hr.2.2.2.2.2.1.1 | exact hr.2.2.2.2.2.2.1.1 | exact hs.2.2.2.2.1.1 | exact hs.2.2.2.2.2.1.1 | exact hs.2.2.2.2.2.2.1.1 | exact h.t0.2.2 | exact h.rk.1 | exact h.rk.2.1.1 | exact h.rk.2.2.1.1 | exact h.rk.2.2.2.1.1 | exact h.rk.2.2.2.2.1 | exact h.tk.1 | exact h.tk.2.1.1 | exact h.tk.2.2.1.1 | exact h.tk.2.2.2.1.1 | exact h.tk.2.2.2.2.1.1 | exact h.tk.2.2.2.2.2.1.1 | exact h.tk.2.2.2.2.2.2.1.1 | exact h.tk.2.2.2.2.2.2.2.1 | exact h.tk2.1 | exact h.b.1.1) (by rfl) ?_
    refine j_geti dX7_measuredOffShare_18 hB fl_X7_298 (by first | exact h.k | exact hs.1 | exact hr.1 | exact hr.2.1.1 | exact hr.2.2.1.1 | exact hr.2.2.2.1.1 | exact hr.2.2.2.2.1.1 | exact hr.2.2.2.2.2.1.1 | exact hr.2.2.2.2.2.2.1.1 | exact hs.2.2.2.2.1.1 | exact hs.2.2.2.2.2.1.1 | exact hs.2.2.2.2.2.2.1.1 | exact h.t0.2.2 | exact h.rk.1 | exact h.rk.2.1.1 | exact h.rk.2.2.1.1 | exact h.rk.2.2.2.1.1 | exact h.rk.2.2.2.2.1 | exact h.tk.1 | exact h.tk.2.1.1 | exact h.tk.2.2.1.1 | exact h.tk.2.2.2.1.1 | exact h.tk.2.2.2.2.1.1 | exact h.tk.2.2.2.2.2.1.1 | exact h.tk.2.2.2.2.2.2.1.1 | exact h.tk.2.2.2.2.2.2.2.1 | exact h.tk2.1 | exact h.b.1.1) (by rfl) ?_
    refine j_i2f dX7_measuredOffShare_21 ?_
    refine j_aload_n dX7_measuredOffShare_22 rfl ?_
    refine j_getr dX7_measuredOffShare_23 hB fl_X7_39 (by first | exact h.k | exact hs.1 | exact hr.1 | exact hr.2.1.1 | exact hr.2.2.1.1 | exact hr.2.2.2.1.1 | exact hr.2.2.2.2.1.1 | exact hr.2.2.2.2.2.1.1 | exact hr.2.2.2.2.2.2.1.1 | exact hs.2.2.2.2.1.1 | exact hs.2.2.2.2.2.1.1 | exact hs.2.2.2.2.2.2.1.1 | exact h.t0.2.2 | exact h.rk.1 | exact h.rk.2.1.1 | exact h.rk.2.2.1.1 | exact h.rk.2.2.2.1.1 | exact h.rk.2.2.2.2.1 | exact h.tk.1 | exact h.tk.2.1.1 | exact h.tk.2.2.1.1 | exact h.tk.2.2.2.1.1 | exact h.tk.2.2.2.2.1.1 | exact h.tk.2.2.2.2.2.1.1 | exact h.tk.2.2.2.2.2.2.1.1 | exact h.tk.2.2.2.2.2.2.2.1 | exact h.tk2.1 | exact h.b.1.1) (by rfl) ?_
    refine j_geti dX7_measuredOffShare_26 hB fl_X7_329 (by first | exact h.k | exact hs.1 | exact hr.1 | exact hr.2.1.1 | exact hr.2.2.1.1 | exact hr.2.2.2.1.1 | exact hr.2.2.2.2.1.1 | exact hr.2.2.2.2.2.1.1 | exact hr.2.2.2.2.2.2.1.1 | exact hs.2.2.2.2.1.1 | exact hs.2.2.2.2.2.1.1 | exact hs.2.2.2.2.2.2.1.1 | exact h.t0.2.2 | exact h.rk.1 | exact h.rk.2.1.1 | exact h.rk.2.2.1.1 | exact h.rk.2.2.2.1.1 | exact h.rk.2.2.2.2.1 | exact h.tk.1 | exact h.tk.2.1.1 | exact h.tk.2.2.1.1 | exact h.tk.2.2.2.1.1 | exact h.tk.2.2.2.2.1.1 | exact h.tk.2.2.2.2.2.1.1 | exact h.tk.2.2.2.2.2.2.1.1 | exact h.tk.2.2.2.2.2.2.2.1 | exact h.tk2.1 | exact h.b.1.1) (by rfl) ?_
    refine j_i2f dX7_measuredOffShare_29 ?_
    refine j_fdiv dX7_measuredOffShare_30 (hn) ?_
    refine j_fret dX7_measuredOffShare_31 rfl (by decide) (by decide) ?_
    exact ⟨_, rfl, rfl, rfl, rfl, rfl, hof.symm⟩
  · refine j_fconst0 dX7_measuredOffShare_10 ?_
    refine j_goto (tgt := 31) dX7_measuredOffShare_11 (by decide) ?_
    refine j_fret dX7_measuredOffShare_31 rfl (by decide) (by decide) ?_
    exact ⟨_, rfl, rfl, rfl, rfl, rfl, by unfold ofV; rw [if_pos (by rw [← t9, c_7]; rfl)]; rfl⟩
set_option maxRecDepth 100000 in
set_option maxHeartbeats 4000000 in
theorem sp_X7_measuredMeanSpeed (hB : jB l s0 D) {q : Nat} {x : aX} {rr : aR} (h : cuIs T V q x) (hp : pcW x.1) (hrl : rlW x.1 rr) (hT : TmIs T V (q + 461) x.1 rr 0) : Sp l s0 D kX7_measuredMeanSpeed (jR 0 0 0) 0 0 [.ref q] T V X sz (qD T X sz (fun r V' => V = V' ∧ r = mnV rr)) := by
  refine Sp.of pn_X7_measuredMeanSpeed rfl (Nat.le_of_ble_eq_true rfl) ?_
  obtain ⟨-, hA, hBt⟩ := hT
  have t9 := hA.2.2.2.2.2.2.2.2.2.2
  have t12 := hBt.2.2.2.2.2.2.2.2.1
  have o9 := ofI_ti t9
  have o12 := ofI_ti t12
  have t7 := hA.2.2.2.2.2.2.2.2.1
  have t8 := hA.2.2.2.2.2.2.2.2.2.1
  have h3 := lost_le hrl rr.1.length (Nat.le_refl _)
  have h4 := aFirst_rng hrl rr.1.length (Nat.le_refl _)
  have h10 := hrl.2.2.2.1
  have k16 : (16 : Int32).toInt = 16 := by decide
  have ts : (V (q + 461) 7 - V (q + 461) 8).toInt = aFirst rr rr.1.length - aSum (aLost rr) rr.1.length := by rw [ti_sub (by omega) (by omega), t7, t8]
  have om := ofI_ti (x := (V (q + 461) 7 - V (q + 461) 8) * 16) (z := (aFirst rr rr.1.length - aSum (aLost rr) rr.1.length) * 16) (by rw [ti_mul (by rw [ts, k16]; omega) (by rw [ts, k16]; omega), ts, k16])
  have hn := (mnV_V hrl).1.n
  have hn2 := (mnV_V hrl).2
  refine j_aload_n dX7_measuredMeanSpeed_0 rfl ?_
  refine j_getr dX7_measuredMeanSpeed_1 hB fl_X7_39 (by first | exact h.k | exact hs.1 | exact hr.1 | exact hr.2.1.1 | exact hr.2.2.1.1 | exact hr.2.2.2.1.1 | exact hr.2.2.2.2.1.1 | exact hr.2.2.2.2.2.1.1 | exact hr.2.2.2.2.2.2.1.1 | exact hs.2.2.2.2.1.1 | exact hs.2.2.2.2.2.1.1 | exact hs.2.2.2.2.2.2.1.1 | exact h.t0.2.2 | exact h.rk.1 | exact h.rk.2.1.1 | exact h.rk.2.2.1.1 | exact h.rk.2.2.2.1.1 | exact h.rk.2.2.2.2.1 | exact h.tk.1 | exact h.tk.2.1.1 | exact h.tk.2.2.1.1 | exact h.tk.2.2.2.1.1 | exact h.tk.2.2.2.2.1.1 | exact h.tk.2.2.2.2.2.1.1 | exact h.tk.2.2.2.2.2.2.1.1 | exact h.tk.2.2.2.2.2.2.2.1 | exact h.tk2.1 | exact h.b.1.1) (by rfl) ?_
  refine j_geti dX7_measuredMeanSpeed_4 hB fl_X7_329 (by first | exact h.k | exact hs.1 | exact hr.1 | exact hr.2.1.1 | exact hr.2.2.1.1 | exact hr.2.2.2.1.1 | exact hr.2.2.2.2.1.1 | exact hr.2.2.2.2.2.1.1 | exact hr.2.2.2.2.2.2.1.1 | exact hs.2.2.2.2.1.1 | exact hs.2.2.2.2.2.1.1 | exact hs.2.2.2.2.2.2.1.1 | exact h.t0.2.2 | exact h.rk.1 | exact h.rk.2.1.1 | exact h.rk.2.2.1.1 | exact h.rk.2.2.2.1.1 | exact h.rk.2.2.2.2.1 | exact h.tk.1 | exact h.tk.2.1.1 | exact h.tk.2.2.1.1 | exact h.tk.2.2.2.1.1 | exact h.tk.2.2.2.2.1.1 | exact h.tk.2.2.2.2.2.1.1 | exact h.tk.2.2.2.2.2.2.1.1 | exact h.tk.2.2.2.2.2.2.2.1 | exact h.tk2.1 | exact h.b.1.1) (by rfl) ?_
  refine j_if_ne (tgt := 12) dX7_measuredMeanSpeed_7 (by decide) (fun c_7 => ?_) (fun c_7 => ?_)
  · have hz : ¬ aBeg rr 0 rr.1.length = 0 := fun e => c_7 (Int32.toInt_inj.mp (by rw [t9, e]; rfl))
    have hn2 := hn2 hz
    rw [← o9] at hn2
    have hof : mnV rr = FP.ddiv (FP.i2d ((V (q + 461) 7 - V (q + 461) 8) * 16)) (FP.ddiv (FP.i2d (V (q + 461) 9)) 4621819117588971520) := by unfold mnV; rw [if_neg hz, ← o9, ← om]
    rw [hof] at hn
    refine j_aload_n dX7_measuredMeanSpeed_12 rfl ?_
    refine j_getr dX7_measuredMeanSpeed_13 hB fl_X7_39 (by first | exact h.k | exact hs.1 | exact hr.1 | exact hr.2.1.1 | exact hr.2.2.1.1 | exact hr.2.2.2.1.1 | exact hr.2.2.2.2.1.1 | exact hr.2.2.2.2.2.1.1 | exact hr.2.2.2.2.2.2.1.1 | exact hs.2.2.2.2.1.1 | exact hs.2.2.2.2.2.1.1 | exact hs.2.2.2.2.2.2.1.1 | exact h.t0.2.2 | exact h.rk.1 | exact h.rk.2.1.1 | exact h.rk.2.2.1.1 | exact h.rk.2.2.2.1.1 | exact h.rk.2.2.2.2.1 | exact h.tk.1 | exact h.tk.2.1.1 | exact h.tk.2.2.1.1 | exact h.tk.2.2.2.1.1 | exact h.tk.2.2.2.2.1.1 | exact h.tk.2.2.2.2.2.1.1 | exact h.tk.2.2.2.2.2.2.1.1 | exact h.tk.2.2.2.2.2.2.2.1 | exact h.tk2.1 | exact h.b.1.1) (by rfl) ?_
    refine j_geti dX7_measuredMeanSpeed_16 hB fl_X7_323 (by first | exact h.k | exact hs.1 | exact hr.1 | exact hr.2.1.1 | exact hr.2.2.1.1 | exact hr.2.2.2.1.1 | exact hr.2.2.2.2.1.1 | exact hr.2.2.2.2.2.1.1 | exact hr.2.2.2.2.2.2.1.1 | exact hs.2.2.2.2.1.1 | exact hs.2.2.2.2.2.1.1 | exact hs.2.2.2.2.2.2.1.1 | exact h.t0.2.2 | exact h.rk.1 | exact h.rk.2.1.1 | exact h.rk.2.2.1.1 | exact h.rk.2.2.2.1.1 | exact h.rk.2.2.2.2.1 | exact h.tk.1 | exact h.tk.2.1.1 | exact h.tk.2.2.1.1 | exact h.tk.2.2.2.1.1 | exact h.tk.2.2.2.2.1.1 | exact h.tk.2.2.2.2.2.1.1 | exact h.tk.2.2.2.2.2.2.1.1 | exact h.tk.2.2.2.2.2.2.2.1 | exact h.tk2.1 | exact h.b.1.1) (by rfl) ?_
    refine j_aload_n dX7_measuredMeanSpeed_19 rfl ?_
    refine j_getr dX7_measuredMeanSpeed_20 hB fl_X7_39 (by first | exact h.k | exact hs.1 | exact hr.1 | exact hr.2.1.1 | exact hr.2.2.1.1 | exact hr.2.2.2.1.1 | exact hr.2.2.2.2.1.1 | exact hr.2.2.2.2.2.1.1 | exact hr.2.2.2.2.2.2.1.1 | exact hs.2.2.2.2.1.1 | exact hs.2.2.2.2.2.1.1 | exact hs.2.2.2.2.2.2.1.1 | exact h.t0.2.2 | exact h.rk.1 | exact h.rk.2.1.1 | exact h.rk.2.2.1.1 | exact h.rk.2.2.2.1.1 | exact h.rk.2.2.2.2.1 | exact h.tk.1 | exact h.tk.2.1.1 | exact h.tk.2.2.1.1 | exact h.tk.2.2.2.1.1 | exact h.tk.2.2.2.2.1.1 | exact h.tk.2.2.2.2.2.1.1 | exact h.tk.2.2.2.2.2.2.1.1 | exact h.tk.2.2.2.2.2.2.2.1 | exact h.tk2.1 | exact h.b.1.1) (by rfl) ?_
    refine j_geti dX7_measuredMeanSpeed_23 hB fl_X7_326 (by first | exact h.k | exact hs.1 | exact hr.1 | exact hr.2.1.1 | exact hr.2.2.1.1 | exact hr.2.2.2.1.1 | exact hr.2.2.2.2.1.1 | exact hr.2.2.2.2.2.1.1 | exact hr.2.2.2.2.2.2.1.1 | exact hs.2.2.2.2.1.1 | exact hs.2.2.2.2.2.1.1 | exact hs.2.2.2.2.2.2.1.1 | exact h.t0.2.2 | exact h.rk.1 | exact h.rk.2.1.1 | exact h.rk.2.2.1.1 | exact h.rk.2.2.2.1.1 | exact h.rk.2.2.2.2.1 | exact h.tk.1 | exact h.tk.2.1.1 | exact h.tk.2.2.1.1 | exact h.tk.2.2.2.1.1 | exact h.tk.2.2.2.2.1.1 | exact h.tk.2.2.2.2.2.1.1 | exact h.tk.2.2.2.2.2.2.1.1 | exact h.tk.2.2.2.2.2.2.2.1 | exact h.tk2.1 | exact h.b.1.1) (by rfl) ?_
    refine j_isub dX7_measuredMeanSpeed_26 ?_
    refine j_bipush (v := 16) dX7_measuredMeanSpeed_27 (by decide) ?_
    refine j_imul dX7_measuredMeanSpeed_29 ?_
    refine j_i2d dX7_measuredMeanSpeed_30 ?_
    refine j_dstore_n (L' := [(0, _), (1, _)]) dX7_measuredMeanSpeed_31 (by decide) rfl ?_
    refine j_dload_n dX7_measuredMeanSpeed_32 rfl ?_
    refine j_aload_n dX7_measuredMeanSpeed_33 rfl ?_
    refine j_getr dX7_measuredMeanSpeed_34 hB fl_X7_39 (by first | exact h.k | exact hs.1 | exact hr.1 | exact hr.2.1.1 | exact hr.2.2.1.1 | exact hr.2.2.2.1.1 | exact hr.2.2.2.2.1.1 | exact hr.2.2.2.2.2.1.1 | exact hr.2.2.2.2.2.2.1.1 | exact hs.2.2.2.2.1.1 | exact hs.2.2.2.2.2.1.1 | exact hs.2.2.2.2.2.2.1.1 | exact h.t0.2.2 | exact h.rk.1 | exact h.rk.2.1.1 | exact h.rk.2.2.1.1 | exact h.rk.2.2.2.1.1 | exact h.rk.2.2.2.2.1 | exact h.tk.1 | exact h.tk.2.1.1 | exact h.tk.2.2.1.1 | exact h.tk.2.2.2.1.1 | exact h.tk.2.2.2.2.1.1 | exact h.tk.2.2.2.2.2.1.1 | exact h.tk.2.2.2.2.2.2.1.1 | exact h.tk.2.2.2.2.2.2.2.1 | exact h.tk2.1 | exact h.b.1.1) (by rfl) ?_
    refine j_geti dX7_measuredMeanSpeed_37 hB fl_X7_329 (by first | exact h.k | exact hs.1 | exact hr.1 | exact hr.2.1.1 | exact hr.2.2.1.1 | exact hr.2.2.2.1.1 | exact hr.2.2.2.2.1.1 | exact hr.2.2.2.2.2.1.1 | exact hr.2.2.2.2.2.2.1.1 | exact hs.2.2.2.2.1.1 | exact hs.2.2.2.2.2.1.1 | exact hs.2.2.2.2.2.2.1.1 | exact h.t0.2.2 | exact h.rk.1 | exact h.rk.2.1.1 | exact h.rk.2.2.1.1 | exact h.rk.2.2.2.1.1 | exact h.rk.2.2.2.2.1 | exact h.tk.1 | exact h.tk.2.1.1 | exact h.tk.2.2.1.1 | exact h.tk.2.2.2.1.1 | exact h.tk.2.2.2.2.1.1 | exact h.tk.2.2.2.2.2.1.1 | exact h.tk.2.2.2.2.2.2.1.1 | exact h.tk.2.2.2.2.2.2.2.1 | exact h.tk2.1 | exact h.b.1.1) (by rfl) ?_
    refine j_i2d dX7_measuredMeanSpeed_40 ?_
    refine j_ldc2d dX7_measuredMeanSpeed_41 hB kc_X7_347 ?_
    refine j_ddiv dX7_measuredMeanSpeed_44 (hn2) ?_
    refine j_ddiv dX7_measuredMeanSpeed_45 (hn) ?_
    refine j_dret dX7_measuredMeanSpeed_46 rfl (by decide) (by decide) ?_
    exact ⟨_, rfl, rfl, rfl, rfl, rfl, hof.symm⟩
  · refine j_dconst0 dX7_measuredMeanSpeed_10 ?_
    refine j_dret dX7_measuredMeanSpeed_11 rfl (by decide) (by decide) ?_
    exact ⟨_, rfl, rfl, rfl, rfl, rfl, by unfold mnV; rw [if_pos (by rw [← t9, c_7]; rfl)]; rfl⟩
set_option maxRecDepth 100000 in
set_option maxHeartbeats 4000000 in
theorem sp_X7_offShare (hB : jB l s0 D) {q : Nat} {x : aX} {r : Int32} (h : cuIs T V q x) (hW : xW x) : Sp l s0 D kX7_offShare (jR 8 1 6) 1 6 [.ref q, .int r] T V X sz (qC T V X sz q (e_fit r) [IO] (fun v => v = some (.float (ofV x.1 (xR x r)))) x (x)) := by
  refine Sp.of pn_X7_offShare rfl (Nat.le_of_ble_eq_true rfl) ?_
  have hs := h.st
  have hr := hs.reel r.toInt
  have hrl := hW.1.r r.toInt
  refine j_aload_n dX7_offShare_0 rfl ?_
  refine j_iload_n dX7_offShare_1 rfl ?_
  refine j_tV dX7_offShare_2 hB mo_X7_requireReel ml_X7_53 (sp_X7_requireReel hB) (by first | exact h.k | exact hs.1 | exact hr.1 | exact hr.2.1.1 | exact hr.2.2.1.1 | exact hr.2.2.2.1.1 | exact hr.2.2.2.2.1.1 | exact hr.2.2.2.2.2.1.1 | exact hr.2.2.2.2.2.2.1.1 | exact hs.2.2.2.2.1.1 | exact hs.2.2.2.2.2.1.1 | exact hs.2.2.2.2.2.2.1.1 | exact h.t0.2.2 | exact h.rk.1 | exact h.rk.2.1.1 | exact h.rk.2.2.1.1 | exact h.rk.2.2.2.1.1 | exact h.rk.2.2.2.2.1 | exact h.tk.1 | exact h.tk.2.1.1 | exact h.tk.2.2.1.1 | exact h.tk.2.2.2.1.1 | exact h.tk.2.2.2.2.1.1 | exact h.tk.2.2.2.2.2.1.1 | exact h.tk.2.2.2.2.2.2.1.1 | exact h.tk.2.2.2.2.2.2.2.1 | exact h.tk2.1 | exact h.b.1.1) rfl rfl rfl rfl ⟨rfl, rfl, by decide, by decide⟩ (Nat.le_of_ble_eq_true rfl) ⟨by decide, by decide⟩ rfl ⟨by decide, by decide⟩ (fun E V_2 sz_2 hz hx => by obtain ⟨rfl, rfl, hn⟩ := hx; exact qC.thr 0 hz rfl (by show e_fit r = 1; unfold e_fit; exact (if_pos hn)) jAg.rf h) (fun v_2 V_2 h_2 => ?_)
  obtain ⟨rfl, rfl, h_2⟩ := h_2
  refine j_aload_n dX7_offShare_5 rfl ?_
  refine j_getr dX7_offShare_6 hB fl_X7_39 (by first | exact h.k | exact hs.1 | exact hr.1 | exact hr.2.1.1 | exact hr.2.2.1.1 | exact hr.2.2.2.1.1 | exact hr.2.2.2.2.1.1 | exact hr.2.2.2.2.2.1.1 | exact hr.2.2.2.2.2.2.1.1 | exact hs.2.2.2.2.1.1 | exact hs.2.2.2.2.2.1.1 | exact hs.2.2.2.2.2.2.1.1 | exact h.t0.2.2 | exact h.rk.1 | exact h.rk.2.1.1 | exact h.rk.2.2.1.1 | exact h.rk.2.2.2.1.1 | exact h.rk.2.2.2.2.1 | exact h.tk.1 | exact h.tk.2.1.1 | exact h.tk.2.2.1.1 | exact h.tk.2.2.2.1.1 | exact h.tk.2.2.2.2.1.1 | exact h.tk.2.2.2.2.2.1.1 | exact h.tk.2.2.2.2.2.2.1.1 | exact h.tk.2.2.2.2.2.2.2.1 | exact h.tk2.1 | exact h.b.1.1) (by rfl) ?_
  refine j_aload_n dX7_offShare_9 rfl ?_
  refine j_getr dX7_offShare_10 hB fl_X7_10 (by first | exact h.k | exact hs.1 | exact hr.1 | exact hr.2.1.1 | exact hr.2.2.1.1 | exact hr.2.2.2.1.1 | exact hr.2.2.2.2.1.1 | exact hr.2.2.2.2.2.1.1 | exact hr.2.2.2.2.2.2.1.1 | exact hs.2.2.2.2.1.1 | exact hs.2.2.2.2.2.1.1 | exact hs.2.2.2.2.2.2.1.1 | exact h.t0.2.2 | exact h.rk.1 | exact h.rk.2.1.1 | exact h.rk.2.2.1.1 | exact h.rk.2.2.2.1.1 | exact h.rk.2.2.2.2.1 | exact h.tk.1 | exact h.tk.2.1.1 | exact h.tk.2.2.1.1 | exact h.tk.2.2.2.1.1 | exact h.tk.2.2.2.2.1.1 | exact h.tk.2.2.2.2.2.1.1 | exact h.tk.2.2.2.2.2.2.1.1 | exact h.tk.2.2.2.2.2.2.2.1 | exact h.tk2.1 | exact h.b.1.1) (by rfl) ?_
  refine j_aload_n dX7_offShare_13 rfl ?_
  refine j_getr dX7_offShare_14 hB fl_X7_10 (by first | exact h.k | exact hs.1 | exact hr.1 | exact hr.2.1.1 | exact hr.2.2.1.1 | exact hr.2.2.2.1.1 | exact hr.2.2.2.2.1.1 | exact hr.2.2.2.2.2.1.1 | exact hr.2.2.2.2.2.2.1.1 | exact hs.2.2.2.2.1.1 | exact hs.2.2.2.2.2.1.1 | exact hs.2.2.2.2.2.2.1.1 | exact h.t0.2.2 | exact h.rk.1 | exact h.rk.2.1.1 | exact h.rk.2.2.1.1 | exact h.rk.2.2.2.1.1 | exact h.rk.2.2.2.2.1 | exact h.tk.1 | exact h.tk.2.1.1 | exact h.tk.2.2.1.1 | exact h.tk.2.2.2.1.1 | exact h.tk.2.2.2.2.1.1 | exact h.tk.2.2.2.2.2.1.1 | exact h.tk.2.2.2.2.2.2.1.1 | exact h.tk.2.2.2.2.2.2.2.1 | exact h.tk2.1 | exact h.b.1.1) (by rfl) ?_
  refine j_iload_n dX7_offShare_17 rfl ?_
  refine j_cVa dX7_offShare_18 hB mo_X5_reelAt ml_X7_60 (sp_X5_reelAt hB hs) (by first | exact h.k | exact hs.1 | exact hr.1 | exact hr.2.1.1 | exact hr.2.2.1.1 | exact hr.2.2.2.1.1 | exact hr.2.2.2.2.1.1 | exact hr.2.2.2.2.2.1.1 | exact hr.2.2.2.2.2.2.1.1 | exact hs.2.2.2.2.1.1 | exact hs.2.2.2.2.2.1.1 | exact hs.2.2.2.2.2.2.1.1 | exact h.t0.2.2 | exact h.rk.1 | exact h.rk.2.1.1 | exact h.rk.2.2.1.1 | exact h.rk.2.2.2.1.1 | exact h.rk.2.2.2.2.1 | exact h.tk.1 | exact h.tk.2.1.1 | exact h.tk.2.2.1.1 | exact h.tk.2.2.2.1.1 | exact h.tk.2.2.2.2.1.1 | exact h.tk.2.2.2.2.2.1.1 | exact h.tk.2.2.2.2.2.2.1.1 | exact h.tk.2.2.2.2.2.2.2.1 | exact h.tk2.1 | exact h.b.1.1) rfl rfl rfl rfl ⟨rfl, rfl, by decide, by decide⟩ (Nat.le_of_ble_eq_true rfl) ⟨by decide, by decide⟩ (fun r_18 V_18 h_18 => ?_)
  obtain ⟨rfl, hq⟩ := h_18
  subst hq
  refine j_iconst (v := 0) dX7_offShare_21 (by decide) ?_
  refine j_cVu dX7_offShare_22 hB mo_X6_measure ml_X7_141 (sp_X6_measure hB h.tk h.st (hr) (by omega) (by have := reelA_in (q + 1) r.toInt; omega) hW.1.1 (hW.1.r _) (Or.inl rfl) hW.1.2.1.1) (by first | exact h.k | exact hs.1 | exact hr.1 | exact hr.2.1.1 | exact hr.2.2.1.1 | exact hr.2.2.2.1.1 | exact hr.2.2.2.2.1.1 | exact hr.2.2.2.2.2.1.1 | exact hr.2.2.2.2.2.2.1.1 | exact hs.2.2.2.2.1.1 | exact hs.2.2.2.2.2.1.1 | exact hs.2.2.2.2.2.2.1.1 | exact h.t0.2.2 | exact h.rk.1 | exact h.rk.2.1.1 | exact h.rk.2.2.1.1 | exact h.rk.2.2.2.1.1 | exact h.rk.2.2.2.2.1 | exact h.tk.1 | exact h.tk.2.1.1 | exact h.tk.2.2.1.1 | exact h.tk.2.2.2.1.1 | exact h.tk.2.2.2.2.1.1 | exact h.tk.2.2.2.2.2.1.1 | exact h.tk.2.2.2.2.2.2.1.1 | exact h.tk.2.2.2.2.2.2.2.1 | exact h.tk2.1 | exact h.b.1.1) rfl rfl rfl rfl ⟨rfl, rfl, by decide, by decide⟩ (Nat.le_of_ble_eq_true rfl) ⟨by decide, by decide⟩ (fun V_22 h_22 => ?_)
  obtain ⟨gT, aT⟩ := h_22
  have gT : TmIs T V_22 (q + 461) x.1 _ 0 := gT
  have cT := h.tm aT gT.k
  refine j_aload_n dX7_offShare_25 rfl ?_
  refine j_cVf dX7_offShare_26 hB mo_X7_measuredOffShare ml_X7_252 (sp_X7_measuredOffShare hB cT hW.1.1 hrl gT) (by first | exact h.k | exact hs.1 | exact hr.1 | exact hr.2.1.1 | exact hr.2.2.1.1 | exact hr.2.2.2.1.1 | exact hr.2.2.2.2.1.1 | exact hr.2.2.2.2.2.1.1 | exact hr.2.2.2.2.2.2.1.1 | exact hs.2.2.2.2.1.1 | exact hs.2.2.2.2.2.1.1 | exact hs.2.2.2.2.2.2.1.1 | exact h.t0.2.2 | exact h.rk.1 | exact h.rk.2.1.1 | exact h.rk.2.2.1.1 | exact h.rk.2.2.2.1.1 | exact h.rk.2.2.2.2.1 | exact h.tk.1 | exact h.tk.2.1.1 | exact h.tk.2.2.1.1 | exact h.tk.2.2.2.1.1 | exact h.tk.2.2.2.2.1.1 | exact h.tk.2.2.2.2.2.1.1 | exact h.tk.2.2.2.2.2.2.1.1 | exact h.tk.2.2.2.2.2.2.2.1 | exact h.tk2.1 | exact h.b.1.1) rfl rfl rfl rfl ⟨rfl, rfl, by decide, by decide⟩ (Nat.le_of_ble_eq_true rfl) ⟨by decide, by decide⟩ (fun r_26 V_26 h_26 => ?_)
  obtain ⟨rfl, t1⟩ := h_26
  refine j_fret dX7_offShare_29 rfl (by decide) (by decide) ?_
  exact qC.ret (by show e_fit r = 0; unfold e_fit; exact (if_neg (fun z => z h_2))) (by rw [t1]; rfl) (aT.wide (by omega) (by omega)) cT
set_option maxRecDepth 100000 in
set_option maxHeartbeats 4000000 in
theorem sp_X7_meanSpeed (hB : jB l s0 D) {q : Nat} {x : aX} {r : Int32} (h : cuIs T V q x) (hW : xW x) : Sp l s0 D kX7_meanSpeed (jR 8 1 6) 1 6 [.ref q, .int r] T V X sz (qC T V X sz q (e_fit r) [IO] (fun v => v = some (.double (mnV (xR x r)))) x (x)) := by
  refine Sp.of pn_X7_meanSpeed rfl (Nat.le_of_ble_eq_true rfl) ?_
  have hs := h.st
  have hr := hs.reel r.toInt
  have hrl := hW.1.r r.toInt
  refine j_aload_n dX7_meanSpeed_0 rfl ?_
  refine j_iload_n dX7_meanSpeed_1 rfl ?_
  refine j_tV dX7_meanSpeed_2 hB mo_X7_requireReel ml_X7_53 (sp_X7_requireReel hB) (by first | exact h.k | exact hs.1 | exact hr.1 | exact hr.2.1.1 | exact hr.2.2.1.1 | exact hr.2.2.2.1.1 | exact hr.2.2.2.2.1.1 | exact hr.2.2.2.2.2.1.1 | exact hr.2.2.2.2.2.2.1.1 | exact hs.2.2.2.2.1.1 | exact hs.2.2.2.2.2.1.1 | exact hs.2.2.2.2.2.2.1.1 | exact h.t0.2.2 | exact h.rk.1 | exact h.rk.2.1.1 | exact h.rk.2.2.1.1 | exact h.rk.2.2.2.1.1 | exact h.rk.2.2.2.2.1 | exact h.tk.1 | exact h.tk.2.1.1 | exact h.tk.2.2.1.1 | exact h.tk.2.2.2.1.1 | exact h.tk.2.2.2.2.1.1 | exact h.tk.2.2.2.2.2.1.1 | exact h.tk.2.2.2.2.2.2.1.1 | exact h.tk.2.2.2.2.2.2.2.1 | exact h.tk2.1 | exact h.b.1.1) rfl rfl rfl rfl ⟨rfl, rfl, by decide, by decide⟩ (Nat.le_of_ble_eq_true rfl) ⟨by decide, by decide⟩ rfl ⟨by decide, by decide⟩ (fun E V_2 sz_2 hz hx => by obtain ⟨rfl, rfl, hn⟩ := hx; exact qC.thr 0 hz rfl (by show e_fit r = 1; unfold e_fit; exact (if_pos hn)) jAg.rf h) (fun v_2 V_2 h_2 => ?_)
  obtain ⟨rfl, rfl, h_2⟩ := h_2
  refine j_aload_n dX7_meanSpeed_5 rfl ?_
  refine j_getr dX7_meanSpeed_6 hB fl_X7_39 (by first | exact h.k | exact hs.1 | exact hr.1 | exact hr.2.1.1 | exact hr.2.2.1.1 | exact hr.2.2.2.1.1 | exact hr.2.2.2.2.1.1 | exact hr.2.2.2.2.2.1.1 | exact hr.2.2.2.2.2.2.1.1 | exact hs.2.2.2.2.1.1 | exact hs.2.2.2.2.2.1.1 | exact hs.2.2.2.2.2.2.1.1 | exact h.t0.2.2 | exact h.rk.1 | exact h.rk.2.1.1 | exact h.rk.2.2.1.1 | exact h.rk.2.2.2.1.1 | exact h.rk.2.2.2.2.1 | exact h.tk.1 | exact h.tk.2.1.1 | exact h.tk.2.2.1.1 | exact h.tk.2.2.2.1.1 | exact h.tk.2.2.2.2.1.1 | exact h.tk.2.2.2.2.2.1.1 | exact h.tk.2.2.2.2.2.2.1.1 | exact h.tk.2.2.2.2.2.2.2.1 | exact h.tk2.1 | exact h.b.1.1) (by rfl) ?_
  refine j_aload_n dX7_meanSpeed_9 rfl ?_
  refine j_getr dX7_meanSpeed_10 hB fl_X7_10 (by first | exact h.k | exact hs.1 | exact hr.1 | exact hr.2.1.1 | exact hr.2.2.1.1 | exact hr.2.2.2.1.1 | exact hr.2.2.2.2.1.1 | exact hr.2.2.2.2.2.1.1 | exact hr.2.2.2.2.2.2.1.1 | exact hs.2.2.2.2.1.1 | exact hs.2.2.2.2.2.1.1 | exact hs.2.2.2.2.2.2.1.1 | exact h.t0.2.2 | exact h.rk.1 | exact h.rk.2.1.1 | exact h.rk.2.2.1.1 | exact h.rk.2.2.2.1.1 | exact h.rk.2.2.2.2.1 | exact h.tk.1 | exact h.tk.2.1.1 | exact h.tk.2.2.1.1 | exact h.tk.2.2.2.1.1 | exact h.tk.2.2.2.2.1.1 | exact h.tk.2.2.2.2.2.1.1 | exact h.tk.2.2.2.2.2.2.1.1 | exact h.tk.2.2.2.2.2.2.2.1 | exact h.tk2.1 | exact h.b.1.1) (by rfl) ?_
  refine j_aload_n dX7_meanSpeed_13 rfl ?_
  refine j_getr dX7_meanSpeed_14 hB fl_X7_10 (by first | exact h.k | exact hs.1 | exact hr.1 | exact hr.2.1.1 | exact hr.2.2.1.1 | exact hr.2.2.2.1.1 | exact hr.2.2.2.2.1.1 | exact hr.2.2.2.2.2.1.1 | exact hr.2.2.2.2.2.2.1.1 | exact hs.2.2.2.2.1.1 | exact hs.2.2.2.2.2.1.1 | exact hs.2.2.2.2.2.2.1.1 | exact h.t0.2.2 | exact h.rk.1 | exact h.rk.2.1.1 | exact h.rk.2.2.1.1 | exact h.rk.2.2.2.1.1 | exact h.rk.2.2.2.2.1 | exact h.tk.1 | exact h.tk.2.1.1 | exact h.tk.2.2.1.1 | exact h.tk.2.2.2.1.1 | exact h.tk.2.2.2.2.1.1 | exact h.tk.2.2.2.2.2.1.1 | exact h.tk.2.2.2.2.2.2.1.1 | exact h.tk.2.2.2.2.2.2.2.1 | exact h.tk2.1 | exact h.b.1.1) (by rfl) ?_
  refine j_iload_n dX7_meanSpeed_17 rfl ?_
  refine j_cVa dX7_meanSpeed_18 hB mo_X5_reelAt ml_X7_60 (sp_X5_reelAt hB hs) (by first | exact h.k | exact hs.1 | exact hr.1 | exact hr.2.1.1 | exact hr.2.2.1.1 | exact hr.2.2.2.1.1 | exact hr.2.2.2.2.1.1 | exact hr.2.2.2.2.2.1.1 | exact hr.2.2.2.2.2.2.1.1 | exact hs.2.2.2.2.1.1 | exact hs.2.2.2.2.2.1.1 | exact hs.2.2.2.2.2.2.1.1 | exact h.t0.2.2 | exact h.rk.1 | exact h.rk.2.1.1 | exact h.rk.2.2.1.1 | exact h.rk.2.2.2.1.1 | exact h.rk.2.2.2.2.1 | exact h.tk.1 | exact h.tk.2.1.1 | exact h.tk.2.2.1.1 | exact h.tk.2.2.2.1.1 | exact h.tk.2.2.2.2.1.1 | exact h.tk.2.2.2.2.2.1.1 | exact h.tk.2.2.2.2.2.2.1.1 | exact h.tk.2.2.2.2.2.2.2.1 | exact h.tk2.1 | exact h.b.1.1) rfl rfl rfl rfl ⟨rfl, rfl, by decide, by decide⟩ (Nat.le_of_ble_eq_true rfl) ⟨by decide, by decide⟩ (fun r_18 V_18 h_18 => ?_)
  obtain ⟨rfl, hq⟩ := h_18
  subst hq
  refine j_iconst (v := 0) dX7_meanSpeed_21 (by decide) ?_
  refine j_cVu dX7_meanSpeed_22 hB mo_X6_measure ml_X7_141 (sp_X6_measure hB h.tk h.st (hr) (by omega) (by have := reelA_in (q + 1) r.toInt; omega) hW.1.1 (hW.1.r _) (Or.inl rfl) hW.1.2.1.1) (by first | exact h.k | exact hs.1 | exact hr.1 | exact hr.2.1.1 | exact hr.2.2.1.1 | exact hr.2.2.2.1.1 | exact hr.2.2.2.2.1.1 | exact hr.2.2.2.2.2.1.1 | exact hr.2.2.2.2.2.2.1.1 | exact hs.2.2.2.2.1.1 | exact hs.2.2.2.2.2.1.1 | exact hs.2.2.2.2.2.2.1.1 | exact h.t0.2.2 | exact h.rk.1 | exact h.rk.2.1.1 | exact h.rk.2.2.1.1 | exact h.rk.2.2.2.1.1 | exact h.rk.2.2.2.2.1 | exact h.tk.1 | exact h.tk.2.1.1 | exact h.tk.2.2.1.1 | exact h.tk.2.2.2.1.1 | exact h.tk.2.2.2.2.1.1 | exact h.tk.2.2.2.2.2.1.1 | exact h.tk.2.2.2.2.2.2.1.1 | exact h.tk.2.2.2.2.2.2.2.1 | exact h.tk2.1 | exact h.b.1.1) rfl rfl rfl rfl ⟨rfl, rfl, by decide, by decide⟩ (Nat.le_of_ble_eq_true rfl) ⟨by decide, by decide⟩ (fun V_22 h_22 => ?_)
  obtain ⟨gT, aT⟩ := h_22
  have gT : TmIs T V_22 (q + 461) x.1 _ 0 := gT
  have cT := h.tm aT gT.k
  refine j_aload_n dX7_meanSpeed_25 rfl ?_
  refine j_cVd dX7_meanSpeed_26 hB mo_X7_measuredMeanSpeed ml_X7_256 (sp_X7_measuredMeanSpeed hB cT hW.1.1 hrl gT) (by first | exact h.k | exact hs.1 | exact hr.1 | exact hr.2.1.1 | exact hr.2.2.1.1 | exact hr.2.2.2.1.1 | exact hr.2.2.2.2.1.1 | exact hr.2.2.2.2.2.1.1 | exact hr.2.2.2.2.2.2.1.1 | exact hs.2.2.2.2.1.1 | exact hs.2.2.2.2.2.1.1 | exact hs.2.2.2.2.2.2.1.1 | exact h.t0.2.2 | exact h.rk.1 | exact h.rk.2.1.1 | exact h.rk.2.2.1.1 | exact h.rk.2.2.2.1.1 | exact h.rk.2.2.2.2.1 | exact h.tk.1 | exact h.tk.2.1.1 | exact h.tk.2.2.1.1 | exact h.tk.2.2.2.1.1 | exact h.tk.2.2.2.2.1.1 | exact h.tk.2.2.2.2.2.1.1 | exact h.tk.2.2.2.2.2.2.1.1 | exact h.tk.2.2.2.2.2.2.2.1 | exact h.tk2.1 | exact h.b.1.1) rfl rfl rfl rfl ⟨rfl, rfl, by decide, by decide⟩ (Nat.le_of_ble_eq_true rfl) ⟨by decide, by decide⟩ (fun r_26 V_26 h_26 => ?_)
  obtain ⟨rfl, t1⟩ := h_26
  refine j_dret dX7_meanSpeed_29 rfl (by decide) (by decide) ?_
  exact qC.ret (by show e_fit r = 0; unfold e_fit; exact (if_neg (fun z => z h_2))) (by rw [t1]; rfl) (aT.wide (by omega) (by omega)) cT
end JCu9
