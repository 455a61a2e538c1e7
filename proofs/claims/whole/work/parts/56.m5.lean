/-! CueSheetsModel: properties, the best piece, the best speed, the share, the mean speed -/
/-- only what is behind the tenth field of the object has changed -/
def mF (V V' : jV) (q : Nat) : Prop := jAg V V' q (q + 1) ∧ ∀ k, k < 10 → V' q k = V q k
theorem mF.rf {V : jV} {q : Nat} : mF V V q := ⟨jAg.rf, fun _ _ => rfl⟩
theorem mF.f {V V' : jV} {q k : Nat} {v : Int32} (h : mF V V' q) (hk : 10 ≤ k) : mF V (jset V' q k v) q := ⟨h.1.set (Nat.le_refl q) (Nat.lt_succ_self q), fun i hi => by rw [jset_ne (Or.inr (by omega))]; exact h.2 i hi⟩
theorem mF.kp {V V' : jV} {q : Nat} (h : mF V V' q) : mKp V V' q := ⟨fun a ha => h.1 a (by omega), h.1 _ (by omega), h.1 _ (by omega), h.1 _ (by omega), h.2⟩
theorem mF.ly {V V' : jV} {q : Nat} {s : aS} {r : aR} {w : Int} {m : Nat} (h : mF V V' q) (hl : lyP V q s r w m) : lyP V' q s r w m := by
  unfold lyP lyB
  rw [h.1 (q + 4) (by omega), h.1 (q + 5) (by omega), h.1 (q + 6) (by omega), h.1 (q + 7) (by omega)]
  exact hl
theorem rlP_m {s : aS} {r : aR} (hp : pcW s) (hrl : rlW s r) {w : Int} (hw : w = 0 ∨ w = 3 ∨ w = 6 ∨ w = 7) : 0 ≤ rlP s r w ∧ rlP s r w ≤ 144000 := by
  have h10 := hrl.2.2.2.1
  rcases hw with rfl | rfl | rfl | rfl
  · show 0 ≤ (r.1.length : Int) ∧ (r.1.length : Int) ≤ 144000; omega
  · show 0 ≤ aBeg r 0 r.1.length ∧ aBeg r 0 r.1.length ≤ 144000
    have := aBeg_rng hrl (w := 0) (Or.inl rfl) r.1.length (Nat.le_refl _); omega
  · show 0 ≤ aSum (aCue1 r) r.1.length ∧ aSum (aCue1 r) r.1.length ≤ 144000
    have := aSum_rng (f := aCue1 r) (B := 1) (n := r.1.length) (fun k hk => by unfold aCue1 cueI; split <;> omega) r.1.length (Nat.le_refl _); omega
  · show 0 ≤ aSum (aBad1 s r 0) r.1.length ∧ aSum (aBad1 s r 0) r.1.length ≤ 144000
    have := aSum_rng (f := aBad1 s r 0) (B := 1) (n := r.1.length) (fun k hk => by unfold aBad1; split <;> omega) r.1.length (Nat.le_refl _); omega
section JM5
variable {l : Launch} {s0 : State} {D : jD} {T : jT} {V : jV} {X : jX} {sz : Nat}
theorem noCue {s : aS} {r : aR} (h : rlW s r) {k : Nat} (hk : k < r.1.length) (hc : ¬ isCue r k) : atZ r.2.2.1 k = 0 ∧ atZ r.2.2.2.1 k = 0 := by
  rcases h.2.2.2.2.2.1 k hk with ⟨a, b, c⟩ | ⟨a, b⟩
  · exact ⟨b, c⟩
  · have e : atZ r.2.1 k = -2000001 := Classical.not_not.mp hc
    rw [e] at a
    exact absurd a (by decide)
set_option maxRecDepth 100000 in
set_option maxHeartbeats 4000000 in
theorem sp_X8_silence (hB : jB l s0 D) {q : Nat} (h0 : moT T q) {r : Int32} {z : Nat} (hz : r.toInt = z) (z3 : z < 3) {x : aX} (h : moIs T V q x) (hW : stW x.1) {w : Int} {m : Nat} (hw : w = 0 ∨ 10 ≤ w) (hl : lyP V q x.1 (xR x r) w m) (hm : (xR x r).1.length ≤ m) : Sp l s0 D kX8_silence (jR 1 0 0) 0 0 [.ref q, .int r] T V X sz (qI T X sz (fun y V' => V = V' ∧ y.toInt = aSil x.1 (xR x r) w)) := by
  refine Sp.of pn_X8_silence rfl (Nat.le_of_ble_eq_true rfl) ?_
  have hr := h.r hz z3
  have hrl : rlW x.1 (xR x r) := hW.r _
  have h10 := hrl.2.2.2.1
  have hp := hW.1
  have hbl : isI (V (q + 4) (xR x r).1.length) (aBeg (xR x r) w (xR x r).1.length) := hl.1.1 _ (Nat.le_refl _)
  have b0 := aBeg_rng hrl hw (xR x r).1.length (Nat.le_refl _)
  have loop : ∀ (n j : Nat) (i y e : Int32), j + n = (xR x r).1.length → i.toInt = j → e.toInt = aBeg (xR x r) w (xR x r).1.length → y.toInt = aBeg (xR x r) w (xR x r).1.length - aSum (aMu x.1 (xR x r) w) j → J l s0 D kX8_silence (jR 1 0 0) 0 0 (qI T X sz (fun y V' => V = V' ∧ y.toInt = aSil x.1 (xR x r) w)) 16 [(0, .ref q), (1, .int r), (2, .int e), (3, .int y), (4, .int i)] [] T V X sz 0 0 := by
    intro n
    refine Nat.strongRecOn n ?_
    clear n
    intro n ih j i y e hn hi he hy
    have hys := aSum_rng (f := aMu x.1 (xR x r) w) (B := 300000) (n := (xR x r).1.length) (fun k hk => aMu_rng hp hrl hw hk) j (by omega)
    refine j_iload dX8_silence_16 rfl ?_
    refine j_aload_n dX8_silence_18 rfl ?_
    refine j_iload_n dX8_silence_19 rfl ?_
    refine j_cVi dX8_silence_20 hB mo_X8_scenes ml_X8_46 (sp_X8_scenes hB h0 (ixk (k := z) (hz) (by omega)) z3) (by first | exact h0.1 | exact h0.2.1 | exact h0.2.2.1 | exact h0.2.2.2.1 | exact h0.2.2.2.2.1 | exact h0.2.2.2.2.2.1 | exact h0.2.2.2.2.2.2.1 | exact h0.2.2.2.2.2.2.2.1 | exact h0.2.2.2.2.2.2.2.2) rfl rfl rfl rfl ⟨rfl, rfl, by decide, by decide⟩ (Nat.le_of_ble_eq_true rfl) ⟨by decide, by decide⟩ (fun r_20 V_20 h_20 => ?_)
    obtain ⟨rfl, h_20⟩ := h_20
    subst h_20
    refine m_icmp_ge (tgt := 89) dX8_silence_23 (by decide) (hi) (hr.1) (fun c_23 => ?_) (fun c_23 => ?_)
    · refine j_iload_n dX8_silence_89 rfl ?_
      refine j_iret dX8_silence_90 rfl (rfl) (by decide) (by decide) ?_
      exact ⟨_, rfl, rfl, rfl, rfl, rfl, by rw [hy, show j = (xR x r).1.length by omega]; rfl⟩
    · have hcb : isI (V (q + 6) j) (aCb x.1 (xR x r) w j) := (hl.2 j (by omega)).1
      have hce : isI (V (q + 7) j) (aEnd x.1 (xR x r) w j) := (hl.2 j (by omega)).2
      have mu0 := aMu_rng hp hrl hw (k := j) (by omega)
      have m0 := aMus_rng hp hrl hw (j + 1) (by omega)
      have m1 := aMus_rng hp hrl hw j (by omega)
      have bj := aBeg_rng hrl hw j (by omega)
      have cb0 : 0 ≤ aCb x.1 (xR x r) w j ∧ aCb x.1 (xR x r) w j ≤ 300000 := by unfold aCb; omega
      refine j_aload_n dX8_silence_26 rfl ?_
      refine j_iload_n dX8_silence_27 rfl ?_
      refine j_iload dX8_silence_28 rfl ?_
      refine j_iconst (v := 1) dX8_silence_30 (by decide) ?_
      refine j_cVi dX8_silence_31 hB mo_X8_of ml_X8_50 (sp_X8_of hB h0 (ixk (k := z) (hz) (by omega)) z3 (ixk (k := j) (hi) (by omega)) (by omega) (ixk (k := 1) (iC 1 (by decide)) (by omega)) (by omega)) (by first | exact h0.1 | exact h0.2.1 | exact h0.2.2.1 | exact h0.2.2.2.1 | exact h0.2.2.2.2.1 | exact h0.2.2.2.2.2.1 | exact h0.2.2.2.2.2.2.1 | exact h0.2.2.2.2.2.2.2.1 | exact h0.2.2.2.2.2.2.2.2) rfl rfl rfl rfl ⟨rfl, rfl, by decide, by decide⟩ (Nat.le_of_ble_eq_true rfl) ⟨by decide, by decide⟩ (fun r_31 V_31 h_31 => ?_)
      obtain ⟨rfl, h_31⟩ := h_31
      replace h_31 := h_31.trans (hr.2.1 j (by omega)).2.1
      subst h_31
      refine j_ldc dX8_silence_34 hB kc_X8_62 ?_
      refine m_icmp_eq (tgt := 83) dX8_silence_36 (by decide) (iV) (iC (-2000001) (by decide)) (fun c_36 => ?_) (fun c_36 => ?_)
      · have me : aMu x.1 (xR x r) w j = 0 := cueI_f (fun z9 => isCue_i.mp z9 c_36)
        refine j_iinc (v := 1) (L' := [(0, _), (1, _), (2, _), (3, _), (4, _)]) dX8_silence_83 rfl (by decide) (by decide) rfl ?_
        refine j_goto (tgt := 16) dX8_silence_86 (by decide) ?_
        refine ih (n - 1) (by omega) (j + 1) _ _ _ (by omega) ?_ he ?_
        · exact (ixk (k := j + 1) (iA (hi) (iC 1 (by decide)) (by omega)) (by omega))
        · refine ixz (hy) ?_
          show _ = _ - (aSum (aMu x.1 (xR x r) w) j + aMu x.1 (xR x r) w j)
          omega
      · have hcc := isCue_i.mpr c_36
        have ee := aEnd_c (s := x.1) (w := w) hcc
        have em := aMus_c (s := x.1) (w := w) hcc
        have pr := aPlay_rng hp hrl (k := j) (by omega) hcc
        have me : aMu x.1 (xR x r) w j = max 0 (min (aEnd x.1 (xR x r) w j) (aBeg (xR x r) w (xR x r).1.length) - aCb x.1 (xR x r) w j) := cueI_t hcc
        refine j_aload_n dX8_silence_39 rfl ?_
        refine j_getr dX8_silence_40 hB fl_X8_25 (by first | exact h0.1 | exact h0.2.1 | exact h0.2.2.1 | exact h0.2.2.2.1 | exact h0.2.2.2.2.1 | exact h0.2.2.2.2.2.1 | exact h0.2.2.2.2.2.2.1 | exact h0.2.2.2.2.2.2.2.1 | exact h0.2.2.2.2.2.2.2.2) (by rfl) ?_
        refine j_iload dX8_silence_43 rfl ?_
        refine m_iald (k := j) dX8_silence_45 hB (by first | exact h0.1 | exact h0.2.1 | exact h0.2.2.1 | exact h0.2.2.2.1 | exact h0.2.2.2.2.1 | exact h0.2.2.2.2.2.1 | exact h0.2.2.2.2.2.2.1 | exact h0.2.2.2.2.2.2.2.1 | exact h0.2.2.2.2.2.2.2.2) (ixk (hi) (by omega)) (by omega) ?_
        refine j_iload_n dX8_silence_46 rfl ?_
        refine m_icmp_ge (tgt := 83) dX8_silence_47 (by decide) (hcb) (he) (fun c_47 => ?_) (fun c_47 => ?_)
        · refine j_iinc (v := 1) (L' := [(0, _), (1, _), (2, _), (3, _), (4, _)]) dX8_silence_83 rfl (by decide) (by decide) rfl ?_
          refine j_goto (tgt := 16) dX8_silence_86 (by decide) ?_
          refine ih (n - 1) (by omega) (j + 1) _ _ _ (by omega) ?_ he ?_
          · exact (ixk (k := j + 1) (iA (hi) (iC 1 (by decide)) (by omega)) (by omega))
          · refine ixz (hy) ?_
            show _ = _ - (aSum (aMu x.1 (xR x r) w) j + aMu x.1 (xR x r) w j)
            omega
        · refine j_iload_n dX8_silence_50 rfl ?_
          refine j_aload_n dX8_silence_51 rfl ?_
          refine j_getr dX8_silence_52 hB fl_X8_28 (by first | exact h0.1 | exact h0.2.1 | exact h0.2.2.1 | exact h0.2.2.2.1 | exact h0.2.2.2.2.1 | exact h0.2.2.2.2.2.1 | exact h0.2.2.2.2.2.2.1 | exact h0.2.2.2.2.2.2.2.1 | exact h0.2.2.2.2.2.2.2.2) (by rfl) ?_
          refine j_iload dX8_silence_55 rfl ?_
          refine m_iald (k := j) dX8_silence_57 hB (by first | exact h0.1 | exact h0.2.1 | exact h0.2.2.1 | exact h0.2.2.2.1 | exact h0.2.2.2.2.1 | exact h0.2.2.2.2.2.1 | exact h0.2.2.2.2.2.2.1 | exact h0.2.2.2.2.2.2.2.1 | exact h0.2.2.2.2.2.2.2.2) (ixk (hi) (by omega)) (by omega) ?_
          refine j_iload_n dX8_silence_58 rfl ?_
          refine m_icmp_ge (tgt := 72) dX8_silence_59 (by decide) (hce) (he) (fun c_59 => ?_) (fun c_59 => ?_)
          · refine j_iload_n dX8_silence_72 rfl ?_
            refine j_aload_n dX8_silence_73 rfl ?_
            refine j_getr dX8_silence_74 hB fl_X8_25 (by first | exact h0.1 | exact h0.2.1 | exact h0.2.2.1 | exact h0.2.2.2.1 | exact h0.2.2.2.2.1 | exact h0.2.2.2.2.2.1 | exact h0.2.2.2.2.2.2.1 | exact h0.2.2.2.2.2.2.2.1 | exact h0.2.2.2.2.2.2.2.2) (by rfl) ?_
            refine j_iload dX8_silence_77 rfl ?_
            refine m_iald (k := j) dX8_silence_79 hB (by first | exact h0.1 | exact h0.2.1 | exact h0.2.2.1 | exact h0.2.2.2.1 | exact h0.2.2.2.2.1 | exact h0.2.2.2.2.2.1 | exact h0.2.2.2.2.2.2.1 | exact h0.2.2.2.2.2.2.2.1 | exact h0.2.2.2.2.2.2.2.2) (ixk (hi) (by omega)) (by omega) ?_
            refine j_isub dX8_silence_80 ?_
            refine j_isub dX8_silence_81 ?_
            refine j_istore_n (L' := [(0, _), (1, _), (2, _), (3, _), (4, _)]) dX8_silence_82 (by decide) rfl ?_
            refine j_iinc (v := 1) (L' := [(0, _), (1, _), (2, _), (3, _), (4, _)]) dX8_silence_83 rfl (by decide) (by decide) rfl ?_
            refine j_goto (tgt := 16) dX8_silence_86 (by decide) ?_
            refine ih (n - 1) (by omega) (j + 1) _ _ _ (by omega) ?_ he ?_
            · exact (ixk (k := j + 1) (iA (hi) (iC 1 (by decide)) (by omega)) (by omega))
            · refine ixz (iS (hy) (iS (he) (hcb) (by omega)) (by omega)) ?_
              show _ = _ - (aSum (aMu x.1 (xR x r) w) j + aMu x.1 (xR x r) w j)
              omega
          · refine j_aload_n dX8_silence_62 rfl ?_
            refine j_getr dX8_silence_63 hB fl_X8_28 (by first | exact h0.1 | exact h0.2.1 | exact h0.2.2.1 | exact h0.2.2.2.1 | exact h0.2.2.2.2.1 | exact h0.2.2.2.2.2.1 | exact h0.2.2.2.2.2.2.1 | exact h0.2.2.2.2.2.2.2.1 | exact h0.2.2.2.2.2.2.2.2) (by rfl) ?_
            refine j_iload dX8_silence_66 rfl ?_
            refine m_iald (k := j) dX8_silence_68 hB (by first | exact h0.1 | exact h0.2.1 | exact h0.2.2.1 | exact h0.2.2.2.1 | exact h0.2.2.2.2.1 | exact h0.2.2.2.2.2.1 | exact h0.2.2.2.2.2.2.1 | exact h0.2.2.2.2.2.2.2.1 | exact h0.2.2.2.2.2.2.2.2) (ixk (hi) (by omega)) (by omega) ?_
            refine j_goto (tgt := 73) dX8_silence_69 (by decide) ?_
            refine j_aload_n dX8_silence_73 rfl ?_
            refine j_getr dX8_silence_74 hB fl_X8_25 (by first | exact h0.1 | exact h0.2.1 | exact h0.2.2.1 | exact h0.2.2.2.1 | exact h0.2.2.2.2.1 | exact h0.2.2.2.2.2.1 | exact h0.2.2.2.2.2.2.1 | exact h0.2.2.2.2.2.2.2.1 | exact h0.2.2.2.2.2.2.2.2) (by rfl) ?_
            refine j_iload dX8_silence_77 rfl ?_
            refine m_iald (k := j) dX8_silence_79 hB (by first | exact h0.1 | exact h0.2.1 | exact h0.2.2.1 | exact h0.2.2.2.1 | exact h0.2.2.2.2.1 | exact h0.2.2.2.2.2.1 | exact h0.2.2.2.2.2.2.1 | exact h0.2.2.2.2.2.2.2.1 | exact h0.2.2.2.2.2.2.2.2) (ixk (hi) (by omega)) (by omega) ?_
            refine j_isub dX8_silence_80 ?_
            refine j_isub dX8_silence_81 ?_
            refine j_istore_n (L' := [(0, _), (1, _), (2, _), (3, _), (4, _)]) dX8_silence_82 (by decide) rfl ?_
            refine j_iinc (v := 1) (L' := [(0, _), (1, _), (2, _), (3, _), (4, _)]) dX8_silence_83 rfl (by decide) (by decide) rfl ?_
            refine j_goto (tgt := 16) dX8_silence_86 (by decide) ?_
            refine ih (n - 1) (by omega) (j + 1) _ _ _ (by omega) ?_ he ?_
            · exact (ixk (k := j + 1) (iA (hi) (iC 1 (by decide)) (by omega)) (by omega))
            · refine ixz (iS (hy) (iS (hce) (hcb) (by omega)) (by omega)) ?_
              show _ = _ - (aSum (aMu x.1 (xR x r) w) j + aMu x.1 (xR x r) w j)
              omega
  refine j_aload_n dX8_silence_0 rfl ?_
  refine j_getr dX8_silence_1 hB fl_X8_19 (by first | exact h0.1 | exact h0.2.1 | exact h0.2.2.1 | exact h0.2.2.2.1 | exact h0.2.2.2.2.1 | exact h0.2.2.2.2.2.1 | exact h0.2.2.2.2.2.2.1 | exact h0.2.2.2.2.2.2.2.1 | exact h0.2.2.2.2.2.2.2.2) (by rfl) ?_
  refine j_aload_n dX8_silence_4 rfl ?_
  refine j_iload_n dX8_silence_5 rfl ?_
  refine j_cVi dX8_silence_6 hB mo_X8_scenes ml_X8_46 (sp_X8_scenes hB h0 (ixk (k := z) (hz) (by omega)) z3) (by first | exact h0.1 | exact h0.2.1 | exact h0.2.2.1 | exact h0.2.2.2.1 | exact h0.2.2.2.2.1 | exact h0.2.2.2.2.2.1 | exact h0.2.2.2.2.2.2.1 | exact h0.2.2.2.2.2.2.2.1 | exact h0.2.2.2.2.2.2.2.2) rfl rfl rfl rfl ⟨rfl, rfl, by decide, by decide⟩ (Nat.le_of_ble_eq_true rfl) ⟨by decide, by decide⟩ (fun r_6 V_6 h_6 => ?_)
  obtain ⟨rfl, h_6⟩ := h_6
  subst h_6
  refine m_iald (k := (xR x r).1.length) dX8_silence_9 hB (by first | exact h0.1 | exact h0.2.1 | exact h0.2.2.1 | exact h0.2.2.2.1 | exact h0.2.2.2.2.1 | exact h0.2.2.2.2.2.1 | exact h0.2.2.2.2.2.2.1 | exact h0.2.2.2.2.2.2.2.1 | exact h0.2.2.2.2.2.2.2.2) (ixk (hr.1) (by omega)) (by omega) ?_
  refine j_istore_n (L' := [(0, _), (1, _), (2, _)]) dX8_silence_10 (by decide) rfl ?_
  refine j_iload_n dX8_silence_11 rfl ?_
  refine j_istore_n (L' := [(0, _), (1, _), (2, _), (3, _)]) dX8_silence_12 (by decide) rfl ?_
  refine j_iconst (v := 0) dX8_silence_13 (by decide) ?_
  refine j_istore (L' := [(0, _), (1, _), (2, _), (3, _), (4, _)]) dX8_silence_14 (by decide) rfl ?_
  exact loop (xR x r).1.length 0 0 _ _ (by omega) rfl hbl (by rw [hbl]; show _ = _ - (0 : Int); omega)
set_option maxRecDepth 100000 in
set_option maxHeartbeats 4000000 in
theorem sp_X8_lastEnd (hB : jB l s0 D) {q : Nat} (h0 : moT T q) {r : Int32} {z : Nat} (hz : r.toInt = z) (z3 : z < 3) {x : aX} (h : moIs T V q x) (hW : stW x.1) {w : Int} {m : Nat} (hw : w = 0 ∨ 10 ≤ w) (hl : lyP V q x.1 (xR x r) w m) (hm : (xR x r).1.length ≤ m) : Sp l s0 D kX8_lastEnd (jR 1 0 0) 0 0 [.ref q, .int r] T V X sz (qI T X sz (fun y V' => V = V' ∧ y.toInt = aMus x.1 (xR x r) w (xR x r).1.length)) := by
  refine Sp.of pn_X8_lastEnd rfl (Nat.le_of_ble_eq_true rfl) ?_
  have hr := h.r hz z3
  have hrl : rlW x.1 (xR x r) := hW.r _
  have h10 := hrl.2.2.2.1
  have hp := hW.1
  have loop : ∀ (n j : Nat) (i y : Int32), j + n = (xR x r).1.length → i.toInt = j → y.toInt = aMus x.1 (xR x r) w j → J l s0 D kX8_lastEnd (jR 1 0 0) 0 0 (qI T X sz (fun y V' => V = V' ∧ y.toInt = aMus x.1 (xR x r) w (xR x r).1.length)) 4 [(0, .ref q), (1, .int r), (2, .int y), (3, .int i)] [] T V X sz 0 0 := by
    intro n
    refine Nat.strongRecOn n ?_
    clear n
    intro n ih j i y hn hi hy
    refine j_iload_n dX8_lastEnd_4 rfl ?_
    refine j_aload_n dX8_lastEnd_5 rfl ?_
    refine j_iload_n dX8_lastEnd_6 rfl ?_
    refine j_cVi dX8_lastEnd_7 hB mo_X8_scenes ml_X8_46 (sp_X8_scenes hB h0 (ixk (k := z) (hz) (by omega)) z3) (by first | exact h0.1 | exact h0.2.1 | exact h0.2.2.1 | exact h0.2.2.2.1 | exact h0.2.2.2.2.1 | exact h0.2.2.2.2.2.1 | exact h0.2.2.2.2.2.2.1 | exact h0.2.2.2.2.2.2.2.1 | exact h0.2.2.2.2.2.2.2.2) rfl rfl rfl rfl ⟨rfl, rfl, by decide, by decide⟩ (Nat.le_of_ble_eq_true rfl) ⟨by decide, by decide⟩ (fun r_7 V_7 h_7 => ?_)
    obtain ⟨rfl, h_7⟩ := h_7
    subst h_7
    refine m_icmp_ge (tgt := 42) dX8_lastEnd_10 (by decide) (hi) (hr.1) (fun c_10 => ?_) (fun c_10 => ?_)
    · refine j_iload_n dX8_lastEnd_42 rfl ?_
      refine j_iret dX8_lastEnd_43 rfl (rfl) (by decide) (by decide) ?_
      exact ⟨_, rfl, rfl, rfl, rfl, rfl, by rw [hy, show j = (xR x r).1.length by omega]⟩
    · refine j_aload_n dX8_lastEnd_13 rfl ?_
      refine j_iload_n dX8_lastEnd_14 rfl ?_
      refine j_iload_n dX8_lastEnd_15 rfl ?_
      refine j_iconst (v := 1) dX8_lastEnd_16 (by decide) ?_
      refine j_cVi dX8_lastEnd_17 hB mo_X8_of ml_X8_50 (sp_X8_of hB h0 (ixk (k := z) (hz) (by omega)) z3 (ixk (k := j) (hi) (by omega)) (by omega) (ixk (k := 1) (iC 1 (by decide)) (by omega)) (by omega)) (by first | exact h0.1 | exact h0.2.1 | exact h0.2.2.1 | exact h0.2.2.2.1 | exact h0.2.2.2.2.1 | exact h0.2.2.2.2.2.1 | exact h0.2.2.2.2.2.2.1 | exact h0.2.2.2.2.2.2.2.1 | exact h0.2.2.2.2.2.2.2.2) rfl rfl rfl rfl ⟨rfl, rfl, by decide, by decide⟩ (Nat.le_of_ble_eq_true rfl) ⟨by decide, by decide⟩ (fun r_17 V_17 h_17 => ?_)
      obtain ⟨rfl, h_17⟩ := h_17
      replace h_17 := h_17.trans (hr.2.1 j (by omega)).2.1
      subst h_17
      refine j_ldc dX8_lastEnd_20 hB kc_X8_62 ?_
      refine m_icmp_eq (tgt := 34) dX8_lastEnd_22 (by decide) (iV) (iC (-2000001) (by decide)) (fun c_22 => ?_) (fun c_22 => ?_)
      · refine j_iload_n dX8_lastEnd_34 rfl ?_
        refine j_istore_n (L' := [(0, _), (1, _), (2, _), (3, _)]) dX8_lastEnd_35 (by decide) rfl ?_
        refine j_iinc (v := 1) (L' := [(0, _), (1, _), (2, _), (3, _)]) dX8_lastEnd_36 rfl (by decide) (by decide) rfl ?_
        refine j_goto (tgt := 4) dX8_lastEnd_39 (by decide) ?_
        refine ih (n - 1) (by omega) (j + 1) _ _ (by omega) ?_ ?_
        · exact (ixk (k := j + 1) (iA (hi) (iC 1 (by decide)) (by omega)) (by omega))
        · rw [hy, aMus_n (fun z9 => isCue_i.mp z9 c_22)]
      · refine j_aload_n dX8_lastEnd_25 rfl ?_
        refine j_getr dX8_lastEnd_26 hB fl_X8_28 (by first | exact h0.1 | exact h0.2.1 | exact h0.2.2.1 | exact h0.2.2.2.1 | exact h0.2.2.2.2.1 | exact h0.2.2.2.2.2.1 | exact h0.2.2.2.2.2.2.1 | exact h0.2.2.2.2.2.2.2.1 | exact h0.2.2.2.2.2.2.2.2) (by rfl) ?_
        refine j_iload_n dX8_lastEnd_29 rfl ?_
        refine m_iald (k := j) dX8_lastEnd_30 hB (by first | exact h0.1 | exact h0.2.1 | exact h0.2.2.1 | exact h0.2.2.2.1 | exact h0.2.2.2.2.1 | exact h0.2.2.2.2.2.1 | exact h0.2.2.2.2.2.2.1 | exact h0.2.2.2.2.2.2.2.1 | exact h0.2.2.2.2.2.2.2.2) (ixk (hi) (by omega)) (by omega) ?_
        refine j_goto (tgt := 35) dX8_lastEnd_31 (by decide) ?_
        refine j_istore_n (L' := [(0, _), (1, _), (2, _), (3, _)]) dX8_lastEnd_35 (by decide) rfl ?_
        refine j_iinc (v := 1) (L' := [(0, _), (1, _), (2, _), (3, _)]) dX8_lastEnd_36 rfl (by decide) (by decide) rfl ?_
        refine j_goto (tgt := 4) dX8_lastEnd_39 (by decide) ?_
        refine ih (n - 1) (by omega) (j + 1) _ _ (by omega) ?_ ?_
        · exact (ixk (k := j + 1) (iA (hi) (iC 1 (by decide)) (by omega)) (by omega))
        · rw [(hl.2 j (by omega)).2, aEnd_c (isCue_i.mpr c_22)]
  refine j_iconst (v := 0) dX8_lastEnd_0 (by decide) ?_
  refine j_istore_n (L' := [(0, _), (1, _), (2, _)]) dX8_lastEnd_1 (by decide) rfl ?_
  refine j_iconst (v := 0) dX8_lastEnd_2 (by decide) ?_
  refine j_istore_n (L' := [(0, _), (1, _), (2, _), (3, _)]) dX8_lastEnd_3 (by decide) rfl ?_
  exact loop (xR x r).1.length 0 0 0 (by omega) rfl rfl
set_option maxRecDepth 100000 in
set_option maxHeartbeats 4000000 in
theorem sp_X8_reelNow (hB : jB l s0 D) {q : Nat} (h0 : moT T q) {r : Int32} {z : Nat} (hz : r.toInt = z) (z3 : z < 3) {x : aX} (h : moIs T V q x) (hW : stW x.1) {m : Nat} (hl : lyP V q x.1 (xR x r) 0 m) (hm : (xR x r).1.length ≤ m) {w : Int32} (w0 : 0 ≤ w.toInt) (w1 : w.toInt ≤ 10) : Sp l s0 D kX8_reelNow (jR 4 0 0) 0 0 [.ref q, .int r, .int w] T V X sz (qI T X sz (fun y V' => V = V' ∧ y.toInt = rlP x.1 (xR x r) w.toInt)) := by
  refine Sp.of pn_X8_reelNow rfl (Nat.le_of_ble_eq_true rfl) ?_
  have hr := h.r hz z3
  have hrl : rlW x.1 (xR x r) := hW.r _
  have h10 := hrl.2.2.2.1
  have hp := hW.1
  refine j_iload_n dX8_reelNow_0 rfl ?_
  refine j_tsw_10 (td := 140) (t0 := 56) (t1 := 62) (t2 := 73) (t3 := 79) (t4 := 90) (t5 := 103) (t6 := 116) (t7 := 122) (t8 := 128) (t9 := 134) dX8_reelNow_1 (by decide) (by decide) (fun s_1 => ?_) (fun s_1 => ?_) (fun s_1 => ?_) (fun s_1 => ?_) (fun s_1 => ?_) (fun s_1 => ?_) (fun s_1 => ?_) (fun s_1 => ?_) (fun s_1 => ?_) (fun s_1 => ?_) (fun s_1 => ?_)
  · refine j_aload_n dX8_reelNow_56 rfl ?_
    refine j_iload_n dX8_reelNow_57 rfl ?_
    refine j_cVi dX8_reelNow_58 hB mo_X8_scenes ml_X8_46 (sp_X8_scenes hB h0 (ixk (k := z) (hz) (by omega)) z3) (by first | exact h0.1 | exact h0.2.1 | exact h0.2.2.1 | exact h0.2.2.2.1 | exact h0.2.2.2.2.1 | exact h0.2.2.2.2.2.1 | exact h0.2.2.2.2.2.2.1 | exact h0.2.2.2.2.2.2.2.1 | exact h0.2.2.2.2.2.2.2.2) rfl rfl rfl rfl ⟨rfl, rfl, by decide, by decide⟩ (Nat.le_of_ble_eq_true rfl) ⟨by decide, by decide⟩ (fun r_58 V_58 h_58 => ?_)
    obtain ⟨rfl, h_58⟩ := h_58
    subst h_58
    refine j_iret dX8_reelNow_61 rfl (rfl) (by decide) (by decide) ?_
    exact ⟨_, rfl, rfl, rfl, rfl, rfl, by rw [s_1]; exact hr.1⟩
  · refine j_aload_n dX8_reelNow_62 rfl ?_
    refine j_iload_n dX8_reelNow_63 rfl ?_
    refine j_aload_n dX8_reelNow_64 rfl ?_
    refine j_iload_n dX8_reelNow_65 rfl ?_
    refine j_cVi dX8_reelNow_66 hB mo_X8_scenes ml_X8_46 (sp_X8_scenes hB h0 (ixk (k := z) (hz) (by omega)) z3) (by first | exact h0.1 | exact h0.2.1 | exact h0.2.2.1 | exact h0.2.2.2.1 | exact h0.2.2.2.2.1 | exact h0.2.2.2.2.2.1 | exact h0.2.2.2.2.2.2.1 | exact h0.2.2.2.2.2.2.2.1 | exact h0.2.2.2.2.2.2.2.2) rfl rfl rfl rfl ⟨rfl, rfl, by decide, by decide⟩ (Nat.le_of_ble_eq_true rfl) ⟨by decide, by decide⟩ (fun r_66 V_66 h_66 => ?_)
    obtain ⟨rfl, h_66⟩ := h_66
    subst h_66
    refine j_cVi dX8_reelNow_69 hB mo_X8_firstFoot ml_X8_161 (sp_X8_firstFoot hB h0 hz z3 hr hrl hr.1 (Nat.le_refl _)) (by first | exact h0.1 | exact h0.2.1 | exact h0.2.2.1 | exact h0.2.2.2.1 | exact h0.2.2.2.2.1 | exact h0.2.2.2.2.2.1 | exact h0.2.2.2.2.2.2.1 | exact h0.2.2.2.2.2.2.2.1 | exact h0.2.2.2.2.2.2.2.2) rfl rfl rfl rfl ⟨rfl, rfl, by decide, by decide⟩ (Nat.le_of_ble_eq_true rfl) ⟨by decide, by decide⟩ (fun r_69 V_69 h_69 => ?_)
    obtain ⟨rfl, h_69⟩ := h_69
    refine j_iret dX8_reelNow_72 rfl (rfl) (by decide) (by decide) ?_
    exact ⟨_, rfl, rfl, rfl, rfl, rfl, by rw [s_1]; exact h_69⟩
  · refine j_aload_n dX8_reelNow_73 rfl ?_
    refine j_iload_n dX8_reelNow_74 rfl ?_
    refine j_cVi dX8_reelNow_75 hB mo_X8_lostFeet ml_X8_167 (sp_X8_lostFeet hB h0 hz z3 h hW (Or.inl rfl) hl hm) (by first | exact h0.1 | exact h0.2.1 | exact h0.2.2.1 | exact h0.2.2.2.1 | exact h0.2.2.2.2.1 | exact h0.2.2.2.2.2.1 | exact h0.2.2.2.2.2.2.1 | exact h0.2.2.2.2.2.2.2.1 | exact h0.2.2.2.2.2.2.2.2) rfl rfl rfl rfl ⟨rfl, rfl, by decide, by decide⟩ (Nat.le_of_ble_eq_true rfl) ⟨by decide, by decide⟩ (fun r_75 V_75 h_75 => ?_)
    obtain ⟨rfl, h_75⟩ := h_75
    refine j_iret dX8_reelNow_78 rfl (rfl) (by decide) (by decide) ?_
    exact ⟨_, rfl, rfl, rfl, rfl, rfl, by rw [s_1]; exact h_75⟩
  · refine j_aload_n dX8_reelNow_79 rfl ?_
    refine j_getr dX8_reelNow_80 hB fl_X8_19 (by first | exact h0.1 | exact h0.2.1 | exact h0.2.2.1 | exact h0.2.2.2.1 | exact h0.2.2.2.2.1 | exact h0.2.2.2.2.2.1 | exact h0.2.2.2.2.2.2.1 | exact h0.2.2.2.2.2.2.2.1 | exact h0.2.2.2.2.2.2.2.2) (by rfl) ?_
    refine j_aload_n dX8_reelNow_83 rfl ?_
    refine j_iload_n dX8_reelNow_84 rfl ?_
    refine j_cVi dX8_reelNow_85 hB mo_X8_scenes ml_X8_46 (sp_X8_scenes hB h0 (ixk (k := z) (hz) (by omega)) z3) (by first | exact h0.1 | exact h0.2.1 | exact h0.2.2.1 | exact h0.2.2.2.1 | exact h0.2.2.2.2.1 | exact h0.2.2.2.2.2.1 | exact h0.2.2.2.2.2.2.1 | exact h0.2.2.2.2.2.2.2.1 | exact h0.2.2.2.2.2.2.2.2) rfl rfl rfl rfl ⟨rfl, rfl, by decide, by decide⟩ (Nat.le_of_ble_eq_true rfl) ⟨by decide, by decide⟩ (fun r_85 V_85 h_85 => ?_)
    obtain ⟨rfl, h_85⟩ := h_85
    subst h_85
    refine m_iald (k := (xR x r).1.length) dX8_reelNow_88 hB (by first | exact h0.1 | exact h0.2.1 | exact h0.2.2.1 | exact h0.2.2.2.1 | exact h0.2.2.2.2.1 | exact h0.2.2.2.2.2.1 | exact h0.2.2.2.2.2.2.1 | exact h0.2.2.2.2.2.2.2.1 | exact h0.2.2.2.2.2.2.2.2) (ixk (hr.1) (by omega)) (by omega) ?_
    refine j_iret dX8_reelNow_89 rfl (rfl) (by decide) (by decide) ?_
    exact ⟨_, rfl, rfl, rfl, rfl, rfl, by rw [s_1]; exact (hl.1.1 _ (Nat.le_refl _))⟩
  · refine j_aload_n dX8_reelNow_90 rfl ?_
    refine j_getr dX8_reelNow_91 hB fl_X8_7 (by first | exact h0.1 | exact h0.2.1 | exact h0.2.2.1 | exact h0.2.2.2.1 | exact h0.2.2.2.2.1 | exact h0.2.2.2.2.2.1 | exact h0.2.2.2.2.2.2.1 | exact h0.2.2.2.2.2.2.2.1 | exact h0.2.2.2.2.2.2.2.2) (by rfl) ?_
    refine j_bipush (v := 67) dX8_reelNow_94 (by decide) ?_
    refine j_iload_n dX8_reelNow_96 rfl ?_
    refine j_imul dX8_reelNow_97 ?_
    refine j_bipush (v := 41) dX8_reelNow_98 (by decide) ?_
    refine j_iadd dX8_reelNow_100 ?_
    refine m_iald (k := 67 * z + 41) dX8_reelNow_101 hB (by first | exact h0.1 | exact h0.2.1 | exact h0.2.2.1 | exact h0.2.2.2.1 | exact h0.2.2.2.2.1 | exact h0.2.2.2.2.2.1 | exact h0.2.2.2.2.2.2.1 | exact h0.2.2.2.2.2.2.2.1 | exact h0.2.2.2.2.2.2.2.2) (ixk (iA (iM (iC 67 (by decide)) (hz) (by omega)) (iC 41 (by decide)) (by omega)) (by omega)) (by omega) ?_
    refine j_iret dX8_reelNow_102 rfl (rfl) (by decide) (by decide) ?_
    exact ⟨_, rfl, rfl, rfl, rfl, rfl, by rw [s_1]; exact hr.2.2.1.n⟩
  · refine j_aload_n dX8_reelNow_103 rfl ?_
    refine j_getr dX8_reelNow_104 hB fl_X8_7 (by first | exact h0.1 | exact h0.2.1 | exact h0.2.2.1 | exact h0.2.2.2.1 | exact h0.2.2.2.2.1 | exact h0.2.2.2.2.2.1 | exact h0.2.2.2.2.2.2.1 | exact h0.2.2.2.2.2.2.2.1 | exact h0.2.2.2.2.2.2.2.2) (by rfl) ?_
    refine j_bipush (v := 67) dX8_reelNow_107 (by decide) ?_
    refine j_iload_n dX8_reelNow_109 rfl ?_
    refine j_imul dX8_reelNow_110 ?_
    refine j_bipush (v := 54) dX8_reelNow_111 (by decide) ?_
    refine j_iadd dX8_reelNow_113 ?_
    refine m_iald (k := 67 * z + 54) dX8_reelNow_114 hB (by first | exact h0.1 | exact h0.2.1 | exact h0.2.2.1 | exact h0.2.2.2.1 | exact h0.2.2.2.2.1 | exact h0.2.2.2.2.2.1 | exact h0.2.2.2.2.2.2.1 | exact h0.2.2.2.2.2.2.2.1 | exact h0.2.2.2.2.2.2.2.2) (ixk (iA (iM (iC 67 (by decide)) (hz) (by omega)) (iC 54 (by decide)) (by omega)) (by omega)) (by omega) ?_
    refine j_iret dX8_reelNow_115 rfl (rfl) (by decide) (by decide) ?_
    exact ⟨_, rfl, rfl, rfl, rfl, rfl, by rw [s_1]; exact hr.2.2.2.n⟩
  · refine j_aload_n dX8_reelNow_116 rfl ?_
    refine j_iload_n dX8_reelNow_117 rfl ?_
    refine j_cVi dX8_reelNow_118 hB mo_X8_cues ml_X8_170 (sp_X8_cues hB h0 hz z3 h hW) (by first | exact h0.1 | exact h0.2.1 | exact h0.2.2.1 | exact h0.2.2.2.1 | exact h0.2.2.2.2.1 | exact h0.2.2.2.2.2.1 | exact h0.2.2.2.2.2.2.1 | exact h0.2.2.2.2.2.2.2.1 | exact h0.2.2.2.2.2.2.2.2) rfl rfl rfl rfl ⟨rfl, rfl, by decide, by decide⟩ (Nat.le_of_ble_eq_true rfl) ⟨by decide, by decide⟩ (fun r_118 V_118 h_118 => ?_)
    obtain ⟨rfl, h_118⟩ := h_118
    refine j_iret dX8_reelNow_121 rfl (rfl) (by decide) (by decide) ?_
    exact ⟨_, rfl, rfl, rfl, rfl, rfl, by rw [s_1]; exact h_118⟩
  · refine j_aload_n dX8_reelNow_122 rfl ?_
    refine j_iload_n dX8_reelNow_123 rfl ?_
    refine j_cVi dX8_reelNow_124 hB mo_X8_bads ml_X8_173 (sp_X8_bads hB h0 hz z3 h hW (Or.inl rfl) hl hm) (by first | exact h0.1 | exact h0.2.1 | exact h0.2.2.1 | exact h0.2.2.2.1 | exact h0.2.2.2.2.1 | exact h0.2.2.2.2.2.1 | exact h0.2.2.2.2.2.2.1 | exact h0.2.2.2.2.2.2.2.1 | exact h0.2.2.2.2.2.2.2.2) rfl rfl rfl rfl ⟨rfl, rfl, by decide, by decide⟩ (Nat.le_of_ble_eq_true rfl) ⟨by decide, by decide⟩ (fun r_124 V_124 h_124 => ?_)
    obtain ⟨rfl, h_124⟩ := h_124
    refine j_iret dX8_reelNow_127 rfl (rfl) (by decide) (by decide) ?_
    exact ⟨_, rfl, rfl, rfl, rfl, rfl, by rw [s_1]; exact h_124⟩
  · refine j_aload_n dX8_reelNow_128 rfl ?_
    refine j_iload_n dX8_reelNow_129 rfl ?_
    refine j_cVi dX8_reelNow_130 hB mo_X8_drifts ml_X8_176 (sp_X8_drifts hB h0 hz z3 h hW (Or.inl rfl) hl hm) (by first | exact h0.1 | exact h0.2.1 | exact h0.2.2.1 | exact h0.2.2.2.1 | exact h0.2.2.2.2.1 | exact h0.2.2.2.2.2.1 | exact h0.2.2.2.2.2.2.1 | exact h0.2.2.2.2.2.2.2.1 | exact h0.2.2.2.2.2.2.2.2) rfl rfl rfl rfl ⟨rfl, rfl, by decide, by decide⟩ (Nat.le_of_ble_eq_true rfl) ⟨by decide, by decide⟩ (fun r_130 V_130 h_130 => ?_)
    obtain ⟨rfl, h_130⟩ := h_130
    refine j_iret dX8_reelNow_133 rfl (rfl) (by decide) (by decide) ?_
    exact ⟨_, rfl, rfl, rfl, rfl, rfl, by rw [s_1]; exact h_130⟩
  · refine j_aload_n dX8_reelNow_134 rfl ?_
    refine j_iload_n dX8_reelNow_135 rfl ?_
    refine j_cVi dX8_reelNow_136 hB mo_X8_silence ml_X8_179 (sp_X8_silence hB h0 hz z3 h hW (Or.inl rfl) hl hm) (by first | exact h0.1 | exact h0.2.1 | exact h0.2.2.1 | exact h0.2.2.2.1 | exact h0.2.2.2.2.1 | exact h0.2.2.2.2.2.1 | exact h0.2.2.2.2.2.2.1 | exact h0.2.2.2.2.2.2.2.1 | exact h0.2.2.2.2.2.2.2.2) rfl rfl rfl rfl ⟨rfl, rfl, by decide, by decide⟩ (Nat.le_of_ble_eq_true rfl) ⟨by decide, by decide⟩ (fun r_136 V_136 h_136 => ?_)
    obtain ⟨rfl, h_136⟩ := h_136
    refine j_iret dX8_reelNow_139 rfl (rfl) (by decide) (by decide) ?_
    exact ⟨_, rfl, rfl, rfl, rfl, rfl, by rw [s_1]; exact h_136⟩
  · refine j_aload_n dX8_reelNow_140 rfl ?_
    refine j_iload_n dX8_reelNow_141 rfl ?_
    refine j_cVi dX8_reelNow_142 hB mo_X8_lastEnd ml_X8_182 (sp_X8_lastEnd hB h0 hz z3 h hW (Or.inl rfl) hl hm) (by first | exact h0.1 | exact h0.2.1 | exact h0.2.2.1 | exact h0.2.2.2.1 | exact h0.2.2.2.2.1 | exact h0.2.2.2.2.2.1 | exact h0.2.2.2.2.2.2.1 | exact h0.2.2.2.2.2.2.2.1 | exact h0.2.2.2.2.2.2.2.2) rfl rfl rfl rfl ⟨rfl, rfl, by decide, by decide⟩ (Nat.le_of_ble_eq_true rfl) ⟨by decide, by decide⟩ (fun r_142 V_142 h_142 => ?_)
    obtain ⟨rfl, h_142⟩ := h_142
    have s_1 : w.toInt = 10 := by omega
    refine j_iret dX8_reelNow_145 rfl (rfl) (by decide) (by decide) ?_
    exact ⟨_, rfl, rfl, rfl, rfl, rfl, by rw [s_1]; exact h_142⟩
set_option maxRecDepth 100000 in
set_option maxHeartbeats 4000000 in
theorem sp_X8_sceneNow (hB : jB l s0 D) {q : Nat} (h0 : moT T q) {r : Int32} {z : Nat} (hz : r.toInt = z) (z3 : z < 3) {x : aX} (h : moIs T V q x) (hW : stW x.1) {k0 : Int32} {k : Nat} (hk0 : k0.toInt = k) (hk : k < (xR x r).1.length) {m : Nat} (hl : lyP V q x.1 (xR x r) 0 m) (hm : k < m) {w : Int32} (w0 : 0 ≤ w.toInt) (w1 : w.toInt ≤ 11) : Sp l s0 D kX8_sceneNow (jR 3 0 0) 0 0 [.ref q, .int r, .int k0, .int w] T V X sz (qI T X sz (fun y V' => V = V' ∧ y.toInt = scP x.1 (xR x r) k w.toInt)) := by
  refine Sp.of pn_X8_sceneNow rfl (Nat.le_of_ble_eq_true rfl) ?_
  have hr := h.r hz z3
  have hrl : rlW x.1 (xR x r) := hW.r _
  have h10 := hrl.2.2.2.1
  have hp := hW.1
  have hb1 : isI (V (q + 4) (k + 1)) (aBeg (xR x r) 0 (k + 1)) := hl.1.1 (k + 1) (by omega)
  have hb0 : isI (V (q + 4) k) (aBeg (xR x r) 0 k) := hl.1.1 k (by omega)
  have g0 := aBeg_rng hrl (w := 0) (Or.inl rfl) (k + 1) (by omega)
  have g1 := aBeg_rng hrl (w := 0) (Or.inl rfl) k (by omega)
  have g2 : aBeg (xR x r) 0 (k + 1) = aBeg (xR x r) 0 k + aTime (xR x r) 0 k := rfl
  refine j_aload_n dX8_sceneNow_0 rfl ?_
  refine j_iload_n dX8_sceneNow_1 rfl ?_
  refine j_iload_n dX8_sceneNow_2 rfl ?_
  refine j_iconst (v := 1) dX8_sceneNow_3 (by decide) ?_
  refine j_cVi dX8_sceneNow_4 hB mo_X8_of ml_X8_50 (sp_X8_of hB h0 (ixk (k := z) (hz) (by omega)) z3 (ixk (k := k) (hk0) (by omega)) (by omega) (ixk (k := 1) (iC 1 (by decide)) (by omega)) (by omega)) (by first | exact h0.1 | exact h0.2.1 | exact h0.2.2.1 | exact h0.2.2.2.1 | exact h0.2.2.2.2.1 | exact h0.2.2.2.2.2.1 | exact h0.2.2.2.2.2.2.1 | exact h0.2.2.2.2.2.2.2.1 | exact h0.2.2.2.2.2.2.2.2) rfl rfl rfl rfl ⟨rfl, rfl, by decide, by decide⟩ (Nat.le_of_ble_eq_true rfl) ⟨by decide, by decide⟩ (fun r_4 V_4 h_4 => ?_)
  obtain ⟨rfl, h_4⟩ := h_4
  replace h_4 := h_4.trans (hr.2.1 k hk).2.1
  subst h_4
  refine j_ldc dX8_sceneNow_7 hB kc_X8_62 ?_
  refine m_icmp_eq (tgt := 16) dX8_sceneNow_9 (by decide) (iV) (iC (-2000001) (by decide)) (fun c_9 => ?_) (fun c_9 => ?_)
  · have hcc : ¬ isCue (xR x r) k := fun z9 => isCue_i.mp z9 c_9
    have hnc := noCue hrl hk hcc
    refine j_iconst (v := 0) dX8_sceneNow_16 (by decide) ?_
    refine j_istore (L' := [(0, _), (1, _), (2, _), (3, _), (4, _)]) dX8_sceneNow_17 (by decide) rfl ?_
    refine j_iload_n dX8_sceneNow_19 rfl ?_
    refine j_tsw_11 (td := 206) (t0 := 80) (t1 := 88) (t2 := 95) (t3 := 102) (t4 := 118) (t5 := 125) (t6 := 133) (t7 := 150) (t8 := 167) (t9 := 183) (t10 := 199) dX8_sceneNow_20 (by decide) (by decide) (fun s_20 => ?_) (fun s_20 => ?_) (fun s_20 => ?_) (fun s_20 => ?_) (fun s_20 => ?_) (fun s_20 => ?_) (fun s_20 => ?_) (fun s_20 => ?_) (fun s_20 => ?_) (fun s_20 => ?_) (fun s_20 => ?_) (fun s_20 => ?_)
    · refine j_aload_n dX8_sceneNow_80 rfl ?_
      refine j_iload_n dX8_sceneNow_81 rfl ?_
      refine j_iload_n dX8_sceneNow_82 rfl ?_
      refine j_iconst (v := 0) dX8_sceneNow_83 (by decide) ?_
      refine j_cVi dX8_sceneNow_84 hB mo_X8_of ml_X8_50 (sp_X8_of hB h0 (ixk (k := z) (hz) (by omega)) z3 (ixk (k := k) (hk0) (by omega)) (by omega) (ixk (k := 0) (iC 0 (by decide)) (by omega)) (by omega)) (by first | exact h0.1 | exact h0.2.1 | exact h0.2.2.1 | exact h0.2.2.2.1 | exact h0.2.2.2.2.1 | exact h0.2.2.2.2.2.1 | exact h0.2.2.2.2.2.2.1 | exact h0.2.2.2.2.2.2.2.1 | exact h0.2.2.2.2.2.2.2.2) rfl rfl rfl rfl ⟨rfl, rfl, by decide, by decide⟩ (Nat.le_of_ble_eq_true rfl) ⟨by decide, by decide⟩ (fun r_84 V_84 h_84 => ?_)
      obtain ⟨rfl, h_84⟩ := h_84
      replace h_84 := h_84.trans (hr.2.1 k hk).1
      subst h_84
      refine j_iret dX8_sceneNow_87 rfl (rfl) (by decide) (by decide) ?_
      exact ⟨_, rfl, rfl, rfl, rfl, rfl, by rw [s_20]; exact rfl⟩
    · refine j_aload_n dX8_sceneNow_88 rfl ?_
      refine j_iload_n dX8_sceneNow_89 rfl ?_
      refine j_iload_n dX8_sceneNow_90 rfl ?_
      refine j_cVi dX8_sceneNow_91 hB mo_X8_firstFoot ml_X8_161 (sp_X8_firstFoot hB h0 hz z3 hr hrl hk0 (by omega)) (by first | exact h0.1 | exact h0.2.1 | exact h0.2.2.1 | exact h0.2.2.2.1 | exact h0.2.2.2.2.1 | exact h0.2.2.2.2.2.1 | exact h0.2.2.2.2.2.2.1 | exact h0.2.2.2.2.2.2.2.1 | exact h0.2.2.2.2.2.2.2.2) rfl rfl rfl rfl ⟨rfl, rfl, by decide, by decide⟩ (Nat.le_of_ble_eq_true rfl) ⟨by decide, by decide⟩ (fun r_91 V_91 h_91 => ?_)
      obtain ⟨rfl, h_91⟩ := h_91
      refine j_iret dX8_sceneNow_94 rfl (rfl) (by decide) (by decide) ?_
      exact ⟨_, rfl, rfl, rfl, rfl, rfl, by rw [s_20]; exact h_91⟩
    · refine j_aload_n dX8_sceneNow_95 rfl ?_
      refine j_getr dX8_sceneNow_96 hB fl_X8_22 (by first | exact h0.1 | exact h0.2.1 | exact h0.2.2.1 | exact h0.2.2.2.1 | exact h0.2.2.2.2.1 | exact h0.2.2.2.2.2.1 | exact h0.2.2.2.2.2.2.1 | exact h0.2.2.2.2.2.2.2.1 | exact h0.2.2.2.2.2.2.2.2) (by rfl) ?_
      refine j_iload_n dX8_sceneNow_99 rfl ?_
      refine m_iald (k := k) dX8_sceneNow_100 hB (by first | exact h0.1 | exact h0.2.1 | exact h0.2.2.1 | exact h0.2.2.2.1 | exact h0.2.2.2.2.1 | exact h0.2.2.2.2.2.1 | exact h0.2.2.2.2.2.2.1 | exact h0.2.2.2.2.2.2.2.1 | exact h0.2.2.2.2.2.2.2.2) (ixk (hk0) (by omega)) (by omega) ?_
      refine j_iret dX8_sceneNow_101 rfl (rfl) (by decide) (by decide) ?_
      exact ⟨_, rfl, rfl, rfl, rfl, rfl, by rw [s_20]; exact hl.1.2 k hk⟩
    · refine j_aload_n dX8_sceneNow_102 rfl ?_
      refine j_getr dX8_sceneNow_103 hB fl_X8_19 (by first | exact h0.1 | exact h0.2.1 | exact h0.2.2.1 | exact h0.2.2.2.1 | exact h0.2.2.2.2.1 | exact h0.2.2.2.2.2.1 | exact h0.2.2.2.2.2.2.1 | exact h0.2.2.2.2.2.2.2.1 | exact h0.2.2.2.2.2.2.2.2) (by rfl) ?_
      refine j_iload_n dX8_sceneNow_106 rfl ?_
      refine j_iconst (v := 1) dX8_sceneNow_107 (by decide) ?_
      refine j_iadd dX8_sceneNow_108 ?_
      refine m_iald (k := k + 1) dX8_sceneNow_109 hB (by first | exact h0.1 | exact h0.2.1 | exact h0.2.2.1 | exact h0.2.2.2.1 | exact h0.2.2.2.2.1 | exact h0.2.2.2.2.2.1 | exact h0.2.2.2.2.2.2.1 | exact h0.2.2.2.2.2.2.2.1 | exact h0.2.2.2.2.2.2.2.2) (ixk (iA (hk0) (iC 1 (by decide)) (by omega)) (by omega)) (by omega) ?_
      refine j_aload_n dX8_sceneNow_110 rfl ?_
      refine j_getr dX8_sceneNow_111 hB fl_X8_19 (by first | exact h0.1 | exact h0.2.1 | exact h0.2.2.1 | exact h0.2.2.2.1 | exact h0.2.2.2.2.1 | exact h0.2.2.2.2.2.1 | exact h0.2.2.2.2.2.2.1 | exact h0.2.2.2.2.2.2.2.1 | exact h0.2.2.2.2.2.2.2.2) (by rfl) ?_
      refine j_iload_n dX8_sceneNow_114 rfl ?_
      refine m_iald (k := k) dX8_sceneNow_115 hB (by first | exact h0.1 | exact h0.2.1 | exact h0.2.2.1 | exact h0.2.2.2.1 | exact h0.2.2.2.2.1 | exact h0.2.2.2.2.2.1 | exact h0.2.2.2.2.2.2.1 | exact h0.2.2.2.2.2.2.2.1 | exact h0.2.2.2.2.2.2.2.2) (ixk (hk0) (by omega)) (by omega) ?_
      refine j_isub dX8_sceneNow_116 ?_
      refine j_iret dX8_sceneNow_117 rfl (rfl) (by decide) (by decide) ?_
      exact ⟨_, rfl, rfl, rfl, rfl, rfl, by rw [s_20]; exact (show _ = aTime (xR x r) 0 k from ixz (iS (hb1) (hb0) (by omega)) (by omega))⟩
    · refine j_aload_n dX8_sceneNow_118 rfl ?_
      refine j_getr dX8_sceneNow_119 hB fl_X8_19 (by first | exact h0.1 | exact h0.2.1 | exact h0.2.2.1 | exact h0.2.2.2.1 | exact h0.2.2.2.2.1 | exact h0.2.2.2.2.2.1 | exact h0.2.2.2.2.2.2.1 | exact h0.2.2.2.2.2.2.2.1 | exact h0.2.2.2.2.2.2.2.2) (by rfl) ?_
      refine j_iload_n dX8_sceneNow_122 rfl ?_
      refine m_iald (k := k) dX8_sceneNow_123 hB (by first | exact h0.1 | exact h0.2.1 | exact h0.2.2.1 | exact h0.2.2.2.1 | exact h0.2.2.2.2.1 | exact h0.2.2.2.2.2.1 | exact h0.2.2.2.2.2.2.1 | exact h0.2.2.2.2.2.2.2.1 | exact h0.2.2.2.2.2.2.2.2) (ixk (hk0) (by omega)) (by omega) ?_
      refine j_iret dX8_sceneNow_124 rfl (rfl) (by decide) (by decide) ?_
      exact ⟨_, rfl, rfl, rfl, rfl, rfl, by rw [s_20]; exact hb0⟩
    · refine j_aload_n dX8_sceneNow_125 rfl ?_
      refine j_iload_n dX8_sceneNow_126 rfl ?_
      refine j_iload_n dX8_sceneNow_127 rfl ?_
      refine j_iconst (v := 1) dX8_sceneNow_128 (by decide) ?_
      refine j_cVi dX8_sceneNow_129 hB mo_X8_of ml_X8_50 (sp_X8_of hB h0 (ixk (k := z) (hz) (by omega)) z3 (ixk (k := k) (hk0) (by omega)) (by omega) (ixk (k := 1) (iC 1 (by decide)) (by omega)) (by omega)) (by first | exact h0.1 | exact h0.2.1 | exact h0.2.2.1 | exact h0.2.2.2.1 | exact h0.2.2.2.2.1 | exact h0.2.2.2.2.2.1 | exact h0.2.2.2.2.2.2.1 | exact h0.2.2.2.2.2.2.2.1 | exact h0.2.2.2.2.2.2.2.2) rfl rfl rfl rfl ⟨rfl, rfl, by decide, by decide⟩ (Nat.le_of_ble_eq_true rfl) ⟨by decide, by decide⟩ (fun r_129 V_129 h_129 => ?_)
      obtain ⟨rfl, h_129⟩ := h_129
      replace h_129 := h_129.trans (hr.2.1 k hk).2.1
      subst h_129
      refine j_iret dX8_sceneNow_132 rfl (rfl) (by decide) (by decide) ?_
      exact ⟨_, rfl, rfl, rfl, rfl, rfl, by rw [s_20]; exact rfl⟩
    · refine j_iload dX8_sceneNow_133 rfl ?_
      refine m_if_eq (tgt := 148) dX8_sceneNow_135 (by decide) (iC 0 (by decide)) (fun c_135 => ?_) (fun c_135 => ?_)
      · refine j_iconst (v := 0) dX8_sceneNow_148 (by decide) ?_
        refine j_iret dX8_sceneNow_149 rfl (rfl) (by decide) (by decide) ?_
        exact ⟨_, rfl, rfl, rfl, rfl, rfl, by rw [s_20]; exact (show _ = (atZ (xR x r).2.2.1 k).toInt by rw [hnc.1])⟩
      · exact absurd c_135 (by decide)
    · refine j_iload dX8_sceneNow_150 rfl ?_
      refine m_if_eq (tgt := 165) dX8_sceneNow_152 (by decide) (iC 0 (by decide)) (fun c_152 => ?_) (fun c_152 => ?_)
      · refine j_iconst (v := 0) dX8_sceneNow_165 (by decide) ?_
        refine j_iret dX8_sceneNow_166 rfl (rfl) (by decide) (by decide) ?_
        exact ⟨_, rfl, rfl, rfl, rfl, rfl, by rw [s_20]; exact (show _ = (atZ (xR x r).2.2.2.1 k).toInt by rw [hnc.2])⟩
      · exact absurd c_152 (by decide)
    · refine j_iload dX8_sceneNow_167 rfl ?_
      refine m_if_eq (tgt := 181) dX8_sceneNow_169 (by decide) (iC 0 (by decide)) (fun c_169 => ?_) (fun c_169 => ?_)
      · refine j_iconst (v := 0) dX8_sceneNow_181 (by decide) ?_
        refine j_iret dX8_sceneNow_182 rfl (rfl) (by decide) (by decide) ?_
        exact ⟨_, rfl, rfl, rfl, rfl, rfl, by rw [s_20]; exact (show _ = cueI _ _ _ _ by rw [cueI_f hcc]; rfl)⟩
      · exact absurd c_169 (by decide)
    · refine j_iload dX8_sceneNow_183 rfl ?_
      refine m_if_eq (tgt := 197) dX8_sceneNow_185 (by decide) (iC 0 (by decide)) (fun c_185 => ?_) (fun c_185 => ?_)
      · refine j_iconst (v := 0) dX8_sceneNow_197 (by decide) ?_
        refine j_iret dX8_sceneNow_198 rfl (rfl) (by decide) (by decide) ?_
        exact ⟨_, rfl, rfl, rfl, rfl, rfl, by rw [s_20]; exact (show _ = cueI _ _ _ _ by rw [cueI_f hcc]; rfl)⟩
      · exact absurd c_185 (by decide)
    · refine j_aload_n dX8_sceneNow_199 rfl ?_
      refine j_iload_n dX8_sceneNow_200 rfl ?_
      refine j_iload_n dX8_sceneNow_201 rfl ?_
      refine j_cVi dX8_sceneNow_202 hB mo_X8_drift ml_X8_76 (sp_X8_drift hB h0 hz z3 h hW hk0 hk (Or.inl rfl) hl hm) (by first | exact h0.1 | exact h0.2.1 | exact h0.2.2.1 | exact h0.2.2.2.1 | exact h0.2.2.2.2.1 | exact h0.2.2.2.2.2.1 | exact h0.2.2.2.2.2.2.1 | exact h0.2.2.2.2.2.2.2.1 | exact h0.2.2.2.2.2.2.2.2) rfl rfl rfl rfl ⟨rfl, rfl, by decide, by decide⟩ (Nat.le_of_ble_eq_true rfl) ⟨by decide, by decide⟩ (fun r_202 V_202 h_202 => ?_)
      obtain ⟨rfl, h_202⟩ := h_202
      refine j_iret dX8_sceneNow_205 rfl (rfl) (by decide) (by decide) ?_
      exact ⟨_, rfl, rfl, rfl, rfl, rfl, by rw [s_20]; exact h_202⟩
    · refine j_aload_n dX8_sceneNow_206 rfl ?_
      refine j_iload_n dX8_sceneNow_207 rfl ?_
      refine j_iload_n dX8_sceneNow_208 rfl ?_
      refine j_cVi dX8_sceneNow_209 hB mo_X8_isBad ml_X8_82 (sp_X8_isBad hB h0 hz z3 h hW hk0 hk (Or.inl rfl) hl hm) (by first | exact h0.1 | exact h0.2.1 | exact h0.2.2.1 | exact h0.2.2.2.1 | exact h0.2.2.2.2.1 | exact h0.2.2.2.2.2.1 | exact h0.2.2.2.2.2.2.1 | exact h0.2.2.2.2.2.2.2.1 | exact h0.2.2.2.2.2.2.2.2) rfl rfl rfl rfl ⟨rfl, rfl, by decide, by decide⟩ (Nat.le_of_ble_eq_true rfl) ⟨by decide, by decide⟩ (fun r_209 V_209 h_209 => ?_)
      obtain ⟨rfl, b_209⟩ := h_209
      have s_20 : w.toInt = 11 := by omega
      refine m_ifeqB (tgt := 219) dX8_sceneNow_212 (by decide) b_209 (fun c_212 => ?_) (fun c_212 => ?_)
      · refine j_iconst (v := 0) dX8_sceneNow_219 (by decide) ?_
        refine j_iret dX8_sceneNow_220 rfl (rfl) (by decide) (by decide) ?_
        exact ⟨_, rfl, rfl, rfl, rfl, rfl, by rw [s_20]; exact (show _ = aBad1 x.1 (xR x r) 0 k by unfold aBad1; first | (rw [if_pos (by assumption)]; rfl) | (rw [if_neg (by assumption)]; rfl))⟩
      · refine j_iconst (v := 1) dX8_sceneNow_215 (by decide) ?_
        refine j_goto (tgt := 220) dX8_sceneNow_216 (by decide) ?_
        refine j_iret dX8_sceneNow_220 rfl (rfl) (by decide) (by decide) ?_
        exact ⟨_, rfl, rfl, rfl, rfl, rfl, by rw [s_20]; exact (show _ = aBad1 x.1 (xR x r) 0 k by unfold aBad1; first | (rw [if_pos (by assumption)]; rfl) | (rw [if_neg (by assumption)]; rfl))⟩
  · have hcc := isCue_i.mpr c_9
    refine j_iconst (v := 1) dX8_sceneNow_12 (by decide) ?_
    refine j_goto (tgt := 17) dX8_sceneNow_13 (by decide) ?_
    refine j_istore (L' := [(0, _), (1, _), (2, _), (3, _), (4, _)]) dX8_sceneNow_17 (by decide) rfl ?_
    refine j_iload_n dX8_sceneNow_19 rfl ?_
    refine j_tsw_11 (td := 206) (t0 := 80) (t1 := 88) (t2 := 95) (t3 := 102) (t4 := 118) (t5 := 125) (t6 := 133) (t7 := 150) (t8 := 167) (t9 := 183) (t10 := 199) dX8_sceneNow_20 (by decide) (by decide) (fun s_20 => ?_) (fun s_20 => ?_) (fun s_20 => ?_) (fun s_20 => ?_) (fun s_20 => ?_) (fun s_20 => ?_) (fun s_20 => ?_) (fun s_20 => ?_) (fun s_20 => ?_) (fun s_20 => ?_) (fun s_20 => ?_) (fun s_20 => ?_)
    · refine j_aload_n dX8_sceneNow_80 rfl ?_
      refine j_iload_n dX8_sceneNow_81 rfl ?_
      refine j_iload_n dX8_sceneNow_82 rfl ?_
      refine j_iconst (v := 0) dX8_sceneNow_83 (by decide) ?_
      refine j_cVi dX8_sceneNow_84 hB mo_X8_of ml_X8_50 (sp_X8_of hB h0 (ixk (k := z) (hz) (by omega)) z3 (ixk (k := k) (hk0) (by omega)) (by omega) (ixk (k := 0) (iC 0 (by decide)) (by omega)) (by omega)) (by first | exact h0.1 | exact h0.2.1 | exact h0.2.2.1 | exact h0.2.2.2.1 | exact h0.2.2.2.2.1 | exact h0.2.2.2.2.2.1 | exact h0.2.2.2.2.2.2.1 | exact h0.2.2.2.2.2.2.2.1 | exact h0.2.2.2.2.2.2.2.2) rfl rfl rfl rfl ⟨rfl, rfl, by decide, by decide⟩ (Nat.le_of_ble_eq_true rfl) ⟨by decide, by decide⟩ (fun r_84 V_84 h_84 => ?_)
      obtain ⟨rfl, h_84⟩ := h_84
      replace h_84 := h_84.trans (hr.2.1 k hk).1
      subst h_84
      refine j_iret dX8_sceneNow_87 rfl (rfl) (by decide) (by decide) ?_
      exact ⟨_, rfl, rfl, rfl, rfl, rfl, by rw [s_20]; exact rfl⟩
    · refine j_aload_n dX8_sceneNow_88 rfl ?_
      refine j_iload_n dX8_sceneNow_89 rfl ?_
      refine j_iload_n dX8_sceneNow_90 rfl ?_
      refine j_cVi dX8_sceneNow_91 hB mo_X8_firstFoot ml_X8_161 (sp_X8_firstFoot hB h0 hz z3 hr hrl hk0 (by omega)) (by first | exact h0.1 | exact h0.2.1 | exact h0.2.2.1 | exact h0.2.2.2.1 | exact h0.2.2.2.2.1 | exact h0.2.2.2.2.2.1 | exact h0.2.2.2.2.2.2.1 | exact h0.2.2.2.2.2.2.2.1 | exact h0.2.2.2.2.2.2.2.2) rfl rfl rfl rfl ⟨rfl, rfl, by decide, by decide⟩ (Nat.le_of_ble_eq_true rfl) ⟨by decide, by decide⟩ (fun r_91 V_91 h_91 => ?_)
      obtain ⟨rfl, h_91⟩ := h_91
      refine j_iret dX8_sceneNow_94 rfl (rfl) (by decide) (by decide) ?_
      exact ⟨_, rfl, rfl, rfl, rfl, rfl, by rw [s_20]; exact h_91⟩
    · refine j_aload_n dX8_sceneNow_95 rfl ?_
      refine j_getr dX8_sceneNow_96 hB fl_X8_22 (by first | exact h0.1 | exact h0.2.1 | exact h0.2.2.1 | exact h0.2.2.2.1 | exact h0.2.2.2.2.1 | exact h0.2.2.2.2.2.1 | exact h0.2.2.2.2.2.2.1 | exact h0.2.2.2.2.2.2.2.1 | exact h0.2.2.2.2.2.2.2.2) (by rfl) ?_
      refine j_iload_n dX8_sceneNow_99 rfl ?_
      refine m_iald (k := k) dX8_sceneNow_100 hB (by first | exact h0.1 | exact h0.2.1 | exact h0.2.2.1 | exact h0.2.2.2.1 | exact h0.2.2.2.2.1 | exact h0.2.2.2.2.2.1 | exact h0.2.2.2.2.2.2.1 | exact h0.2.2.2.2.2.2.2.1 | exact h0.2.2.2.2.2.2.2.2) (ixk (hk0) (by omega)) (by omega) ?_
      refine j_iret dX8_sceneNow_101 rfl (rfl) (by decide) (by decide) ?_
      exact ⟨_, rfl, rfl, rfl, rfl, rfl, by rw [s_20]; exact hl.1.2 k hk⟩
    · refine j_aload_n dX8_sceneNow_102 rfl ?_
      refine j_getr dX8_sceneNow_103 hB fl_X8_19 (by first | exact h0.1 | exact h0.2.1 | exact h0.2.2.1 | exact h0.2.2.2.1 | exact h0.2.2.2.2.1 | exact h0.2.2.2.2.2.1 | exact h0.2.2.2.2.2.2.1 | exact h0.2.2.2.2.2.2.2.1 | exact h0.2.2.2.2.2.2.2.2) (by rfl) ?_
      refine j_iload_n dX8_sceneNow_106 rfl ?_
      refine j_iconst (v := 1) dX8_sceneNow_107 (by decide) ?_
      refine j_iadd dX8_sceneNow_108 ?_
      refine m_iald (k := k + 1) dX8_sceneNow_109 hB (by first | exact h0.1 | exact h0.2.1 | exact h0.2.2.1 | exact h0.2.2.2.1 | exact h0.2.2.2.2.1 | exact h0.2.2.2.2.2.1 | exact h0.2.2.2.2.2.2.1 | exact h0.2.2.2.2.2.2.2.1 | exact h0.2.2.2.2.2.2.2.2) (ixk (iA (hk0) (iC 1 (by decide)) (by omega)) (by omega)) (by omega) ?_
      refine j_aload_n dX8_sceneNow_110 rfl ?_
      refine j_getr dX8_sceneNow_111 hB fl_X8_19 (by first | exact h0.1 | exact h0.2.1 | exact h0.2.2.1 | exact h0.2.2.2.1 | exact h0.2.2.2.2.1 | exact h0.2.2.2.2.2.1 | exact h0.2.2.2.2.2.2.1 | exact h0.2.2.2.2.2.2.2.1 | exact h0.2.2.2.2.2.2.2.2) (by rfl) ?_
      refine j_iload_n dX8_sceneNow_114 rfl ?_
      refine m_iald (k := k) dX8_sceneNow_115 hB (by first | exact h0.1 | exact h0.2.1 | exact h0.2.2.1 | exact h0.2.2.2.1 | exact h0.2.2.2.2.1 | exact h0.2.2.2.2.2.1 | exact h0.2.2.2.2.2.2.1 | exact h0.2.2.2.2.2.2.2.1 | exact h0.2.2.2.2.2.2.2.2) (ixk (hk0) (by omega)) (by omega) ?_
      refine j_isub dX8_sceneNow_116 ?_
      refine j_iret dX8_sceneNow_117 rfl (rfl) (by decide) (by decide) ?_
      exact ⟨_, rfl, rfl, rfl, rfl, rfl, by rw [s_20]; exact (show _ = aTime (xR x r) 0 k from ixz (iS (hb1) (hb0) (by omega)) (by omega))⟩
    · refine j_aload_n dX8_sceneNow_118 rfl ?_
      refine j_getr dX8_sceneNow_119 hB fl_X8_19 (by first | exact h0.1 | exact h0.2.1 | exact h0.2.2.1 | exact h0.2.2.2.1 | exact h0.2.2.2.2.1 | exact h0.2.2.2.2.2.1 | exact h0.2.2.2.2.2.2.1 | exact h0.2.2.2.2.2.2.2.1 | exact h0.2.2.2.2.2.2.2.2) (by rfl) ?_
      refine j_iload_n dX8_sceneNow_122 rfl ?_
      refine m_iald (k := k) dX8_sceneNow_123 hB (by first | exact h0.1 | exact h0.2.1 | exact h0.2.2.1 | exact h0.2.2.2.1 | exact h0.2.2.2.2.1 | exact h0.2.2.2.2.2.1 | exact h0.2.2.2.2.2.2.1 | exact h0.2.2.2.2.2.2.2.1 | exact h0.2.2.2.2.2.2.2.2) (ixk (hk0) (by omega)) (by omega) ?_
      refine j_iret dX8_sceneNow_124 rfl (rfl) (by decide) (by decide) ?_
      exact ⟨_, rfl, rfl, rfl, rfl, rfl, by rw [s_20]; exact hb0⟩
    · refine j_aload_n dX8_sceneNow_125 rfl ?_
      refine j_iload_n dX8_sceneNow_126 rfl ?_
      refine j_iload_n dX8_sceneNow_127 rfl ?_
      refine j_iconst (v := 1) dX8_sceneNow_128 (by decide) ?_
      refine j_cVi dX8_sceneNow_129 hB mo_X8_of ml_X8_50 (sp_X8_of hB h0 (ixk (k := z) (hz) (by omega)) z3 (ixk (k := k) (hk0) (by omega)) (by omega) (ixk (k := 1) (iC 1 (by decide)) (by omega)) (by omega)) (by first | exact h0.1 | exact h0.2.1 | exact h0.2.2.1 | exact h0.2.2.2.1 | exact h0.2.2.2.2.1 | exact h0.2.2.2.2.2.1 | exact h0.2.2.2.2.2.2.1 | exact h0.2.2.2.2.2.2.2.1 | exact h0.2.2.2.2.2.2.2.2) rfl rfl rfl rfl ⟨rfl, rfl, by decide, by decide⟩ (Nat.le_of_ble_eq_true rfl) ⟨by decide, by decide⟩ (fun r_129 V_129 h_129 => ?_)
      obtain ⟨rfl, h_129⟩ := h_129
      replace h_129 := h_129.trans (hr.2.1 k hk).2.1
      subst h_129
      refine j_iret dX8_sceneNow_132 rfl (rfl) (by decide) (by decide) ?_
      exact ⟨_, rfl, rfl, rfl, rfl, rfl, by rw [s_20]; exact rfl⟩
    · refine j_iload dX8_sceneNow_133 rfl ?_
      refine m_if_eq (tgt := 148) dX8_sceneNow_135 (by decide) (iC 1 (by decide)) (fun c_135 => ?_) (fun c_135 => ?_)
      · exact absurd c_135 (by decide)
      · refine j_aload_n dX8_sceneNow_138 rfl ?_
        refine j_iload_n dX8_sceneNow_139 rfl ?_
        refine j_iload_n dX8_sceneNow_140 rfl ?_
        refine j_iconst (v := 2) dX8_sceneNow_141 (by decide) ?_
        refine j_cVi dX8_sceneNow_142 hB mo_X8_of ml_X8_50 (sp_X8_of hB h0 (ixk (k := z) (hz) (by omega)) z3 (ixk (k := k) (hk0) (by omega)) (by omega) (ixk (k := 2) (iC 2 (by decide)) (by omega)) (by omega)) (by first | exact h0.1 | exact h0.2.1 | exact h0.2.2.1 | exact h0.2.2.2.1 | exact h0.2.2.2.2.1 | exact h0.2.2.2.2.2.1 | exact h0.2.2.2.2.2.2.1 | exact h0.2.2.2.2.2.2.2.1 | exact h0.2.2.2.2.2.2.2.2) rfl rfl rfl rfl ⟨rfl, rfl, by decide, by decide⟩ (Nat.le_of_ble_eq_true rfl) ⟨by decide, by decide⟩ (fun r_142 V_142 h_142 => ?_)
        obtain ⟨rfl, h_142⟩ := h_142
        replace h_142 := h_142.trans ((hr.2.1 k hk).2.2 hcc).1
        subst h_142
        refine j_goto (tgt := 149) dX8_sceneNow_145 (by decide) ?_
        refine j_iret dX8_sceneNow_149 rfl (rfl) (by decide) (by decide) ?_
        exact ⟨_, rfl, rfl, rfl, rfl, rfl, by rw [s_20]; exact rfl⟩
    · refine j_iload dX8_sceneNow_150 rfl ?_
      refine m_if_eq (tgt := 165) dX8_sceneNow_152 (by decide) (iC 1 (by decide)) (fun c_152 => ?_) (fun c_152 => ?_)
      · exact absurd c_152 (by decide)
      · refine j_aload_n dX8_sceneNow_155 rfl ?_
        refine j_iload_n dX8_sceneNow_156 rfl ?_
        refine j_iload_n dX8_sceneNow_157 rfl ?_
        refine j_iconst (v := 3) dX8_sceneNow_158 (by decide) ?_
        refine j_cVi dX8_sceneNow_159 hB mo_X8_of ml_X8_50 (sp_X8_of hB h0 (ixk (k := z) (hz) (by omega)) z3 (ixk (k := k) (hk0) (by omega)) (by omega) (ixk (k := 3) (iC 3 (by decide)) (by omega)) (by omega)) (by first | exact h0.1 | exact h0.2.1 | exact h0.2.2.1 | exact h0.2.2.2.1 | exact h0.2.2.2.2.1 | exact h0.2.2.2.2.2.1 | exact h0.2.2.2.2.2.2.1 | exact h0.2.2.2.2.2.2.2.1 | exact h0.2.2.2.2.2.2.2.2) rfl rfl rfl rfl ⟨rfl, rfl, by decide, by decide⟩ (Nat.le_of_ble_eq_true rfl) ⟨by decide, by decide⟩ (fun r_159 V_159 h_159 => ?_)
        obtain ⟨rfl, h_159⟩ := h_159
        replace h_159 := h_159.trans ((hr.2.1 k hk).2.2 hcc).2
        subst h_159
        refine j_goto (tgt := 166) dX8_sceneNow_162 (by decide) ?_
        refine j_iret dX8_sceneNow_166 rfl (rfl) (by decide) (by decide) ?_
        exact ⟨_, rfl, rfl, rfl, rfl, rfl, by rw [s_20]; exact rfl⟩
    · refine j_iload dX8_sceneNow_167 rfl ?_
      refine m_if_eq (tgt := 181) dX8_sceneNow_169 (by decide) (iC 1 (by decide)) (fun c_169 => ?_) (fun c_169 => ?_)
      · exact absurd c_169 (by decide)
      · refine j_aload_n dX8_sceneNow_172 rfl ?_
        refine j_getr dX8_sceneNow_173 hB fl_X8_25 (by first | exact h0.1 | exact h0.2.1 | exact h0.2.2.1 | exact h0.2.2.2.1 | exact h0.2.2.2.2.1 | exact h0.2.2.2.2.2.1 | exact h0.2.2.2.2.2.2.1 | exact h0.2.2.2.2.2.2.2.1 | exact h0.2.2.2.2.2.2.2.2) (by rfl) ?_
        refine j_iload_n dX8_sceneNow_176 rfl ?_
        refine m_iald (k := k) dX8_sceneNow_177 hB (by first | exact h0.1 | exact h0.2.1 | exact h0.2.2.1 | exact h0.2.2.2.1 | exact h0.2.2.2.2.1 | exact h0.2.2.2.2.2.1 | exact h0.2.2.2.2.2.2.1 | exact h0.2.2.2.2.2.2.2.1 | exact h0.2.2.2.2.2.2.2.2) (ixk (hk0) (by omega)) (by omega) ?_
        refine j_goto (tgt := 182) dX8_sceneNow_178 (by decide) ?_
        refine j_iret dX8_sceneNow_182 rfl (rfl) (by decide) (by decide) ?_
        exact ⟨_, rfl, rfl, rfl, rfl, rfl, by rw [s_20]; exact (hl.2 k hm).1.trans (cueI_t hcc).symm⟩
    · refine j_iload dX8_sceneNow_183 rfl ?_
      refine m_if_eq (tgt := 197) dX8_sceneNow_185 (by decide) (iC 1 (by decide)) (fun c_185 => ?_) (fun c_185 => ?_)
      · exact absurd c_185 (by decide)
      · refine j_aload_n dX8_sceneNow_188 rfl ?_
        refine j_getr dX8_sceneNow_189 hB fl_X8_28 (by first | exact h0.1 | exact h0.2.1 | exact h0.2.2.1 | exact h0.2.2.2.1 | exact h0.2.2.2.2.1 | exact h0.2.2.2.2.2.1 | exact h0.2.2.2.2.2.2.1 | exact h0.2.2.2.2.2.2.2.1 | exact h0.2.2.2.2.2.2.2.2) (by rfl) ?_
        refine j_iload_n dX8_sceneNow_192 rfl ?_
        refine m_iald (k := k) dX8_sceneNow_193 hB (by first | exact h0.1 | exact h0.2.1 | exact h0.2.2.1 | exact h0.2.2.2.1 | exact h0.2.2.2.2.1 | exact h0.2.2.2.2.2.1 | exact h0.2.2.2.2.2.2.1 | exact h0.2.2.2.2.2.2.2.1 | exact h0.2.2.2.2.2.2.2.2) (ixk (hk0) (by omega)) (by omega) ?_
        refine j_goto (tgt := 198) dX8_sceneNow_194 (by decide) ?_
        refine j_iret dX8_sceneNow_198 rfl (rfl) (by decide) (by decide) ?_
        exact ⟨_, rfl, rfl, rfl, rfl, rfl, by rw [s_20]; exact (hl.2 k hm).2⟩
    · refine j_aload_n dX8_sceneNow_199 rfl ?_
      refine j_iload_n dX8_sceneNow_200 rfl ?_
      refine j_iload_n dX8_sceneNow_201 rfl ?_
      refine j_cVi dX8_sceneNow_202 hB mo_X8_drift ml_X8_76 (sp_X8_drift hB h0 hz z3 h hW hk0 hk (Or.inl rfl) hl hm) (by first | exact h0.1 | exact h0.2.1 | exact h0.2.2.1 | exact h0.2.2.2.1 | exact h0.2.2.2.2.1 | exact h0.2.2.2.2.2.1 | exact h0.2.2.2.2.2.2.1 | exact h0.2.2.2.2.2.2.2.1 | exact h0.2.2.2.2.2.2.2.2) rfl rfl rfl rfl ⟨rfl, rfl, by decide, by decide⟩ (Nat.le_of_ble_eq_true rfl) ⟨by decide, by decide⟩ (fun r_202 V_202 h_202 => ?_)
      obtain ⟨rfl, h_202⟩ := h_202
      refine j_iret dX8_sceneNow_205 rfl (rfl) (by decide) (by decide) ?_
      exact ⟨_, rfl, rfl, rfl, rfl, rfl, by rw [s_20]; exact h_202⟩
    · refine j_aload_n dX8_sceneNow_206 rfl ?_
      refine j_iload_n dX8_sceneNow_207 rfl ?_
      refine j_iload_n dX8_sceneNow_208 rfl ?_
      refine j_cVi dX8_sceneNow_209 hB mo_X8_isBad ml_X8_82 (sp_X8_isBad hB h0 hz z3 h hW hk0 hk (Or.inl rfl) hl hm) (by first | exact h0.1 | exact h0.2.1 | exact h0.2.2.1 | exact h0.2.2.2.1 | exact h0.2.2.2.2.1 | exact h0.2.2.2.2.2.1 | exact h0.2.2.2.2.2.2.1 | exact h0.2.2.2.2.2.2.2.1 | exact h0.2.2.2.2.2.2.2.2) rfl rfl rfl rfl ⟨rfl, rfl, by decide, by decide⟩ (Nat.le_of_ble_eq_true rfl) ⟨by decide, by decide⟩ (fun r_209 V_209 h_209 => ?_)
      obtain ⟨rfl, b_209⟩ := h_209
      have s_20 : w.toInt = 11 := by omega
      refine m_ifeqB (tgt := 219) dX8_sceneNow_212 (by decide) b_209 (fun c_212 => ?_) (fun c_212 => ?_)
      · refine j_iconst (v := 0) dX8_sceneNow_219 (by decide) ?_
        refine j_iret dX8_sceneNow_220 rfl (rfl) (by decide) (by decide) ?_
        exact ⟨_, rfl, rfl, rfl, rfl, rfl, by rw [s_20]; exact (show _ = aBad1 x.1 (xR x r) 0 k by unfold aBad1; first | (rw [if_pos (by assumption)]; rfl) | (rw [if_neg (by assumption)]; rfl))⟩
      · refine j_iconst (v := 1) dX8_sceneNow_215 (by decide) ?_
        refine j_goto (tgt := 220) dX8_sceneNow_216 (by decide) ?_
        refine j_iret dX8_sceneNow_220 rfl (rfl) (by decide) (by decide) ?_
        exact ⟨_, rfl, rfl, rfl, rfl, rfl, by rw [s_20]; exact (show _ = aBad1 x.1 (xR x r) 0 k by unfold aBad1; first | (rw [if_pos (by assumption)]; rfl) | (rw [if_neg (by assumption)]; rfl))⟩
end JM5
