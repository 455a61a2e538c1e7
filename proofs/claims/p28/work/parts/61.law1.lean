/-! THE LAW: its small methods -/
theorem shr_ge {x : Int32} : 0 ≤ ((x.toUInt32 >>> ((1 : Int32).toUInt32 &&& Int32.toUInt32 31)).toInt32).toInt := by
  have e1 : ((1 : Int32).toUInt32 &&& Int32.toUInt32 31) = 1 := by decide
  rw [e1]
  have h : (x.toUInt32 >>> (1 : UInt32)).toNat < 2147483648 := by
    rw [UInt32.toNat_shiftRight]
    have := x.toUInt32.toNat_lt
    rw [show (1 : UInt32).toNat % 32 = 1 from rfl, Nat.shiftRight_eq_div_pow]
    omega
  show 0 ≤ ((x.toUInt32 >>> (1 : UInt32)).toBitVec).toInt
  rw [BitVec.toInt_eq_toNat_cond]
  have h2 : (x.toUInt32 >>> (1 : UInt32)).toBitVec.toNat < 2147483648 := h
  rw [if_pos (by omega)]
  omega
theorem ti_rem {x y : Int32} (h0 : 0 ≤ x.toInt) (h1 : 0 < y.toInt) : (x - x / y * y).toInt = x.toInt % y.toInt := by
  have d := div_ti (w := x) (pa := y) h0
  have b := x.toInt_lt
  have q0 : 0 ≤ x.toInt / y.toInt := Int.ediv_nonneg h0 (by omega)
  have q1 : x.toInt / y.toInt * y.toInt ≤ x.toInt := Int.ediv_mul_le _ (by omega)
  have q2 : 0 ≤ x.toInt / y.toInt * y.toInt := Int.mul_nonneg q0 (by omega)
  have m : (x / y * y).toInt = x.toInt / y.toInt * y.toInt := by rw [ti_mul (by rw [d]; omega) (by rw [d]; omega), d]
  rw [ti_sub (by rw [m]; omega) (by rw [m]; omega), m]
  have := Int.emod_def x.toInt y.toInt
  rw [Int.mul_comm] at this
  omega
section JLL
variable {l : Launch} {s0 : State} {D : jD} {T : jT} {V : jV} {X : jX} {sz : Nat}
set_option maxRecDepth 100000 in
set_option maxHeartbeats 4000000 in
theorem sp_L_at (hB : jB l s0 D) {a b : Int32} (hb : 0 < b.toInt) : Sp l s0 D kL_at (jR 0 0 0) 0 0 [.int a, .int b] T V X sz (qI T X sz (fun r V' => V = V' ∧ 0 ≤ r.toInt ∧ r.toInt < b.toInt)) := by
  refine Sp.of pn_L_at rfl (Nat.le_of_ble_eq_true rfl) ?_
  refine j_iload_n dL_at_0 rfl ?_
  refine j_iconst (v := 1) dL_at_1 (by decide) ?_
  refine j_iushr dL_at_2 ?_
  refine j_iload_n dL_at_3 rfl ?_
  refine j_irem dL_at_4 (fun z => by rw [z] at hb; exact absurd hb (by decide)) ?_
  refine j_iret dL_at_5 rfl (rfl) (by decide) (by decide) ?_
  exact ⟨_, rfl, rfl, rfl, rfl, rfl, by rw [ti_rem shr_ge hb]; exact Int.emod_nonneg _ (by omega), by rw [ti_rem shr_ge hb]; exact Int.emod_lt_of_pos _ hb⟩
set_option maxRecDepth 100000 in
set_option maxHeartbeats 4000000 in
theorem sp_L_abs (hB : jB l s0 D) {a : Int32} {z : Int} (ha : isI a z) (h0 : -2147483648 < z) (h1 : z < 2147483648) : Sp l s0 D kL_abs (jR 0 0 0) 0 0 [.int a] T V X sz (qI T X sz (fun r V' => V = V' ∧ isI r (z.natAbs : Int))) := by
  refine Sp.of pn_L_abs rfl (Nat.le_of_ble_eq_true rfl) ?_
  refine j_iload_n dL_abs_0 rfl ?_
  refine m_if_ge (tgt := 9) dL_abs_1 (by decide) (ha) (fun c_1 => ?_) (fun c_1 => ?_)
  · refine j_iload_n dL_abs_9 rfl ?_
    refine j_iret dL_abs_10 rfl (rfl) (by decide) (by decide) ?_
    exact ⟨_, rfl, rfl, rfl, rfl, rfl, ixz (ha) (by omega)⟩
  · refine j_iload_n dL_abs_4 rfl ?_
    refine j_ineg dL_abs_5 ?_
    refine j_goto (tgt := 10) dL_abs_6 (by decide) ?_
    refine j_iret dL_abs_10 rfl (rfl) (by decide) (by decide) ?_
    exact ⟨_, rfl, rfl, rfl, rfl, rfl, ixz (iN (ha) (by omega)) (by omega)⟩
set_option maxRecDepth 100000 in
set_option maxHeartbeats 4000000 in
theorem sp_L_cell (hB : jB l s0 D) {b N : Nat} {xs : Nat → Int32} (hXs : va_X b N xs s0 s0.heap) (hbs : b < s0.heap.size) (hN : N ≤ 260) {k : Int32} (k0 : 0 ≤ k.toInt) : Sp l s0 D kL_cell (jR 0 0 0) 0 0 [.ref b, .int k] T V X sz (qI T X sz (fun r V' => V = V')) := by
  refine Sp.of pn_L_cell rfl (Nat.le_of_ble_eq_true rfl) ?_
  have hNt : isI (Int32.ofNat N) (N : Int) := Int32.toInt_ofNat_of_lt (by omega)
  refine j_iload_n dL_cell_0 rfl ?_
  refine j_aload_n dL_cell_1 rfl ?_
  refine j_slen dL_cell_2 hXs hbs ?_
  refine m_icmp_ge (tgt := 12) dL_cell_3 (by decide) iV hNt (fun c_3 => ?_) (fun c_3 => ?_)
  · refine j_ldc dL_cell_12 hB kc_L_7 ?_
    refine j_iload_n dL_cell_14 rfl ?_
    refine j_iconst (v := 1) dL_cell_15 (by decide) ?_
    refine j_iadd dL_cell_16 ?_
    refine j_imul dL_cell_17 ?_
    refine j_iret dL_cell_18 rfl (rfl) (by decide) (by decide) ?_
    exact ⟨_, rfl, rfl, rfl, rfl, rfl⟩
  · refine j_aload_n dL_cell_6 rfl ?_
    refine j_iload_n dL_cell_7 rfl ?_
    refine j_sld (k := k.toInt.toNat) dL_cell_8 hXs hbs (by omega) (by omega) ?_
    refine j_goto (tgt := 18) dL_cell_9 (by decide) ?_
    exact j_iret dL_cell_18 rfl rfl (by decide) (by decide) ⟨_, rfl, rfl, rfl, rfl, rfl⟩
set_option maxRecDepth 100000 in
set_option maxHeartbeats 4000000 in
theorem sp_L_speed (hB : jB l s0 D) {ra : Nat} {P : pL} {f : Int32} (hr : T ra = some (kI 60)) (hP : zHl (V ra) 30 P) (hw : spW P) (f0 : 0 ≤ f.toInt) : Sp l s0 D kL_speed (jR 0 0 0) 0 0 [.int f, .ref ra] T V X sz (qI T X sz (fun y V' => V = V' ∧ y = pHold P f.toInt)) := by
  refine Sp.of pn_L_speed rfl (Nat.le_of_ble_eq_true rfl) ?_
  have h6 := hP.1
  have hPn := hP.n
  have loop : ∀ (n j : Nat) (i b : Int32), j + n = P.length → i.toInt = j → ((b.toInt = -1 ∧ ∀ i9 : Nat, i9 < j → f.toInt < (V ra (30 + 1 + 2 * i9)).toInt) ∨ ∃ j9 : Nat, j9 < j ∧ b.toInt = j9 ∧ (V ra (30 + 1 + 2 * j9)).toInt ≤ f.toInt ∧ ∀ i9 : Nat, i9 < j → (V ra (30 + 1 + 2 * i9)).toInt ≤ f.toInt → (V ra (30 + 1 + 2 * i9)).toInt ≤ (V ra (30 + 1 + 2 * j9)).toInt) → J l s0 D kL_speed (jR 0 0 0) 0 0 (qI T X sz (fun y V' => V = V' ∧ y = pHold P f.toInt)) 4 [(0, .int f), (1, .ref ra), (2, .int b), (3, .int i)] [] T V X sz 0 0 := by
    intro n
    refine Nat.strongRecOn n ?_
    clear n
    intro n ih j i b hn hi hy
    refine j_iload_n dL_speed_4 rfl ?_
    refine j_aload_n dL_speed_5 rfl ?_
    refine j_bipush (v := 30) dL_speed_6 (by decide) ?_
    refine m_iald (k := 30) dL_speed_8 hB (by assumption) (ixk (iC 30 (by decide)) (by omega)) (by omega) ?_
    refine m_icmp_ge (tgt := 55) dL_speed_9 (by decide) (hi) (hPn) (fun c_9 => ?_) (fun c_9 => ?_)
    · obtain ⟨j9, a, e1, e3, e4⟩ : ∃ j9 : Nat, j9 < j ∧ b.toInt = j9 ∧ (V ra (30 + 1 + 2 * j9)).toInt ≤ f.toInt ∧ ∀ i9 : Nat, i9 < j → (V ra (30 + 1 + 2 * i9)).toInt ≤ f.toInt → (V ra (30 + 1 + 2 * i9)).toInt ≤ (V ra (30 + 1 + 2 * j9)).toInt := by
        rcases hy with ⟨-, e2⟩ | h
        · obtain ⟨v, R9, hv⟩ := hw.2.1
          obtain ⟨i9, h9, e9⟩ := hP.of (x := (0, v)) (by rw [hv]; exact List.mem_cons_self)
          have := e2 i9 (by omega)
          have e9 := congrArg Prod.fst e9
          simp only at e9
          rw [← e9] at this
          exact absurd this (by rw [ti_0]; omega)
        · exact h
      have hj : j = P.length := by omega
      refine j_aload_n dL_speed_55 rfl ?_
      refine j_bipush (v := 32) dL_speed_56 (by decide) ?_
      refine j_iconst (v := 2) dL_speed_58 (by decide) ?_
      refine j_iload_n dL_speed_59 rfl ?_
      refine j_imul dL_speed_60 ?_
      refine j_iadd dL_speed_61 ?_
      refine m_iald (k := 30 + 1 + 2 * j9 + 1) dL_speed_62 hB (by assumption) (ixk (iA (iC 32 (by decide)) (iM (iC 2 (by decide)) (iV) (by omega)) (by omega)) (by omega)) (by omega) ?_
      refine j_iret dL_speed_63 rfl (rfl) (by decide) (by decide) ?_
      refine ⟨_, rfl, rfl, rfl, rfl, rfl, ?_⟩
      subst hj
      exact (hold_zH hP hw.1 a e3 e4).symm
    · refine j_aload_n dL_speed_12 rfl ?_
      refine j_bipush (v := 31) dL_speed_13 (by decide) ?_
      refine j_iconst (v := 2) dL_speed_15 (by decide) ?_
      refine j_iload_n dL_speed_16 rfl ?_
      refine j_imul dL_speed_17 ?_
      refine j_iadd dL_speed_18 ?_
      refine m_iald (k := 30 + 1 + 2 * j) dL_speed_19 hB (by assumption) (ixk (iA (iC 31 (by decide)) (iM (iC 2 (by decide)) (hi) (by omega)) (by omega)) (by omega)) (by omega) ?_
      refine j_iload_n dL_speed_20 rfl ?_
      refine m_icmp_gt (tgt := 49) dL_speed_21 (by decide) (iV) (iV) (fun c_21 => ?_) (fun c_21 => ?_)
      · refine j_iinc (v := 1) (L' := [(0, _), (1, _), (2, _), (3, _)]) dL_speed_49 rfl (by decide) (by decide) rfl ?_
        refine j_goto (tgt := 4) dL_speed_52 (by decide) ?_
        refine ih (n - 1) (by omega) (j + 1) _ _ (by omega) ?_ ?_
        · exact (ixk (k := j + 1) (iA (hi) (iC 1 (by decide)) (by omega)) (by omega))
        rcases hy with ⟨e1, e2⟩ | ⟨j9, a, e1, e3, e4⟩
        · exact Or.inl ⟨e1, fun i9 h9 => by
            rcases Nat.lt_or_ge i9 j with g | g
            · exact e2 i9 g
            · have : i9 = j := by omega
              subst this
              omega⟩
        · exact Or.inr ⟨j9, by omega, e1, e3, fun i9 h9 hf => by
            rcases Nat.lt_or_ge i9 j with g | g
            · exact e4 i9 g hf
            · have : i9 = j := by omega
              subst this
              omega⟩
      · refine j_iload_n dL_speed_24 rfl ?_
        refine m_if_lt (tgt := 47) dL_speed_25 (by decide) (iV) (fun c_25 => ?_) (fun c_25 => ?_)
        · refine j_iload_n dL_speed_47 rfl ?_
          refine j_istore_n (L' := [(0, _), (1, _), (2, _), (3, _)]) dL_speed_48 (by decide) rfl ?_
          refine j_iinc (v := 1) (L' := [(0, _), (1, _), (2, _), (3, _)]) dL_speed_49 rfl (by decide) (by decide) rfl ?_
          refine j_goto (tgt := 4) dL_speed_52 (by decide) ?_
          refine ih (n - 1) (by omega) (j + 1) _ _ (by omega) ?_ ?_
          · exact (ixk (k := j + 1) (iA (hi) (iC 1 (by decide)) (by omega)) (by omega))
          refine Or.inr ⟨j, by omega, hi, by omega, fun i9 h9 hf => ?_⟩
          rcases Nat.lt_or_ge i9 j with g | g
          · rcases hy with ⟨e1, e2⟩ | ⟨j8, a8, e81, e83, e84⟩
            · have := e2 i9 g
              omega
            · have := e84 i9 g hf
              have hx : b.toInt < 0 ∨ (V ra (30 + 1 + 2 * j8)).toInt < (V ra (30 + 1 + 2 * j)).toInt := by
                exact Or.inl c_25
              omega
          · have : i9 = j := by omega
            subst this
            exact Int.le_refl _
        · obtain ⟨j9, a, e1, e3, e4⟩ : ∃ j9 : Nat, j9 < j ∧ b.toInt = j9 ∧ (V ra (30 + 1 + 2 * j9)).toInt ≤ f.toInt ∧ ∀ i9 : Nat, i9 < j → (V ra (30 + 1 + 2 * i9)).toInt ≤ f.toInt → (V ra (30 + 1 + 2 * i9)).toInt ≤ (V ra (30 + 1 + 2 * j9)).toInt := by
            rcases hy with ⟨e1, -⟩ | h
            · omega
            · exact h
          refine j_aload_n dL_speed_28 rfl ?_
          refine j_bipush (v := 31) dL_speed_29 (by decide) ?_
          refine j_iconst (v := 2) dL_speed_31 (by decide) ?_
          refine j_iload_n dL_speed_32 rfl ?_
          refine j_imul dL_speed_33 ?_
          refine j_iadd dL_speed_34 ?_
          refine m_iald (k := 30 + 1 + 2 * j) dL_speed_35 hB (by assumption) (ixk (iA (iC 31 (by decide)) (iM (iC 2 (by decide)) (hi) (by omega)) (by omega)) (by omega)) (by omega) ?_
          refine j_aload_n dL_speed_36 rfl ?_
          refine j_bipush (v := 31) dL_speed_37 (by decide) ?_
          refine j_iconst (v := 2) dL_speed_39 (by decide) ?_
          refine j_iload_n dL_speed_40 rfl ?_
          refine j_imul dL_speed_41 ?_
          refine j_iadd dL_speed_42 ?_
          refine m_iald (k := 30 + 1 + 2 * j9) dL_speed_43 hB (by assumption) (ixk (iA (iC 31 (by decide)) (iM (iC 2 (by decide)) (iV) (by omega)) (by omega)) (by omega)) (by omega) ?_
          refine m_icmp_le (tgt := 49) dL_speed_44 (by decide) (iV) (iV) (fun c_44 => ?_) (fun c_44 => ?_)
          · refine j_iinc (v := 1) (L' := [(0, _), (1, _), (2, _), (3, _)]) dL_speed_49 rfl (by decide) (by decide) rfl ?_
            refine j_goto (tgt := 4) dL_speed_52 (by decide) ?_
            refine ih (n - 1) (by omega) (j + 1) _ _ (by omega) ?_ ?_
            · exact (ixk (k := j + 1) (iA (hi) (iC 1 (by decide)) (by omega)) (by omega))
            exact Or.inr ⟨j9, by omega, e1, e3, fun i9 h9 hf => by
                rcases Nat.lt_or_ge i9 j with g | g
                · exact e4 i9 g hf
                · have : i9 = j := by omega
                  subst this
                  exact c_44⟩
          · refine j_iload_n dL_speed_47 rfl ?_
            refine j_istore_n (L' := [(0, _), (1, _), (2, _), (3, _)]) dL_speed_48 (by decide) rfl ?_
            refine j_iinc (v := 1) (L' := [(0, _), (1, _), (2, _), (3, _)]) dL_speed_49 rfl (by decide) (by decide) rfl ?_
            refine j_goto (tgt := 4) dL_speed_52 (by decide) ?_
            refine ih (n - 1) (by omega) (j + 1) _ _ (by omega) ?_ ?_
            · exact (ixk (k := j + 1) (iA (hi) (iC 1 (by decide)) (by omega)) (by omega))
            refine Or.inr ⟨j, by omega, hi, by omega, fun i9 h9 hf => ?_⟩
            rcases Nat.lt_or_ge i9 j with g | g
            · rcases hy with ⟨e1, e2⟩ | ⟨j8, a8, e81, e83, e84⟩
              · have := e2 i9 g
                omega
              · have := e84 i9 g hf
                have hx : b.toInt < 0 ∨ (V ra (30 + 1 + 2 * j8)).toInt < (V ra (30 + 1 + 2 * j)).toInt := by
                  have : j9 = j8 := by omega
                  subst this
                  exact Or.inr (by omega)
                omega
            · have : i9 = j := by omega
              subst this
              exact Int.le_refl _
  refine j_iconst (v := -1) dL_speed_0 (by decide) ?_
  refine j_istore_n (L' := [(0, _), (1, _), (2, _)]) dL_speed_1 (by decide) rfl ?_
  refine j_iconst (v := 0) dL_speed_2 (by decide) ?_
  refine j_istore_n (L' := [(0, _), (1, _), (2, _), (3, _)]) dL_speed_3 (by decide) rfl ?_
  exact loop P.length 0 0 (-1) (by omega) rfl (Or.inl ⟨rfl, fun i9 h9 => absurd h9 (Nat.not_lt_zero _)⟩)
set_option maxRecDepth 100000 in
set_option maxHeartbeats 4000000 in
theorem sp_L_lost (hB : jB l s0 D) {ra : Nat} {P : pL} {f : Int32} (hr : T ra = some (kI 60)) (hP : zHl (V ra) 45 P) (hw : slW P) : Sp l s0 D kL_lost (jR 0 0 0) 0 0 [.int f, .ref ra] T V X sz (qI T X sz (fun y V' => V = V' ∧ bQ y (lostB P f.toInt = true))) := by
  refine Sp.of pn_L_lost rfl (Nat.le_of_ble_eq_true rfl) ?_
  have h6 := hP.1
  have hPn := hP.n
  have loop : ∀ (n j : Nat) (i : Int32), j + n = P.length → i.toInt = j → (∀ i9 : Nat, i9 < j → ¬ ((V ra (45 + 1 + 2 * i9)).toInt ≤ f.toInt ∧ f.toInt < (V ra (45 + 1 + 2 * i9)).toInt + (V ra (45 + 1 + 2 * i9 + 1)).toInt)) → J l s0 D kL_lost (jR 0 0 0) 0 0 (qI T X sz (fun y V' => V = V' ∧ bQ y (lostB P f.toInt = true))) 2 [(0, .int f), (1, .ref ra), (2, .int i)] [] T V X sz 0 0 := by
    intro n
    refine Nat.strongRecOn n ?_
    clear n
    intro n ih j i hn hi hy
    refine j_iload_n dL_lost_2 rfl ?_
    refine j_aload_n dL_lost_3 rfl ?_
    refine j_bipush (v := 45) dL_lost_4 (by decide) ?_
    refine m_iald (k := 45) dL_lost_6 hB (by assumption) (ixk (iC 45 (by decide)) (by omega)) (by omega) ?_
    refine m_icmp_ge (tgt := 51) dL_lost_7 (by decide) (hi) (hPn) (fun c_7 => ?_) (fun c_7 => ?_)
    · refine j_iconst (v := 0) dL_lost_51 (by decide) ?_
      refine j_iret dL_lost_52 rfl (by first | decide | exact m_nrB (by assumption)) (by decide) (by decide) ?_
      exact ⟨_, rfl, rfl, rfl, rfl, rfl, Or.inr ⟨rfl, fun z => by obtain ⟨j9, a, b⟩ := (lost_zH hP f.toInt).mp z; exact hy j9 (by omega) b⟩⟩
    · have hj := hP.mem (j := j) (by omega)
      obtain ⟨w0, w1, w2, w3⟩ := hw _ hj
      simp only at w0 w1 w2 w3
      refine j_iload_n dL_lost_10 rfl ?_
      refine j_aload_n dL_lost_11 rfl ?_
      refine j_bipush (v := 46) dL_lost_12 (by decide) ?_
      refine j_iconst (v := 2) dL_lost_14 (by decide) ?_
      refine j_iload_n dL_lost_15 rfl ?_
      refine j_imul dL_lost_16 ?_
      refine j_iadd dL_lost_17 ?_
      refine m_iald (k := 45 + 1 + 2 * j) dL_lost_18 hB (by assumption) (ixk (iA (iC 46 (by decide)) (iM (iC 2 (by decide)) (hi) (by omega)) (by omega)) (by omega)) (by omega) ?_
      refine m_icmp_lt (tgt := 45) dL_lost_19 (by decide) (iV) (iV) (fun c_19 => ?_) (fun c_19 => ?_)
      · refine j_iinc (v := 1) (L' := [(0, _), (1, _), (2, _)]) dL_lost_45 rfl (by decide) (by decide) rfl ?_
        refine j_goto (tgt := 2) dL_lost_48 (by decide) ?_
        refine ih (n - 1) (by omega) (j + 1) _ (by omega) ?_ ?_
        · exact (ixk (k := j + 1) (iA (hi) (iC 1 (by decide)) (by omega)) (by omega))
        · intro i9 h9
          rcases Nat.lt_or_ge i9 j with g | g
          · exact hy i9 g
          · have : i9 = j := by omega
            subst this
            omega
      · refine j_iload_n dL_lost_22 rfl ?_
        refine j_aload_n dL_lost_23 rfl ?_
        refine j_bipush (v := 46) dL_lost_24 (by decide) ?_
        refine j_iconst (v := 2) dL_lost_26 (by decide) ?_
        refine j_iload_n dL_lost_27 rfl ?_
        refine j_imul dL_lost_28 ?_
        refine j_iadd dL_lost_29 ?_
        refine m_iald (k := 45 + 1 + 2 * j) dL_lost_30 hB (by assumption) (ixk (iA (iC 46 (by decide)) (iM (iC 2 (by decide)) (hi) (by omega)) (by omega)) (by omega)) (by omega) ?_
        refine j_aload_n dL_lost_31 rfl ?_
        refine j_bipush (v := 47) dL_lost_32 (by decide) ?_
        refine j_iconst (v := 2) dL_lost_34 (by decide) ?_
        refine j_iload_n dL_lost_35 rfl ?_
        refine j_imul dL_lost_36 ?_
        refine j_iadd dL_lost_37 ?_
        refine m_iald (k := 45 + 1 + 2 * j + 1) dL_lost_38 hB (by assumption) (ixk (iA (iC 47 (by decide)) (iM (iC 2 (by decide)) (hi) (by omega)) (by omega)) (by omega)) (by omega) ?_
        refine j_iadd dL_lost_39 ?_
        refine m_icmp_ge (tgt := 45) dL_lost_40 (by decide) (iV) (iA (iV) (iV) (by omega)) (fun c_40 => ?_) (fun c_40 => ?_)
        · refine j_iinc (v := 1) (L' := [(0, _), (1, _), (2, _)]) dL_lost_45 rfl (by decide) (by decide) rfl ?_
          refine j_goto (tgt := 2) dL_lost_48 (by decide) ?_
          refine ih (n - 1) (by omega) (j + 1) _ (by omega) ?_ ?_
          · exact (ixk (k := j + 1) (iA (hi) (iC 1 (by decide)) (by omega)) (by omega))
          · intro i9 h9
            rcases Nat.lt_or_ge i9 j with g | g
            · exact hy i9 g
            · have : i9 = j := by omega
              subst this
              omega
        · refine j_iconst (v := 1) dL_lost_43 (by decide) ?_
          refine j_iret dL_lost_44 rfl (by first | decide | exact m_nrB (by assumption)) (by decide) (by decide) ?_
          exact ⟨_, rfl, rfl, rfl, rfl, rfl, Or.inl ⟨rfl, (lost_zH hP f.toInt).mpr ⟨j, by omega, by omega, by omega⟩⟩⟩
  refine j_iconst (v := 0) dL_lost_0 (by decide) ?_
  refine j_istore_n (L' := [(0, _), (1, _), (2, _)]) dL_lost_1 (by decide) rfl ?_
  exact loop P.length 0 0 (by omega) rfl (fun i9 h9 => absurd h9 (Nat.not_lt_zero _))
end JLL
theorem mulo {o d : Int} (ho : o = 0 ∨ o = 1) (hd : 0 ≤ d ∧ d ≤ 16) : 0 ≤ o * d ∧ o * d ≤ 16 := by
  rcases ho with rfl | rfl
  · rw [Int.zero_mul]; omega
  · rw [Int.one_mul]; exact hd
def gF (sp sl : pL) (o w : Int) (f : Int) : Int := if lostB sl f = true then 1 - o else o * (160 / (if w = 0 then (pHold sp f).toInt else w))
theorem gF_1 {sp sl : pL} {w f : Int} : gF sp sl 1 w f = ftm sp sl w f := by
  unfold gF ftm
  split
  · rfl
  · rw [Int.one_mul]
theorem gF_0 {sp sl : pL} {w f : Int} : gF sp sl 0 w f = if lostB sl f = true then 1 else 0 := by
  unfold gF
  split
  · rfl
  · rw [Int.zero_mul]
theorem tmN_0 {sp sl : pL} {w a : Int} : ∀ n : Nat, tmN (gF sp sl 0 w) a n = cnt (lostB sl) a n
  | 0 => rfl
  | n + 1 => by show tmN _ a n + gF sp sl 0 w (a + n) = cnt _ a n + _; rw [tmN_0 n, gF_0]
theorem tmN_1 {sp sl : pL} {w a : Int} : ∀ n : Nat, tmN (gF sp sl 1 w) a n = tmN (ftm sp sl w) a n
  | 0 => rfl
  | n + 1 => by show tmN _ a n + gF sp sl 1 w (a + n) = tmN _ a n + _; rw [tmN_1 n, gF_1]
theorem gF_rng {sp sl : pL} (h : spW sp) {o w : Int} (ho : o = 0 ∨ o = 1) (hw : w = 0 ∨ 10 ≤ w) {a : Int} (ha : 0 ≤ a) (n : Nat) : 0 ≤ tmN (gF sp sl o w) a n ∧ tmN (gF sp sl o w) a n ≤ n * 16 := by
  rcases ho with rfl | rfl
  · rw [tmN_0]
    have := cnt_le (lostB sl) a n
    omega
  · rw [tmN_1]
    exact tm_le h hw ha n
section JLL
variable {l : Launch} {s0 : State} {D : jD} {T : jT} {V : jV} {X : jX} {sz : Nat}
set_option maxRecDepth 100000 in
set_option maxHeartbeats 4000000 in
theorem sp_L_feet (hB : jB l s0 D) {ra : Nat} {s : aS} {rr : aR} {fr to o w : Int32} {a oz wz : Int} {N : Nat} (hr : T ra = some (kI 60)) (hz : zRl (V ra) rr) (hW : rlW s rr) (hfr : isI fr a) (a0 : 0 ≤ a) (hto : isI to (a + N)) (hN : N ≤ 5000) (a1 : a ≤ 100000) (ho : isI o oz) (ho2 : oz = 0 ∨ oz = 1) (hw : isI w wz) (hw2 : wz = 0 ∨ 10 ≤ wz) (hw3 : wz ≤ 1000) : Sp l s0 D kL_feet (jR 1 0 0) 0 0 [.int fr, .int to, .int o, .int w, .ref ra] T V X sz (qI T X sz (fun y V' => V = V' ∧ isI y (tmN (gF rr.2.2.2.2.1 rr.2.2.2.2.2 oz wz) a N))) := by
  refine Sp.of pn_L_feet rfl (Nat.le_of_ble_eq_true rfl) ?_
  have hsp := hW.2.2.2.2.2.2.1
  have hsl := hW.2.2.2.2.2.2.2
  have loop : ∀ (n j : Nat) (g y : Int32), j + n = N → isI g (a + j) → isI y (tmN (gF rr.2.2.2.2.1 rr.2.2.2.2.2 oz wz) a j) → J l s0 D kL_feet (jR 1 0 0) 0 0 (qI T X sz (fun y V' => V = V' ∧ isI y (tmN (gF rr.2.2.2.2.1 rr.2.2.2.2.2 oz wz) a N))) 6 [(0, .int fr), (1, .int to), (2, .int o), (3, .int w), (4, .ref ra), (5, .int y), (6, .int g)] [] T V X sz 0 0 := by
    intro n
    refine Nat.strongRecOn n ?_
    clear n
    intro n ih j g y hn hg hy
    have rg := gF_rng (sl := rr.2.2.2.2.2) hsp ho2 hw2 a0 j
    have ph := pHold_rng hsp (a + j)
    have hgi : g.toInt = a + j := hg
    refine j_iload dL_feet_6 rfl ?_
    refine j_iload_n dL_feet_8 rfl ?_
    refine m_icmp_ge (tgt := 60) dL_feet_9 (by decide) (hg) (hto) (fun c_9 => ?_) (fun c_9 => ?_)
    · refine j_iload dL_feet_60 rfl ?_
      refine j_iret dL_feet_62 rfl (rfl) (by decide) (by decide) ?_
      exact ⟨_, rfl, rfl, rfl, rfl, rfl, by rw [show N = j by omega]; exact hy⟩
    · refine j_iload dL_feet_12 rfl ?_
      refine j_iload dL_feet_14 rfl ?_
      refine j_aload dL_feet_16 rfl ?_
      refine j_cSi dL_feet_18 hB mo_L_lost ml_L_8 (sp_L_lost hB hr hz.2.2.2.2 hsl) rfl rfl ⟨rfl, rfl, by decide, by decide⟩ (Nat.le_of_ble_eq_true rfl) ⟨by decide, by decide⟩ (fun r_18 V_18 h_18 => ?_)
      obtain ⟨rfl, b_18⟩ := h_18
      rw [hgi] at b_18
      refine m_ifeqB (tgt := 30) dL_feet_21 (by decide) b_18 (fun c_21 => ?_) (fun c_21 => ?_)
      · refine j_iload_n dL_feet_30 rfl ?_
        refine j_sipush (v := 160) dL_feet_31 (by decide) ?_
        refine j_iload_n dL_feet_34 rfl ?_
        refine m_if_le (tgt := 42) dL_feet_35 (by decide) (hw) (fun c_35 => ?_) (fun c_35 => ?_)
        · refine j_iload dL_feet_42 rfl ?_
          refine j_aload dL_feet_44 rfl ?_
          refine j_cSi dL_feet_46 hB mo_L_speed ml_L_14 (sp_L_speed hB hr hz.2.2.2.1 hsp (by omega)) rfl rfl ⟨rfl, rfl, by decide, by decide⟩ (Nat.le_of_ble_eq_true rfl) ⟨by decide, by decide⟩ (fun r_46 V_46 h_46 => ?_)
          obtain ⟨rfl, h_46⟩ := h_46
          replace h_46 : isI r_46 (pHold rr.2.2.2.2.1 (a + j)).toInt := by rw [h_46, hgi]
          have hd := div160 (ph.2.2 (by omega))
          have hm := mulo ho2 hd
          refine j_idiv dL_feet_49 (fun z => by rw [z] at h_46; have : (0 : Int) = _ := h_46; omega) ?_
          refine j_imul dL_feet_50 ?_
          refine j_iadd dL_feet_51 ?_
          refine j_istore (L' := [(0, _), (1, _), (2, _), (3, _), (4, _), (5, _), (6, _)]) dL_feet_52 (by decide) rfl ?_
          refine j_iinc (v := 1) (L' := [(0, _), (1, _), (2, _), (3, _), (4, _), (5, _), (6, _)]) dL_feet_54 rfl (by decide) (by decide) rfl ?_
          refine j_goto (tgt := 6) dL_feet_57 (by decide) ?_
          refine ih (n - 1) (by omega) (j + 1) _ _ (by omega) ?_ ?_
          · exact ixz (iA (hg) (iC 1 (by decide)) (by omega)) (by omega)
          · refine ixz (iA (hy) (iM (ho) (iD (iC 160 (by decide)) (h_46) (by omega)) (by omega)) (by omega)) ?_
            show _ = (tmN (gF rr.2.2.2.2.1 rr.2.2.2.2.2 oz wz) a j) + gF rr.2.2.2.2.1 rr.2.2.2.2.2 oz wz (a + j)
            unfold gF
            rw [if_neg c_21, if_pos (by omega)]
        · refine j_iload_n dL_feet_38 rfl ?_
          refine j_goto (tgt := 49) dL_feet_39 (by decide) ?_
          have hd := div160 (v := wz) (by omega)
          have hm := mulo ho2 hd
          refine j_idiv dL_feet_49 (fun z => by rw [z] at hw; have : (0 : Int) = wz := hw; omega) ?_
          refine j_imul dL_feet_50 ?_
          refine j_iadd dL_feet_51 ?_
          refine j_istore (L' := [(0, _), (1, _), (2, _), (3, _), (4, _), (5, _), (6, _)]) dL_feet_52 (by decide) rfl ?_
          refine j_iinc (v := 1) (L' := [(0, _), (1, _), (2, _), (3, _), (4, _), (5, _), (6, _)]) dL_feet_54 rfl (by decide) (by decide) rfl ?_
          refine j_goto (tgt := 6) dL_feet_57 (by decide) ?_
          refine ih (n - 1) (by omega) (j + 1) _ _ (by omega) ?_ ?_
          · exact ixz (iA (hg) (iC 1 (by decide)) (by omega)) (by omega)
          · refine ixz (iA (hy) (iM (ho) (iD (iC 160 (by decide)) (hw) (by omega)) (by omega)) (by omega)) ?_
            show _ = (tmN (gF rr.2.2.2.2.1 rr.2.2.2.2.2 oz wz) a j) + gF rr.2.2.2.2.1 rr.2.2.2.2.2 oz wz (a + j)
            unfold gF
            rw [if_neg c_21, if_neg (by omega)]
      · refine j_iconst (v := 1) dL_feet_24 (by decide) ?_
        refine j_iload_n dL_feet_25 rfl ?_
        refine j_isub dL_feet_26 ?_
        refine j_goto (tgt := 51) dL_feet_27 (by decide) ?_
        refine j_iadd dL_feet_51 ?_
        refine j_istore (L' := [(0, _), (1, _), (2, _), (3, _), (4, _), (5, _), (6, _)]) dL_feet_52 (by decide) rfl ?_
        refine j_iinc (v := 1) (L' := [(0, _), (1, _), (2, _), (3, _), (4, _), (5, _), (6, _)]) dL_feet_54 rfl (by decide) (by decide) rfl ?_
        refine j_goto (tgt := 6) dL_feet_57 (by decide) ?_
        refine ih (n - 1) (by omega) (j + 1) _ _ (by omega) ?_ ?_
        · exact ixz (iA (hg) (iC 1 (by decide)) (by omega)) (by omega)
        · refine ixz (iA (hy) (iS (iC 1 (by decide)) (ho) (by omega)) (by omega)) ?_
          show _ = (tmN (gF rr.2.2.2.2.1 rr.2.2.2.2.2 oz wz) a j) + gF rr.2.2.2.2.1 rr.2.2.2.2.2 oz wz (a + j)
          unfold gF
          rw [if_pos c_21]
  refine j_iconst (v := 0) dL_feet_0 (by decide) ?_
  refine j_istore (L' := [(0, _), (1, _), (2, _), (3, _), (4, _), (5, _)]) dL_feet_1 (by decide) rfl ?_
  refine j_iload_n dL_feet_3 rfl ?_
  refine j_istore (L' := [(0, _), (1, _), (2, _), (3, _), (4, _), (5, _), (6, _)]) dL_feet_4 (by decide) rfl ?_
  exact loop N 0 _ 0 (by omega) (ixz hfr (by omega)) rfl
set_option maxRecDepth 100000 in
set_option maxHeartbeats 4000000 in
theorem sp_L_start1 (hB : jB l s0 D) {ra : Nat} {s : aS} {rr : aR} {k0 : Int32} {k : Nat} (hr : T ra = some (kI 60)) (hz : zRl (V ra) rr) (hW : rlW s rr) (hk0 : k0.toInt = k) (hk : k ≤ rr.1.length) : Sp l s0 D kL_start1 (jR 0 0 0) 0 0 [.int k0, .ref ra] T V X sz (qI T X sz (fun y V' => V = V' ∧ isI y (aFirst rr k))) := by
  refine Sp.of pn_L_start1 rfl (Nat.le_of_ble_eq_true rfl) ?_
  have h10 := hW.2.2.2.1
  have loop : ∀ (n j : Nat) (i y : Int32), j + n = k → i.toInt = j → isI y (aFirst rr j) → J l s0 D kL_start1 (jR 0 0 0) 0 0 (qI T X sz (fun y V' => V = V' ∧ isI y (aFirst rr k))) 4 [(0, .int k0), (1, .ref ra), (2, .int y), (3, .int i)] [] T V X sz 0 0 := by
    intro n
    refine Nat.strongRecOn n ?_
    clear n
    intro n ih j i y hn hi hy
    have f0 := aFirst_rng hW j (by omega)
    refine j_iload_n dL_start1_4 rfl ?_
    refine j_iload_n dL_start1_5 rfl ?_
    refine m_icmp_ge (tgt := 25) dL_start1_6 (by decide) (hi) (hk0) (fun c_6 => ?_) (fun c_6 => ?_)
    · refine j_iload_n dL_start1_25 rfl ?_
      refine j_iret dL_start1_26 rfl (rfl) (by decide) (by decide) ?_
      exact ⟨_, rfl, rfl, rfl, rfl, rfl, by rw [show k = j by omega]; exact hy⟩
    · have f1 := len_rng hW (k := j) (by omega)
      have h_16 : isI (V ra (1 + 4 * j)) (atZ rr.1 j).toInt := congrArg Int32.toInt (hz.2.2.1 j (by omega)).1
      refine j_iload_n dL_start1_9 rfl ?_
      refine j_aload_n dL_start1_10 rfl ?_
      refine j_iconst (v := 1) dL_start1_11 (by decide) ?_
      refine j_iconst (v := 4) dL_start1_12 (by decide) ?_
      refine j_iload_n dL_start1_13 rfl ?_
      refine j_imul dL_start1_14 ?_
      refine j_iadd dL_start1_15 ?_
      refine m_iald (k := 1 + 4 * j) dL_start1_16 hB (by assumption) (ixk (iA (iC 1 (by decide)) (iM (iC 4 (by decide)) (hi) (by omega)) (by omega)) (by omega)) (by omega) ?_
      refine j_iadd dL_start1_17 ?_
      refine j_istore_n (L' := [(0, _), (1, _), (2, _), (3, _)]) dL_start1_18 (by decide) rfl ?_
      refine j_iinc (v := 1) (L' := [(0, _), (1, _), (2, _), (3, _)]) dL_start1_19 rfl (by decide) (by decide) rfl ?_
      refine j_goto (tgt := 4) dL_start1_22 (by decide) ?_
      exact ih (n - 1) (by omega) (j + 1) _ _ (by omega) (ixk (k := j + 1) (iA (hi) (iC 1 (by decide)) (by omega)) (by omega)) (iA (hy) (h_16) (by omega))
  refine j_iconst (v := 0) dL_start1_0 (by decide) ?_
  refine j_istore_n (L' := [(0, _), (1, _), (2, _)]) dL_start1_1 (by decide) rfl ?_
  refine j_iconst (v := 0) dL_start1_2 (by decide) ?_
  refine j_istore_n (L' := [(0, _), (1, _), (2, _), (3, _)]) dL_start1_3 (by decide) rfl ?_
  exact loop k 0 0 0 (by omega) rfl rfl
set_option maxRecDepth 100000 in
set_option maxHeartbeats 4000000 in
theorem sp_L_start (hB : jB l s0 D) {ra : Nat} {s : aS} {rr : aR} {k0 : Int32} {k : Nat} (hr : T ra = some (kI 60)) (hz : zRl (V ra) rr) (hW : rlW s rr) (hk0 : k0.toInt = k) (hk : k ≤ rr.1.length) : Sp l s0 D kL_start (jR 1 0 0) 0 0 [.int k0, .ref ra] T V X sz (qI T X sz (fun y V' => V = V' ∧ isI y (aFirst rr k))) := by
  refine Sp.of pn_L_start rfl (Nat.le_of_ble_eq_true rfl) ?_
  refine j_iload_n dL_start_0 rfl ?_
  refine m_if_ne (tgt := 8) dL_start_1 (by decide) (hk0) (fun c_1 => ?_) (fun c_1 => ?_)
  · refine j_iload_n dL_start_8 rfl ?_
    refine j_aload_n dL_start_9 rfl ?_
    refine j_cSi dL_start_10 hB mo_L_start1 ml_L_18 (sp_L_start1 hB hr hz hW hk0 hk) rfl rfl ⟨rfl, rfl, by decide, by decide⟩ (Nat.le_of_ble_eq_true rfl) ⟨by decide, by decide⟩ (fun r_10 V_10 h_10 => ?_)
    obtain ⟨rfl, h_10⟩ := h_10
    refine j_iret dL_start_13 rfl (rfl) (by decide) (by decide) ?_
    exact ⟨_, rfl, rfl, rfl, rfl, rfl, h_10⟩
  · refine j_iconst (v := 0) dL_start_4 (by decide) ?_
    refine j_goto (tgt := 13) dL_start_5 (by decide) ?_
    refine j_iret dL_start_13 rfl (rfl) (by decide) (by decide) ?_
    exact ⟨_, rfl, rfl, rfl, rfl, rfl, by rw [show k = 0 by omega]; rfl⟩
set_option maxRecDepth 100000 in
set_option maxHeartbeats 4000000 in
theorem sp_L_music (hB : jB l s0 D) {pa : Nat} {s : aS} {pc st pz : Int32} {pp : Nat} {kz pw : Int} (hpa : T pa = some (kI 12)) (hz : zPa (V pa) s) (hp : pcW s) (hpc : pc.toInt = pp) (hpp : pp < s.2.1.1.length) (hst : isI st kz) (k0 : 0 ≤ kz) (k9 : kz ≤ 9) (hpz : isI pz pw) (p0 : 80 ≤ pw) : Sp l s0 D kL_music (jR 0 0 0) 0 0 [.int pc, .int st, .int pz, .ref pa] T V X sz (qI T X sz (fun r V' => V = V' ∧ isI r (plT s pp kz pw))) := by
  refine Sp.of pn_L_music rfl (Nat.le_of_ble_eq_true rfl) ?_
  have hl4 := hz.1
  have hzp := hz.2 pp hpp
  have e1 : isI (V pa (3 * pp)) (atZ s.2.1.1 pp).toInt := congrArg Int32.toInt hzp.1
  have e2 : isI (V pa (3 * pp + 1)) (atZ s.2.1.2.1 pp).toInt := congrArg Int32.toInt hzp.2.1
  have e3 : isI (V pa (3 * pp + 2)) (atZ s.2.1.2.2 pp).toInt := congrArg Int32.toInt hzp.2.2
  obtain ⟨a0, a1, a2, a3, a4, a5⟩ := pcW_at hp (i := (pp : Int)) (by omega) (by omega)
  have m0 := mul_rng k0 k9 (show (0 : Int) ≤ (atZ s.2.1.2.1 pp).toInt by omega) a3
  rw [Int.mul_comm] at m0
  refine j_bipush (v := 100) dL_music_0 (by decide) ?_
  refine j_aload_n dL_music_2 rfl ?_
  refine j_iconst (v := 3) dL_music_3 (by decide) ?_
  refine j_iload_n dL_music_4 rfl ?_
  refine j_imul dL_music_5 ?_
  refine m_iald (k := 3 * pp) dL_music_6 hB (by assumption) (ixk (iM (iC 3 (by decide)) (hpc) (by omega)) (by omega)) (by omega) ?_
  refine j_aload_n dL_music_7 rfl ?_
  refine j_iconst (v := 3) dL_music_8 (by decide) ?_
  refine j_iload_n dL_music_9 rfl ?_
  refine j_imul dL_music_10 ?_
  refine j_iconst (v := 1) dL_music_11 (by decide) ?_
  refine j_iadd dL_music_12 ?_
  refine m_iald (k := 3 * pp + 1) dL_music_13 hB (by assumption) (ixk (iA (iM (iC 3 (by decide)) (hpc) (by omega)) (iC 1 (by decide)) (by omega)) (by omega)) (by omega) ?_
  refine j_iload_n dL_music_14 rfl ?_
  refine j_imul dL_music_15 ?_
  refine j_iadd dL_music_16 ?_
  refine j_aload_n dL_music_17 rfl ?_
  refine j_iconst (v := 3) dL_music_18 (by decide) ?_
  refine j_iload_n dL_music_19 rfl ?_
  refine j_imul dL_music_20 ?_
  refine j_iconst (v := 2) dL_music_21 (by decide) ?_
  refine j_iadd dL_music_22 ?_
  refine m_iald (k := 3 * pp + 2) dL_music_23 hB (by assumption) (ixk (iA (iM (iC 3 (by decide)) (hpc) (by omega)) (iC 2 (by decide)) (by omega)) (by omega)) (by omega) ?_
  refine j_iadd dL_music_24 ?_
  refine j_imul dL_music_25 ?_
  refine j_iload_n dL_music_26 rfl ?_
  refine j_idiv dL_music_27 (fun z => by rw [z] at hpz; have : (0 : Int) = pw := hpz; omega) ?_
  refine j_iret dL_music_28 rfl (rfl) (by decide) (by decide) ?_
  exact ⟨_, rfl, rfl, rfl, rfl, rfl, ixz (iD (iM (iC 100 (by decide)) (iA (iA (e1) (iM (e2) (hst) (by omega)) (by omega)) (e3) (by omega)) (by omega)) (hpz) (by omega)) (by unfold plT wrT; rw [Int.mul_comm 100, Int.mul_comm kz])⟩
end JLL
