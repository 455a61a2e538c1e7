/-! CueSheets$Row: a list of numbers with a fixed room; the object at q, its row of numbers at q + 1 -/
/-- outside [lo, hi) nothing changed -/
def jAg (V V' : jV) (lo hi : Nat) : Prop := ∀ b, b < lo ∨ hi ≤ b → V' b = V b
theorem jAg.rf {V : jV} {lo hi : Nat} : jAg V V lo hi := fun _ _ => rfl
theorem jAg.tr {V V1 V2 : jV} {lo hi : Nat} (h1 : jAg V V1 lo hi) (h2 : jAg V1 V2 lo hi) : jAg V V2 lo hi := fun b hb => (h2 b hb).trans (h1 b hb)
theorem jAg.wide {V V' : jV} {lo hi lo' hi' : Nat} (h : jAg V V' lo hi) (h1 : lo' ≤ lo) (h2 : hi ≤ hi') : jAg V V' lo' hi' := fun b hb => h b (by omega)
theorem jAg.set {V V' : jV} {lo hi q k : Nat} {v : Int32} (h : jAg V V' lo hi) (h1 : lo ≤ q) (h2 : q < hi) : jAg V (jset V' q k v) lo hi := fun b hb => by rw [jset_row (by omega)]; exact h b hb
def atZ (l : List Int32) (z : Int) : Int32 := if 0 ≤ z then l.getD z.toNat 0 else 0
def setZ (l : List Int32) (z : Int) (v : Int32) : List Int32 := if 0 ≤ z then l.set z.toNat v else l
def rwN (V : jV) (q : Nat) : Nat := (V q 1).toInt.toNat
def Rw (V : jV) (q : Nat) : List Int32 := (List.range (rwN V q)).map (fun i => V (q + 1) i)
def RowOK (T : jT) (V : jV) (q cap : Nat) : Prop := T q = some (kRow (q + 1)) ∧ T (q + 1) = some (kI cap) ∧ 0 ≤ (V q 1).toInt ∧ (V q 1).toInt ≤ cap ∧ cap ≤ 1000
theorem Rw_len0 {V : jV} {q : Nat} : (Rw V q).length = rwN V q := by simp [Rw]
theorem Rw_len {V : jV} {q : Nat} : (Rw V q).length = (V q 1).toInt.toNat := Rw_len0
theorem Rw_get {V : jV} {q i : Nat} (h : i < (V q 1).toInt.toNat) : (Rw V q)[i]? = some (V (q + 1) i) := by
  have h : i < rwN V q := h
  simp [Rw, h]
theorem Rw_congr {V V' : jV} {q : Nat} (h : V' q = V q) (h1 : V' (q + 1) = V (q + 1)) : Rw V' q = Rw V q := by simp [Rw, rwN, h, h1]
theorem RowOK.len {T : jT} {V : jV} {q cap : Nat} (h : RowOK T V q cap) : ((Rw V q).length : Int) = (V q 1).toInt := by rw [Rw_len]; exact Int.toNat_of_nonneg h.2.2.1
theorem RowOK.le {T : jT} {V : jV} {q cap : Nat} (h : RowOK T V q cap) : (Rw V q).length ≤ cap := by have := h.len; have := h.2.2.2.1; omega
theorem RowOK.congr {T : jT} {V V' : jV} {q cap : Nat} (h : RowOK T V q cap) (e : V' q = V q) : RowOK T V' q cap := ⟨h.1, h.2.1, by rw [e]; exact h.2.2.1, by rw [e]; exact h.2.2.2.1, h.2.2.2.2⟩
theorem ti_ofNat {n : Nat} (h : n < 2 ^ 31) : (Int32.ofNat n).toInt = n := nI_toInt h
theorem atZ_in {l : List Int32} {z : Int} (h0 : 0 ≤ z) : atZ l z = l.getD z.toNat 0 := if_pos h0
theorem atZ_Rw {T : jT} {V : jV} {q cap : Nat} (h : RowOK T V q cap) {z : Int} (h0 : 0 ≤ z) (h1 : z < (V q 1).toInt) : atZ (Rw V q) z = V (q + 1) z.toNat := by
  rw [atZ_in h0, List.getD_eq_getElem?_getD, Rw_get (by omega)]; rfl
theorem atZ_out {T : jT} {V : jV} {q cap : Nat} (h : RowOK T V q cap) {z : Int} (h1 : (V q 1).toInt ≤ z) : atZ (Rw V q) z = 0 := by
  have := h.2.2.1
  rw [atZ_in (by omega), List.getD_eq_getElem?_getD, List.getElem?_eq_none (by rw [Rw_len]; omega)]; rfl
theorem atZ_neg {l : List Int32} {z : Int} (h : z < 0) : atZ l z = 0 := if_neg (by omega)
theorem cl_toNat (x : Int32) : x.toNatClampNeg = x.toInt.toNat := (Int32.toNat_toInt x).symm
theorem ti_add {a b : Int32} (h1 : -2147483648 ≤ a.toInt + b.toInt) (h2 : a.toInt + b.toInt < 2147483648) : (a + b).toInt = a.toInt + b.toInt := by
  rw [Int32.toInt_add]; exact Int.bmod_eq_of_le (by omega) (by omega)
theorem ti_sub {a b : Int32} (h1 : -2147483648 ≤ a.toInt - b.toInt) (h2 : a.toInt - b.toInt < 2147483648) : (a - b).toInt = a.toInt - b.toInt := by
  rw [Int32.toInt_sub]; exact Int.bmod_eq_of_le (by omega) (by omega)
theorem ti_mul {a b : Int32} (h1 : -2147483648 ≤ a.toInt * b.toInt) (h2 : a.toInt * b.toInt < 2147483648) : (a * b).toInt = a.toInt * b.toInt := by
  rw [Int32.toInt_mul]; exact Int.bmod_eq_of_le (by omega) (by omega)
theorem ti_1 : (1 : Int32).toInt = 1 := by decide
theorem ti_m1 : (-1 : Int32).toInt = -1 := by decide
/-- the row with one number set -/
theorem Rw_set {T : jT} {V : jV} {q cap i : Nat} {v : Int32} (h : RowOK T V q cap) : Rw (jset V (q + 1) i v) q = (Rw V q).set i v := by
  have e0 : rwN (jset V (q + 1) i v) q = rwN V q := by unfold rwN; rw [jset_row (show q ≠ q + 1 by omega)]
  unfold Rw
  rw [e0]
  apply List.ext_getElem?
  intro j
  rw [List.getElem?_set]
  by_cases hj : j < rwN V q
  · by_cases e : i = j
    · subst e; simp [hj, jset]
    · simp [hj, jset, e, Ne.symm e]
  · by_cases e : i = j
    · subst e; simp [hj]
    · simp [hj, e]
/-- the row with one number more -/
theorem Rw_add {T : jT} {V : jV} {q cap : Nat} {v n' : Int32} (h : RowOK T V q cap) (hn : n'.toInt = (V q 1).toInt + 1) : Rw (jset (jset V (q + 1) (V q 1).toInt.toNat v) q 1 n') q = Rw V q ++ [v] := by
  have h0 := h.2.2.1
  have e0 : rwN (jset (jset V (q + 1) (V q 1).toInt.toNat v) q 1 n') q = rwN V q + 1 := by unfold rwN; rw [jset_eq, hn]; omega
  unfold Rw
  rw [e0, List.range_succ, List.map_append]
  congr 1
  · apply List.map_congr_left
    intro j hj
    have : j < (V q 1).toInt.toNat := List.mem_range.mp hj
    rw [jset_ne (Or.inl (by omega)), jset_ne (Or.inr (by omega))]
  · show [jset (jset V (q + 1) (V q 1).toInt.toNat v) q 1 n' (q + 1) (rwN V q)] = [v]
    rw [jset_ne (Or.inl (by omega))]
    exact congrArg (fun x => [x]) jset_eq
/-- .. with the last ones taken off -/
theorem Rw_cut {V : jV} {q : Nat} {n' : Int32} (hn : n'.toInt ≤ (V q 1).toInt) : Rw (jset V q 1 n') q = (Rw V q).take n'.toInt.toNat := by
  have e0 : rwN (jset V q 1 n') q = min n'.toInt.toNat (rwN V q) := by unfold rwN; rw [jset_eq]; omega
  unfold Rw
  rw [e0, ← List.map_take, List.take_range, jset_row (show q + 1 ≠ q by omega)]
section JRow
variable {l : Launch} {s0 : State} {D : jD} {T : jT} {V : jV} {X : jX} {sz : Nat}
set_option maxRecDepth 100000 in
set_option maxHeartbeats 4000000 in
theorem sp_X3_size (hB : jB l s0 D) {q cap : Nat} (h : RowOK T V q cap) : Sp l s0 D kX3_size (jR 0 0 0) 0 0 [.ref q] T V X sz (qI T X sz (fun r V' => V = V' ∧ r.toInt = (Rw V q).length)) := by
  refine Sp.of pn_X3_size rfl (Nat.le_of_ble_eq_true rfl) ?_
  refine j_aload_n dX3_size_0 rfl ?_
  refine j_geti dX3_size_1 hB fl_X3_13 (by first | exact h.1 | exact h.2.1) (by rfl) ?_
  refine j_iret dX3_size_4 rfl (rfl) (by decide) (by decide) ?_
  exact ⟨_, rfl, rfl, rfl, rfl, rfl, h.len.symm⟩
set_option maxRecDepth 100000 in
set_option maxHeartbeats 4000000 in
theorem sp_X3_at (hB : jB l s0 D) {q cap : Nat} {i : Int32} (h : RowOK T V q cap) : Sp l s0 D kX3_at (jR 0 0 0) 0 0 [.ref q, .int i] T V X sz (qI T X sz (fun r V' => V = V' ∧ r = atZ (Rw V q) i.toInt)) := by
  refine Sp.of pn_X3_at rfl (Nat.le_of_ble_eq_true rfl) ?_
  have hcap : (Int32.ofNat cap).toInt = cap := ti_ofNat (by have := h.2.2.2.2; omega)
  have hs0 := h.2.2.1
  have hs1 := h.2.2.2.1
  refine j_iload_n dX3_at_0 rfl ?_
  refine j_if_lt (tgt := 30) dX3_at_1 (by decide) (fun c_1 => ?_) (fun c_1 => ?_)
  · refine j_iconst (v := 0) dX3_at_30 (by decide) ?_
    refine j_iret dX3_at_31 rfl (rfl) (by decide) (by decide) ?_
    refine ⟨_, rfl, rfl, rfl, rfl, rfl, ?_⟩
    first | exact (atZ_neg (by omega)).symm | exact (atZ_out h (by omega)).symm | (rw [cl_toNat]; exact (atZ_Rw h (by omega) (by omega)).symm) | omega
  · refine j_iload_n dX3_at_4 rfl ?_
    refine j_aload_n dX3_at_5 rfl ?_
    refine j_geti dX3_at_6 hB fl_X3_13 (by first | exact h.1 | exact h.2.1) (by rfl) ?_
    refine j_icmp_ge (tgt := 30) dX3_at_9 (by decide) (fun c_9 => ?_) (fun c_9 => ?_)
    · refine j_iconst (v := 0) dX3_at_30 (by decide) ?_
      refine j_iret dX3_at_31 rfl (rfl) (by decide) (by decide) ?_
      refine ⟨_, rfl, rfl, rfl, rfl, rfl, ?_⟩
      first | exact (atZ_neg (by omega)).symm | exact (atZ_out h (by omega)).symm | (rw [cl_toNat]; exact (atZ_Rw h (by omega) (by omega)).symm) | omega
    · refine j_iload_n dX3_at_12 rfl ?_
      refine j_aload_n dX3_at_13 rfl ?_
      refine j_getr dX3_at_14 hB fl_X3_7 (by first | exact h.1 | exact h.2.1) (by rfl) ?_
      refine j_alen dX3_at_17 hB (Or.inl (by first | exact h.1 | exact h.2.1)) ?_
      refine j_icmp_ge (tgt := 30) dX3_at_18 (by decide) (fun c_18 => ?_) (fun c_18 => ?_)
      · refine j_iconst (v := 0) dX3_at_30 (by decide) ?_
        refine j_iret dX3_at_31 rfl (rfl) (by decide) (by decide) ?_
        refine ⟨_, rfl, rfl, rfl, rfl, rfl, ?_⟩
        first | exact (atZ_neg (by omega)).symm | exact (atZ_out h (by omega)).symm | (rw [cl_toNat]; exact (atZ_Rw h (by omega) (by omega)).symm) | omega
      · refine j_aload_n dX3_at_21 rfl ?_
        refine j_getr dX3_at_22 hB fl_X3_7 (by first | exact h.1 | exact h.2.1) (by rfl) ?_
        refine j_iload_n dX3_at_25 rfl ?_
        refine j_iald dX3_at_26 hB (by first | exact h.1 | exact h.2.1) (by omega) (by omega) ?_
        refine j_goto (tgt := 31) dX3_at_27 (by decide) ?_
        refine j_iret dX3_at_31 rfl (rfl) (by decide) (by decide) ?_
        refine ⟨_, rfl, rfl, rfl, rfl, rfl, ?_⟩
        first | exact (atZ_neg (by omega)).symm | exact (atZ_out h (by omega)).symm | (rw [cl_toNat]; exact (atZ_Rw h (by omega) (by omega)).symm) | omega
set_option maxRecDepth 100000 in
set_option maxHeartbeats 4000000 in
theorem sp_X3_put (hB : jB l s0 D) {q cap : Nat} {i v : Int32} (h : RowOK T V q cap) : Sp l s0 D kX3_put (jR 0 0 0) 0 0 [.ref q, .int i, .int v] T V X sz (qU T X sz (fun V' => RowOK T V' q cap ∧ Rw V' q = setZ (Rw V q) i.toInt v ∧ jAg V V' q (q + 2))) := by
  refine Sp.of pn_X3_put rfl (Nat.le_of_ble_eq_true rfl) ?_
  have hcap : (Int32.ofNat cap).toInt = cap := ti_ofNat (by have := h.2.2.2.2; omega)
  have hs0 := h.2.2.1
  have hs1 := h.2.2.2.1
  refine j_iload_n dX3_put_0 rfl ?_
  refine j_if_lt (tgt := 28) dX3_put_1 (by decide) (fun c_1 => ?_) (fun c_1 => ?_)
  · refine j_vret dX3_put_28 rfl (by decide) (by decide) ?_
    refine ⟨rfl, rfl, rfl, rfl, ?_⟩
    first
      | exact ⟨h, by rw [setZ, if_neg (by omega)], jAg.rf⟩
      | exact ⟨h, by rw [setZ, if_pos (by omega), List.set_eq_of_length_le (by rw [Rw_len]; omega)], jAg.rf⟩
      | exact ⟨h.congr (jset_row (by omega)), by rw [Rw_set h, setZ, if_pos (by omega), cl_toNat], jAg.rf.set (by omega) (by omega)⟩
      | omega
  · refine j_iload_n dX3_put_4 rfl ?_
    refine j_aload_n dX3_put_5 rfl ?_
    refine j_geti dX3_put_6 hB fl_X3_13 (by first | exact h.1 | exact h.2.1) (by rfl) ?_
    refine j_icmp_ge (tgt := 28) dX3_put_9 (by decide) (fun c_9 => ?_) (fun c_9 => ?_)
    · refine j_vret dX3_put_28 rfl (by decide) (by decide) ?_
      refine ⟨rfl, rfl, rfl, rfl, ?_⟩
      first
        | exact ⟨h, by rw [setZ, if_neg (by omega)], jAg.rf⟩
        | exact ⟨h, by rw [setZ, if_pos (by omega), List.set_eq_of_length_le (by rw [Rw_len]; omega)], jAg.rf⟩
        | exact ⟨h.congr (jset_row (by omega)), by rw [Rw_set h, setZ, if_pos (by omega), cl_toNat], jAg.rf.set (by omega) (by omega)⟩
        | omega
    · refine j_iload_n dX3_put_12 rfl ?_
      refine j_aload_n dX3_put_13 rfl ?_
      refine j_getr dX3_put_14 hB fl_X3_7 (by first | exact h.1 | exact h.2.1) (by rfl) ?_
      refine j_alen dX3_put_17 hB (Or.inl (by first | exact h.1 | exact h.2.1)) ?_
      refine j_icmp_ge (tgt := 28) dX3_put_18 (by decide) (fun c_18 => ?_) (fun c_18 => ?_)
      · refine j_vret dX3_put_28 rfl (by decide) (by decide) ?_
        refine ⟨rfl, rfl, rfl, rfl, ?_⟩
        first
          | exact ⟨h, by rw [setZ, if_neg (by omega)], jAg.rf⟩
          | exact ⟨h, by rw [setZ, if_pos (by omega), List.set_eq_of_length_le (by rw [Rw_len]; omega)], jAg.rf⟩
          | exact ⟨h.congr (jset_row (by omega)), by rw [Rw_set h, setZ, if_pos (by omega), cl_toNat], jAg.rf.set (by omega) (by omega)⟩
          | omega
      · refine j_aload_n dX3_put_21 rfl ?_
        refine j_getr dX3_put_22 hB fl_X3_7 (by first | exact h.1 | exact h.2.1) (by rfl) ?_
        refine j_iload_n dX3_put_25 rfl ?_
        refine j_iload_n dX3_put_26 rfl ?_
        refine j_iast dX3_put_27 hB (by first | exact h.1 | exact h.2.1) (by omega) (by omega) ?_
        refine j_vret dX3_put_28 rfl (by decide) (by decide) ?_
        refine ⟨rfl, rfl, rfl, rfl, ?_⟩
        first
          | exact ⟨h, by rw [setZ, if_neg (by omega)], jAg.rf⟩
          | exact ⟨h, by rw [setZ, if_pos (by omega), List.set_eq_of_length_le (by rw [Rw_len]; omega)], jAg.rf⟩
          | exact ⟨h.congr (jset_row (by omega)), by rw [Rw_set h, setZ, if_pos (by omega), cl_toNat], jAg.rf.set (by omega) (by omega)⟩
          | omega
set_option maxRecDepth 100000 in
set_option maxHeartbeats 4000000 in
theorem sp_X3_add (hB : jB l s0 D) {q cap : Nat} {v : Int32} (h : RowOK T V q cap) : Sp l s0 D kX3_add (jR 0 0 0) 0 0 [.ref q, .int v] T V X sz (qU T X sz (fun V' => RowOK T V' q cap ∧ Rw V' q = (if (Rw V q).length < cap then Rw V q ++ [v] else Rw V q) ∧ jAg V V' q (q + 2))) := by
  refine Sp.of pn_X3_add rfl (Nat.le_of_ble_eq_true rfl) ?_
  have hcap : (Int32.ofNat cap).toInt = cap := ti_ofNat (by have := h.2.2.2.2; omega)
  have hs0 := h.2.2.1
  have hs1 := h.2.2.2.1
  have hln := h.len
  refine j_aload_n dX3_add_0 rfl ?_
  refine j_geti dX3_add_1 hB fl_X3_13 (by first | exact h.1 | exact h.2.1) (by rfl) ?_
  refine j_if_lt (tgt := 39) dX3_add_4 (by decide) (fun c_4 => ?_) (fun c_4 => ?_)
  · refine j_vret dX3_add_39 rfl (by decide) (by decide) ?_
    refine ⟨rfl, rfl, rfl, rfl, ?_⟩
    by_cases hf : (V q 1).toInt < cap
    · first
      | exact absurd hf (by omega)
      | rw [jset_ne (Or.inl (by omega)), cl_toNat]
        have hc := h.2.2.2.2
        have h1 : (V q 1 + 1).toInt = (V q 1).toInt + 1 := by rw [ti_add (by rw [ti_1]; omega) (by rw [ti_1]; omega), ti_1]
        refine ⟨⟨h.1, h.2.1, by rw [jset_eq]; omega, by rw [jset_eq]; omega, h.2.2.2.2⟩, ?_, (jAg.rf.set (by omega) (by omega)).set (by omega) (by omega)⟩
        rw [if_pos (by omega), Rw_add h h1]
    · first
      | exact absurd hf (by omega)
      | exact ⟨h, by rw [if_neg (by omega)], jAg.rf⟩
      | exact absurd hf (by omega)
  · refine j_aload_n dX3_add_7 rfl ?_
    refine j_geti dX3_add_8 hB fl_X3_13 (by first | exact h.1 | exact h.2.1) (by rfl) ?_
    refine j_aload_n dX3_add_11 rfl ?_
    refine j_getr dX3_add_12 hB fl_X3_7 (by first | exact h.1 | exact h.2.1) (by rfl) ?_
    refine j_alen dX3_add_15 hB (Or.inl (by first | exact h.1 | exact h.2.1)) ?_
    refine j_icmp_ge (tgt := 39) dX3_add_16 (by decide) (fun c_16 => ?_) (fun c_16 => ?_)
    · refine j_vret dX3_add_39 rfl (by decide) (by decide) ?_
      refine ⟨rfl, rfl, rfl, rfl, ?_⟩
      by_cases hf : (V q 1).toInt < cap
      · first
        | exact absurd hf (by omega)
        | rw [jset_ne (Or.inl (by omega)), cl_toNat]
          have hc := h.2.2.2.2
          have h1 : (V q 1 + 1).toInt = (V q 1).toInt + 1 := by rw [ti_add (by rw [ti_1]; omega) (by rw [ti_1]; omega), ti_1]
          refine ⟨⟨h.1, h.2.1, by rw [jset_eq]; omega, by rw [jset_eq]; omega, h.2.2.2.2⟩, ?_, (jAg.rf.set (by omega) (by omega)).set (by omega) (by omega)⟩
          rw [if_pos (by omega), Rw_add h h1]
      · first
        | exact absurd hf (by omega)
        | exact ⟨h, by rw [if_neg (by omega)], jAg.rf⟩
        | exact absurd hf (by omega)
    · refine j_aload_n dX3_add_19 rfl ?_
      refine j_getr dX3_add_20 hB fl_X3_7 (by first | exact h.1 | exact h.2.1) (by rfl) ?_
      refine j_aload_n dX3_add_23 rfl ?_
      refine j_geti dX3_add_24 hB fl_X3_13 (by first | exact h.1 | exact h.2.1) (by rfl) ?_
      refine j_iload_n dX3_add_27 rfl ?_
      refine j_iast dX3_add_28 hB (by first | exact h.1 | exact h.2.1) (by omega) (by omega) ?_
      refine j_aload_n dX3_add_29 rfl ?_
      refine j_dup dX3_add_30 rfl ?_
      refine j_geti dX3_add_31 hB fl_X3_13 (by first | exact h.1 | exact h.2.1) (by rfl) ?_
      refine j_iconst (v := 1) dX3_add_34 (by decide) ?_
      refine j_iadd dX3_add_35 ?_
      refine j_puti dX3_add_36 hB fp_X3_add_13 (by first | exact h.1 | exact h.2.1) (by rfl) ?_
      refine j_vret dX3_add_39 rfl (by decide) (by decide) ?_
      refine ⟨rfl, rfl, rfl, rfl, ?_⟩
      by_cases hf : (V q 1).toInt < cap
      · first
        | exact absurd hf (by omega)
        | rw [jset_ne (Or.inl (by omega)), cl_toNat]
          have hc := h.2.2.2.2
          have h1 : (V q 1 + 1).toInt = (V q 1).toInt + 1 := by rw [ti_add (by rw [ti_1]; omega) (by rw [ti_1]; omega), ti_1]
          refine ⟨⟨h.1, h.2.1, by rw [jset_eq]; omega, by rw [jset_eq]; omega, h.2.2.2.2⟩, ?_, (jAg.rf.set (by omega) (by omega)).set (by omega) (by omega)⟩
          rw [if_pos (by omega), Rw_add h h1]
      · first
        | exact absurd hf (by omega)
        | exact ⟨h, by rw [if_neg (by omega)], jAg.rf⟩
        | exact absurd hf (by omega)
set_option maxRecDepth 100000 in
set_option maxHeartbeats 4000000 in
theorem sp_X3_clear (hB : jB l s0 D) {q cap : Nat} (h : RowOK T V q cap) : Sp l s0 D kX3_clear (jR 0 0 0) 0 0 [.ref q] T V X sz (qU T X sz (fun V' => RowOK T V' q cap ∧ Rw V' q = [] ∧ jAg V V' q (q + 2))) := by
  refine Sp.of pn_X3_clear rfl (Nat.le_of_ble_eq_true rfl) ?_
  refine j_aload_n dX3_clear_0 rfl ?_
  refine j_iconst (v := 0) dX3_clear_1 (by decide) ?_
  refine j_puti dX3_clear_2 hB fp_X3_clear_13 (by first | exact h.1 | exact h.2.1) (by rfl) ?_
  refine j_vret dX3_clear_5 rfl (by decide) (by decide) ?_
  refine ⟨rfl, rfl, rfl, rfl, ⟨h.1, h.2.1, by rw [jset_eq]; decide, by rw [jset_eq, ti_0]; omega, h.2.2.2.2⟩, ?_, jAg.rf.set (by omega) (by omega)⟩
  rw [Rw_cut (by rw [ti_0]; exact h.2.2.1), ti_0]; rfl
end JRow
