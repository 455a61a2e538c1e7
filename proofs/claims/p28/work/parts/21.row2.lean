/-! CueSheets$Row: insert, remove, takeFrom -/
section JRow2
variable {l : Launch} {s0 : State} {D : jD} {T : jT} {V : jV} {X : jX} {sz : Nat}
theorem RowOK.ag {V' : jV} {q cap lo hi : Nat} (h : RowOK T V q cap) (ha : jAg V V' lo hi) (hd : q < lo ∨ hi ≤ q) : RowOK T V' q cap := h.congr (ha q hd)
theorem Rw_ag {V V' : jV} {q lo hi : Nat} (ha : jAg V V' lo hi) (hd : q + 2 ≤ lo ∨ hi ≤ q) : Rw V' q = Rw V q := Rw_congr (ha q (by omega)) (ha (q + 1) (by omega))
theorem getD_take (l : List Int32) (k : Nat) (h : k < l.length) : l.take k ++ [l.getD k 0] = l.take (k + 1) := by
  rw [List.take_succ, List.getD_eq_getElem?_getD]
  simp [h]
theorem take_erase (l : List Int32) (k : Nat) : (l.eraseIdx k).take k = l.take k := by
  rw [List.eraseIdx_eq_take_drop_succ]
  by_cases h : k ≤ l.length
  · rw [List.take_append_of_le_length (by rw [List.length_take]; omega), List.take_take, Nat.min_self]
  · rw [List.drop_eq_nil_of_le (by omega), List.append_nil, List.take_take, Nat.min_self]
set_option maxRecDepth 100000 in
set_option maxHeartbeats 4000000 in
/-- takes over all of another row -/
theorem sp_X3_takeFrom (hB : jB l s0 D) {q p cap cap' : Nat} (h : RowOK T V q cap) (hp : RowOK T V p cap') (hd : q + 2 ≤ p ∨ p + 2 ≤ q) (hlen : (Rw V p).length ≤ cap) : Sp l s0 D kX3_takeFrom (jR 1 0 0) 0 0 [.ref q, .ref p] T V X sz (qU T X sz (fun V' => RowOK T V' q cap ∧ Rw V' q = Rw V p ∧ jAg V V' q (q + 2))) := by
  refine Sp.of pn_X3_takeFrom rfl (Nat.le_of_ble_eq_true rfl) ?_
  have loop : ∀ (n k : Nat) (i : Int32) (V1 : jV), i.toInt = k → k + n = (Rw V p).length → RowOK T V1 q cap → Rw V1 q = (Rw V p).take k → jAg V V1 q (q + 2) → J l s0 D kX3_takeFrom (jR 1 0 0) 0 0 (qU T X sz (fun V' => RowOK T V' q cap ∧ Rw V' q = Rw V p ∧ jAg V V' q (q + 2))) 6 [(0, .ref q), (1, .ref p), (2, .int i)] [] T V1 X sz 0 0 := by
    intro n
    induction n with
    | zero =>
      intro k i V1 hi hk hq hl ha
      have hp1 := hp.ag ha (by omega)
      have hl1 := hp1.len
      rw [Rw_ag ha (by omega)] at hl1
      refine j_iload_n dX3_takeFrom_6 rfl ?_
      refine j_aload_n dX3_takeFrom_7 rfl ?_
      refine j_geti dX3_takeFrom_8 hB fl_X3_13 (by first | exact hp1.1 | exact hq.1) (by rfl) ?_
      refine j_icmp_ge (tgt := 29) dX3_takeFrom_11 (by decide) (fun c_11 => ?_) (fun c_11 => ?_)
      · refine j_vret dX3_takeFrom_29 rfl (by decide) (by decide) ?_
        exact ⟨rfl, rfl, rfl, rfl, hq, by rw [hl, show k = (Rw V p).length by omega, List.take_length], ha⟩
      · exact absurd c_11 (by omega)
    | succ n ih =>
      intro k i V1 hi hk hq hl ha
      have hp1 := hp.ag ha (by omega)
      have hl1 := hp1.len
      have hrp := Rw_ag ha (show p + 2 ≤ q ∨ q + 2 ≤ p by omega)
      rw [hrp] at hl1
      refine j_iload_n dX3_takeFrom_6 rfl ?_
      refine j_aload_n dX3_takeFrom_7 rfl ?_
      refine j_geti dX3_takeFrom_8 hB fl_X3_13 (by first | exact hp1.1 | exact hq.1) (by rfl) ?_
      refine j_icmp_ge (tgt := 29) dX3_takeFrom_11 (by decide) (fun c_11 => ?_) (fun c_11 => ?_)
      · exact absurd c_11 (by omega)
      · refine j_aload_n dX3_takeFrom_14 rfl ?_
        refine j_aload_n dX3_takeFrom_15 rfl ?_
        refine j_iload_n dX3_takeFrom_16 rfl ?_
        refine j_cVi dX3_takeFrom_17 hB mo_X3_at ml_X3_21 (sp_X3_at hB hp1) (by first | exact hp1.1 | exact hq.1) rfl rfl rfl rfl ⟨rfl, rfl, by decide, by decide⟩ (Nat.le_of_ble_eq_true rfl) ⟨by decide, by decide⟩ (fun r_17 V_17 h_17 => ?_)
        obtain ⟨rfl, rfl⟩ := h_17
        refine j_cVu dX3_takeFrom_20 hB mo_X3_add ml_X3_17 (sp_X3_add hB hq) (by first | exact hp1.1 | exact hq.1) rfl rfl rfl rfl ⟨rfl, rfl, by decide, by decide⟩ (Nat.le_of_ble_eq_true rfl) ⟨by decide, by decide⟩ (fun V_20 h_20 => ?_)
        obtain ⟨g1, g2, g3⟩ := h_20
        refine j_iinc (v := 1) (L' := [(0, _), (1, _), (2, _)]) dX3_takeFrom_23 rfl (by decide) (by decide) rfl ?_
        refine j_goto (tgt := 6) dX3_takeFrom_26 (by decide) ?_
        refine ih (k + 1) _ V_20 ?_ (by omega) g1 ?_ (ha.tr g3)
        · have hc := hp.2.2.2.2
          have := hp.le
          rw [ti_add (by rw [ti_1]; omega) (by rw [ti_1]; omega), ti_1]; omega
        · rw [g2, hl, if_pos (by rw [List.length_take]; omega), hrp, atZ_in (by omega), show i.toInt.toNat = k by omega]
          exact getD_take _ _ (by omega)
  refine j_aload_n dX3_takeFrom_0 rfl ?_
  refine j_cVu dX3_takeFrom_1 hB mo_X3_clear ml_X3_29 (sp_X3_clear hB h) (by first | exact h.1) rfl rfl rfl rfl ⟨rfl, rfl, by decide, by decide⟩ (Nat.le_of_ble_eq_true rfl) ⟨by decide, by decide⟩ (fun V_1 h_1 => ?_)
  obtain ⟨g1, g2, g3⟩ := h_1
  refine j_iconst (v := 0) dX3_takeFrom_4 (by decide) ?_
  refine j_istore_n (L' := [(0, _), (1, _), (2, _)]) dX3_takeFrom_5 (by decide) rfl ?_
  exact loop (Rw V p).length 0 0 V_1 rfl (by omega) g1 (by rw [g2]; rfl) g3
set_option maxRecDepth 100000 in
set_option maxHeartbeats 4000000 in
/-- puts a number ahead of place k -/
theorem sp_X3_insert (hB : jB l s0 D) {q cap : Nat} {i v : Int32} (h : RowOK T V q cap) (h0 : 0 ≤ i.toInt) (h1 : i.toInt ≤ (Rw V q).length) (hlen : (Rw V q).length < cap) : Sp l s0 D kX3_insert (jR 1 0 0) 0 0 [.ref q, .int i, .int v] T V X sz (qU T X sz (fun V' => RowOK T V' q cap ∧ Rw V' q = (Rw V q).take i.toInt.toNat ++ v :: (Rw V q).drop i.toInt.toNat ∧ jAg V V' q (q + 2))) := by
  refine Sp.of pn_X3_insert rfl (Nat.le_of_ble_eq_true rfl) ?_
  have hcap := h.2.2.2.2
  generalize hL : Rw V q = L at h1 hlen ⊢
  generalize hI : i.toInt.toNat = I at ⊢
  have loop : ∀ (n : Nat) (j : Int32) (V1 : jV) (x : Int32), j.toInt = I + n → I + n ≤ L.length → RowOK T V1 q cap → Rw V1 q = L.take (I + n) ++ x :: L.drop (I + n) → jAg V V1 q (q + 2) → J l s0 D kX3_insert (jR 1 0 0) 0 0 (qU T X sz (fun V' => RowOK T V' q cap ∧ Rw V' q = L.take I ++ v :: L.drop I ∧ jAg V V' q (q + 2))) 12 [(0, .ref q), (1, .int i), (2, .int v), (3, .int j)] [] T V1 X sz 0 0 := by
    intro n
    induction n with
    | zero =>
      intro j V1 x hj hI1 hq hl ha
      refine j_iload_n dX3_insert_12 rfl ?_
      refine j_iload_n dX3_insert_13 rfl ?_
      refine j_icmp_le (tgt := 39) dX3_insert_14 (by decide) (fun c_14 => ?_) (fun c_14 => ?_)
      · refine j_aload_n dX3_insert_39 rfl ?_
        refine j_iload_n dX3_insert_40 rfl ?_
        refine j_iload_n dX3_insert_41 rfl ?_
        refine j_cVu dX3_insert_42 hB mo_X3_put ml_X3_25 (sp_X3_put hB hq) (by first | exact hq.1) rfl rfl rfl rfl ⟨rfl, rfl, by decide, by decide⟩ (Nat.le_of_ble_eq_true rfl) ⟨by decide, by decide⟩ (fun V_42 h_42 => ?_)
        obtain ⟨g1, g2, g3⟩ := h_42
        refine j_vret dX3_insert_45 rfl (by decide) (by decide) ?_
        refine ⟨rfl, rfl, rfl, rfl, g1, ?_, ha.tr g3⟩
        have : (L.take I).length = I := by rw [List.length_take]; omega
        rw [g2, hl, setZ, if_pos h0, hI]
        simp [List.set_append, this]
      · exact absurd c_14 (by omega)
    | succ n ih =>
      intro j V1 x hj hI1 hq hl ha
      have hj1 : (j - 1).toInt = I + n := by rw [ti_sub (by rw [ti_1]; omega) (by rw [ti_1]; omega), ti_1]; omega
      refine j_iload_n dX3_insert_12 rfl ?_
      refine j_iload_n dX3_insert_13 rfl ?_
      refine j_icmp_le (tgt := 39) dX3_insert_14 (by decide) (fun c_14 => ?_) (fun c_14 => ?_)
      · exact absurd c_14 (by omega)
      · refine j_iload_n dX3_insert_17 rfl ?_
        refine j_if_le (tgt := 39) dX3_insert_18 (by decide) (fun c_18 => ?_) (fun c_18 => ?_)
        · exact absurd c_18 (by omega)
        · refine j_aload_n dX3_insert_21 rfl ?_
          refine j_iload_n dX3_insert_22 rfl ?_
          refine j_aload_n dX3_insert_23 rfl ?_
          refine j_iload_n dX3_insert_24 rfl ?_
          refine j_iconst (v := 1) dX3_insert_25 (by decide) ?_
          refine j_isub dX3_insert_26 ?_
          refine j_cVi dX3_insert_27 hB mo_X3_at ml_X3_21 (sp_X3_at hB hq) (by first | exact hq.1) rfl rfl rfl rfl ⟨rfl, rfl, by decide, by decide⟩ (Nat.le_of_ble_eq_true rfl) ⟨by decide, by decide⟩ (fun r_27 V_27 h_27 => ?_)
          obtain ⟨rfl, rfl⟩ := h_27
          refine j_cVu dX3_insert_30 hB mo_X3_put ml_X3_25 (sp_X3_put hB hq) (by first | exact hq.1) rfl rfl rfl rfl ⟨rfl, rfl, by decide, by decide⟩ (Nat.le_of_ble_eq_true rfl) ⟨by decide, by decide⟩ (fun V_30 h_30 => ?_)
          obtain ⟨g1, g2, g3⟩ := h_30
          refine j_iinc (v := -1) (L' := [(0, _), (1, _), (2, _), (3, _)]) dX3_insert_33 rfl (by decide) (by decide) rfl ?_
          refine j_goto (tgt := 12) dX3_insert_36 (by decide) ?_
          have hlt : I + n < L.length := by omega
          have hx : atZ (Rw V1 q) (j - 1).toInt = L[I + n] := by
            rw [atZ_in (by omega), hj1, hl, show ((I : Int) + n).toNat = I + n by omega, List.getD_eq_getElem?_getD, List.getElem?_append_left (by rw [List.length_take]; omega), List.getElem?_take]
            simp [hlt]
          rw [hx] at g2
          refine ih _ V_30 L[I + n] ?_ (by omega) g1 ?_ (ha.tr g3)
          · rw [show j + -1 = j - 1 by rw [Int32.sub_eq_add_neg]]; exact hj1
          · have e1 : (L.take (I + (n + 1))).length = I + (n + 1) := by rw [List.length_take]; omega
            rw [g2, hl, setZ, if_pos (by omega), show j.toInt.toNat = I + (n + 1) by omega]
            rw [List.set_append_right _ _ (by omega), e1, Nat.sub_self]
            show L.take (I + (n + 1)) ++ L[I + n] :: L.drop (I + (n + 1)) = _
            have e3 := List.take_append_getElem hlt
            have e4 := List.drop_eq_getElem_cons hlt
            rw [show I + (n + 1) = I + n + 1 by omega, ← e3, e4, List.append_assoc]
            rfl
  refine j_aload_n dX3_insert_0 rfl ?_
  refine j_iload_n dX3_insert_1 rfl ?_
  refine j_cVu dX3_insert_2 hB mo_X3_add ml_X3_17 (sp_X3_add hB h) (by first | exact g1.1 | exact h.1) rfl rfl rfl rfl ⟨rfl, rfl, by decide, by decide⟩ (Nat.le_of_ble_eq_true rfl) ⟨by decide, by decide⟩ (fun V_2 h_2 => ?_)
  obtain ⟨g1, g2, g3⟩ := h_2
  rw [hL, if_pos hlen] at g2
  have gl := g1.len
  rw [g2, List.length_append, List.length_singleton] at gl
  refine j_aload_n dX3_insert_5 rfl ?_
  refine j_geti dX3_insert_6 hB fl_X3_13 (by first | exact g1.1 | exact h.1) (by rfl) ?_
  refine j_iconst (v := 1) dX3_insert_9 (by decide) ?_
  refine j_isub dX3_insert_10 ?_
  refine j_istore_n (L' := [(0, _), (1, _), (2, _), (3, _)]) dX3_insert_11 (by decide) rfl ?_
  refine loop (L.length - I) _ V_2 v ?_ (by omega) g1 ?_ g3
  · rw [ti_sub (by rw [ti_1]; omega) (by rw [ti_1]; omega), ti_1]; omega
  · rw [g2, show I + (L.length - I) = L.length by omega, List.take_length, List.drop_length]
set_option maxRecDepth 100000 in
set_option maxHeartbeats 4000000 in
/-- takes out the number at a place -/
theorem sp_X3_remove (hB : jB l s0 D) {q cap : Nat} {i : Int32} (h : RowOK T V q cap) : Sp l s0 D kX3_remove (jR 1 0 0) 0 0 [.ref q, .int i] T V X sz (qU T X sz (fun V' => RowOK T V' q cap ∧ Rw V' q = (if 0 ≤ i.toInt then (Rw V q).eraseIdx i.toInt.toNat else Rw V q) ∧ jAg V V' q (q + 2))) := by
  refine Sp.of pn_X3_remove rfl (Nat.le_of_ble_eq_true rfl) ?_
  have hcap := h.2.2.2.2
  have hln := h.len
  have hle := h.le
  generalize hL : Rw V q = L at hln hle ⊢
  have loop : 0 ≤ i.toInt → i.toInt < L.length → ∀ (n k : Nat) (j : Int32) (V1 : jV), j.toInt = k → i.toInt ≤ k → k + n + 1 = L.length → RowOK T V1 q cap → (Rw V1 q).length = L.length → (Rw V1 q).take k = (L.eraseIdx i.toInt.toNat).take k → (Rw V1 q).drop (k + 1) = L.drop (k + 1) → jAg V V1 q (q + 2) → J l s0 D kX3_remove (jR 1 0 0) 0 0 (qU T X sz (fun V' => RowOK T V' q cap ∧ Rw V' q = (if 0 ≤ i.toInt then L.eraseIdx i.toInt.toNat else L) ∧ jAg V V' q (q + 2))) 15 [(0, .ref q), (1, .int i), (2, .int j)] [] T V1 X sz 0 0 := by
    intro hi0 hi1 n
    induction n with
    | zero =>
      intro k j V1 hj hik hk hq hl2 ht hdr ha
      have hl1 := hq.len
      have hm1 : (V1 q 1 - 1).toInt = (V1 q 1).toInt - 1 := by rw [ti_sub (by rw [ti_1]; omega) (by rw [ti_1]; omega), ti_1]
      refine j_iload_n dX3_remove_15 rfl ?_
      refine j_aload_n dX3_remove_16 rfl ?_
      refine j_geti dX3_remove_17 hB fl_X3_13 (by first | exact hq.1) (by rfl) ?_
      refine j_iconst (v := 1) dX3_remove_20 (by decide) ?_
      refine j_isub dX3_remove_21 ?_
      refine j_icmp_ge (tgt := 43) dX3_remove_22 (by decide) (fun c_22 => ?_) (fun c_22 => ?_)
      · refine j_aload_n dX3_remove_43 rfl ?_
        refine j_dup dX3_remove_44 rfl ?_
        refine j_geti dX3_remove_45 hB fl_X3_13 (by first | exact hq.1) (by rfl) ?_
        refine j_iconst (v := 1) dX3_remove_48 (by decide) ?_
        refine j_isub dX3_remove_49 ?_
        refine j_puti dX3_remove_50 hB fp_X3_remove_13 (by first | exact hq.1) (by rfl) ?_
        refine j_vret dX3_remove_53 rfl (by decide) (by decide) ?_
        have hc := Rw_cut (V := V1) (q := q) (n' := V1 q 1 - 1) (by omega)
        refine ⟨rfl, rfl, rfl, rfl, ⟨hq.1, hq.2.1, by rw [jset_eq]; omega, by rw [jset_eq]; have := hq.2.2.2.1; omega, hcap⟩, ?_, ha.set (by omega) (by omega)⟩
        rw [hc, if_pos hi0, show (V1 q 1 - 1).toInt.toNat = k by omega, ht, List.take_of_length_le (by rw [List.length_eraseIdx]; split <;> omega)]
      · exact absurd c_22 (by omega)
    | succ n ih =>
      intro k j V1 hj hik hk hq hl2 ht hdr ha
      have hl1 := hq.len
      have hm1 : (V1 q 1 - 1).toInt = (V1 q 1).toInt - 1 := by rw [ti_sub (by rw [ti_1]; omega) (by rw [ti_1]; omega), ti_1]
      have hj1 : (j + 1).toInt = k + 1 := by rw [ti_add (by rw [ti_1]; omega) (by rw [ti_1]; omega), ti_1]; omega
      refine j_iload_n dX3_remove_15 rfl ?_
      refine j_aload_n dX3_remove_16 rfl ?_
      refine j_geti dX3_remove_17 hB fl_X3_13 (by first | exact hq.1) (by rfl) ?_
      refine j_iconst (v := 1) dX3_remove_20 (by decide) ?_
      refine j_isub dX3_remove_21 ?_
      refine j_icmp_ge (tgt := 43) dX3_remove_22 (by decide) (fun c_22 => ?_) (fun c_22 => ?_)
      · exact absurd c_22 (by omega)
      · refine j_aload_n dX3_remove_25 rfl ?_
        refine j_iload_n dX3_remove_26 rfl ?_
        refine j_aload_n dX3_remove_27 rfl ?_
        refine j_iload_n dX3_remove_28 rfl ?_
        refine j_iconst (v := 1) dX3_remove_29 (by decide) ?_
        refine j_iadd dX3_remove_30 ?_
        refine j_cVi dX3_remove_31 hB mo_X3_at ml_X3_21 (sp_X3_at hB hq) (by first | exact hq.1) rfl rfl rfl rfl ⟨rfl, rfl, by decide, by decide⟩ (Nat.le_of_ble_eq_true rfl) ⟨by decide, by decide⟩ (fun r_31 V_31 h_31 => ?_)
        obtain ⟨rfl, rfl⟩ := h_31
        refine j_cVu dX3_remove_34 hB mo_X3_put ml_X3_25 (sp_X3_put hB hq) (by first | exact hq.1) rfl rfl rfl rfl ⟨rfl, rfl, by decide, by decide⟩ (Nat.le_of_ble_eq_true rfl) ⟨by decide, by decide⟩ (fun V_34 h_34 => ?_)
        obtain ⟨g1, g2, g3⟩ := h_34
        refine j_iinc (v := 1) (L' := [(0, _), (1, _), (2, _)]) dX3_remove_37 rfl (by decide) (by decide) rfl ?_
        refine j_goto (tgt := 15) dX3_remove_40 (by decide) ?_
        have hx : atZ (Rw V1 q) (j + 1).toInt = L[k + 1] := by
          rw [atZ_in (by omega), hj1, show ((k : Int) + 1).toNat = k + 1 by omega, List.getD_eq_getElem?_getD]
          have : (Rw V1 q)[k + 1]? = ((Rw V1 q).drop (k + 1))[0]? := by simp
          rw [this, hdr]
          simp [show k + 1 < L.length by omega]
        rw [hx, setZ, if_pos (by omega), show j.toInt.toNat = k by omega] at g2
        refine ih (k + 1) _ V_34 ?_ (by omega) (by omega) g1 (by rw [g2, List.length_set]; exact hl2) ?_ ?_ (ha.tr g3)
        · rw [hj1]; rfl
        · have hlt : k < (L.eraseIdx i.toInt.toNat).length := by rw [List.length_eraseIdx]; split <;> omega
          have hv : (L.eraseIdx i.toInt.toNat)[k]? = some L[k + 1] := by
            rw [List.getElem?_eraseIdx_of_ge (by omega)]
            simp [show k + 1 < L.length by omega]
          rw [g2, List.take_succ, List.take_set_of_le (by omega), ht, List.take_succ, hv, List.getElem?_set_self (by omega)]
        · rw [g2, List.drop_set_of_lt (by omega)]
          have : (Rw V1 q).drop (k + 1 + 1) = ((Rw V1 q).drop (k + 1)).drop 1 := by simp
          rw [this, hdr]
          simp
  refine j_iload_n dX3_remove_0 rfl ?_
  refine j_if_lt (tgt := 12) dX3_remove_1 (by decide) (fun c_1 => ?_) (fun c_1 => ?_)
  · refine j_vret dX3_remove_12 rfl (by decide) (by decide) ?_
    refine ⟨rfl, rfl, rfl, rfl, h, ?_, jAg.rf⟩
    rw [hL]
    by_cases hi : 0 ≤ i.toInt
    · rw [if_pos hi, List.eraseIdx_of_length_le (by omega)]
    · rw [if_neg hi]
  · refine j_iload_n dX3_remove_4 rfl ?_
    refine j_aload_n dX3_remove_5 rfl ?_
    refine j_geti dX3_remove_6 hB fl_X3_13 (by first | exact h.1) (by rfl) ?_
    refine j_icmp_lt (tgt := 13) dX3_remove_9 (by decide) (fun c_9 => ?_) (fun c_9 => ?_)
    · refine j_iload_n dX3_remove_13 rfl ?_
      refine j_istore_n (L' := [(0, _), (1, _), (2, _)]) dX3_remove_14 (by decide) rfl ?_
      exact loop (by omega) (by omega) (L.length - i.toInt.toNat - 1) i.toInt.toNat i V (by omega) (by omega) (by omega) h (by rw [hL]) (by rw [hL, take_erase]) (by rw [hL]) jAg.rf
    · refine j_vret dX3_remove_12 rfl (by decide) (by decide) ?_
      refine ⟨rfl, rfl, rfl, rfl, h, ?_, jAg.rf⟩
      rw [hL]
      by_cases hi : 0 ≤ i.toInt
      · rw [if_pos hi, List.eraseIdx_of_length_le (by omega)]
      · rw [if_neg hi]
end JRow2
