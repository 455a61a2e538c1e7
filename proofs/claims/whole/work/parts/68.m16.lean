/-! CueSheetsModel: takes, readText, firstError -/
section JM16
variable {l : Launch} {s0 : State} {D : jD} {T : jT} {V : jV} {X : jX} {sz : Nat}
set_option maxRecDepth 100000 in
set_option maxHeartbeats 4000000 in
theorem sp_X8_takes (hB : jB l s0 D) {q : Nat} (h0 : moT T q) {t : tR} {n k : Nat} {c : Int32} (h : mRd V q t n k) (hv : rInv t k) (k60 : k < 60) (c0 : 33 ≤ c.toInt) (c1 : c.toInt ≤ 126)  : Sp l s0 D kX8_takes (jR 3 0 0) 0 0 [.ref q, .int c] T V X sz (tkQ T V X sz q t c k) := by
  refine Sp.of pn_X8_takes rfl (Nat.le_of_ble_eq_true rfl) ?_
  refine j_iload_n dX8_takes_0 rfl ?_
  refine j_bipush (v := 44) dX8_takes_1 (by decide) ?_
  refine m_icmp_ne (tgt := 29) dX8_takes_3 (by decide) (iV) (iC 44 (by decide)) (fun c_3 => ?_) (fun c_3 => ?_)
  · refine j_aload_n dX8_takes_29 rfl ?_
    refine j_iload_n dX8_takes_30 rfl ?_
    refine j_cVi dX8_takes_31 hB mo_X8_takesPart ml_X8_148 (sp_X8_takesPart hB h0 h hv k60 c0 c1 (fun z => c_3 z.1)) (by first | exact h0.1 | exact h0.2.1 | exact h0.2.2.1 | exact h0.2.2.2.1 | exact h0.2.2.2.2.1 | exact h0.2.2.2.2.2.1 | exact h0.2.2.2.2.2.2.1 | exact h0.2.2.2.2.2.2.2.1 | exact h0.2.2.2.2.2.2.2.2) rfl rfl rfl rfl ⟨rfl, rfl, by decide, by decide⟩ (Nat.le_of_ble_eq_true rfl) ⟨by decide, by decide⟩ (fun r_31 V_31 h_31 => ?_)
    obtain ⟨hk9, hb9, hr9⟩ := h_31
    refine j_iret dX8_takes_34 rfl (m_nrB hb9) (by decide) (by decide) ?_
    exact ⟨_, rfl, rfl, rfl, rfl, hk9, hb9, hr9⟩
  · refine j_aload_n dX8_takes_6 rfl ?_
    refine j_cVi dX8_takes_7 hB mo_X8_isOver ml_X8_141 (sp_X8_isOver hB h0 h hv (by omega)) (by first | exact h0.1 | exact h0.2.1 | exact h0.2.2.1 | exact h0.2.2.2.1 | exact h0.2.2.2.2.1 | exact h0.2.2.2.2.2.1 | exact h0.2.2.2.2.2.2.1 | exact h0.2.2.2.2.2.2.2.1 | exact h0.2.2.2.2.2.2.2.2) rfl rfl rfl rfl ⟨rfl, rfl, by decide, by decide⟩ (Nat.le_of_ble_eq_true rfl) ⟨by decide, by decide⟩ (fun r_7 V_7 h_7 => ?_)
    obtain ⟨rfl, b_7⟩ := h_7
    refine m_ifeqB (tgt := 29) dX8_takes_10 (by decide) b_7 (fun c_10 => ?_) (fun c_10 => ?_)
    · refine j_aload_n dX8_takes_29 rfl ?_
      refine j_iload_n dX8_takes_30 rfl ?_
      refine j_cVi dX8_takes_31 hB mo_X8_takesPart ml_X8_148 (sp_X8_takesPart hB h0 h hv k60 c0 c1 (fun z => c_10 z.2)) (by first | exact h0.1 | exact h0.2.1 | exact h0.2.2.1 | exact h0.2.2.2.1 | exact h0.2.2.2.2.1 | exact h0.2.2.2.2.2.1 | exact h0.2.2.2.2.2.2.1 | exact h0.2.2.2.2.2.2.2.1 | exact h0.2.2.2.2.2.2.2.2) rfl rfl rfl rfl ⟨rfl, rfl, by decide, by decide⟩ (Nat.le_of_ble_eq_true rfl) ⟨by decide, by decide⟩ (fun r_31 V_31 h_31 => ?_)
      obtain ⟨hk9, hb9, hr9⟩ := h_31
      refine j_iret dX8_takes_34 rfl (m_nrB hb9) (by decide) (by decide) ?_
      exact ⟨_, rfl, rfl, rfl, rfl, hk9, hb9, hr9⟩
    · obtain ⟨m, l1, l2, l3, l4, -, l5⟩ := hv.comp c_10
      have hmn : m = n := by have := h.1; omega
      subst hmn
      refine j_aload_n dX8_takes_13 rfl ?_
      refine j_dup dX8_takes_14 rfl ?_
      refine j_geti dX8_takes_15 hB fl_X8_128 (by first | exact h0.1 | exact h0.2.1 | exact h0.2.2.1 | exact h0.2.2.2.1 | exact h0.2.2.2.2.1 | exact h0.2.2.2.2.2.1 | exact h0.2.2.2.2.2.2.1 | exact h0.2.2.2.2.2.2.2.1 | exact h0.2.2.2.2.2.2.2.2) (by rfl) ?_
      refine j_iconst (v := 1) dX8_takes_18 (by decide) ?_
      refine j_iadd dX8_takes_19 ?_
      refine j_puti dX8_takes_20 hB fp_X8_takes_128 (by first | exact h0.1 | exact h0.2.1 | exact h0.2.2.1 | exact h0.2.2.2.1 | exact h0.2.2.2.2.1 | exact h0.2.2.2.2.2.1 | exact h0.2.2.2.2.2.2.1 | exact h0.2.2.2.2.2.2.2.1 | exact h0.2.2.2.2.2.2.2.2) (by rfl) ?_
      generalize hV1 : jset V q 13 (V q 13 + 1) = V1
      have n1 : isI (V1 q 13) ((m + 1 : Nat) : Int) := by rw [← hV1, jset_eq]; exact ixz (iA h.2.1 (iC 1 (by decide)) (by omega)) (by omega)
      have hr := (show rRd t c (rNew t) from Or.inl ⟨c_3, c_10, rfl⟩)
      refine j_aload_n dX8_takes_23 rfl ?_
      refine j_cVu dX8_takes_24 hB mo_X8_beginEntry ml_X8_145 (sp_X8_beginEntry hB h0 n1 (by omega)) (by first | exact h0.1 | exact h0.2.1 | exact h0.2.2.1 | exact h0.2.2.2.1 | exact h0.2.2.2.2.1 | exact h0.2.2.2.2.2.1 | exact h0.2.2.2.2.2.2.1 | exact h0.2.2.2.2.2.2.2.1 | exact h0.2.2.2.2.2.2.2.2) rfl rfl rfl rfl ⟨rfl, rfl, by decide, by decide⟩ (Nat.le_of_ble_eq_true rfl) ⟨by decide, by decide⟩ (fun V_24 h_24 => ?_)
      refine j_iconst (v := 1) dX8_takes_27 (by decide) ?_
      refine j_iret dX8_takes_28 rfl (by first | decide | exact m_nrB (by assumption)) (by decide) (by decide) ?_
      subst h_24
      have e8 : ∀ i, V1 (q + 8) i = V (q + 8) i := fun i => by rw [← hV1, jset_row (by omega)]
      refine tkQ.yes (n := m + 1) ?_ hr (mRd.new h l2 l3 l4 ?_ ?_ ?_ (fun i hi => ?_) ?_ ?_ ?_ ?_)
      · rw [← hV1]
        exact ((((((mKp.rf.sf (by omega)).sf (by omega)).sf (by omega)).s8).s8).s8).s8
      · rw [jset_row (by omega), jset_row (by omega), jset_row (by omega), jset_row (by omega), jset_ne (Or.inr (by omega)), jset_ne (Or.inr (by omega))]; exact n1
      · rw [jset_row (by omega), jset_row (by omega), jset_row (by omega), jset_row (by omega), jset_ne (Or.inr (by omega)), jset_eq]
      · rw [jset_row (by omega), jset_row (by omega), jset_row (by omega), jset_row (by omega), jset_eq]
      · rw [jset_ne (Or.inr (by omega)), jset_ne (Or.inr (by omega)), jset_ne (Or.inr (by omega)), jset_ne (Or.inr (by omega)), jset_row (by omega), jset_row (by omega)]; exact e8 i
      · rw [jset_ne (Or.inr (by omega)), jset_ne (Or.inr (by omega)), jset_ne (Or.inr (by omega)), jset_eq]
      · rw [jset_ne (Or.inr (by omega)), jset_ne (Or.inr (by omega)), jset_eq]
      · rw [jset_ne (Or.inr (by omega)), jset_eq]
      · rw [jset_eq]
set_option maxRecDepth 100000 in
set_option maxHeartbeats 4000000 in
theorem sp_X8_readText (hB : jB l s0 D) {q : Nat} (h0 : moT T q) {x : aX} (h : moIs T V q x) (hW : xW x)  : Sp l s0 D kX8_readText (jR 4 0 0) 0 0 [.ref q] T V X sz (qI T X sz (fun r V' => r.toInt = (rdL r0 x.2.2).1 ∧ mKp V V' q ∧ ((rdL r0 x.2.2).1 = x.2.2.length → ∃ n, mRd V' q (xT x) n x.2.2.length))) := by
  refine Sp.of pn_X8_readText rfl (Nat.le_of_ble_eq_true rfl) ?_
  have hl60 := hW.2.2.2.1
  have loop : ∀ (n k : Nat) (i : Int32) (t : tR) (m : Nat) (V1 : jV), i.toInt = k → k + n = x.2.2.length → mRd V1 q t m k → rInv t k → rdL r0 x.2.2 = (k + (rdL t (x.2.2.drop k)).1, (rdL t (x.2.2.drop k)).2) → mKp V V1 q → J l s0 D kX8_readText (jR 4 0 0) 0 0 (qI T X sz (fun r V' => r.toInt = (rdL r0 x.2.2).1 ∧ mKp V V' q ∧ ((rdL r0 x.2.2).1 = x.2.2.length → ∃ n, mRd V' q (xT x) n x.2.2.length))) 11 [(0, .ref q), (1, .int i)] [] T V1 X sz 0 0 := by
    intro n
    refine Nat.strongRecOn n ?_
    clear n
    intro n ih k i t m V1 hi hk hr hv he ha
    have h1 : moIs T V1 q x := h.kp ha
    have hln : isI (V1 q 4) x.2.2.length := h1.2.2.2.1
    refine j_iload_n dX8_readText_11 rfl ?_
    refine j_aload_n dX8_readText_12 rfl ?_
    refine j_geti dX8_readText_13 hB fl_X8_119 (by first | exact h0.1 | exact h0.2.1 | exact h0.2.2.1 | exact h0.2.2.2.1 | exact h0.2.2.2.2.1 | exact h0.2.2.2.2.2.1 | exact h0.2.2.2.2.2.2.1 | exact h0.2.2.2.2.2.2.2.1 | exact h0.2.2.2.2.2.2.2.2) (by rfl) ?_
    refine m_icmp_ge (tgt := 38) dX8_readText_16 (by decide) (hi) (hln) (fun c_16 => ?_) (fun c_16 => ?_)
    · refine j_iload_n dX8_readText_38 rfl ?_
      refine j_iret dX8_readText_39 rfl (rfl) (by decide) (by decide) ?_
      have hkl : k = x.2.2.length := by omega
      rw [hkl, List.drop_length] at he
      have he1 : (rdL r0 x.2.2).1 = x.2.2.length := by rw [he]; rfl
      have he2 : xT x = t := by unfold xT; rw [he]; rfl
      exact ⟨_, rfl, rfl, rfl, rfl, by rw [hi, he1, hkl], ha, fun _ => ⟨m, by rw [he2, ← hkl]; exact hr⟩⟩
    · have hlt : k < x.2.2.length := by omega
      have hd : x.2.2.drop k = atZ x.2.2 k :: x.2.2.drop (k + 1) := by
        rw [List.drop_eq_getElem_cons hlt, atZ_nat, List.getD_eq_getElem?_getD, List.getElem?_eq_getElem hlt]; rfl
      have htx : V1 (q + 3) k = atZ x.2.2 k := by
        rw [atZ_nat, List.getD_eq_getElem?_getD]
        have := h1.2.2.2.2 k x.2.2[k] (List.getElem?_eq_getElem hlt)
        rw [List.getElem?_eq_getElem hlt, this]; rfl
      have hcr := hW.2.2.2.2 (atZ x.2.2 k) (atZ_mem (by omega) (by omega))
      refine j_aload_n dX8_readText_19 rfl ?_
      refine j_aload_n dX8_readText_20 rfl ?_
      refine j_getr dX8_readText_21 hB fl_X8_16 (by first | exact h0.1 | exact h0.2.1 | exact h0.2.2.1 | exact h0.2.2.2.1 | exact h0.2.2.2.2.1 | exact h0.2.2.2.2.2.1 | exact h0.2.2.2.2.2.2.1 | exact h0.2.2.2.2.2.2.2.1 | exact h0.2.2.2.2.2.2.2.2) (by rfl) ?_
      refine j_iload_n dX8_readText_24 rfl ?_
      refine m_iald (k := k) dX8_readText_25 hB (by first | exact h0.1 | exact h0.2.1 | exact h0.2.2.1 | exact h0.2.2.2.1 | exact h0.2.2.2.2.1 | exact h0.2.2.2.2.2.1 | exact h0.2.2.2.2.2.2.1 | exact h0.2.2.2.2.2.2.2.1 | exact h0.2.2.2.2.2.2.2.2) (ixk (hi) (by omega)) (by omega) ?_
      refine j_cVi dX8_readText_26 hB mo_X8_takes ml_X8_151 (sp_X8_takes hB h0 hr hv (by omega) (by rw [htx]; exact hcr.1) (by rw [htx]; exact hcr.2)) (by first | exact h0.1 | exact h0.2.1 | exact h0.2.2.1 | exact h0.2.2.2.1 | exact h0.2.2.2.2.1 | exact h0.2.2.2.2.2.1 | exact h0.2.2.2.2.2.2.1 | exact h0.2.2.2.2.2.2.2.1 | exact h0.2.2.2.2.2.2.2.2) rfl rfl rfl rfl ⟨rfl, rfl, by decide, by decide⟩ (Nat.le_of_ble_eq_true rfl) ⟨by decide, by decide⟩ (fun r_26 V_26 h_26 => ?_)
      obtain ⟨hk9, hb9, hr9⟩ := h_26
      rw [htx] at hb9 hr9
      refine m_ifeqB (tgt := 38) dX8_readText_29 (by decide) hb9 (fun c_29 => ?_) (fun c_29 => ?_)
      · refine j_iload_n dX8_readText_38 rfl ?_
        refine j_iret dX8_readText_39 rfl (rfl) (by decide) (by decide) ?_
        have e1 : rdL t (x.2.2.drop k) = (0, t) := by rw [hd]; unfold rdL; rw [rdS_none (fun t' z => c_29 ⟨t', z⟩)]
        have e2 : (rdL r0 x.2.2).1 = k := by rw [he, e1]; rfl
        exact ⟨_, rfl, rfl, rfl, rfl, by rw [e2, hi], ha.tr hk9, fun z => by rw [e2] at z; omega⟩
      · refine j_iinc (v := 1) (L' := [(0, _), (1, _)]) dX8_readText_32 rfl (by decide) (by decide) rfl ?_
        refine j_goto (tgt := 11) dX8_readText_35 (by decide) ?_
        obtain ⟨t', ht'⟩ := c_29
        obtain ⟨m', hr'⟩ := hr9 t' ht'
        have e1 : rdL t (x.2.2.drop k) = ((rdL t' (x.2.2.drop (k + 1))).1 + 1, (rdL t' (x.2.2.drop (k + 1))).2) := by rw [hd, rdL, rdS_some ht']
        refine ih (n - 1) (by omega) (k + 1) _ t' m' _ ?_ (by omega) hr' (hv.step ht') ?_ (ha.tr hk9)
        · exact (ixk (k := k + 1) (iA (hi) (iC 1 (by decide)) (by omega)) (by omega))
        · rw [he, e1]
          show (k + ((rdL t' (x.2.2.drop (k + 1))).1 + 1), _) = _
          rw [show k + ((rdL t' (x.2.2.drop (k + 1))).1 + 1) = k + 1 + (rdL t' (x.2.2.drop (k + 1))).1 by omega]
  refine j_aload_n dX8_readText_0 rfl ?_
  refine j_iconst (v := 0) dX8_readText_1 (by decide) ?_
  refine j_puti dX8_readText_2 hB fp_X8_readText_128 (by first | exact h0.1 | exact h0.2.1 | exact h0.2.2.1 | exact h0.2.2.2.1 | exact h0.2.2.2.2.1 | exact h0.2.2.2.2.2.1 | exact h0.2.2.2.2.2.2.1 | exact h0.2.2.2.2.2.2.2.1 | exact h0.2.2.2.2.2.2.2.2) (by rfl) ?_
  generalize hV1 : jset V q 13 0 = V1
  have n0 : isI (V1 q 13) ((0 : Nat) : Int) := by rw [← hV1, jset_eq]; rfl
  refine j_aload_n dX8_readText_5 rfl ?_
  refine j_cVu dX8_readText_6 hB mo_X8_beginEntry ml_X8_145 (sp_X8_beginEntry hB h0 n0 (by omega)) (by first | exact h0.1 | exact h0.2.1 | exact h0.2.2.1 | exact h0.2.2.2.1 | exact h0.2.2.2.2.1 | exact h0.2.2.2.2.2.1 | exact h0.2.2.2.2.2.2.1 | exact h0.2.2.2.2.2.2.2.1 | exact h0.2.2.2.2.2.2.2.2) rfl rfl rfl rfl ⟨rfl, rfl, by decide, by decide⟩ (Nat.le_of_ble_eq_true rfl) ⟨by decide, by decide⟩ (fun V_6 h_6 => ?_)
  refine j_iconst (v := 0) dX8_readText_9 (by decide) ?_
  refine j_istore_n (L' := [(0, _), (1, _)]) dX8_readText_10 (by decide) rfl ?_
  refine loop x.2.2.length 0 0 r0 0 V_6 rfl (by omega) ?_ rInv_0 (by rw [List.drop_zero, Nat.zero_add]) ?_
  · subst h_6
    refine mRd.r0 ?_ ?_ ?_ ?_ ?_ ?_ ?_
    · rw [jset_row (by omega), jset_row (by omega), jset_row (by omega), jset_row (by omega), jset_ne (Or.inr (by omega)), jset_ne (Or.inr (by omega))]; exact n0
    · rw [jset_row (by omega), jset_row (by omega), jset_row (by omega), jset_row (by omega), jset_ne (Or.inr (by omega)), jset_eq]
    · rw [jset_row (by omega), jset_row (by omega), jset_row (by omega), jset_row (by omega), jset_eq]
    · rw [jset_ne (Or.inr (by omega)), jset_ne (Or.inr (by omega)), jset_ne (Or.inr (by omega)), jset_eq]
    · rw [jset_ne (Or.inr (by omega)), jset_ne (Or.inr (by omega)), jset_eq]
    · rw [jset_ne (Or.inr (by omega)), jset_eq]
    · rw [jset_eq]
  · subst h_6
    rw [← hV1]
    exact ((((((mKp.rf.sf (by omega)).sf (by omega)).sf (by omega)).s8).s8).s8).s8
set_option maxRecDepth 100000 in
set_option maxHeartbeats 4000000 in
theorem sp_X8_firstError (hB : jB l s0 D) {q : Nat} (h0 : moT T q) {x : aX} (h : moIs T V q x) (hW : xW x)  : Sp l s0 D kX8_firstError (jR 5 0 0) 0 0 [.ref q] T V X sz (mC T V X sz q (0) (fun y => isI y (v_err x)) x (x)) := by
  refine Sp.of pn_X8_firstError rfl (Nat.le_of_ble_eq_true rfl) ?_
  refine j_aload_n dX8_firstError_0 rfl ?_
  refine j_iconst (v := 0) dX8_firstError_1 (by decide) ?_
  refine j_puti dX8_firstError_2 hB fp_X8_firstError_34 (by first | exact h0.1 | exact h0.2.1 | exact h0.2.2.1 | exact h0.2.2.2.1 | exact h0.2.2.2.2.1 | exact h0.2.2.2.2.2.1 | exact h0.2.2.2.2.2.2.1 | exact h0.2.2.2.2.2.2.2.1 | exact h0.2.2.2.2.2.2.2.2) (by rfl) ?_
  generalize hV1 : jset V q 0 0 = V1
  have t1 : isI (V1 q 0) 0 := by rw [← hV1, jset_eq]; decide
  have a1 : jAg V V1 q (q + 9) := by rw [← hV1]; exact jAg.rf.set (by omega) (by omega)
  have h1 : moIs T V1 q x := by rw [← hV1]; exact h.f (by decide) (by decide)
  refine j_aload_n dX8_firstError_5 rfl ?_
  refine j_cVi dX8_firstError_6 hB mo_X8_readText ml_X8_154 (sp_X8_readText hB h0 h1 hW) (by first | exact h0.1 | exact h0.2.1 | exact h0.2.2.1 | exact h0.2.2.2.1 | exact h0.2.2.2.2.1 | exact h0.2.2.2.2.2.1 | exact h0.2.2.2.2.2.2.1 | exact h0.2.2.2.2.2.2.2.1 | exact h0.2.2.2.2.2.2.2.2) rfl rfl rfl rfl ⟨rfl, rfl, by decide, by decide⟩ (Nat.le_of_ble_eq_true rfl) ⟨by decide, by decide⟩ (fun r_6 V_6 h_6 => ?_)
  obtain ⟨h_6, hk9, -⟩ := h_6
  refine j_iret dX8_firstError_9 rfl (rfl) (by decide) (by decide) ?_
  exact mC.ret rfl (a1.tr hk9.ja) (by rw [hk9.2.2.2.2 0 (by omega)]; exact t1) h_6 (h1.kp hk9)
set_option maxRecDepth 100000 in
set_option maxHeartbeats 4000000 in
theorem sp_X8_canBring (hB : jB l s0 D) {q : Nat} (h0 : moT T q) {r : Int32} {z : Nat} (hz : r.toInt = z) (z3 : z < 3) {x : aX} (h : moIs T V q x) (hW : xW x) {n k : Nat} (hr9 : mRd V q (xT x) n k) (hn30 : n ≤ 30) : Sp l s0 D kX8_canBring (jR 2 0 0) 0 0 [.ref q, .int r] T V X sz (qI T X sz (fun y V' => V = V' ∧ bQ y (((xR x r).1.length : Int) + (xT x).1.length ≤ 10 ∧ ∀ i7 : Nat, i7 < (xT x).1.length → atZ (xT x).2.1 i7 = NN ∨ pcOk x.1 (atZ (xT x).2.1 i7)))) := by
  refine Sp.of pn_X8_canBring rfl (Nat.le_of_ble_eq_true rfl) ?_
  have hr := h.r hz z3
  have hrl : rlW x.1 (xR x r) := hW.1.r _
  have h10 : (xR x r).1.length ≤ 10 := hrl.2.2.2.1
  have g1 := hr9.1
  have g2 := hr9.2.1
  have g4 := hr9.2.2.2.1
  have loop : ∀ (n9 j : Nat) (i y : Int32), j + n9 = (xT x).1.length → i.toInt = j → bQ y (((xR x r).1.length : Int) + (xT x).1.length ≤ 10 ∧ ∀ i7 : Nat, i7 < j → atZ (xT x).2.1 i7 = NN ∨ pcOk x.1 (atZ (xT x).2.1 i7)) → J l s0 D kX8_canBring (jR 2 0 0) 0 0 (qI T X sz (fun y V' => V = V' ∧ bQ y (((xR x r).1.length : Int) + (xT x).1.length ≤ 10 ∧ ∀ i7 : Nat, i7 < (xT x).1.length → atZ (xT x).2.1 i7 = NN ∨ pcOk x.1 (atZ (xT x).2.1 i7)))) 23 [(0, .ref q), (1, .int r), (2, .int y), (3, .int i)] [] T V X sz 0 0 := by
    intro n9
    refine Nat.strongRecOn n9 ?_
    clear n9
    intro n9 ih j i y hn hi hy
    refine j_iload_n dX8_canBring_23 rfl ?_
    refine j_aload_n dX8_canBring_24 rfl ?_
    refine j_geti dX8_canBring_25 hB fl_X8_128 (by first | exact h0.1 | exact h0.2.1 | exact h0.2.2.1 | exact h0.2.2.2.1 | exact h0.2.2.2.2.1 | exact h0.2.2.2.2.2.1 | exact h0.2.2.2.2.2.2.1 | exact h0.2.2.2.2.2.2.2.1 | exact h0.2.2.2.2.2.2.2.2) (by rfl) ?_
    refine m_icmp_gt (tgt := 79) dX8_canBring_28 (by decide) (hi) (g2) (fun c_28 => ?_) (fun c_28 => ?_)
    · refine j_iload_n dX8_canBring_79 rfl ?_
      refine j_iret dX8_canBring_80 rfl (by first | decide | exact m_nrB (by assumption)) (by decide) (by decide) ?_
      exact ⟨_, rfl, rfl, rfl, rfl, rfl, hy.cg ⟨fun z9 => ⟨z9.1, fun i7 h7 => z9.2 i7 (by omega)⟩, fun z9 => ⟨z9.1, fun i7 h7 => z9.2 i7 (by omega)⟩⟩⟩
    · have hpe := (g4 j (by omega)).2.1
      have hp1 : isI (V (q + 8) (4 * j + 1)) (atZ (xT x).2.1 j).toInt := congrArg Int32.toInt hpe
      refine j_iload_n dX8_canBring_31 rfl ?_
      refine m_ifeqB (tgt := 71) dX8_canBring_32 (by decide) hy (fun c_32 => ?_) (fun c_32 => ?_)
      · refine j_iconst (v := 0) dX8_canBring_71 (by decide) ?_
        refine j_istore_n (L' := [(0, _), (1, _), (2, _), (3, _)]) dX8_canBring_72 (by decide) rfl ?_
        refine j_iinc (v := 1) (L' := [(0, _), (1, _), (2, _), (3, _)]) dX8_canBring_73 rfl (by decide) (by decide) rfl ?_
        refine j_goto (tgt := 23) dX8_canBring_76 (by decide) ?_
        refine ih (n9 - 1) (by omega) (j + 1) _ _ (by omega) ?_ ?_
        · exact (ixk (k := j + 1) (iA (hi) (iC 1 (by decide)) (by omega)) (by omega))
        · exact Or.inr ⟨rfl, fun z9 => c_32 ⟨z9.1, fun j9 h9 => z9.2 j9 (by omega)⟩⟩
      · refine j_aload_n dX8_canBring_35 rfl ?_
        refine j_getr dX8_canBring_36 hB fl_X8_31 (by first | exact h0.1 | exact h0.2.1 | exact h0.2.2.1 | exact h0.2.2.2.1 | exact h0.2.2.2.2.1 | exact h0.2.2.2.2.2.1 | exact h0.2.2.2.2.2.2.1 | exact h0.2.2.2.2.2.2.2.1 | exact h0.2.2.2.2.2.2.2.2) (by rfl) ?_
        refine j_iconst (v := 4) dX8_canBring_39 (by decide) ?_
        refine j_iload_n dX8_canBring_40 rfl ?_
        refine j_imul dX8_canBring_41 ?_
        refine j_iconst (v := 1) dX8_canBring_42 (by decide) ?_
        refine j_iadd dX8_canBring_43 ?_
        refine m_iald (k := 4 * j + 1) dX8_canBring_44 hB (by first | exact h0.1 | exact h0.2.1 | exact h0.2.2.1 | exact h0.2.2.2.1 | exact h0.2.2.2.2.1 | exact h0.2.2.2.2.2.1 | exact h0.2.2.2.2.2.2.1 | exact h0.2.2.2.2.2.2.2.1 | exact h0.2.2.2.2.2.2.2.2) (ixk (iA (iM (iC 4 (by decide)) (hi) (by omega)) (iC 1 (by decide)) (by omega)) (by omega)) (by omega) ?_
        refine j_ldc dX8_canBring_45 hB kc_X8_62 ?_
        refine m_icmp_eq (tgt := 67) dX8_canBring_47 (by decide) (hp1) (iC (-2000001) (by decide)) (fun c_47 => ?_) (fun c_47 => ?_)
        · refine j_iconst (v := 1) dX8_canBring_67 (by decide) ?_
          refine j_goto (tgt := 72) dX8_canBring_68 (by decide) ?_
          refine j_istore_n (L' := [(0, _), (1, _), (2, _), (3, _)]) dX8_canBring_72 (by decide) rfl ?_
          refine j_iinc (v := 1) (L' := [(0, _), (1, _), (2, _), (3, _)]) dX8_canBring_73 rfl (by decide) (by decide) rfl ?_
          refine j_goto (tgt := 23) dX8_canBring_76 (by decide) ?_
          refine ih (n9 - 1) (by omega) (j + 1) _ _ (by omega) ?_ ?_
          · exact (ixk (k := j + 1) (iA (hi) (iC 1 (by decide)) (by omega)) (by omega))
          · exact Or.inl ⟨rfl, c_32.1, fun j9 h9 => (Nat.lt_or_ge j9 j).elim (fun g => c_32.2 j9 g) (fun g => by rw [show j9 = j by omega]; exact Or.inl (ti_inj (by rw [c_47]; decide)))⟩
        · refine j_aload_n dX8_canBring_50 rfl ?_
          refine j_aload_n dX8_canBring_51 rfl ?_
          refine j_getr dX8_canBring_52 hB fl_X8_31 (by first | exact h0.1 | exact h0.2.1 | exact h0.2.2.1 | exact h0.2.2.2.1 | exact h0.2.2.2.2.1 | exact h0.2.2.2.2.2.1 | exact h0.2.2.2.2.2.2.1 | exact h0.2.2.2.2.2.2.2.1 | exact h0.2.2.2.2.2.2.2.2) (by rfl) ?_
          refine j_iconst (v := 4) dX8_canBring_55 (by decide) ?_
          refine j_iload_n dX8_canBring_56 rfl ?_
          refine j_imul dX8_canBring_57 ?_
          refine j_iconst (v := 1) dX8_canBring_58 (by decide) ?_
          refine j_iadd dX8_canBring_59 ?_
          refine m_iald (k := 4 * j + 1) dX8_canBring_60 hB (by first | exact h0.1 | exact h0.2.1 | exact h0.2.2.1 | exact h0.2.2.2.1 | exact h0.2.2.2.2.1 | exact h0.2.2.2.2.2.1 | exact h0.2.2.2.2.2.2.1 | exact h0.2.2.2.2.2.2.2.1 | exact h0.2.2.2.2.2.2.2.2) (ixk (iA (iM (iC 4 (by decide)) (hi) (by omega)) (iC 1 (by decide)) (by omega)) (by omega)) (by omega) ?_
          refine j_cVi dX8_canBring_61 hB mo_X8_isPiece ml_X8_110 (sp_X8_isPiece hB h0 h hW.1.2.2.1) (by first | exact h0.1 | exact h0.2.1 | exact h0.2.2.1 | exact h0.2.2.2.1 | exact h0.2.2.2.2.1 | exact h0.2.2.2.2.2.1 | exact h0.2.2.2.2.2.2.1 | exact h0.2.2.2.2.2.2.2.1 | exact h0.2.2.2.2.2.2.2.2) rfl rfl rfl rfl ⟨rfl, rfl, by decide, by decide⟩ (Nat.le_of_ble_eq_true rfl) ⟨by decide, by decide⟩ (fun r_61 V_61 h_61 => ?_)
          obtain ⟨rfl, b_61⟩ := h_61
          rw [hpe] at b_61
          refine m_ifeqB (tgt := 71) dX8_canBring_64 (by decide) b_61 (fun c_64 => ?_) (fun c_64 => ?_)
          · refine j_iconst (v := 0) dX8_canBring_71 (by decide) ?_
            refine j_istore_n (L' := [(0, _), (1, _), (2, _), (3, _)]) dX8_canBring_72 (by decide) rfl ?_
            refine j_iinc (v := 1) (L' := [(0, _), (1, _), (2, _), (3, _)]) dX8_canBring_73 rfl (by decide) (by decide) rfl ?_
            refine j_goto (tgt := 23) dX8_canBring_76 (by decide) ?_
            refine ih (n9 - 1) (by omega) (j + 1) _ _ (by omega) ?_ ?_
            · exact (ixk (k := j + 1) (iA (hi) (iC 1 (by decide)) (by omega)) (by omega))
            · exact Or.inr ⟨rfl, fun z9 => (z9.2 j (by omega)).elim (fun e => c_47 (by rw [e]; decide)) c_64⟩
          · refine j_iconst (v := 1) dX8_canBring_67 (by decide) ?_
            refine j_goto (tgt := 72) dX8_canBring_68 (by decide) ?_
            refine j_istore_n (L' := [(0, _), (1, _), (2, _), (3, _)]) dX8_canBring_72 (by decide) rfl ?_
            refine j_iinc (v := 1) (L' := [(0, _), (1, _), (2, _), (3, _)]) dX8_canBring_73 rfl (by decide) (by decide) rfl ?_
            refine j_goto (tgt := 23) dX8_canBring_76 (by decide) ?_
            refine ih (n9 - 1) (by omega) (j + 1) _ _ (by omega) ?_ ?_
            · exact (ixk (k := j + 1) (iA (hi) (iC 1 (by decide)) (by omega)) (by omega))
            · exact Or.inl ⟨rfl, c_32.1, fun j9 h9 => (Nat.lt_or_ge j9 j).elim (fun g => c_32.2 j9 g) (fun g => by rw [show j9 = j by omega]; exact Or.inr c_64)⟩
  refine j_aload_n dX8_canBring_0 rfl ?_
  refine j_iload_n dX8_canBring_1 rfl ?_
  refine j_cVi dX8_canBring_2 hB mo_X8_scenes ml_X8_46 (sp_X8_scenes hB h0 (ixk (k := z) (hz) (by omega)) z3) (by first | exact h0.1 | exact h0.2.1 | exact h0.2.2.1 | exact h0.2.2.2.1 | exact h0.2.2.2.2.1 | exact h0.2.2.2.2.2.1 | exact h0.2.2.2.2.2.2.1 | exact h0.2.2.2.2.2.2.2.1 | exact h0.2.2.2.2.2.2.2.2) rfl rfl rfl rfl ⟨rfl, rfl, by decide, by decide⟩ (Nat.le_of_ble_eq_true rfl) ⟨by decide, by decide⟩ (fun r_2 V_2 h_2 => ?_)
  obtain ⟨rfl, h_2⟩ := h_2
  subst h_2
  refine j_aload_n dX8_canBring_5 rfl ?_
  refine j_geti dX8_canBring_6 hB fl_X8_128 (by first | exact h0.1 | exact h0.2.1 | exact h0.2.2.1 | exact h0.2.2.2.1 | exact h0.2.2.2.2.1 | exact h0.2.2.2.2.2.1 | exact h0.2.2.2.2.2.2.1 | exact h0.2.2.2.2.2.2.2.1 | exact h0.2.2.2.2.2.2.2.2) (by rfl) ?_
  refine j_iadd dX8_canBring_9 ?_
  refine j_bipush (v := 10) dX8_canBring_10 (by decide) ?_
  refine m_icmp_ge (tgt := 19) dX8_canBring_12 (by decide) (iA (hr.1) (g2) (by omega)) (iC 10 (by decide)) (fun c_12 => ?_) (fun c_12 => ?_)
  · refine j_iconst (v := 0) dX8_canBring_19 (by decide) ?_
    refine j_istore_n (L' := [(0, _), (1, _), (2, _)]) dX8_canBring_20 (by decide) rfl ?_
    refine j_iconst (v := 0) dX8_canBring_21 (by decide) ?_
    refine j_istore_n (L' := [(0, _), (1, _), (2, _), (3, _)]) dX8_canBring_22 (by decide) rfl ?_
    exact loop (xT x).1.length 0 0 _ (by omega) rfl (Or.inr ⟨rfl, fun z9 => by have := z9.1; omega⟩)
  · refine j_iconst (v := 1) dX8_canBring_15 (by decide) ?_
    refine j_goto (tgt := 20) dX8_canBring_16 (by decide) ?_
    refine j_istore_n (L' := [(0, _), (1, _), (2, _)]) dX8_canBring_20 (by decide) rfl ?_
    refine j_iconst (v := 0) dX8_canBring_21 (by decide) ?_
    refine j_istore_n (L' := [(0, _), (1, _), (2, _), (3, _)]) dX8_canBring_22 (by decide) rfl ?_
    exact loop (xT x).1.length 0 0 _ (by omega) rfl (Or.inl ⟨rfl, by omega, fun j9 h9 => absurd h9 (Nat.not_lt_zero _)⟩)
end JM16
