/-! CueSheetsModel: load -/
theorem atZ_take {L : List Int32} {k i : Nat} (h : i < k) : atZ (L.take k) i = atZ L i := by
  rw [atZ_nat, atZ_nat, List.getD_eq_getElem?_getD, List.getD_eq_getElem?_getD, List.getElem?_take, if_pos h]
/-- the first scenes that were read, behind a reel's -/
theorem rTk_W {x : aX} {r : Int32} (hW : xW x) (hA : ldA x) (hBx : ldB x r) (k : Nat) : rlW x.1 (rTk (xR x r) (xT x) k) := by
  have hrl : rlW x.1 (xR x r) := hW.r r
  have hv : rInv (xT x) (0 + (rdL r0 x.2.2).1) := rdL_inv rInv_0 x.2.2
  obtain ⟨n, l1, l2, l3, l4, he, -⟩ := hv.comp hA.2
  have h1 := hBx.1
  unfold rTk
  refine hrl.app ?_ ?_ ?_ ?_ (fun x9 hx => ?_) (fun i hi => ?_)
  · rw [List.length_take]; omega
  · rw [List.length_take, List.length_take]; omega
  · rw [List.length_take, List.length_take]; omega
  · rw [List.length_take, List.length_take]; omega
  · obtain ⟨j, hj, rfl⟩ := List.getElem_of_mem (List.mem_of_mem_take hx)
    have := he j (by omega)
    rw [atZ_nat, List.getD_eq_getElem?_getD, List.getElem?_eq_getElem hj] at this
    exact ⟨this.1, this.2.1⟩
  · rw [List.length_take] at hi
    have hik : i < k := by omega
    rw [atZ_take hik, atZ_take hik, atZ_take hik]
    have e1 := he i (by omega)
    have e2 := hBx.2 i (by omega)
    rcases e1.2.2 with ⟨a, b, c⟩ | ⟨a, a2, b, c⟩
    · exact Or.inl ⟨a, b, c⟩
    · rcases e2 with e2 | e2
      · rw [e2] at a; exact absurd a (by decide)
      · exact Or.inr ⟨e2.1, e2.2, b, c.1, c.2.1, c.2.2⟩
theorem mRd.cg {V V' : jV} {q n k : Nat} {t : tR} (h : mRd V q t n k) (e8 : V' (q + 8) = V (q + 8)) (e1 : V' q 11 = V q 11) (e2 : V' q 12 = V q 12) (e3 : V' q 13 = V q 13) : mRd V' q t n k := by
  unfold mRd
  rw [e8, e1, e2, e3]
  exact h
section JM18
variable {l : Launch} {s0 : State} {D : jD} {T : jT} {V : jV} {X : jX} {sz : Nat}
set_option maxRecDepth 100000 in
set_option maxHeartbeats 4000000 in
theorem sp_X8_load (hB : jB l s0 D) {q : Nat} (h0 : moT T q) {x : aX} (h : moIs T V q x) (hW : xW x) {r : Int32} : Sp l s0 D kX8_load (jR 5 0 0) 0 0 [.ref q, .int r] T V X sz (mC T V X sz q (e_load x r) (fun y => isI y (v_load x r)) x (s_load x r)) := by
  refine Sp.of pn_X8_load rfl (Nat.le_of_ble_eq_true rfl) ?_
  refine j_iload_n dX8_load_0 rfl ?_
  refine j_cSi dX8_load_1 hB mo_X8_isReel ml_X8_42 (sp_X8_isReel hB) rfl rfl ⟨rfl, rfl, by decide, by decide⟩ (Nat.le_of_ble_eq_true rfl) ⟨by decide, by decide⟩ (fun r_1 V_1 h_1 => ?_)
  obtain ⟨rfl, b_1⟩ := h_1
  refine m_ifneB (tgt := 14) dX8_load_4 (by decide) b_1 (fun c_4 => ?_) (fun c_4 => ?_)
  · obtain ⟨z, hz, z3⟩ := rOk.z c_4
    have hr0 := h.r hz z3
    have hrl : rlW x.1 (xR x r) := hW.1.r r.toInt
    have h10 : (xR x r).1.length ≤ 10 := hrl.2.2.2.1
    refine j_aload_n dX8_load_14 rfl ?_
    refine j_cVi dX8_load_15 hB mo_X8_readText ml_X8_154 (sp_X8_readText hB h0 h hW) (by first | exact h0.1 | exact h0.2.1 | exact h0.2.2.1 | exact h0.2.2.2.1 | exact h0.2.2.2.2.1 | exact h0.2.2.2.2.2.1 | exact h0.2.2.2.2.2.2.1 | exact h0.2.2.2.2.2.2.2.1 | exact h0.2.2.2.2.2.2.2.2) rfl rfl rfl rfl ⟨rfl, rfl, by decide, by decide⟩ (Nat.le_of_ble_eq_true rfl) ⟨by decide, by decide⟩ (fun r_15 V_15 h_15 => ?_)
    obtain ⟨h_15, hk9, hr9⟩ := h_15
    have h15 : moIs T V_15 q x := h.kp hk9
    refine j_aload_n dX8_load_18 rfl ?_
    refine j_geti dX8_load_19 hB fl_X8_119 (by first | exact h0.1 | exact h0.2.1 | exact h0.2.2.1 | exact h0.2.2.2.1 | exact h0.2.2.2.2.1 | exact h0.2.2.2.2.2.1 | exact h0.2.2.2.2.2.2.1 | exact h0.2.2.2.2.2.2.2.1 | exact h0.2.2.2.2.2.2.2.2) (by rfl) ?_
    refine m_icmp_ne (tgt := 36) dX8_load_22 (by decide) (h_15) (h15.2.2.2.1) (fun c_22 => ?_) (fun c_22 => ?_)
    · refine j_iconst (v := 0) dX8_load_36 (by decide) ?_
      refine j_istore_n (L' := [(0, _), (1, _), (2, _)]) dX8_load_37 (by decide) rfl ?_
      refine j_aload_n dX8_load_38 rfl ?_
      refine j_iload_n dX8_load_39 rfl ?_
      refine m_if_ne (tgt := 47) dX8_load_40 (by decide) (iC 0 (by decide)) (fun c_40 => ?_) (fun c_40 => ?_)
      · exact absurd c_40 (by decide)
      · refine j_iconst (v := 2) dX8_load_43 (by decide) ?_
        refine j_goto (tgt := 60) dX8_load_44 (by decide) ?_
        refine j_puti dX8_load_60 hB fp_X8_load_34 (by first | exact h0.1 | exact h0.2.1 | exact h0.2.2.1 | exact h0.2.2.2.1 | exact h0.2.2.2.2.1 | exact h0.2.2.2.2.2.1 | exact h0.2.2.2.2.2.2.1 | exact h0.2.2.2.2.2.2.2.1 | exact h0.2.2.2.2.2.2.2.2) (by rfl) ?_
        generalize hV1 : jset V_15 q 0 2 = V1
        have t1 : isI (V1 q 0) 2 := by rw [← hV1, jset_eq]; decide
        have a1 : jAg V V1 q (q + 9) := by rw [← hV1]; exact hk9.ja.set (by omega) (by omega)
        have h1 : moIs T V1 q x := by rw [← hV1]; exact h15.f (by decide) (by decide)
        refine j_aload_n dX8_load_63 rfl ?_
        refine j_geti dX8_load_64 hB fl_X8_34 (by first | exact h0.1 | exact h0.2.1 | exact h0.2.2.1 | exact h0.2.2.2.1 | exact h0.2.2.2.2.1 | exact h0.2.2.2.2.2.1 | exact h0.2.2.2.2.2.2.1 | exact h0.2.2.2.2.2.2.2.1 | exact h0.2.2.2.2.2.2.2.2) (by rfl) ?_
        refine m_if_le (tgt := 72) dX8_load_67 (by decide) (t1) (fun c_67 => ?_) (fun c_67 => ?_)
        · exact absurd c_67 (by decide)
        · refine j_iconst (v := 0) dX8_load_70 (by decide) ?_
          refine j_iret dX8_load_71 rfl (rfl) (by decide) (by decide) ?_
          exact mC.thr 1 (by show e_load x r = 2; unfold e_load; exact (if_neg (fun z => z c_4)).trans (if_neg (fun z => c_22 (by have := z.1; omega)))) a1 t1 rfl h1
    · have hall : (rdL r0 x.2.2).1 = x.2.2.length := by omega
      obtain ⟨m9, hm9⟩ := hr9 hall
      have hv9 : rInv (xT x) x.2.2.length := by
        have := rdL_inv rInv_0 x.2.2
        rw [hall, Nat.zero_add] at this
        exact this
      have hl60 := hW.2.2.2.1
      refine j_aload_n dX8_load_25 rfl ?_
      refine j_cVi dX8_load_26 hB mo_X8_isOver ml_X8_141 (sp_X8_isOver hB h0 hm9 hv9 hl60) (by first | exact h0.1 | exact h0.2.1 | exact h0.2.2.1 | exact h0.2.2.2.1 | exact h0.2.2.2.2.1 | exact h0.2.2.2.2.2.1 | exact h0.2.2.2.2.2.2.1 | exact h0.2.2.2.2.2.2.2.1 | exact h0.2.2.2.2.2.2.2.2) rfl rfl rfl rfl ⟨rfl, rfl, by decide, by decide⟩ (Nat.le_of_ble_eq_true rfl) ⟨by decide, by decide⟩ (fun r_26 V_26 h_26 => ?_)
      obtain ⟨rfl, b_26⟩ := h_26
      refine m_ifeqB (tgt := 36) dX8_load_29 (by decide) b_26 (fun c_29 => ?_) (fun c_29 => ?_)
      · refine j_iconst (v := 0) dX8_load_36 (by decide) ?_
        refine j_istore_n (L' := [(0, _), (1, _), (2, _)]) dX8_load_37 (by decide) rfl ?_
        refine j_aload_n dX8_load_38 rfl ?_
        refine j_iload_n dX8_load_39 rfl ?_
        refine m_if_ne (tgt := 47) dX8_load_40 (by decide) (iC 0 (by decide)) (fun c_40 => ?_) (fun c_40 => ?_)
        · exact absurd c_40 (by decide)
        · refine j_iconst (v := 2) dX8_load_43 (by decide) ?_
          refine j_goto (tgt := 60) dX8_load_44 (by decide) ?_
          refine j_puti dX8_load_60 hB fp_X8_load_34 (by first | exact h0.1 | exact h0.2.1 | exact h0.2.2.1 | exact h0.2.2.2.1 | exact h0.2.2.2.2.1 | exact h0.2.2.2.2.2.1 | exact h0.2.2.2.2.2.2.1 | exact h0.2.2.2.2.2.2.2.1 | exact h0.2.2.2.2.2.2.2.2) (by rfl) ?_
          generalize hV1 : jset V_15 q 0 2 = V1
          have t1 : isI (V1 q 0) 2 := by rw [← hV1, jset_eq]; decide
          have a1 : jAg V V1 q (q + 9) := by rw [← hV1]; exact hk9.ja.set (by omega) (by omega)
          have h1 : moIs T V1 q x := by rw [← hV1]; exact h15.f (by decide) (by decide)
          refine j_aload_n dX8_load_63 rfl ?_
          refine j_geti dX8_load_64 hB fl_X8_34 (by first | exact h0.1 | exact h0.2.1 | exact h0.2.2.1 | exact h0.2.2.2.1 | exact h0.2.2.2.2.1 | exact h0.2.2.2.2.2.1 | exact h0.2.2.2.2.2.2.1 | exact h0.2.2.2.2.2.2.2.1 | exact h0.2.2.2.2.2.2.2.2) (by rfl) ?_
          refine m_if_le (tgt := 72) dX8_load_67 (by decide) (t1) (fun c_67 => ?_) (fun c_67 => ?_)
          · exact absurd c_67 (by decide)
          · refine j_iconst (v := 0) dX8_load_70 (by decide) ?_
            refine j_iret dX8_load_71 rfl (rfl) (by decide) (by decide) ?_
            exact mC.thr 1 (by show e_load x r = 2; unfold e_load; exact (if_neg (fun z => z c_4)).trans (if_neg (fun z => c_29 z.2))) a1 t1 rfl h1
      · have hA : ldA x := ⟨hall, c_29⟩
        obtain ⟨m, l1, l2, l3, l4, -, l5⟩ := hv9.comp c_29
        have hmm : m = m9 := by have := hm9.1; omega
        subst hmm
        refine j_iconst (v := 1) dX8_load_32 (by decide) ?_
        refine j_goto (tgt := 37) dX8_load_33 (by decide) ?_
        refine j_istore_n (L' := [(0, _), (1, _), (2, _)]) dX8_load_37 (by decide) rfl ?_
        refine j_aload_n dX8_load_38 rfl ?_
        refine j_iload_n dX8_load_39 rfl ?_
        refine m_if_ne (tgt := 47) dX8_load_40 (by decide) (iC 1 (by decide)) (fun c_40 => ?_) (fun c_40 => ?_)
        · refine j_aload_n dX8_load_47 rfl ?_
          refine j_iload_n dX8_load_48 rfl ?_
          refine j_cVi dX8_load_49 hB mo_X8_canBring ml_X8_158 (sp_X8_canBring hB h0 hz z3 h15 hW hm9 (by omega)) (by first | exact h0.1 | exact h0.2.1 | exact h0.2.2.1 | exact h0.2.2.2.1 | exact h0.2.2.2.2.1 | exact h0.2.2.2.2.2.1 | exact h0.2.2.2.2.2.2.1 | exact h0.2.2.2.2.2.2.2.1 | exact h0.2.2.2.2.2.2.2.2) rfl rfl rfl rfl ⟨rfl, rfl, by decide, by decide⟩ (Nat.le_of_ble_eq_true rfl) ⟨by decide, by decide⟩ (fun r_49 V_49 h_49 => ?_)
          obtain ⟨rfl, b_49⟩ := h_49
          replace b_49 : bQ r_49 (ldB x r) := b_49.cg ⟨fun z9 => ⟨by have := z9.1; omega, z9.2⟩, fun z9 => ⟨by have := z9.1; omega, z9.2⟩⟩
          refine m_ifeqB (tgt := 59) dX8_load_52 (by decide) b_49 (fun c_52 => ?_) (fun c_52 => ?_)
          · refine j_iconst (v := 3) dX8_load_59 (by decide) ?_
            refine j_puti dX8_load_60 hB fp_X8_load_34 (by first | exact h0.1 | exact h0.2.1 | exact h0.2.2.1 | exact h0.2.2.2.1 | exact h0.2.2.2.2.1 | exact h0.2.2.2.2.2.1 | exact h0.2.2.2.2.2.2.1 | exact h0.2.2.2.2.2.2.2.1 | exact h0.2.2.2.2.2.2.2.2) (by rfl) ?_
            generalize hV1 : jset V_15 q 0 3 = V1
            have t1 : isI (V1 q 0) 3 := by rw [← hV1, jset_eq]; decide
            have a1 : jAg V V1 q (q + 9) := by rw [← hV1]; exact hk9.ja.set (by omega) (by omega)
            have h1 : moIs T V1 q x := by rw [← hV1]; exact h15.f (by decide) (by decide)
            refine j_aload_n dX8_load_63 rfl ?_
            refine j_geti dX8_load_64 hB fl_X8_34 (by first | exact h0.1 | exact h0.2.1 | exact h0.2.2.1 | exact h0.2.2.2.1 | exact h0.2.2.2.2.1 | exact h0.2.2.2.2.2.1 | exact h0.2.2.2.2.2.2.1 | exact h0.2.2.2.2.2.2.2.1 | exact h0.2.2.2.2.2.2.2.2) (by rfl) ?_
            refine m_if_le (tgt := 72) dX8_load_67 (by decide) (t1) (fun c_67 => ?_) (fun c_67 => ?_)
            · exact absurd c_67 (by decide)
            · refine j_iconst (v := 0) dX8_load_70 (by decide) ?_
              refine j_iret dX8_load_71 rfl (rfl) (by decide) (by decide) ?_
              exact mC.thr 2 (by show e_load x r = 3; unfold e_load; exact (if_neg (fun z => z c_4)).trans ((if_pos hA).trans (if_neg c_52))) a1 t1 rfl h1
          · have hBx : ldB x r := c_52
            have hB1 := hBx.1
            refine j_iconst (v := 0) dX8_load_55 (by decide) ?_
            refine j_goto (tgt := 60) dX8_load_56 (by decide) ?_
            refine j_puti dX8_load_60 hB fp_X8_load_34 (by first | exact h0.1 | exact h0.2.1 | exact h0.2.2.1 | exact h0.2.2.2.1 | exact h0.2.2.2.2.1 | exact h0.2.2.2.2.2.1 | exact h0.2.2.2.2.2.2.1 | exact h0.2.2.2.2.2.2.2.1 | exact h0.2.2.2.2.2.2.2.2) (by rfl) ?_
            generalize hV1 : jset V_15 q 0 0 = V1
            have t1 : isI (V1 q 0) 0 := by rw [← hV1, jset_eq]; decide
            have a1 : jAg V V1 q (q + 9) := by rw [← hV1]; exact hk9.ja.set (by omega) (by omega)
            have h1 : moIs T V1 q x := by rw [← hV1]; exact h15.f (by decide) (by decide)
            refine j_aload_n dX8_load_63 rfl ?_
            refine j_geti dX8_load_64 hB fl_X8_34 (by first | exact h0.1 | exact h0.2.1 | exact h0.2.2.1 | exact h0.2.2.2.1 | exact h0.2.2.2.2.1 | exact h0.2.2.2.2.2.1 | exact h0.2.2.2.2.2.2.1 | exact h0.2.2.2.2.2.2.2.1 | exact h0.2.2.2.2.2.2.2.2) (by rfl) ?_
            refine m_if_le (tgt := 72) dX8_load_67 (by decide) (t1) (fun c_67 => ?_) (fun c_67 => ?_)
            · refine j_aload_n dX8_load_72 rfl ?_
              refine j_cVu dX8_load_73 hB mo_X8_save ml_X8_91 (sp_X8_save hB h0 h1 hW) (by first | exact h0.1 | exact h0.2.1 | exact h0.2.2.1 | exact h0.2.2.2.1 | exact h0.2.2.2.2.1 | exact h0.2.2.2.2.2.1 | exact h0.2.2.2.2.2.2.1 | exact h0.2.2.2.2.2.2.2.1 | exact h0.2.2.2.2.2.2.2.2) rfl rfl rfl rfl ⟨rfl, rfl, by decide, by decide⟩ (Nat.le_of_ble_eq_true rfl) ⟨by decide, by decide⟩ (fun V_73 h_73 => ?_)
              obtain ⟨hS, eS, tS, aS, xS⟩ := h_73
              refine j_iconst (v := 0) dX8_load_76 (by decide) ?_
              refine j_istore_n (L' := [(0, _), (1, _), (2, _), (3, _)]) dX8_load_77 (by decide) rfl ?_
              have loop : ∀ (n j : Nat) (i : Int32) (V3 : jV), j + n = (xT x).1.length → i.toInt = j → moIs T V3 q (sSet x.1 r.toInt (rTk (xR x r) (xT x) j), xPush x, x.2.2) → mRd V3 q (xT x) m x.2.2.length → jAg V V3 q (q + 9) → isI (V3 q 0) 0 → J l s0 D kX8_load (jR 5 0 0) 0 0 (mC T V X sz q (e_load x r) (fun y => isI y (v_load x r)) x (s_load x r)) 78 [(0, .ref q), (1, .int r), (2, .int 1), (3, .int i)] [] T V3 X sz 0 0 := by
                intro n
                refine Nat.strongRecOn n ?_
                clear n
                intro n ih j i V3 hn hi hm hr ha ht
                have g2 : isI (V3 q 13) ((xT x).1.length - 1 : Nat) := by rw [hr.1]; exact hr.2.1
                have hrj : rlW x.1 (rTk (xR x r) (xT x) j) := rTk_W hW hA hBx j
                have hx1 : xR (sSet x.1 r.toInt (rTk (xR x r) (xT x) j), xPush x, x.2.2) r = (rTk (xR x r) (xT x) j) := sR_set
                have hlj : (rTk (xR x r) (xT x) j).1.length = (xR x r).1.length + min j (xT x).1.length := by
                  show ((xR x r).1 ++ (xT x).1.take j).length = _
                  rw [List.length_append, List.length_take]
                refine j_iload_n dX8_load_78 rfl ?_
                refine j_aload_n dX8_load_79 rfl ?_
                refine j_geti dX8_load_80 hB fl_X8_128 (by first | exact h0.1 | exact h0.2.1 | exact h0.2.2.1 | exact h0.2.2.2.1 | exact h0.2.2.2.2.1 | exact h0.2.2.2.2.2.1 | exact h0.2.2.2.2.2.2.1 | exact h0.2.2.2.2.2.2.2.1 | exact h0.2.2.2.2.2.2.2.2) (by rfl) ?_
                refine m_icmp_gt (tgt := 135) dX8_load_83 (by decide) (hi) (g2) (fun c_83 => ?_) (fun c_83 => ?_)
                · refine j_aload_n dX8_load_135 rfl ?_
                  refine j_iconst (v := 0) dX8_load_136 (by decide) ?_
                  refine j_puti dX8_load_137 hB fp_X8_load_119 (by first | exact h0.1 | exact h0.2.1 | exact h0.2.2.1 | exact h0.2.2.2.1 | exact h0.2.2.2.2.1 | exact h0.2.2.2.2.2.1 | exact h0.2.2.2.2.2.2.1 | exact h0.2.2.2.2.2.2.2.1 | exact h0.2.2.2.2.2.2.2.2) (by rfl) ?_
                  have hjm : (rTk (xR x r) (xT x) j) = rApp (xR x r) (xT x) := by
                    unfold rTk rApp
                    rw [List.take_of_length_le (by omega), List.take_of_length_le (by omega), List.take_of_length_le (by omega), List.take_of_length_le (by omega)]
                  rw [hjm] at hm
                  generalize hV4 : jset V3 q 4 0 = V4
                  have hm4 : moIs T V4 q (s_load x r) := by
                    obtain ⟨g1, g2, g3, g4, g5⟩ := hm
                    have r1 : V4 (q + 1) = V3 (q + 1) := by rw [← hV4, jset_row (by omega)]
                    have r2 : V4 (q + 2) = V3 (q + 2) := by rw [← hV4, jset_row (by omega)]
                    have r3 : V4 q 2 = V3 q 2 := by rw [← hV4, jset_ne (Or.inr (by omega))]
                    exact ⟨g1, by rw [r1]; exact g2, by rw [r2, r3]; exact g3, by rw [← hV4, jset_eq]; rfl, fun k d hk => by cases hk⟩
                  have hr4 : zRl (V4 (q + 1)) (67 * z) (rApp (xR x r) (xT x)) := by
                    have := hm4.r hz z3
                    rw [show xR (s_load x r) r = rApp (xR x r) (xT x) from sR_set] at this
                    exact this
                  have hl4 : (rApp (xR x r) (xT x)).1.length = (xR x r).1.length + (xT x).1.length := List.length_append
                  refine j_aload_n dX8_load_140 rfl ?_
                  refine j_iload_n dX8_load_141 rfl ?_
                  refine j_cVi dX8_load_142 hB mo_X8_scenes ml_X8_46 (sp_X8_scenes hB h0 (ixk (k := z) (hz) (by omega)) z3) (by first | exact h0.1 | exact h0.2.1 | exact h0.2.2.1 | exact h0.2.2.2.1 | exact h0.2.2.2.2.1 | exact h0.2.2.2.2.2.1 | exact h0.2.2.2.2.2.2.1 | exact h0.2.2.2.2.2.2.2.1 | exact h0.2.2.2.2.2.2.2.2) rfl rfl rfl rfl ⟨rfl, rfl, by decide, by decide⟩ (Nat.le_of_ble_eq_true rfl) ⟨by decide, by decide⟩ (fun r_142 V_142 h_142 => ?_)
                  obtain ⟨rfl, h_142⟩ := h_142
                  subst h_142
                  refine j_iret dX8_load_145 rfl (rfl) (by decide) (by decide) ?_
                  exact mC.ret (by show e_load x r = 0; unfold e_load; exact (if_neg (fun z => z c_4)).trans ((if_pos hA).trans (if_pos hBx))) (by rw [← hV4]; exact ha.set (by omega) (by omega)) (by rw [← hV4, jset_ne (Or.inr (by omega))]; exact ht) (ixz (hr4.1) (by unfold v_load; omega)) hm4
                · refine j_aload_n dX8_load_86 rfl ?_
                  refine j_iload_n dX8_load_87 rfl ?_
                  refine j_aload_n dX8_load_88 rfl ?_
                  refine j_getr dX8_load_89 hB fl_X8_31 (by first | exact h0.1 | exact h0.2.1 | exact h0.2.2.1 | exact h0.2.2.2.1 | exact h0.2.2.2.2.1 | exact h0.2.2.2.2.2.1 | exact h0.2.2.2.2.2.2.1 | exact h0.2.2.2.2.2.2.2.1 | exact h0.2.2.2.2.2.2.2.2) (by rfl) ?_
                  refine j_iconst (v := 4) dX8_load_92 (by decide) ?_
                  refine j_iload_n dX8_load_93 rfl ?_
                  refine j_imul dX8_load_94 ?_
                  refine m_iald (k := 4 * j) dX8_load_95 hB (by first | exact h0.1 | exact h0.2.1 | exact h0.2.2.1 | exact h0.2.2.2.1 | exact h0.2.2.2.2.1 | exact h0.2.2.2.2.2.1 | exact h0.2.2.2.2.2.2.1 | exact h0.2.2.2.2.2.2.2.1 | exact h0.2.2.2.2.2.2.2.2) (ixk (iM (iC 4 (by decide)) (hi) (by omega)) (by omega)) (by omega) ?_
                  refine j_aload_n dX8_load_96 rfl ?_
                  refine j_getr dX8_load_97 hB fl_X8_31 (by first | exact h0.1 | exact h0.2.1 | exact h0.2.2.1 | exact h0.2.2.2.1 | exact h0.2.2.2.2.1 | exact h0.2.2.2.2.2.1 | exact h0.2.2.2.2.2.2.1 | exact h0.2.2.2.2.2.2.2.1 | exact h0.2.2.2.2.2.2.2.2) (by rfl) ?_
                  refine j_iconst (v := 4) dX8_load_100 (by decide) ?_
                  refine j_iload_n dX8_load_101 rfl ?_
                  refine j_imul dX8_load_102 ?_
                  refine j_iconst (v := 1) dX8_load_103 (by decide) ?_
                  refine j_iadd dX8_load_104 ?_
                  refine m_iald (k := 4 * j + 1) dX8_load_105 hB (by first | exact h0.1 | exact h0.2.1 | exact h0.2.2.1 | exact h0.2.2.2.1 | exact h0.2.2.2.2.1 | exact h0.2.2.2.2.2.1 | exact h0.2.2.2.2.2.2.1 | exact h0.2.2.2.2.2.2.2.1 | exact h0.2.2.2.2.2.2.2.2) (ixk (iA (iM (iC 4 (by decide)) (hi) (by omega)) (iC 1 (by decide)) (by omega)) (by omega)) (by omega) ?_
                  refine j_aload_n dX8_load_106 rfl ?_
                  refine j_getr dX8_load_107 hB fl_X8_31 (by first | exact h0.1 | exact h0.2.1 | exact h0.2.2.1 | exact h0.2.2.2.1 | exact h0.2.2.2.2.1 | exact h0.2.2.2.2.2.1 | exact h0.2.2.2.2.2.2.1 | exact h0.2.2.2.2.2.2.2.1 | exact h0.2.2.2.2.2.2.2.2) (by rfl) ?_
                  refine j_iconst (v := 4) dX8_load_110 (by decide) ?_
                  refine j_iload_n dX8_load_111 rfl ?_
                  refine j_imul dX8_load_112 ?_
                  refine j_iconst (v := 2) dX8_load_113 (by decide) ?_
                  refine j_iadd dX8_load_114 ?_
                  refine m_iald (k := 4 * j + 2) dX8_load_115 hB (by first | exact h0.1 | exact h0.2.1 | exact h0.2.2.1 | exact h0.2.2.2.1 | exact h0.2.2.2.2.1 | exact h0.2.2.2.2.2.1 | exact h0.2.2.2.2.2.2.1 | exact h0.2.2.2.2.2.2.2.1 | exact h0.2.2.2.2.2.2.2.2) (ixk (iA (iM (iC 4 (by decide)) (hi) (by omega)) (iC 2 (by decide)) (by omega)) (by omega)) (by omega) ?_
                  refine j_aload_n dX8_load_116 rfl ?_
                  refine j_getr dX8_load_117 hB fl_X8_31 (by first | exact h0.1 | exact h0.2.1 | exact h0.2.2.1 | exact h0.2.2.2.1 | exact h0.2.2.2.2.1 | exact h0.2.2.2.2.2.1 | exact h0.2.2.2.2.2.2.1 | exact h0.2.2.2.2.2.2.2.1 | exact h0.2.2.2.2.2.2.2.2) (by rfl) ?_
                  refine j_iconst (v := 4) dX8_load_120 (by decide) ?_
                  refine j_iload_n dX8_load_121 rfl ?_
                  refine j_imul dX8_load_122 ?_
                  refine j_iconst (v := 3) dX8_load_123 (by decide) ?_
                  refine j_iadd dX8_load_124 ?_
                  refine m_iald (k := 4 * j + 3) dX8_load_125 hB (by first | exact h0.1 | exact h0.2.1 | exact h0.2.2.1 | exact h0.2.2.2.1 | exact h0.2.2.2.2.1 | exact h0.2.2.2.2.2.1 | exact h0.2.2.2.2.2.2.1 | exact h0.2.2.2.2.2.2.2.1 | exact h0.2.2.2.2.2.2.2.2) (ixk (iA (iM (iC 4 (by decide)) (hi) (by omega)) (iC 3 (by decide)) (by omega)) (by omega)) (by omega) ?_
                  refine j_cVu dX8_load_126 hB mo_X8_bring ml_X8_94 (sp_X8_bring hB h0 hz z3 hm (hW.1.set hrj) (by rw [hx1]; omega)) (by first | exact h0.1 | exact h0.2.1 | exact h0.2.2.1 | exact h0.2.2.2.1 | exact h0.2.2.2.2.1 | exact h0.2.2.2.2.2.1 | exact h0.2.2.2.2.2.2.1 | exact h0.2.2.2.2.2.2.2.1 | exact h0.2.2.2.2.2.2.2.2) rfl rfl rfl rfl ⟨rfl, rfl, by decide, by decide⟩ (Nat.le_of_ble_eq_true rfl) ⟨by decide, by decide⟩ (fun V_126 h_126 => ?_)
                  obtain ⟨zB, aB⟩ := h_126
                  rw [hx1] at zB
                  have z5 : rExt (rTk (xR x r) (xT x) j) (V3 (q + 8) (4 * j)) (V3 (q + 8) (4 * j + 1)) (V3 (q + 8) (4 * j + 2)) (V3 (q + 8) (4 * j + 3)) = (rTk (xR x r) (xT x) (j + 1)) := by
                    have g4 := hr.2.2.2.1 j (by have := hr.1; omega)
                    have g40 : V3 (q + 8) (4 * j) = atZ (xT x).1 j := g4.1
                    rw [g40, g4.2.1, g4.2.2.1, g4.2.2.2]
                    show (_ ++ [_], _ ++ [_], _ ++ [_], _ ++ [_], _) = _
                    rw [show ((rTk (xR x r) (xT x) j)).1 = (xR x r).1 ++ (xT x).1.take j from rfl, show ((rTk (xR x r) (xT x) j)).2.1 = (xR x r).2.1 ++ (xT x).2.1.take j from rfl, show ((rTk (xR x r) (xT x) j)).2.2.1 = (xR x r).2.2.1 ++ (xT x).2.2.1.take j from rfl, show ((rTk (xR x r) (xT x) j)).2.2.2.1 = (xR x r).2.2.2.1 ++ (xT x).2.2.2.1.take j from rfl]
                    rw [app_tk (by omega), app_tk (by omega), app_tk (by omega), app_tk (by omega)]; rfl
                  rw [z5] at zB
                  have hm2 := hm.z aB zB
                  rw [show sSet ((sSet x.1 r.toInt (rTk (xR x r) (xT x) j), xPush x, x.2.2) : aX).1 r.toInt (rTk (xR x r) (xT x) (j + 1)) = sSet x.1 r.toInt (rTk (xR x r) (xT x) (j + 1)) from sSet_set] at hm2
                  refine j_iinc (v := 1) (L' := [(0, _), (1, _), (2, _), (3, _)]) dX8_load_129 rfl (by decide) (by decide) rfl ?_
                  refine j_goto (tgt := 78) dX8_load_132 (by decide) ?_
                  refine ih (n - 1) (by omega) (j + 1) _ _ (by omega) ?_ hm2 ?_ (ha.tr (aB.wide (by omega) (by omega))) ?_
                  · exact (ixk (k := j + 1) (iA (hi) (iC 1 (by decide)) (by omega)) (by omega))
                  · exact hr.cg (aB _ (by omega)) (by rw [aB q (by omega)]) (by rw [aB q (by omega)]) (by rw [aB q (by omega)])
                  · rw [aB q (by omega)]; exact ht
              have e0 : rTk (xR x r) (xT x) 0 = (xR x r) := by
                unfold rTk
                simp only [List.take_zero, List.append_nil]
              have e1 : sSet x.1 r.toInt (rTk (xR x r) (xT x) 0) = x.1 := by rw [e0]; unfold xR sSet sR; split <;> (try split) <;> rfl
              refine loop (xT x).1.length 0 0 V_73 (by omega) rfl ?_ ?_ (a1.tr aS) (by rw [tS]; exact t1)
              · rw [e1]; exact hS
              · exact hm9.cg (by rw [xS.1, ← hV1, jset_row (by omega)]) (by rw [xS.2 11 (by omega), ← hV1, jset_ne (Or.inr (by omega))]) (by rw [xS.2 12 (by omega), ← hV1, jset_ne (Or.inr (by omega))]) (by rw [xS.2 13 (by omega), ← hV1, jset_ne (Or.inr (by omega))])
            · exact absurd c_67 (by decide)
        · exact absurd c_40 (by decide)
  · refine j_aload_n dX8_load_7 rfl ?_
    refine j_iconst (v := 1) dX8_load_8 (by decide) ?_
    refine j_puti dX8_load_9 hB fp_X8_load_34 (by first | exact h0.1 | exact h0.2.1 | exact h0.2.2.1 | exact h0.2.2.2.1 | exact h0.2.2.2.2.1 | exact h0.2.2.2.2.2.1 | exact h0.2.2.2.2.2.2.1 | exact h0.2.2.2.2.2.2.2.1 | exact h0.2.2.2.2.2.2.2.2) (by rfl) ?_
    generalize hV1 : jset V q 0 1 = V1
    have t1 : isI (V1 q 0) 1 := by rw [← hV1, jset_eq]; decide
    have a1 : jAg V V1 q (q + 9) := by rw [← hV1]; exact jAg.rf.set (by omega) (by omega)
    have h1 : moIs T V1 q x := by rw [← hV1]; exact h.f (by decide) (by decide)
    refine j_iconst (v := 0) dX8_load_12 (by decide) ?_
    refine j_iret dX8_load_13 rfl (rfl) (by decide) (by decide) ?_
    exact mC.thr 0 (by show e_load x r = 1; unfold e_load; exact if_pos c_4) a1 t1 rfl h1
end JM18
