/-! CueSheets: readBuffer, firstError, load, undo -/
theorem sSet_set {s : aS} {z : Int} {r r' : aR} : sSet (sSet s z r) z r' = sSet s z r' := by
  unfold sSet
  by_cases e : z = 0
  · simp [e]
  · by_cases e1 : z = 1
    · simp [e1]
    · simp [e, e1]
/-- the first k scenes that were read stand behind a reel's -/
def rTk (rr : aR) (t : tR) (k : Nat) : aR := (rr.1 ++ t.1.take k, rr.2.1 ++ t.2.1.take k, rr.2.2.1 ++ t.2.2.1.take k, rr.2.2.2.1 ++ t.2.2.2.1.take k, rr.2.2.2.2)
theorem app_tk {A L : List Int32} {k : Nat} (h : k < L.length) : (A ++ L.take k) ++ [atZ L k] = A ++ L.take (k + 1) := by
  rw [List.append_assoc, atZ_nat, getD_take L k h]
section JCu5
variable {l : Launch} {s0 : State} {D : jD} {T : jT} {V : jV} {X : jX} {sz : Nat}
set_option maxRecDepth 100000 in
set_option maxHeartbeats 4000000 in
theorem sp_X7_readBuffer (hB : jB l s0 D) {q : Nat} {x : aX} (h : cuIs T V q x) (hW : xW x) : Sp l s0 D kX7_readBuffer (jR 5 0 0) 0 0 [.ref q] T V X sz (qI T X sz (fun r V' => r.toInt = (rdL r0 x.2.2).1 ∧ ((rdL r0 x.2.2).1 = x.2.2.length → rdOK T V' (q + 452) (xT x)) ∧ cuIs T V' q x ∧ jAg V V' (q + 452) (q + 452 + 9))) := by
  refine Sp.of pn_X7_readBuffer rfl (Nat.le_of_ble_eq_true rfl) ?_
  have hl60 := hW.2.2.2.1
  have loop : ∀ (n k : Nat) (i : Int32) (t : tR) (V1 : jV), i.toInt = k → k + n = x.2.2.length → rdOK T V1 (q + 452) t → rInv t k → rdL r0 x.2.2 = (k + (rdL t (x.2.2.drop k)).1, (rdL t (x.2.2.drop k)).2) → jAg V V1 (q + 452) (q + 452 + 9) → J l s0 D kX7_readBuffer (jR 5 0 0) 0 0 (qI T X sz (fun r V' => r.toInt = (rdL r0 x.2.2).1 ∧ ((rdL r0 x.2.2).1 = x.2.2.length → rdOK T V' (q + 452) (xT x)) ∧ cuIs T V' q x ∧ jAg V V' (q + 452) (q + 452 + 9))) 9 [(0, .ref q), (1, .int i)] [] T V1 X sz 0 0 := by
    intro n
    induction n with
    | zero =>
      intro k i t V1 hi hk hr hv he ha
      have hc := h.rd ha hr.k
      have hkl : k = x.2.2.length := by omega
      rw [hkl, List.drop_length] at he
      have he1 : (rdL r0 x.2.2).1 = x.2.2.length := by rw [he]; rfl
      have he2 : xT x = t := by unfold xT; rw [he]; rfl
      refine j_iload_n dX7_readBuffer_9 rfl ?_
      refine j_aload_n dX7_readBuffer_10 rfl ?_
      refine j_getr dX7_readBuffer_11 hB fl_X7_25 (by first | exact h.k | exact hs.1 | exact hr.1 | exact hr.2.1.1 | exact hr.2.2.1.1 | exact hr.2.2.2.1.1 | exact hr.2.2.2.2.1.1 | exact hr.2.2.2.2.2.1.1 | exact hr.2.2.2.2.2.2.1.1 | exact hs.2.2.2.2.1.1 | exact hs.2.2.2.2.2.1.1 | exact hs.2.2.2.2.2.2.1.1 | exact h.t0.2.2 | exact h.rk.1 | exact h.rk.2.1.1 | exact h.rk.2.2.1.1 | exact h.rk.2.2.2.1.1 | exact h.rk.2.2.2.2.1 | exact h.tk.1 | exact h.tk.2.1.1 | exact h.tk.2.2.1.1 | exact h.tk.2.2.2.1.1 | exact h.tk.2.2.2.2.1.1 | exact h.tk.2.2.2.2.2.1.1 | exact h.tk.2.2.2.2.2.2.1.1 | exact h.tk.2.2.2.2.2.2.2.1 | exact h.tk2.1 | exact h.b.1.1) (by rfl) ?_
      refine j_cVi dX7_readBuffer_14 hB mo_X3_size ml_X7_166 (sp_X3_size hB hc.b.1) (by first | exact h.k | exact hs.1 | exact hr.1 | exact hr.2.1.1 | exact hr.2.2.1.1 | exact hr.2.2.2.1.1 | exact hr.2.2.2.2.1.1 | exact hr.2.2.2.2.2.1.1 | exact hr.2.2.2.2.2.2.1.1 | exact hs.2.2.2.2.1.1 | exact hs.2.2.2.2.2.1.1 | exact hs.2.2.2.2.2.2.1.1 | exact h.t0.2.2 | exact h.rk.1 | exact h.rk.2.1.1 | exact h.rk.2.2.1.1 | exact h.rk.2.2.2.1.1 | exact h.rk.2.2.2.2.1 | exact h.tk.1 | exact h.tk.2.1.1 | exact h.tk.2.2.1.1 | exact h.tk.2.2.2.1.1 | exact h.tk.2.2.2.2.1.1 | exact h.tk.2.2.2.2.2.1.1 | exact h.tk.2.2.2.2.2.2.1.1 | exact h.tk.2.2.2.2.2.2.2.1 | exact h.tk2.1 | exact h.b.1.1) rfl rfl rfl rfl ⟨rfl, rfl, by decide, by decide⟩ (Nat.le_of_ble_eq_true rfl) ⟨by decide, by decide⟩ (fun r_14 V_14 h_14 => ?_)
      obtain ⟨rfl, hn⟩ := h_14
      rw [hc.b.2] at hn
      refine j_icmp_ge (tgt := 46) dX7_readBuffer_17 (by decide) (fun c_17 => ?_) (fun c_17 => ?_)
      · refine j_aload_n dX7_readBuffer_46 rfl ?_
        refine j_getr dX7_readBuffer_47 hB fl_X7_25 (by first | exact h.k | exact hs.1 | exact hr.1 | exact hr.2.1.1 | exact hr.2.2.1.1 | exact hr.2.2.2.1.1 | exact hr.2.2.2.2.1.1 | exact hr.2.2.2.2.2.1.1 | exact hr.2.2.2.2.2.2.1.1 | exact hs.2.2.2.2.1.1 | exact hs.2.2.2.2.2.1.1 | exact hs.2.2.2.2.2.2.1.1 | exact h.t0.2.2 | exact h.rk.1 | exact h.rk.2.1.1 | exact h.rk.2.2.1.1 | exact h.rk.2.2.2.1.1 | exact h.rk.2.2.2.2.1 | exact h.tk.1 | exact h.tk.2.1.1 | exact h.tk.2.2.1.1 | exact h.tk.2.2.2.1.1 | exact h.tk.2.2.2.2.1.1 | exact h.tk.2.2.2.2.2.1.1 | exact h.tk.2.2.2.2.2.2.1.1 | exact h.tk.2.2.2.2.2.2.2.1 | exact h.tk2.1 | exact h.b.1.1) (by rfl) ?_
        refine j_cVi dX7_readBuffer_50 hB mo_X3_size ml_X7_166 (sp_X3_size hB hc.b.1) (by first | exact h.k | exact hs.1 | exact hr.1 | exact hr.2.1.1 | exact hr.2.2.1.1 | exact hr.2.2.2.1.1 | exact hr.2.2.2.2.1.1 | exact hr.2.2.2.2.2.1.1 | exact hr.2.2.2.2.2.2.1.1 | exact hs.2.2.2.2.1.1 | exact hs.2.2.2.2.2.1.1 | exact hs.2.2.2.2.2.2.1.1 | exact h.t0.2.2 | exact h.rk.1 | exact h.rk.2.1.1 | exact h.rk.2.2.1.1 | exact h.rk.2.2.2.1.1 | exact h.rk.2.2.2.2.1 | exact h.tk.1 | exact h.tk.2.1.1 | exact h.tk.2.2.1.1 | exact h.tk.2.2.2.1.1 | exact h.tk.2.2.2.2.1.1 | exact h.tk.2.2.2.2.2.1.1 | exact h.tk.2.2.2.2.2.2.1.1 | exact h.tk.2.2.2.2.2.2.2.1 | exact h.tk2.1 | exact h.b.1.1) rfl rfl rfl rfl ⟨rfl, rfl, by decide, by decide⟩ (Nat.le_of_ble_eq_true rfl) ⟨by decide, by decide⟩ (fun r_50 V_50 h_50 => ?_)
        obtain ⟨rfl, hn2⟩ := h_50
        rw [hc.b.2] at hn2
        refine j_iret dX7_readBuffer_53 rfl (rfl) (by decide) (by decide) ?_
        exact ⟨_, rfl, rfl, rfl, rfl, by rw [hn2, he1], fun _ => by rw [he2]; exact hr, hc, ha⟩
      · exact absurd c_17 (by omega)
    | succ n ih =>
      intro k i t V1 hi hk hr hv he ha
      have hc := h.rd ha hr.k
      have hlt : k < x.2.2.length := by omega
      have hd : x.2.2.drop k = atZ x.2.2 k :: x.2.2.drop (k + 1) := by
        rw [List.drop_eq_getElem_cons hlt, atZ_nat, List.getD_eq_getElem?_getD, List.getElem?_eq_getElem hlt]; rfl
      have hv' := hv
      obtain ⟨m, l1, l2, l3, l4, -, hcu, z1, -⟩ := hv'
      have hN : rN t = (m : Int) := by unfold rN; omega
      have hcl := hcu.L
      rw [← hN] at hcl
      refine j_iload_n dX7_readBuffer_9 rfl ?_
      refine j_aload_n dX7_readBuffer_10 rfl ?_
      refine j_getr dX7_readBuffer_11 hB fl_X7_25 (by first | exact h.k | exact hs.1 | exact hr.1 | exact hr.2.1.1 | exact hr.2.2.1.1 | exact hr.2.2.2.1.1 | exact hr.2.2.2.2.1.1 | exact hr.2.2.2.2.2.1.1 | exact hr.2.2.2.2.2.2.1.1 | exact hs.2.2.2.2.1.1 | exact hs.2.2.2.2.2.1.1 | exact hs.2.2.2.2.2.2.1.1 | exact h.t0.2.2 | exact h.rk.1 | exact h.rk.2.1.1 | exact h.rk.2.2.1.1 | exact h.rk.2.2.2.1.1 | exact h.rk.2.2.2.2.1 | exact h.tk.1 | exact h.tk.2.1.1 | exact h.tk.2.2.1.1 | exact h.tk.2.2.2.1.1 | exact h.tk.2.2.2.2.1.1 | exact h.tk.2.2.2.2.2.1.1 | exact h.tk.2.2.2.2.2.2.1.1 | exact h.tk.2.2.2.2.2.2.2.1 | exact h.tk2.1 | exact h.b.1.1) (by rfl) ?_
      refine j_cVi dX7_readBuffer_14 hB mo_X3_size ml_X7_166 (sp_X3_size hB hc.b.1) (by first | exact h.k | exact hs.1 | exact hr.1 | exact hr.2.1.1 | exact hr.2.2.1.1 | exact hr.2.2.2.1.1 | exact hr.2.2.2.2.1.1 | exact hr.2.2.2.2.2.1.1 | exact hr.2.2.2.2.2.2.1.1 | exact hs.2.2.2.2.1.1 | exact hs.2.2.2.2.2.1.1 | exact hs.2.2.2.2.2.2.1.1 | exact h.t0.2.2 | exact h.rk.1 | exact h.rk.2.1.1 | exact h.rk.2.2.1.1 | exact h.rk.2.2.2.1.1 | exact h.rk.2.2.2.2.1 | exact h.tk.1 | exact h.tk.2.1.1 | exact h.tk.2.2.1.1 | exact h.tk.2.2.2.1.1 | exact h.tk.2.2.2.2.1.1 | exact h.tk.2.2.2.2.2.1.1 | exact h.tk.2.2.2.2.2.2.1.1 | exact h.tk.2.2.2.2.2.2.2.1 | exact h.tk2.1 | exact h.b.1.1) rfl rfl rfl rfl ⟨rfl, rfl, by decide, by decide⟩ (Nat.le_of_ble_eq_true rfl) ⟨by decide, by decide⟩ (fun r_14 V_14 h_14 => ?_)
      obtain ⟨rfl, hn⟩ := h_14
      rw [hc.b.2] at hn
      refine j_icmp_ge (tgt := 46) dX7_readBuffer_17 (by decide) (fun c_17 => ?_) (fun c_17 => ?_)
      · exact absurd c_17 (by omega)
      · refine j_aload_n dX7_readBuffer_20 rfl ?_
        refine j_getr dX7_readBuffer_21 hB fl_X7_32 (by first | exact h.k | exact hs.1 | exact hr.1 | exact hr.2.1.1 | exact hr.2.2.1.1 | exact hr.2.2.2.1.1 | exact hr.2.2.2.2.1.1 | exact hr.2.2.2.2.2.1.1 | exact hr.2.2.2.2.2.2.1.1 | exact hs.2.2.2.2.1.1 | exact hs.2.2.2.2.2.1.1 | exact hs.2.2.2.2.2.2.1.1 | exact h.t0.2.2 | exact h.rk.1 | exact h.rk.2.1.1 | exact h.rk.2.2.1.1 | exact h.rk.2.2.2.1.1 | exact h.rk.2.2.2.2.1 | exact h.tk.1 | exact h.tk.2.1.1 | exact h.tk.2.2.1.1 | exact h.tk.2.2.2.1.1 | exact h.tk.2.2.2.2.1.1 | exact h.tk.2.2.2.2.2.1.1 | exact h.tk.2.2.2.2.2.2.1.1 | exact h.tk.2.2.2.2.2.2.2.1 | exact h.tk2.1 | exact h.b.1.1) (by rfl) ?_
        refine j_aload_n dX7_readBuffer_24 rfl ?_
        refine j_getr dX7_readBuffer_25 hB fl_X7_25 (by first | exact h.k | exact hs.1 | exact hr.1 | exact hr.2.1.1 | exact hr.2.2.1.1 | exact hr.2.2.2.1.1 | exact hr.2.2.2.2.1.1 | exact hr.2.2.2.2.2.1.1 | exact hr.2.2.2.2.2.2.1.1 | exact hs.2.2.2.2.1.1 | exact hs.2.2.2.2.2.1.1 | exact hs.2.2.2.2.2.2.1.1 | exact h.t0.2.2 | exact h.rk.1 | exact h.rk.2.1.1 | exact h.rk.2.2.1.1 | exact h.rk.2.2.2.1.1 | exact h.rk.2.2.2.2.1 | exact h.tk.1 | exact h.tk.2.1.1 | exact h.tk.2.2.1.1 | exact h.tk.2.2.2.1.1 | exact h.tk.2.2.2.2.1.1 | exact h.tk.2.2.2.2.2.1.1 | exact h.tk.2.2.2.2.2.2.1.1 | exact h.tk.2.2.2.2.2.2.2.1 | exact h.tk2.1 | exact h.b.1.1) (by rfl) ?_
        refine j_iload_n dX7_readBuffer_28 rfl ?_
        refine j_cVi dX7_readBuffer_29 hB mo_X3_at ml_X7_148 (sp_X3_at hB hc.b.1) (by first | exact h.k | exact hs.1 | exact hr.1 | exact hr.2.1.1 | exact hr.2.2.1.1 | exact hr.2.2.2.1.1 | exact hr.2.2.2.2.1.1 | exact hr.2.2.2.2.2.1.1 | exact hr.2.2.2.2.2.2.1.1 | exact hs.2.2.2.2.1.1 | exact hs.2.2.2.2.2.1.1 | exact hs.2.2.2.2.2.2.1.1 | exact h.t0.2.2 | exact h.rk.1 | exact h.rk.2.1.1 | exact h.rk.2.2.1.1 | exact h.rk.2.2.2.1.1 | exact h.rk.2.2.2.2.1 | exact h.tk.1 | exact h.tk.2.1.1 | exact h.tk.2.2.1.1 | exact h.tk.2.2.2.1.1 | exact h.tk.2.2.2.2.1.1 | exact h.tk.2.2.2.2.2.1.1 | exact h.tk.2.2.2.2.2.2.1.1 | exact h.tk.2.2.2.2.2.2.2.1 | exact h.tk2.1 | exact h.b.1.1) rfl rfl rfl rfl ⟨rfl, rfl, by decide, by decide⟩ (Nat.le_of_ble_eq_true rfl) ⟨by decide, by decide⟩ (fun r_29 V_29 h_29 => ?_)
        obtain ⟨rfl, y1⟩ := h_29
        rw [hc.b.2, hi] at y1
        subst y1
        refine j_cVi dX7_readBuffer_32 hB mo_X4_read ml_X7_290 (sp_X4_read hB hr (fun hco => by obtain ⟨m2, g1, g2, g3, g4, -, g5⟩ := hv.comp hco; omega) hcl.1 hcl.2.1 hcl.2.2.1 hcl.2.2.2) (by first | exact h.k | exact hs.1 | exact hr.1 | exact hr.2.1.1 | exact hr.2.2.1.1 | exact hr.2.2.2.1.1 | exact hr.2.2.2.2.1.1 | exact hr.2.2.2.2.2.1.1 | exact hr.2.2.2.2.2.2.1.1 | exact hs.2.2.2.2.1.1 | exact hs.2.2.2.2.2.1.1 | exact hs.2.2.2.2.2.2.1.1 | exact h.t0.2.2 | exact h.rk.1 | exact h.rk.2.1.1 | exact h.rk.2.2.1.1 | exact h.rk.2.2.2.1.1 | exact h.rk.2.2.2.2.1 | exact h.tk.1 | exact h.tk.2.1.1 | exact h.tk.2.2.1.1 | exact h.tk.2.2.2.1.1 | exact h.tk.2.2.2.2.1.1 | exact h.tk.2.2.2.2.2.1.1 | exact h.tk.2.2.2.2.2.2.1.1 | exact h.tk.2.2.2.2.2.2.2.1 | exact h.tk2.1 | exact h.b.1.1) rfl rfl rfl rfl ⟨rfl, rfl, by decide, by decide⟩ (Nat.le_of_ble_eq_true rfl) ⟨by decide, by decide⟩ (fun r_32 V_32 h_32 => ?_)
        obtain ⟨hrd, a1⟩ := h_32
        refine j_if_ne (tgt := 40) dX7_readBuffer_35 (by decide) (fun c_35 => ?_) (fun c_35 => ?_)
        · refine j_iinc (v := 1) (L' := [(0, _), (1, _)]) dX7_readBuffer_40 rfl (by decide) (by decide) rfl ?_
          refine j_goto (tgt := 9) dX7_readBuffer_43 (by decide) ?_
          rcases hrd with ⟨_, t', ht', hr'⟩ | ⟨z, _⟩
          · have e1 : rdL t (x.2.2.drop k) = ((rdL t' (x.2.2.drop (k + 1))).1 + 1, (rdL t' (x.2.2.drop (k + 1))).2) := by rw [hd, rdL, rdS_some ht']
            refine ih (k + 1) _ t' _ ?_ (by omega) hr' (hv.step ht') ?_ (ha.tr a1)
            · rw [ti_add (by rw [ti_1]; omega) (by rw [ti_1]; omega), ti_1]; omega
            · rw [he, e1]
              show (k + ((rdL t' (x.2.2.drop (k + 1))).1 + 1), _) = _
              rw [show k + ((rdL t' (x.2.2.drop (k + 1))).1 + 1) = k + 1 + (rdL t' (x.2.2.drop (k + 1))).1 by omega]
          · exact absurd z c_35
        · refine j_iload_n dX7_readBuffer_38 rfl ?_
          refine j_iret dX7_readBuffer_39 rfl (rfl) (by decide) (by decide) ?_
          rcases hrd with ⟨z, _⟩ | ⟨_, hno, hk2⟩
          · rw [c_35] at z; exact absurd z (by decide)
          · have e1 : rdL t (x.2.2.drop k) = (0, t) := by rw [hd]; unfold rdL; rw [rdS_none hno]
            have e2 : (rdL r0 x.2.2).1 = k := by rw [he, e1]; rfl
            exact ⟨_, rfl, rfl, rfl, rfl, by rw [e2, hi], fun z => by rw [e2] at z; omega, h.rd (ha.tr a1) hk2, ha.tr a1⟩
  refine j_aload_n dX7_readBuffer_0 rfl ?_
  refine j_getr dX7_readBuffer_1 hB fl_X7_32 (by first | exact h.k | exact hs.1 | exact hr.1 | exact hr.2.1.1 | exact hr.2.2.1.1 | exact hr.2.2.2.1.1 | exact hr.2.2.2.2.1.1 | exact hr.2.2.2.2.2.1.1 | exact hr.2.2.2.2.2.2.1.1 | exact hs.2.2.2.2.1.1 | exact hs.2.2.2.2.2.1.1 | exact hs.2.2.2.2.2.2.1.1 | exact h.t0.2.2 | exact h.rk.1 | exact h.rk.2.1.1 | exact h.rk.2.2.1.1 | exact h.rk.2.2.2.1.1 | exact h.rk.2.2.2.2.1 | exact h.tk.1 | exact h.tk.2.1.1 | exact h.tk.2.2.1.1 | exact h.tk.2.2.2.1.1 | exact h.tk.2.2.2.2.1.1 | exact h.tk.2.2.2.2.2.1.1 | exact h.tk.2.2.2.2.2.2.1.1 | exact h.tk.2.2.2.2.2.2.2.1 | exact h.tk2.1 | exact h.b.1.1) (by rfl) ?_
  refine j_cVu dX7_readBuffer_4 hB mo_X4_begin ml_X7_287 (sp_X4_begin hB h.rk) (by first | exact h.k | exact hs.1 | exact hr.1 | exact hr.2.1.1 | exact hr.2.2.1.1 | exact hr.2.2.2.1.1 | exact hr.2.2.2.2.1.1 | exact hr.2.2.2.2.2.1.1 | exact hr.2.2.2.2.2.2.1.1 | exact hs.2.2.2.2.1.1 | exact hs.2.2.2.2.2.1.1 | exact hs.2.2.2.2.2.2.1.1 | exact h.t0.2.2 | exact h.rk.1 | exact h.rk.2.1.1 | exact h.rk.2.2.1.1 | exact h.rk.2.2.2.1.1 | exact h.rk.2.2.2.2.1 | exact h.tk.1 | exact h.tk.2.1.1 | exact h.tk.2.2.1.1 | exact h.tk.2.2.2.1.1 | exact h.tk.2.2.2.2.1.1 | exact h.tk.2.2.2.2.2.1.1 | exact h.tk.2.2.2.2.2.2.1.1 | exact h.tk.2.2.2.2.2.2.2.1 | exact h.tk2.1 | exact h.b.1.1) rfl rfl rfl rfl ⟨rfl, rfl, by decide, by decide⟩ (Nat.le_of_ble_eq_true rfl) ⟨by decide, by decide⟩ (fun V_4 h_4 => ?_)
  obtain ⟨g0, a0⟩ := h_4
  refine j_iconst (v := 0) dX7_readBuffer_7 (by decide) ?_
  refine j_istore_n (L' := [(0, _), (1, _)]) dX7_readBuffer_8 (by decide) rfl ?_
  exact loop x.2.2.length 0 0 r0 V_4 rfl (by omega) g0 rInv_0 (by rw [List.drop_zero, Nat.zero_add]) a0
set_option maxRecDepth 100000 in
set_option maxHeartbeats 4000000 in
theorem sp_X7_firstError (hB : jB l s0 D) {q : Nat} {x : aX} (h : cuIs T V q x) (hW : xW x) : Sp l s0 D kX7_firstError (jR 6 0 0) 0 0 [.ref q] T V X sz (qC T V X sz q (0) [] (pInt (v_err x)) x (x)) := by
  refine Sp.of pn_X7_firstError rfl (Nat.le_of_ble_eq_true rfl) ?_
  have hs := h.st

  refine j_aload_n dX7_firstError_0 rfl ?_
  refine j_cVi dX7_firstError_1 hB mo_X7_readBuffer ml_X7_172 (sp_X7_readBuffer hB h hW) (by first | exact h.k | exact hs.1 | exact hr.1 | exact hr.2.1.1 | exact hr.2.2.1.1 | exact hr.2.2.2.1.1 | exact hr.2.2.2.2.1.1 | exact hr.2.2.2.2.2.1.1 | exact hr.2.2.2.2.2.2.1.1 | exact hs.2.2.2.2.1.1 | exact hs.2.2.2.2.2.1.1 | exact hs.2.2.2.2.2.2.1.1 | exact h.t0.2.2 | exact h.rk.1 | exact h.rk.2.1.1 | exact h.rk.2.2.1.1 | exact h.rk.2.2.2.1.1 | exact h.rk.2.2.2.2.1 | exact h.tk.1 | exact h.tk.2.1.1 | exact h.tk.2.2.1.1 | exact h.tk.2.2.2.1.1 | exact h.tk.2.2.2.2.1.1 | exact h.tk.2.2.2.2.2.1.1 | exact h.tk.2.2.2.2.2.2.1.1 | exact h.tk.2.2.2.2.2.2.2.1 | exact h.tk2.1 | exact h.b.1.1) rfl rfl rfl rfl ⟨rfl, rfl, by decide, by decide⟩ (Nat.le_of_ble_eq_true rfl) ⟨by decide, by decide⟩ (fun r_1 V_1 h_1 => ?_)
  obtain ⟨hr, -, hc, a1⟩ := h_1
  refine j_iret dX7_firstError_4 rfl (rfl) (by decide) (by decide) ?_
  exact qC.ret rfl ⟨_, rfl, hr⟩ (a1.wide (by omega) (by omega)) hc
set_option maxRecDepth 100000 in
set_option maxHeartbeats 4000000 in
theorem sp_X7_hasPiecesThatWereRead (hB : jB l s0 D) {q : Nat} {x : aX} {t : tR} (h : cuIs T V q x) (hr : rdOK T V (q + 452) t) : Sp l s0 D kX7_hasPiecesThatWereRead (jR 3 0 0) 0 0 [.ref q] T V X sz (qI T X sz (fun r V' => V = V' ∧ (r = 1 ∧ (∀ j : Nat, j < t.1.length → atZ t.2.1 j = NN ∨ pcOk x.1 (atZ t.2.1 j)) ∨ r = 0 ∧ ¬ (∀ j : Nat, j < t.1.length → atZ t.2.1 j = NN ∨ pcOk x.1 (atZ t.2.1 j))))) := by
  refine Sp.of pn_X7_hasPiecesThatWereRead rfl (Nat.le_of_ble_eq_true rfl) ?_
  have hs := h.st
  have h60 := hr.2.1.le
  rw [hr.2.2.2.2.2.1] at h60
  have loop : ∀ (n k : Nat) (i : Int32) (L : List (Nat × Value)), L.lookup 0 = some (.ref q) → L.lookup 1 = some (.int i) → i.toInt = k → k + n = t.1.length → (∀ j : Nat, j < k → atZ t.2.1 j = NN ∨ pcOk x.1 (atZ t.2.1 j)) → J l s0 D kX7_hasPiecesThatWereRead (jR 3 0 0) 0 0 (qI T X sz (fun r V' => V = V' ∧ (r = 1 ∧ (∀ j : Nat, j < t.1.length → atZ t.2.1 j = NN ∨ pcOk x.1 (atZ t.2.1 j)) ∨ r = 0 ∧ ¬ (∀ j : Nat, j < t.1.length → atZ t.2.1 j = NN ∨ pcOk x.1 (atZ t.2.1 j))))) 2 L [] T V X sz 0 0 := by
    intro n
    induction n with
    | zero =>
      intro k i L l0 l1 hi hk ha
      refine j_sub2 (L' := [(0, .ref q), (1, .int i)]) (List.forall_mem_cons.mpr ⟨l0, List.forall_mem_cons.mpr ⟨l1, fun _ h9 => nomatch h9⟩⟩) ?_
      refine j_iload_n dX7_hasPiecesThatWereRead_2 rfl ?_
      refine j_aload_n dX7_hasPiecesThatWereRead_3 rfl ?_
      refine j_getr dX7_hasPiecesThatWereRead_4 hB fl_X7_32 (by first | exact h.k | exact hs.1 | exact hr.1 | exact hr.2.1.1 | exact hr.2.2.1.1 | exact hr.2.2.2.1.1 | exact hr.2.2.2.2.1.1 | exact hr.2.2.2.2.2.1.1 | exact hr.2.2.2.2.2.2.1.1 | exact hs.2.2.2.2.1.1 | exact hs.2.2.2.2.2.1.1 | exact hs.2.2.2.2.2.2.1.1 | exact h.t0.2.2 | exact h.rk.1 | exact h.rk.2.1.1 | exact h.rk.2.2.1.1 | exact h.rk.2.2.2.1.1 | exact h.rk.2.2.2.2.1 | exact h.tk.1 | exact h.tk.2.1.1 | exact h.tk.2.2.1.1 | exact h.tk.2.2.2.1.1 | exact h.tk.2.2.2.2.1.1 | exact h.tk.2.2.2.2.2.1.1 | exact h.tk.2.2.2.2.2.2.1.1 | exact h.tk.2.2.2.2.2.2.2.1 | exact h.tk2.1 | exact h.b.1.1) (by rfl) ?_
      refine j_cVi dX7_hasPiecesThatWereRead_7 hB mo_X4_scenes ml_X7_184 (sp_X4_scenes hB hr) (by first | exact h.k | exact hs.1 | exact hr.1 | exact hr.2.1.1 | exact hr.2.2.1.1 | exact hr.2.2.2.1.1 | exact hr.2.2.2.2.1.1 | exact hr.2.2.2.2.2.1.1 | exact hr.2.2.2.2.2.2.1.1 | exact hs.2.2.2.2.1.1 | exact hs.2.2.2.2.2.1.1 | exact hs.2.2.2.2.2.2.1.1 | exact h.t0.2.2 | exact h.rk.1 | exact h.rk.2.1.1 | exact h.rk.2.2.1.1 | exact h.rk.2.2.2.1.1 | exact h.rk.2.2.2.2.1 | exact h.tk.1 | exact h.tk.2.1.1 | exact h.tk.2.2.1.1 | exact h.tk.2.2.2.1.1 | exact h.tk.2.2.2.2.1.1 | exact h.tk.2.2.2.2.2.1.1 | exact h.tk.2.2.2.2.2.2.1.1 | exact h.tk.2.2.2.2.2.2.2.1 | exact h.tk2.1 | exact h.b.1.1) rfl rfl rfl rfl ⟨rfl, rfl, by decide, by decide⟩ (Nat.le_of_ble_eq_true rfl) ⟨by decide, by decide⟩ (fun r_7 V_7 h_7 => ?_)
      obtain ⟨rfl, hn⟩ := h_7
      refine j_icmp_ge (tgt := 50) dX7_hasPiecesThatWereRead_10 (by decide) (fun c_10 => ?_) (fun c_10 => ?_)
      · refine j_iconst (v := 1) dX7_hasPiecesThatWereRead_50 (by decide) ?_
        refine j_iret dX7_hasPiecesThatWereRead_51 rfl (by decide) (by decide) (by decide) ?_
        exact ⟨_, rfl, rfl, rfl, rfl, rfl, Or.inl ⟨rfl, fun j hj => ha j (by omega)⟩⟩
      · exact absurd c_10 (by omega)
    | succ n ih =>
      intro k i L l0 l1 hi hk ha
      refine j_sub2 (L' := [(0, .ref q), (1, .int i)]) (List.forall_mem_cons.mpr ⟨l0, List.forall_mem_cons.mpr ⟨l1, fun _ h9 => nomatch h9⟩⟩) ?_
      refine j_iload_n dX7_hasPiecesThatWereRead_2 rfl ?_
      refine j_aload_n dX7_hasPiecesThatWereRead_3 rfl ?_
      refine j_getr dX7_hasPiecesThatWereRead_4 hB fl_X7_32 (by first | exact h.k | exact hs.1 | exact hr.1 | exact hr.2.1.1 | exact hr.2.2.1.1 | exact hr.2.2.2.1.1 | exact hr.2.2.2.2.1.1 | exact hr.2.2.2.2.2.1.1 | exact hr.2.2.2.2.2.2.1.1 | exact hs.2.2.2.2.1.1 | exact hs.2.2.2.2.2.1.1 | exact hs.2.2.2.2.2.2.1.1 | exact h.t0.2.2 | exact h.rk.1 | exact h.rk.2.1.1 | exact h.rk.2.2.1.1 | exact h.rk.2.2.2.1.1 | exact h.rk.2.2.2.2.1 | exact h.tk.1 | exact h.tk.2.1.1 | exact h.tk.2.2.1.1 | exact h.tk.2.2.2.1.1 | exact h.tk.2.2.2.2.1.1 | exact h.tk.2.2.2.2.2.1.1 | exact h.tk.2.2.2.2.2.2.1.1 | exact h.tk.2.2.2.2.2.2.2.1 | exact h.tk2.1 | exact h.b.1.1) (by rfl) ?_
      refine j_cVi dX7_hasPiecesThatWereRead_7 hB mo_X4_scenes ml_X7_184 (sp_X4_scenes hB hr) (by first | exact h.k | exact hs.1 | exact hr.1 | exact hr.2.1.1 | exact hr.2.2.1.1 | exact hr.2.2.2.1.1 | exact hr.2.2.2.2.1.1 | exact hr.2.2.2.2.2.1.1 | exact hr.2.2.2.2.2.2.1.1 | exact hs.2.2.2.2.1.1 | exact hs.2.2.2.2.2.1.1 | exact hs.2.2.2.2.2.2.1.1 | exact h.t0.2.2 | exact h.rk.1 | exact h.rk.2.1.1 | exact h.rk.2.2.1.1 | exact h.rk.2.2.2.1.1 | exact h.rk.2.2.2.2.1 | exact h.tk.1 | exact h.tk.2.1.1 | exact h.tk.2.2.1.1 | exact h.tk.2.2.2.1.1 | exact h.tk.2.2.2.2.1.1 | exact h.tk.2.2.2.2.2.1.1 | exact h.tk.2.2.2.2.2.2.1.1 | exact h.tk.2.2.2.2.2.2.2.1 | exact h.tk2.1 | exact h.b.1.1) rfl rfl rfl rfl ⟨rfl, rfl, by decide, by decide⟩ (Nat.le_of_ble_eq_true rfl) ⟨by decide, by decide⟩ (fun r_7 V_7 h_7 => ?_)
      obtain ⟨rfl, hn⟩ := h_7
      refine j_icmp_ge (tgt := 50) dX7_hasPiecesThatWereRead_10 (by decide) (fun c_10 => ?_) (fun c_10 => ?_)
      · exact absurd c_10 (by omega)
      · refine j_aload_n dX7_hasPiecesThatWereRead_13 rfl ?_
        refine j_getr dX7_hasPiecesThatWereRead_14 hB fl_X7_32 (by first | exact h.k | exact hs.1 | exact hr.1 | exact hr.2.1.1 | exact hr.2.2.1.1 | exact hr.2.2.2.1.1 | exact hr.2.2.2.2.1.1 | exact hr.2.2.2.2.2.1.1 | exact hr.2.2.2.2.2.2.1.1 | exact hs.2.2.2.2.1.1 | exact hs.2.2.2.2.2.1.1 | exact hs.2.2.2.2.2.2.1.1 | exact h.t0.2.2 | exact h.rk.1 | exact h.rk.2.1.1 | exact h.rk.2.2.1.1 | exact h.rk.2.2.2.1.1 | exact h.rk.2.2.2.2.1 | exact h.tk.1 | exact h.tk.2.1.1 | exact h.tk.2.2.1.1 | exact h.tk.2.2.2.1.1 | exact h.tk.2.2.2.2.1.1 | exact h.tk.2.2.2.2.2.1.1 | exact h.tk.2.2.2.2.2.2.1.1 | exact h.tk.2.2.2.2.2.2.2.1 | exact h.tk2.1 | exact h.b.1.1) (by rfl) ?_
        refine j_getr dX7_hasPiecesThatWereRead_17 hB fl_X7_193 (by first | exact h.k | exact hs.1 | exact hr.1 | exact hr.2.1.1 | exact hr.2.2.1.1 | exact hr.2.2.2.1.1 | exact hr.2.2.2.2.1.1 | exact hr.2.2.2.2.2.1.1 | exact hr.2.2.2.2.2.2.1.1 | exact hs.2.2.2.2.1.1 | exact hs.2.2.2.2.2.1.1 | exact hs.2.2.2.2.2.2.1.1 | exact h.t0.2.2 | exact h.rk.1 | exact h.rk.2.1.1 | exact h.rk.2.2.1.1 | exact h.rk.2.2.2.1.1 | exact h.rk.2.2.2.2.1 | exact h.tk.1 | exact h.tk.2.1.1 | exact h.tk.2.2.1.1 | exact h.tk.2.2.2.1.1 | exact h.tk.2.2.2.2.1.1 | exact h.tk.2.2.2.2.2.1.1 | exact h.tk.2.2.2.2.2.2.1.1 | exact h.tk.2.2.2.2.2.2.2.1 | exact h.tk2.1 | exact h.b.1.1) (by rfl) ?_
        refine j_iload_n dX7_hasPiecesThatWereRead_20 rfl ?_
        refine j_cVi dX7_hasPiecesThatWereRead_21 hB mo_X3_at ml_X7_148 (sp_X3_at hB hr.2.2.1) (by first | exact h.k | exact hs.1 | exact hr.1 | exact hr.2.1.1 | exact hr.2.2.1.1 | exact hr.2.2.2.1.1 | exact hr.2.2.2.2.1.1 | exact hr.2.2.2.2.2.1.1 | exact hr.2.2.2.2.2.2.1.1 | exact hs.2.2.2.2.1.1 | exact hs.2.2.2.2.2.1.1 | exact hs.2.2.2.2.2.2.1.1 | exact h.t0.2.2 | exact h.rk.1 | exact h.rk.2.1.1 | exact h.rk.2.2.1.1 | exact h.rk.2.2.2.1.1 | exact h.rk.2.2.2.2.1 | exact h.tk.1 | exact h.tk.2.1.1 | exact h.tk.2.2.1.1 | exact h.tk.2.2.2.1.1 | exact h.tk.2.2.2.2.1.1 | exact h.tk.2.2.2.2.2.1.1 | exact h.tk.2.2.2.2.2.2.1.1 | exact h.tk.2.2.2.2.2.2.2.1 | exact h.tk2.1 | exact h.b.1.1) rfl rfl rfl rfl ⟨rfl, rfl, by decide, by decide⟩ (Nat.le_of_ble_eq_true rfl) ⟨by decide, by decide⟩ (fun r_21 V_21 h_21 => ?_)
        obtain ⟨rfl, y1⟩ := h_21
        rw [hr.2.2.2.2.2.2.1, hi] at y1
        subst y1
        refine j_istore_n (L' := [(0, _), (1, _), (2, _)]) dX7_hasPiecesThatWereRead_24 (by decide) rfl ?_
        refine j_iload_n dX7_hasPiecesThatWereRead_25 rfl ?_
        refine j_ldc dX7_hasPiecesThatWereRead_26 hB kc_X7_80 ?_
        refine j_icmp_eq (tgt := 44) dX7_hasPiecesThatWereRead_28 (by decide) (fun c_28 => ?_) (fun c_28 => ?_)
        · refine j_iinc (v := 1) (L' := [(0, _), (1, _), (2, _)]) dX7_hasPiecesThatWereRead_44 rfl (by decide) (by decide) rfl ?_
          refine j_goto (tgt := 2) dX7_hasPiecesThatWereRead_47 (by decide) ?_
          refine ih (k + 1) _ _ rfl rfl ?_ (by omega) (fun j hj => ?_)
          · rw [ti_add (by rw [ti_1]; omega) (by rw [ti_1]; omega), ti_1]; omega
          · by_cases e : j < k
            · exact ha j e
            · rw [show j = k by omega]
              exact Or.inl c_28
        · refine j_aload_n dX7_hasPiecesThatWereRead_31 rfl ?_
          refine j_getr dX7_hasPiecesThatWereRead_32 hB fl_X7_10 (by first | exact h.k | exact hs.1 | exact hr.1 | exact hr.2.1.1 | exact hr.2.2.1.1 | exact hr.2.2.2.1.1 | exact hr.2.2.2.2.1.1 | exact hr.2.2.2.2.2.1.1 | exact hr.2.2.2.2.2.2.1.1 | exact hs.2.2.2.2.1.1 | exact hs.2.2.2.2.2.1.1 | exact hs.2.2.2.2.2.2.1.1 | exact h.t0.2.2 | exact h.rk.1 | exact h.rk.2.1.1 | exact h.rk.2.2.1.1 | exact h.rk.2.2.2.1.1 | exact h.rk.2.2.2.2.1 | exact h.tk.1 | exact h.tk.2.1.1 | exact h.tk.2.2.1.1 | exact h.tk.2.2.2.1.1 | exact h.tk.2.2.2.2.1.1 | exact h.tk.2.2.2.2.2.1.1 | exact h.tk.2.2.2.2.2.2.1.1 | exact h.tk.2.2.2.2.2.2.2.1 | exact h.tk2.1 | exact h.b.1.1) (by rfl) ?_
          refine j_iload_n dX7_hasPiecesThatWereRead_35 rfl ?_
          refine j_cVi dX7_hasPiecesThatWereRead_36 hB mo_X5_hasPiece ml_X7_277 (sp_X5_hasPiece hB hs) (by first | exact h.k | exact hs.1 | exact hr.1 | exact hr.2.1.1 | exact hr.2.2.1.1 | exact hr.2.2.2.1.1 | exact hr.2.2.2.2.1.1 | exact hr.2.2.2.2.2.1.1 | exact hr.2.2.2.2.2.2.1.1 | exact hs.2.2.2.2.1.1 | exact hs.2.2.2.2.2.1.1 | exact hs.2.2.2.2.2.2.1.1 | exact h.t0.2.2 | exact h.rk.1 | exact h.rk.2.1.1 | exact h.rk.2.2.1.1 | exact h.rk.2.2.2.1.1 | exact h.rk.2.2.2.2.1 | exact h.tk.1 | exact h.tk.2.1.1 | exact h.tk.2.2.1.1 | exact h.tk.2.2.2.1.1 | exact h.tk.2.2.2.2.1.1 | exact h.tk.2.2.2.2.2.1.1 | exact h.tk.2.2.2.2.2.2.1.1 | exact h.tk.2.2.2.2.2.2.2.1 | exact h.tk2.1 | exact h.b.1.1) rfl rfl rfl rfl ⟨rfl, rfl, by decide, by decide⟩ (Nat.le_of_ble_eq_true rfl) ⟨by decide, by decide⟩ (fun r_36 V_36 h_36 => ?_)
          obtain ⟨rfl, hp⟩ := h_36
          refine j_if_ne (tgt := 44) dX7_hasPiecesThatWereRead_39 (by decide) (fun c_39 => ?_) (fun c_39 => ?_)
          · refine j_iinc (v := 1) (L' := [(0, _), (1, _), (2, _)]) dX7_hasPiecesThatWereRead_44 rfl (by decide) (by decide) rfl ?_
            refine j_goto (tgt := 2) dX7_hasPiecesThatWereRead_47 (by decide) ?_
            refine ih (k + 1) _ _ rfl rfl ?_ (by omega) (fun j hj => ?_)
            · rw [ti_add (by rw [ti_1]; omega) (by rw [ti_1]; omega), ti_1]; omega
            · by_cases e : j < k
              · exact ha j e
              · rw [show j = k by omega]
                rcases hp with ⟨_, w⟩ | ⟨w, _⟩
                · exact Or.inr w
                · exact absurd w c_39
          · refine j_iconst (v := 0) dX7_hasPiecesThatWereRead_42 (by decide) ?_
            refine j_iret dX7_hasPiecesThatWereRead_43 rfl (by decide) (by decide) (by decide) ?_
            exact ⟨_, rfl, rfl, rfl, rfl, rfl, Or.inr ⟨rfl, fun z => by rcases z k (by omega) with y | y; (exact c_28 y); rcases hp with ⟨w, _⟩ | ⟨_, w⟩; (rw [c_39] at w; exact absurd w (by decide)); exact w y⟩⟩
  refine j_iconst (v := 0) dX7_hasPiecesThatWereRead_0 (by decide) ?_
  refine j_istore_n (L' := [(0, _), (1, _)]) dX7_hasPiecesThatWereRead_1 (by decide) rfl ?_
  exact loop t.1.length 0 0 _ rfl rfl rfl (by omega) (fun j hj => absurd hj (by omega))
set_option maxRecDepth 100000 in
set_option maxHeartbeats 4000000 in
theorem sp_X7_load (hB : jB l s0 D) {q : Nat} {x : aX} {r : Int32} (h : cuIs T V q x) (hW : xW x) : Sp l s0 D kX7_load (jR 8 3 18) 3 18 [.ref q, .int r] T V X sz (qC T V X sz q (e_load x r) [IO, IA, IS] (pInt (v_load x r)) x (s_load x r)) := by
  refine Sp.of pn_X7_load rfl (Nat.le_of_ble_eq_true rfl) ?_
  have hs := h.st
  have hr := hs.reel r.toInt
  have hrl := hW.1.r r.toInt
  have hlen : (sR x.1 r.toInt).2.1.length = (sR x.1 r.toInt).1.length ∧ (sR x.1 r.toInt).2.2.1.length = (sR x.1 r.toInt).1.length ∧ (sR x.1 r.toInt).2.2.2.1.length = (sR x.1 r.toInt).1.length := ⟨hrl.1, hrl.2.1, hrl.2.2.1⟩
  have k10 : (10 : Int32).toInt = 10 := by decide
  have loop : ∀ (n k : Nat) (i : Int32) (V1 : jV) (L : List (Nat × Value)), e_load x r = 0 → (∃ m : Nat, (xT x).1.length = m ∧ (xT x).2.1.length = m ∧ (xT x).2.2.1.length = m ∧ (xT x).2.2.2.1.length = m ∧ (sR x.1 r.toInt).1.length + m ≤ 10 ∧ k + n = m) → L.lookup 0 = some (.ref q) → L.lookup 1 = some (.int r) → L.lookup 2 = some (.ref (reelA (q + 1) r.toInt)) → L.lookup 3 = some (.int i) → i.toInt = k → rdOK T V1 (q + 452) (xT x) → cuIs T V1 q (sSet x.1 r.toInt (rTk (sR x.1 r.toInt) (xT x) k), xPush x, x.2.2) → jAg V V1 q (q + 492) → J l s0 D kX7_load (jR 8 3 18) 3 18 (qC T V X sz q (e_load x r) [IO, IA, IS] (pInt (v_load x r)) x (s_load x r)) 88 L [] T V1 X sz (0 + 1) (0 + 6) := by
    intro n
    induction n with
    | zero =>
      intro k i V1 L he ⟨m, m1, m2, m3, m4, m5, hk⟩ l0 l1 l2 l3 hi hrd hc ha
      have hr1 := hc.st.reel r.toInt
      refine j_sub2 (L' := [(0, .ref q), (1, .int r), (2, .ref (reelA (q + 1) r.toInt)), (3, .int i)]) (List.forall_mem_cons.mpr ⟨l0, List.forall_mem_cons.mpr ⟨l1, List.forall_mem_cons.mpr ⟨l2, List.forall_mem_cons.mpr ⟨l3, fun _ h9 => nomatch h9⟩⟩⟩⟩) ?_
      refine j_iload_n dX7_load_88 rfl ?_
      refine j_aload_n dX7_load_89 rfl ?_
      refine j_getr dX7_load_90 hB fl_X7_32 (by first | exact h.k | exact hs.1 | exact hr.1 | exact hr.2.1.1 | exact hr.2.2.1.1 | exact hr.2.2.2.1.1 | exact hr.2.2.2.2.1.1 | exact hr.2.2.2.2.2.1.1 | exact hr.2.2.2.2.2.2.1.1 | exact hs.2.2.2.2.1.1 | exact hs.2.2.2.2.2.1.1 | exact hs.2.2.2.2.2.2.1.1 | exact h.t0.2.2 | exact h.rk.1 | exact h.rk.2.1.1 | exact h.rk.2.2.1.1 | exact h.rk.2.2.2.1.1 | exact h.rk.2.2.2.2.1 | exact h.tk.1 | exact h.tk.2.1.1 | exact h.tk.2.2.1.1 | exact h.tk.2.2.2.1.1 | exact h.tk.2.2.2.2.1.1 | exact h.tk.2.2.2.2.2.1.1 | exact h.tk.2.2.2.2.2.2.1.1 | exact h.tk.2.2.2.2.2.2.2.1 | exact h.tk2.1 | exact h.b.1.1) (by rfl) ?_
      refine j_cVi dX7_load_93 hB mo_X4_scenes ml_X7_184 (sp_X4_scenes hB hrd) (by first | exact h.k | exact hs.1 | exact hr.1 | exact hr.2.1.1 | exact hr.2.2.1.1 | exact hr.2.2.2.1.1 | exact hr.2.2.2.2.1.1 | exact hr.2.2.2.2.2.1.1 | exact hr.2.2.2.2.2.2.1.1 | exact hs.2.2.2.2.1.1 | exact hs.2.2.2.2.2.1.1 | exact hs.2.2.2.2.2.2.1.1 | exact h.t0.2.2 | exact h.rk.1 | exact h.rk.2.1.1 | exact h.rk.2.2.1.1 | exact h.rk.2.2.2.1.1 | exact h.rk.2.2.2.2.1 | exact h.tk.1 | exact h.tk.2.1.1 | exact h.tk.2.2.1.1 | exact h.tk.2.2.2.1.1 | exact h.tk.2.2.2.2.1.1 | exact h.tk.2.2.2.2.2.1.1 | exact h.tk.2.2.2.2.2.2.1.1 | exact h.tk.2.2.2.2.2.2.2.1 | exact h.tk2.1 | exact h.b.1.1) rfl rfl rfl rfl ⟨rfl, rfl, by decide, by decide⟩ (Nat.le_of_ble_eq_true rfl) ⟨by decide, by decide⟩ (fun r_93 V_93 h_93 => ?_)
      obtain ⟨rfl, hn⟩ := h_93
      refine j_icmp_ge (tgt := 153) dX7_load_96 (by decide) (fun c_96 => ?_) (fun c_96 => ?_)
      · refine j_aload_n dX7_load_153 rfl ?_
        refine j_getr dX7_load_154 hB fl_X7_25 (by first | exact h.k | exact hs.1 | exact hr.1 | exact hr.2.1.1 | exact hr.2.2.1.1 | exact hr.2.2.2.1.1 | exact hr.2.2.2.2.1.1 | exact hr.2.2.2.2.2.1.1 | exact hr.2.2.2.2.2.2.1.1 | exact hs.2.2.2.2.1.1 | exact hs.2.2.2.2.2.1.1 | exact hs.2.2.2.2.2.2.1.1 | exact h.t0.2.2 | exact h.rk.1 | exact h.rk.2.1.1 | exact h.rk.2.2.1.1 | exact h.rk.2.2.2.1.1 | exact h.rk.2.2.2.2.1 | exact h.tk.1 | exact h.tk.2.1.1 | exact h.tk.2.2.1.1 | exact h.tk.2.2.2.1.1 | exact h.tk.2.2.2.2.1.1 | exact h.tk.2.2.2.2.2.1.1 | exact h.tk.2.2.2.2.2.2.1.1 | exact h.tk.2.2.2.2.2.2.2.1 | exact h.tk2.1 | exact h.b.1.1) (by rfl) ?_
        refine j_cVu dX7_load_157 hB mo_X3_clear ml_X7_169 (sp_X3_clear hB hc.b.1) (by first | exact h.k | exact hs.1 | exact hr.1 | exact hr.2.1.1 | exact hr.2.2.1.1 | exact hr.2.2.2.1.1 | exact hr.2.2.2.2.1.1 | exact hr.2.2.2.2.2.1.1 | exact hr.2.2.2.2.2.2.1.1 | exact hs.2.2.2.2.1.1 | exact hs.2.2.2.2.2.1.1 | exact hs.2.2.2.2.2.2.1.1 | exact h.t0.2.2 | exact h.rk.1 | exact h.rk.2.1.1 | exact h.rk.2.2.1.1 | exact h.rk.2.2.2.1.1 | exact h.rk.2.2.2.2.1 | exact h.tk.1 | exact h.tk.2.1.1 | exact h.tk.2.2.1.1 | exact h.tk.2.2.2.1.1 | exact h.tk.2.2.2.2.1.1 | exact h.tk.2.2.2.2.2.1.1 | exact h.tk.2.2.2.2.2.2.1.1 | exact h.tk.2.2.2.2.2.2.2.1 | exact h.tk2.1 | exact h.b.1.1) rfl rfl rfl rfl ⟨rfl, rfl, by decide, by decide⟩ (Nat.le_of_ble_eq_true rfl) ⟨by decide, by decide⟩ (fun V_157 h_157 => ?_)
        obtain ⟨g1, f1, a1⟩ := h_157
        have hkm : k = m := by omega
        have htk : rTk (sR x.1 r.toInt) (xT x) k = rApp (xR x r) (xT x) := by
          unfold rTk rApp
          rw [List.take_of_length_le (by omega), List.take_of_length_le (by omega), List.take_of_length_le (by omega), List.take_of_length_le (by omega)]; rfl
        rw [htk] at hc
        have hc2 := hc.bf a1 g1 f1
        have hr2 := hc2.st.reel r.toInt
        have hr2 : ReelOK T V_157 (reelA (q + 1) r.toInt) (sR (sSet x.1 r.toInt (rApp (xR x r) (xT x))) r.toInt) := hr2
        rw [sR_set] at hr2
        refine j_aload_n dX7_load_160 rfl ?_
        refine j_cVi dX7_load_161 hB mo_X2_scenes ml_X7_64 (sp_X2_scenes hB hr2) (by first | exact h.k | exact hs.1 | exact hr.1 | exact hr.2.1.1 | exact hr.2.2.1.1 | exact hr.2.2.2.1.1 | exact hr.2.2.2.2.1.1 | exact hr.2.2.2.2.2.1.1 | exact hr.2.2.2.2.2.2.1.1 | exact hs.2.2.2.2.1.1 | exact hs.2.2.2.2.2.1.1 | exact hs.2.2.2.2.2.2.1.1 | exact h.t0.2.2 | exact h.rk.1 | exact h.rk.2.1.1 | exact h.rk.2.2.1.1 | exact h.rk.2.2.2.1.1 | exact h.rk.2.2.2.2.1 | exact h.tk.1 | exact h.tk.2.1.1 | exact h.tk.2.2.1.1 | exact h.tk.2.2.2.1.1 | exact h.tk.2.2.2.2.1.1 | exact h.tk.2.2.2.2.2.1.1 | exact h.tk.2.2.2.2.2.2.1.1 | exact h.tk.2.2.2.2.2.2.2.1 | exact h.tk2.1 | exact h.b.1.1) rfl rfl rfl rfl ⟨rfl, rfl, by decide, by decide⟩ (Nat.le_of_ble_eq_true rfl) ⟨by decide, by decide⟩ (fun r_161 V_161 h_161 => ?_)
        obtain ⟨rfl, hn2⟩ := h_161
        have hn2 : r_161.toInt = (((xR x r).1 ++ (xT x).1).length : Int) := hn2
        rw [List.length_append] at hn2
        refine j_iret dX7_load_164 rfl (rfl) (by decide) (by decide) ?_
        exact qC.ret he ⟨_, rfl, by rw [hn2]; unfold v_load; omega⟩ (ha.tr (a1.wide (by omega) (by omega))) hc2
      · exact absurd c_96 (by omega)
    | succ n ih =>
      intro k i V1 L he ⟨m, m1, m2, m3, m4, m5, hk⟩ l0 l1 l2 l3 hi hrd hc ha
      have hr1 := hc.st.reel r.toInt
      have hr1 : ReelOK T V1 (reelA (q + 1) r.toInt) (sR (sSet x.1 r.toInt (rTk (sR x.1 r.toInt) (xT x) k)) r.toInt) := hr1
      rw [sR_set] at hr1
      have tkl : ∀ (A L : List Int32), A.length = (sR x.1 r.toInt).1.length → L.length = m → (A ++ L.take k).length < 10 := fun A L hA hL => by rw [List.length_append, List.length_take]; omega
      refine j_sub2 (L' := [(0, .ref q), (1, .int r), (2, .ref (reelA (q + 1) r.toInt)), (3, .int i)]) (List.forall_mem_cons.mpr ⟨l0, List.forall_mem_cons.mpr ⟨l1, List.forall_mem_cons.mpr ⟨l2, List.forall_mem_cons.mpr ⟨l3, fun _ h9 => nomatch h9⟩⟩⟩⟩) ?_
      refine j_iload_n dX7_load_88 rfl ?_
      refine j_aload_n dX7_load_89 rfl ?_
      refine j_getr dX7_load_90 hB fl_X7_32 (by first | exact h.k | exact hs.1 | exact hr.1 | exact hr.2.1.1 | exact hr.2.2.1.1 | exact hr.2.2.2.1.1 | exact hr.2.2.2.2.1.1 | exact hr.2.2.2.2.2.1.1 | exact hr.2.2.2.2.2.2.1.1 | exact hs.2.2.2.2.1.1 | exact hs.2.2.2.2.2.1.1 | exact hs.2.2.2.2.2.2.1.1 | exact h.t0.2.2 | exact h.rk.1 | exact h.rk.2.1.1 | exact h.rk.2.2.1.1 | exact h.rk.2.2.2.1.1 | exact h.rk.2.2.2.2.1 | exact h.tk.1 | exact h.tk.2.1.1 | exact h.tk.2.2.1.1 | exact h.tk.2.2.2.1.1 | exact h.tk.2.2.2.2.1.1 | exact h.tk.2.2.2.2.2.1.1 | exact h.tk.2.2.2.2.2.2.1.1 | exact h.tk.2.2.2.2.2.2.2.1 | exact h.tk2.1 | exact h.b.1.1) (by rfl) ?_
      refine j_cVi dX7_load_93 hB mo_X4_scenes ml_X7_184 (sp_X4_scenes hB hrd) (by first | exact h.k | exact hs.1 | exact hr.1 | exact hr.2.1.1 | exact hr.2.2.1.1 | exact hr.2.2.2.1.1 | exact hr.2.2.2.2.1.1 | exact hr.2.2.2.2.2.1.1 | exact hr.2.2.2.2.2.2.1.1 | exact hs.2.2.2.2.1.1 | exact hs.2.2.2.2.2.1.1 | exact hs.2.2.2.2.2.2.1.1 | exact h.t0.2.2 | exact h.rk.1 | exact h.rk.2.1.1 | exact h.rk.2.2.1.1 | exact h.rk.2.2.2.1.1 | exact h.rk.2.2.2.2.1 | exact h.tk.1 | exact h.tk.2.1.1 | exact h.tk.2.2.1.1 | exact h.tk.2.2.2.1.1 | exact h.tk.2.2.2.2.1.1 | exact h.tk.2.2.2.2.2.1.1 | exact h.tk.2.2.2.2.2.2.1.1 | exact h.tk.2.2.2.2.2.2.2.1 | exact h.tk2.1 | exact h.b.1.1) rfl rfl rfl rfl ⟨rfl, rfl, by decide, by decide⟩ (Nat.le_of_ble_eq_true rfl) ⟨by decide, by decide⟩ (fun r_93 V_93 h_93 => ?_)
      obtain ⟨rfl, hn⟩ := h_93
      refine j_icmp_ge (tgt := 153) dX7_load_96 (by decide) (fun c_96 => ?_) (fun c_96 => ?_)
      · exact absurd c_96 (by omega)
      · refine j_aload_n dX7_load_99 rfl ?_
        refine j_aload_n dX7_load_100 rfl ?_
        refine j_getr dX7_load_101 hB fl_X7_32 (by first | exact h.k | exact hs.1 | exact hr.1 | exact hr.2.1.1 | exact hr.2.2.1.1 | exact hr.2.2.2.1.1 | exact hr.2.2.2.2.1.1 | exact hr.2.2.2.2.2.1.1 | exact hr.2.2.2.2.2.2.1.1 | exact hs.2.2.2.2.1.1 | exact hs.2.2.2.2.2.1.1 | exact hs.2.2.2.2.2.2.1.1 | exact h.t0.2.2 | exact h.rk.1 | exact h.rk.2.1.1 | exact h.rk.2.2.1.1 | exact h.rk.2.2.2.1.1 | exact h.rk.2.2.2.2.1 | exact h.tk.1 | exact h.tk.2.1.1 | exact h.tk.2.2.1.1 | exact h.tk.2.2.2.1.1 | exact h.tk.2.2.2.2.1.1 | exact h.tk.2.2.2.2.2.1.1 | exact h.tk.2.2.2.2.2.2.1.1 | exact h.tk.2.2.2.2.2.2.2.1 | exact h.tk2.1 | exact h.b.1.1) (by rfl) ?_
        refine j_getr dX7_load_104 hB fl_X7_190 (by first | exact h.k | exact hs.1 | exact hr.1 | exact hr.2.1.1 | exact hr.2.2.1.1 | exact hr.2.2.2.1.1 | exact hr.2.2.2.2.1.1 | exact hr.2.2.2.2.2.1.1 | exact hr.2.2.2.2.2.2.1.1 | exact hs.2.2.2.2.1.1 | exact hs.2.2.2.2.2.1.1 | exact hs.2.2.2.2.2.2.1.1 | exact h.t0.2.2 | exact h.rk.1 | exact h.rk.2.1.1 | exact h.rk.2.2.1.1 | exact h.rk.2.2.2.1.1 | exact h.rk.2.2.2.2.1 | exact h.tk.1 | exact h.tk.2.1.1 | exact h.tk.2.2.1.1 | exact h.tk.2.2.2.1.1 | exact h.tk.2.2.2.2.1.1 | exact h.tk.2.2.2.2.2.1.1 | exact h.tk.2.2.2.2.2.2.1.1 | exact h.tk.2.2.2.2.2.2.2.1 | exact h.tk2.1 | exact h.b.1.1) (by rfl) ?_
        refine j_iload_n dX7_load_107 rfl ?_
        refine j_cVi dX7_load_108 hB mo_X3_at ml_X7_148 (sp_X3_at hB (hrd.2.1)) (by first | exact h.k | exact hs.1 | exact hr.1 | exact hr.2.1.1 | exact hr.2.2.1.1 | exact hr.2.2.2.1.1 | exact hr.2.2.2.2.1.1 | exact hr.2.2.2.2.2.1.1 | exact hr.2.2.2.2.2.2.1.1 | exact hs.2.2.2.2.1.1 | exact hs.2.2.2.2.2.1.1 | exact hs.2.2.2.2.2.2.1.1 | exact h.t0.2.2 | exact h.rk.1 | exact h.rk.2.1.1 | exact h.rk.2.2.1.1 | exact h.rk.2.2.2.1.1 | exact h.rk.2.2.2.2.1 | exact h.tk.1 | exact h.tk.2.1.1 | exact h.tk.2.2.1.1 | exact h.tk.2.2.2.1.1 | exact h.tk.2.2.2.2.1.1 | exact h.tk.2.2.2.2.2.1.1 | exact h.tk.2.2.2.2.2.2.1.1 | exact h.tk.2.2.2.2.2.2.2.1 | exact h.tk2.1 | exact h.b.1.1) rfl rfl rfl rfl ⟨rfl, rfl, by decide, by decide⟩ (Nat.le_of_ble_eq_true rfl) ⟨by decide, by decide⟩ (fun r_108 V_108 h_108 => ?_)
        obtain ⟨rfl, y1⟩ := h_108
        rw [hrd.2.2.2.2.2.1, hi] at y1
        subst y1
        refine j_aload_n dX7_load_111 rfl ?_
        refine j_getr dX7_load_112 hB fl_X7_32 (by first | exact h.k | exact hs.1 | exact hr.1 | exact hr.2.1.1 | exact hr.2.2.1.1 | exact hr.2.2.2.1.1 | exact hr.2.2.2.2.1.1 | exact hr.2.2.2.2.2.1.1 | exact hr.2.2.2.2.2.2.1.1 | exact hs.2.2.2.2.1.1 | exact hs.2.2.2.2.2.1.1 | exact hs.2.2.2.2.2.2.1.1 | exact h.t0.2.2 | exact h.rk.1 | exact h.rk.2.1.1 | exact h.rk.2.2.1.1 | exact h.rk.2.2.2.1.1 | exact h.rk.2.2.2.2.1 | exact h.tk.1 | exact h.tk.2.1.1 | exact h.tk.2.2.1.1 | exact h.tk.2.2.2.1.1 | exact h.tk.2.2.2.2.1.1 | exact h.tk.2.2.2.2.2.1.1 | exact h.tk.2.2.2.2.2.2.1.1 | exact h.tk.2.2.2.2.2.2.2.1 | exact h.tk2.1 | exact h.b.1.1) (by rfl) ?_
        refine j_getr dX7_load_115 hB fl_X7_193 (by first | exact h.k | exact hs.1 | exact hr.1 | exact hr.2.1.1 | exact hr.2.2.1.1 | exact hr.2.2.2.1.1 | exact hr.2.2.2.2.1.1 | exact hr.2.2.2.2.2.1.1 | exact hr.2.2.2.2.2.2.1.1 | exact hs.2.2.2.2.1.1 | exact hs.2.2.2.2.2.1.1 | exact hs.2.2.2.2.2.2.1.1 | exact h.t0.2.2 | exact h.rk.1 | exact h.rk.2.1.1 | exact h.rk.2.2.1.1 | exact h.rk.2.2.2.1.1 | exact h.rk.2.2.2.2.1 | exact h.tk.1 | exact h.tk.2.1.1 | exact h.tk.2.2.1.1 | exact h.tk.2.2.2.1.1 | exact h.tk.2.2.2.2.1.1 | exact h.tk.2.2.2.2.2.1.1 | exact h.tk.2.2.2.2.2.2.1.1 | exact h.tk.2.2.2.2.2.2.2.1 | exact h.tk2.1 | exact h.b.1.1) (by rfl) ?_
        refine j_iload_n dX7_load_118 rfl ?_
        refine j_cVi dX7_load_119 hB mo_X3_at ml_X7_148 (sp_X3_at hB (hrd.2.2.1)) (by first | exact h.k | exact hs.1 | exact hr.1 | exact hr.2.1.1 | exact hr.2.2.1.1 | exact hr.2.2.2.1.1 | exact hr.2.2.2.2.1.1 | exact hr.2.2.2.2.2.1.1 | exact hr.2.2.2.2.2.2.1.1 | exact hs.2.2.2.2.1.1 | exact hs.2.2.2.2.2.1.1 | exact hs.2.2.2.2.2.2.1.1 | exact h.t0.2.2 | exact h.rk.1 | exact h.rk.2.1.1 | exact h.rk.2.2.1.1 | exact h.rk.2.2.2.1.1 | exact h.rk.2.2.2.2.1 | exact h.tk.1 | exact h.tk.2.1.1 | exact h.tk.2.2.1.1 | exact h.tk.2.2.2.1.1 | exact h.tk.2.2.2.2.1.1 | exact h.tk.2.2.2.2.2.1.1 | exact h.tk.2.2.2.2.2.2.1.1 | exact h.tk.2.2.2.2.2.2.2.1 | exact h.tk2.1 | exact h.b.1.1) rfl rfl rfl rfl ⟨rfl, rfl, by decide, by decide⟩ (Nat.le_of_ble_eq_true rfl) ⟨by decide, by decide⟩ (fun r_119 V_119 h_119 => ?_)
        obtain ⟨rfl, y2⟩ := h_119
        rw [hrd.2.2.2.2.2.2.1, hi] at y2
        subst y2
        refine j_aload_n dX7_load_122 rfl ?_
        refine j_getr dX7_load_123 hB fl_X7_32 (by first | exact h.k | exact hs.1 | exact hr.1 | exact hr.2.1.1 | exact hr.2.2.1.1 | exact hr.2.2.2.1.1 | exact hr.2.2.2.2.1.1 | exact hr.2.2.2.2.2.1.1 | exact hr.2.2.2.2.2.2.1.1 | exact hs.2.2.2.2.1.1 | exact hs.2.2.2.2.2.1.1 | exact hs.2.2.2.2.2.2.1.1 | exact h.t0.2.2 | exact h.rk.1 | exact h.rk.2.1.1 | exact h.rk.2.2.1.1 | exact h.rk.2.2.2.1.1 | exact h.rk.2.2.2.2.1 | exact h.tk.1 | exact h.tk.2.1.1 | exact h.tk.2.2.1.1 | exact h.tk.2.2.2.1.1 | exact h.tk.2.2.2.2.1.1 | exact h.tk.2.2.2.2.2.1.1 | exact h.tk.2.2.2.2.2.2.1.1 | exact h.tk.2.2.2.2.2.2.2.1 | exact h.tk2.1 | exact h.b.1.1) (by rfl) ?_
        refine j_getr dX7_load_126 hB fl_X7_195 (by first | exact h.k | exact hs.1 | exact hr.1 | exact hr.2.1.1 | exact hr.2.2.1.1 | exact hr.2.2.2.1.1 | exact hr.2.2.2.2.1.1 | exact hr.2.2.2.2.2.1.1 | exact hr.2.2.2.2.2.2.1.1 | exact hs.2.2.2.2.1.1 | exact hs.2.2.2.2.2.1.1 | exact hs.2.2.2.2.2.2.1.1 | exact h.t0.2.2 | exact h.rk.1 | exact h.rk.2.1.1 | exact h.rk.2.2.1.1 | exact h.rk.2.2.2.1.1 | exact h.rk.2.2.2.2.1 | exact h.tk.1 | exact h.tk.2.1.1 | exact h.tk.2.2.1.1 | exact h.tk.2.2.2.1.1 | exact h.tk.2.2.2.2.1.1 | exact h.tk.2.2.2.2.2.1.1 | exact h.tk.2.2.2.2.2.2.1.1 | exact h.tk.2.2.2.2.2.2.2.1 | exact h.tk2.1 | exact h.b.1.1) (by rfl) ?_
        refine j_iload_n dX7_load_129 rfl ?_
        refine j_cVi dX7_load_130 hB mo_X3_at ml_X7_148 (sp_X3_at hB (hrd.2.2.2.1)) (by first | exact h.k | exact hs.1 | exact hr.1 | exact hr.2.1.1 | exact hr.2.2.1.1 | exact hr.2.2.2.1.1 | exact hr.2.2.2.2.1.1 | exact hr.2.2.2.2.2.1.1 | exact hr.2.2.2.2.2.2.1.1 | exact hs.2.2.2.2.1.1 | exact hs.2.2.2.2.2.1.1 | exact hs.2.2.2.2.2.2.1.1 | exact h.t0.2.2 | exact h.rk.1 | exact h.rk.2.1.1 | exact h.rk.2.2.1.1 | exact h.rk.2.2.2.1.1 | exact h.rk.2.2.2.2.1 | exact h.tk.1 | exact h.tk.2.1.1 | exact h.tk.2.2.1.1 | exact h.tk.2.2.2.1.1 | exact h.tk.2.2.2.2.1.1 | exact h.tk.2.2.2.2.2.1.1 | exact h.tk.2.2.2.2.2.2.1.1 | exact h.tk.2.2.2.2.2.2.2.1 | exact h.tk2.1 | exact h.b.1.1) rfl rfl rfl rfl ⟨rfl, rfl, by decide, by decide⟩ (Nat.le_of_ble_eq_true rfl) ⟨by decide, by decide⟩ (fun r_130 V_130 h_130 => ?_)
        obtain ⟨rfl, y3⟩ := h_130
        rw [hrd.2.2.2.2.2.2.2.1, hi] at y3
        subst y3
        refine j_aload_n dX7_load_133 rfl ?_
        refine j_getr dX7_load_134 hB fl_X7_32 (by first | exact h.k | exact hs.1 | exact hr.1 | exact hr.2.1.1 | exact hr.2.2.1.1 | exact hr.2.2.2.1.1 | exact hr.2.2.2.2.1.1 | exact hr.2.2.2.2.2.1.1 | exact hr.2.2.2.2.2.2.1.1 | exact hs.2.2.2.2.1.1 | exact hs.2.2.2.2.2.1.1 | exact hs.2.2.2.2.2.2.1.1 | exact h.t0.2.2 | exact h.rk.1 | exact h.rk.2.1.1 | exact h.rk.2.2.1.1 | exact h.rk.2.2.2.1.1 | exact h.rk.2.2.2.2.1 | exact h.tk.1 | exact h.tk.2.1.1 | exact h.tk.2.2.1.1 | exact h.tk.2.2.2.1.1 | exact h.tk.2.2.2.2.1.1 | exact h.tk.2.2.2.2.2.1.1 | exact h.tk.2.2.2.2.2.2.1.1 | exact h.tk.2.2.2.2.2.2.2.1 | exact h.tk2.1 | exact h.b.1.1) (by rfl) ?_
        refine j_getr dX7_load_137 hB fl_X7_196 (by first | exact h.k | exact hs.1 | exact hr.1 | exact hr.2.1.1 | exact hr.2.2.1.1 | exact hr.2.2.2.1.1 | exact hr.2.2.2.2.1.1 | exact hr.2.2.2.2.2.1.1 | exact hr.2.2.2.2.2.2.1.1 | exact hs.2.2.2.2.1.1 | exact hs.2.2.2.2.2.1.1 | exact hs.2.2.2.2.2.2.1.1 | exact h.t0.2.2 | exact h.rk.1 | exact h.rk.2.1.1 | exact h.rk.2.2.1.1 | exact h.rk.2.2.2.1.1 | exact h.rk.2.2.2.2.1 | exact h.tk.1 | exact h.tk.2.1.1 | exact h.tk.2.2.1.1 | exact h.tk.2.2.2.1.1 | exact h.tk.2.2.2.2.1.1 | exact h.tk.2.2.2.2.2.1.1 | exact h.tk.2.2.2.2.2.2.1.1 | exact h.tk.2.2.2.2.2.2.2.1 | exact h.tk2.1 | exact h.b.1.1) (by rfl) ?_
        refine j_iload_n dX7_load_140 rfl ?_
        refine j_cVi dX7_load_141 hB mo_X3_at ml_X7_148 (sp_X3_at hB (hrd.2.2.2.2.1)) (by first | exact h.k | exact hs.1 | exact hr.1 | exact hr.2.1.1 | exact hr.2.2.1.1 | exact hr.2.2.2.1.1 | exact hr.2.2.2.2.1.1 | exact hr.2.2.2.2.2.1.1 | exact hr.2.2.2.2.2.2.1.1 | exact hs.2.2.2.2.1.1 | exact hs.2.2.2.2.2.1.1 | exact hs.2.2.2.2.2.2.1.1 | exact h.t0.2.2 | exact h.rk.1 | exact h.rk.2.1.1 | exact h.rk.2.2.1.1 | exact h.rk.2.2.2.1.1 | exact h.rk.2.2.2.2.1 | exact h.tk.1 | exact h.tk.2.1.1 | exact h.tk.2.2.1.1 | exact h.tk.2.2.2.1.1 | exact h.tk.2.2.2.2.1.1 | exact h.tk.2.2.2.2.2.1.1 | exact h.tk.2.2.2.2.2.2.1.1 | exact h.tk.2.2.2.2.2.2.2.1 | exact h.tk2.1 | exact h.b.1.1) rfl rfl rfl rfl ⟨rfl, rfl, by decide, by decide⟩ (Nat.le_of_ble_eq_true rfl) ⟨by decide, by decide⟩ (fun r_141 V_141 h_141 => ?_)
        obtain ⟨rfl, y4⟩ := h_141
        rw [hrd.2.2.2.2.2.2.2.2.1, hi] at y4
        subst y4
        refine j_cVu dX7_load_144 hB mo_X2_extend ml_X7_81 (sp_X2_extend hB hr1 (tkl _ _ rfl m1) (tkl _ _ hlen.1 m2) (tkl _ _ hlen.2.1 m3) (tkl _ _ hlen.2.2 m4)) (by first | exact h.k | exact hs.1 | exact hr.1 | exact hr.2.1.1 | exact hr.2.2.1.1 | exact hr.2.2.2.1.1 | exact hr.2.2.2.2.1.1 | exact hr.2.2.2.2.2.1.1 | exact hr.2.2.2.2.2.2.1.1 | exact hs.2.2.2.2.1.1 | exact hs.2.2.2.2.2.1.1 | exact hs.2.2.2.2.2.2.1.1 | exact h.t0.2.2 | exact h.rk.1 | exact h.rk.2.1.1 | exact h.rk.2.2.1.1 | exact h.rk.2.2.2.1.1 | exact h.rk.2.2.2.2.1 | exact h.tk.1 | exact h.tk.2.1.1 | exact h.tk.2.2.1.1 | exact h.tk.2.2.2.1.1 | exact h.tk.2.2.2.2.1.1 | exact h.tk.2.2.2.2.2.1.1 | exact h.tk.2.2.2.2.2.2.1.1 | exact h.tk.2.2.2.2.2.2.2.1 | exact h.tk2.1 | exact h.b.1.1) rfl rfl rfl rfl ⟨rfl, rfl, by decide, by decide⟩ (Nat.le_of_ble_eq_true rfl) ⟨by decide, by decide⟩ (fun V_144 h_144 => ?_)
        obtain ⟨g2, a2⟩ := h_144
        refine j_iinc (v := 1) (L' := [(0, _), (1, _), (2, _), (3, _)]) dX7_load_147 rfl (by decide) (by decide) rfl ?_
        refine j_goto (tgt := 88) dX7_load_150 (by decide) ?_
        have hR : ((rTk (sR x.1 r.toInt) (xT x) k).1 ++ [atZ (xT x).1 k], (rTk (sR x.1 r.toInt) (xT x) k).2.1 ++ [atZ (xT x).2.1 k], (rTk (sR x.1 r.toInt) (xT x) k).2.2.1 ++ [atZ (xT x).2.2.1 k], (rTk (sR x.1 r.toInt) (xT x) k).2.2.2.1 ++ [atZ (xT x).2.2.2.1 k], (rTk (sR x.1 r.toInt) (xT x) k).2.2.2.2) = rTk (sR x.1 r.toInt) (xT x) (k + 1) := by
          show ((_ ++ _) ++ [_], (_ ++ _) ++ [_], (_ ++ _) ++ [_], (_ ++ _) ++ [_], _) = _
          rw [app_tk (by omega), app_tk (by omega), app_tk (by omega), app_tk (by omega)]; rfl
        rw [hR] at g2
        have h7 := hc.setR' a2 g2
        have h7a : cuIs T V_144 q (sSet (sSet x.1 r.toInt (rTk (sR x.1 r.toInt) (xT x) k)) r.toInt (rTk (sR x.1 r.toInt) (xT x) (k + 1)), xPush x, x.2.2) := h7.1
        rw [sSet_set] at h7a
        have hin := reelA_in (q + 1) r.toInt
        refine ih (k + 1) _ V_144 _ he ⟨m, m1, m2, m3, m4, m5, by omega⟩ rfl rfl rfl rfl ?_ (hrd.ag a2 (by omega)) h7a (ha.tr h7.2)
        rw [ti_add (by rw [ti_1]; omega) (by rw [ti_1]; omega), ti_1]; omega
  refine j_aload_n dX7_load_0 rfl ?_
  refine j_iload_n dX7_load_1 rfl ?_
  refine j_tV dX7_load_2 hB mo_X7_requireReel ml_X7_53 (sp_X7_requireReel hB) (by first | exact h.k | exact hs.1 | exact hr.1 | exact hr.2.1.1 | exact hr.2.2.1.1 | exact hr.2.2.2.1.1 | exact hr.2.2.2.2.1.1 | exact hr.2.2.2.2.2.1.1 | exact hr.2.2.2.2.2.2.1.1 | exact hs.2.2.2.2.1.1 | exact hs.2.2.2.2.2.1.1 | exact hs.2.2.2.2.2.2.1.1 | exact h.t0.2.2 | exact h.rk.1 | exact h.rk.2.1.1 | exact h.rk.2.2.1.1 | exact h.rk.2.2.2.1.1 | exact h.rk.2.2.2.2.1 | exact h.tk.1 | exact h.tk.2.1.1 | exact h.tk.2.2.1.1 | exact h.tk.2.2.2.1.1 | exact h.tk.2.2.2.2.1.1 | exact h.tk.2.2.2.2.2.1.1 | exact h.tk.2.2.2.2.2.2.1.1 | exact h.tk.2.2.2.2.2.2.2.1 | exact h.tk2.1 | exact h.b.1.1) rfl rfl rfl rfl ⟨rfl, rfl, by decide, by decide⟩ (Nat.le_of_ble_eq_true rfl) ⟨by decide, by decide⟩ rfl ⟨by decide, by decide⟩ (fun E V_2 sz_2 hz hx => by obtain ⟨rfl, rfl, hn⟩ := hx; exact qC.thr 0 hz rfl (by show e_load x r = 1; unfold e_load; exact (if_pos hn)) jAg.rf h) (fun v_2 V_2 h_2 => ?_)
  obtain ⟨rfl, rfl, h_2⟩ := h_2
  refine j_aload_n dX7_load_5 rfl ?_
  refine j_cVi dX7_load_6 hB mo_X7_readBuffer ml_X7_172 (sp_X7_readBuffer hB h hW) (by first | exact h.k | exact hs.1 | exact hr.1 | exact hr.2.1.1 | exact hr.2.2.1.1 | exact hr.2.2.2.1.1 | exact hr.2.2.2.2.1.1 | exact hr.2.2.2.2.2.1.1 | exact hr.2.2.2.2.2.2.1.1 | exact hs.2.2.2.2.1.1 | exact hs.2.2.2.2.2.1.1 | exact hs.2.2.2.2.2.2.1.1 | exact h.t0.2.2 | exact h.rk.1 | exact h.rk.2.1.1 | exact h.rk.2.2.1.1 | exact h.rk.2.2.2.1.1 | exact h.rk.2.2.2.2.1 | exact h.tk.1 | exact h.tk.2.1.1 | exact h.tk.2.2.1.1 | exact h.tk.2.2.2.1.1 | exact h.tk.2.2.2.2.1.1 | exact h.tk.2.2.2.2.2.1.1 | exact h.tk.2.2.2.2.2.2.1.1 | exact h.tk.2.2.2.2.2.2.2.1 | exact h.tk2.1 | exact h.b.1.1) rfl rfl rfl rfl ⟨rfl, rfl, by decide, by decide⟩ (Nat.le_of_ble_eq_true rfl) ⟨by decide, by decide⟩ (fun r_6 V_6 h_6 => ?_)
  obtain ⟨y1, hrd, hc, a1⟩ := h_6
  have a1' := a1.wide (lo' := q) (hi' := q + 492) (by omega) (by omega)
  have hle := rdL_le (t := r0) x.2.2
  have hs1 := hc.st
  have hr1 := hs1.reel r.toInt
  refine j_aload_n dX7_load_9 rfl ?_
  refine j_getr dX7_load_10 hB fl_X7_25 (by first | exact h.k | exact hs.1 | exact hr.1 | exact hr.2.1.1 | exact hr.2.2.1.1 | exact hr.2.2.2.1.1 | exact hr.2.2.2.2.1.1 | exact hr.2.2.2.2.2.1.1 | exact hr.2.2.2.2.2.2.1.1 | exact hs.2.2.2.2.1.1 | exact hs.2.2.2.2.2.1.1 | exact hs.2.2.2.2.2.2.1.1 | exact h.t0.2.2 | exact h.rk.1 | exact h.rk.2.1.1 | exact h.rk.2.2.1.1 | exact h.rk.2.2.2.1.1 | exact h.rk.2.2.2.2.1 | exact h.tk.1 | exact h.tk.2.1.1 | exact h.tk.2.2.1.1 | exact h.tk.2.2.2.1.1 | exact h.tk.2.2.2.2.1.1 | exact h.tk.2.2.2.2.2.1.1 | exact h.tk.2.2.2.2.2.2.1.1 | exact h.tk.2.2.2.2.2.2.2.1 | exact h.tk2.1 | exact h.b.1.1) (by rfl) ?_
  refine j_cVi dX7_load_13 hB mo_X3_size ml_X7_166 (sp_X3_size hB hc.b.1) (by first | exact h.k | exact hs.1 | exact hr.1 | exact hr.2.1.1 | exact hr.2.2.1.1 | exact hr.2.2.2.1.1 | exact hr.2.2.2.2.1.1 | exact hr.2.2.2.2.2.1.1 | exact hr.2.2.2.2.2.2.1.1 | exact hs.2.2.2.2.1.1 | exact hs.2.2.2.2.2.1.1 | exact hs.2.2.2.2.2.2.1.1 | exact h.t0.2.2 | exact h.rk.1 | exact h.rk.2.1.1 | exact h.rk.2.2.1.1 | exact h.rk.2.2.2.1.1 | exact h.rk.2.2.2.2.1 | exact h.tk.1 | exact h.tk.2.1.1 | exact h.tk.2.2.1.1 | exact h.tk.2.2.2.1.1 | exact h.tk.2.2.2.2.1.1 | exact h.tk.2.2.2.2.2.1.1 | exact h.tk.2.2.2.2.2.2.1.1 | exact h.tk.2.2.2.2.2.2.2.1 | exact h.tk2.1 | exact h.b.1.1) rfl rfl rfl rfl ⟨rfl, rfl, by decide, by decide⟩ (Nat.le_of_ble_eq_true rfl) ⟨by decide, by decide⟩ (fun r_13 V_13 h_13 => ?_)
  obtain ⟨rfl, hn⟩ := h_13
  rw [hc.b.2] at hn
  refine j_icmp_lt (tgt := 29) dX7_load_16 (by decide) (fun c_16 => ?_) (fun c_16 => ?_)
  · refine j_throw dX7_load_29 dX7_load_32 dX7_load_33 dX7_load_35 dX7_load_38 hB rfl th_X7_load_29 (by decide) (Nat.le_of_ble_eq_true rfl) (by decide) (by decide) (by decide) (by decide) ?_
    exact fun sz1 hz => qC.thr 1 hz rfl (by show e_load x r = 2; unfold e_load; exact (if_neg (fun z => z h_2)).trans (if_neg (fun z => by have := z.1; omega))) a1' hc
  · have hall : (rdL r0 x.2.2).1 = x.2.2.length := by omega
    have hrd := hrd hall
    refine j_aload_n dX7_load_19 rfl ?_
    refine j_getr dX7_load_20 hB fl_X7_32 (by first | exact h.k | exact hs.1 | exact hr.1 | exact hr.2.1.1 | exact hr.2.2.1.1 | exact hr.2.2.2.1.1 | exact hr.2.2.2.2.1.1 | exact hr.2.2.2.2.2.1.1 | exact hr.2.2.2.2.2.2.1.1 | exact hs.2.2.2.2.1.1 | exact hs.2.2.2.2.2.1.1 | exact hs.2.2.2.2.2.2.1.1 | exact h.t0.2.2 | exact h.rk.1 | exact h.rk.2.1.1 | exact h.rk.2.2.1.1 | exact h.rk.2.2.2.1.1 | exact h.rk.2.2.2.2.1 | exact h.tk.1 | exact h.tk.2.1.1 | exact h.tk.2.2.1.1 | exact h.tk.2.2.2.1.1 | exact h.tk.2.2.2.2.1.1 | exact h.tk.2.2.2.2.2.1.1 | exact h.tk.2.2.2.2.2.2.1.1 | exact h.tk.2.2.2.2.2.2.2.1 | exact h.tk2.1 | exact h.b.1.1) (by rfl) ?_
    refine j_cVi dX7_load_23 hB mo_X4_isComplete ml_X7_175 (sp_X4_isComplete hB hrd) (by first | exact h.k | exact hs.1 | exact hr.1 | exact hr.2.1.1 | exact hr.2.2.1.1 | exact hr.2.2.2.1.1 | exact hr.2.2.2.2.1.1 | exact hr.2.2.2.2.2.1.1 | exact hr.2.2.2.2.2.2.1.1 | exact hs.2.2.2.2.1.1 | exact hs.2.2.2.2.2.1.1 | exact hs.2.2.2.2.2.2.1.1 | exact h.t0.2.2 | exact h.rk.1 | exact h.rk.2.1.1 | exact h.rk.2.2.1.1 | exact h.rk.2.2.2.1.1 | exact h.rk.2.2.2.2.1 | exact h.tk.1 | exact h.tk.2.1.1 | exact h.tk.2.2.1.1 | exact h.tk.2.2.2.1.1 | exact h.tk.2.2.2.2.1.1 | exact h.tk.2.2.2.2.2.1.1 | exact h.tk.2.2.2.2.2.2.1.1 | exact h.tk.2.2.2.2.2.2.2.1 | exact h.tk2.1 | exact h.b.1.1) rfl rfl rfl rfl ⟨rfl, rfl, by decide, by decide⟩ (Nat.le_of_ble_eq_true rfl) ⟨by decide, by decide⟩ (fun r_23 V_23 h_23 => ?_)
    obtain ⟨rfl, hco⟩ := h_23
    refine j_if_ne (tgt := 39) dX7_load_26 (by decide) (fun c_26 => ?_) (fun c_26 => ?_)
    · have hA : ldA x := ⟨hall, by rcases hco with ⟨_, w⟩ | ⟨w, _⟩; (exact w); exact absurd w c_26⟩
      refine j_aload_n dX7_load_39 rfl ?_
      refine j_getr dX7_load_40 hB fl_X7_10 (by first | exact h.k | exact hs.1 | exact hr.1 | exact hr.2.1.1 | exact hr.2.2.1.1 | exact hr.2.2.2.1.1 | exact hr.2.2.2.2.1.1 | exact hr.2.2.2.2.2.1.1 | exact hr.2.2.2.2.2.2.1.1 | exact hs.2.2.2.2.1.1 | exact hs.2.2.2.2.2.1.1 | exact hs.2.2.2.2.2.2.1.1 | exact h.t0.2.2 | exact h.rk.1 | exact h.rk.2.1.1 | exact h.rk.2.2.1.1 | exact h.rk.2.2.2.1.1 | exact h.rk.2.2.2.2.1 | exact h.tk.1 | exact h.tk.2.1.1 | exact h.tk.2.2.1.1 | exact h.tk.2.2.2.1.1 | exact h.tk.2.2.2.2.1.1 | exact h.tk.2.2.2.2.2.1.1 | exact h.tk.2.2.2.2.2.2.1.1 | exact h.tk.2.2.2.2.2.2.2.1 | exact h.tk2.1 | exact h.b.1.1) (by rfl) ?_
      refine j_iload_n dX7_load_43 rfl ?_
      refine j_cVa dX7_load_44 hB mo_X5_reelAt ml_X7_60 (sp_X5_reelAt hB hs1) (by first | exact h.k | exact hs.1 | exact hr.1 | exact hr.2.1.1 | exact hr.2.2.1.1 | exact hr.2.2.2.1.1 | exact hr.2.2.2.2.1.1 | exact hr.2.2.2.2.2.1.1 | exact hr.2.2.2.2.2.2.1.1 | exact hs.2.2.2.2.1.1 | exact hs.2.2.2.2.2.1.1 | exact hs.2.2.2.2.2.2.1.1 | exact h.t0.2.2 | exact h.rk.1 | exact h.rk.2.1.1 | exact h.rk.2.2.1.1 | exact h.rk.2.2.2.1.1 | exact h.rk.2.2.2.2.1 | exact h.tk.1 | exact h.tk.2.1.1 | exact h.tk.2.2.1.1 | exact h.tk.2.2.2.1.1 | exact h.tk.2.2.2.2.1.1 | exact h.tk.2.2.2.2.2.1.1 | exact h.tk.2.2.2.2.2.2.1.1 | exact h.tk.2.2.2.2.2.2.2.1 | exact h.tk2.1 | exact h.b.1.1) rfl rfl rfl rfl ⟨rfl, rfl, by decide, by decide⟩ (Nat.le_of_ble_eq_true rfl) ⟨by decide, by decide⟩ (fun r_44 V_44 h_44 => ?_)
      obtain ⟨rfl, hq⟩ := h_44
      subst hq
      refine j_astore_n (L' := [(0, _), (1, _), (2, _)]) dX7_load_47 (by decide) rfl ?_
      refine j_aload_n dX7_load_48 rfl ?_
      refine j_cVi dX7_load_49 hB mo_X2_scenes ml_X7_64 (sp_X2_scenes hB hr1) (by first | exact h.k | exact hs.1 | exact hr.1 | exact hr.2.1.1 | exact hr.2.2.1.1 | exact hr.2.2.2.1.1 | exact hr.2.2.2.2.1.1 | exact hr.2.2.2.2.2.1.1 | exact hr.2.2.2.2.2.2.1.1 | exact hs.2.2.2.2.1.1 | exact hs.2.2.2.2.2.1.1 | exact hs.2.2.2.2.2.2.1.1 | exact h.t0.2.2 | exact h.rk.1 | exact h.rk.2.1.1 | exact h.rk.2.2.1.1 | exact h.rk.2.2.2.1.1 | exact h.rk.2.2.2.2.1 | exact h.tk.1 | exact h.tk.2.1.1 | exact h.tk.2.2.1.1 | exact h.tk.2.2.2.1.1 | exact h.tk.2.2.2.2.1.1 | exact h.tk.2.2.2.2.2.1.1 | exact h.tk.2.2.2.2.2.2.1.1 | exact h.tk.2.2.2.2.2.2.2.1 | exact h.tk2.1 | exact h.b.1.1) rfl rfl rfl rfl ⟨rfl, rfl, by decide, by decide⟩ (Nat.le_of_ble_eq_true rfl) ⟨by decide, by decide⟩ (fun r_49 V_49 h_49 => ?_)
      obtain ⟨rfl, hn1⟩ := h_49
      refine j_aload_n dX7_load_52 rfl ?_
      refine j_getr dX7_load_53 hB fl_X7_32 (by first | exact h.k | exact hs.1 | exact hr.1 | exact hr.2.1.1 | exact hr.2.2.1.1 | exact hr.2.2.2.1.1 | exact hr.2.2.2.2.1.1 | exact hr.2.2.2.2.2.1.1 | exact hr.2.2.2.2.2.2.1.1 | exact hs.2.2.2.2.1.1 | exact hs.2.2.2.2.2.1.1 | exact hs.2.2.2.2.2.2.1.1 | exact h.t0.2.2 | exact h.rk.1 | exact h.rk.2.1.1 | exact h.rk.2.2.1.1 | exact h.rk.2.2.2.1.1 | exact h.rk.2.2.2.2.1 | exact h.tk.1 | exact h.tk.2.1.1 | exact h.tk.2.2.1.1 | exact h.tk.2.2.2.1.1 | exact h.tk.2.2.2.2.1.1 | exact h.tk.2.2.2.2.2.1.1 | exact h.tk.2.2.2.2.2.2.1.1 | exact h.tk.2.2.2.2.2.2.2.1 | exact h.tk2.1 | exact h.b.1.1) (by rfl) ?_
      refine j_cVi dX7_load_56 hB mo_X4_scenes ml_X7_184 (sp_X4_scenes hB hrd) (by first | exact h.k | exact hs.1 | exact hr.1 | exact hr.2.1.1 | exact hr.2.2.1.1 | exact hr.2.2.2.1.1 | exact hr.2.2.2.2.1.1 | exact hr.2.2.2.2.2.1.1 | exact hr.2.2.2.2.2.2.1.1 | exact hs.2.2.2.2.1.1 | exact hs.2.2.2.2.2.1.1 | exact hs.2.2.2.2.2.2.1.1 | exact h.t0.2.2 | exact h.rk.1 | exact h.rk.2.1.1 | exact h.rk.2.2.1.1 | exact h.rk.2.2.2.1.1 | exact h.rk.2.2.2.2.1 | exact h.tk.1 | exact h.tk.2.1.1 | exact h.tk.2.2.1.1 | exact h.tk.2.2.2.1.1 | exact h.tk.2.2.2.2.1.1 | exact h.tk.2.2.2.2.2.1.1 | exact h.tk.2.2.2.2.2.2.1.1 | exact h.tk.2.2.2.2.2.2.2.1 | exact h.tk2.1 | exact h.b.1.1) rfl rfl rfl rfl ⟨rfl, rfl, by decide, by decide⟩ (Nat.le_of_ble_eq_true rfl) ⟨by decide, by decide⟩ (fun r_56 V_56 h_56 => ?_)
      obtain ⟨rfl, hn2⟩ := h_56
      have h60 := hrd.2.1.le
      rw [hrd.2.2.2.2.2.1] at h60
      have hsum : (r_49 + r_56).toInt = (sR x.1 r.toInt).1.length + (xT x).1.length := by rw [ti_add (by have := hrl.2.2.2.1; omega) (by have := hrl.2.2.2.1; omega), hn1, hn2]
      refine j_iadd dX7_load_59 ?_
      refine j_bipush (v := 10) dX7_load_60 (by decide) ?_
      refine j_icmp_gt (tgt := 72) dX7_load_62 (by decide) (fun c_62 => ?_) (fun c_62 => ?_)
      · refine j_throw dX7_load_72 dX7_load_75 dX7_load_76 dX7_load_78 dX7_load_81 hB rfl th_X7_load_72 (by decide) (Nat.le_of_ble_eq_true rfl) (by decide) (by decide) (by decide) (by decide) ?_
        exact fun sz1 hz => qC.thr 2 hz rfl (by show e_load x r = 3; unfold e_load; exact ((if_neg (fun z => z h_2)).trans (if_pos hA)).trans (if_neg (fun z => by have := z.1; unfold xR at this; omega))) a1' hc
      · refine j_aload_n dX7_load_65 rfl ?_
        refine j_cVi dX7_load_66 hB mo_X7_hasPiecesThatWereRead ml_X7_185 (sp_X7_hasPiecesThatWereRead hB hc hrd) (by first | exact h.k | exact hs.1 | exact hr.1 | exact hr.2.1.1 | exact hr.2.2.1.1 | exact hr.2.2.2.1.1 | exact hr.2.2.2.2.1.1 | exact hr.2.2.2.2.2.1.1 | exact hr.2.2.2.2.2.2.1.1 | exact hs.2.2.2.2.1.1 | exact hs.2.2.2.2.2.1.1 | exact hs.2.2.2.2.2.2.1.1 | exact h.t0.2.2 | exact h.rk.1 | exact h.rk.2.1.1 | exact h.rk.2.2.1.1 | exact h.rk.2.2.2.1.1 | exact h.rk.2.2.2.2.1 | exact h.tk.1 | exact h.tk.2.1.1 | exact h.tk.2.2.1.1 | exact h.tk.2.2.2.1.1 | exact h.tk.2.2.2.2.1.1 | exact h.tk.2.2.2.2.2.1.1 | exact h.tk.2.2.2.2.2.2.1.1 | exact h.tk.2.2.2.2.2.2.2.1 | exact h.tk2.1 | exact h.b.1.1) rfl rfl rfl rfl ⟨rfl, rfl, by decide, by decide⟩ (Nat.le_of_ble_eq_true rfl) ⟨by decide, by decide⟩ (fun r_66 V_66 h_66 => ?_)
        obtain ⟨rfl, hps⟩ := h_66
        refine j_if_ne (tgt := 82) dX7_load_69 (by decide) (fun c_69 => ?_) (fun c_69 => ?_)
        · have hBB : ldB x r := ⟨by unfold xR; omega, by rcases hps with ⟨_, w⟩ | ⟨w, _⟩; (exact w); exact absurd w c_69⟩
          have he : e_load x r = 0 := by unfold e_load; exact ((if_neg (fun z => z h_2)).trans (if_pos hA)).trans (if_pos hBB)
          have hrv := (rdL_inv rInv_0 x.2.2).comp hA.2
          refine j_aload_n dX7_load_82 rfl ?_
          refine j_cVu dX7_load_83 hB mo_X7_save ml_X7_77 (sp_X7_save hB hc) (by first | exact h.k | exact hs.1 | exact hr.1 | exact hr.2.1.1 | exact hr.2.2.1.1 | exact hr.2.2.2.1.1 | exact hr.2.2.2.2.1.1 | exact hr.2.2.2.2.2.1.1 | exact hr.2.2.2.2.2.2.1.1 | exact hs.2.2.2.2.1.1 | exact hs.2.2.2.2.2.1.1 | exact hs.2.2.2.2.2.2.1.1 | exact h.t0.2.2 | exact h.rk.1 | exact h.rk.2.1.1 | exact h.rk.2.2.1.1 | exact h.rk.2.2.2.1.1 | exact h.rk.2.2.2.2.1 | exact h.tk.1 | exact h.tk.2.1.1 | exact h.tk.2.2.1.1 | exact h.tk.2.2.2.1.1 | exact h.tk.2.2.2.2.1.1 | exact h.tk.2.2.2.2.2.1.1 | exact h.tk.2.2.2.2.2.2.1.1 | exact h.tk.2.2.2.2.2.2.2.1 | exact h.tk2.1 | exact h.b.1.1) rfl rfl rfl rfl ⟨rfl, rfl, by decide, by decide⟩ (Nat.le_of_ble_eq_true rfl) ⟨by decide, by decide⟩ (fun V_83 h_83 => ?_)
          obtain ⟨gS, aS⟩ := h_83
          refine j_iconst (v := 0) dX7_load_86 (by decide) ?_
          refine j_istore_n (L' := [(0, _), (1, _), (2, _), (3, _)]) dX7_load_87 (by decide) rfl ?_
          obtain ⟨m, m1, m2, m3, m4, -⟩ := hrv
          have hBB1 := hBB.1
          have m1 : (xT x).1.length = m + 1 := m1
          have h0 : rTk (sR x.1 r.toInt) (xT x) 0 = sR x.1 r.toInt := by unfold rTk; simp
          have gS2 : cuIs T V_83 q (sSet x.1 r.toInt (rTk (sR x.1 r.toInt) (xT x) 0), xPush x, x.2.2) := by
            have e : sSet x.1 r.toInt (sR x.1 r.toInt) = x.1 := by
              unfold sSet sR
              by_cases e : r.toInt = 0
              · simp [e]
              · by_cases e1 : r.toInt = 1
                · simp [e1]
                · simp [e, e1]
            rw [h0, e]; exact gS
          exact loop (m + 1) 0 0 V_83 _ he ⟨m + 1, m1, m2, m3, m4, by unfold xR at hBB1; omega, by omega⟩ rfl rfl rfl rfl rfl (hrd.ag aS (by omega)) gS2 (a1'.tr (aS.wide (Nat.le_refl q) (by omega)))
        · refine j_throw dX7_load_72 dX7_load_75 dX7_load_76 dX7_load_78 dX7_load_81 hB rfl th_X7_load_72 (by decide) (Nat.le_of_ble_eq_true rfl) (by decide) (by decide) (by decide) (by decide) ?_
          exact fun sz1 hz => qC.thr 2 hz rfl (by show e_load x r = 3; unfold e_load; exact ((if_neg (fun z => z h_2)).trans (if_pos hA)).trans (if_neg (fun z => by rcases hps with ⟨w, _⟩ | ⟨_, w⟩; (rw [c_69] at w; exact absurd w (by decide)); exact w z.2))) a1' hc
    · refine j_throw dX7_load_29 dX7_load_32 dX7_load_33 dX7_load_35 dX7_load_38 hB rfl th_X7_load_29 (by decide) (Nat.le_of_ble_eq_true rfl) (by decide) (by decide) (by decide) (by decide) ?_
      exact fun sz1 hz => qC.thr 1 hz rfl (by show e_load x r = 2; unfold e_load; exact (if_neg (fun z => z h_2)).trans (if_neg (fun z => by rcases hco with ⟨w, _⟩ | ⟨_, w⟩; (rw [c_26] at w; exact absurd w (by decide)); exact w z.2))) a1' hc
set_option maxRecDepth 100000 in
set_option maxHeartbeats 4000000 in
theorem sp_X7_undo (hB : jB l s0 D) {q : Nat} {x : aX} (h : cuIs T V q x) (hW : xW x) : Sp l s0 D kX7_undo (jR 7 1 6) 1 6 [.ref q] T V X sz (qC T V X sz q (e_undo x) [IS] (pInt (v_undo x)) x (s_undo x)) := by
  refine Sp.of pn_X7_undo rfl (Nat.le_of_ble_eq_true rfl) ?_
  have hs := h.st
  obtain ⟨sv, o, ⟨h0, h1, h2, h3, h4, h5, h6, h7, h8, h9⟩, o6, n6, hU⟩ := id h
  have h3 : (V q 2).toInt = o := h3
  have h4 : (V q 3).toInt = x.2.1.length := h4
  refine j_aload_n dX7_undo_0 rfl ?_
  refine j_geti dX7_undo_1 hB fl_X7_199 (by first | exact h.k | exact (h2 _ hj).1 | exact hs.1 | exact hr.1 | exact hr.2.1.1 | exact hr.2.2.1.1 | exact hr.2.2.2.1.1 | exact hr.2.2.2.2.1.1 | exact hr.2.2.2.2.2.1.1 | exact hr.2.2.2.2.2.2.1.1 | exact hs.2.2.2.2.1.1 | exact hs.2.2.2.2.2.1.1 | exact hs.2.2.2.2.2.2.1.1 | exact h.t0.2.2 | exact h.rk.1 | exact h.rk.2.1.1 | exact h.rk.2.2.1.1 | exact h.rk.2.2.2.1.1 | exact h.rk.2.2.2.2.1 | exact h.tk.1 | exact h.tk.2.1.1 | exact h.tk.2.2.1.1 | exact h.tk.2.2.2.1.1 | exact h.tk.2.2.2.2.1.1 | exact h.tk.2.2.2.2.2.1.1 | exact h.tk.2.2.2.2.2.2.1.1 | exact h.tk.2.2.2.2.2.2.2.1 | exact h.tk2.1 | exact h.b.1.1) (by rfl) ?_
  refine j_if_gt (tgt := 17) dX7_undo_4 (by decide) (fun c_4 => ?_) (fun c_4 => ?_)
  · refine j_aload_n dX7_undo_17 rfl ?_
    refine j_aload_n dX7_undo_18 rfl ?_
    refine j_geti dX7_undo_19 hB fl_X7_199 (by first | exact h.k | exact (h2 _ hj).1 | exact hs.1 | exact hr.1 | exact hr.2.1.1 | exact hr.2.2.1.1 | exact hr.2.2.2.1.1 | exact hr.2.2.2.2.1.1 | exact hr.2.2.2.2.2.1.1 | exact hr.2.2.2.2.2.2.1.1 | exact hs.2.2.2.2.1.1 | exact hs.2.2.2.2.2.1.1 | exact hs.2.2.2.2.2.2.1.1 | exact h.t0.2.2 | exact h.rk.1 | exact h.rk.2.1.1 | exact h.rk.2.2.1.1 | exact h.rk.2.2.2.1.1 | exact h.rk.2.2.2.2.1 | exact h.tk.1 | exact h.tk.2.1.1 | exact h.tk.2.2.1.1 | exact h.tk.2.2.2.1.1 | exact h.tk.2.2.2.2.1.1 | exact h.tk.2.2.2.2.2.1.1 | exact h.tk.2.2.2.2.2.2.1.1 | exact h.tk.2.2.2.2.2.2.2.1 | exact h.tk2.1 | exact h.b.1.1) (by rfl) ?_
    refine j_iconst (v := 1) dX7_undo_22 (by decide) ?_
    refine j_isub dX7_undo_23 ?_
    refine j_cVa dX7_undo_24 hB mo_X7_savedAt ml_X7_204 (sp_X7_savedAt hB (k := x.2.1.length - 1) h0 h3 o6 (by rw [ti_sub (by rw [ti_1]; omega) (by rw [ti_1]; omega), ti_1, h4]; omega) (by omega)) (by first | exact h.k | exact (h2 _ hj).1 | exact hs.1 | exact hr.1 | exact hr.2.1.1 | exact hr.2.2.1.1 | exact hr.2.2.2.1.1 | exact hr.2.2.2.2.1.1 | exact hr.2.2.2.2.2.1.1 | exact hr.2.2.2.2.2.2.1.1 | exact hs.2.2.2.2.1.1 | exact hs.2.2.2.2.2.1.1 | exact hs.2.2.2.2.2.2.1.1 | exact h.t0.2.2 | exact h.rk.1 | exact h.rk.2.1.1 | exact h.rk.2.2.1.1 | exact h.rk.2.2.2.1.1 | exact h.rk.2.2.2.2.1 | exact h.tk.1 | exact h.tk.2.1.1 | exact h.tk.2.2.1.1 | exact h.tk.2.2.2.1.1 | exact h.tk.2.2.2.2.1.1 | exact h.tk.2.2.2.2.2.1.1 | exact h.tk.2.2.2.2.2.2.1.1 | exact h.tk.2.2.2.2.2.2.2.1 | exact h.tk2.1 | exact h.b.1.1) rfl rfl rfl rfl ⟨rfl, rfl, by decide, by decide⟩ (Nat.le_of_ble_eq_true rfl) ⟨by decide, by decide⟩ (fun r_24 V_24 h_24 => ?_)
    obtain ⟨rfl, hq⟩ := h_24
    subst hq
    have hj : (o + (x.2.1.length - 1)) % 6 < 6 := Nat.mod_lt _ (by decide)
    refine j_astore_n (L' := [(0, _), (1, _)]) dX7_undo_27 (by decide) rfl ?_
    refine j_aload_n dX7_undo_28 rfl ?_
    refine j_ifnull dX7_undo_29 ?_
    refine j_aload_n dX7_undo_32 rfl ?_
    refine j_getr dX7_undo_33 hB fl_X7_10 (by first | exact h.k | exact (h2 _ hj).1 | exact hs.1 | exact hr.1 | exact hr.2.1.1 | exact hr.2.2.1.1 | exact hr.2.2.2.1.1 | exact hr.2.2.2.2.1.1 | exact hr.2.2.2.2.2.1.1 | exact hr.2.2.2.2.2.2.1.1 | exact hs.2.2.2.2.1.1 | exact hs.2.2.2.2.2.1.1 | exact hs.2.2.2.2.2.2.1.1 | exact h.t0.2.2 | exact h.rk.1 | exact h.rk.2.1.1 | exact h.rk.2.2.1.1 | exact h.rk.2.2.2.1.1 | exact h.rk.2.2.2.2.1 | exact h.tk.1 | exact h.tk.2.1.1 | exact h.tk.2.2.1.1 | exact h.tk.2.2.2.1.1 | exact h.tk.2.2.2.2.1.1 | exact h.tk.2.2.2.2.2.1.1 | exact h.tk.2.2.2.2.2.2.1.1 | exact h.tk.2.2.2.2.2.2.2.1 | exact h.tk2.1 | exact h.b.1.1) (by rfl) ?_
    refine j_aload_n dX7_undo_36 rfl ?_
    refine j_cVu dX7_undo_37 hB mo_X5_takeFrom ml_X7_208 (sp_X5_takeFrom hB h1 (h2 _ hj) (by unfold svA; omega)) (by first | exact h.k | exact (h2 _ hj).1 | exact hs.1 | exact hr.1 | exact hr.2.1.1 | exact hr.2.2.1.1 | exact hr.2.2.2.1.1 | exact hr.2.2.2.2.1.1 | exact hr.2.2.2.2.2.1.1 | exact hr.2.2.2.2.2.2.1.1 | exact hs.2.2.2.2.1.1 | exact hs.2.2.2.2.2.1.1 | exact hs.2.2.2.2.2.2.1.1 | exact h.t0.2.2 | exact h.rk.1 | exact h.rk.2.1.1 | exact h.rk.2.2.1.1 | exact h.rk.2.2.2.1.1 | exact h.rk.2.2.2.2.1 | exact h.tk.1 | exact h.tk.2.1.1 | exact h.tk.2.2.1.1 | exact h.tk.2.2.2.1.1 | exact h.tk.2.2.2.2.1.1 | exact h.tk.2.2.2.2.2.1.1 | exact h.tk.2.2.2.2.2.2.1.1 | exact h.tk.2.2.2.2.2.2.2.1 | exact h.tk2.1 | exact h.b.1.1) rfl rfl rfl rfl ⟨rfl, rfl, by decide, by decide⟩ (Nat.le_of_ble_eq_true rfl) ⟨by decide, by decide⟩ (fun V_37 h_37 => ?_)
    obtain ⟨g, a⟩ := h_37
    have hk2 : (V_37 q 3 - 1).toInt = ((x.2.1.length - 1 : Nat) : Int) := by rw [a q (by omega), ti_sub (by rw [ti_1]; omega) (by rw [ti_1]; omega), ti_1, h4]; omega
    refine j_aload_n dX7_undo_40 rfl ?_
    refine j_dup dX7_undo_41 rfl ?_
    refine j_geti dX7_undo_42 hB fl_X7_199 (by first | exact h.k | exact (h2 _ hj).1 | exact hs.1 | exact hr.1 | exact hr.2.1.1 | exact hr.2.2.1.1 | exact hr.2.2.2.1.1 | exact hr.2.2.2.2.1.1 | exact hr.2.2.2.2.2.1.1 | exact hr.2.2.2.2.2.2.1.1 | exact hs.2.2.2.2.1.1 | exact hs.2.2.2.2.2.1.1 | exact hs.2.2.2.2.2.2.1.1 | exact h.t0.2.2 | exact h.rk.1 | exact h.rk.2.1.1 | exact h.rk.2.2.1.1 | exact h.rk.2.2.2.1.1 | exact h.rk.2.2.2.2.1 | exact h.tk.1 | exact h.tk.2.1.1 | exact h.tk.2.2.1.1 | exact h.tk.2.2.2.1.1 | exact h.tk.2.2.2.2.1.1 | exact h.tk.2.2.2.2.2.1.1 | exact h.tk.2.2.2.2.2.2.1.1 | exact h.tk.2.2.2.2.2.2.2.1 | exact h.tk2.1 | exact h.b.1.1) (by rfl) ?_
    refine j_iconst (v := 1) dX7_undo_45 (by decide) ?_
    refine j_isub dX7_undo_46 ?_
    refine j_puti dX7_undo_47 hB fp_X7_undo_199 (by first | exact h.k | exact (h2 _ hj).1 | exact hs.1 | exact hr.1 | exact hr.2.1.1 | exact hr.2.2.1.1 | exact hr.2.2.2.1.1 | exact hr.2.2.2.2.1.1 | exact hr.2.2.2.2.2.1.1 | exact hr.2.2.2.2.2.2.1.1 | exact hs.2.2.2.2.1.1 | exact hs.2.2.2.2.2.1.1 | exact hs.2.2.2.2.2.2.1.1 | exact h.t0.2.2 | exact h.rk.1 | exact h.rk.2.1.1 | exact h.rk.2.2.1.1 | exact h.rk.2.2.2.1.1 | exact h.rk.2.2.2.2.1 | exact h.tk.1 | exact h.tk.2.1.1 | exact h.tk.2.2.1.1 | exact h.tk.2.2.2.1.1 | exact h.tk.2.2.2.2.1.1 | exact h.tk.2.2.2.2.2.1.1 | exact h.tk.2.2.2.2.2.2.1.1 | exact h.tk.2.2.2.2.2.2.2.1 | exact h.tk2.1 | exact h.b.1.1) (by rfl) ?_
    refine j_aload_n dX7_undo_50 rfl ?_
    refine j_geti dX7_undo_51 hB fl_X7_199 (by first | exact h.k | exact (h2 _ hj).1 | exact hs.1 | exact hr.1 | exact hr.2.1.1 | exact hr.2.2.1.1 | exact hr.2.2.2.1.1 | exact hr.2.2.2.2.1.1 | exact hr.2.2.2.2.2.1.1 | exact hr.2.2.2.2.2.2.1.1 | exact hs.2.2.2.2.1.1 | exact hs.2.2.2.2.2.1.1 | exact hs.2.2.2.2.2.2.1.1 | exact h.t0.2.2 | exact h.rk.1 | exact h.rk.2.1.1 | exact h.rk.2.2.1.1 | exact h.rk.2.2.2.1.1 | exact h.rk.2.2.2.2.1 | exact h.tk.1 | exact h.tk.2.1.1 | exact h.tk.2.2.1.1 | exact h.tk.2.2.2.1.1 | exact h.tk.2.2.2.2.1.1 | exact h.tk.2.2.2.2.2.1.1 | exact h.tk.2.2.2.2.2.2.1.1 | exact h.tk.2.2.2.2.2.2.2.1 | exact h.tk2.1 | exact h.b.1.1) (by rfl) ?_
    refine j_iret dX7_undo_54 rfl (rfl) (by decide) (by decide) ?_
    have w : jAg V_37 (jset V_37 q 3 (V_37 q 3 - 1)) q (q + 1) := jAg.f1
    have hal : jAg V (jset V_37 q 3 (V_37 q 3 - 1)) q (q + 65) := (a.wide (by omega) (by omega)).tr (w.wide (Nat.le_refl _) (by omega))
    have hlast : x.2.1.getLastD x.1 = sv ((o + (x.2.1.length - 1)) % 6) := by
      have e := hU (x.2.1.length - 1) (by omega)
      rw [← List.getLast?_eq_getElem?] at e
      rw [List.getLastD_eq_getLast?, e]; rfl
    have hlen : x.2.1.dropLast.length = x.2.1.length - 1 := List.length_dropLast
    refine qC.ret (by unfold e_undo; exact if_neg (by omega)) ⟨_, rfl, by rw [jset_eq, hk2]; unfold v_undo; omega⟩ (hal.wide (Nat.le_refl q) (by omega)) ⟨sv, o, ⟨h0, ?_, fun i hi => ((h2 i hi).ag a (by unfold svA; omega)).ag w (by unfold svA; omega), ?_, ?_, h5.ag hal (by omega), by rw [Rw_ag hal (by omega)]; exact h6, h7.ag hal (by omega), h8.ag hal (by omega), h9.ag hal (by omega)⟩, o6, ?_, fun i hi => ?_⟩
    · show StOK T _ (q + 1) (x.2.1.getLastD x.1)
      rw [hlast]; exact g.ag w (by omega)
    · show (jset V_37 q 3 (V_37 q 3 - 1) q 2).toInt = o
      rw [jset_ne (Or.inr (by decide)), a q (by omega)]; exact h3
    · show (jset V_37 q 3 (V_37 q 3 - 1) q 3).toInt = (x.2.1.dropLast.length : Int)
      rw [jset_eq, hk2, hlen]
    · show x.2.1.dropLast.length ≤ 6
      omega
    · have hi : i < x.2.1.dropLast.length := hi
      show x.2.1.dropLast[i]? = _
      rw [List.getElem?_dropLast, if_pos (by omega)]
      exact hU i (by omega)
  · refine j_throw dX7_undo_7 dX7_undo_10 dX7_undo_11 dX7_undo_13 dX7_undo_16 hB rfl th_X7_undo_7 (by decide) (Nat.le_of_ble_eq_true rfl) (by decide) (by decide) (by decide) (by decide) ?_
    exact fun sz1 hz => qC.thr 0 hz rfl (by show e_undo x = 1; unfold e_undo; exact if_pos (by omega)) jAg.rf h
end JCu5
