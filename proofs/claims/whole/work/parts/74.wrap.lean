/-! the law's own methods: a call of the class, its exceptions counted -/
/-- what is no what -/
def jN (s0 : State) : Prop := va_Nc IA IO s0 ∧ va_Nc IS IO s0 ∧ va_Nc IS IA s0
theorem jN.of {s0 s : State} (h : jN s0) (hW : s0.WarmedH s.vm) {E F : String} (he : (E, F) ∈ [(IA, IO), (IS, IO), (IS, IA)]) : va_Nc E F s := by
  obtain ⟨h1, h2, h3⟩ := h
  rcases List.mem_cons.mp he with e | he
  · cases e; exact h1.moved hW.alike
  · rcases List.mem_cons.mp he with e | he
    · cases e; exact h2.moved hW.alike
    · cases List.mem_singleton.mp he; exact h3.moved hW.alike
section JW0
variable {l : Launch} {s0 : State} {D : jD} {M : jM} {R : Room} {mc ms : Nat} {Q : jQ} {pc : Nat} {L : List (Nat × Value)} {st rest : List Value} {T : jT} {V : jV} {X : jX} {sz c n : Nat}
theorem jx_catch {E : String} {pre suf : List (Nat × Nat × Nat × Nat)} {x : Nat × Nat × Nat × Nat} (hB : jB l s0 D) (hN : jN s0) (hsp : M.2.2.2.2 = pre ++ x :: suf) (hpass : ∀ z ∈ pre, z.2.2.2 ≠ 0 ∧ ∃ nm : String, (Cond.classLink M.1.cls z.2.2.2 nm ∈ lw_tbl ∧ goodWord (Cond.classLink M.1.cls z.2.2.2 nm) = true) ∧ (E, nm) ∈ [(IA, IO), (IS, IO), (IS, IA)]) (hx : covers ⟨x.1, x.2.1, x.2.2.1, x.2.2.2⟩ pc = true) (h0 : x.2.2.2 ≠ 0) (hlk : Cond.classLink M.1.cls x.2.2.2 E ∈ lw_tbl) (hgl : goodWord (Cond.classLink M.1.cls x.2.2.2 E) = true) (hcast : Cond.castable E E ∈ lw_tbl)
    (K : ∀ q : Nat, J l s0 D M R mc ms Q x.2.2.1 L [.ref q] T V X sz c n) : JX l s0 D M R mc ms Q pc L E T V X sz c n := by
  intro p e s m args below meth cd H locs ls rest q ce hC hH hl hce hcv hcl
  have hW := hC.2.2.2.2.2.2.1
  have ht : cd.exceptionTable.toList = tableOf M.2.2.2.2 := hC.2.2.2.2.2.2.2.2
  refine vx_catch hC.2.2.2.2.1 (tableOf pre) ⟨x.1, x.2.1, x.2.2.1, x.2.2.2⟩ (tableOf suf) (by rw [ht, hsp]; unfold tableOf; rw [List.map_append, List.map_cons]) (fun z hz => ?_) hx h0 (hB.word hW hlk hgl args) (hB.cast hW hcast args) hce hcv hcl (K q p e s m args below meth cd H locs ls hC hH hl)
  obtain ⟨y, hy, rfl⟩ := List.mem_map.mp hz
  obtain ⟨y0, nm, y1, y2⟩ := hpass y hy
  exact Or.inr ⟨y0, nm, hB.word hW y1.1 y1.2 args, hN.of hW y2⟩
end JW0
/-- what a wrapper answers: the exception's number; the answer in the array a of longs -/
def qW (T : jT) (V : jV) (X : jX) (sz q a : Nat) (e : Nat) (v : Int) (x x' : aX) : jQ := fun o T' V' X' sz' => ∃ k : Int32, o = .inl (some (.int k)) ∧ T = T' ∧ sz ≤ sz' ∧ jAg V V' q (q + 492) ∧ isI k e ∧ (e = 0 → cuIs T V' q x' ∧ ∃ r : Int32, X' = (jset X.1 a 0 r.toInt64, X.2) ∧ isI r v) ∧ (¬ e = 0 → cuIs T V' q x ∧ X' = X)
def qWD (T : jT) (V : jV) (X : jX) (sz q a : Nat) (e : Nat) (v : UInt64) (x : aX) : jQ := fun o T' V' X' sz' => ∃ k : Int32, o = .inl (some (.int k)) ∧ T = T' ∧ sz ≤ sz' ∧ jAg V V' q (q + 492) ∧ isI k e ∧ (e = 0 → cuIs T V' q x ∧ X' = (X.1, jset X.2 a 0 v)) ∧ (¬ e = 0 → cuIs T V' q x ∧ X' = X)
section JW
variable {l : Launch} {s0 : State} {D : jD} {T : jT} {V : jV} {X : jX} {sz : Nat}
set_option maxRecDepth 100000 in
set_option maxHeartbeats 4000000 in
theorem sp_L_addScene (hB : jB l s0 D) (hN : jN s0) {q a : Nat} {x : aX} {r len : Int32} (h : cuIs T V q x) (hW : xW x) (hT : T a = some (kJ 1)) : SpH l s0 D kL_addScene (jR 9 3 18) 3 18 [.ref q, .int r, .int len, .ref a] T V X sz (qW T V X sz q a (e_add x r len) (v_add x r) x (s_add x r len)) := by
  refine SpH.of pn_L_addScene (Nat.le_of_ble_eq_true rfl) ?_
  refine j_aload_n dL_addScene_0 rfl ?_
  refine j_iconst (v := 0) dL_addScene_1 (by decide) ?_
  refine j_aload_n dL_addScene_2 rfl ?_
  refine j_iload_n dL_addScene_3 rfl ?_
  refine j_iload_n dL_addScene_4 rfl ?_
  refine j_callV dL_addScene_5 hB mo_X7_addScene ml_L_7 (sp_X7_addScene hB h hW) h.k rfl rfl rfl rfl ⟨rfl, rfl, by decide, by decide⟩ (Nat.le_of_ble_eq_true rfl) ⟨by decide, Nat.le_of_ble_eq_true rfl⟩ ?_ ?_
  · rintro v' T' V' X' sz' ⟨rfl, rfl, ha, ⟨v2, h1, rfl, he, hv, hc⟩ | ⟨E, k, h1, -⟩⟩
    · cases h1
      obtain ⟨r, rfl, hr⟩ := hv
      refine j_i2l dL_addScene_8 ?_
      refine j_last dL_addScene_9 hB hT (by decide) (by decide) ?_
      refine j_goto (tgt := 25) dL_addScene_10 (by decide) ?_
      refine j_iconst (v := 0) dL_addScene_25 (by decide) ?_
      refine j_iret dL_addScene_26 rfl rfl (by decide) (Nat.le_of_ble_eq_true rfl) ?_
      exact ⟨_, rfl, rfl, Nat.le_refl _, ha, by rw [he]; rfl, fun _ => ⟨hc, r, rfl, hr⟩, fun z => absurd he z⟩
    · cases h1
  · rintro E T' V' X' sz' ⟨rfl, rfl, ha, ⟨v2, h1, -⟩ | ⟨E2, k, h1, hz, hE, he, hc⟩⟩
    · cases h1
    · cases h1
      rcases k with _ | k
      · cases hE
        refine jx_catch (pre := []) (x := (0, 10, 13, 13)) (suf := [(0, 10, 17, 15), (0, 10, 21, 17)]) hB hN rfl (fun z9 h9 => nomatch h9) (by decide) (by decide) (j_tb (List.mem_of_getElem? (i := 555) (by decide +kernel))) rfl (j_tb (List.mem_of_getElem? (i := 568) (by decide +kernel))) (fun qx => ?_)
        refine j_astore (L' := [(0, _), (1, _), (2, _), (3, _), (4, _)]) dL_addScene_13 (by decide) rfl ?_
        refine j_iconst (v := 1) dL_addScene_15 (by decide) ?_
        refine j_iret dL_addScene_16 rfl rfl (by decide) (Nat.le_of_ble_eq_true rfl) ?_
        exact ⟨_, rfl, rfl, hz, ha, by rw [he]; rfl, fun z => absurd z (by omega), fun _ => ⟨hc, rfl⟩⟩
      · skip
        rcases k with _ | k
        · cases hE
          refine jx_catch (pre := [(0, 10, 13, 13)]) (x := (0, 10, 17, 15)) (suf := [(0, 10, 21, 17)]) hB hN rfl (List.forall_mem_cons.mpr ⟨⟨by decide, IO, ⟨j_tb (List.mem_of_getElem? (i := 555) (by decide +kernel)), rfl⟩, by decide⟩, fun z9 h9 => nomatch h9⟩) (by decide) (by decide) (j_tb (List.mem_of_getElem? (i := 556) (by decide +kernel))) rfl (j_tb (List.mem_of_getElem? (i := 639) (by decide +kernel))) (fun qx => ?_)
          refine j_astore (L' := [(0, _), (1, _), (2, _), (3, _), (4, _)]) dL_addScene_17 (by decide) rfl ?_
          refine j_iconst (v := 2) dL_addScene_19 (by decide) ?_
          refine j_iret dL_addScene_20 rfl rfl (by decide) (Nat.le_of_ble_eq_true rfl) ?_
          exact ⟨_, rfl, rfl, hz, ha, by rw [he]; rfl, fun z => absurd z (by omega), fun _ => ⟨hc, rfl⟩⟩
        · skip
          rcases k with _ | k
          · cases hE
            refine jx_catch (pre := [(0, 10, 13, 13), (0, 10, 17, 15)]) (x := (0, 10, 21, 17)) (suf := []) hB hN rfl (List.forall_mem_cons.mpr ⟨⟨by decide, IO, ⟨j_tb (List.mem_of_getElem? (i := 555) (by decide +kernel)), rfl⟩, by decide⟩, List.forall_mem_cons.mpr ⟨⟨by decide, IA, ⟨j_tb (List.mem_of_getElem? (i := 556) (by decide +kernel)), rfl⟩, by decide⟩, fun z9 h9 => nomatch h9⟩⟩) (by decide) (by decide) (j_tb (List.mem_of_getElem? (i := 557) (by decide +kernel))) rfl (j_tb (List.mem_of_getElem? (i := 655) (by decide +kernel))) (fun qx => ?_)
            refine j_astore (L' := [(0, _), (1, _), (2, _), (3, _), (4, _)]) dL_addScene_21 (by decide) rfl ?_
            refine j_iconst (v := 3) dL_addScene_23 (by decide) ?_
            refine j_iret dL_addScene_24 rfl rfl (by decide) (Nat.le_of_ble_eq_true rfl) ?_
            exact ⟨_, rfl, rfl, hz, ha, by rw [he]; rfl, fun z => absurd z (by omega), fun _ => ⟨hc, rfl⟩⟩
          · cases hE
set_option maxRecDepth 100000 in
set_option maxHeartbeats 4000000 in
theorem sp_L_removeScene (hB : jB l s0 D) (hN : jN s0) {q a : Nat} {x : aX} {r s : Int32} (h : cuIs T V q x) (hW : xW x) (hT : T a = some (kJ 1)) : SpH l s0 D kL_removeScene (jR 9 2 12) 2 12 [.ref q, .int r, .int s, .ref a] T V X sz (qW T V X sz q a (e_rem x r s) (v_rem x r) x (s_rem x r s)) := by
  refine SpH.of pn_L_removeScene (Nat.le_of_ble_eq_true rfl) ?_
  refine j_aload_n dL_removeScene_0 rfl ?_
  refine j_iconst (v := 0) dL_removeScene_1 (by decide) ?_
  refine j_aload_n dL_removeScene_2 rfl ?_
  refine j_iload_n dL_removeScene_3 rfl ?_
  refine j_iload_n dL_removeScene_4 rfl ?_
  refine j_callV dL_removeScene_5 hB mo_X7_removeScene ml_L_19 (sp_X7_removeScene hB h hW) h.k rfl rfl rfl rfl ⟨rfl, rfl, by decide, by decide⟩ (Nat.le_of_ble_eq_true rfl) ⟨by decide, Nat.le_of_ble_eq_true rfl⟩ ?_ ?_
  · rintro v' T' V' X' sz' ⟨rfl, rfl, ha, ⟨v2, h1, rfl, he, hv, hc⟩ | ⟨E, k, h1, -⟩⟩
    · cases h1
      obtain ⟨r, rfl, hr⟩ := hv
      refine j_i2l dL_removeScene_8 ?_
      refine j_last dL_removeScene_9 hB hT (by decide) (by decide) ?_
      refine j_goto (tgt := 17) dL_removeScene_10 (by decide) ?_
      refine j_iconst (v := 0) dL_removeScene_17 (by decide) ?_
      refine j_iret dL_removeScene_18 rfl rfl (by decide) (Nat.le_of_ble_eq_true rfl) ?_
      exact ⟨_, rfl, rfl, Nat.le_refl _, ha, by rw [he]; rfl, fun _ => ⟨hc, r, rfl, hr⟩, fun z => absurd he z⟩
    · cases h1
  · rintro E T' V' X' sz' ⟨rfl, rfl, ha, ⟨v2, h1, -⟩ | ⟨E2, k, h1, hz, hE, he, hc⟩⟩
    · cases h1
    · cases h1
      rcases k with _ | k
      · cases hE
        refine jx_catch (pre := []) (x := (0, 10, 13, 13)) (suf := []) hB hN rfl (fun z9 h9 => nomatch h9) (by decide) (by decide) (j_tb (List.mem_of_getElem? (i := 555) (by decide +kernel))) rfl (j_tb (List.mem_of_getElem? (i := 568) (by decide +kernel))) (fun qx => ?_)
        refine j_astore (L' := [(0, _), (1, _), (2, _), (3, _), (4, _)]) dL_removeScene_13 (by decide) rfl ?_
        refine j_iconst (v := 1) dL_removeScene_15 (by decide) ?_
        refine j_iret dL_removeScene_16 rfl rfl (by decide) (Nat.le_of_ble_eq_true rfl) ?_
        exact ⟨_, rfl, rfl, hz, ha, by rw [he]; rfl, fun z => absurd z (by omega), fun _ => ⟨hc, rfl⟩⟩
      · cases hE
set_option maxRecDepth 100000 in
set_option maxHeartbeats 4000000 in
theorem sp_L_crank (hB : jB l s0 D) (hN : jN s0) {q a : Nat} {x : aX} {r f v : Int32} (h : cuIs T V q x) (hW : xW x) (hT : T a = some (kJ 1)) : SpH l s0 D kL_crank (jR 9 4 24) 4 24 [.ref q, .int r, .int f, .int v, .ref a] T V X sz (qW T V X sz q a (e_crank x r f v) (v_crank x r f v) x (s_crank x r f v)) := by
  refine SpH.of pn_L_crank (Nat.le_of_ble_eq_true rfl) ?_
  refine j_aload dL_crank_0 rfl ?_
  refine j_iconst (v := 0) dL_crank_2 (by decide) ?_
  refine j_aload_n dL_crank_3 rfl ?_
  refine j_iload_n dL_crank_4 rfl ?_
  refine j_iload_n dL_crank_5 rfl ?_
  refine j_iload_n dL_crank_6 rfl ?_
  refine j_callV dL_crank_7 hB mo_X7_crank ml_L_22 (sp_X7_crank hB h hW) h.k rfl rfl rfl rfl ⟨rfl, rfl, by decide, by decide⟩ (Nat.le_of_ble_eq_true rfl) ⟨by decide, Nat.le_of_ble_eq_true rfl⟩ ?_ ?_
  · rintro v' T' V' X' sz' ⟨rfl, rfl, ha, ⟨v2, h1, rfl, he, hv, hc⟩ | ⟨E, k, h1, -⟩⟩
    · cases h1
      obtain ⟨r, rfl, hr⟩ := hv
      refine j_i2l dL_crank_10 ?_
      refine j_last dL_crank_11 hB hT (by decide) (by decide) ?_
      refine j_goto (tgt := 27) dL_crank_12 (by decide) ?_
      refine j_iconst (v := 0) dL_crank_27 (by decide) ?_
      refine j_iret dL_crank_28 rfl rfl (by decide) (Nat.le_of_ble_eq_true rfl) ?_
      exact ⟨_, rfl, rfl, Nat.le_refl _, ha, by rw [he]; rfl, fun _ => ⟨hc, r, rfl, hr⟩, fun z => absurd he z⟩
    · cases h1
  · rintro E T' V' X' sz' ⟨rfl, rfl, ha, ⟨v2, h1, -⟩ | ⟨E2, k, h1, hz, hE, he, hc⟩⟩
    · cases h1
    · cases h1
      rcases k with _ | k
      · cases hE
        refine jx_catch (pre := []) (x := (0, 12, 15, 13)) (suf := [(0, 12, 19, 15), (0, 12, 23, 17)]) hB hN rfl (fun z9 h9 => nomatch h9) (by decide) (by decide) (j_tb (List.mem_of_getElem? (i := 555) (by decide +kernel))) rfl (j_tb (List.mem_of_getElem? (i := 568) (by decide +kernel))) (fun qx => ?_)
        refine j_astore (L' := [(0, _), (1, _), (2, _), (3, _), (4, _), (5, _)]) dL_crank_15 (by decide) rfl ?_
        refine j_iconst (v := 1) dL_crank_17 (by decide) ?_
        refine j_iret dL_crank_18 rfl rfl (by decide) (Nat.le_of_ble_eq_true rfl) ?_
        exact ⟨_, rfl, rfl, hz, ha, by rw [he]; rfl, fun z => absurd z (by omega), fun _ => ⟨hc, rfl⟩⟩
      · skip
        rcases k with _ | k
        · cases hE
          refine jx_catch (pre := [(0, 12, 15, 13)]) (x := (0, 12, 19, 15)) (suf := [(0, 12, 23, 17)]) hB hN rfl (List.forall_mem_cons.mpr ⟨⟨by decide, IO, ⟨j_tb (List.mem_of_getElem? (i := 555) (by decide +kernel)), rfl⟩, by decide⟩, fun z9 h9 => nomatch h9⟩) (by decide) (by decide) (j_tb (List.mem_of_getElem? (i := 556) (by decide +kernel))) rfl (j_tb (List.mem_of_getElem? (i := 639) (by decide +kernel))) (fun qx => ?_)
          refine j_astore (L' := [(0, _), (1, _), (2, _), (3, _), (4, _), (5, _)]) dL_crank_19 (by decide) rfl ?_
          refine j_iconst (v := 2) dL_crank_21 (by decide) ?_
          refine j_iret dL_crank_22 rfl rfl (by decide) (Nat.le_of_ble_eq_true rfl) ?_
          exact ⟨_, rfl, rfl, hz, ha, by rw [he]; rfl, fun z => absurd z (by omega), fun _ => ⟨hc, rfl⟩⟩
        · skip
          rcases k with _ | k
          · cases hE
            refine jx_catch (pre := [(0, 12, 15, 13), (0, 12, 19, 15)]) (x := (0, 12, 23, 17)) (suf := []) hB hN rfl (List.forall_mem_cons.mpr ⟨⟨by decide, IO, ⟨j_tb (List.mem_of_getElem? (i := 555) (by decide +kernel)), rfl⟩, by decide⟩, List.forall_mem_cons.mpr ⟨⟨by decide, IA, ⟨j_tb (List.mem_of_getElem? (i := 556) (by decide +kernel)), rfl⟩, by decide⟩, fun z9 h9 => nomatch h9⟩⟩) (by decide) (by decide) (j_tb (List.mem_of_getElem? (i := 557) (by decide +kernel))) rfl (j_tb (List.mem_of_getElem? (i := 655) (by decide +kernel))) (fun qx => ?_)
            refine j_astore (L' := [(0, _), (1, _), (2, _), (3, _), (4, _), (5, _)]) dL_crank_23 (by decide) rfl ?_
            refine j_iconst (v := 3) dL_crank_25 (by decide) ?_
            refine j_iret dL_crank_26 rfl rfl (by decide) (Nat.le_of_ble_eq_true rfl) ?_
            exact ⟨_, rfl, rfl, hz, ha, by rw [he]; rfl, fun z => absurd z (by omega), fun _ => ⟨hc, rfl⟩⟩
          · cases hE
set_option maxRecDepth 100000 in
set_option maxHeartbeats 4000000 in
theorem sp_L_splice (hB : jB l s0 D) (hN : jN s0) {q a : Nat} {x : aX} {r f v : Int32} (h : cuIs T V q x) (hW : xW x) (hT : T a = some (kJ 1)) : SpH l s0 D kL_splice (jR 9 4 24) 4 24 [.ref q, .int r, .int f, .int v, .ref a] T V X sz (qW T V X sz q a (e_spl x r f v) (v_spl x r f v) x (s_spl x r f v)) := by
  refine SpH.of pn_L_splice (Nat.le_of_ble_eq_true rfl) ?_
  refine j_aload dL_splice_0 rfl ?_
  refine j_iconst (v := 0) dL_splice_2 (by decide) ?_
  refine j_aload_n dL_splice_3 rfl ?_
  refine j_iload_n dL_splice_4 rfl ?_
  refine j_iload_n dL_splice_5 rfl ?_
  refine j_iload_n dL_splice_6 rfl ?_
  refine j_callV dL_splice_7 hB mo_X7_splice ml_L_26 (sp_X7_splice hB h hW) h.k rfl rfl rfl rfl ⟨rfl, rfl, by decide, by decide⟩ (Nat.le_of_ble_eq_true rfl) ⟨by decide, Nat.le_of_ble_eq_true rfl⟩ ?_ ?_
  · rintro v' T' V' X' sz' ⟨rfl, rfl, ha, ⟨v2, h1, rfl, he, hv, hc⟩ | ⟨E, k, h1, -⟩⟩
    · cases h1
      obtain ⟨r, rfl, hr⟩ := hv
      refine j_i2l dL_splice_10 ?_
      refine j_last dL_splice_11 hB hT (by decide) (by decide) ?_
      refine j_goto (tgt := 27) dL_splice_12 (by decide) ?_
      refine j_iconst (v := 0) dL_splice_27 (by decide) ?_
      refine j_iret dL_splice_28 rfl rfl (by decide) (Nat.le_of_ble_eq_true rfl) ?_
      exact ⟨_, rfl, rfl, Nat.le_refl _, ha, by rw [he]; rfl, fun _ => ⟨hc, r, rfl, hr⟩, fun z => absurd he z⟩
    · cases h1
  · rintro E T' V' X' sz' ⟨rfl, rfl, ha, ⟨v2, h1, -⟩ | ⟨E2, k, h1, hz, hE, he, hc⟩⟩
    · cases h1
    · cases h1
      rcases k with _ | k
      · cases hE
        refine jx_catch (pre := []) (x := (0, 12, 15, 13)) (suf := [(0, 12, 19, 15), (0, 12, 23, 17)]) hB hN rfl (fun z9 h9 => nomatch h9) (by decide) (by decide) (j_tb (List.mem_of_getElem? (i := 555) (by decide +kernel))) rfl (j_tb (List.mem_of_getElem? (i := 568) (by decide +kernel))) (fun qx => ?_)
        refine j_astore (L' := [(0, _), (1, _), (2, _), (3, _), (4, _), (5, _)]) dL_splice_15 (by decide) rfl ?_
        refine j_iconst (v := 1) dL_splice_17 (by decide) ?_
        refine j_iret dL_splice_18 rfl rfl (by decide) (Nat.le_of_ble_eq_true rfl) ?_
        exact ⟨_, rfl, rfl, hz, ha, by rw [he]; rfl, fun z => absurd z (by omega), fun _ => ⟨hc, rfl⟩⟩
      · skip
        rcases k with _ | k
        · cases hE
          refine jx_catch (pre := [(0, 12, 15, 13)]) (x := (0, 12, 19, 15)) (suf := [(0, 12, 23, 17)]) hB hN rfl (List.forall_mem_cons.mpr ⟨⟨by decide, IO, ⟨j_tb (List.mem_of_getElem? (i := 555) (by decide +kernel)), rfl⟩, by decide⟩, fun z9 h9 => nomatch h9⟩) (by decide) (by decide) (j_tb (List.mem_of_getElem? (i := 556) (by decide +kernel))) rfl (j_tb (List.mem_of_getElem? (i := 639) (by decide +kernel))) (fun qx => ?_)
          refine j_astore (L' := [(0, _), (1, _), (2, _), (3, _), (4, _), (5, _)]) dL_splice_19 (by decide) rfl ?_
          refine j_iconst (v := 2) dL_splice_21 (by decide) ?_
          refine j_iret dL_splice_22 rfl rfl (by decide) (Nat.le_of_ble_eq_true rfl) ?_
          exact ⟨_, rfl, rfl, hz, ha, by rw [he]; rfl, fun z => absurd z (by omega), fun _ => ⟨hc, rfl⟩⟩
        · skip
          rcases k with _ | k
          · cases hE
            refine jx_catch (pre := [(0, 12, 15, 13), (0, 12, 19, 15)]) (x := (0, 12, 23, 17)) (suf := []) hB hN rfl (List.forall_mem_cons.mpr ⟨⟨by decide, IO, ⟨j_tb (List.mem_of_getElem? (i := 555) (by decide +kernel)), rfl⟩, by decide⟩, List.forall_mem_cons.mpr ⟨⟨by decide, IA, ⟨j_tb (List.mem_of_getElem? (i := 556) (by decide +kernel)), rfl⟩, by decide⟩, fun z9 h9 => nomatch h9⟩⟩) (by decide) (by decide) (j_tb (List.mem_of_getElem? (i := 557) (by decide +kernel))) rfl (j_tb (List.mem_of_getElem? (i := 655) (by decide +kernel))) (fun qx => ?_)
            refine j_astore (L' := [(0, _), (1, _), (2, _), (3, _), (4, _), (5, _)]) dL_splice_23 (by decide) rfl ?_
            refine j_iconst (v := 3) dL_splice_25 (by decide) ?_
            refine j_iret dL_splice_26 rfl rfl (by decide) (Nat.le_of_ble_eq_true rfl) ?_
            exact ⟨_, rfl, rfl, hz, ha, by rw [he]; rfl, fun z => absurd z (by omega), fun _ => ⟨hc, rfl⟩⟩
          · cases hE
set_option maxRecDepth 100000 in
set_option maxHeartbeats 4000000 in
theorem sp_L_addPiece (hB : jB l s0 D) (hN : jN s0) {q a : Nat} {x : aX} {a1 b1 c1 : Int32} (h : cuIs T V q x) (hW : xW x) (hT : T a = some (kJ 1)) : SpH l s0 D kL_addPiece (jR 9 4 24) 4 24 [.ref q, .int a1, .int b1, .int c1, .ref a] T V X sz (qW T V X sz q a (e_pc x a1 b1 c1) (v_pc x) x (s_pc x a1 b1 c1)) := by
  refine SpH.of pn_L_addPiece (Nat.le_of_ble_eq_true rfl) ?_
  refine j_aload dL_addPiece_0 rfl ?_
  refine j_iconst (v := 0) dL_addPiece_2 (by decide) ?_
  refine j_aload_n dL_addPiece_3 rfl ?_
  refine j_iload_n dL_addPiece_4 rfl ?_
  refine j_iload_n dL_addPiece_5 rfl ?_
  refine j_iload_n dL_addPiece_6 rfl ?_
  refine j_callV dL_addPiece_7 hB mo_X7_addPiece ml_L_29 (sp_X7_addPiece hB h hW) h.k rfl rfl rfl rfl ⟨rfl, rfl, by decide, by decide⟩ (Nat.le_of_ble_eq_true rfl) ⟨by decide, Nat.le_of_ble_eq_true rfl⟩ ?_ ?_
  · rintro v' T' V' X' sz' ⟨rfl, rfl, ha, ⟨v2, h1, rfl, he, hv, hc⟩ | ⟨E, k, h1, -⟩⟩
    · cases h1
      obtain ⟨r, rfl, hr⟩ := hv
      refine j_i2l dL_addPiece_10 ?_
      refine j_last dL_addPiece_11 hB hT (by decide) (by decide) ?_
      refine j_goto (tgt := 23) dL_addPiece_12 (by decide) ?_
      refine j_iconst (v := 0) dL_addPiece_23 (by decide) ?_
      refine j_iret dL_addPiece_24 rfl rfl (by decide) (Nat.le_of_ble_eq_true rfl) ?_
      exact ⟨_, rfl, rfl, Nat.le_refl _, ha, by rw [he]; rfl, fun _ => ⟨hc, r, rfl, hr⟩, fun z => absurd he z⟩
    · cases h1
  · rintro E T' V' X' sz' ⟨rfl, rfl, ha, ⟨v2, h1, -⟩ | ⟨E2, k, h1, hz, hE, he, hc⟩⟩
    · cases h1
    · cases h1
      rcases k with _ | k
      · cases hE
        refine jx_catch (pre := []) (x := (0, 12, 15, 15)) (suf := [(0, 12, 19, 17)]) hB hN rfl (fun z9 h9 => nomatch h9) (by decide) (by decide) (j_tb (List.mem_of_getElem? (i := 556) (by decide +kernel))) rfl (j_tb (List.mem_of_getElem? (i := 639) (by decide +kernel))) (fun qx => ?_)
        refine j_astore (L' := [(0, _), (1, _), (2, _), (3, _), (4, _), (5, _)]) dL_addPiece_15 (by decide) rfl ?_
        refine j_iconst (v := 1) dL_addPiece_17 (by decide) ?_
        refine j_iret dL_addPiece_18 rfl rfl (by decide) (Nat.le_of_ble_eq_true rfl) ?_
        exact ⟨_, rfl, rfl, hz, ha, by rw [he]; rfl, fun z => absurd z (by omega), fun _ => ⟨hc, rfl⟩⟩
      · skip
        rcases k with _ | k
        · cases hE
          refine jx_catch (pre := [(0, 12, 15, 15)]) (x := (0, 12, 19, 17)) (suf := []) hB hN rfl (List.forall_mem_cons.mpr ⟨⟨by decide, IA, ⟨j_tb (List.mem_of_getElem? (i := 556) (by decide +kernel)), rfl⟩, by decide⟩, fun z9 h9 => nomatch h9⟩) (by decide) (by decide) (j_tb (List.mem_of_getElem? (i := 557) (by decide +kernel))) rfl (j_tb (List.mem_of_getElem? (i := 655) (by decide +kernel))) (fun qx => ?_)
          refine j_astore (L' := [(0, _), (1, _), (2, _), (3, _), (4, _), (5, _)]) dL_addPiece_19 (by decide) rfl ?_
          refine j_iconst (v := 2) dL_addPiece_21 (by decide) ?_
          refine j_iret dL_addPiece_22 rfl rfl (by decide) (Nat.le_of_ble_eq_true rfl) ?_
          exact ⟨_, rfl, rfl, hz, ha, by rw [he]; rfl, fun z => absurd z (by omega), fun _ => ⟨hc, rfl⟩⟩
        · cases hE
set_option maxRecDepth 100000 in
set_option maxHeartbeats 4000000 in
theorem sp_L_setCue (hB : jB l s0 D) (hN : jN s0) {q a : Nat} {x : aX} {r s p k a1 : Int32} (h : cuIs T V q x) (hW : xW x) (hT : T a = some (kJ 1)) : SpH l s0 D kL_setCue (jR 9 5 30) 5 30 [.ref q, .int r, .int s, .int p, .int k, .int a1, .ref a] T V X sz (qW T V X sz q a (e_cue x r s p k a1) (v_cue x r s p k a1) x (s_cue x r s p k a1)) := by
  refine SpH.of pn_L_setCue (Nat.le_of_ble_eq_true rfl) ?_
  refine j_aload dL_setCue_0 rfl ?_
  refine j_iconst (v := 0) dL_setCue_2 (by decide) ?_
  refine j_aload_n dL_setCue_3 rfl ?_
  refine j_iload_n dL_setCue_4 rfl ?_
  refine j_iload_n dL_setCue_5 rfl ?_
  refine j_iload_n dL_setCue_6 rfl ?_
  refine j_iload dL_setCue_7 rfl ?_
  refine j_iload dL_setCue_9 rfl ?_
  refine j_callV dL_setCue_11 hB mo_X7_setCue ml_L_32 (sp_X7_setCue hB h hW) h.k rfl rfl rfl rfl ⟨rfl, rfl, by decide, by decide⟩ (Nat.le_of_ble_eq_true rfl) ⟨by decide, Nat.le_of_ble_eq_true rfl⟩ ?_ ?_
  · rintro v' T' V' X' sz' ⟨rfl, rfl, ha, ⟨v2, h1, rfl, he, hv, hc⟩ | ⟨E, k, h1, -⟩⟩
    · cases h1
      obtain ⟨r, rfl, hr⟩ := hv
      refine j_i2l dL_setCue_14 ?_
      refine j_last dL_setCue_15 hB hT (by decide) (by decide) ?_
      refine j_goto (tgt := 27) dL_setCue_16 (by decide) ?_
      refine j_iconst (v := 0) dL_setCue_27 (by decide) ?_
      refine j_iret dL_setCue_28 rfl rfl (by decide) (Nat.le_of_ble_eq_true rfl) ?_
      exact ⟨_, rfl, rfl, Nat.le_refl _, ha, by rw [he]; rfl, fun _ => ⟨hc, r, rfl, hr⟩, fun z => absurd he z⟩
    · cases h1
  · rintro E T' V' X' sz' ⟨rfl, rfl, ha, ⟨v2, h1, -⟩ | ⟨E2, k, h1, hz, hE, he, hc⟩⟩
    · cases h1
    · cases h1
      rcases k with _ | k
      · cases hE
        refine jx_catch (pre := []) (x := (0, 16, 19, 13)) (suf := [(0, 16, 23, 15)]) hB hN rfl (fun z9 h9 => nomatch h9) (by decide) (by decide) (j_tb (List.mem_of_getElem? (i := 555) (by decide +kernel))) rfl (j_tb (List.mem_of_getElem? (i := 568) (by decide +kernel))) (fun qx => ?_)
        refine j_astore (L' := [(0, _), (1, _), (2, _), (3, _), (4, _), (5, _), (6, _), (7, _)]) dL_setCue_19 (by decide) rfl ?_
        refine j_iconst (v := 1) dL_setCue_21 (by decide) ?_
        refine j_iret dL_setCue_22 rfl rfl (by decide) (Nat.le_of_ble_eq_true rfl) ?_
        exact ⟨_, rfl, rfl, hz, ha, by rw [he]; rfl, fun z => absurd z (by omega), fun _ => ⟨hc, rfl⟩⟩
      · skip
        rcases k with _ | k
        · cases hE
          refine jx_catch (pre := [(0, 16, 19, 13)]) (x := (0, 16, 23, 15)) (suf := []) hB hN rfl (List.forall_mem_cons.mpr ⟨⟨by decide, IO, ⟨j_tb (List.mem_of_getElem? (i := 555) (by decide +kernel)), rfl⟩, by decide⟩, fun z9 h9 => nomatch h9⟩) (by decide) (by decide) (j_tb (List.mem_of_getElem? (i := 556) (by decide +kernel))) rfl (j_tb (List.mem_of_getElem? (i := 639) (by decide +kernel))) (fun qx => ?_)
          refine j_astore (L' := [(0, _), (1, _), (2, _), (3, _), (4, _), (5, _), (6, _), (7, _)]) dL_setCue_23 (by decide) rfl ?_
          refine j_iconst (v := 2) dL_setCue_25 (by decide) ?_
          refine j_iret dL_setCue_26 rfl rfl (by decide) (Nat.le_of_ble_eq_true rfl) ?_
          exact ⟨_, rfl, rfl, hz, ha, by rw [he]; rfl, fun z => absurd z (by omega), fun _ => ⟨hc, rfl⟩⟩
        · cases hE
set_option maxRecDepth 100000 in
set_option maxHeartbeats 4000000 in
theorem sp_L_fit (hB : jB l s0 D) (hN : jN s0) {q a : Nat} {x : aX} {r : Int32} (h : cuIs T V q x) (hW : xW x) (hT : T a = some (kJ 1)) : SpH l s0 D kL_fit (jR 9 1 6) 1 6 [.ref q, .int r, .ref a] T V X sz (qW T V X sz q a (e_fit r) (v_fit x r) x (s_fit x r)) := by
  refine SpH.of pn_L_fit (Nat.le_of_ble_eq_true rfl) ?_
  refine j_aload_n dL_fit_0 rfl ?_
  refine j_iconst (v := 0) dL_fit_1 (by decide) ?_
  refine j_aload_n dL_fit_2 rfl ?_
  refine j_iload_n dL_fit_3 rfl ?_
  refine j_callV dL_fit_4 hB mo_X7_fit ml_L_36 (sp_X7_fit hB h hW) h.k rfl rfl rfl rfl ⟨rfl, rfl, by decide, by decide⟩ (Nat.le_of_ble_eq_true rfl) ⟨by decide, Nat.le_of_ble_eq_true rfl⟩ ?_ ?_
  · rintro v' T' V' X' sz' ⟨rfl, rfl, ha, ⟨v2, h1, rfl, he, hv, hc⟩ | ⟨E, k, h1, -⟩⟩
    · cases h1
      obtain ⟨r, rfl, hr⟩ := hv
      refine j_i2l dL_fit_7 ?_
      refine j_last dL_fit_8 hB hT (by decide) (by decide) ?_
      refine j_goto (tgt := 15) dL_fit_9 (by decide) ?_
      refine j_iconst (v := 0) dL_fit_15 (by decide) ?_
      refine j_iret dL_fit_16 rfl rfl (by decide) (Nat.le_of_ble_eq_true rfl) ?_
      exact ⟨_, rfl, rfl, Nat.le_refl _, ha, by rw [he]; rfl, fun _ => ⟨hc, r, rfl, hr⟩, fun z => absurd he z⟩
    · cases h1
  · rintro E T' V' X' sz' ⟨rfl, rfl, ha, ⟨v2, h1, -⟩ | ⟨E2, k, h1, hz, hE, he, hc⟩⟩
    · cases h1
    · cases h1
      rcases k with _ | k
      · cases hE
        refine jx_catch (pre := []) (x := (0, 9, 12, 13)) (suf := []) hB hN rfl (fun z9 h9 => nomatch h9) (by decide) (by decide) (j_tb (List.mem_of_getElem? (i := 555) (by decide +kernel))) rfl (j_tb (List.mem_of_getElem? (i := 568) (by decide +kernel))) (fun qx => ?_)
        refine j_astore_n (L' := [(0, _), (1, _), (2, _), (3, _)]) dL_fit_12 (by decide) rfl ?_
        refine j_iconst (v := 1) dL_fit_13 (by decide) ?_
        refine j_iret dL_fit_14 rfl rfl (by decide) (Nat.le_of_ble_eq_true rfl) ?_
        exact ⟨_, rfl, rfl, hz, ha, by rw [he]; rfl, fun z => absurd z (by omega), fun _ => ⟨hc, rfl⟩⟩
      · cases hE
set_option maxRecDepth 100000 in
set_option maxHeartbeats 4000000 in
theorem sp_L_set (hB : jB l s0 D) (hN : jN s0) {q a : Nat} {x : aX} {t w : Int32} (h : cuIs T V q x) (hW : xW x) (hT : T a = some (kJ 1)) : SpH l s0 D kL_set (jR 9 2 12) 2 12 [.ref q, .int t, .int w, .ref a] T V X sz (qW T V X sz q a (e_set t w) (v_set x) x (s_set x t w)) := by
  refine SpH.of pn_L_set (Nat.le_of_ble_eq_true rfl) ?_
  refine j_aload_n dL_set_0 rfl ?_
  refine j_iconst (v := 0) dL_set_1 (by decide) ?_
  refine j_aload_n dL_set_2 rfl ?_
  refine j_iload_n dL_set_3 rfl ?_
  refine j_iload_n dL_set_4 rfl ?_
  refine j_callV dL_set_5 hB mo_X7_set ml_L_40 (sp_X7_set hB h hW) h.k rfl rfl rfl rfl ⟨rfl, rfl, by decide, by decide⟩ (Nat.le_of_ble_eq_true rfl) ⟨by decide, Nat.le_of_ble_eq_true rfl⟩ ?_ ?_
  · rintro v' T' V' X' sz' ⟨rfl, rfl, ha, ⟨v2, h1, rfl, he, hv, hc⟩ | ⟨E, k, h1, -⟩⟩
    · cases h1
      obtain ⟨r, rfl, hr⟩ := hv
      refine j_i2l dL_set_8 ?_
      refine j_last dL_set_9 hB hT (by decide) (by decide) ?_
      refine j_goto (tgt := 17) dL_set_10 (by decide) ?_
      refine j_iconst (v := 0) dL_set_17 (by decide) ?_
      refine j_iret dL_set_18 rfl rfl (by decide) (Nat.le_of_ble_eq_true rfl) ?_
      exact ⟨_, rfl, rfl, Nat.le_refl _, ha, by rw [he]; rfl, fun _ => ⟨hc, r, rfl, hr⟩, fun z => absurd he z⟩
    · cases h1
  · rintro E T' V' X' sz' ⟨rfl, rfl, ha, ⟨v2, h1, -⟩ | ⟨E2, k, h1, hz, hE, he, hc⟩⟩
    · cases h1
    · cases h1
      rcases k with _ | k
      · cases hE
        refine jx_catch (pre := []) (x := (0, 10, 13, 15)) (suf := []) hB hN rfl (fun z9 h9 => nomatch h9) (by decide) (by decide) (j_tb (List.mem_of_getElem? (i := 556) (by decide +kernel))) rfl (j_tb (List.mem_of_getElem? (i := 639) (by decide +kernel))) (fun qx => ?_)
        refine j_astore (L' := [(0, _), (1, _), (2, _), (3, _), (4, _)]) dL_set_13 (by decide) rfl ?_
        refine j_iconst (v := 1) dL_set_15 (by decide) ?_
        refine j_iret dL_set_16 rfl rfl (by decide) (Nat.le_of_ble_eq_true rfl) ?_
        exact ⟨_, rfl, rfl, hz, ha, by rw [he]; rfl, fun z => absurd z (by omega), fun _ => ⟨hc, rfl⟩⟩
      · cases hE
set_option maxRecDepth 100000 in
set_option maxHeartbeats 4000000 in
theorem sp_L_append (hB : jB l s0 D) (hN : jN s0) {q a : Nat} {x : aX} {c1 : Int32} (h : cuIs T V q x) (hW : xW x) (hT : T a = some (kJ 1)) : SpH l s0 D kL_append (jR 9 2 12) 2 12 [.ref q, .int c1, .ref a] T V X sz (qW T V X sz q a (e_app x c1) (v_app x) x (s_app x c1)) := by
  refine SpH.of pn_L_append (Nat.le_of_ble_eq_true rfl) ?_
  refine j_aload_n dL_append_0 rfl ?_
  refine j_iconst (v := 0) dL_append_1 (by decide) ?_
  refine j_aload_n dL_append_2 rfl ?_
  refine j_iload_n dL_append_3 rfl ?_
  refine j_callV dL_append_4 hB mo_X7_append ml_L_43 (sp_X7_append hB h hW) h.k rfl rfl rfl rfl ⟨rfl, rfl, by decide, by decide⟩ (Nat.le_of_ble_eq_true rfl) ⟨by decide, Nat.le_of_ble_eq_true rfl⟩ ?_ ?_
  · rintro v' T' V' X' sz' ⟨rfl, rfl, ha, ⟨v2, h1, rfl, he, hv, hc⟩ | ⟨E, k, h1, -⟩⟩
    · cases h1
      obtain ⟨r, rfl, hr⟩ := hv
      refine j_i2l dL_append_7 ?_
      refine j_last dL_append_8 hB hT (by decide) (by decide) ?_
      refine j_goto (tgt := 18) dL_append_9 (by decide) ?_
      refine j_iconst (v := 0) dL_append_18 (by decide) ?_
      refine j_iret dL_append_19 rfl rfl (by decide) (Nat.le_of_ble_eq_true rfl) ?_
      exact ⟨_, rfl, rfl, Nat.le_refl _, ha, by rw [he]; rfl, fun _ => ⟨hc, r, rfl, hr⟩, fun z => absurd he z⟩
    · cases h1
  · rintro E T' V' X' sz' ⟨rfl, rfl, ha, ⟨v2, h1, -⟩ | ⟨E2, k, h1, hz, hE, he, hc⟩⟩
    · cases h1
    · cases h1
      rcases k with _ | k
      · cases hE
        refine jx_catch (pre := []) (x := (0, 9, 12, 15)) (suf := [(0, 9, 15, 17)]) hB hN rfl (fun z9 h9 => nomatch h9) (by decide) (by decide) (j_tb (List.mem_of_getElem? (i := 556) (by decide +kernel))) rfl (j_tb (List.mem_of_getElem? (i := 639) (by decide +kernel))) (fun qx => ?_)
        refine j_astore_n (L' := [(0, _), (1, _), (2, _), (3, _)]) dL_append_12 (by decide) rfl ?_
        refine j_iconst (v := 1) dL_append_13 (by decide) ?_
        refine j_iret dL_append_14 rfl rfl (by decide) (Nat.le_of_ble_eq_true rfl) ?_
        exact ⟨_, rfl, rfl, hz, ha, by rw [he]; rfl, fun z => absurd z (by omega), fun _ => ⟨hc, rfl⟩⟩
      · skip
        rcases k with _ | k
        · cases hE
          refine jx_catch (pre := [(0, 9, 12, 15)]) (x := (0, 9, 15, 17)) (suf := []) hB hN rfl (List.forall_mem_cons.mpr ⟨⟨by decide, IA, ⟨j_tb (List.mem_of_getElem? (i := 556) (by decide +kernel)), rfl⟩, by decide⟩, fun z9 h9 => nomatch h9⟩) (by decide) (by decide) (j_tb (List.mem_of_getElem? (i := 557) (by decide +kernel))) rfl (j_tb (List.mem_of_getElem? (i := 655) (by decide +kernel))) (fun qx => ?_)
          refine j_astore_n (L' := [(0, _), (1, _), (2, _), (3, _)]) dL_append_15 (by decide) rfl ?_
          refine j_iconst (v := 2) dL_append_16 (by decide) ?_
          refine j_iret dL_append_17 rfl rfl (by decide) (Nat.le_of_ble_eq_true rfl) ?_
          exact ⟨_, rfl, rfl, hz, ha, by rw [he]; rfl, fun z => absurd z (by omega), fun _ => ⟨hc, rfl⟩⟩
        · cases hE
set_option maxRecDepth 100000 in
set_option maxHeartbeats 4000000 in
theorem sp_L_load (hB : jB l s0 D) (hN : jN s0) {q a : Nat} {x : aX} {r : Int32} (h : cuIs T V q x) (hW : xW x) (hT : T a = some (kJ 1)) : SpH l s0 D kL_load (jR 9 3 18) 3 18 [.ref q, .int r, .ref a] T V X sz (qW T V X sz q a (e_load x r) (v_load x r) x (s_load x r)) := by
  refine SpH.of pn_L_load (Nat.le_of_ble_eq_true rfl) ?_
  refine j_aload_n dL_load_0 rfl ?_
  refine j_iconst (v := 0) dL_load_1 (by decide) ?_
  refine j_aload_n dL_load_2 rfl ?_
  refine j_iload_n dL_load_3 rfl ?_
  refine j_callV dL_load_4 hB mo_X7_load ml_L_46 (sp_X7_load hB h hW) h.k rfl rfl rfl rfl ⟨rfl, rfl, by decide, by decide⟩ (Nat.le_of_ble_eq_true rfl) ⟨by decide, Nat.le_of_ble_eq_true rfl⟩ ?_ ?_
  · rintro v' T' V' X' sz' ⟨rfl, rfl, ha, ⟨v2, h1, rfl, he, hv, hc⟩ | ⟨E, k, h1, -⟩⟩
    · cases h1
      obtain ⟨r, rfl, hr⟩ := hv
      refine j_i2l dL_load_7 ?_
      refine j_last dL_load_8 hB hT (by decide) (by decide) ?_
      refine j_goto (tgt := 21) dL_load_9 (by decide) ?_
      refine j_iconst (v := 0) dL_load_21 (by decide) ?_
      refine j_iret dL_load_22 rfl rfl (by decide) (Nat.le_of_ble_eq_true rfl) ?_
      exact ⟨_, rfl, rfl, Nat.le_refl _, ha, by rw [he]; rfl, fun _ => ⟨hc, r, rfl, hr⟩, fun z => absurd he z⟩
    · cases h1
  · rintro E T' V' X' sz' ⟨rfl, rfl, ha, ⟨v2, h1, -⟩ | ⟨E2, k, h1, hz, hE, he, hc⟩⟩
    · cases h1
    · cases h1
      rcases k with _ | k
      · cases hE
        refine jx_catch (pre := []) (x := (0, 9, 12, 13)) (suf := [(0, 9, 15, 15), (0, 9, 18, 17)]) hB hN rfl (fun z9 h9 => nomatch h9) (by decide) (by decide) (j_tb (List.mem_of_getElem? (i := 555) (by decide +kernel))) rfl (j_tb (List.mem_of_getElem? (i := 568) (by decide +kernel))) (fun qx => ?_)
        refine j_astore_n (L' := [(0, _), (1, _), (2, _), (3, _)]) dL_load_12 (by decide) rfl ?_
        refine j_iconst (v := 1) dL_load_13 (by decide) ?_
        refine j_iret dL_load_14 rfl rfl (by decide) (Nat.le_of_ble_eq_true rfl) ?_
        exact ⟨_, rfl, rfl, hz, ha, by rw [he]; rfl, fun z => absurd z (by omega), fun _ => ⟨hc, rfl⟩⟩
      · skip
        rcases k with _ | k
        · cases hE
          refine jx_catch (pre := [(0, 9, 12, 13)]) (x := (0, 9, 15, 15)) (suf := [(0, 9, 18, 17)]) hB hN rfl (List.forall_mem_cons.mpr ⟨⟨by decide, IO, ⟨j_tb (List.mem_of_getElem? (i := 555) (by decide +kernel)), rfl⟩, by decide⟩, fun z9 h9 => nomatch h9⟩) (by decide) (by decide) (j_tb (List.mem_of_getElem? (i := 556) (by decide +kernel))) rfl (j_tb (List.mem_of_getElem? (i := 639) (by decide +kernel))) (fun qx => ?_)
          refine j_astore_n (L' := [(0, _), (1, _), (2, _), (3, _)]) dL_load_15 (by decide) rfl ?_
          refine j_iconst (v := 2) dL_load_16 (by decide) ?_
          refine j_iret dL_load_17 rfl rfl (by decide) (Nat.le_of_ble_eq_true rfl) ?_
          exact ⟨_, rfl, rfl, hz, ha, by rw [he]; rfl, fun z => absurd z (by omega), fun _ => ⟨hc, rfl⟩⟩
        · skip
          rcases k with _ | k
          · cases hE
            refine jx_catch (pre := [(0, 9, 12, 13), (0, 9, 15, 15)]) (x := (0, 9, 18, 17)) (suf := []) hB hN rfl (List.forall_mem_cons.mpr ⟨⟨by decide, IO, ⟨j_tb (List.mem_of_getElem? (i := 555) (by decide +kernel)), rfl⟩, by decide⟩, List.forall_mem_cons.mpr ⟨⟨by decide, IA, ⟨j_tb (List.mem_of_getElem? (i := 556) (by decide +kernel)), rfl⟩, by decide⟩, fun z9 h9 => nomatch h9⟩⟩) (by decide) (by decide) (j_tb (List.mem_of_getElem? (i := 557) (by decide +kernel))) rfl (j_tb (List.mem_of_getElem? (i := 655) (by decide +kernel))) (fun qx => ?_)
            refine j_astore_n (L' := [(0, _), (1, _), (2, _), (3, _)]) dL_load_18 (by decide) rfl ?_
            refine j_iconst (v := 3) dL_load_19 (by decide) ?_
            refine j_iret dL_load_20 rfl rfl (by decide) (Nat.le_of_ble_eq_true rfl) ?_
            exact ⟨_, rfl, rfl, hz, ha, by rw [he]; rfl, fun z => absurd z (by omega), fun _ => ⟨hc, rfl⟩⟩
          · cases hE
set_option maxRecDepth 100000 in
set_option maxHeartbeats 4000000 in
theorem sp_L_undo (hB : jB l s0 D) (hN : jN s0) {q a : Nat} {x : aX} (h : cuIs T V q x) (hW : xW x) (hT : T a = some (kJ 1)) : SpH l s0 D kL_undo (jR 8 1 6) 1 6 [.ref q, .ref a] T V X sz (qW T V X sz q a (e_undo x) (v_undo x) x (s_undo x)) := by
  refine SpH.of pn_L_undo (Nat.le_of_ble_eq_true rfl) ?_
  refine j_aload_n dL_undo_0 rfl ?_
  refine j_iconst (v := 0) dL_undo_1 (by decide) ?_
  refine j_aload_n dL_undo_2 rfl ?_
  refine j_callV dL_undo_3 hB mo_X7_undo ml_L_49 (sp_X7_undo hB h hW) h.k rfl rfl rfl rfl ⟨rfl, rfl, by decide, by decide⟩ (Nat.le_of_ble_eq_true rfl) ⟨by decide, Nat.le_of_ble_eq_true rfl⟩ ?_ ?_
  · rintro v' T' V' X' sz' ⟨rfl, rfl, ha, ⟨v2, h1, rfl, he, hv, hc⟩ | ⟨E, k, h1, -⟩⟩
    · cases h1
      obtain ⟨r, rfl, hr⟩ := hv
      refine j_i2l dL_undo_6 ?_
      refine j_last dL_undo_7 hB hT (by decide) (by decide) ?_
      refine j_goto (tgt := 14) dL_undo_8 (by decide) ?_
      refine j_iconst (v := 0) dL_undo_14 (by decide) ?_
      refine j_iret dL_undo_15 rfl rfl (by decide) (Nat.le_of_ble_eq_true rfl) ?_
      exact ⟨_, rfl, rfl, Nat.le_refl _, ha, by rw [he]; rfl, fun _ => ⟨hc, r, rfl, hr⟩, fun z => absurd he z⟩
    · cases h1
  · rintro E T' V' X' sz' ⟨rfl, rfl, ha, ⟨v2, h1, -⟩ | ⟨E2, k, h1, hz, hE, he, hc⟩⟩
    · cases h1
    · cases h1
      rcases k with _ | k
      · cases hE
        refine jx_catch (pre := []) (x := (0, 8, 11, 17)) (suf := []) hB hN rfl (fun z9 h9 => nomatch h9) (by decide) (by decide) (j_tb (List.mem_of_getElem? (i := 557) (by decide +kernel))) rfl (j_tb (List.mem_of_getElem? (i := 655) (by decide +kernel))) (fun qx => ?_)
        refine j_astore_n (L' := [(0, _), (1, _), (2, _)]) dL_undo_11 (by decide) rfl ?_
        refine j_iconst (v := 1) dL_undo_12 (by decide) ?_
        refine j_iret dL_undo_13 rfl rfl (by decide) (Nat.le_of_ble_eq_true rfl) ?_
        exact ⟨_, rfl, rfl, hz, ha, by rw [he]; rfl, fun z => absurd z (by omega), fun _ => ⟨hc, rfl⟩⟩
      · cases hE
set_option maxRecDepth 100000 in
set_option maxHeartbeats 4000000 in
theorem sp_L_scene (hB : jB l s0 D) (hN : jN s0) {q a : Nat} {x : aX} {r s w : Int32} (h : cuIs T V q x) (hW : xW x) (hT : T a = some (kJ 1)) : SpH l s0 D kL_scene (jR 9 3 18) 3 18 [.ref q, .int r, .int s, .int w, .ref a] T V X sz (qW T V X sz q a (e_scene x r s w) (scP x.1 (xR x r) s.toInt.toNat w.toInt) x (x)) := by
  refine SpH.of pn_L_scene (Nat.le_of_ble_eq_true rfl) ?_
  refine j_aload dL_scene_0 rfl ?_
  refine j_iconst (v := 0) dL_scene_2 (by decide) ?_
  refine j_aload_n dL_scene_3 rfl ?_
  refine j_iload_n dL_scene_4 rfl ?_
  refine j_iload_n dL_scene_5 rfl ?_
  refine j_iload_n dL_scene_6 rfl ?_
  refine j_callV dL_scene_7 hB mo_X7_scene ml_L_53 (sp_X7_scene hB h hW) h.k rfl rfl rfl rfl ⟨rfl, rfl, by decide, by decide⟩ (Nat.le_of_ble_eq_true rfl) ⟨by decide, Nat.le_of_ble_eq_true rfl⟩ ?_ ?_
  · rintro v' T' V' X' sz' ⟨rfl, rfl, ha, ⟨v2, h1, rfl, he, hv, hc⟩ | ⟨E, k, h1, -⟩⟩
    · cases h1
      obtain ⟨r, rfl, hr⟩ := hv
      refine j_i2l dL_scene_10 ?_
      refine j_last dL_scene_11 hB hT (by decide) (by decide) ?_
      refine j_goto (tgt := 23) dL_scene_12 (by decide) ?_
      refine j_iconst (v := 0) dL_scene_23 (by decide) ?_
      refine j_iret dL_scene_24 rfl rfl (by decide) (Nat.le_of_ble_eq_true rfl) ?_
      exact ⟨_, rfl, rfl, Nat.le_refl _, ha, by rw [he]; rfl, fun _ => ⟨hc, r, rfl, hr⟩, fun z => absurd he z⟩
    · cases h1
  · rintro E T' V' X' sz' ⟨rfl, rfl, ha, ⟨v2, h1, -⟩ | ⟨E2, k, h1, hz, hE, he, hc⟩⟩
    · cases h1
    · cases h1
      rcases k with _ | k
      · cases hE
        refine jx_catch (pre := []) (x := (0, 12, 15, 13)) (suf := [(0, 12, 19, 15)]) hB hN rfl (fun z9 h9 => nomatch h9) (by decide) (by decide) (j_tb (List.mem_of_getElem? (i := 555) (by decide +kernel))) rfl (j_tb (List.mem_of_getElem? (i := 568) (by decide +kernel))) (fun qx => ?_)
        refine j_astore (L' := [(0, _), (1, _), (2, _), (3, _), (4, _), (5, _)]) dL_scene_15 (by decide) rfl ?_
        refine j_iconst (v := 1) dL_scene_17 (by decide) ?_
        refine j_iret dL_scene_18 rfl rfl (by decide) (Nat.le_of_ble_eq_true rfl) ?_
        exact ⟨_, rfl, rfl, hz, ha, by rw [he]; rfl, fun z => absurd z (by omega), fun _ => ⟨hc, rfl⟩⟩
      · skip
        rcases k with _ | k
        · cases hE
          refine jx_catch (pre := [(0, 12, 15, 13)]) (x := (0, 12, 19, 15)) (suf := []) hB hN rfl (List.forall_mem_cons.mpr ⟨⟨by decide, IO, ⟨j_tb (List.mem_of_getElem? (i := 555) (by decide +kernel)), rfl⟩, by decide⟩, fun z9 h9 => nomatch h9⟩) (by decide) (by decide) (j_tb (List.mem_of_getElem? (i := 556) (by decide +kernel))) rfl (j_tb (List.mem_of_getElem? (i := 639) (by decide +kernel))) (fun qx => ?_)
          refine j_astore (L' := [(0, _), (1, _), (2, _), (3, _), (4, _), (5, _)]) dL_scene_19 (by decide) rfl ?_
          refine j_iconst (v := 2) dL_scene_21 (by decide) ?_
          refine j_iret dL_scene_22 rfl rfl (by decide) (Nat.le_of_ble_eq_true rfl) ?_
          exact ⟨_, rfl, rfl, hz, ha, by rw [he]; rfl, fun z => absurd z (by omega), fun _ => ⟨hc, rfl⟩⟩
        · cases hE
set_option maxRecDepth 100000 in
set_option maxHeartbeats 4000000 in
theorem sp_L_reel (hB : jB l s0 D) (hN : jN s0) {q a : Nat} {x : aX} {r w : Int32} (h : cuIs T V q x) (hW : xW x) (hT : T a = some (kJ 1)) : SpH l s0 D kL_reel (jR 9 2 12) 2 12 [.ref q, .int r, .int w, .ref a] T V X sz (qW T V X sz q a (e_reel r w) (rlP x.1 (xR x r) w.toInt) x (x)) := by
  refine SpH.of pn_L_reel (Nat.le_of_ble_eq_true rfl) ?_
  refine j_aload_n dL_reel_0 rfl ?_
  refine j_iconst (v := 0) dL_reel_1 (by decide) ?_
  refine j_aload_n dL_reel_2 rfl ?_
  refine j_iload_n dL_reel_3 rfl ?_
  refine j_iload_n dL_reel_4 rfl ?_
  refine j_callV dL_reel_5 hB mo_X7_reel ml_L_56 (sp_X7_reel hB h hW) h.k rfl rfl rfl rfl ⟨rfl, rfl, by decide, by decide⟩ (Nat.le_of_ble_eq_true rfl) ⟨by decide, Nat.le_of_ble_eq_true rfl⟩ ?_ ?_
  · rintro v' T' V' X' sz' ⟨rfl, rfl, ha, ⟨v2, h1, rfl, he, hv, hc⟩ | ⟨E, k, h1, -⟩⟩
    · cases h1
      obtain ⟨r, rfl, hr⟩ := hv
      refine j_i2l dL_reel_8 ?_
      refine j_last dL_reel_9 hB hT (by decide) (by decide) ?_
      refine j_goto (tgt := 21) dL_reel_10 (by decide) ?_
      refine j_iconst (v := 0) dL_reel_21 (by decide) ?_
      refine j_iret dL_reel_22 rfl rfl (by decide) (Nat.le_of_ble_eq_true rfl) ?_
      exact ⟨_, rfl, rfl, Nat.le_refl _, ha, by rw [he]; rfl, fun _ => ⟨hc, r, rfl, hr⟩, fun z => absurd he z⟩
    · cases h1
  · rintro E T' V' X' sz' ⟨rfl, rfl, ha, ⟨v2, h1, -⟩ | ⟨E2, k, h1, hz, hE, he, hc⟩⟩
    · cases h1
    · cases h1
      rcases k with _ | k
      · cases hE
        refine jx_catch (pre := []) (x := (0, 10, 13, 13)) (suf := [(0, 10, 17, 15)]) hB hN rfl (fun z9 h9 => nomatch h9) (by decide) (by decide) (j_tb (List.mem_of_getElem? (i := 555) (by decide +kernel))) rfl (j_tb (List.mem_of_getElem? (i := 568) (by decide +kernel))) (fun qx => ?_)
        refine j_astore (L' := [(0, _), (1, _), (2, _), (3, _), (4, _)]) dL_reel_13 (by decide) rfl ?_
        refine j_iconst (v := 1) dL_reel_15 (by decide) ?_
        refine j_iret dL_reel_16 rfl rfl (by decide) (Nat.le_of_ble_eq_true rfl) ?_
        exact ⟨_, rfl, rfl, hz, ha, by rw [he]; rfl, fun z => absurd z (by omega), fun _ => ⟨hc, rfl⟩⟩
      · skip
        rcases k with _ | k
        · cases hE
          refine jx_catch (pre := [(0, 10, 13, 13)]) (x := (0, 10, 17, 15)) (suf := []) hB hN rfl (List.forall_mem_cons.mpr ⟨⟨by decide, IO, ⟨j_tb (List.mem_of_getElem? (i := 555) (by decide +kernel)), rfl⟩, by decide⟩, fun z9 h9 => nomatch h9⟩) (by decide) (by decide) (j_tb (List.mem_of_getElem? (i := 556) (by decide +kernel))) rfl (j_tb (List.mem_of_getElem? (i := 639) (by decide +kernel))) (fun qx => ?_)
          refine j_astore (L' := [(0, _), (1, _), (2, _), (3, _), (4, _)]) dL_reel_17 (by decide) rfl ?_
          refine j_iconst (v := 2) dL_reel_19 (by decide) ?_
          refine j_iret dL_reel_20 rfl rfl (by decide) (Nat.le_of_ble_eq_true rfl) ?_
          exact ⟨_, rfl, rfl, hz, ha, by rw [he]; rfl, fun z => absurd z (by omega), fun _ => ⟨hc, rfl⟩⟩
        · cases hE
set_option maxRecDepth 100000 in
set_option maxHeartbeats 4000000 in
theorem sp_L_speedAt (hB : jB l s0 D) (hN : jN s0) {q a : Nat} {x : aX} {r f : Int32} (h : cuIs T V q x) (hW : xW x) (hT : T a = some (kJ 1)) : SpH l s0 D kL_speedAt (jR 9 2 12) 2 12 [.ref q, .int r, .int f, .ref a] T V X sz (qW T V X sz q a (e_spd r f) ((pHold (xR x r).2.2.2.2.1 f.toInt).toInt) x (x)) := by
  refine SpH.of pn_L_speedAt (Nat.le_of_ble_eq_true rfl) ?_
  refine j_aload_n dL_speedAt_0 rfl ?_
  refine j_iconst (v := 0) dL_speedAt_1 (by decide) ?_
  refine j_aload_n dL_speedAt_2 rfl ?_
  refine j_iload_n dL_speedAt_3 rfl ?_
  refine j_iload_n dL_speedAt_4 rfl ?_
  refine j_callV dL_speedAt_5 hB mo_X7_speedAt ml_L_59 (sp_X7_speedAt hB h hW) h.k rfl rfl rfl rfl ⟨rfl, rfl, by decide, by decide⟩ (Nat.le_of_ble_eq_true rfl) ⟨by decide, Nat.le_of_ble_eq_true rfl⟩ ?_ ?_
  · rintro v' T' V' X' sz' ⟨rfl, rfl, ha, ⟨v2, h1, rfl, he, hv, hc⟩ | ⟨E, k, h1, -⟩⟩
    · cases h1
      obtain ⟨r, rfl, hr⟩ := hv
      refine j_i2l dL_speedAt_8 ?_
      refine j_last dL_speedAt_9 hB hT (by decide) (by decide) ?_
      refine j_goto (tgt := 21) dL_speedAt_10 (by decide) ?_
      refine j_iconst (v := 0) dL_speedAt_21 (by decide) ?_
      refine j_iret dL_speedAt_22 rfl rfl (by decide) (Nat.le_of_ble_eq_true rfl) ?_
      exact ⟨_, rfl, rfl, Nat.le_refl _, ha, by rw [he]; rfl, fun _ => ⟨hc, r, rfl, hr⟩, fun z => absurd he z⟩
    · cases h1
  · rintro E T' V' X' sz' ⟨rfl, rfl, ha, ⟨v2, h1, -⟩ | ⟨E2, k, h1, hz, hE, he, hc⟩⟩
    · cases h1
    · cases h1
      rcases k with _ | k
      · cases hE
        refine jx_catch (pre := []) (x := (0, 10, 13, 13)) (suf := [(0, 10, 17, 15)]) hB hN rfl (fun z9 h9 => nomatch h9) (by decide) (by decide) (j_tb (List.mem_of_getElem? (i := 555) (by decide +kernel))) rfl (j_tb (List.mem_of_getElem? (i := 568) (by decide +kernel))) (fun qx => ?_)
        refine j_astore (L' := [(0, _), (1, _), (2, _), (3, _), (4, _)]) dL_speedAt_13 (by decide) rfl ?_
        refine j_iconst (v := 1) dL_speedAt_15 (by decide) ?_
        refine j_iret dL_speedAt_16 rfl rfl (by decide) (Nat.le_of_ble_eq_true rfl) ?_
        exact ⟨_, rfl, rfl, hz, ha, by rw [he]; rfl, fun z => absurd z (by omega), fun _ => ⟨hc, rfl⟩⟩
      · skip
        rcases k with _ | k
        · cases hE
          refine jx_catch (pre := [(0, 10, 13, 13)]) (x := (0, 10, 17, 15)) (suf := []) hB hN rfl (List.forall_mem_cons.mpr ⟨⟨by decide, IO, ⟨j_tb (List.mem_of_getElem? (i := 555) (by decide +kernel)), rfl⟩, by decide⟩, fun z9 h9 => nomatch h9⟩) (by decide) (by decide) (j_tb (List.mem_of_getElem? (i := 556) (by decide +kernel))) rfl (j_tb (List.mem_of_getElem? (i := 639) (by decide +kernel))) (fun qx => ?_)
          refine j_astore (L' := [(0, _), (1, _), (2, _), (3, _), (4, _)]) dL_speedAt_17 (by decide) rfl ?_
          refine j_iconst (v := 2) dL_speedAt_19 (by decide) ?_
          refine j_iret dL_speedAt_20 rfl rfl (by decide) (Nat.le_of_ble_eq_true rfl) ?_
          exact ⟨_, rfl, rfl, hz, ha, by rw [he]; rfl, fun z => absurd z (by omega), fun _ => ⟨hc, rfl⟩⟩
        · cases hE
set_option maxRecDepth 100000 in
set_option maxHeartbeats 4000000 in
theorem sp_L_piece (hB : jB l s0 D) (hN : jN s0) {q a : Nat} {x : aX} {i w : Int32} (h : cuIs T V q x) (hW : xW x) (hT : T a = some (kJ 1)) : SpH l s0 D kL_piece (jR 9 2 12) 2 12 [.ref q, .int i, .int w, .ref a] T V X sz (qW T V X sz q a (e_piece x i w) (pcP x.1 i w.toInt) x (x)) := by
  refine SpH.of pn_L_piece (Nat.le_of_ble_eq_true rfl) ?_
  refine j_aload_n dL_piece_0 rfl ?_
  refine j_iconst (v := 0) dL_piece_1 (by decide) ?_
  refine j_aload_n dL_piece_2 rfl ?_
  refine j_iload_n dL_piece_3 rfl ?_
  refine j_iload_n dL_piece_4 rfl ?_
  refine j_callV dL_piece_5 hB mo_X7_piece ml_L_62 (sp_X7_piece hB h hW) h.k rfl rfl rfl rfl ⟨rfl, rfl, by decide, by decide⟩ (Nat.le_of_ble_eq_true rfl) ⟨by decide, Nat.le_of_ble_eq_true rfl⟩ ?_ ?_
  · rintro v' T' V' X' sz' ⟨rfl, rfl, ha, ⟨v2, h1, rfl, he, hv, hc⟩ | ⟨E, k, h1, -⟩⟩
    · cases h1
      obtain ⟨r, rfl, hr⟩ := hv
      refine j_i2l dL_piece_8 ?_
      refine j_last dL_piece_9 hB hT (by decide) (by decide) ?_
      refine j_goto (tgt := 21) dL_piece_10 (by decide) ?_
      refine j_iconst (v := 0) dL_piece_21 (by decide) ?_
      refine j_iret dL_piece_22 rfl rfl (by decide) (Nat.le_of_ble_eq_true rfl) ?_
      exact ⟨_, rfl, rfl, Nat.le_refl _, ha, by rw [he]; rfl, fun _ => ⟨hc, r, rfl, hr⟩, fun z => absurd he z⟩
    · cases h1
  · rintro E T' V' X' sz' ⟨rfl, rfl, ha, ⟨v2, h1, -⟩ | ⟨E2, k, h1, hz, hE, he, hc⟩⟩
    · cases h1
    · cases h1
      rcases k with _ | k
      · cases hE
        refine jx_catch (pre := []) (x := (0, 10, 13, 13)) (suf := [(0, 10, 17, 15)]) hB hN rfl (fun z9 h9 => nomatch h9) (by decide) (by decide) (j_tb (List.mem_of_getElem? (i := 555) (by decide +kernel))) rfl (j_tb (List.mem_of_getElem? (i := 568) (by decide +kernel))) (fun qx => ?_)
        refine j_astore (L' := [(0, _), (1, _), (2, _), (3, _), (4, _)]) dL_piece_13 (by decide) rfl ?_
        refine j_iconst (v := 1) dL_piece_15 (by decide) ?_
        refine j_iret dL_piece_16 rfl rfl (by decide) (Nat.le_of_ble_eq_true rfl) ?_
        exact ⟨_, rfl, rfl, hz, ha, by rw [he]; rfl, fun z => absurd z (by omega), fun _ => ⟨hc, rfl⟩⟩
      · skip
        rcases k with _ | k
        · cases hE
          refine jx_catch (pre := [(0, 10, 13, 13)]) (x := (0, 10, 17, 15)) (suf := []) hB hN rfl (List.forall_mem_cons.mpr ⟨⟨by decide, IO, ⟨j_tb (List.mem_of_getElem? (i := 555) (by decide +kernel)), rfl⟩, by decide⟩, fun z9 h9 => nomatch h9⟩) (by decide) (by decide) (j_tb (List.mem_of_getElem? (i := 556) (by decide +kernel))) rfl (j_tb (List.mem_of_getElem? (i := 639) (by decide +kernel))) (fun qx => ?_)
          refine j_astore (L' := [(0, _), (1, _), (2, _), (3, _), (4, _)]) dL_piece_17 (by decide) rfl ?_
          refine j_iconst (v := 2) dL_piece_19 (by decide) ?_
          refine j_iret dL_piece_20 rfl rfl (by decide) (Nat.le_of_ble_eq_true rfl) ?_
          exact ⟨_, rfl, rfl, hz, ha, by rw [he]; rfl, fun z => absurd z (by omega), fun _ => ⟨hc, rfl⟩⟩
        · cases hE
set_option maxRecDepth 100000 in
set_option maxHeartbeats 4000000 in
theorem sp_L_count (hB : jB l s0 D) (hN : jN s0) {q a : Nat} {x : aX} {w : Int32} (h : cuIs T V q x) (hW : xW x) (hT : T a = some (kJ 1)) : SpH l s0 D kL_count (jR 9 1 6) 1 6 [.ref q, .int w, .ref a] T V X sz (qW T V X sz q a (e_count w) (ctP x w.toInt) x (x)) := by
  refine SpH.of pn_L_count (Nat.le_of_ble_eq_true rfl) ?_
  refine j_aload_n dL_count_0 rfl ?_
  refine j_iconst (v := 0) dL_count_1 (by decide) ?_
  refine j_aload_n dL_count_2 rfl ?_
  refine j_iload_n dL_count_3 rfl ?_
  refine j_callV dL_count_4 hB mo_X7_count ml_L_65 (sp_X7_count hB h hW) h.k rfl rfl rfl rfl ⟨rfl, rfl, by decide, by decide⟩ (Nat.le_of_ble_eq_true rfl) ⟨by decide, Nat.le_of_ble_eq_true rfl⟩ ?_ ?_
  · rintro v' T' V' X' sz' ⟨rfl, rfl, ha, ⟨v2, h1, rfl, he, hv, hc⟩ | ⟨E, k, h1, -⟩⟩
    · cases h1
      obtain ⟨r, rfl, hr⟩ := hv
      refine j_i2l dL_count_7 ?_
      refine j_last dL_count_8 hB hT (by decide) (by decide) ?_
      refine j_goto (tgt := 15) dL_count_9 (by decide) ?_
      refine j_iconst (v := 0) dL_count_15 (by decide) ?_
      refine j_iret dL_count_16 rfl rfl (by decide) (Nat.le_of_ble_eq_true rfl) ?_
      exact ⟨_, rfl, rfl, Nat.le_refl _, ha, by rw [he]; rfl, fun _ => ⟨hc, r, rfl, hr⟩, fun z => absurd he z⟩
    · cases h1
  · rintro E T' V' X' sz' ⟨rfl, rfl, ha, ⟨v2, h1, -⟩ | ⟨E2, k, h1, hz, hE, he, hc⟩⟩
    · cases h1
    · cases h1
      rcases k with _ | k
      · cases hE
        refine jx_catch (pre := []) (x := (0, 9, 12, 15)) (suf := []) hB hN rfl (fun z9 h9 => nomatch h9) (by decide) (by decide) (j_tb (List.mem_of_getElem? (i := 556) (by decide +kernel))) rfl (j_tb (List.mem_of_getElem? (i := 639) (by decide +kernel))) (fun qx => ?_)
        refine j_astore_n (L' := [(0, _), (1, _), (2, _), (3, _)]) dL_count_12 (by decide) rfl ?_
        refine j_iconst (v := 1) dL_count_13 (by decide) ?_
        refine j_iret dL_count_14 rfl rfl (by decide) (Nat.le_of_ble_eq_true rfl) ?_
        exact ⟨_, rfl, rfl, hz, ha, by rw [he]; rfl, fun z => absurd z (by omega), fun _ => ⟨hc, rfl⟩⟩
      · cases hE
set_option maxRecDepth 100000 in
set_option maxHeartbeats 4000000 in
theorem sp_L_bestCue (hB : jB l s0 D) (hN : jN s0) {q a : Nat} {x : aX} {r s p : Int32} (h : cuIs T V q x) (hW : xW x) (hT : T a = some (kJ 1)) : SpH l s0 D kL_bestCue (jR 9 3 18) 3 18 [.ref q, .int r, .int s, .int p, .ref a] T V X sz (qW T V X sz q a (e_bc x r s p) (v_bc x r s p) x (x)) := by
  refine SpH.of pn_L_bestCue (Nat.le_of_ble_eq_true rfl) ?_
  refine j_aload dL_bestCue_0 rfl ?_
  refine j_iconst (v := 0) dL_bestCue_2 (by decide) ?_
  refine j_aload_n dL_bestCue_3 rfl ?_
  refine j_iload_n dL_bestCue_4 rfl ?_
  refine j_iload_n dL_bestCue_5 rfl ?_
  refine j_iload_n dL_bestCue_6 rfl ?_
  refine j_callV dL_bestCue_7 hB mo_X7_bestCue ml_L_68 (sp_X7_bestCue hB h hW) h.k rfl rfl rfl rfl ⟨rfl, rfl, by decide, by decide⟩ (Nat.le_of_ble_eq_true rfl) ⟨by decide, Nat.le_of_ble_eq_true rfl⟩ ?_ ?_
  · rintro v' T' V' X' sz' ⟨rfl, rfl, ha, ⟨v2, h1, rfl, he, hv, hc⟩ | ⟨E, k, h1, -⟩⟩
    · cases h1
      obtain ⟨r, rfl, hr⟩ := hv
      refine j_i2l dL_bestCue_10 ?_
      refine j_last dL_bestCue_11 hB hT (by decide) (by decide) ?_
      refine j_goto (tgt := 19) dL_bestCue_12 (by decide) ?_
      refine j_iconst (v := 0) dL_bestCue_19 (by decide) ?_
      refine j_iret dL_bestCue_20 rfl rfl (by decide) (Nat.le_of_ble_eq_true rfl) ?_
      exact ⟨_, rfl, rfl, Nat.le_refl _, ha, by rw [he]; rfl, fun _ => ⟨hc, r, rfl, hr⟩, fun z => absurd he z⟩
    · cases h1
  · rintro E T' V' X' sz' ⟨rfl, rfl, ha, ⟨v2, h1, -⟩ | ⟨E2, k, h1, hz, hE, he, hc⟩⟩
    · cases h1
    · cases h1
      rcases k with _ | k
      · cases hE
        refine jx_catch (pre := []) (x := (0, 12, 15, 13)) (suf := []) hB hN rfl (fun z9 h9 => nomatch h9) (by decide) (by decide) (j_tb (List.mem_of_getElem? (i := 555) (by decide +kernel))) rfl (j_tb (List.mem_of_getElem? (i := 568) (by decide +kernel))) (fun qx => ?_)
        refine j_astore (L' := [(0, _), (1, _), (2, _), (3, _), (4, _), (5, _)]) dL_bestCue_15 (by decide) rfl ?_
        refine j_iconst (v := 1) dL_bestCue_17 (by decide) ?_
        refine j_iret dL_bestCue_18 rfl rfl (by decide) (Nat.le_of_ble_eq_true rfl) ?_
        exact ⟨_, rfl, rfl, hz, ha, by rw [he]; rfl, fun z => absurd z (by omega), fun _ => ⟨hc, rfl⟩⟩
      · cases hE
set_option maxRecDepth 100000 in
set_option maxHeartbeats 4000000 in
theorem sp_L_bestPiece (hB : jB l s0 D) (hN : jN s0) {q a : Nat} {x : aX} {r s : Int32} (h : cuIs T V q x) (hW : xW x) (hT : T a = some (kJ 1)) : SpH l s0 D kL_bestPiece (jR 9 2 12) 2 12 [.ref q, .int r, .int s, .ref a] T V X sz (qW T V X sz q a (e_bp x r s) (bpV x.1 (xR x r) s.toInt.toNat) x (x)) := by
  refine SpH.of pn_L_bestPiece (Nat.le_of_ble_eq_true rfl) ?_
  refine j_aload_n dL_bestPiece_0 rfl ?_
  refine j_iconst (v := 0) dL_bestPiece_1 (by decide) ?_
  refine j_aload_n dL_bestPiece_2 rfl ?_
  refine j_iload_n dL_bestPiece_3 rfl ?_
  refine j_iload_n dL_bestPiece_4 rfl ?_
  refine j_callV dL_bestPiece_5 hB mo_X7_bestPiece ml_L_71 (sp_X7_bestPiece hB h hW) h.k rfl rfl rfl rfl ⟨rfl, rfl, by decide, by decide⟩ (Nat.le_of_ble_eq_true rfl) ⟨by decide, Nat.le_of_ble_eq_true rfl⟩ ?_ ?_
  · rintro v' T' V' X' sz' ⟨rfl, rfl, ha, ⟨v2, h1, rfl, he, hv, hc⟩ | ⟨E, k, h1, -⟩⟩
    · cases h1
      obtain ⟨r, rfl, hr⟩ := hv
      refine j_i2l dL_bestPiece_8 ?_
      refine j_last dL_bestPiece_9 hB hT (by decide) (by decide) ?_
      refine j_goto (tgt := 17) dL_bestPiece_10 (by decide) ?_
      refine j_iconst (v := 0) dL_bestPiece_17 (by decide) ?_
      refine j_iret dL_bestPiece_18 rfl rfl (by decide) (Nat.le_of_ble_eq_true rfl) ?_
      exact ⟨_, rfl, rfl, Nat.le_refl _, ha, by rw [he]; rfl, fun _ => ⟨hc, r, rfl, hr⟩, fun z => absurd he z⟩
    · cases h1
  · rintro E T' V' X' sz' ⟨rfl, rfl, ha, ⟨v2, h1, -⟩ | ⟨E2, k, h1, hz, hE, he, hc⟩⟩
    · cases h1
    · cases h1
      rcases k with _ | k
      · cases hE
        refine jx_catch (pre := []) (x := (0, 10, 13, 13)) (suf := []) hB hN rfl (fun z9 h9 => nomatch h9) (by decide) (by decide) (j_tb (List.mem_of_getElem? (i := 555) (by decide +kernel))) rfl (j_tb (List.mem_of_getElem? (i := 568) (by decide +kernel))) (fun qx => ?_)
        refine j_astore (L' := [(0, _), (1, _), (2, _), (3, _), (4, _)]) dL_bestPiece_13 (by decide) rfl ?_
        refine j_iconst (v := 1) dL_bestPiece_15 (by decide) ?_
        refine j_iret dL_bestPiece_16 rfl rfl (by decide) (Nat.le_of_ble_eq_true rfl) ?_
        exact ⟨_, rfl, rfl, hz, ha, by rw [he]; rfl, fun z => absurd z (by omega), fun _ => ⟨hc, rfl⟩⟩
      · cases hE
set_option maxRecDepth 100000 in
set_option maxHeartbeats 4000000 in
theorem sp_L_ifCranked (hB : jB l s0 D) (hN : jN s0) {q a : Nat} {x : aX} {r w : Int32} (h : cuIs T V q x) (hW : xW x) (hT : T a = some (kJ 1)) : SpH l s0 D kL_ifCranked (jR 9 2 12) 2 12 [.ref q, .int r, .int w, .ref a] T V X sz (qW T V X sz q a (e_if r w) (aSum (aBad1 x.1 (xR x r) w.toInt) (xR x r).1.length) x (x)) := by
  refine SpH.of pn_L_ifCranked (Nat.le_of_ble_eq_true rfl) ?_
  refine j_aload_n dL_ifCranked_0 rfl ?_
  refine j_iconst (v := 0) dL_ifCranked_1 (by decide) ?_
  refine j_aload_n dL_ifCranked_2 rfl ?_
  refine j_iload_n dL_ifCranked_3 rfl ?_
  refine j_iload_n dL_ifCranked_4 rfl ?_
  refine j_callV dL_ifCranked_5 hB mo_X7_ifCranked ml_L_74 (sp_X7_ifCranked hB h hW) h.k rfl rfl rfl rfl ⟨rfl, rfl, by decide, by decide⟩ (Nat.le_of_ble_eq_true rfl) ⟨by decide, Nat.le_of_ble_eq_true rfl⟩ ?_ ?_
  · rintro v' T' V' X' sz' ⟨rfl, rfl, ha, ⟨v2, h1, rfl, he, hv, hc⟩ | ⟨E, k, h1, -⟩⟩
    · cases h1
      obtain ⟨r, rfl, hr⟩ := hv
      refine j_i2l dL_ifCranked_8 ?_
      refine j_last dL_ifCranked_9 hB hT (by decide) (by decide) ?_
      refine j_goto (tgt := 21) dL_ifCranked_10 (by decide) ?_
      refine j_iconst (v := 0) dL_ifCranked_21 (by decide) ?_
      refine j_iret dL_ifCranked_22 rfl rfl (by decide) (Nat.le_of_ble_eq_true rfl) ?_
      exact ⟨_, rfl, rfl, Nat.le_refl _, ha, by rw [he]; rfl, fun _ => ⟨hc, r, rfl, hr⟩, fun z => absurd he z⟩
    · cases h1
  · rintro E T' V' X' sz' ⟨rfl, rfl, ha, ⟨v2, h1, -⟩ | ⟨E2, k, h1, hz, hE, he, hc⟩⟩
    · cases h1
    · cases h1
      rcases k with _ | k
      · cases hE
        refine jx_catch (pre := []) (x := (0, 10, 13, 13)) (suf := [(0, 10, 17, 15)]) hB hN rfl (fun z9 h9 => nomatch h9) (by decide) (by decide) (j_tb (List.mem_of_getElem? (i := 555) (by decide +kernel))) rfl (j_tb (List.mem_of_getElem? (i := 568) (by decide +kernel))) (fun qx => ?_)
        refine j_astore (L' := [(0, _), (1, _), (2, _), (3, _), (4, _)]) dL_ifCranked_13 (by decide) rfl ?_
        refine j_iconst (v := 1) dL_ifCranked_15 (by decide) ?_
        refine j_iret dL_ifCranked_16 rfl rfl (by decide) (Nat.le_of_ble_eq_true rfl) ?_
        exact ⟨_, rfl, rfl, hz, ha, by rw [he]; rfl, fun z => absurd z (by omega), fun _ => ⟨hc, rfl⟩⟩
      · skip
        rcases k with _ | k
        · cases hE
          refine jx_catch (pre := [(0, 10, 13, 13)]) (x := (0, 10, 17, 15)) (suf := []) hB hN rfl (List.forall_mem_cons.mpr ⟨⟨by decide, IO, ⟨j_tb (List.mem_of_getElem? (i := 555) (by decide +kernel)), rfl⟩, by decide⟩, fun z9 h9 => nomatch h9⟩) (by decide) (by decide) (j_tb (List.mem_of_getElem? (i := 556) (by decide +kernel))) rfl (j_tb (List.mem_of_getElem? (i := 639) (by decide +kernel))) (fun qx => ?_)
          refine j_astore (L' := [(0, _), (1, _), (2, _), (3, _), (4, _)]) dL_ifCranked_17 (by decide) rfl ?_
          refine j_iconst (v := 2) dL_ifCranked_19 (by decide) ?_
          refine j_iret dL_ifCranked_20 rfl rfl (by decide) (Nat.le_of_ble_eq_true rfl) ?_
          exact ⟨_, rfl, rfl, hz, ha, by rw [he]; rfl, fun z => absurd z (by omega), fun _ => ⟨hc, rfl⟩⟩
        · cases hE
set_option maxRecDepth 100000 in
set_option maxHeartbeats 4000000 in
theorem sp_L_bestSpeed (hB : jB l s0 D) (hN : jN s0) {q a : Nat} {x : aX} {r : Int32} (h : cuIs T V q x) (hW : xW x) (hT : T a = some (kJ 1)) : SpH l s0 D kL_bestSpeed (jR 9 1 6) 1 6 [.ref q, .int r, .ref a] T V X sz (qW T V X sz q a (e_fit r) (bsV x.1 (xR x r)) x (x)) := by
  refine SpH.of pn_L_bestSpeed (Nat.le_of_ble_eq_true rfl) ?_
  refine j_aload_n dL_bestSpeed_0 rfl ?_
  refine j_iconst (v := 0) dL_bestSpeed_1 (by decide) ?_
  refine j_aload_n dL_bestSpeed_2 rfl ?_
  refine j_iload_n dL_bestSpeed_3 rfl ?_
  refine j_callV dL_bestSpeed_4 hB mo_X7_bestSpeed ml_L_77 (sp_X7_bestSpeed hB h hW) h.k rfl rfl rfl rfl ⟨rfl, rfl, by decide, by decide⟩ (Nat.le_of_ble_eq_true rfl) ⟨by decide, Nat.le_of_ble_eq_true rfl⟩ ?_ ?_
  · rintro v' T' V' X' sz' ⟨rfl, rfl, ha, ⟨v2, h1, rfl, he, hv, hc⟩ | ⟨E, k, h1, -⟩⟩
    · cases h1
      obtain ⟨r, rfl, hr⟩ := hv
      refine j_i2l dL_bestSpeed_7 ?_
      refine j_last dL_bestSpeed_8 hB hT (by decide) (by decide) ?_
      refine j_goto (tgt := 15) dL_bestSpeed_9 (by decide) ?_
      refine j_iconst (v := 0) dL_bestSpeed_15 (by decide) ?_
      refine j_iret dL_bestSpeed_16 rfl rfl (by decide) (Nat.le_of_ble_eq_true rfl) ?_
      exact ⟨_, rfl, rfl, Nat.le_refl _, ha, by rw [he]; rfl, fun _ => ⟨hc, r, rfl, hr⟩, fun z => absurd he z⟩
    · cases h1
  · rintro E T' V' X' sz' ⟨rfl, rfl, ha, ⟨v2, h1, -⟩ | ⟨E2, k, h1, hz, hE, he, hc⟩⟩
    · cases h1
    · cases h1
      rcases k with _ | k
      · cases hE
        refine jx_catch (pre := []) (x := (0, 9, 12, 13)) (suf := []) hB hN rfl (fun z9 h9 => nomatch h9) (by decide) (by decide) (j_tb (List.mem_of_getElem? (i := 555) (by decide +kernel))) rfl (j_tb (List.mem_of_getElem? (i := 568) (by decide +kernel))) (fun qx => ?_)
        refine j_astore_n (L' := [(0, _), (1, _), (2, _), (3, _)]) dL_bestSpeed_12 (by decide) rfl ?_
        refine j_iconst (v := 1) dL_bestSpeed_13 (by decide) ?_
        refine j_iret dL_bestSpeed_14 rfl rfl (by decide) (Nat.le_of_ble_eq_true rfl) ?_
        exact ⟨_, rfl, rfl, hz, ha, by rw [he]; rfl, fun z => absurd z (by omega), fun _ => ⟨hc, rfl⟩⟩
      · cases hE
set_option maxRecDepth 100000 in
set_option maxHeartbeats 4000000 in
theorem sp_L_offShare (hB : jB l s0 D) (hN : jN s0) {q a : Nat} {x : aX} {r : Int32} (h : cuIs T V q x) (hW : xW x) (hT : T a = some (kDb 1)) : SpH l s0 D kL_offShare (jR 9 1 6) 1 6 [.ref q, .int r, .ref a] T V X sz (qWD T V X sz q a (e_fit r) (FP.f2d (ofV x.1 (xR x r))) x) := by
  refine SpH.of pn_L_offShare (Nat.le_of_ble_eq_true rfl) ?_
  refine j_aload_n dL_offShare_0 rfl ?_
  refine j_iconst (v := 0) dL_offShare_1 (by decide) ?_
  refine j_aload_n dL_offShare_2 rfl ?_
  refine j_iload_n dL_offShare_3 rfl ?_
  refine j_callV dL_offShare_4 hB mo_X7_offShare ml_L_80 (sp_X7_offShare hB h hW) h.k rfl rfl rfl rfl ⟨rfl, rfl, by decide, by decide⟩ (Nat.le_of_ble_eq_true rfl) ⟨by decide, Nat.le_of_ble_eq_true rfl⟩ ?_ ?_
  · rintro v' T' V' X' sz' ⟨rfl, rfl, ha, ⟨v2, h1, rfl, he, hv, hc⟩ | ⟨E, k, h1, -⟩⟩
    · cases h1
      subst hv
      refine j_f2d dL_offShare_7 (f2d_V (ofV_V hW.1.1 (hW.r r))).n ?_
      refine j_dast dL_offShare_8 hB hT (by decide) (by decide) ?_
      refine j_goto (tgt := 15) dL_offShare_9 (by decide) ?_
      refine j_iconst (v := 0) dL_offShare_15 (by decide) ?_
      refine j_iret dL_offShare_16 rfl rfl (by decide) (Nat.le_of_ble_eq_true rfl) ?_
      exact ⟨_, rfl, rfl, Nat.le_refl _, ha, by rw [he]; rfl, fun _ => ⟨hc, rfl⟩, fun z => absurd he z⟩
    · cases h1
  · rintro E T' V' X' sz' ⟨rfl, rfl, ha, ⟨v2, h1, -⟩ | ⟨E2, k, h1, hz, hE, he, hc⟩⟩
    · cases h1
    · cases h1
      rcases k with _ | k
      · cases hE
        refine jx_catch (pre := []) (x := (0, 9, 12, 13)) (suf := []) hB hN rfl (fun z9 h9 => nomatch h9) (by decide) (by decide) (j_tb (List.mem_of_getElem? (i := 555) (by decide +kernel))) rfl (j_tb (List.mem_of_getElem? (i := 568) (by decide +kernel))) (fun qx => ?_)
        refine j_astore_n (L' := [(0, _), (1, _), (2, _), (3, _)]) dL_offShare_12 (by decide) rfl ?_
        refine j_iconst (v := 1) dL_offShare_13 (by decide) ?_
        refine j_iret dL_offShare_14 rfl rfl (by decide) (Nat.le_of_ble_eq_true rfl) ?_
        exact ⟨_, rfl, rfl, hz, ha, by rw [he]; rfl, fun z => absurd z (by omega), fun _ => ⟨hc, rfl⟩⟩
      · cases hE
set_option maxRecDepth 100000 in
set_option maxHeartbeats 4000000 in
theorem sp_L_meanSpeed (hB : jB l s0 D) (hN : jN s0) {q a : Nat} {x : aX} {r : Int32} (h : cuIs T V q x) (hW : xW x) (hT : T a = some (kDb 1)) : SpH l s0 D kL_meanSpeed (jR 9 1 6) 1 6 [.ref q, .int r, .ref a] T V X sz (qWD T V X sz q a (e_fit r) (mnV (xR x r)) x) := by
  refine SpH.of pn_L_meanSpeed (Nat.le_of_ble_eq_true rfl) ?_
  refine j_aload_n dL_meanSpeed_0 rfl ?_
  refine j_iconst (v := 0) dL_meanSpeed_1 (by decide) ?_
  refine j_aload_n dL_meanSpeed_2 rfl ?_
  refine j_iload_n dL_meanSpeed_3 rfl ?_
  refine j_callV dL_meanSpeed_4 hB mo_X7_meanSpeed ml_L_84 (sp_X7_meanSpeed hB h hW) h.k rfl rfl rfl rfl ⟨rfl, rfl, by decide, by decide⟩ (Nat.le_of_ble_eq_true rfl) ⟨by decide, Nat.le_of_ble_eq_true rfl⟩ ?_ ?_
  · rintro v' T' V' X' sz' ⟨rfl, rfl, ha, ⟨v2, h1, rfl, he, hv, hc⟩ | ⟨E, k, h1, -⟩⟩
    · cases h1
      subst hv
      refine j_dast dL_meanSpeed_7 hB hT (by decide) (by decide) ?_
      refine j_goto (tgt := 14) dL_meanSpeed_8 (by decide) ?_
      refine j_iconst (v := 0) dL_meanSpeed_14 (by decide) ?_
      refine j_iret dL_meanSpeed_15 rfl rfl (by decide) (Nat.le_of_ble_eq_true rfl) ?_
      exact ⟨_, rfl, rfl, Nat.le_refl _, ha, by rw [he]; rfl, fun _ => ⟨hc, rfl⟩, fun z => absurd he z⟩
    · cases h1
  · rintro E T' V' X' sz' ⟨rfl, rfl, ha, ⟨v2, h1, -⟩ | ⟨E2, k, h1, hz, hE, he, hc⟩⟩
    · cases h1
    · cases h1
      rcases k with _ | k
      · cases hE
        refine jx_catch (pre := []) (x := (0, 8, 11, 13)) (suf := []) hB hN rfl (fun z9 h9 => nomatch h9) (by decide) (by decide) (j_tb (List.mem_of_getElem? (i := 555) (by decide +kernel))) rfl (j_tb (List.mem_of_getElem? (i := 568) (by decide +kernel))) (fun qx => ?_)
        refine j_astore_n (L' := [(0, _), (1, _), (2, _), (3, _)]) dL_meanSpeed_11 (by decide) rfl ?_
        refine j_iconst (v := 1) dL_meanSpeed_12 (by decide) ?_
        refine j_iret dL_meanSpeed_13 rfl rfl (by decide) (Nat.le_of_ble_eq_true rfl) ?_
        exact ⟨_, rfl, rfl, hz, ha, by rw [he]; rfl, fun z => absurd z (by omega), fun _ => ⟨hc, rfl⟩⟩
      · cases hE
end JW
