/-! CueSheetsModel: saved states, marks, scenes: what changes the numbers -/
theorem mC.thr {T : jT} {V V' : jV} {X : jX} {sz q e : Nat} {P : Int32 → Prop} {x x' : aX} {r : Int32} {kz : Int} (k : Nat) (he : e = k + 1) (ha : jAg V V' q (q + 9)) (ht : isI (V' q 0) kz) (hz : kz = ((k + 1 : Nat) : Int)) (h : moIs T V' q x) : mC T V X sz q e P x x' (.inl (some (.int r))) T V' X sz :=
  ⟨r, rfl, rfl, rfl, rfl, ha, by rw [he, ← hz]; exact ht, fun z => absurd z (by omega), fun _ => h⟩
theorem mC.ret {T : jT} {V V' : jV} {X : jX} {sz q e : Nat} {P : Int32 → Prop} {x x' : aX} {r : Int32} (he : e = 0) (ha : jAg V V' q (q + 9)) (ht : isI (V' q 0) 0) (hp : P r) (h : moIs T V' q x') : mC T V X sz q e P x x' (.inl (some (.int r))) T V' X sz :=
  ⟨r, rfl, rfl, rfl, rfl, ha, by rw [he]; exact ht, fun _ => ⟨hp, h⟩, fun z => absurd he z⟩
section JM8
variable {l : Launch} {s0 : State} {D : jD} {T : jT} {V : jV} {X : jX} {sz : Nat}
set_option maxRecDepth 100000 in
set_option maxHeartbeats 4000000 in
theorem sp_X8_save (hB : jB l s0 D) {q : Nat} (h0 : moT T q) {x : aX} (h : moIs T V q x) (hW : xW x)  : Sp l s0 D kX8_save (jR 0 0 0) 0 0 [.ref q] T V X sz (qU T X sz (fun V' => moIs T V' q (xNow x x.1) ∧ V' (q + 1) = V (q + 1) ∧ V' q 0 = V q 0 ∧ jAg V V' q (q + 9) ∧ V' (q + 8) = V (q + 8) ∧ ∀ k, ¬ k = 2 → V' q k = V q k)) := by
  refine Sp.of pn_X8_save rfl (Nat.le_of_ble_eq_true rfl) ?_
  have hn6 := hW.2.2.1
  have hsv : isI (V q 2) x.2.1.length := h.2.2.1.1
  -- the state joins the saved ones B
  have second : ∀ (B : List aS) (V1 : jV), B.length ≤ 5 → (V1 q 2).toInt = B.length → (∀ a : Nat, ¬ a = q → ¬ a = q + 2 → V1 a = V a) → (∀ k : Nat, ¬ k = 2 → V1 q k = V q k) → (∀ (k : Nat) (s : aS), B[k]? = some s → zIs (fun i => V1 (q + 2) (231 * k + i)) s ∧ stW s) → xPush x = B ++ [x.1] → J l s0 D kX8_save (jR 0 0 0) 0 0 (qU T X sz (fun V' => moIs T V' q (xNow x x.1) ∧ V' (q + 1) = V (q + 1) ∧ V' q 0 = V q 0 ∧ jAg V V' q (q + 9) ∧ V' (q + 8) = V (q + 8) ∧ ∀ k, ¬ k = 2 → V' q k = V q k)) 52 [(0, .ref q)] [] T V1 X sz 0 0 := by
    intro B V1 hB5 hm ha hf hs hpush
    have loop : ∀ (n k : Nat) (i : Int32) (V2 : jV), k + n = 231 → i.toInt = k → (∀ a : Nat, ¬ a = q + 2 → V2 a = V1 a) → (∀ j : Nat, j < 231 * B.length → V2 (q + 2) j = V1 (q + 2) j) → (∀ j : Nat, j < k → V2 (q + 2) (231 * B.length + j) = V1 (q + 1) j) → J l s0 D kX8_save (jR 0 0 0) 0 0 (qU T X sz (fun V' => moIs T V' q (xNow x x.1) ∧ V' (q + 1) = V (q + 1) ∧ V' q 0 = V q 0 ∧ jAg V V' q (q + 9) ∧ V' (q + 8) = V (q + 8) ∧ ∀ k, ¬ k = 2 → V' q k = V q k)) 54 [(0, .ref q), (1, .int i)] [] T V2 X sz 0 0 := by
      intro n
      refine Nat.strongRecOn n ?_
      clear n
      intro n ih k i V2 hn hi ha2 h2 h3
      have hm2 : isI (V2 q 2) B.length := by rw [ha2 q (by omega)]; exact hm
      refine j_iload_n dX8_save_54 rfl ?_
      refine j_sipush (v := 231) dX8_save_55 (by decide) ?_
      refine m_icmp_ge (tgt := 88) dX8_save_58 (by decide) (hi) (iC 231 (by decide)) (fun c_58 => ?_) (fun c_58 => ?_)
      · refine j_aload_n dX8_save_88 rfl ?_
        refine j_dup dX8_save_89 rfl ?_
        refine j_geti dX8_save_90 hB fl_X8_88 (by first | exact h0.1 | exact h0.2.1 | exact h0.2.2.1 | exact h0.2.2.2.1 | exact h0.2.2.2.2.1 | exact h0.2.2.2.2.2.1 | exact h0.2.2.2.2.2.2.1 | exact h0.2.2.2.2.2.2.2.1 | exact h0.2.2.2.2.2.2.2.2) (by rfl) ?_
        refine j_iconst (v := 1) dX8_save_93 (by decide) ?_
        refine j_iadd dX8_save_94 ?_
        refine j_puti dX8_save_95 hB fp_X8_save_88 (by first | exact h0.1 | exact h0.2.1 | exact h0.2.2.1 | exact h0.2.2.2.1 | exact h0.2.2.2.2.1 | exact h0.2.2.2.2.2.1 | exact h0.2.2.2.2.2.2.1 | exact h0.2.2.2.2.2.2.2.1 | exact h0.2.2.2.2.2.2.2.2) (by rfl) ?_
        refine j_vret dX8_save_98 rfl (by decide) (by decide) ?_
        have hk : k = 231 := by omega
        subst hk
        have e1 : ∀ a : Nat, ¬ a = q → ¬ a = q + 2 → V2 a = V a := fun a h8 h9 => (ha2 a h9).trans (ha a h8 h9)
        have r1 : jset V2 q 2 (V2 q 2 + 1) (q + 1) = V (q + 1) := by rw [jset_row (by omega)]; exact e1 _ (by omega) (by omega)
        have r2 : jset V2 q 2 (V2 q 2 + 1) (q + 2) = V2 (q + 2) := jset_row (by omega)
        have r3 : jset V2 q 2 (V2 q 2 + 1) (q + 3) = V (q + 3) := by rw [jset_row (by omega)]; exact e1 _ (by omega) (by omega)
        have r4 : ∀ k, ¬ k = 2 → jset V2 q 2 (V2 q 2 + 1) q k = V q k := fun k hk => by rw [jset_ne (Or.inr hk), ha2 q (by omega)]; exact hf k hk
        refine ⟨rfl, rfl, rfl, rfl, ⟨h.1, by rw [r1]; exact h.2.1, ⟨?_, fun k s hk => ?_⟩, by rw [r4 4 (by omega)]; exact h.2.2.2.1, by rw [r3]; exact h.2.2.2.2⟩, r1, r4 0 (by omega), fun a h9 => ?_, by rw [jset_row (by omega)]; exact e1 _ (by omega) (by omega), r4⟩
        · show (jset V2 q 2 (V2 q 2 + 1) q 2).toInt = ((xPush x).length : Nat)
          rw [jset_eq, hpush, List.length_append]
          exact ixz (iA hm2 (iC 1 (by decide)) (by omega)) rfl
        · have hk : (xPush x)[k]? = some s := hk
          rw [hpush] at hk
          rw [r2]
          by_cases g : k < B.length
          · rw [List.getElem?_append_left g] at hk
            have := hs k s hk
            exact this.1.cg this.2 (fun i hi => h2 _ (by omega))
          · rw [List.getElem?_append_right (by omega)] at hk
            have g2 : k - B.length = 0 := by
              rcases Nat.eq_zero_or_pos (k - B.length) with z | z
              · exact z
              · rw [List.getElem?_eq_none (by show 1 ≤ _; omega)] at hk; cases hk
            rw [g2] at hk
            cases hk
            have : k = B.length := by omega
            subst this
            exact h.2.1.cg hW.1 (fun i hi => (h3 i hi).trans (by rw [ha (q + 1) (by omega) (by omega)]))
        · rw [jset_row (by omega)]; exact e1 a (by omega) (by omega)
      · refine j_aload_n dX8_save_61 rfl ?_
        refine j_getr dX8_save_62 hB fl_X8_13 (by first | exact h0.1 | exact h0.2.1 | exact h0.2.2.1 | exact h0.2.2.2.1 | exact h0.2.2.2.2.1 | exact h0.2.2.2.2.2.1 | exact h0.2.2.2.2.2.2.1 | exact h0.2.2.2.2.2.2.2.1 | exact h0.2.2.2.2.2.2.2.2) (by rfl) ?_
        refine j_sipush (v := 231) dX8_save_65 (by decide) ?_
        refine j_aload_n dX8_save_68 rfl ?_
        refine j_geti dX8_save_69 hB fl_X8_88 (by first | exact h0.1 | exact h0.2.1 | exact h0.2.2.1 | exact h0.2.2.2.1 | exact h0.2.2.2.2.1 | exact h0.2.2.2.2.2.1 | exact h0.2.2.2.2.2.2.1 | exact h0.2.2.2.2.2.2.2.1 | exact h0.2.2.2.2.2.2.2.2) (by rfl) ?_
        refine j_imul dX8_save_72 ?_
        refine j_iload_n dX8_save_73 rfl ?_
        refine j_iadd dX8_save_74 ?_
        refine j_aload_n dX8_save_75 rfl ?_
        refine j_getr dX8_save_76 hB fl_X8_7 (by first | exact h0.1 | exact h0.2.1 | exact h0.2.2.1 | exact h0.2.2.2.1 | exact h0.2.2.2.2.1 | exact h0.2.2.2.2.2.1 | exact h0.2.2.2.2.2.2.1 | exact h0.2.2.2.2.2.2.2.1 | exact h0.2.2.2.2.2.2.2.2) (by rfl) ?_
        refine j_iload_n dX8_save_79 rfl ?_
        refine m_iald (k := k) dX8_save_80 hB (by first | exact h0.1 | exact h0.2.1 | exact h0.2.2.1 | exact h0.2.2.2.1 | exact h0.2.2.2.2.1 | exact h0.2.2.2.2.2.1 | exact h0.2.2.2.2.2.2.1 | exact h0.2.2.2.2.2.2.2.1 | exact h0.2.2.2.2.2.2.2.2) (ixk (hi) (by omega)) (by omega) ?_
        refine m_iast (k := 231 * B.length + k) dX8_save_81 hB (by first | exact h0.1 | exact h0.2.1 | exact h0.2.2.1 | exact h0.2.2.2.1 | exact h0.2.2.2.2.1 | exact h0.2.2.2.2.2.1 | exact h0.2.2.2.2.2.2.1 | exact h0.2.2.2.2.2.2.2.1 | exact h0.2.2.2.2.2.2.2.2) (ixk (iA (iM (iC 231 (by decide)) (hm2) (by omega)) (hi) (by omega)) (by omega)) (by omega) ?_
        refine j_iinc (v := 1) (L' := [(0, _), (1, _)]) dX8_save_82 rfl (by decide) (by decide) rfl ?_
        refine j_goto (tgt := 54) dX8_save_85 (by decide) ?_
        refine ih (n - 1) (by omega) (k + 1) _ _ (by omega) ?_ ?_ ?_ ?_
        · exact (ixk (k := k + 1) (iA (hi) (iC 1 (by decide)) (by omega)) (by omega))
        · intro a h9; rw [jset_row h9]; exact ha2 a h9
        · intro j h9; rw [jset_ne (Or.inr (by omega))]; exact h2 j h9
        · intro j h9
          rcases Nat.lt_or_ge j k with g | g
          · rw [jset_ne (Or.inr (by omega))]; exact h3 j g
          · have : j = k := by omega
            subst this
            rw [jset_eq, ha2 (q + 1) (by omega)]
    refine j_iconst (v := 0) dX8_save_52 (by decide) ?_
    refine j_istore_n (L' := [(0, _), (1, _)]) dX8_save_53 (by decide) rfl ?_
    refine loop 231 0 0 V1 (by omega) rfl (fun a h9 => rfl) (fun j h9 => rfl) (fun j h9 => absurd h9 (Nat.not_lt_zero _))
  have first : x.2.1.length = 6 → ∀ (n t : Nat) (i : Int32) (V1 : jV), t + n = 1155 → i.toInt = ((231 + t : Nat) : Int) → (∀ a : Nat, ¬ a = q + 2 → V1 a = V a) → (∀ j : Nat, V1 (q + 2) j = if j < t then V (q + 2) (j + 231) else V (q + 2) j) → J l s0 D kX8_save (jR 0 0 0) 0 0 (qU T X sz (fun V' => moIs T V' q (xNow x x.1) ∧ V' (q + 1) = V (q + 1) ∧ V' q 0 = V q 0 ∧ jAg V V' q (q + 9) ∧ V' (q + 8) = V (q + 8) ∧ ∀ k, ¬ k = 2 → V' q k = V q k)) 13 [(0, .ref q), (1, .int i)] [] T V1 X sz 0 0 := by
    intro h6 n
    refine Nat.strongRecOn n ?_
    clear n
    intro n ih t i V1 hn hi ha hv
    have hs1 : isI (V1 q 2) x.2.1.length := by rw [ha q (by omega)]; exact hsv
    refine j_iload_n dX8_save_13 rfl ?_
    refine j_sipush (v := 1386) dX8_save_14 (by decide) ?_
    refine m_icmp_ge (tgt := 42) dX8_save_17 (by decide) (hi) (iC 1386 (by decide)) (fun c_17 => ?_) (fun c_17 => ?_)
    · refine j_aload_n dX8_save_42 rfl ?_
      refine j_dup dX8_save_43 rfl ?_
      refine j_geti dX8_save_44 hB fl_X8_88 (by first | exact h0.1 | exact h0.2.1 | exact h0.2.2.1 | exact h0.2.2.2.1 | exact h0.2.2.2.2.1 | exact h0.2.2.2.2.2.1 | exact h0.2.2.2.2.2.2.1 | exact h0.2.2.2.2.2.2.2.1 | exact h0.2.2.2.2.2.2.2.2) (by rfl) ?_
      refine j_iconst (v := 1) dX8_save_47 (by decide) ?_
      refine j_isub dX8_save_48 ?_
      refine j_puti dX8_save_49 hB fp_X8_save_88 (by first | exact h0.1 | exact h0.2.1 | exact h0.2.2.1 | exact h0.2.2.2.1 | exact h0.2.2.2.2.1 | exact h0.2.2.2.2.2.1 | exact h0.2.2.2.2.2.2.1 | exact h0.2.2.2.2.2.2.2.1 | exact h0.2.2.2.2.2.2.2.2) (by rfl) ?_
      refine j_sub2 (L' := [(0, _)]) (List.forall_mem_cons.mpr ⟨rfl, fun _ h9 => nomatch h9⟩) ?_
      have ht : t = 1155 := by omega
      subst ht
      refine second x.2.1.tail _ (by rw [List.length_tail]; omega) ?_ ?_ ?_ ?_ ?_
      · rw [jset_eq, List.length_tail]
        exact ixz (iS hs1 (iC 1 (by decide)) (by omega)) (by omega)
      · intro a h8 h9; rw [jset_row h8]; exact ha a h9
      · intro k h9; rw [jset_ne (Or.inr h9), ha q (by omega)]
      · intro k s hk
        rw [List.getElem?_tail] at hk
        have hk6 : k + 1 < x.2.1.length := (List.getElem?_eq_some_iff.mp hk).1
        have hw := hW.2.1 s (List.mem_of_getElem? hk)
        refine ⟨(h.2.2.1.2 (k + 1) s hk).cg hw (fun i9 hi9 => ?_), hw⟩
        rw [jset_row (by omega), hv, if_pos (by omega), show 231 * k + i9 + 231 = 231 * (k + 1) + i9 by omega]
      · unfold xPush; rw [if_pos (by omega)]
    · refine j_aload_n dX8_save_20 rfl ?_
      refine j_getr dX8_save_21 hB fl_X8_13 (by first | exact h0.1 | exact h0.2.1 | exact h0.2.2.1 | exact h0.2.2.2.1 | exact h0.2.2.2.2.1 | exact h0.2.2.2.2.2.1 | exact h0.2.2.2.2.2.2.1 | exact h0.2.2.2.2.2.2.2.1 | exact h0.2.2.2.2.2.2.2.2) (by rfl) ?_
      refine j_iload_n dX8_save_24 rfl ?_
      refine j_sipush (v := 231) dX8_save_25 (by decide) ?_
      refine j_isub dX8_save_28 ?_
      refine j_aload_n dX8_save_29 rfl ?_
      refine j_getr dX8_save_30 hB fl_X8_13 (by first | exact h0.1 | exact h0.2.1 | exact h0.2.2.1 | exact h0.2.2.2.1 | exact h0.2.2.2.2.1 | exact h0.2.2.2.2.2.1 | exact h0.2.2.2.2.2.2.1 | exact h0.2.2.2.2.2.2.2.1 | exact h0.2.2.2.2.2.2.2.2) (by rfl) ?_
      refine j_iload_n dX8_save_33 rfl ?_
      refine m_iald (k := (231 + t)) dX8_save_34 hB (by first | exact h0.1 | exact h0.2.1 | exact h0.2.2.1 | exact h0.2.2.2.1 | exact h0.2.2.2.2.1 | exact h0.2.2.2.2.2.1 | exact h0.2.2.2.2.2.2.1 | exact h0.2.2.2.2.2.2.2.1 | exact h0.2.2.2.2.2.2.2.2) (ixk (hi) (by omega)) (by omega) ?_
      refine m_iast (k := t) dX8_save_35 hB (by first | exact h0.1 | exact h0.2.1 | exact h0.2.2.1 | exact h0.2.2.2.1 | exact h0.2.2.2.2.1 | exact h0.2.2.2.2.2.1 | exact h0.2.2.2.2.2.2.1 | exact h0.2.2.2.2.2.2.2.1 | exact h0.2.2.2.2.2.2.2.2) (ixk (iS (hi) (iC 231 (by decide)) (by omega)) (by omega)) (by omega) ?_
      refine j_iinc (v := 1) (L' := [(0, _), (1, _)]) dX8_save_36 rfl (by decide) (by decide) rfl ?_
      refine j_goto (tgt := 13) dX8_save_39 (by decide) ?_
      refine ih (n - 1) (by omega) (t + 1) _ _ (by omega) ?_ ?_ ?_
      · exact (ixk (k := 231 + (t + 1)) (iA (hi) (iC 1 (by decide)) (by omega)) (by omega))
      · intro a h9; rw [jset_row h9]; exact ha a h9
      · intro j
        by_cases g : j = t
        · subst g
          rw [jset_eq, hv, if_neg (by omega), if_pos (by omega), show 231 + j = j + 231 by omega]
        · rw [jset_ne (Or.inr g), hv]
          by_cases g2 : j < t
          · rw [if_pos g2, if_pos (by omega)]
          · rw [if_neg g2, if_neg (by omega)]
  refine j_aload_n dX8_save_0 rfl ?_
  refine j_geti dX8_save_1 hB fl_X8_88 (by first | exact h0.1 | exact h0.2.1 | exact h0.2.2.1 | exact h0.2.2.2.1 | exact h0.2.2.2.2.1 | exact h0.2.2.2.2.2.1 | exact h0.2.2.2.2.2.2.1 | exact h0.2.2.2.2.2.2.2.1 | exact h0.2.2.2.2.2.2.2.2) (by rfl) ?_
  refine j_bipush (v := 6) dX8_save_4 (by decide) ?_
  refine m_icmp_ne (tgt := 52) dX8_save_6 (by decide) (hsv) (iC 6 (by decide)) (fun c_6 => ?_) (fun c_6 => ?_)
  · refine second x.2.1 V (by omega) hsv (fun a _ _ => rfl) (fun k _ => rfl) (fun k s hk => ⟨h.2.2.1.2 k s hk, hW.2.1 s (List.mem_of_getElem? hk)⟩) ?_
    unfold xPush; rw [if_neg (by omega)]
  · refine j_sipush (v := 231) dX8_save_9 (by decide) ?_
    refine j_istore_n (L' := [(0, _), (1, _)]) dX8_save_12 (by decide) rfl ?_
    exact first (by omega) 1155 0 231 V rfl rfl (fun a _ => rfl) (fun j => (if_neg (Nat.not_lt_zero _)).symm)
set_option maxRecDepth 100000 in
set_option maxHeartbeats 4000000 in
theorem sp_X8_bring (hB : jB l s0 D) {q : Nat} (h0 : moT T q) {r : Int32} {z : Nat} (hz : r.toInt = z) (z3 : z < 3) {x : aX} (h : moIs T V q x) (hW : stW x.1) {a b c d : Int32} (hl : (xR x r).1.length < 10)  : Sp l s0 D kX8_bring (jR 1 0 0) 0 0 [.ref q, .int r, .int a, .int b, .int c, .int d] T V X sz (qU T X sz (fun V' => zIs (V' (q + 1)) (sSet x.1 r.toInt (rExt (xR x r) a b c d)) ∧ jAg V V' (q + 1) (q + 2))) := by
  refine Sp.of pn_X8_bring rfl (Nat.le_of_ble_eq_true rfl) ?_
  have hr := h.r hz z3
  have hrl : rlW x.1 (xR x r) := hW.r _
  have h10 := hrl.2.2.2.1
  have hp := hW.1
  refine j_bipush (v := 67) dX8_bring_0 (by decide) ?_
  refine j_iload_n dX8_bring_2 rfl ?_
  refine j_imul dX8_bring_3 ?_
  refine j_iconst (v := 1) dX8_bring_4 (by decide) ?_
  refine j_iadd dX8_bring_5 ?_
  refine j_iconst (v := 4) dX8_bring_6 (by decide) ?_
  refine j_aload_n dX8_bring_7 rfl ?_
  refine j_iload_n dX8_bring_8 rfl ?_
  refine j_cVi dX8_bring_9 hB mo_X8_scenes ml_X8_46 (sp_X8_scenes hB h0 (ixk (k := z) (hz) (by omega)) z3) (by first | exact h0.1 | exact h0.2.1 | exact h0.2.2.1 | exact h0.2.2.2.1 | exact h0.2.2.2.2.1 | exact h0.2.2.2.2.2.1 | exact h0.2.2.2.2.2.2.1 | exact h0.2.2.2.2.2.2.2.1 | exact h0.2.2.2.2.2.2.2.2) rfl rfl rfl rfl ⟨rfl, rfl, by decide, by decide⟩ (Nat.le_of_ble_eq_true rfl) ⟨by decide, by decide⟩ (fun r_9 V_9 h_9 => ?_)
  obtain ⟨rfl, h_9⟩ := h_9
  subst h_9
  refine j_imul dX8_bring_12 ?_
  refine j_iadd dX8_bring_13 ?_
  refine j_istore (L' := [(0, _), (1, _), (2, _), (3, _), (4, _), (5, _), (6, _)]) dX8_bring_14 (by decide) rfl ?_
  refine j_aload_n dX8_bring_16 rfl ?_
  refine j_getr dX8_bring_17 hB fl_X8_7 (by first | exact h0.1 | exact h0.2.1 | exact h0.2.2.1 | exact h0.2.2.2.1 | exact h0.2.2.2.2.1 | exact h0.2.2.2.2.2.1 | exact h0.2.2.2.2.2.2.1 | exact h0.2.2.2.2.2.2.2.1 | exact h0.2.2.2.2.2.2.2.2) (by rfl) ?_
  refine j_iload dX8_bring_20 rfl ?_
  refine j_iconst (v := 0) dX8_bring_22 (by decide) ?_
  refine j_iadd dX8_bring_23 ?_
  refine j_iload_n dX8_bring_24 rfl ?_
  refine m_iast (k := 67 * z + 1 + 4 * (xR x r).1.length + 0) dX8_bring_25 hB (by first | exact h0.1 | exact h0.2.1 | exact h0.2.2.1 | exact h0.2.2.2.1 | exact h0.2.2.2.2.1 | exact h0.2.2.2.2.2.1 | exact h0.2.2.2.2.2.2.1 | exact h0.2.2.2.2.2.2.2.1 | exact h0.2.2.2.2.2.2.2.2) (ixk (iA (iA (iA (iM (iC 67 (by decide)) (hz) (by omega)) (iC 1 (by decide)) (by omega)) (iM (iC 4 (by decide)) (hr.1) (by omega)) (by omega)) (iC 0 (by decide)) (by omega)) (by omega)) (by omega) ?_
  refine j_aload_n dX8_bring_26 rfl ?_
  refine j_getr dX8_bring_27 hB fl_X8_7 (by first | exact h0.1 | exact h0.2.1 | exact h0.2.2.1 | exact h0.2.2.2.1 | exact h0.2.2.2.2.1 | exact h0.2.2.2.2.2.1 | exact h0.2.2.2.2.2.2.1 | exact h0.2.2.2.2.2.2.2.1 | exact h0.2.2.2.2.2.2.2.2) (by rfl) ?_
  refine j_iload dX8_bring_30 rfl ?_
  refine j_iconst (v := 1) dX8_bring_32 (by decide) ?_
  refine j_iadd dX8_bring_33 ?_
  refine j_iload_n dX8_bring_34 rfl ?_
  refine m_iast (k := 67 * z + 1 + 4 * (xR x r).1.length + 1) dX8_bring_35 hB (by first | exact h0.1 | exact h0.2.1 | exact h0.2.2.1 | exact h0.2.2.2.1 | exact h0.2.2.2.2.1 | exact h0.2.2.2.2.2.1 | exact h0.2.2.2.2.2.2.1 | exact h0.2.2.2.2.2.2.2.1 | exact h0.2.2.2.2.2.2.2.2) (ixk (iA (iA (iA (iM (iC 67 (by decide)) (hz) (by omega)) (iC 1 (by decide)) (by omega)) (iM (iC 4 (by decide)) (hr.1) (by omega)) (by omega)) (iC 1 (by decide)) (by omega)) (by omega)) (by omega) ?_
  refine j_aload_n dX8_bring_36 rfl ?_
  refine j_getr dX8_bring_37 hB fl_X8_7 (by first | exact h0.1 | exact h0.2.1 | exact h0.2.2.1 | exact h0.2.2.2.1 | exact h0.2.2.2.2.1 | exact h0.2.2.2.2.2.1 | exact h0.2.2.2.2.2.2.1 | exact h0.2.2.2.2.2.2.2.1 | exact h0.2.2.2.2.2.2.2.2) (by rfl) ?_
  refine j_iload dX8_bring_40 rfl ?_
  refine j_iconst (v := 2) dX8_bring_42 (by decide) ?_
  refine j_iadd dX8_bring_43 ?_
  refine j_iload dX8_bring_44 rfl ?_
  refine m_iast (k := 67 * z + 1 + 4 * (xR x r).1.length + 2) dX8_bring_46 hB (by first | exact h0.1 | exact h0.2.1 | exact h0.2.2.1 | exact h0.2.2.2.1 | exact h0.2.2.2.2.1 | exact h0.2.2.2.2.2.1 | exact h0.2.2.2.2.2.2.1 | exact h0.2.2.2.2.2.2.2.1 | exact h0.2.2.2.2.2.2.2.2) (ixk (iA (iA (iA (iM (iC 67 (by decide)) (hz) (by omega)) (iC 1 (by decide)) (by omega)) (iM (iC 4 (by decide)) (hr.1) (by omega)) (by omega)) (iC 2 (by decide)) (by omega)) (by omega)) (by omega) ?_
  refine j_aload_n dX8_bring_47 rfl ?_
  refine j_getr dX8_bring_48 hB fl_X8_7 (by first | exact h0.1 | exact h0.2.1 | exact h0.2.2.1 | exact h0.2.2.2.1 | exact h0.2.2.2.2.1 | exact h0.2.2.2.2.2.1 | exact h0.2.2.2.2.2.2.1 | exact h0.2.2.2.2.2.2.2.1 | exact h0.2.2.2.2.2.2.2.2) (by rfl) ?_
  refine j_iload dX8_bring_51 rfl ?_
  refine j_iconst (v := 3) dX8_bring_53 (by decide) ?_
  refine j_iadd dX8_bring_54 ?_
  refine j_iload dX8_bring_55 rfl ?_
  refine m_iast (k := 67 * z + 1 + 4 * (xR x r).1.length + 3) dX8_bring_57 hB (by first | exact h0.1 | exact h0.2.1 | exact h0.2.2.1 | exact h0.2.2.2.1 | exact h0.2.2.2.2.1 | exact h0.2.2.2.2.2.1 | exact h0.2.2.2.2.2.2.1 | exact h0.2.2.2.2.2.2.2.1 | exact h0.2.2.2.2.2.2.2.2) (ixk (iA (iA (iA (iM (iC 67 (by decide)) (hz) (by omega)) (iC 1 (by decide)) (by omega)) (iM (iC 4 (by decide)) (hr.1) (by omega)) (by omega)) (iC 3 (by decide)) (by omega)) (by omega)) (by omega) ?_
  generalize hV1 : jset (jset (jset (jset V (q + 1) (67 * z + 1 + 4 * (xR x r).1.length + 0) a) (q + 1) (67 * z + 1 + 4 * (xR x r).1.length + 1) b) (q + 1) (67 * z + 1 + 4 * (xR x r).1.length + 2) c) (q + 1) (67 * z + 1 + 4 * (xR x r).1.length + 3) d = V1
  have ag : jAg V V1 (q + 1) (q + 2) := by rw [← hV1]; exact (((jAg.rf.set (by omega) (by omega)).set (by omega) (by omega)).set (by omega) (by omega)).set (by omega) (by omega)
  have z0 : V1 (q + 1) (67 * z + 1 + 4 * (xR x r).1.length + 0) = a := by rw [← hV1, jset_ne (Or.inr (by omega)), jset_ne (Or.inr (by omega)), jset_ne (Or.inr (by omega)), jset_eq]
  have z1 : V1 (q + 1) (67 * z + 1 + 4 * (xR x r).1.length + 1) = b := by rw [← hV1, jset_ne (Or.inr (by omega)), jset_ne (Or.inr (by omega)), jset_eq]
  have z2 : V1 (q + 1) (67 * z + 1 + 4 * (xR x r).1.length + 2) = c := by rw [← hV1, jset_ne (Or.inr (by omega)), jset_eq]
  have z4 : V1 (q + 1) (67 * z + 1 + 4 * (xR x r).1.length + 3) = d := by rw [← hV1, jset_eq]
  have zr : ∀ t, (t < 67 * z + 1 + 4 * (xR x r).1.length + 0 ∨ 67 * z + 1 + 4 * (xR x r).1.length + 4 ≤ t) → V1 (q + 1) t = V (q + 1) t := fun t ht => by rw [← hV1, jset_ne (Or.inr (by omega)), jset_ne (Or.inr (by omega)), jset_ne (Or.inr (by omega)), jset_ne (Or.inr (by omega))]
  have zn : isI (V1 (q + 1) (67 * z)) (xR x r).1.length := by rw [zr _ (by omega)]; exact hr.1
  refine j_aload_n dX8_bring_58 rfl ?_
  refine j_getr dX8_bring_59 hB fl_X8_7 (by first | exact h0.1 | exact h0.2.1 | exact h0.2.2.1 | exact h0.2.2.2.1 | exact h0.2.2.2.2.1 | exact h0.2.2.2.2.2.1 | exact h0.2.2.2.2.2.2.1 | exact h0.2.2.2.2.2.2.2.1 | exact h0.2.2.2.2.2.2.2.2) (by rfl) ?_
  refine j_bipush (v := 67) dX8_bring_62 (by decide) ?_
  refine j_iload_n dX8_bring_64 rfl ?_
  refine j_imul dX8_bring_65 ?_
  refine j_iconst (v := 0) dX8_bring_66 (by decide) ?_
  refine j_iadd dX8_bring_67 ?_
  refine j_dup2 dX8_bring_68 rfl rfl ?_
  refine m_iald (k := 67 * z) dX8_bring_69 hB (by first | exact h0.1 | exact h0.2.1 | exact h0.2.2.1 | exact h0.2.2.2.1 | exact h0.2.2.2.2.1 | exact h0.2.2.2.2.2.1 | exact h0.2.2.2.2.2.2.1 | exact h0.2.2.2.2.2.2.2.1 | exact h0.2.2.2.2.2.2.2.2) (ixk (iA (iM (iC 67 (by decide)) (hz) (by omega)) (iC 0 (by decide)) (by omega)) (by omega)) (by omega) ?_
  refine j_iconst (v := 1) dX8_bring_70 (by decide) ?_
  refine j_iadd dX8_bring_71 ?_
  refine m_iast (k := 67 * z) dX8_bring_72 hB (by first | exact h0.1 | exact h0.2.1 | exact h0.2.2.1 | exact h0.2.2.2.1 | exact h0.2.2.2.2.1 | exact h0.2.2.2.2.2.1 | exact h0.2.2.2.2.2.2.1 | exact h0.2.2.2.2.2.2.2.1 | exact h0.2.2.2.2.2.2.2.2) (ixk (iA (iM (iC 67 (by decide)) (hz) (by omega)) (iC 0 (by decide)) (by omega)) (by omega)) (by omega) ?_
  refine j_vret dX8_bring_73 rfl (by decide) (by decide) ?_
  refine ⟨rfl, rfl, rfl, rfl, ?_, ag.set (by omega) (by omega)⟩
  rw [hz]
  refine h.2.1.set hW z3 (fun i hi => ?_) (hr.ext hrl hl ?_ ?_ ?_ ?_ ?_ (fun i hi hi2 => ?_))
  · rw [jset_ne (Or.inr (by omega))]; exact zr i (by omega)
  · rw [jset_eq, hr.1]; exact ixz (iA zn (iC 1 (by decide)) (by omega)) rfl
  · rw [jset_ne (Or.inr (by omega))]; exact z0
  · rw [jset_ne (Or.inr (by omega))]; exact z1
  · rw [jset_ne (Or.inr (by omega))]; exact z2
  · rw [jset_ne (Or.inr (by omega))]; exact z4
  · rw [jset_ne (Or.inr (by omega))]; exact zr i (by omega)
set_option maxRecDepth 100000 in
set_option maxHeartbeats 4000000 in
theorem sp_X8_holdAt (hB : jB l s0 D) {q : Nat} (h0 : moT T q) {m : Int32} {b : Nat} (hm : m.toInt = b) (hb : b + 13 ≤ 231) {P : pL} (hP : zHl (V (q + 1)) b P) {f : Int32} : Sp l s0 D kX8_holdAt (jR 0 0 0) 0 0 [.ref q, .int m, .int f] T V X sz (qI T X sz (fun y V' => V = V' ∧ ∃ j : Nat, y.toInt = j ∧ j ≤ P.length ∧ (∀ i : Nat, i < j → ¬ V (q + 1) (b + 1 + 2 * i) = f) ∧ (j < P.length → V (q + 1) (b + 1 + 2 * j) = f))) := by
  refine Sp.of pn_X8_holdAt rfl (Nat.le_of_ble_eq_true rfl) ?_
  have h6 := hP.1
  have loop : ∀ (n j : Nat) (i : Int32), j + n = P.length → i.toInt = j → (∀ i : Nat, i < j → ¬ V (q + 1) (b + 1 + 2 * i) = f) → J l s0 D kX8_holdAt (jR 0 0 0) 0 0 (qI T X sz (fun y V' => V = V' ∧ ∃ j : Nat, y.toInt = j ∧ j ≤ P.length ∧ (∀ i : Nat, i < j → ¬ V (q + 1) (b + 1 + 2 * i) = f) ∧ (j < P.length → V (q + 1) (b + 1 + 2 * j) = f))) 2 [(0, .ref q), (1, .int m), (2, .int f), (3, .int i)] [] T V X sz 0 0 := by
    intro n
    refine Nat.strongRecOn n ?_
    clear n
    intro n ih j i hn hi hf
    refine j_iload_n dX8_holdAt_2 rfl ?_
    refine j_aload_n dX8_holdAt_3 rfl ?_
    refine j_getr dX8_holdAt_4 hB fl_X8_7 (by first | exact h0.1 | exact h0.2.1 | exact h0.2.2.1 | exact h0.2.2.2.1 | exact h0.2.2.2.2.1 | exact h0.2.2.2.2.2.1 | exact h0.2.2.2.2.2.2.1 | exact h0.2.2.2.2.2.2.2.1 | exact h0.2.2.2.2.2.2.2.2) (by rfl) ?_
    refine j_iload_n dX8_holdAt_7 rfl ?_
    refine m_iald (k := b) dX8_holdAt_8 hB (by first | exact h0.1 | exact h0.2.1 | exact h0.2.2.1 | exact h0.2.2.2.1 | exact h0.2.2.2.2.1 | exact h0.2.2.2.2.2.1 | exact h0.2.2.2.2.2.2.1 | exact h0.2.2.2.2.2.2.2.1 | exact h0.2.2.2.2.2.2.2.2) (ixk (hm) (by omega)) (by omega) ?_
    refine m_icmp_ge (tgt := 34) dX8_holdAt_9 (by decide) (hi) (hP.n) (fun c_9 => ?_) (fun c_9 => ?_)
    · refine j_iload_n dX8_holdAt_34 rfl ?_
      refine j_iret dX8_holdAt_35 rfl (rfl) (by decide) (by decide) ?_
      exact ⟨_, rfl, rfl, rfl, rfl, rfl, j, hi, by omega, hf, fun z9 => absurd z9 (by omega)⟩
    · refine j_aload_n dX8_holdAt_12 rfl ?_
      refine j_getr dX8_holdAt_13 hB fl_X8_7 (by first | exact h0.1 | exact h0.2.1 | exact h0.2.2.1 | exact h0.2.2.2.1 | exact h0.2.2.2.2.1 | exact h0.2.2.2.2.2.1 | exact h0.2.2.2.2.2.2.1 | exact h0.2.2.2.2.2.2.2.1 | exact h0.2.2.2.2.2.2.2.2) (by rfl) ?_
      refine j_iload_n dX8_holdAt_16 rfl ?_
      refine j_iconst (v := 1) dX8_holdAt_17 (by decide) ?_
      refine j_iadd dX8_holdAt_18 ?_
      refine j_iconst (v := 2) dX8_holdAt_19 (by decide) ?_
      refine j_iload_n dX8_holdAt_20 rfl ?_
      refine j_imul dX8_holdAt_21 ?_
      refine j_iadd dX8_holdAt_22 ?_
      refine m_iald (k := b + 1 + 2 * j) dX8_holdAt_23 hB (by first | exact h0.1 | exact h0.2.1 | exact h0.2.2.1 | exact h0.2.2.2.1 | exact h0.2.2.2.2.1 | exact h0.2.2.2.2.2.1 | exact h0.2.2.2.2.2.2.1 | exact h0.2.2.2.2.2.2.2.1 | exact h0.2.2.2.2.2.2.2.2) (ixk (iA (iA (hm) (iC 1 (by decide)) (by omega)) (iM (iC 2 (by decide)) (hi) (by omega)) (by omega)) (by omega)) (by omega) ?_
      refine j_iload_n dX8_holdAt_24 rfl ?_
      refine j_icmp_eq (tgt := 34) dX8_holdAt_25 (by decide) (fun c_25 => ?_) (fun c_25 => ?_)
      · refine j_iload_n dX8_holdAt_34 rfl ?_
        refine j_iret dX8_holdAt_35 rfl (rfl) (by decide) (by decide) ?_
        exact ⟨_, rfl, rfl, rfl, rfl, rfl, j, hi, by omega, hf, fun _ => c_25⟩
      · refine j_iinc (v := 1) (L' := [(0, _), (1, _), (2, _), (3, _)]) dX8_holdAt_28 rfl (by decide) (by decide) rfl ?_
        refine j_goto (tgt := 2) dX8_holdAt_31 (by decide) ?_
        refine ih (n - 1) (by omega) (j + 1) _ (by omega) ?_ ?_
        · exact (ixk (k := j + 1) (iA (hi) (iC 1 (by decide)) (by omega)) (by omega))
        · intro i9 h9
          rcases Nat.lt_or_ge i9 j with g | g
          · exact hf i9 g
          · rw [show i9 = j by omega]; exact c_25
  refine j_iconst (v := 0) dX8_holdAt_0 (by decide) ?_
  refine j_istore_n (L' := [(0, _), (1, _), (2, _), (3, _)]) dX8_holdAt_1 (by decide) rfl ?_
  exact loop P.length 0 0 (by omega) rfl (fun i9 h9 => absurd h9 (Nat.not_lt_zero _))
end JM8
