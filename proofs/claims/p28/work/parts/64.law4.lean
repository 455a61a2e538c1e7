/-! THE LAW: hold, isFull; properties by their numbers; floats -/
section JLL
variable {l : Launch} {s0 : State} {D : jD} {T : jT} {V : jV} {X : jX} {sz : Nat}
set_option maxRecDepth 100000 in
set_option maxHeartbeats 4000000 in
theorem sp_L_hold (hB : jB l s0 D) {ra b : Nat} {P : pL} {b0 f v : Int32} (hr : T ra = some (kI 60)) (hb0 : b0.toInt = b) (hb : b = 30 ∨ b = 45) (hz : zHl (V ra) b P) (h6 : (pSet P f v).length ≤ 6) : Sp l s0 D kL_hold (jR 0 0 0) 0 0 [.int b0, .int f, .int v, .ref ra] T V X sz (qI T X sz (fun y V' => isI y (pSet P f v).length ∧ zHl (V' ra) b (pSet P f v) ∧ (∀ t, (t < b ∨ b + 13 ≤ t) → V' ra t = V ra t) ∧ ∀ a, a ≠ ra → V' a = V a)) := by
  refine Sp.of pn_L_hold rfl (Nat.le_of_ble_eq_true rfl) ?_
  have hs := hz.2.1
  have hP6 := hz.1
  have hPn := hz.n
  have hlen := pSet_len (f := f) (v := v) hs
  have fin2 : ∀ (j : Nat) (i nv : Int32), i.toInt = j → j ≤ P.length → j ≤ 5 → (∀ i9 : Nat, i9 < j → ¬ V ra (b + 1 + 2 * i9) = f) → (j < P.length → V ra (b + 1 + 2 * j) = f) → isI nv (pSet P f v).length → (j = P.length ∧ nv.toInt = (V ra b).toInt + 1 ∨ ¬ j = P.length ∧ nv.toInt = (V ra b).toInt) → J l s0 D kL_hold (jR 0 0 0) 0 0 (qI T X sz (fun y V' => isI y (pSet P f v).length ∧ zHl (V' ra) b (pSet P f v) ∧ (∀ t, (t < b ∨ b + 13 ≤ t) → V' ra t = V ra t) ∧ ∀ a, a ≠ ra → V' a = V a)) 51 [(0, .int b0), (1, .int f), (2, .int v), (3, .ref ra), (4, .int i)] [.int nv, .int b0, .ref ra] T V X sz 0 0 := by
    intro j i nv hi hj hj5 h1 h2 hnv hnv2
    refine m_iast (k := b) dL_hold_51 hB (by assumption) (ixk (hb0) (by omega)) (by omega) ?_
    refine j_aload_n dL_hold_52 rfl ?_
    refine j_iload_n dL_hold_53 rfl ?_
    refine j_iconst (v := 1) dL_hold_54 (by decide) ?_
    refine j_iadd dL_hold_55 ?_
    refine j_iconst (v := 2) dL_hold_56 (by decide) ?_
    refine j_iload dL_hold_57 rfl ?_
    refine j_imul dL_hold_59 ?_
    refine j_iadd dL_hold_60 ?_
    refine j_iload_n dL_hold_61 rfl ?_
    refine m_iast (k := b + 1 + 2 * j) dL_hold_62 hB (by assumption) (ixk (iA (iA (hb0) (iC 1 (by decide)) (by omega)) (iM (iC 2 (by decide)) (hi) (by omega)) (by omega)) (by omega)) (by omega) ?_
    refine j_aload_n dL_hold_63 rfl ?_
    refine j_iload_n dL_hold_64 rfl ?_
    refine j_iconst (v := 2) dL_hold_65 (by decide) ?_
    refine j_iadd dL_hold_66 ?_
    refine j_iconst (v := 2) dL_hold_67 (by decide) ?_
    refine j_iload dL_hold_68 rfl ?_
    refine j_imul dL_hold_70 ?_
    refine j_iadd dL_hold_71 ?_
    refine j_iload_n dL_hold_72 rfl ?_
    refine m_iast (k := b + 1 + 2 * j + 1) dL_hold_73 hB (by assumption) (ixk (iA (iA (hb0) (iC 2 (by decide)) (by omega)) (iM (iC 2 (by decide)) (hi) (by omega)) (by omega)) (by omega)) (by omega) ?_
    generalize hV3 : jset (jset (jset V ra b nv) ra (b + 1 + 2 * j) f) ra (b + 1 + 2 * j + 1) v = V3
    have e0 : V3 ra b = nv := by rw [← hV3, jset_ne (Or.inr (by omega)), jset_ne (Or.inr (by omega)), jset_eq]
    have e1 : V3 ra (b + 1 + 2 * j) = f := by rw [← hV3, jset_ne (Or.inr (by omega)), jset_eq]
    have e2 : V3 ra (b + 1 + 2 * j + 1) = v := by rw [← hV3, jset_eq]
    have e3 : ∀ t, ¬ t = b → ¬ t = b + 1 + 2 * j → ¬ t = b + 1 + 2 * j + 1 → V3 ra t = V ra t := fun t a1 a2 a3 => by rw [← hV3, jset_ne (Or.inr a3), jset_ne (Or.inr a2), jset_ne (Or.inr a1)]
    have e4 : ∀ a, a ≠ ra → V3 a = V a := fun a h => by rw [← hV3, jset_row h, jset_row h, jset_row h]
    have hn3 : isI (V3 ra b) (pSet P f v).length := by rw [e0]; exact hnv
    refine j_aload_n dL_hold_74 rfl ?_
    refine j_iload_n dL_hold_75 rfl ?_
    refine m_iald (k := b) dL_hold_76 hB (by assumption) (ixk (hb0) (by omega)) (by omega) ?_
    refine j_iret dL_hold_77 rfl (rfl) (by decide) (by decide) ?_
    exact ⟨_, rfl, rfl, rfl, rfl, hn3, hz.hold hs hj h1 h2 h6 (by rw [e0]; rcases hnv2 with ⟨z1, z2⟩ | ⟨z1, z2⟩; (rw [if_pos z1]; exact z2); (rw [if_neg z1, z2]; exact (Int.add_zero _).symm)) e1 e2 (fun i9 h9 h8 => ⟨e3 _ (by omega) (by omega) (by omega), e3 _ (by omega) (by omega) (by omega)⟩), fun t ht => e3 t (by omega) (by omega) (by omega), e4⟩
  have fin : ∀ (j : Nat) (i : Int32), i.toInt = j → j ≤ P.length → (∀ i9 : Nat, i9 < j → ¬ V ra (b + 1 + 2 * i9) = f) → (j < P.length → V ra (b + 1 + 2 * j) = f) → J l s0 D kL_hold (jR 0 0 0) 0 0 (qI T X sz (fun y V' => isI y (pSet P f v).length ∧ zHl (V' ra) b (pSet P f v) ∧ (∀ t, (t < b ∨ b + 13 ≤ t) → V' ra t = V ra t) ∧ ∀ a, a ≠ ra → V' a = V a)) 31 [(0, .int b0), (1, .int f), (2, .int v), (3, .ref ra), (4, .int i)] [] T V X sz 0 0 := by
    intro j i hi hj h1 h2
    have hj5 : j ≤ 5 := by
      by_cases e : j < P.length
      · omega
      · have hn : ¬ pHas P f := fun z => by
          obtain ⟨i9, a, e9⟩ := (hz.has (f := f)).mp z
          exact h1 i9 (by omega) e9
        have := hlen.2 hn
        omega
    refine j_aload_n dL_hold_31 rfl ?_
    refine j_iload_n dL_hold_32 rfl ?_
    refine j_iload dL_hold_33 rfl ?_
    refine j_aload_n dL_hold_35 rfl ?_
    refine j_iload_n dL_hold_36 rfl ?_
    refine m_iald (k := b) dL_hold_37 hB (by assumption) (ixk (hb0) (by omega)) (by omega) ?_
    refine m_icmp_ne (tgt := 48) dL_hold_38 (by decide) (hi) (hPn) (fun c_38 => ?_) (fun c_38 => ?_)
    · refine j_aload_n dL_hold_48 rfl ?_
      refine j_iload_n dL_hold_49 rfl ?_
      refine m_iald (k := b) dL_hold_50 hB (by assumption) (ixk (hb0) (by omega)) (by omega) ?_
      have hf : pHas P f := (hz.has (f := f)).mpr ⟨j, by omega, h2 (by omega)⟩
      exact fin2 j i _ hi hj hj5 h1 h2 (ixz hPn (by rw [hlen.1 hf])) (Or.inr ⟨by omega, rfl⟩)
    · refine j_iload dL_hold_41 rfl ?_
      refine j_iconst (v := 1) dL_hold_43 (by decide) ?_
      refine j_iadd dL_hold_44 ?_
      refine j_goto (tgt := 51) dL_hold_45 (by decide) ?_
      have hn : ¬ pHas P f := fun z => by
        obtain ⟨i9, a, e9⟩ := (hz.has (f := f)).mp z
        exact h1 i9 (by omega) e9
      have hl9 := hlen.2 hn
      exact fin2 j i _ hi hj hj5 h1 h2 (ixz (iA (hi) (iC 1 (by decide)) (by omega)) (by omega)) (Or.inl ⟨by omega, ixz (iA (hi) (iC 1 (by decide)) (by omega)) (by have : (V ra b).toInt = _ := hPn; omega)⟩)
  have loop : ∀ (n j : Nat) (i : Int32), j + n = P.length → i.toInt = j → (∀ i9 : Nat, i9 < j → ¬ V ra (b + 1 + 2 * i9) = f) → J l s0 D kL_hold (jR 0 0 0) 0 0 (qI T X sz (fun y V' => isI y (pSet P f v).length ∧ zHl (V' ra) b (pSet P f v) ∧ (∀ t, (t < b ∨ b + 13 ≤ t) → V' ra t = V ra t) ∧ ∀ a, a ≠ ra → V' a = V a)) 3 [(0, .int b0), (1, .int f), (2, .int v), (3, .ref ra), (4, .int i)] [] T V X sz 0 0 := by
    intro n
    refine Nat.strongRecOn n ?_
    clear n
    intro n ih j i hn hi hy
    refine j_iload dL_hold_3 rfl ?_
    refine j_aload_n dL_hold_5 rfl ?_
    refine j_iload_n dL_hold_6 rfl ?_
    refine m_iald (k := b) dL_hold_7 hB (by assumption) (ixk (hb0) (by omega)) (by omega) ?_
    refine m_icmp_ge (tgt := 31) dL_hold_8 (by decide) (hi) (hPn) (fun c_8 => ?_) (fun c_8 => ?_)
    · exact fin j i hi (by omega) hy (fun z => absurd z (by omega))
    · refine j_aload_n dL_hold_11 rfl ?_
      refine j_iload_n dL_hold_12 rfl ?_
      refine j_iconst (v := 1) dL_hold_13 (by decide) ?_
      refine j_iadd dL_hold_14 ?_
      refine j_iconst (v := 2) dL_hold_15 (by decide) ?_
      refine j_iload dL_hold_16 rfl ?_
      refine j_imul dL_hold_18 ?_
      refine j_iadd dL_hold_19 ?_
      refine m_iald (k := b + 1 + 2 * j) dL_hold_20 hB (by assumption) (ixk (iA (iA (hb0) (iC 1 (by decide)) (by omega)) (iM (iC 2 (by decide)) (hi) (by omega)) (by omega)) (by omega)) (by omega) ?_
      refine j_iload_n dL_hold_21 rfl ?_
      refine m_icmp_eq (tgt := 31) dL_hold_22 (by decide) (iV) (iV) (fun c_22 => ?_) (fun c_22 => ?_)
      · exact fin j i hi (by omega) hy (fun _ => ti_inj c_22)
      · refine j_iinc (v := 1) (L' := [(0, _), (1, _), (2, _), (3, _), (4, _)]) dL_hold_25 rfl (by decide) (by decide) rfl ?_
        refine j_goto (tgt := 3) dL_hold_28 (by decide) ?_
        refine ih (n - 1) (by omega) (j + 1) _ (by omega) ?_ ?_
        · exact (ixk (k := j + 1) (iA (hi) (iC 1 (by decide)) (by omega)) (by omega))
        · intro i9 h9 z
          rcases Nat.lt_or_ge i9 j with g | g
          · exact hy i9 g z
          · have : i9 = j := by omega
            subst this
            exact c_22 (by rw [z])
  refine j_iconst (v := 0) dL_hold_0 (by decide) ?_
  refine j_istore (L' := [(0, _), (1, _), (2, _), (3, _), (4, _)]) dL_hold_1 (by decide) rfl ?_
  exact loop P.length 0 0 (by omega) rfl (fun i9 h9 => absurd h9 (Nat.not_lt_zero _))
set_option maxRecDepth 100000 in
set_option maxHeartbeats 4000000 in
theorem sp_L_isFull (hB : jB l s0 D) {ra b : Nat} {P : pL} {b0 f : Int32} (hr : T ra = some (kI 60)) (hb0 : b0.toInt = b) (hb : b = 30 ∨ b = 45) (hz : zHl (V ra) b P) : Sp l s0 D kL_isFull (jR 0 0 0) 0 0 [.int b0, .int f, .ref ra] T V X sz (qI T X sz (fun y V' => V = V' ∧ bQ y (¬ pHas P f ∧ P.length = 6))) := by
  refine Sp.of pn_L_isFull rfl (Nat.le_of_ble_eq_true rfl) ?_
  have hP6 := hz.1
  have hPn := hz.n
  have loop : ∀ (n j : Nat) (i : Int32), j + n = P.length → i.toInt = j → (∀ i9 : Nat, i9 < j → ¬ V ra (b + 1 + 2 * i9) = f) → J l s0 D kL_isFull (jR 0 0 0) 0 0 (qI T X sz (fun y V' => V = V' ∧ bQ y (¬ pHas P f ∧ P.length = 6))) 2 [(0, .int b0), (1, .int f), (2, .ref ra), (3, .int i)] [] T V X sz 0 0 := by
    intro n
    refine Nat.strongRecOn n ?_
    clear n
    intro n ih j i hn hi hy
    refine j_iload_n dL_isFull_2 rfl ?_
    refine j_aload_n dL_isFull_3 rfl ?_
    refine j_iload_n dL_isFull_4 rfl ?_
    refine m_iald (k := b) dL_isFull_5 hB (by assumption) (ixk (hb0) (by omega)) (by omega) ?_
    refine m_icmp_ge (tgt := 30) dL_isFull_6 (by decide) (hi) (hPn) (fun c_6 => ?_) (fun c_6 => ?_)
    · have hno : ¬ pHas P f := fun z => by
        obtain ⟨i9, a, e9⟩ := (hz.has (f := f)).mp z
        exact hy i9 (by omega) e9
      refine j_aload_n dL_isFull_30 rfl ?_
      refine j_iload_n dL_isFull_31 rfl ?_
      refine m_iald (k := b) dL_isFull_32 hB (by assumption) (ixk (hb0) (by omega)) (by omega) ?_
      refine j_bipush (v := 6) dL_isFull_33 (by decide) ?_
      refine m_icmp_ne (tgt := 42) dL_isFull_35 (by decide) (hPn) (iC 6 (by decide)) (fun c_35 => ?_) (fun c_35 => ?_)
      · refine j_iconst (v := 0) dL_isFull_42 (by decide) ?_
        refine j_iret dL_isFull_43 rfl (by first | decide | exact m_nrB (by assumption)) (by decide) (by decide) ?_
        exact ⟨_, rfl, rfl, rfl, rfl, rfl, Or.inr ⟨rfl, fun z => by have := z.2; omega⟩⟩
      · refine j_iconst (v := 1) dL_isFull_38 (by decide) ?_
        refine j_goto (tgt := 43) dL_isFull_39 (by decide) ?_
        refine j_iret dL_isFull_43 rfl (by first | decide | exact m_nrB (by assumption)) (by decide) (by decide) ?_
        exact ⟨_, rfl, rfl, rfl, rfl, rfl, Or.inl ⟨rfl, hno, by omega⟩⟩
    · refine j_aload_n dL_isFull_9 rfl ?_
      refine j_iload_n dL_isFull_10 rfl ?_
      refine j_iconst (v := 1) dL_isFull_11 (by decide) ?_
      refine j_iadd dL_isFull_12 ?_
      refine j_iconst (v := 2) dL_isFull_13 (by decide) ?_
      refine j_iload_n dL_isFull_14 rfl ?_
      refine j_imul dL_isFull_15 ?_
      refine j_iadd dL_isFull_16 ?_
      refine m_iald (k := b + 1 + 2 * j) dL_isFull_17 hB (by assumption) (ixk (iA (iA (hb0) (iC 1 (by decide)) (by omega)) (iM (iC 2 (by decide)) (hi) (by omega)) (by omega)) (by omega)) (by omega) ?_
      refine j_iload_n dL_isFull_18 rfl ?_
      refine m_icmp_ne (tgt := 24) dL_isFull_19 (by decide) (iV) (iV) (fun c_19 => ?_) (fun c_19 => ?_)
      · refine j_iinc (v := 1) (L' := [(0, _), (1, _), (2, _), (3, _)]) dL_isFull_24 rfl (by decide) (by decide) rfl ?_
        refine j_goto (tgt := 2) dL_isFull_27 (by decide) ?_
        refine ih (n - 1) (by omega) (j + 1) _ (by omega) ?_ ?_
        · exact (ixk (k := j + 1) (iA (hi) (iC 1 (by decide)) (by omega)) (by omega))
        · intro i9 h9 z
          rcases Nat.lt_or_ge i9 j with g | g
          · exact hy i9 g z
          · have : i9 = j := by omega
            subst this
            exact c_19 (by rw [z])
      · refine j_iconst (v := 0) dL_isFull_22 (by decide) ?_
        refine j_iret dL_isFull_23 rfl (by first | decide | exact m_nrB (by assumption)) (by decide) (by decide) ?_
        exact ⟨_, rfl, rfl, rfl, rfl, rfl, Or.inr ⟨rfl, fun z => z.1 ((hz.has (f := f)).mpr ⟨j, by omega, ti_inj c_19⟩)⟩⟩
  refine j_iconst (v := 0) dL_isFull_0 (by decide) ?_
  refine j_istore_n (L' := [(0, _), (1, _), (2, _), (3, _)]) dL_isFull_1 (by decide) rfl ?_
  exact loop P.length 0 0 (by omega) rfl (fun i9 h9 => absurd h9 (Nat.not_lt_zero _))
end JLL
theorem scP_0 {s : aS} {rr : aR} {k : Nat} : scP s rr k 0 = (atZ rr.1 k).toInt := by
  unfold scP
  rw [if_pos rfl]
theorem scP_1 {s : aS} {rr : aR} {k : Nat} : scP s rr k 1 = aFirst rr k := by
  unfold scP
  rw [if_neg (by decide), if_pos rfl]
theorem scP_2 {s : aS} {rr : aR} {k : Nat} : scP s rr k 2 = aLost rr k := by
  unfold scP
  rw [if_neg (by decide), if_neg (by decide), if_pos rfl]
theorem scP_3 {s : aS} {rr : aR} {k : Nat} : scP s rr k 3 = aTime rr 0 k := by
  unfold scP
  rw [if_neg (by decide), if_neg (by decide), if_neg (by decide), if_pos rfl]
theorem scP_4 {s : aS} {rr : aR} {k : Nat} : scP s rr k 4 = aBeg rr 0 k := by
  unfold scP
  rw [if_neg (by decide), if_neg (by decide), if_neg (by decide), if_neg (by decide), if_pos rfl]
theorem scP_5 {s : aS} {rr : aR} {k : Nat} : scP s rr k 5 = (atZ rr.2.1 k).toInt := by
  unfold scP
  rw [if_neg (by decide), if_neg (by decide), if_neg (by decide), if_neg (by decide), if_neg (by decide), if_pos rfl]
theorem scP_6 {s : aS} {rr : aR} {k : Nat} : scP s rr k 6 = (atZ rr.2.2.1 k).toInt := by
  unfold scP
  rw [if_neg (by decide), if_neg (by decide), if_neg (by decide), if_neg (by decide), if_neg (by decide), if_neg (by decide), if_pos rfl]
theorem scP_7 {s : aS} {rr : aR} {k : Nat} : scP s rr k 7 = (atZ rr.2.2.2.1 k).toInt := by
  unfold scP
  rw [if_neg (by decide), if_neg (by decide), if_neg (by decide), if_neg (by decide), if_neg (by decide), if_neg (by decide), if_neg (by decide), if_pos rfl]
theorem scP_8 {s : aS} {rr : aR} {k : Nat} : scP s rr k 8 = cueI rr k (aCb s rr 0 k) 0 := by
  unfold scP
  rw [if_neg (by decide), if_neg (by decide), if_neg (by decide), if_neg (by decide), if_neg (by decide), if_neg (by decide), if_neg (by decide), if_neg (by decide), if_pos rfl]
theorem scP_9 {s : aS} {rr : aR} {k : Nat} : scP s rr k 9 = aEnd s rr 0 k := by
  unfold scP
  rw [if_neg (by decide), if_neg (by decide), if_neg (by decide), if_neg (by decide), if_neg (by decide), if_neg (by decide), if_neg (by decide), if_neg (by decide), if_neg (by decide), if_pos rfl]
theorem scP_10 {s : aS} {rr : aR} {k : Nat} : scP s rr k 10 = aDrift s rr 0 k := by
  unfold scP
  rw [if_neg (by decide), if_neg (by decide), if_neg (by decide), if_neg (by decide), if_neg (by decide), if_neg (by decide), if_neg (by decide), if_neg (by decide), if_neg (by decide), if_neg (by decide), if_pos rfl]
theorem scP_11 {s : aS} {rr : aR} {k : Nat} : scP s rr k 11 = aBad1 s rr 0 k := by
  unfold scP
  rw [if_neg (by decide), if_neg (by decide), if_neg (by decide), if_neg (by decide), if_neg (by decide), if_neg (by decide), if_neg (by decide), if_neg (by decide), if_neg (by decide), if_neg (by decide), if_neg (by decide)]
theorem rlP_0 {s : aS} {rr : aR} : rlP s rr 0 = rr.1.length := by
  unfold rlP
  rw [if_pos rfl]
theorem rlP_1 {s : aS} {rr : aR} : rlP s rr 1 = aFirst rr rr.1.length := by
  unfold rlP
  rw [if_neg (by decide), if_pos rfl]
theorem rlP_2 {s : aS} {rr : aR} : rlP s rr 2 = aSum (aLost rr) rr.1.length := by
  unfold rlP
  rw [if_neg (by decide), if_neg (by decide), if_pos rfl]
theorem rlP_3 {s : aS} {rr : aR} : rlP s rr 3 = aBeg rr 0 rr.1.length := by
  unfold rlP
  rw [if_neg (by decide), if_neg (by decide), if_neg (by decide), if_pos rfl]
theorem rlP_4 {s : aS} {rr : aR} : rlP s rr 4 = rr.2.2.2.2.1.length := by
  unfold rlP
  rw [if_neg (by decide), if_neg (by decide), if_neg (by decide), if_neg (by decide), if_pos rfl]
theorem rlP_5 {s : aS} {rr : aR} : rlP s rr 5 = rr.2.2.2.2.2.length := by
  unfold rlP
  rw [if_neg (by decide), if_neg (by decide), if_neg (by decide), if_neg (by decide), if_neg (by decide), if_pos rfl]
theorem rlP_6 {s : aS} {rr : aR} : rlP s rr 6 = aSum (aCue1 rr) rr.1.length := by
  unfold rlP
  rw [if_neg (by decide), if_neg (by decide), if_neg (by decide), if_neg (by decide), if_neg (by decide), if_neg (by decide), if_pos rfl]
theorem rlP_7 {s : aS} {rr : aR} : rlP s rr 7 = aSum (aBad1 s rr 0) rr.1.length := by
  unfold rlP
  rw [if_neg (by decide), if_neg (by decide), if_neg (by decide), if_neg (by decide), if_neg (by decide), if_neg (by decide), if_neg (by decide), if_pos rfl]
theorem rlP_8 {s : aS} {rr : aR} : rlP s rr 8 = aSum (aDs1 s rr 0) rr.1.length := by
  unfold rlP
  rw [if_neg (by decide), if_neg (by decide), if_neg (by decide), if_neg (by decide), if_neg (by decide), if_neg (by decide), if_neg (by decide), if_neg (by decide), if_pos rfl]
theorem rlP_9 {s : aS} {rr : aR} : rlP s rr 9 = aSil s rr 0 := by
  unfold rlP
  rw [if_neg (by decide), if_neg (by decide), if_neg (by decide), if_neg (by decide), if_neg (by decide), if_neg (by decide), if_neg (by decide), if_neg (by decide), if_neg (by decide), if_pos rfl]
theorem rlP_10 {s : aS} {rr : aR} : rlP s rr 10 = aMus s rr 0 rr.1.length := by
  unfold rlP
  rw [if_neg (by decide), if_neg (by decide), if_neg (by decide), if_neg (by decide), if_neg (by decide), if_neg (by decide), if_neg (by decide), if_neg (by decide), if_neg (by decide), if_neg (by decide)]
theorem ctP_0 {x : aX} : ctP x 0 = ovR x.1 0 := by
  unfold ctP
  rw [if_pos rfl]
theorem ctP_1 {x : aX} : ctP x 1 = x.1.2.1.1.length := by
  unfold ctP
  rw [if_neg (by decide), if_pos rfl]
theorem ctP_2 {x : aX} : ctP x 2 = ovR x.1 6 := by
  unfold ctP
  rw [if_neg (by decide), if_neg (by decide), if_pos rfl]
theorem ctP_3 {x : aX} : ctP x 3 = ovR x.1 7 := by
  unfold ctP
  rw [if_neg (by decide), if_neg (by decide), if_neg (by decide), if_pos rfl]
theorem ctP_4 {x : aX} : ctP x 4 = x.1.2.2.1.toInt := by
  unfold ctP
  rw [if_neg (by decide), if_neg (by decide), if_neg (by decide), if_neg (by decide), if_pos rfl]
theorem ctP_5 {x : aX} : ctP x 5 = x.1.2.2.2.toInt := by
  unfold ctP
  rw [if_neg (by decide), if_neg (by decide), if_neg (by decide), if_neg (by decide), if_neg (by decide), if_pos rfl]
theorem ctP_6 {x : aX} : ctP x 6 = ovR x.1 3 := by
  unfold ctP
  rw [if_neg (by decide), if_neg (by decide), if_neg (by decide), if_neg (by decide), if_neg (by decide), if_neg (by decide), if_pos rfl]
theorem ctP_7 {x : aX} : ctP x 7 = x.2.1.length := by
  unfold ctP
  rw [if_neg (by decide), if_neg (by decide), if_neg (by decide), if_neg (by decide), if_neg (by decide), if_neg (by decide), if_neg (by decide)]
theorem pcP_0 {s : aS} {p : Int32} : pcP s p 0 = (atZ s.2.1.1 p.toInt).toInt := by
  unfold pcP
  rw [if_pos rfl]
theorem pcP_1 {s : aS} {p : Int32} : pcP s p 1 = (atZ s.2.1.2.1 p.toInt).toInt := by
  unfold pcP
  rw [if_neg (by decide), if_pos rfl]
theorem pcP_2 {s : aS} {p : Int32} : pcP s p 2 = (atZ s.2.1.2.2 p.toInt).toInt := by
  unfold pcP
  rw [if_neg (by decide), if_neg (by decide), if_pos rfl]
theorem pcP_3 {s : aS} {p : Int32} : pcP s p 3 = cuT s p 3 := by
  unfold pcP
  rw [if_neg (by decide), if_neg (by decide), if_neg (by decide)]
theorem cmp_self {f : Jvm.FP.Core.Fmt} {c : Nat} {q : Int} (hf : fok f) (h : nrm f c q) : Jvm.FP.Core.cmp f (nbits f c q) (nbits f c q) = some .eq := by
  unfold Jvm.FP.Core.cmp
  rw [decode_n hf h]
  show some (compare (Jvm.FP.Core.signed false (Jvm.FP.Core.inUnits c q (min q q))) (Jvm.FP.Core.signed false (Jvm.FP.Core.inUnits c q (min q q)))) = _
  congr 1
  exact Int.compare_eq_eq.mpr rfl
theorem fcmp_self {v : UInt32} (h : fV v) : FP.fcmp v v = some .eq := by
  rcases h with rfl | ⟨c, q, h, rfl⟩
  · exact cmp_00 f32
  · show Jvm.FP.Core.cmp Jvm.FP.Core.b32 _ _ = _
    rw [(nb32 h).1]
    exact cmp_self f32 h
theorem dcmp_self {v : UInt64} (h : dV v) : FP.dcmp v v = some .eq := by
  rcases h with rfl | ⟨c, q, h, rfl⟩
  · exact cmp_00 f64
  · show Jvm.FP.Core.cmp Jvm.FP.Core.b64 _ _ = _
    rw [(nb64 h).1]
    exact cmp_self f64 h
theorem one32 : nrm Jvm.FP.Core.b32 (Jvm.FP.Core.b32).tails (-23) ∧ FP.fconst1 = UInt32.ofNat (nbits Jvm.FP.Core.b32 (Jvm.FP.Core.b32).tails (-23)) := by
  constructor
  · unfold nrm; decide
  · decide
theorem fmul_1 {x : Int32} (h0 : 0 ≤ x.toInt) (h1 : x.toInt < 8388608) : FP.fmul FP.fconst1 (FP.i2f x) = FP.i2f x ∧ vf_n32 (FP.i2f x) := by
  by_cases z : x.toInt = 0
  · rw [show x = 0 from Int32.toInt_inj.mp (z.trans ti_0.symm), i2f_0]
    refine ⟨?_, fV.n (Or.inl rfl)⟩
    show UInt32.ofNat (Jvm.FP.Core.mul Jvm.FP.Core.b32 FP.fconst1.toNat (0 : UInt32).toNat) = 0
    rw [one32.2, (nb32 one32.1).1, show (0 : UInt32).toNat = 0 from rfl, mul_0' f32 one32.1]; rfl
  · obtain ⟨c, q, n1, e1, a1, a2⟩ := i2f_n (x := x) (by omega) h1
    refine ⟨?_, by rw [e1]; exact fV.n (Or.inr ⟨c, q, n1, rfl⟩)⟩
    rw [e1, one32.2]
    show UInt32.ofNat (Jvm.FP.Core.mul Jvm.FP.Core.b32 (UInt32.ofNat _).toNat (UInt32.ofNat _).toNat) = _
    have e : q + (-23) + (((Jvm.FP.Core.b32).p : Int) - 1) = q := by rw [c32.2.2.2.2]; omega
    rw [(nb32 n1).1, (nb32 one32.1).1, mul_n' f32 n1 one32.1 (by rw [e]; exact n1), e]
theorem ex_pow : ∀ (j n : Nat), 0 < n → n < 2 ^ j → ∃ k : Nat, 2 ^ k ≤ n ∧ n < 2 ^ (k + 1) ∧ k < j
  | 0, n, h0, h1 => by rw [Nat.pow_zero] at h1; omega
  | j + 1, n, h0, h1 => by
    by_cases e : n < 2 ^ j
    · obtain ⟨k, a, b, c⟩ := ex_pow j n h0 e
      exact ⟨k, a, b, by omega⟩
    · exact ⟨j, by omega, h1, Nat.lt_succ_self j⟩
/-- an int as a double, exactly -/
theorem int_ex {n k : Nat} (h1 : 2 ^ k ≤ n) (h2 : n < 2 ^ (k + 1)) (hk : k ≤ 40) : Jvm.FP.Core.fromInt Jvm.FP.Core.b64 n = nbits Jvm.FP.Core.b64 (n * 2 ^ (52 - k)) ((k : Int) - 52) ∧ nrm Jvm.FP.Core.b64 (n * 2 ^ (52 - k)) ((k : Int) - 52) := by
  have hn : nrm Jvm.FP.Core.b64 (n * 2 ^ (52 - k)) ((k : Int) - 52) := by
    have a1 : 2 ^ k * 2 ^ (52 - k) = 2 ^ 52 := by rw [← Nat.pow_add]; congr 1; omega
    have a2 : 2 ^ (k + 1) * 2 ^ (52 - k) = 2 ^ 53 := by rw [← Nat.pow_add]; congr 1; omega
    have b1 : 2 ^ k * 2 ^ (52 - k) ≤ n * 2 ^ (52 - k) := Nat.mul_le_mul_right _ h1
    have b2 : n * 2 ^ (52 - k) < 2 ^ (k + 1) * 2 ^ (52 - k) := Nat.mul_lt_mul_of_pos_right h2 (Nat.two_pow_pos _)
    unfold nrm
    rw [c64.1, c64.2.2.1, c64.2.2.2.1, c64.2.2.2.2]
    have p52 : (2 : Nat) ^ 52 = 4503599627370496 := by decide
    have p53 : (2 : Nat) ^ 53 = 9007199254740992 := by decide
    rw [a1, p52] at b1
    rw [a2, p53] at b2
    rw [p53]
    omega
  refine ⟨?_, hn⟩
  unfold Jvm.FP.Core.fromInt
  show Jvm.FP.Core.encode Jvm.FP.Core.b64 (Jvm.FP.Core.roundRatio Jvm.FP.Core.b64 (decide ((n : Int) < 0)) (n : Int).natAbs 1 0) = _
  rw [decide_eq_false (by omega), Int.natAbs_natCast, rr_exact f64 (by decide) hn (by rw [show (0 - ((k : Int) - 52)).toNat = 52 - k by omega, show ((k : Int) - 52 - 0).toNat = 0 by omega]; omega), encode_n hn]
theorem six64 : nrm Jvm.FP.Core.b64 (Jvm.FP.Core.b64).tails (-48) ∧ (4625196817309499392 : UInt64) = UInt64.ofNat (nbits Jvm.FP.Core.b64 (Jvm.FP.Core.b64).tails (-48)) := by
  constructor
  · unfold nrm; decide
  · decide
/-- 16.0 times an int -/
theorem dmul_16 {x y : Int32} (h0 : 0 ≤ x.toInt) (h1 : x.toInt < 134217728) (hy : y.toInt = x.toInt * 16) : FP.dmul 4625196817309499392 (FP.i2d x) = FP.i2d y ∧ vf_n64 (FP.i2d y) := by
  by_cases z : x.toInt = 0
  · rw [show x = 0 from Int32.toInt_inj.mp (z.trans ti_0.symm), show y = 0 from Int32.toInt_inj.mp ((by omega : y.toInt = 0).trans ti_0.symm), i2d_0]
    refine ⟨?_, dV.n (Or.inl rfl)⟩
    show UInt64.ofNat (Jvm.FP.Core.mul Jvm.FP.Core.b64 (4625196817309499392 : UInt64).toNat (0 : UInt64).toNat) = 0
    rw [six64.2, (nb64 six64.1).1, show (0 : UInt64).toNat = 0 from rfl, mul_0' f64 six64.1]; rfl
  · obtain ⟨k, a1, a2, a3⟩ := ex_pow 27 x.toInt.toNat (by omega) (by show _ < 134217728; omega)
    obtain ⟨e1, n1⟩ := int_ex a1 a2 (by omega)
    have b1 : 2 ^ (k + 4) ≤ x.toInt.toNat * 16 := by rw [Nat.pow_add]; exact Nat.mul_le_mul_right 16 a1
    have b2 : x.toInt.toNat * 16 < 2 ^ (k + 4 + 1) := by rw [show k + 4 + 1 = k + 1 + 4 by omega, Nat.pow_add]; exact Nat.mul_lt_mul_of_pos_right a2 (by decide)
    obtain ⟨e2, n2⟩ := int_ex b1 b2 (by omega)
    have ec : x.toInt.toNat * 16 * 2 ^ (52 - (k + 4)) = x.toInt.toNat * 2 ^ (52 - k) := by
      rw [Nat.mul_assoc, show (16 : Nat) = 2 ^ 4 by decide, ← Nat.pow_add, show 4 + (52 - (k + 4)) = 52 - k by omega]
    have eq4 : ((k + 4 : Nat) : Int) - 52 = (k : Int) - 52 + 4 := by omega
    rw [ec, eq4] at e2 n2
    have hx : FP.i2d x = UInt64.ofNat (nbits Jvm.FP.Core.b64 (x.toInt.toNat * 2 ^ (52 - k)) ((k : Int) - 52)) := by
      show UInt64.ofNat (Jvm.FP.Core.fromInt Jvm.FP.Core.b64 x.toInt) = _
      rw [← e1, Int.toNat_of_nonneg h0]
    have hy2 : FP.i2d y = UInt64.ofNat (nbits Jvm.FP.Core.b64 (x.toInt.toNat * 2 ^ (52 - k)) ((k : Int) - 52 + 4)) := by
      show UInt64.ofNat (Jvm.FP.Core.fromInt Jvm.FP.Core.b64 y.toInt) = _
      rw [← e2, hy, show ((x.toInt.toNat * 16 : Nat) : Int) = x.toInt * 16 by omega]
    rw [hx, hy2, six64.2]
    refine ⟨?_, dV.n (Or.inr ⟨_, _, n2, rfl⟩)⟩
    show UInt64.ofNat (Jvm.FP.Core.mul Jvm.FP.Core.b64 (UInt64.ofNat _).toNat (UInt64.ofNat _).toNat) = _
    have e : (k : Int) - 52 + (-48) + (((Jvm.FP.Core.b64).p : Int) - 1) = (k : Int) - 52 + 4 := by rw [c64.2.2.2.2]; omega
    rw [(nb64 n1).1, (nb64 six64.1).1, mul_n' f64 n1 six64.1 (by rw [e]; exact n2), e]
