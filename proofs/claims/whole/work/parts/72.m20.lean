/-! CueSheetsModel: the constructor -/
def x0 : aX := (st0, [], [])
theorem zIs_0 {Z : Nat → Int32} (hZ : ∀ i, Z i = if i = 227 then 5 else if i = 226 then 20 else if i = 177 then 16 else if i = 175 then 1 else if i = 110 then 16 else if i = 108 then 1 else if i = 43 then 16 else if i = 41 then 1 else 0) : zIs Z st0 := by
  have hr : ∀ b : Nat, (b = 0 ∨ b = 67 ∨ b = 134) → zRl Z b rl0 := by
    intro b hb
    have z0 : Z b = 0 := by rw [hZ]; rcases hb with rfl | rfl | rfl <;> rfl
    have z1 : Z (b + 41) = 1 := by rw [hZ]; rcases hb with rfl | rfl | rfl <;> rfl
    have z2 : Z (b + 41 + 1 + 2 * 0) = 0 := by rw [hZ]; rcases hb with rfl | rfl | rfl <;> rfl
    have z3 : Z (b + 41 + 1 + 2 * 0 + 1) = 16 := by rw [hZ]; rcases hb with rfl | rfl | rfl <;> rfl
    have z4 : Z (b + 54) = 0 := by rw [hZ]; rcases hb with rfl | rfl | rfl <;> rfl
    refine ⟨by rw [z0]; rfl, fun k hk => absurd hk (Nat.not_lt_zero _), ⟨by decide, List.pairwise_singleton _ _, [(0, 16)], List.Perm.refl _, by rw [z1]; rfl, fun k hk => ?_⟩, ⟨by decide, List.Pairwise.nil, [], List.Perm.refl _, by rw [z4]; rfl, fun k hk => absurd hk (Nat.not_lt_zero _)⟩⟩
    have hk : k < 1 := hk
    have : k = 0 := by omega
    subst this
    rw [z2, z3]; rfl
  exact ⟨hr 0 (by omega), hr 67 (by omega), hr 134 (by omega), ⟨by rw [hZ]; rfl, fun k hk => absurd hk (Nat.not_lt_zero _)⟩, by rw [hZ]; rfl, by rw [hZ]; rfl⟩
section JM20
variable {l : Launch} {s0 : State} {D : jD} {T : jT} {V : jV} {X : jX} {sz : Nat}
set_option maxRecDepth 100000 in
set_option maxHeartbeats 4000000 in
theorem sp_X8_init (hB : jB l s0 D) {q : Nat} (ht : T q = some (.inl (8, [.inl 0, .inr none, .inl 0, .inr none, .inl 0, .inr none, .inr none, .inr none, .inr none, .inr none, .inl 0, .inl 0, .inl 0, .inl 0, .inr none, .inl 1]))) (hv : V q = fun _ => 0) : Sp l s0 D kX8_init (jR 2 8 1842) 8 1842 [.ref q] T V X (q + 1) (qN (fun T' V' X' sz' => sz' = q + 9 ∧ moIs T' V' q x0 ∧ jNw T V X T' V' X' q)) := by
  refine Sp.of pn_X8_init rfl (Nat.le_of_ble_eq_true rfl) ?_
  refine j_aload_n dX8_init_0 rfl ?_
  refine j_objInit dX8_init_1 hB ml_X8_1 oi_1 oi_2 (by decide) (Nat.le_of_ble_eq_true rfl) ?_
  have f0 := ht
  have g0 : ∀ a, a < q → T a = T a ∧ V a = V a := fun _ _ => ⟨rfl, rfl⟩
  have v0 := hv
  refine j_aload_n dX8_init_4 rfl ?_
  refine j_sipush (v := 231) dX8_init_5 (by decide) ?_
  refine j_newi (N := 231) dX8_init_8 hB ac_int (by decide) (by decide) (by decide) (Nat.le_of_ble_eq_true rfl) ?_
  refine j_putr dX8_init_10 hB fp_X8_init_7 (Or.inr ⟨_, rfl⟩) (by rw [jup_ne (by omega)]; exact f0) (by simp) ?_
  refine j_abT (fun T1 hT1 => ?_)
  refine j_abV (fun V1 hV1 => ?_)
  have f1 : T1 q = some (.inl (8, [.inl 0, .inr (some (q + 1)), .inl 0, .inr none, .inl 0, .inr none, .inr none, .inr none, .inr none, .inr none, .inl 0, .inl 0, .inl 0, .inl 0, .inr none, .inl 1])) := by rw [hT1]; exact jup_eq
  have g1 : ∀ a, a < q → T1 a = T a ∧ V1 a = V a := fun a ha => ⟨by rw [hT1, jup_ne (by omega), jup_ne (by omega)], by rw [hV1, jz_ne (by omega)]⟩
  have v1 : V1 q = fun _ => 0 := by rw [hV1, jz_ne (by omega)]; exact v0
  have a0_1 : T1 (q + 1) = some (kI 231) := by rw [hT1, jup_ne (by omega)]; exact jup_eq
  have z1 : V1 (q + 1) = fun _ => 0 := by rw [hV1]; exact jz_row
  refine j_aload_n dX8_init_13 rfl ?_
  refine j_sipush (v := 1386) dX8_init_14 (by decide) ?_
  refine j_newi (N := 1386) dX8_init_17 hB ac_int (by decide) (by decide) (by decide) (Nat.le_of_ble_eq_true rfl) ?_
  refine j_putr dX8_init_19 hB fp_X8_init_13 (Or.inr ⟨_, rfl⟩) (by rw [jup_ne (by omega)]; exact f1) (by simp) ?_
  refine j_abT (fun T2 hT2 => ?_)
  refine j_abV (fun V2 hV2 => ?_)
  have f2 : T2 q = some (.inl (8, [.inl 0, .inr (some (q + 1)), .inl 0, .inr (some (q + 2)), .inl 0, .inr none, .inr none, .inr none, .inr none, .inr none, .inl 0, .inl 0, .inl 0, .inl 0, .inr none, .inl 1])) := by rw [hT2]; exact jup_eq
  have g2 : ∀ a, a < q → T2 a = T a ∧ V2 a = V a := fun a ha => ⟨by rw [hT2, jup_ne (by omega), jup_ne (by omega)]; exact (g1 a ha).1, by rw [hV2, jz_ne (by omega)]; exact (g1 a ha).2⟩
  have v2 : V2 q = fun _ => 0 := by rw [hV2, jz_ne (by omega)]; exact v1
  have a1_2 : T2 (q + 2) = some (kI 1386) := by rw [hT2, jup_ne (by omega)]; exact jup_eq
  have a0_2 : T2 (q + 1) = some (kI 231) := by rw [hT2, jup_ne (by omega), jup_ne (by omega)]; exact a0_1
  have z2 : V2 (q + 1) = fun _ => 0 := by rw [hV2, jz_ne (by omega)]; exact z1
  refine j_aload_n dX8_init_22 rfl ?_
  refine j_bipush (v := 60) dX8_init_23 (by decide) ?_
  refine j_newi (N := 60) dX8_init_25 hB ac_int (by decide) (by decide) (by decide) (Nat.le_of_ble_eq_true rfl) ?_
  refine j_putr dX8_init_27 hB fp_X8_init_16 (Or.inr ⟨_, rfl⟩) (by rw [jup_ne (by omega)]; exact f2) (by simp) ?_
  refine j_abT (fun T3 hT3 => ?_)
  refine j_abV (fun V3 hV3 => ?_)
  have f3 : T3 q = some (.inl (8, [.inl 0, .inr (some (q + 1)), .inl 0, .inr (some (q + 2)), .inl 0, .inr (some (q + 3)), .inr none, .inr none, .inr none, .inr none, .inl 0, .inl 0, .inl 0, .inl 0, .inr none, .inl 1])) := by rw [hT3]; exact jup_eq
  have g3 : ∀ a, a < q → T3 a = T a ∧ V3 a = V a := fun a ha => ⟨by rw [hT3, jup_ne (by omega), jup_ne (by omega)]; exact (g2 a ha).1, by rw [hV3, jz_ne (by omega)]; exact (g2 a ha).2⟩
  have v3 : V3 q = fun _ => 0 := by rw [hV3, jz_ne (by omega)]; exact v2
  have a2_3 : T3 (q + 3) = some (kI 60) := by rw [hT3, jup_ne (by omega)]; exact jup_eq
  have a0_3 : T3 (q + 1) = some (kI 231) := by rw [hT3, jup_ne (by omega), jup_ne (by omega)]; exact a0_2
  have a1_3 : T3 (q + 2) = some (kI 1386) := by rw [hT3, jup_ne (by omega), jup_ne (by omega)]; exact a1_2
  have z3 : V3 (q + 1) = fun _ => 0 := by rw [hV3, jz_ne (by omega)]; exact z2
  refine j_aload_n dX8_init_30 rfl ?_
  refine j_bipush (v := 11) dX8_init_31 (by decide) ?_
  refine j_newi (N := 11) dX8_init_33 hB ac_int (by decide) (by decide) (by decide) (Nat.le_of_ble_eq_true rfl) ?_
  refine j_putr dX8_init_35 hB fp_X8_init_19 (Or.inr ⟨_, rfl⟩) (by rw [jup_ne (by omega)]; exact f3) (by simp) ?_
  refine j_abT (fun T4 hT4 => ?_)
  refine j_abV (fun V4 hV4 => ?_)
  have f4 : T4 q = some (.inl (8, [.inl 0, .inr (some (q + 1)), .inl 0, .inr (some (q + 2)), .inl 0, .inr (some (q + 3)), .inr (some (q + 4)), .inr none, .inr none, .inr none, .inl 0, .inl 0, .inl 0, .inl 0, .inr none, .inl 1])) := by rw [hT4]; exact jup_eq
  have g4 : ∀ a, a < q → T4 a = T a ∧ V4 a = V a := fun a ha => ⟨by rw [hT4, jup_ne (by omega), jup_ne (by omega)]; exact (g3 a ha).1, by rw [hV4, jz_ne (by omega)]; exact (g3 a ha).2⟩
  have v4 : V4 q = fun _ => 0 := by rw [hV4, jz_ne (by omega)]; exact v3
  have a3_4 : T4 (q + 4) = some (kI 11) := by rw [hT4, jup_ne (by omega)]; exact jup_eq
  have a0_4 : T4 (q + 1) = some (kI 231) := by rw [hT4, jup_ne (by omega), jup_ne (by omega)]; exact a0_3
  have a1_4 : T4 (q + 2) = some (kI 1386) := by rw [hT4, jup_ne (by omega), jup_ne (by omega)]; exact a1_3
  have a2_4 : T4 (q + 3) = some (kI 60) := by rw [hT4, jup_ne (by omega), jup_ne (by omega)]; exact a2_3
  have z4 : V4 (q + 1) = fun _ => 0 := by rw [hV4, jz_ne (by omega)]; exact z3
  refine j_aload_n dX8_init_38 rfl ?_
  refine j_bipush (v := 10) dX8_init_39 (by decide) ?_
  refine j_newi (N := 10) dX8_init_41 hB ac_int (by decide) (by decide) (by decide) (Nat.le_of_ble_eq_true rfl) ?_
  refine j_putr dX8_init_43 hB fp_X8_init_22 (Or.inr ⟨_, rfl⟩) (by rw [jup_ne (by omega)]; exact f4) (by simp) ?_
  refine j_abT (fun T5 hT5 => ?_)
  refine j_abV (fun V5 hV5 => ?_)
  have f5 : T5 q = some (.inl (8, [.inl 0, .inr (some (q + 1)), .inl 0, .inr (some (q + 2)), .inl 0, .inr (some (q + 3)), .inr (some (q + 4)), .inr (some (q + 5)), .inr none, .inr none, .inl 0, .inl 0, .inl 0, .inl 0, .inr none, .inl 1])) := by rw [hT5]; exact jup_eq
  have g5 : ∀ a, a < q → T5 a = T a ∧ V5 a = V a := fun a ha => ⟨by rw [hT5, jup_ne (by omega), jup_ne (by omega)]; exact (g4 a ha).1, by rw [hV5, jz_ne (by omega)]; exact (g4 a ha).2⟩
  have v5 : V5 q = fun _ => 0 := by rw [hV5, jz_ne (by omega)]; exact v4
  have a4_5 : T5 (q + 5) = some (kI 10) := by rw [hT5, jup_ne (by omega)]; exact jup_eq
  have a0_5 : T5 (q + 1) = some (kI 231) := by rw [hT5, jup_ne (by omega), jup_ne (by omega)]; exact a0_4
  have a1_5 : T5 (q + 2) = some (kI 1386) := by rw [hT5, jup_ne (by omega), jup_ne (by omega)]; exact a1_4
  have a2_5 : T5 (q + 3) = some (kI 60) := by rw [hT5, jup_ne (by omega), jup_ne (by omega)]; exact a2_4
  have a3_5 : T5 (q + 4) = some (kI 11) := by rw [hT5, jup_ne (by omega), jup_ne (by omega)]; exact a3_4
  have z5 : V5 (q + 1) = fun _ => 0 := by rw [hV5, jz_ne (by omega)]; exact z4
  refine j_aload_n dX8_init_46 rfl ?_
  refine j_bipush (v := 10) dX8_init_47 (by decide) ?_
  refine j_newi (N := 10) dX8_init_49 hB ac_int (by decide) (by decide) (by decide) (Nat.le_of_ble_eq_true rfl) ?_
  refine j_putr dX8_init_51 hB fp_X8_init_25 (Or.inr ⟨_, rfl⟩) (by rw [jup_ne (by omega)]; exact f5) (by simp) ?_
  refine j_abT (fun T6 hT6 => ?_)
  refine j_abV (fun V6 hV6 => ?_)
  have f6 : T6 q = some (.inl (8, [.inl 0, .inr (some (q + 1)), .inl 0, .inr (some (q + 2)), .inl 0, .inr (some (q + 3)), .inr (some (q + 4)), .inr (some (q + 5)), .inr (some (q + 6)), .inr none, .inl 0, .inl 0, .inl 0, .inl 0, .inr none, .inl 1])) := by rw [hT6]; exact jup_eq
  have g6 : ∀ a, a < q → T6 a = T a ∧ V6 a = V a := fun a ha => ⟨by rw [hT6, jup_ne (by omega), jup_ne (by omega)]; exact (g5 a ha).1, by rw [hV6, jz_ne (by omega)]; exact (g5 a ha).2⟩
  have v6 : V6 q = fun _ => 0 := by rw [hV6, jz_ne (by omega)]; exact v5
  have a5_6 : T6 (q + 6) = some (kI 10) := by rw [hT6, jup_ne (by omega)]; exact jup_eq
  have a0_6 : T6 (q + 1) = some (kI 231) := by rw [hT6, jup_ne (by omega), jup_ne (by omega)]; exact a0_5
  have a1_6 : T6 (q + 2) = some (kI 1386) := by rw [hT6, jup_ne (by omega), jup_ne (by omega)]; exact a1_5
  have a2_6 : T6 (q + 3) = some (kI 60) := by rw [hT6, jup_ne (by omega), jup_ne (by omega)]; exact a2_5
  have a3_6 : T6 (q + 4) = some (kI 11) := by rw [hT6, jup_ne (by omega), jup_ne (by omega)]; exact a3_5
  have a4_6 : T6 (q + 5) = some (kI 10) := by rw [hT6, jup_ne (by omega), jup_ne (by omega)]; exact a4_5
  have z6 : V6 (q + 1) = fun _ => 0 := by rw [hV6, jz_ne (by omega)]; exact z5
  refine j_aload_n dX8_init_54 rfl ?_
  refine j_bipush (v := 10) dX8_init_55 (by decide) ?_
  refine j_newi (N := 10) dX8_init_57 hB ac_int (by decide) (by decide) (by decide) (Nat.le_of_ble_eq_true rfl) ?_
  refine j_putr dX8_init_59 hB fp_X8_init_28 (Or.inr ⟨_, rfl⟩) (by rw [jup_ne (by omega)]; exact f6) (by simp) ?_
  refine j_abT (fun T7 hT7 => ?_)
  refine j_abV (fun V7 hV7 => ?_)
  have f7 : T7 q = some (.inl (8, [.inl 0, .inr (some (q + 1)), .inl 0, .inr (some (q + 2)), .inl 0, .inr (some (q + 3)), .inr (some (q + 4)), .inr (some (q + 5)), .inr (some (q + 6)), .inr (some (q + 7)), .inl 0, .inl 0, .inl 0, .inl 0, .inr none, .inl 1])) := by rw [hT7]; exact jup_eq
  have g7 : ∀ a, a < q → T7 a = T a ∧ V7 a = V a := fun a ha => ⟨by rw [hT7, jup_ne (by omega), jup_ne (by omega)]; exact (g6 a ha).1, by rw [hV7, jz_ne (by omega)]; exact (g6 a ha).2⟩
  have v7 : V7 q = fun _ => 0 := by rw [hV7, jz_ne (by omega)]; exact v6
  have a6_7 : T7 (q + 7) = some (kI 10) := by rw [hT7, jup_ne (by omega)]; exact jup_eq
  have a0_7 : T7 (q + 1) = some (kI 231) := by rw [hT7, jup_ne (by omega), jup_ne (by omega)]; exact a0_6
  have a1_7 : T7 (q + 2) = some (kI 1386) := by rw [hT7, jup_ne (by omega), jup_ne (by omega)]; exact a1_6
  have a2_7 : T7 (q + 3) = some (kI 60) := by rw [hT7, jup_ne (by omega), jup_ne (by omega)]; exact a2_6
  have a3_7 : T7 (q + 4) = some (kI 11) := by rw [hT7, jup_ne (by omega), jup_ne (by omega)]; exact a3_6
  have a4_7 : T7 (q + 5) = some (kI 10) := by rw [hT7, jup_ne (by omega), jup_ne (by omega)]; exact a4_6
  have a5_7 : T7 (q + 6) = some (kI 10) := by rw [hT7, jup_ne (by omega), jup_ne (by omega)]; exact a5_6
  have z7 : V7 (q + 1) = fun _ => 0 := by rw [hV7, jz_ne (by omega)]; exact z6
  refine j_aload_n dX8_init_62 rfl ?_
  refine j_bipush (v := 124) dX8_init_63 (by decide) ?_
  refine j_newi (N := 124) dX8_init_65 hB ac_int (by decide) (by decide) (by decide) (Nat.le_of_ble_eq_true rfl) ?_
  refine j_putr dX8_init_67 hB fp_X8_init_31 (Or.inr ⟨_, rfl⟩) (by rw [jup_ne (by omega)]; exact f7) (by simp) ?_
  refine j_abT (fun T8 hT8 => ?_)
  refine j_abV (fun V8 hV8 => ?_)
  have f8 : T8 q = some (.inl (8, [.inl 0, .inr (some (q + 1)), .inl 0, .inr (some (q + 2)), .inl 0, .inr (some (q + 3)), .inr (some (q + 4)), .inr (some (q + 5)), .inr (some (q + 6)), .inr (some (q + 7)), .inl 0, .inl 0, .inl 0, .inl 0, .inr (some (q + 8)), .inl 1])) := by rw [hT8]; exact jup_eq
  have g8 : ∀ a, a < q → T8 a = T a ∧ V8 a = V a := fun a ha => ⟨by rw [hT8, jup_ne (by omega), jup_ne (by omega)]; exact (g7 a ha).1, by rw [hV8, jz_ne (by omega)]; exact (g7 a ha).2⟩
  have v8 : V8 q = fun _ => 0 := by rw [hV8, jz_ne (by omega)]; exact v7
  have a7_8 : T8 (q + 8) = some (kI 124) := by rw [hT8, jup_ne (by omega)]; exact jup_eq
  have a0_8 : T8 (q + 1) = some (kI 231) := by rw [hT8, jup_ne (by omega), jup_ne (by omega)]; exact a0_7
  have a1_8 : T8 (q + 2) = some (kI 1386) := by rw [hT8, jup_ne (by omega), jup_ne (by omega)]; exact a1_7
  have a2_8 : T8 (q + 3) = some (kI 60) := by rw [hT8, jup_ne (by omega), jup_ne (by omega)]; exact a2_7
  have a3_8 : T8 (q + 4) = some (kI 11) := by rw [hT8, jup_ne (by omega), jup_ne (by omega)]; exact a3_7
  have a4_8 : T8 (q + 5) = some (kI 10) := by rw [hT8, jup_ne (by omega), jup_ne (by omega)]; exact a4_7
  have a5_8 : T8 (q + 6) = some (kI 10) := by rw [hT8, jup_ne (by omega), jup_ne (by omega)]; exact a5_7
  have a6_8 : T8 (q + 7) = some (kI 10) := by rw [hT8, jup_ne (by omega), jup_ne (by omega)]; exact a6_7
  have z8 : V8 (q + 1) = fun _ => 0 := by rw [hV8, jz_ne (by omega)]; exact z7
  have h0 : moT T8 q := ⟨f8, a0_8, a1_8, a2_8, a3_8, a4_8, a5_8, a6_8, a7_8⟩
  refine j_iconst (v := 0) dX8_init_70 (by decide) ?_
  refine j_istore_n (L' := [(0, _), (1, _)]) dX8_init_71 (by decide) rfl ?_
  refine j_iload_n dX8_init_72 rfl ?_
  refine j_iconst (v := 3) dX8_init_73 (by decide) ?_
  refine m_icmp_ge (tgt := 112) dX8_init_74 (by decide) (iC 0 (by decide)) (iC 3 (by decide)) (fun c_74 => ?_) (fun c_74 => ?_)
  · exact absurd c_74 (by decide)
  · refine j_aload_n dX8_init_77 rfl ?_
    refine j_getr dX8_init_78 hB fl_X8_7 (by first | exact h0.1 | exact h0.2.1 | exact h0.2.2.1 | exact h0.2.2.2.1 | exact h0.2.2.2.2.1 | exact h0.2.2.2.2.2.1 | exact h0.2.2.2.2.2.2.1 | exact h0.2.2.2.2.2.2.2.1 | exact h0.2.2.2.2.2.2.2.2) (by rfl) ?_
    refine j_bipush (v := 67) dX8_init_81 (by decide) ?_
    refine j_iload_n dX8_init_83 rfl ?_
    refine j_imul dX8_init_84 ?_
    refine j_bipush (v := 41) dX8_init_85 (by decide) ?_
    refine j_iadd dX8_init_87 ?_
    refine j_iconst (v := 1) dX8_init_88 (by decide) ?_
    refine m_iast (k := 41) dX8_init_89 hB (by first | exact h0.1 | exact h0.2.1 | exact h0.2.2.1 | exact h0.2.2.2.1 | exact h0.2.2.2.2.1 | exact h0.2.2.2.2.2.1 | exact h0.2.2.2.2.2.2.1 | exact h0.2.2.2.2.2.2.2.1 | exact h0.2.2.2.2.2.2.2.2) (ixk (iC 41 (by decide)) (by omega)) (by omega) ?_
    refine j_aload_n dX8_init_90 rfl ?_
    refine j_getr dX8_init_91 hB fl_X8_7 (by first | exact h0.1 | exact h0.2.1 | exact h0.2.2.1 | exact h0.2.2.2.1 | exact h0.2.2.2.2.1 | exact h0.2.2.2.2.2.1 | exact h0.2.2.2.2.2.2.1 | exact h0.2.2.2.2.2.2.2.1 | exact h0.2.2.2.2.2.2.2.2) (by rfl) ?_
    refine j_bipush (v := 67) dX8_init_94 (by decide) ?_
    refine j_iload_n dX8_init_96 rfl ?_
    refine j_imul dX8_init_97 ?_
    refine j_bipush (v := 42) dX8_init_98 (by decide) ?_
    refine j_iadd dX8_init_100 ?_
    refine j_iconst (v := 1) dX8_init_101 (by decide) ?_
    refine j_iadd dX8_init_102 ?_
    refine j_bipush (v := 16) dX8_init_103 (by decide) ?_
    refine m_iast (k := 43) dX8_init_105 hB (by first | exact h0.1 | exact h0.2.1 | exact h0.2.2.1 | exact h0.2.2.2.1 | exact h0.2.2.2.2.1 | exact h0.2.2.2.2.2.1 | exact h0.2.2.2.2.2.2.1 | exact h0.2.2.2.2.2.2.2.1 | exact h0.2.2.2.2.2.2.2.2) (ixk (iC 43 (by decide)) (by omega)) (by omega) ?_
    refine j_iinc (v := 1) (L' := [(0, _), (1, _)]) dX8_init_106 rfl (by decide) (by decide) rfl ?_
    refine j_goto (tgt := 72) dX8_init_109 (by decide) ?_
    refine j_iload_n dX8_init_72 rfl ?_
    refine j_iconst (v := 3) dX8_init_73 (by decide) ?_
    refine m_icmp_ge (tgt := 112) dX8_init_74 (by decide) (iC 1 (by decide)) (iC 3 (by decide)) (fun c_74 => ?_) (fun c_74 => ?_)
    · exact absurd c_74 (by decide)
    · refine j_aload_n dX8_init_77 rfl ?_
      refine j_getr dX8_init_78 hB fl_X8_7 (by first | exact h0.1 | exact h0.2.1 | exact h0.2.2.1 | exact h0.2.2.2.1 | exact h0.2.2.2.2.1 | exact h0.2.2.2.2.2.1 | exact h0.2.2.2.2.2.2.1 | exact h0.2.2.2.2.2.2.2.1 | exact h0.2.2.2.2.2.2.2.2) (by rfl) ?_
      refine j_bipush (v := 67) dX8_init_81 (by decide) ?_
      refine j_iload_n dX8_init_83 rfl ?_
      refine j_imul dX8_init_84 ?_
      refine j_bipush (v := 41) dX8_init_85 (by decide) ?_
      refine j_iadd dX8_init_87 ?_
      refine j_iconst (v := 1) dX8_init_88 (by decide) ?_
      refine m_iast (k := 108) dX8_init_89 hB (by first | exact h0.1 | exact h0.2.1 | exact h0.2.2.1 | exact h0.2.2.2.1 | exact h0.2.2.2.2.1 | exact h0.2.2.2.2.2.1 | exact h0.2.2.2.2.2.2.1 | exact h0.2.2.2.2.2.2.2.1 | exact h0.2.2.2.2.2.2.2.2) (ixk (iC 108 (by decide)) (by omega)) (by omega) ?_
      refine j_aload_n dX8_init_90 rfl ?_
      refine j_getr dX8_init_91 hB fl_X8_7 (by first | exact h0.1 | exact h0.2.1 | exact h0.2.2.1 | exact h0.2.2.2.1 | exact h0.2.2.2.2.1 | exact h0.2.2.2.2.2.1 | exact h0.2.2.2.2.2.2.1 | exact h0.2.2.2.2.2.2.2.1 | exact h0.2.2.2.2.2.2.2.2) (by rfl) ?_
      refine j_bipush (v := 67) dX8_init_94 (by decide) ?_
      refine j_iload_n dX8_init_96 rfl ?_
      refine j_imul dX8_init_97 ?_
      refine j_bipush (v := 42) dX8_init_98 (by decide) ?_
      refine j_iadd dX8_init_100 ?_
      refine j_iconst (v := 1) dX8_init_101 (by decide) ?_
      refine j_iadd dX8_init_102 ?_
      refine j_bipush (v := 16) dX8_init_103 (by decide) ?_
      refine m_iast (k := 110) dX8_init_105 hB (by first | exact h0.1 | exact h0.2.1 | exact h0.2.2.1 | exact h0.2.2.2.1 | exact h0.2.2.2.2.1 | exact h0.2.2.2.2.2.1 | exact h0.2.2.2.2.2.2.1 | exact h0.2.2.2.2.2.2.2.1 | exact h0.2.2.2.2.2.2.2.2) (ixk (iC 110 (by decide)) (by omega)) (by omega) ?_
      refine j_iinc (v := 1) (L' := [(0, _), (1, _)]) dX8_init_106 rfl (by decide) (by decide) rfl ?_
      refine j_goto (tgt := 72) dX8_init_109 (by decide) ?_
      refine j_iload_n dX8_init_72 rfl ?_
      refine j_iconst (v := 3) dX8_init_73 (by decide) ?_
      refine m_icmp_ge (tgt := 112) dX8_init_74 (by decide) (iC 2 (by decide)) (iC 3 (by decide)) (fun c_74 => ?_) (fun c_74 => ?_)
      · exact absurd c_74 (by decide)
      · refine j_aload_n dX8_init_77 rfl ?_
        refine j_getr dX8_init_78 hB fl_X8_7 (by first | exact h0.1 | exact h0.2.1 | exact h0.2.2.1 | exact h0.2.2.2.1 | exact h0.2.2.2.2.1 | exact h0.2.2.2.2.2.1 | exact h0.2.2.2.2.2.2.1 | exact h0.2.2.2.2.2.2.2.1 | exact h0.2.2.2.2.2.2.2.2) (by rfl) ?_
        refine j_bipush (v := 67) dX8_init_81 (by decide) ?_
        refine j_iload_n dX8_init_83 rfl ?_
        refine j_imul dX8_init_84 ?_
        refine j_bipush (v := 41) dX8_init_85 (by decide) ?_
        refine j_iadd dX8_init_87 ?_
        refine j_iconst (v := 1) dX8_init_88 (by decide) ?_
        refine m_iast (k := 175) dX8_init_89 hB (by first | exact h0.1 | exact h0.2.1 | exact h0.2.2.1 | exact h0.2.2.2.1 | exact h0.2.2.2.2.1 | exact h0.2.2.2.2.2.1 | exact h0.2.2.2.2.2.2.1 | exact h0.2.2.2.2.2.2.2.1 | exact h0.2.2.2.2.2.2.2.2) (ixk (iC 175 (by decide)) (by omega)) (by omega) ?_
        refine j_aload_n dX8_init_90 rfl ?_
        refine j_getr dX8_init_91 hB fl_X8_7 (by first | exact h0.1 | exact h0.2.1 | exact h0.2.2.1 | exact h0.2.2.2.1 | exact h0.2.2.2.2.1 | exact h0.2.2.2.2.2.1 | exact h0.2.2.2.2.2.2.1 | exact h0.2.2.2.2.2.2.2.1 | exact h0.2.2.2.2.2.2.2.2) (by rfl) ?_
        refine j_bipush (v := 67) dX8_init_94 (by decide) ?_
        refine j_iload_n dX8_init_96 rfl ?_
        refine j_imul dX8_init_97 ?_
        refine j_bipush (v := 42) dX8_init_98 (by decide) ?_
        refine j_iadd dX8_init_100 ?_
        refine j_iconst (v := 1) dX8_init_101 (by decide) ?_
        refine j_iadd dX8_init_102 ?_
        refine j_bipush (v := 16) dX8_init_103 (by decide) ?_
        refine m_iast (k := 177) dX8_init_105 hB (by first | exact h0.1 | exact h0.2.1 | exact h0.2.2.1 | exact h0.2.2.2.1 | exact h0.2.2.2.2.1 | exact h0.2.2.2.2.2.1 | exact h0.2.2.2.2.2.2.1 | exact h0.2.2.2.2.2.2.2.1 | exact h0.2.2.2.2.2.2.2.2) (ixk (iC 177 (by decide)) (by omega)) (by omega) ?_
        refine j_iinc (v := 1) (L' := [(0, _), (1, _)]) dX8_init_106 rfl (by decide) (by decide) rfl ?_
        refine j_goto (tgt := 72) dX8_init_109 (by decide) ?_
        refine j_iload_n dX8_init_72 rfl ?_
        refine j_iconst (v := 3) dX8_init_73 (by decide) ?_
        refine m_icmp_ge (tgt := 112) dX8_init_74 (by decide) (iC 3 (by decide)) (iC 3 (by decide)) (fun c_74 => ?_) (fun c_74 => ?_)
        · refine j_aload_n dX8_init_112 rfl ?_
          refine j_getr dX8_init_113 hB fl_X8_7 (by first | exact h0.1 | exact h0.2.1 | exact h0.2.2.1 | exact h0.2.2.2.1 | exact h0.2.2.2.2.1 | exact h0.2.2.2.2.2.1 | exact h0.2.2.2.2.2.2.1 | exact h0.2.2.2.2.2.2.2.1 | exact h0.2.2.2.2.2.2.2.2) (by rfl) ?_
          refine j_sipush (v := 226) dX8_init_116 (by decide) ?_
          refine j_bipush (v := 20) dX8_init_119 (by decide) ?_
          refine m_iast (k := 226) dX8_init_121 hB (by first | exact h0.1 | exact h0.2.1 | exact h0.2.2.1 | exact h0.2.2.2.1 | exact h0.2.2.2.2.1 | exact h0.2.2.2.2.2.1 | exact h0.2.2.2.2.2.2.1 | exact h0.2.2.2.2.2.2.2.1 | exact h0.2.2.2.2.2.2.2.2) (ixk (iC 226 (by decide)) (by omega)) (by omega) ?_
          refine j_aload_n dX8_init_122 rfl ?_
          refine j_getr dX8_init_123 hB fl_X8_7 (by first | exact h0.1 | exact h0.2.1 | exact h0.2.2.1 | exact h0.2.2.2.1 | exact h0.2.2.2.2.1 | exact h0.2.2.2.2.2.1 | exact h0.2.2.2.2.2.2.1 | exact h0.2.2.2.2.2.2.2.1 | exact h0.2.2.2.2.2.2.2.2) (by rfl) ?_
          refine j_sipush (v := 227) dX8_init_126 (by decide) ?_
          refine j_iconst (v := 5) dX8_init_129 (by decide) ?_
          refine m_iast (k := 227) dX8_init_130 hB (by first | exact h0.1 | exact h0.2.1 | exact h0.2.2.1 | exact h0.2.2.2.1 | exact h0.2.2.2.2.1 | exact h0.2.2.2.2.2.1 | exact h0.2.2.2.2.2.2.1 | exact h0.2.2.2.2.2.2.2.1 | exact h0.2.2.2.2.2.2.2.2) (ixk (iC 227 (by decide)) (by omega)) (by omega) ?_
          refine j_abV (fun VF hVF => ?_)
          refine j_vret dX8_init_131 rfl (by decide) (by decide) ?_
          have hZ : ∀ i, VF (q + 1) i = if i = 227 then 5 else if i = 226 then 20 else if i = 177 then 16 else if i = 175 then 1 else if i = 110 then 16 else if i = 108 then 1 else if i = 43 then 16 else if i = 41 then 1 else 0 := fun i => by
            rw [hVF]
            simp only [jset, true_and, z8]
          have hq9 : VF q = fun _ => 0 := by
            rw [hVF]
            repeat rw [jset_row (by omega)]
            exact v8
          have hlo : ∀ a, a < q → VF a = V a := fun a ha => by
            rw [hVF]
            repeat rw [jset_row (by omega)]
            exact (g8 a ha).2
          refine ⟨rfl, rfl, ⟨h0, zIs_0 hZ, ⟨by rw [hq9]; rfl, fun k s hk => by cases hk⟩, by rw [hq9]; rfl, fun k c hk => by cases hk⟩, fun a ha => ⟨(g8 a ha).1, hlo a ha, rfl, rfl⟩⟩
        · exact absurd c_74 (by decide)
end JM20
