/-! CueSheets: the constructor -/
section JInitN
variable {l : Launch} {s0 : State} {D : jD} {M : jM} {R : Room} {mc ms : Nat} {Q : jQ} {pc : Nat} {L : List (Nat × Value)} {st rest : List Value} {T : jT} {V : jV} {X : jX} {sz c n : Nat}
/-- a private constructor of a nest mate -/
theorem j_cIN {M2 : jM} {R2 : Room} {mc2 ms2 idx b na : Nat} {host : String} {as : List Value} {P : jT → jV → jX → Nat → Prop} (d : decode M.2.1 pc = .ok (.invokespecial idx, 3)) (hB : jB l s0 D) (hm : jmI M2 na) (hlk : Cond.methodLinkNest M.1.cls idx M2.1 host ∈ lw_tbl) (sp : Sp l s0 D M2 R2 mc2 ms2 (.ref b :: as) T V X sz (qN P)) (hn : as.length = na) (hst : st = as.reverse ++ .ref b :: rest) (hrm : jrm R R2 mc2 ms2 M2.2.2.1) (hcat : (rest.map fun v => v.category).sum ≤ 8) (hf : c + mc2 ≤ R.cells ∧ n + ms2 ≤ R.slots)
    (K : ∀ T' V' X' sz', P T' V' X' sz' → J l s0 D M R mc ms Q (pc + 3) L rest T' V' X' sz' (c + mc2) (n + ms2)) : J l s0 D M R mc ms Q pc L st T V X sz c n := by
  intro p e s m args below meth cd H locs ls hC hH hl
  have hW := hC.2.2.2.2.2.2.1
  obtain ⟨m1, m2, mr, mi, m3, m5, m6, m7⟩ := hm
  have hs : ∀ U : State, s.WarmedH U.vm → s0.WarmedH U.vm := fun U h => State.WarmedH.trans hW h
  have sp' : vx_Met l M2.1 [Cond.code M2.1 M2.2.1 M2.2.2.1 none] R2 (fun v U => v = (Value.ref b :: as).toArray ∧ s0.WarmedH U.vm ∧ jWd s0 D T V X sz U) (jQc s0 D (qN P)) (jXC s0 D (qN P)) mc2 ms2 (jA s0) := by
    have := sp
    unfold Sp at this
    rw [mr] at this
    exact this
  have hcall : vx_Run p l e R s m args below meth cd H locs c n mc2 ms2 (F0 m pc ls st) rest (jQc s0 D (qN P) (Value.ref b :: as).toArray) (jXC s0 D (qN P)) (jA s0) :=
    vx_runIN (bytes := M2.2.1) (maxL := M2.2.2.1) (As := as) (b := b) (Ts := []) (own := M.1.cls) (cc := M.2.1) (nL := M.2.2.1) ⟨hC.1, hC.2.1, hC.2.2.1, hC.2.2.2.2.1, fun w hw => by cases hw⟩ sp'
      ⟨⟨⟨hrm.1, hrm.2.1, hrm.2.2.1, hrm.2.2.2, fun w hw a' U hU => by
        rw [List.mem_singleton.mp hw]; exact hB.word (hs U hU) m2 rfl a', List.mem_singleton.mpr rfl⟩, hB.word hW m2 rfl args, hB.word hW m5 rfl args, m6, jlen m7, va_Nw.use rfl (hB.nestM hW hlk)⟩, mi, hB.word hW m3 rfl args⟩
      ⟨fun _ _ _ _ q => q, fun U hU hWU => ⟨rfl, hs U hWU, hH.wd hU⟩⟩ rfl hn hl.1 hst (lv_room hcat) d hf
  exact j_run hC hH hl hcall (by rintro v T' V' X' sz' ⟨h, hp⟩; cases h; exact K T' V' X' sz' hp) (by rintro E T' V' X' sz' ⟨h, -⟩; cases h)
set_option maxRecDepth 100000 in
set_option maxHeartbeats 4000000 in
theorem j_newq2 {v : Int32} {N idx : Nat} (d : decode M.2.1 pc = .ok (.anewarray idx, 3)) (hB : jB l s0 D) (hlk : Cond.classLink M.1.cls idx "CueSheets$State" ∈ lw_tbl) (hA : Cond.arrayOver (.object "CueSheets$State") ∈ lw_tbl) (hv : v.toInt = N) (hN : N ≤ 100000) (hc : c + 1 ≤ R.cells) (hn : n + N ≤ R.slots) (K : J l s0 D M R mc ms Q (pc + 3) L (.ref sz :: rest) (jup T sz (.inr (.inr (N, fun _ => none)))) V X (sz + 1) (c + 1) (n + N)) : J l s0 D M R mc ms Q pc L (.int v :: rest) T V X sz c n := by
  intro p e s m args below meth cd H locs ls hC hH hl
  have hW := hC.2.2.2.2.2.2.1
  have hK := va_K.moved (hW.alike) hB.2.2.1
  have hAO : (Cond.arrayOver (.object "CueSheets$State")).before args s = true := by
    obtain ⟨-, ⟨a0, h⟩, -⟩ := hB
    exact va_AO.use (va_AO.moved hW.alike (va_AO.of (h _ hA)))
  have hsz : H.size = sz := hH.2.2.2.2.2.1
  have hneg : ¬ v < 0 := fun h => by have := ti_lt h; rw [ti_0] at this; omega
  have hcl : v.toNatClampNeg = N := by rw [← Int32.toNat_toInt]; omega
  subst hcl
  refine W.anew hC.1 hC.2.1 hC.2.2.2.2.1 (hB.word hW hlk rfl args) hAO rfl d rfl hneg (by omega) hc hn fun cA kA comp f1 f2 f3 f4 => ?_
  generalize hH1 : H.push ({ cls := cA, slots := Array.replicate v.toNatClampNeg .null, vm := .none } : Cell) = H1
  have z1 : H1.size = H.size + 1 := by rw [← hH1, Array.size_push]
  have e1 : H1[H.size]? = some (arrV cA v.toNatClampNeg (fun _ => .null)) := by rw [← hH1, Array.getElem?_push_size, ← arrV_new]
  have o1 : ∀ q : Nat, q < H.size → H1[q]? = H[q]? := fun q hq => by rw [← hH1, Array.getElem?_push, if_neg (Nat.ne_of_lt hq)]
  obtain ⟨kA', comp', k1, k2, k3, k4⟩ := (hK.2 3 _ rfl).2
  have hcA : cA = D.2 3 := Option.some.inj (f1.symm.trans k4)
  subst hcA
  subst hsz
  refine K p e s m args below meth cd H1 locs ls hC (hH.more z1 o1 (fun q hq => rfl) (fun q hq => ⟨rfl, rfl⟩) ?_) hl
  show H1[H.size]? = some (vp_cell (D.2 3) (v.toNatClampNeg, .inr (.inr (.inr (.inr (fun _ => none))))))
  rw [e1]; rfl
end JInitN
section JInit
variable {l : Launch} {s0 : State} {D : jD} {T : jT} {V : jV} {X : jX} {sz : Nat}
set_option maxRecDepth 100000 in
set_option maxHeartbeats 4000000 in
theorem sp_X0_init (hB : jB l s0 D) {q : Nat} : Sp l s0 D kX0_init (jR 1 0 0) 0 0 [.ref q] T V X (q + 1) (qN (fun T' V' X' sz' => T' = T ∧ V' = V ∧ X' = X ∧ sz' = q + 1)) := by
  refine Sp.of pn_X0_init rfl (Nat.le_of_ble_eq_true rfl) ?_
  refine j_aload_n dX0_init_0 rfl ?_
  refine j_objInit dX0_init_1 hB ml_X0_3 oi_1 oi_2 (by decide) (Nat.le_of_ble_eq_true rfl) ?_
  refine j_vret dX0_init_4 rfl (by decide) (by decide) ?_
  exact ⟨rfl, rfl, rfl, rfl, rfl⟩
/-- all that a CueSheets is: its kinds -/
def svA (q i : Nat) : Nat := q + 66 + 64 * i
def cuT0 (T : jT) (q : Nat) : Prop := T q = some (kCue (q + 1) (q + 65) (q + 450) (q + 452) (q + 461) (q + 476) (q + 491)) ∧ (∃ f : Nat → Option Nat, T (q + 65) = some (kQ 6 f) ∧ ∀ i, i < 6 → f i = some (svA q i)) ∧ T (q + 491) = some kChoice
abbrev aC : Type := aS × (Nat → aS) × (Int × Int) × List Int32
/-- .. its values: the state, the saved ones by place, the oldest's place and their number, the buffer -/
def cuOK (T : jT) (V : jV) (q : Nat) (x : aC) : Prop := cuT0 T q ∧ StOK T V (q + 1) x.1 ∧ (∀ i, i < 6 → StOK T V (svA q i) (x.2.1 i)) ∧ (V q 2).toInt = x.2.2.1.1 ∧ (V q 3).toInt = x.2.2.1.2 ∧ RowOK T V (q + 450) 60 ∧ Rw V (q + 450) = x.2.2.2 ∧ rdK T V (q + 452) ∧ TmK T V (q + 461) ∧ TmK T V (q + 476)
theorem cuT0.cg {T T' : jT} {q : Nat} (h : cuT0 T q) (e : ∀ a, q ≤ a → a < q + 492 → T' a = T a) : cuT0 T' q := by
  obtain ⟨h1, ⟨f, h2, h3⟩, h4⟩ := h
  exact ⟨by rw [e q (by omega) (by omega)]; exact h1, ⟨f, by rw [e _ (by omega) (by omega)]; exact h2, h3⟩, by rw [e _ (by omega) (by omega)]; exact h4⟩
theorem cuOK.cg {T T' : jT} {V V' : jV} {q : Nat} {x : aC} (h : cuOK T V q x) (e : jEq T V T' V' q (q + 492)) : cuOK T' V' q x := by
  obtain ⟨h0, h1, h2, h3, h4, h5, h6, h7, h8, h9⟩ := h
  refine ⟨h0.cg (fun a ha hb => (e a ha hb).1), h1.cg (e.sub (by omega) (by omega)), fun i hi => (h2 i hi).cg (e.sub (by unfold svA; omega) (by unfold svA; omega)), by rw [(e q (by omega) (by omega)).2]; exact h3, by rw [(e q (by omega) (by omega)).2]; exact h4, h5.cg (e.sub (by omega) (by omega)), by rw [Rw_cg (e.sub (by omega) (by omega))]; exact h6, h7.cg (e.sub (by omega) (by omega)), h8.cg (e.sub (by omega) (by omega)), h9.cg (e.sub (by omega) (by omega))⟩
def cu0 : aC := (st0, fun _ => st0, (0, 0), [])
set_option maxRecDepth 100000 in
set_option maxHeartbeats 4000000 in
theorem sp_X7_init (hB : jB l s0 D) {q : Nat} (ht : T q = some (.inl (7, [.inr none, .inr none, .inl 0, .inl 0, .inr none, .inr none, .inr none, .inr none, .inr none]))) (hv : V q = fun _ => 0) : Sp l s0 D kX7_init (jR 5 491 2886) 491 2886 [.ref q] T V X (q + 1) (qN (fun T' V' X' sz' => sz' = q + 492 ∧ cuOK T' V' q cu0 ∧ jNw T V X T' V' X' q)) := by
  refine Sp.of pn_X7_init rfl (Nat.le_of_ble_eq_true rfl) ?_
  have loop : ∀ (n k : Nat) (i : Int32) (T1 : jT) (V1 : jV) (X1 : jX) (sz1 c1 n1 : Nat), i.toInt = k → k + n = 6 → sz1 = q + 66 + 64 * k → True → c1 = 65 + 64 * k → n1 = 314 + 308 * k → T1 q = some (.inl (7, [.inr (some (q + 1)), .inr (some (q + 65)), .inl 0, .inl 0, .inr none, .inr none, .inr none, .inr none, .inr none])) → V1 q = (fun _ => 0) → (∃ f : Nat → Option Nat, T1 (q + 65) = some (kQ 6 f) ∧ ∀ i, i < k → f i = some (svA q i)) → StOK T1 V1 (q + 1) st0 → (∀ i, i < k → StOK T1 V1 (svA q i) st0) → jNw T V X T1 V1 X1 q → J l s0 D kX7_init (jR 5 491 2886) 491 2886 (qN (fun T' V' X' sz' => sz' = q + 492 ∧ cuOK T' V' q cu0 ∧ jNw T V X T' V' X' q)) 26 [(0, .ref q), (1, .int i)] [] T1 V1 X1 sz1 c1 n1 := by
    intro n
    induction n with
    | zero =>
      intro k i T1 V1 X1 sz1 c1 n1 hi hk hsz _ hc1 hn1 h1 h2 ⟨f, hk3, hf⟩ hs hv9 fr
      have hk6 : k = 6 := by omega
      subst hk6
      have hf6 := hf
      have ks2 := hs
      have kv2 := hv9
      have kq2 := hk3
      have y2 := h2
      have hsz' : sz1 = q + 450 := by omega
      have hc' : c1 = 449 := by omega
      have hn' : n1 = 2162 := by omega
      subst hsz' hc' hn'
      refine j_iload_n dX7_init_26 rfl ?_
      refine j_aload_n dX7_init_27 rfl ?_
      refine j_getr dX7_init_28 hB fl_X7_16 (by first | exact u7 | exact u6 | exact u5 | exact u4 | exact u3 | exact h1) (by rfl) ?_
      refine j_alen dX7_init_31 hB (Or.inr ⟨f, hk3⟩) ?_
      refine j_icmp_ge (tgt := 54) dX7_init_32 (by decide) (fun c_32 => ?_) (fun c_32 => ?_)
      · refine j_aload_n dX7_init_54 rfl ?_
        refine j_new dX7_init_55 hB nw_X7_20 (by decide) (by decide) ?_
        refine j_dup dX7_init_58 rfl ?_
        refine j_bipush (v := 60) dX7_init_59 (by decide) ?_
        refine j_cI dX7_init_61 hB mo_X3_init ml_X7_22 (sp_X3_init hB (cap := 60) jup_eq jz_row rfl (by decide)) rfl rfl ⟨rfl, rfl, by decide, by decide⟩ (Nat.le_of_ble_eq_true rfl) ⟨by decide, by decide⟩ (fun T3 V3 X3 sz3 h3 => ?_)
        obtain ⟨sz3', g3, w3⟩ := h3
        have z3 : sz3 = q + 452 := by omega
        subst z3
        have e3 : ∀ a, a < q + 450 → T3 a = T1 a ∧ V3 a = V1 a ∧ X3.1 a = X1.1 a ∧ X3.2 a = X1.2 a := fun a ha => by
          obtain ⟨w1, w2, w3, w4⟩ := w3 a ha
          exact ⟨w1.trans (jup_ne (by omega)), w2.trans (jz_ne (by omega)), w3.trans (jz_ne (by omega)), w4⟩
        have u3 : T3 q = some (.inl (7, [.inr (some (q + 1)), .inr (some (q + 65)), .inl 0, .inl 0, .inr none, .inr none, .inr none, .inr none, .inr none])) := (e3 q (by omega)).1.trans h1
        have y3 : V3 q = fun _ => 0 := (e3 q (by omega)).2.1.trans h2
        refine j_putr dX7_init_64 hB fp_X7_init_25 (Or.inl ⟨_, rfl⟩) (by first | exact u7 | exact u6 | exact u5 | exact u4 | exact u3 | exact h1) (by simp) ?_
        refine j_abT (fun S3 hT3 => ?_)
        have t3 : S3 q = some (.inl (7, [.inr (some (q + 1)), .inr (some (q + 65)), .inl 0, .inl 0, .inr (some (q + 450)), .inr none, .inr none, .inr none, .inr none])) := by rw [hT3]; exact jup_eq
        have n3 : ∀ a, a ≠ q → S3 a = T3 a := fun a ha => by rw [hT3]; exact jup_ne ha
        have m3 : ∀ a, a < q + 450 → a ≠ q → S3 a = T1 a ∧ V3 a = V1 a := fun a ha hb => ⟨(n3 a hb).trans (e3 a ha).1, (e3 a ha).2.1⟩
        have ks3 := ks2.cg (T' := S3) (V' := V3) (fun a ha hb => m3 a (by omega) (by omega))
        have kv3 : ∀ i, i < 6 → StOK S3 V3 (svA q i) st0 := fun i hi => (kv2 i hi).cg (fun a ha hb => m3 a (by unfold svA at hb; omega) (by unfold svA at ha; omega))
        have kq3 : S3 (q + 65) = some (kQ 6 f) := (m3 _ (by omega) (by omega)).1.trans kq2
        have k3 := g3.cg (T' := S3) (V' := V3) (fun a ha hb => ⟨n3 a (by omega), rfl⟩)
        have f3 : jNw T V X S3 V3 X3 q := fr.tr (fun a ha => ⟨(n3 a (by omega)).trans (e3 a (by omega)).1, (e3 a (by omega)).2.1, (e3 a (by omega)).2.2⟩) (Nat.le_refl q)
        refine j_aload_n dX7_init_67 rfl ?_
        refine j_new dX7_init_68 hB nw_X7_29 (by decide) (by decide) ?_
        refine j_dup dX7_init_71 rfl ?_
        refine j_cI dX7_init_72 hB mo_X4_init ml_X7_31 (sp_X4_init hB jup_eq jz_row) rfl rfl ⟨rfl, rfl, by decide, by decide⟩ (Nat.le_of_ble_eq_true rfl) ⟨by decide, by decide⟩ (fun T4 V4 X4 sz4 h4 => ?_)
        obtain ⟨sz4', g4, w4⟩ := h4
        have z4 : sz4 = q + 461 := by omega
        subst z4
        have e4 : ∀ a, a < q + 452 → T4 a = S3 a ∧ V4 a = V3 a ∧ X4.1 a = X3.1 a ∧ X4.2 a = X3.2 a := fun a ha => by
          obtain ⟨w1, w2, w3, w4⟩ := w4 a ha
          exact ⟨w1.trans (jup_ne (by omega)), w2.trans (jz_ne (by omega)), w3.trans (jz_ne (by omega)), w4⟩
        have u4 : T4 q = some (.inl (7, [.inr (some (q + 1)), .inr (some (q + 65)), .inl 0, .inl 0, .inr (some (q + 450)), .inr none, .inr none, .inr none, .inr none])) := (e4 q (by omega)).1.trans t3
        have y4 : V4 q = fun _ => 0 := (e4 q (by omega)).2.1.trans y3
        refine j_putr dX7_init_75 hB fp_X7_init_32 (Or.inl ⟨_, rfl⟩) (by first | exact u7 | exact u6 | exact u5 | exact u4 | exact u3 | exact h1) (by simp) ?_
        refine j_abT (fun S4 hT4 => ?_)
        have t4 : S4 q = some (.inl (7, [.inr (some (q + 1)), .inr (some (q + 65)), .inl 0, .inl 0, .inr (some (q + 450)), .inr (some (q + 452)), .inr none, .inr none, .inr none])) := by rw [hT4]; exact jup_eq
        have n4 : ∀ a, a ≠ q → S4 a = T4 a := fun a ha => by rw [hT4]; exact jup_ne ha
        have m4 : ∀ a, a < q + 452 → a ≠ q → S4 a = S3 a ∧ V4 a = V3 a := fun a ha hb => ⟨(n4 a hb).trans (e4 a ha).1, (e4 a ha).2.1⟩
        have ks4 := ks3.cg (T' := S4) (V' := V4) (fun a ha hb => m4 a (by omega) (by omega))
        have kv4 : ∀ i, i < 6 → StOK S4 V4 (svA q i) st0 := fun i hi => (kv3 i hi).cg (fun a ha hb => m4 a (by unfold svA at hb; omega) (by unfold svA at ha; omega))
        have kq4 : S4 (q + 65) = some (kQ 6 f) := (m4 _ (by omega) (by omega)).1.trans kq3
        have k3_4 := k3.cg (T' := S4) (V' := V4) (fun a ha hb => m4 a (by omega) (by omega))
        have k4 := g4.cg (T' := S4) (V' := V4) (fun a ha hb => ⟨n4 a (by omega), rfl⟩)
        have f4 : jNw T V X S4 V4 X4 q := f3.tr (fun a ha => ⟨(n4 a (by omega)).trans (e4 a (by omega)).1, (e4 a (by omega)).2.1, (e4 a (by omega)).2.2⟩) (Nat.le_refl q)
        refine j_aload_n dX7_init_78 rfl ?_
        refine j_new dX7_init_79 hB nw_X7_36 (by decide) (by decide) ?_
        refine j_dup dX7_init_82 rfl ?_
        refine j_cI dX7_init_83 hB mo_X6_init ml_X7_38 (sp_X6_init hB jup_eq jz_row) rfl rfl ⟨rfl, rfl, by decide, by decide⟩ (Nat.le_of_ble_eq_true rfl) ⟨by decide, by decide⟩ (fun T5 V5 X5 sz5 h5 => ?_)
        obtain ⟨sz5', g5, w5⟩ := h5
        have z5 : sz5 = q + 476 := by omega
        subst z5
        have e5 : ∀ a, a < q + 461 → T5 a = S4 a ∧ V5 a = V4 a ∧ X5.1 a = X4.1 a ∧ X5.2 a = X4.2 a := fun a ha => by
          obtain ⟨w1, w2, w3, w4⟩ := w5 a ha
          exact ⟨w1.trans (jup_ne (by omega)), w2.trans (jz_ne (by omega)), w3.trans (jz_ne (by omega)), w4⟩
        have u5 : T5 q = some (.inl (7, [.inr (some (q + 1)), .inr (some (q + 65)), .inl 0, .inl 0, .inr (some (q + 450)), .inr (some (q + 452)), .inr none, .inr none, .inr none])) := (e5 q (by omega)).1.trans t4
        have y5 : V5 q = fun _ => 0 := (e5 q (by omega)).2.1.trans y4
        refine j_putr dX7_init_86 hB fp_X7_init_39 (Or.inl ⟨_, rfl⟩) (by first | exact u7 | exact u6 | exact u5 | exact u4 | exact u3 | exact h1) (by simp) ?_
        refine j_abT (fun S5 hT5 => ?_)
        have t5 : S5 q = some (.inl (7, [.inr (some (q + 1)), .inr (some (q + 65)), .inl 0, .inl 0, .inr (some (q + 450)), .inr (some (q + 452)), .inr (some (q + 461)), .inr none, .inr none])) := by rw [hT5]; exact jup_eq
        have n5 : ∀ a, a ≠ q → S5 a = T5 a := fun a ha => by rw [hT5]; exact jup_ne ha
        have m5 : ∀ a, a < q + 461 → a ≠ q → S5 a = S4 a ∧ V5 a = V4 a := fun a ha hb => ⟨(n5 a hb).trans (e5 a ha).1, (e5 a ha).2.1⟩
        have ks5 := ks4.cg (T' := S5) (V' := V5) (fun a ha hb => m5 a (by omega) (by omega))
        have kv5 : ∀ i, i < 6 → StOK S5 V5 (svA q i) st0 := fun i hi => (kv4 i hi).cg (fun a ha hb => m5 a (by unfold svA at hb; omega) (by unfold svA at ha; omega))
        have kq5 : S5 (q + 65) = some (kQ 6 f) := (m5 _ (by omega) (by omega)).1.trans kq4
        have k3_5 := k3_4.cg (T' := S5) (V' := V5) (fun a ha hb => m5 a (by omega) (by omega))
        have k4_5 := k4.cg (T' := S5) (V' := V5) (fun a ha hb => m5 a (by omega) (by omega))
        have k5 := g5.cg (T' := S5) (V' := V5) (fun a ha hb => ⟨n5 a (by omega), rfl⟩)
        have f5 : jNw T V X S5 V5 X5 q := f4.tr (fun a ha => ⟨(n5 a (by omega)).trans (e5 a (by omega)).1, (e5 a (by omega)).2.1, (e5 a (by omega)).2.2⟩) (Nat.le_refl q)
        refine j_aload_n dX7_init_89 rfl ?_
        refine j_new dX7_init_90 hB nw_X7_36 (by decide) (by decide) ?_
        refine j_dup dX7_init_93 rfl ?_
        refine j_cI dX7_init_94 hB mo_X6_init ml_X7_38 (sp_X6_init hB jup_eq jz_row) rfl rfl ⟨rfl, rfl, by decide, by decide⟩ (Nat.le_of_ble_eq_true rfl) ⟨by decide, by decide⟩ (fun T6 V6 X6 sz6 h6 => ?_)
        obtain ⟨sz6', g6, w6⟩ := h6
        have z6 : sz6 = q + 491 := by omega
        subst z6
        have e6 : ∀ a, a < q + 476 → T6 a = S5 a ∧ V6 a = V5 a ∧ X6.1 a = X5.1 a ∧ X6.2 a = X5.2 a := fun a ha => by
          obtain ⟨w1, w2, w3, w4⟩ := w6 a ha
          exact ⟨w1.trans (jup_ne (by omega)), w2.trans (jz_ne (by omega)), w3.trans (jz_ne (by omega)), w4⟩
        have u6 : T6 q = some (.inl (7, [.inr (some (q + 1)), .inr (some (q + 65)), .inl 0, .inl 0, .inr (some (q + 450)), .inr (some (q + 452)), .inr (some (q + 461)), .inr none, .inr none])) := (e6 q (by omega)).1.trans t5
        have y6 : V6 q = fun _ => 0 := (e6 q (by omega)).2.1.trans y5
        refine j_putr dX7_init_97 hB fp_X7_init_43 (Or.inl ⟨_, rfl⟩) (by first | exact u7 | exact u6 | exact u5 | exact u4 | exact u3 | exact h1) (by simp) ?_
        refine j_abT (fun S6 hT6 => ?_)
        have t6 : S6 q = some (.inl (7, [.inr (some (q + 1)), .inr (some (q + 65)), .inl 0, .inl 0, .inr (some (q + 450)), .inr (some (q + 452)), .inr (some (q + 461)), .inr (some (q + 476)), .inr none])) := by rw [hT6]; exact jup_eq
        have n6 : ∀ a, a ≠ q → S6 a = T6 a := fun a ha => by rw [hT6]; exact jup_ne ha
        have m6 : ∀ a, a < q + 476 → a ≠ q → S6 a = S5 a ∧ V6 a = V5 a := fun a ha hb => ⟨(n6 a hb).trans (e6 a ha).1, (e6 a ha).2.1⟩
        have ks6 := ks5.cg (T' := S6) (V' := V6) (fun a ha hb => m6 a (by omega) (by omega))
        have kv6 : ∀ i, i < 6 → StOK S6 V6 (svA q i) st0 := fun i hi => (kv5 i hi).cg (fun a ha hb => m6 a (by unfold svA at hb; omega) (by unfold svA at ha; omega))
        have kq6 : S6 (q + 65) = some (kQ 6 f) := (m6 _ (by omega) (by omega)).1.trans kq5
        have k3_6 := k3_5.cg (T' := S6) (V' := V6) (fun a ha hb => m6 a (by omega) (by omega))
        have k4_6 := k4_5.cg (T' := S6) (V' := V6) (fun a ha hb => m6 a (by omega) (by omega))
        have k5_6 := k5.cg (T' := S6) (V' := V6) (fun a ha hb => m6 a (by omega) (by omega))
        have k6 := g6.cg (T' := S6) (V' := V6) (fun a ha hb => ⟨n6 a (by omega), rfl⟩)
        have f6 : jNw T V X S6 V6 X6 q := f5.tr (fun a ha => ⟨(n6 a (by omega)).trans (e6 a (by omega)).1, (e6 a (by omega)).2.1, (e6 a (by omega)).2.2⟩) (Nat.le_refl q)
        refine j_aload_n dX7_init_100 rfl ?_
        refine j_new dX7_init_101 hB nw_X7_46 (by decide) (by decide) ?_
        refine j_dup dX7_init_104 rfl ?_
        refine j_cIN dX7_init_105 hB mo_X0_init mn_X7_48 (sp_X0_init hB) rfl rfl ⟨rfl, rfl, by decide, by decide⟩ (Nat.le_of_ble_eq_true rfl) ⟨by decide, by decide⟩ (fun T7 V7 X7 sz7 h7 => ?_)
        obtain ⟨e1, e2, e3, e4⟩ := h7
        have u7 : T7 q = some (.inl (7, [.inr (some (q + 1)), .inr (some (q + 65)), .inl 0, .inl 0, .inr (some (q + 450)), .inr (some (q + 452)), .inr (some (q + 461)), .inr (some (q + 476)), .inr none])) := by rw [e1, jup_ne (by omega)]; exact t6
        have y7 : V7 q = fun _ => 0 := by rw [e2, jz_ne (by omega)]; exact y6
        refine j_putr dX7_init_108 hB fp_X7_init_49 (Or.inl ⟨_, rfl⟩) (by first | exact u7 | exact u6 | exact u5 | exact u4 | exact u3 | exact h1) (by simp) ?_
        refine j_vret dX7_init_111 rfl (by decide) (by decide) ?_
        have m7 : ∀ a, a < q + 491 → a ≠ q → (jup T7 q (.inl (7, [.inr (some (q + 1)), .inr (some (q + 65)), .inl 0, .inl 0, .inr (some (q + 450)), .inr (some (q + 452)), .inr (some (q + 461)), .inr (some (q + 476)), .inr none].set 8 (.inr (some (q + 491)))))) a = S6 a ∧ V7 a = V6 a := fun a ha hb => ⟨by rw [jup_ne hb, e1, jup_ne (by omega)], by rw [e2, jz_ne (by omega)]⟩
        refine ⟨rfl, by omega, ⟨⟨jup_eq, ⟨f, (m7 _ (by omega) (by omega)).1.trans kq6, hf6⟩, by rw [jup_ne (by omega), e1]; exact jup_eq⟩, ks6.cg (fun a ha hb => m7 a (by omega) (by omega)), fun i hi => (kv6 i hi).cg (fun a ha hb => m7 a (by unfold svA at hb; omega) (by unfold svA at ha; omega)), by rw [y7]; rfl, by rw [y7]; rfl, k3_6.1.cg (fun a ha hb => m7 a (by omega) (by omega)), ?_, k4_6.cg (fun a ha hb => m7 a (by omega) (by omega)), k5_6.cg (fun a ha hb => m7 a (by omega) (by omega)), k6.cg (fun a ha hb => m7 a (by omega) (by omega))⟩, fun a ha => ?_⟩
        · have e : Rw V7 (q + 450) = Rw V6 (q + 450) := Rw_congr (m7 _ (by omega) (by omega)).2 (m7 _ (by omega) (by omega)).2
          rw [e]; exact k3_6.2
        · obtain ⟨w1, w2, w3, w4⟩ := f6 a ha
          refine ⟨by rw [jup_ne (by omega), e1, jup_ne (by omega)]; exact w1, by rw [e2, jz_ne (by omega)]; exact w2, ?_, ?_⟩
          · rw [e3]; exact (congrFun (congrFun rfl _) _).trans ((jz_ne (by omega)).trans w3)
          · rw [e3]; exact w4
      · exact absurd c_32 (by rw [show (Int32.ofNat 6).toInt = 6 from by decide]; omega)
    | succ n ih =>
      intro k i T1 V1 X1 sz1 c1 n1 hi hk hsz _ hc1 hn1 h1 h2 ⟨f, hk3, hf⟩ hs hv9 fr
      subst hsz hc1 hn1
      refine j_iload_n dX7_init_26 rfl ?_
      refine j_aload_n dX7_init_27 rfl ?_
      refine j_getr dX7_init_28 hB fl_X7_16 (by first | exact u9 | exact h1 | exact hk3) (by rfl) ?_
      refine j_alen dX7_init_31 hB (Or.inr ⟨f, hk3⟩) ?_
      refine j_icmp_ge (tgt := 54) dX7_init_32 (by decide) (fun c_32 => ?_) (fun c_32 => ?_)
      · exact absurd c_32 (by rw [show (Int32.ofNat 6).toInt = 6 from by decide]; omega)
      · refine j_aload_n dX7_init_35 rfl ?_
        refine j_getr dX7_init_36 hB fl_X7_16 (by first | exact u9 | exact h1 | exact hk3) (by rfl) ?_
        refine j_iload_n dX7_init_39 rfl ?_
        refine j_new dX7_init_40 hB nw_X7_7 (by show 65 + 64 * k + 1 ≤ 491; omega) (by show 314 + 308 * k + 8 ≤ 2886; omega) ?_
        refine j_dup dX7_init_43 rfl ?_
        refine j_cI dX7_init_44 hB mo_X5_init ml_X7_9 (sp_X5_init hB jup_eq jz_row) rfl rfl ⟨rfl, rfl, by decide, by decide⟩ (Nat.le_of_ble_eq_true rfl) ⟨by show 65 + 64 * k + 1 + 63 ≤ 491; omega, by show 314 + 308 * k + 8 + 300 ≤ 2886; omega⟩ (fun T9 V9 X9 sz9 h9 => ?_)
        obtain ⟨sz9', g9, w9⟩ := h9
        have e9 : ∀ a, a < q + 66 + 64 * k → T9 a = T1 a ∧ V9 a = V1 a ∧ X9.1 a = X1.1 a ∧ X9.2 a = X1.2 a := fun a ha => by
          obtain ⟨w1, w2, w3, w4⟩ := w9 a ha
          exact ⟨w1.trans (jup_ne (by omega)), w2.trans (jz_ne (by omega)), w3.trans (jz_ne (by omega)), w4⟩
        have u9 : T9 q = some (.inl (7, [.inr (some (q + 1)), .inr (some (q + 65)), .inl 0, .inl 0, .inr none, .inr none, .inr none, .inr none, .inr none])) := (e9 q (by omega)).1.trans h1
        have ub : T9 (q + 66 + 64 * k) = some (kState (q + 66 + 64 * k + 1) (q + 66 + 64 * k + 20) (q + 66 + 64 * k + 39) (q + 66 + 64 * k + 58) (q + 66 + 64 * k + 60) (q + 66 + 64 * k + 62)) := g9.1
        have uq : T9 (q + 65) = some (kQ 6 f) := (e9 _ (by omega)).1.trans hk3
        refine j_aast dX7_init_47 hB uq ub (by omega) (by omega) ?_
        refine j_iinc (v := 1) (L' := [(0, _), (1, _)]) dX7_init_48 rfl (by decide) (by decide) rfl ?_
        refine j_goto (tgt := 26) dX7_init_51 (by decide) ?_
        have hi2 : i.toNatClampNeg = k := by rw [← Int32.toNat_toInt, hi]; rfl
        rw [hi2]
        refine ih (k + 1) _ _ _ _ _ _ _ ?_ (by omega) (by omega) trivial (by omega) (by show 314 + 308 * k + 8 + 300 = _; omega) ?_ ?_ ⟨va_up f k (some (q + 66 + 64 * k)), jup_eq, ?_⟩ ?_ ?_ ?_
        · rw [ti_add (by rw [ti_1]; omega) (by rw [ti_1]; omega), ti_1]; omega
        · rw [jup_ne (by omega)]; exact u9
        · exact (e9 q (by omega)).2.1.trans h2
        · intro j hj
          by_cases e : j = k
          · rw [e]; exact va_up_self _ _ _
          · rw [va_up_ne _ _ e]; exact hf j (by omega)
        · exact hs.cg (fun a ha hb => ⟨by rw [jup_ne (by omega)]; exact (e9 a (by omega)).1, (e9 a (by omega)).2.1⟩)
        · intro j hj
          by_cases e : j = k
          · rw [e]; exact g9.cg (fun a ha hb => ⟨jup_ne (by omega), rfl⟩)
          · exact (hv9 j (by omega)).cg (fun a ha hb => by
              unfold svA at ha hb
              exact ⟨by rw [jup_ne (by omega)]; exact (e9 a (by omega)).1, (e9 a (by omega)).2.1⟩)
        · exact fr.tr (fun a ha => ⟨by rw [jup_ne (by omega)]; exact (e9 a (by omega)).1, (e9 a (by omega)).2.1, (e9 a (by omega)).2.2⟩) (Nat.le_refl q)
  refine j_aload_n dX7_init_0 rfl ?_
  refine j_objInit dX7_init_1 hB ml_X7_1 oi_1 oi_2 (by decide) (Nat.le_of_ble_eq_true rfl) ?_
  refine j_aload_n dX7_init_4 rfl ?_
  refine j_new dX7_init_5 hB nw_X7_7 (by decide) (by decide) ?_
  refine j_dup dX7_init_8 rfl ?_
  refine j_cI dX7_init_9 hB mo_X5_init ml_X7_9 (sp_X5_init hB jup_eq jz_row) rfl rfl ⟨rfl, rfl, by decide, by decide⟩ (Nat.le_of_ble_eq_true rfl) ⟨by decide, by decide⟩ (fun T0 V0 X0 sz0 h0 => ?_)
  obtain ⟨sz0', g0, w0⟩ := h0
  have z0 : sz0 = q + 65 := by omega
  subst z0
  have e0 : ∀ a, a < q + 1 → T0 a = T a ∧ V0 a = V a ∧ X0.1 a = X.1 a ∧ X0.2 a = X.2 a := fun a ha => by
    obtain ⟨w1, w2, w3, w4⟩ := w0 a ha
    exact ⟨w1.trans (jup_ne (by omega)), w2.trans (jz_ne (by omega)), w3.trans (jz_ne (by omega)), w4⟩
  have u0 : T0 q = some (.inl (7, [.inr none, .inr none, .inl 0, .inl 0, .inr none, .inr none, .inr none, .inr none, .inr none])) := (e0 q (by omega)).1.trans ht
  have y0 : V0 q = fun _ => 0 := (e0 q (by omega)).2.1.trans hv
  refine j_putr dX7_init_12 hB fp_X7_init_10 (Or.inl ⟨_, rfl⟩) (by first | exact u0 | (rw [jup_ne (by omega)]; exact t0)) (by simp) ?_
  refine j_abT (fun S0 hT0 => ?_)
  have t0 : S0 q = some (.inl (7, [.inr (some (q + 1)), .inr none, .inl 0, .inl 0, .inr none, .inr none, .inr none, .inr none, .inr none])) := by rw [hT0]; exact jup_eq
  have n0 : ∀ a, a ≠ q → S0 a = T0 a := fun a ha => by rw [hT0]; exact jup_ne ha
  have m0 : ∀ a, a < q + 1 → a ≠ q → S0 a = T a ∧ V0 a = V a := fun a ha hb => ⟨(n0 a hb).trans (e0 a ha).1, (e0 a ha).2.1⟩
  have k0 := g0.cg (T' := S0) (V' := V0) (fun a ha hb => ⟨n0 a (by omega), rfl⟩)
  have f0 : jNw T V X S0 V0 X0 q := fun a ha => ⟨(n0 a (by omega)).trans (e0 a (by omega)).1, (e0 a (by omega)).2.1, (e0 a (by omega)).2.2⟩
  refine j_aload_n dX7_init_15 rfl ?_
  refine j_bipush (v := 6) dX7_init_16 (by decide) ?_
  refine j_newq2 (N := 6) dX7_init_18 hB (j_tb (List.mem_of_getElem? (i := 24) (by decide +kernel))) ao_State (by decide) (by decide) (by decide) (by decide) ?_
  refine j_putr dX7_init_21 hB fp_X7_init_16 (Or.inr ⟨_, rfl⟩) (by first | exact u0 | (rw [jup_ne (by omega)]; exact t0)) (by simp) ?_
  refine j_iconst (v := 0) dX7_init_24 (by decide) ?_
  refine j_istore_n (L' := [(0, _), (1, _)]) dX7_init_25 (by decide) rfl ?_
  refine loop 6 0 0 _ _ _ _ _ _ rfl rfl rfl trivial rfl rfl jup_eq y0 ⟨fun _ => none, by rw [jup_ne (by omega)]; exact jup_eq, fun i hi => absurd hi (by omega)⟩ (k0.cg (fun a ha hb => ⟨by rw [jup_ne (by omega), jup_ne (by omega)], rfl⟩)) (fun i hi => absurd hi (by omega)) (f0.tr (fun a ha => ⟨by rw [jup_ne (by omega), jup_ne (by omega)], rfl, rfl, rfl⟩) (Nat.le_refl q))
end JInit
