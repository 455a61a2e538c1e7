/-! CueSheets: calls that may throw; what a CueSheets is; tests of arguments, saved states -/
def qX (T : jT) (X : jX) (sz : Nat) (P : Option Value → jV → Prop) (PX : String → jV → Prop) : jQ := fun o T' V' X' sz' => T' = T ∧ X' = X ∧ ((∃ v, o = .inl v ∧ sz' = sz ∧ P v V') ∨ (∃ E, o = .inr E ∧ sz ≤ sz' ∧ PX E V'))
abbrev IO : String := "java/lang/IndexOutOfBoundsException"
abbrev IA : String := "java/lang/IllegalArgumentException"
abbrev IS : String := "java/lang/IllegalStateException"
section JThrow
variable {l : Launch} {s0 : State} {D : jD} {M : jM} {R : Room} {mc ms : Nat} {Q : jQ} {pc : Nat} {L : List (Nat × Value)} {st rest : List Value} {T : jT} {V : jV} {X : jX} {sz c n : Nat}
theorem j_tV {M2 : jM} {R2 : Room} {mc2 ms2 idx ci b na : Nat} {as : List Value} {fs : List (Nat ⊕ Option Nat)} {r : vw_C} {P : Option Value → jV → Prop} {PX : String → jV → Prop} (d : decode M.2.1 pc = .ok (.invokevirtual idx, 3)) (hB : jB l s0 D) (hm : jmV M2 na) (hlk : Cond.methodLink M.1.cls idx M2.1 ∈ lw_tbl) (sp : Sp l s0 D M2 R2 mc2 ms2 (.ref b :: as) T V X sz (qX T X sz P PX)) (ht : T b = some (.inl (ci, fs))) (hc : vwCl[ci]? = some r) (hr : r.1 = M2.1.cls) (hn : as.length = na) (hst : st = as.reverse ++ .ref b :: rest) (hrm : jrm R R2 mc2 ms2 M2.2.2.1) (hcat : (rest.map fun v => v.category).sum ≤ 8) (hf : c + mc2 ≤ R.cells ∧ n + ms2 ≤ R.slots) (hh : M.2.2.2.2 = []) (hm2 : c + mc2 ≤ mc ∧ n + ms2 ≤ ms)
    (KX : ∀ E V' sz', sz ≤ sz' → PX E V' → Q (.inr E) T V' X sz') (K : ∀ v V', P v V' → J l s0 D M R mc ms Q (pc + 3) L (v.toList ++ rest) T V' X sz (c + mc2) (n + ms2)) : J l s0 D M R mc ms Q pc L st T V X sz c n := by
  refine j_callV d hB hm hlk sp ht hc hr hn hst hrm hcat hf ?_ ?_
  · rintro v T' V' X' sz' ⟨rfl, rfl, ⟨v', h, rfl, hp⟩ | ⟨E, h, -⟩⟩
    · cases h; exact K v V' hp
    · cases h
  · rintro E T' V' X' sz' ⟨rfl, rfl, ⟨v', h, -⟩ | ⟨E', h, h2, hp⟩⟩
    · cases h
    · cases h; exact JX.out hh hm2.1 hm2.2 (KX E V' sz' h2 hp)
theorem j_tS {M2 : jM} {R2 : Room} {mc2 ms2 idx na : Nat} {as : List Value} {P : Option Value → jV → Prop} {PX : String → jV → Prop} (d : decode M.2.1 pc = .ok (.invokestatic idx, 3)) (hB : jB l s0 D) (hm : jmS M2 na) (hlk : Cond.methodLink M.1.cls idx M2.1 ∈ lw_tbl) (sp : Sp l s0 D M2 R2 mc2 ms2 as T V X sz (qX T X sz P PX)) (hn : as.length = na) (hst : st = as.reverse ++ rest) (hrm : jrm R R2 mc2 ms2 M2.2.2.1) (hcat : (rest.map fun v => v.category).sum ≤ 8) (hf : c + mc2 ≤ R.cells ∧ n + ms2 ≤ R.slots) (hh : M.2.2.2.2 = []) (hm2 : c + mc2 ≤ mc ∧ n + ms2 ≤ ms)
    (KX : ∀ E V' sz', sz ≤ sz' → PX E V' → Q (.inr E) T V' X sz') (K : ∀ v V', P v V' → J l s0 D M R mc ms Q (pc + 3) L (v.toList ++ rest) T V' X sz (c + mc2) (n + ms2)) : J l s0 D M R mc ms Q pc L st T V X sz c n := by
  refine j_callS d hB hm hlk sp hn hst hrm hcat hf ?_ ?_
  · rintro v T' V' X' sz' ⟨rfl, rfl, ⟨v', h, rfl, hp⟩ | ⟨E, h, -⟩⟩
    · cases h; exact K v V' hp
    · cases h
  · rintro E T' V' X' sz' ⟨rfl, rfl, ⟨v', h, -⟩ | ⟨E', h, h2, hp⟩⟩
    · cases h
    · cases h; exact JX.out hh hm2.1 hm2.2 (KX E V' sz' h2 hp)
end JThrow
/-- a CueSheets whose saved states stand in the list, the oldest first -/
def cuIs (T : jT) (V : jV) (q : Nat) (x : aX) : Prop := ∃ (sv : Nat → aS) (o : Nat), cuOK T V q (x.1, sv, ((o : Int), (x.2.1.length : Int)), x.2.2) ∧ o < 6 ∧ x.2.1.length ≤ 6 ∧ ∀ i : Nat, i < x.2.1.length → x.2.1[i]? = some (sv ((o + i) % 6))
section JCu
variable {T : jT} {V V' : jV} {q : Nat} {x : aX}
theorem cuIs.t0 (h : cuIs T V q x) : cuT0 T q := by obtain ⟨sv, o, h, -⟩ := h; exact h.1
theorem cuIs.k (h : cuIs T V q x) : T q = some (kCue (q + 1) (q + 65) (q + 450) (q + 452) (q + 461) (q + 476) (q + 491)) := h.t0.1
theorem cuIs.st (h : cuIs T V q x) : StOK T V (q + 1) x.1 := by obtain ⟨sv, o, h, -⟩ := h; exact h.2.1
theorem cuIs.n (h : cuIs T V q x) : (V q 3).toInt = x.2.1.length ∧ x.2.1.length ≤ 6 := by obtain ⟨sv, o, h, h2, h3, -⟩ := h; exact ⟨h.2.2.2.2.1, h3⟩
theorem cuIs.b (h : cuIs T V q x) : RowOK T V (q + 450) 60 ∧ Rw V (q + 450) = x.2.2 := by obtain ⟨sv, o, h, -⟩ := h; exact ⟨h.2.2.2.2.2.1, h.2.2.2.2.2.2.1⟩
theorem cuIs.rk (h : cuIs T V q x) : rdK T V (q + 452) := by obtain ⟨sv, o, h, -⟩ := h; exact h.2.2.2.2.2.2.2.1
theorem cuIs.tk (h : cuIs T V q x) : TmK T V (q + 461) := by obtain ⟨sv, o, h, -⟩ := h; exact h.2.2.2.2.2.2.2.2.1
theorem cuIs.tk2 (h : cuIs T V q x) : TmK T V (q + 476) := by obtain ⟨sv, o, h, -⟩ := h; exact h.2.2.2.2.2.2.2.2.2
theorem cuIs.now {s : aS} (h : cuIs T V q x) (ha : jAg V V' (q + 1) (q + 65)) (hs : StOK T V' (q + 1) s) : cuIs T V' q (s, x.2) := by
  obtain ⟨sv, o, ⟨h0, h1, h2, h3, h4, h5, h6, h7, h8, h9⟩, r⟩ := h
  exact ⟨sv, o, ⟨h0, hs, fun i hi => (h2 i hi).ag ha (by unfold svA; omega), by rw [ha q (by omega)]; exact h3, by rw [ha q (by omega)]; exact h4, h5.ag ha (by omega), by rw [Rw_ag ha (by omega)]; exact h6, h7.ag ha (by omega), h8.ag ha (by omega), h9.ag ha (by omega)⟩, r⟩
theorem cuIs.tm (h : cuIs T V q x) (ha : jAg V V' (q + 461) (q + 461 + 15)) (hk : TmK T V' (q + 461)) : cuIs T V' q x := by
  obtain ⟨sv, o, ⟨h0, h1, h2, h3, h4, h5, h6, h7, h8, h9⟩, r⟩ := h
  exact ⟨sv, o, ⟨h0, h1.ag ha (by omega), fun i hi => (h2 i hi).ag ha (by unfold svA; omega), by rw [ha q (by omega)]; exact h3, by rw [ha q (by omega)]; exact h4, h5.ag ha (by omega), by rw [Rw_ag ha (by omega)]; exact h6, h7.ag ha (by omega), hk, h9.ag ha (by omega)⟩, r⟩
theorem cuIs.tm2 (h : cuIs T V q x) (ha : jAg V V' (q + 476) (q + 476 + 15)) (hk : TmK T V' (q + 476)) : cuIs T V' q x := by
  obtain ⟨sv, o, ⟨h0, h1, h2, h3, h4, h5, h6, h7, h8, h9⟩, r⟩ := h
  exact ⟨sv, o, ⟨h0, h1.ag ha (by omega), fun i hi => (h2 i hi).ag ha (by unfold svA; omega), by rw [ha q (by omega)]; exact h3, by rw [ha q (by omega)]; exact h4, h5.ag ha (by omega), by rw [Rw_ag ha (by omega)]; exact h6, h7.ag ha (by omega), h8.ag ha (by omega), hk⟩, r⟩
theorem cuIs.ch (h : cuIs T V q x) (ha : jAg V V' (q + 491) (q + 491 + 1)) : cuIs T V' q x := by
  obtain ⟨sv, o, ⟨h0, h1, h2, h3, h4, h5, h6, h7, h8, h9⟩, r⟩ := h
  exact ⟨sv, o, ⟨h0, h1.ag ha (by omega), fun i hi => (h2 i hi).ag ha (by unfold svA; omega), by rw [ha q (by omega)]; exact h3, by rw [ha q (by omega)]; exact h4, h5.ag ha (by omega), by rw [Rw_ag ha (by omega)]; exact h6, h7.ag ha (by omega), h8.ag ha (by omega), h9.ag ha (by omega)⟩, r⟩
theorem cuIs.rd (h : cuIs T V q x) (ha : jAg V V' (q + 452) (q + 452 + 9)) (hk : rdK T V' (q + 452)) : cuIs T V' q x := by
  obtain ⟨sv, o, ⟨h0, h1, h2, h3, h4, h5, h6, h7, h8, h9⟩, r⟩ := h
  exact ⟨sv, o, ⟨h0, h1.ag ha (by omega), fun i hi => (h2 i hi).ag ha (by unfold svA; omega), by rw [ha q (by omega)]; exact h3, by rw [ha q (by omega)]; exact h4, h5.ag ha (by omega), by rw [Rw_ag ha (by omega)]; exact h6, hk, h8.ag ha (by omega), h9.ag ha (by omega)⟩, r⟩
theorem cuIs.bf {B : List Int32} (h : cuIs T V q x) (ha : jAg V V' (q + 450) (q + 450 + 2)) (hr : RowOK T V' (q + 450) 60) (hb : Rw V' (q + 450) = B) : cuIs T V' q (x.1, x.2.1, B) := by
  obtain ⟨sv, o, ⟨h0, h1, h2, h3, h4, h5, h6, h7, h8, h9⟩, r⟩ := h
  exact ⟨sv, o, ⟨h0, h1.ag ha (by omega), fun i hi => (h2 i hi).ag ha (by unfold svA; omega), by rw [ha q (by omega)]; exact h3, by rw [ha q (by omega)]; exact h4, hr, hb, h7.ag ha (by omega), h8.ag ha (by omega), h9.ag ha (by omega)⟩, r⟩
end JCu
/-- what a call answers: e: the exception's number, Es: the exceptions -/
def qC (T : jT) (V : jV) (X : jX) (sz q : Nat) (e : Nat) (Es : List String) (P : Option Value → Prop) (x x' : aX) : jQ := fun o T' V' X' sz' => T' = T ∧ X' = X ∧ jAg V V' q (q + 492) ∧ ((∃ v, o = .inl v ∧ sz' = sz ∧ e = 0 ∧ P v ∧ cuIs T V' q x') ∨ (∃ E k, o = .inr E ∧ sz ≤ sz' ∧ Es[k]? = some E ∧ e = k + 1 ∧ cuIs T V' q x))
theorem qC.ret {T : jT} {V V' : jV} {X : jX} {sz q e : Nat} {Es : List String} {P : Option Value → Prop} {x x' : aX} {v : Option Value} (he : e = 0) (hp : P v) (ha : jAg V V' q (q + 492)) (h : cuIs T V' q x') : qC T V X sz q e Es P x x' (.inl v) T V' X sz := ⟨rfl, rfl, ha, Or.inl ⟨v, rfl, rfl, he, hp, h⟩⟩
theorem qC.thr {T : jT} {V V' : jV} {X : jX} {sz sz' q e : Nat} {Es : List String} {P : Option Value → Prop} {x x' : aX} {E : String} (k : Nat) (hz : sz ≤ sz') (hE : Es[k]? = some E) (he : e = k + 1) (ha : jAg V V' q (q + 492)) (h : cuIs T V' q x) : qC T V X sz q e Es P x x' (.inr E) T V' X sz' := ⟨rfl, rfl, ha, Or.inr ⟨E, k, rfl, hz, hE, he, h⟩⟩
def pInt (z : Int) : Option Value → Prop := fun v => ∃ r : Int32, v = some (.int r) ∧ r.toInt = z
theorem ti_rem6 {x : Int32} (h0 : 0 ≤ x.toInt) (h1 : x.toInt ≤ 1000) : (x - x / 6 * 6).toInt = x.toInt % 6 := by
  have h6 : (6 : Int32).toInt = 6 := by decide
  have d := div_ti (w := x) (pa := 6) h0
  rw [h6] at d
  have m : (x / 6 * 6).toInt = x.toInt / 6 * 6 := by rw [ti_mul (by rw [d, h6]; omega) (by rw [d, h6]; omega), d, h6]
  rw [ti_sub (by rw [m]; omega) (by rw [m]; omega), m]
  omega
section JCu2
variable {l : Launch} {s0 : State} {D : jD} {T : jT} {V : jV} {X : jX} {sz : Nat}
set_option maxRecDepth 100000 in
set_option maxHeartbeats 4000000 in
theorem sp_X7_requireReel (hB : jB l s0 D) {q : Nat} {r : Int32} : Sp l s0 D kX7_requireReel (jR 6 1 6) 1 6 [.ref q, .int r] T V X sz (qX T X sz (fun v V' => v = none ∧ V = V' ∧ rOk r) (fun E V' => E = IO ∧ V = V' ∧ ¬ (rOk r))) := by
  refine Sp.of pn_X7_requireReel rfl (Nat.le_of_ble_eq_true rfl) ?_
  have h3 : (3 : Int32).toInt = 3 := by decide
  refine j_iload_n dX7_requireReel_0 rfl ?_
  refine j_if_lt (tgt := 9) dX7_requireReel_1 (by decide) (fun c_1 => ?_) (fun c_1 => ?_)
  · refine j_throwW dX7_requireReel_9 dX7_requireReel_12 dX7_requireReel_13 dX7_requireReel_16 dX7_requireReel_19 hB rfl th_X7_requireReel_9 (by decide) (Nat.le_of_ble_eq_true rfl) (by decide) (by decide) (by decide) (by decide) ?_
    exact fun sz1 hz => ⟨rfl, rfl, Or.inr ⟨_, rfl, hz, rfl, rfl, fun z => absurd z (by omega)⟩⟩
  · refine j_iload_n dX7_requireReel_4 rfl ?_
    refine j_iconst (v := 3) dX7_requireReel_5 (by decide) ?_
    refine j_icmp_lt (tgt := 20) dX7_requireReel_6 (by decide) (fun c_6 => ?_) (fun c_6 => ?_)
    · refine j_vret dX7_requireReel_20 rfl (by decide) (by decide) ?_
      exact ⟨rfl, rfl, Or.inl ⟨_, rfl, rfl, rfl, rfl, by omega⟩⟩
    · refine j_throwW dX7_requireReel_9 dX7_requireReel_12 dX7_requireReel_13 dX7_requireReel_16 dX7_requireReel_19 hB rfl th_X7_requireReel_9 (by decide) (Nat.le_of_ble_eq_true rfl) (by decide) (by decide) (by decide) (by decide) ?_
      exact fun sz1 hz => ⟨rfl, rfl, Or.inr ⟨_, rfl, hz, rfl, rfl, fun z => absurd z (by omega)⟩⟩
set_option maxRecDepth 100000 in
set_option maxHeartbeats 4000000 in
theorem sp_X7_requireRange (hB : jB l s0 D) {a lo hi : Int32} : Sp l s0 D kX7_requireRange (jR 6 1 6) 1 6 [.int a, .int lo, .int hi] T V X sz (qX T X sz (fun v V' => v = none ∧ V = V' ∧ inR a lo.toInt hi.toInt) (fun E V' => E = IA ∧ V = V' ∧ ¬ (inR a lo.toInt hi.toInt))) := by
  refine Sp.of pn_X7_requireRange rfl (Nat.le_of_ble_eq_true rfl) ?_
  refine j_iload_n dX7_requireRange_0 rfl ?_
  refine j_iload_n dX7_requireRange_1 rfl ?_
  refine j_icmp_lt (tgt := 10) dX7_requireRange_2 (by decide) (fun c_2 => ?_) (fun c_2 => ?_)
  · refine j_throwW dX7_requireRange_10 dX7_requireRange_13 dX7_requireRange_14 dX7_requireRange_17 dX7_requireRange_20 hB rfl th_X7_requireRange_10 (by decide) (Nat.le_of_ble_eq_true rfl) (by decide) (by decide) (by decide) (by decide) ?_
    exact fun sz1 hz => ⟨rfl, rfl, Or.inr ⟨_, rfl, hz, rfl, rfl, fun z => absurd z (by omega)⟩⟩
  · refine j_iload_n dX7_requireRange_5 rfl ?_
    refine j_iload_n dX7_requireRange_6 rfl ?_
    refine j_icmp_le (tgt := 21) dX7_requireRange_7 (by decide) (fun c_7 => ?_) (fun c_7 => ?_)
    · refine j_vret dX7_requireRange_21 rfl (by decide) (by decide) ?_
      exact ⟨rfl, rfl, Or.inl ⟨_, rfl, rfl, rfl, rfl, by omega⟩⟩
    · refine j_throwW dX7_requireRange_10 dX7_requireRange_13 dX7_requireRange_14 dX7_requireRange_17 dX7_requireRange_20 hB rfl th_X7_requireRange_10 (by decide) (Nat.le_of_ble_eq_true rfl) (by decide) (by decide) (by decide) (by decide) ?_
      exact fun sz1 hz => ⟨rfl, rfl, Or.inr ⟨_, rfl, hz, rfl, rfl, fun z => absurd z (by omega)⟩⟩
set_option maxRecDepth 100000 in
set_option maxHeartbeats 4000000 in
theorem sp_X7_requirePiece (hB : jB l s0 D) {q : Nat} {x : aX} {r : Int32} (h : cuIs T V q x) : Sp l s0 D kX7_requirePiece (jR 6 1 6) 1 6 [.ref q, .int r] T V X sz (qX T X sz (fun v V' => v = none ∧ V = V' ∧ pcOk x.1 r) (fun E V' => E = IO ∧ V = V' ∧ ¬ (pcOk x.1 r))) := by
  refine Sp.of pn_X7_requirePiece rfl (Nat.le_of_ble_eq_true rfl) ?_
  have hs := h.st
  refine j_aload_n dX7_requirePiece_0 rfl ?_
  refine j_getr dX7_requirePiece_1 hB fl_X7_10 (by first | exact h.k | exact hs.1) (by rfl) ?_
  refine j_iload_n dX7_requirePiece_4 rfl ?_
  refine j_cVi dX7_requirePiece_5 hB mo_X5_hasPiece ml_X7_277 (sp_X5_hasPiece hB hs) (by first | exact h.k | exact hs.1) rfl rfl rfl rfl ⟨rfl, rfl, by decide, by decide⟩ (Nat.le_of_ble_eq_true rfl) ⟨by decide, by decide⟩ (fun r_5 V_5 h_5 => ?_)
  obtain ⟨rfl, hc⟩ := h_5
  refine j_if_ne (tgt := 22) dX7_requirePiece_8 (by decide) (fun c_8 => ?_) (fun c_8 => ?_)
  · refine j_vret dX7_requirePiece_22 rfl (by decide) (by decide) ?_
    exact ⟨rfl, rfl, Or.inl ⟨_, rfl, rfl, rfl, rfl, by rcases hc with ⟨_, z⟩ | ⟨z, _⟩; (exact z); exact absurd z c_8⟩⟩
  · refine j_throwW dX7_requirePiece_11 dX7_requirePiece_14 dX7_requirePiece_15 dX7_requirePiece_18 dX7_requirePiece_21 hB rfl th_X7_requirePiece_11 (by decide) (Nat.le_of_ble_eq_true rfl) (by decide) (by decide) (by decide) (by decide) ?_
    exact fun sz1 hz => ⟨rfl, rfl, Or.inr ⟨_, rfl, hz, rfl, rfl, by rcases hc with ⟨z, _⟩ | ⟨_, z⟩; (rw [c_8] at z; exact absurd z (by decide)); exact z⟩⟩
set_option maxRecDepth 100000 in
set_option maxHeartbeats 4000000 in
theorem sp_X7_requireScene (hB : jB l s0 D) {q : Nat} {x : aX} {r i : Int32} (h : cuIs T V q x) : Sp l s0 D kX7_requireScene (jR 7 2 12) 2 12 [.ref q, .int r, .int i] T V X sz (qX T X sz (fun v V' => v = none ∧ V = V' ∧ scOk x r i) (fun E V' => E = IO ∧ V = V' ∧ ¬ (scOk x r i))) := by
  refine Sp.of pn_X7_requireScene rfl (Nat.le_of_ble_eq_true rfl) ?_
  have hs := h.st
  have hr := hs.reel r.toInt
  refine j_aload_n dX7_requireScene_0 rfl ?_
  refine j_iload_n dX7_requireScene_1 rfl ?_
  refine j_tV dX7_requireScene_2 hB mo_X7_requireReel ml_X7_53 (sp_X7_requireReel hB) (by first | exact h.k | exact hs.1 | exact hr.1) rfl rfl rfl rfl ⟨rfl, rfl, by decide, by decide⟩ (Nat.le_of_ble_eq_true rfl) ⟨by decide, by decide⟩ rfl ⟨by decide, by decide⟩ (fun E V_2 sz_2 hz hx => ⟨rfl, rfl, Or.inr ⟨E, rfl, hz, hx.1, hx.2.1, fun z => hx.2.2 z.1⟩⟩) (fun v_2 V_2 h_2 => ?_)
  obtain ⟨rfl, rfl, h_2⟩ := h_2
  refine j_iload_n dX7_requireScene_5 rfl ?_
  refine j_if_lt (tgt := 24) dX7_requireScene_6 (by decide) (fun c_6 => ?_) (fun c_6 => ?_)
  · refine j_throwW dX7_requireScene_24 dX7_requireScene_27 dX7_requireScene_28 dX7_requireScene_31 dX7_requireScene_34 hB rfl th_X7_requireScene_24 (by decide) (Nat.le_of_ble_eq_true rfl) (by decide) (by decide) (by decide) (by decide) ?_
    exact fun sz1 hz => ⟨rfl, rfl, Or.inr ⟨_, rfl, hz, rfl, rfl, fun z => absurd z.2 (by unfold xR; omega)⟩⟩
  · refine j_iload_n dX7_requireScene_9 rfl ?_
    refine j_aload_n dX7_requireScene_10 rfl ?_
    refine j_getr dX7_requireScene_11 hB fl_X7_10 (by first | exact h.k | exact hs.1 | exact hr.1) (by rfl) ?_
    refine j_iload_n dX7_requireScene_14 rfl ?_
    refine j_cVa dX7_requireScene_15 hB mo_X5_reelAt ml_X7_60 (sp_X5_reelAt hB hs) (by first | exact h.k | exact hs.1 | exact hr.1) rfl rfl rfl rfl ⟨rfl, rfl, by decide, by decide⟩ (Nat.le_of_ble_eq_true rfl) ⟨by decide, by decide⟩ (fun r_15 V_15 h_15 => ?_)
    obtain ⟨rfl, hq⟩ := h_15
    subst hq
    refine j_cVi dX7_requireScene_18 hB mo_X2_scenes ml_X7_64 (sp_X2_scenes hB hr) (by first | exact h.k | exact hs.1 | exact hr.1) rfl rfl rfl rfl ⟨rfl, rfl, by decide, by decide⟩ (Nat.le_of_ble_eq_true rfl) ⟨by decide, by decide⟩ (fun r_18 V_18 h_18 => ?_)
    obtain ⟨rfl, hn⟩ := h_18
    refine j_icmp_lt (tgt := 35) dX7_requireScene_21 (by decide) (fun c_21 => ?_) (fun c_21 => ?_)
    · refine j_vret dX7_requireScene_35 rfl (by decide) (by decide) ?_
      exact ⟨rfl, rfl, Or.inl ⟨_, rfl, rfl, rfl, rfl, h_2, by omega, by unfold xR; omega⟩⟩
    · refine j_throwW dX7_requireScene_24 dX7_requireScene_27 dX7_requireScene_28 dX7_requireScene_31 dX7_requireScene_34 hB rfl th_X7_requireScene_24 (by decide) (Nat.le_of_ble_eq_true rfl) (by decide) (by decide) (by decide) (by decide) ?_
      exact fun sz1 hz => ⟨rfl, rfl, Or.inr ⟨_, rfl, hz, rfl, rfl, fun z => absurd z.2 (by unfold xR; omega)⟩⟩
set_option maxRecDepth 100000 in
set_option maxHeartbeats 4000000 in
theorem sp_X7_savedAt (hB : jB l s0 D) {q o k : Nat} {i : Int32} (h : cuT0 T q) (ho : (V q 2).toInt = o) (o6 : o < 6) (hi : i.toInt = k) (k6 : k ≤ 6) : Sp l s0 D kX7_savedAt (jR 0 0 0) 0 0 [.ref q, .int i] T V X sz (qA T X sz (fun r V' => V = V' ∧ r = some (svA q ((o + k) % 6)))) := by
  refine Sp.of pn_X7_savedAt rfl (Nat.le_of_ble_eq_true rfl) ?_
  obtain ⟨h1, ⟨f, h2, h3⟩, h4⟩ := h
  have t1 : (V q 2 + i).toInt = o + k := by rw [ti_add (by omega) (by omega), ho, hi]
  have t2 := ti_rem6 (x := V q 2 + i) (by omega) (by omega)
  rw [t1] at t2
  have e6 : (Int32.ofNat 6).toInt = 6 := by decide
  refine j_aload_n dX7_savedAt_0 rfl ?_
  refine j_geti dX7_savedAt_1 hB fl_X7_284 (by first | exact h1 | exact h2) (by rfl) ?_
  refine j_iload_n dX7_savedAt_4 rfl ?_
  refine j_iadd dX7_savedAt_5 ?_
  refine j_bipush (v := 6) dX7_savedAt_6 (by decide) ?_
  refine j_irem dX7_savedAt_8 (by decide) ?_
  refine j_topi (fun b2 e2 => ?_)
  rw [← e2] at t2
  have hb : b2.toNatClampNeg = (o + k) % 6 := by rw [← Int32.toNat_toInt]; omega
  refine j_istore_n (L' := [(0, _), (1, _), (2, _)]) dX7_savedAt_9 (by decide) rfl ?_
  refine j_iload_n dX7_savedAt_10 rfl ?_
  refine j_if_lt (tgt := 32) dX7_savedAt_11 (by decide) (fun c_11 => ?_) (fun c_11 => ?_)
  · exact absurd c_11 (by omega)
  · refine j_iload_n dX7_savedAt_14 rfl ?_
    refine j_aload_n dX7_savedAt_15 rfl ?_
    refine j_getr dX7_savedAt_16 hB fl_X7_16 (by first | exact h1 | exact h2) (by rfl) ?_
    refine j_alen dX7_savedAt_19 hB (Or.inr ⟨f, h2⟩) ?_
    refine j_icmp_ge (tgt := 32) dX7_savedAt_20 (by decide) (fun c_20 => ?_) (fun c_20 => ?_)
    · exact absurd c_20 (by omega)
    · refine j_aload_n dX7_savedAt_23 rfl ?_
      refine j_getr dX7_savedAt_24 hB fl_X7_16 (by first | exact h1 | exact h2) (by rfl) ?_
      refine j_iload_n dX7_savedAt_27 rfl ?_
      refine j_aald dX7_savedAt_28 hB (by first | exact h1 | exact h2) (by omega) (by omega) ?_
      rw [hb, h3 _ (by omega)]
      refine j_goto (tgt := 33) dX7_savedAt_29 (by decide) ?_
      refine j_aret (r := some (svA q ((o + k) % 6))) dX7_savedAt_33 rfl (Or.inl ⟨_, rfl⟩) (by decide) (by decide) ?_
      exact ⟨_, rfl, rfl, rfl, rfl, rfl, rfl⟩
set_option maxRecDepth 100000 in
set_option maxHeartbeats 4000000 in
theorem sp_X7_save (hB : jB l s0 D) {q : Nat} {x : aX} (h : cuIs T V q x) : Sp l s0 D kX7_save (jR 5 0 0) 0 0 [.ref q] T V X sz (qU T X sz (fun V' => cuIs T V' q (xNow x x.1) ∧ jAg V V' q (q + 450))) := by
  refine Sp.of pn_X7_save rfl (Nat.le_of_ble_eq_true rfl) ?_
  obtain ⟨sv, o, ⟨h0, h1, h2, h3, h4, h5, h6, h7, h8, h9⟩, o6, n6, hU⟩ := h
  have h6' : (6 : Int32).toInt = 6 := by decide
  have h5' : (5 : Int32).toInt = 5 := by decide
  have h3 : (V q 2).toInt = o := h3
  have h4 : (V q 3).toInt = x.2.1.length := h4
  have fin : ∀ (V1 : jV) (o1 k1 : Nat) (i1 : Int32), jAg V V1 q (q + 1) → (V1 q 2).toInt = o1 → o1 < 6 → (V1 q 3).toInt = k1 → k1 < 6 → i1.toInt = k1 → xPush x = (x.2.1.drop (x.2.1.length - k1)) ++ [x.1] → k1 ≤ x.2.1.length → (∀ i : Nat, i < k1 → x.2.1[x.2.1.length - k1 + i]? = some (sv ((o1 + i) % 6))) →
      J l s0 D kX7_save (jR 5 0 0) 0 0 (qU T X sz (fun V' => cuIs T V' q (xNow x x.1) ∧ jAg V V' q (q + 450))) 32 [(0, .ref q)] [.int i1, .ref q] T V1 X sz 0 0 := by
    intro V1 o1 k1 i1 ha ho ho6 hk hk6 hi hP hkl hUU
    have hj : (o1 + k1) % 6 < 6 := Nat.mod_lt _ (by decide)
    refine j_cVa dX7_save_32 hB mo_X7_savedAt ml_X7_204 (sp_X7_savedAt hB h0 ho ho6 hi (by omega)) (by first | exact h0.1 | exact (hsv _ hj).1) rfl rfl rfl rfl ⟨rfl, rfl, by decide, by decide⟩ (Nat.le_of_ble_eq_true rfl) ⟨by decide, by decide⟩ (fun r_32 V_32 h_32 => ?_)
    obtain ⟨rfl, hq⟩ := h_32
    subst hq
    have hsv : ∀ i, i < 6 → StOK T V1 (svA q i) (sv i) := fun i hi => (h2 i hi).ag ha (by unfold svA; omega)
    have hs1 : StOK T V1 (q + 1) x.1 := h1.ag ha (by omega)
    refine j_astore_n (L' := [(0, _), (1, _)]) dX7_save_35 (by decide) rfl ?_
    refine j_aload_n dX7_save_36 rfl ?_
    refine j_ifnull dX7_save_37 ?_
    refine j_aload_n dX7_save_40 rfl ?_
    refine j_aload_n dX7_save_41 rfl ?_
    refine j_getr dX7_save_42 hB fl_X7_10 (by first | exact h0.1 | exact (hsv _ hj).1) (by rfl) ?_
    refine j_cVu dX7_save_45 hB mo_X5_takeFrom ml_X7_208 (sp_X5_takeFrom hB (hsv _ hj) hs1 (by unfold svA; omega)) (by first | exact h0.1 | exact (hsv _ hj).1) rfl rfl rfl rfl ⟨rfl, rfl, by decide, by decide⟩ (Nat.le_of_ble_eq_true rfl) ⟨by decide, by decide⟩ (fun V_45 h_45 => ?_)
    obtain ⟨g, a⟩ := h_45
    have a : jAg V1 V_45 (svA q ((o1 + k1) % 6)) (svA q ((o1 + k1) % 6) + 64) := a
    have hk2 : (V_45 q 3 + 1).toInt = k1 + 1 := by rw [a q (by unfold svA; omega), ti_add (by rw [ti_1]; omega) (by rw [ti_1]; omega), ti_1, hk]
    refine j_aload_n dX7_save_48 rfl ?_
    refine j_dup dX7_save_49 rfl ?_
    refine j_geti dX7_save_50 hB fl_X7_199 (by first | exact h0.1 | exact (hsv _ hj).1) (by rfl) ?_
    refine j_iconst (v := 1) dX7_save_53 (by decide) ?_
    refine j_iadd dX7_save_54 ?_
    refine j_puti dX7_save_55 hB fp_X7_save_199 (by first | exact h0.1 | exact (hsv _ hj).1) (by rfl) ?_
    refine j_vret dX7_save_58 rfl (by decide) (by decide) ?_
    have w : jAg V_45 (jset V_45 q 3 (V_45 q 3 + 1)) q (q + 1) := jAg.f1
    have hal : jAg V (jset V_45 q 3 (V_45 q 3 + 1)) q (q + 450) := ((ha.wide (Nat.le_refl _) (by omega)).tr (a.wide (by unfold svA; omega) (by unfold svA; omega))).tr (w.wide (Nat.le_refl _) (by omega))
    have hlen : (xPush x).length = k1 + 1 := by rw [hP, List.length_append, List.length_drop]; show _ + 1 = _; omega
    refine ⟨rfl, rfl, rfl, rfl, ⟨fun i => if i = (o1 + k1) % 6 then x.1 else sv i, o1, ⟨h0, (hs1.ag a (by unfold svA; omega)).ag w (by omega), ?_, ?_, ?_, h5.ag hal (by omega), by rw [Rw_ag hal (by omega)]; exact h6, h7.ag hal (by omega), h8.ag hal (by omega), h9.ag hal (by omega)⟩, ho6, ?_, ?_⟩, hal⟩
    · intro i hi
      by_cases e : i = (o1 + k1) % 6
      · rw [e]
        show StOK T _ (svA q ((o1 + k1) % 6)) (if _ then _ else _)
        rw [if_pos rfl]
        exact g.ag w (by unfold svA; omega)
      · show StOK T _ (svA q i) (if _ then _ else _)
        rw [if_neg e]
        exact ((hsv i hi).ag a (by unfold svA; omega)).ag w (by unfold svA; omega)
    · show (jset V_45 q 3 (V_45 q 3 + 1) q 2).toInt = o1
      rw [jset_ne (Or.inr (by decide)), a q (by unfold svA; omega)]; exact ho
    · show (jset V_45 q 3 (V_45 q 3 + 1) q 3).toInt = ((xPush x).length : Int)
      rw [jset_eq, hk2, hlen]; rfl
    · show (xPush x).length ≤ 6
      omega
    · intro i hi
      show (xPush x)[i]? = some (if _ then _ else _)
      have hi : i < (xPush x).length := hi
      rw [hlen] at hi
      by_cases e : i = k1
      · subst e
        rw [if_pos rfl, hP, List.getElem?_append_right (by rw [List.length_drop]; omega), List.length_drop, show i - (x.2.1.length - (x.2.1.length - i)) = 0 by omega]
        rfl
      · rw [if_neg (by omega), hP, List.getElem?_append_left (by rw [List.length_drop]; omega), List.getElem?_drop]
        exact hUU i (by omega)
  refine j_aload_n dX7_save_0 rfl ?_
  refine j_geti dX7_save_1 hB fl_X7_199 (by exact h0.1) (by rfl) ?_
  refine j_bipush (v := 6) dX7_save_4 (by decide) ?_
  refine j_icmp_lt (tgt := 27) dX7_save_6 (by decide) (fun c_6 => ?_) (fun c_6 => ?_)
  · refine j_aload_n dX7_save_27 rfl ?_
    refine j_aload_n dX7_save_28 rfl ?_
    refine j_geti dX7_save_29 hB fl_X7_199 (by exact h0.1) (by rfl) ?_
    refine fin V o x.2.1.length _ jAg.rf h3 o6 h4 (by omega) h4 ?_ (Nat.le_refl _) ?_
    · unfold xPush
      rw [if_neg (by omega), Nat.sub_self]; rfl
    · intro i hi
      rw [Nat.sub_self, Nat.zero_add]; exact hU i hi
  · refine j_aload_n dX7_save_9 rfl ?_
    refine j_aload_n dX7_save_10 rfl ?_
    refine j_geti dX7_save_11 hB fl_X7_284 (by exact h0.1) (by rfl) ?_
    refine j_iconst (v := 1) dX7_save_14 (by decide) ?_
    refine j_iadd dX7_save_15 ?_
    refine j_bipush (v := 6) dX7_save_16 (by decide) ?_
    refine j_irem dX7_save_18 (by decide) ?_
    refine j_topi (fun o9 e9 => ?_)
    have t9 : o9.toInt = ((o : Int) + 1) % 6 := by rw [e9, ti_rem6 (by rw [ti_add (by rw [ti_1]; omega) (by rw [ti_1]; omega), ti_1]; omega) (by rw [ti_add (by rw [ti_1]; omega) (by rw [ti_1]; omega), ti_1]; omega), ti_add (by rw [ti_1]; omega) (by rw [ti_1]; omega), ti_1, h3]
    refine j_puti dX7_save_19 hB fp_X7_save_284 (by exact h0.1) (by rfl) ?_
    refine j_aload_n dX7_save_22 rfl ?_
    refine j_iconst (v := 5) dX7_save_23 (by decide) ?_
    refine j_puti dX7_save_24 hB fp_X7_save_199 (by exact h0.1) (by rfl) ?_
    refine j_aload_n dX7_save_27 rfl ?_
    refine j_aload_n dX7_save_28 rfl ?_
    refine j_geti dX7_save_29 hB fl_X7_199 (by exact h0.1) (by rfl) ?_
    have hl : x.2.1.length = 6 := by omega
    refine fin _ ((o + 1) % 6) 5 _ ((jAg.rf.set (Nat.le_refl q) (Nat.lt_succ_self q)).set (Nat.le_refl q) (Nat.lt_succ_self q)) ?_ (Nat.mod_lt _ (by decide)) ?_ (by decide) ?_ ?_ (by omega) ?_
    · rw [jset_ne (Or.inr (by decide)), jset_eq, t9]; omega
    · rw [jset_eq]; rfl
    · rw [jset_eq]; rfl
    · unfold xPush
      rw [if_pos (by omega), hl]
      exact congrArg (· ++ [x.1]) (List.drop_one).symm
    · intro i hi
      rw [hl, show 6 - 5 + i = i + 1 by omega, hU (i + 1) (by omega)]
      exact congrArg (fun z => some (sv z)) (by omega)
end JCu2
