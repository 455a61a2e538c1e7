/-! THE ROWS: calls, throws, what is made -/
section JG
variable {l : Launch} {s0 : State} {D : jD} {M : jM} {R : Room} {mc ms : Nat} {Q : jQ} {pc : Nat} {L : List (Nat × Value)} {st rest : List Value} {T : jT} {V : jV} {X : jX} {sz c n : Nat}
/-- what the tables say of a method that is called by its object -/
def jmV (M2 : jM) (na : Nat) : Prop := M2.2.2.2.2 = [] ∧ Cond.code M2.1 M2.2.1 M2.2.2.1 M2.2.2.2.1 ∈ lw_tbl ∧ Cond.instanceMethod M2.1 ∈ lw_tbl ∧ Cond.selects M2.1.cls M2.1 M2.1 ∈ lw_tbl ∧ Cond.initialized M2.1.cls ∈ lw_tbl ∧ (M2.1.cls ≠ "java/lang/invoke/MethodHandle" ∧ M2.1.cls ≠ "java/lang/invoke/VarHandle") ∧ (parseMethodDescriptor M2.1.desc).map (fun d => d.parameters.length) = some na
/-- .. statically -/
def jmS (M2 : jM) (na : Nat) : Prop := M2.2.2.2.2 = [] ∧ Cond.code M2.1 M2.2.1 M2.2.2.1 M2.2.2.2.1 ∈ lw_tbl ∧ Cond.static M2.1 ∈ lw_tbl ∧ Cond.initialized M2.1.cls ∈ lw_tbl ∧ (M2.1.cls ≠ "java/lang/invoke/MethodHandle" ∧ M2.1.cls ≠ "java/lang/invoke/VarHandle") ∧ (parseMethodDescriptor M2.1.desc).map (fun d => d.parameters.length) = some na
/-- .. statically, with a table of handlers -/
def jmH (M2 : jM) (na : Nat) : Prop := Cond.codeWith M2.1 M2.2.1 M2.2.2.1 M2.2.2.2.1 M2.2.2.2.2 ∈ lw_tbl ∧ Cond.static M2.1 ∈ lw_tbl ∧ Cond.initialized M2.1.cls ∈ lw_tbl ∧ (M2.1.cls ≠ "java/lang/invoke/MethodHandle" ∧ M2.1.cls ≠ "java/lang/invoke/VarHandle") ∧ (parseMethodDescriptor M2.1.desc).map (fun d => d.parameters.length) = some na
/-- .. a constructor -/
def jmI (M2 : jM) (na : Nat) : Prop := M2.2.2.2.2 = [] ∧ Cond.code M2.1 M2.2.1 M2.2.2.1 none ∈ lw_tbl ∧ M2.2.2.2.1 = none ∧ M2.1.name = "<init>" ∧ Cond.instanceMethod M2.1 ∈ lw_tbl ∧ Cond.initialized M2.1.cls ∈ lw_tbl ∧ (M2.1.cls ≠ "java/lang/invoke/MethodHandle" ∧ M2.1.cls ≠ "java/lang/invoke/VarHandle") ∧ (parseMethodDescriptor M2.1.desc).map (fun d => d.parameters.length) = some na
/-- the room that a call asks -/
def jrm (R R2 : Room) (mc2 ms2 nL : Nat) : Prop := R2.cells = mc2 ∧ R2.slots = ms2 ∧ R2.frames + 1 ≤ R.frames ∧ 8 + (nL + 11) + R2.locals ≤ R.locals
theorem jlen {y : MethodName} {na : Nat} (h : (parseMethodDescriptor y.desc).map (fun d => d.parameters.length) = some na) : ∀ sig, parseMethodDescriptor y.desc = some sig → na = sig.parameters.length := by
  intro sig h9
  rw [h9] at h
  exact (Option.some.inj h).symm
theorem j_size {s : State} {T : State} {p : Program} {e : Env} {m : MethodId} {args : Array Value} {below : List Frame} {meth : Method} {cd : Code} {locs : List Loc} (X : Stand p l e R s m args below meth cd T locs c n) : s.heap.size ≤ T.heap.size := X.same.2.1
/-- behind a call that returns or throws -/
theorem j_run {p : Program} {e : Env} {s : State} {m : MethodId} {args : Array Value} {below : List Frame} {meth : Method} {cd : Code} {H : Heap} {locs : List Loc} {ls : Array Slot} {a : Array Value} {mc2 ms2 : Nat} {Q2 : jQ} (hC : jC s0 M p e s m args meth cd) (hH : jH s0 D s T V X sz H locs) (hl : lv_has ls M.2.2.1 L)
    (hr : vx_Run p l e R s m args below meth cd H locs c n mc2 ms2 (F0 m pc ls st) rest (jQc s0 D Q2 a) (jXC s0 D Q2) (jA s0))
    (K : ∀ v T' V' X' sz', Q2 (.inl v) T' V' X' sz' → J l s0 D M R mc ms Q (pc + 3) L (v.toList ++ rest) T' V' X' sz' (c + mc2) (n + ms2))
    (KX : ∀ E T' V' X' sz', Q2 (.inr E) T' V' X' sz' → JX l s0 D M R mc ms Q pc L E T' V' X' sz' (c + mc2) (n + ms2)) :
    W p l e R s m args below meth cd H locs c n (vx_MQ below (jQc s0 D Q) (jXC s0 D Q) args s mc ms (jA s0)) (F0 m pc ls st) := by
  intro T0 hT0 X0
  have hz : ∀ (T' t : State) (L' : List Loc) (T2 : jT) (V2 : jV) (X2 : jX) (sz2 : Nat), Stand p l e R s m args below meth cd T' (locs ++ L') (c + mc2) (n + ms2) → (∀ q ∈ L', jA s0 q.base) → T'.heap = t.heap → jWd s0 D T2 V2 X2 sz2 t → jH s0 D s T2 V2 X2 sz2 T'.heap (locs ++ L') := by
    intro T' t L' T2 V2 X2 sz2 X' hL e1 hw
    obtain ⟨w1, w2, w3, w4⟩ := hw
    rw [← e1] at w1 w2 w3 w4
    refine ⟨hH.1, j_size X', hH.2.2.1, w2, w3, w4, fun z hz => ?_⟩
    rcases List.mem_append.mp hz with h | h
    · exact hH.2.2.2.2.2.2 z h
    · exact hL z h
  rcases hr T0 hT0 X0 with ⟨v, st₀, t, T', L', h0, X', hL, e1, e2, ⟨v', T2, V2, X2, sz2, hv, hq, hw⟩, stp⟩ | ⟨q, st₀, t, T', L', E, ce, h0, X', hL, e1, e2, ⟨T2, V2, X2, sz2, hq, hw⟩, hce, hcv, hcl, stp⟩
  · cases hv
    obtain ⟨t2, a1, b1⟩ := K v T2 V2 X2 sz2 hq p e s m args below meth cd T'.heap (locs ++ L') ls hC (hz T' t L' T2 V2 X2 sz2 X' hL e1 hw) hl T' rfl X'
    exact ⟨t2, stp t2 a1, b1⟩
  · obtain ⟨t2, a1, b1⟩ := KX E T2 V2 X2 sz2 hq p e s m args below meth cd T'.heap (locs ++ L') ls rest q ce hC (hz T' t L' T2 V2 X2 sz2 X' hL e1 hw) hl (by rw [e1]; exact hce) hcv hcl T' rfl X'
    exact ⟨t2, stp.trans a1, b1⟩
/-- not caught in a method without a table -/
theorem JX.out {E : String} (hh : M.2.2.2.2 = []) (hc : c ≤ mc) (hn : n ≤ ms) (hq : Q (.inr E) T V X sz) : JX l s0 D M R mc ms Q pc L E T V X sz c n := by
  intro p e s m args below meth cd H locs ls rest q ce hC hH hl hce hcv hcl
  have ht : cd.exceptionTable.toList = tableOf M.2.2.2.2 := hC.2.2.2.2.2.2.2.2
  exact vx_out (fun x hx => by rw [ht, hh] at hx; cases hx) hC.2.2.2.2.2.1 hce hcv hcl (fun t ht _ => ⟨T, V, X, sz, hq, hH.wd ht⟩) hH.2.2.2.2.2.2 hc hn
/-- a receiver -/
theorem j_recv {s : State} {H : Heap} {locs : List Loc} {b ci : Nat} {fs : List (Nat ⊕ Option Nat)} {r : vw_C} (hB : jB l s0 D) (hW : s0.WarmedH s.vm) (hH : jH s0 D s T V X sz H locs) (ht : T b = some (.inl (ci, fs))) (hc : vwCl[ci]? = some r) : ∃ cell : Cell, H[b]? = some cell ∧ cell.vm.isStatics = false ∧ s.vm.findClass r.1 = some cell.cls := by
  have hK := va_K.moved (hW.alike) hB.2.2.1
  obtain ⟨r', h1, cell, g1, g2, g3, -⟩ := (hH.2.2.2.2.1 b _ ht).2
  cases h1.symm.trans hc
  exact ⟨cell, g1, by rw [g3]; rfl, by rw [g2]; exact (hK.1 ci r hc).2.1⟩
/-- a method is called on its object -/
theorem j_callV {M2 : jM} {R2 : Room} {mc2 ms2 idx ci b na : Nat} {as : List Value} {fs : List (Nat ⊕ Option Nat)} {r : vw_C} {Q2 : jQ} (d : decode M.2.1 pc = .ok (.invokevirtual idx, 3)) (hB : jB l s0 D) (hm : jmV M2 na) (hlk : Cond.methodLink M.1.cls idx M2.1 ∈ lw_tbl) (sp : Sp l s0 D M2 R2 mc2 ms2 (.ref b :: as) T V X sz Q2) (ht : T b = some (.inl (ci, fs))) (hc : vwCl[ci]? = some r) (hr : r.1 = M2.1.cls) (hn : as.length = na) (hst : st = as.reverse ++ .ref b :: rest) (hrm : jrm R R2 mc2 ms2 M2.2.2.1) (hcat : (rest.map fun v => v.category).sum ≤ 8) (hf : c + mc2 ≤ R.cells ∧ n + ms2 ≤ R.slots)
    (K : ∀ v T' V' X' sz', Q2 (.inl v) T' V' X' sz' → J l s0 D M R mc ms Q (pc + 3) L (v.toList ++ rest) T' V' X' sz' (c + mc2) (n + ms2))
    (KX : ∀ E T' V' X' sz', Q2 (.inr E) T' V' X' sz' → JX l s0 D M R mc ms Q pc L E T' V' X' sz' (c + mc2) (n + ms2)) : J l s0 D M R mc ms Q pc L st T V X sz c n := by
  intro p e s m args below meth cd H locs ls hC hH hl
  have hW := hC.2.2.2.2.2.2.1
  obtain ⟨m1, m2, m3, m4, m5, m6, m7⟩ := hm
  have hs : ∀ U : State, s.WarmedH U.vm → s0.WarmedH U.vm := fun U h => State.WarmedH.trans hW h
  have hcall : vx_Run p l e R s m args below meth cd H locs c n mc2 ms2 (F0 m pc ls st) rest (jQc s0 D Q2 (Value.ref b :: as).toArray) (jXC s0 D Q2) (jA s0) :=
    vx_runV (As := as) (b := b) (C := M2.1.cls) (Ts := []) (own := M.1.cls) (cc := M.2.1) (nL := M.2.2.1) ⟨hC.1, hC.2.1, hC.2.2.1, hC.2.2.2.2.1, fun w hw => by cases hw⟩ sp
      ⟨⟨hrm.1, hrm.2.1, hrm.2.2.1, hrm.2.2.2, fun w hw a' U hU => by
        rw [List.mem_singleton.mp hw]; exact hB.word (hs U hU) m2 rfl a', List.mem_singleton.mpr rfl, hB.word hW m2 rfl args, hB.word hW m5 rfl args, m6, jlen m7, hB.word hW hlk rfl args⟩, hB.word hW m3 rfl args, hB.word hW m4 rfl args⟩
      ⟨fun _ _ _ _ q => q, by rw [← hr]; exact j_recv hB hW hH ht hc, fun U hU hWU => ⟨rfl, hs U hWU, hH.wd hU⟩⟩ rfl hn hl.1 hst (lv_room hcat) d hf
  exact j_run hC hH hl hcall K KX
theorem j_callS {M2 : jM} {R2 : Room} {mc2 ms2 idx na : Nat} {as : List Value} {Q2 : jQ} (d : decode M.2.1 pc = .ok (.invokestatic idx, 3)) (hB : jB l s0 D) (hm : jmS M2 na) (hlk : Cond.methodLink M.1.cls idx M2.1 ∈ lw_tbl) (sp : Sp l s0 D M2 R2 mc2 ms2 as T V X sz Q2) (hn : as.length = na) (hst : st = as.reverse ++ rest) (hrm : jrm R R2 mc2 ms2 M2.2.2.1) (hcat : (rest.map fun v => v.category).sum ≤ 8) (hf : c + mc2 ≤ R.cells ∧ n + ms2 ≤ R.slots)
    (K : ∀ v T' V' X' sz', Q2 (.inl v) T' V' X' sz' → J l s0 D M R mc ms Q (pc + 3) L (v.toList ++ rest) T' V' X' sz' (c + mc2) (n + ms2))
    (KX : ∀ E T' V' X' sz', Q2 (.inr E) T' V' X' sz' → JX l s0 D M R mc ms Q pc L E T' V' X' sz' (c + mc2) (n + ms2)) : J l s0 D M R mc ms Q pc L st T V X sz c n := by
  intro p e s m args below meth cd H locs ls hC hH hl
  have hW := hC.2.2.2.2.2.2.1
  obtain ⟨m1, m2, m3, m5, m6, m7⟩ := hm
  have hs : ∀ U : State, s.WarmedH U.vm → s0.WarmedH U.vm := fun U h => State.WarmedH.trans hW h
  have hcall : vx_Run p l e R s m args below meth cd H locs c n mc2 ms2 (F0 m pc ls st) rest (jQc s0 D Q2 as.toArray) (jXC s0 D Q2) (jA s0) :=
    vx_runS (As := as) (Ts := []) (own := M.1.cls) (cc := M.2.1) (nL := M.2.2.1) ⟨hC.1, hC.2.1, hC.2.2.1, hC.2.2.2.2.1, fun w hw => by cases hw⟩ sp
      ⟨⟨hrm.1, hrm.2.1, hrm.2.2.1, hrm.2.2.2, fun w hw a' U hU => by
        rw [List.mem_singleton.mp hw]; exact hB.word (hs U hU) m2 rfl a', List.mem_singleton.mpr rfl, hB.word hW m2 rfl args, hB.word hW m5 rfl args, m6, jlen m7, hB.word hW hlk rfl args⟩, hB.word hW m3 rfl args⟩
      ⟨fun _ _ _ _ q => q, fun U hU hWU => ⟨rfl, hs U hWU, hH.wd hU⟩⟩ rfl hn hl.1 hst (lv_room hcat) d hf
  exact j_run hC hH hl hcall K KX
/-- .. that has a table of handlers -/
theorem j_callH {M2 : jM} {R2 : Room} {mc2 ms2 idx na : Nat} {as : List Value} {Q2 : jQ} (d : decode M.2.1 pc = .ok (.invokestatic idx, 3)) (hB : jB l s0 D) (hm : jmH M2 na) (hlk : Cond.methodLink M.1.cls idx M2.1 ∈ lw_tbl) (sp : SpH l s0 D M2 R2 mc2 ms2 as T V X sz Q2) (hn : as.length = na) (hst : st = as.reverse ++ rest) (hrm : jrm R R2 mc2 ms2 M2.2.2.1) (hcat : (rest.map fun v => v.category).sum ≤ 8) (hf : c + mc2 ≤ R.cells ∧ n + ms2 ≤ R.slots)
    (K : ∀ v T' V' X' sz', Q2 (.inl v) T' V' X' sz' → J l s0 D M R mc ms Q (pc + 3) L (v.toList ++ rest) T' V' X' sz' (c + mc2) (n + ms2))
    (KX : ∀ E T' V' X' sz', Q2 (.inr E) T' V' X' sz' → JX l s0 D M R mc ms Q pc L E T' V' X' sz' (c + mc2) (n + ms2)) : J l s0 D M R mc ms Q pc L st T V X sz c n := by
  intro p e s m args below meth cd H locs ls hC hH hl
  have hW := hC.2.2.2.2.2.2.1
  obtain ⟨m2, m3, m5, m6, m7⟩ := hm
  have hs : ∀ U : State, s.WarmedH U.vm → s0.WarmedH U.vm := fun U h => State.WarmedH.trans hW h
  have hcall : vx_Run p l e R s m args below meth cd H locs c n mc2 ms2 (F0 m pc ls st) rest (jQc s0 D Q2 as.toArray) (jXC s0 D Q2) (jA s0) :=
    vx_runSX (hh := M2.2.2.2.2) (bytes := M2.2.1) (maxL := M2.2.2.1) (ret := M2.2.2.2.1) (As := as) (Ts := []) (own := M.1.cls) (cc := M.2.1) (nL := M.2.2.1) ⟨hC.1, hC.2.1, hC.2.2.1, hC.2.2.2.2.1, fun w hw => by cases hw⟩ sp
      ⟨⟨hrm.1, hrm.2.1, hrm.2.2.1, hrm.2.2.2, fun w hw a' U hU => by
        rw [List.mem_singleton.mp hw]; exact hB.word (hs U hU) m2 rfl a', List.mem_singleton.mpr rfl⟩, hB.word hW m2 rfl args, hB.word hW m5 rfl args, m6, jlen m7, hB.word hW hlk rfl args, hB.word hW m3 rfl args⟩
      ⟨fun _ _ _ _ q => q, fun U hU hWU => ⟨rfl, hs U hWU, hH.wd hU⟩⟩ rfl hn hl.1 hst (lv_room hcat) d hf
  exact j_run hC hH hl hcall K KX
/-- a constructor -/
theorem j_callI {M2 : jM} {R2 : Room} {mc2 ms2 idx b na : Nat} {as : List Value} {Q2 : jQ} (d : decode M.2.1 pc = .ok (.invokespecial idx, 3)) (hB : jB l s0 D) (hm : jmI M2 na) (hlk : Cond.methodLink M.1.cls idx M2.1 ∈ lw_tbl) (sp : Sp l s0 D M2 R2 mc2 ms2 (.ref b :: as) T V X sz Q2) (hn : as.length = na) (hst : st = as.reverse ++ .ref b :: rest) (hrm : jrm R R2 mc2 ms2 M2.2.2.1) (hcat : (rest.map fun v => v.category).sum ≤ 8) (hf : c + mc2 ≤ R.cells ∧ n + ms2 ≤ R.slots)
    (K : ∀ v T' V' X' sz', Q2 (.inl v) T' V' X' sz' → J l s0 D M R mc ms Q (pc + 3) L (v.toList ++ rest) T' V' X' sz' (c + mc2) (n + ms2))
    (KX : ∀ E T' V' X' sz', Q2 (.inr E) T' V' X' sz' → JX l s0 D M R mc ms Q pc L E T' V' X' sz' (c + mc2) (n + ms2)) : J l s0 D M R mc ms Q pc L st T V X sz c n := by
  intro p e s m args below meth cd H locs ls hC hH hl
  have hW := hC.2.2.2.2.2.2.1
  obtain ⟨m1, m2, mr, mi, m3, m5, m6, m7⟩ := hm
  have hs : ∀ U : State, s.WarmedH U.vm → s0.WarmedH U.vm := fun U h => State.WarmedH.trans hW h
  have sp' : vx_Met l M2.1 [Cond.code M2.1 M2.2.1 M2.2.2.1 none] R2 (fun v U => v = (Value.ref b :: as).toArray ∧ s0.WarmedH U.vm ∧ jWd s0 D T V X sz U) (jQc s0 D Q2) (jXC s0 D Q2) mc2 ms2 (jA s0) := by
    have := sp
    unfold Sp at this
    rw [mr] at this
    exact this
  have hcall : vx_Run p l e R s m args below meth cd H locs c n mc2 ms2 (F0 m pc ls st) rest (jQc s0 D Q2 (Value.ref b :: as).toArray) (jXC s0 D Q2) (jA s0) :=
    vx_runI (bytes := M2.2.1) (maxL := M2.2.2.1) (As := as) (b := b) (Ts := []) (own := M.1.cls) (cc := M.2.1) (nL := M.2.2.1) ⟨hC.1, hC.2.1, hC.2.2.1, hC.2.2.2.2.1, fun w hw => by cases hw⟩ sp'
      ⟨⟨hrm.1, hrm.2.1, hrm.2.2.1, hrm.2.2.2, fun w hw a' U hU => by
        rw [List.mem_singleton.mp hw]; exact hB.word (hs U hU) m2 rfl a', List.mem_singleton.mpr rfl, hB.word hW m2 rfl args, hB.word hW m5 rfl args, m6, jlen m7, hB.word hW hlk rfl args⟩, mi, hB.word hW m3 rfl args⟩
      ⟨fun _ _ _ _ q => q, fun U hU hWU => ⟨rfl, hs U hWU, hH.wd hU⟩⟩ rfl hn hl.1 hst (lv_room hcat) d hf
  exact j_run hC hH hl hcall K KX
/-- Object() -/
theorem j_objInit {idx a : Nat} (d : decode M.2.1 pc = .ok (.invokespecial idx, 3)) (hB : jB l s0 D) (hlk : Cond.methodLink M.1.cls idx objectInit ∈ lw_tbl) (h2 : Cond.instanceMethod objectInit ∈ lw_tbl) (h3 : Cond.code objectInit ⟨#[0xb1]⟩ 1 none ∈ lw_tbl) (hR : 1 ≤ R.frames) (hR2 : (rest.map fun v => v.category).sum + 12 ≤ R.locals) (K : J l s0 D M R mc ms Q (pc + 3) L rest T V X sz c n) : J l s0 D M R mc ms Q pc L (.ref a :: rest) T V X sz c n := by
  intro p e s m args below meth cd H locs ls hC hH hl
  have hW := hC.2.2.2.2.2.2.1
  refine W.objInit hC.1 hC.2.1 hC.2.2.2.2.1 (hB.word hW hlk rfl args) (hB.word hW h2 rfl args) (hB.word hW h3 rfl args) rfl (by show ls.size = _; rw [hl.1]; exact hC.2.2.1.symm) rfl d hR ?_ (K p e s m args below meth cd H locs ls hC hH hl)
  show 2 * 0 + _ + 12 ≤ _
  omega
end JG
