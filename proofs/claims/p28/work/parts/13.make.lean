/-! THE ROWS: objects and rows that are made, throws, handlers, Math -/
section JM
variable {l : Launch} {s0 : State} {D : jD} {M : jM} {R : Room} {mc ms : Nat} {Q : jQ} {pc : Nat} {L : List (Nat × Value)} {st rest : List Value} {T : jT} {V : jV} {X : jX} {sz c n : Nat}
/-- the numbers of one address all zero -/
def jz {α : Type} (V : Nat → Nat → α) (q : Nat) (z : α) : Nat → Nat → α := fun a i => if a = q then z else V a i
theorem jz_at {α : Type} {V : Nat → Nat → α} {q i : Nat} {z : α} : jz V q z q i = z := by simp [jz]
theorem jz_row {α : Type} {V : Nat → Nat → α} {q : Nat} {z : α} : jz V q z q = fun _ => z := funext fun i => by simp [jz]
theorem jz_ne {α : Type} {V : Nat → Nat → α} {q a : Nat} {z : α} (h : a ≠ q) : jz V q z a = V a := funext fun i => by simp [jz, h]
/-- what a field of this kind holds at first -/
def jdv : Nat ⊕ Option Nat → Value
  | .inl 0 => .int 0
  | .inl _ => .long 0
  | .inr r => va_rf r
/-- a world with one cell more -/
theorem jH.more {s : State} {k : jK} {H H' : Heap} {locs : List Loc} {V' : jV} {X' : jX} (h : jH s0 D s T V X sz H locs) (z : H'.size = H.size + 1) (oq : ∀ q, q < H.size → H'[q]? = H[q]?) (hV : ∀ q, q ≠ sz → V' q = V q) (hX : ∀ q, q ≠ sz → X'.1 q = X.1 q ∧ X'.2 q = X.2 q) (hat : va_at D.1 vwCl (sz, j_E D.2 V' X' sz k) H') : jH s0 D s (jup T sz k) V' X' (sz + 1) H' locs := by
  obtain ⟨h1, h2, h3, h4, h5, h6, h7⟩ := h
  subst h6
  refine ⟨h1, by rw [z]; omega, h3, fun q hq => ?_, fun q k' hq => ?_, by rw [z], h7⟩
  · rw [oq q (by omega)]; exact h4 q hq
  · by_cases e : q = H.size
    · subst e
      rw [jup_eq] at hq
      cases hq
      exact ⟨by omega, hat⟩
    · rw [jup_ne e] at hq
      obtain ⟨g1, g2⟩ := h5 q k' hq
      refine ⟨g1, ?_⟩
      rw [j_E_congr (hV q e) (hX q e).1 (hX q e).2]
      exact g2.kept (oq q (va_at.lt g2))
/-- where a class is linked and made -/
def jln (own : String) (idx ci : Nat) (fs0 : List (Nat ⊕ Option Nat)) : Prop := ∃ r : vw_C, vwCl[ci]? = some r ∧ (∀ w ∈ u_ws r.1 r.2.1 r.2.2, w ∈ lw_tbl ∧ goodWord w = true) ∧ Cond.classLink own idx r.1 ∈ lw_tbl ∧ Cond.instantiable r.1 r.2.2 ∈ lw_tbl ∧ Cond.initialized r.1 ∈ lw_tbl ∧ fs0.length = r.2.2 ∧ (∀ k, k < r.2.2 → (parseFieldDescriptor (r.2.1 k).2.2.1).map defaultValue = (fs0[k]?).map jdv ∧ (fs0[k]?).isSome = true)
theorem j_fs_def {V : jV} {X : jX} {q : Nat} (hV : ∀ i, V q i = 0) (hX : ∀ i, X.1 q i = 0) {fs : List (Nat ⊕ Option Nat)} {k : Nat} {f : Nat ⊕ Option Nat} (h : fs[k]? = some f) : vp_V (j_fs V X q 0 fs) k = jdv f := by
  have := j_fs_get V X q fs 0 k f h
  rw [Nat.zero_add] at this
  unfold vp_V
  rw [List.getD_eq_getElem?_getD, this]
  rcases f with (_ | n) | r
  · show Value.int (V q k) = .int 0; rw [hV]
  · show Value.long (X.1 q k) = .long 0; rw [hX]
  · rfl
theorem j_new {idx ci : Nat} {fs0 : List (Nat ⊕ Option Nat)} (d : decode M.2.1 pc = .ok (.new idx, 3)) (hB : jB l s0 D) (hlk : jln M.1.cls idx ci fs0) (hc : c + 1 ≤ R.cells) (hn : n + fs0.length ≤ R.slots) (K : J l s0 D M R mc ms Q (pc + 3) L (.ref sz :: rest) (jup T sz (.inl (ci, fs0))) (jz V sz 0) (jz X.1 sz 0, X.2) (sz + 1) (c + 1) (n + fs0.length)) : J l s0 D M R mc ms Q pc L rest T V X sz c n := by
  intro p e s m args below meth cd H locs ls hC hH hl
  obtain ⟨r, h1, h2, h3, h4, h5, h6, h7⟩ := hlk
  obtain ⟨C, TT, N⟩ := r
  have hW := hC.2.2.2.2.2.2.1
  have hK := va_K.moved (hW.alike) hB.2.2.1
  have hts : ∀ w ∈ u_ws C TT N, w.before args s = true := fun w hw => hB.word hW (h2 w hw).1 (h2 w hw).2 args
  have hKn := hK.1 ci _ h1
  have hsz : H.size = sz := hH.2.2.2.2.2.1
  have hty0 : ∃ ty0 : Nat → FieldType, ∀ k, k < N → parseFieldDescriptor (TT k).2.2.1 = some (ty0 k) := by
    refine ⟨fun k => (parseFieldDescriptor (TT k).2.2.1).getD .int, fun k hk => ?_⟩
    obtain ⟨a1, a2⟩ := h7 k hk
    cases hp : parseFieldDescriptor (TT k).2.2.1 with
    | some t => show some t = some ((parseFieldDescriptor (TT k).2.2.1).getD .int); rw [hp]; rfl
    | none =>
      have e9 : (none : Option FieldType).map defaultValue = (fs0[k]?).map jdv := by rw [← hp]; exact a1
      cases hf : fs0[k]? with
      | none => rw [hf] at a2; cases a2
      | some f => rw [hf] at e9; cases e9
  obtain ⟨ty0, hty0⟩ := hty0
  have h6 : fs0.length = N := h6
  rw [h6] at K hn
  refine W.newcK hC.1 hC.2.1 hC.2.2.2.2.1 (hB.word hW h3 rfl args) (hB.word hW h4 rfl args) (hB.word hW h5 rfl args) rfl d hc hn hKn.2.1 hsz fun H1 kC hkC e1 z1 o1 => ?_
  refine K p e s m args below meth cd H1 locs ls hC (hH.more (by rw [z1, hsz]) (fun q hq => o1 q (by omega)) (fun q hq => jz_ne hq) (fun q hq => ⟨jz_ne hq, rfl⟩) ?_) hl
  refine ⟨_, h1, (u_born ty0 hts (fun w hw => hw) hKn hkC e1 hty0).to fun k hk => ?_⟩
  obtain ⟨a1, a2⟩ := h7 k hk
  have a3 : (some (ty0 k)).map defaultValue = (fs0[k]?).map jdv := by rw [← hty0 k hk]; exact a1
  cases hf : fs0[k]? with
  | none => rw [hf] at a2; cases a2
  | some f =>
    rw [hf] at a3
    rw [j_fs_def (fun i => jz_at) (fun i => jz_at) hf]
    exact Option.some.inj a3
theorem j_newi {v : Int32} {N : Nat} (d : decode M.2.1 pc = .ok (.newarray .int, 2)) (hB : jB l s0 D) (hA : Cond.arrayClass .int ∈ lw_tbl) (hv : v.toInt = N) (hN : N ≤ 100000) (hc : c + 1 ≤ R.cells) (hn : n + N ≤ R.slots) (K : J l s0 D M R mc ms Q (pc + 2) L (.ref sz :: rest) (jup T sz (.inr (.inl (0, N)))) (jz V sz 0) X (sz + 1) (c + 1) (n + N)) : J l s0 D M R mc ms Q pc L (.int v :: rest) T V X sz c n := by
  intro p e s m args below meth cd H locs ls hC hH hl
  have hW := hC.2.2.2.2.2.2.1
  have hK := va_K.moved (hW.alike) hB.2.2.1
  have hsz : H.size = sz := hH.2.2.2.2.2.1
  have hneg : ¬ v < 0 := fun h => by have := ti_lt h; rw [ti_0] at this; omega
  have hcl : v.toNatClampNeg = N := by rw [← Int32.toNat_toInt]; omega
  refine va_newaK (atype := .int) hC.1 hC.2.1 (hB.word hW hA rfl args) rfl d rfl hneg hcl (by show N * 4 ≤ _; omega) hc hn hsz fun H1 cA e1 z1 o1 hAr hNm => ?_
  have hcA : cA = D.2 0 := Option.some.inj (hNm.symm.trans (hK.2 0 _ rfl).2)
  subst hcA
  refine K p e s m args below meth cd H1 locs ls hC (hH.more (by rw [z1, hsz]) (fun q hq => o1 q (by omega)) (fun q hq => jz_ne hq) (fun q hq => ⟨rfl, rfl⟩) ?_) hl
  show H1[sz]? = some (vp_cell (D.2 0) (N, .inl (jz V sz 0 sz)))
  rw [e1, jz_row]; rfl
theorem j_newq {v : Int32} {N idx : Nat} (d : decode M.2.1 pc = .ok (.anewarray idx, 3)) (hB : jB l s0 D) (hlk : Cond.classLink M.1.cls idx "CueSheets$State" ∈ lw_tbl) (hA : Cond.arrayOver (.object "CueSheets$State") ∈ lw_tbl) (hgA : goodWord (Cond.arrayOver (.object "CueSheets$State")) = true) (hv : v.toInt = N) (hN : N ≤ 100000) (hc : c + 1 ≤ R.cells) (hn : n + N ≤ R.slots) (K : J l s0 D M R mc ms Q (pc + 3) L (.ref sz :: rest) (jup T sz (.inr (.inr (N, fun _ => none)))) V X (sz + 1) (c + 1) (n + N)) : J l s0 D M R mc ms Q pc L (.int v :: rest) T V X sz c n := by
  intro p e s m args below meth cd H locs ls hC hH hl
  have hW := hC.2.2.2.2.2.2.1
  have hK := va_K.moved (hW.alike) hB.2.2.1
  have hsz : H.size = sz := hH.2.2.2.2.2.1
  have hneg : ¬ v < 0 := fun h => by have := ti_lt h; rw [ti_0] at this; omega
  have hcl : v.toNatClampNeg = N := by rw [← Int32.toNat_toInt]; omega
  subst hcl
  refine W.anew hC.1 hC.2.1 hC.2.2.2.2.1 (hB.word hW hlk rfl args) (hB.word hW hA hgA args) rfl d rfl hneg (by omega) hc hn fun cA kA comp f1 f2 f3 f4 => ?_
  generalize hH1 : H.push ({ cls := cA, slots := Array.replicate v.toNatClampNeg .null, vm := .none } : Cell) = H1
  have z1 : H1.size = H.size + 1 := by rw [← hH1, Array.size_push]
  have e1 : H1[H.size]? = some (arrV cA v.toNatClampNeg (fun _ => .null)) := by rw [← hH1, Array.getElem?_push_size, ← arrV_new]
  have o1 : ∀ q : Nat, q < H.size → H1[q]? = H[q]? := fun q hq => by rw [← hH1, Array.getElem?_push, if_neg (Nat.ne_of_lt hq)]
  obtain ⟨kA', comp', k1, k2, k3, k4⟩ := (hK.2 3 _ rfl).2
  have hcA : cA = D.2 3 := Option.some.inj (f1.symm.trans k4)
  subst hcA
  subst hsz
  refine K p e s m args below meth cd H1 locs ls hC (hH.more z1 o1 (fun q hq => rfl) (fun q hq => ⟨rfl, rfl⟩) ?_) hl
  show H1[H.size]? = some (vp_cell (D.2 3) (v.toNatClampNeg, .inr (.inr (.inr (.inr (fun _ => none))))))
  rw [e1]; rfl
theorem j_aast {a len b : Nat} {i : Int32} {f : Nat → Option Nat} {fs : List (Nat ⊕ Option Nat)} (d : decode M.2.1 pc = .ok (.aastore, 1)) (hB : jB l s0 D) (ht : T a = some (.inr (.inr (len, f)))) (hb : T b = some (.inl (5, fs))) (h0 : 0 ≤ i.toInt) (h1 : i.toInt < len) (K : J l s0 D M R mc ms Q (pc + 1) L rest (jup T a (.inr (.inr (len, va_up f i.toNatClampNeg (some b))))) V X sz c n) : J l s0 D M R mc ms Q pc L (.ref b :: .int i :: .ref a :: rest) T V X sz c n := by
  intro p e s m args below meth cd H locs ls hC hH hl
  have hW := hC.2.2.2.2.2.2.1
  have hK := va_K.moved (hW.alike) hB.2.2.1
  obtain ⟨g1, g2⟩ := hH.2.2.2.2.1 a _ ht
  have hin := jin_of h0 h1
  have hlt : i.toNatClampNeg < len := Nat.not_le.mp fun q => hin (Or.inr q)
  have hz : ¬ i < 0 := fun q => hin (Or.inl q)
  obtain ⟨r', hr', cellV, b1, b2, b3, -⟩ := (hH.2.2.2.2.1 b _ hb).2
  have hcls := (hK.1 5 _ rfl).2
  obtain ⟨kA, comp, k1, k2, k3, -⟩ := (hK.2 3 _ rfl).2
  have hcomp : comp = D.1.1 5 := Option.some.inj (k3.symm.trans hcls.1)
  subst hcomp
  obtain ⟨kC, hkC, -⟩ := hcls.2
  refine W.aast hC.1 hC.2.1 g2 (fun q h => by cases h) (fun h => by cases h) k1 k2 rfl hkC ⟨hz, by show _ < (arrV _ _ _).slots.size; rw [arrV_size]; exact hlt⟩ b1 (fun q h => by rw [b3] at h; cases h) (by rw [b2]; exact hkC) (by rw [b2]; exact va_assign hcls) rfl rfl d fun H1 e1 e2 e3 => ?_
  refine K p e s m args below meth cd H1 _ ls hC (hH.one g1 e2 e3 (fun q h => jup_ne h) (fun _ _ => rfl) (fun _ _ => ⟨rfl, rfl⟩) fun k' hk' => ?_) hl
  rw [jup_eq] at hk'
  cases hk'
  show H1[a]? = some (vp_cell (D.2 3) (len, _))
  rw [e1]
  show some ((vp_cell (D.2 3) (len, _)).setSlot _ _) = _
  rw [vp_cell_q, vp_cell_q, arrV_store]
  congr 2
  funext q
  by_cases hq : q = i.toNatClampNeg
  · subst hq
    simp [updV, va_up, va_rf]
  · simp [updV, va_up, hq]
theorem jm_max : Cond.static Lib.Math.max.name ∈ lw_tbl ∧ Cond.initialized "java/lang/Math" ∈ lw_tbl ∧ Cond.code Lib.Math.max.name Lib.Math.max.code 2 (some .int) ∈ lw_tbl := by decide +kernel
theorem jm_min : Cond.static Lib.Math.min.name ∈ lw_tbl ∧ Cond.initialized "java/lang/Math" ∈ lw_tbl ∧ Cond.code Lib.Math.min.name Lib.Math.min.code 2 (some .int) ∈ lw_tbl := by decide +kernel
theorem jm_abs : Cond.static Lib.Math.abs.name ∈ lw_tbl ∧ Cond.initialized "java/lang/Math" ∈ lw_tbl ∧ Cond.code Lib.Math.abs.name Lib.Math.abs.code 1 (some .int) ∈ lw_tbl := by decide +kernel

theorem j_mmax {idx : Nat} {x y : Int32} (d : decode M.2.1 pc = .ok (.invokestatic idx, 3)) (hB : jB l s0 D) (hlk : Cond.methodLink M.1.cls idx Lib.Math.max.name ∈ lw_tbl) (hR : 1 ≤ R.frames) (hR2 : (rest.map fun v => v.category).sum + 13 ≤ R.locals) (hc : c ≤ R.cells) (hn : n ≤ R.slots) (K : J l s0 D M R mc ms Q (pc + 3) L (.int (if x < y then y else x) :: rest) T V X sz c n) : J l s0 D M R mc ms Q pc L (.int y :: .int x :: rest) T V X sz c n := by
  intro p e s m args below meth cd H locs ls hC hH hl
  have hW := hC.2.2.2.2.2.2.1
  exact va_mmax hC.1 hC.2.1 (hC.2.2.1.trans hl.1.symm) hC.2.2.2.2.1 (hB.word hW hlk rfl args) (hB.word hW jm_max.1 rfl args) (hB.word hW jm_max.2.1 rfl args) (hB.word hW jm_max.2.2 rfl args) hR hR2 hc hn d (K p e s m args below meth cd H locs ls hC hH hl)
theorem j_mmin {idx : Nat} {x y : Int32} (d : decode M.2.1 pc = .ok (.invokestatic idx, 3)) (hB : jB l s0 D) (hlk : Cond.methodLink M.1.cls idx Lib.Math.min.name ∈ lw_tbl) (hR : 1 ≤ R.frames) (hR2 : (rest.map fun v => v.category).sum + 13 ≤ R.locals) (hc : c ≤ R.cells) (hn : n ≤ R.slots) (K : J l s0 D M R mc ms Q (pc + 3) L (.int (if y < x then y else x) :: rest) T V X sz c n) : J l s0 D M R mc ms Q pc L (.int y :: .int x :: rest) T V X sz c n := by
  intro p e s m args below meth cd H locs ls hC hH hl
  have hW := hC.2.2.2.2.2.2.1
  exact va_mmin hC.1 hC.2.1 (hC.2.2.1.trans hl.1.symm) hC.2.2.2.2.1 (hB.word hW hlk rfl args) (hB.word hW jm_min.1 rfl args) (hB.word hW jm_min.2.1 rfl args) (hB.word hW jm_min.2.2 rfl args) hR hR2 hc hn d (K p e s m args below meth cd H locs ls hC hH hl)
theorem j_mabs {idx : Nat} {x : Int32} (d : decode M.2.1 pc = .ok (.invokestatic idx, 3)) (hB : jB l s0 D) (hlk : Cond.methodLink M.1.cls idx Lib.Math.abs.name ∈ lw_tbl) (hR : 1 ≤ R.frames) (hR2 : (rest.map fun v => v.category).sum + 13 ≤ R.locals) (hc : c ≤ R.cells) (hn : n ≤ R.slots) (K : J l s0 D M R mc ms Q (pc + 3) L (.int (if 0 ≤ x then x else 0 - x) :: rest) T V X sz c n) : J l s0 D M R mc ms Q pc L (.int x :: rest) T V X sz c n := by
  intro p e s m args below meth cd H locs ls hC hH hl
  have hW := hC.2.2.2.2.2.2.1
  exact va_mabs hC.1 hC.2.1 (hC.2.2.1.trans hl.1.symm) hC.2.2.2.2.1 (hB.word hW hlk rfl args) (hB.word hW jm_abs.1 rfl args) (hB.word hW jm_abs.2.1 rfl args) (hB.word hW jm_abs.2.2 rfl args) hR hR2 hc hn d (K p e s m args below meth cd H locs ls hC hH hl)
/-- the words of a throw: E's own, but castable and declares -/
def jthD (C : String) : MethodName := ⟨C, "<init>", "(Ljava/lang/String;)V"⟩
def jthB (E : String) : List Cond := [.castable E E, .declares (jthD "java/lang/RuntimeException"), .declares (jthD "java/lang/Exception"), .declares (jthD "java/lang/Throwable")]
def jthr (own : String) (ik is ic : Nat) (E text : String) : Prop := Bundle.fit E = true ∧ (Cond.classLink own ik E ∈ lw_tbl ∧ goodWord (.classLink own ik E) = true) ∧ (Cond.initialized E ∈ lw_tbl ∧ goodWord (.initialized E) = true) ∧ Cond.stringRef own is text ∈ lw_tbl ∧ (∀ w ∈ (vx_atS own ic E ["java/lang/RuntimeException", "java/lang/Exception"]).filter goodWord, w ∈ lw_tbl) ∧ (∀ w ∈ (vx_atS own ic E ["java/lang/RuntimeException", "java/lang/Exception"]).filter (fun w => !goodWord w), w ∈ jthB E) ∧ (∀ w ∈ jthB E, w ∈ lw_tbl) ∧ (∀ w ∈ Cond.classLink own ik E :: Cond.initialized E :: vx_atS own ic E ["java/lang/RuntimeException", "java/lang/Exception"], vx_ot w = true)
theorem jB.cast {s : State} (hB : jB l s0 D) (hW : s0.WarmedH s.vm) {A B : String} (hw : Cond.castable A B ∈ lw_tbl) (args : Array Value) : (Cond.castable A B).before args s = true := by
  obtain ⟨-, ⟨a0, hh⟩, -⟩ := hB
  exact va_Nw.use rfl (va_Nw.warmC hW (va_Nw.of rfl (hh _ hw)))
theorem jB.decl {s : State} (hB : jB l s0 D) (hW : s0.WarmedH s.vm) {x : MethodName} (hw : Cond.declares x ∈ lw_tbl) (args : Array Value) : (Cond.declares x).before args s = true := by
  obtain ⟨-, ⟨a0, hh⟩, -⟩ := hB
  exact va_Nw.use rfl (va_Nw.warmD hW (va_Nw.of rfl (hh _ hw)))
theorem jB.thB {s : State} (hB : jB l s0 D) (hW : s0.WarmedH s.vm) {E : String} (h : ∀ w ∈ jthB E, w ∈ lw_tbl) (args : Array Value) : ∀ w ∈ jthB E, w.before args s = true :=
  vx_c (hB.cast hW (h _ (by simp [jthB])) args) (vx_c (hB.decl hW (h _ (by simp [jthB])) args) (vx_c (hB.decl hW (h _ (by simp [jthB])) args) (vx_c (hB.decl hW (h _ (by simp [jthB])) args) vx_n)))
/-- throw new E("text") -/
theorem j_throw {ik is ic : Nat} {E text : String} (d0 : decode M.2.1 pc = .ok (.new ik, 3)) (d3 : decode M.2.1 (pc + 3) = .ok (.dup, 1)) (d4 : decode M.2.1 (pc + 4) = .ok (.ldc is, 2)) (d6 : decode M.2.1 (pc + 6) = .ok (.invokespecial ic, 3)) (d9 : decode M.2.1 (pc + 9) = .ok (.athrow, 1)) (hB : jB l s0 D) (hh : M.2.2.2.2 = []) (hth : jthr M.1.cls ik is ic E text) (hR : 5 < R.frames) (hR2 : (rest.map fun v => v.category).sum + 82 ≤ R.locals) (hc : c + 1 ≤ R.cells) (hn : n + 6 ≤ R.slots) (hc2 : c + 1 ≤ mc) (hn2 : n + 6 ≤ ms) (hq : ∀ sz', sz ≤ sz' → Q (.inr E) T V X sz') : J l s0 D M R mc ms Q pc L rest T V X sz c n := by
  intro p e s m args below meth cd H locs ls hC hH hl
  have hW := hC.2.2.2.2.2.2.1
  obtain ⟨t1, t2, t3, t4, t5, t6, t7, t8⟩ := hth
  obtain ⟨sa, hsa⟩ := hB.2.2.2.2.2 _ _ _ t4
  have ht : cd.exceptionTable.toList = tableOf M.2.2.2.2 := hC.2.2.2.2.2.2.2.2
  have hlow : ∀ a : Nat, a < s0.heap.size → ¬ s0.heap.size ≤ a → s.heap[a]? = s0.heap[a]? := fun a ha _ => hH.2.2.1 a ha
  refine vx_throwS (cls := E) (text := text) (names := ["java/lang/RuntimeException", "java/lang/Exception"]) hC.1 hC.2.1 hB.1 hC.2.2.2.2.1 t1 (by intro n hn; rcases List.mem_cons.mp hn with rfl | hn <;> first | decide +kernel | (rcases List.mem_cons.mp hn with rfl | hn <;> first | decide +kernel | cases hn)) (hB.word hW t2.1 t2.2 args) (hB.word hW t3.1 t3.2 args) (vk_R.warm hW hsa) ?_ t8 (A := fun q => s0.heap.size ≤ q) ((vx_Zq.moved (hW.alike) hB.2.2.2.1).kept hlow) ((vx_Zq.moved (hW.alike) hB.2.2.2.2.1).kept hlow) hH.va (hl.1.trans hC.2.2.1.symm) d0 d3 d4 d6 d9 (fun x hx => by rw [ht, hh] at hx; cases hx) (by show 2 + 3 < _; exact hR) (by show _ + (13 * 3 + 43) ≤ _; exact hR2) hc hn hC.2.2.2.2.2.1 ?_ hH.2.2.2.2.2.2 hc2 hn2
  · exact vx_hat (fun w hw => hB.word hW (t5 w hw) (by have := (List.mem_filter.mp hw).2; exact this) args) t6 (hB.thB hW t7 args)
  · intro t _ hz hq'
    refine ⟨T, V, X, t.heap.size, hq _ (by rw [← hH.2.2.2.2.2.1]; exact hz), Nat.le_trans (Nat.le_trans hH.1 hH.2.1) hz, fun q hqq => ?_, fun q k hk => ?_, rfl⟩
    · rw [hq' q (Nat.lt_of_lt_of_le hqq (Nat.le_trans hH.1 hH.2.1))]; exact hH.2.2.2.1 q hqq
    · obtain ⟨g1, g2⟩ := hH.2.2.2.2.1 q k hk
      exact ⟨g1, g2.kept (hq' q (va_at.lt g2))⟩
/-- .. with the text by a wide index -/
theorem j_throwW {ik is ic : Nat} {E text : String} (d0 : decode M.2.1 pc = .ok (.new ik, 3)) (d3 : decode M.2.1 (pc + 3) = .ok (.dup, 1)) (d4 : decode M.2.1 (pc + 4) = .ok (.ldc_w is, 3)) (d6 : decode M.2.1 (pc + 7) = .ok (.invokespecial ic, 3)) (d9 : decode M.2.1 (pc + 10) = .ok (.athrow, 1)) (hB : jB l s0 D) (hh : M.2.2.2.2 = []) (hth : jthr M.1.cls ik is ic E text) (hR : 5 < R.frames) (hR2 : (rest.map fun v => v.category).sum + 82 ≤ R.locals) (hc : c + 1 ≤ R.cells) (hn : n + 6 ≤ R.slots) (hc2 : c + 1 ≤ mc) (hn2 : n + 6 ≤ ms) (hq : ∀ sz', sz ≤ sz' → Q (.inr E) T V X sz') : J l s0 D M R mc ms Q pc L rest T V X sz c n := by
  intro p e s m args below meth cd H locs ls hC hH hl
  have hW := hC.2.2.2.2.2.2.1
  obtain ⟨t1, t2, t3, t4, t5, t6, t7, t8⟩ := hth
  obtain ⟨sa, hsa⟩ := hB.2.2.2.2.2 _ _ _ t4
  have ht : cd.exceptionTable.toList = tableOf M.2.2.2.2 := hC.2.2.2.2.2.2.2.2
  have hlow : ∀ a : Nat, a < s0.heap.size → ¬ s0.heap.size ≤ a → s.heap[a]? = s0.heap[a]? := fun a ha _ => hH.2.2.1 a ha
  refine vx_throwSW (cls := E) (text := text) (names := ["java/lang/RuntimeException", "java/lang/Exception"]) hC.1 hC.2.1 hB.1 hC.2.2.2.2.1 t1 (by intro n hn; rcases List.mem_cons.mp hn with rfl | hn <;> first | decide +kernel | (rcases List.mem_cons.mp hn with rfl | hn <;> first | decide +kernel | cases hn)) (hB.word hW t2.1 t2.2 args) (hB.word hW t3.1 t3.2 args) (vk_R.warm hW hsa) ?_ t8 (A := fun q => s0.heap.size ≤ q) ((vx_Zq.moved (hW.alike) hB.2.2.2.1).kept hlow) ((vx_Zq.moved (hW.alike) hB.2.2.2.2.1).kept hlow) hH.va (hl.1.trans hC.2.2.1.symm) d0 d3 d4 d6 d9 (fun x hx => by rw [ht, hh] at hx; cases hx) (by show 2 + 3 < _; exact hR) (by show _ + (13 * 3 + 43) ≤ _; exact hR2) hc hn hC.2.2.2.2.2.1 ?_ hH.2.2.2.2.2.2 hc2 hn2
  · exact vx_hat (fun w hw => hB.word hW (t5 w hw) (by have := (List.mem_filter.mp hw).2; exact this) args) t6 (hB.thB hW t7 args)
  · intro t _ hz hq'
    refine ⟨T, V, X, t.heap.size, hq _ (by rw [← hH.2.2.2.2.2.1]; exact hz), Nat.le_trans (Nat.le_trans hH.1 hH.2.1) hz, fun q hqq => ?_, fun q k hk => ?_, rfl⟩
    · rw [hq' q (Nat.lt_of_lt_of_le hqq (Nat.le_trans hH.1 hH.2.1))]; exact hH.2.2.2.1 q hqq
    · obtain ⟨g1, g2⟩ := hH.2.2.2.2.1 q k hk
      exact ⟨g1, g2.kept (hq' q (va_at.lt g2))⟩
end JM
