/-! THE FRAME: the world as kinds T (fixed once made), numbers V (by address and place), longs and doubles X, and the heap's size; J: the machine at a pc of a method, over such a world; Sp: a method's contract at given arguments and world -/
abbrev jK : Type := (Nat × List (Nat ⊕ Option Nat)) ⊕ ((Nat × Nat) ⊕ (Nat × (Nat → Option Nat)))
abbrev jT : Type := Nat → Option jK
abbrev jV : Type := Nat → Nat → Int32
abbrev jX : Type := (Nat → Nat → Int64) × (Nat → Nat → UInt64)
abbrev jD : Type := va_G × (Nat → ClassId)
abbrev jM : Type := MethodName × ByteArray × Nat × Option FieldType × List (Nat × Nat × Nat × Nat)
abbrev jO : Type := Option Value ⊕ String
abbrev jQ : Type := jO → jT → jV → jX → Nat → Prop
def j_fv (V : jV) (X : jX) (q k : Nat) : Nat ⊕ Option Nat → Value
  | .inl 0 => .int (V q k)
  | .inl _ => .long (X.1 q k)
  | .inr r => va_rf r
def j_fs (V : jV) (X : jX) (q : Nat) : Nat → List (Nat ⊕ Option Nat) → List Value
  | _, [] => []
  | k, f :: r => j_fv V X q k f :: j_fs V X q (k + 1) r
def j_E (cA : Nat → ClassId) (V : jV) (X : jX) (q : Nat) : jK → va_E
  | .inl o => .inr (o.1, j_fs V X q 0 o.2)
  | .inr (.inl (0, n)) => .inl (cA 0, n, .inl (V q))
  | .inr (.inl (1, n)) => .inl (cA 1, n, .inr (.inl (X.1 q)))
  | .inr (.inl (_, n)) => .inl (cA 2, n, .inr (.inr (.inr (.inl (X.2 q)))))
  | .inr (.inr (n, f)) => .inl (cA 3, n, .inr (.inr (.inr (.inr f))))
theorem j_fs_get (V : jV) (X : jX) (q : Nat) : ∀ (fs : List (Nat ⊕ Option Nat)) (i k : Nat) (f : Nat ⊕ Option Nat), fs[k]? = some f → (j_fs V X q i fs)[k]? = some (j_fv V X q (i + k) f)
  | [], _, _, _, h => by simp at h
  | a :: r, i, 0, f, h => by simp at h; subst h; rfl
  | a :: r, i, k + 1, f, h => by
    have h' : r[k]? = some f := by simpa using h
    have := j_fs_get V X q r (i + 1) k f h'
    rw [show i + (k + 1) = i + 1 + k by omega]
    simpa [j_fs] using this
theorem j_fs_len (V : jV) (X : jX) (q : Nat) : ∀ (fs : List (Nat ⊕ Option Nat)) (i : Nat), (j_fs V X q i fs).length = fs.length
  | [], _ => rfl
  | a :: r, i => by simp [j_fs, j_fs_len V X q r (i + 1)]
theorem j_fs_congr (V V' : jV) (X X' : jX) (q : Nat) (h : V q = V' q) (h1 : X.1 q = X'.1 q) : ∀ (fs : List (Nat ⊕ Option Nat)) (i : Nat), j_fs V X q i fs = j_fs V' X' q i fs
  | [], _ => rfl
  | a :: r, i => by
    have e : j_fv V X q i a = j_fv V' X' q i a := by
      rcases a with (_ | n) | b
      · show Value.int (V q i) = .int (V' q i); rw [h]
      · show Value.long (X.1 q i) = .long (X'.1 q i); rw [h1]
      · rfl
    show j_fv V X q i a :: j_fs V X q (i + 1) r = j_fv V' X' q i a :: j_fs V' X' q (i + 1) r
    rw [e, j_fs_congr V V' X X' q h h1 r (i + 1)]
theorem j_E_congr {cA : Nat → ClassId} {V V' : jV} {X X' : jX} {q : Nat} (h : V q = V' q) (h1 : X.1 q = X'.1 q) (h2 : X.2 q = X'.2 q) (k : jK) : j_E cA V X q k = j_E cA V' X' q k := by
  rcases k with o | ((⟨_ | _ | t, n⟩) | ⟨n, f⟩)
  · show Sum.inr (o.1, j_fs V X q 0 o.2) = Sum.inr (o.1, j_fs V' X' q 0 o.2); rw [j_fs_congr V V' X X' q h h1]
  · show Sum.inl (cA 0, n, Sum.inl (V q)) = _; rw [h]; rfl
  · show Sum.inl (cA 1, n, Sum.inr (Sum.inl (X.1 q))) = _; rw [h1]; rfl
  · show Sum.inl (cA 2, n, Sum.inr (Sum.inr (Sum.inr (Sum.inl (X.2 q))))) = _; rw [h2]; rfl
  · rfl
/-- one number set -/
def jset {α : Type} (V : Nat → Nat → α) (q k : Nat) (v : α) : Nat → Nat → α := fun a i => if a = q ∧ i = k then v else V a i
theorem jset_eq {α : Type} {V : Nat → Nat → α} {q k : Nat} {v : α} : jset V q k v q k = v := by simp [jset]
theorem jset_ne {α : Type} {V : Nat → Nat → α} {q k a i : Nat} {v : α} (h : a ≠ q ∨ i ≠ k) : jset V q k v a i = V a i := by
  unfold jset
  rw [if_neg]
  rintro ⟨h1, h2⟩
  rcases h with h | h
  · exact h h1
  · exact h h2
theorem jset_row {α : Type} {V : Nat → Nat → α} {q k a : Nat} {v : α} (h : a ≠ q) : jset V q k v a = V a := funext fun i => jset_ne (Or.inl h)
theorem jset_at {α : Type} {V : Nat → Nat → α} {q k : Nat} {v : α} : jset V q k v q = fun i => if i = k then v else V q i := funext fun i => by simp [jset]
/-- fields of an object with one number set -/
theorem j_fs_set (V : jV) (X : jX) (q : Nat) (v : Int32) : ∀ (fs : List (Nat ⊕ Option Nat)) (i k : Nat), fs[k]? = some (.inl 0) → (j_fs V X q i fs).set k (.int v) = j_fs (jset V q (i + k) v) X q i fs
  | [], _, _, h => by simp at h
  | a :: r, i, 0, h => by
    simp at h; subst h
    show Value.int v :: j_fs V X q (i + 1) r = Value.int (jset V q (i + 0) v q i) :: _
    rw [show i + 0 = i by omega, jset_eq]
    congr 1
    have : ∀ (r : List (Nat ⊕ Option Nat)) (j : Nat), i < j → j_fs V X q j r = j_fs (jset V q i v) X q j r := by
      intro r
      induction r with
      | nil => intro _ _; rfl
      | cons b t ih =>
        intro j hj
        have e : j_fv V X q j b = j_fv (jset V q i v) X q j b := by
          rcases b with (_ | n) | b
          · show Value.int (V q j) = .int _; rw [jset_ne (Or.inr (by omega))]
          · rfl
          · rfl
        show _ :: _ = _ :: _
        rw [e, ih (j + 1) (by omega)]
    exact this r (i + 1) (by omega)
  | a :: r, i, k + 1, h => by
    have h' : r[k]? = some (.inl 0) := by simpa using h
    have := j_fs_set V X q v r (i + 1) k h'
    show j_fv V X q i a :: (j_fs V X q (i + 1) r).set k (.int v) = _ :: _
    rw [this, show i + (k + 1) = i + 1 + k by omega]
    congr 1
    rcases a with (_ | n) | b
    · show Value.int (V q i) = .int _; rw [jset_ne (Or.inr (by omega))]
    · rfl
    · rfl
theorem j_fs_setL (V : jV) (X : jX) (q : Nat) (v : Int64) : ∀ (fs : List (Nat ⊕ Option Nat)) (i k : Nat), fs[k]? = some (.inl 1) → (j_fs V X q i fs).set k (.long v) = j_fs V (jset X.1 q (i + k) v, X.2) q i fs
  | [], _, _, h => by simp at h
  | a :: r, i, 0, h => by
    simp at h; subst h
    show Value.long v :: j_fs V X q (i + 1) r = Value.long (jset X.1 q (i + 0) v q i) :: _
    rw [show i + 0 = i by omega, jset_eq]
    congr 1
    have : ∀ (r : List (Nat ⊕ Option Nat)) (j : Nat), i < j → j_fs V X q j r = j_fs V (jset X.1 q i v, X.2) q j r := by
      intro r
      induction r with
      | nil => intro _ _; rfl
      | cons b t ih =>
        intro j hj
        have e : j_fv V X q j b = j_fv V (jset X.1 q i v, X.2) q j b := by
          rcases b with (_ | n) | b
          · rfl
          · show Value.long (X.1 q j) = .long (jset X.1 q i v q j); rw [jset_ne (Or.inr (by omega))]
          · rfl
        show _ :: _ = _ :: _
        rw [e, ih (j + 1) (by omega)]
    exact this r (i + 1) (by omega)
  | a :: r, i, k + 1, h => by
    have h' : r[k]? = some (.inl 1) := by simpa using h
    have := j_fs_setL V X q v r (i + 1) k h'
    show j_fv V X q i a :: (j_fs V X q (i + 1) r).set k (.long v) = _ :: _
    rw [this, show i + (k + 1) = i + 1 + k by omega]
    congr 1
    rcases a with (_ | n) | b
    · rfl
    · show Value.long (X.1 q i) = .long (jset X.1 q (i + 1 + k) v q i); rw [jset_ne (Or.inr (by omega))]
    · rfl
theorem j_fs_setR (V : jV) (X : jX) (q : Nat) (r : Option Nat) : ∀ (fs : List (Nat ⊕ Option Nat)) (i k : Nat), (j_fs V X q i fs).set k (va_rf r) = j_fs V X q i (fs.set k (.inr r))
  | [], _, _ => rfl
  | a :: t, i, 0 => rfl
  | a :: t, i, k + 1 => by
    show _ :: _ = _ :: _
    rw [j_fs_setR V X q r t (i + 1) k]
/-- what holds of the start of all: the launch keeps no traces, every word of the tables, the classes, the two statics that a throw reads, the texts -/
def jB (l : Launch) (s0 : State) (D : jD) : Prop :=
  l.stackTraces = false ∧ (∃ a0 : Array Value, ∀ w ∈ lw_tbl, w.before a0 s0 = true) ∧ va_K D.1 vwCl [(D.2 0, .int), (D.2 0, .int), (D.2 0, .int), (D.2 3, .object "CueSheets$State")] s0 ∧
  vx_Zq Bundle.tN "UNASSIGNED_STACK" Bundle.steD (fun q => s0.heap.size ≤ q) s0 s0.heap ∧ vx_Zq Bundle.tN "SUPPRESSED_SENTINEL" Bundle.listD (fun q => s0.heap.size ≤ q) s0 s0.heap ∧
  (∀ (own text : String) (k : Nat), Cond.stringRef own k text ∈ lw_tbl → ∃ a, vk_R own k text a s0)
def jA (s0 : State) : Nat → Prop := fun q => s0.heap.size ≤ q
def jC (s0 : State) (M : jM) (p : Program) (e : Env) (s : State) (m : MethodId) (args : Array Value) (meth : Method) (c : Code) : Prop :=
  p.tables.exec = Jvm.exec ∧ c.code = M.2.1 ∧ c.maxLocals = M.2.2.1 ∧ meth.sig.returnType = M.2.2.2.1 ∧ s.vm.findClass M.1.cls = some m.cls ∧ meth.locks = false ∧ s0.WarmedH s.vm ∧ meth.name = M.1.name ∧ c.exceptionTable.toList = tableOf M.2.2.2.2
def jH (s0 : State) (D : jD) (s : State) (T : jT) (V : jV) (X : jX) (sz : Nat) (H : Heap) (locs : List Loc) : Prop :=
  s0.heap.size ≤ s.heap.size ∧ s.heap.size ≤ H.size ∧ (∀ q, q < s0.heap.size → s.heap[q]? = s0.heap[q]?) ∧ (∀ q, q < s0.heap.size → H[q]? = s0.heap[q]?) ∧ (∀ q k, T q = some k → s0.heap.size ≤ q ∧ va_at D.1 vwCl (q, j_E D.2 V X q k) H) ∧ H.size = sz ∧ ∀ z ∈ locs, s0.heap.size ≤ z.base
def jWd (s0 : State) (D : jD) (T : jT) (V : jV) (X : jX) (sz : Nat) (U : State) : Prop :=
  s0.heap.size ≤ U.heap.size ∧ (∀ q, q < s0.heap.size → U.heap[q]? = s0.heap[q]?) ∧ (∀ q k, T q = some k → s0.heap.size ≤ q ∧ va_at D.1 vwCl (q, j_E D.2 V X q k) U.heap) ∧ U.heap.size = sz
def jQc (s0 : State) (D : jD) (Q : jQ) : Array Value → State → Outcome → State → Prop := fun _ _ o t => ∃ (v : Option Value) (T : jT) (V : jV) (X : jX) (sz : Nat), o = .returned v ∧ Q (.inl v) T V X sz ∧ jWd s0 D T V X sz t
def jXC (s0 : State) (D : jD) (Q : jQ) : String → State → State → Prop := fun E _ t => ∃ (T : jT) (V : jV) (X : jX) (sz : Nat), Q (.inr E) T V X sz ∧ jWd s0 D T V X sz t
/-- the machine stands at pc of the method M, with these locals and this stack, over this world; c cells of n slots are new; it comes to an end that Q allows -/
def J (l : Launch) (s0 : State) (D : jD) (M : jM) (R : Room) (mc ms : Nat) (Q : jQ) (pc : Nat) (L : List (Nat × Value)) (st : List Value) (T : jT) (V : jV) (X : jX) (sz c n : Nat) : Prop :=
  ∀ (p : Program) (e : Env) (s : State) (m : MethodId) (args : Array Value) (below : List Frame) (meth : Method) (cd : Code) (H : Heap) (locs : List Loc) (ls : Array Slot), jC s0 M p e s m args meth cd → jH s0 D s T V X sz H locs → lv_has ls M.2.2.1 L →
    W p l e R s m args below meth cd H locs c n (vx_MQ below (jQc s0 D Q) (jXC s0 D Q) args s mc ms (jA s0)) (F0 m pc ls st)
/-- .. with an exception of the class E over it -/
def JX (l : Launch) (s0 : State) (D : jD) (M : jM) (R : Room) (mc ms : Nat) (Q : jQ) (pc : Nat) (L : List (Nat × Value)) (E : String) (T : jT) (V : jV) (X : jX) (sz c n : Nat) : Prop :=
  ∀ (p : Program) (e : Env) (s : State) (m : MethodId) (args : Array Value) (below : List Frame) (meth : Method) (cd : Code) (H : Heap) (locs : List Loc) (ls : Array Slot) (rest : List Value) (q : Addr) (ce : Cell), jC s0 M p e s m args meth cd → jH s0 D s T V X sz H locs → lv_has ls M.2.2.1 L → H[q]? = some ce → ce.vm = .none → s.vm.findClass E = some ce.cls →
    vx_W p l e R s m args below meth cd H locs c n (vx_MQ below (jQc s0 D Q) (jXC s0 D Q) args s mc ms (jA s0)) (F0 m pc ls rest) q
/-- a method's contract at these arguments in this world -/
def Sp (l : Launch) (s0 : State) (D : jD) (M : jM) (R : Room) (mc ms : Nat) (as : List Value) (T : jT) (V : jV) (X : jX) (sz : Nat) (Q : jQ) : Prop :=
  vx_Met l M.1 [Cond.code M.1 M.2.1 M.2.2.1 M.2.2.2.1] R (fun v U => v = as.toArray ∧ s0.WarmedH U.vm ∧ jWd s0 D T V X sz U) (jQc s0 D Q) (jXC s0 D Q) mc ms (jA s0)
/-- .. of a method with a table of handlers -/
def SpH (l : Launch) (s0 : State) (D : jD) (M : jM) (R : Room) (mc ms : Nat) (as : List Value) (T : jT) (V : jV) (X : jX) (sz : Nat) (Q : jQ) : Prop :=
  vx_Met l M.1 [Cond.codeWith M.1 M.2.1 M.2.2.1 M.2.2.2.1 M.2.2.2.2] R (fun v U => v = as.toArray ∧ s0.WarmedH U.vm ∧ jWd s0 D T V X sz U) (jQc s0 D Q) (jXC s0 D Q) mc ms (jA s0)
theorem jWd.frameBlind {s0 : State} {D : jD} {T : jT} {V : jV} {X : jX} {sz : Nat} {as : List Value} : FrameBlind (fun v U => v = as.toArray ∧ s0.WarmedH U.vm ∧ jWd s0 D T V X sz U) := fun _ _ _ _ q => q
theorem jH.wd {s0 : State} {D : jD} {s : State} {T : jT} {V : jV} {X : jX} {sz : Nat} {H : Heap} {locs : List Loc} {t : State} (h : jH s0 D s T V X sz H locs) (ht : t.heap = H) : jWd s0 D T V X sz t := by
  obtain ⟨h1, h2, h3, h4, h5, h6, h7⟩ := h
  subst ht
  exact ⟨Nat.le_trans h1 h2, h4, h5, h6⟩
theorem jH.va {s0 : State} {D : jD} {s : State} {T : jT} {V : jV} {X : jX} {sz : Nat} {H : Heap} {locs : List Loc} (h : jH s0 D s T V X sz H locs) : va_S (fun q => s0.heap.size ≤ q) s.heap H locs := by
  obtain ⟨h1, h2, h3, h4, h5, h6, h7⟩ := h
  exact ⟨h2, fun q _ hq => by rw [h4 q (Nat.lt_of_not_le hq), h3 q (Nat.lt_of_not_le hq)], h7⟩
theorem Sp.of {l : Launch} {s0 : State} {D : jD} {M : jM} {R : Room} {mc ms : Nat} {as : List Value} {T : jT} {V : jV} {X : jX} {sz : Nat} {Q : jQ} (hy : plainName M.1.cls = true) (hh : M.2.2.2.2 = []) (hL : (lg_sl as).length ≤ M.2.2.1)
    (k : J l s0 D M R mc ms Q 0 (lv_args 0 as) [] T V X sz 0 0) : Sp l s0 D M R mc ms as T V X sz Q := by
  refine vx_ofW hy rfl ?_
  intro p e s m args below meth c s₁ B hml ht hv
  obtain ⟨rfl, w1, w2, w3, w4, w5⟩ := hv
  rw [lg_entry_eq]
  refine k p e s m as.toArray below meth c s.heap [] _ ⟨B.exec, B.bytes, hml, B.returns, findClass_of_methodNamed B.named, B.notSynchronized, w1, (name_of_methodNamed B.named B.method).1, ?_⟩ ⟨w2, Nat.le_refl _, w3, w3, w4, w5, fun z hz => nomatch hz⟩ (lv_entry as hL)
  rw [hh]
  cases hc : c.exceptionTable.toList with
  | nil => rfl
  | cons a r => exact absurd (ht a (by rw [hc]; exact List.mem_cons_self)) id
theorem SpH.of {l : Launch} {s0 : State} {D : jD} {M : jM} {R : Room} {mc ms : Nat} {as : List Value} {T : jT} {V : jV} {X : jX} {sz : Nat} {Q : jQ} (hy : plainName M.1.cls = true) (hL : (lg_sl as).length ≤ M.2.2.1)
    (k : J l s0 D M R mc ms Q 0 (lv_args 0 as) [] T V X sz 0 0) : SpH l s0 D M R mc ms as T V X sz Q := by
  refine vx_ofWH hy rfl ?_
  intro p e s m args below meth c s₁ B hml hv
  obtain ⟨rfl, w1, w2, w3, w4, w5⟩ := hv
  have hcw := atoms_spec B.pre (Cond.codeWith M.1 M.2.1 M.2.2.1 M.2.2.2.1 M.2.2.2.2) List.mem_cons_self
  rw [lg_entry_eq]
  exact k p e s m as.toArray below meth c s.heap [] _ ⟨B.exec, B.bytes, hml, B.returns, findClass_of_methodNamed B.named, B.notSynchronized, w1, (name_of_methodNamed B.named B.method).1, vx_table (x := M.1) B hcw⟩ ⟨w2, Nat.le_refl _, w3, w3, w4, w5, fun z hz => nomatch hz⟩ (lv_entry as hL)
theorem Sp.mono {l : Launch} {s0 : State} {D : jD} {M : jM} {R : Room} {mc ms : Nat} {as : List Value} {T : jT} {V : jV} {X : jX} {sz : Nat} {Q Q' : jQ} (hQ : ∀ o T V X sz, Q o T V X sz → Q' o T V X sz) (h : Sp l s0 D M R mc ms as T V X sz Q) : Sp l s0 D M R mc ms as T V X sz Q' := by
  intro p e ha hc hk s m args below hf hn hpre htr
  obtain ⟨t, o, h1, h2, h3, hq⟩ := h p e ha hc hk s m args below hf hn hpre htr
  refine ⟨t, o, h1, h2, h3, ?_⟩
  rcases hq with ⟨⟨v, T', V', X', sz', e1, e2, e3⟩, e4⟩ | ⟨q, e1, E, ce, L, ⟨T', V', X', sz', e2, e3⟩, e4⟩
  · exact Or.inl ⟨⟨v, T', V', X', sz', e1, hQ _ _ _ _ _ e2, e3⟩, e4⟩
  · exact Or.inr ⟨q, e1, E, ce, L, ⟨T', V', X', sz', hQ _ _ _ _ _ e2, e3⟩, e4⟩
/-- a word of the tables at a method's start -/
theorem jB.word {l : Launch} {s0 : State} {D : jD} (hB : jB l s0 D) {s : State} (hW : s0.WarmedH s.vm) {cw : Cond} (hw : cw ∈ lw_tbl) (hg : goodWord cw = true) (args : Array Value) : cw.before args s = true := by
  obtain ⟨-, ⟨a0, h⟩, -⟩ := hB
  exact word_at hW (good_of_word hg) (h cw hw)
theorem jB.nestF {l : Launch} {s0 : State} {D : jD} (hB : jB l s0 D) {s : State} (hW : s0.WarmedH s.vm) {a b n d h : String} {i : Nat} (hw : Cond.fieldLinkNest a i b n d h ∈ lw_tbl) (args : Array Value) : (Cond.fieldLinkNest a i b n d h).before args s = true := by
  obtain ⟨-, ⟨a0, hh⟩, -⟩ := hB
  exact va_Nw.use rfl (va_Nw.warmF hW (va_Nw.of rfl (hh _ hw)))
theorem jB.nestM {l : Launch} {s0 : State} {D : jD} (hB : jB l s0 D) {s : State} (hW : s0.WarmedH s.vm) {a h : String} {i : Nat} {x : MethodName} (hw : Cond.methodLinkNest a i x h ∈ lw_tbl) : va_Nw (.methodLinkNest a i x h) s := by
  obtain ⟨-, ⟨a0, hh⟩, -⟩ := hB
  exact va_Nw.warmM hW (va_Nw.of rfl (hh _ hw))
theorem j_tb {w : Cond} (h : w ∈ tables_1) : w ∈ lw_tbl := List.mem_append_right _ h

theorem lk_mem {L : List (Nat × Value)} {i : Nat} {v : Value} (h : L.lookup i = some v) : (i, v) ∈ L := by
  induction L with
  | nil => simp at h
  | cons a r ih =>
    obtain ⟨k, x⟩ := a
    rw [List.lookup_cons] at h
    by_cases hk : i == k
    · rw [hk] at h
      simp at h
      have : i = k := by simpa using hk
      subst this; subst h
      exact List.mem_cons_self
    · simp only [hk] at h
      exact List.mem_cons_of_mem _ (ih h)
theorem lk_at {ls : Array Slot} {nL : Nat} {L : List (Nat × Value)} {i : Nat} {v : Value} (h : lv_has ls nL L) (hl : L.lookup i = some v) : ls[i]? = some (.val v) := h.2.2 (i, v) (lk_mem hl)
/-- the locals with one set, in its place -/
def js1 (L : List (Nat × Value)) (i : Nat) (v : Value) : List (Nat × Value) :=
  if L.any (fun q => q.1 == i) then (L.filter (fun q => !(q.1 + 1 == i && q.2.category == 2))).map (fun q => if q.1 == i then (i, v) else q) else L.filter (fun q => !(q.1 + 1 == i && q.2.category == 2)) ++ [(i, v)]
theorem js1_has {ls : Array Slot} {nL : Nat} {L : List (Nat × Value)} {i : Nat} {v : Value} (h : lv_has ls nL ((i, v) :: L.filter (fun q => !(q.1 == i) && !(q.1 + 1 == i && q.2.category == 2)))) : lv_has ls nL (js1 L i v) := by
  refine ⟨h.1, h.2.1, fun q hq => h.2.2 q ?_⟩
  unfold js1 at hq
  by_cases ha : L.any (fun q => q.1 == i) = true
  · rw [if_pos ha] at hq
    obtain ⟨q', h1, h2⟩ := List.mem_map.mp hq
    by_cases hk : (q'.1 == i) = true
    · rw [if_pos hk] at h2; rw [← h2]; exact List.mem_cons_self
    · rw [if_neg hk] at h2; subst h2
      obtain ⟨g1, g2⟩ := List.mem_filter.mp h1
      refine List.mem_cons_of_mem _ (List.mem_filter.mpr ⟨g1, ?_⟩)
      simp only [hk, Bool.and_eq_true, Bool.not_eq_true']
      simp only [Bool.not_eq_true'] at g2
      exact ⟨by simpa using hk, g2⟩
  · rw [if_neg ha] at hq
    rcases List.mem_append.mp hq with h1 | h1
    · obtain ⟨g1, g2⟩ := List.mem_filter.mp h1
      have hk : ¬ (q.1 == i) = true := fun z => ha (List.any_eq_true.mpr ⟨q, g1, z⟩)
      refine List.mem_cons_of_mem _ (List.mem_filter.mpr ⟨g1, ?_⟩)
      simp only [Bool.and_eq_true, Bool.not_eq_true']
      simp only [Bool.not_eq_true'] at g2
      exact ⟨by simpa using hk, g2⟩
    · rw [List.mem_singleton.mp h1]; exact List.mem_cons_self
/-- .. a long or a double -/
def js2 (L : List (Nat × Value)) (i : Nat) (v : Value) : List (Nat × Value) :=
  if L.any (fun q => q.1 == i) then (L.filter (fun q => !(q.1 == i + 1) && !(q.1 + 1 == i && q.2.category == 2))).map (fun q => if q.1 == i then (i, v) else q) else L.filter (fun q => !(q.1 == i + 1) && !(q.1 + 1 == i && q.2.category == 2)) ++ [(i, v)]
theorem js2_has {ls : Array Slot} {nL : Nat} {L : List (Nat × Value)} {i : Nat} {v : Value} (h : lv_has ls nL ((i, v) :: L.filter (fun q => !(q.1 == i) && (!(q.1 == i + 1) && !(q.1 + 1 == i && q.2.category == 2))))) : lv_has ls nL (js2 L i v) := by
  refine ⟨h.1, h.2.1, fun q hq => h.2.2 q ?_⟩
  unfold js2 at hq
  by_cases ha : L.any (fun q => q.1 == i) = true
  · rw [if_pos ha] at hq
    obtain ⟨q', h1, h2⟩ := List.mem_map.mp hq
    by_cases hk : (q'.1 == i) = true
    · rw [if_pos hk] at h2; rw [← h2]; exact List.mem_cons_self
    · rw [if_neg hk] at h2; subst h2
      obtain ⟨g1, g2⟩ := List.mem_filter.mp h1
      refine List.mem_cons_of_mem _ (List.mem_filter.mpr ⟨g1, ?_⟩)
      rw [Bool.and_eq_true]
      exact ⟨by simpa using hk, g2⟩
  · rw [if_neg ha] at hq
    rcases List.mem_append.mp hq with h1 | h1
    · obtain ⟨g1, g2⟩ := List.mem_filter.mp h1
      have hk : ¬ (q.1 == i) = true := fun z => ha (List.any_eq_true.mpr ⟨q, g1, z⟩)
      refine List.mem_cons_of_mem _ (List.mem_filter.mpr ⟨g1, ?_⟩)
      rw [Bool.and_eq_true]
      exact ⟨by simpa using hk, g2⟩
    · rw [List.mem_singleton.mp h1]; exact List.mem_cons_self

