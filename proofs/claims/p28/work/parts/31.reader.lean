/-! CueSheets$SheetReader: what has been read of a sheet (lengths, pieces, strains, paces, place), a character on -/
abbrev tR : Type := List Int32 × List Int32 × List Int32 × List Int32 × Int32
def rN (t : tR) : Int := (t.1.length : Int) - 1
def rComp (t : tR) : Prop := (t.2.2.2.2 = 0 ∧ 0 < (atZ t.1 (rN t)).toInt) ∨ t.2.2.2.2 = 4 ∨ (t.2.2.2.2 = 5 ∧ 80 ≤ (atZ t.2.2.2.1 (rN t)).toInt)
def rNew (t : tR) : tR := (t.1 ++ [0], t.2.1 ++ [-2000001], t.2.2.1 ++ [0], t.2.2.2.1 ++ [0], 0)
def rGo (t : tR) (p : Int32) : tR := (t.1, t.2.1, t.2.2.1, t.2.2.2.1, p)
def rDig (t : tR) (d : Int32) (t' : tR) : Prop :=
  (t.2.2.2.2 = 0 ∧ 10 * (atZ t.1 (rN t)).toInt + d.toInt ≠ 0 ∧ 10 * (atZ t.1 (rN t)).toInt + d.toInt ≤ 900 ∧ t' = (setZ t.1 (rN t) (10 * atZ t.1 (rN t) + d), t.2.1, t.2.2.1, t.2.2.2.1, 0)) ∨
  (t.2.2.2.2 = 1 ∧ d.toInt < 8 ∧ t' = (t.1, setZ t.2.1 (rN t) d, t.2.2.1, t.2.2.2.1, 2)) ∨
  (t.2.2.2.2 = 3 ∧ 1 ≤ d.toInt ∧ t' = (t.1, t.2.1, setZ t.2.2.1 (rN t) d, setZ t.2.2.2.1 (rN t) 100, 4)) ∨
  (t.2.2.2.2 = 5 ∧ (let n := 10 * (atZ t.2.2.2.1 (rN t)).toInt + d.toInt; n = 1 ∨ (8 ≤ n ∧ n ≤ 12) ∨ (80 ≤ n ∧ n ≤ 120)) ∧ t' = (t.1, t.2.1, t.2.2.1, setZ t.2.2.2.1 (rN t) (10 * atZ t.2.2.2.1 (rN t) + d), 5))
/-- c is read behind t, which gives t' -/
def rRd (t : tR) (c : Int32) (t' : tR) : Prop :=
  (c.toInt = 44 ∧ rComp t ∧ t' = rNew t) ∨
  (c.toInt = 58 ∧ t.2.2.2.2 = 0 ∧ rComp t ∧ t' = rGo t 1) ∨
  (c.toInt = 120 ∧ t.2.2.2.2 = 2 ∧ t' = rGo t 3) ∨
  (c.toInt = 64 ∧ t.2.2.2.2 = 4 ∧ t' = (t.1, t.2.1, t.2.2.1, setZ t.2.2.2.1 (rN t) 0, 5)) ∨
  (48 ≤ c.toInt ∧ c.toInt ≤ 57 ∧ rDig t (c - 48) t')
def rdK (T : jT) (V : jV) (q : Nat) : Prop := T q = some (kReader (q + 1) (q + 3) (q + 5) (q + 7)) ∧ RowOK T V (q + 1) 60 ∧ RowOK T V (q + 3) 60 ∧ RowOK T V (q + 5) 60 ∧ RowOK T V (q + 7) 60
def rdOK (T : jT) (V : jV) (q : Nat) (t : tR) : Prop := T q = some (kReader (q + 1) (q + 3) (q + 5) (q + 7)) ∧ RowOK T V (q + 1) 60 ∧ RowOK T V (q + 3) 60 ∧ RowOK T V (q + 5) 60 ∧ RowOK T V (q + 7) 60 ∧ Rw V (q + 1) = t.1 ∧ Rw V (q + 3) = t.2.1 ∧ Rw V (q + 5) = t.2.2.1 ∧ Rw V (q + 7) = t.2.2.2.1 ∧ V q 4 = t.2.2.2.2
theorem rdOK.k {T : jT} {V : jV} {q : Nat} {t : tR} (h : rdOK T V q t) : rdK T V q := ⟨h.1, h.2.1, h.2.2.1, h.2.2.2.1, h.2.2.2.2.1⟩
theorem rdK.ag {T : jT} {V V' : jV} {q lo hi : Nat} (h : rdK T V q) (ha : jAg V V' lo hi) (hd : q + 9 ≤ lo ∨ hi ≤ q) : rdK T V' q := ⟨h.1, h.2.1.ag ha (by omega), h.2.2.1.ag ha (by omega), h.2.2.2.1.ag ha (by omega), h.2.2.2.2.ag ha (by omega)⟩
theorem rdOK.ag {T : jT} {V V' : jV} {q lo hi : Nat} {t : tR} (h : rdOK T V q t) (ha : jAg V V' lo hi) (hd : q + 9 ≤ lo ∨ hi ≤ q) : rdOK T V' q t := by
  obtain ⟨h0, h1, h2, h3, h4, e1, e2, e3, e4, e5⟩ := h
  exact ⟨h0, h1.ag ha (by omega), h2.ag ha (by omega), h3.ag ha (by omega), h4.ag ha (by omega), by rw [Rw_ag ha (by omega)]; exact e1, by rw [Rw_ag ha (by omega)]; exact e2, by rw [Rw_ag ha (by omega)]; exact e3, by rw [Rw_ag ha (by omega)]; exact e4, by rw [ha q (by omega)]; exact e5⟩
/-- the place alone is set -/
theorem rdOK.go {T : jT} {V : jV} {q : Nat} {t : tR} {p : Int32} (h : rdOK T V q t) : rdOK T (jset V q 4 p) q (rGo t p) := by
  have ha : jAg V (jset V q 4 p) q (q + 1) := jAg.f1
  obtain ⟨h0, h1, h2, h3, h4, e1, e2, e3, e4, e5⟩ := h
  exact ⟨h0, h1.ag ha (by omega), h2.ag ha (by omega), h3.ag ha (by omega), h4.ag ha (by omega), by rw [Rw_ag ha (by omega)]; exact e1, by rw [Rw_ag ha (by omega)]; exact e2, by rw [Rw_ag ha (by omega)]; exact e3, by rw [Rw_ag ha (by omega)]; exact e4, jset_eq⟩
def r0 : tR := rNew ([], [], [], [], 0)
