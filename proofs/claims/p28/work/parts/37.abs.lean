/-! WHAT EACH CALL DOES, as functions of the values: e_.. the exception's number (0: none), v_.. the answer, s_.. what is then -/
abbrev aX : Type := aS × List aS × List Int32
def stW (s : aS) : Prop := pcW s ∧ lwW s ∧ s.2.1.1.length ≤ 8 ∧ rlW s s.1.1 ∧ rlW s s.1.2.1 ∧ rlW s s.1.2.2
def xW (x : aX) : Prop := stW x.1 ∧ (∀ u ∈ x.2.1, stW u) ∧ x.2.1.length ≤ 6 ∧ x.2.2.length ≤ 60 ∧ ∀ c ∈ x.2.2, 33 ≤ c.toInt ∧ c.toInt ≤ 126
theorem stW.r {s : aS} (h : stW s) (z : Int) : rlW s (sR s z) := by
  unfold sR
  split
  · exact h.2.2.2.1
  · split
    · exact h.2.2.2.2.1
    · exact h.2.2.2.2.2
def xR (x : aX) (r : Int32) : aR := sR x.1 r.toInt
def xPush (x : aX) : List aS := (if 6 ≤ x.2.1.length then x.2.1.tail else x.2.1) ++ [x.1]
def xNow (x : aX) (s : aS) : aX := (s, xPush x, x.2.2)
def xSet (x : aX) (r : Int32) (rr : aR) : aX := xNow x (sSet x.1 r.toInt rr)
abbrev NN : Int32 := -2000001
abbrev rOk (r : Int32) : Prop := 0 ≤ r.toInt ∧ r.toInt < 3
abbrev inR (v : Int32) (lo hi : Int) : Prop := lo ≤ v.toInt ∧ v.toInt ≤ hi
abbrev scOk (x : aX) (r s : Int32) : Prop := rOk r ∧ 0 ≤ s.toInt ∧ s.toInt < (xR x r).1.length
abbrev pcOk (s : aS) (p : Int32) : Prop := 0 ≤ p.toInt ∧ p.toInt < s.2.1.1.length
-- reels
def rExt (rr : aR) (a b c d : Int32) : aR := (rr.1 ++ [a], rr.2.1 ++ [b], rr.2.2.1 ++ [c], rr.2.2.2.1 ++ [d], rr.2.2.2.2)
def rCut (rr : aR) (i : Nat) : aR := (rr.1.eraseIdx i, rr.2.1.eraseIdx i, rr.2.2.1.eraseIdx i, rr.2.2.2.1.eraseIdx i, rr.2.2.2.2)
def rCue (rr : aR) (i : Int) (b c d : Int32) : aR := (rr.1, setZ rr.2.1 i b, setZ rr.2.2.1 i c, setZ rr.2.2.2.1 i d, rr.2.2.2.2)
def rSp (rr : aR) (P : pL) : aR := (rr.1, rr.2.1, rr.2.2.1, rr.2.2.2.1, P, rr.2.2.2.2.2)
def rSl (rr : aR) (P : pL) : aR := (rr.1, rr.2.1, rr.2.2.1, rr.2.2.2.1, rr.2.2.2.2.1, P)
def e_add (x : aX) (r len : Int32) : Nat := if ¬ rOk r then 1 else if ¬ inR len 1 900 then 2 else if 10 ≤ (xR x r).1.length then 3 else 0
def v_add (x : aX) (r : Int32) : Int := (xR x r).1.length
def s_add (x : aX) (r len : Int32) : aX := xSet x r (rExt (xR x r) len NN 0 0)
def e_rem (x : aX) (r s : Int32) : Nat := if ¬ scOk x r s then 1 else 0
def v_rem (x : aX) (r : Int32) : Int := (xR x r).1.length - 1
def s_rem (x : aX) (r s : Int32) : aX := xSet x r (rCut (xR x r) s.toInt.toNat)
def e_crank (x : aX) (r f v : Int32) : Nat := if ¬ rOk r then 1 else if ¬ (inR f 0 9000 ∧ inR v 10 30) then 2 else if ¬ ((xR x r).2.2.2.2.1.length < 6 ∨ f ∈ (xR x r).2.2.2.2.1.map Prod.fst) then 3 else 0
def v_crank (x : aX) (r f v : Int32) : Int := (pSet (xR x r).2.2.2.2.1 f v).length
def s_crank (x : aX) (r f v : Int32) : aX := xSet x r (rSp (xR x r) (pSet (xR x r).2.2.2.2.1 f v))
def e_spl (x : aX) (r f v : Int32) : Nat := if ¬ rOk r then 1 else if ¬ (inR f 0 9000 ∧ inR v 0 50) then 2 else if ¬ v = 0 ∧ ¬ ((xR x r).2.2.2.2.2.length < 6 ∨ f ∈ (xR x r).2.2.2.2.2.map Prod.fst) then 3 else 0
def xSpl (x : aX) (r f v : Int32) : pL := if v = 0 then pDel (xR x r).2.2.2.2.2 f else pSet (xR x r).2.2.2.2.2 f v
def v_spl (x : aX) (r f v : Int32) : Int := (xSpl x r f v).length
def s_spl (x : aX) (r f v : Int32) : aX := xSet x r (rSl (xR x r) (xSpl x r f v))
-- pieces, cues
def e_pc (x : aX) (o s c : Int32) : Nat := if ¬ (inR o 0 600 ∧ inR s 10 1200 ∧ inR c 0 600) then 1 else if 8 ≤ x.1.2.1.1.length then 2 else 0
def v_pc (x : aX) : Int := x.1.2.1.1.length
def s_pc (x : aX) (o s c : Int32) : aX := xNow x (x.1.1, (x.1.2.1.1 ++ [o], x.1.2.1.2.1 ++ [s], x.1.2.1.2.2 ++ [c]), x.1.2.2)
def e_cue (x : aX) (r s p k a : Int32) : Nat := if ¬ (scOk x r s ∧ (p = NN ∨ pcOk x.1 p)) then 1 else if ¬ (inR k 1 9 ∧ inR a 80 120) then 2 else 0
def s_cue (x : aX) (r s p k a : Int32) : aX := xSet x r (if p = NN then rCue (xR x r) s.toInt NN 0 0 else rCue (xR x r) s.toInt p k a)
noncomputable def v_cue (x : aX) (r s p k a : Int32) : Int := if p = NN then 0 else aDrift (sSet x.1 r.toInt (rCue (xR x r) s.toInt p k a)) (rCue (xR x r) s.toInt p k a) 0 s.toInt.toNat
/-- one scene fitted, z the reel's number -/
noncomputable def fitS (s : aS) (z : Int) (k : Nat) : aS × Int :=
  let rr := sR s z
  let b := bestT s (atZ rr.2.1 k).toInt (aRoom s rr 0 k)
  (sSet s z (rCue rr k (atZ rr.2.1 k) (Int32.ofInt b.1) (Int32.ofInt b.2.1)), if (atZ rr.2.2.1 k).toInt = b.1 ∧ (atZ rr.2.2.2.1 k).toInt = b.2.1 then 0 else 1)
noncomputable def fitN (s : aS) (z : Int) : Nat → aS × Int
  | 0 => (s, 0)
  | k + 1 => if atZ (sR s z).2.1 k = NN then fitN s z k else ((fitS (fitN s z k).1 z k).1, (fitN s z k).2 + (fitS (fitN s z k).1 z k).2)
def e_fit (r : Int32) : Nat := if ¬ rOk r then 1 else 0
noncomputable def v_fit (x : aX) (r : Int32) : Int := (fitN x.1 r.toInt (xR x r).1.length).2
noncomputable def s_fit (x : aX) (r : Int32) : aX := xNow x (fitN x.1 r.toInt (xR x r).1.length).1
def e_set (t l : Int32) : Nat := if ¬ (inR t 0 600 ∧ inR l 0 20) then 1 else 0
def v_set (x : aX) : Int := 100 * x.1.2.2.1.toInt + x.1.2.2.2.toInt
def s_set (x : aX) (t l : Int32) : aX := xNow x (x.1.1, x.1.2.1, (t, l))
-- texts
def e_app (x : aX) (c : Int32) : Nat := if ¬ inR c 33 126 then 1 else if 60 ≤ x.2.2.length then 2 else 0
def v_app (x : aX) : Int := x.2.2.length + 1
def s_app (x : aX) (c : Int32) : aX := (x.1, x.2.1, x.2.2 ++ [c])
def s_clr (x : aX) : aX := (x.1, x.2.1, [])
noncomputable def rdS (t : tR) (c : Int32) : Option tR := @dite _ (∃ t', rRd t c t') (Classical.propDecidable _) (fun h => some (Classical.choose h)) (fun _ => none)
noncomputable def rdL (t : tR) : List Int32 → Nat × tR
  | [] => (0, t)
  | c :: r => match rdS t c with
    | none => (0, t)
    | some t' => ((rdL t' r).1 + 1, (rdL t' r).2)
noncomputable def v_err (x : aX) : Int := (rdL r0 x.2.2).1
noncomputable def xT (x : aX) : tR := (rdL r0 x.2.2).2
/-- all is read, and it is complete -/
def ldA (x : aX) : Prop := (rdL r0 x.2.2).1 = x.2.2.length ∧ rComp (xT x)
def ldB (x : aX) (r : Int32) : Prop := (xR x r).1.length + (xT x).1.length ≤ 10 ∧ ∀ i : Nat, i < (xT x).1.length → atZ (xT x).2.1 i = NN ∨ pcOk x.1 (atZ (xT x).2.1 i)
noncomputable def e_load (x : aX) (r : Int32) : Nat := if ¬ rOk r then 1 else @ite _ (ldA x) (Classical.propDecidable _) (@ite _ (ldB x r) (Classical.propDecidable _) 0 3) 2
def rApp (rr : aR) (t : tR) : aR := (rr.1 ++ t.1, rr.2.1 ++ t.2.1, rr.2.2.1 ++ t.2.2.1, rr.2.2.2.1 ++ t.2.2.2.1, rr.2.2.2.2)
noncomputable def v_load (x : aX) (r : Int32) : Int := (xR x r).1.length + (xT x).1.length
noncomputable def s_load (x : aX) (r : Int32) : aX := ((xSet x r (rApp (xR x r) (xT x))).1, xPush x, [])
def e_undo (x : aX) : Nat := if x.2.1.length = 0 then 1 else 0
def v_undo (x : aX) : Int := x.2.1.length - 1
def s_undo (x : aX) : aX := (x.2.1.getLastD x.1, x.2.1.dropLast, x.2.2)
-- what there is
noncomputable def scP (s : aS) (rr : aR) (k : Nat) (w : Int) : Int :=
  if w = 0 then (atZ rr.1 k).toInt else if w = 1 then aFirst rr k else if w = 2 then aLost rr k else if w = 3 then aTime rr 0 k else if w = 4 then aBeg rr 0 k else
  if w = 5 then (atZ rr.2.1 k).toInt else if w = 6 then (atZ rr.2.2.1 k).toInt else if w = 7 then (atZ rr.2.2.2.1 k).toInt else if w = 8 then cueI rr k (aCb s rr 0 k) 0 else
  if w = 9 then aEnd s rr 0 k else if w = 10 then aDrift s rr 0 k else aBad1 s rr 0 k
noncomputable def rlP (s : aS) (rr : aR) (w : Int) : Int :=
  if w = 0 then rr.1.length else if w = 1 then aFirst rr rr.1.length else if w = 2 then aSum (aLost rr) rr.1.length else if w = 3 then aBeg rr 0 rr.1.length else if w = 4 then rr.2.2.2.2.1.length else
  if w = 5 then rr.2.2.2.2.2.length else if w = 6 then aSum (aCue1 rr) rr.1.length else if w = 7 then aSum (aBad1 s rr 0) rr.1.length else if w = 8 then aSum (aDs1 s rr 0) rr.1.length else
  if w = 9 then aSil s rr 0 else aMus s rr 0 rr.1.length
def pcP (s : aS) (p : Int32) (w : Int) : Int := if w = 0 then (atZ s.2.1.1 p.toInt).toInt else if w = 1 then (atZ s.2.1.2.1 p.toInt).toInt else if w = 2 then (atZ s.2.1.2.2 p.toInt).toInt else cuT s p 3
noncomputable def ovR (s : aS) (w : Int) : Int := rlP s (sR s 0) w + rlP s (sR s 1) w + rlP s (sR s 2) w
noncomputable def ctP (x : aX) (w : Int) : Int :=
  if w = 0 then ovR x.1 0 else if w = 1 then x.1.2.1.1.length else if w = 2 then ovR x.1 6 else if w = 3 then ovR x.1 7 else if w = 4 then x.1.2.2.1.toInt else if w = 5 then x.1.2.2.2.toInt else
  if w = 6 then ovR x.1 3 else x.2.1.length
def e_scene (x : aX) (r s w : Int32) : Nat := if ¬ scOk x r s then 1 else if ¬ inR w 0 11 then 2 else 0
def e_reel (r w : Int32) : Nat := if ¬ rOk r then 1 else if ¬ inR w 0 10 then 2 else 0
def e_spd (r f : Int32) : Nat := if ¬ rOk r then 1 else if ¬ inR f 0 9000 then 2 else 0
def e_piece (x : aX) (p w : Int32) : Nat := if ¬ pcOk x.1 p then 1 else if ¬ inR w 0 3 then 2 else 0
def e_count (w : Int32) : Nat := if ¬ inR w 0 7 then 1 else 0
def e_bc (x : aX) (r s p : Int32) : Nat := if ¬ (scOk x r s ∧ pcOk x.1 p) then 1 else 0
noncomputable def v_bc (x : aX) (r s p : Int32) : Int := 1000 * (bestT x.1 p.toInt (aRoom x.1 (xR x r) 0 s.toInt.toNat)).1 + (bestT x.1 p.toInt (aRoom x.1 (xR x r) 0 s.toInt.toNat)).2.1
def e_bp (x : aX) (r s : Int32) : Nat := if ¬ scOk x r s then 1 else 0
/-- the best of the first pieces for the room m, and its size -/
def bpN (s : aS) (m : Int) : Nat → Int × Int
  | 0 => (-2000001, 0)
  | k + 1 => if (bpN s m k).1 = -2000001 ∨ (bestT s k m).2.2 < (bpN s m k).2 then ((k : Int), (bestT s k m).2.2) else bpN s m k
noncomputable def bpV (s : aS) (rr : aR) (k : Nat) : Int := (bpN s (aRoom s rr 0 k) s.2.1.1.length).1
def e_if (r w : Int32) : Nat := if ¬ rOk r then 1 else if ¬ inR w 10 30 then 2 else 0
/-- the best of the first speeds, and its sum of drifts -/
noncomputable def bsN (s : aS) (rr : aR) : Nat → Int × Int
  | 0 => (10, 0)
  | k + 1 => if k = 0 ∨ aSum (aDs1 s rr (10 + k)) rr.1.length < (bsN s rr k).2 then (10 + (k : Int), aSum (aDs1 s rr (10 + k)) rr.1.length) else bsN s rr k
noncomputable def bsV (s : aS) (rr : aR) : Int := (bsN s rr 21).1
noncomputable def ofV (s : aS) (rr : aR) : UInt32 := if aBeg rr 0 rr.1.length = 0 then 0 else FP.fdiv (FP.i2f (Int32.ofInt (aSum (aDs1 s rr 0) rr.1.length))) (FP.i2f (Int32.ofInt (aBeg rr 0 rr.1.length)))
noncomputable def mnV (rr : aR) : UInt64 := if aBeg rr 0 rr.1.length = 0 then 0 else FP.ddiv (FP.i2d (Int32.ofInt ((aFirst rr rr.1.length - aSum (aLost rr) rr.1.length) * 16))) (FP.ddiv (FP.i2d (Int32.ofInt (aBeg rr 0 rr.1.length))) 0x4024000000000000)
-- the digest
def mixI (h : Int64) (v : Int) : Int64 := 31 * h + Int64.ofInt v
def mixN (f : Nat → Int) (h : Int64) : Nat → Int64
  | 0 => h
  | k + 1 => mixI (mixN f h k) (f k)
noncomputable def dgPc (s : aS) (h : Int64) : Nat → Int64
  | 0 => h
  | k + 1 => mixN (fun w => pcP s (Int32.ofInt k) w) (dgPc s h k) 4
noncomputable def dgSc (s : aS) (rr : aR) (h : Int64) : Nat → Int64
  | 0 => h
  | k + 1 => mixI (mixN (fun w => scP s rr k w) (dgSc s rr h k) 12) (bpV s rr k)
noncomputable def dgRl (s : aS) (rr : aR) (h : Int64) : Int64 :=
  let h1 := dgSc s rr (mixN (fun w => rlP s rr w) h 11) rr.1.length
  let h2 := mixI (mixN (fun i => (pHold rr.2.2.2.2.1 (100 * i)).toInt) h1 10) (bsV s rr)
  31 * (31 * h2 + (ofV s rr).toUInt64.toInt64) + (mnV rr).toInt64
noncomputable def v_dg (x : aX) : Int64 :=
  let h1 := dgPc x.1 (mixN (fun w => ctP x w) 2237 8) x.1.2.1.1.length
  let h2 := dgRl x.1 (sR x.1 2) (dgRl x.1 (sR x.1 1) (dgRl x.1 (sR x.1 0) h1))
  mixN (fun i => (atZ x.2.2 i).toInt) (mixI h2 x.2.2.length) x.2.2.length
/-- reading goes one way -/
theorem rDig.one {t t1 t2 : tR} {d : Int32} (h1 : rDig t d t1) (h2 : rDig t d t2) : t1 = t2 := by
  rcases h1 with ⟨a, -, -, e1⟩ | ⟨a, -, e1⟩ | ⟨a, -, e1⟩ | ⟨a, -, e1⟩ <;> rcases h2 with ⟨b, -, -, e2⟩ | ⟨b, -, e2⟩ | ⟨b, -, e2⟩ | ⟨b, -, e2⟩ <;>
    first
    | exact e1.trans e2.symm
    | (rw [a] at b; exact absurd b (by decide))
theorem rRd.one {t t1 t2 : tR} {c : Int32} (h1 : rRd t c t1) (h2 : rRd t c t2) : t1 = t2 := by
  rcases h1 with ⟨a, -, e1⟩ | ⟨a, -, -, e1⟩ | ⟨a, -, e1⟩ | ⟨a, -, e1⟩ | ⟨a, a', e1⟩ <;> rcases h2 with ⟨b, -, e2⟩ | ⟨b, -, -, e2⟩ | ⟨b, -, e2⟩ | ⟨b, -, e2⟩ | ⟨b, b', e2⟩ <;>
    first
    | exact e1.trans e2.symm
    | exact e1.one e2
    | omega
theorem rdS_some {t t' : tR} {c : Int32} (h : rRd t c t') : rdS t c = some t' := by
  unfold rdS
  rw [dif_pos ⟨t', h⟩]
  exact congrArg some (rRd.one (Classical.choose_spec (⟨t', h⟩ : ∃ t', rRd t c t')) h)
theorem rdS_none {t : tR} {c : Int32} (h : ∀ t', ¬ rRd t c t') : rdS t c = none := by
  unfold rdS
  rw [dif_neg (fun ⟨t', z⟩ => h t' z)]
