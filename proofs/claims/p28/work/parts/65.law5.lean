/-! THE LAW: the world of its tests; calls that throw nothing -/
theorem cuIs.cg {T T' : jT} {V V' : jV} {q : Nat} {x : aX} (h : cuIs T V q x) (e : jEq T V T' V' q (q + 492)) : cuIs T' V' q x := by
  obtain ⟨sv, o, h, r⟩ := h
  exact ⟨sv, o, h.cg e, r⟩
/-- what a test's world holds: the class, the row of a reel, the pieces, the counts, what was laid; beside V0 alone what the class and the lay may change is changed -/
def tW (T : jT) (V0 V : jV) (q : Nat) (x : aX) (ra pa da ca ea : Nat) (rr : aR) (w : Int) : Prop := (∀ b, (b < q ∨ q + 492 ≤ b) → b ≠ ca → b ≠ ea → V b = V0 b) ∧ cuIs T V q x ∧ zRl (V ra) rr ∧ zPa (V pa) x.1 ∧ zDd (V da) x.1 ∧ lyO V ca ea x.1 rr w rr.1.length
abbrev dQ (q ra pa da ca ea : Nat) : Prop := q + 492 ≤ ra ∧ q + 492 ≤ pa ∧ q + 492 ≤ da ∧ q + 492 ≤ ca ∧ q + 492 ≤ ea
theorem tW.ag {T : jT} {V0 V V' : jV} {q : Nat} {x : aX} {ra pa da ca ea : Nat} {rr : aR} {w : Int} (h : tW T V0 V q x ra pa da ca ea rr w) (ha : jAg V V' q (q + 492)) (hc : cuIs T V' q x) (d : dQ q ra pa da ca ea) : tW T V0 V' q x ra pa da ca ea rr w := by
  obtain ⟨h1, h2, h3, h4, h5, h6⟩ := h
  obtain ⟨d1, d2, d3, d4, d5⟩ := d
  exact ⟨fun b hb b1 b2 => (ha b hb).trans (h1 b hb b1 b2), hc, by rw [ha ra (Or.inr d1)]; exact h3, by rw [ha pa (Or.inr d2)]; exact h4, by rw [ha da (Or.inr d3)]; exact h5, h6.cg (ha ca (Or.inr d4)) (ha ea (Or.inr d5))⟩
theorem e_sc0 {x : aX} {r s w : Int32} {z k : Nat} (hz : r.toInt = (z : Int)) (z3 : z < 3) (hs : s.toInt = (k : Int)) (hk : k < (xR x r).1.length) (w0 : 0 ≤ w.toInt) (w1 : w.toInt ≤ 11) : e_scene x r s w = 0 := by
  unfold e_scene
  rw [if_neg (fun h => h ⟨⟨by omega, by omega⟩, by omega, by omega⟩), if_neg (fun h => h ⟨w0, w1⟩)]
theorem e_rl0 {r w : Int32} {z : Nat} (hz : r.toInt = (z : Int)) (z3 : z < 3) (w0 : 0 ≤ w.toInt) (w1 : w.toInt ≤ 10) : e_reel r w = 0 := by
  unfold e_reel
  rw [if_neg (fun h => h ⟨by omega, by omega⟩), if_neg (fun h => h ⟨w0, w1⟩)]
theorem e_sp0 {r w : Int32} {z : Nat} (hz : r.toInt = (z : Int)) (z3 : z < 3) (w0 : 0 ≤ w.toInt) (w1 : w.toInt ≤ 9000) : e_spd r w = 0 := by
  unfold e_spd
  rw [if_neg (fun h => h ⟨by omega, by omega⟩), if_neg (fun h => h ⟨w0, w1⟩)]
theorem e_pi0 {x : aX} {p w : Int32} {k : Nat} (hp : p.toInt = (k : Int)) (hk : k < x.1.2.1.1.length) (w0 : 0 ≤ w.toInt) (w1 : w.toInt ≤ 3) : e_piece x p w = 0 := by
  unfold e_piece
  rw [if_neg (fun h => h ⟨by omega, by omega⟩), if_neg (fun h => h ⟨w0, w1⟩)]
theorem e_ct0 {w : Int32} (w0 : 0 ≤ w.toInt) (w1 : w.toInt ≤ 7) : e_count w = 0 := by
  unfold e_count
  rw [if_neg (fun h => h ⟨w0, w1⟩)]
theorem e_fit0 {r : Int32} {z : Nat} (hz : r.toInt = (z : Int)) (z3 : z < 3) : e_fit r = 0 := by
  unfold e_fit
  rw [if_neg (fun h => h ⟨by omega, by omega⟩)]
theorem e_bc0 {x : aX} {r s p : Int32} {z k k2 : Nat} (hz : r.toInt = (z : Int)) (z3 : z < 3) (hs : s.toInt = (k : Int)) (hk : k < (xR x r).1.length) (hp : p.toInt = (k2 : Int)) (hk2 : k2 < x.1.2.1.1.length) : e_bc x r s p = 0 := by
  unfold e_bc
  rw [if_neg (fun h => h ⟨⟨⟨by omega, by omega⟩, by omega, by omega⟩, by omega, by omega⟩)]
theorem e_bp0 {x : aX} {r s : Int32} {z k : Nat} (hz : r.toInt = (z : Int)) (z3 : z < 3) (hs : s.toInt = (k : Int)) (hk : k < (xR x r).1.length) : e_bp x r s = 0 := by
  unfold e_bp
  rw [if_neg (fun h => h ⟨⟨by omega, by omega⟩, by omega, by omega⟩)]
theorem e_if0 {r w : Int32} {z : Nat} (hz : r.toInt = (z : Int)) (z3 : z < 3) (w0 : 10 ≤ w.toInt) (w1 : w.toInt ≤ 30) : e_if r w = 0 := by
  unfold e_if
  rw [if_neg (fun h => h ⟨by omega, by omega⟩), if_neg (fun h => h ⟨w0, w1⟩)]
theorem sc_0 {s : aS} {rr : aR} {k : Nat} {i w : Int32} (hi : i.toInt = (k : Int)) (hw : w.toInt = 0) : scP s rr i.toInt.toNat w.toInt = (atZ rr.1 k).toInt := by
  rw [hi, hw, Int.toNat_natCast]; exact scP_0
theorem sc_1 {s : aS} {rr : aR} {k : Nat} {i w : Int32} (hi : i.toInt = (k : Int)) (hw : w.toInt = 1) : scP s rr i.toInt.toNat w.toInt = aFirst rr k := by
  rw [hi, hw, Int.toNat_natCast]; exact scP_1
theorem sc_2 {s : aS} {rr : aR} {k : Nat} {i w : Int32} (hi : i.toInt = (k : Int)) (hw : w.toInt = 2) : scP s rr i.toInt.toNat w.toInt = aLost rr k := by
  rw [hi, hw, Int.toNat_natCast]; exact scP_2
theorem sc_3 {s : aS} {rr : aR} {k : Nat} {i w : Int32} (hi : i.toInt = (k : Int)) (hw : w.toInt = 3) : scP s rr i.toInt.toNat w.toInt = aTime rr 0 k := by
  rw [hi, hw, Int.toNat_natCast]; exact scP_3
theorem sc_4 {s : aS} {rr : aR} {k : Nat} {i w : Int32} (hi : i.toInt = (k : Int)) (hw : w.toInt = 4) : scP s rr i.toInt.toNat w.toInt = aBeg rr 0 k := by
  rw [hi, hw, Int.toNat_natCast]; exact scP_4
theorem sc_5 {s : aS} {rr : aR} {k : Nat} {i w : Int32} (hi : i.toInt = (k : Int)) (hw : w.toInt = 5) : scP s rr i.toInt.toNat w.toInt = (atZ rr.2.1 k).toInt := by
  rw [hi, hw, Int.toNat_natCast]; exact scP_5
theorem sc_6 {s : aS} {rr : aR} {k : Nat} {i w : Int32} (hi : i.toInt = (k : Int)) (hw : w.toInt = 6) : scP s rr i.toInt.toNat w.toInt = (atZ rr.2.2.1 k).toInt := by
  rw [hi, hw, Int.toNat_natCast]; exact scP_6
theorem sc_7 {s : aS} {rr : aR} {k : Nat} {i w : Int32} (hi : i.toInt = (k : Int)) (hw : w.toInt = 7) : scP s rr i.toInt.toNat w.toInt = (atZ rr.2.2.2.1 k).toInt := by
  rw [hi, hw, Int.toNat_natCast]; exact scP_7
theorem sc_8 {s : aS} {rr : aR} {k : Nat} {i w : Int32} (hi : i.toInt = (k : Int)) (hw : w.toInt = 8) : scP s rr i.toInt.toNat w.toInt = cueI rr k (aCb s rr 0 k) 0 := by
  rw [hi, hw, Int.toNat_natCast]; exact scP_8
theorem sc_9 {s : aS} {rr : aR} {k : Nat} {i w : Int32} (hi : i.toInt = (k : Int)) (hw : w.toInt = 9) : scP s rr i.toInt.toNat w.toInt = aEnd s rr 0 k := by
  rw [hi, hw, Int.toNat_natCast]; exact scP_9
theorem sc_10 {s : aS} {rr : aR} {k : Nat} {i w : Int32} (hi : i.toInt = (k : Int)) (hw : w.toInt = 10) : scP s rr i.toInt.toNat w.toInt = aDrift s rr 0 k := by
  rw [hi, hw, Int.toNat_natCast]; exact scP_10
theorem sc_11 {s : aS} {rr : aR} {k : Nat} {i w : Int32} (hi : i.toInt = (k : Int)) (hw : w.toInt = 11) : scP s rr i.toInt.toNat w.toInt = aBad1 s rr 0 k := by
  rw [hi, hw, Int.toNat_natCast]; exact scP_11
theorem rl_0 {s : aS} {rr : aR} {w : Int32} (hw : w.toInt = 0) : rlP s rr w.toInt = rr.1.length := by
  rw [hw]; exact rlP_0
theorem rl_1 {s : aS} {rr : aR} {w : Int32} (hw : w.toInt = 1) : rlP s rr w.toInt = aFirst rr rr.1.length := by
  rw [hw]; exact rlP_1
theorem rl_2 {s : aS} {rr : aR} {w : Int32} (hw : w.toInt = 2) : rlP s rr w.toInt = aSum (aLost rr) rr.1.length := by
  rw [hw]; exact rlP_2
theorem rl_3 {s : aS} {rr : aR} {w : Int32} (hw : w.toInt = 3) : rlP s rr w.toInt = aBeg rr 0 rr.1.length := by
  rw [hw]; exact rlP_3
theorem rl_4 {s : aS} {rr : aR} {w : Int32} (hw : w.toInt = 4) : rlP s rr w.toInt = rr.2.2.2.2.1.length := by
  rw [hw]; exact rlP_4
theorem rl_5 {s : aS} {rr : aR} {w : Int32} (hw : w.toInt = 5) : rlP s rr w.toInt = rr.2.2.2.2.2.length := by
  rw [hw]; exact rlP_5
theorem rl_6 {s : aS} {rr : aR} {w : Int32} (hw : w.toInt = 6) : rlP s rr w.toInt = aSum (aCue1 rr) rr.1.length := by
  rw [hw]; exact rlP_6
theorem rl_7 {s : aS} {rr : aR} {w : Int32} (hw : w.toInt = 7) : rlP s rr w.toInt = aSum (aBad1 s rr 0) rr.1.length := by
  rw [hw]; exact rlP_7
theorem rl_8 {s : aS} {rr : aR} {w : Int32} (hw : w.toInt = 8) : rlP s rr w.toInt = aSum (aDs1 s rr 0) rr.1.length := by
  rw [hw]; exact rlP_8
theorem rl_9 {s : aS} {rr : aR} {w : Int32} (hw : w.toInt = 9) : rlP s rr w.toInt = aSil s rr 0 := by
  rw [hw]; exact rlP_9
theorem rl_10 {s : aS} {rr : aR} {w : Int32} (hw : w.toInt = 10) : rlP s rr w.toInt = aMus s rr 0 rr.1.length := by
  rw [hw]; exact rlP_10
theorem ct_0 {x : aX} {w : Int32} (hw : w.toInt = 0) : ctP x w.toInt = ctP x 0 := by
  rw [hw]
theorem ct_1 {x : aX} {w : Int32} (hw : w.toInt = 1) : ctP x w.toInt = ctP x 1 := by
  rw [hw]
theorem ct_2 {x : aX} {w : Int32} (hw : w.toInt = 2) : ctP x w.toInt = ctP x 2 := by
  rw [hw]
theorem ct_3 {x : aX} {w : Int32} (hw : w.toInt = 3) : ctP x w.toInt = ctP x 3 := by
  rw [hw]
theorem ct_4 {x : aX} {w : Int32} (hw : w.toInt = 4) : ctP x w.toInt = ctP x 4 := by
  rw [hw]
theorem ct_5 {x : aX} {w : Int32} (hw : w.toInt = 5) : ctP x w.toInt = ctP x 5 := by
  rw [hw]
theorem ct_6 {x : aX} {w : Int32} (hw : w.toInt = 6) : ctP x w.toInt = ctP x 6 := by
  rw [hw]
theorem ct_7 {x : aX} {w : Int32} (hw : w.toInt = 7) : ctP x w.toInt = ctP x 7 := by
  rw [hw]
theorem pc_0 {s : aS} {k : Nat} {p w : Int32} (hp : p.toInt = (k : Int)) (hw : w.toInt = 0) : pcP s p w.toInt = (atZ s.2.1.1 k).toInt := by
  rw [hw, pcP_0]; rw [hp]
theorem pc_1 {s : aS} {k : Nat} {p w : Int32} (hp : p.toInt = (k : Int)) (hw : w.toInt = 1) : pcP s p w.toInt = (atZ s.2.1.2.1 k).toInt := by
  rw [hw, pcP_1]; rw [hp]
theorem pc_2 {s : aS} {k : Nat} {p w : Int32} (hp : p.toInt = (k : Int)) (hw : w.toInt = 2) : pcP s p w.toInt = (atZ s.2.1.2.2 k).toInt := by
  rw [hw, pcP_2]; rw [hp]
theorem pc_3 {s : aS} {k : Nat} {p w : Int32} (hp : p.toInt = (k : Int)) (hw : w.toInt = 3) : pcP s p w.toInt = cuT s p 3 := by
  rw [hw, pcP_3]
section JLf
variable {l : Launch} {s0 : State} {D : jD} {M : jM} {R : Room} {mc ms : Nat} {Q : jQ} {pc : Nat} {L : List (Nat × Value)} {st rest : List Value} {T : jT} {V : jV} {X : jX} {sz c n : Nat}
theorem j_cCf {M2 : jM} {R2 : Room} {mc2 ms2 idx ci q na ex : Nat} {as : List Value} {fs : List (Nat ⊕ Option Nat)} {r : vw_C} {Es : List String} {z : UInt32} {x x' : aX} (d : decode M.2.1 pc = .ok (.invokevirtual idx, 3)) (hB : jB l s0 D) (hm : jmV M2 na) (hlk : Cond.methodLink M.1.cls idx M2.1 ∈ lw_tbl) (sp : Sp l s0 D M2 R2 mc2 ms2 (.ref q :: as) T V X sz (qC T V X sz q ex Es (fun v => v = some (.float z)) x x')) (he : ex = 0) (ht : T q = some (.inl (ci, fs))) (hc : vwCl[ci]? = some r) (hr : r.1 = M2.1.cls) (hn : as.length = na) (hst : st = as.reverse ++ .ref q :: rest) (hrm : jrm R R2 mc2 ms2 M2.2.2.1) (hcat : (rest.map fun v => v.category).sum ≤ 8) (hf : c + mc2 ≤ R.cells ∧ n + ms2 ≤ R.slots)
    (K : ∀ V', jAg V V' q (q + 492) → cuIs T V' q x' → J l s0 D M R mc ms Q (pc + 3) L (.float z :: rest) T V' X sz (c + mc2) (n + ms2)) : J l s0 D M R mc ms Q pc L st T V X sz c n :=
  j_cC d hB hm hlk sp he ht hc hr hn hst hrm hcat hf (by rintro v V' rfl ha hcu; exact K V' ha hcu)
theorem j_cCd {M2 : jM} {R2 : Room} {mc2 ms2 idx ci q na ex : Nat} {as : List Value} {fs : List (Nat ⊕ Option Nat)} {r : vw_C} {Es : List String} {z : UInt64} {x x' : aX} (d : decode M.2.1 pc = .ok (.invokevirtual idx, 3)) (hB : jB l s0 D) (hm : jmV M2 na) (hlk : Cond.methodLink M.1.cls idx M2.1 ∈ lw_tbl) (sp : Sp l s0 D M2 R2 mc2 ms2 (.ref q :: as) T V X sz (qC T V X sz q ex Es (fun v => v = some (.double z)) x x')) (he : ex = 0) (ht : T q = some (.inl (ci, fs))) (hc : vwCl[ci]? = some r) (hr : r.1 = M2.1.cls) (hn : as.length = na) (hst : st = as.reverse ++ .ref q :: rest) (hrm : jrm R R2 mc2 ms2 M2.2.2.1) (hcat : (rest.map fun v => v.category).sum ≤ 8) (hf : c + mc2 ≤ R.cells ∧ n + ms2 ≤ R.slots)
    (K : ∀ V', jAg V V' q (q + 492) → cuIs T V' q x' → J l s0 D M R mc ms Q (pc + 3) L (.double z :: rest) T V' X sz (c + mc2) (n + ms2)) : J l s0 D M R mc ms Q pc L st T V X sz c n :=
  j_cC d hB hm hlk sp he ht hc hr hn hst hrm hcat hf (by rintro v V' rfl ha hcu; exact K V' ha hcu)
end JLf
/-- a cue's music in the scene's reel -/
theorem aMu_t {s : aS} {r : aR} {w : Int} {k : Nat} (h : isCue r k) : aMu s r w k = max 0 (min (aMus s r w (k + 1)) (aBeg r w r.1.length) - aCb s r w k) := by
  unfold aMu aEnd
  rw [cueI_t h, cueI_t h]
theorem aMu_f {s : aS} {r : aR} {w : Int} {k : Nat} (h : ¬ isCue r k) : aMu s r w k = 0 := cueI_f h
theorem aMus_t {s : aS} {r : aR} {w : Int} {k : Nat} (h : isCue r k) : aMus s r w (k + 1) = aCb s r w k + aPlay s r k := cueI_t h
theorem aMus_f {s : aS} {r : aR} {w : Int} {k : Nat} (h : ¬ isCue r k) : aMus s r w (k + 1) = aMus s r w k := cueI_f h
theorem nc_0 {s : aS} {r : aR} {k : Nat} (h : rlW s r) (hk : k < r.1.length) (hc : ¬ isCue r k) : (atZ r.2.2.1 k).toInt = 0 ∧ (atZ r.2.2.2.1 k).toInt = 0 := by
  rcases h.2.2.2.2.2.1 k hk with ⟨-, h2, h3⟩ | ⟨h1, h2, -⟩
  · rw [h2, h3]; exact ⟨rfl, rfl⟩
  · exact absurd (isCue_iff.mpr (by omega)) hc
