/-! SWITCHES with their targets, one premise a case -/
section JSw
variable {l : Launch} {s0 : State} {D : jD} {M : jM} {R : Room} {mc ms : Nat} {Q : jQ} {pc : Nat} {L : List (Nat × Value)} {st rest : List Value} {T : jT} {V : jV} {X : jX} {sz c n : Nat}
theorem j_tsw_3 {od lo hi o0 o1 o2 : Int} {td t0 t1 t2 : Nat} {len : Nat} {x : Int32} (d : decode M.2.1 pc = .ok (.tableswitch od lo hi #[o0, o1, o2], len)) (hh : hi = lo + 2) (he : (pc : Int) + od = (td : Int) ∧ (pc : Int) + o0 = (t0 : Int) ∧ (pc : Int) + o1 = (t1 : Int) ∧ (pc : Int) + o2 = (t2 : Int)) (k0 : x.toInt = lo + 0 → J l s0 D M R mc ms Q t0 L rest T V X sz c n) (k1 : x.toInt = lo + 1 → J l s0 D M R mc ms Q t1 L rest T V X sz c n) (k2 : x.toInt = lo + 2 → J l s0 D M R mc ms Q t2 L rest T V X sz c n) (kd : x.toInt < lo ∨ hi < x.toInt → J l s0 D M R mc ms Q td L rest T V X sz c n) : J l s0 D M R mc ms Q pc L (.int x :: rest) T V X sz c n := by
  obtain ⟨ed, e0, e1, e2⟩ := he
  by_cases hd : x.toInt < lo ∨ hi < x.toInt
  · exact j_tswO d hd ed (kd hd)
  by_cases h0 : x.toInt = lo + 0
  · exact j_tsw (i := 0) d h0 (by omega) rfl e0 (k0 h0)
  by_cases h1 : x.toInt = lo + 1
  · exact j_tsw (i := 1) d h1 (by omega) rfl e1 (k1 h1)
  by_cases h2 : x.toInt = lo + 2
  · exact j_tsw (i := 2) d h2 (by omega) rfl e2 (k2 h2)
  exact absurd hd (by omega)
theorem j_tsw_4 {od lo hi o0 o1 o2 o3 : Int} {td t0 t1 t2 t3 : Nat} {len : Nat} {x : Int32} (d : decode M.2.1 pc = .ok (.tableswitch od lo hi #[o0, o1, o2, o3], len)) (hh : hi = lo + 3) (he : (pc : Int) + od = (td : Int) ∧ (pc : Int) + o0 = (t0 : Int) ∧ (pc : Int) + o1 = (t1 : Int) ∧ (pc : Int) + o2 = (t2 : Int) ∧ (pc : Int) + o3 = (t3 : Int)) (k0 : x.toInt = lo + 0 → J l s0 D M R mc ms Q t0 L rest T V X sz c n) (k1 : x.toInt = lo + 1 → J l s0 D M R mc ms Q t1 L rest T V X sz c n) (k2 : x.toInt = lo + 2 → J l s0 D M R mc ms Q t2 L rest T V X sz c n) (k3 : x.toInt = lo + 3 → J l s0 D M R mc ms Q t3 L rest T V X sz c n) (kd : x.toInt < lo ∨ hi < x.toInt → J l s0 D M R mc ms Q td L rest T V X sz c n) : J l s0 D M R mc ms Q pc L (.int x :: rest) T V X sz c n := by
  obtain ⟨ed, e0, e1, e2, e3⟩ := he
  by_cases hd : x.toInt < lo ∨ hi < x.toInt
  · exact j_tswO d hd ed (kd hd)
  by_cases h0 : x.toInt = lo + 0
  · exact j_tsw (i := 0) d h0 (by omega) rfl e0 (k0 h0)
  by_cases h1 : x.toInt = lo + 1
  · exact j_tsw (i := 1) d h1 (by omega) rfl e1 (k1 h1)
  by_cases h2 : x.toInt = lo + 2
  · exact j_tsw (i := 2) d h2 (by omega) rfl e2 (k2 h2)
  by_cases h3 : x.toInt = lo + 3
  · exact j_tsw (i := 3) d h3 (by omega) rfl e3 (k3 h3)
  exact absurd hd (by omega)
theorem j_tsw_5 {od lo hi o0 o1 o2 o3 o4 : Int} {td t0 t1 t2 t3 t4 : Nat} {len : Nat} {x : Int32} (d : decode M.2.1 pc = .ok (.tableswitch od lo hi #[o0, o1, o2, o3, o4], len)) (hh : hi = lo + 4) (he : (pc : Int) + od = (td : Int) ∧ (pc : Int) + o0 = (t0 : Int) ∧ (pc : Int) + o1 = (t1 : Int) ∧ (pc : Int) + o2 = (t2 : Int) ∧ (pc : Int) + o3 = (t3 : Int) ∧ (pc : Int) + o4 = (t4 : Int)) (k0 : x.toInt = lo + 0 → J l s0 D M R mc ms Q t0 L rest T V X sz c n) (k1 : x.toInt = lo + 1 → J l s0 D M R mc ms Q t1 L rest T V X sz c n) (k2 : x.toInt = lo + 2 → J l s0 D M R mc ms Q t2 L rest T V X sz c n) (k3 : x.toInt = lo + 3 → J l s0 D M R mc ms Q t3 L rest T V X sz c n) (k4 : x.toInt = lo + 4 → J l s0 D M R mc ms Q t4 L rest T V X sz c n) (kd : x.toInt < lo ∨ hi < x.toInt → J l s0 D M R mc ms Q td L rest T V X sz c n) : J l s0 D M R mc ms Q pc L (.int x :: rest) T V X sz c n := by
  obtain ⟨ed, e0, e1, e2, e3, e4⟩ := he
  by_cases hd : x.toInt < lo ∨ hi < x.toInt
  · exact j_tswO d hd ed (kd hd)
  by_cases h0 : x.toInt = lo + 0
  · exact j_tsw (i := 0) d h0 (by omega) rfl e0 (k0 h0)
  by_cases h1 : x.toInt = lo + 1
  · exact j_tsw (i := 1) d h1 (by omega) rfl e1 (k1 h1)
  by_cases h2 : x.toInt = lo + 2
  · exact j_tsw (i := 2) d h2 (by omega) rfl e2 (k2 h2)
  by_cases h3 : x.toInt = lo + 3
  · exact j_tsw (i := 3) d h3 (by omega) rfl e3 (k3 h3)
  by_cases h4 : x.toInt = lo + 4
  · exact j_tsw (i := 4) d h4 (by omega) rfl e4 (k4 h4)
  exact absurd hd (by omega)
theorem j_tsw_6 {od lo hi o0 o1 o2 o3 o4 o5 : Int} {td t0 t1 t2 t3 t4 t5 : Nat} {len : Nat} {x : Int32} (d : decode M.2.1 pc = .ok (.tableswitch od lo hi #[o0, o1, o2, o3, o4, o5], len)) (hh : hi = lo + 5) (he : (pc : Int) + od = (td : Int) ∧ (pc : Int) + o0 = (t0 : Int) ∧ (pc : Int) + o1 = (t1 : Int) ∧ (pc : Int) + o2 = (t2 : Int) ∧ (pc : Int) + o3 = (t3 : Int) ∧ (pc : Int) + o4 = (t4 : Int) ∧ (pc : Int) + o5 = (t5 : Int)) (k0 : x.toInt = lo + 0 → J l s0 D M R mc ms Q t0 L rest T V X sz c n) (k1 : x.toInt = lo + 1 → J l s0 D M R mc ms Q t1 L rest T V X sz c n) (k2 : x.toInt = lo + 2 → J l s0 D M R mc ms Q t2 L rest T V X sz c n) (k3 : x.toInt = lo + 3 → J l s0 D M R mc ms Q t3 L rest T V X sz c n) (k4 : x.toInt = lo + 4 → J l s0 D M R mc ms Q t4 L rest T V X sz c n) (k5 : x.toInt = lo + 5 → J l s0 D M R mc ms Q t5 L rest T V X sz c n) (kd : x.toInt < lo ∨ hi < x.toInt → J l s0 D M R mc ms Q td L rest T V X sz c n) : J l s0 D M R mc ms Q pc L (.int x :: rest) T V X sz c n := by
  obtain ⟨ed, e0, e1, e2, e3, e4, e5⟩ := he
  by_cases hd : x.toInt < lo ∨ hi < x.toInt
  · exact j_tswO d hd ed (kd hd)
  by_cases h0 : x.toInt = lo + 0
  · exact j_tsw (i := 0) d h0 (by omega) rfl e0 (k0 h0)
  by_cases h1 : x.toInt = lo + 1
  · exact j_tsw (i := 1) d h1 (by omega) rfl e1 (k1 h1)
  by_cases h2 : x.toInt = lo + 2
  · exact j_tsw (i := 2) d h2 (by omega) rfl e2 (k2 h2)
  by_cases h3 : x.toInt = lo + 3
  · exact j_tsw (i := 3) d h3 (by omega) rfl e3 (k3 h3)
  by_cases h4 : x.toInt = lo + 4
  · exact j_tsw (i := 4) d h4 (by omega) rfl e4 (k4 h4)
  by_cases h5 : x.toInt = lo + 5
  · exact j_tsw (i := 5) d h5 (by omega) rfl e5 (k5 h5)
  exact absurd hd (by omega)
theorem j_tsw_7 {od lo hi o0 o1 o2 o3 o4 o5 o6 : Int} {td t0 t1 t2 t3 t4 t5 t6 : Nat} {len : Nat} {x : Int32} (d : decode M.2.1 pc = .ok (.tableswitch od lo hi #[o0, o1, o2, o3, o4, o5, o6], len)) (hh : hi = lo + 6) (he : (pc : Int) + od = (td : Int) ∧ (pc : Int) + o0 = (t0 : Int) ∧ (pc : Int) + o1 = (t1 : Int) ∧ (pc : Int) + o2 = (t2 : Int) ∧ (pc : Int) + o3 = (t3 : Int) ∧ (pc : Int) + o4 = (t4 : Int) ∧ (pc : Int) + o5 = (t5 : Int) ∧ (pc : Int) + o6 = (t6 : Int)) (k0 : x.toInt = lo + 0 → J l s0 D M R mc ms Q t0 L rest T V X sz c n) (k1 : x.toInt = lo + 1 → J l s0 D M R mc ms Q t1 L rest T V X sz c n) (k2 : x.toInt = lo + 2 → J l s0 D M R mc ms Q t2 L rest T V X sz c n) (k3 : x.toInt = lo + 3 → J l s0 D M R mc ms Q t3 L rest T V X sz c n) (k4 : x.toInt = lo + 4 → J l s0 D M R mc ms Q t4 L rest T V X sz c n) (k5 : x.toInt = lo + 5 → J l s0 D M R mc ms Q t5 L rest T V X sz c n) (k6 : x.toInt = lo + 6 → J l s0 D M R mc ms Q t6 L rest T V X sz c n) (kd : x.toInt < lo ∨ hi < x.toInt → J l s0 D M R mc ms Q td L rest T V X sz c n) : J l s0 D M R mc ms Q pc L (.int x :: rest) T V X sz c n := by
  obtain ⟨ed, e0, e1, e2, e3, e4, e5, e6⟩ := he
  by_cases hd : x.toInt < lo ∨ hi < x.toInt
  · exact j_tswO d hd ed (kd hd)
  by_cases h0 : x.toInt = lo + 0
  · exact j_tsw (i := 0) d h0 (by omega) rfl e0 (k0 h0)
  by_cases h1 : x.toInt = lo + 1
  · exact j_tsw (i := 1) d h1 (by omega) rfl e1 (k1 h1)
  by_cases h2 : x.toInt = lo + 2
  · exact j_tsw (i := 2) d h2 (by omega) rfl e2 (k2 h2)
  by_cases h3 : x.toInt = lo + 3
  · exact j_tsw (i := 3) d h3 (by omega) rfl e3 (k3 h3)
  by_cases h4 : x.toInt = lo + 4
  · exact j_tsw (i := 4) d h4 (by omega) rfl e4 (k4 h4)
  by_cases h5 : x.toInt = lo + 5
  · exact j_tsw (i := 5) d h5 (by omega) rfl e5 (k5 h5)
  by_cases h6 : x.toInt = lo + 6
  · exact j_tsw (i := 6) d h6 (by omega) rfl e6 (k6 h6)
  exact absurd hd (by omega)
theorem j_tsw_10 {od lo hi o0 o1 o2 o3 o4 o5 o6 o7 o8 o9 : Int} {td t0 t1 t2 t3 t4 t5 t6 t7 t8 t9 : Nat} {len : Nat} {x : Int32} (d : decode M.2.1 pc = .ok (.tableswitch od lo hi #[o0, o1, o2, o3, o4, o5, o6, o7, o8, o9], len)) (hh : hi = lo + 9) (he : (pc : Int) + od = (td : Int) ∧ (pc : Int) + o0 = (t0 : Int) ∧ (pc : Int) + o1 = (t1 : Int) ∧ (pc : Int) + o2 = (t2 : Int) ∧ (pc : Int) + o3 = (t3 : Int) ∧ (pc : Int) + o4 = (t4 : Int) ∧ (pc : Int) + o5 = (t5 : Int) ∧ (pc : Int) + o6 = (t6 : Int) ∧ (pc : Int) + o7 = (t7 : Int) ∧ (pc : Int) + o8 = (t8 : Int) ∧ (pc : Int) + o9 = (t9 : Int)) (k0 : x.toInt = lo + 0 → J l s0 D M R mc ms Q t0 L rest T V X sz c n) (k1 : x.toInt = lo + 1 → J l s0 D M R mc ms Q t1 L rest T V X sz c n) (k2 : x.toInt = lo + 2 → J l s0 D M R mc ms Q t2 L rest T V X sz c n) (k3 : x.toInt = lo + 3 → J l s0 D M R mc ms Q t3 L rest T V X sz c n) (k4 : x.toInt = lo + 4 → J l s0 D M R mc ms Q t4 L rest T V X sz c n) (k5 : x.toInt = lo + 5 → J l s0 D M R mc ms Q t5 L rest T V X sz c n) (k6 : x.toInt = lo + 6 → J l s0 D M R mc ms Q t6 L rest T V X sz c n) (k7 : x.toInt = lo + 7 → J l s0 D M R mc ms Q t7 L rest T V X sz c n) (k8 : x.toInt = lo + 8 → J l s0 D M R mc ms Q t8 L rest T V X sz c n) (k9 : x.toInt = lo + 9 → J l s0 D M R mc ms Q t9 L rest T V X sz c n) (kd : x.toInt < lo ∨ hi < x.toInt → J l s0 D M R mc ms Q td L rest T V X sz c n) : J l s0 D M R mc ms Q pc L (.int x :: rest) T V X sz c n := by
  obtain ⟨ed, e0, e1, e2, e3, e4, e5, e6, e7, e8, e9⟩ := he
  by_cases hd : x.toInt < lo ∨ hi < x.toInt
  · exact j_tswO d hd ed (kd hd)
  by_cases h0 : x.toInt = lo + 0
  · exact j_tsw (i := 0) d h0 (by omega) rfl e0 (k0 h0)
  by_cases h1 : x.toInt = lo + 1
  · exact j_tsw (i := 1) d h1 (by omega) rfl e1 (k1 h1)
  by_cases h2 : x.toInt = lo + 2
  · exact j_tsw (i := 2) d h2 (by omega) rfl e2 (k2 h2)
  by_cases h3 : x.toInt = lo + 3
  · exact j_tsw (i := 3) d h3 (by omega) rfl e3 (k3 h3)
  by_cases h4 : x.toInt = lo + 4
  · exact j_tsw (i := 4) d h4 (by omega) rfl e4 (k4 h4)
  by_cases h5 : x.toInt = lo + 5
  · exact j_tsw (i := 5) d h5 (by omega) rfl e5 (k5 h5)
  by_cases h6 : x.toInt = lo + 6
  · exact j_tsw (i := 6) d h6 (by omega) rfl e6 (k6 h6)
  by_cases h7 : x.toInt = lo + 7
  · exact j_tsw (i := 7) d h7 (by omega) rfl e7 (k7 h7)
  by_cases h8 : x.toInt = lo + 8
  · exact j_tsw (i := 8) d h8 (by omega) rfl e8 (k8 h8)
  by_cases h9 : x.toInt = lo + 9
  · exact j_tsw (i := 9) d h9 (by omega) rfl e9 (k9 h9)
  exact absurd hd (by omega)
theorem j_tsw_11 {od lo hi o0 o1 o2 o3 o4 o5 o6 o7 o8 o9 o10 : Int} {td t0 t1 t2 t3 t4 t5 t6 t7 t8 t9 t10 : Nat} {len : Nat} {x : Int32} (d : decode M.2.1 pc = .ok (.tableswitch od lo hi #[o0, o1, o2, o3, o4, o5, o6, o7, o8, o9, o10], len)) (hh : hi = lo + 10) (he : (pc : Int) + od = (td : Int) ∧ (pc : Int) + o0 = (t0 : Int) ∧ (pc : Int) + o1 = (t1 : Int) ∧ (pc : Int) + o2 = (t2 : Int) ∧ (pc : Int) + o3 = (t3 : Int) ∧ (pc : Int) + o4 = (t4 : Int) ∧ (pc : Int) + o5 = (t5 : Int) ∧ (pc : Int) + o6 = (t6 : Int) ∧ (pc : Int) + o7 = (t7 : Int) ∧ (pc : Int) + o8 = (t8 : Int) ∧ (pc : Int) + o9 = (t9 : Int) ∧ (pc : Int) + o10 = (t10 : Int)) (k0 : x.toInt = lo + 0 → J l s0 D M R mc ms Q t0 L rest T V X sz c n) (k1 : x.toInt = lo + 1 → J l s0 D M R mc ms Q t1 L rest T V X sz c n) (k2 : x.toInt = lo + 2 → J l s0 D M R mc ms Q t2 L rest T V X sz c n) (k3 : x.toInt = lo + 3 → J l s0 D M R mc ms Q t3 L rest T V X sz c n) (k4 : x.toInt = lo + 4 → J l s0 D M R mc ms Q t4 L rest T V X sz c n) (k5 : x.toInt = lo + 5 → J l s0 D M R mc ms Q t5 L rest T V X sz c n) (k6 : x.toInt = lo + 6 → J l s0 D M R mc ms Q t6 L rest T V X sz c n) (k7 : x.toInt = lo + 7 → J l s0 D M R mc ms Q t7 L rest T V X sz c n) (k8 : x.toInt = lo + 8 → J l s0 D M R mc ms Q t8 L rest T V X sz c n) (k9 : x.toInt = lo + 9 → J l s0 D M R mc ms Q t9 L rest T V X sz c n) (k10 : x.toInt = lo + 10 → J l s0 D M R mc ms Q t10 L rest T V X sz c n) (kd : x.toInt < lo ∨ hi < x.toInt → J l s0 D M R mc ms Q td L rest T V X sz c n) : J l s0 D M R mc ms Q pc L (.int x :: rest) T V X sz c n := by
  obtain ⟨ed, e0, e1, e2, e3, e4, e5, e6, e7, e8, e9, e10⟩ := he
  by_cases hd : x.toInt < lo ∨ hi < x.toInt
  · exact j_tswO d hd ed (kd hd)
  by_cases h0 : x.toInt = lo + 0
  · exact j_tsw (i := 0) d h0 (by omega) rfl e0 (k0 h0)
  by_cases h1 : x.toInt = lo + 1
  · exact j_tsw (i := 1) d h1 (by omega) rfl e1 (k1 h1)
  by_cases h2 : x.toInt = lo + 2
  · exact j_tsw (i := 2) d h2 (by omega) rfl e2 (k2 h2)
  by_cases h3 : x.toInt = lo + 3
  · exact j_tsw (i := 3) d h3 (by omega) rfl e3 (k3 h3)
  by_cases h4 : x.toInt = lo + 4
  · exact j_tsw (i := 4) d h4 (by omega) rfl e4 (k4 h4)
  by_cases h5 : x.toInt = lo + 5
  · exact j_tsw (i := 5) d h5 (by omega) rfl e5 (k5 h5)
  by_cases h6 : x.toInt = lo + 6
  · exact j_tsw (i := 6) d h6 (by omega) rfl e6 (k6 h6)
  by_cases h7 : x.toInt = lo + 7
  · exact j_tsw (i := 7) d h7 (by omega) rfl e7 (k7 h7)
  by_cases h8 : x.toInt = lo + 8
  · exact j_tsw (i := 8) d h8 (by omega) rfl e8 (k8 h8)
  by_cases h9 : x.toInt = lo + 9
  · exact j_tsw (i := 9) d h9 (by omega) rfl e9 (k9 h9)
  by_cases h10 : x.toInt = lo + 10
  · exact j_tsw (i := 10) d h10 (by omega) rfl e10 (k10 h10)
  exact absurd hd (by omega)
theorem j_tsw_25 {od lo hi o0 o1 o2 o3 o4 o5 o6 o7 o8 o9 o10 o11 o12 o13 o14 o15 o16 o17 o18 o19 o20 o21 o22 o23 o24 : Int} {td t0 t1 t2 t3 t4 t5 t6 t7 t8 t9 t10 t11 t12 t13 t14 t15 t16 t17 t18 t19 t20 t21 t22 t23 t24 : Nat} {len : Nat} {x : Int32} (d : decode M.2.1 pc = .ok (.tableswitch od lo hi #[o0, o1, o2, o3, o4, o5, o6, o7, o8, o9, o10, o11, o12, o13, o14, o15, o16, o17, o18, o19, o20, o21, o22, o23, o24], len)) (hh : hi = lo + 24) (he : (pc : Int) + od = (td : Int) ∧ (pc : Int) + o0 = (t0 : Int) ∧ (pc : Int) + o1 = (t1 : Int) ∧ (pc : Int) + o2 = (t2 : Int) ∧ (pc : Int) + o3 = (t3 : Int) ∧ (pc : Int) + o4 = (t4 : Int) ∧ (pc : Int) + o5 = (t5 : Int) ∧ (pc : Int) + o6 = (t6 : Int) ∧ (pc : Int) + o7 = (t7 : Int) ∧ (pc : Int) + o8 = (t8 : Int) ∧ (pc : Int) + o9 = (t9 : Int) ∧ (pc : Int) + o10 = (t10 : Int) ∧ (pc : Int) + o11 = (t11 : Int) ∧ (pc : Int) + o12 = (t12 : Int) ∧ (pc : Int) + o13 = (t13 : Int) ∧ (pc : Int) + o14 = (t14 : Int) ∧ (pc : Int) + o15 = (t15 : Int) ∧ (pc : Int) + o16 = (t16 : Int) ∧ (pc : Int) + o17 = (t17 : Int) ∧ (pc : Int) + o18 = (t18 : Int) ∧ (pc : Int) + o19 = (t19 : Int) ∧ (pc : Int) + o20 = (t20 : Int) ∧ (pc : Int) + o21 = (t21 : Int) ∧ (pc : Int) + o22 = (t22 : Int) ∧ (pc : Int) + o23 = (t23 : Int) ∧ (pc : Int) + o24 = (t24 : Int)) (k0 : x.toInt = lo + 0 → J l s0 D M R mc ms Q t0 L rest T V X sz c n) (k1 : x.toInt = lo + 1 → J l s0 D M R mc ms Q t1 L rest T V X sz c n) (k2 : x.toInt = lo + 2 → J l s0 D M R mc ms Q t2 L rest T V X sz c n) (k3 : x.toInt = lo + 3 → J l s0 D M R mc ms Q t3 L rest T V X sz c n) (k4 : x.toInt = lo + 4 → J l s0 D M R mc ms Q t4 L rest T V X sz c n) (k5 : x.toInt = lo + 5 → J l s0 D M R mc ms Q t5 L rest T V X sz c n) (k6 : x.toInt = lo + 6 → J l s0 D M R mc ms Q t6 L rest T V X sz c n) (k7 : x.toInt = lo + 7 → J l s0 D M R mc ms Q t7 L rest T V X sz c n) (k8 : x.toInt = lo + 8 → J l s0 D M R mc ms Q t8 L rest T V X sz c n) (k9 : x.toInt = lo + 9 → J l s0 D M R mc ms Q t9 L rest T V X sz c n) (k10 : x.toInt = lo + 10 → J l s0 D M R mc ms Q t10 L rest T V X sz c n) (k11 : x.toInt = lo + 11 → J l s0 D M R mc ms Q t11 L rest T V X sz c n) (k12 : x.toInt = lo + 12 → J l s0 D M R mc ms Q t12 L rest T V X sz c n) (k13 : x.toInt = lo + 13 → J l s0 D M R mc ms Q t13 L rest T V X sz c n) (k14 : x.toInt = lo + 14 → J l s0 D M R mc ms Q t14 L rest T V X sz c n) (k15 : x.toInt = lo + 15 → J l s0 D M R mc ms Q t15 L rest T V X sz c n) (k16 : x.toInt = lo + 16 → J l s0 D M R mc ms Q t16 L rest T V X sz c n) (k17 : x.toInt = lo + 17 → J l s0 D M R mc ms Q t17 L rest T V X sz c n) (k18 : x.toInt = lo + 18 → J l s0 D M R mc ms Q t18 L rest T V X sz c n) (k19 : x.toInt = lo + 19 → J l s0 D M R mc ms Q t19 L rest T V X sz c n) (k20 : x.toInt = lo + 20 → J l s0 D M R mc ms Q t20 L rest T V X sz c n) (k21 : x.toInt = lo + 21 → J l s0 D M R mc ms Q t21 L rest T V X sz c n) (k22 : x.toInt = lo + 22 → J l s0 D M R mc ms Q t22 L rest T V X sz c n) (k23 : x.toInt = lo + 23 → J l s0 D M R mc ms Q t23 L rest T V X sz c n) (k24 : x.toInt = lo + 24 → J l s0 D M R mc ms Q t24 L rest T V X sz c n) (kd : x.toInt < lo ∨ hi < x.toInt → J l s0 D M R mc ms Q td L rest T V X sz c n) : J l s0 D M R mc ms Q pc L (.int x :: rest) T V X sz c n := by
  obtain ⟨ed, e0, e1, e2, e3, e4, e5, e6, e7, e8, e9, e10, e11, e12, e13, e14, e15, e16, e17, e18, e19, e20, e21, e22, e23, e24⟩ := he
  by_cases hd : x.toInt < lo ∨ hi < x.toInt
  · exact j_tswO d hd ed (kd hd)
  by_cases h0 : x.toInt = lo + 0
  · exact j_tsw (i := 0) d h0 (by omega) rfl e0 (k0 h0)
  by_cases h1 : x.toInt = lo + 1
  · exact j_tsw (i := 1) d h1 (by omega) rfl e1 (k1 h1)
  by_cases h2 : x.toInt = lo + 2
  · exact j_tsw (i := 2) d h2 (by omega) rfl e2 (k2 h2)
  by_cases h3 : x.toInt = lo + 3
  · exact j_tsw (i := 3) d h3 (by omega) rfl e3 (k3 h3)
  by_cases h4 : x.toInt = lo + 4
  · exact j_tsw (i := 4) d h4 (by omega) rfl e4 (k4 h4)
  by_cases h5 : x.toInt = lo + 5
  · exact j_tsw (i := 5) d h5 (by omega) rfl e5 (k5 h5)
  by_cases h6 : x.toInt = lo + 6
  · exact j_tsw (i := 6) d h6 (by omega) rfl e6 (k6 h6)
  by_cases h7 : x.toInt = lo + 7
  · exact j_tsw (i := 7) d h7 (by omega) rfl e7 (k7 h7)
  by_cases h8 : x.toInt = lo + 8
  · exact j_tsw (i := 8) d h8 (by omega) rfl e8 (k8 h8)
  by_cases h9 : x.toInt = lo + 9
  · exact j_tsw (i := 9) d h9 (by omega) rfl e9 (k9 h9)
  by_cases h10 : x.toInt = lo + 10
  · exact j_tsw (i := 10) d h10 (by omega) rfl e10 (k10 h10)
  by_cases h11 : x.toInt = lo + 11
  · exact j_tsw (i := 11) d h11 (by omega) rfl e11 (k11 h11)
  by_cases h12 : x.toInt = lo + 12
  · exact j_tsw (i := 12) d h12 (by omega) rfl e12 (k12 h12)
  by_cases h13 : x.toInt = lo + 13
  · exact j_tsw (i := 13) d h13 (by omega) rfl e13 (k13 h13)
  by_cases h14 : x.toInt = lo + 14
  · exact j_tsw (i := 14) d h14 (by omega) rfl e14 (k14 h14)
  by_cases h15 : x.toInt = lo + 15
  · exact j_tsw (i := 15) d h15 (by omega) rfl e15 (k15 h15)
  by_cases h16 : x.toInt = lo + 16
  · exact j_tsw (i := 16) d h16 (by omega) rfl e16 (k16 h16)
  by_cases h17 : x.toInt = lo + 17
  · exact j_tsw (i := 17) d h17 (by omega) rfl e17 (k17 h17)
  by_cases h18 : x.toInt = lo + 18
  · exact j_tsw (i := 18) d h18 (by omega) rfl e18 (k18 h18)
  by_cases h19 : x.toInt = lo + 19
  · exact j_tsw (i := 19) d h19 (by omega) rfl e19 (k19 h19)
  by_cases h20 : x.toInt = lo + 20
  · exact j_tsw (i := 20) d h20 (by omega) rfl e20 (k20 h20)
  by_cases h21 : x.toInt = lo + 21
  · exact j_tsw (i := 21) d h21 (by omega) rfl e21 (k21 h21)
  by_cases h22 : x.toInt = lo + 22
  · exact j_tsw (i := 22) d h22 (by omega) rfl e22 (k22 h22)
  by_cases h23 : x.toInt = lo + 23
  · exact j_tsw (i := 23) d h23 (by omega) rfl e23 (k23 h23)
  by_cases h24 : x.toInt = lo + 24
  · exact j_tsw (i := 24) d h24 (by omega) rfl e24 (k24 h24)
  exact absurd hd (by omega)
theorem j_lsw_3 {od v0 v1 v2 o0 o1 o2 : Int} {td t0 t1 t2 : Nat} {len : Nat} {x : Int32} (d : decode M.2.1 pc = .ok (.lookupswitch od #[(v0, o0), (v1, o1), (v2, o2)], len)) (hs : v0 < v1 ∧ v1 < v2) (he : (pc : Int) + od = (td : Int) ∧ (pc : Int) + o0 = (t0 : Int) ∧ (pc : Int) + o1 = (t1 : Int) ∧ (pc : Int) + o2 = (t2 : Int)) (k0 : x.toInt = v0 → J l s0 D M R mc ms Q t0 L rest T V X sz c n) (k1 : x.toInt = v1 → J l s0 D M R mc ms Q t1 L rest T V X sz c n) (k2 : x.toInt = v2 → J l s0 D M R mc ms Q t2 L rest T V X sz c n) (kd : x.toInt ≠ v0 → x.toInt ≠ v1 → x.toInt ≠ v2 → J l s0 D M R mc ms Q td L rest T V X sz c n) : J l s0 D M R mc ms Q pc L (.int x :: rest) T V X sz c n := by
  obtain ⟨ed, e0, e1, e2⟩ := he
  have hp : ((#[(v0, o0), (v1, o1), (v2, o2)] : Array (Int × Int)).toList.zip ((#[(v0, o0), (v1, o1), (v2, o2)] : Array (Int × Int)).toList.drop 1)).all (fun (a, next) => a.1 < next.1) = true := by
    simp
    omega
  by_cases h0 : x.toInt = v0
  · exact j_lsw (off := o0) d hp (by rw [h0]; simp [Op.lookupswitch.offset]; try omega) e0 (k0 h0)
  by_cases h1 : x.toInt = v1
  · exact j_lsw (off := o1) d hp (by rw [h1]; simp [Op.lookupswitch.offset]; try omega) e1 (k1 h1)
  by_cases h2 : x.toInt = v2
  · exact j_lsw (off := o2) d hp (by rw [h2]; simp [Op.lookupswitch.offset]; try omega) e2 (k2 h2)
  exact j_lsw (off := od) d hp (by simp [Op.lookupswitch.offset]; try omega) ed (kd h0 h1 h2)
theorem j_lsw_4 {od v0 v1 v2 v3 o0 o1 o2 o3 : Int} {td t0 t1 t2 t3 : Nat} {len : Nat} {x : Int32} (d : decode M.2.1 pc = .ok (.lookupswitch od #[(v0, o0), (v1, o1), (v2, o2), (v3, o3)], len)) (hs : v0 < v1 ∧ v1 < v2 ∧ v2 < v3) (he : (pc : Int) + od = (td : Int) ∧ (pc : Int) + o0 = (t0 : Int) ∧ (pc : Int) + o1 = (t1 : Int) ∧ (pc : Int) + o2 = (t2 : Int) ∧ (pc : Int) + o3 = (t3 : Int)) (k0 : x.toInt = v0 → J l s0 D M R mc ms Q t0 L rest T V X sz c n) (k1 : x.toInt = v1 → J l s0 D M R mc ms Q t1 L rest T V X sz c n) (k2 : x.toInt = v2 → J l s0 D M R mc ms Q t2 L rest T V X sz c n) (k3 : x.toInt = v3 → J l s0 D M R mc ms Q t3 L rest T V X sz c n) (kd : x.toInt ≠ v0 → x.toInt ≠ v1 → x.toInt ≠ v2 → x.toInt ≠ v3 → J l s0 D M R mc ms Q td L rest T V X sz c n) : J l s0 D M R mc ms Q pc L (.int x :: rest) T V X sz c n := by
  obtain ⟨ed, e0, e1, e2, e3⟩ := he
  have hp : ((#[(v0, o0), (v1, o1), (v2, o2), (v3, o3)] : Array (Int × Int)).toList.zip ((#[(v0, o0), (v1, o1), (v2, o2), (v3, o3)] : Array (Int × Int)).toList.drop 1)).all (fun (a, next) => a.1 < next.1) = true := by
    simp
    omega
  by_cases h0 : x.toInt = v0
  · exact j_lsw (off := o0) d hp (by rw [h0]; simp [Op.lookupswitch.offset]; try omega) e0 (k0 h0)
  by_cases h1 : x.toInt = v1
  · exact j_lsw (off := o1) d hp (by rw [h1]; simp [Op.lookupswitch.offset]; try omega) e1 (k1 h1)
  by_cases h2 : x.toInt = v2
  · exact j_lsw (off := o2) d hp (by rw [h2]; simp [Op.lookupswitch.offset]; try omega) e2 (k2 h2)
  by_cases h3 : x.toInt = v3
  · exact j_lsw (off := o3) d hp (by rw [h3]; simp [Op.lookupswitch.offset]; try omega) e3 (k3 h3)
  exact j_lsw (off := od) d hp (by simp [Op.lookupswitch.offset]; try omega) ed (kd h0 h1 h2 h3)
end JSw
