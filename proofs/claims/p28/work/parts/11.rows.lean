/-! THE ROWS: an instruction, a row -/
section JF
variable {l : Launch} {s0 : State} {D : jD} {M : jM} {R : Room} {mc ms : Nat} {Q : jQ} {pc : Nat} {L : List (Nat × Value)} {st rest : List Value} {T : jT} {V : jV} {X : jX} {sz c n : Nat}
theorem j_iadd {x y : Int32} (d : decode M.2.1 pc = .ok (.iadd, 1))  (k : J l s0 D M R mc ms Q (pc + 1) L (.int (x + y) :: rest) T V X sz c n) : J l s0 D M R mc ms Q pc L (.int y :: .int x :: rest) T V X sz c n := fun p e s m args below meth cd H locs ls hC hH hl => lv_iadd hC.1 hC.2.1 d  (k p e s m args below meth cd H locs ls hC hH hl)
theorem j_isub {x y : Int32} (d : decode M.2.1 pc = .ok (.isub, 1))  (k : J l s0 D M R mc ms Q (pc + 1) L (.int (x - y) :: rest) T V X sz c n) : J l s0 D M R mc ms Q pc L (.int y :: .int x :: rest) T V X sz c n := fun p e s m args below meth cd H locs ls hC hH hl => lv_isub hC.1 hC.2.1 d  (k p e s m args below meth cd H locs ls hC hH hl)
theorem j_imul {x y : Int32} (d : decode M.2.1 pc = .ok (.imul, 1))  (k : J l s0 D M R mc ms Q (pc + 1) L (.int (x * y) :: rest) T V X sz c n) : J l s0 D M R mc ms Q pc L (.int y :: .int x :: rest) T V X sz c n := fun p e s m args below meth cd H locs ls hC hH hl => lv_imul hC.1 hC.2.1 d  (k p e s m args below meth cd H locs ls hC hH hl)
theorem j_iand {x y : Int32} (d : decode M.2.1 pc = .ok (.iand, 1))  (k : J l s0 D M R mc ms Q (pc + 1) L (.int (x &&& y) :: rest) T V X sz c n) : J l s0 D M R mc ms Q pc L (.int y :: .int x :: rest) T V X sz c n := fun p e s m args below meth cd H locs ls hC hH hl => lv_iand hC.1 hC.2.1 d  (k p e s m args below meth cd H locs ls hC hH hl)
theorem j_ladd {x y : Int64} (d : decode M.2.1 pc = .ok (.ladd, 1))  (k : J l s0 D M R mc ms Q (pc + 1) L (.long (x + y) :: rest) T V X sz c n) : J l s0 D M R mc ms Q pc L (.long y :: .long x :: rest) T V X sz c n := fun p e s m args below meth cd H locs ls hC hH hl => lv_ladd hC.1 hC.2.1 d  (k p e s m args below meth cd H locs ls hC hH hl)
theorem j_lsub {x y : Int64} (d : decode M.2.1 pc = .ok (.lsub, 1))  (k : J l s0 D M R mc ms Q (pc + 1) L (.long (x - y) :: rest) T V X sz c n) : J l s0 D M R mc ms Q pc L (.long y :: .long x :: rest) T V X sz c n := fun p e s m args below meth cd H locs ls hC hH hl => lv_lsub hC.1 hC.2.1 d  (k p e s m args below meth cd H locs ls hC hH hl)
theorem j_lmul {x y : Int64} (d : decode M.2.1 pc = .ok (.lmul, 1))  (k : J l s0 D M R mc ms Q (pc + 1) L (.long (x * y) :: rest) T V X sz c n) : J l s0 D M R mc ms Q pc L (.long y :: .long x :: rest) T V X sz c n := fun p e s m args below meth cd H locs ls hC hH hl => lv_lmul hC.1 hC.2.1 d  (k p e s m args below meth cd H locs ls hC hH hl)
theorem j_idiv {x y : Int32} (d : decode M.2.1 pc = .ok (.idiv, 1)) (hne : ¬ y = 0) (k : J l s0 D M R mc ms Q (pc + 1) L (.int (x / y) :: rest) T V X sz c n) : J l s0 D M R mc ms Q pc L (.int y :: .int x :: rest) T V X sz c n := fun p e s m args below meth cd H locs ls hC hH hl => lv_idiv hC.1 hC.2.1 d hne (k p e s m args below meth cd H locs ls hC hH hl)
theorem j_irem {x y : Int32} (d : decode M.2.1 pc = .ok (.irem, 1)) (hne : ¬ y = 0) (k : J l s0 D M R mc ms Q (pc + 1) L (.int (x - x / y * y) :: rest) T V X sz c n) : J l s0 D M R mc ms Q pc L (.int y :: .int x :: rest) T V X sz c n := fun p e s m args below meth cd H locs ls hC hH hl => lv_irem hC.1 hC.2.1 d hne (k p e s m args below meth cd H locs ls hC hH hl)
theorem j_ishr {x y : Int32} (d : decode M.2.1 pc = .ok (.ishr, 1))  (k : J l s0 D M R mc ms Q (pc + 1) L (.int (x >>> (y &&& 31)) :: rest) T V X sz c n) : J l s0 D M R mc ms Q pc L (.int y :: .int x :: rest) T V X sz c n := fun p e s m args below meth cd H locs ls hC hH hl => lv_ishr hC.1 hC.2.1 d  (k p e s m args below meth cd H locs ls hC hH hl)
theorem j_iushr {x y : Int32} (d : decode M.2.1 pc = .ok (.iushr, 1))  (k : J l s0 D M R mc ms Q (pc + 1) L (.int (x.toUInt32 >>> (y.toUInt32 &&& Int32.toUInt32 31)).toInt32 :: rest) T V X sz c n) : J l s0 D M R mc ms Q pc L (.int y :: .int x :: rest) T V X sz c n := fun p e s m args below meth cd H locs ls hC hH hl => lv_iushr hC.1 hC.2.1 d rfl (k p e s m args below meth cd H locs ls hC hH hl)
theorem j_ineg {x : Int32} (d : decode M.2.1 pc = .ok (.ineg, 1))  (k : J l s0 D M R mc ms Q (pc + 1) L (.int (-x) :: rest) T V X sz c n) : J l s0 D M R mc ms Q pc L (.int x :: rest) T V X sz c n := fun p e s m args below meth cd H locs ls hC hH hl => lv_ineg hC.1 hC.2.1 d  (k p e s m args below meth cd H locs ls hC hH hl)
theorem j_lshl {x : Int64} {y : Int32} (d : decode M.2.1 pc = .ok (.lshl, 1))  (k : J l s0 D M R mc ms Q (pc + 1) L (.long (x <<< (y.toInt64 &&& 63)) :: rest) T V X sz c n) : J l s0 D M R mc ms Q pc L (.int y :: .long x :: rest) T V X sz c n := fun p e s m args below meth cd H locs ls hC hH hl => lv_lshl hC.1 hC.2.1 d rfl (k p e s m args below meth cd H locs ls hC hH hl)
theorem j_i2l {x : Int32} (d : decode M.2.1 pc = .ok (.i2l, 1))  (k : J l s0 D M R mc ms Q (pc + 1) L (.long x.toInt64 :: rest) T V X sz c n) : J l s0 D M R mc ms Q pc L (.int x :: rest) T V X sz c n := fun p e s m args below meth cd H locs ls hC hH hl => lv_i2l hC.1 hC.2.1 d rfl (k p e s m args below meth cd H locs ls hC hH hl)
theorem j_dup {v : Value} (d : decode M.2.1 pc = .ok (.dup, 1)) (hv : v.category = 1) (k : J l s0 D M R mc ms Q (pc + 1) L (v :: v :: rest) T V X sz c n) : J l s0 D M R mc ms Q pc L (v :: rest) T V X sz c n := fun p e s m args below meth cd H locs ls hC hH hl => lv_dup hC.1 hC.2.1 d hv (k p e s m args below meth cd H locs ls hC hH hl)
theorem j_pop {v : Value} (d : decode M.2.1 pc = .ok (.pop, 1)) (hv : v.category = 1) (k : J l s0 D M R mc ms Q (pc + 1) L rest T V X sz c n) : J l s0 D M R mc ms Q pc L (v :: rest) T V X sz c n := fun p e s m args below meth cd H locs ls hC hH hl => lv_pop hC.1 hC.2.1 d hv (k p e s m args below meth cd H locs ls hC hH hl)
theorem j_dup2 {v u : Value} (d : decode M.2.1 pc = .ok (.dup2, 1)) (hv : v.category = 1) (hu : u.category = 1) (k : J l s0 D M R mc ms Q (pc + 1) L (v :: u :: v :: u :: rest) T V X sz c n) : J l s0 D M R mc ms Q pc L (v :: u :: rest) T V X sz c n := fun p e s m args below meth cd H locs ls hC hH hl => lv_dup2_11 hC.1 hC.2.1 d hv hu (k p e s m args below meth cd H locs ls hC hH hl)
theorem j_dup2w {v : Value} (d : decode M.2.1 pc = .ok (.dup2, 1)) (hv : v.category = 2) (k : J l s0 D M R mc ms Q (pc + 1) L (v :: v :: rest) T V X sz c n) : J l s0 D M R mc ms Q pc L (v :: rest) T V X sz c n := fun p e s m args below meth cd H locs ls hC hH hl => lv_dup2_2 hC.1 hC.2.1 d hv (k p e s m args below meth cd H locs ls hC hH hl)
theorem j_null  (d : decode M.2.1 pc = .ok (.aconst_null, 1))  (k : J l s0 D M R mc ms Q (pc + 1) L (.null :: rest) T V X sz c n) : J l s0 D M R mc ms Q pc L rest T V X sz c n := fun p e s m args below meth cd H locs ls hC hH hl => lv_null hC.1 hC.2.1 d  (k p e s m args below meth cd H locs ls hC hH hl)
theorem j_iconst {i : Int} {v : Int32} (d : decode M.2.1 pc = .ok (.iconst i, 1)) (hv : Int32.ofInt i = v) (k : J l s0 D M R mc ms Q (pc + 1) L (.int v :: rest) T V X sz c n) : J l s0 D M R mc ms Q pc L rest T V X sz c n := fun p e s m args below meth cd H locs ls hC hH hl => lv_iconst hC.1 hC.2.1 d hv (k p e s m args below meth cd H locs ls hC hH hl)
theorem j_bipush {i : Int} {v : Int32} (d : decode M.2.1 pc = .ok (.bipush i, 2)) (hv : (Int8.ofInt i).toInt32 = v) (k : J l s0 D M R mc ms Q (pc + 2) L (.int v :: rest) T V X sz c n) : J l s0 D M R mc ms Q pc L rest T V X sz c n := fun p e s m args below meth cd H locs ls hC hH hl => lv_bipush hC.1 hC.2.1 d hv (k p e s m args below meth cd H locs ls hC hH hl)
theorem j_sipush {i : Int} {v : Int32} (d : decode M.2.1 pc = .ok (.sipush i, 3)) (hv : (Int16.ofInt i).toInt32 = v) (k : J l s0 D M R mc ms Q (pc + 3) L (.int v :: rest) T V X sz c n) : J l s0 D M R mc ms Q pc L rest T V X sz c n := fun p e s m args below meth cd H locs ls hC hH hl => lv_sipush hC.1 hC.2.1 d hv (k p e s m args below meth cd H locs ls hC hH hl)
theorem j_lconst {i : Fin 2} {v : Int64} (d : decode M.2.1 pc = .ok (.lconst i, 1)) (hv : Int64.ofNat (i : Nat) = v) (k : J l s0 D M R mc ms Q (pc + 1) L (.long v :: rest) T V X sz c n) : J l s0 D M R mc ms Q pc L rest T V X sz c n := fun p e s m args below meth cd H locs ls hC hH hl => lv_lconst hC.1 hC.2.1 d hv (k p e s m args below meth cd H locs ls hC hH hl)
theorem j_fconst0  (d : decode M.2.1 pc = .ok (.fconst 0, 1))  (k : J l s0 D M R mc ms Q (pc + 1) L (.float FP.fconst0 :: rest) T V X sz c n) : J l s0 D M R mc ms Q pc L rest T V X sz c n := fun p e s m args below meth cd H locs ls hC hH hl => lv_fconst0 hC.1 hC.2.1 d  (k p e s m args below meth cd H locs ls hC hH hl)
theorem j_fconst1  (d : decode M.2.1 pc = .ok (.fconst 1, 1))  (k : J l s0 D M R mc ms Q (pc + 1) L (.float FP.fconst1 :: rest) T V X sz c n) : J l s0 D M R mc ms Q pc L rest T V X sz c n := fun p e s m args below meth cd H locs ls hC hH hl => lv_fconst1 hC.1 hC.2.1 d  (k p e s m args below meth cd H locs ls hC hH hl)
theorem j_fconst2  (d : decode M.2.1 pc = .ok (.fconst 2, 1))  (k : J l s0 D M R mc ms Q (pc + 1) L (.float FP.fconst2 :: rest) T V X sz c n) : J l s0 D M R mc ms Q pc L rest T V X sz c n := fun p e s m args below meth cd H locs ls hC hH hl => lv_fconst2 hC.1 hC.2.1 d  (k p e s m args below meth cd H locs ls hC hH hl)
theorem j_dconst0  (d : decode M.2.1 pc = .ok (.dconst 0, 1))  (k : J l s0 D M R mc ms Q (pc + 1) L (.double FP.dconst0 :: rest) T V X sz c n) : J l s0 D M R mc ms Q pc L rest T V X sz c n := fun p e s m args below meth cd H locs ls hC hH hl => lv_dconst0 hC.1 hC.2.1 d  (k p e s m args below meth cd H locs ls hC hH hl)
theorem j_dconst1  (d : decode M.2.1 pc = .ok (.dconst 1, 1))  (k : J l s0 D M R mc ms Q (pc + 1) L (.double FP.dconst1 :: rest) T V X sz c n) : J l s0 D M R mc ms Q pc L rest T V X sz c n := fun p e s m args below meth cd H locs ls hC hH hl => lv_dconst1 hC.1 hC.2.1 d  (k p e s m args below meth cd H locs ls hC hH hl)
theorem j_fmul {x y : UInt32} (d : decode M.2.1 pc = .ok (.fmul, 1)) (hne : vf_n32 (FP.fmul x y)) (k : J l s0 D M R mc ms Q (pc + 1) L (.float (FP.fmul x y) :: rest) T V X sz c n) : J l s0 D M R mc ms Q pc L (.float y :: .float x :: rest) T V X sz c n := fun p e s m args below meth cd H locs ls hC hH hl => lv_fmul hC.1 hC.2.1 d hne (k p e s m args below meth cd H locs ls hC hH hl)
theorem j_fdiv {x y : UInt32} (d : decode M.2.1 pc = .ok (.fdiv, 1)) (hne : vf_n32 (FP.fdiv x y)) (k : J l s0 D M R mc ms Q (pc + 1) L (.float (FP.fdiv x y) :: rest) T V X sz c n) : J l s0 D M R mc ms Q pc L (.float y :: .float x :: rest) T V X sz c n := fun p e s m args below meth cd H locs ls hC hH hl => lv_fdiv hC.1 hC.2.1 d hne (k p e s m args below meth cd H locs ls hC hH hl)
theorem j_dmul {x y : UInt64} (d : decode M.2.1 pc = .ok (.dmul, 1)) (hne : vf_n64 (FP.dmul x y)) (k : J l s0 D M R mc ms Q (pc + 1) L (.double (FP.dmul x y) :: rest) T V X sz c n) : J l s0 D M R mc ms Q pc L (.double y :: .double x :: rest) T V X sz c n := fun p e s m args below meth cd H locs ls hC hH hl => lv_dmul hC.1 hC.2.1 d hne (k p e s m args below meth cd H locs ls hC hH hl)
theorem j_ddiv {x y : UInt64} (d : decode M.2.1 pc = .ok (.ddiv, 1)) (hne : vf_n64 (FP.ddiv x y)) (k : J l s0 D M R mc ms Q (pc + 1) L (.double (FP.ddiv x y) :: rest) T V X sz c n) : J l s0 D M R mc ms Q pc L (.double y :: .double x :: rest) T V X sz c n := fun p e s m args below meth cd H locs ls hC hH hl => lv_ddiv hC.1 hC.2.1 d hne (k p e s m args below meth cd H locs ls hC hH hl)
theorem j_fcmp {x y : UInt32} {op : CmpOp} (d : decode M.2.1 pc = .ok (.fcmp op, 1))  (k : J l s0 D M R mc ms Q (pc + 1) L (.int (Op.cmpValue (FP.fcmp x y) op) :: rest) T V X sz c n) : J l s0 D M R mc ms Q pc L (.float y :: .float x :: rest) T V X sz c n := fun p e s m args below meth cd H locs ls hC hH hl => lv_fcmp hC.1 hC.2.1 d  (k p e s m args below meth cd H locs ls hC hH hl)
theorem j_dcmp {x y : UInt64} {op : CmpOp} (d : decode M.2.1 pc = .ok (.dcmp op, 1))  (k : J l s0 D M R mc ms Q (pc + 1) L (.int (Op.cmpValue (FP.dcmp x y) op) :: rest) T V X sz c n) : J l s0 D M R mc ms Q pc L (.double y :: .double x :: rest) T V X sz c n := fun p e s m args below meth cd H locs ls hC hH hl => lv_dcmp hC.1 hC.2.1 d  (k p e s m args below meth cd H locs ls hC hH hl)
theorem j_i2f {x : Int32} (d : decode M.2.1 pc = .ok (.i2f, 1))  (k : J l s0 D M R mc ms Q (pc + 1) L (.float (FP.i2f x) :: rest) T V X sz c n) : J l s0 D M R mc ms Q pc L (.int x :: rest) T V X sz c n := fun p e s m args below meth cd H locs ls hC hH hl => lv_i2f hC.1 hC.2.1 d  (k p e s m args below meth cd H locs ls hC hH hl)
theorem j_i2d {x : Int32} (d : decode M.2.1 pc = .ok (.i2d, 1))  (k : J l s0 D M R mc ms Q (pc + 1) L (.double (FP.i2d x) :: rest) T V X sz c n) : J l s0 D M R mc ms Q pc L (.int x :: rest) T V X sz c n := fun p e s m args below meth cd H locs ls hC hH hl => lv_i2d hC.1 hC.2.1 d  (k p e s m args below meth cd H locs ls hC hH hl)
theorem j_f2l {x : UInt32} (d : decode M.2.1 pc = .ok (.f2l, 1))  (k : J l s0 D M R mc ms Q (pc + 1) L (.long (FP.f2l x) :: rest) T V X sz c n) : J l s0 D M R mc ms Q pc L (.float x :: rest) T V X sz c n := fun p e s m args below meth cd H locs ls hC hH hl => lv_f2l hC.1 hC.2.1 d  (k p e s m args below meth cd H locs ls hC hH hl)
theorem j_d2l {x : UInt64} (d : decode M.2.1 pc = .ok (.d2l, 1))  (k : J l s0 D M R mc ms Q (pc + 1) L (.long (FP.d2l x) :: rest) T V X sz c n) : J l s0 D M R mc ms Q pc L (.double x :: rest) T V X sz c n := fun p e s m args below meth cd H locs ls hC hH hl => lv_d2l hC.1 hC.2.1 d  (k p e s m args below meth cd H locs ls hC hH hl)
theorem j_f2d {x : UInt32} (d : decode M.2.1 pc = .ok (.f2d, 1)) (hne : vf_n64 (FP.f2d x)) (k : J l s0 D M R mc ms Q (pc + 1) L (.double (FP.f2d x) :: rest) T V X sz c n) : J l s0 D M R mc ms Q pc L (.float x :: rest) T V X sz c n := fun p e s m args below meth cd H locs ls hC hH hl => lv_f2d hC.1 hC.2.1 d hne (k p e s m args below meth cd H locs ls hC hH hl)
theorem j_lcmp {x y : Int64} (d : decode M.2.1 pc = .ok (.lcmp, 1)) (k : J l s0 D M R mc ms Q (pc + 1) L (.int (lg_cmp x y) :: rest) T V X sz c n) : J l s0 D M R mc ms Q pc L (.long y :: .long x :: rest) T V X sz c n := fun p e s m args below meth cd H locs ls hC hH hl => W.lcmp hC.1 hC.2.1 d (k p e s m args below meth cd H locs ls hC hH hl)
theorem j_iload_n {i : Fin 4} {x : Int32} (d : decode M.2.1 pc = .ok (.iload_n i, 1)) (h : L.lookup (i : Nat) = some (.int x)) (k : J l s0 D M R mc ms Q (pc + 1) L (.int x :: rest) T V X sz c n) : J l s0 D M R mc ms Q pc L rest T V X sz c n := fun p e s m args below meth cd H locs ls hC hH hl => lv_iload_n hC.1 hC.2.1 d rfl (lk_at hl h) (k p e s m args below meth cd H locs ls hC hH hl)
theorem j_iload {i : Nat} {x : Int32} (d : decode M.2.1 pc = .ok (.iload i, 2)) (h : L.lookup i = some (.int x)) (k : J l s0 D M R mc ms Q (pc + 2) L (.int x :: rest) T V X sz c n) : J l s0 D M R mc ms Q pc L rest T V X sz c n := fun p e s m args below meth cd H locs ls hC hH hl => lv_iload hC.1 hC.2.1 d (lk_at hl h) (k p e s m args below meth cd H locs ls hC hH hl)
theorem j_istore_n {i : Fin 4} {x : Int32} {L' : List (Nat × Value)} (d : decode M.2.1 pc = .ok (.istore_n i, 1)) (hn : (i : Nat) < M.2.2.1) (hL : js1 L (i : Nat) (.int x) = L') (k : J l s0 D M R mc ms Q (pc + 1) L' rest T V X sz c n) : J l s0 D M R mc ms Q pc L (.int x :: rest) T V X sz c n := fun p e s m args below meth cd H locs ls hC hH hl => lv_istore_n hC.1 hC.2.1 d rfl hl hn rfl (fun ls' hl' => k p e s m args below meth cd H locs ls' hC hH (by rw [← hL]; exact js1_has hl'))
theorem j_istore {i : Nat} {x : Int32} {L' : List (Nat × Value)} (d : decode M.2.1 pc = .ok (.istore i, 2)) (hn : i < M.2.2.1) (hL : js1 L i (.int x) = L') (k : J l s0 D M R mc ms Q (pc + 2) L' rest T V X sz c n) : J l s0 D M R mc ms Q pc L (.int x :: rest) T V X sz c n := fun p e s m args below meth cd H locs ls hC hH hl => lv_istore hC.1 hC.2.1 d hl hn rfl (fun ls' hl' => k p e s m args below meth cd H locs ls' hC hH (by rw [← hL]; exact js1_has hl'))
theorem j_lload_n {i : Fin 4} {x : Int64} (d : decode M.2.1 pc = .ok (.lload_n i, 1)) (h : L.lookup (i : Nat) = some (.long x)) (k : J l s0 D M R mc ms Q (pc + 1) L (.long x :: rest) T V X sz c n) : J l s0 D M R mc ms Q pc L rest T V X sz c n := fun p e s m args below meth cd H locs ls hC hH hl => lv_lload_n hC.1 hC.2.1 d rfl (lk_at hl h) (k p e s m args below meth cd H locs ls hC hH hl)
theorem j_lload {i : Nat} {x : Int64} (d : decode M.2.1 pc = .ok (.lload i, 2)) (h : L.lookup i = some (.long x)) (k : J l s0 D M R mc ms Q (pc + 2) L (.long x :: rest) T V X sz c n) : J l s0 D M R mc ms Q pc L rest T V X sz c n := fun p e s m args below meth cd H locs ls hC hH hl => lv_lload hC.1 hC.2.1 d (lk_at hl h) (k p e s m args below meth cd H locs ls hC hH hl)
theorem j_lstore_n {i : Fin 4} {x : Int64} {L' : List (Nat × Value)} (d : decode M.2.1 pc = .ok (.lstore_n i, 1)) (hn : (i : Nat) + 1 < M.2.2.1) (hL : js2 L (i : Nat) (.long x) = L') (k : J l s0 D M R mc ms Q (pc + 1) L' rest T V X sz c n) : J l s0 D M R mc ms Q pc L (.long x :: rest) T V X sz c n := fun p e s m args below meth cd H locs ls hC hH hl => lv_lstore_n hC.1 hC.2.1 d rfl hl hn rfl (fun ls' hl' => k p e s m args below meth cd H locs ls' hC hH (by rw [← hL]; exact js2_has hl'))
theorem j_lstore {i : Nat} {x : Int64} {L' : List (Nat × Value)} (d : decode M.2.1 pc = .ok (.lstore i, 2)) (hn : i + 1 < M.2.2.1) (hL : js2 L i (.long x) = L') (k : J l s0 D M R mc ms Q (pc + 2) L' rest T V X sz c n) : J l s0 D M R mc ms Q pc L (.long x :: rest) T V X sz c n := fun p e s m args below meth cd H locs ls hC hH hl => lv_lstore hC.1 hC.2.1 d hl hn rfl (fun ls' hl' => k p e s m args below meth cd H locs ls' hC hH (by rw [← hL]; exact js2_has hl'))
theorem j_fload_n {i : Fin 4} {x : UInt32} (d : decode M.2.1 pc = .ok (.fload_n i, 1)) (h : L.lookup (i : Nat) = some (.float x)) (k : J l s0 D M R mc ms Q (pc + 1) L (.float x :: rest) T V X sz c n) : J l s0 D M R mc ms Q pc L rest T V X sz c n := fun p e s m args below meth cd H locs ls hC hH hl => lv_fload_n hC.1 hC.2.1 d rfl (lk_at hl h) (k p e s m args below meth cd H locs ls hC hH hl)
theorem j_fload {i : Nat} {x : UInt32} (d : decode M.2.1 pc = .ok (.fload i, 2)) (h : L.lookup i = some (.float x)) (k : J l s0 D M R mc ms Q (pc + 2) L (.float x :: rest) T V X sz c n) : J l s0 D M R mc ms Q pc L rest T V X sz c n := fun p e s m args below meth cd H locs ls hC hH hl => lv_fload hC.1 hC.2.1 d (lk_at hl h) (k p e s m args below meth cd H locs ls hC hH hl)
theorem j_fstore_n {i : Fin 4} {x : UInt32} {L' : List (Nat × Value)} (d : decode M.2.1 pc = .ok (.fstore_n i, 1)) (hn : (i : Nat) < M.2.2.1) (hL : js1 L (i : Nat) (.float x) = L') (k : J l s0 D M R mc ms Q (pc + 1) L' rest T V X sz c n) : J l s0 D M R mc ms Q pc L (.float x :: rest) T V X sz c n := fun p e s m args below meth cd H locs ls hC hH hl => lv_fstore_n hC.1 hC.2.1 d rfl hl hn rfl (fun ls' hl' => k p e s m args below meth cd H locs ls' hC hH (by rw [← hL]; exact js1_has hl'))
theorem j_fstore {i : Nat} {x : UInt32} {L' : List (Nat × Value)} (d : decode M.2.1 pc = .ok (.fstore i, 2)) (hn : i < M.2.2.1) (hL : js1 L i (.float x) = L') (k : J l s0 D M R mc ms Q (pc + 2) L' rest T V X sz c n) : J l s0 D M R mc ms Q pc L (.float x :: rest) T V X sz c n := fun p e s m args below meth cd H locs ls hC hH hl => lv_fstore hC.1 hC.2.1 d hl hn rfl (fun ls' hl' => k p e s m args below meth cd H locs ls' hC hH (by rw [← hL]; exact js1_has hl'))
theorem j_dload_n {i : Fin 4} {x : UInt64} (d : decode M.2.1 pc = .ok (.dload_n i, 1)) (h : L.lookup (i : Nat) = some (.double x)) (k : J l s0 D M R mc ms Q (pc + 1) L (.double x :: rest) T V X sz c n) : J l s0 D M R mc ms Q pc L rest T V X sz c n := fun p e s m args below meth cd H locs ls hC hH hl => lv_dload_n hC.1 hC.2.1 d rfl (lk_at hl h) (k p e s m args below meth cd H locs ls hC hH hl)
theorem j_dload {i : Nat} {x : UInt64} (d : decode M.2.1 pc = .ok (.dload i, 2)) (h : L.lookup i = some (.double x)) (k : J l s0 D M R mc ms Q (pc + 2) L (.double x :: rest) T V X sz c n) : J l s0 D M R mc ms Q pc L rest T V X sz c n := fun p e s m args below meth cd H locs ls hC hH hl => lv_dload hC.1 hC.2.1 d (lk_at hl h) (k p e s m args below meth cd H locs ls hC hH hl)
theorem j_dstore_n {i : Fin 4} {x : UInt64} {L' : List (Nat × Value)} (d : decode M.2.1 pc = .ok (.dstore_n i, 1)) (hn : (i : Nat) + 1 < M.2.2.1) (hL : js2 L (i : Nat) (.double x) = L') (k : J l s0 D M R mc ms Q (pc + 1) L' rest T V X sz c n) : J l s0 D M R mc ms Q pc L (.double x :: rest) T V X sz c n := fun p e s m args below meth cd H locs ls hC hH hl => lv_dstore_n hC.1 hC.2.1 d rfl hl hn rfl (fun ls' hl' => k p e s m args below meth cd H locs ls' hC hH (by rw [← hL]; exact js2_has hl'))
theorem j_dstore {i : Nat} {x : UInt64} {L' : List (Nat × Value)} (d : decode M.2.1 pc = .ok (.dstore i, 2)) (hn : i + 1 < M.2.2.1) (hL : js2 L i (.double x) = L') (k : J l s0 D M R mc ms Q (pc + 2) L' rest T V X sz c n) : J l s0 D M R mc ms Q pc L (.double x :: rest) T V X sz c n := fun p e s m args below meth cd H locs ls hC hH hl => lv_dstore hC.1 hC.2.1 d hl hn rfl (fun ls' hl' => k p e s m args below meth cd H locs ls' hC hH (by rw [← hL]; exact js2_has hl'))
theorem j_aload_n {i : Fin 4} {x : Nat} (d : decode M.2.1 pc = .ok (.aload_n i, 1)) (h : L.lookup (i : Nat) = some (.ref x)) (k : J l s0 D M R mc ms Q (pc + 1) L (.ref x :: rest) T V X sz c n) : J l s0 D M R mc ms Q pc L rest T V X sz c n := fun p e s m args below meth cd H locs ls hC hH hl => lv_aload_n hC.1 hC.2.1 d rfl (lk_at hl h) (k p e s m args below meth cd H locs ls hC hH hl)
theorem j_aload {i : Nat} {x : Nat} (d : decode M.2.1 pc = .ok (.aload i, 2)) (h : L.lookup i = some (.ref x)) (k : J l s0 D M R mc ms Q (pc + 2) L (.ref x :: rest) T V X sz c n) : J l s0 D M R mc ms Q pc L rest T V X sz c n := fun p e s m args below meth cd H locs ls hC hH hl => lv_aload hC.1 hC.2.1 d (lk_at hl h) (k p e s m args below meth cd H locs ls hC hH hl)
theorem j_astore_n {i : Fin 4} {x : Nat} {L' : List (Nat × Value)} (d : decode M.2.1 pc = .ok (.astore_n i, 1)) (hn : (i : Nat) < M.2.2.1) (hL : js1 L (i : Nat) (.ref x) = L') (k : J l s0 D M R mc ms Q (pc + 1) L' rest T V X sz c n) : J l s0 D M R mc ms Q pc L (.ref x :: rest) T V X sz c n := fun p e s m args below meth cd H locs ls hC hH hl => lv_astore_n hC.1 hC.2.1 d rfl hl hn rfl (fun ls' hl' => k p e s m args below meth cd H locs ls' hC hH (by rw [← hL]; exact js1_has hl'))
theorem j_astore {i : Nat} {x : Nat} {L' : List (Nat × Value)} (d : decode M.2.1 pc = .ok (.astore i, 2)) (hn : i < M.2.2.1) (hL : js1 L i (.ref x) = L') (k : J l s0 D M R mc ms Q (pc + 2) L' rest T V X sz c n) : J l s0 D M R mc ms Q pc L (.ref x :: rest) T V X sz c n := fun p e s m args below meth cd H locs ls hC hH hl => lv_astore hC.1 hC.2.1 d hl hn rfl (fun ls' hl' => k p e s m args below meth cd H locs ls' hC hH (by rw [← hL]; exact js1_has hl'))
theorem j_iinc {i : Nat} {w : Int} {x v : Int32} {L' : List (Nat × Value)} (d : decode M.2.1 pc = .ok (.iinc i w, 3)) (h : L.lookup i = some (.int x)) (hv : Int32.ofInt w = v) (hn : i < M.2.2.1) (hL : js1 L i (.int (x + v)) = L') (k : J l s0 D M R mc ms Q (pc + 3) L' rest T V X sz c n) : J l s0 D M R mc ms Q pc L rest T V X sz c n := by
  intro p e s m args below meth cd H locs ls hC hH hl
  subst hv
  have hm := lk_mem h
  obtain ⟨j, hj⟩ := List.getElem?_of_mem hm
  exact lv_iinc hC.1 hC.2.1 d hl hj rfl hn rfl (fun ls' hl' => k p e s m args below meth cd H locs ls' hC hH (by rw [← hL]; exact js1_has hl'))
theorem j_if_eq {x : Int32} {off : Int} {tgt : Nat} (d : decode M.2.1 pc = .ok (.ifCond .eq off, 3)) (ht : (pc : Int) + off = (tgt : Int)) (kt : x = 0 → J l s0 D M R mc ms Q tgt L rest T V X sz c n) (kf : ¬ x = 0 → J l s0 D M R mc ms Q (pc + 3) L rest T V X sz c n) : J l s0 D M R mc ms Q pc L (.int x :: rest) T V X sz c n := fun p e s m args below meth cd H locs ls hC hH hl => lv_if_eq hC.1 hC.2.1 d ht (fun z => kt z p e s m args below meth cd H locs ls hC hH hl) (fun z => kf z p e s m args below meth cd H locs ls hC hH hl)
theorem j_icmp_eq {x y : Int32} {off : Int} {tgt : Nat} (d : decode M.2.1 pc = .ok (.if_icmp .eq off, 3)) (ht : (pc : Int) + off = (tgt : Int)) (kt : x = y → J l s0 D M R mc ms Q tgt L rest T V X sz c n) (kf : ¬ x = y → J l s0 D M R mc ms Q (pc + 3) L rest T V X sz c n) : J l s0 D M R mc ms Q pc L (.int y :: .int x :: rest) T V X sz c n := fun p e s m args below meth cd H locs ls hC hH hl => lv_icmp_eq hC.1 hC.2.1 d ht (fun z => kt z p e s m args below meth cd H locs ls hC hH hl) (fun z => kf z p e s m args below meth cd H locs ls hC hH hl)
theorem j_if_ne {x : Int32} {off : Int} {tgt : Nat} (d : decode M.2.1 pc = .ok (.ifCond .ne off, 3)) (ht : (pc : Int) + off = (tgt : Int)) (kt : ¬ x = 0 → J l s0 D M R mc ms Q tgt L rest T V X sz c n) (kf : x = 0 → J l s0 D M R mc ms Q (pc + 3) L rest T V X sz c n) : J l s0 D M R mc ms Q pc L (.int x :: rest) T V X sz c n := fun p e s m args below meth cd H locs ls hC hH hl => lv_if_ne hC.1 hC.2.1 d ht (fun z => kt z p e s m args below meth cd H locs ls hC hH hl) (fun z => kf z p e s m args below meth cd H locs ls hC hH hl)
theorem j_icmp_ne {x y : Int32} {off : Int} {tgt : Nat} (d : decode M.2.1 pc = .ok (.if_icmp .ne off, 3)) (ht : (pc : Int) + off = (tgt : Int)) (kt : ¬ x = y → J l s0 D M R mc ms Q tgt L rest T V X sz c n) (kf : x = y → J l s0 D M R mc ms Q (pc + 3) L rest T V X sz c n) : J l s0 D M R mc ms Q pc L (.int y :: .int x :: rest) T V X sz c n := fun p e s m args below meth cd H locs ls hC hH hl => lv_icmp_ne hC.1 hC.2.1 d ht (fun z => kt z p e s m args below meth cd H locs ls hC hH hl) (fun z => kf z p e s m args below meth cd H locs ls hC hH hl)
theorem ti_lt {x y : Int32} (h : x < y) : x.toInt < y.toInt := Int32.lt_iff_toInt_lt.mp h
theorem ti_nlt {x y : Int32} (h : ¬ x < y) : y.toInt ≤ x.toInt := by have := mt Int32.lt_iff_toInt_lt.mpr h; omega
theorem ti_le {x y : Int32} (h : x ≤ y) : x.toInt ≤ y.toInt := Int32.le_iff_toInt_le.mp h
theorem ti_nle {x y : Int32} (h : ¬ x ≤ y) : y.toInt < x.toInt := by have := mt Int32.le_iff_toInt_le.mpr h; omega
theorem ti_0 : (0 : Int32).toInt = 0 := by decide
theorem j_if_lt {x : Int32} {off : Int} {tgt : Nat} (d : decode M.2.1 pc = .ok (.ifCond .lt off, 3)) (ht : (pc : Int) + off = (tgt : Int)) (kt : x.toInt < 0 → J l s0 D M R mc ms Q tgt L rest T V X sz c n) (kf : 0 ≤ x.toInt → J l s0 D M R mc ms Q (pc + 3) L rest T V X sz c n) : J l s0 D M R mc ms Q pc L (.int x :: rest) T V X sz c n := fun p e s m args below meth cd H locs ls hC hH hl => lv_if_lt hC.1 hC.2.1 d ht (fun z => kt (by have h9 := ti_lt z; rw [ti_0] at h9; exact h9) p e s m args below meth cd H locs ls hC hH hl) (fun z => kf (by have h9 := ti_nlt z; rw [ti_0] at h9; exact h9) p e s m args below meth cd H locs ls hC hH hl)
theorem j_icmp_lt {x y : Int32} {off : Int} {tgt : Nat} (d : decode M.2.1 pc = .ok (.if_icmp .lt off, 3)) (ht : (pc : Int) + off = (tgt : Int)) (kt : x.toInt < y.toInt → J l s0 D M R mc ms Q tgt L rest T V X sz c n) (kf : y.toInt ≤ x.toInt → J l s0 D M R mc ms Q (pc + 3) L rest T V X sz c n) : J l s0 D M R mc ms Q pc L (.int y :: .int x :: rest) T V X sz c n := fun p e s m args below meth cd H locs ls hC hH hl => lv_icmp_lt hC.1 hC.2.1 d ht (fun z => kt (ti_lt z) p e s m args below meth cd H locs ls hC hH hl) (fun z => kf (ti_nlt z) p e s m args below meth cd H locs ls hC hH hl)
theorem j_if_ge {x : Int32} {off : Int} {tgt : Nat} (d : decode M.2.1 pc = .ok (.ifCond .ge off, 3)) (ht : (pc : Int) + off = (tgt : Int)) (kt : 0 ≤ x.toInt → J l s0 D M R mc ms Q tgt L rest T V X sz c n) (kf : x.toInt < 0 → J l s0 D M R mc ms Q (pc + 3) L rest T V X sz c n) : J l s0 D M R mc ms Q pc L (.int x :: rest) T V X sz c n := fun p e s m args below meth cd H locs ls hC hH hl => lv_if_ge hC.1 hC.2.1 d ht (fun z => kt (by have h9 := ti_le z; rw [ti_0] at h9; exact h9) p e s m args below meth cd H locs ls hC hH hl) (fun z => kf (by have h9 := ti_nle z; rw [ti_0] at h9; exact h9) p e s m args below meth cd H locs ls hC hH hl)
theorem j_icmp_ge {x y : Int32} {off : Int} {tgt : Nat} (d : decode M.2.1 pc = .ok (.if_icmp .ge off, 3)) (ht : (pc : Int) + off = (tgt : Int)) (kt : y.toInt ≤ x.toInt → J l s0 D M R mc ms Q tgt L rest T V X sz c n) (kf : x.toInt < y.toInt → J l s0 D M R mc ms Q (pc + 3) L rest T V X sz c n) : J l s0 D M R mc ms Q pc L (.int y :: .int x :: rest) T V X sz c n := fun p e s m args below meth cd H locs ls hC hH hl => lv_icmp_ge hC.1 hC.2.1 d ht (fun z => kt (ti_le z) p e s m args below meth cd H locs ls hC hH hl) (fun z => kf (ti_nle z) p e s m args below meth cd H locs ls hC hH hl)
theorem j_if_gt {x : Int32} {off : Int} {tgt : Nat} (d : decode M.2.1 pc = .ok (.ifCond .gt off, 3)) (ht : (pc : Int) + off = (tgt : Int)) (kt : 0 < x.toInt → J l s0 D M R mc ms Q tgt L rest T V X sz c n) (kf : x.toInt ≤ 0 → J l s0 D M R mc ms Q (pc + 3) L rest T V X sz c n) : J l s0 D M R mc ms Q pc L (.int x :: rest) T V X sz c n := fun p e s m args below meth cd H locs ls hC hH hl => lv_if_gt hC.1 hC.2.1 d ht (fun z => kt (by have h9 := ti_lt z; rw [ti_0] at h9; exact h9) p e s m args below meth cd H locs ls hC hH hl) (fun z => kf (by have h9 := ti_nlt z; rw [ti_0] at h9; exact h9) p e s m args below meth cd H locs ls hC hH hl)
theorem j_icmp_gt {x y : Int32} {off : Int} {tgt : Nat} (d : decode M.2.1 pc = .ok (.if_icmp .gt off, 3)) (ht : (pc : Int) + off = (tgt : Int)) (kt : y.toInt < x.toInt → J l s0 D M R mc ms Q tgt L rest T V X sz c n) (kf : x.toInt ≤ y.toInt → J l s0 D M R mc ms Q (pc + 3) L rest T V X sz c n) : J l s0 D M R mc ms Q pc L (.int y :: .int x :: rest) T V X sz c n := fun p e s m args below meth cd H locs ls hC hH hl => lv_icmp_gt hC.1 hC.2.1 d ht (fun z => kt (ti_lt z) p e s m args below meth cd H locs ls hC hH hl) (fun z => kf (ti_nlt z) p e s m args below meth cd H locs ls hC hH hl)
theorem j_if_le {x : Int32} {off : Int} {tgt : Nat} (d : decode M.2.1 pc = .ok (.ifCond .le off, 3)) (ht : (pc : Int) + off = (tgt : Int)) (kt : x.toInt ≤ 0 → J l s0 D M R mc ms Q tgt L rest T V X sz c n) (kf : 0 < x.toInt → J l s0 D M R mc ms Q (pc + 3) L rest T V X sz c n) : J l s0 D M R mc ms Q pc L (.int x :: rest) T V X sz c n := fun p e s m args below meth cd H locs ls hC hH hl => lv_if_le hC.1 hC.2.1 d ht (fun z => kt (by have h9 := ti_le z; rw [ti_0] at h9; exact h9) p e s m args below meth cd H locs ls hC hH hl) (fun z => kf (by have h9 := ti_nle z; rw [ti_0] at h9; exact h9) p e s m args below meth cd H locs ls hC hH hl)
theorem j_icmp_le {x y : Int32} {off : Int} {tgt : Nat} (d : decode M.2.1 pc = .ok (.if_icmp .le off, 3)) (ht : (pc : Int) + off = (tgt : Int)) (kt : x.toInt ≤ y.toInt → J l s0 D M R mc ms Q tgt L rest T V X sz c n) (kf : y.toInt < x.toInt → J l s0 D M R mc ms Q (pc + 3) L rest T V X sz c n) : J l s0 D M R mc ms Q pc L (.int y :: .int x :: rest) T V X sz c n := fun p e s m args below meth cd H locs ls hC hH hl => lv_icmp_le hC.1 hC.2.1 d ht (fun z => kt (ti_le z) p e s m args below meth cd H locs ls hC hH hl) (fun z => kf (ti_nle z) p e s m args below meth cd H locs ls hC hH hl)
theorem j_goto {off : Int} {tgt : Nat} (d : decode M.2.1 pc = .ok (.goto off, 3)) (ht : (pc : Int) + off = (tgt : Int)) (k : J l s0 D M R mc ms Q tgt L rest T V X sz c n) : J l s0 D M R mc ms Q pc L rest T V X sz c n := fun p e s m args below meth cd H locs ls hC hH hl => lv_goto hC.1 hC.2.1 d ht (k p e s m args below meth cd H locs ls hC hH hl)
theorem j_ifnull {off : Int} {x : Nat} (d : decode M.2.1 pc = .ok (.ifnull off, 3)) (k : J l s0 D M R mc ms Q (pc + 3) L rest T V X sz c n) : J l s0 D M R mc ms Q pc L (.ref x :: rest) T V X sz c n := fun p e s m args below meth cd H locs ls hC hH hl => lv_ifnull hC.1 hC.2.1 d (k p e s m args below meth cd H locs ls hC hH hl)
theorem j_ifnullN {off : Int} {tgt : Nat} (d : decode M.2.1 pc = .ok (.ifnull off, 3)) (ht : (pc : Int) + off = (tgt : Int)) (k : J l s0 D M R mc ms Q tgt L rest T V X sz c n) : J l s0 D M R mc ms Q pc L (.null :: rest) T V X sz c n := fun p e s m args below meth cd H locs ls hC hH hl => lv_ifnullN hC.1 hC.2.1 d ht (k p e s m args below meth cd H locs ls hC hH hl)
theorem j_tswO {dflt lo hi : Int} {offs : Array Int} {len : Nat} {x : Int32} {tgt : Nat} (d : decode M.2.1 pc = .ok (.tableswitch dflt lo hi offs, len)) (h : x.toInt < lo ∨ hi < x.toInt) (ht : (pc : Int) + dflt = (tgt : Int)) (k : J l s0 D M R mc ms Q tgt L rest T V X sz c n) : J l s0 D M R mc ms Q pc L (.int x :: rest) T V X sz c n := fun p e s m args below meth cd H locs ls hC hH hl => lv_tableOut hC.1 hC.2.1 d h ht (k p e s m args below meth cd H locs ls hC hH hl)
theorem j_tsw {dflt lo hi : Int} {offs : Array Int} {len : Nat} {x : Int32} {i : Nat} {off : Int} {tgt : Nat} (d : decode M.2.1 pc = .ok (.tableswitch dflt lo hi offs, len)) (h : x.toInt = lo + i) (h2 : lo + i ≤ hi) (ho : offs[i]? = some off) (ht : (pc : Int) + off = (tgt : Int)) (k : J l s0 D M R mc ms Q tgt L rest T V X sz c n) : J l s0 D M R mc ms Q pc L (.int x :: rest) T V X sz c n := fun p e s m args below meth cd H locs ls hC hH hl => lv_tableIn hC.1 hC.2.1 d (by omega) (by omega) (by rw [show (x.toInt - lo).toNat = i by omega]; exact ho) ht (k p e s m args below meth cd H locs ls hC hH hl)
theorem j_lsw {dflt : Int} {ps : Array (Int × Int)} {len : Nat} {x : Int32} {off : Int} {tgt : Nat} (d : decode M.2.1 pc = .ok (.lookupswitch dflt ps, len)) (hp : (ps.toList.zip (ps.toList.drop 1)).all (fun (a, next) => a.1 < next.1) = true) (ho : Op.lookupswitch.offset ps.toList dflt x.toInt = off) (ht : (pc : Int) + off = (tgt : Int)) (k : J l s0 D M R mc ms Q tgt L rest T V X sz c n) : J l s0 D M R mc ms Q pc L (.int x :: rest) T V X sz c n := fun p e s m args below meth cd H locs ls hC hH hl => lv_lookup hC.1 hC.2.1 d hp ho ht (k p e s m args below meth cd H locs ls hC hH hl)
theorem j_ldc {i : Nat} {v : Int32} (d : decode M.2.1 pc = .ok (.ldc i, 2)) (hB : jB l s0 D) (hc : Cond.constant M.1.cls i v ∈ lw_tbl) (k : J l s0 D M R mc ms Q (pc + 2) L (.int v :: rest) T V X sz c n) : J l s0 D M R mc ms Q pc L rest T V X sz c n := fun p e s m args below meth cd H locs ls hC hH hl => lv_ldc hC.1 hC.2.1 hC.2.2.2.2.1 (hB.word hC.2.2.2.2.2.2.1 hc rfl args) d (k p e s m args below meth cd H locs ls hC hH hl)
theorem j_ldcw {i : Nat} {v : Int32} (d : decode M.2.1 pc = .ok (.ldc_w i, 3)) (hB : jB l s0 D) (hc : Cond.constant M.1.cls i v ∈ lw_tbl) (k : J l s0 D M R mc ms Q (pc + 3) L (.int v :: rest) T V X sz c n) : J l s0 D M R mc ms Q pc L rest T V X sz c n := fun p e s m args below meth cd H locs ls hC hH hl => lv_ldcw hC.1 hC.2.1 hC.2.2.2.2.1 (hB.word hC.2.2.2.2.2.2.1 hc rfl args) d (k p e s m args below meth cd H locs ls hC hH hl)
theorem j_ldcf {i : Nat} {v : UInt32} (d : decode M.2.1 pc = .ok (.ldc i, 2)) (hB : jB l s0 D) (hc : Cond.constantFloat M.1.cls i v ∈ lw_tbl) (k : J l s0 D M R mc ms Q (pc + 2) L (.float v :: rest) T V X sz c n) : J l s0 D M R mc ms Q pc L rest T V X sz c n := fun p e s m args below meth cd H locs ls hC hH hl => lv_ldcf hC.1 hC.2.1 hC.2.2.2.2.1 (hB.word hC.2.2.2.2.2.2.1 hc rfl args) d (k p e s m args below meth cd H locs ls hC hH hl)
theorem j_ldc2 {i : Nat} {v : Int64} (d : decode M.2.1 pc = .ok (.ldc2_w i, 3)) (hB : jB l s0 D) (hc : Cond.constantLong M.1.cls i v ∈ lw_tbl) (k : J l s0 D M R mc ms Q (pc + 3) L (.long v :: rest) T V X sz c n) : J l s0 D M R mc ms Q pc L rest T V X sz c n := fun p e s m args below meth cd H locs ls hC hH hl => lv_ldc2 hC.1 hC.2.1 hC.2.2.2.2.1 (hB.word hC.2.2.2.2.2.2.1 hc rfl args) d (k p e s m args below meth cd H locs ls hC hH hl)
theorem j_ldc2d {i : Nat} {v : UInt64} (d : decode M.2.1 pc = .ok (.ldc2_w i, 3)) (hB : jB l s0 D) (hc : Cond.constantDouble M.1.cls i v ∈ lw_tbl) (k : J l s0 D M R mc ms Q (pc + 3) L (.double v :: rest) T V X sz c n) : J l s0 D M R mc ms Q pc L rest T V X sz c n := fun p e s m args below meth cd H locs ls hC hH hl => lv_ldc2d hC.1 hC.2.1 hC.2.2.2.2.1 (hB.word hC.2.2.2.2.2.2.1 hc rfl args) d (k p e s m args below meth cd H locs ls hC hH hl)
theorem j_sub {L' : List (Nat × Value)} (h : L'.all (fun q => L.lookup q.1 == some q.2) = true) (k : J l s0 D M R mc ms Q pc L' st T V X sz c n) : J l s0 D M R mc ms Q pc L st T V X sz c n := by
  intro p e s m args below meth cd H locs ls hC hH hl
  refine k p e s m args below meth cd H locs ls hC hH ⟨hl.1, hl.2.1, fun q hq => ?_⟩
  have := List.all_eq_true.mp h q hq
  exact lk_at hl (by simpa using this)
theorem j_sub2 {L' : List (Nat × Value)} (h : ∀ q ∈ L', L.lookup q.1 = some q.2) (k : J l s0 D M R mc ms Q pc L' st T V X sz c n) : J l s0 D M R mc ms Q pc L st T V X sz c n := by
  intro p e s m args below meth cd H locs ls hC hH hl
  exact k p e s m args below meth cd H locs ls hC hH ⟨hl.1, hl.2.1, fun q hq => lk_at hl (h q hq)⟩
/-- where a field of a class is linked: the class, the place, the link in the tables -/
def jlf (own : String) (idx ci k : Nat) : Prop := ∃ r : vw_C, vwCl[ci]? = some r ∧ k < r.2.2 ∧ (∀ w ∈ u_ws r.1 r.2.1 r.2.2, w ∈ lw_tbl ∧ goodWord w = true) ∧ (Cond.fieldLink own idx (r.2.1 k).1 (r.2.1 k).2.1 (r.2.1 k).2.2.1 ∈ lw_tbl ∨ ∃ h, Cond.fieldLinkNest own idx (r.2.1 k).1 (r.2.1 k).2.1 (r.2.1 k).2.2.1 h ∈ lw_tbl)
theorem j_get {idx ci k q : Nat} {fs : List (Nat ⊕ Option Nat)} {f : Nat ⊕ Option Nat} (d : decode M.2.1 pc = .ok (.getfield idx, 3)) (hB : jB l s0 D) (hlk : jlf M.1.cls idx ci k) (ht : T q = some (.inl (ci, fs))) (hf : fs[k]? = some f) (K : J l s0 D M R mc ms Q (pc + 3) L (j_fv V X q k f :: rest) T V X sz c n) : J l s0 D M R mc ms Q pc L (.ref q :: rest) T V X sz c n := by
  intro p e s m args below meth cd H locs ls hC hH hl
  obtain ⟨r, h1, h2, h3, h4⟩ := hlk
  obtain ⟨C, TT, N⟩ := r
  have hW := hC.2.2.2.2.2.2.1
  have hK := va_K.moved (hW.alike) hB.2.2.1
  have hts : ∀ w ∈ u_ws C TT N, w.before args s = true := fun w hw => hB.word hW (h3 w hw).1 (h3 w hw).2 args
  have hat := (hH.2.2.2.2.1 q _ ht).2
  have hP : va_P D.1 vwCl [(q, j_E D.2 V X q (.inl (ci, fs)))] H := fun i x hx => by
    have hz : i < 1 := (List.getElem?_eq_some_iff.mp hx).1
    rw [show i = 0 by omega] at hx
    cases hx
    exact hat
  have hv : (j_fs V X q 0 fs)[k]? = some (j_fv V X q k f) := by have := j_fs_get V X q fs 0 k f hf; rwa [Nat.zero_add] at this
  have kk := K p e s m args below meth cd H locs ls hC hH hl
  rcases h4 with h4 | ⟨h, h4⟩
  · exact va_get hC.1 hC.2.1 hts (fun w hw => hw) hC.2.2.2.2.1 hK hP 0 (fs := j_fs V X q 0 fs) rfl h1 k h2 (hB.word hW h4 rfl args) (fun _ h9 => h9) hv d kk
  · exact va_getN hC.1 hC.2.1 hts (fun w hw => hw) hC.2.2.2.2.1 hK hP 0 (fs := j_fs V X q 0 fs) rfl h1 k h2 (hB.nestF hW h4 args) (fun _ h9 => h9) hv d kk
theorem j_geti {idx ci k q : Nat} {fs : List (Nat ⊕ Option Nat)} (d : decode M.2.1 pc = .ok (.getfield idx, 3)) (hB : jB l s0 D) (hlk : jlf M.1.cls idx ci k) (ht : T q = some (.inl (ci, fs))) (hf : fs[k]? = some (.inl 0)) (K : J l s0 D M R mc ms Q (pc + 3) L (.int (V q k) :: rest) T V X sz c n) : J l s0 D M R mc ms Q pc L (.ref q :: rest) T V X sz c n := j_get d hB hlk ht hf K
theorem j_getl {idx ci k q : Nat} {fs : List (Nat ⊕ Option Nat)} (d : decode M.2.1 pc = .ok (.getfield idx, 3)) (hB : jB l s0 D) (hlk : jlf M.1.cls idx ci k) (ht : T q = some (.inl (ci, fs))) (hf : fs[k]? = some (.inl 1)) (K : J l s0 D M R mc ms Q (pc + 3) L (.long (X.1 q k) :: rest) T V X sz c n) : J l s0 D M R mc ms Q pc L (.ref q :: rest) T V X sz c n := j_get d hB hlk ht hf K
theorem j_getr {idx ci k q a : Nat} {fs : List (Nat ⊕ Option Nat)} (d : decode M.2.1 pc = .ok (.getfield idx, 3)) (hB : jB l s0 D) (hlk : jlf M.1.cls idx ci k) (ht : T q = some (.inl (ci, fs))) (hf : fs[k]? = some (.inr (some a))) (K : J l s0 D M R mc ms Q (pc + 3) L (.ref a :: rest) T V X sz c n) : J l s0 D M R mc ms Q pc L (.ref q :: rest) T V X sz c n := j_get d hB hlk ht hf K
/-- a world with one cell changed -/
theorem jH.one {s : State} {T' : jT} {V' : jV} {X' : jX} {H H' : Heap} {locs : List Loc} {a i : Nat} (h : jH s0 D s T V X sz H locs) (ha : s0.heap.size ≤ a) (z : H'.size = H.size) (oq : ∀ q, q ≠ a → H'[q]? = H[q]?) (hT : ∀ q, q ≠ a → T' q = T q) (hV : ∀ q, q ≠ a → V' q = V q) (hX : ∀ q, q ≠ a → X'.1 q = X.1 q ∧ X'.2 q = X.2 q) (hat : ∀ k, T' a = some k → va_at D.1 vwCl (a, j_E D.2 V' X' a k) H') : jH s0 D s T' V' X' sz H' (locs ++ [⟨a, i⟩]) := by
  obtain ⟨h1, h2, h3, h4, h5, h6, h7⟩ := h
  refine ⟨h1, by rw [z]; exact h2, h3, fun q hq => ?_, fun q k hq => ?_, by rw [z]; exact h6, fun x hx => ?_⟩
  · rw [oq q (by omega)]; exact h4 q hq
  · by_cases e : q = a
    · subst e
      exact ⟨ha, hat k hq⟩
    · rw [hT q e] at hq
      obtain ⟨g1, g2⟩ := h5 q k hq
      refine ⟨g1, ?_⟩
      rw [j_E_congr (hV q e) (hX q e).1 (hX q e).2]
      exact g2.kept (oq q e)
  · rcases List.mem_append.mp hx with hx | hx
    · exact h7 x hx
    · rw [List.mem_singleton.mp hx]; exact ha

/-- putfield, of any kind: the cell holds the fields with this one set -/
theorem jw_put {p : Program} {e : Env} {s : State} {m : MethodId} {args : Array Value} {below : List Frame} {meth : Method} {cd : Code} {H : Heap} {locs : List Loc} {ls : Array Slot} {Qs : State → Prop} {idx ci k a : Nat} {fv : List Value} {r : vw_C} {ty : FieldType} {v : Value} (d : decode M.2.1 pc = .ok (.putfield idx, 3)) (hB : jB l s0 D) (hC : jC s0 M p e s m args meth cd) (h1 : vwCl[ci]? = some r) (h2 : k < r.2.2) (h3 : ∀ w ∈ u_ws r.1 r.2.1 r.2.2, w ∈ lw_tbl ∧ goodWord w = true)
    (h4 : Cond.fieldLink M.1.cls idx (r.2.1 k).1 (r.2.1 k).2.1 (r.2.1 k).2.2.1 ∈ lw_tbl ∨ ∃ h, Cond.fieldLinkNest M.1.cls idx (r.2.1 k).1 (r.2.1 k).2.1 (r.2.1 k).2.2.1 h ∈ lw_tbl) (hnm : ∀ a, a < r.2.2 → ∀ b, b < r.2.2 → a ≠ b → (r.2.1 a).2.1 ≠ (r.2.1 b).2.1) (hty : ∀ k, k < r.2.2 → ∃ t, parseFieldDescriptor (r.2.1 k).2.2.1 = some t)
    (hfin : (r.2.1 k).2.2.2 = false ∨ ((r.2.1 k).2.2.2 = true ∧ M.1.name = "<init>" ∧ (r.2.1 k).1 = M.1.cls ∧ Cond.fieldLink M.1.cls idx (r.2.1 k).1 (r.2.1 k).2.1 (r.2.1 k).2.2.1 ∈ lw_tbl)) (hd : parseFieldDescriptor (r.2.1 k).2.2.1 = some ty) (hn : narrow ty v = v) (hfit : fits ty v = true) (hlen : k < fv.length) (hat : va_at D.1 vwCl (a, .inr (ci, fv)) H)
    (kk : ∀ (H' : Heap) (i : Nat), va_at D.1 vwCl (a, .inr (ci, fv.set k v)) H' → H'.size = H.size → (∀ q, q ≠ a → H'[q]? = H[q]?) → W p l e R s m args below meth cd H' (locs ++ [⟨a, i⟩]) c n Qs (F0 m (pc + 3) ls rest)) : W p l e R s m args below meth cd H locs c n Qs (F0 m pc ls (v :: .ref a :: rest)) := by
  obtain ⟨C, TT, N⟩ := r
  have hW := hC.2.2.2.2.2.2.1
  have hK := va_K.moved (hW.alike) hB.2.2.1
  have hts : ∀ w ∈ u_ws C TT N, w.before args s = true := fun w hw => hB.word hW (h3 w hw).1 (h3 w hw).2 args
  have hty0 : ∃ ty0 : Nat → FieldType, ∀ k, k < N → parseFieldDescriptor (TT k).2.2.1 = some (ty0 k) := by
    refine ⟨fun k => if h : k < N then Classical.choose (hty k h) else .int, fun k hk => ?_⟩
    have e9 : (fun k => if h : k < N then Classical.choose (hty k h) else FieldType.int) k = Classical.choose (hty k hk) := dif_pos hk
    rw [e9]
    exact Classical.choose_spec (hty k hk)
  obtain ⟨ty0, hty0⟩ := hty0
  have hap := va_apart (own := M.1.cls) (tys := [(D.2 0, .int), (D.2 0, .int), (D.2 0, .int), (D.2 3, .object "CueSheets$State")]) (D := D.1) (cl := vwCl) (s := s) (ci := ci) hts (fun w hw => hw) ty0 hty0 hnm hK h1
  obtain ⟨r', h1', cell, q1, q2, q3, q4⟩ := hat
  have hr : r' = (C, TT, N) := Option.some.inj (h1'.symm.trans h1)
  subst hr
  obtain ⟨hS, hfc, kC, hkC, hkind⟩ := hK.1 ci _ h1
  obtain ⟨cf, kf, fi, f, hi, hsl⟩ := hS k h2
  have hst := (u_facts hfc hkC (u_lays hts (fun w hw => hw) h2) hi).1
  have hlay := hts _ (u_in_lay h2)
  have fin : ∀ (H' : Heap), H'[a]? = some (cell.setSlot f.slot v) → va_at D.1 vwCl (a, .inr (ci, fv.set k v)) H' := by
    intro H' e1
    rw [hsl] at e1
    exact ⟨_, h1, t_OB.to (V := updV (vp_V fv) k v) ⟨_, e1, q2, q3, t_set q4 hap h2 v⟩ (fun j _ => vp_updV_set hlen v j)⟩
  unfold u_lay at hlay
  rcases hfin with hfin | ⟨hfin, hin, hdecl, h4'⟩
  · rw [if_neg (by rw [hfin]; decide)] at hlay
    have h6 := u_store hfc hkC hkind hlay hi hd hn hfit
    rcases h4 with h4 | ⟨h, h4⟩
    · exact W.putK hC.1 hC.2.1 (f := f) ⟨hC.2.2.2.2.1, hB.word hW h4 rfl args, ⟨_, _, _, hi⟩, hst⟩ (by rw [q2]; exact h6) q1 q3 (by rw [hsl]; exact k2_hasslot (q4 k h2)) rfl rfl d fun H' e1 e2 e3 => kk H' f.slot (fin H' e1) e2 e3
    · exact va_WputK hC.1 hC.2.1 (f := f) hC.2.2.2.2.1 (hB.nestF hW h4 args) hi hst (by rw [q2]; exact h6) q1 q3 (by rw [hsl]; exact k2_hasslot (q4 k h2)) rfl rfl d fun H' e1 e2 e3 => kk H' f.slot (fin H' e1) e2 e3
  · rw [if_pos hfin] at hlay
    have hcf : m.cls = cf := by
      obtain ⟨_, _, c', _, _, _, -, -, hf', -, -, -, hown2, -⟩ := Cond.laysFinal_spec hlay
      have e1 : c' = cf := by have := hi.symm.trans hf'; simp at this; exact this.1.symm
      have e2 : (TT k).1 = M.1.cls := hdecl
      rw [e2] at hown2
      rw [← e1]; exact Option.some.inj (hC.2.2.2.2.1.symm.trans hown2)
    have h6 := u_fits hfc hkC hkind (Or.inr hlay) hi hd hn hfit
    exact W.putFinK hC.1 hC.2.1 hC.2.2.2.2.1 (hB.word hW h4' rfl args) hi hst hcf (hC.2.2.2.2.2.2.2.1.trans hin) (by rw [q2]; exact h6) q1 q3 (by rw [hsl]; exact k2_hasslot (q4 k h2)) rfl rfl d fun H' e1 e2 e3 => kk H' f.slot (fin H' e1) e2 e3
/-- where a field is linked for writing -/
def jlp (M : jM) (idx ci k : Nat) (ty : FieldType) : Prop := ∃ r : vw_C, vwCl[ci]? = some r ∧ k < r.2.2 ∧ (∀ w ∈ u_ws r.1 r.2.1 r.2.2, w ∈ lw_tbl ∧ goodWord w = true) ∧ (Cond.fieldLink M.1.cls idx (r.2.1 k).1 (r.2.1 k).2.1 (r.2.1 k).2.2.1 ∈ lw_tbl ∨ ∃ h, Cond.fieldLinkNest M.1.cls idx (r.2.1 k).1 (r.2.1 k).2.1 (r.2.1 k).2.2.1 h ∈ lw_tbl) ∧ (∀ a, a < r.2.2 → ∀ b, b < r.2.2 → a ≠ b → (r.2.1 a).2.1 ≠ (r.2.1 b).2.1) ∧ (∀ k, k < r.2.2 → ∃ t, parseFieldDescriptor (r.2.1 k).2.2.1 = some t) ∧
  ((r.2.1 k).2.2.2 = false ∨ ((r.2.1 k).2.2.2 = true ∧ M.1.name = "<init>" ∧ (r.2.1 k).1 = M.1.cls ∧ Cond.fieldLink M.1.cls idx (r.2.1 k).1 (r.2.1 k).2.1 (r.2.1 k).2.2.1 ∈ lw_tbl)) ∧ parseFieldDescriptor (r.2.1 k).2.2.1 = some ty
theorem j_puti {idx ci k q : Nat} {fs : List (Nat ⊕ Option Nat)} {v : Int32} (d : decode M.2.1 pc = .ok (.putfield idx, 3)) (hB : jB l s0 D) (hlk : jlp M idx ci k .int) (ht : T q = some (.inl (ci, fs))) (hf : fs[k]? = some (.inl 0)) (K : J l s0 D M R mc ms Q (pc + 3) L rest T (jset V q k v) X sz c n) : J l s0 D M R mc ms Q pc L (.int v :: .ref q :: rest) T V X sz c n := by
  intro p e s m args below meth cd H locs ls hC hH hl
  obtain ⟨r, h1, h2, h3, h4, h5, h6, h7, h8⟩ := hlk
  obtain ⟨g1, g2⟩ := hH.2.2.2.2.1 q _ ht
  refine jw_put d hB hC h1 h2 h3 h4 h5 h6 h7 h8 rfl rfl (by rw [j_fs_len]; exact (List.getElem?_eq_some_iff.mp hf).1) g2 (fun H' i e1 e2 e3 => ?_)
  refine K p e s m args below meth cd H' _ ls hC (hH.one g1 e2 e3 (fun _ _ => rfl) (fun a h => jset_row h) (fun _ _ => ⟨rfl, rfl⟩) fun k' hk' => ?_) hl
  cases ht.symm.trans hk'
  have := j_fs_set V X q v fs 0 k hf
  rw [Nat.zero_add] at this
  rw [this] at e1
  exact e1
theorem j_putl {idx ci k q : Nat} {fs : List (Nat ⊕ Option Nat)} {v : Int64} (d : decode M.2.1 pc = .ok (.putfield idx, 3)) (hB : jB l s0 D) (hlk : jlp M idx ci k .long) (ht : T q = some (.inl (ci, fs))) (hf : fs[k]? = some (.inl 1)) (K : J l s0 D M R mc ms Q (pc + 3) L rest T V (jset X.1 q k v, X.2) sz c n) : J l s0 D M R mc ms Q pc L (.long v :: .ref q :: rest) T V X sz c n := by
  intro p e s m args below meth cd H locs ls hC hH hl
  obtain ⟨r, h1, h2, h3, h4, h5, h6, h7, h8⟩ := hlk
  obtain ⟨g1, g2⟩ := hH.2.2.2.2.1 q _ ht
  refine jw_put d hB hC h1 h2 h3 h4 h5 h6 h7 h8 rfl rfl (by rw [j_fs_len]; exact (List.getElem?_eq_some_iff.mp hf).1) g2 (fun H' i e1 e2 e3 => ?_)
  refine K p e s m args below meth cd H' _ ls hC (hH.one g1 e2 e3 (fun _ _ => rfl) (fun _ _ => rfl) (fun a h => ⟨jset_row h, rfl⟩) fun k' hk' => ?_) hl
  cases ht.symm.trans hk'
  have := j_fs_setL V X q v fs 0 k hf
  rw [Nat.zero_add] at this
  rw [this] at e1
  exact e1
/-- the kinds with a cell's kind set -/
def jup (T : jT) (q : Nat) (k : jK) : jT := fun a => if a = q then some k else T a
theorem jup_eq {T : jT} {q : Nat} {k : jK} : jup T q k q = some k := by simp [jup]
theorem jup_ne {T : jT} {q a : Nat} {k : jK} (h : a ≠ q) : jup T q k a = T a := by simp [jup, h]
theorem j_putr {idx ci k q b : Nat} {fs : List (Nat ⊕ Option Nat)} {ty : FieldType} (d : decode M.2.1 pc = .ok (.putfield idx, 3)) (hB : jB l s0 D) (hlk : jlp M idx ci k ty) (hty : (∃ nm, ty = .object nm) ∨ ∃ t, ty = .array t) (ht : T q = some (.inl (ci, fs))) (hk : k < fs.length) (K : J l s0 D M R mc ms Q (pc + 3) L rest (jup T q (.inl (ci, fs.set k (.inr (some b))))) V X sz c n) : J l s0 D M R mc ms Q pc L (.ref b :: .ref q :: rest) T V X sz c n := by
  intro p e s m args below meth cd H locs ls hC hH hl
  obtain ⟨r, h1, h2, h3, h4, h5, h6, h7, h8⟩ := hlk
  obtain ⟨g1, g2⟩ := hH.2.2.2.2.1 q _ ht
  refine jw_put d hB hC h1 h2 h3 h4 h5 h6 h7 h8 (by rcases hty with ⟨nm, rfl⟩ | ⟨t, rfl⟩ <;> rfl) (by rcases hty with ⟨nm, rfl⟩ | ⟨t, rfl⟩ <;> rfl) (by rw [j_fs_len]; exact hk) g2 (fun H' i e1 e2 e3 => ?_)
  refine K p e s m args below meth cd H' _ ls hC (hH.one g1 e2 e3 (fun a h => jup_ne h) (fun _ _ => rfl) (fun _ _ => ⟨rfl, rfl⟩) fun k' hk' => ?_) hl
  rw [jup_eq] at hk'
  cases hk'
  have := j_fs_setR V X q (some b) fs 0 k
  have e : (va_rf (some b)) = Value.ref b := rfl
  rw [e] at this
  rw [this] at e1
  exact e1
theorem jin_of {i : Int32} {len : Nat} (h0 : 0 ≤ i.toInt) (h1 : i.toInt < len) : vp_in i len := vp_in_iff.mpr ⟨h0, h1⟩
theorem j_iald {a len : Nat} {i : Int32} (d : decode M.2.1 pc = .ok (.iaload, 1)) (hB : jB l s0 D) (ht : T a = some (.inr (.inl (0, len)))) (h0 : 0 ≤ i.toInt) (h1 : i.toInt < len) (K : J l s0 D M R mc ms Q (pc + 1) L (.int (V a i.toNatClampNeg) :: rest) T V X sz c n) : J l s0 D M R mc ms Q pc L (.int i :: .ref a :: rest) T V X sz c n := by
  intro p e s m args below meth cd H locs ls hC hH hl
  have hK := va_K.moved (hC.2.2.2.2.2.2.1.alike) hB.2.2.1
  have hat := (hH.2.2.2.2.1 a _ ht).2
  have hP : va_P D.1 vwCl [(a, .inl (D.2 0, len, .inl (V a)))] H := fun i x hx => by
    have hz : i < 1 := (List.getElem?_eq_some_iff.mp hx).1
    rw [show i = 0 by omega] at hx
    cases hx
    exact hat
  exact va_iald hC.1 hC.2.1 hK hP 0 0 rfl rfl (jin_of h0 h1) d (K p e s m args below meth cd H locs ls hC hH hl)
theorem j_aald {a len : Nat} {i : Int32} {f : Nat → Option Nat} (d : decode M.2.1 pc = .ok (.aaload, 1)) (hB : jB l s0 D) (ht : T a = some (.inr (.inr (len, f)))) (h0 : 0 ≤ i.toInt) (h1 : i.toInt < len) (K : J l s0 D M R mc ms Q (pc + 1) L (va_rf (f i.toNatClampNeg) :: rest) T V X sz c n) : J l s0 D M R mc ms Q pc L (.int i :: .ref a :: rest) T V X sz c n := by
  intro p e s m args below meth cd H locs ls hC hH hl
  have hK := va_K.moved (hC.2.2.2.2.2.2.1.alike) hB.2.2.1
  have hat := (hH.2.2.2.2.1 a _ ht).2
  have hP : va_P D.1 vwCl [(a, .inl (D.2 3, len, .inr (.inr (.inr (.inr f)))))] H := fun i x hx => by
    have hz : i < 1 := (List.getElem?_eq_some_iff.mp hx).1
    rw [show i = 0 by omega] at hx
    cases hx
    exact hat
  exact va_aldq hC.1 hC.2.1 hK hP 0 3 rfl rfl (jin_of h0 h1) d (K p e s m args below meth cd H locs ls hC hH hl)
theorem j_alen {a len : Nat} (d : decode M.2.1 pc = .ok (.arraylength, 1)) (hB : jB l s0 D) (ht : T a = some (.inr (.inl (0, len))) ∨ ∃ f, T a = some (.inr (.inr (len, f)))) (K : J l s0 D M R mc ms Q (pc + 1) L (.int (Int32.ofNat len) :: rest) T V X sz c n) : J l s0 D M R mc ms Q pc L (.ref a :: rest) T V X sz c n := by
  intro p e s m args below meth cd H locs ls hC hH hl
  have hK := va_K.moved (hC.2.2.2.2.2.2.1.alike) hB.2.2.1
  rcases ht with ht | ⟨f, ht⟩
  · have hat := (hH.2.2.2.2.1 a _ ht).2
    have hP : va_P D.1 vwCl [(a, .inl (D.2 0, len, .inl (V a)))] H := fun i x hx => by
      have hz : i < 1 := (List.getElem?_eq_some_iff.mp hx).1
      rw [show i = 0 by omega] at hx
      cases hx
      exact hat
    exact va_alen hC.1 hC.2.1 hK hP 0 0 rfl rfl rfl d (K p e s m args below meth cd H locs ls hC hH hl)
  · have hat := (hH.2.2.2.2.1 a _ ht).2
    have hP : va_P D.1 vwCl [(a, .inl (D.2 3, len, .inr (.inr (.inr (.inr f)))))] H := fun i x hx => by
      have hz : i < 1 := (List.getElem?_eq_some_iff.mp hx).1
      rw [show i = 0 by omega] at hx
      cases hx
      exact hat
    exact va_alen hC.1 hC.2.1 hK hP 0 3 rfl rfl rfl d (K p e s m args below meth cd H locs ls hC hH hl)

theorem j_iast {a len : Nat} {i : Int32} {v : Int32} (d : decode M.2.1 pc = .ok (.iastore, 1)) (hB : jB l s0 D) (ht : T a = some (.inr (.inl (0, len)))) (h0 : 0 ≤ i.toInt) (h1 : i.toInt < len) (K : J l s0 D M R mc ms Q (pc + 1) L rest T (jset V a i.toNatClampNeg v) X sz c n) : J l s0 D M R mc ms Q pc L (.int v :: .int i :: .ref a :: rest) T V X sz c n := by
  intro p e s m args below meth cd H locs ls hC hH hl
  have hK := va_K.moved (hC.2.2.2.2.2.2.1.alike) hB.2.2.1
  obtain ⟨g1, g2⟩ := hH.2.2.2.2.1 a _ ht
  have hin := jin_of h0 h1
  refine W.iast hC.1 hC.2.1 g2 ((hK.2 0 _ rfl).1 len (fun j => .int (V a j))) (fun q => by cases q) (by show ¬ (i < 0 ∨ (arrV _ _ _).slots.size ≤ _); rw [arrV_size]; exact hin) rfl rfl d fun H' e1 e2 e3 => ?_
  refine K p e s m args below meth cd H' _ ls hC (hH.one g1 e2 e3 (fun _ _ => rfl) (fun a h => jset_row h) (fun _ _ => ⟨rfl, rfl⟩) fun k' hk' => ?_) hl
  cases ht.symm.trans hk'
  show H'[a]? = some (vp_cell (D.2 0) (len, _))
  rw [e1]
  show some ((vp_cell (D.2 0) (len, _)).setSlot _ _) = _
  rw [vp_cell_i, vp_cell_i, arrV_store]
  congr 2
  funext q
  by_cases hq : q = i.toNatClampNeg
  · subst hq
    simp [updV, jset]
  · simp [updV, jset, hq]
theorem j_iret {v : Int32} (d : decode M.2.1 pc = .ok (.ireturn, 1)) {rt : FieldType} (hr : M.2.2.2.1 = some rt) (hnr : narrow rt (.int v) = .int v) (hc : c ≤ mc) (hn : n ≤ ms) (hq : Q (.inl (some (.int v))) T V X sz) : J l s0 D M R mc ms Q pc L [.int v] T V X sz c n := by
  intro p e s m args below meth cd H locs ls hC hH hl
  have hlocks := hC.2.2.2.2.2.1
  exact vx_ret (W.widen hc hn (W.zret (v := v) hC.1 hC.2.1 (hC.2.2.2.1.trans hr) hnr (fun t ht hW => ⟨_, T, V, X, sz, rfl, hq, hH.wd ht⟩) hH.2.2.2.2.2.2 d hlocks))
theorem j_lret {v : Int64} (d : decode M.2.1 pc = .ok (.lreturn, 1)) (hr : M.2.2.2.1 = some .long) (hc : c ≤ mc) (hn : n ≤ ms) (hq : Q (.inl (some (.long v))) T V X sz) : J l s0 D M R mc ms Q pc L [.long v] T V X sz c n := by
  intro p e s m args below meth cd H locs ls hC hH hl
  have hlocks := hC.2.2.2.2.2.1
  exact vx_ret (W.widen hc hn (W.lret (v := v) hC.1 hC.2.1 (hC.2.2.2.1.trans hr) (fun t ht hW => ⟨_, T, V, X, sz, rfl, hq, hH.wd ht⟩) hH.2.2.2.2.2.2 d hlocks))
theorem j_fret {v : UInt32} (d : decode M.2.1 pc = .ok (.freturn, 1)) (hr : M.2.2.2.1 = some .float) (hc : c ≤ mc) (hn : n ≤ ms) (hq : Q (.inl (some (.float v))) T V X sz) : J l s0 D M R mc ms Q pc L [.float v] T V X sz c n := by
  intro p e s m args below meth cd H locs ls hC hH hl
  have hlocks := hC.2.2.2.2.2.1
  exact vx_ret (W.widen hc hn (W.fret (v := v) hC.1 hC.2.1 (hC.2.2.2.1.trans hr) (fun t ht hW => ⟨_, T, V, X, sz, rfl, hq, hH.wd ht⟩) hH.2.2.2.2.2.2 d hlocks))
theorem j_dret {v : UInt64} (d : decode M.2.1 pc = .ok (.dreturn, 1)) (hr : M.2.2.2.1 = some .double) (hc : c ≤ mc) (hn : n ≤ ms) (hq : Q (.inl (some (.double v))) T V X sz) : J l s0 D M R mc ms Q pc L [.double v] T V X sz c n := by
  intro p e s m args below meth cd H locs ls hC hH hl
  have hlocks := hC.2.2.2.2.2.1
  exact vx_ret (W.widen hc hn (W.dret (v := v) hC.1 hC.2.1 (hC.2.2.2.1.trans hr) (fun t ht hW => ⟨_, T, V, X, sz, rfl, hq, hH.wd ht⟩) hH.2.2.2.2.2.2 d hlocks))
theorem j_vret (d : decode M.2.1 pc = .ok (.return_, 1)) (hr : M.2.2.2.1 = none) (hc : c ≤ mc) (hn : n ≤ ms) (hq : Q (.inl none) T V X sz) : J l s0 D M R mc ms Q pc L [] T V X sz c n := by
  intro p e s m args below meth cd H locs ls hC hH hl
  have hlocks := hC.2.2.2.2.2.1
  exact vx_ret (W.widen hc hn (W.vret hC.1 hC.2.1 (hC.2.2.2.1.trans hr) (fun t ht hW => ⟨_, T, V, X, sz, rfl, hq, hH.wd ht⟩) hH.2.2.2.2.2.2 d hlocks))
theorem j_aret {r : Option Nat} {rt : FieldType} (d : decode M.2.1 pc = .ok (.areturn, 1)) (hr : M.2.2.2.1 = some rt) (hrt : (∃ n, rt = .object n) ∨ ∃ t, rt = .array t) (hc : c ≤ mc) (hn : n ≤ ms) (hq : Q (.inl (some (va_rf r))) T V X sz) : J l s0 D M R mc ms Q pc L [va_rf r] T V X sz c n := by
  intro p e s m args below meth cd H locs ls hC hH hl
  have hlocks := hC.2.2.2.2.2.1
  exact vx_ret (W.widen hc hn (W.aret hC.1 hC.2.1 (hC.2.2.2.1.trans hr) hrt (by cases r with | none => exact Or.inl rfl | some a => exact Or.inr ⟨a, rfl⟩) (fun t ht hW => ⟨_, T, V, X, sz, rfl, hq, hH.wd ht⟩) hH.2.2.2.2.2.2 d hlocks))
end JF
