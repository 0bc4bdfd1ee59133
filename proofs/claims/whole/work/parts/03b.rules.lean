section EV
variable {own : String} {cc : ByteArray} {nL d mc ms : Nat} {nm : String} {rt : Option FieldType} {ex : List (Nat × Nat × (Nat → Int32))} {n0 : Nat} {Rq : ev_Q} {k n pc : Nat} {lv : List (Nat × Value)} {st : List Value} {T : List ex_T} {σ : ex_S} {μ : ex_L}
theorem e_iadd {x y : Int32} (hd : decode cc pc = .ok (.iadd, 1)) (K : Ev own cc nL d mc ms nm rt ex n0 Rq k n (pc + 1) lv (.int (x + y) :: st) T σ μ) : Ev own cc nL d mc ms nm rt ex n0 Rq k n pc lv (.int y :: .int x :: st) T σ μ := by
  intro p l e R s m args below meth c dC dI cls ad0 A Qf C F ad H locs ls h1 h2 hH hl
  exact lv_iadd C.1 C.2.1 hd (K p l e R s m args below meth c dC dI cls ad0 A Qf C F ad H locs ls h1 h2 hH hl)
theorem e_isub {x y : Int32} (hd : decode cc pc = .ok (.isub, 1)) (K : Ev own cc nL d mc ms nm rt ex n0 Rq k n (pc + 1) lv (.int (x - y) :: st) T σ μ) : Ev own cc nL d mc ms nm rt ex n0 Rq k n pc lv (.int y :: .int x :: st) T σ μ := by
  intro p l e R s m args below meth c dC dI cls ad0 A Qf C F ad H locs ls h1 h2 hH hl
  exact lv_isub C.1 C.2.1 hd (K p l e R s m args below meth c dC dI cls ad0 A Qf C F ad H locs ls h1 h2 hH hl)
theorem e_imul {x y : Int32} (hd : decode cc pc = .ok (.imul, 1)) (K : Ev own cc nL d mc ms nm rt ex n0 Rq k n (pc + 1) lv (.int (x * y) :: st) T σ μ) : Ev own cc nL d mc ms nm rt ex n0 Rq k n pc lv (.int y :: .int x :: st) T σ μ := by
  intro p l e R s m args below meth c dC dI cls ad0 A Qf C F ad H locs ls h1 h2 hH hl
  exact lv_imul C.1 C.2.1 hd (K p l e R s m args below meth c dC dI cls ad0 A Qf C F ad H locs ls h1 h2 hH hl)
theorem e_iand {x y : Int32} (hd : decode cc pc = .ok (.iand, 1)) (K : Ev own cc nL d mc ms nm rt ex n0 Rq k n (pc + 1) lv (.int (x &&& y) :: st) T σ μ) : Ev own cc nL d mc ms nm rt ex n0 Rq k n pc lv (.int y :: .int x :: st) T σ μ := by
  intro p l e R s m args below meth c dC dI cls ad0 A Qf C F ad H locs ls h1 h2 hH hl
  exact lv_iand C.1 C.2.1 hd (K p l e R s m args below meth c dC dI cls ad0 A Qf C F ad H locs ls h1 h2 hH hl)
theorem e_ior {x y : Int32} (hd : decode cc pc = .ok (.ior, 1)) (K : Ev own cc nL d mc ms nm rt ex n0 Rq k n (pc + 1) lv (.int (x ||| y) :: st) T σ μ) : Ev own cc nL d mc ms nm rt ex n0 Rq k n pc lv (.int y :: .int x :: st) T σ μ := by
  intro p l e R s m args below meth c dC dI cls ad0 A Qf C F ad H locs ls h1 h2 hH hl
  exact lv_ior C.1 C.2.1 hd (K p l e R s m args below meth c dC dI cls ad0 A Qf C F ad H locs ls h1 h2 hH hl)
theorem e_ixor {x y : Int32} (hd : decode cc pc = .ok (.ixor, 1)) (K : Ev own cc nL d mc ms nm rt ex n0 Rq k n (pc + 1) lv (.int (x ^^^ y) :: st) T σ μ) : Ev own cc nL d mc ms nm rt ex n0 Rq k n pc lv (.int y :: .int x :: st) T σ μ := by
  intro p l e R s m args below meth c dC dI cls ad0 A Qf C F ad H locs ls h1 h2 hH hl
  exact lv_ixor C.1 C.2.1 hd (K p l e R s m args below meth c dC dI cls ad0 A Qf C F ad H locs ls h1 h2 hH hl)
theorem e_ishl {x y : Int32} (hd : decode cc pc = .ok (.ishl, 1)) (K : Ev own cc nL d mc ms nm rt ex n0 Rq k n (pc + 1) lv (.int (x <<< (y &&& 31)) :: st) T σ μ) : Ev own cc nL d mc ms nm rt ex n0 Rq k n pc lv (.int y :: .int x :: st) T σ μ := by
  intro p l e R s m args below meth c dC dI cls ad0 A Qf C F ad H locs ls h1 h2 hH hl
  exact lv_ishl C.1 C.2.1 hd (K p l e R s m args below meth c dC dI cls ad0 A Qf C F ad H locs ls h1 h2 hH hl)
theorem e_ishr {x y : Int32} (hd : decode cc pc = .ok (.ishr, 1)) (K : Ev own cc nL d mc ms nm rt ex n0 Rq k n (pc + 1) lv (.int (x >>> (y &&& 31)) :: st) T σ μ) : Ev own cc nL d mc ms nm rt ex n0 Rq k n pc lv (.int y :: .int x :: st) T σ μ := by
  intro p l e R s m args below meth c dC dI cls ad0 A Qf C F ad H locs ls h1 h2 hH hl
  exact lv_ishr C.1 C.2.1 hd (K p l e R s m args below meth c dC dI cls ad0 A Qf C F ad H locs ls h1 h2 hH hl)
theorem e_iushr {x y : Int32} (hd : decode cc pc = .ok (.iushr, 1)) (K : Ev own cc nL d mc ms nm rt ex n0 Rq k n (pc + 1) lv (.int ((x.toUInt32 >>> (y.toUInt32 &&& Int32.toUInt32 31)).toInt32) :: st) T σ μ) : Ev own cc nL d mc ms nm rt ex n0 Rq k n pc lv (.int y :: .int x :: st) T σ μ := by
  intro p l e R s m args below meth c dC dI cls ad0 A Qf C F ad H locs ls h1 h2 hH hl
  exact lv_iushr C.1 C.2.1 hd rfl (K p l e R s m args below meth c dC dI cls ad0 A Qf C F ad H locs ls h1 h2 hH hl)
theorem e_ladd {x y : Int64} (hd : decode cc pc = .ok (.ladd, 1)) (K : Ev own cc nL d mc ms nm rt ex n0 Rq k n (pc + 1) lv (.long (x + y) :: st) T σ μ) : Ev own cc nL d mc ms nm rt ex n0 Rq k n pc lv (.long y :: .long x :: st) T σ μ := by
  intro p l e R s m args below meth c dC dI cls ad0 A Qf C F ad H locs ls h1 h2 hH hl
  exact lv_ladd C.1 C.2.1 hd (K p l e R s m args below meth c dC dI cls ad0 A Qf C F ad H locs ls h1 h2 hH hl)
theorem e_lmul {x y : Int64} (hd : decode cc pc = .ok (.lmul, 1)) (K : Ev own cc nL d mc ms nm rt ex n0 Rq k n (pc + 1) lv (.long (x * y) :: st) T σ μ) : Ev own cc nL d mc ms nm rt ex n0 Rq k n pc lv (.long y :: .long x :: st) T σ μ := by
  intro p l e R s m args below meth c dC dI cls ad0 A Qf C F ad H locs ls h1 h2 hH hl
  exact lv_lmul C.1 C.2.1 hd (K p l e R s m args below meth c dC dI cls ad0 A Qf C F ad H locs ls h1 h2 hH hl)
theorem e_land {x y : Int64} (hd : decode cc pc = .ok (.land, 1)) (K : Ev own cc nL d mc ms nm rt ex n0 Rq k n (pc + 1) lv (.long (x &&& y) :: st) T σ μ) : Ev own cc nL d mc ms nm rt ex n0 Rq k n pc lv (.long y :: .long x :: st) T σ μ := by
  intro p l e R s m args below meth c dC dI cls ad0 A Qf C F ad H locs ls h1 h2 hH hl
  exact lv_land C.1 C.2.1 hd (K p l e R s m args below meth c dC dI cls ad0 A Qf C F ad H locs ls h1 h2 hH hl)
theorem e_lor {x y : Int64} (hd : decode cc pc = .ok (.lor, 1)) (K : Ev own cc nL d mc ms nm rt ex n0 Rq k n (pc + 1) lv (.long (x ||| y) :: st) T σ μ) : Ev own cc nL d mc ms nm rt ex n0 Rq k n pc lv (.long y :: .long x :: st) T σ μ := by
  intro p l e R s m args below meth c dC dI cls ad0 A Qf C F ad H locs ls h1 h2 hH hl
  exact lv_lor C.1 C.2.1 hd (K p l e R s m args below meth c dC dI cls ad0 A Qf C F ad H locs ls h1 h2 hH hl)
theorem e_idiv {x y : Int32} (hd : decode cc pc = .ok (.idiv, 1)) (h : ¬ y = 0) (K : Ev own cc nL d mc ms nm rt ex n0 Rq k n (pc + 1) lv (.int (x / y) :: st) T σ μ) : Ev own cc nL d mc ms nm rt ex n0 Rq k n pc lv (.int y :: .int x :: st) T σ μ := by
  intro p l e R s m args below meth c dC dI cls ad0 A Qf C F ad H locs ls h1 h2 hH hl
  exact lv_idiv C.1 C.2.1 hd h (K p l e R s m args below meth c dC dI cls ad0 A Qf C F ad H locs ls h1 h2 hH hl)
theorem e_irem {x y : Int32} (hd : decode cc pc = .ok (.irem, 1)) (h : ¬ y = 0) (K : Ev own cc nL d mc ms nm rt ex n0 Rq k n (pc + 1) lv (.int (x - x / y * y) :: st) T σ μ) : Ev own cc nL d mc ms nm rt ex n0 Rq k n pc lv (.int y :: .int x :: st) T σ μ := by
  intro p l e R s m args below meth c dC dI cls ad0 A Qf C F ad H locs ls h1 h2 hH hl
  exact lv_irem C.1 C.2.1 hd h (K p l e R s m args below meth c dC dI cls ad0 A Qf C F ad H locs ls h1 h2 hH hl)
theorem e_ldiv {x y : Int64} (hd : decode cc pc = .ok (.ldiv, 1)) (h : ¬ y = 0) (K : Ev own cc nL d mc ms nm rt ex n0 Rq k n (pc + 1) lv (.long (x / y) :: st) T σ μ) : Ev own cc nL d mc ms nm rt ex n0 Rq k n pc lv (.long y :: .long x :: st) T σ μ := by
  intro p l e R s m args below meth c dC dI cls ad0 A Qf C F ad H locs ls h1 h2 hH hl
  exact lv_ldiv C.1 C.2.1 hd h (K p l e R s m args below meth c dC dI cls ad0 A Qf C F ad H locs ls h1 h2 hH hl)
theorem e_lrem {x y : Int64} (hd : decode cc pc = .ok (.lrem, 1)) (h : ¬ y = 0) (K : Ev own cc nL d mc ms nm rt ex n0 Rq k n (pc + 1) lv (.long (x - x / y * y) :: st) T σ μ) : Ev own cc nL d mc ms nm rt ex n0 Rq k n pc lv (.long y :: .long x :: st) T σ μ := by
  intro p l e R s m args below meth c dC dI cls ad0 A Qf C F ad H locs ls h1 h2 hH hl
  exact lv_lrem C.1 C.2.1 hd h (K p l e R s m args below meth c dC dI cls ad0 A Qf C F ad H locs ls h1 h2 hH hl)
theorem e_lshl {x : Int64} {y : Int32} (hd : decode cc pc = .ok (.lshl, 1)) (K : Ev own cc nL d mc ms nm rt ex n0 Rq k n (pc + 1) lv (.long (x <<< (y.toInt64 &&& 63)) :: st) T σ μ) : Ev own cc nL d mc ms nm rt ex n0 Rq k n pc lv (.int y :: .long x :: st) T σ μ := by
  intro p l e R s m args below meth c dC dI cls ad0 A Qf C F ad H locs ls h1 h2 hH hl
  exact lv_lshl C.1 C.2.1 hd rfl (K p l e R s m args below meth c dC dI cls ad0 A Qf C F ad H locs ls h1 h2 hH hl)
theorem e_lshr {x : Int64} {y : Int32} (hd : decode cc pc = .ok (.lshr, 1)) (K : Ev own cc nL d mc ms nm rt ex n0 Rq k n (pc + 1) lv (.long (x >>> (y.toInt64 &&& 63)) :: st) T σ μ) : Ev own cc nL d mc ms nm rt ex n0 Rq k n pc lv (.int y :: .long x :: st) T σ μ := by
  intro p l e R s m args below meth c dC dI cls ad0 A Qf C F ad H locs ls h1 h2 hH hl
  exact lv_lshr C.1 C.2.1 hd rfl (K p l e R s m args below meth c dC dI cls ad0 A Qf C F ad H locs ls h1 h2 hH hl)
theorem e_lcmp {x y : Int64} (hd : decode cc pc = .ok (.lcmp, 1)) (K : Ev own cc nL d mc ms nm rt ex n0 Rq k n (pc + 1) lv (.int (lg_cmp x y) :: st) T σ μ) : Ev own cc nL d mc ms nm rt ex n0 Rq k n pc lv (.long y :: .long x :: st) T σ μ := by
  intro p l e R s m args below meth c dC dI cls ad0 A Qf C F ad H locs ls h1 h2 hH hl
  exact W.lcmp C.1 C.2.1 hd (K p l e R s m args below meth c dC dI cls ad0 A Qf C F ad H locs ls h1 h2 hH hl)
theorem e_i2l {x : Int32} (hd : decode cc pc = .ok (.i2l, 1)) (K : Ev own cc nL d mc ms nm rt ex n0 Rq k n (pc + 1) lv (.long x.toInt64 :: st) T σ μ) : Ev own cc nL d mc ms nm rt ex n0 Rq k n pc lv (.int x :: st) T σ μ := by
  intro p l e R s m args below meth c dC dI cls ad0 A Qf C F ad H locs ls h1 h2 hH hl
  exact lv_i2l C.1 C.2.1 hd rfl (K p l e R s m args below meth c dC dI cls ad0 A Qf C F ad H locs ls h1 h2 hH hl)
theorem e_l2i {x : Int64} (hd : decode cc pc = .ok (.l2i, 1)) (K : Ev own cc nL d mc ms nm rt ex n0 Rq k n (pc + 1) lv (.int x.toInt32 :: st) T σ μ) : Ev own cc nL d mc ms nm rt ex n0 Rq k n pc lv (.long x :: st) T σ μ := by
  intro p l e R s m args below meth c dC dI cls ad0 A Qf C F ad H locs ls h1 h2 hH hl
  exact lv_l2i C.1 C.2.1 hd rfl (K p l e R s m args below meth c dC dI cls ad0 A Qf C F ad H locs ls h1 h2 hH hl)
theorem e_i2b {x : Int32} (hd : decode cc pc = .ok (.i2b, 1)) (K : Ev own cc nL d mc ms nm rt ex n0 Rq k n (pc + 1) lv (.int x.toInt8.toInt32 :: st) T σ μ) : Ev own cc nL d mc ms nm rt ex n0 Rq k n pc lv (.int x :: st) T σ μ := by
  intro p l e R s m args below meth c dC dI cls ad0 A Qf C F ad H locs ls h1 h2 hH hl
  exact lv_i2b C.1 C.2.1 hd rfl (K p l e R s m args below meth c dC dI cls ad0 A Qf C F ad H locs ls h1 h2 hH hl)
theorem e_i2s {x : Int32} (hd : decode cc pc = .ok (.i2s, 1)) (K : Ev own cc nL d mc ms nm rt ex n0 Rq k n (pc + 1) lv (.int x.toInt16.toInt32 :: st) T σ μ) : Ev own cc nL d mc ms nm rt ex n0 Rq k n pc lv (.int x :: st) T σ μ := by
  intro p l e R s m args below meth c dC dI cls ad0 A Qf C F ad H locs ls h1 h2 hH hl
  exact lv_i2s C.1 C.2.1 hd rfl (K p l e R s m args below meth c dC dI cls ad0 A Qf C F ad H locs ls h1 h2 hH hl)
theorem e_i2c {x : Int32} (hd : decode cc pc = .ok (.i2c, 1)) (K : Ev own cc nL d mc ms nm rt ex n0 Rq k n (pc + 1) lv (.int (x.toUInt32 % 65536).toInt32 :: st) T σ μ) : Ev own cc nL d mc ms nm rt ex n0 Rq k n pc lv (.int x :: st) T σ μ := by
  intro p l e R s m args below meth c dC dI cls ad0 A Qf C F ad H locs ls h1 h2 hH hl
  exact lv_i2c C.1 C.2.1 hd rfl (K p l e R s m args below meth c dC dI cls ad0 A Qf C F ad H locs ls h1 h2 hH hl)
theorem e_iconst {q : Int} {v : Int32} (hd : decode cc pc = .ok (.iconst q, 1)) (hv : Int32.ofInt q = v) (K : Ev own cc nL d mc ms nm rt ex n0 Rq k n (pc + 1) lv (.int v :: st) T σ μ) : Ev own cc nL d mc ms nm rt ex n0 Rq k n pc lv (st) T σ μ := by
  intro p l e R s m args below meth c dC dI cls ad0 A Qf C F ad H locs ls h1 h2 hH hl
  exact lv_iconst C.1 C.2.1 hd hv (K p l e R s m args below meth c dC dI cls ad0 A Qf C F ad H locs ls h1 h2 hH hl)
theorem e_bipush {q : Int} {v : Int32} (hd : decode cc pc = .ok (.bipush q, 2)) (hv : (Int8.ofInt q).toInt32 = v) (K : Ev own cc nL d mc ms nm rt ex n0 Rq k n (pc + 2) lv (.int v :: st) T σ μ) : Ev own cc nL d mc ms nm rt ex n0 Rq k n pc lv (st) T σ μ := by
  intro p l e R s m args below meth c dC dI cls ad0 A Qf C F ad H locs ls h1 h2 hH hl
  exact lv_bipush C.1 C.2.1 hd hv (K p l e R s m args below meth c dC dI cls ad0 A Qf C F ad H locs ls h1 h2 hH hl)
theorem e_sipush {q : Int} {v : Int32} (hd : decode cc pc = .ok (.sipush q, 3)) (hv : (Int16.ofInt q).toInt32 = v) (K : Ev own cc nL d mc ms nm rt ex n0 Rq k n (pc + 3) lv (.int v :: st) T σ μ) : Ev own cc nL d mc ms nm rt ex n0 Rq k n pc lv (st) T σ μ := by
  intro p l e R s m args below meth c dC dI cls ad0 A Qf C F ad H locs ls h1 h2 hH hl
  exact lv_sipush C.1 C.2.1 hd hv (K p l e R s m args below meth c dC dI cls ad0 A Qf C F ad H locs ls h1 h2 hH hl)
theorem e_lconst {q : Fin 2} {v : Int64} (hd : decode cc pc = .ok (.lconst q, 1)) (hv : Int64.ofNat (q : Nat) = v) (K : Ev own cc nL d mc ms nm rt ex n0 Rq k n (pc + 1) lv (.long v :: st) T σ μ) : Ev own cc nL d mc ms nm rt ex n0 Rq k n pc lv (st) T σ μ := by
  intro p l e R s m args below meth c dC dI cls ad0 A Qf C F ad H locs ls h1 h2 hH hl
  exact lv_lconst C.1 C.2.1 hd hv (K p l e R s m args below meth c dC dI cls ad0 A Qf C F ad H locs ls h1 h2 hH hl)
theorem e_ldc {i : Nat} {v : Int32} (hd : decode cc pc = .ok (.ldc i, 2)) (hc : Cond.constant own i v ∈ ev_ws) (K : Ev own cc nL d mc ms nm rt ex n0 Rq k n (pc + 2) lv (.int v :: st) T σ μ) : Ev own cc nL d mc ms nm rt ex n0 Rq k n pc lv (st) T σ μ := by
  intro p l e R s m args below meth c dC dI cls ad0 A Qf C F ad H locs ls h1 h2 hH hl
  exact lv_ldc C.1 C.2.1 C.2.2.2.1 (C.2.2.2.2.1 _ hc) hd (K p l e R s m args below meth c dC dI cls ad0 A Qf C F ad H locs ls h1 h2 hH hl)
theorem e_ldcw {i : Nat} {v : Int32} (hd : decode cc pc = .ok (.ldc_w i, 3)) (hc : Cond.constant own i v ∈ ev_ws) (K : Ev own cc nL d mc ms nm rt ex n0 Rq k n (pc + 3) lv (.int v :: st) T σ μ) : Ev own cc nL d mc ms nm rt ex n0 Rq k n pc lv (st) T σ μ := by
  intro p l e R s m args below meth c dC dI cls ad0 A Qf C F ad H locs ls h1 h2 hH hl
  exact lv_ldcw C.1 C.2.1 C.2.2.2.1 (C.2.2.2.2.1 _ hc) hd (K p l e R s m args below meth c dC dI cls ad0 A Qf C F ad H locs ls h1 h2 hH hl)
theorem e_ldc2 {i : Nat} {v : Int64} (hd : decode cc pc = .ok (.ldc2_w i, 3)) (hc : Cond.constantLong own i v ∈ ev_ws) (K : Ev own cc nL d mc ms nm rt ex n0 Rq k n (pc + 3) lv (.long v :: st) T σ μ) : Ev own cc nL d mc ms nm rt ex n0 Rq k n pc lv (st) T σ μ := by
  intro p l e R s m args below meth c dC dI cls ad0 A Qf C F ad H locs ls h1 h2 hH hl
  exact lv_ldc2 C.1 C.2.1 C.2.2.2.1 (C.2.2.2.2.1 _ hc) hd (K p l e R s m args below meth c dC dI cls ad0 A Qf C F ad H locs ls h1 h2 hH hl)
theorem e_dup {v : Value} (hd : decode cc pc = .ok (.dup, 1)) (hv : v.category = 1) (K : Ev own cc nL d mc ms nm rt ex n0 Rq k n (pc + 1) lv (v :: v :: st) T σ μ) : Ev own cc nL d mc ms nm rt ex n0 Rq k n pc lv (v :: st) T σ μ := by
  intro p l e R s m args below meth c dC dI cls ad0 A Qf C F ad H locs ls h1 h2 hH hl
  exact lv_dup C.1 C.2.1 hd ((ev_cat ad v).trans hv) (K p l e R s m args below meth c dC dI cls ad0 A Qf C F ad H locs ls h1 h2 hH hl)
theorem e_dup_x1 {v u : Value} (hd : decode cc pc = .ok (.dup_x1, 1)) (hv : v.category = 1) (hu : u.category = 1) (K : Ev own cc nL d mc ms nm rt ex n0 Rq k n (pc + 1) lv (v :: u :: v :: st) T σ μ) : Ev own cc nL d mc ms nm rt ex n0 Rq k n pc lv (v :: u :: st) T σ μ := by
  intro p l e R s m args below meth c dC dI cls ad0 A Qf C F ad H locs ls h1 h2 hH hl
  exact lv_dup_x1 C.1 C.2.1 hd ((ev_cat ad v).trans hv) ((ev_cat ad u).trans hu) (K p l e R s m args below meth c dC dI cls ad0 A Qf C F ad H locs ls h1 h2 hH hl)
theorem e_dup2 {v u : Value} (hd : decode cc pc = .ok (.dup2, 1)) (hv : v.category = 1) (hu : u.category = 1) (K : Ev own cc nL d mc ms nm rt ex n0 Rq k n (pc + 1) lv (v :: u :: v :: u :: st) T σ μ) : Ev own cc nL d mc ms nm rt ex n0 Rq k n pc lv (v :: u :: st) T σ μ := by
  intro p l e R s m args below meth c dC dI cls ad0 A Qf C F ad H locs ls h1 h2 hH hl
  exact lv_dup2_11 C.1 C.2.1 hd ((ev_cat ad v).trans hv) ((ev_cat ad u).trans hu) (K p l e R s m args below meth c dC dI cls ad0 A Qf C F ad H locs ls h1 h2 hH hl)
theorem e_iload_n {q : Fin 4} {i : Nat} {x : Int32} (hd : decode cc pc = .ok (.iload_n q, 1)) (hi : (q : Nat) = i) (z : Nat) (hz : lv[z]? = some (i, .int x)) (K : Ev own cc nL d mc ms nm rt ex n0 Rq k n (pc + 1) lv (.int x :: st) T σ μ) : Ev own cc nL d mc ms nm rt ex n0 Rq k n pc lv st T σ μ := by
  intro p l e R s m args below meth c dC dI cls ad0 A Qf C F ad H locs ls h1 h2 hH hl
  exact lv_iload_n C.1 C.2.1 hd hi (ev_at hl z hz) (K p l e R s m args below meth c dC dI cls ad0 A Qf C F ad H locs ls h1 h2 hH hl)
theorem e_iload {i : Nat} {x : Int32} (hd : decode cc pc = .ok (.iload i, 2)) (z : Nat) (hz : lv[z]? = some (i, .int x)) (K : Ev own cc nL d mc ms nm rt ex n0 Rq k n (pc + 2) lv (.int x :: st) T σ μ) : Ev own cc nL d mc ms nm rt ex n0 Rq k n pc lv st T σ μ := by
  intro p l e R s m args below meth c dC dI cls ad0 A Qf C F ad H locs ls h1 h2 hH hl
  exact lv_iload C.1 C.2.1 hd (ev_at hl z hz) (K p l e R s m args below meth c dC dI cls ad0 A Qf C F ad H locs ls h1 h2 hH hl)
theorem e_aload_n {q : Fin 4} {i : Nat} {x : Nat} (hd : decode cc pc = .ok (.aload_n q, 1)) (hi : (q : Nat) = i) (z : Nat) (hz : lv[z]? = some (i, .ref x)) (K : Ev own cc nL d mc ms nm rt ex n0 Rq k n (pc + 1) lv (.ref x :: st) T σ μ) : Ev own cc nL d mc ms nm rt ex n0 Rq k n pc lv st T σ μ := by
  intro p l e R s m args below meth c dC dI cls ad0 A Qf C F ad H locs ls h1 h2 hH hl
  exact lv_aload_n C.1 C.2.1 hd hi (ev_at hl z hz) (K p l e R s m args below meth c dC dI cls ad0 A Qf C F ad H locs ls h1 h2 hH hl)
theorem e_lload_n {q : Fin 4} {i : Nat} {x : Int64} (hd : decode cc pc = .ok (.lload_n q, 1)) (hi : (q : Nat) = i) (z : Nat) (hz : lv[z]? = some (i, .long x)) (K : Ev own cc nL d mc ms nm rt ex n0 Rq k n (pc + 1) lv (.long x :: st) T σ μ) : Ev own cc nL d mc ms nm rt ex n0 Rq k n pc lv st T σ μ := by
  intro p l e R s m args below meth c dC dI cls ad0 A Qf C F ad H locs ls h1 h2 hH hl
  exact lv_lload_n C.1 C.2.1 hd hi (ev_at hl z hz) (K p l e R s m args below meth c dC dI cls ad0 A Qf C F ad H locs ls h1 h2 hH hl)
theorem e_lload {i : Nat} {x : Int64} (hd : decode cc pc = .ok (.lload i, 2)) (z : Nat) (hz : lv[z]? = some (i, .long x)) (K : Ev own cc nL d mc ms nm rt ex n0 Rq k n (pc + 2) lv (.long x :: st) T σ μ) : Ev own cc nL d mc ms nm rt ex n0 Rq k n pc lv st T σ μ := by
  intro p l e R s m args below meth c dC dI cls ad0 A Qf C F ad H locs ls h1 h2 hH hl
  exact lv_lload C.1 C.2.1 hd (ev_at hl z hz) (K p l e R s m args below meth c dC dI cls ad0 A Qf C F ad H locs ls h1 h2 hH hl)
theorem e_istore_n {q : Fin 4} {i : Nat} {x : Int32} (lv' : List (Nat × Value)) (hd : decode cc pc = .ok (.istore_n q, 1)) (hi : (q : Nat) = i) (hn : i < nL) (he : ev_st lv i (.int x) = lv') (K : Ev own cc nL d mc ms nm rt ex n0 Rq k n (pc + 1) lv' st T σ μ) : Ev own cc nL d mc ms nm rt ex n0 Rq k n pc lv (.int x :: st) T σ μ := by
  intro p l e R s m args below meth c dC dI cls ad0 A Qf C F ad H locs ls h1 h2 hH hl
  exact lv_istore_n C.1 C.2.1 hd hi hl hn rfl (fun ls9 hl9 => K p l e R s m args below meth c dC dI cls ad0 A Qf C F ad H locs ls9 h1 h2 hH (ev_st_has he hl9))
theorem e_istore {i : Nat} {x : Int32} (lv' : List (Nat × Value)) (hd : decode cc pc = .ok (.istore i, 2)) (hn : i < nL) (he : ev_st lv i (.int x) = lv') (K : Ev own cc nL d mc ms nm rt ex n0 Rq k n (pc + 2) lv' st T σ μ) : Ev own cc nL d mc ms nm rt ex n0 Rq k n pc lv (.int x :: st) T σ μ := by
  intro p l e R s m args below meth c dC dI cls ad0 A Qf C F ad H locs ls h1 h2 hH hl
  exact lv_istore C.1 C.2.1 hd hl hn rfl (fun ls9 hl9 => K p l e R s m args below meth c dC dI cls ad0 A Qf C F ad H locs ls9 h1 h2 hH (ev_st_has he hl9))
theorem e_astore_n {q : Fin 4} {i : Nat} {x : Nat} (lv' : List (Nat × Value)) (hd : decode cc pc = .ok (.astore_n q, 1)) (hi : (q : Nat) = i) (hn : i < nL) (he : ev_st lv i (.ref x) = lv') (K : Ev own cc nL d mc ms nm rt ex n0 Rq k n (pc + 1) lv' st T σ μ) : Ev own cc nL d mc ms nm rt ex n0 Rq k n pc lv (.ref x :: st) T σ μ := by
  intro p l e R s m args below meth c dC dI cls ad0 A Qf C F ad H locs ls h1 h2 hH hl
  exact lv_astore_n C.1 C.2.1 hd hi hl hn rfl (fun ls9 hl9 => K p l e R s m args below meth c dC dI cls ad0 A Qf C F ad H locs ls9 h1 h2 hH (ev_st_has he hl9))
theorem e_lstore_n {q : Fin 4} {i : Nat} {x : Int64} (lv' : List (Nat × Value)) (hd : decode cc pc = .ok (.lstore_n q, 1)) (hi : (q : Nat) = i) (hn : i + 1 < nL) (he : ev_st2 lv i (.long x) = lv') (K : Ev own cc nL d mc ms nm rt ex n0 Rq k n (pc + 1) lv' st T σ μ) : Ev own cc nL d mc ms nm rt ex n0 Rq k n pc lv (.long x :: st) T σ μ := by
  intro p l e R s m args below meth c dC dI cls ad0 A Qf C F ad H locs ls h1 h2 hH hl
  exact lv_lstore_n C.1 C.2.1 hd hi hl hn rfl (fun ls9 hl9 => K p l e R s m args below meth c dC dI cls ad0 A Qf C F ad H locs ls9 h1 h2 hH (ev_st2_has he hl9))
theorem e_lstore {i : Nat} {x : Int64} (lv' : List (Nat × Value)) (hd : decode cc pc = .ok (.lstore i, 2)) (hn : i + 1 < nL) (he : ev_st2 lv i (.long x) = lv') (K : Ev own cc nL d mc ms nm rt ex n0 Rq k n (pc + 2) lv' st T σ μ) : Ev own cc nL d mc ms nm rt ex n0 Rq k n pc lv (.long x :: st) T σ μ := by
  intro p l e R s m args below meth c dC dI cls ad0 A Qf C F ad H locs ls h1 h2 hH hl
  exact lv_lstore C.1 C.2.1 hd hl hn rfl (fun ls9 hl9 => K p l e R s m args below meth c dC dI cls ad0 A Qf C F ad H locs ls9 h1 h2 hH (ev_st2_has he hl9))
theorem e_iinc {i : Nat} {j : Int} {x : Int32} (v : Int32) (lv' : List (Nat × Value)) (hd : decode cc pc = .ok (.iinc i j, 3)) (z : Nat) (hz : lv[z]? = some (i, .int x)) (hv : x + Int32.ofInt j = v) (hn : i < nL) (he : ev_st lv i (.int v) = lv') (K : Ev own cc nL d mc ms nm rt ex n0 Rq k n (pc + 3) lv' st T σ μ) : Ev own cc nL d mc ms nm rt ex n0 Rq k n pc lv st T σ μ := by
  intro p l e R s m args below meth c dC dI cls ad0 A Qf C F ad H locs ls h1 h2 hH hl
  exact lv_iinc C.1 C.2.1 hd hl (k := z) (by rw [ev_l, List.getElem?_map, hz]; rfl) hv hn rfl (fun ls9 hl9 => K p l e R s m args below meth c dC dI cls ad0 A Qf C F ad H locs ls9 h1 h2 hH (ev_st_has he hl9))
theorem e_goto {o : Int} {t : Nat} (hd : decode cc pc = .ok (.goto o, 3)) (ht : (pc : Int) + o = (t : Int)) (K : Ev own cc nL d mc ms nm rt ex n0 Rq k n t lv st T σ μ) : Ev own cc nL d mc ms nm rt ex n0 Rq k n pc lv st T σ μ := by
  intro p l e R s m args below meth c dC dI cls ad0 A Qf C F ad H locs ls h1 h2 hH hl
  exact lv_goto C.1 C.2.1 hd ht (K p l e R s m args below meth c dC dI cls ad0 A Qf C F ad H locs ls h1 h2 hH hl)
theorem e_if_eq {x : Int32} {o : Int} {t : Nat} (hd : decode cc pc = .ok (.ifCond .eq o, 3)) (ht : (pc : Int) + o = (t : Int)) (K1 : x = 0 → Ev own cc nL d mc ms nm rt ex n0 Rq k n t lv st T σ μ) (K2 : ¬ x = 0 → Ev own cc nL d mc ms nm rt ex n0 Rq k n (pc + 3) lv st T σ μ) : Ev own cc nL d mc ms nm rt ex n0 Rq k n pc lv (.int x :: st) T σ μ := by
  intro p l e R s m args below meth c dC dI cls ad0 A Qf C F ad H locs ls h1 h2 hH hl
  exact lv_if_eq C.1 C.2.1 hd ht (fun h => K1 h p l e R s m args below meth c dC dI cls ad0 A Qf C F ad H locs ls h1 h2 hH hl) (fun h => K2 h p l e R s m args below meth c dC dI cls ad0 A Qf C F ad H locs ls h1 h2 hH hl)
theorem e_icmp_eq {x y : Int32} {o : Int} {t : Nat} (hd : decode cc pc = .ok (.if_icmp .eq o, 3)) (ht : (pc : Int) + o = (t : Int)) (K1 : x = y → Ev own cc nL d mc ms nm rt ex n0 Rq k n t lv st T σ μ) (K2 : ¬ x = y → Ev own cc nL d mc ms nm rt ex n0 Rq k n (pc + 3) lv st T σ μ) : Ev own cc nL d mc ms nm rt ex n0 Rq k n pc lv (.int y :: .int x :: st) T σ μ := by
  intro p l e R s m args below meth c dC dI cls ad0 A Qf C F ad H locs ls h1 h2 hH hl
  exact lv_icmp_eq C.1 C.2.1 hd ht (fun h => K1 h p l e R s m args below meth c dC dI cls ad0 A Qf C F ad H locs ls h1 h2 hH hl) (fun h => K2 h p l e R s m args below meth c dC dI cls ad0 A Qf C F ad H locs ls h1 h2 hH hl)
theorem e_if_ne {x : Int32} {o : Int} {t : Nat} (hd : decode cc pc = .ok (.ifCond .ne o, 3)) (ht : (pc : Int) + o = (t : Int)) (K1 : ¬ x = 0 → Ev own cc nL d mc ms nm rt ex n0 Rq k n t lv st T σ μ) (K2 : x = 0 → Ev own cc nL d mc ms nm rt ex n0 Rq k n (pc + 3) lv st T σ μ) : Ev own cc nL d mc ms nm rt ex n0 Rq k n pc lv (.int x :: st) T σ μ := by
  intro p l e R s m args below meth c dC dI cls ad0 A Qf C F ad H locs ls h1 h2 hH hl
  exact lv_if_ne C.1 C.2.1 hd ht (fun h => K1 h p l e R s m args below meth c dC dI cls ad0 A Qf C F ad H locs ls h1 h2 hH hl) (fun h => K2 h p l e R s m args below meth c dC dI cls ad0 A Qf C F ad H locs ls h1 h2 hH hl)
theorem e_icmp_ne {x y : Int32} {o : Int} {t : Nat} (hd : decode cc pc = .ok (.if_icmp .ne o, 3)) (ht : (pc : Int) + o = (t : Int)) (K1 : ¬ x = y → Ev own cc nL d mc ms nm rt ex n0 Rq k n t lv st T σ μ) (K2 : x = y → Ev own cc nL d mc ms nm rt ex n0 Rq k n (pc + 3) lv st T σ μ) : Ev own cc nL d mc ms nm rt ex n0 Rq k n pc lv (.int y :: .int x :: st) T σ μ := by
  intro p l e R s m args below meth c dC dI cls ad0 A Qf C F ad H locs ls h1 h2 hH hl
  exact lv_icmp_ne C.1 C.2.1 hd ht (fun h => K1 h p l e R s m args below meth c dC dI cls ad0 A Qf C F ad H locs ls h1 h2 hH hl) (fun h => K2 h p l e R s m args below meth c dC dI cls ad0 A Qf C F ad H locs ls h1 h2 hH hl)
theorem e_if_lt {x : Int32} {o : Int} {t : Nat} (hd : decode cc pc = .ok (.ifCond .lt o, 3)) (ht : (pc : Int) + o = (t : Int)) (K1 : x < 0 → Ev own cc nL d mc ms nm rt ex n0 Rq k n t lv st T σ μ) (K2 : ¬ x < 0 → Ev own cc nL d mc ms nm rt ex n0 Rq k n (pc + 3) lv st T σ μ) : Ev own cc nL d mc ms nm rt ex n0 Rq k n pc lv (.int x :: st) T σ μ := by
  intro p l e R s m args below meth c dC dI cls ad0 A Qf C F ad H locs ls h1 h2 hH hl
  exact lv_if_lt C.1 C.2.1 hd ht (fun h => K1 h p l e R s m args below meth c dC dI cls ad0 A Qf C F ad H locs ls h1 h2 hH hl) (fun h => K2 h p l e R s m args below meth c dC dI cls ad0 A Qf C F ad H locs ls h1 h2 hH hl)
theorem e_icmp_lt {x y : Int32} {o : Int} {t : Nat} (hd : decode cc pc = .ok (.if_icmp .lt o, 3)) (ht : (pc : Int) + o = (t : Int)) (K1 : x < y → Ev own cc nL d mc ms nm rt ex n0 Rq k n t lv st T σ μ) (K2 : ¬ x < y → Ev own cc nL d mc ms nm rt ex n0 Rq k n (pc + 3) lv st T σ μ) : Ev own cc nL d mc ms nm rt ex n0 Rq k n pc lv (.int y :: .int x :: st) T σ μ := by
  intro p l e R s m args below meth c dC dI cls ad0 A Qf C F ad H locs ls h1 h2 hH hl
  exact lv_icmp_lt C.1 C.2.1 hd ht (fun h => K1 h p l e R s m args below meth c dC dI cls ad0 A Qf C F ad H locs ls h1 h2 hH hl) (fun h => K2 h p l e R s m args below meth c dC dI cls ad0 A Qf C F ad H locs ls h1 h2 hH hl)
theorem e_if_ge {x : Int32} {o : Int} {t : Nat} (hd : decode cc pc = .ok (.ifCond .ge o, 3)) (ht : (pc : Int) + o = (t : Int)) (K1 : 0 ≤ x → Ev own cc nL d mc ms nm rt ex n0 Rq k n t lv st T σ μ) (K2 : ¬ 0 ≤ x → Ev own cc nL d mc ms nm rt ex n0 Rq k n (pc + 3) lv st T σ μ) : Ev own cc nL d mc ms nm rt ex n0 Rq k n pc lv (.int x :: st) T σ μ := by
  intro p l e R s m args below meth c dC dI cls ad0 A Qf C F ad H locs ls h1 h2 hH hl
  exact lv_if_ge C.1 C.2.1 hd ht (fun h => K1 h p l e R s m args below meth c dC dI cls ad0 A Qf C F ad H locs ls h1 h2 hH hl) (fun h => K2 h p l e R s m args below meth c dC dI cls ad0 A Qf C F ad H locs ls h1 h2 hH hl)
theorem e_icmp_ge {x y : Int32} {o : Int} {t : Nat} (hd : decode cc pc = .ok (.if_icmp .ge o, 3)) (ht : (pc : Int) + o = (t : Int)) (K1 : y ≤ x → Ev own cc nL d mc ms nm rt ex n0 Rq k n t lv st T σ μ) (K2 : ¬ y ≤ x → Ev own cc nL d mc ms nm rt ex n0 Rq k n (pc + 3) lv st T σ μ) : Ev own cc nL d mc ms nm rt ex n0 Rq k n pc lv (.int y :: .int x :: st) T σ μ := by
  intro p l e R s m args below meth c dC dI cls ad0 A Qf C F ad H locs ls h1 h2 hH hl
  exact lv_icmp_ge C.1 C.2.1 hd ht (fun h => K1 h p l e R s m args below meth c dC dI cls ad0 A Qf C F ad H locs ls h1 h2 hH hl) (fun h => K2 h p l e R s m args below meth c dC dI cls ad0 A Qf C F ad H locs ls h1 h2 hH hl)
theorem e_if_gt {x : Int32} {o : Int} {t : Nat} (hd : decode cc pc = .ok (.ifCond .gt o, 3)) (ht : (pc : Int) + o = (t : Int)) (K1 : 0 < x → Ev own cc nL d mc ms nm rt ex n0 Rq k n t lv st T σ μ) (K2 : ¬ 0 < x → Ev own cc nL d mc ms nm rt ex n0 Rq k n (pc + 3) lv st T σ μ) : Ev own cc nL d mc ms nm rt ex n0 Rq k n pc lv (.int x :: st) T σ μ := by
  intro p l e R s m args below meth c dC dI cls ad0 A Qf C F ad H locs ls h1 h2 hH hl
  exact lv_if_gt C.1 C.2.1 hd ht (fun h => K1 h p l e R s m args below meth c dC dI cls ad0 A Qf C F ad H locs ls h1 h2 hH hl) (fun h => K2 h p l e R s m args below meth c dC dI cls ad0 A Qf C F ad H locs ls h1 h2 hH hl)
theorem e_icmp_gt {x y : Int32} {o : Int} {t : Nat} (hd : decode cc pc = .ok (.if_icmp .gt o, 3)) (ht : (pc : Int) + o = (t : Int)) (K1 : y < x → Ev own cc nL d mc ms nm rt ex n0 Rq k n t lv st T σ μ) (K2 : ¬ y < x → Ev own cc nL d mc ms nm rt ex n0 Rq k n (pc + 3) lv st T σ μ) : Ev own cc nL d mc ms nm rt ex n0 Rq k n pc lv (.int y :: .int x :: st) T σ μ := by
  intro p l e R s m args below meth c dC dI cls ad0 A Qf C F ad H locs ls h1 h2 hH hl
  exact lv_icmp_gt C.1 C.2.1 hd ht (fun h => K1 h p l e R s m args below meth c dC dI cls ad0 A Qf C F ad H locs ls h1 h2 hH hl) (fun h => K2 h p l e R s m args below meth c dC dI cls ad0 A Qf C F ad H locs ls h1 h2 hH hl)
theorem e_if_le {x : Int32} {o : Int} {t : Nat} (hd : decode cc pc = .ok (.ifCond .le o, 3)) (ht : (pc : Int) + o = (t : Int)) (K1 : x ≤ 0 → Ev own cc nL d mc ms nm rt ex n0 Rq k n t lv st T σ μ) (K2 : ¬ x ≤ 0 → Ev own cc nL d mc ms nm rt ex n0 Rq k n (pc + 3) lv st T σ μ) : Ev own cc nL d mc ms nm rt ex n0 Rq k n pc lv (.int x :: st) T σ μ := by
  intro p l e R s m args below meth c dC dI cls ad0 A Qf C F ad H locs ls h1 h2 hH hl
  exact lv_if_le C.1 C.2.1 hd ht (fun h => K1 h p l e R s m args below meth c dC dI cls ad0 A Qf C F ad H locs ls h1 h2 hH hl) (fun h => K2 h p l e R s m args below meth c dC dI cls ad0 A Qf C F ad H locs ls h1 h2 hH hl)
theorem e_icmp_le {x y : Int32} {o : Int} {t : Nat} (hd : decode cc pc = .ok (.if_icmp .le o, 3)) (ht : (pc : Int) + o = (t : Int)) (K1 : x ≤ y → Ev own cc nL d mc ms nm rt ex n0 Rq k n t lv st T σ μ) (K2 : ¬ x ≤ y → Ev own cc nL d mc ms nm rt ex n0 Rq k n (pc + 3) lv st T σ μ) : Ev own cc nL d mc ms nm rt ex n0 Rq k n pc lv (.int y :: .int x :: st) T σ μ := by
  intro p l e R s m args below meth c dC dI cls ad0 A Qf C F ad H locs ls h1 h2 hH hl
  exact lv_icmp_le C.1 C.2.1 hd ht (fun h => K1 h p l e R s m args below meth c dC dI cls ad0 A Qf C F ad H locs ls h1 h2 hH hl) (fun h => K2 h p l e R s m args below meth c dC dI cls ad0 A Qf C F ad H locs ls h1 h2 hH hl)
theorem e_tswIn {dflt lo hi : Int} {offs : Array Int} {len : Nat} {x : Int32} {o : Int} {t : Nat} (hd : decode cc pc = .ok (.tableswitch dflt lo hi offs, len)) (h1' : ¬ x.toInt < lo) (h2' : ¬ hi < x.toInt) (ho : offs[(x.toInt - lo).toNat]? = some o) (ht : (pc : Int) + o = (t : Int)) (K : Ev own cc nL d mc ms nm rt ex n0 Rq k n t lv st T σ μ) : Ev own cc nL d mc ms nm rt ex n0 Rq k n pc lv (.int x :: st) T σ μ := by
  intro p l e R s m args below meth c dC dI cls ad0 A Qf C F ad H locs ls h1 h2 hH hl
  exact lv_tableIn C.1 C.2.1 hd h1' h2' ho ht (K p l e R s m args below meth c dC dI cls ad0 A Qf C F ad H locs ls h1 h2 hH hl)
theorem e_tswOut {dflt lo hi : Int} {offs : Array Int} {len : Nat} {x : Int32} {t : Nat} (hd : decode cc pc = .ok (.tableswitch dflt lo hi offs, len)) (h : x.toInt < lo ∨ hi < x.toInt) (ht : (pc : Int) + dflt = (t : Int)) (K : Ev own cc nL d mc ms nm rt ex n0 Rq k n t lv st T σ μ) : Ev own cc nL d mc ms nm rt ex n0 Rq k n pc lv (.int x :: st) T σ μ := by
  intro p l e R s m args below meth c dC dI cls ad0 A Qf C F ad H locs ls h1 h2 hH hl
  exact lv_tableOut C.1 C.2.1 hd h ht (K p l e R s m args below meth c dC dI cls ad0 A Qf C F ad H locs ls h1 h2 hH hl)
theorem e_lv (lv' : List (Nat × Value)) (h : ∀ q ∈ lv', q ∈ lv) (K : Ev own cc nL d mc ms nm rt ex n0 Rq k n pc lv' st T σ μ) : Ev own cc nL d mc ms nm rt ex n0 Rq k n pc lv st T σ μ := by
  intro p l e R s m args below meth c dC dI cls ad0 A Qf C F ad H locs ls h1 h2 hH hl
  exact K p l e R s m args below meth c dC dI cls ad0 A Qf C F ad H locs ls h1 h2 hH (ev_lsub hl h)
theorem e_name {x : Int32} (K : ∀ y : Int32, y = x → Ev own cc nL d mc ms nm rt ex n0 Rq k n pc lv (.int y :: st) T σ μ) : Ev own cc nL d mc ms nm rt ex n0 Rq k n pc lv (.int x :: st) T σ μ := K x rfl
theorem e_ret {x : Int32} (hd : decode cc pc = .ok (.ireturn, 1)) (hn : ev_nw rt x) (hk : k ≤ mc) (hk2 : n ≤ ms) (hR : Rq (some (.int x)) T σ μ) : Ev own cc nL d mc ms nm rt ex n0 Rq k n pc lv [.int x] T σ μ := by
  intro p l e R s m args below meth c dC dI cls ad0 A Qf C F ad H locs ls h1 h2 hH hl
  exact W.widen hk hk2 ((F ad H locs ls pc T σ μ h1 h2 hH).1 x hd hn hR)
theorem e_lret {x : Int64} (hd : decode cc pc = .ok (.lreturn, 1)) (hn : rt = some .long) (hk : k ≤ mc) (hk2 : n ≤ ms) (hR : Rq (some (.long x)) T σ μ) : Ev own cc nL d mc ms nm rt ex n0 Rq k n pc lv [.long x] T σ μ := by
  intro p l e R s m args below meth c dC dI cls ad0 A Qf C F ad H locs ls h1 h2 hH hl
  exact W.widen hk hk2 ((F ad H locs ls pc T σ μ h1 h2 hH).2.1 x hd hn hR)
theorem e_vret (hd : decode cc pc = .ok (.return_, 1)) (hn : rt = none) (hk : k ≤ mc) (hk2 : n ≤ ms) (hR : Rq (none) T σ μ) : Ev own cc nL d mc ms nm rt ex n0 Rq k n pc lv [] T σ μ := by
  intro p l e R s m args below meth c dC dI cls ad0 A Qf C F ad H locs ls h1 h2 hH hl
  exact W.widen hk hk2 ((F ad H locs ls pc T σ μ h1 h2 hH).2.2 hd hn hR)
end EV
