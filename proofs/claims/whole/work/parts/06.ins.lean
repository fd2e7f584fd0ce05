section AWI
variable {G : aw_G} {M : aw_MR} {pc : Nat} {ls st : List Value} {h : aw_H} {q : Nat × Nat} {Q : Option Value → aw_H → Prop}
theorem aw_iconst {n : Int} {v : Int32} (hd : decode (aw_c M) pc = .ok (.iconst n, 1)) (hv : Int32.ofInt n = v) (k : aw_W G M (pc + 1) ls (.int v :: st) h q Q) : aw_W G M pc ls st h q Q :=
  fun p e s m args below meth c Z hC hZ H locs lsC hL hR hS => lv_iconst hC.1 hC.2.1 hd hv (k p e s m args below meth c Z hC hZ H locs lsC hL hR hS)
theorem aw_bipush {n : Int} {v : Int32} (hd : decode (aw_c M) pc = .ok (.bipush n, 2)) (hv : (Int8.ofInt n).toInt32 = v) (k : aw_W G M (pc + 2) ls (.int v :: st) h q Q) : aw_W G M pc ls st h q Q :=
  fun p e s m args below meth c Z hC hZ H locs lsC hL hR hS => lv_bipush hC.1 hC.2.1 hd hv (k p e s m args below meth c Z hC hZ H locs lsC hL hR hS)
theorem aw_sipush {n : Int} {v : Int32} (hd : decode (aw_c M) pc = .ok (.sipush n, 3)) (hv : (Int16.ofInt n).toInt32 = v) (k : aw_W G M (pc + 3) ls (.int v :: st) h q Q) : aw_W G M pc ls st h q Q :=
  fun p e s m args below meth c Z hC hZ H locs lsC hL hR hS => lv_sipush hC.1 hC.2.1 hd hv (k p e s m args below meth c Z hC hZ H locs lsC hL hR hS)
theorem aw_lconst {n : Fin 2} {v : Int64} (hd : decode (aw_c M) pc = .ok (.lconst n, 1)) (hv : Int64.ofNat (n : Nat) = v) (k : aw_W G M (pc + 1) ls (.long v :: st) h q Q) : aw_W G M pc ls st h q Q :=
  fun p e s m args below meth c Z hC hZ H locs lsC hL hR hS => lv_lconst hC.1 hC.2.1 hd hv (k p e s m args below meth c Z hC hZ H locs lsC hL hR hS)
theorem aw_iload_n {j : Fin 4} {x : Int32} (hd : decode (aw_c M) pc = .ok (.iload_n j, 1)) (hl : ls[(j : Nat)]? = some (.int x)) (k : aw_W G M (pc + 1) ls (.int x :: st) h q Q) : aw_W G M pc ls st h q Q :=
  fun p e s m args below meth c Z hC hZ H locs lsC hL hR hS => lv_iload_n hC.1 hC.2.1 hd rfl (hL.2.2 _ _ hl (fun z => by cases z)) (k p e s m args below meth c Z hC hZ H locs lsC hL hR hS)
theorem aw_iload {j : Nat} {x : Int32} (hd : decode (aw_c M) pc = .ok (.iload j, 2)) (hl : ls[j]? = some (.int x)) (k : aw_W G M (pc + 2) ls (.int x :: st) h q Q) : aw_W G M pc ls st h q Q :=
  fun p e s m args below meth c Z hC hZ H locs lsC hL hR hS => lv_iload hC.1 hC.2.1 hd (hL.2.2 _ _ hl (fun z => by cases z)) (k p e s m args below meth c Z hC hZ H locs lsC hL hR hS)
theorem aw_lload_n {j : Fin 4} {x : Int64} (hd : decode (aw_c M) pc = .ok (.lload_n j, 1)) (hl : ls[(j : Nat)]? = some (.long x)) (k : aw_W G M (pc + 1) ls (.long x :: st) h q Q) : aw_W G M pc ls st h q Q :=
  fun p e s m args below meth c Z hC hZ H locs lsC hL hR hS => lv_lload_n hC.1 hC.2.1 hd rfl (hL.2.2 _ _ hl (fun z => by cases z)) (k p e s m args below meth c Z hC hZ H locs lsC hL hR hS)
theorem aw_lload {j : Nat} {x : Int64} (hd : decode (aw_c M) pc = .ok (.lload j, 2)) (hl : ls[j]? = some (.long x)) (k : aw_W G M (pc + 2) ls (.long x :: st) h q Q) : aw_W G M pc ls st h q Q :=
  fun p e s m args below meth c Z hC hZ H locs lsC hL hR hS => lv_lload hC.1 hC.2.1 hd (hL.2.2 _ _ hl (fun z => by cases z)) (k p e s m args below meth c Z hC hZ H locs lsC hL hR hS)
theorem aw_aload_n {j : Fin 4} {x : Nat} (hd : decode (aw_c M) pc = .ok (.aload_n j, 1)) (hl : ls[(j : Nat)]? = some (.ref x)) (k : aw_W G M (pc + 1) ls (.ref x :: st) h q Q) : aw_W G M pc ls st h q Q :=
  fun p e s m args below meth c Z hC hZ H locs lsC hL hR hS => lv_aload_n hC.1 hC.2.1 hd rfl (hL.2.2 _ _ hl (fun z => by cases z)) (k p e s m args below meth c Z hC hZ H locs lsC hL hR hS)
theorem aw_aload {j : Nat} {x : Nat} (hd : decode (aw_c M) pc = .ok (.aload j, 2)) (hl : ls[j]? = some (.ref x)) (k : aw_W G M (pc + 2) ls (.ref x :: st) h q Q) : aw_W G M pc ls st h q Q :=
  fun p e s m args below meth c Z hC hZ H locs lsC hL hR hS => lv_aload hC.1 hC.2.1 hd (hL.2.2 _ _ hl (fun z => by cases z)) (k p e s m args below meth c Z hC hZ H locs lsC hL hR hS)
theorem aw_iadd {x y : Int32} (hd : decode (aw_c M) pc = .ok (.iadd, 1)) (k : aw_W G M (pc + 1) ls (.int (x + y) :: st) h q Q) : aw_W G M pc ls (.int y :: .int x :: st) h q Q :=
  fun p e s m args below meth c Z hC hZ H locs lsC hL hR hS => lv_iadd hC.1 hC.2.1 hd (k p e s m args below meth c Z hC hZ H locs lsC hL hR hS)
theorem aw_isub {x y : Int32} (hd : decode (aw_c M) pc = .ok (.isub, 1)) (k : aw_W G M (pc + 1) ls (.int (x - y) :: st) h q Q) : aw_W G M pc ls (.int y :: .int x :: st) h q Q :=
  fun p e s m args below meth c Z hC hZ H locs lsC hL hR hS => lv_isub hC.1 hC.2.1 hd (k p e s m args below meth c Z hC hZ H locs lsC hL hR hS)
theorem aw_imul {x y : Int32} (hd : decode (aw_c M) pc = .ok (.imul, 1)) (k : aw_W G M (pc + 1) ls (.int (x * y) :: st) h q Q) : aw_W G M pc ls (.int y :: .int x :: st) h q Q :=
  fun p e s m args below meth c Z hC hZ H locs lsC hL hR hS => lv_imul hC.1 hC.2.1 hd (k p e s m args below meth c Z hC hZ H locs lsC hL hR hS)
theorem aw_iand {x y : Int32} (hd : decode (aw_c M) pc = .ok (.iand, 1)) (k : aw_W G M (pc + 1) ls (.int (x &&& y) :: st) h q Q) : aw_W G M pc ls (.int y :: .int x :: st) h q Q :=
  fun p e s m args below meth c Z hC hZ H locs lsC hL hR hS => lv_iand hC.1 hC.2.1 hd (k p e s m args below meth c Z hC hZ H locs lsC hL hR hS)
theorem aw_ior {x y : Int32} (hd : decode (aw_c M) pc = .ok (.ior, 1)) (k : aw_W G M (pc + 1) ls (.int (x ||| y) :: st) h q Q) : aw_W G M pc ls (.int y :: .int x :: st) h q Q :=
  fun p e s m args below meth c Z hC hZ H locs lsC hL hR hS => lv_ior hC.1 hC.2.1 hd (k p e s m args below meth c Z hC hZ H locs lsC hL hR hS)
theorem aw_ixor {x y : Int32} (hd : decode (aw_c M) pc = .ok (.ixor, 1)) (k : aw_W G M (pc + 1) ls (.int (x ^^^ y) :: st) h q Q) : aw_W G M pc ls (.int y :: .int x :: st) h q Q :=
  fun p e s m args below meth c Z hC hZ H locs lsC hL hR hS => lv_ixor hC.1 hC.2.1 hd (k p e s m args below meth c Z hC hZ H locs lsC hL hR hS)
theorem aw_ishl {x y : Int32} (hd : decode (aw_c M) pc = .ok (.ishl, 1)) (k : aw_W G M (pc + 1) ls (.int (x <<< (y &&& 31)) :: st) h q Q) : aw_W G M pc ls (.int y :: .int x :: st) h q Q :=
  fun p e s m args below meth c Z hC hZ H locs lsC hL hR hS => lv_ishl hC.1 hC.2.1 hd (k p e s m args below meth c Z hC hZ H locs lsC hL hR hS)
theorem aw_ishr {x y : Int32} (hd : decode (aw_c M) pc = .ok (.ishr, 1)) (k : aw_W G M (pc + 1) ls (.int (x >>> (y &&& 31)) :: st) h q Q) : aw_W G M pc ls (.int y :: .int x :: st) h q Q :=
  fun p e s m args below meth c Z hC hZ H locs lsC hL hR hS => lv_ishr hC.1 hC.2.1 hd (k p e s m args below meth c Z hC hZ H locs lsC hL hR hS)
theorem aw_idiv {x y : Int32} (hd : decode (aw_c M) pc = .ok (.idiv, 1)) (hne : ¬ y = 0) (k : aw_W G M (pc + 1) ls (.int (x / y) :: st) h q Q) : aw_W G M pc ls (.int y :: .int x :: st) h q Q :=
  fun p e s m args below meth c Z hC hZ H locs lsC hL hR hS => lv_idiv hC.1 hC.2.1 hd hne (k p e s m args below meth c Z hC hZ H locs lsC hL hR hS)
theorem aw_irem {x y : Int32} (hd : decode (aw_c M) pc = .ok (.irem, 1)) (hne : ¬ y = 0) (k : aw_W G M (pc + 1) ls (.int (x - x / y * y) :: st) h q Q) : aw_W G M pc ls (.int y :: .int x :: st) h q Q :=
  fun p e s m args below meth c Z hC hZ H locs lsC hL hR hS => lv_irem hC.1 hC.2.1 hd hne (k p e s m args below meth c Z hC hZ H locs lsC hL hR hS)
theorem aw_iushr {x y : Int32} (hd : decode (aw_c M) pc = .ok (.iushr, 1)) (k : aw_W G M (pc + 1) ls (.int (x.toUInt32 >>> (y.toUInt32 &&& Int32.toUInt32 31)).toInt32 :: st) h q Q) : aw_W G M pc ls (.int y :: .int x :: st) h q Q :=
  fun p e s m args below meth c Z hC hZ H locs lsC hL hR hS => lv_iushr hC.1 hC.2.1 hd rfl (k p e s m args below meth c Z hC hZ H locs lsC hL hR hS)
theorem aw_ladd {x y : Int64} (hd : decode (aw_c M) pc = .ok (.ladd, 1)) (k : aw_W G M (pc + 1) ls (.long (x + y) :: st) h q Q) : aw_W G M pc ls (.long y :: .long x :: st) h q Q :=
  fun p e s m args below meth c Z hC hZ H locs lsC hL hR hS => lv_ladd hC.1 hC.2.1 hd (k p e s m args below meth c Z hC hZ H locs lsC hL hR hS)
theorem aw_lsub {x y : Int64} (hd : decode (aw_c M) pc = .ok (.lsub, 1)) (k : aw_W G M (pc + 1) ls (.long (x - y) :: st) h q Q) : aw_W G M pc ls (.long y :: .long x :: st) h q Q :=
  fun p e s m args below meth c Z hC hZ H locs lsC hL hR hS => lv_lsub hC.1 hC.2.1 hd (k p e s m args below meth c Z hC hZ H locs lsC hL hR hS)
theorem aw_lmul {x y : Int64} (hd : decode (aw_c M) pc = .ok (.lmul, 1)) (k : aw_W G M (pc + 1) ls (.long (x * y) :: st) h q Q) : aw_W G M pc ls (.long y :: .long x :: st) h q Q :=
  fun p e s m args below meth c Z hC hZ H locs lsC hL hR hS => lv_lmul hC.1 hC.2.1 hd (k p e s m args below meth c Z hC hZ H locs lsC hL hR hS)
theorem aw_ldiv {x y : Int64} (hd : decode (aw_c M) pc = .ok (.ldiv, 1)) (hne : ¬ y = 0) (k : aw_W G M (pc + 1) ls (.long (x / y) :: st) h q Q) : aw_W G M pc ls (.long y :: .long x :: st) h q Q :=
  fun p e s m args below meth c Z hC hZ H locs lsC hL hR hS => lv_ldiv hC.1 hC.2.1 hd hne (k p e s m args below meth c Z hC hZ H locs lsC hL hR hS)
theorem aw_lrem {x y : Int64} (hd : decode (aw_c M) pc = .ok (.lrem, 1)) (hne : ¬ y = 0) (k : aw_W G M (pc + 1) ls (.long (x - x / y * y) :: st) h q Q) : aw_W G M pc ls (.long y :: .long x :: st) h q Q :=
  fun p e s m args below meth c Z hC hZ H locs lsC hL hR hS => lv_lrem hC.1 hC.2.1 hd hne (k p e s m args below meth c Z hC hZ H locs lsC hL hR hS)
theorem aw_lshl {x : Int64} {y : Int32} (hd : decode (aw_c M) pc = .ok (.lshl, 1)) (k : aw_W G M (pc + 1) ls (.long (x <<< (y.toInt64 &&& 63)) :: st) h q Q) : aw_W G M pc ls (.int y :: .long x :: st) h q Q :=
  fun p e s m args below meth c Z hC hZ H locs lsC hL hR hS => lv_lshl hC.1 hC.2.1 hd rfl (k p e s m args below meth c Z hC hZ H locs lsC hL hR hS)
theorem aw_i2l {x : Int32} (hd : decode (aw_c M) pc = .ok (.i2l, 1)) (k : aw_W G M (pc + 1) ls (.long x.toInt64 :: st) h q Q) : aw_W G M pc ls (.int x :: st) h q Q :=
  fun p e s m args below meth c Z hC hZ H locs lsC hL hR hS => lv_i2l hC.1 hC.2.1 hd rfl (k p e s m args below meth c Z hC hZ H locs lsC hL hR hS)
theorem aw_i2b {x : Int32} (hd : decode (aw_c M) pc = .ok (.i2b, 1)) (k : aw_W G M (pc + 1) ls (.int x.toInt8.toInt32 :: st) h q Q) : aw_W G M pc ls (.int x :: st) h q Q :=
  fun p e s m args below meth c Z hC hZ H locs lsC hL hR hS => lv_i2b hC.1 hC.2.1 hd rfl (k p e s m args below meth c Z hC hZ H locs lsC hL hR hS)
theorem aw_i2s {x : Int32} (hd : decode (aw_c M) pc = .ok (.i2s, 1)) (k : aw_W G M (pc + 1) ls (.int x.toInt16.toInt32 :: st) h q Q) : aw_W G M pc ls (.int x :: st) h q Q :=
  fun p e s m args below meth c Z hC hZ H locs lsC hL hR hS => lv_i2s hC.1 hC.2.1 hd rfl (k p e s m args below meth c Z hC hZ H locs lsC hL hR hS)
theorem aw_lcmp {x y : Int64} (hd : decode (aw_c M) pc = .ok (.lcmp, 1)) (k : aw_W G M (pc + 1) ls (.int (lg_cmp x y) :: st) h q Q) : aw_W G M pc ls (.long y :: .long x :: st) h q Q :=
  fun p e s m args below meth c Z hC hZ H locs lsC hL hR hS => W.lcmp hC.1 hC.2.1 hd (k p e s m args below meth c Z hC hZ H locs lsC hL hR hS)
theorem aw_dup {v : Value} (hd : decode (aw_c M) pc = .ok (.dup, 1)) (hv : v.category = 1) (k : aw_W G M (pc + 1) ls (v :: v :: st) h q Q) : aw_W G M pc ls (v :: st) h q Q :=
  fun p e s m args below meth c Z hC hZ H locs lsC hL hR hS => lv_dup hC.1 hC.2.1 hd ((aw_cv_cat _ _).trans hv) (k p e s m args below meth c Z hC hZ H locs lsC hL hR hS)
theorem aw_dup2 {v w : Value} (hd : decode (aw_c M) pc = .ok (.dup2, 1)) (hv : v.category = 1) (hw : w.category = 1) (k : aw_W G M (pc + 1) ls (v :: w :: v :: w :: st) h q Q) : aw_W G M pc ls (v :: w :: st) h q Q :=
  fun p e s m args below meth c Z hC hZ H locs lsC hL hR hS => lv_dup2_11 hC.1 hC.2.1 hd ((aw_cv_cat _ _).trans hv) ((aw_cv_cat _ _).trans hw) (k p e s m args below meth c Z hC hZ H locs lsC hL hR hS)
theorem aw_pop {v : Value} (hd : decode (aw_c M) pc = .ok (.pop, 1)) (hv : v.category = 1) (k : aw_W G M (pc + 1) ls st h q Q) : aw_W G M pc ls (v :: st) h q Q :=
  fun p e s m args below meth c Z hC hZ H locs lsC hL hR hS => lv_pop hC.1 hC.2.1 hd ((aw_cv_cat _ _).trans hv) (k p e s m args below meth c Z hC hZ H locs lsC hL hR hS)
theorem aw_ldc {j : Nat} {x : Int32} (hd : decode (aw_c M) pc = .ok (.ldc j, 2)) (hw : Cond.constant (aw_nm (aw_own M)) j x ∈ aw_tbl) (k : aw_W G M (pc + 2) ls (.int x :: st) h q Q) : aw_W G M pc ls st h q Q :=
  fun p e s m args below meth c Z hC hZ H locs lsC hL hR hS => lv_ldc hC.1 hC.2.1 hC.2.2.2.1 (hC.2.2.2.2.1 _ hw) hd (k p e s m args below meth c Z hC hZ H locs lsC hL hR hS)
theorem aw_ldcw {j : Nat} {x : Int32} (hd : decode (aw_c M) pc = .ok (.ldc_w j, 3)) (hw : Cond.constant (aw_nm (aw_own M)) j x ∈ aw_tbl) (k : aw_W G M (pc + 3) ls (.int x :: st) h q Q) : aw_W G M pc ls st h q Q :=
  fun p e s m args below meth c Z hC hZ H locs lsC hL hR hS => lv_ldcw hC.1 hC.2.1 hC.2.2.2.1 (hC.2.2.2.2.1 _ hw) hd (k p e s m args below meth c Z hC hZ H locs lsC hL hR hS)
theorem aw_ldc2 {j : Nat} {x : Int64} (hd : decode (aw_c M) pc = .ok (.ldc2_w j, 3)) (hw : Cond.constantLong (aw_nm (aw_own M)) j x ∈ aw_tbl) (k : aw_W G M (pc + 3) ls (.long x :: st) h q Q) : aw_W G M pc ls st h q Q :=
  fun p e s m args below meth c Z hC hZ H locs lsC hL hR hS => lv_ldc2 hC.1 hC.2.1 hC.2.2.2.1 (hC.2.2.2.2.1 _ hw) hd (k p e s m args below meth c Z hC hZ H locs lsC hL hR hS)
theorem aw_if_eq {x : Int32} {off : Int} {tgt : Nat} (hd : decode (aw_c M) pc = .ok (.ifCond .eq off, 3)) (ht : (pc : Int) + off = (tgt : Int)) (kt : x = 0 → aw_W G M tgt ls st h q Q) (kf : ¬ x = 0 → aw_W G M (pc + 3) ls st h q Q) : aw_W G M pc ls (.int x :: st) h q Q :=
  fun p e s m args below meth c Z hC hZ H locs lsC hL hR hS => lv_if_eq hC.1 hC.2.1 hd ht (fun z => (kt z p e s m args below meth c Z hC hZ H locs lsC hL hR hS)) (fun z => (kf z p e s m args below meth c Z hC hZ H locs lsC hL hR hS))
theorem aw_if_ne {x : Int32} {off : Int} {tgt : Nat} (hd : decode (aw_c M) pc = .ok (.ifCond .ne off, 3)) (ht : (pc : Int) + off = (tgt : Int)) (kt : ¬ x = 0 → aw_W G M tgt ls st h q Q) (kf : x = 0 → aw_W G M (pc + 3) ls st h q Q) : aw_W G M pc ls (.int x :: st) h q Q :=
  fun p e s m args below meth c Z hC hZ H locs lsC hL hR hS => lv_if_ne hC.1 hC.2.1 hd ht (fun z => (kt z p e s m args below meth c Z hC hZ H locs lsC hL hR hS)) (fun z => (kf z p e s m args below meth c Z hC hZ H locs lsC hL hR hS))
theorem aw_if_lt {x : Int32} {off : Int} {tgt : Nat} (hd : decode (aw_c M) pc = .ok (.ifCond .lt off, 3)) (ht : (pc : Int) + off = (tgt : Int)) (kt : x < 0 → aw_W G M tgt ls st h q Q) (kf : ¬ x < 0 → aw_W G M (pc + 3) ls st h q Q) : aw_W G M pc ls (.int x :: st) h q Q :=
  fun p e s m args below meth c Z hC hZ H locs lsC hL hR hS => lv_if_lt hC.1 hC.2.1 hd ht (fun z => (kt z p e s m args below meth c Z hC hZ H locs lsC hL hR hS)) (fun z => (kf z p e s m args below meth c Z hC hZ H locs lsC hL hR hS))
theorem aw_if_ge {x : Int32} {off : Int} {tgt : Nat} (hd : decode (aw_c M) pc = .ok (.ifCond .ge off, 3)) (ht : (pc : Int) + off = (tgt : Int)) (kt : 0 ≤ x → aw_W G M tgt ls st h q Q) (kf : ¬ 0 ≤ x → aw_W G M (pc + 3) ls st h q Q) : aw_W G M pc ls (.int x :: st) h q Q :=
  fun p e s m args below meth c Z hC hZ H locs lsC hL hR hS => lv_if_ge hC.1 hC.2.1 hd ht (fun z => (kt z p e s m args below meth c Z hC hZ H locs lsC hL hR hS)) (fun z => (kf z p e s m args below meth c Z hC hZ H locs lsC hL hR hS))
theorem aw_if_gt {x : Int32} {off : Int} {tgt : Nat} (hd : decode (aw_c M) pc = .ok (.ifCond .gt off, 3)) (ht : (pc : Int) + off = (tgt : Int)) (kt : 0 < x → aw_W G M tgt ls st h q Q) (kf : ¬ 0 < x → aw_W G M (pc + 3) ls st h q Q) : aw_W G M pc ls (.int x :: st) h q Q :=
  fun p e s m args below meth c Z hC hZ H locs lsC hL hR hS => lv_if_gt hC.1 hC.2.1 hd ht (fun z => (kt z p e s m args below meth c Z hC hZ H locs lsC hL hR hS)) (fun z => (kf z p e s m args below meth c Z hC hZ H locs lsC hL hR hS))
theorem aw_if_le {x : Int32} {off : Int} {tgt : Nat} (hd : decode (aw_c M) pc = .ok (.ifCond .le off, 3)) (ht : (pc : Int) + off = (tgt : Int)) (kt : x ≤ 0 → aw_W G M tgt ls st h q Q) (kf : ¬ x ≤ 0 → aw_W G M (pc + 3) ls st h q Q) : aw_W G M pc ls (.int x :: st) h q Q :=
  fun p e s m args below meth c Z hC hZ H locs lsC hL hR hS => lv_if_le hC.1 hC.2.1 hd ht (fun z => (kt z p e s m args below meth c Z hC hZ H locs lsC hL hR hS)) (fun z => (kf z p e s m args below meth c Z hC hZ H locs lsC hL hR hS))
theorem aw_ic_eq {x y : Int32} {off : Int} {tgt : Nat} (hd : decode (aw_c M) pc = .ok (.if_icmp .eq off, 3)) (ht : (pc : Int) + off = (tgt : Int)) (kt : x = y → aw_W G M tgt ls st h q Q) (kf : ¬ x = y → aw_W G M (pc + 3) ls st h q Q) : aw_W G M pc ls (.int y :: .int x :: st) h q Q :=
  fun p e s m args below meth c Z hC hZ H locs lsC hL hR hS => lv_icmp_eq hC.1 hC.2.1 hd ht (fun z => (kt z p e s m args below meth c Z hC hZ H locs lsC hL hR hS)) (fun z => (kf z p e s m args below meth c Z hC hZ H locs lsC hL hR hS))
theorem aw_ic_ne {x y : Int32} {off : Int} {tgt : Nat} (hd : decode (aw_c M) pc = .ok (.if_icmp .ne off, 3)) (ht : (pc : Int) + off = (tgt : Int)) (kt : ¬ x = y → aw_W G M tgt ls st h q Q) (kf : x = y → aw_W G M (pc + 3) ls st h q Q) : aw_W G M pc ls (.int y :: .int x :: st) h q Q :=
  fun p e s m args below meth c Z hC hZ H locs lsC hL hR hS => lv_icmp_ne hC.1 hC.2.1 hd ht (fun z => (kt z p e s m args below meth c Z hC hZ H locs lsC hL hR hS)) (fun z => (kf z p e s m args below meth c Z hC hZ H locs lsC hL hR hS))
theorem aw_ic_lt {x y : Int32} {off : Int} {tgt : Nat} (hd : decode (aw_c M) pc = .ok (.if_icmp .lt off, 3)) (ht : (pc : Int) + off = (tgt : Int)) (kt : x < y → aw_W G M tgt ls st h q Q) (kf : ¬ x < y → aw_W G M (pc + 3) ls st h q Q) : aw_W G M pc ls (.int y :: .int x :: st) h q Q :=
  fun p e s m args below meth c Z hC hZ H locs lsC hL hR hS => lv_icmp_lt hC.1 hC.2.1 hd ht (fun z => (kt z p e s m args below meth c Z hC hZ H locs lsC hL hR hS)) (fun z => (kf z p e s m args below meth c Z hC hZ H locs lsC hL hR hS))
theorem aw_ic_ge {x y : Int32} {off : Int} {tgt : Nat} (hd : decode (aw_c M) pc = .ok (.if_icmp .ge off, 3)) (ht : (pc : Int) + off = (tgt : Int)) (kt : y ≤ x → aw_W G M tgt ls st h q Q) (kf : ¬ y ≤ x → aw_W G M (pc + 3) ls st h q Q) : aw_W G M pc ls (.int y :: .int x :: st) h q Q :=
  fun p e s m args below meth c Z hC hZ H locs lsC hL hR hS => lv_icmp_ge hC.1 hC.2.1 hd ht (fun z => (kt z p e s m args below meth c Z hC hZ H locs lsC hL hR hS)) (fun z => (kf z p e s m args below meth c Z hC hZ H locs lsC hL hR hS))
theorem aw_ic_gt {x y : Int32} {off : Int} {tgt : Nat} (hd : decode (aw_c M) pc = .ok (.if_icmp .gt off, 3)) (ht : (pc : Int) + off = (tgt : Int)) (kt : y < x → aw_W G M tgt ls st h q Q) (kf : ¬ y < x → aw_W G M (pc + 3) ls st h q Q) : aw_W G M pc ls (.int y :: .int x :: st) h q Q :=
  fun p e s m args below meth c Z hC hZ H locs lsC hL hR hS => lv_icmp_gt hC.1 hC.2.1 hd ht (fun z => (kt z p e s m args below meth c Z hC hZ H locs lsC hL hR hS)) (fun z => (kf z p e s m args below meth c Z hC hZ H locs lsC hL hR hS))
theorem aw_ic_le {x y : Int32} {off : Int} {tgt : Nat} (hd : decode (aw_c M) pc = .ok (.if_icmp .le off, 3)) (ht : (pc : Int) + off = (tgt : Int)) (kt : x ≤ y → aw_W G M tgt ls st h q Q) (kf : ¬ x ≤ y → aw_W G M (pc + 3) ls st h q Q) : aw_W G M pc ls (.int y :: .int x :: st) h q Q :=
  fun p e s m args below meth c Z hC hZ H locs lsC hL hR hS => lv_icmp_le hC.1 hC.2.1 hd ht (fun z => (kt z p e s m args below meth c Z hC hZ H locs lsC hL hR hS)) (fun z => (kf z p e s m args below meth c Z hC hZ H locs lsC hL hR hS))
theorem aw_goto {off : Int} {tgt : Nat} (hd : decode (aw_c M) pc = .ok (.goto off, 3)) (ht : (pc : Int) + off = (tgt : Int)) (k : aw_W G M tgt ls st h q Q) : aw_W G M pc ls st h q Q :=
  fun p e s m args below meth c Z hC hZ H locs lsC hL hR hS => lv_goto hC.1 hC.2.1 hd ht (k p e s m args below meth c Z hC hZ H locs lsC hL hR hS)
theorem aw_swIn {d lo hi : Int} {offs : Array Int} {ln : Nat} {x : Int32} {off : Int} {tgt : Nat} (hd : decode (aw_c M) pc = .ok (.tableswitch d lo hi offs, ln)) (h1 : ¬ x.toInt < lo) (h2 : ¬ hi < x.toInt) (ho : offs[(x.toInt - lo).toNat]? = some off) (ht : (pc : Int) + off = (tgt : Int)) (k : aw_W G M tgt ls st h q Q) : aw_W G M pc ls (.int x :: st) h q Q :=
  fun p e s m args below meth c Z hC hZ H locs lsC hL hR hS => lv_tableIn hC.1 hC.2.1 hd h1 h2 ho ht (k p e s m args below meth c Z hC hZ H locs lsC hL hR hS)
theorem aw_swOut {d lo hi : Int} {offs : Array Int} {ln : Nat} {x : Int32} {tgt : Nat} (hd : decode (aw_c M) pc = .ok (.tableswitch d lo hi offs, ln)) (h1 : x.toInt < lo ∨ hi < x.toInt) (ht : (pc : Int) + d = (tgt : Int)) (k : aw_W G M tgt ls st h q Q) : aw_W G M pc ls (.int x :: st) h q Q :=
  fun p e s m args below meth c Z hC hZ H locs lsC hL hR hS => lv_tableOut hC.1 hC.2.1 hd h1 ht (k p e s m args below meth c Z hC hZ H locs lsC hL hR hS)
/-- the listed locals, as the kit lists them -/
def aw_al (ad : Nat → Nat) (ls : List Value) : List (Nat × Value) := (List.range ls.length).filterMap (fun i => match ls[i]? with
  | some v => if v = aw_x then none else some (i, aw_cv ad v)
  | none => none)
theorem aw_al_in {ad : Nat → Nat} {ls : List Value} {i : Nat} {v : Value} (h : ls[i]? = some v) (hv : v ≠ aw_x) : (i, aw_cv ad v) ∈ aw_al ad ls := by
  refine List.mem_filterMap.mpr ⟨i, List.mem_range.mpr (List.getElem?_eq_some_iff.mp h).1, ?_⟩
  simp only [h, if_neg hv]
theorem aw_al_of {ad : Nat → Nat} {ls : List Value} {x : Nat × Value} (h : x ∈ aw_al ad ls) : ∃ v, ls[x.1]? = some v ∧ v ≠ aw_x ∧ x.2 = aw_cv ad v := by
  obtain ⟨i, -, hi⟩ := List.mem_filterMap.mp h
  split at hi
  next v hv =>
    by_cases hx : v = aw_x
    · rw [if_pos hx] at hi; cases hi
    · rw [if_neg hx] at hi; cases hi; exact ⟨v, hv, hx, rfl⟩
  next => cases hi
theorem aw_L.has {ad : Nat → Nat} {lsC : Array Slot} {nL : Nat} {ls : List Value} (h : aw_L ad lsC nL ls) : lv_has lsC nL (aw_al ad ls) := ⟨h.1, h.2.1, fun x hx => by
  obtain ⟨v, h1, h2, h3⟩ := aw_al_of hx
  rw [h3]; exact h.2.2 _ _ h1 h2⟩
theorem aw_L.set1 {ad : Nat → Nat} {lsC : Array Slot} {nL i : Nat} {ls : List Value} {v : Value} (hp : aw_pok ls i = true) (h : lv_has lsC nL ((i, aw_cv ad v) :: (aw_al ad ls).filter (fun q => !(q.1 == i) && !(q.1 + 1 == i && q.2.category == 2)))) : aw_L ad lsC nL (ls.set i v) := by
  refine ⟨h.1, h.2.1, fun j w hj hw => ?_⟩
  by_cases hij : i = j
  · subst hij
    rw [List.getElem?_set] at hj
    split at hj
    next => split at hj
            next => cases hj; exact h.2.2 (i, aw_cv ad v) List.mem_cons_self
            next => cases hj
    next z => exact absurd rfl z
  · rw [List.getElem?_set_ne hij] at hj
    refine h.2.2 (j, aw_cv ad w) (List.mem_cons_of_mem _ (List.mem_filter.mpr ⟨aw_al_in hj hw, ?_⟩))
    simp only [Bool.and_eq_true, Bool.not_eq_true', beq_eq_false_iff_ne, ne_eq, Bool.and_eq_false_iff]
    refine ⟨fun z => hij z.symm, ?_⟩
    by_cases hz : j + 1 = i
    · right
      subst hz
      simp only [aw_pok, hj, beq_iff_eq] at hp
      rw [aw_cv_cat, hp]; decide
    · left; exact hz
theorem aw_L.set2 {ad : Nat → Nat} {lsC : Array Slot} {nL i : Nat} {ls : List Value} {v : Value} (hp : aw_pok ls i = true) (h : lv_has lsC nL ((i, aw_cv ad v) :: (aw_al ad ls).filter (fun q => !(q.1 == i) && (!(q.1 == i + 1) && !(q.1 + 1 == i && q.2.category == 2))))) : aw_L ad lsC nL ((ls.set i v).set (i + 1) aw_x) := by
  refine ⟨h.1, h.2.1, fun j w hj hw => ?_⟩
  by_cases h1 : i + 1 = j
  · subst h1
    rw [List.getElem?_set] at hj
    split at hj
    next => split at hj
            next => cases hj; exact absurd rfl hw
            next => cases hj
    next z => exact absurd rfl z
  · rw [List.getElem?_set_ne h1] at hj
    by_cases hij : i = j
    · subst hij
      rw [List.getElem?_set] at hj
      split at hj
      next => split at hj
              next => cases hj; exact h.2.2 (i, aw_cv ad v) List.mem_cons_self
              next => cases hj
      next z => exact absurd rfl z
    · rw [List.getElem?_set_ne hij] at hj
      refine h.2.2 (j, aw_cv ad w) (List.mem_cons_of_mem _ (List.mem_filter.mpr ⟨aw_al_in hj hw, ?_⟩))
      simp only [Bool.and_eq_true, Bool.not_eq_true', beq_eq_false_iff_ne, ne_eq, Bool.and_eq_false_iff]
      refine ⟨fun z => hij z.symm, fun z => h1 z.symm, ?_⟩
      by_cases hz : j + 1 = i
      · right
        subst hz
        simp only [aw_pok, hj, beq_iff_eq] at hp
        rw [aw_cv_cat, hp]; decide
      · left; exact hz
theorem aw_istore_n {j : Fin 4} {x : Int32} {ls2 : List Value} (hd : decode (aw_c M) pc = .ok (.istore_n j, 1)) (hn : (j : Nat) < aw_nL M) (hp : aw_pok ls j = true) (hl : ls.set j (.int x) = ls2) (k : aw_W G M (pc + 1) ls2 st h q Q) : aw_W G M pc ls (.int x :: st) h q Q :=
  fun p e s m args below meth c Z hC hZ H locs lsC hL hR hS => lv_istore_n hC.1 hC.2.1 hd rfl hL.has hn rfl (fun lsC hL => k p e s m args below meth c Z hC hZ H locs lsC (hl ▸ aw_L.set1 (v := .int x) hp hL) hR hS)
theorem aw_istore {j : Nat} {x : Int32} {ls2 : List Value} (hd : decode (aw_c M) pc = .ok (.istore j, 2)) (hn : j < aw_nL M) (hp : aw_pok ls j = true) (hl : ls.set j (.int x) = ls2) (k : aw_W G M (pc + 2) ls2 st h q Q) : aw_W G M pc ls (.int x :: st) h q Q :=
  fun p e s m args below meth c Z hC hZ H locs lsC hL hR hS => lv_istore hC.1 hC.2.1 hd hL.has hn rfl (fun lsC hL => k p e s m args below meth c Z hC hZ H locs lsC (hl ▸ aw_L.set1 (v := .int x) hp hL) hR hS)
theorem aw_astore_n {j : Fin 4} {x : Nat} {ls2 : List Value} (hd : decode (aw_c M) pc = .ok (.astore_n j, 1)) (hn : (j : Nat) < aw_nL M) (hp : aw_pok ls j = true) (hl : ls.set j (.ref x) = ls2) (k : aw_W G M (pc + 1) ls2 st h q Q) : aw_W G M pc ls (.ref x :: st) h q Q :=
  fun p e s m args below meth c Z hC hZ H locs lsC hL hR hS => lv_astore_n hC.1 hC.2.1 hd rfl hL.has hn rfl (fun lsC hL => k p e s m args below meth c Z hC hZ H locs lsC (hl ▸ aw_L.set1 (v := .ref x) hp hL) hR hS)
theorem aw_astore {j : Nat} {x : Nat} {ls2 : List Value} (hd : decode (aw_c M) pc = .ok (.astore j, 2)) (hn : j < aw_nL M) (hp : aw_pok ls j = true) (hl : ls.set j (.ref x) = ls2) (k : aw_W G M (pc + 2) ls2 st h q Q) : aw_W G M pc ls (.ref x :: st) h q Q :=
  fun p e s m args below meth c Z hC hZ H locs lsC hL hR hS => lv_astore hC.1 hC.2.1 hd hL.has hn rfl (fun lsC hL => k p e s m args below meth c Z hC hZ H locs lsC (hl ▸ aw_L.set1 (v := .ref x) hp hL) hR hS)
theorem aw_lstore_n {j : Fin 4} {x : Int64} {ls2 : List Value} (hd : decode (aw_c M) pc = .ok (.lstore_n j, 1)) (hn : (j : Nat) + 1 < aw_nL M) (hp : aw_pok ls j = true) (hl : (ls.set j (.long x)).set ((j : Nat) + 1) aw_x = ls2) (k : aw_W G M (pc + 1) ls2 st h q Q) : aw_W G M pc ls (.long x :: st) h q Q :=
  fun p e s m args below meth c Z hC hZ H locs lsC hL hR hS => lv_lstore_n hC.1 hC.2.1 hd rfl hL.has hn rfl (fun lsC hL => k p e s m args below meth c Z hC hZ H locs lsC (hl ▸ aw_L.set2 (v := .long x) hp hL) hR hS)
theorem aw_lstore {j : Nat} {x : Int64} {ls2 : List Value} (hd : decode (aw_c M) pc = .ok (.lstore j, 2)) (hn : j + 1 < aw_nL M) (hp : aw_pok ls j = true) (hl : (ls.set j (.long x)).set (j + 1) aw_x = ls2) (k : aw_W G M (pc + 2) ls2 st h q Q) : aw_W G M pc ls (.long x :: st) h q Q :=
  fun p e s m args below meth c Z hC hZ H locs lsC hL hR hS => lv_lstore hC.1 hC.2.1 hd hL.has hn rfl (fun lsC hL => k p e s m args below meth c Z hC hZ H locs lsC (hl ▸ aw_L.set2 (v := .long x) hp hL) hR hS)
theorem aw_iinc {j : Nat} {n : Int} {x : Int32} {ls2 : List Value} (hd : decode (aw_c M) pc = .ok (.iinc j n, 3)) (hx : ls[j]? = some (.int x)) (hn : j < aw_nL M) (hp : aw_pok ls j = true) (hl : ls.set j (.int (x + Int32.ofInt n)) = ls2) (k : aw_W G M (pc + 3) ls2 st h q Q) : aw_W G M pc ls st h q Q := by
  intro p e s m args below meth c Z hC hZ H locs lsC hL hR hS
  obtain ⟨kk, hk⟩ := List.getElem?_of_mem (aw_al_in (ad := g_ad G) hx (fun z => by cases z))
  exact lv_iinc hC.1 hC.2.1 hd hL.has hk rfl hn rfl (fun lsC hL => k p e s m args below meth c Z hC hZ H locs lsC (hl ▸ aw_L.set1 (v := .int (x + Int32.ofInt n)) hp hL) hR hS)
/-- what a local holds is forgotten -/
theorem aw_kill {j : Nat} {ls2 : List Value} (hl : ls.set j aw_x = ls2) (k : aw_W G M pc ls2 st h q Q) : aw_W G M pc ls st h q Q := by
  intro p e s m args below meth c Z hC hZ H locs lsC hL hR hS
  refine k p e s m args below meth c Z hC hZ H locs lsC ⟨hL.1, hL.2.1, fun i v hi hv => ?_⟩ hR hS
  rw [← hl] at hi
  by_cases hij : j = i
  · subst hij
    rw [List.getElem?_set] at hi
    split at hi
    next => split at hi
            next => cases hi; exact absurd rfl hv
            next => cases hi
    next z => exact absurd rfl z
  · rw [List.getElem?_set_ne hij] at hi
    exact hL.2.2 i v hi hv
theorem aw_mono {Q2 : Option Value → aw_H → Prop} (hq : ∀ v h2, Q2 v h2 → Q v h2) (k : aw_W G M pc ls st h q Q2) : aw_W G M pc ls st h q Q :=
  fun p e s m args below meth c Z hC hZ => k p e s m args below meth c Z hC (fun pc2 ls2 v h2 H2 locs2 q2 hQ => hZ pc2 ls2 v h2 H2 locs2 q2 (hq v h2 hQ))
-- ends
theorem aw_ret0 (hd : decode (aw_c M) pc = .ok (.return_, 1)) (hr : aw_ret M = none) (hq : q.1 ≤ aw_mc M ∧ q.2 ≤ aw_ms M) (k : Q none h) : aw_W G M pc ls [] h q Q :=
  fun p e s m args below meth c Z hC hZ H locs lsC hL hR hS => hZ pc lsC none h H locs q k hR hS hq (Or.inl ⟨rfl, hd, hr⟩)
theorem aw_reti {x : Int32} {ty : FieldType} (hd : decode (aw_c M) pc = .ok (.ireturn, 1)) (hr : aw_ret M = some ty) (hn : narrow ty (.int x) = .int x) (hq : q.1 ≤ aw_mc M ∧ q.2 ≤ aw_ms M) (k : Q (some (.int x)) h) : aw_W G M pc ls [.int x] h q Q :=
  fun p e s m args below meth c Z hC hZ H locs lsC hL hR hS => hZ pc lsC (some (.int x)) h H locs q k hR hS hq (Or.inr (Or.inl ⟨x, ty, rfl, hd, hr, hn⟩))
theorem aw_retl {x : Int64} (hd : decode (aw_c M) pc = .ok (.lreturn, 1)) (hr : aw_ret M = some .long) (hq : q.1 ≤ aw_mc M ∧ q.2 ≤ aw_ms M) (k : Q (some (.long x)) h) : aw_W G M pc ls [.long x] h q Q :=
  fun p e s m args below meth c Z hC hZ H locs lsC hL hR hS => hZ pc lsC (some (.long x)) h H locs q k hR hS hq (Or.inr (Or.inr (Or.inl ⟨x, rfl, hd, hr⟩)))
theorem aw_reta {a : Nat} {n : String} (hd : decode (aw_c M) pc = .ok (.areturn, 1)) (hr : aw_ret M = some (.object n)) (hq : q.1 ≤ aw_mc M ∧ q.2 ≤ aw_ms M) (k : Q (some (.ref a)) h) : aw_W G M pc ls [.ref a] h q Q :=
  fun p e s m args below meth c Z hC hZ H locs lsC hL hR hS => hZ pc lsC (some (.ref a)) h H locs q k hR hS hq (Or.inr (Or.inr (Or.inr ⟨a, n, rfl, hd, hr⟩)))
end AWI
