/-! ===== one row an instruction, over WS ===== -/
section WR
variable {E : qE} {y : MethodName} {cc : ByteArray} {nL : Nat} {ret : Option FieldType} {k mc ms : Nat} {tab : List ExceptionTableEntry} {X : qX} {cN sN : Nat} {Q : State → Prop} {g : qG} {m : qM} {pc : Nat} {l : List (Option Value)} {st : List Value}
theorem r_iconst (hX : MC E y cc nL ret k mc ms tab X) {n : Int} {v : Int32} (d : decode cc pc = .ok (.iconst n, 1)) (hv : Int32.ofInt n = v) (kk : WS E X cN sN Q g m (pc + 1) l (.int v :: st)) : WS E X cN sN Q g m pc l st :=
  fun H locs ls h1 h2 h3 => lv_iconst hX.x hX.b d hv (kk H locs ls h1 h2 h3)
theorem r_bipush (hX : MC E y cc nL ret k mc ms tab X) {n : Int} {v : Int32} (d : decode cc pc = .ok (.bipush n, 2)) (hv : (Int8.ofInt n).toInt32 = v) (kk : WS E X cN sN Q g m (pc + 2) l (.int v :: st)) : WS E X cN sN Q g m pc l st :=
  fun H locs ls h1 h2 h3 => lv_bipush hX.x hX.b d hv (kk H locs ls h1 h2 h3)
theorem r_sipush (hX : MC E y cc nL ret k mc ms tab X) {n : Int} {v : Int32} (d : decode cc pc = .ok (.sipush n, 3)) (hv : (Int16.ofInt n).toInt32 = v) (kk : WS E X cN sN Q g m (pc + 3) l (.int v :: st)) : WS E X cN sN Q g m pc l st :=
  fun H locs ls h1 h2 h3 => lv_sipush hX.x hX.b d hv (kk H locs ls h1 h2 h3)
theorem r_lconst (hX : MC E y cc nL ret k mc ms tab X) {n : Fin 2} {v : Int64} (d : decode cc pc = .ok (.lconst n, 1)) (hv : Int64.ofNat (n : Nat) = v) (kk : WS E X cN sN Q g m (pc + 1) l (.long v :: st)) : WS E X cN sN Q g m pc l st :=
  fun H locs ls h1 h2 h3 => lv_lconst hX.x hX.b d hv (kk H locs ls h1 h2 h3)
theorem r_null (hX : MC E y cc nL ret k mc ms tab X)  (d : decode cc pc = .ok (.aconst_null, 1))  (kk : WS E X cN sN Q g m (pc + 1) l (.null :: st)) : WS E X cN sN Q g m pc l st :=
  fun H locs ls h1 h2 h3 => lv_null hX.x hX.b d  (kk H locs ls h1 h2 h3)
theorem r_iload_n (hX : MC E y cc nL ret k mc ms tab X) {i : Fin 4} {x : Int32} (d : decode cc pc = .ok (.iload_n i, 1)) (hl : l[(i : Nat)]? = some (some (.int x))) (kk : WS E X cN sN Q g m (pc + 1) l (.int x :: st)) : WS E X cN sN Q g m pc l st :=
  fun H locs ls h1 h2 h3 => lv_iload_n hX.x hX.b d rfl (ql_at h3 hl) (kk H locs ls h1 h2 h3)
theorem r_iload (hX : MC E y cc nL ret k mc ms tab X) {i : Nat} {x : Int32} (d : decode cc pc = .ok (.iload i, 2)) (hl : l[i]? = some (some (.int x))) (kk : WS E X cN sN Q g m (pc + 2) l (.int x :: st)) : WS E X cN sN Q g m pc l st :=
  fun H locs ls h1 h2 h3 => lv_iload hX.x hX.b d (ql_at h3 hl) (kk H locs ls h1 h2 h3)
theorem r_lload_n (hX : MC E y cc nL ret k mc ms tab X) {i : Fin 4} {x : Int64} (d : decode cc pc = .ok (.lload_n i, 1)) (hl : l[(i : Nat)]? = some (some (.long x))) (kk : WS E X cN sN Q g m (pc + 1) l (.long x :: st)) : WS E X cN sN Q g m pc l st :=
  fun H locs ls h1 h2 h3 => lv_lload_n hX.x hX.b d rfl (ql_at h3 hl) (kk H locs ls h1 h2 h3)
theorem r_lload (hX : MC E y cc nL ret k mc ms tab X) {i : Nat} {x : Int64} (d : decode cc pc = .ok (.lload i, 2)) (hl : l[i]? = some (some (.long x))) (kk : WS E X cN sN Q g m (pc + 2) l (.long x :: st)) : WS E X cN sN Q g m pc l st :=
  fun H locs ls h1 h2 h3 => lv_lload hX.x hX.b d (ql_at h3 hl) (kk H locs ls h1 h2 h3)
theorem r_dload_n (hX : MC E y cc nL ret k mc ms tab X) {i : Fin 4} {x : UInt64} (d : decode cc pc = .ok (.dload_n i, 1)) (hl : l[(i : Nat)]? = some (some (.double x))) (kk : WS E X cN sN Q g m (pc + 1) l (.double x :: st)) : WS E X cN sN Q g m pc l st :=
  fun H locs ls h1 h2 h3 => lv_dload_n hX.x hX.b d rfl (ql_at h3 hl) (kk H locs ls h1 h2 h3)
theorem r_dload (hX : MC E y cc nL ret k mc ms tab X) {i : Nat} {x : UInt64} (d : decode cc pc = .ok (.dload i, 2)) (hl : l[i]? = some (some (.double x))) (kk : WS E X cN sN Q g m (pc + 2) l (.double x :: st)) : WS E X cN sN Q g m pc l st :=
  fun H locs ls h1 h2 h3 => lv_dload hX.x hX.b d (ql_at h3 hl) (kk H locs ls h1 h2 h3)
theorem r_aload_n (hX : MC E y cc nL ret k mc ms tab X) {i : Fin 4} {x : Nat} (d : decode cc pc = .ok (.aload_n i, 1)) (hl : l[(i : Nat)]? = some (some (.ref x))) (kk : WS E X cN sN Q g m (pc + 1) l (.ref x :: st)) : WS E X cN sN Q g m pc l st :=
  fun H locs ls h1 h2 h3 => lv_aload_n hX.x hX.b d rfl (ql_at h3 hl) (kk H locs ls h1 h2 h3)
theorem r_aload (hX : MC E y cc nL ret k mc ms tab X) {i : Nat} {x : Nat} (d : decode cc pc = .ok (.aload i, 2)) (hl : l[i]? = some (some (.ref x))) (kk : WS E X cN sN Q g m (pc + 2) l (.ref x :: st)) : WS E X cN sN Q g m pc l st :=
  fun H locs ls h1 h2 h3 => lv_aload hX.x hX.b d (ql_at h3 hl) (kk H locs ls h1 h2 h3)
theorem r_aload_nN (hX : MC E y cc nL ret k mc ms tab X) {i : Fin 4} (d : decode cc pc = .ok (.aload_n i, 1)) (hl : l[(i : Nat)]? = some (some .null)) (kk : WS E X cN sN Q g m (pc + 1) l (.null :: st)) : WS E X cN sN Q g m pc l st :=
  fun H locs ls h1 h2 h3 => lv_aload_nN hX.x hX.b d rfl (ql_at h3 hl) (kk H locs ls h1 h2 h3)
theorem r_aloadN (hX : MC E y cc nL ret k mc ms tab X) {i : Nat} (d : decode cc pc = .ok (.aload i, 2)) (hl : l[i]? = some (some .null)) (kk : WS E X cN sN Q g m (pc + 2) l (.null :: st)) : WS E X cN sN Q g m pc l st :=
  fun H locs ls h1 h2 h3 => lv_aloadN hX.x hX.b d (ql_at h3 hl) (kk H locs ls h1 h2 h3)
theorem r_iadd (hX : MC E y cc nL ret k mc ms tab X) {x y1 : Int32} (d : decode cc pc = .ok (.iadd, 1))  (kk : WS E X cN sN Q g m (pc + 1) l (.int (x + y1) :: st)) : WS E X cN sN Q g m pc l (.int y1 :: .int x :: st) :=
  fun H locs ls h1 h2 h3 => lv_iadd hX.x hX.b d  (kk H locs ls h1 h2 h3)
theorem r_isub (hX : MC E y cc nL ret k mc ms tab X) {x y1 : Int32} (d : decode cc pc = .ok (.isub, 1))  (kk : WS E X cN sN Q g m (pc + 1) l (.int (x - y1) :: st)) : WS E X cN sN Q g m pc l (.int y1 :: .int x :: st) :=
  fun H locs ls h1 h2 h3 => lv_isub hX.x hX.b d  (kk H locs ls h1 h2 h3)
theorem r_imul (hX : MC E y cc nL ret k mc ms tab X) {x y1 : Int32} (d : decode cc pc = .ok (.imul, 1))  (kk : WS E X cN sN Q g m (pc + 1) l (.int (x * y1) :: st)) : WS E X cN sN Q g m pc l (.int y1 :: .int x :: st) :=
  fun H locs ls h1 h2 h3 => lv_imul hX.x hX.b d  (kk H locs ls h1 h2 h3)
theorem r_iand (hX : MC E y cc nL ret k mc ms tab X) {x y1 : Int32} (d : decode cc pc = .ok (.iand, 1))  (kk : WS E X cN sN Q g m (pc + 1) l (.int (x &&& y1) :: st)) : WS E X cN sN Q g m pc l (.int y1 :: .int x :: st) :=
  fun H locs ls h1 h2 h3 => lv_iand hX.x hX.b d  (kk H locs ls h1 h2 h3)
theorem r_ior (hX : MC E y cc nL ret k mc ms tab X) {x y1 : Int32} (d : decode cc pc = .ok (.ior, 1))  (kk : WS E X cN sN Q g m (pc + 1) l (.int (x ||| y1) :: st)) : WS E X cN sN Q g m pc l (.int y1 :: .int x :: st) :=
  fun H locs ls h1 h2 h3 => lv_ior hX.x hX.b d  (kk H locs ls h1 h2 h3)
theorem r_ixor (hX : MC E y cc nL ret k mc ms tab X) {x y1 : Int32} (d : decode cc pc = .ok (.ixor, 1))  (kk : WS E X cN sN Q g m (pc + 1) l (.int (x ^^^ y1) :: st)) : WS E X cN sN Q g m pc l (.int y1 :: .int x :: st) :=
  fun H locs ls h1 h2 h3 => lv_ixor hX.x hX.b d  (kk H locs ls h1 h2 h3)
theorem r_ishl (hX : MC E y cc nL ret k mc ms tab X) {x y1 : Int32} (d : decode cc pc = .ok (.ishl, 1))  (kk : WS E X cN sN Q g m (pc + 1) l (.int (x <<< (y1 &&& 31)) :: st)) : WS E X cN sN Q g m pc l (.int y1 :: .int x :: st) :=
  fun H locs ls h1 h2 h3 => lv_ishl hX.x hX.b d  (kk H locs ls h1 h2 h3)
theorem r_ishr (hX : MC E y cc nL ret k mc ms tab X) {x y1 : Int32} (d : decode cc pc = .ok (.ishr, 1))  (kk : WS E X cN sN Q g m (pc + 1) l (.int (x >>> (y1 &&& 31)) :: st)) : WS E X cN sN Q g m pc l (.int y1 :: .int x :: st) :=
  fun H locs ls h1 h2 h3 => lv_ishr hX.x hX.b d  (kk H locs ls h1 h2 h3)
theorem r_idiv (hX : MC E y cc nL ret k mc ms tab X) {x y1 : Int32} (d : decode cc pc = .ok (.idiv, 1)) (hne : ¬ y1 = 0) (kk : WS E X cN sN Q g m (pc + 1) l (.int (x / y1) :: st)) : WS E X cN sN Q g m pc l (.int y1 :: .int x :: st) :=
  fun H locs ls h1 h2 h3 => lv_idiv hX.x hX.b d hne (kk H locs ls h1 h2 h3)
theorem r_irem (hX : MC E y cc nL ret k mc ms tab X) {x y1 : Int32} (d : decode cc pc = .ok (.irem, 1)) (hne : ¬ y1 = 0) (kk : WS E X cN sN Q g m (pc + 1) l (.int (x - x / y1 * y1) :: st)) : WS E X cN sN Q g m pc l (.int y1 :: .int x :: st) :=
  fun H locs ls h1 h2 h3 => lv_irem hX.x hX.b d hne (kk H locs ls h1 h2 h3)
theorem r_ineg (hX : MC E y cc nL ret k mc ms tab X) {x : Int32} (d : decode cc pc = .ok (.ineg, 1))  (kk : WS E X cN sN Q g m (pc + 1) l (.int (-x) :: st)) : WS E X cN sN Q g m pc l (.int x :: st) :=
  fun H locs ls h1 h2 h3 => lv_ineg hX.x hX.b d  (kk H locs ls h1 h2 h3)
theorem r_ladd (hX : MC E y cc nL ret k mc ms tab X) {x y1 : Int64} (d : decode cc pc = .ok (.ladd, 1))  (kk : WS E X cN sN Q g m (pc + 1) l (.long (x + y1) :: st)) : WS E X cN sN Q g m pc l (.long y1 :: .long x :: st) :=
  fun H locs ls h1 h2 h3 => lv_ladd hX.x hX.b d  (kk H locs ls h1 h2 h3)
theorem r_lsub (hX : MC E y cc nL ret k mc ms tab X) {x y1 : Int64} (d : decode cc pc = .ok (.lsub, 1))  (kk : WS E X cN sN Q g m (pc + 1) l (.long (x - y1) :: st)) : WS E X cN sN Q g m pc l (.long y1 :: .long x :: st) :=
  fun H locs ls h1 h2 h3 => lv_lsub hX.x hX.b d  (kk H locs ls h1 h2 h3)
theorem r_lmul (hX : MC E y cc nL ret k mc ms tab X) {x y1 : Int64} (d : decode cc pc = .ok (.lmul, 1))  (kk : WS E X cN sN Q g m (pc + 1) l (.long (x * y1) :: st)) : WS E X cN sN Q g m pc l (.long y1 :: .long x :: st) :=
  fun H locs ls h1 h2 h3 => lv_lmul hX.x hX.b d  (kk H locs ls h1 h2 h3)
theorem r_ldiv (hX : MC E y cc nL ret k mc ms tab X) {x y1 : Int64} (d : decode cc pc = .ok (.ldiv, 1)) (hne : ¬ y1 = 0) (kk : WS E X cN sN Q g m (pc + 1) l (.long (x / y1) :: st)) : WS E X cN sN Q g m pc l (.long y1 :: .long x :: st) :=
  fun H locs ls h1 h2 h3 => lv_ldiv hX.x hX.b d hne (kk H locs ls h1 h2 h3)
theorem r_lrem (hX : MC E y cc nL ret k mc ms tab X) {x y1 : Int64} (d : decode cc pc = .ok (.lrem, 1)) (hne : ¬ y1 = 0) (kk : WS E X cN sN Q g m (pc + 1) l (.long (x - x / y1 * y1) :: st)) : WS E X cN sN Q g m pc l (.long y1 :: .long x :: st) :=
  fun H locs ls h1 h2 h3 => lv_lrem hX.x hX.b d hne (kk H locs ls h1 h2 h3)
theorem r_lcmp (hX : MC E y cc nL ret k mc ms tab X) {x y1 : Int64} (d : decode cc pc = .ok (.lcmp, 1))  (kk : WS E X cN sN Q g m (pc + 1) l (.int (lg_cmp x y1) :: st)) : WS E X cN sN Q g m pc l (.long y1 :: .long x :: st) :=
  fun H locs ls h1 h2 h3 => W.lcmp hX.x hX.b d  (kk H locs ls h1 h2 h3)
theorem r_dcmp (hX : MC E y cc nL ret k mc ms tab X) {x y1 : UInt64} {op : CmpOp} (d : decode cc pc = .ok (.dcmp op, 1))  (kk : WS E X cN sN Q g m (pc + 1) l (.int (Op.cmpValue (FP.dcmp x y1) op) :: st)) : WS E X cN sN Q g m pc l (.double y1 :: .double x :: st) :=
  fun H locs ls h1 h2 h3 => lv_dcmp hX.x hX.b d  (kk H locs ls h1 h2 h3)
theorem r_i2l (hX : MC E y cc nL ret k mc ms tab X) {x : Int32} (d : decode cc pc = .ok (.i2l, 1))  (kk : WS E X cN sN Q g m (pc + 1) l (.long x.toInt64 :: st)) : WS E X cN sN Q g m pc l (.int x :: st) :=
  fun H locs ls h1 h2 h3 => lv_i2l hX.x hX.b d rfl (kk H locs ls h1 h2 h3)
theorem r_l2i (hX : MC E y cc nL ret k mc ms tab X) {x : Int64} (d : decode cc pc = .ok (.l2i, 1))  (kk : WS E X cN sN Q g m (pc + 1) l (.int x.toInt32 :: st)) : WS E X cN sN Q g m pc l (.long x :: st) :=
  fun H locs ls h1 h2 h3 => lv_l2i hX.x hX.b d rfl (kk H locs ls h1 h2 h3)
theorem r_i2b (hX : MC E y cc nL ret k mc ms tab X) {x : Int32} (d : decode cc pc = .ok (.i2b, 1))  (kk : WS E X cN sN Q g m (pc + 1) l (.int x.toInt8.toInt32 :: st)) : WS E X cN sN Q g m pc l (.int x :: st) :=
  fun H locs ls h1 h2 h3 => lv_i2b hX.x hX.b d rfl (kk H locs ls h1 h2 h3)
theorem r_i2c (hX : MC E y cc nL ret k mc ms tab X) {x : Int32} (d : decode cc pc = .ok (.i2c, 1))  (kk : WS E X cN sN Q g m (pc + 1) l (.int (x.toUInt32 % 65536).toInt32 :: st)) : WS E X cN sN Q g m pc l (.int x :: st) :=
  fun H locs ls h1 h2 h3 => lv_i2c hX.x hX.b d rfl (kk H locs ls h1 h2 h3)
theorem r_i2d (hX : MC E y cc nL ret k mc ms tab X) {x : Int32} (d : decode cc pc = .ok (.i2d, 1))  (kk : WS E X cN sN Q g m (pc + 1) l (.double (FP.i2d x) :: st)) : WS E X cN sN Q g m pc l (.int x :: st) :=
  fun H locs ls h1 h2 h3 => lv_i2d hX.x hX.b d  (kk H locs ls h1 h2 h3)
theorem r_i2f (hX : MC E y cc nL ret k mc ms tab X) {x : Int32} (d : decode cc pc = .ok (.i2f, 1))  (kk : WS E X cN sN Q g m (pc + 1) l (.float (FP.i2f x) :: st)) : WS E X cN sN Q g m pc l (.int x :: st) :=
  fun H locs ls h1 h2 h3 => lv_i2f hX.x hX.b d  (kk H locs ls h1 h2 h3)
theorem r_f2d (hX : MC E y cc nL ret k mc ms tab X) {x : UInt32} (d : decode cc pc = .ok (.f2d, 1)) (hne : vf_n64 (FP.f2d x)) (kk : WS E X cN sN Q g m (pc + 1) l (.double (FP.f2d x) :: st)) : WS E X cN sN Q g m pc l (.float x :: st) :=
  fun H locs ls h1 h2 h3 => lv_f2d hX.x hX.b d hne (kk H locs ls h1 h2 h3)
theorem r_ddiv (hX : MC E y cc nL ret k mc ms tab X) {x y1 : UInt64} (d : decode cc pc = .ok (.ddiv, 1)) (hne : vf_n64 (FP.ddiv x y1)) (kk : WS E X cN sN Q g m (pc + 1) l (.double (FP.ddiv x y1) :: st)) : WS E X cN sN Q g m pc l (.double y1 :: .double x :: st) :=
  fun H locs ls h1 h2 h3 => lv_ddiv hX.x hX.b d hne (kk H locs ls h1 h2 h3)
theorem r_fdiv (hX : MC E y cc nL ret k mc ms tab X) {x y1 : UInt32} (d : decode cc pc = .ok (.fdiv, 1)) (hne : vf_n32 (FP.fdiv x y1)) (kk : WS E X cN sN Q g m (pc + 1) l (.float (FP.fdiv x y1) :: st)) : WS E X cN sN Q g m pc l (.float y1 :: .float x :: st) :=
  fun H locs ls h1 h2 h3 => lv_fdiv hX.x hX.b d hne (kk H locs ls h1 h2 h3)
theorem r_dconst0 (hX : MC E y cc nL ret k mc ms tab X)  (d : decode cc pc = .ok (.dconst 0, 1))  (kk : WS E X cN sN Q g m (pc + 1) l (.double 0 :: st)) : WS E X cN sN Q g m pc l st :=
  fun H locs ls h1 h2 h3 => lv_dconst0 hX.x hX.b d  (kk H locs ls h1 h2 h3)
theorem r_dup (hX : MC E y cc nL ret k mc ms tab X) {v : Value} (d : decode cc pc = .ok (.dup, 1)) (hv : v.category = 1) (kk : WS E X cN sN Q g m (pc + 1) l (v :: v :: st)) : WS E X cN sN Q g m pc l (v :: st) :=
  fun H locs ls h1 h2 h3 => lv_dup hX.x hX.b d hv (kk H locs ls h1 h2 h3)
theorem r_pop (hX : MC E y cc nL ret k mc ms tab X) {v : Value} (d : decode cc pc = .ok (.pop, 1)) (hv : v.category = 1) (kk : WS E X cN sN Q g m (pc + 1) l st) : WS E X cN sN Q g m pc l (v :: st) :=
  fun H locs ls h1 h2 h3 => lv_pop hX.x hX.b d hv (kk H locs ls h1 h2 h3)
theorem r_dup_x1 (hX : MC E y cc nL ret k mc ms tab X) {v w : Value} (d : decode cc pc = .ok (.dup_x1, 1)) (hv : v.category = 1) (hw : w.category = 1) (kk : WS E X cN sN Q g m (pc + 1) l (v :: w :: v :: st)) : WS E X cN sN Q g m pc l (v :: w :: st) :=
  fun H locs ls h1 h2 h3 => lv_dup_x1 hX.x hX.b d hv hw (kk H locs ls h1 h2 h3)
theorem r_dup2 (hX : MC E y cc nL ret k mc ms tab X) {v w : Value} (d : decode cc pc = .ok (.dup2, 1)) (hv : v.category = 1) (hw : w.category = 1) (kk : WS E X cN sN Q g m (pc + 1) l (v :: w :: v :: w :: st)) : WS E X cN sN Q g m pc l (v :: w :: st) :=
  fun H locs ls h1 h2 h3 => lv_dup2_11 hX.x hX.b d hv hw (kk H locs ls h1 h2 h3)
theorem r_istore_n (hX : MC E y cc nL ret k mc ms tab X) {i : Fin 4} {x : Int32} (d : decode cc pc = .ok (.istore_n i, 1)) (hi : (i : Nat) < l.length) (hb : okB l (i : Nat) = true) (kk : WS E X cN sN Q g m (pc + 1) (l.set (i : Nat) (some (.int x))) st) : WS E X cN sN Q g m pc l (.int x :: st) :=
  fun H locs ls h1 h2 h3 => lv_istore_n hX.x hX.b d rfl h3 hi rfl (fun ls' h4 => kk H locs ls' h1 h2 (by rw [List.length_set]; exact ql_set1 hi hb h4))
theorem r_istore (hX : MC E y cc nL ret k mc ms tab X) {i : Nat} {x : Int32} (d : decode cc pc = .ok (.istore i, 2)) (hi : i < l.length) (hb : okB l i = true) (kk : WS E X cN sN Q g m (pc + 2) (l.set i (some (.int x))) st) : WS E X cN sN Q g m pc l (.int x :: st) :=
  fun H locs ls h1 h2 h3 => lv_istore hX.x hX.b d h3 hi rfl (fun ls' h4 => kk H locs ls' h1 h2 (by rw [List.length_set]; exact ql_set1 hi hb h4))
theorem r_astore_n (hX : MC E y cc nL ret k mc ms tab X) {i : Fin 4} {x : Nat} (d : decode cc pc = .ok (.astore_n i, 1)) (hi : (i : Nat) < l.length) (hb : okB l (i : Nat) = true) (kk : WS E X cN sN Q g m (pc + 1) (l.set (i : Nat) (some (.ref x))) st) : WS E X cN sN Q g m pc l (.ref x :: st) :=
  fun H locs ls h1 h2 h3 => lv_astore_n hX.x hX.b d rfl h3 hi rfl (fun ls' h4 => kk H locs ls' h1 h2 (by rw [List.length_set]; exact ql_set1 hi hb h4))
theorem r_astore (hX : MC E y cc nL ret k mc ms tab X) {i : Nat} {x : Nat} (d : decode cc pc = .ok (.astore i, 2)) (hi : i < l.length) (hb : okB l i = true) (kk : WS E X cN sN Q g m (pc + 2) (l.set i (some (.ref x))) st) : WS E X cN sN Q g m pc l (.ref x :: st) :=
  fun H locs ls h1 h2 h3 => lv_astore hX.x hX.b d h3 hi rfl (fun ls' h4 => kk H locs ls' h1 h2 (by rw [List.length_set]; exact ql_set1 hi hb h4))
theorem r_astore_nN (hX : MC E y cc nL ret k mc ms tab X) {i : Fin 4} (d : decode cc pc = .ok (.astore_n i, 1)) (hi : (i : Nat) < l.length) (hb : okB l (i : Nat) = true) (kk : WS E X cN sN Q g m (pc + 1) (l.set (i : Nat) (some .null)) st) : WS E X cN sN Q g m pc l (.null :: st) :=
  fun H locs ls h1 h2 h3 => lv_astore_nN hX.x hX.b d rfl h3 hi rfl (fun ls' h4 => kk H locs ls' h1 h2 (by rw [List.length_set]; exact ql_set1 hi hb h4))
theorem r_lstore_n (hX : MC E y cc nL ret k mc ms tab X) {i : Fin 4} {x : Int64} (d : decode cc pc = .ok (.lstore_n i, 1)) (hi : (i : Nat) + 1 < l.length) (hb : okB l (i : Nat) = true) (kk : WS E X cN sN Q g m (pc + 1) ((l.set (i : Nat) (some (.long x))).set ((i : Nat) + 1) none) st) : WS E X cN sN Q g m pc l (.long x :: st) :=
  fun H locs ls h1 h2 h3 => lv_lstore_n hX.x hX.b d rfl h3 hi rfl (fun ls' h4 => kk H locs ls' h1 h2 (by rw [List.length_set, List.length_set]; exact ql_set2 hi hb h4))
theorem r_lstore (hX : MC E y cc nL ret k mc ms tab X) {i : Nat} {x : Int64} (d : decode cc pc = .ok (.lstore i, 2)) (hi : i + 1 < l.length) (hb : okB l i = true) (kk : WS E X cN sN Q g m (pc + 2) ((l.set i (some (.long x))).set (i + 1) none) st) : WS E X cN sN Q g m pc l (.long x :: st) :=
  fun H locs ls h1 h2 h3 => lv_lstore hX.x hX.b d h3 hi rfl (fun ls' h4 => kk H locs ls' h1 h2 (by rw [List.length_set, List.length_set]; exact ql_set2 hi hb h4))
theorem r_dstore_n (hX : MC E y cc nL ret k mc ms tab X) {i : Fin 4} {x : UInt64} (d : decode cc pc = .ok (.dstore_n i, 1)) (hi : (i : Nat) + 1 < l.length) (hb : okB l (i : Nat) = true) (kk : WS E X cN sN Q g m (pc + 1) ((l.set (i : Nat) (some (.double x))).set ((i : Nat) + 1) none) st) : WS E X cN sN Q g m pc l (.double x :: st) :=
  fun H locs ls h1 h2 h3 => lv_dstore_n hX.x hX.b d rfl h3 hi rfl (fun ls' h4 => kk H locs ls' h1 h2 (by rw [List.length_set, List.length_set]; exact ql_set2 hi hb h4))
theorem r_dstore (hX : MC E y cc nL ret k mc ms tab X) {i : Nat} {x : UInt64} (d : decode cc pc = .ok (.dstore i, 2)) (hi : i + 1 < l.length) (hb : okB l i = true) (kk : WS E X cN sN Q g m (pc + 2) ((l.set i (some (.double x))).set (i + 1) none) st) : WS E X cN sN Q g m pc l (.double x :: st) :=
  fun H locs ls h1 h2 h3 => lv_dstore hX.x hX.b d h3 hi rfl (fun ls' h4 => kk H locs ls' h1 h2 (by rw [List.length_set, List.length_set]; exact ql_set2 hi hb h4))
theorem r_iinc (hX : MC E y cc nL ret k mc ms tab X) {i : Nat} {n : Int} {x v : Int32} (d : decode cc pc = .ok (.iinc i n, 3)) (hl : l[i]? = some (some (.int x))) (hv : x + Int32.ofInt n = v) (hb : okB l i = true) (kk : WS E X cN sN Q g m (pc + 3) (l.set i (some (.int v))) st) : WS E X cN sN Q g m pc l st := by
  intro H locs ls h1 h2 h3
  have hi : i < l.length := (List.getElem?_eq_some_iff.mp hl).1
  obtain ⟨j, hj⟩ := List.getElem?_of_mem ((ql_mem l 0).mpr ⟨i, (Nat.zero_add i).symm, hl⟩ : (i, Value.int x) ∈ ql l 0)
  exact lv_iinc hX.x hX.b d h3 hj hv hi rfl (fun ls' h4 => kk H locs ls' h1 h2 (by rw [List.length_set]; exact ql_set1 hi hb h4))
theorem r_if_eq (hX : MC E y cc nL ret k mc ms tab X) {x : Int32} {off : Int} {tgt : Nat} (d : decode cc pc = .ok (.ifCond .eq off, 3)) (ht : (pc : Int) + off = (tgt : Int)) (kt : x = 0 → WS E X cN sN Q g m tgt l st) (kf : ¬ x = 0 → WS E X cN sN Q g m (pc + 3) l st) : WS E X cN sN Q g m pc l (.int x :: st) :=
  fun H locs ls h1 h2 h3 => lv_if_eq hX.x hX.b d ht (fun c => kt c H locs ls h1 h2 h3) (fun c => kf c H locs ls h1 h2 h3)
theorem r_icmp_eq (hX : MC E y cc nL ret k mc ms tab X) {x y1 : Int32} {off : Int} {tgt : Nat} (d : decode cc pc = .ok (.if_icmp .eq off, 3)) (ht : (pc : Int) + off = (tgt : Int)) (kt : x = y1 → WS E X cN sN Q g m tgt l st) (kf : ¬ x = y1 → WS E X cN sN Q g m (pc + 3) l st) : WS E X cN sN Q g m pc l (.int y1 :: .int x :: st) :=
  fun H locs ls h1 h2 h3 => lv_icmp_eq hX.x hX.b d ht (fun c => kt c H locs ls h1 h2 h3) (fun c => kf c H locs ls h1 h2 h3)
theorem r_if_ne (hX : MC E y cc nL ret k mc ms tab X) {x : Int32} {off : Int} {tgt : Nat} (d : decode cc pc = .ok (.ifCond .ne off, 3)) (ht : (pc : Int) + off = (tgt : Int)) (kt : ¬ x = 0 → WS E X cN sN Q g m tgt l st) (kf : x = 0 → WS E X cN sN Q g m (pc + 3) l st) : WS E X cN sN Q g m pc l (.int x :: st) :=
  fun H locs ls h1 h2 h3 => lv_if_ne hX.x hX.b d ht (fun c => kt c H locs ls h1 h2 h3) (fun c => kf c H locs ls h1 h2 h3)
theorem r_icmp_ne (hX : MC E y cc nL ret k mc ms tab X) {x y1 : Int32} {off : Int} {tgt : Nat} (d : decode cc pc = .ok (.if_icmp .ne off, 3)) (ht : (pc : Int) + off = (tgt : Int)) (kt : ¬ x = y1 → WS E X cN sN Q g m tgt l st) (kf : x = y1 → WS E X cN sN Q g m (pc + 3) l st) : WS E X cN sN Q g m pc l (.int y1 :: .int x :: st) :=
  fun H locs ls h1 h2 h3 => lv_icmp_ne hX.x hX.b d ht (fun c => kt c H locs ls h1 h2 h3) (fun c => kf c H locs ls h1 h2 h3)
theorem r_if_lt (hX : MC E y cc nL ret k mc ms tab X) {x : Int32} {off : Int} {tgt : Nat} (d : decode cc pc = .ok (.ifCond .lt off, 3)) (ht : (pc : Int) + off = (tgt : Int)) (kt : x < 0 → WS E X cN sN Q g m tgt l st) (kf : ¬ x < 0 → WS E X cN sN Q g m (pc + 3) l st) : WS E X cN sN Q g m pc l (.int x :: st) :=
  fun H locs ls h1 h2 h3 => lv_if_lt hX.x hX.b d ht (fun c => kt c H locs ls h1 h2 h3) (fun c => kf c H locs ls h1 h2 h3)
theorem r_icmp_lt (hX : MC E y cc nL ret k mc ms tab X) {x y1 : Int32} {off : Int} {tgt : Nat} (d : decode cc pc = .ok (.if_icmp .lt off, 3)) (ht : (pc : Int) + off = (tgt : Int)) (kt : x < y1 → WS E X cN sN Q g m tgt l st) (kf : ¬ x < y1 → WS E X cN sN Q g m (pc + 3) l st) : WS E X cN sN Q g m pc l (.int y1 :: .int x :: st) :=
  fun H locs ls h1 h2 h3 => lv_icmp_lt hX.x hX.b d ht (fun c => kt c H locs ls h1 h2 h3) (fun c => kf c H locs ls h1 h2 h3)
theorem r_if_ge (hX : MC E y cc nL ret k mc ms tab X) {x : Int32} {off : Int} {tgt : Nat} (d : decode cc pc = .ok (.ifCond .ge off, 3)) (ht : (pc : Int) + off = (tgt : Int)) (kt : 0 ≤ x → WS E X cN sN Q g m tgt l st) (kf : ¬ 0 ≤ x → WS E X cN sN Q g m (pc + 3) l st) : WS E X cN sN Q g m pc l (.int x :: st) :=
  fun H locs ls h1 h2 h3 => lv_if_ge hX.x hX.b d ht (fun c => kt c H locs ls h1 h2 h3) (fun c => kf c H locs ls h1 h2 h3)
theorem r_icmp_ge (hX : MC E y cc nL ret k mc ms tab X) {x y1 : Int32} {off : Int} {tgt : Nat} (d : decode cc pc = .ok (.if_icmp .ge off, 3)) (ht : (pc : Int) + off = (tgt : Int)) (kt : y1 ≤ x → WS E X cN sN Q g m tgt l st) (kf : ¬ y1 ≤ x → WS E X cN sN Q g m (pc + 3) l st) : WS E X cN sN Q g m pc l (.int y1 :: .int x :: st) :=
  fun H locs ls h1 h2 h3 => lv_icmp_ge hX.x hX.b d ht (fun c => kt c H locs ls h1 h2 h3) (fun c => kf c H locs ls h1 h2 h3)
theorem r_if_gt (hX : MC E y cc nL ret k mc ms tab X) {x : Int32} {off : Int} {tgt : Nat} (d : decode cc pc = .ok (.ifCond .gt off, 3)) (ht : (pc : Int) + off = (tgt : Int)) (kt : 0 < x → WS E X cN sN Q g m tgt l st) (kf : ¬ 0 < x → WS E X cN sN Q g m (pc + 3) l st) : WS E X cN sN Q g m pc l (.int x :: st) :=
  fun H locs ls h1 h2 h3 => lv_if_gt hX.x hX.b d ht (fun c => kt c H locs ls h1 h2 h3) (fun c => kf c H locs ls h1 h2 h3)
theorem r_icmp_gt (hX : MC E y cc nL ret k mc ms tab X) {x y1 : Int32} {off : Int} {tgt : Nat} (d : decode cc pc = .ok (.if_icmp .gt off, 3)) (ht : (pc : Int) + off = (tgt : Int)) (kt : y1 < x → WS E X cN sN Q g m tgt l st) (kf : ¬ y1 < x → WS E X cN sN Q g m (pc + 3) l st) : WS E X cN sN Q g m pc l (.int y1 :: .int x :: st) :=
  fun H locs ls h1 h2 h3 => lv_icmp_gt hX.x hX.b d ht (fun c => kt c H locs ls h1 h2 h3) (fun c => kf c H locs ls h1 h2 h3)
theorem r_if_le (hX : MC E y cc nL ret k mc ms tab X) {x : Int32} {off : Int} {tgt : Nat} (d : decode cc pc = .ok (.ifCond .le off, 3)) (ht : (pc : Int) + off = (tgt : Int)) (kt : x ≤ 0 → WS E X cN sN Q g m tgt l st) (kf : ¬ x ≤ 0 → WS E X cN sN Q g m (pc + 3) l st) : WS E X cN sN Q g m pc l (.int x :: st) :=
  fun H locs ls h1 h2 h3 => lv_if_le hX.x hX.b d ht (fun c => kt c H locs ls h1 h2 h3) (fun c => kf c H locs ls h1 h2 h3)
theorem r_icmp_le (hX : MC E y cc nL ret k mc ms tab X) {x y1 : Int32} {off : Int} {tgt : Nat} (d : decode cc pc = .ok (.if_icmp .le off, 3)) (ht : (pc : Int) + off = (tgt : Int)) (kt : x ≤ y1 → WS E X cN sN Q g m tgt l st) (kf : ¬ x ≤ y1 → WS E X cN sN Q g m (pc + 3) l st) : WS E X cN sN Q g m pc l (.int y1 :: .int x :: st) :=
  fun H locs ls h1 h2 h3 => lv_icmp_le hX.x hX.b d ht (fun c => kt c H locs ls h1 h2 h3) (fun c => kf c H locs ls h1 h2 h3)
theorem r_goto (hX : MC E y cc nL ret k mc ms tab X) {off : Int} {tgt : Nat} (d : decode cc pc = .ok (.goto off, 3)) (ht : (pc : Int) + off = (tgt : Int)) (kk : WS E X cN sN Q g m tgt l st) : WS E X cN sN Q g m pc l st :=
  fun H locs ls h1 h2 h3 => lv_goto hX.x hX.b d ht (kk H locs ls h1 h2 h3)
theorem r_ifnull (hX : MC E y cc nL ret k mc ms tab X) {a : Nat} {off : Int} (d : decode cc pc = .ok (.ifnull off, 3)) (kk : WS E X cN sN Q g m (pc + 3) l st) : WS E X cN sN Q g m pc l (.ref a :: st) :=
  fun H locs ls h1 h2 h3 => lv_ifnull hX.x hX.b d (kk H locs ls h1 h2 h3)
theorem r_ifnonnull (hX : MC E y cc nL ret k mc ms tab X) {a : Nat} {off : Int} {tgt : Nat} (d : decode cc pc = .ok (.ifnonnull off, 3)) (ht : (pc : Int) + off = (tgt : Int)) (kk : WS E X cN sN Q g m tgt l st) : WS E X cN sN Q g m pc l (.ref a :: st) :=
  fun H locs ls h1 h2 h3 => lv_ifnonnull hX.x hX.b d ht (kk H locs ls h1 h2 h3)
theorem r_ifnullN (hX : MC E y cc nL ret k mc ms tab X) {off : Int} {tgt : Nat} (d : decode cc pc = .ok (.ifnull off, 3)) (ht : (pc : Int) + off = (tgt : Int)) (kk : WS E X cN sN Q g m tgt l st) : WS E X cN sN Q g m pc l (.null :: st) :=
  fun H locs ls h1 h2 h3 => lv_ifnullN hX.x hX.b d ht (kk H locs ls h1 h2 h3)
theorem r_ifnonnullN (hX : MC E y cc nL ret k mc ms tab X) {off : Int} (d : decode cc pc = .ok (.ifnonnull off, 3)) (kk : WS E X cN sN Q g m (pc + 3) l st) : WS E X cN sN Q g m pc l (.null :: st) :=
  fun H locs ls h1 h2 h3 => lv_ifnonnullN hX.x hX.b d (kk H locs ls h1 h2 h3)
theorem r_tableIn (hX : MC E y cc nL ret k mc ms tab X) {dflt lo hi : Int} {offs : Array Int} {len : Nat} {x : Int32} {off : Int} {tgt : Nat} (d : decode cc pc = .ok (.tableswitch dflt lo hi offs, len)) (a1 : ¬ x.toInt < lo) (a2 : ¬ hi < x.toInt) (ho : offs[(x.toInt - lo).toNat]? = some off) (ht : (pc : Int) + off = (tgt : Int)) (kk : WS E X cN sN Q g m tgt l st) : WS E X cN sN Q g m pc l (.int x :: st) :=
  fun H locs ls h1 h2 h3 => lv_tableIn hX.x hX.b d a1 a2 ho ht (kk H locs ls h1 h2 h3)
theorem r_tableOut (hX : MC E y cc nL ret k mc ms tab X) {dflt lo hi : Int} {offs : Array Int} {len : Nat} {x : Int32} {tgt : Nat} (d : decode cc pc = .ok (.tableswitch dflt lo hi offs, len)) (a1 : x.toInt < lo ∨ hi < x.toInt) (ht : (pc : Int) + dflt = (tgt : Int)) (kk : WS E X cN sN Q g m tgt l st) : WS E X cN sN Q g m pc l (.int x :: st) :=
  fun H locs ls h1 h2 h3 => lv_tableOut hX.x hX.b d a1 ht (kk H locs ls h1 h2 h3)
theorem r_lookup (hX : MC E y cc nL ret k mc ms tab X) {dflt : Int} {ps : Array (Int × Int)} {len : Nat} {x : Int32} {off : Int} {tgt : Nat} (d : decode cc pc = .ok (.lookupswitch dflt ps, len)) (hp : (ps.toList.zip (ps.toList.drop 1)).all (fun (a, next) => a.1 < next.1) = true) (ho : Op.lookupswitch.offset ps.toList dflt x.toInt = off) (ht : (pc : Int) + off = (tgt : Int)) (kk : WS E X cN sN Q g m tgt l st) : WS E X cN sN Q g m pc l (.int x :: st) :=
  fun H locs ls h1 h2 h3 => lv_lookup hX.x hX.b d hp ho ht (kk H locs ls h1 h2 h3)
end WR
