/-! the rows of the walk's own judgement V: one an instruction -/
section VROWS
variable {G : Cx} {Y : MI} {Z : ZT} {d ck sk pc : Nat} {L : List (Option Value)} {st : List Value} {M : List ME}
theorem v_iconst {n : Int} {v : Int32} (hd : decode Y.2.1 pc = .ok (.iconst n, 1)) (hv : Int32.ofInt n = v) (k : V G Y Z d ck sk (pc + 1) L (.int v :: st) M) : V G Y Z d ck sk pc L (st) M :=
  fun p e R s m args below meth c H locs cells slots ls C hl => lv_iconst C.1.1 C.1.2.1 hd hv (k p e R s m args below meth c H locs cells slots ls C hl)
theorem v_bipush {n : Int} {v : Int32} (hd : decode Y.2.1 pc = .ok (.bipush n, 2)) (hv : (Int8.ofInt n).toInt32 = v) (k : V G Y Z d ck sk (pc + 2) L (.int v :: st) M) : V G Y Z d ck sk pc L (st) M :=
  fun p e R s m args below meth c H locs cells slots ls C hl => lv_bipush C.1.1 C.1.2.1 hd hv (k p e R s m args below meth c H locs cells slots ls C hl)
theorem v_sipush {n : Int} {v : Int32} (hd : decode Y.2.1 pc = .ok (.sipush n, 3)) (hv : (Int16.ofInt n).toInt32 = v) (k : V G Y Z d ck sk (pc + 3) L (.int v :: st) M) : V G Y Z d ck sk pc L (st) M :=
  fun p e R s m args below meth c H locs cells slots ls C hl => lv_sipush C.1.1 C.1.2.1 hd hv (k p e R s m args below meth c H locs cells slots ls C hl)
theorem v_lconst {n : Fin 2} {v : Int64} (hd : decode Y.2.1 pc = .ok (.lconst n, 1)) (hv : Int64.ofNat (n : Nat) = v) (k : V G Y Z d ck sk (pc + 1) L (.long v :: st) M) : V G Y Z d ck sk pc L (st) M :=
  fun p e R s m args below meth c H locs cells slots ls C hl => lv_lconst C.1.1 C.1.2.1 hd hv (k p e R s m args below meth c H locs cells slots ls C hl)
theorem v_dconst0 (hd : decode Y.2.1 pc = .ok (.dconst 0, 1)) (k : V G Y Z d ck sk (pc + 1) L (.double FP.dconst0 :: st) M) : V G Y Z d ck sk pc L (st) M :=
  fun p e R s m args below meth c H locs cells slots ls C hl => lv_dconst0 C.1.1 C.1.2.1 hd (k p e R s m args below meth c H locs cells slots ls C hl)
theorem v_null (hd : decode Y.2.1 pc = .ok (.aconst_null, 1)) (k : V G Y Z d ck sk (pc + 1) L (.null :: st) M) : V G Y Z d ck sk pc L (st) M :=
  fun p e R s m args below meth c H locs cells slots ls C hl => lv_null C.1.1 C.1.2.1 hd (k p e R s m args below meth c H locs cells slots ls C hl)
theorem v_iload_n {j : Fin 4} {i : Nat} {x : Int32} (hd : decode Y.2.1 pc = .ok (.iload_n j, 1)) (hi : (j : Nat) = i) (hL : L[i]? = some (some (.int x))) (k : V G Y Z d ck sk (pc + 1) L (.int x :: st) M) : V G Y Z d ck sk pc L (st) M :=
  fun p e R s m args below meth c H locs cells slots ls C hl => lv_iload_n C.1.1 C.1.2.1 hd hi (hl.get hL) (k p e R s m args below meth c H locs cells slots ls C hl)
theorem v_iload {i : Nat} {x : Int32} (hd : decode Y.2.1 pc = .ok (.iload i, 2)) (hL : L[i]? = some (some (.int x))) (k : V G Y Z d ck sk (pc + 2) L (.int x :: st) M) : V G Y Z d ck sk pc L (st) M :=
  fun p e R s m args below meth c H locs cells slots ls C hl => lv_iload C.1.1 C.1.2.1 hd (hl.get hL) (k p e R s m args below meth c H locs cells slots ls C hl)
theorem v_lload_n {j : Fin 4} {i : Nat} {x : Int64} (hd : decode Y.2.1 pc = .ok (.lload_n j, 1)) (hi : (j : Nat) = i) (hL : L[i]? = some (some (.long x))) (k : V G Y Z d ck sk (pc + 1) L (.long x :: st) M) : V G Y Z d ck sk pc L (st) M :=
  fun p e R s m args below meth c H locs cells slots ls C hl => lv_lload_n C.1.1 C.1.2.1 hd hi (hl.get hL) (k p e R s m args below meth c H locs cells slots ls C hl)
theorem v_lload {i : Nat} {x : Int64} (hd : decode Y.2.1 pc = .ok (.lload i, 2)) (hL : L[i]? = some (some (.long x))) (k : V G Y Z d ck sk (pc + 2) L (.long x :: st) M) : V G Y Z d ck sk pc L (st) M :=
  fun p e R s m args below meth c H locs cells slots ls C hl => lv_lload C.1.1 C.1.2.1 hd (hl.get hL) (k p e R s m args below meth c H locs cells slots ls C hl)
theorem v_dload_n {j : Fin 4} {i : Nat} {x : UInt64} (hd : decode Y.2.1 pc = .ok (.dload_n j, 1)) (hi : (j : Nat) = i) (hL : L[i]? = some (some (.double x))) (k : V G Y Z d ck sk (pc + 1) L (.double x :: st) M) : V G Y Z d ck sk pc L (st) M :=
  fun p e R s m args below meth c H locs cells slots ls C hl => lv_dload_n C.1.1 C.1.2.1 hd hi (hl.get hL) (k p e R s m args below meth c H locs cells slots ls C hl)
theorem v_dload {i : Nat} {x : UInt64} (hd : decode Y.2.1 pc = .ok (.dload i, 2)) (hL : L[i]? = some (some (.double x))) (k : V G Y Z d ck sk (pc + 2) L (.double x :: st) M) : V G Y Z d ck sk pc L (st) M :=
  fun p e R s m args below meth c H locs cells slots ls C hl => lv_dload C.1.1 C.1.2.1 hd (hl.get hL) (k p e R s m args below meth c H locs cells slots ls C hl)
theorem v_aload_nR {j : Fin 4} {i : Nat} {x : Nat} (hd : decode Y.2.1 pc = .ok (.aload_n j, 1)) (hi : (j : Nat) = i) (hL : L[i]? = some (some (.ref x))) (k : V G Y Z d ck sk (pc + 1) L (.ref x :: st) M) : V G Y Z d ck sk pc L (st) M :=
  fun p e R s m args below meth c H locs cells slots ls C hl => lv_aload_n C.1.1 C.1.2.1 hd hi (hl.get hL) (k p e R s m args below meth c H locs cells slots ls C hl)
theorem v_aloadR {i : Nat} {x : Nat} (hd : decode Y.2.1 pc = .ok (.aload i, 2)) (hL : L[i]? = some (some (.ref x))) (k : V G Y Z d ck sk (pc + 2) L (.ref x :: st) M) : V G Y Z d ck sk pc L (st) M :=
  fun p e R s m args below meth c H locs cells slots ls C hl => lv_aload C.1.1 C.1.2.1 hd (hl.get hL) (k p e R s m args below meth c H locs cells slots ls C hl)
theorem v_aload_nN {j : Fin 4} {i : Nat} (hd : decode Y.2.1 pc = .ok (.aload_n j, 1)) (hi : (j : Nat) = i) (hL : L[i]? = some (some .null)) (k : V G Y Z d ck sk (pc + 1) L (.null :: st) M) : V G Y Z d ck sk pc L (st) M :=
  fun p e R s m args below meth c H locs cells slots ls C hl => lv_aload_nN C.1.1 C.1.2.1 hd hi (hl.get hL) (k p e R s m args below meth c H locs cells slots ls C hl)
theorem v_aloadN {i : Nat} (hd : decode Y.2.1 pc = .ok (.aload i, 2)) (hL : L[i]? = some (some .null)) (k : V G Y Z d ck sk (pc + 2) L (.null :: st) M) : V G Y Z d ck sk pc L (st) M :=
  fun p e R s m args below meth c H locs cells slots ls C hl => lv_aloadN C.1.1 C.1.2.1 hd (hl.get hL) (k p e R s m args below meth c H locs cells slots ls C hl)
theorem v_iadd {x y : Int32} (hd : decode Y.2.1 pc = .ok (.iadd, 1)) (k : V G Y Z d ck sk (pc + 1) L (.int (x + y) :: st) M) : V G Y Z d ck sk pc L (.int y :: .int x :: st) M :=
  fun p e R s m args below meth c H locs cells slots ls C hl => lv_iadd C.1.1 C.1.2.1 hd (k p e R s m args below meth c H locs cells slots ls C hl)
theorem v_isub {x y : Int32} (hd : decode Y.2.1 pc = .ok (.isub, 1)) (k : V G Y Z d ck sk (pc + 1) L (.int (x - y) :: st) M) : V G Y Z d ck sk pc L (.int y :: .int x :: st) M :=
  fun p e R s m args below meth c H locs cells slots ls C hl => lv_isub C.1.1 C.1.2.1 hd (k p e R s m args below meth c H locs cells slots ls C hl)
theorem v_imul {x y : Int32} (hd : decode Y.2.1 pc = .ok (.imul, 1)) (k : V G Y Z d ck sk (pc + 1) L (.int (x * y) :: st) M) : V G Y Z d ck sk pc L (.int y :: .int x :: st) M :=
  fun p e R s m args below meth c H locs cells slots ls C hl => lv_imul C.1.1 C.1.2.1 hd (k p e R s m args below meth c H locs cells slots ls C hl)
theorem v_iand {x y : Int32} (hd : decode Y.2.1 pc = .ok (.iand, 1)) (k : V G Y Z d ck sk (pc + 1) L (.int (x &&& y) :: st) M) : V G Y Z d ck sk pc L (.int y :: .int x :: st) M :=
  fun p e R s m args below meth c H locs cells slots ls C hl => lv_iand C.1.1 C.1.2.1 hd (k p e R s m args below meth c H locs cells slots ls C hl)
theorem v_ixor {x y : Int32} (hd : decode Y.2.1 pc = .ok (.ixor, 1)) (k : V G Y Z d ck sk (pc + 1) L (.int (x ^^^ y) :: st) M) : V G Y Z d ck sk pc L (.int y :: .int x :: st) M :=
  fun p e R s m args below meth c H locs cells slots ls C hl => lv_ixor C.1.1 C.1.2.1 hd (k p e R s m args below meth c H locs cells slots ls C hl)
theorem v_idiv {x y : Int32} (hd : decode Y.2.1 pc = .ok (.idiv, 1)) (h0 : ¬ y = 0) (k : V G Y Z d ck sk (pc + 1) L (.int (x / y) :: st) M) : V G Y Z d ck sk pc L (.int y :: .int x :: st) M :=
  fun p e R s m args below meth c H locs cells slots ls C hl => lv_idiv C.1.1 C.1.2.1 hd h0 (k p e R s m args below meth c H locs cells slots ls C hl)
theorem v_irem {x y : Int32} (hd : decode Y.2.1 pc = .ok (.irem, 1)) (h0 : ¬ y = 0) (k : V G Y Z d ck sk (pc + 1) L (.int (x - x / y * y) :: st) M) : V G Y Z d ck sk pc L (.int y :: .int x :: st) M :=
  fun p e R s m args below meth c H locs cells slots ls C hl => lv_irem C.1.1 C.1.2.1 hd h0 (k p e R s m args below meth c H locs cells slots ls C hl)
theorem v_ineg {x : Int32} (hd : decode Y.2.1 pc = .ok (.ineg, 1)) (k : V G Y Z d ck sk (pc + 1) L (.int (-x) :: st) M) : V G Y Z d ck sk pc L (.int x :: st) M :=
  fun p e R s m args below meth c H locs cells slots ls C hl => lv_ineg C.1.1 C.1.2.1 hd (k p e R s m args below meth c H locs cells slots ls C hl)
theorem v_ladd {x y : Int64} (hd : decode Y.2.1 pc = .ok (.ladd, 1)) (k : V G Y Z d ck sk (pc + 1) L (.long (x + y) :: st) M) : V G Y Z d ck sk pc L (.long y :: .long x :: st) M :=
  fun p e R s m args below meth c H locs cells slots ls C hl => lv_ladd C.1.1 C.1.2.1 hd (k p e R s m args below meth c H locs cells slots ls C hl)
theorem v_lmul {x y : Int64} (hd : decode Y.2.1 pc = .ok (.lmul, 1)) (k : V G Y Z d ck sk (pc + 1) L (.long (x * y) :: st) M) : V G Y Z d ck sk pc L (.long y :: .long x :: st) M :=
  fun p e R s m args below meth c H locs cells slots ls C hl => lv_lmul C.1.1 C.1.2.1 hd (k p e R s m args below meth c H locs cells slots ls C hl)
theorem v_lcmp {x y : Int64} (hd : decode Y.2.1 pc = .ok (.lcmp, 1)) (k : V G Y Z d ck sk (pc + 1) L (.int (lg_cmp x y) :: st) M) : V G Y Z d ck sk pc L (.long y :: .long x :: st) M :=
  fun p e R s m args below meth c H locs cells slots ls C hl => W.lcmp C.1.1 C.1.2.1 hd (k p e R s m args below meth c H locs cells slots ls C hl)
theorem v_i2l {x : Int32} (hd : decode Y.2.1 pc = .ok (.i2l, 1)) (k : V G Y Z d ck sk (pc + 1) L (.long x.toInt64 :: st) M) : V G Y Z d ck sk pc L (.int x :: st) M :=
  fun p e R s m args below meth c H locs cells slots ls C hl => lv_i2l C.1.1 C.1.2.1 hd rfl (k p e R s m args below meth c H locs cells slots ls C hl)
theorem v_i2d {x : Int32} (hd : decode Y.2.1 pc = .ok (.i2d, 1)) (k : V G Y Z d ck sk (pc + 1) L (.double (FP.i2d x) :: st) M) : V G Y Z d ck sk pc L (.int x :: st) M :=
  fun p e R s m args below meth c H locs cells slots ls C hl => lv_i2d C.1.1 C.1.2.1 hd (k p e R s m args below meth c H locs cells slots ls C hl)
theorem v_ddiv {x y : UInt64} (hd : decode Y.2.1 pc = .ok (.ddiv, 1)) (h0 : vf_n64 (FP.ddiv x y)) (k : V G Y Z d ck sk (pc + 1) L (.double (FP.ddiv x y) :: st) M) : V G Y Z d ck sk pc L (.double y :: .double x :: st) M :=
  fun p e R s m args below meth c H locs cells slots ls C hl => lv_ddiv C.1.1 C.1.2.1 hd h0 (k p e R s m args below meth c H locs cells slots ls C hl)
theorem v_dcmp {x y : UInt64} {op : CmpOp} (hd : decode Y.2.1 pc = .ok (.dcmp op, 1)) (k : V G Y Z d ck sk (pc + 1) L (.int (Op.cmpValue (FP.dcmp x y) op) :: st) M) : V G Y Z d ck sk pc L (.double y :: .double x :: st) M :=
  fun p e R s m args below meth c H locs cells slots ls C hl => lv_dcmp C.1.1 C.1.2.1 hd (k p e R s m args below meth c H locs cells slots ls C hl)
theorem v_dup {v : Value} (hd : decode Y.2.1 pc = .ok (.dup, 1)) (hv : v.category = 1) (k : V G Y Z d ck sk (pc + 1) L (v :: v :: st) M) : V G Y Z d ck sk pc L (v :: st) M :=
  fun p e R s m args below meth c H locs cells slots ls C hl => lv_dup C.1.1 C.1.2.1 hd hv (k p e R s m args below meth c H locs cells slots ls C hl)
theorem v_pop {v : Value} (hd : decode Y.2.1 pc = .ok (.pop, 1)) (hv : v.category = 1) (k : V G Y Z d ck sk (pc + 1) L (st) M) : V G Y Z d ck sk pc L (v :: st) M :=
  fun p e R s m args below meth c H locs cells slots ls C hl => lv_pop C.1.1 C.1.2.1 hd hv (k p e R s m args below meth c H locs cells slots ls C hl)
theorem v_dup2 {v w : Value} (hd : decode Y.2.1 pc = .ok (.dup2, 1)) (hv : v.category = 1) (hw : w.category = 1) (k : V G Y Z d ck sk (pc + 1) L (v :: w :: v :: w :: st) M) : V G Y Z d ck sk pc L (v :: w :: st) M :=
  fun p e R s m args below meth c H locs cells slots ls C hl => lv_dup2_11 C.1.1 C.1.2.1 hd hv hw (k p e R s m args below meth c H locs cells slots ls C hl)
theorem v_if_eq {x : Int32} {off : Int} {tgt : Nat} (hd : decode Y.2.1 pc = .ok (.ifCond .eq off, 3)) (ht : (pc : Int) + off = (tgt : Int)) (kt : x = 0 → V G Y Z d ck sk tgt L st M) (kf : ¬ x = 0 → V G Y Z d ck sk (pc + 3) L st M) : V G Y Z d ck sk pc L (.int x :: st) M :=
  fun p e R s m args below meth c H locs cells slots ls C hl => lv_if_eq C.1.1 C.1.2.1 hd ht (fun h => kt h p e R s m args below meth c H locs cells slots ls C hl) (fun h => kf h p e R s m args below meth c H locs cells slots ls C hl)
theorem v_icmp_eq {x y : Int32} {off : Int} {tgt : Nat} (hd : decode Y.2.1 pc = .ok (.if_icmp .eq off, 3)) (ht : (pc : Int) + off = (tgt : Int)) (kt : x = y → V G Y Z d ck sk tgt L st M) (kf : ¬ x = y → V G Y Z d ck sk (pc + 3) L st M) : V G Y Z d ck sk pc L (.int y :: .int x :: st) M :=
  fun p e R s m args below meth c H locs cells slots ls C hl => lv_icmp_eq C.1.1 C.1.2.1 hd ht (fun h => kt h p e R s m args below meth c H locs cells slots ls C hl) (fun h => kf h p e R s m args below meth c H locs cells slots ls C hl)
theorem v_if_ne {x : Int32} {off : Int} {tgt : Nat} (hd : decode Y.2.1 pc = .ok (.ifCond .ne off, 3)) (ht : (pc : Int) + off = (tgt : Int)) (kt : ¬ x = 0 → V G Y Z d ck sk tgt L st M) (kf : x = 0 → V G Y Z d ck sk (pc + 3) L st M) : V G Y Z d ck sk pc L (.int x :: st) M :=
  fun p e R s m args below meth c H locs cells slots ls C hl => lv_if_ne C.1.1 C.1.2.1 hd ht (fun h => kt h p e R s m args below meth c H locs cells slots ls C hl) (fun h => kf h p e R s m args below meth c H locs cells slots ls C hl)
theorem v_icmp_ne {x y : Int32} {off : Int} {tgt : Nat} (hd : decode Y.2.1 pc = .ok (.if_icmp .ne off, 3)) (ht : (pc : Int) + off = (tgt : Int)) (kt : ¬ x = y → V G Y Z d ck sk tgt L st M) (kf : x = y → V G Y Z d ck sk (pc + 3) L st M) : V G Y Z d ck sk pc L (.int y :: .int x :: st) M :=
  fun p e R s m args below meth c H locs cells slots ls C hl => lv_icmp_ne C.1.1 C.1.2.1 hd ht (fun h => kt h p e R s m args below meth c H locs cells slots ls C hl) (fun h => kf h p e R s m args below meth c H locs cells slots ls C hl)
theorem v_if_lt {x : Int32} {off : Int} {tgt : Nat} (hd : decode Y.2.1 pc = .ok (.ifCond .lt off, 3)) (ht : (pc : Int) + off = (tgt : Int)) (kt : x < 0 → V G Y Z d ck sk tgt L st M) (kf : ¬ x < 0 → V G Y Z d ck sk (pc + 3) L st M) : V G Y Z d ck sk pc L (.int x :: st) M :=
  fun p e R s m args below meth c H locs cells slots ls C hl => lv_if_lt C.1.1 C.1.2.1 hd ht (fun h => kt h p e R s m args below meth c H locs cells slots ls C hl) (fun h => kf h p e R s m args below meth c H locs cells slots ls C hl)
theorem v_icmp_lt {x y : Int32} {off : Int} {tgt : Nat} (hd : decode Y.2.1 pc = .ok (.if_icmp .lt off, 3)) (ht : (pc : Int) + off = (tgt : Int)) (kt : x < y → V G Y Z d ck sk tgt L st M) (kf : ¬ x < y → V G Y Z d ck sk (pc + 3) L st M) : V G Y Z d ck sk pc L (.int y :: .int x :: st) M :=
  fun p e R s m args below meth c H locs cells slots ls C hl => lv_icmp_lt C.1.1 C.1.2.1 hd ht (fun h => kt h p e R s m args below meth c H locs cells slots ls C hl) (fun h => kf h p e R s m args below meth c H locs cells slots ls C hl)
theorem v_if_ge {x : Int32} {off : Int} {tgt : Nat} (hd : decode Y.2.1 pc = .ok (.ifCond .ge off, 3)) (ht : (pc : Int) + off = (tgt : Int)) (kt : 0 ≤ x → V G Y Z d ck sk tgt L st M) (kf : ¬ 0 ≤ x → V G Y Z d ck sk (pc + 3) L st M) : V G Y Z d ck sk pc L (.int x :: st) M :=
  fun p e R s m args below meth c H locs cells slots ls C hl => lv_if_ge C.1.1 C.1.2.1 hd ht (fun h => kt h p e R s m args below meth c H locs cells slots ls C hl) (fun h => kf h p e R s m args below meth c H locs cells slots ls C hl)
theorem v_icmp_ge {x y : Int32} {off : Int} {tgt : Nat} (hd : decode Y.2.1 pc = .ok (.if_icmp .ge off, 3)) (ht : (pc : Int) + off = (tgt : Int)) (kt : y ≤ x → V G Y Z d ck sk tgt L st M) (kf : ¬ y ≤ x → V G Y Z d ck sk (pc + 3) L st M) : V G Y Z d ck sk pc L (.int y :: .int x :: st) M :=
  fun p e R s m args below meth c H locs cells slots ls C hl => lv_icmp_ge C.1.1 C.1.2.1 hd ht (fun h => kt h p e R s m args below meth c H locs cells slots ls C hl) (fun h => kf h p e R s m args below meth c H locs cells slots ls C hl)
theorem v_if_gt {x : Int32} {off : Int} {tgt : Nat} (hd : decode Y.2.1 pc = .ok (.ifCond .gt off, 3)) (ht : (pc : Int) + off = (tgt : Int)) (kt : 0 < x → V G Y Z d ck sk tgt L st M) (kf : ¬ 0 < x → V G Y Z d ck sk (pc + 3) L st M) : V G Y Z d ck sk pc L (.int x :: st) M :=
  fun p e R s m args below meth c H locs cells slots ls C hl => lv_if_gt C.1.1 C.1.2.1 hd ht (fun h => kt h p e R s m args below meth c H locs cells slots ls C hl) (fun h => kf h p e R s m args below meth c H locs cells slots ls C hl)
theorem v_icmp_gt {x y : Int32} {off : Int} {tgt : Nat} (hd : decode Y.2.1 pc = .ok (.if_icmp .gt off, 3)) (ht : (pc : Int) + off = (tgt : Int)) (kt : y < x → V G Y Z d ck sk tgt L st M) (kf : ¬ y < x → V G Y Z d ck sk (pc + 3) L st M) : V G Y Z d ck sk pc L (.int y :: .int x :: st) M :=
  fun p e R s m args below meth c H locs cells slots ls C hl => lv_icmp_gt C.1.1 C.1.2.1 hd ht (fun h => kt h p e R s m args below meth c H locs cells slots ls C hl) (fun h => kf h p e R s m args below meth c H locs cells slots ls C hl)
theorem v_if_le {x : Int32} {off : Int} {tgt : Nat} (hd : decode Y.2.1 pc = .ok (.ifCond .le off, 3)) (ht : (pc : Int) + off = (tgt : Int)) (kt : x ≤ 0 → V G Y Z d ck sk tgt L st M) (kf : ¬ x ≤ 0 → V G Y Z d ck sk (pc + 3) L st M) : V G Y Z d ck sk pc L (.int x :: st) M :=
  fun p e R s m args below meth c H locs cells slots ls C hl => lv_if_le C.1.1 C.1.2.1 hd ht (fun h => kt h p e R s m args below meth c H locs cells slots ls C hl) (fun h => kf h p e R s m args below meth c H locs cells slots ls C hl)
theorem v_icmp_le {x y : Int32} {off : Int} {tgt : Nat} (hd : decode Y.2.1 pc = .ok (.if_icmp .le off, 3)) (ht : (pc : Int) + off = (tgt : Int)) (kt : x ≤ y → V G Y Z d ck sk tgt L st M) (kf : ¬ x ≤ y → V G Y Z d ck sk (pc + 3) L st M) : V G Y Z d ck sk pc L (.int y :: .int x :: st) M :=
  fun p e R s m args below meth c H locs cells slots ls C hl => lv_icmp_le C.1.1 C.1.2.1 hd ht (fun h => kt h p e R s m args below meth c H locs cells slots ls C hl) (fun h => kf h p e R s m args below meth c H locs cells slots ls C hl)
theorem v_goto {off : Int} {tgt : Nat} (hd : decode Y.2.1 pc = .ok (.goto off, 3)) (ht : (pc : Int) + off = (tgt : Int)) (k : V G Y Z d ck sk tgt L (st) M) : V G Y Z d ck sk pc L (st) M :=
  fun p e R s m args below meth c H locs cells slots ls C hl => lv_goto C.1.1 C.1.2.1 hd ht (k p e R s m args below meth c H locs cells slots ls C hl)
theorem v_ifnullR {off : Int} {x : Nat} (hd : decode Y.2.1 pc = .ok (.ifnull off, 3)) (k : V G Y Z d ck sk (pc + 3) L (st) M) : V G Y Z d ck sk pc L (.ref x :: st) M :=
  fun p e R s m args below meth c H locs cells slots ls C hl => lv_ifnull C.1.1 C.1.2.1 hd (k p e R s m args below meth c H locs cells slots ls C hl)
theorem v_ifnullN {off : Int} {tgt : Nat} (hd : decode Y.2.1 pc = .ok (.ifnull off, 3)) (ht : (pc : Int) + off = (tgt : Int)) (k : V G Y Z d ck sk tgt L (st) M) : V G Y Z d ck sk pc L (.null :: st) M :=
  fun p e R s m args below meth c H locs cells slots ls C hl => lv_ifnullN C.1.1 C.1.2.1 hd ht (k p e R s m args below meth c H locs cells slots ls C hl)
theorem v_ifnonnullR {off : Int} {tgt : Nat} {x : Nat} (hd : decode Y.2.1 pc = .ok (.ifnonnull off, 3)) (ht : (pc : Int) + off = (tgt : Int)) (k : V G Y Z d ck sk tgt L (st) M) : V G Y Z d ck sk pc L (.ref x :: st) M :=
  fun p e R s m args below meth c H locs cells slots ls C hl => lv_ifnonnull C.1.1 C.1.2.1 hd ht (k p e R s m args below meth c H locs cells slots ls C hl)
theorem v_ifnonnullN {off : Int} (hd : decode Y.2.1 pc = .ok (.ifnonnull off, 3)) (k : V G Y Z d ck sk (pc + 3) L (st) M) : V G Y Z d ck sk pc L (.null :: st) M :=
  fun p e R s m args below meth c H locs cells slots ls C hl => lv_ifnonnullN C.1.1 C.1.2.1 hd (k p e R s m args below meth c H locs cells slots ls C hl)
theorem v_tsIn {dflt lo hi : Int} {offs : Array Int} {len : Nat} {x : Int32} {off : Int} {tgt : Nat} (hd : decode Y.2.1 pc = .ok (.tableswitch dflt lo hi offs, len)) (h1 : ¬ x.toInt < lo) (h2 : ¬ hi < x.toInt) (ho : offs[(x.toInt - lo).toNat]? = some off) (ht : (pc : Int) + off = (tgt : Int)) (k : V G Y Z d ck sk tgt L (st) M) : V G Y Z d ck sk pc L (.int x :: st) M :=
  fun p e R s m args below meth c H locs cells slots ls C hl => lv_tableIn C.1.1 C.1.2.1 hd h1 h2 ho ht (k p e R s m args below meth c H locs cells slots ls C hl)
theorem v_tsOut {dflt lo hi : Int} {offs : Array Int} {len : Nat} {x : Int32} {tgt : Nat} (hd : decode Y.2.1 pc = .ok (.tableswitch dflt lo hi offs, len)) (h1 : x.toInt < lo ∨ hi < x.toInt) (ht : (pc : Int) + dflt = (tgt : Int)) (k : V G Y Z d ck sk tgt L (st) M) : V G Y Z d ck sk pc L (.int x :: st) M :=
  fun p e R s m args below meth c H locs cells slots ls C hl => lv_tableOut C.1.1 C.1.2.1 hd h1 ht (k p e R s m args below meth c H locs cells slots ls C hl)
/-- the local ahead is no long or double -/
def okP (L : List (Option Value)) (i : Nat) : Bool := match i with
  | 0 => true
  | j + 1 => match L[j]? with
    | some (some v) => !(v.category == 2)
    | _ => true
theorem okP_cat {L : List (Option Value)} {i j : Nat} {v : Value} (h : okP L i = true) (hj : L[j]? = some (some v)) (e : j + 1 = i) : (v.category == 2) = false := by
  subst e
  unfold okP at h
  simp only at h
  rw [hj] at h
  simpa using h
theorem lvl_set1 {ls : Array Slot} {n : Nat} {L : List (Option Value)} {as : List (Nat × Value)} {i : Nat} {v : Value} (h2 : ∀ (j : Nat) (w : Value), L[j]? = some (some w) → (j, w) ∈ as) (ho : okP L i = true) (h1 : lv_has ls n ((i, v) :: as.filter (fun q => !(q.1 == i) && !(q.1 + 1 == i && q.2.category == 2)))) : lvl ls n (L.set i (some v)) := by
  refine ⟨_, h1, fun j w hj => ?_⟩
  rw [List.getElem?_set] at hj
  split at hj
  · rename_i hij
    split at hj
    · cases hj
      rw [← hij]
      exact List.mem_cons_self
    · cases hj
  · rename_i hij
    refine List.mem_cons_of_mem _ (List.mem_filter.mpr ⟨h2 j w hj, ?_⟩)
    have h3 : (j == i) = false := by simpa using fun e : j = i => hij e.symm
    by_cases e : j + 1 = i
    · simp [h3, okP_cat ho hj e]
    · simp [h3, e]
theorem lvl_set2 {ls : Array Slot} {n : Nat} {L : List (Option Value)} {as : List (Nat × Value)} {i : Nat} {v : Value} (h2 : ∀ (j : Nat) (w : Value), L[j]? = some (some w) → (j, w) ∈ as) (ho : okP L i = true) (h1 : lv_has ls n ((i, v) :: as.filter (fun q => !(q.1 == i) && (!(q.1 == i + 1) && !(q.1 + 1 == i && q.2.category == 2))))) : lvl ls n ((L.set i (some v)).set (i + 1) none) := by
  refine ⟨_, h1, fun j w hj => ?_⟩
  rw [List.getElem?_set] at hj
  split at hj
  · split at hj <;> cases hj
  · rename_i hij2
    rw [List.getElem?_set] at hj
    split at hj
    · rename_i hij
      split at hj
      · cases hj
        rw [← hij]
        exact List.mem_cons_self
      · cases hj
    · rename_i hij
      refine List.mem_cons_of_mem _ (List.mem_filter.mpr ⟨h2 j w hj, ?_⟩)
      have h3 : (j == i) = false := by simpa using fun e : j = i => hij e.symm
      have h4 : (j == i + 1) = false := by simpa using fun e : j = i + 1 => hij2 e.symm
      by_cases e : j + 1 = i
      · simp [h3, h4, okP_cat ho hj e]
      · simp [h3, h4, e]
theorem v_istore_n {j : Fin 4} {i : Nat} {x : Int32} (hd : decode Y.2.1 pc = .ok (.istore_n j, 1)) (hi : (j : Nat) = i) (hn : i < Y.2.2.1) (ho : okP L i = true) (k : V G Y Z d ck sk (pc + 1) (L.set i (some (.int x))) st M) : V G Y Z d ck sk pc L (.int x :: st) M :=
  fun p e R s m args below meth c H locs cells slots ls C hl => by
    obtain ⟨as, h1, h2⟩ := hl
    exact lv_istore_n C.1.1 C.1.2.1 hd hi h1 hn rfl (fun ls2 h3 => k p e R s m args below meth c H locs cells slots ls2 C (lvl_set1 h2 ho h3))
theorem v_astore_nR {j : Fin 4} {i : Nat} {x : Nat} (hd : decode Y.2.1 pc = .ok (.astore_n j, 1)) (hi : (j : Nat) = i) (hn : i < Y.2.2.1) (ho : okP L i = true) (k : V G Y Z d ck sk (pc + 1) (L.set i (some (.ref x))) st M) : V G Y Z d ck sk pc L (.ref x :: st) M :=
  fun p e R s m args below meth c H locs cells slots ls C hl => by
    obtain ⟨as, h1, h2⟩ := hl
    exact lv_astore_n C.1.1 C.1.2.1 hd hi h1 hn rfl (fun ls2 h3 => k p e R s m args below meth c H locs cells slots ls2 C (lvl_set1 h2 ho h3))
theorem v_astore_nN {j : Fin 4} {i : Nat} (hd : decode Y.2.1 pc = .ok (.astore_n j, 1)) (hi : (j : Nat) = i) (hn : i < Y.2.2.1) (ho : okP L i = true) (k : V G Y Z d ck sk (pc + 1) (L.set i (some (.null))) st M) : V G Y Z d ck sk pc L (.null :: st) M :=
  fun p e R s m args below meth c H locs cells slots ls C hl => by
    obtain ⟨as, h1, h2⟩ := hl
    exact lv_astore_nN C.1.1 C.1.2.1 hd hi h1 hn rfl (fun ls2 h3 => k p e R s m args below meth c H locs cells slots ls2 C (lvl_set1 h2 ho h3))
theorem v_lstore_n {j : Fin 4} {i : Nat} {x : Int64} (hd : decode Y.2.1 pc = .ok (.lstore_n j, 1)) (hi : (j : Nat) = i) (hn : i + 1 < Y.2.2.1) (ho : okP L i = true) (k : V G Y Z d ck sk (pc + 1) ((L.set i (some (.long x))).set (i + 1) none) st M) : V G Y Z d ck sk pc L (.long x :: st) M :=
  fun p e R s m args below meth c H locs cells slots ls C hl => by
    obtain ⟨as, h1, h2⟩ := hl
    exact lv_lstore_n C.1.1 C.1.2.1 hd hi h1 hn rfl (fun ls2 h3 => k p e R s m args below meth c H locs cells slots ls2 C (lvl_set2 h2 ho h3))
theorem v_dstore_n {j : Fin 4} {i : Nat} {x : UInt64} (hd : decode Y.2.1 pc = .ok (.dstore_n j, 1)) (hi : (j : Nat) = i) (hn : i + 1 < Y.2.2.1) (ho : okP L i = true) (k : V G Y Z d ck sk (pc + 1) ((L.set i (some (.double x))).set (i + 1) none) st M) : V G Y Z d ck sk pc L (.double x :: st) M :=
  fun p e R s m args below meth c H locs cells slots ls C hl => by
    obtain ⟨as, h1, h2⟩ := hl
    exact lv_dstore_n C.1.1 C.1.2.1 hd hi h1 hn rfl (fun ls2 h3 => k p e R s m args below meth c H locs cells slots ls2 C (lvl_set2 h2 ho h3))
theorem v_istore {i : Nat} {x : Int32} (hd : decode Y.2.1 pc = .ok (.istore i, 2)) (hn : i < Y.2.2.1) (ho : okP L i = true) (k : V G Y Z d ck sk (pc + 2) (L.set i (some (.int x))) st M) : V G Y Z d ck sk pc L (.int x :: st) M :=
  fun p e R s m args below meth c H locs cells slots ls C hl => by
    obtain ⟨as, h1, h2⟩ := hl
    exact lv_istore C.1.1 C.1.2.1 hd h1 hn rfl (fun ls2 h3 => k p e R s m args below meth c H locs cells slots ls2 C (lvl_set1 h2 ho h3))
theorem v_astoreR {i : Nat} {x : Nat} (hd : decode Y.2.1 pc = .ok (.astore i, 2)) (hn : i < Y.2.2.1) (ho : okP L i = true) (k : V G Y Z d ck sk (pc + 2) (L.set i (some (.ref x))) st M) : V G Y Z d ck sk pc L (.ref x :: st) M :=
  fun p e R s m args below meth c H locs cells slots ls C hl => by
    obtain ⟨as, h1, h2⟩ := hl
    exact lv_astore C.1.1 C.1.2.1 hd h1 hn rfl (fun ls2 h3 => k p e R s m args below meth c H locs cells slots ls2 C (lvl_set1 h2 ho h3))
theorem v_astoreN {i : Nat} (hd : decode Y.2.1 pc = .ok (.astore i, 2)) (hn : i < Y.2.2.1) (ho : okP L i = true) (k : V G Y Z d ck sk (pc + 2) (L.set i (some (.null))) st M) : V G Y Z d ck sk pc L (.null :: st) M :=
  fun p e R s m args below meth c H locs cells slots ls C hl => by
    obtain ⟨as, h1, h2⟩ := hl
    exact lv_astoreN C.1.1 C.1.2.1 hd h1 hn rfl (fun ls2 h3 => k p e R s m args below meth c H locs cells slots ls2 C (lvl_set1 h2 ho h3))
theorem v_lstore {i : Nat} {x : Int64} (hd : decode Y.2.1 pc = .ok (.lstore i, 2)) (hn : i + 1 < Y.2.2.1) (ho : okP L i = true) (k : V G Y Z d ck sk (pc + 2) ((L.set i (some (.long x))).set (i + 1) none) st M) : V G Y Z d ck sk pc L (.long x :: st) M :=
  fun p e R s m args below meth c H locs cells slots ls C hl => by
    obtain ⟨as, h1, h2⟩ := hl
    exact lv_lstore C.1.1 C.1.2.1 hd h1 hn rfl (fun ls2 h3 => k p e R s m args below meth c H locs cells slots ls2 C (lvl_set2 h2 ho h3))
theorem v_dstore {i : Nat} {x : UInt64} (hd : decode Y.2.1 pc = .ok (.dstore i, 2)) (hn : i + 1 < Y.2.2.1) (ho : okP L i = true) (k : V G Y Z d ck sk (pc + 2) ((L.set i (some (.double x))).set (i + 1) none) st M) : V G Y Z d ck sk pc L (.double x :: st) M :=
  fun p e R s m args below meth c H locs cells slots ls C hl => by
    obtain ⟨as, h1, h2⟩ := hl
    exact lv_dstore C.1.1 C.1.2.1 hd h1 hn rfl (fun ls2 h3 => k p e R s m args below meth c H locs cells slots ls2 C (lvl_set2 h2 ho h3))
theorem v_iinc {i : Nat} {n : Int} {x v : Int32} (hd : decode Y.2.1 pc = .ok (.iinc i n, 3)) (hL : L[i]? = some (some (.int x))) (hv : x + Int32.ofInt n = v) (hn : i < Y.2.2.1) (ho : okP L i = true) (k : V G Y Z d ck sk (pc + 3) (L.set i (some (.int v))) st M) : V G Y Z d ck sk pc L st M :=
  fun p e R s m args below meth c H locs cells slots ls C hl => by
    obtain ⟨as, h1, h2⟩ := hl
    obtain ⟨q, hq⟩ := List.getElem?_of_mem (h2 i _ hL)
    exact lv_iinc C.1.1 C.1.2.1 hd h1 hq hv hn rfl (fun ls2 h3 => k p e R s m args below meth c H locs cells slots ls2 C (lvl_set1 h2 ho h3))
theorem v_topi {x : Int32} (k : ∀ y : Int32, y = x → V G Y Z d ck sk pc L (.int y :: st) M) : V G Y Z d ck sk pc L (.int x :: st) M := k x rfl
theorem v_topl {x : Int64} (k : ∀ y : Int64, y = x → V G Y Z d ck sk pc L (.long y :: st) M) : V G Y Z d ck sk pc L (.long x :: st) M := k x rfl
theorem v_cut {P : Prop} (h : P) (k : P → V G Y Z d ck sk pc L st M) : V G Y Z d ck sk pc L st M := k h
end VROWS
