-- 03.step: what each instruction does in the abstract machine
abbrev q_pc (e : qN) : Nat := e.2.1
abbrev q_v (e : qN) : Nat := e.2.2.1
abbrev q_a (e : qN) : Nat := e.2.2.2.1
abbrev q_b (e : qN) : Nat := e.2.2.2.2.1
abbrev q_w (e : qN) : Nat := e.2.2.2.2.2.1
abbrev q_t (e : qN) : List Nat := e.2.2.2.2.2.2
def q_sgn (a b : Nat) : Int := match b with
  | 0 => (a : Int)
  | _ => -(a : Int)
def q_off (pc t : Nat) : Int := (t : Int) - (pc : Int)
theorem q_off_eq (pc t : Nat) : (pc : Int) + q_off pc t = (t : Int) := by unfold q_off; omega
def q_fin4 (n : Nat) : Fin 4 := ⟨n % 4, Nat.mod_lt _ (by decide)⟩
def q_fin2 (n : Nat) : Fin 2 := ⟨n % 2, Nat.mod_lt _ (by decide)⟩
def q_aty (v : Nat) : ArrayType := match v with
  | 0 => .int
  | 1 => .byte
  | 2 => .boolean
  | _ => .long
def q_ins0 (v a b : Nat) : Instr × Nat := match v with
  | 0 => (.iconst (q_sgn a b), 1)
  | 1 => (.bipush (q_sgn a b), 2)
  | 2 => (.sipush (q_sgn a b), 3)
  | 3 => (.lconst (q_fin2 a), 1)
  | 4 => (.ldc a, 2)
  | 5 => (.ldc_w a, 3)
  | 6 => (.ldc2_w a, 3)
  | 7 => (.ldc a, 2)
  | _ => (.aconst_null, 1)
def q_ins1 (v a : Nat) : Instr × Nat := match v with
  | 0 => (.iload_n (q_fin4 a), 1)
  | 1 => (.iload a, 2)
  | 2 => (.lload_n (q_fin4 a), 1)
  | 3 => (.lload a, 2)
  | 4 => (.aload_n (q_fin4 a), 1)
  | _ => (.aload a, 2)
def q_ins2 (v a : Nat) : Instr × Nat := match v with
  | 0 => (.istore_n (q_fin4 a), 1)
  | 1 => (.istore a, 2)
  | 2 => (.lstore_n (q_fin4 a), 1)
  | 3 => (.lstore a, 2)
  | 4 => (.astore_n (q_fin4 a), 1)
  | _ => (.astore a, 2)
def q_ins4 (v : Nat) : Instr := match v with
  | 0 => .iadd
  | 1 => .isub
  | 2 => .imul
  | 3 => .iand
  | 4 => .ior
  | 5 => .ixor
  | 6 => .ishl
  | 7 => .ishr
  | 8 => .idiv
  | _ => .irem
def q_ins5 (v : Nat) : Instr := match v with
  | 0 => .ladd
  | 1 => .lsub
  | 2 => .lmul
  | 3 => .land
  | 4 => .lor
  | 5 => .ldiv
  | 6 => .lrem
  | _ => .lshl
def q_ins6 (v : Nat) : Instr := match v with
  | 0 => .i2l
  | 1 => .l2i
  | 2 => .i2b
  | _ => .i2s
def q_ins8 (v : Nat) (o : Int) : Instr := match v with
  | 0 => .ifCond .eq o
  | 1 => .ifCond .ne o
  | 2 => .ifCond .lt o
  | 3 => .ifCond .ge o
  | 4 => .ifCond .gt o
  | _ => .ifCond .le o
def q_ins9 (v : Nat) (o : Int) : Instr := match v with
  | 0 => .if_icmp .eq o
  | 1 => .if_icmp .ne o
  | 2 => .if_icmp .lt o
  | 3 => .if_icmp .ge o
  | 4 => .if_icmp .gt o
  | _ => .if_icmp .le o
def q_ins13 (v : Nat) : Instr := match v with
  | 0 => .dup
  | 1 => .dup2
  | 2 => .pop
  | _ => .pop2
def q_ins20 (v : Nat) : Instr := match v with
  | 0 => .iaload
  | 1 => .baload
  | 2 => .laload
  | _ => .aaload
def q_ins21 (v : Nat) : Instr := match v with
  | 0 => .iastore
  | 1 => .bastore
  | 2 => .lastore
  | _ => .aastore
def q_ins23 (v a : Nat) : Instr := match v with
  | 0 => .invokestatic a
  | 1 => .invokespecial a
  | _ => .invokevirtual a
def q_ins24 (v : Nat) : Instr := match v with
  | 0 => .return_
  | 1 => .ireturn
  | 2 => .lreturn
  | _ => .areturn
/-- the instruction that stands there -/
def q_ins (e : qN) : Instr × Nat := match e.1 with
  | 0 => q_ins0 (q_v e) (q_a e) (q_b e)
  | 1 => q_ins1 (q_v e) (q_a e)
  | 2 => q_ins2 (q_v e) (q_a e)
  | 3 => (.iinc (q_a e) (q_sgn (q_b e) (q_v e)), 3)
  | 4 => (q_ins4 (q_v e), 1)
  | 5 => (q_ins5 (q_v e), 1)
  | 6 => (q_ins6 (q_v e), 1)
  | 7 => (.lcmp, 1)
  | 8 => (q_ins8 (q_v e) (q_off (q_pc e) (q_a e)), 3)
  | 9 => (q_ins9 (q_v e) (q_off (q_pc e) (q_a e)), 3)
  | 10 => (.goto (q_off (q_pc e) (q_a e)), 3)
  | 11 => (.ifnull (q_off (q_pc e) (q_a e)), 3)
  | 12 => (.tableswitch (q_off (q_pc e) (q_a e)) 0 ((q_t e).length - 1 : Int) ((q_t e).map (q_off (q_pc e))).toArray, q_b e)
  | 13 => (q_ins13 (q_v e), 1)
  | 14 => (.getfield (q_a e), 3)
  | 15 => (.putfield (q_a e), 3)
  | 16 => (.newarray (q_aty (q_v e)), 2)
  | 17 => (.anewarray (q_a e), 3)
  | 18 => (.multianewarray (q_a e) 2, 4)
  | 19 => (.arraylength, 1)
  | 20 => (q_ins20 (q_v e), 1)
  | 21 => (q_ins21 (q_v e), 1)
  | 22 => (.new (q_a e), 3)
  | 23 => (q_ins23 (q_v e) (q_a e), 3)
  | 24 => (q_ins24 (q_v e), 1)
  | 25 => (.invokespecial (q_a e), 3)
  | 26 => (.invokestatic (q_a e), 3)
  | 27 => (.ifnonnull (q_off (q_pc e) (q_a e)), 3)
  | 28 => (.lneg, 1)
  | 29 => (.invokevirtual (q_a e), 3)
  | 30 => (.invokevirtual (q_a e), 3)
  | _ => (.nop, 1)
-- arithmetic
def q_f4 (v : Nat) (x y : Int32) : Int32 := match v with
  | 0 => x + y
  | 1 => x - y
  | 2 => x * y
  | 3 => x &&& y
  | 4 => x ||| y
  | 5 => x ^^^ y
  | 6 => x <<< (y &&& 31)
  | 7 => x >>> (y &&& 31)
  | 8 => x / y
  | _ => x - x / y * y
def q_f5 (v : Nat) (x y : Int64) : Int64 := match v with
  | 0 => x + y
  | 1 => x - y
  | 2 => x * y
  | 3 => x &&& y
  | 4 => x ||| y
  | 5 => x / y
  | _ => x - x / y * y
/-- the texts, byte by byte -/
def q_lits : List (List Nat) := [[111, 97, 116, 104], [102, 114, 111, 109], [99, 111, 117, 114, 115, 101], [109, 97, 115, 111, 110], [108, 97, 121, 115], [99, 111, 115, 116, 115], [115, 108, 105, 112], [97, 116], [98, 121], [102, 105, 110, 100], [121, 101, 97, 114], [101, 110, 100], [103, 111], [98, 97, 99, 107], [107, 110, 111, 99, 107], [110, 111, 116, 101], [116, 117, 114, 110], [119, 104, 101, 110], [108, 111, 111, 112], [115, 116, 111, 112], [115, 116, 111, 110, 101], [104, 111, 108, 108, 111, 119], [102, 117, 108, 108], [110, 111, 116, 101, 100], [102, 105, 114, 115, 116], [32, 111, 97, 116, 104, 32, 102, 114, 111, 109, 32, 99, 111, 117, 114, 115, 101, 32, 109, 97, 115, 111, 110, 32, 108, 97, 121, 115, 32, 99, 111, 115, 116, 115, 32, 115, 108, 105, 112, 32, 97, 116, 32, 98, 121, 32, 102, 105, 110, 100, 32, 121, 101, 97, 114, 32, 103, 111, 32, 98, 97, 99, 107, 32, 107, 110, 111, 99, 107, 32, 110, 111, 116, 101, 32, 116, 117, 114, 110, 32, 119, 104, 101, 110, 32, 104, 111, 108, 108, 111, 119, 32, 102, 117, 108, 108, 32, 115, 116, 111, 110, 101, 32, 110, 111, 116, 101, 100, 32, 102, 105, 114, 115, 116, 32, 108, 111, 111, 112, 32, 101, 110, 100, 32, 115, 116, 111, 112, 32]]
def q_lit (i : Nat) : List Nat := q_lits.getD i []
section
variable (mc ms : Nat) (scr : Bool) (L : Nat)
noncomputable def q_go (env : qE) (h : qH) (k sl pc : Nat) (lv : qL) (stk : List qV) : Option (List qF) := q_fc pc fun pc => some [(env, h, k, sl, pc, lv, stk)]
noncomputable def q_gv (env : qE) (h : qH) (k sl pc : Nat) (lv : qL) (t n : Nat) (stk : List qV) : Option (List qF) := q_fc n fun n => q_go env h k sl pc lv ((t, n) :: stk)
def q_s0v (v a b : Nat) : Nat × Nat := match v with
  | 0 => (0, qNn (Int32.ofInt (q_sgn a b)))
  | 1 => (0, qNn (Int8.ofInt (q_sgn a b)).toInt32)
  | 2 => (0, qNn (Int16.ofInt (q_sgn a b)).toInt32)
  | 3 => (3, qMn (Int64.ofNat (q_fin2 a : Nat)))
  | 4 => (0, b)
  | 5 => (0, b)
  | 6 => (3, b)
  | 7 => (11, b)
  | _ => (7, 0)
noncomputable def q_s0 (e : qN) (env : qE) (h : qH) (k sl : Nat) (lv : qL) (stk : List qV) : Option (List qF) :=
  q_gv env h k sl (q_pc e + (q_ins0 (q_v e) (q_a e) (q_b e)).2) lv (q_s0v (q_v e) (q_a e) (q_b e)).1 (q_s0v (q_v e) (q_a e) (q_b e)).2 stk
/-- which kind of value a variant of load, store or return takes -/
def q_kv (v : Nat) : Nat := match v with
  | 0 => 0
  | 1 => 0
  | 2 => 1
  | 3 => 1
  | _ => 2
noncomputable def q_s1 (e : qN) (env : qE) (h : qH) (k sl : Nat) (lv : qL) (stk : List qV) : Option (List qF) := match q_lg lv (q_a e) with
  | none => none
  | some x => bif Nat.beq (q_knd x) (q_kv (q_v e)) then q_go env h k sl (q_pc e + (q_ins1 (q_v e) (q_a e)).2) lv (x :: stk) else none
noncomputable def q_s2 (maxL : Nat) (e : qN) (env : qE) (h : qH) (k sl : Nat) (lv : qL) (stk : List qV) : Option (List qF) := match stk with
  | [] => none
  | x :: stk => bif Nat.beq (q_knd x) (q_kv (q_v e)) && Nat.blt (q_a e + 1) (maxL + 2 - q_cat x) then q_ls lv (q_a e) x fun lv => q_go env h k sl (q_pc e + (q_ins2 (q_v e) (q_a e)).2) lv stk else none
noncomputable def q_s3 (maxL : Nat) (e : qN) (env : qE) (h : qH) (k sl : Nat) (lv : qL) (stk : List qV) : Option (List qF) := match q_lg lv (q_a e) with
  | none => none
  | some x => bif Nat.beq (q_knd x) 0 && Nat.blt (q_a e) maxL then
      (bif Nat.beq x.1 0 then q_fc (qNn (qI x.2 + Int32.ofInt (q_sgn (q_b e) (q_v e)))) fun n => q_ls lv (q_a e) (0, n) fun lv => q_go env h k sl (q_pc e + 3) lv stk
        else q_ls lv (q_a e) (2, 0) fun lv => q_go env h k sl (q_pc e + 3) lv stk) else none
noncomputable def q_s4 (e : qN) (env : qE) (h : qH) (k sl : Nat) (lv : qL) (stk : List qV) : Option (List qF) := match stk with
  | y :: x :: stk =>
    bif Nat.beq (q_knd x) 0 && Nat.beq (q_knd y) 0 then
      bif Nat.beq x.1 0 && Nat.beq y.1 0 then
        (bif Nat.ble 8 (q_v e) && decide (qI y.2 = 0) then none else q_gv env h k sl (q_pc e + 1) lv 0 (qNn (q_f4 (q_v e) (qI x.2) (qI y.2))) stk)
      else bif q_isPt env y then some ((q_spl env y).map fun q => (q.1, h, k, sl, q_pc e, lv, q.2 :: x :: stk))
      else bif q_isPt env x then some ((q_spl env x).map fun q => (q.1, h, k, sl, q_pc e, lv, y :: q.2 :: stk))
      else bif Nat.ble (q_v e) 1 && Nat.beq y.1 0 && (Nat.beq x.1 1 && Nat.blt x.2 16 || Nat.beq x.1 10) then q_gv env h k sl (q_pc e + 1) lv 10 (x.2 % 16 + 16 * qNn (q_f4 (q_v e) (qI (x.2 / 16)) (qI y.2))) stk
      else bif Nat.ble 8 (q_v e) && !(Nat.beq y.1 0 && !decide (qI y.2 = 0)) then none else q_go env h k sl (q_pc e + 1) lv ((2, 0) :: stk)
    else none
  | _ => none
noncomputable def q_s5 (e : qN) (env : qE) (h : qH) (k sl : Nat) (lv : qL) (stk : List qV) : Option (List qF) := match stk with
  | y :: x :: stk =>
    bif Nat.ble 7 (q_v e) then (bif Nat.beq x.1 3 && Nat.beq y.1 0 then q_gv env h k sl (q_pc e + 1) lv 3 (qMn (qJ x.2 <<< ((qI y.2).toInt64 &&& 63))) stk else bif Nat.beq (q_knd x) 1 && Nat.beq (q_knd y) 0 then q_go env h k sl (q_pc e + 1) lv ((5, 0) :: stk) else none)
    else bif Nat.beq (q_knd x) 1 && Nat.beq (q_knd y) 1 then
      bif Nat.beq x.1 3 && Nat.beq y.1 3 then
        (bif Nat.ble 5 (q_v e) && decide (qJ y.2 = 0) then none else q_gv env h k sl (q_pc e + 1) lv 3 (qMn (q_f5 (q_v e) (qJ x.2) (qJ y.2))) stk)
      else bif Nat.ble 5 (q_v e) then none else q_go env h k sl (q_pc e + 1) lv ((5, 0) :: stk)
    else none
  | _ => none
def q_s6v (v : Nat) (x : qV) : Nat × Nat := match v with
  | 0 => (bif Nat.beq x.1 0 then (3, qMn (qI x.2).toInt64) else bif Nat.beq x.1 1 then (4, x.2) else (5, 0))
  | 1 => (bif Nat.beq x.1 3 then (0, qNn (qJ x.2).toInt32) else (2, 0))
  | 2 => (bif Nat.beq x.1 0 then (0, qNn (qI x.2).toInt8.toInt32) else (2, 0))
  | _ => (bif Nat.beq x.1 0 then (0, qNn (qI x.2).toInt16.toInt32) else (2, 0))
noncomputable def q_s6 (e : qN) (env : qE) (h : qH) (k sl : Nat) (lv : qL) (stk : List qV) : Option (List qF) := match stk with
  | x :: stk => bif Nat.beq (q_knd x) (bif Nat.beq (q_v e) 1 then 1 else 0) then q_gv env h k sl (q_pc e + 1) lv (q_s6v (q_v e) x).1 (q_s6v (q_v e) x).2 stk else none
  | _ => none
/-- the three ends of a compare of longs: the top, y, is the right side -/
def q_lc (env : qE) (x y : qV) : List (Nat × qE) :=
  bif Nat.beq x.1 3 && Nat.beq y.1 3 then [(qNn (lg_cmp (qJ x.2) (qJ y.2)), env)]
  else bif Nat.beq x.1 4 && Nat.beq y.1 3 && decide (0 ≤ (qJ y.2).toInt + 2147483648) then
    (q_lt env x.2 ((qJ y.2).toInt + 2147483648).toNat true false).flatMap fun q => bif q.1 then [(qNn (-1), q.2)] else (q_gt q.2 x.2 ((qJ y.2).toInt + 2147483648).toNat true false).map fun r => bif r.1 then (1, r.2) else (0, r.2)
  else bif Nat.beq x.1 3 && Nat.beq y.1 4 && decide (0 ≤ (qJ x.2).toInt + 2147483648) then
    (q_lt env y.2 ((qJ x.2).toInt + 2147483648).toNat true false).flatMap fun q => bif q.1 then [(1, q.2)] else (q_gt q.2 y.2 ((qJ x.2).toInt + 2147483648).toNat true false).map fun r => bif r.1 then (qNn (-1), r.2) else (0, r.2)
  else bif Nat.beq x.1 4 && Nat.beq y.1 4 && Nat.blt (q_eg env x.2).2 (q_eg env y.2).1 then [(qNn (-1), env)]
  else bif Nat.beq x.1 4 && Nat.beq y.1 4 && Nat.blt (q_eg env y.2).2 (q_eg env x.2).1 then [(1, env)]
  else [(qNn (-1), env), (0, env), (1, env)]
noncomputable def q_s7 (e : qN) (env : qE) (h : qH) (k sl : Nat) (lv : qL) (stk : List qV) : Option (List qF) := match stk with
  | y :: x :: stk => bif Nat.beq (q_knd x) 1 && Nat.beq (q_knd y) 1 then some ((q_lc env x y).map fun q => q_fc q.1 fun n => (q.2, h, k, sl, q_pc e + 1, lv, (0, n) :: stk)) else none
  | _ => none
noncomputable def q_s8 (e : qN) (env : qE) (h : qH) (k sl : Nat) (lv : qL) (stk : List qV) : Option (List qF) := match stk with
  | x :: stk => bif Nat.beq (q_knd x) 0 then some ((q_cmp (q_v e) env x (0, 0)).map fun q => q_fc (bif q.1 then q_a e else q_pc e + 3) fun pc => (q.2, h, k, sl, pc, lv, stk)) else none
  | _ => none
noncomputable def q_s9 (e : qN) (env : qE) (h : qH) (k sl : Nat) (lv : qL) (stk : List qV) : Option (List qF) := match stk with
  | y :: x :: stk => bif Nat.beq x.1 1 && Nat.beq y.1 1 && q_isPt env y then some ((q_spl env y).map fun q => (q.1, h, k, sl, q_pc e, lv, q.2 :: x :: stk)) else bif Nat.beq x.1 1 && Nat.beq y.1 1 && q_isPt env x then some ((q_spl env x).map fun q => (q.1, h, k, sl, q_pc e, lv, y :: q.2 :: stk)) else bif Nat.beq (q_knd x) 0 && Nat.beq (q_knd y) 0 then some ((q_cmp (q_v e) env x y).map fun q => q_fc (bif q.1 then q_a e else q_pc e + 3) fun pc => (q.2, h, k, sl, pc, lv, stk)) else none
  | _ => none
noncomputable def q_s11 (e : qN) (env : qE) (h : qH) (k sl : Nat) (lv : qL) (stk : List qV) : Option (List qF) := match stk with
  | x :: stk => bif Nat.beq (q_knd x) 2 then q_go env h k sl (bif Nat.beq x.1 7 then q_a e else q_pc e + 3) lv stk else none
  | _ => none
noncomputable def q_s27 (e : qN) (env : qE) (h : qH) (k sl : Nat) (lv : qL) (stk : List qV) : Option (List qF) := match stk with
  | x :: stk => bif Nat.beq (q_knd x) 2 then q_go env h k sl (bif Nat.beq x.1 7 then q_pc e + 3 else q_a e) lv stk else none
  | _ => none
/-- the cases of a switch from 0 on for a place of the script: each target with its interval -/
noncomputable def q_sw (env : qE) (i : Nat) (ts : List Nat) : Nat → List (qE × Nat) := List.rec (motive := fun _ => Nat → List (qE × Nat)) (fun _ => [])
  (fun t _ ih j => (bif Nat.ble (q_eg env i).1 (j + 2147483648) && Nat.ble (j + 2147483648) (q_eg env i).2 then [(q_iv env i (j + 2147483648) (j + 2147483648), t)] else []) ++ ih (j + 1)) ts
/-- the default of such a switch: below it and above it -/
def q_swd (env : qE) (i a : Nat) (ts : List Nat) : List (qE × Nat) :=
  (bif Nat.blt (q_eg env i).1 2147483648 then [(q_iv env i (q_eg env i).1 (Nat.min (q_eg env i).2 2147483647), a)] else []) ++
    (bif Nat.ble (2147483648 + ts.length) (q_eg env i).2 then [(q_iv env i (Nat.max (q_eg env i).1 (2147483648 + ts.length)) (q_eg env i).2, a)] else [])
noncomputable def q_s12 (e : qN) (env : qE) (h : qH) (k sl : Nat) (lv : qL) (stk : List qV) : Option (List qF) := match stk with
  | x :: stk =>
    bif Nat.beq x.1 0 then q_go env h k sl (bif Nat.blt (qI x.2).toNatClampNeg (q_t e).length && decide (0 ≤ (qI x.2).toInt) then (q_t e).getD (qI x.2).toNatClampNeg 0 else q_a e) lv stk
    else bif Nat.beq x.1 1 then some ((q_swd env x.2 (q_a e) (q_t e) ++ q_sw env x.2 (q_t e) 0).map fun q => (q.1, h, k, sl, q.2, lv, stk))
    else bif Nat.beq x.1 2 then some ((env, h, k, sl, q_a e, lv, stk) :: (q_t e).map fun t => (env, h, k, sl, t, lv, stk))
    else none
  | _ => none
noncomputable def q_s13 (e : qN) (env : qE) (h : qH) (k sl : Nat) (lv : qL) (stk : List qV) : Option (List qF) := match q_v e, stk with
  | 0, x :: stk => bif Nat.beq (q_cat x) 1 then q_go env h k sl (q_pc e + 1) lv (x :: x :: stk) else none
  | 1, x :: stk => bif Nat.beq (q_cat x) 2 then q_go env h k sl (q_pc e + 1) lv (x :: x :: stk) else (match stk with
    | y :: stk => bif Nat.beq (q_cat y) 1 then q_go env h k sl (q_pc e + 1) lv (x :: y :: x :: y :: stk) else none
    | _ => none)
  | 2, x :: stk => bif Nat.beq (q_cat x) 1 then q_go env h k sl (q_pc e + 1) lv stk else none
  | 3, x :: stk => bif Nat.beq (q_cat x) 2 then q_go env h k sl (q_pc e + 1) lv stk else none
  | _, _ => none
noncomputable def q_s14 (e : qN) (env : qE) (h : qH) (k sl : Nat) (lv : qL) (stk : List qV) : Option (List qF) := match stk with
  | x :: stk => bif Nat.beq x.1 6 && Nat.blt x.2 h.2 && Nat.beq (h.1.get x.2).1 (q_v e) && Nat.blt (q_b e) (h.1.get x.2).2.1 then q_go env h k sl (q_pc e + 3) lv (((h.1.get x.2).2.2.get (q_b e)) :: stk) else none
  | _ => none
/-- what a field or a place takes: 0 int, 1 boolean, 2 long, 3 a reference -/
def q_fit (ty : Nat) (x : qV) : Bool := match ty with
  | 0 => Nat.beq (q_knd x) 0
  | 1 => Nat.beq x.1 0 && Nat.ble x.2 1
  | 2 => Nat.beq (q_knd x) 1
  | _ => Nat.beq (q_knd x) 2
noncomputable def q_put (h : qH) (c j : Nat) (x : qV) : qH := (q_ts ((h.1.get c).1, (h.1.get c).2.1, q_ts x j (h.1.get c).2.2 0 (h.1.get c).2.1) c h.1 0 1024, h.2)
/-- a tree with its root laid open -/
noncomputable def q_opn {α β : Type} (t : Lean.RArray α) (k : Lean.RArray α → β) : β := Lean.RArray.rec (motive := fun _ => β) (fun a => k (.leaf a)) (fun p l r _ _ => k (.branch p l r)) t
noncomputable def q_gh (env : qE) (h : qH) (k sl pc : Nat) (lv : qL) (stk : List qV) : Option (List qF) := q_opn h.1 fun t => q_go env (t, h.2) k sl pc lv stk
noncomputable def q_s15 (e : qN) (env : qE) (h : qH) (k sl : Nat) (lv : qL) (stk : List qV) : Option (List qF) := match stk with
  | y :: x :: stk => bif Nat.beq x.1 6 && Nat.blt x.2 h.2 && Nat.beq (h.1.get x.2).1 (q_v e) && Nat.blt (q_b e) (h.1.get x.2).2.1 && q_fit ((q_t e).getD 0 9) y && Nat.blt 0 (q_t e).length then q_gh env (q_put h x.2 (q_b e) y) k sl (q_pc e + 3) lv stk else none
  | _ => none
noncomputable def q_mk (c : qC) (n : Nat) (env : qE) (h : qH) (k sl pc : Nat) (lv : qL) (stk : List qV) : Option (List qF) :=
  bif Nat.blt h.2 1024 && Nat.ble (k + 1) mc && Nat.ble (sl + n) ms then q_fc (h.2 + 1) fun h2 => q_fc (k + 1) fun k1 => q_fc (sl + n) fun s1 => q_gh env (q_ts c h.2 h.1 0 1024, h2) k1 s1 pc lv ((6, h.2) :: stk) else none
noncomputable def q_s16 (e : qN) (env : qE) (h : qH) (k sl : Nat) (lv : qL) (stk : List qV) : Option (List qF) := match stk with
  | x :: stk => bif Nat.beq x.1 0 && Nat.blt x.2 100000 then q_mk mc ms (bif Nat.ble (q_v e) 2 then 100 + q_v e else 103, x.2, .leaf (bif Nat.ble (q_v e) 2 then (0, 0) else (3, 0))) x.2 env h k sl (q_pc e + 2) lv stk else none
  | _ => none
noncomputable def q_s17 (e : qN) (env : qE) (h : qH) (k sl : Nat) (lv : qL) (stk : List qV) : Option (List qF) := match stk with
  | x :: stk => bif Nat.beq x.1 0 && Nat.blt x.2 100000 then q_mk mc ms (200 + q_v e, x.2, .leaf (7, 0)) x.2 env h k sl (q_pc e + 3) lv stk else none
  | _ => none
/-- n rows of m ints behind the cells that are there -/
noncomputable def q_rows (n m : Nat) (h : qH) : qH := Nat.rec (motive := fun _ => qH) h (fun _ ih => (q_ts (100, m, .leaf (0, 0)) ih.2 ih.1 0 1024, ih.2 + 1)) n
/-- a tree of the numbers from lo to hi, moved -/
noncomputable def q_ids (at_ n : Nat) : Lean.RArray qV := Nat.rec (motive := fun _ => Lean.RArray qV) (.leaf (7, 0)) (fun i ih => q_ts (6, at_ + i) i ih 0 n) n
noncomputable def q_s18 (e : qN) (env : qE) (h : qH) (k sl : Nat) (lv : qL) (stk : List qV) : Option (List qF) := match stk with
  | y :: x :: stk => bif Nat.beq x.1 0 && Nat.beq y.1 0 && Nat.blt x.2 1000 && Nat.blt y.2 1000 && Nat.blt (h.2 + x.2) 1024 && Nat.ble (k + 1 + x.2) mc && Nat.ble (sl + x.2 + x.2 * y.2) ms then
      q_fc (k + 1 + x.2) fun k1 => q_fc (sl + x.2 + x.2 * y.2) fun s1 => q_gh env (q_rows x.2 y.2 (q_ts (300, x.2, q_ids (h.2 + 1) x.2) h.2 h.1 0 1024, h.2 + 1)) k1 s1 (q_pc e + 4) lv ((6, h.2) :: stk) else none
  | _ => none
noncomputable def q_s19 (e : qN) (env : qE) (h : qH) (k sl : Nat) (lv : qL) (stk : List qV) : Option (List qF) := match stk with
  | x :: stk => bif Nat.beq x.1 6 && Nat.blt x.2 h.2 && Nat.ble 100 (h.1.get x.2).1 then q_go env h k sl (q_pc e + 1) lv ((0, (h.1.get x.2).2.1) :: stk)
      else bif scr && Nat.beq x.1 9 then q_go env h k sl (q_pc e + 1) lv ((0, L) :: stk) else none
  | _ => none
/-- which kinds of cell an array instruction takes -/
def q_akd (v kind : Nat) : Bool := match v with
  | 0 => Nat.beq kind 100
  | 1 => Nat.beq kind 101 || Nat.beq kind 102
  | 2 => Nat.beq kind 103
  | _ => Nat.ble 200 kind
noncomputable def q_s20 (e : qN) (env : qE) (h : qH) (k sl : Nat) (lv : qL) (stk : List qV) : Option (List qF) := match stk with
  | y :: x :: stk =>
    bif Nat.beq y.1 0 then
      bif Nat.beq x.1 6 && Nat.blt x.2 h.2 && q_akd (q_v e) (h.1.get x.2).1 && Nat.blt y.2 (h.1.get x.2).2.1 && Nat.blt y.2 2147483648 then q_go env h k sl (q_pc e + 1) lv (((h.1.get x.2).2.2.get y.2) :: stk)
      else bif scr && Nat.beq x.1 9 && Nat.blt y.2 L && Nat.blt y.2 2147483648 && Nat.beq (q_v e) 0 then q_go env h k sl (q_pc e + 1) lv ((1, y.2) :: stk) else none
    else bif q_isPt env y then some ((q_spl env y).map fun q => (q.1, h, k, sl, q_pc e, lv, q.2 :: x :: stk))
    else none
  | _ => none
/-- what an array keeps of a value -/
def q_kep (v kind : Nat) (x : qV) : Option qV := match v with
  | 0 => bif Nat.beq kind 100 && Nat.beq (q_knd x) 0 then some x else none
  | 1 => bif Nat.beq kind 101 && Nat.beq (q_knd x) 0 then some (bif Nat.beq x.1 0 then (0, qNn (vp_nar .byte (qI x.2))) else (2, 0)) else bif Nat.beq kind 102 && Nat.beq (q_knd x) 0 then some (bif Nat.beq x.1 0 then (0, qNn (vp_nar .boolean (qI x.2))) else (2, 0)) else none
  | 2 => bif Nat.beq kind 103 && Nat.beq (q_knd x) 1 then some x else none
  | _ => none
noncomputable def q_s21 (e : qN) (env : qE) (h : qH) (k sl : Nat) (lv : qL) (stk : List qV) : Option (List qF) := match stk with
  | z :: y :: x :: stk =>
    bif Nat.beq y.1 0 then
      bif Nat.beq x.1 6 && Nat.blt x.2 h.2 && Nat.blt y.2 (h.1.get x.2).2.1 && Nat.blt y.2 2147483648 then
        (bif Nat.ble 3 (q_v e) then (bif Nat.ble 200 (h.1.get x.2).1 && Nat.blt (h.1.get x.2).1 300 && Nat.beq z.1 6 && Nat.blt z.2 h.2 && Nat.beq (200 + (h.1.get z.2).1) (h.1.get x.2).1 then q_gh env (q_put h x.2 y.2 z) k sl (q_pc e + 1) lv stk else none)
          else match q_kep (q_v e) (h.1.get x.2).1 z with
            | none => none
            | some z' => q_fc z'.2 fun n => q_gh env (q_put h x.2 y.2 (z'.1, n)) k sl (q_pc e + 1) lv stk)
      else none
    else bif q_isPt env y then some ((q_spl env y).map fun q => (q.1, h, k, sl, q_pc e, lv, z :: q.2 :: x :: stk))
    else none
  | _ => none
/-- a new object's fields: their kinds in the order of the slots (0 int, 1 boolean, 2 long, 3 a reference) -/
def q_dv (ty : Nat) : qV := match ty with
  | 0 => (0, 0)
  | 1 => (0, 0)
  | 2 => (3, 0)
  | _ => (7, 0)
noncomputable def q_dt (l : List Nat) (n : Nat) : Lean.RArray qV := List.rec (motive := fun _ => Nat → Lean.RArray qV) (fun _ => .leaf (7, 0)) (fun ty _ ih i => q_ts (q_dv ty) i (ih (i + 1)) 0 n) l 0
noncomputable def q_s22 (e : qN) (env : qE) (h : qH) (k sl : Nat) (lv : qL) (stk : List qV) : Option (List qF) :=
  q_mk mc ms (q_v e, (q_t e).length, q_dt (q_t e) (q_t e).length) (q_t e).length env h k sl (q_pc e + 3) lv stk
noncomputable def q_s25 (e : qN) (env : qE) (h : qH) (k sl : Nat) (lv : qL) (stk : List qV) : Option (List qF) := match stk with
  | x :: stk => bif Nat.beq x.1 6 && Nat.ble (stk.map q_cat).sum 8 then q_go env h k sl (q_pc e + 3) lv stk else none
  | _ => none
noncomputable def q_cpy (src dst : Lean.RArray qV) (sp dp n N : Nat) : Lean.RArray qV := Nat.rec (motive := fun _ => Lean.RArray qV) dst (fun i ih => q_ts (src.get (sp + i)) (dp + i) ih 0 N) n
noncomputable def q_s26 (e : qN) (env : qE) (h : qH) (k sl : Nat) (lv : qL) (stk : List qV) : Option (List qF) := match stk with
  | n :: dp :: y :: sp :: x :: stk =>
    bif Nat.beq n.1 0 && Nat.beq dp.1 0 && Nat.beq sp.1 0 && Nat.beq x.1 6 && Nat.beq y.1 6 && Nat.blt x.2 h.2 && Nat.blt y.2 h.2 && Nat.beq (h.1.get x.2).1 (h.1.get y.2).1 && (Nat.beq (h.1.get x.2).1 100 || Nat.beq (h.1.get x.2).1 103) && Nat.ble (sp.2 + n.2) (h.1.get x.2).2.1 && Nat.ble (dp.2 + n.2) (h.1.get y.2).2.1 && Nat.blt sp.2 2147483648 && Nat.blt dp.2 2147483648 && Nat.blt n.2 2147483648 && Nat.ble (stk.map q_cat).sum 8 then
      q_gh env (q_ts ((h.1.get y.2).1, (h.1.get y.2).2.1, bif Nat.beq sp.2 0 && Nat.beq dp.2 0 && Nat.beq n.2 (h.1.get y.2).2.1 then (h.1.get x.2).2.2 else q_cpy (h.1.get x.2).2.2 (h.1.get y.2).2.2 sp.2 dp.2 n.2 (h.1.get y.2).2.1) y.2 h.1 0 1024, h.2) k sl (q_pc e + 3) lv stk else none
  | _ => none
noncomputable def q_s28 (e : qN) (env : qE) (h : qH) (k sl : Nat) (lv : qL) (stk : List qV) : Option (List qF) := match stk with
  | x :: stk => bif Nat.beq x.1 3 then q_gv env h k sl (q_pc e + 1) lv 3 (qMn (-(qJ x.2))) stk else none
  | _ => none
noncomputable def q_s29 (e : qN) (env : qE) (h : qH) (k sl : Nat) (lv : qL) (stk : List qV) : Option (List qF) := match stk with
  | x :: stk => bif Nat.beq x.1 11 && Nat.blt x.2 q_lits.length && Nat.ble (stk.map q_cat).sum 8 && Nat.beq k 0 && Nat.beq sl 0 then q_gv env h k sl (q_pc e + 3) lv 0 (q_lit x.2).length stk else none
  | _ => none
noncomputable def q_s30 (e : qN) (env : qE) (h : qH) (k sl : Nat) (lv : qL) (stk : List qV) : Option (List qF) := match stk with
  | y :: x :: stk => bif Nat.beq x.1 11 && Nat.blt x.2 q_lits.length && Nat.beq y.1 0 && Nat.blt y.2 (q_lit x.2).length && Nat.ble (stk.map q_cat).sum 8 && Nat.beq k 0 && Nat.beq sl 0 then q_gv env h k sl (q_pc e + 3) lv 0 ((q_lit x.2).getD y.2 0) stk else none
  | _ => none
noncomputable def q_step (maxL : Nat) (e : qN) (env : qE) (h : qH) (k sl : Nat) (lv : qL) (stk : List qV) : Option (List qF) := match e.1 with
  | 0 => q_s0 e env h k sl lv stk
  | 1 => q_s1 e env h k sl lv stk
  | 2 => q_s2 maxL e env h k sl lv stk
  | 3 => q_s3 maxL e env h k sl lv stk
  | 4 => q_s4 e env h k sl lv stk
  | 5 => q_s5 e env h k sl lv stk
  | 6 => q_s6 e env h k sl lv stk
  | 7 => q_s7 e env h k sl lv stk
  | 8 => q_s8 e env h k sl lv stk
  | 9 => q_s9 e env h k sl lv stk
  | 10 => q_go env h k sl (q_a e) lv stk
  | 11 => q_s11 e env h k sl lv stk
  | 12 => q_s12 e env h k sl lv stk
  | 13 => q_s13 e env h k sl lv stk
  | 14 => q_s14 e env h k sl lv stk
  | 15 => q_s15 e env h k sl lv stk
  | 16 => q_s16 mc ms e env h k sl lv stk
  | 17 => q_s17 mc ms e env h k sl lv stk
  | 18 => q_s18 mc ms e env h k sl lv stk
  | 19 => q_s19 scr L e env h k sl lv stk
  | 20 => q_s20 scr L e env h k sl lv stk
  | 21 => q_s21 e env h k sl lv stk
  | 22 => q_s22 mc ms e env h k sl lv stk
  | 25 => q_s25 e env h k sl lv stk
  | 26 => q_s26 e env h k sl lv stk
  | 27 => q_s27 e env h k sl lv stk
  | 28 => q_s28 e env h k sl lv stk
  | 29 => q_s29 e env h k sl lv stk
  | 30 => q_s30 e env h k sl lv stk
  | _ => none
end
