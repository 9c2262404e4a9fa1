-- 02.mach: an abstract machine: words, trees, what a step does. Values are (tag, payload): 0 an int (its code), 1 the int of the script's place, 2 any int, 3 a long (its code), 4 the long of the script's place, 5 any long, 6 a cell of the world, 7 null, 8 any reference, 9 the script, 10 the int of a place of the script and a number (place + 16 times its code), 11 the text of that number.
abbrev qV : Type := Nat × Nat
/-- a cell: kind (below 100 an object of that class; 100 int[], 101 byte[], 102 boolean[], 103 long[], 200 + class an array of such objects, 300 int[][]), how many, contents -/
abbrev qC : Type := Nat × Nat × Lean.RArray qV
abbrev qE : Type := List (Nat × Nat)
abbrev qH : Type := Lean.RArray qC × Nat
abbrev qL : Type := List (Nat × qV)
/-- intervals, heap, cells made, slots made, pc, locals, stack -/
abbrev qF : Type := qE × qH × Nat × Nat × Nat × qL × List qV
abbrev qO : Type := qE × qH × Option qV
/-- an instruction: op, pc, variant, a, b, word, targets -/
abbrev qN : Type := Nat × Nat × Nat × Nat × Nat × Nat × List Nat
/-- a method: name, bytes, locals, type, class, kind (0 static, 1 <init>, 2 virtual), arguments, cells, slots, instructions -/
abbrev qM : Type := MethodName × ByteArray × Nat × Option FieldType × Nat × Nat × Nat × Nat × Nat × Lean.RArray qN
def qI (n : Nat) : Int32 := Int32.ofNat n
def qNn (x : Int32) : Nat := x.toUInt32.toNat
def qJ (n : Nat) : Int64 := Int64.ofNat n
def qMn (x : Int64) : Nat := x.toUInt64.toNat
theorem qI_N (x : Int32) : qI (qNn x) = x := by
  exact Int32.toBitVec.inj (by show BitVec.ofNat 32 x.toBitVec.toNat = x.toBitVec; simp)
theorem qJ_M (x : Int64) : qJ (qMn x) = x := by
  exact Int64.toBitVec.inj (by show BitVec.ofNat 64 x.toBitVec.toNat = x.toBitVec; simp)
/-- a number as a literal -/
noncomputable def q_fc {α : Type} (n : Nat) (k : Nat → α) : α := Nat.rec (motive := fun _ => α) (k 0) (fun m _ => k (Nat.succ m)) n
theorem q_fc_eq {α : Type} (n : Nat) (k : Nat → α) : q_fc n k = k n := by cases n <;> rfl
noncomputable def q_tl {α : Type} (v : α) (i : Nat) (f : Nat) : α → Nat → Nat → Lean.RArray α :=
  Nat.rec (motive := fun _ => α → Nat → Nat → Lean.RArray α) (fun a _ _ => .branch i (.leaf a) (.branch (i + 1) (.leaf v) (.leaf a)))
    (fun _ ih a lo hi => cond (Nat.ble hi (lo + 1)) (.leaf v) (q_fc ((lo + hi) / 2) fun m => cond (Nat.ble m i) (.branch m (.leaf a) (ih a m hi)) (.branch m (ih a lo m) (.leaf a)))) f
noncomputable def q_ts {α : Type} (v : α) (i : Nat) (t : Lean.RArray α) : Nat → Nat → Lean.RArray α :=
  Lean.RArray.rec (motive := fun _ => Nat → Nat → Lean.RArray α) (fun a lo hi => q_tl v i 12 a lo hi)
    (fun p l0 r0 l r lo hi => cond (Nat.ble p i) (.branch p l0 (r p hi)) (.branch p (l lo p) r0)) t
theorem q_get_leaf {α : Type} (a : α) (n : Nat) : (Lean.RArray.leaf a).get n = a := rfl
theorem q_get_branch {α : Type} (p : Nat) (l r : Lean.RArray α) (n : Nat) : (Lean.RArray.branch p l r).get n = if p ≤ n then r.get n else l.get n := by
  show (@Bool.rec (fun _ => α) (l.get n) (r.get n) (Nat.ble p n)) = _
  by_cases h : p ≤ n
  · rw [if_pos h, Nat.ble_eq_true_of_le h]
  · rw [if_neg h]
    have : Nat.ble p n = false := by
      cases hb : Nat.ble p n with
      | false => rfl
      | true => exact absurd (Nat.le_of_ble_eq_true hb) h
    rw [this]
theorem q_ble (a b : Nat) : Nat.ble a b = decide (a ≤ b) := by
  by_cases h : a ≤ b
  · rw [Nat.ble_eq_true_of_le h, decide_eq_true h]
  · cases hb : Nat.ble a b with
    | false => simp [h]
    | true => exact absurd (Nat.le_of_ble_eq_true hb) h
theorem q_tl_get {α : Type} (v : α) (i : Nat) : ∀ (f : Nat) (a : α) (lo hi j : Nat), lo ≤ i → i < hi → lo ≤ j → j < hi → (q_tl v i f a lo hi).get j = if j = i then v else a := by
  intro f
  induction f with
  | zero =>
    intro a lo hi j _ _ _ _
    show (Lean.RArray.branch i (.leaf a) (.branch (i + 1) (.leaf v) (.leaf a))).get j = _
    rw [q_get_branch, q_get_branch, q_get_leaf, q_get_leaf]
    by_cases h1 : i ≤ j <;> by_cases h2 : i + 1 ≤ j <;> by_cases h3 : j = i <;> simp [h1, h2, h3] <;> omega
  | succ f ih =>
    intro a lo hi j h1 h2 h3 h4
    show (cond (Nat.ble hi (lo + 1)) (.leaf v) (q_fc ((lo + hi) / 2) fun m => cond (Nat.ble m i) (.branch m (.leaf a) (q_tl v i f a m hi)) (.branch m (q_tl v i f a lo m) (.leaf a))) : Lean.RArray α).get j = _
    rw [q_fc_eq, q_ble, q_ble]
    by_cases hs : hi ≤ lo + 1
    · have e : j = i := by omega
      simp [hs, e]
    · by_cases hm : (lo + hi) / 2 ≤ i
      · simp only [hs, hm, decide_false, decide_true, cond_false, cond_true]
        rw [q_get_branch]
        by_cases hj : (lo + hi) / 2 ≤ j
        · rw [if_pos hj, ih _ _ _ _ hm h2 hj h4]
        · rw [if_neg hj, q_get_leaf, if_neg (by omega)]
      · simp only [hs, hm, decide_false, decide_true, cond_false, cond_true]
        rw [q_get_branch]
        by_cases hj : (lo + hi) / 2 ≤ j
        · rw [if_pos hj, q_get_leaf, if_neg (by omega)]
        · rw [if_neg hj, ih _ _ _ _ h1 (by omega) h3 (by omega)]
theorem q_ts_get {α : Type} (v : α) (i : Nat) (t : Lean.RArray α) : ∀ (lo hi j : Nat), lo ≤ i → i < hi → lo ≤ j → j < hi → (q_ts v i t lo hi).get j = if j = i then v else t.get j := by
  induction t with
  | leaf a =>
    intro lo hi j h1 h2 h3 h4
    show (q_tl v i 12 a lo hi).get j = _
    rw [q_tl_get v i 12 a lo hi j h1 h2 h3 h4, q_get_leaf]
  | branch p l r il ir =>
    intro lo hi j h1 h2 h3 h4
    show (cond (Nat.ble p i) (.branch p l (q_ts v i r p hi)) (.branch p (q_ts v i l lo p) r) : Lean.RArray α).get j = _
    rw [q_ble, q_get_branch p l r]
    by_cases hp : p ≤ i
    · simp only [hp, decide_true, cond_true]
      rw [q_get_branch]
      by_cases hj : p ≤ j
      · rw [if_pos hj, if_pos hj, ir _ _ _ hp h2 hj h4]
      · rw [if_neg hj, if_neg hj, if_neg (by omega)]
    · simp only [hp, decide_false, cond_false]
      rw [q_get_branch]
      by_cases hj : p ≤ j
      · rw [if_pos hj, if_pos hj, if_neg (by omega)]
      · rw [if_neg hj, if_neg hj, il _ _ _ h1 (by omega) h3 (by omega)]
/-- the words that go with a call, and those that go by themselves -/
def qWS : List Cond := lw_tbl.filter goodWord
def q_isSp : Cond → Bool
  | .methodLinkNest .. => true
  | .arrayOver _ => true
  | .stringRef .. => true
  | _ => false
def qSP : List Cond := lw_tbl.filter q_isSp
/-- values: kinds and categories -/
def q_knd (x : qV) : Nat := bif Nat.ble x.1 2 then 0 else bif Nat.ble x.1 5 then 1 else bif Nat.ble x.1 9 then 2 else bif Nat.beq x.1 10 then 0 else bif Nat.beq x.1 11 then 2 else 9
def q_cat (x : qV) : Nat := bif Nat.beq (q_knd x) 1 then 2 else 1
def q_lg (lv : qL) (i : Nat) : Option qV := (lv.find? fun q => Nat.beq q.1 i).map (·.2)
noncomputable def q_nrm {β : Type} (l : qL) (k : qL → β) : β := List.rec (motive := fun _ => (qL → β) → β) (fun k => k []) (fun a _ ih k => ih fun t => k (a :: t)) l k
theorem q_nrm_eq {β : Type} (l : qL) (k : qL → β) : q_nrm l k = k l := by
  induction l generalizing k with
  | nil => rfl
  | cons a t ih => exact ih fun t => k (a :: t)
def q_ls1 (lv : qL) (i : Nat) (x : qV) : qL := (i, x) :: lv.filter (fun q => !(Nat.beq q.1 i) && !(Nat.beq (q.1 + 1) i && Nat.beq (q_cat q.2) 2))
def q_ls2 (lv : qL) (i : Nat) (x : qV) : qL := (i, x) :: lv.filter (fun q => !(Nat.beq q.1 i) && (!(Nat.beq q.1 (i + 1)) && !(Nat.beq (q.1 + 1) i && Nat.beq (q_cat q.2) 2)))
noncomputable def q_ls {β : Type} (lv : qL) (i : Nat) (x : qV) (k : qL → β) : β := q_nrm (bif Nat.beq (q_cat x) 2 then q_ls2 lv i x else q_ls1 lv i x) k
/-- intervals of the script's ints, moved by 2^31 -/
def q_eg (env : qE) (i : Nat) : Nat × Nat := (env[i]?).getD (0, 4294967295)
def qB (x : Int32) : Nat := (x.toInt + 2147483648).toNat
def q_iv (env : qE) (i lo hi : Nat) : qE := env.set i (lo, hi)
noncomputable def q_ife {β : Type} (env : qE) (i lo hi : Nat) (k : qE → β) : β := q_fc lo fun lo => q_fc hi fun hi => k (q_iv env i lo hi)
/-- numbers of the script's small intervals, one by one -/
def q_pts (lo : Nat) (n : Nat) : List Nat := Nat.rec (motive := fun _ => List Nat) [] (fun m ih => ih ++ [lo + m]) n
def q_cd (b : Nat) : Nat := (b + 2147483648) % 4294967296
def q_isPt (env : qE) (x : qV) : Bool := Nat.beq x.1 1 && Nat.ble (q_eg env x.2).2 ((q_eg env x.2).1 + 130)
def q_spl (env : qE) (x : qV) : List (qE × qV) := (q_pts (q_eg env x.2).1 ((q_eg env x.2).2 + 1 - (q_eg env x.2).1)).map fun b => (q_iv env x.2 b b, (0, q_cd b))
/-- compares: 0 =, 1 ≠, 2 <, 3 ≥, 4 >, 5 ≤ -/
def q_op (o : Nat) (x y : Int32) : Bool := match o with
  | 0 => decide (x = y)
  | 1 => !decide (x = y)
  | 2 => decide (x < y)
  | 3 => !decide (x < y)
  | 4 => decide (y < x)
  | _ => !decide (y < x)
/-- a place of the script against a number: where it may go, with the interval that it then has -/
def q_lt (env : qE) (i b : Nat) (t f : Bool) : List (Bool × qE) :=
  (bif Nat.blt (q_eg env i).1 b then [(t, q_iv env i (q_eg env i).1 (Nat.min (q_eg env i).2 (b - 1)))] else []) ++ (bif Nat.ble b (q_eg env i).2 then [(f, q_iv env i (Nat.max (q_eg env i).1 b) (q_eg env i).2)] else [])
def q_gt (env : qE) (i b : Nat) (t f : Bool) : List (Bool × qE) :=
  (bif Nat.blt b (q_eg env i).2 then [(t, q_iv env i (Nat.max (q_eg env i).1 (b + 1)) (q_eg env i).2)] else []) ++ (bif Nat.ble (q_eg env i).1 b then [(f, q_iv env i (q_eg env i).1 (Nat.min (q_eg env i).2 b))] else [])
def q_eq (env : qE) (i b : Nat) (t f : Bool) : List (Bool × qE) :=
  (bif Nat.ble (q_eg env i).1 b && Nat.ble b (q_eg env i).2 then [(t, q_iv env i b b)] else []) ++
    ((bif Nat.blt (q_eg env i).1 b then [(f, q_iv env i (q_eg env i).1 (Nat.min (q_eg env i).2 (b - 1)))] else []) ++
      (bif Nat.blt b (q_eg env i).2 then [(f, q_iv env i (Nat.max (q_eg env i).1 (b + 1)) (q_eg env i).2)] else []))
def q_cmpv (o : Nat) (env : qE) (i b : Nat) : List (Bool × qE) := match o with
  | 0 => q_eq env i b true false
  | 1 => q_eq env i b false true
  | 2 => q_lt env i b true false
  | 3 => q_lt env i b false true
  | 4 => q_gt env i b true false
  | _ => q_gt env i b false true
/-- the compare with its sides changed -/
def q_flip (o : Nat) : Nat := match o with
  | 0 => 0
  | 1 => 1
  | 2 => 4
  | 3 => 5
  | 4 => 2
  | _ => 3
/-- a place and a number against a number -/
def q_aff (o : Nat) (env : qE) (n b : Nat) : List (Bool × qE) :=
  bif decide (0 ≤ ((q_eg env (n % 16)).1 : Int) + (qI (n / 16)).toInt) && decide (((q_eg env (n % 16)).2 : Int) + (qI (n / 16)).toInt < 4294967296) && decide (0 ≤ (b : Int) - (qI (n / 16)).toInt) then q_cmpv o env (n % 16) ((b : Int) - (qI (n / 16)).toInt).toNat
  else [(true, env), (false, env)]
def q_cmp (o : Nat) (env : qE) (x y : qV) : List (Bool × qE) :=
  bif Nat.beq x.1 0 && Nat.beq y.1 0 then [(q_op o (qI x.2) (qI y.2), env)]
  else bif Nat.beq x.1 1 && Nat.beq y.1 0 then q_cmpv o env x.2 (qB (qI y.2))
  else bif Nat.beq x.1 0 && Nat.beq y.1 1 then q_cmpv (q_flip o) env y.2 (qB (qI x.2))
  else bif Nat.beq x.1 10 && Nat.beq y.1 0 then q_aff o env x.2 (qB (qI y.2))
  else bif Nat.beq x.1 0 && Nat.beq y.1 10 then q_aff (q_flip o) env y.2 (qB (qI x.2))
  else [(true, env), (false, env)]
