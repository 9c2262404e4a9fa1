-- 07.sym: the same machine without the forcing of numbers: for values that are not known
abbrev q_fcS {α : Type} (n : Nat) (k : Nat → α) : α := k n
abbrev q_lsS {β : Type} (lv : qL) (i : Nat) (x : qV) (k : qL → β) : β := k (bif Nat.beq (q_cat x) 2 then q_ls2 lv i x else q_ls1 lv i x)
section
variable (mc ms : Nat) (scr : Bool) (L : Nat)
noncomputable def q_goS (env : qE) (h : qH) (k sl pc : Nat) (lv : qL) (stk : List qV) : Option (List qF) := q_fcS pc fun pc => some [(env, h, k, sl, pc, lv, stk)]
noncomputable def q_gvS (env : qE) (h : qH) (k sl pc : Nat) (lv : qL) (t n : Nat) (stk : List qV) : Option (List qF) := q_fcS n fun n => q_goS env h k sl pc lv ((t, n) :: stk)
noncomputable def q_s0S (e : qN) (env : qE) (h : qH) (k sl : Nat) (lv : qL) (stk : List qV) : Option (List qF) :=
  q_gvS env h k sl (q_pc e + (q_ins0 (q_v e) (q_a e) (q_b e)).2) lv (q_s0v (q_v e) (q_a e) (q_b e)).1 (q_s0v (q_v e) (q_a e) (q_b e)).2 stk
noncomputable def q_s1S (e : qN) (env : qE) (h : qH) (k sl : Nat) (lv : qL) (stk : List qV) : Option (List qF) := match q_lg lv (q_a e) with
  | none => none
  | some x => bif Nat.beq (q_knd x) (q_kv (q_v e)) then q_goS env h k sl (q_pc e + (q_ins1 (q_v e) (q_a e)).2) lv (x :: stk) else none
noncomputable def q_s2S (maxL : Nat) (e : qN) (env : qE) (h : qH) (k sl : Nat) (lv : qL) (stk : List qV) : Option (List qF) := match stk with
  | [] => none
  | x :: stk => bif Nat.beq (q_knd x) (q_kv (q_v e)) && Nat.blt (q_a e + 1) (maxL + 2 - q_cat x) then q_lsS lv (q_a e) x fun lv => q_goS env h k sl (q_pc e + (q_ins2 (q_v e) (q_a e)).2) lv stk else none
noncomputable def q_s3S (maxL : Nat) (e : qN) (env : qE) (h : qH) (k sl : Nat) (lv : qL) (stk : List qV) : Option (List qF) := match q_lg lv (q_a e) with
  | none => none
  | some x => bif Nat.beq (q_knd x) 0 && Nat.blt (q_a e) maxL then
      (bif Nat.beq x.1 0 then q_fcS (qNn (qI x.2 + Int32.ofInt (q_sgn (q_b e) (q_v e)))) fun n => q_lsS lv (q_a e) (0, n) fun lv => q_goS env h k sl (q_pc e + 3) lv stk
        else q_lsS lv (q_a e) (2, 0) fun lv => q_goS env h k sl (q_pc e + 3) lv stk) else none
noncomputable def q_s4S (e : qN) (env : qE) (h : qH) (k sl : Nat) (lv : qL) (stk : List qV) : Option (List qF) := match stk with
  | y :: x :: stk =>
    bif Nat.beq (q_knd x) 0 && Nat.beq (q_knd y) 0 then
      bif Nat.beq x.1 0 && Nat.beq y.1 0 then
        (bif Nat.ble 8 (q_v e) && decide (qI y.2 = 0) then none else q_gvS env h k sl (q_pc e + 1) lv 0 (qNn (q_f4 (q_v e) (qI x.2) (qI y.2))) stk)
      else bif q_isPt env y then some ((q_spl env y).map fun q => (q.1, h, k, sl, q_pc e, lv, q.2 :: x :: stk))
      else bif q_isPt env x then some ((q_spl env x).map fun q => (q.1, h, k, sl, q_pc e, lv, y :: q.2 :: stk))
      else bif Nat.ble (q_v e) 1 && Nat.beq y.1 0 && (Nat.beq x.1 1 && Nat.blt x.2 16 || Nat.beq x.1 10) then q_gvS env h k sl (q_pc e + 1) lv 10 (x.2 % 16 + 16 * qNn (q_f4 (q_v e) (qI (x.2 / 16)) (qI y.2))) stk
      else bif Nat.ble 8 (q_v e) && !(Nat.beq y.1 0 && !decide (qI y.2 = 0)) then none else q_goS env h k sl (q_pc e + 1) lv ((2, 0) :: stk)
    else none
  | _ => none
noncomputable def q_s5S (e : qN) (env : qE) (h : qH) (k sl : Nat) (lv : qL) (stk : List qV) : Option (List qF) := match stk with
  | y :: x :: stk =>
    bif Nat.ble 7 (q_v e) then (bif Nat.beq x.1 3 && Nat.beq y.1 0 then q_gvS env h k sl (q_pc e + 1) lv 3 (qMn (qJ x.2 <<< ((qI y.2).toInt64 &&& 63))) stk else bif Nat.beq (q_knd x) 1 && Nat.beq (q_knd y) 0 then q_goS env h k sl (q_pc e + 1) lv ((5, 0) :: stk) else none)
    else bif Nat.beq (q_knd x) 1 && Nat.beq (q_knd y) 1 then
      bif Nat.beq x.1 3 && Nat.beq y.1 3 then
        (bif Nat.ble 5 (q_v e) && decide (qJ y.2 = 0) then none else q_gvS env h k sl (q_pc e + 1) lv 3 (qMn (q_f5 (q_v e) (qJ x.2) (qJ y.2))) stk)
      else bif Nat.ble 5 (q_v e) then none else q_goS env h k sl (q_pc e + 1) lv ((5, 0) :: stk)
    else none
  | _ => none
noncomputable def q_s6S (e : qN) (env : qE) (h : qH) (k sl : Nat) (lv : qL) (stk : List qV) : Option (List qF) := match stk with
  | x :: stk => bif Nat.beq (q_knd x) (bif Nat.beq (q_v e) 1 then 1 else 0) then q_gvS env h k sl (q_pc e + 1) lv (q_s6v (q_v e) x).1 (q_s6v (q_v e) x).2 stk else none
  | _ => none
noncomputable def q_s7S (e : qN) (env : qE) (h : qH) (k sl : Nat) (lv : qL) (stk : List qV) : Option (List qF) := match stk with
  | y :: x :: stk => bif Nat.beq (q_knd x) 1 && Nat.beq (q_knd y) 1 then some ((q_lc env x y).map fun q => q_fcS q.1 fun n => (q.2, h, k, sl, q_pc e + 1, lv, (0, n) :: stk)) else none
  | _ => none
noncomputable def q_s8S (e : qN) (env : qE) (h : qH) (k sl : Nat) (lv : qL) (stk : List qV) : Option (List qF) := match stk with
  | x :: stk => bif Nat.beq (q_knd x) 0 then some ((q_cmp (q_v e) env x (0, 0)).map fun q => q_fcS (bif q.1 then q_a e else q_pc e + 3) fun pc => (q.2, h, k, sl, pc, lv, stk)) else none
  | _ => none
noncomputable def q_s9S (e : qN) (env : qE) (h : qH) (k sl : Nat) (lv : qL) (stk : List qV) : Option (List qF) := match stk with
  | y :: x :: stk => bif Nat.beq x.1 1 && Nat.beq y.1 1 && q_isPt env y then some ((q_spl env y).map fun q => (q.1, h, k, sl, q_pc e, lv, q.2 :: x :: stk)) else bif Nat.beq x.1 1 && Nat.beq y.1 1 && q_isPt env x then some ((q_spl env x).map fun q => (q.1, h, k, sl, q_pc e, lv, y :: q.2 :: stk)) else bif Nat.beq (q_knd x) 0 && Nat.beq (q_knd y) 0 then some ((q_cmp (q_v e) env x y).map fun q => q_fcS (bif q.1 then q_a e else q_pc e + 3) fun pc => (q.2, h, k, sl, pc, lv, stk)) else none
  | _ => none
noncomputable def q_s11S (e : qN) (env : qE) (h : qH) (k sl : Nat) (lv : qL) (stk : List qV) : Option (List qF) := match stk with
  | x :: stk => bif Nat.beq (q_knd x) 2 then q_goS env h k sl (bif Nat.beq x.1 7 then q_a e else q_pc e + 3) lv stk else none
  | _ => none
noncomputable def q_s27S (e : qN) (env : qE) (h : qH) (k sl : Nat) (lv : qL) (stk : List qV) : Option (List qF) := match stk with
  | x :: stk => bif Nat.beq (q_knd x) 2 then q_goS env h k sl (bif Nat.beq x.1 7 then q_pc e + 3 else q_a e) lv stk else none
  | _ => none
noncomputable def q_s12S (e : qN) (env : qE) (h : qH) (k sl : Nat) (lv : qL) (stk : List qV) : Option (List qF) := match stk with
  | x :: stk =>
    bif Nat.beq x.1 0 then q_goS env h k sl (bif Nat.blt (qI x.2).toNatClampNeg (q_t e).length && decide (0 ≤ (qI x.2).toInt) then (q_t e).getD (qI x.2).toNatClampNeg 0 else q_a e) lv stk
    else bif Nat.beq x.1 1 then some ((q_swd env x.2 (q_a e) (q_t e) ++ q_sw env x.2 (q_t e) 0).map fun q => (q.1, h, k, sl, q.2, lv, stk))
    else bif Nat.beq x.1 2 then some ((env, h, k, sl, q_a e, lv, stk) :: (q_t e).map fun t => (env, h, k, sl, t, lv, stk))
    else none
  | _ => none
noncomputable def q_s13S (e : qN) (env : qE) (h : qH) (k sl : Nat) (lv : qL) (stk : List qV) : Option (List qF) := match q_v e, stk with
  | 0, x :: stk => bif Nat.beq (q_cat x) 1 then q_goS env h k sl (q_pc e + 1) lv (x :: x :: stk) else none
  | 1, x :: stk => bif Nat.beq (q_cat x) 2 then q_goS env h k sl (q_pc e + 1) lv (x :: x :: stk) else (match stk with
    | y :: stk => bif Nat.beq (q_cat y) 1 then q_goS env h k sl (q_pc e + 1) lv (x :: y :: x :: y :: stk) else none
    | _ => none)
  | 2, x :: stk => bif Nat.beq (q_cat x) 1 then q_goS env h k sl (q_pc e + 1) lv stk else none
  | 3, x :: stk => bif Nat.beq (q_cat x) 2 then q_goS env h k sl (q_pc e + 1) lv stk else none
  | _, _ => none
noncomputable def q_s14S (e : qN) (env : qE) (h : qH) (k sl : Nat) (lv : qL) (stk : List qV) : Option (List qF) := match stk with
  | x :: stk => bif Nat.beq x.1 6 && Nat.blt x.2 h.2 && Nat.beq (h.1.get x.2).1 (q_v e) && Nat.blt (q_b e) (h.1.get x.2).2.1 then q_goS env h k sl (q_pc e + 3) lv (((h.1.get x.2).2.2.get (q_b e)) :: stk) else none
  | _ => none
noncomputable def q_ghS (env : qE) (h : qH) (k sl pc : Nat) (lv : qL) (stk : List qV) : Option (List qF) := q_goS env h k sl pc lv stk
noncomputable def q_s15S (e : qN) (env : qE) (h : qH) (k sl : Nat) (lv : qL) (stk : List qV) : Option (List qF) := match stk with
  | y :: x :: stk => bif Nat.beq x.1 6 && Nat.blt x.2 h.2 && Nat.beq (h.1.get x.2).1 (q_v e) && Nat.blt (q_b e) (h.1.get x.2).2.1 && q_fit ((q_t e).getD 0 9) y && Nat.blt 0 (q_t e).length then q_ghS env (q_put h x.2 (q_b e) y) k sl (q_pc e + 3) lv stk else none
  | _ => none
noncomputable def q_s19S (e : qN) (env : qE) (h : qH) (k sl : Nat) (lv : qL) (stk : List qV) : Option (List qF) := match stk with
  | x :: stk => bif Nat.beq x.1 6 && Nat.blt x.2 h.2 && Nat.ble 100 (h.1.get x.2).1 then q_goS env h k sl (q_pc e + 1) lv ((0, (h.1.get x.2).2.1) :: stk)
      else bif scr && Nat.beq x.1 9 then q_goS env h k sl (q_pc e + 1) lv ((0, L) :: stk) else none
  | _ => none
noncomputable def q_s20S (e : qN) (env : qE) (h : qH) (k sl : Nat) (lv : qL) (stk : List qV) : Option (List qF) := match stk with
  | y :: x :: stk =>
    bif Nat.beq y.1 0 then
      bif Nat.beq x.1 6 && Nat.blt x.2 h.2 && q_akd (q_v e) (h.1.get x.2).1 && Nat.blt y.2 (h.1.get x.2).2.1 && Nat.blt y.2 2147483648 then q_goS env h k sl (q_pc e + 1) lv (((h.1.get x.2).2.2.get y.2) :: stk)
      else bif scr && Nat.beq x.1 9 && Nat.blt y.2 L && Nat.blt y.2 2147483648 && Nat.beq (q_v e) 0 then q_goS env h k sl (q_pc e + 1) lv ((1, y.2) :: stk) else none
    else bif q_isPt env y then some ((q_spl env y).map fun q => (q.1, h, k, sl, q_pc e, lv, q.2 :: x :: stk))
    else none
  | _ => none
noncomputable def q_s21S (e : qN) (env : qE) (h : qH) (k sl : Nat) (lv : qL) (stk : List qV) : Option (List qF) := match stk with
  | z :: y :: x :: stk =>
    bif Nat.beq y.1 0 then
      bif Nat.beq x.1 6 && Nat.blt x.2 h.2 && Nat.blt y.2 (h.1.get x.2).2.1 && Nat.blt y.2 2147483648 then
        (bif Nat.ble 3 (q_v e) then (bif Nat.ble 200 (h.1.get x.2).1 && Nat.blt (h.1.get x.2).1 300 && Nat.beq z.1 6 && Nat.blt z.2 h.2 && Nat.beq (200 + (h.1.get z.2).1) (h.1.get x.2).1 then q_ghS env (q_put h x.2 y.2 z) k sl (q_pc e + 1) lv stk else none)
          else match q_kep (q_v e) (h.1.get x.2).1 z with
            | none => none
            | some z' => q_fcS z'.2 fun n => q_ghS env (q_put h x.2 y.2 (z'.1, n)) k sl (q_pc e + 1) lv stk)
      else none
    else bif q_isPt env y then some ((q_spl env y).map fun q => (q.1, h, k, sl, q_pc e, lv, z :: q.2 :: x :: stk))
    else none
  | _ => none
noncomputable def q_s25S (e : qN) (env : qE) (h : qH) (k sl : Nat) (lv : qL) (stk : List qV) : Option (List qF) := match stk with
  | x :: stk => bif Nat.beq x.1 6 && Nat.ble (stk.map q_cat).sum 8 then q_goS env h k sl (q_pc e + 3) lv stk else none
  | _ => none
noncomputable def q_s26S (e : qN) (env : qE) (h : qH) (k sl : Nat) (lv : qL) (stk : List qV) : Option (List qF) := match stk with
  | n :: dp :: y :: sp :: x :: stk =>
    bif Nat.beq n.1 0 && Nat.beq dp.1 0 && Nat.beq sp.1 0 && Nat.beq x.1 6 && Nat.beq y.1 6 && Nat.blt x.2 h.2 && Nat.blt y.2 h.2 && Nat.beq (h.1.get x.2).1 (h.1.get y.2).1 && (Nat.beq (h.1.get x.2).1 100 || Nat.beq (h.1.get x.2).1 103) && Nat.ble (sp.2 + n.2) (h.1.get x.2).2.1 && Nat.ble (dp.2 + n.2) (h.1.get y.2).2.1 && Nat.blt sp.2 2147483648 && Nat.blt dp.2 2147483648 && Nat.blt n.2 2147483648 && Nat.ble (stk.map q_cat).sum 8 then
      q_ghS env (q_ts ((h.1.get y.2).1, (h.1.get y.2).2.1, bif Nat.beq sp.2 0 && Nat.beq dp.2 0 && Nat.beq n.2 (h.1.get y.2).2.1 then (h.1.get x.2).2.2 else q_cpy (h.1.get x.2).2.2 (h.1.get y.2).2.2 sp.2 dp.2 n.2 (h.1.get y.2).2.1) y.2 h.1 0 1024, h.2) k sl (q_pc e + 3) lv stk else none
  | _ => none
noncomputable def q_s28S (e : qN) (env : qE) (h : qH) (k sl : Nat) (lv : qL) (stk : List qV) : Option (List qF) := match stk with
  | x :: stk => bif Nat.beq x.1 3 then q_gvS env h k sl (q_pc e + 1) lv 3 (qMn (-(qJ x.2))) stk else none
  | _ => none
noncomputable def q_s29S (e : qN) (env : qE) (h : qH) (k sl : Nat) (lv : qL) (stk : List qV) : Option (List qF) := match stk with
  | x :: stk => bif Nat.beq x.1 11 && Nat.blt x.2 q_lits.length && Nat.ble (stk.map q_cat).sum 8 && Nat.beq k 0 && Nat.beq sl 0 then q_gvS env h k sl (q_pc e + 3) lv 0 (q_lit x.2).length stk else none
  | _ => none
noncomputable def q_s30S (e : qN) (env : qE) (h : qH) (k sl : Nat) (lv : qL) (stk : List qV) : Option (List qF) := match stk with
  | y :: x :: stk => bif Nat.beq x.1 11 && Nat.blt x.2 q_lits.length && Nat.beq y.1 0 && Nat.blt y.2 (q_lit x.2).length && Nat.ble (stk.map q_cat).sum 8 && Nat.beq k 0 && Nat.beq sl 0 then q_gvS env h k sl (q_pc e + 3) lv 0 ((q_lit x.2).getD y.2 0) stk else none
  | _ => none
noncomputable def q_stepS (maxL : Nat) (e : qN) (env : qE) (h : qH) (k sl : Nat) (lv : qL) (stk : List qV) : Option (List qF) := match e.1 with
  | 0 => q_s0S e env h k sl lv stk
  | 1 => q_s1S e env h k sl lv stk
  | 2 => q_s2S maxL e env h k sl lv stk
  | 3 => q_s3S maxL e env h k sl lv stk
  | 4 => q_s4S e env h k sl lv stk
  | 5 => q_s5S e env h k sl lv stk
  | 6 => q_s6S e env h k sl lv stk
  | 7 => q_s7S e env h k sl lv stk
  | 8 => q_s8S e env h k sl lv stk
  | 9 => q_s9S e env h k sl lv stk
  | 10 => q_goS env h k sl (q_a e) lv stk
  | 11 => q_s11S e env h k sl lv stk
  | 12 => q_s12S e env h k sl lv stk
  | 13 => q_s13S e env h k sl lv stk
  | 14 => q_s14S e env h k sl lv stk
  | 15 => q_s15S e env h k sl lv stk
  | 16 => q_s16 mc ms e env h k sl lv stk
  | 17 => q_s17 mc ms e env h k sl lv stk
  | 18 => q_s18 mc ms e env h k sl lv stk
  | 19 => q_s19S scr L e env h k sl lv stk
  | 20 => q_s20S scr L e env h k sl lv stk
  | 21 => q_s21S e env h k sl lv stk
  | 22 => q_s22 mc ms e env h k sl lv stk
  | 25 => q_s25S e env h k sl lv stk
  | 26 => q_s26S e env h k sl lv stk
  | 27 => q_s27S e env h k sl lv stk
  | 28 => q_s28S e env h k sl lv stk
  | 29 => q_s29S e env h k sl lv stk
  | 30 => q_s30S e env h k sl lv stk
  | _ => none
end
theorem q_go_S {env : qE} {h : qH} {k sl pc : Nat} {lv : qL} {stk : List qV} : q_go env h k sl pc lv stk = q_goS env h k sl pc lv stk := by
  unfold q_go q_goS
  rw [q_fc_eq]
theorem q_gv_S {env : qE} {h : qH} {k sl pc t n : Nat} {lv : qL} {stk : List qV} : q_gv env h k sl pc lv t n stk = q_gvS env h k sl pc lv t n stk := by
  unfold q_gv q_gvS
  rw [q_fc_eq, q_go_S]
theorem q_gh_S {env : qE} {h : qH} {k sl pc : Nat} {lv : qL} {stk : List qV} : q_gh env h k sl pc lv stk = q_ghS env h k sl pc lv stk := by
  unfold q_gh q_ghS
  rw [← q_go_S]
  obtain ⟨t, n⟩ := h
  cases t <;> rfl
theorem q_ls_S {β : Type} {lv : qL} {i : Nat} {x : qV} {k : qL → β} : q_ls lv i x k = q_lsS lv i x k := by
  unfold q_ls
  rw [q_nrm_eq]

theorem q_s0_S {e : qN} {env : qE} {h : qH} {k sl : Nat} {lv : qL} {stk : List qV} : q_s0 e env h k sl lv stk = q_s0S e env h k sl lv stk := by
  unfold q_s0 q_s0S
  (simp only [q_fc_eq, q_go_S, q_gv_S, q_gh_S, q_ls_S]) <;> rfl

theorem q_s1_S {e : qN} {env : qE} {h : qH} {k sl : Nat} {lv : qL} {stk : List qV} : q_s1 e env h k sl lv stk = q_s1S e env h k sl lv stk := by
  unfold q_s1 q_s1S
  (simp only [q_fc_eq, q_go_S, q_gv_S, q_gh_S, q_ls_S]) <;> rfl

theorem q_s2_S {maxL : Nat} {e : qN} {env : qE} {h : qH} {k sl : Nat} {lv : qL} {stk : List qV} : q_s2 maxL e env h k sl lv stk = q_s2S maxL e env h k sl lv stk := by
  unfold q_s2 q_s2S
  (simp only [q_fc_eq, q_go_S, q_gv_S, q_gh_S, q_ls_S]) <;> rfl

theorem q_s3_S {maxL : Nat} {e : qN} {env : qE} {h : qH} {k sl : Nat} {lv : qL} {stk : List qV} : q_s3 maxL e env h k sl lv stk = q_s3S maxL e env h k sl lv stk := by
  unfold q_s3 q_s3S
  (simp only [q_fc_eq, q_go_S, q_gv_S, q_gh_S, q_ls_S]) <;> rfl

theorem q_s4_S {e : qN} {env : qE} {h : qH} {k sl : Nat} {lv : qL} {stk : List qV} : q_s4 e env h k sl lv stk = q_s4S e env h k sl lv stk := by
  unfold q_s4 q_s4S
  (simp only [q_fc_eq, q_go_S, q_gv_S, q_gh_S, q_ls_S]) <;> rfl

theorem q_s5_S {e : qN} {env : qE} {h : qH} {k sl : Nat} {lv : qL} {stk : List qV} : q_s5 e env h k sl lv stk = q_s5S e env h k sl lv stk := by
  unfold q_s5 q_s5S
  (simp only [q_fc_eq, q_go_S, q_gv_S, q_gh_S, q_ls_S]) <;> rfl

theorem q_s6_S {e : qN} {env : qE} {h : qH} {k sl : Nat} {lv : qL} {stk : List qV} : q_s6 e env h k sl lv stk = q_s6S e env h k sl lv stk := by
  unfold q_s6 q_s6S
  (simp only [q_fc_eq, q_go_S, q_gv_S, q_gh_S, q_ls_S]) <;> rfl

theorem q_s7_S {e : qN} {env : qE} {h : qH} {k sl : Nat} {lv : qL} {stk : List qV} : q_s7 e env h k sl lv stk = q_s7S e env h k sl lv stk := by
  unfold q_s7 q_s7S
  (simp only [q_fc_eq, q_go_S, q_gv_S, q_gh_S, q_ls_S]) <;> rfl

theorem q_s8_S {e : qN} {env : qE} {h : qH} {k sl : Nat} {lv : qL} {stk : List qV} : q_s8 e env h k sl lv stk = q_s8S e env h k sl lv stk := by
  unfold q_s8 q_s8S
  (simp only [q_fc_eq, q_go_S, q_gv_S, q_gh_S, q_ls_S]) <;> rfl

theorem q_s9_S {e : qN} {env : qE} {h : qH} {k sl : Nat} {lv : qL} {stk : List qV} : q_s9 e env h k sl lv stk = q_s9S e env h k sl lv stk := by
  unfold q_s9 q_s9S
  (simp only [q_fc_eq, q_go_S, q_gv_S, q_gh_S, q_ls_S]) <;> rfl

theorem q_s11_S {e : qN} {env : qE} {h : qH} {k sl : Nat} {lv : qL} {stk : List qV} : q_s11 e env h k sl lv stk = q_s11S e env h k sl lv stk := by
  unfold q_s11 q_s11S
  (simp only [q_fc_eq, q_go_S, q_gv_S, q_gh_S, q_ls_S]) <;> rfl

theorem q_s27_S {e : qN} {env : qE} {h : qH} {k sl : Nat} {lv : qL} {stk : List qV} : q_s27 e env h k sl lv stk = q_s27S e env h k sl lv stk := by
  unfold q_s27 q_s27S
  (simp only [q_fc_eq, q_go_S, q_gv_S, q_gh_S, q_ls_S]) <;> rfl

theorem q_s12_S {e : qN} {env : qE} {h : qH} {k sl : Nat} {lv : qL} {stk : List qV} : q_s12 e env h k sl lv stk = q_s12S e env h k sl lv stk := by
  unfold q_s12 q_s12S
  (simp only [q_fc_eq, q_go_S, q_gv_S, q_gh_S, q_ls_S]) <;> rfl

theorem q_s13_S {e : qN} {env : qE} {h : qH} {k sl : Nat} {lv : qL} {stk : List qV} : q_s13 e env h k sl lv stk = q_s13S e env h k sl lv stk := by
  unfold q_s13 q_s13S
  (simp only [q_fc_eq, q_go_S, q_gv_S, q_gh_S, q_ls_S]) <;> rfl

theorem q_s14_S {e : qN} {env : qE} {h : qH} {k sl : Nat} {lv : qL} {stk : List qV} : q_s14 e env h k sl lv stk = q_s14S e env h k sl lv stk := by
  unfold q_s14 q_s14S
  (simp only [q_fc_eq, q_go_S, q_gv_S, q_gh_S, q_ls_S]) <;> rfl

theorem q_s15_S {e : qN} {env : qE} {h : qH} {k sl : Nat} {lv : qL} {stk : List qV} : q_s15 e env h k sl lv stk = q_s15S e env h k sl lv stk := by
  unfold q_s15 q_s15S
  (simp only [q_fc_eq, q_go_S, q_gv_S, q_gh_S, q_ls_S]) <;> rfl

theorem q_s19_S {scr : Bool} {L : Nat} {e : qN} {env : qE} {h : qH} {k sl : Nat} {lv : qL} {stk : List qV} : q_s19 scr L e env h k sl lv stk = q_s19S scr L e env h k sl lv stk := by
  unfold q_s19 q_s19S
  (simp only [q_fc_eq, q_go_S, q_gv_S, q_gh_S, q_ls_S]) <;> rfl

theorem q_s20_S {scr : Bool} {L : Nat} {e : qN} {env : qE} {h : qH} {k sl : Nat} {lv : qL} {stk : List qV} : q_s20 scr L e env h k sl lv stk = q_s20S scr L e env h k sl lv stk := by
  unfold q_s20 q_s20S
  (simp only [q_fc_eq, q_go_S, q_gv_S, q_gh_S, q_ls_S]) <;> rfl

theorem q_s21_S {e : qN} {env : qE} {h : qH} {k sl : Nat} {lv : qL} {stk : List qV} : q_s21 e env h k sl lv stk = q_s21S e env h k sl lv stk := by
  unfold q_s21 q_s21S
  (simp only [q_fc_eq, q_go_S, q_gv_S, q_gh_S, q_ls_S]) <;> rfl

theorem q_s25_S {e : qN} {env : qE} {h : qH} {k sl : Nat} {lv : qL} {stk : List qV} : q_s25 e env h k sl lv stk = q_s25S e env h k sl lv stk := by
  unfold q_s25 q_s25S
  (simp only [q_fc_eq, q_go_S, q_gv_S, q_gh_S, q_ls_S]) <;> rfl

theorem q_s26_S {e : qN} {env : qE} {h : qH} {k sl : Nat} {lv : qL} {stk : List qV} : q_s26 e env h k sl lv stk = q_s26S e env h k sl lv stk := by
  unfold q_s26 q_s26S
  (simp only [q_fc_eq, q_go_S, q_gv_S, q_gh_S, q_ls_S]) <;> rfl

theorem q_s28_S {e : qN} {env : qE} {h : qH} {k sl : Nat} {lv : qL} {stk : List qV} : q_s28 e env h k sl lv stk = q_s28S e env h k sl lv stk := by
  unfold q_s28 q_s28S
  (simp only [q_fc_eq, q_go_S, q_gv_S, q_gh_S, q_ls_S]) <;> rfl

theorem q_s29_S {e : qN} {env : qE} {h : qH} {k sl : Nat} {lv : qL} {stk : List qV} : q_s29 e env h k sl lv stk = q_s29S e env h k sl lv stk := by
  unfold q_s29 q_s29S
  (simp only [q_fc_eq, q_go_S, q_gv_S, q_gh_S, q_ls_S]) <;> rfl

theorem q_s30_S {e : qN} {env : qE} {h : qH} {k sl : Nat} {lv : qL} {stk : List qV} : q_s30 e env h k sl lv stk = q_s30S e env h k sl lv stk := by
  unfold q_s30 q_s30S
  (simp only [q_fc_eq, q_go_S, q_gv_S, q_gh_S, q_ls_S]) <;> rfl

theorem q_step_S {mc ms : Nat} {scr : Bool} {L maxL : Nat} {e : qN} {env : qE} {h : qH} {k sl : Nat} {lv : qL} {stk : List qV} : q_step mc ms scr L maxL e env h k sl lv stk = q_stepS mc ms scr L maxL e env h k sl lv stk := by
  unfold q_step q_stepS
  (simp only [q_s0_S, q_s1_S, q_s2_S, q_s3_S, q_s4_S, q_s5_S, q_s6_S, q_s7_S, q_s8_S, q_s9_S, q_s11_S, q_s27_S, q_s12_S, q_s13_S, q_s14_S, q_s15_S, q_s19_S, q_s20_S, q_s21_S, q_s25_S, q_s26_S, q_s28_S, q_s29_S, q_s30_S, q_go_S]) <;> rfl

/-- one more instruction, nothing forced -/
noncomputable def q_a1S (tab : Nat → qM) (M : qM) (scr : Bool) (L : Nat) (env : qE) (h : qH) (k sl pc : Nat) (lv : qL) (stk : List qV) : Option (List qF) :=
  match (q_mI M).get pc with
  | (op, p, v, a, b, w, t) =>
    bif Nat.beq p pc && !(Nat.beq op 24) && !(Nat.beq op 23) then q_stepS (q_mc M) (q_ms M) scr L (q_mL M) (op, p, v, a, b, w, t) env h k sl lv stk else none
/-- some bound does -/
def q_GE (tab : Nat → qM) (call : q_call) (M : qM) (scr : Bool) (L : Nat) (fr : qF) (P : qO → Prop) : Prop := ∃ n, q_GF tab call M scr L n fr P
section
variable {tab : Nat → qM} {call : q_call} {M : qM} {scr : Bool} {L : Nat} {env : qE} {h : qH} {k sl pc : Nat} {lv : qL} {stk : List qV} {P : qO → Prop}
theorem q_x1 {fr : qF} (hs : q_a1S tab M scr L env h k sl pc lv stk = some [fr]) (hn : q_GE tab call M scr L fr P) : q_GE tab call M scr L (env, h, k, sl, pc, lv, stk) P := by
  obtain ⟨n, hn⟩ := hn
  refine ⟨n + 1, Or.inl ?_⟩
  unfold q_a1S at hs
  show q_pc ((q_mI M).get pc) = pc ∧ _
  generalize he : (q_mI M).get pc = e at hs
  obtain ⟨op, p, v, a, b, w, t⟩ := e
  obtain ⟨hp, hs⟩ := q_bt (b := Nat.beq p pc && !(Nat.beq op 24) && !(Nat.beq op 23)) hs
  simp only [Bool.and_eq_true] at hp
  rw [← q_step_S] at hs
  exact ⟨Nat.eq_of_beq_eq_true hp.1.1, Or.inr (Or.inr ⟨[fr], hs, fun f hf => by rw [List.mem_singleton.mp hf]; exact hn⟩)⟩
/-- a run of such instructions -/
noncomputable def q_advS (tab : Nat → qM) (M : qM) (scr : Bool) (L : Nat) (n : Nat) : qE → qH → Nat → Nat → Nat → qL → List qV → Option qF :=
  Nat.rec (motive := fun _ => qE → qH → Nat → Nat → Nat → qL → List qV → Option qF) (fun env h k sl pc lv stk => some (env, h, k, sl, pc, lv, stk))
    (fun _ ih env h k sl pc lv stk => match q_a1S tab M scr L env h k sl pc lv stk with
      | some [(env, h, k, sl, pc, lv, stk)] => ih env h k sl pc lv stk
      | _ => none) n
theorem q_xs {fr : qF} (hn : q_GE tab call M scr L fr P) : ∀ (n : Nat) {env : qE} {h : qH} {k sl pc : Nat} {lv : qL} {stk : List qV}, q_advS tab M scr L n env h k sl pc lv stk = some fr → q_GE tab call M scr L (env, h, k, sl, pc, lv, stk) P
  | 0, env, h, k, sl, pc, lv, stk, hs => by
    have hs : some (env, h, k, sl, pc, lv, stk) = some fr := hs
    cases hs
    exact hn
  | n + 1, env, h, k, sl, pc, lv, stk, hs => by
    have hs : (match q_a1S tab M scr L env h k sl pc lv stk with
      | some [(env, h, k, sl, pc, lv, stk)] => q_advS tab M scr L n env h k sl pc lv stk
      | _ => none) = some fr := hs
    cases ha : q_a1S tab M scr L env h k sl pc lv stk with
    | none => rw [ha] at hs; cases hs
    | some nx =>
      rw [ha] at hs
      rcases nx with _ | ⟨⟨env2, h2, k2, sl2, pc2, lv2, stk2⟩, _ | ⟨g, nx⟩⟩
      · cases hs
      · exact q_x1 ha (q_xs hn n hs)
      · cases hs
/-- a call by what is known of it -/
theorem q_xc {e : qN} {av rest : List qV} {P' : qO → Prop} (hc : q_cMono call) (he : (q_mI M).get pc = e) (hpc : q_pc e = pc) (h23 : e.1 = 23) (hst : stk = av.reverse ++ rest) (hlen : av.length = (if q_mK (tab (q_w e)) = 0 then q_mA (tab (q_w e)) else q_mA (tab (q_w e)) + 1)) (hrcv : q_rcv (q_mK (tab (q_w e))) (q_mC (tab (q_w e))) h av = true) (h8 : (rest.map q_cat).sum ≤ 8) (c1 : k + q_mc (tab (q_w e)) ≤ q_mc M) (c2 : sl + q_ms (tab (q_w e)) ≤ q_ms M)
    (hcall : call (q_w e) env h av P') {n : Nat} (hn : ∀ o, P' o → q_GF tab call M scr L n (o.1, o.2.1, k + q_mc (tab (q_w e)), sl + q_ms (tab (q_w e)), pc + 3, lv, o.2.2.toList ++ rest) P) : q_GE tab call M scr L (env, h, k, sl, pc, lv, stk) P := by
  refine ⟨n + 1, Or.inl ?_⟩
  subst he
  exact ⟨hpc, Or.inr (Or.inl ⟨h23, av, rest, hst, hlen, hrcv, h8, c1, c2, hc _ _ _ _ _ _ hn hcall⟩)⟩
/-- a return -/
theorem q_xr {e : qN} {r : Option qV} (he : (q_mI M).get pc = e) (hpc : q_pc e = pc) (h24 : e.1 = 24) (hr : q_rvo (q_mT M) (q_v e) stk = some r) (c1 : k ≤ q_mc M) (c2 : sl ≤ q_ms M) (hP : P (env, h, r)) : q_GE tab call M scr L (env, h, k, sl, pc, lv, stk) P := by
  refine ⟨1, Or.inl ?_⟩
  subst he
  exact ⟨hpc, Or.inl ⟨h24, r, hr, c1, c2, hP⟩⟩
/-- another frame that says no more -/
theorem q_xv {fr f : qF} (hI : q_cov fr (fun g => g = f)) (hn : q_GE tab call M scr L f P) : q_GE tab call M scr L fr P := by
  obtain ⟨n, hn⟩ := hn
  exact ⟨n + 1, Or.inr ⟨fun g => g = f, hI, fun g hg => by rw [hg]; exact hn⟩⟩
end
