-- 18.run: the abstract machine as a program; what it says holds
noncomputable def q_ap (a b : Option (List qO)) : Option (List qO) := match a with
  | none => none
  | some x => (match b with
    | none => none
    | some y => some (x ++ y))
noncomputable def q_fr (ih : qE → qH → Nat → Nat → Nat → qL → List qV → Option (List qO)) (nx : List qF) : Option (List qO) :=
  List.rec (motive := fun _ => Option (List qO)) (some []) (fun f fs r => match f with
    | (env, h, k, sl, pc, lv, stk) => (match fs with
      | [] => ih env h k sl pc lv stk
      | _ :: _ => q_ap (ih env h k sl pc lv stk) r)) nx
noncomputable def q_spt (n : Nat) : List qV → List qV → Option (List qV × List qV) := Nat.rec (motive := fun _ => List qV → List qV → Option (List qV × List qV)) (fun stk acc => some (acc, stk))
  (fun _ ih stk acc => match stk with
    | [] => none
    | x :: stk => ih stk (x :: acc)) n
noncomputable def q_fo (ih : qE → qH → Nat → Nat → Nat → qL → List qV → Option (List qO)) (k sl pc : Nat) (lv : qL) (rest : List qV) (os : List qO) : Option (List qO) :=
  List.rec (motive := fun _ => Option (List qO)) (some []) (fun o os r => match o with
    | (env, h, x) => (match os with
      | [] => ih env h k sl pc lv (match x with
        | none => rest
        | some y => y :: rest)
      | _ :: _ => q_ap (ih env h k sl pc lv (match x with
        | none => rest
        | some y => y :: rest)) r)) os
abbrev q_ccall : Type := Nat → qE → qH → List qV → Option (List qO)
noncomputable def q_ca (call : q_ccall) (M M' : qM) (id : Nat) (ih : qE → qH → Nat → Nat → Nat → qL → List qV → Option (List qO)) (env : qE) (h : qH) (k sl pc : Nat) (lv : qL) (stk : List qV) : Option (List qO) :=
  match q_spt (bif Nat.beq (q_mK M') 0 then q_mA M' else q_mA M' + 1) stk [] with
  | none => none
  | some (av, rest) =>
    bif q_rcv (q_mK M') (q_mC M') h av && (Nat.ble (rest.map q_cat).sum 8 && (Nat.ble (k + q_mc M') (q_mc M) && Nat.ble (sl + q_ms M') (q_ms M))) then
      (match call id env h av with
      | none => none
      | some os => q_fc (k + q_mc M') fun k1 => q_fc (sl + q_ms M') fun s1 => q_fc (pc + 3) fun pc1 => q_fo ih k1 s1 pc1 lv rest os)
    else none
noncomputable def q_body (tab : Nat → qM) (call : q_ccall) (M : qM) (scr : Bool) (L : Nat) (ih : qE → qH → Nat → Nat → Nat → qL → List qV → Option (List qO)) (env : qE) (h : qH) (k sl pc : Nat) (lv : qL) (stk : List qV) : Option (List qO) :=
  match (q_mI M).get pc with
  | (op, p, v, a, b, w, t) =>
    bif Nat.beq p pc then
      bif Nat.beq op 24 then
        (match q_rvo (q_mT M) v stk with
        | none => none
        | some r => bif Nat.ble k (q_mc M) && Nat.ble sl (q_ms M) then some [(env, h, r)] else none)
      else bif Nat.beq op 23 then q_ca call M (tab w) w ih env h k sl pc lv stk
      else (match q_step (q_mc M) (q_ms M) scr L (q_mL M) (op, p, v, a, b, w, t) env h k sl lv stk with
        | none => none
        | some nx => q_fr ih nx)
    else none
noncomputable def q_rf (tab : Nat → qM) (call : q_ccall) (M : qM) (scr : Bool) (L : Nat) (n : Nat) : qE → qH → Nat → Nat → Nat → qL → List qV → Option (List qO) :=
  Nat.rec (motive := fun _ => qE → qH → Nat → Nat → Nat → qL → List qV → Option (List qO)) (fun _ _ _ _ _ _ _ => none) (fun _ ih => q_body tab call M scr L ih) n
noncomputable def q_cM (tab : Nat → qM) (fuel : Nat) (d : Nat) : q_ccall := Nat.rec (motive := fun _ => q_ccall) (fun _ _ _ _ => none)
  (fun _ ih id env h av => bif Nat.ble (av.map q_cat).sum (q_mL (tab id)) then q_nrm (q_args 0 av) fun lv => q_rf tab ih (tab id) false 0 fuel env h 0 0 0 lv [] else none) d
