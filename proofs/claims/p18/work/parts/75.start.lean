-- 75.start: from the entry to the loop: the machine as a program; what it says holds
noncomputable def q_ap (a b : Option (List qO)) : Option (List qO) := match a with
  | none => none
  | some x => (match b with
    | none => none
    | some y => some (x ++ y))
noncomputable def q_fr (ih : qE → qH → Nat → Nat → Nat → qL → List qV → Option (List qO)) (nx : List qF) : Option (List qO) :=
  List.rec (motive := fun _ => Option (List qO)) (some []) (fun f fs r => match f with
    | (env, h, k, sl, pc, lv, stk) => (match fs with
      | [] => ih env h k sl pc lv stk
      | _ :: _ => q_ap (ih env h k sl pc lv stk) r)) nx
noncomputable def q_spt (n : Nat) : List qV → List qV → Option (List qV × List qV) := Nat.rec (motive := fun _ => List qV → List qV → Option (List qV × List qV)) (fun stk acc => some (acc, stk))
  (fun _ ih stk acc => match stk with
    | [] => none
    | x :: stk => ih stk (x :: acc)) n
noncomputable def q_cns (x : Option qV) (rest : List qV) : List qV := match x with
  | none => rest
  | some y => y :: rest
noncomputable def q_fo (ih : qE → qH → Nat → Nat → Nat → qL → List qV → Option (List qO)) (k sl pc : Nat) (lv : qL) (rest : List qV) (os : List qO) : Option (List qO) :=
  List.rec (motive := fun _ => Option (List qO)) (some []) (fun o os r => match o with
    | (env, h, x) => (match os with
      | [] => ih env h k sl pc lv (q_cns x rest)
      | _ :: _ => q_ap (ih env h k sl pc lv (q_cns x rest)) r)) os
abbrev q_ccall : Type := Nat → qE → qH → List qV → Option (List qO)
noncomputable def q_ca (call : q_ccall) (M M' : qM) (id : Nat) (ih : qE → qH → Nat → Nat → Nat → qL → List qV → Option (List qO)) (env : qE) (h : qH) (k sl pc : Nat) (lv : qL) (stk : List qV) : Option (List qO) :=
  match q_spt (bif Nat.beq (q_mK M') 0 then q_mA M' else q_mA M' + 1) stk [] with
  | none => none
  | some (av, rest) =>
    bif q_rcv (q_mK M') (q_mC M') h av && (Nat.ble (rest.map q_cat).sum 8 && (Nat.ble (k + q_mc M') (q_mc M) && Nat.ble (sl + q_ms M') (q_ms M))) then
      (match call id env h av with
      | none => none
      | some os => q_fc (k + q_mc M') fun k1 => q_fc (sl + q_ms M') fun s1 => q_fc (pc + 3) fun pc1 => q_fo ih k1 s1 pc1 lv rest os)
    else none
noncomputable def q_body (tab : Nat → qM) (call : q_ccall) (M : qM) (scr : Bool) (L : Nat) (ih : qE → qH → Nat → Nat → Nat → qL → List qV → Option (List qO)) (env : qE) (h : qH) (k sl pc : Nat) (lv : qL) (stk : List qV) : Option (List qO) :=
  match (q_mI M).get pc with
  | (op, p, v, a, b, w, t) =>
    bif Nat.beq p pc then
      bif Nat.beq op 24 then
        (match q_rvo (q_mT M) v stk with
        | none => none
        | some r => bif Nat.ble k (q_mc M) && Nat.ble sl (q_ms M) then some [(env, h, r)] else none)
      else bif Nat.beq op 23 then q_ca call M (tab w) w ih env h k sl pc lv stk
      else (match q_step (q_mc M) (q_ms M) scr L (q_mL M) (op, p, v, a, b, w, t) env h k sl lv stk with
        | none => none
        | some nx => q_fr ih nx)
    else none
noncomputable def q_rf (tab : Nat → qM) (call : q_ccall) (M : qM) (scr : Bool) (L : Nat) (n : Nat) : qE → qH → Nat → Nat → Nat → qL → List qV → Option (List qO) :=
  Nat.rec (motive := fun _ => qE → qH → Nat → Nat → Nat → qL → List qV → Option (List qO)) (fun _ _ _ _ _ _ _ => none) (fun _ ih => q_body tab call M scr L ih) n
noncomputable def q_cM (tab : Nat → qM) (fuel : Nat) (d : Nat) : q_ccall := Nat.rec (motive := fun _ => q_ccall) (fun _ _ _ _ => none)
  (fun _ ih id env h av => bif Nat.ble (av.map q_cat).sum (q_mL (tab id)) then q_nrm (q_args 0 av) fun lv => q_rf tab ih (tab id) false 0 fuel env h 0 0 0 lv [] else none) d

theorem q_ap_some {a b : Option (List qO)} {os : List qO} (h : q_ap a b = some os) : ∃ x y, a = some x ∧ b = some y ∧ os = x ++ y := by
  unfold q_ap at h
  cases a with
  | none => cases h
  | some x => cases b with
    | none => cases h
    | some y => exact ⟨x, y, rfl, rfl, (Option.some.inj h).symm⟩
theorem q_fr_in {ih : qE → qH → Nat → Nat → Nat → qL → List qV → Option (List qO)} : ∀ {nx : List qF} {os : List qO}, q_fr ih nx = some os → ∀ f ∈ nx, ∃ os', ih f.1 f.2.1 f.2.2.1 f.2.2.2.1 f.2.2.2.2.1 f.2.2.2.2.2.1 f.2.2.2.2.2.2 = some os' ∧ ∀ o ∈ os', o ∈ os
  | [], _, _, f, hf => absurd hf List.not_mem_nil
  | [g], os, h, f, hf => by
    obtain ⟨env, hh, k, sl, pc, lv, stk⟩ := g
    have h : ih env hh k sl pc lv stk = some os := h
    rw [List.mem_singleton.mp hf]
    exact ⟨os, h, fun o ho => ho⟩
  | g :: g2 :: gs, os, h, f, hf => by
    obtain ⟨env, hh, k, sl, pc, lv, stk⟩ := g
    have h : q_ap (ih env hh k sl pc lv stk) (q_fr ih (g2 :: gs)) = some os := h
    obtain ⟨x, y, hx, hy, rfl⟩ := q_ap_some h
    rcases List.mem_cons.mp hf with rfl | hf
    · exact ⟨x, hx, fun o ho => List.mem_append_left _ ho⟩
    · obtain ⟨os', h1, h2⟩ := q_fr_in hy f hf
      exact ⟨os', h1, fun o ho => List.mem_append_right _ (h2 o ho)⟩
theorem q_cns_eq {x : Option qV} {rest : List qV} : q_cns x rest = x.toList ++ rest := by cases x <;> rfl
theorem q_fo_in {ih : qE → qH → Nat → Nat → Nat → qL → List qV → Option (List qO)} {k sl pc : Nat} {lv : qL} {rest : List qV} : ∀ {oo os : List qO}, q_fo ih k sl pc lv rest oo = some os → ∀ o ∈ oo, ∃ os', ih o.1 o.2.1 k sl pc lv (o.2.2.toList ++ rest) = some os' ∧ ∀ p ∈ os', p ∈ os
  | [], _, _, f, hf => absurd hf List.not_mem_nil
  | [g], os, h, f, hf => by
    obtain ⟨env, hh, x⟩ := g
    have h : ih env hh k sl pc lv (q_cns x rest) = some os := h
    rw [q_cns_eq] at h
    rw [List.mem_singleton.mp hf]
    exact ⟨os, h, fun o ho => ho⟩
  | g :: g2 :: gs, os, h, f, hf => by
    obtain ⟨env, hh, x⟩ := g
    have h : q_ap (ih env hh k sl pc lv (q_cns x rest)) (q_fo ih k sl pc lv rest (g2 :: gs)) = some os := h
    rw [q_cns_eq] at h
    obtain ⟨x, y, hx, hy, rfl⟩ := q_ap_some h
    rcases List.mem_cons.mp hf with rfl | hf
    · exact ⟨x, hx, fun o ho => List.mem_append_left _ ho⟩
    · obtain ⟨os', h1, h2⟩ := q_fo_in hy f hf
      exact ⟨os', h1, fun o ho => List.mem_append_right _ (h2 o ho)⟩
theorem q_spt_ok : ∀ {n : Nat} {stk acc av rest : List qV}, q_spt n stk acc = some (av, rest) → ∃ xs, xs.length = n ∧ av = xs ++ acc ∧ stk = xs.reverse ++ rest
  | 0, stk, acc, av, rest, h => by
    have h : some (acc, stk) = some (av, rest) := h
    cases h
    exact ⟨[], rfl, rfl, rfl⟩
  | n + 1, [], acc, av, rest, h => by
    have h : (none : Option (List qV × List qV)) = some (av, rest) := h
    cases h
  | n + 1, x :: stk, acc, av, rest, h => by
    have h : q_spt n stk (x :: acc) = some (av, rest) := h
    obtain ⟨xs, h1, h2, h3⟩ := q_spt_ok h
    exact ⟨xs ++ [x], by rw [List.length_append, h1]; rfl, by rw [h2, List.append_assoc]; rfl, by rw [h3, List.reverse_append]; rfl⟩
theorem q_rf_ok {tab : Nat → qM} {cc : q_ccall} {call : q_call} {M : qM} {scr : Bool} {L : Nat} (hcall : ∀ id env h av os, cc id env h av = some os → ∀ P : qO → Prop, (∀ o ∈ os, P o) → call id env h av P) :
    ∀ (n : Nat) (env : qE) (h : qH) (k sl pc : Nat) (lv : qL) (stk : List qV) (os : List qO), q_rf tab cc M scr L n env h k sl pc lv stk = some os → ∀ P : qO → Prop, (∀ o ∈ os, P o) → q_GF tab call M scr L n (env, h, k, sl, pc, lv, stk) P := by
  intro n
  induction n with
  | zero => intro env h k sl pc lv stk os hs; cases hs
  | succ n ih =>
    intro env h k sl pc lv stk os hs P hP
    have hs : q_body tab cc M scr L (q_rf tab cc M scr L n) env h k sl pc lv stk = some os := hs
    unfold q_body at hs
    refine Or.inl ?_
    show q_pc ((q_mI M).get pc) = pc ∧ _
    generalize he : (q_mI M).get pc = e at hs
    obtain ⟨op, p, v, a, b, w, t⟩ := e
    obtain ⟨hp, hs⟩ := q_bt (b := Nat.beq p pc) (x := bif Nat.beq op 24 then
        (match q_rvo (q_mT M) v stk with
        | none => none
        | some r => bif Nat.ble k (q_mc M) && Nat.ble sl (q_ms M) then some [(env, h, r)] else none)
      else bif Nat.beq op 23 then q_ca cc M (tab w) w (q_rf tab cc M scr L n) env h k sl pc lv stk
      else (match q_step (q_mc M) (q_ms M) scr L (q_mL M) (op, p, v, a, b, w, t) env h k sl lv stk with
        | none => none
        | some nx => q_fr (q_rf tab cc M scr L n) nx)) hs
    refine ⟨Nat.eq_of_beq_eq_true hp, ?_⟩
    rcases q_bf hs with ⟨h24, hs⟩ | ⟨h24, hs⟩
    · refine Or.inl ⟨Nat.eq_of_beq_eq_true h24, ?_⟩
      cases hr : q_rvo (q_mT M) v stk with
      | none => rw [hr] at hs; cases hs
      | some r =>
        rw [hr] at hs
        obtain ⟨hk, hs⟩ := q_bt hs
        rw [Bool.and_eq_true] at hk
        cases hs
        exact ⟨r, rfl, Nat.le_of_ble_eq_true hk.1, Nat.le_of_ble_eq_true hk.2, hP _ (List.mem_singleton.mpr rfl)⟩
    · rcases q_bf hs with ⟨h23, hs⟩ | ⟨h23, hs⟩
      · refine Or.inr (Or.inl ⟨Nat.eq_of_beq_eq_true h23, ?_⟩)
        unfold q_ca at hs
        cases hsp : q_spt (bif Nat.beq (q_mK (tab w)) 0 then q_mA (tab w) else q_mA (tab w) + 1) stk [] with
        | none => rw [hsp] at hs; cases hs
        | some ar =>
          obtain ⟨av, rest⟩ := ar
          rw [hsp] at hs
          obtain ⟨xs, x1, x2, x3⟩ := q_spt_ok hsp
          rw [List.append_nil] at x2
          subst x2
          obtain ⟨hk, hs⟩ := q_bt hs
          simp only [Bool.and_eq_true] at hk
          obtain ⟨k1, k2, k3, k4⟩ := hk
          cases hc : cc w env h av with
          | none => rw [hc] at hs; cases hs
          | some oo =>
            rw [hc] at hs
            have hs : (q_fc (k + q_mc (tab w)) fun k1 => q_fc (sl + q_ms (tab w)) fun s1 => q_fc (pc + 3) fun pc1 => q_fo (q_rf tab cc M scr L n) k1 s1 pc1 lv rest oo) = some os := hs
            rw [q_fc_eq, q_fc_eq, q_fc_eq] at hs
            refine ⟨av, rest, x3, ?_, k1, Nat.le_of_ble_eq_true k2, Nat.le_of_ble_eq_true k3, Nat.le_of_ble_eq_true k4, hcall _ _ _ _ _ hc _ fun o ho => ?_⟩
            · rw [x1, q_beq]
              by_cases h0 : q_mK (tab w) = 0 <;> simp [h0]
            · obtain ⟨os', h1, h2⟩ := q_fo_in hs o ho
              exact ih _ _ _ _ _ _ _ os' h1 P (fun p hp => hP p (h2 p hp))
      · refine Or.inr (Or.inr ?_)
        cases hst : q_step (q_mc M) (q_ms M) scr L (q_mL M) (op, p, v, a, b, w, t) env h k sl lv stk with
        | none => rw [hst] at hs; cases hs
        | some nx =>
          rw [hst] at hs
          refine ⟨nx, rfl, fun f hf => ?_⟩
          obtain ⟨os', h1, h2⟩ := q_fr_in hs f hf
          exact ih _ _ _ _ _ _ _ os' h1 P (fun p hp => hP p (h2 p hp))
theorem q_cM_ok {tab : Nat → qM} {fuel : Nat} : ∀ (d id : Nat) (env : qE) (h : qH) (av : List qV) (os : List qO), q_cM tab fuel d id env h av = some os → ∀ P : qO → Prop, (∀ o ∈ os, P o) → q_GM tab d id env h av P
  | 0, _, _, _, _, _, h, _, _ => by cases h
  | d + 1, id, env, h, av, os, hs, P, hP => by
    have hs : (bif Nat.ble (av.map q_cat).sum (q_mL (tab id)) then q_nrm (q_args 0 av) fun lv => q_rf tab (q_cM tab fuel d) (tab id) false 0 fuel env h 0 0 0 lv [] else none) = some os := hs
    obtain ⟨h1, hs⟩ := q_bt hs
    rw [q_nrm_eq] at hs
    exact ⟨Nat.le_of_ble_eq_true h1, fuel, q_rf_ok (fun id env h av os hs P hP => q_cM_ok d id env h av os hs P hP) fuel _ _ _ _ _ _ _ os hs P hP⟩
-- what is done without the script is done with it
theorem q_step_L {mc ms L maxL : Nat} {e : qN} {env : qE} {h : qH} {k sl : Nat} {lv : qL} {stk : List qV} {nx : List qF} (hs : q_step mc ms false 0 maxL e env h k sl lv stk = some nx) : q_step mc ms true L maxL e env h k sl lv stk = some nx := by
  obtain ⟨op, p, v, a, b, w, t⟩ := e
  by_cases h19 : op = 19
  · subst h19
    have hs : q_s19 false 0 (19, p, v, a, b, w, t) env h k sl lv stk = some nx := hs
    show q_s19 true L (19, p, v, a, b, w, t) env h k sl lv stk = some nx
    unfold q_s19 at hs ⊢
    rcases stk with _ | ⟨x, stk⟩
    · cases hs
    · cases hA : (Nat.beq x.1 6 && Nat.blt x.2 h.2 && Nat.ble 100 (h.1.get x.2).1) with
      | true =>
        simp only [hA, cond_true] at hs ⊢
        exact hs
      | false =>
        simp only [hA, cond_false, Bool.false_and] at hs
        cases hs
  by_cases h20 : op = 20
  · subst h20
    have hs : q_s20 false 0 (20, p, v, a, b, w, t) env h k sl lv stk = some nx := hs
    show q_s20 true L (20, p, v, a, b, w, t) env h k sl lv stk = some nx
    unfold q_s20 at hs ⊢
    rcases stk with _ | ⟨y, _ | ⟨x, stk⟩⟩
    · cases hs
    · cases hs
    · cases hy : Nat.beq y.1 0 with
      | false =>
        simp only [hy, cond_false] at hs ⊢
        exact hs
      | true =>
        cases hA : (Nat.beq x.1 6 && Nat.blt x.2 h.2 && q_akd v (h.1.get x.2).1 && Nat.blt y.2 (h.1.get x.2).2.1 && Nat.blt y.2 2147483648) with
        | true =>
          simp only [hy, hA, cond_true] at hs ⊢
          exact hs
        | false =>
          simp only [hy, hA, cond_true, cond_false, Bool.false_and] at hs
          cases hs
  rcases op with _ | _ | _ | _ | _ | _ | _ | _ | _ | _ | _ | _ | _ | _ | _ | _ | _ | _ | _ | _ | _ | _ | _ | _ | _ | _ | _ | _ | _ | _ | _ | op
  all_goals first | exact hs | exact absurd rfl h19 | exact absurd rfl h20
-- straight on
noncomputable def q_a1 (tab : Nat → qM) (cc : q_ccall) (M : qM) (env : qE) (h : qH) (k sl pc : Nat) (lv : qL) (stk : List qV) : Option (List qF) :=
  match (q_mI M).get pc with
  | (op, p, v, a, b, w, t) =>
    bif Nat.beq p pc && !(Nat.beq op 24) then
      bif Nat.beq op 23 then
        (match q_spt (bif Nat.beq (q_mK (tab w)) 0 then q_mA (tab w) else q_mA (tab w) + 1) stk [] with
        | none => none
        | some (av, rest) =>
          bif q_rcv (q_mK (tab w)) (q_mC (tab w)) h av && (Nat.ble (rest.map q_cat).sum 8 && (Nat.ble (k + q_mc (tab w)) (q_mc M) && Nat.ble (sl + q_ms (tab w)) (q_ms M))) then
            (match cc w env h av with
            | none => none
            | some os => q_fc (k + q_mc (tab w)) fun k1 => q_fc (sl + q_ms (tab w)) fun s1 => q_fc (pc + 3) fun pc1 => some (os.map fun o => (o.1, o.2.1, k1, s1, pc1, lv, o.2.2.toList ++ rest)))
          else none)
      else q_step (q_mc M) (q_ms M) false 0 (q_mL M) (op, p, v, a, b, w, t) env h k sl lv stk
    else none
theorem q_a1_ok {tab : Nat → qM} {cc : q_ccall} {call : q_call} {M : qM} {L : Nat} (hcall : ∀ id env h av os, cc id env h av = some os → ∀ P : qO → Prop, (∀ o ∈ os, P o) → call id env h av P) {env : qE} {h : qH} {k sl pc : Nat} {lv : qL} {stk : List qV} {nx : List qF} (hs : q_a1 tab cc M env h k sl pc lv stk = some nx) {P : qO → Prop} {n : Nat} (hn : ∀ f ∈ nx, q_GF tab call M true L n f P) : q_GF tab call M true L (n + 1) (env, h, k, sl, pc, lv, stk) P := by
  unfold q_a1 at hs
  refine Or.inl ?_
  show q_pc ((q_mI M).get pc) = pc ∧ _
  generalize he : (q_mI M).get pc = e at hs
  obtain ⟨op, p, v, a, b, w, t⟩ := e
  obtain ⟨hp, hs⟩ := q_bt (b := Nat.beq p pc && !(Nat.beq op 24)) hs
  rw [Bool.and_eq_true] at hp
  refine ⟨Nat.eq_of_beq_eq_true hp.1, Or.inr ?_⟩
  rcases q_bf hs with ⟨h23, hs⟩ | ⟨h23, hs⟩
  · refine Or.inl ⟨Nat.eq_of_beq_eq_true h23, ?_⟩
    cases hsp : q_spt (bif Nat.beq (q_mK (tab w)) 0 then q_mA (tab w) else q_mA (tab w) + 1) stk [] with
    | none => rw [hsp] at hs; cases hs
    | some ar =>
      obtain ⟨av, rest⟩ := ar
      rw [hsp] at hs
      obtain ⟨xs, x1, x2, x3⟩ := q_spt_ok hsp
      rw [List.append_nil] at x2
      subst x2
      obtain ⟨hk, hs⟩ := q_bt hs
      simp only [Bool.and_eq_true] at hk
      obtain ⟨k1, k2, k3, k4⟩ := hk
      cases hc : cc w env h av with
      | none => rw [hc] at hs; cases hs
      | some oo =>
        rw [hc] at hs
        have hs : (q_fc (k + q_mc (tab w)) fun k1 => q_fc (sl + q_ms (tab w)) fun s1 => q_fc (pc + 3) fun pc1 => some (oo.map fun o => (o.1, o.2.1, k1, s1, pc1, lv, o.2.2.toList ++ rest))) = some nx := hs
        rw [q_fc_eq, q_fc_eq, q_fc_eq] at hs
        cases hs
        refine ⟨av, rest, x3, ?_, k1, Nat.le_of_ble_eq_true k2, Nat.le_of_ble_eq_true k3, Nat.le_of_ble_eq_true k4, hcall _ _ _ _ _ hc _ fun o ho => ?_⟩
        · rw [x1, q_beq]
          by_cases h0 : q_mK (tab w) = 0 <;> simp [h0]
        · exact hn _ (List.mem_map.mpr ⟨o, ho, rfl⟩)
  · refine Or.inr ?_
    exact ⟨nx, q_step_L hs, hn⟩
noncomputable def q_adv (tab : Nat → qM) (cc : q_ccall) (M : qM) (stop : Nat) (n : Nat) : qE → qH → Nat → Nat → Nat → qL → List qV → Option qF :=
  Nat.rec (motive := fun _ => qE → qH → Nat → Nat → Nat → qL → List qV → Option qF) (fun _ _ _ _ _ _ _ => none)
    (fun _ ih env h k sl pc lv stk => bif Nat.beq pc stop then some (env, h, k, sl, pc, lv, stk) else (match q_a1 tab cc M env h k sl pc lv stk with
      | some [(env, h, k, sl, pc, lv, stk)] => ih env h k sl pc lv stk
      | _ => none)) n
theorem q_adv_ok {tab : Nat → qM} {cc : q_ccall} {call : q_call} {M : qM} {L stop : Nat} (hcall : ∀ id env h av os, cc id env h av = some os → ∀ P : qO → Prop, (∀ o ∈ os, P o) → call id env h av P) {fr' : qF} {P : qO → Prop} {n' : Nat} (hG : q_GF tab call M true L n' fr' P) :
    ∀ (n : Nat) (env : qE) (h : qH) (k sl pc : Nat) (lv : qL) (stk : List qV), q_adv tab cc M stop n env h k sl pc lv stk = some fr' → ∃ m, q_GF tab call M true L m (env, h, k, sl, pc, lv, stk) P := by
  intro n
  induction n with
  | zero => intro env h k sl pc lv stk hs; cases hs
  | succ n ih =>
    intro env h k sl pc lv stk hs
    have hs : (bif Nat.beq pc stop then some (env, h, k, sl, pc, lv, stk) else (match q_a1 tab cc M env h k sl pc lv stk with
      | some [(env, h, k, sl, pc, lv, stk)] => q_adv tab cc M stop n env h k sl pc lv stk
      | _ => none)) = some fr' := hs
    rcases q_bf hs with ⟨-, hs⟩ | ⟨-, hs⟩
    · cases hs
      exact ⟨n', hG⟩
    · cases ha : q_a1 tab cc M env h k sl pc lv stk with
      | none => rw [ha] at hs; cases hs
      | some nx =>
        rw [ha] at hs
        rcases nx with _ | ⟨⟨env2, h2, k2, sl2, pc2, lv2, stk2⟩, _ | ⟨g, nx⟩⟩
        · cases hs
        · obtain ⟨m, hm⟩ := ih _ _ _ _ _ _ _ hs
          exact ⟨m + 1, q_a1_ok hcall ha (fun f hf => by rw [List.mem_singleton.mp hf]; exact hm)⟩
        · cases hs

-- to the loop's head
noncomputable def q_hZ : qH := (.branch 1 (.leaf (0, 0, .leaf (7, 0))) (.leaf (0, 0, .leaf (7, 0))), 0)
noncomputable def q_cc9 : q_ccall := q_cM q_T 1000000 9
noncomputable def q_pre : Option qF := q_adv q_T q_cc9 q_ML 18 1000000 [] q_hZ 0 0 0 [(0, (9, 0))] []
noncomputable def q_hL : qH := match q_pre with
  | some (_, h, _, _, _, _, _) => h
  | none => q_hZ
noncomputable def q_kL : Nat := match q_pre with
  | some (_, _, k, _, _, _, _) => k
  | none => 0
noncomputable def q_sL : Nat := match q_pre with
  | some (_, _, _, sl, _, _, _) => sl
  | none => 0
/-- all of lo .. lo + 2 ^ d - 1 -/
noncomputable def q_alr (f : Nat → Bool) (d : Nat) : Nat → Bool := Nat.rec (motive := fun _ => Nat → Bool) (fun lo => f lo) (fun d ih lo => ih lo && q_fc (lo + 2 ^ d) ih) d
theorem q_alr_ok {f : Nat → Bool} : ∀ (d lo : Nat), q_alr f d lo = true → ∀ j, lo ≤ j → j < lo + 2 ^ d → f j = true
  | 0, lo, h, j, h1, h2 => by
    have : j = lo := by
      have : (2 : Nat) ^ 0 = 1 := rfl
      omega
    rw [this]
    exact h
  | d + 1, lo, h, j, h1, h2 => by
    have h : (q_alr f d lo && q_fc (lo + 2 ^ d) (q_alr f d)) = true := h
    rw [q_fc_eq, Bool.and_eq_true] at h
    have e : (2 : Nat) ^ (d + 1) = 2 ^ d + 2 ^ d := by rw [Nat.pow_succ]; omega
    by_cases hj : j < lo + 2 ^ d
    · exact q_alr_ok d lo h.1 j h1 hj
    · exact q_alr_ok d (lo + 2 ^ d) h.2 j (by omega) (by omega)
noncomputable def q_sgI (n : Nat) : Int := bif Nat.blt n 2147483648 then (n : Int) else (n : Int) - 4294967296
noncomputable def q_sgJ (n : Nat) : Int := bif Nat.blt n 9223372036854775808 then (n : Int) else (n : Int) - 18446744073709551616
noncomputable def q_vtB (t : aT) (v : qV) : Bool := match t.1 with
  | 0 => Nat.beq v.1 0 && (Nat.blt v.2 4294967296 && (a_ile t.2.1 (q_sgI v.2) && a_ile (q_sgI v.2) t.2.2))
  | 1 => Nat.beq v.1 3 && (Nat.blt v.2 18446744073709551616 && (a_ile t.2.1 (q_sgJ v.2) && a_ile (q_sgJ v.2) t.2.2))
  | 2 => Nat.beq v.1 6 && Nat.beq v.2 t.2.1.toNat
  | _ => true
theorem q_vtB_ok {t : aT} {v : qV} (h : q_vtB t v = true) : a_vt t v := by
  obtain ⟨k, lo, hi⟩ := t
  obtain ⟨g, n⟩ := v
  rcases k with _ | _ | _ | k
  · have h : (Nat.beq g 0 && (Nat.blt n 4294967296 && (a_ile lo (q_sgI n) && a_ile (q_sgI n) hi))) = true := h
    simp only [Bool.and_eq_true, q_blt, decide_eq_true_eq] at h
    obtain ⟨h1, h2, h3, h4⟩ := h
    have h1 := Nat.eq_of_beq_eq_true h1
    subst h1
    refine ⟨q_sgI n, ?_, a_ile_ok.mp h3, a_ile_ok.mp h4⟩
    have : a_w (q_sgI n) = n := by
      unfold a_w q_sgI
      rw [q_blt]
      by_cases hn : n < 2147483648
      · rw [decide_eq_true hn]
        show ((n : Int) % 4294967296).toNat = n
        omega
      · rw [decide_eq_false hn]
        show (((n : Int) - 4294967296) % 4294967296).toNat = n
        omega
    rw [this]
  · have h : (Nat.beq g 3 && (Nat.blt n 18446744073709551616 && (a_ile lo (q_sgJ n) && a_ile (q_sgJ n) hi))) = true := h
    simp only [Bool.and_eq_true, q_blt, decide_eq_true_eq] at h
    obtain ⟨h1, h2, h3, h4⟩ := h
    have h1 := Nat.eq_of_beq_eq_true h1
    subst h1
    refine ⟨q_sgJ n, ?_, a_ile_ok.mp h3, a_ile_ok.mp h4⟩
    have : a_W (q_sgJ n) = n := by
      unfold a_W q_sgJ
      rw [q_blt]
      by_cases hn : n < 9223372036854775808
      · rw [decide_eq_true hn]
        show ((n : Int) % 18446744073709551616).toNat = n
        omega
      · rw [decide_eq_false hn]
        show (((n : Int) - 18446744073709551616) % 18446744073709551616).toNat = n
        omega
    rw [this]
  · have h : (Nat.beq g 6 && Nat.beq n lo.toNat) = true := h
    rw [Bool.and_eq_true] at h
    have h1 := Nat.eq_of_beq_eq_true h.1
    have h2 := Nat.eq_of_beq_eq_true h.2
    subst h1; subst h2
    rfl
  · trivial
noncomputable def q_rgB (f : Nat → qV) (t : aT) (lo : Nat) : Nat → Bool
  | 0 => true
  | n + 1 => q_vtB t (f (lo + n)) && q_rgB f t lo n
theorem q_rgB_ok {f : Nat → qV} {t : aT} {lo : Nat} : ∀ {n : Nat}, q_rgB f t lo n = true → ∀ j, lo ≤ j → j < lo + n → a_vt t (f j)
  | 0, _, j, h1, h2 => absurd h2 (by omega)
  | n + 1, h, j, h1, h2 => by
    have h : (q_vtB t (f (lo + n)) && q_rgB f t lo n) = true := h
    rw [Bool.and_eq_true] at h
    by_cases e : j = lo + n
    · rw [e]
      exact q_vtB_ok h.1
    · exact q_rgB_ok h.2 j h1 (by omega)
/-- range by range -/
noncomputable def q_sgB (f : Nat → qV) : aG → Nat → Bool
  | [], _ => true
  | q :: g, lo => q_rgB f q.2 lo (q.1 - lo) && q_sgB f g q.1
theorem q_sgB_ok {f : Nat → qV} : ∀ {g : aG} {lo : Nat}, q_sgB f g lo = true → ∀ j, lo ≤ j → a_vt (a_at g j) (f j)
  | [], _, _, _, _ => trivial
  | q :: g, lo, h, j, hj => by
    have h : (q_rgB f q.2 lo (q.1 - lo) && q_sgB f g q.1) = true := h
    rw [Bool.and_eq_true] at h
    rw [a_at_c, q_blt]
    by_cases hq : j < q.1
    · rw [decide_eq_true hq]
      exact q_rgB_ok h.1 j hj (by omega)
    · rw [decide_eq_false hq]
      exact q_sgB_ok h.2 j (by omega)
noncomputable def q_hiC (h : qH) (c : Nat) : Bool := Nat.ble 557 c || (Nat.beq (h.1.get c).1 (a_ck q_SP c) && (Nat.beq (h.1.get c).2.1 (a_cl q_SP c) && q_sgB (fun j => a_fd h c j) (q_SP.get c).2.2 0))
theorem q_hi_ok {h : qH} (hn : h.2 = 557) (h1 : q_alr (q_hiC h) 9 0 = true) (h2 : q_alr (q_hiC h) 6 512 = true) : a_HI q_SP 557 h := by
  refine ⟨hn, by decide, fun c hc => ?_⟩
  have h1 : q_hiC h c = true := by
    by_cases hb : c < 512
    · exact q_alr_ok 9 0 h1 c (Nat.zero_le _) (by have : (2 : Nat) ^ 9 = 512 := rfl; omega)
    · exact q_alr_ok 6 512 h2 c (by omega) (by have : (2 : Nat) ^ 6 = 64 := rfl; omega)
  unfold q_hiC at h1
  rw [Bool.or_eq_true, q_ble] at h1
  rcases h1 with h1 | h1
  · exact absurd (of_decide_eq_true h1) (by omega)
  · simp only [Bool.and_eq_true] at h1
    obtain ⟨g1, g2, g3⟩ := h1
    exact ⟨Nat.eq_of_beq_eq_true g1, Nat.eq_of_beq_eq_true g2, fun j _ => q_sgB_ok g3 j (Nat.zero_le _)⟩
noncomputable def q_z0 (h : qH) (c j : Nat) : Bool := Nat.beq (a_fd h c j).1 0 && Nat.beq (a_fd h c j).2 0
theorem q_z0_ok {h : qH} {c j : Nat} (hb : q_z0 h c j = true) : a_fd h c j = (0, 0) := by
  unfold q_z0 at hb
  rw [Bool.and_eq_true] at hb
  exact Prod.ext (Nat.eq_of_beq_eq_true hb.1) (Nat.eq_of_beq_eq_true hb.2)
noncomputable def q_pkV1 (n : Nat) (σ : Nat → Int) (h : qH) (q : (Nat × Nat) × aV) : Bool :=
  Nat.blt q.1.1 557 && (Nat.blt q.1.2 (a_cl q_SP q.1.1) && (Nat.beq q.2.1 1 && (q.2.2.2.1.all (fun p => Nat.blt p.1 n) && (Nat.beq (a_fd h q.1.1 q.1.2).1 0 && (Nat.beq (a_fd h q.1.1 q.1.2).2 (a_w (a_ev σ q.2.2.2)) && (a_ile (-2147483648) (a_ev σ q.2.2.2) && a_ile (a_ev σ q.2.2.2) 2147483647))))))
theorem q_pkV1_ok {n : Nat} {σ : Nat → Int} {h : qH} {q : (Nat × Nat) × aV} (hb : q_pkV1 n σ h q = true) : a_Kq q_SP 557 σ n h q := by
  unfold q_pkV1 at hb
  simp only [Bool.and_eq_true] at hb
  obtain ⟨b1, b2, b3, b4, b5, b6, b7, b8⟩ := hb
  rw [q_blt] at b1 b2
  refine ⟨of_decide_eq_true b1, Or.inl ⟨of_decide_eq_true b2, ?_⟩⟩
  obtain ⟨k, t, s, f⟩ := q
  have ht : t = 1 := Nat.eq_of_beq_eq_true b3
  subst ht
  refine ⟨fun p hp => ?_, Prod.ext (Nat.eq_of_beq_eq_true b5) (Nat.eq_of_beq_eq_true b6), a_ile_ok.mp b7, ?_⟩
  · have := List.all_eq_true.mp b4 p hp
    rw [q_blt] at this
    exact of_decide_eq_true this
  · have := a_ile_ok.mp b8
    have e : a_ev σ f ≤ 2147483647 := this
    show a_ev σ f < 2147483648
    omega
/-- or a fact that holds at the start -/
noncomputable def q_st0 (code : Nat) (x : Int) : Bool := (Nat.beq code 4323473234462769252 && a_iz x) || ((Nat.beq code 4611686018428436780 && a_iz (x - 1024)) || ((Nat.beq code 35184373137712 && a_iz (x - 1024)) || Nat.beq code 1048677))
theorem q_st0_ok {h : qH} {code c : Nat} {x : Int} (hb : q_st0 code x = true) : a_PF q_SP 557 code c x h := by
  unfold q_st0 at hb
  simp only [Bool.or_eq_true, Bool.and_eq_true] at hb
  rcases hb with ⟨e, z⟩ | ⟨e, z⟩ | ⟨e, z⟩ | e
  · have e := Nat.eq_of_beq_eq_true e
    have z := a_iz_ok z
    subst e
    subst z
    refine ⟨fun hb => absurd hb (by decide), fun _ => ?_⟩
    rw [f_TQ]
    exact ⟨0, 0, 0, 0, rfl, by unfold m_rg; omega, m_Qi (fun q a b _ => absurd b (by omega)) (fun q a b _ => absurd b (by omega)) (fun q a b _ => absurd b (by omega)) (fun q a b _ => absurd b (by omega))⟩
  · have e := Nat.eq_of_beq_eq_true e
    have z := a_iz_ok z
    subst e
    refine ⟨fun hb => absurd hb (by decide), fun _ => ?_⟩
    rw [f_TB3]
    exact ⟨0, 1, by omega, by omega, rfl⟩
  · have e := Nat.eq_of_beq_eq_true e
    have z := a_iz_ok z
    subst e
    refine ⟨fun hb => absurd hb (by decide), fun _ => ?_⟩
    rw [f_TB8]
    exact ⟨0, 1, by omega, by omega, rfl⟩
  · have e := Nat.eq_of_beq_eq_true e
    subst e
    refine ⟨fun hb => absurd hb (by decide), fun _ => ?_⟩
    rw [f_XW]
    exact trivial
/-- the stones' counts at the start -/
noncomputable def q_ivz (h : qH) (c j : Nat) (z : Int) : Bool := Nat.beq (a_fd h c j).1 0 && Nat.beq (a_fd h c j).2 (a_w z)
theorem q_ivz_ok {h : qH} {c j : Nat} {z : Int} (h1 : -2147483648 ≤ z) (h2 : z < 2147483648) (hb : q_ivz h c j z = true) : m_gh h c j = z := by
  unfold q_ivz at hb
  rw [Bool.and_eq_true] at hb
  show m_int (a_fd h c j) = z
  rw [show a_fd h c j = (0, a_w z) from Prod.ext (Nat.eq_of_beq_eq_true hb.1) (Nat.eq_of_beq_eq_true hb.2), m_int0 h1 h2]
noncomputable def q_tcB (h : qH) : Bool := q_ivz h 5 0 7 && (q_ivz h 5 2 0 && (q_ivz h 539 0 7 && (q_ivz h 539 1 1 && (q_ivz h 539 2 0 && q_ivz h 539 4 0))))
theorem q_tcB_ok {h : qH} {c : Nat} (hb : q_tcB h = true) : a_PF q_SP 557 559858382766813229323129979226 c 0 h := by
  unfold q_tcB at hb
  simp only [Bool.and_eq_true] at hb
  obtain ⟨b1, b2, b3, b4, b5, b6⟩ := hb
  have b1 := q_ivz_ok (by decide) (by decide) b1
  have b2 := q_ivz_ok (by decide) (by decide) b2
  have b3 := q_ivz_ok (by decide) (by decide) b3
  have b4 := q_ivz_ok (by decide) (by decide) b4
  have b5 := q_ivz_ok (by decide) (by decide) b5
  have b6 := q_ivz_ok (by decide) (by decide) b6
  refine ⟨fun hb => absurd hb (by decide), fun _ => ?_⟩
  rw [f_TC0]
  have e0 : m_ac (m_gh h) 539 0 6 0 = 7 := b3
  have e1 : m_ac (m_gh h) 539 0 6 1 = 1 := b4
  have e2 : m_ac (m_gh h) 539 0 6 2 = 0 := b5
  have e4 : m_ac (m_gh h) 539 0 6 4 = 0 := b6
  have hN : m_NB (m_ac (m_gh h) 539 0 6) (m_ac (m_gh h) 539 7 42) = 0 := by
    unfold m_NB
    rw [e2]
    rfl
  refine ⟨by rw [b1, e0], by rw [b2, hN], ⟨by omega, by omega, by omega, by omega, by omega, by omega, fun k k0 k1 => absurd k1 (by omega)⟩, fun j hj => absurd hj (by omega), by omega⟩
/-- the years told at the start -/
noncomputable def q_tfB (h : qH) : Bool := q_ivz h 539 2 0 && q_ivz h 539 5 0
theorem q_tfB_ok {h : qH} {c : Nat} (hb : q_tfB h = true) : a_PF q_SP 557 5192772227509913214556057593971129 c 0 h := by
  unfold q_tfB at hb
  rw [Bool.and_eq_true] at hb
  obtain ⟨b1, b2⟩ := hb
  have b1 := q_ivz_ok (by decide) (by decide) b1
  have b2 := q_ivz_ok (by decide) (by decide) b2
  refine ⟨fun hb => absurd hb (by decide), fun _ => ?_⟩
  rw [f_TF0]
  have e2 : m_ac (m_gh h) 539 0 6 2 = 0 := b1
  have e5 : m_ac (m_gh h) 539 0 6 5 = 0 := b2
  have hN : m_NB (m_ac (m_gh h) 539 0 6) (m_ac (m_gh h) 539 7 42) = 0 := by
    unfold m_NB
    rw [e2]
    rfl
  exact ⟨⟨by omega, by omega, fun k k0 k1 => absurd k1 (by omega), fun i j i0 i1 i2 => absurd i2 (by omega)⟩, fun i i0 i1 => absurd i1 (by omega), by omega, by omega⟩
noncomputable def q_pkV (n : Nat) (σ : Nat → Int) (h : qH) (q : (Nat × Nat) × aV) : Bool := q_pkV1 n σ h q || (Nat.blt q.1.1 557 && (Nat.ble (a_cl q_SP q.1.1) q.1.2 && (Nat.beq q.2.1 12 && (q.2.2.2.1.all (fun p => Nat.blt p.1 n) && (q_st0 q.2.2.1 (a_ev σ q.2.2.2) || ((Nat.beq q.2.2.1 559858382766813229323129979226 && (a_iz (a_ev σ q.2.2.2) && q_tcB h)) || (Nat.beq q.2.2.1 5192772227509913214556057593971129 && (a_iz (a_ev σ q.2.2.2) && q_tfB h))))))))
theorem q_pkV_ok {n : Nat} {σ : Nat → Int} {h : qH} {q : (Nat × Nat) × aV} (hb : q_pkV n σ h q = true) : a_Kq q_SP 557 σ n h q := by
  unfold q_pkV at hb
  rw [Bool.or_eq_true] at hb
  rcases hb with hb | hb
  · exact q_pkV1_ok hb
  · simp only [Bool.and_eq_true] at hb
    obtain ⟨b1, b2, b3, b5, b6⟩ := hb
    obtain ⟨⟨c, j⟩, t, s, f⟩ := q
    have e3 : t = 12 := Nat.eq_of_beq_eq_true b3
    subst e3
    have b1 : Nat.blt c 557 = true := b1
    rw [q_blt] at b1
    refine ⟨of_decide_eq_true b1, Or.inr ⟨Nat.le_of_ble_eq_true b2, rfl, fun p hp => ?_, ?_⟩⟩
    · have := List.all_eq_true.mp b5 p hp
      rw [q_blt] at this
      exact of_decide_eq_true this
    · rw [Bool.or_eq_true] at b6
      rcases b6 with b6 | b6
      · exact q_st0_ok b6
      · rw [Bool.or_eq_true] at b6
        rcases b6 with b6 | b6
        · simp only [Bool.and_eq_true] at b6
          obtain ⟨e, z, hb⟩ := b6
          have e : s = 559858382766813229323129979226 := Nat.eq_of_beq_eq_true e
          have z : a_ev σ f = 0 := a_iz_ok z
          subst e
          show a_PF q_SP 557 559858382766813229323129979226 c (a_ev σ f) h
          rw [z]
          exact q_tcB_ok hb
        · simp only [Bool.and_eq_true] at b6
          obtain ⟨e, z, hb⟩ := b6
          have e : s = 5192772227509913214556057593971129 := Nat.eq_of_beq_eq_true e
          have z : a_ev σ f = 0 := a_iz_ok z
          subst e
          show a_PF q_SP 557 5192772227509913214556057593971129 c (a_ev σ f) h
          rw [z]
          exact q_tfB_ok hb
noncomputable def q_inB : List (Int × Int) → List Int → Bool
  | [], [] => true
  | p :: ps, x :: xs => a_ile p.1 x && (a_ile x p.2 && q_inB ps xs)
  | _, _ => false
theorem q_inB_ok : ∀ {ps : List (Int × Int)} {xs : List Int}, q_inB ps xs = true → ∀ (i : Nat) (p : Int × Int), ps[i]? = some p → p.1 ≤ xs.getD i 0 ∧ xs.getD i 0 ≤ p.2
  | [], [], _, i, p, h => by simp at h
  | [], _ :: _, hb, _, _, _ => by cases hb
  | _ :: _, [], hb, _, _, _ => by cases hb
  | q :: ps, x :: xs, hb, i, p, h => by
    have hb : (a_ile q.1 x && (a_ile x q.2 && q_inB ps xs)) = true := hb
    rw [Bool.and_eq_true, Bool.and_eq_true] at hb
    rcases i with _ | i
    · have e : q = p := Option.some.inj h
      subst e
      exact ⟨a_ile_ok.mp hb.1, a_ile_ok.mp hb.2.1⟩
    · exact q_inB_ok hb.2.2 i p h
noncomputable def q_pkB (h : qH) (xs : List Int) (P : aPic) : Bool := q_inB P.2.2.1 xs && ((P.2.2.2.all fun q => q.1.all (fun p => Nat.blt p.1 P.2.2.1.length) && a_ile 0 (a_ev (fun i => xs.getD i 0) q)) && P.2.1.all (q_pkV P.2.2.1.length (fun i => xs.getD i 0) h))
theorem q_pkB_ok {h : qH} {xs : List Int} {P : aPic} (hb : q_pkB h xs P = true) : a_Pic q_SP 557 P h := by
  unfold q_pkB at hb
  rw [Bool.and_eq_true, Bool.and_eq_true] at hb
  refine ⟨fun i => xs.getD i 0, ⟨fun i p hp => q_inB_ok hb.1 i p hp, fun q hq => ?_⟩, fun q hq => q_pkV_ok (List.all_eq_true.mp hb.2.2 q hq)⟩
  have := List.all_eq_true.mp hb.2.1 q hq
  rw [Bool.and_eq_true] at this
  refine ⟨fun p hp => ?_, a_ile_ok.mp this.2⟩
  have := List.all_eq_true.mp this.1 p hp
  rw [q_blt] at this
  exact of_decide_eq_true this
noncomputable def q_preB : Bool := match q_pre with
  | some (env, h, k, sl, pc, lv, stk) => decide (env = []) && (Nat.ble k 600000 && (Nat.ble sl 7302250 && (Nat.beq pc 18 && (decide (lv = q_lv 0) && (decide (stk = []) && (q_z0 h 19 1 && (q_z0 h 539 2 && (q_z0 h 539 6 && (q_z0 h 0 7 && (q_z0 h 534 23 && (Nat.beq h.2 557 && (q_pkB h [0, 1] q_Ptp0 && (q_pkB h [1, 0, 0, 1, 0, 0, 1, 0, 0, 1, 0, 0] q_Ptr0 && q_pkB h [] q_Pms0)))))))))))))
  | none => false
theorem q_preB_ok : q_preB = true := by decide +kernel
noncomputable def q_preH (d lo : Nat) : Bool := match q_pre with
  | some (_, h, _, _, _, _, _) => q_alr (q_hiC h) d lo
  | none => false
theorem q_preH1 : q_preH 9 0 = true := by decide +kernel
theorem q_preH2 : q_preH 6 512 = true := by decide +kernel
theorem q_pre_ok : q_pre = some ([], q_hL, q_kL, q_sL, 18, q_lv 0, []) ∧ q_kL ≤ 600000 ∧ q_sL ≤ 7302250 ∧ a_HI q_SP 557 q_hL ∧ a_fd q_hL 19 1 = (0, 0) ∧ a_fd q_hL 539 2 = (0, 0) ∧ a_fd q_hL 539 6 = (0, 0) ∧ a_fd q_hL 0 7 = (0, 0) ∧ a_fd q_hL 534 23 = (0, 0) ∧ a_Pic q_SP 557 q_Ptp0 q_hL ∧ a_Pic q_SP 557 q_Ptr0 q_hL ∧ a_Pic q_SP 557 q_Pms0 q_hL := by
  have hb := q_preB_ok
  have hb1 := q_preH1
  have hb2 := q_preH2
  unfold q_preB at hb
  unfold q_preH at hb1 hb2
  unfold q_hL q_kL q_sL
  cases hp : q_pre with
  | none => rw [hp] at hb; cases hb
  | some f =>
    obtain ⟨env, h, k, sl, pc, lv, stk⟩ := f
    rw [hp] at hb hb1 hb2
    simp only [Bool.and_eq_true, decide_eq_true_eq] at hb
    obtain ⟨rfl, h2, h3, h4, rfl, rfl, h5, h6, h7, h8, h9, h10, h11, h12, h13⟩ := hb
    have h4 := Nat.eq_of_beq_eq_true h4
    subst h4
    exact ⟨rfl, Nat.le_of_ble_eq_true h2, Nat.le_of_ble_eq_true h3, q_hi_ok (Nat.eq_of_beq_eq_true h10) hb1 hb2, q_z0_ok h5, q_z0_ok h6, q_z0_ok h7, q_z0_ok h8, q_z0_ok h9, q_pkB_ok h11, q_pkB_ok h12, q_pkB_ok h13⟩
theorem q_zk0 {σ : Nat → Int} {n c j : Nat} {h : qH} {f : aF} (hc : c < 557) (hj : Nat.blt j (a_cl q_SP c) = true) (hv : a_fd h c j = (0, 0)) (wf : a_wf n f) (he : a_ev σ f = 0) : a_Kq q_SP 557 σ n h ((c, j), (1, 0, f)) :=
  ⟨hc, Or.inl ⟨by rw [q_blt] at hj; exact of_decide_eq_true hj, wf, by rw [hv, he]; rfl, by rw [he]; decide, by rw [he]; decide⟩⟩
theorem q_zc0 {σ : Nat → Int} {n c j : Nat} {h : qH} (hc : c < 557) (hj : Nat.blt j (a_cl q_SP c) = true) (hv : a_fd h c j = (0, 0)) : a_Kq q_SP 557 σ n h ((c, j), (1, 0, ([], 0))) := q_zk0 hc hj hv a_wf.cn (a_cn_ev σ 0)
theorem q_z21 : Nat.ble (a_cl q_SP 21) 60 = true := by decide +kernel
theorem q_z19_1 : Nat.blt 1 (a_cl q_SP 19) = true := by decide +kernel
theorem q_z539_2 : Nat.blt 2 (a_cl q_SP 539) = true := by decide +kernel
theorem q_z539_6 : Nat.blt 6 (a_cl q_SP 539) = true := by decide +kernel
theorem q_z0_7 : Nat.blt 7 (a_cl q_SP 0) = true := by decide +kernel
theorem q_z534_23 : Nat.blt 23 (a_cl q_SP 534) = true := by decide +kernel
theorem q_INVa (hh : a_HI q_SP 557 q_hL) (z1 : a_fd q_hL 19 1 = (0, 0)) : a_Dj q_SP 557 q_Pcs q_hL := by
  refine ⟨_, List.mem_cons_self, fun _ => 0, ⟨fun i p hp => ?_, fun q hq => (by cases hq)⟩, fun q hq => ?_⟩
  · rcases i with _ | i
    · have e := Option.some.inj hp
      rw [← e]
      exact ⟨by decide, by decide⟩
    · cases hp
  · rcases List.mem_cons.mp hq with rfl | hq
    · exact q_zk0 (c := 19) (j := 1) (by decide) q_z19_1 z1 (a_wf.sy (s := 0) (Nat.lt_succ_self 0)) rfl
    · rw [List.mem_singleton.mp hq]
      refine ⟨by decide, Or.inr ⟨Nat.le_of_ble_eq_true q_z21, rfl, a_wf.sy (s := 0) (Nat.lt_succ_self 0), fun _ i _ hx => ?_, fun hb => by cases hb⟩⟩
      have hx : (i : Int) < 0 := hx
      omega
theorem q_INV0 : q_INV q_hL := by
  obtain ⟨-, -, -, hh, z1, z2, z3, z4, z5, z6, z7, z8⟩ := q_pre_ok
  refine ⟨hh, fun c hc => ?_, 0, by decide, ?_, fun j hj => absurd hj (Nat.not_lt_zero j)⟩
  · rcases c with _ | _ | _ | _ | c
    · exact q_INVa hh z1
    · exact ⟨_, List.mem_cons_self, z8⟩
    · exact ⟨_, List.mem_cons_self, z6⟩
    · exact ⟨_, List.mem_cons_self, z7⟩
    · have hc : c + 1 + 1 + 1 + 1 < 4 := hc
      exact absurd hc (by omega)
  · refine ⟨fun _ => 0, ⟨fun i p hp => (by cases hp), fun q hq => (by cases hq)⟩, fun q hq => ?_⟩
    rcases List.mem_cons.mp hq with rfl | hq
    · exact q_zc0 (c := 0) (j := 7) (by decide) q_z0_7 z4
    · rw [List.mem_singleton.mp hq]
      exact q_zc0 (c := 534) (j := 23) (by decide) q_z534_23 z5
-- one bound for all scripts
theorem q_bnd {Q : Nat → Nat → Prop} (mono : ∀ i n m, n ≤ m → Q i n → Q i m) : ∀ k, (∀ i, i < k → ∃ n, Q i n) → ∃ N, ∀ i, i < k → Q i N
  | 0, _ => ⟨0, fun i hi => absurd hi (Nat.not_lt_zero _)⟩
  | k + 1, h => by
    obtain ⟨a, ha⟩ := q_bnd mono k (fun i hi => h i (by omega))
    obtain ⟨b, hb⟩ := h k (by omega)
    refine ⟨a + b, fun i hi => ?_⟩
    by_cases e : i = k
    · subst e
      exact mono _ _ _ (Nat.le_add_left _ _) hb
    · exact mono _ _ _ (Nat.le_add_right _ _) (ha i (by omega))
noncomputable def q_Ep (e : qE) : Prop := ∀ p ∈ e, p.1 = p.2 ∧ p.1 < 4294967296
theorem q_bndE : ∀ (L : Nat) {Q : qE → Nat → Prop}, (∀ e n m, n ≤ m → Q e n → Q e m) → (∀ e, e.length = L → q_Ep e → ∃ n, Q e n) → ∃ N, ∀ e, e.length = L → q_Ep e → Q e N
  | 0, Q, mono, h => by
    obtain ⟨n, hn⟩ := h [] rfl (fun p hp => by cases hp)
    exact ⟨n, fun e he _ => by rw [List.length_eq_zero_iff.mp he]; exact hn⟩
  | L + 1, Q, mono, h => by
    have h1 : ∀ b, b < 4294967296 → ∃ N, ∀ e, e.length = L → q_Ep e → Q ((b, b) :: e) N := fun b hb =>
      q_bndE L (Q := fun e n => Q ((b, b) :: e) n) (fun e n m hnm hq => mono _ n m hnm hq) fun e he hp => h ((b, b) :: e) (by rw [List.length_cons, he]) fun p hq => by
        rcases List.mem_cons.mp hq with rfl | hq
        · exact ⟨rfl, hb⟩
        · exact hp p hq
    obtain ⟨N, hN⟩ := q_bnd (Q := fun b N => ∀ e, e.length = L → q_Ep e → Q ((b, b) :: e) N) (fun b n m hnm hq (e : qE) (he : e.length = L) hp => mono _ n m hnm (hq e he hp)) 4294967296 h1
    refine ⟨N, fun e he hp => ?_⟩
    rcases e with _ | ⟨⟨b, b2⟩, e⟩
    · cases he
    · obtain ⟨e1, e2⟩ := hp (b, b2) List.mem_cons_self
      have e1 : b = b2 := e1
      subst e1
      exact hN b e2 e (by rw [List.length_cons] at he; omega) fun p hq => hp p (List.mem_cons_of_mem _ hq)
theorem q_pe_Ep (xs : Nat → Int32) (L : Nat) : (q_pe xs L).length = L ∧ q_Ep (q_pe xs L) := by
  refine ⟨by unfold q_pe; rw [List.length_map, List.length_range], fun p hp => ?_⟩
  unfold q_pe at hp
  obtain ⟨j, -, rfl⟩ := List.mem_map.mp hp
  exact ⟨rfl, qB_lt _⟩
theorem q_Ep_pe {e : qE} {L : Nat} (he : e.length = L) (hp : q_Ep e) : ∃ xs, e = q_pe xs L := by
  refine ⟨fun j => qI (a_w (((e.getD j (0, 0)).1 : Int) - 2147483648)), List.ext_getElem? fun j => ?_⟩
  by_cases hj : j < L
  · rw [q_pe_get hj, List.getElem?_eq_getElem (by omega)]
    obtain ⟨h1, h2⟩ := hp e[j] (List.getElem_mem _)
    have hg : e.getD j (0, 0) = e[j] := by rw [List.getD_eq_getElem?_getD, List.getElem?_eq_getElem (by omega)]; rfl
    have hb : qB (qI (a_w (((e.getD j (0, 0)).1 : Int) - 2147483648))) = e[j].1 := by
      unfold qB
      rw [a_qIt (by omega) (by rw [hg]; omega), hg]
      omega
    rw [hb]
    exact congrArg some (Prod.ext rfl h1.symm)
  · rw [List.getElem?_eq_none (by omega), List.getElem?_eq_none (by rw [(q_pe_Ep _ L).1]; omega)]
theorem q_xI {tab : Nat → qM} {call : q_call} {M : qM} {scr : Bool} {L : Nat} {P : qO → Prop} {fr : qF} {I : qF → Prop} (hI : q_cov fr I) {N : Nat} (hN : ∀ f, I f → q_GF tab call M scr L N f P) : q_GE tab call M scr L fr P := ⟨N + 1, Or.inr ⟨I, hI, hN⟩⟩
theorem q_hcall (id : Nat) (env : qE) (h : qH) (av : List qV) (os : List qO) (hs : q_cc9 id env h av = some os) (P : qO → Prop) (hP : ∀ o ∈ os, P o) : q_GM q_T q_Dm id env h av P := a_GM_le (show 9 ≤ q_Dm by decide) (q_cM_ok 9 id env h av os hs P hP)
theorem q_Glaw (L : Nat) (hL : L ≤ 3072) : q_GE q_T (q_GM q_T q_Dm) q_ML true L ([], q_hZ, 0, 0, 0, [(0, (9, 0))], []) q_PL := by
  obtain ⟨hp, hk, hs, -⟩ := q_pre_ok
  have h18 : q_GE q_T (q_GM q_T q_Dm) q_ML true L ([], q_hL, q_kL, q_sL, 18, q_lv 0, []) q_PL := by
    obtain ⟨N, hN⟩ := q_bndE L (Q := fun e n => q_GF q_T (q_GM q_T q_Dm) q_ML true L n (e, q_hL, q_kL, q_sL, 18, q_lv 0, []) q_PL) (fun e n m hnm h => q_GF_mono (q_GM_mono q_T q_Dm) n m _ _ _ hnm (fun _ h => h) h) fun e he hp => by
      obtain ⟨xs, rfl⟩ := q_Ep_pe he hp
      exact q_loop hL hk hs (L + 1) 0 q_hL (by omega) (Nat.zero_le _) q_INV0
    refine q_xI (I := fun f => ∃ xs, f = (q_pe xs L, q_hL, q_kL, q_sL, 18, q_lv 0, [])) ?_ (N := N) (fun f ⟨xs, e⟩ => by rw [e]; exact hN _ (q_pe_Ep xs L).1 (q_pe_Ep xs L).2)
    intro ρ sb ws tys cl st ⟨_, hH, hLs, hS⟩
    exact ⟨(q_pe ρ L, q_hL, q_kL, q_sL, 18, q_lv 0, []), ⟨ρ, rfl⟩, rfl, rfl, rfl, q_pe_En ρ L, hH, hLs, hS⟩
  obtain ⟨n', hG⟩ := h18
  exact q_adv_ok q_hcall hG 1000000 [] q_hZ 0 0 0 [(0, (9, 0))] [] hp
