-- 18.run: the abstract machine as a program; what it says holds
noncomputable def q_ap (a b : Option (List qO)) : Option (List qO) := match a with
  | none => none
  | some x => (match b with
    | none => none
    | some y => some (x ++ y))
noncomputable def q_fr (ih : qE → qH → Nat → Nat → Nat → qL → List qV → Option (List qO)) (nx : List qF) : Option (List qO) :=
  List.rec (motive := fun _ => Option (List qO)) (some []) (fun f fs r => match f with
    | (env, h, k, sl, pc, lv, stk) => (match fs with
      | [] => ih env h k sl pc lv stk
      | _ :: _ => q_ap (ih env h k sl pc lv stk) r)) nx
noncomputable def q_spt (n : Nat) : List qV → List qV → Option (List qV × List qV) := Nat.rec (motive := fun _ => List qV → List qV → Option (List qV × List qV)) (fun stk acc => some (acc, stk))
  (fun _ ih stk acc => match stk with
    | [] => none
    | x :: stk => ih stk (x :: acc)) n
def q_cns (x : Option qV) (rest : List qV) : List qV := match x with
  | none => rest
  | some y => y :: rest
noncomputable def q_fo (ih : qE → qH → Nat → Nat → Nat → qL → List qV → Option (List qO)) (k sl pc : Nat) (lv : qL) (rest : List qV) (os : List qO) : Option (List qO) :=
  List.rec (motive := fun _ => Option (List qO)) (some []) (fun o os r => match o with
    | (env, h, x) => (match os with
      | [] => ih env h k sl pc lv (q_cns x rest)
      | _ :: _ => q_ap (ih env h k sl pc lv (q_cns x rest)) r)) os
abbrev q_ccall : Type := Nat → qE → qH → List qV → Option (List qO)
noncomputable def q_ca (call : q_ccall) (M M' : qM) (id : Nat) (ih : qE → qH → Nat → Nat → Nat → qL → List qV → Option (List qO)) (env : qE) (h : qH) (k sl pc : Nat) (lv : qL) (stk : List qV) : Option (List qO) :=
  match q_spt (bif Nat.beq (q_mK M') 0 then q_mA M' else q_mA M' + 1) stk [] with
  | none => none
  | some (av, rest) =>
    bif q_rcv (q_mK M') (q_mC M') h av && (Nat.ble (rest.map q_cat).sum 8 && (Nat.ble (k + q_mc M') (q_mc M) && Nat.ble (sl + q_ms M') (q_ms M))) then
      (match call id env h av with
      | none => none
      | some os => q_fc (k + q_mc M') fun k1 => q_fc (sl + q_ms M') fun s1 => q_fc (pc + 3) fun pc1 => q_fo ih k1 s1 pc1 lv rest os)
    else none
noncomputable def q_body (tab : Nat → qM) (call : q_ccall) (M : qM) (scr : Bool) (L : Nat) (ih : qE → qH → Nat → Nat → Nat → qL → List qV → Option (List qO)) (env : qE) (h : qH) (k sl pc : Nat) (lv : qL) (stk : List qV) : Option (List qO) :=
  match (q_mI M).get pc with
  | (op, p, v, a, b, w, t) =>
    bif Nat.beq p pc then
      bif Nat.beq op 24 then
        (match q_rvo (q_mT M) v stk with
        | none => none
        | some r => bif Nat.ble k (q_mc M) && Nat.ble sl (q_ms M) then some [(env, h, r)] else none)
      else bif Nat.beq op 23 then q_ca call M (tab w) w ih env h k sl pc lv stk
      else (match q_step (q_mc M) (q_ms M) scr L (q_mL M) (op, p, v, a, b, w, t) env h k sl lv stk with
        | none => none
        | some nx => q_fr ih nx)
    else none
noncomputable def q_rf (tab : Nat → qM) (call : q_ccall) (M : qM) (scr : Bool) (L : Nat) (n : Nat) : qE → qH → Nat → Nat → Nat → qL → List qV → Option (List qO) :=
  Nat.rec (motive := fun _ => qE → qH → Nat → Nat → Nat → qL → List qV → Option (List qO)) (fun _ _ _ _ _ _ _ => none) (fun _ ih => q_body tab call M scr L ih) n
noncomputable def q_cM (tab : Nat → qM) (fuel : Nat) (d : Nat) : q_ccall := Nat.rec (motive := fun _ => q_ccall) (fun _ _ _ _ => none)
  (fun _ ih id env h av => bif Nat.ble (av.map q_cat).sum (q_mL (tab id)) then q_nrm (q_args 0 av) fun lv => q_rf tab ih (tab id) false 0 fuel env h 0 0 0 lv [] else none) d

def q_cMono (call : q_call) : Prop := ∀ (id : Nat) (env : qE) (h : qH) (av : List qV) (P P' : qO → Prop), (∀ o, P o → P' o) → call id env h av P → call id env h av P'
theorem q_GS_mono {tab : Nat → qM} {call : q_call} (hc : q_cMono call) {M : qM} {scr : Bool} {L : Nat} {G G' : qF → (qO → Prop) → Prop} {P P' : qO → Prop} {fr : qF} (hP : ∀ o, P o → P' o) (hG : ∀ f, G f P → G' f P') (h : q_GS tab call M scr L G fr P) : q_GS tab call M scr L G' fr P' := by
  rcases h with ⟨hpc, ⟨hop, r, hr, c1, c2, h1⟩ | ⟨hop, av, rest, hstk, hlen, hrcv, h8, c1, c2, h1⟩ | ⟨nx, hs, hn⟩⟩ | ⟨I, hI, h1⟩
  · exact Or.inl ⟨hpc, Or.inl ⟨hop, r, hr, c1, c2, hP _ h1⟩⟩
  · exact Or.inl ⟨hpc, Or.inr (Or.inl ⟨hop, av, rest, hstk, hlen, hrcv, h8, c1, c2, hc _ _ _ _ _ _ (fun o ho => hG _ ho) h1⟩)⟩
  · exact Or.inl ⟨hpc, Or.inr (Or.inr ⟨nx, hs, fun f hf => hG f (hn f hf)⟩)⟩
  · exact Or.inr ⟨I, hI, fun f hf => hG f (h1 f hf)⟩
theorem q_GF_mono {tab : Nat → qM} {call : q_call} (hc : q_cMono call) {M : qM} {scr : Bool} {L : Nat} : ∀ (n m : Nat) (fr : qF) (P P' : qO → Prop), n ≤ m → (∀ o, P o → P' o) → q_GF tab call M scr L n fr P → q_GF tab call M scr L m fr P'
  | 0, _, _, _, _, _, _, h => (h : False).elim
  | n + 1, 0, _, _, _, hn, _, _ => by omega
  | n + 1, m + 1, fr, P, P', hn, hP, h => q_GS_mono hc hP (fun f hf => q_GF_mono hc n m f P P' (by omega) hP hf) h
theorem q_GM_mono (tab : Nat → qM) : ∀ d, q_cMono (q_GM tab d)
  | 0 => fun _ _ _ _ _ _ _ h => (h : False).elim
  | d + 1 => fun id env h av P P' hP ⟨h1, n, h2⟩ => ⟨h1, n, q_GF_mono (q_GM_mono tab d) n n _ P P' (Nat.le_refl _) hP h2⟩
theorem q_ap_some {a b : Option (List qO)} {os : List qO} (h : q_ap a b = some os) : ∃ x y, a = some x ∧ b = some y ∧ os = x ++ y := by
  unfold q_ap at h
  cases a with
  | none => cases h
  | some x => cases b with
    | none => cases h
    | some y => exact ⟨x, y, rfl, rfl, (Option.some.inj h).symm⟩
theorem q_fr_in {ih : qE → qH → Nat → Nat → Nat → qL → List qV → Option (List qO)} : ∀ {nx : List qF} {os : List qO}, q_fr ih nx = some os → ∀ f ∈ nx, ∃ os', ih f.1 f.2.1 f.2.2.1 f.2.2.2.1 f.2.2.2.2.1 f.2.2.2.2.2.1 f.2.2.2.2.2.2 = some os' ∧ ∀ o ∈ os', o ∈ os
  | [], _, _, f, hf => absurd hf List.not_mem_nil
  | [g], os, h, f, hf => by
    obtain ⟨env, hh, k, sl, pc, lv, stk⟩ := g
    have h : ih env hh k sl pc lv stk = some os := h
    rw [List.mem_singleton.mp hf]
    exact ⟨os, h, fun o ho => ho⟩
  | g :: g2 :: gs, os, h, f, hf => by
    obtain ⟨env, hh, k, sl, pc, lv, stk⟩ := g
    have h : q_ap (ih env hh k sl pc lv stk) (q_fr ih (g2 :: gs)) = some os := h
    obtain ⟨x, y, hx, hy, rfl⟩ := q_ap_some h
    rcases List.mem_cons.mp hf with rfl | hf
    · exact ⟨x, hx, fun o ho => List.mem_append_left _ ho⟩
    · obtain ⟨os', h1, h2⟩ := q_fr_in hy f hf
      exact ⟨os', h1, fun o ho => List.mem_append_right _ (h2 o ho)⟩
theorem q_cns_eq {x : Option qV} {rest : List qV} : q_cns x rest = x.toList ++ rest := by cases x <;> rfl
theorem q_fo_in {ih : qE → qH → Nat → Nat → Nat → qL → List qV → Option (List qO)} {k sl pc : Nat} {lv : qL} {rest : List qV} : ∀ {oo os : List qO}, q_fo ih k sl pc lv rest oo = some os → ∀ o ∈ oo, ∃ os', ih o.1 o.2.1 k sl pc lv (o.2.2.toList ++ rest) = some os' ∧ ∀ p ∈ os', p ∈ os
  | [], _, _, f, hf => absurd hf List.not_mem_nil
  | [g], os, h, f, hf => by
    obtain ⟨env, hh, x⟩ := g
    have h : ih env hh k sl pc lv (q_cns x rest) = some os := h
    rw [q_cns_eq] at h
    rw [List.mem_singleton.mp hf]
    exact ⟨os, h, fun o ho => ho⟩
  | g :: g2 :: gs, os, h, f, hf => by
    obtain ⟨env, hh, x⟩ := g
    have h : q_ap (ih env hh k sl pc lv (q_cns x rest)) (q_fo ih k sl pc lv rest (g2 :: gs)) = some os := h
    rw [q_cns_eq] at h
    obtain ⟨x, y, hx, hy, rfl⟩ := q_ap_some h
    rcases List.mem_cons.mp hf with rfl | hf
    · exact ⟨x, hx, fun o ho => List.mem_append_left _ ho⟩
    · obtain ⟨os', h1, h2⟩ := q_fo_in hy f hf
      exact ⟨os', h1, fun o ho => List.mem_append_right _ (h2 o ho)⟩
theorem q_spt_ok : ∀ {n : Nat} {stk acc av rest : List qV}, q_spt n stk acc = some (av, rest) → ∃ xs, xs.length = n ∧ av = xs ++ acc ∧ stk = xs.reverse ++ rest
  | 0, stk, acc, av, rest, h => by
    have h : some (acc, stk) = some (av, rest) := h
    cases h
    exact ⟨[], rfl, rfl, rfl⟩
  | n + 1, [], acc, av, rest, h => by
    have h : (none : Option (List qV × List qV)) = some (av, rest) := h
    cases h
  | n + 1, x :: stk, acc, av, rest, h => by
    have h : q_spt n stk (x :: acc) = some (av, rest) := h
    obtain ⟨xs, h1, h2, h3⟩ := q_spt_ok h
    exact ⟨xs ++ [x], by rw [List.length_append, h1]; rfl, by rw [h2, List.append_assoc]; rfl, by rw [h3, List.reverse_append]; rfl⟩
theorem q_rf_ok {tab : Nat → qM} {cc : q_ccall} {call : q_call} {M : qM} {scr : Bool} {L : Nat} (hcall : ∀ id env h av os, cc id env h av = some os → ∀ P : qO → Prop, (∀ o ∈ os, P o) → call id env h av P) :
    ∀ (n : Nat) (env : qE) (h : qH) (k sl pc : Nat) (lv : qL) (stk : List qV) (os : List qO), q_rf tab cc M scr L n env h k sl pc lv stk = some os → ∀ P : qO → Prop, (∀ o ∈ os, P o) → q_GF tab call M scr L n (env, h, k, sl, pc, lv, stk) P := by
  intro n
  induction n with
  | zero => intro env h k sl pc lv stk os hs; cases hs
  | succ n ih =>
    intro env h k sl pc lv stk os hs P hP
    have hs : q_body tab cc M scr L (q_rf tab cc M scr L n) env h k sl pc lv stk = some os := hs
    unfold q_body at hs
    refine Or.inl ?_
    show q_pc ((q_mI M).get pc) = pc ∧ _
    generalize he : (q_mI M).get pc = e at hs
    obtain ⟨op, p, v, a, b, w, t⟩ := e
    obtain ⟨hp, hs⟩ := q_bt (b := Nat.beq p pc) (x := bif Nat.beq op 24 then
        (match q_rvo (q_mT M) v stk with
        | none => none
        | some r => bif Nat.ble k (q_mc M) && Nat.ble sl (q_ms M) then some [(env, h, r)] else none)
      else bif Nat.beq op 23 then q_ca cc M (tab w) w (q_rf tab cc M scr L n) env h k sl pc lv stk
      else (match q_step (q_mc M) (q_ms M) scr L (q_mL M) (op, p, v, a, b, w, t) env h k sl lv stk with
        | none => none
        | some nx => q_fr (q_rf tab cc M scr L n) nx)) hs
    refine ⟨Nat.eq_of_beq_eq_true hp, ?_⟩
    rcases q_bf hs with ⟨h24, hs⟩ | ⟨h24, hs⟩
    · refine Or.inl ⟨Nat.eq_of_beq_eq_true h24, ?_⟩
      cases hr : q_rvo (q_mT M) v stk with
      | none => rw [hr] at hs; cases hs
      | some r =>
        rw [hr] at hs
        obtain ⟨hk, hs⟩ := q_bt hs
        rw [Bool.and_eq_true] at hk
        cases hs
        exact ⟨r, rfl, Nat.le_of_ble_eq_true hk.1, Nat.le_of_ble_eq_true hk.2, hP _ (List.mem_singleton.mpr rfl)⟩
    · rcases q_bf hs with ⟨h23, hs⟩ | ⟨h23, hs⟩
      · refine Or.inr (Or.inl ⟨Nat.eq_of_beq_eq_true h23, ?_⟩)
        unfold q_ca at hs
        cases hsp : q_spt (bif Nat.beq (q_mK (tab w)) 0 then q_mA (tab w) else q_mA (tab w) + 1) stk [] with
        | none => rw [hsp] at hs; cases hs
        | some ar =>
          obtain ⟨av, rest⟩ := ar
          rw [hsp] at hs
          obtain ⟨xs, x1, x2, x3⟩ := q_spt_ok hsp
          rw [List.append_nil] at x2
          subst x2
          obtain ⟨hk, hs⟩ := q_bt hs
          simp only [Bool.and_eq_true] at hk
          obtain ⟨k1, k2, k3, k4⟩ := hk
          cases hc : cc w env h av with
          | none => rw [hc] at hs; cases hs
          | some oo =>
            rw [hc] at hs
            have hs : (q_fc (k + q_mc (tab w)) fun k1 => q_fc (sl + q_ms (tab w)) fun s1 => q_fc (pc + 3) fun pc1 => q_fo (q_rf tab cc M scr L n) k1 s1 pc1 lv rest oo) = some os := hs
            rw [q_fc_eq, q_fc_eq, q_fc_eq] at hs
            refine ⟨av, rest, x3, ?_, k1, Nat.le_of_ble_eq_true k2, Nat.le_of_ble_eq_true k3, Nat.le_of_ble_eq_true k4, hcall _ _ _ _ _ hc _ fun o ho => ?_⟩
            · rw [x1, q_beq]
              by_cases h0 : q_mK (tab w) = 0 <;> simp [h0]
            · obtain ⟨os', h1, h2⟩ := q_fo_in hs o ho
              exact ih _ _ _ _ _ _ _ os' h1 P (fun p hp => hP p (h2 p hp))
      · refine Or.inr (Or.inr ?_)
        cases hst : q_step (q_mc M) (q_ms M) scr L (q_mL M) (op, p, v, a, b, w, t) env h k sl lv stk with
        | none => rw [hst] at hs; cases hs
        | some nx =>
          rw [hst] at hs
          refine ⟨nx, rfl, fun f hf => ?_⟩
          obtain ⟨os', h1, h2⟩ := q_fr_in hs f hf
          exact ih _ _ _ _ _ _ _ os' h1 P (fun p hp => hP p (h2 p hp))
theorem q_cM_ok {tab : Nat → qM} {fuel : Nat} : ∀ (d id : Nat) (env : qE) (h : qH) (av : List qV) (os : List qO), q_cM tab fuel d id env h av = some os → ∀ P : qO → Prop, (∀ o ∈ os, P o) → q_GM tab d id env h av P
  | 0, _, _, _, _, _, h, _, _ => by cases h
  | d + 1, id, env, h, av, os, hs, P, hP => by
    have hs : (bif Nat.ble (av.map q_cat).sum (q_mL (tab id)) then q_nrm (q_args 0 av) fun lv => q_rf tab (q_cM tab fuel d) (tab id) false 0 fuel env h 0 0 0 lv [] else none) = some os := hs
    obtain ⟨h1, hs⟩ := q_bt hs
    rw [q_nrm_eq] at hs
    exact ⟨Nat.le_of_ble_eq_true h1, fuel, q_rf_ok (fun id env h av os hs P hP => q_cM_ok d id env h av os hs P hP) fuel _ _ _ _ _ _ _ os hs P hP⟩
-- straight on
noncomputable def q_a1 (tab : Nat → qM) (cc : q_ccall) (M : qM) (scr : Bool) (L : Nat) (env : qE) (h : qH) (k sl pc : Nat) (lv : qL) (stk : List qV) : Option (List qF) :=
  match (q_mI M).get pc with
  | (op, p, v, a, b, w, t) =>
    bif Nat.beq p pc && !(Nat.beq op 24) then
      bif Nat.beq op 23 then
        (match q_spt (bif Nat.beq (q_mK (tab w)) 0 then q_mA (tab w) else q_mA (tab w) + 1) stk [] with
        | none => none
        | some (av, rest) =>
          bif q_rcv (q_mK (tab w)) (q_mC (tab w)) h av && (Nat.ble (rest.map q_cat).sum 8 && (Nat.ble (k + q_mc (tab w)) (q_mc M) && Nat.ble (sl + q_ms (tab w)) (q_ms M))) then
            (match cc w env h av with
            | none => none
            | some os => q_fc (k + q_mc (tab w)) fun k1 => q_fc (sl + q_ms (tab w)) fun s1 => q_fc (pc + 3) fun pc1 => some (os.map fun o => (o.1, o.2.1, k1, s1, pc1, lv, o.2.2.toList ++ rest)))
          else none)
      else q_step (q_mc M) (q_ms M) scr L (q_mL M) (op, p, v, a, b, w, t) env h k sl lv stk
    else none
theorem q_a1_ok {tab : Nat → qM} {cc : q_ccall} {call : q_call} {M : qM} {scr : Bool} {L : Nat} (hcall : ∀ id env h av os, cc id env h av = some os → ∀ P : qO → Prop, (∀ o ∈ os, P o) → call id env h av P) {env : qE} {h : qH} {k sl pc : Nat} {lv : qL} {stk : List qV} {nx : List qF} (hs : q_a1 tab cc M scr L env h k sl pc lv stk = some nx) {P : qO → Prop} {n : Nat} (hn : ∀ f ∈ nx, q_GF tab call M scr L n f P) : q_GF tab call M scr L (n + 1) (env, h, k, sl, pc, lv, stk) P := by
  unfold q_a1 at hs
  refine Or.inl ?_
  show q_pc ((q_mI M).get pc) = pc ∧ _
  generalize he : (q_mI M).get pc = e at hs
  obtain ⟨op, p, v, a, b, w, t⟩ := e
  obtain ⟨hp, hs⟩ := q_bt (b := Nat.beq p pc && !(Nat.beq op 24)) hs
  rw [Bool.and_eq_true] at hp
  refine ⟨Nat.eq_of_beq_eq_true hp.1, Or.inr ?_⟩
  rcases q_bf hs with ⟨h23, hs⟩ | ⟨h23, hs⟩
  · refine Or.inl ⟨Nat.eq_of_beq_eq_true h23, ?_⟩
    cases hsp : q_spt (bif Nat.beq (q_mK (tab w)) 0 then q_mA (tab w) else q_mA (tab w) + 1) stk [] with
    | none => rw [hsp] at hs; cases hs
    | some ar =>
      obtain ⟨av, rest⟩ := ar
      rw [hsp] at hs
      obtain ⟨xs, x1, x2, x3⟩ := q_spt_ok hsp
      rw [List.append_nil] at x2
      subst x2
      obtain ⟨hk, hs⟩ := q_bt hs
      simp only [Bool.and_eq_true] at hk
      obtain ⟨k1, k2, k3, k4⟩ := hk
      cases hc : cc w env h av with
      | none => rw [hc] at hs; cases hs
      | some oo =>
        rw [hc] at hs
        have hs : (q_fc (k + q_mc (tab w)) fun k1 => q_fc (sl + q_ms (tab w)) fun s1 => q_fc (pc + 3) fun pc1 => some (oo.map fun o => (o.1, o.2.1, k1, s1, pc1, lv, o.2.2.toList ++ rest))) = some nx := hs
        rw [q_fc_eq, q_fc_eq, q_fc_eq] at hs
        cases hs
        refine ⟨av, rest, x3, ?_, k1, Nat.le_of_ble_eq_true k2, Nat.le_of_ble_eq_true k3, Nat.le_of_ble_eq_true k4, hcall _ _ _ _ _ hc _ fun o ho => ?_⟩
        · rw [x1, q_beq]
          by_cases h0 : q_mK (tab w) = 0 <;> simp [h0]
        · exact hn _ (List.mem_map.mpr ⟨o, ho, rfl⟩)
  · refine Or.inr ?_
    exact ⟨nx, hs, hn⟩
noncomputable def q_adv (tab : Nat → qM) (cc : q_ccall) (M : qM) (scr : Bool) (L stop : Nat) (n : Nat) : qE → qH → Nat → Nat → Nat → qL → List qV → Option qF :=
  Nat.rec (motive := fun _ => qE → qH → Nat → Nat → Nat → qL → List qV → Option qF) (fun _ _ _ _ _ _ _ => none)
    (fun _ ih env h k sl pc lv stk => bif Nat.beq pc stop then some (env, h, k, sl, pc, lv, stk) else (match q_a1 tab cc M scr L env h k sl pc lv stk with
      | some [(env, h, k, sl, pc, lv, stk)] => ih env h k sl pc lv stk
      | _ => none)) n
theorem q_adv_ok {tab : Nat → qM} {cc : q_ccall} {call : q_call} {M : qM} {scr : Bool} {L stop : Nat} (hcall : ∀ id env h av os, cc id env h av = some os → ∀ P : qO → Prop, (∀ o ∈ os, P o) → call id env h av P) {fr' : qF} {P : qO → Prop} {n' : Nat} (hG : q_GF tab call M scr L n' fr' P) :
    ∀ (n : Nat) (env : qE) (h : qH) (k sl pc : Nat) (lv : qL) (stk : List qV), q_adv tab cc M scr L stop n env h k sl pc lv stk = some fr' → ∃ m, q_GF tab call M scr L m (env, h, k, sl, pc, lv, stk) P := by
  intro n
  induction n with
  | zero => intro env h k sl pc lv stk hs; cases hs
  | succ n ih =>
    intro env h k sl pc lv stk hs
    have hs : (bif Nat.beq pc stop then some (env, h, k, sl, pc, lv, stk) else (match q_a1 tab cc M scr L env h k sl pc lv stk with
      | some [(env, h, k, sl, pc, lv, stk)] => q_adv tab cc M scr L stop n env h k sl pc lv stk
      | _ => none)) = some fr' := hs
    rcases q_bf hs with ⟨-, hs⟩ | ⟨-, hs⟩
    · cases hs
      exact ⟨n', hG⟩
    · cases ha : q_a1 tab cc M scr L env h k sl pc lv stk with
      | none => rw [ha] at hs; cases hs
      | some nx =>
        rw [ha] at hs
        rcases nx with _ | ⟨⟨env2, h2, k2, sl2, pc2, lv2, stk2⟩, _ | ⟨g, nx⟩⟩
        · cases hs
        · obtain ⟨m, hm⟩ := ih _ _ _ _ _ _ _ hs
          exact ⟨m + 1, q_a1_ok hcall ha (fun f hf => by rw [List.mem_singleton.mp hf]; exact hm)⟩
        · cases hs
