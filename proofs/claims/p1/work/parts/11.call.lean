-- 11.call: words that stay; what a call is
theorem q_AOA_spec {A : Array Value} {s : State} {t : FieldType} (h : (Cond.arrayOver (.array t)).before A s = true) :
    ∃ comp c k, s.vm.findClass (FieldType.array t).toString = some comp ∧ (s.vm.classes.findIdx? fun x => match x.kind with | .array component _ => component == comp | _ => false) = some c ∧ s.vm.classes[c]? = some k ∧ k.kind = .array comp (.array t) ∧
      s.vm.findClass ("[" ++ (FieldType.array t).toString) = some c := by
  simp only [Cond.before, Cond.holds, Cond.value, beq_iff_eq] at h
  cases hc : s.vm.findClass (FieldType.array t).toString with
  | none => simp [hc] at h
  | some comp =>
    simp only [hc, Option.bind_some, Option.bind_eq_some_iff, Option.map_eq_some_iff] at h
    obtain ⟨c, hi, k, hk, hb⟩ := h
    obtain ⟨hlt, hp, -⟩ := Array.findIdx?_eq_some_iff_getElem.mp hi
    have hkk : s.vm.classes[c] = k := (Array.getElem?_eq_some_iff.mp hk).2
    rw [hkk] at hp
    cases hkind : k.kind with
    | array component ty =>
      rw [hkind] at hb hp
      simp at hb hp
      exact ⟨comp, c, k, rfl, hi, hk, by rw [hkind, hp, hb.1], hb.2⟩
    | _ => rw [hkind] at hb; simp at hb
theorem q_AOA_moved {t : FieldType} {u U : State} (hvm : u.vm.Alike U.vm) (h : va_Nw (.arrayOver (.array t)) u) : va_Nw (.arrayOver (.array t)) U := by
  obtain ⟨comp, c, k, h1, h2, h3, h4, h5⟩ := q_AOA_spec h
  obtain ⟨k', hk', he⟩ := hvm.2.2 _ _ h3
  have hi : (U.vm.classes.findIdx? fun (x : Class) => match x.kind with | .array component _ => component == comp | _ => false) = some c := by
    refine (va_idx_bare U.vm comp).symm.trans ?_
    first | rw [hvm.bare_eq] | rw [← hvm.bare_eq]
    exact (va_idx_bare u.vm comp).trans h2
  have hkind : k'.kind = .array comp (.array t) := by rw [he]; exact h4
  have f1 : U.vm.findClass (FieldType.array t).toString = some comp := by rw [hvm.findClass]; exact h1
  have f2 : U.vm.findClass ("[" ++ (FieldType.array t).toString) = some c := by rw [hvm.findClass]; exact h5
  unfold va_Nw Cond.before Cond.holds
  simp only [Cond.value]
  rw [f1, Option.bind_some]
  refine (congrArg (fun o : Option Nat => (o.bind (fun c => (U.vm.classes[c]?).map fun (k : Class) => match k.kind with | .array _ ty => decide (ty = FieldType.array t) && decide (U.vm.findClass ("[" ++ (FieldType.array t).toString) = some c) | _ => false) == some true)) hi).trans ?_
  simp [hk', hkind, f2]
theorem q_sp_warm {w : Cond} (hw : q_isSp w = true) {s U : State} (hW : s.WarmedH U.vm) (h : va_Nw w s) : va_Nw w U := by
  cases w
  case methodLinkNest a i x h9 => exact va_Nw.warmM hW h
  case arrayOver ty =>
    cases ty
    case object n => exact va_AO.moved hW.alike h
    case array t => exact q_AOA_moved hW.alike h
    all_goals exact absurd h (by simp [va_Nw, Cond.before, Cond.holds, Cond.value])
  case stringRef own k tx =>
    have h1 : (Cond.stringRef own k tx).before #[] (s.setVm U.vm) = true := Cond.stringRef_warmed hW h
    have hv : U.vm = (s.setVm U.vm).vm := rfl
    first
      | exact va_tabs rfl hv.symm h1
      | (simp only [va_Nw, Cond.before, Cond.holds, Cond.value, State.names, State.poolOf?, State.resolvedAt?] at h1 ⊢; exact h1)
  all_goals exact absurd hw (by simp [q_isSp])
theorem q_sp_same {w : Cond} (hw : q_isSp w = true) {s U : State} (hv : U.vm = s.vm) (h : va_Nw w s) : va_Nw w U := by
  cases w
  case methodLinkNest a i x h9 => exact va_Nw.same rfl hv.symm h
  case arrayOver ty =>
    cases ty
    case object n => exact va_AO.moved (u := s) (by rw [hv]; exact Vm.Alike.refl _) h
    case array t => exact q_AOA_moved (u := s) (by rw [hv]; exact Vm.Alike.refl _) h
    all_goals exact absurd h (by simp [va_Nw, Cond.before, Cond.holds, Cond.value])
  case stringRef own k tx =>
    first
      | exact va_tabs rfl hv.symm h
      | (simp only [va_Nw, Cond.before, Cond.holds, Cond.value, State.names, State.poolOf?, State.resolvedAt?, hv] at h ⊢; exact h)
  all_goals exact absurd hw (by simp [q_isSp])
theorem q_XW.warm {s U : State} (hW : s.WarmedH U.vm) (h : q_XW s) : q_XW U := fun w hw => q_sp_warm (List.mem_filter.mp hw).2 hW (h w hw)
theorem q_XW.same {s U : State} (hv : U.vm = s.vm) (h : q_XW s) : q_XW U := fun w hw => q_sp_same (List.mem_filter.mp hw).2 hv (h w hw)
-- a method's parts
abbrev q_mY (M : qM) : MethodName := M.1
abbrev q_mB (M : qM) : ByteArray := M.2.1
abbrev q_mL (M : qM) : Nat := M.2.2.1
abbrev q_mT (M : qM) : Option FieldType := M.2.2.2.1
abbrev q_mC (M : qM) : Nat := M.2.2.2.2.1
abbrev q_mK (M : qM) : Nat := M.2.2.2.2.2.1
abbrev q_mA (M : qM) : Nat := M.2.2.2.2.2.2.1
abbrev q_mc (M : qM) : Nat := M.2.2.2.2.2.2.2.1
abbrev q_ms (M : qM) : Nat := M.2.2.2.2.2.2.2.2.1
abbrev q_mI (M : qM) : Lean.RArray qN := M.2.2.2.2.2.2.2.2.2
/-- what a return answers -/
def q_rvo (T : Option FieldType) (v : Nat) (stk : List qV) : Option (Option qV) := match stk with
  | [] => (match T with
    | none => bif Nat.beq v 0 then some none else none
    | _ => none)
  | [x] => (match T with
    | some .int => bif Nat.beq v 1 && Nat.beq (q_knd x) 0 then some (some x) else none
    | some .boolean => bif Nat.beq v 1 && (Nat.beq x.1 0 && Nat.ble x.2 1) then some (some x) else none
    | some .long => bif Nat.beq v 2 && Nat.beq (q_knd x) 1 then some (some x) else none
    | some (.object _) => bif Nat.beq v 3 && Nat.beq (q_knd x) 2 then some (some x) else none
    | some (.array _) => bif Nat.beq v 3 && Nat.beq (q_knd x) 2 then some (some x) else none
    | _ => none)
  | _ => none
def q_args : Nat → List qV → qL
  | _, [] => []
  | i, x :: xs => (i, x) :: q_args (bif Nat.beq (q_cat x) 2 then i + 2 else i + 1) xs
/-- the receiver of a call by its kind: 0 none, 1 any cell, 2 a cell of that class -/
noncomputable def q_rcv (kind ci : Nat) (h : qH) (av : List qV) : Bool := match kind with
  | 0 => true
  | 1 => (match av with
    | x :: _ => Nat.beq x.1 6 && Nat.blt x.2 h.2
    | [] => false)
  | _ => (match av with
    | x :: _ => Nat.beq x.1 6 && Nat.blt x.2 h.2 && Nat.beq (h.1.get x.2).1 ci
    | [] => false)
abbrev q_call : Type := Nat → qE → qH → List qV → (qO → Prop) → Prop
/-- what a frame says of the machine's state -/
def q_cc (fr : qF) (ρ : Nat → Int32) (sb : Nat × va_W) (ws : va_W) (tys : List (ClassId × FieldType)) (cl : List (Nat × Value)) (st : List Value) : Prop := q_En ρ fr.1 ∧ q_Hp ρ sb fr.2.1 ws tys ∧ q_Ls ρ sb ws fr.2.2.2.2.2.1 cl ∧ q_Sk ρ sb ws fr.2.2.2.2.2.2 st
/-- some frame of I says as much -/
def q_cov (fr : qF) (I : qF → Prop) : Prop := ∀ (ρ : Nat → Int32) (sb : Nat × va_W) (ws : va_W) (tys : List (ClassId × FieldType)) (cl : List (Nat × Value)) (st : List Value), q_cc fr ρ sb ws tys cl st → ∃ f, I f ∧ f.2.2.1 = fr.2.2.1 ∧ f.2.2.2.1 = fr.2.2.2.1 ∧ f.2.2.2.2.1 = fr.2.2.2.2.1 ∧ q_cc f ρ sb ws tys cl st
/-- one more instruction, calls by 'call' -/
def q_GS (tab : Nat → qM) (call : q_call) (M : qM) (scr : Bool) (L : Nat) (G : qF → (qO → Prop) → Prop) (fr : qF) (P : qO → Prop) : Prop :=
  (q_pc ((q_mI M).get fr.2.2.2.2.1) = fr.2.2.2.2.1 ∧
    ((((q_mI M).get fr.2.2.2.2.1).1 = 24 ∧ ∃ r, q_rvo (q_mT M) (q_v ((q_mI M).get fr.2.2.2.2.1)) fr.2.2.2.2.2.2 = some r ∧ fr.2.2.1 ≤ q_mc M ∧ fr.2.2.2.1 ≤ q_ms M ∧ P (fr.1, fr.2.1, r)) ∨
    (((q_mI M).get fr.2.2.2.2.1).1 = 23 ∧ ∃ (av rest : List qV), fr.2.2.2.2.2.2 = av.reverse ++ rest ∧ av.length = (if q_mK (tab (q_w ((q_mI M).get fr.2.2.2.2.1))) = 0 then q_mA (tab (q_w ((q_mI M).get fr.2.2.2.2.1))) else q_mA (tab (q_w ((q_mI M).get fr.2.2.2.2.1))) + 1) ∧
      q_rcv (q_mK (tab (q_w ((q_mI M).get fr.2.2.2.2.1)))) (q_mC (tab (q_w ((q_mI M).get fr.2.2.2.2.1)))) fr.2.1 av = true ∧ (rest.map q_cat).sum ≤ 8 ∧
      fr.2.2.1 + q_mc (tab (q_w ((q_mI M).get fr.2.2.2.2.1))) ≤ q_mc M ∧ fr.2.2.2.1 + q_ms (tab (q_w ((q_mI M).get fr.2.2.2.2.1))) ≤ q_ms M ∧
      call (q_w ((q_mI M).get fr.2.2.2.2.1)) fr.1 fr.2.1 av (fun o => G (o.1, o.2.1, fr.2.2.1 + q_mc (tab (q_w ((q_mI M).get fr.2.2.2.2.1))), fr.2.2.2.1 + q_ms (tab (q_w ((q_mI M).get fr.2.2.2.2.1))), fr.2.2.2.2.1 + 3, fr.2.2.2.2.2.1, o.2.2.toList ++ rest) P)) ∨
    (∃ nx, q_step (q_mc M) (q_ms M) scr L (q_mL M) ((q_mI M).get fr.2.2.2.2.1) fr.1 fr.2.1 fr.2.2.1 fr.2.2.2.1 fr.2.2.2.2.2.1 fr.2.2.2.2.2.2 = some nx ∧ ∀ f ∈ nx, G f P))) ∨
    (∃ I : qF → Prop, q_cov fr I ∧ ∀ f, I f → G f P)
/-- from a frame every run comes to a return with P, within n instructions of this method -/
def q_GF (tab : Nat → qM) (call : q_call) (M : qM) (scr : Bool) (L : Nat) : Nat → qF → (qO → Prop) → Prop
  | 0, _, _ => False
  | n + 1, fr, P => q_GS tab call M scr L (q_GF tab call M scr L n) fr P
/-- a method called: every run of it comes to a return with P; at most d calls deep -/
def q_GM (tab : Nat → qM) : Nat → q_call
  | 0, _, _, _, _, _ => False
  | d + 1, id, env, h, av, P => (av.map q_cat).sum ≤ q_mL (tab id) ∧ ∃ n, q_GF tab (q_GM tab d) (tab id) false 0 n (env, h, 0, 0, 0, q_args 0 av, []) P
-- Math.max, Math.min: the platform's own rows may stand for that class, so they are called by the library's contracts
def q_mxI (v : Nat) (t : Lean.RArray qN) : Prop := t.get 0 = (1, 0, 0, 0, 0, 0, []) ∧ t.get 1 = (1, 1, 0, 1, 0, 0, []) ∧ t.get 2 = (9, 2, v, 9, 0, 0, []) ∧ t.get 5 = (1, 5, 0, 0, 0, 0, []) ∧ t.get 6 = (10, 6, 0, 10, 0, 0, []) ∧ t.get 9 = (1, 9, 0, 1, 0, 0, []) ∧ t.get 10 = (24, 10, 1, 0, 0, 0, [])
def q_mxOk (M : qM) : Prop := ((q_mY M = Lib.Math.max.name ∧ q_mB M = Lib.Math.max.code ∧ q_mxI 2 (q_mI M)) ∨ (q_mY M = Lib.Math.min.name ∧ q_mB M = Lib.Math.min.code ∧ q_mxI 4 (q_mI M))) ∧ q_mL M = 2 ∧ q_mT M = some .int ∧ q_mK M = 0 ∧ q_mA M = 2
def q_mxR (ρ : Nat → Int32) (sb : Nat × va_W) (ws : va_W) (tys : List (ClassId × FieldType)) (v : Nat) (x0 x1 : Value) (P : qO → Prop) : Prop := ∃ (a c : Int32) (o : qO) (r : qV), x0 = .int a ∧ x1 = .int c ∧ P o ∧ o.2.2 = some r ∧ q_RV ρ sb ws r (.int (if q_op v a c = true then c else a)) ∧ q_En ρ o.1 ∧ q_Hp ρ sb o.2.1 ws tys
-- what must hold of the tables
def q_yOk (M : qM) : Prop := Cond.code (q_mY M) (q_mB M) (q_mL M) (q_mT M) ∈ qWS ∧ Cond.initialized (q_mY M).cls ∈ qWS ∧ (q_mY M).cls ≠ "java/lang/invoke/MethodHandle" ∧ (q_mY M).cls ≠ "java/lang/invoke/VarHandle" ∧ (parseMethodDescriptor (q_mY M).desc).map (fun d => d.parameters.length) = some (q_mA M) ∧ q_mL M ≤ 81 ∧ (plainName (q_mY M).cls = true ∨ q_mxOk M) ∧
  (q_mK M = 0 → Cond.static (q_mY M) ∈ qWS) ∧ (q_mK M = 1 → (q_mY M).name = "<init>" ∧ Cond.instanceMethod (q_mY M) ∈ qWS ∧ q_mT M = none) ∧ (q_mK M = 2 → Cond.instanceMethod (q_mY M) ∈ qWS ∧ Cond.selects (q_mY M).cls (q_mY M) (q_mY M) ∈ qWS ∧ ∃ r, vwCl[q_mC M]? = some r ∧ r.1 = (q_mY M).cls) ∧ q_mK M ≤ 2
def q_iOk (tab : Nat → qM) (own : String) (init : Bool) (bytes : ByteArray) (e : qN) : Prop := decode bytes (q_pc e) = .ok (q_ins e) ∧ q_ok own init e ∧ (e.1 = 23 → q_v e = q_mK (tab (q_w e)) ∧ (Cond.methodLink own (q_a e) (q_mY (tab (q_w e))) ∈ qWS ∨ (plainName (q_mY (tab (q_w e))).cls = true ∧ ∃ host, Cond.methodLinkNest own (q_a e) (q_mY (tab (q_w e))) host ∈ qSP)))
def q_mOk (tab : Nat → qM) (init : Bool) (M : qM) : Prop := ∀ pc, q_iOk tab (q_mY M).cls init (q_mB M) ((q_mI M).get pc)
/-- all that is promised of the table: each method's instructions are its own -/
def q_tabOk (tab : Nat → qM) : Prop := q_clsAll ∧ ∀ id, q_mOk tab (Nat.beq (q_mK (tab id)) 1) (tab id) ∧ q_yOk (tab id)
-- contracts
def q_res (ρ : Nat → Int32) (sb : Nat × va_W) (ws : va_W) (r : Option qV) (v : Option Value) : Prop := match r, v with
  | none, none => True
  | some x, some y => q_RV ρ sb ws x y
  | _, _ => False
def q_B (D : va_G) (ws : va_W) (tys : List (ClassId × FieldType)) (sz : Nat) (U : State) : Prop := U.heap.size = sz ∧ va_P D vwCl ws U.heap ∧ va_K D vwCl tys U ∧ va_D (fun _ => True) ws ∧ q_XW U
def q_Q (ρ : Nat → Int32) (b : Nat) (D : va_G) (ws : va_W) (sz : Nat) (P : qO → Prop) : Array Value → State → Outcome → State → Prop := fun _ st oc t =>
  (∃ (o : qO) (v : Option Value) (ws' : va_W) (tys' : List (ClassId × FieldType)), oc = .returned v ∧ P o ∧ q_res ρ (b, ws) ws' o.2.2 v ∧ q_En ρ o.1 ∧ q_Hp ρ (b, ws) o.2.1 ws' tys' ∧ va_P D vwCl ws' t.heap ∧ va_K D vwCl tys' t ∧ va_D (va_A ws sz) ws') ∧ va_F (va_A ws sz) st t
abbrev q_rm (d : Nat) (M : qM) : Room := { frames := d + 1, cells := q_mc M, slots := q_ms M, locals := 100 * (d + 2) }
abbrev q_words (M : qM) : List Cond := Cond.code (q_mY M) (q_mB M) (q_mL M) (q_mT M) :: qWS
def q_Snd (l : Launch) (tab : Nat → qM) (d id : Nat) (env : qE) (h : qH) (av : List qV) (P : qO → Prop) : Prop :=
  ∀ (ρ : Nat → Int32) (b : Nat) (D : va_G) (ws : va_W) (tys : List (ClassId × FieldType)) (sz : Nat) (vals : List Value), q_En ρ env → q_Hp ρ (b, ws) h ws tys → q_Sk ρ (b, ws) ws av vals →
    (plainName (q_mY (tab id)).cls = true → Met l (q_mY (tab id)) (q_words (tab id)) (q_rm d (tab id)) (va_Pc vals (q_B D ws tys sz)) (q_Q ρ b D ws sz P) (q_mc (tab id)) (q_ms (tab id)) (va_A ws sz)) ∧
    (∀ v, q_mxI v (q_mI (tab id)) → q_mT (tab id) = some .int → av.length = 2 → ∃ x0 x1, vals = [x0, x1] ∧ q_mxR ρ (b, ws) ws tys v x0 x1 P)
theorem q_good : GoodIn qWS qWS := fun w h => ⟨h, good_of_word (List.mem_filter.mp h).2⟩
theorem q_goodM {M : qM} (h : Cond.code (q_mY M) (q_mB M) (q_mL M) (q_mT M) ∈ qWS) : GoodIn qWS (q_words M) := fun w hw => by
  rcases List.mem_cons.mp hw with rfl | hw
  · exact q_good _ h
  · exact q_good _ hw
theorem q_Sk.split {ρ : Nat → Int32} {sb : Nat × va_W} {ws : va_W} : ∀ {xs ys : List qV} {vs : List Value}, q_Sk ρ sb ws (xs ++ ys) vs → ∃ v1 v2, vs = v1 ++ v2 ∧ q_Sk ρ sb ws xs v1 ∧ q_Sk ρ sb ws ys v2
  | [], ys, vs, h => ⟨[], vs, rfl, trivial, h⟩
  | x :: xs, ys, [], h => (h : False).elim
  | x :: xs, ys, v :: vs, h => by
    obtain ⟨v1, v2, h1, h2, h3⟩ := q_Sk.split (xs := xs) h.2
    exact ⟨v :: v1, v2, by rw [h1]; rfl, ⟨h.1, h2⟩, h3⟩
theorem q_Sk.append {ρ : Nat → Int32} {sb : Nat × va_W} {ws : va_W} : ∀ {xs ys : List qV} {v1 v2 : List Value}, q_Sk ρ sb ws xs v1 → q_Sk ρ sb ws ys v2 → q_Sk ρ sb ws (xs ++ ys) (v1 ++ v2)
  | [], ys, [], v2, _, h => h
  | x :: xs, ys, v :: v1, v2, h1, h2 => ⟨h1.1, q_Sk.append h1.2 h2⟩
  | [], _, _ :: _, _, h, _ => (h : False).elim
  | _ :: _, _, [], _, h, _ => (h : False).elim
theorem q_Sk.rev {ρ : Nat → Int32} {sb : Nat × va_W} {ws : va_W} : ∀ {xs : List qV} {vs : List Value}, q_Sk ρ sb ws xs vs → q_Sk ρ sb ws xs.reverse vs.reverse
  | [], [], _ => trivial
  | x :: xs, v :: vs, h => by
    rw [List.reverse_cons, List.reverse_cons]
    exact q_Sk.append (q_Sk.rev h.2) ⟨h.1, trivial⟩
  | [], _ :: _, h => (h : False).elim
  | _ :: _, [], h => (h : False).elim
theorem q_Sk.len {ρ : Nat → Int32} {sb : Nat × va_W} {ws : va_W} : ∀ {xs : List qV} {vs : List Value}, q_Sk ρ sb ws xs vs → xs.length = vs.length
  | [], [], _ => rfl
  | x :: xs, v :: vs, h => by rw [List.length_cons, List.length_cons, q_Sk.len h.2]
  | [], _ :: _, h => (h : False).elim
  | _ :: _, [], h => (h : False).elim
theorem q_args_ok {ρ : Nat → Int32} {sb : Nat × va_W} {ws : va_W} : ∀ (i : Nat) {xs : List qV} {vs : List Value}, q_Sk ρ sb ws xs vs → q_Ls ρ sb ws (q_args i xs) (lv_args i vs)
  | _, [], [], _ => trivial
  | i, x :: xs, v :: vs, h => by
    refine ⟨rfl, h.1, ?_⟩
    have e : (bif Nat.beq (q_cat x) 2 then i + 2 else i + 1) = (if v.category = 2 then i + 2 else i + 1) := by
      rw [q_beq, h.1.cat]
      by_cases hc : q_cat x = 2 <;> simp [hc]
    show q_Ls ρ sb ws (q_args (bif Nat.beq (q_cat x) 2 then i + 2 else i + 1) xs) (lv_args (if v.category = 2 then i + 2 else i + 1) vs)
    rw [e]
    exact q_args_ok _ h.2
  | _, [], _ :: _, h => (h : False).elim
  | _, _ :: _, [], h => (h : False).elim
theorem q_sl_len : ∀ (vs : List Value), (lg_sl vs).length = (vs.map fun v => v.category).sum
  | [] => rfl
  | v :: vs => by
    have h := q_sl_len vs
    show (List.flatMap _ (v :: vs)).length = _
    rw [List.flatMap_cons, List.length_append, List.map_cons, List.sum_cons]
    have h2 : (List.flatMap (fun v => if v.category = 2 then [Slot.val v, .second] else [.val v]) vs).length = (vs.map fun v => v.category).sum := h
    rw [h2]
    cases v <;> rfl
