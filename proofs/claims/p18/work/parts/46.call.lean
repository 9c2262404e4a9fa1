-- 46.call: words that stay; what a call is
theorem q_AOA_spec {A : Array Value} {s : State} {t : FieldType} (h : (Cond.arrayOver (.array t)).before A s = true) :
    ∃ comp c k, s.vm.findClass (FieldType.array t).toString = some comp ∧ (s.vm.classes.findIdx? fun x => match x.kind with | .array component _ => component == comp | _ => false) = some c ∧ s.vm.classes[c]? = some k ∧ k.kind = .array comp (.array t) ∧
      s.vm.findClass ("[" ++ (FieldType.array t).toString) = some c := by
  simp only [Cond.before, Cond.holds, Cond.value, beq_iff_eq] at h
  cases hc : s.vm.findClass (FieldType.array t).toString with
  | none => simp [hc] at h
  | some comp =>
    simp only [hc, Option.bind_some, Option.bind_eq_some_iff, Option.map_eq_some_iff] at h
    obtain ⟨c, hi, k, hk, hb⟩ := h
    obtain ⟨hlt, hp, -⟩ := Array.findIdx?_eq_some_iff_getElem.mp hi
    have hkk : s.vm.classes[c] = k := (Array.getElem?_eq_some_iff.mp hk).2
    rw [hkk] at hp
    cases hkind : k.kind with
    | array component ty =>
      rw [hkind] at hb hp
      simp at hb hp
      exact ⟨comp, c, k, rfl, hi, hk, by rw [hkind, hp, hb.1], hb.2⟩
    | _ => rw [hkind] at hb; simp at hb
theorem q_AOA_moved {t : FieldType} {u U : State} (hvm : u.vm.Alike U.vm) (h : va_Nw (.arrayOver (.array t)) u) : va_Nw (.arrayOver (.array t)) U := by
  obtain ⟨comp, c, k, h1, h2, h3, h4, h5⟩ := q_AOA_spec h
  obtain ⟨k', hk', he⟩ := hvm.2.2 _ _ h3
  have hi : (U.vm.classes.findIdx? fun (x : Class) => match x.kind with | .array component _ => component == comp | _ => false) = some c := by
    refine (va_idx_bare U.vm comp).symm.trans ?_
    first | rw [hvm.bare_eq] | rw [← hvm.bare_eq]
    exact (va_idx_bare u.vm comp).trans h2
  have hkind : k'.kind = .array comp (.array t) := by rw [he]; exact h4
  have f1 : U.vm.findClass (FieldType.array t).toString = some comp := by rw [hvm.findClass]; exact h1
  have f2 : U.vm.findClass ("[" ++ (FieldType.array t).toString) = some c := by rw [hvm.findClass]; exact h5
  unfold va_Nw Cond.before Cond.holds
  simp only [Cond.value]
  rw [f1, Option.bind_some]
  refine (congrArg (fun o : Option Nat => (o.bind (fun c => (U.vm.classes[c]?).map fun (k : Class) => match k.kind with | .array _ ty => decide (ty = FieldType.array t) && decide (U.vm.findClass ("[" ++ (FieldType.array t).toString) = some c) | _ => false) == some true)) hi).trans ?_
  simp [hk', hkind, f2]
theorem q_sp_warm {w : Cond} (hw : q_isSp w = true) {s U : State} (hW : s.WarmedH U.vm) (h : va_Nw w s) : va_Nw w U := by
  cases w
  case methodLinkNest a i x h9 => exact va_Nw.warmM hW h
  case arrayOver ty =>
    cases ty
    case object n => exact va_AO.moved hW.alike h
    case array t => exact q_AOA_moved hW.alike h
    all_goals exact absurd h (by simp [va_Nw, Cond.before, Cond.holds, Cond.value])
  case stringRef own k tx =>
    have h1 : (Cond.stringRef own k tx).before #[] (s.setVm U.vm) = true := Cond.stringRef_warmed hW h
    have hv : U.vm = (s.setVm U.vm).vm := rfl
    first
      | exact va_tabs rfl hv.symm h1
      | (simp only [va_Nw, Cond.before, Cond.holds, Cond.value, State.names, State.poolOf?, State.resolvedAt?] at h1 ⊢; exact h1)
  all_goals exact absurd hw (by simp [q_isSp])
theorem q_sp_same {w : Cond} (hw : q_isSp w = true) {s U : State} (hv : U.vm = s.vm) (h : va_Nw w s) : va_Nw w U := by
  cases w
  case methodLinkNest a i x h9 => exact va_Nw.same rfl hv.symm h
  case arrayOver ty =>
    cases ty
    case object n => exact va_AO.moved (u := s) (by rw [hv]; exact Vm.Alike.refl _) h
    case array t => exact q_AOA_moved (u := s) (by rw [hv]; exact Vm.Alike.refl _) h
    all_goals exact absurd h (by simp [va_Nw, Cond.before, Cond.holds, Cond.value])
  case stringRef own k tx =>
    first
      | exact va_tabs rfl hv.symm h
      | (simp only [va_Nw, Cond.before, Cond.holds, Cond.value, State.names, State.poolOf?, State.resolvedAt?, hv] at h ⊢; exact h)
  all_goals exact absurd hw (by simp [q_isSp])
theorem q_XW.warm {s U : State} (hW : s.WarmedH U.vm) (h : q_XW s) : q_XW U := fun w hw => q_sp_warm (List.mem_filter.mp hw).2 hW (h w hw)
theorem q_XW.same {s U : State} (hv : U.vm = s.vm) (h : q_XW s) : q_XW U := fun w hw => q_sp_same (List.mem_filter.mp hw).2 hv (h w hw)
def q_maOk (M : qM) : Prop := ∃ mm, q_mY M = q_maN mm ∧ q_mB M = q_maB mm ∧ q_maI mm (q_mI M) ∧ q_mL M = q_maL mm ∧ q_mT M = q_maT mm ∧ q_mK M = 0 ∧ q_mA M = q_maA mm
-- what must hold of the tables
def q_yOk (M : qM) : Prop := Cond.code (q_mY M) (q_mB M) (q_mL M) (q_mT M) ∈ qWS ∧ Cond.initialized (q_mY M).cls ∈ qWS ∧ (q_mY M).cls ≠ "java/lang/invoke/MethodHandle" ∧ (q_mY M).cls ≠ "java/lang/invoke/VarHandle" ∧ (parseMethodDescriptor (q_mY M).desc).map (fun d => d.parameters.length) = some (q_mA M) ∧ q_mL M ≤ 81 ∧ (plainName (q_mY M).cls = true ∨ q_maOk M) ∧
  (q_mK M = 0 → Cond.static (q_mY M) ∈ qWS) ∧ (q_mK M = 1 → (q_mY M).name = "<init>" ∧ Cond.instanceMethod (q_mY M) ∈ qWS ∧ q_mT M = none) ∧ (q_mK M = 2 → Cond.instanceMethod (q_mY M) ∈ qWS ∧ Cond.selects (q_mY M).cls (q_mY M) (q_mY M) ∈ qWS ∧ ∃ r, vwCl[q_mC M]? = some r ∧ r.1 = (q_mY M).cls) ∧ q_mK M ≤ 2
def q_iOk (tab : Nat → qM) (own : String) (init : Bool) (bytes : ByteArray) (e : qN) : Prop := decode bytes (q_pc e) = .ok (q_ins e) ∧ q_ok own init e ∧ (e.1 = 23 → q_v e = q_mK (tab (q_w e)) ∧ (Cond.methodLink own (q_a e) (q_mY (tab (q_w e))) ∈ qWS ∨ (plainName (q_mY (tab (q_w e))).cls = true ∧ ∃ host, Cond.methodLinkNest own (q_a e) (q_mY (tab (q_w e))) host ∈ qSP)))
def q_mOk (tab : Nat → qM) (init : Bool) (M : qM) : Prop := ∀ pc, q_iOk tab (q_mY M).cls init (q_mB M) ((q_mI M).get pc)
/-- all that is promised of the table: each method's instructions are its own -/
def q_tabOk (tab : Nat → qM) : Prop := q_clsAll ∧ ∀ id, q_mOk tab (Nat.beq (q_mK (tab id)) 1) (tab id) ∧ q_yOk (tab id)
-- contracts
def q_res (ρ : Nat → Int32) (sb : (Nat → Nat) × va_W) (ws : va_W) (r : Option qV) (v : Option Value) : Prop := match r, v with
  | none, none => True
  | some x, some y => q_RV ρ sb ws x y
  | _, _ => False
theorem q_TX.kept {b : Nat → Nat} {A : Nat → Prop} {U : State} {H H1 : Heap} (h : q_TX b A U H) (hq : ∀ a : Nat, a < H.size → ¬ A a → H1[a]? = H[a]?) : q_TX b A U H1 := ⟨h.1, q_JT.kept (b := b) h.2 hq⟩
theorem q_TX.narrow {b : Nat → Nat} {A B : Nat → Prop} {U : State} {H : Heap} (h : q_TX b A U H) (hAB : ∀ q, B q → A q) : q_TX b B U H := ⟨h.1, q_JT.narrow (b := b) h.2 hAB⟩
theorem q_TX.warm {b : Nat → Nat} {A : Nat → Prop} {s U : State} {H : Heap} (hW : s.WarmedH U.vm) (h : q_TX b A s H) : q_TX b A U H := ⟨fun own k i tx h1 h2 => vk_R.warm hW (h.1 own k i tx h1 h2), q_JT.moved (b := b) hW.alike h.2⟩
theorem q_TX.same {b : Nat → Nat} {A : Nat → Prop} {s U : State} {H : Heap} (hv : U.vm = s.vm) (h : q_TX b A s H) : q_TX b A U H := ⟨fun own k i tx h1 h2 => vk_R.same hv (h.1 own k i tx h1 h2), q_JT.moved (b := b) (by rw [hv]; exact Vm.Alike.refl _) h.2⟩
def q_B (b : Nat → Nat) (D : va_G) (ws : va_W) (tys : List (ClassId × FieldType)) (sz : Nat) (U : State) : Prop := U.heap.size = sz ∧ va_P D vwCl ws U.heap ∧ va_K D vwCl tys U ∧ va_D (fun _ => True) ws ∧ q_XW U ∧ q_TX b (va_A ws sz) U U.heap
def q_Q (ρ : Nat → Int32) (b : Nat → Nat) (D : va_G) (ws : va_W) (sz : Nat) (P : qO → Prop) : Array Value → State → Outcome → State → Prop := fun _ st oc t =>
  (∃ (o : qO) (v : Option Value) (ws' : va_W) (tys' : List (ClassId × FieldType)), oc = .returned v ∧ P o ∧ q_res ρ (b, ws) ws' o.2.2 v ∧ q_En ρ o.1 ∧ q_Hp ρ (b, ws) o.2.1 ws' tys' ∧ va_P D vwCl ws' t.heap ∧ va_K D vwCl tys' t ∧ va_D (va_A ws sz) ws') ∧ va_F (va_A ws sz) st t
abbrev q_rm (d : Nat) (M : qM) : Room := { frames := d + 6, cells := q_mc M, slots := q_ms M, locals := 100 * (d + 7) }
abbrev q_words (M : qM) : List Cond := Cond.code (q_mY M) (q_mB M) (q_mL M) (q_mT M) :: qWS
def q_Snd (l : Launch) (tab : Nat → qM) (d id : Nat) (env : qE) (h : qH) (av : List qV) (P : qO → Prop) : Prop :=
  ∀ (ρ : Nat → Int32) (b : Nat → Nat) (D : va_G) (ws : va_W) (tys : List (ClassId × FieldType)) (sz : Nat) (vals : List Value), q_En ρ env → q_Hp ρ (b, ws) h ws tys → q_Sk ρ (b, ws) ws av vals →
    (plainName (q_mY (tab id)).cls = true → Met l (q_mY (tab id)) (q_words (tab id)) (q_rm d (tab id)) (va_Pc vals (q_B b D ws tys sz)) (q_Q ρ b D ws sz P) (q_mc (tab id)) (q_ms (tab id)) (va_A ws sz)) ∧
    (∀ mm, q_maI mm (q_mI (tab id)) → av.length = q_maA mm → q_maR ρ (b, ws) ws tys mm vals P)
theorem q_good : GoodIn qWS qWS := fun w h => ⟨h, good_of_word (List.mem_filter.mp h).2⟩
theorem q_goodM {M : qM} (h : Cond.code (q_mY M) (q_mB M) (q_mL M) (q_mT M) ∈ qWS) : GoodIn qWS (q_words M) := fun w hw => by
  rcases List.mem_cons.mp hw with rfl | hw
  · exact q_good _ h
  · exact q_good _ hw
theorem q_Sk.split {ρ : Nat → Int32} {sb : (Nat → Nat) × va_W} {ws : va_W} : ∀ {xs ys : List qV} {vs : List Value}, q_Sk ρ sb ws (xs ++ ys) vs → ∃ v1 v2, vs = v1 ++ v2 ∧ q_Sk ρ sb ws xs v1 ∧ q_Sk ρ sb ws ys v2
  | [], ys, vs, h => ⟨[], vs, rfl, trivial, h⟩
  | x :: xs, ys, [], h => (h : False).elim
  | x :: xs, ys, v :: vs, h => by
    obtain ⟨v1, v2, h1, h2, h3⟩ := q_Sk.split (xs := xs) h.2
    exact ⟨v :: v1, v2, by rw [h1]; rfl, ⟨h.1, h2⟩, h3⟩
theorem q_Sk.append {ρ : Nat → Int32} {sb : (Nat → Nat) × va_W} {ws : va_W} : ∀ {xs ys : List qV} {v1 v2 : List Value}, q_Sk ρ sb ws xs v1 → q_Sk ρ sb ws ys v2 → q_Sk ρ sb ws (xs ++ ys) (v1 ++ v2)
  | [], ys, [], v2, _, h => h
  | x :: xs, ys, v :: v1, v2, h1, h2 => ⟨h1.1, q_Sk.append h1.2 h2⟩
  | [], _, _ :: _, _, h, _ => (h : False).elim
  | _ :: _, _, [], _, h, _ => (h : False).elim
theorem q_Sk.rev {ρ : Nat → Int32} {sb : (Nat → Nat) × va_W} {ws : va_W} : ∀ {xs : List qV} {vs : List Value}, q_Sk ρ sb ws xs vs → q_Sk ρ sb ws xs.reverse vs.reverse
  | [], [], _ => trivial
  | x :: xs, v :: vs, h => by
    rw [List.reverse_cons, List.reverse_cons]
    exact q_Sk.append (q_Sk.rev h.2) ⟨h.1, trivial⟩
  | [], _ :: _, h => (h : False).elim
  | _ :: _, [], h => (h : False).elim
theorem q_Sk.len {ρ : Nat → Int32} {sb : (Nat → Nat) × va_W} {ws : va_W} : ∀ {xs : List qV} {vs : List Value}, q_Sk ρ sb ws xs vs → xs.length = vs.length
  | [], [], _ => rfl
  | x :: xs, v :: vs, h => by rw [List.length_cons, List.length_cons, q_Sk.len h.2]
  | [], _ :: _, h => (h : False).elim
  | _ :: _, [], h => (h : False).elim
theorem q_args_ok {ρ : Nat → Int32} {sb : (Nat → Nat) × va_W} {ws : va_W} : ∀ (i : Nat) {xs : List qV} {vs : List Value}, q_Sk ρ sb ws xs vs → q_Ls ρ sb ws (q_args i xs) (lv_args i vs)
  | _, [], [], _ => trivial
  | i, x :: xs, v :: vs, h => by
    refine ⟨rfl, h.1, ?_⟩
    have e : (bif Nat.beq (q_cat x) 2 then i + 2 else i + 1) = (if v.category = 2 then i + 2 else i + 1) := by
      rw [q_beq, h.1.cat]
      by_cases hc : q_cat x = 2 <;> simp [hc]
    show q_Ls ρ sb ws (q_args (bif Nat.beq (q_cat x) 2 then i + 2 else i + 1) xs) (lv_args (if v.category = 2 then i + 2 else i + 1) vs)
    rw [e]
    exact q_args_ok _ h.2
  | _, [], _ :: _, h => (h : False).elim
  | _, _ :: _, [], h => (h : False).elim
theorem q_sl_len : ∀ (vs : List Value), (lg_sl vs).length = (vs.map fun v => v.category).sum
  | [] => rfl
  | v :: vs => by
    have h := q_sl_len vs
    show (List.flatMap _ (v :: vs)).length = _
    rw [List.flatMap_cons, List.length_append, List.map_cons, List.sum_cons]
    have h2 : (List.flatMap (fun v => if v.category = 2 then [Slot.val v, .second] else [.val v]) vs).length = (vs.map fun v => v.category).sum := h
    rw [h2]
    cases v <;> rfl
