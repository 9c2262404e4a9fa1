-- 48.chk: what must hold of the tables, as a program decides it
def q_tyB (code : Nat) (ty : FieldType) : Bool := match ty with
  | .int => Nat.beq code 0
  | .boolean => Nat.beq code 1
  | .long => Nat.beq code 2
  | .object _ => Nat.beq code 3
  | .array _ => Nat.beq code 3
  | _ => false
theorem q_tyB_ok {code : Nat} {ty : FieldType} (h : q_tyB code ty = true) : q_tyOk code ty := by
  cases ty
  case int => rw [Nat.eq_of_beq_eq_true h]; exact rfl
  case boolean => rw [Nat.eq_of_beq_eq_true h]; exact rfl
  case long => rw [Nat.eq_of_beq_eq_true h]; exact rfl
  case object n => rw [Nat.eq_of_beq_eq_true h]; exact Or.inl ⟨n, rfl⟩
  case array t => rw [Nat.eq_of_beq_eq_true h]; exact Or.inr ⟨t, rfl⟩
  all_goals cases h
def q_fdB (d : String) (code : Nat) : Bool := match parseFieldDescriptor d with
  | some ty => q_tyB code ty
  | none => false
theorem q_fdB_ok {d : String} {code : Nat} (h : q_fdB d code = true) : ∃ ty, parseFieldDescriptor d = some ty ∧ q_tyOk code ty := by
  unfold q_fdB at h
  cases hp : parseFieldDescriptor d with
  | none => rw [hp] at h; cases h
  | some ty => rw [hp] at h; exact ⟨ty, rfl, q_tyB_ok h⟩
def q_strB (own : String) (a n b : Nat) : Bool := match q_wd n with
  | some (.stringRef o i tx) => decide (o = own) && (Nat.beq i a && decide (q_txs[b]? = some tx))
  | _ => false
theorem q_strB_ok {own : String} {a n b : Nat} (h : q_strB own a n b = true) : ∃ tx, Cond.stringRef own a tx ∈ qSP ∧ q_txs[b]? = some tx := by
  unfold q_strB at h
  split at h
  · rename_i o i tx hw
    simp only [Bool.and_eq_true] at h
    have h1 : o = own := of_decide_eq_true h.1
    have h2 := Nat.eq_of_beq_eq_true h.2.1
    subst h1; subst h2
    exact ⟨tx, List.mem_filter.mpr ⟨q_wd_mem hw, rfl⟩, of_decide_eq_true h.2.2⟩
  · cases h
def q_clB (v : Nat) (f : vw_C → Bool) : Bool := match vwCl[v]? with
  | some r => f r
  | none => false
theorem q_clB_ok {v : Nat} {f : vw_C → Bool} (h : q_clB v f = true) : ∃ r, vwCl[v]? = some r ∧ f r = true := by
  unfold q_clB at h
  cases hr : vwCl[v]? with
  | none => rw [hr] at h; cases h
  | some r => rw [hr] at h; exact ⟨r, rfl, h⟩
def q_okB (own : String) (init : Bool) (e : qN) : Bool := match e.1 with
  | 0 => (match q_v e with
    | 4 => q_has (q_w e) (.constant own (q_a e) (qI (q_b e)))
    | 5 => q_has (q_w e) (.constant own (q_a e) (qI (q_b e)))
    | 6 => q_has (q_w e) (.constantLong own (q_a e) (qJ (q_b e)))
    | 7 => q_strB own (q_a e) (q_w e) (q_b e)
    | _ => true)
  | 1 => !(Nat.beq (q_v e) 0 || Nat.beq (q_v e) 2 || Nat.beq (q_v e) 4) || Nat.blt (q_a e) 4
  | 2 => !(Nat.beq (q_v e) 0 || Nat.beq (q_v e) 2 || Nat.beq (q_v e) 4) || Nat.blt (q_a e) 4
  | 14 => q_clB (q_v e) fun r => Nat.blt (q_b e) r.2.2 && q_has (q_w e) (.fieldLink own (q_a e) (r.2.1 (q_b e)).1 (r.2.1 (q_b e)).2.1 (r.2.1 (q_b e)).2.2.1)
  | 15 => q_clB (q_v e) fun r => Nat.blt (q_b e) r.2.2 && (q_has (q_w e) (.fieldLink own (q_a e) (r.2.1 (q_b e)).1 (r.2.1 (q_b e)).2.1 (r.2.1 (q_b e)).2.2.1) && (q_fdB (r.2.1 (q_b e)).2.2.1 ((q_t e).getD 0 9) && (!(r.2.1 (q_b e)).2.2.2 || (init && decide ((r.2.1 (q_b e)).1 = own)))))
  | 16 => q_has (q_w e) (.arrayClass (newarray.typeOf (q_aty (q_v e)))) && Nat.ble (q_v e) 3
  | 17 => q_clB (q_v e) fun r => Nat.blt 0 r.2.2 && (Nat.blt (q_v e) 100 && (q_has (q_w e) (.classLink own (q_a e) r.1) && q_hasS ((q_t e).getD 0 0) (.arrayOver (.object r.1))))
  | 18 => q_has (q_w e) (.classLink own (q_a e) ("[" ++ (FieldType.array .int).toString)) && (q_hasS ((q_t e).getD 0 0) (.arrayOver (.array .int)) && q_has ((q_t e).getD 1 0) (.arrayClass .int))
  | 22 => q_clB (q_v e) fun r => Nat.blt (q_v e) 100 && (Nat.beq r.2.2 (q_t e).length && (q_has (q_w e) (.classLink own (q_a e) r.1) && (q_has (q_b e / 10000) (.instantiable r.1 r.2.2) && (q_has (q_b e % 10000) (.initialized r.1) && (List.range r.2.2).all fun j => q_fdB (r.2.1 j).2.2.1 ((q_t e).getD j 9)))))
  | 25 => q_has (q_w e) (.methodLink own (q_a e) Lib.objectInit) && (q_has ((q_t e).getD 0 0) (.instanceMethod Lib.objectInit) && q_has ((q_t e).getD 1 0) (.code Lib.objectInit ⟨#[0xb1]⟩ 1 none))
  | 26 => q_has (q_w e) (.methodLink own (q_a e) arraycopyName) && (q_has ((q_t e).getD 0 0) (.native arraycopyName) && (q_has ((q_t e).getD 1 0) (.static arraycopyName) && q_has ((q_t e).getD 2 0) (.initialized "java/lang/System")))
  | 29 => q_has (q_w e) (.methodLink own (q_a e) yJ0_length_8abf5)
  | 30 => q_has (q_w e) (.methodLink own (q_a e) yJ0_charAt_5068e)
  | _ => true
theorem q_vB_ok {v a : Nat} (h : (!(Nat.beq v 0 || Nat.beq v 2 || Nat.beq v 4) || Nat.blt a 4) = true) : v = 0 ∨ v = 2 ∨ v = 4 → a < 4 := by
  intro hv
  rw [Bool.or_eq_true] at h
  rcases h with h | h
  · rcases hv with rfl | rfl | rfl <;> cases h
  · rw [q_blt] at h
    exact of_decide_eq_true h
theorem q_okB_ok {own : String} {init : Bool} {e : qN} (h : q_okB own init e = true) : q_ok own init e := by
  obtain ⟨op, pc, v, a, b, w, t⟩ := e
  rcases op with _ | _ | _ | _ | _ | _ | _ | _ | _ | _ | _ | _ | _ | _ | _ | _ | _ | _ | _ | _ | _ | _ | _ | _ | _ | _ | _ | _ | _ | _ | _ | op
  · rcases v with _ | _ | _ | _ | _ | _ | _ | _ | v
    · trivial
    · trivial
    · trivial
    · trivial
    · exact q_has_mem h
    · exact q_has_mem h
    · exact q_has_mem h
    · exact q_strB_ok h
    · trivial
  · exact q_vB_ok h
  · exact q_vB_ok h
  · trivial
  · trivial
  · trivial
  · trivial
  · trivial
  · trivial
  · trivial
  · trivial
  · trivial
  · trivial
  · trivial
  · obtain ⟨r, hr, hf⟩ := q_clB_ok h
    rw [Bool.and_eq_true, q_blt] at hf
    exact ⟨r, hr, of_decide_eq_true hf.1, q_has_mem hf.2⟩
  · obtain ⟨r, hr, hf⟩ := q_clB_ok h
    simp only [Bool.and_eq_true, q_blt, decide_eq_true_eq] at hf
    obtain ⟨f1, f2, f3, f4⟩ := hf
    refine ⟨r, hr, f1, q_has_mem f2, q_fdB_ok f3, fun hfin => ?_⟩
    rw [Bool.or_eq_true] at f4
    rcases f4 with f4 | f4
    · have hfin : (r.2.1 b).2.2.2 = true := hfin
      have f4 : (!(r.2.1 b).2.2.2) = true := f4
      rw [hfin] at f4
      cases f4
    · rw [Bool.and_eq_true] at f4
      exact ⟨f4.1, of_decide_eq_true f4.2⟩
  · have h : (q_has w (.arrayClass (newarray.typeOf (q_aty v))) && Nat.ble v 3) = true := h
    rw [Bool.and_eq_true] at h
    exact ⟨q_has_mem h.1, Nat.le_of_ble_eq_true h.2⟩
  · obtain ⟨r, hr, hf⟩ := q_clB_ok h
    simp only [Bool.and_eq_true, q_blt, decide_eq_true_eq] at hf
    obtain ⟨f1, f2, f3, f4⟩ := hf
    exact ⟨r, hr, f1, f2, q_has_mem f3, q_hasS_mem f4⟩
  · have h : (q_has w (.classLink own a ("[" ++ (FieldType.array .int).toString)) && (q_hasS (t.getD 0 0) (.arrayOver (.array .int)) && q_has (t.getD 1 0) (.arrayClass .int))) = true := h
    simp only [Bool.and_eq_true] at h
    exact ⟨q_has_mem h.1, q_hasS_mem h.2.1, q_has_mem h.2.2⟩
  · trivial
  · trivial
  · trivial
  · obtain ⟨r, hr, hf⟩ := q_clB_ok h
    simp only [Bool.and_eq_true, q_blt, decide_eq_true_eq] at hf
    obtain ⟨f1, f2, f3, f4, f5, f6⟩ := hf
    exact ⟨r, hr, f1, Nat.eq_of_beq_eq_true f2, q_has_mem f3, q_has_mem f4, q_has_mem f5, fun j hj => q_fdB_ok (List.all_eq_true.mp f6 j (List.mem_range.mpr hj))⟩
  · trivial
  · trivial
  · have h : (q_has w (.methodLink own a Lib.objectInit) && (q_has (t.getD 0 0) (.instanceMethod Lib.objectInit) && q_has (t.getD 1 0) (.code Lib.objectInit ⟨#[0xb1]⟩ 1 none))) = true := h
    simp only [Bool.and_eq_true] at h
    exact ⟨q_has_mem h.1, q_has_mem h.2.1, q_has_mem h.2.2⟩
  · have h : (q_has w (.methodLink own a arraycopyName) && (q_has (t.getD 0 0) (.native arraycopyName) && (q_has (t.getD 1 0) (.static arraycopyName) && q_has (t.getD 2 0) (.initialized "java/lang/System")))) = true := h
    simp only [Bool.and_eq_true] at h
    exact ⟨q_has_mem h.1, q_has_mem h.2.1, q_has_mem h.2.2.1, q_has_mem h.2.2.2⟩
  · trivial
  · trivial
  · exact q_has_mem h
  · exact q_has_mem h
  · trivial
def q_lkB (own : String) (a n : Nat) (y : MethodName) : Bool := match q_wd n with
  | some (.methodLink o i y') => decide (o = own) && (Nat.beq i a && decide (y' = y))
  | some (.methodLinkNest o i y' _) => decide (o = own) && (Nat.beq i a && decide (y' = y)) && plainName y.cls
  | _ => false
theorem q_lkB_ok {own : String} {a n : Nat} {y : MethodName} (h : q_lkB own a n y = true) : Cond.methodLink own a y ∈ qWS ∨ (plainName y.cls = true ∧ ∃ host, Cond.methodLinkNest own a y host ∈ qSP) := by
  unfold q_lkB at h
  split at h
  · rename_i o i y' hw
    simp only [Bool.and_eq_true] at h
    have h1 : o = own := of_decide_eq_true h.1
    have h2 := Nat.eq_of_beq_eq_true h.2.1
    have h3 : y' = y := of_decide_eq_true h.2.2
    subst h1; subst h2; subst h3
    exact Or.inl (List.mem_filter.mpr ⟨q_wd_mem hw, rfl⟩)
  · rename_i o i y' host hw
    simp only [Bool.and_eq_true] at h
    have h1 : o = own := of_decide_eq_true h.1.1
    have h2 := Nat.eq_of_beq_eq_true h.1.2.1
    have h3 : y' = y := of_decide_eq_true h.1.2.2
    have h4 := h.2
    subst h1; subst h2; subst h3
    exact Or.inr ⟨h4, host, List.mem_filter.mpr ⟨q_wd_mem hw, rfl⟩⟩
  · cases h
noncomputable def q_iB (tab : Nat → qM) (own : String) (init : Bool) (bytes : ByteArray) (e : qN) : Bool := q_dB bytes e && (q_okB own init e && (!(Nat.beq e.1 23) || (Nat.beq (q_v e) (q_mK (tab (q_w e))) && q_lkB own (q_a e) (q_b e) (q_mY (tab (q_w e))))))
theorem q_iB_ok {tab : Nat → qM} {own : String} {init : Bool} {bytes : ByteArray} {e : qN} (h : q_iB tab own init bytes e = true) : q_iOk tab own init bytes e := by
  unfold q_iB at h
  simp only [Bool.and_eq_true] at h
  obtain ⟨h1, h2, h3⟩ := h
  refine ⟨q_dB_ok h1, q_okB_ok h2, fun h23 => ?_⟩
  rw [Bool.or_eq_true] at h3
  rcases h3 with h3 | h3
  · rw [h23] at h3
    cases h3
  · rw [Bool.and_eq_true] at h3
    exact ⟨Nat.eq_of_beq_eq_true h3.1, q_lkB_ok h3.2⟩
noncomputable def q_all {α : Type} (f : α → Bool) (t : Lean.RArray α) : Bool := Lean.RArray.rec (motive := fun _ => Bool) (fun a => f a) (fun _ _ _ l r => cond l r false) t
theorem q_all_get {α : Type} {f : α → Bool} {t : Lean.RArray α} (h : q_all f t = true) (n : Nat) : f (t.get n) = true := by
  induction t with
  | leaf a => exact h
  | branch p l r il ir =>
    have h : cond (q_all f l) (q_all f r) false = true := h
    rw [q_get_branch]
    cases hl : q_all f l with
    | false => rw [hl] at h; cases h
    | true =>
      rw [hl] at h
      by_cases hp : p ≤ n
      · rw [if_pos hp]; exact ir h
      · rw [if_neg hp]; exact il hl
noncomputable def q_allP {α : Type} (f : α → Prop) (t : Lean.RArray α) : Prop := Lean.RArray.rec (motive := fun _ => Prop) (fun a => f a) (fun _ _ _ l r => l ∧ r) t
theorem q_allP_get {α : Type} {f : α → Prop} {t : Lean.RArray α} (h : q_allP f t) (n : Nat) : f (t.get n) := by
  induction t with
  | leaf a => exact h
  | branch p l r il ir =>
    have h : q_allP f l ∧ q_allP f r := h
    rw [q_get_branch]
    by_cases hp : p ≤ n
    · rw [if_pos hp]; exact ir h.2
    · rw [if_neg hp]; exact il h.1
def q_mxIB (v : Nat) (t : Lean.RArray qN) : Bool := decide (t.get 0 = (1, 0, 0, 0, 0, 0, [])) && (decide (t.get 1 = (1, 1, 0, 1, 0, 0, [])) && (decide (t.get 2 = (9, 2, v, 9, 0, 0, [])) && (decide (t.get 5 = (1, 5, 0, 0, 0, 0, [])) && (decide (t.get 6 = (10, 6, 0, 10, 0, 0, [])) && (decide (t.get 9 = (1, 9, 0, 1, 0, 0, [])) && decide (t.get 10 = (24, 10, 1, 0, 0, 0, [])))))))
theorem q_mxIB_ok {v : Nat} {t : Lean.RArray qN} (h : q_mxIB v t = true) : q_mxI v t := by
  unfold q_mxIB at h
  simp only [Bool.and_eq_true, decide_eq_true_eq] at h
  exact h
def q_mlIB (v : Nat) (t : Lean.RArray qN) : Bool := decide (t.get 0 = (1, 0, 2, 0, 0, 0, [])) && (decide (t.get 1 = (1, 1, 2, 2, 0, 0, [])) && (decide (t.get 2 = (7, 2, 0, 0, 0, 0, [])) && (decide (t.get 3 = (8, 3, v, 10, 0, 0, [])) && (decide (t.get 6 = (1, 6, 2, 0, 0, 0, [])) && (decide (t.get 7 = (10, 7, 0, 11, 0, 0, [])) && (decide (t.get 10 = (1, 10, 2, 2, 0, 0, [])) && decide (t.get 11 = (24, 11, 2, 0, 0, 0, []))))))))
theorem q_mlIB_ok {v : Nat} {t : Lean.RArray qN} (h : q_mlIB v t = true) : q_mlI v t := by
  unfold q_mlIB at h
  simp only [Bool.and_eq_true, decide_eq_true_eq] at h
  exact h
def q_mbIB (t : Lean.RArray qN) : Bool := decide (t.get 0 = (1, 0, 2, 0, 0, 0, [])) && (decide (t.get 1 = (0, 1, 3, 0, 0, 0, [])) && (decide (t.get 2 = (7, 2, 0, 0, 0, 0, [])) && (decide (t.get 3 = (8, 3, 3, 11, 0, 0, [])) && (decide (t.get 6 = (1, 6, 2, 0, 0, 0, [])) && (decide (t.get 7 = (28, 7, 0, 0, 0, 0, [])) && (decide (t.get 8 = (10, 8, 0, 12, 0, 0, [])) && (decide (t.get 11 = (1, 11, 2, 0, 0, 0, [])) && decide (t.get 12 = (24, 12, 2, 0, 0, 0, [])))))))))
theorem q_mbIB_ok {t : Lean.RArray qN} (h : q_mbIB t = true) : q_mbI t := by
  unfold q_mbIB at h
  simp only [Bool.and_eq_true, decide_eq_true_eq] at h
  exact h
def q_maIB (mm : Nat) (t : Lean.RArray qN) : Bool := match mm with
  | 0 => q_mxIB 2 t
  | 1 => q_mxIB 4 t
  | 2 => q_mlIB 2 t
  | 3 => q_mlIB 4 t
  | 4 => q_mbIB t
  | _ => false
theorem q_maIB_ok {mm : Nat} {t : Lean.RArray qN} (h : q_maIB mm t = true) : q_maI mm t := by
  rcases mm with _ | _ | _ | _ | _ | mm
  · exact q_mxIB_ok h
  · exact q_mxIB_ok h
  · exact q_mlIB_ok h
  · exact q_mlIB_ok h
  · exact q_mbIB_ok h
  · cases h
def q_ma1 (M : qM) (mm : Nat) : Bool := decide (q_mY M = q_maN mm) && (decide ((q_mB M).data.toList = (q_maB mm).data.toList) && (q_maIB mm (q_mI M) && (decide (q_mL M = q_maL mm) && (decide (q_mT M = q_maT mm) && (decide (q_mK M = 0) && decide (q_mA M = q_maA mm))))))
def q_mxB (M : qM) : Bool := q_ma1 M 0 || (q_ma1 M 1 || (q_ma1 M 2 || (q_ma1 M 3 || q_ma1 M 4)))
theorem q_ma1_ok {M : qM} {mm : Nat} (h : q_ma1 M mm = true) : q_maOk M := by
  unfold q_ma1 at h
  simp only [Bool.and_eq_true, decide_eq_true_eq] at h
  obtain ⟨h1, h2, h3, h4⟩ := h
  exact ⟨mm, h1, ByteArray.ext (Array.ext' h2), q_maIB_ok h3, h4⟩
theorem q_mxB_ok {M : qM} (h : q_mxB M = true) : q_maOk M := by
  unfold q_mxB at h
  simp only [Bool.or_eq_true] at h
  rcases h with h | h | h | h | h <;> exact q_ma1_ok h
def q_yB (M : qM) (is : List Nat) : Bool :=
  q_has (is.getD 0 0) (.code (q_mY M) (q_mB M) (q_mL M) (q_mT M)) && (q_has (is.getD 1 0) (.initialized (q_mY M).cls) && (decide ((q_mY M).cls ≠ "java/lang/invoke/MethodHandle") && (decide ((q_mY M).cls ≠ "java/lang/invoke/VarHandle") && (decide ((parseMethodDescriptor (q_mY M).desc).map (fun d => d.parameters.length) = some (q_mA M)) && (Nat.ble (q_mL M) 81 && ((plainName (q_mY M).cls || q_mxB M) &&
    (match q_mK M with
    | 0 => q_has (is.getD 2 0) (.static (q_mY M))
    | 1 => decide ((q_mY M).name = "<init>") && (q_has (is.getD 2 0) (.instanceMethod (q_mY M)) && decide (q_mT M = none))
    | 2 => q_has (is.getD 2 0) (.instanceMethod (q_mY M)) && (q_has (is.getD 3 0) (.selects (q_mY M).cls (q_mY M) (q_mY M)) && q_clB (q_mC M) fun r => decide (r.1 = (q_mY M).cls))
    | _ => false)))))))
theorem q_yB_ok {M : qM} {is : List Nat} (h : q_yB M is = true) : q_yOk M := by
  unfold q_yB at h
  simp only [Bool.and_eq_true] at h
  obtain ⟨h1, h2, h3, h4, h5, h6, h7, h8⟩ := h
  refine ⟨q_has_mem h1, q_has_mem h2, of_decide_eq_true h3, of_decide_eq_true h4, of_decide_eq_true h5, Nat.le_of_ble_eq_true h6, (by rw [Bool.or_eq_true] at h7; exact h7.imp_right q_mxB_ok), ?_⟩
  generalize q_mK M = kd at *
  rcases kd with _ | _ | _ | kd
  · exact ⟨fun _ => q_has_mem h8, (fun q => by cases q), (fun q => by cases q), Nat.zero_le _⟩
  · have h8 : (decide ((q_mY M).name = "<init>") && (q_has (is.getD 2 0) (.instanceMethod (q_mY M)) && decide (q_mT M = none))) = true := h8
    simp only [Bool.and_eq_true] at h8
    exact ⟨(fun q => by cases q), fun _ => ⟨of_decide_eq_true h8.1, q_has_mem h8.2.1, of_decide_eq_true h8.2.2⟩, (fun q => by cases q), by decide⟩
  · have h8 : (q_has (is.getD 2 0) (.instanceMethod (q_mY M)) && (q_has (is.getD 3 0) (.selects (q_mY M).cls (q_mY M) (q_mY M)) && q_clB (q_mC M) fun r => decide (r.1 = (q_mY M).cls))) = true := h8
    simp only [Bool.and_eq_true] at h8
    obtain ⟨r, hr, hf⟩ := q_clB_ok h8.2.2
    exact ⟨(fun q => by cases q), (fun q => by cases q), fun _ => ⟨q_has_mem h8.1, q_has_mem h8.2.1, r, hr, of_decide_eq_true hf⟩, by decide⟩
  · cases h8
noncomputable def q_mB1 (tab : Nat → qM) (M : qM × List Nat) : Bool := q_yB M.1 M.2 && q_all (q_iB tab (q_mY M.1).cls (Nat.beq (q_mK M.1) 1) (q_mB M.1)) (q_mI M.1)
theorem q_tab_of {t : Lean.RArray (qM × List Nat)} {tab : Nat → qM} (hc : q_clsAll) (h : q_allP (fun M => q_mB1 tab M = true) t) (ht : ∀ id, tab id = (t.get id).1 := by exact fun _ => rfl) : q_tabOk tab := by
  refine ⟨hc, fun id => ?_⟩
  have h1 := q_allP_get h id
  rw [ht]
  have h1 : (q_yB (t.get id).1 (t.get id).2 && q_all (q_iB tab (q_mY (t.get id).1).cls (Nat.beq (q_mK (t.get id).1) 1) (q_mB (t.get id).1)) (q_mI (t.get id).1)) = true := h1
  rw [Bool.and_eq_true] at h1
  exact ⟨fun pc => q_iB_ok (q_all_get h1.2 pc), q_yB_ok h1.1⟩
def q_hasC (n : Nat) (m : MethodName) (b : ByteArray) (l : Nat) (t : Option FieldType) : Bool := goodWord (.code m b l t) && (match q_wd n with
  | some (.code m' b' l' t') => decide (m' = m) && (decide (b'.data.toList = b.data.toList) && (decide (l' = l) && decide (t' = t)))
  | _ => false)
theorem q_hasC_ok {n : Nat} {m : MethodName} {b : ByteArray} {l : Nat} {t : Option FieldType} (h : q_hasC n m b l t = true) : q_has n (.code m b l t) = true := by
  unfold q_hasC at h
  rw [Bool.and_eq_true] at h
  obtain ⟨h1, h⟩ := h
  unfold q_has
  rw [h1]
  split at h
  · rename_i m' b' l' t' hw
    simp only [Bool.and_eq_true, decide_eq_true_eq] at h
    obtain ⟨rfl, hb, rfl, rfl⟩ := h
    have hb2 : b' = b := ByteArray.ext (Array.ext' hb)
    subst hb2
    rw [hw]
    exact decide_eq_true rfl
  · cases h
def q_yB1 (M : qM) (is : List Nat) : Bool :=
  q_hasC (is.getD 0 0) (q_mY M) (q_mB M) (q_mL M) (q_mT M) && (q_has (is.getD 1 0) (.initialized (q_mY M).cls) && (decide ((q_mY M).cls ≠ "java/lang/invoke/MethodHandle") && (decide ((q_mY M).cls ≠ "java/lang/invoke/VarHandle") && (decide ((parseMethodDescriptor (q_mY M).desc).map (fun d => d.parameters.length) = some (q_mA M)) && (Nat.ble (q_mL M) 81 && ((plainName (q_mY M).cls || q_mxB M) &&
    (match q_mK M with
    | 0 => q_has (is.getD 2 0) (.static (q_mY M))
    | 1 => decide ((q_mY M).name = "<init>") && (q_has (is.getD 2 0) (.instanceMethod (q_mY M)) && decide (q_mT M = none))
    | 2 => q_has (is.getD 2 0) (.instanceMethod (q_mY M)) && (q_has (is.getD 3 0) (.selects (q_mY M).cls (q_mY M) (q_mY M)) && q_clB (q_mC M) fun r => decide (r.1 = (q_mY M).cls))
    | _ => false)))))))
theorem q_yB1_ok {M : qM} {is : List Nat} (h : q_yB1 M is = true) : q_yB M is = true := by
  unfold q_yB1 at h
  unfold q_yB
  rw [Bool.and_eq_true] at h ⊢
  exact ⟨q_hasC_ok h.1, h.2⟩
theorem q_mB1_of {tab : Nat → qM} {M : qM × List Nat} (h : (q_yB1 M.1 M.2 && q_all (q_iB tab (q_mY M.1).cls (Nat.beq (q_mK M.1) 1) (q_mB M.1)) (q_mI M.1)) = true) : q_mB1 tab M = true := by
  rw [Bool.and_eq_true] at h
  unfold q_mB1
  rw [q_yB1_ok h.1, h.2]
  rfl
