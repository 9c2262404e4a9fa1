-- 04.rel: what an abstract state says of the machine's
def q_RV (ρ : Nat → Int32) (sb : (Nat → Nat) × va_W) (ws : va_W) (x : qV) (v : Value) : Prop := match x.1 with
  | 0 => v = .int (qI x.2)
  | 1 => v = .int (ρ x.2)
  | 2 => ∃ c, v = .int c
  | 3 => v = .long (qJ x.2)
  | 4 => v = .long (ρ x.2).toInt64
  | 5 => ∃ c, v = .long c
  | 6 => ∃ a e, ws[x.2]? = some (a, e) ∧ v = .ref a
  | 7 => v = .null
  | 8 => ∃ a, v = .ref a
  | 9 => v = .ref (sb.1 0)
  | 10 => v = .int (ρ (x.2 % 16) + qI (x.2 / 16))
  | 11 => v = .ref (sb.1 (x.2 + 1))
  | _ => False
def q_ext (ws ws' : va_W) : Prop := ∀ (k : Nat) (a : Nat) (e : va_E), ws[k]? = some (a, e) → ∃ e', ws'[k]? = some (a, e')
theorem q_ext.rf {ws : va_W} : q_ext ws ws := fun _ _ e h => ⟨e, h⟩
theorem q_ext.tr {a b c : va_W} (h1 : q_ext a b) (h2 : q_ext b c) : q_ext a c := fun k x e h => by
  obtain ⟨e', h'⟩ := h1 k x e h
  exact h2 k x e' h'
theorem q_ext.app {ws w : va_W} : q_ext ws (ws ++ w) := fun k a e h => ⟨e, by rw [List.getElem?_append_left (List.getElem?_eq_some_iff.mp h).1]; exact h⟩
theorem q_ext.set {ws : va_W} {k a : Nat} {e e1 : va_E} (h : ws[k]? = some (a, e)) : q_ext ws (ws.set k (a, e1)) := fun j b e2 hj => by
  by_cases hkj : k = j
  · subst hkj
    rw [h] at hj
    cases hj
    exact ⟨e1, by rw [List.getElem?_set_self (List.getElem?_eq_some_iff.mp h).1]⟩
  · exact ⟨e2, by rw [List.getElem?_set_ne hkj]; exact hj⟩
theorem q_RV.mono {ρ : Nat → Int32} {sb : (Nat → Nat) × va_W} {ws ws' : va_W} {x : qV} {v : Value} (hw : q_ext ws ws') (h : q_RV ρ sb ws x v) : q_RV ρ sb ws' x v := by
  obtain ⟨t, n⟩ := x
  rcases t with _ | _ | _ | _ | _ | _ | _ | _ | _ | _ | _ | _ | t
  case succ.succ.succ.succ.succ.succ.zero =>
    obtain ⟨a, e, h1, h2⟩ := h
    obtain ⟨e', h'⟩ := hw _ _ _ h1
    exact ⟨a, e', h', h2⟩
  all_goals exact h
theorem q_RV.int {ρ : Nat → Int32} {sb : (Nat → Nat) × va_W} {ws : va_W} {x : qV} {v : Value} (h : q_RV ρ sb ws x v) (hk : q_knd x = 0) : ∃ c, v = .int c := by
  obtain ⟨t, n⟩ := x
  rcases t with _ | _ | _ | _ | _ | _ | _ | _ | _ | _ | _ | _ | t
  · exact ⟨_, h⟩
  · exact ⟨_, h⟩
  · exact h
  case succ.succ.succ.succ.succ.succ.succ.succ.succ.succ.zero => exact ⟨_, h⟩
  case succ.succ.succ.succ.succ.succ.succ.succ.succ.succ.succ.zero => exact absurd (show (2 : Nat) = 0 from hk) (by decide)
  all_goals first | exact (h : False).elim | (exfalso; simp [q_knd, q_ble] at hk)
theorem q_RV.long {ρ : Nat → Int32} {sb : (Nat → Nat) × va_W} {ws : va_W} {x : qV} {v : Value} (h : q_RV ρ sb ws x v) (hk : q_knd x = 1) : ∃ c, v = .long c := by
  obtain ⟨t, n⟩ := x
  rcases t with _ | _ | _ | _ | _ | _ | _ | _ | _ | _ | _ | _ | t
  case succ.succ.succ.zero => exact ⟨_, h⟩
  case succ.succ.succ.succ.zero => exact ⟨_, h⟩
  case succ.succ.succ.succ.succ.zero => exact h
  case succ.succ.succ.succ.succ.succ.succ.succ.succ.succ.zero => exact absurd (show (0 : Nat) = 1 from hk) (by decide)
  case succ.succ.succ.succ.succ.succ.succ.succ.succ.succ.succ.zero => exact absurd (show (2 : Nat) = 1 from hk) (by decide)
  all_goals first | exact (h : False).elim | (exfalso; simp [q_knd, q_ble] at hk)
theorem q_RV.rf {ρ : Nat → Int32} {sb : (Nat → Nat) × va_W} {ws : va_W} {x : qV} {v : Value} (h : q_RV ρ sb ws x v) (hk : q_knd x = 2) : (x.1 = 7 ∧ v = .null) ∨ (x.1 ≠ 7 ∧ ∃ a, v = .ref a) := by
  obtain ⟨t, n⟩ := x
  rcases t with _ | _ | _ | _ | _ | _ | _ | _ | _ | _ | _ | _ | t
  case succ.succ.succ.succ.succ.succ.zero => obtain ⟨a, e, h1, h2⟩ := h; exact Or.inr ⟨(fun q => by cases q), a, h2⟩
  case succ.succ.succ.succ.succ.succ.succ.zero => exact Or.inl ⟨rfl, h⟩
  case succ.succ.succ.succ.succ.succ.succ.succ.zero => obtain ⟨a, h2⟩ := h; exact Or.inr ⟨(fun q => by cases q), a, h2⟩
  case succ.succ.succ.succ.succ.succ.succ.succ.succ.zero => exact Or.inr ⟨(fun q => by cases q), sb.1 0, h⟩
  case succ.succ.succ.succ.succ.succ.succ.succ.succ.succ.zero => exact absurd (show (0 : Nat) = 2 from hk) (by decide)
  case succ.succ.succ.succ.succ.succ.succ.succ.succ.succ.succ.zero => exact Or.inr ⟨(fun q => by cases q), sb.1 (n + 1), h⟩
  all_goals first | exact (h : False).elim | (exfalso; simp [q_knd, q_ble] at hk)
theorem q_RV.cat {ρ : Nat → Int32} {sb : (Nat → Nat) × va_W} {ws : va_W} {x : qV} {v : Value} (h : q_RV ρ sb ws x v) : v.category = q_cat x := by
  obtain ⟨t, n⟩ := x
  rcases t with _ | _ | _ | _ | _ | _ | _ | _ | _ | _ | _ | _ | t
  · have h : v = _ := h; subst h; rfl
  · have h : v = _ := h; subst h; rfl
  · obtain ⟨c, h⟩ := (h : ∃ c, v = .int c); subst h; rfl
  · have h : v = _ := h; subst h; rfl
  · have h : v = _ := h; subst h; rfl
  · obtain ⟨c, h⟩ := (h : ∃ c, v = .long c); subst h; rfl
  · obtain ⟨a, e, h1, h⟩ := (h : ∃ a e, ws[n]? = some (a, e) ∧ v = .ref a); subst h; rfl
  · have h : v = _ := h; subst h; rfl
  · obtain ⟨c, h⟩ := (h : ∃ c, v = .ref c); subst h; rfl
  · have h : v = _ := h; subst h; rfl
  · have h : v = _ := h; subst h; rfl
  · have h : v = _ := h; subst h; rfl
  · exact (h : False).elim
/-- what a variable's intervals say -/
def q_En (ρ : Nat → Int32) (env : qE) : Prop := ∀ (i : Nat) (p : Nat × Nat), env[i]? = some p → p.1 ≤ qB (ρ i) ∧ qB (ρ i) ≤ p.2
theorem qB_lt (x : Int32) : qB x < 4294967296 := by
  have h1 := x.toInt_lt
  have h2 := x.le_toInt
  unfold qB
  omega
theorem qB_int (x : Int32) : (qB x : Int) = x.toInt + 2147483648 := by
  have h2 := x.le_toInt
  unfold qB
  omega
theorem qB_inj {x y : Int32} : x = y ↔ qB x = qB y := by
  have h1 := qB_int x
  have h2 := qB_int y
  rw [← Int32.toInt_inj]
  omega
theorem qB_iff {x y : Int32} : x < y ↔ qB x < qB y := by
  have h1 := qB_int x
  have h2 := qB_int y
  rw [Int32.lt_iff_toInt_lt]
  omega
theorem q_eg_ok {ρ : Nat → Int32} {env : qE} (h : q_En ρ env) (i : Nat) : (q_eg env i).1 ≤ qB (ρ i) ∧ qB (ρ i) ≤ (q_eg env i).2 := by
  unfold q_eg
  cases he : env[i]? with
  | none =>
    have := qB_lt (ρ i)
    exact ⟨Nat.zero_le _, by show qB (ρ i) ≤ 4294967295; omega⟩
  | some p => exact h i p he
theorem q_iv_ok {ρ : Nat → Int32} {env : qE} (h : q_En ρ env) {i lo hi : Nat} (h1 : lo ≤ qB (ρ i)) (h2 : qB (ρ i) ≤ hi) : q_En ρ (q_iv env i lo hi) := by
  intro j p hj
  unfold q_iv at hj
  by_cases hij : i = j
  · subst hij
    rw [List.getElem?_set] at hj
    simp only [if_true] at hj
    split at hj
    · cases hj; exact ⟨h1, h2⟩
    · cases hj
  · rw [List.getElem?_set_ne hij] at hj
    exact h j p hj
theorem q_lt_ok {ρ : Nat → Int32} {env : qE} (h : q_En ρ env) (i b : Nat) (t f : Bool) : ∃ q ∈ q_lt env i b t f, q.1 = (if qB (ρ i) < b then t else f) ∧ q_En ρ q.2 := by
  obtain ⟨h1, h2⟩ := q_eg_ok h i
  by_cases hb : qB (ρ i) < b
  · refine ⟨(t, q_iv env i (q_eg env i).1 (Nat.min (q_eg env i).2 (b - 1))), ?_, by simp [hb], q_iv_ok h h1 (Nat.le_min.mpr ⟨h2, by omega⟩)⟩
    unfold q_lt
    refine List.mem_append_left _ ?_
    have e : Nat.blt (q_eg env i).1 b = true := by unfold Nat.blt; exact Nat.ble_eq_true_of_le (by omega)
    rw [e]
    exact List.mem_singleton.mpr rfl
  · refine ⟨(f, q_iv env i (Nat.max (q_eg env i).1 b) (q_eg env i).2), ?_, by simp [hb], q_iv_ok h (Nat.max_le.mpr ⟨h1, by omega⟩) h2⟩
    unfold q_lt
    refine List.mem_append_right _ ?_
    have e : Nat.ble b (q_eg env i).2 = true := Nat.ble_eq_true_of_le (by omega)
    rw [e]
    exact List.mem_singleton.mpr rfl
theorem q_gt_ok {ρ : Nat → Int32} {env : qE} (h : q_En ρ env) (i b : Nat) (t f : Bool) : ∃ q ∈ q_gt env i b t f, q.1 = (if b < qB (ρ i) then t else f) ∧ q_En ρ q.2 := by
  obtain ⟨h1, h2⟩ := q_eg_ok h i
  by_cases hb : b < qB (ρ i)
  · refine ⟨(t, q_iv env i (Nat.max (q_eg env i).1 (b + 1)) (q_eg env i).2), ?_, by simp [hb], q_iv_ok h (Nat.max_le.mpr ⟨h1, by omega⟩) h2⟩
    unfold q_gt
    refine List.mem_append_left _ ?_
    have e : Nat.blt b (q_eg env i).2 = true := by unfold Nat.blt; exact Nat.ble_eq_true_of_le (by omega)
    rw [e]
    exact List.mem_singleton.mpr rfl
  · refine ⟨(f, q_iv env i (q_eg env i).1 (Nat.min (q_eg env i).2 b)), ?_, by simp [hb], q_iv_ok h h1 (Nat.le_min.mpr ⟨h2, by omega⟩)⟩
    unfold q_gt
    refine List.mem_append_right _ ?_
    have e : Nat.ble (q_eg env i).1 b = true := Nat.ble_eq_true_of_le (by omega)
    rw [e]
    exact List.mem_singleton.mpr rfl
theorem q_beq (a b : Nat) : Nat.beq a b = decide (a = b) := by
  by_cases h : a = b
  · rw [decide_eq_true h]; rw [h]; exact Nat.beq_refl b
  · rw [decide_eq_false h]
    cases hb : Nat.beq a b with
    | false => rfl
    | true => exact absurd (Nat.eq_of_beq_eq_true hb) h
theorem q_blt (a b : Nat) : Nat.blt a b = decide (a < b) := by unfold Nat.blt; rw [q_ble]; rfl
theorem q_eq_ok {ρ : Nat → Int32} {env : qE} (h : q_En ρ env) (i b : Nat) (t f : Bool) : ∃ q ∈ q_eq env i b t f, q.1 = (if qB (ρ i) = b then t else f) ∧ q_En ρ q.2 := by
  obtain ⟨h1, h2⟩ := q_eg_ok h i
  by_cases hb : qB (ρ i) = b
  · refine ⟨(t, q_iv env i b b), ?_, by simp [hb], q_iv_ok h (by omega) (by omega)⟩
    unfold q_eq
    refine List.mem_append_left _ ?_
    have e : (Nat.ble (q_eg env i).1 b && Nat.ble b (q_eg env i).2) = true := by rw [Nat.ble_eq_true_of_le (by omega), Nat.ble_eq_true_of_le (by omega)]; rfl
    rw [e]
    exact List.mem_singleton.mpr rfl
  · by_cases hlt : qB (ρ i) < b
    · refine ⟨(f, q_iv env i (q_eg env i).1 (Nat.min (q_eg env i).2 (b - 1))), ?_, by simp [hb], q_iv_ok h h1 (Nat.le_min.mpr ⟨h2, by omega⟩)⟩
      unfold q_eq
      refine List.mem_append_right _ (List.mem_append_left _ ?_)
      have e : Nat.blt (q_eg env i).1 b = true := by rw [q_blt]; exact decide_eq_true (by omega)
      rw [e]
      exact List.mem_singleton.mpr rfl
    · refine ⟨(f, q_iv env i (Nat.max (q_eg env i).1 (b + 1)) (q_eg env i).2), ?_, by simp [hb], q_iv_ok h (Nat.max_le.mpr ⟨h1, by omega⟩) h2⟩
      unfold q_eq
      refine List.mem_append_right _ (List.mem_append_right _ ?_)
      have e : Nat.blt b (q_eg env i).2 = true := by rw [q_blt]; exact decide_eq_true (by omega)
      rw [e]
      exact List.mem_singleton.mpr rfl
def q_opN (o u v : Nat) : Bool := match o with
  | 0 => decide (u = v)
  | 1 => !decide (u = v)
  | 2 => decide (u < v)
  | 3 => !decide (u < v)
  | 4 => decide (v < u)
  | _ => !decide (v < u)
theorem q_op_N (o : Nat) (x y : Int32) : q_op o x y = q_opN o (qB x) (qB y) := by
  rcases o with _ | _ | _ | _ | _ | o
  · show decide (x = y) = decide _; by_cases g : x = y <;> simp [g, qB_inj.symm]
  · show (!decide (x = y)) = !decide _; by_cases g : x = y <;> simp [g, qB_inj.symm]
  · show decide (x < y) = decide _; by_cases g : x < y <;> simp [g, qB_iff.symm]
  · show (!decide (x < y)) = !decide _; by_cases g : x < y <;> simp [g, qB_iff.symm]
  · show decide (y < x) = decide _; by_cases g : y < x <;> simp [g, qB_iff.symm]
  · show (!decide (y < x)) = !decide _; by_cases g : y < x <;> simp [g, qB_iff.symm]
theorem q_cmpv_okN {ρ : Nat → Int32} {env : qE} (h : q_En ρ env) (o i b : Nat) : ∃ q ∈ q_cmpv o env i b, q.1 = q_opN o (qB (ρ i)) b ∧ q_En ρ q.2 := by
  rcases o with _ | _ | _ | _ | _ | o
  · obtain ⟨q, h1, h2, h3⟩ := q_eq_ok h i b true false
    exact ⟨q, h1, by rw [h2]; show _ = decide (qB (ρ i) = b); by_cases g : qB (ρ i) = b <;> simp [g], h3⟩
  · obtain ⟨q, h1, h2, h3⟩ := q_eq_ok h i b false true
    exact ⟨q, h1, by rw [h2]; show _ = !decide (qB (ρ i) = b); by_cases g : qB (ρ i) = b <;> simp [g], h3⟩
  · obtain ⟨q, h1, h2, h3⟩ := q_lt_ok h i b true false
    exact ⟨q, h1, by rw [h2]; show _ = decide (qB (ρ i) < b); by_cases g : qB (ρ i) < b <;> simp [g], h3⟩
  · obtain ⟨q, h1, h2, h3⟩ := q_lt_ok h i b false true
    exact ⟨q, h1, by rw [h2]; show _ = !decide (qB (ρ i) < b); by_cases g : qB (ρ i) < b <;> simp [g], h3⟩
  · obtain ⟨q, h1, h2, h3⟩ := q_gt_ok h i b true false
    exact ⟨q, h1, by rw [h2]; show _ = decide (b < qB (ρ i)); by_cases g : b < qB (ρ i) <;> simp [g], h3⟩
  · obtain ⟨q, h1, h2, h3⟩ := q_gt_ok h i b false true
    exact ⟨q, h1, by rw [h2]; show _ = !decide (b < qB (ρ i)); by_cases g : b < qB (ρ i) <;> simp [g], h3⟩
theorem q_cmpv_ok {ρ : Nat → Int32} {env : qE} (h : q_En ρ env) (o i : Nat) (c : Int32) : ∃ q ∈ q_cmpv o env i (qB c), q.1 = q_op o (ρ i) c ∧ q_En ρ q.2 := by
  obtain ⟨q, h1, h2, h3⟩ := q_cmpv_okN h o i (qB c)
  exact ⟨q, h1, by rw [h2, q_op_N], h3⟩
theorem q_op_flip (o : Nat) (x y : Int32) : q_op (q_flip o) x y = q_op o y x := by
  rcases o with _ | _ | _ | _ | _ | o
  · show decide (x = y) = decide (y = x); by_cases g : x = y <;> simp [g, eq_comm]
  · show (!decide (x = y)) = !decide (y = x); by_cases g : x = y <;> simp [g, eq_comm]
  all_goals rfl
theorem q_aff_ok {ρ : Nat → Int32} {env : qE} (h : q_En ρ env) (o n : Nat) {a c : Int32} (ha : a = ρ (n % 16) + qI (n / 16)) : ∃ q ∈ q_aff o env n (qB c), q.1 = q_op o a c ∧ q_En ρ q.2 := by
  have both : ∃ q ∈ ([(true, env), (false, env)] : List (Bool × qE)), q.1 = q_op o a c ∧ q_En ρ q.2 := by
    cases hq : q_op o a c
    · exact ⟨(false, env), by simp, rfl, h⟩
    · exact ⟨(true, env), by simp, rfl, h⟩
  unfold q_aff
  cases hc : (decide (0 ≤ ((q_eg env (n % 16)).1 : Int) + (qI (n / 16)).toInt) && decide (((q_eg env (n % 16)).2 : Int) + (qI (n / 16)).toInt < 4294967296) && decide (0 ≤ (qB c : Int) - (qI (n / 16)).toInt)) with
  | false => exact both
  | true =>
    simp only [Bool.and_eq_true, decide_eq_true_eq] at hc
    obtain ⟨⟨c1, c2⟩, c3⟩ := hc
    obtain ⟨g1, g2⟩ := q_eg_ok h (n % 16)
    have b1 := qB_int (ρ (n % 16))
    have b2 := qB_int a
    have ht : a.toInt = (ρ (n % 16)).toInt + (qI (n / 16)).toInt := by
      rw [ha, Int32.toInt_add, Int.bmod_def]
      omega
    obtain ⟨q, h1, h2, h3⟩ := q_cmpv_okN h o (n % 16) ((qB c : Int) - (qI (n / 16)).toInt).toNat
    refine ⟨q, h1, ?_, h3⟩
    rw [h2, q_op_N]
    generalize hw : ((qB c : Int) - (qI (n / 16)).toInt).toNat = w
    have hw2 : (w : Int) = (qB c : Int) - (qI (n / 16)).toInt := by omega
    generalize qB (ρ (n % 16)) = u at *
    generalize qB a = u2 at *
    generalize qB c = v at *
    generalize (qI (n / 16)).toInt = d at *
    have e1 : (u = w) ↔ (u2 = v) := by omega
    have e2 : (u < w) ↔ (u2 < v) := by omega
    have e3 : (w < u) ↔ (v < u2) := by omega
    rcases o with _ | _ | _ | _ | _ | o
    · exact decide_eq_decide.mpr e1
    · exact congrArg not (decide_eq_decide.mpr e1)
    · exact decide_eq_decide.mpr e2
    · exact congrArg not (decide_eq_decide.mpr e2)
    · exact decide_eq_decide.mpr e3
    · exact congrArg not (decide_eq_decide.mpr e3)
theorem q_cmp_ok {ρ : Nat → Int32} {sb : (Nat → Nat) × va_W} {ws : va_W} {env : qE} (h : q_En ρ env) (o : Nat) {x y : qV} {a c : Int32} (hx : q_RV ρ sb ws x (.int a)) (hy : q_RV ρ sb ws y (.int c)) : ∃ q ∈ q_cmp o env x y, q.1 = q_op o a c ∧ q_En ρ q.2 := by
  obtain ⟨t, n⟩ := x
  obtain ⟨t2, n2⟩ := y
  unfold q_cmp
  cases b1 : (Nat.beq t 0 && Nat.beq t2 0) with
  | true =>
    rw [Bool.and_eq_true] at b1
    have r1 := Nat.eq_of_beq_eq_true b1.1
    have r2 := Nat.eq_of_beq_eq_true b1.2
    subst r1; subst r2
    have e1 : a = qI n := Value.int.inj hx
    have e2 : c = qI n2 := Value.int.inj hy
    subst e1; subst e2
    exact ⟨_, List.mem_singleton.mpr rfl, rfl, h⟩
  | false =>
    simp only [cond_false]
    cases b2 : (Nat.beq t 1 && Nat.beq t2 0) with
    | true =>
      rw [Bool.and_eq_true] at b2
      have r1 := Nat.eq_of_beq_eq_true b2.1
      have r2 := Nat.eq_of_beq_eq_true b2.2
      subst r1; subst r2
      have e1 : a = ρ n := Value.int.inj hx
      have e2 : c = qI n2 := Value.int.inj hy
      subst e1; subst e2
      exact q_cmpv_ok h o n (qI n2)
    | false =>
      simp only [cond_false]
      cases b3 : (Nat.beq t 0 && Nat.beq t2 1) with
      | true =>
        rw [Bool.and_eq_true] at b3
        have r1 := Nat.eq_of_beq_eq_true b3.1
        have r2 := Nat.eq_of_beq_eq_true b3.2
        subst r1; subst r2
        have e1 : a = qI n := Value.int.inj hx
        have e2 : c = ρ n2 := Value.int.inj hy
        subst e1; subst e2
        obtain ⟨q, h1, h2, h3⟩ := q_cmpv_ok h (q_flip o) n2 (qI n)
        exact ⟨q, h1, by rw [h2, q_op_flip], h3⟩
      | false =>
        simp only [cond_false]
        cases b4 : (Nat.beq t 10 && Nat.beq t2 0) with
        | true =>
          rw [Bool.and_eq_true] at b4
          have r1 := Nat.eq_of_beq_eq_true b4.1
          have r2 := Nat.eq_of_beq_eq_true b4.2
          subst r1; subst r2
          have e2 : c = qI n2 := Value.int.inj hy
          subst e2
          exact q_aff_ok h o n (Value.int.inj hx)
        | false =>
          simp only [cond_false]
          cases b5 : (Nat.beq t 0 && Nat.beq t2 10) with
          | true =>
            rw [Bool.and_eq_true] at b5
            have r1 := Nat.eq_of_beq_eq_true b5.1
            have r2 := Nat.eq_of_beq_eq_true b5.2
            subst r1; subst r2
            have e1 : a = qI n := Value.int.inj hx
            subst e1
            obtain ⟨q, h1, h2, h3⟩ := q_aff_ok (c := qI n) h (q_flip o) n2 (Value.int.inj hy)
            exact ⟨q, h1, by rw [h2, q_op_flip], h3⟩
          | false =>
            simp only [cond_false]
            cases hq : q_op o a c
            · exact ⟨(false, env), by simp, rfl, h⟩
            · exact ⟨(true, env), by simp, rfl, h⟩
theorem q_cd_ok (x : Int32) : x = qI (q_cd (qB x)) := by
  have h1 := qB_int x
  have h2 := qB_lt x
  apply Int32.toInt_inj.mp
  unfold qI
  have hi := x.toInt_lt
  have lo := x.le_toInt
  by_cases hx : 0 ≤ x.toInt
  · have e : q_cd (qB x) = x.toInt.toNat := by unfold q_cd; omega
    rw [e, Int32.toInt_ofNat_of_lt (by omega)]
    omega
  · have e : ((q_cd (qB x) : Nat) : Int) = x.toInt + 4294967296 := by unfold q_cd; omega
    rw [Int32.toInt_ofNat']
    rw [e]
    rw [Int.bmod_def]
    have hs : ((Int32.size : Nat) : Int) = 4294967296 := rfl
    rw [hs]
    omega
theorem q_pts_mem (lo : Nat) : ∀ (n b : Nat), lo ≤ b → b < lo + n → b ∈ q_pts lo n
  | 0, b, h1, h2 => by omega
  | n + 1, b, h1, h2 => by
    show b ∈ q_pts lo n ++ [lo + n]
    by_cases hb : b < lo + n
    · exact List.mem_append_left _ (q_pts_mem lo n b h1 hb)
    · exact List.mem_append_right _ (List.mem_singleton.mpr (by omega))
theorem q_spl_ok {ρ : Nat → Int32} {sb : (Nat → Nat) × va_W} {ws : va_W} {env : qE} (h : q_En ρ env) {x : qV} {v : Value} (hx : q_RV ρ sb ws x v) (h1 : q_isPt env x = true) : ∃ q ∈ q_spl env x, q_En ρ q.1 ∧ q_RV ρ sb ws q.2 v := by
  obtain ⟨t, n⟩ := x
  unfold q_isPt at h1
  rw [Bool.and_eq_true] at h1
  have ht : t = 1 := Nat.eq_of_beq_eq_true h1.1
  subst ht
  have hv : v = .int (ρ n) := hx
  obtain ⟨g1, g2⟩ := q_eg_ok h n
  refine ⟨(q_iv env n (qB (ρ n)) (qB (ρ n)), (0, q_cd (qB (ρ n)))), List.mem_map.mpr ⟨qB (ρ n), q_pts_mem _ _ _ g1 (by show _ < (q_eg env n).1 + ((q_eg env n).2 + 1 - (q_eg env n).1); omega), rfl⟩, q_iv_ok h (Nat.le_refl _) (Nat.le_refl _), ?_⟩
  show v = .int (qI (q_cd (qB (ρ n))))
  rw [hv, ← q_cd_ok]
