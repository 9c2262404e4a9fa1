-- 05.state: an abstract state, and the machine's states that it stands for
def q_Sk (ρ : Nat → Int32) (sb : (Nat → Nat) × va_W) (ws : va_W) : List qV → List Value → Prop
  | [], [] => True
  | x :: xs, v :: vs => q_RV ρ sb ws x v ∧ q_Sk ρ sb ws xs vs
  | _, _ => False
def q_Ls (ρ : Nat → Int32) (sb : (Nat → Nat) × va_W) (ws : va_W) : qL → List (Nat × Value) → Prop
  | [], [] => True
  | x :: xs, v :: vs => x.1 = v.1 ∧ q_RV ρ sb ws x.2 v.2 ∧ q_Ls ρ sb ws xs vs
  | _, _ => False
theorem q_Sk.cons {ρ : Nat → Int32} {sb : (Nat → Nat) × va_W} {ws : va_W} {x : qV} {xs : List qV} {st : List Value} (h : q_Sk ρ sb ws (x :: xs) st) : ∃ v vs, st = v :: vs ∧ q_RV ρ sb ws x v ∧ q_Sk ρ sb ws xs vs := by
  cases st with
  | nil => exact (h : False).elim
  | cons v vs => exact ⟨v, vs, rfl, h.1, h.2⟩
theorem q_Sk.nil {ρ : Nat → Int32} {sb : (Nat → Nat) × va_W} {ws : va_W} {st : List Value} (h : q_Sk ρ sb ws [] st) : st = [] := by
  cases st with
  | nil => rfl
  | cons v vs => exact (h : False).elim
theorem q_Sk.mono {ρ : Nat → Int32} {sb : (Nat → Nat) × va_W} {ws ws' : va_W} (hw : q_ext ws ws') : ∀ {xs : List qV} {vs : List Value}, q_Sk ρ sb ws xs vs → q_Sk ρ sb ws' xs vs
  | [], [], _ => trivial
  | _ :: _, _ :: _, h => ⟨h.1.mono hw, q_Sk.mono hw h.2⟩
  | [], _ :: _, h => (h : False).elim
  | _ :: _, [], h => (h : False).elim
theorem q_Ls.mono {ρ : Nat → Int32} {sb : (Nat → Nat) × va_W} {ws ws' : va_W} (hw : q_ext ws ws') : ∀ {xs : qL} {vs : List (Nat × Value)}, q_Ls ρ sb ws xs vs → q_Ls ρ sb ws' xs vs
  | [], [], _ => trivial
  | _ :: _, _ :: _, h => ⟨h.1, h.2.1.mono hw, q_Ls.mono hw h.2.2⟩
  | [], _ :: _, h => (h : False).elim
  | _ :: _, [], h => (h : False).elim
theorem q_Sk.cats {ρ : Nat → Int32} {sb : (Nat → Nat) × va_W} {ws : va_W} : ∀ {xs : List qV} {vs : List Value}, q_Sk ρ sb ws xs vs → (vs.map fun v => v.category).sum = (xs.map q_cat).sum
  | [], [], _ => rfl
  | x :: xs, v :: vs, h => by
    have h1 := h.1.cat
    have h2 := q_Sk.cats h.2
    simp only [List.map_cons, List.sum_cons, h1, h2]
  | [], _ :: _, h => (h : False).elim
  | _ :: _, [], h => (h : False).elim
theorem q_Ls.lg {ρ : Nat → Int32} {sb : (Nat → Nat) × va_W} {ws : va_W} {i : Nat} {x : qV} : ∀ {lv : qL} {cl : List (Nat × Value)}, q_Ls ρ sb ws lv cl → q_lg lv i = some x → ∃ v, (i, v) ∈ cl ∧ q_RV ρ sb ws x v
  | [], [], _, hx => by cases hx
  | a :: lv, c :: cl, h, hx => by
    unfold q_lg at hx
    rw [List.find?_cons] at hx
    cases hb : Nat.beq a.1 i with
    | true =>
      rw [hb] at hx
      have e : a.2 = x := Option.some.inj hx
      have ei : a.1 = i := Nat.eq_of_beq_eq_true hb
      refine ⟨c.2, ?_, by rw [← e]; exact h.2.1⟩
      rw [← ei, h.1]
      exact List.mem_cons_self
    | false =>
      rw [hb] at hx
      obtain ⟨v, h1, h2⟩ := q_Ls.lg (lv := lv) (cl := cl) h.2.2 hx
      exact ⟨v, List.mem_cons_of_mem _ h1, h2⟩
  | [], _ :: _, h, _ => (h : False).elim
  | _ :: _, [], h, _ => (h : False).elim
theorem q_Ls.filter {ρ : Nat → Int32} {sb : (Nat → Nat) × va_W} {ws : va_W} {f : Nat × qV → Bool} {g : Nat × Value → Bool} (hfg : ∀ a c, a.1 = c.1 → q_RV ρ sb ws a.2 c.2 → f a = g c) : ∀ {lv : qL} {cl : List (Nat × Value)}, q_Ls ρ sb ws lv cl → q_Ls ρ sb ws (lv.filter f) (cl.filter g)
  | [], [], _ => trivial
  | a :: lv, c :: cl, h => by
    rw [List.filter_cons, List.filter_cons, hfg a c h.1 h.2.1]
    have h2 := q_Ls.filter hfg h.2.2
    cases g c
    · exact h2
    · exact ⟨h.1, h.2.1, h2⟩
  | [], _ :: _, h => (h : False).elim
  | _ :: _, [], h => (h : False).elim
def q_aT (k : Nat) : Option FieldType := if k = 100 then some .int else if k = 101 then some .byte else if k = 102 then some .boolean else none
def q_rT (k : Nat) (ty : FieldType) : Prop := (∃ ci r, k = 200 + ci ∧ k < 300 ∧ vwCl[ci]? = some r ∧ ty = .object r.1) ∨ (k = 300 ∧ ty = .array .int)
/-- a cell -/
def q_Rc (ρ : Nat → Int32) (sb : (Nat → Nat) × va_W) (ws : va_W) (tys : List (ClassId × FieldType)) (c : qC) (e : va_E) : Prop :=
  (c.1 < 100 ∧ ∃ fs : List Value, e = .inr (c.1, fs) ∧ fs.length = c.2.1 ∧ ∀ (j : Nat) (v : Value), fs[j]? = some v → q_RV ρ sb ws (c.2.2.get j) v) ∨
  (∃ ty, q_aT c.1 = some ty ∧ ∃ (cA : ClassId) (f : Nat → Int32) (t0 : Nat), e = .inl (cA, c.2.1, .inl f) ∧ tys[t0]? = some (cA, ty) ∧ ∀ j, j < c.2.1 → q_RV ρ sb ws (c.2.2.get j) (.int (f j))) ∨
  (c.1 = 103 ∧ ∃ (cA : ClassId) (f : Nat → Int64) (t0 : Nat), e = .inl (cA, c.2.1, .inr (.inl f)) ∧ tys[t0]? = some (cA, .long) ∧ ∀ j, j < c.2.1 → q_RV ρ sb ws (c.2.2.get j) (.long (f j))) ∨
  (∃ ty, q_rT c.1 ty ∧ ∃ (cA : ClassId) (f : Nat → Option Nat) (t0 : Nat), e = .inl (cA, c.2.1, .inr (.inr (.inr (.inr f)))) ∧ tys[t0]? = some (cA, ty) ∧ ∀ j, j < c.2.1 → q_RV ρ sb ws (c.2.2.get j) (va_rf (f j)))
theorem q_aT_k {k : Nat} {ty : FieldType} (h : q_aT k = some ty) : (k = 100 ∧ ty = .int) ∨ (k = 101 ∧ ty = .byte) ∨ (k = 102 ∧ ty = .boolean) := by
  unfold q_aT at h
  by_cases h1 : k = 100
  · rw [if_pos h1] at h; cases h; exact Or.inl ⟨h1, rfl⟩
  · rw [if_neg h1] at h
    by_cases h2 : k = 101
    · rw [if_pos h2] at h; cases h; exact Or.inr (Or.inl ⟨h2, rfl⟩)
    · rw [if_neg h2] at h
      by_cases h3 : k = 102
      · rw [if_pos h3] at h; cases h; exact Or.inr (Or.inr ⟨h3, rfl⟩)
      · rw [if_neg h3] at h; cases h
theorem q_rT_k {k : Nat} {ty : FieldType} (h : q_rT k ty) : 200 ≤ k := by
  rcases h with ⟨ci, r, h1, -⟩ | ⟨h1, -⟩ <;> omega
section
variable {ρ : Nat → Int32} {sb : (Nat → Nat) × va_W} {ws ws' : va_W} {tys tys' : List (ClassId × FieldType)} {c : qC} {e : va_E}
theorem q_Rc.obj (h : q_Rc ρ sb ws tys c e) (hk : c.1 < 100) : ∃ fs : List Value, e = .inr (c.1, fs) ∧ fs.length = c.2.1 ∧ ∀ (j : Nat) (v : Value), fs[j]? = some v → q_RV ρ sb ws (c.2.2.get j) v := by
  rcases h with h | ⟨ty, h, -⟩ | ⟨h, -⟩ | ⟨ty, h, -⟩
  · exact h.2
  · have := q_aT_k h; omega
  · omega
  · have := q_rT_k h; omega
theorem q_Rc.ia (h : q_Rc ρ sb ws tys c e) {ty : FieldType} (hk : q_aT c.1 = some ty) : ∃ (cA : ClassId) (f : Nat → Int32) (t0 : Nat), e = .inl (cA, c.2.1, .inl f) ∧ tys[t0]? = some (cA, ty) ∧ ∀ j, j < c.2.1 → q_RV ρ sb ws (c.2.2.get j) (.int (f j)) := by
  have hk2 := q_aT_k hk
  rcases h with ⟨h, -⟩ | ⟨ty', h, h2⟩ | ⟨h, -⟩ | ⟨ty', h, -⟩
  · omega
  · rw [hk] at h; cases h; exact h2
  · omega
  · have := q_rT_k h; omega
theorem q_Rc.la (h : q_Rc ρ sb ws tys c e) (hk : c.1 = 103) : ∃ (cA : ClassId) (f : Nat → Int64) (t0 : Nat), e = .inl (cA, c.2.1, .inr (.inl f)) ∧ tys[t0]? = some (cA, .long) ∧ ∀ j, j < c.2.1 → q_RV ρ sb ws (c.2.2.get j) (.long (f j)) := by
  rcases h with ⟨h, -⟩ | ⟨ty', h, -⟩ | h | ⟨ty', h, -⟩
  · omega
  · have := q_aT_k h; omega
  · exact h.2
  · have := q_rT_k h; omega
theorem q_Rc.ra (h : q_Rc ρ sb ws tys c e) (hk : 200 ≤ c.1) : ∃ ty, q_rT c.1 ty ∧ ∃ (cA : ClassId) (f : Nat → Option Nat) (t0 : Nat), e = .inl (cA, c.2.1, .inr (.inr (.inr (.inr f)))) ∧ tys[t0]? = some (cA, ty) ∧ ∀ j, j < c.2.1 → q_RV ρ sb ws (c.2.2.get j) (va_rf (f j)) := by
  rcases h with ⟨h, -⟩ | ⟨ty', h, -⟩ | ⟨h, -⟩ | h
  · omega
  · have := q_aT_k h; omega
  · omega
  · exact h
theorem q_Rc.mono (hw : q_ext ws ws') (ht : ∀ (t : Nat) x, tys[t]? = some x → tys'[t]? = some x) (h : q_Rc ρ sb ws tys c e) : q_Rc ρ sb ws' tys' c e := by
  rcases h with ⟨h, fs, h1, h2, h3⟩ | ⟨ty, h, cA, f, t0, h1, h2, h3⟩ | ⟨h, cA, f, t0, h1, h2, h3⟩ | ⟨ty, h, cA, f, t0, h1, h2, h3⟩
  · exact Or.inl ⟨h, fs, h1, h2, fun j v hj => (h3 j v hj).mono hw⟩
  · exact Or.inr (Or.inl ⟨ty, h, cA, f, t0, h1, ht _ _ h2, fun j hj => (h3 j hj).mono hw⟩)
  · exact Or.inr (Or.inr (Or.inl ⟨h, cA, f, t0, h1, ht _ _ h2, fun j hj => (h3 j hj).mono hw⟩))
  · exact Or.inr (Or.inr (Or.inr ⟨ty, h, cA, f, t0, h1, ht _ _ h2, fun j hj => (h3 j hj).mono hw⟩))
def q_Hp (ρ : Nat → Int32) (sb : (Nat → Nat) × va_W) (h : qH) (ws : va_W) (tys : List (ClassId × FieldType)) : Prop := ws.length = h.2 ∧ h.2 ≤ 1024 ∧ (∀ (k a : Nat) (e : va_E), ws[k]? = some (a, e) → q_Rc ρ sb ws tys (h.1.get k) e) ∧ q_ext sb.2 ws
theorem q_Hp.at' {h : qH} (hH : q_Hp ρ sb h ws tys) {k : Nat} (hk : k < h.2) : ∃ a e, ws[k]? = some (a, e) ∧ q_Rc ρ sb ws tys (h.1.get k) e := by
  have hl : k < ws.length := by rw [hH.1]; exact hk
  have hg : ws[k]? = some (ws[k]) := List.getElem?_eq_getElem hl
  exact ⟨ws[k].1, ws[k].2, hg, hH.2.2.1 k _ _ hg⟩
theorem q_Hp.put {h : qH} (hH : q_Hp ρ sb h ws tys) {k a : Nat} {e e1 : va_E} (hk : ws[k]? = some (a, e)) {c1 : qC} (hc : q_Rc ρ sb ws tys c1 e1) : q_Hp ρ sb (q_ts c1 k h.1 0 1024, h.2) (ws.set k (a, e1)) tys := by
  obtain ⟨h1, h2, h3, h4⟩ := hH
  have hl : k < ws.length := (List.getElem?_eq_some_iff.mp hk).1
  refine ⟨by rw [List.length_set]; exact h1, h2, fun j b e2 hj => ?_, h4.tr (q_ext.set hk)⟩
  have hjl : j < ws.length := by
    have := (List.getElem?_eq_some_iff.mp hj).1
    rwa [List.length_set] at this
  show q_Rc ρ sb _ tys ((q_ts c1 k h.1 0 1024).get j) e2
  rw [q_ts_get c1 k h.1 0 1024 j (Nat.zero_le _) (by omega) (Nat.zero_le _) (by omega)]
  by_cases hjk : j = k
  · subst hjk
    rw [List.getElem?_set_self hl] at hj
    cases hj
    rw [if_pos rfl]
    exact hc.mono (q_ext.set hk) (fun _ _ q => q)
  · rw [List.getElem?_set_ne (Ne.symm hjk)] at hj
    rw [if_neg hjk]
    exact (h3 j b e2 hj).mono (q_ext.set hk) (fun _ _ q => q)
theorem q_tyapp {t : List (ClassId × FieldType)} : ∀ (i : Nat) x, tys[i]? = some x → (tys ++ t)[i]? = some x := fun i x h => by rw [List.getElem?_append_left (List.getElem?_eq_some_iff.mp h).1]; exact h
theorem q_Hp.push {h : qH} (hH : q_Hp ρ sb h ws tys) (hn : h.2 < 1024) {q : Nat} {e1 : va_E} {t : List (ClassId × FieldType)} {c1 : qC} (hc : q_Rc ρ sb (ws ++ [(q, e1)]) (tys ++ t) c1 e1) : q_Hp ρ sb (q_ts c1 h.2 h.1 0 1024, h.2 + 1) (ws ++ [(q, e1)]) (tys ++ t) := by
  obtain ⟨h1, h2, h3, h4⟩ := hH
  refine ⟨by rw [List.length_append, h1]; rfl, hn, fun j b e2 hj => ?_, h4.tr q_ext.app⟩
  have hjl : j < ws.length + 1 := by
    have := (List.getElem?_eq_some_iff.mp hj).1
    rwa [List.length_append] at this
  show q_Rc ρ sb _ _ ((q_ts c1 h.2 h.1 0 1024).get j) e2
  rw [q_ts_get c1 h.2 h.1 0 1024 j (Nat.zero_le _) (by omega) (Nat.zero_le _) (by omega)]
  by_cases hjk : j = h.2
  · rw [if_pos hjk]
    rw [List.getElem?_append_right (by omega), hjk, h1, Nat.sub_self] at hj
    cases hj
    exact hc
  · rw [if_neg hjk]
    rw [List.getElem?_append_left (by omega)] at hj
    exact (h3 j b e2 hj).mono q_ext.app q_tyapp
end
