-- 24.law: the law up to its switch; its cases, but 35 and 40, by the program
def q_e6 : qE := [(0, 4294967295), (0, 4294967295), (0, 4294967295), (0, 4294967295), (0, 4294967295), (0, 4294967295)]
noncomputable def q_hZ : qH := (.branch 1 (.leaf (0, 0, .leaf (7, 0))) (.leaf (0, 0, .leaf (7, 0))), 0)
noncomputable def q_cc9 : q_ccall := q_cM q_T 1000000 9
noncomputable def q_pre : Option qF := q_adv q_T q_cc9 q_ML true 6 33 1000000 q_e6 q_hZ 0 0 0 [(0, (9, 0))] []
noncomputable def q_hL : qH := match q_pre with
  | some (_, h, _, _, _, _, _) => h
  | none => q_hZ
noncomputable def q_kL : Nat := match q_pre with
  | some (_, _, k, _, _, _, _) => k
  | none => 0
noncomputable def q_sL : Nat := match q_pre with
  | some (_, _, _, sl, _, _, _) => sl
  | none => 0
noncomputable def q_hhB (h : qH) : Bool := Nat.blt 0 h.2 && Nat.beq (h.1.get 0).1 10 && Nat.beq (h.1.get 0).2.1 19 && Nat.blt 534 h.2 && Nat.ble h.2 1024 && Nat.beq (h.1.get 534).1 11 && Nat.beq (h.1.get 534).2.1 53
theorem q_hhB_ok {h : qH} (hb : q_hhB h = true) : q_hh h := by
  unfold q_hhB at hb
  simp only [Bool.and_eq_true] at hb
  obtain ⟨⟨⟨⟨⟨⟨h1, h2⟩, h3⟩, h4⟩, h5⟩, h6⟩, h7⟩ := hb
  exact ⟨h1, Nat.eq_of_beq_eq_true h2, Nat.eq_of_beq_eq_true h3, h4, Nat.le_of_ble_eq_true h5, Nat.eq_of_beq_eq_true h6, Nat.eq_of_beq_eq_true h7⟩
noncomputable def q_preB : Bool := match q_pre with
  | some (env, h, k, sl, pc, lv, stk) => decide (env = q_e6) && (q_hhB h && (Nat.ble k 600000 && (Nat.ble sl 7302250 && (Nat.beq pc 33 && (decide (lv = q_lvL) && decide (stk = [(2, 0)]))))))
  | none => false
theorem q_preB_ok : q_preB = true := by decide +kernel
theorem q_pre_ok : q_pre = some (q_e6, q_hL, q_kL, q_sL, 33, q_lvL, [(2, 0)]) ∧ q_hh q_hL ∧ q_kL ≤ 600000 ∧ q_sL ≤ 7302250 := by
  have hb := q_preB_ok
  unfold q_preB at hb
  unfold q_hL q_kL q_sL
  cases hp : q_pre with
  | none => rw [hp] at hb; cases hb
  | some f =>
    obtain ⟨env, h, k, sl, pc, lv, stk⟩ := f
    rw [hp] at hb
    simp only [Bool.and_eq_true, decide_eq_true_eq] at hb
    obtain ⟨rfl, h1, h2, h3, h4, rfl, rfl⟩ := hb
    have h4 := Nat.eq_of_beq_eq_true h4
    subst h4
    exact ⟨rfl, q_hhB_ok h1, Nat.le_of_ble_eq_true h2, Nat.le_of_ble_eq_true h3⟩
/-- all ends are true -/
def q_gd (r : Option (List qO)) : Bool := match r with
  | none => false
  | some os => os.all fun o => match o.2.2 with
    | some x => Nat.beq x.1 0 && Nat.beq x.2 1
    | none => false
noncomputable def q_rn (env : qE) (t : Nat) : Bool := q_gd (q_rf q_T q_cc9 q_ML true 6 1000000 env q_hL q_kL q_sL t q_lvL [])
abbrev q_PL : qO → Prop := fun o => o.2.2 = some (0, 1)
theorem q_gd_ok {r : Option (List qO)} (h : q_gd r = true) : ∃ os, r = some os ∧ ∀ o ∈ os, q_PL o := by
  cases r with
  | none => cases h
  | some os =>
    refine ⟨os, rfl, fun o ho => ?_⟩
    have h1 := List.all_eq_true.mp h o ho
    obtain ⟨env, hh, r⟩ := o
    cases r with
    | none => cases h1
    | some x =>
      have h1 : (Nat.beq x.1 0 && Nat.beq x.2 1) = true := h1
      rw [Bool.and_eq_true] at h1
      obtain ⟨x1, x2⟩ := x
      have e1 : x1 = 0 := Nat.eq_of_beq_eq_true h1.1
      have e2 : x2 = 1 := Nat.eq_of_beq_eq_true h1.2
      subst e1; subst e2
      rfl
theorem q_hcall (id : Nat) (env : qE) (h : qH) (av : List qV) (os : List qO) (hs : q_cc9 id env h av = some os) (P : qO → Prop) (hP : ∀ o ∈ os, P o) : q_GM q_T 9 id env h av P := q_cM_ok 9 id env h av os hs P hP
theorem q_rn_ok {env : qE} {t : Nat} (h : q_rn env t = true) : q_GE q_T (q_GM q_T 9) q_ML true 6 (env, q_hL, q_kL, q_sL, t, q_lvL, []) q_PL := by
  obtain ⟨os, h1, h2⟩ := q_gd_ok h
  exact ⟨1000000, q_rf_ok q_hcall 1000000 _ _ _ _ _ _ _ os h1 q_PL h2⟩
theorem q_g0 : (([252, 265, 279, 293, 336, 409, 443, 506] : List Nat).all fun t => q_rn q_e6 t) = true := by decide +kernel
theorem q_g1 : (([569, 592, 615, 638, 661, 694, 727, 760, 783, 806, 819, 842, 855, 868, 881, 904, 937, 950] : List Nat).all fun t => q_rn q_e6 t) = true := by decide +kernel
theorem q_g2 : (([963, 1002, 1041, 1080, 1113, 1126, 1175] : List Nat).all fun t => q_rn q_e6 t) = true := by decide +kernel
theorem q_g3 : (([1224] : List Nat).all fun t => q_rn q_e6 t) = true := by decide +kernel
theorem q_g4 : (([1273, 1319, 1358, 1371, 1394] : List Nat).all fun t => q_rn q_e6 t) = true := by decide +kernel
theorem q_g5 : (([1490] : List Nat).all fun t => q_rn q_e6 t) = true := by decide +kernel
theorem q_g6 : (([1533, 1546, 1559, 1592, 1615, 1648, 1714, 1727, 1740] : List Nat).all fun t => q_rn q_e6 t) = true := by decide +kernel
theorem q_g7 : (([1671] : List Nat).all fun t => q_rn q_e6 t) = true := by decide +kernel
