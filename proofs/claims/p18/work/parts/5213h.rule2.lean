-- 13h.rule2: facts that follow by rules behind a load or a store
theorem a_bf {α : Type} {b : Bool} {x y : Option α} {z : α} (h : (bif b then x else y) = some z) : (b = true ∧ x = some z) ∨ (b = false ∧ y = some z) := by
  cases b
  · exact Or.inr ⟨rfl, h⟩
  · exact Or.inl ⟨rfl, h⟩
theorem a_ldr {maxL : Nat} {e : qN} (he : e.1 = 20) {env : qE} {h h' : qH} {i c pc' : Nat} {lv lv' : qL} {stk2 stk' : List qV} (hr : q_stepS 0 0 false 0 maxL e env h 0 0 lv ((0, i) :: (6, c) :: stk2) = some [(env, h', 0, 0, pc', lv', stk')]) : h' = h ∧ stk' = a_fd h c i :: stk2 := by
  obtain ⟨op, r⟩ := e
  have he : op = 20 := he
  subst he
  have hr : q_s20S false 0 (20, r) env h 0 0 lv ((0, i) :: (6, c) :: stk2) = some [(env, h', 0, 0, pc', lv', stk')] := hr
  have key : q_s20S false 0 (20, r) env h 0 0 lv ((0, i) :: (6, c) :: stk2) = (bif Nat.beq 6 6 && Nat.blt c h.2 && q_akd (q_v (20, r)) (h.1.get c).1 && Nat.blt i (h.1.get c).2.1 && Nat.blt i 2147483648 then some [(env, h, 0, 0, q_pc (20, r) + 1, lv, a_fd h c i :: stk2)] else none) := rfl
  rw [key] at hr
  rcases a_bf hr with ⟨-, hr⟩ | ⟨-, hr⟩
  · cases hr
    exact ⟨rfl, rfl⟩
  · cases hr
theorem a_ldh {maxL : Nat} {r : Nat × Nat × Nat × Nat × Nat × List Nat} {env : qE} {h h' : qH} {pc' : Nat} {lv lv' : qL} {stk stk' : List qV} (hr : q_stepS 0 0 false 0 maxL (20, r) env h 0 0 lv stk = some [(env, h', 0, 0, pc', lv', stk')]) : h' = h := by
  have hr : q_s20S false 0 (20, r) env h 0 0 lv stk = some [(env, h', 0, 0, pc', lv', stk')] := hr
  rcases stk with _ | ⟨y, _ | ⟨x, stk⟩⟩
  · cases hr
  · cases hr
  · unfold q_s20S at hr
    dsimp only at hr
    rcases a_bf hr with ⟨-, hr⟩ | ⟨-, hr⟩
    · rcases a_bf hr with ⟨-, hr⟩ | ⟨-, hr⟩
      · have hr : some [(env, h, 0, 0, q_pc (20, r) + 1, lv, _ :: stk)] = some [(env, h', 0, 0, pc', lv', stk')] := hr
        cases hr
        rfl
      · rcases a_bf hr with ⟨hb, -⟩ | ⟨-, hr⟩
        · cases hb
        · cases hr
    · rcases a_bf hr with ⟨-, hr⟩ | ⟨-, hr⟩
      · have hr := Option.some.inj hr
        cases hq : q_spl env y with
        | nil => rw [hq] at hr; cases hr
        | cons q l =>
          rw [hq, List.map_cons] at hr
          have := (List.cons.inj hr).1
          cases this
          rfl
      · cases hr
/-- irem of two ints -/
theorem a_rmr {maxL : Nat} {e : qN} (he : e.1 = 4) (hv : q_v e = 9) {env : qE} {h h' : qH} {x y pc' : Nat} {lv lv' : qL} {stk2 stk' : List qV} (hr : q_stepS 0 0 false 0 maxL e env h 0 0 lv ((0, y) :: (0, x) :: stk2) = some [(env, h', 0, 0, pc', lv', stk')]) : stk' = (0, qNn (qI x - qI x / qI y * qI y)) :: stk2 := by
  obtain ⟨op, p0, v, r⟩ := e
  have he : op = 4 := he
  have hv : v = 9 := hv
  subst he; subst hv
  have hr : q_s4S (4, p0, 9, r) env h 0 0 lv ((0, y) :: (0, x) :: stk2) = some [(env, h', 0, 0, pc', lv', stk')] := hr
  have key : q_s4S (4, p0, 9, r) env h 0 0 lv ((0, y) :: (0, x) :: stk2) = (bif Nat.ble 8 9 && decide (qI y = 0) then none else some [(env, h, 0, 0, p0 + 1, lv, (0, qNn (qI x - qI x / qI y * qI y)) :: stk2)]) := rfl
  rw [key] at hr
  rcases a_bf hr with ⟨-, hr⟩ | ⟨-, hr⟩
  · cases hr
  · cases hr
    rfl
theorem a_rmx {maxL : Nat} {e : qN} (he : e.1 = 4) {env : qE} {h h' : qH} {x y pc' : Nat} {lv lv' : qL} {stk2 stk' : List qV} (hr : q_stepS 0 0 false 0 maxL e env h 0 0 lv ((0, y) :: (0, x) :: stk2) = some [(env, h', 0, 0, pc', lv', stk')]) : stk' = (0, qNn (q_f4 (q_v e) (qI x) (qI y))) :: stk2 := by
  obtain ⟨op, p0, v, r⟩ := e
  have he : op = 4 := he
  subst he
  have hr : q_s4S (4, p0, v, r) env h 0 0 lv ((0, y) :: (0, x) :: stk2) = some [(env, h', 0, 0, pc', lv', stk')] := hr
  have key : q_s4S (4, p0, v, r) env h 0 0 lv ((0, y) :: (0, x) :: stk2) = (bif Nat.ble 8 v && decide (qI y = 0) then none else some [(env, h, 0, 0, p0 + 1, lv, (0, qNn (q_f4 v (qI x) (qI y))) :: stk2)]) := rfl
  rw [key] at hr
  rcases a_bf hr with ⟨-, hr⟩ | ⟨-, hr⟩
  · cases hr
  · cases hr
    rfl
theorem a_cvx {maxL : Nat} {e : qN} (he : e.1 = 6) {env : qE} {h h' : qH} {x : qV} {pc' : Nat} {lv lv' : qL} {stk2 stk' : List qV} (hr : q_stepS 0 0 false 0 maxL e env h 0 0 lv (x :: stk2) = some [(env, h', 0, 0, pc', lv', stk')]) : h' = h ∧ stk' = q_s6v (q_v e) x :: stk2 := by
  obtain ⟨op, p0, v, r⟩ := e
  have he : op = 6 := he
  subst he
  have hr : q_s6S (6, p0, v, r) env h 0 0 lv (x :: stk2) = some [(env, h', 0, 0, pc', lv', stk')] := hr
  have key : q_s6S (6, p0, v, r) env h 0 0 lv (x :: stk2) = (bif Nat.beq (q_knd x) (bif Nat.beq v 1 then 1 else 0) then some [(env, h, 0, 0, p0 + 1, lv, ((q_s6v v x).1, (q_s6v v x).2) :: stk2)] else none) := rfl
  rw [key] at hr
  rcases a_bf hr with ⟨-, hr⟩ | ⟨-, hr⟩
  · cases hr
    exact ⟨rfl, rfl⟩
  · cases hr
theorem a_acx {sp : aSp} {nc maxL : Nat} {e : qN} (he : e.1 = 26) {env : qE} {h h' : qH} {n t d s c pc' : Nat} {lv lv' : qL} {stk2 stk' : List qV} (hh : a_HI sp nc h) (hr : q_stepS 0 0 false 0 maxL e env h 0 0 lv ((0, n) :: (0, t) :: (6, d) :: (0, s) :: (6, c) :: stk2) = some [(env, h', 0, 0, pc', lv', stk')]) :
    c < nc ∧ d < nc ∧ s + n ≤ a_cl sp c ∧ t + n ≤ a_cl sp d ∧ ∀ i q, i < nc → q < a_cl sp i → a_fd h' i q = if i = d ∧ t ≤ q ∧ q < t + n then a_fd h c (s + (q - t)) else a_fd h i q := by
  obtain ⟨op, p0, v, r⟩ := e
  have he : op = 26 := he
  subst he
  have hr : q_s26S (26, p0, v, r) env h 0 0 lv ((0, n) :: (0, t) :: (6, d) :: (0, s) :: (6, c) :: stk2) = some [(env, h', 0, 0, pc', lv', stk')] := hr
  have key : q_s26S (26, p0, v, r) env h 0 0 lv ((0, n) :: (0, t) :: (6, d) :: (0, s) :: (6, c) :: stk2) = (bif true && true && true && true && true && Nat.blt c h.2 && Nat.blt d h.2 && Nat.beq (h.1.get c).1 (h.1.get d).1 && (Nat.beq (h.1.get c).1 100 || Nat.beq (h.1.get c).1 103) && Nat.ble (s + n) (h.1.get c).2.1 && Nat.ble (t + n) (h.1.get d).2.1 && Nat.blt s 2147483648 && Nat.blt t 2147483648 && Nat.blt n 2147483648 && Nat.ble (stk2.map q_cat).sum 8 then
      some [(env, (q_ts ((h.1.get d).1, (h.1.get d).2.1, bif Nat.beq s 0 && Nat.beq t 0 && Nat.beq n (h.1.get d).2.1 then (h.1.get c).2.2 else q_cpy (h.1.get c).2.2 (h.1.get d).2.2 s t n (h.1.get d).2.1) d h.1 0 1024, h.2), 0, 0, p0 + 3, lv, stk2)] else none) := rfl
  rw [key] at hr
  rcases a_bf hr with ⟨hb, hr⟩ | ⟨-, hr⟩
  · cases hr
    simp only [Bool.and_eq_true] at hb
    obtain ⟨⟨⟨⟨⟨⟨⟨⟨⟨⟨-, c6⟩, c7⟩, -⟩, -⟩, c10⟩, c11⟩, -⟩, -⟩, -⟩, -⟩ := hb
    rw [hh.1, q_blt] at c6 c7
    have c6 : c < nc := of_decide_eq_true c6
    have c7 : d < nc := of_decide_eq_true c7
    have lc := (hh.2.2 c c6).2.1
    have ld := (hh.2.2 d c7).2.1
    rw [lc] at c10
    rw [ld] at c11
    have c10 := Nat.le_of_ble_eq_true c10
    have c11 := Nat.le_of_ble_eq_true c11
    have hn1 : nc ≤ 1024 := hh.2.1
    refine ⟨c6, c7, c10, c11, fun i q hi hq => ?_⟩
    show ((q_ts _ d h.1 0 1024).get i).2.2.get q = _
    rw [q_ts_get _ d h.1 0 1024 i (Nat.zero_le _) (by omega) (Nat.zero_le _) (by omega)]
    by_cases e : i = d
    · subst e
      rw [if_pos rfl]
      show (bif Nat.beq s 0 && Nat.beq t 0 && Nat.beq n (h.1.get i).2.1 then (h.1.get c).2.2 else q_cpy (h.1.get c).2.2 (h.1.get i).2.2 s t n (h.1.get i).2.1).get q = _
      rw [ld]
      have ei : (if i = i ∧ t ≤ q ∧ q < t + n then a_fd h c (s + (q - t)) else a_fd h i q) = if t ≤ q ∧ q < t + n then a_fd h c (s + (q - t)) else a_fd h i q := by
        by_cases hw : t ≤ q ∧ q < t + n
        · rw [if_pos hw, if_pos ⟨rfl, hw⟩]
        · rw [if_neg hw, if_neg (fun z => hw z.2)]
      rw [ei]
      cases hb : (Nat.beq s 0 && Nat.beq t 0 && Nat.beq n (a_cl sp i)) with
      | true =>
        simp only [Bool.and_eq_true] at hb
        have z1 := Nat.eq_of_beq_eq_true hb.1.1
        have z2 := Nat.eq_of_beq_eq_true hb.1.2
        have z3 := Nat.eq_of_beq_eq_true hb.2
        rw [if_pos (by omega), z1, z2, Nat.zero_add, Nat.sub_zero]
        rfl
      | false => exact a_cpy_get _ _ _ _ _ _ q c11 hq
    · rw [if_neg e, if_neg (fun z => e z.1)]
  · cases hr
theorem a_opH {maxL : Nat} {r : Nat × Nat × Nat × Nat × Nat × List Nat} {env : qE} {h h' : qH} {pc' : Nat} {lv lv' : qL} {stk stk' : List qV} (hr : q_stepS 0 0 false 0 maxL (4, r) env h 0 0 lv stk = some [(env, h', 0, 0, pc', lv', stk')]) : h' = h := by
  have hr : q_s4S (4, r) env h 0 0 lv stk = some [(env, h', 0, 0, pc', lv', stk')] := hr
  rcases stk with _ | ⟨y, _ | ⟨x, stk⟩⟩
  · cases hr
  · cases hr
  · unfold q_s4S at hr
    dsimp only at hr
    have sp : ∀ (z : qV) (f : qV → List qV), some ((q_spl env z).map fun q => (q.1, h, 0, 0, q_pc (4, r), lv, f q.2)) = some [(env, h', 0, 0, pc', lv', stk')] → h' = h := fun z f hr => by
      have hr := Option.some.inj hr
      cases hq : q_spl env z with
      | nil => rw [hq] at hr; cases hr
      | cons q l =>
        rw [hq, List.map_cons] at hr
        have := (List.cons.inj hr).1
        cases this
        rfl
    rcases a_bf hr with ⟨-, hr⟩ | ⟨-, hr⟩
    · rcases a_bf hr with ⟨-, hr⟩ | ⟨-, hr⟩
      · rcases a_bf hr with ⟨-, hr⟩ | ⟨-, hr⟩
        · cases hr
        · have hr : some [(env, h, 0, 0, q_pc (4, r) + 1, lv, _ :: stk)] = some [(env, h', 0, 0, pc', lv', stk')] := hr
          cases hr
          rfl
      · rcases a_bf hr with ⟨-, hr⟩ | ⟨-, hr⟩
        · exact sp y (fun q => q :: x :: stk) hr
        · rcases a_bf hr with ⟨-, hr⟩ | ⟨-, hr⟩
          · exact sp x (fun q => y :: q :: stk) hr
          · rcases a_bf hr with ⟨-, hr⟩ | ⟨-, hr⟩
            · have hr : some [(env, h, 0, 0, q_pc (4, r) + 1, lv, _ :: stk)] = some [(env, h', 0, 0, pc', lv', stk')] := hr
              cases hr
              rfl
            · rcases a_bf hr with ⟨-, hr⟩ | ⟨-, hr⟩
              · cases hr
              · have hr : some [(env, h, 0, 0, q_pc (4, r) + 1, lv, _ :: stk)] = some [(env, h', 0, 0, pc', lv', stk')] := hr
                cases hr
                rfl
    · cases hr
/-- a rule put to use with these witnesses -/
noncomputable def a_gw (sp : aSp) (nc : Nat) (rl : Nat → aRl) (g : aGi) (K : aK) (W : List aF) (st : aS) : aS :=
  bif a_gpr st.1 K W (rl g.2.1).2.2.1 g.2.2.2.1 && (rl g.2.1).2.2.2.1.all fun f => a_nx st.1 (a_sb W f) then
    (match a_gcl sp nc st.1 st.2.1 W (rl g.2.1).2.2.2.2.1 (rl g.2.1).2.2.2.2.2 g.2.2.2.2 with
    | some r => (r.1, r.2, st.2.2)
    | none => st) else st
theorem a_gw_ok {sp : aSp} {nc : Nat} {rl : Nat → aRl} {g : aGi} {h h' : qH} {σ : Nat → Int} {K : aK} {lv' : qL} {stk' : List qV} {W : List aF} {st : aS} (hst : a_St sp nc σ h' lv' stk' st) (hK : a_Kn sp nc σ (a_n st.1) K h) (hW : a_wfs (a_n st.1) W)
    (hc : (∀ p ∈ (rl g.2.1).2.2.1, a_Rp sp nc h (a_sg σ W) p) → (∀ f ∈ (rl g.2.1).2.2.2.1, 0 ≤ a_ev (a_sg σ W) f) → a_Rc sp nc h' (a_sg σ W) (rl g.2.1).2.2.2.2.1 (rl g.2.1).2.2.2.2.2) : a_St sp nc σ h' lv' stk' (a_gw sp nc rl g K W st) ∧ a_n (a_gw sp nc rl g K W st).1 = a_n st.1 ∧ (a_gw sp nc rl g K W st).2.2 = st.2.2 := by
  obtain ⟨E9, K9, pc9, al9, sk9⟩ := st
  unfold a_gw
  dsimp only
  cases hb : (a_gpr E9 K W (rl g.2.1).2.2.1 g.2.2.2.1 && (rl g.2.1).2.2.2.1.all fun f => a_nx E9 (a_sb W f)) with
  | false => exact ⟨hst, rfl, rfl⟩
  | true =>
    simp only [Bool.and_eq_true] at hb
    obtain ⟨b6, b7⟩ := hb
    obtain ⟨hE2, hK2, hL2, hS2⟩ := hst
    have hE2 : a_En σ E9 := hE2
    have hK2 : a_Kn sp nc σ (a_n E9) K9 h' := hK2
    have hK : a_Kn sp nc σ (a_n E9) K h := hK
    have hW : a_wfs (a_n E9) W := hW
    show a_St sp nc σ h' lv' stk' (match a_gcl sp nc E9 K9 W (rl g.2.1).2.2.2.2.1 (rl g.2.1).2.2.2.2.2 g.2.2.2.2 with
      | some r => (r.1, r.2, pc9, al9, sk9)
      | none => (E9, K9, pc9, al9, sk9)) ∧ _
    cases hr : a_gcl sp nc E9 K9 W (rl g.2.1).2.2.2.2.1 (rl g.2.1).2.2.2.2.2 g.2.2.2.2 with
    | none => exact ⟨⟨hE2, hK2, hL2, hS2⟩, rfl, rfl⟩
    | some r =>
      have hcl := hc (a_gpr_ok hE2 hK hW b6) (fun q hq => by
        have := a_nx_ok hE2 (a_sb_wf hW q) (List.all_eq_true.mp b7 q hq)
        rw [a_sb_ev] at this
        exact this)
      obtain ⟨k1, k2, k3⟩ := a_gcl_ok hE2 hK2 hW hcl hr
      refine ⟨⟨k1, k3, ?_, ?_⟩, k2, rfl⟩
      · show a_Lv σ (a_n r.1) _ _
        rw [k2]
        exact hL2
      · show a_Sk σ (a_n r.1) _ _
        rw [k2]
        exact hS2
/-- a rule of kind 2 holds: witness 0 is the place read, witness 1 the int there -/
noncomputable def a_R2 (sp : aSp) (nc : Nat) (r : aRl) : Prop := r.1 = 2 → ∀ (h : qH) (x : Nat → Int), a_HI sp nc h → 0 ≤ x 0 → x 0 < 2147483648 → a_fd h r.2.1 (x 0).toNat = (0, a_w (x 1)) → -2147483648 ≤ x 1 → x 1 < 2147483648 → (∀ p ∈ r.2.2.1, a_Rp sp nc h x p) → (∀ f ∈ r.2.2.2.1, 0 ≤ a_ev x f) → a_Rc sp nc h x r.2.2.2.2.1 r.2.2.2.2.2
/-- a rule of kind 4 holds: likewise with a long -/
noncomputable def a_R4 (sp : aSp) (nc : Nat) (r : aRl) : Prop := r.1 = 4 → ∀ (h : qH) (x : Nat → Int), a_HI sp nc h → 0 ≤ x 0 → x 0 < 2147483648 → a_fd h r.2.1 (x 0).toNat = (3, a_W (x 1)) → -9223372036854775808 ≤ x 1 → x 1 < 9223372036854775808 → (∀ p ∈ r.2.2.1, a_Rp sp nc h x p) → (∀ f ∈ r.2.2.2.1, 0 ≤ a_ev x f) → a_Rc sp nc h x r.2.2.2.2.1 r.2.2.2.2.2
/-- a rule of kind 3 holds: witness 2 is what is left of witness 0 by witness 1 -/
noncomputable def a_R3 (sp : aSp) (nc : Nat) (r : aRl) : Prop := r.1 = 3 → ∀ (h : qH) (x : Nat → Int), a_HI sp nc h → 0 ≤ x 0 → 1 ≤ x 1 → x 2 = x 0 % x 1 → (∀ p ∈ r.2.2.1, a_Rp sp nc h x p) → (∀ f ∈ r.2.2.2.1, 0 ≤ a_ev x f) → a_Rc sp nc h x r.2.2.2.2.1 r.2.2.2.2.2
/-- a rule of kind 1 holds: witness 0 is the place stored in, witness 1 the int -/
noncomputable def a_R1 (sp : aSp) (nc : Nat) (r : aRl) : Prop := r.1 = 1 → ∀ (h h' : qH) (x : Nat → Int), a_HI sp nc h → a_HI sp nc h' → r.2.1 < nc → 0 ≤ x 0 → x 0 < a_cl sp r.2.1 → -2147483648 ≤ x 1 → x 1 < 2147483648 → (∀ i q, i < nc → q < a_cl sp i → a_fd h' i q = if i = r.2.1 ∧ q = (x 0).toNat then (0, a_w (x 1)) else a_fd h i q) → (∀ p ∈ r.2.2.1, a_Rp sp nc h x p) → (∀ f ∈ r.2.2.2.1, 0 ≤ a_ev x f) → a_Rc sp nc h' x r.2.2.2.2.1 r.2.2.2.2.2
/-- a rule of kind 5 holds: likewise with a long -/
noncomputable def a_R5 (sp : aSp) (nc : Nat) (r : aRl) : Prop := r.1 = 5 → ∀ (h h' : qH) (x : Nat → Int), a_HI sp nc h → a_HI sp nc h' → r.2.1 < nc → 0 ≤ x 0 → x 0 < a_cl sp r.2.1 → -9223372036854775808 ≤ x 1 → x 1 < 9223372036854775808 → (∀ i q, i < nc → q < a_cl sp i → a_fd h' i q = if i = r.2.1 ∧ q = (x 0).toNat then (3, a_W (x 1)) else a_fd h i q) → (∀ p ∈ r.2.2.1, a_Rp sp nc h x p) → (∀ f ∈ r.2.2.2.1, 0 ≤ a_ev x f) → a_Rc sp nc h' x r.2.2.2.2.1 r.2.2.2.2.2
/-- a rule of kind 6 holds: witness 2 is what the machine makes of the ints witness 0, witness 1 -/
noncomputable def a_R6 (sp : aSp) (nc : Nat) (r : aRl) : Prop := r.1 = 6 → ∀ (h : qH) (x : Nat → Int), a_HI sp nc h → -2147483648 ≤ x 0 → x 0 < 2147483648 → -2147483648 ≤ x 1 → x 1 < 2147483648 → -2147483648 ≤ x 2 → x 2 < 2147483648 → a_w (x 2) = qNn (q_f4 r.2.1 (qI (a_w (x 0))) (qI (a_w (x 1)))) → (∀ p ∈ r.2.2.1, a_Rp sp nc h x p) → (∀ f ∈ r.2.2.2.1, 0 ≤ a_ev x f) → a_Rc sp nc h x r.2.2.2.2.1 r.2.2.2.2.2
/-- a rule of kind 7 holds: witness 1 is the int that the long witness 0 is cut to (its cell: 1), or the int of 8 or 16 bits that the int witness 0 is cut to -/
noncomputable def a_R7 (sp : aSp) (nc : Nat) (r : aRl) : Prop := r.1 = 7 → ∀ (h : qH) (x : Nat → Int), a_HI sp nc h → -2147483648 ≤ x 1 → x 1 < 2147483648 → (r.2.1 = 1 ∧ -9223372036854775808 ≤ x 0 ∧ x 0 < 9223372036854775808 ∧ a_w (x 1) = qNn (qJ (a_W (x 0))).toInt32 ∨ r.2.1 ≠ 1 ∧ -2147483648 ≤ x 0 ∧ x 0 < 2147483648 ∧ (0, a_w (x 1)) = q_s6v r.2.1 (0, a_w (x 0))) → (∀ p ∈ r.2.2.1, a_Rp sp nc h x p) → (∀ f ∈ r.2.2.2.1, 0 ≤ a_ev x f) → a_Rc sp nc h x r.2.2.2.2.1 r.2.2.2.2.2
/-- a rule of kind 8 holds: a row is copied, from witness 0 on, to witness 1 on, witness 2 many -/
noncomputable def a_R8 (sp : aSp) (nc : Nat) (r : aRl) : Prop := r.1 = 8 → ∀ (h h' : qH) (x : Nat → Int), a_HI sp nc h → a_HI sp nc h' → 0 ≤ x 0 → 0 ≤ x 1 → 0 ≤ x 2 → x 0 + x 2 ≤ a_cl sp (r.2.1 / 1024) → x 1 + x 2 ≤ a_cl sp (r.2.1 % 1024) → (∀ i q, i < nc → q < a_cl sp i → a_fd h' i q = if i = r.2.1 % 1024 ∧ (x 1).toNat ≤ q ∧ q < (x 1).toNat + (x 2).toNat then a_fd h (r.2.1 / 1024) ((x 0).toNat + (q - (x 1).toNat)) else a_fd h i q) → (∀ p ∈ r.2.2.1, a_Rp sp nc h x p) → (∀ f ∈ r.2.2.2.1, 0 ≤ a_ev x f) → a_Rc sp nc h' x r.2.2.2.2.1 r.2.2.2.2.2
/-- all kinds -/
noncomputable def a_RR (sp : aSp) (nc : Nat) (r : aRl) : Prop := a_R0 sp nc r ∧ a_R1 sp nc r ∧ a_R2 sp nc r ∧ a_R3 sp nc r ∧ a_R4 sp nc r ∧ a_R5 sp nc r ∧ a_R6 sp nc r ∧ a_R7 sp nc r ∧ a_R8 sp nc r
/-- behind a load -/
noncomputable def a_gl1 (sp : aSp) (nc : Nat) (rl : Nat → aRl) (g : aGi) (K : aK) (al : aL) (sk : List aV) (st : aS) : aS := match sk, st.2.2.2.2 with
  | y :: x :: _, z :: _ =>
    bif (Nat.beq y.1 1 && (Nat.beq x.1 6 && (Nat.beq x.2.1 (rl g.2.1).2.1 && a_ge st.1 y.2.2 0))) && ((Nat.beq (rl g.2.1).1 2 && Nat.beq z.1 1) || (Nat.beq (rl g.2.1).1 4 && Nat.beq z.1 4)) then a_gw sp nc rl g K (y.2.2 :: z.2.2 :: a_src g.2.2.1 sk al K) st else st
  | _, _ => st
theorem a_gl1_ok {sp : aSp} {nc : Nat} {rl : Nat → aRl} (hrl : ∀ i, a_RR sp nc (rl i)) {g : aGi} {h : qH} {σ σ' : Nat → Int} {E : aE} {K : aK} {al : aL} {lv lv' : qL} {sk : List aV} {stk stk' : List qV} {st : aS} (hh : a_HI sp nc h) (hK : a_Kn sp nc σ (a_n E) K h) (hL : a_Lv σ (a_n E) al lv) (hS : a_Sk σ (a_n E) sk stk) (hn : a_n E ≤ a_n st.1) (hs : ∀ i, i < a_n E → σ' i = σ i)
    (hst : a_St sp nc σ' h lv' stk' st) (hld : ∀ i c stk2, stk = (0, i) :: (6, c) :: stk2 → stk' = a_fd h c i :: stk2) : a_St sp nc σ' h lv' stk' (a_gl1 sp nc rl g K al sk st) ∧ a_n (a_gl1 sp nc rl g K al sk st).1 = a_n st.1 ∧ (a_gl1 sp nc rl g K al sk st).2.2 = st.2.2 := by
  obtain ⟨E9, K9, pc9, al9, sk9⟩ := st
  rcases sk with _ | ⟨y, _ | ⟨x, rest⟩⟩
  · exact ⟨hst, rfl, rfl⟩
  · exact ⟨hst, rfl, rfl⟩
  rcases sk9 with _ | ⟨z, rest'⟩
  · exact ⟨hst, rfl, rfl⟩
  · unfold a_gl1
    dsimp only
    have hn : a_n E ≤ a_n E9 := hn
    cases hb : ((Nat.beq y.1 1 && (Nat.beq x.1 6 && (Nat.beq x.2.1 (rl g.2.1).2.1 && a_ge E9 y.2.2 0))) && ((Nat.beq (rl g.2.1).1 2 && Nat.beq z.1 1) || (Nat.beq (rl g.2.1).1 4 && Nat.beq z.1 4))) with
    | false => exact ⟨hst, rfl, rfl⟩
    | true =>
      simp only [Bool.and_eq_true, Bool.or_eq_true] at hb
      obtain ⟨⟨b1, b2, b3, b5⟩, b4⟩ := hb
      have K' := hK.ext hn hs
      have L' := hL.ext hn hs
      have S' := hS.ext hn hs
      have hst0 := hst
      obtain ⟨hE2, hK2, hL2, hS2⟩ := hst
      have hE2 : a_En σ' E9 := hE2
      have hS2 : a_Sk σ' (a_n E9) (z :: rest') stk' := hS2
      obtain ⟨yv, stk0, rfl, hy, hS0⟩ := S'.cons
      obtain ⟨xv, stk1, rfl, hx, hS1⟩ := hS0.cons
      obtain ⟨zv, stk9, rfl, hz, hS9⟩ := hS2.cons
      obtain ⟨t, s, f⟩ := y
      obtain ⟨t2, c, f2⟩ := x
      obtain ⟨t3, s3, f3⟩ := z
      have e1 : t = 1 := Nat.eq_of_beq_eq_true b1
      have e2 : t2 = 6 := Nat.eq_of_beq_eq_true b2
      subst e1; subst e2
      have hx : xv = (6, c) := hx
      subst hx
      obtain ⟨wf, rfl, r1, r2⟩ := a_V1 hy
      have i1 : 0 ≤ a_ev σ' f := a_ge_ok hE2 wf b5
      have hw : a_w (a_ev σ' f) = (a_ev σ' f).toNat := by unfold a_w; omega
      have hfd := hld _ _ _ rfl
      rw [hw] at hfd
      have hfd2 : a_fd h c (a_ev σ' f).toNat = zv := (List.cons.inj hfd).1.symm
      have e4 : c = (rl g.2.1).2.1 := Nat.eq_of_beq_eq_true b3
      have hsrc := a_src_wf (vals := (0, a_w (a_ev σ' f)) :: (6, c) :: stk1) S' L' K' g.2.2.1
      have wf3 : a_wf (a_n E9) f3 := by
        rcases b4 with ⟨-, b4⟩ | ⟨-, b4⟩
        · have e3 : t3 = 1 := Nat.eq_of_beq_eq_true b4
          subst e3
          exact (a_V1 hz).1
        · have e3 : t3 = 4 := Nat.eq_of_beq_eq_true b4
          subst e3
          exact (a_V4 hz).1
      have hW : a_wfs (a_n E9) (f :: f3 :: a_src g.2.2.1 ((1, s, f) :: (6, c, f2) :: rest) al K) := fun q hq => by
        rcases List.mem_cons.mp hq with rfl | hq
        · exact wf
        · rcases List.mem_cons.mp hq with rfl | hq
          · exact wf3
          · exact hsrc q hq
      refine a_gw_ok hst0 K' hW ?_
      rcases b4 with ⟨b0, b4⟩ | ⟨b0, b4⟩
      · have e3 : t3 = 1 := Nat.eq_of_beq_eq_true b4
        subst e3
        obtain ⟨-, rfl, r3, r4⟩ := a_V1 hz
        exact (hrl g.2.1).2.2.1 (Nat.eq_of_beq_eq_true b0) h _ hh i1 r2 (by rw [← e4]; exact hfd2) r3 r4
      · have e3 : t3 = 4 := Nat.eq_of_beq_eq_true b4
        subst e3
        obtain ⟨-, rfl, r3, r4⟩ := a_V4 hz
        exact (hrl g.2.1).2.2.2.2.1 (Nat.eq_of_beq_eq_true b0) h _ hh i1 r2 (by rw [← e4]; exact hfd2) r3 r4
theorem a_wNq {z : Int} (h1 : -2147483648 ≤ z) (h2 : z < 2147483648) : qNn (qI (a_w z)) = a_w z := by
  have e : qI (a_w z) = Int32.ofInt z := Int32.toInt_inj.mp (by rw [a_qIt h1 h2, Int32.toInt_ofInt_of_le (by omega) (by omega)])
  rw [e, a_wN]
theorem a_str {maxL : Nat} {e : qN} (he : e.1 = 21) {env : qE} {h h' : qH} {t i c n pc' : Nat} (hv : (q_v e = 0 ∧ (h.1.get c).1 = 100 ∧ t = 0) ∨ (q_v e = 2 ∧ (h.1.get c).1 = 103 ∧ t = 3) ∨ (q_v e = 1 ∧ (h.1.get c).1 = 101 ∧ t = 0 ∧ -128 ≤ (qI n).toInt ∧ (qI n).toInt ≤ 127 ∧ n = qNn (qI n))) {lv lv' : qL} {stk2 stk' : List qV} (hr : q_stepS 0 0 false 0 maxL e env h 0 0 lv ((t, n) :: (0, i) :: (6, c) :: stk2) = some [(env, h', 0, 0, pc', lv', stk')]) : h' = q_put h c i (t, n) := by
  obtain ⟨op, p0, v, r⟩ := e
  have he : op = 21 := he
  subst he
  rcases hv with ⟨hv, hk, rfl⟩ | ⟨hv, hk, rfl⟩ | ⟨hv, hk, rfl, g1, g2, g3⟩
  · have hv : v = 0 := hv
    subst hv
    have hr : q_s21S (21, p0, 0, r) env h 0 0 lv ((0, n) :: (0, i) :: (6, c) :: stk2) = some [(env, h', 0, 0, pc', lv', stk')] := hr
    have key : q_s21S (21, p0, 0, r) env h 0 0 lv ((0, n) :: (0, i) :: (6, c) :: stk2) = (bif Nat.beq 6 6 && Nat.blt c h.2 && Nat.blt i (h.1.get c).2.1 && Nat.blt i 2147483648 then (match q_kep 0 (h.1.get c).1 (0, n) with
      | none => none
      | some z' => some [(env, q_put h c i (z'.1, z'.2), 0, 0, p0 + 1, lv, stk2)]) else none) := rfl
    rw [key, hk] at hr
    rcases a_bf hr with ⟨-, hr⟩ | ⟨-, hr⟩
    · have hr : some [(env, q_put h c i (0, n), 0, 0, p0 + 1, lv, stk2)] = some [(env, h', 0, 0, pc', lv', stk')] := hr
      cases hr
      rfl
    · cases hr
  · have hv : v = 2 := hv
    subst hv
    have hr : q_s21S (21, p0, 2, r) env h 0 0 lv ((3, n) :: (0, i) :: (6, c) :: stk2) = some [(env, h', 0, 0, pc', lv', stk')] := hr
    have key : q_s21S (21, p0, 2, r) env h 0 0 lv ((3, n) :: (0, i) :: (6, c) :: stk2) = (bif Nat.beq 6 6 && Nat.blt c h.2 && Nat.blt i (h.1.get c).2.1 && Nat.blt i 2147483648 then (match q_kep 2 (h.1.get c).1 (3, n) with
      | none => none
      | some z' => some [(env, q_put h c i (z'.1, z'.2), 0, 0, p0 + 1, lv, stk2)]) else none) := rfl
    rw [key, hk] at hr
    rcases a_bf hr with ⟨-, hr⟩ | ⟨-, hr⟩
    · have hr : some [(env, q_put h c i (3, n), 0, 0, p0 + 1, lv, stk2)] = some [(env, h', 0, 0, pc', lv', stk')] := hr
      cases hr
      rfl
    · cases hr
  · have hv : v = 1 := hv
    subst hv
    have hr : q_s21S (21, p0, 1, r) env h 0 0 lv ((0, n) :: (0, i) :: (6, c) :: stk2) = some [(env, h', 0, 0, pc', lv', stk')] := hr
    have key : q_s21S (21, p0, 1, r) env h 0 0 lv ((0, n) :: (0, i) :: (6, c) :: stk2) = (bif Nat.beq 6 6 && Nat.blt c h.2 && Nat.blt i (h.1.get c).2.1 && Nat.blt i 2147483648 then (match q_kep 1 (h.1.get c).1 (0, n) with
      | none => none
      | some z' => some [(env, q_put h c i (z'.1, z'.2), 0, 0, p0 + 1, lv, stk2)]) else none) := rfl
    rw [key, hk] at hr
    rcases a_bf hr with ⟨-, hr⟩ | ⟨-, hr⟩
    · have hr : some [(env, q_put h c i (0, qNn (vp_nar .byte (qI n))), 0, 0, p0 + 1, lv, stk2)] = some [(env, h', 0, 0, pc', lv', stk')] := hr
      have e : vp_nar .byte (qI n) = qI n := Int32.toInt_inj.mp ((a_i2b (qI n)).2.2 g1 g2)
      rw [e, ← g3] at hr
      cases hr
      rfl
    · cases hr
/-- behind a store -/
noncomputable def a_gs1 (sp : aSp) (nc : Nat) (rl : Nat → aRl) (v : Nat) (g : aGi) (K : aK) (al : aL) (sk : List aV) (st : aS) : aS := match sk with
  | z :: y :: x :: _ =>
    bif (Nat.beq y.1 1 && (Nat.beq x.1 6 && (Nat.beq x.2.1 (rl g.2.1).2.1 && (Nat.blt x.2.1 nc && (a_ge st.1 y.2.2 0 && a_lef st.1 y.2.2 ((a_cl sp x.2.1 : Int) - 1)))))) && ((Nat.beq (rl g.2.1).1 1 && (Nat.beq v 0 && (Nat.beq z.1 1 && Nat.beq (a_ck sp x.2.1) 100))) || ((Nat.beq (rl g.2.1).1 5 && (Nat.beq v 2 && (Nat.beq z.1 4 && Nat.beq (a_ck sp x.2.1) 103))) || (Nat.beq (rl g.2.1).1 1 && (Nat.beq v 1 && (Nat.beq z.1 1 && (Nat.beq (a_ck sp x.2.1) 101 && (a_ge st.1 z.2.2 (-128) && a_lef st.1 z.2.2 127))))))) then a_gw sp nc rl g K (y.2.2 :: z.2.2 :: a_src g.2.2.1 sk al K) st else st
  | _ => st
theorem a_gs1_ok {sp : aSp} {nc : Nat} {rl : Nat → aRl} (hrl : ∀ i, a_RR sp nc (rl i)) {v : Nat} {g : aGi} {h h' : qH} {σ σ' : Nat → Int} {E : aE} {K : aK} {al : aL} {lv lv' : qL} {sk : List aV} {stk stk' : List qV} {st : aS} (hh : a_HI sp nc h) (hh' : a_HI sp nc h') (hK : a_Kn sp nc σ (a_n E) K h) (hL : a_Lv σ (a_n E) al lv) (hS : a_Sk σ (a_n E) sk stk) (hn : a_n E ≤ a_n st.1) (hs : ∀ i, i < a_n E → σ' i = σ i)
    (hst : a_St sp nc σ' h' lv' stk' st) (hsr : ∀ t n i c stk2, stk = (t, n) :: (0, i) :: (6, c) :: stk2 → (v = 0 ∧ (h.1.get c).1 = 100 ∧ t = 0) ∨ (v = 2 ∧ (h.1.get c).1 = 103 ∧ t = 3) ∨ (v = 1 ∧ (h.1.get c).1 = 101 ∧ t = 0 ∧ -128 ≤ (qI n).toInt ∧ (qI n).toInt ≤ 127 ∧ n = qNn (qI n)) → h' = q_put h c i (t, n)) : a_St sp nc σ' h' lv' stk' (a_gs1 sp nc rl v g K al sk st) ∧ a_n (a_gs1 sp nc rl v g K al sk st).1 = a_n st.1 ∧ (a_gs1 sp nc rl v g K al sk st).2.2 = st.2.2 := by
  obtain ⟨E9, K9, pc9, al9, sk9⟩ := st
  rcases sk with _ | ⟨z, _ | ⟨y, _ | ⟨x, rest⟩⟩⟩
  · exact ⟨hst, rfl, rfl⟩
  · exact ⟨hst, rfl, rfl⟩
  · exact ⟨hst, rfl, rfl⟩
  unfold a_gs1
  dsimp only
  have hn : a_n E ≤ a_n E9 := hn
  cases hb : ((Nat.beq y.1 1 && (Nat.beq x.1 6 && (Nat.beq x.2.1 (rl g.2.1).2.1 && (Nat.blt x.2.1 nc && (a_ge E9 y.2.2 0 && a_lef E9 y.2.2 ((a_cl sp x.2.1 : Int) - 1)))))) && ((Nat.beq (rl g.2.1).1 1 && (Nat.beq v 0 && (Nat.beq z.1 1 && Nat.beq (a_ck sp x.2.1) 100))) || ((Nat.beq (rl g.2.1).1 5 && (Nat.beq v 2 && (Nat.beq z.1 4 && Nat.beq (a_ck sp x.2.1) 103))) || (Nat.beq (rl g.2.1).1 1 && (Nat.beq v 1 && (Nat.beq z.1 1 && (Nat.beq (a_ck sp x.2.1) 101 && (a_ge E9 z.2.2 (-128) && a_lef E9 z.2.2 127)))))))) with
  | false => exact ⟨hst, rfl, rfl⟩
  | true =>
    simp only [Bool.and_eq_true, Bool.or_eq_true] at hb
    obtain ⟨⟨b1, b2, b3, bn, b5, b8⟩, b4⟩ := hb
    have K' := hK.ext hn hs
    have L' := hL.ext hn hs
    have S' := hS.ext hn hs
    have hst0 := hst
    have hE2 : a_En σ' E9 := hst.1
    obtain ⟨zv, stk0, rfl, hz, hS0⟩ := S'.cons
    obtain ⟨yv, stk1, rfl, hy, hS1⟩ := hS0.cons
    obtain ⟨xv, stk3, rfl, hx, hS3⟩ := hS1.cons
    obtain ⟨t, s, f⟩ := y
    obtain ⟨t2, c, f2⟩ := x
    obtain ⟨t3, s3, f3⟩ := z
    have e1 : t = 1 := Nat.eq_of_beq_eq_true b1
    have e2 : t2 = 6 := Nat.eq_of_beq_eq_true b2
    subst e1; subst e2
    have hx : xv = (6, c) := hx
    subst hx
    obtain ⟨wf, rfl, r1, r2⟩ := a_V1 hy
    have i1 : 0 ≤ a_ev σ' f := a_ge_ok hE2 wf b5
    have i2 : a_ev σ' f ≤ (a_cl sp c : Int) - 1 := a_lef_ok hE2 wf b8
    have hw : a_w (a_ev σ' f) = (a_ev σ' f).toNat := by unfold a_w; omega
    have e4 : c = (rl g.2.1).2.1 := Nat.eq_of_beq_eq_true b3
    have hc : c < nc := by
      have bn : Nat.blt c nc = true := bn
      rw [q_blt] at bn
      exact of_decide_eq_true bn
    have hn4 := hh.2.1
    have hput : ∀ t n, zv = (t, n) → ((v = 0 ∧ (h.1.get c).1 = 100 ∧ t = 0) ∨ (v = 2 ∧ (h.1.get c).1 = 103 ∧ t = 3) ∨ (v = 1 ∧ (h.1.get c).1 = 101 ∧ t = 0 ∧ -128 ≤ (qI n).toInt ∧ (qI n).toInt ≤ 127 ∧ n = qNn (qI n))) → ∀ i q, i < nc → q < a_cl sp i → a_fd h' i q = if i = (rl g.2.1).2.1 ∧ q = (a_ev σ' f).toNat then zv else a_fd h i q := fun t n ez hv i q hi hq => by
      have hp := hsr t n _ _ _ (by rw [ez]) hv
      rw [hw, ← ez] at hp
      rw [hp, ← e4]
      exact (a_putg (h := h) (c := c) (j := (a_ev σ' f).toNat) (x := zv) (by omega) (by rw [(hh.2.2 c hc).2.1]; omega) i (by omega)).2.2 q (by rw [(hh.2.2 i hi).2.1]; exact hq)
    have hsrc := a_src_wf (vals := zv :: (0, a_w (a_ev σ' f)) :: (6, c) :: stk3) S' L' K' g.2.2.1
    have wf3 : a_wf (a_n E9) f3 := by
      rcases b4 with ⟨-, -, b4, -⟩ | ⟨-, -, b4, -⟩ | ⟨-, -, b4, -⟩
      · have e3 : t3 = 1 := Nat.eq_of_beq_eq_true b4
        subst e3
        exact (a_V1 hz).1
      · have e3 : t3 = 4 := Nat.eq_of_beq_eq_true b4
        subst e3
        exact (a_V4 hz).1
      · have e3 : t3 = 1 := Nat.eq_of_beq_eq_true b4
        subst e3
        exact (a_V1 hz).1
    have hW : a_wfs (a_n E9) (f :: f3 :: a_src g.2.2.1 ((t3, s3, f3) :: (1, s, f) :: (6, c, f2) :: rest) al K) := fun q hq => by
      rcases List.mem_cons.mp hq with rfl | hq
      · exact wf
      · rcases List.mem_cons.mp hq with rfl | hq
        · exact wf3
        · exact hsrc q hq
    refine a_gw_ok hst0 K' hW ?_
    rcases b4 with ⟨b0, bv, b4, bk⟩ | ⟨b0, bv, b4, bk⟩ | ⟨b0, bv, b4, bk, w1, w2⟩
    · have e3 : t3 = 1 := Nat.eq_of_beq_eq_true b4
      subst e3
      obtain ⟨-, ez, r3, r4⟩ := a_V1 hz
      have hfd := hput _ _ ez (Or.inl ⟨Nat.eq_of_beq_eq_true bv, by rw [(hh.2.2 c hc).1]; exact Nat.eq_of_beq_eq_true bk, rfl⟩)
      rw [ez] at hfd
      exact (hrl g.2.1).2.1 (Nat.eq_of_beq_eq_true b0) h h' _ hh hh' (by rw [← e4]; exact hc) i1 (by rw [← e4]; show a_ev σ' f < _; omega) r3 r4 hfd
    · have e3 : t3 = 4 := Nat.eq_of_beq_eq_true b4
      subst e3
      obtain ⟨-, ez, r3, r4⟩ := a_V4 hz
      have hfd := hput _ _ ez (Or.inr (Or.inl ⟨Nat.eq_of_beq_eq_true bv, by rw [(hh.2.2 c hc).1]; exact Nat.eq_of_beq_eq_true bk, rfl⟩))
      rw [ez] at hfd
      exact (hrl g.2.1).2.2.2.2.2.1 (Nat.eq_of_beq_eq_true b0) h h' _ hh hh' (by rw [← e4]; exact hc) i1 (by rw [← e4]; show a_ev σ' f < _; omega) r3 r4 hfd
    · have e3 : t3 = 1 := Nat.eq_of_beq_eq_true b4
      subst e3
      obtain ⟨-, ez, r3, r4⟩ := a_V1 hz
      have g1 := a_ge_ok hE2 wf3 w1
      have g2 := a_lef_ok hE2 wf3 w2
      have hfd := hput _ _ ez (Or.inr (Or.inr ⟨Nat.eq_of_beq_eq_true bv, by rw [(hh.2.2 c hc).1]; exact Nat.eq_of_beq_eq_true bk, rfl, by rw [a_qIt r3 r4]; exact g1, by rw [a_qIt r3 r4]; exact g2, (a_wNq r3 r4).symm⟩))
      rw [ez] at hfd
      exact (hrl g.2.1).2.1 (Nat.eq_of_beq_eq_true b0) h h' _ hh hh' (by rw [← e4]; exact hc) i1 (by rw [← e4]; show a_ev σ' f < _; omega) r3 r4 hfd
/-- behind irem -/
noncomputable def a_gr1 (sp : aSp) (nc : Nat) (rl : Nat → aRl) (v : Nat) (g : aGi) (K : aK) (al : aL) (sk : List aV) (st : aS) : aS := match sk, st.2.2.2.2 with
  | y :: x :: _, z :: _ =>
    bif Nat.beq (rl g.2.1).1 3 && (Nat.beq v 9 && (Nat.beq y.1 1 && (Nat.beq x.1 1 && (Nat.beq z.1 1 && (a_ge st.1 x.2.2 0 && a_ge st.1 y.2.2 1))))) then a_gw sp nc rl g K (x.2.2 :: y.2.2 :: z.2.2 :: a_src g.2.2.1 sk al K) st else st
  | _, _ => st
theorem a_gr1_ok {sp : aSp} {nc : Nat} {rl : Nat → aRl} (hrl : ∀ i, a_RR sp nc (rl i)) {v : Nat} {g : aGi} {h : qH} {σ σ' : Nat → Int} {E : aE} {K : aK} {al : aL} {lv lv' : qL} {sk : List aV} {stk stk' : List qV} {st : aS} (hh : a_HI sp nc h) (hK : a_Kn sp nc σ (a_n E) K h) (hL : a_Lv σ (a_n E) al lv) (hS : a_Sk σ (a_n E) sk stk) (hn : a_n E ≤ a_n st.1) (hs : ∀ i, i < a_n E → σ' i = σ i)
    (hst : a_St sp nc σ' h lv' stk' st) (hrm : v = 9 → ∀ y x stk2, stk = (0, y) :: (0, x) :: stk2 → stk' = (0, qNn (qI x - qI x / qI y * qI y)) :: stk2) : a_St sp nc σ' h lv' stk' (a_gr1 sp nc rl v g K al sk st) ∧ a_n (a_gr1 sp nc rl v g K al sk st).1 = a_n st.1 ∧ (a_gr1 sp nc rl v g K al sk st).2.2 = st.2.2 := by
  obtain ⟨E9, K9, pc9, al9, sk9⟩ := st
  rcases sk with _ | ⟨y, _ | ⟨x, rest⟩⟩
  · exact ⟨hst, rfl, rfl⟩
  · exact ⟨hst, rfl, rfl⟩
  rcases sk9 with _ | ⟨z, rest'⟩
  · exact ⟨hst, rfl, rfl⟩
  · unfold a_gr1
    dsimp only
    have hn : a_n E ≤ a_n E9 := hn
    cases hb : (Nat.beq (rl g.2.1).1 3 && (Nat.beq v 9 && (Nat.beq y.1 1 && (Nat.beq x.1 1 && (Nat.beq z.1 1 && (a_ge E9 x.2.2 0 && a_ge E9 y.2.2 1)))))) with
    | false => exact ⟨hst, rfl, rfl⟩
    | true =>
      simp only [Bool.and_eq_true] at hb
      obtain ⟨b0, bv, b1, b2, b3, b5, b6⟩ := hb
      have K' := hK.ext hn hs
      have L' := hL.ext hn hs
      have S' := hS.ext hn hs
      have hst0 := hst
      obtain ⟨hE2, hK2, hL2, hS2⟩ := hst
      have hE2 : a_En σ' E9 := hE2
      have hS2 : a_Sk σ' (a_n E9) (z :: rest') stk' := hS2
      obtain ⟨yv, stk0, rfl, hy, hS0⟩ := S'.cons
      obtain ⟨xv, stk1, rfl, hx, hS1⟩ := hS0.cons
      obtain ⟨zv, stk9, rfl, hz, hS9⟩ := hS2.cons
      obtain ⟨t, s, f⟩ := y
      obtain ⟨t2, s2, f2⟩ := x
      obtain ⟨t3, s3, f3⟩ := z
      have e1 : t = 1 := Nat.eq_of_beq_eq_true b1
      have e2 : t2 = 1 := Nat.eq_of_beq_eq_true b2
      have e3 : t3 = 1 := Nat.eq_of_beq_eq_true b3
      subst e1; subst e2; subst e3
      obtain ⟨wf, rfl, r1, r2⟩ := a_V1 hy
      obtain ⟨wf2, rfl, r3, r4⟩ := a_V1 hx
      obtain ⟨wf3, rfl, r5, r6⟩ := a_V1 hz
      have i1 : 0 ≤ a_ev σ' f2 := a_ge_ok hE2 wf2 b5
      have i2 : 1 ≤ a_ev σ' f := a_ge_ok hE2 wf b6
      have hr := (List.cons.inj (hrm (Nat.eq_of_beq_eq_true bv) _ _ _ rfl)).1
      have hr := congrArg (fun q : qV => (qI q.2).toInt) hr
      have hr : (qI (a_w (a_ev σ' f3))).toInt = (qI (qNn (qI (a_w (a_ev σ' f2)) - qI (a_w (a_ev σ' f2)) / qI (a_w (a_ev σ' f)) * qI (a_w (a_ev σ' f))))).toInt := hr
      have t1 := a_qIt r1 r2
      have t2 := a_qIt r3 r4
      rw [qI_N, a_qIt r5 r6, (a_remI (by rw [t2]; exact i1) (by rw [t1]; omega)).1, t1, t2] at hr
      have hW : a_wfs (a_n E9) (f2 :: f :: f3 :: a_src g.2.2.1 ((1, s, f) :: (1, s2, f2) :: rest) al K) := fun q hq => by
        rcases List.mem_cons.mp hq with rfl | hq
        · exact wf2
        · rcases List.mem_cons.mp hq with rfl | hq
          · exact wf
          · rcases List.mem_cons.mp hq with rfl | hq
            · exact wf3
            · exact a_src_wf (vals := (0, a_w (a_ev σ' f)) :: (0, a_w (a_ev σ' f2)) :: stk1) S' L' K' g.2.2.1 q hq
      exact a_gw_ok hst0 K' hW ((hrl g.2.1).2.2.2.1 (Nat.eq_of_beq_eq_true b0) h _ hh i1 i2 hr)
/-- behind arithmetic -/
noncomputable def a_gx1 (sp : aSp) (nc : Nat) (rl : Nat → aRl) (v : Nat) (g : aGi) (K : aK) (al : aL) (sk : List aV) (st : aS) : aS := match sk, st.2.2.2.2 with
  | y :: x :: _, z :: _ =>
    bif Nat.beq (rl g.2.1).1 6 && (Nat.beq v (rl g.2.1).2.1 && (Nat.beq y.1 1 && (Nat.beq x.1 1 && Nat.beq z.1 1))) then a_gw sp nc rl g K (x.2.2 :: y.2.2 :: z.2.2 :: a_src g.2.2.1 sk al K) st else st
  | _, _ => st
theorem a_gx1_ok {sp : aSp} {nc : Nat} {rl : Nat → aRl} (hrl : ∀ i, a_RR sp nc (rl i)) {v : Nat} {g : aGi} {h : qH} {σ σ' : Nat → Int} {E : aE} {K : aK} {al : aL} {lv lv' : qL} {sk : List aV} {stk stk' : List qV} {st : aS} (hh : a_HI sp nc h) (hK : a_Kn sp nc σ (a_n E) K h) (hL : a_Lv σ (a_n E) al lv) (hS : a_Sk σ (a_n E) sk stk) (hn : a_n E ≤ a_n st.1) (hs : ∀ i, i < a_n E → σ' i = σ i)
    (hst : a_St sp nc σ' h lv' stk' st) (hrm : ∀ y x stk2, stk = (0, y) :: (0, x) :: stk2 → stk' = (0, qNn (q_f4 v (qI x) (qI y))) :: stk2) : a_St sp nc σ' h lv' stk' (a_gx1 sp nc rl v g K al sk st) ∧ a_n (a_gx1 sp nc rl v g K al sk st).1 = a_n st.1 ∧ (a_gx1 sp nc rl v g K al sk st).2.2 = st.2.2 := by
  obtain ⟨E9, K9, pc9, al9, sk9⟩ := st
  rcases sk with _ | ⟨y, _ | ⟨x, rest⟩⟩
  · exact ⟨hst, rfl, rfl⟩
  · exact ⟨hst, rfl, rfl⟩
  rcases sk9 with _ | ⟨z, rest'⟩
  · exact ⟨hst, rfl, rfl⟩
  · unfold a_gx1
    dsimp only
    have hn : a_n E ≤ a_n E9 := hn
    cases hb : (Nat.beq (rl g.2.1).1 6 && (Nat.beq v (rl g.2.1).2.1 && (Nat.beq y.1 1 && (Nat.beq x.1 1 && Nat.beq z.1 1)))) with
    | false => exact ⟨hst, rfl, rfl⟩
    | true =>
      simp only [Bool.and_eq_true] at hb
      obtain ⟨b0, bv, b1, b2, b3⟩ := hb
      have K' := hK.ext hn hs
      have L' := hL.ext hn hs
      have S' := hS.ext hn hs
      have hst0 := hst
      obtain ⟨hE2, hK2, hL2, hS2⟩ := hst
      have hE2 : a_En σ' E9 := hE2
      have hS2 : a_Sk σ' (a_n E9) (z :: rest') stk' := hS2
      obtain ⟨yv, stk0, rfl, hy, hS0⟩ := S'.cons
      obtain ⟨xv, stk1, rfl, hx, hS1⟩ := hS0.cons
      obtain ⟨zv, stk9, rfl, hz, hS9⟩ := hS2.cons
      obtain ⟨t, s, f⟩ := y
      obtain ⟨t2, s2, f2⟩ := x
      obtain ⟨t3, s3, f3⟩ := z
      have e1 : t = 1 := Nat.eq_of_beq_eq_true b1
      have e2 : t2 = 1 := Nat.eq_of_beq_eq_true b2
      have e3 : t3 = 1 := Nat.eq_of_beq_eq_true b3
      subst e1; subst e2; subst e3
      obtain ⟨wf, rfl, r1, r2⟩ := a_V1 hy
      obtain ⟨wf2, rfl, r3, r4⟩ := a_V1 hx
      obtain ⟨wf3, rfl, r5, r6⟩ := a_V1 hz
      have hr := (List.cons.inj (hrm _ _ _ rfl)).1
      have hr : a_w (a_ev σ' f3) = qNn (q_f4 v (qI (a_w (a_ev σ' f2))) (qI (a_w (a_ev σ' f)))) := congrArg Prod.snd hr
      rw [Nat.eq_of_beq_eq_true bv] at hr
      have hW : a_wfs (a_n E9) (f2 :: f :: f3 :: a_src g.2.2.1 ((1, s, f) :: (1, s2, f2) :: rest) al K) := fun q hq => by
        rcases List.mem_cons.mp hq with rfl | hq
        · exact wf2
        · rcases List.mem_cons.mp hq with rfl | hq
          · exact wf
          · rcases List.mem_cons.mp hq with rfl | hq
            · exact wf3
            · exact a_src_wf (vals := (0, a_w (a_ev σ' f)) :: (0, a_w (a_ev σ' f2)) :: stk1) S' L' K' g.2.2.1 q hq
      exact a_gw_ok hst0 K' hW ((hrl g.2.1).2.2.2.2.2.2.1 (Nat.eq_of_beq_eq_true b0) h _ hh r3 r4 r1 r2 r5 r6 hr)
/-- behind a cut -/
noncomputable def a_gv1 (sp : aSp) (nc : Nat) (rl : Nat → aRl) (v : Nat) (g : aGi) (K : aK) (al : aL) (sk : List aV) (st : aS) : aS := match sk, st.2.2.2.2 with
  | x :: _, z :: _ =>
    bif Nat.beq (rl g.2.1).1 7 && (Nat.beq v (rl g.2.1).2.1 && (Nat.beq x.1 (bif Nat.beq v 1 then 4 else 1) && Nat.beq z.1 1)) then a_gw sp nc rl g K (x.2.2 :: z.2.2 :: a_src g.2.2.1 sk al K) st else st
  | _, _ => st
theorem a_gv1_ok {sp : aSp} {nc : Nat} {rl : Nat → aRl} (hrl : ∀ i, a_RR sp nc (rl i)) {v : Nat} {g : aGi} {h : qH} {σ σ' : Nat → Int} {E : aE} {K : aK} {al : aL} {lv lv' : qL} {sk : List aV} {stk stk' : List qV} {st : aS} (hh : a_HI sp nc h) (hK : a_Kn sp nc σ (a_n E) K h) (hL : a_Lv σ (a_n E) al lv) (hS : a_Sk σ (a_n E) sk stk) (hn : a_n E ≤ a_n st.1) (hs : ∀ i, i < a_n E → σ' i = σ i)
    (hst : a_St sp nc σ' h lv' stk' st) (hrm : ∀ x stk2, stk = x :: stk2 → stk' = q_s6v v x :: stk2) : a_St sp nc σ' h lv' stk' (a_gv1 sp nc rl v g K al sk st) ∧ a_n (a_gv1 sp nc rl v g K al sk st).1 = a_n st.1 ∧ (a_gv1 sp nc rl v g K al sk st).2.2 = st.2.2 := by
  obtain ⟨E9, K9, pc9, al9, sk9⟩ := st
  rcases sk with _ | ⟨x, rest⟩
  · exact ⟨hst, rfl, rfl⟩
  rcases sk9 with _ | ⟨z, rest'⟩
  · exact ⟨hst, rfl, rfl⟩
  · unfold a_gv1
    dsimp only
    have hn : a_n E ≤ a_n E9 := hn
    cases hb : (Nat.beq (rl g.2.1).1 7 && (Nat.beq v (rl g.2.1).2.1 && (Nat.beq x.1 (bif Nat.beq v 1 then 4 else 1) && Nat.beq z.1 1))) with
    | false => exact ⟨hst, rfl, rfl⟩
    | true =>
      simp only [Bool.and_eq_true] at hb
      obtain ⟨b0, bv, b2, b3⟩ := hb
      have K' := hK.ext hn hs
      have L' := hL.ext hn hs
      have S' := hS.ext hn hs
      have hst0 := hst
      obtain ⟨hE2, hK2, hL2, hS2⟩ := hst
      have hE2 : a_En σ' E9 := hE2
      have hS2 : a_Sk σ' (a_n E9) (z :: rest') stk' := hS2
      obtain ⟨xv, stk1, rfl, hx, hS1⟩ := S'.cons
      obtain ⟨zv, stk9, rfl, hz, hS9⟩ := hS2.cons
      obtain ⟨t2, s2, f2⟩ := x
      obtain ⟨t3, s3, f3⟩ := z
      have e3 : t3 = 1 := Nat.eq_of_beq_eq_true b3
      subst e3
      obtain ⟨wf3, rfl, r5, r6⟩ := a_V1 hz
      have hr := (List.cons.inj (hrm _ _ rfl)).1
      have bv := Nat.eq_of_beq_eq_true bv
      cases h1 : Nat.beq v 1 with
      | true =>
        rw [h1] at b2
        have e2 : t2 = 4 := Nat.eq_of_beq_eq_true b2
        subst e2
        have h1 := Nat.eq_of_beq_eq_true h1
        obtain ⟨wf2, rfl, r3, r4⟩ := a_V4 hx
        rw [h1] at hr bv
        have hr : a_w (a_ev σ' f3) = qNn (qJ (a_W (a_ev σ' f2))).toInt32 := congrArg Prod.snd hr
        have hW : a_wfs (a_n E9) (f2 :: f3 :: a_src g.2.2.1 ((4, s2, f2) :: rest) al K) := fun q hq => by
          rcases List.mem_cons.mp hq with rfl | hq
          · exact wf2
          · rcases List.mem_cons.mp hq with rfl | hq
            · exact wf3
            · exact a_src_wf (vals := (3, a_W (a_ev σ' f2)) :: stk1) S' L' K' g.2.2.1 q hq
        exact a_gw_ok hst0 K' hW ((hrl g.2.1).2.2.2.2.2.2.2.1 (Nat.eq_of_beq_eq_true b0) h _ hh r5 r6 (Or.inl ⟨bv.symm, r3, r4, hr⟩))
      | false =>
        rw [h1] at b2
        have e2 : t2 = 1 := Nat.eq_of_beq_eq_true b2
        subst e2
        have h1 := Nat.ne_of_beq_eq_false h1
        obtain ⟨wf2, rfl, r3, r4⟩ := a_V1 hx
        rw [bv] at hr h1
        have hW : a_wfs (a_n E9) (f2 :: f3 :: a_src g.2.2.1 ((1, s2, f2) :: rest) al K) := fun q hq => by
          rcases List.mem_cons.mp hq with rfl | hq
          · exact wf2
          · rcases List.mem_cons.mp hq with rfl | hq
            · exact wf3
            · exact a_src_wf (vals := (0, a_w (a_ev σ' f2)) :: stk1) S' L' K' g.2.2.1 q hq
        exact a_gw_ok hst0 K' hW ((hrl g.2.1).2.2.2.2.2.2.2.1 (Nat.eq_of_beq_eq_true b0) h _ hh r5 r6 (Or.inr ⟨h1, r3, r4, hr⟩))
/-- behind a copy -/
noncomputable def a_gc1 (sp : aSp) (nc : Nat) (rl : Nat → aRl) (g : aGi) (K : aK) (al : aL) (sk : List aV) (st : aS) : aS := match sk with
  | n :: t :: y :: s :: x :: _ =>
    bif Nat.beq (rl g.2.1).1 8 && (Nat.beq ((rl g.2.1).2.1 / 1024) x.2.1 && (Nat.beq ((rl g.2.1).2.1 % 1024) y.2.1 && (Nat.beq n.1 1 && (Nat.beq t.1 1 && (Nat.beq y.1 6 && (Nat.beq s.1 1 && (Nat.beq x.1 6 && (a_ge st.1 s.2.2 0 && (a_ge st.1 t.2.2 0 && a_ge st.1 n.2.2 0))))))))) then a_gw sp nc rl g K (s.2.2 :: t.2.2 :: n.2.2 :: a_src g.2.2.1 sk al K) st else st
  | _ => st
theorem a_gc1_ok {sp : aSp} {nc : Nat} {rl : Nat → aRl} (hrl : ∀ i, a_RR sp nc (rl i)) {g : aGi} {h h' : qH} {σ σ' : Nat → Int} {E : aE} {K : aK} {al : aL} {lv lv' : qL} {sk : List aV} {stk stk' : List qV} {st : aS} (hh : a_HI sp nc h) (hh' : a_HI sp nc h') (hK : a_Kn sp nc σ (a_n E) K h) (hL : a_Lv σ (a_n E) al lv) (hS : a_Sk σ (a_n E) sk stk) (hn : a_n E ≤ a_n st.1) (hs : ∀ i, i < a_n E → σ' i = σ i)
    (hst : a_St sp nc σ' h' lv' stk' st) (hac : ∀ n t d s c stk2, stk = (0, n) :: (0, t) :: (6, d) :: (0, s) :: (6, c) :: stk2 → c < nc ∧ d < nc ∧ s + n ≤ a_cl sp c ∧ t + n ≤ a_cl sp d ∧ ∀ i q, i < nc → q < a_cl sp i → a_fd h' i q = if i = d ∧ t ≤ q ∧ q < t + n then a_fd h c (s + (q - t)) else a_fd h i q) : a_St sp nc σ' h' lv' stk' (a_gc1 sp nc rl g K al sk st) ∧ a_n (a_gc1 sp nc rl g K al sk st).1 = a_n st.1 ∧ (a_gc1 sp nc rl g K al sk st).2.2 = st.2.2 := by
  obtain ⟨E9, K9, pc9, al9, sk9⟩ := st
  rcases sk with _ | ⟨n, _ | ⟨t, _ | ⟨y, _ | ⟨s, _ | ⟨x, rest⟩⟩⟩⟩⟩
  · exact ⟨hst, rfl, rfl⟩
  · exact ⟨hst, rfl, rfl⟩
  · exact ⟨hst, rfl, rfl⟩
  · exact ⟨hst, rfl, rfl⟩
  · exact ⟨hst, rfl, rfl⟩
  · unfold a_gc1
    dsimp only
    have hn : a_n E ≤ a_n E9 := hn
    cases hb : (Nat.beq (rl g.2.1).1 8 && (Nat.beq ((rl g.2.1).2.1 / 1024) x.2.1 && (Nat.beq ((rl g.2.1).2.1 % 1024) y.2.1 && (Nat.beq n.1 1 && (Nat.beq t.1 1 && (Nat.beq y.1 6 && (Nat.beq s.1 1 && (Nat.beq x.1 6 && (a_ge E9 s.2.2 0 && (a_ge E9 t.2.2 0 && a_ge E9 n.2.2 0)))))))))) with
    | false => exact ⟨hst, rfl, rfl⟩
    | true =>
      simp only [Bool.and_eq_true] at hb
      obtain ⟨b0, bc, bd, b1, b2, b3, b4, b5, b6, b7, b8⟩ := hb
      have K' := hK.ext hn hs
      have L' := hL.ext hn hs
      have S' := hS.ext hn hs
      have hst0 := hst
      obtain ⟨hE2, hK2, hL2, hS2⟩ := hst
      have hE2 : a_En σ' E9 := hE2
      obtain ⟨nv, stk0, rfl, hnv, hS0⟩ := S'.cons
      obtain ⟨tv, stk1, rfl, htv, hS1⟩ := hS0.cons
      obtain ⟨yv, stk3, rfl, hyv, hS3⟩ := hS1.cons
      obtain ⟨sv, stk4, rfl, hsv, hS4⟩ := hS3.cons
      obtain ⟨xv, stk5, rfl, hxv, hS5⟩ := hS4.cons
      obtain ⟨k1, z1, fn⟩ := n
      obtain ⟨k2, z2, ft⟩ := t
      obtain ⟨k3, d, z3⟩ := y
      obtain ⟨k4, z4, fs⟩ := s
      obtain ⟨k5, c, z5⟩ := x
      have q1 : k1 = 1 := Nat.eq_of_beq_eq_true b1
      have q2 : k2 = 1 := Nat.eq_of_beq_eq_true b2
      have q3 : k3 = 6 := Nat.eq_of_beq_eq_true b3
      have q4 : k4 = 1 := Nat.eq_of_beq_eq_true b4
      have q5 : k5 = 6 := Nat.eq_of_beq_eq_true b5
      subst q1; subst q2; subst q3; subst q4; subst q5
      have bc : (rl g.2.1).2.1 / 1024 = c := Nat.eq_of_beq_eq_true bc
      have bd : (rl g.2.1).2.1 % 1024 = d := Nat.eq_of_beq_eq_true bd
      have hxv : xv = (6, c) := hxv
      subst hxv
      have hyv : yv = (6, d) := hyv
      subst hyv
      obtain ⟨wn, rfl, n1, n2⟩ := a_V1 hnv
      obtain ⟨wt, rfl, t1, t2⟩ := a_V1 htv
      obtain ⟨ws, rfl, s1, s2⟩ := a_V1 hsv
      have i1 : 0 ≤ a_ev σ' fs := a_ge_ok hE2 ws b6
      have i2 : 0 ≤ a_ev σ' ft := a_ge_ok hE2 wt b7
      have i3 : 0 ≤ a_ev σ' fn := a_ge_ok hE2 wn b8
      obtain ⟨-, -, l1, l2, hfd⟩ := hac _ _ _ _ _ _ rfl
      have wns : a_w (a_ev σ' fn) = (a_ev σ' fn).toNat := by unfold a_w; omega
      have wts : a_w (a_ev σ' ft) = (a_ev σ' ft).toNat := by unfold a_w; omega
      have wss : a_w (a_ev σ' fs) = (a_ev σ' fs).toNat := by unfold a_w; omega
      rw [wns, wts, wss] at hfd
      rw [wns, wss] at l1
      rw [wns, wts] at l2
      have hW : a_wfs (a_n E9) (fs :: ft :: fn :: a_src g.2.2.1 ((1, z1, fn) :: (1, z2, ft) :: (6, d, z3) :: (1, z4, fs) :: (6, c, z5) :: rest) al K) := fun q hq => by
        rcases List.mem_cons.mp hq with rfl | hq
        · exact ws
        · rcases List.mem_cons.mp hq with rfl | hq
          · exact wt
          · rcases List.mem_cons.mp hq with rfl | hq
            · exact wn
            · exact a_src_wf (vals := (0, a_w (a_ev σ' fn)) :: (0, a_w (a_ev σ' ft)) :: (6, d) :: (0, a_w (a_ev σ' fs)) :: (6, c) :: stk5) S' L' K' g.2.2.1 q hq
      refine a_gw_ok hst0 K' hW ((hrl g.2.1).2.2.2.2.2.2.2.2 (Nat.eq_of_beq_eq_true b0) h h' _ hh hh' i1 i2 i3 ?_ ?_ ?_)
      · show a_ev σ' fs + a_ev σ' fn ≤ _
        rw [bc]
        omega
      · show a_ev σ' ft + a_ev σ' fn ≤ _
        rw [bd]
        omega
      · rw [bc, bd]
        exact hfd
/-- all rules for that place behind a step -/
noncomputable def a_gq (sp : aSp) (nc : Nat) (rl : Nat → aRl) (op v : Nat) (g : aGi) (K : aK) (al : aL) (sk : List aV) (st : aS) : aS := bif Nat.beq op 20 then a_gl1 sp nc rl g K al sk st else bif Nat.beq op 21 then a_gs1 sp nc rl v g K al sk st else bif Nat.beq op 4 then (bif Nat.beq (rl g.2.1).1 3 then a_gr1 sp nc rl v g K al sk st else a_gx1 sp nc rl v g K al sk st) else bif Nat.beq op 6 then a_gv1 sp nc rl v g K al sk st else bif Nat.beq op 26 then a_gc1 sp nc rl g K al sk st else st
noncomputable def a_gpl (sp : aSp) (nc : Nat) (rl : Nat → aRl) (pc op v : Nat) (K : aK) (al : aL) (sk : List aV) : List aGi → aS → aS
  | [], st => st
  | g :: gs, st => a_gpl sp nc rl pc op v K al sk gs (bif Nat.beq g.1 pc then a_gq sp nc rl op v g K al sk st else st)
theorem a_gpl_ok {sp : aSp} {nc : Nat} {rl : Nat → aRl} (hrl : ∀ i, a_RR sp nc (rl i)) {pc op v : Nat} {h h' : qH} {σ σ' : Nat → Int} {E : aE} {K : aK} {al : aL} {lv lv' : qL} {sk : List aV} {stk stk' : List qV} (hh : a_HI sp nc h) (hh' : a_HI sp nc h') (hK : a_Kn sp nc σ (a_n E) K h) (hL : a_Lv σ (a_n E) al lv) (hS : a_Sk σ (a_n E) sk stk) (hs : ∀ i, i < a_n E → σ' i = σ i)
    (hld : op = 20 → h' = h ∧ ∀ i c stk2, stk = (0, i) :: (6, c) :: stk2 → stk' = a_fd h c i :: stk2) (hsr : op = 21 → ∀ t n i c stk2, stk = (t, n) :: (0, i) :: (6, c) :: stk2 → (v = 0 ∧ (h.1.get c).1 = 100 ∧ t = 0) ∨ (v = 2 ∧ (h.1.get c).1 = 103 ∧ t = 3) ∨ (v = 1 ∧ (h.1.get c).1 = 101 ∧ t = 0 ∧ -128 ≤ (qI n).toInt ∧ (qI n).toInt ≤ 127 ∧ n = qNn (qI n)) → h' = q_put h c i (t, n)) (hrm : op = 4 → h' = h ∧ ∀ y x stk2, stk = (0, y) :: (0, x) :: stk2 → stk' = (0, qNn (q_f4 v (qI x) (qI y))) :: stk2) (hcv : op = 6 → ∀ x stk2, stk = x :: stk2 → h' = h ∧ stk' = q_s6v v x :: stk2) (hac : op = 26 → ∀ n t d s c stk2, stk = (0, n) :: (0, t) :: (6, d) :: (0, s) :: (6, c) :: stk2 → c < nc ∧ d < nc ∧ s + n ≤ a_cl sp c ∧ t + n ≤ a_cl sp d ∧ ∀ i q, i < nc → q < a_cl sp i → a_fd h' i q = if i = d ∧ t ≤ q ∧ q < t + n then a_fd h c (s + (q - t)) else a_fd h i q) : ∀ {gs : List aGi} {st : aS}, a_n E ≤ a_n st.1 → a_St sp nc σ' h' lv' stk' st → a_St sp nc σ' h' lv' stk' (a_gpl sp nc rl pc op v K al sk gs st) ∧ a_n (a_gpl sp nc rl pc op v K al sk gs st).1 = a_n st.1 ∧ (a_gpl sp nc rl pc op v K al sk gs st).2.2 = st.2.2
  | [], st, _, hst => ⟨hst, rfl, rfl⟩
  | g :: gs, st, hn, hst => by
    have one : a_St sp nc σ' h' lv' stk' (bif Nat.beq g.1 pc then a_gq sp nc rl op v g K al sk st else st) ∧ a_n (bif Nat.beq g.1 pc then a_gq sp nc rl op v g K al sk st else st).1 = a_n st.1 ∧ (bif Nat.beq g.1 pc then a_gq sp nc rl op v g K al sk st else st).2.2 = st.2.2 := by
      cases Nat.beq g.1 pc with
      | false => exact ⟨hst, rfl, rfl⟩
      | true =>
        show a_St sp nc σ' h' lv' stk' (a_gq sp nc rl op v g K al sk st) ∧ a_n (a_gq sp nc rl op v g K al sk st).1 = a_n st.1 ∧ (a_gq sp nc rl op v g K al sk st).2.2 = st.2.2
        unfold a_gq
        cases b1 : Nat.beq op 20 with
        | true =>
          obtain ⟨e1, e2⟩ := hld (Nat.eq_of_beq_eq_true b1)
          subst e1
          exact a_gl1_ok hrl hh hK hL hS hn hs hst e2
        | false =>
          cases b2 : Nat.beq op 21 with
          | true => exact a_gs1_ok hrl hh hh' hK hL hS hn hs hst (hsr (Nat.eq_of_beq_eq_true b2))
          | false =>
            cases b3 : Nat.beq op 4 with
            | true =>
              obtain ⟨e1, e2⟩ := hrm (Nat.eq_of_beq_eq_true b3)
              subst e1
              dsimp only [cond_true, cond_false]
              cases Nat.beq (rl g.2.1).1 3 with
              | true => exact a_gr1_ok hrl hh hK hL hS hn hs hst (fun hv y x stk2 e => by rw [e2 y x stk2 e, hv]; rfl)
              | false => exact a_gx1_ok hrl hh hK hL hS hn hs hst e2
            | false =>
              cases b4 : Nat.beq op 6 with
              | true =>
                have e2 := hcv (Nat.eq_of_beq_eq_true b4)
                rcases stk with _ | ⟨x0, stk2⟩
                · rcases sk with _ | ⟨y, rest⟩
                  · exact ⟨hst, rfl, rfl⟩
                  · exact (hS : False).elim
                · obtain ⟨e1, e3⟩ := e2 x0 stk2 rfl
                  subst e1
                  exact a_gv1_ok hrl hh hK hL hS hn hs hst (fun x stk3 e => (e2 x stk3 e).2)
              | false =>
                cases b5 : Nat.beq op 26 with
                | true => exact a_gc1_ok hrl hh hh' hK hL hS hn hs hst (hac (Nat.eq_of_beq_eq_true b5))
                | false => exact ⟨hst, rfl, rfl⟩
    obtain ⟨k1, k2, k3⟩ := one
    obtain ⟨m1, m2, m3⟩ := a_gpl_ok hrl (pc := pc) (op := op) (v := v) hh hh' hK hL hS hs hld hsr hrm hcv hac (gs := gs) (by rw [k2]; exact hn) k1
    exact ⟨m1, m2.trans k2, m3.trans k3⟩
