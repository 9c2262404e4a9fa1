-- 22.loops: both of the class, both of the reference
section
variable {tab : Nat → qM} {call : q_call} {M : qM} {scr : Bool} {L : Nat} {env : qE} {h : qH} {k sl pc : Nat} {lv : qL} {stk : List qV} {P : qO → Prop}
/-- idiv, irem by a number that is not 0 -/
theorem q_xd {e : qN} {x y : Nat} {rest : List qV} (he : (q_mI M).get pc = e) (hpc : q_pc e = pc) (h4 : e.1 = 4) (hst : stk = (0, y) :: (0, x) :: rest) (hy : qI y ≠ 0) (hn : q_GE tab call M scr L (env, h, k, sl, pc + 1, lv, (0, qNn (q_f4 (q_v e) (qI x) (qI y))) :: rest) P) : q_GE tab call M scr L (env, h, k, sl, pc, lv, stk) P := by
  refine q_x1 ?_ hn
  unfold q_a1S
  rw [he]
  obtain ⟨op, p, v, a, b, w, t⟩ := e
  have h4 : op = 4 := h4
  have hpc : p = pc := hpc
  subst h4; subst hpc; subst hst
  have e1 : Nat.beq p p = true := Nat.beq_refl p
  show (bif Nat.beq p p && true && true then q_s4S (4, p, v, a, b, w, t) env h k sl lv ((0, y) :: (0, x) :: rest) else none) = _
  rw [e1]
  show (bif Nat.ble 8 v && decide (qI y = 0) then none else q_gvS env h k sl (p + 1) lv 0 (qNn (q_f4 v (qI x) (qI y))) rest) = _
  rw [decide_eq_false hy, Bool.and_false]
  rfl
end
def q_F (m n : Nat) : Nat → Nat → Nat → Nat → Option Nat
  | 0, _, _, _ => none
  | f + 1, x, o, s => if x = m ∧ o = n then some s else q_F m n f (q_cb x m) (q_cb o n) (s + 1)
def q_R (m a n b : Nat) : Nat → Nat → Option Nat
  | 0, _ => none
  | f + 1, k => if (a + k) % m = 0 ∧ (b + k) % n = 0 then some k else q_R m a n b f (k + 1)
theorem q_cb_ok {x m u : Nat} (hm : 1 ≤ m) (h1 : 1 ≤ x) (h2 : x ≤ m) (h3 : x % m = u % m) : 1 ≤ q_cb x m ∧ q_cb x m ≤ m ∧ q_cb x m % m = (u + 1) % m := by
  unfold q_cb
  by_cases hx : m ≤ x
  · rw [if_pos hx]
    have e : x = m := by omega
    subst e
    rw [Nat.mod_self] at h3
    refine ⟨Nat.le_refl 1, hm, ?_⟩
    rw [Nat.add_mod, ← h3, Nat.zero_add, Nat.mod_mod]
  · rw [if_neg hx]
    refine ⟨by omega, by omega, ?_⟩
    rw [Nat.add_mod, h3, ← Nat.add_mod]
theorem q_FR {m a n b : Nat} (hm : 1 ≤ m) (hn : 1 ≤ n) : ∀ (f k x o : Nat), 1 ≤ x → x ≤ m → x % m = (a + k) % m → 1 ≤ o → o ≤ n → o % n = (b + k) % n → q_F m n f x o k = q_R m a n b f k
  | 0, _, _, _, _, _, _, _, _, _ => rfl
  | f + 1, k, x, o, x1, x2, x3, o1, o2, o3 => by
    obtain ⟨g1, g2, g3⟩ := q_cb_ok hm x1 x2 x3
    obtain ⟨g4, g5, g6⟩ := q_cb_ok hn o1 o2 o3
    have ih := q_FR (a := a) (b := b) hm hn f (k + 1) _ _ g1 g2 g3 g4 g5 g6
    have ex : x = m ↔ (a + k) % m = 0 := by
      rw [← x3]
      constructor
      · intro e; rw [e]; exact Nat.mod_self m
      · intro e
        by_cases hx : x = m
        · exact hx
        · rw [Nat.mod_eq_of_lt (by omega)] at e
          omega
    have eo : o = n ↔ (b + k) % n = 0 := by
      rw [← o3]
      constructor
      · intro e; rw [e]; exact Nat.mod_self n
      · intro e
        by_cases hx : o = n
        · exact hx
        · rw [Nat.mod_eq_of_lt (by omega)] at e
          omega
    show (if x = m ∧ o = n then some k else q_F m n f (q_cb x m) (q_cb o n) (k + 1)) = (if (a + k) % m = 0 ∧ (b + k) % n = 0 then some k else q_R m a n b f (k + 1))
    rw [ih]
    by_cases hc : x = m ∧ o = n
    · rw [if_pos hc, if_pos ⟨ex.mp hc.1, eo.mp hc.2⟩]
    · rw [if_neg hc, if_neg (fun q => hc ⟨ex.mpr q.1, eo.mpr q.2⟩)]
noncomputable def q_bo (env : qE) (h : qH) (r : Option Nat) : qO := match r with
  | some r => (env, q_put h 0 0 (0, 0), some (0, r))
  | none => (env, q_put h 0 0 (0, 8), some (0, 4294967295))
noncomputable def q_ro (env : qE) (h : qH) (r : Option Nat) : qO := match r with
  | some r => (env, h, some (0, r))
  | none => (env, q_put h 534 0 (0, 8), some (0, 4294967295))
abbrev q_lv1 (m a n b s o x : Nat) : qL := [(7, (0, s)), (6, (0, o)), (5, (0, x)), (0, (6, 0)), (1, (0, m)), (2, (0, a)), (3, (0, n)), (4, (0, b))]
theorem q_cb_le {x m : Nat} (hm : 1 ≤ m) (h : x ≤ m) : q_cb x m ≤ m := by
  unfold q_cb
  by_cases hx : m ≤ x
  · rw [if_pos hx]; exact hm
  · rw [if_neg hx]; omega
theorem q_mn {m n : Nat} (hm : m ≤ 13) (hn : n ≤ 13) : m * n ≤ 169 := Nat.le_trans (Nat.mul_le_mul hm hn) (by decide)
theorem q_cl1 {d : Nat} {env : qE} {h : qH} {m a n b : Nat} (hh : q_hh h) (hm1 : 1 ≤ m) (hm : m ≤ 13) (hn1 : 1 ≤ n) (hn : n ≤ 13) : ∀ (f s x o : Nat), s + f = m * n → x ≤ m → o ≤ n →
    q_GE q_T (q_GM q_T (d + 1)) (q_T 164) false 0 (env, h, 0, 0, 33, q_lv1 m a n b s o x, []) (fun r => r = q_bo env h (q_F m n f x o s)) := by
  have hmn := q_mn hm hn
  intro f
  induction f with
  | zero =>
    intro s x o hs hx ho
    refine q_xs (fr := (env, h, 0, 0, bif q_op 3 (qI s) (qI (qNn (qI m * qI n))) then 82 else 41, q_lv1 m a n b s o x, [])) ?_ 5 rfl
    rw [qI_N, q_mulI, q_opI (by omega) (by omega), show q_opN 3 s (m * n) = true from congrArg not (decide_eq_false (by omega))]
    refine q_xs (fr := (env, h, 0, 0, 85, q_lv1 m a n b s o x, [(0, 8), (6, 0)])) ?_ 2 rfl
    refine q_xc1 (q_GM_mono q_T (d + 1)) rfl rfl rfl (av := [(6, 0), (0, 8)]) (rest := []) rfl rfl ?_ (Nat.zero_le _) (Nat.zero_le _) (Nat.zero_le _) (q_bR hh) ?_
    · show (Nat.beq 6 6 && Nat.blt 0 h.2 && Nat.beq (h.1.get 0).1 10) = true
      rw [hh.1, hh.2.1]; rfl
    · exact q_xr rfl rfl rfl rfl (Nat.zero_le _) (Nat.zero_le _) rfl
  | succ f ih =>
    intro s x o hs hx ho
    refine q_xs (fr := (env, h, 0, 0, bif q_op 3 (qI s) (qI (qNn (qI m * qI n))) then 82 else 41, q_lv1 m a n b s o x, [])) ?_ 5 rfl
    rw [qI_N, q_mulI, q_opI (by omega) (by omega), show q_opN 3 s (m * n) = false from congrArg not (decide_eq_true (by omega))]
    have common : ¬ (x = m ∧ o = n) → q_GE q_T (q_GM q_T (d + 1)) (q_T 164) false 0 (env, h, 0, 0, 60, q_lv1 m a n b s o x, []) (fun r => r = q_bo env h (q_F m n (f + 1) x o s)) := fun hc => by
      have e : q_F m n (f + 1) x o s = q_F m n f (q_cb x m) (q_cb o n) (s + 1) := if_neg hc
      rw [e]
      refine q_xs (fr := (env, h, 0, 0, 63, q_lv1 m a n b s o x, [(0, m), (0, x)])) ?_ 2 rfl
      refine q_xc1 (q_GM_mono q_T (d + 1)) rfl rfl rfl (av := [(0, x), (0, m)]) (rest := []) rfl rfl rfl (Nat.zero_le _) (Nat.zero_le _) (Nat.zero_le _) (q_bB (by omega) (by omega)) ?_
      refine q_xs (fr := (env, h, 0, 0, 71, [(5, (0, q_cb x m)), (7, (0, s)), (6, (0, o)), (0, (6, 0)), (1, (0, m)), (2, (0, a)), (3, (0, n)), (4, (0, b))], [(0, n), (0, o)])) ?_ 3 rfl
      refine q_xc1 (q_GM_mono q_T (d + 1)) rfl rfl rfl (av := [(0, o), (0, n)]) (rest := []) rfl rfl rfl (Nat.zero_le _) (Nat.zero_le _) (Nat.zero_le _) (q_bB (by omega) (by omega)) ?_
      refine q_xs (fr := (env, h, 0, 0, 33, q_lv1 m a n b (qNn (qI s + qI 1)) (q_cb o n) (q_cb x m), [])) ?_ 3 rfl
      rw [q_addI, q_nI (by omega)]
      exact ih (s + 1) _ _ (by omega) (q_cb_le hm1 hx) (q_cb_le hn1 ho)
    refine q_xs (fr := (env, h, 0, 0, bif q_op 1 (qI x) (qI m) then 60 else 47, q_lv1 m a n b s o x, [])) ?_ 3 rfl
    rw [q_opI (by omega) (by omega)]
    by_cases hxm : x = m
    · rw [show q_opN 1 x m = false from congrArg not (decide_eq_true hxm)]
      refine q_xs (fr := (env, h, 0, 0, bif q_op 1 (qI o) (qI n) then 60 else 53, q_lv1 m a n b s o x, [])) ?_ 3 rfl
      rw [q_opI (by omega) (by omega)]
      by_cases hon : o = n
      · rw [show q_opN 1 o n = false from congrArg not (decide_eq_true hon)]
        have e : q_F m n (f + 1) x o s = some s := if_pos ⟨hxm, hon⟩
        rw [e]
        refine q_xs (fr := (env, h, 0, 0, 56, q_lv1 m a n b s o x, [(0, s), (6, 0)])) ?_ 2 rfl
        refine q_xc1 (q_GM_mono q_T (d + 1)) rfl rfl rfl (av := [(6, 0), (0, s)]) (rest := []) rfl rfl ?_ (Nat.zero_le _) (Nat.zero_le _) (Nat.zero_le _) (q_bA hh) ?_
        · show (Nat.beq 6 6 && Nat.blt 0 h.2 && Nat.beq (h.1.get 0).1 10) = true
          rw [hh.1, hh.2.1]; rfl
        · exact q_xr rfl rfl rfl rfl (Nat.zero_le _) (Nat.zero_le _) rfl
      · rw [show q_opN 1 o n = true from congrArg not (decide_eq_false hon)]
        exact common (fun q => hon q.2)
    · rw [show q_opN 1 x m = true from congrArg not (decide_eq_false hxm)]
      exact common (fun q => hxm q.1)
abbrev q_lv2 (m a n b k : Nat) : qL := [(5, (0, k)), (0, (6, 534)), (1, (0, m)), (2, (0, a)), (3, (0, n)), (4, (0, b))]
theorem q_ne0 {u : Nat} (h1 : 1 ≤ u) (h2 : u < 2147483648) : qI u ≠ 0 := nI_ne0 (n := u) h1 h2
theorem q_rl1 {d : Nat} {env : qE} {h : qH} {m a n b : Nat} (hh : q_hh h) (hm1 : 1 ≤ m) (hm : m ≤ 13) (hn1 : 1 ≤ n) (hn : n ≤ 13) (ha : a ≤ 13) (hb : b ≤ 13) : ∀ (f k : Nat), k + f = m * n →
    q_GE q_T (q_GM q_T (d + 1)) (q_T 293) false 0 (env, h, 0, 0, 70, q_lv2 m a n b k, []) (fun r => r = q_ro env h (q_R m a n b f k)) := by
  have hmn := q_mn hm hn
  intro f
  induction f with
  | zero =>
    intro k hs
    refine q_xs (fr := (env, h, 0, 0, bif q_op 3 (qI k) (qI (qNn (qI m * qI n))) then 106 else 78, q_lv2 m a n b k, [])) ?_ 5 rfl
    rw [qI_N, q_mulI, q_opI (by omega) (by omega), show q_opN 3 k (m * n) = true from congrArg not (decide_eq_false (by omega))]
    refine q_xs (fr := (env, h, 0, 0, 109, q_lv2 m a n b k, [(0, 8), (6, 534)])) ?_ 2 rfl
    refine q_xc1 (q_GM_mono q_T (d + 1)) rfl rfl rfl (av := [(6, 534), (0, 8)]) (rest := []) rfl rfl ?_ (Nat.zero_le _) (Nat.zero_le _) (Nat.zero_le _) (q_mR hh) ?_
    · show (Nat.beq 6 6 && Nat.blt 534 h.2 && Nat.beq (h.1.get 534).1 11) = true
      rw [hh.2.2.2.1, hh.2.2.2.2.2.1]; rfl
    · exact q_xr rfl rfl rfl rfl (Nat.zero_le _) (Nat.zero_le _) rfl
  | succ f ih =>
    intro k hs
    refine q_xs (fr := (env, h, 0, 0, bif q_op 3 (qI k) (qI (qNn (qI m * qI n))) then 106 else 78, q_lv2 m a n b k, [])) ?_ 5 rfl
    rw [qI_N, q_mulI, q_opI (by omega) (by omega), show q_opN 3 k (m * n) = false from congrArg not (decide_eq_true (by omega))]
    have common : ¬ ((a + k) % m = 0 ∧ (b + k) % n = 0) → q_GE q_T (q_GM q_T (d + 1)) (q_T 293) false 0 (env, h, 0, 0, 100, q_lv2 m a n b k, []) (fun r => r = q_ro env h (q_R m a n b (f + 1) k)) := fun hc => by
      have e : q_R m a n b (f + 1) k = q_R m a n b f (k + 1) := if_neg hc
      rw [e]
      refine q_xs (fr := (env, h, 0, 0, 70, q_lv2 m a n b (qNn (qI k + qI 1)), [])) ?_ 2 rfl
      rw [q_addI, q_nI (by omega)]
      exact ih (k + 1) (by omega)
    have r1 : (a + k) % m < m := Nat.mod_lt _ hm1
    have r2 : (b + k) % n < n := Nat.mod_lt _ hn1
    refine q_xs (fr := (env, h, 0, 0, 83, q_lv2 m a n b k, [(0, m), (0, qNn (qI a + qI k))])) ?_ 4 rfl
    rw [q_addI, q_nI (by omega)]
    refine q_xd rfl rfl rfl rfl (q_ne0 hm1 (by omega)) ?_
    show q_GE q_T (q_GM q_T (d + 1)) (q_T 293) false 0 (env, h, 0, 0, 84, q_lv2 m a n b k, [(0, qNn (q_f4 9 (qI (a + k)) (qI m)))]) _
    rw [q_remI (a + k) (by omega) m (by omega) hm1]
    refine q_xs (fr := (env, h, 0, 0, bif q_op 1 (qI ((a + k) % m)) (qI 0) then 100 else 87, q_lv2 m a n b k, [])) ?_ 1 rfl
    rw [q_opI (by omega) (by omega)]
    by_cases h1 : (a + k) % m = 0
    · rw [show q_opN 1 ((a + k) % m) 0 = false from congrArg not (decide_eq_true h1)]
      refine q_xs (fr := (env, h, 0, 0, 93, q_lv2 m a n b k, [(0, n), (0, qNn (qI b + qI k))])) ?_ 4 rfl
      rw [q_addI, q_nI (by omega)]
      refine q_xd rfl rfl rfl rfl (q_ne0 hn1 (by omega)) ?_
      show q_GE q_T (q_GM q_T (d + 1)) (q_T 293) false 0 (env, h, 0, 0, 94, q_lv2 m a n b k, [(0, qNn (q_f4 9 (qI (b + k)) (qI n)))]) _
      rw [q_remI (b + k) (by omega) n (by omega) hn1]
      refine q_xs (fr := (env, h, 0, 0, bif q_op 1 (qI ((b + k) % n)) (qI 0) then 100 else 97, q_lv2 m a n b k, [])) ?_ 1 rfl
      rw [q_opI (by omega) (by omega)]
      by_cases h2 : (b + k) % n = 0
      · rw [show q_opN 1 ((b + k) % n) 0 = false from congrArg not (decide_eq_true h2)]
        have e : q_R m a n b (f + 1) k = some k := if_pos ⟨h1, h2⟩
        rw [e]
        refine q_xs (fr := (env, h, 0, 0, 99, q_lv2 m a n b k, [(0, k)])) ?_ 1 rfl
        exact q_xr rfl rfl rfl rfl (Nat.zero_le _) (Nat.zero_le _) rfl
      · rw [show q_opN 1 ((b + k) % n) 0 = true from congrArg not (decide_eq_false h2)]
        exact common (fun q => h2 q.2)
    · rw [show q_opN 1 ((a + k) % m) 0 = true from congrArg not (decide_eq_false h1)]
      exact common (fun q => h1 q.1)
