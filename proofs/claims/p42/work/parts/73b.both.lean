-- 73b.both: the two loops of 'both' come to one answer
section
variable {tab : Nat → qM} {call : q_call} {M : qM} {scr : Bool} {L : Nat} {env : qE} {h : qH} {k sl pc : Nat} {lv : qL} {stk : List qV} {P : qO → Prop}
/-- a call with one end -/
theorem q_xc1 {e : qN} {av rest : List qV} {o1 : qO} (hc : q_cMono call) (he : (q_mI M).get pc = e) (hpc : q_pc e = pc) (h23 : e.1 = 23) (hst : stk = av.reverse ++ rest) (hlen : av.length = (if q_mK (tab (q_w e)) = 0 then q_mA (tab (q_w e)) else q_mA (tab (q_w e)) + 1)) (hrcv : q_rcv (q_mK (tab (q_w e))) (q_mC (tab (q_w e))) h av = true) (h8 : (rest.map q_cat).sum ≤ 8) (c1 : k + q_mc (tab (q_w e)) ≤ q_mc M) (c2 : sl + q_ms (tab (q_w e)) ≤ q_ms M)
    (hcall : call (q_w e) env h av (fun o => o = o1)) (hn : q_GE tab call M scr L (o1.1, o1.2.1, k + q_mc (tab (q_w e)), sl + q_ms (tab (q_w e)), pc + 3, lv, o1.2.2.toList ++ rest) P) : q_GE tab call M scr L (env, h, k, sl, pc, lv, stk) P := by
  obtain ⟨n, hn⟩ := hn
  exact q_xc hc he hpc h23 hst hlen hrcv h8 c1 c2 hcall (fun o ho => by rw [ho]; exact hn)
/-- putfield -/
theorem q_xp {e : qN} {y : qV} {cc : Nat} {rest : List qV} (he : (q_mI M).get pc = e) (hpc : q_pc e = pc) (h15 : e.1 = 15) (hst : stk = y :: (6, cc) :: rest) (hc : Nat.blt cc h.2 = true) (hk : (h.1.get cc).1 = q_v e) (hl : Nat.blt (q_b e) (h.1.get cc).2.1 = true) (hf : q_fit ((q_t e).getD 0 9) y = true) (ht : Nat.blt 0 (q_t e).length = true)
    (hn : q_GE tab call M scr L (env, q_put h cc (q_b e) y, k, sl, pc + 3, lv, rest) P) : q_GE tab call M scr L (env, h, k, sl, pc, lv, stk) P := by
  refine q_x1 ?_ hn
  unfold q_a1S
  rw [he]
  obtain ⟨op, p, v, a, b, w, t⟩ := e
  have h15 : op = 15 := h15
  have hpc : p = pc := hpc
  subst h15; subst hpc; subst hst
  have e1 : Nat.beq p p = true := Nat.beq_refl p
  have hk : Nat.beq (h.1.get cc).1 v = true := by rw [hk]; exact Nat.beq_refl _
  show (bif Nat.beq p p && true && true then q_s15S (15, p, v, a, b, w, t) env h k sl lv (y :: (6, cc) :: rest) else none) = _
  rw [e1]
  show (bif Nat.beq 6 6 && Nat.blt cc h.2 && Nat.beq (h.1.get cc).1 v && Nat.blt b (h.1.get cc).2.1 && q_fit (t.getD 0 9) y && Nat.blt 0 t.length then q_ghS env (q_put h cc b y) k sl (p + 3) lv rest else none) = _
  have hl : Nat.blt b (h.1.get cc).2.1 = true := hl
  have hf : q_fit (t.getD 0 9) y = true := hf
  have ht : Nat.blt 0 t.length = true := ht
  rw [hc, hk, hl, hf, ht]
  rfl
end
theorem q_opN_sh (c o u v : Nat) : q_opN o (u + c) (v + c) = q_opN o u v := by
  rcases o with _ | _ | _ | _ | _ | o
  · exact decide_eq_decide.mpr (by omega)
  · exact congrArg not (decide_eq_decide.mpr (by omega))
  · exact decide_eq_decide.mpr (by omega)
  · exact congrArg not (decide_eq_decide.mpr (by omega))
  · exact decide_eq_decide.mpr (by omega)
  · exact congrArg not (decide_eq_decide.mpr (by omega))
theorem q_opI {o u v : Nat} (hu : u < 2147483648) (hv : v < 2147483648) : q_op o (qI u) (qI v) = q_opN o u v := by
  have b1 := qB_int (qI u)
  have b2 := qB_int (qI v)
  have t1 : (qI u).toInt = (u : Int) := nI_toInt (n := u) hu
  have t2 : (qI v).toInt = (v : Int) := nI_toInt (n := v) hv
  rw [q_op_N]
  have e1 : qB (qI u) = u + 2147483648 := by omega
  have e2 : qB (qI v) = v + 2147483648 := by omega
  rw [e1, e2]
  exact q_opN_sh _ _ _ _
theorem q_nIb {u : Nat} (hu : u < 4294967296) : qNn (qI u) = u := by
  show (BitVec.ofNat 32 u).toNat = u
  rw [BitVec.toNat_ofNat]
  exact Nat.mod_eq_of_lt hu
theorem q_addIb (u v : Nat) : qI u + qI v = qI (u + v) := (Int32.ofNat_add u v).symm
theorem q_mulI (u v : Nat) : qI u * qI v = qI (u * v) := (Int32.ofNat_mul u v).symm
theorem q_remI : ∀ u, u < 200 → ∀ v, v < 14 → 0 < v → qNn (q_f4 9 (qI u) (qI v)) = u % v := by decide +kernel
theorem q_lc1 : ∀ u, u < 14 → ∀ v, v < 14 → q_op 2 (qI (qNn (lg_cmp (qJ u) (qJ v)))) (qI 0) = decide (u < v) := by decide +kernel
theorem q_lc2 : ∀ u, u < 14 → ∀ v, v < 14 → q_op 4 (qI (qNn (lg_cmp (qJ u) (qJ v)))) (qI 0) = decide (v < u) := by decide +kernel
theorem q_i2l : ∀ u, u < 14 → qMn (qI u).toInt64 = u := by decide +kernel
theorem q_bW {d : Nat} {env : qE} {h : qH} {x y z : Nat} (h1 : y ≤ x) (h2 : x ≤ z) (hz : z < 2147483648) : q_GM q_T (d + 1) 119 env h [(0, x), (0, y), (0, z)] (fun o => o = (env, h, some (0, 1))) := by
  refine ⟨Nat.le_of_ble_eq_true rfl, ?_⟩
  show q_GE q_T (q_GM q_T d) (q_T 119) false 0 (env, h, 0, 0, 0, [(0, (0, x)), (1, (0, y)), (2, (0, z))], []) _
  refine q_xs (fr := (env, h, 0, 0, bif q_op 2 (qI x) (qI y) then 14 else 5, [(0, (0, x)), (1, (0, y)), (2, (0, z))], [])) ?_ 3 rfl
  rw [q_opI (by omega) (by omega), show q_opN 2 x y = false from decide_eq_false (by omega)]
  refine q_xs (fr := (env, h, 0, 0, bif q_op 4 (qI x) (qI z) then 14 else 10, [(0, (0, x)), (1, (0, y)), (2, (0, z))], [])) ?_ 3 rfl
  rw [q_opI (by omega) (by omega), show q_opN 4 x z = false from decide_eq_false (by omega)]
  refine q_xs (fr := (env, h, 0, 0, 15, [(0, (0, x)), (1, (0, y)), (2, (0, z))], [(0, 1)])) ?_ 2 rfl
  exact q_xr rfl rfl rfl rfl (Nat.zero_le _) (Nat.zero_le _) rfl
theorem q_bC {d : Nat} {env : qE} {h : qH} {m a : Nat} (h1 : 2 ≤ m) (h2 : m ≤ 13) (h3 : 1 ≤ a) (h4 : a ≤ m) : q_GM q_T (d + 2) 162 env h [(0, m), (0, a)] (fun o => o = (env, h, some (0, 1))) := by
  refine ⟨Nat.le_of_ble_eq_true rfl, ?_⟩
  show q_GE q_T (q_GM q_T (d + 1)) (q_T 162) false 0 (env, h, 0, 0, 0, [(0, (0, m)), (1, (0, a))], []) _
  refine q_xs (fr := (env, h, 0, 0, 4, [(0, (0, m)), (1, (0, a))], [(0, 13), (0, 2), (0, m)])) ?_ 3 rfl
  refine q_xc1 (q_GM_mono q_T (d + 1)) rfl rfl rfl (av := [(0, m), (0, 2), (0, 13)]) (rest := []) rfl rfl rfl (Nat.zero_le _) (Nat.zero_le _) (Nat.zero_le _) (q_bW h1 h2 (by decide)) ?_
  refine q_xs (fr := (env, h, 0, 0, 13, [(0, (0, m)), (1, (0, a))], [(0, m), (0, 1), (0, a)])) ?_ 4 rfl
  refine q_xc1 (q_GM_mono q_T (d + 1)) rfl rfl rfl (av := [(0, a), (0, 1), (0, m)]) (rest := []) rfl rfl rfl (Nat.zero_le _) (Nat.zero_le _) (Nat.zero_le _) (q_bW h3 h4 (by omega)) ?_
  refine q_xs (fr := (env, h, 0, 0, 24, [(0, (0, m)), (1, (0, a))], [(0, 1)])) ?_ 3 rfl
  exact q_xr rfl rfl rfl rfl (Nat.zero_le _) (Nat.zero_le _) rfl
def q_cb (c m : Nat) : Nat := if m ≤ c then 1 else c + 1
theorem q_bB {d : Nat} {env : qE} {h : qH} {c m : Nat} (hc : c < 1000) (hm : m < 1000) : q_GM q_T (d + 1) 163 env h [(0, c), (0, m)] (fun o => o = (env, h, some (0, q_cb c m))) := by
  refine ⟨Nat.le_of_ble_eq_true rfl, ?_⟩
  show q_GE q_T (q_GM q_T d) (q_T 163) false 0 (env, h, 0, 0, 0, [(0, (0, c)), (1, (0, m))], []) _
  refine q_xs (fr := (env, h, 0, 0, bif q_op 2 (qI c) (qI m) then 9 else 5, [(0, (0, c)), (1, (0, m))], [])) ?_ 3 rfl
  rw [q_opI (by omega) (by omega)]
  unfold q_cb
  by_cases hcm : m ≤ c
  · rw [show q_opN 2 c m = false from decide_eq_false (by omega), if_pos hcm]
    refine q_xs (fr := (env, h, 0, 0, 12, [(0, (0, c)), (1, (0, m))], [(0, 1)])) ?_ 2 rfl
    exact q_xr rfl rfl rfl rfl (Nat.zero_le _) (Nat.zero_le _) rfl
  · rw [show q_opN 2 c m = true from decide_eq_true (by omega), if_neg hcm]
    refine q_xs (fr := (env, h, 0, 0, 12, [(0, (0, c)), (1, (0, m))], [(0, qNn (qI c + qI 1))])) ?_ 3 rfl
    rw [q_addIb, q_nIb (by omega)]
    exact q_xr rfl rfl rfl rfl (Nat.zero_le _) (Nat.zero_le _) rfl
/-- a heap with the class's object at 0 and the reference at 534 -/
def q_hh (h : qH) : Prop := Nat.blt 0 h.2 = true ∧ (h.1.get 0).1 = 10 ∧ (h.1.get 0).2.1 = 19 ∧ Nat.blt 534 h.2 = true ∧ h.2 ≤ 1024 ∧ (h.1.get 534).1 = 11 ∧ (h.1.get 534).2.1 = 53
theorem q_hh.put {h : qH} {c j : Nat} {x : qV} (hc : c = 0 ∨ c = 534) (hh : q_hh h) : q_hh (q_put h c j x) := by
  obtain ⟨h1, h2, h3, h4, h5, h6, h7⟩ := hh
  have g1 : (q_put h c j x).2 = h.2 := rfl
  have g2 : ∀ i, i < 1024 → ((q_put h c j x).1.get i).1 = (h.1.get i).1 ∧ ((q_put h c j x).1.get i).2.1 = (h.1.get i).2.1 := fun i hi => by
    show ((q_ts ((h.1.get c).1, (h.1.get c).2.1, q_ts x j (h.1.get c).2.2 0 (h.1.get c).2.1) c h.1 0 1024).get i).1 = _ ∧ ((q_ts ((h.1.get c).1, (h.1.get c).2.1, q_ts x j (h.1.get c).2.2 0 (h.1.get c).2.1) c h.1 0 1024).get i).2.1 = _
    rw [q_ts_get _ c h.1 0 1024 i (Nat.zero_le _) (by omega) (Nat.zero_le _) hi]
    by_cases e : i = c
    · rw [if_pos e, e]
      exact ⟨rfl, rfl⟩
    · rw [if_neg e]
      exact ⟨rfl, rfl⟩
  exact ⟨by rw [g1]; exact h1, (g2 0 (by omega)).1.trans h2, (g2 0 (by omega)).2.trans h3, by rw [g1]; exact h4, by rw [g1]; exact h5, (g2 534 (by omega)).1.trans h6, (g2 534 (by omega)).2.trans h7⟩
theorem q_bA {d : Nat} {env : qE} {h : qH} {s : Nat} (hh : q_hh h) : q_GM q_T (d + 1) 113 env h [(6, 0), (0, s)] (fun o => o = (env, q_put h 0 0 (0, 0), some (0, s))) := by
  refine ⟨Nat.le_of_ble_eq_true rfl, ?_⟩
  show q_GE q_T (q_GM q_T d) (q_T 113) false 0 (env, h, 0, 0, 0, [(0, (6, 0)), (1, (0, s))], []) _
  refine q_xs (fr := (env, h, 0, 0, 2, [(0, (6, 0)), (1, (0, s))], [(0, 0), (6, 0)])) ?_ 2 rfl
  refine q_xp (y := (0, 0)) (cc := 0) (rest := []) rfl rfl rfl rfl hh.1 hh.2.1 (by rw [hh.2.2.1]; rfl) rfl rfl ?_
  refine q_xs (fr := (env, q_put h 0 0 (0, 0), 0, 0, 6, [(0, (6, 0)), (1, (0, s))], [(0, s)])) ?_ 1 rfl
  exact q_xr rfl rfl rfl rfl (Nat.zero_le _) (Nat.zero_le _) rfl
theorem q_bR {d : Nat} {env : qE} {h : qH} (hh : q_hh h) : q_GM q_T (d + 1) 114 env h [(6, 0), (0, 8)] (fun o => o = (env, q_put h 0 0 (0, 8), some (0, 4294967295))) := by
  refine ⟨Nat.le_of_ble_eq_true rfl, ?_⟩
  show q_GE q_T (q_GM q_T d) (q_T 114) false 0 (env, h, 0, 0, 0, [(0, (6, 0)), (1, (0, 8))], []) _
  refine q_xs (fr := (env, h, 0, 0, 2, [(0, (6, 0)), (1, (0, 8))], [(0, 8), (6, 0)])) ?_ 2 rfl
  refine q_xp (y := (0, 8)) (cc := 0) (rest := []) rfl rfl rfl rfl hh.1 hh.2.1 (by rw [hh.2.2.1]; rfl) rfl rfl ?_
  refine q_xs (fr := (env, q_put h 0 0 (0, 8), 0, 0, 6, [(0, (6, 0)), (1, (0, 8))], [(0, 4294967295)])) ?_ 1 rfl
  exact q_xr rfl rfl rfl rfl (Nat.zero_le _) (Nat.zero_le _) rfl
theorem q_mR {d : Nat} {env : qE} {h : qH} (hh : q_hh h) : q_GM q_T (d + 1) 181 env h [(6, 534), (0, 8)] (fun o => o = (env, q_put h 534 0 (0, 8), some (0, 4294967295))) := by
  refine ⟨Nat.le_of_ble_eq_true rfl, ?_⟩
  show q_GE q_T (q_GM q_T d) (q_T 181) false 0 (env, h, 0, 0, 0, [(0, (6, 534)), (1, (0, 8))], []) _
  refine q_xs (fr := (env, h, 0, 0, 2, [(0, (6, 534)), (1, (0, 8))], [(0, 8), (6, 534)])) ?_ 2 rfl
  refine q_xp (y := (0, 8)) (cc := 534) (rest := []) rfl rfl rfl rfl hh.2.2.2.1 hh.2.2.2.2.2.1 (by rw [hh.2.2.2.2.2.2]; rfl) rfl rfl ?_
  refine q_xs (fr := (env, q_put h 534 0 (0, 8), 0, 0, 6, [(0, (6, 534)), (1, (0, 8))], [(0, 4294967295)])) ?_ 1 rfl
  exact q_xr rfl rfl rfl rfl (Nat.zero_le _) (Nat.zero_le _) rfl
theorem q_mI1 {d : Nat} {env : qE} {h : qH} {x y z : Nat} (h1 : y ≤ x) (h2 : x ≤ z) (hz : z < 14) : q_GM q_T (d + 1) 183 env h [(3, x), (3, y), (3, z)] (fun o => o = (env, h, some (0, 1))) := by
  refine ⟨Nat.le_of_ble_eq_true rfl, ?_⟩
  show q_GE q_T (q_GM q_T d) (q_T 183) false 0 (env, h, 0, 0, 0, [(0, (3, x)), (2, (3, y)), (4, (3, z))], []) _
  refine q_xs (fr := (env, h, 0, 0, bif q_op 2 (qI (qNn (lg_cmp (qJ x) (qJ y)))) (qI 0) then 17 else 6, [(0, (3, x)), (2, (3, y)), (4, (3, z))], [])) ?_ 4 rfl
  rw [q_lc1 x (by omega) y (by omega), show decide (x < y) = false from decide_eq_false (by omega)]
  refine q_xs (fr := (env, h, 0, 0, bif q_op 4 (qI (qNn (lg_cmp (qJ x) (qJ z)))) (qI 0) then 17 else 13, [(0, (3, x)), (2, (3, y)), (4, (3, z))], [])) ?_ 4 rfl
  rw [q_lc2 x (by omega) z (by omega), show decide (z < x) = false from decide_eq_false (by omega)]
  refine q_xs (fr := (env, h, 0, 0, 18, [(0, (3, x)), (2, (3, y)), (4, (3, z))], [(0, 1)])) ?_ 2 rfl
  exact q_xr rfl rfl rfl rfl (Nat.zero_le _) (Nat.zero_le _) rfl
section
variable {tab : Nat → qM} {call : q_call} {M : qM} {scr : Bool} {L : Nat} {env : qE} {h : qH} {k sl pc : Nat} {lv : qL} {stk : List qV} {P : qO → Prop}
/-- idiv, irem by a number that is not 0 -/
theorem q_xd {e : qN} {x y : Nat} {rest : List qV} (he : (q_mI M).get pc = e) (hpc : q_pc e = pc) (h4 : e.1 = 4) (hst : stk = (0, y) :: (0, x) :: rest) (hy : qI y ≠ 0) (hn : q_GE tab call M scr L (env, h, k, sl, pc + 1, lv, (0, qNn (q_f4 (q_v e) (qI x) (qI y))) :: rest) P) : q_GE tab call M scr L (env, h, k, sl, pc, lv, stk) P := by
  refine q_x1 ?_ hn
  unfold q_a1S
  rw [he]
  obtain ⟨op, p, v, a, b, w, t⟩ := e
  have h4 : op = 4 := h4
  have hpc : p = pc := hpc
  subst h4; subst hpc; subst hst
  have e1 : Nat.beq p p = true := Nat.beq_refl p
  show (bif Nat.beq p p && true && true then q_s4S (4, p, v, a, b, w, t) env h k sl lv ((0, y) :: (0, x) :: rest) else none) = _
  rw [e1]
  show (bif Nat.ble 8 v && decide (qI y = 0) then none else q_gvS env h k sl (p + 1) lv 0 (qNn (q_f4 v (qI x) (qI y))) rest) = _
  rw [decide_eq_false hy, Bool.and_false]
  rfl
end
def q_F (m n : Nat) : Nat → Nat → Nat → Nat → Option Nat
  | 0, _, _, _ => none
  | f + 1, x, o, s => if x = m ∧ o = n then some s else q_F m n f (q_cb x m) (q_cb o n) (s + 1)
def q_R (m a n b : Nat) : Nat → Nat → Option Nat
  | 0, _ => none
  | f + 1, k => if (a + k) % m = 0 ∧ (b + k) % n = 0 then some k else q_R m a n b f (k + 1)
theorem q_cb_ok {x m u : Nat} (hm : 1 ≤ m) (h1 : 1 ≤ x) (h2 : x ≤ m) (h3 : x % m = u % m) : 1 ≤ q_cb x m ∧ q_cb x m ≤ m ∧ q_cb x m % m = (u + 1) % m := by
  unfold q_cb
  by_cases hx : m ≤ x
  · rw [if_pos hx]
    have e : x = m := by omega
    subst e
    rw [Nat.mod_self] at h3
    refine ⟨Nat.le_refl 1, hm, ?_⟩
    rw [Nat.add_mod, ← h3, Nat.zero_add, Nat.mod_mod]
  · rw [if_neg hx]
    refine ⟨by omega, by omega, ?_⟩
    rw [Nat.add_mod, h3, ← Nat.add_mod]
theorem q_FR {m a n b : Nat} (hm : 1 ≤ m) (hn : 1 ≤ n) : ∀ (f k x o : Nat), 1 ≤ x → x ≤ m → x % m = (a + k) % m → 1 ≤ o → o ≤ n → o % n = (b + k) % n → q_F m n f x o k = q_R m a n b f k
  | 0, _, _, _, _, _, _, _, _, _ => rfl
  | f + 1, k, x, o, x1, x2, x3, o1, o2, o3 => by
    obtain ⟨g1, g2, g3⟩ := q_cb_ok hm x1 x2 x3
    obtain ⟨g4, g5, g6⟩ := q_cb_ok hn o1 o2 o3
    have ih := q_FR (a := a) (b := b) hm hn f (k + 1) _ _ g1 g2 g3 g4 g5 g6
    have ex : x = m ↔ (a + k) % m = 0 := by
      rw [← x3]
      constructor
      · intro e; rw [e]; exact Nat.mod_self m
      · intro e
        by_cases hx : x = m
        · exact hx
        · rw [Nat.mod_eq_of_lt (by omega)] at e
          omega
    have eo : o = n ↔ (b + k) % n = 0 := by
      rw [← o3]
      constructor
      · intro e; rw [e]; exact Nat.mod_self n
      · intro e
        by_cases hx : o = n
        · exact hx
        · rw [Nat.mod_eq_of_lt (by omega)] at e
          omega
    show (if x = m ∧ o = n then some k else q_F m n f (q_cb x m) (q_cb o n) (k + 1)) = (if (a + k) % m = 0 ∧ (b + k) % n = 0 then some k else q_R m a n b f (k + 1))
    rw [ih]
    by_cases hc : x = m ∧ o = n
    · rw [if_pos hc, if_pos ⟨ex.mp hc.1, eo.mp hc.2⟩]
    · rw [if_neg hc, if_neg (fun q => hc ⟨ex.mpr q.1, eo.mpr q.2⟩)]
noncomputable def q_bo (env : qE) (h : qH) (r : Option Nat) : qO := match r with
  | some r => (env, q_put h 0 0 (0, 0), some (0, r))
  | none => (env, q_put h 0 0 (0, 8), some (0, 4294967295))
noncomputable def q_ro (env : qE) (h : qH) (r : Option Nat) : qO := match r with
  | some r => (env, h, some (0, r))
  | none => (env, q_put h 534 0 (0, 8), some (0, 4294967295))
abbrev q_lv1 (m a n b s o x : Nat) : qL := [(7, (0, s)), (6, (0, o)), (5, (0, x)), (0, (6, 0)), (1, (0, m)), (2, (0, a)), (3, (0, n)), (4, (0, b))]
theorem q_cb_le {x m : Nat} (hm : 1 ≤ m) (h : x ≤ m) : q_cb x m ≤ m := by
  unfold q_cb
  by_cases hx : m ≤ x
  · rw [if_pos hx]; exact hm
  · rw [if_neg hx]; omega
theorem q_mn {m n : Nat} (hm : m ≤ 13) (hn : n ≤ 13) : m * n ≤ 169 := Nat.le_trans (Nat.mul_le_mul hm hn) (by decide)
theorem q_cl1 {d : Nat} {env : qE} {h : qH} {m a n b : Nat} (hh : q_hh h) (hm1 : 1 ≤ m) (hm : m ≤ 13) (hn1 : 1 ≤ n) (hn : n ≤ 13) : ∀ (f s x o : Nat), s + f = m * n → x ≤ m → o ≤ n →
    q_GE q_T (q_GM q_T (d + 1)) (q_T 164) false 0 (env, h, 0, 0, 33, q_lv1 m a n b s o x, []) (fun r => r = q_bo env h (q_F m n f x o s)) := by
  have hmn := q_mn hm hn
  intro f
  induction f with
  | zero =>
    intro s x o hs hx ho
    refine q_xs (fr := (env, h, 0, 0, bif q_op 3 (qI s) (qI (qNn (qI m * qI n))) then 82 else 41, q_lv1 m a n b s o x, [])) ?_ 5 rfl
    rw [qI_N, q_mulI, q_opI (by omega) (by omega), show q_opN 3 s (m * n) = true from congrArg not (decide_eq_false (by omega))]
    refine q_xs (fr := (env, h, 0, 0, 85, q_lv1 m a n b s o x, [(0, 8), (6, 0)])) ?_ 2 rfl
    refine q_xc1 (q_GM_mono q_T (d + 1)) rfl rfl rfl (av := [(6, 0), (0, 8)]) (rest := []) rfl rfl ?_ (Nat.zero_le _) (Nat.zero_le _) (Nat.zero_le _) (q_bR hh) ?_
    · show (Nat.beq 6 6 && Nat.blt 0 h.2 && Nat.beq (h.1.get 0).1 10) = true
      rw [hh.1, hh.2.1]; rfl
    · exact q_xr rfl rfl rfl rfl (Nat.zero_le _) (Nat.zero_le _) rfl
  | succ f ih =>
    intro s x o hs hx ho
    refine q_xs (fr := (env, h, 0, 0, bif q_op 3 (qI s) (qI (qNn (qI m * qI n))) then 82 else 41, q_lv1 m a n b s o x, [])) ?_ 5 rfl
    rw [qI_N, q_mulI, q_opI (by omega) (by omega), show q_opN 3 s (m * n) = false from congrArg not (decide_eq_true (by omega))]
    have common : ¬ (x = m ∧ o = n) → q_GE q_T (q_GM q_T (d + 1)) (q_T 164) false 0 (env, h, 0, 0, 60, q_lv1 m a n b s o x, []) (fun r => r = q_bo env h (q_F m n (f + 1) x o s)) := fun hc => by
      have e : q_F m n (f + 1) x o s = q_F m n f (q_cb x m) (q_cb o n) (s + 1) := if_neg hc
      rw [e]
      refine q_xs (fr := (env, h, 0, 0, 63, q_lv1 m a n b s o x, [(0, m), (0, x)])) ?_ 2 rfl
      refine q_xc1 (q_GM_mono q_T (d + 1)) rfl rfl rfl (av := [(0, x), (0, m)]) (rest := []) rfl rfl rfl (Nat.zero_le _) (Nat.zero_le _) (Nat.zero_le _) (q_bB (by omega) (by omega)) ?_
      refine q_xs (fr := (env, h, 0, 0, 71, [(5, (0, q_cb x m)), (7, (0, s)), (6, (0, o)), (0, (6, 0)), (1, (0, m)), (2, (0, a)), (3, (0, n)), (4, (0, b))], [(0, n), (0, o)])) ?_ 3 rfl
      refine q_xc1 (q_GM_mono q_T (d + 1)) rfl rfl rfl (av := [(0, o), (0, n)]) (rest := []) rfl rfl rfl (Nat.zero_le _) (Nat.zero_le _) (Nat.zero_le _) (q_bB (by omega) (by omega)) ?_
      refine q_xs (fr := (env, h, 0, 0, 33, q_lv1 m a n b (qNn (qI s + qI 1)) (q_cb o n) (q_cb x m), [])) ?_ 3 rfl
      rw [q_addIb, q_nIb (by omega)]
      exact ih (s + 1) _ _ (by omega) (q_cb_le hm1 hx) (q_cb_le hn1 ho)
    refine q_xs (fr := (env, h, 0, 0, bif q_op 1 (qI x) (qI m) then 60 else 47, q_lv1 m a n b s o x, [])) ?_ 3 rfl
    rw [q_opI (by omega) (by omega)]
    by_cases hxm : x = m
    · rw [show q_opN 1 x m = false from congrArg not (decide_eq_true hxm)]
      refine q_xs (fr := (env, h, 0, 0, bif q_op 1 (qI o) (qI n) then 60 else 53, q_lv1 m a n b s o x, [])) ?_ 3 rfl
      rw [q_opI (by omega) (by omega)]
      by_cases hon : o = n
      · rw [show q_opN 1 o n = false from congrArg not (decide_eq_true hon)]
        have e : q_F m n (f + 1) x o s = some s := if_pos ⟨hxm, hon⟩
        rw [e]
        refine q_xs (fr := (env, h, 0, 0, 56, q_lv1 m a n b s o x, [(0, s), (6, 0)])) ?_ 2 rfl
        refine q_xc1 (q_GM_mono q_T (d + 1)) rfl rfl rfl (av := [(6, 0), (0, s)]) (rest := []) rfl rfl ?_ (Nat.zero_le _) (Nat.zero_le _) (Nat.zero_le _) (q_bA hh) ?_
        · show (Nat.beq 6 6 && Nat.blt 0 h.2 && Nat.beq (h.1.get 0).1 10) = true
          rw [hh.1, hh.2.1]; rfl
        · exact q_xr rfl rfl rfl rfl (Nat.zero_le _) (Nat.zero_le _) rfl
      · rw [show q_opN 1 o n = true from congrArg not (decide_eq_false hon)]
        exact common (fun q => hon q.2)
    · rw [show q_opN 1 x m = true from congrArg not (decide_eq_false hxm)]
      exact common (fun q => hxm q.1)
abbrev q_lv2b (m a n b k : Nat) : qL := [(5, (0, k)), (0, (6, 534)), (1, (0, m)), (2, (0, a)), (3, (0, n)), (4, (0, b))]
theorem q_ne0 {u : Nat} (h1 : 1 ≤ u) (h2 : u < 2147483648) : qI u ≠ 0 := nI_ne0 (n := u) h1 h2
theorem q_rl1 {d : Nat} {env : qE} {h : qH} {m a n b : Nat} (hh : q_hh h) (hm1 : 1 ≤ m) (hm : m ≤ 13) (hn1 : 1 ≤ n) (hn : n ≤ 13) (ha : a ≤ 13) (hb : b ≤ 13) : ∀ (f k : Nat), k + f = m * n →
    q_GE q_T (q_GM q_T (d + 1)) (q_T 293) false 0 (env, h, 0, 0, 70, q_lv2b m a n b k, []) (fun r => r = q_ro env h (q_R m a n b f k)) := by
  have hmn := q_mn hm hn
  intro f
  induction f with
  | zero =>
    intro k hs
    refine q_xs (fr := (env, h, 0, 0, bif q_op 3 (qI k) (qI (qNn (qI m * qI n))) then 106 else 78, q_lv2b m a n b k, [])) ?_ 5 rfl
    rw [qI_N, q_mulI, q_opI (by omega) (by omega), show q_opN 3 k (m * n) = true from congrArg not (decide_eq_false (by omega))]
    refine q_xs (fr := (env, h, 0, 0, 109, q_lv2b m a n b k, [(0, 8), (6, 534)])) ?_ 2 rfl
    refine q_xc1 (q_GM_mono q_T (d + 1)) rfl rfl rfl (av := [(6, 534), (0, 8)]) (rest := []) rfl rfl ?_ (Nat.zero_le _) (Nat.zero_le _) (Nat.zero_le _) (q_mR hh) ?_
    · show (Nat.beq 6 6 && Nat.blt 534 h.2 && Nat.beq (h.1.get 534).1 11) = true
      rw [hh.2.2.2.1, hh.2.2.2.2.2.1]; rfl
    · exact q_xr rfl rfl rfl rfl (Nat.zero_le _) (Nat.zero_le _) rfl
  | succ f ih =>
    intro k hs
    refine q_xs (fr := (env, h, 0, 0, bif q_op 3 (qI k) (qI (qNn (qI m * qI n))) then 106 else 78, q_lv2b m a n b k, [])) ?_ 5 rfl
    rw [qI_N, q_mulI, q_opI (by omega) (by omega), show q_opN 3 k (m * n) = false from congrArg not (decide_eq_true (by omega))]
    have common : ¬ ((a + k) % m = 0 ∧ (b + k) % n = 0) → q_GE q_T (q_GM q_T (d + 1)) (q_T 293) false 0 (env, h, 0, 0, 100, q_lv2b m a n b k, []) (fun r => r = q_ro env h (q_R m a n b (f + 1) k)) := fun hc => by
      have e : q_R m a n b (f + 1) k = q_R m a n b f (k + 1) := if_neg hc
      rw [e]
      refine q_xs (fr := (env, h, 0, 0, 70, q_lv2b m a n b (qNn (qI k + qI 1)), [])) ?_ 2 rfl
      rw [q_addIb, q_nIb (by omega)]
      exact ih (k + 1) (by omega)
    have r1 : (a + k) % m < m := Nat.mod_lt _ hm1
    have r2 : (b + k) % n < n := Nat.mod_lt _ hn1
    refine q_xs (fr := (env, h, 0, 0, 83, q_lv2b m a n b k, [(0, m), (0, qNn (qI a + qI k))])) ?_ 4 rfl
    rw [q_addIb, q_nIb (by omega)]
    refine q_xd rfl rfl rfl rfl (q_ne0 hm1 (by omega)) ?_
    show q_GE q_T (q_GM q_T (d + 1)) (q_T 293) false 0 (env, h, 0, 0, 84, q_lv2b m a n b k, [(0, qNn (q_f4 9 (qI (a + k)) (qI m)))]) _
    rw [q_remI (a + k) (by omega) m (by omega) hm1]
    refine q_xs (fr := (env, h, 0, 0, bif q_op 1 (qI ((a + k) % m)) (qI 0) then 100 else 87, q_lv2b m a n b k, [])) ?_ 1 rfl
    rw [q_opI (by omega) (by omega)]
    by_cases h1 : (a + k) % m = 0
    · rw [show q_opN 1 ((a + k) % m) 0 = false from congrArg not (decide_eq_true h1)]
      refine q_xs (fr := (env, h, 0, 0, 93, q_lv2b m a n b k, [(0, n), (0, qNn (qI b + qI k))])) ?_ 4 rfl
      rw [q_addIb, q_nIb (by omega)]
      refine q_xd rfl rfl rfl rfl (q_ne0 hn1 (by omega)) ?_
      show q_GE q_T (q_GM q_T (d + 1)) (q_T 293) false 0 (env, h, 0, 0, 94, q_lv2b m a n b k, [(0, qNn (q_f4 9 (qI (b + k)) (qI n)))]) _
      rw [q_remI (b + k) (by omega) n (by omega) hn1]
      refine q_xs (fr := (env, h, 0, 0, bif q_op 1 (qI ((b + k) % n)) (qI 0) then 100 else 97, q_lv2b m a n b k, [])) ?_ 1 rfl
      rw [q_opI (by omega) (by omega)]
      by_cases h2 : (b + k) % n = 0
      · rw [show q_opN 1 ((b + k) % n) 0 = false from congrArg not (decide_eq_true h2)]
        have e : q_R m a n b (f + 1) k = some k := if_pos ⟨h1, h2⟩
        rw [e]
        refine q_xs (fr := (env, h, 0, 0, 99, q_lv2b m a n b k, [(0, k)])) ?_ 1 rfl
        exact q_xr rfl rfl rfl rfl (Nat.zero_le _) (Nat.zero_le _) rfl
      · rw [show q_opN 1 ((b + k) % n) 0 = true from congrArg not (decide_eq_false h2)]
        exact common (fun q => h2 q.2)
    · rw [show q_opN 1 ((a + k) % m) 0 = true from congrArg not (decide_eq_false h1)]
      exact common (fun q => h1 q.1)
theorem q_bK {d : Nat} {env : qE} {h : qH} {m a n b : Nat} (hh : q_hh h) (hm1 : 2 ≤ m) (hm : m ≤ 13) (hn1 : 2 ≤ n) (hn : n ≤ 13) (ha1 : 1 ≤ a) (ha : a ≤ m) (hb1 : 1 ≤ b) (hb : b ≤ n) :
    q_GM q_T (d + 3) 164 env h [(6, 0), (0, m), (0, a), (0, n), (0, b)] (fun r => r = q_bo env h (q_F m n (m * n) a b 0)) := by
  refine ⟨Nat.le_of_ble_eq_true rfl, ?_⟩
  show q_GE q_T (q_GM q_T (d + 2)) (q_T 164) false 0 (env, h, 0, 0, 0, [(0, (6, 0)), (1, (0, m)), (2, (0, a)), (3, (0, n)), (4, (0, b))], []) _
  refine q_xs (fr := (env, h, 0, 0, 2, [(0, (6, 0)), (1, (0, m)), (2, (0, a)), (3, (0, n)), (4, (0, b))], [(0, a), (0, m)])) ?_ 2 rfl
  refine q_xc1 (q_GM_mono q_T (d + 2)) rfl rfl rfl (av := [(0, m), (0, a)]) (rest := []) rfl rfl rfl (Nat.zero_le _) (Nat.zero_le _) (Nat.zero_le _) (q_bC hm1 hm ha1 ha) ?_
  refine q_xs (fr := (env, h, 0, 0, 11, [(0, (6, 0)), (1, (0, m)), (2, (0, a)), (3, (0, n)), (4, (0, b))], [(0, b), (0, n)])) ?_ 3 rfl
  refine q_xc1 (q_GM_mono q_T (d + 2)) rfl rfl rfl (av := [(0, n), (0, b)]) (rest := []) rfl rfl rfl (Nat.zero_le _) (Nat.zero_le _) (Nat.zero_le _) (q_bC hn1 hn hb1 hb) ?_
  refine q_xs (fr := (env, h, 0, 0, 33, q_lv1 m a n b 0 b a, [])) ?_ 7 rfl
  exact q_cl1 (d := d + 1) hh (by omega) hm (by omega) hn (m * n) 0 a b (by omega) ha hb
noncomputable abbrev q_h2 (h : qH) : qH := q_put (q_put h 534 1 (0, 0)) 534 0 (0, 0)
theorem q_rK {d : Nat} {env : qE} {h : qH} {m a n b : Nat} (hh : q_hh h) (hm1 : 2 ≤ m) (hm : m ≤ 13) (hn1 : 2 ≤ n) (hn : n ≤ 13) (ha1 : 1 ≤ a) (ha : a ≤ m) (hb1 : 1 ≤ b) (hb : b ≤ n) :
    q_GM q_T (d + 3) 293 env h [(6, 534), (0, m), (0, a), (0, n), (0, b)] (fun r => r = q_ro env (q_h2 h) (q_R m a n b (m * n) 0)) := by
  refine ⟨Nat.le_of_ble_eq_true rfl, ?_⟩
  show q_GE q_T (q_GM q_T (d + 2)) (q_T 293) false 0 (env, h, 0, 0, 0, [(0, (6, 534)), (1, (0, m)), (2, (0, a)), (3, (0, n)), (4, (0, b))], []) _
  refine q_xs (fr := (env, h, 0, 0, 2, [(0, (6, 534)), (1, (0, m)), (2, (0, a)), (3, (0, n)), (4, (0, b))], [(0, 0), (6, 534)])) ?_ 2 rfl
  refine q_xp (y := (0, 0)) (cc := 534) (rest := []) rfl rfl rfl rfl hh.2.2.2.1 hh.2.2.2.2.2.1 (by rw [hh.2.2.2.2.2.2]; rfl) rfl rfl ?_
  have hh1 : q_hh (q_put h 534 1 (0, 0)) := hh.put (Or.inr rfl)
  refine q_xs (fr := (env, q_put h 534 1 (0, 0), 0, 0, 7, [(0, (6, 534)), (1, (0, m)), (2, (0, a)), (3, (0, n)), (4, (0, b))], [(0, 0), (6, 534)])) ?_ 2 rfl
  refine q_xp (y := (0, 0)) (cc := 534) (rest := []) rfl rfl rfl rfl hh1.2.2.2.1 hh1.2.2.2.2.2.1 (by rw [hh1.2.2.2.2.2.2]; rfl) rfl rfl ?_
  have hh2 : q_hh (q_h2 h) := hh1.put (Or.inr rfl)
  show q_GE q_T (q_GM q_T (d + 2)) (q_T 293) false 0 (env, q_h2 h, 0, 0, 10, [(0, (6, 534)), (1, (0, m)), (2, (0, a)), (3, (0, n)), (4, (0, b))], []) _
  generalize q_h2 h = h2 at hh2 ⊢
  refine q_xs (fr := (env, h2, 0, 0, 18, [(0, (6, 534)), (1, (0, m)), (2, (0, a)), (3, (0, n)), (4, (0, b))], [(3, 13), (3, 2), (3, qMn (qI m).toInt64)])) ?_ 4 rfl
  rw [q_i2l m (by omega)]
  refine q_xc1 (q_GM_mono q_T (d + 2)) rfl rfl rfl (av := [(3, m), (3, 2), (3, 13)]) (rest := []) rfl rfl rfl (Nat.zero_le _) (Nat.zero_le _) (Nat.zero_le _) (q_mI1 hm1 hm (by omega)) ?_
  refine q_xs (fr := (env, h2, 0, 0, 32, [(0, (6, 534)), (1, (0, m)), (2, (0, a)), (3, (0, n)), (4, (0, b))], [(3, 13), (3, 2), (3, qMn (qI n).toInt64)])) ?_ 5 rfl
  rw [q_i2l n (by omega)]
  refine q_xc1 (q_GM_mono q_T (d + 2)) rfl rfl rfl (av := [(3, n), (3, 2), (3, 13)]) (rest := []) rfl rfl rfl (Nat.zero_le _) (Nat.zero_le _) (Nat.zero_le _) (q_mI1 hn1 hn (by omega)) ?_
  refine q_xs (fr := (env, h2, 0, 0, 43, [(0, (6, 534)), (1, (0, m)), (2, (0, a)), (3, (0, n)), (4, (0, b))], [(3, qMn (qI m).toInt64), (3, 1), (3, qMn (qI a).toInt64)])) ?_ 6 rfl
  rw [q_i2l m (by omega), q_i2l a (by omega)]
  refine q_xc1 (q_GM_mono q_T (d + 2)) rfl rfl rfl (av := [(3, a), (3, 1), (3, m)]) (rest := []) rfl rfl rfl (Nat.zero_le _) (Nat.zero_le _) (Nat.zero_le _) (q_mI1 ha1 ha (by omega)) ?_
  refine q_xs (fr := (env, h2, 0, 0, 55, [(0, (6, 534)), (1, (0, m)), (2, (0, a)), (3, (0, n)), (4, (0, b))], [(3, qMn (qI n).toInt64), (3, 1), (3, qMn (qI b).toInt64)])) ?_ 6 rfl
  rw [q_i2l n (by omega), q_i2l b (by omega)]
  refine q_xc1 (q_GM_mono q_T (d + 2)) rfl rfl rfl (av := [(3, b), (3, 1), (3, n)]) (rest := []) rfl rfl rfl (Nat.zero_le _) (Nat.zero_le _) (Nat.zero_le _) (q_mI1 hb1 hb (by omega)) ?_
  refine q_xs (fr := (env, h2, 0, 0, 70, q_lv2b m a n b 0, [])) ?_ 3 rfl
  exact q_rl1 (d := d + 1) hh2 (by omega) hm (by omega) hn (by omega) (by omega) (m * n) 0 (by omega)
theorem q_bor {env : qE} {h : qH} (hh : q_hh h) (r : Option Nat) : (q_bo env h r).1 = env ∧ q_hh (q_bo env h r).2.1 ∧ (q_bo env h r).2.2 = some (0, r.getD 4294967295) := by
  cases r with
  | none => exact ⟨rfl, hh.put (Or.inl rfl), rfl⟩
  | some r => exact ⟨rfl, hh.put (Or.inl rfl), rfl⟩
theorem q_ror {env : qE} {h : qH} (r : Option Nat) : (q_ro env h r).1 = env ∧ (q_ro env h r).2.2 = some (0, r.getD 4294967295) := by
  cases r with
  | none => exact ⟨rfl, rfl⟩
  | some r => exact ⟨rfl, rfl⟩
theorem q_ckB : a_ck q_SP 0 = 10 ∧ a_cl q_SP 0 = 19 ∧ a_ck q_SP 534 = 11 ∧ a_cl q_SP 534 = 53 := by decide +kernel
theorem q_ctB : a_ct q_SP 0 0 = (0, -2147483648, 2147483647) ∧ a_ct q_SP 534 0 = (0, -2147483648, 2147483647) ∧ a_ct q_SP 534 1 = (0, -2147483648, 2147483647) := by decide +kernel
theorem q_blB : Nat.blt 0 (a_cl q_SP 0) = true ∧ Nat.blt 0 (a_cl q_SP 534) = true ∧ Nat.blt 1 (a_cl q_SP 534) = true := by decide +kernel
theorem q_hh_of {h : qH} (hh : a_HI q_SP 557 h) : q_hh h := by
  have h0 := hh.2.2 0 (by decide)
  have h1 := hh.2.2 534 (by decide)
  exact ⟨by rw [hh.1]; rfl, h0.1.trans q_ckB.1, h0.2.1.trans q_ckB.2.1, by rw [hh.1]; rfl, by rw [hh.1]; decide, h1.1.trans q_ckB.2.2.1, h1.2.1.trans q_ckB.2.2.2⟩
abbrev q_bS : aW := [(0, 0, 0, 1), (534, 534, 0, 2)]
theorem q_bp {h : qH} {c j n : Nat} (hh : a_HI q_SP 557 h) (hc : c < 557) (hj : Nat.blt j (a_cl q_SP c) = true) (ht : a_ct q_SP c j = (0, -2147483648, 2147483647)) (hn : n < 100) (hS : a_inS q_bS c j = true) : a_HI q_SP 557 (q_put h c j (0, n)) ∧ a_Fr q_SP 557 q_bS h (q_put h c j (0, n)) := by
  have hv : a_vt (a_ct q_SP c j) (0, n) := by
    rw [ht]
    refine ⟨(n : Int), ?_, ?_, ?_⟩
    · refine Prod.ext rfl ?_
      show n = ((n : Int) % 4294967296).toNat
      omega
    · show (-2147483648 : Int) ≤ n
      omega
    · show (n : Int) ≤ 2147483647
      omega
  rw [q_blt] at hj
  obtain ⟨g1, g2⟩ := hh.put hc (of_decide_eq_true hj) hv
  refine ⟨g1, fun i q hi hq hS' => ?_⟩
  rw [g2 i q hi hq, if_neg]
  rintro ⟨rfl, rfl⟩
  rw [hS] at hS'
  cases hS'
theorem q_bot {env : qE} {h : qH} (hh : a_HI q_SP 557 h) (r : Option Nat) : a_HI q_SP 557 (q_bo env h r).2.1 ∧ a_Fr q_SP 557 q_bS h (q_bo env h r).2.1 := by
  cases r with
  | none => exact q_bp hh (by decide) q_blB.1 q_ctB.1 (by decide) rfl
  | some r => exact q_bp hh (by decide) q_blB.1 q_ctB.1 (by decide) rfl
theorem q_rot {env : qE} {h : qH} (hh : a_HI q_SP 557 h) (r : Option Nat) : a_HI q_SP 557 (q_ro env h r).2.1 ∧ a_Fr q_SP 557 q_bS h (q_ro env h r).2.1 := by
  cases r with
  | none => exact q_bp hh (by decide) q_blB.2.1 q_ctB.2.1 (by decide) rfl
  | some r => exact ⟨hh, a_Fr.rf⟩
theorem q_h2t {h : qH} (hh : a_HI q_SP 557 h) : a_HI q_SP 557 (q_h2 h) ∧ a_Fr q_SP 557 q_bS h (q_h2 h) := by
  obtain ⟨g1, g2⟩ := q_bp hh (c := 534) (j := 1) (n := 0) (by decide) q_blB.2.2 q_ctB.2.2 (by decide) rfl
  obtain ⟨g3, g4⟩ := q_bp g1 (c := 534) (j := 0) (n := 0) (by decide) q_blB.2.1 q_ctB.2.1 (by decide) rfl
  exact ⟨g3, g2.tr g4⟩
theorem q_icB : ((List.range q_NC).all fun c => ([] : List Nat).contains c || (q_Cmp c).all (a_idl q_SP q_bS)) = true := by decide +kernel
theorem q_idB : ([q_Pvw0, q_Pvw1, q_Pvw2, q_Pvw3] ++ (q_Prb0 ++ (q_Prb1 ++ q_Prb2))).all (a_idl q_SP q_bS) = true := by decide +kernel
theorem q_INV_fr {T : aW} {h h' : qH} (hid : ([q_Pvw0, q_Pvw1, q_Pvw2, q_Pvw3] ++ (q_Prb0 ++ (q_Prb1 ++ q_Prb2))).all (a_idl q_SP T) = true) (hic : ((List.range q_NC).all fun c => ([] : List Nat).contains c || (q_Cmp c).all (a_idl q_SP T)) = true) (hh' : a_HI q_SP 557 h') (hF : a_Fr q_SP 557 T h h') (hI : q_INV h) : q_INV h' := by
  obtain ⟨hh, hcm, v, hv, hvw, hrb⟩ := hI
  rw [List.all_append, List.all_append, List.all_append, Bool.and_eq_true, Bool.and_eq_true, Bool.and_eq_true] at hid
  obtain ⟨i1, i2, i3, i4⟩ := hid
  refine ⟨hh', q_cmp_of hic hF (fun c hc => absurd hc List.not_mem_nil) hcm, v, hv, ?_, fun j hj => ?_⟩
  · refine a_idl_ok (List.all_eq_true.mp i1 _ ?_) hF hvw
    rcases v with _ | _ | _ | _ | v
    · exact List.mem_cons_self
    · exact List.mem_cons_of_mem _ List.mem_cons_self
    · exact List.mem_cons_of_mem _ (List.mem_cons_of_mem _ List.mem_cons_self)
    · exact List.mem_cons_of_mem _ (List.mem_cons_of_mem _ (List.mem_cons_of_mem _ List.mem_cons_self))
    · omega
  · have hp := hrb j hj
    rcases j with _ | _ | _ | j
    · exact q_Dj_id i2 hF hp
    · exact q_Dj_id i3 hF hp
    · exact q_Dj_id i4 hF hp
    · omega
/-- the numbers can be -/
theorem q_both1 {env : qE} {h : qH} {m a n b : Nat} (hI : q_INV h) (hm1 : 2 ≤ m) (hm : m ≤ 13) (hn1 : 2 ≤ n) (hn : n ≤ 13) (ha1 : 1 ≤ a) (ha : a ≤ m) (hb1 : 1 ≤ b) (hb : b ≤ n) : q_Tn env h 164 293 1 true [(0, m), (0, a), (0, n), (0, b)] := by
  have hh := hI.1
  have hF : q_F m n (m * n) a b 0 = q_R m a n b (m * n) 0 := q_FR (by omega) (by omega) (m * n) 0 a b ha1 ha rfl hb1 hb rfl
  have key : ∀ r : Option Nat, q_GM q_T q_Dm 164 env h [(6, 0), (0, m), (0, a), (0, n), (0, b)] (fun o => o = q_bo env h r) → (∀ h1 : qH, a_HI q_SP 557 h1 → q_GM q_T q_Dm 293 env h1 [(6, 534), (0, m), (0, a), (0, n), (0, b)] (fun o => o = q_ro env (q_h2 h1) r)) → q_Tn env h 164 293 1 true [(0, m), (0, a), (0, n), (0, b)] := by
    intro r c1 c2
    obtain ⟨b1, -, b3⟩ := q_bor (env := env) (q_hh_of hh) r
    obtain ⟨i1, f1⟩ := q_bot (env := env) hh r
    have e1 : q_bo env h r = (env, (q_bo env h r).2.1, some (0, r.getD 4294967295)) := Prod.ext b1 (Prod.ext rfl b3)
    rw [e1] at c1
    generalize (q_bo env h r).2.1 = h1 at *
    have c2 := c2 h1 i1
    obtain ⟨i2, f2⟩ := q_h2t i1
    obtain ⟨d1, d3⟩ := q_ror (env := env) (h := q_h2 h1) r
    obtain ⟨i3, f3⟩ := q_rot (env := env) i2 r
    have e2 : q_ro env (q_h2 h1) r = (env, (q_ro env (q_h2 h1) r).2.1, some (0, r.getD 4294967295)) := Prod.ext d1 (Prod.ext rfl d3)
    rw [e2] at c2
    exact ⟨h1, _, _, _, c1, i1, c2, rfl, rfl, q_INV_fr q_idB q_icB i3 ((f1.tr f2).tr f3) hI, fun _ => rfl⟩
  refine key (q_R m a n b (m * n) 0) ?_ (fun h1 i1 => q_rK (d := 807) (env := env) (q_hh_of i1) hm1 hm hn1 hn ha1 ha hb1 hb)
  have c1 := q_bK (d := 807) (env := env) (q_hh_of hh) hm1 hm hn1 hn ha1 ha hb1 hb
  rw [hF] at c1
  exact c1
abbrev q_bF : Int × Int := (-2147483648, 2147483647)
/-- numbers that can't be -/
def q_bI : List (List (Int × Int)) := [[(-2147483648, 1), q_bF, q_bF, q_bF], [(14, 2147483647), q_bF, q_bF, q_bF], [q_bF, q_bF, (-2147483648, 1), q_bF], [q_bF, q_bF, (14, 2147483647), q_bF], [q_bF, (-2147483648, 0), q_bF, q_bF], [q_bF, q_bF, q_bF, (-2147483648, 0)]] ++ ((List.range 12).map (fun k : Nat => [((k : Int) + 2, (k : Int) + 2), ((k : Int) + 3, 2147483647), q_bF, q_bF]) ++ (List.range 12).map (fun k : Nat => [q_bF, q_bF, ((k : Int) + 2, (k : Int) + 2), ((k : Int) + 3, 2147483647)]))
theorem q_sqB : (q_bI.all fun I => (a_adds q_SP ([].map q_Cmp) (I, []) []).all fun s => a_seq q_SP 557 q_CT q_bS q_Dm (q_post ([].map q_Cmp) [1, 1] true) [(164, (6, 0, ([], 0)) :: (q_Ag 0 [0, 0, 0, 0])), (293, (6, 534, ([], 0)) :: (q_Ag 0 [0, 0, 0, 0]))] s.1 s.2 []) = true := by decide +kernel
theorem q_bCov {vs : List qV} (hk : q_Kd [0, 0, 0, 0] vs) : (∃ m a n b : Nat, vs = [(0, m), (0, a), (0, n), (0, b)] ∧ 2 ≤ m ∧ m ≤ 13 ∧ 2 ≤ n ∧ n ≤ 13 ∧ 1 ≤ a ∧ a ≤ m ∧ 1 ≤ b ∧ b ≤ n) ∨ ∃ I ∈ q_bI, q_Kp [0, 0, 0, 0] I vs := by
  rcases vs with _ | ⟨v1, _ | ⟨v2, _ | ⟨v3, _ | ⟨v4, _ | ⟨v5, vs⟩⟩⟩⟩⟩
  · exact (hk : False).elim
  · exact (hk.2 : False).elim
  · exact (hk.2.2 : False).elim
  · exact (hk.2.2.2 : False).elim
  · obtain ⟨⟨x1, e1, l1, u1, t1⟩, ⟨x2, e2, l2, u2, t2⟩, ⟨x3, e3, l3, u3, t3⟩, ⟨x4, e4, l4, u4, t4⟩, -⟩ := hk
    have l1 : (-2147483648 : Int) ≤ x1 := l1
    have l2 : (-2147483648 : Int) ≤ x2 := l2
    have l3 : (-2147483648 : Int) ≤ x3 := l3
    have l4 : (-2147483648 : Int) ≤ x4 := l4
    have u1 : x1 ≤ (2147483647 : Int) := u1
    have u2 : x2 ≤ (2147483647 : Int) := u2
    have u3 : x3 ≤ (2147483647 : Int) := u3
    have u4 : x4 ≤ (2147483647 : Int) := u4
    have k1 : ∀ p : Int × Int, p.1 ≤ x1 → x1 ≤ p.2 → q_Kp1 0 p v1 := fun p a b => ⟨x1, e1, a, b, l1, u1, t1⟩
    have k2 : ∀ p : Int × Int, p.1 ≤ x2 → x2 ≤ p.2 → q_Kp1 0 p v2 := fun p a b => ⟨x2, e2, a, b, l2, u2, t2⟩
    have k3 : ∀ p : Int × Int, p.1 ≤ x3 → x3 ≤ p.2 → q_Kp1 0 p v3 := fun p a b => ⟨x3, e3, a, b, l3, u3, t3⟩
    have k4 : ∀ p : Int × Int, p.1 ≤ x4 → x4 ≤ p.2 → q_Kp1 0 p v4 := fun p a b => ⟨x4, e4, a, b, l4, u4, t4⟩
    have w : ∀ x : Int, 0 ≤ x → x ≤ 13 → ∀ v : qV, v = (bif Nat.beq 0 2 then (3, a_W x) else (0, a_w x)) → v = (0, x.toNat) := fun x a b v e => by
      rw [e]
      refine Prod.ext rfl ?_
      show (x % 4294967296).toNat = x.toNat
      omega
    by_cases hr : 2 ≤ x1 ∧ x1 ≤ 13 ∧ 2 ≤ x3 ∧ x3 ≤ 13 ∧ 1 ≤ x2 ∧ x2 ≤ x1 ∧ 1 ≤ x4 ∧ x4 ≤ x3
    · obtain ⟨r1, r2, r3, r4, r5, r6, r7, r8⟩ := hr
      refine Or.inl ⟨x1.toNat, x2.toNat, x3.toNat, x4.toNat, ?_, by omega, by omega, by omega, by omega, by omega, by omega, by omega, by omega⟩
      rw [w x1 (by omega) (by omega) v1 e1, w x2 (by omega) (by omega) v2 e2, w x3 (by omega) (by omega) v3 e3, w x4 (by omega) (by omega) v4 e4]
    · have hc : x1 ≤ 1 ∨ 14 ≤ x1 ∨ x3 ≤ 1 ∨ 14 ≤ x3 ∨ x2 ≤ 0 ∨ x4 ≤ 0 ∨ (2 ≤ x1 ∧ x1 ≤ 13 ∧ x1 < x2) ∨ (2 ≤ x3 ∧ x3 ≤ 13 ∧ x3 < x4) := by omega
      refine Or.inr ?_
      rcases hc with hc | hc | hc | hc | hc | hc | ⟨c1, c2, c3⟩ | ⟨c1, c2, c3⟩
      · exact ⟨_, List.mem_append_left _ (.head _), k1 _ l1 hc, k2 _ l2 u2, k3 _ l3 u3, k4 _ l4 u4, trivial⟩
      · exact ⟨_, List.mem_append_left _ (.tail _ (.head _)), k1 _ hc u1, k2 _ l2 u2, k3 _ l3 u3, k4 _ l4 u4, trivial⟩
      · exact ⟨_, List.mem_append_left _ (.tail _ (.tail _ (.head _))), k1 _ l1 u1, k2 _ l2 u2, k3 _ l3 hc, k4 _ l4 u4, trivial⟩
      · exact ⟨_, List.mem_append_left _ (.tail _ (.tail _ (.tail _ (.head _)))), k1 _ l1 u1, k2 _ l2 u2, k3 _ hc u3, k4 _ l4 u4, trivial⟩
      · exact ⟨_, List.mem_append_left _ (.tail _ (.tail _ (.tail _ (.tail _ (.head _))))), k1 _ l1 u1, k2 _ l2 hc, k3 _ l3 u3, k4 _ l4 u4, trivial⟩
      · exact ⟨_, List.mem_append_left _ (.tail _ (.tail _ (.tail _ (.tail _ (.tail _ (.head _)))))), k1 _ l1 u1, k2 _ l2 u2, k3 _ l3 u3, k4 _ l4 hc, trivial⟩
      · refine ⟨[(((x1.toNat - 2 : Nat) : Int) + 2, ((x1.toNat - 2 : Nat) : Int) + 2), (((x1.toNat - 2 : Nat) : Int) + 3, 2147483647), q_bF, q_bF], List.mem_append_right _ (List.mem_append_left _ (List.mem_map.mpr ⟨x1.toNat - 2, List.mem_range.mpr (by omega), rfl⟩)), k1 _ ?_ ?_, k2 _ ?_ u2, k3 _ l3 u3, k4 _ l4 u4, trivial⟩
        · show ((x1.toNat - 2 : Nat) : Int) + 2 ≤ x1
          omega
        · show x1 ≤ ((x1.toNat - 2 : Nat) : Int) + 2
          omega
        · show ((x1.toNat - 2 : Nat) : Int) + 3 ≤ x2
          omega
      · refine ⟨[q_bF, q_bF, (((x3.toNat - 2 : Nat) : Int) + 2, ((x3.toNat - 2 : Nat) : Int) + 2), (((x3.toNat - 2 : Nat) : Int) + 3, 2147483647)], List.mem_append_right _ (List.mem_append_right _ (List.mem_map.mpr ⟨x3.toNat - 2, List.mem_range.mpr (by omega), rfl⟩)), k1 _ l1 u1, k2 _ l2 u2, k3 _ ?_ ?_, k4 _ ?_ u4, trivial⟩
        · show ((x3.toNat - 2 : Nat) : Int) + 2 ≤ x3
          omega
        · show x3 ≤ ((x3.toNat - 2 : Nat) : Int) + 2
          omega
        · show ((x3.toNat - 2 : Nat) : Int) + 3 ≤ x4
          omega
  · exact (hk.2.2.2.2 : False).elim
theorem q_both {env : qE} {h : qH} {vs : List qV} (hI : q_INV h) (hk : q_Kd [0, 0, 0, 0] vs) : q_Tn env h 164 293 1 true vs := by
  rcases q_bCov hk with ⟨m, a, n, b, rfl, h1, h2, h3, h4, h5, h6, h7, h8⟩ | ⟨I, hI', hp⟩
  · exact q_both1 hI h1 h2 h3 h4 h5 h6 h7 h8
  · exact q_turnP (ix := []) (ks := [0, 0, 0, 0]) (T := q_bS) (Or.inl rfl) ⟨I, hp, List.all_eq_true.mp q_sqB I hI'⟩ q_idB q_icB rfl hI
