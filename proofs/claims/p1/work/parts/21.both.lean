-- 21.both: the two loops of 'both' come to one answer
section
variable {tab : Nat → qM} {call : q_call} {M : qM} {scr : Bool} {L : Nat} {env : qE} {h : qH} {k sl pc : Nat} {lv : qL} {stk : List qV} {P : qO → Prop}
/-- a call with one end -/
theorem q_xc1 {e : qN} {av rest : List qV} {o1 : qO} (hc : q_cMono call) (he : (q_mI M).get pc = e) (hpc : q_pc e = pc) (h23 : e.1 = 23) (hst : stk = av.reverse ++ rest) (hlen : av.length = (if q_mK (tab (q_w e)) = 0 then q_mA (tab (q_w e)) else q_mA (tab (q_w e)) + 1)) (hrcv : q_rcv (q_mK (tab (q_w e))) (q_mC (tab (q_w e))) h av = true) (h8 : (rest.map q_cat).sum ≤ 8) (c1 : k + q_mc (tab (q_w e)) ≤ q_mc M) (c2 : sl + q_ms (tab (q_w e)) ≤ q_ms M)
    (hcall : call (q_w e) env h av (fun o => o = o1)) (hn : q_GE tab call M scr L (o1.1, o1.2.1, k + q_mc (tab (q_w e)), sl + q_ms (tab (q_w e)), pc + 3, lv, o1.2.2.toList ++ rest) P) : q_GE tab call M scr L (env, h, k, sl, pc, lv, stk) P := by
  obtain ⟨n, hn⟩ := hn
  exact q_xc hc he hpc h23 hst hlen hrcv h8 c1 c2 hcall (fun o ho => by rw [ho]; exact hn)
/-- putfield -/
theorem q_xp {e : qN} {y : qV} {cc : Nat} {rest : List qV} (he : (q_mI M).get pc = e) (hpc : q_pc e = pc) (h15 : e.1 = 15) (hst : stk = y :: (6, cc) :: rest) (hc : Nat.blt cc h.2 = true) (hk : (h.1.get cc).1 = q_v e) (hl : Nat.blt (q_b e) (h.1.get cc).2.1 = true) (hf : q_fit ((q_t e).getD 0 9) y = true) (ht : Nat.blt 0 (q_t e).length = true)
    (hn : q_GE tab call M scr L (env, q_put h cc (q_b e) y, k, sl, pc + 3, lv, rest) P) : q_GE tab call M scr L (env, h, k, sl, pc, lv, stk) P := by
  refine q_x1 ?_ hn
  unfold q_a1S
  rw [he]
  obtain ⟨op, p, v, a, b, w, t⟩ := e
  have h15 : op = 15 := h15
  have hpc : p = pc := hpc
  subst h15; subst hpc; subst hst
  have e1 : Nat.beq p p = true := Nat.beq_refl p
  have hk : Nat.beq (h.1.get cc).1 v = true := by rw [hk]; exact Nat.beq_refl _
  show (bif Nat.beq p p && true && true then q_s15S (15, p, v, a, b, w, t) env h k sl lv (y :: (6, cc) :: rest) else none) = _
  rw [e1]
  show (bif Nat.beq 6 6 && Nat.blt cc h.2 && Nat.beq (h.1.get cc).1 v && Nat.blt b (h.1.get cc).2.1 && q_fit (t.getD 0 9) y && Nat.blt 0 t.length then q_ghS env (q_put h cc b y) k sl (p + 3) lv rest else none) = _
  have hl : Nat.blt b (h.1.get cc).2.1 = true := hl
  have hf : q_fit (t.getD 0 9) y = true := hf
  have ht : Nat.blt 0 t.length = true := ht
  rw [hc, hk, hl, hf, ht]
  rfl
/-- a place of the script that is known is a number -/
def q_pn (env : qE) (x : qV) : qV := bif Nat.beq x.1 1 && Nat.beq (q_eg env x.2).1 (q_eg env x.2).2 then (0, q_cd (q_eg env x.2).1) else x
theorem q_pn_ok {ρ : Nat → Int32} {sb : Nat × va_W} {ws : va_W} {x : qV} {v : Value} (hE : q_En ρ env) (h : q_RV ρ sb ws x v) : q_RV ρ sb ws (q_pn env x) v := by
  unfold q_pn
  cases hc : (Nat.beq x.1 1 && Nat.beq (q_eg env x.2).1 (q_eg env x.2).2) with
  | false => exact h
  | true =>
    rw [Bool.and_eq_true] at hc
    have h1 := Nat.eq_of_beq_eq_true hc.1
    have h2 := Nat.eq_of_beq_eq_true hc.2
    obtain ⟨x1, i⟩ := x
    have h1 : x1 = 1 := h1
    subst h1
    have hv : v = .int (ρ i) := h
    have h2 : (q_eg env i).1 = (q_eg env i).2 := h2
    obtain ⟨g1, g2⟩ := q_eg_ok hE i
    have e : qB (ρ i) = (q_eg env i).1 := by omega
    show v = .int (qI (q_cd (q_eg env i).1))
    rw [← e, ← q_cd_ok, hv]
theorem q_pn_Ls {ρ : Nat → Int32} {sb : Nat × va_W} {ws : va_W} (hE : q_En ρ env) : ∀ {lv : qL} {cl : List (Nat × Value)}, q_Ls ρ sb ws lv cl → q_Ls ρ sb ws (lv.map (fun p => (p.1, q_pn env p.2))) cl
  | [], [], _ => trivial
  | _ :: _, _ :: _, h => ⟨h.1, q_pn_ok hE h.2.1, q_pn_Ls hE h.2.2⟩
  | [], _ :: _, h => (h : False).elim
  | _ :: _, [], h => (h : False).elim
theorem q_pn_Sk {ρ : Nat → Int32} {sb : Nat × va_W} {ws : va_W} (hE : q_En ρ env) : ∀ {xs : List qV} {vs : List Value}, q_Sk ρ sb ws xs vs → q_Sk ρ sb ws (xs.map (q_pn env)) vs
  | [], [], _ => trivial
  | _ :: _, _ :: _, h => ⟨q_pn_ok hE h.1, q_pn_Sk hE h.2⟩
  | [], _ :: _, h => (h : False).elim
  | _ :: _, [], h => (h : False).elim
theorem q_xn (hn : q_GE tab call M scr L (env, h, k, sl, pc, lv.map (fun p => (p.1, q_pn env p.2)), stk.map (q_pn env)) P) : q_GE tab call M scr L (env, h, k, sl, pc, lv, stk) P := by
  refine q_xv ?_ hn
  intro ρ sb ws tys cl st ⟨hE, hH, hL, hS⟩
  refine ⟨_, rfl, rfl, rfl, rfl, hE, hH, ?_, ?_⟩
  · exact q_pn_Ls hE hL
  · exact q_pn_Sk hE hS
end
theorem q_opN_sh (c o u v : Nat) : q_opN o (u + c) (v + c) = q_opN o u v := by
  rcases o with _ | _ | _ | _ | _ | o
  · exact decide_eq_decide.mpr (by omega)
  · exact congrArg not (decide_eq_decide.mpr (by omega))
  · exact decide_eq_decide.mpr (by omega)
  · exact congrArg not (decide_eq_decide.mpr (by omega))
  · exact decide_eq_decide.mpr (by omega)
  · exact congrArg not (decide_eq_decide.mpr (by omega))
theorem q_opI {o u v : Nat} (hu : u < 2147483648) (hv : v < 2147483648) : q_op o (qI u) (qI v) = q_opN o u v := by
  have b1 := qB_int (qI u)
  have b2 := qB_int (qI v)
  have t1 : (qI u).toInt = (u : Int) := nI_toInt (n := u) hu
  have t2 : (qI v).toInt = (v : Int) := nI_toInt (n := v) hv
  rw [q_op_N]
  have e1 : qB (qI u) = u + 2147483648 := by omega
  have e2 : qB (qI v) = v + 2147483648 := by omega
  rw [e1, e2]
  exact q_opN_sh _ _ _ _
theorem q_nI {u : Nat} (hu : u < 4294967296) : qNn (qI u) = u := by
  show (BitVec.ofNat 32 u).toNat = u
  rw [BitVec.toNat_ofNat]
  exact Nat.mod_eq_of_lt hu
theorem q_addI (u v : Nat) : qI u + qI v = qI (u + v) := (Int32.ofNat_add u v).symm
theorem q_mulI (u v : Nat) : qI u * qI v = qI (u * v) := (Int32.ofNat_mul u v).symm
theorem q_remI : ∀ u, u < 200 → ∀ v, v < 14 → 0 < v → qNn (q_f4 9 (qI u) (qI v)) = u % v := by decide +kernel
theorem q_lc1 : ∀ u, u < 14 → ∀ v, v < 14 → q_op 2 (qI (qNn (lg_cmp (qJ u) (qJ v)))) (qI 0) = decide (u < v) := by decide +kernel
theorem q_lc2 : ∀ u, u < 14 → ∀ v, v < 14 → q_op 4 (qI (qNn (lg_cmp (qJ u) (qJ v)))) (qI 0) = decide (v < u) := by decide +kernel
theorem q_i2l : ∀ u, u < 14 → qMn (qI u).toInt64 = u := by decide +kernel
theorem q_bW {d : Nat} {env : qE} {h : qH} {x y z : Nat} (h1 : y ≤ x) (h2 : x ≤ z) (hz : z < 2147483648) : q_GM q_T (d + 1) 119 env h [(0, x), (0, y), (0, z)] (fun o => o = (env, h, some (0, 1))) := by
  refine ⟨Nat.le_of_ble_eq_true rfl, ?_⟩
  show q_GE q_T (q_GM q_T d) (q_T 119) false 0 (env, h, 0, 0, 0, [(0, (0, x)), (1, (0, y)), (2, (0, z))], []) _
  refine q_xs (fr := (env, h, 0, 0, bif q_op 2 (qI x) (qI y) then 14 else 5, [(0, (0, x)), (1, (0, y)), (2, (0, z))], [])) ?_ 3 rfl
  rw [q_opI (by omega) (by omega), show q_opN 2 x y = false from decide_eq_false (by omega)]
  refine q_xs (fr := (env, h, 0, 0, bif q_op 4 (qI x) (qI z) then 14 else 10, [(0, (0, x)), (1, (0, y)), (2, (0, z))], [])) ?_ 3 rfl
  rw [q_opI (by omega) (by omega), show q_opN 4 x z = false from decide_eq_false (by omega)]
  refine q_xs (fr := (env, h, 0, 0, 15, [(0, (0, x)), (1, (0, y)), (2, (0, z))], [(0, 1)])) ?_ 2 rfl
  exact q_xr rfl rfl rfl rfl (Nat.zero_le _) (Nat.zero_le _) rfl
theorem q_bC {d : Nat} {env : qE} {h : qH} {m a : Nat} (h1 : 2 ≤ m) (h2 : m ≤ 13) (h3 : 1 ≤ a) (h4 : a ≤ m) : q_GM q_T (d + 2) 162 env h [(0, m), (0, a)] (fun o => o = (env, h, some (0, 1))) := by
  refine ⟨Nat.le_of_ble_eq_true rfl, ?_⟩
  show q_GE q_T (q_GM q_T (d + 1)) (q_T 162) false 0 (env, h, 0, 0, 0, [(0, (0, m)), (1, (0, a))], []) _
  refine q_xs (fr := (env, h, 0, 0, 4, [(0, (0, m)), (1, (0, a))], [(0, 13), (0, 2), (0, m)])) ?_ 3 rfl
  refine q_xc1 (q_GM_mono q_T (d + 1)) rfl rfl rfl (av := [(0, m), (0, 2), (0, 13)]) (rest := []) rfl rfl rfl (Nat.zero_le _) (Nat.zero_le _) (Nat.zero_le _) (q_bW h1 h2 (by decide)) ?_
  refine q_xs (fr := (env, h, 0, 0, 13, [(0, (0, m)), (1, (0, a))], [(0, m), (0, 1), (0, a)])) ?_ 4 rfl
  refine q_xc1 (q_GM_mono q_T (d + 1)) rfl rfl rfl (av := [(0, a), (0, 1), (0, m)]) (rest := []) rfl rfl rfl (Nat.zero_le _) (Nat.zero_le _) (Nat.zero_le _) (q_bW h3 h4 (by omega)) ?_
  refine q_xs (fr := (env, h, 0, 0, 24, [(0, (0, m)), (1, (0, a))], [(0, 1)])) ?_ 3 rfl
  exact q_xr rfl rfl rfl rfl (Nat.zero_le _) (Nat.zero_le _) rfl
def q_cb (c m : Nat) : Nat := if m ≤ c then 1 else c + 1
theorem q_bB {d : Nat} {env : qE} {h : qH} {c m : Nat} (hc : c < 1000) (hm : m < 1000) : q_GM q_T (d + 1) 163 env h [(0, c), (0, m)] (fun o => o = (env, h, some (0, q_cb c m))) := by
  refine ⟨Nat.le_of_ble_eq_true rfl, ?_⟩
  show q_GE q_T (q_GM q_T d) (q_T 163) false 0 (env, h, 0, 0, 0, [(0, (0, c)), (1, (0, m))], []) _
  refine q_xs (fr := (env, h, 0, 0, bif q_op 2 (qI c) (qI m) then 9 else 5, [(0, (0, c)), (1, (0, m))], [])) ?_ 3 rfl
  rw [q_opI (by omega) (by omega)]
  unfold q_cb
  by_cases hcm : m ≤ c
  · rw [show q_opN 2 c m = false from decide_eq_false (by omega), if_pos hcm]
    refine q_xs (fr := (env, h, 0, 0, 12, [(0, (0, c)), (1, (0, m))], [(0, 1)])) ?_ 2 rfl
    exact q_xr rfl rfl rfl rfl (Nat.zero_le _) (Nat.zero_le _) rfl
  · rw [show q_opN 2 c m = true from decide_eq_true (by omega), if_neg hcm]
    refine q_xs (fr := (env, h, 0, 0, 12, [(0, (0, c)), (1, (0, m))], [(0, qNn (qI c + qI 1))])) ?_ 3 rfl
    rw [q_addI, q_nI (by omega)]
    exact q_xr rfl rfl rfl rfl (Nat.zero_le _) (Nat.zero_le _) rfl
/-- a heap with the class's object at 0 and the reference at 534 -/
def q_hh (h : qH) : Prop := Nat.blt 0 h.2 = true ∧ (h.1.get 0).1 = 10 ∧ (h.1.get 0).2.1 = 19 ∧ Nat.blt 534 h.2 = true ∧ h.2 ≤ 1024 ∧ (h.1.get 534).1 = 11 ∧ (h.1.get 534).2.1 = 53
theorem q_hh.put {h : qH} {c j : Nat} {x : qV} (hc : c = 0 ∨ c = 534) (hh : q_hh h) : q_hh (q_put h c j x) := by
  obtain ⟨h1, h2, h3, h4, h5, h6, h7⟩ := hh
  have g1 : (q_put h c j x).2 = h.2 := rfl
  have g2 : ∀ i, i < 1024 → ((q_put h c j x).1.get i).1 = (h.1.get i).1 ∧ ((q_put h c j x).1.get i).2.1 = (h.1.get i).2.1 := fun i hi => by
    show ((q_ts ((h.1.get c).1, (h.1.get c).2.1, q_ts x j (h.1.get c).2.2 0 (h.1.get c).2.1) c h.1 0 1024).get i).1 = _ ∧ ((q_ts ((h.1.get c).1, (h.1.get c).2.1, q_ts x j (h.1.get c).2.2 0 (h.1.get c).2.1) c h.1 0 1024).get i).2.1 = _
    rw [q_ts_get _ c h.1 0 1024 i (Nat.zero_le _) (by omega) (Nat.zero_le _) hi]
    by_cases e : i = c
    · rw [if_pos e, e]
      exact ⟨rfl, rfl⟩
    · rw [if_neg e]
      exact ⟨rfl, rfl⟩
  exact ⟨by rw [g1]; exact h1, (g2 0 (by omega)).1.trans h2, (g2 0 (by omega)).2.trans h3, by rw [g1]; exact h4, by rw [g1]; exact h5, (g2 534 (by omega)).1.trans h6, (g2 534 (by omega)).2.trans h7⟩
theorem q_bA {d : Nat} {env : qE} {h : qH} {s : Nat} (hh : q_hh h) : q_GM q_T (d + 1) 113 env h [(6, 0), (0, s)] (fun o => o = (env, q_put h 0 0 (0, 0), some (0, s))) := by
  refine ⟨Nat.le_of_ble_eq_true rfl, ?_⟩
  show q_GE q_T (q_GM q_T d) (q_T 113) false 0 (env, h, 0, 0, 0, [(0, (6, 0)), (1, (0, s))], []) _
  refine q_xs (fr := (env, h, 0, 0, 2, [(0, (6, 0)), (1, (0, s))], [(0, 0), (6, 0)])) ?_ 2 rfl
  refine q_xp (y := (0, 0)) (cc := 0) (rest := []) rfl rfl rfl rfl hh.1 hh.2.1 (by rw [hh.2.2.1]; rfl) rfl rfl ?_
  refine q_xs (fr := (env, q_put h 0 0 (0, 0), 0, 0, 6, [(0, (6, 0)), (1, (0, s))], [(0, s)])) ?_ 1 rfl
  exact q_xr rfl rfl rfl rfl (Nat.zero_le _) (Nat.zero_le _) rfl
theorem q_bR {d : Nat} {env : qE} {h : qH} (hh : q_hh h) : q_GM q_T (d + 1) 114 env h [(6, 0), (0, 8)] (fun o => o = (env, q_put h 0 0 (0, 8), some (0, 4294967295))) := by
  refine ⟨Nat.le_of_ble_eq_true rfl, ?_⟩
  show q_GE q_T (q_GM q_T d) (q_T 114) false 0 (env, h, 0, 0, 0, [(0, (6, 0)), (1, (0, 8))], []) _
  refine q_xs (fr := (env, h, 0, 0, 2, [(0, (6, 0)), (1, (0, 8))], [(0, 8), (6, 0)])) ?_ 2 rfl
  refine q_xp (y := (0, 8)) (cc := 0) (rest := []) rfl rfl rfl rfl hh.1 hh.2.1 (by rw [hh.2.2.1]; rfl) rfl rfl ?_
  refine q_xs (fr := (env, q_put h 0 0 (0, 8), 0, 0, 6, [(0, (6, 0)), (1, (0, 8))], [(0, 4294967295)])) ?_ 1 rfl
  exact q_xr rfl rfl rfl rfl (Nat.zero_le _) (Nat.zero_le _) rfl
theorem q_mR {d : Nat} {env : qE} {h : qH} (hh : q_hh h) : q_GM q_T (d + 1) 181 env h [(6, 534), (0, 8)] (fun o => o = (env, q_put h 534 0 (0, 8), some (0, 4294967295))) := by
  refine ⟨Nat.le_of_ble_eq_true rfl, ?_⟩
  show q_GE q_T (q_GM q_T d) (q_T 181) false 0 (env, h, 0, 0, 0, [(0, (6, 534)), (1, (0, 8))], []) _
  refine q_xs (fr := (env, h, 0, 0, 2, [(0, (6, 534)), (1, (0, 8))], [(0, 8), (6, 534)])) ?_ 2 rfl
  refine q_xp (y := (0, 8)) (cc := 534) (rest := []) rfl rfl rfl rfl hh.2.2.2.1 hh.2.2.2.2.2.1 (by rw [hh.2.2.2.2.2.2]; rfl) rfl rfl ?_
  refine q_xs (fr := (env, q_put h 534 0 (0, 8), 0, 0, 6, [(0, (6, 534)), (1, (0, 8))], [(0, 4294967295)])) ?_ 1 rfl
  exact q_xr rfl rfl rfl rfl (Nat.zero_le _) (Nat.zero_le _) rfl
theorem q_mI1 {d : Nat} {env : qE} {h : qH} {x y z : Nat} (h1 : y ≤ x) (h2 : x ≤ z) (hz : z < 14) : q_GM q_T (d + 1) 183 env h [(3, x), (3, y), (3, z)] (fun o => o = (env, h, some (0, 1))) := by
  refine ⟨Nat.le_of_ble_eq_true rfl, ?_⟩
  show q_GE q_T (q_GM q_T d) (q_T 183) false 0 (env, h, 0, 0, 0, [(0, (3, x)), (2, (3, y)), (4, (3, z))], []) _
  refine q_xs (fr := (env, h, 0, 0, bif q_op 2 (qI (qNn (lg_cmp (qJ x) (qJ y)))) (qI 0) then 17 else 6, [(0, (3, x)), (2, (3, y)), (4, (3, z))], [])) ?_ 4 rfl
  rw [q_lc1 x (by omega) y (by omega), show decide (x < y) = false from decide_eq_false (by omega)]
  refine q_xs (fr := (env, h, 0, 0, bif q_op 4 (qI (qNn (lg_cmp (qJ x) (qJ z)))) (qI 0) then 17 else 13, [(0, (3, x)), (2, (3, y)), (4, (3, z))], [])) ?_ 4 rfl
  rw [q_lc2 x (by omega) z (by omega), show decide (z < x) = false from decide_eq_false (by omega)]
  refine q_xs (fr := (env, h, 0, 0, 18, [(0, (3, x)), (2, (3, y)), (4, (3, z))], [(0, 1)])) ?_ 2 rfl
  exact q_xr rfl rfl rfl rfl (Nat.zero_le _) (Nat.zero_le _) rfl
