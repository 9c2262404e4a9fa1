-- 27.oath2: oathAt of the class, of the reference, of the law (the two loops printed by wip/p1/gen27.py)
def q_O (K w : Nat) : Nat → Nat → Nat → Nat → Option Nat
  | 0, _, _, _ => none
  | F + 1, m, f, s => if m < f then (if 13 < m + 1 then none else q_O K w F (m + 1) 1 s) else (if q_op 0 (qI s) (qI K) = true then some (if q_op 1 (qI w) (qI 0) = true then f else m) else q_O K w F m (f + 1) (s + 1))
def q_lO (fl : Bool) (r K w m f s : Nat) : qL := match fl with
  | true => [(5, (0, f)), (3, (0, s)), (4, (0, m)), (0, (6, r)), (1, (0, K)), (2, (0, w))]
  | false => [(5, (0, f)), (4, (0, m)), (3, (0, s)), (0, (6, r)), (1, (0, K)), (2, (0, w))]
theorem q_ol1 {d : Nat} {env : qE} {h : qH} {K w : Nat} (hf : q_ff h) : ∀ (F : Nat) (fl : Bool) (m f s : Nat), (13 - m) * 15 + (m + 2 - f) ≤ F → m ≤ 13 → 1 ≤ f → f ≤ m + 1 → s + F < 100000 →
    q_GE q_T (q_GM q_T (d + 2)) (q_T 155) false 0 (env, h, 0, 0, 30, q_lO fl 0 K w m f s, []) (fun r => r = q_bo env h (q_O K w F m f s)) := by
  intro F
  induction F with
  | zero => intro fl m f s hF hm hf1 hf2 hs; omega
  | succ F ih =>
    intro fl m f s hF hm hf1 hf2 hs
    refine q_xs (fr := (env, h, 0, 0, bif q_op 4 (qI f) (qI m) then 81 else 37, q_lO fl 0 K w m f s, [])) ?_ 3 (by cases fl <;> rfl)
    rw [q_opI (by omega) (by omega)]
    by_cases hmf : m < f
    · rw [show q_opN 4 f m = true from decide_eq_true hmf]
      have e0 : q_O K w (F + 1) m f s = if 13 < m + 1 then none else q_O K w F (m + 1) 1 s := if_pos hmf
      rw [e0]
      refine q_xs (fr := (env, h, 0, 0, bif q_op 4 (qI (qNn (qI m + qI 1))) (qI 13) then 87 else 27, [(4, (0, qNn (qI m + qI 1))), (5, (0, f)), (3, (0, s)), (0, (6, 0)), (1, (0, K)), (2, (0, w))], [])) ?_ 5 (by cases fl <;> rfl)
      rw [q_addI, q_nI (by omega), q_opI (by omega) (by omega)]
      by_cases h13 : 13 < m + 1
      · rw [show q_opN 4 (m + 1) 13 = true from decide_eq_true h13, if_pos h13]
        refine q_xs (fr := (env, h, 0, 0, 90, [(4, (0, m + 1)), (5, (0, f)), (3, (0, s)), (0, (6, 0)), (1, (0, K)), (2, (0, w))], [(0, 8), (6, 0)])) ?_ 2 rfl
        refine q_xc1 (q_GM_mono q_T (d + 2)) rfl rfl rfl (av := [(6, 0), (0, 8)]) (rest := []) rfl rfl ?_ (Nat.zero_le _) (Nat.zero_le _) (Nat.zero_le _) (q_bRs hf.1) ?_
        · show (Nat.beq 6 6 && Nat.blt 0 h.2 && Nat.beq (h.1.get 0).1 10) = true
          rw [hf.lt (by decide), hf.1.2.1]; rfl
        · exact q_xr rfl rfl rfl rfl (Nat.zero_le _) (Nat.zero_le _) rfl
      · rw [show q_opN 4 (m + 1) 13 = false from decide_eq_false h13, if_neg h13]
        refine q_xs (fr := (env, h, 0, 0, 30, q_lO false 0 K w (m + 1) 1 s, [])) ?_ 2 rfl
        exact ih false (m + 1) 1 s (by omega) (by omega) (by omega) (by omega) (by omega)
    · rw [show q_opN 4 f m = false from decide_eq_false hmf]
      have e0 : q_O K w (F + 1) m f s = if q_op 0 (qI s) (qI K) = true then some (if q_op 1 (qI w) (qI 0) = true then f else m) else q_O K w F m (f + 1) (s + 1) := if_neg hmf
      rw [e0]
      refine q_xs (fr := (env, h, 0, 0, 38, q_lO fl 0 K w m f s, [(6, 0)])) ?_ 1 (by cases fl <;> rfl)
      refine q_xg (x := (6, 4)) (cc := 0) (rest := []) rfl rfl rfl rfl (hf.lt (by decide)) hf.1.2.1 (by rw [hf.1.2.2.1]; rfl) hf.2.1 ?_
      refine q_xs (fr := (env, h, 0, 0, 45, q_lO fl 0 K w m f s, [(0, f), (0, m), (6, 4)])) ?_ 2 (by cases fl <;> rfl)
      refine q_xc1 (q_GM_mono q_T (d + 2)) rfl rfl rfl (av := [(6, 4), (0, m), (0, f)]) (rest := []) rfl rfl ?_ (Nat.zero_le _) (Nat.zero_le _) (Nat.zero_le _) (q_oO hf) ?_
      · show (Nat.beq 6 6 && Nat.blt 4 h.2 && Nat.beq (h.1.get 4).1 3) = true
        rw [hf.lt (by decide), hf.2.2.1]; rfl
      refine q_xs (fr := (env, h, 0, 0, bif !(q_op 0 (qI s) (qI K)) then 72 else 56, q_lO fl 0 K w m f s, [])) ?_ 4 (by cases fl <;> rfl)
      cases hq : q_op 0 (qI s) (qI K) with
      | true =>
        rw [if_pos rfl]
        refine q_xs (fr := (env, h, 0, 0, bif q_op 1 (qI w) (qI 0) then 66 else 61, q_lO fl 0 K w m f s, [(6, 0)])) ?_ 3 (by cases fl <;> rfl)
        cases hw : q_op 1 (qI w) (qI 0) with
        | true =>
          rw [if_pos rfl]
          refine q_xs (fr := (env, h, 0, 0, 68, q_lO fl 0 K w m f s, (0, f) :: [(6, 0)])) ?_ 1 (by cases fl <;> rfl)
          refine q_xc1 (q_GM_mono q_T (d + 2)) rfl rfl rfl (av := [(6, 0), (0, f)]) (rest := []) rfl rfl ?_ (Nat.zero_le _) (Nat.zero_le _) (Nat.zero_le _) (q_bA hf.1) ?_
          · show (Nat.beq 6 6 && Nat.blt 0 h.2 && Nat.beq (h.1.get 0).1 10) = true
            rw [hf.lt (by decide), hf.1.2.1]; rfl
          · exact q_xr rfl rfl rfl rfl (Nat.zero_le _) (Nat.zero_le _) rfl
        | false =>
          rw [if_neg (by decide)]
          refine q_xs (fr := (env, h, 0, 0, 68, q_lO fl 0 K w m f s, (0, m) :: [(6, 0)])) ?_ 2 (by cases fl <;> rfl)
          refine q_xc1 (q_GM_mono q_T (d + 2)) rfl rfl rfl (av := [(6, 0), (0, m)]) (rest := []) rfl rfl ?_ (Nat.zero_le _) (Nat.zero_le _) (Nat.zero_le _) (q_bA hf.1) ?_
          · show (Nat.beq 6 6 && Nat.blt 0 h.2 && Nat.beq (h.1.get 0).1 10) = true
            rw [hf.lt (by decide), hf.1.2.1]; rfl
          · exact q_xr rfl rfl rfl rfl (Nat.zero_le _) (Nat.zero_le _) rfl
      | false =>
        rw [if_neg (by decide)]
        refine q_xs (fr := (env, h, 0, 0, 30, q_lO true 0 K w m (qNn (qI f + qI 1)) (qNn (qI s + qI 1)), [])) ?_ 3 (by cases fl <;> rfl)
        rw [q_addI, q_addI, q_nI (by omega), q_nI (by omega)]
        exact ih true m (f + 1) (s + 1) (by omega) hm (by omega) (by omega) (by omega)
theorem q_ol2 {d : Nat} {env : qE} {h : qH} {K w : Nat} (hf : q_ff h) : ∀ (F : Nat) (fl : Bool) (m f s : Nat), (13 - m) * 15 + (m + 2 - f) ≤ F → m ≤ 13 → 1 ≤ f → f ≤ m + 1 → s + F < 100000 →
    q_GE q_T (q_GM q_T (d + 3)) (q_T 281) false 0 (env, h, 0, 0, 41, q_lO fl 534 K w m f s, []) (fun r => r = q_ro env h (q_O K w F m f s)) := by
  intro F
  induction F with
  | zero => intro fl m f s hF hm hf1 hf2 hs; omega
  | succ F ih =>
    intro fl m f s hF hm hf1 hf2 hs
    refine q_xs (fr := (env, h, 0, 0, bif q_op 4 (qI f) (qI m) then 88 else 48, q_lO fl 534 K w m f s, [])) ?_ 3 (by cases fl <;> rfl)
    rw [q_opI (by omega) (by omega)]
    by_cases hmf : m < f
    · rw [show q_opN 4 f m = true from decide_eq_true hmf]
      have e0 : q_O K w (F + 1) m f s = if 13 < m + 1 then none else q_O K w F (m + 1) 1 s := if_pos hmf
      rw [e0]
      refine q_xs (fr := (env, h, 0, 0, bif q_op 4 (qI (qNn (qI m + qI 1))) (qI 13) then 94 else 38, [(4, (0, qNn (qI m + qI 1))), (5, (0, f)), (3, (0, s)), (0, (6, 534)), (1, (0, K)), (2, (0, w))], [])) ?_ 5 (by cases fl <;> rfl)
      rw [q_addI, q_nI (by omega), q_opI (by omega) (by omega)]
      by_cases h13 : 13 < m + 1
      · rw [show q_opN 4 (m + 1) 13 = true from decide_eq_true h13, if_pos h13]
        refine q_xs (fr := (env, h, 0, 0, 97, [(4, (0, m + 1)), (5, (0, f)), (3, (0, s)), (0, (6, 534)), (1, (0, K)), (2, (0, w))], [(0, 8), (6, 534)])) ?_ 2 rfl
        refine q_xc1 (q_GM_mono q_T (d + 3)) rfl rfl rfl (av := [(6, 534), (0, 8)]) (rest := []) rfl rfl ?_ (Nat.zero_le _) (Nat.zero_le _) (Nat.zero_le _) (q_mRs hf.1) ?_
        · show (Nat.beq 6 6 && Nat.blt 534 h.2 && Nat.beq (h.1.get 534).1 11) = true
          rw [hf.lt (by decide), hf.1.2.2.2.2.2.1]; rfl
        · exact q_xr rfl rfl rfl rfl (Nat.zero_le _) (Nat.zero_le _) rfl
      · rw [show q_opN 4 (m + 1) 13 = false from decide_eq_false h13, if_neg h13]
        refine q_xs (fr := (env, h, 0, 0, 41, q_lO false 534 K w (m + 1) 1 s, [])) ?_ 2 rfl
        exact ih false (m + 1) 1 s (by omega) (by omega) (by omega) (by omega) (by omega)
    · rw [show q_opN 4 f m = false from decide_eq_false hmf]
      have e0 : q_O K w (F + 1) m f s = if q_op 0 (qI s) (qI K) = true then some (if q_op 1 (qI w) (qI 0) = true then f else m) else q_O K w F m (f + 1) (s + 1) := if_neg hmf
      rw [e0]
      refine q_xs (fr := (env, h, 0, 0, 53, q_lO fl 534 K w m f s, [(0, f), (0, m), (6, 534)])) ?_ 3 (by cases fl <;> rfl)
      refine q_xc1 (q_GM_mono q_T (d + 3)) rfl rfl rfl (av := [(6, 534), (0, m), (0, f)]) (rest := []) rfl rfl ?_ (Nat.zero_le _) (Nat.zero_le _) (Nat.zero_le _) (q_oF hf) ?_
      · show (Nat.beq 6 6 && Nat.blt 534 h.2 && Nat.beq (h.1.get 534).1 11) = true
        rw [hf.lt (by decide), hf.1.2.2.2.2.2.1]; rfl
      refine q_xs (fr := (env, h, 0, 0, bif !(q_op 0 (qI s) (qI K)) then 79 else 67, q_lO fl 534 K w m f s, [])) ?_ 4 (by cases fl <;> rfl)
      cases hq : q_op 0 (qI s) (qI K) with
      | true =>
        rw [if_pos rfl]
        refine q_xs (fr := (env, h, 0, 0, bif q_op 1 (qI w) (qI 0) then 76 else 71, q_lO fl 534 K w m f s, [])) ?_ 2 (by cases fl <;> rfl)
        cases hw : q_op 1 (qI w) (qI 0) with
        | true =>
          rw [if_pos rfl]
          refine q_xs (fr := (env, h, 0, 0, 78, q_lO fl 534 K w m f s, (0, f) :: [])) ?_ 1 (by cases fl <;> rfl)
          exact q_xr rfl rfl rfl rfl (Nat.zero_le _) (Nat.zero_le _) rfl
        | false =>
          rw [if_neg (by decide)]
          refine q_xs (fr := (env, h, 0, 0, 78, q_lO fl 534 K w m f s, (0, m) :: [])) ?_ 2 (by cases fl <;> rfl)
          exact q_xr rfl rfl rfl rfl (Nat.zero_le _) (Nat.zero_le _) rfl
      | false =>
        rw [if_neg (by decide)]
        refine q_xs (fr := (env, h, 0, 0, 41, q_lO true 534 K w m (qNn (qI f + qI 1)) (qNn (qI s + qI 1)), [])) ?_ 3 (by cases fl <;> rfl)
        rw [q_addI, q_addI, q_nI (by omega), q_nI (by omega)]
        exact ih true m (f + 1) (s + 1) (by omega) hm (by omega) (by omega) (by omega)
/-- the script's numbers known at places 1 and 2 -/
abbrev q_eo (v1 v2 : Nat) : qE := [(0, 4294967295), (v1, v1), (v2, v2), (0, 4294967295), (0, 4294967295), (0, 4294967295)]
noncomputable def q_oo (env : qE) (h : qH) (b : Bool) (r : Option Nat) : qO := match b with
  | true => q_bo env h r
  | false => (env, q_put h 0 0 (0, 5), some (0, 4294967295))
noncomputable def q_oor (env : qE) (h : qH) (b : Bool) (r : Option Nat) : qO := match b with
  | true => q_ro env h r
  | false => (env, q_put h 534 0 (0, 5), some (0, 4294967295))
theorem q_oK {d v1 v2 : Nat} {h : qH} (hf : q_ff h) : q_GM q_T (d + 3) 155 (q_eo v1 v2) h [(6, 0), (1, 1), (1, 2)] (fun r => r = q_oo (q_eo v1 v2) h (q_wi (q_cd v2) 0 1) (q_O (q_cd v1) (q_cd v2) 200 2 1 0)) := by
  refine ⟨Nat.le_of_ble_eq_true rfl, ?_⟩
  show q_GE q_T (q_GM q_T (d + 2)) (q_T 155) false 0 (q_eo v1 v2, h, 0, 0, 0, [(0, (6, 0)), (1, (1, 1)), (2, (1, 2))], []) _
  refine q_xn ?_
  show q_GE q_T (q_GM q_T (d + 2)) (q_T 155) false 0 (q_eo v1 v2, h, 0, 0, 0, [(0, (6, 0)), (1, q_pn (q_eo v1 v2) (1, 1)), (2, q_pn (q_eo v1 v2) (1, 2))], []) _
  rw [q_pnG (v := v1) rfl, q_pnG (v := v2) rfl]
  generalize q_eo v1 v2 = env
  generalize q_cd v1 = K
  generalize q_cd v2 = w
  refine q_xs (fr := (env, h, 0, 0, 3, [(0, (6, 0)), (1, (0, K)), (2, (0, w))], [(0, 1), (0, 0), (0, w)])) ?_ 3 rfl
  refine q_xc1 (q_GM_mono q_T (d + 2)) rfl rfl rfl (av := [(0, w), (0, 0), (0, 1)]) (rest := []) rfl rfl rfl (Nat.zero_le _) (Nat.zero_le _) (Nat.zero_le _) q_bWi ?_
  cases hw : q_wi w 0 1 with
  | false =>
    refine q_xs (fr := (env, h, 0, 0, 11, [(0, (6, 0)), (1, (0, K)), (2, (0, w))], [(0, 5), (6, 0)])) ?_ 3 rfl
    refine q_xc1 (q_GM_mono q_T (d + 2)) rfl rfl rfl (av := [(6, 0), (0, 5)]) (rest := []) rfl rfl ?_ (Nat.zero_le _) (Nat.zero_le _) (Nat.zero_le _) (q_bRs hf.1) ?_
    · show (Nat.beq 6 6 && Nat.blt 0 h.2 && Nat.beq (h.1.get 0).1 10) = true
      rw [hf.lt (by decide), hf.1.2.1]; rfl
    · exact q_xr rfl rfl rfl rfl (Nat.zero_le _) (Nat.zero_le _) rfl
  | true =>
    refine q_xs (fr := (env, h, 0, 0, 30, q_lO false 0 K w 2 1 0, [])) ?_ 10 rfl
    exact q_ol1 hf 200 false 2 1 0 (by decide) (by decide) (by decide) (by decide) (by decide)
theorem q_oR {d v1 v2 : Nat} {h : qH} (hf : q_ff h) : q_GM q_T (d + 4) 281 (q_eo v1 v2) h [(6, 534), (1, 1), (1, 2)] (fun r => r = q_oor (q_eo v1 v2) (q_h2 h) (q_wi (q_cd v2) 0 1) (q_O (q_cd v1) (q_cd v2) 200 2 1 0)) := by
  refine ⟨Nat.le_of_ble_eq_true rfl, ?_⟩
  show q_GE q_T (q_GM q_T (d + 3)) (q_T 281) false 0 (q_eo v1 v2, h, 0, 0, 0, [(0, (6, 534)), (1, (1, 1)), (2, (1, 2))], []) _
  refine q_xn ?_
  show q_GE q_T (q_GM q_T (d + 3)) (q_T 281) false 0 (q_eo v1 v2, h, 0, 0, 0, [(0, (6, 534)), (1, q_pn (q_eo v1 v2) (1, 1)), (2, q_pn (q_eo v1 v2) (1, 2))], []) _
  rw [q_pnG (v := v1) rfl, q_pnG (v := v2) rfl]
  generalize q_eo v1 v2 = env
  generalize q_cd v1 = K
  generalize q_cd v2 = w
  refine q_xs (fr := (env, h, 0, 0, 2, [(0, (6, 534)), (1, (0, K)), (2, (0, w))], [(0, 0), (6, 534)])) ?_ 2 rfl
  refine q_xp (y := (0, 0)) (cc := 534) (rest := []) rfl rfl rfl rfl (hf.lt (by decide)) hf.1.2.2.2.2.2.1 (by rw [hf.1.2.2.2.2.2.2]; rfl) rfl rfl ?_
  have hf1 : q_ff (q_put h 534 1 (0, 0)) := hf.put (Or.inr rfl) (by decide)
  refine q_xs (fr := (env, q_put h 534 1 (0, 0), 0, 0, 7, [(0, (6, 534)), (1, (0, K)), (2, (0, w))], [(0, 0), (6, 534)])) ?_ 2 rfl
  refine q_xp (y := (0, 0)) (cc := 534) (rest := []) rfl rfl rfl rfl (hf1.lt (by decide)) hf1.1.2.2.2.2.2.1 (by rw [hf1.1.2.2.2.2.2.2]; rfl) rfl rfl ?_
  have hf2 : q_ff (q_h2 h) := hf1.put (Or.inr rfl) (by decide)
  show q_GE q_T (q_GM q_T (d + 3)) (q_T 281) false 0 (env, q_h2 h, 0, 0, 10, [(0, (6, 534)), (1, (0, K)), (2, (0, w))], []) _
  generalize q_h2 h = h2 at hf2 ⊢
  refine q_xs (fr := (env, h2, 0, 0, 14, [(0, (6, 534)), (1, (0, K)), (2, (0, w))], [(3, 1), (3, 0), (3, qMn (qI w).toInt64)])) ?_ 4 rfl
  refine q_xc1 (q_GM_mono q_T (d + 3)) rfl rfl rfl (av := [(3, qMn (qI w).toInt64), (3, 0), (3, 1)]) (rest := []) rfl rfl rfl (Nat.zero_le _) (Nat.zero_le _) (Nat.zero_le _) q_mIi ?_
  cases hw : q_wi w 0 1 with
  | false =>
    refine q_xs (fr := (env, h2, 0, 0, 22, [(0, (6, 534)), (1, (0, K)), (2, (0, w))], [(0, 5), (6, 534)])) ?_ 3 rfl
    refine q_xc1 (q_GM_mono q_T (d + 3)) rfl rfl rfl (av := [(6, 534), (0, 5)]) (rest := []) rfl rfl ?_ (Nat.zero_le _) (Nat.zero_le _) (Nat.zero_le _) (q_mRs hf2.1) ?_
    · show (Nat.beq 6 6 && Nat.blt 534 h2.2 && Nat.beq (h2.1.get 534).1 11) = true
      rw [hf2.lt (by decide), hf2.1.2.2.2.2.2.1]; rfl
    · exact q_xr rfl rfl rfl rfl (Nat.zero_le _) (Nat.zero_le _) rfl
  | true =>
    refine q_xs (fr := (env, h2, 0, 0, 41, q_lO false 534 K w 2 1 0, [])) ?_ 10 rfl
    exact q_ol2 hf2 200 false 2 1 0 (by decide) (by decide) (by decide) (by decide) (by decide)
def q_Rv (b : Bool) (r : Option Nat) : Nat := match b with
  | true => r.getD 4294967295
  | false => 4294967295
theorem q_oor1 {env : qE} {h : qH} (hf : q_ff h) (b : Bool) (r : Option Nat) : (q_oo env h b r).1 = env ∧ q_ff (q_oo env h b r).2.1 ∧ (q_oo env h b r).2.2 = some (0, q_Rv b r) := by
  cases b with
  | false => exact ⟨rfl, hf.put (Or.inl rfl) (by decide), rfl⟩
  | true => cases r with
    | none => exact ⟨rfl, hf.put (Or.inl rfl) (by decide), rfl⟩
    | some r => exact ⟨rfl, hf.put (Or.inl rfl) (by decide), rfl⟩
theorem q_oor2 {env : qE} {h : qH} (b : Bool) (r : Option Nat) : (q_oor env h b r).1 = env ∧ (q_oor env h b r).2.2 = some (0, q_Rv b r) := by
  cases b with
  | false => exact ⟨rfl, rfl⟩
  | true => cases r with
    | none => exact ⟨rfl, rfl⟩
    | some r => exact ⟨rfl, rfl⟩
theorem q_k35x {d v1 v2 k sl R : Nat} {h : qH} {o1 : qO} (hk : k ≤ 600000) (hsl : sl ≤ 7302250) (hf : q_ff h) (c1 : q_GM q_T (d + 4) 155 (q_eo v1 v2) h [(6, 0), (1, 1), (1, 2)] (fun r => r = o1)) (b1 : o1.1 = q_eo v1 v2) (b2 : q_ff o1.2.1) (b3 : o1.2.2 = some (0, R))
    (c2 : ∀ h1, q_ff h1 → ∃ o2, q_GM q_T (d + 4) 281 (q_eo v1 v2) h1 [(6, 534), (1, 1), (1, 2)] (fun r => r = o2) ∧ o2.1 = q_eo v1 v2 ∧ o2.2.2 = some (0, R)) :
    q_GE q_T (q_GM q_T (d + 4)) q_ML true 6 (q_eo v1 v2, h, k, sl, 1286, q_lvL, []) (fun o => o.2.2 = some (0, 1)) := by
  refine q_xs (fr := (q_eo v1 v2, h, k, sl, 1297, q_lvL, [(1, 2), (1, 1), (6, 0)])) ?_ 11 rfl
  refine q_xc1 (q_GM_mono q_T (d + 4)) rfl rfl rfl (av := [(6, 0), (1, 1), (1, 2)]) (rest := []) rfl rfl ?_ (Nat.zero_le _) hk hsl c1 ?_
  · show (Nat.beq 6 6 && Nat.blt 0 h.2 && Nat.beq (h.1.get 0).1 10) = true
    rw [hf.lt (by decide), hf.1.2.1]; rfl
  obtain ⟨o2, c2, c3, c4⟩ := c2 _ b2
  rw [b1, b3]
  generalize o1.2.1 = h1 at b2 c2 ⊢
  refine q_xs (fr := (q_eo v1 v2, h1, k, sl, 1311, q_lvL, [(1, 2), (1, 1), (6, 534), (0, R)])) ?_ 11 rfl
  refine q_xc1 (q_GM_mono q_T (d + 4)) rfl rfl rfl (av := [(6, 534), (1, 1), (1, 2)]) (rest := [(0, R)]) rfl rfl ?_ (Nat.le_of_ble_eq_true rfl) hk hsl c2 ?_
  · show (Nat.beq 6 6 && Nat.blt 534 h1.2 && Nat.beq (h1.1.get 534).1 11) = true
    rw [b2.lt (by decide), b2.1.2.2.2.2.2.1]; rfl
  rw [c3, c4]
  generalize o2.2.1 = h3
  refine q_xs (fr := (q_eo v1 v2, h3, k, sl, bif q_op 0 (qI R) (qI R) then 1740 else 1317, q_lvL, [])) ?_ 1 rfl
  rw [q_eqr]
  refine q_xs (fr := (q_eo v1 v2, h3, k, sl, 1747, [(3, (0, 6)), (2, (6, 534)), (1, (6, 0)), (0, (9, 0))], [(0, 1)])) ?_ 9 rfl
  exact q_xr rfl rfl rfl rfl hk hsl rfl
/-- case 35: true -/
theorem q_k35 {d v1 v2 k sl : Nat} {h : qH} (hk : k ≤ 600000) (hsl : sl ≤ 7302250) (hf : q_ff h) :
    q_GE q_T (q_GM q_T (d + 4)) q_ML true 6 (q_eo v1 v2, h, k, sl, 1286, q_lvL, []) (fun o => o.2.2 = some (0, 1)) := by
  obtain ⟨b1, b2, b3⟩ := q_oor1 (env := q_eo v1 v2) hf (q_wi (q_cd v2) 0 1) (q_O (q_cd v1) (q_cd v2) 200 2 1 0)
  exact q_k35x hk hsl hf (q_oK (d := d + 1) hf) b1 b2 b3 (fun h1 hf1 => ⟨_, q_oR hf1, q_oor2 _ _⟩)
