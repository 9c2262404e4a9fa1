-- 23.both2: 'both' called with the script's numbers
abbrev q_c31 : Nat := 2147483648
/-- the script's numbers known at places 1 to 4 -/
abbrev q_ev (e0 e5 : Nat × Nat) (m a n b : Nat) : qE := [e0, (m + 2147483648, m + 2147483648), (a + 2147483648, a + 2147483648), (n + 2147483648, n + 2147483648), (b + 2147483648, b + 2147483648), e5]
theorem q_cdI {m : Nat} (h : m < 1000) : q_cd (m + 2147483648) = m := by
  unfold q_cd
  omega
theorem q_pnG {env : qE} {i v : Nat} (h : q_eg env i = (v, v)) : q_pn env (1, i) = (0, q_cd v) := by
  unfold q_pn
  show (bif Nat.beq 1 1 && Nat.beq (q_eg env i).1 (q_eg env i).2 then (0, q_cd (q_eg env i).1) else (1, i)) = _
  rw [h]
  show (bif Nat.beq 1 1 && Nat.beq v v then (0, q_cd v) else (1, i)) = _
  rw [Nat.beq_refl v]
  rfl
theorem q_pn1 {e0 e5 : Nat × Nat} {m a n b : Nat} (h : m < 1000) : q_pn (q_ev e0 e5 m a n b) (1, 1) = (0, m) := by
  rw [q_pnG (v := m + 2147483648) rfl, q_cdI h]
theorem q_pn2 {e0 e5 : Nat × Nat} {m a n b : Nat} (h : a < 1000) : q_pn (q_ev e0 e5 m a n b) (1, 2) = (0, a) := by
  rw [q_pnG (v := a + 2147483648) rfl, q_cdI h]
theorem q_pn3 {e0 e5 : Nat × Nat} {m a n b : Nat} (h : n < 1000) : q_pn (q_ev e0 e5 m a n b) (1, 3) = (0, n) := by
  rw [q_pnG (v := n + 2147483648) rfl, q_cdI h]
theorem q_pn4 {e0 e5 : Nat × Nat} {m a n b : Nat} (h : b < 1000) : q_pn (q_ev e0 e5 m a n b) (1, 4) = (0, b) := by
  rw [q_pnG (v := b + 2147483648) rfl, q_cdI h]
theorem q_bK {d : Nat} {e0 e5 : Nat × Nat} {h : qH} {m a n b : Nat} (hh : q_hh h) (hm1 : 2 ≤ m) (hm : m ≤ 13) (hn1 : 2 ≤ n) (hn : n ≤ 13) (ha1 : 1 ≤ a) (ha : a ≤ m) (hb1 : 1 ≤ b) (hb : b ≤ n) :
    q_GM q_T (d + 3) 164 (q_ev e0 e5 m a n b) h [(6, 0), (1, 1), (1, 2), (1, 3), (1, 4)] (fun r => r = q_bo (q_ev e0 e5 m a n b) h (q_F m n (m * n) a b 0)) := by
  refine ⟨Nat.le_of_ble_eq_true rfl, ?_⟩
  show q_GE q_T (q_GM q_T (d + 2)) (q_T 164) false 0 (q_ev e0 e5 m a n b, h, 0, 0, 0, [(0, (6, 0)), (1, (1, 1)), (2, (1, 2)), (3, (1, 3)), (4, (1, 4))], []) _
  refine q_xn ?_
  show q_GE q_T (q_GM q_T (d + 2)) (q_T 164) false 0 (q_ev e0 e5 m a n b, h, 0, 0, 0, [(0, (6, 0)), (1, q_pn (q_ev e0 e5 m a n b) (1, 1)), (2, q_pn (q_ev e0 e5 m a n b) (1, 2)), (3, q_pn (q_ev e0 e5 m a n b) (1, 3)), (4, q_pn (q_ev e0 e5 m a n b) (1, 4))], []) _
  rw [q_pn1 (by omega), q_pn2 (by omega), q_pn3 (by omega), q_pn4 (by omega)]
  generalize q_ev e0 e5 m a n b = env
  refine q_xs (fr := (env, h, 0, 0, 2, [(0, (6, 0)), (1, (0, m)), (2, (0, a)), (3, (0, n)), (4, (0, b))], [(0, a), (0, m)])) ?_ 2 rfl
  refine q_xc1 (q_GM_mono q_T (d + 2)) rfl rfl rfl (av := [(0, m), (0, a)]) (rest := []) rfl rfl rfl (Nat.zero_le _) (Nat.zero_le _) (Nat.zero_le _) (q_bC hm1 hm ha1 ha) ?_
  refine q_xs (fr := (env, h, 0, 0, 11, [(0, (6, 0)), (1, (0, m)), (2, (0, a)), (3, (0, n)), (4, (0, b))], [(0, b), (0, n)])) ?_ 3 rfl
  refine q_xc1 (q_GM_mono q_T (d + 2)) rfl rfl rfl (av := [(0, n), (0, b)]) (rest := []) rfl rfl rfl (Nat.zero_le _) (Nat.zero_le _) (Nat.zero_le _) (q_bC hn1 hn hb1 hb) ?_
  refine q_xs (fr := (env, h, 0, 0, 33, q_lv1 m a n b 0 b a, [])) ?_ 7 rfl
  exact q_cl1 (d := d + 1) hh (by omega) hm (by omega) hn (m * n) 0 a b (by omega) ha hb
noncomputable abbrev q_h2 (h : qH) : qH := q_put (q_put h 534 1 (0, 0)) 534 0 (0, 0)
theorem q_rK {d : Nat} {e0 e5 : Nat × Nat} {h : qH} {m a n b : Nat} (hh : q_hh h) (hm1 : 2 ≤ m) (hm : m ≤ 13) (hn1 : 2 ≤ n) (hn : n ≤ 13) (ha1 : 1 ≤ a) (ha : a ≤ m) (hb1 : 1 ≤ b) (hb : b ≤ n) :
    q_GM q_T (d + 3) 293 (q_ev e0 e5 m a n b) h [(6, 534), (1, 1), (1, 2), (1, 3), (1, 4)] (fun r => r = q_ro (q_ev e0 e5 m a n b) (q_h2 h) (q_R m a n b (m * n) 0)) := by
  refine ⟨Nat.le_of_ble_eq_true rfl, ?_⟩
  show q_GE q_T (q_GM q_T (d + 2)) (q_T 293) false 0 (q_ev e0 e5 m a n b, h, 0, 0, 0, [(0, (6, 534)), (1, (1, 1)), (2, (1, 2)), (3, (1, 3)), (4, (1, 4))], []) _
  refine q_xn ?_
  show q_GE q_T (q_GM q_T (d + 2)) (q_T 293) false 0 (q_ev e0 e5 m a n b, h, 0, 0, 0, [(0, (6, 534)), (1, q_pn (q_ev e0 e5 m a n b) (1, 1)), (2, q_pn (q_ev e0 e5 m a n b) (1, 2)), (3, q_pn (q_ev e0 e5 m a n b) (1, 3)), (4, q_pn (q_ev e0 e5 m a n b) (1, 4))], []) _
  rw [q_pn1 (by omega), q_pn2 (by omega), q_pn3 (by omega), q_pn4 (by omega)]
  generalize q_ev e0 e5 m a n b = env
  refine q_xs (fr := (env, h, 0, 0, 2, [(0, (6, 534)), (1, (0, m)), (2, (0, a)), (3, (0, n)), (4, (0, b))], [(0, 0), (6, 534)])) ?_ 2 rfl
  refine q_xp (y := (0, 0)) (cc := 534) (rest := []) rfl rfl rfl rfl hh.2.2.2.1 hh.2.2.2.2.2.1 (by rw [hh.2.2.2.2.2.2]; rfl) rfl rfl ?_
  have hh1 : q_hh (q_put h 534 1 (0, 0)) := hh.put (Or.inr rfl)
  refine q_xs (fr := (env, q_put h 534 1 (0, 0), 0, 0, 7, [(0, (6, 534)), (1, (0, m)), (2, (0, a)), (3, (0, n)), (4, (0, b))], [(0, 0), (6, 534)])) ?_ 2 rfl
  refine q_xp (y := (0, 0)) (cc := 534) (rest := []) rfl rfl rfl rfl hh1.2.2.2.1 hh1.2.2.2.2.2.1 (by rw [hh1.2.2.2.2.2.2]; rfl) rfl rfl ?_
  have hh2 : q_hh (q_h2 h) := hh1.put (Or.inr rfl)
  show q_GE q_T (q_GM q_T (d + 2)) (q_T 293) false 0 (env, q_h2 h, 0, 0, 10, [(0, (6, 534)), (1, (0, m)), (2, (0, a)), (3, (0, n)), (4, (0, b))], []) _
  generalize q_h2 h = h2 at hh2 ⊢
  refine q_xs (fr := (env, h2, 0, 0, 18, [(0, (6, 534)), (1, (0, m)), (2, (0, a)), (3, (0, n)), (4, (0, b))], [(3, 13), (3, 2), (3, qMn (qI m).toInt64)])) ?_ 4 rfl
  rw [q_i2l m (by omega)]
  refine q_xc1 (q_GM_mono q_T (d + 2)) rfl rfl rfl (av := [(3, m), (3, 2), (3, 13)]) (rest := []) rfl rfl rfl (Nat.zero_le _) (Nat.zero_le _) (Nat.zero_le _) (q_mI1 hm1 hm (by omega)) ?_
  refine q_xs (fr := (env, h2, 0, 0, 32, [(0, (6, 534)), (1, (0, m)), (2, (0, a)), (3, (0, n)), (4, (0, b))], [(3, 13), (3, 2), (3, qMn (qI n).toInt64)])) ?_ 5 rfl
  rw [q_i2l n (by omega)]
  refine q_xc1 (q_GM_mono q_T (d + 2)) rfl rfl rfl (av := [(3, n), (3, 2), (3, 13)]) (rest := []) rfl rfl rfl (Nat.zero_le _) (Nat.zero_le _) (Nat.zero_le _) (q_mI1 hn1 hn (by omega)) ?_
  refine q_xs (fr := (env, h2, 0, 0, 43, [(0, (6, 534)), (1, (0, m)), (2, (0, a)), (3, (0, n)), (4, (0, b))], [(3, qMn (qI m).toInt64), (3, 1), (3, qMn (qI a).toInt64)])) ?_ 6 rfl
  rw [q_i2l m (by omega), q_i2l a (by omega)]
  refine q_xc1 (q_GM_mono q_T (d + 2)) rfl rfl rfl (av := [(3, a), (3, 1), (3, m)]) (rest := []) rfl rfl rfl (Nat.zero_le _) (Nat.zero_le _) (Nat.zero_le _) (q_mI1 ha1 ha (by omega)) ?_
  refine q_xs (fr := (env, h2, 0, 0, 55, [(0, (6, 534)), (1, (0, m)), (2, (0, a)), (3, (0, n)), (4, (0, b))], [(3, qMn (qI n).toInt64), (3, 1), (3, qMn (qI b).toInt64)])) ?_ 6 rfl
  rw [q_i2l n (by omega), q_i2l b (by omega)]
  refine q_xc1 (q_GM_mono q_T (d + 2)) rfl rfl rfl (av := [(3, b), (3, 1), (3, n)]) (rest := []) rfl rfl rfl (Nat.zero_le _) (Nat.zero_le _) (Nat.zero_le _) (q_mI1 hb1 hb (by omega)) ?_
  refine q_xs (fr := (env, h2, 0, 0, 70, q_lv2 m a n b 0, [])) ?_ 3 rfl
  exact q_rl1 (d := d + 1) hh2 (by omega) hm (by omega) hn (by omega) (by omega) (m * n) 0 (by omega)
theorem q_bor {env : qE} {h : qH} (hh : q_hh h) (r : Option Nat) : (q_bo env h r).1 = env ∧ q_hh (q_bo env h r).2.1 ∧ (q_bo env h r).2.2 = some (0, r.getD 4294967295) := by
  cases r with
  | none => exact ⟨rfl, hh.put (Or.inl rfl), rfl⟩
  | some r => exact ⟨rfl, hh.put (Or.inl rfl), rfl⟩
theorem q_ror {env : qE} {h : qH} (r : Option Nat) : (q_ro env h r).1 = env ∧ (q_ro env h r).2.2 = some (0, r.getD 4294967295) := by
  cases r with
  | none => exact ⟨rfl, rfl⟩
  | some r => exact ⟨rfl, rfl⟩
/-- the law's locals within its loop -/
abbrev q_lvL : qL := [(3, (0, 0)), (2, (6, 534)), (1, (6, 0)), (0, (9, 0))]
theorem q_eqr (u : Int32) : q_op 0 u u = true := decide_eq_true rfl
/-- case 40 for numbers that can be: true -/
theorem q_k40 {d : Nat} {e0 e5 : Nat × Nat} {h : qH} {k sl m a n b : Nat} (hk : k ≤ 600000) (hsl : sl ≤ 7302250) (hh : q_hh h) (hm1 : 2 ≤ m) (hm : m ≤ 13) (hn1 : 2 ≤ n) (hn : n ≤ 13) (ha1 : 1 ≤ a) (ha : a ≤ m) (hb1 : 1 ≤ b) (hb : b ≤ n) :
    q_GE q_T (q_GM q_T (d + 3)) q_ML true 6 (q_ev e0 e5 m a n b, h, k, sl, 1437, q_lvL, []) (fun o => o.2.2 = some (0, 1)) := by
  have hF : q_F m n (m * n) a b 0 = q_R m a n b (m * n) 0 := q_FR (by omega) (by omega) (m * n) 0 a b ha1 ha rfl hb1 hb rfl
  refine q_xs (fr := (q_ev e0 e5 m a n b, h, k, sl, 1458, q_lvL, [(1, 4), (1, 3), (1, 2), (1, 1), (6, 0)])) ?_ 21 rfl
  obtain ⟨b1, b2, b3⟩ := q_bor (env := q_ev e0 e5 m a n b) hh (q_F m n (m * n) a b 0)
  refine q_xc1 (q_GM_mono q_T (d + 3)) rfl rfl rfl (av := [(6, 0), (1, 1), (1, 2), (1, 3), (1, 4)]) (rest := []) rfl rfl ?_ (Nat.zero_le _) hk hsl (q_bK hh hm1 hm hn1 hn ha1 ha hb1 hb) ?_
  · show (Nat.beq 6 6 && Nat.blt 0 h.2 && Nat.beq (h.1.get 0).1 10) = true
    rw [hh.1, hh.2.1]; rfl
  rw [b1, b3]
  generalize (q_bo (q_ev e0 e5 m a n b) h (q_F m n (m * n) a b 0)).2.1 = h1 at b2 ⊢
  refine q_xs (fr := (q_ev e0 e5 m a n b, h1, k, sl, 1482, q_lvL, [(1, 4), (1, 3), (1, 2), (1, 1), (6, 534), (0, (q_F m n (m * n) a b 0).getD 4294967295)])) ?_ 21 rfl
  obtain ⟨c1, c3⟩ := q_ror (env := q_ev e0 e5 m a n b) (h := q_h2 h1) (q_R m a n b (m * n) 0)
  refine q_xc1 (q_GM_mono q_T (d + 3)) rfl rfl rfl (av := [(6, 534), (1, 1), (1, 2), (1, 3), (1, 4)]) (rest := [(0, (q_F m n (m * n) a b 0).getD 4294967295)]) rfl rfl ?_ (Nat.le_of_ble_eq_true rfl) hk hsl (q_rK b2 hm1 hm hn1 hn ha1 ha hb1 hb) ?_
  · show (Nat.beq 6 6 && Nat.blt 534 h1.2 && Nat.beq (h1.1.get 534).1 11) = true
    rw [b2.2.2.2.1, b2.2.2.2.2.2.1]; rfl
  rw [c1, c3, hF]
  generalize (q_ro (q_ev e0 e5 m a n b) (q_h2 h1) (q_R m a n b (m * n) 0)).2.1 = h3
  generalize (q_R m a n b (m * n) 0).getD 4294967295 = r
  refine q_xs (fr := (q_ev e0 e5 m a n b, h3, k, sl, bif q_op 0 (qI r) (qI r) then 1740 else 1488, q_lvL, [])) ?_ 1 rfl
  rw [q_eqr]
  refine q_xs (fr := (q_ev e0 e5 m a n b, h3, k, sl, 1747, [(3, (0, 6)), (2, (6, 534)), (1, (6, 0)), (0, (9, 0))], [(0, 1)])) ?_ 9 rfl
  exact q_xr rfl rfl rfl rfl hk hsl rfl
