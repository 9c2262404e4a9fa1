-- 74.law: the law's loop (printed by wip/p5/gen74.py)
theorem q_addI (u v : Nat) : qI u + qI v = qI (u + v) := (Int32.ofNat_add u v).symm
theorem q_nI {u : Nat} (hu : u < 4294967296) : qNn (qI u) = u := by
  show (BitVec.ofNat 32 u).toNat = u
  rw [BitVec.toNat_ofNat]
  exact Nat.mod_eq_of_lt hu
def q_pe (xs : Nat → Int32) (L : Nat) : qE := (List.range L).map fun j => (qB (xs j), qB (xs j))
theorem q_pe_get {xs : Nat → Int32} {L j : Nat} (hj : j < L) : (q_pe xs L)[j]? = some (qB (xs j), qB (xs j)) := by
  unfold q_pe
  rw [List.getElem?_map, List.getElem?_range hj]
  rfl
theorem q_pe_En (xs : Nat → Int32) (L : Nat) : q_En xs (q_pe xs L) := by
  intro i p hp
  by_cases hi : i < L
  · rw [q_pe_get hi] at hp
    cases hp
    exact ⟨Nat.le_refl _, Nat.le_refl _⟩
  · unfold q_pe at hp
    rw [List.getElem?_eq_none (by rw [List.length_map, List.length_range]; omega)] at hp
    cases hp
abbrev q_PL : qO → Prop := fun o => o.2.2 = some (0, 1)
def q_lv (i : Nat) : qL := [(3, (0, i)), (2, (6, 534)), (1, (6, 0)), (0, (9, 0))]
abbrev q_G (xs : Nat → Int32) (L k sl : Nat) (h : qH) (p : Nat) (lv : qL) (stk : List qV) : Prop := q_GE q_T (q_GM q_T q_Dm) q_ML true L (q_pe xs L, h, k, sl, p, lv, stk) q_PL
def q_Case (xs : Nat → Int32) (L k sl p : Nat) : Prop := ∀ (i : Nat) (h : qH), i + 6 ≤ L → q_INV h → (∀ h', q_INV h' → q_G xs L k sl h' 1737 (q_lv i) []) → q_G xs L k sl h p (q_lv i) []
section
variable {xs : Nat → Int32} {L k sl : Nat} {h : qH} {i p j j2 : Nat} {stk : List qV}
theorem q_xi {tab : Nat → qM} {call : q_call} {M : qM} {scr : Bool} {env : qE} {pc : Nat} {lv : qL} {P : qO → Prop} {e : qN} {fr : qF} (he : (q_mI M).get pc = e) (hpc : q_pc e = pc) (hs : q_stepS (q_mc M) (q_ms M) scr L (q_mL M) e env h k sl lv stk = some [fr]) (hn : q_GE tab call M scr L fr P) : q_GE tab call M scr L (env, h, k, sl, pc, lv, stk) P := by
  obtain ⟨n, hn⟩ := hn
  subst he
  rw [← q_step_S] at hs
  exact ⟨n + 1, Or.inl ⟨hpc, Or.inr (Or.inr ⟨[fr], hs, fun f hf => by rw [List.mem_singleton.mp hf]; exact hn⟩)⟩⟩
theorem q_i1a (he : (q_mI q_ML).get p = (1, p, 4, 1, 0, 0, [])) (hn : q_G xs L k sl h (p + 1) (q_lv i) ((6, 0) :: stk)) : q_G xs L k sl h p (q_lv i) stk := q_xi he rfl rfl hn
theorem q_i1b (he : (q_mI q_ML).get p = (1, p, 4, 2, 0, 0, [])) (hn : q_G xs L k sl h (p + 1) (q_lv i) ((6, 534) :: stk)) : q_G xs L k sl h p (q_lv i) stk := q_xi he rfl rfl hn
theorem q_i10 (he : (q_mI q_ML).get p = (1, p, 4, 0, 0, 0, [])) (hn : q_G xs L k sl h (p + 1) (q_lv i) ((9, 0) :: stk)) : q_G xs L k sl h p (q_lv i) stk := q_xi he rfl rfl hn
theorem q_i13 (he : (q_mI q_ML).get p = (1, p, 0, 3, 0, 0, [])) (hn : q_G xs L k sl h (p + 1) (q_lv i) ((0, i) :: stk)) : q_G xs L k sl h p (q_lv i) stk := q_xi he rfl rfl hn
theorem q_i0 (he : (q_mI q_ML).get p = (0, p, 0, j, 0, 0, [])) (hj : q_s0v 0 j 0 = (0, j)) (hn : q_G xs L k sl h (p + 1) (q_lv i) ((0, j) :: stk)) : q_G xs L k sl h p (q_lv i) stk := by
  refine q_xi he rfl (fr := (q_pe xs L, h, k, sl, p + 1, q_lv i, q_s0v 0 j 0 :: stk)) rfl ?_
  rw [hj]
  exact hn
theorem q_iad {u v : Nat} (he : (q_mI q_ML).get p = (4, p, 0, 0, 0, 0, [])) (hb : u + v < 4294967296) (hn : q_G xs L k sl h (p + 1) (q_lv i) ((0, u + v) :: stk)) : q_G xs L k sl h p (q_lv i) ((0, v) :: (0, u) :: stk) := by
  refine q_xi he rfl (fr := (q_pe xs L, h, k, sl, p + 1, q_lv i, (0, qNn (qI u + qI v)) :: stk)) rfl ?_
  rw [q_addI, q_nI hb]
  exact hn
/-- a place of the script that is known is a number -/
theorem q_xk {lv : qL} {n : Nat} (hj : n < L) (hn : q_G xs L k sl h p lv ((0, qNn (xs n)) :: stk)) : q_G xs L k sl h p lv ((1, n) :: stk) := by
  refine q_xv ?_ hn
  intro ρ sb ws tys cl st ⟨hE, hH, hLs, hS⟩
  refine ⟨_, rfl, rfl, rfl, rfl, hE, hH, hLs, ?_⟩
  have hS : q_Sk ρ sb ws ((1, n) :: stk) st := hS
  rcases st with _ | ⟨v, st⟩
  · exact (hS : False).elim
  · have hv : v = .int (ρ n) := hS.1
    have hb := hE n _ (q_pe_get hj)
    have e : ρ n = xs n := qB_inj.mpr (by have h1 := hb.1; have h2 := hb.2; exact Nat.le_antisymm h2 h1)
    refine ⟨?_, hS.2⟩
    show v = .int (qI (qNn (xs n)))
    rw [qI_N, hv, e]
theorem q_ial {n : Nat} (he : (q_mI q_ML).get p = (20, p, 0, 0, 0, 0, [])) (hj : n < L) (hL : L ≤ 3072) (hn : q_G xs L k sl h (p + 1) (q_lv i) ((0, qNn (xs n)) :: stk)) : q_G xs L k sl h p (q_lv i) ((0, n) :: (9, 0) :: stk) := by
  refine q_xi he rfl (fr := (q_pe xs L, h, k, sl, p + 1, q_lv i, (1, n) :: stk)) ?_ (q_xk hj hn)
  have b1 : Nat.blt n L = true := by rw [q_blt]; exact decide_eq_true hj
  have b2 : Nat.blt n 2147483648 = true := by rw [q_blt]; exact decide_eq_true (by omega)
  show (bif true && Nat.beq 9 9 && Nat.blt n L && Nat.blt n 2147483648 && Nat.beq 0 0 then q_goS (q_pe xs L) h k sl (p + 1) (q_lv i) ((1, n) :: stk) else none) = _
  rw [b1, b2]
  rfl
theorem q_arg (h0 : (q_mI q_ML).get p = (1, p, 4, 0, 0, 0, [])) (h1 : (q_mI q_ML).get (p + 1) = (1, p + 1, 0, 3, 0, 0, [])) (h2 : (q_mI q_ML).get (p + 2) = (0, p + 2, 0, j, 0, 0, [])) (h3 : (q_mI q_ML).get (p + 3) = (4, p + 3, 0, 0, 0, 0, [])) (h4 : (q_mI q_ML).get (p + 4) = (20, p + 4, 0, 0, 0, 0, [])) (hc : q_s0v 0 j 0 = (0, j)) (hj : i + j < L) (hL : L ≤ 3072) (hn : q_G xs L k sl h (p + 5) (q_lv i) ((0, qNn (xs (i + j))) :: stk)) : q_G xs L k sl h p (q_lv i) stk :=
  q_i10 h0 (q_i13 h1 (q_i0 h2 hc (q_iad h3 (by omega) (q_ial h4 hj hL hn))))
def q_lv2 (xs : Nat → Int32) (a b : Nat) : qV := (3, qMn (q_f5 4 (qJ (qMn (qJ (qMn (qI (qNn (xs a))).toInt64) <<< ((qI (qNn (Int8.ofInt 32).toInt32)).toInt64 &&& 63)))) (qJ (qMn (q_f5 3 (qJ (qMn (qI (qNn (xs b))).toInt64)) (qJ 4294967295))))))
theorem q_lrg (h0 : (q_mI q_ML).get p = (1, p, 4, 0, 0, 0, [])) (h1 : (q_mI q_ML).get (p + 1) = (1, p + 1, 0, 3, 0, 0, [])) (h2 : (q_mI q_ML).get (p + 2) = (0, p + 2, 0, j, 0, 0, [])) (h3 : (q_mI q_ML).get (p + 3) = (4, p + 3, 0, 0, 0, 0, [])) (h4 : (q_mI q_ML).get (p + 4) = (20, p + 4, 0, 0, 0, 0, [])) (hc : q_s0v 0 j 0 = (0, j))
    (h5 : (q_mI q_ML).get (p + 5) = (6, p + 5, 0, 0, 0, 0, [])) (h6 : (q_mI q_ML).get (p + 6) = (0, p + 6, 1, 32, 0, 0, [])) (h8 : (q_mI q_ML).get (p + 8) = (5, p + 8, 7, 0, 0, 0, []))
    (k0 : (q_mI q_ML).get (p + 9) = (1, p + 9, 4, 0, 0, 0, [])) (k1 : (q_mI q_ML).get (p + 9 + 1) = (1, p + 9 + 1, 0, 3, 0, 0, [])) (k2 : (q_mI q_ML).get (p + 9 + 2) = (0, p + 9 + 2, 0, j2, 0, 0, [])) (k3 : (q_mI q_ML).get (p + 9 + 3) = (4, p + 9 + 3, 0, 0, 0, 0, [])) (k4 : (q_mI q_ML).get (p + 9 + 4) = (20, p + 9 + 4, 0, 0, 0, 0, [])) (kc : q_s0v 0 j2 0 = (0, j2))
    (k5 : (q_mI q_ML).get (p + 14) = (6, p + 14, 0, 0, 0, 0, [])) (k6 : (q_mI q_ML).get (p + 15) = (0, p + 15, 6, 32, 4294967295, 9107, [])) (k8 : (q_mI q_ML).get (p + 18) = (5, p + 18, 3, 0, 0, 0, [])) (k9 : (q_mI q_ML).get (p + 19) = (5, p + 19, 4, 0, 0, 0, [])) (hj : i + j < L) (hj2 : i + j2 < L) (hL : L ≤ 3072) (hn : q_G xs L k sl h (p + 20) (q_lv i) (q_lv2 xs (i + j) (i + j2) :: stk)) : q_G xs L k sl h p (q_lv i) stk := by
  refine q_arg h0 h1 h2 h3 h4 hc hj hL ?_
  refine q_xi h5 rfl (fr := (q_pe xs L, h, k, sl, p + 6, q_lv i, (3, qMn (qI (qNn (xs (i + j)))).toInt64) :: stk)) rfl ?_
  refine q_xi h6 rfl (fr := (q_pe xs L, h, k, sl, p + 8, q_lv i, (0, qNn (Int8.ofInt 32).toInt32) :: (3, qMn (qI (qNn (xs (i + j)))).toInt64) :: stk)) rfl ?_
  refine q_xi h8 rfl (fr := (q_pe xs L, h, k, sl, p + 9, q_lv i, (3, qMn (qJ (qMn (qI (qNn (xs (i + j)))).toInt64) <<< ((qI (qNn (Int8.ofInt 32).toInt32)).toInt64 &&& 63))) :: stk)) rfl ?_
  refine q_arg k0 k1 k2 k3 k4 kc hj2 hL ?_
  refine q_xi k5 rfl (fr := (q_pe xs L, h, k, sl, p + 15, q_lv i, (3, qMn (qI (qNn (xs (i + j2)))).toInt64) :: (3, qMn (qJ (qMn (qI (qNn (xs (i + j)))).toInt64) <<< ((qI (qNn (Int8.ofInt 32).toInt32)).toInt64 &&& 63))) :: stk)) rfl ?_
  refine q_xi k6 rfl (fr := (q_pe xs L, h, k, sl, p + 18, q_lv i, (3, 4294967295) :: (3, qMn (qI (qNn (xs (i + j2)))).toInt64) :: (3, qMn (qJ (qMn (qI (qNn (xs (i + j)))).toInt64) <<< ((qI (qNn (Int8.ofInt 32).toInt32)).toInt64 &&& 63))) :: stk)) rfl ?_
  refine q_xi k8 rfl (fr := (q_pe xs L, h, k, sl, p + 19, q_lv i, (3, qMn (q_f5 3 (qJ (qMn (qI (qNn (xs (i + j2)))).toInt64)) (qJ 4294967295))) :: (3, qMn (qJ (qMn (qI (qNn (xs (i + j)))).toInt64) <<< ((qI (qNn (Int8.ofInt 32).toInt32)).toInt64 &&& 63))) :: stk)) rfl ?_
  exact q_xi k9 rfl (fr := (q_pe xs L, h, k, sl, p + 20, q_lv i, q_lv2 xs (i + j) (i + j2) :: stk)) rfl hn
def q_zv (xs : Nat → Int32) (a : Nat) : qV := bif q_op 0 (qI (qNn (xs a))) (qI 0) then (0, 0) else (0, 1)
theorem q_zrg (h0 : (q_mI q_ML).get p = (1, p, 4, 0, 0, 0, [])) (h1 : (q_mI q_ML).get (p + 1) = (1, p + 1, 0, 3, 0, 0, [])) (h2 : (q_mI q_ML).get (p + 2) = (0, p + 2, 0, j, 0, 0, [])) (h3 : (q_mI q_ML).get (p + 3) = (4, p + 3, 0, 0, 0, 0, [])) (h4 : (q_mI q_ML).get (p + 4) = (20, p + 4, 0, 0, 0, 0, [])) (hc : q_s0v 0 j 0 = (0, j))
    (h5 : (q_mI q_ML).get (p + 5) = (8, p + 5, 0, p + 12, 0, 0, [])) (h8 : (q_mI q_ML).get (p + 8) = (0, p + 8, 0, 1, 0, 0, [])) (h9 : (q_mI q_ML).get (p + 9) = (10, p + 9, 0, p + 13, 0, 0, [])) (h12 : (q_mI q_ML).get (p + 12) = (0, p + 12, 0, 0, 0, 0, [])) (h13 : q_s0v 0 1 0 = (0, 1)) (hj : i + j < L) (hL : L ≤ 3072) (hn : q_G xs L k sl h (p + 13) (q_lv i) (q_zv xs (i + j) :: stk)) : q_G xs L k sl h p (q_lv i) stk := by
  refine q_arg h0 h1 h2 h3 h4 hc hj hL ?_
  refine q_xi h5 rfl (fr := (q_pe xs L, h, k, sl, (bif q_op 0 (qI (qNn (xs (i + j)))) (qI 0) then p + 12 else p + 5 + 3), q_lv i, stk)) rfl ?_
  unfold q_zv at hn
  cases hz : q_op 0 (qI (qNn (xs (i + j)))) (qI 0) with
  | true =>
    rw [hz] at hn
    exact q_i0 h12 rfl hn
  | false =>
    rw [hz] at hn
    refine q_i0 h8 h13 ?_
    exact q_xi h9 rfl (fr := (q_pe xs L, h, k, sl, p + 13, q_lv i, (0, 1) :: stk)) rfl hn
theorem q_kI {n : Nat} : q_Kd1 0 (0, qNn (xs n)) := by
  obtain ⟨h1, h2, h3⟩ := a_wI (xs n)
  exact ⟨(xs n).toInt, by rw [h1]; rfl, h2, by show (xs n).toInt ≤ 2147483647; omega, by decide⟩
theorem q_kZ {n : Nat} : q_Kd1 1 (q_zv xs n) := by
  unfold q_zv
  cases q_op 0 (qI (qNn (xs n))) (qI 0) with
  | true => exact ⟨0, rfl, by decide, by decide, by decide⟩
  | false => exact ⟨1, rfl, by decide, by decide, by decide⟩
theorem q_kJ {a b : Nat} : q_Kd1 2 (q_lv2 xs a b) := by
  unfold q_lv2
  obtain ⟨h1, h2, h3⟩ := a_WI (q_f5 4 (qJ (qMn (qJ (qMn (qI (qNn (xs a))).toInt64) <<< ((qI (qNn (Int8.ofInt 32).toInt32)).toInt64 &&& 63)))) (qJ (qMn (q_f5 3 (qJ (qMn (qI (qNn (xs b))).toInt64)) (qJ 4294967295)))))
  exact ⟨_, by rw [h1]; rfl, h2, by show _ ≤ (9223372036854775807 : Int); omega, by decide⟩
theorem q_rcA {vs : List qV} (hh : a_HI q_SP 557 h) : q_rcv 2 10 h ((6, 0) :: vs) = true := by
  show (Nat.beq 6 6 && Nat.blt 0 h.2 && Nat.beq (h.1.get 0).1 10) = true
  rw [hh.1, (hh.2.2 0 (by decide)).1]
  decide +kernel
theorem q_rcB {vs : List qV} (hh : a_HI q_SP 557 h) : q_rcv 2 11 h ((6, 534) :: vs) = true := by
  show (Nat.beq 6 6 && Nat.blt 534 h.2 && Nat.beq (h.1.get 534).1 11) = true
  rw [hh.1, (hh.2.2 534 (by decide)).1]
  decide +kernel
theorem q_cll {h1 : qH} {a b w ci : Nat} {av rest : List qV} {v1 : qV} {lv : qL} (he : (q_mI q_ML).get p = (23, p, 2, a, b, w, [])) (hM : (q_mK (q_T w), q_mC (q_T w), q_mc (q_T w), q_ms (q_T w)) = (2, ci, 0, 0)) (hlen : av.length = q_mA (q_T w) + 1) (hrcv : q_rcv 2 ci h av = true) (hst : stk = av.reverse ++ rest) (h8 : (rest.map q_cat).sum ≤ 8) (hk : k ≤ 600000) (hs : sl ≤ 7302250) (hcall : q_GM q_T q_Dm w (q_pe xs L) h av (fun o => o = (q_pe xs L, h1, some v1))) (hn : q_G xs L k sl h1 (p + 3) lv (v1 :: rest)) : q_G xs L k sl h p lv stk := by
  have m1 : q_mK (q_T w) = 2 := congrArg Prod.fst hM
  have m2 : q_mC (q_T w) = ci := congrArg (fun x => x.2.1) hM
  have m3 : q_mc (q_T w) = 0 := congrArg (fun x => x.2.2.1) hM
  have m4 : q_ms (q_T w) = 0 := congrArg (fun x => x.2.2.2) hM
  refine a_xc1 (q_GM_mono q_T q_Dm) he rfl rfl hst ?_ ?_ h8 ?_ ?_ hcall ?_
  · show av.length = (if q_mK (q_T w) = 0 then q_mA (q_T w) else q_mA (q_T w) + 1)
    rw [m1, if_neg (by decide)]
    exact hlen
  · show q_rcv (q_mK (q_T w)) (q_mC (q_T w)) h av = true
    rw [m1, m2]
    exact hrcv
  · show k + q_mc (q_T w) ≤ q_mc q_ML
    rw [m3]
    exact hk
  · show sl + q_ms (q_T w) ≤ q_ms q_ML
    rw [m4]
    exact hs
  · show q_G xs L (k + q_mc (q_T w)) (sl + q_ms (q_T w)) h1 (p + 3) lv (v1 :: rest)
    rw [m3, m4]
    exact hn
theorem q_pop {u : Nat} (he : (q_mI q_ML).get p = (13, p, 2, 0, 0, 0, [])) (hn : q_G xs L k sl h (p + 1) (q_lv i) stk) : q_G xs L k sl h p (q_lv i) ((0, u) :: stk) := q_xi he rfl rfl hn
theorem q_pop2 {u : Nat} (he : (q_mI q_ML).get p = (13, p, 3, 0, 0, 0, [])) (hn : q_G xs L k sl h (p + 1) (q_lv i) stk) : q_G xs L k sl h p (q_lv i) ((3, u) :: stk) := q_xi he rfl rfl hn
theorem q_gto {t : Nat} (he : (q_mI q_ML).get p = (10, p, 0, t, 0, 0, [])) (hn : q_G xs L k sl h t (q_lv i) stk) : q_G xs L k sl h p (q_lv i) stk := q_xi he rfl rfl hn
theorem q_ieq {t u : Nat} (he : (q_mI q_ML).get p = (9, p, 0, t, 0, 0, [])) (hn : q_G xs L k sl h t (q_lv i) stk) : q_G xs L k sl h p (q_lv i) ((0, u) :: (0, u) :: stk) := by
  refine q_xi he rfl (fr := (q_pe xs L, h, k, sl, (bif q_op 0 (qI u) (qI u) then t else p + 3), q_lv i, stk)) rfl ?_
  rw [show q_op 0 (qI u) (qI u) = true from decide_eq_true rfl]
  exact hn
end
theorem q_cs0 {xs : Nat → Int32} {L k sl : Nat} (hL : L ≤ 3072) (hk : k ≤ 600000) (hs : sl ≤ 7302250) : q_Case xs L k sl 252 := by
  intro i h hi hI hn
  refine q_i1a (p := 252) rfl ?_
  obtain ⟨h1, ⟨v1, u1⟩, h2, ⟨v2, u2⟩, c1, i1, c2, t1, t2, hI2, hq⟩ := (q_turn (ix := [0, 1]) (ks := []) (vs := []) (Or.inl rfl) q_sq0 q_id0 q_ic0 rfl hI trivial : q_Tn (q_pe xs L) h 110 _ 1 _ [])
  have t1 : v1 = 0 := t1
  have t2 : v2 = 0 := t2
  subst t1; subst t2
  refine q_cll (p := 253) (rest := []) rfl rfl rfl (q_rcA hI.1) rfl (by decide) hk hs c1 ?_
  refine q_pop (p := 256) rfl ?_
  refine q_i1b (p := 257) rfl ?_
  refine q_cll (p := 258) (rest := []) rfl rfl rfl (q_rcB i1) rfl (Nat.le_of_ble_eq_true rfl) hk hs c2 ?_
  refine q_pop (p := 261) rfl ?_
  exact q_gto (p := 262) rfl (hn h2 hI2)
theorem q_cs1 {xs : Nat → Int32} {L k sl : Nat} (hL : L ≤ 3072) (hk : k ≤ 600000) (hs : sl ≤ 7302250) : q_Case xs L k sl 265 := by
  intro i h hi hI hn
  refine q_i1a (p := 265) rfl ?_
  obtain ⟨h1, ⟨v1, u1⟩, h2, ⟨v2, u2⟩, c1, i1, c2, t1, t2, hI2, hq⟩ := (q_turn (ix := [0, 1]) (ks := []) (vs := []) (Or.inr rfl) q_sq1 q_id1 q_ic1 rfl hI trivial : q_Tn (q_pe xs L) h 111 _ 4 _ [])
  have t1 : v1 = 3 := t1
  have t2 : v2 = 3 := t2
  subst t1; subst t2
  refine q_cll (p := 266) (rest := []) rfl rfl rfl (q_rcA hI.1) rfl (by decide) hk hs c1 ?_
  refine q_pop2 (p := 269) rfl ?_
  refine q_i1b (p := 270) rfl ?_
  refine q_cll (p := 271) (rest := []) rfl rfl rfl (q_rcB i1) rfl (Nat.le_of_ble_eq_true rfl) hk hs c2 ?_
  refine q_pop2 (p := 274) rfl ?_
  exact q_gto (p := 275) rfl (hn h2 hI2)
theorem q_cs2 {xs : Nat → Int32} {L k sl : Nat} (hL : L ≤ 3072) (hk : k ≤ 600000) (hs : sl ≤ 7302250) : q_Case xs L k sl 278 := by
  intro i h hi hI hn
  refine q_i1a (p := 278) rfl ?_
  obtain ⟨h1, ⟨v1, u1⟩, h2, ⟨v2, u2⟩, c1, i1, c2, t1, t2, hI2, hq⟩ := (q_turn (ix := [0, 1]) (ks := []) (vs := []) (Or.inr rfl) q_sq2 q_id2 q_ic2 rfl hI trivial : q_Tn (q_pe xs L) h 112 _ 4 _ [])
  have t1 : v1 = 3 := t1
  have t2 : v2 = 3 := t2
  subst t1; subst t2
  refine q_cll (p := 279) (rest := []) rfl rfl rfl (q_rcA hI.1) rfl (by decide) hk hs c1 ?_
  refine q_pop2 (p := 282) rfl ?_
  refine q_i1b (p := 283) rfl ?_
  refine q_cll (p := 284) (rest := []) rfl rfl rfl (q_rcB i1) rfl (Nat.le_of_ble_eq_true rfl) hk hs c2 ?_
  refine q_pop2 (p := 287) rfl ?_
  exact q_gto (p := 288) rfl (hn h2 hI2)
theorem q_cs3 {xs : Nat → Int32} {L k sl : Nat} (hL : L ≤ 3072) (hk : k ≤ 600000) (hs : sl ≤ 7302250) : q_Case xs L k sl 291 := by
  intro i h hi hI hn
  refine q_i1a (p := 291) rfl ?_
  refine q_arg (p := 292) (j := 1) rfl rfl rfl rfl rfl rfl (by omega) hL ?_
  refine q_arg (p := 297) (j := 2) rfl rfl rfl rfl rfl rfl (by omega) hL ?_
  refine q_arg (p := 302) (j := 3) rfl rfl rfl rfl rfl rfl (by omega) hL ?_
  obtain ⟨h1, ⟨v1, u1⟩, h2, ⟨v2, u2⟩, c1, i1, c2, t1, t2, hI2, hq⟩ := (q_turn (ix := [3]) (ks := [0, 0, 0]) (vs := [(0, qNn (xs (i + 1))), (0, qNn (xs (i + 2))), (0, qNn (xs (i + 3)))]) (Or.inl rfl) q_sq3 q_id3 q_ic3 rfl hI ⟨q_kI, ⟨q_kI, ⟨q_kI, trivial⟩⟩⟩ : q_Tn (q_pe xs L) h 122 _ 1 _ [(0, qNn (xs (i + 1))), (0, qNn (xs (i + 2))), (0, qNn (xs (i + 3)))])
  have t1 : v1 = 0 := t1
  have t2 : v2 = 0 := t2
  subst t1; subst t2
  refine q_cll (p := 307) (rest := []) rfl rfl rfl (q_rcA hI.1) rfl (by decide) hk hs c1 ?_
  refine q_pop (p := 310) rfl ?_
  refine q_i1b (p := 311) rfl ?_
  refine q_arg (p := 312) (j := 1) rfl rfl rfl rfl rfl rfl (by omega) hL ?_
  refine q_arg (p := 317) (j := 2) rfl rfl rfl rfl rfl rfl (by omega) hL ?_
  refine q_arg (p := 322) (j := 3) rfl rfl rfl rfl rfl rfl (by omega) hL ?_
  refine q_cll (p := 327) (rest := []) rfl rfl rfl (q_rcB i1) rfl (Nat.le_of_ble_eq_true rfl) hk hs c2 ?_
  refine q_pop (p := 330) rfl ?_
  exact q_gto (p := 331) rfl (hn h2 hI2)
theorem q_cs4 {xs : Nat → Int32} {L k sl : Nat} (hL : L ≤ 3072) (hk : k ≤ 600000) (hs : sl ≤ 7302250) : q_Case xs L k sl 334 := by
  intro i h hi hI hn
  refine q_i1a (p := 334) rfl ?_
  refine q_arg (p := 335) (j := 1) rfl rfl rfl rfl rfl rfl (by omega) hL ?_
  refine q_arg (p := 340) (j := 2) rfl rfl rfl rfl rfl rfl (by omega) hL ?_
  refine q_lrg (p := 345) (j := 3) (j2 := 4) rfl rfl rfl rfl rfl rfl rfl rfl rfl rfl rfl rfl rfl rfl rfl rfl rfl rfl rfl (by omega) (by omega) hL ?_
  obtain ⟨h1, ⟨v1, u1⟩, h2, ⟨v2, u2⟩, c1, i1, c2, t1, t2, hI2, hq⟩ := (q_turn (ix := [3]) (ks := [0, 0, 2]) (vs := [(0, qNn (xs (i + 1))), (0, qNn (xs (i + 2))), q_lv2 xs (i + 3) (i + 4)]) (Or.inl rfl) q_sq4 q_id4 q_ic4 rfl hI ⟨q_kI, ⟨q_kI, ⟨q_kJ, trivial⟩⟩⟩ : q_Tn (q_pe xs L) h 123 _ 1 _ [(0, qNn (xs (i + 1))), (0, qNn (xs (i + 2))), q_lv2 xs (i + 3) (i + 4)])
  have t1 : v1 = 0 := t1
  have t2 : v2 = 0 := t2
  subst t1; subst t2
  refine q_cll (p := 365) (rest := []) rfl rfl rfl (q_rcA hI.1) rfl (by decide) hk hs c1 ?_
  refine q_pop (p := 368) rfl ?_
  refine q_i1b (p := 369) rfl ?_
  refine q_arg (p := 370) (j := 1) rfl rfl rfl rfl rfl rfl (by omega) hL ?_
  refine q_arg (p := 375) (j := 2) rfl rfl rfl rfl rfl rfl (by omega) hL ?_
  refine q_lrg (p := 380) (j := 3) (j2 := 4) rfl rfl rfl rfl rfl rfl rfl rfl rfl rfl rfl rfl rfl rfl rfl rfl rfl rfl rfl (by omega) (by omega) hL ?_
  refine q_cll (p := 400) (rest := []) rfl rfl rfl (q_rcB i1) rfl (Nat.le_of_ble_eq_true rfl) hk hs c2 ?_
  refine q_pop (p := 403) rfl ?_
  exact q_gto (p := 404) rfl (hn h2 hI2)
theorem q_cs5 {xs : Nat → Int32} {L k sl : Nat} (hL : L ≤ 3072) (hk : k ≤ 600000) (hs : sl ≤ 7302250) : q_Case xs L k sl 407 := by
  intro i h hi hI hn
  refine q_i1a (p := 407) rfl ?_
  refine q_arg (p := 408) (j := 1) rfl rfl rfl rfl rfl rfl (by omega) hL ?_
  refine q_arg (p := 413) (j := 2) rfl rfl rfl rfl rfl rfl (by omega) hL ?_
  obtain ⟨h1, ⟨v1, u1⟩, h2, ⟨v2, u2⟩, c1, i1, c2, t1, t2, hI2, hq⟩ := (q_turn (ix := [3]) (ks := [0, 0]) (vs := [(0, qNn (xs (i + 1))), (0, qNn (xs (i + 2)))]) (Or.inr rfl) q_sq5 q_id5 q_ic5 rfl hI ⟨q_kI, ⟨q_kI, trivial⟩⟩ : q_Tn (q_pe xs L) h 124 _ 4 _ [(0, qNn (xs (i + 1))), (0, qNn (xs (i + 2)))])
  have t1 : v1 = 3 := t1
  have t2 : v2 = 3 := t2
  subst t1; subst t2
  refine q_cll (p := 418) (rest := []) rfl rfl rfl (q_rcA hI.1) rfl (by decide) hk hs c1 ?_
  refine q_pop2 (p := 421) rfl ?_
  refine q_i1b (p := 422) rfl ?_
  refine q_arg (p := 423) (j := 1) rfl rfl rfl rfl rfl rfl (by omega) hL ?_
  refine q_arg (p := 428) (j := 2) rfl rfl rfl rfl rfl rfl (by omega) hL ?_
  refine q_cll (p := 433) (rest := []) rfl rfl rfl (q_rcB i1) rfl (Nat.le_of_ble_eq_true rfl) hk hs c2 ?_
  refine q_pop2 (p := 436) rfl ?_
  exact q_gto (p := 437) rfl (hn h2 hI2)
theorem q_sq6p {vs : List qV} (hk : q_Kp [0, 0, 0, 0, 0] ([0, 0, 0, 0, 0].map q_Iv) vs) : ∃ I, q_Kp [0, 0, 0, 0, 0] I vs ∧ ((a_adds q_SP ([3].map q_Cmp) (I, []) []).all fun s => a_seq q_SP 557 q_CT q_Tw6 q_Dm (q_post ([3].map q_Cmp) [1, 1] true) [(125, (6, 0, ([], 0)) :: q_Ag 0 [0, 0, 0, 0, 0]), (191, (6, 534, ([], 0)) :: q_Ag 0 [0, 0, 0, 0, 0])] s.1 s.2 []) = true := by
  rcases q_six hk with h | h | h | h | h | h
  · exact ⟨_, h, q_sq6_0⟩
  · exact ⟨_, h, q_sq6_1⟩
  · exact ⟨_, h, q_sq6_2⟩
  · exact ⟨_, h, q_sq6_3⟩
  · exact ⟨_, h, q_sq6_4⟩
  · exact ⟨_, h, q_sq6_5⟩
theorem q_cs6 {xs : Nat → Int32} {L k sl : Nat} (hL : L ≤ 3072) (hk : k ≤ 600000) (hs : sl ≤ 7302250) : q_Case xs L k sl 440 := by
  intro i h hi hI hn
  refine q_i1a (p := 440) rfl ?_
  refine q_arg (p := 441) (j := 1) rfl rfl rfl rfl rfl rfl (by omega) hL ?_
  refine q_arg (p := 446) (j := 2) rfl rfl rfl rfl rfl rfl (by omega) hL ?_
  refine q_arg (p := 451) (j := 3) rfl rfl rfl rfl rfl rfl (by omega) hL ?_
  refine q_arg (p := 456) (j := 4) rfl rfl rfl rfl rfl rfl (by omega) hL ?_
  refine q_arg (p := 461) (j := 5) rfl rfl rfl rfl rfl rfl (by omega) hL ?_
  obtain ⟨h1, ⟨v1, u1⟩, h2, ⟨v2, u2⟩, c1, i1, c2, t1, t2, hI2, hq⟩ := (q_turnP (ix := [3]) (ks := [0, 0, 0, 0, 0]) (vs := [(0, qNn (xs (i + 1))), (0, qNn (xs (i + 2))), (0, qNn (xs (i + 3))), (0, qNn (xs (i + 4))), (0, qNn (xs (i + 5)))]) (Or.inl rfl) (q_sq6p (q_Kd_Kp ⟨q_kI, ⟨q_kI, ⟨q_kI, ⟨q_kI, ⟨q_kI, trivial⟩⟩⟩⟩⟩)) q_id6 q_ic6 rfl hI : q_Tn (q_pe xs L) h 125 _ 1 _ [(0, qNn (xs (i + 1))), (0, qNn (xs (i + 2))), (0, qNn (xs (i + 3))), (0, qNn (xs (i + 4))), (0, qNn (xs (i + 5)))])
  have t1 : v1 = 0 := t1
  have t2 : v2 = 0 := t2
  subst t1; subst t2
  refine q_cll (p := 466) (rest := []) rfl rfl rfl (q_rcA hI.1) rfl (by decide) hk hs c1 ?_
  refine q_pop (p := 469) rfl ?_
  refine q_i1b (p := 470) rfl ?_
  refine q_arg (p := 471) (j := 1) rfl rfl rfl rfl rfl rfl (by omega) hL ?_
  refine q_arg (p := 476) (j := 2) rfl rfl rfl rfl rfl rfl (by omega) hL ?_
  refine q_arg (p := 481) (j := 3) rfl rfl rfl rfl rfl rfl (by omega) hL ?_
  refine q_arg (p := 486) (j := 4) rfl rfl rfl rfl rfl rfl (by omega) hL ?_
  refine q_arg (p := 491) (j := 5) rfl rfl rfl rfl rfl rfl (by omega) hL ?_
  refine q_cll (p := 496) (rest := []) rfl rfl rfl (q_rcB i1) rfl (Nat.le_of_ble_eq_true rfl) hk hs c2 ?_
  refine q_pop (p := 499) rfl ?_
  exact q_gto (p := 500) rfl (hn h2 hI2)
theorem q_cs7 {xs : Nat → Int32} {L k sl : Nat} (hL : L ≤ 3072) (hk : k ≤ 600000) (hs : sl ≤ 7302250) : q_Case xs L k sl 503 := by
  intro i h hi hI hn
  refine q_i1a (p := 503) rfl ?_
  refine q_arg (p := 504) (j := 1) rfl rfl rfl rfl rfl rfl (by omega) hL ?_
  refine q_arg (p := 509) (j := 2) rfl rfl rfl rfl rfl rfl (by omega) hL ?_
  refine q_arg (p := 514) (j := 3) rfl rfl rfl rfl rfl rfl (by omega) hL ?_
  refine q_arg (p := 519) (j := 4) rfl rfl rfl rfl rfl rfl (by omega) hL ?_
  refine q_arg (p := 524) (j := 5) rfl rfl rfl rfl rfl rfl (by omega) hL ?_
  obtain ⟨h1, ⟨v1, u1⟩, h2, ⟨v2, u2⟩, c1, i1, c2, t1, t2, hI2, hq⟩ := (q_turn (ix := [2]) (ks := [0, 0, 0, 0, 0]) (vs := [(0, qNn (xs (i + 1))), (0, qNn (xs (i + 2))), (0, qNn (xs (i + 3))), (0, qNn (xs (i + 4))), (0, qNn (xs (i + 5)))]) (Or.inl rfl) q_sq7 q_id7 q_ic7 rfl hI ⟨q_kI, ⟨q_kI, ⟨q_kI, ⟨q_kI, ⟨q_kI, trivial⟩⟩⟩⟩⟩ : q_Tn (q_pe xs L) h 126 _ 1 _ [(0, qNn (xs (i + 1))), (0, qNn (xs (i + 2))), (0, qNn (xs (i + 3))), (0, qNn (xs (i + 4))), (0, qNn (xs (i + 5)))])
  have t1 : v1 = 0 := t1
  have t2 : v2 = 0 := t2
  subst t1; subst t2
  refine q_cll (p := 529) (rest := []) rfl rfl rfl (q_rcA hI.1) rfl (by decide) hk hs c1 ?_
  refine q_pop (p := 532) rfl ?_
  refine q_i1b (p := 533) rfl ?_
  refine q_arg (p := 534) (j := 1) rfl rfl rfl rfl rfl rfl (by omega) hL ?_
  refine q_arg (p := 539) (j := 2) rfl rfl rfl rfl rfl rfl (by omega) hL ?_
  refine q_arg (p := 544) (j := 3) rfl rfl rfl rfl rfl rfl (by omega) hL ?_
  refine q_arg (p := 549) (j := 4) rfl rfl rfl rfl rfl rfl (by omega) hL ?_
  refine q_arg (p := 554) (j := 5) rfl rfl rfl rfl rfl rfl (by omega) hL ?_
  refine q_cll (p := 559) (rest := []) rfl rfl rfl (q_rcB i1) rfl (Nat.le_of_ble_eq_true rfl) hk hs c2 ?_
  refine q_pop (p := 562) rfl ?_
  exact q_gto (p := 563) rfl (hn h2 hI2)
theorem q_cs8 {xs : Nat → Int32} {L k sl : Nat} (hL : L ≤ 3072) (hk : k ≤ 600000) (hs : sl ≤ 7302250) : q_Case xs L k sl 566 := by
  intro i h hi hI hn
  refine q_i1a (p := 566) rfl ?_
  refine q_arg (p := 567) (j := 1) rfl rfl rfl rfl rfl rfl (by omega) hL ?_
  obtain ⟨h1, ⟨v1, u1⟩, h2, ⟨v2, u2⟩, c1, i1, c2, t1, t2, hI2, hq⟩ := (q_turn (ix := [0, 1, 2]) (ks := [0]) (vs := [(0, qNn (xs (i + 1)))]) (Or.inl rfl) q_sq8 q_id8 q_ic8 rfl hI ⟨q_kI, trivial⟩ : q_Tn (q_pe xs L) h 127 _ 1 _ [(0, qNn (xs (i + 1)))])
  have t1 : v1 = 0 := t1
  have t2 : v2 = 0 := t2
  subst t1; subst t2
  refine q_cll (p := 572) (rest := []) rfl rfl rfl (q_rcA hI.1) rfl (by decide) hk hs c1 ?_
  refine q_pop (p := 575) rfl ?_
  refine q_i1b (p := 576) rfl ?_
  refine q_arg (p := 577) (j := 1) rfl rfl rfl rfl rfl rfl (by omega) hL ?_
  refine q_cll (p := 582) (rest := []) rfl rfl rfl (q_rcB i1) rfl (Nat.le_of_ble_eq_true rfl) hk hs c2 ?_
  refine q_pop (p := 585) rfl ?_
  exact q_gto (p := 586) rfl (hn h2 hI2)
theorem q_cs9 {xs : Nat → Int32} {L k sl : Nat} (hL : L ≤ 3072) (hk : k ≤ 600000) (hs : sl ≤ 7302250) : q_Case xs L k sl 589 := by
  intro i h hi hI hn
  refine q_i1a (p := 589) rfl ?_
  refine q_arg (p := 590) (j := 1) rfl rfl rfl rfl rfl rfl (by omega) hL ?_
  obtain ⟨h1, ⟨v1, u1⟩, h2, ⟨v2, u2⟩, c1, i1, c2, t1, t2, hI2, hq⟩ := (q_turn (ix := [0, 1, 2]) (ks := [0]) (vs := [(0, qNn (xs (i + 1)))]) (Or.inl rfl) q_sq9 q_id9 q_ic9 rfl hI ⟨q_kI, trivial⟩ : q_Tn (q_pe xs L) h 128 _ 1 _ [(0, qNn (xs (i + 1)))])
  have t1 : v1 = 0 := t1
  have t2 : v2 = 0 := t2
  subst t1; subst t2
  refine q_cll (p := 595) (rest := []) rfl rfl rfl (q_rcA hI.1) rfl (by decide) hk hs c1 ?_
  refine q_pop (p := 598) rfl ?_
  refine q_i1b (p := 599) rfl ?_
  refine q_arg (p := 600) (j := 1) rfl rfl rfl rfl rfl rfl (by omega) hL ?_
  refine q_cll (p := 605) (rest := []) rfl rfl rfl (q_rcB i1) rfl (Nat.le_of_ble_eq_true rfl) hk hs c2 ?_
  refine q_pop (p := 608) rfl ?_
  exact q_gto (p := 609) rfl (hn h2 hI2)
theorem q_cs10 {xs : Nat → Int32} {L k sl : Nat} (hL : L ≤ 3072) (hk : k ≤ 600000) (hs : sl ≤ 7302250) : q_Case xs L k sl 612 := by
  intro i h hi hI hn
  refine q_i1a (p := 612) rfl ?_
  refine q_arg (p := 613) (j := 1) rfl rfl rfl rfl rfl rfl (by omega) hL ?_
  obtain ⟨h1, ⟨v1, u1⟩, h2, ⟨v2, u2⟩, c1, i1, c2, t1, t2, hI2, hq⟩ := (q_turn (ix := [0, 1]) (ks := [0]) (vs := [(0, qNn (xs (i + 1)))]) (Or.inl rfl) q_sq10 q_id10 q_ic10 rfl hI ⟨q_kI, trivial⟩ : q_Tn (q_pe xs L) h 129 _ 1 _ [(0, qNn (xs (i + 1)))])
  have t1 : v1 = 0 := t1
  have t2 : v2 = 0 := t2
  subst t1; subst t2
  refine q_cll (p := 618) (rest := []) rfl rfl rfl (q_rcA hI.1) rfl (by decide) hk hs c1 ?_
  refine q_pop (p := 621) rfl ?_
  refine q_i1b (p := 622) rfl ?_
  refine q_arg (p := 623) (j := 1) rfl rfl rfl rfl rfl rfl (by omega) hL ?_
  refine q_cll (p := 628) (rest := []) rfl rfl rfl (q_rcB i1) rfl (Nat.le_of_ble_eq_true rfl) hk hs c2 ?_
  refine q_pop (p := 631) rfl ?_
  exact q_gto (p := 632) rfl (hn h2 hI2)
theorem q_cs11 {xs : Nat → Int32} {L k sl : Nat} (hL : L ≤ 3072) (hk : k ≤ 600000) (hs : sl ≤ 7302250) : q_Case xs L k sl 635 := by
  intro i h hi hI hn
  refine q_i1a (p := 635) rfl ?_
  refine q_arg (p := 636) (j := 1) rfl rfl rfl rfl rfl rfl (by omega) hL ?_
  obtain ⟨h1, ⟨v1, u1⟩, h2, ⟨v2, u2⟩, c1, i1, c2, t1, t2, hI2, hq⟩ := (q_turn (ix := [0, 1]) (ks := [0]) (vs := [(0, qNn (xs (i + 1)))]) (Or.inl rfl) q_sq11 q_id11 q_ic11 rfl hI ⟨q_kI, trivial⟩ : q_Tn (q_pe xs L) h 130 _ 1 _ [(0, qNn (xs (i + 1)))])
  have t1 : v1 = 0 := t1
  have t2 : v2 = 0 := t2
  subst t1; subst t2
  refine q_cll (p := 641) (rest := []) rfl rfl rfl (q_rcA hI.1) rfl (by decide) hk hs c1 ?_
  refine q_pop (p := 644) rfl ?_
  refine q_i1b (p := 645) rfl ?_
  refine q_arg (p := 646) (j := 1) rfl rfl rfl rfl rfl rfl (by omega) hL ?_
  refine q_cll (p := 651) (rest := []) rfl rfl rfl (q_rcB i1) rfl (Nat.le_of_ble_eq_true rfl) hk hs c2 ?_
  refine q_pop (p := 654) rfl ?_
  exact q_gto (p := 655) rfl (hn h2 hI2)
theorem q_cs12 {xs : Nat → Int32} {L k sl : Nat} (hL : L ≤ 3072) (hk : k ≤ 600000) (hs : sl ≤ 7302250) : q_Case xs L k sl 658 := by
  intro i h hi hI hn
  refine q_i1a (p := 658) rfl ?_
  refine q_arg (p := 659) (j := 1) rfl rfl rfl rfl rfl rfl (by omega) hL ?_
  refine q_arg (p := 664) (j := 2) rfl rfl rfl rfl rfl rfl (by omega) hL ?_
  obtain ⟨h1, ⟨v1, u1⟩, h2, ⟨v2, u2⟩, c1, i1, c2, t1, t2, hI2, hq⟩ := (q_turn (ix := [0, 1]) (ks := [0, 0]) (vs := [(0, qNn (xs (i + 1))), (0, qNn (xs (i + 2)))]) (Or.inl rfl) q_sq12 q_id12 q_ic12 rfl hI ⟨q_kI, ⟨q_kI, trivial⟩⟩ : q_Tn (q_pe xs L) h 131 _ 1 _ [(0, qNn (xs (i + 1))), (0, qNn (xs (i + 2)))])
  have t1 : v1 = 0 := t1
  have t2 : v2 = 0 := t2
  subst t1; subst t2
  refine q_cll (p := 669) (rest := []) rfl rfl rfl (q_rcA hI.1) rfl (by decide) hk hs c1 ?_
  refine q_pop (p := 672) rfl ?_
  refine q_i1b (p := 673) rfl ?_
  refine q_arg (p := 674) (j := 1) rfl rfl rfl rfl rfl rfl (by omega) hL ?_
  refine q_arg (p := 679) (j := 2) rfl rfl rfl rfl rfl rfl (by omega) hL ?_
  refine q_cll (p := 684) (rest := []) rfl rfl rfl (q_rcB i1) rfl (Nat.le_of_ble_eq_true rfl) hk hs c2 ?_
  refine q_pop (p := 687) rfl ?_
  exact q_gto (p := 688) rfl (hn h2 hI2)
theorem q_cs13 {xs : Nat → Int32} {L k sl : Nat} (hL : L ≤ 3072) (hk : k ≤ 600000) (hs : sl ≤ 7302250) : q_Case xs L k sl 691 := by
  intro i h hi hI hn
  refine q_i1a (p := 691) rfl ?_
  refine q_arg (p := 692) (j := 1) rfl rfl rfl rfl rfl rfl (by omega) hL ?_
  refine q_arg (p := 697) (j := 2) rfl rfl rfl rfl rfl rfl (by omega) hL ?_
  obtain ⟨h1, ⟨v1, u1⟩, h2, ⟨v2, u2⟩, c1, i1, c2, t1, t2, hI2, hq⟩ := (q_turn (ix := [0, 1]) (ks := [0, 0]) (vs := [(0, qNn (xs (i + 1))), (0, qNn (xs (i + 2)))]) (Or.inl rfl) q_sq13 q_id13 q_ic13 rfl hI ⟨q_kI, ⟨q_kI, trivial⟩⟩ : q_Tn (q_pe xs L) h 132 _ 1 _ [(0, qNn (xs (i + 1))), (0, qNn (xs (i + 2)))])
  have t1 : v1 = 0 := t1
  have t2 : v2 = 0 := t2
  subst t1; subst t2
  refine q_cll (p := 702) (rest := []) rfl rfl rfl (q_rcA hI.1) rfl (by decide) hk hs c1 ?_
  refine q_pop (p := 705) rfl ?_
  refine q_i1b (p := 706) rfl ?_
  refine q_arg (p := 707) (j := 1) rfl rfl rfl rfl rfl rfl (by omega) hL ?_
  refine q_arg (p := 712) (j := 2) rfl rfl rfl rfl rfl rfl (by omega) hL ?_
  refine q_cll (p := 717) (rest := []) rfl rfl rfl (q_rcB i1) rfl (Nat.le_of_ble_eq_true rfl) hk hs c2 ?_
  refine q_pop (p := 720) rfl ?_
  exact q_gto (p := 721) rfl (hn h2 hI2)
theorem q_cs14 {xs : Nat → Int32} {L k sl : Nat} (hL : L ≤ 3072) (hk : k ≤ 600000) (hs : sl ≤ 7302250) : q_Case xs L k sl 724 := by
  intro i h hi hI hn
  refine q_i1a (p := 724) rfl ?_
  refine q_arg (p := 725) (j := 1) rfl rfl rfl rfl rfl rfl (by omega) hL ?_
  refine q_arg (p := 730) (j := 2) rfl rfl rfl rfl rfl rfl (by omega) hL ?_
  obtain ⟨h1, ⟨v1, u1⟩, h2, ⟨v2, u2⟩, c1, i1, c2, t1, t2, hI2, hq⟩ := (q_turn (ix := [0, 1]) (ks := [0, 0]) (vs := [(0, qNn (xs (i + 1))), (0, qNn (xs (i + 2)))]) (Or.inl rfl) q_sq14 q_id14 q_ic14 rfl hI ⟨q_kI, ⟨q_kI, trivial⟩⟩ : q_Tn (q_pe xs L) h 133 _ 1 _ [(0, qNn (xs (i + 1))), (0, qNn (xs (i + 2)))])
  have t1 : v1 = 0 := t1
  have t2 : v2 = 0 := t2
  subst t1; subst t2
  refine q_cll (p := 735) (rest := []) rfl rfl rfl (q_rcA hI.1) rfl (by decide) hk hs c1 ?_
  refine q_pop (p := 738) rfl ?_
  refine q_i1b (p := 739) rfl ?_
  refine q_arg (p := 740) (j := 1) rfl rfl rfl rfl rfl rfl (by omega) hL ?_
  refine q_arg (p := 745) (j := 2) rfl rfl rfl rfl rfl rfl (by omega) hL ?_
  refine q_cll (p := 750) (rest := []) rfl rfl rfl (q_rcB i1) rfl (Nat.le_of_ble_eq_true rfl) hk hs c2 ?_
  refine q_pop (p := 753) rfl ?_
  exact q_gto (p := 754) rfl (hn h2 hI2)
theorem q_cs15 {xs : Nat → Int32} {L k sl : Nat} (hL : L ≤ 3072) (hk : k ≤ 600000) (hs : sl ≤ 7302250) : q_Case xs L k sl 757 := by
  intro i h hi hI hn
  refine q_i1a (p := 757) rfl ?_
  refine q_arg (p := 758) (j := 1) rfl rfl rfl rfl rfl rfl (by omega) hL ?_
  obtain ⟨h1, ⟨v1, u1⟩, h2, ⟨v2, u2⟩, c1, i1, c2, t1, t2, hI2, hq⟩ := (q_turn (ix := [0, 1]) (ks := [0]) (vs := [(0, qNn (xs (i + 1)))]) (Or.inl rfl) q_sq15 q_id15 q_ic15 rfl hI ⟨q_kI, trivial⟩ : q_Tn (q_pe xs L) h 134 _ 1 _ [(0, qNn (xs (i + 1)))])
  have t1 : v1 = 0 := t1
  have t2 : v2 = 0 := t2
  subst t1; subst t2
  refine q_cll (p := 763) (rest := []) rfl rfl rfl (q_rcA hI.1) rfl (by decide) hk hs c1 ?_
  refine q_pop (p := 766) rfl ?_
  refine q_i1b (p := 767) rfl ?_
  refine q_arg (p := 768) (j := 1) rfl rfl rfl rfl rfl rfl (by omega) hL ?_
  refine q_cll (p := 773) (rest := []) rfl rfl rfl (q_rcB i1) rfl (Nat.le_of_ble_eq_true rfl) hk hs c2 ?_
  refine q_pop (p := 776) rfl ?_
  exact q_gto (p := 777) rfl (hn h2 hI2)
theorem q_cs16 {xs : Nat → Int32} {L k sl : Nat} (hL : L ≤ 3072) (hk : k ≤ 600000) (hs : sl ≤ 7302250) : q_Case xs L k sl 780 := by
  intro i h hi hI hn
  refine q_i1a (p := 780) rfl ?_
  refine q_arg (p := 781) (j := 1) rfl rfl rfl rfl rfl rfl (by omega) hL ?_
  obtain ⟨h1, ⟨v1, u1⟩, h2, ⟨v2, u2⟩, c1, i1, c2, t1, t2, hI2, hq⟩ := (q_turn (ix := [0, 1]) (ks := [0]) (vs := [(0, qNn (xs (i + 1)))]) (Or.inl rfl) q_sq16 q_id16 q_ic16 rfl hI ⟨q_kI, trivial⟩ : q_Tn (q_pe xs L) h 135 _ 1 _ [(0, qNn (xs (i + 1)))])
  have t1 : v1 = 0 := t1
  have t2 : v2 = 0 := t2
  subst t1; subst t2
  refine q_cll (p := 786) (rest := []) rfl rfl rfl (q_rcA hI.1) rfl (by decide) hk hs c1 ?_
  refine q_i1b (p := 789) rfl ?_
  refine q_arg (p := 790) (j := 1) rfl rfl rfl rfl rfl rfl (by omega) hL ?_
  refine q_cll (p := 795) (rest := [(0, u1)]) rfl rfl rfl (q_rcB i1) rfl (Nat.le_of_ble_eq_true rfl) hk hs c2 ?_
  obtain rfl : u1 = u2 := congrArg Prod.snd (hq rfl)
  exact q_ieq (p := 798) rfl (hn h2 hI2)
theorem q_cs17 {xs : Nat → Int32} {L k sl : Nat} (hL : L ≤ 3072) (hk : k ≤ 600000) (hs : sl ≤ 7302250) : q_Case xs L k sl 803 := by
  intro i h hi hI hn
  refine q_i1a (p := 803) rfl ?_
  obtain ⟨h1, ⟨v1, u1⟩, h2, ⟨v2, u2⟩, c1, i1, c2, t1, t2, hI2, hq⟩ := (q_turn (ix := [0, 1]) (ks := []) (vs := []) (Or.inl rfl) q_sq17 q_id17 q_ic17 rfl hI trivial : q_Tn (q_pe xs L) h 136 _ 1 _ [])
  have t1 : v1 = 0 := t1
  have t2 : v2 = 0 := t2
  subst t1; subst t2
  refine q_cll (p := 804) (rest := []) rfl rfl rfl (q_rcA hI.1) rfl (by decide) hk hs c1 ?_
  refine q_pop (p := 807) rfl ?_
  refine q_i1b (p := 808) rfl ?_
  refine q_cll (p := 809) (rest := []) rfl rfl rfl (q_rcB i1) rfl (Nat.le_of_ble_eq_true rfl) hk hs c2 ?_
  refine q_pop (p := 812) rfl ?_
  exact q_gto (p := 813) rfl (hn h2 hI2)
theorem q_cs18 {xs : Nat → Int32} {L k sl : Nat} (hL : L ≤ 3072) (hk : k ≤ 600000) (hs : sl ≤ 7302250) : q_Case xs L k sl 816 := by
  intro i h hi hI hn
  refine q_i1a (p := 816) rfl ?_
  refine q_arg (p := 817) (j := 1) rfl rfl rfl rfl rfl rfl (by omega) hL ?_
  obtain ⟨h1, ⟨v1, u1⟩, h2, ⟨v2, u2⟩, c1, i1, c2, t1, t2, hI2, hq⟩ := (q_turn (ix := [0, 1]) (ks := [0]) (vs := [(0, qNn (xs (i + 1)))]) (Or.inl rfl) q_sq18 q_id18 q_ic18 rfl hI ⟨q_kI, trivial⟩ : q_Tn (q_pe xs L) h 137 _ 1 _ [(0, qNn (xs (i + 1)))])
  have t1 : v1 = 0 := t1
  have t2 : v2 = 0 := t2
  subst t1; subst t2
  refine q_cll (p := 822) (rest := []) rfl rfl rfl (q_rcA hI.1) rfl (by decide) hk hs c1 ?_
  refine q_pop (p := 825) rfl ?_
  refine q_i1b (p := 826) rfl ?_
  refine q_arg (p := 827) (j := 1) rfl rfl rfl rfl rfl rfl (by omega) hL ?_
  refine q_cll (p := 832) (rest := []) rfl rfl rfl (q_rcB i1) rfl (Nat.le_of_ble_eq_true rfl) hk hs c2 ?_
  refine q_pop (p := 835) rfl ?_
  exact q_gto (p := 836) rfl (hn h2 hI2)
theorem q_cs19 {xs : Nat → Int32} {L k sl : Nat} (hL : L ≤ 3072) (hk : k ≤ 600000) (hs : sl ≤ 7302250) : q_Case xs L k sl 839 := by
  intro i h hi hI hn
  refine q_i1a (p := 839) rfl ?_
  obtain ⟨h1, ⟨v1, u1⟩, h2, ⟨v2, u2⟩, c1, i1, c2, t1, t2, hI2, hq⟩ := (q_turn (ix := [0, 1]) (ks := []) (vs := []) (Or.inl rfl) q_sq19 q_id19 q_ic19 rfl hI trivial : q_Tn (q_pe xs L) h 138 _ 1 _ [])
  have t1 : v1 = 0 := t1
  have t2 : v2 = 0 := t2
  subst t1; subst t2
  refine q_cll (p := 840) (rest := []) rfl rfl rfl (q_rcA hI.1) rfl (by decide) hk hs c1 ?_
  refine q_pop (p := 843) rfl ?_
  refine q_i1b (p := 844) rfl ?_
  refine q_cll (p := 845) (rest := []) rfl rfl rfl (q_rcB i1) rfl (Nat.le_of_ble_eq_true rfl) hk hs c2 ?_
  refine q_pop (p := 848) rfl ?_
  exact q_gto (p := 849) rfl (hn h2 hI2)
theorem q_cs20 {xs : Nat → Int32} {L k sl : Nat} (hL : L ≤ 3072) (hk : k ≤ 600000) (hs : sl ≤ 7302250) : q_Case xs L k sl 852 := by
  intro i h hi hI hn
  refine q_i1a (p := 852) rfl ?_
  obtain ⟨h1, ⟨v1, u1⟩, h2, ⟨v2, u2⟩, c1, i1, c2, t1, t2, hI2, hq⟩ := (q_turn (ix := [0, 1]) (ks := []) (vs := []) (Or.inl rfl) q_sq20 q_id20 q_ic20 rfl hI trivial : q_Tn (q_pe xs L) h 139 _ 1 _ [])
  have t1 : v1 = 0 := t1
  have t2 : v2 = 0 := t2
  subst t1; subst t2
  refine q_cll (p := 853) (rest := []) rfl rfl rfl (q_rcA hI.1) rfl (by decide) hk hs c1 ?_
  refine q_pop (p := 856) rfl ?_
  refine q_i1b (p := 857) rfl ?_
  refine q_cll (p := 858) (rest := []) rfl rfl rfl (q_rcB i1) rfl (Nat.le_of_ble_eq_true rfl) hk hs c2 ?_
  refine q_pop (p := 861) rfl ?_
  exact q_gto (p := 862) rfl (hn h2 hI2)
theorem q_cs21 {xs : Nat → Int32} {L k sl : Nat} (hL : L ≤ 3072) (hk : k ≤ 600000) (hs : sl ≤ 7302250) : q_Case xs L k sl 865 := by
  intro i h hi hI hn
  refine q_i1a (p := 865) rfl ?_
  obtain ⟨h1, ⟨v1, u1⟩, h2, ⟨v2, u2⟩, c1, i1, c2, t1, t2, hI2, hq⟩ := (q_turn (ix := [0, 1]) (ks := []) (vs := []) (Or.inl rfl) q_sq21 q_id21 q_ic21 rfl hI trivial : q_Tn (q_pe xs L) h 140 _ 1 _ [])
  have t1 : v1 = 0 := t1
  have t2 : v2 = 0 := t2
  subst t1; subst t2
  refine q_cll (p := 866) (rest := []) rfl rfl rfl (q_rcA hI.1) rfl (by decide) hk hs c1 ?_
  refine q_pop (p := 869) rfl ?_
  refine q_i1b (p := 870) rfl ?_
  refine q_cll (p := 871) (rest := []) rfl rfl rfl (q_rcB i1) rfl (Nat.le_of_ble_eq_true rfl) hk hs c2 ?_
  refine q_pop (p := 874) rfl ?_
  exact q_gto (p := 875) rfl (hn h2 hI2)
theorem q_cs22 {xs : Nat → Int32} {L k sl : Nat} (hL : L ≤ 3072) (hk : k ≤ 600000) (hs : sl ≤ 7302250) : q_Case xs L k sl 878 := by
  intro i h hi hI hn
  refine q_i1a (p := 878) rfl ?_
  refine q_arg (p := 879) (j := 1) rfl rfl rfl rfl rfl rfl (by omega) hL ?_
  obtain ⟨h1, ⟨v1, u1⟩, h2, ⟨v2, u2⟩, c1, i1, c2, t1, t2, hI2, hq⟩ := (q_turn (ix := [0, 1]) (ks := [0]) (vs := [(0, qNn (xs (i + 1)))]) (Or.inl rfl) q_sq22 q_id22 q_ic22 rfl hI ⟨q_kI, trivial⟩ : q_Tn (q_pe xs L) h 141 _ 1 _ [(0, qNn (xs (i + 1)))])
  have t1 : v1 = 0 := t1
  have t2 : v2 = 0 := t2
  subst t1; subst t2
  refine q_cll (p := 884) (rest := []) rfl rfl rfl (q_rcA hI.1) rfl (by decide) hk hs c1 ?_
  refine q_pop (p := 887) rfl ?_
  refine q_i1b (p := 888) rfl ?_
  refine q_arg (p := 889) (j := 1) rfl rfl rfl rfl rfl rfl (by omega) hL ?_
  refine q_cll (p := 894) (rest := []) rfl rfl rfl (q_rcB i1) rfl (Nat.le_of_ble_eq_true rfl) hk hs c2 ?_
  refine q_pop (p := 897) rfl ?_
  exact q_gto (p := 898) rfl (hn h2 hI2)
theorem q_cs23 {xs : Nat → Int32} {L k sl : Nat} (hL : L ≤ 3072) (hk : k ≤ 600000) (hs : sl ≤ 7302250) : q_Case xs L k sl 901 := by
  intro i h hi hI hn
  refine q_i1a (p := 901) rfl ?_
  refine q_arg (p := 902) (j := 1) rfl rfl rfl rfl rfl rfl (by omega) hL ?_
  refine q_arg (p := 907) (j := 2) rfl rfl rfl rfl rfl rfl (by omega) hL ?_
  obtain ⟨h1, ⟨v1, u1⟩, h2, ⟨v2, u2⟩, c1, i1, c2, t1, t2, hI2, hq⟩ := (q_turn (ix := [0, 1]) (ks := [0, 0]) (vs := [(0, qNn (xs (i + 1))), (0, qNn (xs (i + 2)))]) (Or.inl rfl) q_sq23 q_id23 q_ic23 rfl hI ⟨q_kI, ⟨q_kI, trivial⟩⟩ : q_Tn (q_pe xs L) h 142 _ 1 _ [(0, qNn (xs (i + 1))), (0, qNn (xs (i + 2)))])
  have t1 : v1 = 0 := t1
  have t2 : v2 = 0 := t2
  subst t1; subst t2
  refine q_cll (p := 912) (rest := []) rfl rfl rfl (q_rcA hI.1) rfl (by decide) hk hs c1 ?_
  refine q_pop (p := 915) rfl ?_
  refine q_i1b (p := 916) rfl ?_
  refine q_arg (p := 917) (j := 1) rfl rfl rfl rfl rfl rfl (by omega) hL ?_
  refine q_arg (p := 922) (j := 2) rfl rfl rfl rfl rfl rfl (by omega) hL ?_
  refine q_cll (p := 927) (rest := []) rfl rfl rfl (q_rcB i1) rfl (Nat.le_of_ble_eq_true rfl) hk hs c2 ?_
  refine q_pop (p := 930) rfl ?_
  exact q_gto (p := 931) rfl (hn h2 hI2)
theorem q_cs24 {xs : Nat → Int32} {L k sl : Nat} (hL : L ≤ 3072) (hk : k ≤ 600000) (hs : sl ≤ 7302250) : q_Case xs L k sl 934 := by
  intro i h hi hI hn
  refine q_i1a (p := 934) rfl ?_
  obtain ⟨h1, ⟨v1, u1⟩, h2, ⟨v2, u2⟩, c1, i1, c2, t1, t2, hI2, hq⟩ := (q_turn (ix := [0, 1]) (ks := []) (vs := []) (Or.inl rfl) q_sq24 q_id24 q_ic24 rfl hI trivial : q_Tn (q_pe xs L) h 143 _ 1 _ [])
  have t1 : v1 = 0 := t1
  have t2 : v2 = 0 := t2
  subst t1; subst t2
  refine q_cll (p := 935) (rest := []) rfl rfl rfl (q_rcA hI.1) rfl (by decide) hk hs c1 ?_
  refine q_pop (p := 938) rfl ?_
  refine q_i1b (p := 939) rfl ?_
  refine q_cll (p := 940) (rest := []) rfl rfl rfl (q_rcB i1) rfl (Nat.le_of_ble_eq_true rfl) hk hs c2 ?_
  refine q_pop (p := 943) rfl ?_
  exact q_gto (p := 944) rfl (hn h2 hI2)
theorem q_cs25 {xs : Nat → Int32} {L k sl : Nat} (hL : L ≤ 3072) (hk : k ≤ 600000) (hs : sl ≤ 7302250) : q_Case xs L k sl 947 := by
  intro i h hi hI hn
  refine q_i1a (p := 947) rfl ?_
  obtain ⟨h1, ⟨v1, u1⟩, h2, ⟨v2, u2⟩, c1, i1, c2, t1, t2, hI2, hq⟩ := (q_turn (ix := [0, 1]) (ks := []) (vs := []) (Or.inl rfl) q_sq25 q_id25 q_ic25 rfl hI trivial : q_Tn (q_pe xs L) h 144 _ 1 _ [])
  have t1 : v1 = 0 := t1
  have t2 : v2 = 0 := t2
  subst t1; subst t2
  refine q_cll (p := 948) (rest := []) rfl rfl rfl (q_rcA hI.1) rfl (by decide) hk hs c1 ?_
  refine q_pop (p := 951) rfl ?_
  refine q_i1b (p := 952) rfl ?_
  refine q_cll (p := 953) (rest := []) rfl rfl rfl (q_rcB i1) rfl (Nat.le_of_ble_eq_true rfl) hk hs c2 ?_
  refine q_pop (p := 956) rfl ?_
  exact q_gto (p := 957) rfl (hn h2 hI2)
theorem q_cs26 {xs : Nat → Int32} {L k sl : Nat} (hL : L ≤ 3072) (hk : k ≤ 600000) (hs : sl ≤ 7302250) : q_Case xs L k sl 960 := by
  intro i h hi hI hn
  refine q_i1a (p := 960) rfl ?_
  refine q_zrg (p := 961) (j := 1) rfl rfl rfl rfl rfl rfl rfl rfl rfl rfl rfl (by omega) hL ?_
  obtain ⟨h1, ⟨v1, u1⟩, h2, ⟨v2, u2⟩, c1, i1, c2, t1, t2, hI2, hq⟩ := (q_turn (ix := [0, 1]) (ks := [1]) (vs := [q_zv xs (i + 1)]) (Or.inl rfl) q_sq26 q_id26 q_ic26 rfl hI ⟨q_kZ, trivial⟩ : q_Tn (q_pe xs L) h 146 _ 1 _ [q_zv xs (i + 1)])
  have t1 : v1 = 0 := t1
  have t2 : v2 = 0 := t2
  subst t1; subst t2
  refine q_cll (p := 974) (rest := []) rfl rfl rfl (q_rcA hI.1) rfl (by decide) hk hs c1 ?_
  refine q_pop (p := 977) rfl ?_
  refine q_i1b (p := 978) rfl ?_
  refine q_zrg (p := 979) (j := 1) rfl rfl rfl rfl rfl rfl rfl rfl rfl rfl rfl (by omega) hL ?_
  refine q_cll (p := 992) (rest := []) rfl rfl rfl (q_rcB i1) rfl (Nat.le_of_ble_eq_true rfl) hk hs c2 ?_
  refine q_pop (p := 995) rfl ?_
  exact q_gto (p := 996) rfl (hn h2 hI2)
theorem q_cs27 {xs : Nat → Int32} {L k sl : Nat} (hL : L ≤ 3072) (hk : k ≤ 600000) (hs : sl ≤ 7302250) : q_Case xs L k sl 999 := by
  intro i h hi hI hn
  refine q_i1a (p := 999) rfl ?_
  refine q_zrg (p := 1000) (j := 1) rfl rfl rfl rfl rfl rfl rfl rfl rfl rfl rfl (by omega) hL ?_
  obtain ⟨h1, ⟨v1, u1⟩, h2, ⟨v2, u2⟩, c1, i1, c2, t1, t2, hI2, hq⟩ := (q_turn (ix := [0, 1]) (ks := [1]) (vs := [q_zv xs (i + 1)]) (Or.inl rfl) q_sq27 q_id27 q_ic27 rfl hI ⟨q_kZ, trivial⟩ : q_Tn (q_pe xs L) h 147 _ 1 _ [q_zv xs (i + 1)])
  have t1 : v1 = 0 := t1
  have t2 : v2 = 0 := t2
  subst t1; subst t2
  refine q_cll (p := 1013) (rest := []) rfl rfl rfl (q_rcA hI.1) rfl (by decide) hk hs c1 ?_
  refine q_pop (p := 1016) rfl ?_
  refine q_i1b (p := 1017) rfl ?_
  refine q_zrg (p := 1018) (j := 1) rfl rfl rfl rfl rfl rfl rfl rfl rfl rfl rfl (by omega) hL ?_
  refine q_cll (p := 1031) (rest := []) rfl rfl rfl (q_rcB i1) rfl (Nat.le_of_ble_eq_true rfl) hk hs c2 ?_
  refine q_pop (p := 1034) rfl ?_
  exact q_gto (p := 1035) rfl (hn h2 hI2)
theorem q_cs28 {xs : Nat → Int32} {L k sl : Nat} (hL : L ≤ 3072) (hk : k ≤ 600000) (hs : sl ≤ 7302250) : q_Case xs L k sl 1038 := by
  intro i h hi hI hn
  refine q_i1a (p := 1038) rfl ?_
  refine q_zrg (p := 1039) (j := 1) rfl rfl rfl rfl rfl rfl rfl rfl rfl rfl rfl (by omega) hL ?_
  obtain ⟨h1, ⟨v1, u1⟩, h2, ⟨v2, u2⟩, c1, i1, c2, t1, t2, hI2, hq⟩ := (q_turn (ix := [0, 1]) (ks := [1]) (vs := [q_zv xs (i + 1)]) (Or.inl rfl) q_sq28 q_id28 q_ic28 rfl hI ⟨q_kZ, trivial⟩ : q_Tn (q_pe xs L) h 148 _ 1 _ [q_zv xs (i + 1)])
  have t1 : v1 = 0 := t1
  have t2 : v2 = 0 := t2
  subst t1; subst t2
  refine q_cll (p := 1052) (rest := []) rfl rfl rfl (q_rcA hI.1) rfl (by decide) hk hs c1 ?_
  refine q_pop (p := 1055) rfl ?_
  refine q_i1b (p := 1056) rfl ?_
  refine q_zrg (p := 1057) (j := 1) rfl rfl rfl rfl rfl rfl rfl rfl rfl rfl rfl (by omega) hL ?_
  refine q_cll (p := 1070) (rest := []) rfl rfl rfl (q_rcB i1) rfl (Nat.le_of_ble_eq_true rfl) hk hs c2 ?_
  refine q_pop (p := 1073) rfl ?_
  exact q_gto (p := 1074) rfl (hn h2 hI2)
theorem q_cs29 {xs : Nat → Int32} {L k sl : Nat} (hL : L ≤ 3072) (hk : k ≤ 600000) (hs : sl ≤ 7302250) : q_Case xs L k sl 1077 := by
  intro i h hi hI hn
  refine q_i1a (p := 1077) rfl ?_
  refine q_arg (p := 1078) (j := 1) rfl rfl rfl rfl rfl rfl (by omega) hL ?_
  refine q_arg (p := 1083) (j := 2) rfl rfl rfl rfl rfl rfl (by omega) hL ?_
  obtain ⟨h1, ⟨v1, u1⟩, h2, ⟨v2, u2⟩, c1, i1, c2, t1, t2, hI2, hq⟩ := (q_turn (ix := [0, 1]) (ks := [0, 0]) (vs := [(0, qNn (xs (i + 1))), (0, qNn (xs (i + 2)))]) (Or.inl rfl) q_sq29 q_id29 q_ic29 rfl hI ⟨q_kI, ⟨q_kI, trivial⟩⟩ : q_Tn (q_pe xs L) h 149 _ 1 _ [(0, qNn (xs (i + 1))), (0, qNn (xs (i + 2)))])
  have t1 : v1 = 0 := t1
  have t2 : v2 = 0 := t2
  subst t1; subst t2
  refine q_cll (p := 1088) (rest := []) rfl rfl rfl (q_rcA hI.1) rfl (by decide) hk hs c1 ?_
  refine q_pop (p := 1091) rfl ?_
  refine q_i1b (p := 1092) rfl ?_
  refine q_arg (p := 1093) (j := 1) rfl rfl rfl rfl rfl rfl (by omega) hL ?_
  refine q_arg (p := 1098) (j := 2) rfl rfl rfl rfl rfl rfl (by omega) hL ?_
  refine q_cll (p := 1103) (rest := []) rfl rfl rfl (q_rcB i1) rfl (Nat.le_of_ble_eq_true rfl) hk hs c2 ?_
  refine q_pop (p := 1106) rfl ?_
  exact q_gto (p := 1107) rfl (hn h2 hI2)
theorem q_cs30 {xs : Nat → Int32} {L k sl : Nat} (hL : L ≤ 3072) (hk : k ≤ 600000) (hs : sl ≤ 7302250) : q_Case xs L k sl 1110 := by
  intro i h hi hI hn
  refine q_i1a (p := 1110) rfl ?_
  obtain ⟨h1, ⟨v1, u1⟩, h2, ⟨v2, u2⟩, c1, i1, c2, t1, t2, hI2, hq⟩ := (q_turn (ix := [0, 1]) (ks := []) (vs := []) (Or.inl rfl) q_sq30 q_id30 q_ic30 rfl hI trivial : q_Tn (q_pe xs L) h 150 _ 1 _ [])
  have t1 : v1 = 0 := t1
  have t2 : v2 = 0 := t2
  subst t1; subst t2
  refine q_cll (p := 1111) (rest := []) rfl rfl rfl (q_rcA hI.1) rfl (by decide) hk hs c1 ?_
  refine q_pop (p := 1114) rfl ?_
  refine q_i1b (p := 1115) rfl ?_
  refine q_cll (p := 1116) (rest := []) rfl rfl rfl (q_rcB i1) rfl (Nat.le_of_ble_eq_true rfl) hk hs c2 ?_
  refine q_pop (p := 1119) rfl ?_
  exact q_gto (p := 1120) rfl (hn h2 hI2)
theorem q_cs31 {xs : Nat → Int32} {L k sl : Nat} (hL : L ≤ 3072) (hk : k ≤ 600000) (hs : sl ≤ 7302250) : q_Case xs L k sl 1123 := by
  intro i h hi hI hn
  refine q_i1a (p := 1123) rfl ?_
  refine q_arg (p := 1124) (j := 1) rfl rfl rfl rfl rfl rfl (by omega) hL ?_
  refine q_zrg (p := 1129) (j := 2) rfl rfl rfl rfl rfl rfl rfl rfl rfl rfl rfl (by omega) hL ?_
  obtain ⟨h1, ⟨v1, u1⟩, h2, ⟨v2, u2⟩, c1, i1, c2, t1, t2, hI2, hq⟩ := (q_turn (ix := [0, 1]) (ks := [0, 1]) (vs := [(0, qNn (xs (i + 1))), q_zv xs (i + 2)]) (Or.inl rfl) q_sq31 q_id31 q_ic31 rfl hI ⟨q_kI, ⟨q_kZ, trivial⟩⟩ : q_Tn (q_pe xs L) h 151 _ 1 _ [(0, qNn (xs (i + 1))), q_zv xs (i + 2)])
  have t1 : v1 = 0 := t1
  have t2 : v2 = 0 := t2
  subst t1; subst t2
  refine q_cll (p := 1142) (rest := []) rfl rfl rfl (q_rcA hI.1) rfl (by decide) hk hs c1 ?_
  refine q_pop (p := 1145) rfl ?_
  refine q_i1b (p := 1146) rfl ?_
  refine q_arg (p := 1147) (j := 1) rfl rfl rfl rfl rfl rfl (by omega) hL ?_
  refine q_zrg (p := 1152) (j := 2) rfl rfl rfl rfl rfl rfl rfl rfl rfl rfl rfl (by omega) hL ?_
  refine q_cll (p := 1165) (rest := []) rfl rfl rfl (q_rcB i1) rfl (Nat.le_of_ble_eq_true rfl) hk hs c2 ?_
  refine q_pop (p := 1168) rfl ?_
  exact q_gto (p := 1169) rfl (hn h2 hI2)
theorem q_cs32 {xs : Nat → Int32} {L k sl : Nat} (hL : L ≤ 3072) (hk : k ≤ 600000) (hs : sl ≤ 7302250) : q_Case xs L k sl 1172 := by
  intro i h hi hI hn
  refine q_i1a (p := 1172) rfl ?_
  refine q_arg (p := 1173) (j := 1) rfl rfl rfl rfl rfl rfl (by omega) hL ?_
  refine q_zrg (p := 1178) (j := 2) rfl rfl rfl rfl rfl rfl rfl rfl rfl rfl rfl (by omega) hL ?_
  obtain ⟨h1, ⟨v1, u1⟩, h2, ⟨v2, u2⟩, c1, i1, c2, t1, t2, hI2, hq⟩ := (q_turn (ix := [0, 1]) (ks := [0, 1]) (vs := [(0, qNn (xs (i + 1))), q_zv xs (i + 2)]) (Or.inl rfl) q_sq32 q_id32 q_ic32 rfl hI ⟨q_kI, ⟨q_kZ, trivial⟩⟩ : q_Tn (q_pe xs L) h 152 _ 1 _ [(0, qNn (xs (i + 1))), q_zv xs (i + 2)])
  have t1 : v1 = 0 := t1
  have t2 : v2 = 0 := t2
  subst t1; subst t2
  refine q_cll (p := 1191) (rest := []) rfl rfl rfl (q_rcA hI.1) rfl (by decide) hk hs c1 ?_
  refine q_pop (p := 1194) rfl ?_
  refine q_i1b (p := 1195) rfl ?_
  refine q_arg (p := 1196) (j := 1) rfl rfl rfl rfl rfl rfl (by omega) hL ?_
  refine q_zrg (p := 1201) (j := 2) rfl rfl rfl rfl rfl rfl rfl rfl rfl rfl rfl (by omega) hL ?_
  refine q_cll (p := 1214) (rest := []) rfl rfl rfl (q_rcB i1) rfl (Nat.le_of_ble_eq_true rfl) hk hs c2 ?_
  refine q_pop (p := 1217) rfl ?_
  exact q_gto (p := 1218) rfl (hn h2 hI2)
theorem q_cs33 {xs : Nat → Int32} {L k sl : Nat} (hL : L ≤ 3072) (hk : k ≤ 600000) (hs : sl ≤ 7302250) : q_Case xs L k sl 1221 := by
  intro i h hi hI hn
  refine q_i1a (p := 1221) rfl ?_
  refine q_zrg (p := 1222) (j := 1) rfl rfl rfl rfl rfl rfl rfl rfl rfl rfl rfl (by omega) hL ?_
  refine q_arg (p := 1235) (j := 2) rfl rfl rfl rfl rfl rfl (by omega) hL ?_
  obtain ⟨h1, ⟨v1, u1⟩, h2, ⟨v2, u2⟩, c1, i1, c2, t1, t2, hI2, hq⟩ := (q_turn (ix := [0, 1]) (ks := [1, 0]) (vs := [q_zv xs (i + 1), (0, qNn (xs (i + 2)))]) (Or.inl rfl) q_sq33 q_id33 q_ic33 rfl hI ⟨q_kZ, ⟨q_kI, trivial⟩⟩ : q_Tn (q_pe xs L) h 153 _ 1 _ [q_zv xs (i + 1), (0, qNn (xs (i + 2)))])
  have t1 : v1 = 0 := t1
  have t2 : v2 = 0 := t2
  subst t1; subst t2
  refine q_cll (p := 1240) (rest := []) rfl rfl rfl (q_rcA hI.1) rfl (by decide) hk hs c1 ?_
  refine q_pop (p := 1243) rfl ?_
  refine q_i1b (p := 1244) rfl ?_
  refine q_zrg (p := 1245) (j := 1) rfl rfl rfl rfl rfl rfl rfl rfl rfl rfl rfl (by omega) hL ?_
  refine q_arg (p := 1258) (j := 2) rfl rfl rfl rfl rfl rfl (by omega) hL ?_
  refine q_cll (p := 1263) (rest := []) rfl rfl rfl (q_rcB i1) rfl (Nat.le_of_ble_eq_true rfl) hk hs c2 ?_
  refine q_pop (p := 1266) rfl ?_
  exact q_gto (p := 1267) rfl (hn h2 hI2)
theorem q_cs34 {xs : Nat → Int32} {L k sl : Nat} (hL : L ≤ 3072) (hk : k ≤ 600000) (hs : sl ≤ 7302250) : q_Case xs L k sl 1270 := by
  intro i h hi hI hn
  refine q_i1a (p := 1270) rfl ?_
  obtain ⟨h1, ⟨v1, u1⟩, h2, ⟨v2, u2⟩, c1, i1, c2, t1, t2, hI2, hq⟩ := (q_turn (ix := [0, 1]) (ks := []) (vs := []) (Or.inl rfl) q_sq34 q_id34 q_ic34 rfl hI trivial : q_Tn (q_pe xs L) h 154 _ 1 _ [])
  have t1 : v1 = 0 := t1
  have t2 : v2 = 0 := t2
  subst t1; subst t2
  refine q_cll (p := 1271) (rest := []) rfl rfl rfl (q_rcA hI.1) rfl (by decide) hk hs c1 ?_
  refine q_pop (p := 1274) rfl ?_
  refine q_i1b (p := 1275) rfl ?_
  refine q_cll (p := 1276) (rest := []) rfl rfl rfl (q_rcB i1) rfl (Nat.le_of_ble_eq_true rfl) hk hs c2 ?_
  refine q_pop (p := 1279) rfl ?_
  exact q_gto (p := 1280) rfl (hn h2 hI2)
theorem q_cs35 {xs : Nat → Int32} {L k sl : Nat} (hL : L ≤ 3072) (hk : k ≤ 600000) (hs : sl ≤ 7302250) : q_Case xs L k sl 1283 := by
  intro i h hi hI hn
  refine q_i1a (p := 1283) rfl ?_
  refine q_arg (p := 1284) (j := 1) rfl rfl rfl rfl rfl rfl (by omega) hL ?_
  refine q_arg (p := 1289) (j := 2) rfl rfl rfl rfl rfl rfl (by omega) hL ?_
  obtain ⟨h1, ⟨v1, u1⟩, h2, ⟨v2, u2⟩, c1, i1, c2, t1, t2, hI2, hq⟩ := (q_turn (ix := [0, 1]) (ks := [0, 0]) (vs := [(0, qNn (xs (i + 1))), (0, qNn (xs (i + 2)))]) (Or.inl rfl) q_sq35 q_id35 q_ic35 rfl hI ⟨q_kI, ⟨q_kI, trivial⟩⟩ : q_Tn (q_pe xs L) h 155 _ 1 _ [(0, qNn (xs (i + 1))), (0, qNn (xs (i + 2)))])
  have t1 : v1 = 0 := t1
  have t2 : v2 = 0 := t2
  subst t1; subst t2
  refine q_cll (p := 1294) (rest := []) rfl rfl rfl (q_rcA hI.1) rfl (by decide) hk hs c1 ?_
  refine q_pop (p := 1297) rfl ?_
  refine q_i1b (p := 1298) rfl ?_
  refine q_arg (p := 1299) (j := 1) rfl rfl rfl rfl rfl rfl (by omega) hL ?_
  refine q_arg (p := 1304) (j := 2) rfl rfl rfl rfl rfl rfl (by omega) hL ?_
  refine q_cll (p := 1309) (rest := []) rfl rfl rfl (q_rcB i1) rfl (Nat.le_of_ble_eq_true rfl) hk hs c2 ?_
  refine q_pop (p := 1312) rfl ?_
  exact q_gto (p := 1313) rfl (hn h2 hI2)
theorem q_cs36 {xs : Nat → Int32} {L k sl : Nat} (hL : L ≤ 3072) (hk : k ≤ 600000) (hs : sl ≤ 7302250) : q_Case xs L k sl 1316 := by
  intro i h hi hI hn
  refine q_i1a (p := 1316) rfl ?_
  refine q_zrg (p := 1317) (j := 1) rfl rfl rfl rfl rfl rfl rfl rfl rfl rfl rfl (by omega) hL ?_
  obtain ⟨h1, ⟨v1, u1⟩, h2, ⟨v2, u2⟩, c1, i1, c2, t1, t2, hI2, hq⟩ := (q_turn (ix := [0, 1]) (ks := [1]) (vs := [q_zv xs (i + 1)]) (Or.inl rfl) q_sq36 q_id36 q_ic36 rfl hI ⟨q_kZ, trivial⟩ : q_Tn (q_pe xs L) h 156 _ 1 _ [q_zv xs (i + 1)])
  have t1 : v1 = 0 := t1
  have t2 : v2 = 0 := t2
  subst t1; subst t2
  refine q_cll (p := 1330) (rest := []) rfl rfl rfl (q_rcA hI.1) rfl (by decide) hk hs c1 ?_
  refine q_pop (p := 1333) rfl ?_
  refine q_i1b (p := 1334) rfl ?_
  refine q_zrg (p := 1335) (j := 1) rfl rfl rfl rfl rfl rfl rfl rfl rfl rfl rfl (by omega) hL ?_
  refine q_cll (p := 1348) (rest := []) rfl rfl rfl (q_rcB i1) rfl (Nat.le_of_ble_eq_true rfl) hk hs c2 ?_
  refine q_pop (p := 1351) rfl ?_
  exact q_gto (p := 1352) rfl (hn h2 hI2)
theorem q_cs37 {xs : Nat → Int32} {L k sl : Nat} (hL : L ≤ 3072) (hk : k ≤ 600000) (hs : sl ≤ 7302250) : q_Case xs L k sl 1355 := by
  intro i h hi hI hn
  refine q_i1a (p := 1355) rfl ?_
  obtain ⟨h1, ⟨v1, u1⟩, h2, ⟨v2, u2⟩, c1, i1, c2, t1, t2, hI2, hq⟩ := (q_turn (ix := [0, 1]) (ks := []) (vs := []) (Or.inl rfl) q_sq37 q_id37 q_ic37 rfl hI trivial : q_Tn (q_pe xs L) h 157 _ 1 _ [])
  have t1 : v1 = 0 := t1
  have t2 : v2 = 0 := t2
  subst t1; subst t2
  refine q_cll (p := 1356) (rest := []) rfl rfl rfl (q_rcA hI.1) rfl (by decide) hk hs c1 ?_
  refine q_pop (p := 1359) rfl ?_
  refine q_i1b (p := 1360) rfl ?_
  refine q_cll (p := 1361) (rest := []) rfl rfl rfl (q_rcB i1) rfl (Nat.le_of_ble_eq_true rfl) hk hs c2 ?_
  refine q_pop (p := 1364) rfl ?_
  exact q_gto (p := 1365) rfl (hn h2 hI2)
theorem q_cs38 {xs : Nat → Int32} {L k sl : Nat} (hL : L ≤ 3072) (hk : k ≤ 600000) (hs : sl ≤ 7302250) : q_Case xs L k sl 1368 := by
  intro i h hi hI hn
  refine q_i1a (p := 1368) rfl ?_
  refine q_arg (p := 1369) (j := 1) rfl rfl rfl rfl rfl rfl (by omega) hL ?_
  obtain ⟨h1, ⟨v1, u1⟩, h2, ⟨v2, u2⟩, c1, i1, c2, t1, t2, hI2, hq⟩ := (q_turn (ix := [0, 1]) (ks := [0]) (vs := [(0, qNn (xs (i + 1)))]) (Or.inl rfl) q_sq38 q_id38 q_ic38 rfl hI ⟨q_kI, trivial⟩ : q_Tn (q_pe xs L) h 158 _ 1 _ [(0, qNn (xs (i + 1)))])
  have t1 : v1 = 0 := t1
  have t2 : v2 = 0 := t2
  subst t1; subst t2
  refine q_cll (p := 1374) (rest := []) rfl rfl rfl (q_rcA hI.1) rfl (by decide) hk hs c1 ?_
  refine q_pop (p := 1377) rfl ?_
  refine q_i1b (p := 1378) rfl ?_
  refine q_arg (p := 1379) (j := 1) rfl rfl rfl rfl rfl rfl (by omega) hL ?_
  refine q_cll (p := 1384) (rest := []) rfl rfl rfl (q_rcB i1) rfl (Nat.le_of_ble_eq_true rfl) hk hs c2 ?_
  refine q_pop (p := 1387) rfl ?_
  exact q_gto (p := 1388) rfl (hn h2 hI2)
theorem q_cs39 {xs : Nat → Int32} {L k sl : Nat} (hL : L ≤ 3072) (hk : k ≤ 600000) (hs : sl ≤ 7302250) : q_Case xs L k sl 1391 := by
  intro i h hi hI hn
  refine q_i1a (p := 1391) rfl ?_
  refine q_arg (p := 1392) (j := 1) rfl rfl rfl rfl rfl rfl (by omega) hL ?_
  refine q_arg (p := 1397) (j := 2) rfl rfl rfl rfl rfl rfl (by omega) hL ?_
  refine q_arg (p := 1402) (j := 3) rfl rfl rfl rfl rfl rfl (by omega) hL ?_
  obtain ⟨h1, ⟨v1, u1⟩, h2, ⟨v2, u2⟩, c1, i1, c2, t1, t2, hI2, hq⟩ := (q_turn (ix := [0, 1]) (ks := [0, 0, 0]) (vs := [(0, qNn (xs (i + 1))), (0, qNn (xs (i + 2))), (0, qNn (xs (i + 3)))]) (Or.inl rfl) q_sq39 q_id39 q_ic39 rfl hI ⟨q_kI, ⟨q_kI, ⟨q_kI, trivial⟩⟩⟩ : q_Tn (q_pe xs L) h 159 _ 1 _ [(0, qNn (xs (i + 1))), (0, qNn (xs (i + 2))), (0, qNn (xs (i + 3)))])
  have t1 : v1 = 0 := t1
  have t2 : v2 = 0 := t2
  subst t1; subst t2
  refine q_cll (p := 1407) (rest := []) rfl rfl rfl (q_rcA hI.1) rfl (by decide) hk hs c1 ?_
  refine q_pop (p := 1410) rfl ?_
  refine q_i1b (p := 1411) rfl ?_
  refine q_arg (p := 1412) (j := 1) rfl rfl rfl rfl rfl rfl (by omega) hL ?_
  refine q_arg (p := 1417) (j := 2) rfl rfl rfl rfl rfl rfl (by omega) hL ?_
  refine q_arg (p := 1422) (j := 3) rfl rfl rfl rfl rfl rfl (by omega) hL ?_
  refine q_cll (p := 1427) (rest := []) rfl rfl rfl (q_rcB i1) rfl (Nat.le_of_ble_eq_true rfl) hk hs c2 ?_
  refine q_pop (p := 1430) rfl ?_
  exact q_gto (p := 1431) rfl (hn h2 hI2)
theorem q_cs40 {xs : Nat → Int32} {L k sl : Nat} (hL : L ≤ 3072) (hk : k ≤ 600000) (hs : sl ≤ 7302250) : q_Case xs L k sl 1434 := by
  intro i h hi hI hn
  refine q_i1a (p := 1434) rfl ?_
  refine q_arg (p := 1435) (j := 1) rfl rfl rfl rfl rfl rfl (by omega) hL ?_
  refine q_arg (p := 1440) (j := 2) rfl rfl rfl rfl rfl rfl (by omega) hL ?_
  refine q_arg (p := 1445) (j := 3) rfl rfl rfl rfl rfl rfl (by omega) hL ?_
  refine q_arg (p := 1450) (j := 4) rfl rfl rfl rfl rfl rfl (by omega) hL ?_
  obtain ⟨h1, ⟨v1, u1⟩, h2, ⟨v2, u2⟩, c1, i1, c2, t1, t2, hI2, hq⟩ := (q_turn (ix := [0, 1]) (ks := [0, 0, 0, 0]) (vs := [(0, qNn (xs (i + 1))), (0, qNn (xs (i + 2))), (0, qNn (xs (i + 3))), (0, qNn (xs (i + 4)))]) (Or.inl rfl) q_sq40 q_id40 q_ic40 rfl hI ⟨q_kI, ⟨q_kI, ⟨q_kI, ⟨q_kI, trivial⟩⟩⟩⟩ : q_Tn (q_pe xs L) h 164 _ 1 _ [(0, qNn (xs (i + 1))), (0, qNn (xs (i + 2))), (0, qNn (xs (i + 3))), (0, qNn (xs (i + 4)))])
  have t1 : v1 = 0 := t1
  have t2 : v2 = 0 := t2
  subst t1; subst t2
  refine q_cll (p := 1455) (rest := []) rfl rfl rfl (q_rcA hI.1) rfl (by decide) hk hs c1 ?_
  refine q_pop (p := 1458) rfl ?_
  refine q_i1b (p := 1459) rfl ?_
  refine q_arg (p := 1460) (j := 1) rfl rfl rfl rfl rfl rfl (by omega) hL ?_
  refine q_arg (p := 1465) (j := 2) rfl rfl rfl rfl rfl rfl (by omega) hL ?_
  refine q_arg (p := 1470) (j := 3) rfl rfl rfl rfl rfl rfl (by omega) hL ?_
  refine q_arg (p := 1475) (j := 4) rfl rfl rfl rfl rfl rfl (by omega) hL ?_
  refine q_cll (p := 1480) (rest := []) rfl rfl rfl (q_rcB i1) rfl (Nat.le_of_ble_eq_true rfl) hk hs c2 ?_
  refine q_pop (p := 1483) rfl ?_
  exact q_gto (p := 1484) rfl (hn h2 hI2)
theorem q_cs41 {xs : Nat → Int32} {L k sl : Nat} (hL : L ≤ 3072) (hk : k ≤ 600000) (hs : sl ≤ 7302250) : q_Case xs L k sl 1487 := by
  intro i h hi hI hn
  refine q_i1a (p := 1487) rfl ?_
  refine q_arg (p := 1488) (j := 1) rfl rfl rfl rfl rfl rfl (by omega) hL ?_
  refine q_arg (p := 1493) (j := 2) rfl rfl rfl rfl rfl rfl (by omega) hL ?_
  refine q_arg (p := 1498) (j := 3) rfl rfl rfl rfl rfl rfl (by omega) hL ?_
  obtain ⟨h1, ⟨v1, u1⟩, h2, ⟨v2, u2⟩, c1, i1, c2, t1, t2, hI2, hq⟩ := (q_turn (ix := [0, 1]) (ks := [0, 0, 0]) (vs := [(0, qNn (xs (i + 1))), (0, qNn (xs (i + 2))), (0, qNn (xs (i + 3)))]) (Or.inl rfl) q_sq41 q_id41 q_ic41 rfl hI ⟨q_kI, ⟨q_kI, ⟨q_kI, trivial⟩⟩⟩ : q_Tn (q_pe xs L) h 165 _ 1 _ [(0, qNn (xs (i + 1))), (0, qNn (xs (i + 2))), (0, qNn (xs (i + 3)))])
  have t1 : v1 = 0 := t1
  have t2 : v2 = 0 := t2
  subst t1; subst t2
  refine q_cll (p := 1503) (rest := []) rfl rfl rfl (q_rcA hI.1) rfl (by decide) hk hs c1 ?_
  refine q_pop (p := 1506) rfl ?_
  refine q_i1b (p := 1507) rfl ?_
  refine q_arg (p := 1508) (j := 1) rfl rfl rfl rfl rfl rfl (by omega) hL ?_
  refine q_arg (p := 1513) (j := 2) rfl rfl rfl rfl rfl rfl (by omega) hL ?_
  refine q_arg (p := 1518) (j := 3) rfl rfl rfl rfl rfl rfl (by omega) hL ?_
  refine q_cll (p := 1523) (rest := []) rfl rfl rfl (q_rcB i1) rfl (Nat.le_of_ble_eq_true rfl) hk hs c2 ?_
  refine q_pop (p := 1526) rfl ?_
  exact q_gto (p := 1527) rfl (hn h2 hI2)
theorem q_cs42 {xs : Nat → Int32} {L k sl : Nat} (hL : L ≤ 3072) (hk : k ≤ 600000) (hs : sl ≤ 7302250) : q_Case xs L k sl 1530 := by
  intro i h hi hI hn
  refine q_i1a (p := 1530) rfl ?_
  obtain ⟨h1, ⟨v1, u1⟩, h2, ⟨v2, u2⟩, c1, i1, c2, t1, t2, hI2, hq⟩ := (q_turn (ix := [0, 1]) (ks := []) (vs := []) (Or.inl rfl) q_sq42 q_id42 q_ic42 rfl hI trivial : q_Tn (q_pe xs L) h 166 _ 1 _ [])
  have t1 : v1 = 0 := t1
  have t2 : v2 = 0 := t2
  subst t1; subst t2
  refine q_cll (p := 1531) (rest := []) rfl rfl rfl (q_rcA hI.1) rfl (by decide) hk hs c1 ?_
  refine q_pop (p := 1534) rfl ?_
  refine q_i1b (p := 1535) rfl ?_
  refine q_cll (p := 1536) (rest := []) rfl rfl rfl (q_rcB i1) rfl (Nat.le_of_ble_eq_true rfl) hk hs c2 ?_
  refine q_pop (p := 1539) rfl ?_
  exact q_gto (p := 1540) rfl (hn h2 hI2)
theorem q_cs43 {xs : Nat → Int32} {L k sl : Nat} (hL : L ≤ 3072) (hk : k ≤ 600000) (hs : sl ≤ 7302250) : q_Case xs L k sl 1543 := by
  intro i h hi hI hn
  refine q_i1a (p := 1543) rfl ?_
  obtain ⟨h1, ⟨v1, u1⟩, h2, ⟨v2, u2⟩, c1, i1, c2, t1, t2, hI2, hq⟩ := (q_turn (ix := [0, 1]) (ks := []) (vs := []) (Or.inl rfl) q_sq43 q_id43 q_ic43 rfl hI trivial : q_Tn (q_pe xs L) h 167 _ 1 _ [])
  have t1 : v1 = 0 := t1
  have t2 : v2 = 0 := t2
  subst t1; subst t2
  refine q_cll (p := 1544) (rest := []) rfl rfl rfl (q_rcA hI.1) rfl (by decide) hk hs c1 ?_
  refine q_pop (p := 1547) rfl ?_
  refine q_i1b (p := 1548) rfl ?_
  refine q_cll (p := 1549) (rest := []) rfl rfl rfl (q_rcB i1) rfl (Nat.le_of_ble_eq_true rfl) hk hs c2 ?_
  refine q_pop (p := 1552) rfl ?_
  exact q_gto (p := 1553) rfl (hn h2 hI2)
theorem q_cs44 {xs : Nat → Int32} {L k sl : Nat} (hL : L ≤ 3072) (hk : k ≤ 600000) (hs : sl ≤ 7302250) : q_Case xs L k sl 1556 := by
  intro i h hi hI hn
  refine q_i1a (p := 1556) rfl ?_
  refine q_arg (p := 1557) (j := 1) rfl rfl rfl rfl rfl rfl (by omega) hL ?_
  refine q_arg (p := 1562) (j := 2) rfl rfl rfl rfl rfl rfl (by omega) hL ?_
  obtain ⟨h1, ⟨v1, u1⟩, h2, ⟨v2, u2⟩, c1, i1, c2, t1, t2, hI2, hq⟩ := (q_turn (ix := [0, 1]) (ks := [0, 0]) (vs := [(0, qNn (xs (i + 1))), (0, qNn (xs (i + 2)))]) (Or.inl rfl) q_sq44 q_id44 q_ic44 rfl hI ⟨q_kI, ⟨q_kI, trivial⟩⟩ : q_Tn (q_pe xs L) h 168 _ 1 _ [(0, qNn (xs (i + 1))), (0, qNn (xs (i + 2)))])
  have t1 : v1 = 0 := t1
  have t2 : v2 = 0 := t2
  subst t1; subst t2
  refine q_cll (p := 1567) (rest := []) rfl rfl rfl (q_rcA hI.1) rfl (by decide) hk hs c1 ?_
  refine q_pop (p := 1570) rfl ?_
  refine q_i1b (p := 1571) rfl ?_
  refine q_arg (p := 1572) (j := 1) rfl rfl rfl rfl rfl rfl (by omega) hL ?_
  refine q_arg (p := 1577) (j := 2) rfl rfl rfl rfl rfl rfl (by omega) hL ?_
  refine q_cll (p := 1582) (rest := []) rfl rfl rfl (q_rcB i1) rfl (Nat.le_of_ble_eq_true rfl) hk hs c2 ?_
  refine q_pop (p := 1585) rfl ?_
  exact q_gto (p := 1586) rfl (hn h2 hI2)
theorem q_cs45 {xs : Nat → Int32} {L k sl : Nat} (hL : L ≤ 3072) (hk : k ≤ 600000) (hs : sl ≤ 7302250) : q_Case xs L k sl 1589 := by
  intro i h hi hI hn
  refine q_i1a (p := 1589) rfl ?_
  refine q_arg (p := 1590) (j := 1) rfl rfl rfl rfl rfl rfl (by omega) hL ?_
  obtain ⟨h1, ⟨v1, u1⟩, h2, ⟨v2, u2⟩, c1, i1, c2, t1, t2, hI2, hq⟩ := (q_turn (ix := [0, 1]) (ks := [0]) (vs := [(0, qNn (xs (i + 1)))]) (Or.inl rfl) q_sq45 q_id45 q_ic45 rfl hI ⟨q_kI, trivial⟩ : q_Tn (q_pe xs L) h 169 _ 1 _ [(0, qNn (xs (i + 1)))])
  have t1 : v1 = 0 := t1
  have t2 : v2 = 0 := t2
  subst t1; subst t2
  refine q_cll (p := 1595) (rest := []) rfl rfl rfl (q_rcA hI.1) rfl (by decide) hk hs c1 ?_
  refine q_pop (p := 1598) rfl ?_
  refine q_i1b (p := 1599) rfl ?_
  refine q_arg (p := 1600) (j := 1) rfl rfl rfl rfl rfl rfl (by omega) hL ?_
  refine q_cll (p := 1605) (rest := []) rfl rfl rfl (q_rcB i1) rfl (Nat.le_of_ble_eq_true rfl) hk hs c2 ?_
  refine q_pop (p := 1608) rfl ?_
  exact q_gto (p := 1609) rfl (hn h2 hI2)
theorem q_cs46 {xs : Nat → Int32} {L k sl : Nat} (hL : L ≤ 3072) (hk : k ≤ 600000) (hs : sl ≤ 7302250) : q_Case xs L k sl 1612 := by
  intro i h hi hI hn
  refine q_i1a (p := 1612) rfl ?_
  refine q_arg (p := 1613) (j := 1) rfl rfl rfl rfl rfl rfl (by omega) hL ?_
  refine q_arg (p := 1618) (j := 2) rfl rfl rfl rfl rfl rfl (by omega) hL ?_
  obtain ⟨h1, ⟨v1, u1⟩, h2, ⟨v2, u2⟩, c1, i1, c2, t1, t2, hI2, hq⟩ := (q_turn (ix := [0, 1]) (ks := [0, 0]) (vs := [(0, qNn (xs (i + 1))), (0, qNn (xs (i + 2)))]) (Or.inl rfl) q_sq46 q_id46 q_ic46 rfl hI ⟨q_kI, ⟨q_kI, trivial⟩⟩ : q_Tn (q_pe xs L) h 171 _ 1 _ [(0, qNn (xs (i + 1))), (0, qNn (xs (i + 2)))])
  have t1 : v1 = 0 := t1
  have t2 : v2 = 0 := t2
  subst t1; subst t2
  refine q_cll (p := 1623) (rest := []) rfl rfl rfl (q_rcA hI.1) rfl (by decide) hk hs c1 ?_
  refine q_pop (p := 1626) rfl ?_
  refine q_i1b (p := 1627) rfl ?_
  refine q_arg (p := 1628) (j := 1) rfl rfl rfl rfl rfl rfl (by omega) hL ?_
  refine q_arg (p := 1633) (j := 2) rfl rfl rfl rfl rfl rfl (by omega) hL ?_
  refine q_cll (p := 1638) (rest := []) rfl rfl rfl (q_rcB i1) rfl (Nat.le_of_ble_eq_true rfl) hk hs c2 ?_
  refine q_pop (p := 1641) rfl ?_
  exact q_gto (p := 1642) rfl (hn h2 hI2)
theorem q_cs47 {xs : Nat → Int32} {L k sl : Nat} (hL : L ≤ 3072) (hk : k ≤ 600000) (hs : sl ≤ 7302250) : q_Case xs L k sl 1645 := by
  intro i h hi hI hn
  refine q_i1a (p := 1645) rfl ?_
  refine q_arg (p := 1646) (j := 1) rfl rfl rfl rfl rfl rfl (by omega) hL ?_
  obtain ⟨h1, ⟨v1, u1⟩, h2, ⟨v2, u2⟩, c1, i1, c2, t1, t2, hI2, hq⟩ := (q_turn (ix := [0, 1]) (ks := [0]) (vs := [(0, qNn (xs (i + 1)))]) (Or.inl rfl) q_sq47 q_id47 q_ic47 rfl hI ⟨q_kI, trivial⟩ : q_Tn (q_pe xs L) h 172 _ 1 _ [(0, qNn (xs (i + 1)))])
  have t1 : v1 = 0 := t1
  have t2 : v2 = 0 := t2
  subst t1; subst t2
  refine q_cll (p := 1651) (rest := []) rfl rfl rfl (q_rcA hI.1) rfl (by decide) hk hs c1 ?_
  refine q_pop (p := 1654) rfl ?_
  refine q_i1b (p := 1655) rfl ?_
  refine q_arg (p := 1656) (j := 1) rfl rfl rfl rfl rfl rfl (by omega) hL ?_
  refine q_cll (p := 1661) (rest := []) rfl rfl rfl (q_rcB i1) rfl (Nat.le_of_ble_eq_true rfl) hk hs c2 ?_
  refine q_pop (p := 1664) rfl ?_
  exact q_gto (p := 1665) rfl (hn h2 hI2)
theorem q_cs48 {xs : Nat → Int32} {L k sl : Nat} (hL : L ≤ 3072) (hk : k ≤ 600000) (hs : sl ≤ 7302250) : q_Case xs L k sl 1668 := by
  intro i h hi hI hn
  refine q_i1a (p := 1668) rfl ?_
  refine q_arg (p := 1669) (j := 1) rfl rfl rfl rfl rfl rfl (by omega) hL ?_
  refine q_arg (p := 1674) (j := 2) rfl rfl rfl rfl rfl rfl (by omega) hL ?_
  refine q_arg (p := 1679) (j := 3) rfl rfl rfl rfl rfl rfl (by omega) hL ?_
  obtain ⟨h1, ⟨v1, u1⟩, h2, ⟨v2, u2⟩, c1, i1, c2, t1, t2, hI2, hq⟩ := (q_turn (ix := [0, 1]) (ks := [0, 0, 0]) (vs := [(0, qNn (xs (i + 1))), (0, qNn (xs (i + 2))), (0, qNn (xs (i + 3)))]) (Or.inl rfl) q_sq48 q_id48 q_ic48 rfl hI ⟨q_kI, ⟨q_kI, ⟨q_kI, trivial⟩⟩⟩ : q_Tn (q_pe xs L) h 173 _ 1 _ [(0, qNn (xs (i + 1))), (0, qNn (xs (i + 2))), (0, qNn (xs (i + 3)))])
  have t1 : v1 = 0 := t1
  have t2 : v2 = 0 := t2
  subst t1; subst t2
  refine q_cll (p := 1684) (rest := []) rfl rfl rfl (q_rcA hI.1) rfl (by decide) hk hs c1 ?_
  refine q_pop (p := 1687) rfl ?_
  refine q_i1b (p := 1688) rfl ?_
  refine q_arg (p := 1689) (j := 1) rfl rfl rfl rfl rfl rfl (by omega) hL ?_
  refine q_arg (p := 1694) (j := 2) rfl rfl rfl rfl rfl rfl (by omega) hL ?_
  refine q_arg (p := 1699) (j := 3) rfl rfl rfl rfl rfl rfl (by omega) hL ?_
  refine q_cll (p := 1704) (rest := []) rfl rfl rfl (q_rcB i1) rfl (Nat.le_of_ble_eq_true rfl) hk hs c2 ?_
  refine q_pop (p := 1707) rfl ?_
  exact q_gto (p := 1708) rfl (hn h2 hI2)
theorem q_cs49 {xs : Nat → Int32} {L k sl : Nat} (hL : L ≤ 3072) (hk : k ≤ 600000) (hs : sl ≤ 7302250) : q_Case xs L k sl 1711 := by
  intro i h hi hI hn
  refine q_i1a (p := 1711) rfl ?_
  obtain ⟨h1, ⟨v1, u1⟩, h2, ⟨v2, u2⟩, c1, i1, c2, t1, t2, hI2, hq⟩ := (q_mark hI : q_Tn (q_pe xs L) h 175 _ 1 _ [])
  have t1 : v1 = 0 := t1
  have t2 : v2 = 0 := t2
  subst t1; subst t2
  refine q_cll (p := 1712) (rest := []) rfl rfl rfl (q_rcA hI.1) rfl (by decide) hk hs c1 ?_
  refine q_pop (p := 1715) rfl ?_
  refine q_i1b (p := 1716) rfl ?_
  refine q_cll (p := 1717) (rest := []) rfl rfl rfl (q_rcB i1) rfl (Nat.le_of_ble_eq_true rfl) hk hs c2 ?_
  refine q_pop (p := 1720) rfl ?_
  exact q_gto (p := 1721) rfl (hn h2 hI2)
theorem q_cs50 {xs : Nat → Int32} {L k sl : Nat} (hL : L ≤ 3072) (hk : k ≤ 600000) (hs : sl ≤ 7302250) : q_Case xs L k sl 1724 := by
  intro i h hi hI hn
  refine q_i1a (p := 1724) rfl ?_
  obtain ⟨h1, ⟨v1, u1⟩, h2, ⟨v2, u2⟩, c1, i1, c2, t1, t2, hI2, hq⟩ := (q_back hI : q_Tn (q_pe xs L) h 176 _ 1 _ [])
  have t1 : v1 = 0 := t1
  have t2 : v2 = 0 := t2
  subst t1; subst t2
  refine q_cll (p := 1725) (rest := []) rfl rfl rfl (q_rcA hI.1) rfl (by decide) hk hs c1 ?_
  refine q_pop (p := 1728) rfl ?_
  refine q_i1b (p := 1729) rfl ?_
  refine q_cll (p := 1730) (rest := []) rfl rfl rfl (q_rcB i1) rfl (Nat.le_of_ble_eq_true rfl) hk hs c2 ?_
  refine q_pop (p := 1733) rfl ?_
  exact q_gto (p := 1734) rfl (hn h2 hI2)
def q_TG : List Nat := [252, 265, 278, 291, 334, 407, 440, 503, 566, 589, 612, 635, 658, 691, 724, 757, 780, 803, 816, 839, 852, 865, 878, 901, 934, 947, 960, 999, 1038, 1077, 1110, 1123, 1172, 1221, 1270, 1283, 1316, 1355, 1368, 1391, 1434, 1487, 1530, 1543, 1556, 1589, 1612, 1645, 1668, 1711, 1724]
theorem q_css {xs : Nat → Int32} {L k sl : Nat} (hL : L ≤ 3072) (hk : k ≤ 600000) (hs : sl ≤ 7302250) : ∀ t ∈ q_TG, q_Case xs L k sl t := List.forall_mem_cons.mpr ⟨q_cs0 hL hk hs, List.forall_mem_cons.mpr ⟨q_cs1 hL hk hs, List.forall_mem_cons.mpr ⟨q_cs2 hL hk hs, List.forall_mem_cons.mpr ⟨q_cs3 hL hk hs, List.forall_mem_cons.mpr ⟨q_cs4 hL hk hs, List.forall_mem_cons.mpr ⟨q_cs5 hL hk hs, List.forall_mem_cons.mpr ⟨q_cs6 hL hk hs, List.forall_mem_cons.mpr ⟨q_cs7 hL hk hs, List.forall_mem_cons.mpr ⟨q_cs8 hL hk hs, List.forall_mem_cons.mpr ⟨q_cs9 hL hk hs, List.forall_mem_cons.mpr ⟨q_cs10 hL hk hs, List.forall_mem_cons.mpr ⟨q_cs11 hL hk hs, List.forall_mem_cons.mpr ⟨q_cs12 hL hk hs, List.forall_mem_cons.mpr ⟨q_cs13 hL hk hs, List.forall_mem_cons.mpr ⟨q_cs14 hL hk hs, List.forall_mem_cons.mpr ⟨q_cs15 hL hk hs, List.forall_mem_cons.mpr ⟨q_cs16 hL hk hs, List.forall_mem_cons.mpr ⟨q_cs17 hL hk hs, List.forall_mem_cons.mpr ⟨q_cs18 hL hk hs, List.forall_mem_cons.mpr ⟨q_cs19 hL hk hs, List.forall_mem_cons.mpr ⟨q_cs20 hL hk hs, List.forall_mem_cons.mpr ⟨q_cs21 hL hk hs, List.forall_mem_cons.mpr ⟨q_cs22 hL hk hs, List.forall_mem_cons.mpr ⟨q_cs23 hL hk hs, List.forall_mem_cons.mpr ⟨q_cs24 hL hk hs, List.forall_mem_cons.mpr ⟨q_cs25 hL hk hs, List.forall_mem_cons.mpr ⟨q_cs26 hL hk hs, List.forall_mem_cons.mpr ⟨q_cs27 hL hk hs, List.forall_mem_cons.mpr ⟨q_cs28 hL hk hs, List.forall_mem_cons.mpr ⟨q_cs29 hL hk hs, List.forall_mem_cons.mpr ⟨q_cs30 hL hk hs, List.forall_mem_cons.mpr ⟨q_cs31 hL hk hs, List.forall_mem_cons.mpr ⟨q_cs32 hL hk hs, List.forall_mem_cons.mpr ⟨q_cs33 hL hk hs, List.forall_mem_cons.mpr ⟨q_cs34 hL hk hs, List.forall_mem_cons.mpr ⟨q_cs35 hL hk hs, List.forall_mem_cons.mpr ⟨q_cs36 hL hk hs, List.forall_mem_cons.mpr ⟨q_cs37 hL hk hs, List.forall_mem_cons.mpr ⟨q_cs38 hL hk hs, List.forall_mem_cons.mpr ⟨q_cs39 hL hk hs, List.forall_mem_cons.mpr ⟨q_cs40 hL hk hs, List.forall_mem_cons.mpr ⟨q_cs41 hL hk hs, List.forall_mem_cons.mpr ⟨q_cs42 hL hk hs, List.forall_mem_cons.mpr ⟨q_cs43 hL hk hs, List.forall_mem_cons.mpr ⟨q_cs44 hL hk hs, List.forall_mem_cons.mpr ⟨q_cs45 hL hk hs, List.forall_mem_cons.mpr ⟨q_cs46 hL hk hs, List.forall_mem_cons.mpr ⟨q_cs47 hL hk hs, List.forall_mem_cons.mpr ⟨q_cs48 hL hk hs, List.forall_mem_cons.mpr ⟨q_cs49 hL hk hs, List.forall_mem_cons.mpr ⟨q_cs50 hL hk hs, fun _ h => absurd h List.not_mem_nil⟩⟩⟩⟩⟩⟩⟩⟩⟩⟩⟩⟩⟩⟩⟩⟩⟩⟩⟩⟩⟩⟩⟩⟩⟩⟩⟩⟩⟩⟩⟩⟩⟩⟩⟩⟩⟩⟩⟩⟩⟩⟩⟩⟩⟩⟩⟩⟩⟩⟩⟩
theorem q_lt6 {i L : Nat} (hL : L ≤ 3072) (hi : i ≤ L) : q_op 4 (qI i) (qI (qNn (qI L - qI 6))) = !decide (i + 6 ≤ L) := by
  have t1 : (qI i).toInt = (i : Int) := nI_toInt (n := i) (by omega)
  have t2 : (qI L - qI 6).toInt = (L : Int) - 6 := by
    rw [Int32.toInt_sub, show (qI L).toInt = (L : Int) from nI_toInt (n := L) (by omega), show (qI 6).toInt = 6 from rfl]
    rw [Int.bmod_eq_of_le (by omega) (by omega)]
  show decide (qI (qNn (qI L - qI 6)) < qI i) = _
  rw [qI_N]
  by_cases hc : i + 6 ≤ L
  · rw [decide_eq_true hc, decide_eq_false]
    · rfl
    · rw [Int32.lt_iff_toInt_lt, t1, t2]
      omega
  · rw [decide_eq_false hc, decide_eq_true]
    · rfl
    · rw [Int32.lt_iff_toInt_lt, t1, t2]
      omega
/-- from the loop's head -/
theorem q_loop {xs : Nat → Int32} {L k sl : Nat} (hL : L ≤ 3072) (hk : k ≤ 600000) (hs : sl ≤ 7302250) : ∀ (m i : Nat) (h : qH), L - i < m → i ≤ L → q_INV h → q_G xs L k sl h 18 (q_lv i) []
  | 0, i, h, hm, _, _ => absurd hm (Nat.not_lt_zero _)
  | m + 1, i, h, hm, hi, hI => by
    refine q_i13 (p := 18) rfl ?_
    refine q_i10 (p := 19) rfl ?_
    refine q_xi (pc := 20) (e := (19, 20, 0, 0, 0, 0, [])) rfl rfl (fr := (q_pe xs L, h, k, sl, 21, q_lv i, [(0, L), (0, i)])) rfl ?_
    refine q_xi (pc := 21) (e := (0, 21, 1, 6, 0, 0, [])) rfl rfl (fr := (q_pe xs L, h, k, sl, 23, q_lv i, [(0, 6), (0, L), (0, i)])) rfl ?_
    refine q_xi (pc := 23) (e := (4, 23, 1, 0, 0, 0, [])) rfl rfl (fr := (q_pe xs L, h, k, sl, 24, q_lv i, [(0, qNn (qI L - qI 6)), (0, i)])) rfl ?_
    refine q_xi (pc := 24) (e := (9, 24, 4, 1743, 0, 0, [])) rfl rfl (fr := (q_pe xs L, h, k, sl, (bif q_op 4 (qI i) (qI (qNn (qI L - qI 6))) then 1743 else 27), q_lv i, [])) rfl ?_
    rw [q_lt6 hL hi]
    by_cases hc : i + 6 ≤ L
    · rw [decide_eq_true hc]
      refine q_i10 (p := 27) rfl ?_
      refine q_i13 (p := 28) rfl ?_
      refine q_ial (p := 29) rfl (by omega) hL ?_
      refine q_xi (pc := 30) (e := (0, 30, 1, 63, 0, 0, [])) rfl rfl (fr := (q_pe xs L, h, k, sl, 32, q_lv i, [(0, 63), (0, qNn (xs i))])) rfl ?_
      refine q_xi (pc := 32) (e := (4, 32, 3, 0, 0, 0, [])) rfl rfl (fr := (q_pe xs L, h, k, sl, 33, q_lv i, [(0, qNn (q_f4 3 (qI (qNn (xs i))) (qI 63)))])) rfl ?_
      generalize qNn (q_f4 3 (qI (qNn (xs i))) (qI 63)) = c
      refine q_xi (pc := 33) (e := (12, 33, 0, 1737, 219, 0, q_TG)) rfl rfl (fr := (q_pe xs L, h, k, sl, (bif Nat.blt (qI c).toNatClampNeg q_TG.length && decide (0 ≤ (qI c).toInt) then q_TG.getD (qI c).toNatClampNeg 0 else 1737), q_lv i, [])) rfl ?_
      have hnx : ∀ h', q_INV h' → q_G xs L k sl h' 1737 (q_lv i) [] := by
        intro h' hI'
        refine q_xi (pc := 1737) (e := (3, 1737, 0, 3, 6, 0, [])) rfl rfl (fr := (q_pe xs L, h', k, sl, 1740, q_lv (qNn (qI i + Int32.ofInt (q_sgn 6 0))), [])) rfl ?_
        rw [show qI i + Int32.ofInt (q_sgn 6 0) = qI i + qI 6 from rfl, q_addI, q_nI (by omega)]
        refine q_gto (p := 1740) rfl ?_
        exact q_loop hL hk hs m (i + 6) h' (by omega) hc hI'
      cases hb : Nat.blt (qI c).toNatClampNeg q_TG.length && decide (0 ≤ (qI c).toInt) with
      | false => exact hnx h hI
      | true =>
        rw [Bool.and_eq_true, q_blt] at hb
        have hlt := of_decide_eq_true hb.1
        refine q_css hL hk hs (q_TG.getD (qI c).toNatClampNeg 0) ?_ i h hc hI hnx
        rw [List.getD_eq_getElem?_getD, List.getElem?_eq_getElem hlt]
        exact List.getElem_mem hlt
    · rw [decide_eq_false hc]
      refine q_xi (pc := 1743) (e := (0, 1743, 0, 1, 0, 0, [])) rfl rfl (fr := (q_pe xs L, h, k, sl, 1744, q_lv i, [(0, 1)])) rfl ?_
      exact q_xr (e := (24, 1744, 1, 0, 0, 0, [])) rfl rfl rfl rfl hk hs rfl
