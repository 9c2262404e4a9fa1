-- 26.oath: the two loops of 'oathAt' on a wall of no stones come to one answer
section
variable {tab : Nat → qM} {call : q_call} {M : qM} {scr : Bool} {L : Nat} {env : qE} {h : qH} {k sl pc : Nat} {lv : qL} {stk : List qV} {P : qO → Prop}
/-- getfield -/
theorem q_xg {e : qN} {x : qV} {cc : Nat} {rest : List qV} (he : (q_mI M).get pc = e) (hpc : q_pc e = pc) (h14 : e.1 = 14) (hst : stk = (6, cc) :: rest) (hc : Nat.blt cc h.2 = true) (hk : (h.1.get cc).1 = q_v e) (hl : Nat.blt (q_b e) (h.1.get cc).2.1 = true) (hx : (h.1.get cc).2.2.get (q_b e) = x)
    (hn : q_GE tab call M scr L (env, h, k, sl, pc + 3, lv, x :: rest) P) : q_GE tab call M scr L (env, h, k, sl, pc, lv, stk) P := by
  refine q_x1 ?_ hn
  unfold q_a1S
  rw [he]
  obtain ⟨op, p, v, a, b, w, t⟩ := e
  have h14 : op = 14 := h14
  have hpc : p = pc := hpc
  subst h14; subst hpc; subst hst; subst hx
  have e1 : Nat.beq p p = true := Nat.beq_refl p
  have hk : Nat.beq (h.1.get cc).1 v = true := by rw [hk]; exact Nat.beq_refl _
  show (bif Nat.beq p p && true && true then q_s14S (14, p, v, a, b, w, t) env h k sl lv ((6, cc) :: rest) else none) = _
  rw [e1]
  show (bif Nat.beq 6 6 && Nat.blt cc h.2 && Nat.beq (h.1.get cc).1 v && Nat.blt b (h.1.get cc).2.1 then q_goS env h k sl (p + 3) lv (((h.1.get cc).2.2.get b) :: rest) else none) = _
  have hl : Nat.blt b (h.1.get cc).2.1 = true := hl
  rw [hc, hk, hl]
  rfl
/-- a load from an array at a known place -/
theorem q_xa {e : qN} {x : qV} {cc i : Nat} {rest : List qV} (he : (q_mI M).get pc = e) (hpc : q_pc e = pc) (h20 : e.1 = 20) (hst : stk = (0, i) :: (6, cc) :: rest) (hc : Nat.blt cc h.2 = true) (hk : q_akd (q_v e) (h.1.get cc).1 = true) (hl : Nat.blt i (h.1.get cc).2.1 = true) (hi : Nat.blt i 2147483648 = true) (hx : (h.1.get cc).2.2.get i = x)
    (hn : q_GE tab call M scr L (env, h, k, sl, pc + 1, lv, x :: rest) P) : q_GE tab call M scr L (env, h, k, sl, pc, lv, stk) P := by
  refine q_x1 ?_ hn
  unfold q_a1S
  rw [he]
  obtain ⟨op, p, v, a, b, w, t⟩ := e
  have h20 : op = 20 := h20
  have hpc : p = pc := hpc
  subst h20; subst hpc; subst hst; subst hx
  have e1 : Nat.beq p p = true := Nat.beq_refl p
  show (bif Nat.beq p p && true && true then q_s20S scr L (20, p, v, a, b, w, t) env h k sl lv ((0, i) :: (6, cc) :: rest) else none) = _
  rw [e1]
  show (bif Nat.beq 6 6 && Nat.blt cc h.2 && q_akd v (h.1.get cc).1 && Nat.blt i (h.1.get cc).2.1 && Nat.blt i 2147483648 then q_goS env h k sl (p + 1) lv (((h.1.get cc).2.2.get i) :: rest) else (bif scr && Nat.beq 6 9 && Nat.blt i L && Nat.blt i 2147483648 && Nat.beq v 0 then q_goS env h k sl (p + 1) lv ((1, i) :: rest) else none)) = _
  have hk : q_akd v (h.1.get cc).1 = true := hk
  rw [hc, hk, hl, hi]
  rfl
end
/-- what these loops read of the heap -/
def q_ff (h : qH) : Prop := q_hh h ∧ (h.1.get 0).2.2.get 5 = (6, 4) ∧ (h.1.get 4).1 = 3 ∧ (h.1.get 4).2.1 = 5 ∧ (h.1.get 4).2.2.get 0 = (6, 5) ∧ (h.1.get 5).1 = 8 ∧ (h.1.get 5).2.1 = 19 ∧ (h.1.get 5).2.2.get 2 = (0, 0) ∧
  (h.1.get 534).2.2.get 20 = (6, 539) ∧ (h.1.get 539).1 = 100 ∧ (h.1.get 539).2.1 = 1800 ∧ (h.1.get 539).2.2.get 2 = (0, 0) ∧ Nat.blt 539 h.2 = true
noncomputable def q_ffB (h : qH) : Bool := q_hhB h && (decide ((h.1.get 0).2.2.get 5 = (6, 4)) && (Nat.beq (h.1.get 4).1 3 && (Nat.beq (h.1.get 4).2.1 5 && (decide ((h.1.get 4).2.2.get 0 = (6, 5)) && (Nat.beq (h.1.get 5).1 8 && (Nat.beq (h.1.get 5).2.1 19 && (decide ((h.1.get 5).2.2.get 2 = (0, 0)) &&
  (decide ((h.1.get 534).2.2.get 20 = (6, 539)) && (Nat.beq (h.1.get 539).1 100 && (Nat.beq (h.1.get 539).2.1 1800 && (decide ((h.1.get 539).2.2.get 2 = (0, 0)) && Nat.blt 539 h.2)))))))))))
theorem q_ffB_ok {h : qH} (hb : q_ffB h = true) : q_ff h := by
  unfold q_ffB at hb
  simp only [Bool.and_eq_true, decide_eq_true_eq] at hb
  obtain ⟨h1, h2, h3, h4, h5, h6, h7, h8, h9, h10, h11, h12, h13⟩ := hb
  exact ⟨q_hhB_ok h1, h2, Nat.eq_of_beq_eq_true h3, Nat.eq_of_beq_eq_true h4, h5, Nat.eq_of_beq_eq_true h6, Nat.eq_of_beq_eq_true h7, h8, h9, Nat.eq_of_beq_eq_true h10, Nat.eq_of_beq_eq_true h11, h12, h13⟩
theorem q_put_get {h : qH} {c j : Nat} {x : qV} (hc : c < 1024) (hj : j < (h.1.get c).2.1) : ∀ i, i < 1024 → ((q_put h c j x).1.get i).1 = (h.1.get i).1 ∧ ((q_put h c j x).1.get i).2.1 = (h.1.get i).2.1 ∧ ∀ q, q < (h.1.get i).2.1 → (i ≠ c ∨ q ≠ j) → ((q_put h c j x).1.get i).2.2.get q = (h.1.get i).2.2.get q := fun i hi => by
  have e0 : (q_put h c j x).1.get i = if i = c then ((h.1.get c).1, (h.1.get c).2.1, q_ts x j (h.1.get c).2.2 0 (h.1.get c).2.1) else h.1.get i := q_ts_get _ c h.1 0 1024 i (Nat.zero_le _) hc (Nat.zero_le _) hi
  rw [e0]
  by_cases e : i = c
  · subst e
    rw [if_pos rfl]
    refine ⟨rfl, rfl, fun q hq hd => ?_⟩
    show (q_ts x j (h.1.get i).2.2 0 (h.1.get i).2.1).get q = _
    rw [q_ts_get x j _ 0 _ q (Nat.zero_le _) hj (Nat.zero_le _) hq, if_neg (by rcases hd with hd | hd; exact absurd rfl hd; exact hd)]
  · rw [if_neg e]
    exact ⟨rfl, rfl, fun q _ _ => rfl⟩
theorem q_ff.put {h : qH} {c j : Nat} {x : qV} (hc : c = 0 ∨ c = 534) (hj : j ≤ 1) (hf : q_ff h) : q_ff (q_put h c j x) := by
  obtain ⟨h1, h2, h3, h4, h5, h6, h7, h8, h9, h10, h11, h12, h13⟩ := hf
  have hh := h1
  obtain ⟨a1, a2, a3, a4, a5, a6, a7⟩ := h1
  have g := q_put_get (h := h) (c := c) (j := j) (x := x) (by omega) (by rcases hc with rfl | rfl <;> omega)
  exact ⟨hh.put hc, ((g 0 (by omega)).2.2 5 (by omega) (Or.inr (by omega))).trans h2, (g 4 (by omega)).1.trans h3, (g 4 (by omega)).2.1.trans h4, ((g 4 (by omega)).2.2 0 (by omega) (Or.inl (by omega))).trans h5, (g 5 (by omega)).1.trans h6, (g 5 (by omega)).2.1.trans h7, ((g 5 (by omega)).2.2 2 (by omega) (Or.inl (by omega))).trans h8,
    ((g 534 (by omega)).2.2 20 (by omega) (Or.inr (by omega))).trans h9, (g 539 (by omega)).1.trans h10, (g 539 (by omega)).2.1.trans h11, ((g 539 (by omega)).2.2 2 (by omega) (Or.inl (by omega))).trans h12, h13⟩
theorem q_blt_of {a b : Nat} (h : a < b) : Nat.blt a b = true := by rw [q_blt]; exact decide_eq_true h
theorem q_lt_of {a b : Nat} (h : Nat.blt a b = true) : a < b := by rw [q_blt] at h; exact of_decide_eq_true h
theorem q_ff.lt {h : qH} (hf : q_ff h) {c : Nat} (hc : c ≤ 539) : Nat.blt c h.2 = true := q_blt_of (Nat.lt_of_le_of_lt hc (q_lt_of hf.2.2.2.2.2.2.2.2.2.2.2.2))
theorem q_oE {d : Nat} {env : qE} {h : qH} {m f : Nat} (hf : q_ff h) : q_GM q_T (d + 1) 39 env h [(6, 4), (0, m), (0, f), (0, 4294967295)] (fun o => o = (env, h, some (0, 1))) := by
  refine ⟨Nat.le_of_ble_eq_true rfl, ?_⟩
  show q_GE q_T (q_GM q_T d) (q_T 39) false 0 (env, h, 0, 0, 0, [(0, (6, 4)), (1, (0, m)), (2, (0, f)), (3, (0, 4294967295))], []) _
  refine q_xs (fr := (env, h, 0, 0, 9, [(5, (0, 0)), (4, (0, f)), (0, (6, 4)), (1, (0, m)), (2, (0, f)), (3, (0, 4294967295))], [(6, 4), (0, 0)])) ?_ 6 rfl
  refine q_xg (x := (6, 5)) (cc := 4) (rest := [(0, 0)]) rfl rfl rfl rfl (hf.lt (by decide)) hf.2.2.1 (by rw [hf.2.2.2.1]; rfl) hf.2.2.2.2.1 ?_
  refine q_xg (x := (0, 0)) (cc := 5) (rest := [(0, 0)]) rfl rfl rfl rfl (hf.lt (by decide)) hf.2.2.2.2.2.1 (by rw [hf.2.2.2.2.2.2.1]; rfl) hf.2.2.2.2.2.2.2.1 ?_
  refine q_xs (fr := (env, h, 0, 0, 70, [(5, (0, 0)), (4, (0, f)), (0, (6, 4)), (1, (0, m)), (2, (0, f)), (3, (0, 4294967295))], [(0, 1)])) ?_ 2 rfl
  exact q_xr rfl rfl rfl rfl (Nat.zero_le _) (Nat.zero_le _) rfl
theorem q_oO {d : Nat} {env : qE} {h : qH} {m f : Nat} (hf : q_ff h) : q_GM q_T (d + 2) 37 env h [(6, 4), (0, m), (0, f)] (fun o => o = (env, h, some (0, 1))) := by
  refine ⟨Nat.le_of_ble_eq_true rfl, ?_⟩
  show q_GE q_T (q_GM q_T (d + 1)) (q_T 37) false 0 (env, h, 0, 0, 0, [(0, (6, 4)), (1, (0, m)), (2, (0, f))], []) _
  refine q_xs (fr := (env, h, 0, 0, 4, [(0, (6, 4)), (1, (0, m)), (2, (0, f))], [(0, 4294967295), (0, f), (0, m), (6, 4)])) ?_ 4 rfl
  refine q_xc1 (q_GM_mono q_T (d + 1)) rfl rfl rfl (av := [(6, 4), (0, m), (0, f), (0, 4294967295)]) (rest := []) rfl rfl ?_ (Nat.zero_le _) (Nat.zero_le _) (Nat.zero_le _) (q_oE hf) ?_
  · show (Nat.beq 6 6 && Nat.blt 4 h.2 && Nat.beq (h.1.get 4).1 3) = true
    rw [hf.lt (by decide), hf.2.2.1]; rfl
  · exact q_xr rfl rfl rfl rfl (Nat.zero_le _) (Nat.zero_le _) rfl
theorem q_oS {d : Nat} {env : qE} {h : qH} (hf : q_ff h) : q_GM q_T (d + 1) 226 env h [(6, 534), (0, 0)] (fun o => o = (env, h, some (0, 0))) := by
  refine ⟨Nat.le_of_ble_eq_true rfl, ?_⟩
  show q_GE q_T (q_GM q_T d) (q_T 226) false 0 (env, h, 0, 0, 0, [(0, (6, 534)), (1, (0, 0))], []) _
  refine q_xs (fr := (env, h, 0, 0, 6, [(3, (0, 0)), (2, (0, 0)), (0, (6, 534)), (1, (0, 0))], [(6, 534), (0, 0)])) ?_ 6 rfl
  refine q_xg (x := (6, 539)) (cc := 534) (rest := [(0, 0)]) rfl rfl rfl rfl (hf.lt (by decide)) hf.1.2.2.2.2.2.1 (by rw [hf.1.2.2.2.2.2.2]; rfl) hf.2.2.2.2.2.2.2.2.1 ?_
  refine q_xs (fr := (env, h, 0, 0, 12, [(3, (0, 0)), (2, (0, 0)), (0, (6, 534)), (1, (0, 0))], [(0, 2), (6, 539), (0, 0)])) ?_ 3 rfl
  refine q_xa (x := (0, 0)) (cc := 539) (i := 2) (rest := [(0, 0)]) rfl rfl rfl rfl (hf.lt (by decide)) (by rw [hf.2.2.2.2.2.2.2.2.2.1]; rfl) (by rw [hf.2.2.2.2.2.2.2.2.2.2.1]; rfl) rfl hf.2.2.2.2.2.2.2.2.2.2.2.1 ?_
  refine q_xs (fr := (env, h, 0, 0, 37, [(3, (0, 0)), (2, (0, 0)), (0, (6, 534)), (1, (0, 0))], [(0, 0)])) ?_ 2 rfl
  exact q_xr rfl rfl rfl rfl (Nat.zero_le _) (Nat.zero_le _) rfl
theorem q_oT {d : Nat} {env : qE} {h : qH} (hf : q_ff h) : q_GM q_T (d + 2) 235 env h [(6, 534)] (fun o => o = (env, h, some (0, 0))) := by
  refine ⟨Nat.le_of_ble_eq_true rfl, ?_⟩
  show q_GE q_T (q_GM q_T (d + 1)) (q_T 235) false 0 (env, h, 0, 0, 0, [(0, (6, 534))], []) _
  refine q_xs (fr := (env, h, 0, 0, 2, [(0, (6, 534))], [(0, 0), (6, 534)])) ?_ 2 rfl
  refine q_xc1 (q_GM_mono q_T (d + 1)) rfl rfl rfl (av := [(6, 534), (0, 0)]) (rest := []) rfl rfl ?_ (Nat.zero_le _) (Nat.zero_le _) (Nat.zero_le _) (q_oS hf) ?_
  · show (Nat.beq 6 6 && Nat.blt 534 h.2 && Nat.beq (h.1.get 534).1 11) = true
    rw [hf.lt (by decide), hf.1.2.2.2.2.2.1]; rfl
  · exact q_xr rfl rfl rfl rfl (Nat.zero_le _) (Nat.zero_le _) rfl
theorem q_oF {d : Nat} {env : qE} {h : qH} {m f : Nat} (hf : q_ff h) : q_GM q_T (d + 3) 279 env h [(6, 534), (0, m), (0, f)] (fun o => o = (env, h, some (0, 1))) := by
  refine ⟨Nat.le_of_ble_eq_true rfl, ?_⟩
  show q_GE q_T (q_GM q_T (d + 2)) (q_T 279) false 0 (env, h, 0, 0, 0, [(0, (6, 534)), (1, (0, m)), (2, (0, f))], []) _
  refine q_xs (fr := (env, h, 0, 0, 4, [(3, (0, 0)), (0, (6, 534)), (1, (0, m)), (2, (0, f))], [(6, 534), (0, 0)])) ?_ 4 rfl
  refine q_xc1 (q_GM_mono q_T (d + 2)) rfl rfl rfl (av := [(6, 534)]) (rest := [(0, 0)]) rfl rfl ?_ (Nat.le_of_ble_eq_true rfl) (Nat.zero_le _) (Nat.zero_le _) (q_oT hf) ?_
  · show (Nat.beq 6 6 && Nat.blt 534 h.2 && Nat.beq (h.1.get 534).1 11) = true
    rw [hf.lt (by decide), hf.1.2.2.2.2.2.1]; rfl
  · refine q_xs (fr := (env, h, 0, 0, 65, [(3, (0, 0)), (0, (6, 534)), (1, (0, m)), (2, (0, f))], [(0, 1)])) ?_ 2 rfl
    exact q_xr rfl rfl rfl rfl (Nat.zero_le _) (Nat.zero_le _) rfl
theorem q_bRs {d : Nat} {env : qE} {h : qH} {st : Nat} (hh : q_hh h) : q_GM q_T (d + 1) 114 env h [(6, 0), (0, st)] (fun o => o = (env, q_put h 0 0 (0, st), some (0, 4294967295))) := by
  refine ⟨Nat.le_of_ble_eq_true rfl, ?_⟩
  show q_GE q_T (q_GM q_T d) (q_T 114) false 0 (env, h, 0, 0, 0, [(0, (6, 0)), (1, (0, st))], []) _
  refine q_xs (fr := (env, h, 0, 0, 2, [(0, (6, 0)), (1, (0, st))], [(0, st), (6, 0)])) ?_ 2 rfl
  refine q_xp (y := (0, st)) (cc := 0) (rest := []) rfl rfl rfl rfl hh.1 hh.2.1 (by rw [hh.2.2.1]; rfl) rfl rfl ?_
  refine q_xs (fr := (env, q_put h 0 0 (0, st), 0, 0, 6, [(0, (6, 0)), (1, (0, st))], [(0, 4294967295)])) ?_ 1 rfl
  exact q_xr rfl rfl rfl rfl (Nat.zero_le _) (Nat.zero_le _) rfl
theorem q_mRs {d : Nat} {env : qE} {h : qH} {st : Nat} (hh : q_hh h) : q_GM q_T (d + 1) 181 env h [(6, 534), (0, st)] (fun o => o = (env, q_put h 534 0 (0, st), some (0, 4294967295))) := by
  refine ⟨Nat.le_of_ble_eq_true rfl, ?_⟩
  show q_GE q_T (q_GM q_T d) (q_T 181) false 0 (env, h, 0, 0, 0, [(0, (6, 534)), (1, (0, st))], []) _
  refine q_xs (fr := (env, h, 0, 0, 2, [(0, (6, 534)), (1, (0, st))], [(0, st), (6, 534)])) ?_ 2 rfl
  refine q_xp (y := (0, st)) (cc := 534) (rest := []) rfl rfl rfl rfl hh.2.2.2.1 hh.2.2.2.2.2.1 (by rw [hh.2.2.2.2.2.2]; rfl) rfl rfl ?_
  refine q_xs (fr := (env, q_put h 534 0 (0, st), 0, 0, 6, [(0, (6, 534)), (1, (0, st))], [(0, 4294967295)])) ?_ 1 rfl
  exact q_xr rfl rfl rfl rfl (Nat.zero_le _) (Nat.zero_le _) rfl
/-- isWithin, isIn of any number -/
def q_wi (x y z : Nat) : Bool := !(q_op 2 (qI x) (qI y)) && !(q_op 4 (qI x) (qI z))
def q_b2n (b : Bool) : Nat := match b with
  | true => 1
  | false => 0
theorem q_bWi {d : Nat} {env : qE} {h : qH} {x y z : Nat} : q_GM q_T (d + 1) 119 env h [(0, x), (0, y), (0, z)] (fun o => o = (env, h, some (0, q_b2n (q_wi x y z)))) := by
  refine ⟨Nat.le_of_ble_eq_true rfl, ?_⟩
  show q_GE q_T (q_GM q_T d) (q_T 119) false 0 (env, h, 0, 0, 0, [(0, (0, x)), (1, (0, y)), (2, (0, z))], []) _
  refine q_xs (fr := (env, h, 0, 0, bif q_op 2 (qI x) (qI y) then 14 else 5, [(0, (0, x)), (1, (0, y)), (2, (0, z))], [])) ?_ 3 rfl
  unfold q_wi
  cases h1 : q_op 2 (qI x) (qI y) with
  | true =>
    refine q_xs (fr := (env, h, 0, 0, 15, [(0, (0, x)), (1, (0, y)), (2, (0, z))], [(0, 0)])) ?_ 1 rfl
    exact q_xr rfl rfl rfl rfl (Nat.zero_le _) (Nat.zero_le _) rfl
  | false =>
    refine q_xs (fr := (env, h, 0, 0, bif q_op 4 (qI x) (qI z) then 14 else 10, [(0, (0, x)), (1, (0, y)), (2, (0, z))], [])) ?_ 3 rfl
    cases h2 : q_op 4 (qI x) (qI z) with
    | true =>
      refine q_xs (fr := (env, h, 0, 0, 15, [(0, (0, x)), (1, (0, y)), (2, (0, z))], [(0, 0)])) ?_ 1 rfl
      exact q_xr rfl rfl rfl rfl (Nat.zero_le _) (Nat.zero_le _) rfl
    | false =>
      refine q_xs (fr := (env, h, 0, 0, 15, [(0, (0, x)), (1, (0, y)), (2, (0, z))], [(0, 1)])) ?_ 2 rfl
      exact q_xr rfl rfl rfl rfl (Nat.zero_le _) (Nat.zero_le _) rfl
theorem q_lcA (x y : Int64) : q_op 2 (qI (qNn (lg_cmp x y))) (qI 0) = decide (x.toInt < y.toInt) ∧ q_op 4 (qI (qNn (lg_cmp x y))) (qI 0) = decide (y.toInt < x.toInt) := by
  rw [qI_N, q_lgc]
  by_cases h1 : y.toInt < x.toInt
  · rw [if_pos h1, decide_eq_false (by omega), decide_eq_true h1]
    exact ⟨rfl, rfl⟩
  · rw [if_neg h1]
    by_cases h2 : x.toInt = y.toInt
    · rw [if_pos h2, decide_eq_false (by omega), decide_eq_false h1]
      exact ⟨rfl, rfl⟩
    · rw [if_neg h2, decide_eq_true (by omega), decide_eq_false h1]
      exact ⟨rfl, rfl⟩
theorem q_mIi {d : Nat} {env : qE} {h : qH} {w : Nat} : q_GM q_T (d + 1) 183 env h [(3, qMn (qI w).toInt64), (3, 0), (3, 1)] (fun o => o = (env, h, some (0, q_b2n (q_wi w 0 1)))) := by
  have t0 : (qJ (qMn (qI w).toInt64)).toInt = (qI w).toInt := by rw [qJ_M]; exact Int32.toInt_toInt64 _
  have z0 : (qJ 0).toInt = (qI 0).toInt := by decide +kernel
  have z1 : (qJ 1).toInt = (qI 1).toInt := by decide +kernel
  have e1 : q_op 2 (qI (qNn (lg_cmp (qJ (qMn (qI w).toInt64)) (qJ 0)))) (qI 0) = q_op 2 (qI w) (qI 0) := by
    rw [(q_lcA _ _).1, t0, z0]
    exact decide_eq_decide.mpr (Int32.lt_iff_toInt_lt.symm)
  have e2 : q_op 4 (qI (qNn (lg_cmp (qJ (qMn (qI w).toInt64)) (qJ 1)))) (qI 0) = q_op 4 (qI w) (qI 1) := by
    rw [(q_lcA _ _).2, t0, z1]
    exact decide_eq_decide.mpr (Int32.lt_iff_toInt_lt.symm)
  generalize qMn (qI w).toInt64 = x at *
  refine ⟨Nat.le_of_ble_eq_true rfl, ?_⟩
  show q_GE q_T (q_GM q_T d) (q_T 183) false 0 (env, h, 0, 0, 0, [(0, (3, x)), (2, (3, 0)), (4, (3, 1))], []) _
  refine q_xs (fr := (env, h, 0, 0, bif q_op 2 (qI (qNn (lg_cmp (qJ x) (qJ 0)))) (qI 0) then 17 else 6, [(0, (3, x)), (2, (3, 0)), (4, (3, 1))], [])) ?_ 4 rfl
  rw [e1]
  unfold q_wi
  cases h1 : q_op 2 (qI w) (qI 0) with
  | true =>
    refine q_xs (fr := (env, h, 0, 0, 18, [(0, (3, x)), (2, (3, 0)), (4, (3, 1))], [(0, 0)])) ?_ 1 rfl
    exact q_xr rfl rfl rfl rfl (Nat.zero_le _) (Nat.zero_le _) rfl
  | false =>
    refine q_xs (fr := (env, h, 0, 0, bif q_op 4 (qI (qNn (lg_cmp (qJ x) (qJ 1)))) (qI 0) then 17 else 13, [(0, (3, x)), (2, (3, 0)), (4, (3, 1))], [])) ?_ 4 rfl
    rw [e2]
    cases h2 : q_op 4 (qI w) (qI 1) with
    | true =>
      refine q_xs (fr := (env, h, 0, 0, 18, [(0, (3, x)), (2, (3, 0)), (4, (3, 1))], [(0, 0)])) ?_ 1 rfl
      exact q_xr rfl rfl rfl rfl (Nat.zero_le _) (Nat.zero_le _) rfl
    | false =>
      refine q_xs (fr := (env, h, 0, 0, 18, [(0, (3, x)), (2, (3, 0)), (4, (3, 1))], [(0, 1)])) ?_ 2 rfl
      exact q_xr rfl rfl rfl rfl (Nat.zero_le _) (Nat.zero_le _) rfl
