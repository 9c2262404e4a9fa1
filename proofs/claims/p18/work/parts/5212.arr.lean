-- 12.arr: fields, arrays, copies; the step
theorem a_cpy_get (src dst : Lean.RArray qV) (sp dp N : Nat) : ∀ (n j : Nat), dp + n ≤ N → j < N → (q_cpy src dst sp dp n N).get j = if dp ≤ j ∧ j < dp + n then src.get (sp + (j - dp)) else dst.get j
  | 0, j, _, _ => by
    show dst.get j = _
    rw [if_neg (by omega)]
  | n + 1, j, h1, h2 => by
    show (q_ts (src.get (sp + n)) (dp + n) (q_cpy src dst sp dp n N) 0 N).get j = _
    rw [q_ts_get _ _ _ 0 N j (Nat.zero_le _) (by omega) (Nat.zero_le _) h2, a_cpy_get src dst sp dp N n j (by omega) h2]
    by_cases hj : j = dp + n
    · rw [if_pos hj, if_pos (by omega), hj, Nat.add_sub_cancel_left]
    · rw [if_neg hj]
      by_cases h3 : dp ≤ j ∧ j < dp + n
      · rw [if_pos h3, if_pos (by omega)]
      · rw [if_neg h3, if_neg (by omega)]
theorem a_HI.cell {sp : aSp} {nc : Nat} {h : qH} {c : Nat} {t : Lean.RArray qV} (hh : a_HI sp nc h) (hc : c < nc) (ht : ∀ j, j < a_cl sp c → a_vt (a_ct sp c j) (t.get j)) : a_HI sp nc (q_ts ((h.1.get c).1, (h.1.get c).2.1, t) c h.1 0 1024, h.2) ∧ ∀ i q, i < nc → a_fd (q_ts ((h.1.get c).1, (h.1.get c).2.1, t) c h.1 0 1024, h.2) i q = if i = c then t.get q else a_fd h i q := by
  obtain ⟨h1, h2, h3⟩ := hh
  have g : ∀ i, i < nc → (q_ts ((h.1.get c).1, (h.1.get c).2.1, t) c h.1 0 1024).get i = if i = c then ((h.1.get c).1, (h.1.get c).2.1, t) else h.1.get i := fun i hi => q_ts_get _ c h.1 0 1024 i (Nat.zero_le _) (by omega) (Nat.zero_le _) (by omega)
  refine ⟨⟨h1, h2, fun i hi => ?_⟩, fun i q hi => ?_⟩
  · show ((q_ts _ c h.1 0 1024).get i).1 = _ ∧ ((q_ts _ c h.1 0 1024).get i).2.1 = _ ∧ ∀ j, j < a_cl sp i → a_vt (a_ct sp i j) (((q_ts _ c h.1 0 1024).get i).2.2.get j)
    rw [g i hi]
    by_cases e : i = c
    · rw [if_pos e, e]
      exact ⟨(h3 c hc).1, (h3 c hc).2.1, ht⟩
    · rw [if_neg e]
      exact h3 i hi
  · show ((q_ts _ c h.1 0 1024).get i).2.2.get q = _
    rw [g i hi]
    by_cases e : i = c
    · rw [if_pos e, if_pos e]
    · rw [if_neg e, if_neg e]
theorem a_nb (x : Int32) : vp_nar .byte x = x.toInt8.toInt32 := rfl
theorem a_nz (x : Int32) : vp_nar .boolean x = x &&& 1 := rfl
noncomputable def a_tsub (t u : aT) : Bool := Nat.beq t.1 u.1 && (Nat.ble t.1 1 && (a_ile u.2.1 t.2.1 && a_ile t.2.2 u.2.2))
theorem a_tsub_ok {t u : aT} {v : qV} (h : a_tsub t u = true) (hv : a_vt t v) : a_vt u v := by
  obtain ⟨k, lo, hi⟩ := t
  obtain ⟨k2, lo2, hi2⟩ := u
  have h : (Nat.beq k k2 && (Nat.ble k 1 && (a_ile lo2 lo && a_ile hi hi2))) = true := h
  simp only [Bool.and_eq_true] at h
  have e := Nat.eq_of_beq_eq_true h.1
  subst e
  exact hv.wide (Nat.le_of_ble_eq_true h.2.1) (a_ile_ok.mp h.2.2.1) (a_ile_ok.mp h.2.2.2)
noncomputable def a_tall (t : aT) : aG → Bool
  | [] => true
  | q :: g => a_tsub t q.2 && a_tall t g
theorem a_tall_ok {t : aT} {v : qV} (hv : a_vt t v) {j : Nat} : ∀ {g : aG}, a_tall t g = true → a_vt (a_at g j) v
  | [], _ => trivial
  | q :: g, h => by
    have h : (a_tsub t q.2 && a_tall t g) = true := h
    rw [Bool.and_eq_true] at h
    rw [a_at_c]
    cases Nat.blt j q.1 with
    | true => exact a_tsub_ok h.1 hv
    | false => exact a_tall_ok hv h.2
noncomputable def a_cpc (g1 g2 : aG) (s d : Nat) : Nat → Bool
  | 0 => true
  | n + 1 => a_tsub (a_at g1 (s + n)) (a_at g2 (d + n)) && a_cpc g1 g2 s d n
theorem a_cpc_ok {g1 g2 : aG} {s d : Nat} : ∀ {n i : Nat}, a_cpc g1 g2 s d n = true → i < n → a_tsub (a_at g1 (s + i)) (a_at g2 (d + i)) = true
  | 0, _, _, h => by omega
  | n + 1, i, h, hi => by
    have h : (a_tsub (a_at g1 (s + n)) (a_at g2 (d + n)) && a_cpc g1 g2 s d n) = true := h
    rw [Bool.and_eq_true] at h
    by_cases e : i = n
    · rw [e]; exact h.1
    · exact a_cpc_ok h.2 (by omega)
section
variable {sp : aSp} {nc : Nat} {S : aW} {σ : Nat → Int} {env : qE} {h : qH} {lv : qL} {stk : List qV} {E : aE} {K : aK} {pc : Nat} {al : aL} {sk : List aV} {nx : List aS} {e : qN}
noncomputable def a_s14 (sp : aSp) (nc : Nat) (e : qN) (E : aE) (K : aK) (al : aL) (sk : List aV) : Option (List aS) := match sk with
  | x :: sk => bif Nat.beq x.1 6 && (Nat.blt x.2.1 nc && (Nat.beq (a_ck sp x.2.1) (q_v e) && Nat.blt (q_b e) (a_cl sp x.2.1))) then (match a_rd sp E K x.2.1 (q_b e) with
    | none => none
    | some r => a_one (r.1, r.2.1, q_pc e + 3, al, r.2.2 :: sk)) else none
  | _ => none
theorem a_k14 (hE : a_En σ E) (hh : a_HI sp nc h) (hR : a_Rs sp nc σ (a_n E) h lv stk K al sk) (hs : a_s14 sp nc e E K al sk = some nx) : a_Nx sp nc S σ (a_n E) env h (q_s14S e env h 0 0 lv stk) nx := by
  obtain ⟨hK, hL, hS⟩ := hR
  unfold a_s14 at hs
  split at hs
  · rename_i x sk
    obtain ⟨h1, hs⟩ := q_bt hs
    split at hs
    · cases hs
    · rename_i r hr
      cases hs
      obtain ⟨xv, stk2, rfl, hx, hS2⟩ := hS.cons
      obtain ⟨t, c, f⟩ := x
      simp only [Bool.and_eq_true] at h1
      obtain ⟨c1, c2, c3, c4⟩ := h1
      have ht : t = 6 := Nat.eq_of_beq_eq_true c1
      subst ht
      have hx : xv = (6, c) := hx
      subst hx
      have c2 : Nat.blt c nc = true := c2
      have c3 : Nat.beq (a_ck sp c) (q_v e) = true := c3
      have c4 : Nat.blt (q_b e) (a_cl sp c) = true := c4
      have d2 : c < nc := by rw [q_blt] at c2; exact of_decide_eq_true c2
      have d4 : q_b e < a_cl sp c := by rw [q_blt] at c4; exact of_decide_eq_true c4
      obtain ⟨σ', g1, g2, g3, g4, g5⟩ := a_rd_ok hE hh hK d2 d4 hr
      refine a_nx0 (pc' := q_pc e + 3) (lv' := lv) (stk' := a_fd h c (q_b e) :: stk2) ?_ hh (List.mem_singleton.mpr rfl) rfl g1 g2 ⟨g3, g4, hL.ext g2 g1, g5, hS2.ext g2 g1⟩
      show (bif true && Nat.blt c h.2 && Nat.beq (h.1.get c).1 (q_v e) && Nat.blt (q_b e) (h.1.get c).2.1 then _ else none) = _
      rw [hh.1, (hh.2.2 c d2).1, (hh.2.2 c d2).2.1, c2, c3, c4]
      rfl
  · cases hs
noncomputable def a_s15 (sp : aSp) (nc : Nat) (S : aW) (e : qN) (E : aE) (K : aK) (al : aL) (sk : List aV) : Option (List aS) := match sk with
  | y :: x :: sk => bif Nat.beq x.1 6 && (Nat.blt x.2.1 nc && (Nat.beq (a_ck sp x.2.1) (q_v e) && (Nat.blt (q_b e) (a_cl sp x.2.1) && (a_fty ((q_t e).getD 0 9) E y && (Nat.blt 0 (q_t e).length && (a_fit (a_ct sp x.2.1 (q_b e)) E y && a_inS S x.2.1 (q_b e))))))) then a_one (E, ((x.2.1, q_b e), y) :: a_krm sp x.2.1 (q_b e) (q_b e) K, q_pc e + 3, al, sk) else none
  | _ => none
/-- a place is written: the picture, the frame, what is known -/
theorem a_wr {c j L U : Nat} {a : aV} {v : qV} (hh : a_HI sp nc h) (hK : a_Kn sp nc σ (a_n E) K h) (hc : c < nc) (hj : j < a_cl sp c) (hv : a_vt (a_ct sp c j) v) (hin : a_inS S c j = true) (h1 : L ≤ j) (h2 : j ≤ U) : a_HI sp nc (q_put h c j v) ∧ a_Fr sp nc S h (q_put h c j v) ∧ a_Kn sp nc σ (a_n E) (a_krm sp c L U K) (q_put h c j v) ∧ (a_V σ (a_n E) a v → a_V σ (a_n E) a (a_fd (q_put h c j v) c j)) := by
  obtain ⟨g1, g2⟩ := hh.put hc hj hv
  refine ⟨g1, fun i q hi hq hS => ?_, fun q hq => ?_, fun ha => ?_⟩
  · rw [g2 i q hi hq, if_neg]
    rintro ⟨rfl, rfl⟩
    rw [hin] at hS
    cases hS
  · refine a_krm_ok (fun i q hi hq hn => ?_) hK q hq
    rw [g2 _ _ hi hq, if_neg (fun z => hn ⟨z.1, by omega, by omega⟩)]
  · rw [g2 c j hc hj, if_pos ⟨rfl, rfl⟩]
    exact ha
theorem a_k15 (hE : a_En σ E) (hh : a_HI sp nc h) (hR : a_Rs sp nc σ (a_n E) h lv stk K al sk) (hs : a_s15 sp nc S e E K al sk = some nx) : a_Nx sp nc S σ (a_n E) env h (q_s15S e env h 0 0 lv stk) nx := by
  obtain ⟨hK, hL, hS⟩ := hR
  unfold a_s15 at hs
  split at hs
  · rename_i y x sk
    obtain ⟨h1, hs⟩ := q_bt hs
    cases hs
    obtain ⟨yv, stk1, rfl, hy, hS1⟩ := hS.cons
    obtain ⟨xv, stk2, rfl, hx, hS2⟩ := hS1.cons
    obtain ⟨t, c, f⟩ := x
    simp only [Bool.and_eq_true] at h1
    obtain ⟨c1, c2, c3, c4, c5, c6, c7, c8⟩ := h1
    have ht : t = 6 := Nat.eq_of_beq_eq_true c1
    subst ht
    have hx : xv = (6, c) := hx
    subst hx
    have c2 : Nat.blt c nc = true := c2
    have c3 : Nat.beq (a_ck sp c) (q_v e) = true := c3
    have c4 : Nat.blt (q_b e) (a_cl sp c) = true := c4
    have d2 : c < nc := by rw [q_blt] at c2; exact of_decide_eq_true c2
    have d4 : q_b e < a_cl sp c := by rw [q_blt] at c4; exact of_decide_eq_true c4
    obtain ⟨g1, g2, g3, g4⟩ := a_wr (L := q_b e) (U := q_b e) (a := y) hh hK d2 d4 (a_fit_ok hE hy c7) c8 (Nat.le_refl _) (Nat.le_refl _)
    refine ⟨q_put h c (q_b e) yv, q_pc e + 3, lv, stk2, ?_, g1, g2, _, List.mem_singleton.mpr rfl, rfl, σ, fun _ _ => rfl, Nat.le_refl _, hE, fun q hq => ?_, hL, hS2⟩
    · show (bif true && Nat.blt c h.2 && Nat.beq (h.1.get c).1 (q_v e) && Nat.blt (q_b e) (h.1.get c).2.1 && q_fit ((q_t e).getD 0 9) yv && Nat.blt 0 (q_t e).length then _ else none) = _
      rw [hh.1, (hh.2.2 c d2).1, (hh.2.2 c d2).2.1, c2, c3, c4, a_fty_ok hE hy c5, c6]
      rfl
    · rcases List.mem_cons.mp hq with rfl | hq
      · exact ⟨d2, Or.inl ⟨d4, g4 hy⟩⟩
      · exact g3 q hq
  · cases hs
noncomputable def a_s19 (sp : aSp) (nc : Nat) (e : qN) (E : aE) (K : aK) (al : aL) (sk : List aV) : Option (List aS) := match sk with
  | x :: sk => bif Nat.beq x.1 6 && (Nat.blt x.2.1 nc && Nat.ble 100 (a_ck sp x.2.1)) then (match a_c0 0 (a_cl sp x.2.1) with
    | none => none
    | some y => a_one (E, K, q_pc e + 1, al, y :: sk)) else none
  | _ => none
theorem a_k19 (hE : a_En σ E) (hh : a_HI sp nc h) (hR : a_Rs sp nc σ (a_n E) h lv stk K al sk) (hs : a_s19 sp nc e E K al sk = some nx) : a_Nx sp nc S σ (a_n E) env h (q_s19S false 0 e env h 0 0 lv stk) nx := by
  obtain ⟨hK, hL, hS⟩ := hR
  unfold a_s19 at hs
  split at hs
  · rename_i x sk
    obtain ⟨h1, hs⟩ := q_bt hs
    split at hs
    · cases hs
    · rename_i y hy
      cases hs
      obtain ⟨xv, stk2, rfl, hx, hS2⟩ := hS.cons
      obtain ⟨t, c, f⟩ := x
      simp only [Bool.and_eq_true] at h1
      obtain ⟨c1, c2, c3⟩ := h1
      have ht : t = 6 := Nat.eq_of_beq_eq_true c1
      subst ht
      have hx : xv = (6, c) := hx
      subst hx
      have c2 : Nat.blt c nc = true := c2
      have c3 : Nat.ble 100 (a_ck sp c) = true := c3
      have d2 : c < nc := by rw [q_blt] at c2; exact of_decide_eq_true c2
      refine a_nx0 (pc' := q_pc e + 1) (lv' := lv) (stk' := (0, a_cl sp c) :: stk2) ?_ hh (List.mem_singleton.mpr rfl) rfl (fun _ _ => rfl) (Nat.le_refl _) ⟨hE, hK, hL, a_c0_ok hy, hS2⟩
      show (bif true && Nat.blt c h.2 && Nat.ble 100 (h.1.get c).1 then q_goS env h 0 0 (q_pc e + 1) lv ((0, (h.1.get c).2.1) :: stk2) else _) = _
      rw [hh.1, (hh.2.2 c d2).1, (hh.2.2 c d2).2.1, c2, c3]
      rfl
  · cases hs
/-- places lo .. hi of an array of cells, one by one -/
noncomputable def a_aa (sp : aSp) (c : Nat) (E : aE) (f : aF) (K : aK) (pc : Nat) (al : aL) (sk : List aV) : Nat → Nat → List aS
  | 0, _ => []
  | n + 1, j => a_if (a_eqs E (a_pl f (-(j : Int))) true) K pc pc al ((6, (a_ct sp c j).2.1.toNat, a_cn 0) :: sk) ++ a_aa sp c E f K pc al sk n (j + 1)
noncomputable def a_aao (sp : aSp) (c : Nat) : Nat → Nat → Bool
  | 0, _ => true
  | n + 1, j => Nat.beq (a_ct sp c j).1 2 && a_aao sp c n (j + 1)
theorem a_aa_ok {c : Nat} (hE : a_En σ E) {f : aF} (wf : a_wf (a_n E) f) : ∀ (n j i : Nat), j ≤ i → i < j + n → a_ev σ f = i → a_aao sp c n j = true → ∃ st ∈ a_aa sp c E f K pc al sk n j, st.2.2.1 = pc ∧ st.2.1 = K ∧ st.2.2.2.1 = al ∧ st.2.2.2.2 = (6, (a_ct sp c i).2.1.toNat, a_cn 0) :: sk ∧ a_En σ st.1 ∧ a_n st.1 = a_n E ∧ (a_ct sp c i).1 = 2
  | 0, j, i, h1, h2, _, _ => by omega
  | n + 1, j, i, h1, h2, h3, h4 => by
    have h4 : (Nat.beq (a_ct sp c j).1 2 && a_aao sp c n (j + 1)) = true := h4
    rw [Bool.and_eq_true] at h4
    by_cases e : i = j
    · subst e
      obtain ⟨q, q1, q2, q3, q4⟩ := a_eqs_ok hE (D := a_pl f (-(i : Int))) wf (by rw [a_pl_ev]; omega) true
      refine ⟨_, List.mem_append_left _ (a_if_mem (a := pc) (b := pc) q1), ?_, rfl, rfl, rfl, q3, q4, Nat.eq_of_beq_eq_true h4.1⟩
      cases q.1 <;> rfl
    · obtain ⟨st, s1, s2⟩ := a_aa_ok hE wf n (j + 1) i (by omega) (by omega) h3 h4.2
      exact ⟨st, List.mem_append_right _ s1, s2⟩
noncomputable def a_L (E : aE) (f : aF) : Nat := (a_lo E f).toNat
noncomputable def a_U (E : aE) (f : aF) (len : Nat) : Nat := (a_min (a_hi E f) ((len : Int) - 1)).toNat
noncomputable def a_s20 (sp : aSp) (nc : Nat) (e : qN) (E : aE) (K : aK) (al : aL) (sk : List aV) : Option (List aS) := match sk with
  | y :: x :: sk => bif Nat.beq y.1 1 && (Nat.beq x.1 6 && (Nat.blt x.2.1 nc && (q_akd (q_v e) (a_ck sp x.2.1) && (a_ge E y.2.2 0 && (a_lef E y.2.2 ((a_cl sp x.2.1 : Int) - 1) && Nat.blt (a_cl sp x.2.1) 2147483648))))) then
      (bif Nat.beq (a_L E y.2.2) (a_U E y.2.2 (a_cl sp x.2.1)) then (match a_rd sp E K x.2.1 (a_L E y.2.2) with
        | none => none
        | some r => a_one (r.1, r.2.1, q_pc e + 1, al, r.2.2 :: sk))
      else bif Nat.ble 3 (q_v e) then (bif a_aao sp x.2.1 (a_U E y.2.2 (a_cl sp x.2.1) + 1 - a_L E y.2.2) (a_L E y.2.2) then some (a_aa sp x.2.1 E y.2.2 K (q_pc e + 1) al sk (a_U E y.2.2 (a_cl sp x.2.1) + 1 - a_L E y.2.2) (a_L E y.2.2)) else none)
      else (match a_un (sp.get x.2.1).2.2 (a_L E y.2.2) (a_U E y.2.2 (a_cl sp x.2.1)) with
        | none => none
        | some t => (match a_rt t E with
          | none => none
          | some r => a_one (r.1, K, q_pc e + 1, al, r.2 :: sk)))) else none
  | _ => none
theorem a_LU (hE : a_En σ E) {f : aF} (wf : a_wf (a_n E) f) {len : Nat} (h1 : 0 ≤ a_ev σ f) (h2 : a_ev σ f ≤ (len : Int) - 1) : a_w (a_ev σ f) = (a_ev σ f).toNat ∨ 4294967296 ≤ len := by
  unfold a_w
  omega
theorem a_LU2 (hE : a_En σ E) {f : aF} (wf : a_wf (a_n E) f) {len : Nat} (h1 : 0 ≤ a_ev σ f) (h2 : a_ev σ f ≤ (len : Int) - 1) : a_L E f ≤ (a_ev σ f).toNat ∧ (a_ev σ f).toNat ≤ a_U E f len := by
  obtain ⟨b1, b2⟩ := a_b_ok hE wf
  have := a_min_le b2 h2
  unfold a_L a_U
  omega
theorem a_k20 (hE : a_En σ E) (hh : a_HI sp nc h) (hR : a_Rs sp nc σ (a_n E) h lv stk K al sk) (hs : a_s20 sp nc e E K al sk = some nx) : a_Nx sp nc S σ (a_n E) env h (q_s20S false 0 e env h 0 0 lv stk) nx := by
  obtain ⟨hK, hL, hS⟩ := hR
  unfold a_s20 at hs
  split at hs
  · rename_i y x sk
    obtain ⟨h1, hs⟩ := q_bt hs
    obtain ⟨yv, stk1, rfl, hy, hS1⟩ := hS.cons
    obtain ⟨xv, stk2, rfl, hx, hS2⟩ := hS1.cons
    obtain ⟨t, c, f0⟩ := x
    obtain ⟨t2, s2, f⟩ := y
    simp only [Bool.and_eq_true] at h1
    obtain ⟨c0, c1, c2, c3, c4, c5, c6⟩ := h1
    have ht : t = 6 := Nat.eq_of_beq_eq_true c1
    have ht2 : t2 = 1 := Nat.eq_of_beq_eq_true c0
    subst ht; subst ht2
    have hx : xv = (6, c) := hx
    subst hx
    have c2 : Nat.blt c nc = true := c2
    have c3 : q_akd (q_v e) (a_ck sp c) = true := c3
    have c6 : Nat.blt (a_cl sp c) 2147483648 = true := c6
    have d2 : c < nc := by rw [q_blt] at c2; exact of_decide_eq_true c2
    have d6 : a_cl sp c < 2147483648 := by rw [q_blt] at c6; exact of_decide_eq_true c6
    obtain ⟨wf, rfl, r1, r2⟩ := a_V1 hy
    have i1 : 0 ≤ a_ev σ f := a_ge_ok hE wf c4
    have i2 : a_ev σ f ≤ (a_cl sp c : Int) - 1 := a_lef_ok hE wf c5
    have hw : a_w (a_ev σ f) = (a_ev σ f).toNat := by unfold a_w; omega
    obtain ⟨l1, l2⟩ := a_LU2 hE wf i1 i2
    have hj : (a_ev σ f).toNat < a_cl sp c := by omega
    have hr : q_s20S false 0 e env h 0 0 lv ((0, a_w (a_ev σ f)) :: (6, c) :: stk2) = some [(env, h, 0, 0, q_pc e + 1, lv, a_fd h c (a_ev σ f).toNat :: stk2)] := by
      show (bif true && Nat.blt c h.2 && q_akd (q_v e) (h.1.get c).1 && Nat.blt (a_w (a_ev σ f)) (h.1.get c).2.1 && Nat.blt (a_w (a_ev σ f)) 2147483648 then q_goS env h 0 0 (q_pc e + 1) lv (((h.1.get c).2.2.get (a_w (a_ev σ f))) :: stk2) else _) = _
      rw [hh.1, (hh.2.2 c d2).1, (hh.2.2 c d2).2.1, c2, c3, hw, show Nat.blt (a_ev σ f).toNat (a_cl sp c) = true by rw [q_blt]; exact decide_eq_true hj, show Nat.blt (a_ev σ f).toNat 2147483648 = true by rw [q_blt]; exact decide_eq_true (by omega)]
      rfl
    cases hb : Nat.beq (a_L E f) (a_U E f (a_cl sp c)) with
    | true =>
      have hs : (bif Nat.beq (a_L E f) (a_U E f (a_cl sp c)) then (match a_rd sp E K c (a_L E f) with
        | none => none
        | some r => a_one (r.1, r.2.1, q_pc e + 1, al, r.2.2 :: sk)) else _) = some nx := hs
      rw [hb] at hs
      have eL := Nat.eq_of_beq_eq_true hb
      have eL : a_L E f = (a_ev σ f).toNat := by omega
      rw [eL] at hs
      have hs : (match a_rd sp E K c (a_ev σ f).toNat with
        | none => none
        | some r => a_one (r.1, r.2.1, q_pc e + 1, al, r.2.2 :: sk)) = some nx := hs
      split at hs
      · cases hs
      · rename_i r hr2
        cases hs
        obtain ⟨σ', g1, g2, g3, g4, g5⟩ := a_rd_ok hE hh hK d2 hj hr2
        exact a_nx0 hr hh (List.mem_singleton.mpr rfl) rfl g1 g2 ⟨g3, g4, hL.ext g2 g1, g5, hS2.ext g2 g1⟩
    | false =>
      have hs : (bif Nat.beq (a_L E f) (a_U E f (a_cl sp c)) then _ else bif Nat.ble 3 (q_v e) then (bif a_aao sp c (a_U E f (a_cl sp c) + 1 - a_L E f) (a_L E f) then some (a_aa sp c E f K (q_pc e + 1) al sk (a_U E f (a_cl sp c) + 1 - a_L E f) (a_L E f)) else none) else (match a_un (sp.get c).2.2 (a_L E f) (a_U E f (a_cl sp c)) with
        | none => none
        | some t => (match a_rt t E with
          | none => none
          | some r => a_one (r.1, K, q_pc e + 1, al, r.2 :: sk)))) = some nx := hs
      rw [hb] at hs
      cases hb3 : Nat.ble 3 (q_v e) with
      | true =>
        rw [hb3] at hs
        obtain ⟨ho, hs⟩ := q_bt hs
        cases hs
        obtain ⟨st, s1, s2, s3, s4, s5, s6, s7, s8⟩ := a_aa_ok (K := K) (pc := q_pc e + 1) (al := al) (sk := sk) hE wf _ _ (a_ev σ f).toNat l1 (by omega) (by omega) ho
        have hv := (hh.2.2 c d2).2.2 _ hj
        refine a_nx0 hr hh s1 s2 (fun _ _ => rfl) (Nat.le_of_eq s7.symm) ⟨s6, by rw [s7, s3]; exact hK, by rw [s7, s4]; exact hL, ?_⟩
        rw [s7, s5]
        refine ⟨?_, hS2⟩
        unfold a_vt at hv
        rw [s8] at hv
        exact hv
      | false =>
        rw [hb3] at hs
        have hs : (match a_un (sp.get c).2.2 (a_L E f) (a_U E f (a_cl sp c)) with
          | none => none
          | some t => (match a_rt t E with
            | none => none
            | some r => a_one (r.1, K, q_pc e + 1, al, r.2 :: sk))) = some nx := hs
        split at hs
        · cases hs
        · rename_i tt htt
          split at hs
          · cases hs
          · rename_i r hr2
            cases hs
            obtain ⟨σ', g1, g2, g3, g4⟩ := a_rt_ok hE (a_un_ok htt l1 l2 ((hh.2.2 c d2).2.2 _ hj)) hr2
            exact a_nx0 hr hh (List.mem_singleton.mpr rfl) rfl g1 g2 ⟨g3, hK.ext g2 g1, hL.ext g2 g1, g4, hS2.ext g2 g1⟩
  · cases hs
noncomputable def a_kep (v kind : Nat) (E : aE) (z : aV) : Bool := match v with
  | 0 => Nat.beq kind 100 && Nat.beq z.1 1
  | 1 => (Nat.beq kind 101 && (Nat.beq z.1 1 && (a_ge E z.2.2 (-128) && a_lef E z.2.2 127))) || (Nat.beq kind 102 && (Nat.beq z.1 1 && (a_ge E z.2.2 0 && a_lef E z.2.2 1)))
  | 2 => Nat.beq kind 103 && Nat.beq z.1 4
  | _ => false
theorem a_kep_ok (hE : a_En σ E) {v kind : Nat} {z : aV} {zv : qV} (hz : a_V σ (a_n E) z zv) (hk : a_kep v kind E z = true) : Nat.ble 3 v = false ∧ q_kep v kind zv = some zv := by
  obtain ⟨t, s, f⟩ := z
  rcases v with _ | _ | _ | v
  · refine ⟨rfl, ?_⟩
    have hk : (Nat.beq kind 100 && Nat.beq t 1) = true := hk
    rw [Bool.and_eq_true] at hk
    have e := Nat.eq_of_beq_eq_true hk.2
    subst e
    show (bif Nat.beq kind 100 && Nat.beq (q_knd zv) 0 then some zv else none) = _
    rw [hz.kd.1, hk.1]
    rfl
  · refine ⟨rfl, ?_⟩
    have hk : ((Nat.beq kind 101 && (Nat.beq t 1 && (a_ge E f (-128) && a_lef E f 127))) || (Nat.beq kind 102 && (Nat.beq t 1 && (a_ge E f 0 && a_lef E f 1)))) = true := hk
    simp only [Bool.or_eq_true, Bool.and_eq_true] at hk
    rcases hk with ⟨k1, k2, k3, k4⟩ | ⟨k1, k2, k3, k4⟩
    · have e := Nat.eq_of_beq_eq_true k2
      subst e
      obtain ⟨wf, rfl, r1, r2⟩ := a_V1 hz
      have i1 := a_ge_ok hE wf k3
      have i2 := a_lef_ok hE wf k4
      have e : qNn (vp_nar .byte (qI (a_w (a_ev σ f)))) = a_w (a_ev σ f) := by
        have ti := a_qIt r1 r2
        have k := (a_i2b (qI (a_w (a_ev σ f)))).2.2 (by omega) (by omega)
        rw [a_nb, (a_wI _).1, k, ti]
      show (bif Nat.beq kind 101 && true then some (bif true then (0, qNn (vp_nar .byte (qI (a_w (a_ev σ f))))) else (2, 0)) else _) = _
      rw [k1, e]
      rfl
    · have e := Nat.eq_of_beq_eq_true k2
      subst e
      obtain ⟨wf, rfl, r1, r2⟩ := a_V1 hz
      have i1 := a_ge_ok hE wf k3
      have i2 := a_lef_ok hE wf k4
      have e : qNn (vp_nar .boolean (qI (a_w (a_ev σ f)))) = a_w (a_ev σ f) := by
        rw [a_nz]
        have h01 : a_ev σ f = 0 ∨ a_ev σ f = 1 := by omega
        rcases h01 with h | h <;> rw [h] <;> decide
      have k1' : Nat.beq kind 101 = false := by
        rw [Nat.eq_of_beq_eq_true k1]; rfl
      show (bif Nat.beq kind 101 && true then _ else bif Nat.beq kind 102 && true then some (bif true then (0, qNn (vp_nar .boolean (qI (a_w (a_ev σ f))))) else (2, 0)) else none) = _
      rw [k1, k1', e]
      rfl
  · refine ⟨rfl, ?_⟩
    have hk : (Nat.beq kind 103 && Nat.beq t 4) = true := hk
    rw [Bool.and_eq_true] at hk
    have e := Nat.eq_of_beq_eq_true hk.2
    subst e
    show (bif Nat.beq kind 103 && Nat.beq (q_knd zv) 1 then some zv else none) = _
    rw [hz.kd.1, hk.1]
    rfl
  · cases hk
/-- one sum is the other -/
noncomputable def a_feq (f g : aF) : Bool := match a_dif f g with
  | (l, c) => (match l with
    | [] => a_iz c
    | _ => false)
theorem a_feq_ok {σ : Nat → Int} {f g : aF} (h : a_feq f g = true) : a_ev σ f = a_ev σ g := by
  have e := a_dif_ev σ f g
  unfold a_feq at h
  generalize a_dif f g = d at h e
  obtain ⟨l, c⟩ := d
  cases l with
  | nil =>
    have z := a_iz_ok (x := c) h
    have e2 : a_ev σ (([], c) : aF) = 0 + c := rfl
    omega
  | cons q l => cases h
/-- one sum is the other, by what is known -/
noncomputable def a_eqE (E : aE) (f g : aF) : Bool := a_feq f g || (a_nx E (a_dif f g) && a_nx E (a_dif g f))
theorem a_eqE_ok {σ : Nat → Int} {E : aE} (hE : a_En σ E) {f g : aF} (wf : a_wf (a_n E) f) (wg : a_wf (a_n E) g) (h : a_eqE E f g = true) : a_ev σ f = a_ev σ g := by
  unfold a_eqE at h
  rw [Bool.or_eq_true, Bool.and_eq_true] at h
  rcases h with h | ⟨h1, h2⟩
  · exact a_feq_ok h
  · have k1 := a_nx_ok hE (wf.dif wg) h1
    have k2 := a_nx_ok hE (wg.dif wf) h2
    rw [a_dif_ev] at k1 k2
    omega
/-- the facts of an array's beginning that a store in it leaves, or makes longer -/
noncomputable def a_pk (E : aE) (c : Nat) (f : aF) (z : aV) : aK → aK
  | [] => []
  | q :: K => bif a_t12 q.2 && (Nat.beq q.1.1 c && Nat.blt q.2.2.1 1048576) then
      (bif Nat.beq z.1 1 && (a_ge E z.2.2 0 && a_lef E z.2.2 q.2.2.1) then (q.1, (12, q.2.2.1, bif a_eqE E f q.2.2.2 then a_pl q.2.2.2 1 else q.2.2.2)) :: a_pk E c f z K
      else bif a_nn E (a_dif f q.2.2.2) 2 then q :: a_pk E c f z K else a_pk E c f z K)
    else a_pk E c f z K
theorem a_pk_ok {h' : qH} {c : Nat} {f : aF} {z : aV} {zv : qV} (hE : a_En σ E) (wf : a_wf (a_n E) f) (hz : a_V σ (a_n E) z zv) (h0 : 0 ≤ a_ev σ f) (g : ∀ i q, i < nc → q < a_cl sp i → a_fd h' i q = if i = c ∧ q = (a_ev σ f).toNat then zv else a_fd h i q) : ∀ {K : aK}, a_Kn sp nc σ (a_n E) K h → a_Kn sp nc σ (a_n E) (a_pk E c f z K) h'
  | [], _ => fun q hq => by cases hq
  | p :: K, hK => fun q hq => by
    have ih := a_pk_ok hE wf hz h0 g (K := K) (fun x hx => hK x (List.mem_cons_of_mem _ hx))
    unfold a_pk at hq
    cases hb : (a_t12 p.2 && (Nat.beq p.1.1 c && Nat.blt p.2.2.1 1048576)) with
    | false =>
      rw [hb] at hq
      exact ih q hq
    | true =>
      rw [hb] at hq
      simp only [Bool.and_eq_true] at hb
      obtain ⟨b1, b2, b3⟩ := hb
      have e2 := Nat.eq_of_beq_eq_true b2
      have e1 : p.2.1 = 12 := Nat.eq_of_beq_eq_true b1
      obtain ⟨p0, ⟨-, k2⟩ | ⟨k1, k2, k3, k4⟩⟩ := hK p List.mem_cons_self
      · exact absurd e1 (a_V12 k2)
      · have k5 := k4.1 b3
        have hq : q ∈ (bif Nat.beq z.1 1 && (a_ge E z.2.2 0 && a_lef E z.2.2 p.2.2.1) then (p.1, (12, p.2.2.1, bif a_eqE E f p.2.2.2 then a_pl p.2.2.2 1 else p.2.2.2)) :: a_pk E c f z K else bif a_nn E (a_dif f p.2.2.2) 2 then p :: a_pk E c f z K else a_pk E c f z K) := hq
        cases hb2 : (Nat.beq z.1 1 && (a_ge E z.2.2 0 && a_lef E z.2.2 p.2.2.1)) with
        | true =>
          rw [hb2] at hq
          rcases List.mem_cons.mp hq with rfl | hq
          · obtain ⟨tz, sz, fz⟩ := z
            simp only [Bool.and_eq_true] at hb2
            have e := Nat.eq_of_beq_eq_true hb2.1
            have e : tz = 1 := e
            subst e
            obtain ⟨wz, rfl, r1, r2⟩ := a_V1 hz
            have z1 : 0 ≤ a_ev σ fz := a_ge_ok hE wz hb2.2.1
            have z2 : a_ev σ fz ≤ (p.2.2.1 : Int) := a_lef_ok hE wz hb2.2.2
            have fact : ∀ x : Int, (x ≤ a_ev σ p.2.2.2 ∨ (x = a_ev σ p.2.2.2 + 1 ∧ a_ev σ f = a_ev σ p.2.2.2)) → ∀ i, i < a_cl sp p.1.1 → (i : Int) < x → ∃ z : Int, a_fd h' p.1.1 i = (0, a_w z) ∧ 0 ≤ z ∧ z ≤ p.2.2.1 := fun x hx i hi hix => by
              rw [g _ i p0 hi]
              by_cases e : p.1.1 = c ∧ i = (a_ev σ f).toNat
              · rw [if_pos e]
                exact ⟨_, rfl, z1, z2⟩
              · rw [if_neg e]
                refine k5 i hi ?_
                rcases hx with hx | ⟨hx1, hx2⟩
                · omega
                · by_cases e3 : (i : Int) = a_ev σ p.2.2.2
                  · exact absurd ⟨e2, by omega⟩ e
                  · omega
            cases hb3 : a_eqE E f p.2.2.2 with
            | true =>
              have fe := a_eqE_ok hE wf k3 hb3
              refine ⟨p0, Or.inr ⟨k1, rfl, k3, fun _ => fact _ (Or.inr ⟨a_pl_ev _ _ _, fe⟩), fun hx => ?_⟩⟩
              have hx : Nat.blt p.2.2.1 1048576 = false := hx
              rw [b3] at hx; cases hx
            | false =>
              refine ⟨p0, Or.inr ⟨k1, rfl, k3, fun _ => fact _ (Or.inl (Int.le_refl _)), fun hx => ?_⟩⟩
              have hx : Nat.blt p.2.2.1 1048576 = false := hx
              rw [b3] at hx; cases hx
          · exact ih q hq
        | false =>
          rw [hb2] at hq
          have hq : q ∈ (bif a_nn E (a_dif f p.2.2.2) 2 then p :: a_pk E c f z K else a_pk E c f z K) := hq
          cases hb3 : a_nn E (a_dif f p.2.2.2) 2 with
          | true =>
            rw [hb3] at hq
            have hn := a_nn_ok hE 2 (wf.dif k3) hb3
            rw [a_dif_ev] at hn
            rcases List.mem_cons.mp hq with rfl | hq
            · refine ⟨p0, Or.inr ⟨k1, k2, k3, fun _ i hi hix => ?_, fun hx => ?_⟩⟩
              · rw [g _ i p0 hi, if_neg (fun z => by omega)]
                exact k5 i hi hix
              · rw [b3] at hx; cases hx
            · exact ih q hq
          | false =>
            rw [hb3] at hq
            exact ih q hq
noncomputable def a_s21 (sp : aSp) (nc : Nat) (S : aW) (e : qN) (E : aE) (K : aK) (al : aL) (sk : List aV) : Option (List aS) := match sk with
  | z :: y :: x :: sk => bif Nat.beq y.1 1 && (Nat.beq x.1 6 && (Nat.blt x.2.1 nc && (a_kep (q_v e) (a_ck sp x.2.1) E z && (a_ge E y.2.2 0 && (a_lef E y.2.2 ((a_cl sp x.2.1 : Int) - 1) && (Nat.blt (a_cl sp x.2.1) 2147483648 && (a_fa (sp.get x.2.1).2.2 (a_L E y.2.2) (a_U E y.2.2 (a_cl sp x.2.1)) E z && a_inR S x.2.1 x.2.1 (a_L E y.2.2) (a_U E y.2.2 (a_cl sp x.2.1))))))))) then
      (bif Nat.beq (a_L E y.2.2) (a_U E y.2.2 (a_cl sp x.2.1)) then a_one (E, a_pk E x.2.1 y.2.2 z K ++ ((x.2.1, a_L E y.2.2), z) :: a_krm sp x.2.1 (a_L E y.2.2) (a_U E y.2.2 (a_cl sp x.2.1)) K, q_pc e + 1, al, sk)
      else a_one (E, a_pk E x.2.1 y.2.2 z K ++ a_krm sp x.2.1 (a_L E y.2.2) (a_U E y.2.2 (a_cl sp x.2.1)) K, q_pc e + 1, al, sk)) else none
  | _ => none
theorem a_k21 (hE : a_En σ E) (hh : a_HI sp nc h) (hR : a_Rs sp nc σ (a_n E) h lv stk K al sk) (hs : a_s21 sp nc S e E K al sk = some nx) : a_Nx sp nc S σ (a_n E) env h (q_s21S e env h 0 0 lv stk) nx := by
  obtain ⟨hK, hL, hS⟩ := hR
  unfold a_s21 at hs
  split at hs
  · rename_i z y x sk
    obtain ⟨h1, hs⟩ := q_bt hs
    obtain ⟨zv, stk0, rfl, hz, hS0⟩ := hS.cons
    obtain ⟨yv, stk1, rfl, hy, hS1⟩ := hS0.cons
    obtain ⟨xv, stk2, rfl, hx, hS2⟩ := hS1.cons
    obtain ⟨t, c, f0⟩ := x
    obtain ⟨t2, s2, f⟩ := y
    simp only [Bool.and_eq_true] at h1
    obtain ⟨c0, c1, c2, c3, c4, c5, c6, c7, c8⟩ := h1
    have ht : t = 6 := Nat.eq_of_beq_eq_true c1
    have ht2 : t2 = 1 := Nat.eq_of_beq_eq_true c0
    subst ht; subst ht2
    have hx : xv = (6, c) := hx
    subst hx
    have c2 : Nat.blt c nc = true := c2
    have c3 : a_kep (q_v e) (a_ck sp c) E z = true := c3
    have c6 : Nat.blt (a_cl sp c) 2147483648 = true := c6
    have d2 : c < nc := by rw [q_blt] at c2; exact of_decide_eq_true c2
    have d6 : a_cl sp c < 2147483648 := by rw [q_blt] at c6; exact of_decide_eq_true c6
    obtain ⟨wf, rfl, r1, r2⟩ := a_V1 hy
    have i1 : 0 ≤ a_ev σ f := a_ge_ok hE wf c4
    have i2 : a_ev σ f ≤ (a_cl sp c : Int) - 1 := a_lef_ok hE wf c5
    have hw : a_w (a_ev σ f) = (a_ev σ f).toNat := by unfold a_w; omega
    obtain ⟨l1, l2⟩ := a_LU2 hE wf i1 i2
    have hj : (a_ev σ f).toNat < a_cl sp c := by omega
    have c7 : a_fa (sp.get c).2.2 (a_L E f) (a_U E f (a_cl sp c)) E z = true := c7
    have c8 : a_inR S c c (a_L E f) (a_U E f (a_cl sp c)) = true := c8
    obtain ⟨k3, k4⟩ := a_kep_ok hE hz c3
    obtain ⟨g1, g2, g3, g4⟩ := a_wr (L := a_L E f) (U := a_U E f (a_cl sp c)) (a := z) hh hK d2 hj (a_fit_ok hE hz (a_fa_ok c7 l1 l2)) (a_inR_ok l1 l2 (Nat.le_refl _) (Nat.le_refl _) c8) l1 l2
    have g5 : a_Kn sp nc σ (a_n E) (a_pk E c f z K) (q_put h c (a_ev σ f).toNat zv) := a_pk_ok hE wf hz i1 (hh.put d2 hj (a_fit_ok hE hz (a_fa_ok c7 l1 l2))).2 hK
    have hr : q_s21S e env h 0 0 lv (zv :: (0, a_w (a_ev σ f)) :: (6, c) :: stk2) = some [(env, q_put h c (a_ev σ f).toNat zv, 0, 0, q_pc e + 1, lv, stk2)] := by
      show (bif true && Nat.blt c h.2 && Nat.blt (a_w (a_ev σ f)) (h.1.get c).2.1 && Nat.blt (a_w (a_ev σ f)) 2147483648 then (bif Nat.ble 3 (q_v e) then _ else match q_kep (q_v e) (h.1.get c).1 zv with
        | none => none
        | some z' => q_fcS z'.2 fun n => q_ghS env (q_put h c (a_w (a_ev σ f)) (z'.1, n)) 0 0 (q_pc e + 1) lv stk2) else none) = _
      rw [hh.1, (hh.2.2 c d2).1, (hh.2.2 c d2).2.1, c2, hw, show Nat.blt (a_ev σ f).toNat (a_cl sp c) = true by rw [q_blt]; exact decide_eq_true hj, show Nat.blt (a_ev σ f).toNat 2147483648 = true by rw [q_blt]; exact decide_eq_true (by omega), k3, k4]
      rfl
    cases hb : Nat.beq (a_L E f) (a_U E f (a_cl sp c)) with
    | true =>
      have hs : (bif Nat.beq (a_L E f) (a_U E f (a_cl sp c)) then a_one (E, a_pk E c f z K ++ ((c, a_L E f), z) :: a_krm sp c (a_L E f) (a_U E f (a_cl sp c)) K, q_pc e + 1, al, sk) else _) = some nx := hs
      rw [hb] at hs
      cases hs
      have eL := Nat.eq_of_beq_eq_true hb
      have eL : a_L E f = (a_ev σ f).toNat := by omega
      refine ⟨_, _, _, _, hr, g1, g2, _, List.mem_singleton.mpr rfl, rfl, σ, fun _ _ => rfl, Nat.le_refl _, hE, fun q hq => ?_, hL, hS2⟩
      rcases List.mem_append.mp hq with hq | hq
      · exact g5 q hq
      rcases List.mem_cons.mp hq with rfl | hq
      · refine ⟨d2, Or.inl ⟨by show a_L E f < _; rw [eL]; exact hj, ?_⟩⟩
        show a_V σ (a_n E) z (a_fd _ c (a_L E f))
        rw [eL]
        exact g4 hz
      · exact g3 q hq
    | false =>
      have hs : (bif Nat.beq (a_L E f) (a_U E f (a_cl sp c)) then _ else a_one (E, a_pk E c f z K ++ a_krm sp c (a_L E f) (a_U E f (a_cl sp c)) K, q_pc e + 1, al, sk)) = some nx := hs
      rw [hb] at hs
      cases hs
      exact ⟨_, _, _, _, hr, g1, g2, _, List.mem_singleton.mpr rfl, rfl, σ, fun _ _ => rfl, Nat.le_refl _, hE, (fun q hq => by
        rcases List.mem_append.mp hq with hq | hq
        · exact g5 q hq
        · exact g3 q hq), hL, hS2⟩
  · cases hs
/-- arraycopy: the kinds of what is copied suit -/
noncomputable def a_cpt (sp : aSp) (E : aE) (c d : Nat) (s t n : aF) : Bool :=
  bif a_ile (a_hi E s) (a_lo E s) && (a_ile (a_hi E t) (a_lo E t) && a_ile (a_hi E n) (a_lo E n)) then a_cpc (sp.get c).2.2 (sp.get d).2.2 (a_lo E s).toNat (a_lo E t).toNat (a_lo E n).toNat
  else (match a_un (sp.get c).2.2 0 (a_cl sp c - 1) with
    | none => false
    | some u => a_tall u (sp.get d).2.2)
/-- the facts of one array's beginning, for another -/
noncomputable def a_tr (c d m : Nat) : aK → aK
  | [] => []
  | q :: K => bif a_t12 q.2 && (Nat.beq q.1.1 c && Nat.blt q.2.2.1 1048576) then ((d, m), q.2) :: a_tr c d m K else a_tr c d m K
theorem a_tr_ok {h' : qH} {c d n : Nat} (hd : d < nc) (hcl : a_cl sp c = a_cl sp d) (g : ∀ q, q < a_cl sp d → a_fd h' d q = a_fd h c q) : ∀ {K : aK}, a_Kn sp nc σ n K h → a_Kn sp nc σ n (a_tr c d (a_cl sp d) K) h'
  | [], _ => fun q hq => by cases hq
  | p :: K, hK => fun q hq => by
    have ih := a_tr_ok hd hcl g (K := K) (fun x hx => hK x (List.mem_cons_of_mem _ hx))
    unfold a_tr at hq
    cases hb : (a_t12 p.2 && (Nat.beq p.1.1 c && Nat.blt p.2.2.1 1048576)) with
    | false =>
      rw [hb] at hq
      exact ih q hq
    | true =>
      rw [hb] at hq
      simp only [Bool.and_eq_true] at hb
      obtain ⟨b1, b2, b3⟩ := hb
      have e2 := Nat.eq_of_beq_eq_true b2
      have e1 : p.2.1 = 12 := Nat.eq_of_beq_eq_true b1
      rcases List.mem_cons.mp hq with rfl | hq
      · obtain ⟨p0, ⟨-, k2⟩ | ⟨k1, k2, k3, k4⟩⟩ := hK p List.mem_cons_self
        · exact absurd e1 (a_V12 k2)
        · refine ⟨hd, Or.inr ⟨Nat.le_refl _, k2, k3, fun _ i hi hix => ?_, fun hx => ?_⟩⟩
          · have hi : i < a_cl sp d := hi
            show ∃ z : Int, a_fd h' d i = _ ∧ _
            rw [g i hi]
            have := k4.1 b3 i (by rw [e2, hcl]; exact hi) hix
            rw [e2] at this
            exact this
          · have hx : Nat.blt p.2.2.1 1048576 = false := hx
            rw [b3] at hx; cases hx
      · exact ih q hq
noncomputable def a_trs (sp : aSp) (c d : Nat) (s t n : aF) (K : aK) : aK := bif a_feq s (a_cn 0) && (a_feq t (a_cn 0) && (a_feq n (a_cn (a_cl sp d)) && Nat.beq (a_cl sp c) (a_cl sp d))) then a_tr c d (a_cl sp d) K else []
noncomputable def a_s26 (sp : aSp) (nc : Nat) (S : aW) (e : qN) (E : aE) (K : aK) (al : aL) (sk : List aV) : Option (List aS) := match sk with
  | n :: t :: y :: s :: x :: sk => bif Nat.beq n.1 1 && (Nat.beq t.1 1 && (Nat.beq s.1 1 && (Nat.beq x.1 6 && (Nat.beq y.1 6 && (Nat.blt x.2.1 nc && (Nat.blt y.2.1 nc && (Nat.beq (a_ck sp x.2.1) (a_ck sp y.2.1) && ((Nat.beq (a_ck sp x.2.1) 100 || Nat.beq (a_ck sp x.2.1) 103) && (a_ge E s.2.2 0 && (a_ge E t.2.2 0 && (a_ge E n.2.2 0 && (a_nn E (a_dif (a_cn (a_cl sp x.2.1)) (a_sum s.2.2 n.2.2)) 2 && (a_nn E (a_dif (a_cn (a_cl sp y.2.1)) (a_sum t.2.2 n.2.2)) 2 && (Nat.blt (a_cl sp x.2.1) 2147483648 && (Nat.blt (a_cl sp y.2.1) 2147483648 && (Nat.ble (sk.map a_cat).sum 8 && (a_cpt sp E x.2.1 y.2.1 s.2.2 t.2.2 n.2.2 && a_inR S y.2.1 y.2.1 (a_L E t.2.2) (a_hi E (a_sum t.2.2 n.2.2) - 1).toNat))))))))))))))))) then
      a_one (E, a_trs sp x.2.1 y.2.1 s.2.2 t.2.2 n.2.2 K ++ a_krm sp y.2.1 (a_L E t.2.2) (a_hi E (a_sum t.2.2 n.2.2) - 1).toNat K, q_pc e + 3, al, sk) else none
  | _ => none
theorem a_k26 (hE : a_En σ E) (hh : a_HI sp nc h) (hR : a_Rs sp nc σ (a_n E) h lv stk K al sk) (hs : a_s26 sp nc S e E K al sk = some nx) : a_Nx sp nc S σ (a_n E) env h (q_s26S e env h 0 0 lv stk) nx := by
  obtain ⟨hK, hL, hS⟩ := hR
  unfold a_s26 at hs
  split at hs
  · rename_i n t y s x sk
    obtain ⟨h1, hs⟩ := q_bt hs
    cases hs
    obtain ⟨nv, stk0, rfl, hn, hS0⟩ := hS.cons
    obtain ⟨tv, stk1, rfl, ht, hS1⟩ := hS0.cons
    obtain ⟨yv, stk2, rfl, hy, hS2⟩ := hS1.cons
    obtain ⟨sv, stk3, rfl, hsv, hS3⟩ := hS2.cons
    obtain ⟨xv, stk4, rfl, hx, hS4⟩ := hS3.cons
    obtain ⟨k1, z1, fn⟩ := n
    obtain ⟨k2, z2, ft⟩ := t
    obtain ⟨k3, d, z3⟩ := y
    obtain ⟨k4, z4, fs⟩ := s
    obtain ⟨k5, c, z5⟩ := x
    simp only [Bool.and_eq_true] at h1
    obtain ⟨e1, e2, e3, e4, e5, e6, e7, e8, e9, e10, e11, e12, e13, e14, e15, e16, e17, e18, e19⟩ := h1
    have q1 : k1 = 1 := Nat.eq_of_beq_eq_true e1
    have q2 : k2 = 1 := Nat.eq_of_beq_eq_true e2
    have q3 : k4 = 1 := Nat.eq_of_beq_eq_true e3
    have q4 : k5 = 6 := Nat.eq_of_beq_eq_true e4
    have q5 : k3 = 6 := Nat.eq_of_beq_eq_true e5
    subst q1; subst q2; subst q3; subst q4; subst q5
    have hx : xv = (6, c) := hx
    subst hx
    have hy : yv = (6, d) := hy
    subst hy
    obtain ⟨wn, rfl, n1, n2⟩ := a_V1 hn
    obtain ⟨wt, rfl, t1, t2⟩ := a_V1 ht
    obtain ⟨ws, rfl, s1, s2⟩ := a_V1 hsv
    have d6 : c < nc := by have : Nat.blt c nc = true := e6; rw [q_blt] at this; exact of_decide_eq_true this
    have d7 : d < nc := by have : Nat.blt d nc = true := e7; rw [q_blt] at this; exact of_decide_eq_true this
    have e8 : Nat.beq (a_ck sp c) (a_ck sp d) = true := e8
    have e9 : (Nat.beq (a_ck sp c) 100 || Nat.beq (a_ck sp c) 103) = true := e9
    have i1 : 0 ≤ a_ev σ fs := a_ge_ok hE ws e10
    have i2 : 0 ≤ a_ev σ ft := a_ge_ok hE wt e11
    have i3 : 0 ≤ a_ev σ fn := a_ge_ok hE wn e12
    have i4 := a_nn_ok hE 2 (f := a_dif (a_cn (a_cl sp c)) (a_sum fs fn)) (a_wf.cn.dif (ws.sum wn)) e13
    have i5 := a_nn_ok hE 2 (f := a_dif (a_cn (a_cl sp d)) (a_sum ft fn)) (a_wf.cn.dif (wt.sum wn)) e14
    rw [a_dif_ev, a_cn_ev, a_sum_ev] at i4 i5
    have d15 : a_cl sp c < 2147483648 := by have : Nat.blt (a_cl sp c) 2147483648 = true := e15; rw [q_blt] at this; exact of_decide_eq_true this
    have d16 : a_cl sp d < 2147483648 := by have : Nat.blt (a_cl sp d) 2147483648 = true := e16; rw [q_blt] at this; exact of_decide_eq_true this
    have e18 : a_cpt sp E c d fs ft fn = true := e18
    have e19 : a_inR S d d (a_L E ft) (a_hi E (a_sum ft fn) - 1).toNat = true := e19
    have e17 : Nat.ble (sk.map a_cat).sum 8 = true := e17
    have wns : a_w (a_ev σ fn) = (a_ev σ fn).toNat := by unfold a_w; omega
    have wts : a_w (a_ev σ ft) = (a_ev σ ft).toNat := by unfold a_w; omega
    have wss : a_w (a_ev σ fs) = (a_ev σ fs).toNat := by unfold a_w; omega
    have hbt := (a_b_ok hE (wt.sum wn)).2
    have hbl := (a_b_ok hE wt).1
    rw [a_sum_ev] at hbt
    have hwin : ∀ j, (a_ev σ ft).toNat ≤ j → j < (a_ev σ ft).toNat + (a_ev σ fn).toNat → a_L E ft ≤ j ∧ j ≤ (a_hi E (a_sum ft fn) - 1).toNat := fun j g1 g2 => by
      unfold a_L
      omega
    generalize hN : (a_ev σ fn).toNat = N at *
    generalize hT : (a_ev σ ft).toNat = T at *
    generalize hP : (a_ev σ fs).toNat = P at *
    have hPN : P + N ≤ a_cl sp c := by omega
    have hTN : T + N ≤ a_cl sp d := by omega
    have typ : ∀ i, i < N → ∀ v, a_vt (a_ct sp c (P + i)) v → a_vt (a_ct sp d (T + i)) v := fun i hi v hv => by
      unfold a_cpt at e18
      cases hb : (a_ile (a_hi E fs) (a_lo E fs) && (a_ile (a_hi E ft) (a_lo E ft) && a_ile (a_hi E fn) (a_lo E fn))) with
      | true =>
        rw [hb] at e18
        simp only [Bool.and_eq_true] at hb
        have f1 := a_ile_ok.mp hb.1
        have f2 := a_ile_ok.mp hb.2.1
        have f3 := a_ile_ok.mp hb.2.2
        have b1 := a_b_ok hE ws
        have b2 := a_b_ok hE wt
        have b3 := a_b_ok hE wn
        rw [show a_lo E fs = a_ev σ fs by omega, show a_lo E ft = a_ev σ ft by omega, show a_lo E fn = a_ev σ fn by omega, hN, hT, hP] at e18
        exact a_tsub_ok (a_cpc_ok e18 hi) hv
      | false =>
        rw [hb] at e18
        have e18 : (match a_un (sp.get c).2.2 0 (a_cl sp c - 1) with
          | none => false
          | some u => a_tall u (sp.get d).2.2) = true := e18
        split at e18
        · cases e18
        · rename_i u hu
          exact a_tall_ok (a_un_ok hu (Nat.zero_le _) (by omega) hv) e18
    have hget : ∀ j, j < a_cl sp d → (bif Nat.beq P 0 && Nat.beq T 0 && Nat.beq N (h.1.get d).2.1 then (h.1.get c).2.2 else q_cpy (h.1.get c).2.2 (h.1.get d).2.2 P T N (h.1.get d).2.1).get j = if T ≤ j ∧ j < T + N then a_fd h c (P + (j - T)) else a_fd h d j := fun j hj => by
      rw [(hh.2.2 d d7).2.1]
      cases hb : (Nat.beq P 0 && Nat.beq T 0 && Nat.beq N (a_cl sp d)) with
      | true =>
        simp only [Bool.and_eq_true] at hb
        have z1 := Nat.eq_of_beq_eq_true hb.1.1
        have z2 := Nat.eq_of_beq_eq_true hb.1.2
        have z3 := Nat.eq_of_beq_eq_true hb.2
        rw [if_pos (by omega), z1, z2, Nat.zero_add, Nat.sub_zero]
        rfl
      | false => exact a_cpy_get _ _ _ _ _ _ j hTN hj
    obtain ⟨g1, g2⟩ := hh.cell (t := bif Nat.beq P 0 && Nat.beq T 0 && Nat.beq N (h.1.get d).2.1 then (h.1.get c).2.2 else q_cpy (h.1.get c).2.2 (h.1.get d).2.2 P T N (h.1.get d).2.1) d7 (fun j hj => by
      rw [hget j hj]
      by_cases hw : T ≤ j ∧ j < T + N
      · rw [if_pos hw]
        have := typ (j - T) (by omega) _ ((hh.2.2 c d6).2.2 (P + (j - T)) (by omega))
        rw [show T + (j - T) = j by omega] at this
        exact this
      · rw [if_neg hw]
        exact (hh.2.2 d d7).2.2 j hj)
    refine ⟨_, q_pc e + 3, lv, stk4, ?_, g1, fun i q hi hq hSf => ?_, _, List.mem_singleton.mpr rfl, rfl, σ, fun _ _ => rfl, Nat.le_refl _, hE, fun q hq => ?_, hL, hS4⟩
    · show (bif true && true && true && true && true && Nat.blt c h.2 && Nat.blt d h.2 && Nat.beq (h.1.get c).1 (h.1.get d).1 && (Nat.beq (h.1.get c).1 100 || Nat.beq (h.1.get c).1 103) && Nat.ble (a_w (a_ev σ fs) + a_w (a_ev σ fn)) (h.1.get c).2.1 && Nat.ble (a_w (a_ev σ ft) + a_w (a_ev σ fn)) (h.1.get d).2.1 && Nat.blt (a_w (a_ev σ fs)) 2147483648 && Nat.blt (a_w (a_ev σ ft)) 2147483648 && Nat.blt (a_w (a_ev σ fn)) 2147483648 && Nat.ble (stk4.map q_cat).sum 8 then _ else none) = _
      rw [hh.1, (hh.2.2 c d6).1, (hh.2.2 d d7).1, (hh.2.2 c d6).2.1, show Nat.ble (a_w (a_ev σ ft) + a_w (a_ev σ fn)) (h.1.get d).2.1 = true by rw [(hh.2.2 d d7).2.1, wts, wns, q_ble]; exact decide_eq_true hTN, wss, wns, wts, hS4.cats, e8, e9, e17, show Nat.blt c nc = true by rw [q_blt]; exact decide_eq_true d6, show Nat.blt d nc = true by rw [q_blt]; exact decide_eq_true d7, show Nat.ble (P + N) (a_cl sp c) = true by rw [q_ble]; exact decide_eq_true hPN, show Nat.blt P 2147483648 = true by rw [q_blt]; exact decide_eq_true (by omega), show Nat.blt T 2147483648 = true by rw [q_blt]; exact decide_eq_true (by omega), show Nat.blt N 2147483648 = true by rw [q_blt]; exact decide_eq_true (by omega)]
      rw [← (hh.2.2 d d7).1]
      rfl
    · rw [g2 i q hi]
      by_cases ei : i = d
      · subst ei
        rw [if_pos rfl, hget q hq, if_neg]
        intro hw
        obtain ⟨w1, w2⟩ := hwin q hw.1 hw.2
        rw [a_inR_ok w1 w2 (Nat.le_refl _) (Nat.le_refl _) e19] at hSf
        cases hSf
      · rw [if_neg ei]
    · have hq : q ∈ a_trs sp c d fs ft fn K ++ a_krm sp d (a_L E ft) (a_hi E (a_sum ft fn) - 1).toNat K := hq
      rcases List.mem_append.mp hq with hq | hq
      · unfold a_trs at hq
        cases hb : (a_feq fs (a_cn 0) && (a_feq ft (a_cn 0) && (a_feq fn (a_cn (a_cl sp d)) && Nat.beq (a_cl sp c) (a_cl sp d)))) with
        | false => rw [hb] at hq; cases hq
        | true =>
          rw [hb] at hq
          simp only [Bool.and_eq_true] at hb
          obtain ⟨b1, b2, b3, b4⟩ := hb
          have z1 := a_feq_ok (σ := σ) b1
          have z2 := a_feq_ok (σ := σ) b2
          have z3 := a_feq_ok (σ := σ) b3
          rw [a_cn_ev] at z1 z2 z3
          refine a_tr_ok d7 (Nat.eq_of_beq_eq_true b4) (fun i hi => ?_) hK q hq
          rw [g2 _ _ d7, if_pos rfl, hget i hi, if_pos (by omega), show P + (i - T) = i by omega]
      refine a_krm_ok (fun i q hi hq hn => ?_) hK q hq
      rw [g2 _ _ hi]
      by_cases ei : i = d
      · rw [if_pos ei, hget _ (by rw [← ei]; exact hq), if_neg, ← ei]
        intro hw
        obtain ⟨w1, w2⟩ := hwin q hw.1 hw.2
        exact hn ⟨ei, w1, w2⟩
      · rw [if_neg ei]
  · cases hs
/-- what the cells lo .. hi are, if the picture says the same of all -/
noncomputable def a_rng (sp : aSp) (lo hi : Nat) : Option (Nat × Nat × aG) := match sp with
  | .leaf a => some a
  | .branch p l r => bif Nat.blt hi p then a_rng l lo hi else bif Nat.ble p lo then a_rng r lo hi else none
theorem a_rng_ok {lo hi c : Nat} (h1 : lo ≤ c) (h2 : c ≤ hi) {s : Nat × Nat × aG} : ∀ {sp : aSp}, a_rng sp lo hi = some s → sp.get c = s
  | .leaf a, h => by cases h; rfl
  | .branch p l r, h => by
    unfold a_rng at h
    rw [q_get_branch]
    cases hb : Nat.blt hi p with
    | true =>
      rw [hb] at h
      rw [q_blt] at hb
      have hb := of_decide_eq_true hb
      rw [if_neg (by omega)]
      exact a_rng_ok h1 h2 (sp := l) h
    | false =>
      rw [hb] at h
      obtain ⟨hb2, h⟩ := q_bt h
      rw [q_ble] at hb2
      have hb2 := of_decide_eq_true hb2
      rw [if_pos (by omega)]
      exact a_rng_ok h1 h2 (sp := r) h
noncomputable def a_rows (g : aG) (base : Int) : Nat → Nat → Bool
  | 0, _ => true
  | n + 1, j => Nat.beq (a_at g j).1 2 && (a_iz ((a_at g j).2.1 - (base + j)) && a_rows g base n (j + 1))
theorem a_rows_ok {g : aG} {base : Int} : ∀ (n j i : Nat), j ≤ i → i < j + n → a_rows g base n j = true → (a_at g i).1 = 2 ∧ (a_at g i).2.1 = base + i
  | 0, j, i, h1, h2, _ => by omega
  | n + 1, j, i, h1, h2, h => by
    have h : (Nat.beq (a_at g j).1 2 && (a_iz ((a_at g j).2.1 - (base + j)) && a_rows g base n (j + 1))) = true := h
    simp only [Bool.and_eq_true] at h
    by_cases e : i = j
    · subst e
      have := a_iz_ok h.2.1
      exact ⟨Nat.eq_of_beq_eq_true h.1, by omega⟩
    · exact a_rows_ok n (j + 1) i (by omega) (by omega) h.2.2
/-- a row of a table of rows -/
noncomputable def a_s20q (sp : aSp) (nc : Nat) (e : qN) (E : aE) (K : aK) (al : aL) (sk : List aV) : Option (List aS) := match sk with
  | y :: x :: sk => bif Nat.beq y.1 1 && (Nat.beq x.1 6 && (Nat.blt x.2.1 nc && (Nat.beq (a_ck sp x.2.1) 300 && (Nat.beq (q_v e) 3 && (a_ge E y.2.2 0 && (a_lef E y.2.2 ((a_cl sp x.2.1 : Int) - 1) && (Nat.blt (a_cl sp x.2.1) 2147483648 && (a_ile 0 (a_ct sp x.2.1 (a_L E y.2.2)).2.1 && a_rows (sp.get x.2.1).2.2 ((a_ct sp x.2.1 (a_L E y.2.2)).2.1 - (a_L E y.2.2 : Int)) (a_U E y.2.2 (a_cl sp x.2.1) + 1 - a_L E y.2.2) (a_L E y.2.2))))))))) then
      a_one (E, K, q_pc e + 1, al, (8, 0, a_pl y.2.2 ((a_ct sp x.2.1 (a_L E y.2.2)).2.1 - (a_L E y.2.2 : Int))) :: sk) else none
  | _ => none
theorem a_k20q (hE : a_En σ E) (hh : a_HI sp nc h) (hR : a_Rs sp nc σ (a_n E) h lv stk K al sk) (hs : a_s20q sp nc e E K al sk = some nx) : a_Nx sp nc S σ (a_n E) env h (q_s20S false 0 e env h 0 0 lv stk) nx := by
  obtain ⟨hK, hL, hS⟩ := hR
  unfold a_s20q at hs
  split at hs
  · rename_i y x sk
    obtain ⟨h1, hs⟩ := q_bt hs
    cases hs
    obtain ⟨yv, stk1, rfl, hy, hS1⟩ := hS.cons
    obtain ⟨xv, stk2, rfl, hx, hS2⟩ := hS1.cons
    obtain ⟨t, c, f0⟩ := x
    obtain ⟨t2, s2, f⟩ := y
    simp only [Bool.and_eq_true] at h1
    obtain ⟨c0, c1, c2, c3, c9, c4, c5, c6, c7, c8⟩ := h1
    have ht : t = 6 := Nat.eq_of_beq_eq_true c1
    have ht2 : t2 = 1 := Nat.eq_of_beq_eq_true c0
    subst ht; subst ht2
    have hx : xv = (6, c) := hx
    subst hx
    have c2 : Nat.blt c nc = true := c2
    have c3 := Nat.eq_of_beq_eq_true c3
    have c3 : a_ck sp c = 300 := c3
    have c9 := Nat.eq_of_beq_eq_true c9
    have c6 : Nat.blt (a_cl sp c) 2147483648 = true := c6
    have d2 : c < nc := by rw [q_blt] at c2; exact of_decide_eq_true c2
    have d6 : a_cl sp c < 2147483648 := by rw [q_blt] at c6; exact of_decide_eq_true c6
    obtain ⟨wf, rfl, r1, r2⟩ := a_V1 hy
    have i1 : 0 ≤ a_ev σ f := a_ge_ok hE wf c4
    have i2 : a_ev σ f ≤ (a_cl sp c : Int) - 1 := a_lef_ok hE wf c5
    have hw : a_w (a_ev σ f) = (a_ev σ f).toNat := by unfold a_w; omega
    obtain ⟨l1, l2⟩ := a_LU2 hE wf i1 i2
    have hj : (a_ev σ f).toNat < a_cl sp c := by omega
    have c7 := a_ile_ok.mp c7
    have c7 : 0 ≤ (a_ct sp c (a_L E f)).2.1 := c7
    have c8 : a_rows (sp.get c).2.2 ((a_ct sp c (a_L E f)).2.1 - (a_L E f : Int)) (a_U E f (a_cl sp c) + 1 - a_L E f) (a_L E f) = true := c8
    obtain ⟨q1, q2⟩ := a_rows_ok _ _ (a_ev σ f).toNat l1 (by omega) c8
    have hv := (hh.2.2 c d2).2.2 _ hj
    unfold a_vt at hv
    rw [show (a_ct sp c (a_ev σ f).toNat).1 = 2 from q1] at hv
    have hv : a_fd h c (a_ev σ f).toNat = (6, (a_ct sp c (a_ev σ f).toNat).2.1.toNat) := hv
    rw [show (a_ct sp c (a_ev σ f).toNat).2.1 = _ from q2] at hv
    refine a_nx0 (pc' := q_pc e + 1) (lv' := lv) (stk' := a_fd h c (a_ev σ f).toNat :: stk2) ?_ hh (List.mem_singleton.mpr rfl) rfl (fun _ _ => rfl) (Nat.le_refl _) ⟨hE, hK, hL, ?_, hS2⟩
    · show (bif true && Nat.blt c h.2 && q_akd (q_v e) (h.1.get c).1 && Nat.blt (a_w (a_ev σ f)) (h.1.get c).2.1 && Nat.blt (a_w (a_ev σ f)) 2147483648 then q_goS env h 0 0 (q_pc e + 1) lv (((h.1.get c).2.2.get (a_w (a_ev σ f))) :: stk2) else _) = _
      rw [hh.1, (hh.2.2 c d2).1, (hh.2.2 c d2).2.1, c2, c3, c9, hw, show Nat.blt (a_ev σ f).toNat (a_cl sp c) = true by rw [q_blt]; exact decide_eq_true hj, show Nat.blt (a_ev σ f).toNat 2147483648 = true by rw [q_blt]; exact decide_eq_true (by omega)]
      rfl
    · refine ⟨wf, ?_⟩
      show 0 ≤ a_ev σ (a_pl f ((a_ct sp c (a_L E f)).2.1 - (a_L E f : Int))) ∧ _ = (6, (a_ev σ (a_pl f ((a_ct sp c (a_L E f)).2.1 - (a_L E f : Int)))).toNat)
      rw [a_pl_ev, hv]
      refine ⟨by omega, ?_⟩
      rw [show (a_ct sp c (a_L E f)).2.1 - (a_L E f : Int) + ((a_ev σ f).toNat : Int) = a_ev σ f + ((a_ct sp c (a_L E f)).2.1 - (a_L E f : Int)) by omega]
  · cases hs
/-- a place of a row -/
noncomputable def a_s20r (sp : aSp) (nc : Nat) (e : qN) (E : aE) (K : aK) (al : aL) (sk : List aV) : Option (List aS) := match sk with
  | y :: x :: sk => (match a_rng sp (a_lo E x.2.2).toNat (a_hi E x.2.2).toNat with
    | none => none
    | some s => bif Nat.beq y.1 1 && (Nat.beq x.1 8 && (Nat.blt (a_hi E x.2.2).toNat nc && (q_akd (q_v e) s.1 && (a_ge E y.2.2 0 && (a_lef E y.2.2 ((s.2.1 : Int) - 1) && Nat.blt s.2.1 2147483648))))) then
      (match a_un s.2.2 (a_L E y.2.2) (a_U E y.2.2 s.2.1) with
        | none => none
        | some t => (match a_rt t E with
          | none => none
          | some r => a_one (r.1, K, q_pc e + 1, al, r.2 :: sk))) else none)
  | _ => none
theorem a_V8 {n s : Nat} {f : aF} {v : qV} (h : a_V σ n (8, s, f) v) : a_wf n f ∧ 0 ≤ a_ev σ f ∧ v = (6, (a_ev σ f).toNat) := h
theorem a_k20r (hE : a_En σ E) (hh : a_HI sp nc h) (hR : a_Rs sp nc σ (a_n E) h lv stk K al sk) (hs : a_s20r sp nc e E K al sk = some nx) : a_Nx sp nc S σ (a_n E) env h (q_s20S false 0 e env h 0 0 lv stk) nx := by
  obtain ⟨hK, hL, hS⟩ := hR
  unfold a_s20r at hs
  split at hs
  · rename_i y x sk
    split at hs
    · cases hs
    · rename_i s hsp
      obtain ⟨h1, hs9⟩ := q_bt hs
      clear hs
      obtain ⟨yv, stk1, rfl, hy, hS1⟩ := hS.cons
      obtain ⟨xv, stk2, rfl, hx, hS2⟩ := hS1.cons
      obtain ⟨t, c0, fx⟩ := x
      obtain ⟨t2, s2, f⟩ := y
      simp only [Bool.and_eq_true] at h1
      obtain ⟨c0, c1, c2, c3, c4, c5, c6⟩ := h1
      have ht : t = 8 := Nat.eq_of_beq_eq_true c1
      have ht2 : t2 = 1 := Nat.eq_of_beq_eq_true c0
      subst ht; subst ht2
      obtain ⟨wx, x0, rfl⟩ := a_V8 hx
      obtain ⟨bx1, bx2⟩ := a_b_ok hE wx
      have c2 : Nat.blt (a_hi E fx).toNat nc = true := c2
      have d2 : (a_hi E fx).toNat < nc := by rw [q_blt] at c2; exact of_decide_eq_true c2
      have hsp : a_rng sp (a_lo E fx).toNat (a_hi E fx).toNat = some s := hsp
      have hg : sp.get (a_ev σ fx).toNat = s := a_rng_ok (lo := (a_lo E fx).toNat) (hi := (a_hi E fx).toNat) (by omega) (by omega) hsp
      generalize hc : (a_ev σ fx).toNat = c at *
      have dc : c < nc := by omega
      have d6 : s.2.1 < 2147483648 := by rw [q_blt] at c6; exact of_decide_eq_true c6
      obtain ⟨wf, rfl, r1, r2⟩ := a_V1 hy
      have i1 : 0 ≤ a_ev σ f := a_ge_ok hE wf c4
      have i2 : a_ev σ f ≤ (s.2.1 : Int) - 1 := a_lef_ok hE wf c5
      have hw : a_w (a_ev σ f) = (a_ev σ f).toNat := by unfold a_w; omega
      obtain ⟨l1, l2⟩ := a_LU2 hE wf i1 i2
      have ek : a_ck sp c = s.1 := by show (sp.get c).1 = _; rw [hg]
      have el : a_cl sp c = s.2.1 := by show (sp.get c).2.1 = _; rw [hg]
      have hj : (a_ev σ f).toNat < a_cl sp c := by omega
      have hr : q_s20S false 0 e env h 0 0 lv ((0, a_w (a_ev σ f)) :: (6, c) :: stk2) = some [(env, h, 0, 0, q_pc e + 1, lv, a_fd h c (a_ev σ f).toNat :: stk2)] := by
        show (bif true && Nat.blt c h.2 && q_akd (q_v e) (h.1.get c).1 && Nat.blt (a_w (a_ev σ f)) (h.1.get c).2.1 && Nat.blt (a_w (a_ev σ f)) 2147483648 then q_goS env h 0 0 (q_pc e + 1) lv (((h.1.get c).2.2.get (a_w (a_ev σ f))) :: stk2) else _) = _
        rw [hh.1, (hh.2.2 c dc).1, (hh.2.2 c dc).2.1, show Nat.blt c nc = true by rw [q_blt]; exact decide_eq_true dc, ek, c3, hw, show Nat.blt (a_ev σ f).toNat (a_cl sp c) = true by rw [q_blt]; exact decide_eq_true hj, show Nat.blt (a_ev σ f).toNat 2147483648 = true by rw [q_blt]; exact decide_eq_true (by omega)]
        rfl
      split at hs9
      · cases hs9
      · rename_i tt htt
        split at hs9
        · cases hs9
        · rename_i r hr2
          cases hs9
          have hv := (hh.2.2 c dc).2.2 _ hj
          have hv : a_vt (a_at (sp.get c).2.2 (a_ev σ f).toNat) (a_fd h c (a_ev σ f).toNat) := hv
          rw [hg] at hv
          obtain ⟨σ', g1, g2, g3, g4⟩ := a_rt_ok hE (a_un_ok htt l1 l2 hv) hr2
          exact a_nx0 hr hh (List.mem_singleton.mpr rfl) rfl g1 g2 ⟨g3, hK.ext g2 g1, hL.ext g2 g1, g4, hS2.ext g2 g1⟩
  · cases hs
/-- without the cells c .. d, and the facts that speak of them -/
noncomputable def a_krr (sp : aSp) (c d : Nat) : aK → aK
  | [] => []
  | q :: K => bif (bif a_t12 q.2 then !(a_dj (a_dep sp q.2.2.1 q.1.1) c d 0 2147483648) else Nat.ble c q.1.1 && Nat.ble q.1.1 d) then a_krr sp c d K else q :: a_krr sp c d K
theorem a_krr_ok {sp : aSp} {nc : Nat} {σ : Nat → Int} {n c d : Nat} {h h' : qH} (hf : ∀ i j, i < nc → j < a_cl sp i → ¬ (c ≤ i ∧ i ≤ d ∧ j ≤ 2147483648) → a_fd h' i j = a_fd h i j) (hcl : ∀ i, c ≤ i → i ≤ d → a_cl sp i < 2147483648) : ∀ {K : aK}, a_Kn sp nc σ n K h → a_Kn sp nc σ n (a_krr sp c d K) h'
  | [], _ => fun q hq => by cases hq
  | p :: K, hK => fun q hq => by
    have ih := a_krr_ok hf hcl (K := K) (fun x hx => hK x (List.mem_cons_of_mem _ hx))
    unfold a_krr at hq
    cases hb : (bif a_t12 p.2 then !(a_dj (a_dep sp p.2.2.1 p.1.1) c d 0 2147483648) else Nat.ble c p.1.1 && Nat.ble p.1.1 d) with
    | true =>
      rw [hb] at hq
      exact ih q hq
    | false =>
      rw [hb] at hq
      rcases List.mem_cons.mp hq with rfl | hq
      · have hp := hK q List.mem_cons_self
        obtain ⟨h0, ⟨k1, k2⟩ | ⟨k1, k2, k3, k4⟩⟩ := hp
        · refine ⟨h0, Or.inl ⟨k1, ?_⟩⟩
          rw [hf _ _ h0 k1 (fun ⟨e1, e2, _⟩ => ?_)]
          · exact k2
          · have t : a_t12 q.2 = false := by
              cases ht : a_t12 q.2 with
              | false => rfl
              | true => exact absurd (Nat.eq_of_beq_eq_true ht) (a_V12 k2)
            rw [t] at hb
            have hb : (Nat.ble c q.1.1 && Nat.ble q.1.1 d) = false := hb
            rw [q_ble, q_ble, decide_eq_true e1, decide_eq_true e2] at hb
            cases hb
        · have t : a_t12 q.2 = true := by
            show Nat.beq q.2.1 12 = true
            rw [k2]; rfl
          rw [t] at hb
          have hb : (!(a_dj (a_dep sp q.2.2.1 q.1.1) c d 0 2147483648)) = false := hb
          rw [Bool.not_eq_false'] at hb
          refine ⟨h0, Or.inr ⟨k1, k2, k3, a_PF_fr h0 (fun i j hi hj hin => hf i j hi hj (fun ⟨e1, e2, e3⟩ => ?_)) k4⟩⟩
          rw [a_dj_ok e1 e2 (Nat.zero_le _) e3 hb] at hin
          cases hin
      · exact ih q hq
noncomputable def a_s21r (sp : aSp) (nc : Nat) (S : aW) (e : qN) (E : aE) (K : aK) (al : aL) (sk : List aV) : Option (List aS) := match sk with
  | z :: y :: x :: sk => (match a_rng sp (a_lo E x.2.2).toNat (a_hi E x.2.2).toNat with
    | none => none
    | some s => bif Nat.beq y.1 1 && (Nat.beq x.1 8 && (Nat.blt (a_hi E x.2.2).toNat nc && (a_kep (q_v e) s.1 E z && (a_ge E y.2.2 0 && (a_lef E y.2.2 ((s.2.1 : Int) - 1) && (Nat.blt s.2.1 2147483648 && (a_fa s.2.2 (a_L E y.2.2) (a_U E y.2.2 s.2.1) E z && a_inR S (a_lo E x.2.2).toNat (a_hi E x.2.2).toNat (a_L E y.2.2) (a_U E y.2.2 s.2.1)))))))) then
      a_one (E, a_krr sp (a_lo E x.2.2).toNat (a_hi E x.2.2).toNat K, q_pc e + 1, al, sk) else none)
  | _ => none
theorem a_k21r (hE : a_En σ E) (hh : a_HI sp nc h) (hR : a_Rs sp nc σ (a_n E) h lv stk K al sk) (hs : a_s21r sp nc S e E K al sk = some nx) : a_Nx sp nc S σ (a_n E) env h (q_s21S e env h 0 0 lv stk) nx := by
  obtain ⟨hK, hL, hS⟩ := hR
  unfold a_s21r at hs
  split at hs
  · rename_i z y x sk
    split at hs
    · cases hs
    · rename_i s hsp
      obtain ⟨h1, hs⟩ := q_bt hs
      cases hs
      obtain ⟨zv, stk0, rfl, hz, hS0⟩ := hS.cons
      obtain ⟨yv, stk1, rfl, hy, hS1⟩ := hS0.cons
      obtain ⟨xv, stk2, rfl, hx, hS2⟩ := hS1.cons
      obtain ⟨t, c0, fx⟩ := x
      obtain ⟨t2, s2, f⟩ := y
      simp only [Bool.and_eq_true] at h1
      obtain ⟨c0, c1, c2, c3, c4, c5, c6, c7, c8⟩ := h1
      have ht : t = 8 := Nat.eq_of_beq_eq_true c1
      have ht2 : t2 = 1 := Nat.eq_of_beq_eq_true c0
      subst ht; subst ht2
      obtain ⟨wx, x0, rfl⟩ := a_V8 hx
      obtain ⟨bx1, bx2⟩ := a_b_ok hE wx
      have c2 : Nat.blt (a_hi E fx).toNat nc = true := c2
      have d2 : (a_hi E fx).toNat < nc := by rw [q_blt] at c2; exact of_decide_eq_true c2
      have hsp : a_rng sp (a_lo E fx).toNat (a_hi E fx).toNat = some s := hsp
      have c8 : a_inR S (a_lo E fx).toNat (a_hi E fx).toNat (a_L E f) (a_U E f s.2.1) = true := c8
      have k1 : (a_lo E fx).toNat ≤ (a_ev σ fx).toNat := by omega
      have k2 : (a_ev σ fx).toNat ≤ (a_hi E fx).toNat := by omega
      have hg : sp.get (a_ev σ fx).toNat = s := a_rng_ok k1 k2 hsp
      generalize hc : (a_ev σ fx).toNat = c at *
      have dc : c < nc := by omega
      have d6 : s.2.1 < 2147483648 := by rw [q_blt] at c6; exact of_decide_eq_true c6
      obtain ⟨wf, rfl, r1, r2⟩ := a_V1 hy
      have i1 : 0 ≤ a_ev σ f := a_ge_ok hE wf c4
      have i2 : a_ev σ f ≤ (s.2.1 : Int) - 1 := a_lef_ok hE wf c5
      have hw : a_w (a_ev σ f) = (a_ev σ f).toNat := by unfold a_w; omega
      obtain ⟨l1, l2⟩ := a_LU2 hE wf i1 i2
      have ek : a_ck sp c = s.1 := by show (sp.get c).1 = _; rw [hg]
      have el : a_cl sp c = s.2.1 := by show (sp.get c).2.1 = _; rw [hg]
      have hj : (a_ev σ f).toNat < a_cl sp c := by omega
      have c3 : a_kep (q_v e) s.1 E z = true := c3
      obtain ⟨k3, k4⟩ := a_kep_ok hE hz c3
      have c7 : a_fa s.2.2 (a_L E f) (a_U E f s.2.1) E z = true := c7
      have hfit : a_vt (a_ct sp c (a_ev σ f).toNat) zv := by
        show a_vt (a_at (sp.get c).2.2 (a_ev σ f).toNat) zv
        rw [hg]
        exact a_fit_ok hE hz (a_fa_ok c7 l1 l2)
      obtain ⟨g1, g2⟩ := hh.put dc hj hfit
      have hr : q_s21S e env h 0 0 lv (zv :: (0, a_w (a_ev σ f)) :: (6, c) :: stk2) = some [(env, q_put h c (a_ev σ f).toNat zv, 0, 0, q_pc e + 1, lv, stk2)] := by
        show (bif true && Nat.blt c h.2 && Nat.blt (a_w (a_ev σ f)) (h.1.get c).2.1 && Nat.blt (a_w (a_ev σ f)) 2147483648 then (bif Nat.ble 3 (q_v e) then _ else match q_kep (q_v e) (h.1.get c).1 zv with
          | none => none
          | some z' => q_fcS z'.2 fun n => q_ghS env (q_put h c (a_w (a_ev σ f)) (z'.1, n)) 0 0 (q_pc e + 1) lv stk2) else none) = _
        rw [hh.1, (hh.2.2 c dc).1, (hh.2.2 c dc).2.1, show Nat.blt c nc = true by rw [q_blt]; exact decide_eq_true dc, hw, show Nat.blt (a_ev σ f).toNat (a_cl sp c) = true by rw [q_blt]; exact decide_eq_true hj, show Nat.blt (a_ev σ f).toNat 2147483648 = true by rw [q_blt]; exact decide_eq_true (by omega), k3, ek, k4]
        rfl
      refine ⟨_, _, _, _, hr, g1, fun i q hi hq hSf => ?_, _, List.mem_singleton.mpr rfl, rfl, σ, fun _ _ => rfl, Nat.le_refl _, hE, fun q hq => ?_, hL, hS2⟩
      · rw [g2 i q hi hq, if_neg]
        rintro ⟨rfl, rfl⟩
        rw [a_inR_ok l1 l2 k1 k2 c8] at hSf
        cases hSf
      · refine a_krr_ok (c := (a_lo E fx).toNat) (d := (a_hi E fx).toNat) (fun i q hi hq hn => ?_) (fun i hi1 hi2 => ?_) hK q hq
        · rw [g2 _ _ hi hq, if_neg (fun z => hn ⟨by rw [z.1]; exact k1, by rw [z.1]; exact k2, by rw [z.2]; omega⟩)]
        · have := a_rng_ok hi1 hi2 hsp
          show (sp.get i).2.1 < _
          rw [this]; exact d6
  · cases hs
end
