-- 12a.pfx: what facts of arrays say of what is read; places in steps of a number
section
variable {sp : aSp} {nc : Nat} {S : aW} {σ : Nat → Int} {env : qE} {h : qH} {lv : qL} {stk : List qV} {E : aE} {K : aK} {pc : Nat} {al : aL} {sk : List aV} {nx : List aS} {e : qN}
theorem a_r20 {c : Nat} {x : Int} (hh : a_HI sp nc h) (d2 : c < nc) (c3 : q_akd (q_v e) (a_ck sp c) = true) (d6 : a_cl sp c < 2147483648) (i1 : 0 ≤ x) (i2 : x ≤ (a_cl sp c : Int) - 1) : q_s20S false 0 e env h 0 0 lv ((0, a_w x) :: (6, c) :: stk) = some [(env, h, 0, 0, q_pc e + 1, lv, a_fd h c x.toNat :: stk)] := by
  have hw : a_w x = x.toNat := by unfold a_w; omega
  have hj : x.toNat < a_cl sp c := by omega
  show (bif true && Nat.blt c h.2 && q_akd (q_v e) (h.1.get c).1 && Nat.blt (a_w x) (h.1.get c).2.1 && Nat.blt (a_w x) 2147483648 then q_goS env h 0 0 (q_pc e + 1) lv (((h.1.get c).2.2.get (a_w x)) :: stk) else _) = _
  rw [hh.1, (hh.2.2 c d2).1, (hh.2.2 c d2).2.1, show Nat.blt c nc = true by rw [q_blt]; exact decide_eq_true d2, c3, hw, show Nat.blt x.toNat (a_cl sp c) = true by rw [q_blt]; exact decide_eq_true hj, show Nat.blt x.toNat 2147483648 = true by rw [q_blt]; exact decide_eq_true (by omega)]
  rfl
theorem a_r21 {c : Nat} {x : Int} {zv : qV} (hh : a_HI sp nc h) (d2 : c < nc) (d6 : a_cl sp c < 2147483648) (i1 : 0 ≤ x) (i2 : x ≤ (a_cl sp c : Int) - 1) (k3 : Nat.ble 3 (q_v e) = false) (k4 : q_kep (q_v e) (a_ck sp c) zv = some zv) : q_s21S e env h 0 0 lv (zv :: (0, a_w x) :: (6, c) :: stk) = some [(env, q_put h c x.toNat zv, 0, 0, q_pc e + 1, lv, stk)] := by
  have hw : a_w x = x.toNat := by unfold a_w; omega
  have hj : x.toNat < a_cl sp c := by omega
  show (bif true && Nat.blt c h.2 && Nat.blt (a_w x) (h.1.get c).2.1 && Nat.blt (a_w x) 2147483648 then (bif Nat.ble 3 (q_v e) then _ else match q_kep (q_v e) (h.1.get c).1 zv with
    | none => none
    | some z' => q_fcS z'.2 fun n => q_ghS env (q_put h c (a_w x) (z'.1, n)) 0 0 (q_pc e + 1) lv stk) else none) = _
  rw [hh.1, (hh.2.2 c d2).1, (hh.2.2 c d2).2.1, show Nat.blt c nc = true by rw [q_blt]; exact decide_eq_true d2, hw, show Nat.blt x.toNat (a_cl sp c) = true by rw [q_blt]; exact decide_eq_true hj, show Nat.blt x.toNat 2147483648 = true by rw [q_blt]; exact decide_eq_true (by omega), k3, k4]
  rfl
noncomputable def a_kfp (K : aK) (c : Nat) : Option (Nat × aF) := match K with
  | [] => none
  | q :: K => bif a_t12 q.2 && (Nat.beq q.1.1 c && Nat.blt q.2.2.1 1048576) then some q.2.2 else a_kfp K c
theorem a_kfp_ok {c n : Nat} {r : Nat × aF} : ∀ {K : aK}, a_Kn sp nc σ n K h → a_kfp K c = some r → a_wf n r.2 ∧ ∀ i, i < a_cl sp c → (i : Int) < a_ev σ r.2 → ∃ z : Int, a_fd h c i = (0, a_w z) ∧ 0 ≤ z ∧ z ≤ r.1
  | [], _, hr => by cases hr
  | p :: K, hK, hr => by
    unfold a_kfp at hr
    cases hb : (a_t12 p.2 && (Nat.beq p.1.1 c && Nat.blt p.2.2.1 1048576)) with
    | false =>
      rw [hb] at hr
      exact a_kfp_ok (K := K) (fun x hx => hK x (List.mem_cons_of_mem _ hx)) hr
    | true =>
      rw [hb] at hr
      cases hr
      simp only [Bool.and_eq_true] at hb
      obtain ⟨b1, b2, b3⟩ := hb
      have e2 := Nat.eq_of_beq_eq_true b2
      have e1 : p.2.1 = 12 := Nat.eq_of_beq_eq_true b1
      obtain ⟨p0, ⟨-, k2⟩ | ⟨k1, k2, k3, k4⟩⟩ := hK p List.mem_cons_self
      · exact absurd e1 (a_V12 k2)
      · refine ⟨k3, fun i hi hx => ?_⟩
        have := k4.1 b3 i (by rw [e2]; exact hi) hx
        rw [e2] at this
        exact this
noncomputable def a_c20 (sp : aSp) (nc : Nat) (e : qN) (E : aE) (y x : aV) : Bool := Nat.beq y.1 1 && (Nat.beq x.1 6 && (Nat.blt x.2.1 nc && (q_akd (q_v e) (a_ck sp x.2.1) && (a_ge E y.2.2 0 && (a_lef E y.2.2 ((a_cl sp x.2.1 : Int) - 1) && Nat.blt (a_cl sp x.2.1) 2147483648)))))
theorem a_c20_ok {y x : aV} {yv xv : qV} (hE : a_En σ E) (hy : a_V σ (a_n E) y yv) (hx : a_V σ (a_n E) x xv) (hc : a_c20 sp nc e E y x = true) : xv = (6, x.2.1) ∧ yv = (0, a_w (a_ev σ y.2.2)) ∧ a_wf (a_n E) y.2.2 ∧ x.2.1 < nc ∧ q_akd (q_v e) (a_ck sp x.2.1) = true ∧ a_cl sp x.2.1 < 2147483648 ∧ 0 ≤ a_ev σ y.2.2 ∧ a_ev σ y.2.2 ≤ (a_cl sp x.2.1 : Int) - 1 := by
  obtain ⟨t, c, f0⟩ := x
  obtain ⟨t2, s2, f⟩ := y
  unfold a_c20 at hc
  simp only [Bool.and_eq_true] at hc
  obtain ⟨c0, c1, c2, c3, c4, c5, c6⟩ := hc
  have ht : t = 6 := Nat.eq_of_beq_eq_true c1
  have ht2 : t2 = 1 := Nat.eq_of_beq_eq_true c0
  subst ht; subst ht2
  have c2 : Nat.blt c nc = true := c2
  have c6 : Nat.blt (a_cl sp c) 2147483648 = true := c6
  obtain ⟨wf, rfl, r1, r2⟩ := a_V1 hy
  rw [q_blt] at c2 c6
  exact ⟨hx, rfl, wf, of_decide_eq_true c2, c3, of_decide_eq_true c6, a_ge_ok hE wf c4, a_lef_ok hE wf c5⟩
/-- a place that a fact speaks of -/
noncomputable def a_s20p (sp : aSp) (nc : Nat) (e : qN) (E : aE) (K : aK) (al : aL) (sk : List aV) : Option (List aS) := match sk with
  | y :: x :: sk => (match a_kfp K x.2.1 with
    | none => none
    | some r => bif a_c20 sp nc e E y x && (!(Nat.beq (a_L E y.2.2) (a_U E y.2.2 (a_cl sp x.2.1))) && a_nn E (a_pl (a_dif r.2 y.2.2) (-1)) 2) then (match a_rt (0, 0, (r.1 : Int)) E with
      | none => none
      | some z => a_one (z.1, K, q_pc e + 1, al, z.2 :: sk)) else none)
  | _ => none
theorem a_k20p (hE : a_En σ E) (hh : a_HI sp nc h) (hR : a_Rs sp nc σ (a_n E) h lv stk K al sk) (hs : a_s20p sp nc e E K al sk = some nx) : a_Nx sp nc S σ (a_n E) env h (q_s20S false 0 e env h 0 0 lv stk) nx := by
  obtain ⟨hK, hL, hS⟩ := hR
  unfold a_s20p at hs
  split at hs
  · rename_i y x sk
    split at hs
    · cases hs
    · rename_i r hr
      obtain ⟨h1, hs⟩ := q_bt hs
      rw [Bool.and_eq_true, Bool.and_eq_true] at h1
      obtain ⟨yv, stk1, rfl, hy, hS1⟩ := hS.cons
      obtain ⟨xv, stk2, rfl, hx, hS2⟩ := hS1.cons
      obtain ⟨rfl, rfl, wf, d2, c3, d6, i1, i2⟩ := a_c20_ok hE hy hx h1.1
      obtain ⟨wr, hf⟩ := a_kfp_ok hK hr
      have hn := a_nn_ok hE 2 (f := a_pl (a_dif r.2 y.2.2) (-1)) (wr.dif wf) h1.2.2
      rw [a_pl_ev, a_dif_ev] at hn
      obtain ⟨z, z1, z2, z3⟩ := hf (a_ev σ y.2.2).toNat (by omega) (by omega)
      split at hs
      · cases hs
      · rename_i q hq
        cases hs
        obtain ⟨σ', g1, g2, g3, g4⟩ := a_rt_ok hE (t := (0, 0, (r.1 : Int))) (v := a_fd h x.2.1 (a_ev σ y.2.2).toNat) ⟨z, z1, z2, z3⟩ hq
        exact a_nx0 (a_r20 hh d2 c3 d6 i1 i2) hh (List.mem_singleton.mpr rfl) rfl g1 g2 ⟨g3, hK.ext g2 g1, hL.ext g2 g1, g4, hS2.ext g2 g1⟩
  · cases hs
-- places in steps of a number
noncomputable def a_gcd : List (Nat × Int) → Nat
  | [] => 0
  | q :: l => Nat.gcd q.2.natAbs (a_gcd l)
theorem a_gcd_ev (σ : Nat → Int) : ∀ l : List (Nat × Int), ((a_gcd l : Nat) : Int) ∣ a_evl σ l
  | [] => ⟨0, by rw [Int.mul_zero]; rfl⟩
  | q :: l => by
    have h1 : ((Nat.gcd q.2.natAbs (a_gcd l) : Nat) : Int) ∣ q.2 := Int.ofNat_dvd_left.mpr (Nat.gcd_dvd_left _ _)
    have h2 : ((Nat.gcd q.2.natAbs (a_gcd l) : Nat) : Int) ∣ ((a_gcd l : Nat) : Int) := Int.natCast_dvd_natCast.mpr (Nat.gcd_dvd_right _ _)
    exact Int.dvd_add (Int.dvd_trans h1 ⟨σ q.1, rfl⟩) (Int.dvd_trans h2 (a_gcd_ev σ l))
theorem a_gcd_lo (E : aE) : ∀ l : List (Nat × Int), ((a_gcd l : Nat) : Int) ∣ a_lol E l
  | [] => ⟨0, by rw [Int.mul_zero]; rfl⟩
  | q :: l => by
    have h1 : ((Nat.gcd q.2.natAbs (a_gcd l) : Nat) : Int) ∣ q.2 := Int.ofNat_dvd_left.mpr (Nat.gcd_dvd_left _ _)
    have h2 : ((Nat.gcd q.2.natAbs (a_gcd l) : Nat) : Int) ∣ ((a_gcd l : Nat) : Int) := Int.natCast_dvd_natCast.mpr (Nat.gcd_dvd_right _ _)
    have h3 : q.2 ∣ a_tlo q.2 (a_iv E q.1) := by
      rw [a_tlo_eq]
      cases a_ile 0 q.2 with
      | true => exact ⟨_, rfl⟩
      | false => exact ⟨_, rfl⟩
    rw [a_lol_c]
    exact Int.dvd_add (Int.dvd_trans h1 h3) (Int.dvd_trans h2 (a_gcd_lo E l))
/-- the place is some steps behind the lowest one -/
theorem a_stp {f : aF} {U : Nat} (hE : a_En σ E) (wf : a_wf (a_n E) f) (h0 : 0 ≤ a_lo E f) (hm : 1 ≤ a_gcd f.1) (hU : (a_ev σ f).toNat ≤ U) : ∃ i, i ≤ (U - a_L E f) / a_gcd f.1 ∧ (a_ev σ f).toNat = a_L E f + a_gcd f.1 * i := by
  have hb := (a_b_ok hE wf).1
  obtain ⟨k1, e1⟩ := a_gcd_ev σ f.1
  obtain ⟨k2, e2⟩ := a_gcd_lo E f.1
  have e3 : a_ev σ f = a_evl σ f.1 + f.2 := rfl
  have e4 : a_lo E f = a_lol E f.1 + f.2 := a_lo_eq
  generalize hg : a_gcd f.1 = m at *
  have e5 : a_ev σ f - a_lo E f = m * (k1 - k2) := by rw [Int.mul_sub]; omega
  have hk : 0 ≤ k1 - k2 := by
    rcases Int.lt_or_le (k1 - k2) 0 with h | h
    · have := Int.mul_neg_of_pos_of_neg (a := (m : Int)) (by omega) h
      omega
    · exact h
  obtain ⟨i, hi⟩ : ∃ i : Nat, k1 - k2 = i := ⟨(k1 - k2).toNat, by omega⟩
  rw [hi] at e5
  have e6 : (a_ev σ f).toNat = a_L E f + m * i := by
    unfold a_L
    have : ((m * i : Nat) : Int) = m * i := Int.natCast_mul _ _
    omega
  refine ⟨i, ?_, e6⟩
  rw [Nat.le_div_iff_mul_le (by omega), Nat.mul_comm]
  omega
noncomputable def a_usn (g : aG) (m : Nat) : Nat → Nat → Option aT
  | 0, j => some (a_at g j)
  | n + 1, j => (match a_usn g m n (j + m) with
    | none => none
    | some t => bif Nat.beq (a_at g j).1 t.1 && Nat.ble t.1 1 then some (t.1, a_min (a_at g j).2.1 t.2.1, a_max (a_at g j).2.2 t.2.2) else none)
theorem a_usn_ok {g : aG} {m : Nat} {v : qV} : ∀ (n j i : Nat) {t : aT}, a_usn g m n j = some t → i ≤ n → a_vt (a_at g (j + m * i)) v → a_vt t v
  | 0, j, i, t, h, hi, hv => by
    cases h
    have : i = 0 := by omega
    subst this
    exact hv
  | n + 1, j, i, t, h, hi, hv => by
    have h : (match a_usn g m n (j + m) with
      | none => none
      | some t => bif Nat.beq (a_at g j).1 t.1 && Nat.ble t.1 1 then some (t.1, a_min (a_at g j).2.1 t.2.1, a_max (a_at g j).2.2 t.2.2) else none) = some t := h
    split at h
    · cases h
    · rename_i t2 ht2
      obtain ⟨hc, h⟩ := q_bt h
      cases h
      rw [Bool.and_eq_true, q_ble] at hc
      have e := Nat.eq_of_beq_eq_true hc.1
      have hk := of_decide_eq_true hc.2
      have mi1 : a_min (a_at g j).2.1 t2.2.1 ≤ (a_at g j).2.1 := by unfold a_min; cases hx : a_ile (a_at g j).2.1 t2.2.1 with
        | true => exact Int.le_refl _
        | false => exact Int.le_of_lt (a_ile_no hx)
      have mi2 : a_min (a_at g j).2.1 t2.2.1 ≤ t2.2.1 := by unfold a_min; cases hx : a_ile (a_at g j).2.1 t2.2.1 with
        | true => exact a_ile_ok.mp hx
        | false => exact Int.le_refl _
      have ma1 : (a_at g j).2.2 ≤ a_max (a_at g j).2.2 t2.2.2 := by unfold a_max; cases hx : a_ile (a_at g j).2.2 t2.2.2 with
        | true => exact a_ile_ok.mp hx
        | false => exact Int.le_refl _
      have ma2 : t2.2.2 ≤ a_max (a_at g j).2.2 t2.2.2 := by unfold a_max; cases hx : a_ile (a_at g j).2.2 t2.2.2 with
        | true => exact Int.le_refl _
        | false => exact Int.le_of_lt (a_ile_no hx)
      cases i with
      | zero =>
        have hv : a_vt ((a_at g j).1, (a_at g j).2.1, (a_at g j).2.2) v := hv
        rw [e] at hv
        exact hv.wide hk mi1 ma1
      | succ i =>
        have hv2 : a_vt (t2.1, t2.2.1, t2.2.2) v := a_usn_ok n (j + m) i ht2 (by omega) (by
          rw [show j + m + m * i = j + m * (i + 1) by rw [Nat.mul_succ]; omega]
          exact hv)
        exact hv2.wide hk mi2 ma2
noncomputable def a_fsn (g : aG) (m : Nat) (E : aE) (z : aV) : Nat → Nat → Bool
  | 0, j => a_fit (a_at g j) E z
  | n + 1, j => a_fit (a_at g j) E z && a_fsn g m E z n (j + m)
theorem a_fsn_ok {g : aG} {m : Nat} {z : aV} : ∀ (n j i : Nat), a_fsn g m E z n j = true → i ≤ n → a_fit (a_at g (j + m * i)) E z = true
  | 0, j, i, h, hi => by
    have : i = 0 := by omega
    subst this
    exact h
  | n + 1, j, i, h, hi => by
    have h : (a_fit (a_at g j) E z && a_fsn g m E z n (j + m)) = true := h
    rw [Bool.and_eq_true] at h
    cases i with
    | zero => exact h.1
    | succ i =>
      have := a_fsn_ok n (j + m) i h.2 (by omega)
      rw [show j + m + m * i = j + m * (i + 1) by rw [Nat.mul_succ]; omega] at this
      exact this
/-- the ranges that end behind j -/
noncomputable def a_dr (g : aG) (j : Nat) : aG := @List.rec (Nat × aT) (fun _ => aG) [] (fun q g ih => @Bool.rec (fun _ => aG) ih (q :: g) (Nat.ble (Nat.succ j) q.1)) g
theorem a_dr_c {g : aG} {q : Nat × aT} {j : Nat} : a_dr (q :: g) j = (bif Nat.blt j q.1 then q :: g else a_dr g j) := a_rb (a_dr g j) (q :: g) (Nat.blt j q.1)
theorem a_dr_at {j i : Nat} (h : j ≤ i) : ∀ {g : aG}, a_at (a_dr g j) i = a_at g i
  | [] => rfl
  | q :: g => by
    rw [a_dr_c]
    cases hb : Nat.blt j q.1 with
    | true => rfl
    | false =>
      rw [q_blt] at hb
      have hb := of_decide_eq_false hb
      show a_at (a_dr g j) i = a_at (q :: g) i
      rw [a_at_c, q_blt, decide_eq_false (by omega)]
      exact a_dr_at h
noncomputable def a_fcc {α : Type} (n : Nat) (k : Nat → α) : α := match n with
  | 0 => k 0
  | m + 1 => k (m + 1)
theorem a_fcc_eq {α : Type} (n : Nat) (k : Nat → α) : a_fcc n k = k n := by cases n <;> rfl
/-- the same, without beginning anew for each place -/
noncomputable def a_usd (m : Nat) : Nat → aG → Nat → Option aT
  | 0, g, j => some (a_at g j)
  | n + 1, g, j => (match a_fcc (j + m) fun j' => a_usd m n (a_dr g j) j' with
    | none => none
    | some t => bif Nat.beq (a_at g j).1 t.1 && Nat.ble t.1 1 then some (t.1, a_min (a_at g j).2.1 t.2.1, a_max (a_at g j).2.2 t.2.2) else none)
theorem a_usd_eq {m : Nat} {g : aG} : ∀ (n : Nat) {g0 : aG} {j : Nat}, (∀ x, j ≤ x → a_at g0 x = a_at g x) → a_usd m n g0 j = a_usn g m n j
  | 0, g0, j, h => by
    show some (a_at g0 j) = some (a_at g j)
    rw [h j (Nat.le_refl j)]
  | n + 1, g0, j, h => by
    show (match a_fcc (j + m) fun j' => a_usd m n (a_dr g0 j) j' with
      | none => none
      | some t => bif Nat.beq (a_at g0 j).1 t.1 && Nat.ble t.1 1 then some (t.1, a_min (a_at g0 j).2.1 t.2.1, a_max (a_at g0 j).2.2 t.2.2) else none) = (match a_usn g m n (j + m) with
      | none => none
      | some t => bif Nat.beq (a_at g j).1 t.1 && Nat.ble t.1 1 then some (t.1, a_min (a_at g j).2.1 t.2.1, a_max (a_at g j).2.2 t.2.2) else none)
    rw [a_fcc_eq, a_usd_eq (g := g) n (fun x hx => by rw [a_dr_at (by omega)]; exact h x (by omega)), h j (Nat.le_refl j)]
noncomputable def a_fsd (m : Nat) (E : aE) (z : aV) : Nat → aG → Nat → Bool
  | 0, g, j => a_fit (a_at g j) E z
  | n + 1, g, j => a_fit (a_at g j) E z && a_fcc (j + m) fun j' => a_fsd m E z n (a_dr g j) j'
theorem a_fsd_eq {m : Nat} {E : aE} {z : aV} {g : aG} : ∀ (n : Nat) {g0 : aG} {j : Nat}, (∀ x, j ≤ x → a_at g0 x = a_at g x) → a_fsd m E z n g0 j = a_fsn g m E z n j
  | 0, g0, j, h => by
    show a_fit (a_at g0 j) E z = a_fit (a_at g j) E z
    rw [h j (Nat.le_refl j)]
  | n + 1, g0, j, h => by
    show (a_fit (a_at g0 j) E z && a_fcc (j + m) fun j' => a_fsd m E z n (a_dr g0 j) j') = (a_fit (a_at g j) E z && a_fsn g m E z n (j + m))
    rw [a_fcc_eq, a_fsd_eq (g := g) n (fun x hx => by rw [a_dr_at (by omega)]; exact h x (by omega)), h j (Nat.le_refl j)]
noncomputable def a_s20s (sp : aSp) (nc : Nat) (e : qN) (E : aE) (K : aK) (al : aL) (sk : List aV) : Option (List aS) := match sk with
  | y :: x :: sk => bif Nat.ble 2 (a_gcd y.2.2.1) && (a_ile 0 (a_lo E y.2.2) && (!(Nat.beq (a_L E y.2.2) (a_U E y.2.2 (a_cl sp x.2.1))) && a_c20 sp nc e E y x)) then (match a_usd (a_gcd y.2.2.1) ((a_U E y.2.2 (a_cl sp x.2.1) - a_L E y.2.2) / a_gcd y.2.2.1) (sp.get x.2.1).2.2 (a_L E y.2.2) with
    | none => none
    | some t => (match a_rt t E with
      | none => none
      | some z => a_one (z.1, K, q_pc e + 1, al, z.2 :: sk))) else none
  | _ => none
theorem a_k20s (hE : a_En σ E) (hh : a_HI sp nc h) (hR : a_Rs sp nc σ (a_n E) h lv stk K al sk) (hs : a_s20s sp nc e E K al sk = some nx) : a_Nx sp nc S σ (a_n E) env h (q_s20S false 0 e env h 0 0 lv stk) nx := by
  obtain ⟨hK, hL, hS⟩ := hR
  unfold a_s20s at hs
  split at hs
  · rename_i y x sk
    obtain ⟨h1, hs⟩ := q_bt hs
    rw [Bool.and_eq_true, Bool.and_eq_true, Bool.and_eq_true] at h1
    obtain ⟨m1, m2, -, m3⟩ := h1
    obtain ⟨yv, stk1, rfl, hy, hS1⟩ := hS.cons
    obtain ⟨xv, stk2, rfl, hx, hS2⟩ := hS1.cons
    obtain ⟨rfl, rfl, wf, d2, c3, d6, i1, i2⟩ := a_c20_ok hE hy hx m3
    have m1 := Nat.le_of_ble_eq_true m1
    obtain ⟨l1, l2⟩ := a_LU2 hE wf i1 i2
    obtain ⟨i, s1, s2⟩ := a_stp hE wf (a_ile_ok.mp m2) (by omega) l2
    split at hs
    · cases hs
    · rename_i t ht
      rw [a_usd_eq (g := (sp.get x.2.1).2.2) _ (fun _ _ => rfl)] at ht
      split at hs
      · cases hs
      · rename_i q hq
        cases hs
        have hv := (hh.2.2 x.2.1 d2).2.2 (a_ev σ y.2.2).toNat (by omega)
        have hv : a_vt (a_at (sp.get x.2.1).2.2 (a_ev σ y.2.2).toNat) (a_fd h x.2.1 (a_ev σ y.2.2).toNat) := hv
        obtain ⟨σ', g1, g2, g3, g4⟩ := a_rt_ok hE (a_usn_ok _ _ i ht s1 (by rw [← s2]; exact hv)) hq
        exact a_nx0 (a_r20 hh d2 c3 d6 i1 i2) hh (List.mem_singleton.mpr rfl) rfl g1 g2 ⟨g3, hK.ext g2 g1, hL.ext g2 g1, g4, hS2.ext g2 g1⟩
  · cases hs
noncomputable def a_s21s (sp : aSp) (nc : Nat) (S : aW) (e : qN) (E : aE) (K : aK) (al : aL) (sk : List aV) : Option (List aS) := match sk with
  | z :: y :: x :: sk => bif Nat.ble 2 (a_gcd y.2.2.1) && (a_ile 0 (a_lo E y.2.2) && (!(Nat.beq (a_L E y.2.2) (a_U E y.2.2 (a_cl sp x.2.1))) && (Nat.beq y.1 1 && (Nat.beq x.1 6 && (Nat.blt x.2.1 nc && (a_kep (q_v e) (a_ck sp x.2.1) E z && (a_ge E y.2.2 0 && (a_lef E y.2.2 ((a_cl sp x.2.1 : Int) - 1) && (Nat.blt (a_cl sp x.2.1) 2147483648 && (a_fsd (a_gcd y.2.2.1) E z ((a_U E y.2.2 (a_cl sp x.2.1) - a_L E y.2.2) / a_gcd y.2.2.1) (sp.get x.2.1).2.2 (a_L E y.2.2) && a_inR S x.2.1 x.2.1 (a_L E y.2.2) (a_U E y.2.2 (a_cl sp x.2.1)))))))))))) then
      a_one (E, a_krm sp x.2.1 (a_L E y.2.2) (a_U E y.2.2 (a_cl sp x.2.1)) K, q_pc e + 1, al, sk) else none
  | _ => none
theorem a_k21s (hE : a_En σ E) (hh : a_HI sp nc h) (hR : a_Rs sp nc σ (a_n E) h lv stk K al sk) (hs : a_s21s sp nc S e E K al sk = some nx) : a_Nx sp nc S σ (a_n E) env h (q_s21S e env h 0 0 lv stk) nx := by
  obtain ⟨hK, hL, hS⟩ := hR
  unfold a_s21s at hs
  split at hs
  · rename_i z y x sk
    obtain ⟨h1, hs⟩ := q_bt hs
    cases hs
    obtain ⟨zv, stk0, rfl, hz, hS0⟩ := hS.cons
    obtain ⟨yv, stk1, rfl, hy, hS1⟩ := hS0.cons
    obtain ⟨xv, stk2, rfl, hx, hS2⟩ := hS1.cons
    obtain ⟨t, c, f0⟩ := x
    obtain ⟨t2, s2, f⟩ := y
    simp only [Bool.and_eq_true] at h1
    obtain ⟨m1, m2, -, c0, c1, c2, c3, c4, c5, c6, c7, c8⟩ := h1
    have ht : t = 6 := Nat.eq_of_beq_eq_true c1
    have ht2 : t2 = 1 := Nat.eq_of_beq_eq_true c0
    subst ht; subst ht2
    have hx : xv = (6, c) := hx
    subst hx
    have c2 : Nat.blt c nc = true := c2
    have c3 : a_kep (q_v e) (a_ck sp c) E z = true := c3
    have c6 : Nat.blt (a_cl sp c) 2147483648 = true := c6
    rw [q_blt] at c2 c6
    have d2 : c < nc := of_decide_eq_true c2
    have d6 : a_cl sp c < 2147483648 := of_decide_eq_true c6
    obtain ⟨wf, rfl, r1, r2⟩ := a_V1 hy
    have i1 : 0 ≤ a_ev σ f := a_ge_ok hE wf c4
    have i2 : a_ev σ f ≤ (a_cl sp c : Int) - 1 := a_lef_ok hE wf c5
    have m1 := Nat.le_of_ble_eq_true m1
    have m1 : 2 ≤ a_gcd f.1 := m1
    have m2 : 0 ≤ a_lo E f := a_ile_ok.mp m2
    obtain ⟨l1, l2⟩ := a_LU2 hE wf i1 i2
    obtain ⟨i, s1, s2⟩ := a_stp hE wf m2 (by omega) l2
    have hj : (a_ev σ f).toNat < a_cl sp c := by omega
    have c7 : a_fsd (a_gcd f.1) E z ((a_U E f (a_cl sp c) - a_L E f) / a_gcd f.1) (sp.get c).2.2 (a_L E f) = true := c7
    rw [a_fsd_eq (g := (sp.get c).2.2) _ (fun _ _ => rfl)] at c7
    have c8 : a_inR S c c (a_L E f) (a_U E f (a_cl sp c)) = true := c8
    obtain ⟨k3, k4⟩ := a_kep_ok hE hz c3
    have hfit : a_vt (a_ct sp c (a_ev σ f).toNat) zv := by
      rw [s2]
      exact a_fit_ok hE hz (a_fsn_ok _ _ i c7 s1)
    obtain ⟨g1, g2, g3, g4⟩ := a_wr (L := a_L E f) (U := a_U E f (a_cl sp c)) (a := z) hh hK d2 hj hfit (a_inR_ok l1 l2 (Nat.le_refl _) (Nat.le_refl _) c8) l1 l2
    exact ⟨_, _, _, _, a_r21 hh d2 d6 i1 i2 k3 k4, g1, g2, _, List.mem_singleton.mpr rfl, rfl, σ, fun _ _ => rfl, Nat.le_refl _, hE, g3, hL, hS2⟩
  · cases hs
end
