-- 09.arith: arithmetic over sums
/-- what comes of an instruction: the intervals and a value for the number z (an int's, a long's) -/
noncomputable def a_rI (σ : Nat → Int) (E : aE) (r : aE × aV) (z : Int32) : Prop := ∃ σ', (∀ i, i < a_n E → σ' i = σ i) ∧ a_n E ≤ a_n r.1 ∧ a_En σ' r.1 ∧ a_V σ' (a_n r.1) r.2 (0, qNn z)
noncomputable def a_rJ (σ : Nat → Int) (E : aE) (r : aE × aV) (z : Int64) : Prop := ∃ σ', (∀ i, i < a_n E → σ' i = σ i) ∧ a_n E ≤ a_n r.1 ∧ a_En σ' r.1 ∧ a_V σ' (a_n r.1) r.2 (3, qMn z)
noncomputable def a_fr (t : Nat) (E : aE) (lo hi : Int) : aE × aV := (a_add E lo hi, (t, 0, a_sy (a_n E)))
noncomputable def a_fuI (E : aE) : aE × aV := a_fr 1 E (-2147483648) 2147483647
noncomputable def a_fuJ (E : aE) : aE × aV := a_fr 4 E (-9223372036854775808) 9223372036854775807
theorem a_frI_ok {σ : Nat → Int} {E : aE} (h : a_En σ E) {lo hi : Int} {z : Int32} (h1 : lo ≤ z.toInt) (h2 : z.toInt ≤ hi) : a_rI σ E (a_fr 1 E lo hi) z := by
  obtain ⟨w1, w2, w3⟩ := a_wI z
  refine ⟨a_up σ (a_n E) z.toInt, a_up_old, by show a_n E ≤ a_n (a_add E lo hi); rw [a_add_n]; exact Nat.le_succ _, a_add_ok h h1 h2, ?_⟩
  have e : a_ev (a_up σ (a_n E) z.toInt) (a_sy (a_n E)) = z.toInt := by rw [a_sy_ev, a_up_new]
  show a_wf (a_n (a_add E lo hi)) (a_sy (a_n E)) ∧ (0, qNn z) = (0, a_w (a_ev _ (a_sy (a_n E)))) ∧ _ ≤ a_ev _ (a_sy (a_n E)) ∧ a_ev _ (a_sy (a_n E)) < _
  rw [e, ← w1, a_add_n]
  exact ⟨a_wf.sy (Nat.lt_succ_self _), rfl, w2, w3⟩
theorem a_frJ_ok {σ : Nat → Int} {E : aE} (h : a_En σ E) {lo hi : Int} {z : Int64} (h1 : lo ≤ z.toInt) (h2 : z.toInt ≤ hi) : a_rJ σ E (a_fr 4 E lo hi) z := by
  obtain ⟨w1, w2, w3⟩ := a_WI z
  refine ⟨a_up σ (a_n E) z.toInt, a_up_old, by show a_n E ≤ a_n (a_add E lo hi); rw [a_add_n]; exact Nat.le_succ _, a_add_ok h h1 h2, ?_⟩
  have e : a_ev (a_up σ (a_n E) z.toInt) (a_sy (a_n E)) = z.toInt := by rw [a_sy_ev, a_up_new]
  show a_wf (a_n (a_add E lo hi)) (a_sy (a_n E)) ∧ (3, qMn z) = (3, a_W (a_ev _ (a_sy (a_n E)))) ∧ _ ≤ a_ev _ (a_sy (a_n E)) ∧ a_ev _ (a_sy (a_n E)) < _
  rw [e, ← w1, a_add_n]
  exact ⟨a_wf.sy (Nat.lt_succ_self _), rfl, w2, w3⟩
theorem a_fuI_ok {σ : Nat → Int} {E : aE} (h : a_En σ E) (z : Int32) : a_rI σ E (a_fuI E) z := by
  obtain ⟨w1, w2, w3⟩ := a_wI z
  exact a_frI_ok h w2 (by omega)
theorem a_fuJ_ok {σ : Nat → Int} {E : aE} (h : a_En σ E) (z : Int64) : a_rJ σ E (a_fuJ E) z := by
  obtain ⟨w1, w2, w3⟩ := a_WI z
  exact a_frJ_ok h w2 (by omega)
theorem a_kpI {σ : Nat → Int} {E : aE} (h : a_En σ E) {f : aF} (hf : a_wf (a_n E) f) {z : Int32} (hz : z.toInt = a_ev σ f) : a_rI σ E (E, (1, 0, f)) z := by
  obtain ⟨w1, w2, w3⟩ := a_wI z
  refine ⟨σ, fun _ _ => rfl, Nat.le_refl _, h, ?_⟩
  show a_wf (a_n E) f ∧ (0, qNn z) = (0, a_w (a_ev σ f)) ∧ _ ≤ a_ev σ f ∧ a_ev σ f < _
  rw [← hz, ← w1]
  exact ⟨hf, rfl, w2, w3⟩
theorem a_kpJ {σ : Nat → Int} {E : aE} (h : a_En σ E) {f : aF} (hf : a_wf (a_n E) f) {z : Int64} (hz : z.toInt = a_ev σ f) : a_rJ σ E (E, (4, 0, f)) z := by
  obtain ⟨w1, w2, w3⟩ := a_WI z
  refine ⟨σ, fun _ _ => rfl, Nat.le_refl _, h, ?_⟩
  show a_wf (a_n E) f ∧ (3, qMn z) = (3, a_W (a_ev σ f)) ∧ _ ≤ a_ev σ f ∧ a_ev σ f < _
  rw [← hz, ← w1]
  exact ⟨hf, rfl, w2, w3⟩
/-- a sum that may or may not be in the ints -/
noncomputable def a_ckI (E : aE) (f : aF) : aE × aV := bif a_ile (-2147483648) (a_lo E f) && a_ile (a_hi E f) 2147483647 then (E, (1, 0, f)) else a_fuI E
noncomputable def a_ckJ (E : aE) (f : aF) : aE × aV := bif a_ile (-9223372036854775808) (a_lo E f) && a_ile (a_hi E f) 9223372036854775807 then (E, (4, 0, f)) else a_fuJ E
theorem a_ckI_ok {σ : Nat → Int} {E : aE} (h : a_En σ E) {f : aF} (hf : a_wf (a_n E) f) {z : Int32} (hz : z = Int32.ofInt (a_ev σ f)) : a_rI σ E (a_ckI E f) z := by
  unfold a_ckI
  cases hc : (a_ile (-2147483648) (a_lo E f) && a_ile (a_hi E f) 2147483647) with
  | false => exact a_fuI_ok h z
  | true =>
    rw [Bool.and_eq_true] at hc
    have h1 := a_ile_ok.mp hc.1
    have h2 := a_ile_ok.mp hc.2
    obtain ⟨b1, b2⟩ := a_b_ok h hf
    refine a_kpI h hf ?_
    rw [hz, ← a_qI]
    exact a_qIt (by omega) (by omega)
theorem a_ckJ_ok {σ : Nat → Int} {E : aE} (h : a_En σ E) {f : aF} (hf : a_wf (a_n E) f) {z : Int64} (hz : z = Int64.ofInt (a_ev σ f)) : a_rJ σ E (a_ckJ E f) z := by
  unfold a_ckJ
  cases hc : (a_ile (-9223372036854775808) (a_lo E f) && a_ile (a_hi E f) 9223372036854775807) with
  | false => exact a_fuJ_ok h z
  | true =>
    rw [Bool.and_eq_true] at hc
    have h1 := a_ile_ok.mp hc.1
    have h2 := a_ile_ok.mp hc.2
    obtain ⟨b1, b2⟩ := a_b_ok h hf
    refine a_kpJ h hf ?_
    rw [hz, ← a_qJ]
    exact a_qJt (by omega) (by omega)
noncomputable def a_isc (f : aF) : Bool := match f.1 with
  | [] => true
  | _ => false
theorem a_isc_ok {σ : Nat → Int} {f : aF} (h : a_isc f = true) : a_ev σ f = f.2 := by
  obtain ⟨l, c⟩ := f
  cases l with
  | nil => show (0 : Int) + c = c; omega
  | cons q l => cases h
/-- the product -/
noncomputable def a_mul (E : aE) (f g : aF) : aE × aV :=
  bif a_isc f then a_ckI E (a_mulc f.2 g)
  else bif a_isc g then a_ckI E (a_mulc g.2 f)
  else bif a_ile 0 (a_lo E f) && (a_ile 0 (a_lo E g) && a_ile (a_hi E f * a_hi E g) 2147483647) then a_fr 1 E (a_lo E f * a_lo E g) (a_hi E f * a_hi E g)
  else a_fuI E
theorem a_mul_ok {σ : Nat → Int} {E : aE} (h : a_En σ E) {f g : aF} (hf : a_wf (a_n E) f) (hg : a_wf (a_n E) g) {z : Int32} (hz : z = Int32.ofInt (a_ev σ f * a_ev σ g)) : a_rI σ E (a_mul E f g) z := by
  unfold a_mul
  cases h1 : a_isc f with
  | true => exact a_ckI_ok h (a_wf.mulc hg) (by rw [hz, a_mulc_ev, a_isc_ok h1])
  | false =>
    cases h2 : a_isc g with
    | true => exact a_ckI_ok h (a_wf.mulc hf) (by rw [hz, a_mulc_ev, a_isc_ok h2, Int.mul_comm])
    | false =>
      cases hc : (a_ile 0 (a_lo E f) && (a_ile 0 (a_lo E g) && a_ile (a_hi E f * a_hi E g) 2147483647)) with
      | false => exact a_fuI_ok h z
      | true =>
        rw [Bool.and_eq_true, Bool.and_eq_true] at hc
        have c1 := a_ile_ok.mp hc.1
        have c2 := a_ile_ok.mp hc.2.1
        have c3 := a_ile_ok.mp hc.2.2
        obtain ⟨b1, b2⟩ := a_b_ok h hf
        obtain ⟨b3, b4⟩ := a_b_ok h hg
        have m1 : a_lo E f * a_lo E g ≤ a_ev σ f * a_ev σ g := Int.mul_le_mul b1 b3 c2 (by omega)
        have m2 : a_ev σ f * a_ev σ g ≤ a_hi E f * a_hi E g := Int.mul_le_mul b2 b4 (by omega) (by omega)
        have m0 : 0 ≤ a_lo E f * a_lo E g := Int.mul_nonneg c1 c2
        have ez : z.toInt = a_ev σ f * a_ev σ g := by
          rw [hz, ← a_qI]
          exact a_qIt (by omega) (by omega)
        exact a_frI_ok h (by rw [ez]; exact m1) (by rw [ez]; exact m2)
theorem a_natI {y : Int32} (h : 0 ≤ y.toInt) : (y.toBitVec.toNat : Int) = y.toInt ∧ y.toBitVec.toNat < 2147483648 := by
  have h2 := y.toInt_lt
  have e : y.toInt = y.toBitVec.toInt := rfl
  rw [BitVec.toInt_eq_toNat_cond] at e
  have hb := y.toBitVec.isLt
  split at e <;> omega
theorem a_natI2 {y : Int32} (h : y.toBitVec.toNat < 2147483648) : y.toInt = (y.toBitVec.toNat : Int) := by
  have e : y.toInt = y.toBitVec.toInt := rfl
  rw [BitVec.toInt_eq_toNat_cond] at e
  split at e <;> omega
theorem a_andI {x y : Int32} (h : 0 ≤ y.toInt) : 0 ≤ (x &&& y).toInt ∧ (x &&& y).toInt ≤ y.toInt ∧ 0 ≤ (y &&& x).toInt ∧ (y &&& x).toInt ≤ y.toInt := by
  obtain ⟨h1, h2⟩ := a_natI h
  have e1 : (x &&& y).toBitVec.toNat = x.toBitVec.toNat &&& y.toBitVec.toNat := by rw [Int32.toBitVec_and, BitVec.toNat_and]
  have e2 : (y &&& x).toBitVec.toNat = y.toBitVec.toNat &&& x.toBitVec.toNat := by rw [Int32.toBitVec_and, BitVec.toNat_and]
  have l1 : x.toBitVec.toNat &&& y.toBitVec.toNat ≤ y.toBitVec.toNat := Nat.and_le_right
  have l2 : y.toBitVec.toNat &&& x.toBitVec.toNat ≤ y.toBitVec.toNat := Nat.and_le_left
  have t1 := a_natI2 (y := x &&& y) (by omega)
  have t2 := a_natI2 (y := y &&& x) (by omega)
  omega
theorem a_orI {x y : Int32} (h1 : 0 ≤ x.toInt) (h2 : x.toInt ≤ 4095) (h3 : 0 ≤ y.toInt) (h4 : y.toInt ≤ 4095) : 0 ≤ (x ||| y).toInt ∧ (x ||| y).toInt ≤ 4095 := by
  obtain ⟨a1, a2⟩ := a_natI h1
  obtain ⟨a3, a4⟩ := a_natI h3
  have e1 : (x ||| y).toBitVec.toNat = x.toBitVec.toNat ||| y.toBitVec.toNat := by rw [Int32.toBitVec_or, BitVec.toNat_or]
  have l1 : x.toBitVec.toNat ||| y.toBitVec.toNat < 2 ^ 12 := Nat.or_lt_two_pow (by omega) (by omega)
  have t1 := a_natI2 (y := x ||| y) (by omega)
  omega
theorem a_shlI : ∀ k : Nat, k < 13 → 1 ≤ (Int32.ofInt 1 <<< (Int32.ofInt k &&& 31)).toInt ∧ (Int32.ofInt 1 <<< (Int32.ofInt k &&& 31)).toInt ≤ 4096 := by decide +kernel
theorem a_shlI2 : ∀ k : Nat, k < 12 → (Int32.ofInt 1 <<< (Int32.ofInt k &&& 31)).toInt ≤ 2048 := by decide +kernel
theorem a_divI {x y : Int32} (h1 : 0 ≤ x.toInt) (h2 : 0 < y.toInt) : (x / y).toInt = x.toInt / y.toInt ∧ 0 ≤ x.toInt / y.toInt ∧ x.toInt / y.toInt ≤ x.toInt := by
  have hx := x.toInt_lt
  have e : (x / y).toInt = (x.toInt.tdiv y.toInt).bmod (2 ^ 32) := Int32.toInt_div x y
  have e2 : x.toInt.tdiv y.toInt = x.toInt / y.toInt := Int.tdiv_eq_ediv_of_nonneg h1
  have l1 : 0 ≤ x.toInt / y.toInt := Int.ediv_nonneg h1 (by omega)
  have l2 : x.toInt / y.toInt ≤ x.toInt := Int.ediv_le_self _ h1
  refine ⟨?_, l1, l2⟩
  rw [e, e2, Int.bmod_def]
  omega
theorem a_remI {x y : Int32} (h1 : 0 ≤ x.toInt) (h2 : 0 < y.toInt) : (x - x / y * y).toInt = x.toInt % y.toInt ∧ 0 ≤ x.toInt % y.toInt ∧ x.toInt % y.toInt < y.toInt ∧ x.toInt % y.toInt ≤ x.toInt := by
  have hx := x.toInt_lt
  obtain ⟨d1, d2, d3⟩ := a_divI h1 h2
  have m1 : 0 ≤ x.toInt % y.toInt := Int.emod_nonneg _ (by omega)
  have m2 : x.toInt % y.toInt < y.toInt := Int.emod_lt_of_pos _ h2
  have m3 := Int.emod_def x.toInt y.toInt
  have m4 : 0 ≤ y.toInt * (x.toInt / y.toInt) := Int.mul_nonneg (by omega) d2
  have e1 : (x / y * y).toInt = y.toInt * (x.toInt / y.toInt) := by
    rw [Int32.toInt_mul, d1, Int.mul_comm, Int.bmod_def]
    omega
  refine ⟨?_, m1, m2, by omega⟩
  rw [Int32.toInt_sub, e1, Int.bmod_def]
  omega
theorem a_zeI {E : aE} {σ : Nat → Int} (h : a_En σ E) {g : aF} (hg : a_wf (a_n E) g) {y : Int32} (hy : y.toInt = a_ev σ g) (hc : (a_ile 1 (a_lo E g) || a_ile (a_hi E g) (-1)) = true) : y ≠ 0 := fun e => by
  obtain ⟨b3, b4⟩ := a_b_ok h hg
  have e0 : y.toInt = 0 := by rw [e]; rfl
  rw [Bool.or_eq_true] at hc
  rcases hc with hc | hc
  · have := a_ile_ok.mp hc; omega
  · have := a_ile_ok.mp hc; omega
/-- the int instructions of two -/
noncomputable def a_f4 (v : Nat) (E : aE) (f g : aF) : Option (aE × aV) := match v with
  | 0 => some (a_ckI E (a_sum f g))
  | 1 => some (a_ckI E (a_dif f g))
  | 2 => some (a_mul E f g)
  | 3 => some (bif a_ile 0 (a_lo E g) then a_fr 1 E 0 (a_hi E g) else bif a_ile 0 (a_lo E f) then a_fr 1 E 0 (a_hi E f) else a_fuI E)
  | 4 => some (bif a_ile 0 (a_lo E f) && (a_ile (a_hi E f) 4095 && (a_ile 0 (a_lo E g) && a_ile (a_hi E g) 4095)) then a_fr 1 E 0 4095 else a_fuI E)
  | 5 => some (a_fuI E)
  | 6 => some (bif (a_isc f && a_iz (f.2 - 1)) && (a_ile 0 (a_lo E g) && a_ile (a_hi E g) 12) then a_fr 1 E 1 (bif a_ile (a_hi E g) 11 then 2048 else 4096) else a_fuI E)
  | 7 => some (a_fuI E)
  | 8 => bif a_ile 1 (a_lo E g) || a_ile (a_hi E g) (-1) then some (bif a_ile 0 (a_lo E f) && a_ile 1 (a_lo E g) then a_fr 1 E 0 (a_hi E f) else a_fuI E) else none
  | 9 => bif a_ile 1 (a_lo E g) || a_ile (a_hi E g) (-1) then some (bif a_ile 0 (a_lo E f) && a_ile 1 (a_lo E g) then a_fr 1 E 0 (a_min (a_hi E f) (a_hi E g - 1)) else a_fuI E) else none
  | _ => none
theorem a_f4_ok {σ : Nat → Int} {E : aE} (h : a_En σ E) {f g : aF} (hf : a_wf (a_n E) f) (hg : a_wf (a_n E) g) (f1 : -2147483648 ≤ a_ev σ f) (f2 : a_ev σ f < 2147483648) (g1 : -2147483648 ≤ a_ev σ g) (g2 : a_ev σ g < 2147483648) {v : Nat} {r : aE × aV} (hr : a_f4 v E f g = some r) :
    a_rI σ E r (q_f4 v (qI (a_w (a_ev σ f))) (qI (a_w (a_ev σ g)))) ∧ (8 ≤ v → qI (a_w (a_ev σ g)) ≠ 0) := by
  have tx := a_qIt f1 f2
  have ty := a_qIt g1 g2
  obtain ⟨bf1, bf2⟩ := a_b_ok h hf
  obtain ⟨bg1, bg2⟩ := a_b_ok h hg
  have ex := a_qI (a_ev σ f)
  have ey := a_qI (a_ev σ g)
  rcases v with _ | _ | _ | _ | _ | _ | _ | _ | _ | _ | v
  · cases hr
    refine ⟨a_ckI_ok h (hf.sum hg) ?_, fun q => by omega⟩
    rw [a_sum_ev, Int32.ofInt_add, ex, ey]; rfl
  · cases hr
    refine ⟨a_ckI_ok h (hf.dif hg) ?_, fun q => by omega⟩
    rw [a_dif_ev, Int32.ofInt_sub, ex, ey]; rfl
  · cases hr
    refine ⟨a_mul_ok h hf hg ?_, fun q => by omega⟩
    rw [Int32.ofInt_mul, ex, ey]; rfl
  · cases hr
    refine ⟨?_, fun q => by omega⟩
    generalize qI (a_w (a_ev σ f)) = x at *
    generalize qI (a_w (a_ev σ g)) = y at *
    show a_rI σ E _ (x &&& y)
    cases c1 : a_ile 0 (a_lo E g) with
    | true =>
      have c1 := a_ile_ok.mp c1
      obtain ⟨k1, k2, -⟩ := a_andI (x := x) (y := y) (by omega)
      exact a_frI_ok h k1 (by omega)
    | false =>
      cases c2 : a_ile 0 (a_lo E f) with
      | true =>
        have c2 := a_ile_ok.mp c2
        obtain ⟨-, -, k1, k2⟩ := a_andI (x := y) (y := x) (by omega)
        exact a_frI_ok h k1 (by omega)
      | false => exact a_fuI_ok h _
  · cases hr
    refine ⟨?_, fun q => by omega⟩
    generalize qI (a_w (a_ev σ f)) = x at *
    generalize qI (a_w (a_ev σ g)) = y at *
    show a_rI σ E _ (x ||| y)
    cases hc : (a_ile 0 (a_lo E f) && (a_ile (a_hi E f) 4095 && (a_ile 0 (a_lo E g) && a_ile (a_hi E g) 4095))) with
    | false => exact a_fuI_ok h _
    | true =>
      simp only [Bool.and_eq_true] at hc
      have c1 := a_ile_ok.mp hc.1
      have c2 := a_ile_ok.mp hc.2.1
      have c3 := a_ile_ok.mp hc.2.2.1
      have c4 := a_ile_ok.mp hc.2.2.2
      obtain ⟨k1, k2⟩ := a_orI (x := x) (y := y) (by omega) (by omega) (by omega) (by omega)
      exact a_frI_ok h k1 k2
  · cases hr
    exact ⟨a_fuI_ok h _, fun q => by omega⟩
  · cases hr
    refine ⟨?_, fun q => by omega⟩
    cases hc : ((a_isc f && a_iz (f.2 - 1)) && (a_ile 0 (a_lo E g) && a_ile (a_hi E g) 12)) with
    | false => exact a_fuI_ok h _
    | true =>
      simp only [Bool.and_eq_true] at hc
      have c1 := a_isc_ok (σ := σ) hc.1.1
      have c2 := a_iz_ok hc.1.2
      have c3 := a_ile_ok.mp hc.2.1
      have c4 := a_ile_ok.mp hc.2.2
      obtain ⟨k, hk⟩ : ∃ k : Nat, a_ev σ g = k := ⟨(a_ev σ g).toNat, by omega⟩
      obtain ⟨k1, k2⟩ := a_shlI k (by omega)
      have e1 : a_ev σ f = 1 := by omega
      show a_rI σ E (a_fr 1 E 1 (bif a_ile (a_hi E g) 11 then 2048 else 4096)) (qI (a_w (a_ev σ f)) <<< (qI (a_w (a_ev σ g)) &&& 31))
      rw [ex, ey, e1, hk]
      cases c5 : a_ile (a_hi E g) 11 with
      | true =>
        have c5 := a_ile_ok.mp c5
        exact a_frI_ok h k1 (a_shlI2 k (by omega))
      | false => exact a_frI_ok h k1 k2
  · cases hr
    exact ⟨a_fuI_ok h _, fun q => by omega⟩
  · obtain ⟨hc, hr⟩ := q_bt hr
    cases hr
    have hz := a_zeI h hg ty hc
    refine ⟨?_, fun _ => hz⟩
    generalize qI (a_w (a_ev σ f)) = x at *
    generalize qI (a_w (a_ev σ g)) = y at *
    show a_rI σ E _ (x / y)
    cases hc : (a_ile 0 (a_lo E f) && a_ile 1 (a_lo E g)) with
    | false => exact a_fuI_ok h _
    | true =>
      rw [Bool.and_eq_true] at hc
      have c1 := a_ile_ok.mp hc.1
      have c2 := a_ile_ok.mp hc.2
      obtain ⟨d1, d2, d3⟩ := a_divI (x := x) (y := y) (by omega) (by omega)
      exact a_frI_ok h (by omega) (by omega)
  · obtain ⟨hc, hr⟩ := q_bt hr
    cases hr
    have hz := a_zeI h hg ty hc
    refine ⟨?_, fun _ => hz⟩
    generalize qI (a_w (a_ev σ f)) = x at *
    generalize qI (a_w (a_ev σ g)) = y at *
    show a_rI σ E _ (x - x / y * y)
    cases hc : (a_ile 0 (a_lo E f) && a_ile 1 (a_lo E g)) with
    | false => exact a_fuI_ok h _
    | true =>
      rw [Bool.and_eq_true] at hc
      have c1 := a_ile_ok.mp hc.1
      have c2 := a_ile_ok.mp hc.2
      obtain ⟨d1, d2, d3, d4⟩ := a_remI (x := x) (y := y) (by omega) (by omega)
      exact a_frI_ok h (by omega) (a_min_le (by omega) (by omega))
  · cases hr
-- longs
theorem a_natJ {y : Int64} (h : 0 ≤ y.toInt) : (y.toBitVec.toNat : Int) = y.toInt ∧ y.toBitVec.toNat < 9223372036854775808 := by
  have h2 := y.toInt_lt
  have e : y.toInt = y.toBitVec.toInt := rfl
  rw [BitVec.toInt_eq_toNat_cond] at e
  have hb := y.toBitVec.isLt
  split at e <;> omega
theorem a_natJ2 {y : Int64} (h : y.toBitVec.toNat < 9223372036854775808) : y.toInt = (y.toBitVec.toNat : Int) := by
  have e : y.toInt = y.toBitVec.toInt := rfl
  rw [BitVec.toInt_eq_toNat_cond] at e
  split at e <;> omega
theorem a_andJ {x y : Int64} (h : 0 ≤ y.toInt) : 0 ≤ (x &&& y).toInt ∧ (x &&& y).toInt ≤ y.toInt := by
  obtain ⟨h1, h2⟩ := a_natJ h
  have e1 : (x &&& y).toBitVec.toNat = x.toBitVec.toNat &&& y.toBitVec.toNat := by rw [Int64.toBitVec_and, BitVec.toNat_and]
  have l1 : x.toBitVec.toNat &&& y.toBitVec.toNat ≤ y.toBitVec.toNat := Nat.and_le_right
  have t1 := a_natJ2 (y := x &&& y) (by omega)
  omega
theorem a_divJ {x y : Int64} (h1 : 0 ≤ x.toInt) (h2 : 0 < y.toInt) : (x / y).toInt = x.toInt / y.toInt ∧ 0 ≤ x.toInt / y.toInt ∧ x.toInt / y.toInt ≤ x.toInt := by
  have hx := x.toInt_lt
  have e : (x / y).toInt = (x.toInt.tdiv y.toInt).bmod (2 ^ 64) := Int64.toInt_div x y
  have e2 : x.toInt.tdiv y.toInt = x.toInt / y.toInt := Int.tdiv_eq_ediv_of_nonneg h1
  have l1 : 0 ≤ x.toInt / y.toInt := Int.ediv_nonneg h1 (by omega)
  have l2 : x.toInt / y.toInt ≤ x.toInt := Int.ediv_le_self _ h1
  refine ⟨?_, l1, l2⟩
  rw [e, e2, Int.bmod_def]
  omega
theorem a_remJ {x y : Int64} (h1 : 0 ≤ x.toInt) (h2 : 0 < y.toInt) : (x - x / y * y).toInt = x.toInt % y.toInt ∧ 0 ≤ x.toInt % y.toInt ∧ x.toInt % y.toInt < y.toInt ∧ x.toInt % y.toInt ≤ x.toInt := by
  have hx := x.toInt_lt
  obtain ⟨d1, d2, d3⟩ := a_divJ h1 h2
  have m1 : 0 ≤ x.toInt % y.toInt := Int.emod_nonneg _ (by omega)
  have m2 : x.toInt % y.toInt < y.toInt := Int.emod_lt_of_pos _ h2
  have m3 := Int.emod_def x.toInt y.toInt
  have m4 : 0 ≤ y.toInt * (x.toInt / y.toInt) := Int.mul_nonneg (by omega) d2
  have e1 : (x / y * y).toInt = y.toInt * (x.toInt / y.toInt) := by
    rw [Int64.toInt_mul, d1, Int.mul_comm, Int.bmod_def]
    omega
  refine ⟨?_, m1, m2, by omega⟩
  rw [Int64.toInt_sub, e1, Int.bmod_def]
  omega
theorem a_zeJ {E : aE} {σ : Nat → Int} (h : a_En σ E) {g : aF} (hg : a_wf (a_n E) g) {y : Int64} (hy : y.toInt = a_ev σ g) (hc : (a_ile 1 (a_lo E g) || a_ile (a_hi E g) (-1)) = true) : y ≠ 0 := fun e => by
  obtain ⟨b3, b4⟩ := a_b_ok h hg
  have e0 : y.toInt = 0 := by rw [e]; rfl
  rw [Bool.or_eq_true] at hc
  rcases hc with hc | hc
  · have := a_ile_ok.mp hc; omega
  · have := a_ile_ok.mp hc; omega
noncomputable def a_mulJ (E : aE) (f g : aF) : aE × aV :=
  bif a_isc f then a_ckJ E (a_mulc f.2 g)
  else bif a_isc g then a_ckJ E (a_mulc g.2 f)
  else bif a_ile 0 (a_lo E f) && (a_ile 0 (a_lo E g) && a_ile (a_hi E f * a_hi E g) 9223372036854775807) then a_fr 4 E (a_lo E f * a_lo E g) (a_hi E f * a_hi E g)
  else a_fuJ E
theorem a_mulJ_ok {σ : Nat → Int} {E : aE} (h : a_En σ E) {f g : aF} (hf : a_wf (a_n E) f) (hg : a_wf (a_n E) g) {z : Int64} (hz : z = Int64.ofInt (a_ev σ f * a_ev σ g)) : a_rJ σ E (a_mulJ E f g) z := by
  unfold a_mulJ
  cases h1 : a_isc f with
  | true => exact a_ckJ_ok h (a_wf.mulc hg) (by rw [hz, a_mulc_ev, a_isc_ok h1])
  | false =>
    cases h2 : a_isc g with
    | true => exact a_ckJ_ok h (a_wf.mulc hf) (by rw [hz, a_mulc_ev, a_isc_ok h2, Int.mul_comm])
    | false =>
      cases hc : (a_ile 0 (a_lo E f) && (a_ile 0 (a_lo E g) && a_ile (a_hi E f * a_hi E g) 9223372036854775807)) with
      | false => exact a_fuJ_ok h z
      | true =>
        rw [Bool.and_eq_true, Bool.and_eq_true] at hc
        have c1 := a_ile_ok.mp hc.1
        have c2 := a_ile_ok.mp hc.2.1
        have c3 := a_ile_ok.mp hc.2.2
        obtain ⟨b1, b2⟩ := a_b_ok h hf
        obtain ⟨b3, b4⟩ := a_b_ok h hg
        have m1 : a_lo E f * a_lo E g ≤ a_ev σ f * a_ev σ g := Int.mul_le_mul b1 b3 c2 (by omega)
        have m2 : a_ev σ f * a_ev σ g ≤ a_hi E f * a_hi E g := Int.mul_le_mul b2 b4 (by omega) (by omega)
        have m0 : 0 ≤ a_lo E f * a_lo E g := Int.mul_nonneg c1 c2
        have ez : z.toInt = a_ev σ f * a_ev σ g := by
          rw [hz, ← a_qJ]
          exact a_qJt (by omega) (by omega)
        exact a_frJ_ok h (by rw [ez]; exact m1) (by rw [ez]; exact m2)
theorem a_remJt {x y : Int64} : (x - x / y * y).toInt = x.toInt.tmod y.toInt := by
  have h1 : (x / y * y).toInt = (x.toInt.tdiv y.toInt * y.toInt).bmod (2 ^ 64) := by
    rw [Int64.toInt_mul, Int64.toInt_div, Int.bmod_mul_bmod]
  rw [Int64.toInt_sub, h1, Int.sub_bmod_bmod, Int.mul_comm, ← Int.tmod_def]
  have h2 := Int.natAbs_tmod x.toInt y.toInt
  have h3 := Nat.mod_le x.toInt.natAbs y.toInt.natAbs
  have h4 := x.toInt_lt
  have h5 := x.le_toInt
  by_cases h6 : 0 ≤ x.toInt
  · have h7 := Int.tmod_nonneg y.toInt h6
    rw [Int.bmod_def]
    omega
  · have h7 : 0 ≤ (-x.toInt).tmod y.toInt := Int.tmod_nonneg y.toInt (by omega)
    rw [Int.neg_tmod] at h7
    rw [Int.bmod_def]
    omega
/-- a remainder: less than what it is divided by, either way -/
noncomputable def a_frmP (E : aE) (g : aF) : List aF :=
  bif a_isc g then [] else bif a_ile 1 (a_lo E g) then [a_pl (a_dif g (a_sy (a_n E))) (-1), a_pl (a_sum g (a_sy (a_n E))) (-1)] else [a_dif (a_dif (a_cn (-1)) g) (a_sy (a_n E)), a_dif (a_sum (a_sy (a_n E)) (a_cn (-1))) g]
noncomputable def a_frm (E : aE) (f g : aF) : aE × aV :=
  (((a_add E (bif a_ile 0 (a_lo E f) then 0 else -9223372036854775808) (bif a_ile (a_hi E f) 0 then 0 else bif a_ile 0 (a_lo E f) && a_ile 1 (a_lo E g) then a_min (a_hi E f) (a_hi E g - 1) else 9223372036854775807)).1, a_frmP E g ++ E.2), (4, 0, a_sy (a_n E)))
theorem a_frS_ok {σ : Nat → Int} {E : aE} (h : a_En σ E) {lo hi : Int} {z : Int64} (h1 : lo ≤ z.toInt) (h2 : z.toInt ≤ hi) {Ps : List aF} (hP : ∀ P ∈ Ps, a_wf (a_n E + 1) P ∧ 0 ≤ a_ev (a_up σ (a_n E) z.toInt) P) : a_rJ σ E (((a_add E lo hi).1, Ps ++ E.2), (4, 0, a_sy (a_n E))) z := by
  obtain ⟨w1, w2, w3⟩ := a_WI z
  have ha := a_add_ok h h1 h2
  have n0 : a_n (((a_add E lo hi).1, Ps ++ E.2) : aE) = a_n E + 1 := a_add_n (E := E) (lo := lo) (hi := hi)
  refine ⟨a_up σ (a_n E) z.toInt, a_up_old, by show a_n E ≤ a_n (((a_add E lo hi).1, Ps ++ E.2) : aE); omega, ⟨ha.1, fun q hq => ?_⟩, ?_⟩
  · rcases List.mem_append.mp hq with hq | hq
    · rw [n0]
      exact hP q hq
    · exact ha.2 q hq
  · have e : a_ev (a_up σ (a_n E) z.toInt) (a_sy (a_n E)) = z.toInt := by rw [a_sy_ev, a_up_new]
    show a_wf (a_n (((a_add E lo hi).1, Ps ++ E.2) : aE)) (a_sy (a_n E)) ∧ (3, qMn z) = (3, a_W (a_ev _ (a_sy (a_n E)))) ∧ _ ≤ a_ev _ (a_sy (a_n E)) ∧ a_ev _ (a_sy (a_n E)) < _
    rw [e, ← w1, n0]
    exact ⟨a_wf.sy (Nat.lt_succ_self _), rfl, w2, w3⟩
theorem a_frm_ok {σ : Nat → Int} {E : aE} (h : a_En σ E) {f g : aF} (hf : a_wf (a_n E) f) (hg : a_wf (a_n E) g) {x y : Int64} (hx : x.toInt = a_ev σ f) (hy : y.toInt = a_ev σ g) (hc : (a_ile 1 (a_lo E g) || a_ile (a_hi E g) (-1)) = true) : a_rJ σ E (a_frm E f g) (x - x / y * y) := by
  obtain ⟨bf1, bf2⟩ := a_b_ok h hf
  obtain ⟨bg1, bg2⟩ := a_b_ok h hg
  have e := a_remJt (x := x) (y := y)
  have n1 := Int.natAbs_tmod x.toInt y.toInt
  have hy0 : y.toInt ≠ 0 := fun hh => by
    rw [Bool.or_eq_true] at hc
    rcases hc with hc | hc
    · have := a_ile_ok.mp hc; omega
    · have := a_ile_ok.mp hc; omega
  have n2 : x.toInt.natAbs % y.toInt.natAbs < y.toInt.natAbs := Nat.mod_lt _ (by omega)
  have n3 := Nat.mod_le x.toInt.natAbs y.toInt.natAbs
  have l1 := (x - x / y * y).le_toInt
  have l2 := (x - x / y * y).toInt_lt
  have s1 : 0 ≤ x.toInt → 0 ≤ x.toInt.tmod y.toInt := fun hh => Int.tmod_nonneg y.toInt hh
  have s2 : x.toInt ≤ 0 → x.toInt.tmod y.toInt ≤ 0 := fun hh => by
    have := Int.tmod_nonneg y.toInt (a := -x.toInt) (by omega)
    rw [Int.neg_tmod] at this
    omega
  rw [← e] at n1 s1 s2
  generalize (x - x / y * y) = z at *
  refine a_frS_ok h ?_ ?_ ?_
  · cases c : a_ile 0 (a_lo E f) with
    | true =>
      have c := a_ile_ok.mp c
      exact s1 (by omega)
    | false => exact (by omega : (-9223372036854775808 : Int) ≤ z.toInt)
  · cases c : a_ile (a_hi E f) 0 with
    | true =>
      have c := a_ile_ok.mp c
      exact s2 (by omega)
    | false =>
      cases c2 : (a_ile 0 (a_lo E f) && a_ile 1 (a_lo E g)) with
      | true =>
        rw [Bool.and_eq_true] at c2
        have c3 := a_ile_ok.mp c2.1
        have c4 := a_ile_ok.mp c2.2
        exact a_min_le (by omega) (by omega)
      | false => exact (by omega : z.toInt ≤ 9223372036854775807)
  · intro P hP
    unfold a_frmP at hP
    have wg : a_wf (a_n E + 1) g := hg.mono (Nat.le_succ (a_n E))
    have ws : a_wf (a_n E + 1) (a_sy (a_n E)) := a_wf.sy (Nat.lt_succ_self _)
    have eg : a_ev (a_up σ (a_n E) z.toInt) g = y.toInt := by rw [a_ev_ext a_up_old hg, hy]
    have es : a_ev (a_up σ (a_n E) z.toInt) (a_sy (a_n E)) = z.toInt := by rw [a_sy_ev, a_up_new]
    cases c : a_isc g with
    | true => rw [c] at hP; cases hP
    | false =>
      rw [c] at hP
      cases c1 : a_ile 1 (a_lo E g) with
      | true =>
        rw [c1] at hP
        have c1 := a_ile_ok.mp c1
        rcases List.mem_cons.mp hP with rfl | hP
        · refine ⟨wg.dif ws, ?_⟩
          rw [a_pl_ev, a_dif_ev, eg, es]
          omega
        · rw [List.mem_singleton.mp hP]
          refine ⟨wg.sum ws, ?_⟩
          rw [a_pl_ev, a_sum_ev, eg, es]
          omega
      | false =>
        rw [c1] at hP
        have c2 : a_hi E g ≤ -1 := by
          rw [c1, Bool.false_or] at hc
          exact a_ile_ok.mp hc
        rcases List.mem_cons.mp hP with rfl | hP
        · refine ⟨(a_wf.cn.dif wg).dif ws, ?_⟩
          rw [a_dif_ev, a_dif_ev, a_cn_ev, eg, es]
          omega
        · rw [List.mem_singleton.mp hP]
          refine ⟨(ws.sum a_wf.cn).dif wg, ?_⟩
          rw [a_dif_ev, a_sum_ev, a_cn_ev, eg, es]
          omega
noncomputable def a_f5 (v : Nat) (E : aE) (f g : aF) : Option (aE × aV) := match v with
  | 0 => some (a_ckJ E (a_sum f g))
  | 1 => some (a_ckJ E (a_dif f g))
  | 2 => some (a_mulJ E f g)
  | 3 => some (bif a_ile 0 (a_lo E g) then a_fr 4 E 0 (a_hi E g) else a_fuJ E)
  | 4 => some (a_fuJ E)
  | 5 => bif a_ile 1 (a_lo E g) || a_ile (a_hi E g) (-1) then some (bif a_ile 0 (a_lo E f) && a_ile 1 (a_lo E g) then a_fr 4 E 0 (a_hi E f) else a_fuJ E) else none
  | 6 => bif a_ile 1 (a_lo E g) || a_ile (a_hi E g) (-1) then some (a_frm E f g) else none
  | _ => none
theorem a_f5_ok {σ : Nat → Int} {E : aE} (h : a_En σ E) {f g : aF} (hf : a_wf (a_n E) f) (hg : a_wf (a_n E) g) (f1 : -9223372036854775808 ≤ a_ev σ f) (f2 : a_ev σ f < 9223372036854775808) (g1 : -9223372036854775808 ≤ a_ev σ g) (g2 : a_ev σ g < 9223372036854775808) {v : Nat} {r : aE × aV} (hr : a_f5 v E f g = some r) :
    a_rJ σ E r (q_f5 v (qJ (a_W (a_ev σ f))) (qJ (a_W (a_ev σ g)))) ∧ (5 ≤ v → qJ (a_W (a_ev σ g)) ≠ 0) ∧ v < 7 := by
  have tx := a_qJt f1 f2
  have ty := a_qJt g1 g2
  obtain ⟨bf1, bf2⟩ := a_b_ok h hf
  obtain ⟨bg1, bg2⟩ := a_b_ok h hg
  have ex := a_qJ (a_ev σ f)
  have ey := a_qJ (a_ev σ g)
  rcases v with _ | _ | _ | _ | _ | _ | _ | v
  · cases hr
    refine ⟨a_ckJ_ok h (hf.sum hg) ?_, fun q => by omega, by omega⟩
    rw [a_sum_ev, Int64.ofInt_add, ex, ey]; rfl
  · cases hr
    refine ⟨a_ckJ_ok h (hf.dif hg) ?_, fun q => by omega, by omega⟩
    rw [a_dif_ev, Int64.ofInt_sub, ex, ey]; rfl
  · cases hr
    refine ⟨a_mulJ_ok h hf hg ?_, fun q => by omega, by omega⟩
    rw [Int64.ofInt_mul, ex, ey]; rfl
  · cases hr
    refine ⟨?_, fun q => by omega, by omega⟩
    generalize qJ (a_W (a_ev σ f)) = x at *
    generalize qJ (a_W (a_ev σ g)) = y at *
    show a_rJ σ E _ (x &&& y)
    cases c1 : a_ile 0 (a_lo E g) with
    | true =>
      have c1 := a_ile_ok.mp c1
      obtain ⟨k1, k2⟩ := a_andJ (x := x) (y := y) (by omega)
      exact a_frJ_ok h k1 (by omega)
    | false => exact a_fuJ_ok h _
  · cases hr
    exact ⟨a_fuJ_ok h _, fun q => by omega, by omega⟩
  · obtain ⟨hc, hr⟩ := q_bt hr
    cases hr
    have hz := a_zeJ h hg ty hc
    refine ⟨?_, fun _ => hz, by omega⟩
    generalize qJ (a_W (a_ev σ f)) = x at *
    generalize qJ (a_W (a_ev σ g)) = y at *
    show a_rJ σ E _ (x / y)
    cases hc : (a_ile 0 (a_lo E f) && a_ile 1 (a_lo E g)) with
    | false => exact a_fuJ_ok h _
    | true =>
      rw [Bool.and_eq_true] at hc
      have c1 := a_ile_ok.mp hc.1
      have c2 := a_ile_ok.mp hc.2
      obtain ⟨d1, d2, d3⟩ := a_divJ (x := x) (y := y) (by omega) (by omega)
      exact a_frJ_ok h (by omega) (by omega)
  · obtain ⟨hc, hr⟩ := q_bt hr
    cases hr
    have hz := a_zeJ h hg ty hc
    refine ⟨?_, fun _ => hz, by omega⟩
    exact a_frm_ok h hf hg tx ty hc
  · cases hr
