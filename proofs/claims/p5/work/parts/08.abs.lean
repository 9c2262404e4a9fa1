-- 08.abs: an abstract machine over the machine's known values: numbers as a symbol and an offset, intervals, differences; what is promised of the heap
def a_w (x : Int) : Nat := (x % 4294967296).toNat
def a_W (x : Int) : Nat := (x % 18446744073709551616).toNat
theorem a_wN (z : Int) : qNn (Int32.ofInt z) = a_w z := by
  show (BitVec.ofInt 32 z).toNat = _
  rw [BitVec.toNat_ofInt]
  rfl
theorem a_qI (z : Int) : qI (a_w z) = Int32.ofInt z := by
  apply Int32.toBitVec.inj
  show BitVec.ofNat 32 (a_w z) = BitVec.ofInt 32 z
  apply BitVec.eq_of_toNat_eq
  rw [BitVec.toNat_ofNat, BitVec.toNat_ofInt]
  unfold a_w
  omega
theorem a_WN (z : Int) : qMn (Int64.ofInt z) = a_W z := by
  show (BitVec.ofInt 64 z).toNat = _
  rw [BitVec.toNat_ofInt]
  rfl
theorem a_qJ (z : Int) : qJ (a_W z) = Int64.ofInt z := by
  apply Int64.toBitVec.inj
  show BitVec.ofNat 64 (a_W z) = BitVec.ofInt 64 z
  apply BitVec.eq_of_toNat_eq
  rw [BitVec.toNat_ofNat, BitVec.toNat_ofInt]
  unfold a_W
  omega
theorem a_qIt {z : Int} (h1 : -2147483648 ≤ z) (h2 : z < 2147483648) : (qI (a_w z)).toInt = z := by
  rw [a_qI, Int32.toInt_ofInt, Int.bmod_def]
  have e : ((Int32.size : Nat) : Int) = 4294967296 := rfl
  rw [e]
  omega
theorem a_qJt {z : Int} (h1 : -9223372036854775808 ≤ z) (h2 : z < 9223372036854775808) : (qJ (a_W z)).toInt = z := by
  rw [a_qJ, Int64.toInt_ofInt, Int.bmod_def]
  have e : ((Int64.size : Nat) : Int) = 18446744073709551616 := rfl
  rw [e]
  omega
theorem a_wI (r : Int32) : qNn r = a_w r.toInt ∧ -2147483648 ≤ r.toInt ∧ r.toInt < 2147483648 := by
  have h1 := r.toInt_lt
  have h2 := r.le_toInt
  refine ⟨?_, by omega, by omega⟩
  rw [← a_wN, Int32.ofInt_toInt]
theorem a_WI (r : Int64) : qMn r = a_W r.toInt ∧ -9223372036854775808 ≤ r.toInt ∧ r.toInt < 9223372036854775808 := by
  have h1 := r.toInt_lt
  have h2 := r.le_toInt
  refine ⟨?_, by omega, by omega⟩
  rw [← a_WN, Int64.ofInt_toInt]
/-- Int compares that the kernel counts fast -/
def a_ile (a b : Int) : Bool := match b - a with
  | .ofNat _ => true
  | .negSucc _ => false
theorem a_ile_ok {a b : Int} : a_ile a b = true ↔ a ≤ b := by
  unfold a_ile
  cases h : b - a with
  | ofNat n => simp; have : (Int.ofNat n : Int) = n := rfl; omega
  | negSucc n => simp; have := Int.negSucc_lt_zero n; omega
theorem a_ile_no {a b : Int} (h : a_ile a b = false) : b < a := by
  by_cases h1 : a ≤ b
  · rw [a_ile_ok.mpr h1] at h; cases h
  · omega
def a_min (a b : Int) : Int := bif a_ile a b then a else b
def a_max (a b : Int) : Int := bif a_ile a b then b else a
theorem a_min_le {a b c : Int} (h1 : c ≤ a) (h2 : c ≤ b) : c ≤ a_min a b := by
  unfold a_min
  cases a_ile a b
  · exact h2
  · exact h1
theorem a_max_ge {a b c : Int} (h1 : a ≤ c) (h2 : b ≤ c) : a_max a b ≤ c := by
  unfold a_max
  cases a_ile a b
  · exact h1
  · exact h2
abbrev aT : Type := Nat × Int × Int
abbrev aG : Type := List (Nat × aT)
abbrev aSp : Type := Lean.RArray (Nat × Nat × aG)
def a_at (g : aG) (j : Nat) : aT := match g with
  | [] => (9, 0, 0)
  | q :: g => bif Nat.blt j q.1 then q.2 else a_at g j
/-- what a place of the heap may hold: 0 an int, 1 a long, both within bounds; 2 that cell; else anything -/
def a_vt (t : aT) (v : qV) : Prop := match t.1 with
  | 0 => ∃ x : Int, v = (0, a_w x) ∧ t.2.1 ≤ x ∧ x ≤ t.2.2
  | 1 => ∃ x : Int, v = (3, a_W x) ∧ t.2.1 ≤ x ∧ x ≤ t.2.2
  | 2 => v = (6, t.2.1.toNat)
  | _ => True
abbrev a_fd (h : qH) (c j : Nat) : qV := (h.1.get c).2.2.get j
abbrev a_ck (sp : aSp) (c : Nat) : Nat := (sp.get c).1
abbrev a_cl (sp : aSp) (c : Nat) : Nat := (sp.get c).2.1
abbrev a_ct (sp : aSp) (c j : Nat) : aT := a_at (sp.get c).2.2 j
/-- the picture that every call keeps -/
def a_HI (sp : aSp) (nc : Nat) (h : qH) : Prop := h.2 = nc ∧ nc ≤ 1024 ∧ ∀ c, c < nc → (h.1.get c).1 = a_ck sp c ∧ (h.1.get c).2.1 = a_cl sp c ∧ ∀ j, j < a_cl sp c → a_vt (a_ct sp c j) (a_fd h c j)
def a_inS (S : List (Nat × Nat × Nat)) (c j : Nat) : Bool := match S with
  | [] => false
  | r :: S => (Nat.beq r.1 c && (Nat.ble r.2.1 j && Nat.blt j r.2.2)) || a_inS S c j
/-- only what S names has changed -/
def a_Fr (sp : aSp) (nc : Nat) (S : List (Nat × Nat × Nat)) (h h' : qH) : Prop := ∀ c j, c < nc → j < a_cl sp c → a_inS S c j = false → a_fd h' c j = a_fd h c j
theorem a_Fr.rf {sp : aSp} {nc : Nat} {S : List (Nat × Nat × Nat)} {h : qH} : a_Fr sp nc S h h := fun _ _ _ _ _ => rfl
theorem a_Fr.tr {sp : aSp} {nc : Nat} {S : List (Nat × Nat × Nat)} {h h' h'' : qH} (h1 : a_Fr sp nc S h h') (h2 : a_Fr sp nc S h' h'') : a_Fr sp nc S h h'' := fun c j a b d => (h2 c j a b d).trans (h1 c j a b d)
theorem a_putg {h : qH} {c j : Nat} {x : qV} (hc : c < 1024) (hj : j < (h.1.get c).2.1) (i : Nat) (hi : i < 1024) : ((q_put h c j x).1.get i).1 = (h.1.get i).1 ∧ ((q_put h c j x).1.get i).2.1 = (h.1.get i).2.1 ∧ ∀ q, q < (h.1.get i).2.1 → a_fd (q_put h c j x) i q = if i = c ∧ q = j then x else a_fd h i q := by
  have e0 : (q_put h c j x).1.get i = if i = c then ((h.1.get c).1, (h.1.get c).2.1, q_ts x j (h.1.get c).2.2 0 (h.1.get c).2.1) else h.1.get i := q_ts_get _ c h.1 0 1024 i (Nat.zero_le _) hc (Nat.zero_le _) hi
  unfold a_fd
  rw [e0]
  by_cases e : i = c
  · subst e
    rw [if_pos rfl]
    refine ⟨rfl, rfl, fun q hq => ?_⟩
    show (q_ts x j (h.1.get i).2.2 0 (h.1.get i).2.1).get q = _
    rw [q_ts_get x j _ 0 _ q (Nat.zero_le _) hj (Nat.zero_le _) hq]
    by_cases e2 : q = j
    · rw [if_pos e2, if_pos ⟨rfl, e2⟩]
    · rw [if_neg e2, if_neg (fun z => e2 z.2)]
  · rw [if_neg e]
    exact ⟨rfl, rfl, fun q _ => by rw [if_neg (fun z => e z.1)]⟩
theorem a_HI.put {sp : aSp} {nc : Nat} {h : qH} {c j : Nat} {x : qV} (hh : a_HI sp nc h) (hc : c < nc) (hj : j < a_cl sp c) (hx : a_vt (a_ct sp c j) x) : a_HI sp nc (q_put h c j x) ∧ ∀ i q, i < nc → q < a_cl sp i → a_fd (q_put h c j x) i q = if i = c ∧ q = j then x else a_fd h i q := by
  obtain ⟨h1, h2, h3⟩ := hh
  have hcj : j < (h.1.get c).2.1 := by rw [(h3 c hc).2.1]; exact hj
  have g := fun i (hi : i < nc) => a_putg (h := h) (c := c) (j := j) (x := x) (by omega) hcj i (by omega)
  have g2 : ∀ i q, i < nc → q < a_cl sp i → a_fd (q_put h c j x) i q = if i = c ∧ q = j then x else a_fd h i q := fun i q hi hq => (g i hi).2.2 q (by rw [(h3 i hi).2.1]; exact hq)
  refine ⟨⟨h1, h2, fun i hi => ⟨(g i hi).1.trans (h3 i hi).1, (g i hi).2.1.trans (h3 i hi).2.1, fun q hq => ?_⟩⟩, g2⟩
  rw [g2 i q hi hq]
  by_cases e : i = c ∧ q = j
  · rw [if_pos e, e.1, e.2]; exact hx
  · rw [if_neg e]; exact (h3 i hi).2.2 q hq
/-- an abstract value: 1 an int, 4 a long (symbol, offset), 6 a cell, 7 null, 11 a text -/
abbrev aV : Type := Nat × Nat × Int
def a_V (σ : Nat → Int) (n : Nat) (a : aV) (v : qV) : Prop := match a.1 with
  | 1 => a.2.1 < n ∧ v = (0, a_w (σ a.2.1 + a.2.2)) ∧ -2147483648 ≤ σ a.2.1 + a.2.2 ∧ σ a.2.1 + a.2.2 < 2147483648
  | 4 => a.2.1 < n ∧ v = (3, a_W (σ a.2.1 + a.2.2)) ∧ -9223372036854775808 ≤ σ a.2.1 + a.2.2 ∧ σ a.2.1 + a.2.2 < 9223372036854775808
  | 6 => v = (6, a.2.1)
  | 7 => v = (7, 0)
  | 11 => v = (11, a.2.1)
  | _ => False
theorem a_V.ext {σ σ' : Nat → Int} {n n' : Nat} {a : aV} {v : qV} (h : a_V σ n a v) (hn : n ≤ n') (hs : ∀ i, i < n → σ' i = σ i) : a_V σ' n' a v := by
  obtain ⟨t, s, c⟩ := a
  unfold a_V at h ⊢
  split at h
  · obtain ⟨h1, h2, h3⟩ := h
    have e : σ' s = σ s := hs s h1
    have h1 : s < n := h1
    refine ⟨by show s < n'; omega, ?_⟩
    show v = (0, a_w (σ' s + c)) ∧ _ ≤ σ' s + c ∧ σ' s + c < _
    rw [e]
    exact ⟨h2, h3⟩
  · obtain ⟨h1, h2, h3⟩ := h
    have e : σ' s = σ s := hs s h1
    have h1 : s < n := h1
    refine ⟨by show s < n'; omega, ?_⟩
    show v = (3, a_W (σ' s + c)) ∧ _ ≤ σ' s + c ∧ σ' s + c < _
    rw [e]
    exact ⟨h2, h3⟩
  · exact h
  · exact h
  · exact h
  · exact h
def a_kd (a : aV) : Nat := match a.1 with
  | 1 => 0
  | 4 => 1
  | 6 => 2
  | 7 => 2
  | 11 => 2
  | _ => 9
def a_cat (a : aV) : Nat := bif Nat.beq a.1 4 then 2 else 1
theorem a_V.kd {σ : Nat → Int} {n : Nat} {a : aV} {v : qV} (h : a_V σ n a v) : q_knd v = a_kd a ∧ q_cat v = a_cat a := by
  obtain ⟨t, s, c⟩ := a
  unfold a_V at h
  split at h
  · rename_i ht
    have ht : t = 1 := ht
    subst ht
    rw [h.2.1]; exact ⟨rfl, rfl⟩
  · rename_i ht
    have ht : t = 4 := ht
    subst ht
    rw [h.2.1]; exact ⟨rfl, rfl⟩
  · rename_i ht
    have ht : t = 6 := ht
    subst ht
    rw [h]; exact ⟨rfl, rfl⟩
  · rename_i ht
    have ht : t = 7 := ht
    subst ht
    rw [h]; exact ⟨rfl, rfl⟩
  · rename_i ht
    have ht : t = 11 := ht
    subst ht
    rw [h]; exact ⟨rfl, rfl⟩
  · exact h.elim
/-- intervals of the symbols (0: the number 0), differences: (s, t, c) says s ≤ t + c -/
abbrev aE : Type := List (Int × Int) × List (Nat × Nat × Int)
def a_En (σ : Nat → Int) (E : aE) : Prop := σ 0 = 0 ∧ 0 < E.1.length ∧ (∀ (i : Nat) (p : Int × Int), E.1[i]? = some p → p.1 ≤ σ i ∧ σ i ≤ p.2) ∧ ∀ q ∈ E.2, q.1 < E.1.length ∧ q.2.1 < E.1.length ∧ σ q.1 ≤ σ q.2.1 + q.2.2
def a_iv (E : aE) (s : Nat) : Int × Int := E.1.getD s (0, 0)
theorem a_iv_ok {σ : Nat → Int} {E : aE} (h : a_En σ E) {s : Nat} (hs : s < E.1.length) : (a_iv E s).1 ≤ σ s ∧ σ s ≤ (a_iv E s).2 := by
  refine h.2.2.1 s _ ?_
  unfold a_iv
  rw [List.getD_eq_getElem?_getD, List.getElem?_eq_getElem hs]
  rfl
def a_ubf (E : aE) (s : Nat) : List (Nat × Nat × Int) → Int → Int
  | [], r => r
  | q :: C, r => a_ubf E s C (bif Nat.beq q.1 s then a_min r ((a_iv E q.2.1).2 + q.2.2) else r)
def a_lbf (E : aE) (s : Nat) : List (Nat × Nat × Int) → Int → Int
  | [], r => r
  | q :: C, r => a_lbf E s C (bif Nat.beq q.2.1 s then a_max r ((a_iv E q.1).1 - q.2.2) else r)
def a_ub (E : aE) (s : Nat) : Int := a_ubf E s E.2 (a_iv E s).2
def a_lb (E : aE) (s : Nat) : Int := a_lbf E s E.2 (a_iv E s).1
theorem a_ubf_ok {σ : Nat → Int} {E : aE} (h : a_En σ E) {s : Nat} : ∀ (C : List (Nat × Nat × Int)) (r : Int), (∀ q ∈ C, q ∈ E.2) → σ s ≤ r → σ s ≤ a_ubf E s C r
  | [], r, _, hr => hr
  | q :: C, r, hC, hr => by
    refine a_ubf_ok h C _ (fun x hx => hC x (List.mem_cons_of_mem _ hx)) ?_
    cases hb : Nat.beq q.1 s with
    | false => exact hr
    | true =>
      have e := Nat.eq_of_beq_eq_true hb
      obtain ⟨q1, q2, q3⟩ := h.2.2.2 q (hC q List.mem_cons_self)
      have := (a_iv_ok h q2).2
      rw [e] at q3
      exact a_min_le hr (by omega)
theorem a_lbf_ok {σ : Nat → Int} {E : aE} (h : a_En σ E) {s : Nat} : ∀ (C : List (Nat × Nat × Int)) (r : Int), (∀ q ∈ C, q ∈ E.2) → r ≤ σ s → a_lbf E s C r ≤ σ s
  | [], r, _, hr => hr
  | q :: C, r, hC, hr => by
    refine a_lbf_ok h C _ (fun x hx => hC x (List.mem_cons_of_mem _ hx)) ?_
    cases hb : Nat.beq q.2.1 s with
    | false => exact hr
    | true =>
      have e := Nat.eq_of_beq_eq_true hb
      obtain ⟨q1, q2, q3⟩ := h.2.2.2 q (hC q List.mem_cons_self)
      have := (a_iv_ok h q1).1
      rw [e] at q3
      exact a_max_ge hr (by omega)
theorem a_b_ok {σ : Nat → Int} {E : aE} (h : a_En σ E) {s : Nat} (hs : s < E.1.length) : a_lb E s ≤ σ s ∧ σ s ≤ a_ub E s :=
  ⟨a_lbf_ok h E.2 _ (fun _ q => q) (a_iv_ok h hs).1, a_ubf_ok h E.2 _ (fun _ q => q) (a_iv_ok h hs).2⟩
theorem a_set {σ : Nat → Int} {E : aE} (h : a_En σ E) {s : Nat} {p : Int × Int} (hp : p.1 ≤ σ s ∧ σ s ≤ p.2) : a_En σ (E.1.set s p, E.2) := by
  obtain ⟨h0, h1, h2, h3⟩ := h
  refine ⟨h0, by show 0 < (E.1.set s p).length; rw [List.length_set]; exact h1, fun i q hi => ?_, fun q hq => ?_⟩
  · have hi : (E.1.set s p)[i]? = some q := hi
    by_cases e : s = i
    · subst e
      rw [List.getElem?_set] at hi
      simp only [if_true] at hi
      split at hi
      · cases hi; exact hp
      · cases hi
    · rw [List.getElem?_set_ne e] at hi
      exact h2 i q hi
  · obtain ⟨a, b, c⟩ := h3 q hq
    refine ⟨?_, ?_, c⟩
    · show q.1 < (E.1.set s p).length; rw [List.length_set]; exact a
    · show q.2.1 < (E.1.set s p).length; rw [List.length_set]; exact b
/-- E where s + c ≤ t + d is taken as known; none if it can't be -/
def a_le (E : aE) (s : Nat) (c : Int) (t : Nat) (d : Int) : Option aE :=
  bif Nat.beq s t then (bif a_ile c d then some E else none)
  else bif a_ile (a_lb E s + c) (a_ub E t + d) then
    some ((E.1.set s ((a_iv E s).1, a_min (a_iv E s).2 (a_ub E t + d - c))).set t (a_max (a_iv E t).1 (a_lb E s + c - d), (a_iv E t).2), bif Nat.beq s 0 || Nat.beq t 0 then E.2 else (s, t, d - c) :: E.2)
  else none
theorem a_le_ok {σ : Nat → Int} {E : aE} (h : a_En σ E) {s t : Nat} {c d : Int} (hs : s < E.1.length) (ht : t < E.1.length) (hle : σ s + c ≤ σ t + d) : ∃ E', a_le E s c t d = some E' ∧ a_En σ E' ∧ E'.1.length = E.1.length := by
  unfold a_le
  cases hb : Nat.beq s t with
  | true =>
    have e := Nat.eq_of_beq_eq_true hb
    subst e
    rw [a_ile_ok.mpr (by omega)]
    exact ⟨E, rfl, h, rfl⟩
  | false =>
    have hne : s ≠ t := fun e => by rw [e, Nat.beq_refl] at hb; cases hb
    obtain ⟨l1, u1⟩ := a_b_ok h hs
    obtain ⟨l2, u2⟩ := a_b_ok h ht
    obtain ⟨i1, i2⟩ := a_iv_ok h hs
    obtain ⟨i3, i4⟩ := a_iv_ok h ht
    rw [show a_ile (a_lb E s + c) (a_ub E t + d) = true from a_ile_ok.mpr (by omega)]
    have h1 := a_set h (s := s) (p := ((a_iv E s).1, a_min (a_iv E s).2 (a_ub E t + d - c))) ⟨i1, a_min_le i2 (by omega)⟩
    have h2 := a_set h1 (s := t) (p := (a_max (a_iv E t).1 (a_lb E s + c - d), (a_iv E t).2)) ⟨a_max_ge i3 (by omega), i4⟩
    refine ⟨_, rfl, ?_, by show ((E.1.set s _).set t _).length = _; rw [List.length_set, List.length_set]⟩
    cases (Nat.beq s 0 || Nat.beq t 0) with
    | true => exact h2
    | false =>
      obtain ⟨z0, z1, z2, z3⟩ := h2
      refine ⟨z0, z1, z2, fun q hq => ?_⟩
      rcases List.mem_cons.mp hq with rfl | hq
      · refine ⟨?_, ?_, by show σ s ≤ σ t + (d - c); omega⟩
        · show s < ((E.1.set s _).set t _).length; rw [List.length_set, List.length_set]; exact hs
        · show t < ((E.1.set s _).set t _).length; rw [List.length_set, List.length_set]; exact ht
      · exact z3 q hq
/-- one symbol more -/
def a_add (E : aE) (lo hi : Int) (C : List (Nat × Nat × Int)) : aE := (E.1 ++ [(lo, hi)], C ++ E.2)
def a_up (σ : Nat → Int) (n : Nat) (x : Int) : Nat → Int := fun i => if i = n then x else σ i
theorem a_add_ok {σ : Nat → Int} {E : aE} (h : a_En σ E) {lo hi x : Int} (h1 : lo ≤ x) (h2 : x ≤ hi) {C : List (Nat × Nat × Int)} (hC : ∀ q ∈ C, q.1 ≤ E.1.length ∧ q.2.1 ≤ E.1.length ∧ a_up σ E.1.length x q.1 ≤ a_up σ E.1.length x q.2.1 + q.2.2) : a_En (a_up σ E.1.length x) (a_add E lo hi C) := by
  obtain ⟨z0, z1, z2, z3⟩ := h
  have old : ∀ i, i < E.1.length → a_up σ E.1.length x i = σ i := fun i hi => if_neg (by omega)
  have hl : (E.1 ++ [(lo, hi)]).length = E.1.length + 1 := by rw [List.length_append]; rfl
  refine ⟨by rw [old 0 z1]; exact z0, by show 0 < (E.1 ++ [(lo, hi)]).length; omega, fun i p hp => ?_, fun q hq => ?_⟩
  · have hp : (E.1 ++ [(lo, hi)])[i]? = some p := hp
    have hil := (List.getElem?_eq_some_iff.mp hp).1
    by_cases e : i = E.1.length
    · subst e
      rw [List.getElem?_append_right (Nat.le_refl _), Nat.sub_self] at hp
      cases hp
      have e2 : a_up σ E.1.length x E.1.length = x := if_pos rfl
      rw [e2]
      exact ⟨h1, h2⟩
    · rw [List.getElem?_append_left (by omega)] at hp
      rw [old i (by omega)]
      exact z2 i p hp
  · show q.1 < (E.1 ++ [(lo, hi)]).length ∧ q.2.1 < (E.1 ++ [(lo, hi)]).length ∧ _
    rw [hl]
    rcases List.mem_append.mp hq with hq | hq
    · obtain ⟨a, b, c⟩ := hC q hq
      exact ⟨by omega, by omega, c⟩
    · obtain ⟨a, b, c⟩ := z3 q hq
      rw [old _ a, old _ b]
      exact ⟨by omega, by omega, c⟩
theorem a_up_old {σ : Nat → Int} {n : Nat} {x : Int} : ∀ i, i < n → a_up σ n x i = σ i := fun i hi => if_neg (by omega)
theorem a_up_new {σ : Nat → Int} {n : Nat} {x : Int} : a_up σ n x n = x := if_pos rfl
theorem a_add_len {E : aE} {lo hi : Int} {C : List (Nat × Nat × Int)} : (a_add E lo hi C).1.length = E.1.length + 1 := by
  show (E.1 ++ [(lo, hi)]).length = _
  rw [List.length_append]; rfl
-- compares
def a_opI (o : Nat) (x y : Int) : Bool := match o with
  | 0 => decide (x = y)
  | 1 => !decide (x = y)
  | 2 => decide (x < y)
  | 3 => !decide (x < y)
  | 4 => decide (y < x)
  | _ => !decide (y < x)
theorem a_op_I {o : Nat} {x y : Int} (h1 : -2147483648 ≤ x) (h2 : x < 2147483648) (h3 : -2147483648 ≤ y) (h4 : y < 2147483648) : q_op o (qI (a_w x)) (qI (a_w y)) = a_opI o x y := by
  have e1 := a_qIt h1 h2
  have e2 := a_qIt h3 h4
  have ee : qI (a_w x) = qI (a_w y) ↔ x = y := by rw [← Int32.toInt_inj, e1, e2]
  have el : qI (a_w x) < qI (a_w y) ↔ x < y := by rw [Int32.lt_iff_toInt_lt, e1, e2]
  have eg : qI (a_w y) < qI (a_w x) ↔ y < x := by rw [Int32.lt_iff_toInt_lt, e1, e2]
  rcases o with _ | _ | _ | _ | _ | o
  · exact decide_eq_decide.mpr ee
  · exact congrArg not (decide_eq_decide.mpr ee)
  · exact decide_eq_decide.mpr el
  · exact congrArg not (decide_eq_decide.mpr el)
  · exact decide_eq_decide.mpr eg
  · exact congrArg not (decide_eq_decide.mpr eg)
def a_o (b : Bool) (o : Option aE) : List (Bool × aE) := match o with
  | none => []
  | some E => [(b, E)]
def a_eqs (E : aE) (s : Nat) (c : Int) (t : Nat) (d : Int) (b : Bool) : List (Bool × aE) := match a_le E s c t d with
  | none => []
  | some E1 => a_o b (a_le E1 t d s c)
def a_cmp (o : Nat) (E : aE) (s : Nat) (c : Int) (t : Nat) (d : Int) : List (Bool × aE) := match o with
  | 0 => a_eqs E s c t d true ++ (a_o false (a_le E s (c + 1) t d) ++ a_o false (a_le E t (d + 1) s c))
  | 1 => a_eqs E s c t d false ++ (a_o true (a_le E s (c + 1) t d) ++ a_o true (a_le E t (d + 1) s c))
  | 2 => a_o true (a_le E s (c + 1) t d) ++ a_o false (a_le E t d s c)
  | 3 => a_o false (a_le E s (c + 1) t d) ++ a_o true (a_le E t d s c)
  | 4 => a_o true (a_le E t (d + 1) s c) ++ a_o false (a_le E s c t d)
  | _ => a_o false (a_le E t (d + 1) s c) ++ a_o true (a_le E s c t d)
theorem a_o_ok {σ : Nat → Int} {E : aE} (h : a_En σ E) {s t : Nat} {c d : Int} (hs : s < E.1.length) (ht : t < E.1.length) (hle : σ s + c ≤ σ t + d) (b : Bool) : ∃ q ∈ a_o b (a_le E s c t d), q.1 = b ∧ a_En σ q.2 ∧ q.2.1.length = E.1.length := by
  obtain ⟨E', h1, h2, h3⟩ := a_le_ok h hs ht hle
  rw [h1]
  exact ⟨(b, E'), List.mem_singleton.mpr rfl, rfl, h2, h3⟩
theorem a_eqs_ok {σ : Nat → Int} {E : aE} (h : a_En σ E) {s t : Nat} {c d : Int} (hs : s < E.1.length) (ht : t < E.1.length) (he : σ s + c = σ t + d) (b : Bool) : ∃ q ∈ a_eqs E s c t d b, q.1 = b ∧ a_En σ q.2 ∧ q.2.1.length = E.1.length := by
  unfold a_eqs
  obtain ⟨E', h1, h2, h3⟩ := a_le_ok h hs ht (c := c) (d := d) (by omega)
  rw [h1]
  obtain ⟨q, g1, g2, g3, g4⟩ := a_o_ok h2 (s := t) (t := s) (c := d) (d := c) (by omega) (by omega) (by omega) b
  exact ⟨q, g1, g2, g3, by omega⟩
theorem a_cmp_ok {σ : Nat → Int} {E : aE} (h : a_En σ E) (o : Nat) {s t : Nat} {c d : Int} (hs : s < E.1.length) (ht : t < E.1.length) : ∃ q ∈ a_cmp o E s c t d, q.1 = a_opI o (σ s + c) (σ t + d) ∧ a_En σ q.2 ∧ q.2.1.length = E.1.length := by
  have L : ∀ {A B : List (Bool × aE)} {b r : Bool}, b = r → (∃ q ∈ A, q.1 = b ∧ a_En σ q.2 ∧ q.2.1.length = E.1.length) → ∃ q ∈ A ++ B, q.1 = r ∧ a_En σ q.2 ∧ q.2.1.length = E.1.length := fun e ⟨q, h1, h2⟩ => ⟨q, List.mem_append_left _ h1, by rw [← e]; exact h2⟩
  have R : ∀ {A B : List (Bool × aE)} {b r : Bool}, b = r → (∃ q ∈ B, q.1 = b ∧ a_En σ q.2 ∧ q.2.1.length = E.1.length) → ∃ q ∈ A ++ B, q.1 = r ∧ a_En σ q.2 ∧ q.2.1.length = E.1.length := fun e ⟨q, h1, h2⟩ => ⟨q, List.mem_append_right _ h1, by rw [← e]; exact h2⟩
  have T : ∀ {p : Prop} [Decidable p], p → true = decide p := fun hp => (decide_eq_true hp).symm
  have F : ∀ {p : Prop} [Decidable p], ¬ p → false = decide p := fun hp => (decide_eq_false hp).symm
  have NT : ∀ {p : Prop} [Decidable p], ¬ p → true = !decide p := fun hp => by rw [decide_eq_false hp]; rfl
  have NF : ∀ {p : Prop} [Decidable p], p → false = !decide p := fun hp => by rw [decide_eq_true hp]; rfl
  rcases o with _ | _ | _ | _ | _ | o
  · rcases Int.lt_trichotomy (σ s + c) (σ t + d) with g | g | g
    · exact R rfl (L (F (by omega)) (a_o_ok h hs ht (by omega) false))
    · exact L (T g) (a_eqs_ok h hs ht g true)
    · exact R rfl (R (F (by omega)) (a_o_ok h ht hs (by omega) false))
  · rcases Int.lt_trichotomy (σ s + c) (σ t + d) with g | g | g
    · exact R rfl (L (NT (by omega)) (a_o_ok h hs ht (by omega) true))
    · exact L (NF g) (a_eqs_ok h hs ht g false)
    · exact R rfl (R (NT (by omega)) (a_o_ok h ht hs (by omega) true))
  · by_cases g : σ s + c < σ t + d
    · exact L (T g) (a_o_ok h hs ht (by omega) true)
    · exact R (F g) (a_o_ok h ht hs (by omega) false)
  · by_cases g : σ s + c < σ t + d
    · exact L (NF g) (a_o_ok h hs ht (by omega) false)
    · exact R (NT g) (a_o_ok h ht hs (by omega) true)
  · by_cases g : σ t + d < σ s + c
    · exact L (T g) (a_o_ok h ht hs (by omega) true)
    · exact R (F g) (a_o_ok h hs ht (by omega) false)
  · by_cases g : σ t + d < σ s + c
    · exact L (NF g) (a_o_ok h ht hs (by omega) false)
    · exact R (NT g) (a_o_ok h hs ht (by omega) true)
