-- 11.heap: branches, fields, arrays
theorem a_lgc (a b : Int64) : lg_cmp a b = if b.toInt < a.toInt then 1 else if a.toInt = b.toInt then 0 else -1 := by
  unfold lg_cmp
  by_cases h1 : b.toInt < a.toInt
  · rw [if_pos h1, if_pos (Int64.lt_iff_toInt_lt.mpr h1)]
  · rw [if_neg h1, if_neg (fun q => h1 (Int64.lt_iff_toInt_lt.mp q))]
    by_cases h2 : a.toInt = b.toInt
    · rw [if_pos h2, if_pos (Int64.toInt_inj.mp h2)]
    · rw [if_neg h2, if_neg (fun q => h2 (by rw [q]))]
noncomputable def a_kf (K : aK) (c j : Nat) : Option aV := @List.rec ((Nat × Nat) × aV) (fun _ => Option aV) none (fun q _ ih => @Bool.rec (fun _ => Option aV) ih (@Bool.rec (fun _ => Option aV) ih (some q.2) (Nat.beq q.1.2 j)) (Nat.beq q.1.1 c)) K
theorem a_kf_c {K : aK} {q : (Nat × Nat) × aV} {c j : Nat} : a_kf (q :: K) c j = (bif Nat.beq q.1.1 c && Nat.beq q.1.2 j then some q.2 else a_kf K c j) := by
  show @Bool.rec (fun _ => Option aV) (a_kf K c j) (@Bool.rec (fun _ => Option aV) (a_kf K c j) (some q.2) (Nat.beq q.1.2 j)) (Nat.beq q.1.1 c) = _
  cases Nat.beq q.1.1 c <;> cases Nat.beq q.1.2 j <;> rfl
theorem a_kf_mem {c j : Nat} {a : aV} : ∀ {K : aK}, a_kf K c j = some a → ((c, j), a) ∈ K
  | [], h => by cases h
  | q :: K, h => by
    rw [a_kf_c] at h
    cases hb : (Nat.beq q.1.1 c && Nat.beq q.1.2 j) with
    | true =>
      rw [hb] at h
      cases h
      rw [Bool.and_eq_true] at hb
      have e1 := Nat.eq_of_beq_eq_true hb.1
      have e2 := Nat.eq_of_beq_eq_true hb.2
      rw [← e1, ← e2]
      exact List.mem_cons_self
    | false =>
      rw [hb] at h
      exact List.mem_cons_of_mem _ (a_kf_mem h)
/-- without the places lo .. hi of the cell c, and the facts that speak of them -/
noncomputable def a_krm (sp : aSp) (c lo hi : Nat) : aK → aK
  | [] => []
  | q :: K => bif (bif a_t12 q.2 then !(a_dj (a_dep sp q.2.2.1 q.1.1) c c lo hi) else Nat.beq q.1.1 c && (Nat.ble lo q.1.2 && Nat.ble q.1.2 hi)) then a_krm sp c lo hi K else q :: a_krm sp c lo hi K
theorem a_krm_ok {sp : aSp} {nc : Nat} {σ : Nat → Int} {n c lo hi : Nat} {h h' : qH} (hf : ∀ i j, i < nc → j < a_cl sp i → ¬ (i = c ∧ lo ≤ j ∧ j ≤ hi) → a_fd h' i j = a_fd h i j) : ∀ {K : aK}, a_Kn sp nc σ n K h → a_Kn sp nc σ n (a_krm sp c lo hi K) h'
  | [], _ => fun q hq => by cases hq
  | p :: K, hK => fun q hq => by
    have ih := a_krm_ok hf (K := K) (fun x hx => hK x (List.mem_cons_of_mem _ hx))
    unfold a_krm at hq
    cases hb : (bif a_t12 p.2 then !(a_dj (a_dep sp p.2.2.1 p.1.1) c c lo hi) else Nat.beq p.1.1 c && (Nat.ble lo p.1.2 && Nat.ble p.1.2 hi)) with
    | true =>
      rw [hb] at hq
      exact ih q hq
    | false =>
      rw [hb] at hq
      rcases List.mem_cons.mp hq with rfl | hq
      · have hp := hK q List.mem_cons_self
        obtain ⟨h0, ⟨k1, k2⟩ | ⟨k1, k2, k3, k4⟩⟩ := hp
        · refine ⟨h0, Or.inl ⟨k1, ?_⟩⟩
          rw [hf _ _ h0 k1 (fun ⟨e1, e2, e3⟩ => ?_)]
          · exact k2
          · have t : a_t12 q.2 = false := by
              cases ht : a_t12 q.2 with
              | false => rfl
              | true => exact absurd (Nat.eq_of_beq_eq_true ht) (a_V12 k2)
            rw [t] at hb
            have hb : (Nat.beq q.1.1 c && (Nat.ble lo q.1.2 && Nat.ble q.1.2 hi)) = false := hb
            rw [q_beq, q_ble, q_ble, decide_eq_true e1, decide_eq_true e2, decide_eq_true e3] at hb
            cases hb
        · have t : a_t12 q.2 = true := by
            show Nat.beq q.2.1 12 = true
            rw [k2]; rfl
          rw [t] at hb
          have hb : (!(a_dj (a_dep sp q.2.2.1 q.1.1) c c lo hi)) = false := hb
          rw [Bool.not_eq_false'] at hb
          refine ⟨h0, Or.inr ⟨k1, k2, k3, a_PF_fr h0 (fun i j hi hj hin => hf i j hi hj (fun ⟨e1, e2, e3⟩ => ?_)) k4⟩⟩
          rw [a_dj_ok (Nat.le_of_eq e1.symm) (Nat.le_of_eq e1) e2 e3 hb] at hin
          cases hin
      · exact ih q hq
/-- what a place is read as -/
noncomputable def a_rt (t : aT) (E : aE) : Option (aE × aV) := match t.1 with
  | 0 => bif a_ile (-2147483648) t.2.1 && a_ile t.2.2 2147483647 then some (a_fr 1 E t.2.1 t.2.2) else none
  | 1 => bif a_ile (-9223372036854775808) t.2.1 && a_ile t.2.2 9223372036854775807 then some (a_fr 4 E t.2.1 t.2.2) else none
  | 2 => some (E, (6, t.2.1.toNat, a_cn 0))
  | _ => none
theorem a_rt_ok {σ : Nat → Int} {E : aE} (hE : a_En σ E) {t : aT} {v : qV} (hv : a_vt t v) {r : aE × aV} (hr : a_rt t E = some r) : ∃ σ', (∀ i, i < a_n E → σ' i = σ i) ∧ a_n E ≤ a_n r.1 ∧ a_En σ' r.1 ∧ a_V σ' (a_n r.1) r.2 v := by
  obtain ⟨k, lo, hi⟩ := t
  rcases k with _ | _ | _ | k
  · obtain ⟨hc, hr⟩ := q_bt hr
    cases hr
    obtain ⟨x, rfl, h1, h2⟩ := hv
    rw [Bool.and_eq_true] at hc
    have c1 := a_ile_ok.mp hc.1
    have c2 := a_ile_ok.mp hc.2
    have c1 : -2147483648 ≤ lo := c1
    have c2 : hi ≤ 2147483647 := c2
    have h1 : lo ≤ x := h1
    have h2 : x ≤ hi := h2
    have e : (Int32.ofInt x).toInt = x := by rw [← a_qI]; exact a_qIt (by omega) (by omega)
    have := a_frI_ok hE (lo := lo) (hi := hi) (z := Int32.ofInt x) (by rw [e]; exact h1) (by rw [e]; exact h2)
    unfold a_rI at this
    rw [a_wN] at this
    exact this
  · obtain ⟨hc, hr⟩ := q_bt hr
    cases hr
    obtain ⟨x, rfl, h1, h2⟩ := hv
    rw [Bool.and_eq_true] at hc
    have c1 := a_ile_ok.mp hc.1
    have c2 := a_ile_ok.mp hc.2
    have c1 : -9223372036854775808 ≤ lo := c1
    have c2 : hi ≤ 9223372036854775807 := c2
    have h1 : lo ≤ x := h1
    have h2 : x ≤ hi := h2
    have e : (Int64.ofInt x).toInt = x := by rw [← a_qJ]; exact a_qJt (by omega) (by omega)
    have := a_frJ_ok hE (lo := lo) (hi := hi) (z := Int64.ofInt x) (by rw [e]; exact h1) (by rw [e]; exact h2)
    unfold a_rJ at this
    rw [a_WN] at this
    exact this
  · cases hr
    have hv : v = (6, lo.toNat) := hv
    exact ⟨σ, fun _ _ => rfl, Nat.le_refl _, hE, hv⟩
  · cases hr
noncomputable def a_rd (sp : aSp) (E : aE) (K : aK) (c j : Nat) : Option (aE × aK × aV) := match a_kf K c j with
  | some a => some (E, K, a)
  | none => (match a_rt (a_ct sp c j) E with
    | none => none
    | some r => some (r.1, ((c, j), r.2) :: K, r.2))
theorem a_rd_ok {sp : aSp} {nc : Nat} {σ : Nat → Int} {E : aE} {K : aK} {h : qH} {c j : Nat} (hE : a_En σ E) (hh : a_HI sp nc h) (hK : a_Kn sp nc σ (a_n E) K h) (hc : c < nc) (hj : j < a_cl sp c) {r : aE × aK × aV} (hr : a_rd sp E K c j = some r) :
    ∃ σ', (∀ i, i < a_n E → σ' i = σ i) ∧ a_n E ≤ a_n r.1 ∧ a_En σ' r.1 ∧ a_Kn sp nc σ' (a_n r.1) r.2.1 h ∧ a_V σ' (a_n r.1) r.2.2 (a_fd h c j) := by
  unfold a_rd at hr
  split at hr
  · rename_i a ha
    cases hr
    exact ⟨σ, fun _ _ => rfl, Nat.le_refl _, hE, hK, (hK _ (a_kf_mem ha)).lo hj⟩
  · split at hr
    · cases hr
    · rename_i r2 hr2
      cases hr
      obtain ⟨σ', h1, h2, h3, h4⟩ := a_rt_ok hE ((hh.2.2 c hc).2.2 j hj) hr2
      refine ⟨σ', h1, h2, h3, fun q hq => ?_, h4⟩
      rcases List.mem_cons.mp hq with rfl | hq
      · exact ⟨hc, Or.inl ⟨hj, h4⟩⟩
      · exact hK.ext h2 h1 q hq
/-- may this value stand at such a place -/
noncomputable def a_fit (t : aT) (E : aE) (a : aV) : Bool := match t.1 with
  | 0 => Nat.beq a.1 1 && (a_ge E a.2.2 t.2.1 && a_lef E a.2.2 t.2.2)
  | 1 => Nat.beq a.1 4 && (a_ge E a.2.2 t.2.1 && a_lef E a.2.2 t.2.2)
  | 2 => Nat.beq a.1 6 && Nat.beq a.2.1 t.2.1.toNat
  | _ => true
theorem a_fit_ok {σ : Nat → Int} {E : aE} (hE : a_En σ E) {t : aT} {a : aV} {v : qV} (ha : a_V σ (a_n E) a v) (hf : a_fit t E a = true) : a_vt t v := by
  obtain ⟨k, lo, hi⟩ := t
  obtain ⟨g, s, f⟩ := a
  rcases k with _ | _ | _ | k
  · have hf : (Nat.beq g 1 && (a_ge E f lo && a_lef E f hi)) = true := hf
    simp only [Bool.and_eq_true] at hf
    have e := Nat.eq_of_beq_eq_true hf.1
    subst e
    obtain ⟨wf, rfl, r1, r2⟩ := a_V1 ha
    exact ⟨a_ev σ f, rfl, a_ge_ok hE wf hf.2.1, a_lef_ok hE wf hf.2.2⟩
  · have hf : (Nat.beq g 4 && (a_ge E f lo && a_lef E f hi)) = true := hf
    simp only [Bool.and_eq_true] at hf
    have e := Nat.eq_of_beq_eq_true hf.1
    subst e
    obtain ⟨wf, rfl, r1, r2⟩ := a_V4 ha
    exact ⟨a_ev σ f, rfl, a_ge_ok hE wf hf.2.1, a_lef_ok hE wf hf.2.2⟩
  · have hf : (Nat.beq g 6 && Nat.beq s lo.toNat) = true := hf
    rw [Bool.and_eq_true] at hf
    have e := Nat.eq_of_beq_eq_true hf.1
    have e2 := Nat.eq_of_beq_eq_true hf.2
    subst e
    have ha : v = (6, s) := ha
    show v = (6, lo.toNat)
    rw [ha, e2]
  · trivial
noncomputable def a_fty (ty : Nat) (E : aE) (a : aV) : Bool := match ty with
  | 0 => Nat.beq (a_kd a) 0
  | 1 => Nat.beq a.1 1 && (a_ge E a.2.2 0 && a_lef E a.2.2 1)
  | 2 => Nat.beq (a_kd a) 1
  | _ => Nat.beq (a_kd a) 2
theorem a_fty_ok {σ : Nat → Int} {E : aE} (hE : a_En σ E) {ty : Nat} {a : aV} {v : qV} (ha : a_V σ (a_n E) a v) (hf : a_fty ty E a = true) : q_fit ty v = true := by
  rcases ty with _ | _ | _ | ty
  · show Nat.beq (q_knd v) 0 = true
    rw [ha.kd.1]; exact hf
  · obtain ⟨g, s, f⟩ := a
    have hf : (Nat.beq g 1 && (a_ge E f 0 && a_lef E f 1)) = true := hf
    simp only [Bool.and_eq_true] at hf
    have e := Nat.eq_of_beq_eq_true hf.1
    subst e
    obtain ⟨wf, rfl, r1, r2⟩ := a_V1 ha
    have h1 := a_ge_ok hE wf hf.2.1
    have h2 := a_lef_ok hE wf hf.2.2
    show (true && Nat.ble (a_w (a_ev σ f)) 1) = true
    rw [q_ble]
    have : a_w (a_ev σ f) ≤ 1 := by unfold a_w; omega
    rw [decide_eq_true this]; rfl
  · show Nat.beq (q_knd v) 1 = true
    rw [ha.kd.1]; exact hf
  · show Nat.beq (q_knd v) 2 = true
    rw [ha.kd.1]; exact hf
/-- S names all of lo .. hi of the cells c .. d -/
noncomputable def a_inR (S : aW) (c d lo hi : Nat) : Bool := match S with
  | [] => false
  | r :: S => (Nat.ble r.1 c && (Nat.ble d r.2.1 && (Nat.ble r.2.2.1 lo && Nat.blt hi r.2.2.2))) || a_inR S c d lo hi
theorem a_inR_ok {c d x lo hi j : Nat} (h1 : lo ≤ j) (h2 : j ≤ hi) (h3 : c ≤ x) (h4 : x ≤ d) : ∀ {S : aW}, a_inR S c d lo hi = true → a_inS S x j = true
  | [], h => by cases h
  | r :: S, h => by
    unfold a_inR at h
    unfold a_inS
    rw [Bool.or_eq_true] at h ⊢
    rcases h with h | h
    · refine Or.inl ?_
      simp only [Bool.and_eq_true, q_ble, q_blt, decide_eq_true_eq] at h ⊢
      exact ⟨by omega, by omega, by omega, by omega⟩
    · exact Or.inr (a_inR_ok h1 h2 h3 h4 h)
/-- the hull of what lo .. hi may hold -/
noncomputable def a_un2 (u : aT) (o : Option aT) : Option aT := match o with
  | none => none
  | some t => bif Nat.beq u.1 t.1 && Nat.ble t.1 1 then some (t.1, a_min u.2.1 t.2.1, a_max u.2.2 t.2.2) else none
noncomputable def a_unl (hi : Nat) (g : aG) : Nat → Option aT := @List.rec (Nat × aT) (fun _ => Nat → Option aT) (fun _ => none) (fun q _ ih lo => @Bool.rec (fun _ => Option aT) (@Bool.rec (fun _ => Option aT) (a_un2 q.2 (ih q.1)) (ih lo) (Nat.ble q.1 lo)) (some q.2) (Nat.ble (Nat.succ hi) q.1)) g
noncomputable def a_un (g : aG) (lo hi : Nat) : Option aT := a_unl hi g lo
theorem a_un_c {g : aG} {q : Nat × aT} {lo hi : Nat} : a_un (q :: g) lo hi = (bif Nat.blt hi q.1 then some q.2 else bif Nat.ble q.1 lo then a_un g lo hi else (match a_un g q.1 hi with
    | none => none
    | some t => bif Nat.beq q.2.1 t.1 && Nat.ble t.1 1 then some (t.1, a_min q.2.2.1 t.2.1, a_max q.2.2.2 t.2.2) else none)) := by
  show @Bool.rec (fun _ => Option aT) (@Bool.rec (fun _ => Option aT) (a_un2 q.2 (a_un g q.1 hi)) (a_un g lo hi) (Nat.ble q.1 lo)) (some q.2) (Nat.blt hi q.1) = _
  rw [a_rb, a_rb]
  cases a_un g q.1 hi <;> rfl
theorem a_vt.wide {k : Nat} (hk : k ≤ 1) {lo hi lo2 hi2 : Int} {v : qV} (h : a_vt (k, lo, hi) v) (h1 : lo2 ≤ lo) (h2 : hi ≤ hi2) : a_vt (k, lo2, hi2) v := by
  rcases k with _ | _ | k
  · obtain ⟨x, hx, l, u⟩ := h
    exact ⟨x, hx, Int.le_trans h1 l, Int.le_trans u h2⟩
  · obtain ⟨x, hx, l, u⟩ := h
    exact ⟨x, hx, Int.le_trans h1 l, Int.le_trans u h2⟩
  · omega
theorem a_un_ok {j : Nat} {v : qV} : ∀ {g : aG} {lo hi : Nat} {t : aT}, a_un g lo hi = some t → lo ≤ j → j ≤ hi → a_vt (a_at g j) v → a_vt t v
  | [], _, _, _, h, _, _, _ => by cases h
  | q :: g, lo, hi, t, h, h1, h2, hv => by
    rw [a_un_c] at h
    rw [a_at_c] at hv
    cases hb : Nat.blt hi q.1 with
    | true =>
      rw [hb] at h
      cases h
      rw [q_blt] at hb
      have hb := of_decide_eq_true hb
      rw [show Nat.blt j q.1 = true by rw [q_blt]; exact decide_eq_true (by omega)] at hv
      exact hv
    | false =>
      rw [hb] at h
      cases hb2 : Nat.ble q.1 lo with
      | true =>
        rw [hb2] at h
        rw [q_ble] at hb2
        have hb2 := of_decide_eq_true hb2
        rw [show Nat.blt j q.1 = false by rw [q_blt]; exact decide_eq_false (by omega)] at hv
        exact a_un_ok (g := g) h h1 h2 hv
      | false =>
        rw [hb2] at h
        have h : (match a_un g q.1 hi with
          | none => none
          | some t => bif Nat.beq q.2.1 t.1 && Nat.ble t.1 1 then some (t.1, a_min q.2.2.1 t.2.1, a_max q.2.2.2 t.2.2) else none) = some t := h
        split at h
        · cases h
        · rename_i t2 ht2
          obtain ⟨hc, h⟩ := q_bt h
          cases h
          rw [Bool.and_eq_true, q_ble] at hc
          have e := Nat.eq_of_beq_eq_true hc.1
          have hk := of_decide_eq_true hc.2
          have mi1 : a_min q.2.2.1 t2.2.1 ≤ q.2.2.1 := by unfold a_min; cases hx : a_ile q.2.2.1 t2.2.1 with
            | true => exact Int.le_refl _
            | false => exact Int.le_of_lt (a_ile_no hx)
          have mi2 : a_min q.2.2.1 t2.2.1 ≤ t2.2.1 := by unfold a_min; cases hx : a_ile q.2.2.1 t2.2.1 with
            | true => exact a_ile_ok.mp hx
            | false => exact Int.le_refl _
          have ma1 : q.2.2.2 ≤ a_max q.2.2.2 t2.2.2 := by unfold a_max; cases hx : a_ile q.2.2.2 t2.2.2 with
            | true => exact a_ile_ok.mp hx
            | false => exact Int.le_refl _
          have ma2 : t2.2.2 ≤ a_max q.2.2.2 t2.2.2 := by unfold a_max; cases hx : a_ile q.2.2.2 t2.2.2 with
            | true => exact Int.le_refl _
            | false => exact Int.le_of_lt (a_ile_no hx)
          cases hb3 : Nat.blt j q.1 with
          | true =>
            rw [hb3] at hv
            have hv : a_vt (q.2.1, q.2.2.1, q.2.2.2) v := hv
            rw [e] at hv
            exact hv.wide hk mi1 ma1
          | false =>
            rw [hb3] at hv
            rw [q_blt] at hb3
            have hb3 := of_decide_eq_false hb3
            have hv2 : a_vt (t2.1, t2.2.1, t2.2.2) v := a_un_ok (g := g) ht2 (by omega) h2 hv
            exact hv2.wide hk mi2 ma2
/-- all of lo .. hi may hold it -/
noncomputable def a_fal (hi : Nat) (E : aE) (a : aV) (g : aG) : Nat → Bool := @List.rec (Nat × aT) (fun _ => Nat → Bool) (fun _ => false) (fun q _ ih lo => @Bool.rec (fun _ => Bool) (@Bool.rec (fun _ => Bool) (a_fit q.2 E a && ih q.1) (ih lo) (Nat.ble q.1 lo)) (a_fit q.2 E a) (Nat.ble (Nat.succ hi) q.1)) g
noncomputable def a_fa (g : aG) (lo hi : Nat) (E : aE) (a : aV) : Bool := a_fal hi E a g lo
theorem a_fa_c {g : aG} {q : Nat × aT} {lo hi : Nat} {E : aE} {a : aV} : a_fa (q :: g) lo hi E a = (bif Nat.blt hi q.1 then a_fit q.2 E a else bif Nat.ble q.1 lo then a_fa g lo hi E a else a_fit q.2 E a && a_fa g q.1 hi E a) := by
  show @Bool.rec (fun _ => Bool) (@Bool.rec (fun _ => Bool) (a_fit q.2 E a && a_fa g q.1 hi E a) (a_fa g lo hi E a) (Nat.ble q.1 lo)) (a_fit q.2 E a) (Nat.blt hi q.1) = _
  rw [a_rb, a_rb]
theorem a_fa_ok {j : Nat} {E : aE} {a : aV} : ∀ {g : aG} {lo hi : Nat}, a_fa g lo hi E a = true → lo ≤ j → j ≤ hi → a_fit (a_at g j) E a = true
  | [], _, _, h, _, _ => by cases h
  | q :: g, lo, hi, h, h1, h2 => by
    rw [a_fa_c] at h
    rw [a_at_c]
    cases hb : Nat.blt hi q.1 with
    | true =>
      rw [hb] at h
      rw [q_blt] at hb
      have hb := of_decide_eq_true hb
      rw [show Nat.blt j q.1 = true by rw [q_blt]; exact decide_eq_true (by omega)]
      exact h
    | false =>
      rw [hb] at h
      cases hb2 : Nat.ble q.1 lo with
      | true =>
        rw [hb2] at h
        rw [q_ble] at hb2
        have hb2 := of_decide_eq_true hb2
        rw [show Nat.blt j q.1 = false by rw [q_blt]; exact decide_eq_false (by omega)]
        exact a_fa_ok (g := g) h h1 h2
      | false =>
        rw [hb2] at h
        have h : (a_fit q.2 E a && a_fa g q.1 hi E a) = true := h
        rw [Bool.and_eq_true] at h
        cases hb3 : Nat.blt j q.1 with
        | true => exact h.1
        | false =>
          rw [q_blt] at hb3
          have hb3 := of_decide_eq_false hb3
          exact a_fa_ok (g := g) h.2 (by omega) h2
section
variable {sp : aSp} {nc : Nat} {S : aW} {σ : Nat → Int} {env : qE} {h : qH} {lv : qL} {stk : List qV} {E : aE} {K : aK} {pc : Nat} {al : aL} {sk : List aV} {nx : List aS} {e : qN}
-- branches
noncomputable def a_if (q : List (Bool × aE)) (K : aK) (a b : Nat) (al : aL) (sk : List aV) : List aS := match q with
  | [] => []
  | x :: q => (x.2, K, (bif x.1 then a else b), al, sk) :: a_if q K a b al sk
theorem a_if_mem {x : Bool × aE} {a b : Nat} : ∀ {q : List (Bool × aE)}, x ∈ q → (x.2, K, (bif x.1 then a else b), al, sk) ∈ a_if q K a b al sk
  | [], h => by cases h
  | y :: q, h => by
    rcases List.mem_cons.mp h with rfl | h
    · exact List.mem_cons_self
    · exact List.mem_cons_of_mem _ (a_if_mem h)
noncomputable def a_s8 (e : qN) (E : aE) (K : aK) (al : aL) (sk : List aV) : Option (List aS) := match sk with
  | x :: sk => bif Nat.beq x.1 1 then some (a_if (a_cmpD (q_v e) E (a_dif (a_cn 0) x.2.2)) K (q_a e) (q_pc e + 3) al sk) else none
  | _ => none
theorem a_k8 (hE : a_En σ E) (hh : a_HI sp nc h) (hR : a_Rs sp nc σ (a_n E) h lv stk K al sk) (hs : a_s8 e E K al sk = some nx) : a_Nx sp nc S σ (a_n E) env h (q_s8S e env h 0 0 lv stk) nx := by
  obtain ⟨hK, hL, hS⟩ := hR
  unfold a_s8 at hs
  split at hs
  · rename_i x sk
    obtain ⟨h1, hs⟩ := q_bt hs
    cases hs
    obtain ⟨xv, stk2, rfl, hx, hS2⟩ := hS.cons
    obtain ⟨t, s, f⟩ := x
    have ht : t = 1 := Nat.eq_of_beq_eq_true h1
    subst ht
    obtain ⟨wf, rfl, r1, r2⟩ := a_V1 hx
    obtain ⟨q, q1, q2, q3, q4⟩ := a_cmpD_ok hE (q_v e) (D := a_dif (a_cn 0) f) (a_wf.cn.dif wf) (x := a_ev σ f) (y := 0) (by rw [a_dif_ev, a_cn_ev])
    refine a_nx0 (pc' := bif q.1 then q_a e else q_pc e + 3) (lv' := lv) (stk' := stk2) ?_ hh (a_if_mem q1) rfl (fun _ _ => rfl) (Nat.le_of_eq q4.symm) ⟨q3, by show a_Kn sp nc σ (a_n q.2) K h; rw [q4]; exact hK, by show a_Lv σ (a_n q.2) al lv; rw [q4]; exact hL, by show a_Sk σ (a_n q.2) sk stk2; rw [q4]; exact hS2⟩
    have hop : q_op (q_v e) (qI (a_w (a_ev σ f))) (qI 0) = q.1 := by
      rw [q2, ← a_op_I r1 r2 (by decide) (by decide)]
      rfl
    show some [((env, h, 0, 0, (bif q_op (q_v e) (qI (a_w (a_ev σ f))) (qI 0) then q_a e else q_pc e + 3), lv, stk2) : qF)] = _
    rw [hop]
  · cases hs
noncomputable def a_s9 (e : qN) (E : aE) (K : aK) (al : aL) (sk : List aV) : Option (List aS) := match sk with
  | y :: x :: sk => bif Nat.beq x.1 1 && Nat.beq y.1 1 then some (a_if (a_cmpD (q_v e) E (a_dif y.2.2 x.2.2)) K (q_a e) (q_pc e + 3) al sk) else none
  | _ => none
theorem a_k9 (hE : a_En σ E) (hh : a_HI sp nc h) (hR : a_Rs sp nc σ (a_n E) h lv stk K al sk) (hs : a_s9 e E K al sk = some nx) : a_Nx sp nc S σ (a_n E) env h (q_s9S e env h 0 0 lv stk) nx := by
  obtain ⟨hK, hL, hS⟩ := hR
  unfold a_s9 at hs
  split at hs
  · rename_i y x sk
    obtain ⟨h1, hs⟩ := q_bt hs
    cases hs
    obtain ⟨yv, stk1, rfl, hy, hS1⟩ := hS.cons
    obtain ⟨xv, stk2, rfl, hx, hS2⟩ := hS1.cons
    obtain ⟨t, s, f⟩ := x
    obtain ⟨t2, s2, g⟩ := y
    rw [Bool.and_eq_true] at h1
    have ht : t = 1 := Nat.eq_of_beq_eq_true h1.1
    have ht2 : t2 = 1 := Nat.eq_of_beq_eq_true h1.2
    subst ht; subst ht2
    obtain ⟨wf, rfl, r1, r2⟩ := a_V1 hx
    obtain ⟨wg, rfl, r3, r4⟩ := a_V1 hy
    obtain ⟨q, q1, q2, q3, q4⟩ := a_cmpD_ok hE (q_v e) (D := a_dif g f) (wg.dif wf) (x := a_ev σ f) (y := a_ev σ g) (by rw [a_dif_ev])
    refine a_nx0 (pc' := bif q.1 then q_a e else q_pc e + 3) (lv' := lv) (stk' := stk2) ?_ hh (a_if_mem q1) rfl (fun _ _ => rfl) (Nat.le_of_eq q4.symm) ⟨q3, by show a_Kn sp nc σ (a_n q.2) K h; rw [q4]; exact hK, by show a_Lv σ (a_n q.2) al lv; rw [q4]; exact hL, by show a_Sk σ (a_n q.2) sk stk2; rw [q4]; exact hS2⟩
    have hop : q_op (q_v e) (qI (a_w (a_ev σ f))) (qI (a_w (a_ev σ g))) = q.1 := by
      rw [q2, ← a_op_I r1 r2 r3 r4]
    show some [((env, h, 0, 0, (bif q_op (q_v e) (qI (a_w (a_ev σ f))) (qI (a_w (a_ev σ g))) then q_a e else q_pc e + 3), lv, stk2) : qF)] = _
    rw [hop]
  · cases hs
noncomputable def a_vs (q : List (Bool × aE)) (c : Int) (K : aK) (pc : Nat) (al : aL) (sk : List aV) : List aS := match q with
  | [] => []
  | x :: q => (x.2, K, pc, al, (1, 0, a_cn c) :: sk) :: a_vs q c K pc al sk
theorem a_vs_mem {x : Bool × aE} {c : Int} : ∀ {q : List (Bool × aE)}, x ∈ q → (x.2, K, pc, al, (1, 0, a_cn c) :: sk) ∈ a_vs q c K pc al sk
  | [], h => by cases h
  | y :: q, h => by
    rcases List.mem_cons.mp h with rfl | h
    · exact List.mem_cons_self
    · exact List.mem_cons_of_mem _ (a_vs_mem h)
noncomputable def a_s7 (e : qN) (E : aE) (K : aK) (al : aL) (sk : List aV) : Option (List aS) := match sk with
  | y :: x :: sk => bif Nat.beq x.1 4 && Nat.beq y.1 4 then some (a_vs (a_o true (a_as E (a_pl (a_dif y.2.2 x.2.2) (-1)))) (-1) K (q_pc e + 1) al sk ++ (a_vs (a_eqs E (a_dif y.2.2 x.2.2) true) 0 K (q_pc e + 1) al sk ++ a_vs (a_o true (a_as E (a_dif (a_cn (-1)) (a_dif y.2.2 x.2.2)))) 1 K (q_pc e + 1) al sk)) else none
  | _ => none
theorem a_k7 (hE : a_En σ E) (hh : a_HI sp nc h) (hR : a_Rs sp nc σ (a_n E) h lv stk K al sk) (hs : a_s7 e E K al sk = some nx) : a_Nx sp nc S σ (a_n E) env h (q_s7S e env h 0 0 lv stk) nx := by
  obtain ⟨hK, hL, hS⟩ := hR
  unfold a_s7 at hs
  split at hs
  · rename_i y x sk
    obtain ⟨h1, hs⟩ := q_bt hs
    cases hs
    obtain ⟨yv, stk1, rfl, hy, hS1⟩ := hS.cons
    obtain ⟨xv, stk2, rfl, hx, hS2⟩ := hS1.cons
    obtain ⟨t, s, f⟩ := x
    obtain ⟨t2, s2, g⟩ := y
    rw [Bool.and_eq_true] at h1
    have ht : t = 4 := Nat.eq_of_beq_eq_true h1.1
    have ht2 : t2 = 4 := Nat.eq_of_beq_eq_true h1.2
    subst ht; subst ht2
    obtain ⟨wf, rfl, r1, r2⟩ := a_V4 hx
    obtain ⟨wg, rfl, r3, r4⟩ := a_V4 hy
    have wD : a_wf (a_n E) (a_dif g f) := wg.dif wf
    have eD : a_ev σ (a_dif g f) = a_ev σ g - a_ev σ f := a_dif_ev _ _ _
    have hr : ∀ c : Int32, lg_cmp (qJ (a_W (a_ev σ f))) (qJ (a_W (a_ev σ g))) = c → q_s7S e env h 0 0 lv ((3, a_W (a_ev σ g)) :: (3, a_W (a_ev σ f)) :: stk2) = some [(env, h, 0, 0, q_pc e + 1, lv, (0, qNn c) :: stk2)] := fun c hc => by
      show some [((env, h, 0, 0, q_pc e + 1, lv, (0, qNn (lg_cmp (qJ (a_W (a_ev σ f))) (qJ (a_W (a_ev σ g))))) :: stk2) : qF)] = _
      rw [hc]
    have hc := a_lgc (qJ (a_W (a_ev σ f))) (qJ (a_W (a_ev σ g)))
    rw [a_qJt r1 r2, a_qJt r3 r4] at hc
    have hcn : ∀ (n : Nat) (c : Int), -2147483648 ≤ c → c < 2147483648 → a_V σ n (1, 0, a_cn c) (0, a_w c) := fun n c h1 h2 => by
      refine ⟨a_wf.cn, ?_⟩
      show (0, a_w c) = (0, a_w (a_ev σ (a_cn c))) ∧ _ ≤ a_ev σ (a_cn c) ∧ a_ev σ (a_cn c) < _
      rw [a_cn_ev]
      exact ⟨rfl, h1, h2⟩
    have fin : ∀ (q : Bool × aE) (c : Int) (c2 : Int32), qNn c2 = a_w c → -2147483648 ≤ c → c < 2147483648 → lg_cmp (qJ (a_W (a_ev σ f))) (qJ (a_W (a_ev σ g))) = c2 → a_En σ q.2 → a_n q.2 = a_n E → (q.2, K, q_pc e + 1, al, (1, 0, a_cn c) :: sk) ∈ (a_vs (a_o true (a_as E (a_pl (a_dif g f) (-1)))) (-1) K (q_pc e + 1) al sk ++ (a_vs (a_eqs E (a_dif g f) true) 0 K (q_pc e + 1) al sk ++ a_vs (a_o true (a_as E (a_dif (a_cn (-1)) (a_dif g f)))) 1 K (q_pc e + 1) al sk)) → a_Nx sp nc S σ (a_n E) env h (q_s7S e env h 0 0 lv ((3, a_W (a_ev σ g)) :: (3, a_W (a_ev σ f)) :: stk2)) (a_vs (a_o true (a_as E (a_pl (a_dif g f) (-1)))) (-1) K (q_pc e + 1) al sk ++ (a_vs (a_eqs E (a_dif g f) true) 0 K (q_pc e + 1) al sk ++ a_vs (a_o true (a_as E (a_dif (a_cn (-1)) (a_dif g f)))) 1 K (q_pc e + 1) al sk)) := fun q c c2 k1 k2 k3 k4 k5 k6 k7 => by
      refine a_nx0 (hr c2 k4) hh k7 rfl (fun _ _ => rfl) (Nat.le_of_eq k6.symm) ⟨k5, by show a_Kn sp nc σ (a_n q.2) K h; rw [k6]; exact hK, by show a_Lv σ (a_n q.2) al lv; rw [k6]; exact hL, ?_, by show a_Sk σ (a_n q.2) sk stk2; rw [k6]; exact hS2⟩
      rw [k1]
      exact hcn _ c k2 k3
    by_cases h2 : a_ev σ g < a_ev σ f
    · rw [if_pos h2] at hc
      obtain ⟨q, q1, -, q3, q4⟩ := a_o_ok hE (P := a_dif (a_cn (-1)) (a_dif g f)) (a_wf.cn.dif wD) (by rw [a_dif_ev, a_cn_ev]; omega) true
      exact fin q 1 1 rfl (by decide) (by decide) hc q3 q4 (List.mem_append_right _ (List.mem_append_right _ (a_vs_mem q1)))
    · rw [if_neg h2] at hc
      by_cases h3 : a_ev σ f = a_ev σ g
      · rw [if_pos h3] at hc
        obtain ⟨q, q1, -, q3, q4⟩ := a_eqs_ok hE wD (by omega) true
        exact fin q 0 0 rfl (by decide) (by decide) hc q3 q4 (List.mem_append_right _ (List.mem_append_left _ (a_vs_mem q1)))
      · rw [if_neg h3] at hc
        obtain ⟨q, q1, -, q3, q4⟩ := a_o_ok hE (P := a_pl (a_dif g f) (-1)) wD (by rw [a_pl_ev]; omega) true
        exact fin q (-1) (-1) rfl (by decide) (by decide) hc q3 q4 (List.mem_append_left _ (a_vs_mem q1))
  · cases hs
noncomputable def a_s10 (e : qN) (E : aE) (K : aK) (al : aL) (sk : List aV) : Option (List aS) := a_one (E, K, q_a e, al, sk)
theorem a_k10 (hE : a_En σ E) (hh : a_HI sp nc h) (hR : a_Rs sp nc σ (a_n E) h lv stk K al sk) (hs : a_s10 e E K al sk = some nx) : a_Nx sp nc S σ (a_n E) env h (q_goS env h 0 0 (q_a e) lv stk) nx := by
  cases hs
  exact a_nx0 rfl hh (List.mem_singleton.mpr rfl) rfl (fun _ _ => rfl) (Nat.le_refl _) ⟨hE, hR.1, hR.2.1, hR.2.2⟩
/-- ifnull (n: where it goes for null), ifnonnull -/
noncomputable def a_s11 (y n : Nat) (E : aE) (K : aK) (al : aL) (sk : List aV) : Option (List aS) := match sk with
  | x :: sk => bif Nat.beq x.1 7 then a_one (E, K, y, al, sk) else bif Nat.beq x.1 6 then a_one (E, K, n, al, sk) else none
  | _ => none
theorem a_k11 (hE : a_En σ E) (hh : a_HI sp nc h) (hR : a_Rs sp nc σ (a_n E) h lv stk K al sk) (hs : a_s11 (q_a e) (q_pc e + 3) E K al sk = some nx) : a_Nx sp nc S σ (a_n E) env h (q_s11S e env h 0 0 lv stk) nx := by
  obtain ⟨hK, hL, hS⟩ := hR
  unfold a_s11 at hs
  split at hs
  · rename_i x sk
    obtain ⟨xv, stk2, rfl, hx, hS2⟩ := hS.cons
    obtain ⟨t, s, f⟩ := x
    cases hb : Nat.beq t 7 with
    | true =>
      have ht := Nat.eq_of_beq_eq_true hb
      subst ht
      have hx : xv = (7, 0) := hx
      subst hx
      cases hs
      exact a_nx0 rfl hh (List.mem_singleton.mpr rfl) rfl (fun _ _ => rfl) (Nat.le_refl _) ⟨hE, hK, hL, hS2⟩
    | false =>
      have hs : (bif Nat.beq t 7 then a_one (E, K, q_a e, al, sk) else bif Nat.beq t 6 then a_one (E, K, q_pc e + 3, al, sk) else none) = some nx := hs
      rw [hb] at hs
      obtain ⟨h6, hs⟩ := q_bt hs
      have ht := Nat.eq_of_beq_eq_true h6
      subst ht
      have hx : xv = (6, s) := hx
      subst hx
      cases hs
      exact a_nx0 rfl hh (List.mem_singleton.mpr rfl) rfl (fun _ _ => rfl) (Nat.le_refl _) ⟨hE, hK, hL, hS2⟩
  · cases hs
theorem a_k27 (hE : a_En σ E) (hh : a_HI sp nc h) (hR : a_Rs sp nc σ (a_n E) h lv stk K al sk) (hs : a_s11 (q_pc e + 3) (q_a e) E K al sk = some nx) : a_Nx sp nc S σ (a_n E) env h (q_s27S e env h 0 0 lv stk) nx := by
  obtain ⟨hK, hL, hS⟩ := hR
  unfold a_s11 at hs
  split at hs
  · rename_i x sk
    obtain ⟨xv, stk2, rfl, hx, hS2⟩ := hS.cons
    obtain ⟨t, s, f⟩ := x
    cases hb : Nat.beq t 7 with
    | true =>
      have ht := Nat.eq_of_beq_eq_true hb
      subst ht
      have hx : xv = (7, 0) := hx
      subst hx
      cases hs
      exact a_nx0 rfl hh (List.mem_singleton.mpr rfl) rfl (fun _ _ => rfl) (Nat.le_refl _) ⟨hE, hK, hL, hS2⟩
    | false =>
      have hs : (bif Nat.beq t 7 then a_one (E, K, q_pc e + 3, al, sk) else bif Nat.beq t 6 then a_one (E, K, q_a e, al, sk) else none) = some nx := hs
      rw [hb] at hs
      obtain ⟨h6, hs⟩ := q_bt hs
      have ht := Nat.eq_of_beq_eq_true h6
      subst ht
      have hx : xv = (6, s) := hx
      subst hx
      cases hs
      exact a_nx0 rfl hh (List.mem_singleton.mpr rfl) rfl (fun _ _ => rfl) (Nat.le_refl _) ⟨hE, hK, hL, hS2⟩
  · cases hs
-- switch
noncomputable def a_sw (E : aE) (f : aF) (K : aK) (al : aL) (sk : List aV) : List Nat → Int → List aS
  | [], _ => []
  | t :: ts, j => a_if (a_eqs E (a_pl f (-j)) true) K t t al sk ++ a_sw E f K al sk ts (j + 1)
theorem a_sw_ok (hE : a_En σ E) {f : aF} (wf : a_wf (a_n E) f) : ∀ (ts : List Nat) (j : Int) (i t : Nat), ts[i]? = some t → a_ev σ f = j + i → ∃ st ∈ a_sw E f K al sk ts j, st.2.2.1 = t ∧ st.2.1 = K ∧ st.2.2.2.1 = al ∧ st.2.2.2.2 = sk ∧ a_En σ st.1 ∧ a_n st.1 = a_n E
  | [], _, _, _, h, _ => by cases h
  | t :: ts, j, 0, t2, h, hj => by
    cases h
    obtain ⟨q, q1, q2, q3, q4⟩ := a_eqs_ok hE (D := a_pl f (-j)) wf (by rw [a_pl_ev]; omega) true
    refine ⟨_, List.mem_append_left _ (a_if_mem (a := t) (b := t) q1), ?_, rfl, rfl, rfl, q3, q4⟩
    cases q.1 <;> rfl
  | t :: ts, j, i + 1, t2, h, hj => by
    obtain ⟨st, s1, s2⟩ := a_sw_ok hE wf ts (j + 1) i t2 h (by omega)
    exact ⟨st, List.mem_append_right _ s1, s2⟩
noncomputable def a_s12 (e : qN) (E : aE) (K : aK) (al : aL) (sk : List aV) : Option (List aS) := match sk with
  | x :: sk => bif Nat.beq x.1 1 then some (a_sw E x.2.2 K al sk (q_t e) 0 ++ (a_if (a_o true (a_as E (a_dif (a_cn (-1)) x.2.2))) K (q_a e) (q_a e) al sk ++ a_if (a_o true (a_as E (a_pl x.2.2 (-((q_t e).length : Int))))) K (q_a e) (q_a e) al sk)) else none
  | _ => none
theorem a_k12 (hE : a_En σ E) (hh : a_HI sp nc h) (hR : a_Rs sp nc σ (a_n E) h lv stk K al sk) (hs : a_s12 e E K al sk = some nx) : a_Nx sp nc S σ (a_n E) env h (q_s12S e env h 0 0 lv stk) nx := by
  obtain ⟨hK, hL, hS⟩ := hR
  unfold a_s12 at hs
  split at hs
  · rename_i x sk
    obtain ⟨h1, hs⟩ := q_bt hs
    cases hs
    obtain ⟨xv, stk2, rfl, hx, hS2⟩ := hS.cons
    obtain ⟨t, s, f⟩ := x
    have ht : t = 1 := Nat.eq_of_beq_eq_true h1
    subst ht
    obtain ⟨wf, rfl, r1, r2⟩ := a_V1 hx
    have ti := a_qIt r1 r2
    have hr : q_s12S e env h 0 0 lv ((0, a_w (a_ev σ f)) :: stk2) = some [(env, h, 0, 0, (bif Nat.blt (qI (a_w (a_ev σ f))).toNatClampNeg (q_t e).length && decide (0 ≤ (qI (a_w (a_ev σ f))).toInt) then (q_t e).getD (qI (a_w (a_ev σ f))).toNatClampNeg 0 else q_a e), lv, stk2)] := rfl
    have cl : (qI (a_w (a_ev σ f))).toNatClampNeg = (a_ev σ f).toNat := by
      show (qI (a_w (a_ev σ f))).toInt.toNat = _
      rw [ti]
    rw [cl, ti] at hr
    by_cases h2 : a_ev σ f < 0
    · obtain ⟨q, q1, -, q3, q4⟩ := a_o_ok hE (P := a_dif (a_cn (-1)) f) (a_wf.cn.dif wf) (by rw [a_dif_ev, a_cn_ev]; omega) true
      rw [decide_eq_false (p := 0 ≤ a_ev σ f) (by omega), Bool.and_false] at hr
      refine a_nx0 hr hh (List.mem_append_right _ (List.mem_append_left _ (a_if_mem q1))) (by cases q.1 <;> rfl) (fun _ _ => rfl) (Nat.le_of_eq q4.symm) ⟨q3, by show a_Kn sp nc σ (a_n q.2) K h; rw [q4]; exact hK, by show a_Lv σ (a_n q.2) al lv; rw [q4]; exact hL, by show a_Sk σ (a_n q.2) sk stk2; rw [q4]; exact hS2⟩
    · by_cases h3 : a_ev σ f < (q_t e).length
      · obtain ⟨i, hi⟩ : ∃ i : Nat, a_ev σ f = i := ⟨(a_ev σ f).toNat, by omega⟩
        have hil : i < (q_t e).length := by omega
        obtain ⟨st, s1, s2, s3, s4, s5, s6, s7⟩ := a_sw_ok (K := K) (al := al) (sk := sk) hE wf (q_t e) 0 i ((q_t e)[i]) (List.getElem?_eq_getElem hil) (by omega)
        rw [hi, Int.toNat_natCast, q_blt, decide_eq_true hil, decide_eq_true (p := (0 : Int) ≤ i) (by omega)] at hr
        have hg : (q_t e).getD i 0 = (q_t e)[i] := by rw [List.getD_eq_getElem?_getD, List.getElem?_eq_getElem hil]; rfl
        rw [hg] at hr
        rw [hi]
        refine a_nx0 hr hh (List.mem_append_left _ s1) s2 (fun _ _ => rfl) (Nat.le_of_eq s7.symm) ⟨s6, ?_, ?_, ?_⟩
        · rw [s7, s3]; exact hK
        · rw [s7, s4]; exact hL
        · rw [s7, s5]; exact hS2
      · obtain ⟨q, q1, -, q3, q4⟩ := a_o_ok hE (P := a_pl f (-((q_t e).length : Int))) wf (by rw [a_pl_ev]; omega) true
        rw [q_blt, decide_eq_false (p := (a_ev σ f).toNat < (q_t e).length) (by omega), Bool.false_and] at hr
        refine a_nx0 hr hh (List.mem_append_right _ (List.mem_append_right _ (a_if_mem q1))) (by cases q.1 <;> rfl) (fun _ _ => rfl) (Nat.le_of_eq q4.symm) ⟨q3, by show a_Kn sp nc σ (a_n q.2) K h; rw [q4]; exact hK, by show a_Lv σ (a_n q.2) al lv; rw [q4]; exact hL, by show a_Sk σ (a_n q.2) sk stk2; rw [q4]; exact hS2⟩
  · cases hs
-- the stack
noncomputable def a_s13 (e : qN) (E : aE) (K : aK) (al : aL) (sk : List aV) : Option (List aS) := match q_v e, sk with
  | 0, x :: sk => bif Nat.beq (a_cat x) 1 then a_one (E, K, q_pc e + 1, al, x :: x :: sk) else none
  | 1, x :: sk => bif Nat.beq (a_cat x) 2 then a_one (E, K, q_pc e + 1, al, x :: x :: sk) else (match sk with
    | y :: sk => bif Nat.beq (a_cat y) 1 then a_one (E, K, q_pc e + 1, al, x :: y :: x :: y :: sk) else none
    | _ => none)
  | 2, x :: sk => bif Nat.beq (a_cat x) 1 then a_one (E, K, q_pc e + 1, al, sk) else none
  | 3, x :: sk => bif Nat.beq (a_cat x) 2 then a_one (E, K, q_pc e + 1, al, sk) else none
  | _, _ => none
theorem a_k13 (hE : a_En σ E) (hh : a_HI sp nc h) (hR : a_Rs sp nc σ (a_n E) h lv stk K al sk) (hs : a_s13 e E K al sk = some nx) : a_Nx sp nc S σ (a_n E) env h (q_s13S e env h 0 0 lv stk) nx := by
  obtain ⟨hK, hL, hS⟩ := hR
  obtain ⟨op, p, v, a, b, w, tt⟩ := e
  unfold a_s13 at hs
  split at hs
  · rename_i x sk hv
    have hv : v = 0 := hv
    subst hv
    obtain ⟨h1, hs⟩ := q_bt hs
    cases hs
    obtain ⟨xv, stk2, rfl, hx, hS2⟩ := hS.cons
    refine a_nx0 (pc' := p + 1) (lv' := lv) (stk' := xv :: xv :: stk2) ?_ hh (List.mem_singleton.mpr rfl) rfl (fun _ _ => rfl) (Nat.le_refl _) ⟨hE, hK, hL, hx, hx, hS2⟩
    show (bif Nat.beq (q_cat xv) 1 then _ else none) = _
    rw [hx.kd.2, h1]
    rfl
  · rename_i x sk hv
    have hv : v = 1 := hv
    subst hv
    obtain ⟨xv, stk2, rfl, hx, hS2⟩ := hS.cons
    cases hb : Nat.beq (a_cat x) 2 with
    | true =>
      rw [hb] at hs
      cases hs
      refine a_nx0 (pc' := p + 1) (lv' := lv) (stk' := xv :: xv :: stk2) ?_ hh (List.mem_singleton.mpr rfl) rfl (fun _ _ => rfl) (Nat.le_refl _) ⟨hE, hK, hL, hx, hx, hS2⟩
      show (bif Nat.beq (q_cat xv) 2 then _ else _) = _
      rw [hx.kd.2, hb]
      rfl
    | false =>
      rw [hb] at hs
      cases sk with
      | nil => cases hs
      | cons y sk =>
        obtain ⟨h1, hs⟩ := q_bt (b := Nat.beq (a_cat y) 1) (x := a_one (E, K, p + 1, al, x :: y :: x :: y :: sk)) hs
        cases hs
        obtain ⟨yv, stk3, rfl, hy, hS3⟩ := hS2.cons
        refine a_nx0 (pc' := p + 1) (lv' := lv) (stk' := xv :: yv :: xv :: yv :: stk3) ?_ hh (List.mem_singleton.mpr rfl) rfl (fun _ _ => rfl) (Nat.le_refl _) ⟨hE, hK, hL, hx, hy, hx, hy, hS3⟩
        show (bif Nat.beq (q_cat xv) 2 then _ else (bif Nat.beq (q_cat yv) 1 then _ else none)) = _
        rw [hx.kd.2, hy.kd.2, hb, h1]
        rfl
  · rename_i x sk hv
    have hv : v = 2 := hv
    subst hv
    obtain ⟨h1, hs⟩ := q_bt hs
    cases hs
    obtain ⟨xv, stk2, rfl, hx, hS2⟩ := hS.cons
    refine a_nx0 (pc' := p + 1) (lv' := lv) (stk' := stk2) ?_ hh (List.mem_singleton.mpr rfl) rfl (fun _ _ => rfl) (Nat.le_refl _) ⟨hE, hK, hL, hS2⟩
    show (bif Nat.beq (q_cat xv) 1 then _ else none) = _
    rw [hx.kd.2, h1]
    rfl
  · rename_i x sk hv
    have hv : v = 3 := hv
    subst hv
    obtain ⟨h1, hs⟩ := q_bt hs
    cases hs
    obtain ⟨xv, stk2, rfl, hx, hS2⟩ := hS.cons
    refine a_nx0 (pc' := p + 1) (lv' := lv) (stk' := stk2) ?_ hh (List.mem_singleton.mpr rfl) rfl (fun _ _ => rfl) (Nat.le_refl _) ⟨hE, hK, hL, hS2⟩
    show (bif Nat.beq (q_cat xv) 2 then _ else none) = _
    rw [hx.kd.2, h1]
    rfl
  · cases hs
end
