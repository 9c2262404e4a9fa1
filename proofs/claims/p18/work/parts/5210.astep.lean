-- 10.astep: states of the abstract machine, its steps, and that they cover the machine's
abbrev aK : Type := List ((Nat × Nat) × aV)
abbrev aL : Type := List (Nat × aV)
/-- intervals and sums, what is known of the heap's places, pc, locals, stack -/
abbrev aS : Type := aE × aK × Nat × aL × List aV
noncomputable def a_lg (l : aL) (i : Nat) : Option aV := @List.rec (Nat × aV) (fun _ => Option aV) none (fun q _ ih => @Bool.rec (fun _ => Option aV) ih (some q.2) (Nat.beq q.1 i)) l
theorem a_lg_c {l : aL} {q : Nat × aV} {i : Nat} : a_lg (q :: l) i = (bif Nat.beq q.1 i then some q.2 else a_lg l i) := a_rb (a_lg l i) (some q.2) (Nat.beq q.1 i)
noncomputable def a_fl (p : Nat → Bool) : aL → aL
  | [] => []
  | q :: l => bif p q.1 then q :: a_fl p l else a_fl p l
noncomputable def a_wd (l : aL) (i : Nat) : Bool := match a_lg l i with
  | some b => Nat.beq (a_cat b) 2
  | none => false
noncomputable def a_ls (l : aL) (i : Nat) (x : aV) : aL := (i, x) :: a_fl (fun j => !(Nat.beq j i) && (!(Nat.beq j (i + 1) && Nat.beq (a_cat x) 2) && !(Nat.beq (j + 1) i && a_wd l j))) l
theorem a_lg_fl {p : Nat → Bool} {i : Nat} {a : aV} : ∀ {l : aL}, a_lg (a_fl p l) i = some a → p i = true ∧ a_lg l i = some a
  | [], h => by cases h
  | q :: l, h => by
    unfold a_fl at h
    rw [a_lg_c]
    cases hp : p q.1 with
    | true =>
      rw [hp] at h
      have h : (bif Nat.beq q.1 i then some q.2 else a_lg (a_fl p l) i) = some a := (a_lg_c (q := q)).symm.trans h
      cases hb : Nat.beq q.1 i with
      | true =>
        rw [hb] at h
        have e := Nat.eq_of_beq_eq_true hb
        exact ⟨by rw [← e]; exact hp, h⟩
      | false =>
        rw [hb] at h
        exact a_lg_fl (l := l) h
    | false =>
      rw [hp] at h
      obtain ⟨h1, h2⟩ := a_lg_fl (l := l) h
      cases hb : Nat.beq q.1 i with
      | true =>
        have e := Nat.eq_of_beq_eq_true hb
        rw [e, h1] at hp
        cases hp
      | false => exact ⟨h1, h2⟩
theorem q_lg_fl {p : Nat × qV → Bool} {i : Nat} {v : qV} : ∀ {l : qL}, q_lg l i = some v → p (i, v) = true → q_lg (l.filter p) i = some v
  | [], h, _ => by cases h
  | q :: l, h, hp => by
    have h : ((q :: l).find? fun x => Nat.beq x.1 i).map (·.2) = some v := h
    show (((q :: l).filter p).find? fun x => Nat.beq x.1 i).map (·.2) = some v
    rw [List.find?_cons] at h
    cases hb : Nat.beq q.1 i with
    | true =>
      rw [hb] at h
      have e := Nat.eq_of_beq_eq_true hb
      have h : some q.2 = some v := h
      have hq : q = (i, v) := Prod.ext e (Option.some.inj h)
      subst hq
      rw [List.filter_cons_of_pos hp, List.find?_cons, hb]
      rfl
    | false =>
      rw [hb] at h
      have ih : ((l.filter p).find? fun x => Nat.beq x.1 i).map (·.2) = some v := q_lg_fl (l := l) h hp
      cases hpq : p q with
      | true =>
        rw [List.filter_cons_of_pos hpq, List.find?_cons, hb]
        exact ih
      | false =>
        rw [List.filter_cons_of_neg (by rw [hpq]; exact Bool.false_ne_true)]
        exact ih
noncomputable def a_Lv (σ : Nat → Int) (n : Nat) (al : aL) (lv : qL) : Prop := ∀ (i : Nat) (a : aV), a_lg al i = some a → ∃ v, q_lg lv i = some v ∧ a_V σ n a v
noncomputable def a_Sk (σ : Nat → Int) (n : Nat) : List aV → List qV → Prop
  | [], [] => True
  | a :: as, v :: vs => a_V σ n a v ∧ a_Sk σ n as vs
  | _, _ => False
theorem a_Sk.cons {σ : Nat → Int} {n : Nat} {a : aV} {as : List aV} {stk : List qV} (h : a_Sk σ n (a :: as) stk) : ∃ v vs, stk = v :: vs ∧ a_V σ n a v ∧ a_Sk σ n as vs := by
  cases stk with
  | nil => exact h.elim
  | cons v vs => exact ⟨v, vs, rfl, h.1, h.2⟩
theorem a_Sk.nil {σ : Nat → Int} {n : Nat} {stk : List qV} (h : a_Sk σ n [] stk) : stk = [] := by
  cases stk with
  | nil => rfl
  | cons v vs => exact h.elim
theorem a_Sk.ext {σ σ' : Nat → Int} {n n' : Nat} (hn : n ≤ n') (hs : ∀ i, i < n → σ' i = σ i) : ∀ {as : List aV} {vs : List qV}, a_Sk σ n as vs → a_Sk σ' n' as vs
  | [], [], _ => trivial
  | _ :: _, _ :: _, h => ⟨h.1.ext hn hs, a_Sk.ext hn hs h.2⟩
  | [], _ :: _, h => h.elim
  | _ :: _, [], h => h.elim
theorem a_Sk.cats {σ : Nat → Int} {n : Nat} : ∀ {as : List aV} {vs : List qV}, a_Sk σ n as vs → vs.map q_cat = as.map a_cat
  | [], [], _ => rfl
  | _ :: _, _ :: _, h => by rw [List.map_cons, List.map_cons, h.1.kd.2, a_Sk.cats h.2]
  | [], _ :: _, h => h.elim
  | _ :: _, [], h => h.elim
theorem a_Lv.store {σ : Nat → Int} {n : Nat} {al : aL} {lv : qL} (h : a_Lv σ n al lv) {i : Nat} {x : aV} {v : qV} (hx : a_V σ n x v) : a_Lv σ n (a_ls al i x) (bif Nat.beq (q_cat v) 2 then q_ls2 lv i v else q_ls1 lv i v) := by
  intro j a hj
  have hc := hx.kd.2
  by_cases e : j = i
  · subst e
    have hj : (bif Nat.beq j j then some x else _) = some a := (a_lg_c (q := (_, x))).symm.trans hj
    rw [Nat.beq_refl] at hj
    cases hj
    refine ⟨v, ?_, hx⟩
    cases Nat.beq (q_cat v) 2 with
    | true =>
      show (((j, v) :: _).find? fun q => Nat.beq q.1 j).map (·.2) = some v
      rw [List.find?_cons, Nat.beq_refl]
      rfl
    | false =>
      show (((j, v) :: _).find? fun q => Nat.beq q.1 j).map (·.2) = some v
      rw [List.find?_cons, Nat.beq_refl]
      rfl
  · have hb : Nat.beq i j = false := by rw [q_beq]; exact decide_eq_false (fun z => e z.symm)
    have hb2 : Nat.beq j i = false := by rw [q_beq]; exact decide_eq_false e
    have hj : (bif Nat.beq i j then some x else a_lg (a_fl _ al) j) = some a := (a_lg_c (q := (i, x))).symm.trans hj
    rw [hb] at hj
    obtain ⟨p1, p2⟩ := a_lg_fl hj
    obtain ⟨u, hu, hV⟩ := h j a p2
    refine ⟨u, ?_, hV⟩
    rw [hb2] at p1
    simp only [Bool.not_false, Bool.true_and, Bool.and_eq_true] at p1
    have hw : (Nat.beq (j + 1) i && Nat.beq (q_cat u) 2) = false := by
      cases h1 : Nat.beq (j + 1) i with
      | false => rfl
      | true =>
        have p1 := p1.2
        rw [h1] at p1
        unfold a_wd at p1
        rw [p2] at p1
        have p1 : (!(Nat.beq (a_cat a) 2)) = true := p1
        rw [hV.kd.2]
        cases h2 : Nat.beq (a_cat a) 2 with
        | false => rfl
        | true => rw [h2] at p1; cases p1
    rw [hc]
    cases h2 : Nat.beq (a_cat x) 2 with
    | true =>
      have p3 := p1.1
      rw [h2, Bool.and_true] at p3
      have p3 : Nat.beq j (i + 1) = false := by
        cases h3 : Nat.beq j (i + 1) with
        | false => rfl
        | true => rw [h3] at p3; cases p3
      show (((i, v) :: _).find? fun q => Nat.beq q.1 j).map (·.2) = some u
      rw [List.find?_cons, hb]
      refine q_lg_fl hu ?_
      show (!(Nat.beq j i) && (!(Nat.beq j (i + 1)) && !(Nat.beq (j + 1) i && Nat.beq (q_cat u) 2))) = true
      rw [hb2, p3, hw]
      rfl
    | false =>
      show (((i, v) :: _).find? fun q => Nat.beq q.1 j).map (·.2) = some u
      rw [List.find?_cons, hb]
      refine q_lg_fl hu ?_
      show (!(Nat.beq j i) && !(Nat.beq (j + 1) i && Nat.beq (q_cat u) 2)) = true
      rw [hb2, hw]
      rfl
noncomputable def a_dep (sp : aSp) (code c : Nat) : aW := bif Nat.blt code 1048576 then [(c, c, 0, a_cl sp c)] else a_Md code
noncomputable def a_PF (sp : aSp) (nc code c : Nat) (x : Int) (h : qH) : Prop := (Nat.blt code 1048576 = true → ∀ i, i < a_cl sp c → (i : Int) < x → ∃ z : Int, a_fd h c i = (0, a_w z) ∧ 0 ≤ z ∧ z ≤ code) ∧ (Nat.blt code 1048576 = false → a_M sp nc code x h)
theorem a_PF_fr {sp : aSp} {nc code c : Nat} {x : Int} {h h' : qH} (hc : c < nc) (hf : ∀ i j, i < nc → j < a_cl sp i → a_inS (a_dep sp code c) i j = true → a_fd h' i j = a_fd h i j) (hp : a_PF sp nc code c x h) : a_PF sp nc code c x h' := by
  unfold a_dep at hf
  refine ⟨fun hb i hi hx => ?_, fun hb => ?_⟩
  · rw [hb] at hf
    obtain ⟨z, z1, z2⟩ := hp.1 hb i hi hx
    refine ⟨z, ?_, z2⟩
    rw [hf c i hc hi]
    · exact z1
    · show ((Nat.ble c c && (Nat.ble c c && (Nat.ble 0 i && Nat.blt i (a_cl sp c)))) || false) = true
      rw [q_ble, q_ble, q_blt, decide_eq_true (Nat.le_refl c), decide_eq_true (Nat.zero_le i), decide_eq_true hi]
      rfl
  · rw [hb] at hf
    exact a_M_fr (fun i j hi hj hs => hf i j hi hj hs) (hp.2 hb)
/-- no place of D lies in the cells c .. d at lo .. hi -/
noncomputable def a_dj (D : aW) (c d lo hi : Nat) : Bool := match D with
  | [] => true
  | r :: D => (Nat.blt r.2.1 c || (Nat.blt d r.1 || (Nat.ble r.2.2.2 lo || Nat.blt hi r.2.2.1))) && a_dj D c d lo hi
theorem a_dj_ok {c d lo hi x j : Nat} (h1 : c ≤ x) (h2 : x ≤ d) (h3 : lo ≤ j) (h4 : j ≤ hi) : ∀ {D : aW}, a_dj D c d lo hi = true → a_inS D x j = false
  | [], _ => rfl
  | r :: D, h => by
    have h : ((Nat.blt r.2.1 c || (Nat.blt d r.1 || (Nat.ble r.2.2.2 lo || Nat.blt hi r.2.2.1))) && a_dj D c d lo hi) = true := h
    rw [Bool.and_eq_true] at h
    have ih := a_dj_ok h1 h2 h3 h4 h.2
    show ((Nat.ble r.1 x && (Nat.ble x r.2.1 && (Nat.ble r.2.2.1 j && Nat.blt j r.2.2.2))) || a_inS D x j) = false
    rw [ih, Bool.or_false]
    cases hb : (Nat.ble r.1 x && (Nat.ble x r.2.1 && (Nat.ble r.2.2.1 j && Nat.blt j r.2.2.2))) with
    | false => rfl
    | true =>
      have h := h.1
      simp only [Bool.and_eq_true, Bool.or_eq_true, q_ble, q_blt, decide_eq_true_eq] at hb h
      omega
noncomputable def a_t12 (a : aV) : Bool := Nat.beq a.1 12
/-- what is known of a place; or, at a place behind the last one, a fact (12, its number, a sum) -/
noncomputable def a_Kq (sp : aSp) (nc : Nat) (σ : Nat → Int) (n : Nat) (h : qH) (q : (Nat × Nat) × aV) : Prop := q.1.1 < nc ∧ ((q.1.2 < a_cl sp q.1.1 ∧ a_V σ n q.2 (a_fd h q.1.1 q.1.2)) ∨ (a_cl sp q.1.1 ≤ q.1.2 ∧ q.2.1 = 12 ∧ a_wf n q.2.2.2 ∧ a_PF sp nc q.2.2.1 q.1.1 (a_ev σ q.2.2.2) h))
theorem a_V12 {σ : Nat → Int} {n : Nat} {a : aV} {v : qV} (h : a_V σ n a v) : a.1 ≠ 12 := fun e => by
  obtain ⟨t, s, f⟩ := a
  have e : t = 12 := e
  subst e
  exact h
theorem a_Kq.lo {sp : aSp} {nc : Nat} {σ : Nat → Int} {n : Nat} {h : qH} {q : (Nat × Nat) × aV} (hq : a_Kq sp nc σ n h q) (hj : q.1.2 < a_cl sp q.1.1) : a_V σ n q.2 (a_fd h q.1.1 q.1.2) := by
  obtain ⟨-, ⟨-, h2⟩ | ⟨h1, -⟩⟩ := hq
  · exact h2
  · omega
theorem a_Kq.ext {sp : aSp} {nc : Nat} {σ σ' : Nat → Int} {n n' : Nat} {h : qH} {q : (Nat × Nat) × aV} (hq : a_Kq sp nc σ n h q) (hn : n ≤ n') (hs : ∀ i, i < n → σ' i = σ i) : a_Kq sp nc σ' n' h q := by
  obtain ⟨h0, ⟨h1, h2⟩ | ⟨h1, h2, h3, h4⟩⟩ := hq
  · exact ⟨h0, Or.inl ⟨h1, h2.ext hn hs⟩⟩
  · exact ⟨h0, Or.inr ⟨h1, h2, h3.mono hn, by rw [a_ev_ext hs h3]; exact h4⟩⟩
/-- another heap that is the same where it matters -/
theorem a_Kq.fr {sp : aSp} {nc : Nat} {σ : Nat → Int} {n : Nat} {h h' : qH} {q : (Nat × Nat) × aV} (hq : a_Kq sp nc σ n h q) (h1 : q.2.1 ≠ 12 → a_fd h' q.1.1 q.1.2 = a_fd h q.1.1 q.1.2) (h2 : q.2.1 = 12 → ∀ i j, i < nc → j < a_cl sp i → a_inS (a_dep sp q.2.2.1 q.1.1) i j = true → a_fd h' i j = a_fd h i j) : a_Kq sp nc σ n h' q := by
  obtain ⟨h0, ⟨k1, k2⟩ | ⟨k1, k2, k3, k4⟩⟩ := hq
  · exact ⟨h0, Or.inl ⟨k1, by rw [h1 (a_V12 k2)]; exact k2⟩⟩
  · exact ⟨h0, Or.inr ⟨k1, k2, k3, a_PF_fr h0 (h2 k2) k4⟩⟩
noncomputable def a_Kn (sp : aSp) (nc : Nat) (σ : Nat → Int) (n : Nat) (K : aK) (h : qH) : Prop := ∀ q ∈ K, a_Kq sp nc σ n h q
noncomputable def a_Rs (sp : aSp) (nc : Nat) (σ : Nat → Int) (n : Nat) (h : qH) (lv : qL) (stk : List qV) (K : aK) (al : aL) (sk : List aV) : Prop := a_Kn sp nc σ n K h ∧ a_Lv σ n al lv ∧ a_Sk σ n sk stk
theorem a_Kn.ext {sp : aSp} {nc : Nat} {σ σ' : Nat → Int} {n n' : Nat} {K : aK} {h : qH} (hK : a_Kn sp nc σ n K h) (hn : n ≤ n') (hs : ∀ i, i < n → σ' i = σ i) : a_Kn sp nc σ' n' K h := fun q hq => (hK q hq).ext hn hs
theorem a_Lv.ext {σ σ' : Nat → Int} {n n' : Nat} {al : aL} {lv : qL} (hL : a_Lv σ n al lv) (hn : n ≤ n') (hs : ∀ i, i < n → σ' i = σ i) : a_Lv σ' n' al lv := fun i a h => by
  obtain ⟨v, h1, h2⟩ := hL i a h
  exact ⟨v, h1, h2.ext hn hs⟩
noncomputable def a_St (sp : aSp) (nc : Nat) (σ : Nat → Int) (h : qH) (lv : qL) (stk : List qV) (st : aS) : Prop := a_En σ st.1 ∧ a_Kn sp nc σ (a_n st.1) st.2.1 h ∧ a_Lv σ (a_n st.1) st.2.2.2.1 lv ∧ a_Sk σ (a_n st.1) st.2.2.2.2 stk
/-- the machine goes to one frame, which one of nx covers -/
noncomputable def a_Nx (sp : aSp) (nc : Nat) (S : aW) (σ : Nat → Int) (n : Nat) (env : qE) (h : qH) (r : Option (List qF)) (nx : List aS) : Prop :=
  ∃ (h' : qH) (pc' : Nat) (lv' : qL) (stk' : List qV), r = some [(env, h', 0, 0, pc', lv', stk')] ∧ a_HI sp nc h' ∧ a_Fr sp nc S h h' ∧ ∃ st ∈ nx, st.2.2.1 = pc' ∧ ∃ σ', (∀ i, i < n → σ' i = σ i) ∧ n ≤ a_n st.1 ∧ a_St sp nc σ' h' lv' stk' st
theorem a_V1 {σ : Nat → Int} {n s : Nat} {f : aF} {v : qV} (h : a_V σ n (1, s, f) v) : a_wf n f ∧ v = (0, a_w (a_ev σ f)) ∧ -2147483648 ≤ a_ev σ f ∧ a_ev σ f < 2147483648 := h
theorem a_V4 {σ : Nat → Int} {n s : Nat} {f : aF} {v : qV} (h : a_V σ n (4, s, f) v) : a_wf n f ∧ v = (3, a_W (a_ev σ f)) ∧ -9223372036854775808 ≤ a_ev σ f ∧ a_ev σ f < 9223372036854775808 := h
section
variable {sp : aSp} {nc : Nat} {S : aW} {σ : Nat → Int} {env : qE} {h : qH} {lv : qL} {stk : List qV} {E : aE} {K : aK} {pc : Nat} {al : aL} {sk : List aV} {nx : List aS} {e : qN}
/-- nothing but the stack, the locals, the pc changes -/
theorem a_nx0 {r : Option (List qF)} {pc' : Nat} {lv' : qL} {stk' : List qV} {st : aS} (hr : r = some [(env, h, 0, 0, pc', lv', stk')]) (hh : a_HI sp nc h) (hm : st ∈ nx) (hp : st.2.2.1 = pc') {σ' : Nat → Int} (h1 : ∀ i, i < a_n E → σ' i = σ i) (h2 : a_n E ≤ a_n st.1) (hst : a_St sp nc σ' h lv' stk' st) : a_Nx sp nc S σ (a_n E) env h r nx :=
  ⟨h, pc', lv', stk', hr, hh, a_Fr.rf, st, hm, hp, σ', h1, h2, hst⟩
noncomputable def a_one (x : aS) : Option (List aS) := some [x]
/-- an int's result is pushed -/
theorem a_nxI {r : Option (List qF)} {pc' : Nat} {al' : aL} {sk' : List aV} {lv' : qL} {stk' : List qV} {x : aE × aV} {z : Int32} (hr : r = some [(env, h, 0, 0, pc', lv', (0, qNn z) :: stk')]) (hh : a_HI sp nc h) (hx : a_rI σ E x z) (hK : a_Kn sp nc σ (a_n E) K h) (hL : a_Lv σ (a_n E) al' lv') (hS : a_Sk σ (a_n E) sk' stk') : a_Nx sp nc S σ (a_n E) env h r [(x.1, K, pc', al', x.2 :: sk')] := by
  obtain ⟨σ', h1, h2, h3, h4⟩ := hx
  exact a_nx0 hr hh (List.mem_singleton.mpr rfl) rfl h1 h2 ⟨h3, hK.ext h2 h1, hL.ext h2 h1, h4, hS.ext h2 h1⟩
theorem a_nxJ {r : Option (List qF)} {pc' : Nat} {al' : aL} {sk' : List aV} {lv' : qL} {stk' : List qV} {x : aE × aV} {z : Int64} (hr : r = some [(env, h, 0, 0, pc', lv', (3, qMn z) :: stk')]) (hh : a_HI sp nc h) (hx : a_rJ σ E x z) (hK : a_Kn sp nc σ (a_n E) K h) (hL : a_Lv σ (a_n E) al' lv') (hS : a_Sk σ (a_n E) sk' stk') : a_Nx sp nc S σ (a_n E) env h r [(x.1, K, pc', al', x.2 :: sk')] := by
  obtain ⟨σ', h1, h2, h3, h4⟩ := hx
  exact a_nx0 hr hh (List.mem_singleton.mpr rfl) rfl h1 h2 ⟨h3, hK.ext h2 h1, hL.ext h2 h1, h4, hS.ext h2 h1⟩
-- constants
noncomputable def a_c0 (t n : Nat) : Option aV := match t with
  | 0 => bif Nat.beq (a_w (qI n).toInt) n then some (1, 0, a_cn (qI n).toInt) else none
  | 3 => bif Nat.beq (a_W (qJ n).toInt) n then some (4, 0, a_cn (qJ n).toInt) else none
  | 7 => bif Nat.beq n 0 then some (7, 0, a_cn 0) else none
  | 11 => some (11, n, a_cn 0)
  | _ => none
theorem a_c0_ok {t n : Nat} {x : aV} {m : Nat} (hx : a_c0 t n = some x) : a_V σ m x (t, n) := by
  unfold a_c0 at hx
  split at hx
  · obtain ⟨h1, h2⟩ := q_bt hx
    cases h2
    have e := Nat.eq_of_beq_eq_true h1
    obtain ⟨w1, w2, w3⟩ := a_wI (qI n)
    refine ⟨a_wf.cn, ?_⟩
    show (0, n) = (0, a_w (a_ev σ (a_cn _))) ∧ _ ≤ a_ev σ (a_cn _) ∧ a_ev σ (a_cn _) < _
    rw [a_cn_ev, e]
    exact ⟨rfl, w2, w3⟩
  · obtain ⟨h1, h2⟩ := q_bt hx
    cases h2
    have e := Nat.eq_of_beq_eq_true h1
    obtain ⟨w1, w2, w3⟩ := a_WI (qJ n)
    refine ⟨a_wf.cn, ?_⟩
    show (3, n) = (3, a_W (a_ev σ (a_cn _))) ∧ _ ≤ a_ev σ (a_cn _) ∧ a_ev σ (a_cn _) < _
    rw [a_cn_ev, e]
    exact ⟨rfl, w2, w3⟩
  · obtain ⟨h1, h2⟩ := q_bt hx
    cases h2
    have e := Nat.eq_of_beq_eq_true h1
    show (7, n) = (7, 0)
    rw [e]
  · cases hx
    rfl
  · cases hx
noncomputable def a_s0 (e : qN) (E : aE) (K : aK) (al : aL) (sk : List aV) : Option (List aS) := match a_c0 (q_s0v (q_v e) (q_a e) (q_b e)).1 (q_s0v (q_v e) (q_a e) (q_b e)).2 with
  | none => none
  | some x => a_one (E, K, q_pc e + (q_ins0 (q_v e) (q_a e) (q_b e)).2, al, x :: sk)
theorem a_k0 (hE : a_En σ E) (hh : a_HI sp nc h) (hR : a_Rs sp nc σ (a_n E) h lv stk K al sk) (hs : a_s0 e E K al sk = some nx) : a_Nx sp nc S σ (a_n E) env h (q_s0S e env h 0 0 lv stk) nx := by
  obtain ⟨hK, hL, hS⟩ := hR
  unfold a_s0 at hs
  split at hs
  · cases hs
  · rename_i x hx
    cases hs
    exact a_nx0 rfl hh (List.mem_singleton.mpr rfl) rfl (fun _ _ => rfl) (Nat.le_refl _) ⟨hE, hK, hL, a_c0_ok hx, hS⟩
noncomputable def a_s1 (e : qN) (E : aE) (K : aK) (al : aL) (sk : List aV) : Option (List aS) := match a_lg al (q_a e) with
  | none => none
  | some x => bif Nat.beq (a_kd x) (q_kv (q_v e)) then a_one (E, K, q_pc e + (q_ins1 (q_v e) (q_a e)).2, al, x :: sk) else none
theorem a_k1 (hE : a_En σ E) (hh : a_HI sp nc h) (hR : a_Rs sp nc σ (a_n E) h lv stk K al sk) (hs : a_s1 e E K al sk = some nx) : a_Nx sp nc S σ (a_n E) env h (q_s1S e env h 0 0 lv stk) nx := by
  obtain ⟨hK, hL, hS⟩ := hR
  unfold a_s1 at hs
  split at hs
  · cases hs
  · rename_i x hx
    obtain ⟨h1, h2⟩ := q_bt hs
    cases h2
    obtain ⟨v, hv, hV⟩ := hL _ _ hx
    refine a_nx0 (lv' := lv) (stk' := v :: stk) ?_ hh (List.mem_singleton.mpr rfl) rfl (fun _ _ => rfl) (Nat.le_refl _) ⟨hE, hK, hL, hV, hS⟩
    unfold q_s1S
    rw [hv]
    show (bif Nat.beq (q_knd v) (q_kv (q_v e)) then _ else none) = _
    rw [hV.kd.1, h1]
    rfl
noncomputable def a_s2 (maxL : Nat) (e : qN) (E : aE) (K : aK) (al : aL) (sk : List aV) : Option (List aS) := match sk with
  | [] => none
  | x :: sk => bif Nat.beq (a_kd x) (q_kv (q_v e)) && Nat.blt (q_a e + 1) (maxL + 2 - a_cat x) then a_one (E, K, q_pc e + (q_ins2 (q_v e) (q_a e)).2, a_ls al (q_a e) x, sk) else none
theorem a_k2 {maxL : Nat} (hE : a_En σ E) (hh : a_HI sp nc h) (hR : a_Rs sp nc σ (a_n E) h lv stk K al sk) (hs : a_s2 maxL e E K al sk = some nx) : a_Nx sp nc S σ (a_n E) env h (q_s2S maxL e env h 0 0 lv stk) nx := by
  obtain ⟨hK, hL, hS⟩ := hR
  unfold a_s2 at hs
  split at hs
  · cases hs
  · rename_i x sk
    obtain ⟨h1, h2⟩ := q_bt hs
    cases h2
    obtain ⟨v, stk, rfl, hV, hS⟩ := hS.cons
    refine a_nx0 ?_ hh (List.mem_singleton.mpr rfl) rfl (fun _ _ => rfl) (Nat.le_refl _) ⟨hE, hK, hL.store hV, hS⟩
    have hc : (Nat.beq (q_knd v) (q_kv (q_v e)) && Nat.blt (q_a e + 1) (maxL + 2 - q_cat v)) = true := by rw [hV.kd.1, hV.kd.2]; exact h1
    show (bif Nat.beq (q_knd v) (q_kv (q_v e)) && Nat.blt (q_a e + 1) (maxL + 2 - q_cat v) then _ else none) = _
    rw [hc]
    rfl
noncomputable def a_s3 (maxL : Nat) (e : qN) (E : aE) (K : aK) (al : aL) (sk : List aV) : Option (List aS) := match a_lg al (q_a e) with
  | none => none
  | some x => bif Nat.beq x.1 1 && Nat.blt (q_a e) maxL then a_one ((a_ckI E (a_pl x.2.2 (q_sgn (q_b e) (q_v e)))).1, K, q_pc e + 3, a_ls al (q_a e) (a_ckI E (a_pl x.2.2 (q_sgn (q_b e) (q_v e)))).2, sk) else none
theorem a_k3 {maxL : Nat} (hE : a_En σ E) (hh : a_HI sp nc h) (hR : a_Rs sp nc σ (a_n E) h lv stk K al sk) (hs : a_s3 maxL e E K al sk = some nx) : a_Nx sp nc S σ (a_n E) env h (q_s3S maxL e env h 0 0 lv stk) nx := by
  obtain ⟨hK, hL, hS⟩ := hR
  unfold a_s3 at hs
  split at hs
  · cases hs
  · rename_i x hx
    obtain ⟨h1, h2⟩ := q_bt hs
    cases h2
    obtain ⟨v, hv, hV⟩ := hL _ _ hx
    rw [Bool.and_eq_true] at h1
    obtain ⟨t, s, f⟩ := x
    have ht := Nat.eq_of_beq_eq_true h1.1
    have ht : t = 1 := ht
    subst ht
    obtain ⟨wf, rfl, r1, r2⟩ := a_V1 hV
    have hz : qI (a_w (a_ev σ f)) + Int32.ofInt (q_sgn (q_b e) (q_v e)) = Int32.ofInt (a_ev σ (a_pl f (q_sgn (q_b e) (q_v e)))) := by
      rw [a_pl_ev, Int32.ofInt_add, a_qI]
    obtain ⟨σ', g1, g2, g3, g4⟩ := a_ckI_ok hE (f := a_pl f (q_sgn (q_b e) (q_v e))) wf hz
    refine a_nx0 ?_ hh (List.mem_singleton.mpr rfl) rfl g1 g2 ⟨g3, hK.ext g2 g1, (hL.ext g2 g1).store g4, hS.ext g2 g1⟩
    unfold q_s3S
    rw [hv]
    show (bif Nat.beq (q_knd (0, a_w (a_ev σ f))) 0 && Nat.blt (q_a e) maxL then _ else none) = _
    rw [h1.2]
    rfl
noncomputable def a_s4 (e : qN) (E : aE) (K : aK) (al : aL) (sk : List aV) : Option (List aS) := match sk with
  | y :: x :: sk => bif Nat.beq x.1 1 && Nat.beq y.1 1 then (match a_f4 (q_v e) E x.2.2 y.2.2 with
      | none => none
      | some r => a_one (r.1, K, q_pc e + 1, al, r.2 :: sk)) else none
  | _ => none
theorem a_k4 (hE : a_En σ E) (hh : a_HI sp nc h) (hR : a_Rs sp nc σ (a_n E) h lv stk K al sk) (hs : a_s4 e E K al sk = some nx) : a_Nx sp nc S σ (a_n E) env h (q_s4S e env h 0 0 lv stk) nx := by
  obtain ⟨hK, hL, hS⟩ := hR
  unfold a_s4 at hs
  split at hs
  · rename_i y x sk
    obtain ⟨h1, hs⟩ := q_bt hs
    split at hs
    · cases hs
    · rename_i r hr
      cases hs
      obtain ⟨yv, stk1, rfl, hy, hS1⟩ := hS.cons
      obtain ⟨xv, stk2, rfl, hx, hS2⟩ := hS1.cons
      rw [Bool.and_eq_true] at h1
      obtain ⟨t, s, f⟩ := x
      obtain ⟨t2, s2, g⟩ := y
      have ht : t = 1 := Nat.eq_of_beq_eq_true h1.1
      have ht2 : t2 = 1 := Nat.eq_of_beq_eq_true h1.2
      subst ht; subst ht2
      obtain ⟨wf, rfl, r1, r2⟩ := a_V1 hx
      obtain ⟨wg, rfl, r3, r4⟩ := a_V1 hy
      obtain ⟨k1, k2⟩ := a_f4_ok hE wf wg r1 r2 r3 r4 hr
      refine a_nxI ?_ hh k1 hK hL hS2
      show (bif Nat.ble 8 (q_v e) && decide (qI (a_w (a_ev σ g)) = 0) then none else q_gvS env h 0 0 (q_pc e + 1) lv 0 (qNn (q_f4 (q_v e) (qI (a_w (a_ev σ f))) (qI (a_w (a_ev σ g))))) stk2) = _
      have hc : (Nat.ble 8 (q_v e) && decide (qI (a_w (a_ev σ g)) = 0)) = false := by
        rw [q_ble]
        by_cases h8 : 8 ≤ q_v e
        · rw [decide_eq_false (k2 h8), Bool.and_false]
        · rw [decide_eq_false h8, Bool.false_and]
      rw [hc]
      rfl
  · cases hs
noncomputable def a_s5 (e : qN) (E : aE) (K : aK) (al : aL) (sk : List aV) : Option (List aS) := match sk with
  | y :: x :: sk => bif Nat.beq x.1 4 && Nat.beq y.1 4 then (match a_f5 (q_v e) E x.2.2 y.2.2 with
      | none => none
      | some r => a_one (r.1, K, q_pc e + 1, al, r.2 :: sk)) else none
  | _ => none
theorem a_k5 (hE : a_En σ E) (hh : a_HI sp nc h) (hR : a_Rs sp nc σ (a_n E) h lv stk K al sk) (hs : a_s5 e E K al sk = some nx) : a_Nx sp nc S σ (a_n E) env h (q_s5S e env h 0 0 lv stk) nx := by
  obtain ⟨hK, hL, hS⟩ := hR
  unfold a_s5 at hs
  split at hs
  · rename_i y x sk
    obtain ⟨h1, hs⟩ := q_bt hs
    split at hs
    · cases hs
    · rename_i r hr
      cases hs
      obtain ⟨yv, stk1, rfl, hy, hS1⟩ := hS.cons
      obtain ⟨xv, stk2, rfl, hx, hS2⟩ := hS1.cons
      rw [Bool.and_eq_true] at h1
      obtain ⟨t, s, f⟩ := x
      obtain ⟨t2, s2, g⟩ := y
      have ht : t = 4 := Nat.eq_of_beq_eq_true h1.1
      have ht2 : t2 = 4 := Nat.eq_of_beq_eq_true h1.2
      subst ht; subst ht2
      obtain ⟨wf, rfl, r1, r2⟩ := a_V4 hx
      obtain ⟨wg, rfl, r3, r4⟩ := a_V4 hy
      obtain ⟨k1, k2, k3⟩ := a_f5_ok hE wf wg r1 r2 r3 r4 hr
      refine a_nxJ ?_ hh k1 hK hL hS2
      have h7 : Nat.ble 7 (q_v e) = false := by rw [q_ble]; exact decide_eq_false (by omega)
      show (bif Nat.ble 7 (q_v e) then _ else (bif Nat.ble 5 (q_v e) && decide (qJ (a_W (a_ev σ g)) = 0) then none else q_gvS env h 0 0 (q_pc e + 1) lv 3 (qMn (q_f5 (q_v e) (qJ (a_W (a_ev σ f))) (qJ (a_W (a_ev σ g))))) stk2)) = _
      rw [h7]
      have hc : (Nat.ble 5 (q_v e) && decide (qJ (a_W (a_ev σ g)) = 0)) = false := by
        rw [q_ble]
        by_cases h8 : 5 ≤ q_v e
        · rw [decide_eq_false (k2 h8), Bool.and_false]
        · rw [decide_eq_false h8, Bool.false_and]
      rw [hc]
      rfl
  · cases hs
-- conversions
noncomputable def a_f6 (v : Nat) (E : aE) (x : aV) : Option (aE × aV) := match v with
  | 0 => bif Nat.beq x.1 1 then some (E, (4, 0, x.2.2)) else none
  | 1 => bif Nat.beq x.1 4 then some (a_ckI E x.2.2) else none
  | 2 => bif Nat.beq x.1 1 then some (bif a_ile (-128) (a_lo E x.2.2) && a_ile (a_hi E x.2.2) 127 then (E, x) else a_fr 1 E (-128) 127) else none
  | 3 => bif Nat.beq x.1 1 then some (bif a_ile (-32768) (a_lo E x.2.2) && a_ile (a_hi E x.2.2) 32767 then (E, x) else a_fr 1 E (-32768) 32767) else none
  | _ => none
theorem a_i2b (x : Int32) : -128 ≤ x.toInt8.toInt32.toInt ∧ x.toInt8.toInt32.toInt ≤ 127 ∧ (-128 ≤ x.toInt → x.toInt ≤ 127 → x.toInt8.toInt32.toInt = x.toInt) := by
  have h1 := x.toInt8.toInt_lt
  have h2 := x.toInt8.le_toInt
  rw [Int8.toInt_toInt32]
  refine ⟨by omega, by omega, fun a b => ?_⟩
  rw [Int32.toInt_toInt8, Int.bmod_def]
  omega
theorem a_i2s (x : Int32) : -32768 ≤ x.toInt16.toInt32.toInt ∧ x.toInt16.toInt32.toInt ≤ 32767 ∧ (-32768 ≤ x.toInt → x.toInt ≤ 32767 → x.toInt16.toInt32.toInt = x.toInt) := by
  have h1 := x.toInt16.toInt_lt
  have h2 := x.toInt16.le_toInt
  rw [Int16.toInt_toInt32]
  refine ⟨by omega, by omega, fun a b => ?_⟩
  rw [Int32.toInt_toInt16, Int.bmod_def]
  omega
noncomputable def a_s6 (e : qN) (E : aE) (K : aK) (al : aL) (sk : List aV) : Option (List aS) := match sk with
  | x :: sk => (match a_f6 (q_v e) E x with
      | none => none
      | some r => a_one (r.1, K, q_pc e + 1, al, r.2 :: sk))
  | _ => none
theorem a_k6 (hE : a_En σ E) (hh : a_HI sp nc h) (hR : a_Rs sp nc σ (a_n E) h lv stk K al sk) (hs : a_s6 e E K al sk = some nx) : a_Nx sp nc S σ (a_n E) env h (q_s6S e env h 0 0 lv stk) nx := by
  obtain ⟨hK, hL, hS⟩ := hR
  unfold a_s6 at hs
  split at hs
  · rename_i x sk
    split at hs
    · cases hs
    · rename_i r hr
      cases hs
      obtain ⟨xv, stk2, rfl, hx, hS2⟩ := hS.cons
      obtain ⟨t, s, f⟩ := x
      obtain ⟨op, p, v, a, b, w, tt⟩ := e
      have hr : a_f6 v E (t, s, f) = some r := hr
      rcases v with _ | _ | _ | _ | v
      · obtain ⟨h1, hr⟩ := q_bt hr
        cases hr
        have ht : t = 1 := Nat.eq_of_beq_eq_true h1
        subst ht
        obtain ⟨wf, rfl, r1, r2⟩ := a_V1 hx
        have hz : (qI (a_w (a_ev σ f))).toInt64.toInt = a_ev σ f := by rw [Int32.toInt_toInt64]; exact a_qIt r1 r2
        exact a_nxJ rfl hh (a_kpJ hE wf hz) hK hL hS2
      · obtain ⟨h1, hr⟩ := q_bt hr
        cases hr
        have ht : t = 4 := Nat.eq_of_beq_eq_true h1
        subst ht
        obtain ⟨wf, rfl, r1, r2⟩ := a_V4 hx
        refine a_nxI rfl hh (a_ckI_ok hE wf (z := (qJ (a_W (a_ev σ f))).toInt32) ?_) hK hL hS2
        apply Int32.toInt_inj.mp
        rw [Int64.toInt_toInt32, a_qJt r1 r2, Int32.toInt_ofInt]
      · obtain ⟨h1, hr⟩ := q_bt hr
        cases hr
        have ht : t = 1 := Nat.eq_of_beq_eq_true h1
        subst ht
        obtain ⟨wf, rfl, r1, r2⟩ := a_V1 hx
        obtain ⟨k1, k2, k3⟩ := a_i2b (qI (a_w (a_ev σ f)))
        have ez := a_qIt r1 r2
        refine a_nxI (x := bif a_ile (-128) (a_lo E f) && a_ile (a_hi E f) 127 then (E, (1, s, f)) else a_fr 1 E (-128) 127) rfl hh ?_ hK hL hS2
        cases hc : (a_ile (-128) (a_lo E f) && a_ile (a_hi E f) 127) with
        | false => exact a_frI_ok hE k1 k2
        | true =>
          rw [Bool.and_eq_true] at hc
          have c1 := a_ile_ok.mp hc.1
          have c2 := a_ile_ok.mp hc.2
          obtain ⟨b1, b2⟩ := a_b_ok hE wf
          exact a_kpI hE wf (by rw [k3 (by omega) (by omega)]; exact ez)
      · obtain ⟨h1, hr⟩ := q_bt hr
        cases hr
        have ht : t = 1 := Nat.eq_of_beq_eq_true h1
        subst ht
        obtain ⟨wf, rfl, r1, r2⟩ := a_V1 hx
        obtain ⟨k1, k2, k3⟩ := a_i2s (qI (a_w (a_ev σ f)))
        have ez := a_qIt r1 r2
        refine a_nxI (x := bif a_ile (-32768) (a_lo E f) && a_ile (a_hi E f) 32767 then (E, (1, s, f)) else a_fr 1 E (-32768) 32767) rfl hh ?_ hK hL hS2
        cases hc : (a_ile (-32768) (a_lo E f) && a_ile (a_hi E f) 32767) with
        | false => exact a_frI_ok hE k1 k2
        | true =>
          rw [Bool.and_eq_true] at hc
          have c1 := a_ile_ok.mp hc.1
          have c2 := a_ile_ok.mp hc.2
          obtain ⟨b1, b2⟩ := a_b_ok hE wf
          exact a_kpI hE wf (by rw [k3 (by omega) (by omega)]; exact ez)
      · cases hr
  · cases hs
/-- lneg -/
noncomputable def a_s28 (e : qN) (E : aE) (K : aK) (al : aL) (sk : List aV) : Option (List aS) := match sk with
  | x :: sk => bif Nat.beq x.1 4 then a_one ((a_ckJ E (a_dif (a_cn 0) x.2.2)).1, K, q_pc e + 1, al, (a_ckJ E (a_dif (a_cn 0) x.2.2)).2 :: sk) else none
  | _ => none
theorem a_k28 (hE : a_En σ E) (hh : a_HI sp nc h) (hR : a_Rs sp nc σ (a_n E) h lv stk K al sk) (hs : a_s28 e E K al sk = some nx) : a_Nx sp nc S σ (a_n E) env h (q_s28S e env h 0 0 lv stk) nx := by
  obtain ⟨hK, hL, hS⟩ := hR
  unfold a_s28 at hs
  split at hs
  · rename_i x sk
    obtain ⟨h1, hs⟩ := q_bt hs
    cases hs
    obtain ⟨xv, stk2, rfl, hx, hS2⟩ := hS.cons
    obtain ⟨t, s, f⟩ := x
    have ht : t = 4 := Nat.eq_of_beq_eq_true h1
    subst ht
    obtain ⟨wf, rfl, r1, r2⟩ := a_V4 hx
    refine a_nxJ rfl hh (a_ckJ_ok hE (a_wf.cn.dif wf) (z := -(qJ (a_W (a_ev σ f)))) ?_) hK hL hS2
    rw [a_dif_ev, a_cn_ev, a_qJ, Int.zero_sub, Int64.ofInt_neg]
  · cases hs
-- texts
noncomputable def a_s29 (e : qN) (E : aE) (K : aK) (al : aL) (sk : List aV) : Option (List aS) := match sk with
  | x :: sk => bif Nat.beq x.1 11 && Nat.blt x.2.1 q_lits.length && Nat.ble (sk.map a_cat).sum 8 then (match a_c0 0 (q_lit x.2.1).length with
      | none => none
      | some y => a_one (E, K, q_pc e + 3, al, y :: sk)) else none
  | _ => none
theorem a_k29 (hE : a_En σ E) (hh : a_HI sp nc h) (hR : a_Rs sp nc σ (a_n E) h lv stk K al sk) (hs : a_s29 e E K al sk = some nx) : a_Nx sp nc S σ (a_n E) env h (q_s29S e env h 0 0 lv stk) nx := by
  obtain ⟨hK, hL, hS⟩ := hR
  unfold a_s29 at hs
  split at hs
  · rename_i x sk
    obtain ⟨h1, hs⟩ := q_bt hs
    split at hs
    · cases hs
    · rename_i y hy
      cases hs
      obtain ⟨xv, stk2, rfl, hx, hS2⟩ := hS.cons
      obtain ⟨t, s, f⟩ := x
      rw [Bool.and_eq_true, Bool.and_eq_true] at h1
      have ht : t = 11 := Nat.eq_of_beq_eq_true h1.1.1
      subst ht
      have hx : xv = (11, s) := hx
      subst hx
      refine a_nx0 (stk' := (0, (q_lit s).length) :: stk2) ?_ hh (List.mem_singleton.mpr rfl) rfl (fun _ _ => rfl) (Nat.le_refl _) ⟨hE, hK, hL, a_c0_ok hy, hS2⟩
      show (bif true && Nat.blt s q_lits.length && Nat.ble (stk2.map q_cat).sum 8 && Nat.beq 0 0 && Nat.beq 0 0 then _ else none) = _
      rw [hS2.cats]
      have h2 : Nat.blt s q_lits.length = true := h1.1.2
      rw [h2, h1.2]
      rfl
  · cases hs
/-- a text's letter at a known place -/
noncomputable def a_chr (s : Nat) (g : aF) (E : aE) : aE × aV := bif a_iz (a_hi E g - a_lo E g) then (E, (1, 0, a_cn ((q_lit s).getD (a_lo E g).toNat 0 : Nat))) else a_fuI E
/-- the char at a place: which one is not said, but between what the text has -/
noncomputable def a_s30 (e : qN) (E : aE) (K : aK) (al : aL) (sk : List aV) : Option (List aS) := match sk with
  | y :: x :: sk => bif Nat.beq x.1 11 && Nat.blt x.2.1 q_lits.length && Nat.beq y.1 1 && a_ge E y.2.2 0 && a_lef E y.2.2 (((q_lit x.2.1).length : Int) - 1) && Nat.ble (sk.map a_cat).sum 8 then a_one ((a_chr x.2.1 y.2.2 E).1, K, q_pc e + 3, al, (a_chr x.2.1 y.2.2 E).2 :: sk) else none
  | _ => none
theorem a_k30 (hE : a_En σ E) (hh : a_HI sp nc h) (hR : a_Rs sp nc σ (a_n E) h lv stk K al sk) (hs : a_s30 e E K al sk = some nx) : a_Nx sp nc S σ (a_n E) env h (q_s30S e env h 0 0 lv stk) nx := by
  obtain ⟨hK, hL, hS⟩ := hR
  unfold a_s30 at hs
  split at hs
  · rename_i y x sk
    obtain ⟨h1, hs⟩ := q_bt hs
    cases hs
    obtain ⟨yv, stk1, rfl, hy, hS1⟩ := hS.cons
    obtain ⟨xv, stk2, rfl, hx, hS2⟩ := hS1.cons
    obtain ⟨t, s, f⟩ := x
    obtain ⟨t2, s2, g⟩ := y
    simp only [Bool.and_eq_true] at h1
    obtain ⟨⟨⟨⟨⟨c1, c2⟩, c3⟩, c4⟩, c5⟩, c6⟩ := h1
    have ht : t = 11 := Nat.eq_of_beq_eq_true c1
    subst ht
    have ht : t2 = 1 := Nat.eq_of_beq_eq_true c3
    subst ht
    have hx : xv = (11, s) := hx
    subst hx
    obtain ⟨wf, rfl, r1, r2⟩ := a_V1 hy
    have b1 : 0 ≤ a_ev σ g := a_ge_ok hE wf c4
    have b2 : a_ev σ g ≤ ((q_lit s).length : Int) - 1 := a_lef_ok hE wf c5
    have hw : a_w (a_ev σ g) = (a_ev σ g).toNat := by unfold a_w; omega
    have hl : Nat.blt (a_w (a_ev σ g)) (q_lit s).length = true := by rw [q_blt, hw]; exact decide_eq_true (by omega)
    have hm : (q_lit s).getD (a_w (a_ev σ g)) 0 < 256 := by
      have hall : ∀ l ∈ q_lits, ∀ b ∈ l, b < 256 := by decide +kernel
      have hl2 : a_w (a_ev σ g) < (q_lit s).length := by rw [q_blt] at hl; exact of_decide_eq_true hl
      have hs2 : s < q_lits.length := by have c2 : Nat.blt s q_lits.length = true := c2; rw [q_blt] at c2; exact of_decide_eq_true c2
      rw [List.getD_eq_getElem?_getD, List.getElem?_eq_getElem hl2]
      refine hall (q_lit s) ?_ _ (List.getElem_mem hl2)
      unfold q_lit
      rw [List.getD_eq_getElem?_getD, List.getElem?_eq_getElem hs2]
      exact List.getElem_mem hs2
    have hn : qNn (Int32.ofInt ((q_lit s).getD (a_w (a_ev σ g)) 0)) = (q_lit s).getD (a_w (a_ev σ g)) 0 := by
      generalize (q_lit s).getD (a_w (a_ev σ g)) 0 = c at hm ⊢
      rw [a_wN]; unfold a_w; omega
    refine a_nxI (z := Int32.ofInt ((q_lit s).getD (a_w (a_ev σ g)) 0)) ?_ hh ?_ hK hL hS2
    rw [hn]
    show (bif true && Nat.blt s q_lits.length && true && Nat.blt (a_w (a_ev σ g)) (q_lit s).length && Nat.ble (stk2.map q_cat).sum 8 && Nat.beq 0 0 && Nat.beq 0 0 then _ else none) = _
    rw [hS2.cats, hl]
    have h2 : Nat.blt s q_lits.length = true := c2
    rw [h2, c6]
    rfl
    unfold a_chr
    cases hc : a_iz (a_hi E g - a_lo E g) with
    | false => exact a_fuI_ok hE _
    | true =>
      refine a_kpI hE a_wf.cn ?_
      rw [a_cn_ev]
      have hg : a_ev σ g = a_lo E g := by
        have h8 := a_iz_ok hc
        have h9 := a_b_ok hE wf
        omega
      rw [hw, hg] at hm ⊢
      generalize (q_lit s).getD (a_lo E g).toNat 0 = c at hm ⊢
      rw [Int32.toInt_ofInt_of_le (by omega) (by omega)]
  · cases hs
end
