-- 73.inv: what holds between the law's calls
noncomputable def q_INV (h : qH) : Prop := a_HI q_SP 557 h ∧ (∀ c, c < q_NC → a_Dj q_SP 557 (q_Cmp c) h) ∧ ∃ v, v ≤ 3 ∧ a_Pic q_SP 557 (q_Pvw v) h ∧ ∀ j, j < v → a_Dj q_SP 557 (q_Prb j) h
/-- a value of that kind -/
noncomputable def q_Kd1 (k : Nat) (v : qV) : Prop := ∃ x : Int, v = (bif Nat.beq k 2 then (3, a_W x) else (0, a_w x)) ∧ (q_Iv k).1 ≤ x ∧ x ≤ (q_Iv k).2 ∧ k ≤ 2
noncomputable def q_Kd : List Nat → List qV → Prop
  | [], [] => True
  | k :: ks, v :: vs => q_Kd1 k v ∧ q_Kd ks vs
  | _, _ => False
/-- a value of that kind, between p's ends -/
noncomputable def q_Kp1 (k : Nat) (p : Int × Int) (v : qV) : Prop := ∃ x : Int, v = (bif Nat.beq k 2 then (3, a_W x) else (0, a_w x)) ∧ p.1 ≤ x ∧ x ≤ p.2 ∧ (q_Iv k).1 ≤ x ∧ x ≤ (q_Iv k).2 ∧ k ≤ 2
noncomputable def q_Kp : List Nat → List (Int × Int) → List qV → Prop
  | [], [], [] => True
  | k :: ks, p :: ps, v :: vs => q_Kp1 k p v ∧ q_Kp ks ps vs
  | _, _, _ => False
theorem q_Kd_Kp : ∀ {ks : List Nat} {vs : List qV}, q_Kd ks vs → q_Kp ks (ks.map q_Iv) vs
  | [], [], _ => trivial
  | [], _ :: _, h => (h : False).elim
  | _ :: _, [], h => (h : False).elim
  | _ :: _, _ :: _, ⟨⟨x, h1, h2, h3, h4⟩, hr⟩ => ⟨⟨x, h1, h2, h3, h2, h3, h4⟩, q_Kd_Kp hr⟩
theorem q_Kp_ln : ∀ {ks : List Nat} {ps : List (Int × Int)} {vs : List qV}, q_Kp ks ps vs → ps.length = ks.length
  | [], [], [], _ => rfl
  | _ :: _, _ :: _, _ :: _, h => congrArg (· + 1) (q_Kp_ln h.2)
  | [], [], _ :: _, h => (h : False).elim
  | [], _ :: _, _, h => (h : False).elim
  | _ :: _, [], _, h => (h : False).elim
  | _ :: _, _ :: _, [], h => (h : False).elim
theorem q_Kp_ok : ∀ {ks : List Nat} {ps : List (Int × Int)} {vs : List qV} (n : Nat) (σ : Nat → Int), q_Kp ks ps vs → ∃ σ' : Nat → Int, (∀ i, i < n → σ' i = σ i) ∧ (∀ (i : Nat) (p : Int × Int), ps[i]? = some p → p.1 ≤ σ' (n + i) ∧ σ' (n + i) ≤ p.2) ∧ a_Sk σ' (n + ks.length) (q_Ag n ks) vs
  | [], [], [], n, σ, _ => ⟨σ, fun _ _ => rfl, fun i p h => by simp at h, trivial⟩
  | [], [], _ :: _, _, _, h => (h : False).elim
  | [], _ :: _, _, _, _, h => (h : False).elim
  | _ :: _, [], _, _, _, h => (h : False).elim
  | _ :: _, _ :: _, [], _, _, h => (h : False).elim
  | k :: ks, p0 :: ps, v :: vs, n, σ, h => by
    obtain ⟨⟨x, hv, p1, p2, h1, h2, h3⟩, hr⟩ := h
    obtain ⟨σ', g1, g2, g3⟩ := q_Kp_ok (n + 1) (fun i => if i = n then x else σ i) hr
    have gx : σ' n = x := by
      rw [g1 n (Nat.lt_succ_self n)]
      exact if_pos rfl
    refine ⟨σ', fun i hi => ?_, fun i p hp => ?_, ?_, ?_⟩
    · rw [g1 i (by omega)]
      exact if_neg (by omega)
    · rcases i with _ | i
      · have e : p0 = p := Option.some.inj hp
        rw [← e, Nat.add_zero, gx]
        exact ⟨p1, p2⟩
      · rw [show n + (i + 1) = n + 1 + i by omega]
        exact g2 i p hp
    · have hw : a_wf (n + (ks.length + 1)) (a_sy n) := a_wf.sy (by omega)
      have ev : a_ev σ' (a_sy n) = x := by rw [a_sy_ev, gx]
      rcases k with _ | _ | _ | k
      · have h1 : (-2147483648 : Int) ≤ x := h1
        have h2 : x ≤ (2147483647 : Int) := h2
        exact ⟨hw, by rw [ev]; exact hv, by rw [ev]; exact h1, by rw [ev]; omega⟩
      · have h1 : (0 : Int) ≤ x := h1
        have h2 : x ≤ (1 : Int) := h2
        exact ⟨hw, by rw [ev]; exact hv, by rw [ev]; omega, by rw [ev]; omega⟩
      · have h1 : (-9223372036854775808 : Int) ≤ x := h1
        have h2 : x ≤ (9223372036854775807 : Int) := h2
        exact ⟨hw, by rw [ev]; exact hv, by rw [ev]; exact h1, by rw [ev]; omega⟩
      · omega
    · rw [show n + (k :: ks).length = n + 1 + ks.length by simp only [List.length_cons]; omega]
      exact g3
-- calls, with the picture after each
noncomputable def q_Sr (tab : Nat → qM) (D : Nat) (env : qE) : List (Nat × List qV) → qH → List qV → (qH → List qV → Prop) → Prop
  | [], h, rs, P => P h rs
  | c :: cs, h, rs, P => ∃ (h' : qH) (r : Option qV), q_GM tab D c.1 env h c.2 (fun o => o = (env, h', r)) ∧ a_HI q_SP 557 h' ∧ q_Sr tab D env cs h' (r.toList ++ rs) P
theorem q_seq_ok {tab : Nat → qM} {ct : Nat → List (Nat × aCon)} {T : aW} {D : Nat} {env : qE} {h0 : qH} {post : aE → aK → List aV → Bool} {Q : qH → List qV → Prop} (hct : ∀ id, ∀ q ∈ ct id, q.1 ≤ D → a_Con q_SP 557 tab q.1 id q.2)
    (hpost : ∀ (E : aE) (K : aK) (rs : List aV) (σ : Nat → Int) (h : qH) (vals : List qV), post E K rs = true → a_En σ E → a_Kn q_SP 557 σ (a_n E) K h → a_HI q_SP 557 h → a_Fr q_SP 557 T h0 h → a_Sk σ (a_n E) rs vals → Q h vals) :
    ∀ {cs : List (Nat × List aV)} {E : aE} {K : aK} {rs : List aV} {σ : Nat → Int} {h : qH} {vals : List qV} {vcs : List (Nat × List qV)}, a_seq q_SP 557 ct T D post cs E K rs = true → a_En σ E → a_Kn q_SP 557 σ (a_n E) K h → a_HI q_SP 557 h → a_Fr q_SP 557 T h0 h → a_Sk σ (a_n E) rs vals → a_Ar σ (a_n E) cs vcs → q_Sr tab D env vcs h vals Q
  | [], E, K, rs, σ, h, vals, [], hs, hE, hK, hh, hF, hS, _ => hpost E K rs σ h vals hs hE hK hh hF hS
  | [], E, K, rs, σ, h, vals, _ :: _, _, _, _, _, _, _, hA => (hA : False).elim
  | _ :: _, E, K, rs, σ, h, vals, [], _, _, _, _, _, _, hA => (hA : False).elim
  | c :: cs, E, K, rs, σ, h, vals, v :: vcs, hs, hE, hK, hh, hF, hS, hA => by
    obtain ⟨a1, a2, a3⟩ := hA
    unfold a_seq at hs
    split at hs
    · cases hs
    · rename_i nx hnx
      obtain ⟨C, rr, B, hc2, hrr, hB, hq2, hcc⟩ := a_callx (sp := q_SP) (nc := 557) (ct := ct) (rc := fun _ => []) (ρ0 := a_cn 0) (S := T) (D := D) hnx
      obtain ⟨σ1, g1, g2, g3, g4⟩ := a_rds_ok hh _ hE hK hrr
      have g2 : a_n E ≤ a_n rr.1 := g2
      obtain ⟨w1, w2, w3, w4, w5, w6, w7⟩ := a_cv_ok (al := []) (lv := []) g3 g4 (fun i a hi => by cases hi) (a2.ext g2 g1) (Nat.zero_le _) hB
      rcases hcc with ⟨d, hdD, hq1⟩ | ⟨ρ', hq1, -⟩
      · obtain ⟨h', ro, hcall, hh', hF', o, ho, σ2, o1, o2, o3, o4⟩ := hct c.1 (d, C) hq1 hdD env h (a_sg σ1 B) v.2 hh w3 w6 w4
        obtain ⟨st, m1, m2, σ3, k1, k2, k3⟩ := a_end_ok (pc := 0) (al := []) (lv := []) g3 g4 (fun i a hi => by cases hi) (hS.ext g2 g1) w1 hF' (by rw [w2]; exact o1) o2 o3 o4
        have hmem : st ∈ nx := by
          rw [← hq2]
          exact a_ends_mem m1 ho
        have hgo := List.all_eq_true.mp hs st hmem
        have k2 : a_n rr.1 ≤ a_n st.1 := k2
        refine ⟨h', ro, ?_, hh', ?_⟩
        · rw [← a1]
          exact a_GM_le hdD hcall
        · exact q_seq_ok hct hpost hgo k3.1 k3.2.1 hh' (hF.tr (a_Fr.sub hc2 hF')) k3.2.2.2 (a3.ext (Nat.le_trans g2 k2) (fun i hi => by rw [k1 i (by omega), g1 i hi]))
      · exact absurd hq1 List.not_mem_nil
/-- which tag an answer has: 1 an int, 4 a long -/
noncomputable def q_tv (t : Nat) : Nat := bif Nat.beq t 1 then 0 else 3
theorem q_tV {σ : Nat → Int} {n t : Nat} {a : aV} {v : qV} (ht : t = 1 ∨ t = 4) (ha : a.1 = t) (h : a_V σ n a v) : v.1 = q_tv t ∧ a_wf n a.2.2 ∧ v = (bif Nat.beq t 1 then (0, a_w (a_ev σ a.2.2)) else (3, a_W (a_ev σ a.2.2))) := by
  obtain ⟨x, y, f⟩ := a
  have ha : x = t := ha
  subst ha
  rcases ht with rfl | rfl
  · obtain ⟨h1, h2, -⟩ := (h : a_wf n f ∧ v = (0, a_w (a_ev σ f)) ∧ _)
    exact ⟨by rw [h2]; rfl, h1, h2⟩
  · obtain ⟨h1, h2, -⟩ := (h : a_wf n f ∧ v = (3, a_W (a_ev σ f)) ∧ _)
    exact ⟨by rw [h2]; rfl, h1, h2⟩
theorem q_gen {act posts : List (List aPic)} {t : Nat} {ks : List Nat} {eq : Bool} {T : aW} {w1 w2 : Nat} {vs : List qV} {env : qE} {h : qH} {I : List (Int × Int)} (ht : t = 1 ∨ t = 4)
    (hs : ((a_adds q_SP act (I, []) []).all fun s => a_seq q_SP 557 q_CT T q_Dm (q_post posts [t, t] eq) [(w1, (6, 0, ([], 0)) :: q_Ag 0 ks), (w2, (6, 534, ([], 0)) :: q_Ag 0 ks)] s.1 s.2 []) = true)
    (hh : a_HI q_SP 557 h) (hact : ∀ Ps ∈ act, a_Dj q_SP 557 Ps h) (hk : q_Kp ks I vs) :
    q_Sr q_T q_Dm env [(w1, (6, 0) :: vs), (w2, (6, 534) :: vs)] h [] (fun h' rs => a_HI q_SP 557 h' ∧ a_Fr q_SP 557 T h h' ∧ (∀ Ps ∈ posts, a_Dj q_SP 557 Ps h') ∧ ∃ a b, rs = [b, a] ∧ a.1 = q_tv t ∧ b.1 = q_tv t ∧ (eq = true → a = b)) := by
  obtain ⟨σ, -, g2, g3⟩ := q_Kp_ok 0 (fun _ => 0) hk
  rw [Nat.zero_add] at g3
  have hE : a_En σ (I, []) := ⟨fun i p hp => by have := g2 i p hp; rw [Nat.zero_add] at this; exact this, fun q hq => by cases hq⟩
  have hn : a_n (I, ([] : List aF)) = ks.length := q_Kp_ln hk
  obtain ⟨s, m, σ', k1, k2, k3, k4⟩ := a_adds_ok (sp := q_SP) (nc := 557) (K := []) hE (fun q hq => by cases hq) hact
  have hgo := List.all_eq_true.mp hs s m
  rw [hn] at k1 k2
  have hA : a_Sk σ' (a_n s.1) (q_Ag 0 ks) vs := g3.ext k2 k1
  refine q_seq_ok (fun id q hq hd => q_Con_all q_Jall q_Dm id q hq hd) ?_ hgo k3 k4 hh a_Fr.rf trivial ⟨rfl, ⟨rfl, hA⟩, rfl, ⟨rfl, hA⟩, trivial⟩
  intro E K rs σ2 h2 vals hp hE2 hK2 hh2 hF2 hS2
  unfold q_post at hp
  rw [Bool.and_eq_true, Bool.and_eq_true] at hp
  obtain ⟨p1, p2, p3⟩ := hp
  refine ⟨hh2, hF2, a_pst_ok hh2 hE2 hK2 p1, ?_⟩
  rcases rs with _ | ⟨b, _ | ⟨a, _ | ⟨c, rs⟩⟩⟩
  · cases p2
  · have p2 : (Nat.beq b.1 t && false) = true := p2
    rw [Bool.and_false] at p2
    cases p2
  · have p2 : (Nat.beq b.1 t && (Nat.beq a.1 t && true)) = true := p2
    rw [Bool.and_true, Bool.and_eq_true] at p2
    have eb := Nat.eq_of_beq_eq_true p2.1
    have ea := Nat.eq_of_beq_eq_true p2.2
    obtain ⟨vb, vs1, rfl, hvb, hS2⟩ := hS2.cons
    obtain ⟨va, vs2, rfl, hva, hS2⟩ := hS2.cons
    have := hS2.nil
    subst this
    obtain ⟨b1, b2, b3⟩ := q_tV ht eb hvb
    obtain ⟨a1, a2, a3⟩ := q_tV ht ea hva
    refine ⟨va, vb, rfl, a1, b1, fun he => ?_⟩
    rw [he] at p3
    have p3 : a_eqE E b.2.2 a.2.2 = true := p3
    have := a_eqE_ok hE2 b2 a2 p3
    rw [a3, b3, this]
  · have p2 : (Nat.beq b.1 t && (Nat.beq a.1 t && false)) = true := p2
    rw [Bool.and_false, Bool.and_false] at p2
    cases p2
/-- one turn of the law: both are called, what holds holds again -/
noncomputable def q_Tn (env : qE) (h : qH) (w1 w2 t : Nat) (eq : Bool) (vs : List qV) : Prop := ∃ (h1 : qH) (v1 : qV) (h2 : qH) (v2 : qV), q_GM q_T q_Dm w1 env h ((6, 0) :: vs) (fun o => o = (env, h1, some v1)) ∧ a_HI q_SP 557 h1 ∧ q_GM q_T q_Dm w2 env h1 ((6, 534) :: vs) (fun o => o = (env, h2, some v2)) ∧ v1.1 = q_tv t ∧ v2.1 = q_tv t ∧ q_INV h2 ∧ (eq = true → v1 = v2)
theorem q_tl2 {x y : Option qV} {a b : qV} (h : y.toList ++ (x.toList ++ []) = [b, a]) : x = some a ∧ y = some b := by
  cases x with
  | none => cases y with
    | none => cases h
    | some y => cases h
  | some x => cases y with
    | none => cases h
    | some y => cases h; exact ⟨rfl, rfl⟩
theorem q_Tn_of {env : qE} {h : qH} {w1 w2 t : Nat} {eq : Bool} {vs : List qV} {R : qH → Prop} (hq : q_Sr q_T q_Dm env [(w1, (6, 0) :: vs), (w2, (6, 534) :: vs)] h [] (fun h' rs => R h' ∧ ∃ a b, rs = [b, a] ∧ a.1 = q_tv t ∧ b.1 = q_tv t ∧ (eq = true → a = b))) (hR : ∀ h', R h' → q_INV h') : q_Tn env h w1 w2 t eq vs := by
  obtain ⟨h1, r1, c1, i1, h2, r2, c2, -, hr, a, b, e, e1, e2, e3⟩ := hq
  obtain ⟨rfl, rfl⟩ := q_tl2 e
  exact ⟨h1, a, h2, b, c1, i1, c2, e1, e2, hR h2 hr, e3⟩
theorem q_Sr_mono {tab : Nat → qM} {D : Nat} {env : qE} {P P' : qH → List qV → Prop} (hP : ∀ h rs, P h rs → P' h rs) : ∀ {cs : List (Nat × List qV)} {h : qH} {rs : List qV}, q_Sr tab D env cs h rs P → q_Sr tab D env cs h rs P'
  | [], _, _, h => hP _ _ h
  | _ :: _, _, _, ⟨h', r, h1, h2, h3⟩ => ⟨h', r, h1, h2, q_Sr_mono hP h3⟩
theorem q_Dj_id {T : aW} {Ps : List aPic} {h h' : qH} (hi : Ps.all (a_idl q_SP T) = true) (hF : a_Fr q_SP 557 T h h') (hP : a_Dj q_SP 557 Ps h) : a_Dj q_SP 557 Ps h' := by
  obtain ⟨P, m, hP⟩ := hP
  exact ⟨P, m, a_idl_ok (List.all_eq_true.mp hi P m) hF hP⟩
theorem q_cmp_of {ix : List Nat} {T : aW} {h h' : qH} (hic : ((List.range q_NC).all fun c => ix.contains c || (q_Cmp c).all (a_idl q_SP T)) = true) (hF : a_Fr q_SP 557 T h h') (hp : ∀ c ∈ ix, a_Dj q_SP 557 (q_Cmp c) h') (hc : ∀ c, c < q_NC → a_Dj q_SP 557 (q_Cmp c) h) : ∀ c, c < q_NC → a_Dj q_SP 557 (q_Cmp c) h' := by
  intro c hlt
  have hi := List.all_eq_true.mp hic c (List.mem_range.mpr hlt)
  rw [Bool.or_eq_true] at hi
  rcases hi with hi | hi
  · exact hp c (List.contains_iff_mem.mp hi)
  · exact q_Dj_id hi hF (hc c hlt)
/-- a call that leaves the marks alone -/
theorem q_turnP {ix : List Nat} {t : Nat} {ks : List Nat} {eq : Bool} {T : aW} {w1 w2 : Nat} {vs : List qV} {env : qE} {h : qH} (ht : t = 1 ∨ t = 4)
    (hs : ∃ I, q_Kp ks I vs ∧ ((a_adds q_SP (ix.map q_Cmp) (I, []) []).all fun s => a_seq q_SP 557 q_CT T q_Dm (q_post (ix.map q_Cmp) [t, t] eq) [(w1, (6, 0, ([], 0)) :: q_Ag 0 ks), (w2, (6, 534, ([], 0)) :: q_Ag 0 ks)] s.1 s.2 []) = true)
    (hid : ([q_Pvw0, q_Pvw1, q_Pvw2, q_Pvw3] ++ (q_Prb0 ++ (q_Prb1 ++ q_Prb2))).all (a_idl q_SP T) = true) (hic : ((List.range q_NC).all fun c => ix.contains c || (q_Cmp c).all (a_idl q_SP T)) = true) (hix : (ix.all fun c => Nat.blt c q_NC) = true) (hI : q_INV h) : q_Tn env h w1 w2 t eq vs := by
  obtain ⟨hh, hcm, v, hv, hvw, hrb⟩ := hI
  obtain ⟨I, hk, hs⟩ := hs
  refine q_Tn_of (R := fun h' => q_INV h') (q_Sr_mono (fun h' rs hr => ?_) (q_gen (env := env) ht hs hh (fun Ps hPs => ?_) hk)) (fun h' h => h)
  · obtain ⟨hh', hF, hp, hr⟩ := hr
    rw [List.all_append, List.all_append, List.all_append, Bool.and_eq_true, Bool.and_eq_true, Bool.and_eq_true] at hid
    obtain ⟨i1, i2, i3, i4⟩ := hid
    refine ⟨⟨hh', q_cmp_of hic hF (fun c hc => hp _ (List.mem_map.mpr ⟨c, hc, rfl⟩)) hcm, v, hv, ?_, fun j hj => ?_⟩, hr⟩
    · refine a_idl_ok (List.all_eq_true.mp i1 _ ?_) hF hvw
      rcases v with _ | _ | _ | _ | v
      · exact List.mem_cons_self
      · exact List.mem_cons_of_mem _ List.mem_cons_self
      · exact List.mem_cons_of_mem _ (List.mem_cons_of_mem _ List.mem_cons_self)
      · exact List.mem_cons_of_mem _ (List.mem_cons_of_mem _ (List.mem_cons_of_mem _ List.mem_cons_self))
      · omega
    · have hp := hrb j hj
      rcases j with _ | _ | _ | j
      · exact q_Dj_id i2 hF hp
      · exact q_Dj_id i3 hF hp
      · exact q_Dj_id i4 hF hp
      · omega
  · obtain ⟨c, hc, rfl⟩ := List.mem_map.mp hPs
    have hlt := List.all_eq_true.mp hix c hc
    rw [q_blt] at hlt
    exact hcm c (of_decide_eq_true hlt)
theorem q_turn {ix : List Nat} {t : Nat} {ks : List Nat} {eq : Bool} {T : aW} {w1 w2 : Nat} {vs : List qV} {env : qE} {h : qH} (ht : t = 1 ∨ t = 4)
    (hs : ((a_adds q_SP (ix.map q_Cmp) (ks.map q_Iv, []) []).all fun s => a_seq q_SP 557 q_CT T q_Dm (q_post (ix.map q_Cmp) [t, t] eq) [(w1, (6, 0, ([], 0)) :: q_Ag 0 ks), (w2, (6, 534, ([], 0)) :: q_Ag 0 ks)] s.1 s.2 []) = true)
    (hid : ([q_Pvw0, q_Pvw1, q_Pvw2, q_Pvw3] ++ (q_Prb0 ++ (q_Prb1 ++ q_Prb2))).all (a_idl q_SP T) = true) (hic : ((List.range q_NC).all fun c => ix.contains c || (q_Cmp c).all (a_idl q_SP T)) = true) (hix : (ix.all fun c => Nat.blt c q_NC) = true) (hI : q_INV h) (hk : q_Kd ks vs) : q_Tn env h w1 w2 t eq vs := q_turnP ht ⟨_, q_Kd_Kp hk, hs⟩ hid hic hix hI
/-- a tray's number: below 0, 0 to 3, above -/
theorem q_six {ks : List Nat} {vs : List qV} {p : Int × Int} (hk : q_Kp (0 :: ks) (p :: ks.map q_Iv) vs) : q_Kp (0 :: ks) ((-2147483648, -1) :: ks.map q_Iv) vs ∨ q_Kp (0 :: ks) ((0, 0) :: ks.map q_Iv) vs ∨ q_Kp (0 :: ks) ((1, 1) :: ks.map q_Iv) vs ∨ q_Kp (0 :: ks) ((2, 2) :: ks.map q_Iv) vs ∨ q_Kp (0 :: ks) ((3, 3) :: ks.map q_Iv) vs ∨ q_Kp (0 :: ks) ((4, 2147483647) :: ks.map q_Iv) vs := by
  rcases vs with _ | ⟨v, vs⟩
  · exact (hk : False).elim
  obtain ⟨⟨x, h1, h2, h3, h4, h5, h6⟩, hr⟩ := hk
  have a1 : (-2147483648 : Int) ≤ x := h4
  have a2 : x ≤ (2147483647 : Int) := h5
  have hx : x ≤ -1 ∨ x = 0 ∨ x = 1 ∨ x = 2 ∨ x = 3 ∨ 4 ≤ x := by omega
  rcases hx with hx | rfl | rfl | rfl | rfl | hx
  · exact Or.inl ⟨⟨x, h1, a1, hx, h4, h5, h6⟩, hr⟩
  · exact Or.inr (Or.inl ⟨⟨_, h1, Int.le_refl _, Int.le_refl _, h4, h5, h6⟩, hr⟩)
  · exact Or.inr (Or.inr (Or.inl ⟨⟨_, h1, Int.le_refl _, Int.le_refl _, h4, h5, h6⟩, hr⟩))
  · exact Or.inr (Or.inr (Or.inr (Or.inl ⟨⟨_, h1, Int.le_refl _, Int.le_refl _, h4, h5, h6⟩, hr⟩)))
  · exact Or.inr (Or.inr (Or.inr (Or.inr (Or.inl ⟨⟨_, h1, Int.le_refl _, Int.le_refl _, h4, h5, h6⟩, hr⟩))))
  · exact Or.inr (Or.inr (Or.inr (Or.inr (Or.inr ⟨⟨x, h1, hx, a2, h4, h5, h6⟩, hr⟩))))
theorem q_01 {h : qH} (h0 : a_Dj q_SP 557 q_Pcs h) (h1 : a_Dj q_SP 557 q_Pms h) : ∀ c ∈ [0, 1], a_Dj q_SP 557 (q_Cmp c) h := fun c hc => by
  rcases List.mem_cons.mp hc with rfl | hc
  · exact h0
  · rw [List.mem_singleton.mp hc]
    exact h1
theorem q_in3 {α : Type} {P : α → Prop} {a b c : α} (ha : P a) (hb : P b) (hc : P c) : ∀ x ∈ [a, b, c], P x := fun x hx => by
  rcases List.mem_cons.mp hx with rfl | hx
  · exact ha
  rcases List.mem_cons.mp hx with rfl | hx
  · exact hb
  rw [List.mem_singleton.mp hx]
  exact hc
theorem q_in2 {α : Type} {P : α → Prop} {a b : α} (ha : P a) (hb : P b) : ∀ x ∈ [a, b], P x := fun x hx => by
  rcases List.mem_cons.mp hx with rfl | hx
  · exact ha
  rw [List.mem_singleton.mp hx]
  exact hb
theorem q_dj1 {P : aPic} {h : qH} (hp : a_Pic q_SP 557 P h) : a_Dj q_SP 557 [P] h := ⟨P, List.mem_cons_self, hp⟩
theorem q_1dj {P : aPic} {h : qH} (hp : a_Dj q_SP 557 [P] h) : a_Pic q_SP 557 P h := by
  obtain ⟨Q, m, hp⟩ := hp
  rw [← List.mem_singleton.mp m]
  exact hp
theorem q_mark {env : qE} {h : qH} (hI : q_INV h) : q_Tn env h 175 313 1 true [] := by
  obtain ⟨hh, hcm, v, hv, hvw, hrb⟩ := hI
  have hcs : a_Dj q_SP 557 q_Pcs h := hcm 0 (by decide)
  have hms : a_Dj q_SP 557 q_Pms h := hcm 1 (by decide)
  rcases v with _ | _ | _ | _ | v
  · refine q_Tn_of (R := fun h' => q_INV h') (q_Sr_mono (fun h' rs hr => ?_) (q_gen (env := env) (ks := []) (I := []) (Or.inl rfl) q_sqm0 hh (q_in3 hcs hms (q_dj1 hvw)) trivial)) (fun h' h => h)
    obtain ⟨hh', hF, hp, hr⟩ := hr
    refine ⟨⟨hh', q_cmp_of q_icm0 hF (q_01 (hp _ (.head _)) (hp _ (.tail _ (.head _)))) hcm, 1, by decide, q_1dj (hp _ (.tail _ (.tail _ (.head _)))), fun j hj => ?_⟩, hr⟩
    rcases j with _ | j
    · exact hp _ (.tail _ (.tail _ (.tail _ (.head _))))
    · omega
  · refine q_Tn_of (R := fun h' => q_INV h') (q_Sr_mono (fun h' rs hr => ?_) (q_gen (env := env) (ks := []) (I := []) (Or.inl rfl) q_sqm1 hh (q_in3 hcs hms (q_dj1 hvw)) trivial)) (fun h' h => h)
    obtain ⟨hh', hF, hp, hr⟩ := hr
    have i1 : q_Prb0.all (a_idl q_SP q_Twm1) = true := q_idm1
    refine ⟨⟨hh', q_cmp_of q_icm1 hF (q_01 (hp _ (.head _)) (hp _ (.tail _ (.head _)))) hcm, 2, by decide, q_1dj (hp _ (.tail _ (.tail _ (.head _)))), fun j hj => ?_⟩, hr⟩
    rcases j with _ | _ | j
    · exact q_Dj_id i1 hF (hrb 0 (by decide))
    · exact hp _ (.tail _ (.tail _ (.tail _ (.head _))))
    · omega
  · refine q_Tn_of (R := fun h' => q_INV h') (q_Sr_mono (fun h' rs hr => ?_) (q_gen (env := env) (ks := []) (I := []) (Or.inl rfl) q_sqm2 hh (q_in3 hcs hms (q_dj1 hvw)) trivial)) (fun h' h => h)
    obtain ⟨hh', hF, hp, hr⟩ := hr
    have i0 := q_idm2
    rw [List.all_append, List.all_append, Bool.and_eq_true, Bool.and_eq_true] at i0
    obtain ⟨⟨-, i1⟩, i2⟩ := i0
    refine ⟨⟨hh', q_cmp_of q_icm2 hF (q_01 (hp _ (.head _)) (hp _ (.tail _ (.head _)))) hcm, 3, by decide, q_1dj (hp _ (.tail _ (.tail _ (.head _)))), fun j hj => ?_⟩, hr⟩
    rcases j with _ | _ | _ | j
    · exact q_Dj_id i1 hF (hrb 0 (by decide))
    · exact q_Dj_id i2 hF (hrb 1 (by decide))
    · exact hp _ (.tail _ (.tail _ (.tail _ (.head _))))
    · omega
  · refine q_Tn_of (R := fun h' => q_INV h') (q_Sr_mono (fun h' rs hr => ?_) (q_gen (env := env) (ks := []) (I := []) (Or.inl rfl) q_sqm3 hh (q_in3 hcs hms (q_dj1 hvw)) trivial)) (fun h' h => h)
    obtain ⟨hh', hF, hp, hr⟩ := hr
    have i0 := q_idm3
    rw [List.all_append, List.all_append, List.all_append, Bool.and_eq_true, Bool.and_eq_true, Bool.and_eq_true] at i0
    obtain ⟨⟨⟨-, i1⟩, i2⟩, i3⟩ := i0
    refine ⟨⟨hh', q_cmp_of q_icm3 hF (q_01 (hp _ (.head _)) (hp _ (.tail _ (.head _)))) hcm, 3, by decide, q_1dj (hp _ (.tail _ (.tail _ (.head _)))), fun j hj => ?_⟩, hr⟩
    rcases j with _ | _ | _ | j
    · exact q_Dj_id i1 hF (hrb 0 (by decide))
    · exact q_Dj_id i2 hF (hrb 1 (by decide))
    · exact q_Dj_id i3 hF (hrb 2 (by decide))
    · omega
  · omega
theorem q_back {env : qE} {h : qH} (hI : q_INV h) : q_Tn env h 176 314 1 true [] := by
  obtain ⟨hh, hcm, v, hv, hvw, hrb⟩ := hI
  have hcs : a_Dj q_SP 557 q_Pcs h := hcm 0 (by decide)
  have hms : a_Dj q_SP 557 q_Pms h := hcm 1 (by decide)
  rcases v with _ | _ | _ | _ | v
  · refine q_Tn_of (R := fun h' => q_INV h') (q_Sr_mono (fun h' rs hr => ?_) (q_gen (env := env) (ks := []) (I := []) (Or.inl rfl) q_sqb0 hh (q_in3 hcs hms (q_dj1 hvw)) trivial)) (fun h' h => h)
    obtain ⟨hh', hF, hp, hr⟩ := hr
    exact ⟨⟨hh', q_cmp_of q_icb0 hF (q_01 (hp _ (.head _)) (hp _ (.tail _ (.head _)))) hcm, 0, by decide, q_1dj (hp _ (.tail _ (.tail _ (.head _)))), fun j hj => by omega⟩, hr⟩
  · refine q_Tn_of (R := fun h' => q_INV h') (q_Sr_mono (fun h' rs hr => ?_) (q_gen (env := env) (ks := []) (I := []) (Or.inl rfl) q_sqb1 hh (q_in2 (q_dj1 hvw) (hrb 0 (by decide))) trivial)) (fun h' h => h)
    obtain ⟨hh', hF, hp, hr⟩ := hr
    exact ⟨⟨hh', q_cmp_of q_icb1 hF (q_01 (hp _ (.head _)) (hp _ (.tail _ (.head _)))) hcm, 0, by decide, q_1dj (hp _ (.tail _ (.tail _ (.head _)))), fun j hj => by omega⟩, hr⟩
  · refine q_Tn_of (R := fun h' => q_INV h') (q_Sr_mono (fun h' rs hr => ?_) (q_gen (env := env) (ks := []) (I := []) (Or.inl rfl) q_sqb2 hh (q_in2 (q_dj1 hvw) (hrb 1 (by decide))) trivial)) (fun h' h => h)
    obtain ⟨hh', hF, hp, hr⟩ := hr
    have i1 : q_Prb0.all (a_idl q_SP q_Twb2) = true := q_idb2
    refine ⟨⟨hh', q_cmp_of q_icb2 hF (q_01 (hp _ (.head _)) (hp _ (.tail _ (.head _)))) hcm, 1, by decide, q_1dj (hp _ (.tail _ (.tail _ (.head _)))), fun j hj => ?_⟩, hr⟩
    rcases j with _ | j
    · exact q_Dj_id i1 hF (hrb 0 (by decide))
    · omega
  · refine q_Tn_of (R := fun h' => q_INV h') (q_Sr_mono (fun h' rs hr => ?_) (q_gen (env := env) (ks := []) (I := []) (Or.inl rfl) q_sqb3 hh (q_in2 (q_dj1 hvw) (hrb 2 (by decide))) trivial)) (fun h' h => h)
    obtain ⟨hh', hF, hp, hr⟩ := hr
    have i0 := q_idb3
    rw [List.all_append, List.all_append, Bool.and_eq_true, Bool.and_eq_true] at i0
    obtain ⟨⟨-, i1⟩, i2⟩ := i0
    refine ⟨⟨hh', q_cmp_of q_icb3 hF (q_01 (hp _ (.head _)) (hp _ (.tail _ (.head _)))) hcm, 2, by decide, q_1dj (hp _ (.tail _ (.tail _ (.head _)))), fun j hj => ?_⟩, hr⟩
    rcases j with _ | _ | j
    · exact q_Dj_id i1 hF (hrb 0 (by decide))
    · exact q_Dj_id i2 hF (hrb 1 (by decide))
    · omega
  · omega
