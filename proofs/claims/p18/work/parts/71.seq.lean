-- 71.seq: calls one behind another, over pictures
/-- sources of its symbols, places, intervals -/
abbrev aPic : Type := aQ × aK × aE
noncomputable def a_Pic (sp : aSp) (nc : Nat) (P : aPic) (h : qH) : Prop := ∃ σ, a_En σ P.2.2 ∧ a_Kn sp nc σ (a_n P.2.2) P.2.1 h
noncomputable def a_Dj (sp : aSp) (nc : Nat) (Ps : List aPic) (h : qH) : Prop := ∃ P ∈ Ps, a_Pic sp nc P h
/-- E, K with a picture more -/
noncomputable def a_addp (sp : aSp) (E : aE) (K : aK) (P : aPic) : List (aE × aK) := (a_end sp E K [] [] 0 [] [] (P.1, [], P.2.1, P.2.2)).map fun st => (st.1, st.2.1)
theorem a_addp_ok {sp : aSp} {nc : Nat} {h : qH} {σ : Nat → Int} {E : aE} {K : aK} {P : aPic} (hE : a_En σ E) (hK : a_Kn sp nc σ (a_n E) K h) (hP : a_Pic sp nc P h) : ∃ s ∈ a_addp sp E K P, ∃ σ', (∀ i, i < a_n E → σ' i = σ i) ∧ a_n E ≤ a_n s.1 ∧ a_En σ' s.1 ∧ a_Kn sp nc σ' (a_n s.1) s.2 h := by
  obtain ⟨σo, h1, h2⟩ := hP
  obtain ⟨st, m1, m2, σ', k1, k2, k3⟩ := a_end_ok (nc := nc) (h := h) (h' := h) (al := []) (lv := []) (rest := []) (rs := []) (pc := 0) (S := []) (B := []) (o := (P.1, [], P.2.1, P.2.2)) (r := none) hE hK (fun i a hi => by cases hi) trivial (fun f hf => by cases hf) a_Fr.rf (σo := σo) (fun i hi => absurd hi (Nat.not_lt_zero i)) h1 h2 trivial
  exact ⟨(st.1, st.2.1), List.mem_map.mpr ⟨st, m1, rfl⟩, σ', k1, k2, k3.1, k3.2.1⟩
/-- with one of each of these -/
noncomputable def a_adds (sp : aSp) : List (List aPic) → aE → aK → List (aE × aK)
  | [], E, K => [(E, K)]
  | Ps :: L, E, K => Ps.flatMap fun P => (a_addp sp E K P).flatMap fun s => a_adds sp L s.1 s.2
theorem a_adds_ok {sp : aSp} {nc : Nat} {h : qH} : ∀ {L : List (List aPic)} {σ : Nat → Int} {E : aE} {K : aK}, a_En σ E → a_Kn sp nc σ (a_n E) K h → (∀ Ps ∈ L, a_Dj sp nc Ps h) → ∃ s ∈ a_adds sp L E K, ∃ σ', (∀ i, i < a_n E → σ' i = σ i) ∧ a_n E ≤ a_n s.1 ∧ a_En σ' s.1 ∧ a_Kn sp nc σ' (a_n s.1) s.2 h
  | [], σ, E, K, hE, hK, _ => ⟨(E, K), List.mem_singleton.mpr rfl, σ, fun _ _ => rfl, Nat.le_refl _, hE, hK⟩
  | Ps :: L, σ, E, K, hE, hK, hL => by
    obtain ⟨P, hP1, hP2⟩ := hL Ps List.mem_cons_self
    obtain ⟨s, m1, σ1, k1, k2, k3, k4⟩ := a_addp_ok hE hK hP2
    obtain ⟨t, n1, σ2, j1, j2, j3, j4⟩ := a_adds_ok (L := L) k3 k4 (fun Q hQ => hL Q (List.mem_cons_of_mem _ hQ))
    exact ⟨t, List.mem_flatMap.mpr ⟨P, hP1, List.mem_flatMap.mpr ⟨s, m1, n1⟩⟩, σ2, fun i hi => by rw [j1 i (by omega), k1 i hi], Nat.le_trans k2 j2, j3, j4⟩
/-- one of each of these pictures holds -/
noncomputable def a_pst (sp : aSp) (nc : Nat) (posts : List (List aPic)) (E : aE) (K : aK) : Bool := posts.all fun Ps => Ps.any fun P => match a_rds sp nc E K P.2.1 with
  | none => false
  | some r => (match a_cv r.1 r.2 [] [] 0 P.1 [] [] P.2.1 P.2.2 with
    | none => false
    | some _ => true)
theorem a_pst_ok {sp : aSp} {nc : Nat} {h : qH} (hh : a_HI sp nc h) {posts : List (List aPic)} {σ : Nat → Int} {E : aE} {K : aK} (hE : a_En σ E) (hK : a_Kn sp nc σ (a_n E) K h) (hp : a_pst sp nc posts E K = true) : ∀ Ps ∈ posts, a_Dj sp nc Ps h := fun Ps hPs => by
  obtain ⟨P, hP1, hP2⟩ := List.any_eq_true.mp (List.all_eq_true.mp hp Ps hPs)
  refine ⟨P, hP1, ?_⟩
  split at hP2
  · cases hP2
  · rename_i r hr
    split at hP2
    · cases hP2
    · rename_i B hB
      obtain ⟨σ1, g1, g2, g3, g4⟩ := a_rds_ok hh _ hE hK hr
      obtain ⟨w1, w2, w3, w4, w5, w6, w7⟩ := a_cv_ok (al := []) (lv := []) (vs := []) (vals := []) g3 g4 (fun i a hi => by cases hi) trivial (Nat.zero_le _) hB
      exact ⟨a_sg σ1 B, w3, w6⟩
/-- nothing of a picture lies in T -/
noncomputable def a_idl (sp : aSp) (T : aW) (P : aPic) : Bool := P.2.1.all fun q => bif a_t12 q.2 then a_djS (a_dep sp q.2.2.1 q.1.1) T else !(a_inS T q.1.1 q.1.2)
theorem a_idl_ok {sp : aSp} {nc : Nat} {T : aW} {P : aPic} {h h' : qH} (hi : a_idl sp T P = true) (hF : a_Fr sp nc T h h') (hP : a_Pic sp nc P h) : a_Pic sp nc P h' := by
  obtain ⟨σ, h1, h2⟩ := hP
  refine ⟨σ, h1, fun q hq => ?_⟩
  have hb := List.all_eq_true.mp hi q hq
  have hKq := h2 q hq
  cases ht : a_t12 q.2 with
  | true =>
    rw [ht] at hb
    have hb : a_djS (a_dep sp q.2.2.1 q.1.1) T = true := hb
    have e12 : q.2.1 = 12 := Nat.eq_of_beq_eq_true ht
    exact hKq.fr (fun e => absurd e12 e) (fun _ i j hi hj hin => hF i j hi hj (a_djS_ok hb hin))
  | false =>
    rw [ht] at hb
    have hb : (!(a_inS T q.1.1 q.1.2)) = true := hb
    have hb : a_inS T q.1.1 q.1.2 = false := by
      cases hc : a_inS T q.1.1 q.1.2 with
      | false => rfl
      | true => rw [hc] at hb; cases hb
    have n12 : q.2.1 ≠ 12 := fun e => by
      have : a_t12 q.2 = true := by
        show Nat.beq q.2.1 12 = true
        rw [e]; rfl
      rw [this] at ht
      cases ht
    have hlt : q.1.2 < a_cl sp q.1.1 := by
      rcases hKq.2 with ⟨k1, -⟩ | ⟨-, k2, -⟩
      · exact k1
      · exact absurd k2 n12
    exact hKq.fr (fun _ => hF _ _ hKq.1 hlt hb) (fun e => absurd e n12)
-- calls
noncomputable def q_Sq (tab : Nat → qM) (D : Nat) (env : qE) : List (Nat × List qV) → qH → List qV → (qH → List qV → Prop) → Prop
  | [], h, rs, P => P h rs
  | c :: cs, h, rs, P => ∃ (h' : qH) (r : Option qV), q_GM tab D c.1 env h c.2 (fun o => o = (env, h', r)) ∧ q_Sq tab D env cs h' (r.toList ++ rs) P
theorem q_Sq_mono {tab : Nat → qM} {D : Nat} {env : qE} {P P' : qH → List qV → Prop} (hP : ∀ h rs, P h rs → P' h rs) : ∀ {cs : List (Nat × List qV)} {h : qH} {rs : List qV}, q_Sq tab D env cs h rs P → q_Sq tab D env cs h rs P'
  | [], _, _, h => hP _ _ h
  | _ :: _, _, _, ⟨h', r, h1, h2⟩ => ⟨h', r, h1, q_Sq_mono hP h2⟩
noncomputable def a_Ar (σ : Nat → Int) (n : Nat) : List (Nat × List aV) → List (Nat × List qV) → Prop
  | [], [] => True
  | a :: as, v :: vs => a.1 = v.1 ∧ a_Sk σ n a.2 v.2 ∧ a_Ar σ n as vs
  | _, _ => False
theorem a_Ar.ext {σ σ' : Nat → Int} {n n' : Nat} (hn : n ≤ n') (hs : ∀ i, i < n → σ' i = σ i) : ∀ {as : List (Nat × List aV)} {vs : List (Nat × List qV)}, a_Ar σ n as vs → a_Ar σ' n' as vs
  | [], [], _ => trivial
  | _ :: _, _ :: _, h => ⟨h.1, h.2.1.ext hn hs, h.2.2.ext hn hs⟩
  | [], _ :: _, h => (h : False).elim
  | _ :: _, [], h => (h : False).elim
noncomputable def a_seq (sp : aSp) (nc : Nat) (ct : Nat → List (Nat × aCon)) (T : aW) (D : Nat) (post : aE → aK → List aV → Bool) : List (Nat × List aV) → aE → aK → List aV → Bool
  | [], E, K, rs => post E K rs
  | c :: cs, E, K, rs => match a_or (a_calls sp nc T D E K [] c.2 rs 0 (ct c.1)) (a_rcalls sp nc T E K [] c.2 rs 0 (a_cn 0) []) with
    | none => false
    | some nx => nx.all fun st => a_seq sp nc ct T D post cs st.1 st.2.1 st.2.2.2.2
theorem a_seq_ok {sp : aSp} {nc : Nat} {tab : Nat → qM} {ct : Nat → List (Nat × aCon)} {T : aW} {D : Nat} {env : qE} {h0 : qH} {post : aE → aK → List aV → Bool} {Q : qH → List qV → Prop} (hct : ∀ id, ∀ q ∈ ct id, q.1 ≤ D → a_Con sp nc tab q.1 id q.2)
    (hpost : ∀ (E : aE) (K : aK) (rs : List aV) (σ : Nat → Int) (h : qH) (vals : List qV), post E K rs = true → a_En σ E → a_Kn sp nc σ (a_n E) K h → a_HI sp nc h → a_Fr sp nc T h0 h → a_Sk σ (a_n E) rs vals → Q h vals) :
    ∀ {cs : List (Nat × List aV)} {E : aE} {K : aK} {rs : List aV} {σ : Nat → Int} {h : qH} {vals : List qV} {vcs : List (Nat × List qV)}, a_seq sp nc ct T D post cs E K rs = true → a_En σ E → a_Kn sp nc σ (a_n E) K h → a_HI sp nc h → a_Fr sp nc T h0 h → a_Sk σ (a_n E) rs vals → a_Ar σ (a_n E) cs vcs → q_Sq tab D env vcs h vals Q
  | [], E, K, rs, σ, h, vals, [], hs, hE, hK, hh, hF, hS, _ => hpost E K rs σ h vals hs hE hK hh hF hS
  | [], E, K, rs, σ, h, vals, _ :: _, _, _, _, _, _, _, hA => (hA : False).elim
  | _ :: _, E, K, rs, σ, h, vals, [], _, _, _, _, _, _, hA => (hA : False).elim
  | c :: cs, E, K, rs, σ, h, vals, v :: vcs, hs, hE, hK, hh, hF, hS, hA => by
    obtain ⟨a1, a2, a3⟩ := hA
    unfold a_seq at hs
    split at hs
    · cases hs
    · rename_i nx hnx
      obtain ⟨C, rr, B, hc2, hrr, hB, hq2, hcc⟩ := a_callx (sp := sp) (nc := nc) (ct := ct) (rc := fun _ => []) (ρ0 := a_cn 0) (S := T) (D := D) hnx
      obtain ⟨σ1, g1, g2, g3, g4⟩ := a_rds_ok hh _ hE hK hrr
      have g2 : a_n E ≤ a_n rr.1 := g2
      obtain ⟨w1, w2, w3, w4, w5, w6, w7⟩ := a_cv_ok (al := []) (lv := []) g3 g4 (fun i a hi => by cases hi) (a2.ext g2 g1) (Nat.zero_le _) hB
      rcases hcc with ⟨d, hdD, hq1⟩ | ⟨ρ', hq1, -⟩
      · obtain ⟨h', ro, hcall, hh', hF', o, ho, σ2, o1, o2, o3, o4⟩ := hct c.1 (d, C) hq1 hdD env h (a_sg σ1 B) v.2 hh w3 w6 w4
        obtain ⟨st, m1, m2, σ3, k1, k2, k3⟩ := a_end_ok (pc := 0) (al := []) (lv := []) g3 g4 (fun i a hi => by cases hi) (hS.ext g2 g1) w1 hF' (by rw [w2]; exact o1) o2 o3 o4
        have hmem : st ∈ nx := by
          rw [← hq2]
          exact a_ends_mem m1 ho
        have hgo := List.all_eq_true.mp hs st hmem
        have k2 : a_n rr.1 ≤ a_n st.1 := k2
        refine ⟨h', ro, ?_, ?_⟩
        · rw [← a1]
          exact a_GM_le hdD hcall
        · exact a_seq_ok hct hpost hgo k3.1 k3.2.1 hh' (hF.tr (a_Fr.sub hc2 hF')) k3.2.2.2 (a3.ext (Nat.le_trans g2 k2) (fun i hi => by rw [k1 i (by omega), g1 i hi]))
      · exact absurd hq1 List.not_mem_nil
