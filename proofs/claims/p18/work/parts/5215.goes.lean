-- 15.goes: what the checker says holds
noncomputable def a_Post (sp : aSp) (nc : Nat) (S : aW) (p : Nat) (outs : List aOut) (σ0 : Nat → Int) (h0 h' : qH) (r : Option qV) : Prop := a_HI sp nc h' ∧ a_Fr sp nc S h0 h' ∧ ∃ o ∈ outs, ∃ σ', (∀ i, i < p → σ' i = σ0 i) ∧ a_En σ' o.2.2.2 ∧ a_Kn sp nc σ' (a_n o.2.2.2) o.2.2.1 h' ∧ a_Sk σ' (a_n o.2.2.2) o.2.1 r.toList
noncomputable def a_Good (sp : aSp) (nc : Nat) (tab : Nat → qM) (M : qM) (S : aW) (D p : Nat) (outs : List aOut) (σ0 : Nat → Int) (h0 : qH) (env : qE) (pc : Nat) (h : qH) (lv : qL) (stk : List qV) : Prop := ∃ (h' : qH) (r : Option qV), q_GE tab (q_GM tab D) M false 0 (env, h, 0, 0, pc, lv, stk) (fun o => o = (env, h', r)) ∧ a_Post sp nc S p outs σ0 h0 h' r
section
variable {sp : aSp} {nc : Nat} {tab : Nat → qM} {ct : Nat → List (Nat × aCon)} {rc : Nat → List (aF × aCon)} {ρ0 : aF} {M : qM} {S : aW} {D D' p : Nat} {outs : List aOut} {cuts : List aCut} {spl : aSg} {ρ : Option aF} {σ0 : Nat → Int} {h0 : qH} {env : qE}
theorem a_cutq_ok {E : aE} {K : aK} {al : aL} {sk : List aV} : ∀ {cs : List aCut}, a_cutq sp nc E K al sk p ρ cs = true → ∃ c ∈ cs, ∃ r B, a_rds sp nc E K c.2.2.2.2.1 = some r ∧ a_cv r.1 r.2 al sk p c.2.1 c.2.2.2.1 c.2.2.1 c.2.2.2.2.1 c.2.2.2.2.2.1 = some B ∧ ∀ f, ρ = some f → a_nx r.1 (a_pl (a_dif f (a_sb B c.2.2.2.2.2.2)) (-1)) = true
  | [], h => by cases h
  | c :: cs, h => by
    unfold a_cutq at h
    rw [Bool.or_eq_true] at h
    rcases h with h | h
    · rw [Bool.and_eq_true] at h
      have h := h.2
      refine ⟨c, List.mem_cons_self, ?_⟩
      split at h
      · cases h
      · rename_i r hr
        split at h
        · cases h
        · rename_i B hB
          refine ⟨r, B, hr, hB, fun f hf => ?_⟩
          subst hf
          exact h
    · obtain ⟨c', h1, h2⟩ := a_cutq_ok h
      exact ⟨c', List.mem_cons_of_mem _ h1, h2⟩
theorem a_outq_ok {E : aE} {K : aK} {sk : List aV} : ∀ {os : List aOut}, a_outq sp nc E K sk p os = true → ∃ o ∈ os, ∃ r B, a_rds sp nc E K o.2.2.1 = some r ∧ a_cv r.1 r.2 [] sk p o.1 o.2.1 [] o.2.2.1 o.2.2.2 = some B
  | [], h => by cases h
  | o :: os, h => by
    unfold a_outq at h
    rw [Bool.or_eq_true] at h
    rcases h with h | h
    · rw [Bool.and_eq_true] at h
      have h := h.2
      refine ⟨o, List.mem_cons_self, ?_⟩
      split at h
      · cases h
      · rename_i r hr
        split at h
        · cases h
        · rename_i B hB
          exact ⟨r, B, hr, hB⟩
    · obtain ⟨c', h1, h2⟩ := a_outq_ok h
      exact ⟨c', List.mem_cons_of_mem _ h1, h2⟩
theorem a_calls_ok {T : aW} {E : aE} {K : aK} {al : aL} {av rest : List aV} {pc : Nat} {nx : List aS} : ∀ {cs : List (Nat × aCon)}, a_calls sp nc T D E K al av rest pc cs = some nx → ∃ q ∈ cs, a_call1 sp nc T D E K al av rest pc q.1 q.2 = some nx
  | [], h => by cases h
  | q :: cs, h => by
    unfold a_calls at h
    split at h
    · rename_i nx2 hq
      cases h
      exact ⟨q, List.mem_cons_self, hq⟩
    · obtain ⟨q', h1, h2⟩ := a_calls_ok h
      exact ⟨q', List.mem_cons_of_mem _ h1, h2⟩
theorem a_rcalls_ok {T : aW} {E : aE} {K : aK} {al : aL} {av rest : List aV} {pc : Nat} {nx : List aS} : ∀ {cs : List (aF × aCon)}, a_rcalls sp nc T E K al av rest pc ρ0 cs = some nx → ∃ q ∈ cs, a_rcall1 sp nc T E K al av rest pc ρ0 q.1 q.2 = some nx
  | [], h => by cases h
  | q :: cs, h => by
    unfold a_rcalls at h
    split at h
    · rename_i nx2 hq
      cases h
      exact ⟨q, List.mem_cons_self, hq⟩
    · obtain ⟨q', h1, h2⟩ := a_rcalls_ok h
      exact ⟨q', List.mem_cons_of_mem _ h1, h2⟩
/-- how a call may be covered -/
theorem a_callx {E : aE} {K : aK} {al : aL} {av rest : List aV} {pc w : Nat} {nx : List aS} (h : a_or (a_calls sp nc S D E K al av rest pc (ct w)) (a_rcalls sp nc S E K al av rest pc ρ0 (rc w)) = some nx) : ∃ C rr B, a_subS S C.2.2.2.2.1 = true ∧ a_rds sp nc E K C.2.2.1 = some rr ∧ a_cv rr.1 rr.2 [] av 0 C.1 C.2.1 [] C.2.2.1 C.2.2.2.1 = some B ∧ a_ends sp rr.1 rr.2 al rest pc C.2.2.2.2.1 B C.2.2.2.2.2 = nx ∧ ((∃ d, d ≤ D ∧ (d, C) ∈ ct w) ∨ ∃ ρ', (ρ', C) ∈ rc w ∧ a_wf (a_n C.2.2.2.1) ρ' ∧ a_nx rr.1 (a_pl (a_dif ρ0 (a_sb B ρ')) (-1)) = true) := by
  rcases a_or_ok h with h | h
  · obtain ⟨⟨d, C⟩, hq1, hq2⟩ := a_calls_ok h
    unfold a_call1 at hq2
    obtain ⟨hc, hq2⟩ := q_bt hq2
    rw [Bool.and_eq_true] at hc
    have hc := hc.2
    rw [Bool.and_eq_true, q_ble] at hc
    split at hq2
    · cases hq2
    · rename_i rr hrr
      split at hq2
      · cases hq2
      · rename_i B hB
        exact ⟨C, rr, B, hc.2, hrr, hB, Option.some.inj hq2, Or.inl ⟨d, of_decide_eq_true hc.1, hq1⟩⟩
  · obtain ⟨⟨ρ', C⟩, hq1, hq2⟩ := a_rcalls_ok h
    unfold a_rcall1 at hq2
    obtain ⟨hc, hq2⟩ := q_bt hq2
    rw [Bool.and_eq_true] at hc
    split at hq2
    · cases hq2
    · rename_i rr hrr
      split at hq2
      · cases hq2
      · rename_i B hB
        obtain ⟨hn, hq2⟩ := q_bt hq2
        exact ⟨C, rr, B, hc.2, hrr, hB, Option.some.inj hq2, Or.inr ⟨ρ', hq1, a_wfb_ok hc.1, hn⟩⟩
/-- what a contract says of one call -/
noncomputable def a_Cr (sp : aSp) (nc : Nat) (tab : Nat → qM) (d id : Nat) (C : aCon) (env : qE) (h : qH) (σ : Nat → Int) (av : List qV) : Prop :=
  ∃ (h' : qH) (r : Option qV), q_GM tab d id env h av (fun o => o = (env, h', r)) ∧ a_HI sp nc h' ∧ a_Fr sp nc C.2.2.2.2.1 h h' ∧ ∃ o ∈ C.2.2.2.2.2, ∃ σ', (∀ i, i < a_n C.2.2.2.1 → σ' i = σ i) ∧ a_En σ' o.2.2.2 ∧ a_Kn sp nc σ' (a_n o.2.2.2) o.2.2.1 h' ∧ a_Sk σ' (a_n o.2.2.2) o.2.1 r.toList
noncomputable def a_Pr (sp : aSp) (nc : Nat) (C : aCon) (h : qH) (σ : Nat → Int) (av : List qV) : Prop := a_HI sp nc h ∧ a_En σ C.2.2.2.1 ∧ a_Kn sp nc σ (a_n C.2.2.2.1) C.2.2.1 h ∧ a_Sk σ (a_n C.2.2.2.1) C.2.1 av
theorem a_spw_ok {spl : List (Nat × Nat)} {E : aE} {al : aL} {pc : Nat} {f : aF} (h : a_spw E al pc spl = some f) : ∃ i a, a_lg al i = some a ∧ a.1 = 1 ∧ a.2.2 = f := by
  unfold a_spw at h
  split at h
  · cases h
  · rename_i i hi
    split at h
    · cases h
    · rename_i a ha
      obtain ⟨h1, h2⟩ := q_bt h
      rw [Bool.and_eq_true] at h1
      exact ⟨i, a, ha, Nat.eq_of_beq_eq_true h1.1, Option.some.inj h2⟩
theorem a_go_ok (hrl : ∀ i, a_RR sp nc (spl.2.1 i)) (hm1 : q_mc M = 0) (hm2 : q_ms M = 0) (hD : D ≤ D') (hct : ∀ id, ∀ q ∈ ct id, q.1 ≤ D → a_Con sp nc tab q.1 id q.2) (hp0 : a_wf p ρ0) (hrc : ∀ id, ∀ q ∈ rc id, ∀ (env : qE) (h : qH) (σ : Nat → Int) (av : List qV), a_Pr sp nc q.2 h σ av → a_ev σ q.1 < a_ev σ0 ρ0 → a_Cr sp nc tab D' id q.2 env h σ av) {R : Int}
    (ihc : ∀ c ∈ cuts, ∀ (σ : Nat → Int) (h : qH) (lv : qL) (stk : List qV), a_HI sp nc h → a_Fr sp nc S h0 h → (∀ i, i < p → σ i = σ0 i) → a_St sp nc σ h lv stk (c.2.2.2.2.2.1, c.2.2.2.2.1, c.1, c.2.2.1, c.2.2.2.1) → (∀ f, ρ = some f → a_ev σ c.2.2.2.2.2.2 < R) → a_Good sp nc tab M S D' p outs σ0 h0 env c.1 h lv stk) :
    ∀ (n : Nat) (fst : Bool) (σ : Nat → Int) (h : qH) (lv : qL) (stk : List qV) (st : aS), a_go sp nc tab ct rc ρ0 M S D p outs cuts spl ρ n fst st = true → a_HI sp nc h → a_Fr sp nc S h0 h → (∀ i, i < p → σ i = σ0 i) → p ≤ a_n st.1 → (∀ f, ρ = some f → a_wf (a_n st.1) f ∧ a_ev σ f = R) → a_St sp nc σ h lv stk st → a_Good sp nc tab M S D' p outs σ0 h0 env st.2.2.1 h lv stk := by
  intro n
  induction n with
  | zero => intro fst σ h lv stk st hg; cases hg
  | succ n ih =>
    intro fst σ h lv stk st hg hh hF hσ hp hρ hst
    obtain ⟨E0, K0, pc, al, sk⟩ := st
    obtain ⟨hE0, hK0, hL, hS⟩ := hst
    replace hE0 : a_En σ E0 := hE0
    replace hK0 : a_Kn sp nc σ (a_n E0) K0 h := hK0
    replace hL : a_Lv σ (a_n E0) al lv := hL
    replace hS : a_Sk σ (a_n E0) sk stk := hS
    replace hp : p ≤ a_n E0 := hp
    replace hρ : ∀ f, ρ = some f → a_wf (a_n E0) f ∧ a_ev σ f = R := hρ
    have hgp := a_gap_ok (fun i => (hrl i).1) (pc := pc) (gs := a_gsl pc spl.2.2) hh hE0 hK0 hL hS
    unfold a_go at hg
    split at hg
    rename_i E K hEK
    rw [hEK] at hgp
    obtain ⟨hE, hn0, hK⟩ := hgp
    replace hE : a_En σ E := hE
    replace hn0 : a_n E = a_n E0 := hn0
    replace hK : a_Kn sp nc σ (a_n E) K h := hK
    rw [← hn0] at hL hS hp hρ
    clear hn0 hE0 hK0 hEK
    rw [Bool.or_eq_true] at hg
    replace hg := hg.resolve_left (fun hb => a_bad_ok hE hb)
    split at hg
    · rename_i c cs hcs
      have hcs : a_cutf pc cuts = c :: cs := by
        cases hb : (fst || a_pel al pc spl.1) with
        | true => rw [hb] at hcs; cases hcs
        | false => rw [hb] at hcs; exact hcs
      obtain ⟨c', hc', r, B, hr, hB, hfall⟩ := a_cutq_ok hg
      rw [← hcs] at hc'
      obtain ⟨m1, m2⟩ := a_cutf_mem hc'
      obtain ⟨σ1, g1, g2, g3, g4⟩ := a_rds_ok hh _ hE hK hr
      obtain ⟨w1, w2, w3, w4, w5, w6, w7⟩ := a_cv_ok g3 g4 (hL.ext g2 g1) (hS.ext g2 g1) (Nat.le_trans hp g2) hB
      have := ihc c' m1 (a_sg σ1 B) h lv stk hh hF (fun i hi => by rw [w7 i hi, g1 i (by omega), hσ i hi]) ⟨w3, w6, w5, w4⟩ (fun f hf => by
        obtain ⟨k1, k2⟩ := hρ f hf
        have k1 : a_wf (a_n E) f := k1
        have hn := a_nx_ok g3 (f := a_pl (a_dif f (a_sb B c'.2.2.2.2.2.2)) (-1)) (a_wf.dif (k1.mono g2) (a_sb_wf w1 _)) (hfall f hf)
        rw [a_pl_ev, a_dif_ev, a_sb_ev, a_ev_ext g1 k1, k2] at hn
        omega)
      rw [m2] at this
      exact this
    · rename_i hnil
      split at hg
      · rename_i f hf
        obtain ⟨i, a, ha1, ha2, ha3⟩ := a_spw_ok hf
        obtain ⟨v, hv1, hv2⟩ := hL i a ha1
        obtain ⟨t, s, f2⟩ := a
        have ha2 : t = 1 := ha2
        have ha3 : f2 = f := ha3
        subst ha2; subst ha3
        obtain ⟨wf, -, -, -⟩ := a_V1 hv2
        obtain ⟨b1, b2⟩ := a_b_ok hE wf
        obtain ⟨E', e1, e2, e3⟩ := a_sps_ok hE wf ((a_hi E f2 - a_lo E f2).toNat + 1) (a_lo E f2) b1 (by omega)
        have hg := List.all_eq_true.mp hg E' e1
        exact ih fst σ h lv stk (E', K, pc, al, sk) hg hh hF hσ (by show p ≤ a_n E'; omega) (fun f hf => by
          obtain ⟨k1, k2⟩ := hρ f hf
          exact ⟨by show a_wf (a_n E') f; rw [e3]; exact k1, k2⟩) ⟨e2, by show a_Kn sp nc σ (a_n E') K h; rw [e3]; exact hK, by show a_Lv σ (a_n E') al lv; rw [e3]; exact hL, by show a_Sk σ (a_n E') sk stk; rw [e3]; exact hS⟩
      · split at hg
        · rename_i r hr
          obtain ⟨a, ha1, ha2, ha3, hlo, hcv⟩ := a_sgw_ok hr
          obtain ⟨i, tb, f⟩ := r
          obtain ⟨v, hv1, hv2⟩ := hL i a ha1
          obtain ⟨t, s, f2⟩ := a
          have ha2 : t = 1 := ha2
          have ha3 : f2 = f := ha3
          subst ha2; subst ha3
          obtain ⟨wf, hvv, r1, r2⟩ := a_V1 hv2
          obtain ⟨b1, b2⟩ := a_b_ok hE wf
          have hlo : 0 ≤ a_lo E f2 := hlo
          have hcv : a_sgc tb ((a_hi E f2 - a_lo E f2).toNat + 1) (a_lo E f2).toNat = true := hcv
          have hx : a_ev σ f2 = ((a_ev σ f2).toNat : Int) := by omega
          obtain ⟨q, hq, σ', e1, e2, e3, e4, e5⟩ := a_sgs_ok hE wf hx (a_sgc_ok (y := (a_ev σ f2).toNat) hcv (by omega) (by omega))
          have hg := List.all_eq_true.mp hg q hq
          obtain ⟨E', g⟩ := q
          have e2 : a_n E ≤ a_n E' := e2
          have e3 : a_En σ' E' := e3
          have e4 : a_wf (a_n E') g := e4
          have e5 : a_ev σ' g = a_ev σ f2 := e5
          refine ih fst σ' h lv stk (E', K, pc, (i, (1, 0, g)) :: al, sk) hg hh hF (fun j hj => by rw [e1 j (by omega), hσ j hj]) (by show p ≤ a_n E'; omega) (fun f hf => by
            obtain ⟨k1, k2⟩ := hρ f hf
            have k1 : a_wf (a_n E) f := k1
            exact ⟨k1.mono e2, by rw [a_ev_ext e1 k1]; exact k2⟩) ⟨e3, hK.ext e2 e1, fun j c hj => ?_, hS.ext e2 e1⟩
          have hj : (bif Nat.beq i j then some (1, 0, g) else a_lg al j) = some c := (a_lg_c (q := (i, (1, 0, g)))).symm.trans hj
          cases hb : Nat.beq i j with
          | true =>
            rw [hb] at hj
            cases hj
            have e := Nat.eq_of_beq_eq_true hb
            subst e
            refine ⟨v, hv1, e4, ?_, ?_, ?_⟩
            · rw [hvv, ← e5]
            · rw [e5]; exact r1
            · rw [e5]; exact r2
          | false =>
            rw [hb] at hj
            exact (hL.ext e2 e1) j c hj
        split at hg
        rename_i op p0 v a b w t he
        cases hpb : Nat.beq p0 pc with
        | false => rw [hpb] at hg; cases hg
        | true =>
          rw [hpb] at hg
          have hpc := Nat.eq_of_beq_eq_true hpb
          subst hpc
          cases h24 : Nat.beq op 24 with
          | true =>
            have e24 := Nat.eq_of_beq_eq_true h24
            subst e24
            have hg : (a_ret (q_mT M) v E sk && a_outq sp nc E K sk p outs) = true := hg
            rw [Bool.and_eq_true] at hg
            obtain ⟨r, hr1, hr2⟩ := a_ret_ok hE hS hg.1
            obtain ⟨o, ho, rr, B, hrr, hB⟩ := a_outq_ok hg.2
            obtain ⟨σ1, g1, g2, g3, g4⟩ := a_rds_ok hh _ hE hK hrr
            obtain ⟨w1, w2, w3, w4, w5, w6, w7⟩ := a_cv_ok (al := []) (lv := []) g3 g4 (fun i a hi => by cases hi) (hS.ext g2 g1) (Nat.le_trans hp g2) hB
            refine ⟨h, r, q_xr he rfl rfl hr1 (Nat.zero_le _) (Nat.zero_le _) rfl, hh, hF, o, ho, a_sg σ1 B, fun i hi => by rw [w7 i hi, g1 i (by omega), hσ i hi], w3, w6, ?_⟩
            rw [hr2]
            exact w4
          | false =>
            cases h23 : Nat.beq op 23 with
            | true =>
              have e23 := Nat.eq_of_beq_eq_true h23
              subst e23
              have hg : (match a_spt (bif Nat.beq (q_mK (tab w)) 0 then q_mA (tab w) else q_mA (tab w) + 1) sk [] with
                | none => false
                | some r => a_rcv sp nc (q_mK (tab w)) (q_mC (tab w)) r.1 && (Nat.ble (r.2.map a_cat).sum 8 && (Nat.beq (q_mc (tab w)) 0 && (Nat.beq (q_ms (tab w)) 0 && (match a_or (a_calls sp nc S D E K al r.1 r.2 p0 (ct w)) (a_rcalls sp nc S E K al r.1 r.2 p0 ρ0 (rc w)) with
                  | none => false
                  | some nx => nx.all fun st => a_nst st (a_go sp nc tab ct rc ρ0 M S D p outs cuts spl ρ n false)))))) = true := hg
              split at hg
              · cases hg
              · rename_i r hr
                simp only [Bool.and_eq_true] at hg
                obtain ⟨c1, c2, c3, c4, hg⟩ := hg
                split at hg
                · cases hg
                · rename_i nx hnx
                  obtain ⟨C, rr, B, hc2, hrr, hB, hq2, hcc⟩ := a_callx hnx
                  obtain ⟨vav, vrest, s1, s2, s3, s4⟩ := a_spt_ok _ (vacc := []) hr hS trivial
                  obtain ⟨σ1, g1, g2, g3, g4⟩ := a_rds_ok hh _ hE hK hrr
                  have g2 : a_n E ≤ a_n rr.1 := g2
                  obtain ⟨w1, w2, w3, w4, w5, w6, w7⟩ := a_cv_ok (al := []) (lv := []) g3 g4 (fun i a hi => by cases hi) (s1.ext g2 g1) (Nat.zero_le _) hB
                  have hcr : a_Cr sp nc tab D' w C env h (a_sg σ1 B) vav := by
                    rcases hcc with ⟨d, hdD, hq1⟩ | ⟨ρ', hq1, hw, hn⟩
                    · obtain ⟨h', ro, hcall, hrest⟩ := hct w (d, C) hq1 hdD env h (a_sg σ1 B) vav hh w3 w6 w4
                      exact ⟨h', ro, a_GM_le (Nat.le_trans hdD hD) hcall, hrest⟩
                    · refine hrc w (ρ', C) hq1 env h (a_sg σ1 B) vav ⟨hh, w3, w6, w4⟩ ?_
                      have hp0' : a_wf (a_n rr.1) ρ0 := hp0.mono (by omega)
                      have hn2 := a_nx_ok g3 (f := a_pl (a_dif ρ0 (a_sb B ρ')) (-1)) (hp0'.dif (a_sb_wf w1 ρ')) hn
                      rw [a_pl_ev, a_dif_ev, a_sb_ev] at hn2
                      have e0 : a_ev σ1 ρ0 = a_ev σ0 ρ0 := a_ev_ext (fun i hi => by rw [g1 i (by omega), hσ i hi]) hp0
                      show a_ev (a_sg σ1 B) ρ' < a_ev σ0 ρ0
                      omega
                  obtain ⟨h', ro, hcall, hh', hF', o, ho, σ2, o1, o2, o3, o4⟩ := hcr
                  obtain ⟨st, m1, m2, σ3, k1, k2, k3⟩ := a_end_ok (pc := p0) (al := al) (lv := lv) g3 g4 (hL.ext g2 g1) (s2.ext g2 g1) w1 hF' (by rw [w2]; exact o1) o2 o3 o4
                  have hmem : st ∈ nx := by
                    rw [← hq2]
                    exact a_ends_mem m1 ho
                  have hgo : a_go sp nc tab ct rc ρ0 M S D p outs cuts spl ρ n false st = true := (a_nst_eq st (a_go sp nc tab ct rc ρ0 M S D p outs cuts spl ρ n false)).symm.trans (List.all_eq_true.mp hg st hmem)
                  have k2 : a_n rr.1 ≤ a_n st.1 := k2
                  obtain ⟨h2, r2, hrun, hpost⟩ := ih false σ3 h' lv (ro.toList ++ vrest) st hgo hh' (hF.tr (a_Fr.sub hc2 hF')) (fun i hi => by rw [k1 i (by omega), g1 i (by omega), hσ i hi]) (by omega) (fun f hf => by
                    obtain ⟨z1, z2⟩ := hρ f hf
                    have z1 : a_wf (a_n E) f := z1
                    refine ⟨z1.mono (by omega), ?_⟩
                    rw [a_ev_ext (σ := σ1) (fun i hi => k1 i hi) (z1.mono g2), a_ev_ext g1 z1]
                    exact z2) k3
                  rw [m2] at hrun
                  refine ⟨h2, r2, ?_, hpost⟩
                  have cm := Nat.eq_of_beq_eq_true c3
                  have cs := Nat.eq_of_beq_eq_true c4
                  have hst : stk = vav.reverse ++ vrest := by
                    rw [s3]; rfl
                  refine a_xc1 (e := (23, p0, v, a, b, w, t)) (av := vav) (rest := vrest) (o1 := (env, h', ro)) (q_GM_mono tab D') he rfl rfl hst ?_ (a_rcv_ok hh s1 c1) ?_ ?_ ?_ hcall ?_
                  · rw [s4]
                    show (bif Nat.beq (q_mK (tab w)) 0 then q_mA (tab w) else q_mA (tab w) + 1) + 0 = (if q_mK (tab w) = 0 then q_mA (tab w) else q_mA (tab w) + 1)
                    rw [q_beq]
                    by_cases e : q_mK (tab w) = 0
                    · rw [decide_eq_true e, if_pos e]; rfl
                    · rw [decide_eq_false e, if_neg e]; rfl
                  · rw [s2.cats]
                    exact Nat.le_of_ble_eq_true c2
                  · show 0 + q_mc (tab w) ≤ q_mc M
                    rw [cm]; exact Nat.zero_le _
                  · show 0 + q_ms (tab w) ≤ q_ms M
                    rw [cs]; exact Nat.zero_le _
                  · show q_GE tab (q_GM tab D') M false 0 (env, h', 0 + q_mc (tab w), 0 + q_ms (tab w), p0 + 3, lv, ro.toList ++ vrest) _
                    rw [cm, cs]
                    exact hrun
            | false =>
              have hg : (bif Nat.beq op 24 then _ else bif Nat.beq op 23 then _ else (match a_step sp nc S (q_mL M) (op, p0, v, a, b, w, t) E K al sk with
                | none => false
                | some nx => nx.all fun st => a_nsk op (a_gpl sp nc spl.2.1 p0 op v K al sk (a_gsl p0 spl.2.2) st) (a_go sp nc tab ct rc ρ0 M S D p outs cuts spl ρ n false))) = true := hg
              rw [h24, h23] at hg
              have hg : (match a_step sp nc S (q_mL M) (op, p0, v, a, b, w, t) E K al sk with
                | none => false
                | some nx => nx.all fun st => a_nsk op (a_gpl sp nc spl.2.1 p0 op v K al sk (a_gsl p0 spl.2.2) st) (a_go sp nc tab ct rc ρ0 M S D p outs cuts spl ρ n false)) = true := hg
              split at hg
              · cases hg
              · rename_i nx hnx
                obtain ⟨⟨h', pc', lv', stk', hs, hh', hF', st, m1, m2, σ1, g1, g2, g3⟩, -, -⟩ := a_step_ok (env := env) hE hh ⟨hK, hL, hS⟩ hnx
                have hgo : a_go sp nc tab ct rc ρ0 M S D p outs cuts spl ρ n false (a_gpl sp nc spl.2.1 p0 op v K al sk (a_gsl p0 spl.2.2) st) = true := (a_nsk_eq op _ (a_go sp nc tab ct rc ρ0 M S D p outs cuts spl ρ n false)).symm.trans (List.all_eq_true.mp hg st m1)
                have g2 : a_n E ≤ a_n st.1 := g2
                obtain ⟨q1, q2, q3⟩ := a_gpl_ok hrl (pc := p0) (op := op) (v := v) (gs := a_gsl p0 spl.2.2) hh hh' hK hL hS g1 (fun eo => by
                  refine ⟨?_, fun i c stk2 e => ?_⟩
                  · subst eo
                    exact a_ldh hs
                  · subst e
                    exact (a_ldr (e := (op, p0, v, a, b, w, t)) eo hs).2) (fun eo t n i c stk2 e hk => by
                  subst e
                  exact a_str (e := (op, p0, v, a, b, w, _)) eo hk hs) (fun eo => by
                  refine ⟨?_, fun y x stk2 e => ?_⟩
                  · subst eo
                    exact a_opH hs
                  · subst e
                    exact a_rmx (e := (op, p0, v, a, b, w, t)) eo hs) (fun eo x stk2 e => by
                  subst e
                  exact a_cvx (e := (op, p0, v, a, b, w, t)) eo hs) (fun eo n9 t9 d9 s9 c9 stk2 e => by
                  subst e
                  exact a_acx (e := (op, p0, v, a, b, w, t)) eo hh hs) g2 g3
                rw [← q2] at g2
                replace g3 := q1
                have m2 : (a_gpl sp nc spl.2.1 p0 op v K al sk (a_gsl p0 spl.2.2) st).2.2.1 = pc' := by rw [q3]; exact m2
                clear q1 q2 q3
                generalize a_gpl sp nc spl.2.1 p0 op v K al sk (a_gsl p0 spl.2.2) st = st at hgo g2 g3 m2
                obtain ⟨h2, r2, hrun, hpost⟩ := ih false σ1 h' lv' stk' st hgo hh' (hF.tr hF') (fun i hi => by rw [g1 i (by omega), hσ i hi]) (by omega) (fun f hf => by
                  obtain ⟨z1, z2⟩ := hρ f hf
                  have z1 : a_wf (a_n E) f := z1
                  exact ⟨z1.mono (by omega), by rw [a_ev_ext g1 z1]; exact z2⟩) g3
                rw [m2] at hrun
                refine ⟨h2, r2, q_x1 ?_ hrun, hpost⟩
                unfold q_a1S
                rw [he, hm1, hm2]
                show (bif Nat.beq p0 p0 && !(Nat.beq op 24) && !(Nat.beq op 23) then q_stepS 0 0 false 0 (q_mL M) (op, p0, v, a, b, w, t) env h 0 0 lv stk else none) = _
                rw [h24, h23, Nat.beq_refl]
                exact hs
noncomputable def a_args : Nat → List aV → aL
  | _, [] => []
  | i, x :: xs => (i, x) :: a_args (bif Nat.beq (a_cat x) 2 then i + 2 else i + 1) xs
theorem a_args_ok {σ : Nat → Int} {n : Nat} : ∀ {as : List aV} {vs : List qV} (i : Nat), a_Sk σ n as vs → a_Lv σ n (a_args i as) (q_args i vs)
  | [], [], i, _ => fun j a h => by cases h
  | a :: as, v :: vs, i, h => fun j b hj => by
    have ih := a_args_ok (as := as) (vs := vs) (bif Nat.beq (a_cat a) 2 then i + 2 else i + 1) h.2
    have hj : (bif Nat.beq i j then some a else a_lg (a_args (bif Nat.beq (a_cat a) 2 then i + 2 else i + 1) as) j) = some b := (a_lg_c (q := (i, a))).symm.trans hj
    show ∃ v', (((i, v) :: q_args (bif Nat.beq (q_cat v) 2 then i + 2 else i + 1) vs).find? fun q => Nat.beq q.1 j).map (·.2) = some v' ∧ _
    rw [List.find?_cons]
    show ∃ v', Option.map (fun (x : Nat × qV) => x.2) (match Nat.beq i j with
      | true => some (i, v)
      | false => List.find? (fun (q : Nat × qV) => Nat.beq q.1 j) (q_args (bif Nat.beq (q_cat v) 2 then i + 2 else i + 1) vs)) = some v' ∧ a_V σ n b v'
    rw [h.1.kd.2]
    cases hb : Nat.beq i j with
    | true =>
      rw [hb] at hj
      cases hj
      exact ⟨v, rfl, h.1⟩
    | false =>
      rw [hb] at hj
      exact ih j b hj
  | [], _ :: _, _, h => h.elim
  | _ :: _, [], _, h => h.elim
/-- the places where runs meet, each by itself -/
noncomputable def a_cuts (sp : aSp) (nc : Nat) (tab : Nat → qM) (ct : Nat → List (Nat × aCon)) (rc : Nat → List (aF × aCon)) (ρ0 : aF) (M : qM) (S : aW) (D p : Nat) (outs : List aOut) (cuts : List aCut) (spl : aSg) (fuel : Nat) : List aCut → Bool
  | [] => true
  | c :: cs => (Nat.ble p (a_n c.2.2.2.2.2.1) && (a_wfb (a_n c.2.2.2.2.2.1) c.2.2.2.2.2.2.1 && (a_nn c.2.2.2.2.2.1 c.2.2.2.2.2.2 2 && a_go sp nc tab ct rc ρ0 M S D p outs cuts spl (some c.2.2.2.2.2.2) fuel true (c.2.2.2.2.2.1, c.2.2.2.2.1, c.1, c.2.2.1, c.2.2.2.1)))) && a_cuts sp nc tab ct rc ρ0 M S D p outs cuts spl fuel cs
theorem a_cuts_mem {fuel : Nat} {c : aCut} : ∀ {cs : List aCut}, a_cuts sp nc tab ct rc ρ0 M S D p outs cuts spl fuel cs = true → c ∈ cs → p ≤ a_n c.2.2.2.2.2.1 ∧ a_wf (a_n c.2.2.2.2.2.1) c.2.2.2.2.2.2 ∧ a_nn c.2.2.2.2.2.1 c.2.2.2.2.2.2 2 = true ∧ a_go sp nc tab ct rc ρ0 M S D p outs cuts spl (some c.2.2.2.2.2.2) fuel true (c.2.2.2.2.2.1, c.2.2.2.2.1, c.1, c.2.2.1, c.2.2.2.1) = true
  | [], _, h => by cases h
  | d :: cs, hc, h => by
    unfold a_cuts at hc
    rw [Bool.and_eq_true] at hc
    rcases List.mem_cons.mp h with rfl | h
    · have h1 := hc.1
      simp only [Bool.and_eq_true] at h1
      exact ⟨Nat.le_of_ble_eq_true h1.1, a_wfb_ok h1.2.1, h1.2.2.1, h1.2.2.2⟩
    · exact a_cuts_mem hc.2 h
theorem a_cuts_ok (hrl : ∀ i, a_RR sp nc (spl.2.1 i)) (hm1 : q_mc M = 0) (hm2 : q_ms M = 0) (hD : D ≤ D') (hct : ∀ id, ∀ q ∈ ct id, q.1 ≤ D → a_Con sp nc tab q.1 id q.2) (hp0 : a_wf p ρ0) (hrc : ∀ id, ∀ q ∈ rc id, ∀ (env : qE) (h : qH) (σ : Nat → Int) (av : List qV), a_Pr sp nc q.2 h σ av → a_ev σ q.1 < a_ev σ0 ρ0 → a_Cr sp nc tab D' id q.2 env h σ av) {fuel : Nat} (hc : a_cuts sp nc tab ct rc ρ0 M S D p outs cuts spl fuel cuts = true) :
    ∀ (R : Nat), ∀ c ∈ cuts, ∀ (σ : Nat → Int) (h : qH) (lv : qL) (stk : List qV), a_HI sp nc h → a_Fr sp nc S h0 h → (∀ i, i < p → σ i = σ0 i) → a_St sp nc σ h lv stk (c.2.2.2.2.2.1, c.2.2.2.2.1, c.1, c.2.2.1, c.2.2.2.1) → a_ev σ c.2.2.2.2.2.2 ≤ R → a_Good sp nc tab M S D' p outs σ0 h0 env c.1 h lv stk := by
  intro R
  induction R using Nat.strongRecOn with
  | ind R ihR =>
    intro c hcm σ h lv stk hh hF hσ hst hR
    obtain ⟨c1, c2, c3, c4⟩ := a_cuts_mem hc hcm
    refine a_go_ok (ρ := some c.2.2.2.2.2.2) (R := a_ev σ c.2.2.2.2.2.2) hrl hm1 hm2 hD hct hp0 hrc (fun c' hcm' σ' h' lv' stk' hh' hF' hσ' hst' hfall => ?_) fuel true σ h lv stk _ c4 hh hF hσ c1 (fun f hf => by cases hf; exact ⟨c2, rfl⟩) hst
    have h1 := hfall _ rfl
    obtain ⟨d1, d2, d3, d4⟩ := a_cuts_mem hc hcm'
    have h2 := a_nn_ok hst'.1 2 d2 d3
    have h3 := a_nn_ok hst.1 2 c2 c3
    exact ihR (a_ev σ' c'.2.2.2.2.2.2).toNat (by omega) c' hcm' σ' h' lv' stk' hh' hF' hσ' hst' (by omega)
/-- a method keeps its contract, with calls at most D deep, and those of rc that fall below ρ0 -/
noncomputable def a_mokr (sp : aSp) (nc : Nat) (tab : Nat → qM) (ct : Nat → List (Nat × aCon)) (rc : Nat → List (aF × aCon)) (ρ0 : aF) (M : qM) (D : Nat) (C : aCon) (cuts : List aCut) (spl : aSg) (fuel : Nat) : Bool :=
  a_wfb (a_n C.2.2.2.1) ρ0.1 && (Nat.beq (q_mc M) 0 && (Nat.beq (q_ms M) 0 && (Nat.ble (C.2.1.map a_cat).sum (q_mL M) && (a_go sp nc tab ct rc ρ0 M C.2.2.2.2.1 D (a_n C.2.2.2.1) C.2.2.2.2.2 cuts spl none fuel true (C.2.2.2.1, C.2.2.1, 0, a_args 0 C.2.1, []) && a_cuts sp nc tab ct rc ρ0 M C.2.2.2.2.1 D (a_n C.2.2.2.1) C.2.2.2.2.2 cuts spl fuel cuts))))
theorem a_mokr_ok {id : Nat} {C : aCon} {fuel : Nat} (hrl : ∀ i, a_RR sp nc (spl.2.1 i)) (hD : D ≤ D') (hct : ∀ id, ∀ q ∈ ct id, q.1 ≤ D → a_Con sp nc tab q.1 id q.2) (hm : a_mokr sp nc tab ct rc ρ0 (tab id) D C cuts spl fuel = true) {env : qE} {h : qH} {σ : Nat → Int} {av : List qV} (hpr : a_Pr sp nc C h σ av) (hrc : ∀ id, ∀ q ∈ rc id, ∀ (env : qE) (h : qH) (σ' : Nat → Int) (av : List qV), a_Pr sp nc q.2 h σ' av → a_ev σ' q.1 < a_ev σ ρ0 → a_Cr sp nc tab D' id q.2 env h σ' av) : a_Cr sp nc tab (D' + 1) id C env h σ av := by
  unfold a_mokr at hm
  simp only [Bool.and_eq_true] at hm
  obtain ⟨m0, m1, m2, m3, m4, m5⟩ := hm
  have m0 := a_wfb_ok m0
  have m1 := Nat.eq_of_beq_eq_true m1
  have m2 := Nat.eq_of_beq_eq_true m2
  obtain ⟨hh, hE, hK, hS⟩ := hpr
  obtain ⟨h', r, hrun, hpost⟩ := a_go_ok (env := env) (σ0 := σ) (h0 := h) (R := 0) hrl m1 m2 hD hct m0 hrc (fun c hcm σ' h' lv' stk' hh' hF' hσ' hst' _ => a_cuts_ok hrl m1 m2 hD hct m0 hrc m5 (a_ev σ' c.2.2.2.2.2.2).toNat c hcm σ' h' lv' stk' hh' hF' hσ' hst' (by omega)) fuel true σ h (q_args 0 av) [] _ m4 hh a_Fr.rf (fun _ _ => rfl) (Nat.le_refl _) (fun f hf => by cases hf) ⟨hE, hK, a_args_ok 0 hS, trivial⟩
  refine ⟨h', r, ⟨?_, hrun⟩, hpost.1, hpost.2.1, hpost.2.2⟩
  rw [hS.cats]
  exact Nat.le_of_ble_eq_true m3
noncomputable def a_mok (sp : aSp) (nc : Nat) (tab : Nat → qM) (ct : Nat → List (Nat × aCon)) (M : qM) (D : Nat) (C : aCon) (cuts : List aCut) (spl : aSg) (fuel : Nat) : Bool := a_mokr sp nc tab ct (fun _ => []) (a_cn 0) M D C cuts spl fuel
theorem a_mok_ok {id : Nat} {C : aCon} {fuel : Nat} (hrl : ∀ i, a_RR sp nc (spl.2.1 i)) (hct : ∀ id, ∀ q ∈ ct id, q.1 ≤ D → a_Con sp nc tab q.1 id q.2) (hm : a_mok sp nc tab ct (tab id) D C cuts spl fuel = true) : a_Con sp nc tab (D + 1) id C := fun _ _ _ _ hh hE hK hS => a_mokr_ok hrl (Nat.le_refl D) hct hm ⟨hh, hE, hK, hS⟩ (fun _ _ hq => by cases hq)
/-- methods that call each other keep their contracts: what they fall by is at most R -/
theorem a_rec_ok (hct : ∀ id, ∀ q ∈ ct id, q.1 ≤ D → a_Con sp nc tab q.1 id q.2) (hrc : ∀ id, ∀ q ∈ rc id, a_wf (a_n q.2.2.2.2.1) q.1 ∧ a_nn q.2.2.2.2.1 q.1 2 = true ∧ ∃ cuts spl fuel, (∀ i, a_RR sp nc ((spl : aSg).2.1 i)) ∧ a_mokr sp nc tab ct rc q.1 (tab id) D q.2 cuts spl fuel = true) : ∀ (R id : Nat), ∀ q ∈ rc id, ∀ (env : qE) (h : qH) (σ : Nat → Int) (av : List qV), a_Pr sp nc q.2 h σ av → a_ev σ q.1 ≤ R → a_Cr sp nc tab (D + R + 1) id q.2 env h σ av := by
  intro R
  induction R with
  | zero =>
    intro id q hq env h σ av hpr hR
    obtain ⟨w, n0, cuts, spl, fuel, hrl, hm⟩ := hrc id q hq
    refine a_mokr_ok hrl (Nat.le_refl D) hct hm hpr (fun id' q' hq' env' h' σ' av' hpr' hlt => ?_)
    obtain ⟨w', n0', -⟩ := hrc id' q' hq'
    have := a_nn_ok hpr'.2.1 2 w' n0'
    omega
  | succ R ih =>
    intro id q hq env h σ av hpr hR
    obtain ⟨w, n0, cuts, spl, fuel, hrl, hm⟩ := hrc id q hq
    exact a_mokr_ok hrl (by omega) hct hm hpr (fun id' q' hq' env' h' σ' av' hpr' hlt => ih id' q' hq' env' h' σ' av' hpr' (by omega))
theorem a_rec_con {R id : Nat} {q : aF × aCon} (hr : ∀ (id : Nat), ∀ q ∈ rc id, ∀ (env : qE) (h : qH) (σ : Nat → Int) (av : List qV), a_Pr sp nc q.2 h σ av → a_ev σ q.1 ≤ R → a_Cr sp nc tab (D + R + 1) id q.2 env h σ av) (hq : q ∈ rc id) (hw : a_wfb (a_n q.2.2.2.2.1) q.1.1 = true) (hR : a_lef q.2.2.2.2.1 q.1 R = true) : a_Con sp nc tab (D + R + 1) id q.2 := fun env h σ av hh hE hK hS => hr id q hq env h σ av ⟨hh, hE, hK, hS⟩ (a_lef_ok hE (a_wfb_ok hw) hR)
end
