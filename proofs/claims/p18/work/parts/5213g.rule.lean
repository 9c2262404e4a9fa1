-- 13g.rule: facts that follow by rules
/-- a rule: its kind (0: ahead of an instruction, 1: behind a store, 2: behind a load), a cell; what it wants: facts by their numbers (0: the int at a place), as sums over witnesses; sums that are 0 or more; what it gives: a fact by its number (0: a sum that is 0 or more) -/
abbrev aRl : Type := Nat × Nat × List (Nat × Nat × Nat × aF) × List aF × Nat × aF
/-- where a rule is put to use: pc, rule, where the witnesses stand, where the facts wanted are kept, where the new one is to be -/
abbrev aGi : Type := Nat × Nat × aQ × List (Nat × Nat) × Nat × Nat
/-- what a premise says -/
noncomputable def a_Rp (sp : aSp) (nc : Nat) (h : qH) (x : Nat → Int) (p : Nat × Nat × Nat × aF) : Prop := if p.1 = 0 then p.2.2.1 < a_cl sp p.2.1 → a_fd h p.2.1 p.2.2.1 = (0, a_w (a_ev x p.2.2.2)) ∧ -2147483648 ≤ a_ev x p.2.2.2 ∧ a_ev x p.2.2.2 < 2147483648 else a_M sp nc p.1 (a_ev x p.2.2.2) h
noncomputable def a_Rc (sp : aSp) (nc : Nat) (h : qH) (x : Nat → Int) (code : Nat) (f : aF) : Prop := if code = 0 then 0 ≤ a_ev x f else a_M sp nc code (a_ev x f) h
/-- a rule of kind 0 holds -/
noncomputable def a_R0 (sp : aSp) (nc : Nat) (r : aRl) : Prop := r.1 = 0 → ∀ (h : qH) (x : Nat → Int), a_HI sp nc h → (∀ p ∈ r.2.2.1, a_Rp sp nc h x p) → (∀ f ∈ r.2.2.2.1, 0 ≤ a_ev x f) → a_Rc sp nc h x r.2.2.2.2.1 r.2.2.2.2.2
noncomputable def a_gpr (E : aE) (K : aK) (W : List aF) : List (Nat × Nat × Nat × aF) → List (Nat × Nat) → Bool
  | [], _ => true
  | p :: ps, k :: ks => (match a_kf K k.1 k.2 with
    | none => false
    | some a => (bif Nat.beq p.1 0 then Nat.beq a.1 1 && (Nat.beq k.1 p.2.1 && Nat.beq k.2 p.2.2.1) else Nat.ble 1048576 p.1 && (a_t12 a && Nat.beq a.2.1 p.1)) && a_eqE E a.2.2 (a_sb W p.2.2.2)) && a_gpr E K W ps ks
  | _ :: _, [] => false
theorem a_gpr_ok {sp : aSp} {nc : Nat} {h : qH} {σ : Nat → Int} {E : aE} {K : aK} {W : List aF} (hE : a_En σ E) (hK : a_Kn sp nc σ (a_n E) K h) (hW : a_wfs (a_n E) W) : ∀ {ps : List (Nat × Nat × Nat × aF)} {ks : List (Nat × Nat)}, a_gpr E K W ps ks = true → ∀ p ∈ ps, a_Rp sp nc h (a_sg σ W) p
  | [], _, _ => fun p hp => absurd hp List.not_mem_nil
  | _ :: _, [], h => by cases h
  | p :: ps, k :: ks, hg => fun q hq => by
    have hg : ((match a_kf K k.1 k.2 with
      | none => false
      | some a => (bif Nat.beq p.1 0 then Nat.beq a.1 1 && (Nat.beq k.1 p.2.1 && Nat.beq k.2 p.2.2.1) else Nat.ble 1048576 p.1 && (a_t12 a && Nat.beq a.2.1 p.1)) && a_eqE E a.2.2 (a_sb W p.2.2.2)) && a_gpr E K W ps ks) = true := hg
    rw [Bool.and_eq_true] at hg
    rcases List.mem_cons.mp hq with rfl | hq
    · have h1 := hg.1
      split at h1
      · cases h1
      · rename_i a ha
        rw [Bool.and_eq_true] at h1
        obtain ⟨h1, h2⟩ := h1
        obtain ⟨k0, hKa⟩ := hK _ (a_kf_mem ha)
        unfold a_Rp
        by_cases hz : q.1 = 0
        · rw [if_pos hz]
          intro hlt
          rw [hz] at h1
          have h1 : (Nat.beq a.1 1 && (Nat.beq k.1 q.2.1 && Nat.beq k.2 q.2.2.1)) = true := h1
          simp only [Bool.and_eq_true] at h1
          obtain ⟨u1, u2, u3⟩ := h1
          have u1 := Nat.eq_of_beq_eq_true u1
          have u2 := Nat.eq_of_beq_eq_true u2
          have u3 := Nat.eq_of_beq_eq_true u3
          obtain ⟨t, s, f⟩ := a
          have u1 : t = 1 := u1
          subst u1
          rcases hKa with ⟨k1, k2⟩ | ⟨k1, k2, k3, k4⟩
          · obtain ⟨wf, hv, r1, r2⟩ := a_V1 k2
            have e := a_eqE_ok hE wf (a_sb_wf hW q.2.2.2) h2
            rw [a_sb_ev] at e
            rw [← u2, ← u3, ← e]
            exact ⟨hv, r1, r2⟩
          · cases (show 1 = 12 from k2)
        · rw [if_neg hz]
          have hb : Nat.beq q.1 0 = false := by rw [q_beq]; exact decide_eq_false hz
          rw [hb] at h1
          have h1 : (Nat.ble 1048576 q.1 && (a_t12 a && Nat.beq a.2.1 q.1)) = true := h1
          simp only [Bool.and_eq_true] at h1
          obtain ⟨u0, u1, u2⟩ := h1
          have u2 := Nat.eq_of_beq_eq_true u2
          have e1 : a.1 = 12 := Nat.eq_of_beq_eq_true u1
          rcases hKa with ⟨k1, k2⟩ | ⟨k1, k2, k3, k4⟩
          · exact absurd e1 (a_V12 k2)
          · have e := a_eqE_ok hE k3 (a_sb_wf hW q.2.2.2) h2
            rw [a_sb_ev] at e
            rw [← e, ← u2]
            refine k4.2 ?_
            have u0 := Nat.le_of_ble_eq_true u0
            rw [q_blt]
            exact decide_eq_false (by show ¬ a.2.1 < 1048576; rw [u2]; exact Nat.not_lt.mpr u0)
    · exact a_gpr_ok hE hK hW hg.2 q hq
/-- a rule's end -/
noncomputable def a_gcl (sp : aSp) (nc : Nat) (E : aE) (K : aK) (W : List aF) (code : Nat) (f : aF) (k : Nat × Nat) : Option (aE × aK) :=
  bif Nat.beq code 0 then some ((E.1, a_sb W f :: E.2), K)
  else bif Nat.ble 1048576 code && (Nat.blt k.1 nc && Nat.ble (a_cl sp k.1) k.2) then some (E, ((k.1, k.2), (12, code, a_sb W f)) :: K) else none
theorem a_gcl_ok {sp : aSp} {nc : Nat} {h : qH} {σ : Nat → Int} {E : aE} {K : aK} {W : List aF} {code : Nat} {f : aF} {k : Nat × Nat} {r : aE × aK} (hE : a_En σ E) (hK : a_Kn sp nc σ (a_n E) K h) (hW : a_wfs (a_n E) W) (hc : a_Rc sp nc h (a_sg σ W) code f) (hr : a_gcl sp nc E K W code f k = some r) : a_En σ r.1 ∧ a_n r.1 = a_n E ∧ a_Kn sp nc σ (a_n r.1) r.2 h := by
  unfold a_gcl at hr
  unfold a_Rc at hc
  cases hb : Nat.beq code 0 with
  | true =>
    rw [hb] at hr
    cases hr
    rw [if_pos (Nat.eq_of_beq_eq_true hb)] at hc
    refine ⟨⟨hE.1, fun q hq => ?_⟩, rfl, hK⟩
    rcases List.mem_cons.mp hq with rfl | hq
    · exact ⟨a_sb_wf hW f, by rw [a_sb_ev]; exact hc⟩
    · exact hE.2 q hq
  | false =>
    rw [hb] at hr
    obtain ⟨h1, hr⟩ := q_bt hr
    cases hr
    simp only [Bool.and_eq_true] at h1
    obtain ⟨u1, u2, u3⟩ := h1
    have hz : code ≠ 0 := by rw [q_beq] at hb; exact of_decide_eq_false hb
    rw [if_neg hz] at hc
    refine ⟨hE, rfl, fun q hq => ?_⟩
    rcases List.mem_cons.mp hq with rfl | hq
    · rw [q_blt] at u2
      refine ⟨of_decide_eq_true u2, Or.inr ⟨Nat.le_of_ble_eq_true u3, rfl, a_sb_wf hW f, ?_⟩⟩
      have u1 := Nat.le_of_ble_eq_true u1
      refine ⟨fun hx => ?_, fun _ => by rw [a_sb_ev]; exact hc⟩
      rw [q_blt] at hx
      exact absurd (of_decide_eq_true hx) (Nat.not_lt.mpr u1)
    · exact hK q hq
/-- a rule put to use ahead of an instruction, if it suits -/
noncomputable def a_ga1 (sp : aSp) (nc : Nat) (rl : Nat → aRl) (g : aGi) (E : aE) (K : aK) (al : aL) (sk : List aV) : Option (aE × aK) :=
  bif Nat.beq (rl g.2.1).1 0 && (a_gpr E K (a_src g.2.2.1 sk al K) (rl g.2.1).2.2.1 g.2.2.2.1 && (rl g.2.1).2.2.2.1.all fun f => a_nx E (a_sb (a_src g.2.2.1 sk al K) f)) then
    a_gcl sp nc E K (a_src g.2.2.1 sk al K) (rl g.2.1).2.2.2.2.1 (rl g.2.1).2.2.2.2.2 g.2.2.2.2 else none
theorem a_ga1_ok {sp : aSp} {nc : Nat} {rl : Nat → aRl} (hrl : ∀ i, a_R0 sp nc (rl i)) {g : aGi} {h : qH} {σ : Nat → Int} {E : aE} {K : aK} {al : aL} {lv : qL} {sk : List aV} {stk : List qV} {r : aE × aK} (hh : a_HI sp nc h) (hE : a_En σ E) (hK : a_Kn sp nc σ (a_n E) K h) (hL : a_Lv σ (a_n E) al lv) (hS : a_Sk σ (a_n E) sk stk) (hr : a_ga1 sp nc rl g E K al sk = some r) : a_En σ r.1 ∧ a_n r.1 = a_n E ∧ a_Kn sp nc σ (a_n r.1) r.2 h := by
  unfold a_ga1 at hr
  obtain ⟨h1, hr⟩ := q_bt hr
  simp only [Bool.and_eq_true] at h1
  obtain ⟨u1, u2, u3⟩ := h1
  have hW := a_src_wf hS hL hK g.2.2.1
  refine a_gcl_ok hE hK hW ?_ hr
  refine hrl g.2.1 (Nat.eq_of_beq_eq_true u1) h (a_sg σ _) hh (a_gpr_ok hE hK hW u2) (fun f hf => ?_)
  have := a_nx_ok hE (a_sb_wf hW f) (List.all_eq_true.mp u3 f hf)
  rw [a_sb_ev] at this
  exact this
/-- a place's own rules -/
noncomputable def a_gsl (pc : Nat) (l : List (Nat × List aGi)) : List aGi := @List.rec (Nat × List aGi) (fun _ => List aGi) [] (fun q _ ih => @Bool.rec (fun _ => List aGi) ih q.2 (Nat.beq q.1 pc)) l
/-- all rules for that place, one behind the other -/
noncomputable def a_gap (sp : aSp) (nc : Nat) (rl : Nat → aRl) (pc : Nat) (al : aL) (sk : List aV) : List aGi → aE → aK → aE × aK
  | [], E, K => (E, K)
  | g :: gs, E, K => bif Nat.beq g.1 pc then (match a_ga1 sp nc rl g E K al sk with
    | some r => a_gap sp nc rl pc al sk gs r.1 r.2
    | none => a_gap sp nc rl pc al sk gs E K) else a_gap sp nc rl pc al sk gs E K
theorem a_gap_ok {sp : aSp} {nc : Nat} {rl : Nat → aRl} (hrl : ∀ i, a_R0 sp nc (rl i)) {pc : Nat} {h : qH} {σ : Nat → Int} {al : aL} {lv : qL} {sk : List aV} {stk : List qV} (hh : a_HI sp nc h) : ∀ {gs : List aGi} {E : aE} {K : aK}, a_En σ E → a_Kn sp nc σ (a_n E) K h → a_Lv σ (a_n E) al lv → a_Sk σ (a_n E) sk stk → a_En σ (a_gap sp nc rl pc al sk gs E K).1 ∧ a_n (a_gap sp nc rl pc al sk gs E K).1 = a_n E ∧ a_Kn sp nc σ (a_n (a_gap sp nc rl pc al sk gs E K).1) (a_gap sp nc rl pc al sk gs E K).2 h
  | [], E, K, hE, hK, _, _ => ⟨hE, rfl, hK⟩
  | g :: gs, E, K, hE, hK, hL, hS => by
    unfold a_gap
    cases hb : Nat.beq g.1 pc with
    | false => exact a_gap_ok hrl hh hE hK hL hS
    | true =>
      show a_En σ (match a_ga1 sp nc rl g E K al sk with
        | some r => a_gap sp nc rl pc al sk gs r.1 r.2
        | none => a_gap sp nc rl pc al sk gs E K).1 ∧ _
      cases hg : a_ga1 sp nc rl g E K al sk with
      | none => exact a_gap_ok hrl hh hE hK hL hS
      | some r =>
        obtain ⟨k1, k2, k3⟩ := a_ga1_ok hrl hh hE hK hL hS hg
        obtain ⟨m1, m2, m3⟩ := a_gap_ok hrl (pc := pc) (gs := gs) hh k1 k3 (by rw [k2]; exact hL) (by rw [k2]; exact hS)
        exact ⟨m1, m2.trans k2, m3⟩
