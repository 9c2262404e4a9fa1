-- 14.meth: calls by contract, runs between the places where runs meet, a method's contract
theorem a_GF_cm {tab : Nat → qM} {call call' : q_call} (hc' : q_cMono call') (hcc : ∀ id env h av P, call id env h av P → call' id env h av P) {M : qM} {scr : Bool} {L : Nat} : ∀ (n : Nat) (fr : qF) (P : qO → Prop), q_GF tab call M scr L n fr P → q_GF tab call' M scr L n fr P
  | 0, _, _, h => h
  | n + 1, fr, P, h => by
    rcases h with ⟨hpc, ⟨hop, r, hr, c1, c2, h1⟩ | ⟨hop, av, rest, hstk, hlen, hrcv, h8, c1, c2, h1⟩ | ⟨nx, hs, hn⟩⟩ | ⟨I, hI, h1⟩
    · exact Or.inl ⟨hpc, Or.inl ⟨hop, r, hr, c1, c2, h1⟩⟩
    · exact Or.inl ⟨hpc, Or.inr (Or.inl ⟨hop, av, rest, hstk, hlen, hrcv, h8, c1, c2, hc' _ _ _ _ _ _ (fun o ho => a_GF_cm hc' hcc n _ P ho) (hcc _ _ _ _ _ h1)⟩)⟩
    · exact Or.inl ⟨hpc, Or.inr (Or.inr ⟨nx, hs, fun f hf => a_GF_cm hc' hcc n f P (hn f hf)⟩)⟩
    · exact Or.inr ⟨I, hI, fun f hf => a_GF_cm hc' hcc n f P (h1 f hf)⟩
theorem a_GM_s {tab : Nat → qM} : ∀ (d id : Nat) (env : qE) (h : qH) (av : List qV) (P : qO → Prop), q_GM tab d id env h av P → q_GM tab (d + 1) id env h av P
  | 0, _, _, _, _, _, h => h.elim
  | d + 1, id, env, h, av, P, ⟨h1, n, h2⟩ => ⟨h1, n, a_GF_cm (q_GM_mono tab (d + 1)) (fun id env h av P hq => a_GM_s d id env h av P hq) n _ P h2⟩
theorem a_GM_le {tab : Nat → qM} {d D : Nat} (hd : d ≤ D) {id : Nat} {env : qE} {h : qH} {av : List qV} {P : qO → Prop} (hq : q_GM tab d id env h av P) : q_GM tab D id env h av P := by
  obtain ⟨k, rfl⟩ : ∃ k, D = d + k := ⟨D - d, by omega⟩
  clear hd
  induction k with
  | zero => exact hq
  | succ k ih => exact a_GM_s _ _ _ _ _ _ ih
/-- a picture covers a frame: the picture's symbols as sums of the frame's -/
noncomputable def a_cv (E : aE) (K : aK) (al : aL) (vs : List aV) (r : Nat) (src : aQ) (vT : List aV) (lT : aL) (KT : aK) (ET : aE) : Option (List aF) :=
  bif a_ivq E (a_rgd r (a_src src vs al K)) ET.1 && (a_cq E (a_rgd r (a_src src vs al K)) (a_n ET) ET.2 && (a_vq E (a_rgd r (a_src src vs al K)) (a_n ET) vT vs && (a_lq E (a_rgd r (a_src src vs al K)) (a_n ET) lT al && a_kq E (a_rgd r (a_src src vs al K)) (a_n ET) KT K))) then some (a_rgd r (a_src src vs al K)) else none
theorem a_cv_ok {sp : aSp} {nc : Nat} {h : qH} {σ : Nat → Int} {E : aE} {K : aK} {al : aL} {lv : qL} {vs : List aV} {vals : List qV} {r : Nat} {src : aQ} {vT : List aV} {lT : aL} {KT : aK} {ET : aE} {B : List aF} (hE : a_En σ E) (hK : a_Kn sp nc σ (a_n E) K h) (hL : a_Lv σ (a_n E) al lv) (hS : a_Sk σ (a_n E) vs vals) (hr : r ≤ a_n E) (hB : a_cv E K al vs r src vT lT KT ET = some B) :
    a_wfs (a_n E) B ∧ B.length = a_n ET ∧ a_En (a_sg σ B) ET ∧ a_Sk (a_sg σ B) (a_n ET) vT vals ∧ a_Lv (a_sg σ B) (a_n ET) lT lv ∧ a_Kn sp nc (a_sg σ B) (a_n ET) KT h ∧ ∀ i, i < r → a_sg σ B i = σ i := by
  obtain ⟨hc, hB⟩ := q_bt hB
  obtain ⟨w1, w2, -⟩ := a_rgd_ok r _ hr (a_src_wf hS hL hK src)
  generalize a_rgd r (a_src src vs al K) = B1 at *
  cases hB
  simp only [Bool.and_eq_true] at hc
  obtain ⟨c1, c2, c3, c4, c5⟩ := hc
  obtain ⟨l1, l2⟩ := a_ivq_ok hE w1 c1
  refine ⟨w1, l1, ⟨l2, a_cq_ok hE w1 c2⟩, a_vq_ok hE w1 c3 hS, a_lq_ok hE w1 hL c4, a_kq_ok hE w1 hK c5, fun i hi => ?_⟩
  show a_ev σ (List.getD _ i (a_cn 0)) = σ i
  rw [w2 i hi, a_sy_ev]
noncomputable def a_nw (n : Nat) : Nat → List aF
  | 0 => []
  | k + 1 => a_sy n :: a_nw (n + 1) k
theorem a_nw_ok {m : Nat} : ∀ (k n : Nat), n + k ≤ m → a_wfs m (a_nw n k) ∧ (a_nw n k).length = k ∧ ∀ i, i < k → (a_nw n k)[i]? = some (a_sy (n + i))
  | 0, n, _ => ⟨(fun f hf => by cases hf), rfl, fun i hi => by omega⟩
  | k + 1, n, h => by
    obtain ⟨h1, h2, h3⟩ := a_nw_ok (m := m) k (n + 1) (by omega)
    refine ⟨fun f hf => ?_, by show (a_nw (n + 1) k).length + 1 = k + 1; rw [h2], fun i hi => ?_⟩
    · rcases List.mem_cons.mp hf with rfl | hf
      · exact a_wf.sy (by omega)
      · exact h1 f hf
    · cases i with
      | zero => rfl
      | succ i =>
        show (a_nw (n + 1) k)[i]? = _
        rw [h3 i (by omega), show n + 1 + i = n + (i + 1) by omega]
noncomputable def a_ksb (B : List aF) : aK → aK → aK
  | [], K => K
  | q :: Ko, K => (q.1, a_vsb B q.2) :: a_ksb B Ko K
noncomputable def a_ssb (B : List aF) : List aV → List aV → List aV
  | [], sk => sk
  | a :: as, sk => a_vsb B a :: a_ssb B as sk
theorem a_ksb_ok {sp : aSp} {nc : Nat} {h : qH} {σ : Nat → Int} {B : List aF} {n m : Nat} (hw : a_wfs m B) {σT : Nat → Int} (hs : ∀ i, i < n → a_sg σ B i = σT i) {K : aK} (hK : a_Kn sp nc σ m K h) : ∀ {Ko : aK}, a_Kn sp nc σT n Ko h → a_Kn sp nc σ m (a_ksb B Ko K) h
  | [], _ => hK
  | p :: Ko, hp => fun q hq => by
    rcases List.mem_cons.mp hq with rfl | hq
    · obtain ⟨k0, ⟨k1, k2⟩ | ⟨k1, k2, k3, k4⟩⟩ := hp p List.mem_cons_self
      · exact ⟨k0, Or.inl ⟨k1, a_vsb_ok hw hs k2⟩⟩
      · refine ⟨k0, Or.inr ⟨k1, k2, a_sb_wf hw _, ?_⟩⟩
        show a_PF sp nc p.2.2.1 p.1.1 (a_ev σ (a_sb B p.2.2.2)) h
        rw [a_sb_ev, a_ev_ext hs k3]
        exact k4
    · exact a_ksb_ok hw hs hK (fun x hx => hp x (List.mem_cons_of_mem _ hx)) q hq
theorem a_ssb_ok {σ : Nat → Int} {B : List aF} {n m : Nat} (hw : a_wfs m B) {σT : Nat → Int} (hs : ∀ i, i < n → a_sg σ B i = σT i) {sk : List aV} {stk : List qV} (hS : a_Sk σ m sk stk) : ∀ {as : List aV} {vs : List qV}, a_Sk σT n as vs → a_Sk σ m (a_ssb B as sk) (vs ++ stk)
  | [], [], _ => hS
  | a :: as, v :: vs, h => ⟨a_vsb_ok hw hs h.1, a_ssb_ok hw hs hS h.2⟩
  | [], _ :: _, h => h.elim
  | _ :: _, [], h => h.elim
/-- behind a call, by one of its ends -/
noncomputable def a_end (sp : aSp) (E : aE) (K : aK) (al : aL) (rest : List aV) (pc : Nat) (S : aW) (B : List aF) (o : aOut) : List aS :=
  match a_ass (E.1 ++ o.2.2.2.1.drop B.length, E.2) (a_ivs (B ++ a_nw (a_n E) (o.2.2.2.1.length - B.length)) o.2.2.2.1 ++ o.2.2.2.2.map (a_sb (B ++ a_nw (a_n E) (o.2.2.2.1.length - B.length)))) with
  | none => []
  | some E' => [(E', a_ksb (B ++ a_nw (a_n E) (o.2.2.2.1.length - B.length)) o.2.2.1 (a_kout sp S K), pc + 3, al, a_ssb (B ++ a_nw (a_n E) (o.2.2.2.1.length - B.length)) o.2.1 rest)]
noncomputable def a_ends (sp : aSp) (E : aE) (K : aK) (al : aL) (rest : List aV) (pc : Nat) (S : aW) (B : List aF) : List aOut → List aS
  | [] => []
  | o :: os => a_end sp E K al rest pc S B o ++ a_ends sp E K al rest pc S B os
theorem a_ends_mem {sp : aSp} {E : aE} {K : aK} {al : aL} {rest : List aV} {pc : Nat} {S : aW} {B : List aF} {o : aOut} {st : aS} (hs : st ∈ a_end sp E K al rest pc S B o) : ∀ {os : List aOut}, o ∈ os → st ∈ a_ends sp E K al rest pc S B os
  | [], h => by cases h
  | p :: os, h => by
    rcases List.mem_cons.mp h with rfl | h
    · exact List.mem_append_left _ hs
    · exact List.mem_append_right _ (a_ends_mem hs h)
theorem a_end_ok {sp : aSp} {nc : Nat} {h h' : qH} {σ : Nat → Int} {E : aE} {K : aK} {al : aL} {lv : qL} {rest : List aV} {rs : List qV} {pc : Nat} {S : aW} {B : List aF} {o : aOut} {r : Option qV} (hE : a_En σ E) (hK : a_Kn sp nc σ (a_n E) K h) (hL : a_Lv σ (a_n E) al lv) (hS : a_Sk σ (a_n E) rest rs) (hB : a_wfs (a_n E) B) (hF : a_Fr sp nc S h h')
    {σo : Nat → Int} (ho : ∀ i, i < B.length → σo i = a_sg σ B i) (oE : a_En σo o.2.2.2) (oK : a_Kn sp nc σo (a_n o.2.2.2) o.2.2.1 h') (oS : a_Sk σo (a_n o.2.2.2) o.2.1 r.toList) : ∃ st ∈ a_end sp E K al rest pc S B o, st.2.2.1 = pc + 3 ∧ ∃ σ', (∀ i, i < a_n E → σ' i = σ i) ∧ a_n E ≤ a_n st.1 ∧ a_St sp nc σ' h' lv (r.toList ++ rs) st := by
  have hk : ∃ k, k = o.2.2.2.1.length - B.length := ⟨_, rfl⟩
  obtain ⟨k, hk⟩ := hk
  unfold a_end
  rw [← hk]
  obtain ⟨n1, n2, n3⟩ := a_nw_ok (m := a_n E + k) k (a_n E) (Nat.le_refl _)
  have hd : (o.2.2.2.1.drop B.length).length = k := by rw [List.length_drop, hk]
  have hs' : ∃ σ' : Nat → Int, (∀ i, i < a_n E → σ' i = σ i) ∧ ∀ i, σ' (a_n E + i) = σo (B.length + i) := ⟨fun i => if i < a_n E then σ i else σo (B.length + (i - a_n E)), fun i hi => if_pos hi, fun i => by
    show (if a_n E + i < a_n E then _ else σo (B.length + (a_n E + i - a_n E))) = _
    rw [if_neg (by omega), Nat.add_sub_cancel_left]⟩
  obtain ⟨σ', s1, s2⟩ := hs'
  have hB1 : a_wfs (a_n E + k) (B ++ a_nw (a_n E) k) := fun f hf => by
    rcases List.mem_append.mp hf with hf | hf
    · exact (hB f hf).mono (by omega)
    · exact n1 f hf
  have hsg : ∀ i, i < a_n o.2.2.2 → a_sg σ' (B ++ a_nw (a_n E) k) i = σo i := fun i hi => by
    show a_ev σ' ((B ++ a_nw (a_n E) k).getD i (a_cn 0)) = σo i
    rw [List.getD_eq_getElem?_getD]
    by_cases hi2 : i < B.length
    · rw [List.getElem?_append_left hi2, ho i hi2, ← List.getD_eq_getElem?_getD]
      exact a_ev_ext s1 (hB.getD i)
    · have hi : i < o.2.2.2.1.length := hi
      rw [List.getElem?_append_right (by omega), n3 _ (by omega)]
      show a_ev σ' (a_sy (a_n E + (i - B.length))) = _
      rw [a_sy_ev, s2, show B.length + (i - B.length) = i by omega]
  generalize hBB : B ++ a_nw (a_n E) k = B1 at hB1 hsg
  have hn1 : a_n ((E.1 ++ o.2.2.2.1.drop B.length, E.2) : aE) = a_n E + k := by
    show (E.1 ++ o.2.2.2.1.drop B.length).length = _
    rw [List.length_append, hd]
  have hE1 : a_En σ' (E.1 ++ o.2.2.2.1.drop B.length, E.2) := by
    refine ⟨fun i p hp => ?_, fun q hq => ?_⟩
    · have hp : (E.1 ++ o.2.2.2.1.drop B.length)[i]? = some p := hp
      by_cases hi : i < E.1.length
      · rw [List.getElem?_append_left hi] at hp
        rw [s1 i hi]
        exact hE.1 i p hp
      · rw [List.getElem?_append_right (by omega), List.getElem?_drop] at hp
        have e : i = a_n E + (i - E.1.length) := by show i = E.1.length + _; omega
        rw [e, s2]
        exact oE.1 _ p hp
    · obtain ⟨q1, q2⟩ := hE.2 q hq
      rw [hn1]
      refine ⟨q1.mono (by omega), ?_⟩
      rw [a_ev_ext s1 q1]
      exact q2
  obtain ⟨E', e1, e2, e3⟩ := a_ass_ok (C := a_ivs B1 o.2.2.2.1 ++ o.2.2.2.2.map (a_sb B1)) hE1 (fun P hP => by
    rw [hn1]
    rcases List.mem_append.mp hP with hP | hP
    · refine a_ivs_ok hB1 (fun i p hp => ?_) P hP
      rw [hsg i (List.getElem?_eq_some_iff.mp hp).1]
      exact oE.1 i p hp
    · obtain ⟨q, hq, rfl⟩ := List.mem_map.mp hP
      obtain ⟨q1, q2⟩ := oE.2 q hq
      refine ⟨a_sb_wf hB1 q, ?_⟩
      rw [a_sb_ev, a_ev_ext hsg q1]
      exact q2)
  rw [e1]
  have hn : a_n E' = a_n E + k := e3.trans hn1
  refine ⟨_, List.mem_singleton.mpr rfl, rfl, σ', s1, by show a_n E ≤ a_n E'; omega, e2, ?_, ?_, ?_⟩
  · show a_Kn sp nc σ' (a_n E') (a_ksb B1 o.2.2.1 (a_kout sp S K)) h'
    rw [hn]
    exact a_ksb_ok hB1 hsg ((a_kout_ok hF hK).ext (by omega) s1) oK
  · show a_Lv σ' (a_n E') al lv
    rw [hn]
    exact hL.ext (by omega) s1
  · show a_Sk σ' (a_n E') (a_ssb B1 o.2.1 rest) (r.toList ++ rs)
    rw [hn]
    exact a_ssb_ok hB1 hsg (hS.ext (by omega) s1) oS
/-- a contract that can't suit, at a glance: kinds, cells, numbers; intervals that don't meet -/
noncomputable def a_qa : List aV → List aV → Bool
  | t :: ts, v :: vs => Nat.beq t.1 v.1 && ((!(Nat.beq t.1 6) || Nat.beq t.2.1 v.2.1) && a_qa ts vs)
  | _, _ => true
noncomputable def a_qk (E : aE) (av : List aV) : List (Nat × Nat × Nat) → List (Int × Int) → Bool
  | q :: src, i :: iv => (bif Nat.beq q.1 0 then (match av[q.2.1]? with
    | some v => a_ile i.1 (a_hi E v.2.2) && a_ile (a_lo E v.2.2) i.2
    | none => true) else true) && a_qk E av src iv
  | _, _ => true
/-- numbers that can't be the same -/
noncomputable def a_nzq (E : aE) (b a : aV) : Bool := bif Nat.beq b.1 1 && (Nat.beq a.1 1 && b.2.2.1.isEmpty) then a_ile (a_lo E a.2.2) b.2.2.2 && a_ile b.2.2.2 (a_hi E a.2.2) else true
noncomputable def a_kz1 (E : aE) (b : aV) (o : Option aV) : Bool := @Option.rec aV (fun _ => Bool) true (fun a => a_nzq E b a) o
noncomputable def a_kzq (E : aE) (K : aK) (KT : aK) : Bool := @List.rec ((Nat × Nat) × aV) (fun _ => Bool) true (fun q _ ih => @Bool.rec (fun _ => Bool) true (@Bool.rec (fun _ => Bool) false ih (a_kz1 E q.2 (a_kf K q.1.1 q.1.2))) (Nat.beq q.2.1 1 && q.2.2.2.1.isEmpty)) KT
noncomputable def a_vzq (E : aE) : List aV → List aV → Bool
  | b :: bs, a :: as => a_nzq E b a && a_vzq E bs as
  | _, _ => true
noncomputable def a_call1 (sp : aSp) (nc : Nat) (T : aW) (D : Nat) (E : aE) (K : aK) (al : aL) (av rest : List aV) (pc d : Nat) (C : aCon) : Option (List aS) :=
  bif ((a_qa C.2.1 av && a_qk E av C.1 C.2.2.2.1.1) && (a_vzq E C.2.1 av && a_kzq E K C.2.2.1)) && (Nat.ble d D && a_subS T C.2.2.2.2.1) then (match a_rds sp nc E K C.2.2.1 with
    | none => none
    | some r => (match a_cv r.1 r.2 [] av 0 C.1 C.2.1 [] C.2.2.1 C.2.2.2.1 with
      | none => none
      | some B => some (a_ends sp r.1 r.2 al rest pc C.2.2.2.2.1 B C.2.2.2.2.2))) else none
noncomputable def a_calls (sp : aSp) (nc : Nat) (T : aW) (D : Nat) (E : aE) (K : aK) (al : aL) (av rest : List aV) (pc : Nat) : List (Nat × aCon) → Option (List aS)
  | [] => none
  | q :: cs => (match a_call1 sp nc T D E K al av rest pc q.1 q.2 with
    | some nx => some nx
    | none => a_calls sp nc T D E K al av rest pc cs)
/-- calls of methods that are being proved: what they fall by must be less -/
noncomputable def a_rcall1 (sp : aSp) (nc : Nat) (T : aW) (E : aE) (K : aK) (al : aL) (av rest : List aV) (pc : Nat) (ρ0 ρ' : aF) (C : aCon) : Option (List aS) :=
  bif a_wfb (a_n C.2.2.2.1) ρ'.1 && a_subS T C.2.2.2.2.1 then (match a_rds sp nc E K C.2.2.1 with
    | none => none
    | some r => (match a_cv r.1 r.2 [] av 0 C.1 C.2.1 [] C.2.2.1 C.2.2.2.1 with
      | none => none
      | some B => bif a_nx r.1 (a_pl (a_dif ρ0 (a_sb B ρ')) (-1)) then some (a_ends sp r.1 r.2 al rest pc C.2.2.2.2.1 B C.2.2.2.2.2) else none)) else none
noncomputable def a_rcalls (sp : aSp) (nc : Nat) (T : aW) (E : aE) (K : aK) (al : aL) (av rest : List aV) (pc : Nat) (ρ0 : aF) : List (aF × aCon) → Option (List aS)
  | [] => none
  | q :: cs => (match a_rcall1 sp nc T E K al av rest pc ρ0 q.1 q.2 with
    | some nx => some nx
    | none => a_rcalls sp nc T E K al av rest pc ρ0 cs)
noncomputable def a_spt : Nat → List aV → List aV → Option (List aV × List aV)
  | 0, sk, acc => some (acc, sk)
  | _ + 1, [], _ => none
  | n + 1, x :: sk, acc => a_spt n sk (x :: acc)
theorem a_spt_ok {σ : Nat → Int} {m : Nat} : ∀ (n : Nat) {sk acc : List aV} {r : List aV × List aV} {stk vacc : List qV}, a_spt n sk acc = some r → a_Sk σ m sk stk → a_Sk σ m acc vacc → ∃ vav vrest, a_Sk σ m r.1 vav ∧ a_Sk σ m r.2 vrest ∧ vav.reverse ++ vrest = vacc.reverse ++ stk ∧ vav.length = n + vacc.length
  | 0, sk, acc, r, stk, vacc, h, h1, h2 => by
    cases h
    exact ⟨vacc, stk, h2, h1, rfl, by omega⟩
  | n + 1, [], _, _, _, _, h, _, _ => by cases h
  | n + 1, x :: sk, acc, r, stk, vacc, h, h1, h2 => by
    obtain ⟨v, vs, rfl, g1, g2⟩ := h1.cons
    obtain ⟨vav, vrest, k1, k2, k3, k4⟩ := a_spt_ok n (vacc := v :: vacc) h g2 ⟨g1, h2⟩
    refine ⟨vav, vrest, k1, k2, ?_, by rw [List.length_cons] at k4; omega⟩
    rw [k3, List.reverse_cons, List.append_assoc]
    rfl
noncomputable def a_rcv (sp : aSp) (nc kind ci : Nat) (av : List aV) : Bool := match kind with
  | 0 => true
  | 1 => false
  | _ => (match av with
    | x :: _ => Nat.beq x.1 6 && (Nat.blt x.2.1 nc && Nat.beq (a_ck sp x.2.1) ci)
    | [] => false)
theorem a_rcv_ok {sp : aSp} {nc : Nat} {h : qH} {σ : Nat → Int} {n kind ci : Nat} {av : List aV} {vav : List qV} (hh : a_HI sp nc h) (hS : a_Sk σ n av vav) (hr : a_rcv sp nc kind ci av = true) : q_rcv kind ci h vav = true := by
  rcases kind with _ | _ | k
  · rfl
  · cases hr
  · cases av with
    | nil => cases hr
    | cons x av =>
      obtain ⟨v, vs, rfl, g1, g2⟩ := hS.cons
      obtain ⟨t, c, f⟩ := x
      have hr : (Nat.beq t 6 && (Nat.blt c nc && Nat.beq (a_ck sp c) ci)) = true := hr
      rw [Bool.and_eq_true, Bool.and_eq_true] at hr
      have e := Nat.eq_of_beq_eq_true hr.1
      subst e
      have g1 : v = (6, c) := g1
      subst g1
      have hc : c < nc := by have := hr.2.1; rw [q_blt] at this; exact of_decide_eq_true this
      show (true && Nat.blt c h.2 && Nat.beq (h.1.get c).1 ci) = true
      rw [hh.1, (hh.2.2 c hc).1, hr.2.1, hr.2.2]
      rfl
noncomputable def a_ret (T : Option FieldType) (v : Nat) (E : aE) (sk : List aV) : Bool := match sk with
  | [] => (match T with
    | none => Nat.beq v 0
    | _ => false)
  | [x] => (match T with
    | some .int => Nat.beq v 1 && Nat.beq (a_kd x) 0
    | some .boolean => Nat.beq v 1 && (Nat.beq x.1 1 && (a_ge E x.2.2 0 && a_lef E x.2.2 1))
    | some .long => Nat.beq v 2 && Nat.beq (a_kd x) 1
    | some (.object _) => Nat.beq v 3 && Nat.beq (a_kd x) 2
    | _ => false)
  | _ => false
theorem a_ret_ok {σ : Nat → Int} {E : aE} (hE : a_En σ E) {T : Option FieldType} {v : Nat} {sk : List aV} {stk : List qV} (hS : a_Sk σ (a_n E) sk stk) (hr : a_ret T v E sk = true) : ∃ r, q_rvo T v stk = some r ∧ r.toList = stk := by
  unfold a_ret at hr
  split at hr
  · have e := hS.nil
    subst e
    cases T with
    | some T => cases hr
    | none =>
      refine ⟨none, ?_, rfl⟩
      have hr : Nat.beq v 0 = true := hr
      show (bif Nat.beq v 0 then some none else none) = _
      rw [hr]
      rfl
  · rename_i x
    obtain ⟨xv, vs, rfl, g1, g2⟩ := hS.cons
    have e := g2.nil
    subst e
    refine ⟨some xv, ?_, rfl⟩
    split at hr
    · show (bif Nat.beq v 1 && Nat.beq (q_knd xv) 0 then some (some xv) else none) = _
      rw [g1.kd.1, hr]
      rfl
    · obtain ⟨t, s, f⟩ := x
      rw [Bool.and_eq_true] at hr
      have hf := a_fty_ok hE (ty := 1) g1 hr.2
      have hf : (Nat.beq xv.1 0 && Nat.ble xv.2 1) = true := hf
      show (bif Nat.beq v 1 && (Nat.beq xv.1 0 && Nat.ble xv.2 1) then some (some xv) else none) = _
      rw [hf, hr.1]
      rfl
    · show (bif Nat.beq v 2 && Nat.beq (q_knd xv) 1 then some (some xv) else none) = _
      rw [g1.kd.1, hr]
      rfl
    · show (bif Nat.beq v 3 && Nat.beq (q_knd xv) 2 then some (some xv) else none) = _
      rw [g1.kd.1, hr]
      rfl
    · cases hr
  · cases hr
/-- an end that suits -/
noncomputable def a_outq (sp : aSp) (nc : Nat) (E : aE) (K : aK) (sk : List aV) (p : Nat) : List aOut → Bool
  | [] => false
  | o :: os => ((a_vzq E o.2.1 sk && a_kzq E K o.2.2.1) && (match a_rds sp nc E K o.2.2.1 with
    | none => false
    | some r => (match a_cv r.1 r.2 [] sk p o.1 o.2.1 [] o.2.2.1 o.2.2.2 with
      | none => false
      | some _ => true))) || a_outq sp nc E K sk p os
noncomputable def a_cutf (pc : Nat) : List aCut → List aCut
  | [] => []
  | c :: cs => bif Nat.beq c.1 pc then c :: a_cutf pc cs else a_cutf pc cs
theorem a_cutf_mem {pc : Nat} {c : aCut} : ∀ {cs : List aCut}, c ∈ a_cutf pc cs → c ∈ cs ∧ c.1 = pc
  | [], h => by cases h
  | d :: cs, h => by
    unfold a_cutf at h
    cases hb : Nat.beq d.1 pc with
    | true =>
      rw [hb] at h
      rcases List.mem_cons.mp h with rfl | h
      · exact ⟨List.mem_cons_self, Nat.eq_of_beq_eq_true hb⟩
      · exact ⟨List.mem_cons_of_mem _ (a_cutf_mem h).1, (a_cutf_mem h).2⟩
    | false =>
      rw [hb] at h
      exact ⟨List.mem_cons_of_mem _ (a_cutf_mem h).1, (a_cutf_mem h).2⟩
noncomputable def a_cutq (sp : aSp) (nc : Nat) (E : aE) (K : aK) (al : aL) (sk : List aV) (p : Nat) (ρ : Option aF) : List aCut → Bool
  | [] => false
  | c :: cs => ((a_vzq E c.2.2.2.1 sk && a_kzq E K c.2.2.2.2.1) && (match a_rds sp nc E K c.2.2.2.2.1 with
    | none => false
    | some r => (match a_cv r.1 r.2 al sk p c.2.1 c.2.2.2.1 c.2.2.1 c.2.2.2.2.1 c.2.2.2.2.2.1 with
      | none => false
      | some B => (match ρ with
        | none => true
        | some f => a_nx r.1 (a_pl (a_dif f (a_sb B c.2.2.2.2.2.2)) (-1)))))) || a_cutq sp nc E K al sk p ρ cs
noncomputable def a_spf (pc : Nat) : List (Nat × Nat) → Option Nat
  | [] => none
  | q :: l => bif Nat.beq q.1 pc then some q.2 else a_spf pc l
/-- the numbers j, j + 1 .. of a sum, one by one -/
noncomputable def a_sps (E : aE) (f : aF) : Nat → Int → List aE
  | 0, _ => []
  | n + 1, j => (match a_as E (a_pl f (-j)) with
    | none => []
    | some E1 => (match a_as E1 (a_dif (a_cn j) f) with
      | none => []
      | some E2 => [E2])) ++ a_sps E f n (j + 1)
theorem a_sps_ok {σ : Nat → Int} {E : aE} (hE : a_En σ E) {f : aF} (wf : a_wf (a_n E) f) : ∀ (n : Nat) (j : Int), j ≤ a_ev σ f → a_ev σ f < j + n → ∃ E' ∈ a_sps E f n j, a_En σ E' ∧ a_n E' = a_n E
  | 0, j, h1, h2 => by omega
  | n + 1, j, h1, h2 => by
    by_cases e : a_ev σ f = j
    · obtain ⟨E1, g1, g2, g3⟩ := a_as_ok hE (P := a_pl f (-j)) wf (by rw [a_pl_ev]; omega)
      obtain ⟨E2, k1, k2, k3⟩ := a_as_ok g2 (P := a_dif (a_cn j) f) (a_wf.cn.dif (by rw [g3]; exact wf)) (by rw [a_dif_ev, a_cn_ev]; omega)
      refine ⟨E2, List.mem_append_left _ ?_, k2, by omega⟩
      rw [g1]
      show E2 ∈ (match a_as E1 (a_dif (a_cn j) f) with
        | none => []
        | some E2 => [E2])
      rw [k1]
      exact List.mem_singleton.mpr rfl
    · obtain ⟨E', g1, g2⟩ := a_sps_ok hE wf n (j + 1) (by omega) (by omega)
      exact ⟨E', List.mem_append_right _ g1, g2⟩
/-- the sum to be split at pc, if it isn't a number yet -/
noncomputable def a_spw (E : aE) (al : aL) (pc : Nat) (spl : List (Nat × Nat)) : Option aF := match a_spf pc spl with
  | none => none
  | some i => (match a_lg al i with
    | none => none
    | some a => bif Nat.beq a.1 1 && !(a_ile (a_hi E a.2.2) (a_lo E a.2.2)) then some a.2.2 else none)
/-- at pc the local is a number below a bound: a cut there is not taken yet -/
noncomputable def a_pel (al : aL) (pc : Nat) (spl : List (Nat × Nat)) : Bool := match a_spf pc spl with
  | none => false
  | some i => bif Nat.ble 1000 i then (match a_lg al (i % 1000) with
    | none => false
    | some a => bif Nat.beq a.1 1 && a.2.2.1.isEmpty then a_ile (a.2.2.2 + 1) ((i / 1000 : Nat) : Int) else false) else false
/-- rows of places: where it begins, how many, in which steps -/
abbrev aSeg : Type := List (Nat × Nat × Nat)
noncomputable def a_sgT (t : Nat) : aSeg := bif Nat.beq t 1 then [(0, 1, 1), (1, 1, 1), (2, 1, 1), (3, 1, 1), (4, 1, 1), (5, 1, 1), (6, 1, 1), (7, 6, 1), (13, 4, 1), (17, 4, 1), (21, 6, 1), (27, 6, 1), (33, 8, 1), (41, 8, 1), (49, 96, 1), (145, 1, 1), (146, 1, 1), (147, 30, 7), (148, 30, 7), (149, 30, 7), (150, 30, 7), (151, 30, 7), (152, 30, 7), (153, 30, 7), (357, 3, 1), (360, 1, 1)] else [(0, 30, 7), (1, 30, 7), (2, 30, 7), (3, 30, 7), (4, 30, 7), (5, 30, 7), (6, 30, 7), (210, 1, 1)]
noncomputable def a_dvd (m : Int) : List (Nat × Int) → Bool
  | [] => true
  | q :: l => a_iz (q.2 % m) && a_dvd m l
/-- it lies in one of them already -/
noncomputable def a_sgh (E : aE) (f : aF) : aSeg → Bool
  | [] => false
  | q :: l => (a_ile (q.1 : Int) (a_lo E f) && (a_ile (a_hi E f) ((q.1 : Int) + (q.2.2 : Int) * ((q.2.1 : Int) - 1)) && (a_dvd (q.2.2 : Int) f.1 && a_iz ((f.2 - (q.1 : Int)) % (q.2.2 : Int))))) || a_sgh E f l
noncomputable def a_sgc1 (x : Nat) : aSeg → Bool
  | [] => false
  | q :: l => (Nat.ble q.1 x && (Nat.beq ((x - q.1) % q.2.2) 0 && Nat.blt ((x - q.1) / q.2.2) q.2.1)) || a_sgc1 x l
/-- all of x, x + 1 .. lie in one -/
noncomputable def a_sgc (tb : aSeg) : Nat → Nat → Bool
  | 0, _ => true
  | k + 1, x => a_sgc1 x tb && a_sgc tb k (x + 1)
theorem a_sgc_ok {tb : aSeg} : ∀ {k x y : Nat}, a_sgc tb k x = true → x ≤ y → y < x + k → a_sgc1 y tb = true
  | 0, x, y, _, h1, h2 => by omega
  | k + 1, x, y, h, h1, h2 => by
    have h : (a_sgc1 x tb && a_sgc tb k (x + 1)) = true := h
    rw [Bool.and_eq_true] at h
    by_cases e : x = y
    · rw [← e]; exact h.1
    · exact a_sgc_ok h.2 (by omega) (by omega)
noncomputable def a_sgs (E : aE) (f : aF) : aSeg → List (aE × aF)
  | [] => []
  | q :: l => (match a_as (a_add E 0 ((q.2.1 : Int) - 1)) (a_dif f ([(a_n E, (q.2.2 : Int))], (q.1 : Int))) with
    | none => []
    | some E2 => (match a_as E2 (a_dif (a_cn 0) (a_dif f ([(a_n E, (q.2.2 : Int))], (q.1 : Int)))) with
      | none => []
      | some E3 => [(E3, ([(a_n E, (q.2.2 : Int))], (q.1 : Int)))])) ++ a_sgs E f l
theorem a_sgs_ok {σ : Nat → Int} {E : aE} (hE : a_En σ E) {f : aF} (wf : a_wf (a_n E) f) {x : Nat} (hx : a_ev σ f = x) : ∀ {tb : aSeg}, a_sgc1 x tb = true → ∃ r ∈ a_sgs E f tb, ∃ σ', (∀ i, i < a_n E → σ' i = σ i) ∧ a_n E ≤ a_n r.1 ∧ a_En σ' r.1 ∧ a_wf (a_n r.1) r.2 ∧ a_ev σ' r.2 = a_ev σ f
  | [], h => by cases h
  | q :: l, h => by
    have h : ((Nat.ble q.1 x && (Nat.beq ((x - q.1) % q.2.2) 0 && Nat.blt ((x - q.1) / q.2.2) q.2.1)) || a_sgc1 x l) = true := h
    rw [Bool.or_eq_true] at h
    rcases h with h | h
    · simp only [Bool.and_eq_true, q_blt, decide_eq_true_eq] at h
      obtain ⟨h1, h2, h3⟩ := h
      have h1 := Nat.le_of_ble_eq_true h1
      have h2 := Nat.eq_of_beq_eq_true h2
      have hd := Nat.div_add_mod (x - q.1) q.2.2
      rw [h2] at hd
      generalize ht : (x - q.1) / q.2.2 = t at h3 hd
      have hm : ((q.2.2 * t : Nat) : Int) = (q.2.2 : Int) * (t : Int) := Int.natCast_mul _ _
      have hA := a_add_ok hE (lo := 0) (hi := (q.2.1 : Int) - 1) (x := (t : Int)) (by omega) (by omega)
      have hn : a_n (a_add E 0 ((q.2.1 : Int) - 1)) = a_n E + 1 := a_add_n
      have wf1 : a_wf (a_n (a_add E 0 ((q.2.1 : Int) - 1))) f := by rw [hn]; exact wf.mono (Nat.le_succ _)
      have wg : a_wf (a_n (a_add E 0 ((q.2.1 : Int) - 1))) ([(a_n E, (q.2.2 : Int))], (q.1 : Int)) := fun y hy => by
        rw [List.mem_singleton.mp hy, hn]
        exact Nat.lt_succ_self _
      have ef : a_ev (a_up σ (a_n E) (t : Int)) f = a_ev σ f := a_ev_ext a_up_old wf
      have eg : a_ev (a_up σ (a_n E) (t : Int)) ([(a_n E, (q.2.2 : Int))], (q.1 : Int)) = a_ev σ f := by
        show ((q.2.2 : Int) * a_up σ (a_n E) (t : Int) (a_n E) + 0) + (q.1 : Int) = _
        rw [a_up_new, hx]
        omega
      obtain ⟨E2, a1, a2, a3⟩ := a_as_ok hA (wf1.dif wg) (by rw [a_dif_ev, ef, eg]; omega)
      obtain ⟨E3, b1, b2, b3⟩ := a_as_ok a2 (P := a_dif (a_cn 0) (a_dif f ([(a_n E, (q.2.2 : Int))], (q.1 : Int)))) (by rw [a3]; exact a_wf.cn.dif (wf1.dif wg)) (by rw [a_dif_ev, a_cn_ev, a_dif_ev, ef, eg]; omega)
      refine ⟨(E3, ([(a_n E, (q.2.2 : Int))], (q.1 : Int))), ?_, a_up σ (a_n E) (t : Int), a_up_old, ?_, b2, ?_, eg⟩
      · unfold a_sgs
        rw [a1]
        dsimp only
        rw [b1]
        exact List.mem_cons_self
      · show a_n E ≤ a_n E3
        rw [b3, a3, hn]
        exact Nat.le_succ _
      · show a_wf (a_n E3) _
        rw [b3, a3]
        exact wg
    · obtain ⟨r, hr, g⟩ := a_sgs_ok hE wf hx h
      exact ⟨r, List.mem_append.mpr (Or.inr hr), g⟩
/-- the local to be split at pc by rows of places -/
noncomputable def a_sgw (E : aE) (al : aL) (pc : Nat) (spl : List (Nat × Nat)) : Option (Nat × aSeg × aF) := match a_spf pc spl with
  | none => none
  | some i => bif Nat.ble 1000000 i then (match a_lg al (i % 1000) with
    | none => none
    | some a => bif (Nat.beq a.1 1 && !(a_ile (a_hi E a.2.2) (a_lo E a.2.2))) && (a_ile 0 (a_lo E a.2.2) && (!(a_sgh E a.2.2 (a_sgT (i / 1000000))) && a_sgc (a_sgT (i / 1000000)) ((a_hi E a.2.2 - a_lo E a.2.2).toNat + 1) (a_lo E a.2.2).toNat)) then some (i % 1000, a_sgT (i / 1000000), a.2.2) else none) else none
theorem a_sgw_ok {E : aE} {al : aL} {pc : Nat} {spl : List (Nat × Nat)} {r : Nat × aSeg × aF} (h : a_sgw E al pc spl = some r) : ∃ a, a_lg al r.1 = some a ∧ a.1 = 1 ∧ a.2.2 = r.2.2 ∧ 0 ≤ a_lo E r.2.2 ∧ a_sgc r.2.1 ((a_hi E r.2.2 - a_lo E r.2.2).toNat + 1) (a_lo E r.2.2).toNat = true := by
  unfold a_sgw at h
  split at h
  · cases h
  · rename_i i hi
    obtain ⟨-, h⟩ := q_bt h
    split at h
    · cases h
    · rename_i a ha
      obtain ⟨h1, h⟩ := q_bt h
      cases h
      simp only [Bool.and_eq_true] at h1
      exact ⟨a, ha, Nat.eq_of_beq_eq_true h1.1.1, rfl, a_ile_ok.mp h1.2.1, h1.2.2.2⟩
/-- the same state, its numbers told one by one (so that the kernel has them at hand) -/
noncomputable def a_fN (n : Nat) (k : Nat → Bool) : Bool := @Nat.rec (fun _ => Bool) (k 0) (fun m _ => k m) (Nat.succ n)
theorem a_fN_eq (n : Nat) (k : Nat → Bool) : a_fN n k = k n := rfl
noncomputable def a_fZ (z : Int) (k : Int → Bool) : Bool := @Int.rec (fun _ => Bool) (fun n => a_fN n fun n => k (Int.ofNat n)) (fun n => a_fN n fun n => k (Int.negSucc n)) z
theorem a_fZ_eq (z : Int) (k : Int → Bool) : a_fZ z k = k z := by cases z <;> rfl
noncomputable def a_fI (L : List (Int × Int)) : (List (Int × Int) → Bool) → Bool := @List.rec (Int × Int) (fun _ => (List (Int × Int) → Bool) → Bool) (fun k => k []) (fun q _ ih k => a_fZ q.1 fun l => a_fZ q.2 fun h => ih fun r => k ((l, h) :: r)) L
theorem a_fI_eq : ∀ (L : List (Int × Int)) (k : List (Int × Int) → Bool), a_fI L k = k L
  | [], _ => rfl
  | q :: L, k => (a_fZ_eq q.1 (fun l => a_fZ q.2 fun h => a_fI L fun r => k ((l, h) :: r))).trans ((a_fZ_eq q.2 (fun h => a_fI L fun r => k ((q.1, h) :: r))).trans (a_fI_eq L (fun r => k ((q.1, q.2) :: r))))
noncomputable def a_fT (L : List (Nat × Int)) : (List (Nat × Int) → Bool) → Bool := @List.rec (Nat × Int) (fun _ => (List (Nat × Int) → Bool) → Bool) (fun k => k []) (fun q _ ih k => a_fN q.1 fun l => a_fZ q.2 fun h => ih fun r => k ((l, h) :: r)) L
theorem a_fT_eq : ∀ (L : List (Nat × Int)) (k : List (Nat × Int) → Bool), a_fT L k = k L
  | [], _ => rfl
  | q :: L, k => (a_fZ_eq q.2 (fun h => a_fT L fun r => k ((q.1, h) :: r))).trans (a_fT_eq L (fun r => k ((q.1, q.2) :: r)))
noncomputable def a_fF (f : aF) (k : aF → Bool) : Bool := a_fT f.1 fun l => a_fZ f.2 fun c => k (l, c)
theorem a_fF_eq (f : aF) (k : aF → Bool) : a_fF f k = k f := (a_fT_eq f.1 (fun l => a_fZ f.2 fun c => k (l, c))).trans (a_fZ_eq f.2 (fun c => k (f.1, c)))
noncomputable def a_fFs (L : List aF) : (List aF → Bool) → Bool := @List.rec aF (fun _ => (List aF → Bool) → Bool) (fun k => k []) (fun f _ ih k => a_fF f fun f => ih fun r => k (f :: r)) L
theorem a_fFs_eq : ∀ (L : List aF) (k : List aF → Bool), a_fFs L k = k L
  | [], _ => rfl
  | f :: L, k => (a_fF_eq f (fun f => a_fFs L fun r => k (f :: r))).trans (a_fFs_eq L (fun r => k (f :: r)))
noncomputable def a_fV (a : aV) (k : aV → Bool) : Bool := a_fN a.1 fun t => a_fN a.2.1 fun c => a_fF a.2.2 fun f => k (t, c, f)
theorem a_fV_eq (a : aV) (k : aV → Bool) : a_fV a k = k a := a_fF_eq a.2.2 (fun f => k (a.1, a.2.1, f))
noncomputable def a_fVs (L : List aV) : (List aV → Bool) → Bool := @List.rec aV (fun _ => (List aV → Bool) → Bool) (fun k => k []) (fun f _ ih k => a_fV f fun f => ih fun r => k (f :: r)) L
theorem a_fVs_eq : ∀ (L : List aV) (k : List aV → Bool), a_fVs L k = k L
  | [], _ => rfl
  | f :: L, k => (a_fV_eq f (fun f => a_fVs L fun r => k (f :: r))).trans (a_fVs_eq L (fun r => k (f :: r)))
noncomputable def a_fL (L : aL) : (aL → Bool) → Bool := @List.rec (Nat × aV) (fun _ => (aL → Bool) → Bool) (fun k => k []) (fun q _ ih k => a_fN q.1 fun i => a_fV q.2 fun v => ih fun r => k ((i, v) :: r)) L
theorem a_fL_eq : ∀ (L : aL) (k : aL → Bool), a_fL L k = k L
  | [], _ => rfl
  | q :: L, k => (a_fV_eq q.2 (fun v => a_fL L fun r => k ((q.1, v) :: r))).trans (a_fL_eq L (fun r => k ((q.1, q.2) :: r)))
noncomputable def a_fK (L : aK) : (aK → Bool) → Bool := @List.rec ((Nat × Nat) × aV) (fun _ => (aK → Bool) → Bool) (fun k => k []) (fun q _ ih k => a_fN q.1.1 fun c => a_fN q.1.2 fun j => a_fV q.2 fun v => ih fun r => k (((c, j), v) :: r)) L
theorem a_fK_eq : ∀ (L : aK) (k : aK → Bool), a_fK L k = k L
  | [], _ => rfl
  | q :: L, k => (a_fV_eq q.2 (fun v => a_fK L fun r => k (((q.1.1, q.1.2), v) :: r))).trans (a_fK_eq L (fun r => k (((q.1.1, q.1.2), q.2) :: r)))
noncomputable def a_nst (st : aS) (k : aS → Bool) : Bool := a_fI st.1.1 fun I => a_fFs st.1.2 fun F => a_fK st.2.1 fun K => a_fN st.2.2.1 fun pc => a_fL st.2.2.2.1 fun al => a_fVs st.2.2.2.2 fun sk => k ((I, F), K, pc, al, sk)
theorem a_nst_eq (st : aS) (k : aS → Bool) : a_nst st k = k st :=
  (a_fI_eq st.1.1 (fun I => a_fFs st.1.2 fun F => a_fK st.2.1 fun K => a_fN st.2.2.1 fun pc => a_fL st.2.2.2.1 fun al => a_fVs st.2.2.2.2 fun sk => k ((I, F), K, pc, al, sk))).trans
  ((a_fFs_eq st.1.2 (fun F => a_fK st.2.1 fun K => a_fN st.2.2.1 fun pc => a_fL st.2.2.2.1 fun al => a_fVs st.2.2.2.2 fun sk => k ((st.1.1, F), K, pc, al, sk))).trans
  ((a_fK_eq st.2.1 (fun K => a_fN st.2.2.1 fun pc => a_fL st.2.2.2.1 fun al => a_fVs st.2.2.2.2 fun sk => k ((st.1.1, st.1.2), K, pc, al, sk))).trans
  ((a_fL_eq st.2.2.2.1 (fun al => a_fVs st.2.2.2.2 fun sk => k ((st.1.1, st.1.2), st.2.1, st.2.2.1, al, sk))).trans
  (a_fVs_eq st.2.2.2.2 (fun sk => k ((st.1.1, st.1.2), st.2.1, st.2.2.1, st.2.2.2.1, sk))))))
noncomputable def a_brk (op : Nat) : Bool := Nat.beq op 9 || (Nat.beq op 8 || (Nat.beq op 7 || (Nat.beq op 11 || (Nat.beq op 27 || Nat.beq op 12))))
noncomputable def a_nsk (op : Nat) (st : aS) (k : aS → Bool) : Bool := @Bool.rec (fun _ => Bool) (k st) (a_nst st k) (a_brk op)
theorem a_nsk_eq (op : Nat) (st : aS) (k : aS → Bool) : a_nsk op st k = k st := by
  unfold a_nsk
  cases a_brk op with
  | false => rfl
  | true => exact a_nst_eq st k
/-- the newest sum can't be 0 or more -/
noncomputable def a_bad (E : aE) : Bool := match E.2 with
  | [] => false
  | q :: _ => a_ile (a_hi E q) (-1)
theorem a_bad_ok {σ : Nat → Int} {E : aE} (hE : a_En σ E) (h : a_bad E = true) : False := by
  unfold a_bad at h
  split at h
  · cases h
  · rename_i q l hq
    obtain ⟨h1, h2⟩ := hE.2 q (by rw [hq]; exact List.mem_cons_self)
    have h3 := (a_b_ok hE h1).2
    have h4 := a_ile_ok.mp h
    omega
/-- a method's splits, the rules, where they are put to use -/
abbrev aSg : Type := List (Nat × Nat) × (Nat → aRl) × List (Nat × List aGi)
section
variable (sp : aSp) (nc : Nat) (tab : Nat → qM) (ct : Nat → List (Nat × aCon)) (rc : Nat → List (aF × aCon)) (ρ0 : aF) (M : qM) (S : aW) (D p : Nat) (outs : List aOut) (cuts : List aCut) (spl : aSg) (ρ : Option aF)
/-- all runs from here come to an end that suits, or to a place that falls -/
noncomputable def a_go : Nat → Bool → aS → Bool
  | 0, _, _ => false
  | n + 1, fst, (E0, K0, pc, al, sk) =>
    match a_gap sp nc spl.2.1 pc al sk (a_gsl pc spl.2.2) E0 K0 with
    | (E, K) => a_bad E || (match (bif fst || a_pel al pc spl.1 then [] else a_cutf pc cuts) with
    | c :: cs => a_cutq sp nc E K al sk p ρ (c :: cs)
    | [] => (match a_spw E al pc spl.1 with
      | some f => (a_sps E f ((a_hi E f - a_lo E f).toNat + 1) (a_lo E f)).all fun E' => a_go n fst (E', K, pc, al, sk)
      | none => (match a_sgw E al pc spl.1 with
        | some r => (a_sgs E r.2.2 r.2.1).all fun q => a_go n fst (q.1, K, pc, (r.1, (1, 0, q.2)) :: al, sk)
        | none => (match (q_mI M).get pc with
        | (op, p0, v, a, b, w, t) => bif Nat.beq p0 pc then
            (bif Nat.beq op 24 then a_ret (q_mT M) v E sk && a_outq sp nc E K sk p outs
            else bif Nat.beq op 23 then (match a_spt (bif Nat.beq (q_mK (tab w)) 0 then q_mA (tab w) else q_mA (tab w) + 1) sk [] with
              | none => false
              | some r => a_rcv sp nc (q_mK (tab w)) (q_mC (tab w)) r.1 && (Nat.ble (r.2.map a_cat).sum 8 && (Nat.beq (q_mc (tab w)) 0 && (Nat.beq (q_ms (tab w)) 0 && (match a_or (a_calls sp nc S D E K al r.1 r.2 pc (ct w)) (a_rcalls sp nc S E K al r.1 r.2 pc ρ0 (rc w)) with
                | none => false
                | some nx => nx.all fun st => a_nst st (a_go n false))))))
            else (match a_step sp nc S (q_mL M) (op, p0, v, a, b, w, t) E K al sk with
              | none => false
              | some nx => nx.all fun st => a_nsk op (a_gpl sp nc spl.2.1 pc op v K al sk (a_gsl pc spl.2.2) st) (a_go n false))) else false))))
end
