-- 13.run: pictures of frames, contracts, whole methods
/-- a call with one end -/
theorem a_xc1 {tab : Nat → qM} {call : q_call} {M : qM} {scr : Bool} {L : Nat} {env : qE} {h : qH} {k sl pc : Nat} {lv : qL} {stk : List qV} {P : qO → Prop} {e : qN} {av rest : List qV} {o1 : qO} (hc : q_cMono call) (he : (q_mI M).get pc = e) (hpc : q_pc e = pc) (h23 : e.1 = 23) (hst : stk = av.reverse ++ rest) (hlen : av.length = (if q_mK (tab (q_w e)) = 0 then q_mA (tab (q_w e)) else q_mA (tab (q_w e)) + 1)) (hrcv : q_rcv (q_mK (tab (q_w e))) (q_mC (tab (q_w e))) h av = true) (h8 : (rest.map q_cat).sum ≤ 8) (c1 : k + q_mc (tab (q_w e)) ≤ q_mc M) (c2 : sl + q_ms (tab (q_w e)) ≤ q_ms M)
    (hcall : call (q_w e) env h av (fun o => o = o1)) (hn : q_GE tab call M scr L (o1.1, o1.2.1, k + q_mc (tab (q_w e)), sl + q_ms (tab (q_w e)), pc + 3, lv, o1.2.2.toList ++ rest) P) : q_GE tab call M scr L (env, h, k, sl, pc, lv, stk) P := by
  obtain ⟨n, hn⟩ := hn
  exact q_xc hc he hpc h23 hst hlen hrcv h8 c1 c2 hcall (fun o ho => by rw [ho]; exact hn)
abbrev aQ : Type := List (Nat × Nat × Nat)
noncomputable def a_sbl (B : List aF) : List (Nat × Int) → aF
  | [] => a_cn 0
  | q :: l => a_sum (a_mulc q.2 (B.getD q.1 (a_cn 0))) (a_sbl B l)
/-- a sum with sums in its symbols' stead -/
noncomputable def a_sb (B : List aF) (f : aF) : aF := a_pl (a_sbl B f.1) f.2
noncomputable def a_sg (σ : Nat → Int) (B : List aF) : Nat → Int := fun i => a_ev σ (B.getD i (a_cn 0))
theorem a_sbl_ev (σ : Nat → Int) (B : List aF) : ∀ l, a_ev σ (a_sbl B l) = a_evl (a_sg σ B) l
  | [] => a_cn_ev σ 0
  | q :: l => by
    show a_ev σ (a_sum (a_mulc q.2 (B.getD q.1 (a_cn 0))) (a_sbl B l)) = q.2 * a_sg σ B q.1 + a_evl (a_sg σ B) l
    rw [a_sum_ev, a_mulc_ev, a_sbl_ev σ B l]
    rfl
theorem a_sb_ev (σ : Nat → Int) (B : List aF) (f : aF) : a_ev σ (a_sb B f) = a_ev (a_sg σ B) f := by
  unfold a_sb
  rw [a_pl_ev, a_sbl_ev]
  rfl
noncomputable def a_wfs (n : Nat) (B : List aF) : Prop := ∀ f ∈ B, a_wf n f
theorem a_wfs.getD {n : Nat} {B : List aF} (h : a_wfs n B) (i : Nat) : a_wf n (B.getD i (a_cn 0)) := by
  rw [List.getD_eq_getElem?_getD]
  cases hg : B[i]? with
  | none => exact a_wf.cn
  | some f => exact h f (List.mem_of_getElem? hg)
theorem a_sbl_wf {n : Nat} {B : List aF} (h : a_wfs n B) : ∀ l, a_wf n (a_sbl B l)
  | [] => a_wf.cn
  | q :: l => (a_wf.mulc (h.getD q.1)).sum (a_sbl_wf h l)
theorem a_sb_wf {n : Nat} {B : List aF} (h : a_wfs n B) (f : aF) : a_wf n (a_sb B f) := a_sbl_wf h f.1
noncomputable def a_wfb (n : Nat) : List (Nat × Int) → Bool
  | [] => true
  | q :: l => Nat.blt q.1 n && a_wfb n l
theorem a_wfb_ok {n : Nat} : ∀ {l : List (Nat × Int)}, a_wfb n l = true → a_wfl n l
  | [], _ => fun q hq => by cases hq
  | p :: l, h => fun q hq => by
    have h : (Nat.blt p.1 n && a_wfb n l) = true := h
    rw [Bool.and_eq_true, q_blt] at h
    rcases List.mem_cons.mp hq with rfl | hq
    · exact of_decide_eq_true h.1
    · exact a_wfb_ok h.2 q hq
/-- b, of a picture, is a -/
noncomputable def a_veq (E : aE) (B : List aF) (n : Nat) (b a : aV) : Bool := Nat.beq b.1 a.1 && (match b.1 with
  | 1 => a_eqE E (a_sb B b.2.2) a.2.2 && a_wfb n b.2.2.1
  | 4 => a_eqE E (a_sb B b.2.2) a.2.2 && a_wfb n b.2.2.1
  | 6 => Nat.beq b.2.1 a.2.1
  | 7 => true
  | 8 => a_feq (a_sb B b.2.2) a.2.2 && a_wfb n b.2.2.1
  | 11 => Nat.beq b.2.1 a.2.1
  | _ => false)
theorem a_veq_ok {σ : Nat → Int} {E : aE} (hE : a_En σ E) {B : List aF} (hB : a_wfs (a_n E) B) {n : Nat} {b a : aV} {v : qV} (h : a_veq E B n b a = true) (ha : a_V σ (a_n E) a v) : a_V (a_sg σ B) n b v := by
  obtain ⟨t, s, f⟩ := b
  obtain ⟨t2, s2, g⟩ := a
  unfold a_veq at h
  rw [Bool.and_eq_true] at h
  obtain ⟨h1, h2⟩ := h
  have e : t = t2 := Nat.eq_of_beq_eq_true h1
  subst e
  unfold a_V
  split at h2
  · rename_i ht
    have ht : t = 1 := ht
    subst ht
    rw [Bool.and_eq_true] at h2
    obtain ⟨wg, rfl, r1, r2⟩ := a_V1 ha
    have e := a_eqE_ok hE (a_sb_wf hB f) wg h2.1
    rw [a_sb_ev] at e
    have e : a_ev (a_sg σ B) f = a_ev σ g := e
    refine ⟨a_wfb_ok h2.2, ?_⟩
    show _ = (0, a_w (a_ev (a_sg σ B) f)) ∧ _ ≤ a_ev (a_sg σ B) f ∧ a_ev (a_sg σ B) f < _
    rw [e]
    exact ⟨rfl, r1, r2⟩
  · rename_i ht
    have ht : t = 4 := ht
    subst ht
    rw [Bool.and_eq_true] at h2
    obtain ⟨wg, rfl, r1, r2⟩ := a_V4 ha
    have e := a_eqE_ok hE (a_sb_wf hB f) wg h2.1
    rw [a_sb_ev] at e
    have e : a_ev (a_sg σ B) f = a_ev σ g := e
    refine ⟨a_wfb_ok h2.2, ?_⟩
    show _ = (3, a_W (a_ev (a_sg σ B) f)) ∧ _ ≤ a_ev (a_sg σ B) f ∧ a_ev (a_sg σ B) f < _
    rw [e]
    exact ⟨rfl, r1, r2⟩
  · rename_i ht
    have ht : t = 6 := ht
    subst ht
    have e : s = s2 := Nat.eq_of_beq_eq_true h2
    subst e
    exact ha
  · rename_i ht
    have ht : t = 7 := ht
    subst ht
    exact ha
  · rename_i ht
    have ht : t = 8 := ht
    subst ht
    rw [Bool.and_eq_true] at h2
    obtain ⟨wg, r1, rfl⟩ := (ha : a_wf (a_n E) g ∧ 0 ≤ a_ev σ g ∧ v = (6, (a_ev σ g).toNat))
    have e := a_feq_ok (σ := σ) h2.1
    rw [a_sb_ev] at e
    have e : a_ev (a_sg σ B) f = a_ev σ g := e
    refine ⟨a_wfb_ok h2.2, ?_⟩
    show 0 ≤ a_ev (a_sg σ B) f ∧ _ = (6, (a_ev (a_sg σ B) f).toNat)
    rw [e]
    exact ⟨r1, rfl⟩
  · rename_i ht
    have ht : t = 11 := ht
    subst ht
    have e : s = s2 := Nat.eq_of_beq_eq_true h2
    subst e
    exact ha
  · cases h2
noncomputable def a_vq (E : aE) (B : List aF) (n : Nat) : List aV → List aV → Bool
  | [], [] => true
  | b :: bs, a :: as => a_veq E B n b a && a_vq E B n bs as
  | _, _ => false
theorem a_vq_ok {σ : Nat → Int} {E : aE} (hE : a_En σ E) {B : List aF} (hB : a_wfs (a_n E) B) {n : Nat} : ∀ {bs as : List aV} {vs : List qV}, a_vq E B n bs as = true → a_Sk σ (a_n E) as vs → a_Sk (a_sg σ B) n bs vs
  | [], [], [], _, _ => trivial
  | b :: bs, a :: as, v :: vs, h, hS => by
    have h : (a_veq E B n b a && a_vq E B n bs as) = true := h
    rw [Bool.and_eq_true] at h
    exact ⟨a_veq_ok hE hB h.1 hS.1, a_vq_ok hE hB h.2 hS.2⟩
  | [], _ :: _, _, h, _ => by cases h
  | _ :: _, [], _, h, _ => by cases h
  | [], [], _ :: _, _, hS => hS.elim
  | _ :: _, _ :: _, [], _, hS => hS.elim
/-- a fact of a picture is that of the frame -/
noncomputable def a_fq (E : aE) (B : List aF) (n : Nat) (b a : aV) : Bool := a_t12 a && (Nat.beq b.2.1 a.2.1 && (a_eqE E (a_sb B b.2.2) a.2.2 && a_wfb n b.2.2.1))
theorem a_veq_12 {E : aE} {B : List aF} {n : Nat} {b a : aV} (hb : a_t12 b = true) (h : a_veq E B n b a = true) : False := by
  obtain ⟨t, s, f⟩ := b
  have e : t = 12 := Nat.eq_of_beq_eq_true hb
  subst e
  unfold a_veq at h
  rw [Bool.and_eq_true] at h
  exact absurd h.2 (by intro q; cases q)
noncomputable def a_kq (E : aE) (B : List aF) (n : Nat) (KT K : aK) : Bool := match KT with
  | [] => true
  | q :: KT => (match a_kf K q.1.1 q.1.2 with
    | none => false
    | some a => bif a_t12 q.2 then a_fq E B n q.2 a else a_veq E B n q.2 a) && a_kq E B n KT K
theorem a_kq_ok {sp : aSp} {nc : Nat} {h : qH} {σ : Nat → Int} {E : aE} (hE : a_En σ E) {B : List aF} (hB : a_wfs (a_n E) B) {n : Nat} {K : aK} (hK : a_Kn sp nc σ (a_n E) K h) : ∀ {KT : aK}, a_kq E B n KT K = true → a_Kn sp nc (a_sg σ B) n KT h
  | [], _ => fun q hq => by cases hq
  | p :: KT, hk => fun q hq => by
    have hk : ((match a_kf K p.1.1 p.1.2 with
      | none => false
      | some a => bif a_t12 p.2 then a_fq E B n p.2 a else a_veq E B n p.2 a) && a_kq E B n KT K) = true := hk
    rw [Bool.and_eq_true] at hk
    rcases List.mem_cons.mp hq with rfl | hq
    · have h1 := hk.1
      split at h1
      · cases h1
      · rename_i a ha
        have hKa := hK _ (a_kf_mem ha)
        cases ht : a_t12 q.2 with
        | true =>
          rw [ht] at h1
          have h1 : (a_t12 a && (Nat.beq q.2.2.1 a.2.1 && (a_eqE E (a_sb B q.2.2.2) a.2.2 && a_wfb n q.2.2.2.1))) = true := h1
          simp only [Bool.and_eq_true] at h1
          obtain ⟨u1, u2, u3, u4⟩ := h1
          obtain ⟨k0, ⟨-, k2⟩ | ⟨k1, k2, k3, k4⟩⟩ := hKa
          · exact absurd (Nat.eq_of_beq_eq_true u1) (a_V12 k2)
          · have e := a_eqE_ok hE (a_sb_wf hB q.2.2.2) k3 u3
            rw [a_sb_ev] at e
            have e2 : q.2.2.1 = a.2.1 := Nat.eq_of_beq_eq_true u2
            refine ⟨k0, Or.inr ⟨k1, Nat.eq_of_beq_eq_true ht, a_wfb_ok u4, ?_⟩⟩
            rw [e, e2]
            exact k4
        | false =>
          rw [ht] at h1
          have h1 : a_veq E B n q.2 a = true := h1
          obtain ⟨k0, ⟨k1, k2⟩ | ⟨k1, k2, k3, k4⟩⟩ := hKa
          · exact ⟨k0, Or.inl ⟨k1, a_veq_ok hE hB h1 k2⟩⟩
          · have k2 : a.1 = 12 := k2
            unfold a_veq at h1
            rw [Bool.and_eq_true] at h1
            have e := Nat.eq_of_beq_eq_true h1.1
            have : a_t12 q.2 = true := by
              show Nat.beq q.2.1 12 = true
              rw [e, k2]; rfl
            rw [ht] at this
            cases this
    · exact a_kq_ok hE hB hK hk.2 q hq
noncomputable def a_lq (E : aE) (B : List aF) (n : Nat) (alT al : aL) : Bool := match alT with
  | [] => true
  | q :: alT => (match a_lg al q.1 with
    | none => false
    | some a => a_veq E B n q.2 a) && a_lq E B n alT al
theorem a_lq_ok {σ : Nat → Int} {E : aE} (hE : a_En σ E) {B : List aF} (hB : a_wfs (a_n E) B) {n : Nat} {al : aL} {lv : qL} (hL : a_Lv σ (a_n E) al lv) : ∀ {alT : aL}, a_lq E B n alT al = true → a_Lv (a_sg σ B) n alT lv
  | [], _ => fun i a hi => by cases hi
  | p :: alT, hk => fun i a hi => by
    have hk : ((match a_lg al p.1 with
      | none => false
      | some a => a_veq E B n p.2 a) && a_lq E B n alT al) = true := hk
    rw [Bool.and_eq_true] at hk
    rw [a_lg_c] at hi
    cases hb : Nat.beq p.1 i with
    | true =>
      rw [hb] at hi
      cases hi
      have e := Nat.eq_of_beq_eq_true hb
      have h1 := hk.1
      split at h1
      · cases h1
      · rename_i a ha
        rw [e] at ha
        obtain ⟨v, v1, v2⟩ := hL i a ha
        exact ⟨v, v1, a_veq_ok hE hB h1 v2⟩
    | false =>
      rw [hb] at hi
      exact a_lq_ok hE hB hL hk.2 i a hi
noncomputable def a_ivq (E : aE) : List aF → List (Int × Int) → Bool
  | [], [] => true
  | f :: B, p :: I => a_ge E f p.1 && (a_lef E f p.2 && a_ivq E B I)
  | _, _ => false
theorem a_ivq_ok {σ : Nat → Int} {E : aE} (hE : a_En σ E) : ∀ {B : List aF} {I : List (Int × Int)}, a_wfs (a_n E) B → a_ivq E B I = true → B.length = I.length ∧ ∀ (i : Nat) (p : Int × Int), I[i]? = some p → p.1 ≤ a_sg σ B i ∧ a_sg σ B i ≤ p.2
  | [], [], _, _ => ⟨rfl, fun i p h => by cases h⟩
  | f :: B, p :: I, hw, h => by
    have h : (a_ge E f p.1 && (a_lef E f p.2 && a_ivq E B I)) = true := h
    rw [Bool.and_eq_true, Bool.and_eq_true] at h
    obtain ⟨l, ih⟩ := a_ivq_ok hE (B := B) (I := I) (fun x hx => hw x (List.mem_cons_of_mem _ hx)) h.2.2
    refine ⟨by rw [List.length_cons, List.length_cons, l], fun i q hq => ?_⟩
    cases i with
    | zero =>
      cases hq
      have wf := hw f List.mem_cons_self
      exact ⟨a_ge_ok hE wf h.1, a_lef_ok hE wf h.2.1⟩
    | succ i => exact ih i q hq
  | [], _ :: _, _, h => by cases h
  | _ :: _, [], _, h => by cases h
noncomputable def a_cq (E : aE) (B : List aF) (n : Nat) : List aF → Bool
  | [] => true
  | P :: C => a_wfb n P.1 && (a_nx E (a_sb B P) && a_cq E B n C)
theorem a_cq_ok {σ : Nat → Int} {E : aE} (hE : a_En σ E) {B : List aF} (hw : a_wfs (a_n E) B) {n : Nat} : ∀ {C : List aF}, a_cq E B n C = true → ∀ q ∈ C, a_wf n q ∧ 0 ≤ a_ev (a_sg σ B) q
  | [], _ => fun q hq => by cases hq
  | P :: C, h => fun q hq => by
    have h : (a_wfb n P.1 && (a_nx E (a_sb B P) && a_cq E B n C)) = true := h
    rw [Bool.and_eq_true, Bool.and_eq_true] at h
    rcases List.mem_cons.mp hq with rfl | hq
    · refine ⟨a_wfb_ok h.1, ?_⟩
      have := a_nx_ok hE (a_sb_wf hw q) h.2.1
      rw [a_sb_ev] at this
      exact this
    · exact a_cq_ok hE hw h.2.2 q hq
/-- the first r symbols are themselves -/
noncomputable def a_rgd : Nat → List aF → List aF
  | 0, B => B
  | r + 1, B => a_rgd r (a_sy r :: B)
theorem a_rgd_ok {n : Nat} : ∀ (r : Nat) (B : List aF), r ≤ n → a_wfs n B → a_wfs n (a_rgd r B) ∧ (∀ i, i < r → (a_rgd r B).getD i (a_cn 0) = a_sy i) ∧ ∀ i, (a_rgd r B).getD (r + i) (a_cn 0) = B.getD i (a_cn 0)
  | 0, B, _, h => ⟨h, fun i hi => by omega, fun i => by rw [Nat.zero_add]; rfl⟩
  | r + 1, B, hr, h => by
    obtain ⟨h1, h2, h3⟩ := a_rgd_ok (n := n) r (a_sy r :: B) (by omega) (fun f hf => by
      rcases List.mem_cons.mp hf with rfl | hf
      · exact a_wf.sy (by omega)
      · exact h f hf)
    refine ⟨h1, fun i hi => ?_, fun i => ?_⟩
    · by_cases e : i = r
      · subst e
        have := h3 0
        rw [Nat.add_zero] at this
        exact this
      · exact h2 i (by omega)
    · have := h3 (i + 1)
      rw [show r + 1 + i = r + (i + 1) by omega]
      exact this
noncomputable def a_form (x : Option aV) : aF := match x with
  | some a => bif Nat.beq a.1 1 || Nat.beq a.1 4 || Nat.beq a.1 12 then a.2.2 else a_cn 0
  | none => a_cn 0
theorem a_form_wf2 {n : Nat} {a : aV} (h : a.1 = 1 ∨ a.1 = 4 ∨ a.1 = 12 → a_wf n a.2.2) : a_wf n (a_form (some a)) := by
  show a_wf n (bif Nat.beq a.1 1 || Nat.beq a.1 4 || Nat.beq a.1 12 then a.2.2 else a_cn 0)
  cases hb : (Nat.beq a.1 1 || Nat.beq a.1 4 || Nat.beq a.1 12) with
  | false => exact a_wf.cn
  | true =>
    rw [Bool.or_eq_true, Bool.or_eq_true] at hb
    rcases hb with (hb | hb) | hb
    · exact h (Or.inl (Nat.eq_of_beq_eq_true hb))
    · exact h (Or.inr (Or.inl (Nat.eq_of_beq_eq_true hb)))
    · exact h (Or.inr (Or.inr (Nat.eq_of_beq_eq_true hb)))
theorem a_form_wf {σ : Nat → Int} {n : Nat} {a : aV} {v : qV} (h : a_V σ n a v) : a_wf n (a_form (some a)) := by
  refine a_form_wf2 (fun e => ?_)
  obtain ⟨t, s, f⟩ := a
  rcases e with e | e | e
  · have e : t = 1 := e
    subst e
    exact (a_V1 h).1
  · have e : t = 4 := e
    subst e
    exact (a_V4 h).1
  · exact absurd e (a_V12 h)
theorem a_form_wfK {sp : aSp} {nc : Nat} {h : qH} {σ : Nat → Int} {n : Nat} {q : (Nat × Nat) × aV} (hq : a_Kq sp nc σ n h q) : a_wf n (a_form (some q.2)) := by
  obtain ⟨-, ⟨-, k2⟩ | ⟨-, -, k3, -⟩⟩ := hq
  · exact a_form_wf k2
  · exact a_form_wf2 (fun _ => k3)
noncomputable def a_dvl (m : Int) : List (Nat × Int) → List (Nat × Int)
  | [] => []
  | q :: l => (q.1, q.2 / m) :: a_dvl m l
theorem a_dvl_wf {n : Nat} {m : Int} : ∀ {l : List (Nat × Int)}, a_wfl n l → a_wfl n (a_dvl m l)
  | [], _ => fun q hq => by cases hq
  | p :: l, h => fun q hq => by
    rcases List.mem_cons.mp hq with rfl | hq
    · exact h p List.mem_cons_self
    · exact a_dvl_wf (fun x hx => h x (List.mem_cons_of_mem _ hx)) q hq
/-- a sum with its numbers divided by m -/
noncomputable def a_dvf (m : Int) (f : aF) : aF := (a_dvl m f.1, f.2 / m)
/-- where the symbols come from: (0, i, _) the value i, (1, c, j) a place of the heap, (2, i, _) the local i, (3, i, m) the value i divided by m -/
noncomputable def a_src (src : aQ) (vs : List aV) (al : aL) (K : aK) : List aF := match src with
  | [] => []
  | q :: src => (match q.1 with
    | 0 => a_form vs[q.2.1]?
    | 1 => a_form (a_kf K q.2.1 q.2.2)
    | 3 => a_dvf q.2.2 (a_form vs[q.2.1]?)
    | _ => a_form (a_lg al q.2.1)) :: a_src src vs al K
theorem a_src_wf {sp : aSp} {nc : Nat} {h : qH} {σ : Nat → Int} {n : Nat} {vs : List aV} {vals : List qV} {al : aL} {lv : qL} {K : aK} (hS : a_Sk σ n vs vals) (hL : a_Lv σ n al lv) (hK : a_Kn sp nc σ n K h) : ∀ (src : aQ), a_wfs n (a_src src vs al K)
  | [] => fun f hf => by cases hf
  | q :: src => fun f hf => by
    have at' : ∀ {as : List aV} {ws : List qV} (i : Nat), a_Sk σ n as ws → a_wf n (a_form as[i]?) := by
      intro as
      induction as with
      | nil => intro ws i _; exact a_wf.cn
      | cons a as ih =>
        intro ws i hs
        obtain ⟨v, vs, rfl, h1, h2⟩ := hs.cons
        cases i with
        | zero => exact a_form_wf h1
        | succ i => exact ih i h2
    rcases List.mem_cons.mp hf with rfl | hf
    · split
      · exact at' _ hS
      · cases hk : a_kf K q.2.1 q.2.2 with
        | none => exact a_wf.cn
        | some a => exact a_form_wfK (hK _ (a_kf_mem hk))
      · exact a_dvl_wf (at' _ hS)
      · cases hk : a_lg al q.2.1 with
        | none => exact a_wf.cn
        | some a =>
          obtain ⟨v, -, hv⟩ := hL _ _ hk
          exact a_form_wf hv
    · exact a_src_wf hS hL hK src f hf
/-- reads the places of a picture; a fact of no place holds -/
noncomputable def a_rds (sp : aSp) (nc : Nat) (E : aE) (K : aK) : aK → Option (aE × aK)
  | [] => some (E, K)
  | q :: KT => bif Nat.blt q.1.1 nc && Nat.blt q.1.2 (a_cl sp q.1.1) then (match a_rd sp E K q.1.1 q.1.2 with
    | none => none
    | some r => a_rds sp nc r.1 r.2.1 KT) else (match a_kf K q.1.1 q.1.2 with
      | some _ => a_rds sp nc E K KT
      | none => bif Nat.blt q.1.1 nc && (Nat.ble (a_cl sp q.1.1) q.1.2 && Nat.blt q.2.2.1 1048576) then a_rds sp nc E ((q.1, (12, q.2.2.1, a_cn 0)) :: K) KT else none)
theorem a_rds_ok {sp : aSp} {nc : Nat} {h : qH} (hh : a_HI sp nc h) : ∀ (KT : aK) {σ : Nat → Int} {E : aE} {K : aK} {r : aE × aK}, a_En σ E → a_Kn sp nc σ (a_n E) K h → a_rds sp nc E K KT = some r → ∃ σ', (∀ i, i < a_n E → σ' i = σ i) ∧ a_n E ≤ a_n r.1 ∧ a_En σ' r.1 ∧ a_Kn sp nc σ' (a_n r.1) r.2 h
  | [], σ, E, K, r, hE, hK, hr => by
    cases hr
    exact ⟨σ, fun _ _ => rfl, Nat.le_refl _, hE, hK⟩
  | q :: KT, σ, E, K, r, hE, hK, hr => by
    have hr : (bif Nat.blt q.1.1 nc && Nat.blt q.1.2 (a_cl sp q.1.1) then (match a_rd sp E K q.1.1 q.1.2 with
      | none => none
      | some r => a_rds sp nc r.1 r.2.1 KT) else (match a_kf K q.1.1 q.1.2 with
        | some _ => a_rds sp nc E K KT
        | none => bif Nat.blt q.1.1 nc && (Nat.ble (a_cl sp q.1.1) q.1.2 && Nat.blt q.2.2.1 1048576) then a_rds sp nc E ((q.1, (12, q.2.2.1, a_cn 0)) :: K) KT else none)) = some r := hr
    cases hc : (Nat.blt q.1.1 nc && Nat.blt q.1.2 (a_cl sp q.1.1)) with
    | true =>
      rw [hc] at hr
      rw [Bool.and_eq_true, q_blt, q_blt] at hc
      have hr : (match a_rd sp E K q.1.1 q.1.2 with
        | none => none
        | some r => a_rds sp nc r.1 r.2.1 KT) = some r := hr
      split at hr
      · cases hr
      · rename_i r2 hr2
        obtain ⟨σ1, g1, g2, g3, g4, -⟩ := a_rd_ok hE hh hK (of_decide_eq_true hc.1) (of_decide_eq_true hc.2) hr2
        obtain ⟨σ2, k1, k2, k3, k4⟩ := a_rds_ok hh KT g3 g4 hr
        exact ⟨σ2, fun i hi => (k1 i (by omega)).trans (g1 i hi), by omega, k3, k4⟩
    | false =>
      rw [hc] at hr
      have hr : (match a_kf K q.1.1 q.1.2 with
        | some _ => a_rds sp nc E K KT
        | none => bif Nat.blt q.1.1 nc && (Nat.ble (a_cl sp q.1.1) q.1.2 && Nat.blt q.2.2.1 1048576) then a_rds sp nc E ((q.1, (12, q.2.2.1, a_cn 0)) :: K) KT else none) = some r := hr
      split at hr
      · exact a_rds_ok hh KT hE hK hr
      · obtain ⟨h1, hr⟩ := q_bt hr
        simp only [Bool.and_eq_true] at h1
        obtain ⟨h1, h2, h3⟩ := h1
        rw [q_blt] at h1
        refine a_rds_ok hh KT hE (fun x hx => ?_) hr
        rcases List.mem_cons.mp hx with rfl | hx
        · refine ⟨of_decide_eq_true h1, Or.inr ⟨Nat.le_of_ble_eq_true h2, rfl, a_wf.cn, fun _ i hi hix => ?_, fun hb => ?_⟩⟩
          · have hix : (i : Int) < a_ev σ (a_cn 0) := hix
            rw [a_cn_ev] at hix
            omega
          · have hb : Nat.blt q.2.2.1 1048576 = false := hb
            rw [h3] at hb; cases hb
        · exact hK x hx
/-- a contract's end: sources of its new symbols, what is answered, places, intervals -/
abbrev aOut : Type := aQ × List aV × aK × aE
/-- a contract: sources of its symbols, arguments, places, intervals; what may change; its ends -/
abbrev aCon : Type := aQ × List aV × aK × aE × aW × List aOut
/-- a place in a method where runs meet: pc, sources, locals, stack, places, intervals, what falls -/
abbrev aCut : Type := Nat × aQ × aL × List aV × aK × aE × aF
/-- what a contract says -/
noncomputable def a_Con (sp : aSp) (nc : Nat) (tab : Nat → qM) (d id : Nat) (C : aCon) : Prop := ∀ (env : qE) (h : qH) (σ : Nat → Int) (av : List qV), a_HI sp nc h → a_En σ C.2.2.2.1 → a_Kn sp nc σ (a_n C.2.2.2.1) C.2.2.1 h → a_Sk σ (a_n C.2.2.2.1) C.2.1 av →
  ∃ (h' : qH) (r : Option qV), q_GM tab d id env h av (fun o => o = (env, h', r)) ∧ a_HI sp nc h' ∧ a_Fr sp nc C.2.2.2.2.1 h h' ∧ ∃ o ∈ C.2.2.2.2.2, ∃ σ', (∀ i, i < a_n C.2.2.2.1 → σ' i = σ i) ∧ a_En σ' o.2.2.2 ∧ a_Kn sp nc σ' (a_n o.2.2.2) o.2.2.1 h' ∧ a_Sk σ' (a_n o.2.2.2) o.2.1 r.toList
/-- S's ranges lie in T -/
noncomputable def a_subS (T : aW) : aW → Bool
  | [] => true
  | r :: S => (Nat.ble r.2.2.2 r.2.2.1 || a_inR T r.1 r.2.1 r.2.2.1 (r.2.2.2 - 1)) && a_subS T S
theorem a_subS_ok {T : aW} {c j : Nat} : ∀ {S : aW}, a_subS T S = true → a_inS T c j = false → a_inS S c j = false
  | [], _, _ => rfl
  | r :: S, h, hT => by
    have h : ((Nat.ble r.2.2.2 r.2.2.1 || a_inR T r.1 r.2.1 r.2.2.1 (r.2.2.2 - 1)) && a_subS T S) = true := h
    rw [Bool.and_eq_true, Bool.or_eq_true] at h
    have ih := a_subS_ok (S := S) h.2 hT
    show ((Nat.ble r.1 c && (Nat.ble c r.2.1 && (Nat.ble r.2.2.1 j && Nat.blt j r.2.2.2))) || a_inS S c j) = false
    rw [ih, Bool.or_false]
    cases hb : (Nat.ble r.1 c && (Nat.ble c r.2.1 && (Nat.ble r.2.2.1 j && Nat.blt j r.2.2.2))) with
    | false => rfl
    | true =>
      simp only [Bool.and_eq_true, q_ble, q_blt, decide_eq_true_eq] at hb
      obtain ⟨b0, b1, b2, b3⟩ := hb
      rcases h.1 with h1 | h1
      · rw [q_ble] at h1
        have := of_decide_eq_true h1
        omega
      · rw [a_inR_ok b2 (by omega) b0 b1 h1] at hT
        cases hT
theorem a_Fr.sub {sp : aSp} {nc : Nat} {S T : aW} {h h' : qH} (hs : a_subS T S = true) (hf : a_Fr sp nc S h h') : a_Fr sp nc T h h' := fun c j a b d => hf c j a b (a_subS_ok hs d)
/-- nothing of D is named by S -/
noncomputable def a_djS (D : aW) : aW → Bool
  | [] => true
  | r :: S => (Nat.ble r.2.2.2 r.2.2.1 || a_dj D r.1 r.2.1 r.2.2.1 (r.2.2.2 - 1)) && a_djS D S
theorem a_djS_ok {D : aW} {c j : Nat} : ∀ {S : aW}, a_djS D S = true → a_inS D c j = true → a_inS S c j = false
  | [], _, _ => rfl
  | r :: S, h, hD => by
    have h : ((Nat.ble r.2.2.2 r.2.2.1 || a_dj D r.1 r.2.1 r.2.2.1 (r.2.2.2 - 1)) && a_djS D S) = true := h
    rw [Bool.and_eq_true, Bool.or_eq_true] at h
    have ih := a_djS_ok (S := S) h.2 hD
    show ((Nat.ble r.1 c && (Nat.ble c r.2.1 && (Nat.ble r.2.2.1 j && Nat.blt j r.2.2.2))) || a_inS S c j) = false
    rw [ih, Bool.or_false]
    cases hb : (Nat.ble r.1 c && (Nat.ble c r.2.1 && (Nat.ble r.2.2.1 j && Nat.blt j r.2.2.2))) with
    | false => rfl
    | true =>
      simp only [Bool.and_eq_true, q_ble, q_blt, decide_eq_true_eq] at hb
      obtain ⟨b0, b1, b2, b3⟩ := hb
      rcases h.1 with h1 | h1
      · rw [q_ble] at h1
        have := of_decide_eq_true h1
        omega
      · rw [a_dj_ok b0 b1 b2 (by omega) h1] at hD
        cases hD
/-- without the places that S names, and the facts that speak of them -/
noncomputable def a_kout (sp : aSp) (S : aW) : aK → aK
  | [] => []
  | q :: K => bif (bif a_t12 q.2 then !(a_djS (a_dep sp q.2.2.1 q.1.1) S) else a_inS S q.1.1 q.1.2) then a_kout sp S K else q :: a_kout sp S K
theorem a_kout_ok {sp : aSp} {nc : Nat} {S : aW} {h h' : qH} {σ : Nat → Int} {n : Nat} (hf : a_Fr sp nc S h h') : ∀ {K : aK}, a_Kn sp nc σ n K h → a_Kn sp nc σ n (a_kout sp S K) h'
  | [], _ => fun q hq => by cases hq
  | p :: K, hK => fun q hq => by
    have ih := a_kout_ok (K := K) hf (fun x hx => hK x (List.mem_cons_of_mem _ hx))
    unfold a_kout at hq
    cases hb : (bif a_t12 p.2 then !(a_djS (a_dep sp p.2.2.1 p.1.1) S) else a_inS S p.1.1 p.1.2) with
    | true =>
      rw [hb] at hq
      exact ih q hq
    | false =>
      rw [hb] at hq
      rcases List.mem_cons.mp hq with rfl | hq
      · obtain ⟨h0, ⟨k1, k2⟩ | ⟨k1, k2, k3, k4⟩⟩ := hK q List.mem_cons_self
        · have t : a_t12 q.2 = false := by
            cases ht : a_t12 q.2 with
            | false => rfl
            | true => exact absurd (Nat.eq_of_beq_eq_true ht) (a_V12 k2)
          rw [t] at hb
          have hb : a_inS S q.1.1 q.1.2 = false := hb
          exact ⟨h0, Or.inl ⟨k1, by rw [hf _ _ h0 k1 hb]; exact k2⟩⟩
        · have t : a_t12 q.2 = true := by
            show Nat.beq q.2.1 12 = true
            rw [k2]; rfl
          rw [t] at hb
          have hb : (!(a_djS (a_dep sp q.2.2.1 q.1.1) S)) = false := hb
          rw [Bool.not_eq_false'] at hb
          exact ⟨h0, Or.inr ⟨k1, k2, k3, a_PF_fr h0 (fun i j hi hj hin => hf i j hi hj (a_djS_ok hb hin)) k4⟩⟩
      · exact ih q hq
/-- a value of a picture, in the frame's symbols -/
noncomputable def a_vsb (B : List aF) (a : aV) : aV := (a.1, a.2.1, a_sb B a.2.2)
theorem a_vsb_ok {σ : Nat → Int} {B : List aF} {n m : Nat} (hw : a_wfs m B) {σT : Nat → Int} (hs : ∀ i, i < n → a_sg σ B i = σT i) {a : aV} {v : qV} (h : a_V σT n a v) : a_V σ m (a_vsb B a) v := by
  obtain ⟨t, s, f⟩ := a
  unfold a_V at h
  unfold a_V a_vsb
  have e : a_wf n f → a_ev σ (a_sb B f) = a_ev σT f := fun wf => by rw [a_sb_ev]; exact a_ev_ext hs wf
  split at h
  · rename_i ht
    have ht : t = 1 := ht
    subst ht
    obtain ⟨h1, h2⟩ := h
    refine ⟨a_sb_wf hw f, ?_⟩
    show v = (0, a_w (a_ev σ (a_sb B f))) ∧ _ ≤ a_ev σ (a_sb B f) ∧ a_ev σ (a_sb B f) < _
    rw [e h1]
    exact h2
  · rename_i ht
    have ht : t = 4 := ht
    subst ht
    obtain ⟨h1, h2⟩ := h
    refine ⟨a_sb_wf hw f, ?_⟩
    show v = (3, a_W (a_ev σ (a_sb B f))) ∧ _ ≤ a_ev σ (a_sb B f) ∧ a_ev σ (a_sb B f) < _
    rw [e h1]
    exact h2
  · rename_i ht
    have ht : t = 6 := ht
    subst ht
    exact h
  · rename_i ht
    have ht : t = 7 := ht
    subst ht
    exact h
  · rename_i ht
    have ht : t = 8 := ht
    subst ht
    obtain ⟨h1, h2⟩ := h
    refine ⟨a_sb_wf hw f, ?_⟩
    show 0 ≤ a_ev σ (a_sb B f) ∧ v = (6, (a_ev σ (a_sb B f)).toNat)
    rw [e h1]
    exact h2
  · rename_i ht
    have ht : t = 11 := ht
    subst ht
    exact h
  · exact h.elim
/-- E where all of these sums are taken to be 0 or more -/
noncomputable def a_ass (E : aE) : List aF → Option aE
  | [] => some E
  | P :: C => (match a_as E P with
    | none => none
    | some E' => a_ass E' C)
theorem a_ass_ok {σ : Nat → Int} : ∀ {C : List aF} {E : aE}, a_En σ E → (∀ P ∈ C, a_wf (a_n E) P ∧ 0 ≤ a_ev σ P) → ∃ E', a_ass E C = some E' ∧ a_En σ E' ∧ a_n E' = a_n E
  | [], E, h, _ => ⟨E, rfl, h, rfl⟩
  | P :: C, E, h, hC => by
    obtain ⟨p1, p2⟩ := hC P List.mem_cons_self
    obtain ⟨E1, h1, h2, h3⟩ := a_as_ok h p1 p2
    obtain ⟨E2, g1, g2, g3⟩ := a_ass_ok (C := C) h2 (fun Q hQ => by rw [h3]; exact hC Q (List.mem_cons_of_mem _ hQ))
    refine ⟨E2, ?_, g2, by omega⟩
    show (match a_as E P with
      | none => none
      | some E' => a_ass E' C) = some E2
    rw [h1]
    exact g1
/-- what the intervals say of these sums -/
noncomputable def a_ivs : List aF → List (Int × Int) → List aF
  | f :: B, p :: I => a_pl f (-p.1) :: a_dif (a_cn p.2) f :: a_ivs B I
  | _, _ => []
theorem a_ivs_ok {σ : Nat → Int} {n : Nat} : ∀ {B : List aF} {I : List (Int × Int)}, a_wfs n B → (∀ (i : Nat) (p : Int × Int), I[i]? = some p → p.1 ≤ a_sg σ B i ∧ a_sg σ B i ≤ p.2) → ∀ P ∈ a_ivs B I, a_wf n P ∧ 0 ≤ a_ev σ P
  | [], [], _, _ => fun P hP => by cases hP
  | [], _ :: _, _, _ => fun P hP => by cases hP
  | _ :: _, [], _, _ => fun P hP => by cases hP
  | f :: B, p :: I, hw, hI => fun P hP => by
    have h0 := hI 0 p rfl
    have h0 : p.1 ≤ a_ev σ f ∧ a_ev σ f ≤ p.2 := h0
    have wf := hw f List.mem_cons_self
    have hP : P ∈ a_pl f (-p.1) :: a_dif (a_cn p.2) f :: a_ivs B I := hP
    rcases List.mem_cons.mp hP with rfl | hP
    · exact ⟨wf, by rw [a_pl_ev]; omega⟩
    · rcases List.mem_cons.mp hP with rfl | hP
      · exact ⟨a_wf.cn.dif wf, by rw [a_dif_ev, a_cn_ev]; omega⟩
      · exact a_ivs_ok (B := B) (I := I) (fun x hx => hw x (List.mem_cons_of_mem _ hx)) (fun i q hq => hI (i + 1) q hq) P hP
