-- 47.snd: what is said of runs holds of the machine
theorem q_RV.sb {ρ : Nat → Int32} {sb sb' : (Nat → Nat) × va_W} {ws : va_W} {x : qV} {v : Value} (h : q_RV ρ sb ws x v) (e : sb.1 = sb'.1) : q_RV ρ sb' ws x v := by
  unfold q_RV at h ⊢
  rw [← e]
  exact h
theorem q_Sk.sb {ρ : Nat → Int32} {sb sb' : (Nat → Nat) × va_W} {ws : va_W} (e : sb.1 = sb'.1) : ∀ {xs : List qV} {vs : List Value}, q_Sk ρ sb ws xs vs → q_Sk ρ sb' ws xs vs
  | [], [], _ => trivial
  | _ :: _, _ :: _, h => ⟨h.1.sb e, q_Sk.sb e h.2⟩
  | [], _ :: _, h => (h : False).elim
  | _ :: _, [], h => (h : False).elim
theorem q_r100 {d y : Nat} (h : 100 * (d + 8) ≤ y) : 100 ≤ y := by
  have e : 100 * (d + 8) = 100 * (d + 7) + 100 := Nat.mul_succ 100 (d + 7)
  omega
theorem q_rmle {d x y z : Nat} (h3 : d + 7 ≤ z) (h4 : 100 * (d + 8) ≤ y) (h5 : x ≤ 81) : d + 6 + 1 ≤ z ∧ 8 + (x + 11) + 100 * (d + 7) ≤ y := by
  have e : 100 * (d + 8) = 100 * (d + 7) + 100 := Nat.mul_succ 100 (d + 7)
  rw [e] at h4
  generalize 100 * (d + 7) = t at h4 ⊢
  exact ⟨h3, by omega⟩
theorem q_ins_23 {e : qN} (h : e.1 = 23) : q_ins e = (q_ins23 (q_v e) (q_a e), 3) := by
  obtain ⟨op, r⟩ := e
  have h : op = 23 := h
  subst h
  rfl
theorem q_ins_24 {e : qN} (h : e.1 = 24) : q_ins e = (q_ins24 (q_v e), 1) := by
  obtain ⟨op, r⟩ := e
  have h : op = 24 := h
  subst h
  rfl
section
variable {p : Program} {l : Launch} {e0 : Env} {R : Room} {s : State} {m : MethodId} {args : Array Value} {below : List Frame} {meth : Method} {c : Code} {Q : State → Prop}
variable {D : va_G} {A : Nat → Prop} {ρ : Nat → Int32} {sb : (Nat → Nat) × va_W} {scr : Bool} {L : Nat} {own : String} {bytes : ByteArray} {maxL : Nat} {init : Bool}
variable {e : qN} {env : qE} {h : qH} {k sl : Nat} {lv : qL} {stk : List qV} {nx : List qF}
variable {H : Heap} {locs : List Loc} {pc : Nat} {ls : Array Slot} {ws : va_W} {tys : List (ClassId × FieldType)} {tab : Nat → qM} {M : qM} {d : Nat}
theorem q_callW {b : Nat → Nat} {cells slots mc' ms' : Nat} {st0 rest : List Value} {P : qO → Prop} {a : Array Value} (hr : va_Run p l e0 R s m args below meth c H locs cells slots mc' ms' (F0 m pc ls st0) rest (q_Q ρ b D ws H.size P a) (va_A ws H.size)) (hS : va_S A s.heap H locs) (hAf : ∀ q, va_A ws H.size q → A q)
    (kk : ∀ (o : qO) (v : Option Value) (ws' : va_W) (tys' : List (ClassId × FieldType)) (H1 : Heap) (locs1 : List Loc), P o → q_res ρ (b, ws) ws' o.2.2 v → q_En ρ o.1 → q_Hp ρ (b, ws) o.2.1 ws' tys' → va_P D vwCl ws' H1 → va_K D vwCl tys' s → va_D A ws' → va_S A s.heap H1 locs1 →
      W p l e0 R s m args below meth c H1 locs1 (cells + mc') (slots + ms') Q (F0 m (pc + 3) ls (v.toList ++ rest))) : W p l e0 R s m args below meth c H locs cells slots Q (F0 m pc ls st0) := by
  intro T hT X
  obtain ⟨v, st₀, t, T', L, h0, X', hL, e1, e2, ⟨⟨o, v', ws', tys', hv, hp, hres, hE, hH, hP, hK, hD⟩, hz, hk⟩, st⟩ := hr T hT X
  cases hv
  rw [h0] at hz hk
  have hvm : s.vm.Alike t.vm := by rw [← e2]; exact X'.warmed.alike
  obtain ⟨t2, a1, b1⟩ := kk o v ws' tys' T'.heap (locs ++ L) hp hres hE hH (by rw [e1]; exact hP) (va_K.moved hvm.symm hK) (hD.weaken fun k q hq h => hAf _ h)
    ⟨Nat.le_trans hS.1 (by rw [e1]; exact hz), fun q h1 h2 => by rw [e1, hk q (Nat.lt_of_lt_of_le h1 hS.1) (fun z => h2 (hAf q z))]; exact hS.2.1 q h1 h2, fun q hq => by
      rcases List.mem_append.mp hq with h | h
      · exact hS.2.2 q h
      · exact hAf _ (hL q h)⟩ T' rfl X'
  exact ⟨t2, st t2 a1, b1⟩
theorem q_call_ok (C : q_Cx p R s m args meth c A ρ sb (q_mc M) (q_ms M) scr L own bytes maxL init) (hi : q_iOk tab own init bytes e) (hop : e.1 = 23) (hy : q_yOk (tab (q_w e))) (hroom : d + 7 ≤ R.frames ∧ 100 * (d + 8) ≤ R.locals) {av rest : List qV} {P : qO → Prop} (hsnd : q_Snd l tab d (q_w e) env h av P)
    (hlen : av.length = (if q_mK (tab (q_w e)) = 0 then q_mA (tab (q_w e)) else q_mA (tab (q_w e)) + 1)) (hrcv : q_rcv (q_mK (tab (q_w e))) (q_mC (tab (q_w e))) h av = true) (h8 : (rest.map q_cat).sum ≤ 8) (hc1 : k + q_mc (tab (q_w e)) ≤ q_mc M) (hc2 : sl + q_ms (tab (q_w e)) ≤ q_ms M)
    (hn : ∀ o, P o → q_WW p l e0 R s m args below meth c Q D A ρ sb maxL (o.1, o.2.1, k + q_mc (tab (q_w e)), sl + q_ms (tab (q_w e)), q_pc e + 3, lv, o.2.2.toList ++ rest)) : q_WW p l e0 R s m args below meth c Q D A ρ sb maxL (env, h, k, sl, q_pc e, lv, av.reverse ++ rest) := by
  obtain ⟨hx, hb, hml, hown, hts, hsp, hA, hin, hscr, hmc, hms, hR1, hR2⟩ := C
  intro ws tys H locs ls st ⟨hE, hH, hP, hD, hK, hS, hL, hT⟩
  have hH : q_Hp ρ sb h ws tys := hH
  obtain ⟨vr, restc, rfl, hvr, hrest⟩ := q_Sk.split hT
  have hvals : q_Sk ρ sb ws av vr.reverse := by
    have := hvr.rev
    rwa [List.reverse_reverse] at this
  obtain ⟨vals, rfl⟩ : ∃ vals : List Value, vr = vals.reverse := ⟨vr.reverse, (List.reverse_reverse vr).symm⟩
  rw [List.reverse_reverse] at hvals
  clear hvr hT
  obtain ⟨hdec, -, hcl⟩ := hi
  obtain ⟨hv, hlink⟩ := hcl hop
  obtain ⟨cl, hl, hLs⟩ := hL
  generalize hM' : tab (q_w e) = M' at *
  have hHc : q_Hp ρ (sb.1, ws) h ws tys := ⟨hH.1, hH.2.1, hH.2.2.1, q_ext.rf⟩
  have hM := hsnd ρ sb.1 D ws tys H.size vals hE hHc (hvals.sb (sb := sb) (sb' := (sb.1, ws)) rfl)
  rw [hM'] at hM
  have hFc : ∀ q, va_A ws H.size q → A q := fun q hq => by
    rcases hq with ⟨j, e, hj⟩ | hq
    · exact hD.2 j (q, e) hj
    · exact hA q (Nat.le_trans hS.1 hq)
  have hbl : FrameBlind (va_Pc vals (q_B sb.1 D ws tys H.size)) := fun a U g mk ⟨q1, q2, q3, q4, q5, q6, q7⟩ => ⟨q1, q2, q3, va_K.moved (u := U) (U := U.calling g mk a) (Vm.Alike.refl U.vm) q4, q5, q_XW.same (s := U) rfl q6, q_TX.same (s := U) (U := U.calling g mk a) rfl q7⟩
  have hpr : ∀ U : State, U.heap = H → s.WarmedH U.vm → va_Pc vals (q_B sb.1 D ws tys H.size) vals.toArray U := fun U hU hW => ⟨rfl, by rw [hU], by rw [hU]; exact hP, va_K.moved hW.alike hK, hD.weaken (fun _ _ _ _ => trivial), q_XW.warm hW hsp, by rw [hU]; exact ((hin.2.kept hS.2.1).warm hW).narrow hFc⟩
  have kk : ∀ (o : qO) (v : Option Value) (ws' : va_W) (tys' : List (ClassId × FieldType)) (H1 : Heap) (locs1 : List Loc), P o → q_res ρ (sb.1, ws) ws' o.2.2 v → q_En ρ o.1 → q_Hp ρ (sb.1, ws) o.2.1 ws' tys' → va_P D vwCl ws' H1 → va_K D vwCl tys' s → va_D A ws' → va_S A s.heap H1 locs1 →
      W p l e0 R s m args below meth c H1 locs1 (k + q_mc M') (sl + q_ms M') Q (F0 m (q_pc e + 3) ls (v.toList ++ restc)) := fun o v ws' tys' H1 locs1 hp hres hE1 hH1 hP1 hK1 hD1 hS1 => by
    have hex : q_ext ws ws' := hH1.2.2.2
    refine hn o hp ws' tys' H1 locs1 ls (v.toList ++ restc) ⟨hE1, ⟨hH1.1, hH1.2.1, hH1.2.2.1, hH.2.2.2.tr hex⟩, hP1, hD1, hK1, hS1, ⟨cl, hl, hLs.mono hex⟩, ?_⟩
    obtain ⟨oe, oh, r⟩ := o
    cases r with
    | none => cases v with
      | none => exact hrest.mono hex
      | some v => exact (hres : False).elim
    | some r => cases v with
      | none => exact (hres : False).elim
      | some v => exact ⟨hres, hrest.mono hex⟩
  obtain ⟨y1, y2, y3, y4, y5, y6, y7, yS, yI, yV, yK⟩ := hy
  rcases y7 with y7 | ⟨mm, hnm, hcd, hI, hmL, hmT, hmK, hmA⟩
  rotate_left
  · have hl2 : av.length = q_maA mm := by rw [hlen, if_pos hmK, hmA]
    have h8c : (restc.map fun v => v.category).sum ≤ 8 := by rw [hrest.cats]; exact h8
    rw [q_ins_23 hop, hv, hmK] at hdec
    have hin0 := hts _ y2
    have hcd0 := hts _ y1
    have hst0 := hts _ (yS hmK)
    rw [hmL, hmT] at hcd0
    obtain ⟨w, o, r, hF, hPo, hor, hrv, hE1, hH1⟩ := hM.2 mm hI hl2
    have fin : W p l e0 R s m args below meth c H locs k sl Q (F0 m (q_pc e + 3) ls (w :: restc)) := by
      obtain ⟨oe, oh, orr⟩ := o
      have hor : orr = some r := hor
      subst hor
      refine W.widen (Nat.le_add_right k (q_mc M')) (Nat.le_add_right sl (q_ms M')) ?_
      exact hn _ hPo ws tys H locs ls (w :: restc) ⟨hE1, ⟨hH1.1, hH1.2.1, hH1.2.2.1, hH.2.2.2⟩, hP, hD, hK, hS, ⟨cl, hl, hLs⟩, (⟨hrv.sb rfl, hrest⟩ : q_Sk ρ sb ws (r :: rest) (_ :: restc))⟩
    rcases hlink with hlk | ⟨hpl, -⟩
    · have hlk0 := hts _ hlk
      rw [hnm] at hin0 hcd0 hst0 hlk0
      rw [hcd] at hcd0
      have hr1 : 1 ≤ R.frames := by have := hroom.1; omega
      have hr2 : 100 ≤ R.locals := q_r100 hroom.2
      clear hroom hR1 hR2
      rcases mm with _ | _ | _ | _ | _ | mm
      · obtain ⟨a, c', rfl, rfl⟩ := q_maF0 hF
        show W p l e0 R s m args below meth c H locs k sl Q (F0 m (q_pc e) ls (.int c' :: .int a :: restc))
        exact va_mmax (rest := restc) (x := a) (y := c') (cells := k) (slots := sl) hx hb (hml.trans hl.1.symm) hown hlk0 hst0 hin0 hcd0 (by omega) (by omega) (by omega) (by omega) hdec fin
      · obtain ⟨a, c', rfl, rfl⟩ := q_maF1 hF
        show W p l e0 R s m args below meth c H locs k sl Q (F0 m (q_pc e) ls (.int c' :: .int a :: restc))
        exact va_mmin (rest := restc) (x := a) (y := c') (cells := k) (slots := sl) hx hb (hml.trans hl.1.symm) hown hlk0 hst0 hin0 hcd0 (by omega) (by omega) (by omega) (by omega) hdec fin
      · obtain ⟨a, c', rfl, rfl⟩ := q_maF2 hF
        show W p l e0 R s m args below meth c H locs k sl Q (F0 m (q_pc e) ls (.long c' :: .long a :: restc))
        exact va_mmax_long (rest := restc) (x := a) (y := c') (cells := k) (slots := sl) hx hb (hml.trans hl.1.symm) hown hlk0 hst0 hin0 hcd0 (by omega) (by omega) (by omega) (by omega) hdec fin
      · obtain ⟨a, c', rfl, rfl⟩ := q_maF3 hF
        show W p l e0 R s m args below meth c H locs k sl Q (F0 m (q_pc e) ls (.long c' :: .long a :: restc))
        exact va_mmin_long (rest := restc) (x := a) (y := c') (cells := k) (slots := sl) hx hb (hml.trans hl.1.symm) hown hlk0 hst0 hin0 hcd0 (by omega) (by omega) (by omega) (by omega) hdec fin
      · obtain ⟨a, rfl, rfl⟩ := q_maF4 hF
        show W p l e0 R s m args below meth c H locs k sl Q (F0 m (q_pc e) ls (.long a :: restc))
        exact va_mabs_long (rest := restc) (x := a) (cells := k) (slots := sl) hx hb (hml.trans hl.1.symm) hown hlk0 hst0 hin0 hcd0 (by omega) (by omega) (by omega) (by omega) hdec fin
      · exact (hI : False).elim
    · exfalso
      have hcl : (q_maN mm).cls = "java/lang/Math" := by
        rcases mm with _ | _ | _ | _ | _ | mm <;> rfl
      rw [hnm, hcl] at hpl
      exact absurd hpl (by decide)
  replace hM := hM.1 y7
  have hlen2 := hvals.len
  have hr1 : (q_rm d M').frames = d + 6 := rfl
  have hr2 : (q_rm d M').locals = 100 * (d + 7) := rfl
  have hrm : (q_rm d M').frames + 1 ≤ R.frames ∧ 8 + (q_mL M' + 11) + (q_rm d M').locals ≤ R.locals := by
    rw [hr1, hr2]
    exact q_rmle hroom.1 hroom.2 y6
  have h8c : (restc.map fun v => v.category).sum ≤ 8 := by rw [hrest.cats]; exact h8
  have hf : k + q_mc M' ≤ R.cells ∧ sl + q_ms M' ≤ R.slots := ⟨Nat.le_trans hc1 hmc, Nat.le_trans hc2 hms⟩
  have hins := q_ins_23 hop
  rw [hins, hv] at hdec
  obtain hk0 | hk1 | hk2 : q_mK M' = 0 ∨ q_mK M' = 1 ∨ q_mK M' = 2 := by omega
  · rw [hk0] at hdec
    rw [if_pos hk0, hlen2] at hlen
    rcases hlink with hlk | ⟨-, host, hlk⟩
    · exact q_callW (va_runS (As := vals) (rest := restc) ⟨hx, hb, hml, hown, hts⟩ hM ⟨callB_of (q_mA M') hts (q_goodM y1) rfl rfl rfl (hts _ y2) (hts _ hlk) ⟨y3, y4, y5⟩ hrm, hts _ (yS hk0)⟩ ⟨hbl, hpr⟩ rfl hlen hl.1 rfl (lv_room h8c) hdec hf) hS hFc kk
    · exact q_callW (va_runSN (As := vals) (rest := restc) ⟨hx, hb, hml, hown, hts⟩ hM ⟨va_cnB (q_mA M') hts (q_goodM y1) rfl rfl rfl (hsp _ hlk) (hts _ y2) ⟨y3, y4, y5⟩ hrm, hts _ (yS hk0), trivial⟩ ⟨hbl, hpr⟩ rfl hlen hl.1 rfl (lv_room h8c) hdec hf) hS hFc kk
  · rw [hk1] at hdec hrcv
    rw [if_neg (by omega), hlen2] at hlen
    obtain ⟨z1, z2, z3⟩ := yI hk1
    cases av with
    | nil => cases hrcv
    | cons x av =>
      have hrcv : (Nat.beq x.1 6 && Nat.blt x.2 h.2) = true := hrcv
      rw [Bool.and_eq_true] at hrcv
      obtain ⟨xv, As, rfl, hxv, hAs⟩ := hvals.cons
      obtain ⟨a0, ex, hex0, rfl⟩ := hxv.c6 hrcv.1
      have hlen : As.length = q_mA M' := by rw [List.length_cons] at hlen; omega
      have hstk : (Value.ref a0 :: As).reverse ++ restc = As.reverse ++ .ref a0 :: restc := by rw [List.reverse_cons, List.append_assoc]; rfl
      have hw : q_words M' = Cond.code (q_mY M') (q_mB M') (q_mL M') none :: qWS := by
        show Cond.code _ _ _ (q_mT M') :: qWS = _
        rw [z3]
      rcases hlink with hlk | ⟨-, host, hlk⟩
      · exact q_callW (va_runI (b := a0) (As := As) (rest := restc) ⟨hx, hb, hml, hown, hts⟩ hM ⟨callB_of (q_mA M') hts (q_goodM y1) hw rfl rfl (hts _ y2) (hts _ hlk) ⟨y3, y4, y5⟩ hrm, z1, hts _ z2⟩ ⟨hbl, hpr⟩ rfl hlen hl.1 hstk (lv_room h8c) hdec hf) hS hFc kk
      · exact q_callW (va_runIN (b := a0) (As := As) (rest := restc) ⟨hx, hb, hml, hown, hts⟩ hM ⟨va_cnB (q_mA M') hts (q_goodM y1) hw rfl rfl (hsp _ hlk) (hts _ y2) ⟨y3, y4, y5⟩ hrm, z1, hts _ z2⟩ ⟨hbl, hpr⟩ rfl hlen hl.1 hstk (lv_room h8c) hdec hf) hS hFc kk
  · rw [hk2] at hdec hrcv
    rw [if_neg (by omega), hlen2] at hlen
    obtain ⟨z1, z2, r, hr, hrc⟩ := yV hk2
    cases av with
    | nil => cases hrcv
    | cons x av =>
      have hrcv : (Nat.beq x.1 6 && Nat.blt x.2 h.2 && Nat.beq (h.1.get x.2).1 (q_mC M')) = true := hrcv
      simp only [Bool.and_eq_true] at hrcv
      obtain ⟨xv, As, rfl, hxv, hAs⟩ := hvals.cons
      obtain ⟨a0, ex, hex0, rfl⟩ := hxv.c6 hrcv.1.1
      have hkd : (h.1.get x.2).1 = q_mC M' := Nat.eq_of_beq_eq_true hrcv.2
      have hv100 := q_vw hr
      obtain ⟨fs, rfl, -, -⟩ := (hH.2.2.1 _ _ _ hex0).obj (by rw [hkd]; exact hv100)
      rw [hkd] at hex0
      have hrv := va_recv hK hP hr hex0
      rw [hrc] at hrv
      have hlen : As.length = q_mA M' := by rw [List.length_cons] at hlen; omega
      have hstk : (Value.ref a0 :: As).reverse ++ restc = As.reverse ++ .ref a0 :: restc := by rw [List.reverse_cons, List.append_assoc]; rfl
      rcases hlink with hlk | ⟨-, host, hlk⟩
      · exact q_callW (va_runV (b := a0) (As := As) (rest := restc) (C := (q_mY M').cls) ⟨hx, hb, hml, hown, hts⟩ hM ⟨callB_of (q_mA M') hts (q_goodM y1) rfl rfl rfl (hts _ y2) (hts _ hlk) ⟨y3, y4, y5⟩ hrm, hts _ z1, hts _ z2⟩ ⟨hbl, hrv, hpr⟩ rfl hlen hl.1 hstk (lv_room h8c) hdec hf) hS hFc kk
      · exact q_callW (va_runVN (b := a0) (As := As) (rest := restc) (C := (q_mY M').cls) ⟨hx, hb, hml, hown, hts⟩ hM ⟨va_cnB (q_mA M') hts (q_goodM y1) rfl rfl rfl (hsp _ hlk) (hts _ y2) ⟨y3, y4, y5⟩ hrm, hts _ z1, hts _ z2⟩ ⟨hbl, hrv, hpr⟩ rfl hlen hl.1 hstk (lv_room h8c) hdec hf) hS hFc kk
theorem q_GF_ok (hT : q_tabOk tab) (hM : q_mOk tab init M) (C : q_Cx p R s m args meth c A ρ sb (q_mc M) (q_ms M) scr L (q_mY M).cls (q_mB M) (q_mL M) init) (hroom : d + 7 ≤ R.frames ∧ 100 * (d + 8) ≤ R.locals) {call : q_call} (hcall : ∀ id env h av P, call id env h av P → q_Snd l tab d id env h av P) {P : qO → Prop}
    (hret : ∀ (env : qE) (h : qH) (k sl pc : Nat) (lv : qL) (stk : List qV) (r : Option qV), q_pc ((q_mI M).get pc) = pc → ((q_mI M).get pc).1 = 24 → q_rvo (q_mT M) (q_v ((q_mI M).get pc)) stk = some r → k ≤ q_mc M → sl ≤ q_ms M → P (env, h, r) → q_WW p l e0 R s m args below meth c Q D A ρ sb (q_mL M) (env, h, k, sl, pc, lv, stk)) :
    ∀ (n : Nat) (fr : qF), q_GF tab call M scr L n fr P → q_WW p l e0 R s m args below meth c Q D A ρ sb (q_mL M) fr := by
  intro n
  induction n with
  | zero => intro fr h; exact (h : False).elim
  | succ n ih =>
    intro fr h
    obtain ⟨env, hh, k, sl, pc, lv, stk⟩ := fr
    rcases h with ⟨hpc, h1 | h2 | h3⟩ | ⟨I, hI, hG⟩
    · obtain ⟨hop, r, hr, c1, c2, hP⟩ := h1
      exact hret env hh k sl pc lv stk r hpc hop hr c1 c2 hP
    · obtain ⟨hop, av, rest, hstk, hlen, hrcv, h8, c1, c2, hc⟩ := h2
      have hstk : stk = av.reverse ++ rest := hstk
      subst hstk
      have hpc : q_pc ((q_mI M).get pc) = pc := hpc
      have := q_call_ok (lv := lv) C (hM pc) hop (hT.2 _).2 hroom (hcall _ _ _ _ _ hc) hlen hrcv h8 c1 c2 (fun o ho => by
        rw [hpc]
        exact ih _ ho)
      rw [hpc] at this
      exact this
    · obtain ⟨nx, hs, hn⟩ := h3
      have hpc : q_pc ((q_mI M).get pc) = pc := hpc
      have := q_step_ok (lv := lv) C (hM pc).2.1 (hM pc).1 hT.1 hs (fun f hf => ih f (hn f hf))
      rw [hpc] at this
      exact this
    · intro ws tys H locs ls st ⟨hE, hH, hP, hD, hK, hS, ⟨cl, hl, hLs⟩, hSt⟩
      obtain ⟨f, hf, e1, e2, e3, hE2, hH2, hL2, hS2⟩ := hI ρ sb ws tys cl st ⟨hE, hH, hLs, hSt⟩
      have := ih f (hG f hf) ws tys H locs ls st ⟨hE2, hH2, hP, hD, hK, hS, ⟨cl, hl, hL2⟩, hS2⟩
      rw [e1, e2, e3] at this
      exact this
end
theorem q_GM_ok {tab : Nat → qM} (hT : q_tabOk tab) (l : Launch) : ∀ (d id : Nat) (env : qE) (h : qH) (av : List qV) (P : qO → Prop), q_GM tab d id env h av P → q_Snd l tab d id env h av P := by
  intro d
  induction d with
  | zero => intro id env h av P hG; exact (hG : False).elim
  | succ d ih =>
    intro id env h av P hG
    obtain ⟨hsum, n, hG⟩ := hG
    intro ρ b D ws tys sz vals hE hH hSk
    obtain ⟨hMo, y1, y2, y3, y4, y5, y6, y7, yS, yI, yV, yK⟩ := hT.2 id
    generalize hM : tab id = M at *
    clear y7
    refine ⟨fun y7 => ?_, fun mm hI hl2 => ?_⟩
    rotate_left
    · exact q_ma_run hI (hSk.len.symm.trans hl2) hG ⟨hE, hH, q_args_ok 0 hSk, trivial⟩ rfl
    refine Met.ofW (cc := q_mB M) (maxL := q_mL M) (ret := q_mT M) y7 rfl ?_
    intro p e s m args below meth c s₁ B hml hv
    obtain ⟨rfl, hsz, hP, hK, hD0, hXW, hTX⟩ := hv
    have hx := B.exec
    have hb := B.bytes
    have hr := B.returns
    have hlocks := B.notSynchronized
    subst hsz
    have hD := hD0.self (sz := s.heap.size)
    have C : q_Cx p (headSpec (q_words M) (q_rm (d + 1) M)).room s m vals.toArray meth c (va_A ws s.heap.size) ρ (b, ws) (q_mc M) (q_ms M) false 0 (q_mY M).cls (q_mB M) (q_mL M) (Nat.beq (q_mK M) 1) :=
      ⟨hx, hb, hml, findClass_of_methodNamed B.named, fun w hw => atoms_spec (ws := q_words M) B.pre w (List.mem_cons_of_mem _ hw), hXW, fun q h => Or.inr h, ⟨fun hi => (name_of_methodNamed B.named B.method).1.trans (yI (Nat.eq_of_beq_eq_true hi)).1, hTX⟩, (fun h => Bool.noConfusion h), Nat.le_refl _, Nat.le_refl _, by show 6 ≤ d + 1 + 6; omega, by show 600 ≤ 100 * (d + 1 + 7); omega⟩
    have hl := lv_entry vals (n := q_mL M) (by rw [q_sl_len, hSk.cats]; exact hsum)
    have hgo := q_GF_ok (p := p) (l := l) (e0 := e) (R := (headSpec (q_words M) (q_rm (d + 1) M)).room) (below := below) (Q := MQ below (q_Q ρ b D ws s.heap.size P) vals.toArray s (q_mc M) (q_ms M) (va_A ws s.heap.size)) (D := D) (d := d) hT hMo C ⟨by show d + 7 ≤ d + 1 + 6; omega, by show 100 * (d + 8) ≤ 100 * (d + 1 + 7); omega⟩ ih (P := P) ?_ n _ hG
    · rw [lg_entry_eq]
      exact hgo ws tys s.heap [] _ [] ⟨hE, hH, hP, hD, hK, va_S.rf, ⟨_, hl, q_args_ok 0 hSk⟩, trivial⟩
    · intro env h k sl pc lv stk r hpc hop hrv hk hsl hPo ws' tys' H locs ls st ⟨hE', hH', hP', hD', hK', hS', hL', hT'⟩
      have hdec := (hMo pc).1
      rw [hpc] at hdec
      have hins := q_ins_24 hop
      rw [hins] at hdec
      refine W.widen hk hsl ?_
      have post : ∀ v : Option Value, q_res ρ (b, ws) ws' r v → ∀ t : State, t.heap = H → s.WarmedH t.vm → q_Q ρ b D ws s.heap.size P vals.toArray s (.returned v) t := fun v hres t ht hW =>
        ⟨⟨(env, h, r), v, ws', tys', rfl, hPo, hres, hE', hH', by rw [ht]; exact hP', va_K.moved hW.alike hK', hD'⟩, hS'.F ht⟩
      generalize q_v ((q_mI M).get pc) = v at hrv hdec
      generalize hTT : q_mT M = T at hrv
      have hr : meth.sig.returnType = T := hr.trans hTT
      rcases stk with _ | ⟨x, _ | ⟨x2, stk⟩⟩
      · have hst := hT'.nil
        subst hst
        cases T with
        | none =>
          obtain ⟨h1, h2⟩ := q_bt hrv
          have h1 := Nat.eq_of_beq_eq_true h1
          subst h1
          cases h2
          exact W.vret hx hb hr (post none trivial) hS'.2.2 hdec
        | some T => cases hrv
      · obtain ⟨xv, st, rfl, hxv, hnil⟩ := hT'.cons
        have hst := hnil.nil
        subst hst
        cases T with
        | none => cases hrv
        | some T =>
          cases T
          case int =>
            obtain ⟨h1, h2⟩ := q_bt hrv
            rw [Bool.and_eq_true] at h1
            have h3 := Nat.eq_of_beq_eq_true h1.1
            subst h3
            cases h2
            obtain ⟨xc, rfl⟩ := hxv.int (Nat.eq_of_beq_eq_true h1.2)
            exact W.iret hx hb hr (post (some (.int xc)) hxv) hS'.2.2 hdec
          case boolean =>
            obtain ⟨h1, h2⟩ := q_bt hrv
            rw [Bool.and_eq_true] at h1
            have h3 := Nat.eq_of_beq_eq_true h1.1
            subst h3
            cases h2
            obtain ⟨g1, g2⟩ := q_fit_ok (code := 1) (ty := .boolean) rfl h1.2 hxv
            rw [Bool.and_eq_true] at h1
            have ex := hxv.c0 h1.2.1
            subst ex
            exact W.zret hx hb hr g1 (post (some _) hxv) hS'.2.2 hdec
          case long =>
            obtain ⟨h1, h2⟩ := q_bt hrv
            rw [Bool.and_eq_true] at h1
            have h3 := Nat.eq_of_beq_eq_true h1.1
            subst h3
            cases h2
            obtain ⟨xc, rfl⟩ := hxv.long (Nat.eq_of_beq_eq_true h1.2)
            exact W.lret hx hb hr (post (some (.long xc)) hxv) hS'.2.2 hdec
          case object nm =>
            obtain ⟨h1, h2⟩ := q_bt hrv
            rw [Bool.and_eq_true] at h1
            have h3 := Nat.eq_of_beq_eq_true h1.1
            subst h3
            cases h2
            refine W.aret hx hb hr (Or.inl ⟨nm, rfl⟩) ?_ (post (some xv) hxv) hS'.2.2 hdec
            rcases hxv.rf (Nat.eq_of_beq_eq_true h1.2) with ⟨-, rfl⟩ | ⟨-, a, rfl⟩
            · exact Or.inl rfl
            · exact Or.inr ⟨a, rfl⟩
          case array ty =>
            obtain ⟨h1, h2⟩ := q_bt hrv
            rw [Bool.and_eq_true] at h1
            have h3 := Nat.eq_of_beq_eq_true h1.1
            subst h3
            cases h2
            refine W.aret hx hb hr (Or.inr ⟨ty, rfl⟩) ?_ (post (some xv) hxv) hS'.2.2 hdec
            rcases hxv.rf (Nat.eq_of_beq_eq_true h1.2) with ⟨-, rfl⟩ | ⟨-, a, rfl⟩
            · exact Or.inl rfl
            · exact Or.inr ⟨a, rfl⟩
          all_goals cases hrv
      · cases hrv
