-- 43.sound: stores, makings, Object's constructor, arraycopy
section
variable {p : Program} {l : Launch} {e0 : Env} {R : Room} {s : State} {m : MethodId} {args : Array Value} {below : List Frame} {meth : Method} {c : Code} {Q : State → Prop}
variable {D : va_G} {A : Nat → Prop} {ρ : Nat → Int32} {sb : (Nat → Nat) × va_W} {mc ms : Nat} {scr : Bool} {L : Nat} {own : String} {bytes : ByteArray} {maxL : Nat} {init : Bool}
variable {e : qN} {env : qE} {h : qH} {k sl : Nat} {lv : qL} {stk : List qV} {nx : List qF}
variable {H : Heap} {locs : List Loc} {pc : Nat} {ls : Array Slot} {rest : List Value} {ws : va_W} {tys : List (ClassId × FieldType)}
/-- a cell's contents with one place new -/
theorem q_up {α : Type} {mk : α → Value} {t : Lean.RArray qV} {n j : Nat} {x : qV} {v : α} {f g : Nat → α} (hj : j < n) (hx : q_RV ρ sb ws x (mk v)) (hf : ∀ i, i < n → q_RV ρ sb ws (t.get i) (mk (f i))) (hg1 : g j = v) (hg2 : ∀ i, i ≠ j → g i = f i) : ∀ i, i < n → q_RV ρ sb ws ((q_ts x j t 0 n).get i) (mk (g i)) := by
  intro i hi
  rw [q_ts_get x j t 0 n i (Nat.zero_le _) hj (Nat.zero_le _) hi]
  by_cases hij : i = j
  · subst hij
    rw [if_pos rfl, hg1]
    exact hx
  · rw [if_neg hij, hg2 i hij]
    exact hf i hi
theorem q_kep_ok {v kind : Nat} {x z : qV} {xv : Value} (hk : q_kep v kind x = some z) (hx : q_RV ρ sb ws x xv) :
    (v = 0 ∧ kind = 100 ∧ ∃ a, xv = .int a ∧ q_RV ρ sb ws z (.int a)) ∨ (v = 1 ∧ kind = 101 ∧ ∃ a, xv = .int a ∧ q_RV ρ sb ws z (.int (vp_nar .byte a))) ∨ (v = 1 ∧ kind = 102 ∧ ∃ a, xv = .int a ∧ q_RV ρ sb ws z (.int (vp_nar .boolean a))) ∨ (v = 2 ∧ kind = 103 ∧ ∃ a, xv = .long a ∧ q_RV ρ sb ws z (.long a)) := by
  rcases v with _ | _ | _ | v
  · have hk : (bif Nat.beq kind 100 && Nat.beq (q_knd x) 0 then some x else none) = some z := hk
    obtain ⟨h1, h2⟩ := q_bt hk
    rw [Bool.and_eq_true] at h1
    cases h2
    obtain ⟨a, rfl⟩ := hx.int (Nat.eq_of_beq_eq_true h1.2)
    exact Or.inl ⟨rfl, Nat.eq_of_beq_eq_true h1.1, a, rfl, hx⟩
  · have hk : (bif Nat.beq kind 101 && Nat.beq (q_knd x) 0 then some (bif Nat.beq x.1 0 then (0, qNn (vp_nar .byte (qI x.2))) else (2, 0)) else bif Nat.beq kind 102 && Nat.beq (q_knd x) 0 then some (bif Nat.beq x.1 0 then (0, qNn (vp_nar .boolean (qI x.2))) else (2, 0)) else none) = some z := hk
    rcases q_bf hk with ⟨h1, h2⟩ | ⟨-, hk⟩
    · rw [Bool.and_eq_true] at h1
      cases h2
      obtain ⟨a, rfl⟩ := hx.int (Nat.eq_of_beq_eq_true h1.2)
      refine Or.inr (Or.inl ⟨rfl, Nat.eq_of_beq_eq_true h1.1, a, rfl, ?_⟩)
      cases h0 : Nat.beq x.1 0 with
      | true =>
        have := Value.int.inj (hx.c0 h0)
        show Value.int _ = .int (qI (qNn _))
        rw [qI_N, this]
      | false => exact ⟨_, rfl⟩
    · obtain ⟨h1, h2⟩ := q_bt hk
      rw [Bool.and_eq_true] at h1
      cases h2
      obtain ⟨a, rfl⟩ := hx.int (Nat.eq_of_beq_eq_true h1.2)
      refine Or.inr (Or.inr (Or.inl ⟨rfl, Nat.eq_of_beq_eq_true h1.1, a, rfl, ?_⟩))
      cases h0 : Nat.beq x.1 0 with
      | true =>
        have := Value.int.inj (hx.c0 h0)
        show Value.int _ = .int (qI (qNn _))
        rw [qI_N, this]
      | false => exact ⟨_, rfl⟩
  · have hk : (bif Nat.beq kind 103 && Nat.beq (q_knd x) 1 then some x else none) = some z := hk
    obtain ⟨h1, h2⟩ := q_bt hk
    rw [Bool.and_eq_true] at h1
    cases h2
    obtain ⟨a, rfl⟩ := hx.long (Nat.eq_of_beq_eq_true h1.2)
    exact Or.inr (Or.inr (Or.inr ⟨rfl, Nat.eq_of_beq_eq_true h1.1, a, rfl, hx⟩))
  · cases hk
theorem q_ok21 (C : q_Cx p R s m args meth c A ρ sb mc ms scr L own bytes maxL init) (hok : q_ok own init e) (hdec : decode bytes (q_pc e) = .ok (q_ins e)) (hop : e.1 = 21) (hs : q_s21 e env h k sl lv stk = some nx) (hn : ∀ fr ∈ nx, q_WW p l e0 R s m args below meth c Q D A ρ sb maxL fr) : q_WW p l e0 R s m args below meth c Q D A ρ sb maxL (env, h, k, sl, q_pc e, lv, stk) := by
  obtain ⟨op, pc, v, a, b, w, t⟩ := e
  subst hop
  obtain ⟨hx, hb, hml, hown, hts, hsp, hA, hin, hscr, hmc, hms, hR1, hR2⟩ := C
  unfold q_s21 at hs
  rcases stk with _ | ⟨z, _ | ⟨y, _ | ⟨x, stk⟩⟩⟩
  · cases hs
  · cases hs
  · cases hs
  · intro ws tys H locs ls st ⟨hE, hH, hP, hD, hK, hS, hL, hT⟩
    have hH : q_Hp ρ sb h ws tys := hH
    obtain ⟨zv, st, rfl, hzv, hT9⟩ := hT.cons
    clear hT
    have hT := hT9
    clear hT9
    obtain ⟨yv, st, rfl, hyv, hT9⟩ := hT.cons
    clear hT
    have hT := hT9
    clear hT9
    obtain ⟨xv, st, rfl, hxv, hT9⟩ := hT.cons
    clear hT
    have hT := hT9
    clear hT9
    rcases q_bf hs with ⟨hy0, hs⟩ | ⟨hy0, hs⟩
    · have ey := hyv.c0 hy0
      subst ey
      obtain ⟨hk, hs⟩ := q_bt hs
      simp only [Bool.and_eq_true, q_blt, decide_eq_true_eq] at hk
      obtain ⟨⟨⟨h6, hlt⟩, hyl⟩, hy31⟩ := hk
      obtain ⟨a0, e1, he, rfl⟩ := hxv.c6 h6
      have hc := hH.2.2.1 _ _ _ he
      have hin1 := q_in hyl hy31
      have hcl := q_cl hy31
      obtain ⟨cl, hl, hLs⟩ := hL
      rcases q_bf hs with ⟨hv3, hs⟩ | ⟨hv3, hs⟩
      · obtain ⟨hk, hs⟩ := q_bt hs
        have hg := q_gh_in hs hn
        simp only [Bool.and_eq_true, q_blt, q_ble, decide_eq_true_eq] at hk
        obtain ⟨⟨⟨⟨k1, k2⟩, k3⟩, k4⟩, k5⟩ := hk
        have k5 : 200 + (h.1.get z.2).1 = (h.1.get x.2).1 := Nat.eq_of_beq_eq_true k5
        obtain ⟨z0, ez, hez, rfl⟩ := hzv.c6 k3
        obtain ⟨vs, rfl, -, -⟩ := (hH.2.2.1 _ _ _ hez).obj (by omega)
        obtain ⟨ty, hr, cA, f, t0, rfl, ht, hf⟩ := hc.ra k1
        rcases hr with ⟨ci, r, hr1, -, hr2, rfl⟩ | ⟨hr1, -⟩
        · have hci : (h.1.get z.2).1 = ci := by omega
          rw [hci] at hez
          obtain ⟨v3, rfl⟩ : ∃ u, v = u + 3 := ⟨v - 3, by have := Nat.le_of_ble_eq_true hv3; have : 3 ≤ v := this; omega⟩
          refine va_astq hx hb hK hP hD hS x.2 t0 z.2 ci he ht hez hr2 hin1 hdec fun H1 locs1 hP1 hD1 hS1 => ?_
          have hex : q_ext ws (ws.set x.2 (a0, .inl (cA, (h.1.get x.2).2.1, .inr (.inr (.inr (.inr (va_up f (qI y.2).toNatClampNeg (some z0)))))))) := q_ext.set he
          refine hg _ tys H1 locs1 ls st ⟨hE, hH.put he (Or.inr (Or.inr (Or.inr ⟨.object r.1, Or.inl ⟨ci, r, hr1, by show (h.1.get x.2).1 < 300; omega, hr2, rfl⟩, cA, _, t0, rfl, ht, ?_⟩))), hP1, hD1, hK, hS1, ⟨cl, hl, hLs.mono hex⟩, hT.mono hex⟩
          refine q_up (mk := va_rf) hyl (v := some z0) hzv hf ?_ ?_
          · show va_up f (qI y.2).toNatClampNeg (some z0) y.2 = _
            rw [hcl]
            exact va_up_self _ _ _
          · intro i hi
            show va_up f (qI y.2).toNatClampNeg (some z0) i = _
            rw [hcl]
            exact va_up_ne _ _ hi
        · omega
      · cases hkp : q_kep v (h.1.get x.2).1 z with
        | none =>
          have hs : (match q_kep v (h.1.get x.2).1 z with
            | none => none
            | some z' => q_fc z'.2 fun n => q_gh env (q_put h x.2 y.2 (z'.1, n)) k sl (pc + 1) lv stk) = some nx := hs
          rw [hkp] at hs
          cases hs
        | some z' =>
          have hs : (match q_kep v (h.1.get x.2).1 z with
            | none => none
            | some z' => q_fc z'.2 fun n => q_gh env (q_put h x.2 y.2 (z'.1, n)) k sl (pc + 1) lv stk) = some nx := hs
          rw [hkp] at hs
          have hs : (q_fc z'.2 fun n => q_gh env (q_put h x.2 y.2 (z'.1, n)) k sl (pc + 1) lv stk) = some nx := hs
          rw [q_fc_eq] at hs
          have hg := q_gh_in hs hn
          rcases q_kep_ok hkp hzv with ⟨rfl, hkd, za, rfl, hz⟩ | ⟨rfl, hkd, za, rfl, hz⟩ | ⟨rfl, hkd, za, rfl, hz⟩ | ⟨rfl, hkd, za, rfl, hz⟩
          · obtain ⟨cA, f, t0, rfl, ht, hf⟩ := hc.ia (ty := .int) (by rw [hkd]; rfl)
            refine va_iast hx hb hK hP hD hS x.2 t0 he ht hin1 hdec fun H1 locs1 hP1 hD1 hS1 => ?_
            have hex : q_ext ws (ws.set x.2 (a0, .inl (cA, (h.1.get x.2).2.1, .inl (upd f (qI y.2).toNatClampNeg za)))) := q_ext.set he
            refine hg _ tys H1 locs1 ls st ⟨hE, hH.put he (Or.inr (Or.inl ⟨.int, by show q_aT (h.1.get x.2).1 = _; rw [hkd]; rfl, cA, _, t0, rfl, ht, ?_⟩)), hP1, hD1, hK, hS1, ⟨cl, hl, hLs.mono hex⟩, hT.mono hex⟩
            exact q_up (mk := Value.int) hyl hz hf (by simp [upd, hcl]) (fun i hi => by simp [upd, hcl, hi])
          · obtain ⟨cA, f, t0, rfl, ht, hf⟩ := hc.ia (ty := .byte) (by rw [hkd]; rfl)
            refine va_bast hx hb hK hP hD hS x.2 t0 he ht hin1 hdec fun H1 locs1 hP1 hD1 hS1 => ?_
            have hex : q_ext ws (ws.set x.2 (a0, .inl (cA, (h.1.get x.2).2.1, .inl (upd f (qI y.2).toNatClampNeg (vp_nar .byte za))))) := q_ext.set he
            refine hg _ tys H1 locs1 ls st ⟨hE, hH.put he (Or.inr (Or.inl ⟨.byte, by show q_aT (h.1.get x.2).1 = _; rw [hkd]; rfl, cA, _, t0, rfl, ht, ?_⟩)), hP1, hD1, hK, hS1, ⟨cl, hl, hLs.mono hex⟩, hT.mono hex⟩
            exact q_up (mk := Value.int) hyl hz hf (by simp [upd, hcl]) (fun i hi => by simp [upd, hcl, hi])
          · obtain ⟨cA, f, t0, rfl, ht, hf⟩ := hc.ia (ty := .boolean) (by rw [hkd]; rfl)
            refine va_zast hx hb hK hP hD hS x.2 t0 he ht hin1 hdec fun H1 locs1 hP1 hD1 hS1 => ?_
            have hex : q_ext ws (ws.set x.2 (a0, .inl (cA, (h.1.get x.2).2.1, .inl (upd f (qI y.2).toNatClampNeg (vp_nar .boolean za))))) := q_ext.set he
            refine hg _ tys H1 locs1 ls st ⟨hE, hH.put he (Or.inr (Or.inl ⟨.boolean, by show q_aT (h.1.get x.2).1 = _; rw [hkd]; rfl, cA, _, t0, rfl, ht, ?_⟩)), hP1, hD1, hK, hS1, ⟨cl, hl, hLs.mono hex⟩, hT.mono hex⟩
            exact q_up (mk := Value.int) hyl hz hf (by simp [upd, hcl]) (fun i hi => by simp [upd, hcl, hi])
          · obtain ⟨cA, f, t0, rfl, ht, hf⟩ := hc.la hkd
            refine va_last hx hb hK hP hD hS x.2 t0 he ht hin1 hdec fun H1 locs1 hP1 hD1 hS1 => ?_
            have hex : q_ext ws (ws.set x.2 (a0, .inl (cA, (h.1.get x.2).2.1, .inr (.inl (vp_updL f (qI y.2).toNatClampNeg za))))) := q_ext.set he
            refine hg _ tys H1 locs1 ls st ⟨hE, hH.put he (Or.inr (Or.inr (Or.inl ⟨hkd, cA, _, t0, rfl, ht, ?_⟩))), hP1, hD1, hK, hS1, ⟨cl, hl, hLs.mono hex⟩, hT.mono hex⟩
            exact q_up (mk := Value.long) hyl hz hf (by simp [vp_updL, hcl]) (fun i hi => by simp [vp_updL, hcl, hi])
    · obtain ⟨h1, hs⟩ := q_bt hs
      have hg := q_spl_in hs hn
      obtain ⟨q, hq, hE2, hq2⟩ := q_spl_ok hE hyv h1
      exact hg q hq ws tys H locs ls _ ⟨hE2, hH, hP, hD, hK, hS, hL, hzv, hq2, hxv, hT⟩
theorem q_last {x : Nat × va_E} {n : Nat} (h : ws.length = n) : (ws ++ [x])[n]? = some x := by subst h; simp
theorem q_lastT {x : ClassId × FieldType} : (tys ++ [x])[tys.length]? = some x := by simp
theorem q_mk_in {cc : qC} {n pc : Nat} {P : qF → Prop} (hs : q_mk mc ms cc n env h k sl pc lv stk = some nx) (hn : ∀ fr ∈ nx, P fr) : h.2 < 1024 ∧ k + 1 ≤ mc ∧ sl + n ≤ ms ∧ P (env, (q_ts cc h.2 h.1 0 1024, h.2 + 1), k + 1, sl + n, pc, lv, (6, h.2) :: stk) := by
  unfold q_mk at hs
  obtain ⟨hk, hs⟩ := q_bt hs
  simp only [Bool.and_eq_true, q_blt, q_ble, decide_eq_true_eq] at hk
  rw [q_fc_eq, q_fc_eq, q_fc_eq] at hs
  exact ⟨hk.1.1, hk.1.2, hk.2, q_gh_in hs hn⟩
theorem q_ok16 (C : q_Cx p R s m args meth c A ρ sb mc ms scr L own bytes maxL init) (hok : q_ok own init e) (hdec : decode bytes (q_pc e) = .ok (q_ins e)) (hop : e.1 = 16) (hs : q_s16 mc ms e env h k sl lv stk = some nx) (hn : ∀ fr ∈ nx, q_WW p l e0 R s m args below meth c Q D A ρ sb maxL fr) : q_WW p l e0 R s m args below meth c Q D A ρ sb maxL (env, h, k, sl, q_pc e, lv, stk) := by
  obtain ⟨op, pc, v, a, b, w, t⟩ := e
  subst hop
  obtain ⟨hx, hb, hml, hown, hts, hsp, hA, hin, hscr, hmc, hms, hR1, hR2⟩ := C
  unfold q_s16 at hs
  rcases stk with _ | ⟨x, stk⟩
  · cases hs
  · intro ws tys H locs ls st ⟨hE, hH, hP, hD, hK, hS, hL, hT⟩
    have hH : q_Hp ρ sb h ws tys := hH
    obtain ⟨xv, st, rfl, hxv, hT9⟩ := hT.cons
    clear hT
    have hT := hT9
    clear hT9
    obtain ⟨hk, hs⟩ := q_bt hs
    rw [Bool.and_eq_true, q_blt] at hk
    have ex := hxv.c0 hk.1
    subst ex
    have hlt := of_decide_eq_true hk.2
    have h31 : x.2 < 2147483648 := by omega
    obtain ⟨m1, m2, m3, hg⟩ := q_mk_in hs hn
    obtain ⟨hw, hv3⟩ := hok
    have hv3 : v ≤ 3 := hv3
    obtain ⟨cl, hl, hLs⟩ := hL
    have hneg : ¬ qI x.2 < 0 := nI_pos (n := x.2) h31
    have hcl := q_cl h31
    have c1 : k + 1 ≤ R.cells := Nat.le_trans m2 hmc
    have c2 : sl + x.2 ≤ R.slots := Nat.le_trans m3 hms
    obtain rfl | rfl | rfl | rfl : v = 0 ∨ v = 1 ∨ v = 2 ∨ v = 3 := by omega
    · refine va_newa (atype := .int) (ty := .int) hx hb (hts _ hw) rfl hK hP hD hS hA (a0 := (x.2, .inl fun _ => 0)) (fun cA => rfl) hneg hcl (by show x.2 * 4 ≤ _; omega) c1 c2 hdec fun q cA H1 hK1 hP1 hD1 hS1 => ?_
      have hex : q_ext ws (ws ++ [(q, .inl (cA, x.2, .inl fun _ => 0))]) := q_ext.app
      exact hg _ _ H1 locs ls _ ⟨hE, hH.push m1 (Or.inr (Or.inl ⟨.int, rfl, cA, _, tys.length, rfl, q_lastT, fun j _ => rfl⟩)), hP1, hD1, hK1, hS1, ⟨cl, hl, hLs.mono hex⟩, ⟨q, _, q_last hH.1, rfl⟩, hT.mono hex⟩
    · refine va_newa (atype := .byte) (ty := .byte) hx hb (hts _ hw) rfl hK hP hD hS hA (a0 := (x.2, .inl fun _ => 0)) (fun cA => rfl) hneg hcl (by show x.2 * 1 ≤ _; omega) c1 c2 hdec fun q cA H1 hK1 hP1 hD1 hS1 => ?_
      have hex : q_ext ws (ws ++ [(q, .inl (cA, x.2, .inl fun _ => 0))]) := q_ext.app
      exact hg _ _ H1 locs ls _ ⟨hE, hH.push m1 (Or.inr (Or.inl ⟨.byte, rfl, cA, _, tys.length, rfl, q_lastT, fun j _ => rfl⟩)), hP1, hD1, hK1, hS1, ⟨cl, hl, hLs.mono hex⟩, ⟨q, _, q_last hH.1, rfl⟩, hT.mono hex⟩
    · refine va_newa (atype := .boolean) (ty := .boolean) hx hb (hts _ hw) rfl hK hP hD hS hA (a0 := (x.2, .inl fun _ => 0)) (fun cA => rfl) hneg hcl (by show x.2 * 1 ≤ _; omega) c1 c2 hdec fun q cA H1 hK1 hP1 hD1 hS1 => ?_
      have hex : q_ext ws (ws ++ [(q, .inl (cA, x.2, .inl fun _ => 0))]) := q_ext.app
      exact hg _ _ H1 locs ls _ ⟨hE, hH.push m1 (Or.inr (Or.inl ⟨.boolean, rfl, cA, _, tys.length, rfl, q_lastT, fun j _ => rfl⟩)), hP1, hD1, hK1, hS1, ⟨cl, hl, hLs.mono hex⟩, ⟨q, _, q_last hH.1, rfl⟩, hT.mono hex⟩
    · refine va_newa (atype := .long) (ty := .long) hx hb (hts _ hw) rfl hK hP hD hS hA (a0 := (x.2, .inr (.inl fun _ => 0))) (fun cA => rfl) hneg hcl (by show x.2 * 8 ≤ _; omega) c1 c2 hdec fun q cA H1 hK1 hP1 hD1 hS1 => ?_
      have hex : q_ext ws (ws ++ [(q, .inl (cA, x.2, .inr (.inl fun _ => 0)))]) := q_ext.app
      exact hg _ _ H1 locs ls _ ⟨hE, hH.push m1 (Or.inr (Or.inr (Or.inl ⟨rfl, cA, _, tys.length, rfl, q_lastT, fun j _ => rfl⟩))), hP1, hD1, hK1, hS1, ⟨cl, hl, hLs.mono hex⟩, ⟨q, _, q_last hH.1, rfl⟩, hT.mono hex⟩
theorem q_ok17 (C : q_Cx p R s m args meth c A ρ sb mc ms scr L own bytes maxL init) (hok : q_ok own init e) (hdec : decode bytes (q_pc e) = .ok (q_ins e)) (hop : e.1 = 17) (hs : q_s17 mc ms e env h k sl lv stk = some nx) (hn : ∀ fr ∈ nx, q_WW p l e0 R s m args below meth c Q D A ρ sb maxL fr) : q_WW p l e0 R s m args below meth c Q D A ρ sb maxL (env, h, k, sl, q_pc e, lv, stk) := by
  obtain ⟨op, pc, v, a, b, w, t⟩ := e
  subst hop
  obtain ⟨hx, hb, hml, hown, hts, hsp, hA, hin, hscr, hmc, hms, hR1, hR2⟩ := C
  unfold q_s17 at hs
  rcases stk with _ | ⟨x, stk⟩
  · cases hs
  · intro ws tys H locs ls st ⟨hE, hH, hP, hD, hK, hS, hL, hT⟩
    have hH : q_Hp ρ sb h ws tys := hH
    obtain ⟨xv, st, rfl, hxv, hT9⟩ := hT.cons
    clear hT
    have hT := hT9
    clear hT9
    obtain ⟨hk, hs⟩ := q_bt hs
    rw [Bool.and_eq_true, q_blt] at hk
    have ex := hxv.c0 hk.1
    subst ex
    have hlt := of_decide_eq_true hk.2
    have h31 : x.2 < 2147483648 := by omega
    obtain ⟨m1, m2, m3, hg⟩ := q_mk_in hs hn
    obtain ⟨r, hr, -, hv, hw1, hw2⟩ := hok
    have hv : v < 100 := hv
    obtain ⟨cl, hl, hLs⟩ := hL
    refine va_newq hx hb hown (hts _ hw1) (va_AO.of (hsp _ hw2)) hK hP hD hS hA (nI_pos (n := x.2) h31) (q_cl h31) (by omega) (Nat.le_trans m2 hmc) (Nat.le_trans m3 hms) hdec fun q cA H1 hK1 hP1 hD1 hS1 => ?_
    have hex : q_ext ws (ws ++ [(q, .inl (cA, x.2, .inr (.inr (.inr (.inr fun _ => none)))))]) := q_ext.app
    exact hg _ _ H1 locs ls _ ⟨hE, hH.push m1 (Or.inr (Or.inr (Or.inr ⟨.object r.1, Or.inl ⟨v, r, rfl, by show 200 + v < 300; omega, hr, rfl⟩, cA, fun _ => none, tys.length, rfl, q_lastT, fun j _ => rfl⟩))), hP1, hD1, hK1, hS1, ⟨cl, hl, hLs.mono hex⟩, ⟨q, _, q_last hH.1, rfl⟩, hT.mono hex⟩
/-- a new object's fields -/
def q_dvV (ty : Nat) : Value := match ty with
  | 0 => .int 0
  | 1 => .int 0
  | 2 => .long 0
  | _ => .null
theorem q_dv_ok (ty : Nat) : q_RV ρ sb ws (q_dv ty) (q_dvV ty) := by
  rcases ty with _ | _ | _ | ty <;> rfl
noncomputable def q_dtr (n : Nat) (l : List Nat) (i : Nat) : Lean.RArray qV := List.rec (motive := fun _ => Nat → Lean.RArray qV) (fun _ => .leaf (7, 0)) (fun ty _ ih i => q_ts (q_dv ty) i (ih (i + 1)) 0 n) l i
theorem q_dtr_get (n : Nat) : ∀ (l : List Nat) (i j : Nat), i + l.length ≤ n → i ≤ j → j < i + l.length → (q_dtr n l i).get j = q_dv (l.getD (j - i) 9)
  | [], i, j, _, h1, h2 => by rw [List.length_nil] at h2; omega
  | ty :: l, i, j, h0, h1, h2 => by
    rw [List.length_cons] at h0 h2
    show (q_ts (q_dv ty) i (q_dtr n l (i + 1)) 0 n).get j = _
    rw [q_ts_get _ i _ 0 n j (Nat.zero_le _) (by omega) (Nat.zero_le _) (by omega)]
    by_cases hj : j = i
    · rw [if_pos hj, hj, Nat.sub_self]
      rfl
    · rw [if_neg hj, q_dtr_get n l (i + 1) j (by omega) (by omega) (by omega)]
      have e : j - i = (j - (i + 1)) + 1 := by omega
      rw [e]
      rfl
theorem q_dvT {code : Nat} {ty : FieldType} (h : q_tyOk code ty) : defaultValue ty = q_dvV code := by
  rcases code with _ | _ | _ | _ | cd
  · have h : ty = .int := h
    subst h; rfl
  · have h : ty = .boolean := h
    subst h; rfl
  · have h : ty = .long := h
    subst h; rfl
  · rcases (h : (∃ n, ty = .object n) ∨ ∃ t, ty = .array t) with ⟨n, rfl⟩ | ⟨t, rfl⟩ <;> rfl
  · exact (h : False).elim
theorem q_ok22 (C : q_Cx p R s m args meth c A ρ sb mc ms scr L own bytes maxL init) (hok : q_ok own init e) (hdec : decode bytes (q_pc e) = .ok (q_ins e)) (hcl : q_clsAll) (hop : e.1 = 22) (hs : q_s22 mc ms e env h k sl lv stk = some nx) (hn : ∀ fr ∈ nx, q_WW p l e0 R s m args below meth c Q D A ρ sb maxL fr) : q_WW p l e0 R s m args below meth c Q D A ρ sb maxL (env, h, k, sl, q_pc e, lv, stk) := by
  obtain ⟨op, pc, v, a, b, w, t⟩ := e
  subst hop
  obtain ⟨hx, hb, hml, hown, hts, hsp, hA, hin, hscr, hmc, hms, hR1, hR2⟩ := C
  unfold q_s22 at hs
  intro ws tys H locs ls st ⟨hE, hH, hP, hD, hK, hS, hL, hT⟩
  have hH : q_Hp ρ sb h ws tys := hH
  obtain ⟨m1, m2, m3, hg⟩ := q_mk_in hs hn
  obtain ⟨r, hr, hv, hlen, hw1, hw2, hw3, hty⟩ := hok
  have hv : v < 100 := hv
  have hlen : r.2.2 = t.length := hlen
  have hty : ∀ j, j < r.2.2 → ∃ ty, parseFieldDescriptor (r.2.1 j).2.2.1 = some ty ∧ q_tyOk (t.getD j 9) ty := hty
  obtain ⟨ty, hty⟩ : ∃ ty : Nat → FieldType, ∀ j, j < r.2.2 → parseFieldDescriptor (r.2.1 j).2.2.1 = some (ty j) ∧ q_tyOk (t.getD j 9) (ty j) := by
    refine ⟨fun j => if hj : j < r.2.2 then Classical.choose (hty j hj) else .int, fun j hj => ?_⟩
    simp only [hj, dif_pos]
    exact Classical.choose_spec (hty j hj)
  obtain ⟨cl, hl, hLs⟩ := hL
  have hfv : ∀ (j : Nat) (x : Value), (t.map q_dvV)[j]? = some x → j < t.length ∧ x = q_dvV (t.getD j 9) := fun j x hj => by
    rw [List.getElem?_map] at hj
    by_cases hl : j < t.length
    · rw [List.getElem?_eq_getElem hl] at hj
      cases hj
      exact ⟨hl, by rw [List.getD_eq_getElem?_getD, List.getElem?_eq_getElem hl]; rfl⟩
    · rw [List.getElem?_eq_none (by omega)] at hj
      cases hj
  have m3 : sl + t.length ≤ ms := m3
  refine va_new (C := r.1) (T := r.2.1) (N := r.2.2) (ci := v) (index := a) (Ts := qWS) (fs := t.map q_dvV) hx hb hts (hcl _ _ hr).1 ty (fun j hj => (hty j hj).1) hown (hts _ hw1) (hts _ hw2) (hts _ hw3) hK hP hD hS hA hr ?_ (Nat.le_trans m2 hmc) (by rw [hlen]; exact Nat.le_trans m3 hms) hdec fun q H1 hP1 hD1 hS1 => ?_
  · intro j hj
    rw [q_dvT (hty j hj).2]
    have hj2 : j < t.length := by rw [← hlen]; exact hj
    show _ = (t.map q_dvV).getD j .null
    rw [List.getD_eq_getElem?_getD, List.getD_eq_getElem?_getD, List.getElem?_map, List.getElem?_eq_getElem hj2]
    rfl
  · have hex : q_ext ws (ws ++ [(q, .inr (v, t.map q_dvV))]) := q_ext.app
    rw [hlen]
    have hHp := hH.push (q := q) (e1 := .inr (v, t.map q_dvV)) (t := []) m1 (c1 := (v, t.length, q_dt t t.length)) (Or.inl ⟨hv, t.map q_dvV, rfl, by rw [List.length_map], fun j x hj => ?_⟩)
    · rw [List.append_nil] at hHp
      exact hg _ _ H1 locs ls _ ⟨hE, hHp, hP1, hD1, hK, hS1, ⟨cl, hl, hLs.mono hex⟩, ⟨q, _, q_last hH.1, rfl⟩, hT.mono hex⟩
    · obtain ⟨g1, rfl⟩ := hfv j x hj
      show q_RV ρ sb _ ((q_dtr t.length t 0).get j) _
      rw [q_dtr_get t.length t 0 j (by omega) (Nat.zero_le _) (by omega)]
      exact q_dv_ok _
theorem q_ok25 (C : q_Cx p R s m args meth c A ρ sb mc ms scr L own bytes maxL init) (hok : q_ok own init e) (hdec : decode bytes (q_pc e) = .ok (q_ins e)) (hop : e.1 = 25) (hs : q_s25 e env h k sl lv stk = some nx) (hn : ∀ fr ∈ nx, q_WW p l e0 R s m args below meth c Q D A ρ sb maxL fr) : q_WW p l e0 R s m args below meth c Q D A ρ sb maxL (env, h, k, sl, q_pc e, lv, stk) := by
  obtain ⟨op, pc, v, a, b, w, t⟩ := e
  subst hop
  obtain ⟨hx, hb, hml, hown, hts, hsp, hA, hin, hscr, hmc, hms, hR1, hR2⟩ := C
  unfold q_s25 at hs
  rcases stk with _ | ⟨x, stk⟩
  · cases hs
  · intro ws tys H locs ls st ⟨hE, hH, hP, hD, hK, hS, hL, hT⟩
    obtain ⟨xv, st, rfl, hxv, hT9⟩ := hT.cons
    clear hT
    have hT := hT9
    clear hT9
    obtain ⟨hk, hs⟩ := q_bt hs
    rw [Bool.and_eq_true] at hk
    have hg := q_go_in hs hn
    obtain ⟨a0, e1, he, rfl⟩ := hxv.c6 hk.1
    have hsum := hT.cats
    have h8 := Nat.le_of_ble_eq_true hk.2
    refine W.objInit hx hb hown (hts _ hok.1) (hts _ hok.2.1) (hts _ hok.2.2) rfl ?_ rfl hdec (by omega) ?_ (hg ws tys H locs ls _ ⟨hE, hH, hP, hD, hK, hS, hL, hT⟩)
    · obtain ⟨cl, hl, -⟩ := hL
      rw [hml]
      exact hl.1
    · show 2 * 0 + (st.map fun v => v.category).sum + 12 ≤ R.locals
      omega
theorem q_cpy_get (src dst : Lean.RArray qV) (sp dp N : Nat) : ∀ (n j : Nat), dp + n ≤ N → j < N → (q_cpy src dst sp dp n N).get j = if dp ≤ j ∧ j < dp + n then src.get (sp + (j - dp)) else dst.get j
  | 0, j, _, _ => by
    rw [if_neg (by omega)]
    rfl
  | n + 1, j, h1, h2 => by
    show (q_ts (src.get (sp + n)) (dp + n) (q_cpy src dst sp dp n N) 0 N).get j = _
    rw [q_ts_get _ _ _ 0 N j (Nat.zero_le _) (by omega) (Nat.zero_le _) h2, q_cpy_get src dst sp dp N n j (by omega) h2]
    by_cases hj : j = dp + n
    · rw [if_pos hj, if_pos (by omega), hj, Nat.add_sub_cancel_left]
    · rw [if_neg hj]
      by_cases hc : dp ≤ j ∧ j < dp + n
      · rw [if_pos hc, if_pos (by omega)]
      · rw [if_neg hc, if_neg (by omega)]
theorem q_ok26 (C : q_Cx p R s m args meth c A ρ sb mc ms scr L own bytes maxL init) (hok : q_ok own init e) (hdec : decode bytes (q_pc e) = .ok (q_ins e)) (hop : e.1 = 26) (hs : q_s26 e env h k sl lv stk = some nx) (hn : ∀ fr ∈ nx, q_WW p l e0 R s m args below meth c Q D A ρ sb maxL fr) : q_WW p l e0 R s m args below meth c Q D A ρ sb maxL (env, h, k, sl, q_pc e, lv, stk) := by
  obtain ⟨op, pc, v, a, b, w, t⟩ := e
  subst hop
  obtain ⟨hx, hb, hml, hown, hts, hsp, hA, hin, hscr, hmc, hms, hR1, hR2⟩ := C
  unfold q_s26 at hs
  rcases stk with _ | ⟨n, _ | ⟨dp, _ | ⟨y, _ | ⟨sp, _ | ⟨x, stk⟩⟩⟩⟩⟩
  · cases hs
  · cases hs
  · cases hs
  · cases hs
  · cases hs
  · intro ws tys H locs ls st ⟨hE, hH, hP, hD, hK, hS, hL, hT⟩
    have hH : q_Hp ρ sb h ws tys := hH
    obtain ⟨nv, st, rfl, hnv, hT9⟩ := hT.cons
    clear hT
    have hT := hT9
    clear hT9
    obtain ⟨dpv, st, rfl, hdpv, hT9⟩ := hT.cons
    clear hT
    have hT := hT9
    clear hT9
    obtain ⟨yv, st, rfl, hyv, hT9⟩ := hT.cons
    clear hT
    have hT := hT9
    clear hT9
    obtain ⟨spv, st, rfl, hspv, hT9⟩ := hT.cons
    clear hT
    have hT := hT9
    clear hT9
    obtain ⟨xv, st, rfl, hxv, hT9⟩ := hT.cons
    clear hT
    have hT := hT9
    clear hT9
    obtain ⟨hk, hs⟩ := q_bt hs
    have hg := q_gh_in hs hn
    simp only [Bool.and_eq_true, Bool.or_eq_true, q_blt, q_ble, decide_eq_true_eq] at hk
    obtain ⟨⟨⟨⟨⟨⟨⟨⟨⟨⟨⟨⟨⟨⟨k1, k2⟩, k3⟩, k4⟩, k5⟩, k6⟩, k7⟩, k8⟩, k9⟩, k10⟩, k11⟩, k12⟩, k13⟩, k14⟩, k15⟩ := hk
    have e1 := hnv.c0 k1
    subst e1
    have e2 := hdpv.c0 k2
    subst e2
    have e3 := hspv.c0 k3
    subst e3
    obtain ⟨x0, ex, hex, rfl⟩ := hxv.c6 k4
    obtain ⟨y0, ey, hey, rfl⟩ := hyv.c6 k5
    have k8 : (h.1.get x.2).1 = (h.1.get y.2).1 := Nat.eq_of_beq_eq_true k8
    obtain ⟨cl, hl, hLs⟩ := hL
    have hsum := hT.cats
    have hloc : (st.map fun v => v.category).sum + (nativeFrameWords "java/lang/System" "arraycopy" 5 + 11) ≤ R.locals := by
      have : nativeFrameWords "java/lang/System" "arraycopy" 5 ≤ 60 := by decide +kernel
      omega
    have n1 : ¬ qI sp.2 < 0 := nI_pos (n := sp.2) k12
    have n2 : ¬ qI dp.2 < 0 := nI_pos (n := dp.2) k13
    have n3 : ¬ qI n.2 < 0 := nI_pos (n := n.2) k14
    have m1 := q_cl k12
    have m2 := q_cl k13
    have m3 := q_cl k14
    have hget : ∀ j, j < (h.1.get y.2).2.1 → (bif Nat.beq sp.2 0 && Nat.beq dp.2 0 && Nat.beq n.2 (h.1.get y.2).2.1 then (h.1.get x.2).2.2 else q_cpy (h.1.get x.2).2.2 (h.1.get y.2).2.2 sp.2 dp.2 n.2 (h.1.get y.2).2.1).get j = if dp.2 ≤ j ∧ j < dp.2 + n.2 then (h.1.get x.2).2.2.get (sp.2 + (j - dp.2)) else (h.1.get y.2).2.2.get j := fun j hj => by
      cases hb0 : (Nat.beq sp.2 0 && Nat.beq dp.2 0 && Nat.beq n.2 (h.1.get y.2).2.1) with
      | true =>
        simp only [Bool.and_eq_true] at hb0
        have g1 : sp.2 = 0 := Nat.eq_of_beq_eq_true hb0.1.1
        have g2 : dp.2 = 0 := Nat.eq_of_beq_eq_true hb0.1.2
        have g3 : n.2 = (h.1.get y.2).2.1 := Nat.eq_of_beq_eq_true hb0.2
        rw [if_pos (by omega), g1, g2, Nat.sub_zero, Nat.zero_add]
        rfl
      | false => exact q_cpy_get _ _ _ _ _ _ j k11 hj
    rcases k9 with k9 | k9
    · have k9 : (h.1.get x.2).1 = 100 := Nat.eq_of_beq_eq_true k9
      obtain ⟨c0, f, t0, rfl, ht0, hf⟩ := (hH.2.2.1 _ _ _ hex).ia (ty := .int) (by rw [k9]; rfl)
      obtain ⟨c1, g, t1, rfl, ht1, hgg⟩ := (hH.2.2.1 _ _ _ hey).ia (ty := .int) (by rw [← k8, k9]; rfl)
      refine va_copyi hx hb (by rw [hml]; exact hl.1.symm) hown (hts _ hok.1) (hts _ hok.2.1) (hts _ hok.2.2.1) (hts _ hok.2.2.2) hK hP hD hS x.2 y.2 t0 t1 hex hey ht0 ht1 rfl n1 n2 n3 (by rw [m1, m3]; exact k10) (by rw [m2, m3]; exact k11) (fun _ _ => rfl) (by omega) hloc hdec fun H1 locs1 hP1 hD1 hS1 => ?_
      have hxx : q_ext ws (ws.set y.2 (y0, .inl (c1, (h.1.get y.2).2.1, .inl (va_cpy f g (qI sp.2).toNatClampNeg (qI dp.2).toNatClampNeg (qI n.2).toNatClampNeg)))) := q_ext.set hey
      refine hg _ tys H1 locs1 ls st ⟨hE, hH.put hey (Or.inr (Or.inl ⟨.int, by show q_aT (h.1.get y.2).1 = _; rw [← k8, k9]; rfl, c1, _, t1, rfl, ht1, fun j hj => ?_⟩)), hP1, hD1, hK, hS1, ⟨cl, hl, hLs.mono hxx⟩, hT.mono hxx⟩
      show q_RV ρ sb ws ((bif Nat.beq sp.2 0 && Nat.beq dp.2 0 && Nat.beq n.2 (h.1.get y.2).2.1 then (h.1.get x.2).2.2 else q_cpy (h.1.get x.2).2.2 (h.1.get y.2).2.2 sp.2 dp.2 n.2 (h.1.get y.2).2.1).get j) (.int (va_cpy f g (qI sp.2).toNatClampNeg (qI dp.2).toNatClampNeg (qI n.2).toNatClampNeg j))
      rw [hget j hj, m1, m2, m3]
      unfold va_cpy
      by_cases hc : dp.2 ≤ j ∧ j < dp.2 + n.2
      · rw [if_pos hc, if_pos hc]
        exact hf _ (by omega)
      · rw [if_neg hc, if_neg hc]
        exact hgg _ hj
    · have k9 : (h.1.get x.2).1 = 103 := Nat.eq_of_beq_eq_true k9
      obtain ⟨c0, f, t0, rfl, ht0, hf⟩ := (hH.2.2.1 _ _ _ hex).la k9
      obtain ⟨c1, g, t1, rfl, ht1, hgg⟩ := (hH.2.2.1 _ _ _ hey).la (by rw [← k8, k9])
      refine va_copyl hx hb (by rw [hml]; exact hl.1.symm) hown (hts _ hok.1) (hts _ hok.2.1) (hts _ hok.2.2.1) (hts _ hok.2.2.2) hK hP hD hS x.2 y.2 t0 t1 hex hey ht0 ht1 rfl n1 n2 n3 (by rw [m1, m3]; exact k10) (by rw [m2, m3]; exact k11) (fun _ _ => rfl) (by omega) hloc hdec fun H1 locs1 hP1 hD1 hS1 => ?_
      have hxx : q_ext ws (ws.set y.2 (y0, .inl (c1, (h.1.get y.2).2.1, .inr (.inl (va_cpy f g (qI sp.2).toNatClampNeg (qI dp.2).toNatClampNeg (qI n.2).toNatClampNeg))))) := q_ext.set hey
      refine hg _ tys H1 locs1 ls st ⟨hE, hH.put hey (Or.inr (Or.inr (Or.inl ⟨by show (h.1.get y.2).1 = _; rw [← k8, k9], c1, _, t1, rfl, ht1, fun j hj => ?_⟩))), hP1, hD1, hK, hS1, ⟨cl, hl, hLs.mono hxx⟩, hT.mono hxx⟩
      show q_RV ρ sb ws ((bif Nat.beq sp.2 0 && Nat.beq dp.2 0 && Nat.beq n.2 (h.1.get y.2).2.1 then (h.1.get x.2).2.2 else q_cpy (h.1.get x.2).2.2 (h.1.get y.2).2.2 sp.2 dp.2 n.2 (h.1.get y.2).2.1).get j) (.long (va_cpy f g (qI sp.2).toNatClampNeg (qI dp.2).toNatClampNeg (qI n.2).toNatClampNeg j))
      rw [hget j hj, m1, m2, m3]
      unfold va_cpy
      by_cases hc : dp.2 ≤ j ∧ j < dp.2 + n.2
      · rw [if_pos hc, if_pos hc]
        exact hf _ (by omega)
      · rw [if_neg hc, if_neg hc]
        exact hgg _ hj
end
