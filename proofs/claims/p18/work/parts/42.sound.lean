-- 42.sound: compares of longs, switches, dup, fields, loads
section
variable {p : Program} {l : Launch} {e0 : Env} {R : Room} {s : State} {m : MethodId} {args : Array Value} {below : List Frame} {meth : Method} {c : Code} {Q : State → Prop}
variable {D : va_G} {A : Nat → Prop} {ρ : Nat → Int32} {sb : (Nat → Nat) × va_W} {mc ms : Nat} {scr : Bool} {L : Nat} {own : String} {bytes : ByteArray} {maxL : Nat} {init : Bool}
variable {e : qN} {env : qE} {h : qH} {k sl : Nat} {lv : qL} {stk : List qV} {nx : List qF}
variable {H : Heap} {locs : List Loc} {pc : Nat} {ls : Array Slot} {rest : List Value}
theorem q_lgc (a b : Int64) : lg_cmp a b = if b.toInt < a.toInt then 1 else if a.toInt = b.toInt then 0 else -1 := by
  unfold lg_cmp
  by_cases h1 : b.toInt < a.toInt
  · rw [if_pos h1, if_pos (Int64.lt_iff_toInt_lt.mpr h1)]
  · rw [if_neg h1, if_neg (fun q => h1 (Int64.lt_iff_toInt_lt.mp q))]
    by_cases h2 : a.toInt = b.toInt
    · rw [if_pos h2, if_pos (Int64.toInt_inj.mp h2)]
    · rw [if_neg h2, if_neg (fun q => h2 (by rw [q]))]
theorem q_lc_ok {ws : va_W} {env : qE} (h : q_En ρ env) {x y : qV} {a c : Int64} (hx : q_RV ρ sb ws x (.long a)) (hy : q_RV ρ sb ws y (.long c)) : ∃ q ∈ q_lc env x y, q.1 = qNn (lg_cmp a c) ∧ q_En ρ q.2 := by
  have hall : ∃ q ∈ ([(qNn (-1), env), (0, env), (1, env)] : List (Nat × qE)), q.1 = qNn (lg_cmp a c) ∧ q_En ρ q.2 := by
    rw [q_lgc]
    by_cases h1 : c.toInt < a.toInt
    · rw [if_pos h1]
      exact ⟨(1, env), by simp, rfl, h⟩
    · rw [if_neg h1]
      by_cases h2 : a.toInt = c.toInt
      · rw [if_pos h2]
        exact ⟨(0, env), by simp, rfl, h⟩
      · rw [if_neg h2]
        exact ⟨(qNn (-1), env), by simp, rfl, h⟩
  unfold q_lc
  cases h1 : (Nat.beq x.1 3 && Nat.beq y.1 3) with
  | true =>
    simp only [cond_true]
    rw [Bool.and_eq_true] at h1
    have ex := Value.long.inj (hx.c3 h1.1)
    have ey := Value.long.inj (hy.c3 h1.2)
    exact ⟨_, List.mem_singleton.mpr rfl, by show qNn (lg_cmp (qJ x.2) (qJ y.2)) = _; rw [ex, ey], h⟩
  | false =>
    simp only [cond_false]
    cases h2 : (Nat.beq x.1 4 && Nat.beq y.1 3 && decide (0 ≤ (qJ y.2).toInt + 2147483648)) with
    | true =>
      simp only [cond_true]
      simp only [Bool.and_eq_true, decide_eq_true_eq] at h2
      have ht : x.1 = 4 := Nat.eq_of_beq_eq_true h2.1.1
      have ey := Value.long.inj (hy.c3 h2.1.2)
      obtain ⟨x1, i⟩ := x
      subst ht
      have ex : a = (ρ i).toInt64 := Value.long.inj hx
      have h0 := h2.2
      generalize hB : ((qJ y.2).toInt + 2147483648).toNat = B
      have hBi : (B : Int) = c.toInt + 2147483648 := by rw [← hB, ey]; omega
      have ha : a.toInt = (ρ i).toInt := by rw [ex]; exact Int32.toInt_toInt64 _
      have hq := qB_int (ρ i)
      obtain ⟨q, hq1, hq2, hq3⟩ := q_lt_ok h i B true false
      by_cases hl : qB (ρ i) < B
      · rw [if_pos hl] at hq2
        refine ⟨(qNn (-1), q.2), List.mem_flatMap.mpr ⟨q, hq1, by rw [hq2]; exact List.mem_singleton.mpr rfl⟩, ?_, hq3⟩
        rw [q_lgc, if_neg (by omega), if_neg (by omega)]
      · rw [if_neg hl] at hq2
        obtain ⟨r, hr1, hr2, hr3⟩ := q_gt_ok hq3 i B true false
        by_cases hg : B < qB (ρ i)
        · rw [if_pos hg] at hr2
          refine ⟨(1, r.2), List.mem_flatMap.mpr ⟨q, hq1, by rw [hq2]; exact List.mem_map.mpr ⟨r, hr1, by rw [hr2]; rfl⟩⟩, ?_, hr3⟩
          rw [q_lgc, if_pos (by omega)]
          rfl
        · rw [if_neg hg] at hr2
          refine ⟨(0, r.2), List.mem_flatMap.mpr ⟨q, hq1, by rw [hq2]; exact List.mem_map.mpr ⟨r, hr1, by rw [hr2]; rfl⟩⟩, ?_, hr3⟩
          rw [q_lgc, if_neg (by omega), if_pos (by omega)]
          rfl
    | false =>
      simp only [cond_false]
      cases h3 : (Nat.beq x.1 3 && Nat.beq y.1 4 && decide (0 ≤ (qJ x.2).toInt + 2147483648)) with
      | true =>
        simp only [cond_true]
        simp only [Bool.and_eq_true, decide_eq_true_eq] at h3
        have ht : y.1 = 4 := Nat.eq_of_beq_eq_true h3.1.2
        have ex := Value.long.inj (hx.c3 h3.1.1)
        obtain ⟨y1, i⟩ := y
        subst ht
        have ey : c = (ρ i).toInt64 := Value.long.inj hy
        have h0 := h3.2
        generalize hB : ((qJ x.2).toInt + 2147483648).toNat = B
        have hBi : (B : Int) = a.toInt + 2147483648 := by rw [← hB, ex]; omega
        have ha : c.toInt = (ρ i).toInt := by rw [ey]; exact Int32.toInt_toInt64 _
        have hq := qB_int (ρ i)
        obtain ⟨q, hq1, hq2, hq3⟩ := q_lt_ok h i B true false
        by_cases hl : qB (ρ i) < B
        · rw [if_pos hl] at hq2
          refine ⟨(1, q.2), List.mem_flatMap.mpr ⟨q, hq1, by rw [hq2]; exact List.mem_singleton.mpr rfl⟩, ?_, hq3⟩
          rw [q_lgc, if_pos (by omega)]
          rfl
        · rw [if_neg hl] at hq2
          obtain ⟨r, hr1, hr2, hr3⟩ := q_gt_ok hq3 i B true false
          by_cases hg : B < qB (ρ i)
          · rw [if_pos hg] at hr2
            refine ⟨(qNn (-1), r.2), List.mem_flatMap.mpr ⟨q, hq1, by rw [hq2]; exact List.mem_map.mpr ⟨r, hr1, by rw [hr2]; rfl⟩⟩, ?_, hr3⟩
            rw [q_lgc, if_neg (by omega), if_neg (by omega)]
          · rw [if_neg hg] at hr2
            refine ⟨(0, r.2), List.mem_flatMap.mpr ⟨q, hq1, by rw [hq2]; exact List.mem_map.mpr ⟨r, hr1, by rw [hr2]; rfl⟩⟩, ?_, hr3⟩
            rw [q_lgc, if_neg (by omega), if_pos (by omega)]
            rfl
      | false =>
        simp only [cond_false]
        have h44 : (Nat.beq x.1 4 && Nat.beq y.1 4) = true → ∃ i j, x.2 = i ∧ y.2 = j ∧ a.toInt = (ρ i).toInt ∧ c.toInt = (ρ j).toInt := fun q => by
          rw [Bool.and_eq_true] at q
          have t1 : x.1 = 4 := Nat.eq_of_beq_eq_true q.1
          have t2 : y.1 = 4 := Nat.eq_of_beq_eq_true q.2
          obtain ⟨x1, i⟩ := x
          obtain ⟨y1, j⟩ := y
          subst t1; subst t2
          have ex : a = (ρ i).toInt64 := Value.long.inj hx
          have ey : c = (ρ j).toInt64 := Value.long.inj hy
          exact ⟨i, j, rfl, rfl, by rw [ex]; exact Int32.toInt_toInt64 _, by rw [ey]; exact Int32.toInt_toInt64 _⟩
        cases h4 : (Nat.beq x.1 4 && Nat.beq y.1 4 && Nat.blt (q_eg env x.2).2 (q_eg env y.2).1) with
        | true =>
          simp only [cond_true]
          rw [Bool.and_eq_true, q_blt] at h4
          obtain ⟨i, j, e1, e2, e3, e4⟩ := h44 h4.1
          have hlt := of_decide_eq_true h4.2
          rw [e1, e2] at hlt
          have g1 := q_eg_ok h i
          have g2 := q_eg_ok h j
          have b1 := qB_int (ρ i)
          have b2 := qB_int (ρ j)
          refine ⟨_, List.mem_singleton.mpr rfl, ?_, h⟩
          rw [q_lgc, if_neg (by omega), if_neg (by omega)]
        | false =>
          simp only [cond_false]
          cases h5 : (Nat.beq x.1 4 && Nat.beq y.1 4 && Nat.blt (q_eg env y.2).2 (q_eg env x.2).1) with
          | true =>
            simp only [cond_true]
            rw [Bool.and_eq_true, q_blt] at h5
            obtain ⟨i, j, e1, e2, e3, e4⟩ := h44 h5.1
            have hlt := of_decide_eq_true h5.2
            rw [e1, e2] at hlt
            have g1 := q_eg_ok h i
            have g2 := q_eg_ok h j
            have b1 := qB_int (ρ i)
            have b2 := qB_int (ρ j)
            refine ⟨_, List.mem_singleton.mpr rfl, ?_, h⟩
            rw [q_lgc, if_pos (by omega)]
            rfl
          | false =>
            simp only [cond_false]
            exact hall
theorem q_ok7 (C : q_Cx p R s m args meth c A ρ sb mc ms scr L own bytes maxL init) (hok : q_ok own init e) (hdec : decode bytes (q_pc e) = .ok (q_ins e)) (hop : e.1 = 7) (hs : q_s7 e env h k sl lv stk = some nx) (hn : ∀ fr ∈ nx, q_WW p l e0 R s m args below meth c Q D A ρ sb maxL fr) : q_WW p l e0 R s m args below meth c Q D A ρ sb maxL (env, h, k, sl, q_pc e, lv, stk) := by
  obtain ⟨op, pc, v, a, b, w, t⟩ := e
  subst hop
  obtain ⟨hx, hb, hml, hown, hts, hsp, hA, hin, hscr, hmc, hms, hR1, hR2⟩ := C
  unfold q_s7 at hs
  rcases stk with _ | ⟨y, _ | ⟨x, stk⟩⟩
  · cases hs
  · cases hs
  · intro ws tys H locs ls st ⟨hE, hH, hP, hD, hK, hS, hL, hT⟩
    obtain ⟨yv, st, rfl, hyv, hT9⟩ := hT.cons
    clear hT
    have hT := hT9
    clear hT9
    obtain ⟨xv, st, rfl, hxv, hT9⟩ := hT.cons
    clear hT
    have hT := hT9
    clear hT9
    obtain ⟨hk, hs⟩ := q_bt hs
    rw [Bool.and_eq_true] at hk
    obtain ⟨xc, rfl⟩ := hxv.long (Nat.eq_of_beq_eq_true hk.1)
    obtain ⟨yc, rfl⟩ := hyv.long (Nat.eq_of_beq_eq_true hk.2)
    have hg := q_map_in hs hn
    obtain ⟨q, hq, h1, hE2⟩ := q_lc_ok hE hxv hyv
    have hg := hg q hq
    rw [q_fc_eq] at hg
    refine W.lcmp hx hb hdec (hg ws tys H locs ls _ ⟨hE2, hH, hP, hD, hK, hS, hL, ?_, hT⟩)
    show Value.int _ = .int (qI q.1)
    rw [h1, qI_N]
theorem q_sw_ok {env : qE} (h : q_En ρ env) (i : Nat) : ∀ (ts : List Nat) (j m : Nat), m < ts.length → (ρ i).toInt = ((j + m : Nat) : Int) → ∃ q ∈ q_sw env i ts j, q.2 = ts.getD m 0 ∧ q_En ρ q.1
  | [], j, m, hm, _ => absurd hm (Nat.not_lt_zero _)
  | t :: ts, j, m, hm, hv => by
    have e : q_sw env i (t :: ts) j = (bif Nat.ble (q_eg env i).1 (j + 2147483648) && Nat.ble (j + 2147483648) (q_eg env i).2 then [(q_iv env i (j + 2147483648) (j + 2147483648), t)] else []) ++ q_sw env i ts (j + 1) := rfl
    rw [e]
    cases m with
    | zero =>
      have hb := qB_int (ρ i)
      have hq : qB (ρ i) = j + 2147483648 := by omega
      obtain ⟨g1, g2⟩ := q_eg_ok h i
      refine ⟨(q_iv env i (j + 2147483648) (j + 2147483648), t), List.mem_append_left _ ?_, rfl, q_iv_ok h (by omega) (by omega)⟩
      have e2 : (Nat.ble (q_eg env i).1 (j + 2147483648) && Nat.ble (j + 2147483648) (q_eg env i).2) = true := by rw [Nat.ble_eq_true_of_le (by omega), Nat.ble_eq_true_of_le (by omega)]; rfl
      rw [e2]
      exact List.mem_singleton.mpr rfl
    | succ m =>
      obtain ⟨q, h1, h2, h3⟩ := q_sw_ok h i ts (j + 1) m (by rw [List.length_cons] at hm; omega) (by rw [hv]; omega)
      exact ⟨q, List.mem_append_right _ h1, by rw [h2]; rfl, h3⟩
theorem q_swd_ok {env : qE} (h : q_En ρ env) (i a : Nat) (ts : List Nat) (hc : ¬ (0 ≤ (ρ i).toInt ∧ (ρ i).toInt.toNat < ts.length)) : ∃ q ∈ q_swd env i a ts, q.2 = a ∧ q_En ρ q.1 := by
  have hb := qB_int (ρ i)
  obtain ⟨g1, g2⟩ := q_eg_ok h i
  by_cases h0 : 0 ≤ (ρ i).toInt
  · refine ⟨(q_iv env i (Nat.max (q_eg env i).1 (2147483648 + ts.length)) (q_eg env i).2, a), List.mem_append_right _ ?_, rfl, q_iv_ok h (Nat.max_le.mpr ⟨g1, by omega⟩) g2⟩
    rw [Nat.ble_eq_true_of_le (by omega)]
    exact List.mem_singleton.mpr rfl
  · refine ⟨(q_iv env i (q_eg env i).1 (Nat.min (q_eg env i).2 2147483647), a), List.mem_append_left _ ?_, rfl, q_iv_ok h g1 (Nat.le_min.mpr ⟨g2, by omega⟩)⟩
    have e : Nat.blt (q_eg env i).1 2147483648 = true := by rw [q_blt]; exact decide_eq_true (by omega)
    rw [e]
    exact List.mem_singleton.mpr rfl
theorem q_row12 (hx : p.tables.exec = Jvm.exec) (hb : c.code = bytes) {x : Int32} {a b : Nat} {t : List Nat} (hdec : decode bytes pc = .ok (.tableswitch (q_off pc a) 0 ((t.length : Int) - 1) (t.map (q_off pc)).toArray, b)) {cells slots : Nat}
    (kk : W p l e0 R s m args below meth c H locs cells slots Q (F0 m (if 0 ≤ x.toInt ∧ x.toInt.toNat < t.length then t.getD x.toInt.toNat 0 else a) ls rest)) : W p l e0 R s m args below meth c H locs cells slots Q (F0 m pc ls (.int x :: rest)) := by
  by_cases hc : 0 ≤ x.toInt ∧ x.toInt.toNat < t.length
  · rw [if_pos hc] at kk
    refine lv_tableIn hx hb hdec (by omega) (by omega) (off := q_off pc (t.getD x.toInt.toNat 0)) ?_ (q_off_eq _ _) kk
    rw [Int.sub_zero, List.getElem?_toArray, List.getElem?_map, List.getD_eq_getElem?_getD, List.getElem?_eq_getElem hc.2]
    rfl
  · rw [if_neg hc] at kk
    exact lv_tableOut hx hb hdec (by omega) (q_off_eq _ _) kk
theorem q_ok12 (C : q_Cx p R s m args meth c A ρ sb mc ms scr L own bytes maxL init) (hok : q_ok own init e) (hdec : decode bytes (q_pc e) = .ok (q_ins e)) (hop : e.1 = 12) (hs : q_s12 e env h k sl lv stk = some nx) (hn : ∀ fr ∈ nx, q_WW p l e0 R s m args below meth c Q D A ρ sb maxL fr) : q_WW p l e0 R s m args below meth c Q D A ρ sb maxL (env, h, k, sl, q_pc e, lv, stk) := by
  obtain ⟨op, pc, v, a, b, w, t⟩ := e
  subst hop
  obtain ⟨hx, hb, hml, hown, hts, hsp, hA, hin, hscr, hmc, hms, hR1, hR2⟩ := C
  unfold q_s12 at hs
  rcases stk with _ | ⟨x, stk⟩
  · cases hs
  · intro ws tys H locs ls st ⟨hE, hH, hP, hD, hK, hS, hL, hT⟩
    obtain ⟨xv, st, rfl, hxv, hT9⟩ := hT.cons
    clear hT
    have hT := hT9
    clear hT9
    rcases q_bf hs with ⟨h0, hs⟩ | ⟨h0, hs⟩
    · have hg := q_go_in hs hn
      have ex := hxv.c0 h0
      subst ex
      refine q_row12 hx hb hdec ?_
      have hg := hg ws tys H locs ls st ⟨hE, hH, hP, hD, hK, hS, hL, hT⟩
      have e1 : (bif Nat.blt (qI x.2).toNatClampNeg t.length && decide (0 ≤ (qI x.2).toInt) then t.getD (qI x.2).toNatClampNeg 0 else a) = (if 0 ≤ (qI x.2).toInt ∧ (qI x.2).toInt.toNat < t.length then t.getD (qI x.2).toInt.toNat 0 else a) := by
        rw [q_blt]
        show (bif decide ((qI x.2).toInt.toNat < t.length) && _ then t.getD (qI x.2).toInt.toNat 0 else a) = _
        by_cases g1 : 0 ≤ (qI x.2).toInt <;> by_cases g2 : (qI x.2).toInt.toNat < t.length <;> simp [g1, g2]
      rw [← e1]
      exact hg
    · rcases q_bf hs with ⟨h1, hs⟩ | ⟨h1, hs⟩
      · have ht0 : x.1 = 1 := Nat.eq_of_beq_eq_true h1
        obtain ⟨x1, i⟩ := x
        subst ht0
        have ex : xv = .int (ρ i) := hxv
        subst ex
        cases hs
        refine q_row12 hx hb hdec ?_
        by_cases hc : 0 ≤ (ρ i).toInt ∧ (ρ i).toInt.toNat < t.length
        · rw [if_pos hc]
          obtain ⟨q, hq, h2, hE2⟩ := q_sw_ok hE i t 0 (ρ i).toInt.toNat hc.2 (by omega)
          rw [← h2]
          exact hn (q.1, h, k, sl, q.2, lv, stk) (List.mem_map.mpr ⟨q, List.mem_append_right _ hq, rfl⟩) ws tys H locs ls st ⟨hE2, hH, hP, hD, hK, hS, hL, hT⟩
        · rw [if_neg hc]
          obtain ⟨q, hq, h2, hE2⟩ := q_swd_ok hE i a t hc
          rw [← h2]
          exact hn (q.1, h, k, sl, q.2, lv, stk) (List.mem_map.mpr ⟨q, List.mem_append_left _ hq, rfl⟩) ws tys H locs ls st ⟨hE2, hH, hP, hD, hK, hS, hL, hT⟩
      · rcases q_bf hs with ⟨h2, hs⟩ | ⟨h2, hs⟩
        · have hk0 : q_knd x = 0 := by
            have ht0 : x.1 = 2 := Nat.eq_of_beq_eq_true h2
            unfold q_knd
            rw [ht0]
            rfl
          obtain ⟨xc, rfl⟩ := hxv.int hk0
          cases hs
          refine q_row12 hx hb hdec ?_
          by_cases hc : 0 ≤ xc.toInt ∧ xc.toInt.toNat < t.length
          · rw [if_pos hc]
            refine hn (env, h, k, sl, t.getD xc.toInt.toNat 0, lv, stk) (List.mem_cons_of_mem _ (List.mem_map.mpr ⟨t.getD xc.toInt.toNat 0, ?_, rfl⟩)) ws tys H locs ls st ⟨hE, hH, hP, hD, hK, hS, hL, hT⟩
            rw [List.getD_eq_getElem?_getD, List.getElem?_eq_getElem hc.2]
            exact List.getElem_mem _
          · rw [if_neg hc]
            exact hn _ List.mem_cons_self ws tys H locs ls st ⟨hE, hH, hP, hD, hK, hS, hL, hT⟩
        · cases hs
theorem q_ok13 (C : q_Cx p R s m args meth c A ρ sb mc ms scr L own bytes maxL init) (hok : q_ok own init e) (hdec : decode bytes (q_pc e) = .ok (q_ins e)) (hop : e.1 = 13) (hs : q_s13 e env h k sl lv stk = some nx) (hn : ∀ fr ∈ nx, q_WW p l e0 R s m args below meth c Q D A ρ sb maxL fr) : q_WW p l e0 R s m args below meth c Q D A ρ sb maxL (env, h, k, sl, q_pc e, lv, stk) := by
  obtain ⟨op, pc, v, a, b, w, t⟩ := e
  subst hop
  obtain ⟨hx, hb, hml, hown, hts, hsp, hA, hin, hscr, hmc, hms, hR1, hR2⟩ := C
  rcases stk with _ | ⟨x, stk⟩
  · unfold q_s13 at hs
    rcases v with _ | _ | _ | _ | v <;> cases hs
  · intro ws tys H locs ls st ⟨hE, hH, hP, hD, hK, hS, hL, hT⟩
    obtain ⟨xv, st, rfl, hxv, hT9⟩ := hT.cons
    clear hT
    have hT := hT9
    clear hT9
    rcases v with _ | _ | _ | _ | v
    · have hs : (bif Nat.beq (q_cat x) 1 then q_go env h k sl (pc + 1) lv (x :: x :: stk) else none) = some nx := hs
      obtain ⟨hc, hs⟩ := q_bt hs
      exact lv_dup hx hb hdec (hxv.cat.trans (Nat.eq_of_beq_eq_true hc)) (q_go_in hs hn ws tys H locs ls _ ⟨hE, hH, hP, hD, hK, hS, hL, hxv, hxv, hT⟩)
    · rcases stk with _ | ⟨y, stk⟩
      · have hs : (bif Nat.beq (q_cat x) 2 then q_go env h k sl (pc + 1) lv (x :: x :: []) else none) = some nx := hs
        obtain ⟨hc, hs⟩ := q_bt hs
        exact lv_dup2_2 hx hb hdec (hxv.cat.trans (Nat.eq_of_beq_eq_true hc)) (q_go_in hs hn ws tys H locs ls _ ⟨hE, hH, hP, hD, hK, hS, hL, hxv, hxv, hT⟩)
      · have hs : (bif Nat.beq (q_cat x) 2 then q_go env h k sl (pc + 1) lv (x :: x :: y :: stk) else (bif Nat.beq (q_cat y) 1 then q_go env h k sl (pc + 1) lv (x :: y :: x :: y :: stk) else none)) = some nx := hs
        rcases q_bf hs with ⟨hc, hs⟩ | ⟨hc, hs⟩
        · exact lv_dup2_2 hx hb hdec (hxv.cat.trans (Nat.eq_of_beq_eq_true hc)) (q_go_in hs hn ws tys H locs ls _ ⟨hE, hH, hP, hD, hK, hS, hL, hxv, hxv, hT⟩)
        · obtain ⟨hc2, hs⟩ := q_bt hs
          obtain ⟨yv, st, rfl, hyv, hT9⟩ := hT.cons
          clear hT
          have hT := hT9
          clear hT9
          have h1 : q_cat x = 1 := by
            unfold q_cat at hc ⊢
            cases hb1 : Nat.beq (q_knd x) 1 with
            | true => rw [hb1] at hc; cases hc
            | false => rfl
          exact lv_dup2_11 hx hb hdec (hxv.cat.trans h1) (hyv.cat.trans (Nat.eq_of_beq_eq_true hc2)) (q_go_in hs hn ws tys H locs ls _ ⟨hE, hH, hP, hD, hK, hS, hL, hxv, hyv, hxv, hyv, hT⟩)
    · have hs : (bif Nat.beq (q_cat x) 1 then q_go env h k sl (pc + 1) lv stk else none) = some nx := hs
      obtain ⟨hc, hs⟩ := q_bt hs
      exact lv_pop hx hb hdec (hxv.cat.trans (Nat.eq_of_beq_eq_true hc)) (q_go_in hs hn ws tys H locs ls _ ⟨hE, hH, hP, hD, hK, hS, hL, hT⟩)
    · have hs : (bif Nat.beq (q_cat x) 2 then q_go env h k sl (pc + 1) lv stk else none) = some nx := hs
      obtain ⟨hc, hs⟩ := q_bt hs
      exact lv_pop2_2 hx hb hdec (hxv.cat.trans (Nat.eq_of_beq_eq_true hc)) (q_go_in hs hn ws tys H locs ls _ ⟨hE, hH, hP, hD, hK, hS, hL, hT⟩)
    · cases hs
theorem q_vw {k : Nat} {r : vw_C} (h : vwCl[k]? = some r) : k < 100 := by
  have h1 := (List.getElem?_eq_some_iff.mp h).1
  have h2 : vwCl.length = 12 := rfl
  omega
def q_clsOk (r : vw_C) : Prop := (∀ w ∈ u_ws r.1 r.2.1 r.2.2, w ∈ qWS) ∧ (∃ ty0 : Nat → FieldType, ∀ k, k < r.2.2 → parseFieldDescriptor (r.2.1 k).2.2.1 = some (ty0 k)) ∧ (∀ a, a < r.2.2 → ∀ b, b < r.2.2 → a ≠ b → (r.2.1 a).2.1 ≠ (r.2.1 b).2.1)
def q_clsAll : Prop := ∀ (k : Nat) (r : vw_C), vwCl[k]? = some r → q_clsOk r
theorem q_in {n N : Nat} (h : n < N) (h2 : n < 2147483648) : vp_in (qI n) N := fun q => by
  rcases q with q | q
  · exact nI_pos (n := n) h2 q
  · have e : (qI n).toNatClampNeg = n := nI_clamp h2
    omega
theorem q_cl {n : Nat} (h2 : n < 2147483648) : (qI n).toNatClampNeg = n := nI_clamp h2
theorem q_RV.c6 {ws : va_W} {x : qV} {v : Value} (hx : q_RV ρ sb ws x v) (h0 : Nat.beq x.1 6 = true) : ∃ a e, ws[x.2]? = some (a, e) ∧ v = .ref a := by
  have ht0 : x.1 = 6 := Nat.eq_of_beq_eq_true h0
  obtain ⟨x1, x2⟩ := x
  subst ht0
  exact hx
theorem q_ok14 (C : q_Cx p R s m args meth c A ρ sb mc ms scr L own bytes maxL init) (hok : q_ok own init e) (hdec : decode bytes (q_pc e) = .ok (q_ins e)) (hcl : q_clsAll) (hop : e.1 = 14) (hs : q_s14 e env h k sl lv stk = some nx) (hn : ∀ fr ∈ nx, q_WW p l e0 R s m args below meth c Q D A ρ sb maxL fr) : q_WW p l e0 R s m args below meth c Q D A ρ sb maxL (env, h, k, sl, q_pc e, lv, stk) := by
  obtain ⟨op, pc, v, a, b, w, t⟩ := e
  subst hop
  obtain ⟨hx, hb, hml, hown, hts, hsp, hA, hin, hscr, hmc, hms, hR1, hR2⟩ := C
  unfold q_s14 at hs
  rcases stk with _ | ⟨x, stk⟩
  · cases hs
  · intro ws tys H locs ls st ⟨hE, hH, hP, hD, hK, hS, hL, hT⟩
    obtain ⟨xv, st, rfl, hxv, hT9⟩ := hT.cons
    clear hT
    have hT := hT9
    clear hT9
    obtain ⟨hk, hs⟩ := q_bt hs
    have hg := q_go_in hs hn
    simp only [Bool.and_eq_true, q_blt, decide_eq_true_eq] at hk
    obtain ⟨⟨⟨h6, hlt⟩, hkd⟩, hbn⟩ := hk
    have hkd : (h.1.get x.2).1 = v := Nat.eq_of_beq_eq_true hkd
    obtain ⟨a0, e1, he, rfl⟩ := hxv.c6 h6
    obtain ⟨r, hr, hbl, hw⟩ := hok
    have hv100 := q_vw hr
    obtain ⟨fs, rfl, hfl, hfv⟩ := (hH.2.2.1 _ _ _ he).obj (by rw [hkd]; exact hv100)
    rw [hkd] at he
    have hbl2 : b < fs.length := by rw [hfl]; exact hbn
    have hfb : fs[b]? = some (fs[b]) := List.getElem?_eq_getElem hbl2
    exact va_get (own := own) (ref := (r.2.1 b).1) (C := r.1) (T := r.2.1) (N := r.2.2) (ci := v) (index := a) (Ts := qWS) hx hb hts (hcl _ _ hr).1 hown hK hP x.2 (fs := fs) he hr b hbl (hts _ hw) (fun _ h => h) hfb hdec (hg ws tys H locs ls _ ⟨hE, hH, hP, hD, hK, hS, hL, hfv _ _ hfb, hT⟩)
theorem q_fit_ok {ws : va_W} {code : Nat} {ty : FieldType} {y : qV} {v : Value} (h1 : q_tyOk code ty) (h2 : q_fit code y = true) (hv : q_RV ρ sb ws y v) : narrow ty v = v ∧ fits ty v = true := by
  rcases code with _ | _ | _ | _ | cd
  · have h1 : ty = .int := h1
    subst h1
    obtain ⟨c, rfl⟩ := hv.int (Nat.eq_of_beq_eq_true h2)
    exact ⟨rfl, rfl⟩
  · have h1 : ty = .boolean := h1
    subst h1
    have h2 : (Nat.beq y.1 0 && Nat.ble y.2 1) = true := h2
    rw [Bool.and_eq_true] at h2
    have e1 := hv.c0 h2.1
    subst e1
    have h3 : y.2 = 0 ∨ y.2 = 1 := by have := Nat.le_of_ble_eq_true h2.2; omega
    rcases h3 with q | q <;> rw [q] <;> exact ⟨rfl, rfl⟩
  · have h1 : ty = .long := h1
    subst h1
    obtain ⟨c, rfl⟩ := hv.long (Nat.eq_of_beq_eq_true h2)
    exact ⟨rfl, rfl⟩
  · rcases (h1 : (∃ n, ty = .object n) ∨ ∃ t, ty = .array t) with ⟨n, rfl⟩ | ⟨t, rfl⟩ <;> rcases hv.rf (Nat.eq_of_beq_eq_true h2) with ⟨-, rfl⟩ | ⟨-, a, rfl⟩ <;> exact ⟨rfl, rfl⟩
  · exact (h1 : False).elim
theorem q_ok15 (C : q_Cx p R s m args meth c A ρ sb mc ms scr L own bytes maxL init) (hok : q_ok own init e) (hdec : decode bytes (q_pc e) = .ok (q_ins e)) (hcl : q_clsAll) (hop : e.1 = 15) (hs : q_s15 e env h k sl lv stk = some nx) (hn : ∀ fr ∈ nx, q_WW p l e0 R s m args below meth c Q D A ρ sb maxL fr) : q_WW p l e0 R s m args below meth c Q D A ρ sb maxL (env, h, k, sl, q_pc e, lv, stk) := by
  obtain ⟨op, pc, v, a, b, w, t⟩ := e
  subst hop
  obtain ⟨hx, hb, hml, hown, hts, hsp, hA, hin, hscr, hmc, hms, hR1, hR2⟩ := C
  unfold q_s15 at hs
  rcases stk with _ | ⟨y, _ | ⟨x, stk⟩⟩
  · cases hs
  · cases hs
  · intro ws tys H locs ls st ⟨hE, hH, hP, hD, hK, hS, hL, hT⟩
    obtain ⟨yv, st, rfl, hyv, hT9⟩ := hT.cons
    clear hT
    have hT := hT9
    clear hT9
    obtain ⟨xv, st, rfl, hxv, hT9⟩ := hT.cons
    clear hT
    have hT := hT9
    clear hT9
    obtain ⟨hk, hs⟩ := q_bt hs
    have hg := q_gh_in hs hn
    simp only [Bool.and_eq_true, q_blt, decide_eq_true_eq] at hk
    obtain ⟨⟨⟨⟨⟨h6, hlt⟩, hkd⟩, hbn⟩, hft⟩, -⟩ := hk
    have hkd : (h.1.get x.2).1 = v := Nat.eq_of_beq_eq_true hkd
    obtain ⟨a0, e1, he, rfl⟩ := hxv.c6 h6
    obtain ⟨r, hr, hbl, hw, ⟨ty, hpar, hty⟩, hfin⟩ := hok
    have hv100 := q_vw hr
    obtain ⟨fs, rfl, hfl, hfv⟩ := (hH.2.2.1 _ _ _ he).obj (by rw [hkd]; exact hv100)
    have hbl2 : b < fs.length := by rw [hfl]; exact hbn
    obtain ⟨c1, ⟨ty0, c2⟩, c3⟩ := hcl _ _ hr
    obtain ⟨n1, n2⟩ := q_fit_ok hty hft hyv
    have hH2 : q_Hp ρ sb (q_put h x.2 b y) (ws.set x.2 (a0, .inr ((h.1.get x.2).1, fs.set b yv))) tys := by
      refine hH.put he (Or.inl ⟨by rw [hkd]; exact hv100, fs.set b yv, rfl, by rw [List.length_set]; exact hfl, fun j vj hj => ?_⟩)
      have hjl : j < fs.length := by
        have := (List.getElem?_eq_some_iff.mp hj).1
        rwa [List.length_set] at this
      show q_RV ρ sb ws ((q_ts y b (h.1.get x.2).2.2 0 (h.1.get x.2).2.1).get j) vj
      rw [q_ts_get y b _ 0 _ j (Nat.zero_le _) hbn (Nat.zero_le _) (by rw [← hfl]; exact hjl)]
      by_cases hjb : j = b
      · subst hjb
        rw [List.getElem?_set_self hjl] at hj
        cases hj
        rw [if_pos rfl]
        exact hyv
      · rw [List.getElem?_set_ne (Ne.symm hjb)] at hj
        rw [if_neg hjb]
        exact hfv j vj hj
    have hex : q_ext ws (ws.set x.2 (a0, .inr ((h.1.get x.2).1, fs.set b yv))) := q_ext.set he
    rw [hkd] at he hH2 hex
    obtain ⟨cl, hl, hLs⟩ := hL
    have kk : ∀ (H1 : Heap) (locs1 : List Loc), va_P D vwCl (ws.set x.2 (a0, .inr (v, fs.set b yv))) H1 → va_D A (ws.set x.2 (a0, .inr (v, fs.set b yv))) → va_S A s.heap H1 locs1 → W p l e0 R s m args below meth c H1 locs1 k sl Q (F0 m (pc + 3) ls st) := fun H1 locs1 hP1 hD1 hS1 =>
      hg _ tys H1 locs1 ls st ⟨hE, hH2, hP1, hD1, hK, hS1, ⟨cl, hl, hLs.mono hex⟩, hT.mono hex⟩
    by_cases hf : (r.2.1 b).2.2.2 = true
    · exact va_putF (own := own) (ref := (r.2.1 b).1) (C := r.1) (T := r.2.1) (N := r.2.2) (ci := v) (index := a) (Ts := qWS) hx hb hts c1 ty0 c2 c3 hown hK hP hD hS x.2 (fs := fs) he hr b hbl (hts _ hw) (fun _ h => h) hf (hin.1 (hfin hf).1) (hfin hf).2 hpar n1 n2 hbl2 hdec kk
    · exact va_put (own := own) (ref := (r.2.1 b).1) (C := r.1) (T := r.2.1) (N := r.2.2) (ci := v) (index := a) (Ts := qWS) hx hb hts c1 ty0 c2 c3 hown hK hP hD hS x.2 (fs := fs) he hr b hbl (hts _ hw) (fun _ h => h) (Bool.eq_false_iff.mpr hf) hpar n1 n2 hbl2 hdec kk
theorem q_ok19 (C : q_Cx p R s m args meth c A ρ sb mc ms scr L own bytes maxL init) (hok : q_ok own init e) (hdec : decode bytes (q_pc e) = .ok (q_ins e)) (hop : e.1 = 19) (hs : q_s19 scr L e env h k sl lv stk = some nx) (hn : ∀ fr ∈ nx, q_WW p l e0 R s m args below meth c Q D A ρ sb maxL fr) : q_WW p l e0 R s m args below meth c Q D A ρ sb maxL (env, h, k, sl, q_pc e, lv, stk) := by
  obtain ⟨op, pc, v, a, b, w, t⟩ := e
  subst hop
  obtain ⟨hx, hb, hml, hown, hts, hsp, hA, hin, hscr, hmc, hms, hR1, hR2⟩ := C
  unfold q_s19 at hs
  rcases stk with _ | ⟨x, stk⟩
  · cases hs
  · intro ws tys H locs ls st ⟨hE, hH, hP, hD, hK, hS, hL, hT⟩
    obtain ⟨xv, st, rfl, hxv, hT9⟩ := hT.cons
    clear hT
    have hT := hT9
    clear hT9
    rcases q_bf hs with ⟨hk, hs⟩ | ⟨hk, hs⟩
    · have hg := q_go_in hs hn
      simp only [Bool.and_eq_true, q_blt, q_ble, decide_eq_true_eq] at hk
      obtain ⟨⟨h6, hlt⟩, hkd⟩ := hk
      obtain ⟨a0, e1, he, rfl⟩ := hxv.c6 h6
      have hg := hg ws tys H locs ls (.int (Int32.ofNat (h.1.get x.2).2.1) :: st) ⟨hE, hH, hP, hD, hK, hS, hL, rfl, hT⟩
      rcases hH.2.2.1 _ _ _ he with ⟨h1, -⟩ | ⟨ty, -, cA, f, t0, rfl, h2, -⟩ | ⟨-, cA, f, t0, rfl, h2, -⟩ | ⟨ty, -, cA, f, t0, rfl, h2, -⟩
      · have h1 : (h.1.get x.2).1 < 100 := h1
        omega
      · exact va_alen hx hb hK hP x.2 t0 he h2 rfl hdec hg
      · exact va_alen hx hb hK hP x.2 t0 he h2 rfl hdec hg
      · exact va_alen hx hb hK hP x.2 t0 he h2 rfl hdec hg
    · obtain ⟨hk, hs⟩ := q_bt hs
      have hg := q_go_in hs hn
      rw [Bool.and_eq_true] at hk
      obtain ⟨x1, x2⟩ := x
      have ht0 : x1 = 9 := Nat.eq_of_beq_eq_true hk.2
      subst ht0
      have ex : xv = .ref (sb.1 0) := hxv
      subst ex
      obtain ⟨g1, g2, g3⟩ := hscr hk.1
      exact va_slen hx hb g1 g2 g3 hS hdec (hg ws tys H locs ls _ ⟨hE, hH, hP, hD, hK, hS, hL, rfl, hT⟩)
theorem q_aldA {cells slots a : Nat} {tys : List (ClassId × FieldType)} {ws : va_W} (hexec : p.tables.exec = Jvm.exec) (hb : c.code = bytes) (hK : va_K D vwCl tys s) (hP : va_P D vwCl ws H) (q0 t0 : Nat) {cA : ClassId} {n : Nat} {f : Nat → Option Nat} (ha : ws[q0]? = some (a, .inl (cA, n, .inr (.inr (.inr (.inr f)))))) (ht : tys[t0]? = some (cA, .array .int)) {i : Int32} (hin : vp_in i n) (hdg : decode bytes pc = .ok (.aaload, 1))
    (kk : W p l e0 R s m args below meth c H locs cells slots Q (F0 m (pc + 1) ls (va_rf (f i.toNatClampNeg) :: rest))) : W p l e0 R s m args below meth c H locs cells slots Q (F0 m pc ls (.int i :: .ref a :: rest)) := by
  have hlt : i.toNatClampNeg < n := Nat.not_le.mp fun q => hin (Or.inr q)
  exact W.aald (v := va_rf (f i.toNatClampNeg)) (ty := .array .int) hexec hb (hP q0 _ ha) ((hK.2 t0 _ ht).1 n (fun j => va_rf (f j))) rfl (fun q => by cases q) (by show ¬ (i < 0 ∨ (arrV _ _ _).slots.size ≤ _); rw [arrV_size]; exact hin) (by show (arrV _ _ _).slots[_]? = _; rw [arrV_read _ _ hlt]) rfl rfl hdg kk
theorem q_ok20 (C : q_Cx p R s m args meth c A ρ sb mc ms scr L own bytes maxL init) (hok : q_ok own init e) (hdec : decode bytes (q_pc e) = .ok (q_ins e)) (hop : e.1 = 20) (hs : q_s20 scr L e env h k sl lv stk = some nx) (hn : ∀ fr ∈ nx, q_WW p l e0 R s m args below meth c Q D A ρ sb maxL fr) : q_WW p l e0 R s m args below meth c Q D A ρ sb maxL (env, h, k, sl, q_pc e, lv, stk) := by
  obtain ⟨op, pc, v, a, b, w, t⟩ := e
  subst hop
  obtain ⟨hx, hb, hml, hown, hts, hsp, hA, hin, hscr, hmc, hms, hR1, hR2⟩ := C
  unfold q_s20 at hs
  rcases stk with _ | ⟨y, _ | ⟨x, stk⟩⟩
  · cases hs
  · cases hs
  · intro ws tys H locs ls st ⟨hE, hH, hP, hD, hK, hS, hL, hT⟩
    obtain ⟨yv, st, rfl, hyv, hT9⟩ := hT.cons
    clear hT
    have hT := hT9
    clear hT9
    obtain ⟨xv, st, rfl, hxv, hT9⟩ := hT.cons
    clear hT
    have hT := hT9
    clear hT9
    rcases q_bf hs with ⟨hy0, hs⟩ | ⟨hy0, hs⟩
    · have ey := hyv.c0 hy0
      subst ey
      rcases q_bf hs with ⟨hk, hs⟩ | ⟨hk, hs⟩
      · have hg := q_go_in hs hn
        simp only [Bool.and_eq_true, q_blt, decide_eq_true_eq] at hk
        obtain ⟨⟨⟨⟨h6, hlt⟩, hkd⟩, hyl⟩, hy31⟩ := hk
        obtain ⟨a0, e1, he, rfl⟩ := hxv.c6 h6
        have hc := hH.2.2.1 _ _ _ he
        have hin := q_in hyl hy31
        have hcl := q_cl hy31
        have hgo : ∀ z : Value, q_RV ρ sb ws ((h.1.get x.2).2.2.get y.2) z → W p l e0 R s m args below meth c H locs k sl Q (F0 m (pc + 1) ls (z :: st)) := fun z hz => hg ws tys H locs ls (z :: st) ⟨hE, hH, hP, hD, hK, hS, hL, hz, hT⟩
        rcases v with _ | _ | _ | v
        · have hkd : (h.1.get x.2).1 = 100 := Nat.eq_of_beq_eq_true hkd
          obtain ⟨cA, f, t0, rfl, ht, hf⟩ := hc.ia (ty := .int) (by rw [hkd]; rfl)
          exact va_iald hx hb hK hP x.2 t0 he ht hin hdec (hgo _ (by rw [hcl]; exact hf _ hyl))
        · have hkd : (Nat.beq (h.1.get x.2).1 101 || Nat.beq (h.1.get x.2).1 102) = true := hkd
          rw [Bool.or_eq_true] at hkd
          rcases hkd with hkd | hkd
          · have hkd : (h.1.get x.2).1 = 101 := Nat.eq_of_beq_eq_true hkd
            obtain ⟨cA, f, t0, rfl, ht, hf⟩ := hc.ia (ty := .byte) (by rw [hkd]; rfl)
            exact va_bald hx hb hK hP x.2 t0 he ht hin hdec (hgo _ (by rw [hcl]; exact hf _ hyl))
          · have hkd : (h.1.get x.2).1 = 102 := Nat.eq_of_beq_eq_true hkd
            obtain ⟨cA, f, t0, rfl, ht, hf⟩ := hc.ia (ty := .boolean) (by rw [hkd]; rfl)
            exact va_zald hx hb hK hP x.2 t0 he ht hin hdec (hgo _ (by rw [hcl]; exact hf _ hyl))
        · have hkd : (h.1.get x.2).1 = 103 := Nat.eq_of_beq_eq_true hkd
          obtain ⟨cA, f, t0, rfl, ht, hf⟩ := hc.la hkd
          exact va_lald hx hb hK hP x.2 t0 he ht hin hdec (hgo _ (by rw [hcl]; exact hf _ hyl))
        · have hkd : 200 ≤ (h.1.get x.2).1 := Nat.le_of_ble_eq_true hkd
          obtain ⟨ty, hr, cA, f, t0, rfl, ht, hf⟩ := hc.ra hkd
          rcases hr with ⟨ci, r, -, -, -, rfl⟩ | ⟨-, rfl⟩
          · exact va_aldq hx hb hK hP x.2 t0 he ht hin hdec (hgo _ (by rw [hcl]; exact hf _ hyl))
          · exact q_aldA hx hb hK hP x.2 t0 he ht hin hdec (hgo _ (by rw [hcl]; exact hf _ hyl))
      · obtain ⟨hk, hs⟩ := q_bt hs
        have hg := q_go_in hs hn
        simp only [Bool.and_eq_true, q_blt, decide_eq_true_eq] at hk
        obtain ⟨⟨⟨⟨hsc, h9⟩, hyl⟩, hy31⟩, hv0⟩ := hk
        obtain ⟨x1, x2⟩ := x
        have ht0 : x1 = 9 := Nat.eq_of_beq_eq_true h9
        subst ht0
        have ex : xv = .ref (sb.1 0) := hxv
        subst ex
        obtain ⟨g1, g2, g3⟩ := hscr hsc
        have hv0 : v = 0 := Nat.eq_of_beq_eq_true hv0
        subst hv0
        refine va_sld hx hb g1 g2 g3 hS (q_in hyl hy31) hdec (hg ws tys H locs ls _ ⟨hE, hH, hP, hD, hK, hS, hL, ?_, hT⟩)
        show Value.int _ = .int (ρ y.2)
        rw [q_cl hy31]
    · obtain ⟨h1, hs⟩ := q_bt hs
      have hg := q_spl_in hs hn
      obtain ⟨q, hq, hE2, hq2⟩ := q_spl_ok hE hyv h1
      exact hg q hq ws tys H locs ls _ ⟨hE2, hH, hP, hD, hK, hS, hL, hq2, hxv, hT⟩
end
