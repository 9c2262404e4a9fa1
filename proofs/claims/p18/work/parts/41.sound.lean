-- 41.sound: arithmetic, compares, branches
section
variable {p : Program} {l : Launch} {e0 : Env} {R : Room} {s : State} {m : MethodId} {args : Array Value} {below : List Frame} {meth : Method} {c : Code} {Q : State → Prop}
variable {D : va_G} {A : Nat → Prop} {ρ : Nat → Int32} {sb : (Nat → Nat) × va_W} {mc ms : Nat} {scr : Bool} {L : Nat} {own : String} {bytes : ByteArray} {maxL : Nat} {init : Bool}
variable {e : qN} {env : qE} {h : qH} {k sl : Nat} {lv : qL} {stk : List qV} {nx : List qF}
variable {H : Heap} {locs : List Loc} {pc : Nat} {ls : Array Slot} {rest : List Value}
theorem q_ok3 (C : q_Cx p R s m args meth c A ρ sb mc ms scr L own bytes maxL init) (hok : q_ok own init e) (hdec : decode bytes (q_pc e) = .ok (q_ins e)) (hop : e.1 = 3) (hs : q_s3 maxL e env h k sl lv stk = some nx) (hn : ∀ fr ∈ nx, q_WW p l e0 R s m args below meth c Q D A ρ sb maxL fr) : q_WW p l e0 R s m args below meth c Q D A ρ sb maxL (env, h, k, sl, q_pc e, lv, stk) := by
  obtain ⟨op, pc, v, a, b, w, t⟩ := e
  subst hop
  obtain ⟨hx, hb, hml, hown, hts, hsp, hA, hin, hscr, hmc, hms, hR1, hR2⟩ := C
  unfold q_s3 at hs
  cases hlg : q_lg lv a with
  | none => simp only [hlg] at hs; cases hs
  | some x =>
    simp only [hlg] at hs
    obtain ⟨hk, hs⟩ := q_bt hs
    rw [Bool.and_eq_true, q_blt] at hk
    obtain ⟨hk, hlt⟩ := hk
    have hk := Nat.eq_of_beq_eq_true hk
    have hlt : a < maxL := of_decide_eq_true hlt
    intro ws tys H locs ls st ⟨hE, hH, hP, hD, hK, hS, hL, hT⟩
    obtain ⟨cl, hl, hLs⟩ := hL
    obtain ⟨x1, hm1, hxv⟩ := hLs.lg hlg
    obtain ⟨c1, rfl⟩ := hxv.int hk
    obtain ⟨j, hj⟩ := List.getElem?_of_mem hm1
    refine lv_iinc hx hb hdec hl hj rfl hlt rfl fun ls' hl' => ?_
    cases hb0 : Nat.beq x.1 0 with
    | true =>
      rw [hb0] at hs
      have hs : (q_fc (qNn (qI x.2 + Int32.ofInt (q_sgn b v))) fun n => q_ls lv a (0, n) fun lv => q_go env h k sl (pc + 3) lv stk) = some nx := hs
      rw [q_fc_eq] at hs
      have hg := q_ls_in hs hn
      refine hg ws tys H locs ls' st ⟨hE, hH, hP, hD, hK, hS, ⟨_, hl', ?_⟩, hT⟩
      refine hLs.set1 ?_
      have ht0 : x.1 = 0 := Nat.eq_of_beq_eq_true hb0
      have hc1 : Value.int c1 = .int (qI x.2) := by
        obtain ⟨x1, x2⟩ := x
        subst ht0
        exact hxv
      have hc1 : c1 = qI x.2 := Value.int.inj hc1
      show Value.int (c1 + _) = .int (qI (qNn _))
      rw [qI_N, hc1]
    | false =>
      rw [hb0] at hs
      have hg := q_ls_in hs hn
      refine hg ws tys H locs ls' st ⟨hE, hH, hP, hD, hK, hS, ⟨_, hl', ?_⟩, hT⟩
      exact hLs.set1 ⟨_, rfl⟩
theorem q_row4 (hx : p.tables.exec = Jvm.exec) (hb : c.code = bytes) (v : Nat) {x y : Int32} (hy : 8 ≤ v → ¬ y = 0) (hdec : decode bytes pc = .ok (q_ins4 v, 1)) {cells slots : Nat}
    (kk : W p l e0 R s m args below meth c H locs cells slots Q (F0 m (pc + 1) ls (.int (q_f4 v x y) :: rest))) : W p l e0 R s m args below meth c H locs cells slots Q (F0 m pc ls (.int y :: .int x :: rest)) := by
  rcases v with _ | _ | _ | _ | _ | _ | _ | _ | _ | v
  · exact lv_iadd hx hb hdec kk
  · exact lv_isub hx hb hdec kk
  · exact lv_imul hx hb hdec kk
  · exact lv_iand hx hb hdec kk
  · exact lv_ior hx hb hdec kk
  · exact lv_ixor hx hb hdec kk
  · exact lv_ishl hx hb hdec kk
  · exact lv_ishr hx hb hdec kk
  · exact lv_idiv hx hb hdec (hy (Nat.le_refl _)) kk
  · exact lv_irem hx hb hdec (hy (by omega)) kk
theorem q_RV.c0 {ws : va_W} {x : qV} {v : Value} (hx : q_RV ρ sb ws x v) (h0 : Nat.beq x.1 0 = true) : v = .int (qI x.2) := by
  have ht0 : x.1 = 0 := Nat.eq_of_beq_eq_true h0
  obtain ⟨x1, x2⟩ := x
  subst ht0
  exact hx
theorem q_RV.c3 {ws : va_W} {x : qV} {v : Value} (hx : q_RV ρ sb ws x v) (h0 : Nat.beq x.1 3 = true) : v = .long (qJ x.2) := by
  have ht0 : x.1 = 3 := Nat.eq_of_beq_eq_true h0
  obtain ⟨x1, x2⟩ := x
  subst ht0
  exact hx
theorem q_spl_in {P : qF → Prop} {x : qV} {g : qE × qV → qF} (hs : some ((q_spl env x).map g) = some nx) (hn : ∀ fr ∈ nx, P fr) : ∀ q ∈ q_spl env x, P (g q) := by
  cases hs
  exact fun q hq => hn _ (List.mem_map.mpr ⟨q, hq, rfl⟩)
theorem q_bf {α : Type} {b : Bool} {x y : Option α} {z : α} (h : (bif b then x else y) = some z) : (b = true ∧ x = some z) ∨ (b = false ∧ y = some z) := by
  cases b
  · exact Or.inr ⟨rfl, h⟩
  · exact Or.inl ⟨rfl, h⟩
theorem q_ok4 (C : q_Cx p R s m args meth c A ρ sb mc ms scr L own bytes maxL init) (hok : q_ok own init e) (hdec : decode bytes (q_pc e) = .ok (q_ins e)) (hop : e.1 = 4) (hs : q_s4 e env h k sl lv stk = some nx) (hn : ∀ fr ∈ nx, q_WW p l e0 R s m args below meth c Q D A ρ sb maxL fr) : q_WW p l e0 R s m args below meth c Q D A ρ sb maxL (env, h, k, sl, q_pc e, lv, stk) := by
  obtain ⟨op, pc, v, a, b, w, t⟩ := e
  subst hop
  obtain ⟨hx, hb, hml, hown, hts, hsp, hA, hin, hscr, hmc, hms, hR1, hR2⟩ := C
  unfold q_s4 at hs
  rcases stk with _ | ⟨y, _ | ⟨x, stk⟩⟩
  · cases hs
  · cases hs
  · obtain ⟨hk, hs⟩ := q_bt hs
    rw [Bool.and_eq_true] at hk
    have hkx := Nat.eq_of_beq_eq_true hk.1
    have hky := Nat.eq_of_beq_eq_true hk.2
    intro ws tys H locs ls st ⟨hE, hH, hP, hD, hK, hS, hL, hT⟩
    obtain ⟨yv, st, rfl, hyv, hT9⟩ := hT.cons
    clear hT
    have hT := hT9
    clear hT9
    obtain ⟨xv, st, rfl, hxv, hT9⟩ := hT.cons
    clear hT
    have hT := hT9
    clear hT9
    cases hc : (Nat.beq x.1 0 && Nat.beq y.1 0) with
    | true =>
      rw [hc] at hs
      rw [Bool.and_eq_true] at hc
      have ex := hxv.c0 hc.1
      have ey := hyv.c0 hc.2
      subst ex; subst ey
      cases hd : (Nat.ble 8 v && decide (qI y.2 = 0)) with
      | true =>
        have hs : (bif Nat.ble 8 v && decide (qI y.2 = 0) then none else _ : Option (List qF)) = some nx := hs
        rw [hd] at hs
        cases hs
      | false =>
        have hs : (bif Nat.ble 8 v && decide (qI y.2 = 0) then none else q_gv env h k sl (pc + 1) lv 0 (qNn (q_f4 v (qI x.2) (qI y.2))) stk : Option (List qF)) = some nx := hs
        rw [hd] at hs
        have hg := q_gv_in hs hn
        refine q_row4 hx hb v (fun h8 hy0 => ?_) hdec (hg ws tys H locs ls _ ⟨hE, hH, hP, hD, hK, hS, hL, ?_, hT⟩)
        · rw [Nat.ble_eq_true_of_le h8, decide_eq_true hy0] at hd
          cases hd
        · show Value.int _ = .int (qI (qNn _))
          rw [qI_N]
    | false =>
      rw [hc] at hs
      cases h1 : q_isPt env y with
      | true =>
        have hs : (bif q_isPt env y then some ((q_spl env y).map fun q => (q.1, h, k, sl, pc, lv, q.2 :: x :: stk)) else _ : Option (List qF)) = some nx := hs
        rw [h1] at hs
        have hg := q_spl_in hs hn
        obtain ⟨q, hq, hE2, hq2⟩ := q_spl_ok hE hyv h1
        exact hg q hq ws tys H locs ls _ ⟨hE2, hH, hP, hD, hK, hS, hL, hq2, hxv, hT⟩
      | false =>
        have hs : (bif q_isPt env y then _ else (bif q_isPt env x then some ((q_spl env x).map fun q => (q.1, h, k, sl, pc, lv, y :: q.2 :: stk)) else bif Nat.ble v 1 && Nat.beq y.1 0 && (Nat.beq x.1 1 && Nat.blt x.2 16 || Nat.beq x.1 10) then q_gv env h k sl (pc + 1) lv 10 (x.2 % 16 + 16 * qNn (q_f4 v (qI (x.2 / 16)) (qI y.2))) stk else bif Nat.ble 8 v && !(Nat.beq y.1 0 && !decide (qI y.2 = 0)) then none else q_go env h k sl (pc + 1) lv ((2, 0) :: stk)) : Option (List qF)) = some nx := hs
        rw [h1] at hs
        have hs : (bif q_isPt env x then some ((q_spl env x).map fun q => (q.1, h, k, sl, pc, lv, y :: q.2 :: stk)) else bif Nat.ble v 1 && Nat.beq y.1 0 && (Nat.beq x.1 1 && Nat.blt x.2 16 || Nat.beq x.1 10) then q_gv env h k sl (pc + 1) lv 10 (x.2 % 16 + 16 * qNn (q_f4 v (qI (x.2 / 16)) (qI y.2))) stk else bif Nat.ble 8 v && !(Nat.beq y.1 0 && !decide (qI y.2 = 0)) then none else q_go env h k sl (pc + 1) lv ((2, 0) :: stk) : Option (List qF)) = some nx := hs
        cases h2 : q_isPt env x with
        | true =>
          rw [h2] at hs
          have hg := q_spl_in hs hn
          obtain ⟨q, hq, hE2, hq2⟩ := q_spl_ok hE hxv h2
          exact hg q hq ws tys H locs ls _ ⟨hE2, hH, hP, hD, hK, hS, hL, hyv, hq2, hT⟩
        | false =>
          rw [h2] at hs
          have hs : (bif Nat.ble v 1 && Nat.beq y.1 0 && (Nat.beq x.1 1 && Nat.blt x.2 16 || Nat.beq x.1 10) then q_gv env h k sl (pc + 1) lv 10 (x.2 % 16 + 16 * qNn (q_f4 v (qI (x.2 / 16)) (qI y.2))) stk else bif Nat.ble 8 v && !(Nat.beq y.1 0 && !decide (qI y.2 = 0)) then none else q_go env h k sl (pc + 1) lv ((2, 0) :: stk) : Option (List qF)) = some nx := hs
          rcases q_bf hs with ⟨ha, hs⟩ | ⟨ha, hs⟩
          · simp only [Bool.and_eq_true, Bool.or_eq_true, q_ble, q_blt, decide_eq_true_eq] at ha
            obtain ⟨⟨hv1, hy0⟩, hxx⟩ := ha
            have ey := hyv.c0 hy0
            subst ey
            have ex : xv = .int (ρ (x.2 % 16) + qI (x.2 / 16)) := by
              rcases hxx with ⟨q1, q2⟩ | q1
              · have ht0 : x.1 = 1 := Nat.eq_of_beq_eq_true q1
                obtain ⟨x1, x2⟩ := x
                subst ht0
                have hxv : xv = .int (ρ x2) := hxv
                have q2 : x2 < 16 := q2
                have r1 : x2 % 16 = x2 := Nat.mod_eq_of_lt q2
                have r2 : x2 / 16 = 0 := Nat.div_eq_of_lt q2
                show xv = .int (ρ (x2 % 16) + qI (x2 / 16))
                rw [r1, r2, hxv]
                show Value.int (ρ x2) = .int (ρ x2 + 0)
                rw [Int32.add_zero]
              · have ht0 : x.1 = 10 := Nat.eq_of_beq_eq_true q1
                obtain ⟨x1, x2⟩ := x
                subst ht0
                exact hxv
            subst ex
            have hg := q_gv_in hs hn
            refine q_row4 hx hb v (fun h8 => by omega) hdec (hg ws tys H locs ls _ ⟨hE, hH, hP, hD, hK, hS, hL, ?_, hT⟩)
            show Value.int _ = .int (ρ ((x.2 % 16 + 16 * qNn (q_f4 v (qI (x.2 / 16)) (qI y.2))) % 16) + qI ((x.2 % 16 + 16 * qNn (q_f4 v (qI (x.2 / 16)) (qI y.2))) / 16))
            have r1 : (x.2 % 16 + 16 * qNn (q_f4 v (qI (x.2 / 16)) (qI y.2))) % 16 = x.2 % 16 := by omega
            have r2 : (x.2 % 16 + 16 * qNn (q_f4 v (qI (x.2 / 16)) (qI y.2))) / 16 = qNn (q_f4 v (qI (x.2 / 16)) (qI y.2)) := by omega
            rw [r1, r2, qI_N]
            rcases v with _ | _ | v
            · show Value.int (_ + _ + _) = .int (_ + (_ + _))
              rw [Int32.add_assoc]
            · show Value.int (_ + _ - _) = .int (_ + (_ - _))
              rw [Int32.sub_eq_add_neg, Int32.sub_eq_add_neg, Int32.add_assoc]
            · omega
          · have hs : (bif Nat.ble 8 v && !(Nat.beq y.1 0 && !decide (qI y.2 = 0)) then none else q_go env h k sl (pc + 1) lv ((2, 0) :: stk) : Option (List qF)) = some nx := hs
            cases hd : (Nat.ble 8 v && !(Nat.beq y.1 0 && !decide (qI y.2 = 0))) with
            | true => rw [hd] at hs; cases hs
            | false =>
              rw [hd] at hs
              have hg := q_go_in hs hn
              obtain ⟨xc, rfl⟩ := hxv.int hkx
              obtain ⟨yc, rfl⟩ := hyv.int hky
              refine q_row4 hx hb v (fun h8 hy0 => ?_) hdec (hg ws tys H locs ls _ ⟨hE, hH, hP, hD, hK, hS, hL, ⟨_, rfl⟩, hT⟩)
              rw [Nat.ble_eq_true_of_le h8] at hd
              cases hb0 : Nat.beq y.1 0 with
              | false => rw [hb0] at hd; cases hd
              | true =>
                rw [hb0] at hd
                have ey := Value.int.inj (hyv.c0 hb0)
                rw [← ey, decide_eq_true hy0] at hd
                cases hd
theorem q_row5 (hx : p.tables.exec = Jvm.exec) (hb : c.code = bytes) (v : Nat) (hv7 : v < 7) {x y : Int64} (hy : 5 ≤ v → ¬ y = 0) (hdec : decode bytes pc = .ok (q_ins5 v, 1)) {cells slots : Nat}
    (kk : W p l e0 R s m args below meth c H locs cells slots Q (F0 m (pc + 1) ls (.long (q_f5 v x y) :: rest))) : W p l e0 R s m args below meth c H locs cells slots Q (F0 m pc ls (.long y :: .long x :: rest)) := by
  rcases v with _ | _ | _ | _ | _ | _ | _ | v
  · exact lv_ladd hx hb hdec kk
  · exact lv_lsub hx hb hdec kk
  · exact lv_lmul hx hb hdec kk
  · exact lv_land hx hb hdec kk
  · exact lv_lor hx hb hdec kk
  · exact lv_ldiv hx hb hdec (hy (by omega)) kk
  · exact lv_lrem hx hb hdec (hy (by omega)) kk
  · omega
theorem q_ok5 (C : q_Cx p R s m args meth c A ρ sb mc ms scr L own bytes maxL init) (hok : q_ok own init e) (hdec : decode bytes (q_pc e) = .ok (q_ins e)) (hop : e.1 = 5) (hs : q_s5 e env h k sl lv stk = some nx) (hn : ∀ fr ∈ nx, q_WW p l e0 R s m args below meth c Q D A ρ sb maxL fr) : q_WW p l e0 R s m args below meth c Q D A ρ sb maxL (env, h, k, sl, q_pc e, lv, stk) := by
  obtain ⟨op, pc, v, a, b, w, t⟩ := e
  subst hop
  obtain ⟨hx, hb, hml, hown, hts, hsp, hA, hin, hscr, hmc, hms, hR1, hR2⟩ := C
  unfold q_s5 at hs
  rcases stk with _ | ⟨y, _ | ⟨x, stk⟩⟩
  · cases hs
  · cases hs
  · intro ws tys H locs ls st ⟨hE, hH, hP, hD, hK, hS, hL, hT⟩
    obtain ⟨yv, st, rfl, hyv, hT9⟩ := hT.cons
    clear hT
    have hT := hT9
    clear hT9
    obtain ⟨xv, st, rfl, hxv, hT9⟩ := hT.cons
    clear hT
    have hT := hT9
    clear hT9
    rcases q_bf hs with ⟨h7, hs⟩ | ⟨h7, hs⟩
    · have h7 : 7 ≤ v := Nat.le_of_ble_eq_true h7
      obtain ⟨u, rfl⟩ : ∃ u, v = u + 7 := ⟨v - 7, by omega⟩
      rcases q_bf hs with ⟨hc, hs⟩ | ⟨hc, hs⟩
      · rw [Bool.and_eq_true] at hc
        have ex := hxv.c3 hc.1
        have ey := hyv.c0 hc.2
        subst ex; subst ey
        have hg := q_gv_in hs hn
        exact lv_lshl hx hb hdec rfl (hg ws tys H locs ls _ ⟨hE, hH, hP, hD, hK, hS, hL, (by show Value.long _ = .long (qJ (qMn _)); rw [qJ_M]), hT⟩)
      · obtain ⟨hk, hs⟩ := q_bt hs
        rw [Bool.and_eq_true] at hk
        obtain ⟨xc, rfl⟩ := hxv.long (Nat.eq_of_beq_eq_true hk.1)
        obtain ⟨yc, rfl⟩ := hyv.int (Nat.eq_of_beq_eq_true hk.2)
        have hg := q_go_in hs hn
        exact lv_lshl hx hb hdec rfl (hg ws tys H locs ls _ ⟨hE, hH, hP, hD, hK, hS, hL, ⟨_, rfl⟩, hT⟩)
    · have h7 : v < 7 := by
        rw [q_ble] at h7
        exact Nat.not_le.mp (of_decide_eq_false h7)
      obtain ⟨hk, hs⟩ := q_bt hs
      rw [Bool.and_eq_true] at hk
      rcases q_bf hs with ⟨hc, hs⟩ | ⟨hc, hs⟩
      · rw [Bool.and_eq_true] at hc
        have ex := hxv.c3 hc.1
        have ey := hyv.c3 hc.2
        subst ex; subst ey
        rcases q_bf hs with ⟨hd, hs⟩ | ⟨hd, hs⟩
        · cases hs
        · have hg := q_gv_in hs hn
          refine q_row5 hx hb v h7 (fun h8 hy0 => ?_) hdec (hg ws tys H locs ls _ ⟨hE, hH, hP, hD, hK, hS, hL, ?_, hT⟩)
          · have hd : (Nat.ble 5 v && decide (qJ y.2 = 0)) = false := hd
            rw [Nat.ble_eq_true_of_le h8, decide_eq_true hy0] at hd
            cases hd
          · show Value.long _ = .long (qJ (qMn _))
            rw [qJ_M]
      · rcases q_bf hs with ⟨hd, hs⟩ | ⟨hd, hs⟩
        · cases hs
        · have hg := q_go_in hs hn
          obtain ⟨xc, rfl⟩ := hxv.long (Nat.eq_of_beq_eq_true hk.1)
          obtain ⟨yc, rfl⟩ := hyv.long (Nat.eq_of_beq_eq_true hk.2)
          refine q_row5 hx hb v h7 (fun h8 => ?_) hdec (hg ws tys H locs ls _ ⟨hE, hH, hP, hD, hK, hS, hL, ⟨_, rfl⟩, hT⟩)
          have hd : Nat.ble 5 v = false := hd
          rw [Nat.ble_eq_true_of_le h8] at hd
          cases hd
theorem q_ok6 (C : q_Cx p R s m args meth c A ρ sb mc ms scr L own bytes maxL init) (hok : q_ok own init e) (hdec : decode bytes (q_pc e) = .ok (q_ins e)) (hop : e.1 = 6) (hs : q_s6 e env h k sl lv stk = some nx) (hn : ∀ fr ∈ nx, q_WW p l e0 R s m args below meth c Q D A ρ sb maxL fr) : q_WW p l e0 R s m args below meth c Q D A ρ sb maxL (env, h, k, sl, q_pc e, lv, stk) := by
  obtain ⟨op, pc, v, a, b, w, t⟩ := e
  subst hop
  obtain ⟨hx, hb, hml, hown, hts, hsp, hA, hin, hscr, hmc, hms, hR1, hR2⟩ := C
  unfold q_s6 at hs
  rcases stk with _ | ⟨x, stk⟩
  · cases hs
  · intro ws tys H locs ls st ⟨hE, hH, hP, hD, hK, hS, hL, hT⟩
    obtain ⟨xv, st, rfl, hxv, hT9⟩ := hT.cons
    clear hT
    have hT := hT9
    clear hT9
    obtain ⟨hk, hs⟩ := q_bt hs
    have hk := Nat.eq_of_beq_eq_true hk
    have hg := q_gv_in hs hn
    have hgo : ∀ (z : Value), q_RV ρ sb ws ((q_s6v v x).1, (q_s6v v x).2) z → W p l e0 R s m args below meth c H locs k sl Q (F0 m (pc + 1) ls (z :: st)) := fun z hz => hg ws tys H locs ls (z :: st) ⟨hE, hH, hP, hD, hK, hS, hL, hz, hT⟩
    rcases v with _ | _ | _ | v
    · obtain ⟨xc, rfl⟩ := hxv.int hk
      refine lv_i2l hx hb hdec rfl (hgo _ ?_)
      show q_RV ρ sb ws (bif Nat.beq x.1 0 then (3, qMn (qI x.2).toInt64) else bif Nat.beq x.1 1 then (4, x.2) else (5, 0)) _
      cases h0 : Nat.beq x.1 0 with
      | true =>
        have := Value.int.inj (hxv.c0 h0)
        show Value.long _ = .long (qJ (qMn _))
        rw [qJ_M, this]
      | false =>
        cases h1 : Nat.beq x.1 1 with
        | true =>
          have ht0 : x.1 = 1 := Nat.eq_of_beq_eq_true h1
          obtain ⟨x1, x2⟩ := x
          subst ht0
          have : Value.int xc = .int (ρ x2) := hxv
          have := Value.int.inj this
          show Value.long _ = .long (ρ x2).toInt64
          rw [this]
        | false => exact ⟨_, rfl⟩
    · obtain ⟨xc, rfl⟩ := hxv.long hk
      refine lv_l2i hx hb hdec rfl (hgo _ ?_)
      show q_RV ρ sb ws (bif Nat.beq x.1 3 then (0, qNn (qJ x.2).toInt32) else (2, 0)) _
      cases h0 : Nat.beq x.1 3 with
      | true =>
        have := Value.long.inj (hxv.c3 h0)
        show Value.int _ = .int (qI (qNn _))
        rw [qI_N, this]
      | false => exact ⟨_, rfl⟩
    · obtain ⟨xc, rfl⟩ := hxv.int hk
      refine lv_i2b hx hb hdec rfl (hgo _ ?_)
      show q_RV ρ sb ws (bif Nat.beq x.1 0 then (0, qNn (qI x.2).toInt8.toInt32) else (2, 0)) _
      cases h0 : Nat.beq x.1 0 with
      | true =>
        have := Value.int.inj (hxv.c0 h0)
        show Value.int _ = .int (qI (qNn _))
        rw [qI_N, this]
      | false => exact ⟨_, rfl⟩
    · have hk : q_knd x = 0 := by
        have e1 : Nat.beq (v + 1 + 1 + 1) 1 = false := by rw [q_beq]; exact decide_eq_false (by omega)
        have hk : q_knd x = bif Nat.beq (v + 1 + 1 + 1) 1 then 1 else 0 := hk
        rw [hk, e1]
        rfl
      obtain ⟨xc, rfl⟩ := hxv.int hk
      refine lv_i2s hx hb hdec rfl (hgo _ ?_)
      show q_RV ρ sb ws (bif Nat.beq x.1 0 then (0, qNn (qI x.2).toInt16.toInt32) else (2, 0)) _
      cases h0 : Nat.beq x.1 0 with
      | true =>
        have := Value.int.inj (hxv.c0 h0)
        show Value.int _ = .int (qI (qNn _))
        rw [qI_N, this]
      | false => exact ⟨_, rfl⟩
theorem q_row8 (hx : p.tables.exec = Jvm.exec) (hb : c.code = bytes) (v : Nat) {x : Int32} {o : Int} {tgt : Nat} (hdec : decode bytes pc = .ok (q_ins8 v o, 3)) (ht : (pc : Int) + o = (tgt : Int)) {cells slots : Nat}
    (kk : W p l e0 R s m args below meth c H locs cells slots Q (F0 m (bif q_op v x 0 then tgt else pc + 3) ls rest)) : W p l e0 R s m args below meth c H locs cells slots Q (F0 m pc ls (.int x :: rest)) := by
  have kt : q_op v x 0 = true → W p l e0 R s m args below meth c H locs cells slots Q (F0 m tgt ls rest) := fun q => by rw [q] at kk; exact kk
  have kf : q_op v x 0 = false → W p l e0 R s m args below meth c H locs cells slots Q (F0 m (pc + 3) ls rest) := fun q => by rw [q] at kk; exact kk
  rcases v with _ | _ | _ | _ | _ | v
  · exact lv_if_eq hx hb hdec ht (fun q => kt (by simp [q_op, q])) (fun q => kf (by simp [q_op, q]))
  · exact lv_if_ne hx hb hdec ht (fun q => kt (by simp [q_op, q])) (fun q => kf (by simp [q_op, q]))
  · exact lv_if_lt hx hb hdec ht (fun q => kt (by simp [q_op, q])) (fun q => kf (by simp only [q_op, decide_eq_false q]))
  · exact lv_if_ge hx hb hdec ht (fun q => kt (by simp only [q_op, decide_eq_false (Int32.not_lt.mpr q)]; rfl)) (fun q => kf (by simp only [q_op, decide_eq_true (Int32.not_le.mp q)]; rfl))
  · exact lv_if_gt hx hb hdec ht (fun q => kt (by simp [q_op, q])) (fun q => kf (by simp only [q_op, decide_eq_false q]))
  · exact lv_if_le hx hb hdec ht (fun q => kt (by simp only [q_op, decide_eq_false (Int32.not_lt.mpr q)]; rfl)) (fun q => kf (by simp only [q_op, decide_eq_true (Int32.not_le.mp q)]; rfl))
theorem q_row9 (hx : p.tables.exec = Jvm.exec) (hb : c.code = bytes) (v : Nat) {x y : Int32} {o : Int} {tgt : Nat} (hdec : decode bytes pc = .ok (q_ins9 v o, 3)) (ht : (pc : Int) + o = (tgt : Int)) {cells slots : Nat}
    (kk : W p l e0 R s m args below meth c H locs cells slots Q (F0 m (bif q_op v x y then tgt else pc + 3) ls rest)) : W p l e0 R s m args below meth c H locs cells slots Q (F0 m pc ls (.int y :: .int x :: rest)) := by
  have kt : q_op v x y = true → W p l e0 R s m args below meth c H locs cells slots Q (F0 m tgt ls rest) := fun q => by rw [q] at kk; exact kk
  have kf : q_op v x y = false → W p l e0 R s m args below meth c H locs cells slots Q (F0 m (pc + 3) ls rest) := fun q => by rw [q] at kk; exact kk
  rcases v with _ | _ | _ | _ | _ | v
  · exact lv_icmp_eq hx hb hdec ht (fun q => kt (by simp [q_op, q])) (fun q => kf (by simp [q_op, q]))
  · exact lv_icmp_ne hx hb hdec ht (fun q => kt (by simp [q_op, q])) (fun q => kf (by simp [q_op, q]))
  · exact lv_icmp_lt hx hb hdec ht (fun q => kt (by simp [q_op, q])) (fun q => kf (by simp only [q_op, decide_eq_false q]))
  · exact lv_icmp_ge hx hb hdec ht (fun q => kt (by simp only [q_op, decide_eq_false (Int32.not_lt.mpr q)]; rfl)) (fun q => kf (by simp only [q_op, decide_eq_true (Int32.not_le.mp q)]; rfl))
  · exact lv_icmp_gt hx hb hdec ht (fun q => kt (by simp [q_op, q])) (fun q => kf (by simp only [q_op, decide_eq_false q]))
  · exact lv_icmp_le hx hb hdec ht (fun q => kt (by simp only [q_op, decide_eq_false (Int32.not_lt.mpr q)]; rfl)) (fun q => kf (by simp only [q_op, decide_eq_true (Int32.not_le.mp q)]; rfl))
theorem q_map_in {α : Type} {P : qF → Prop} {xs : List α} {g : α → qF} (hs : some (xs.map g) = some nx) (hn : ∀ fr ∈ nx, P fr) : ∀ q ∈ xs, P (g q) := by
  cases hs
  exact fun q hq => hn _ (List.mem_map.mpr ⟨q, hq, rfl⟩)
theorem q_ok8 (C : q_Cx p R s m args meth c A ρ sb mc ms scr L own bytes maxL init) (hok : q_ok own init e) (hdec : decode bytes (q_pc e) = .ok (q_ins e)) (hop : e.1 = 8) (hs : q_s8 e env h k sl lv stk = some nx) (hn : ∀ fr ∈ nx, q_WW p l e0 R s m args below meth c Q D A ρ sb maxL fr) : q_WW p l e0 R s m args below meth c Q D A ρ sb maxL (env, h, k, sl, q_pc e, lv, stk) := by
  obtain ⟨op, pc, v, a, b, w, t⟩ := e
  subst hop
  obtain ⟨hx, hb, hml, hown, hts, hsp, hA, hin, hscr, hmc, hms, hR1, hR2⟩ := C
  unfold q_s8 at hs
  rcases stk with _ | ⟨x, stk⟩
  · cases hs
  · intro ws tys H locs ls st ⟨hE, hH, hP, hD, hK, hS, hL, hT⟩
    obtain ⟨xv, st, rfl, hxv, hT9⟩ := hT.cons
    clear hT
    have hT := hT9
    clear hT9
    obtain ⟨hk, hs⟩ := q_bt hs
    obtain ⟨xc, rfl⟩ := hxv.int (Nat.eq_of_beq_eq_true hk)
    have hg := q_map_in hs hn
    obtain ⟨q, hq, h1, hE2⟩ := q_cmp_ok hE v hxv (y := (0, 0)) (c := 0) (by rfl)
    have hg := hg q hq
    rw [q_fc_eq] at hg
    refine q_row8 hx hb v hdec (q_off_eq pc a) ?_
    rw [← h1]
    exact hg ws tys H locs ls st ⟨hE2, hH, hP, hD, hK, hS, hL, hT⟩
theorem q_ok9 (C : q_Cx p R s m args meth c A ρ sb mc ms scr L own bytes maxL init) (hok : q_ok own init e) (hdec : decode bytes (q_pc e) = .ok (q_ins e)) (hop : e.1 = 9) (hs : q_s9 e env h k sl lv stk = some nx) (hn : ∀ fr ∈ nx, q_WW p l e0 R s m args below meth c Q D A ρ sb maxL fr) : q_WW p l e0 R s m args below meth c Q D A ρ sb maxL (env, h, k, sl, q_pc e, lv, stk) := by
  obtain ⟨op, pc, v, a, b, w, t⟩ := e
  subst hop
  obtain ⟨hx, hb, hml, hown, hts, hsp, hA, hin, hscr, hmc, hms, hR1, hR2⟩ := C
  unfold q_s9 at hs
  rcases stk with _ | ⟨y, _ | ⟨x, stk⟩⟩
  · cases hs
  · cases hs
  · intro ws tys H locs ls st ⟨hE, hH, hP, hD, hK, hS, hL, hT⟩
    obtain ⟨yv, st, rfl, hyv, hT9⟩ := hT.cons
    clear hT
    have hT := hT9
    clear hT9
    obtain ⟨xv, st, rfl, hxv, hT9⟩ := hT.cons
    clear hT
    have hT := hT9
    clear hT9
    rcases q_bf hs with ⟨hk, hs⟩ | ⟨-, hs⟩
    · rw [Bool.and_eq_true] at hk
      have hg := q_spl_in hs hn
      obtain ⟨q, hq, hE2, hq2⟩ := q_spl_ok hE hyv hk.2
      exact hg q hq ws tys H locs ls _ ⟨hE2, hH, hP, hD, hK, hS, hL, hq2, hxv, hT⟩
    · rcases q_bf hs with ⟨hk, hs⟩ | ⟨-, hs⟩
      · rw [Bool.and_eq_true] at hk
        have hg := q_spl_in hs hn
        obtain ⟨q, hq, hE2, hq2⟩ := q_spl_ok hE hxv hk.2
        exact hg q hq ws tys H locs ls _ ⟨hE2, hH, hP, hD, hK, hS, hL, hyv, hq2, hT⟩
      · obtain ⟨hk, hs⟩ := q_bt hs
        rw [Bool.and_eq_true] at hk
        obtain ⟨xc, rfl⟩ := hxv.int (Nat.eq_of_beq_eq_true hk.1)
        obtain ⟨yc, rfl⟩ := hyv.int (Nat.eq_of_beq_eq_true hk.2)
        have hg := q_map_in hs hn
        obtain ⟨q, hq, h1, hE2⟩ := q_cmp_ok hE v hxv hyv
        have hg := hg q hq
        rw [q_fc_eq] at hg
        refine q_row9 hx hb v hdec (q_off_eq pc a) ?_
        rw [← h1]
        exact hg ws tys H locs ls st ⟨hE2, hH, hP, hD, hK, hS, hL, hT⟩
theorem q_ok10 (C : q_Cx p R s m args meth c A ρ sb mc ms scr L own bytes maxL init) (hok : q_ok own init e) (hdec : decode bytes (q_pc e) = .ok (q_ins e)) (hop : e.1 = 10) (hs : q_go env h k sl (q_a e) lv stk = some nx) (hn : ∀ fr ∈ nx, q_WW p l e0 R s m args below meth c Q D A ρ sb maxL fr) : q_WW p l e0 R s m args below meth c Q D A ρ sb maxL (env, h, k, sl, q_pc e, lv, stk) := by
  obtain ⟨op, pc, v, a, b, w, t⟩ := e
  subst hop
  obtain ⟨hx, hb, hml, hown, hts, hsp, hA, hin, hscr, hmc, hms, hR1, hR2⟩ := C
  have hg := q_go_in hs hn
  intro ws tys H locs ls st ⟨hE, hH, hP, hD, hK, hS, hL, hT⟩
  exact lv_goto hx hb hdec (q_off_eq pc a) (hg ws tys H locs ls st ⟨hE, hH, hP, hD, hK, hS, hL, hT⟩)
theorem q_ok11 (C : q_Cx p R s m args meth c A ρ sb mc ms scr L own bytes maxL init) (hok : q_ok own init e) (hdec : decode bytes (q_pc e) = .ok (q_ins e)) (hop : e.1 = 11) (hs : q_s11 e env h k sl lv stk = some nx) (hn : ∀ fr ∈ nx, q_WW p l e0 R s m args below meth c Q D A ρ sb maxL fr) : q_WW p l e0 R s m args below meth c Q D A ρ sb maxL (env, h, k, sl, q_pc e, lv, stk) := by
  obtain ⟨op, pc, v, a, b, w, t⟩ := e
  subst hop
  obtain ⟨hx, hb, hml, hown, hts, hsp, hA, hin, hscr, hmc, hms, hR1, hR2⟩ := C
  unfold q_s11 at hs
  rcases stk with _ | ⟨x, stk⟩
  · cases hs
  · intro ws tys H locs ls st ⟨hE, hH, hP, hD, hK, hS, hL, hT⟩
    obtain ⟨xv, st, rfl, hxv, hT9⟩ := hT.cons
    clear hT
    have hT := hT9
    clear hT9
    obtain ⟨hk, hs⟩ := q_bt hs
    have hg := q_go_in hs hn
    have hg := hg ws tys H locs ls st ⟨hE, hH, hP, hD, hK, hS, hL, hT⟩
    have hg : W p l e0 R s m args below meth c H locs k sl Q (F0 m (bif Nat.beq x.1 7 then a else pc + 3) ls st) := hg
    rcases hxv.rf (Nat.eq_of_beq_eq_true hk) with ⟨h7, rfl⟩ | ⟨h7, a1, rfl⟩
    · rw [h7] at hg
      exact lv_ifnullN hx hb hdec (q_off_eq pc a) hg
    · have e1 : Nat.beq x.1 7 = false := by rw [q_beq]; exact decide_eq_false h7
      rw [e1] at hg
      exact lv_ifnull hx hb hdec hg
theorem q_ok27 (C : q_Cx p R s m args meth c A ρ sb mc ms scr L own bytes maxL init) (hok : q_ok own init e) (hdec : decode bytes (q_pc e) = .ok (q_ins e)) (hop : e.1 = 27) (hs : q_s27 e env h k sl lv stk = some nx) (hn : ∀ fr ∈ nx, q_WW p l e0 R s m args below meth c Q D A ρ sb maxL fr) : q_WW p l e0 R s m args below meth c Q D A ρ sb maxL (env, h, k, sl, q_pc e, lv, stk) := by
  obtain ⟨op, pc, v, a, b, w, t⟩ := e
  subst hop
  obtain ⟨hx, hb, hml, hown, hts, hsp, hA, hin, hscr, hmc, hms, hR1, hR2⟩ := C
  unfold q_s27 at hs
  rcases stk with _ | ⟨x, stk⟩
  · cases hs
  · intro ws tys H locs ls st ⟨hE, hH, hP, hD, hK, hS, hL, hT⟩
    obtain ⟨xv, st, rfl, hxv, hT9⟩ := hT.cons
    clear hT
    have hT := hT9
    clear hT9
    obtain ⟨hk, hs⟩ := q_bt hs
    have hg := q_go_in hs hn
    have hg := hg ws tys H locs ls st ⟨hE, hH, hP, hD, hK, hS, hL, hT⟩
    have hg : W p l e0 R s m args below meth c H locs k sl Q (F0 m (bif Nat.beq x.1 7 then pc + 3 else a) ls st) := hg
    rcases hxv.rf (Nat.eq_of_beq_eq_true hk) with ⟨h7, rfl⟩ | ⟨h7, a1, rfl⟩
    · rw [h7] at hg
      exact lv_ifnonnullN hx hb hdec hg
    · have e1 : Nat.beq x.1 7 = false := by rw [q_beq]; exact decide_eq_false h7
      rw [e1] at hg
      exact lv_ifnonnull hx hb hdec (q_off_eq pc a) hg
end
