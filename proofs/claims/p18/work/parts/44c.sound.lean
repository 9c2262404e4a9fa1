-- 44c.sound: the texts' lengths and letters
section
variable {p : Program} {l : Launch} {e0 : Env} {R : Room} {s : State} {m : MethodId} {args : Array Value} {below : List Frame} {meth : Method} {c : Code} {Q : State → Prop}
variable {D : va_G} {A : Nat → Prop} {ρ : Nat → Int32} {sb : (Nat → Nat) × va_W} {mc ms : Nat} {scr : Bool} {L : Nat} {own : String} {bytes : ByteArray} {maxL : Nat} {init : Bool}
variable {e : qN} {env : qE} {h : qH} {k sl : Nat} {lv : qL} {stk : List qV} {nx : List qF}
theorem q_ok29 (C : q_Cx p R s m args meth c A ρ sb mc ms scr L own bytes maxL init) (hok : q_ok own init e) (hdec : decode bytes (q_pc e) = .ok (q_ins e)) (hop : e.1 = 29) (hs : q_s29 e env h k sl lv stk = some nx) (hn : ∀ fr ∈ nx, q_WW p l e0 R s m args below meth c Q D A ρ sb maxL fr) : q_WW p l e0 R s m args below meth c Q D A ρ sb maxL (env, h, k, sl, q_pc e, lv, stk) := by
  obtain ⟨op, pc, v, a, b, w, t⟩ := e
  subst hop
  obtain ⟨hx, hb, hml, hown, hts, hsp, hA, hin, hscr, hmc, hms, hR1, hR2⟩ := C
  unfold q_s29 at hs
  rcases stk with _ | ⟨x, stk⟩
  · cases hs
  · intro ws tys H locs ls st ⟨hE, hH, hP, hD, hK, hS, hL, hT⟩
    obtain ⟨xv, st, rfl, hxv, hT9⟩ := hT.cons
    obtain ⟨hc, hs⟩ := q_bt hs
    simp only [Bool.and_eq_true] at hc
    obtain ⟨⟨⟨⟨c1, c2⟩, c3⟩, c4⟩, c5⟩ := hc
    obtain ⟨t0, i⟩ := x
    have ht : t0 = 11 := Nat.eq_of_beq_eq_true c1
    subst ht
    have hxv : xv = .ref (sb.1 (i + 1)) := hxv
    subst hxv
    have hk : k = 0 := Nat.eq_of_beq_eq_true c4
    have hsl : sl = 0 := Nat.eq_of_beq_eq_true c5
    subst hk; subst hsl
    have hi : i < 26 := by
      have c2 : Nat.blt i q_lits.length = true := c2
      rw [q_blt] at c2
      exact of_decide_eq_true c2
    have h8 : (st.map fun v => v.category).sum ≤ 8 := by rw [hT9.cats]; exact Nat.le_of_ble_eq_true c3
    obtain ⟨cl, hl, hLs⟩ := hL
    have hJ : q_JT sb.1 A s s.heap := hin.2.2
    have hJ2 := hJ
    obtain ⟨⟨ad, hV⟩, -, -⟩ := hJ2
    have hdec : decode bytes pc = .ok (.invokevirtual a, 3) := hdec
    have hok : Cond.methodLink own a yJ0_length_8abf5 ∈ qWS := hok
    have hg := q_gv_in hs hn
    have hcall := W.runV (rest := st) (H := H) (locs := locs) (cells := 0) (slots := 0) (g := F0 m pc ls (.ref (sb.1 (i + 1)) :: st)) (As := []) (b := sb.1 (i + 1)) (C := "java/lang/String") (below := below) (meth := meth) (e := e0) (R := R) ⟨hx, hb, hml, hown, hts⟩ (q_jc4 (l := l) (b := sb.1) hi) ⟨callB_of 0 hts (q_jgood (y := yJ0_length_8abf5) (cc := cJ0_length_8abf5) (mL := 1) (ret := some .int) (q_has_mem (n := 3149) (by decide +kernel))) rfl rfl rfl (hts _ (q_has_mem (n := 1016) (w := Cond.initialized "java/lang/String") (by decide +kernel))) (hts _ hok) ⟨by decide, by decide, by decide +kernel⟩ ⟨by show 1 + 1 + 1 ≤ R.frames; omega, by show 8 + (1 + 11) + 40 * (1 + 1) ≤ R.locals; omega⟩, hts _ (q_has_mem (n := 3147) (w := Cond.instanceMethod yJ0_length_8abf5) (by decide +kernel)), hts _ (q_has_mem (n := 3148) (w := Cond.selects "java/lang/String" yJ0_length_8abf5 yJ0_length_8abf5) (by decide +kernel))⟩ ⟨q_jbl, vk_recv (i := i) hV hi hS, fun U hU hW => ⟨rfl, by rw [hU]; exact ((hJ.kept hS.2.1).moved hW.alike).narrow (fun _ hh => hh.elim)⟩⟩ rfl rfl hl.1 rfl (lv_room h8) hdec ⟨Nat.zero_le _, Nat.zero_le _⟩
    refine W.callR hcall ?_
    exact hg ws tys H locs ls _ ⟨hE, hH, hP, hD, hK, hS, ⟨cl, hl, hLs⟩, (rfl : Value.int (qI (q_lit i).length) = .int (qI (q_lit i).length)), hT9⟩
theorem q_ok30 (C : q_Cx p R s m args meth c A ρ sb mc ms scr L own bytes maxL init) (hok : q_ok own init e) (hdec : decode bytes (q_pc e) = .ok (q_ins e)) (hop : e.1 = 30) (hs : q_s30 e env h k sl lv stk = some nx) (hn : ∀ fr ∈ nx, q_WW p l e0 R s m args below meth c Q D A ρ sb maxL fr) : q_WW p l e0 R s m args below meth c Q D A ρ sb maxL (env, h, k, sl, q_pc e, lv, stk) := by
  obtain ⟨op, pc, v, a, b, w, t⟩ := e
  subst hop
  obtain ⟨hx, hb, hml, hown, hts, hsp, hA, hin, hscr, hmc, hms, hR1, hR2⟩ := C
  unfold q_s30 at hs
  rcases stk with _ | ⟨y, _ | ⟨x, stk⟩⟩
  · cases hs
  · cases hs
  · intro ws tys H locs ls st ⟨hE, hH, hP, hD, hK, hS, hL, hT⟩
    obtain ⟨yv, st1, rfl, hyv, hT8⟩ := hT.cons
    obtain ⟨xv, st, rfl, hxv, hT9⟩ := hT8.cons
    obtain ⟨hc, hs⟩ := q_bt hs
    simp only [Bool.and_eq_true] at hc
    obtain ⟨⟨⟨⟨⟨⟨c1, c2⟩, c6⟩, c7⟩, c3⟩, c4⟩, c5⟩ := hc
    obtain ⟨t0, i⟩ := x
    have ht : t0 = 11 := Nat.eq_of_beq_eq_true c1
    subst ht
    have hxv : xv = .ref (sb.1 (i + 1)) := hxv
    subst hxv
    have hyv := hyv.c0 c6
    subst hyv
    obtain ⟨t1, n⟩ := y
    have hk : k = 0 := Nat.eq_of_beq_eq_true c4
    have hsl : sl = 0 := Nat.eq_of_beq_eq_true c5
    subst hk; subst hsl
    have hi : i < 26 := by
      have c2 : Nat.blt i q_lits.length = true := c2
      rw [q_blt] at c2
      exact of_decide_eq_true c2
    have hnl : n < q_txl.getD i 0 := by
      have c7 : Nat.blt n (q_lit i).length = true := c7
      rw [q_blt] at c7
      rw [(q_jk2 i hi).2.1]
      exact of_decide_eq_true c7
    have h8 : (st.map fun v => v.category).sum ≤ 8 := by rw [hT9.cats]; exact Nat.le_of_ble_eq_true c3
    obtain ⟨cl, hl, hLs⟩ := hL
    have hJ : q_JT sb.1 A s s.heap := hin.2.2
    have hJ2 := hJ
    obtain ⟨⟨ad, hV⟩, -, -⟩ := hJ2
    have hdec : decode bytes pc = .ok (.invokevirtual a, 3) := hdec
    have hok : Cond.methodLink own a yJ0_charAt_5068e ∈ qWS := hok
    have hg := q_gv_in hs hn
    have hcall := W.runV (rest := st) (H := H) (locs := locs) (cells := 0) (slots := 0) (g := F0 m pc ls (.int (qI n) :: .ref (sb.1 (i + 1)) :: st)) (As := [.int (qI n)]) (b := sb.1 (i + 1)) (C := "java/lang/String") (below := below) (meth := meth) (e := e0) (R := R) ⟨hx, hb, hml, hown, hts⟩ (q_jc6 (l := l) (b := sb.1) hi hnl) ⟨callB_of 1 hts (q_jgood (y := yJ0_charAt_5068e) (cc := cJ0_charAt_5068e) (mL := 2) (ret := some .char) (q_has_mem (n := 3159) (by decide +kernel))) rfl rfl rfl (hts _ (q_has_mem (n := 1016) (w := Cond.initialized "java/lang/String") (by decide +kernel))) (hts _ hok) ⟨by decide, by decide, by decide +kernel⟩ ⟨by show 3 + 1 + 1 ≤ R.frames; omega, by show 8 + (2 + 11) + 40 * (3 + 1) ≤ R.locals; omega⟩, hts _ (q_has_mem (n := 3157) (w := Cond.instanceMethod yJ0_charAt_5068e) (by decide +kernel)), hts _ (q_has_mem (n := 3158) (w := Cond.selects "java/lang/String" yJ0_charAt_5068e yJ0_charAt_5068e) (by decide +kernel))⟩ ⟨q_jbl, vk_recv (i := i) hV hi hS, fun U hU hW => ⟨rfl, by rw [hU]; exact ((hJ.kept hS.2.1).moved hW.alike).narrow (fun _ hh => hh.elim)⟩⟩ rfl rfl hl.1 rfl (lv_room h8) hdec ⟨Nat.zero_le _, Nat.zero_le _⟩
    refine W.callR hcall ?_
    exact hg ws tys H locs ls _ ⟨hE, hH, hP, hD, hK, hS, ⟨cl, hl, hLs⟩, (rfl : Value.int (qI ((q_lit i).getD n 0)) = .int (qI ((q_lit i).getD n 0))), hT9⟩
end
