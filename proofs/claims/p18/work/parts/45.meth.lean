-- 45.meth: rows of rows; any instruction; methods
section
variable {p : Program} {l : Launch} {e0 : Env} {R : Room} {s : State} {m : MethodId} {args : Array Value} {below : List Frame} {meth : Method} {c : Code} {Q : State → Prop}
variable {D : va_G} {A : Nat → Prop} {ρ : Nat → Int32} {sb : (Nat → Nat) × va_W} {mc ms : Nat} {scr : Bool} {L : Nat} {own : String} {bytes : ByteArray} {maxL : Nat} {init : Bool}
variable {e : qN} {env : qE} {h : qH} {k sl : Nat} {lv : qL} {stk : List qV} {nx : List qF}
variable {H : Heap} {locs : List Loc} {pc : Nat} {ls : Array Slot} {rest : List Value} {ws : va_W} {tys : List (ClassId × FieldType)}
def q_HpW (ρ : Nat → Int32) (sb : (Nat → Nat) × va_W) (h : qH) (ws W1 : va_W) (tys : List (ClassId × FieldType)) : Prop := ws.length = h.2 ∧ h.2 ≤ 1024 ∧ ∀ (k a : Nat) (e : va_E), ws[k]? = some (a, e) → q_Rc ρ sb W1 tys (h.1.get k) e
theorem q_HpW.push {h : qH} {W1 : va_W} (hH : q_HpW ρ sb h ws W1 tys) (hn : h.2 < 1024) {q : Nat} {e1 : va_E} {c1 : qC} (hc : q_Rc ρ sb W1 tys c1 e1) : q_HpW ρ sb (q_ts c1 h.2 h.1 0 1024, h.2 + 1) (ws ++ [(q, e1)]) W1 tys := by
  obtain ⟨h1, h2, h3⟩ := hH
  refine ⟨by rw [List.length_append, h1]; rfl, hn, fun j b e2 hj => ?_⟩
  have hjl : j < ws.length + 1 := by
    have := (List.getElem?_eq_some_iff.mp hj).1
    rwa [List.length_append] at this
  show q_Rc ρ sb _ _ ((q_ts c1 h.2 h.1 0 1024).get j) e2
  rw [q_ts_get c1 h.2 h.1 0 1024 j (Nat.zero_le _) (by omega) (Nat.zero_le _) (by omega)]
  by_cases hjk : j = h.2
  · rw [if_pos hjk]
    rw [List.getElem?_append_right (by omega), hjk, h1, Nat.sub_self] at hj
    cases hj
    exact hc
  · rw [if_neg hjk]
    rw [List.getElem?_append_left (by omega)] at hj
    exact h3 j b e2 hj
theorem q_rows_ok {W1 : va_W} {r : Nat → Nat} {cy : ClassId} {mm t0 : Nat} (ht : tys[t0]? = some (cy, .int)) : ∀ (n : Nat) (h : qH) (ws : va_W), q_HpW ρ sb h ws W1 tys → h.2 + n ≤ 1024 → q_HpW ρ sb (q_rows n mm h) (ws ++ (List.range n).map (fun i => (r i, .inl (cy, mm, .inl fun _ => 0)))) W1 tys ∧ (q_rows n mm h).2 = h.2 + n
  | 0, h, ws, hH, _ => ⟨by rw [List.range_zero, List.map_nil, List.append_nil]; exact hH, rfl⟩
  | n + 1, h, ws, hH, hn => by
    obtain ⟨h1, h2⟩ := q_rows_ok (r := r) ht n h ws hH (by omega)
    rw [List.range_succ, List.map_append, ← List.append_assoc]
    refine ⟨h1.push (by omega) (c1 := (100, mm, .leaf (0, 0))) (Or.inr (Or.inl ⟨.int, rfl, cy, fun _ => 0, t0, rfl, ht, fun j _ => rfl⟩)), ?_⟩
    show (q_rows n mm h).2 + 1 = _
    omega
noncomputable def q_idr (N at_ n : Nat) : Lean.RArray qV := Nat.rec (motive := fun _ => Lean.RArray qV) (.leaf (7, 0)) (fun i ih => q_ts (6, at_ + i) i ih 0 N) n
theorem q_idr_get (N at_ : Nat) : ∀ (n j : Nat), n ≤ N → j < n → (q_idr N at_ n).get j = (6, at_ + j)
  | 0, j, _, h => by omega
  | n + 1, j, h1, h2 => by
    show (q_ts (6, at_ + n) n (q_idr N at_ n) 0 N).get j = _
    rw [q_ts_get _ n _ 0 N j (Nat.zero_le _) (by omega) (Nat.zero_le _) (by omega)]
    by_cases hj : j = n
    · rw [if_pos hj, hj]
    · rw [if_neg hj, q_idr_get N at_ n j (by omega) (by omega)]
theorem q_ok18 (C : q_Cx p R s m args meth c A ρ sb mc ms scr L own bytes maxL init) (hok : q_ok own init e) (hdec : decode bytes (q_pc e) = .ok (q_ins e)) (hop : e.1 = 18) (hs : q_s18 mc ms e env h k sl lv stk = some nx) (hn : ∀ fr ∈ nx, q_WW p l e0 R s m args below meth c Q D A ρ sb maxL fr) : q_WW p l e0 R s m args below meth c Q D A ρ sb maxL (env, h, k, sl, q_pc e, lv, stk) := by
  obtain ⟨op, pc, v, a, b, w, t⟩ := e
  subst hop
  obtain ⟨hx, hb, hml, hown, hts, hsp, hA, hin, hscr, hmc, hms, hR1, hR2⟩ := C
  unfold q_s18 at hs
  rcases stk with _ | ⟨y, _ | ⟨x, stk⟩⟩
  · cases hs
  · cases hs
  · intro ws tys H locs ls st ⟨hE, hH, hP, hD, hK, hS, hL, hT⟩
    have hH : q_Hp ρ sb h ws tys := hH
    obtain ⟨yv, st, rfl, hyv, hT9⟩ := hT.cons
    clear hT
    have hT := hT9
    clear hT9
    obtain ⟨xv, st, rfl, hxv, hT9⟩ := hT.cons
    clear hT
    have hT := hT9
    clear hT9
    obtain ⟨hk, hs⟩ := q_bt hs
    rw [q_fc_eq, q_fc_eq] at hs
    have hg := q_gh_in hs hn
    simp only [Bool.and_eq_true, q_blt, q_ble, decide_eq_true_eq] at hk
    obtain ⟨⟨⟨⟨⟨⟨k1, k2⟩, k3⟩, k4⟩, k5⟩, k6⟩, k7⟩ := hk
    have e1 := hxv.c0 k1
    subst e1
    have e2 := hyv.c0 k2
    subst e2
    have n1 : ¬ qI x.2 < 0 := nI_pos (n := x.2) (by omega)
    have n2 : ¬ qI y.2 < 0 := nI_pos (n := y.2) (by omega)
    have m1 := q_cl (n := x.2) (by omega)
    have m2 := q_cl (n := y.2) (by omega)
    obtain ⟨hw1, hw2, hw3⟩ := hok
    obtain ⟨cy, kA, comp, f1, f2, f3⟩ := Cond.arrayClass_spec (hts _ hw3)
    have hcy : s.vm.findClass (FieldType.array .int).toString = some cy := f1
    have hAr : ArrOfT s cy .int := fun n z => ⟨(fun k h => by cases h), kA, f2, comp, f3⟩
    have hRA : va_RA s cy .int := f1
    have hP0 : va_P D vwCl (ws ++ va_pl [] (fun _ => (.inl (cy, 0, .inl fun _ => 0) : va_E))) H := by
      show va_P D vwCl (ws ++ []) H
      rw [List.append_nil]
      exact hP
    have hD0 : va_D A (ws ++ va_pl [] (fun _ => (.inl (cy, 0, .inl fun _ => 0) : va_E))) := by
      show va_D A (ws ++ [])
      rw [List.append_nil]
      exact hD
    obtain ⟨cl, hl, hLs⟩ := hL
    refine va_mna (X := ws) (L := []) (f := fun _ => .inl (cy, 0, .inl fun _ => 0)) (ty := .int) (z := (y.2, .inl fun _ => 0)) hx hb hown (hts _ hw1) (hsp _ hw2) (hts _ hw3) hcy hK hP0 hD0 hS hA n1 n2 m1 m2 (by omega) (by show y.2 * 4 ≤ _; omega) (by omega) rfl rfl (by show k + (1 + x.2) ≤ R.cells; omega) (by show sl + (x.2 + x.2 * y.2) ≤ R.slots; omega) (fun c => arrV_new _ _ _) hdec fun q r cA H1 _ _ hK1 hP1 hD1 hS1 => ?_
    have hpl : va_pl ([] ++ (List.range x.2).map r) (vr_up (fun _ => (.inl (cy, 0, .inl fun _ => 0) : va_E)) ((List.range x.2).map r) (.inl (cy, (y.2, .inl fun _ => 0)))) = (List.range x.2).map (fun i => (r i, .inl (cy, y.2, .inl fun _ => 0))) := by
      unfold va_pl
      rw [List.nil_append, List.map_map]
      apply List.map_congr_left
      intro i hi
      show (r i, vr_up _ _ _ (r i)) = _
      rw [vr_up_in (List.mem_map.mpr ⟨i, hi, rfl⟩)]
    rw [hpl] at hP1 hD1
    have hK2 : va_K D vwCl ((tys ++ [(cA, .array .int)]) ++ [(cy, .int)]) s := hK1.app ⟨hK1.1, fun j q hj => by
      have hz : j < 1 := (List.getElem?_eq_some_iff.mp hj).1
      rw [show j = 0 by omega] at hj
      cases hj
      exact ⟨hAr, hRA⟩⟩
    generalize hWW : (ws ++ [(q, .inl (cA, x.2, .inr (.inr (.inr (.inr fun i => if i < x.2 then some (r i) else none)))))]) ++ (List.range x.2).map (fun i => ((r i, .inl (cy, y.2, .inl fun _ => 0)) : Nat × va_E)) = W1 at hP1 hD1
    have hex : q_ext ws W1 := by
      rw [← hWW, List.append_assoc]
      exact q_ext.app
    have hty : (tys ++ [(cA, .array .int)] ++ [(cy, FieldType.int)])[tys.length + 1]? = some (cy, .int) := by simp
    have hty2 : (tys ++ [(cA, FieldType.array .int)] ++ [(cy, FieldType.int)])[tys.length]? = some (cA, .array .int) := by simp
    have hW0 : q_HpW ρ sb h ws W1 ((tys ++ [(cA, .array .int)]) ++ [(cy, .int)]) := ⟨hH.1, hH.2.1, fun j b e2 hj => (hH.2.2.1 j b e2 hj).mono hex (fun i x hx => q_tyapp i x (q_tyapp i x hx))⟩
    have hrow : ∀ j, j < x.2 → W1[h.2 + 1 + j]? = some (r j, .inl (cy, y.2, .inl fun _ => 0)) := fun j hj => by
      rw [← hWW, List.getElem?_append_right (by rw [List.length_append, hH.1]; show h.2 + 1 ≤ _; omega), List.length_append, hH.1]
      show ((List.range x.2).map _)[h.2 + 1 + j - (h.2 + 1)]? = _
      rw [Nat.add_sub_cancel_left, List.getElem?_map, List.getElem?_range hj]
      rfl
    have hW2 := hW0.push (q := q) (e1 := .inl (cA, x.2, .inr (.inr (.inr (.inr fun i => if i < x.2 then some (r i) else none))))) (c1 := (300, x.2, q_ids (h.2 + 1) x.2)) (by omega) (Or.inr (Or.inr (Or.inr ⟨.array .int, Or.inr ⟨rfl, rfl⟩, cA, _, tys.length, rfl, hty2, fun j hj => by
      have hj : j < x.2 := hj
      show q_RV ρ sb W1 ((q_idr x.2 (h.2 + 1) x.2).get j) (va_rf (if j < x.2 then some (r j) else none))
      rw [q_idr_get x.2 (h.2 + 1) x.2 j (Nat.le_refl _) hj, if_pos hj]
      exact ⟨r j, _, hrow j hj, rfl⟩⟩)))
    obtain ⟨hW3, hlen⟩ := q_rows_ok (r := r) (mm := y.2) hty x.2 _ _ hW2 (by show h.2 + 1 + x.2 ≤ 1024; omega)
    rw [hWW] at hW3
    refine hg W1 _ H1 locs ls _ ⟨hE, ⟨hW3.1, hW3.2.1, hW3.2.2, hH.2.2.2.tr hex⟩, hP1, hD1, hK2, hS1, ⟨cl, hl, hLs.mono hex⟩, ⟨q, .inl (cA, x.2, .inr (.inr (.inr (.inr fun i => if i < x.2 then some (r i) else none)))), ?_, rfl⟩, hT.mono hex⟩
    rw [← hWW, List.getElem?_append_left (by rw [List.length_append, hH.1]; exact Nat.lt_succ_self _)]
    exact q_last hH.1
theorem q_step_ok (C : q_Cx p R s m args meth c A ρ sb mc ms scr L own bytes maxL init) (hok : q_ok own init e) (hdec : decode bytes (q_pc e) = .ok (q_ins e)) (hcl : q_clsAll) (hs : q_step mc ms scr L maxL e env h k sl lv stk = some nx) (hn : ∀ fr ∈ nx, q_WW p l e0 R s m args below meth c Q D A ρ sb maxL fr) : q_WW p l e0 R s m args below meth c Q D A ρ sb maxL (env, h, k, sl, q_pc e, lv, stk) := by
  unfold q_step at hs
  generalize hop : e.1 = op at hs
  rcases op with _ | _ | _ | _ | _ | _ | _ | _ | _ | _ | _ | _ | _ | _ | _ | _ | _ | _ | _ | _ | _ | _ | _ | _ | _ | _ | _ | _ | _ | _ | _ | op
  · exact q_ok0 C hok hdec hop hs hn
  · exact q_ok1 C hok hdec hop hs hn
  · exact q_ok2 C hok hdec hop hs hn
  · exact q_ok3 C hok hdec hop hs hn
  · exact q_ok4 C hok hdec hop hs hn
  · exact q_ok5 C hok hdec hop hs hn
  · exact q_ok6 C hok hdec hop hs hn
  · exact q_ok7 C hok hdec hop hs hn
  · exact q_ok8 C hok hdec hop hs hn
  · exact q_ok9 C hok hdec hop hs hn
  · exact q_ok10 C hok hdec hop hs hn
  · exact q_ok11 C hok hdec hop hs hn
  · exact q_ok12 C hok hdec hop hs hn
  · exact q_ok13 C hok hdec hop hs hn
  · exact q_ok14 C hok hdec hcl hop hs hn
  · exact q_ok15 C hok hdec hcl hop hs hn
  · exact q_ok16 C hok hdec hop hs hn
  · exact q_ok17 C hok hdec hop hs hn
  · exact q_ok18 C hok hdec hop hs hn
  · exact q_ok19 C hok hdec hop hs hn
  · exact q_ok20 C hok hdec hop hs hn
  · exact q_ok21 C hok hdec hop hs hn
  · exact q_ok22 C hok hdec hcl hop hs hn
  · cases hs
  · cases hs
  · exact q_ok25 C hok hdec hop hs hn
  · exact q_ok26 C hok hdec hop hs hn
  · exact q_ok27 C hok hdec hop hs hn
  · exact q_ok28 C hok hdec hop hs hn
  · exact q_ok29 C hok hdec hop hs hn
  · exact q_ok30 C hok hdec hop hs hn
  · cases hs
end
