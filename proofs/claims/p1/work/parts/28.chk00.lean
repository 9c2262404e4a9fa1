-- 28.chk0: each method's instructions are its own, its words are the tables' (printed by wip/p1/gen2.py)
def q_hasC (n : Nat) (m : MethodName) (b : ByteArray) (l : Nat) (t : Option FieldType) : Bool := goodWord (.code m b l t) && (match q_wd n with
  | some (.code m' b' l' t') => decide (m' = m) && (decide (b'.data.toList = b.data.toList) && (decide (l' = l) && decide (t' = t)))
  | _ => false)
theorem q_hasC_ok {n : Nat} {m : MethodName} {b : ByteArray} {l : Nat} {t : Option FieldType} (h : q_hasC n m b l t = true) : q_has n (.code m b l t) = true := by
  unfold q_hasC at h
  rw [Bool.and_eq_true] at h
  obtain ⟨h1, h⟩ := h
  unfold q_has
  rw [h1]
  split at h
  · rename_i m' b' l' t' hw
    simp only [Bool.and_eq_true, decide_eq_true_eq] at h
    obtain ⟨rfl, hb, rfl, rfl⟩ := h
    have hb2 : b' = b := ByteArray.ext (Array.ext' hb)
    subst hb2
    rw [hw]
    exact decide_eq_true rfl
  · cases h
def q_yB1 (M : qM) (is : List Nat) : Bool :=
  q_hasC (is.getD 0 0) (q_mY M) (q_mB M) (q_mL M) (q_mT M) && (q_has (is.getD 1 0) (.initialized (q_mY M).cls) && (decide ((q_mY M).cls ≠ "java/lang/invoke/MethodHandle") && (decide ((q_mY M).cls ≠ "java/lang/invoke/VarHandle") && (decide ((parseMethodDescriptor (q_mY M).desc).map (fun d => d.parameters.length) = some (q_mA M)) && (Nat.ble (q_mL M) 81 && ((plainName (q_mY M).cls || q_mxB M) &&
    (match q_mK M with
    | 0 => q_has (is.getD 2 0) (.static (q_mY M))
    | 1 => decide ((q_mY M).name = "<init>") && (q_has (is.getD 2 0) (.instanceMethod (q_mY M)) && decide (q_mT M = none))
    | 2 => q_has (is.getD 2 0) (.instanceMethod (q_mY M)) && (q_has (is.getD 3 0) (.selects (q_mY M).cls (q_mY M) (q_mY M)) && q_clB (q_mC M) fun r => decide (r.1 = (q_mY M).cls))
    | _ => false)))))))
theorem q_yB1_ok {M : qM} {is : List Nat} (h : q_yB1 M is = true) : q_yB M is = true := by
  unfold q_yB1 at h
  unfold q_yB
  rw [Bool.and_eq_true] at h ⊢
  exact ⟨q_hasC_ok h.1, h.2⟩
theorem q_mB1_of {tab : Nat → qM} {M : qM × List Nat} (h : (q_yB1 M.1 M.2 && q_all (q_iB tab (q_mY M.1).cls (Nat.beq (q_mK M.1) 1) (q_mB M.1)) (q_mI M.1)) = true) : q_mB1 tab M = true := by
  rw [Bool.and_eq_true] at h
  unfold q_mB1
  rw [q_yB1_ok h.1, h.2]
  rfl
set_option maxRecDepth 100000 in
theorem q_c0 : q_mB1 q_T q_M0 = true := q_mB1_of (by decide +kernel)
set_option maxRecDepth 100000 in
theorem q_c1 : q_mB1 q_T q_M1 = true := q_mB1_of (by decide +kernel)
set_option maxRecDepth 100000 in
theorem q_c2 : q_mB1 q_T q_M2 = true := q_mB1_of (by decide +kernel)
set_option maxRecDepth 100000 in
theorem q_c3 : q_mB1 q_T q_M3 = true := q_mB1_of (by decide +kernel)
set_option maxRecDepth 100000 in
theorem q_c4 : q_mB1 q_T q_M4 = true := q_mB1_of (by decide +kernel)
set_option maxRecDepth 100000 in
theorem q_c6 : q_mB1 q_T q_M6 = true := q_mB1_of (by decide +kernel)
set_option maxRecDepth 100000 in
theorem q_c7 : q_mB1 q_T q_M7 = true := q_mB1_of (by decide +kernel)
set_option maxRecDepth 100000 in
theorem q_c8 : q_mB1 q_T q_M8 = true := q_mB1_of (by decide +kernel)
set_option maxRecDepth 100000 in
theorem q_c10 : q_mB1 q_T q_M10 = true := q_mB1_of (by decide +kernel)
set_option maxRecDepth 100000 in
theorem q_c14 : q_mB1 q_T q_M14 = true := q_mB1_of (by decide +kernel)
set_option maxRecDepth 100000 in
theorem q_c16 : q_mB1 q_T q_M16 = true := q_mB1_of (by decide +kernel)
set_option maxRecDepth 100000 in
theorem q_c17 : q_mB1 q_T q_M17 = true := q_mB1_of (by decide +kernel)
set_option maxRecDepth 100000 in
theorem q_c20 : q_mB1 q_T q_M20 = true := q_mB1_of (by decide +kernel)
set_option maxRecDepth 100000 in
theorem q_c21 : q_mB1 q_T q_M21 = true := q_mB1_of (by decide +kernel)
set_option maxRecDepth 100000 in
theorem q_c24 : q_mB1 q_T q_M24 = true := q_mB1_of (by decide +kernel)
set_option maxRecDepth 100000 in
theorem q_c25 : q_mB1 q_T q_M25 = true := q_mB1_of (by decide +kernel)
set_option maxRecDepth 100000 in
theorem q_c33 : q_mB1 q_T q_M33 = true := q_mB1_of (by decide +kernel)
set_option maxRecDepth 100000 in
theorem q_c34 : q_mB1 q_T q_M34 = true := q_mB1_of (by decide +kernel)
set_option maxRecDepth 100000 in
theorem q_c36 : q_mB1 q_T q_M36 = true := q_mB1_of (by decide +kernel)
set_option maxRecDepth 100000 in
theorem q_c37 : q_mB1 q_T q_M37 = true := q_mB1_of (by decide +kernel)
set_option maxRecDepth 100000 in
theorem q_c39 : q_mB1 q_T q_M39 = true := q_mB1_of (by decide +kernel)
set_option maxRecDepth 100000 in
theorem q_c40 : q_mB1 q_T q_M40 = true := q_mB1_of (by decide +kernel)
set_option maxRecDepth 100000 in
theorem q_c41 : q_mB1 q_T q_M41 = true := q_mB1_of (by decide +kernel)
set_option maxRecDepth 100000 in
theorem q_c42 : q_mB1 q_T q_M42 = true := q_mB1_of (by decide +kernel)
set_option maxRecDepth 100000 in
theorem q_c43 : q_mB1 q_T q_M43 = true := q_mB1_of (by decide +kernel)
set_option maxRecDepth 100000 in
theorem q_c46 : q_mB1 q_T q_M46 = true := q_mB1_of (by decide +kernel)
set_option maxRecDepth 100000 in
theorem q_c47 : q_mB1 q_T q_M47 = true := q_mB1_of (by decide +kernel)
set_option maxRecDepth 100000 in
theorem q_c48 : q_mB1 q_T q_M48 = true := q_mB1_of (by decide +kernel)
set_option maxRecDepth 100000 in
theorem q_c49 : q_mB1 q_T q_M49 = true := q_mB1_of (by decide +kernel)
set_option maxRecDepth 100000 in
theorem q_c50 : q_mB1 q_T q_M50 = true := q_mB1_of (by decide +kernel)
set_option maxRecDepth 100000 in
theorem q_c51 : q_mB1 q_T q_M51 = true := q_mB1_of (by decide +kernel)
set_option maxRecDepth 100000 in
theorem q_c53 : q_mB1 q_T q_M53 = true := q_mB1_of (by decide +kernel)
set_option maxRecDepth 100000 in
theorem q_c57 : q_mB1 q_T q_M57 = true := q_mB1_of (by decide +kernel)
set_option maxRecDepth 100000 in
theorem q_c59 : q_mB1 q_T q_M59 = true := q_mB1_of (by decide +kernel)
set_option maxRecDepth 100000 in
theorem q_c60 : q_mB1 q_T q_M60 = true := q_mB1_of (by decide +kernel)
