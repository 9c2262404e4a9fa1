-- 44b.jdk: String's length() and charAt(), as the JDK has them
def q_JT (b : Nat → Nat) (A : Nat → Prop) (U : State) (H : Heap) : Prop := (∃ adV : Nat → Nat, vk_S 26 q_txl q_txb (fun i => b (i + 1)) adV A U H) ∧ va_Z "java/lang/String" "COMPACT_STRINGS" "Z" (.int 1) A U H ∧ va_Zq "jdk/internal/util/Preconditions" "SIOOBE_FORMATTER" "Ljava/util/function/BiFunction;" A U H
theorem q_JT.moved {b : Nat → Nat} {A : Nat → Prop} {u U : State} {H : Heap} (hvm : u.vm.Alike U.vm) (h : q_JT b A u H) : q_JT b A U H := by
  obtain ⟨⟨ad, h1⟩, h2, h3⟩ := h
  exact ⟨⟨ad, h1.moved hvm⟩, h2.moved hvm, h3.moved hvm⟩
theorem q_JT.kept {b : Nat → Nat} {A : Nat → Prop} {U : State} {H H1 : Heap} (h : q_JT b A U H) (hq : ∀ a : Nat, a < H.size → ¬ A a → H1[a]? = H[a]?) : q_JT b A U H1 := by
  obtain ⟨⟨ad, h1⟩, h2, h3⟩ := h
  exact ⟨⟨ad, h1.kept hq⟩, h2.kept hq, h3.kept hq⟩
theorem q_JT.narrow {b : Nat → Nat} {A B : Nat → Prop} {U : State} {H : Heap} (h : q_JT b A U H) (hAB : ∀ q, B q → A q) : q_JT b B U H := by
  obtain ⟨⟨ad, h1⟩, h2, h3⟩ := h
  exact ⟨⟨ad, h1.narrow hAB⟩, h2.narrow hAB, h3.narrow hAB⟩
def q_no : Nat → Prop := fun _ => False
def q_jrm (k : Nat) : Room := { frames := k + 1, cells := 0, slots := 0, locals := 40 * (k + 1) }
abbrev q_jw (y : MethodName) (cc : ByteArray) (mL : Nat) (ret : Option FieldType) : List Cond := Cond.code y cc mL ret :: qWS
theorem q_jgood {y : MethodName} {cc : ByteArray} {mL : Nat} {ret : Option FieldType} (h : Cond.code y cc mL ret ∈ qWS) : GoodIn qWS (q_jw y cc mL ret) := fun w hw => by
  rcases List.mem_cons.mp hw with rfl | hw
  · exact ⟨h, good_of_word (List.mem_filter.mp h).2⟩
  · exact ⟨hw, good_of_word (List.mem_filter.mp hw).2⟩
theorem q_jS {H : Heap} : va_S q_no H H [] := ⟨Nat.le_refl _, fun _ _ _ => rfl, fun _ h => absurd h List.not_mem_nil⟩
/-- what a text's method is given -/
def q_jP (b : Nat → Nat) (As : List Value) : Array Value → State → Prop := fun a st => a = As.toArray ∧ q_JT b q_no st st.heap
theorem q_jbl {b : Nat → Nat} {As : List Value} : FrameBlind (q_jP b As) := fun a U g mk ⟨h1, h2⟩ => ⟨h1, q_JT.moved (u := U) (U := U.calling g mk a) (Vm.Alike.refl U.vm) h2⟩
theorem q_jof {l : Launch} {y : MethodName} {cc : ByteArray} {mL k : Nat} {ret : Option FieldType} {Pc : Array Value → State → Prop} {Qc : Array Value → State → Outcome → State → Prop} (hpl : plainName y.cls = true)
    (hP : ∀ a st, Pc a st → ∃ As : List Value, a = As.toArray ∧ (lg_sl As).length ≤ mL ∧ ∀ (p : Program) (e : Env) (m : MethodId) (below : List Frame) (meth : Method) (c : Code) (ls : Array Slot), p.tables.exec = Jvm.exec → c.code = cc → c.maxLocals = mL → meth.sig.returnType = ret → meth.locks = false → st.vm.findClass y.cls = some m.cls → (∀ w ∈ qWS, w.before As.toArray st = true) → lv_has ls mL (lv_args 0 As) →
      W p l e (q_jrm k) st m As.toArray below meth c st.heap [] 0 0 (MQ below Qc As.toArray st 0 0 (fun _ => False)) (F0 m 0 ls [])) : Met l y (q_jw y cc mL ret) (q_jrm k) Pc Qc 0 0 (fun _ => False) := by
  refine Met.ofW hpl rfl ?_
  intro p e s m args below meth c s₁ B hml hv
  obtain ⟨As, rfl, hlen, hbody⟩ := hP _ _ hv
  rw [lg_entry_eq]
  exact hbody p e m below meth c _ B.exec B.bytes hml B.returns B.notSynchronized (findClass_of_methodNamed B.named) (fun w hw => atoms_spec (ws := q_jw y cc mL ret) B.pre w (List.mem_cons_of_mem _ hw)) (lv_entry As hlen)
theorem q_jk1 : ∀ n : Nat, n < 200 → (qI n).toNatClampNeg = n ∧ ¬ qI n < 0 := by decide +kernel
theorem q_jk5 : ∀ n : Nat, n < 200 → Int32.ofNat n = qI n := by decide +kernel
theorem q_jk2 : ∀ i : Nat, i < 26 → q_txl.getD i 0 < 200 ∧ q_txl.getD i 0 = (q_lit i).length ∧ Int32.ofNat (q_txl.getD i 0) = qI (q_lit i).length ∧ qI (q_lit i).length >>> ((0 : Int32) &&& 31) = qI (q_lit i).length := by decide +kernel
theorem q_jk4 : ∀ n N : Nat, N < 200 → n < N → qI n < Int32.ofNat N := by
  intro n N h1 h2
  obtain ⟨a1, a2⟩ := q_jk1 n (by omega)
  obtain ⟨b1, b2⟩ := q_jk1 N h1
  have e : Int32.ofNat N = qI N := q_jk5 N h1
  rw [e]
  have ha : (qI n).toInt = n := by
    have := Int32.not_lt.mp a2
    have h0 : (0 : Int) ≤ (qI n).toInt := by simpa using Int32.le_iff_toInt_le.mp this
    have : (qI n).toInt.toNat = n := a1
    omega
  have hb : (qI N).toInt = N := by
    have := Int32.not_lt.mp b2
    have h0 : (0 : Int) ≤ (qI N).toInt := by simpa using Int32.le_iff_toInt_le.mp this
    have : (qI N).toInt.toNat = N := b1
    omega
  exact Int32.lt_iff_toInt_lt.mpr (by omega)
theorem q_jk3 : ∀ i : Nat, i < 26 → ∀ n : Nat, n < q_txl.getD i 0 → ((((q_txb.getD i []).getD n 0) &&& (Int16.ofInt 255).toInt32).toUInt32 % 65536).toInt32 = qI ((q_lit i).getD n 0) ∧ narrow .char (.int (qI ((q_lit i).getD n 0))) = .int (qI ((q_lit i).getD n 0)) := by decide +kernel
section
variable {l : Launch} {b : Nat → Nat} {i : Nat}
theorem q_jc0 (hi : i < 26) : Met l yJ0_coder_7d493 (q_jw yJ0_coder_7d493 cJ0_coder_7d493 1 (some .byte)) (q_jrm 0) (q_jP b [.ref (b (i + 1))]) (QcRead 0) 0 0 (fun _ => False) := by
  refine q_jof (by decide) ?_
  rintro a s ⟨rfl, hJ⟩
  refine ⟨_, rfl, Nat.le_refl 1, ?_⟩
  intro p e m below meth c ls hx hb hml hr hlocks hown hts hl
  obtain ⟨⟨ad, hV⟩, hZ, hQ⟩ := hJ
  refine va_gets hx hb hZ q_jS hown (hts _ (q_has_mem (n := 3154) (w := Cond.fieldLink "java/lang/String" 38 "java/lang/String" "COMPACT_STRINGS" "Z") (by decide +kernel))) (fun x hx => hx) (by decide +kernel) ?_
  refine lv_if_eq (x := 1) hx hb (off := 10) (tgt := 13) (by decide +kernel) (by decide) (fun h => absurd h (by decide)) (fun _ => ?_)
  refine lv_aload_n hx hb (k := 0) (i := 0) (by decide +kernel) rfl (hl.2.2 (0, _) List.mem_cons_self) ?_
  refine vk_getf hx hb (hV.1 i hi).2.1 q_jS hown (hts _ (q_has_mem (n := 9109) (w := Cond.fieldLink "java/lang/String" 15 "java/lang/String" "coder" "B") (by decide +kernel))) (fun x hx => hx) (by decide +kernel) ?_
  refine lv_goto hx hb (off := 4) (tgt := 14) (by decide +kernel) (by decide) ?_
  exact W.zret hx hb hr rfl (fun t ht _ => ⟨rfl, ht⟩) (fun q hq => absurd hq List.not_mem_nil) (by decide +kernel)
theorem q_jc1 (hi : i < 26) : Met l yJ0_isLatin1_aae02 (q_jw yJ0_isLatin1_aae02 cJ0_isLatin1_aae02 1 (some .boolean)) (q_jrm 0) (q_jP b [.ref (b (i + 1))]) (QcRead 1) 0 0 (fun _ => False) := by
  refine q_jof (by decide) ?_
  rintro a s ⟨rfl, hJ⟩
  refine ⟨_, rfl, Nat.le_refl 1, ?_⟩
  intro p e m below meth c ls hx hb hml hr hlocks hown hts hl
  obtain ⟨⟨ad, hV⟩, hZ, hQ⟩ := hJ
  refine va_gets hx hb hZ q_jS hown (hts _ (q_has_mem (n := 3154) (w := Cond.fieldLink "java/lang/String" 38 "java/lang/String" "COMPACT_STRINGS" "Z") (by decide +kernel))) (fun x hx => hx) (by decide +kernel) ?_
  refine lv_if_eq (x := 1) hx hb (off := 14) (tgt := 17) (by decide +kernel) (by decide) (fun h => absurd h (by decide)) (fun _ => ?_)
  refine lv_aload_n hx hb (k := 0) (i := 0) (by decide +kernel) rfl (hl.2.2 (0, _) List.mem_cons_self) ?_
  refine vk_getf hx hb (hV.1 i hi).2.1 q_jS hown (hts _ (q_has_mem (n := 9109) (w := Cond.fieldLink "java/lang/String" 15 "java/lang/String" "coder" "B") (by decide +kernel))) (fun x hx => hx) (by decide +kernel) ?_
  refine lv_if_ne (x := 0) hx hb (off := 7) (tgt := 17) (by decide +kernel) (by decide) (fun h => absurd rfl h) (fun _ => ?_)
  refine lv_iconst hx hb (n := 1) (v := 1) (by decide +kernel) (by decide) ?_
  refine lv_goto hx hb (off := 4) (tgt := 18) (by decide +kernel) (by decide) ?_
  exact W.zret hx hb hr rfl (fun t ht _ => ⟨rfl, ht⟩) (fun q hq => absurd hq List.not_mem_nil) (by decide +kernel)
/-- Preconditions.checkIndex: the index itself, if it is less -/
def q_jPp (k n : Int32) : Array Value → State → Prop := fun a _ => ∃ v : Value, (v = .null ∨ ∃ t, v = .ref t) ∧ a = ([.int k, .int n, v] : List Value).toArray
theorem q_jc2 {k n : Int32} (h0 : ¬ k < 0) (h1 : k < n) : Met l yJ3_checkIndex_8e157 (q_jw yJ3_checkIndex_8e157 cJ3_checkIndex_8e157 3 (some .int)) (q_jrm 0) (q_jPp k n) (QcRead k) 0 0 (fun _ => False) := by
  refine q_jof (by decide) ?_
  rintro a s ⟨v, hv, rfl⟩
  refine ⟨_, rfl, ?_, ?_⟩
  · rcases hv with rfl | ⟨t, rfl⟩
    · exact Nat.le_refl 3
    · exact Nat.le_refl 3
  intro p e m below meth c ls hx hb hml hr hlocks hown hts hl
  have l0 : ls[0]? = some (.val (.int k)) := hl.2.2 (0, .int k) List.mem_cons_self
  have l1 : ls[1]? = some (.val (.int n)) := hl.2.2 (1, .int n) (List.mem_cons_of_mem _ List.mem_cons_self)
  refine lv_iload_n hx hb (k := 0) (i := 0) (by decide +kernel) rfl l0 ?_
  refine lv_if_lt hx hb (off := 8) (tgt := 9) (by decide +kernel) (by decide) (fun h => absurd h h0) (fun _ => ?_)
  refine lv_iload_n hx hb (k := 0) (i := 0) (by decide +kernel) rfl l0 ?_
  refine lv_iload_n hx hb (k := 1) (i := 1) (by decide +kernel) rfl l1 ?_
  refine lv_icmp_lt hx hb (off := 10) (tgt := 16) (by decide +kernel) (by decide) (fun _ => ?_) (fun h => absurd h1 h)
  refine lv_iload_n hx hb (k := 0) (i := 0) (by decide +kernel) rfl l0 ?_
  exact W.iret hx hb hr (fun t ht _ => ⟨rfl, ht⟩) (fun q hq => absurd hq List.not_mem_nil) (by decide +kernel)
/-- nothing comes back, nothing is changed -/
def q_jQv : Array Value → State → Outcome → State → Prop := fun _ st o t => o = .returned none ∧ t.heap = st.heap
theorem q_jc3 {k n : Int32} (h0 : ¬ k < 0) (h1 : k < n) : Met l yJ0_checkIndex_df160 (q_jw yJ0_checkIndex_df160 cJ0_checkIndex_df160 2 none) (q_jrm 1) (q_jP b [.int k, .int n]) q_jQv 0 0 (fun _ => False) := by
  refine q_jof (by decide) ?_
  rintro a s ⟨rfl, hJ⟩
  refine ⟨_, rfl, Nat.le_refl 2, ?_⟩
  intro p e m below meth c ls hx hb hml hr hlocks hown hts hl
  obtain ⟨⟨ad, hV⟩, hZ, hQ⟩ := hJ
  have l0 : ls[0]? = some (.val (.int k)) := hl.2.2 (0, .int k) List.mem_cons_self
  have l1 : ls[1]? = some (.val (.int n)) := hl.2.2 (1, .int n) (List.mem_cons_of_mem _ List.mem_cons_self)
  refine lv_iload_n hx hb (k := 0) (i := 0) (by decide +kernel) rfl l0 ?_
  refine lv_iload_n hx hb (k := 1) (i := 1) (by decide +kernel) rfl l1 ?_
  obtain ⟨v, hv, hZv⟩ : ∃ v : Value, (v = .null ∨ ∃ t, v = .ref t) ∧ va_Z "jdk/internal/util/Preconditions" "SIOOBE_FORMATTER" "Ljava/util/function/BiFunction;" v q_no s s.heap := by
    rcases hQ with h | ⟨t, h⟩
    · exact ⟨_, Or.inl rfl, h⟩
    · exact ⟨_, Or.inr ⟨t, rfl⟩, h⟩
  refine va_gets hx hb hZv q_jS hown (hts _ (q_has_mem (n := 3170) (w := Cond.fieldLink "java/lang/String" 1053 "jdk/internal/util/Preconditions" "SIOOBE_FORMATTER" "Ljava/util/function/BiFunction;") (by decide +kernel))) (fun x hx => hx) (by decide +kernel) ?_
  have hcall := W.runS (rest := []) (H := s.heap) (locs := []) (cells := 0) (slots := 0) (g := F0 m 5 ls [v, .int n, .int k]) (As := [.int k, .int n, v]) (below := below) (meth := meth) (e := e) (R := q_jrm 1) ⟨hx, hb, hml, hown, hts⟩ (q_jc2 (l := l) h0 h1) ⟨callB_of 3 hts (q_jgood (y := yJ3_checkIndex_8e157) (cc := cJ3_checkIndex_8e157) (mL := 3) (ret := some .int) (q_has_mem (n := 3174) (by decide +kernel))) rfl rfl rfl (hts _ (q_has_mem (n := 1018) (w := Cond.initialized "jdk/internal/util/Preconditions") (by decide +kernel))) (hts _ (q_has_mem (n := 3172) (w := Cond.methodLink "java/lang/String" 1059 yJ3_checkIndex_8e157) (by decide +kernel))) ⟨by decide, by decide, by decide +kernel⟩ ⟨by decide, by decide⟩, hts _ (q_has_mem (n := 3173) (w := Cond.static yJ3_checkIndex_8e157) (by decide +kernel))⟩ ⟨fun a U g mk h => h, fun U hU hW => ⟨v, hv, rfl⟩⟩ rfl rfl hl.1 rfl (lv_room (Nat.le_of_ble_eq_true rfl)) (show decode cJ0_checkIndex_df160 5 = .ok (.invokestatic 1059, 3) by decide +kernel) ⟨Nat.le_refl _, Nat.le_refl _⟩
  refine W.callR hcall ?_
  refine lv_pop (pc := 8) (rest := []) hx hb (va := .int k) (by decide +kernel) rfl ?_
  exact W.vret (pc := 9) hx hb hr (fun t ht _ => ⟨rfl, ht⟩) (fun q hq => absurd hq List.not_mem_nil) (by decide +kernel)
theorem q_jc4 (hi : i < 26) : Met l yJ0_length_8abf5 (q_jw yJ0_length_8abf5 cJ0_length_8abf5 1 (some .int)) (q_jrm 1) (q_jP b [.ref (b (i + 1))]) (QcRead (qI (q_lit i).length)) 0 0 (fun _ => False) := by
  refine q_jof (by decide) ?_
  rintro a s ⟨rfl, hJ⟩
  refine ⟨_, rfl, Nat.le_refl 1, ?_⟩
  intro p e m below meth c ls hx hb hml hr hlocks hown hts hl
  have hJ0 := hJ
  obtain ⟨⟨ad, hV⟩, hZ, hQ⟩ := hJ
  obtain ⟨k1, k2, k3, k4⟩ := q_jk2 i hi
  have l0 : ls[0]? = some (.val (.ref (b (i + 1)))) := hl.2.2 (0, _) List.mem_cons_self
  refine lv_aload_n hx hb (k := 0) (i := 0) (by decide +kernel) rfl l0 ?_
  refine vk_getf hx hb (hV.1 i hi).2.2.1 q_jS hown (hts _ (q_has_mem (n := 9108) (w := Cond.fieldLink "java/lang/String" 9 "java/lang/String" "value" "[B") (by decide +kernel))) (fun x hx => hx) (by decide +kernel) ?_
  refine va_tlen hx hb (hV.1 i hi).2.2.2 q_jS k3 (by decide +kernel) ?_
  refine lv_aload_n hx hb (k := 0) (i := 0) (by decide +kernel) rfl l0 ?_
  have hcall := W.runV (rest := [.int (qI (q_lit i).length)]) (H := s.heap) (locs := []) (cells := 0) (slots := 0) (g := F0 m 6 ls [.ref (b (i + 1)), .int (qI (q_lit i).length)]) (As := []) (b := b (i + 1)) (C := "java/lang/String") (below := below) (meth := meth) (e := e) (R := q_jrm 1) ⟨hx, hb, hml, hown, hts⟩ (q_jc0 (l := l) (b := b) hi) ⟨callB_of 0 hts (q_jgood (y := yJ0_coder_7d493) (cc := cJ0_coder_7d493) (mL := 1) (ret := some .byte) (q_has_mem (n := 3153) (by decide +kernel))) rfl rfl rfl (hts _ (q_has_mem (n := 1016) (w := Cond.initialized "java/lang/String") (by decide +kernel))) (hts _ (q_has_mem (n := 3150) (w := Cond.methodLink "java/lang/String" 335 yJ0_coder_7d493) (by decide +kernel))) ⟨by decide, by decide, by decide +kernel⟩ ⟨by decide, by decide⟩, hts _ (q_has_mem (n := 3151) (w := Cond.instanceMethod yJ0_coder_7d493) (by decide +kernel)), hts _ (q_has_mem (n := 3152) (w := Cond.selects "java/lang/String" yJ0_coder_7d493 yJ0_coder_7d493) (by decide +kernel))⟩ ⟨q_jbl, vk_recv (i := i) hV hi q_jS, fun U hU hW => ⟨rfl, by rw [hU]; exact hJ0.moved hW.alike⟩⟩ rfl rfl hl.1 rfl (lv_room (Nat.le_of_ble_eq_true rfl)) (show decode cJ0_length_8abf5 6 = .ok (.invokevirtual 335, 3) by decide +kernel) ⟨Nat.le_refl _, Nat.le_refl _⟩
  refine W.callR hcall ?_
  refine lv_ishr (pc := 9) (rest := []) hx hb (x := qI (q_lit i).length) (y := 0) (by decide +kernel) ?_
  rw [k4]
  exact W.iret (pc := 10) hx hb hr (fun t ht _ => ⟨rfl, ht⟩) (fun q hq => absurd hq List.not_mem_nil) (by decide +kernel)
/-- StringLatin1.charAt is given a text's bytes -/
def q_jPb (b : Nat → Nat) (i n : Nat) : Array Value → State → Prop := fun a st => ∃ ad : Nat → Nat, a = ([.ref (ad i), .int (qI n)] : List Value).toArray ∧ vk_S 26 q_txl q_txb (fun i => b (i + 1)) ad q_no st st.heap ∧ q_JT b q_no st st.heap
theorem q_jc5 (hi : i < 26) {n : Nat} (hn : n < q_txl.getD i 0) : Met l yJ1_charAt_3b067 (q_jw yJ1_charAt_3b067 cJ1_charAt_3b067 2 (some .char)) (q_jrm 2) (q_jPb b i n) (QcRead (qI ((q_lit i).getD n 0))) 0 0 (fun _ => False) := by
  refine q_jof (by decide) ?_
  rintro a s ⟨ad, rfl, hV, hJ0⟩
  refine ⟨_, rfl, Nat.le_refl 2, ?_⟩
  intro p e m below meth c ls hx hb hml hr hlocks hown hts hl
  obtain ⟨k1, k2, k3, k4⟩ := q_jk2 i hi
  obtain ⟨n1, n2⟩ := q_jk1 n (by omega)
  obtain ⟨c1, c2⟩ := q_jk3 i hi n hn
  have l0 : ls[0]? = some (.val (.ref (ad i))) := hl.2.2 (0, _) List.mem_cons_self
  have l1 : ls[1]? = some (.val (.int (qI n))) := hl.2.2 (1, _) (List.mem_cons_of_mem _ List.mem_cons_self)
  have hlt : qI n < Int32.ofNat (q_txl.getD i 0) := q_jk4 n (q_txl.getD i 0) k1 hn
  refine lv_iload_n hx hb (k := 1) (i := 1) (by decide +kernel) rfl l1 ?_
  refine lv_aload_n hx hb (k := 0) (i := 0) (by decide +kernel) rfl l0 ?_
  refine va_tlen hx hb (hV.1 i hi).2.2.2 q_jS rfl (by decide +kernel) ?_
  have hcall := W.runS (rest := []) (H := s.heap) (locs := []) (cells := 0) (slots := 0) (g := F0 m 3 ls [.int (Int32.ofNat (q_txl.getD i 0)), .int (qI n)]) (As := [.int (qI n), .int (Int32.ofNat (q_txl.getD i 0))]) (below := below) (meth := meth) (e := e) (R := q_jrm 2) ⟨hx, hb, hml, hown, hts⟩ (q_jc3 (l := l) (b := b) n2 hlt) ⟨callB_of 2 hts (q_jgood (y := yJ0_checkIndex_df160) (cc := cJ0_checkIndex_df160) (mL := 2) (ret := none) (q_has_mem (n := 3169) (by decide +kernel))) rfl rfl rfl (hts _ (q_has_mem (n := 1016) (w := Cond.initialized "java/lang/String") (by decide +kernel))) (hts _ (q_has_mem (n := 3167) (w := Cond.methodLink "java/lang/StringLatin1" 9 yJ0_checkIndex_df160) (by decide +kernel))) ⟨by decide, by decide, by decide +kernel⟩ ⟨by decide, by decide⟩, hts _ (q_has_mem (n := 3168) (w := Cond.static yJ0_checkIndex_df160) (by decide +kernel))⟩ ⟨q_jbl, fun U hU hW => ⟨rfl, by rw [hU]; exact hJ0.moved hW.alike⟩⟩ rfl rfl hl.1 rfl (lv_room (Nat.le_of_ble_eq_true rfl)) (show decode cJ1_charAt_3b067 3 = .ok (.invokestatic 9, 3) by decide +kernel) ⟨Nat.le_refl _, Nat.le_refl _⟩
  refine W.callX hcall (fun x h => h.elim) ?_
  rintro v st₀ t h0 ⟨hv, hh⟩
  cases hv
  rw [hh, h0]
  refine lv_aload_n (pc := 6) (rest := []) hx hb (k := 0) (i := 0) (by decide +kernel) rfl l0 ?_
  refine lv_iload_n (pc := 7) hx hb (k := 1) (i := 1) (by decide +kernel) rfl l1 ?_
  refine va_tb (pc := 8) hx hb (hV.1 i hi).2.2.2 q_jS (i := qI n) (fun q => by rcases q with q | q; exact n2 q; rw [n1] at q; omega) (v := .int ((q_txb.getD i []).getD n 0)) (by rw [n1]) (by decide +kernel) ?_
  refine lv_sipush (pc := 9) hx hb (n := 255) (v := (Int16.ofInt 255).toInt32) (by decide +kernel) rfl ?_
  refine lv_iand (pc := 12) hx hb (by decide +kernel) ?_
  refine lv_i2c (pc := 13) hx hb (by decide +kernel) c1 ?_
  exact W.zret (pc := 14) hx hb hr c2 (fun t ht _ => ⟨rfl, ht⟩) (fun q hq => absurd hq List.not_mem_nil) (by decide +kernel)
theorem q_jc6 (hi : i < 26) {n : Nat} (hn : n < q_txl.getD i 0) : Met l yJ0_charAt_5068e (q_jw yJ0_charAt_5068e cJ0_charAt_5068e 2 (some .char)) (q_jrm 3) (q_jP b [.ref (b (i + 1)), .int (qI n)]) (QcRead (qI ((q_lit i).getD n 0))) 0 0 (fun _ => False) := by
  refine q_jof (by decide) ?_
  rintro a s ⟨rfl, hJ0⟩
  refine ⟨_, rfl, Nat.le_refl 2, ?_⟩
  intro p e m below meth c ls hx hb hml hr hlocks hown hts hl
  have hJ1 := hJ0
  obtain ⟨⟨ad, hV⟩, hZ, hQ⟩ := hJ1
  obtain ⟨c1, c2⟩ := q_jk3 i hi n hn
  have l0 : ls[0]? = some (.val (.ref (b (i + 1)))) := hl.2.2 (0, _) List.mem_cons_self
  have l1 : ls[1]? = some (.val (.int (qI n))) := hl.2.2 (1, _) (List.mem_cons_of_mem _ List.mem_cons_self)
  refine lv_aload_n hx hb (k := 0) (i := 0) (by decide +kernel) rfl l0 ?_
  have hcall := W.runV (rest := []) (H := s.heap) (locs := []) (cells := 0) (slots := 0) (g := F0 m 1 ls [.ref (b (i + 1))]) (As := []) (b := b (i + 1)) (C := "java/lang/String") (below := below) (meth := meth) (e := e) (R := q_jrm 3) ⟨hx, hb, hml, hown, hts⟩ (q_jc1 (l := l) (b := b) hi) ⟨callB_of 0 hts (q_jgood (y := yJ0_isLatin1_aae02) (cc := cJ0_isLatin1_aae02) (mL := 1) (ret := some .boolean) (q_has_mem (n := 3163) (by decide +kernel))) rfl rfl rfl (hts _ (q_has_mem (n := 1016) (w := Cond.initialized "java/lang/String") (by decide +kernel))) (hts _ (q_has_mem (n := 3160) (w := Cond.methodLink "java/lang/String" 492 yJ0_isLatin1_aae02) (by decide +kernel))) ⟨by decide, by decide, by decide +kernel⟩ ⟨by decide, by decide⟩, hts _ (q_has_mem (n := 3161) (w := Cond.instanceMethod yJ0_isLatin1_aae02) (by decide +kernel)), hts _ (q_has_mem (n := 3162) (w := Cond.selects "java/lang/String" yJ0_isLatin1_aae02 yJ0_isLatin1_aae02) (by decide +kernel))⟩ ⟨q_jbl, vk_recv (i := i) hV hi q_jS, fun U hU hW => ⟨rfl, by rw [hU]; exact hJ0.moved hW.alike⟩⟩ rfl rfl hl.1 rfl (lv_room (Nat.le_of_ble_eq_true rfl)) (show decode cJ0_charAt_5068e 1 = .ok (.invokevirtual 492, 3) by decide +kernel) ⟨Nat.le_refl _, Nat.le_refl _⟩
  refine W.callR hcall ?_
  refine lv_if_eq (pc := 4) (rest := []) (x := 1) hx hb (off := 12) (tgt := 16) (by decide +kernel) (by decide) (fun h => absurd h (by decide)) (fun _ => ?_)
  refine lv_aload_n hx hb (k := 0) (i := 0) (by decide +kernel) rfl l0 ?_
  refine vk_getf hx hb (hV.1 i hi).2.2.1 q_jS hown (hts _ (q_has_mem (n := 9108) (w := Cond.fieldLink "java/lang/String" 9 "java/lang/String" "value" "[B") (by decide +kernel))) (fun x hx => hx) (by decide +kernel) ?_
  refine lv_iload_n hx hb (k := 1) (i := 1) (by decide +kernel) rfl l1 ?_
  have hcall2 := W.runS (rest := []) (H := s.heap) (locs := []) (cells := 0) (slots := 0) (g := F0 m 12 ls [.int (qI n), .ref (ad i)]) (As := [.ref (ad i), .int (qI n)]) (below := below) (meth := meth) (e := e) (R := q_jrm 3) ⟨hx, hb, hml, hown, hts⟩ (q_jc5 (l := l) (b := b) hi hn) ⟨callB_of 2 hts (q_jgood (y := yJ1_charAt_3b067) (cc := cJ1_charAt_3b067) (mL := 2) (ret := some .char) (q_has_mem (n := 3166) (by decide +kernel))) rfl rfl rfl (hts _ (q_has_mem (n := 1017) (w := Cond.initialized "java/lang/StringLatin1") (by decide +kernel))) (hts _ (q_has_mem (n := 3164) (w := Cond.methodLink "java/lang/String" 495 yJ1_charAt_3b067) (by decide +kernel))) ⟨by decide, by decide, by decide +kernel⟩ ⟨by decide, by decide⟩, hts _ (q_has_mem (n := 3165) (w := Cond.static yJ1_charAt_3b067) (by decide +kernel))⟩ ⟨fun a U g mk ⟨ad, h1, h2, h3⟩ => ⟨ad, h1, vk_S.moved (u := U) (U := U.calling g mk a) (Vm.Alike.refl U.vm) h2, q_JT.moved (u := U) (U := U.calling g mk a) (Vm.Alike.refl U.vm) h3⟩, fun U hU hW => ⟨ad, rfl, by rw [hU]; exact hV.moved hW.alike, by rw [hU]; exact hJ0.moved hW.alike⟩⟩ rfl rfl hl.1 rfl (lv_room (Nat.le_of_ble_eq_true rfl)) (show decode cJ0_charAt_5068e 12 = .ok (.invokestatic 495, 3) by decide +kernel) ⟨Nat.le_refl _, Nat.le_refl _⟩
  refine W.callR hcall2 ?_
  exact W.zret (pc := 15) hx hb hr c2 (fun t ht _ => ⟨rfl, ht⟩) (fun q hq => absurd hq List.not_mem_nil) (by decide +kernel)
end
