-- 4706.dec: what stands at a place of the code, by its opcode (printed by wip/a1/mkdec.py)
/-- what decode does behind the first byte -/
noncomputable def q_F (pc : Nat) : { F : Nat → Decoder Instr // Decoder.instr pc = (Reader.u1 >>= F) } := ⟨_, rfl⟩
theorem q_u1 {bytes : ByteArray} {pc : Nat} (h : pc < bytes.size) : (Reader.u1 : Decoder Nat) bytes pc = Except.ok (bytes[pc].toNat, pc + 1) := by
  unfold Reader.u1
  show (if h : pc < bytes.size then (do set (pc + 1); pure bytes[pc].toNat : Decoder Nat) else throw (HasTruncated.truncated pc)) bytes pc = _
  rw [dif_pos h]
  rfl
theorem q_dec0 {bytes : ByteArray} {pc op : Nat} {X : Decoder Instr} (h : pc < bytes.size) (hb : bytes[pc].toNat = op) (hF : (q_F pc).1 op = X) {I : Instr} {n : Nat} (hX : X bytes (pc + 1) = Except.ok (I, n)) : decode bytes pc = .ok (I, n - pc) := by
  have e : (Decoder.instr pc).runAt bytes pc = Except.ok (I, n) := by
    rw [(q_F pc).2]
    show (((Reader.u1 : Decoder Nat) bytes pc) >>= fun q => (q_F pc).1 q.1 bytes q.2) = _
    rw [q_u1 h]
    show (q_F pc).1 bytes[pc].toNat bytes (pc + 1) = _
    rw [hb, hF, hX]
  unfold decode
  rw [e]
  rfl
noncomputable def q_bl (bytes : ByteArray) : List Nat := bytes.data.toList.map UInt8.toNat
noncomputable def q_dr (l : List Nat) (n : Nat) : List Nat := @Nat.rec (fun _ => List Nat → List Nat) (fun l => l) (fun _ ih l => @List.rec Nat (fun _ => List Nat) [] (fun _ r _ => ih r) l) n l
theorem q_dr_eq : ∀ (n : Nat) (l : List Nat), q_dr l n = l.drop n
  | 0, l => rfl
  | n + 1, [] => by rw [List.drop_nil]; rfl
  | n + 1, _ :: l => q_dr_eq n l
theorem q_blc {bytes : ByteArray} {pc b : Nat} {r : List Nat} (h : (q_bl bytes).drop pc = b :: r) : (∃ h : pc < bytes.size, bytes[pc].toNat = b) ∧ (q_bl bytes).drop (pc + 1) = r := by
  constructor
  · have h1 := congrArg List.head? h
    rw [List.head?_drop] at h1
    have h1 : (bytes.data.toList.map UInt8.toNat)[pc]? = some b := h1
    rw [List.getElem?_map] at h1
    cases hx : bytes.data.toList[pc]? with
    | none => rw [hx] at h1; cases h1
    | some x =>
      rw [hx] at h1
      obtain ⟨h2, h3⟩ := List.getElem?_eq_some_iff.mp hx
      refine ⟨h2, ?_⟩
      rw [show bytes[pc] = x from h3]
      exact Option.some.inj h1
  · have h1 := congrArg List.tail h
    rw [List.tail_drop] at h1
    exact h1
theorem q_sA {bytes : ByteArray} {pc op : Nat} {I : Instr} {r : List Nat} (hF : (q_F pc).1 op = (Pure.pure I : Decoder Instr)) (hl : (q_bl bytes).drop pc = op :: r) : decode bytes pc = .ok (I, 1) := by
  obtain ⟨⟨h, hb⟩, -⟩ := q_blc hl
  have e := q_dec0 h hb hF (I := I) (n := pc + 1) rfl
  rw [show pc + 1 - pc = 1 by omega] at e
  exact e
theorem q_sB {bytes : ByteArray} {pc op x : Nat} {C : Nat → Instr} {r : List Nat} (hF : (q_F pc).1 op = (Reader.u1 >>= fun x => Pure.pure (C x))) (hl : (q_bl bytes).drop pc = op :: x :: r) : decode bytes pc = .ok (C x, 2) := by
  obtain ⟨⟨h, hb⟩, hl⟩ := q_blc hl
  obtain ⟨⟨h1, hb1⟩, -⟩ := q_blc hl
  have e := q_dec0 h hb hF (I := C x) (n := pc + 1 + 1) (by
    show (((Reader.u1 : Decoder Nat) bytes (pc + 1)) >>= fun q => Except.ok (C q.1, q.2)) = _
    rw [q_u1 h1, hb1]
    rfl)
  rw [show pc + 1 + 1 - pc = 2 by omega] at e
  exact e
theorem q_u2 {bytes : ByteArray} {pc x y : Nat} {r : List Nat} (hl : (q_bl bytes).drop pc = x :: y :: r) : (Reader.u2 : Decoder Nat) bytes pc = Except.ok (x * 256 + y, pc + 1 + 1) := by
  obtain ⟨⟨h, hb⟩, hl⟩ := q_blc hl
  obtain ⟨⟨h1, hb1⟩, -⟩ := q_blc hl
  show (((Reader.u1 : Decoder Nat) bytes pc) >>= fun q => (((Reader.u1 : Decoder Nat) bytes q.2) >>= fun q' => Except.ok (q.1 * 256 + q'.1, q'.2))) = _
  rw [q_u1 h]
  show (((Reader.u1 : Decoder Nat) bytes (pc + 1)) >>= fun q' => Except.ok (bytes[pc].toNat * 256 + q'.1, q'.2)) = _
  rw [q_u1 h1, hb, hb1]
  rfl
theorem q_sC {bytes : ByteArray} {pc op x y : Nat} {C : Nat → Instr} {r : List Nat} (hF : (q_F pc).1 op = (Reader.u2 >>= fun x => Pure.pure (C x))) (hl : (q_bl bytes).drop pc = op :: x :: y :: r) : decode bytes pc = .ok (C (x * 256 + y), 3) := by
  obtain ⟨⟨h, hb⟩, hl⟩ := q_blc hl
  have e := q_dec0 h hb hF (I := C (x * 256 + y)) (n := pc + 1 + 1 + 1) (by
    show (((Reader.u2 : Decoder Nat) bytes (pc + 1)) >>= fun q => Except.ok (C q.1, q.2)) = _
    rw [q_u2 hl]
    rfl)
  rw [show pc + 1 + 1 + 1 - pc = 3 by omega] at e
  exact e
theorem q_sD {bytes : ByteArray} {pc op x : Nat} {C : Int → Instr} {r : List Nat} (hF : (q_F pc).1 op = (Reader.s1 >>= fun x => Pure.pure (C x))) (hl : (q_bl bytes).drop pc = op :: x :: r) : decode bytes pc = .ok (C (Reader.signed 8 x), 2) := by
  obtain ⟨⟨h, hb⟩, hl⟩ := q_blc hl
  obtain ⟨⟨h1, hb1⟩, -⟩ := q_blc hl
  have e := q_dec0 h hb hF (I := C (Reader.signed 8 x)) (n := pc + 1 + 1) (by
    show ((((Reader.u1 : Decoder Nat) bytes (pc + 1)) >>= fun q => Except.ok (Reader.signed 8 q.1, q.2)) >>= fun q => Except.ok (C q.1, q.2)) = _
    rw [q_u1 h1, hb1]
    rfl)
  rw [show pc + 1 + 1 - pc = 2 by omega] at e
  exact e
theorem q_sE {bytes : ByteArray} {pc op x y : Nat} {C : Int → Instr} {r : List Nat} (hF : (q_F pc).1 op = (Reader.s2 >>= fun x => Pure.pure (C x))) (hl : (q_bl bytes).drop pc = op :: x :: y :: r) : decode bytes pc = .ok (C (Reader.signed 16 (x * 256 + y)), 3) := by
  obtain ⟨⟨h, hb⟩, hl⟩ := q_blc hl
  have e := q_dec0 h hb hF (I := C (Reader.signed 16 (x * 256 + y))) (n := pc + 1 + 1 + 1) (by
    show ((((Reader.u2 : Decoder Nat) bytes (pc + 1)) >>= fun q => Except.ok (Reader.signed 16 q.1, q.2)) >>= fun q => Except.ok (C q.1, q.2)) = _
    rw [q_u2 hl]
    rfl)
  rw [show pc + 1 + 1 + 1 - pc = 3 by omega] at e
  exact e
theorem q_sG {bytes : ByteArray} {pc op x y : Nat} {C : Nat → Int → Instr} {r : List Nat} (hF : (q_F pc).1 op = (Reader.u1 >>= fun x => Reader.s1 >>= fun y => Pure.pure (C x y))) (hl : (q_bl bytes).drop pc = op :: x :: y :: r) : decode bytes pc = .ok (C x (Reader.signed 8 y), 3) := by
  obtain ⟨⟨h, hb⟩, hl⟩ := q_blc hl
  obtain ⟨⟨h1, hb1⟩, hl⟩ := q_blc hl
  obtain ⟨⟨h2, hb2⟩, -⟩ := q_blc hl
  have e := q_dec0 h hb hF (I := C x (Reader.signed 8 y)) (n := pc + 1 + 1 + 1) (by
    show (((Reader.u1 : Decoder Nat) bytes (pc + 1)) >>= fun q => ((((Reader.u1 : Decoder Nat) bytes q.2) >>= fun q' => Except.ok (Reader.signed 8 q'.1, q'.2)) >>= fun q' => Except.ok (C q.1 q'.1, q'.2))) = _
    rw [q_u1 h1]
    show ((((Reader.u1 : Decoder Nat) bytes (pc + 1 + 1)) >>= fun q' => Except.ok (Reader.signed 8 q'.1, q'.2)) >>= fun q' => Except.ok (C bytes[pc + 1].toNat q'.1, q'.2)) = _
    rw [q_u1 h2, hb1, hb2]
    rfl)
  rw [show pc + 1 + 1 + 1 - pc = 3 by omega] at e
  exact e
-- the bytes that are looked for
noncomputable def q_l1 (l : List Nat) (op : Nat) : Bool := match l with
  | b :: _ => Nat.beq b op
  | _ => false
noncomputable def q_l2 (l : List Nat) (op a : Nat) : Bool := match l with
  | b :: x :: _ => Nat.beq b op && Nat.beq x a
  | _ => false
noncomputable def q_l3 (l : List Nat) (op a : Nat) : Bool := match l with
  | b :: x :: y :: _ => Nat.beq b op && Nat.beq (x * 256 + y) a
  | _ => false
noncomputable def q_lo (l : List Nat) (op pc t : Nat) : Bool := match l with
  | b :: x :: y :: _ => Nat.beq b op && (bif Nat.blt (x * 256 + y) 32768 then Nat.beq (pc + (x * 256 + y)) t else Nat.beq (pc + (x * 256 + y)) (t + 65536))
  | _ => false
theorem q_l1_ok {l : List Nat} {op : Nat} (h : q_l1 l op = true) : ∃ r, l = op :: r := by
  unfold q_l1 at h
  split at h
  · exact ⟨_, by rw [Nat.eq_of_beq_eq_true h]⟩
  · cases h
theorem q_l2_ok {l : List Nat} {op a : Nat} (h : q_l2 l op a = true) : ∃ r, l = op :: a :: r := by
  unfold q_l2 at h
  split at h
  · rw [Bool.and_eq_true] at h
    exact ⟨_, by rw [Nat.eq_of_beq_eq_true h.1, Nat.eq_of_beq_eq_true h.2]⟩
  · cases h
theorem q_l3_ok {l : List Nat} {op a : Nat} (h : q_l3 l op a = true) : ∃ x y r, l = op :: x :: y :: r ∧ x * 256 + y = a := by
  unfold q_l3 at h
  split at h
  · rw [Bool.and_eq_true] at h
    exact ⟨_, _, _, by rw [Nat.eq_of_beq_eq_true h.1], Nat.eq_of_beq_eq_true h.2⟩
  · cases h
theorem q_lo_ok {l : List Nat} {op pc t : Nat} (h : q_lo l op pc t = true) : ∃ x y r, l = op :: x :: y :: r ∧ Reader.signed 16 (x * 256 + y) = q_off pc t := by
  unfold q_lo at h
  split at h
  · rename_i b x y r
    rw [Bool.and_eq_true] at h
    refine ⟨x, y, r, by rw [Nat.eq_of_beq_eq_true h.1], ?_⟩
    have h := h.2
    unfold Reader.signed q_off
    by_cases k : x * 256 + y < 32768
    · rw [q_blt, decide_eq_true k] at h
      have h := Nat.eq_of_beq_eq_true h
      rw [if_pos k]
      omega
    · rw [q_blt, decide_eq_false k] at h
      have h := Nat.eq_of_beq_eq_true h
      rw [if_neg k]
      have e : ((2 ^ 16 : Nat) : Int) = 65536 := rfl
      rw [e]
      omega
  · cases h
noncomputable def q_dc4 (l : List Nat) (v : Nat) : Bool := Nat.ble v 9 && q_l1 l (([96, 100, 104, 126, 128, 130, 120, 122, 108, 112] : List Nat).getD v 999)
theorem q_dc4_ok {bytes : ByteArray} {pc : Nat} {l : List Nat} (hl : (q_bl bytes).drop pc = l) {v : Nat} (h : q_dc4 l v = true) : decode bytes pc = .ok (q_ins4 v, 1) := by
  unfold q_dc4 at h
  rw [Bool.and_eq_true] at h
  have hv := Nat.le_of_ble_eq_true h.1
  obtain ⟨r, e⟩ := q_l1_ok h.2
  rw [e] at hl
  have hc : v = 0 ∨ v = 1 ∨ v = 2 ∨ v = 3 ∨ v = 4 ∨ v = 5 ∨ v = 6 ∨ v = 7 ∨ v = 8 ∨ v = 9 := by omega
  rcases hc with rfl | rfl | rfl | rfl | rfl | rfl | rfl | rfl | rfl | rfl
  · exact q_sA (op := 96) rfl hl
  · exact q_sA (op := 100) rfl hl
  · exact q_sA (op := 104) rfl hl
  · exact q_sA (op := 126) rfl hl
  · exact q_sA (op := 128) rfl hl
  · exact q_sA (op := 130) rfl hl
  · exact q_sA (op := 120) rfl hl
  · exact q_sA (op := 122) rfl hl
  · exact q_sA (op := 108) rfl hl
  · exact q_sA (op := 112) rfl hl
noncomputable def q_dc5 (l : List Nat) (v : Nat) : Bool := Nat.ble v 7 && q_l1 l (([97, 101, 105, 127, 129, 109, 113, 121] : List Nat).getD v 999)
theorem q_dc5_ok {bytes : ByteArray} {pc : Nat} {l : List Nat} (hl : (q_bl bytes).drop pc = l) {v : Nat} (h : q_dc5 l v = true) : decode bytes pc = .ok (q_ins5 v, 1) := by
  unfold q_dc5 at h
  rw [Bool.and_eq_true] at h
  have hv := Nat.le_of_ble_eq_true h.1
  obtain ⟨r, e⟩ := q_l1_ok h.2
  rw [e] at hl
  have hc : v = 0 ∨ v = 1 ∨ v = 2 ∨ v = 3 ∨ v = 4 ∨ v = 5 ∨ v = 6 ∨ v = 7 := by omega
  rcases hc with rfl | rfl | rfl | rfl | rfl | rfl | rfl | rfl
  · exact q_sA (op := 97) rfl hl
  · exact q_sA (op := 101) rfl hl
  · exact q_sA (op := 105) rfl hl
  · exact q_sA (op := 127) rfl hl
  · exact q_sA (op := 129) rfl hl
  · exact q_sA (op := 109) rfl hl
  · exact q_sA (op := 113) rfl hl
  · exact q_sA (op := 121) rfl hl
noncomputable def q_dc6 (l : List Nat) (v : Nat) : Bool := Nat.ble v 3 && q_l1 l (([133, 136, 145, 147] : List Nat).getD v 999)
theorem q_dc6_ok {bytes : ByteArray} {pc : Nat} {l : List Nat} (hl : (q_bl bytes).drop pc = l) {v : Nat} (h : q_dc6 l v = true) : decode bytes pc = .ok (q_ins6 v, 1) := by
  unfold q_dc6 at h
  rw [Bool.and_eq_true] at h
  have hv := Nat.le_of_ble_eq_true h.1
  obtain ⟨r, e⟩ := q_l1_ok h.2
  rw [e] at hl
  have hc : v = 0 ∨ v = 1 ∨ v = 2 ∨ v = 3 := by omega
  rcases hc with rfl | rfl | rfl | rfl
  · exact q_sA (op := 133) rfl hl
  · exact q_sA (op := 136) rfl hl
  · exact q_sA (op := 145) rfl hl
  · exact q_sA (op := 147) rfl hl
noncomputable def q_dc13 (l : List Nat) (v : Nat) : Bool := Nat.ble v 3 && q_l1 l (([89, 92, 87, 88] : List Nat).getD v 999)
theorem q_dc13_ok {bytes : ByteArray} {pc : Nat} {l : List Nat} (hl : (q_bl bytes).drop pc = l) {v : Nat} (h : q_dc13 l v = true) : decode bytes pc = .ok (q_ins13 v, 1) := by
  unfold q_dc13 at h
  rw [Bool.and_eq_true] at h
  have hv := Nat.le_of_ble_eq_true h.1
  obtain ⟨r, e⟩ := q_l1_ok h.2
  rw [e] at hl
  have hc : v = 0 ∨ v = 1 ∨ v = 2 ∨ v = 3 := by omega
  rcases hc with rfl | rfl | rfl | rfl
  · exact q_sA (op := 89) rfl hl
  · exact q_sA (op := 92) rfl hl
  · exact q_sA (op := 87) rfl hl
  · exact q_sA (op := 88) rfl hl
noncomputable def q_dc20 (l : List Nat) (v : Nat) : Bool := Nat.ble v 3 && q_l1 l (([46, 51, 47, 50] : List Nat).getD v 999)
theorem q_dc20_ok {bytes : ByteArray} {pc : Nat} {l : List Nat} (hl : (q_bl bytes).drop pc = l) {v : Nat} (h : q_dc20 l v = true) : decode bytes pc = .ok (q_ins20 v, 1) := by
  unfold q_dc20 at h
  rw [Bool.and_eq_true] at h
  have hv := Nat.le_of_ble_eq_true h.1
  obtain ⟨r, e⟩ := q_l1_ok h.2
  rw [e] at hl
  have hc : v = 0 ∨ v = 1 ∨ v = 2 ∨ v = 3 := by omega
  rcases hc with rfl | rfl | rfl | rfl
  · exact q_sA (op := 46) rfl hl
  · exact q_sA (op := 51) rfl hl
  · exact q_sA (op := 47) rfl hl
  · exact q_sA (op := 50) rfl hl
noncomputable def q_dc21 (l : List Nat) (v : Nat) : Bool := Nat.ble v 3 && q_l1 l (([79, 84, 80, 83] : List Nat).getD v 999)
theorem q_dc21_ok {bytes : ByteArray} {pc : Nat} {l : List Nat} (hl : (q_bl bytes).drop pc = l) {v : Nat} (h : q_dc21 l v = true) : decode bytes pc = .ok (q_ins21 v, 1) := by
  unfold q_dc21 at h
  rw [Bool.and_eq_true] at h
  have hv := Nat.le_of_ble_eq_true h.1
  obtain ⟨r, e⟩ := q_l1_ok h.2
  rw [e] at hl
  have hc : v = 0 ∨ v = 1 ∨ v = 2 ∨ v = 3 := by omega
  rcases hc with rfl | rfl | rfl | rfl
  · exact q_sA (op := 79) rfl hl
  · exact q_sA (op := 84) rfl hl
  · exact q_sA (op := 80) rfl hl
  · exact q_sA (op := 83) rfl hl
noncomputable def q_dc24 (l : List Nat) (v : Nat) : Bool := Nat.ble v 3 && q_l1 l (([177, 172, 173, 176] : List Nat).getD v 999)
theorem q_dc24_ok {bytes : ByteArray} {pc : Nat} {l : List Nat} (hl : (q_bl bytes).drop pc = l) {v : Nat} (h : q_dc24 l v = true) : decode bytes pc = .ok (q_ins24 v, 1) := by
  unfold q_dc24 at h
  rw [Bool.and_eq_true] at h
  have hv := Nat.le_of_ble_eq_true h.1
  obtain ⟨r, e⟩ := q_l1_ok h.2
  rw [e] at hl
  have hc : v = 0 ∨ v = 1 ∨ v = 2 ∨ v = 3 := by omega
  rcases hc with rfl | rfl | rfl | rfl
  · exact q_sA (op := 177) rfl hl
  · exact q_sA (op := 172) rfl hl
  · exact q_sA (op := 173) rfl hl
  · exact q_sA (op := 176) rfl hl
noncomputable def q_dc8 (l : List Nat) (v pc a : Nat) : Bool := Nat.ble v 5 && q_lo l (([153, 154, 155, 156, 157, 158] : List Nat).getD v 999) pc a
theorem q_dc8_ok {bytes : ByteArray} {pc : Nat} {l : List Nat} (hl : (q_bl bytes).drop pc = l) {v a : Nat} (h : q_dc8 l v pc a = true) : decode bytes pc = .ok (q_ins8 v (q_off pc a), 3) := by
  unfold q_dc8 at h
  rw [Bool.and_eq_true] at h
  have hv := Nat.le_of_ble_eq_true h.1
  obtain ⟨x, y, r, e, g⟩ := q_lo_ok h.2
  rw [e] at hl
  rw [← g]
  have hc : v = 0 ∨ v = 1 ∨ v = 2 ∨ v = 3 ∨ v = 4 ∨ v = 5 := by omega
  rcases hc with rfl | rfl | rfl | rfl | rfl | rfl
  · exact q_sE (op := 153) (C := fun o => .ifCond .eq o) rfl hl
  · exact q_sE (op := 154) (C := fun o => .ifCond .ne o) rfl hl
  · exact q_sE (op := 155) (C := fun o => .ifCond .lt o) rfl hl
  · exact q_sE (op := 156) (C := fun o => .ifCond .ge o) rfl hl
  · exact q_sE (op := 157) (C := fun o => .ifCond .gt o) rfl hl
  · exact q_sE (op := 158) (C := fun o => .ifCond .le o) rfl hl
noncomputable def q_dc9 (l : List Nat) (v pc a : Nat) : Bool := Nat.ble v 5 && q_lo l (([159, 160, 161, 162, 163, 164] : List Nat).getD v 999) pc a
theorem q_dc9_ok {bytes : ByteArray} {pc : Nat} {l : List Nat} (hl : (q_bl bytes).drop pc = l) {v a : Nat} (h : q_dc9 l v pc a = true) : decode bytes pc = .ok (q_ins9 v (q_off pc a), 3) := by
  unfold q_dc9 at h
  rw [Bool.and_eq_true] at h
  have hv := Nat.le_of_ble_eq_true h.1
  obtain ⟨x, y, r, e, g⟩ := q_lo_ok h.2
  rw [e] at hl
  rw [← g]
  have hc : v = 0 ∨ v = 1 ∨ v = 2 ∨ v = 3 ∨ v = 4 ∨ v = 5 := by omega
  rcases hc with rfl | rfl | rfl | rfl | rfl | rfl
  · exact q_sE (op := 159) (C := fun o => .if_icmp .eq o) rfl hl
  · exact q_sE (op := 160) (C := fun o => .if_icmp .ne o) rfl hl
  · exact q_sE (op := 161) (C := fun o => .if_icmp .lt o) rfl hl
  · exact q_sE (op := 162) (C := fun o => .if_icmp .ge o) rfl hl
  · exact q_sE (op := 163) (C := fun o => .if_icmp .gt o) rfl hl
  · exact q_sE (op := 164) (C := fun o => .if_icmp .le o) rfl hl
noncomputable def q_dc1 (l : List Nat) (v a : Nat) : Bool := match v with
  | 0 => Nat.ble a 3 && q_l1 l (26 + a)
  | 1 => q_l2 l 21 a
  | 2 => Nat.ble a 3 && q_l1 l (30 + a)
  | 3 => q_l2 l 22 a
  | 4 => Nat.ble a 3 && q_l1 l (42 + a)
  | 5 => q_l2 l 25 a
  | _ => false
theorem q_dc1_ok {bytes : ByteArray} {pc : Nat} {l : List Nat} (hl : (q_bl bytes).drop pc = l) {v a : Nat} (h : q_dc1 l v a = true) : decode bytes pc = .ok (q_ins1 v a) := by
  unfold q_dc1 at h
  split at h
  · rw [Bool.and_eq_true] at h
    have hv := Nat.le_of_ble_eq_true h.1
    obtain ⟨r, e⟩ := q_l1_ok h.2
    rw [e] at hl
    have hc : a = 0 ∨ a = 1 ∨ a = 2 ∨ a = 3 := by omega
    rcases hc with rfl | rfl | rfl | rfl
    · exact q_sA (op := 26) rfl hl
    · exact q_sA (op := 27) rfl hl
    · exact q_sA (op := 28) rfl hl
    · exact q_sA (op := 29) rfl hl
  · obtain ⟨r, e⟩ := q_l2_ok h
    rw [e] at hl
    exact q_sB (op := 21) (C := fun x => .iload x) rfl hl
  · rw [Bool.and_eq_true] at h
    have hv := Nat.le_of_ble_eq_true h.1
    obtain ⟨r, e⟩ := q_l1_ok h.2
    rw [e] at hl
    have hc : a = 0 ∨ a = 1 ∨ a = 2 ∨ a = 3 := by omega
    rcases hc with rfl | rfl | rfl | rfl
    · exact q_sA (op := 30) rfl hl
    · exact q_sA (op := 31) rfl hl
    · exact q_sA (op := 32) rfl hl
    · exact q_sA (op := 33) rfl hl
  · obtain ⟨r, e⟩ := q_l2_ok h
    rw [e] at hl
    exact q_sB (op := 22) (C := fun x => .lload x) rfl hl
  · rw [Bool.and_eq_true] at h
    have hv := Nat.le_of_ble_eq_true h.1
    obtain ⟨r, e⟩ := q_l1_ok h.2
    rw [e] at hl
    have hc : a = 0 ∨ a = 1 ∨ a = 2 ∨ a = 3 := by omega
    rcases hc with rfl | rfl | rfl | rfl
    · exact q_sA (op := 42) rfl hl
    · exact q_sA (op := 43) rfl hl
    · exact q_sA (op := 44) rfl hl
    · exact q_sA (op := 45) rfl hl
  · obtain ⟨r, e⟩ := q_l2_ok h
    rw [e] at hl
    exact q_sB (op := 25) (C := fun x => .aload x) rfl hl
  · cases h
noncomputable def q_dc2 (l : List Nat) (v a : Nat) : Bool := match v with
  | 0 => Nat.ble a 3 && q_l1 l (59 + a)
  | 1 => q_l2 l 54 a
  | 2 => Nat.ble a 3 && q_l1 l (63 + a)
  | 3 => q_l2 l 55 a
  | 4 => Nat.ble a 3 && q_l1 l (75 + a)
  | 5 => q_l2 l 58 a
  | _ => false
theorem q_dc2_ok {bytes : ByteArray} {pc : Nat} {l : List Nat} (hl : (q_bl bytes).drop pc = l) {v a : Nat} (h : q_dc2 l v a = true) : decode bytes pc = .ok (q_ins2 v a) := by
  unfold q_dc2 at h
  split at h
  · rw [Bool.and_eq_true] at h
    have hv := Nat.le_of_ble_eq_true h.1
    obtain ⟨r, e⟩ := q_l1_ok h.2
    rw [e] at hl
    have hc : a = 0 ∨ a = 1 ∨ a = 2 ∨ a = 3 := by omega
    rcases hc with rfl | rfl | rfl | rfl
    · exact q_sA (op := 59) rfl hl
    · exact q_sA (op := 60) rfl hl
    · exact q_sA (op := 61) rfl hl
    · exact q_sA (op := 62) rfl hl
  · obtain ⟨r, e⟩ := q_l2_ok h
    rw [e] at hl
    exact q_sB (op := 54) (C := fun x => .istore x) rfl hl
  · rw [Bool.and_eq_true] at h
    have hv := Nat.le_of_ble_eq_true h.1
    obtain ⟨r, e⟩ := q_l1_ok h.2
    rw [e] at hl
    have hc : a = 0 ∨ a = 1 ∨ a = 2 ∨ a = 3 := by omega
    rcases hc with rfl | rfl | rfl | rfl
    · exact q_sA (op := 63) rfl hl
    · exact q_sA (op := 64) rfl hl
    · exact q_sA (op := 65) rfl hl
    · exact q_sA (op := 66) rfl hl
  · obtain ⟨r, e⟩ := q_l2_ok h
    rw [e] at hl
    exact q_sB (op := 55) (C := fun x => .lstore x) rfl hl
  · rw [Bool.and_eq_true] at h
    have hv := Nat.le_of_ble_eq_true h.1
    obtain ⟨r, e⟩ := q_l1_ok h.2
    rw [e] at hl
    have hc : a = 0 ∨ a = 1 ∨ a = 2 ∨ a = 3 := by omega
    rcases hc with rfl | rfl | rfl | rfl
    · exact q_sA (op := 75) rfl hl
    · exact q_sA (op := 76) rfl hl
    · exact q_sA (op := 77) rfl hl
    · exact q_sA (op := 78) rfl hl
  · obtain ⟨r, e⟩ := q_l2_ok h
    rw [e] at hl
    exact q_sB (op := 58) (C := fun x => .astore x) rfl hl
  · cases h
noncomputable def q_dc0 (l : List Nat) (v a b : Nat) : Bool := match v with
  | 0 => (Nat.beq b 0 && (Nat.ble a 5 && q_l1 l (3 + a))) || (Nat.beq b 1 && (Nat.beq a 1 && q_l1 l 2))
  | 1 => (Nat.beq b 0 && (Nat.ble a 127 && q_l2 l 16 a)) || (Nat.beq b 1 && (Nat.ble 1 a && (Nat.ble a 128 && q_l2 l 16 (256 - a))))
  | 2 => (Nat.beq b 0 && (Nat.ble a 32767 && q_l3 l 17 a)) || (Nat.beq b 1 && (Nat.ble 1 a && (Nat.ble a 32768 && q_l3 l 17 (65536 - a))))
  | 3 => Nat.ble a 1 && q_l1 l (9 + a)
  | 4 => q_l2 l 18 a
  | 5 => q_l3 l 19 a
  | 6 => q_l3 l 20 a
  | 7 => q_l2 l 18 a
  | 8 => q_l1 l 1
  | _ => false
theorem q_sg0 {w n : Nat} (h : n < 2 ^ (w - 1)) : Reader.signed w n = (n : Int) := by
  unfold Reader.signed
  rw [if_pos h]
theorem q_dc0_ok {bytes : ByteArray} {pc : Nat} {l : List Nat} (hl : (q_bl bytes).drop pc = l) {v a b : Nat} (h : q_dc0 l v a b = true) : decode bytes pc = .ok (q_ins0 v a b) := by
  unfold q_dc0 at h
  split at h
  · rw [Bool.or_eq_true] at h
    rcases h with h | h
    · simp only [Bool.and_eq_true] at h
      have hb := Nat.eq_of_beq_eq_true h.1
      have ha := Nat.le_of_ble_eq_true h.2.1
      obtain ⟨r, e⟩ := q_l1_ok h.2.2
      rw [e] at hl
      subst hb
      have hc : a = 0 ∨ a = 1 ∨ a = 2 ∨ a = 3 ∨ a = 4 ∨ a = 5 := by omega
      rcases hc with rfl | rfl | rfl | rfl | rfl | rfl
      · exact q_sA (op := 3) rfl hl
      · exact q_sA (op := 4) rfl hl
      · exact q_sA (op := 5) rfl hl
      · exact q_sA (op := 6) rfl hl
      · exact q_sA (op := 7) rfl hl
      · exact q_sA (op := 8) rfl hl
    · simp only [Bool.and_eq_true] at h
      have hb := Nat.eq_of_beq_eq_true h.1
      have ha := Nat.eq_of_beq_eq_true h.2.1
      obtain ⟨r, e⟩ := q_l1_ok h.2.2
      rw [e] at hl
      subst hb
      subst ha
      exact q_sA (op := 2) rfl hl
  · rw [Bool.or_eq_true] at h
    rcases h with h | h
    · simp only [Bool.and_eq_true] at h
      have hb := Nat.eq_of_beq_eq_true h.1
      have ha := Nat.le_of_ble_eq_true h.2.1
      obtain ⟨r, e⟩ := q_l2_ok h.2.2
      rw [e] at hl
      subst hb
      have k := q_sD (op := 16) (C := fun x => .bipush x) rfl hl
      rw [q_sg0 (show a < 2 ^ (8 - 1) by show a < 128; omega)] at k
      exact k
    · simp only [Bool.and_eq_true] at h
      have hb := Nat.eq_of_beq_eq_true h.1
      have ha := Nat.le_of_ble_eq_true h.2.1
      have ha2 := Nat.le_of_ble_eq_true h.2.2.1
      obtain ⟨r, e⟩ := q_l2_ok h.2.2.2
      rw [e] at hl
      subst hb
      have k := q_sD (op := 16) (C := fun x => .bipush x) rfl hl
      rw [show Reader.signed 8 (256 - a) = -(a : Int) by
        unfold Reader.signed
        rw [if_neg (show ¬ (256 - a < 2 ^ (8 - 1)) by show ¬ (256 - a < 128); omega), show ((2 ^ 8 : Nat) : Int) = 256 from rfl]
        omega] at k
      exact k
  · rw [Bool.or_eq_true] at h
    rcases h with h | h
    · simp only [Bool.and_eq_true] at h
      have hb := Nat.eq_of_beq_eq_true h.1
      have ha := Nat.le_of_ble_eq_true h.2.1
      obtain ⟨x, y, r, e, g⟩ := q_l3_ok h.2.2
      rw [e] at hl
      subst hb
      have k := q_sE (op := 17) (C := fun x => .sipush x) rfl hl
      rw [g, q_sg0 (show a < 2 ^ (16 - 1) by show a < 32768; omega)] at k
      exact k
    · simp only [Bool.and_eq_true] at h
      have hb := Nat.eq_of_beq_eq_true h.1
      have ha := Nat.le_of_ble_eq_true h.2.1
      have ha2 := Nat.le_of_ble_eq_true h.2.2.1
      obtain ⟨x, y, r, e, g⟩ := q_l3_ok h.2.2.2
      rw [e] at hl
      subst hb
      have k := q_sE (op := 17) (C := fun x => .sipush x) rfl hl
      rw [g, show Reader.signed 16 (65536 - a) = -(a : Int) by
        unfold Reader.signed
        rw [if_neg (show ¬ (65536 - a < 2 ^ (16 - 1)) by show ¬ (65536 - a < 32768); omega), show ((2 ^ 16 : Nat) : Int) = 65536 from rfl]
        omega] at k
      exact k
  · rw [Bool.and_eq_true] at h
    have ha := Nat.le_of_ble_eq_true h.1
    obtain ⟨r, e⟩ := q_l1_ok h.2
    rw [e] at hl
    have hc : a = 0 ∨ a = 1 := by omega
    rcases hc with rfl | rfl
    · exact q_sA (op := 9) rfl hl
    · exact q_sA (op := 10) rfl hl
  · obtain ⟨r, e⟩ := q_l2_ok h
    rw [e] at hl
    exact q_sB (op := 18) (C := fun x => .ldc x) rfl hl
  · obtain ⟨x, y, r, e, g⟩ := q_l3_ok h
    rw [e] at hl
    have k := q_sC (op := 19) (C := fun x => .ldc_w x) rfl hl
    rw [g] at k
    exact k
  · obtain ⟨x, y, r, e, g⟩ := q_l3_ok h
    rw [e] at hl
    have k := q_sC (op := 20) (C := fun x => .ldc2_w x) rfl hl
    rw [g] at k
    exact k
  · obtain ⟨r, e⟩ := q_l2_ok h
    rw [e] at hl
    exact q_sB (op := 18) (C := fun x => .ldc x) rfl hl
  · obtain ⟨r, e⟩ := q_l1_ok h
    rw [e] at hl
    exact q_sA (op := 1) rfl hl
  · cases h
noncomputable def q_dc23 (l : List Nat) (v a : Nat) : Bool := match v with
  | 0 => q_l3 l 184 a
  | 1 => q_l3 l 183 a
  | 2 => q_l3 l 182 a
  | _ => false
theorem q_dc23_ok {bytes : ByteArray} {pc : Nat} {l : List Nat} (hl : (q_bl bytes).drop pc = l) {v a : Nat} (h : q_dc23 l v a = true) : decode bytes pc = .ok (q_ins23 v a, 3) := by
  unfold q_dc23 at h
  split at h
  · obtain ⟨x, y, r, g1, g2⟩ := q_l3_ok h
    rw [g1] at hl
    have k := q_sC (op := 184) (C := fun x => .invokestatic x) rfl hl
    rw [g2] at k
    exact k
  · obtain ⟨x, y, r, g1, g2⟩ := q_l3_ok h
    rw [g1] at hl
    have k := q_sC (op := 183) (C := fun x => .invokespecial x) rfl hl
    rw [g2] at k
    exact k
  · obtain ⟨x, y, r, g1, g2⟩ := q_l3_ok h
    rw [g1] at hl
    have k := q_sC (op := 182) (C := fun x => .invokevirtual x) rfl hl
    rw [g2] at k
    exact k
  · cases h
noncomputable def q_iF (l : List Nat) (e : qN) : Bool := match e.1 with
  | 0 => q_dc0 l (q_v e) (q_a e) (q_b e)
  | 1 => q_dc1 l (q_v e) (q_a e)
  | 2 => q_dc2 l (q_v e) (q_a e)
  | 4 => q_dc4 l (q_v e)
  | 5 => q_dc5 l (q_v e)
  | 6 => q_dc6 l (q_v e)
  | 7 => q_l1 l 148
  | 8 => q_dc8 l (q_v e) (q_pc e) (q_a e)
  | 9 => q_dc9 l (q_v e) (q_pc e) (q_a e)
  | 10 => q_lo l 167 (q_pc e) (q_a e)
  | 11 => q_lo l 198 (q_pc e) (q_a e)
  | 13 => q_dc13 l (q_v e)
  | 14 => q_l3 l 180 (q_a e)
  | 15 => q_l3 l 181 (q_a e)
  | 17 => q_l3 l 189 (q_a e)
  | 19 => q_l1 l 190
  | 20 => q_dc20 l (q_v e)
  | 21 => q_dc21 l (q_v e)
  | 22 => q_l3 l 187 (q_a e)
  | 23 => q_dc23 l (q_v e) (q_a e)
  | 24 => q_dc24 l (q_v e)
  | 25 => q_l3 l 183 (q_a e)
  | 26 => q_l3 l 184 (q_a e)
  | 27 => q_lo l 199 (q_pc e) (q_a e)
  | 28 => q_l1 l 117
  | 29 => q_l3 l 182 (q_a e)
  | 30 => q_l3 l 182 (q_a e)
  | _ => false
theorem q_iF_ok {bytes : ByteArray} {e : qN} (h : q_iF (q_dr (q_bl bytes) (q_pc e)) e = true) : decode bytes (q_pc e) = .ok (q_ins e) := by
  rw [q_dr_eq] at h
  obtain ⟨k, pc, v, a, b, w, tt⟩ := e
  have h : q_iF ((q_bl bytes).drop pc) (k, pc, v, a, b, w, tt) = true := h
  show decode bytes pc = _
  unfold q_iF at h
  dsimp only at h
  split at h
  · exact q_dc0_ok rfl h
  · exact q_dc1_ok rfl h
  · exact q_dc2_ok rfl h
  · exact q_dc4_ok rfl h
  · exact q_dc5_ok rfl h
  · exact q_dc6_ok rfl h
  · obtain ⟨r, g1⟩ := q_l1_ok h
    exact q_sA (op := 148) rfl g1
  · exact q_dc8_ok rfl h
  · exact q_dc9_ok rfl h
  · obtain ⟨x, y, r, g1, g2⟩ := q_lo_ok h
    have k := q_sE (op := 167) (C := fun x => .goto x) rfl g1
    rw [g2] at k
    exact k
  · obtain ⟨x, y, r, g1, g2⟩ := q_lo_ok h
    have k := q_sE (op := 198) (C := fun x => .ifnull x) rfl g1
    rw [g2] at k
    exact k
  · exact q_dc13_ok rfl h
  · obtain ⟨x, y, r, g1, g2⟩ := q_l3_ok h
    have k := q_sC (op := 180) (C := fun x => .getfield x) rfl g1
    rw [g2] at k
    exact k
  · obtain ⟨x, y, r, g1, g2⟩ := q_l3_ok h
    have k := q_sC (op := 181) (C := fun x => .putfield x) rfl g1
    rw [g2] at k
    exact k
  · obtain ⟨x, y, r, g1, g2⟩ := q_l3_ok h
    have k := q_sC (op := 189) (C := fun x => .anewarray x) rfl g1
    rw [g2] at k
    exact k
  · obtain ⟨r, g1⟩ := q_l1_ok h
    exact q_sA (op := 190) rfl g1
  · exact q_dc20_ok rfl h
  · exact q_dc21_ok rfl h
  · obtain ⟨x, y, r, g1, g2⟩ := q_l3_ok h
    have k := q_sC (op := 187) (C := fun x => .new x) rfl g1
    rw [g2] at k
    exact k
  · exact q_dc23_ok rfl h
  · exact q_dc24_ok rfl h
  · obtain ⟨x, y, r, g1, g2⟩ := q_l3_ok h
    have k := q_sC (op := 183) (C := fun x => .invokespecial x) rfl g1
    rw [g2] at k
    exact k
  · obtain ⟨x, y, r, g1, g2⟩ := q_l3_ok h
    have k := q_sC (op := 184) (C := fun x => .invokestatic x) rfl g1
    rw [g2] at k
    exact k
  · obtain ⟨x, y, r, g1, g2⟩ := q_lo_ok h
    have k := q_sE (op := 199) (C := fun x => .ifnonnull x) rfl g1
    rw [g2] at k
    exact k
  · obtain ⟨r, g1⟩ := q_l1_ok h
    exact q_sA (op := 117) rfl g1
  · obtain ⟨x, y, r, g1, g2⟩ := q_l3_ok h
    have k := q_sC (op := 182) (C := fun x => .invokevirtual x) rfl g1
    rw [g2] at k
    exact k
  · obtain ⟨x, y, r, g1, g2⟩ := q_l3_ok h
    have k := q_sC (op := 182) (C := fun x => .invokevirtual x) rfl g1
    rw [g2] at k
    exact k
  · cases h
noncomputable def q_dB (bytes : ByteArray) (e : qN) : Bool := q_iF (q_dr (q_bl bytes) (q_pc e)) e || decide (decode bytes (q_pc e) = .ok (q_ins e))
theorem q_dB_ok {bytes : ByteArray} {e : qN} (h : q_dB bytes e = true) : decode bytes (q_pc e) = .ok (q_ins e) := by
  unfold q_dB at h
  rw [Bool.or_eq_true] at h
  rcases h with h | h
  · exact q_iF_ok h
  · exact of_decide_eq_true h
