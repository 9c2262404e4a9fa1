-- 76.words: the texts at the start (printed by wip/p5/gen76.py)
def q_txp : List (String × Nat) := [("HollowWall$WallReader", 76), ("HollowWall$WallReader", 85), ("HollowWall$WallReader", 45), ("HollowWall$WallReader", 54), ("HollowWall$WallReader", 114), ("HollowWall$WallReader", 116), ("HollowWall$WallReader", 59), ("HollowWall$WallReader", 142), ("HollowWall$WallReader", 150), ("HollowWall$WallReader", 64), ("HollowWall$WallReader", 161), ("HollowWall$RoundReader", 41), ("HollowWall$RoundReader", 84), ("HollowWall$RoundReader", 86), ("HollowWall$RoundReader", 88), ("HollowWall$RoundReader", 90), ("HollowWall$RoundReader", 92), ("HollowWall$RoundReader", 94), ("HollowWall$RoundReader", 96), ("HollowWall$RoundReader", 98), ("HollowWall$RoundReader", 112), ("HollowWall$RoundReader", 123), ("HollowWall$RoundReader", 125), ("HollowWall$RoundReader", 127), ("HollowWall$RoundReader", 129), ("HollowWall$Text", 65)]
def q_txq : List Nat := [33, 41, 49, 59, 201, 209, 218, 226, 232, 238, 246, 254, 261, 267, 275, 284, 292, 300, 308, 316, 324, 333, 343, 351, 360, 68]
def q_tm (i : Nat) : Term := .string (q_txp.getD i ("", 0)).1 (q_txp.getD i ("", 0)).2
def q_hasL (n : Nat) (w : Cond) : Bool := match q_wd n with
  | some w' => decide (w' = w)
  | none => false
theorem q_hasL_mem {n : Nat} {w : Cond} (h : q_hasL n w = true) : w ∈ lw_tbl := by
  unfold q_hasL at h
  cases hw : q_wd n with
  | none => rw [hw] at h; cases h
  | some w' =>
    rw [hw] at h
    have h3 : w' = w := of_decide_eq_true h
    rw [← h3]
    exact q_wd_mem hw
theorem q_mem_chunk {w : Cond} (hw : w ∈ lw_tbl) : ∃ k, k < 10 ∧ w ∈ q_chunk k := by
  rcases List.mem_append.mp hw with h | h
  · exact ⟨0, by decide, h⟩
  · unfold tables_1 at h
    simp only [List.mem_append] at h
    rcases h with h | h | h | h | h | h | h | h | h
    · exact ⟨1, by decide, h⟩
    · exact ⟨2, by decide, h⟩
    · exact ⟨3, by decide, h⟩
    · exact ⟨4, by decide, h⟩
    · exact ⟨5, by decide, h⟩
    · exact ⟨6, by decide, h⟩
    · exact ⟨7, by decide, h⟩
    · exact ⟨8, by decide, h⟩
    · exact ⟨9, by decide, h⟩
def q_srB : Cond → Bool
  | .stringRef o k t => (List.range 26).any fun i => decide (q_txs[i]? = some t) && decide (q_txp[i]? = some (o, k))
  | _ => true
theorem q_sr_all : ((List.range 10).all fun k => (q_chunk k).all q_srB) = true := by decide +kernel
theorem q_sr_ok {o t : String} {k : Nat} (h : Cond.stringRef o k t ∈ lw_tbl) : ∃ i, i < 26 ∧ q_txs[i]? = some t ∧ q_txp[i]? = some (o, k) := by
  obtain ⟨c, hc, hm⟩ := q_mem_chunk h
  have h1 := List.all_eq_true.mp (List.all_eq_true.mp q_sr_all c (List.mem_range.mpr hc)) _ hm
  obtain ⟨i, hi, h2⟩ := List.any_eq_true.mp (show ((List.range 26).any fun i => decide (q_txs[i]? = some t) && decide (q_txp[i]? = some (o, k))) = true from h1)
  rw [Bool.and_eq_true] at h2
  exact ⟨i, List.mem_range.mp hi, of_decide_eq_true h2.1, of_decide_eq_true h2.2⟩
def q_hf (n : Nat) (w : Cond) : Bool := match (flatC (Jvm.Cond.and given_1 narrow_1))[n]? with
  | some w' => decide (w' = w)
  | none => false
theorem q_hf_mem {n : Nat} {w : Cond} (h : q_hf n w = true) : w ∈ flatC (Jvm.Cond.and given_1 narrow_1) := by
  unfold q_hf at h
  cases hw : (flatC (Jvm.Cond.and given_1 narrow_1))[n]? with
  | none => rw [hw] at h; cases h
  | some w' =>
    rw [hw] at h
    have h3 : w' = w := of_decide_eq_true h
    rw [← h3]
    exact List.mem_of_getElem? hw
theorem q_txw : ((List.range 26).all fun i => q_hf (q_txq.getD i 0) (.exactly (q_tm i) "java/lang/String") && (q_hf (q_txq.getD i 0 + 1) (.eq (.field (q_tm i) "java/lang/String" "coder" "B") (.int 0)) && (q_hf (q_txq.getD i 0 + 2) (.arrayOf (.field (q_tm i) "java/lang/String" "value" "[B") .byte) && (q_hf (q_txq.getD i 0 + 3) (.eq (.length (.field (q_tm i) "java/lang/String" "value" "[B")) (.int (Int32.ofNat (q_txl.getD i 0)))) && (List.range (q_txl.getD i 0)).all fun j => q_hf (q_txq.getD i 0 + 4 + j) (.eq (.elem (.field (q_tm i) "java/lang/String" "value" "[B") (.int (Int32.ofNat j))) (.int ((q_txb.getD i []).getD j 0))))))) = true := by decide +kernel
theorem q_txn : ((List.range 26).all fun i => (List.range 26).all fun j => Nat.beq i j || !(decide (q_txb.getD i [] = q_txb.getD j []))) = true := by decide +kernel
theorem q_txm : ((List.range 26).all fun i => (List.range 26).all fun j => Nat.beq i j || !(decide (q_txs[i]? = q_txs[j]?))) = true := by decide +kernel
theorem q_txk : ((List.range 26).all fun i => Nat.beq (q_txl.getD i 0) (q_txb.getD i []).length && Nat.blt (q_txl.getD i 0) 200) = true := by decide +kernel
theorem q_all2 {f : Nat → Nat → Bool} (h : ((List.range 26).all fun i => (List.range 26).all fun j => Nat.beq i j || !(f i j)) = true) {i j : Nat} (hi : i < 26) (hj : j < 26) (hf : f i j = true) : i = j := by
  have h1 := List.all_eq_true.mp (List.all_eq_true.mp h i (List.mem_range.mpr hi)) j (List.mem_range.mpr hj)
  rw [Bool.or_eq_true] at h1
  rcases h1 with h1 | h1
  · exact Nat.eq_of_beq_eq_true h1
  · rw [hf] at h1
    cases h1
def q_bb (b0 : Nat) (ad : Nat → Nat) : Nat → Nat
  | 0 => b0
  | i + 1 => ad i
theorem q_OFeq {o n d : String} {v1 v2 : Value} {t : Nat} {A : Nat → Prop} {U : State} {H : Heap} (h1 : va_OF o n d v1 t A U H) (h2 : va_OF o n d v2 t A U H) : v1 = v2 := by
  obtain ⟨cf, k, i, f, cell, a1, a2, a3, a4, a5, -⟩ := h1
  obtain ⟨cf', k', i', f', cell', b1, b2, b3, b4, b5, -⟩ := h2
  rw [a1] at b1
  cases b1
  rw [a3] at b3
  cases b3
  rw [a5] at b5
  exact Option.some.inj b5
theorem q_gD {l : List Int32} {n : Nat} (h : n < l.length) : l.getD n 0 = l[n] := by
  rw [List.getD_eq_getElem?_getD, List.getElem?_eq_getElem h]
  rfl
theorem q_TX0 {args : Array Value} {s : State} {A : Nat → Prop} (hts : ∀ w ∈ lw_tbl, w.before args s = true) (hs : ∀ w ∈ flatC (Jvm.Cond.and given_1 narrow_1), w.before args s = true) (hA : ∀ a : Nat, a < s.heap.size → ¬ A a) : ∃ ad : Nat → Nat, ∀ b0 : Nat, q_TX (q_bb b0 ad) A s s.heap := by
  have hk : ∀ i, i < 26 → q_txl.getD i 0 = (q_txb.getD i []).length ∧ q_txl.getD i 0 < 200 := fun i hi => by
    have h1 := List.all_eq_true.mp q_txk i (List.mem_range.mpr hi)
    rw [Bool.and_eq_true, q_blt] at h1
    exact ⟨Nat.eq_of_beq_eq_true h1.1, of_decide_eq_true h1.2⟩
  have h0 : ∀ i : Nat, ∃ q : Nat × Nat, i < 26 → (q_tm i).eval args s none [] s = some (.ref q.1) ∧ va_O "java/lang/String" q.1 A s s.heap ∧ va_OF "java/lang/String" "coder" "B" (.int 0) q.1 A s s.heap ∧ va_OF "java/lang/String" "value" "[B" (.ref q.2) q.1 A s s.heap ∧ va_T .byte q.2 (q_txl.getD i 0) (fun j => .int ((q_txb.getD i []).getD j 0)) A s s.heap := by
    intro i
    by_cases hi : i < 26
    · have h1 := List.all_eq_true.mp q_txw i (List.mem_range.mpr hi)
      simp only [Bool.and_eq_true] at h1
      obtain ⟨w1, w2, w3, w4, w5⟩ := h1
      obtain ⟨adK, adV, hS, hE⟩ := vk_Sof (args := args) (s := s) (N := 1) (tm := fun _ => q_tm i) (len := [q_txl.getD i 0]) (byt := [q_txb.getD i []]) (A := A)
        (fun j hj => by
          obtain rfl : j = 0 := by omega
          have := (hk i hi).2
          show q_txl.getD i 0 < 2 ^ 31
          omega)
        (fun j hj => hs _ (q_hf_mem w1)) (fun j hj => hs _ (q_hf_mem w2)) (fun j hj => hs _ (q_hf_mem w3))
        (fun j hj => by
          obtain rfl : j = 0 := by omega
          exact hs _ (q_hf_mem w4))
        (fun j hj n hn => by
          obtain rfl : j = 0 := by omega
          exact hs _ (q_hf_mem (List.all_eq_true.mp w5 n (List.mem_range.mpr hn))))
        (fun a b ha hb hab => absurd (show a = b by omega) hab) hA
      obtain ⟨g1, g2, g3, g4⟩ := hS.1 0 (Nat.lt_succ_self 0)
      exact ⟨(adK 0, adV 0), fun _ => ⟨hE 0 (Nat.lt_succ_self 0), g1, g2, g3, g4⟩⟩
    · exact ⟨(0, 0), fun h => absurd h hi⟩
  obtain ⟨ad, had⟩ := Classical.axiomOfChoice h0
  refine ⟨fun i => (ad i).1, fun b0 => ⟨fun own k i tx hw hx => ?_, ⟨fun i => (ad i).2, fun i hi => (had i hi).2, fun i j hi hj e => ?_⟩, ?_, ?_⟩⟩
  · have hw : Cond.stringRef own k tx ∈ lw_tbl := (List.mem_filter.mp hw).1
    obtain ⟨i', hi', e1, e2⟩ := q_sr_ok hw
    have hi : i < 26 := (List.getElem?_eq_some_iff.mp hx).1
    obtain rfl : i = i' := q_all2 q_txm hi hi' (decide_eq_true (by rw [hx, e1]))
    refine vk_R.of (hts _ hw) ?_
    have := (had i hi).1
    unfold q_tm at this
    rw [List.getD_eq_getElem?_getD, e2] at this
    exact this
  · have e : (ad i).1 = (ad j).1 := e
    obtain ⟨-, -, -, i4, i5⟩ := had i hi
    obtain ⟨-, -, -, j4, j5⟩ := had j hj
    rw [e] at i4
    have ev : (ad i).2 = (ad j).2 := by
      exact Value.ref.inj (q_OFeq i4 j4)
    rw [ev] at i5
    obtain ⟨c1, a1, -, -, a4, a5, a6, -⟩ := i5
    obtain ⟨c2, b1, -, -, b4, b5, b6, -⟩ := j5
    rw [a1] at b1
    cases b1
    have hl : q_txl.getD i 0 = q_txl.getD j 0 := by
      have h1 := a5.symm.trans b5
      have k1 := (hk i hi).2
      have k2 := (hk j hj).2
      have h2 := congrArg Int32.toInt h1
      have t1 : (Int32.ofNat (q_txl.getD i 0)).toInt = (q_txl.getD i 0 : Int) := nI_toInt (n := q_txl.getD i 0) (by omega)
      have t2 : (Int32.ofNat (q_txl.getD j 0)).toInt = (q_txl.getD j 0 : Int) := nI_toInt (n := q_txl.getD j 0) (by omega)
      rw [t1, t2] at h2
      omega
    refine q_all2 q_txn hi hj (decide_eq_true ?_)
    refine List.ext_getElem (by rw [← (hk i hi).1, ← (hk j hj).1, hl]) fun n h1 h2 => ?_
    have n1 : n < q_txl.getD i 0 := by rw [(hk i hi).1]; exact h1
    have x1 := a6 n n1
    have x2 := b6 n (by omega)
    rw [x1] at x2
    have x3 := Option.some.inj x2
    simp only [Value.int.injEq] at x3
    rw [q_gD h1, q_gD h2] at x3
    exact x3
  · exact va_Zof (hts _ (q_hasL_mem (n := 3155) (by decide +kernel))) (hts _ (q_hasL_mem (n := 1016) (by decide +kernel))) (va_eqt (hs _ (q_hf_mem (n := 4) (by decide +kernel)))) hA
  · exact va_Zqof (hts _ (q_hasL_mem (n := 3171) (by decide +kernel))) (hts _ (q_hasL_mem (n := 1018) (by decide +kernel))) (hs _ (q_hf_mem (n := 5) (by decide +kernel))) hA
