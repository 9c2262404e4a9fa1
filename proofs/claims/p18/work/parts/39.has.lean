-- 39.has: words of the tables by their places
def q_chunk (k : Nat) : List Cond := match k with
  | 0 => k2_sels lw_privs
  | 1 => tables_1_1
  | 2 => tables_1_2
  | 3 => tables_1_3
  | 4 => tables_1_4
  | 5 => tables_1_5
  | 6 => tables_1_6
  | 7 => tables_1_7
  | 8 => tables_1_8
  | 9 => tables_1_9
  | _ => []
def q_wd (n : Nat) : Option Cond := (q_chunk (n / 1000))[n % 1000]?
theorem q_chunk_mem {k : Nat} {w : Cond} (h : w ∈ q_chunk k) : w ∈ lw_tbl := by
  rcases k with _ | _ | _ | _ | _ | _ | _ | _ | _ | _ | k
  · exact List.mem_append_left _ h
  case succ.succ.succ.succ.succ.succ.succ.succ.succ.succ => exact absurd h List.not_mem_nil
  all_goals
    refine List.mem_append_right _ ?_
    unfold tables_1
    simp only [List.mem_append]
  · exact Or.inl h
  · exact Or.inr (Or.inl h)
  · exact Or.inr (Or.inr (Or.inl h))
  · exact Or.inr (Or.inr (Or.inr (Or.inl h)))
  · exact Or.inr (Or.inr (Or.inr (Or.inr (Or.inl h))))
  · exact Or.inr (Or.inr (Or.inr (Or.inr (Or.inr (Or.inl h)))))
  · exact Or.inr (Or.inr (Or.inr (Or.inr (Or.inr (Or.inr (Or.inl h))))))
  · exact Or.inr (Or.inr (Or.inr (Or.inr (Or.inr (Or.inr (Or.inr (Or.inl h)))))))
  · exact Or.inr (Or.inr (Or.inr (Or.inr (Or.inr (Or.inr (Or.inr (Or.inr h)))))))
theorem q_wd_mem {n : Nat} {w : Cond} (h : q_wd n = some w) : w ∈ lw_tbl := q_chunk_mem (List.mem_of_getElem? h)
def q_has (n : Nat) (w : Cond) : Bool := goodWord w && (match q_wd n with
  | some w' => decide (w' = w)
  | none => false)
theorem q_has_mem {n : Nat} {w : Cond} (h : q_has n w = true) : w ∈ qWS := by
  unfold q_has at h
  rw [Bool.and_eq_true] at h
  refine List.mem_filter.mpr ⟨?_, h.1⟩
  have h2 := h.2
  cases hw : q_wd n with
  | none => rw [hw] at h2; cases h2
  | some w' =>
    rw [hw] at h2
    have h3 : w' = w := of_decide_eq_true h2
    rw [← h3]
    exact q_wd_mem hw
def q_hasS (n : Nat) (w : Cond) : Bool := q_isSp w && (match q_wd n with
  | some w' => decide (w' = w)
  | none => false)
theorem q_hasS_mem {n : Nat} {w : Cond} (h : q_hasS n w = true) : w ∈ qSP := by
  unfold q_hasS at h
  rw [Bool.and_eq_true] at h
  refine List.mem_filter.mpr ⟨?_, h.1⟩
  have h2 := h.2
  cases hw : q_wd n with
  | none => rw [hw] at h2; cases h2
  | some w' =>
    rw [hw] at h2
    have h3 : w' = w := of_decide_eq_true h2
    rw [← h3]
    exact q_wd_mem hw
