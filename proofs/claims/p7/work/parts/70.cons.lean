-- 70.cons: all contracts together (printed by wip/p5/emit.py)
theorem q_bf_l {α : Type} {b : Bool} {x y : List α} {z : α} (h : z ∈ (bif b then x else y)) : (b = true ∧ z ∈ x) ∨ (b = false ∧ z ∈ y) := by
  cases b
  · exact Or.inr ⟨rfl, h⟩
  · exact Or.inl ⟨rfl, h⟩
/-- a contract that holds once those of less depth do -/
def q_Jd (id : Nat) (q : Nat × aCon) : Prop := 1 ≤ q.1 ∧ ((∀ id', ∀ q' ∈ q_CT id', q'.1 ≤ q.1 - 1 → a_Con q_SP 557 q_T q'.1 id' q'.2) → a_Con q_SP 557 q_T q.1 id q.2)
theorem q_j_of {id D : Nat} {C : aCon} {cuts : List aCut} {spl : List (Nat × Nat)} {gs : List aGi} {fuel : Nat} (h : a_mok q_SP 557 q_T q_CT (q_T id) D C cuts (spl, q_RL, gs) fuel = true) : q_Jd id (D + 1, C) :=
  ⟨Nat.succ_le_succ (Nat.zero_le D), fun hct => a_mok_ok q_RL_ok (fun id q hq hd => hct id q hq hd) h⟩
theorem q_l0 {id : Nat} : ∀ q ∈ ([] : List (Nat × aCon)), q_Jd id q := fun _ h => absurd h List.not_mem_nil
theorem q_JC {id : Nat} {a : Nat × aCon} {l : List (Nat × aCon)} (h1 : q_Jd id a) (h2 : ∀ q ∈ l, q_Jd id q) : ∀ q ∈ a :: l, q_Jd id q := fun q h => by
  rcases List.mem_cons.mp h with rfl | h
  · exact h1
  · exact h2 q h
theorem q_rc0 : ∀ id, ∀ q ∈ q_RC0 id, a_wf (a_n q.2.2.2.2.1) q.1 ∧ a_nn q.2.2.2.2.1 q.1 2 = true ∧ ∃ cuts spl fuel, (∀ i, a_RR q_SP 557 ((spl : aSg).2.1 i)) ∧ a_mokr q_SP 557 q_T q_CT q_RC0 q.1 (q_T id) (nat_lit 6) q.2 cuts spl fuel = true := by
  intro id q hq
  unfold q_RC0 at hq
  rcases q_bf_l hq with ⟨h, hq⟩ | ⟨-, hq⟩
  · have h := Nat.eq_of_beq_eq_true h
    subst h
    rw [List.mem_singleton.mp hq]
    exact ⟨a_wfb_ok (by decide +kernel), by decide +kernel, _, (_, q_RL, _), _, q_RL_ok, q_k735⟩
  rcases q_bf_l hq with ⟨h, hq⟩ | ⟨-, hq⟩
  · have h := Nat.eq_of_beq_eq_true h
    subst h
    rw [List.mem_singleton.mp hq]
    exact ⟨a_wfb_ok (by decide +kernel), by decide +kernel, _, (_, q_RL, _), _, q_RL_ok, q_k736⟩
  exact absurd hq List.not_mem_nil
theorem q_j735 : q_Jd (nat_lit 305) (nat_lit 808, q_C735) := ⟨by decide, fun hct => a_rec_con (rc := q_RC0) (D := nat_lit 6) (R := nat_lit 801) (q := (([(nat_lit 5, Int.negSucc (nat_lit 1))], Int.ofNat (nat_lit 801)), q_C735)) (a_rec_ok (fun id q hq hd => hct id q hq (Nat.le_trans hd (by decide))) q_rc0 (nat_lit 801)) (by unfold q_RC0; exact List.mem_singleton.mpr rfl) (by decide +kernel) (by decide +kernel)⟩
theorem q_j736 : q_Jd (nat_lit 304) (nat_lit 808, q_C736) := ⟨by decide, fun hct => a_rec_con (rc := q_RC0) (D := nat_lit 6) (R := nat_lit 801) (q := (([(nat_lit 4, Int.negSucc (nat_lit 1))], Int.ofNat (nat_lit 800)), q_C736)) (a_rec_ok (fun id q hq hd => hct id q hq (Nat.le_trans hd (by decide))) q_rc0 (nat_lit 801)) (by unfold q_RC0; exact List.mem_singleton.mpr rfl) (by decide +kernel) (by decide +kernel)⟩
theorem q_rc1 : ∀ id, ∀ q ∈ q_RC1 id, a_wf (a_n q.2.2.2.2.1) q.1 ∧ a_nn q.2.2.2.2.1 q.1 2 = true ∧ ∃ cuts spl fuel, (∀ i, a_RR q_SP 557 ((spl : aSg).2.1 i)) ∧ a_mokr q_SP 557 q_T q_CT q_RC1 q.1 (q_T id) (nat_lit 6) q.2 cuts spl fuel = true := by
  intro id q hq
  unfold q_RC1 at hq
  rcases q_bf_l hq with ⟨h, hq⟩ | ⟨-, hq⟩
  · have h := Nat.eq_of_beq_eq_true h
    subst h
    rw [List.mem_singleton.mp hq]
    exact ⟨a_wfb_ok (by decide +kernel), by decide +kernel, _, (_, q_RL, _), _, q_RL_ok, q_k744⟩
  rcases q_bf_l hq with ⟨h, hq⟩ | ⟨-, hq⟩
  · have h := Nat.eq_of_beq_eq_true h
    subst h
    rw [List.mem_singleton.mp hq]
    exact ⟨a_wfb_ok (by decide +kernel), by decide +kernel, _, (_, q_RL, _), _, q_RL_ok, q_k745⟩
  exact absurd hq List.not_mem_nil
theorem q_j744 : q_Jd (nat_lit 305) (nat_lit 808, q_C744) := ⟨by decide, fun hct => a_rec_con (rc := q_RC1) (D := nat_lit 6) (R := nat_lit 801) (q := (([(nat_lit 6, Int.negSucc (nat_lit 1))], Int.ofNat (nat_lit 801)), q_C744)) (a_rec_ok (fun id q hq hd => hct id q hq (Nat.le_trans hd (by decide))) q_rc1 (nat_lit 801)) (by unfold q_RC1; exact List.mem_singleton.mpr rfl) (by decide +kernel) (by decide +kernel)⟩
theorem q_j745 : q_Jd (nat_lit 304) (nat_lit 808, q_C745) := ⟨by decide, fun hct => a_rec_con (rc := q_RC1) (D := nat_lit 6) (R := nat_lit 801) (q := (([(nat_lit 5, Int.negSucc (nat_lit 1))], Int.ofNat (nat_lit 800)), q_C745)) (a_rec_ok (fun id q hq hd => hct id q hq (Nat.le_trans hd (by decide))) q_rc1 (nat_lit 801)) (by unfold q_RC1; exact List.mem_singleton.mpr rfl) (by decide +kernel) (by decide +kernel)⟩
theorem q_rc2 : ∀ id, ∀ q ∈ q_RC2 id, a_wf (a_n q.2.2.2.2.1) q.1 ∧ a_nn q.2.2.2.2.1 q.1 2 = true ∧ ∃ cuts spl fuel, (∀ i, a_RR q_SP 557 ((spl : aSg).2.1 i)) ∧ a_mokr q_SP 557 q_T q_CT q_RC2 q.1 (q_T id) (nat_lit 6) q.2 cuts spl fuel = true := by
  intro id q hq
  unfold q_RC2 at hq
  rcases q_bf_l hq with ⟨h, hq⟩ | ⟨-, hq⟩
  · have h := Nat.eq_of_beq_eq_true h
    subst h
    rw [List.mem_singleton.mp hq]
    exact ⟨a_wfb_ok (by decide +kernel), by decide +kernel, _, (_, q_RL, _), _, q_RL_ok, q_k755⟩
  rcases q_bf_l hq with ⟨h, hq⟩ | ⟨-, hq⟩
  · have h := Nat.eq_of_beq_eq_true h
    subst h
    rw [List.mem_singleton.mp hq]
    exact ⟨a_wfb_ok (by decide +kernel), by decide +kernel, _, (_, q_RL, _), _, q_RL_ok, q_k756⟩
  exact absurd hq List.not_mem_nil
theorem q_j755 : q_Jd (nat_lit 305) (nat_lit 808, q_C755) := ⟨by decide, fun hct => a_rec_con (rc := q_RC2) (D := nat_lit 6) (R := nat_lit 801) (q := (([(nat_lit 7, Int.negSucc (nat_lit 1))], Int.ofNat (nat_lit 801)), q_C755)) (a_rec_ok (fun id q hq hd => hct id q hq (Nat.le_trans hd (by decide))) q_rc2 (nat_lit 801)) (by unfold q_RC2; exact List.mem_singleton.mpr rfl) (by decide +kernel) (by decide +kernel)⟩
theorem q_j756 : q_Jd (nat_lit 304) (nat_lit 808, q_C756) := ⟨by decide, fun hct => a_rec_con (rc := q_RC2) (D := nat_lit 6) (R := nat_lit 801) (q := (([(nat_lit 6, Int.negSucc (nat_lit 1))], Int.ofNat (nat_lit 800)), q_C756)) (a_rec_ok (fun id q hq hd => hct id q hq (Nat.le_trans hd (by decide))) q_rc2 (nat_lit 801)) (by unfold q_RC2; exact List.mem_singleton.mpr rfl) (by decide +kernel) (by decide +kernel)⟩
theorem q_rc3 : ∀ id, ∀ q ∈ q_RC3 id, a_wf (a_n q.2.2.2.2.1) q.1 ∧ a_nn q.2.2.2.2.1 q.1 2 = true ∧ ∃ cuts spl fuel, (∀ i, a_RR q_SP 557 ((spl : aSg).2.1 i)) ∧ a_mokr q_SP 557 q_T q_CT q_RC3 q.1 (q_T id) (nat_lit 6) q.2 cuts spl fuel = true := by
  intro id q hq
  unfold q_RC3 at hq
  rcases q_bf_l hq with ⟨h, hq⟩ | ⟨-, hq⟩
  · have h := Nat.eq_of_beq_eq_true h
    subst h
    rw [List.mem_singleton.mp hq]
    exact ⟨a_wfb_ok (by decide +kernel), by decide +kernel, _, (_, q_RL, _), _, q_RL_ok, q_k764⟩
  rcases q_bf_l hq with ⟨h, hq⟩ | ⟨-, hq⟩
  · have h := Nat.eq_of_beq_eq_true h
    subst h
    rw [List.mem_singleton.mp hq]
    exact ⟨a_wfb_ok (by decide +kernel), by decide +kernel, _, (_, q_RL, _), _, q_RL_ok, q_k765⟩
  exact absurd hq List.not_mem_nil
theorem q_j764 : q_Jd (nat_lit 305) (nat_lit 808, q_C764) := ⟨by decide, fun hct => a_rec_con (rc := q_RC3) (D := nat_lit 6) (R := nat_lit 801) (q := (([(nat_lit 8, Int.negSucc (nat_lit 1))], Int.ofNat (nat_lit 801)), q_C764)) (a_rec_ok (fun id q hq hd => hct id q hq (Nat.le_trans hd (by decide))) q_rc3 (nat_lit 801)) (by unfold q_RC3; exact List.mem_singleton.mpr rfl) (by decide +kernel) (by decide +kernel)⟩
theorem q_j765 : q_Jd (nat_lit 304) (nat_lit 808, q_C765) := ⟨by decide, fun hct => a_rec_con (rc := q_RC3) (D := nat_lit 6) (R := nat_lit 801) (q := (([(nat_lit 7, Int.negSucc (nat_lit 1))], Int.ofNat (nat_lit 800)), q_C765)) (a_rec_ok (fun id q hq hd => hct id q hq (Nat.le_trans hd (by decide))) q_rc3 (nat_lit 801)) (by unfold q_RC3; exact List.mem_singleton.mpr rfl) (by decide +kernel) (by decide +kernel)⟩
theorem q_rc4 : ∀ id, ∀ q ∈ q_RC4 id, a_wf (a_n q.2.2.2.2.1) q.1 ∧ a_nn q.2.2.2.2.1 q.1 2 = true ∧ ∃ cuts spl fuel, (∀ i, a_RR q_SP 557 ((spl : aSg).2.1 i)) ∧ a_mokr q_SP 557 q_T q_CT q_RC4 q.1 (q_T id) (nat_lit 6) q.2 cuts spl fuel = true := by
  intro id q hq
  unfold q_RC4 at hq
  rcases q_bf_l hq with ⟨h, hq⟩ | ⟨-, hq⟩
  · have h := Nat.eq_of_beq_eq_true h
    subst h
    rw [List.mem_singleton.mp hq]
    exact ⟨a_wfb_ok (by decide +kernel), by decide +kernel, _, (_, q_RL, _), _, q_RL_ok, q_k774⟩
  rcases q_bf_l hq with ⟨h, hq⟩ | ⟨-, hq⟩
  · have h := Nat.eq_of_beq_eq_true h
    subst h
    rw [List.mem_singleton.mp hq]
    exact ⟨a_wfb_ok (by decide +kernel), by decide +kernel, _, (_, q_RL, _), _, q_RL_ok, q_k775⟩
  exact absurd hq List.not_mem_nil
theorem q_j774 : q_Jd (nat_lit 305) (nat_lit 808, q_C774) := ⟨by decide, fun hct => a_rec_con (rc := q_RC4) (D := nat_lit 6) (R := nat_lit 801) (q := (([(nat_lit 9, Int.negSucc (nat_lit 1))], Int.ofNat (nat_lit 801)), q_C774)) (a_rec_ok (fun id q hq hd => hct id q hq (Nat.le_trans hd (by decide))) q_rc4 (nat_lit 801)) (by unfold q_RC4; exact List.mem_singleton.mpr rfl) (by decide +kernel) (by decide +kernel)⟩
theorem q_j775 : q_Jd (nat_lit 304) (nat_lit 808, q_C775) := ⟨by decide, fun hct => a_rec_con (rc := q_RC4) (D := nat_lit 6) (R := nat_lit 801) (q := (([(nat_lit 8, Int.negSucc (nat_lit 1))], Int.ofNat (nat_lit 800)), q_C775)) (a_rec_ok (fun id q hq hd => hct id q hq (Nat.le_trans hd (by decide))) q_rc4 (nat_lit 801)) (by unfold q_RC4; exact List.mem_singleton.mpr rfl) (by decide +kernel) (by decide +kernel)⟩
theorem q_rc5 : ∀ id, ∀ q ∈ q_RC5 id, a_wf (a_n q.2.2.2.2.1) q.1 ∧ a_nn q.2.2.2.2.1 q.1 2 = true ∧ ∃ cuts spl fuel, (∀ i, a_RR q_SP 557 ((spl : aSg).2.1 i)) ∧ a_mokr q_SP 557 q_T q_CT q_RC5 q.1 (q_T id) (nat_lit 6) q.2 cuts spl fuel = true := by
  intro id q hq
  unfold q_RC5 at hq
  rcases q_bf_l hq with ⟨h, hq⟩ | ⟨-, hq⟩
  · have h := Nat.eq_of_beq_eq_true h
    subst h
    rw [List.mem_singleton.mp hq]
    exact ⟨a_wfb_ok (by decide +kernel), by decide +kernel, _, (_, q_RL, _), _, q_RL_ok, q_k785⟩
  rcases q_bf_l hq with ⟨h, hq⟩ | ⟨-, hq⟩
  · have h := Nat.eq_of_beq_eq_true h
    subst h
    rw [List.mem_singleton.mp hq]
    exact ⟨a_wfb_ok (by decide +kernel), by decide +kernel, _, (_, q_RL, _), _, q_RL_ok, q_k786⟩
  exact absurd hq List.not_mem_nil
theorem q_j785 : q_Jd (nat_lit 305) (nat_lit 808, q_C785) := ⟨by decide, fun hct => a_rec_con (rc := q_RC5) (D := nat_lit 6) (R := nat_lit 801) (q := (([(nat_lit 10, Int.negSucc (nat_lit 1))], Int.ofNat (nat_lit 801)), q_C785)) (a_rec_ok (fun id q hq hd => hct id q hq (Nat.le_trans hd (by decide))) q_rc5 (nat_lit 801)) (by unfold q_RC5; exact List.mem_singleton.mpr rfl) (by decide +kernel) (by decide +kernel)⟩
theorem q_j786 : q_Jd (nat_lit 304) (nat_lit 808, q_C786) := ⟨by decide, fun hct => a_rec_con (rc := q_RC5) (D := nat_lit 6) (R := nat_lit 801) (q := (([(nat_lit 9, Int.negSucc (nat_lit 1))], Int.ofNat (nat_lit 800)), q_C786)) (a_rec_ok (fun id q hq hd => hct id q hq (Nat.le_trans hd (by decide))) q_rc5 (nat_lit 801)) (by unfold q_RC5; exact List.mem_singleton.mpr rfl) (by decide +kernel) (by decide +kernel)⟩
theorem q_j0 : q_Jd (nat_lit 110) (nat_lit 1, q_C0) := q_j_of q_k0
theorem q_j1 : q_Jd (nat_lit 111) (nat_lit 1, q_C1) := q_j_of q_k1
theorem q_j2 : q_Jd (nat_lit 112) (nat_lit 1, q_C2) := q_j_of q_k2
theorem q_j3 : q_Jd (nat_lit 116) (nat_lit 1, q_C3) := q_j_of q_k3
theorem q_j4 : q_Jd (nat_lit 320) (nat_lit 1, q_C4) := q_j_of q_k4
theorem q_j5 : q_Jd (nat_lit 65) (nat_lit 2, q_C5) := q_j_of q_k5
theorem q_j6 : q_Jd (nat_lit 119) (nat_lit 1, q_C6) := q_j_of q_k6
theorem q_j7 : q_Jd (nat_lit 115) (nat_lit 1, q_C7) := q_j_of q_k7
theorem q_j8 : q_Jd (nat_lit 320) (nat_lit 1, q_C8) := q_j_of q_k8
theorem q_j9 : q_Jd (nat_lit 65) (nat_lit 2, q_C9) := q_j_of q_k9
theorem q_j10 : q_Jd (nat_lit 320) (nat_lit 1, q_C10) := q_j_of q_k10
theorem q_j11 : q_Jd (nat_lit 65) (nat_lit 2, q_C11) := q_j_of q_k11
theorem q_j12 : q_Jd (nat_lit 320) (nat_lit 1, q_C12) := q_j_of q_k12
theorem q_j13 : q_Jd (nat_lit 65) (nat_lit 2, q_C13) := q_j_of q_k13
theorem q_j14 : q_Jd (nat_lit 120) (nat_lit 2, q_C14) := q_j_of q_k14
theorem q_j15 : q_Jd (nat_lit 122) (nat_lit 3, q_C15) := q_j_of q_k15
theorem q_j16 : q_Jd (nat_lit 67) (nat_lit 1, q_C16) := q_j_of q_k16
theorem q_j17 : q_Jd (nat_lit 121) (nat_lit 2, q_C17) := q_j_of q_k17
theorem q_j18 : q_Jd (nat_lit 66) (nat_lit 1, q_C18) := q_j_of q_k18
theorem q_j19 : q_Jd (nat_lit 66) (nat_lit 1, q_C19) := q_j_of q_k19
theorem q_j20 : q_Jd (nat_lit 121) (nat_lit 1, q_C20) := q_j_of q_k20
theorem q_j21 : q_Jd (nat_lit 67) (nat_lit 1, q_C21) := q_j_of q_k21
theorem q_j22 : q_Jd (nat_lit 121) (nat_lit 2, q_C22) := q_j_of q_k22
theorem q_j23 : q_Jd (nat_lit 66) (nat_lit 1, q_C23) := q_j_of q_k23
theorem q_j24 : q_Jd (nat_lit 67) (nat_lit 1, q_C24) := q_j_of q_k24
theorem q_j25 : q_Jd (nat_lit 121) (nat_lit 2, q_C25) := q_j_of q_k25
theorem q_j26 : q_Jd (nat_lit 66) (nat_lit 1, q_C26) := q_j_of q_k26
theorem q_j27 : q_Jd (nat_lit 67) (nat_lit 1, q_C27) := q_j_of q_k27
theorem q_j28 : q_Jd (nat_lit 121) (nat_lit 2, q_C28) := q_j_of q_k28
theorem q_j29 : q_Jd (nat_lit 123) (nat_lit 3, q_C29) := q_j_of q_k29
theorem q_j30 : q_Jd (nat_lit 114) (nat_lit 1, q_C30) := q_j_of q_k30
theorem q_j31 : q_Jd (nat_lit 124) (nat_lit 3, q_C31) := q_j_of q_k31
theorem q_j32 : q_Jd (nat_lit 68) (nat_lit 1, q_C32) := q_j_of q_k32
theorem q_j33 : q_Jd (nat_lit 68) (nat_lit 1, q_C33) := q_j_of q_k33
theorem q_j34 : q_Jd (nat_lit 68) (nat_lit 1, q_C34) := q_j_of q_k34
theorem q_j35 : q_Jd (nat_lit 68) (nat_lit 1, q_C35) := q_j_of q_k35
theorem q_j36 : q_Jd (nat_lit 125) (nat_lit 3, q_C36) := q_j_of q_k36
theorem q_j37 : q_Jd (nat_lit 49) (nat_lit 1, q_C37) := q_j_of q_k37
theorem q_j38 : q_Jd (nat_lit 126) (nat_lit 2, q_C38) := q_j_of q_k38
theorem q_j39 : q_Jd (nat_lit 113) (nat_lit 1, q_C39) := q_j_of q_k39
theorem q_j40 : q_Jd (nat_lit 53) (nat_lit 1, q_C40) := q_j_of q_k40
theorem q_j41 : q_Jd (nat_lit 53) (nat_lit 1, q_C41) := q_j_of q_k41
theorem q_j42 : q_Jd (nat_lit 57) (nat_lit 1, q_C42) := q_j_of q_k42
theorem q_j43 : q_Jd (nat_lit 58) (nat_lit 2, q_C43) := q_j_of q_k43
theorem q_j44 : q_Jd (nat_lit 59) (nat_lit 2, q_C44) := q_j_of q_k44
theorem q_j45 : q_Jd (nat_lit 53) (nat_lit 1, q_C45) := q_j_of q_k45
theorem q_j46 : q_Jd (nat_lit 52) (nat_lit 1, q_C46) := q_j_of q_k46
theorem q_j47 : q_Jd (nat_lit 51) (nat_lit 2, q_C47) := q_j_of q_k47
theorem q_j48 : q_Jd (nat_lit 60) (nat_lit 3, q_C48) := q_j_of q_k48
theorem q_j49 : q_Jd (nat_lit 63) (nat_lit 2, q_C49) := q_j_of q_k49
theorem q_j50 : q_Jd (nat_lit 62) (nat_lit 3, q_C50) := q_j_of q_k50
theorem q_j51 : q_Jd (nat_lit 54) (nat_lit 1, q_C51) := q_j_of q_k51
theorem q_j52 : q_Jd (nat_lit 61) (nat_lit 3, q_C52) := q_j_of q_k52
theorem q_j53 : q_Jd (nat_lit 53) (nat_lit 1, q_C53) := q_j_of q_k53
theorem q_j54 : q_Jd (nat_lit 60) (nat_lit 3, q_C54) := q_j_of q_k54
theorem q_j55 : q_Jd (nat_lit 84) (nat_lit 1, q_C55) := q_j_of q_k55
theorem q_j56 : q_Jd (nat_lit 107) (nat_lit 4, q_C56) := q_j_of q_k56
theorem q_j57 : q_Jd (nat_lit 53) (nat_lit 1, q_C57) := q_j_of q_k57
theorem q_j58 : q_Jd (nat_lit 60) (nat_lit 3, q_C58) := q_j_of q_k58
theorem q_j59 : q_Jd (nat_lit 53) (nat_lit 1, q_C59) := q_j_of q_k59
theorem q_j60 : q_Jd (nat_lit 60) (nat_lit 3, q_C60) := q_j_of q_k60
theorem q_j61 : q_Jd (nat_lit 83) (nat_lit 1, q_C61) := q_j_of q_k61
theorem q_j62 : q_Jd (nat_lit 106) (nat_lit 1, q_C62) := q_j_of q_k62
theorem q_j63 : q_Jd (nat_lit 56) (nat_lit 1, q_C63) := q_j_of q_k63
theorem q_j64 : q_Jd (nat_lit 55) (nat_lit 2, q_C64) := q_j_of q_k64
theorem q_j65 : q_Jd (nat_lit 105) (nat_lit 3, q_C65) := q_j_of q_k65
theorem q_j66 : q_Jd (nat_lit 104) (nat_lit 4, q_C66) := q_j_of q_k66
theorem q_j67 : q_Jd (nat_lit 105) (nat_lit 3, q_C67) := q_j_of q_k67
theorem q_j68 : q_Jd (nat_lit 83) (nat_lit 1, q_C68) := q_j_of q_k68
theorem q_j69 : q_Jd (nat_lit 104) (nat_lit 4, q_C69) := q_j_of q_k69
theorem q_j70 : q_Jd (nat_lit 321) (nat_lit 1, q_C70) := q_j_of q_k70
theorem q_j71 : q_Jd (nat_lit 321) (nat_lit 1, q_C71) := q_j_of q_k71
theorem q_j72 : q_Jd (nat_lit 318) (nat_lit 1, q_C72) := q_j_of q_k72
theorem q_j73 : q_Jd (nat_lit 87) (nat_lit 2, q_C73) := q_j_of q_k73
theorem q_j74 : q_Jd (nat_lit 163) (nat_lit 1, q_C74) := q_j_of q_k74
theorem q_j75 : q_Jd (nat_lit 88) (nat_lit 2, q_C75) := q_j_of q_k75
theorem q_j76 : q_Jd (nat_lit 86) (nat_lit 3, q_C76) := q_j_of q_k76
theorem q_j77 : q_Jd (nat_lit 104) (nat_lit 3, q_C77) := q_j_of q_k77
theorem q_j78 : q_Jd (nat_lit 105) (nat_lit 3, q_C78) := q_j_of q_k78
theorem q_j79 : q_Jd (nat_lit 83) (nat_lit 1, q_C79) := q_j_of q_k79
theorem q_j80 : q_Jd (nat_lit 104) (nat_lit 4, q_C80) := q_j_of q_k80
theorem q_j81 : q_Jd (nat_lit 105) (nat_lit 3, q_C81) := q_j_of q_k81
theorem q_j82 : q_Jd (nat_lit 83) (nat_lit 1, q_C82) := q_j_of q_k82
theorem q_j83 : q_Jd (nat_lit 104) (nat_lit 4, q_C83) := q_j_of q_k83
theorem q_j84 : q_Jd (nat_lit 85) (nat_lit 1, q_C84) := q_j_of q_k84
theorem q_j85 : q_Jd (nat_lit 53) (nat_lit 1, q_C85) := q_j_of q_k85
theorem q_j86 : q_Jd (nat_lit 60) (nat_lit 3, q_C86) := q_j_of q_k86
theorem q_j87 : q_Jd (nat_lit 108) (nat_lit 4, q_C87) := q_j_of q_k87
theorem q_j88 : q_Jd (nat_lit 50) (nat_lit 3, q_C88) := q_j_of q_k88
theorem q_j89 : q_Jd (nat_lit 321) (nat_lit 1, q_C89) := q_j_of q_k89
theorem q_j90 : q_Jd (nat_lit 321) (nat_lit 1, q_C90) := q_j_of q_k90
theorem q_j91 : q_Jd (nat_lit 78) (nat_lit 2, q_C91) := q_j_of q_k91
theorem q_j92 : q_Jd (nat_lit 53) (nat_lit 1, q_C92) := q_j_of q_k92
theorem q_j93 : q_Jd (nat_lit 82) (nat_lit 1, q_C93) := q_j_of q_k93
theorem q_j94 : q_Jd (nat_lit 103) (nat_lit 4, q_C94) := q_j_of q_k94
theorem q_j95 : q_Jd (nat_lit 53) (nat_lit 1, q_C95) := q_j_of q_k95
theorem q_j96 : q_Jd (nat_lit 53) (nat_lit 1, q_C96) := q_j_of q_k96
theorem q_j97 : q_Jd (nat_lit 60) (nat_lit 3, q_C97) := q_j_of q_k97
theorem q_j98 : q_Jd (nat_lit 53) (nat_lit 1, q_C98) := q_j_of q_k98
theorem q_j99 : q_Jd (nat_lit 60) (nat_lit 3, q_C99) := q_j_of q_k99
theorem q_j100 : q_Jd (nat_lit 102) (nat_lit 4, q_C100) := q_j_of q_k100
theorem q_j101 : q_Jd (nat_lit 101) (nat_lit 5, q_C101) := q_j_of q_k101
theorem q_j102 : q_Jd (nat_lit 321) (nat_lit 1, q_C102) := q_j_of q_k102
theorem q_j103 : q_Jd (nat_lit 79) (nat_lit 1, q_C103) := q_j_of q_k103
theorem q_j104 : q_Jd (nat_lit 35) (nat_lit 2, q_C104) := q_j_of q_k104
theorem q_j105 : q_Jd (nat_lit 127) (nat_lit 6, q_C105) := q_j_of q_k105
theorem q_j106 : q_Jd (nat_lit 21) (nat_lit 1, q_C106) := q_j_of q_k106
theorem q_j107 : q_Jd (nat_lit 53) (nat_lit 1, q_C107) := q_j_of q_k107
theorem q_j108 : q_Jd (nat_lit 53) (nat_lit 1, q_C108) := q_j_of q_k108
theorem q_j109 : q_Jd (nat_lit 53) (nat_lit 1, q_C109) := q_j_of q_k109
theorem q_j110 : q_Jd (nat_lit 53) (nat_lit 1, q_C110) := q_j_of q_k110
theorem q_j111 : q_Jd (nat_lit 53) (nat_lit 1, q_C111) := q_j_of q_k111
theorem q_j112 : q_Jd (nat_lit 53) (nat_lit 1, q_C112) := q_j_of q_k112
theorem q_j113 : q_Jd (nat_lit 31) (nat_lit 2, q_C113) := q_j_of q_k113
theorem q_j114 : q_Jd (nat_lit 32) (nat_lit 2, q_C114) := q_j_of q_k114
theorem q_j115 : q_Jd (nat_lit 30) (nat_lit 4, q_C115) := q_j_of q_k115
theorem q_j116 : q_Jd (nat_lit 29) (nat_lit 5, q_C116) := q_j_of q_k116
theorem q_j117 : q_Jd (nat_lit 22) (nat_lit 2, q_C117) := q_j_of q_k117
theorem q_j118 : q_Jd (nat_lit 53) (nat_lit 1, q_C118) := q_j_of q_k118
theorem q_j119 : q_Jd (nat_lit 53) (nat_lit 1, q_C119) := q_j_of q_k119
theorem q_j120 : q_Jd (nat_lit 53) (nat_lit 1, q_C120) := q_j_of q_k120
theorem q_j121 : q_Jd (nat_lit 53) (nat_lit 1, q_C121) := q_j_of q_k121
theorem q_j122 : q_Jd (nat_lit 53) (nat_lit 1, q_C122) := q_j_of q_k122
theorem q_j123 : q_Jd (nat_lit 53) (nat_lit 1, q_C123) := q_j_of q_k123
theorem q_j124 : q_Jd (nat_lit 53) (nat_lit 1, q_C124) := q_j_of q_k124
theorem q_j125 : q_Jd (nat_lit 53) (nat_lit 1, q_C125) := q_j_of q_k125
theorem q_j126 : q_Jd (nat_lit 28) (nat_lit 2, q_C126) := q_j_of q_k126
theorem q_j127 : q_Jd (nat_lit 27) (nat_lit 6, q_C127) := q_j_of q_k127
theorem q_j128 : q_Jd (nat_lit 23) (nat_lit 1, q_C128) := q_j_of q_k128
theorem q_j129 : q_Jd (nat_lit 26) (nat_lit 4, q_C129) := q_j_of q_k129
theorem q_j130 : q_Jd (nat_lit 25) (nat_lit 7, q_C130) := q_j_of q_k130
theorem q_j131 : q_Jd (nat_lit 128) (nat_lit 8, q_C131) := q_j_of q_k131
theorem q_j132 : q_Jd (nat_lit 129) (nat_lit 1, q_C132) := q_j_of q_k132
theorem q_j133 : q_Jd (nat_lit 36) (nat_lit 1, q_C133) := q_j_of q_k133
theorem q_j134 : q_Jd (nat_lit 130) (nat_lit 2, q_C134) := q_j_of q_k134
theorem q_j135 : q_Jd (nat_lit 117) (nat_lit 2, q_C135) := q_j_of q_k135
theorem q_j136 : q_Jd (nat_lit 89) (nat_lit 1, q_C136) := q_j_of q_k136
theorem q_j137 : q_Jd (nat_lit 92) (nat_lit 1, q_C137) := q_j_of q_k137
theorem q_j138 : q_Jd (nat_lit 80) (nat_lit 1, q_C138) := q_j_of q_k138
theorem q_j139 : q_Jd (nat_lit 131) (nat_lit 3, q_C139) := q_j_of q_k139
theorem q_j140 : q_Jd (nat_lit 94) (nat_lit 1, q_C140) := q_j_of q_k140
theorem q_j141 : q_Jd (nat_lit 81) (nat_lit 1, q_C141) := q_j_of q_k141
theorem q_j142 : q_Jd (nat_lit 132) (nat_lit 3, q_C142) := q_j_of q_k142
theorem q_j143 : q_Jd (nat_lit 133) (nat_lit 2, q_C143) := q_j_of q_k143
theorem q_j144 : q_Jd (nat_lit 134) (nat_lit 2, q_C144) := q_j_of q_k144
theorem q_j145 : q_Jd (nat_lit 135) (nat_lit 2, q_C145) := q_j_of q_k145
theorem q_j146 : q_Jd (nat_lit 316) (nat_lit 1, q_C146) := q_j_of q_k146
theorem q_j147 : q_Jd (nat_lit 136) (nat_lit 2, q_C147) := q_j_of q_k147
theorem q_j148 : q_Jd (nat_lit 137) (nat_lit 2, q_C148) := q_j_of q_k148
theorem q_j149 : q_Jd (nat_lit 95) (nat_lit 1, q_C149) := q_j_of q_k149
theorem q_j150 : q_Jd (nat_lit 138) (nat_lit 2, q_C150) := q_j_of q_k150
theorem q_j151 : q_Jd (nat_lit 96) (nat_lit 2, q_C151) := q_j_of q_k151
theorem q_j152 : q_Jd (nat_lit 139) (nat_lit 3, q_C152) := q_j_of q_k152
theorem q_j153 : q_Jd (nat_lit 90) (nat_lit 1, q_C153) := q_j_of q_k153
theorem q_j154 : q_Jd (nat_lit 140) (nat_lit 2, q_C154) := q_j_of q_k154
theorem q_j155 : q_Jd (nat_lit 141) (nat_lit 2, q_C155) := q_j_of q_k155
theorem q_j156 : q_Jd (nat_lit 142) (nat_lit 2, q_C156) := q_j_of q_k156
theorem q_j157 : q_Jd (nat_lit 143) (nat_lit 2, q_C157) := q_j_of q_k157
theorem q_j158 : q_Jd (nat_lit 145) (nat_lit 1, q_C158) := q_j_of q_k158
theorem q_j159 : q_Jd (nat_lit 144) (nat_lit 2, q_C159) := q_j_of q_k159
theorem q_j160 : q_Jd (nat_lit 3) (nat_lit 1, q_C160) := q_j_of q_k160
theorem q_j161 : q_Jd (nat_lit 9) (nat_lit 1, q_C161) := q_j_of q_k161
theorem q_j162 : q_Jd (nat_lit 8) (nat_lit 2, q_C162) := q_j_of q_k162
theorem q_j163 : q_Jd (nat_lit 8) (nat_lit 2, q_C163) := q_j_of q_k163
theorem q_j164 : q_Jd (nat_lit 7) (nat_lit 3, q_C164) := q_j_of q_k164
theorem q_j165 : q_Jd (nat_lit 6) (nat_lit 4, q_C165) := q_j_of q_k165
theorem q_j166 : q_Jd (nat_lit 4) (nat_lit 2, q_C166) := q_j_of q_k166
theorem q_j167 : q_Jd (nat_lit 1) (nat_lit 5, q_C167) := q_j_of q_k167
theorem q_j168 : q_Jd (nat_lit 146) (nat_lit 6, q_C168) := q_j_of q_k168
theorem q_j169 : q_Jd (nat_lit 147) (nat_lit 6, q_C169) := q_j_of q_k169
theorem q_j170 : q_Jd (nat_lit 18) (nat_lit 2, q_C170) := q_j_of q_k170
theorem q_j171 : q_Jd (nat_lit 17) (nat_lit 2, q_C171) := q_j_of q_k171
theorem q_j172 : q_Jd (nat_lit 16) (nat_lit 3, q_C172) := q_j_of q_k172
theorem q_j173 : q_Jd (nat_lit 148) (nat_lit 6, q_C173) := q_j_of q_k173
theorem q_j174 : q_Jd (nat_lit 149) (nat_lit 2, q_C174) := q_j_of q_k174
theorem q_j175 : q_Jd (nat_lit 150) (nat_lit 3, q_C175) := q_j_of q_k175
theorem q_j176 : q_Jd (nat_lit 11) (nat_lit 3, q_C176) := q_j_of q_k176
theorem q_j177 : q_Jd (nat_lit 10) (nat_lit 4, q_C177) := q_j_of q_k177
theorem q_j178 : q_Jd (nat_lit 12) (nat_lit 1, q_C178) := q_j_of q_k178
theorem q_j179 : q_Jd (nat_lit 12) (nat_lit 1, q_C179) := q_j_of q_k179
theorem q_j180 : q_Jd (nat_lit 13) (nat_lit 2, q_C180) := q_j_of q_k180
theorem q_j181 : q_Jd (nat_lit 151) (nat_lit 6, q_C181) := q_j_of q_k181
theorem q_j182 : q_Jd (nat_lit 118) (nat_lit 1, q_C182) := q_j_of q_k182
theorem q_j183 : q_Jd (nat_lit 5) (nat_lit 5, q_C183) := q_j_of q_k183
theorem q_j184 : q_Jd (nat_lit 152) (nat_lit 6, q_C184) := q_j_of q_k184
theorem q_j185 : q_Jd (nat_lit 44) (nat_lit 1, q_C185) := q_j_of q_k185
theorem q_j186 : q_Jd (nat_lit 43) (nat_lit 2, q_C186) := q_j_of q_k186
theorem q_j187 : q_Jd (nat_lit 45) (nat_lit 2, q_C187) := q_j_of q_k187
theorem q_j188 : q_Jd (nat_lit 46) (nat_lit 3, q_C188) := q_j_of q_k188
theorem q_j189 : q_Jd (nat_lit 321) (nat_lit 1, q_C189) := q_j_of q_k189
theorem q_j190 : q_Jd (nat_lit 2) (nat_lit 1, q_C190) := q_j_of q_k190
theorem q_j191 : q_Jd (nat_lit 19) (nat_lit 1, q_C191) := q_j_of q_k191
theorem q_j192 : q_Jd (nat_lit 42) (nat_lit 4, q_C192) := q_j_of q_k192
theorem q_j193 : q_Jd (nat_lit 42) (nat_lit 4, q_C193) := q_j_of q_k193
theorem q_j194 : q_Jd (nat_lit 45) (nat_lit 2, q_C194) := q_j_of q_k194
theorem q_j195 : q_Jd (nat_lit 47) (nat_lit 3, q_C195) := q_j_of q_k195
theorem q_j196 : q_Jd (nat_lit 41) (nat_lit 5, q_C196) := q_j_of q_k196
theorem q_j197 : q_Jd (nat_lit 14) (nat_lit 5, q_C197) := q_j_of q_k197
theorem q_j198 : q_Jd (nat_lit 153) (nat_lit 6, q_C198) := q_j_of q_k198
theorem q_j199 : q_Jd (nat_lit 39) (nat_lit 2, q_C199) := q_j_of q_k199
theorem q_j200 : q_Jd (nat_lit 37) (nat_lit 3, q_C200) := q_j_of q_k200
theorem q_j201 : q_Jd (nat_lit 154) (nat_lit 4, q_C201) := q_j_of q_k201
theorem q_j202 : q_Jd (nat_lit 155) (nat_lit 4, q_C202) := q_j_of q_k202
theorem q_j203 : q_Jd (nat_lit 317) (nat_lit 1, q_C203) := q_j_of q_k203
theorem q_j204 : q_Jd (nat_lit 15) (nat_lit 2, q_C204) := q_j_of q_k204
theorem q_j205 : q_Jd (nat_lit 156) (nat_lit 6, q_C205) := q_j_of q_k205
theorem q_j206 : q_Jd (nat_lit 38) (nat_lit 3, q_C206) := q_j_of q_k206
theorem q_j207 : q_Jd (nat_lit 157) (nat_lit 4, q_C207) := q_j_of q_k207
theorem q_j208 : q_Jd (nat_lit 158) (nat_lit 4, q_C208) := q_j_of q_k208
theorem q_j209 : q_Jd (nat_lit 160) (nat_lit 2, q_C209) := q_j_of q_k209
theorem q_j210 : q_Jd (nat_lit 160) (nat_lit 2, q_C210) := q_j_of q_k210
theorem q_j211 : q_Jd (nat_lit 160) (nat_lit 2, q_C211) := q_j_of q_k211
theorem q_j212 : q_Jd (nat_lit 161) (nat_lit 2, q_C212) := q_j_of q_k212
theorem q_j213 : q_Jd (nat_lit 161) (nat_lit 2, q_C213) := q_j_of q_k213
theorem q_j214 : q_Jd (nat_lit 161) (nat_lit 2, q_C214) := q_j_of q_k214
theorem q_j215 : q_Jd (nat_lit 160) (nat_lit 2, q_C215) := q_j_of q_k215
theorem q_j216 : q_Jd (nat_lit 161) (nat_lit 2, q_C216) := q_j_of q_k216
theorem q_j217 : q_Jd (nat_lit 159) (nat_lit 3, q_C217) := q_j_of q_k217
theorem q_j218 : q_Jd (nat_lit 162) (nat_lit 2, q_C218) := q_j_of q_k218
theorem q_j219 : q_Jd (nat_lit 164) (nat_lit 3, q_C219) := q_j_of q_k219
theorem q_j220 : q_Jd (nat_lit 165) (nat_lit 3, q_C220) := q_j_of q_k220
theorem q_j221 : q_Jd (nat_lit 97) (nat_lit 2, q_C221) := q_j_of q_k221
theorem q_j222 : q_Jd (nat_lit 166) (nat_lit 3, q_C222) := q_j_of q_k222
theorem q_j223 : q_Jd (nat_lit 167) (nat_lit 3, q_C223) := q_j_of q_k223
theorem q_j224 : q_Jd (nat_lit 98) (nat_lit 1, q_C224) := q_j_of q_k224
theorem q_j225 : q_Jd (nat_lit 99) (nat_lit 1, q_C225) := q_j_of q_k225
theorem q_j226 : q_Jd (nat_lit 168) (nat_lit 2, q_C226) := q_j_of q_k226
theorem q_j227 : q_Jd (nat_lit 169) (nat_lit 2, q_C227) := q_j_of q_k227
theorem q_j228 : q_Jd (nat_lit 72) (nat_lit 1, q_C228) := q_j_of q_k228
theorem q_j229 : q_Jd (nat_lit 71) (nat_lit 1, q_C229) := q_j_of q_k229
theorem q_j230 : q_Jd (nat_lit 91) (nat_lit 1, q_C230) := q_j_of q_k230
theorem q_j231 : q_Jd (nat_lit 76) (nat_lit 2, q_C231) := q_j_of q_k231
theorem q_j232 : q_Jd (nat_lit 75) (nat_lit 1, q_C232) := q_j_of q_k232
theorem q_j233 : q_Jd (nat_lit 93) (nat_lit 1, q_C233) := q_j_of q_k233
theorem q_j234 : q_Jd (nat_lit 74) (nat_lit 1, q_C234) := q_j_of q_k234
theorem q_j235 : q_Jd (nat_lit 73) (nat_lit 3, q_C235) := q_j_of q_k235
theorem q_j236 : q_Jd (nat_lit 70) (nat_lit 4, q_C236) := q_j_of q_k236
theorem q_j237 : q_Jd (nat_lit 170) (nat_lit 1, q_C237) := q_j_of q_k237
theorem q_j238 : q_Jd (nat_lit 171) (nat_lit 5, q_C238) := q_j_of q_k238
theorem q_j239 : q_Jd (nat_lit 172) (nat_lit 2, q_C239) := q_j_of q_k239
theorem q_j240 : q_Jd (nat_lit 72) (nat_lit 1, q_C240) := q_j_of q_k240
theorem q_j241 : q_Jd (nat_lit 71) (nat_lit 1, q_C241) := q_j_of q_k241
theorem q_j242 : q_Jd (nat_lit 75) (nat_lit 1, q_C242) := q_j_of q_k242
theorem q_j243 : q_Jd (nat_lit 74) (nat_lit 1, q_C243) := q_j_of q_k243
theorem q_j244 : q_Jd (nat_lit 76) (nat_lit 2, q_C244) := q_j_of q_k244
theorem q_j245 : q_Jd (nat_lit 73) (nat_lit 3, q_C245) := q_j_of q_k245
theorem q_j246 : q_Jd (nat_lit 70) (nat_lit 4, q_C246) := q_j_of q_k246
theorem q_j247 : q_Jd (nat_lit 174) (nat_lit 2, q_C247) := q_j_of q_k247
theorem q_j248 : q_Jd (nat_lit 173) (nat_lit 5, q_C248) := q_j_of q_k248
theorem q_j249 : q_Jd (nat_lit 175) (nat_lit 2, q_C249) := q_j_of q_k249
theorem q_j250 : q_Jd (nat_lit 21) (nat_lit 1, q_C250) := q_j_of q_k250
theorem q_j251 : q_Jd (nat_lit 79) (nat_lit 1, q_C251) := q_j_of q_k251
theorem q_j252 : q_Jd (nat_lit 34) (nat_lit 2, q_C252) := q_j_of q_k252
theorem q_j253 : q_Jd (nat_lit 175) (nat_lit 3, q_C253) := q_j_of q_k253
theorem q_j254 : q_Jd (nat_lit 79) (nat_lit 1, q_C254) := q_j_of q_k254
theorem q_j255 : q_Jd (nat_lit 21) (nat_lit 1, q_C255) := q_j_of q_k255
theorem q_j256 : q_Jd (nat_lit 34) (nat_lit 2, q_C256) := q_j_of q_k256
theorem q_j257 : q_Jd (nat_lit 175) (nat_lit 3, q_C257) := q_j_of q_k257
theorem q_j258 : q_Jd (nat_lit 21) (nat_lit 1, q_C258) := q_j_of q_k258
theorem q_j259 : q_Jd (nat_lit 79) (nat_lit 1, q_C259) := q_j_of q_k259
theorem q_j260 : q_Jd (nat_lit 34) (nat_lit 2, q_C260) := q_j_of q_k260
theorem q_j261 : q_Jd (nat_lit 175) (nat_lit 3, q_C261) := q_j_of q_k261
theorem q_j262 : q_Jd (nat_lit 176) (nat_lit 2, q_C262) := q_j_of q_k262
theorem q_j263 : q_Jd (nat_lit 21) (nat_lit 1, q_C263) := q_j_of q_k263
theorem q_j264 : q_Jd (nat_lit 79) (nat_lit 1, q_C264) := q_j_of q_k264
theorem q_j265 : q_Jd (nat_lit 34) (nat_lit 2, q_C265) := q_j_of q_k265
theorem q_j266 : q_Jd (nat_lit 176) (nat_lit 3, q_C266) := q_j_of q_k266
theorem q_j267 : q_Jd (nat_lit 79) (nat_lit 1, q_C267) := q_j_of q_k267
theorem q_j268 : q_Jd (nat_lit 21) (nat_lit 1, q_C268) := q_j_of q_k268
theorem q_j269 : q_Jd (nat_lit 34) (nat_lit 2, q_C269) := q_j_of q_k269
theorem q_j270 : q_Jd (nat_lit 176) (nat_lit 3, q_C270) := q_j_of q_k270
theorem q_j271 : q_Jd (nat_lit 21) (nat_lit 1, q_C271) := q_j_of q_k271
theorem q_j272 : q_Jd (nat_lit 79) (nat_lit 1, q_C272) := q_j_of q_k272
theorem q_j273 : q_Jd (nat_lit 34) (nat_lit 2, q_C273) := q_j_of q_k273
theorem q_j274 : q_Jd (nat_lit 176) (nat_lit 3, q_C274) := q_j_of q_k274
theorem q_j275 : q_Jd (nat_lit 178) (nat_lit 1, q_C275) := q_j_of q_k275
theorem q_j276 : q_Jd (nat_lit 179) (nat_lit 1, q_C276) := q_j_of q_k276
theorem q_j277 : q_Jd (nat_lit 180) (nat_lit 1, q_C277) := q_j_of q_k277
theorem q_j278 : q_Jd (nat_lit 186) (nat_lit 1, q_C278) := q_j_of q_k278
theorem q_j279 : q_Jd (nat_lit 182) (nat_lit 1, q_C279) := q_j_of q_k279
theorem q_j280 : q_Jd (nat_lit 186) (nat_lit 2, q_C280) := q_j_of q_k280
theorem q_j281 : q_Jd (nat_lit 186) (nat_lit 2, q_C281) := q_j_of q_k281
theorem q_j282 : q_Jd (nat_lit 186) (nat_lit 2, q_C282) := q_j_of q_k282
theorem q_j283 : q_Jd (nat_lit 186) (nat_lit 2, q_C283) := q_j_of q_k283
theorem q_j284 : q_Jd (nat_lit 186) (nat_lit 1, q_C284) := q_j_of q_k284
theorem q_j285 : q_Jd (nat_lit 186) (nat_lit 2, q_C285) := q_j_of q_k285
theorem q_j286 : q_Jd (nat_lit 186) (nat_lit 2, q_C286) := q_j_of q_k286
theorem q_j287 : q_Jd (nat_lit 186) (nat_lit 2, q_C287) := q_j_of q_k287
theorem q_j288 : q_Jd (nat_lit 186) (nat_lit 2, q_C288) := q_j_of q_k288
theorem q_j289 : q_Jd (nat_lit 186) (nat_lit 1, q_C289) := q_j_of q_k289
theorem q_j290 : q_Jd (nat_lit 186) (nat_lit 2, q_C290) := q_j_of q_k290
theorem q_j291 : q_Jd (nat_lit 186) (nat_lit 2, q_C291) := q_j_of q_k291
theorem q_j292 : q_Jd (nat_lit 186) (nat_lit 2, q_C292) := q_j_of q_k292
theorem q_j293 : q_Jd (nat_lit 186) (nat_lit 2, q_C293) := q_j_of q_k293
theorem q_j294 : q_Jd (nat_lit 186) (nat_lit 1, q_C294) := q_j_of q_k294
theorem q_j295 : q_Jd (nat_lit 186) (nat_lit 2, q_C295) := q_j_of q_k295
theorem q_j296 : q_Jd (nat_lit 186) (nat_lit 2, q_C296) := q_j_of q_k296
theorem q_j297 : q_Jd (nat_lit 186) (nat_lit 2, q_C297) := q_j_of q_k297
theorem q_j298 : q_Jd (nat_lit 186) (nat_lit 2, q_C298) := q_j_of q_k298
theorem q_j299 : q_Jd (nat_lit 186) (nat_lit 2, q_C299) := q_j_of q_k299
theorem q_j300 : q_Jd (nat_lit 186) (nat_lit 2, q_C300) := q_j_of q_k300
theorem q_j301 : q_Jd (nat_lit 185) (nat_lit 1, q_C301) := q_j_of q_k301
theorem q_j302 : q_Jd (nat_lit 187) (nat_lit 1, q_C302) := q_j_of q_k302
theorem q_j303 : q_Jd (nat_lit 188) (nat_lit 2, q_C303) := q_j_of q_k303
theorem q_j304 : q_Jd (nat_lit 189) (nat_lit 3, q_C304) := q_j_of q_k304
theorem q_j305 : q_Jd (nat_lit 185) (nat_lit 1, q_C305) := q_j_of q_k305
theorem q_j306 : q_Jd (nat_lit 189) (nat_lit 3, q_C306) := q_j_of q_k306
theorem q_j307 : q_Jd (nat_lit 185) (nat_lit 1, q_C307) := q_j_of q_k307
theorem q_j308 : q_Jd (nat_lit 189) (nat_lit 3, q_C308) := q_j_of q_k308
theorem q_j309 : q_Jd (nat_lit 185) (nat_lit 1, q_C309) := q_j_of q_k309
theorem q_j310 : q_Jd (nat_lit 189) (nat_lit 3, q_C310) := q_j_of q_k310
theorem q_j311 : q_Jd (nat_lit 185) (nat_lit 1, q_C311) := q_j_of q_k311
theorem q_j312 : q_Jd (nat_lit 189) (nat_lit 3, q_C312) := q_j_of q_k312
theorem q_j313 : q_Jd (nat_lit 189) (nat_lit 3, q_C313) := q_j_of q_k313
theorem q_j314 : q_Jd (nat_lit 189) (nat_lit 3, q_C314) := q_j_of q_k314
theorem q_j315 : q_Jd (nat_lit 189) (nat_lit 3, q_C315) := q_j_of q_k315
theorem q_j316 : q_Jd (nat_lit 187) (nat_lit 1, q_C316) := q_j_of q_k316
theorem q_j317 : q_Jd (nat_lit 188) (nat_lit 2, q_C317) := q_j_of q_k317
theorem q_j318 : q_Jd (nat_lit 189) (nat_lit 3, q_C318) := q_j_of q_k318
theorem q_j319 : q_Jd (nat_lit 189) (nat_lit 3, q_C319) := q_j_of q_k319
theorem q_j320 : q_Jd (nat_lit 189) (nat_lit 3, q_C320) := q_j_of q_k320
theorem q_j321 : q_Jd (nat_lit 189) (nat_lit 3, q_C321) := q_j_of q_k321
theorem q_j322 : q_Jd (nat_lit 189) (nat_lit 3, q_C322) := q_j_of q_k322
theorem q_j323 : q_Jd (nat_lit 189) (nat_lit 3, q_C323) := q_j_of q_k323
theorem q_j324 : q_Jd (nat_lit 189) (nat_lit 3, q_C324) := q_j_of q_k324
theorem q_j325 : q_Jd (nat_lit 189) (nat_lit 3, q_C325) := q_j_of q_k325
theorem q_j326 : q_Jd (nat_lit 187) (nat_lit 1, q_C326) := q_j_of q_k326
theorem q_j327 : q_Jd (nat_lit 188) (nat_lit 2, q_C327) := q_j_of q_k327
theorem q_j328 : q_Jd (nat_lit 189) (nat_lit 3, q_C328) := q_j_of q_k328
theorem q_j329 : q_Jd (nat_lit 189) (nat_lit 3, q_C329) := q_j_of q_k329
theorem q_j330 : q_Jd (nat_lit 189) (nat_lit 3, q_C330) := q_j_of q_k330
theorem q_j331 : q_Jd (nat_lit 189) (nat_lit 3, q_C331) := q_j_of q_k331
theorem q_j332 : q_Jd (nat_lit 189) (nat_lit 3, q_C332) := q_j_of q_k332
theorem q_j333 : q_Jd (nat_lit 189) (nat_lit 3, q_C333) := q_j_of q_k333
theorem q_j334 : q_Jd (nat_lit 189) (nat_lit 3, q_C334) := q_j_of q_k334
theorem q_j335 : q_Jd (nat_lit 189) (nat_lit 3, q_C335) := q_j_of q_k335
theorem q_j336 : q_Jd (nat_lit 187) (nat_lit 1, q_C336) := q_j_of q_k336
theorem q_j337 : q_Jd (nat_lit 188) (nat_lit 2, q_C337) := q_j_of q_k337
theorem q_j338 : q_Jd (nat_lit 189) (nat_lit 3, q_C338) := q_j_of q_k338
theorem q_j339 : q_Jd (nat_lit 189) (nat_lit 3, q_C339) := q_j_of q_k339
theorem q_j340 : q_Jd (nat_lit 189) (nat_lit 3, q_C340) := q_j_of q_k340
theorem q_j341 : q_Jd (nat_lit 189) (nat_lit 3, q_C341) := q_j_of q_k341
theorem q_j342 : q_Jd (nat_lit 189) (nat_lit 3, q_C342) := q_j_of q_k342
theorem q_j343 : q_Jd (nat_lit 189) (nat_lit 3, q_C343) := q_j_of q_k343
theorem q_j344 : q_Jd (nat_lit 189) (nat_lit 3, q_C344) := q_j_of q_k344
theorem q_j345 : q_Jd (nat_lit 189) (nat_lit 3, q_C345) := q_j_of q_k345
theorem q_j346 : q_Jd (nat_lit 187) (nat_lit 1, q_C346) := q_j_of q_k346
theorem q_j347 : q_Jd (nat_lit 188) (nat_lit 2, q_C347) := q_j_of q_k347
theorem q_j348 : q_Jd (nat_lit 189) (nat_lit 3, q_C348) := q_j_of q_k348
theorem q_j349 : q_Jd (nat_lit 189) (nat_lit 3, q_C349) := q_j_of q_k349
theorem q_j350 : q_Jd (nat_lit 190) (nat_lit 3, q_C350) := q_j_of q_k350
theorem q_j351 : q_Jd (nat_lit 190) (nat_lit 3, q_C351) := q_j_of q_k351
theorem q_j352 : q_Jd (nat_lit 190) (nat_lit 3, q_C352) := q_j_of q_k352
theorem q_j353 : q_Jd (nat_lit 190) (nat_lit 3, q_C353) := q_j_of q_k353
theorem q_j354 : q_Jd (nat_lit 190) (nat_lit 3, q_C354) := q_j_of q_k354
theorem q_j355 : q_Jd (nat_lit 190) (nat_lit 3, q_C355) := q_j_of q_k355
theorem q_j356 : q_Jd (nat_lit 190) (nat_lit 3, q_C356) := q_j_of q_k356
theorem q_j357 : q_Jd (nat_lit 190) (nat_lit 3, q_C357) := q_j_of q_k357
theorem q_j358 : q_Jd (nat_lit 190) (nat_lit 3, q_C358) := q_j_of q_k358
theorem q_j359 : q_Jd (nat_lit 190) (nat_lit 3, q_C359) := q_j_of q_k359
theorem q_j360 : q_Jd (nat_lit 190) (nat_lit 3, q_C360) := q_j_of q_k360
theorem q_j361 : q_Jd (nat_lit 190) (nat_lit 3, q_C361) := q_j_of q_k361
theorem q_j362 : q_Jd (nat_lit 190) (nat_lit 3, q_C362) := q_j_of q_k362
theorem q_j363 : q_Jd (nat_lit 190) (nat_lit 3, q_C363) := q_j_of q_k363
theorem q_j364 : q_Jd (nat_lit 190) (nat_lit 3, q_C364) := q_j_of q_k364
theorem q_j365 : q_Jd (nat_lit 190) (nat_lit 3, q_C365) := q_j_of q_k365
theorem q_j366 : q_Jd (nat_lit 190) (nat_lit 3, q_C366) := q_j_of q_k366
theorem q_j367 : q_Jd (nat_lit 190) (nat_lit 3, q_C367) := q_j_of q_k367
theorem q_j368 : q_Jd (nat_lit 191) (nat_lit 1, q_C368) := q_j_of q_k368
theorem q_j369 : q_Jd (nat_lit 191) (nat_lit 1, q_C369) := q_j_of q_k369
theorem q_j370 : q_Jd (nat_lit 191) (nat_lit 2, q_C370) := q_j_of q_k370
theorem q_j371 : q_Jd (nat_lit 191) (nat_lit 2, q_C371) := q_j_of q_k371
theorem q_j372 : q_Jd (nat_lit 191) (nat_lit 1, q_C372) := q_j_of q_k372
theorem q_j373 : q_Jd (nat_lit 191) (nat_lit 2, q_C373) := q_j_of q_k373
theorem q_j374 : q_Jd (nat_lit 191) (nat_lit 2, q_C374) := q_j_of q_k374
theorem q_j375 : q_Jd (nat_lit 191) (nat_lit 1, q_C375) := q_j_of q_k375
theorem q_j376 : q_Jd (nat_lit 191) (nat_lit 2, q_C376) := q_j_of q_k376
theorem q_j377 : q_Jd (nat_lit 191) (nat_lit 2, q_C377) := q_j_of q_k377
theorem q_j378 : q_Jd (nat_lit 191) (nat_lit 1, q_C378) := q_j_of q_k378
theorem q_j379 : q_Jd (nat_lit 191) (nat_lit 2, q_C379) := q_j_of q_k379
theorem q_j380 : q_Jd (nat_lit 191) (nat_lit 2, q_C380) := q_j_of q_k380
theorem q_j381 : q_Jd (nat_lit 191) (nat_lit 1, q_C381) := q_j_of q_k381
theorem q_j382 : q_Jd (nat_lit 191) (nat_lit 1, q_C382) := q_j_of q_k382
theorem q_j383 : q_Jd (nat_lit 191) (nat_lit 2, q_C383) := q_j_of q_k383
theorem q_j384 : q_Jd (nat_lit 191) (nat_lit 2, q_C384) := q_j_of q_k384
theorem q_j385 : q_Jd (nat_lit 191) (nat_lit 1, q_C385) := q_j_of q_k385
theorem q_j386 : q_Jd (nat_lit 191) (nat_lit 2, q_C386) := q_j_of q_k386
theorem q_j387 : q_Jd (nat_lit 191) (nat_lit 2, q_C387) := q_j_of q_k387
theorem q_j388 : q_Jd (nat_lit 191) (nat_lit 1, q_C388) := q_j_of q_k388
theorem q_j389 : q_Jd (nat_lit 191) (nat_lit 2, q_C389) := q_j_of q_k389
theorem q_j390 : q_Jd (nat_lit 191) (nat_lit 2, q_C390) := q_j_of q_k390
theorem q_j391 : q_Jd (nat_lit 191) (nat_lit 1, q_C391) := q_j_of q_k391
theorem q_j392 : q_Jd (nat_lit 191) (nat_lit 2, q_C392) := q_j_of q_k392
theorem q_j393 : q_Jd (nat_lit 191) (nat_lit 2, q_C393) := q_j_of q_k393
theorem q_j394 : q_Jd (nat_lit 191) (nat_lit 1, q_C394) := q_j_of q_k394
theorem q_j395 : q_Jd (nat_lit 191) (nat_lit 1, q_C395) := q_j_of q_k395
theorem q_j396 : q_Jd (nat_lit 191) (nat_lit 2, q_C396) := q_j_of q_k396
theorem q_j397 : q_Jd (nat_lit 191) (nat_lit 2, q_C397) := q_j_of q_k397
theorem q_j398 : q_Jd (nat_lit 191) (nat_lit 1, q_C398) := q_j_of q_k398
theorem q_j399 : q_Jd (nat_lit 191) (nat_lit 2, q_C399) := q_j_of q_k399
theorem q_j400 : q_Jd (nat_lit 191) (nat_lit 2, q_C400) := q_j_of q_k400
theorem q_j401 : q_Jd (nat_lit 191) (nat_lit 1, q_C401) := q_j_of q_k401
theorem q_j402 : q_Jd (nat_lit 191) (nat_lit 2, q_C402) := q_j_of q_k402
theorem q_j403 : q_Jd (nat_lit 191) (nat_lit 2, q_C403) := q_j_of q_k403
theorem q_j404 : q_Jd (nat_lit 191) (nat_lit 1, q_C404) := q_j_of q_k404
theorem q_j405 : q_Jd (nat_lit 191) (nat_lit 2, q_C405) := q_j_of q_k405
theorem q_j406 : q_Jd (nat_lit 191) (nat_lit 2, q_C406) := q_j_of q_k406
theorem q_j407 : q_Jd (nat_lit 191) (nat_lit 1, q_C407) := q_j_of q_k407
theorem q_j408 : q_Jd (nat_lit 191) (nat_lit 2, q_C408) := q_j_of q_k408
theorem q_j409 : q_Jd (nat_lit 191) (nat_lit 2, q_C409) := q_j_of q_k409
theorem q_j410 : q_Jd (nat_lit 191) (nat_lit 2, q_C410) := q_j_of q_k410
theorem q_j411 : q_Jd (nat_lit 191) (nat_lit 2, q_C411) := q_j_of q_k411
theorem q_j412 : q_Jd (nat_lit 191) (nat_lit 2, q_C412) := q_j_of q_k412
theorem q_j413 : q_Jd (nat_lit 191) (nat_lit 2, q_C413) := q_j_of q_k413
theorem q_j414 : q_Jd (nat_lit 191) (nat_lit 2, q_C414) := q_j_of q_k414
theorem q_j415 : q_Jd (nat_lit 191) (nat_lit 2, q_C415) := q_j_of q_k415
theorem q_j416 : q_Jd (nat_lit 191) (nat_lit 2, q_C416) := q_j_of q_k416
theorem q_j417 : q_Jd (nat_lit 191) (nat_lit 2, q_C417) := q_j_of q_k417
theorem q_j418 : q_Jd (nat_lit 191) (nat_lit 2, q_C418) := q_j_of q_k418
theorem q_j419 : q_Jd (nat_lit 191) (nat_lit 2, q_C419) := q_j_of q_k419
theorem q_j420 : q_Jd (nat_lit 191) (nat_lit 2, q_C420) := q_j_of q_k420
theorem q_j421 : q_Jd (nat_lit 191) (nat_lit 2, q_C421) := q_j_of q_k421
theorem q_j422 : q_Jd (nat_lit 191) (nat_lit 2, q_C422) := q_j_of q_k422
theorem q_j423 : q_Jd (nat_lit 191) (nat_lit 2, q_C423) := q_j_of q_k423
theorem q_j424 : q_Jd (nat_lit 191) (nat_lit 2, q_C424) := q_j_of q_k424
theorem q_j425 : q_Jd (nat_lit 191) (nat_lit 2, q_C425) := q_j_of q_k425
theorem q_j426 : q_Jd (nat_lit 191) (nat_lit 2, q_C426) := q_j_of q_k426
theorem q_j427 : q_Jd (nat_lit 191) (nat_lit 2, q_C427) := q_j_of q_k427
theorem q_j428 : q_Jd (nat_lit 191) (nat_lit 2, q_C428) := q_j_of q_k428
theorem q_j429 : q_Jd (nat_lit 191) (nat_lit 2, q_C429) := q_j_of q_k429
theorem q_j430 : q_Jd (nat_lit 191) (nat_lit 2, q_C430) := q_j_of q_k430
theorem q_j431 : q_Jd (nat_lit 222) (nat_lit 1, q_C431) := q_j_of q_k431
theorem q_j432 : q_Jd (nat_lit 222) (nat_lit 1, q_C432) := q_j_of q_k432
theorem q_j433 : q_Jd (nat_lit 222) (nat_lit 1, q_C433) := q_j_of q_k433
theorem q_j434 : q_Jd (nat_lit 222) (nat_lit 1, q_C434) := q_j_of q_k434
theorem q_j435 : q_Jd (nat_lit 222) (nat_lit 1, q_C435) := q_j_of q_k435
theorem q_j436 : q_Jd (nat_lit 221) (nat_lit 2, q_C436) := q_j_of q_k436
theorem q_j437 : q_Jd (nat_lit 225) (nat_lit 1, q_C437) := q_j_of q_k437
theorem q_j438 : q_Jd (nat_lit 183) (nat_lit 1, q_C438) := q_j_of q_k438
theorem q_j439 : q_Jd (nat_lit 195) (nat_lit 1, q_C439) := q_j_of q_k439
theorem q_j440 : q_Jd (nat_lit 196) (nat_lit 1, q_C440) := q_j_of q_k440
theorem q_j441 : q_Jd (nat_lit 197) (nat_lit 1, q_C441) := q_j_of q_k441
theorem q_j442 : q_Jd (nat_lit 194) (nat_lit 1, q_C442) := q_j_of q_k442
theorem q_j443 : q_Jd (nat_lit 194) (nat_lit 1, q_C443) := q_j_of q_k443
theorem q_j444 : q_Jd (nat_lit 198) (nat_lit 2, q_C444) := q_j_of q_k444
theorem q_j445 : q_Jd (nat_lit 217) (nat_lit 1, q_C445) := q_j_of q_k445
theorem q_j446 : q_Jd (nat_lit 217) (nat_lit 1, q_C446) := q_j_of q_k446
theorem q_j447 : q_Jd (nat_lit 217) (nat_lit 1, q_C447) := q_j_of q_k447
theorem q_j448 : q_Jd (nat_lit 218) (nat_lit 2, q_C448) := q_j_of q_k448
theorem q_j449 : q_Jd (nat_lit 220) (nat_lit 3, q_C449) := q_j_of q_k449
theorem q_j450 : q_Jd (nat_lit 227) (nat_lit 4, q_C450) := q_j_of q_k450
theorem q_j451 : q_Jd (nat_lit 226) (nat_lit 1, q_C451) := q_j_of q_k451
theorem q_j452 : q_Jd (nat_lit 226) (nat_lit 1, q_C452) := q_j_of q_k452
theorem q_j453 : q_Jd (nat_lit 200) (nat_lit 1, q_C453) := q_j_of q_k453
theorem q_j454 : q_Jd (nat_lit 201) (nat_lit 1, q_C454) := q_j_of q_k454
theorem q_j455 : q_Jd (nat_lit 204) (nat_lit 2, q_C455) := q_j_of q_k455
theorem q_j456 : q_Jd (nat_lit 226) (nat_lit 1, q_C456) := q_j_of q_k456
theorem q_j457 : q_Jd (nat_lit 205) (nat_lit 2, q_C457) := q_j_of q_k457
theorem q_j458 : q_Jd (nat_lit 208) (nat_lit 2, q_C458) := q_j_of q_k458
theorem q_j459 : q_Jd (nat_lit 199) (nat_lit 1, q_C459) := q_j_of q_k459
theorem q_j460 : q_Jd (nat_lit 219) (nat_lit 3, q_C460) := q_j_of q_k460
theorem q_j461 : q_Jd (nat_lit 227) (nat_lit 4, q_C461) := q_j_of q_k461
theorem q_j462 : q_Jd (nat_lit 227) (nat_lit 4, q_C462) := q_j_of q_k462
theorem q_j463 : q_Jd (nat_lit 206) (nat_lit 2, q_C463) := q_j_of q_k463
theorem q_j464 : q_Jd (nat_lit 217) (nat_lit 1, q_C464) := q_j_of q_k464
theorem q_j465 : q_Jd (nat_lit 207) (nat_lit 2, q_C465) := q_j_of q_k465
theorem q_j466 : q_Jd (nat_lit 214) (nat_lit 2, q_C466) := q_j_of q_k466
theorem q_j467 : q_Jd (nat_lit 210) (nat_lit 2, q_C467) := q_j_of q_k467
theorem q_j468 : q_Jd (nat_lit 202) (nat_lit 2, q_C468) := q_j_of q_k468
theorem q_j469 : q_Jd (nat_lit 213) (nat_lit 2, q_C469) := q_j_of q_k469
theorem q_j470 : q_Jd (nat_lit 215) (nat_lit 2, q_C470) := q_j_of q_k470
theorem q_j471 : q_Jd (nat_lit 203) (nat_lit 2, q_C471) := q_j_of q_k471
theorem q_j472 : q_Jd (nat_lit 209) (nat_lit 2, q_C472) := q_j_of q_k472
theorem q_j473 : q_Jd (nat_lit 211) (nat_lit 2, q_C473) := q_j_of q_k473
theorem q_j474 : q_Jd (nat_lit 212) (nat_lit 2, q_C474) := q_j_of q_k474
theorem q_j475 : q_Jd (nat_lit 216) (nat_lit 3, q_C475) := q_j_of q_k475
theorem q_j476 : q_Jd (nat_lit 217) (nat_lit 1, q_C476) := q_j_of q_k476
theorem q_j477 : q_Jd (nat_lit 228) (nat_lit 4, q_C477) := q_j_of q_k477
theorem q_j478 : q_Jd (nat_lit 224) (nat_lit 2, q_C478) := q_j_of q_k478
theorem q_j479 : q_Jd (nat_lit 226) (nat_lit 1, q_C479) := q_j_of q_k479
theorem q_j480 : q_Jd (nat_lit 217) (nat_lit 1, q_C480) := q_j_of q_k480
theorem q_j481 : q_Jd (nat_lit 226) (nat_lit 1, q_C481) := q_j_of q_k481
theorem q_j482 : q_Jd (nat_lit 230) (nat_lit 4, q_C482) := q_j_of q_k482
theorem q_j483 : q_Jd (nat_lit 227) (nat_lit 4, q_C483) := q_j_of q_k483
theorem q_j484 : q_Jd (nat_lit 226) (nat_lit 1, q_C484) := q_j_of q_k484
theorem q_j485 : q_Jd (nat_lit 226) (nat_lit 1, q_C485) := q_j_of q_k485
theorem q_j486 : q_Jd (nat_lit 223) (nat_lit 3, q_C486) := q_j_of q_k486
theorem q_j487 : q_Jd (nat_lit 229) (nat_lit 4, q_C487) := q_j_of q_k487
theorem q_j488 : q_Jd (nat_lit 226) (nat_lit 1, q_C488) := q_j_of q_k488
theorem q_j489 : q_Jd (nat_lit 227) (nat_lit 4, q_C489) := q_j_of q_k489
theorem q_j490 : q_Jd (nat_lit 227) (nat_lit 2, q_C490) := q_j_of q_k490
theorem q_j491 : q_Jd (nat_lit 227) (nat_lit 4, q_C491) := q_j_of q_k491
theorem q_j492 : q_Jd (nat_lit 231) (nat_lit 5, q_C492) := q_j_of q_k492
theorem q_j493 : q_Jd (nat_lit 232) (nat_lit 4, q_C493) := q_j_of q_k493
theorem q_j494 : q_Jd (nat_lit 217) (nat_lit 1, q_C494) := q_j_of q_k494
theorem q_j495 : q_Jd (nat_lit 233) (nat_lit 4, q_C495) := q_j_of q_k495
theorem q_j496 : q_Jd (nat_lit 233) (nat_lit 5, q_C496) := q_j_of q_k496
theorem q_j497 : q_Jd (nat_lit 233) (nat_lit 6, q_C497) := q_j_of q_k497
theorem q_j498 : q_Jd (nat_lit 233) (nat_lit 7, q_C498) := q_j_of q_k498
theorem q_j499 : q_Jd (nat_lit 234) (nat_lit 8, q_C499) := q_j_of q_k499
theorem q_j500 : q_Jd (nat_lit 247) (nat_lit 1, q_C500) := q_j_of q_k500
theorem q_j501 : q_Jd (nat_lit 181) (nat_lit 1, q_C501) := q_j_of q_k501
theorem q_j502 : q_Jd (nat_lit 226) (nat_lit 1, q_C502) := q_j_of q_k502
theorem q_j503 : q_Jd (nat_lit 235) (nat_lit 2, q_C503) := q_j_of q_k503
theorem q_j504 : q_Jd (nat_lit 248) (nat_lit 3, q_C504) := q_j_of q_k504
theorem q_j505 : q_Jd (nat_lit 226) (nat_lit 1, q_C505) := q_j_of q_k505
theorem q_j506 : q_Jd (nat_lit 235) (nat_lit 2, q_C506) := q_j_of q_k506
theorem q_j507 : q_Jd (nat_lit 236) (nat_lit 3, q_C507) := q_j_of q_k507
theorem q_j508 : q_Jd (nat_lit 250) (nat_lit 4, q_C508) := q_j_of q_k508
theorem q_j509 : q_Jd (nat_lit 242) (nat_lit 1, q_C509) := q_j_of q_k509
theorem q_j510 : q_Jd (nat_lit 243) (nat_lit 3, q_C510) := q_j_of q_k510
theorem q_j511 : q_Jd (nat_lit 244) (nat_lit 4, q_C511) := q_j_of q_k511
theorem q_j512 : q_Jd (nat_lit 237) (nat_lit 1, q_C512) := q_j_of q_k512
theorem q_j513 : q_Jd (nat_lit 238) (nat_lit 2, q_C513) := q_j_of q_k513
theorem q_j514 : q_Jd (nat_lit 245) (nat_lit 4, q_C514) := q_j_of q_k514
theorem q_j515 : q_Jd (nat_lit 249) (nat_lit 1, q_C515) := q_j_of q_k515
theorem q_j516 : q_Jd (nat_lit 246) (nat_lit 5, q_C516) := q_j_of q_k516
theorem q_j517 : q_Jd (nat_lit 239) (nat_lit 1, q_C517) := q_j_of q_k517
theorem q_j518 : q_Jd (nat_lit 240) (nat_lit 2, q_C518) := q_j_of q_k518
theorem q_j519 : q_Jd (nat_lit 226) (nat_lit 1, q_C519) := q_j_of q_k519
theorem q_j520 : q_Jd (nat_lit 235) (nat_lit 2, q_C520) := q_j_of q_k520
theorem q_j521 : q_Jd (nat_lit 236) (nat_lit 3, q_C521) := q_j_of q_k521
theorem q_j522 : q_Jd (nat_lit 250) (nat_lit 6, q_C522) := q_j_of q_k522
theorem q_j523 : q_Jd (nat_lit 226) (nat_lit 1, q_C523) := q_j_of q_k523
theorem q_j524 : q_Jd (nat_lit 235) (nat_lit 2, q_C524) := q_j_of q_k524
theorem q_j525 : q_Jd (nat_lit 236) (nat_lit 3, q_C525) := q_j_of q_k525
theorem q_j526 : q_Jd (nat_lit 244) (nat_lit 4, q_C526) := q_j_of q_k526
theorem q_j527 : q_Jd (nat_lit 237) (nat_lit 1, q_C527) := q_j_of q_k527
theorem q_j528 : q_Jd (nat_lit 238) (nat_lit 2, q_C528) := q_j_of q_k528
theorem q_j529 : q_Jd (nat_lit 245) (nat_lit 4, q_C529) := q_j_of q_k529
theorem q_j530 : q_Jd (nat_lit 246) (nat_lit 5, q_C530) := q_j_of q_k530
theorem q_j531 : q_Jd (nat_lit 250) (nat_lit 6, q_C531) := q_j_of q_k531
theorem q_j532 : q_Jd (nat_lit 237) (nat_lit 1, q_C532) := q_j_of q_k532
theorem q_j533 : q_Jd (nat_lit 226) (nat_lit 1, q_C533) := q_j_of q_k533
theorem q_j534 : q_Jd (nat_lit 235) (nat_lit 2, q_C534) := q_j_of q_k534
theorem q_j535 : q_Jd (nat_lit 236) (nat_lit 3, q_C535) := q_j_of q_k535
theorem q_j536 : q_Jd (nat_lit 238) (nat_lit 2, q_C536) := q_j_of q_k536
theorem q_j537 : q_Jd (nat_lit 250) (nat_lit 6, q_C537) := q_j_of q_k537
theorem q_j538 : q_Jd (nat_lit 244) (nat_lit 4, q_C538) := q_j_of q_k538
theorem q_j539 : q_Jd (nat_lit 246) (nat_lit 5, q_C539) := q_j_of q_k539
theorem q_j540 : q_Jd (nat_lit 237) (nat_lit 1, q_C540) := q_j_of q_k540
theorem q_j541 : q_Jd (nat_lit 245) (nat_lit 4, q_C541) := q_j_of q_k541
theorem q_j542 : q_Jd (nat_lit 226) (nat_lit 1, q_C542) := q_j_of q_k542
theorem q_j543 : q_Jd (nat_lit 235) (nat_lit 2, q_C543) := q_j_of q_k543
theorem q_j544 : q_Jd (nat_lit 236) (nat_lit 3, q_C544) := q_j_of q_k544
theorem q_j545 : q_Jd (nat_lit 238) (nat_lit 2, q_C545) := q_j_of q_k545
theorem q_j546 : q_Jd (nat_lit 250) (nat_lit 6, q_C546) := q_j_of q_k546
theorem q_j547 : q_Jd (nat_lit 226) (nat_lit 1, q_C547) := q_j_of q_k547
theorem q_j548 : q_Jd (nat_lit 235) (nat_lit 2, q_C548) := q_j_of q_k548
theorem q_j549 : q_Jd (nat_lit 236) (nat_lit 3, q_C549) := q_j_of q_k549
theorem q_j550 : q_Jd (nat_lit 237) (nat_lit 1, q_C550) := q_j_of q_k550
theorem q_j551 : q_Jd (nat_lit 238) (nat_lit 2, q_C551) := q_j_of q_k551
theorem q_j552 : q_Jd (nat_lit 250) (nat_lit 6, q_C552) := q_j_of q_k552
theorem q_j553 : q_Jd (nat_lit 237) (nat_lit 1, q_C553) := q_j_of q_k553
theorem q_j554 : q_Jd (nat_lit 238) (nat_lit 2, q_C554) := q_j_of q_k554
theorem q_j555 : q_Jd (nat_lit 235) (nat_lit 2, q_C555) := q_j_of q_k555
theorem q_j556 : q_Jd (nat_lit 236) (nat_lit 3, q_C556) := q_j_of q_k556
theorem q_j557 : q_Jd (nat_lit 250) (nat_lit 6, q_C557) := q_j_of q_k557
theorem q_j558 : q_Jd (nat_lit 241) (nat_lit 3, q_C558) := q_j_of q_k558
theorem q_j559 : q_Jd (nat_lit 251) (nat_lit 4, q_C559) := q_j_of q_k559
theorem q_j560 : q_Jd (nat_lit 236) (nat_lit 3, q_C560) := q_j_of q_k560
theorem q_j561 : q_Jd (nat_lit 252) (nat_lit 4, q_C561) := q_j_of q_k561
theorem q_j562 : q_Jd (nat_lit 253) (nat_lit 4, q_C562) := q_j_of q_k562
theorem q_j563 : q_Jd (nat_lit 254) (nat_lit 4, q_C563) := q_j_of q_k563
theorem q_j564 : q_Jd (nat_lit 316) (nat_lit 1, q_C564) := q_j_of q_k564
theorem q_j565 : q_Jd (nat_lit 255) (nat_lit 4, q_C565) := q_j_of q_k565
theorem q_j566 : q_Jd (nat_lit 256) (nat_lit 5, q_C566) := q_j_of q_k566
theorem q_j567 : q_Jd (nat_lit 264) (nat_lit 3, q_C567) := q_j_of q_k567
theorem q_j568 : q_Jd (nat_lit 257) (nat_lit 4, q_C568) := q_j_of q_k568
theorem q_j569 : q_Jd (nat_lit 258) (nat_lit 4, q_C569) := q_j_of q_k569
theorem q_j570 : q_Jd (nat_lit 259) (nat_lit 6, q_C570) := q_j_of q_k570
theorem q_j571 : q_Jd (nat_lit 260) (nat_lit 6, q_C571) := q_j_of q_k571
theorem q_j572 : q_Jd (nat_lit 261) (nat_lit 4, q_C572) := q_j_of q_k572
theorem q_j573 : q_Jd (nat_lit 262) (nat_lit 2, q_C573) := q_j_of q_k573
theorem q_j574 : q_Jd (nat_lit 263) (nat_lit 4, q_C574) := q_j_of q_k574
theorem q_j575 : q_Jd (nat_lit 265) (nat_lit 1, q_C575) := q_j_of q_k575
theorem q_j576 : q_Jd (nat_lit 319) (nat_lit 1, q_C576) := q_j_of q_k576
theorem q_j577 : q_Jd (nat_lit 266) (nat_lit 1, q_C577) := q_j_of q_k577
theorem q_j578 : q_Jd (nat_lit 267) (nat_lit 2, q_C578) := q_j_of q_k578
theorem q_j579 : q_Jd (nat_lit 318) (nat_lit 1, q_C579) := q_j_of q_k579
theorem q_j580 : q_Jd (nat_lit 268) (nat_lit 4, q_C580) := q_j_of q_k580
theorem q_j581 : q_Jd (nat_lit 271) (nat_lit 5, q_C581) := q_j_of q_k581
theorem q_j582 : q_Jd (nat_lit 270) (nat_lit 3, q_C582) := q_j_of q_k582
theorem q_j583 : q_Jd (nat_lit 272) (nat_lit 5, q_C583) := q_j_of q_k583
theorem q_j584 : q_Jd (nat_lit 269) (nat_lit 2, q_C584) := q_j_of q_k584
theorem q_j585 : q_Jd (nat_lit 273) (nat_lit 5, q_C585) := q_j_of q_k585
theorem q_j586 : q_Jd (nat_lit 274) (nat_lit 2, q_C586) := q_j_of q_k586
theorem q_j587 : q_Jd (nat_lit 275) (nat_lit 2, q_C587) := q_j_of q_k587
theorem q_j588 : q_Jd (nat_lit 276) (nat_lit 5, q_C588) := q_j_of q_k588
theorem q_j589 : q_Jd (nat_lit 277) (nat_lit 3, q_C589) := q_j_of q_k589
theorem q_j590 : q_Jd (nat_lit 315) (nat_lit 1, q_C590) := q_j_of q_k590
theorem q_j591 : q_Jd (nat_lit 184) (nat_lit 2, q_C591) := q_j_of q_k591
theorem q_j592 : q_Jd (nat_lit 278) (nat_lit 5, q_C592) := q_j_of q_k592
theorem q_j593 : q_Jd (nat_lit 279) (nat_lit 3, q_C593) := q_j_of q_k593
theorem q_j594 : q_Jd (nat_lit 280) (nat_lit 4, q_C594) := q_j_of q_k594
theorem q_j595 : q_Jd (nat_lit 281) (nat_lit 4, q_C595) := q_j_of q_k595
theorem q_j596 : q_Jd (nat_lit 317) (nat_lit 1, q_C596) := q_j_of q_k596
theorem q_j597 : q_Jd (nat_lit 282) (nat_lit 3, q_C597) := q_j_of q_k597
theorem q_j598 : q_Jd (nat_lit 283) (nat_lit 5, q_C598) := q_j_of q_k598
theorem q_j599 : q_Jd (nat_lit 284) (nat_lit 3, q_C599) := q_j_of q_k599
theorem q_j600 : q_Jd (nat_lit 284) (nat_lit 4, q_C600) := q_j_of q_k600
theorem q_j601 : q_Jd (nat_lit 284) (nat_lit 5, q_C601) := q_j_of q_k601
theorem q_j602 : q_Jd (nat_lit 284) (nat_lit 6, q_C602) := q_j_of q_k602
theorem q_j603 : q_Jd (nat_lit 284) (nat_lit 7, q_C603) := q_j_of q_k603
theorem q_j604 : q_Jd (nat_lit 284) (nat_lit 8, q_C604) := q_j_of q_k604
theorem q_j605 : q_Jd (nat_lit 284) (nat_lit 9, q_C605) := q_j_of q_k605
theorem q_j606 : q_Jd (nat_lit 284) (nat_lit 10, q_C606) := q_j_of q_k606
theorem q_j607 : q_Jd (nat_lit 284) (nat_lit 11, q_C607) := q_j_of q_k607
theorem q_j608 : q_Jd (nat_lit 284) (nat_lit 12, q_C608) := q_j_of q_k608
theorem q_j609 : q_Jd (nat_lit 284) (nat_lit 13, q_C609) := q_j_of q_k609
theorem q_j610 : q_Jd (nat_lit 284) (nat_lit 14, q_C610) := q_j_of q_k610
theorem q_j611 : q_Jd (nat_lit 284) (nat_lit 15, q_C611) := q_j_of q_k611
theorem q_j612 : q_Jd (nat_lit 284) (nat_lit 16, q_C612) := q_j_of q_k612
theorem q_j613 : q_Jd (nat_lit 284) (nat_lit 17, q_C613) := q_j_of q_k613
theorem q_j614 : q_Jd (nat_lit 284) (nat_lit 18, q_C614) := q_j_of q_k614
theorem q_j615 : q_Jd (nat_lit 284) (nat_lit 19, q_C615) := q_j_of q_k615
theorem q_j616 : q_Jd (nat_lit 284) (nat_lit 20, q_C616) := q_j_of q_k616
theorem q_j617 : q_Jd (nat_lit 284) (nat_lit 21, q_C617) := q_j_of q_k617
theorem q_j618 : q_Jd (nat_lit 284) (nat_lit 22, q_C618) := q_j_of q_k618
theorem q_j619 : q_Jd (nat_lit 284) (nat_lit 23, q_C619) := q_j_of q_k619
theorem q_j620 : q_Jd (nat_lit 284) (nat_lit 24, q_C620) := q_j_of q_k620
theorem q_j621 : q_Jd (nat_lit 284) (nat_lit 25, q_C621) := q_j_of q_k621
theorem q_j622 : q_Jd (nat_lit 284) (nat_lit 26, q_C622) := q_j_of q_k622
theorem q_j623 : q_Jd (nat_lit 284) (nat_lit 27, q_C623) := q_j_of q_k623
theorem q_j624 : q_Jd (nat_lit 284) (nat_lit 28, q_C624) := q_j_of q_k624
theorem q_j625 : q_Jd (nat_lit 284) (nat_lit 29, q_C625) := q_j_of q_k625
theorem q_j626 : q_Jd (nat_lit 284) (nat_lit 30, q_C626) := q_j_of q_k626
theorem q_j627 : q_Jd (nat_lit 284) (nat_lit 31, q_C627) := q_j_of q_k627
theorem q_j628 : q_Jd (nat_lit 284) (nat_lit 32, q_C628) := q_j_of q_k628
theorem q_j629 : q_Jd (nat_lit 284) (nat_lit 33, q_C629) := q_j_of q_k629
theorem q_j630 : q_Jd (nat_lit 284) (nat_lit 34, q_C630) := q_j_of q_k630
theorem q_j631 : q_Jd (nat_lit 284) (nat_lit 35, q_C631) := q_j_of q_k631
theorem q_j632 : q_Jd (nat_lit 284) (nat_lit 36, q_C632) := q_j_of q_k632
theorem q_j633 : q_Jd (nat_lit 284) (nat_lit 37, q_C633) := q_j_of q_k633
theorem q_j634 : q_Jd (nat_lit 284) (nat_lit 38, q_C634) := q_j_of q_k634
theorem q_j635 : q_Jd (nat_lit 284) (nat_lit 39, q_C635) := q_j_of q_k635
theorem q_j636 : q_Jd (nat_lit 284) (nat_lit 40, q_C636) := q_j_of q_k636
theorem q_j637 : q_Jd (nat_lit 284) (nat_lit 41, q_C637) := q_j_of q_k637
theorem q_j638 : q_Jd (nat_lit 284) (nat_lit 42, q_C638) := q_j_of q_k638
theorem q_j639 : q_Jd (nat_lit 284) (nat_lit 43, q_C639) := q_j_of q_k639
theorem q_j640 : q_Jd (nat_lit 284) (nat_lit 44, q_C640) := q_j_of q_k640
theorem q_j641 : q_Jd (nat_lit 284) (nat_lit 45, q_C641) := q_j_of q_k641
theorem q_j642 : q_Jd (nat_lit 284) (nat_lit 46, q_C642) := q_j_of q_k642
theorem q_j643 : q_Jd (nat_lit 284) (nat_lit 47, q_C643) := q_j_of q_k643
theorem q_j644 : q_Jd (nat_lit 284) (nat_lit 48, q_C644) := q_j_of q_k644
theorem q_j645 : q_Jd (nat_lit 284) (nat_lit 49, q_C645) := q_j_of q_k645
theorem q_j646 : q_Jd (nat_lit 284) (nat_lit 50, q_C646) := q_j_of q_k646
theorem q_j647 : q_Jd (nat_lit 284) (nat_lit 51, q_C647) := q_j_of q_k647
theorem q_j648 : q_Jd (nat_lit 284) (nat_lit 52, q_C648) := q_j_of q_k648
theorem q_j649 : q_Jd (nat_lit 284) (nat_lit 53, q_C649) := q_j_of q_k649
theorem q_j650 : q_Jd (nat_lit 284) (nat_lit 54, q_C650) := q_j_of q_k650
theorem q_j651 : q_Jd (nat_lit 284) (nat_lit 55, q_C651) := q_j_of q_k651
theorem q_j652 : q_Jd (nat_lit 284) (nat_lit 56, q_C652) := q_j_of q_k652
theorem q_j653 : q_Jd (nat_lit 284) (nat_lit 57, q_C653) := q_j_of q_k653
theorem q_j654 : q_Jd (nat_lit 284) (nat_lit 58, q_C654) := q_j_of q_k654
theorem q_j655 : q_Jd (nat_lit 284) (nat_lit 59, q_C655) := q_j_of q_k655
theorem q_j656 : q_Jd (nat_lit 284) (nat_lit 60, q_C656) := q_j_of q_k656
theorem q_j657 : q_Jd (nat_lit 284) (nat_lit 61, q_C657) := q_j_of q_k657
theorem q_j658 : q_Jd (nat_lit 284) (nat_lit 62, q_C658) := q_j_of q_k658
theorem q_j659 : q_Jd (nat_lit 284) (nat_lit 63, q_C659) := q_j_of q_k659
theorem q_j660 : q_Jd (nat_lit 284) (nat_lit 64, q_C660) := q_j_of q_k660
theorem q_j661 : q_Jd (nat_lit 284) (nat_lit 65, q_C661) := q_j_of q_k661
theorem q_j662 : q_Jd (nat_lit 284) (nat_lit 66, q_C662) := q_j_of q_k662
theorem q_j663 : q_Jd (nat_lit 284) (nat_lit 67, q_C663) := q_j_of q_k663
theorem q_j664 : q_Jd (nat_lit 284) (nat_lit 68, q_C664) := q_j_of q_k664
theorem q_j665 : q_Jd (nat_lit 284) (nat_lit 69, q_C665) := q_j_of q_k665
theorem q_j666 : q_Jd (nat_lit 284) (nat_lit 70, q_C666) := q_j_of q_k666
theorem q_j667 : q_Jd (nat_lit 284) (nat_lit 71, q_C667) := q_j_of q_k667
theorem q_j668 : q_Jd (nat_lit 284) (nat_lit 72, q_C668) := q_j_of q_k668
theorem q_j669 : q_Jd (nat_lit 284) (nat_lit 73, q_C669) := q_j_of q_k669
theorem q_j670 : q_Jd (nat_lit 284) (nat_lit 74, q_C670) := q_j_of q_k670
theorem q_j671 : q_Jd (nat_lit 284) (nat_lit 75, q_C671) := q_j_of q_k671
theorem q_j672 : q_Jd (nat_lit 284) (nat_lit 76, q_C672) := q_j_of q_k672
theorem q_j673 : q_Jd (nat_lit 284) (nat_lit 77, q_C673) := q_j_of q_k673
theorem q_j674 : q_Jd (nat_lit 284) (nat_lit 78, q_C674) := q_j_of q_k674
theorem q_j675 : q_Jd (nat_lit 284) (nat_lit 79, q_C675) := q_j_of q_k675
theorem q_j676 : q_Jd (nat_lit 284) (nat_lit 80, q_C676) := q_j_of q_k676
theorem q_j677 : q_Jd (nat_lit 284) (nat_lit 81, q_C677) := q_j_of q_k677
theorem q_j678 : q_Jd (nat_lit 284) (nat_lit 82, q_C678) := q_j_of q_k678
theorem q_j679 : q_Jd (nat_lit 284) (nat_lit 83, q_C679) := q_j_of q_k679
theorem q_j680 : q_Jd (nat_lit 284) (nat_lit 84, q_C680) := q_j_of q_k680
theorem q_j681 : q_Jd (nat_lit 284) (nat_lit 85, q_C681) := q_j_of q_k681
theorem q_j682 : q_Jd (nat_lit 284) (nat_lit 86, q_C682) := q_j_of q_k682
theorem q_j683 : q_Jd (nat_lit 284) (nat_lit 87, q_C683) := q_j_of q_k683
theorem q_j684 : q_Jd (nat_lit 284) (nat_lit 88, q_C684) := q_j_of q_k684
theorem q_j685 : q_Jd (nat_lit 284) (nat_lit 89, q_C685) := q_j_of q_k685
theorem q_j686 : q_Jd (nat_lit 284) (nat_lit 90, q_C686) := q_j_of q_k686
theorem q_j687 : q_Jd (nat_lit 284) (nat_lit 91, q_C687) := q_j_of q_k687
theorem q_j688 : q_Jd (nat_lit 284) (nat_lit 92, q_C688) := q_j_of q_k688
theorem q_j689 : q_Jd (nat_lit 284) (nat_lit 93, q_C689) := q_j_of q_k689
theorem q_j690 : q_Jd (nat_lit 284) (nat_lit 94, q_C690) := q_j_of q_k690
theorem q_j691 : q_Jd (nat_lit 284) (nat_lit 95, q_C691) := q_j_of q_k691
theorem q_j692 : q_Jd (nat_lit 284) (nat_lit 96, q_C692) := q_j_of q_k692
theorem q_j693 : q_Jd (nat_lit 284) (nat_lit 97, q_C693) := q_j_of q_k693
theorem q_j694 : q_Jd (nat_lit 284) (nat_lit 98, q_C694) := q_j_of q_k694
theorem q_j695 : q_Jd (nat_lit 284) (nat_lit 99, q_C695) := q_j_of q_k695
theorem q_j696 : q_Jd (nat_lit 285) (nat_lit 1, q_C696) := q_j_of q_k696
theorem q_j697 : q_Jd (nat_lit 286) (nat_lit 2, q_C697) := q_j_of q_k697
theorem q_j698 : q_Jd (nat_lit 287) (nat_lit 100, q_C698) := q_j_of q_k698
theorem q_j699 : q_Jd (nat_lit 288) (nat_lit 3, q_C699) := q_j_of q_k699
theorem q_j700 : q_Jd (nat_lit 289) (nat_lit 4, q_C700) := q_j_of q_k700
theorem q_j701 : q_Jd (nat_lit 290) (nat_lit 4, q_C701) := q_j_of q_k701
theorem q_j702 : q_Jd (nat_lit 193) (nat_lit 2, q_C702) := q_j_of q_k702
theorem q_j703 : q_Jd (nat_lit 192) (nat_lit 1, q_C703) := q_j_of q_k703
theorem q_j704 : q_Jd (nat_lit 192) (nat_lit 1, q_C704) := q_j_of q_k704
theorem q_j705 : q_Jd (nat_lit 291) (nat_lit 2, q_C705) := q_j_of q_k705
theorem q_j706 : q_Jd (nat_lit 292) (nat_lit 4, q_C706) := q_j_of q_k706
theorem q_j707 : q_Jd (nat_lit 293) (nat_lit 2, q_C707) := q_j_of q_k707
theorem q_j708 : q_Jd (nat_lit 294) (nat_lit 3, q_C708) := q_j_of q_k708
theorem q_j709 : q_Jd (nat_lit 294) (nat_lit 5, q_C709) := q_j_of q_k709
theorem q_j710 : q_Jd (nat_lit 294) (nat_lit 5, q_C710) := q_j_of q_k710
theorem q_j711 : q_Jd (nat_lit 294) (nat_lit 5, q_C711) := q_j_of q_k711
theorem q_j712 : q_Jd (nat_lit 294) (nat_lit 5, q_C712) := q_j_of q_k712
theorem q_j713 : q_Jd (nat_lit 294) (nat_lit 5, q_C713) := q_j_of q_k713
theorem q_j714 : q_Jd (nat_lit 294) (nat_lit 5, q_C714) := q_j_of q_k714
theorem q_j715 : q_Jd (nat_lit 295) (nat_lit 4, q_C715) := q_j_of q_k715
theorem q_j716 : q_Jd (nat_lit 296) (nat_lit 5, q_C716) := q_j_of q_k716
theorem q_j717 : q_Jd (nat_lit 297) (nat_lit 5, q_C717) := q_j_of q_k717
theorem q_j718 : q_Jd (nat_lit 298) (nat_lit 4, q_C718) := q_j_of q_k718
theorem q_j719 : q_Jd (nat_lit 299) (nat_lit 4, q_C719) := q_j_of q_k719
theorem q_j720 : q_Jd (nat_lit 299) (nat_lit 4, q_C720) := q_j_of q_k720
theorem q_j721 : q_Jd (nat_lit 299) (nat_lit 4, q_C721) := q_j_of q_k721
theorem q_j722 : q_Jd (nat_lit 299) (nat_lit 4, q_C722) := q_j_of q_k722
theorem q_j723 : q_Jd (nat_lit 299) (nat_lit 4, q_C723) := q_j_of q_k723
theorem q_j724 : q_Jd (nat_lit 299) (nat_lit 4, q_C724) := q_j_of q_k724
theorem q_j725 : q_Jd (nat_lit 299) (nat_lit 4, q_C725) := q_j_of q_k725
theorem q_j726 : q_Jd (nat_lit 307) (nat_lit 3, q_C726) := q_j_of q_k726
theorem q_j727 : q_Jd (nat_lit 308) (nat_lit 4, q_C727) := q_j_of q_k727
theorem q_j728 : q_Jd (nat_lit 307) (nat_lit 3, q_C728) := q_j_of q_k728
theorem q_j729 : q_Jd (nat_lit 237) (nat_lit 1, q_C729) := q_j_of q_k729
theorem q_j730 : q_Jd (nat_lit 238) (nat_lit 2, q_C730) := q_j_of q_k730
theorem q_j731 : q_Jd (nat_lit 303) (nat_lit 3, q_C731) := q_j_of q_k731
theorem q_j732 : q_Jd (nat_lit 300) (nat_lit 1, q_C732) := q_j_of q_k732
theorem q_j733 : q_Jd (nat_lit 301) (nat_lit 2, q_C733) := q_j_of q_k733
theorem q_j734 : q_Jd (nat_lit 302) (nat_lit 6, q_C734) := q_j_of q_k734
theorem q_j737 : q_Jd (nat_lit 306) (nat_lit 809, q_C737) := q_j_of q_k737
theorem q_j738 : q_Jd (nat_lit 308) (nat_lit 810, q_C738) := q_j_of q_k738
theorem q_j739 : q_Jd (nat_lit 237) (nat_lit 1, q_C739) := q_j_of q_k739
theorem q_j740 : q_Jd (nat_lit 301) (nat_lit 2, q_C740) := q_j_of q_k740
theorem q_j741 : q_Jd (nat_lit 302) (nat_lit 6, q_C741) := q_j_of q_k741
theorem q_j742 : q_Jd (nat_lit 238) (nat_lit 2, q_C742) := q_j_of q_k742
theorem q_j743 : q_Jd (nat_lit 303) (nat_lit 3, q_C743) := q_j_of q_k743
theorem q_j746 : q_Jd (nat_lit 306) (nat_lit 809, q_C746) := q_j_of q_k746
theorem q_j747 : q_Jd (nat_lit 307) (nat_lit 3, q_C747) := q_j_of q_k747
theorem q_j748 : q_Jd (nat_lit 308) (nat_lit 810, q_C748) := q_j_of q_k748
theorem q_j749 : q_Jd (nat_lit 307) (nat_lit 3, q_C749) := q_j_of q_k749
theorem q_j750 : q_Jd (nat_lit 237) (nat_lit 1, q_C750) := q_j_of q_k750
theorem q_j751 : q_Jd (nat_lit 301) (nat_lit 2, q_C751) := q_j_of q_k751
theorem q_j752 : q_Jd (nat_lit 302) (nat_lit 6, q_C752) := q_j_of q_k752
theorem q_j753 : q_Jd (nat_lit 238) (nat_lit 2, q_C753) := q_j_of q_k753
theorem q_j754 : q_Jd (nat_lit 303) (nat_lit 3, q_C754) := q_j_of q_k754
theorem q_j757 : q_Jd (nat_lit 306) (nat_lit 809, q_C757) := q_j_of q_k757
theorem q_j758 : q_Jd (nat_lit 308) (nat_lit 810, q_C758) := q_j_of q_k758
theorem q_j759 : q_Jd (nat_lit 237) (nat_lit 1, q_C759) := q_j_of q_k759
theorem q_j760 : q_Jd (nat_lit 238) (nat_lit 2, q_C760) := q_j_of q_k760
theorem q_j761 : q_Jd (nat_lit 303) (nat_lit 3, q_C761) := q_j_of q_k761
theorem q_j762 : q_Jd (nat_lit 301) (nat_lit 2, q_C762) := q_j_of q_k762
theorem q_j763 : q_Jd (nat_lit 302) (nat_lit 6, q_C763) := q_j_of q_k763
theorem q_j766 : q_Jd (nat_lit 306) (nat_lit 809, q_C766) := q_j_of q_k766
theorem q_j767 : q_Jd (nat_lit 307) (nat_lit 3, q_C767) := q_j_of q_k767
theorem q_j768 : q_Jd (nat_lit 308) (nat_lit 810, q_C768) := q_j_of q_k768
theorem q_j769 : q_Jd (nat_lit 237) (nat_lit 1, q_C769) := q_j_of q_k769
theorem q_j770 : q_Jd (nat_lit 238) (nat_lit 2, q_C770) := q_j_of q_k770
theorem q_j771 : q_Jd (nat_lit 303) (nat_lit 3, q_C771) := q_j_of q_k771
theorem q_j772 : q_Jd (nat_lit 301) (nat_lit 2, q_C772) := q_j_of q_k772
theorem q_j773 : q_Jd (nat_lit 302) (nat_lit 6, q_C773) := q_j_of q_k773
theorem q_j776 : q_Jd (nat_lit 306) (nat_lit 809, q_C776) := q_j_of q_k776
theorem q_j777 : q_Jd (nat_lit 307) (nat_lit 3, q_C777) := q_j_of q_k777
theorem q_j778 : q_Jd (nat_lit 308) (nat_lit 810, q_C778) := q_j_of q_k778
theorem q_j779 : q_Jd (nat_lit 307) (nat_lit 3, q_C779) := q_j_of q_k779
theorem q_j780 : q_Jd (nat_lit 237) (nat_lit 1, q_C780) := q_j_of q_k780
theorem q_j781 : q_Jd (nat_lit 301) (nat_lit 2, q_C781) := q_j_of q_k781
theorem q_j782 : q_Jd (nat_lit 302) (nat_lit 6, q_C782) := q_j_of q_k782
theorem q_j783 : q_Jd (nat_lit 238) (nat_lit 2, q_C783) := q_j_of q_k783
theorem q_j784 : q_Jd (nat_lit 303) (nat_lit 3, q_C784) := q_j_of q_k784
theorem q_j787 : q_Jd (nat_lit 306) (nat_lit 809, q_C787) := q_j_of q_k787
theorem q_j788 : q_Jd (nat_lit 308) (nat_lit 810, q_C788) := q_j_of q_k788
theorem q_j789 : q_Jd (nat_lit 309) (nat_lit 2, q_C789) := q_j_of q_k789
theorem q_j790 : q_Jd (nat_lit 311) (nat_lit 4, q_C790) := q_j_of q_k790
theorem q_j791 : q_Jd (nat_lit 310) (nat_lit 4, q_C791) := q_j_of q_k791
theorem q_j792 : q_Jd (nat_lit 311) (nat_lit 810, q_C792) := q_j_of q_k792
theorem q_j793 : q_Jd (nat_lit 311) (nat_lit 810, q_C793) := q_j_of q_k793
theorem q_j794 : q_Jd (nat_lit 311) (nat_lit 810, q_C794) := q_j_of q_k794
theorem q_j795 : q_Jd (nat_lit 311) (nat_lit 810, q_C795) := q_j_of q_k795
theorem q_j796 : q_Jd (nat_lit 311) (nat_lit 810, q_C796) := q_j_of q_k796
theorem q_j797 : q_Jd (nat_lit 311) (nat_lit 810, q_C797) := q_j_of q_k797
theorem q_j798 : q_Jd (nat_lit 313) (nat_lit 2, q_C798) := q_j_of q_k798
theorem q_j799 : q_Jd (nat_lit 312) (nat_lit 1, q_C799) := q_j_of q_k799
theorem q_j800 : q_Jd (nat_lit 313) (nat_lit 2, q_C800) := q_j_of q_k800
theorem q_j801 : q_Jd (nat_lit 313) (nat_lit 2, q_C801) := q_j_of q_k801
theorem q_j802 : q_Jd (nat_lit 313) (nat_lit 2, q_C802) := q_j_of q_k802
theorem q_j803 : q_Jd (nat_lit 313) (nat_lit 2, q_C803) := q_j_of q_k803
theorem q_j804 : q_Jd (nat_lit 313) (nat_lit 2, q_C804) := q_j_of q_k804
theorem q_j805 : q_Jd (nat_lit 313) (nat_lit 2, q_C805) := q_j_of q_k805
theorem q_j806 : q_Jd (nat_lit 313) (nat_lit 2, q_C806) := q_j_of q_k806
theorem q_j807 : q_Jd (nat_lit 312) (nat_lit 1, q_C807) := q_j_of q_k807
theorem q_j808 : q_Jd (nat_lit 313) (nat_lit 2, q_C808) := q_j_of q_k808
theorem q_j809 : q_Jd (nat_lit 313) (nat_lit 2, q_C809) := q_j_of q_k809
theorem q_j810 : q_Jd (nat_lit 313) (nat_lit 2, q_C810) := q_j_of q_k810
theorem q_j811 : q_Jd (nat_lit 313) (nat_lit 2, q_C811) := q_j_of q_k811
theorem q_j812 : q_Jd (nat_lit 313) (nat_lit 2, q_C812) := q_j_of q_k812
theorem q_j813 : q_Jd (nat_lit 313) (nat_lit 2, q_C813) := q_j_of q_k813
theorem q_j814 : q_Jd (nat_lit 313) (nat_lit 2, q_C814) := q_j_of q_k814
theorem q_j815 : q_Jd (nat_lit 312) (nat_lit 1, q_C815) := q_j_of q_k815
theorem q_j816 : q_Jd (nat_lit 313) (nat_lit 2, q_C816) := q_j_of q_k816
theorem q_j817 : q_Jd (nat_lit 313) (nat_lit 2, q_C817) := q_j_of q_k817
theorem q_j818 : q_Jd (nat_lit 313) (nat_lit 2, q_C818) := q_j_of q_k818
theorem q_j819 : q_Jd (nat_lit 313) (nat_lit 2, q_C819) := q_j_of q_k819
theorem q_j820 : q_Jd (nat_lit 313) (nat_lit 2, q_C820) := q_j_of q_k820
theorem q_j821 : q_Jd (nat_lit 313) (nat_lit 2, q_C821) := q_j_of q_k821
theorem q_j822 : q_Jd (nat_lit 313) (nat_lit 2, q_C822) := q_j_of q_k822
theorem q_j823 : q_Jd (nat_lit 314) (nat_lit 2, q_C823) := q_j_of q_k823
theorem q_j824 : q_Jd (nat_lit 312) (nat_lit 1, q_C824) := q_j_of q_k824
theorem q_j825 : q_Jd (nat_lit 314) (nat_lit 2, q_C825) := q_j_of q_k825
theorem q_j826 : q_Jd (nat_lit 314) (nat_lit 2, q_C826) := q_j_of q_k826
theorem q_j827 : q_Jd (nat_lit 314) (nat_lit 2, q_C827) := q_j_of q_k827
theorem q_j828 : q_Jd (nat_lit 314) (nat_lit 2, q_C828) := q_j_of q_k828
theorem q_j829 : q_Jd (nat_lit 314) (nat_lit 2, q_C829) := q_j_of q_k829
theorem q_j830 : q_Jd (nat_lit 314) (nat_lit 2, q_C830) := q_j_of q_k830
theorem q_j831 : q_Jd (nat_lit 314) (nat_lit 2, q_C831) := q_j_of q_k831
theorem q_j832 : q_Jd (nat_lit 312) (nat_lit 1, q_C832) := q_j_of q_k832
theorem q_j833 : q_Jd (nat_lit 314) (nat_lit 2, q_C833) := q_j_of q_k833
theorem q_j834 : q_Jd (nat_lit 314) (nat_lit 2, q_C834) := q_j_of q_k834
theorem q_j835 : q_Jd (nat_lit 314) (nat_lit 2, q_C835) := q_j_of q_k835
theorem q_j836 : q_Jd (nat_lit 314) (nat_lit 2, q_C836) := q_j_of q_k836
theorem q_j837 : q_Jd (nat_lit 314) (nat_lit 2, q_C837) := q_j_of q_k837
theorem q_j838 : q_Jd (nat_lit 314) (nat_lit 2, q_C838) := q_j_of q_k838
theorem q_j839 : q_Jd (nat_lit 314) (nat_lit 2, q_C839) := q_j_of q_k839
theorem q_j840 : q_Jd (nat_lit 312) (nat_lit 1, q_C840) := q_j_of q_k840
theorem q_j841 : q_Jd (nat_lit 314) (nat_lit 2, q_C841) := q_j_of q_k841
theorem q_j842 : q_Jd (nat_lit 314) (nat_lit 2, q_C842) := q_j_of q_k842
theorem q_j843 : q_Jd (nat_lit 314) (nat_lit 2, q_C843) := q_j_of q_k843
theorem q_j844 : q_Jd (nat_lit 314) (nat_lit 2, q_C844) := q_j_of q_k844
theorem q_j845 : q_Jd (nat_lit 314) (nat_lit 2, q_C845) := q_j_of q_k845
theorem q_j846 : q_Jd (nat_lit 314) (nat_lit 2, q_C846) := q_j_of q_k846
theorem q_j847 : q_Jd (nat_lit 314) (nat_lit 2, q_C847) := q_j_of q_k847
set_option maxRecDepth 100000 in
theorem q_Jall  : q_allP (fun e => ∀ q ∈ e.2, q_Jd e.1 q) q_CR := ⟨⟨⟨⟨⟨⟨⟨⟨(q_JC q_j167 q_l0), (q_JC q_j190 q_l0)⟩, ⟨(q_JC q_j160 q_l0), (q_JC q_j166 q_l0)⟩⟩, ⟨⟨(q_JC q_j183 q_l0), (q_JC q_j165 q_l0)⟩, ⟨(q_JC q_j164 q_l0), ⟨(q_JC q_j162 (q_JC q_j163 q_l0)), (q_JC q_j161 q_l0)⟩⟩⟩⟩, ⟨⟨⟨(q_JC q_j177 q_l0), (q_JC q_j176 q_l0)⟩, ⟨(q_JC q_j179 (q_JC q_j178 q_l0)), ⟨(q_JC q_j180 q_l0), (q_JC q_j197 q_l0)⟩⟩⟩, ⟨⟨(q_JC q_j204 q_l0), (q_JC q_j172 q_l0)⟩, ⟨(q_JC q_j171 q_l0), ⟨(q_JC q_j170 q_l0), (q_JC q_j191 q_l0)⟩⟩⟩⟩⟩, ⟨⟨⟨⟨(q_JC q_j106 (q_JC q_j250 (q_JC q_j255 (q_JC q_j258 (q_JC q_j263 (q_JC q_j268 (q_JC q_j271 q_l0))))))), (q_JC q_j117 q_l0)⟩, ⟨(q_JC q_j128 q_l0), (q_JC q_j130 q_l0)⟩⟩, ⟨⟨(q_JC q_j129 q_l0), (q_JC q_j127 q_l0)⟩, ⟨(q_JC q_j126 q_l0), ⟨(q_JC q_j116 q_l0), (q_JC q_j115 q_l0)⟩⟩⟩⟩, ⟨⟨⟨(q_JC q_j113 q_l0), (q_JC q_j114 q_l0)⟩, ⟨(q_JC q_j252 (q_JC q_j256 (q_JC q_j260 (q_JC q_j265 (q_JC q_j269 (q_JC q_j273 q_l0)))))), ⟨(q_JC q_j104 q_l0), (q_JC q_j133 q_l0)⟩⟩⟩, ⟨⟨(q_JC q_j200 q_l0), (q_JC q_j206 q_l0)⟩, ⟨(q_JC q_j199 q_l0), ⟨(q_JC q_j196 q_l0), (q_JC q_j193 (q_JC q_j192 q_l0))⟩⟩⟩⟩⟩⟩, ⟨⟨⟨⟨⟨(q_JC q_j186 q_l0), (q_JC q_j185 q_l0)⟩, ⟨(q_JC q_j187 (q_JC q_j194 q_l0)), (q_JC q_j188 q_l0)⟩⟩, ⟨⟨(q_JC q_j195 q_l0), (q_JC q_j37 q_l0)⟩, ⟨(q_JC q_j88 q_l0), ⟨(q_JC q_j47 q_l0), (q_JC q_j46 q_l0)⟩⟩⟩⟩, ⟨⟨⟨(q_JC q_j96 (q_JC q_j98 (q_JC q_j92 (q_JC q_j41 (q_JC q_j59 (q_JC q_j57 (q_JC q_j40 (q_JC q_j45 (q_JC q_j53 (q_JC q_j95 (q_JC q_j85 (q_JC q_j107 (q_JC q_j121 (q_JC q_j119 (q_JC q_j123 (q_JC q_j125 (q_JC q_j122 (q_JC q_j124 (q_JC q_j118 (q_JC q_j120 (q_JC q_j108 (q_JC q_j109 (q_JC q_j112 (q_JC q_j110 (q_JC q_j111 q_l0))))))))))))))))))))))))), (q_JC q_j51 q_l0)⟩, ⟨(q_JC q_j64 q_l0), ⟨(q_JC q_j63 q_l0), (q_JC q_j42 q_l0)⟩⟩⟩, ⟨⟨(q_JC q_j43 q_l0), (q_JC q_j44 q_l0)⟩, ⟨(q_JC q_j97 (q_JC q_j99 (q_JC q_j60 (q_JC q_j58 (q_JC q_j48 (q_JC q_j54 (q_JC q_j86 q_l0))))))), ⟨(q_JC q_j52 q_l0), (q_JC q_j50 q_l0)⟩⟩⟩⟩⟩, ⟨⟨⟨⟨(q_JC q_j49 q_l0), (q_JC q_j5 (q_JC q_j11 (q_JC q_j13 (q_JC q_j9 q_l0))))⟩, ⟨(q_JC q_j26 (q_JC q_j18 (q_JC q_j23 (q_JC q_j19 q_l0)))), ⟨(q_JC q_j16 (q_JC q_j24 (q_JC q_j27 (q_JC q_j21 q_l0)))), (q_JC q_j35 (q_JC q_j33 (q_JC q_j32 (q_JC q_j34 q_l0))))⟩⟩⟩, ⟨⟨(q_JC q_j236 (q_JC q_j246 q_l0)), (q_JC q_j229 (q_JC q_j241 q_l0))⟩, ⟨(q_JC q_j228 (q_JC q_j240 q_l0)), ⟨(q_JC q_j235 (q_JC q_j245 q_l0)), (q_JC q_j234 (q_JC q_j243 q_l0))⟩⟩⟩⟩, ⟨⟨⟨(q_JC q_j232 (q_JC q_j242 q_l0)), (q_JC q_j231 (q_JC q_j244 q_l0))⟩, ⟨(q_JC q_j91 q_l0), ⟨(q_JC q_j103 (q_JC q_j251 (q_JC q_j254 (q_JC q_j259 (q_JC q_j264 (q_JC q_j267 (q_JC q_j272 q_l0))))))), (q_JC q_j138 q_l0)⟩⟩⟩, ⟨⟨(q_JC q_j141 q_l0), (q_JC q_j93 q_l0)⟩, ⟨(q_JC q_j79 (q_JC q_j82 (q_JC q_j61 (q_JC q_j68 q_l0)))), ⟨(q_JC q_j55 q_l0), (q_JC q_j84 q_l0)⟩⟩⟩⟩⟩⟩⟩, ⟨⟨⟨⟨⟨⟨(q_JC q_j76 q_l0), (q_JC q_j73 q_l0)⟩, ⟨(q_JC q_j75 q_l0), (q_JC q_j136 q_l0)⟩⟩, ⟨⟨(q_JC q_j153 q_l0), (q_JC q_j230 q_l0)⟩, ⟨(q_JC q_j137 q_l0), ⟨(q_JC q_j233 q_l0), (q_JC q_j140 q_l0)⟩⟩⟩⟩, ⟨⟨⟨(q_JC q_j149 q_l0), (q_JC q_j151 q_l0)⟩, ⟨(q_JC q_j221 q_l0), ⟨(q_JC q_j224 q_l0), (q_JC q_j225 q_l0)⟩⟩⟩, ⟨⟨(q_JC q_j101 q_l0), (q_JC q_j100 q_l0)⟩, ⟨(q_JC q_j94 q_l0), ⟨(q_JC q_j80 (q_JC q_j83 (q_JC q_j66 (q_JC q_j69 (q_JC q_j77 q_l0))))), (q_JC q_j78 (q_JC q_j81 (q_JC q_j65 (q_JC q_j67 q_l0))))⟩⟩⟩⟩⟩, ⟨⟨⟨⟨(q_JC q_j62 q_l0), (q_JC q_j56 q_l0)⟩, ⟨(q_JC q_j87 q_l0), ⟨(q_JC q_j0 q_l0), (q_JC q_j1 q_l0)⟩⟩⟩, ⟨⟨(q_JC q_j2 q_l0), (q_JC q_j39 q_l0)⟩, ⟨(q_JC q_j30 q_l0), ⟨(q_JC q_j7 q_l0), (q_JC q_j3 q_l0)⟩⟩⟩⟩, ⟨⟨⟨(q_JC q_j135 q_l0), (q_JC q_j182 q_l0)⟩, ⟨(q_JC q_j6 q_l0), ⟨(q_JC q_j14 q_l0), (q_JC q_j17 (q_JC q_j25 (q_JC q_j28 (q_JC q_j22 (q_JC q_j20 q_l0)))))⟩⟩⟩, ⟨⟨(q_JC q_j15 q_l0), (q_JC q_j29 q_l0)⟩, ⟨(q_JC q_j31 q_l0), ⟨(q_JC q_j36 q_l0), (q_JC q_j38 q_l0)⟩⟩⟩⟩⟩⟩, ⟨⟨⟨⟨⟨(q_JC q_j105 q_l0), (q_JC q_j131 q_l0)⟩, ⟨(q_JC q_j132 q_l0), (q_JC q_j134 q_l0)⟩⟩, ⟨⟨(q_JC q_j139 q_l0), (q_JC q_j142 q_l0)⟩, ⟨(q_JC q_j143 q_l0), ⟨(q_JC q_j144 q_l0), (q_JC q_j145 q_l0)⟩⟩⟩⟩, ⟨⟨⟨(q_JC q_j147 q_l0), (q_JC q_j148 q_l0)⟩, ⟨(q_JC q_j150 q_l0), ⟨(q_JC q_j152 q_l0), (q_JC q_j154 q_l0)⟩⟩⟩, ⟨⟨(q_JC q_j155 q_l0), (q_JC q_j156 q_l0)⟩, ⟨(q_JC q_j157 q_l0), ⟨(q_JC q_j159 q_l0), (q_JC q_j158 q_l0)⟩⟩⟩⟩⟩, ⟨⟨⟨⟨(q_JC q_j168 q_l0), (q_JC q_j169 q_l0)⟩, ⟨(q_JC q_j173 q_l0), ⟨(q_JC q_j174 q_l0), (q_JC q_j175 q_l0)⟩⟩⟩, ⟨⟨(q_JC q_j181 q_l0), (q_JC q_j184 q_l0)⟩, ⟨(q_JC q_j198 q_l0), ⟨(q_JC q_j201 q_l0), (q_JC q_j202 q_l0)⟩⟩⟩⟩, ⟨⟨⟨(q_JC q_j205 q_l0), (q_JC q_j207 q_l0)⟩, ⟨(q_JC q_j208 q_l0), ⟨(q_JC q_j217 q_l0), (q_JC q_j210 (q_JC q_j215 (q_JC q_j209 (q_JC q_j211 q_l0))))⟩⟩⟩, ⟨⟨(q_JC q_j212 (q_JC q_j216 (q_JC q_j213 (q_JC q_j214 q_l0)))), (q_JC q_j218 q_l0)⟩, ⟨(q_JC q_j74 q_l0), ⟨(q_JC q_j219 q_l0), (q_JC q_j220 q_l0)⟩⟩⟩⟩⟩⟩⟩⟩, ⟨⟨⟨⟨⟨⟨⟨(q_JC q_j222 q_l0), (q_JC q_j223 q_l0)⟩, ⟨(q_JC q_j226 q_l0), (q_JC q_j227 q_l0)⟩⟩, ⟨⟨(q_JC q_j237 q_l0), (q_JC q_j238 q_l0)⟩, ⟨(q_JC q_j239 q_l0), ⟨(q_JC q_j248 q_l0), (q_JC q_j247 q_l0)⟩⟩⟩⟩, ⟨⟨⟨(q_JC q_j249 (q_JC q_j253 (q_JC q_j257 (q_JC q_j261 q_l0)))), (q_JC q_j262 (q_JC q_j266 (q_JC q_j270 (q_JC q_j274 q_l0))))⟩, ⟨(q_JC q_j275 q_l0), ⟨(q_JC q_j276 q_l0), (q_JC q_j277 q_l0)⟩⟩⟩, ⟨⟨(q_JC q_j501 q_l0), (q_JC q_j279 q_l0)⟩, ⟨(q_JC q_j438 q_l0), ⟨(q_JC q_j591 q_l0), (q_JC q_j301 (q_JC q_j305 (q_JC q_j307 (q_JC q_j309 (q_JC q_j311 q_l0)))))⟩⟩⟩⟩⟩, ⟨⟨⟨⟨(q_JC q_j278 (q_JC q_j280 (q_JC q_j281 (q_JC q_j282 (q_JC q_j283 (q_JC q_j284 (q_JC q_j285 (q_JC q_j286 (q_JC q_j287 (q_JC q_j288 (q_JC q_j289 (q_JC q_j290 (q_JC q_j291 (q_JC q_j292 (q_JC q_j293 (q_JC q_j294 (q_JC q_j295 (q_JC q_j296 (q_JC q_j297 (q_JC q_j298 (q_JC q_j299 (q_JC q_j300 q_l0)))))))))))))))))))))), (q_JC q_j302 (q_JC q_j316 (q_JC q_j326 (q_JC q_j336 (q_JC q_j346 q_l0)))))⟩, ⟨(q_JC q_j303 (q_JC q_j317 (q_JC q_j327 (q_JC q_j337 (q_JC q_j347 q_l0))))), (q_JC q_j304 (q_JC q_j306 (q_JC q_j308 (q_JC q_j310 (q_JC q_j312 (q_JC q_j313 (q_JC q_j314 (q_JC q_j315 (q_JC q_j318 (q_JC q_j319 (q_JC q_j320 (q_JC q_j321 (q_JC q_j322 (q_JC q_j323 (q_JC q_j324 (q_JC q_j325 (q_JC q_j328 (q_JC q_j329 (q_JC q_j330 (q_JC q_j331 (q_JC q_j332 (q_JC q_j333 (q_JC q_j334 (q_JC q_j335 (q_JC q_j338 (q_JC q_j339 (q_JC q_j340 (q_JC q_j341 (q_JC q_j342 (q_JC q_j343 (q_JC q_j344 (q_JC q_j345 (q_JC q_j348 (q_JC q_j349 q_l0))))))))))))))))))))))))))))))))))⟩⟩, ⟨⟨(q_JC q_j350 (q_JC q_j351 (q_JC q_j352 (q_JC q_j353 (q_JC q_j354 (q_JC q_j355 (q_JC q_j356 (q_JC q_j357 (q_JC q_j358 (q_JC q_j359 (q_JC q_j360 (q_JC q_j361 (q_JC q_j362 (q_JC q_j363 (q_JC q_j364 (q_JC q_j365 (q_JC q_j366 (q_JC q_j367 q_l0)))))))))))))))))), (q_JC q_j368 (q_JC q_j369 (q_JC q_j370 (q_JC q_j371 (q_JC q_j372 (q_JC q_j373 (q_JC q_j374 (q_JC q_j375 (q_JC q_j376 (q_JC q_j377 (q_JC q_j378 (q_JC q_j379 (q_JC q_j380 (q_JC q_j381 (q_JC q_j382 (q_JC q_j383 (q_JC q_j384 (q_JC q_j385 (q_JC q_j386 (q_JC q_j387 (q_JC q_j388 (q_JC q_j389 (q_JC q_j390 (q_JC q_j391 (q_JC q_j392 (q_JC q_j393 (q_JC q_j394 (q_JC q_j395 (q_JC q_j396 (q_JC q_j397 (q_JC q_j398 (q_JC q_j399 (q_JC q_j400 (q_JC q_j401 (q_JC q_j402 (q_JC q_j403 (q_JC q_j404 (q_JC q_j405 (q_JC q_j406 (q_JC q_j407 (q_JC q_j408 (q_JC q_j409 (q_JC q_j410 (q_JC q_j411 (q_JC q_j412 (q_JC q_j413 (q_JC q_j414 (q_JC q_j415 (q_JC q_j416 (q_JC q_j417 (q_JC q_j418 (q_JC q_j419 (q_JC q_j420 (q_JC q_j421 (q_JC q_j422 (q_JC q_j423 (q_JC q_j424 (q_JC q_j425 (q_JC q_j426 (q_JC q_j427 (q_JC q_j428 (q_JC q_j429 (q_JC q_j430 q_l0)))))))))))))))))))))))))))))))))))))))))))))))))))))))))))))))⟩, ⟨(q_JC q_j703 (q_JC q_j704 q_l0)), ⟨(q_JC q_j702 q_l0), (q_JC q_j443 (q_JC q_j442 q_l0))⟩⟩⟩⟩, ⟨⟨⟨(q_JC q_j439 q_l0), (q_JC q_j440 q_l0)⟩, ⟨(q_JC q_j441 q_l0), ⟨(q_JC q_j444 q_l0), (q_JC q_j459 q_l0)⟩⟩⟩, ⟨⟨(q_JC q_j453 q_l0), (q_JC q_j454 q_l0)⟩, ⟨(q_JC q_j468 q_l0), ⟨(q_JC q_j471 q_l0), (q_JC q_j455 q_l0)⟩⟩⟩⟩⟩⟩, ⟨⟨⟨⟨⟨(q_JC q_j457 q_l0), (q_JC q_j463 q_l0)⟩, ⟨(q_JC q_j465 q_l0), (q_JC q_j458 q_l0)⟩⟩, ⟨⟨(q_JC q_j472 q_l0), (q_JC q_j467 q_l0)⟩, ⟨(q_JC q_j473 q_l0), ⟨(q_JC q_j474 q_l0), (q_JC q_j469 q_l0)⟩⟩⟩⟩, ⟨⟨⟨(q_JC q_j466 q_l0), (q_JC q_j470 q_l0)⟩, ⟨(q_JC q_j475 q_l0), ⟨(q_JC q_j446 (q_JC q_j447 (q_JC q_j445 (q_JC q_j464 (q_JC q_j480 (q_JC q_j476 (q_JC q_j494 q_l0))))))), (q_JC q_j448 q_l0)⟩⟩⟩, ⟨⟨(q_JC q_j460 q_l0), (q_JC q_j449 q_l0)⟩, ⟨(q_JC q_j436 q_l0), ⟨(q_JC q_j433 (q_JC q_j431 (q_JC q_j435 (q_JC q_j434 (q_JC q_j432 q_l0))))), (q_JC q_j486 q_l0)⟩⟩⟩⟩⟩, ⟨⟨⟨⟨(q_JC q_j478 q_l0), (q_JC q_j437 q_l0)⟩, ⟨(q_JC q_j451 (q_JC q_j479 (q_JC q_j452 (q_JC q_j488 (q_JC q_j484 (q_JC q_j485 (q_JC q_j456 (q_JC q_j505 (q_JC q_j519 (q_JC q_j523 (q_JC q_j533 (q_JC q_j542 (q_JC q_j547 (q_JC q_j481 (q_JC q_j502 q_l0))))))))))))))), ⟨(q_JC q_j483 (q_JC q_j461 (q_JC q_j491 (q_JC q_j489 (q_JC q_j462 (q_JC q_j450 (q_JC q_j490 q_l0))))))), (q_JC q_j477 q_l0)⟩⟩⟩, ⟨⟨(q_JC q_j487 q_l0), (q_JC q_j482 q_l0)⟩, ⟨(q_JC q_j492 q_l0), ⟨(q_JC q_j493 q_l0), (q_JC q_j495 (q_JC q_j496 (q_JC q_j497 (q_JC q_j498 q_l0))))⟩⟩⟩⟩, ⟨⟨⟨(q_JC q_j499 q_l0), (q_JC q_j506 (q_JC q_j520 (q_JC q_j524 (q_JC q_j534 (q_JC q_j543 (q_JC q_j548 (q_JC q_j555 (q_JC q_j503 q_l0))))))))⟩, ⟨(q_JC q_j507 (q_JC q_j521 (q_JC q_j525 (q_JC q_j535 (q_JC q_j544 (q_JC q_j549 (q_JC q_j556 (q_JC q_j560 q_l0)))))))), ⟨(q_JC q_j512 (q_JC q_j527 (q_JC q_j532 (q_JC q_j540 (q_JC q_j550 (q_JC q_j553 (q_JC q_j729 (q_JC q_j739 (q_JC q_j750 (q_JC q_j759 (q_JC q_j769 (q_JC q_j780 q_l0)))))))))))), (q_JC q_j513 (q_JC q_j528 (q_JC q_j536 (q_JC q_j545 (q_JC q_j551 (q_JC q_j554 (q_JC q_j730 (q_JC q_j742 (q_JC q_j753 (q_JC q_j760 (q_JC q_j770 (q_JC q_j783 q_l0))))))))))))⟩⟩⟩, ⟨⟨(q_JC q_j517 q_l0), (q_JC q_j518 q_l0)⟩, ⟨(q_JC q_j558 q_l0), ⟨(q_JC q_j509 q_l0), (q_JC q_j510 q_l0)⟩⟩⟩⟩⟩⟩⟩, ⟨⟨⟨⟨⟨⟨(q_JC q_j511 (q_JC q_j526 (q_JC q_j538 q_l0))), (q_JC q_j514 (q_JC q_j529 (q_JC q_j541 q_l0)))⟩, ⟨(q_JC q_j516 (q_JC q_j530 (q_JC q_j539 q_l0))), (q_JC q_j500 q_l0)⟩⟩, ⟨⟨(q_JC q_j504 q_l0), (q_JC q_j515 q_l0)⟩, ⟨(q_JC q_j508 (q_JC q_j522 (q_JC q_j531 (q_JC q_j537 (q_JC q_j546 (q_JC q_j552 (q_JC q_j557 q_l0))))))), ⟨(q_JC q_j559 q_l0), (q_JC q_j561 q_l0)⟩⟩⟩⟩, ⟨⟨⟨(q_JC q_j562 q_l0), (q_JC q_j563 q_l0)⟩, ⟨(q_JC q_j565 q_l0), ⟨(q_JC q_j566 q_l0), (q_JC q_j568 q_l0)⟩⟩⟩, ⟨⟨(q_JC q_j569 q_l0), (q_JC q_j570 q_l0)⟩, ⟨(q_JC q_j571 q_l0), ⟨(q_JC q_j572 q_l0), (q_JC q_j573 q_l0)⟩⟩⟩⟩⟩, ⟨⟨⟨⟨(q_JC q_j574 q_l0), (q_JC q_j567 q_l0)⟩, ⟨(q_JC q_j575 q_l0), ⟨(q_JC q_j577 q_l0), (q_JC q_j578 q_l0)⟩⟩⟩, ⟨⟨(q_JC q_j580 q_l0), (q_JC q_j584 q_l0)⟩, ⟨(q_JC q_j582 q_l0), ⟨(q_JC q_j581 q_l0), (q_JC q_j583 q_l0)⟩⟩⟩⟩, ⟨⟨⟨(q_JC q_j585 q_l0), (q_JC q_j586 q_l0)⟩, ⟨(q_JC q_j587 q_l0), ⟨(q_JC q_j588 q_l0), (q_JC q_j589 q_l0)⟩⟩⟩, ⟨⟨(q_JC q_j592 q_l0), (q_JC q_j593 q_l0)⟩, ⟨(q_JC q_j594 q_l0), ⟨(q_JC q_j595 q_l0), (q_JC q_j597 q_l0)⟩⟩⟩⟩⟩⟩, ⟨⟨⟨⟨⟨(q_JC q_j598 q_l0), (q_JC q_j599 (q_JC q_j600 (q_JC q_j601 (q_JC q_j602 (q_JC q_j603 (q_JC q_j604 (q_JC q_j605 (q_JC q_j606 (q_JC q_j607 (q_JC q_j608 (q_JC q_j609 (q_JC q_j610 (q_JC q_j611 (q_JC q_j612 (q_JC q_j613 (q_JC q_j614 (q_JC q_j615 (q_JC q_j616 (q_JC q_j617 (q_JC q_j618 (q_JC q_j619 (q_JC q_j620 (q_JC q_j621 (q_JC q_j622 (q_JC q_j623 (q_JC q_j624 (q_JC q_j625 (q_JC q_j626 (q_JC q_j627 (q_JC q_j628 (q_JC q_j629 (q_JC q_j630 (q_JC q_j631 (q_JC q_j632 (q_JC q_j633 (q_JC q_j634 (q_JC q_j635 (q_JC q_j636 (q_JC q_j637 (q_JC q_j638 (q_JC q_j639 (q_JC q_j640 (q_JC q_j641 (q_JC q_j642 (q_JC q_j643 (q_JC q_j644 (q_JC q_j645 (q_JC q_j646 (q_JC q_j647 (q_JC q_j648 (q_JC q_j649 (q_JC q_j650 (q_JC q_j651 (q_JC q_j652 (q_JC q_j653 (q_JC q_j654 (q_JC q_j655 (q_JC q_j656 (q_JC q_j657 (q_JC q_j658 (q_JC q_j659 (q_JC q_j660 (q_JC q_j661 (q_JC q_j662 (q_JC q_j663 (q_JC q_j664 (q_JC q_j665 (q_JC q_j666 (q_JC q_j667 (q_JC q_j668 (q_JC q_j669 (q_JC q_j670 (q_JC q_j671 (q_JC q_j672 (q_JC q_j673 (q_JC q_j674 (q_JC q_j675 (q_JC q_j676 (q_JC q_j677 (q_JC q_j678 (q_JC q_j679 (q_JC q_j680 (q_JC q_j681 (q_JC q_j682 (q_JC q_j683 (q_JC q_j684 (q_JC q_j685 (q_JC q_j686 (q_JC q_j687 (q_JC q_j688 (q_JC q_j689 (q_JC q_j690 (q_JC q_j691 (q_JC q_j692 (q_JC q_j693 (q_JC q_j694 (q_JC q_j695 q_l0)))))))))))))))))))))))))))))))))))))))))))))))))))))))))))))))))))))))))))))))))))))))))))))))))⟩, ⟨(q_JC q_j696 q_l0), (q_JC q_j697 q_l0)⟩⟩, ⟨⟨(q_JC q_j698 q_l0), (q_JC q_j699 q_l0)⟩, ⟨(q_JC q_j700 q_l0), ⟨(q_JC q_j701 q_l0), (q_JC q_j705 q_l0)⟩⟩⟩⟩, ⟨⟨⟨(q_JC q_j706 q_l0), (q_JC q_j707 q_l0)⟩, ⟨(q_JC q_j708 (q_JC q_j709 (q_JC q_j710 (q_JC q_j711 (q_JC q_j712 (q_JC q_j713 (q_JC q_j714 q_l0))))))), ⟨(q_JC q_j715 q_l0), (q_JC q_j716 q_l0)⟩⟩⟩, ⟨⟨(q_JC q_j717 q_l0), (q_JC q_j718 q_l0)⟩, ⟨(q_JC q_j719 (q_JC q_j720 (q_JC q_j721 (q_JC q_j722 (q_JC q_j723 (q_JC q_j724 (q_JC q_j725 q_l0))))))), ⟨(q_JC q_j732 q_l0), (q_JC q_j733 (q_JC q_j740 (q_JC q_j751 (q_JC q_j762 (q_JC q_j772 (q_JC q_j781 q_l0))))))⟩⟩⟩⟩⟩, ⟨⟨⟨⟨(q_JC q_j734 (q_JC q_j741 (q_JC q_j752 (q_JC q_j763 (q_JC q_j773 (q_JC q_j782 q_l0)))))), (q_JC q_j731 (q_JC q_j743 (q_JC q_j754 (q_JC q_j761 (q_JC q_j771 (q_JC q_j784 q_l0))))))⟩, ⟨(q_JC q_j736 (q_JC q_j745 (q_JC q_j756 (q_JC q_j765 (q_JC q_j775 (q_JC q_j786 q_l0)))))), ⟨(q_JC q_j735 (q_JC q_j744 (q_JC q_j755 (q_JC q_j764 (q_JC q_j774 (q_JC q_j785 q_l0)))))), (q_JC q_j737 (q_JC q_j746 (q_JC q_j757 (q_JC q_j766 (q_JC q_j776 (q_JC q_j787 q_l0))))))⟩⟩⟩, ⟨⟨(q_JC q_j726 (q_JC q_j728 (q_JC q_j747 (q_JC q_j749 (q_JC q_j767 (q_JC q_j777 (q_JC q_j779 q_l0))))))), (q_JC q_j727 (q_JC q_j738 (q_JC q_j748 (q_JC q_j758 (q_JC q_j768 (q_JC q_j778 (q_JC q_j788 q_l0)))))))⟩, ⟨(q_JC q_j789 q_l0), ⟨(q_JC q_j791 q_l0), (q_JC q_j790 (q_JC q_j792 (q_JC q_j793 (q_JC q_j794 (q_JC q_j795 (q_JC q_j796 (q_JC q_j797 q_l0)))))))⟩⟩⟩⟩, ⟨⟨⟨(q_JC q_j799 (q_JC q_j807 (q_JC q_j815 (q_JC q_j824 (q_JC q_j832 (q_JC q_j840 q_l0)))))), (q_JC q_j800 (q_JC q_j801 (q_JC q_j802 (q_JC q_j803 (q_JC q_j804 (q_JC q_j805 (q_JC q_j806 (q_JC q_j808 (q_JC q_j809 (q_JC q_j810 (q_JC q_j811 (q_JC q_j812 (q_JC q_j813 (q_JC q_j814 (q_JC q_j816 (q_JC q_j817 (q_JC q_j818 (q_JC q_j819 (q_JC q_j820 (q_JC q_j821 (q_JC q_j822 (q_JC q_j798 q_l0))))))))))))))))))))))⟩, ⟨(q_JC q_j823 (q_JC q_j825 (q_JC q_j826 (q_JC q_j827 (q_JC q_j828 (q_JC q_j829 (q_JC q_j830 (q_JC q_j831 (q_JC q_j833 (q_JC q_j834 (q_JC q_j835 (q_JC q_j836 (q_JC q_j837 (q_JC q_j838 (q_JC q_j839 (q_JC q_j841 (q_JC q_j842 (q_JC q_j843 (q_JC q_j844 (q_JC q_j845 (q_JC q_j846 (q_JC q_j847 q_l0)))))))))))))))))))))), ⟨(q_JC q_j590 q_l0), (q_JC q_j564 q_l0)⟩⟩⟩, ⟨⟨(q_JC q_j596 q_l0), (q_JC q_j579 q_l0)⟩, ⟨(q_JC q_j576 q_l0), ⟨(q_JC q_j4 (q_JC q_j10 (q_JC q_j12 (q_JC q_j8 q_l0)))), (q_JC q_j90 (q_JC q_j89 (q_JC q_j71 (q_JC q_j70 (q_JC q_j102 (q_JC q_j189 q_l0))))))⟩⟩⟩⟩⟩⟩⟩⟩⟩
theorem q_Con_all (hall : q_allP (fun e => ∀ q ∈ e.2, q_Jd e.1 q) q_CR) : ∀ (D id : Nat), ∀ q ∈ q_CT id, q.1 ≤ D → a_Con q_SP 557 q_T q.1 id q.2 := by
  have hJ : ∀ id, ∀ q ∈ q_CT id, q_Jd id q := by
    intro id q hq
    have h := q_allP_get hall id
    unfold q_CT at hq
    generalize q_CR.get id = e at h hq
    obtain ⟨w, l⟩ := e
    have hq : q ∈ (bif Nat.beq w id then l else []) := hq
    rcases q_bf_l hq with ⟨hw, hx⟩ | ⟨-, hx⟩
    · have hw := Nat.eq_of_beq_eq_true hw
      subst hw
      exact h q hx
    · exact absurd hx List.not_mem_nil
  intro D
  induction D with
  | zero => intro id q hq hd; exact absurd (hJ id q hq).1 (by omega)
  | succ D ih =>
    intro id q hq hd
    obtain ⟨h1, h2⟩ := hJ id q hq
    exact h2 fun id' q' hq' hd' => ih id' q' hq' (by omega)
