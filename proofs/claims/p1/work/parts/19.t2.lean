-- 19.t2: trial
noncomputable def q_t1 : Option (List qO) := q_cM q_T 100000 9 33 q_e6 (.branch 1 (.leaf (3, 5, q_dt [3, 3, 3, 1, 0] 5)) (.leaf (0, 0, .leaf (7, 0))), 1) [(6, 0)]
theorem q_tt1 : (match q_t1 with | none => 0 | some l => l.length) = 1 := by decide +kernel
