-- 19.t3: trial
noncomputable def q_t2 : Option (List qO) := q_cM q_T 100000 9 0 q_e6 (.branch 1 (.leaf (0, 14, q_dt [3, 3, 3, 3, 3, 3, 1, 0, 0, 0, 0, 0, 3, 3] 14)) (.leaf (0, 0, .leaf (7, 0))), 1) [(6, 0)]
theorem q_tt2 : (match q_t2 with | none => 0 | some l => l.length) = 1 := by decide +kernel
