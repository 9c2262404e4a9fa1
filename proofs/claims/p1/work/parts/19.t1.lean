-- 19.t1: trial
def q_e6 : qE := [(0, 4294967295), (0, 4294967295), (0, 4294967295), (0, 4294967295), (0, 4294967295), (0, 4294967295)]
noncomputable def q_t0 : Option (List qO) := q_cM q_T 100000 9 64 q_e6 (.branch 1 (.leaf (6, 4, q_dt [3, 1, 0, 0] 4)) (.leaf (0, 0, .leaf (7, 0))), 1) [(6, 0)]
theorem q_tt0 : (match q_t0 with | none => 0 | some l => l.length) = 1 := by decide +kernel
