-- 62.mok23: methods against their contracts (printed by wip/p5/emit.py)
theorem q_k1034 : a_mok q_SP 557 q_T q_CT (q_T (nat_lit 314)) (nat_lit 1) q_C1034 [] ([], q_RL, []) (nat_lit 28) = true := by decide +kernel
theorem q_k1035 : a_mok q_SP 557 q_T q_CT (q_T (nat_lit 314)) (nat_lit 1) q_C1035 [] ([], q_RL, []) (nat_lit 28) = true := by decide +kernel
theorem q_k1036 : a_mok q_SP 557 q_T q_CT (q_T (nat_lit 314)) (nat_lit 1) q_C1036 [] ([], q_RL, []) (nat_lit 28) = true := by decide +kernel
theorem q_k1037 : a_mok q_SP 557 q_T q_CT (q_T (nat_lit 314)) (nat_lit 1) q_C1037 [] ([], q_RL, []) (nat_lit 28) = true := by decide +kernel
theorem q_k1038 : a_mok q_SP 557 q_T q_CT (q_T (nat_lit 314)) (nat_lit 1) q_C1038 [] ([], q_RL, []) (nat_lit 28) = true := by decide +kernel
theorem q_k1039 : a_mok q_SP 557 q_T q_CT (q_T (nat_lit 314)) (nat_lit 1) q_C1039 [] ([], q_RL, []) (nat_lit 28) = true := by decide +kernel
theorem q_k1040 : a_mok q_SP 557 q_T q_CT (q_T (nat_lit 314)) (nat_lit 1) q_C1040 [] ([], q_RL, []) (nat_lit 28) = true := by decide +kernel
