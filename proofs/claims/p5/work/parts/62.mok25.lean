-- 62.mok25: methods against their contracts (printed by wip/p5/emit.py)
theorem q_k804 : a_mok q_SP 557 q_T q_CT (q_T (nat_lit 314)) (nat_lit 1) q_C804 [] ([], q_RL, []) (nat_lit 28) = true := by decide +kernel
theorem q_k805 : a_mok q_SP 557 q_T q_CT (q_T (nat_lit 314)) (nat_lit 1) q_C805 [] ([], q_RL, []) (nat_lit 28) = true := by decide +kernel
theorem q_k806 : a_mok q_SP 557 q_T q_CT (q_T (nat_lit 314)) (nat_lit 1) q_C806 [] ([], q_RL, []) (nat_lit 28) = true := by decide +kernel
theorem q_k807 : a_mok q_SP 557 q_T q_CT (q_T (nat_lit 314)) (nat_lit 1) q_C807 [] ([], q_RL, []) (nat_lit 28) = true := by decide +kernel
theorem q_k808 : a_mok q_SP 557 q_T q_CT (q_T (nat_lit 314)) (nat_lit 1) q_C808 [] ([], q_RL, []) (nat_lit 28) = true := by decide +kernel
theorem q_k809 : a_mok q_SP 557 q_T q_CT (q_T (nat_lit 314)) (nat_lit 1) q_C809 [] ([], q_RL, []) (nat_lit 28) = true := by decide +kernel
theorem q_k810 : a_mok q_SP 557 q_T q_CT (q_T (nat_lit 314)) (nat_lit 1) q_C810 [] ([], q_RL, []) (nat_lit 28) = true := by decide +kernel
