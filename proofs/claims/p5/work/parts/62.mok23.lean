-- 62.mok23: methods against their contracts (printed by wip/p5/emit.py)
theorem q_k718 : a_mok q_SP 557 q_T q_CT (q_T (nat_lit 314)) (nat_lit 1) q_C718 [] [] (nat_lit 28) = true := by decide +kernel
theorem q_k719 : a_mok q_SP 557 q_T q_CT (q_T (nat_lit 314)) (nat_lit 1) q_C719 [] [] (nat_lit 28) = true := by decide +kernel
theorem q_k720 : a_mok q_SP 557 q_T q_CT (q_T (nat_lit 314)) (nat_lit 1) q_C720 [] [] (nat_lit 28) = true := by decide +kernel
theorem q_k721 : a_mok q_SP 557 q_T q_CT (q_T (nat_lit 314)) (nat_lit 1) q_C721 [] [] (nat_lit 28) = true := by decide +kernel
theorem q_k722 : a_mok q_SP 557 q_T q_CT (q_T (nat_lit 314)) (nat_lit 1) q_C722 [] [] (nat_lit 28) = true := by decide +kernel
theorem q_k723 : a_mok q_SP 557 q_T q_CT (q_T (nat_lit 314)) (nat_lit 1) q_C723 [] [] (nat_lit 28) = true := by decide +kernel
theorem q_k724 : a_mok q_SP 557 q_T q_CT (q_T (nat_lit 314)) (nat_lit 1) q_C724 [] [] (nat_lit 28) = true := by decide +kernel
