-- 20.mok10: methods against their contracts (printed by wip/p5/emit.py)
theorem q_k306 : a_mok q_SP 557 q_T q_CT (q_T (nat_lit 314)) (nat_lit 1) q_C306 [] [] (nat_lit 28) = true := by decide +kernel
