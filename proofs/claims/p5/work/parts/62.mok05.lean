-- 62.mok05: methods against their contracts (printed by wip/p5/emit.py)
theorem q_k235 : a_mok q_SP 557 q_T q_CT (q_T (nat_lit 30)) (nat_lit 3) q_C235 [] [] (nat_lit 104) = true := by decide +kernel
theorem q_k236 : a_mok q_SP 557 q_T q_CT (q_T (nat_lit 29)) (nat_lit 4) q_C236 [] [] (nat_lit 115) = true := by decide +kernel
theorem q_k237 : a_mok q_SP 557 q_T q_CT (q_T (nat_lit 30)) (nat_lit 3) q_C237 [] [] (nat_lit 104) = true := by decide +kernel
theorem q_k238 : a_mok q_SP 557 q_T q_CT (q_T (nat_lit 29)) (nat_lit 4) q_C238 [] [] (nat_lit 115) = true := by decide +kernel
theorem q_k239 : a_mok q_SP 557 q_T q_CT (q_T (nat_lit 30)) (nat_lit 3) q_C239 [] [] (nat_lit 104) = true := by decide +kernel
theorem q_k240 : a_mok q_SP 557 q_T q_CT (q_T (nat_lit 29)) (nat_lit 4) q_C240 [] [] (nat_lit 115) = true := by decide +kernel
theorem q_k241 : a_mok q_SP 557 q_T q_CT (q_T (nat_lit 30)) (nat_lit 3) q_C241 [] [] (nat_lit 104) = true := by decide +kernel
theorem q_k242 : a_mok q_SP 557 q_T q_CT (q_T (nat_lit 29)) (nat_lit 4) q_C242 [] [] (nat_lit 115) = true := by decide +kernel
theorem q_k243 : a_mok q_SP 557 q_T q_CT (q_T (nat_lit 30)) (nat_lit 3) q_C243 [] [] (nat_lit 104) = true := by decide +kernel
theorem q_k244 : a_mok q_SP 557 q_T q_CT (q_T (nat_lit 29)) (nat_lit 4) q_C244 [] [] (nat_lit 115) = true := by decide +kernel
theorem q_k245 : a_mok q_SP 557 q_T q_CT (q_T (nat_lit 27)) (nat_lit 5) q_C245 [] [(nat_lit 118, nat_lit 4)] (nat_lit 4636) = true := by decide +kernel
