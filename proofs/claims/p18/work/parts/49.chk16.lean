-- 49.chk16: each method's instructions are its own, its words are the tables' (printed by wip/p5/gen3.py)
set_option maxRecDepth 100000 in
theorem q_c321 : q_mB1 q_T q_M321 = true := q_mB1_of (by decide +kernel)
