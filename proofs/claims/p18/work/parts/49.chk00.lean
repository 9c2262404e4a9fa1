-- 49.chk0: each method's instructions are its own, its words are the tables' (printed by wip/p5/gen3.py)
set_option maxRecDepth 100000 in
theorem q_c0 : q_mB1 q_T q_M0 = true := q_mB1_of (by decide +kernel)
set_option maxRecDepth 100000 in
theorem q_c1 : q_mB1 q_T q_M1 = true := q_mB1_of (by decide +kernel)
set_option maxRecDepth 100000 in
theorem q_c2 : q_mB1 q_T q_M2 = true := q_mB1_of (by decide +kernel)
set_option maxRecDepth 100000 in
theorem q_c3 : q_mB1 q_T q_M3 = true := q_mB1_of (by decide +kernel)
set_option maxRecDepth 100000 in
theorem q_c4 : q_mB1 q_T q_M4 = true := q_mB1_of (by decide +kernel)
set_option maxRecDepth 100000 in
theorem q_c5 : q_mB1 q_T q_M5 = true := q_mB1_of (by decide +kernel)
set_option maxRecDepth 100000 in
theorem q_c6 : q_mB1 q_T q_M6 = true := q_mB1_of (by decide +kernel)
set_option maxRecDepth 100000 in
theorem q_c7 : q_mB1 q_T q_M7 = true := q_mB1_of (by decide +kernel)
set_option maxRecDepth 100000 in
theorem q_c8 : q_mB1 q_T q_M8 = true := q_mB1_of (by decide +kernel)
set_option maxRecDepth 100000 in
theorem q_c9 : q_mB1 q_T q_M9 = true := q_mB1_of (by decide +kernel)
set_option maxRecDepth 100000 in
theorem q_c10 : q_mB1 q_T q_M10 = true := q_mB1_of (by decide +kernel)
set_option maxRecDepth 100000 in
theorem q_c11 : q_mB1 q_T q_M11 = true := q_mB1_of (by decide +kernel)
set_option maxRecDepth 100000 in
theorem q_c12 : q_mB1 q_T q_M12 = true := q_mB1_of (by decide +kernel)
set_option maxRecDepth 100000 in
theorem q_c13 : q_mB1 q_T q_M13 = true := q_mB1_of (by decide +kernel)
set_option maxRecDepth 100000 in
theorem q_c14 : q_mB1 q_T q_M14 = true := q_mB1_of (by decide +kernel)
set_option maxRecDepth 100000 in
theorem q_c15 : q_mB1 q_T q_M15 = true := q_mB1_of (by decide +kernel)
set_option maxRecDepth 100000 in
theorem q_c16 : q_mB1 q_T q_M16 = true := q_mB1_of (by decide +kernel)
set_option maxRecDepth 100000 in
theorem q_c17 : q_mB1 q_T q_M17 = true := q_mB1_of (by decide +kernel)
set_option maxRecDepth 100000 in
theorem q_c18 : q_mB1 q_T q_M18 = true := q_mB1_of (by decide +kernel)
set_option maxRecDepth 100000 in
theorem q_c19 : q_mB1 q_T q_M19 = true := q_mB1_of (by decide +kernel)
set_option maxRecDepth 100000 in
theorem q_c20 : q_mB1 q_T q_M20 = true := q_mB1_of (by decide +kernel)
