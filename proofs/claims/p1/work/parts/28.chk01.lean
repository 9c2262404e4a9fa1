-- 28.chk1: each method's instructions are its own, its words are the tables' (printed by wip/p1/gen2.py)
set_option maxRecDepth 100000 in
theorem q_c64 : q_mB1 q_T q_M64 = true := q_mB1_of (by decide +kernel)
set_option maxRecDepth 100000 in
theorem q_c65 : q_mB1 q_T q_M65 = true := q_mB1_of (by decide +kernel)
set_option maxRecDepth 100000 in
theorem q_c69 : q_mB1 q_T q_M69 = true := q_mB1_of (by decide +kernel)
set_option maxRecDepth 100000 in
theorem q_c77 : q_mB1 q_T q_M77 = true := q_mB1_of (by decide +kernel)
set_option maxRecDepth 100000 in
theorem q_c78 : q_mB1 q_T q_M78 = true := q_mB1_of (by decide +kernel)
set_option maxRecDepth 100000 in
theorem q_c79 : q_mB1 q_T q_M79 = true := q_mB1_of (by decide +kernel)
set_option maxRecDepth 100000 in
theorem q_c80 : q_mB1 q_T q_M80 = true := q_mB1_of (by decide +kernel)
set_option maxRecDepth 100000 in
theorem q_c81 : q_mB1 q_T q_M81 = true := q_mB1_of (by decide +kernel)
set_option maxRecDepth 100000 in
theorem q_c100 : q_mB1 q_T q_M100 = true := q_mB1_of (by decide +kernel)
set_option maxRecDepth 100000 in
theorem q_c101 : q_mB1 q_T q_M101 = true := q_mB1_of (by decide +kernel)
set_option maxRecDepth 100000 in
theorem q_c102 : q_mB1 q_T q_M102 = true := q_mB1_of (by decide +kernel)
set_option maxRecDepth 100000 in
theorem q_c109 : q_mB1 q_T q_M109 = true := q_mB1_of (by decide +kernel)
set_option maxRecDepth 100000 in
theorem q_c110 : q_mB1 q_T q_M110 = true := q_mB1_of (by decide +kernel)
set_option maxRecDepth 100000 in
theorem q_c111 : q_mB1 q_T q_M111 = true := q_mB1_of (by decide +kernel)
set_option maxRecDepth 100000 in
theorem q_c112 : q_mB1 q_T q_M112 = true := q_mB1_of (by decide +kernel)
set_option maxRecDepth 100000 in
theorem q_c113 : q_mB1 q_T q_M113 = true := q_mB1_of (by decide +kernel)
set_option maxRecDepth 100000 in
theorem q_c114 : q_mB1 q_T q_M114 = true := q_mB1_of (by decide +kernel)
set_option maxRecDepth 100000 in
theorem q_c115 : q_mB1 q_T q_M115 = true := q_mB1_of (by decide +kernel)
set_option maxRecDepth 100000 in
theorem q_c116 : q_mB1 q_T q_M116 = true := q_mB1_of (by decide +kernel)
set_option maxRecDepth 100000 in
theorem q_c117 : q_mB1 q_T q_M117 = true := q_mB1_of (by decide +kernel)
set_option maxRecDepth 100000 in
theorem q_c119 : q_mB1 q_T q_M119 = true := q_mB1_of (by decide +kernel)
set_option maxRecDepth 100000 in
theorem q_c120 : q_mB1 q_T q_M120 = true := q_mB1_of (by decide +kernel)
set_option maxRecDepth 100000 in
theorem q_c121 : q_mB1 q_T q_M121 = true := q_mB1_of (by decide +kernel)
set_option maxRecDepth 100000 in
theorem q_c122 : q_mB1 q_T q_M122 = true := q_mB1_of (by decide +kernel)
set_option maxRecDepth 100000 in
theorem q_c123 : q_mB1 q_T q_M123 = true := q_mB1_of (by decide +kernel)
set_option maxRecDepth 100000 in
theorem q_c124 : q_mB1 q_T q_M124 = true := q_mB1_of (by decide +kernel)
set_option maxRecDepth 100000 in
theorem q_c125 : q_mB1 q_T q_M125 = true := q_mB1_of (by decide +kernel)
set_option maxRecDepth 100000 in
theorem q_c126 : q_mB1 q_T q_M126 = true := q_mB1_of (by decide +kernel)
set_option maxRecDepth 100000 in
theorem q_c127 : q_mB1 q_T q_M127 = true := q_mB1_of (by decide +kernel)
set_option maxRecDepth 100000 in
theorem q_c128 : q_mB1 q_T q_M128 = true := q_mB1_of (by decide +kernel)
set_option maxRecDepth 100000 in
theorem q_c129 : q_mB1 q_T q_M129 = true := q_mB1_of (by decide +kernel)
