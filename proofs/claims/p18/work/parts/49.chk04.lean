-- 49.chk4: each method's instructions are its own, its words are the tables' (printed by wip/p5/gen3.py)
set_option maxRecDepth 100000 in
theorem q_c94 : q_mB1 q_T q_M94 = true := q_mB1_of (by decide +kernel)
set_option maxRecDepth 100000 in
theorem q_c95 : q_mB1 q_T q_M95 = true := q_mB1_of (by decide +kernel)
set_option maxRecDepth 100000 in
theorem q_c96 : q_mB1 q_T q_M96 = true := q_mB1_of (by decide +kernel)
set_option maxRecDepth 100000 in
theorem q_c97 : q_mB1 q_T q_M97 = true := q_mB1_of (by decide +kernel)
set_option maxRecDepth 100000 in
theorem q_c98 : q_mB1 q_T q_M98 = true := q_mB1_of (by decide +kernel)
set_option maxRecDepth 100000 in
theorem q_c99 : q_mB1 q_T q_M99 = true := q_mB1_of (by decide +kernel)
set_option maxRecDepth 100000 in
theorem q_c100 : q_mB1 q_T q_M100 = true := q_mB1_of (by decide +kernel)
set_option maxRecDepth 100000 in
theorem q_c101 : q_mB1 q_T q_M101 = true := q_mB1_of (by decide +kernel)
set_option maxRecDepth 100000 in
theorem q_c102 : q_mB1 q_T q_M102 = true := q_mB1_of (by decide +kernel)
set_option maxRecDepth 100000 in
theorem q_c103 : q_mB1 q_T q_M103 = true := q_mB1_of (by decide +kernel)
set_option maxRecDepth 100000 in
theorem q_c104 : q_mB1 q_T q_M104 = true := q_mB1_of (by decide +kernel)
set_option maxRecDepth 100000 in
theorem q_c105 : q_mB1 q_T q_M105 = true := q_mB1_of (by decide +kernel)
set_option maxRecDepth 100000 in
theorem q_c106 : q_mB1 q_T q_M106 = true := q_mB1_of (by decide +kernel)
set_option maxRecDepth 100000 in
theorem q_c107 : q_mB1 q_T q_M107 = true := q_mB1_of (by decide +kernel)
set_option maxRecDepth 100000 in
theorem q_c108 : q_mB1 q_T q_M108 = true := q_mB1_of (by decide +kernel)
set_option maxRecDepth 100000 in
theorem q_c109 : q_mB1 q_T q_M109 = true := q_mB1_of (by decide +kernel)
set_option maxRecDepth 100000 in
theorem q_c110 : q_mB1 q_T q_M110 = true := q_mB1_of (by decide +kernel)
set_option maxRecDepth 100000 in
theorem q_c111 : q_mB1 q_T q_M111 = true := q_mB1_of (by decide +kernel)
set_option maxRecDepth 100000 in
theorem q_c112 : q_mB1 q_T q_M112 = true := q_mB1_of (by decide +kernel)
set_option maxRecDepth 100000 in
theorem q_c113 : q_mB1 q_T q_M113 = true := q_mB1_of (by decide +kernel)
set_option maxRecDepth 100000 in
theorem q_c114 : q_mB1 q_T q_M114 = true := q_mB1_of (by decide +kernel)
set_option maxRecDepth 100000 in
theorem q_c115 : q_mB1 q_T q_M115 = true := q_mB1_of (by decide +kernel)
set_option maxRecDepth 100000 in
theorem q_c116 : q_mB1 q_T q_M116 = true := q_mB1_of (by decide +kernel)
set_option maxRecDepth 100000 in
theorem q_c117 : q_mB1 q_T q_M117 = true := q_mB1_of (by decide +kernel)
set_option maxRecDepth 100000 in
theorem q_c118 : q_mB1 q_T q_M118 = true := q_mB1_of (by decide +kernel)
set_option maxRecDepth 100000 in
theorem q_c119 : q_mB1 q_T q_M119 = true := q_mB1_of (by decide +kernel)
set_option maxRecDepth 100000 in
theorem q_c120 : q_mB1 q_T q_M120 = true := q_mB1_of (by decide +kernel)
set_option maxRecDepth 100000 in
theorem q_c121 : q_mB1 q_T q_M121 = true := q_mB1_of (by decide +kernel)
