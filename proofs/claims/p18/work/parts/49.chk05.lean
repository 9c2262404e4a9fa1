-- 49.chk5: each method's instructions are its own, its words are the tables' (printed by wip/p5/gen3.py)
set_option maxRecDepth 100000 in
theorem q_c122 : q_mB1 q_T q_M122 = true := q_mB1_of (by decide +kernel)
set_option maxRecDepth 100000 in
theorem q_c123 : q_mB1 q_T q_M123 = true := q_mB1_of (by decide +kernel)
set_option maxRecDepth 100000 in
theorem q_c124 : q_mB1 q_T q_M124 = true := q_mB1_of (by decide +kernel)
set_option maxRecDepth 100000 in
theorem q_c125 : q_mB1 q_T q_M125 = true := q_mB1_of (by decide +kernel)
set_option maxRecDepth 100000 in
theorem q_c126 : q_mB1 q_T q_M126 = true := q_mB1_of (by decide +kernel)
set_option maxRecDepth 100000 in
theorem q_c127 : q_mB1 q_T q_M127 = true := q_mB1_of (by decide +kernel)
set_option maxRecDepth 100000 in
theorem q_c128 : q_mB1 q_T q_M128 = true := q_mB1_of (by decide +kernel)
set_option maxRecDepth 100000 in
theorem q_c129 : q_mB1 q_T q_M129 = true := q_mB1_of (by decide +kernel)
set_option maxRecDepth 100000 in
theorem q_c130 : q_mB1 q_T q_M130 = true := q_mB1_of (by decide +kernel)
set_option maxRecDepth 100000 in
theorem q_c131 : q_mB1 q_T q_M131 = true := q_mB1_of (by decide +kernel)
set_option maxRecDepth 100000 in
theorem q_c132 : q_mB1 q_T q_M132 = true := q_mB1_of (by decide +kernel)
set_option maxRecDepth 100000 in
theorem q_c133 : q_mB1 q_T q_M133 = true := q_mB1_of (by decide +kernel)
set_option maxRecDepth 100000 in
theorem q_c134 : q_mB1 q_T q_M134 = true := q_mB1_of (by decide +kernel)
set_option maxRecDepth 100000 in
theorem q_c135 : q_mB1 q_T q_M135 = true := q_mB1_of (by decide +kernel)
set_option maxRecDepth 100000 in
theorem q_c136 : q_mB1 q_T q_M136 = true := q_mB1_of (by decide +kernel)
set_option maxRecDepth 100000 in
theorem q_c137 : q_mB1 q_T q_M137 = true := q_mB1_of (by decide +kernel)
set_option maxRecDepth 100000 in
theorem q_c138 : q_mB1 q_T q_M138 = true := q_mB1_of (by decide +kernel)
set_option maxRecDepth 100000 in
theorem q_c139 : q_mB1 q_T q_M139 = true := q_mB1_of (by decide +kernel)
set_option maxRecDepth 100000 in
theorem q_c140 : q_mB1 q_T q_M140 = true := q_mB1_of (by decide +kernel)
set_option maxRecDepth 100000 in
theorem q_c141 : q_mB1 q_T q_M141 = true := q_mB1_of (by decide +kernel)
set_option maxRecDepth 100000 in
theorem q_c142 : q_mB1 q_T q_M142 = true := q_mB1_of (by decide +kernel)
