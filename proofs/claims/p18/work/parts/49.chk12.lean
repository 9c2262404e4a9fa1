-- 49.chk12: each method's instructions are its own, its words are the tables' (printed by wip/p5/gen3.py)
set_option maxRecDepth 100000 in
theorem q_c268 : q_mB1 q_T q_M268 = true := q_mB1_of (by decide +kernel)
set_option maxRecDepth 100000 in
theorem q_c269 : q_mB1 q_T q_M269 = true := q_mB1_of (by decide +kernel)
set_option maxRecDepth 100000 in
theorem q_c270 : q_mB1 q_T q_M270 = true := q_mB1_of (by decide +kernel)
set_option maxRecDepth 100000 in
theorem q_c271 : q_mB1 q_T q_M271 = true := q_mB1_of (by decide +kernel)
set_option maxRecDepth 100000 in
theorem q_c272 : q_mB1 q_T q_M272 = true := q_mB1_of (by decide +kernel)
set_option maxRecDepth 100000 in
theorem q_c273 : q_mB1 q_T q_M273 = true := q_mB1_of (by decide +kernel)
set_option maxRecDepth 100000 in
theorem q_c274 : q_mB1 q_T q_M274 = true := q_mB1_of (by decide +kernel)
set_option maxRecDepth 100000 in
theorem q_c275 : q_mB1 q_T q_M275 = true := q_mB1_of (by decide +kernel)
set_option maxRecDepth 100000 in
theorem q_c276 : q_mB1 q_T q_M276 = true := q_mB1_of (by decide +kernel)
