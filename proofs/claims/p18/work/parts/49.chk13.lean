-- 49.chk13: each method's instructions are its own, its words are the tables' (printed by wip/p5/gen3.py)
set_option maxRecDepth 100000 in
theorem q_c277 : q_mB1 q_T q_M277 = true := q_mB1_of (by decide +kernel)
set_option maxRecDepth 100000 in
theorem q_c278 : q_mB1 q_T q_M278 = true := q_mB1_of (by decide +kernel)
set_option maxRecDepth 100000 in
theorem q_c279 : q_mB1 q_T q_M279 = true := q_mB1_of (by decide +kernel)
set_option maxRecDepth 100000 in
theorem q_c280 : q_mB1 q_T q_M280 = true := q_mB1_of (by decide +kernel)
set_option maxRecDepth 100000 in
theorem q_c281 : q_mB1 q_T q_M281 = true := q_mB1_of (by decide +kernel)
set_option maxRecDepth 100000 in
theorem q_c282 : q_mB1 q_T q_M282 = true := q_mB1_of (by decide +kernel)
set_option maxRecDepth 100000 in
theorem q_c283 : q_mB1 q_T q_M283 = true := q_mB1_of (by decide +kernel)
set_option maxRecDepth 100000 in
theorem q_c284 : q_mB1 q_T q_M284 = true := q_mB1_of (by decide +kernel)
set_option maxRecDepth 100000 in
theorem q_c285 : q_mB1 q_T q_M285 = true := q_mB1_of (by decide +kernel)
set_option maxRecDepth 100000 in
theorem q_c286 : q_mB1 q_T q_M286 = true := q_mB1_of (by decide +kernel)
