-- 49.chk3: each method's instructions are its own, its words are the tables' (printed by wip/p5/gen3.py)
set_option maxRecDepth 100000 in
theorem q_c73 : q_mB1 q_T q_M73 = true := q_mB1_of (by decide +kernel)
set_option maxRecDepth 100000 in
theorem q_c74 : q_mB1 q_T q_M74 = true := q_mB1_of (by decide +kernel)
set_option maxRecDepth 100000 in
theorem q_c75 : q_mB1 q_T q_M75 = true := q_mB1_of (by decide +kernel)
set_option maxRecDepth 100000 in
theorem q_c76 : q_mB1 q_T q_M76 = true := q_mB1_of (by decide +kernel)
set_option maxRecDepth 100000 in
theorem q_c77 : q_mB1 q_T q_M77 = true := q_mB1_of (by decide +kernel)
set_option maxRecDepth 100000 in
theorem q_c78 : q_mB1 q_T q_M78 = true := q_mB1_of (by decide +kernel)
set_option maxRecDepth 100000 in
theorem q_c79 : q_mB1 q_T q_M79 = true := q_mB1_of (by decide +kernel)
set_option maxRecDepth 100000 in
theorem q_c80 : q_mB1 q_T q_M80 = true := q_mB1_of (by decide +kernel)
set_option maxRecDepth 100000 in
theorem q_c81 : q_mB1 q_T q_M81 = true := q_mB1_of (by decide +kernel)
set_option maxRecDepth 100000 in
theorem q_c82 : q_mB1 q_T q_M82 = true := q_mB1_of (by decide +kernel)
set_option maxRecDepth 100000 in
theorem q_c83 : q_mB1 q_T q_M83 = true := q_mB1_of (by decide +kernel)
set_option maxRecDepth 100000 in
theorem q_c84 : q_mB1 q_T q_M84 = true := q_mB1_of (by decide +kernel)
set_option maxRecDepth 100000 in
theorem q_c85 : q_mB1 q_T q_M85 = true := q_mB1_of (by decide +kernel)
set_option maxRecDepth 100000 in
theorem q_c86 : q_mB1 q_T q_M86 = true := q_mB1_of (by decide +kernel)
set_option maxRecDepth 100000 in
theorem q_c87 : q_mB1 q_T q_M87 = true := q_mB1_of (by decide +kernel)
set_option maxRecDepth 100000 in
theorem q_c88 : q_mB1 q_T q_M88 = true := q_mB1_of (by decide +kernel)
set_option maxRecDepth 100000 in
theorem q_c89 : q_mB1 q_T q_M89 = true := q_mB1_of (by decide +kernel)
set_option maxRecDepth 100000 in
theorem q_c90 : q_mB1 q_T q_M90 = true := q_mB1_of (by decide +kernel)
set_option maxRecDepth 100000 in
theorem q_c91 : q_mB1 q_T q_M91 = true := q_mB1_of (by decide +kernel)
set_option maxRecDepth 100000 in
theorem q_c92 : q_mB1 q_T q_M92 = true := q_mB1_of (by decide +kernel)
set_option maxRecDepth 100000 in
theorem q_c93 : q_mB1 q_T q_M93 = true := q_mB1_of (by decide +kernel)
