-- 49.chk14: each method's instructions are its own, its words are the tables' (printed by wip/p5/gen3.py)
set_option maxRecDepth 100000 in
theorem q_c287 : q_mB1 q_T q_M287 = true := q_mB1_of (by decide +kernel)
set_option maxRecDepth 100000 in
theorem q_c288 : q_mB1 q_T q_M288 = true := q_mB1_of (by decide +kernel)
set_option maxRecDepth 100000 in
theorem q_c289 : q_mB1 q_T q_M289 = true := q_mB1_of (by decide +kernel)
set_option maxRecDepth 100000 in
theorem q_c290 : q_mB1 q_T q_M290 = true := q_mB1_of (by decide +kernel)
set_option maxRecDepth 100000 in
theorem q_c291 : q_mB1 q_T q_M291 = true := q_mB1_of (by decide +kernel)
set_option maxRecDepth 100000 in
theorem q_c292 : q_mB1 q_T q_M292 = true := q_mB1_of (by decide +kernel)
set_option maxRecDepth 100000 in
theorem q_c293 : q_mB1 q_T q_M293 = true := q_mB1_of (by decide +kernel)
set_option maxRecDepth 100000 in
theorem q_c294 : q_mB1 q_T q_M294 = true := q_mB1_of (by decide +kernel)
set_option maxRecDepth 100000 in
theorem q_c295 : q_mB1 q_T q_M295 = true := q_mB1_of (by decide +kernel)
set_option maxRecDepth 100000 in
theorem q_c296 : q_mB1 q_T q_M296 = true := q_mB1_of (by decide +kernel)
set_option maxRecDepth 100000 in
theorem q_c297 : q_mB1 q_T q_M297 = true := q_mB1_of (by decide +kernel)
set_option maxRecDepth 100000 in
theorem q_c298 : q_mB1 q_T q_M298 = true := q_mB1_of (by decide +kernel)
set_option maxRecDepth 100000 in
theorem q_c299 : q_mB1 q_T q_M299 = true := q_mB1_of (by decide +kernel)
set_option maxRecDepth 100000 in
theorem q_c300 : q_mB1 q_T q_M300 = true := q_mB1_of (by decide +kernel)
