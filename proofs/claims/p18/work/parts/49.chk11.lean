-- 49.chk11: each method's instructions are its own, its words are the tables' (printed by wip/p5/gen3.py)
set_option maxRecDepth 100000 in
theorem q_c251 : q_mB1 q_T q_M251 = true := q_mB1_of (by decide +kernel)
set_option maxRecDepth 100000 in
theorem q_c252 : q_mB1 q_T q_M252 = true := q_mB1_of (by decide +kernel)
set_option maxRecDepth 100000 in
theorem q_c253 : q_mB1 q_T q_M253 = true := q_mB1_of (by decide +kernel)
set_option maxRecDepth 100000 in
theorem q_c254 : q_mB1 q_T q_M254 = true := q_mB1_of (by decide +kernel)
set_option maxRecDepth 100000 in
theorem q_c255 : q_mB1 q_T q_M255 = true := q_mB1_of (by decide +kernel)
set_option maxRecDepth 100000 in
theorem q_c256 : q_mB1 q_T q_M256 = true := q_mB1_of (by decide +kernel)
set_option maxRecDepth 100000 in
theorem q_c257 : q_mB1 q_T q_M257 = true := q_mB1_of (by decide +kernel)
set_option maxRecDepth 100000 in
theorem q_c258 : q_mB1 q_T q_M258 = true := q_mB1_of (by decide +kernel)
set_option maxRecDepth 100000 in
theorem q_c259 : q_mB1 q_T q_M259 = true := q_mB1_of (by decide +kernel)
set_option maxRecDepth 100000 in
theorem q_c260 : q_mB1 q_T q_M260 = true := q_mB1_of (by decide +kernel)
set_option maxRecDepth 100000 in
theorem q_c261 : q_mB1 q_T q_M261 = true := q_mB1_of (by decide +kernel)
set_option maxRecDepth 100000 in
theorem q_c262 : q_mB1 q_T q_M262 = true := q_mB1_of (by decide +kernel)
set_option maxRecDepth 100000 in
theorem q_c263 : q_mB1 q_T q_M263 = true := q_mB1_of (by decide +kernel)
set_option maxRecDepth 100000 in
theorem q_c264 : q_mB1 q_T q_M264 = true := q_mB1_of (by decide +kernel)
set_option maxRecDepth 100000 in
theorem q_c265 : q_mB1 q_T q_M265 = true := q_mB1_of (by decide +kernel)
set_option maxRecDepth 100000 in
theorem q_c266 : q_mB1 q_T q_M266 = true := q_mB1_of (by decide +kernel)
set_option maxRecDepth 100000 in
theorem q_c267 : q_mB1 q_T q_M267 = true := q_mB1_of (by decide +kernel)
