-- 49.chk10: each method's instructions are its own, its words are the tables' (printed by wip/p5/gen3.py)
set_option maxRecDepth 100000 in
theorem q_c231 : q_mB1 q_T q_M231 = true := q_mB1_of (by decide +kernel)
set_option maxRecDepth 100000 in
theorem q_c232 : q_mB1 q_T q_M232 = true := q_mB1_of (by decide +kernel)
set_option maxRecDepth 100000 in
theorem q_c233 : q_mB1 q_T q_M233 = true := q_mB1_of (by decide +kernel)
set_option maxRecDepth 100000 in
theorem q_c234 : q_mB1 q_T q_M234 = true := q_mB1_of (by decide +kernel)
set_option maxRecDepth 100000 in
theorem q_c235 : q_mB1 q_T q_M235 = true := q_mB1_of (by decide +kernel)
set_option maxRecDepth 100000 in
theorem q_c236 : q_mB1 q_T q_M236 = true := q_mB1_of (by decide +kernel)
set_option maxRecDepth 100000 in
theorem q_c237 : q_mB1 q_T q_M237 = true := q_mB1_of (by decide +kernel)
set_option maxRecDepth 100000 in
theorem q_c238 : q_mB1 q_T q_M238 = true := q_mB1_of (by decide +kernel)
set_option maxRecDepth 100000 in
theorem q_c239 : q_mB1 q_T q_M239 = true := q_mB1_of (by decide +kernel)
set_option maxRecDepth 100000 in
theorem q_c240 : q_mB1 q_T q_M240 = true := q_mB1_of (by decide +kernel)
set_option maxRecDepth 100000 in
theorem q_c241 : q_mB1 q_T q_M241 = true := q_mB1_of (by decide +kernel)
set_option maxRecDepth 100000 in
theorem q_c242 : q_mB1 q_T q_M242 = true := q_mB1_of (by decide +kernel)
set_option maxRecDepth 100000 in
theorem q_c243 : q_mB1 q_T q_M243 = true := q_mB1_of (by decide +kernel)
set_option maxRecDepth 100000 in
theorem q_c244 : q_mB1 q_T q_M244 = true := q_mB1_of (by decide +kernel)
set_option maxRecDepth 100000 in
theorem q_c245 : q_mB1 q_T q_M245 = true := q_mB1_of (by decide +kernel)
set_option maxRecDepth 100000 in
theorem q_c246 : q_mB1 q_T q_M246 = true := q_mB1_of (by decide +kernel)
set_option maxRecDepth 100000 in
theorem q_c247 : q_mB1 q_T q_M247 = true := q_mB1_of (by decide +kernel)
set_option maxRecDepth 100000 in
theorem q_c248 : q_mB1 q_T q_M248 = true := q_mB1_of (by decide +kernel)
set_option maxRecDepth 100000 in
theorem q_c249 : q_mB1 q_T q_M249 = true := q_mB1_of (by decide +kernel)
set_option maxRecDepth 100000 in
theorem q_c250 : q_mB1 q_T q_M250 = true := q_mB1_of (by decide +kernel)
