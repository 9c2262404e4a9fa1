-- 28.chk4: each method's instructions are its own, its words are the tables' (printed by wip/p1/gen2.py)
set_option maxRecDepth 100000 in
theorem q_c248 : q_mB1 q_T q_M248 = true := q_mB1_of (by decide +kernel)
set_option maxRecDepth 100000 in
theorem q_c250 : q_mB1 q_T q_M250 = true := q_mB1_of (by decide +kernel)
set_option maxRecDepth 100000 in
theorem q_c251 : q_mB1 q_T q_M251 = true := q_mB1_of (by decide +kernel)
set_option maxRecDepth 100000 in
theorem q_c252 : q_mB1 q_T q_M252 = true := q_mB1_of (by decide +kernel)
set_option maxRecDepth 100000 in
theorem q_c253 : q_mB1 q_T q_M253 = true := q_mB1_of (by decide +kernel)
set_option maxRecDepth 100000 in
theorem q_c254 : q_mB1 q_T q_M254 = true := q_mB1_of (by decide +kernel)
set_option maxRecDepth 100000 in
theorem q_c255 : q_mB1 q_T q_M255 = true := q_mB1_of (by decide +kernel)
set_option maxRecDepth 100000 in
theorem q_c256 : q_mB1 q_T q_M256 = true := q_mB1_of (by decide +kernel)
set_option maxRecDepth 100000 in
theorem q_c257 : q_mB1 q_T q_M257 = true := q_mB1_of (by decide +kernel)
set_option maxRecDepth 100000 in
theorem q_c258 : q_mB1 q_T q_M258 = true := q_mB1_of (by decide +kernel)
set_option maxRecDepth 100000 in
theorem q_c259 : q_mB1 q_T q_M259 = true := q_mB1_of (by decide +kernel)
set_option maxRecDepth 100000 in
theorem q_c260 : q_mB1 q_T q_M260 = true := q_mB1_of (by decide +kernel)
set_option maxRecDepth 100000 in
theorem q_c261 : q_mB1 q_T q_M261 = true := q_mB1_of (by decide +kernel)
set_option maxRecDepth 100000 in
theorem q_c262 : q_mB1 q_T q_M262 = true := q_mB1_of (by decide +kernel)
set_option maxRecDepth 100000 in
theorem q_c263 : q_mB1 q_T q_M263 = true := q_mB1_of (by decide +kernel)
set_option maxRecDepth 100000 in
theorem q_c266 : q_mB1 q_T q_M266 = true := q_mB1_of (by decide +kernel)
set_option maxRecDepth 100000 in
theorem q_c268 : q_mB1 q_T q_M268 = true := q_mB1_of (by decide +kernel)
set_option maxRecDepth 100000 in
theorem q_c270 : q_mB1 q_T q_M270 = true := q_mB1_of (by decide +kernel)
set_option maxRecDepth 100000 in
theorem q_c271 : q_mB1 q_T q_M271 = true := q_mB1_of (by decide +kernel)
set_option maxRecDepth 100000 in
theorem q_c272 : q_mB1 q_T q_M272 = true := q_mB1_of (by decide +kernel)
set_option maxRecDepth 100000 in
theorem q_c273 : q_mB1 q_T q_M273 = true := q_mB1_of (by decide +kernel)
set_option maxRecDepth 100000 in
theorem q_c274 : q_mB1 q_T q_M274 = true := q_mB1_of (by decide +kernel)
set_option maxRecDepth 100000 in
theorem q_c275 : q_mB1 q_T q_M275 = true := q_mB1_of (by decide +kernel)
set_option maxRecDepth 100000 in
theorem q_c276 : q_mB1 q_T q_M276 = true := q_mB1_of (by decide +kernel)
set_option maxRecDepth 100000 in
theorem q_c278 : q_mB1 q_T q_M278 = true := q_mB1_of (by decide +kernel)
set_option maxRecDepth 100000 in
theorem q_c279 : q_mB1 q_T q_M279 = true := q_mB1_of (by decide +kernel)
set_option maxRecDepth 100000 in
theorem q_c280 : q_mB1 q_T q_M280 = true := q_mB1_of (by decide +kernel)
set_option maxRecDepth 100000 in
theorem q_c281 : q_mB1 q_T q_M281 = true := q_mB1_of (by decide +kernel)
set_option maxRecDepth 100000 in
theorem q_c283 : q_mB1 q_T q_M283 = true := q_mB1_of (by decide +kernel)
set_option maxRecDepth 100000 in
theorem q_c287 : q_mB1 q_T q_M287 = true := q_mB1_of (by decide +kernel)
set_option maxRecDepth 100000 in
theorem q_c289 : q_mB1 q_T q_M289 = true := q_mB1_of (by decide +kernel)
set_option maxRecDepth 100000 in
theorem q_c290 : q_mB1 q_T q_M290 = true := q_mB1_of (by decide +kernel)
set_option maxRecDepth 100000 in
theorem q_c292 : q_mB1 q_T q_M292 = true := q_mB1_of (by decide +kernel)
