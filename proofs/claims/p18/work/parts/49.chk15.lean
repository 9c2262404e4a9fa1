-- 49.chk15: each method's instructions are its own, its words are the tables' (printed by wip/p5/gen3.py)
set_option maxRecDepth 100000 in
theorem q_c301 : q_mB1 q_T q_M301 = true := q_mB1_of (by decide +kernel)
set_option maxRecDepth 100000 in
theorem q_c302 : q_mB1 q_T q_M302 = true := q_mB1_of (by decide +kernel)
set_option maxRecDepth 100000 in
theorem q_c303 : q_mB1 q_T q_M303 = true := q_mB1_of (by decide +kernel)
set_option maxRecDepth 100000 in
theorem q_c304 : q_mB1 q_T q_M304 = true := q_mB1_of (by decide +kernel)
set_option maxRecDepth 100000 in
theorem q_c305 : q_mB1 q_T q_M305 = true := q_mB1_of (by decide +kernel)
set_option maxRecDepth 100000 in
theorem q_c306 : q_mB1 q_T q_M306 = true := q_mB1_of (by decide +kernel)
set_option maxRecDepth 100000 in
theorem q_c307 : q_mB1 q_T q_M307 = true := q_mB1_of (by decide +kernel)
set_option maxRecDepth 100000 in
theorem q_c308 : q_mB1 q_T q_M308 = true := q_mB1_of (by decide +kernel)
set_option maxRecDepth 100000 in
theorem q_c309 : q_mB1 q_T q_M309 = true := q_mB1_of (by decide +kernel)
set_option maxRecDepth 100000 in
theorem q_c310 : q_mB1 q_T q_M310 = true := q_mB1_of (by decide +kernel)
set_option maxRecDepth 100000 in
theorem q_c311 : q_mB1 q_T q_M311 = true := q_mB1_of (by decide +kernel)
set_option maxRecDepth 100000 in
theorem q_c312 : q_mB1 q_T q_M312 = true := q_mB1_of (by decide +kernel)
set_option maxRecDepth 100000 in
theorem q_c313 : q_mB1 q_T q_M313 = true := q_mB1_of (by decide +kernel)
set_option maxRecDepth 100000 in
theorem q_c314 : q_mB1 q_T q_M314 = true := q_mB1_of (by decide +kernel)
set_option maxRecDepth 100000 in
theorem q_c315 : q_mB1 q_T q_M315 = true := q_mB1_of (by decide +kernel)
set_option maxRecDepth 100000 in
theorem q_c316 : q_mB1 q_T q_M316 = true := q_mB1_of (by decide +kernel)
set_option maxRecDepth 100000 in
theorem q_c317 : q_mB1 q_T q_M317 = true := q_mB1_of (by decide +kernel)
set_option maxRecDepth 100000 in
theorem q_c318 : q_mB1 q_T q_M318 = true := q_mB1_of (by decide +kernel)
set_option maxRecDepth 100000 in
theorem q_c319 : q_mB1 q_T q_M319 = true := q_mB1_of (by decide +kernel)
set_option maxRecDepth 100000 in
theorem q_c320 : q_mB1 q_T q_M320 = true := q_mB1_of (by decide +kernel)
