-- 28.chk5: each method's instructions are its own, its words are the tables' (printed by wip/p1/gen2.py)
set_option maxRecDepth 100000 in
theorem q_c293 : q_mB1 q_T q_M293 = true := q_mB1_of (by decide +kernel)
set_option maxRecDepth 100000 in
theorem q_c294 : q_mB1 q_T q_M294 = true := q_mB1_of (by decide +kernel)
set_option maxRecDepth 100000 in
theorem q_c295 : q_mB1 q_T q_M295 = true := q_mB1_of (by decide +kernel)
set_option maxRecDepth 100000 in
theorem q_c296 : q_mB1 q_T q_M296 = true := q_mB1_of (by decide +kernel)
set_option maxRecDepth 100000 in
theorem q_c297 : q_mB1 q_T q_M297 = true := q_mB1_of (by decide +kernel)
set_option maxRecDepth 100000 in
theorem q_c298 : q_mB1 q_T q_M298 = true := q_mB1_of (by decide +kernel)
set_option maxRecDepth 100000 in
theorem q_c299 : q_mB1 q_T q_M299 = true := q_mB1_of (by decide +kernel)
set_option maxRecDepth 100000 in
theorem q_c307 : q_mB1 q_T q_M307 = true := q_mB1_of (by decide +kernel)
set_option maxRecDepth 100000 in
theorem q_c308 : q_mB1 q_T q_M308 = true := q_mB1_of (by decide +kernel)
set_option maxRecDepth 100000 in
theorem q_c309 : q_mB1 q_T q_M309 = true := q_mB1_of (by decide +kernel)
set_option maxRecDepth 100000 in
theorem q_c311 : q_mB1 q_T q_M311 = true := q_mB1_of (by decide +kernel)
set_option maxRecDepth 100000 in
theorem q_c312 : q_mB1 q_T q_M312 = true := q_mB1_of (by decide +kernel)
set_option maxRecDepth 100000 in
theorem q_c313 : q_mB1 q_T q_M313 = true := q_mB1_of (by decide +kernel)
set_option maxRecDepth 100000 in
theorem q_c314 : q_mB1 q_T q_M314 = true := q_mB1_of (by decide +kernel)
set_option maxRecDepth 100000 in
theorem q_c316 : q_mB1 q_T q_M316 = true := q_mB1_of (by decide +kernel)
set_option maxRecDepth 100000 in
theorem q_c318 : q_mB1 q_T q_M318 = true := q_mB1_of (by decide +kernel)
set_option maxRecDepth 100000 in
theorem q_c320 : q_mB1 q_T q_M320 = true := q_mB1_of (by decide +kernel)
set_option maxRecDepth 100000 in
theorem q_c321 : q_mB1 q_T q_M321 = true := q_mB1_of (by decide +kernel)
