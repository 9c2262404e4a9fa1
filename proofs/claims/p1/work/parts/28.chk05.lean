-- 28.chk5: each method's instructions are its own, its words are the tables' (printed by wip/p1/gen2.py)
set_option maxRecDepth 100000 in
theorem q_c276 : q_mB1 q_T q_M276 = true := by decide +kernel
set_option maxRecDepth 100000 in
theorem q_c278 : q_mB1 q_T q_M278 = true := by decide +kernel
set_option maxRecDepth 100000 in
theorem q_c279 : q_mB1 q_T q_M279 = true := by decide +kernel
set_option maxRecDepth 100000 in
theorem q_c280 : q_mB1 q_T q_M280 = true := by decide +kernel
set_option maxRecDepth 100000 in
theorem q_c281 : q_mB1 q_T q_M281 = true := by decide +kernel
set_option maxRecDepth 100000 in
theorem q_c283 : q_mB1 q_T q_M283 = true := by decide +kernel
set_option maxRecDepth 100000 in
theorem q_c287 : q_mB1 q_T q_M287 = true := by decide +kernel
set_option maxRecDepth 100000 in
theorem q_c289 : q_mB1 q_T q_M289 = true := by decide +kernel
set_option maxRecDepth 100000 in
theorem q_c290 : q_mB1 q_T q_M290 = true := by decide +kernel
set_option maxRecDepth 100000 in
theorem q_c292 : q_mB1 q_T q_M292 = true := by decide +kernel
set_option maxRecDepth 100000 in
theorem q_c293 : q_mB1 q_T q_M293 = true := by decide +kernel
set_option maxRecDepth 100000 in
theorem q_c294 : q_mB1 q_T q_M294 = true := by decide +kernel
set_option maxRecDepth 100000 in
theorem q_c295 : q_mB1 q_T q_M295 = true := by decide +kernel
set_option maxRecDepth 100000 in
theorem q_c296 : q_mB1 q_T q_M296 = true := by decide +kernel
set_option maxRecDepth 100000 in
theorem q_c297 : q_mB1 q_T q_M297 = true := by decide +kernel
set_option maxRecDepth 100000 in
theorem q_c298 : q_mB1 q_T q_M298 = true := by decide +kernel
set_option maxRecDepth 100000 in
theorem q_c299 : q_mB1 q_T q_M299 = true := by decide +kernel
set_option maxRecDepth 100000 in
theorem q_c307 : q_mB1 q_T q_M307 = true := by decide +kernel
set_option maxRecDepth 100000 in
theorem q_c308 : q_mB1 q_T q_M308 = true := by decide +kernel
set_option maxRecDepth 100000 in
theorem q_c309 : q_mB1 q_T q_M309 = true := by decide +kernel
set_option maxRecDepth 100000 in
theorem q_c311 : q_mB1 q_T q_M311 = true := by decide +kernel
set_option maxRecDepth 100000 in
theorem q_c312 : q_mB1 q_T q_M312 = true := by decide +kernel
set_option maxRecDepth 100000 in
theorem q_c313 : q_mB1 q_T q_M313 = true := by decide +kernel
set_option maxRecDepth 100000 in
theorem q_c314 : q_mB1 q_T q_M314 = true := by decide +kernel
set_option maxRecDepth 100000 in
theorem q_c316 : q_mB1 q_T q_M316 = true := by decide +kernel
set_option maxRecDepth 100000 in
theorem q_c318 : q_mB1 q_T q_M318 = true := by decide +kernel
set_option maxRecDepth 100000 in
theorem q_c320 : q_mB1 q_T q_M320 = true := by decide +kernel
set_option maxRecDepth 100000 in
theorem q_c321 : q_mB1 q_T q_M321 = true := by decide +kernel
