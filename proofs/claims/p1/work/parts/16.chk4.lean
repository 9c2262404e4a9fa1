-- 16.chk4: each method's instructions are its own, its words are the tables' (printed by wip/p1/gen2.py)
set_option maxRecDepth 100000 in
theorem q_c282 : q_mB1 q_T q_M282 = true := by decide +kernel
set_option maxRecDepth 100000 in
theorem q_c283 : q_mB1 q_T q_M283 = true := by decide +kernel
set_option maxRecDepth 100000 in
theorem q_c284 : q_mB1 q_T q_M284 = true := by decide +kernel
set_option maxRecDepth 100000 in
theorem q_c285 : q_mB1 q_T q_M285 = true := by decide +kernel
set_option maxRecDepth 100000 in
theorem q_c286 : q_mB1 q_T q_M286 = true := by decide +kernel
set_option maxRecDepth 100000 in
theorem q_c287 : q_mB1 q_T q_M287 = true := by decide +kernel
set_option maxRecDepth 100000 in
theorem q_c288 : q_mB1 q_T q_M288 = true := by decide +kernel
set_option maxRecDepth 100000 in
theorem q_c289 : q_mB1 q_T q_M289 = true := by decide +kernel
set_option maxRecDepth 100000 in
theorem q_c290 : q_mB1 q_T q_M290 = true := by decide +kernel
set_option maxRecDepth 100000 in
theorem q_c291 : q_mB1 q_T q_M291 = true := by decide +kernel
set_option maxRecDepth 100000 in
theorem q_c292 : q_mB1 q_T q_M292 = true := by decide +kernel
set_option maxRecDepth 100000 in
theorem q_c293 : q_mB1 q_T q_M293 = true := by decide +kernel
set_option maxRecDepth 100000 in
theorem q_c294 : q_mB1 q_T q_M294 = true := by decide +kernel
set_option maxRecDepth 100000 in
theorem q_c295 : q_mB1 q_T q_M295 = true := by decide +kernel
set_option maxRecDepth 100000 in
theorem q_c296 : q_mB1 q_T q_M296 = true := by decide +kernel
set_option maxRecDepth 100000 in
theorem q_c297 : q_mB1 q_T q_M297 = true := by decide +kernel
set_option maxRecDepth 100000 in
theorem q_c298 : q_mB1 q_T q_M298 = true := by decide +kernel
set_option maxRecDepth 100000 in
theorem q_c299 : q_mB1 q_T q_M299 = true := by decide +kernel
set_option maxRecDepth 100000 in
theorem q_c300 : q_mB1 q_T q_M300 = true := by decide +kernel
set_option maxRecDepth 100000 in
theorem q_c301 : q_mB1 q_T q_M301 = true := by decide +kernel
set_option maxRecDepth 100000 in
theorem q_c302 : q_mB1 q_T q_M302 = true := by decide +kernel
set_option maxRecDepth 100000 in
theorem q_c303 : q_mB1 q_T q_M303 = true := by decide +kernel
set_option maxRecDepth 100000 in
theorem q_c304 : q_mB1 q_T q_M304 = true := by decide +kernel
set_option maxRecDepth 100000 in
theorem q_c305 : q_mB1 q_T q_M305 = true := by decide +kernel
set_option maxRecDepth 100000 in
theorem q_c306 : q_mB1 q_T q_M306 = true := by decide +kernel
set_option maxRecDepth 100000 in
theorem q_c307 : q_mB1 q_T q_M307 = true := by decide +kernel
set_option maxRecDepth 100000 in
theorem q_c308 : q_mB1 q_T q_M308 = true := by decide +kernel
set_option maxRecDepth 100000 in
theorem q_c309 : q_mB1 q_T q_M309 = true := by decide +kernel
set_option maxRecDepth 100000 in
theorem q_c310 : q_mB1 q_T q_M310 = true := by decide +kernel
set_option maxRecDepth 100000 in
theorem q_c311 : q_mB1 q_T q_M311 = true := by decide +kernel
set_option maxRecDepth 100000 in
theorem q_c312 : q_mB1 q_T q_M312 = true := by decide +kernel
set_option maxRecDepth 100000 in
theorem q_c313 : q_mB1 q_T q_M313 = true := by decide +kernel
set_option maxRecDepth 100000 in
theorem q_c314 : q_mB1 q_T q_M314 = true := by decide +kernel
set_option maxRecDepth 100000 in
theorem q_c315 : q_mB1 q_T q_M315 = true := by decide +kernel
set_option maxRecDepth 100000 in
theorem q_c316 : q_mB1 q_T q_M316 = true := by decide +kernel
set_option maxRecDepth 100000 in
theorem q_c317 : q_mB1 q_T q_M317 = true := by decide +kernel
set_option maxRecDepth 100000 in
theorem q_c318 : q_mB1 q_T q_M318 = true := by decide +kernel
set_option maxRecDepth 100000 in
theorem q_c319 : q_mB1 q_T q_M319 = true := by decide +kernel
set_option maxRecDepth 100000 in
theorem q_c320 : q_mB1 q_T q_M320 = true := by decide +kernel
set_option maxRecDepth 100000 in
theorem q_c321 : q_mB1 q_T q_M321 = true := by decide +kernel
