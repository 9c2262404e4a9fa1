-- 28.chk0: each method's instructions are its own, its words are the tables' (printed by wip/p1/gen2.py)
set_option maxRecDepth 100000 in
theorem q_c0 : q_mB1 q_T q_M0 = true := by decide +kernel
set_option maxRecDepth 100000 in
theorem q_c1 : q_mB1 q_T q_M1 = true := by decide +kernel
set_option maxRecDepth 100000 in
theorem q_c2 : q_mB1 q_T q_M2 = true := by decide +kernel
set_option maxRecDepth 100000 in
theorem q_c3 : q_mB1 q_T q_M3 = true := by decide +kernel
set_option maxRecDepth 100000 in
theorem q_c4 : q_mB1 q_T q_M4 = true := by decide +kernel
set_option maxRecDepth 100000 in
theorem q_c6 : q_mB1 q_T q_M6 = true := by decide +kernel
set_option maxRecDepth 100000 in
theorem q_c7 : q_mB1 q_T q_M7 = true := by decide +kernel
set_option maxRecDepth 100000 in
theorem q_c8 : q_mB1 q_T q_M8 = true := by decide +kernel
set_option maxRecDepth 100000 in
theorem q_c10 : q_mB1 q_T q_M10 = true := by decide +kernel
set_option maxRecDepth 100000 in
theorem q_c14 : q_mB1 q_T q_M14 = true := by decide +kernel
set_option maxRecDepth 100000 in
theorem q_c16 : q_mB1 q_T q_M16 = true := by decide +kernel
set_option maxRecDepth 100000 in
theorem q_c17 : q_mB1 q_T q_M17 = true := by decide +kernel
set_option maxRecDepth 100000 in
theorem q_c20 : q_mB1 q_T q_M20 = true := by decide +kernel
set_option maxRecDepth 100000 in
theorem q_c21 : q_mB1 q_T q_M21 = true := by decide +kernel
set_option maxRecDepth 100000 in
theorem q_c24 : q_mB1 q_T q_M24 = true := by decide +kernel
set_option maxRecDepth 100000 in
theorem q_c25 : q_mB1 q_T q_M25 = true := by decide +kernel
set_option maxRecDepth 100000 in
theorem q_c33 : q_mB1 q_T q_M33 = true := by decide +kernel
set_option maxRecDepth 100000 in
theorem q_c34 : q_mB1 q_T q_M34 = true := by decide +kernel
set_option maxRecDepth 100000 in
theorem q_c36 : q_mB1 q_T q_M36 = true := by decide +kernel
set_option maxRecDepth 100000 in
theorem q_c37 : q_mB1 q_T q_M37 = true := by decide +kernel
set_option maxRecDepth 100000 in
theorem q_c39 : q_mB1 q_T q_M39 = true := by decide +kernel
set_option maxRecDepth 100000 in
theorem q_c40 : q_mB1 q_T q_M40 = true := by decide +kernel
set_option maxRecDepth 100000 in
theorem q_c41 : q_mB1 q_T q_M41 = true := by decide +kernel
set_option maxRecDepth 100000 in
theorem q_c42 : q_mB1 q_T q_M42 = true := by decide +kernel
set_option maxRecDepth 100000 in
theorem q_c43 : q_mB1 q_T q_M43 = true := by decide +kernel
set_option maxRecDepth 100000 in
theorem q_c46 : q_mB1 q_T q_M46 = true := by decide +kernel
set_option maxRecDepth 100000 in
theorem q_c47 : q_mB1 q_T q_M47 = true := by decide +kernel
set_option maxRecDepth 100000 in
theorem q_c48 : q_mB1 q_T q_M48 = true := by decide +kernel
set_option maxRecDepth 100000 in
theorem q_c49 : q_mB1 q_T q_M49 = true := by decide +kernel
