-- 49.chk2: each method's instructions are its own, its words are the tables' (printed by wip/p5/gen3.py)
set_option maxRecDepth 100000 in
theorem q_c46 : q_mB1 q_T q_M46 = true := q_mB1_of (by decide +kernel)
set_option maxRecDepth 100000 in
theorem q_c47 : q_mB1 q_T q_M47 = true := q_mB1_of (by decide +kernel)
set_option maxRecDepth 100000 in
theorem q_c48 : q_mB1 q_T q_M48 = true := q_mB1_of (by decide +kernel)
set_option maxRecDepth 100000 in
theorem q_c49 : q_mB1 q_T q_M49 = true := q_mB1_of (by decide +kernel)
set_option maxRecDepth 100000 in
theorem q_c50 : q_mB1 q_T q_M50 = true := q_mB1_of (by decide +kernel)
set_option maxRecDepth 100000 in
theorem q_c51 : q_mB1 q_T q_M51 = true := q_mB1_of (by decide +kernel)
set_option maxRecDepth 100000 in
theorem q_c52 : q_mB1 q_T q_M52 = true := q_mB1_of (by decide +kernel)
set_option maxRecDepth 100000 in
theorem q_c53 : q_mB1 q_T q_M53 = true := q_mB1_of (by decide +kernel)
set_option maxRecDepth 100000 in
theorem q_c54 : q_mB1 q_T q_M54 = true := q_mB1_of (by decide +kernel)
set_option maxRecDepth 100000 in
theorem q_c55 : q_mB1 q_T q_M55 = true := q_mB1_of (by decide +kernel)
set_option maxRecDepth 100000 in
theorem q_c56 : q_mB1 q_T q_M56 = true := q_mB1_of (by decide +kernel)
set_option maxRecDepth 100000 in
theorem q_c57 : q_mB1 q_T q_M57 = true := q_mB1_of (by decide +kernel)
set_option maxRecDepth 100000 in
theorem q_c58 : q_mB1 q_T q_M58 = true := q_mB1_of (by decide +kernel)
set_option maxRecDepth 100000 in
theorem q_c59 : q_mB1 q_T q_M59 = true := q_mB1_of (by decide +kernel)
set_option maxRecDepth 100000 in
theorem q_c60 : q_mB1 q_T q_M60 = true := q_mB1_of (by decide +kernel)
set_option maxRecDepth 100000 in
theorem q_c61 : q_mB1 q_T q_M61 = true := q_mB1_of (by decide +kernel)
set_option maxRecDepth 100000 in
theorem q_c62 : q_mB1 q_T q_M62 = true := q_mB1_of (by decide +kernel)
set_option maxRecDepth 100000 in
theorem q_c63 : q_mB1 q_T q_M63 = true := q_mB1_of (by decide +kernel)
set_option maxRecDepth 100000 in
theorem q_c64 : q_mB1 q_T q_M64 = true := q_mB1_of (by decide +kernel)
set_option maxRecDepth 100000 in
theorem q_c65 : q_mB1 q_T q_M65 = true := q_mB1_of (by decide +kernel)
set_option maxRecDepth 100000 in
theorem q_c66 : q_mB1 q_T q_M66 = true := q_mB1_of (by decide +kernel)
set_option maxRecDepth 100000 in
theorem q_c67 : q_mB1 q_T q_M67 = true := q_mB1_of (by decide +kernel)
set_option maxRecDepth 100000 in
theorem q_c68 : q_mB1 q_T q_M68 = true := q_mB1_of (by decide +kernel)
set_option maxRecDepth 100000 in
theorem q_c69 : q_mB1 q_T q_M69 = true := q_mB1_of (by decide +kernel)
set_option maxRecDepth 100000 in
theorem q_c70 : q_mB1 q_T q_M70 = true := q_mB1_of (by decide +kernel)
set_option maxRecDepth 100000 in
theorem q_c71 : q_mB1 q_T q_M71 = true := q_mB1_of (by decide +kernel)
set_option maxRecDepth 100000 in
theorem q_c72 : q_mB1 q_T q_M72 = true := q_mB1_of (by decide +kernel)
