-- 49.chk1: each method's instructions are its own, its words are the tables' (printed by wip/p5/gen3.py)
set_option maxRecDepth 100000 in
theorem q_c21 : q_mB1 q_T q_M21 = true := q_mB1_of (by decide +kernel)
set_option maxRecDepth 100000 in
theorem q_c22 : q_mB1 q_T q_M22 = true := q_mB1_of (by decide +kernel)
set_option maxRecDepth 100000 in
theorem q_c23 : q_mB1 q_T q_M23 = true := q_mB1_of (by decide +kernel)
set_option maxRecDepth 100000 in
theorem q_c24 : q_mB1 q_T q_M24 = true := q_mB1_of (by decide +kernel)
set_option maxRecDepth 100000 in
theorem q_c25 : q_mB1 q_T q_M25 = true := q_mB1_of (by decide +kernel)
set_option maxRecDepth 100000 in
theorem q_c26 : q_mB1 q_T q_M26 = true := q_mB1_of (by decide +kernel)
set_option maxRecDepth 100000 in
theorem q_c27 : q_mB1 q_T q_M27 = true := q_mB1_of (by decide +kernel)
set_option maxRecDepth 100000 in
theorem q_c28 : q_mB1 q_T q_M28 = true := q_mB1_of (by decide +kernel)
set_option maxRecDepth 100000 in
theorem q_c29 : q_mB1 q_T q_M29 = true := q_mB1_of (by decide +kernel)
set_option maxRecDepth 100000 in
theorem q_c30 : q_mB1 q_T q_M30 = true := q_mB1_of (by decide +kernel)
set_option maxRecDepth 100000 in
theorem q_c31 : q_mB1 q_T q_M31 = true := q_mB1_of (by decide +kernel)
set_option maxRecDepth 100000 in
theorem q_c32 : q_mB1 q_T q_M32 = true := q_mB1_of (by decide +kernel)
set_option maxRecDepth 100000 in
theorem q_c33 : q_mB1 q_T q_M33 = true := q_mB1_of (by decide +kernel)
set_option maxRecDepth 100000 in
theorem q_c34 : q_mB1 q_T q_M34 = true := q_mB1_of (by decide +kernel)
set_option maxRecDepth 100000 in
theorem q_c35 : q_mB1 q_T q_M35 = true := q_mB1_of (by decide +kernel)
set_option maxRecDepth 100000 in
theorem q_c36 : q_mB1 q_T q_M36 = true := q_mB1_of (by decide +kernel)
set_option maxRecDepth 100000 in
theorem q_c37 : q_mB1 q_T q_M37 = true := q_mB1_of (by decide +kernel)
set_option maxRecDepth 100000 in
theorem q_c38 : q_mB1 q_T q_M38 = true := q_mB1_of (by decide +kernel)
set_option maxRecDepth 100000 in
theorem q_c39 : q_mB1 q_T q_M39 = true := q_mB1_of (by decide +kernel)
set_option maxRecDepth 100000 in
theorem q_c40 : q_mB1 q_T q_M40 = true := q_mB1_of (by decide +kernel)
set_option maxRecDepth 100000 in
theorem q_c41 : q_mB1 q_T q_M41 = true := q_mB1_of (by decide +kernel)
set_option maxRecDepth 100000 in
theorem q_c42 : q_mB1 q_T q_M42 = true := q_mB1_of (by decide +kernel)
set_option maxRecDepth 100000 in
theorem q_c43 : q_mB1 q_T q_M43 = true := q_mB1_of (by decide +kernel)
set_option maxRecDepth 100000 in
theorem q_c44 : q_mB1 q_T q_M44 = true := q_mB1_of (by decide +kernel)
set_option maxRecDepth 100000 in
theorem q_c45 : q_mB1 q_T q_M45 = true := q_mB1_of (by decide +kernel)
