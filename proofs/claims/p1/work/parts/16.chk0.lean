-- 16.chk0: each method's instructions are its own, its words are the tables' (printed by wip/p1/gen2.py)
set_option maxRecDepth 100000 in
theorem q_c0 : q_mB1 q_T q_M0 = true := by decide +kernel
set_option maxRecDepth 100000 in
theorem q_c1 : q_mB1 q_T q_M1 = true := by decide +kernel
set_option maxRecDepth 100000 in
theorem q_c2 : q_mB1 q_T q_M2 = true := by decide +kernel
set_option maxRecDepth 100000 in
theorem q_c3 : q_mB1 q_T q_M3 = true := by decide +kernel
set_option maxRecDepth 100000 in
theorem q_c4 : q_mB1 q_T q_M4 = true := by decide +kernel
set_option maxRecDepth 100000 in
theorem q_c5 : q_mB1 q_T q_M5 = true := by decide +kernel
set_option maxRecDepth 100000 in
theorem q_c6 : q_mB1 q_T q_M6 = true := by decide +kernel
set_option maxRecDepth 100000 in
theorem q_c7 : q_mB1 q_T q_M7 = true := by decide +kernel
set_option maxRecDepth 100000 in
theorem q_c8 : q_mB1 q_T q_M8 = true := by decide +kernel
set_option maxRecDepth 100000 in
theorem q_c9 : q_mB1 q_T q_M9 = true := by decide +kernel
set_option maxRecDepth 100000 in
theorem q_c10 : q_mB1 q_T q_M10 = true := by decide +kernel
set_option maxRecDepth 100000 in
theorem q_c11 : q_mB1 q_T q_M11 = true := by decide +kernel
set_option maxRecDepth 100000 in
theorem q_c12 : q_mB1 q_T q_M12 = true := by decide +kernel
set_option maxRecDepth 100000 in
theorem q_c13 : q_mB1 q_T q_M13 = true := by decide +kernel
set_option maxRecDepth 100000 in
theorem q_c14 : q_mB1 q_T q_M14 = true := by decide +kernel
set_option maxRecDepth 100000 in
theorem q_c15 : q_mB1 q_T q_M15 = true := by decide +kernel
set_option maxRecDepth 100000 in
theorem q_c16 : q_mB1 q_T q_M16 = true := by decide +kernel
set_option maxRecDepth 100000 in
theorem q_c17 : q_mB1 q_T q_M17 = true := by decide +kernel
set_option maxRecDepth 100000 in
theorem q_c18 : q_mB1 q_T q_M18 = true := by decide +kernel
set_option maxRecDepth 100000 in
theorem q_c19 : q_mB1 q_T q_M19 = true := by decide +kernel
set_option maxRecDepth 100000 in
theorem q_c20 : q_mB1 q_T q_M20 = true := by decide +kernel
set_option maxRecDepth 100000 in
theorem q_c21 : q_mB1 q_T q_M21 = true := by decide +kernel
set_option maxRecDepth 100000 in
theorem q_c22 : q_mB1 q_T q_M22 = true := by decide +kernel
set_option maxRecDepth 100000 in
theorem q_c23 : q_mB1 q_T q_M23 = true := by decide +kernel
set_option maxRecDepth 100000 in
theorem q_c24 : q_mB1 q_T q_M24 = true := by decide +kernel
set_option maxRecDepth 100000 in
theorem q_c25 : q_mB1 q_T q_M25 = true := by decide +kernel
set_option maxRecDepth 100000 in
theorem q_c26 : q_mB1 q_T q_M26 = true := by decide +kernel
set_option maxRecDepth 100000 in
theorem q_c27 : q_mB1 q_T q_M27 = true := by decide +kernel
set_option maxRecDepth 100000 in
theorem q_c28 : q_mB1 q_T q_M28 = true := by decide +kernel
set_option maxRecDepth 100000 in
theorem q_c29 : q_mB1 q_T q_M29 = true := by decide +kernel
set_option maxRecDepth 100000 in
theorem q_c30 : q_mB1 q_T q_M30 = true := by decide +kernel
set_option maxRecDepth 100000 in
theorem q_c31 : q_mB1 q_T q_M31 = true := by decide +kernel
set_option maxRecDepth 100000 in
theorem q_c32 : q_mB1 q_T q_M32 = true := by decide +kernel
set_option maxRecDepth 100000 in
theorem q_c33 : q_mB1 q_T q_M33 = true := by decide +kernel
set_option maxRecDepth 100000 in
theorem q_c34 : q_mB1 q_T q_M34 = true := by decide +kernel
set_option maxRecDepth 100000 in
theorem q_c35 : q_mB1 q_T q_M35 = true := by decide +kernel
set_option maxRecDepth 100000 in
theorem q_c36 : q_mB1 q_T q_M36 = true := by decide +kernel
set_option maxRecDepth 100000 in
theorem q_c37 : q_mB1 q_T q_M37 = true := by decide +kernel
set_option maxRecDepth 100000 in
theorem q_c38 : q_mB1 q_T q_M38 = true := by decide +kernel
set_option maxRecDepth 100000 in
theorem q_c39 : q_mB1 q_T q_M39 = true := by decide +kernel
set_option maxRecDepth 100000 in
theorem q_c40 : q_mB1 q_T q_M40 = true := by decide +kernel
set_option maxRecDepth 100000 in
theorem q_c41 : q_mB1 q_T q_M41 = true := by decide +kernel
set_option maxRecDepth 100000 in
theorem q_c42 : q_mB1 q_T q_M42 = true := by decide +kernel
set_option maxRecDepth 100000 in
theorem q_c43 : q_mB1 q_T q_M43 = true := by decide +kernel
set_option maxRecDepth 100000 in
theorem q_c44 : q_mB1 q_T q_M44 = true := by decide +kernel
set_option maxRecDepth 100000 in
theorem q_c45 : q_mB1 q_T q_M45 = true := by decide +kernel
set_option maxRecDepth 100000 in
theorem q_c46 : q_mB1 q_T q_M46 = true := by decide +kernel
set_option maxRecDepth 100000 in
theorem q_c47 : q_mB1 q_T q_M47 = true := by decide +kernel
set_option maxRecDepth 100000 in
theorem q_c48 : q_mB1 q_T q_M48 = true := by decide +kernel
set_option maxRecDepth 100000 in
theorem q_c49 : q_mB1 q_T q_M49 = true := by decide +kernel
set_option maxRecDepth 100000 in
theorem q_c50 : q_mB1 q_T q_M50 = true := by decide +kernel
set_option maxRecDepth 100000 in
theorem q_c51 : q_mB1 q_T q_M51 = true := by decide +kernel
set_option maxRecDepth 100000 in
theorem q_c52 : q_mB1 q_T q_M52 = true := by decide +kernel
set_option maxRecDepth 100000 in
theorem q_c53 : q_mB1 q_T q_M53 = true := by decide +kernel
set_option maxRecDepth 100000 in
theorem q_c54 : q_mB1 q_T q_M54 = true := by decide +kernel
set_option maxRecDepth 100000 in
theorem q_c55 : q_mB1 q_T q_M55 = true := by decide +kernel
set_option maxRecDepth 100000 in
theorem q_c56 : q_mB1 q_T q_M56 = true := by decide +kernel
set_option maxRecDepth 100000 in
theorem q_c57 : q_mB1 q_T q_M57 = true := by decide +kernel
set_option maxRecDepth 100000 in
theorem q_c58 : q_mB1 q_T q_M58 = true := by decide +kernel
set_option maxRecDepth 100000 in
theorem q_c59 : q_mB1 q_T q_M59 = true := by decide +kernel
set_option maxRecDepth 100000 in
theorem q_c60 : q_mB1 q_T q_M60 = true := by decide +kernel
set_option maxRecDepth 100000 in
theorem q_c61 : q_mB1 q_T q_M61 = true := by decide +kernel
set_option maxRecDepth 100000 in
theorem q_c62 : q_mB1 q_T q_M62 = true := by decide +kernel
set_option maxRecDepth 100000 in
theorem q_c63 : q_mB1 q_T q_M63 = true := by decide +kernel
set_option maxRecDepth 100000 in
theorem q_c64 : q_mB1 q_T q_M64 = true := by decide +kernel
set_option maxRecDepth 100000 in
theorem q_c65 : q_mB1 q_T q_M65 = true := by decide +kernel
set_option maxRecDepth 100000 in
theorem q_c66 : q_mB1 q_T q_M66 = true := by decide +kernel
set_option maxRecDepth 100000 in
theorem q_c67 : q_mB1 q_T q_M67 = true := by decide +kernel
set_option maxRecDepth 100000 in
theorem q_c68 : q_mB1 q_T q_M68 = true := by decide +kernel
set_option maxRecDepth 100000 in
theorem q_c69 : q_mB1 q_T q_M69 = true := by decide +kernel
set_option maxRecDepth 100000 in
theorem q_c70 : q_mB1 q_T q_M70 = true := by decide +kernel
set_option maxRecDepth 100000 in
theorem q_c71 : q_mB1 q_T q_M71 = true := by decide +kernel
set_option maxRecDepth 100000 in
theorem q_c72 : q_mB1 q_T q_M72 = true := by decide +kernel
set_option maxRecDepth 100000 in
theorem q_c73 : q_mB1 q_T q_M73 = true := by decide +kernel
set_option maxRecDepth 100000 in
theorem q_c74 : q_mB1 q_T q_M74 = true := by decide +kernel
set_option maxRecDepth 100000 in
theorem q_c75 : q_mB1 q_T q_M75 = true := by decide +kernel
