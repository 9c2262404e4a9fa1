-- 16.chk1: each method's instructions are its own, its words are the tables' (printed by wip/p1/gen2.py)
set_option maxRecDepth 100000 in
theorem q_c76 : q_mB1 q_T q_M76 = true := by decide +kernel
set_option maxRecDepth 100000 in
theorem q_c77 : q_mB1 q_T q_M77 = true := by decide +kernel
set_option maxRecDepth 100000 in
theorem q_c78 : q_mB1 q_T q_M78 = true := by decide +kernel
set_option maxRecDepth 100000 in
theorem q_c79 : q_mB1 q_T q_M79 = true := by decide +kernel
set_option maxRecDepth 100000 in
theorem q_c80 : q_mB1 q_T q_M80 = true := by decide +kernel
set_option maxRecDepth 100000 in
theorem q_c81 : q_mB1 q_T q_M81 = true := by decide +kernel
set_option maxRecDepth 100000 in
theorem q_c82 : q_mB1 q_T q_M82 = true := by decide +kernel
set_option maxRecDepth 100000 in
theorem q_c83 : q_mB1 q_T q_M83 = true := by decide +kernel
set_option maxRecDepth 100000 in
theorem q_c84 : q_mB1 q_T q_M84 = true := by decide +kernel
set_option maxRecDepth 100000 in
theorem q_c85 : q_mB1 q_T q_M85 = true := by decide +kernel
set_option maxRecDepth 100000 in
theorem q_c86 : q_mB1 q_T q_M86 = true := by decide +kernel
set_option maxRecDepth 100000 in
theorem q_c87 : q_mB1 q_T q_M87 = true := by decide +kernel
set_option maxRecDepth 100000 in
theorem q_c88 : q_mB1 q_T q_M88 = true := by decide +kernel
set_option maxRecDepth 100000 in
theorem q_c89 : q_mB1 q_T q_M89 = true := by decide +kernel
set_option maxRecDepth 100000 in
theorem q_c90 : q_mB1 q_T q_M90 = true := by decide +kernel
set_option maxRecDepth 100000 in
theorem q_c91 : q_mB1 q_T q_M91 = true := by decide +kernel
set_option maxRecDepth 100000 in
theorem q_c92 : q_mB1 q_T q_M92 = true := by decide +kernel
set_option maxRecDepth 100000 in
theorem q_c93 : q_mB1 q_T q_M93 = true := by decide +kernel
set_option maxRecDepth 100000 in
theorem q_c94 : q_mB1 q_T q_M94 = true := by decide +kernel
set_option maxRecDepth 100000 in
theorem q_c95 : q_mB1 q_T q_M95 = true := by decide +kernel
set_option maxRecDepth 100000 in
theorem q_c96 : q_mB1 q_T q_M96 = true := by decide +kernel
set_option maxRecDepth 100000 in
theorem q_c97 : q_mB1 q_T q_M97 = true := by decide +kernel
set_option maxRecDepth 100000 in
theorem q_c98 : q_mB1 q_T q_M98 = true := by decide +kernel
set_option maxRecDepth 100000 in
theorem q_c99 : q_mB1 q_T q_M99 = true := by decide +kernel
set_option maxRecDepth 100000 in
theorem q_c100 : q_mB1 q_T q_M100 = true := by decide +kernel
set_option maxRecDepth 100000 in
theorem q_c101 : q_mB1 q_T q_M101 = true := by decide +kernel
set_option maxRecDepth 100000 in
theorem q_c102 : q_mB1 q_T q_M102 = true := by decide +kernel
set_option maxRecDepth 100000 in
theorem q_c103 : q_mB1 q_T q_M103 = true := by decide +kernel
set_option maxRecDepth 100000 in
theorem q_c104 : q_mB1 q_T q_M104 = true := by decide +kernel
set_option maxRecDepth 100000 in
theorem q_c105 : q_mB1 q_T q_M105 = true := by decide +kernel
set_option maxRecDepth 100000 in
theorem q_c106 : q_mB1 q_T q_M106 = true := by decide +kernel
set_option maxRecDepth 100000 in
theorem q_c107 : q_mB1 q_T q_M107 = true := by decide +kernel
set_option maxRecDepth 100000 in
theorem q_c108 : q_mB1 q_T q_M108 = true := by decide +kernel
set_option maxRecDepth 100000 in
theorem q_c109 : q_mB1 q_T q_M109 = true := by decide +kernel
set_option maxRecDepth 100000 in
theorem q_c110 : q_mB1 q_T q_M110 = true := by decide +kernel
set_option maxRecDepth 100000 in
theorem q_c111 : q_mB1 q_T q_M111 = true := by decide +kernel
set_option maxRecDepth 100000 in
theorem q_c112 : q_mB1 q_T q_M112 = true := by decide +kernel
set_option maxRecDepth 100000 in
theorem q_c113 : q_mB1 q_T q_M113 = true := by decide +kernel
set_option maxRecDepth 100000 in
theorem q_c114 : q_mB1 q_T q_M114 = true := by decide +kernel
set_option maxRecDepth 100000 in
theorem q_c115 : q_mB1 q_T q_M115 = true := by decide +kernel
set_option maxRecDepth 100000 in
theorem q_c116 : q_mB1 q_T q_M116 = true := by decide +kernel
set_option maxRecDepth 100000 in
theorem q_c117 : q_mB1 q_T q_M117 = true := by decide +kernel
set_option maxRecDepth 100000 in
theorem q_c118 : q_mB1 q_T q_M118 = true := by decide +kernel
set_option maxRecDepth 100000 in
theorem q_c119 : q_mB1 q_T q_M119 = true := by decide +kernel
set_option maxRecDepth 100000 in
theorem q_c120 : q_mB1 q_T q_M120 = true := by decide +kernel
set_option maxRecDepth 100000 in
theorem q_c121 : q_mB1 q_T q_M121 = true := by decide +kernel
set_option maxRecDepth 100000 in
theorem q_c122 : q_mB1 q_T q_M122 = true := by decide +kernel
set_option maxRecDepth 100000 in
theorem q_c123 : q_mB1 q_T q_M123 = true := by decide +kernel
set_option maxRecDepth 100000 in
theorem q_c124 : q_mB1 q_T q_M124 = true := by decide +kernel
set_option maxRecDepth 100000 in
theorem q_c125 : q_mB1 q_T q_M125 = true := by decide +kernel
set_option maxRecDepth 100000 in
theorem q_c126 : q_mB1 q_T q_M126 = true := by decide +kernel
set_option maxRecDepth 100000 in
theorem q_c127 : q_mB1 q_T q_M127 = true := by decide +kernel
set_option maxRecDepth 100000 in
theorem q_c128 : q_mB1 q_T q_M128 = true := by decide +kernel
set_option maxRecDepth 100000 in
theorem q_c129 : q_mB1 q_T q_M129 = true := by decide +kernel
set_option maxRecDepth 100000 in
theorem q_c130 : q_mB1 q_T q_M130 = true := by decide +kernel
set_option maxRecDepth 100000 in
theorem q_c131 : q_mB1 q_T q_M131 = true := by decide +kernel
set_option maxRecDepth 100000 in
theorem q_c132 : q_mB1 q_T q_M132 = true := by decide +kernel
set_option maxRecDepth 100000 in
theorem q_c133 : q_mB1 q_T q_M133 = true := by decide +kernel
set_option maxRecDepth 100000 in
theorem q_c134 : q_mB1 q_T q_M134 = true := by decide +kernel
set_option maxRecDepth 100000 in
theorem q_c135 : q_mB1 q_T q_M135 = true := by decide +kernel
set_option maxRecDepth 100000 in
theorem q_c136 : q_mB1 q_T q_M136 = true := by decide +kernel
set_option maxRecDepth 100000 in
theorem q_c137 : q_mB1 q_T q_M137 = true := by decide +kernel
set_option maxRecDepth 100000 in
theorem q_c138 : q_mB1 q_T q_M138 = true := by decide +kernel
set_option maxRecDepth 100000 in
theorem q_c139 : q_mB1 q_T q_M139 = true := by decide +kernel
set_option maxRecDepth 100000 in
theorem q_c140 : q_mB1 q_T q_M140 = true := by decide +kernel
set_option maxRecDepth 100000 in
theorem q_c141 : q_mB1 q_T q_M141 = true := by decide +kernel
set_option maxRecDepth 100000 in
theorem q_c142 : q_mB1 q_T q_M142 = true := by decide +kernel
set_option maxRecDepth 100000 in
theorem q_c143 : q_mB1 q_T q_M143 = true := by decide +kernel
set_option maxRecDepth 100000 in
theorem q_c144 : q_mB1 q_T q_M144 = true := by decide +kernel
set_option maxRecDepth 100000 in
theorem q_c145 : q_mB1 q_T q_M145 = true := by decide +kernel
set_option maxRecDepth 100000 in
theorem q_c146 : q_mB1 q_T q_M146 = true := by decide +kernel
set_option maxRecDepth 100000 in
theorem q_c147 : q_mB1 q_T q_M147 = true := by decide +kernel
set_option maxRecDepth 100000 in
theorem q_c148 : q_mB1 q_T q_M148 = true := by decide +kernel
set_option maxRecDepth 100000 in
theorem q_c149 : q_mB1 q_T q_M149 = true := by decide +kernel
set_option maxRecDepth 100000 in
theorem q_c150 : q_mB1 q_T q_M150 = true := by decide +kernel
set_option maxRecDepth 100000 in
theorem q_c151 : q_mB1 q_T q_M151 = true := by decide +kernel
set_option maxRecDepth 100000 in
theorem q_c152 : q_mB1 q_T q_M152 = true := by decide +kernel
set_option maxRecDepth 100000 in
theorem q_c153 : q_mB1 q_T q_M153 = true := by decide +kernel
