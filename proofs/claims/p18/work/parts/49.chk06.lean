-- 49.chk6: each method's instructions are its own, its words are the tables' (printed by wip/p5/gen3.py)
set_option maxRecDepth 100000 in
theorem q_c143 : q_mB1 q_T q_M143 = true := q_mB1_of (by decide +kernel)
set_option maxRecDepth 100000 in
theorem q_c144 : q_mB1 q_T q_M144 = true := q_mB1_of (by decide +kernel)
set_option maxRecDepth 100000 in
theorem q_c145 : q_mB1 q_T q_M145 = true := q_mB1_of (by decide +kernel)
set_option maxRecDepth 100000 in
theorem q_c146 : q_mB1 q_T q_M146 = true := q_mB1_of (by decide +kernel)
set_option maxRecDepth 100000 in
theorem q_c147 : q_mB1 q_T q_M147 = true := q_mB1_of (by decide +kernel)
set_option maxRecDepth 100000 in
theorem q_c148 : q_mB1 q_T q_M148 = true := q_mB1_of (by decide +kernel)
set_option maxRecDepth 100000 in
theorem q_c149 : q_mB1 q_T q_M149 = true := q_mB1_of (by decide +kernel)
set_option maxRecDepth 100000 in
theorem q_c150 : q_mB1 q_T q_M150 = true := q_mB1_of (by decide +kernel)
set_option maxRecDepth 100000 in
theorem q_c151 : q_mB1 q_T q_M151 = true := q_mB1_of (by decide +kernel)
set_option maxRecDepth 100000 in
theorem q_c152 : q_mB1 q_T q_M152 = true := q_mB1_of (by decide +kernel)
set_option maxRecDepth 100000 in
theorem q_c153 : q_mB1 q_T q_M153 = true := q_mB1_of (by decide +kernel)
set_option maxRecDepth 100000 in
theorem q_c154 : q_mB1 q_T q_M154 = true := q_mB1_of (by decide +kernel)
set_option maxRecDepth 100000 in
theorem q_c155 : q_mB1 q_T q_M155 = true := q_mB1_of (by decide +kernel)
set_option maxRecDepth 100000 in
theorem q_c156 : q_mB1 q_T q_M156 = true := q_mB1_of (by decide +kernel)
set_option maxRecDepth 100000 in
theorem q_c157 : q_mB1 q_T q_M157 = true := q_mB1_of (by decide +kernel)
set_option maxRecDepth 100000 in
theorem q_c158 : q_mB1 q_T q_M158 = true := q_mB1_of (by decide +kernel)
set_option maxRecDepth 100000 in
theorem q_c159 : q_mB1 q_T q_M159 = true := q_mB1_of (by decide +kernel)
set_option maxRecDepth 100000 in
theorem q_c160 : q_mB1 q_T q_M160 = true := q_mB1_of (by decide +kernel)
set_option maxRecDepth 100000 in
theorem q_c161 : q_mB1 q_T q_M161 = true := q_mB1_of (by decide +kernel)
set_option maxRecDepth 100000 in
theorem q_c162 : q_mB1 q_T q_M162 = true := q_mB1_of (by decide +kernel)
set_option maxRecDepth 100000 in
theorem q_c163 : q_mB1 q_T q_M163 = true := q_mB1_of (by decide +kernel)
set_option maxRecDepth 100000 in
theorem q_c164 : q_mB1 q_T q_M164 = true := q_mB1_of (by decide +kernel)
