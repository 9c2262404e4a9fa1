-- 28.chk2: each method's instructions are its own, its words are the tables' (printed by wip/p1/gen2.py)
set_option maxRecDepth 100000 in
theorem q_c130 : q_mB1 q_T q_M130 = true := q_mB1_of (by decide +kernel)
set_option maxRecDepth 100000 in
theorem q_c131 : q_mB1 q_T q_M131 = true := q_mB1_of (by decide +kernel)
set_option maxRecDepth 100000 in
theorem q_c132 : q_mB1 q_T q_M132 = true := q_mB1_of (by decide +kernel)
set_option maxRecDepth 100000 in
theorem q_c133 : q_mB1 q_T q_M133 = true := q_mB1_of (by decide +kernel)
set_option maxRecDepth 100000 in
theorem q_c134 : q_mB1 q_T q_M134 = true := q_mB1_of (by decide +kernel)
set_option maxRecDepth 100000 in
theorem q_c135 : q_mB1 q_T q_M135 = true := q_mB1_of (by decide +kernel)
set_option maxRecDepth 100000 in
theorem q_c136 : q_mB1 q_T q_M136 = true := q_mB1_of (by decide +kernel)
set_option maxRecDepth 100000 in
theorem q_c137 : q_mB1 q_T q_M137 = true := q_mB1_of (by decide +kernel)
set_option maxRecDepth 100000 in
theorem q_c138 : q_mB1 q_T q_M138 = true := q_mB1_of (by decide +kernel)
set_option maxRecDepth 100000 in
theorem q_c139 : q_mB1 q_T q_M139 = true := q_mB1_of (by decide +kernel)
set_option maxRecDepth 100000 in
theorem q_c140 : q_mB1 q_T q_M140 = true := q_mB1_of (by decide +kernel)
set_option maxRecDepth 100000 in
theorem q_c141 : q_mB1 q_T q_M141 = true := q_mB1_of (by decide +kernel)
set_option maxRecDepth 100000 in
theorem q_c142 : q_mB1 q_T q_M142 = true := q_mB1_of (by decide +kernel)
set_option maxRecDepth 100000 in
theorem q_c143 : q_mB1 q_T q_M143 = true := q_mB1_of (by decide +kernel)
set_option maxRecDepth 100000 in
theorem q_c144 : q_mB1 q_T q_M144 = true := q_mB1_of (by decide +kernel)
set_option maxRecDepth 100000 in
theorem q_c145 : q_mB1 q_T q_M145 = true := q_mB1_of (by decide +kernel)
set_option maxRecDepth 100000 in
theorem q_c146 : q_mB1 q_T q_M146 = true := q_mB1_of (by decide +kernel)
set_option maxRecDepth 100000 in
theorem q_c147 : q_mB1 q_T q_M147 = true := q_mB1_of (by decide +kernel)
set_option maxRecDepth 100000 in
theorem q_c148 : q_mB1 q_T q_M148 = true := q_mB1_of (by decide +kernel)
set_option maxRecDepth 100000 in
theorem q_c149 : q_mB1 q_T q_M149 = true := q_mB1_of (by decide +kernel)
set_option maxRecDepth 100000 in
theorem q_c150 : q_mB1 q_T q_M150 = true := q_mB1_of (by decide +kernel)
set_option maxRecDepth 100000 in
theorem q_c151 : q_mB1 q_T q_M151 = true := q_mB1_of (by decide +kernel)
set_option maxRecDepth 100000 in
theorem q_c152 : q_mB1 q_T q_M152 = true := q_mB1_of (by decide +kernel)
set_option maxRecDepth 100000 in
theorem q_c153 : q_mB1 q_T q_M153 = true := q_mB1_of (by decide +kernel)
set_option maxRecDepth 100000 in
theorem q_c154 : q_mB1 q_T q_M154 = true := q_mB1_of (by decide +kernel)
set_option maxRecDepth 100000 in
theorem q_c155 : q_mB1 q_T q_M155 = true := q_mB1_of (by decide +kernel)
set_option maxRecDepth 100000 in
theorem q_c156 : q_mB1 q_T q_M156 = true := q_mB1_of (by decide +kernel)
set_option maxRecDepth 100000 in
theorem q_c157 : q_mB1 q_T q_M157 = true := q_mB1_of (by decide +kernel)
set_option maxRecDepth 100000 in
theorem q_c158 : q_mB1 q_T q_M158 = true := q_mB1_of (by decide +kernel)
set_option maxRecDepth 100000 in
theorem q_c159 : q_mB1 q_T q_M159 = true := q_mB1_of (by decide +kernel)
set_option maxRecDepth 100000 in
theorem q_c162 : q_mB1 q_T q_M162 = true := q_mB1_of (by decide +kernel)
set_option maxRecDepth 100000 in
theorem q_c163 : q_mB1 q_T q_M163 = true := q_mB1_of (by decide +kernel)
set_option maxRecDepth 100000 in
theorem q_c164 : q_mB1 q_T q_M164 = true := q_mB1_of (by decide +kernel)
set_option maxRecDepth 100000 in
theorem q_c165 : q_mB1 q_T q_M165 = true := q_mB1_of (by decide +kernel)
set_option maxRecDepth 100000 in
theorem q_c166 : q_mB1 q_T q_M166 = true := q_mB1_of (by decide +kernel)
set_option maxRecDepth 100000 in
theorem q_c167 : q_mB1 q_T q_M167 = true := q_mB1_of (by decide +kernel)
set_option maxRecDepth 100000 in
theorem q_c168 : q_mB1 q_T q_M168 = true := q_mB1_of (by decide +kernel)
set_option maxRecDepth 100000 in
theorem q_c169 : q_mB1 q_T q_M169 = true := q_mB1_of (by decide +kernel)
set_option maxRecDepth 100000 in
theorem q_c170 : q_mB1 q_T q_M170 = true := q_mB1_of (by decide +kernel)
set_option maxRecDepth 100000 in
theorem q_c171 : q_mB1 q_T q_M171 = true := q_mB1_of (by decide +kernel)
set_option maxRecDepth 100000 in
theorem q_c172 : q_mB1 q_T q_M172 = true := q_mB1_of (by decide +kernel)
set_option maxRecDepth 100000 in
theorem q_c173 : q_mB1 q_T q_M173 = true := q_mB1_of (by decide +kernel)
set_option maxRecDepth 100000 in
theorem q_c175 : q_mB1 q_T q_M175 = true := q_mB1_of (by decide +kernel)
set_option maxRecDepth 100000 in
theorem q_c176 : q_mB1 q_T q_M176 = true := q_mB1_of (by decide +kernel)
