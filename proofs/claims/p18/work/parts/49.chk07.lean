-- 49.chk7: each method's instructions are its own, its words are the tables' (printed by wip/p5/gen3.py)
set_option maxRecDepth 100000 in
theorem q_c165 : q_mB1 q_T q_M165 = true := q_mB1_of (by decide +kernel)
set_option maxRecDepth 100000 in
theorem q_c166 : q_mB1 q_T q_M166 = true := q_mB1_of (by decide +kernel)
set_option maxRecDepth 100000 in
theorem q_c167 : q_mB1 q_T q_M167 = true := q_mB1_of (by decide +kernel)
set_option maxRecDepth 100000 in
theorem q_c168 : q_mB1 q_T q_M168 = true := q_mB1_of (by decide +kernel)
set_option maxRecDepth 100000 in
theorem q_c169 : q_mB1 q_T q_M169 = true := q_mB1_of (by decide +kernel)
set_option maxRecDepth 100000 in
theorem q_c170 : q_mB1 q_T q_M170 = true := q_mB1_of (by decide +kernel)
set_option maxRecDepth 100000 in
theorem q_c171 : q_mB1 q_T q_M171 = true := q_mB1_of (by decide +kernel)
set_option maxRecDepth 100000 in
theorem q_c172 : q_mB1 q_T q_M172 = true := q_mB1_of (by decide +kernel)
set_option maxRecDepth 100000 in
theorem q_c173 : q_mB1 q_T q_M173 = true := q_mB1_of (by decide +kernel)
set_option maxRecDepth 100000 in
theorem q_c174 : q_mB1 q_T q_M174 = true := q_mB1_of (by decide +kernel)
set_option maxRecDepth 100000 in
theorem q_c175 : q_mB1 q_T q_M175 = true := q_mB1_of (by decide +kernel)
set_option maxRecDepth 100000 in
theorem q_c176 : q_mB1 q_T q_M176 = true := q_mB1_of (by decide +kernel)
set_option maxRecDepth 100000 in
theorem q_c177 : q_mB1 q_T q_M177 = true := q_mB1_of (by decide +kernel)
set_option maxRecDepth 100000 in
theorem q_c178 : q_mB1 q_T q_M178 = true := q_mB1_of (by decide +kernel)
set_option maxRecDepth 100000 in
theorem q_c179 : q_mB1 q_T q_M179 = true := q_mB1_of (by decide +kernel)
set_option maxRecDepth 100000 in
theorem q_c180 : q_mB1 q_T q_M180 = true := q_mB1_of (by decide +kernel)
set_option maxRecDepth 100000 in
theorem q_c181 : q_mB1 q_T q_M181 = true := q_mB1_of (by decide +kernel)
set_option maxRecDepth 100000 in
theorem q_c182 : q_mB1 q_T q_M182 = true := q_mB1_of (by decide +kernel)
set_option maxRecDepth 100000 in
theorem q_c183 : q_mB1 q_T q_M183 = true := q_mB1_of (by decide +kernel)
set_option maxRecDepth 100000 in
theorem q_c184 : q_mB1 q_T q_M184 = true := q_mB1_of (by decide +kernel)
set_option maxRecDepth 100000 in
theorem q_c185 : q_mB1 q_T q_M185 = true := q_mB1_of (by decide +kernel)
set_option maxRecDepth 100000 in
theorem q_c186 : q_mB1 q_T q_M186 = true := q_mB1_of (by decide +kernel)
