-- 28.chk3: each method's instructions are its own, its words are the tables' (printed by wip/p1/gen2.py)
set_option maxRecDepth 100000 in
theorem q_c166 : q_mB1 q_T q_M166 = true := by decide +kernel
set_option maxRecDepth 100000 in
theorem q_c167 : q_mB1 q_T q_M167 = true := by decide +kernel
set_option maxRecDepth 100000 in
theorem q_c168 : q_mB1 q_T q_M168 = true := by decide +kernel
set_option maxRecDepth 100000 in
theorem q_c169 : q_mB1 q_T q_M169 = true := by decide +kernel
set_option maxRecDepth 100000 in
theorem q_c170 : q_mB1 q_T q_M170 = true := by decide +kernel
set_option maxRecDepth 100000 in
theorem q_c171 : q_mB1 q_T q_M171 = true := by decide +kernel
set_option maxRecDepth 100000 in
theorem q_c172 : q_mB1 q_T q_M172 = true := by decide +kernel
set_option maxRecDepth 100000 in
theorem q_c173 : q_mB1 q_T q_M173 = true := by decide +kernel
set_option maxRecDepth 100000 in
theorem q_c175 : q_mB1 q_T q_M175 = true := by decide +kernel
set_option maxRecDepth 100000 in
theorem q_c176 : q_mB1 q_T q_M176 = true := by decide +kernel
set_option maxRecDepth 100000 in
theorem q_c177 : q_mB1 q_T q_M177 = true := by decide +kernel
set_option maxRecDepth 100000 in
theorem q_c178 : q_mB1 q_T q_M178 = true := by decide +kernel
set_option maxRecDepth 100000 in
theorem q_c179 : q_mB1 q_T q_M179 = true := by decide +kernel
set_option maxRecDepth 100000 in
theorem q_c180 : q_mB1 q_T q_M180 = true := by decide +kernel
set_option maxRecDepth 100000 in
theorem q_c181 : q_mB1 q_T q_M181 = true := by decide +kernel
set_option maxRecDepth 100000 in
theorem q_c182 : q_mB1 q_T q_M182 = true := by decide +kernel
set_option maxRecDepth 100000 in
theorem q_c183 : q_mB1 q_T q_M183 = true := by decide +kernel
set_option maxRecDepth 100000 in
theorem q_c186 : q_mB1 q_T q_M186 = true := by decide +kernel
set_option maxRecDepth 100000 in
theorem q_c187 : q_mB1 q_T q_M187 = true := by decide +kernel
set_option maxRecDepth 100000 in
theorem q_c188 : q_mB1 q_T q_M188 = true := by decide +kernel
set_option maxRecDepth 100000 in
theorem q_c189 : q_mB1 q_T q_M189 = true := by decide +kernel
set_option maxRecDepth 100000 in
theorem q_c190 : q_mB1 q_T q_M190 = true := by decide +kernel
set_option maxRecDepth 100000 in
theorem q_c191 : q_mB1 q_T q_M191 = true := by decide +kernel
set_option maxRecDepth 100000 in
theorem q_c193 : q_mB1 q_T q_M193 = true := by decide +kernel
set_option maxRecDepth 100000 in
theorem q_c198 : q_mB1 q_T q_M198 = true := by decide +kernel
set_option maxRecDepth 100000 in
theorem q_c199 : q_mB1 q_T q_M199 = true := by decide +kernel
set_option maxRecDepth 100000 in
theorem q_c200 : q_mB1 q_T q_M200 = true := by decide +kernel
set_option maxRecDepth 100000 in
theorem q_c201 : q_mB1 q_T q_M201 = true := by decide +kernel
set_option maxRecDepth 100000 in
theorem q_c202 : q_mB1 q_T q_M202 = true := by decide +kernel
set_option maxRecDepth 100000 in
theorem q_c203 : q_mB1 q_T q_M203 = true := by decide +kernel
set_option maxRecDepth 100000 in
theorem q_c217 : q_mB1 q_T q_M217 = true := by decide +kernel
set_option maxRecDepth 100000 in
theorem q_c218 : q_mB1 q_T q_M218 = true := by decide +kernel
set_option maxRecDepth 100000 in
theorem q_c219 : q_mB1 q_T q_M219 = true := by decide +kernel
set_option maxRecDepth 100000 in
theorem q_c220 : q_mB1 q_T q_M220 = true := by decide +kernel
set_option maxRecDepth 100000 in
theorem q_c221 : q_mB1 q_T q_M221 = true := by decide +kernel
set_option maxRecDepth 100000 in
theorem q_c222 : q_mB1 q_T q_M222 = true := by decide +kernel
set_option maxRecDepth 100000 in
theorem q_c223 : q_mB1 q_T q_M223 = true := by decide +kernel
set_option maxRecDepth 100000 in
theorem q_c224 : q_mB1 q_T q_M224 = true := by decide +kernel
