-- 28.chk3: each method's instructions are its own, its words are the tables' (printed by wip/p1/gen2.py)
set_option maxRecDepth 100000 in
theorem q_c177 : q_mB1 q_T q_M177 = true := q_mB1_of (by decide +kernel)
set_option maxRecDepth 100000 in
theorem q_c178 : q_mB1 q_T q_M178 = true := q_mB1_of (by decide +kernel)
set_option maxRecDepth 100000 in
theorem q_c179 : q_mB1 q_T q_M179 = true := q_mB1_of (by decide +kernel)
set_option maxRecDepth 100000 in
theorem q_c180 : q_mB1 q_T q_M180 = true := q_mB1_of (by decide +kernel)
set_option maxRecDepth 100000 in
theorem q_c181 : q_mB1 q_T q_M181 = true := q_mB1_of (by decide +kernel)
set_option maxRecDepth 100000 in
theorem q_c182 : q_mB1 q_T q_M182 = true := q_mB1_of (by decide +kernel)
set_option maxRecDepth 100000 in
theorem q_c183 : q_mB1 q_T q_M183 = true := q_mB1_of (by decide +kernel)
set_option maxRecDepth 100000 in
theorem q_c186 : q_mB1 q_T q_M186 = true := q_mB1_of (by decide +kernel)
set_option maxRecDepth 100000 in
theorem q_c187 : q_mB1 q_T q_M187 = true := q_mB1_of (by decide +kernel)
set_option maxRecDepth 100000 in
theorem q_c188 : q_mB1 q_T q_M188 = true := q_mB1_of (by decide +kernel)
set_option maxRecDepth 100000 in
theorem q_c189 : q_mB1 q_T q_M189 = true := q_mB1_of (by decide +kernel)
set_option maxRecDepth 100000 in
theorem q_c190 : q_mB1 q_T q_M190 = true := q_mB1_of (by decide +kernel)
set_option maxRecDepth 100000 in
theorem q_c191 : q_mB1 q_T q_M191 = true := q_mB1_of (by decide +kernel)
set_option maxRecDepth 100000 in
theorem q_c193 : q_mB1 q_T q_M193 = true := q_mB1_of (by decide +kernel)
set_option maxRecDepth 100000 in
theorem q_c198 : q_mB1 q_T q_M198 = true := q_mB1_of (by decide +kernel)
set_option maxRecDepth 100000 in
theorem q_c199 : q_mB1 q_T q_M199 = true := q_mB1_of (by decide +kernel)
set_option maxRecDepth 100000 in
theorem q_c200 : q_mB1 q_T q_M200 = true := q_mB1_of (by decide +kernel)
set_option maxRecDepth 100000 in
theorem q_c201 : q_mB1 q_T q_M201 = true := q_mB1_of (by decide +kernel)
set_option maxRecDepth 100000 in
theorem q_c202 : q_mB1 q_T q_M202 = true := q_mB1_of (by decide +kernel)
set_option maxRecDepth 100000 in
theorem q_c203 : q_mB1 q_T q_M203 = true := q_mB1_of (by decide +kernel)
set_option maxRecDepth 100000 in
theorem q_c217 : q_mB1 q_T q_M217 = true := q_mB1_of (by decide +kernel)
set_option maxRecDepth 100000 in
theorem q_c218 : q_mB1 q_T q_M218 = true := q_mB1_of (by decide +kernel)
set_option maxRecDepth 100000 in
theorem q_c219 : q_mB1 q_T q_M219 = true := q_mB1_of (by decide +kernel)
set_option maxRecDepth 100000 in
theorem q_c220 : q_mB1 q_T q_M220 = true := q_mB1_of (by decide +kernel)
set_option maxRecDepth 100000 in
theorem q_c221 : q_mB1 q_T q_M221 = true := q_mB1_of (by decide +kernel)
set_option maxRecDepth 100000 in
theorem q_c222 : q_mB1 q_T q_M222 = true := q_mB1_of (by decide +kernel)
set_option maxRecDepth 100000 in
theorem q_c223 : q_mB1 q_T q_M223 = true := q_mB1_of (by decide +kernel)
set_option maxRecDepth 100000 in
theorem q_c224 : q_mB1 q_T q_M224 = true := q_mB1_of (by decide +kernel)
set_option maxRecDepth 100000 in
theorem q_c225 : q_mB1 q_T q_M225 = true := q_mB1_of (by decide +kernel)
set_option maxRecDepth 100000 in
theorem q_c226 : q_mB1 q_T q_M226 = true := q_mB1_of (by decide +kernel)
set_option maxRecDepth 100000 in
theorem q_c231 : q_mB1 q_T q_M231 = true := q_mB1_of (by decide +kernel)
set_option maxRecDepth 100000 in
theorem q_c234 : q_mB1 q_T q_M234 = true := q_mB1_of (by decide +kernel)
set_option maxRecDepth 100000 in
theorem q_c235 : q_mB1 q_T q_M235 = true := q_mB1_of (by decide +kernel)
set_option maxRecDepth 100000 in
theorem q_c236 : q_mB1 q_T q_M236 = true := q_mB1_of (by decide +kernel)
set_option maxRecDepth 100000 in
theorem q_c243 : q_mB1 q_T q_M243 = true := q_mB1_of (by decide +kernel)
set_option maxRecDepth 100000 in
theorem q_c247 : q_mB1 q_T q_M247 = true := q_mB1_of (by decide +kernel)
