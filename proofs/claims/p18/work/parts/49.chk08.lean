-- 49.chk8: each method's instructions are its own, its words are the tables' (printed by wip/p5/gen3.py)
set_option maxRecDepth 100000 in
theorem q_c187 : q_mB1 q_T q_M187 = true := q_mB1_of (by decide +kernel)
set_option maxRecDepth 100000 in
theorem q_c188 : q_mB1 q_T q_M188 = true := q_mB1_of (by decide +kernel)
set_option maxRecDepth 100000 in
theorem q_c189 : q_mB1 q_T q_M189 = true := q_mB1_of (by decide +kernel)
set_option maxRecDepth 100000 in
theorem q_c190 : q_mB1 q_T q_M190 = true := q_mB1_of (by decide +kernel)
set_option maxRecDepth 100000 in
theorem q_c191 : q_mB1 q_T q_M191 = true := q_mB1_of (by decide +kernel)
set_option maxRecDepth 100000 in
theorem q_c192 : q_mB1 q_T q_M192 = true := q_mB1_of (by decide +kernel)
set_option maxRecDepth 100000 in
theorem q_c193 : q_mB1 q_T q_M193 = true := q_mB1_of (by decide +kernel)
set_option maxRecDepth 100000 in
theorem q_c194 : q_mB1 q_T q_M194 = true := q_mB1_of (by decide +kernel)
set_option maxRecDepth 100000 in
theorem q_c195 : q_mB1 q_T q_M195 = true := q_mB1_of (by decide +kernel)
set_option maxRecDepth 100000 in
theorem q_c196 : q_mB1 q_T q_M196 = true := q_mB1_of (by decide +kernel)
set_option maxRecDepth 100000 in
theorem q_c197 : q_mB1 q_T q_M197 = true := q_mB1_of (by decide +kernel)
set_option maxRecDepth 100000 in
theorem q_c198 : q_mB1 q_T q_M198 = true := q_mB1_of (by decide +kernel)
set_option maxRecDepth 100000 in
theorem q_c199 : q_mB1 q_T q_M199 = true := q_mB1_of (by decide +kernel)
set_option maxRecDepth 100000 in
theorem q_c200 : q_mB1 q_T q_M200 = true := q_mB1_of (by decide +kernel)
set_option maxRecDepth 100000 in
theorem q_c201 : q_mB1 q_T q_M201 = true := q_mB1_of (by decide +kernel)
set_option maxRecDepth 100000 in
theorem q_c202 : q_mB1 q_T q_M202 = true := q_mB1_of (by decide +kernel)
set_option maxRecDepth 100000 in
theorem q_c203 : q_mB1 q_T q_M203 = true := q_mB1_of (by decide +kernel)
set_option maxRecDepth 100000 in
theorem q_c204 : q_mB1 q_T q_M204 = true := q_mB1_of (by decide +kernel)
set_option maxRecDepth 100000 in
theorem q_c205 : q_mB1 q_T q_M205 = true := q_mB1_of (by decide +kernel)
set_option maxRecDepth 100000 in
theorem q_c206 : q_mB1 q_T q_M206 = true := q_mB1_of (by decide +kernel)
set_option maxRecDepth 100000 in
theorem q_c207 : q_mB1 q_T q_M207 = true := q_mB1_of (by decide +kernel)
set_option maxRecDepth 100000 in
theorem q_c208 : q_mB1 q_T q_M208 = true := q_mB1_of (by decide +kernel)
set_option maxRecDepth 100000 in
theorem q_c209 : q_mB1 q_T q_M209 = true := q_mB1_of (by decide +kernel)
set_option maxRecDepth 100000 in
theorem q_c210 : q_mB1 q_T q_M210 = true := q_mB1_of (by decide +kernel)
set_option maxRecDepth 100000 in
theorem q_c211 : q_mB1 q_T q_M211 = true := q_mB1_of (by decide +kernel)
set_option maxRecDepth 100000 in
theorem q_c212 : q_mB1 q_T q_M212 = true := q_mB1_of (by decide +kernel)
set_option maxRecDepth 100000 in
theorem q_c213 : q_mB1 q_T q_M213 = true := q_mB1_of (by decide +kernel)
