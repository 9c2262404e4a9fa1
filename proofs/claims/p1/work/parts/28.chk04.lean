-- 28.chk4: each method's instructions are its own, its words are the tables' (printed by wip/p1/gen2.py)
set_option maxRecDepth 100000 in
theorem q_c225 : q_mB1 q_T q_M225 = true := by decide +kernel
set_option maxRecDepth 100000 in
theorem q_c226 : q_mB1 q_T q_M226 = true := by decide +kernel
set_option maxRecDepth 100000 in
theorem q_c231 : q_mB1 q_T q_M231 = true := by decide +kernel
set_option maxRecDepth 100000 in
theorem q_c234 : q_mB1 q_T q_M234 = true := by decide +kernel
set_option maxRecDepth 100000 in
theorem q_c235 : q_mB1 q_T q_M235 = true := by decide +kernel
set_option maxRecDepth 100000 in
theorem q_c236 : q_mB1 q_T q_M236 = true := by decide +kernel
set_option maxRecDepth 100000 in
theorem q_c243 : q_mB1 q_T q_M243 = true := by decide +kernel
set_option maxRecDepth 100000 in
theorem q_c247 : q_mB1 q_T q_M247 = true := by decide +kernel
set_option maxRecDepth 100000 in
theorem q_c248 : q_mB1 q_T q_M248 = true := by decide +kernel
set_option maxRecDepth 100000 in
theorem q_c250 : q_mB1 q_T q_M250 = true := by decide +kernel
set_option maxRecDepth 100000 in
theorem q_c251 : q_mB1 q_T q_M251 = true := by decide +kernel
set_option maxRecDepth 100000 in
theorem q_c252 : q_mB1 q_T q_M252 = true := by decide +kernel
set_option maxRecDepth 100000 in
theorem q_c253 : q_mB1 q_T q_M253 = true := by decide +kernel
set_option maxRecDepth 100000 in
theorem q_c254 : q_mB1 q_T q_M254 = true := by decide +kernel
set_option maxRecDepth 100000 in
theorem q_c255 : q_mB1 q_T q_M255 = true := by decide +kernel
set_option maxRecDepth 100000 in
theorem q_c256 : q_mB1 q_T q_M256 = true := by decide +kernel
set_option maxRecDepth 100000 in
theorem q_c257 : q_mB1 q_T q_M257 = true := by decide +kernel
set_option maxRecDepth 100000 in
theorem q_c258 : q_mB1 q_T q_M258 = true := by decide +kernel
set_option maxRecDepth 100000 in
theorem q_c259 : q_mB1 q_T q_M259 = true := by decide +kernel
set_option maxRecDepth 100000 in
theorem q_c260 : q_mB1 q_T q_M260 = true := by decide +kernel
set_option maxRecDepth 100000 in
theorem q_c261 : q_mB1 q_T q_M261 = true := by decide +kernel
set_option maxRecDepth 100000 in
theorem q_c262 : q_mB1 q_T q_M262 = true := by decide +kernel
set_option maxRecDepth 100000 in
theorem q_c263 : q_mB1 q_T q_M263 = true := by decide +kernel
set_option maxRecDepth 100000 in
theorem q_c266 : q_mB1 q_T q_M266 = true := by decide +kernel
set_option maxRecDepth 100000 in
theorem q_c268 : q_mB1 q_T q_M268 = true := by decide +kernel
set_option maxRecDepth 100000 in
theorem q_c270 : q_mB1 q_T q_M270 = true := by decide +kernel
set_option maxRecDepth 100000 in
theorem q_c271 : q_mB1 q_T q_M271 = true := by decide +kernel
set_option maxRecDepth 100000 in
theorem q_c272 : q_mB1 q_T q_M272 = true := by decide +kernel
set_option maxRecDepth 100000 in
theorem q_c273 : q_mB1 q_T q_M273 = true := by decide +kernel
set_option maxRecDepth 100000 in
theorem q_c274 : q_mB1 q_T q_M274 = true := by decide +kernel
set_option maxRecDepth 100000 in
theorem q_c275 : q_mB1 q_T q_M275 = true := by decide +kernel
