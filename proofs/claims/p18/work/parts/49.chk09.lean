-- 49.chk9: each method's instructions are its own, its words are the tables' (printed by wip/p5/gen3.py)
set_option maxRecDepth 100000 in
theorem q_c214 : q_mB1 q_T q_M214 = true := q_mB1_of (by decide +kernel)
set_option maxRecDepth 100000 in
theorem q_c215 : q_mB1 q_T q_M215 = true := q_mB1_of (by decide +kernel)
set_option maxRecDepth 100000 in
theorem q_c216 : q_mB1 q_T q_M216 = true := q_mB1_of (by decide +kernel)
set_option maxRecDepth 100000 in
theorem q_c217 : q_mB1 q_T q_M217 = true := q_mB1_of (by decide +kernel)
set_option maxRecDepth 100000 in
theorem q_c218 : q_mB1 q_T q_M218 = true := q_mB1_of (by decide +kernel)
set_option maxRecDepth 100000 in
theorem q_c219 : q_mB1 q_T q_M219 = true := q_mB1_of (by decide +kernel)
set_option maxRecDepth 100000 in
theorem q_c220 : q_mB1 q_T q_M220 = true := q_mB1_of (by decide +kernel)
set_option maxRecDepth 100000 in
theorem q_c221 : q_mB1 q_T q_M221 = true := q_mB1_of (by decide +kernel)
set_option maxRecDepth 100000 in
theorem q_c222 : q_mB1 q_T q_M222 = true := q_mB1_of (by decide +kernel)
set_option maxRecDepth 100000 in
theorem q_c223 : q_mB1 q_T q_M223 = true := q_mB1_of (by decide +kernel)
set_option maxRecDepth 100000 in
theorem q_c224 : q_mB1 q_T q_M224 = true := q_mB1_of (by decide +kernel)
set_option maxRecDepth 100000 in
theorem q_c225 : q_mB1 q_T q_M225 = true := q_mB1_of (by decide +kernel)
set_option maxRecDepth 100000 in
theorem q_c226 : q_mB1 q_T q_M226 = true := q_mB1_of (by decide +kernel)
set_option maxRecDepth 100000 in
theorem q_c227 : q_mB1 q_T q_M227 = true := q_mB1_of (by decide +kernel)
set_option maxRecDepth 100000 in
theorem q_c228 : q_mB1 q_T q_M228 = true := q_mB1_of (by decide +kernel)
set_option maxRecDepth 100000 in
theorem q_c229 : q_mB1 q_T q_M229 = true := q_mB1_of (by decide +kernel)
set_option maxRecDepth 100000 in
theorem q_c230 : q_mB1 q_T q_M230 = true := q_mB1_of (by decide +kernel)
