-- 16.chk2: each method's instructions are its own, its words are the tables' (printed by wip/p1/gen2.py)
set_option maxRecDepth 100000 in
theorem q_c154 : q_mB1 q_T q_M154 = true := by decide +kernel
set_option maxRecDepth 100000 in
theorem q_c155 : q_mB1 q_T q_M155 = true := by decide +kernel
set_option maxRecDepth 100000 in
theorem q_c156 : q_mB1 q_T q_M156 = true := by decide +kernel
set_option maxRecDepth 100000 in
theorem q_c157 : q_mB1 q_T q_M157 = true := by decide +kernel
set_option maxRecDepth 100000 in
theorem q_c158 : q_mB1 q_T q_M158 = true := by decide +kernel
set_option maxRecDepth 100000 in
theorem q_c159 : q_mB1 q_T q_M159 = true := by decide +kernel
set_option maxRecDepth 100000 in
theorem q_c160 : q_mB1 q_T q_M160 = true := by decide +kernel
set_option maxRecDepth 100000 in
theorem q_c161 : q_mB1 q_T q_M161 = true := by decide +kernel
set_option maxRecDepth 100000 in
theorem q_c162 : q_mB1 q_T q_M162 = true := by decide +kernel
set_option maxRecDepth 100000 in
theorem q_c163 : q_mB1 q_T q_M163 = true := by decide +kernel
set_option maxRecDepth 100000 in
theorem q_c164 : q_mB1 q_T q_M164 = true := by decide +kernel
set_option maxRecDepth 100000 in
theorem q_c165 : q_mB1 q_T q_M165 = true := by decide +kernel
set_option maxRecDepth 100000 in
theorem q_c166 : q_mB1 q_T q_M166 = true := by decide +kernel
set_option maxRecDepth 100000 in
theorem q_c167 : q_mB1 q_T q_M167 = true := by decide +kernel
set_option maxRecDepth 100000 in
theorem q_c168 : q_mB1 q_T q_M168 = true := by decide +kernel
set_option maxRecDepth 100000 in
theorem q_c169 : q_mB1 q_T q_M169 = true := by decide +kernel
set_option maxRecDepth 100000 in
theorem q_c170 : q_mB1 q_T q_M170 = true := by decide +kernel
set_option maxRecDepth 100000 in
theorem q_c171 : q_mB1 q_T q_M171 = true := by decide +kernel
set_option maxRecDepth 100000 in
theorem q_c172 : q_mB1 q_T q_M172 = true := by decide +kernel
set_option maxRecDepth 100000 in
theorem q_c173 : q_mB1 q_T q_M173 = true := by decide +kernel
set_option maxRecDepth 100000 in
theorem q_c174 : q_mB1 q_T q_M174 = true := by decide +kernel
set_option maxRecDepth 100000 in
theorem q_c175 : q_mB1 q_T q_M175 = true := by decide +kernel
set_option maxRecDepth 100000 in
theorem q_c176 : q_mB1 q_T q_M176 = true := by decide +kernel
set_option maxRecDepth 100000 in
theorem q_c177 : q_mB1 q_T q_M177 = true := by decide +kernel
set_option maxRecDepth 100000 in
theorem q_c178 : q_mB1 q_T q_M178 = true := by decide +kernel
set_option maxRecDepth 100000 in
theorem q_c179 : q_mB1 q_T q_M179 = true := by decide +kernel
set_option maxRecDepth 100000 in
theorem q_c180 : q_mB1 q_T q_M180 = true := by decide +kernel
set_option maxRecDepth 100000 in
theorem q_c181 : q_mB1 q_T q_M181 = true := by decide +kernel
set_option maxRecDepth 100000 in
theorem q_c182 : q_mB1 q_T q_M182 = true := by decide +kernel
set_option maxRecDepth 100000 in
theorem q_c183 : q_mB1 q_T q_M183 = true := by decide +kernel
set_option maxRecDepth 100000 in
theorem q_c184 : q_mB1 q_T q_M184 = true := by decide +kernel
set_option maxRecDepth 100000 in
theorem q_c185 : q_mB1 q_T q_M185 = true := by decide +kernel
set_option maxRecDepth 100000 in
theorem q_c186 : q_mB1 q_T q_M186 = true := by decide +kernel
set_option maxRecDepth 100000 in
theorem q_c187 : q_mB1 q_T q_M187 = true := by decide +kernel
set_option maxRecDepth 100000 in
theorem q_c188 : q_mB1 q_T q_M188 = true := by decide +kernel
set_option maxRecDepth 100000 in
theorem q_c189 : q_mB1 q_T q_M189 = true := by decide +kernel
set_option maxRecDepth 100000 in
theorem q_c190 : q_mB1 q_T q_M190 = true := by decide +kernel
set_option maxRecDepth 100000 in
theorem q_c191 : q_mB1 q_T q_M191 = true := by decide +kernel
set_option maxRecDepth 100000 in
theorem q_c192 : q_mB1 q_T q_M192 = true := by decide +kernel
set_option maxRecDepth 100000 in
theorem q_c193 : q_mB1 q_T q_M193 = true := by decide +kernel
set_option maxRecDepth 100000 in
theorem q_c194 : q_mB1 q_T q_M194 = true := by decide +kernel
set_option maxRecDepth 100000 in
theorem q_c195 : q_mB1 q_T q_M195 = true := by decide +kernel
set_option maxRecDepth 100000 in
theorem q_c196 : q_mB1 q_T q_M196 = true := by decide +kernel
set_option maxRecDepth 100000 in
theorem q_c197 : q_mB1 q_T q_M197 = true := by decide +kernel
set_option maxRecDepth 100000 in
theorem q_c198 : q_mB1 q_T q_M198 = true := by decide +kernel
set_option maxRecDepth 100000 in
theorem q_c199 : q_mB1 q_T q_M199 = true := by decide +kernel
set_option maxRecDepth 100000 in
theorem q_c200 : q_mB1 q_T q_M200 = true := by decide +kernel
set_option maxRecDepth 100000 in
theorem q_c201 : q_mB1 q_T q_M201 = true := by decide +kernel
set_option maxRecDepth 100000 in
theorem q_c202 : q_mB1 q_T q_M202 = true := by decide +kernel
set_option maxRecDepth 100000 in
theorem q_c203 : q_mB1 q_T q_M203 = true := by decide +kernel
set_option maxRecDepth 100000 in
theorem q_c204 : q_mB1 q_T q_M204 = true := by decide +kernel
set_option maxRecDepth 100000 in
theorem q_c205 : q_mB1 q_T q_M205 = true := by decide +kernel
set_option maxRecDepth 100000 in
theorem q_c206 : q_mB1 q_T q_M206 = true := by decide +kernel
set_option maxRecDepth 100000 in
theorem q_c207 : q_mB1 q_T q_M207 = true := by decide +kernel
set_option maxRecDepth 100000 in
theorem q_c208 : q_mB1 q_T q_M208 = true := by decide +kernel
set_option maxRecDepth 100000 in
theorem q_c209 : q_mB1 q_T q_M209 = true := by decide +kernel
set_option maxRecDepth 100000 in
theorem q_c210 : q_mB1 q_T q_M210 = true := by decide +kernel
set_option maxRecDepth 100000 in
theorem q_c211 : q_mB1 q_T q_M211 = true := by decide +kernel
set_option maxRecDepth 100000 in
theorem q_c212 : q_mB1 q_T q_M212 = true := by decide +kernel
set_option maxRecDepth 100000 in
theorem q_c213 : q_mB1 q_T q_M213 = true := by decide +kernel
set_option maxRecDepth 100000 in
theorem q_c214 : q_mB1 q_T q_M214 = true := by decide +kernel
set_option maxRecDepth 100000 in
theorem q_c215 : q_mB1 q_T q_M215 = true := by decide +kernel
set_option maxRecDepth 100000 in
theorem q_c216 : q_mB1 q_T q_M216 = true := by decide +kernel
set_option maxRecDepth 100000 in
theorem q_c217 : q_mB1 q_T q_M217 = true := by decide +kernel
set_option maxRecDepth 100000 in
theorem q_c218 : q_mB1 q_T q_M218 = true := by decide +kernel
set_option maxRecDepth 100000 in
theorem q_c219 : q_mB1 q_T q_M219 = true := by decide +kernel
set_option maxRecDepth 100000 in
theorem q_c220 : q_mB1 q_T q_M220 = true := by decide +kernel
set_option maxRecDepth 100000 in
theorem q_c221 : q_mB1 q_T q_M221 = true := by decide +kernel
set_option maxRecDepth 100000 in
theorem q_c222 : q_mB1 q_T q_M222 = true := by decide +kernel
set_option maxRecDepth 100000 in
theorem q_c223 : q_mB1 q_T q_M223 = true := by decide +kernel
set_option maxRecDepth 100000 in
theorem q_c224 : q_mB1 q_T q_M224 = true := by decide +kernel
set_option maxRecDepth 100000 in
theorem q_c225 : q_mB1 q_T q_M225 = true := by decide +kernel
set_option maxRecDepth 100000 in
theorem q_c226 : q_mB1 q_T q_M226 = true := by decide +kernel
set_option maxRecDepth 100000 in
theorem q_c227 : q_mB1 q_T q_M227 = true := by decide +kernel
set_option maxRecDepth 100000 in
theorem q_c228 : q_mB1 q_T q_M228 = true := by decide +kernel
set_option maxRecDepth 100000 in
theorem q_c229 : q_mB1 q_T q_M229 = true := by decide +kernel
