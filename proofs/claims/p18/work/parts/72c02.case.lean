-- 72c02: what the law's calls keep (printed by wip/p5/go72.py)
noncomputable def q_Tw14 : aW := [(nat_lit 0, nat_lit 0, nat_lit 0, nat_lit 1), (nat_lit 534, nat_lit 534, nat_lit 0, nat_lit 2), (nat_lit 542, nat_lit 542, nat_lit 0, nat_lit 96)]
theorem q_sq14 : ((a_adds q_SP ([0, 1].map q_Cmp) ([0, 0].map q_Iv, []) []).all fun s => a_seq q_SP 557 q_CT q_Tw14 q_Dm (q_post ([0, 1].map q_Cmp) [1, 1] true) [(nat_lit 133, (6, 0, ([], 0)) :: (q_Ag 0 [0, 0])), (nat_lit 252, (6, 534, ([], 0)) :: (q_Ag 0 [0, 0]))] s.1 s.2 []) = true := by decide +kernel
theorem q_id14 : ([q_Pvw0, q_Pvw1, q_Pvw2, q_Pvw3] ++ (q_Prb0 ++ (q_Prb1 ++ q_Prb2))).all (a_idl q_SP q_Tw14) = true := by decide +kernel
theorem q_ic14 : ((List.range q_NC).all fun c => ([0, 1] : List Nat).contains c || (q_Cmp c).all (a_idl q_SP q_Tw14)) = true := by decide +kernel
noncomputable def q_Tw15 : aW := [(nat_lit 0, nat_lit 0, nat_lit 0, nat_lit 1), (nat_lit 534, nat_lit 534, nat_lit 0, nat_lit 2), (nat_lit 542, nat_lit 542, nat_lit 0, nat_lit 96)]
theorem q_sq15 : ((a_adds q_SP ([0, 1].map q_Cmp) ([0].map q_Iv, []) []).all fun s => a_seq q_SP 557 q_CT q_Tw15 q_Dm (q_post ([0, 1].map q_Cmp) [1, 1] true) [(nat_lit 134, (6, 0, ([], 0)) :: (q_Ag 0 [0])), (nat_lit 253, (6, 534, ([], 0)) :: (q_Ag 0 [0]))] s.1 s.2 []) = true := by decide +kernel
theorem q_id15 : ([q_Pvw0, q_Pvw1, q_Pvw2, q_Pvw3] ++ (q_Prb0 ++ (q_Prb1 ++ q_Prb2))).all (a_idl q_SP q_Tw15) = true := by decide +kernel
theorem q_ic15 : ((List.range q_NC).all fun c => ([0, 1] : List Nat).contains c || (q_Cmp c).all (a_idl q_SP q_Tw15)) = true := by decide +kernel
noncomputable def q_Tw16 : aW := [(nat_lit 0, nat_lit 0, nat_lit 0, nat_lit 1), (nat_lit 534, nat_lit 534, nat_lit 0, nat_lit 2), (nat_lit 542, nat_lit 542, nat_lit 0, nat_lit 96)]
theorem q_sq16 : ((a_adds q_SP ([0, 1].map q_Cmp) ([0].map q_Iv, []) []).all fun s => a_seq q_SP 557 q_CT q_Tw16 q_Dm (q_post ([0, 1].map q_Cmp) [1, 1] true) [(nat_lit 135, (6, 0, ([], 0)) :: (q_Ag 0 [0])), (nat_lit 254, (6, 534, ([], 0)) :: (q_Ag 0 [0]))] s.1 s.2 []) = true := by decide +kernel
theorem q_id16 : ([q_Pvw0, q_Pvw1, q_Pvw2, q_Pvw3] ++ (q_Prb0 ++ (q_Prb1 ++ q_Prb2))).all (a_idl q_SP q_Tw16) = true := by decide +kernel
theorem q_ic16 : ((List.range q_NC).all fun c => ([0, 1] : List Nat).contains c || (q_Cmp c).all (a_idl q_SP q_Tw16)) = true := by decide +kernel
noncomputable def q_Tw17 : aW := [(nat_lit 0, nat_lit 0, nat_lit 0, nat_lit 1), (nat_lit 534, nat_lit 534, nat_lit 0, nat_lit 2), (nat_lit 542, nat_lit 542, nat_lit 0, nat_lit 96)]
theorem q_sq17 : ((a_adds q_SP ([0, 1].map q_Cmp) ([].map q_Iv, []) []).all fun s => a_seq q_SP 557 q_CT q_Tw17 q_Dm (q_post ([0, 1].map q_Cmp) [1, 1] true) [(nat_lit 136, (6, 0, ([], 0)) :: (q_Ag 0 [])), (nat_lit 255, (6, 534, ([], 0)) :: (q_Ag 0 []))] s.1 s.2 []) = true := by decide +kernel
theorem q_id17 : ([q_Pvw0, q_Pvw1, q_Pvw2, q_Pvw3] ++ (q_Prb0 ++ (q_Prb1 ++ q_Prb2))).all (a_idl q_SP q_Tw17) = true := by decide +kernel
theorem q_ic17 : ((List.range q_NC).all fun c => ([0, 1] : List Nat).contains c || (q_Cmp c).all (a_idl q_SP q_Tw17)) = true := by decide +kernel
noncomputable def q_Tw18 : aW := [(nat_lit 0, nat_lit 0, nat_lit 0, nat_lit 1), (nat_lit 534, nat_lit 534, nat_lit 0, nat_lit 2), (nat_lit 542, nat_lit 542, nat_lit 0, nat_lit 96)]
theorem q_sq18 : ((a_adds q_SP ([0, 1].map q_Cmp) ([0].map q_Iv, []) []).all fun s => a_seq q_SP 557 q_CT q_Tw18 q_Dm (q_post ([0, 1].map q_Cmp) [1, 1] true) [(nat_lit 137, (6, 0, ([], 0)) :: (q_Ag 0 [0])), (nat_lit 256, (6, 534, ([], 0)) :: (q_Ag 0 [0]))] s.1 s.2 []) = true := by decide +kernel
theorem q_id18 : ([q_Pvw0, q_Pvw1, q_Pvw2, q_Pvw3] ++ (q_Prb0 ++ (q_Prb1 ++ q_Prb2))).all (a_idl q_SP q_Tw18) = true := by decide +kernel
theorem q_ic18 : ((List.range q_NC).all fun c => ([0, 1] : List Nat).contains c || (q_Cmp c).all (a_idl q_SP q_Tw18)) = true := by decide +kernel
noncomputable def q_Tw19 : aW := [(nat_lit 0, nat_lit 0, nat_lit 0, nat_lit 1), (nat_lit 534, nat_lit 534, nat_lit 0, nat_lit 2)]
theorem q_sq19 : ((a_adds q_SP ([0, 1].map q_Cmp) ([].map q_Iv, []) []).all fun s => a_seq q_SP 557 q_CT q_Tw19 q_Dm (q_post ([0, 1].map q_Cmp) [1, 1] false) [(nat_lit 138, (6, 0, ([], 0)) :: (q_Ag 0 [])), (nat_lit 257, (6, 534, ([], 0)) :: (q_Ag 0 []))] s.1 s.2 []) = true := by decide +kernel
theorem q_id19 : ([q_Pvw0, q_Pvw1, q_Pvw2, q_Pvw3] ++ (q_Prb0 ++ (q_Prb1 ++ q_Prb2))).all (a_idl q_SP q_Tw19) = true := by decide +kernel
theorem q_ic19 : ((List.range q_NC).all fun c => ([0, 1] : List Nat).contains c || (q_Cmp c).all (a_idl q_SP q_Tw19)) = true := by decide +kernel
noncomputable def q_Tw20 : aW := [(nat_lit 0, nat_lit 0, nat_lit 0, nat_lit 1), (nat_lit 534, nat_lit 534, nat_lit 0, nat_lit 2)]
theorem q_sq20 : ((a_adds q_SP ([0, 1].map q_Cmp) ([].map q_Iv, []) []).all fun s => a_seq q_SP 557 q_CT q_Tw20 q_Dm (q_post ([0, 1].map q_Cmp) [1, 1] false) [(nat_lit 139, (6, 0, ([], 0)) :: (q_Ag 0 [])), (nat_lit 258, (6, 534, ([], 0)) :: (q_Ag 0 []))] s.1 s.2 []) = true := by decide +kernel
theorem q_id20 : ([q_Pvw0, q_Pvw1, q_Pvw2, q_Pvw3] ++ (q_Prb0 ++ (q_Prb1 ++ q_Prb2))).all (a_idl q_SP q_Tw20) = true := by decide +kernel
theorem q_ic20 : ((List.range q_NC).all fun c => ([0, 1] : List Nat).contains c || (q_Cmp c).all (a_idl q_SP q_Tw20)) = true := by decide +kernel
