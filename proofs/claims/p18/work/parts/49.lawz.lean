-- 49.lawz
theorem q_all_b {α : Type} {f : α → Bool} {n : Nat} {l r : Lean.RArray α} (h1 : q_all f l = true) (h2 : q_all f r = true) : q_all f (.branch n l r) = true := by
  show cond (q_all f l) (q_all f r) false = true
  rw [h1, h2]
  rfl
set_option maxRecDepth 100000 in
theorem q_LTop : q_mI q_ML = .branch (nat_lit 963) (.branch (nat_lit 569) (.branch (nat_lit 408) (q_LT0) (q_LT1)) (.branch (nat_lit 750) (q_LT2) (q_LT3))) (.branch (nat_lit 1379) (.branch (nat_lit 1174) (q_LT4) (q_LT5)) (.branch (nat_lit 1556) (q_LT6) (q_LT7))) := rfl
theorem q_ML_ok : q_mOk q_T false q_ML := by
  intro pc
  rw [q_LTop]
  exact q_iB_ok (q_all_get (q_all_b (q_all_b (q_all_b q_LC0 q_LC1) (q_all_b q_LC2 q_LC3)) (q_all_b (q_all_b q_LC4 q_LC5) (q_all_b q_LC6 q_LC7))) pc)
