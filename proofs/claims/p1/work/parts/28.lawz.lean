-- 28.lawz
set_option maxRecDepth 100000 in
theorem q_LTop : q_mI q_ML = .branch (nat_lit 965) (.branch (nat_lit 570) (.branch (nat_lit 409) (q_LT0) (q_LT1)) (.branch (nat_lit 751) (q_LT2) (q_LT3))) (.branch (nat_lit 1381) (.branch (nat_lit 1176) (q_LT4) (q_LT5)) (.branch (nat_lit 1558) (q_LT6) (q_LT7))) := rfl
theorem q_ML_ok : q_mOk q_T false q_ML := by
  intro pc
  have h : q_all (q_iB q_T RL false code) (.branch (nat_lit 965) (.branch (nat_lit 570) (.branch (nat_lit 409) (q_LT0) (q_LT1)) (.branch (nat_lit 751) (q_LT2) (q_LT3))) (.branch (nat_lit 1381) (.branch (nat_lit 1176) (q_LT4) (q_LT5)) (.branch (nat_lit 1558) (q_LT6) (q_LT7)))) = true := by
    show cond (cond (cond (q_all _ q_LT0) (q_all _ q_LT1) false) (cond (q_all _ q_LT2) (q_all _ q_LT3) false) false) (cond (cond (q_all _ q_LT4) (q_all _ q_LT5) false) (cond (q_all _ q_LT6) (q_all _ q_LT7) false) false) false = true
    rw [q_LC0, q_LC1, q_LC2, q_LC3, q_LC4, q_LC5, q_LC6, q_LC7]
    rfl
  rw [q_LTop]
  exact q_iB_ok (q_all_get h pc)
