-- 68a4.facts: the facts in numbers (printed by wip/p5/gen68.py)
set_option maxRecDepth 20000 in
theorem f_TB8 {h : qH} {x : Int} : a_M q_SP 557 35184373137712 x h = p_TB8 (m_ac (m_gh h) 538 0 900) x := by
  show p_TB8 (m_ac (a_gm q_SP 557 35184373137712 h) 538 0 900) x = _
  rw [m_ga (code := 35184373137712) (c := 538) (off := 0) (n := 900) (by decide +kernel)]
set_option maxRecDepth 20000 in
theorem f_AB8 {h : qH} {x : Int} : a_M q_SP 557 35184373137713 x h = p_AB8 (m_ac (m_gh h) 538 0 900) x := by
  show p_AB8 (m_ac (a_gm q_SP 557 35184373137713 h) 538 0 900) x = _
  rw [m_ga (code := 35184373137713) (c := 538) (off := 0) (n := 900) (by decide +kernel)]
set_option maxRecDepth 20000 in
theorem f_SHR {h : qH} {x : Int} : a_M q_SP 557 1048878 x h = p_SHR  x := by
  show p_SHR  x = _
  rfl
set_option maxRecDepth 20000 in
theorem f_CVB {h : qH} {x : Int} : a_M q_SP 557 1048879 x h = p_CVB  x := by
  show p_CVB  x = _
  rfl
set_option maxRecDepth 20000 in
theorem f_TSX {h : qH} {x : Int} : a_M q_SP 557 272008309413291564309938496 x h = p_TSX (m_gh h 26 0) (m_gh h 26 1) (m_gh h 26 2) (m_ac (m_gh h) 35 0 96) (m_ac (m_gh h) 37 0 96) (m_ac (m_gh h) 38 0 96) x := by
  show p_TSX (a_gm q_SP 557 272008309413291564309938496 h 26 0) (a_gm q_SP 557 272008309413291564309938496 h 26 1) (a_gm q_SP 557 272008309413291564309938496 h 26 2) (m_ac (a_gm q_SP 557 272008309413291564309938496 h) 35 0 96) (m_ac (a_gm q_SP 557 272008309413291564309938496 h) 37 0 96) (m_ac (a_gm q_SP 557 272008309413291564309938496 h) 38 0 96) x = _
  rw [m_gs (code := 272008309413291564309938496) (c := 26) (j := 0) (by decide +kernel), m_gs (code := 272008309413291564309938496) (c := 26) (j := 1) (by decide +kernel), m_gs (code := 272008309413291564309938496) (c := 26) (j := 2) (by decide +kernel), m_ga (code := 272008309413291564309938496) (c := 35) (off := 0) (n := 96) (by decide +kernel), m_ga (code := 272008309413291564309938496) (c := 37) (off := 0) (n := 96) (by decide +kernel), m_ga (code := 272008309413291564309938496) (c := 38) (off := 0) (n := 96) (by decide +kernel)]
set_option maxRecDepth 20000 in
theorem f_TSY {h : qH} {x : Int} : a_M q_SP 557 272008309413291564309938497 x h = p_TSY (m_gh h 26 0) (m_gh h 26 1) (m_gh h 26 2) (m_ac (m_gh h) 35 0 96) (m_ac (m_gh h) 37 0 96) (m_ac (m_gh h) 38 0 96) x := by
  show p_TSY (a_gm q_SP 557 272008309413291564309938497 h 26 0) (a_gm q_SP 557 272008309413291564309938497 h 26 1) (a_gm q_SP 557 272008309413291564309938497 h 26 2) (m_ac (a_gm q_SP 557 272008309413291564309938497 h) 35 0 96) (m_ac (a_gm q_SP 557 272008309413291564309938497 h) 37 0 96) (m_ac (a_gm q_SP 557 272008309413291564309938497 h) 38 0 96) x = _
  rw [m_gs (code := 272008309413291564309938497) (c := 26) (j := 0) (by decide +kernel), m_gs (code := 272008309413291564309938497) (c := 26) (j := 1) (by decide +kernel), m_gs (code := 272008309413291564309938497) (c := 26) (j := 2) (by decide +kernel), m_ga (code := 272008309413291564309938497) (c := 35) (off := 0) (n := 96) (by decide +kernel), m_ga (code := 272008309413291564309938497) (c := 37) (off := 0) (n := 96) (by decide +kernel), m_ga (code := 272008309413291564309938497) (c := 38) (off := 0) (n := 96) (by decide +kernel)]
set_option maxRecDepth 20000 in
theorem f_TSZ {h : qH} {x : Int} : a_M q_SP 557 272008309413291564309938498 x h = p_TSZ (m_gh h 26 0) (m_gh h 26 1) (m_gh h 26 2) (m_ac (m_gh h) 35 0 96) (m_ac (m_gh h) 37 0 96) (m_ac (m_gh h) 38 0 96) x := by
  show p_TSZ (a_gm q_SP 557 272008309413291564309938498 h 26 0) (a_gm q_SP 557 272008309413291564309938498 h 26 1) (a_gm q_SP 557 272008309413291564309938498 h 26 2) (m_ac (a_gm q_SP 557 272008309413291564309938498 h) 35 0 96) (m_ac (a_gm q_SP 557 272008309413291564309938498 h) 37 0 96) (m_ac (a_gm q_SP 557 272008309413291564309938498 h) 38 0 96) x = _
  rw [m_gs (code := 272008309413291564309938498) (c := 26) (j := 0) (by decide +kernel), m_gs (code := 272008309413291564309938498) (c := 26) (j := 1) (by decide +kernel), m_gs (code := 272008309413291564309938498) (c := 26) (j := 2) (by decide +kernel), m_ga (code := 272008309413291564309938498) (c := 35) (off := 0) (n := 96) (by decide +kernel), m_ga (code := 272008309413291564309938498) (c := 37) (off := 0) (n := 96) (by decide +kernel), m_ga (code := 272008309413291564309938498) (c := 38) (off := 0) (n := 96) (by decide +kernel)]
set_option maxRecDepth 20000 in
theorem f_SETT {h : qH} {x : Int} : a_M q_SP 557 272008309413291564309938499 x h = p_SETT (m_gh h 26 0) (m_gh h 26 1) (m_gh h 26 2) (m_ac (m_gh h) 35 0 96) (m_ac (m_gh h) 37 0 96) (m_ac (m_gh h) 38 0 96) x := by
  show p_SETT (a_gm q_SP 557 272008309413291564309938499 h 26 0) (a_gm q_SP 557 272008309413291564309938499 h 26 1) (a_gm q_SP 557 272008309413291564309938499 h 26 2) (m_ac (a_gm q_SP 557 272008309413291564309938499 h) 35 0 96) (m_ac (a_gm q_SP 557 272008309413291564309938499 h) 37 0 96) (m_ac (a_gm q_SP 557 272008309413291564309938499 h) 38 0 96) x = _
  rw [m_gs (code := 272008309413291564309938499) (c := 26) (j := 0) (by decide +kernel), m_gs (code := 272008309413291564309938499) (c := 26) (j := 1) (by decide +kernel), m_gs (code := 272008309413291564309938499) (c := 26) (j := 2) (by decide +kernel), m_ga (code := 272008309413291564309938499) (c := 35) (off := 0) (n := 96) (by decide +kernel), m_ga (code := 272008309413291564309938499) (c := 37) (off := 0) (n := 96) (by decide +kernel), m_ga (code := 272008309413291564309938499) (c := 38) (off := 0) (n := 96) (by decide +kernel)]
set_option maxRecDepth 20000 in
theorem f_CBW {h : qH} {x : Int} : a_M q_SP 557 38685626227668133591646532 x h = p_CBW (m_gh h 26 0) x := by
  show p_CBW (a_gm q_SP 557 38685626227668133591646532 h 26 0) x = _
  rw [m_gs (code := 38685626227668133591646532) (c := 26) (j := 0) (by decide +kernel)]
set_option maxRecDepth 20000 in
theorem f_CBT {h : qH} {x : Int} : a_M q_SP 557 38685626227668133591646533 x h = p_CBT (m_gh h 26 0) x := by
  show p_CBT (a_gm q_SP 557 38685626227668133591646533 h 26 0) x = _
  rw [m_gs (code := 38685626227668133591646533) (c := 26) (j := 0) (by decide +kernel)]
set_option maxRecDepth 20000 in
theorem f_BYX {h : qH} {x : Int} : a_M q_SP 557 1208925819614629175755078 x h = p_BYX (m_ac (m_gh h) 35 0 96) x := by
  show p_BYX (m_ac (a_gm q_SP 557 1208925819614629175755078 h) 35 0 96) x = _
  rw [m_ga (code := 1208925819614629175755078) (c := 35) (off := 0) (n := 96) (by decide +kernel)]
set_option maxRecDepth 20000 in
theorem f_SWT {h : qH} {x : Int} : a_M q_SP 557 84489407695062261817148440921 x h = p_SWT (m_ac (m_gh h) 3 0 900) (m_gh h 2 7) (m_gh h 5 0) (m_gh h 5 2) (m_ac (m_gh h) 16 0 96) (m_ac (m_gh h) 17 0 96) x := by
  show p_SWT (m_ac (a_gm q_SP 557 84489407695062261817148440921 h) 3 0 900) (a_gm q_SP 557 84489407695062261817148440921 h 2 7) (a_gm q_SP 557 84489407695062261817148440921 h 5 0) (a_gm q_SP 557 84489407695062261817148440921 h 5 2) (m_ac (a_gm q_SP 557 84489407695062261817148440921 h) 16 0 96) (m_ac (a_gm q_SP 557 84489407695062261817148440921 h) 17 0 96) x = _
  rw [m_ga (code := 84489407695062261817148440921) (c := 3) (off := 0) (n := 900) (by decide +kernel), m_gs (code := 84489407695062261817148440921) (c := 2) (j := 7) (by decide +kernel), m_gs (code := 84489407695062261817148440921) (c := 5) (j := 0) (by decide +kernel), m_gs (code := 84489407695062261817148440921) (c := 5) (j := 2) (by decide +kernel), m_ga (code := 84489407695062261817148440921) (c := 16) (off := 0) (n := 96) (by decide +kernel), m_ga (code := 84489407695062261817148440921) (c := 17) (off := 0) (n := 96) (by decide +kernel)]
set_option maxRecDepth 20000 in
theorem f_AE37_16 {h : qH} {x : Int} : a_M q_SP 557 386856262276681335907025226 x h = p_AE37_16 (m_ac (m_gh h) 37 0 96) (m_ac (m_gh h) 16 0 96) x := by
  show p_AE37_16 (m_ac (a_gm q_SP 557 386856262276681335907025226 h) 37 0 96) (m_ac (a_gm q_SP 557 386856262276681335907025226 h) 16 0 96) x = _
  rw [m_ga (code := 386856262276681335907025226) (c := 37) (off := 0) (n := 96) (by decide +kernel), m_ga (code := 386856262276681335907025226) (c := 16) (off := 0) (n := 96) (by decide +kernel)]
set_option maxRecDepth 20000 in
theorem f_AE16_486 {h : qH} {x : Int} : a_M q_SP 557 928455029464035206175392075 x h = p_AE16_486 (m_ac (m_gh h) 16 0 96) (m_ac (m_gh h) 486 0 96) x := by
  show p_AE16_486 (m_ac (a_gm q_SP 557 928455029464035206175392075 h) 16 0 96) (m_ac (a_gm q_SP 557 928455029464035206175392075 h) 486 0 96) x = _
  rw [m_ga (code := 928455029464035206175392075) (c := 16) (off := 0) (n := 96) (by decide +kernel), m_ga (code := 928455029464035206175392075) (c := 486) (off := 0) (n := 96) (by decide +kernel)]
set_option maxRecDepth 20000 in
theorem f_AE486_16 {h : qH} {x : Int} : a_M q_SP 557 928455029464035206175392076 x h = p_AE486_16 (m_ac (m_gh h) 16 0 96) (m_ac (m_gh h) 486 0 96) x := by
  show p_AE486_16 (m_ac (a_gm q_SP 557 928455029464035206175392076 h) 16 0 96) (m_ac (a_gm q_SP 557 928455029464035206175392076 h) 486 0 96) x = _
  rw [m_ga (code := 928455029464035206175392076) (c := 16) (off := 0) (n := 96) (by decide +kernel), m_ga (code := 928455029464035206175392076) (c := 486) (off := 0) (n := 96) (by decide +kernel)]
set_option maxRecDepth 20000 in
theorem f_AE16_506 {h : qH} {x : Int} : a_M q_SP 557 1547425049106725343624954189 x h = p_AE16_506 (m_ac (m_gh h) 16 0 96) (m_ac (m_gh h) 506 0 96) x := by
  show p_AE16_506 (m_ac (a_gm q_SP 557 1547425049106725343624954189 h) 16 0 96) (m_ac (a_gm q_SP 557 1547425049106725343624954189 h) 506 0 96) x = _
  rw [m_ga (code := 1547425049106725343624954189) (c := 16) (off := 0) (n := 96) (by decide +kernel), m_ga (code := 1547425049106725343624954189) (c := 506) (off := 0) (n := 96) (by decide +kernel)]
set_option maxRecDepth 20000 in
theorem f_AE506_16 {h : qH} {x : Int} : a_M q_SP 557 1547425049106725343624954190 x h = p_AE506_16 (m_ac (m_gh h) 16 0 96) (m_ac (m_gh h) 506 0 96) x := by
  show p_AE506_16 (m_ac (a_gm q_SP 557 1547425049106725343624954190 h) 16 0 96) (m_ac (a_gm q_SP 557 1547425049106725343624954190 h) 506 0 96) x = _
  rw [m_ga (code := 1547425049106725343624954190) (c := 16) (off := 0) (n := 96) (by decide +kernel), m_ga (code := 1547425049106725343624954190) (c := 506) (off := 0) (n := 96) (by decide +kernel)]
set_option maxRecDepth 20000 in
theorem f_AE16_526 {h : qH} {x : Int} : a_M q_SP 557 2785365088392105618524078415 x h = p_AE16_526 (m_ac (m_gh h) 16 0 96) (m_ac (m_gh h) 526 0 96) x := by
  show p_AE16_526 (m_ac (a_gm q_SP 557 2785365088392105618524078415 h) 16 0 96) (m_ac (a_gm q_SP 557 2785365088392105618524078415 h) 526 0 96) x = _
  rw [m_ga (code := 2785365088392105618524078415) (c := 16) (off := 0) (n := 96) (by decide +kernel), m_ga (code := 2785365088392105618524078415) (c := 526) (off := 0) (n := 96) (by decide +kernel)]
set_option maxRecDepth 20000 in
theorem f_AE526_16 {h : qH} {x : Int} : a_M q_SP 557 2785365088392105618524078416 x h = p_AE526_16 (m_ac (m_gh h) 16 0 96) (m_ac (m_gh h) 526 0 96) x := by
  show p_AE526_16 (m_ac (a_gm q_SP 557 2785365088392105618524078416 h) 16 0 96) (m_ac (a_gm q_SP 557 2785365088392105618524078416 h) 526 0 96) x = _
  rw [m_ga (code := 2785365088392105618524078416) (c := 16) (off := 0) (n := 96) (by decide +kernel), m_ga (code := 2785365088392105618524078416) (c := 526) (off := 0) (n := 96) (by decide +kernel)]
set_option maxRecDepth 20000 in
theorem f_AE38_17 {h : qH} {x : Int} : a_M q_SP 557 5106502662052193633959936337 x h = p_AE38_17 (m_ac (m_gh h) 38 0 96) (m_ac (m_gh h) 17 0 96) x := by
  show p_AE38_17 (m_ac (a_gm q_SP 557 5106502662052193633959936337 h) 38 0 96) (m_ac (a_gm q_SP 557 5106502662052193633959936337 h) 17 0 96) x = _
  rw [m_ga (code := 5106502662052193633959936337) (c := 38) (off := 0) (n := 96) (by decide +kernel), m_ga (code := 5106502662052193633959936337) (c := 17) (off := 0) (n := 96) (by decide +kernel)]
set_option maxRecDepth 20000 in
theorem f_AE17_487 {h : qH} {x : Int} : a_M q_SP 557 14855280471424563298790539602 x h = p_AE17_487 (m_ac (m_gh h) 17 0 96) (m_ac (m_gh h) 487 0 96) x := by
  show p_AE17_487 (m_ac (a_gm q_SP 557 14855280471424563298790539602 h) 17 0 96) (m_ac (a_gm q_SP 557 14855280471424563298790539602 h) 487 0 96) x = _
  rw [m_ga (code := 14855280471424563298790539602) (c := 17) (off := 0) (n := 96) (by decide +kernel), m_ga (code := 14855280471424563298790539602) (c := 487) (off := 0) (n := 96) (by decide +kernel)]
set_option maxRecDepth 20000 in
theorem f_AE487_17 {h : qH} {x : Int} : a_M q_SP 557 14855280471424563298790539603 x h = p_AE487_17 (m_ac (m_gh h) 17 0 96) (m_ac (m_gh h) 487 0 96) x := by
  show p_AE487_17 (m_ac (a_gm q_SP 557 14855280471424563298790539603 h) 17 0 96) (m_ac (a_gm q_SP 557 14855280471424563298790539603 h) 487 0 96) x = _
  rw [m_ga (code := 14855280471424563298790539603) (c := 17) (off := 0) (n := 96) (by decide +kernel), m_ga (code := 14855280471424563298790539603) (c := 487) (off := 0) (n := 96) (by decide +kernel)]
set_option maxRecDepth 20000 in
theorem f_AE17_507 {h : qH} {x : Int} : a_M q_SP 557 24758800785707605497983533396 x h = p_AE17_507 (m_ac (m_gh h) 17 0 96) (m_ac (m_gh h) 507 0 96) x := by
  show p_AE17_507 (m_ac (a_gm q_SP 557 24758800785707605497983533396 h) 17 0 96) (m_ac (a_gm q_SP 557 24758800785707605497983533396 h) 507 0 96) x = _
  rw [m_ga (code := 24758800785707605497983533396) (c := 17) (off := 0) (n := 96) (by decide +kernel), m_ga (code := 24758800785707605497983533396) (c := 507) (off := 0) (n := 96) (by decide +kernel)]
set_option maxRecDepth 20000 in
theorem f_AE507_17 {h : qH} {x : Int} : a_M q_SP 557 24758800785707605497983533397 x h = p_AE507_17 (m_ac (m_gh h) 17 0 96) (m_ac (m_gh h) 507 0 96) x := by
  show p_AE507_17 (m_ac (a_gm q_SP 557 24758800785707605497983533397 h) 17 0 96) (m_ac (a_gm q_SP 557 24758800785707605497983533397 h) 507 0 96) x = _
  rw [m_ga (code := 24758800785707605497983533397) (c := 17) (off := 0) (n := 96) (by decide +kernel), m_ga (code := 24758800785707605497983533397) (c := 507) (off := 0) (n := 96) (by decide +kernel)]
set_option maxRecDepth 20000 in
theorem f_AE17_527 {h : qH} {x : Int} : a_M q_SP 557 44565841414273689896369520982 x h = p_AE17_527 (m_ac (m_gh h) 17 0 96) (m_ac (m_gh h) 527 0 96) x := by
  show p_AE17_527 (m_ac (a_gm q_SP 557 44565841414273689896369520982 h) 17 0 96) (m_ac (a_gm q_SP 557 44565841414273689896369520982 h) 527 0 96) x = _
  rw [m_ga (code := 44565841414273689896369520982) (c := 17) (off := 0) (n := 96) (by decide +kernel), m_ga (code := 44565841414273689896369520982) (c := 527) (off := 0) (n := 96) (by decide +kernel)]
set_option maxRecDepth 20000 in
theorem f_AE527_17 {h : qH} {x : Int} : a_M q_SP 557 44565841414273689896369520983 x h = p_AE527_17 (m_ac (m_gh h) 17 0 96) (m_ac (m_gh h) 527 0 96) x := by
  show p_AE527_17 (m_ac (a_gm q_SP 557 44565841414273689896369520983 h) 17 0 96) (m_ac (a_gm q_SP 557 44565841414273689896369520983 h) 527 0 96) x = _
  rw [m_ga (code := 44565841414273689896369520983) (c := 17) (off := 0) (n := 96) (by decide +kernel), m_ga (code := 44565841414273689896369520983) (c := 527) (off := 0) (n := 96) (by decide +kernel)]
set_option maxRecDepth 20000 in
theorem f_TC0 {h : qH} {x : Int} : a_M q_SP 557 559858382766813229323129979226 x h = p_TC0 (m_gh h 5 0) (m_gh h 5 2) (m_ac (m_gh h) 16 0 96) (m_ac (m_gh h) 17 0 96) (m_ac (m_gh h) 539 0 6) (m_ac (m_gh h) 539 7 42) x := by
  show p_TC0 (a_gm q_SP 557 559858382766813229323129979226 h 5 0) (a_gm q_SP 557 559858382766813229323129979226 h 5 2) (m_ac (a_gm q_SP 557 559858382766813229323129979226 h) 16 0 96) (m_ac (a_gm q_SP 557 559858382766813229323129979226 h) 17 0 96) (m_ac (a_gm q_SP 557 559858382766813229323129979226 h) 539 0 6) (m_ac (a_gm q_SP 557 559858382766813229323129979226 h) 539 7 42) x = _
  rw [m_gs (code := 559858382766813229323129979226) (c := 5) (j := 0) (by decide +kernel), m_gs (code := 559858382766813229323129979226) (c := 5) (j := 2) (by decide +kernel), m_ga (code := 559858382766813229323129979226) (c := 16) (off := 0) (n := 96) (by decide +kernel), m_ga (code := 559858382766813229323129979226) (c := 17) (off := 0) (n := 96) (by decide +kernel), m_ga (code := 559858382766813229323129979226) (c := 539) (off := 0) (n := 6) (by decide +kernel), m_ga (code := 559858382766813229323129979226) (c := 539) (off := 7) (n := 42) (by decide +kernel)]
set_option maxRecDepth 20000 in
theorem f_TC1 {h : qH} {x : Int} : a_M q_SP 557 4447299591132728637575104823643 x h = p_TC1 (m_gh h 475 0) (m_gh h 475 2) (m_ac (m_gh h) 486 0 96) (m_ac (m_gh h) 487 0 96) (m_ac (m_gh h) 539 360 6) (m_ac (m_gh h) 539 367 42) x := by
  show p_TC1 (a_gm q_SP 557 4447299591132728637575104823643 h 475 0) (a_gm q_SP 557 4447299591132728637575104823643 h 475 2) (m_ac (a_gm q_SP 557 4447299591132728637575104823643 h) 486 0 96) (m_ac (a_gm q_SP 557 4447299591132728637575104823643 h) 487 0 96) (m_ac (a_gm q_SP 557 4447299591132728637575104823643 h) 539 360 6) (m_ac (a_gm q_SP 557 4447299591132728637575104823643 h) 539 367 42) x = _
  rw [m_gs (code := 4447299591132728637575104823643) (c := 475) (j := 0) (by decide +kernel), m_gs (code := 4447299591132728637575104823643) (c := 475) (j := 2) (by decide +kernel), m_ga (code := 4447299591132728637575104823643) (c := 486) (off := 0) (n := 96) (by decide +kernel), m_ga (code := 4447299591132728637575104823643) (c := 487) (off := 0) (n := 96) (by decide +kernel), m_ga (code := 4447299591132728637575104823643) (c := 539) (off := 360) (n := 6) (by decide +kernel), m_ga (code := 4447299591132728637575104823643) (c := 539) (off := 367) (n := 42) (by decide +kernel)]
set_option maxRecDepth 20000 in
theorem f_TC2 {h : qH} {x : Int} : a_M q_SP 557 35515261787058274706580975911260 x h = p_TC2 (m_gh h 495 0) (m_gh h 495 2) (m_ac (m_gh h) 506 0 96) (m_ac (m_gh h) 507 0 96) (m_ac (m_gh h) 539 720 6) (m_ac (m_gh h) 539 727 42) x := by
  show p_TC2 (a_gm q_SP 557 35515261787058274706580975911260 h 495 0) (a_gm q_SP 557 35515261787058274706580975911260 h 495 2) (m_ac (a_gm q_SP 557 35515261787058274706580975911260 h) 506 0 96) (m_ac (a_gm q_SP 557 35515261787058274706580975911260 h) 507 0 96) (m_ac (a_gm q_SP 557 35515261787058274706580975911260 h) 539 720 6) (m_ac (a_gm q_SP 557 35515261787058274706580975911260 h) 539 727 42) x = _
  rw [m_gs (code := 35515261787058274706580975911260) (c := 495) (j := 0) (by decide +kernel), m_gs (code := 35515261787058274706580975911260) (c := 495) (j := 2) (by decide +kernel), m_ga (code := 35515261787058274706580975911260) (c := 506) (off := 0) (n := 96) (by decide +kernel), m_ga (code := 35515261787058274706580975911260) (c := 507) (off := 0) (n := 96) (by decide +kernel), m_ga (code := 35515261787058274706580975911260) (c := 539) (off := 720) (n := 6) (by decide +kernel), m_ga (code := 35515261787058274706580975911260) (c := 539) (off := 727) (n := 42) (by decide +kernel)]
set_option maxRecDepth 20000 in
theorem f_TC3 {h : qH} {x : Int} : a_M q_SP 557 283995824412459088864608089276765 x h = p_TC3 (m_gh h 515 0) (m_gh h 515 2) (m_ac (m_gh h) 526 0 96) (m_ac (m_gh h) 527 0 96) (m_ac (m_gh h) 539 1080 6) (m_ac (m_gh h) 539 1087 42) x := by
  show p_TC3 (a_gm q_SP 557 283995824412459088864608089276765 h 515 0) (a_gm q_SP 557 283995824412459088864608089276765 h 515 2) (m_ac (a_gm q_SP 557 283995824412459088864608089276765 h) 526 0 96) (m_ac (a_gm q_SP 557 283995824412459088864608089276765 h) 527 0 96) (m_ac (a_gm q_SP 557 283995824412459088864608089276765 h) 539 1080 6) (m_ac (a_gm q_SP 557 283995824412459088864608089276765 h) 539 1087 42) x = _
  rw [m_gs (code := 283995824412459088864608089276765) (c := 515) (j := 0) (by decide +kernel), m_gs (code := 283995824412459088864608089276765) (c := 515) (j := 2) (by decide +kernel), m_ga (code := 283995824412459088864608089276765) (c := 526) (off := 0) (n := 96) (by decide +kernel), m_ga (code := 283995824412459088864608089276765) (c := 527) (off := 0) (n := 96) (by decide +kernel), m_ga (code := 283995824412459088864608089276765) (c := 539) (off := 1080) (n := 6) (by decide +kernel), m_ga (code := 283995824412459088864608089276765) (c := 539) (off := 1087) (n := 42) (by decide +kernel)]
set_option maxRecDepth 20000 in
theorem f_MK1 {h : qH} {x : Int} : a_M q_SP 557 728837198129267636846860435807 x h = p_MK1 (m_gh h 5 0) (m_gh h 5 2) (m_ac (m_gh h) 16 0 96) (m_ac (m_gh h) 17 0 96) (m_gh h 475 0) (m_gh h 475 2) (m_ac (m_gh h) 486 0 96) (m_ac (m_gh h) 487 0 96) x := by
  show p_MK1 (a_gm q_SP 557 728837198129267636846860435807 h 5 0) (a_gm q_SP 557 728837198129267636846860435807 h 5 2) (m_ac (a_gm q_SP 557 728837198129267636846860435807 h) 16 0 96) (m_ac (a_gm q_SP 557 728837198129267636846860435807 h) 17 0 96) (a_gm q_SP 557 728837198129267636846860435807 h 475 0) (a_gm q_SP 557 728837198129267636846860435807 h 475 2) (m_ac (a_gm q_SP 557 728837198129267636846860435807 h) 486 0 96) (m_ac (a_gm q_SP 557 728837198129267636846860435807 h) 487 0 96) x = _
  rw [m_gs (code := 728837198129267636846860435807) (c := 5) (j := 0) (by decide +kernel), m_gs (code := 728837198129267636846860435807) (c := 5) (j := 2) (by decide +kernel), m_ga (code := 728837198129267636846860435807) (c := 16) (off := 0) (n := 96) (by decide +kernel), m_ga (code := 728837198129267636846860435807) (c := 17) (off := 0) (n := 96) (by decide +kernel), m_gs (code := 728837198129267636846860435807) (c := 475) (j := 0) (by decide +kernel), m_gs (code := 728837198129267636846860435807) (c := 475) (j := 2) (by decide +kernel), m_ga (code := 728837198129267636846860435807) (c := 486) (off := 0) (n := 96) (by decide +kernel), m_ga (code := 728837198129267636846860435807) (c := 487) (off := 0) (n := 96) (by decide +kernel)]
set_option maxRecDepth 20000 in
theorem f_MK2 {h : qH} {x : Int} : a_M q_SP 557 5176136789261996274421964210528 x h = p_MK2 (m_gh h 5 0) (m_gh h 5 2) (m_ac (m_gh h) 16 0 96) (m_ac (m_gh h) 17 0 96) (m_gh h 495 0) (m_gh h 495 2) (m_ac (m_gh h) 506 0 96) (m_ac (m_gh h) 507 0 96) x := by
  show p_MK2 (a_gm q_SP 557 5176136789261996274421964210528 h 5 0) (a_gm q_SP 557 5176136789261996274421964210528 h 5 2) (m_ac (a_gm q_SP 557 5176136789261996274421964210528 h) 16 0 96) (m_ac (a_gm q_SP 557 5176136789261996274421964210528 h) 17 0 96) (a_gm q_SP 557 5176136789261996274421964210528 h 495 0) (a_gm q_SP 557 5176136789261996274421964210528 h 495 2) (m_ac (a_gm q_SP 557 5176136789261996274421964210528 h) 506 0 96) (m_ac (a_gm q_SP 557 5176136789261996274421964210528 h) 507 0 96) x = _
  rw [m_gs (code := 5176136789261996274421964210528) (c := 5) (j := 0) (by decide +kernel), m_gs (code := 5176136789261996274421964210528) (c := 5) (j := 2) (by decide +kernel), m_ga (code := 5176136789261996274421964210528) (c := 16) (off := 0) (n := 96) (by decide +kernel), m_ga (code := 5176136789261996274421964210528) (c := 17) (off := 0) (n := 96) (by decide +kernel), m_gs (code := 5176136789261996274421964210528) (c := 495) (j := 0) (by decide +kernel), m_gs (code := 5176136789261996274421964210528) (c := 495) (j := 2) (by decide +kernel), m_ga (code := 5176136789261996274421964210528) (c := 506) (off := 0) (n := 96) (by decide +kernel), m_ga (code := 5176136789261996274421964210528) (c := 507) (off := 0) (n := 96) (by decide +kernel)]
set_option maxRecDepth 20000 in
theorem f_MK3 {h : qH} {x : Int} : a_M q_SP 557 40691398576320270981002939072865 x h = p_MK3 (m_gh h 5 0) (m_gh h 5 2) (m_ac (m_gh h) 16 0 96) (m_ac (m_gh h) 17 0 96) (m_gh h 515 0) (m_gh h 515 2) (m_ac (m_gh h) 526 0 96) (m_ac (m_gh h) 527 0 96) x := by
  show p_MK3 (a_gm q_SP 557 40691398576320270981002939072865 h 5 0) (a_gm q_SP 557 40691398576320270981002939072865 h 5 2) (m_ac (a_gm q_SP 557 40691398576320270981002939072865 h) 16 0 96) (m_ac (a_gm q_SP 557 40691398576320270981002939072865 h) 17 0 96) (a_gm q_SP 557 40691398576320270981002939072865 h 515 0) (a_gm q_SP 557 40691398576320270981002939072865 h 515 2) (m_ac (a_gm q_SP 557 40691398576320270981002939072865 h) 526 0 96) (m_ac (a_gm q_SP 557 40691398576320270981002939072865 h) 527 0 96) x = _
  rw [m_gs (code := 40691398576320270981002939072865) (c := 5) (j := 0) (by decide +kernel), m_gs (code := 40691398576320270981002939072865) (c := 5) (j := 2) (by decide +kernel), m_ga (code := 40691398576320270981002939072865) (c := 16) (off := 0) (n := 96) (by decide +kernel), m_ga (code := 40691398576320270981002939072865) (c := 17) (off := 0) (n := 96) (by decide +kernel), m_gs (code := 40691398576320270981002939072865) (c := 515) (j := 0) (by decide +kernel), m_gs (code := 40691398576320270981002939072865) (c := 515) (j := 2) (by decide +kernel), m_ga (code := 40691398576320270981002939072865) (c := 526) (off := 0) (n := 96) (by decide +kernel), m_ga (code := 40691398576320270981002939072865) (c := 527) (off := 0) (n := 96) (by decide +kernel)]
set_option maxRecDepth 20000 in
theorem f_LC0 {h : qH} {x : Int} : a_M q_SP 557 19342813113834066796347747 x h = p_LC0 (m_ac (m_gh h) 539 0 360) x := by
  show p_LC0 (m_ac (a_gm q_SP 557 19342813113834066796347747 h) 539 0 360) x = _
  rw [m_ga (code := 19342813113834066796347747) (c := 539) (off := 0) (n := 360) (by decide +kernel)]
set_option maxRecDepth 20000 in
theorem f_LC1 {h : qH} {x : Int} : a_M q_SP 557 324518553658426726783156021625188 x h = p_LC1 (m_ac (m_gh h) 539 360 360) x := by
  show p_LC1 (m_ac (a_gm q_SP 557 324518553658426726783156021625188 h) 539 360 360) x = _
  rw [m_ga (code := 324518553658426726783156021625188) (c := 539) (off := 360) (n := 360) (by decide +kernel)]
set_option maxRecDepth 20000 in
theorem f_LC2 {h : qH} {x : Int} : a_M q_SP 557 649037107316853453566312042201445 x h = p_LC2 (m_ac (m_gh h) 539 720 360) x := by
  show p_LC2 (m_ac (a_gm q_SP 557 649037107316853453566312042201445 h) 539 720 360) x = _
  rw [m_ga (code := 649037107316853453566312042201445) (c := 539) (off := 720) (n := 360) (by decide +kernel)]
set_option maxRecDepth 20000 in
theorem f_LC3 {h : qH} {x : Int} : a_M q_SP 557 1298074214633706907132624083353958 x h = p_LC3 (m_ac (m_gh h) 539 1080 360) x := by
  show p_LC3 (m_ac (a_gm q_SP 557 1298074214633706907132624083353958 h) 539 1080 360) x = _
  rw [m_ga (code := 1298074214633706907132624083353958) (c := 539) (off := 1080) (n := 360) (by decide +kernel)]
set_option maxRecDepth 20000 in
theorem f_CB01 {h : qH} {x : Int} : a_M q_SP 557 324518573001239840617222816924007 x h = p_CB01 (m_ac (m_gh h) 539 0 360) (m_ac (m_gh h) 539 360 360) x := by
  show p_CB01 (m_ac (a_gm q_SP 557 324518573001239840617222816924007 h) 539 0 360) (m_ac (a_gm q_SP 557 324518573001239840617222816924007 h) 539 360 360) x = _
  rw [m_ga (code := 324518573001239840617222816924007) (c := 539) (off := 0) (n := 360) (by decide +kernel), m_ga (code := 324518573001239840617222816924007) (c := 539) (off := 360) (n := 360) (by decide +kernel)]
set_option maxRecDepth 20000 in
theorem f_CB02 {h : qH} {x : Int} : a_M q_SP 557 649037126659666567400378837500264 x h = p_CB02 (m_ac (m_gh h) 539 0 360) (m_ac (m_gh h) 539 720 360) x := by
  show p_CB02 (m_ac (a_gm q_SP 557 649037126659666567400378837500264 h) 539 0 360) (m_ac (a_gm q_SP 557 649037126659666567400378837500264 h) 539 720 360) x = _
  rw [m_ga (code := 649037126659666567400378837500264) (c := 539) (off := 0) (n := 360) (by decide +kernel), m_ga (code := 649037126659666567400378837500264) (c := 539) (off := 720) (n := 360) (by decide +kernel)]
set_option maxRecDepth 20000 in
theorem f_CB03 {h : qH} {x : Int} : a_M q_SP 557 1298074233976520020966690878652777 x h = p_CB03 (m_ac (m_gh h) 539 0 360) (m_ac (m_gh h) 539 1080 360) x := by
  show p_CB03 (m_ac (a_gm q_SP 557 1298074233976520020966690878652777 h) 539 0 360) (m_ac (a_gm q_SP 557 1298074233976520020966690878652777 h) 539 1080 360) x = _
  rw [m_ga (code := 1298074233976520020966690878652777) (c := 539) (off := 0) (n := 360) (by decide +kernel), m_ga (code := 1298074233976520020966690878652777) (c := 539) (off := 1080) (n := 360) (by decide +kernel)]
set_option maxRecDepth 20000 in
theorem f_CB10 {h : qH} {x : Int} : a_M q_SP 557 324518573001239840617222816924010 x h = p_CB10 (m_ac (m_gh h) 539 0 360) (m_ac (m_gh h) 539 360 360) x := by
  show p_CB10 (m_ac (a_gm q_SP 557 324518573001239840617222816924010 h) 539 0 360) (m_ac (a_gm q_SP 557 324518573001239840617222816924010 h) 539 360 360) x = _
  rw [m_ga (code := 324518573001239840617222816924010) (c := 539) (off := 0) (n := 360) (by decide +kernel), m_ga (code := 324518573001239840617222816924010) (c := 539) (off := 360) (n := 360) (by decide +kernel)]
set_option maxRecDepth 20000 in
theorem f_CB20 {h : qH} {x : Int} : a_M q_SP 557 649037126659666567400378837500267 x h = p_CB20 (m_ac (m_gh h) 539 0 360) (m_ac (m_gh h) 539 720 360) x := by
  show p_CB20 (m_ac (a_gm q_SP 557 649037126659666567400378837500267 h) 539 0 360) (m_ac (a_gm q_SP 557 649037126659666567400378837500267 h) 539 720 360) x = _
  rw [m_ga (code := 649037126659666567400378837500267) (c := 539) (off := 0) (n := 360) (by decide +kernel), m_ga (code := 649037126659666567400378837500267) (c := 539) (off := 720) (n := 360) (by decide +kernel)]
set_option maxRecDepth 20000 in
theorem f_CB30 {h : qH} {x : Int} : a_M q_SP 557 1298074233976520020966690878652780 x h = p_CB30 (m_ac (m_gh h) 539 0 360) (m_ac (m_gh h) 539 1080 360) x := by
  show p_CB30 (m_ac (a_gm q_SP 557 1298074233976520020966690878652780 h) 539 0 360) (m_ac (a_gm q_SP 557 1298074233976520020966690878652780 h) 539 1080 360) x = _
  rw [m_ga (code := 1298074233976520020966690878652780) (c := 539) (off := 0) (n := 360) (by decide +kernel), m_ga (code := 1298074233976520020966690878652780) (c := 539) (off := 1080) (n := 360) (by decide +kernel)]
set_option maxRecDepth 20000 in
theorem f_KPT {h : qH} {x : Int} : a_M q_SP 557 475368975085586307036241461614 x h = p_KPT (m_ac (m_gh h) 540 0 147) (m_ac (m_gh h) 539 0 6) (m_ac (m_gh h) 539 7 42) x := by
  show p_KPT (m_ac (a_gm q_SP 557 475368975085586307036241461614 h) 540 0 147) (m_ac (a_gm q_SP 557 475368975085586307036241461614 h) 539 0 6) (m_ac (a_gm q_SP 557 475368975085586307036241461614 h) 539 7 42) x = _
  rw [m_ga (code := 475368975085586307036241461614) (c := 540) (off := 0) (n := 147) (by decide +kernel), m_ga (code := 475368975085586307036241461614) (c := 539) (off := 0) (n := 6) (by decide +kernel), m_ga (code := 475368975085586307036241461614) (c := 539) (off := 7) (n := 42) (by decide +kernel)]
set_option maxRecDepth 20000 in
theorem f_LKP {h : qH} {x : Int} : a_M q_SP 557 281474977759599 x h = p_LKP (m_ac (m_gh h) 540 0 147) x := by
  show p_LKP (m_ac (a_gm q_SP 557 281474977759599 h) 540 0 147) x = _
  rw [m_ga (code := 281474977759599) (c := 540) (off := 0) (n := 147) (by decide +kernel)]
