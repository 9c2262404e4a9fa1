-- 68a94.short: what the rules use (printed by wip/p5/gen68.py)
theorem e_YVI {h : qH} {x : Nat → Int} {F : aF} (hp : p_YVI (m_ac (m_gh h) 539 0 6) (m_ac (m_gh h) 539 7 42) (m_ep x F)) : a_Rc q_SP 557 h x 475368975085586025561264751070 F := by
  refine m_eR (by decide +kernel) ?_
  rw [f_YVI]
  exact hp
theorem e_YVK {h : qH} {x : Nat → Int} {F : aF} (hp : p_YVK (m_ac (m_gh h) 539 0 6) (m_ac (m_gh h) 539 7 42) (m_ep x F)) : a_Rc q_SP 557 h x 475368975085586025561264751071 F := by
  refine m_eR (by decide +kernel) ?_
  rw [f_YVK]
  exact hp
theorem e_BGO {h : qH} {x : Nat → Int} {F : aF} (hp : p_BGO (m_ac (m_gh h) 539 0 6) (m_ac (m_gh h) 539 7 42) (m_ep x F)) : a_Rc q_SP 557 h x 475368975085586025561264751072 F := by
  refine m_eR (by decide +kernel) ?_
  rw [f_BGO]
  exact hp
theorem e_BGI {h : qH} {x : Nat → Int} {F : aF} (hp : p_BGI (m_ac (m_gh h) 539 0 6) (m_ac (m_gh h) 539 7 42) (m_ep x F)) : a_Rc q_SP 557 h x 475368975085586025561264751073 F := by
  refine m_eR (by decide +kernel) ?_
  rw [f_BGI]
  exact hp
theorem e_RWO {h : qH} {x : Nat → Int} {F : aF} (hp : p_RWO (m_ac (m_gh h) 539 0 6) (m_ac (m_gh h) 539 7 42) (m_ac (m_gh h) 465 0 96) (m_ep x F)) : a_Rc q_SP 557 h x 83077225105532327642513502532272618 F := by
  refine m_eR (by decide +kernel) ?_
  rw [f_RWO]
  exact hp
theorem e_RWI {h : qH} {x : Nat → Int} {F : aF} (hp : p_RWI (m_ac (m_gh h) 539 0 6) (m_ac (m_gh h) 539 7 42) (m_ac (m_gh h) 465 0 96) (m_ep x F)) : a_Rc q_SP 557 h x 83077225105532327642513502532272619 F := by
  refine m_eR (by decide +kernel) ?_
  rw [f_RWI]
  exact hp
theorem e_RTV {h : qH} {x : Nat → Int} {F : aF} (hp : p_RTV (m_ac (m_gh h) 539 0 6) (m_ac (m_gh h) 539 7 42) (m_ep x F)) : a_Rc q_SP 557 h x 475368975085586025561264751084 F := by
  refine m_eR (by decide +kernel) ?_
  rw [f_RTV]
  exact hp
theorem e_RTW {h : qH} {x : Nat → Int} {F : aF} (hp : p_RTW (m_ac (m_gh h) 539 0 6) (m_ac (m_gh h) 539 7 42) (m_ep x F)) : a_Rc q_SP 557 h x 475368975085586025561264751085 F := by
  refine m_eR (by decide +kernel) ?_
  rw [f_RTW]
  exact hp
theorem e_RLO {h : qH} {x : Nat → Int} {F : aF} (hp : p_RLO (m_ac (m_gh h) 539 0 6) (m_ac (m_gh h) 539 7 42) (m_ep x F)) : a_Rc q_SP 557 h x 475368975085586025561264751086 F := by
  refine m_eR (by decide +kernel) ?_
  rw [f_RLO]
  exact hp
theorem e_RLR {h : qH} {x : Nat → Int} {F : aF} (hp : p_RLR (m_ac (m_gh h) 539 0 6) (m_ac (m_gh h) 539 7 42) (m_ep x F)) : a_Rc q_SP 557 h x 475368975085586025561264751087 F := by
  refine m_eR (by decide +kernel) ?_
  rw [f_RLR]
  exact hp
theorem e_LGO {h : qH} {x : Nat → Int} {F : aF} (hp : p_LGO (m_ac (m_gh h) 539 0 6) (m_ac (m_gh h) 539 7 42) (m_ac (m_gh h) 555 0 8) (m_ep x F)) : a_Rc q_SP 557 h x 475368975085586025595624489456 F := by
  refine m_eR (by decide +kernel) ?_
  rw [f_LGO]
  exact hp
theorem e_LGI {h : qH} {x : Nat → Int} {F : aF} (hp : p_LGI (m_ac (m_gh h) 539 0 6) (m_ac (m_gh h) 539 7 42) (m_ac (m_gh h) 555 0 8) (m_ep x F)) : a_Rc q_SP 557 h x 475368975085586025595624489457 F := by
  refine m_eR (by decide +kernel) ?_
  rw [f_LGI]
  exact hp
theorem e_LGV {h : qH} {x : Nat → Int} {F : aF} (hp : p_LGV (m_ac (m_gh h) 539 0 6) (m_ac (m_gh h) 539 7 42) (m_ep x F)) : a_Rc q_SP 557 h x 475368975085586025561264751090 F := by
  refine m_eR (by decide +kernel) ?_
  rw [f_LGV]
  exact hp
theorem e_LGW {h : qH} {x : Nat → Int} {F : aF} (hp : p_LGW (m_ac (m_gh h) 539 0 6) (m_ac (m_gh h) 539 7 42) (m_ep x F)) : a_Rc q_SP 557 h x 475368975085586025561264751091 F := by
  refine m_eR (by decide +kernel) ?_
  rw [f_LGW]
  exact hp
theorem e_MLO {h : qH} {x : Nat → Int} {F : aF} (hp : p_MLO (m_ac (m_gh h) 539 0 6) (m_ac (m_gh h) 539 7 42) (m_ep x F)) : a_Rc q_SP 557 h x 475368975085586025561264751092 F := by
  refine m_eR (by decide +kernel) ?_
  rw [f_MLO]
  exact hp
theorem e_JO {h : qH} {x : Nat → Int} {F : aF} (hp : p_JO (m_ac (m_gh h) 539 0 6) (m_ac (m_gh h) 539 7 42) (m_ep x F)) : a_Rc q_SP 557 h x 475368975085586025561264751002 F := by
  refine m_eR (by decide +kernel) ?_
  rw [f_JO]
  exact hp
theorem e_JT {h : qH} {x : Nat → Int} {F : aF} (hp : p_JT  (m_ep x F)) : a_Rc q_SP 557 h x 1048987 F := by
  refine m_eR (by decide +kernel) ?_
  rw [f_JT]
  exact hp
theorem e_JN {h : qH} {x : Nat → Int} {F : aF} (hp : p_JN (m_ac (m_gh h) 539 0 6) (m_ac (m_gh h) 539 7 42) (m_ep x F)) : a_Rc q_SP 557 h x 475368975085586025561264751004 F := by
  refine m_eR (by decide +kernel) ?_
  rw [f_JN]
  exact hp
theorem e_JNR {h : qH} {x : Nat → Int} {F : aF} (hp : p_JNR (m_ac (m_gh h) 539 0 6) (m_ac (m_gh h) 539 7 42) (m_ep x F)) : a_Rc q_SP 557 h x 475368975085586025561264751005 F := by
  refine m_eR (by decide +kernel) ?_
  rw [f_JNR]
  exact hp
theorem e_MRA {h : qH} {x : Nat → Int} {F : aF} (hp : p_MRA  (m_ep x F)) : a_Rc q_SP 557 h x 1048990 F := by
  refine m_eR (by decide +kernel) ?_
  rw [f_MRA]
  exact hp
theorem e_MRB {h : qH} {x : Nat → Int} {F : aF} (hp : p_MRB (m_ac (m_gh h) 539 0 6) (m_ac (m_gh h) 539 7 42) (m_ep x F)) : a_Rc q_SP 557 h x 475368975085586025561264751007 F := by
  refine m_eR (by decide +kernel) ?_
  rw [f_MRB]
  exact hp
theorem e_SFW {h : qH} {x : Nat → Int} {F : aF} (hp : p_SFW (m_ac (m_gh h) 3 0 900) (m_gh h 2 7) (m_ac (m_gh h) 15 0 96) (m_ep x F)) : a_Rc q_SP 557 h x 5192296858534841463588551612432824 F := by
  refine m_eR (by decide +kernel) ?_
  rw [f_SFW]
  exact hp
theorem e_TF0 {h : qH} {x : Nat → Int} {F : aF} (hp : p_TF0 (m_ac (m_gh h) 15 0 96) (m_ac (m_gh h) 539 0 6) (m_ac (m_gh h) 539 7 42) (m_ep x F)) : a_Rc q_SP 557 h x 5192772227509913214556057593971129 F := by
  refine m_eR (by decide +kernel) ?_
  rw [f_TF0]
  exact hp
theorem e_TF1 {h : qH} {x : Nat → Int} {F : aF} (hp : p_TF1 (m_ac (m_gh h) 485 0 96) (m_ac (m_gh h) 539 360 6) (m_ac (m_gh h) 539 367 42) (m_ep x F)) : a_Rc q_SP 557 h x 10388396668870339945265482769105338 F := by
  refine m_eR (by decide +kernel) ?_
  rw [f_TF1]
  exact hp
theorem e_TF2 {h : qH} {x : Nat → Int} {F : aF} (hp : p_TF2 (m_ac (m_gh h) 505 0 96) (m_ac (m_gh h) 539 720 6) (m_ac (m_gh h) 539 727 42) (m_ep x F)) : a_Rc q_SP 557 h x 20799611048544788019757906194858427 F := by
  refine m_eR (by decide +kernel) ?_
  rw [f_TF2]
  exact hp
theorem e_TF3 {h : qH} {x : Nat → Int} {F : aF} (hp : p_TF3 (m_ac (m_gh h) 525 0 96) (m_ac (m_gh h) 539 1080 6) (m_ac (m_gh h) 539 1087 42) (m_ep x F)) : a_Rc q_SP 557 h x 41781763783522441073331337650241980 F := by
  refine m_eR (by decide +kernel) ?_
  rw [f_TF3]
  exact hp
theorem e_MF1 {h : qH} {x : Nat → Int} {F : aF} (hp : p_MF1 (m_ac (m_gh h) 15 0 96) (m_ac (m_gh h) 485 0 96) (m_ep x F)) : a_Rc q_SP 557 h x 15576890575604482885591488988709310 F := by
  refine m_eR (by decide +kernel) ?_
  rw [f_MF1]
  exact hp
theorem e_MF2 {h : qH} {x : Nat → Int} {F : aF} (hp : p_MF2 (m_ac (m_gh h) 15 0 96) (m_ac (m_gh h) 505 0 96) (m_ep x F)) : a_Rc q_SP 557 h x 25961484292674138142652481647149503 F := by
  refine m_eR (by decide +kernel) ?_
  rw [f_MF2]
  exact hp
theorem e_MF3 {h : qH} {x : Nat → Int} {F : aF} (hp : p_MF3 (m_ac (m_gh h) 15 0 96) (m_ac (m_gh h) 525 0 96) (m_ep x F)) : a_Rc q_SP 557 h x 46730671726813448656774466964029888 F := by
  refine m_eR (by decide +kernel) ?_
  rw [f_MF3]
  exact hp
theorem e1_544_AA {h h' : qH} {x : Nat → Int} {F : aF} (h1 : m_one h h' 544 (x 0).toNat (0, a_w (x 1))) (i1 : 0 ≤ x 0) (i2 : x 0 < 1344) (v1 : -2147483648 ≤ x 1) (v2 : x 1 < 2147483648) (hp : p_AA (m_gh h 539 0) (m_ac (m_gh h) 539 49 96) (m_ac (m_gh h) 545 0 96) (m_gh h 539 2) (m_ac (m_gh h) 539 7 6) (m_up (m_ac (m_gh h) 544 0 1344) (x 0) (x 1)) (m_ep x F)) : a_Rc q_SP 557 h' x 3390046244 F := by
  refine m_eR rfl ?_
  rw [f_AA, m_us h1 (d := 539) (q := 0) (by decide +kernel), m_ua h1 (d := 539) (off := 49) (n := 96) (by decide +kernel), m_ua h1 (d := 545) (off := 0) (n := 96) (by decide +kernel), m_us h1 (d := 539) (q := 2) (by decide +kernel), m_ua h1 (d := 539) (off := 7) (n := 6) (by decide +kernel), m_uc h1 (m_int0 v1 v2) (by decide +kernel) i1 i2]
  exact hp
theorem e1_3_AB3 {h h' : qH} {x : Nat → Int} {F : aF} (h1 : m_one h h' 3 (x 0).toNat (0, a_w (x 1))) (i1 : 0 ≤ x 0) (i2 : x 0 < 900) (v1 : -2147483648 ≤ x 1) (v2 : x 1 < 2147483648) (hp : p_AB3 (m_up (m_ac (m_gh h) 3 0 900) (x 0) (x 1)) (m_ep x F)) : a_Rc q_SP 557 h' x 4611686018428436781 F := by
  refine m_eR rfl ?_
  rw [f_AB3, m_uc h1 (m_int0 v1 v2) (by decide +kernel) i1 i2]
  exact hp
theorem e1_538_AB8 {h h' : qH} {x : Nat → Int} {F : aF} (h1 : m_one h h' 538 (x 0).toNat (0, a_w (x 1))) (i1 : 0 ≤ x 0) (i2 : x 0 < 900) (v1 : -2147483648 ≤ x 1) (v2 : x 1 < 2147483648) (hp : p_AB8 (m_up (m_ac (m_gh h) 538 0 900) (x 0) (x 1)) (m_ep x F)) : a_Rc q_SP 557 h' x 35184373137713 F := by
  refine m_eR rfl ?_
  rw [f_AB8, m_uc h1 (m_int0 v1 v2) (by decide +kernel) i1 i2]
  exact hp
theorem e8_15845_AE15_485 {h h' : qH} {x : Nat → Int} {F : aF} (h1 : m_cpd h h' 15 485 (x 0) (x 1) (x 2)) (i1 : 0 ≤ x 0) (i2 : 0 ≤ x 1) (i3 : 0 ≤ x 2) (l1 : x 0 + x 2 ≤ a_cl q_SP 15) (l2 : x 1 + x 2 ≤ a_cl q_SP 485) (hp : p_AE15_485 (m_ac (m_gh h) 15 0 96) (m_cpx (m_ac (m_gh h) 15 0 96) (m_ac (m_gh h) 485 0 96) (x 0) (x 1) (x 2)) (m_ep x F)) : a_Rc q_SP 557 h' x 15576890575604482885591488988709295 F := by
  refine m_eR rfl ?_
  rw [f_AE15_485, m_ca h1 (d := 15) (off := 0) (n := 96) (by decide +kernel), m_cc h1 (by decide +kernel) (by decide +kernel) i1 i2 i3 l1 l2]
  exact hp
theorem e8_15865_AE15_505 {h h' : qH} {x : Nat → Int} {F : aF} (h1 : m_cpd h h' 15 505 (x 0) (x 1) (x 2)) (i1 : 0 ≤ x 0) (i2 : 0 ≤ x 1) (i3 : 0 ≤ x 2) (l1 : x 0 + x 2 ≤ a_cl q_SP 15) (l2 : x 1 + x 2 ≤ a_cl q_SP 505) (hp : p_AE15_505 (m_ac (m_gh h) 15 0 96) (m_cpx (m_ac (m_gh h) 15 0 96) (m_ac (m_gh h) 505 0 96) (x 0) (x 1) (x 2)) (m_ep x F)) : a_Rc q_SP 557 h' x 25961484292674138142652481647149489 F := by
  refine m_eR rfl ?_
  rw [f_AE15_505, m_ca h1 (d := 15) (off := 0) (n := 96) (by decide +kernel), m_cc h1 (by decide +kernel) (by decide +kernel) i1 i2 i3 l1 l2]
  exact hp
theorem e8_15885_AE15_525 {h h' : qH} {x : Nat → Int} {F : aF} (h1 : m_cpd h h' 15 525 (x 0) (x 1) (x 2)) (i1 : 0 ≤ x 0) (i2 : 0 ≤ x 1) (i3 : 0 ≤ x 2) (l1 : x 0 + x 2 ≤ a_cl q_SP 15) (l2 : x 1 + x 2 ≤ a_cl q_SP 525) (hp : p_AE15_525 (m_ac (m_gh h) 15 0 96) (m_cpx (m_ac (m_gh h) 15 0 96) (m_ac (m_gh h) 525 0 96) (x 0) (x 1) (x 2)) (m_ep x F)) : a_Rc q_SP 557 h' x 46730671726813448656774466964029875 F := by
  refine m_eR rfl ?_
  rw [f_AE15_525, m_ca h1 (d := 15) (off := 0) (n := 96) (by decide +kernel), m_cc h1 (by decide +kernel) (by decide +kernel) i1 i2 i3 l1 l2]
  exact hp
theorem e8_16870_AE16_486 {h h' : qH} {x : Nat → Int} {F : aF} (h1 : m_cpd h h' 16 486 (x 0) (x 1) (x 2)) (i1 : 0 ≤ x 0) (i2 : 0 ≤ x 1) (i3 : 0 ≤ x 2) (l1 : x 0 + x 2 ≤ a_cl q_SP 16) (l2 : x 1 + x 2 ≤ a_cl q_SP 486) (hp : p_AE16_486 (m_ac (m_gh h) 16 0 96) (m_cpx (m_ac (m_gh h) 16 0 96) (m_ac (m_gh h) 486 0 96) (x 0) (x 1) (x 2)) (m_ep x F)) : a_Rc q_SP 557 h' x 928455029464035206175392075 F := by
  refine m_eR rfl ?_
  rw [f_AE16_486, m_ca h1 (d := 16) (off := 0) (n := 96) (by decide +kernel), m_cc h1 (by decide +kernel) (by decide +kernel) i1 i2 i3 l1 l2]
  exact hp
theorem e8_16890_AE16_506 {h h' : qH} {x : Nat → Int} {F : aF} (h1 : m_cpd h h' 16 506 (x 0) (x 1) (x 2)) (i1 : 0 ≤ x 0) (i2 : 0 ≤ x 1) (i3 : 0 ≤ x 2) (l1 : x 0 + x 2 ≤ a_cl q_SP 16) (l2 : x 1 + x 2 ≤ a_cl q_SP 506) (hp : p_AE16_506 (m_ac (m_gh h) 16 0 96) (m_cpx (m_ac (m_gh h) 16 0 96) (m_ac (m_gh h) 506 0 96) (x 0) (x 1) (x 2)) (m_ep x F)) : a_Rc q_SP 557 h' x 1547425049106725343624954189 F := by
  refine m_eR rfl ?_
  rw [f_AE16_506, m_ca h1 (d := 16) (off := 0) (n := 96) (by decide +kernel), m_cc h1 (by decide +kernel) (by decide +kernel) i1 i2 i3 l1 l2]
  exact hp
theorem e8_16910_AE16_526 {h h' : qH} {x : Nat → Int} {F : aF} (h1 : m_cpd h h' 16 526 (x 0) (x 1) (x 2)) (i1 : 0 ≤ x 0) (i2 : 0 ≤ x 1) (i3 : 0 ≤ x 2) (l1 : x 0 + x 2 ≤ a_cl q_SP 16) (l2 : x 1 + x 2 ≤ a_cl q_SP 526) (hp : p_AE16_526 (m_ac (m_gh h) 16 0 96) (m_cpx (m_ac (m_gh h) 16 0 96) (m_ac (m_gh h) 526 0 96) (x 0) (x 1) (x 2)) (m_ep x F)) : a_Rc q_SP 557 h' x 2785365088392105618524078415 F := by
  refine m_eR rfl ?_
  rw [f_AE16_526, m_ca h1 (d := 16) (off := 0) (n := 96) (by decide +kernel), m_cc h1 (by decide +kernel) (by decide +kernel) i1 i2 i3 l1 l2]
  exact hp
theorem e8_17895_AE17_487 {h h' : qH} {x : Nat → Int} {F : aF} (h1 : m_cpd h h' 17 487 (x 0) (x 1) (x 2)) (i1 : 0 ≤ x 0) (i2 : 0 ≤ x 1) (i3 : 0 ≤ x 2) (l1 : x 0 + x 2 ≤ a_cl q_SP 17) (l2 : x 1 + x 2 ≤ a_cl q_SP 487) (hp : p_AE17_487 (m_ac (m_gh h) 17 0 96) (m_cpx (m_ac (m_gh h) 17 0 96) (m_ac (m_gh h) 487 0 96) (x 0) (x 1) (x 2)) (m_ep x F)) : a_Rc q_SP 557 h' x 14855280471424563298790539602 F := by
  refine m_eR rfl ?_
  rw [f_AE17_487, m_ca h1 (d := 17) (off := 0) (n := 96) (by decide +kernel), m_cc h1 (by decide +kernel) (by decide +kernel) i1 i2 i3 l1 l2]
  exact hp
theorem e8_17915_AE17_507 {h h' : qH} {x : Nat → Int} {F : aF} (h1 : m_cpd h h' 17 507 (x 0) (x 1) (x 2)) (i1 : 0 ≤ x 0) (i2 : 0 ≤ x 1) (i3 : 0 ≤ x 2) (l1 : x 0 + x 2 ≤ a_cl q_SP 17) (l2 : x 1 + x 2 ≤ a_cl q_SP 507) (hp : p_AE17_507 (m_ac (m_gh h) 17 0 96) (m_cpx (m_ac (m_gh h) 17 0 96) (m_ac (m_gh h) 507 0 96) (x 0) (x 1) (x 2)) (m_ep x F)) : a_Rc q_SP 557 h' x 24758800785707605497983533396 F := by
  refine m_eR rfl ?_
  rw [f_AE17_507, m_ca h1 (d := 17) (off := 0) (n := 96) (by decide +kernel), m_cc h1 (by decide +kernel) (by decide +kernel) i1 i2 i3 l1 l2]
  exact hp
theorem e8_17935_AE17_527 {h h' : qH} {x : Nat → Int} {F : aF} (h1 : m_cpd h h' 17 527 (x 0) (x 1) (x 2)) (i1 : 0 ≤ x 0) (i2 : 0 ≤ x 1) (i3 : 0 ≤ x 2) (l1 : x 0 + x 2 ≤ a_cl q_SP 17) (l2 : x 1 + x 2 ≤ a_cl q_SP 527) (hp : p_AE17_527 (m_ac (m_gh h) 17 0 96) (m_cpx (m_ac (m_gh h) 17 0 96) (m_ac (m_gh h) 527 0 96) (x 0) (x 1) (x 2)) (m_ep x F)) : a_Rc q_SP 557 h' x 44565841414273689896369520982 F := by
  refine m_eR rfl ?_
  rw [f_AE17_527, m_ca h1 (d := 17) (off := 0) (n := 96) (by decide +kernel), m_cc h1 (by decide +kernel) (by decide +kernel) i1 i2 i3 l1 l2]
  exact hp
theorem e8_36879_AE36_15 {h h' : qH} {x : Nat → Int} {F : aF} (h1 : m_cpd h h' 36 15 (x 0) (x 1) (x 2)) (i1 : 0 ≤ x 0) (i2 : 0 ≤ x 1) (i3 : 0 ≤ x 2) (l1 : x 0 + x 2 ≤ a_cl q_SP 36) (l2 : x 1 + x 2 ≤ a_cl q_SP 15) (hp : p_AE36_15 (m_ac (m_gh h) 36 0 96) (m_cpx (m_ac (m_gh h) 36 0 96) (m_ac (m_gh h) 15 0 96) (x 0) (x 1) (x 2)) (m_ep x F)) : a_Rc q_SP 557 h' x 5192296860952679267759754679681454 F := by
  refine m_eR rfl ?_
  rw [f_AE36_15, m_ca h1 (d := 36) (off := 0) (n := 96) (by decide +kernel), m_cc h1 (by decide +kernel) (by decide +kernel) i1 i2 i3 l1 l2]
  exact hp
theorem e8_37904_AE37_16 {h h' : qH} {x : Nat → Int} {F : aF} (h1 : m_cpd h h' 37 16 (x 0) (x 1) (x 2)) (i1 : 0 ≤ x 0) (i2 : 0 ≤ x 1) (i3 : 0 ≤ x 2) (l1 : x 0 + x 2 ≤ a_cl q_SP 37) (l2 : x 1 + x 2 ≤ a_cl q_SP 16) (hp : p_AE37_16 (m_ac (m_gh h) 37 0 96) (m_cpx (m_ac (m_gh h) 37 0 96) (m_ac (m_gh h) 16 0 96) (x 0) (x 1) (x 2)) (m_ep x F)) : a_Rc q_SP 557 h' x 386856262276681335907025226 F := by
  refine m_eR rfl ?_
  rw [f_AE37_16, m_ca h1 (d := 37) (off := 0) (n := 96) (by decide +kernel), m_cc h1 (by decide +kernel) (by decide +kernel) i1 i2 i3 l1 l2]
  exact hp
theorem e8_38929_AE38_17 {h h' : qH} {x : Nat → Int} {F : aF} (h1 : m_cpd h h' 38 17 (x 0) (x 1) (x 2)) (i1 : 0 ≤ x 0) (i2 : 0 ≤ x 1) (i3 : 0 ≤ x 2) (l1 : x 0 + x 2 ≤ a_cl q_SP 38) (l2 : x 1 + x 2 ≤ a_cl q_SP 17) (hp : p_AE38_17 (m_ac (m_gh h) 38 0 96) (m_cpx (m_ac (m_gh h) 38 0 96) (m_ac (m_gh h) 17 0 96) (x 0) (x 1) (x 2)) (m_ep x F)) : a_Rc q_SP 557 h' x 5106502662052193633959936337 F := by
  refine m_eR rfl ?_
  rw [f_AE38_17, m_ca h1 (d := 38) (off := 0) (n := 96) (by decide +kernel), m_cc h1 (by decide +kernel) (by decide +kernel) i1 i2 i3 l1 l2]
  exact hp
theorem e8_496655_AE485_15 {h h' : qH} {x : Nat → Int} {F : aF} (h1 : m_cpd h h' 485 15 (x 0) (x 1) (x 2)) (i1 : 0 ≤ x 0) (i2 : 0 ≤ x 1) (i3 : 0 ≤ x 2) (l1 : x 0 + x 2 ≤ a_cl q_SP 485) (l2 : x 1 + x 2 ≤ a_cl q_SP 15) (hp : p_AE485_15 (m_cpx (m_ac (m_gh h) 485 0 96) (m_ac (m_gh h) 15 0 96) (x 0) (x 1) (x 2)) (m_ac (m_gh h) 485 0 96) (m_ep x F)) : a_Rc q_SP 557 h' x 15576890575604482885591488988709296 F := by
  refine m_eR rfl ?_
  rw [f_AE485_15, m_cc h1 (by decide +kernel) (by decide +kernel) i1 i2 i3 l1 l2, m_ca h1 (d := 485) (off := 0) (n := 96) (by decide +kernel)]
  exact hp
theorem e8_497680_AE486_16 {h h' : qH} {x : Nat → Int} {F : aF} (h1 : m_cpd h h' 486 16 (x 0) (x 1) (x 2)) (i1 : 0 ≤ x 0) (i2 : 0 ≤ x 1) (i3 : 0 ≤ x 2) (l1 : x 0 + x 2 ≤ a_cl q_SP 486) (l2 : x 1 + x 2 ≤ a_cl q_SP 16) (hp : p_AE486_16 (m_cpx (m_ac (m_gh h) 486 0 96) (m_ac (m_gh h) 16 0 96) (x 0) (x 1) (x 2)) (m_ac (m_gh h) 486 0 96) (m_ep x F)) : a_Rc q_SP 557 h' x 928455029464035206175392076 F := by
  refine m_eR rfl ?_
  rw [f_AE486_16, m_cc h1 (by decide +kernel) (by decide +kernel) i1 i2 i3 l1 l2, m_ca h1 (d := 486) (off := 0) (n := 96) (by decide +kernel)]
  exact hp
theorem e8_498705_AE487_17 {h h' : qH} {x : Nat → Int} {F : aF} (h1 : m_cpd h h' 487 17 (x 0) (x 1) (x 2)) (i1 : 0 ≤ x 0) (i2 : 0 ≤ x 1) (i3 : 0 ≤ x 2) (l1 : x 0 + x 2 ≤ a_cl q_SP 487) (l2 : x 1 + x 2 ≤ a_cl q_SP 17) (hp : p_AE487_17 (m_cpx (m_ac (m_gh h) 487 0 96) (m_ac (m_gh h) 17 0 96) (x 0) (x 1) (x 2)) (m_ac (m_gh h) 487 0 96) (m_ep x F)) : a_Rc q_SP 557 h' x 14855280471424563298790539603 F := by
  refine m_eR rfl ?_
  rw [f_AE487_17, m_cc h1 (by decide +kernel) (by decide +kernel) i1 i2 i3 l1 l2, m_ca h1 (d := 487) (off := 0) (n := 96) (by decide +kernel)]
  exact hp
theorem e8_517135_AE505_15 {h h' : qH} {x : Nat → Int} {F : aF} (h1 : m_cpd h h' 505 15 (x 0) (x 1) (x 2)) (i1 : 0 ≤ x 0) (i2 : 0 ≤ x 1) (i3 : 0 ≤ x 2) (l1 : x 0 + x 2 ≤ a_cl q_SP 505) (l2 : x 1 + x 2 ≤ a_cl q_SP 15) (hp : p_AE505_15 (m_cpx (m_ac (m_gh h) 505 0 96) (m_ac (m_gh h) 15 0 96) (x 0) (x 1) (x 2)) (m_ac (m_gh h) 505 0 96) (m_ep x F)) : a_Rc q_SP 557 h' x 25961484292674138142652481647149490 F := by
  refine m_eR rfl ?_
  rw [f_AE505_15, m_cc h1 (by decide +kernel) (by decide +kernel) i1 i2 i3 l1 l2, m_ca h1 (d := 505) (off := 0) (n := 96) (by decide +kernel)]
  exact hp
theorem e8_518160_AE506_16 {h h' : qH} {x : Nat → Int} {F : aF} (h1 : m_cpd h h' 506 16 (x 0) (x 1) (x 2)) (i1 : 0 ≤ x 0) (i2 : 0 ≤ x 1) (i3 : 0 ≤ x 2) (l1 : x 0 + x 2 ≤ a_cl q_SP 506) (l2 : x 1 + x 2 ≤ a_cl q_SP 16) (hp : p_AE506_16 (m_cpx (m_ac (m_gh h) 506 0 96) (m_ac (m_gh h) 16 0 96) (x 0) (x 1) (x 2)) (m_ac (m_gh h) 506 0 96) (m_ep x F)) : a_Rc q_SP 557 h' x 1547425049106725343624954190 F := by
  refine m_eR rfl ?_
  rw [f_AE506_16, m_cc h1 (by decide +kernel) (by decide +kernel) i1 i2 i3 l1 l2, m_ca h1 (d := 506) (off := 0) (n := 96) (by decide +kernel)]
  exact hp
theorem e8_519185_AE507_17 {h h' : qH} {x : Nat → Int} {F : aF} (h1 : m_cpd h h' 507 17 (x 0) (x 1) (x 2)) (i1 : 0 ≤ x 0) (i2 : 0 ≤ x 1) (i3 : 0 ≤ x 2) (l1 : x 0 + x 2 ≤ a_cl q_SP 507) (l2 : x 1 + x 2 ≤ a_cl q_SP 17) (hp : p_AE507_17 (m_cpx (m_ac (m_gh h) 507 0 96) (m_ac (m_gh h) 17 0 96) (x 0) (x 1) (x 2)) (m_ac (m_gh h) 507 0 96) (m_ep x F)) : a_Rc q_SP 557 h' x 24758800785707605497983533397 F := by
  refine m_eR rfl ?_
  rw [f_AE507_17, m_cc h1 (by decide +kernel) (by decide +kernel) i1 i2 i3 l1 l2, m_ca h1 (d := 507) (off := 0) (n := 96) (by decide +kernel)]
  exact hp
theorem e8_537615_AE525_15 {h h' : qH} {x : Nat → Int} {F : aF} (h1 : m_cpd h h' 525 15 (x 0) (x 1) (x 2)) (i1 : 0 ≤ x 0) (i2 : 0 ≤ x 1) (i3 : 0 ≤ x 2) (l1 : x 0 + x 2 ≤ a_cl q_SP 525) (l2 : x 1 + x 2 ≤ a_cl q_SP 15) (hp : p_AE525_15 (m_cpx (m_ac (m_gh h) 525 0 96) (m_ac (m_gh h) 15 0 96) (x 0) (x 1) (x 2)) (m_ac (m_gh h) 525 0 96) (m_ep x F)) : a_Rc q_SP 557 h' x 46730671726813448656774466964029876 F := by
  refine m_eR rfl ?_
  rw [f_AE525_15, m_cc h1 (by decide +kernel) (by decide +kernel) i1 i2 i3 l1 l2, m_ca h1 (d := 525) (off := 0) (n := 96) (by decide +kernel)]
  exact hp
theorem e8_538640_AE526_16 {h h' : qH} {x : Nat → Int} {F : aF} (h1 : m_cpd h h' 526 16 (x 0) (x 1) (x 2)) (i1 : 0 ≤ x 0) (i2 : 0 ≤ x 1) (i3 : 0 ≤ x 2) (l1 : x 0 + x 2 ≤ a_cl q_SP 526) (l2 : x 1 + x 2 ≤ a_cl q_SP 16) (hp : p_AE526_16 (m_cpx (m_ac (m_gh h) 526 0 96) (m_ac (m_gh h) 16 0 96) (x 0) (x 1) (x 2)) (m_ac (m_gh h) 526 0 96) (m_ep x F)) : a_Rc q_SP 557 h' x 2785365088392105618524078416 F := by
  refine m_eR rfl ?_
  rw [f_AE526_16, m_cc h1 (by decide +kernel) (by decide +kernel) i1 i2 i3 l1 l2, m_ca h1 (d := 526) (off := 0) (n := 96) (by decide +kernel)]
  exact hp
theorem e8_539665_AE527_17 {h h' : qH} {x : Nat → Int} {F : aF} (h1 : m_cpd h h' 527 17 (x 0) (x 1) (x 2)) (i1 : 0 ≤ x 0) (i2 : 0 ≤ x 1) (i3 : 0 ≤ x 2) (l1 : x 0 + x 2 ≤ a_cl q_SP 527) (l2 : x 1 + x 2 ≤ a_cl q_SP 17) (hp : p_AE527_17 (m_cpx (m_ac (m_gh h) 527 0 96) (m_ac (m_gh h) 17 0 96) (x 0) (x 1) (x 2)) (m_ac (m_gh h) 527 0 96) (m_ep x F)) : a_Rc q_SP 557 h' x 44565841414273689896369520983 F := by
  refine m_eR rfl ?_
  rw [f_AE527_17, m_cc h1 (by decide +kernel) (by decide +kernel) i1 i2 i3 l1 l2, m_ca h1 (d := 527) (off := 0) (n := 96) (by decide +kernel)]
  exact hp
theorem e1_44_AT {h h' : qH} {x : Nat → Int} {F : aF} (h1 : m_one h h' 44 (x 0).toNat (0, a_w (x 1))) (i1 : 0 ≤ x 0) (i2 : x 0 < 60) (v1 : -2147483648 ≤ x 1) (v2 : x 1 < 2147483648) (hp : p_AT (m_up (m_ac (m_gh h) 44 0 60) (x 0) (x 1)) (m_ep x F)) : a_Rc q_SP 557 h' x 144115188076904461 F := by
  refine m_eR rfl ?_
  rw [f_AT, m_uc h1 (m_int0 v1 v2) (by decide +kernel) i1 i2]
  exact hp
theorem e1_542_CA {h h' : qH} {x : Nat → Int} {F : aF} (h1 : m_one h h' 542 (x 0).toNat (0, a_w (x 1))) (i1 : 0 ≤ x 0) (i2 : x 0 < 96) (v1 : -2147483648 ≤ x 1) (v2 : x 1 < 2147483648) (hp : p_CA (m_up (m_ac (m_gh h) 542 0 96) (x 0) (x 1)) (m_ac (m_gh h) 539 0 6) (m_ac (m_gh h) 539 7 42) (m_ep x F)) : a_Rc q_SP 557 h' x 475368975085586025569854685558 F := by
  refine m_eR rfl ?_
  rw [f_CA, m_uc h1 (m_int0 v1 v2) (by decide +kernel) i1 i2, m_ua h1 (d := 539) (off := 0) (n := 6) (by decide +kernel), m_ua h1 (d := 539) (off := 7) (n := 42) (by decide +kernel)]
  exact hp
theorem e1_539_CAR {h h' : qH} {x : Nat → Int} {F : aF} (h1 : m_one h h' 539 (x 0).toNat (0, a_w (x 1))) (i1 : 0 ≤ x 0) (v1 : -2147483648 ≤ x 1) (v2 : x 1 < 2147483648) (hp : p_CAR (m_ac (m_gh h) 538 0 900) (m_gh h 534 9) (m_upo 1440 360 (m_ac (m_gh h) 539 1440 360) (x 0) (x 1)) (m_ac (m_gh h) 541 0 4) (m_ep x F)) : a_Rc q_SP 557 h' x 4835703279760338467160319 F := by
  refine m_eR rfl ?_
  rw [f_CAR, m_ua h1 (d := 538) (off := 0) (n := 900) (by decide +kernel), m_us h1 (d := 534) (q := 9) (by decide +kernel), m_ucx (off := 1440) (n := 360) h1 (m_int0 v1 v2) (by decide +kernel) i1, m_ua h1 (d := 541) (off := 0) (n := 4) (by decide +kernel)]
  exact hp
theorem e5_541_CAR {h h' : qH} {x : Nat → Int} {F : aF} (h1 : m_one h h' 541 (x 0).toNat (3, a_W (x 1))) (i1 : 0 ≤ x 0) (i2 : x 0 < 4) (v1 : -9223372036854775808 ≤ x 1) (v2 : x 1 < 9223372036854775808) (hp : p_CAR (m_ac (m_gh h) 538 0 900) (m_gh h 534 9) (m_ac (m_gh h) 539 1440 360) (m_up (m_ac (m_gh h) 541 0 4) (x 0) (x 1)) (m_ep x F)) : a_Rc q_SP 557 h' x 4835703279760338467160319 F := by
  refine m_eR rfl ?_
  rw [f_CAR, m_ua h1 (d := 538) (off := 0) (n := 900) (by decide +kernel), m_us h1 (d := 534) (q := 9) (by decide +kernel), m_ua h1 (d := 539) (off := 1440) (n := 360) (by decide +kernel), m_uc h1 (m_int3 v1 v2) (by decide +kernel) i1 i2]
  exact hp
theorem e1_539_CB01 {h h' : qH} {x : Nat → Int} {F : aF} (h1 : m_one h h' 539 (x 0).toNat (0, a_w (x 1))) (i1 : 0 ≤ x 0) (v1 : -2147483648 ≤ x 1) (v2 : x 1 < 2147483648) (hp : p_CB01 (m_upo 0 360 (m_ac (m_gh h) 539 0 360) (x 0) (x 1)) (m_upo 360 360 (m_ac (m_gh h) 539 360 360) (x 0) (x 1)) (m_ep x F)) : a_Rc q_SP 557 h' x 324518573001239840617222816924007 F := by
  refine m_eR rfl ?_
  rw [f_CB01, m_ucx (off := 0) (n := 360) h1 (m_int0 v1 v2) (by decide +kernel) i1, m_ucx (off := 360) (n := 360) h1 (m_int0 v1 v2) (by decide +kernel) i1]
  exact hp
theorem e1_539_CB02 {h h' : qH} {x : Nat → Int} {F : aF} (h1 : m_one h h' 539 (x 0).toNat (0, a_w (x 1))) (i1 : 0 ≤ x 0) (v1 : -2147483648 ≤ x 1) (v2 : x 1 < 2147483648) (hp : p_CB02 (m_upo 0 360 (m_ac (m_gh h) 539 0 360) (x 0) (x 1)) (m_upo 720 360 (m_ac (m_gh h) 539 720 360) (x 0) (x 1)) (m_ep x F)) : a_Rc q_SP 557 h' x 649037126659666567400378837500264 F := by
  refine m_eR rfl ?_
  rw [f_CB02, m_ucx (off := 0) (n := 360) h1 (m_int0 v1 v2) (by decide +kernel) i1, m_ucx (off := 720) (n := 360) h1 (m_int0 v1 v2) (by decide +kernel) i1]
  exact hp
theorem e1_539_CB03 {h h' : qH} {x : Nat → Int} {F : aF} (h1 : m_one h h' 539 (x 0).toNat (0, a_w (x 1))) (i1 : 0 ≤ x 0) (v1 : -2147483648 ≤ x 1) (v2 : x 1 < 2147483648) (hp : p_CB03 (m_upo 0 360 (m_ac (m_gh h) 539 0 360) (x 0) (x 1)) (m_upo 1080 360 (m_ac (m_gh h) 539 1080 360) (x 0) (x 1)) (m_ep x F)) : a_Rc q_SP 557 h' x 1298074233976520020966690878652777 F := by
  refine m_eR rfl ?_
  rw [f_CB03, m_ucx (off := 0) (n := 360) h1 (m_int0 v1 v2) (by decide +kernel) i1, m_ucx (off := 1080) (n := 360) h1 (m_int0 v1 v2) (by decide +kernel) i1]
  exact hp
theorem e1_539_CB10 {h h' : qH} {x : Nat → Int} {F : aF} (h1 : m_one h h' 539 (x 0).toNat (0, a_w (x 1))) (i1 : 0 ≤ x 0) (v1 : -2147483648 ≤ x 1) (v2 : x 1 < 2147483648) (hp : p_CB10 (m_upo 0 360 (m_ac (m_gh h) 539 0 360) (x 0) (x 1)) (m_upo 360 360 (m_ac (m_gh h) 539 360 360) (x 0) (x 1)) (m_ep x F)) : a_Rc q_SP 557 h' x 324518573001239840617222816924010 F := by
  refine m_eR rfl ?_
  rw [f_CB10, m_ucx (off := 0) (n := 360) h1 (m_int0 v1 v2) (by decide +kernel) i1, m_ucx (off := 360) (n := 360) h1 (m_int0 v1 v2) (by decide +kernel) i1]
  exact hp
theorem e1_539_CB20 {h h' : qH} {x : Nat → Int} {F : aF} (h1 : m_one h h' 539 (x 0).toNat (0, a_w (x 1))) (i1 : 0 ≤ x 0) (v1 : -2147483648 ≤ x 1) (v2 : x 1 < 2147483648) (hp : p_CB20 (m_upo 0 360 (m_ac (m_gh h) 539 0 360) (x 0) (x 1)) (m_upo 720 360 (m_ac (m_gh h) 539 720 360) (x 0) (x 1)) (m_ep x F)) : a_Rc q_SP 557 h' x 649037126659666567400378837500267 F := by
  refine m_eR rfl ?_
  rw [f_CB20, m_ucx (off := 0) (n := 360) h1 (m_int0 v1 v2) (by decide +kernel) i1, m_ucx (off := 720) (n := 360) h1 (m_int0 v1 v2) (by decide +kernel) i1]
  exact hp
theorem e1_539_CB30 {h h' : qH} {x : Nat → Int} {F : aF} (h1 : m_one h h' 539 (x 0).toNat (0, a_w (x 1))) (i1 : 0 ≤ x 0) (v1 : -2147483648 ≤ x 1) (v2 : x 1 < 2147483648) (hp : p_CB30 (m_upo 0 360 (m_ac (m_gh h) 539 0 360) (x 0) (x 1)) (m_upo 1080 360 (m_ac (m_gh h) 539 1080 360) (x 0) (x 1)) (m_ep x F)) : a_Rc q_SP 557 h' x 1298074233976520020966690878652780 F := by
  refine m_eR rfl ?_
  rw [f_CB30, m_ucx (off := 0) (n := 360) h1 (m_int0 v1 v2) (by decide +kernel) i1, m_ucx (off := 1080) (n := 360) h1 (m_int0 v1 v2) (by decide +kernel) i1]
  exact hp
theorem e1_539_CBR {h h' : qH} {x : Nat → Int} {F : aF} (h1 : m_one h h' 539 (x 0).toNat (0, a_w (x 1))) (i1 : 0 ≤ x 0) (v1 : -2147483648 ≤ x 1) (v2 : x 1 < 2147483648) (hp : p_CBR (m_ac (m_gh h) 538 0 900) (m_gh h 534 9) (m_upo 1440 360 (m_ac (m_gh h) 539 1440 360) (x 0) (x 1)) (m_ac (m_gh h) 541 0 4) (m_ep x F)) : a_Rc q_SP 557 h' x 4835703279760338467160320 F := by
  refine m_eR rfl ?_
  rw [f_CBR, m_ua h1 (d := 538) (off := 0) (n := 900) (by decide +kernel), m_us h1 (d := 534) (q := 9) (by decide +kernel), m_ucx (off := 1440) (n := 360) h1 (m_int0 v1 v2) (by decide +kernel) i1, m_ua h1 (d := 541) (off := 0) (n := 4) (by decide +kernel)]
  exact hp
theorem e1_27_CC1 {h h' : qH} {x : Nat → Int} {F : aF} (h1 : m_one h h' 27 (x 0).toNat (0, a_w (x 1))) (i1 : 0 ≤ x 0) (i2 : x 0 < 6) (v1 : -2147483648 ≤ x 1) (v2 : x 1 < 2147483648) (hp : p_CC1 (m_ac (m_gh h) 3 0 900) (m_gh h 2 7) (m_gh h 26 0) (m_gh h 26 1) (m_gh h 26 2) (m_gh h 26 3) (m_gh h 26 4) (m_gh h 26 5) (m_gh h 26 6) (m_gh h 25 3) (m_up (m_ac (m_gh h) 27 0 6) (x 0) (x 1)) (m_ac (m_gh h) 28 0 4) (m_ac (m_gh h) 29 0 4) (m_ac (m_gh h) 32 0 96) (m_ac (m_gh h) 35 0 96) (m_ac (m_gh h) 36 0 96) (m_ac (m_gh h) 39 0 4) (m_ac (m_gh h) 40 0 4) (m_ep x F)) : a_Rc q_SP 557 h' x 4699308052777509322952 F := by
  refine m_eR rfl ?_
  rw [f_CC1, m_ua h1 (d := 3) (off := 0) (n := 900) (by decide +kernel), m_us h1 (d := 2) (q := 7) (by decide +kernel), m_us h1 (d := 26) (q := 0) (by decide +kernel), m_us h1 (d := 26) (q := 1) (by decide +kernel), m_us h1 (d := 26) (q := 2) (by decide +kernel), m_us h1 (d := 26) (q := 3) (by decide +kernel), m_us h1 (d := 26) (q := 4) (by decide +kernel), m_us h1 (d := 26) (q := 5) (by decide +kernel), m_us h1 (d := 26) (q := 6) (by decide +kernel), m_us h1 (d := 25) (q := 3) (by decide +kernel), m_uc h1 (m_int0 v1 v2) (by decide +kernel) i1 i2, m_ua h1 (d := 28) (off := 0) (n := 4) (by decide +kernel), m_ua h1 (d := 29) (off := 0) (n := 4) (by decide +kernel), m_ua h1 (d := 32) (off := 0) (n := 96) (by decide +kernel), m_ua h1 (d := 35) (off := 0) (n := 96) (by decide +kernel), m_ua h1 (d := 36) (off := 0) (n := 96) (by decide +kernel), m_ua h1 (d := 39) (off := 0) (n := 4) (by decide +kernel), m_ua h1 (d := 40) (off := 0) (n := 4) (by decide +kernel)]
  exact hp
theorem e1_32_CC2 {h h' : qH} {x : Nat → Int} {F : aF} (h1 : m_one h h' 32 (x 0).toNat (0, a_w (x 1))) (i1 : 0 ≤ x 0) (i2 : x 0 < 96) (v1 : -2147483648 ≤ x 1) (v2 : x 1 < 2147483648) (hp : p_CC2 (m_ac (m_gh h) 3 0 900) (m_gh h 2 7) (m_gh h 26 0) (m_gh h 26 1) (m_gh h 26 2) (m_gh h 26 3) (m_gh h 26 4) (m_gh h 26 5) (m_gh h 26 6) (m_gh h 25 3) (m_ac (m_gh h) 27 0 6) (m_ac (m_gh h) 28 0 4) (m_ac (m_gh h) 29 0 4) (m_up (m_ac (m_gh h) 32 0 96) (x 0) (x 1)) (m_ac (m_gh h) 35 0 96) (m_ac (m_gh h) 36 0 96) (m_ac (m_gh h) 39 0 4) (m_ac (m_gh h) 40 0 4) (m_ep x F)) : a_Rc q_SP 557 h' x 4699308052777509322953 F := by
  refine m_eR rfl ?_
  rw [f_CC2, m_ua h1 (d := 3) (off := 0) (n := 900) (by decide +kernel), m_us h1 (d := 2) (q := 7) (by decide +kernel), m_us h1 (d := 26) (q := 0) (by decide +kernel), m_us h1 (d := 26) (q := 1) (by decide +kernel), m_us h1 (d := 26) (q := 2) (by decide +kernel), m_us h1 (d := 26) (q := 3) (by decide +kernel), m_us h1 (d := 26) (q := 4) (by decide +kernel), m_us h1 (d := 26) (q := 5) (by decide +kernel), m_us h1 (d := 26) (q := 6) (by decide +kernel), m_us h1 (d := 25) (q := 3) (by decide +kernel), m_ua h1 (d := 27) (off := 0) (n := 6) (by decide +kernel), m_ua h1 (d := 28) (off := 0) (n := 4) (by decide +kernel), m_ua h1 (d := 29) (off := 0) (n := 4) (by decide +kernel), m_uc h1 (m_int0 v1 v2) (by decide +kernel) i1 i2, m_ua h1 (d := 35) (off := 0) (n := 96) (by decide +kernel), m_ua h1 (d := 36) (off := 0) (n := 96) (by decide +kernel), m_ua h1 (d := 39) (off := 0) (n := 4) (by decide +kernel), m_ua h1 (d := 40) (off := 0) (n := 4) (by decide +kernel)]
  exact hp
theorem e1_36_CD1 {h h' : qH} {x : Nat → Int} {F : aF} (h1 : m_one h h' 36 (x 0).toNat (0, a_w (x 1))) (i1 : 0 ≤ x 0) (i2 : x 0 < 96) (v1 : -2147483648 ≤ x 1) (v2 : x 1 < 2147483648) (hp : p_CD1 (m_ac (m_gh h) 3 0 900) (m_gh h 2 7) (m_gh h 26 0) (m_gh h 26 1) (m_gh h 26 2) (m_gh h 26 3) (m_gh h 26 4) (m_gh h 26 5) (m_gh h 26 6) (m_gh h 25 3) (m_ac (m_gh h) 27 0 6) (m_ac (m_gh h) 28 0 4) (m_ac (m_gh h) 29 0 4) (m_ac (m_gh h) 32 0 96) (m_ac (m_gh h) 35 0 96) (m_up (m_ac (m_gh h) 36 0 96) (x 0) (x 1)) (m_ac (m_gh h) 39 0 4) (m_ac (m_gh h) 40 0 4) (m_ep x F)) : a_Rc q_SP 557 h' x 4699308052777509322961 F := by
  refine m_eR rfl ?_
  rw [f_CD1, m_ua h1 (d := 3) (off := 0) (n := 900) (by decide +kernel), m_us h1 (d := 2) (q := 7) (by decide +kernel), m_us h1 (d := 26) (q := 0) (by decide +kernel), m_us h1 (d := 26) (q := 1) (by decide +kernel), m_us h1 (d := 26) (q := 2) (by decide +kernel), m_us h1 (d := 26) (q := 3) (by decide +kernel), m_us h1 (d := 26) (q := 4) (by decide +kernel), m_us h1 (d := 26) (q := 5) (by decide +kernel), m_us h1 (d := 26) (q := 6) (by decide +kernel), m_us h1 (d := 25) (q := 3) (by decide +kernel), m_ua h1 (d := 27) (off := 0) (n := 6) (by decide +kernel), m_ua h1 (d := 28) (off := 0) (n := 4) (by decide +kernel), m_ua h1 (d := 29) (off := 0) (n := 4) (by decide +kernel), m_ua h1 (d := 32) (off := 0) (n := 96) (by decide +kernel), m_ua h1 (d := 35) (off := 0) (n := 96) (by decide +kernel), m_uc h1 (m_int0 v1 v2) (by decide +kernel) i1 i2, m_ua h1 (d := 39) (off := 0) (n := 4) (by decide +kernel), m_ua h1 (d := 40) (off := 0) (n := 4) (by decide +kernel)]
  exact hp
theorem e1_539_CFAR {h h' : qH} {x : Nat → Int} {F : aF} (h1 : m_one h h' 539 (x 0).toNat (0, a_w (x 1))) (i1 : 0 ≤ x 0) (v1 : -2147483648 ≤ x 1) (v2 : x 1 < 2147483648) (hp : p_CFAR (m_ac (m_gh h) 538 0 900) (m_gh h 534 9) (m_upo 1440 360 (m_ac (m_gh h) 539 1440 360) (x 0) (x 1)) (m_ac (m_gh h) 541 0 4) (m_ep x F)) : a_Rc q_SP 557 h' x 4835703279760338467160318 F := by
  refine m_eR rfl ?_
  rw [f_CFAR, m_ua h1 (d := 538) (off := 0) (n := 900) (by decide +kernel), m_us h1 (d := 534) (q := 9) (by decide +kernel), m_ucx (off := 1440) (n := 360) h1 (m_int0 v1 v2) (by decide +kernel) i1, m_ua h1 (d := 541) (off := 0) (n := 4) (by decide +kernel)]
  exact hp
theorem e1_539_CFR {h h' : qH} {x : Nat → Int} {F : aF} (h1 : m_one h h' 539 (x 0).toNat (0, a_w (x 1))) (i1 : 0 ≤ x 0) (v1 : -2147483648 ≤ x 1) (v2 : x 1 < 2147483648) (hp : p_CFR (m_ac (m_gh h) 538 0 900) (m_gh h 534 9) (m_upo 1440 360 (m_ac (m_gh h) 539 1440 360) (x 0) (x 1)) (m_ac (m_gh h) 541 0 4) (m_ep x F)) : a_Rc q_SP 557 h' x 4835703279760338467160314 F := by
  refine m_eR rfl ?_
  rw [f_CFR, m_ua h1 (d := 538) (off := 0) (n := 900) (by decide +kernel), m_us h1 (d := 534) (q := 9) (by decide +kernel), m_ucx (off := 1440) (n := 360) h1 (m_int0 v1 v2) (by decide +kernel) i1, m_ua h1 (d := 541) (off := 0) (n := 4) (by decide +kernel)]
  exact hp
theorem e1_542_CFX {h h' : qH} {x : Nat → Int} {F : aF} (h1 : m_one h h' 542 (x 0).toNat (0, a_w (x 1))) (i1 : 0 ≤ x 0) (i2 : x 0 < 96) (v1 : -2147483648 ≤ x 1) (v2 : x 1 < 2147483648) (hp : p_CFX (m_up (m_ac (m_gh h) 542 0 96) (x 0) (x 1)) (m_ac (m_gh h) 539 0 6) (m_ac (m_gh h) 539 7 42) (m_ep x F)) : a_Rc q_SP 557 h' x 475368975085586025569854685559 F := by
  refine m_eR rfl ?_
  rw [f_CFX, m_uc h1 (m_int0 v1 v2) (by decide +kernel) i1 i2, m_ua h1 (d := 539) (off := 0) (n := 6) (by decide +kernel), m_ua h1 (d := 539) (off := 7) (n := 42) (by decide +kernel)]
  exact hp
theorem e1_28_CM1 {h h' : qH} {x : Nat → Int} {F : aF} (h1 : m_one h h' 28 (x 0).toNat (0, a_w (x 1))) (i1 : 0 ≤ x 0) (i2 : x 0 < 4) (v1 : -2147483648 ≤ x 1) (v2 : x 1 < 2147483648) (hp : p_CM1 (m_ac (m_gh h) 3 0 900) (m_gh h 2 7) (m_gh h 26 0) (m_gh h 26 1) (m_gh h 26 2) (m_gh h 26 3) (m_gh h 26 4) (m_gh h 26 5) (m_gh h 26 6) (m_gh h 25 3) (m_ac (m_gh h) 27 0 6) (m_up (m_ac (m_gh h) 28 0 4) (x 0) (x 1)) (m_ac (m_gh h) 29 0 4) (m_ac (m_gh h) 32 0 96) (m_ac (m_gh h) 35 0 96) (m_ac (m_gh h) 36 0 96) (m_ac (m_gh h) 39 0 4) (m_ac (m_gh h) 40 0 4) (m_ep x F)) : a_Rc q_SP 557 h' x 4699308052777509322955 F := by
  refine m_eR rfl ?_
  rw [f_CM1, m_ua h1 (d := 3) (off := 0) (n := 900) (by decide +kernel), m_us h1 (d := 2) (q := 7) (by decide +kernel), m_us h1 (d := 26) (q := 0) (by decide +kernel), m_us h1 (d := 26) (q := 1) (by decide +kernel), m_us h1 (d := 26) (q := 2) (by decide +kernel), m_us h1 (d := 26) (q := 3) (by decide +kernel), m_us h1 (d := 26) (q := 4) (by decide +kernel), m_us h1 (d := 26) (q := 5) (by decide +kernel), m_us h1 (d := 26) (q := 6) (by decide +kernel), m_us h1 (d := 25) (q := 3) (by decide +kernel), m_ua h1 (d := 27) (off := 0) (n := 6) (by decide +kernel), m_uc h1 (m_int0 v1 v2) (by decide +kernel) i1 i2, m_ua h1 (d := 29) (off := 0) (n := 4) (by decide +kernel), m_ua h1 (d := 32) (off := 0) (n := 96) (by decide +kernel), m_ua h1 (d := 35) (off := 0) (n := 96) (by decide +kernel), m_ua h1 (d := 36) (off := 0) (n := 96) (by decide +kernel), m_ua h1 (d := 39) (off := 0) (n := 4) (by decide +kernel), m_ua h1 (d := 40) (off := 0) (n := 4) (by decide +kernel)]
  exact hp
theorem e1_29_CM2 {h h' : qH} {x : Nat → Int} {F : aF} (h1 : m_one h h' 29 (x 0).toNat (0, a_w (x 1))) (i1 : 0 ≤ x 0) (i2 : x 0 < 4) (v1 : -2147483648 ≤ x 1) (v2 : x 1 < 2147483648) (hp : p_CM2 (m_ac (m_gh h) 3 0 900) (m_gh h 2 7) (m_gh h 26 0) (m_gh h 26 1) (m_gh h 26 2) (m_gh h 26 3) (m_gh h 26 4) (m_gh h 26 5) (m_gh h 26 6) (m_gh h 25 3) (m_ac (m_gh h) 27 0 6) (m_ac (m_gh h) 28 0 4) (m_up (m_ac (m_gh h) 29 0 4) (x 0) (x 1)) (m_ac (m_gh h) 32 0 96) (m_ac (m_gh h) 35 0 96) (m_ac (m_gh h) 36 0 96) (m_ac (m_gh h) 39 0 4) (m_ac (m_gh h) 40 0 4) (m_ep x F)) : a_Rc q_SP 557 h' x 4699308052777509322956 F := by
  refine m_eR rfl ?_
  rw [f_CM2, m_ua h1 (d := 3) (off := 0) (n := 900) (by decide +kernel), m_us h1 (d := 2) (q := 7) (by decide +kernel), m_us h1 (d := 26) (q := 0) (by decide +kernel), m_us h1 (d := 26) (q := 1) (by decide +kernel), m_us h1 (d := 26) (q := 2) (by decide +kernel), m_us h1 (d := 26) (q := 3) (by decide +kernel), m_us h1 (d := 26) (q := 4) (by decide +kernel), m_us h1 (d := 26) (q := 5) (by decide +kernel), m_us h1 (d := 26) (q := 6) (by decide +kernel), m_us h1 (d := 25) (q := 3) (by decide +kernel), m_ua h1 (d := 27) (off := 0) (n := 6) (by decide +kernel), m_ua h1 (d := 28) (off := 0) (n := 4) (by decide +kernel), m_uc h1 (m_int0 v1 v2) (by decide +kernel) i1 i2, m_ua h1 (d := 32) (off := 0) (n := 96) (by decide +kernel), m_ua h1 (d := 35) (off := 0) (n := 96) (by decide +kernel), m_ua h1 (d := 36) (off := 0) (n := 96) (by decide +kernel), m_ua h1 (d := 39) (off := 0) (n := 4) (by decide +kernel), m_ua h1 (d := 40) (off := 0) (n := 4) (by decide +kernel)]
  exact hp
theorem e1_39_CN1 {h h' : qH} {x : Nat → Int} {F : aF} (h1 : m_one h h' 39 (x 0).toNat (0, a_w (x 1))) (i1 : 0 ≤ x 0) (i2 : x 0 < 4) (v1 : -2147483648 ≤ x 1) (v2 : x 1 < 2147483648) (hp : p_CN1 (m_ac (m_gh h) 3 0 900) (m_gh h 2 7) (m_gh h 26 0) (m_gh h 26 1) (m_gh h 26 2) (m_gh h 26 3) (m_gh h 26 4) (m_gh h 26 5) (m_gh h 26 6) (m_gh h 25 3) (m_ac (m_gh h) 27 0 6) (m_ac (m_gh h) 28 0 4) (m_ac (m_gh h) 29 0 4) (m_ac (m_gh h) 32 0 96) (m_ac (m_gh h) 35 0 96) (m_ac (m_gh h) 36 0 96) (m_up (m_ac (m_gh h) 39 0 4) (x 0) (x 1)) (m_ac (m_gh h) 40 0 4) (m_ep x F)) : a_Rc q_SP 557 h' x 4699308052777509322963 F := by
  refine m_eR rfl ?_
  rw [f_CN1, m_ua h1 (d := 3) (off := 0) (n := 900) (by decide +kernel), m_us h1 (d := 2) (q := 7) (by decide +kernel), m_us h1 (d := 26) (q := 0) (by decide +kernel), m_us h1 (d := 26) (q := 1) (by decide +kernel), m_us h1 (d := 26) (q := 2) (by decide +kernel), m_us h1 (d := 26) (q := 3) (by decide +kernel), m_us h1 (d := 26) (q := 4) (by decide +kernel), m_us h1 (d := 26) (q := 5) (by decide +kernel), m_us h1 (d := 26) (q := 6) (by decide +kernel), m_us h1 (d := 25) (q := 3) (by decide +kernel), m_ua h1 (d := 27) (off := 0) (n := 6) (by decide +kernel), m_ua h1 (d := 28) (off := 0) (n := 4) (by decide +kernel), m_ua h1 (d := 29) (off := 0) (n := 4) (by decide +kernel), m_ua h1 (d := 32) (off := 0) (n := 96) (by decide +kernel), m_ua h1 (d := 35) (off := 0) (n := 96) (by decide +kernel), m_ua h1 (d := 36) (off := 0) (n := 96) (by decide +kernel), m_uc h1 (m_int0 v1 v2) (by decide +kernel) i1 i2, m_ua h1 (d := 40) (off := 0) (n := 4) (by decide +kernel)]
  exact hp
theorem e1_40_CN2 {h h' : qH} {x : Nat → Int} {F : aF} (h1 : m_one h h' 40 (x 0).toNat (0, a_w (x 1))) (i1 : 0 ≤ x 0) (i2 : x 0 < 4) (v1 : -2147483648 ≤ x 1) (v2 : x 1 < 2147483648) (hp : p_CN2 (m_ac (m_gh h) 3 0 900) (m_gh h 2 7) (m_gh h 26 0) (m_gh h 26 1) (m_gh h 26 2) (m_gh h 26 3) (m_gh h 26 4) (m_gh h 26 5) (m_gh h 26 6) (m_gh h 25 3) (m_ac (m_gh h) 27 0 6) (m_ac (m_gh h) 28 0 4) (m_ac (m_gh h) 29 0 4) (m_ac (m_gh h) 32 0 96) (m_ac (m_gh h) 35 0 96) (m_ac (m_gh h) 36 0 96) (m_ac (m_gh h) 39 0 4) (m_up (m_ac (m_gh h) 40 0 4) (x 0) (x 1)) (m_ep x F)) : a_Rc q_SP 557 h' x 4699308052777509322964 F := by
  refine m_eR rfl ?_
  rw [f_CN2, m_ua h1 (d := 3) (off := 0) (n := 900) (by decide +kernel), m_us h1 (d := 2) (q := 7) (by decide +kernel), m_us h1 (d := 26) (q := 0) (by decide +kernel), m_us h1 (d := 26) (q := 1) (by decide +kernel), m_us h1 (d := 26) (q := 2) (by decide +kernel), m_us h1 (d := 26) (q := 3) (by decide +kernel), m_us h1 (d := 26) (q := 4) (by decide +kernel), m_us h1 (d := 26) (q := 5) (by decide +kernel), m_us h1 (d := 26) (q := 6) (by decide +kernel), m_us h1 (d := 25) (q := 3) (by decide +kernel), m_ua h1 (d := 27) (off := 0) (n := 6) (by decide +kernel), m_ua h1 (d := 28) (off := 0) (n := 4) (by decide +kernel), m_ua h1 (d := 29) (off := 0) (n := 4) (by decide +kernel), m_ua h1 (d := 32) (off := 0) (n := 96) (by decide +kernel), m_ua h1 (d := 35) (off := 0) (n := 96) (by decide +kernel), m_ua h1 (d := 36) (off := 0) (n := 96) (by decide +kernel), m_ua h1 (d := 39) (off := 0) (n := 4) (by decide +kernel), m_uc h1 (m_int0 v1 v2) (by decide +kernel) i1 i2]
  exact hp
theorem e1_539_CPW {h h' : qH} {x : Nat → Int} {F : aF} (h1 : m_one h h' 539 (x 0).toNat (0, a_w (x 1))) (i1 : 0 ≤ x 0) (v1 : -2147483648 ≤ x 1) (v2 : x 1 < 2147483648) (hp : p_CPW (m_upo 0 360 (m_ac (m_gh h) 539 0 360) (x 0) (x 1)) (m_upo 1440 360 (m_ac (m_gh h) 539 1440 360) (x 0) (x 1)) (m_ep x F)) : a_Rc q_SP 557 h' x 19342813114959966703190280 F := by
  refine m_eR rfl ?_
  rw [f_CPW, m_ucx (off := 0) (n := 360) h1 (m_int0 v1 v2) (by decide +kernel) i1, m_ucx (off := 1440) (n := 360) h1 (m_int0 v1 v2) (by decide +kernel) i1]
  exact hp
theorem e1_35_CS1 {h h' : qH} {x : Nat → Int} {F : aF} (h1 : m_one h h' 35 (x 0).toNat (0, a_w (x 1))) (i1 : 0 ≤ x 0) (i2 : x 0 < 96) (v1 : -2147483648 ≤ x 1) (v2 : x 1 < 2147483648) (hp : p_CS1 (m_ac (m_gh h) 3 0 900) (m_gh h 2 7) (m_gh h 26 0) (m_gh h 26 1) (m_gh h 26 2) (m_gh h 26 3) (m_gh h 26 4) (m_gh h 26 5) (m_gh h 26 6) (m_gh h 25 3) (m_ac (m_gh h) 27 0 6) (m_ac (m_gh h) 28 0 4) (m_ac (m_gh h) 29 0 4) (m_ac (m_gh h) 32 0 96) (m_up (m_ac (m_gh h) 35 0 96) (x 0) (x 1)) (m_ac (m_gh h) 36 0 96) (m_ac (m_gh h) 39 0 4) (m_ac (m_gh h) 40 0 4) (m_ep x F)) : a_Rc q_SP 557 h' x 4699308052777509322958 F := by
  refine m_eR rfl ?_
  rw [f_CS1, m_ua h1 (d := 3) (off := 0) (n := 900) (by decide +kernel), m_us h1 (d := 2) (q := 7) (by decide +kernel), m_us h1 (d := 26) (q := 0) (by decide +kernel), m_us h1 (d := 26) (q := 1) (by decide +kernel), m_us h1 (d := 26) (q := 2) (by decide +kernel), m_us h1 (d := 26) (q := 3) (by decide +kernel), m_us h1 (d := 26) (q := 4) (by decide +kernel), m_us h1 (d := 26) (q := 5) (by decide +kernel), m_us h1 (d := 26) (q := 6) (by decide +kernel), m_us h1 (d := 25) (q := 3) (by decide +kernel), m_ua h1 (d := 27) (off := 0) (n := 6) (by decide +kernel), m_ua h1 (d := 28) (off := 0) (n := 4) (by decide +kernel), m_ua h1 (d := 29) (off := 0) (n := 4) (by decide +kernel), m_ua h1 (d := 32) (off := 0) (n := 96) (by decide +kernel), m_uc h1 (m_int0 v1 v2) (by decide +kernel) i1 i2, m_ua h1 (d := 36) (off := 0) (n := 96) (by decide +kernel), m_ua h1 (d := 39) (off := 0) (n := 4) (by decide +kernel), m_ua h1 (d := 40) (off := 0) (n := 4) (by decide +kernel)]
  exact hp
theorem e5_467_EX0 {h h' : qH} {x : Nat → Int} {F : aF} (h1 : m_one h h' 467 (x 0).toNat (3, a_W (x 1))) (i1 : 0 ≤ x 0) (i2 : x 0 < 60) (v1 : -9223372036854775808 ≤ x 1) (v2 : x 1 < 9223372036854775808) (hp : p_EX0 (m_up (m_ac (m_gh h) 467 0 60) (x 0) (x 1)) (m_ac (m_gh h) 469 0 60) (m_ac (m_gh h) 471 0 60) (m_ac (m_gh h) 473 0 60) (m_ac (m_gh h) 537 0 240) (m_ep x F)) : a_Rc q_SP 557 h' x 4323473234462769274 F := by
  refine m_eR rfl ?_
  rw [f_EX0, m_uc h1 (m_int3 v1 v2) (by decide +kernel) i1 i2, m_ua h1 (d := 469) (off := 0) (n := 60) (by decide +kernel), m_ua h1 (d := 471) (off := 0) (n := 60) (by decide +kernel), m_ua h1 (d := 473) (off := 0) (n := 60) (by decide +kernel), m_ua h1 (d := 537) (off := 0) (n := 240) (by decide +kernel)]
  exact hp
theorem e5_469_EX1 {h h' : qH} {x : Nat → Int} {F : aF} (h1 : m_one h h' 469 (x 0).toNat (3, a_W (x 1))) (i1 : 0 ≤ x 0) (i2 : x 0 < 60) (v1 : -9223372036854775808 ≤ x 1) (v2 : x 1 < 9223372036854775808) (hp : p_EX1 (m_ac (m_gh h) 467 0 60) (m_up (m_ac (m_gh h) 469 0 60) (x 0) (x 1)) (m_ac (m_gh h) 471 0 60) (m_ac (m_gh h) 473 0 60) (m_ac (m_gh h) 537 0 240) (m_ep x F)) : a_Rc q_SP 557 h' x 4323473234462769275 F := by
  refine m_eR rfl ?_
  rw [f_EX1, m_ua h1 (d := 467) (off := 0) (n := 60) (by decide +kernel), m_uc h1 (m_int3 v1 v2) (by decide +kernel) i1 i2, m_ua h1 (d := 471) (off := 0) (n := 60) (by decide +kernel), m_ua h1 (d := 473) (off := 0) (n := 60) (by decide +kernel), m_ua h1 (d := 537) (off := 0) (n := 240) (by decide +kernel)]
  exact hp
theorem e5_471_EX2 {h h' : qH} {x : Nat → Int} {F : aF} (h1 : m_one h h' 471 (x 0).toNat (3, a_W (x 1))) (i1 : 0 ≤ x 0) (i2 : x 0 < 60) (v1 : -9223372036854775808 ≤ x 1) (v2 : x 1 < 9223372036854775808) (hp : p_EX2 (m_ac (m_gh h) 467 0 60) (m_ac (m_gh h) 469 0 60) (m_up (m_ac (m_gh h) 471 0 60) (x 0) (x 1)) (m_ac (m_gh h) 473 0 60) (m_ac (m_gh h) 537 0 240) (m_ep x F)) : a_Rc q_SP 557 h' x 4323473234462769276 F := by
  refine m_eR rfl ?_
  rw [f_EX2, m_ua h1 (d := 467) (off := 0) (n := 60) (by decide +kernel), m_ua h1 (d := 469) (off := 0) (n := 60) (by decide +kernel), m_uc h1 (m_int3 v1 v2) (by decide +kernel) i1 i2, m_ua h1 (d := 473) (off := 0) (n := 60) (by decide +kernel), m_ua h1 (d := 537) (off := 0) (n := 240) (by decide +kernel)]
  exact hp
theorem e5_473_EX3 {h h' : qH} {x : Nat → Int} {F : aF} (h1 : m_one h h' 473 (x 0).toNat (3, a_W (x 1))) (i1 : 0 ≤ x 0) (i2 : x 0 < 60) (v1 : -9223372036854775808 ≤ x 1) (v2 : x 1 < 9223372036854775808) (hp : p_EX3 (m_ac (m_gh h) 467 0 60) (m_ac (m_gh h) 469 0 60) (m_ac (m_gh h) 471 0 60) (m_up (m_ac (m_gh h) 473 0 60) (x 0) (x 1)) (m_ac (m_gh h) 537 0 240) (m_ep x F)) : a_Rc q_SP 557 h' x 4323473234462769277 F := by
  refine m_eR rfl ?_
  rw [f_EX3, m_ua h1 (d := 467) (off := 0) (n := 60) (by decide +kernel), m_ua h1 (d := 469) (off := 0) (n := 60) (by decide +kernel), m_ua h1 (d := 471) (off := 0) (n := 60) (by decide +kernel), m_uc h1 (m_int3 v1 v2) (by decide +kernel) i1 i2, m_ua h1 (d := 537) (off := 0) (n := 240) (by decide +kernel)]
  exact hp
theorem e5_546_FA {h h' : qH} {x : Nat → Int} {F : aF} (h1 : m_one h h' 546 (x 0).toNat (3, a_W (x 1))) (i1 : 0 ≤ x 0) (i2 : x 0 < 1344) (v1 : -9223372036854775808 ≤ x 1) (v2 : x 1 < 9223372036854775808) (hp : p_FA (m_gh h 539 0) (m_gh h 539 1) (m_ac (m_gh h) 539 49 96) (m_ac (m_gh h) 545 0 96) (m_gh h 539 2) (m_ac (m_gh h) 539 7 6) (m_ac (m_gh h) 543 0 1344) (m_up (m_ac (m_gh h) 546 0 1344) (x 0) (x 1)) (m_ep x F)) : a_Rc q_SP 557 h' x 7148142620 F := by
  refine m_eR rfl ?_
  rw [f_FA, m_us h1 (d := 539) (q := 0) (by decide +kernel), m_us h1 (d := 539) (q := 1) (by decide +kernel), m_ua h1 (d := 539) (off := 49) (n := 96) (by decide +kernel), m_ua h1 (d := 545) (off := 0) (n := 96) (by decide +kernel), m_us h1 (d := 539) (q := 2) (by decide +kernel), m_ua h1 (d := 539) (off := 7) (n := 6) (by decide +kernel), m_ua h1 (d := 543) (off := 0) (n := 1344) (by decide +kernel), m_uc h1 (m_int3 v1 v2) (by decide +kernel) i1 i2]
  exact hp
theorem e1_543_FB {h h' : qH} {x : Nat → Int} {F : aF} (h1 : m_one h h' 543 (x 0).toNat (0, a_w (x 1))) (i1 : 0 ≤ x 0) (i2 : x 0 < 1344) (v1 : -2147483648 ≤ x 1) (v2 : x 1 < 2147483648) (hp : p_FB (m_gh h 539 0) (m_gh h 539 1) (m_ac (m_gh h) 539 49 96) (m_ac (m_gh h) 545 0 96) (m_gh h 539 2) (m_ac (m_gh h) 539 7 6) (m_up (m_ac (m_gh h) 543 0 1344) (x 0) (x 1)) (m_ac (m_gh h) 546 0 1344) (m_ep x F)) : a_Rc q_SP 557 h' x 7148142621 F := by
  refine m_eR rfl ?_
  rw [f_FB, m_us h1 (d := 539) (q := 0) (by decide +kernel), m_us h1 (d := 539) (q := 1) (by decide +kernel), m_ua h1 (d := 539) (off := 49) (n := 96) (by decide +kernel), m_ua h1 (d := 545) (off := 0) (n := 96) (by decide +kernel), m_us h1 (d := 539) (q := 2) (by decide +kernel), m_ua h1 (d := 539) (off := 7) (n := 6) (by decide +kernel), m_uc h1 (m_int0 v1 v2) (by decide +kernel) i1 i2, m_ua h1 (d := 546) (off := 0) (n := 1344) (by decide +kernel)]
  exact hp
theorem e1_35_FZ35 {h h' : qH} {x : Nat → Int} {F : aF} (h1 : m_one h h' 35 (x 0).toNat (0, a_w (x 1))) (i1 : 0 ≤ x 0) (i2 : x 0 < 96) (v1 : -2147483648 ≤ x 1) (v2 : x 1 < 2147483648) (hp : p_FZ35 (m_up (m_ac (m_gh h) 35 0 96) (x 0) (x 1)) (m_ep x F)) : a_Rc q_SP 557 h' x 1208925819614629175754992 F := by
  refine m_eR rfl ?_
  rw [f_FZ35, m_uc h1 (m_int0 v1 v2) (by decide +kernel) i1 i2]
  exact hp
theorem e1_36_FZ36 {h h' : qH} {x : Nat → Int} {F : aF} (h1 : m_one h h' 36 (x 0).toNat (0, a_w (x 1))) (i1 : 0 ≤ x 0) (i2 : x 0 < 96) (v1 : -2147483648 ≤ x 1) (v2 : x 1 < 2147483648) (hp : p_FZ36 (m_up (m_ac (m_gh h) 36 0 96) (x 0) (x 1)) (m_ep x F)) : a_Rc q_SP 557 h' x 2417851639229258350461169 F := by
  refine m_eR rfl ?_
  rw [f_FZ36, m_uc h1 (m_int0 v1 v2) (by decide +kernel) i1 i2]
  exact hp
theorem e5_537_GA {h h' : qH} {x : Nat → Int} {F : aF} (h1 : m_one h h' 537 (x 0).toNat (3, a_W (x 1))) (i1 : 0 ≤ x 0) (i2 : x 0 < 240) (v1 : -9223372036854775808 ≤ x 1) (v2 : x 1 < 9223372036854775808) (hp : p_GA (m_ac (m_gh h) 467 0 60) (m_ac (m_gh h) 469 0 60) (m_ac (m_gh h) 471 0 60) (m_ac (m_gh h) 473 0 60) (m_up (m_ac (m_gh h) 537 0 240) (x 0) (x 1)) (m_ep x F)) : a_Rc q_SP 557 h' x 4323473234462769283 F := by
  refine m_eR rfl ?_
  rw [f_GA, m_ua h1 (d := 467) (off := 0) (n := 60) (by decide +kernel), m_ua h1 (d := 469) (off := 0) (n := 60) (by decide +kernel), m_ua h1 (d := 471) (off := 0) (n := 60) (by decide +kernel), m_ua h1 (d := 473) (off := 0) (n := 60) (by decide +kernel), m_uc h1 (m_int3 v1 v2) (by decide +kernel) i1 i2]
  exact hp
theorem e5_537_GD {h h' : qH} {x : Nat → Int} {F : aF} (h1 : m_one h h' 537 (x 0).toNat (3, a_W (x 1))) (i1 : 0 ≤ x 0) (i2 : x 0 < 240) (v1 : -9223372036854775808 ≤ x 1) (v2 : x 1 < 9223372036854775808) (hp : p_GD (m_ac (m_gh h) 467 0 60) (m_ac (m_gh h) 469 0 60) (m_ac (m_gh h) 471 0 60) (m_ac (m_gh h) 473 0 60) (m_up (m_ac (m_gh h) 537 0 240) (x 0) (x 1)) (m_ep x F)) : a_Rc q_SP 557 h' x 4323473234462769284 F := by
  refine m_eR rfl ?_
  rw [f_GD, m_ua h1 (d := 467) (off := 0) (n := 60) (by decide +kernel), m_ua h1 (d := 469) (off := 0) (n := 60) (by decide +kernel), m_ua h1 (d := 471) (off := 0) (n := 60) (by decide +kernel), m_ua h1 (d := 473) (off := 0) (n := 60) (by decide +kernel), m_uc h1 (m_int3 v1 v2) (by decide +kernel) i1 i2]
  exact hp
theorem e1_18_KN18 {h h' : qH} {x : Nat → Int} {F : aF} (h1 : m_one h h' 18 (x 0).toNat (0, a_w (x 1))) (i1 : 0 ≤ x 0) (i2 : x 0 < 96) (v1 : -2147483648 ≤ x 1) (v2 : x 1 < 2147483648) (hp : p_KN18 (m_up (m_ac (m_gh h) 18 0 96) (x 0) (x 1)) (m_ep x F)) : a_Rc q_SP 557 h' x 2596148429267413814265248165659028 F := by
  refine m_eR rfl ?_
  rw [f_KN18, m_uc h1 (m_int0 v1 v2) (by decide +kernel) i1 i2]
  exact hp
theorem e1_539_KPT {h h' : qH} {x : Nat → Int} {F : aF} (h1 : m_one h h' 539 (x 0).toNat (0, a_w (x 1))) (i1 : 0 ≤ x 0) (v1 : -2147483648 ≤ x 1) (v2 : x 1 < 2147483648) (hp : p_KPT (m_ac (m_gh h) 540 0 147) (m_upo 0 6 (m_ac (m_gh h) 539 0 6) (x 0) (x 1)) (m_upo 7 42 (m_ac (m_gh h) 539 7 42) (x 0) (x 1)) (m_ep x F)) : a_Rc q_SP 557 h' x 475368975085586307036241461614 F := by
  refine m_eR rfl ?_
  rw [f_KPT, m_ua h1 (d := 540) (off := 0) (n := 147) (by decide +kernel), m_ucx (off := 0) (n := 6) h1 (m_int0 v1 v2) (by decide +kernel) i1, m_ucx (off := 7) (n := 42) h1 (m_int0 v1 v2) (by decide +kernel) i1]
  exact hp
theorem e1_540_KPT {h h' : qH} {x : Nat → Int} {F : aF} (h1 : m_one h h' 540 (x 0).toNat (0, a_w (x 1))) (i1 : 0 ≤ x 0) (i2 : x 0 < 147) (v1 : -2147483648 ≤ x 1) (v2 : x 1 < 2147483648) (hp : p_KPT (m_up (m_ac (m_gh h) 540 0 147) (x 0) (x 1)) (m_ac (m_gh h) 539 0 6) (m_ac (m_gh h) 539 7 42) (m_ep x F)) : a_Rc q_SP 557 h' x 475368975085586307036241461614 F := by
  refine m_eR rfl ?_
  rw [f_KPT, m_uc h1 (m_int0 v1 v2) (by decide +kernel) i1 i2, m_ua h1 (d := 539) (off := 0) (n := 6) (by decide +kernel), m_ua h1 (d := 539) (off := 7) (n := 42) (by decide +kernel)]
  exact hp
theorem e1_555_LGI {h h' : qH} {x : Nat → Int} {F : aF} (h1 : m_one h h' 555 (x 0).toNat (0, a_w (x 1))) (i1 : 0 ≤ x 0) (i2 : x 0 < 8) (v1 : -2147483648 ≤ x 1) (v2 : x 1 < 2147483648) (hp : p_LGI (m_ac (m_gh h) 539 0 6) (m_ac (m_gh h) 539 7 42) (m_up (m_ac (m_gh h) 555 0 8) (x 0) (x 1)) (m_ep x F)) : a_Rc q_SP 557 h' x 475368975085586025595624489457 F := by
  refine m_eR rfl ?_
  rw [f_LGI, m_ua h1 (d := 539) (off := 0) (n := 6) (by decide +kernel), m_ua h1 (d := 539) (off := 7) (n := 42) (by decide +kernel), m_uc h1 (m_int0 v1 v2) (by decide +kernel) i1 i2]
  exact hp
theorem e1_539_NT {h h' : qH} {x : Nat → Int} {F : aF} (h1 : m_one h h' 539 (x 0).toNat (0, a_w (x 1))) (i1 : 0 ≤ x 0) (v1 : -2147483648 ≤ x 1) (v2 : x 1 < 2147483648) (hp : p_NT (m_upo 49 96 (m_ac (m_gh h) 539 49 96) (x 0) (x 1)) (m_ep x F)) : a_Rc q_SP 557 h' x 135266319 F := by
  refine m_eR rfl ?_
  rw [f_NT, m_ucx (off := 49) (n := 96) h1 (m_int0 v1 v2) (by decide +kernel) i1]
  exact hp
theorem e8_478675_PP {h h' : qH} {x : Nat → Int} {F : aF} (h1 : m_cpd h h' 467 467 (x 0) (x 1) (x 2)) (i1 : 0 ≤ x 0) (i2 : 0 ≤ x 1) (i3 : 0 ≤ x 2) (l1 : x 0 + x 2 ≤ a_cl q_SP 467) (l2 : x 1 + x 2 ≤ a_cl q_SP 467) (hp : p_PP (m_cpx (m_ac (m_gh h) 467 0 60) (m_ac (m_gh h) 467 0 60) (x 0) (x 1) (x 2)) (m_ac (m_gh h) 469 0 60) (m_ac (m_gh h) 471 0 60) (m_ac (m_gh h) 473 0 60) (m_ac (m_gh h) 537 0 240) (m_ep x F)) : a_Rc q_SP 557 h' x 4323473234462769282 F := by
  refine m_eR rfl ?_
  rw [f_PP, m_cc h1 (by decide +kernel) (by decide +kernel) i1 i2 i3 l1 l2, m_ca h1 (d := 469) (off := 0) (n := 60) (by decide +kernel), m_ca h1 (d := 471) (off := 0) (n := 60) (by decide +kernel), m_ca h1 (d := 473) (off := 0) (n := 60) (by decide +kernel), m_ca h1 (d := 537) (off := 0) (n := 240) (by decide +kernel)]
  exact hp
theorem e8_478677_PP {h h' : qH} {x : Nat → Int} {F : aF} (h1 : m_cpd h h' 467 469 (x 0) (x 1) (x 2)) (i1 : 0 ≤ x 0) (i2 : 0 ≤ x 1) (i3 : 0 ≤ x 2) (l1 : x 0 + x 2 ≤ a_cl q_SP 467) (l2 : x 1 + x 2 ≤ a_cl q_SP 469) (hp : p_PP (m_ac (m_gh h) 467 0 60) (m_cpx (m_ac (m_gh h) 467 0 60) (m_ac (m_gh h) 469 0 60) (x 0) (x 1) (x 2)) (m_ac (m_gh h) 471 0 60) (m_ac (m_gh h) 473 0 60) (m_ac (m_gh h) 537 0 240) (m_ep x F)) : a_Rc q_SP 557 h' x 4323473234462769282 F := by
  refine m_eR rfl ?_
  rw [f_PP, m_ca h1 (d := 467) (off := 0) (n := 60) (by decide +kernel), m_cc h1 (by decide +kernel) (by decide +kernel) i1 i2 i3 l1 l2, m_ca h1 (d := 471) (off := 0) (n := 60) (by decide +kernel), m_ca h1 (d := 473) (off := 0) (n := 60) (by decide +kernel), m_ca h1 (d := 537) (off := 0) (n := 240) (by decide +kernel)]
  exact hp
theorem e8_478679_PP {h h' : qH} {x : Nat → Int} {F : aF} (h1 : m_cpd h h' 467 471 (x 0) (x 1) (x 2)) (i1 : 0 ≤ x 0) (i2 : 0 ≤ x 1) (i3 : 0 ≤ x 2) (l1 : x 0 + x 2 ≤ a_cl q_SP 467) (l2 : x 1 + x 2 ≤ a_cl q_SP 471) (hp : p_PP (m_ac (m_gh h) 467 0 60) (m_ac (m_gh h) 469 0 60) (m_cpx (m_ac (m_gh h) 467 0 60) (m_ac (m_gh h) 471 0 60) (x 0) (x 1) (x 2)) (m_ac (m_gh h) 473 0 60) (m_ac (m_gh h) 537 0 240) (m_ep x F)) : a_Rc q_SP 557 h' x 4323473234462769282 F := by
  refine m_eR rfl ?_
  rw [f_PP, m_ca h1 (d := 467) (off := 0) (n := 60) (by decide +kernel), m_ca h1 (d := 469) (off := 0) (n := 60) (by decide +kernel), m_cc h1 (by decide +kernel) (by decide +kernel) i1 i2 i3 l1 l2, m_ca h1 (d := 473) (off := 0) (n := 60) (by decide +kernel), m_ca h1 (d := 537) (off := 0) (n := 240) (by decide +kernel)]
  exact hp
theorem e8_478681_PP {h h' : qH} {x : Nat → Int} {F : aF} (h1 : m_cpd h h' 467 473 (x 0) (x 1) (x 2)) (i1 : 0 ≤ x 0) (i2 : 0 ≤ x 1) (i3 : 0 ≤ x 2) (l1 : x 0 + x 2 ≤ a_cl q_SP 467) (l2 : x 1 + x 2 ≤ a_cl q_SP 473) (hp : p_PP (m_ac (m_gh h) 467 0 60) (m_ac (m_gh h) 469 0 60) (m_ac (m_gh h) 471 0 60) (m_cpx (m_ac (m_gh h) 467 0 60) (m_ac (m_gh h) 473 0 60) (x 0) (x 1) (x 2)) (m_ac (m_gh h) 537 0 240) (m_ep x F)) : a_Rc q_SP 557 h' x 4323473234462769282 F := by
  refine m_eR rfl ?_
  rw [f_PP, m_ca h1 (d := 467) (off := 0) (n := 60) (by decide +kernel), m_ca h1 (d := 469) (off := 0) (n := 60) (by decide +kernel), m_ca h1 (d := 471) (off := 0) (n := 60) (by decide +kernel), m_cc h1 (by decide +kernel) (by decide +kernel) i1 i2 i3 l1 l2, m_ca h1 (d := 537) (off := 0) (n := 240) (by decide +kernel)]
  exact hp
theorem e8_480723_PP {h h' : qH} {x : Nat → Int} {F : aF} (h1 : m_cpd h h' 469 467 (x 0) (x 1) (x 2)) (i1 : 0 ≤ x 0) (i2 : 0 ≤ x 1) (i3 : 0 ≤ x 2) (l1 : x 0 + x 2 ≤ a_cl q_SP 469) (l2 : x 1 + x 2 ≤ a_cl q_SP 467) (hp : p_PP (m_cpx (m_ac (m_gh h) 469 0 60) (m_ac (m_gh h) 467 0 60) (x 0) (x 1) (x 2)) (m_ac (m_gh h) 469 0 60) (m_ac (m_gh h) 471 0 60) (m_ac (m_gh h) 473 0 60) (m_ac (m_gh h) 537 0 240) (m_ep x F)) : a_Rc q_SP 557 h' x 4323473234462769282 F := by
  refine m_eR rfl ?_
  rw [f_PP, m_cc h1 (by decide +kernel) (by decide +kernel) i1 i2 i3 l1 l2, m_ca h1 (d := 469) (off := 0) (n := 60) (by decide +kernel), m_ca h1 (d := 471) (off := 0) (n := 60) (by decide +kernel), m_ca h1 (d := 473) (off := 0) (n := 60) (by decide +kernel), m_ca h1 (d := 537) (off := 0) (n := 240) (by decide +kernel)]
  exact hp
theorem e8_480725_PP {h h' : qH} {x : Nat → Int} {F : aF} (h1 : m_cpd h h' 469 469 (x 0) (x 1) (x 2)) (i1 : 0 ≤ x 0) (i2 : 0 ≤ x 1) (i3 : 0 ≤ x 2) (l1 : x 0 + x 2 ≤ a_cl q_SP 469) (l2 : x 1 + x 2 ≤ a_cl q_SP 469) (hp : p_PP (m_ac (m_gh h) 467 0 60) (m_cpx (m_ac (m_gh h) 469 0 60) (m_ac (m_gh h) 469 0 60) (x 0) (x 1) (x 2)) (m_ac (m_gh h) 471 0 60) (m_ac (m_gh h) 473 0 60) (m_ac (m_gh h) 537 0 240) (m_ep x F)) : a_Rc q_SP 557 h' x 4323473234462769282 F := by
  refine m_eR rfl ?_
  rw [f_PP, m_ca h1 (d := 467) (off := 0) (n := 60) (by decide +kernel), m_cc h1 (by decide +kernel) (by decide +kernel) i1 i2 i3 l1 l2, m_ca h1 (d := 471) (off := 0) (n := 60) (by decide +kernel), m_ca h1 (d := 473) (off := 0) (n := 60) (by decide +kernel), m_ca h1 (d := 537) (off := 0) (n := 240) (by decide +kernel)]
  exact hp
theorem e8_480727_PP {h h' : qH} {x : Nat → Int} {F : aF} (h1 : m_cpd h h' 469 471 (x 0) (x 1) (x 2)) (i1 : 0 ≤ x 0) (i2 : 0 ≤ x 1) (i3 : 0 ≤ x 2) (l1 : x 0 + x 2 ≤ a_cl q_SP 469) (l2 : x 1 + x 2 ≤ a_cl q_SP 471) (hp : p_PP (m_ac (m_gh h) 467 0 60) (m_ac (m_gh h) 469 0 60) (m_cpx (m_ac (m_gh h) 469 0 60) (m_ac (m_gh h) 471 0 60) (x 0) (x 1) (x 2)) (m_ac (m_gh h) 473 0 60) (m_ac (m_gh h) 537 0 240) (m_ep x F)) : a_Rc q_SP 557 h' x 4323473234462769282 F := by
  refine m_eR rfl ?_
  rw [f_PP, m_ca h1 (d := 467) (off := 0) (n := 60) (by decide +kernel), m_ca h1 (d := 469) (off := 0) (n := 60) (by decide +kernel), m_cc h1 (by decide +kernel) (by decide +kernel) i1 i2 i3 l1 l2, m_ca h1 (d := 473) (off := 0) (n := 60) (by decide +kernel), m_ca h1 (d := 537) (off := 0) (n := 240) (by decide +kernel)]
  exact hp
theorem e8_480729_PP {h h' : qH} {x : Nat → Int} {F : aF} (h1 : m_cpd h h' 469 473 (x 0) (x 1) (x 2)) (i1 : 0 ≤ x 0) (i2 : 0 ≤ x 1) (i3 : 0 ≤ x 2) (l1 : x 0 + x 2 ≤ a_cl q_SP 469) (l2 : x 1 + x 2 ≤ a_cl q_SP 473) (hp : p_PP (m_ac (m_gh h) 467 0 60) (m_ac (m_gh h) 469 0 60) (m_ac (m_gh h) 471 0 60) (m_cpx (m_ac (m_gh h) 469 0 60) (m_ac (m_gh h) 473 0 60) (x 0) (x 1) (x 2)) (m_ac (m_gh h) 537 0 240) (m_ep x F)) : a_Rc q_SP 557 h' x 4323473234462769282 F := by
  refine m_eR rfl ?_
  rw [f_PP, m_ca h1 (d := 467) (off := 0) (n := 60) (by decide +kernel), m_ca h1 (d := 469) (off := 0) (n := 60) (by decide +kernel), m_ca h1 (d := 471) (off := 0) (n := 60) (by decide +kernel), m_cc h1 (by decide +kernel) (by decide +kernel) i1 i2 i3 l1 l2, m_ca h1 (d := 537) (off := 0) (n := 240) (by decide +kernel)]
  exact hp
theorem e8_482771_PP {h h' : qH} {x : Nat → Int} {F : aF} (h1 : m_cpd h h' 471 467 (x 0) (x 1) (x 2)) (i1 : 0 ≤ x 0) (i2 : 0 ≤ x 1) (i3 : 0 ≤ x 2) (l1 : x 0 + x 2 ≤ a_cl q_SP 471) (l2 : x 1 + x 2 ≤ a_cl q_SP 467) (hp : p_PP (m_cpx (m_ac (m_gh h) 471 0 60) (m_ac (m_gh h) 467 0 60) (x 0) (x 1) (x 2)) (m_ac (m_gh h) 469 0 60) (m_ac (m_gh h) 471 0 60) (m_ac (m_gh h) 473 0 60) (m_ac (m_gh h) 537 0 240) (m_ep x F)) : a_Rc q_SP 557 h' x 4323473234462769282 F := by
  refine m_eR rfl ?_
  rw [f_PP, m_cc h1 (by decide +kernel) (by decide +kernel) i1 i2 i3 l1 l2, m_ca h1 (d := 469) (off := 0) (n := 60) (by decide +kernel), m_ca h1 (d := 471) (off := 0) (n := 60) (by decide +kernel), m_ca h1 (d := 473) (off := 0) (n := 60) (by decide +kernel), m_ca h1 (d := 537) (off := 0) (n := 240) (by decide +kernel)]
  exact hp
theorem e8_482773_PP {h h' : qH} {x : Nat → Int} {F : aF} (h1 : m_cpd h h' 471 469 (x 0) (x 1) (x 2)) (i1 : 0 ≤ x 0) (i2 : 0 ≤ x 1) (i3 : 0 ≤ x 2) (l1 : x 0 + x 2 ≤ a_cl q_SP 471) (l2 : x 1 + x 2 ≤ a_cl q_SP 469) (hp : p_PP (m_ac (m_gh h) 467 0 60) (m_cpx (m_ac (m_gh h) 471 0 60) (m_ac (m_gh h) 469 0 60) (x 0) (x 1) (x 2)) (m_ac (m_gh h) 471 0 60) (m_ac (m_gh h) 473 0 60) (m_ac (m_gh h) 537 0 240) (m_ep x F)) : a_Rc q_SP 557 h' x 4323473234462769282 F := by
  refine m_eR rfl ?_
  rw [f_PP, m_ca h1 (d := 467) (off := 0) (n := 60) (by decide +kernel), m_cc h1 (by decide +kernel) (by decide +kernel) i1 i2 i3 l1 l2, m_ca h1 (d := 471) (off := 0) (n := 60) (by decide +kernel), m_ca h1 (d := 473) (off := 0) (n := 60) (by decide +kernel), m_ca h1 (d := 537) (off := 0) (n := 240) (by decide +kernel)]
  exact hp
theorem e8_482775_PP {h h' : qH} {x : Nat → Int} {F : aF} (h1 : m_cpd h h' 471 471 (x 0) (x 1) (x 2)) (i1 : 0 ≤ x 0) (i2 : 0 ≤ x 1) (i3 : 0 ≤ x 2) (l1 : x 0 + x 2 ≤ a_cl q_SP 471) (l2 : x 1 + x 2 ≤ a_cl q_SP 471) (hp : p_PP (m_ac (m_gh h) 467 0 60) (m_ac (m_gh h) 469 0 60) (m_cpx (m_ac (m_gh h) 471 0 60) (m_ac (m_gh h) 471 0 60) (x 0) (x 1) (x 2)) (m_ac (m_gh h) 473 0 60) (m_ac (m_gh h) 537 0 240) (m_ep x F)) : a_Rc q_SP 557 h' x 4323473234462769282 F := by
  refine m_eR rfl ?_
  rw [f_PP, m_ca h1 (d := 467) (off := 0) (n := 60) (by decide +kernel), m_ca h1 (d := 469) (off := 0) (n := 60) (by decide +kernel), m_cc h1 (by decide +kernel) (by decide +kernel) i1 i2 i3 l1 l2, m_ca h1 (d := 473) (off := 0) (n := 60) (by decide +kernel), m_ca h1 (d := 537) (off := 0) (n := 240) (by decide +kernel)]
  exact hp
theorem e8_482777_PP {h h' : qH} {x : Nat → Int} {F : aF} (h1 : m_cpd h h' 471 473 (x 0) (x 1) (x 2)) (i1 : 0 ≤ x 0) (i2 : 0 ≤ x 1) (i3 : 0 ≤ x 2) (l1 : x 0 + x 2 ≤ a_cl q_SP 471) (l2 : x 1 + x 2 ≤ a_cl q_SP 473) (hp : p_PP (m_ac (m_gh h) 467 0 60) (m_ac (m_gh h) 469 0 60) (m_ac (m_gh h) 471 0 60) (m_cpx (m_ac (m_gh h) 471 0 60) (m_ac (m_gh h) 473 0 60) (x 0) (x 1) (x 2)) (m_ac (m_gh h) 537 0 240) (m_ep x F)) : a_Rc q_SP 557 h' x 4323473234462769282 F := by
  refine m_eR rfl ?_
  rw [f_PP, m_ca h1 (d := 467) (off := 0) (n := 60) (by decide +kernel), m_ca h1 (d := 469) (off := 0) (n := 60) (by decide +kernel), m_ca h1 (d := 471) (off := 0) (n := 60) (by decide +kernel), m_cc h1 (by decide +kernel) (by decide +kernel) i1 i2 i3 l1 l2, m_ca h1 (d := 537) (off := 0) (n := 240) (by decide +kernel)]
  exact hp
theorem e8_484819_PP {h h' : qH} {x : Nat → Int} {F : aF} (h1 : m_cpd h h' 473 467 (x 0) (x 1) (x 2)) (i1 : 0 ≤ x 0) (i2 : 0 ≤ x 1) (i3 : 0 ≤ x 2) (l1 : x 0 + x 2 ≤ a_cl q_SP 473) (l2 : x 1 + x 2 ≤ a_cl q_SP 467) (hp : p_PP (m_cpx (m_ac (m_gh h) 473 0 60) (m_ac (m_gh h) 467 0 60) (x 0) (x 1) (x 2)) (m_ac (m_gh h) 469 0 60) (m_ac (m_gh h) 471 0 60) (m_ac (m_gh h) 473 0 60) (m_ac (m_gh h) 537 0 240) (m_ep x F)) : a_Rc q_SP 557 h' x 4323473234462769282 F := by
  refine m_eR rfl ?_
  rw [f_PP, m_cc h1 (by decide +kernel) (by decide +kernel) i1 i2 i3 l1 l2, m_ca h1 (d := 469) (off := 0) (n := 60) (by decide +kernel), m_ca h1 (d := 471) (off := 0) (n := 60) (by decide +kernel), m_ca h1 (d := 473) (off := 0) (n := 60) (by decide +kernel), m_ca h1 (d := 537) (off := 0) (n := 240) (by decide +kernel)]
  exact hp
theorem e8_484821_PP {h h' : qH} {x : Nat → Int} {F : aF} (h1 : m_cpd h h' 473 469 (x 0) (x 1) (x 2)) (i1 : 0 ≤ x 0) (i2 : 0 ≤ x 1) (i3 : 0 ≤ x 2) (l1 : x 0 + x 2 ≤ a_cl q_SP 473) (l2 : x 1 + x 2 ≤ a_cl q_SP 469) (hp : p_PP (m_ac (m_gh h) 467 0 60) (m_cpx (m_ac (m_gh h) 473 0 60) (m_ac (m_gh h) 469 0 60) (x 0) (x 1) (x 2)) (m_ac (m_gh h) 471 0 60) (m_ac (m_gh h) 473 0 60) (m_ac (m_gh h) 537 0 240) (m_ep x F)) : a_Rc q_SP 557 h' x 4323473234462769282 F := by
  refine m_eR rfl ?_
  rw [f_PP, m_ca h1 (d := 467) (off := 0) (n := 60) (by decide +kernel), m_cc h1 (by decide +kernel) (by decide +kernel) i1 i2 i3 l1 l2, m_ca h1 (d := 471) (off := 0) (n := 60) (by decide +kernel), m_ca h1 (d := 473) (off := 0) (n := 60) (by decide +kernel), m_ca h1 (d := 537) (off := 0) (n := 240) (by decide +kernel)]
  exact hp
theorem e8_484823_PP {h h' : qH} {x : Nat → Int} {F : aF} (h1 : m_cpd h h' 473 471 (x 0) (x 1) (x 2)) (i1 : 0 ≤ x 0) (i2 : 0 ≤ x 1) (i3 : 0 ≤ x 2) (l1 : x 0 + x 2 ≤ a_cl q_SP 473) (l2 : x 1 + x 2 ≤ a_cl q_SP 471) (hp : p_PP (m_ac (m_gh h) 467 0 60) (m_ac (m_gh h) 469 0 60) (m_cpx (m_ac (m_gh h) 473 0 60) (m_ac (m_gh h) 471 0 60) (x 0) (x 1) (x 2)) (m_ac (m_gh h) 473 0 60) (m_ac (m_gh h) 537 0 240) (m_ep x F)) : a_Rc q_SP 557 h' x 4323473234462769282 F := by
  refine m_eR rfl ?_
  rw [f_PP, m_ca h1 (d := 467) (off := 0) (n := 60) (by decide +kernel), m_ca h1 (d := 469) (off := 0) (n := 60) (by decide +kernel), m_cc h1 (by decide +kernel) (by decide +kernel) i1 i2 i3 l1 l2, m_ca h1 (d := 473) (off := 0) (n := 60) (by decide +kernel), m_ca h1 (d := 537) (off := 0) (n := 240) (by decide +kernel)]
  exact hp
theorem e8_484825_PP {h h' : qH} {x : Nat → Int} {F : aF} (h1 : m_cpd h h' 473 473 (x 0) (x 1) (x 2)) (i1 : 0 ≤ x 0) (i2 : 0 ≤ x 1) (i3 : 0 ≤ x 2) (l1 : x 0 + x 2 ≤ a_cl q_SP 473) (l2 : x 1 + x 2 ≤ a_cl q_SP 473) (hp : p_PP (m_ac (m_gh h) 467 0 60) (m_ac (m_gh h) 469 0 60) (m_ac (m_gh h) 471 0 60) (m_cpx (m_ac (m_gh h) 473 0 60) (m_ac (m_gh h) 473 0 60) (x 0) (x 1) (x 2)) (m_ac (m_gh h) 537 0 240) (m_ep x F)) : a_Rc q_SP 557 h' x 4323473234462769282 F := by
  refine m_eR rfl ?_
  rw [f_PP, m_ca h1 (d := 467) (off := 0) (n := 60) (by decide +kernel), m_ca h1 (d := 469) (off := 0) (n := 60) (by decide +kernel), m_ca h1 (d := 471) (off := 0) (n := 60) (by decide +kernel), m_cc h1 (by decide +kernel) (by decide +kernel) i1 i2 i3 l1 l2, m_ca h1 (d := 537) (off := 0) (n := 240) (by decide +kernel)]
  exact hp
theorem e1_553_PX {h h' : qH} {x : Nat → Int} {F : aF} (h1 : m_one h h' 553 (x 0).toNat (0, a_w (x 1))) (i1 : 0 ≤ x 0) (i2 : x 0 < 96) (v1 : -2147483648 ≤ x 1) (v2 : x 1 < 2147483648) (hp : p_PX (m_up (m_ac (m_gh h) 553 0 96) (x 0) (x 1)) (m_ep x F)) : a_Rc q_SP 557 h' x 1099512676404 F := by
  refine m_eR rfl ?_
  rw [f_PX, m_uc h1 (m_int0 v1 v2) (by decide +kernel) i1 i2]
  exact hp
theorem e5_546_R0 {h h' : qH} {x : Nat → Int} {F : aF} (h1 : m_one h h' 546 (x 0).toNat (3, a_W (x 1))) (i1 : 0 ≤ x 0) (i2 : x 0 < 1344) (v1 : -9223372036854775808 ≤ x 1) (v2 : x 1 < 9223372036854775808) (hp : p_R0 (m_gh h 539 0) (m_gh h 539 1) (m_ac (m_gh h) 539 49 96) (m_gh h 539 2) (m_ac (m_gh h) 539 7 6) (m_ac (m_gh h) 543 0 1344) (m_up (m_ac (m_gh h) 546 0 1344) (x 0) (x 1)) (m_ep x F)) : a_Rc q_SP 557 h' x 5000658970 F := by
  refine m_eR rfl ?_
  rw [f_R0, m_us h1 (d := 539) (q := 0) (by decide +kernel), m_us h1 (d := 539) (q := 1) (by decide +kernel), m_ua h1 (d := 539) (off := 49) (n := 96) (by decide +kernel), m_us h1 (d := 539) (q := 2) (by decide +kernel), m_ua h1 (d := 539) (off := 7) (n := 6) (by decide +kernel), m_ua h1 (d := 543) (off := 0) (n := 1344) (by decide +kernel), m_uc h1 (m_int3 v1 v2) (by decide +kernel) i1 i2]
  exact hp
theorem e1_543_RA {h h' : qH} {x : Nat → Int} {F : aF} (h1 : m_one h h' 543 (x 0).toNat (0, a_w (x 1))) (i1 : 0 ≤ x 0) (i2 : x 0 < 1344) (v1 : -2147483648 ≤ x 1) (v2 : x 1 < 2147483648) (hp : p_RA (m_gh h 539 0) (m_gh h 539 1) (m_ac (m_gh h) 539 49 96) (m_gh h 539 2) (m_ac (m_gh h) 539 7 6) (m_up (m_ac (m_gh h) 543 0 1344) (x 0) (x 1)) (m_ac (m_gh h) 546 0 1344) (m_ep x F)) : a_Rc q_SP 557 h' x 5000658971 F := by
  refine m_eR rfl ?_
  rw [f_RA, m_us h1 (d := 539) (q := 0) (by decide +kernel), m_us h1 (d := 539) (q := 1) (by decide +kernel), m_ua h1 (d := 539) (off := 49) (n := 96) (by decide +kernel), m_us h1 (d := 539) (q := 2) (by decide +kernel), m_ua h1 (d := 539) (off := 7) (n := 6) (by decide +kernel), m_uc h1 (m_int0 v1 v2) (by decide +kernel) i1 i2, m_ua h1 (d := 546) (off := 0) (n := 1344) (by decide +kernel)]
  exact hp
theorem e1_465_RWI {h h' : qH} {x : Nat → Int} {F : aF} (h1 : m_one h h' 465 (x 0).toNat (0, a_w (x 1))) (i1 : 0 ≤ x 0) (i2 : x 0 < 96) (v1 : -2147483648 ≤ x 1) (v2 : x 1 < 2147483648) (hp : p_RWI (m_ac (m_gh h) 539 0 6) (m_ac (m_gh h) 539 7 42) (m_up (m_ac (m_gh h) 465 0 96) (x 0) (x 1)) (m_ep x F)) : a_Rc q_SP 557 h' x 83077225105532327642513502532272619 F := by
  refine m_eR rfl ?_
  rw [f_RWI, m_ua h1 (d := 539) (off := 0) (n := 6) (by decide +kernel), m_ua h1 (d := 539) (off := 7) (n := 42) (by decide +kernel), m_uc h1 (m_int0 v1 v2) (by decide +kernel) i1 i2]
  exact hp
theorem e1_465_RWO {h h' : qH} {x : Nat → Int} {F : aF} (h1 : m_one h h' 465 (x 0).toNat (0, a_w (x 1))) (i1 : 0 ≤ x 0) (i2 : x 0 < 96) (v1 : -2147483648 ≤ x 1) (v2 : x 1 < 2147483648) (hp : p_RWO (m_ac (m_gh h) 539 0 6) (m_ac (m_gh h) 539 7 42) (m_up (m_ac (m_gh h) 465 0 96) (x 0) (x 1)) (m_ep x F)) : a_Rc q_SP 557 h' x 83077225105532327642513502532272618 F := by
  refine m_eR rfl ?_
  rw [f_RWO, m_ua h1 (d := 539) (off := 0) (n := 6) (by decide +kernel), m_ua h1 (d := 539) (off := 7) (n := 42) (by decide +kernel), m_uc h1 (m_int0 v1 v2) (by decide +kernel) i1 i2]
  exact hp
theorem e1_539_TC0 {h h' : qH} {x : Nat → Int} {F : aF} (h1 : m_one h h' 539 (x 0).toNat (0, a_w (x 1))) (i1 : 0 ≤ x 0) (v1 : -2147483648 ≤ x 1) (v2 : x 1 < 2147483648) (hp : p_TC0 (m_gh h 5 0) (m_gh h 5 2) (m_ac (m_gh h) 16 0 96) (m_ac (m_gh h) 17 0 96) (m_upo 0 6 (m_ac (m_gh h) 539 0 6) (x 0) (x 1)) (m_upo 7 42 (m_ac (m_gh h) 539 7 42) (x 0) (x 1)) (m_ep x F)) : a_Rc q_SP 557 h' x 559858382766813229323129979226 F := by
  refine m_eR rfl ?_
  rw [f_TC0, m_us h1 (d := 5) (q := 0) (by decide +kernel), m_us h1 (d := 5) (q := 2) (by decide +kernel), m_ua h1 (d := 16) (off := 0) (n := 96) (by decide +kernel), m_ua h1 (d := 17) (off := 0) (n := 96) (by decide +kernel), m_ucx (off := 0) (n := 6) h1 (m_int0 v1 v2) (by decide +kernel) i1, m_ucx (off := 7) (n := 42) h1 (m_int0 v1 v2) (by decide +kernel) i1]
  exact hp
theorem e5_537_TE0 {h h' : qH} {x : Nat → Int} {F : aF} (h1 : m_one h h' 537 (x 0).toNat (3, a_W (x 1))) (i1 : 0 ≤ x 0) (i2 : x 0 < 240) (v1 : -9223372036854775808 ≤ x 1) (v2 : x 1 < 9223372036854775808) (hp : p_TE0 (m_ac (m_gh h) 469 0 60) (m_ac (m_gh h) 471 0 60) (m_ac (m_gh h) 473 0 60) (m_up (m_ac (m_gh h) 537 0 240) (x 0) (x 1)) (m_ep x F)) : a_Rc q_SP 557 h' x 4035242858311057518 F := by
  refine m_eR rfl ?_
  rw [f_TE0, m_ua h1 (d := 469) (off := 0) (n := 60) (by decide +kernel), m_ua h1 (d := 471) (off := 0) (n := 60) (by decide +kernel), m_ua h1 (d := 473) (off := 0) (n := 60) (by decide +kernel), m_uc h1 (m_int3 v1 v2) (by decide +kernel) i1 i2]
  exact hp
theorem e5_537_TE1 {h h' : qH} {x : Nat → Int} {F : aF} (h1 : m_one h h' 537 (x 0).toNat (3, a_W (x 1))) (i1 : 0 ≤ x 0) (i2 : x 0 < 240) (v1 : -9223372036854775808 ≤ x 1) (v2 : x 1 < 9223372036854775808) (hp : p_TE1 (m_ac (m_gh h) 467 0 60) (m_ac (m_gh h) 471 0 60) (m_ac (m_gh h) 473 0 60) (m_up (m_ac (m_gh h) 537 0 240) (x 0) (x 1)) (m_ep x F)) : a_Rc q_SP 557 h' x 3747012482159345775 F := by
  refine m_eR rfl ?_
  rw [f_TE1, m_ua h1 (d := 467) (off := 0) (n := 60) (by decide +kernel), m_ua h1 (d := 471) (off := 0) (n := 60) (by decide +kernel), m_ua h1 (d := 473) (off := 0) (n := 60) (by decide +kernel), m_uc h1 (m_int3 v1 v2) (by decide +kernel) i1 i2]
  exact hp
theorem e5_537_TE2 {h h' : qH} {x : Nat → Int} {F : aF} (h1 : m_one h h' 537 (x 0).toNat (3, a_W (x 1))) (i1 : 0 ≤ x 0) (i2 : x 0 < 240) (v1 : -9223372036854775808 ≤ x 1) (v2 : x 1 < 9223372036854775808) (hp : p_TE2 (m_ac (m_gh h) 467 0 60) (m_ac (m_gh h) 469 0 60) (m_ac (m_gh h) 473 0 60) (m_up (m_ac (m_gh h) 537 0 240) (x 0) (x 1)) (m_ep x F)) : a_Rc q_SP 557 h' x 3170551729855922288 F := by
  refine m_eR rfl ?_
  rw [f_TE2, m_ua h1 (d := 467) (off := 0) (n := 60) (by decide +kernel), m_ua h1 (d := 469) (off := 0) (n := 60) (by decide +kernel), m_ua h1 (d := 473) (off := 0) (n := 60) (by decide +kernel), m_uc h1 (m_int3 v1 v2) (by decide +kernel) i1 i2]
  exact hp
theorem e5_537_TE3 {h h' : qH} {x : Nat → Int} {F : aF} (h1 : m_one h h' 537 (x 0).toNat (3, a_W (x 1))) (i1 : 0 ≤ x 0) (i2 : x 0 < 240) (v1 : -9223372036854775808 ≤ x 1) (v2 : x 1 < 9223372036854775808) (hp : p_TE3 (m_ac (m_gh h) 467 0 60) (m_ac (m_gh h) 469 0 60) (m_ac (m_gh h) 471 0 60) (m_up (m_ac (m_gh h) 537 0 240) (x 0) (x 1)) (m_ep x F)) : a_Rc q_SP 557 h' x 2017630225249075313 F := by
  refine m_eR rfl ?_
  rw [f_TE3, m_ua h1 (d := 467) (off := 0) (n := 60) (by decide +kernel), m_ua h1 (d := 469) (off := 0) (n := 60) (by decide +kernel), m_ua h1 (d := 471) (off := 0) (n := 60) (by decide +kernel), m_uc h1 (m_int3 v1 v2) (by decide +kernel) i1 i2]
  exact hp
theorem e1_539_TF0 {h h' : qH} {x : Nat → Int} {F : aF} (h1 : m_one h h' 539 (x 0).toNat (0, a_w (x 1))) (i1 : 0 ≤ x 0) (v1 : -2147483648 ≤ x 1) (v2 : x 1 < 2147483648) (hp : p_TF0 (m_ac (m_gh h) 15 0 96) (m_upo 0 6 (m_ac (m_gh h) 539 0 6) (x 0) (x 1)) (m_upo 7 42 (m_ac (m_gh h) 539 7 42) (x 0) (x 1)) (m_ep x F)) : a_Rc q_SP 557 h' x 5192772227509913214556057593971129 F := by
  refine m_eR rfl ?_
  rw [f_TF0, m_ua h1 (d := 15) (off := 0) (n := 96) (by decide +kernel), m_ucx (off := 0) (n := 6) h1 (m_int0 v1 v2) (by decide +kernel) i1, m_ucx (off := 7) (n := 42) h1 (m_int0 v1 v2) (by decide +kernel) i1]
  exact hp
theorem e5_537_TM0 {h h' : qH} {x : Nat → Int} {F : aF} (h1 : m_one h h' 537 (x 0).toNat (3, a_W (x 1))) (i1 : 0 ≤ x 0) (i2 : x 0 < 240) (v1 : -9223372036854775808 ≤ x 1) (v2 : x 1 < 9223372036854775808) (hp : p_TM0 (m_up (m_ac (m_gh h) 537 0 240) (x 0) (x 1)) (m_ep x F)) : a_Rc q_SP 557 h' x 17592187093110 F := by
  refine m_eR rfl ?_
  rw [f_TM0, m_uc h1 (m_int3 v1 v2) (by decide +kernel) i1 i2]
  exact hp
theorem e5_537_TM1 {h h' : qH} {x : Nat → Int} {F : aF} (h1 : m_one h h' 537 (x 0).toNat (3, a_W (x 1))) (i1 : 0 ≤ x 0) (i2 : x 0 < 240) (v1 : -9223372036854775808 ≤ x 1) (v2 : x 1 < 9223372036854775808) (hp : p_TM1 (m_up (m_ac (m_gh h) 537 0 240) (x 0) (x 1)) (m_ep x F)) : a_Rc q_SP 557 h' x 17592187093111 F := by
  refine m_eR rfl ?_
  rw [f_TM1, m_uc h1 (m_int3 v1 v2) (by decide +kernel) i1 i2]
  exact hp
theorem e5_537_TM2 {h h' : qH} {x : Nat → Int} {F : aF} (h1 : m_one h h' 537 (x 0).toNat (3, a_W (x 1))) (i1 : 0 ≤ x 0) (i2 : x 0 < 240) (v1 : -9223372036854775808 ≤ x 1) (v2 : x 1 < 9223372036854775808) (hp : p_TM2 (m_up (m_ac (m_gh h) 537 0 240) (x 0) (x 1)) (m_ep x F)) : a_Rc q_SP 557 h' x 17592187093112 F := by
  refine m_eR rfl ?_
  rw [f_TM2, m_uc h1 (m_int3 v1 v2) (by decide +kernel) i1 i2]
  exact hp
theorem e5_537_TM3 {h h' : qH} {x : Nat → Int} {F : aF} (h1 : m_one h h' 537 (x 0).toNat (3, a_W (x 1))) (i1 : 0 ≤ x 0) (i2 : x 0 < 240) (v1 : -9223372036854775808 ≤ x 1) (v2 : x 1 < 9223372036854775808) (hp : p_TM3 (m_up (m_ac (m_gh h) 537 0 240) (x 0) (x 1)) (m_ep x F)) : a_Rc q_SP 557 h' x 17592187093113 F := by
  refine m_eR rfl ?_
  rw [f_TM3, m_uc h1 (m_int3 v1 v2) (by decide +kernel) i1 i2]
  exact hp
theorem e5_537_TQ {h h' : qH} {x : Nat → Int} {F : aF} (h1 : m_one h h' 537 (x 0).toNat (3, a_W (x 1))) (i1 : 0 ≤ x 0) (i2 : x 0 < 240) (v1 : -9223372036854775808 ≤ x 1) (v2 : x 1 < 9223372036854775808) (hp : p_TQ (m_ac (m_gh h) 467 0 60) (m_ac (m_gh h) 469 0 60) (m_ac (m_gh h) 471 0 60) (m_ac (m_gh h) 473 0 60) (m_up (m_ac (m_gh h) 537 0 240) (x 0) (x 1)) (m_ep x F)) : a_Rc q_SP 557 h' x 4323473234462769252 F := by
  refine m_eR rfl ?_
  rw [f_TQ, m_ua h1 (d := 467) (off := 0) (n := 60) (by decide +kernel), m_ua h1 (d := 469) (off := 0) (n := 60) (by decide +kernel), m_ua h1 (d := 471) (off := 0) (n := 60) (by decide +kernel), m_ua h1 (d := 473) (off := 0) (n := 60) (by decide +kernel), m_uc h1 (m_int3 v1 v2) (by decide +kernel) i1 i2]
  exact hp
theorem e1_37_TSY {h h' : qH} {x : Nat → Int} {F : aF} (h1 : m_one h h' 37 (x 0).toNat (0, a_w (x 1))) (i1 : 0 ≤ x 0) (i2 : x 0 < 96) (v1 : -2147483648 ≤ x 1) (v2 : x 1 < 2147483648) (hp : p_TSY (m_gh h 26 0) (m_gh h 26 1) (m_gh h 26 2) (m_ac (m_gh h) 35 0 96) (m_up (m_ac (m_gh h) 37 0 96) (x 0) (x 1)) (m_ac (m_gh h) 38 0 96) (m_ep x F)) : a_Rc q_SP 557 h' x 272008309413291564309938497 F := by
  refine m_eR rfl ?_
  rw [f_TSY, m_us h1 (d := 26) (q := 0) (by decide +kernel), m_us h1 (d := 26) (q := 1) (by decide +kernel), m_us h1 (d := 26) (q := 2) (by decide +kernel), m_ua h1 (d := 35) (off := 0) (n := 96) (by decide +kernel), m_uc h1 (m_int0 v1 v2) (by decide +kernel) i1 i2, m_ua h1 (d := 38) (off := 0) (n := 96) (by decide +kernel)]
  exact hp
theorem e1_38_TSZ {h h' : qH} {x : Nat → Int} {F : aF} (h1 : m_one h h' 38 (x 0).toNat (0, a_w (x 1))) (i1 : 0 ≤ x 0) (i2 : x 0 < 96) (v1 : -2147483648 ≤ x 1) (v2 : x 1 < 2147483648) (hp : p_TSZ (m_gh h 26 0) (m_gh h 26 1) (m_gh h 26 2) (m_ac (m_gh h) 35 0 96) (m_ac (m_gh h) 37 0 96) (m_up (m_ac (m_gh h) 38 0 96) (x 0) (x 1)) (m_ep x F)) : a_Rc q_SP 557 h' x 272008309413291564309938498 F := by
  refine m_eR rfl ?_
  rw [f_TSZ, m_us h1 (d := 26) (q := 0) (by decide +kernel), m_us h1 (d := 26) (q := 1) (by decide +kernel), m_us h1 (d := 26) (q := 2) (by decide +kernel), m_ua h1 (d := 35) (off := 0) (n := 96) (by decide +kernel), m_ua h1 (d := 37) (off := 0) (n := 96) (by decide +kernel), m_uc h1 (m_int0 v1 v2) (by decide +kernel) i1 i2]
  exact hp
theorem e5_467_TZ0 {h h' : qH} {x : Nat → Int} {F : aF} (h1 : m_one h h' 467 (x 0).toNat (3, a_W (x 1))) (i1 : 0 ≤ x 0) (i2 : x 0 < 60) (v1 : -9223372036854775808 ≤ x 1) (v2 : x 1 < 9223372036854775808) (hp : p_TZ0 (m_up (m_ac (m_gh h) 467 0 60) (x 0) (x 1)) (m_ep x F)) : a_Rc q_SP 557 h' x 288230376152760434 F := by
  refine m_eR rfl ?_
  rw [f_TZ0, m_uc h1 (m_int3 v1 v2) (by decide +kernel) i1 i2]
  exact hp
theorem e5_469_TZ1 {h h' : qH} {x : Nat → Int} {F : aF} (h1 : m_one h h' 469 (x 0).toNat (3, a_W (x 1))) (i1 : 0 ≤ x 0) (i2 : x 0 < 60) (v1 : -9223372036854775808 ≤ x 1) (v2 : x 1 < 9223372036854775808) (hp : p_TZ1 (m_up (m_ac (m_gh h) 469 0 60) (x 0) (x 1)) (m_ep x F)) : a_Rc q_SP 557 h' x 576460752304472179 F := by
  refine m_eR rfl ?_
  rw [f_TZ1, m_uc h1 (m_int3 v1 v2) (by decide +kernel) i1 i2]
  exact hp
theorem e5_471_TZ2 {h h' : qH} {x : Nat → Int} {F : aF} (h1 : m_one h h' 471 (x 0).toNat (3, a_W (x 1))) (i1 : 0 ≤ x 0) (i2 : x 0 < 60) (v1 : -9223372036854775808 ≤ x 1) (v2 : x 1 < 9223372036854775808) (hp : p_TZ2 (m_up (m_ac (m_gh h) 471 0 60) (x 0) (x 1)) (m_ep x F)) : a_Rc q_SP 557 h' x 1152921504607895668 F := by
  refine m_eR rfl ?_
  rw [f_TZ2, m_uc h1 (m_int3 v1 v2) (by decide +kernel) i1 i2]
  exact hp
theorem e5_473_TZ3 {h h' : qH} {x : Nat → Int} {F : aF} (h1 : m_one h h' 473 (x 0).toNat (3, a_W (x 1))) (i1 : 0 ≤ x 0) (i2 : x 0 < 60) (v1 : -9223372036854775808 ≤ x 1) (v2 : x 1 < 9223372036854775808) (hp : p_TZ3 (m_up (m_ac (m_gh h) 473 0 60) (x 0) (x 1)) (m_ep x F)) : a_Rc q_SP 557 h' x 2305843009214742645 F := by
  refine m_eR rfl ?_
  rw [f_TZ3, m_uc h1 (m_int3 v1 v2) (by decide +kernel) i1 i2]
  exact hp
theorem e1_554_YX {h h' : qH} {x : Nat → Int} {F : aF} (h1 : m_one h h' 554 (x 0).toNat (0, a_w (x 1))) (i1 : 0 ≤ x 0) (i2 : x 0 < 8) (v1 : -2147483648 ≤ x 1) (v2 : x 1 < 2147483648) (hp : p_YX (m_ac (m_gh h) 539 0 6) (m_ac (m_gh h) 539 7 42) (m_up (m_ac (m_gh h) 554 0 8) (x 0) (x 1)) (m_ep x F)) : a_Rc q_SP 557 h' x 475368975085586025578444620252 F := by
  refine m_eR rfl ?_
  rw [f_YX, m_ua h1 (d := 539) (off := 0) (n := 6) (by decide +kernel), m_ua h1 (d := 539) (off := 7) (n := 42) (by decide +kernel), m_uc h1 (m_int0 v1 v2) (by decide +kernel) i1 i2]
  exact hp
theorem e1_539_ZR {h h' : qH} {x : Nat → Int} {F : aF} (h1 : m_one h h' 539 (x 0).toNat (0, a_w (x 1))) (i1 : 0 ≤ x 0) (v1 : -2147483648 ≤ x 1) (v2 : x 1 < 2147483648) (hp : p_ZR (m_upo 1440 360 (m_ac (m_gh h) 539 1440 360) (x 0) (x 1)) (m_ep x F)) : a_Rc q_SP 557 h' x 1125899907891470 F := by
  refine m_eR rfl ?_
  rw [f_ZR, m_ucx (off := 1440) (n := 360) h1 (m_int0 v1 v2) (by decide +kernel) i1]
  exact hp
