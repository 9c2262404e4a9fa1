-- 68a93.short: what the rules use (printed by wip/p5/gen68.py)
theorem e_RDR {h : qH} {x : Nat → Int} {F : aF} (hp : p_RDR (m_ac (m_gh h) 538 0 900) (m_gh h 534 9) (m_ac (m_gh h) 539 1440 360) (m_ac (m_gh h) 541 0 4) (m_ep x F)) : a_Rc q_SP 557 h x 4835703279760338467160315 F := by
  refine m_eR (by decide +kernel) ?_
  rw [f_RDR]
  exact hp
theorem e_CFP {h : qH} {x : Nat → Int} {F : aF} (hp : p_CFP (m_ac (m_gh h) 538 0 900) (m_gh h 534 9) (m_ac (m_gh h) 539 1440 360) (m_ac (m_gh h) 541 0 4) (m_ep x F)) : a_Rc q_SP 557 h x 4835703279760338467160316 F := by
  refine m_eR (by decide +kernel) ?_
  rw [f_CFP]
  exact hp
theorem e_RDP {h : qH} {x : Nat → Int} {F : aF} (hp : p_RDP (m_ac (m_gh h) 538 0 900) (m_gh h 534 9) (m_ac (m_gh h) 539 1440 360) (m_ac (m_gh h) 541 0 4) (m_ep x F)) : a_Rc q_SP 557 h x 4835703279760338467160317 F := by
  refine m_eR (by decide +kernel) ?_
  rw [f_RDP]
  exact hp
theorem e_CFAR {h : qH} {x : Nat → Int} {F : aF} (hp : p_CFAR (m_ac (m_gh h) 538 0 900) (m_gh h 534 9) (m_ac (m_gh h) 539 1440 360) (m_ac (m_gh h) 541 0 4) (m_ep x F)) : a_Rc q_SP 557 h x 4835703279760338467160318 F := by
  refine m_eR (by decide +kernel) ?_
  rw [f_CFAR]
  exact hp
theorem e_LER {h : qH} {x : Nat → Int} {F : aF} (hp : p_LER (m_ac (m_gh h) 538 0 900) (m_gh h 534 9) (m_ep x F)) : a_Rc q_SP 557 h x 4835703278493701071962277 F := by
  refine m_eR (by decide +kernel) ?_
  rw [f_LER]
  exact hp
theorem e_DGR {h : qH} {x : Nat → Int} {F : aF} (hp : p_DGR (m_ac (m_gh h) 538 0 900) (m_gh h 534 9) (m_ep x F)) : a_Rc q_SP 557 h x 4835703278493701071962278 F := by
  refine m_eR (by decide +kernel) ?_
  rw [f_DGR]
  exact hp
theorem e_WDR {h : qH} {x : Nat → Int} {F : aF} (hp : p_WDR (m_ac (m_gh h) 538 0 900) (m_gh h 534 9) (m_ep x F)) : a_Rc q_SP 557 h x 4835703278493701071962279 F := by
  refine m_eR (by decide +kernel) ?_
  rw [f_WDR]
  exact hp
theorem e_TKR {h : qH} {x : Nat → Int} {F : aF} (hp : p_TKR (m_ac (m_gh h) 538 0 900) (m_gh h 534 9) (m_gh h 534 14) (m_gh h 534 16) (m_gh h 534 17) (m_gh h 534 18) (m_ep x F)) : a_Rc q_SP 557 h x 14507109835410734469611688 F := by
  refine m_eR (by decide +kernel) ?_
  rw [f_TKR]
  exact hp
theorem e_CUR {h : qH} {x : Nat → Int} {F : aF} (hp : p_CUR (m_ac (m_gh h) 538 0 900) (m_gh h 534 9) (m_gh h 534 14) (m_gh h 534 15) (m_gh h 534 16) (m_gh h 534 17) (m_gh h 534 18) (m_ep x F)) : a_Rc q_SP 557 h x 14507109835410734469611689 F := by
  refine m_eR (by decide +kernel) ?_
  rw [f_CUR]
  exact hp
theorem e_DNR {h : qH} {x : Nat → Int} {F : aF} (hp : p_DNR (m_ac (m_gh h) 538 0 900) (m_gh h 534 9) (m_ac (m_gh h) 541 0 4) (m_ep x F)) : a_Rc q_SP 557 h x 4835703278634438560317704 F := by
  refine m_eR (by decide +kernel) ?_
  rw [f_DNR]
  exact hp
theorem e_WKR {h : qH} {x : Nat → Int} {F : aF} (hp : p_WKR (m_ac (m_gh h) 541 0 4) (m_ep x F)) : a_Rc q_SP 557 h x 140737489404169 F := by
  refine m_eR (by decide +kernel) ?_
  rw [f_WKR]
  exact hp
theorem e_PSN {h : qH} {x : Nat → Int} {F : aF} (hp : p_PSN (m_ac (m_gh h) 539 1440 360) (m_ep x F)) : a_Rc q_SP 557 h x 1125899907891466 F := by
  refine m_eR (by decide +kernel) ?_
  rw [f_PSN]
  exact hp
theorem e_NSN {h : qH} {x : Nat → Int} {F : aF} (hp : p_NSN (m_ac (m_gh h) 539 1440 360) (m_ep x F)) : a_Rc q_SP 557 h x 1125899907891467 F := by
  refine m_eR (by decide +kernel) ?_
  rw [f_NSN]
  exact hp
theorem e_LSR {h : qH} {x : Nat → Int} {F : aF} (hp : p_LSR (m_ac (m_gh h) 539 1440 360) (m_ep x F)) : a_Rc q_SP 557 h x 1125899907891468 F := by
  refine m_eR (by decide +kernel) ?_
  rw [f_LSR]
  exact hp
theorem e_LDN {h : qH} {x : Nat → Int} {F : aF} (hp : p_LDN (m_ac (m_gh h) 539 1440 360) (m_ep x F)) : a_Rc q_SP 557 h x 1125899907891481 F := by
  refine m_eR (by decide +kernel) ?_
  rw [f_LDN]
  exact hp
theorem e_DFR {h : qH} {x : Nat → Int} {F : aF} (hp : p_DFR (m_ac (m_gh h) 539 1440 360) (m_ep x F)) : a_Rc q_SP 557 h x 1125899907891469 F := by
  refine m_eR (by decide +kernel) ?_
  rw [f_DFR]
  exact hp
theorem e_ZR {h : qH} {x : Nat → Int} {F : aF} (hp : p_ZR (m_ac (m_gh h) 539 1440 360) (m_ep x F)) : a_Rc q_SP 557 h x 1125899907891470 F := by
  refine m_eR (by decide +kernel) ?_
  rw [f_ZR]
  exact hp
theorem e_LDC {h : qH} {x : Nat → Int} {F : aF} (hp : p_LDC (m_ac (m_gh h) 539 1440 360) (m_ep x F)) : a_Rc q_SP 557 h x 1125899907891483 F := by
  refine m_eR (by decide +kernel) ?_
  rw [f_LDC]
  exact hp
theorem e_CPW {h : qH} {x : Nat → Int} {F : aF} (hp : p_CPW (m_ac (m_gh h) 539 0 360) (m_ac (m_gh h) 539 1440 360) (m_ep x F)) : a_Rc q_SP 557 h x 19342813114959966703190280 F := by
  refine m_eR (by decide +kernel) ?_
  rw [f_CPW]
  exact hp
theorem e_DNW {h : qH} {x : Nat → Int} {F : aF} (hp : p_DNW (m_ac (m_gh h) 538 0 900) (m_gh h 534 9) (m_ac (m_gh h) 539 1440 360) (m_ac (m_gh h) 541 0 4) (m_ep x F)) : a_Rc q_SP 557 h x 4835703279760338467160346 F := by
  refine m_eR (by decide +kernel) ?_
  rw [f_DNW]
  exact hp
theorem e_TB3 {h : qH} {x : Nat → Int} {F : aF} (hp : p_TB3 (m_ac (m_gh h) 3 0 900) (m_ep x F)) : a_Rc q_SP 557 h x 4611686018428436780 F := by
  refine m_eR (by decide +kernel) ?_
  rw [f_TB3]
  exact hp
theorem e_AB3 {h : qH} {x : Nat → Int} {F : aF} (hp : p_AB3 (m_ac (m_gh h) 3 0 900) (m_ep x F)) : a_Rc q_SP 557 h x 4611686018428436781 F := by
  refine m_eR (by decide +kernel) ?_
  rw [f_AB3]
  exact hp
theorem e_TB8 {h : qH} {x : Nat → Int} {F : aF} (hp : p_TB8 (m_ac (m_gh h) 538 0 900) (m_ep x F)) : a_Rc q_SP 557 h x 35184373137712 F := by
  refine m_eR (by decide +kernel) ?_
  rw [f_TB8]
  exact hp
theorem e_AB8 {h : qH} {x : Nat → Int} {F : aF} (hp : p_AB8 (m_ac (m_gh h) 538 0 900) (m_ep x F)) : a_Rc q_SP 557 h x 35184373137713 F := by
  refine m_eR (by decide +kernel) ?_
  rw [f_AB8]
  exact hp
theorem e_SHR {h : qH} {x : Nat → Int} {F : aF} (hp : p_SHR  (m_ep x F)) : a_Rc q_SP 557 h x 1048878 F := by
  refine m_eR (by decide +kernel) ?_
  rw [f_SHR]
  exact hp
theorem e_CVB {h : qH} {x : Nat → Int} {F : aF} (hp : p_CVB  (m_ep x F)) : a_Rc q_SP 557 h x 1048879 F := by
  refine m_eR (by decide +kernel) ?_
  rw [f_CVB]
  exact hp
theorem e_TSX {h : qH} {x : Nat → Int} {F : aF} (hp : p_TSX (m_gh h 26 0) (m_gh h 26 1) (m_gh h 26 2) (m_ac (m_gh h) 35 0 96) (m_ac (m_gh h) 37 0 96) (m_ac (m_gh h) 38 0 96) (m_ep x F)) : a_Rc q_SP 557 h x 272008309413291564309938496 F := by
  refine m_eR (by decide +kernel) ?_
  rw [f_TSX]
  exact hp
theorem e_SETT {h : qH} {x : Nat → Int} {F : aF} (hp : p_SETT (m_gh h 26 0) (m_gh h 26 1) (m_gh h 26 2) (m_ac (m_gh h) 35 0 96) (m_ac (m_gh h) 37 0 96) (m_ac (m_gh h) 38 0 96) (m_ep x F)) : a_Rc q_SP 557 h x 272008309413291564309938499 F := by
  refine m_eR (by decide +kernel) ?_
  rw [f_SETT]
  exact hp
theorem e_CBW {h : qH} {x : Nat → Int} {F : aF} (hp : p_CBW (m_gh h 26 0) (m_ep x F)) : a_Rc q_SP 557 h x 38685626227668133591646532 F := by
  refine m_eR (by decide +kernel) ?_
  rw [f_CBW]
  exact hp
theorem e_CBT {h : qH} {x : Nat → Int} {F : aF} (hp : p_CBT (m_gh h 26 0) (m_ep x F)) : a_Rc q_SP 557 h x 38685626227668133591646533 F := by
  refine m_eR (by decide +kernel) ?_
  rw [f_CBT]
  exact hp
theorem e_BYX {h : qH} {x : Nat → Int} {F : aF} (hp : p_BYX (m_ac (m_gh h) 35 0 96) (m_ep x F)) : a_Rc q_SP 557 h x 1208925819614629175755078 F := by
  refine m_eR (by decide +kernel) ?_
  rw [f_BYX]
  exact hp
theorem e_SWT {h : qH} {x : Nat → Int} {F : aF} (hp : p_SWT (m_ac (m_gh h) 3 0 900) (m_gh h 2 7) (m_gh h 5 0) (m_gh h 5 2) (m_ac (m_gh h) 16 0 96) (m_ac (m_gh h) 17 0 96) (m_ep x F)) : a_Rc q_SP 557 h x 84489407695062261817148440921 F := by
  refine m_eR (by decide +kernel) ?_
  rw [f_SWT]
  exact hp
theorem e_TC0 {h : qH} {x : Nat → Int} {F : aF} (hp : p_TC0 (m_gh h 5 0) (m_gh h 5 2) (m_ac (m_gh h) 16 0 96) (m_ac (m_gh h) 17 0 96) (m_ac (m_gh h) 539 0 6) (m_ac (m_gh h) 539 7 42) (m_ep x F)) : a_Rc q_SP 557 h x 559858382766813229323129979226 F := by
  refine m_eR (by decide +kernel) ?_
  rw [f_TC0]
  exact hp
theorem e_TC1 {h : qH} {x : Nat → Int} {F : aF} (hp : p_TC1 (m_gh h 475 0) (m_gh h 475 2) (m_ac (m_gh h) 486 0 96) (m_ac (m_gh h) 487 0 96) (m_ac (m_gh h) 539 360 6) (m_ac (m_gh h) 539 367 42) (m_ep x F)) : a_Rc q_SP 557 h x 4447299591132728637575104823643 F := by
  refine m_eR (by decide +kernel) ?_
  rw [f_TC1]
  exact hp
theorem e_TC2 {h : qH} {x : Nat → Int} {F : aF} (hp : p_TC2 (m_gh h 495 0) (m_gh h 495 2) (m_ac (m_gh h) 506 0 96) (m_ac (m_gh h) 507 0 96) (m_ac (m_gh h) 539 720 6) (m_ac (m_gh h) 539 727 42) (m_ep x F)) : a_Rc q_SP 557 h x 35515261787058274706580975911260 F := by
  refine m_eR (by decide +kernel) ?_
  rw [f_TC2]
  exact hp
theorem e_TC3 {h : qH} {x : Nat → Int} {F : aF} (hp : p_TC3 (m_gh h 515 0) (m_gh h 515 2) (m_ac (m_gh h) 526 0 96) (m_ac (m_gh h) 527 0 96) (m_ac (m_gh h) 539 1080 6) (m_ac (m_gh h) 539 1087 42) (m_ep x F)) : a_Rc q_SP 557 h x 283995824412459088864608089276765 F := by
  refine m_eR (by decide +kernel) ?_
  rw [f_TC3]
  exact hp
theorem e_MK1 {h : qH} {x : Nat → Int} {F : aF} (hp : p_MK1 (m_gh h 5 0) (m_gh h 5 2) (m_ac (m_gh h) 16 0 96) (m_ac (m_gh h) 17 0 96) (m_gh h 475 0) (m_gh h 475 2) (m_ac (m_gh h) 486 0 96) (m_ac (m_gh h) 487 0 96) (m_ep x F)) : a_Rc q_SP 557 h x 728837198129267636846860435807 F := by
  refine m_eR (by decide +kernel) ?_
  rw [f_MK1]
  exact hp
theorem e_MK2 {h : qH} {x : Nat → Int} {F : aF} (hp : p_MK2 (m_gh h 5 0) (m_gh h 5 2) (m_ac (m_gh h) 16 0 96) (m_ac (m_gh h) 17 0 96) (m_gh h 495 0) (m_gh h 495 2) (m_ac (m_gh h) 506 0 96) (m_ac (m_gh h) 507 0 96) (m_ep x F)) : a_Rc q_SP 557 h x 5176136789261996274421964210528 F := by
  refine m_eR (by decide +kernel) ?_
  rw [f_MK2]
  exact hp
theorem e_MK3 {h : qH} {x : Nat → Int} {F : aF} (hp : p_MK3 (m_gh h 5 0) (m_gh h 5 2) (m_ac (m_gh h) 16 0 96) (m_ac (m_gh h) 17 0 96) (m_gh h 515 0) (m_gh h 515 2) (m_ac (m_gh h) 526 0 96) (m_ac (m_gh h) 527 0 96) (m_ep x F)) : a_Rc q_SP 557 h x 40691398576320270981002939072865 F := by
  refine m_eR (by decide +kernel) ?_
  rw [f_MK3]
  exact hp
theorem e_LC0 {h : qH} {x : Nat → Int} {F : aF} (hp : p_LC0 (m_ac (m_gh h) 539 0 360) (m_ep x F)) : a_Rc q_SP 557 h x 19342813113834066796347747 F := by
  refine m_eR (by decide +kernel) ?_
  rw [f_LC0]
  exact hp
theorem e_LC1 {h : qH} {x : Nat → Int} {F : aF} (hp : p_LC1 (m_ac (m_gh h) 539 360 360) (m_ep x F)) : a_Rc q_SP 557 h x 324518553658426726783156021625188 F := by
  refine m_eR (by decide +kernel) ?_
  rw [f_LC1]
  exact hp
theorem e_LC2 {h : qH} {x : Nat → Int} {F : aF} (hp : p_LC2 (m_ac (m_gh h) 539 720 360) (m_ep x F)) : a_Rc q_SP 557 h x 649037107316853453566312042201445 F := by
  refine m_eR (by decide +kernel) ?_
  rw [f_LC2]
  exact hp
theorem e_LC3 {h : qH} {x : Nat → Int} {F : aF} (hp : p_LC3 (m_ac (m_gh h) 539 1080 360) (m_ep x F)) : a_Rc q_SP 557 h x 1298074214633706907132624083353958 F := by
  refine m_eR (by decide +kernel) ?_
  rw [f_LC3]
  exact hp
theorem e_CB01 {h : qH} {x : Nat → Int} {F : aF} (hp : p_CB01 (m_ac (m_gh h) 539 0 360) (m_ac (m_gh h) 539 360 360) (m_ep x F)) : a_Rc q_SP 557 h x 324518573001239840617222816924007 F := by
  refine m_eR (by decide +kernel) ?_
  rw [f_CB01]
  exact hp
theorem e_CB02 {h : qH} {x : Nat → Int} {F : aF} (hp : p_CB02 (m_ac (m_gh h) 539 0 360) (m_ac (m_gh h) 539 720 360) (m_ep x F)) : a_Rc q_SP 557 h x 649037126659666567400378837500264 F := by
  refine m_eR (by decide +kernel) ?_
  rw [f_CB02]
  exact hp
theorem e_CB03 {h : qH} {x : Nat → Int} {F : aF} (hp : p_CB03 (m_ac (m_gh h) 539 0 360) (m_ac (m_gh h) 539 1080 360) (m_ep x F)) : a_Rc q_SP 557 h x 1298074233976520020966690878652777 F := by
  refine m_eR (by decide +kernel) ?_
  rw [f_CB03]
  exact hp
theorem e_CB10 {h : qH} {x : Nat → Int} {F : aF} (hp : p_CB10 (m_ac (m_gh h) 539 0 360) (m_ac (m_gh h) 539 360 360) (m_ep x F)) : a_Rc q_SP 557 h x 324518573001239840617222816924010 F := by
  refine m_eR (by decide +kernel) ?_
  rw [f_CB10]
  exact hp
theorem e_CB20 {h : qH} {x : Nat → Int} {F : aF} (hp : p_CB20 (m_ac (m_gh h) 539 0 360) (m_ac (m_gh h) 539 720 360) (m_ep x F)) : a_Rc q_SP 557 h x 649037126659666567400378837500267 F := by
  refine m_eR (by decide +kernel) ?_
  rw [f_CB20]
  exact hp
theorem e_CB30 {h : qH} {x : Nat → Int} {F : aF} (hp : p_CB30 (m_ac (m_gh h) 539 0 360) (m_ac (m_gh h) 539 1080 360) (m_ep x F)) : a_Rc q_SP 557 h x 1298074233976520020966690878652780 F := by
  refine m_eR (by decide +kernel) ?_
  rw [f_CB30]
  exact hp
theorem e_KPT {h : qH} {x : Nat → Int} {F : aF} (hp : p_KPT (m_ac (m_gh h) 540 0 147) (m_ac (m_gh h) 539 0 6) (m_ac (m_gh h) 539 7 42) (m_ep x F)) : a_Rc q_SP 557 h x 475368975085586307036241461614 F := by
  refine m_eR (by decide +kernel) ?_
  rw [f_KPT]
  exact hp
theorem e_LKP {h : qH} {x : Nat → Int} {F : aF} (hp : p_LKP (m_ac (m_gh h) 540 0 147) (m_ep x F)) : a_Rc q_SP 557 h x 281474977759599 F := by
  refine m_eR (by decide +kernel) ?_
  rw [f_LKP]
  exact hp
theorem e_TV {h : qH} {x : Nat → Int} {F : aF} (hp : p_TV (m_ac (m_gh h) 539 0 6) (m_ac (m_gh h) 539 7 42) (m_ep x F)) : a_Rc q_SP 557 h x 475368975085586025561264750962 F := by
  refine m_eR (by decide +kernel) ?_
  rw [f_TV]
  exact hp
theorem e_SWV {h : qH} {x : Nat → Int} {F : aF} (hp : p_SWV (m_ac (m_gh h) 539 0 6) (m_ac (m_gh h) 539 7 42) (m_ep x F)) : a_Rc q_SP 557 h x 475368975085586025561264750963 F := by
  refine m_eR (by decide +kernel) ?_
  rw [f_SWV]
  exact hp
theorem e_HL {h : qH} {x : Nat → Int} {F : aF} (hp : p_HL (m_ac (m_gh h) 539 0 6) (m_ac (m_gh h) 539 7 42) (m_ep x F)) : a_Rc q_SP 557 h x 475368975085586025561264750964 F := by
  refine m_eR (by decide +kernel) ?_
  rw [f_HL]
  exact hp
theorem e_NH {h : qH} {x : Nat → Int} {F : aF} (hp : p_NH (m_ac (m_gh h) 539 0 6) (m_ac (m_gh h) 539 7 42) (m_ep x F)) : a_Rc q_SP 557 h x 475368975085586025561264750965 F := by
  refine m_eR (by decide +kernel) ?_
  rw [f_NH]
  exact hp
theorem e_CA {h : qH} {x : Nat → Int} {F : aF} (hp : p_CA (m_ac (m_gh h) 542 0 96) (m_ac (m_gh h) 539 0 6) (m_ac (m_gh h) 539 7 42) (m_ep x F)) : a_Rc q_SP 557 h x 475368975085586025569854685558 F := by
  refine m_eR (by decide +kernel) ?_
  rw [f_CA]
  exact hp
theorem e_CFX {h : qH} {x : Nat → Int} {F : aF} (hp : p_CFX (m_ac (m_gh h) 542 0 96) (m_ac (m_gh h) 539 0 6) (m_ac (m_gh h) 539 7 42) (m_ep x F)) : a_Rc q_SP 557 h x 475368975085586025569854685559 F := by
  refine m_eR (by decide +kernel) ?_
  rw [f_CFX]
  exact hp
theorem e_CAT {h : qH} {x : Nat → Int} {F : aF} (hp : p_CAT (m_ac (m_gh h) 542 0 96) (m_ac (m_gh h) 539 0 6) (m_ac (m_gh h) 539 7 42) (m_ep x F)) : a_Rc q_SP 557 h x 475368975085586025569854685560 F := by
  refine m_eR (by decide +kernel) ?_
  rw [f_CAT]
  exact hp
theorem e_CFT {h : qH} {x : Nat → Int} {F : aF} (hp : p_CFT (m_ac (m_gh h) 542 0 96) (m_ac (m_gh h) 539 0 6) (m_ac (m_gh h) 539 7 42) (m_ep x F)) : a_Rc q_SP 557 h x 475368975085586025569854685561 F := by
  refine m_eR (by decide +kernel) ?_
  rw [f_CFT]
  exact hp
theorem e_LSA {h : qH} {x : Nat → Int} {F : aF} (hp : p_LSA (m_ac (m_gh h) 539 7 42) (m_ep x F)) : a_Rc q_SP 557 h x 475368975085586025561264750970 F := by
  refine m_eR (by decide +kernel) ?_
  rw [f_LSA]
  exact hp
theorem e_LSB {h : qH} {x : Nat → Int} {F : aF} (hp : p_LSB (m_ac (m_gh h) 539 7 42) (m_ep x F)) : a_Rc q_SP 557 h x 475368975085586025561264750971 F := by
  refine m_eR (by decide +kernel) ?_
  rw [f_LSB]
  exact hp
theorem e_MBY {h : qH} {x : Nat → Int} {F : aF} (hp : p_MBY (m_ac (m_gh h) 539 0 6) (m_ac (m_gh h) 539 7 42) (m_ep x F)) : a_Rc q_SP 557 h x 475368975085586025561264750972 F := by
  refine m_eR (by decide +kernel) ?_
  rw [f_MBY]
  exact hp
theorem e_HC {h : qH} {x : Nat → Int} {F : aF} (hp : p_HC (m_ac (m_gh h) 539 0 6) (m_ac (m_gh h) 539 7 42) (m_ep x F)) : a_Rc q_SP 557 h x 475368975085586025561264750977 F := by
  refine m_eR (by decide +kernel) ?_
  rw [f_HC]
  exact hp
theorem e_HCC {h : qH} {x : Nat → Int} {F : aF} (hp : p_HCC (m_ac (m_gh h) 539 0 6) (m_ac (m_gh h) 539 7 42) (m_ep x F)) : a_Rc q_SP 557 h x 475368975085586025561264750978 F := by
  refine m_eR (by decide +kernel) ?_
  rw [f_HCC]
  exact hp
theorem e_HAX {h : qH} {x : Nat → Int} {F : aF} (hp : p_HAX (m_ac (m_gh h) 539 0 6) (m_ac (m_gh h) 539 7 42) (m_ep x F)) : a_Rc q_SP 557 h x 475368975085586025561264750980 F := by
  refine m_eR (by decide +kernel) ?_
  rw [f_HAX]
  exact hp
theorem e_HAR {h : qH} {x : Nat → Int} {F : aF} (hp : p_HAR (m_ac (m_gh h) 539 0 6) (m_ac (m_gh h) 539 7 42) (m_ep x F)) : a_Rc q_SP 557 h x 475368975085586025561264750981 F := by
  refine m_eR (by decide +kernel) ?_
  rw [f_HAR]
  exact hp
theorem e_HAN {h : qH} {x : Nat → Int} {F : aF} (hp : p_HAN (m_ac (m_gh h) 539 0 6) (m_ac (m_gh h) 539 7 42) (m_ep x F)) : a_Rc q_SP 557 h x 475368975085586025561264750982 F := by
  refine m_eR (by decide +kernel) ?_
  rw [f_HAN]
  exact hp
theorem e_NXH {h : qH} {x : Nat → Int} {F : aF} (hp : p_NXH (m_ac (m_gh h) 539 0 6) (m_ac (m_gh h) 539 7 42) (m_ep x F)) : a_Rc q_SP 557 h x 475368975085586025561264750983 F := by
  refine m_eR (by decide +kernel) ?_
  rw [f_NXH]
  exact hp
theorem e_NXQ {h : qH} {x : Nat → Int} {F : aF} (hp : p_NXQ (m_ac (m_gh h) 539 0 6) (m_ac (m_gh h) 539 7 42) (m_ep x F)) : a_Rc q_SP 557 h x 475368975085586025561264750984 F := by
  refine m_eR (by decide +kernel) ?_
  rw [f_NXQ]
  exact hp
theorem e_NXN {h : qH} {x : Nat → Int} {F : aF} (hp : p_NXN (m_ac (m_gh h) 539 0 6) (m_ac (m_gh h) 539 7 42) (m_ep x F)) : a_Rc q_SP 557 h x 475368975085586025561264750985 F := by
  refine m_eR (by decide +kernel) ?_
  rw [f_NXN]
  exact hp
theorem e_GPX {h : qH} {x : Nat → Int} {F : aF} (hp : p_GPX (m_ac (m_gh h) 539 0 6) (m_ac (m_gh h) 539 7 42) (m_ep x F)) : a_Rc q_SP 557 h x 475368975085586025561264750986 F := by
  refine m_eR (by decide +kernel) ?_
  rw [f_GPX]
  exact hp
theorem e_GPC {h : qH} {x : Nat → Int} {F : aF} (hp : p_GPC (m_ac (m_gh h) 539 0 6) (m_ac (m_gh h) 539 7 42) (m_ep x F)) : a_Rc q_SP 557 h x 475368975085586025561264750987 F := by
  refine m_eR (by decide +kernel) ?_
  rw [f_GPC]
  exact hp
theorem e_SHF {h : qH} {x : Nat → Int} {F : aF} (hp : p_SHF (m_ac (m_gh h) 539 0 6) (m_ac (m_gh h) 539 7 42) (m_ep x F)) : a_Rc q_SP 557 h x 475368975085586025561264750988 F := by
  refine m_eR (by decide +kernel) ?_
  rw [f_SHF]
  exact hp
theorem e_SHC {h : qH} {x : Nat → Int} {F : aF} (hp : p_SHC (m_ac (m_gh h) 539 0 6) (m_ac (m_gh h) 539 7 42) (m_ep x F)) : a_Rc q_SP 557 h x 475368975085586025561264750989 F := by
  refine m_eR (by decide +kernel) ?_
  rw [f_SHC]
  exact hp
theorem e_SHL {h : qH} {x : Nat → Int} {F : aF} (hp : p_SHL (m_ac (m_gh h) 539 0 6) (m_ac (m_gh h) 539 7 42) (m_ep x F)) : a_Rc q_SP 557 h x 475368975085586025561264750990 F := by
  refine m_eR (by decide +kernel) ?_
  rw [f_SHL]
  exact hp
theorem e_SHN {h : qH} {x : Nat → Int} {F : aF} (hp : p_SHN (m_ac (m_gh h) 539 0 6) (m_ac (m_gh h) 539 7 42) (m_ep x F)) : a_Rc q_SP 557 h x 475368975085586025561264750991 F := by
  refine m_eR (by decide +kernel) ?_
  rw [f_SHN]
  exact hp
theorem e_ASX {h : qH} {x : Nat → Int} {F : aF} (hp : p_ASX (m_ac (m_gh h) 539 0 6) (m_ac (m_gh h) 539 7 42) (m_ep x F)) : a_Rc q_SP 557 h x 475368975085586025561264750992 F := by
  refine m_eR (by decide +kernel) ?_
  rw [f_ASX]
  exact hp
theorem e_ASR {h : qH} {x : Nat → Int} {F : aF} (hp : p_ASR (m_ac (m_gh h) 539 0 6) (m_ac (m_gh h) 539 7 42) (m_ep x F)) : a_Rc q_SP 557 h x 475368975085586025561264750993 F := by
  refine m_eR (by decide +kernel) ?_
  rw [f_ASR]
  exact hp
theorem e_ASN {h : qH} {x : Nat → Int} {F : aF} (hp : p_ASN (m_ac (m_gh h) 539 0 6) (m_ac (m_gh h) 539 7 42) (m_ep x F)) : a_Rc q_SP 557 h x 475368975085586025561264750994 F := by
  refine m_eR (by decide +kernel) ?_
  rw [f_ASN]
  exact hp
theorem e1_544_AA {h h' : qH} {x : Nat → Int} {F : aF} (h1 : m_one h h' 544 (x 0).toNat (0, a_w (x 1))) (i1 : 0 ≤ x 0) (i2 : x 0 < 1344) (v1 : -2147483648 ≤ x 1) (v2 : x 1 < 2147483648) (hp : p_AA (m_gh h 539 0) (m_ac (m_gh h) 539 49 96) (m_ac (m_gh h) 545 0 96) (m_gh h 539 2) (m_ac (m_gh h) 539 7 6) (m_up (m_ac (m_gh h) 544 0 1344) (x 0) (x 1)) (m_ep x F)) : a_Rc q_SP 557 h' x 3390046244 F := by
  refine m_eR rfl ?_
  rw [f_AA, m_us h1 (d := 539) (q := 0) (by decide +kernel), m_ua h1 (d := 539) (off := 49) (n := 96) (by decide +kernel), m_ua h1 (d := 545) (off := 0) (n := 96) (by decide +kernel), m_us h1 (d := 539) (q := 2) (by decide +kernel), m_ua h1 (d := 539) (off := 7) (n := 6) (by decide +kernel), m_uc h1 (m_int0 v1 v2) (by decide +kernel) i1 i2]
  exact hp
theorem e1_3_AB3 {h h' : qH} {x : Nat → Int} {F : aF} (h1 : m_one h h' 3 (x 0).toNat (0, a_w (x 1))) (i1 : 0 ≤ x 0) (i2 : x 0 < 900) (v1 : -2147483648 ≤ x 1) (v2 : x 1 < 2147483648) (hp : p_AB3 (m_up (m_ac (m_gh h) 3 0 900) (x 0) (x 1)) (m_ep x F)) : a_Rc q_SP 557 h' x 4611686018428436781 F := by
  refine m_eR rfl ?_
  rw [f_AB3, m_uc h1 (m_int0 v1 v2) (by decide +kernel) i1 i2]
  exact hp
theorem e1_538_AB8 {h h' : qH} {x : Nat → Int} {F : aF} (h1 : m_one h h' 538 (x 0).toNat (0, a_w (x 1))) (i1 : 0 ≤ x 0) (i2 : x 0 < 900) (v1 : -2147483648 ≤ x 1) (v2 : x 1 < 2147483648) (hp : p_AB8 (m_up (m_ac (m_gh h) 538 0 900) (x 0) (x 1)) (m_ep x F)) : a_Rc q_SP 557 h' x 35184373137713 F := by
  refine m_eR rfl ?_
  rw [f_AB8, m_uc h1 (m_int0 v1 v2) (by decide +kernel) i1 i2]
  exact hp
theorem e8_16870_AE16_486 {h h' : qH} {x : Nat → Int} {F : aF} (h1 : m_cpd h h' 16 486 (x 0) (x 1) (x 2)) (i1 : 0 ≤ x 0) (i2 : 0 ≤ x 1) (i3 : 0 ≤ x 2) (l1 : x 0 + x 2 ≤ a_cl q_SP 16) (l2 : x 1 + x 2 ≤ a_cl q_SP 486) (hp : p_AE16_486 (m_ac (m_gh h) 16 0 96) (m_cpx (m_ac (m_gh h) 16 0 96) (m_ac (m_gh h) 486 0 96) (x 0) (x 1) (x 2)) (m_ep x F)) : a_Rc q_SP 557 h' x 928455029464035206175392075 F := by
  refine m_eR rfl ?_
  rw [f_AE16_486, m_ca h1 (d := 16) (off := 0) (n := 96) (by decide +kernel), m_cc h1 (by decide +kernel) (by decide +kernel) i1 i2 i3 l1 l2]
  exact hp
theorem e8_16890_AE16_506 {h h' : qH} {x : Nat → Int} {F : aF} (h1 : m_cpd h h' 16 506 (x 0) (x 1) (x 2)) (i1 : 0 ≤ x 0) (i2 : 0 ≤ x 1) (i3 : 0 ≤ x 2) (l1 : x 0 + x 2 ≤ a_cl q_SP 16) (l2 : x 1 + x 2 ≤ a_cl q_SP 506) (hp : p_AE16_506 (m_ac (m_gh h) 16 0 96) (m_cpx (m_ac (m_gh h) 16 0 96) (m_ac (m_gh h) 506 0 96) (x 0) (x 1) (x 2)) (m_ep x F)) : a_Rc q_SP 557 h' x 1547425049106725343624954189 F := by
  refine m_eR rfl ?_
  rw [f_AE16_506, m_ca h1 (d := 16) (off := 0) (n := 96) (by decide +kernel), m_cc h1 (by decide +kernel) (by decide +kernel) i1 i2 i3 l1 l2]
  exact hp
theorem e8_16910_AE16_526 {h h' : qH} {x : Nat → Int} {F : aF} (h1 : m_cpd h h' 16 526 (x 0) (x 1) (x 2)) (i1 : 0 ≤ x 0) (i2 : 0 ≤ x 1) (i3 : 0 ≤ x 2) (l1 : x 0 + x 2 ≤ a_cl q_SP 16) (l2 : x 1 + x 2 ≤ a_cl q_SP 526) (hp : p_AE16_526 (m_ac (m_gh h) 16 0 96) (m_cpx (m_ac (m_gh h) 16 0 96) (m_ac (m_gh h) 526 0 96) (x 0) (x 1) (x 2)) (m_ep x F)) : a_Rc q_SP 557 h' x 2785365088392105618524078415 F := by
  refine m_eR rfl ?_
  rw [f_AE16_526, m_ca h1 (d := 16) (off := 0) (n := 96) (by decide +kernel), m_cc h1 (by decide +kernel) (by decide +kernel) i1 i2 i3 l1 l2]
  exact hp
theorem e8_17895_AE17_487 {h h' : qH} {x : Nat → Int} {F : aF} (h1 : m_cpd h h' 17 487 (x 0) (x 1) (x 2)) (i1 : 0 ≤ x 0) (i2 : 0 ≤ x 1) (i3 : 0 ≤ x 2) (l1 : x 0 + x 2 ≤ a_cl q_SP 17) (l2 : x 1 + x 2 ≤ a_cl q_SP 487) (hp : p_AE17_487 (m_ac (m_gh h) 17 0 96) (m_cpx (m_ac (m_gh h) 17 0 96) (m_ac (m_gh h) 487 0 96) (x 0) (x 1) (x 2)) (m_ep x F)) : a_Rc q_SP 557 h' x 14855280471424563298790539602 F := by
  refine m_eR rfl ?_
  rw [f_AE17_487, m_ca h1 (d := 17) (off := 0) (n := 96) (by decide +kernel), m_cc h1 (by decide +kernel) (by decide +kernel) i1 i2 i3 l1 l2]
  exact hp
theorem e8_17915_AE17_507 {h h' : qH} {x : Nat → Int} {F : aF} (h1 : m_cpd h h' 17 507 (x 0) (x 1) (x 2)) (i1 : 0 ≤ x 0) (i2 : 0 ≤ x 1) (i3 : 0 ≤ x 2) (l1 : x 0 + x 2 ≤ a_cl q_SP 17) (l2 : x 1 + x 2 ≤ a_cl q_SP 507) (hp : p_AE17_507 (m_ac (m_gh h) 17 0 96) (m_cpx (m_ac (m_gh h) 17 0 96) (m_ac (m_gh h) 507 0 96) (x 0) (x 1) (x 2)) (m_ep x F)) : a_Rc q_SP 557 h' x 24758800785707605497983533396 F := by
  refine m_eR rfl ?_
  rw [f_AE17_507, m_ca h1 (d := 17) (off := 0) (n := 96) (by decide +kernel), m_cc h1 (by decide +kernel) (by decide +kernel) i1 i2 i3 l1 l2]
  exact hp
theorem e8_17935_AE17_527 {h h' : qH} {x : Nat → Int} {F : aF} (h1 : m_cpd h h' 17 527 (x 0) (x 1) (x 2)) (i1 : 0 ≤ x 0) (i2 : 0 ≤ x 1) (i3 : 0 ≤ x 2) (l1 : x 0 + x 2 ≤ a_cl q_SP 17) (l2 : x 1 + x 2 ≤ a_cl q_SP 527) (hp : p_AE17_527 (m_ac (m_gh h) 17 0 96) (m_cpx (m_ac (m_gh h) 17 0 96) (m_ac (m_gh h) 527 0 96) (x 0) (x 1) (x 2)) (m_ep x F)) : a_Rc q_SP 557 h' x 44565841414273689896369520982 F := by
  refine m_eR rfl ?_
  rw [f_AE17_527, m_ca h1 (d := 17) (off := 0) (n := 96) (by decide +kernel), m_cc h1 (by decide +kernel) (by decide +kernel) i1 i2 i3 l1 l2]
  exact hp
theorem e8_37904_AE37_16 {h h' : qH} {x : Nat → Int} {F : aF} (h1 : m_cpd h h' 37 16 (x 0) (x 1) (x 2)) (i1 : 0 ≤ x 0) (i2 : 0 ≤ x 1) (i3 : 0 ≤ x 2) (l1 : x 0 + x 2 ≤ a_cl q_SP 37) (l2 : x 1 + x 2 ≤ a_cl q_SP 16) (hp : p_AE37_16 (m_ac (m_gh h) 37 0 96) (m_cpx (m_ac (m_gh h) 37 0 96) (m_ac (m_gh h) 16 0 96) (x 0) (x 1) (x 2)) (m_ep x F)) : a_Rc q_SP 557 h' x 386856262276681335907025226 F := by
  refine m_eR rfl ?_
  rw [f_AE37_16, m_ca h1 (d := 37) (off := 0) (n := 96) (by decide +kernel), m_cc h1 (by decide +kernel) (by decide +kernel) i1 i2 i3 l1 l2]
  exact hp
theorem e8_38929_AE38_17 {h h' : qH} {x : Nat → Int} {F : aF} (h1 : m_cpd h h' 38 17 (x 0) (x 1) (x 2)) (i1 : 0 ≤ x 0) (i2 : 0 ≤ x 1) (i3 : 0 ≤ x 2) (l1 : x 0 + x 2 ≤ a_cl q_SP 38) (l2 : x 1 + x 2 ≤ a_cl q_SP 17) (hp : p_AE38_17 (m_ac (m_gh h) 38 0 96) (m_cpx (m_ac (m_gh h) 38 0 96) (m_ac (m_gh h) 17 0 96) (x 0) (x 1) (x 2)) (m_ep x F)) : a_Rc q_SP 557 h' x 5106502662052193633959936337 F := by
  refine m_eR rfl ?_
  rw [f_AE38_17, m_ca h1 (d := 38) (off := 0) (n := 96) (by decide +kernel), m_cc h1 (by decide +kernel) (by decide +kernel) i1 i2 i3 l1 l2]
  exact hp
theorem e8_497680_AE486_16 {h h' : qH} {x : Nat → Int} {F : aF} (h1 : m_cpd h h' 486 16 (x 0) (x 1) (x 2)) (i1 : 0 ≤ x 0) (i2 : 0 ≤ x 1) (i3 : 0 ≤ x 2) (l1 : x 0 + x 2 ≤ a_cl q_SP 486) (l2 : x 1 + x 2 ≤ a_cl q_SP 16) (hp : p_AE486_16 (m_cpx (m_ac (m_gh h) 486 0 96) (m_ac (m_gh h) 16 0 96) (x 0) (x 1) (x 2)) (m_ac (m_gh h) 486 0 96) (m_ep x F)) : a_Rc q_SP 557 h' x 928455029464035206175392076 F := by
  refine m_eR rfl ?_
  rw [f_AE486_16, m_cc h1 (by decide +kernel) (by decide +kernel) i1 i2 i3 l1 l2, m_ca h1 (d := 486) (off := 0) (n := 96) (by decide +kernel)]
  exact hp
theorem e8_498705_AE487_17 {h h' : qH} {x : Nat → Int} {F : aF} (h1 : m_cpd h h' 487 17 (x 0) (x 1) (x 2)) (i1 : 0 ≤ x 0) (i2 : 0 ≤ x 1) (i3 : 0 ≤ x 2) (l1 : x 0 + x 2 ≤ a_cl q_SP 487) (l2 : x 1 + x 2 ≤ a_cl q_SP 17) (hp : p_AE487_17 (m_cpx (m_ac (m_gh h) 487 0 96) (m_ac (m_gh h) 17 0 96) (x 0) (x 1) (x 2)) (m_ac (m_gh h) 487 0 96) (m_ep x F)) : a_Rc q_SP 557 h' x 14855280471424563298790539603 F := by
  refine m_eR rfl ?_
  rw [f_AE487_17, m_cc h1 (by decide +kernel) (by decide +kernel) i1 i2 i3 l1 l2, m_ca h1 (d := 487) (off := 0) (n := 96) (by decide +kernel)]
  exact hp
theorem e8_518160_AE506_16 {h h' : qH} {x : Nat → Int} {F : aF} (h1 : m_cpd h h' 506 16 (x 0) (x 1) (x 2)) (i1 : 0 ≤ x 0) (i2 : 0 ≤ x 1) (i3 : 0 ≤ x 2) (l1 : x 0 + x 2 ≤ a_cl q_SP 506) (l2 : x 1 + x 2 ≤ a_cl q_SP 16) (hp : p_AE506_16 (m_cpx (m_ac (m_gh h) 506 0 96) (m_ac (m_gh h) 16 0 96) (x 0) (x 1) (x 2)) (m_ac (m_gh h) 506 0 96) (m_ep x F)) : a_Rc q_SP 557 h' x 1547425049106725343624954190 F := by
  refine m_eR rfl ?_
  rw [f_AE506_16, m_cc h1 (by decide +kernel) (by decide +kernel) i1 i2 i3 l1 l2, m_ca h1 (d := 506) (off := 0) (n := 96) (by decide +kernel)]
  exact hp
theorem e8_519185_AE507_17 {h h' : qH} {x : Nat → Int} {F : aF} (h1 : m_cpd h h' 507 17 (x 0) (x 1) (x 2)) (i1 : 0 ≤ x 0) (i2 : 0 ≤ x 1) (i3 : 0 ≤ x 2) (l1 : x 0 + x 2 ≤ a_cl q_SP 507) (l2 : x 1 + x 2 ≤ a_cl q_SP 17) (hp : p_AE507_17 (m_cpx (m_ac (m_gh h) 507 0 96) (m_ac (m_gh h) 17 0 96) (x 0) (x 1) (x 2)) (m_ac (m_gh h) 507 0 96) (m_ep x F)) : a_Rc q_SP 557 h' x 24758800785707605497983533397 F := by
  refine m_eR rfl ?_
  rw [f_AE507_17, m_cc h1 (by decide +kernel) (by decide +kernel) i1 i2 i3 l1 l2, m_ca h1 (d := 507) (off := 0) (n := 96) (by decide +kernel)]
  exact hp
theorem e8_538640_AE526_16 {h h' : qH} {x : Nat → Int} {F : aF} (h1 : m_cpd h h' 526 16 (x 0) (x 1) (x 2)) (i1 : 0 ≤ x 0) (i2 : 0 ≤ x 1) (i3 : 0 ≤ x 2) (l1 : x 0 + x 2 ≤ a_cl q_SP 526) (l2 : x 1 + x 2 ≤ a_cl q_SP 16) (hp : p_AE526_16 (m_cpx (m_ac (m_gh h) 526 0 96) (m_ac (m_gh h) 16 0 96) (x 0) (x 1) (x 2)) (m_ac (m_gh h) 526 0 96) (m_ep x F)) : a_Rc q_SP 557 h' x 2785365088392105618524078416 F := by
  refine m_eR rfl ?_
  rw [f_AE526_16, m_cc h1 (by decide +kernel) (by decide +kernel) i1 i2 i3 l1 l2, m_ca h1 (d := 526) (off := 0) (n := 96) (by decide +kernel)]
  exact hp
theorem e8_539665_AE527_17 {h h' : qH} {x : Nat → Int} {F : aF} (h1 : m_cpd h h' 527 17 (x 0) (x 1) (x 2)) (i1 : 0 ≤ x 0) (i2 : 0 ≤ x 1) (i3 : 0 ≤ x 2) (l1 : x 0 + x 2 ≤ a_cl q_SP 527) (l2 : x 1 + x 2 ≤ a_cl q_SP 17) (hp : p_AE527_17 (m_cpx (m_ac (m_gh h) 527 0 96) (m_ac (m_gh h) 17 0 96) (x 0) (x 1) (x 2)) (m_ac (m_gh h) 527 0 96) (m_ep x F)) : a_Rc q_SP 557 h' x 44565841414273689896369520983 F := by
  refine m_eR rfl ?_
  rw [f_AE527_17, m_cc h1 (by decide +kernel) (by decide +kernel) i1 i2 i3 l1 l2, m_ca h1 (d := 527) (off := 0) (n := 96) (by decide +kernel)]
  exact hp
theorem e1_44_AT {h h' : qH} {x : Nat → Int} {F : aF} (h1 : m_one h h' 44 (x 0).toNat (0, a_w (x 1))) (i1 : 0 ≤ x 0) (i2 : x 0 < 60) (v1 : -2147483648 ≤ x 1) (v2 : x 1 < 2147483648) (hp : p_AT (m_up (m_ac (m_gh h) 44 0 60) (x 0) (x 1)) (m_ep x F)) : a_Rc q_SP 557 h' x 144115188076904461 F := by
  refine m_eR rfl ?_
  rw [f_AT, m_uc h1 (m_int0 v1 v2) (by decide +kernel) i1 i2]
  exact hp
theorem e1_542_CA {h h' : qH} {x : Nat → Int} {F : aF} (h1 : m_one h h' 542 (x 0).toNat (0, a_w (x 1))) (i1 : 0 ≤ x 0) (i2 : x 0 < 96) (v1 : -2147483648 ≤ x 1) (v2 : x 1 < 2147483648) (hp : p_CA (m_up (m_ac (m_gh h) 542 0 96) (x 0) (x 1)) (m_ac (m_gh h) 539 0 6) (m_ac (m_gh h) 539 7 42) (m_ep x F)) : a_Rc q_SP 557 h' x 475368975085586025569854685558 F := by
  refine m_eR rfl ?_
  rw [f_CA, m_uc h1 (m_int0 v1 v2) (by decide +kernel) i1 i2, m_ua h1 (d := 539) (off := 0) (n := 6) (by decide +kernel), m_ua h1 (d := 539) (off := 7) (n := 42) (by decide +kernel)]
  exact hp
theorem e1_539_CAR {h h' : qH} {x : Nat → Int} {F : aF} (h1 : m_one h h' 539 (x 0).toNat (0, a_w (x 1))) (i1 : 0 ≤ x 0) (v1 : -2147483648 ≤ x 1) (v2 : x 1 < 2147483648) (hp : p_CAR (m_ac (m_gh h) 538 0 900) (m_gh h 534 9) (m_upo 1440 360 (m_ac (m_gh h) 539 1440 360) (x 0) (x 1)) (m_ac (m_gh h) 541 0 4) (m_ep x F)) : a_Rc q_SP 557 h' x 4835703279760338467160319 F := by
  refine m_eR rfl ?_
  rw [f_CAR, m_ua h1 (d := 538) (off := 0) (n := 900) (by decide +kernel), m_us h1 (d := 534) (q := 9) (by decide +kernel), m_ucx (off := 1440) (n := 360) h1 (m_int0 v1 v2) (by decide +kernel) i1, m_ua h1 (d := 541) (off := 0) (n := 4) (by decide +kernel)]
  exact hp
theorem e5_541_CAR {h h' : qH} {x : Nat → Int} {F : aF} (h1 : m_one h h' 541 (x 0).toNat (3, a_W (x 1))) (i1 : 0 ≤ x 0) (i2 : x 0 < 4) (v1 : -9223372036854775808 ≤ x 1) (v2 : x 1 < 9223372036854775808) (hp : p_CAR (m_ac (m_gh h) 538 0 900) (m_gh h 534 9) (m_ac (m_gh h) 539 1440 360) (m_up (m_ac (m_gh h) 541 0 4) (x 0) (x 1)) (m_ep x F)) : a_Rc q_SP 557 h' x 4835703279760338467160319 F := by
  refine m_eR rfl ?_
  rw [f_CAR, m_ua h1 (d := 538) (off := 0) (n := 900) (by decide +kernel), m_us h1 (d := 534) (q := 9) (by decide +kernel), m_ua h1 (d := 539) (off := 1440) (n := 360) (by decide +kernel), m_uc h1 (m_int3 v1 v2) (by decide +kernel) i1 i2]
  exact hp
theorem e1_539_CB01 {h h' : qH} {x : Nat → Int} {F : aF} (h1 : m_one h h' 539 (x 0).toNat (0, a_w (x 1))) (i1 : 0 ≤ x 0) (v1 : -2147483648 ≤ x 1) (v2 : x 1 < 2147483648) (hp : p_CB01 (m_upo 0 360 (m_ac (m_gh h) 539 0 360) (x 0) (x 1)) (m_upo 360 360 (m_ac (m_gh h) 539 360 360) (x 0) (x 1)) (m_ep x F)) : a_Rc q_SP 557 h' x 324518573001239840617222816924007 F := by
  refine m_eR rfl ?_
  rw [f_CB01, m_ucx (off := 0) (n := 360) h1 (m_int0 v1 v2) (by decide +kernel) i1, m_ucx (off := 360) (n := 360) h1 (m_int0 v1 v2) (by decide +kernel) i1]
  exact hp
theorem e1_539_CB02 {h h' : qH} {x : Nat → Int} {F : aF} (h1 : m_one h h' 539 (x 0).toNat (0, a_w (x 1))) (i1 : 0 ≤ x 0) (v1 : -2147483648 ≤ x 1) (v2 : x 1 < 2147483648) (hp : p_CB02 (m_upo 0 360 (m_ac (m_gh h) 539 0 360) (x 0) (x 1)) (m_upo 720 360 (m_ac (m_gh h) 539 720 360) (x 0) (x 1)) (m_ep x F)) : a_Rc q_SP 557 h' x 649037126659666567400378837500264 F := by
  refine m_eR rfl ?_
  rw [f_CB02, m_ucx (off := 0) (n := 360) h1 (m_int0 v1 v2) (by decide +kernel) i1, m_ucx (off := 720) (n := 360) h1 (m_int0 v1 v2) (by decide +kernel) i1]
  exact hp
theorem e1_539_CB03 {h h' : qH} {x : Nat → Int} {F : aF} (h1 : m_one h h' 539 (x 0).toNat (0, a_w (x 1))) (i1 : 0 ≤ x 0) (v1 : -2147483648 ≤ x 1) (v2 : x 1 < 2147483648) (hp : p_CB03 (m_upo 0 360 (m_ac (m_gh h) 539 0 360) (x 0) (x 1)) (m_upo 1080 360 (m_ac (m_gh h) 539 1080 360) (x 0) (x 1)) (m_ep x F)) : a_Rc q_SP 557 h' x 1298074233976520020966690878652777 F := by
  refine m_eR rfl ?_
  rw [f_CB03, m_ucx (off := 0) (n := 360) h1 (m_int0 v1 v2) (by decide +kernel) i1, m_ucx (off := 1080) (n := 360) h1 (m_int0 v1 v2) (by decide +kernel) i1]
  exact hp
theorem e1_539_CB10 {h h' : qH} {x : Nat → Int} {F : aF} (h1 : m_one h h' 539 (x 0).toNat (0, a_w (x 1))) (i1 : 0 ≤ x 0) (v1 : -2147483648 ≤ x 1) (v2 : x 1 < 2147483648) (hp : p_CB10 (m_upo 0 360 (m_ac (m_gh h) 539 0 360) (x 0) (x 1)) (m_upo 360 360 (m_ac (m_gh h) 539 360 360) (x 0) (x 1)) (m_ep x F)) : a_Rc q_SP 557 h' x 324518573001239840617222816924010 F := by
  refine m_eR rfl ?_
  rw [f_CB10, m_ucx (off := 0) (n := 360) h1 (m_int0 v1 v2) (by decide +kernel) i1, m_ucx (off := 360) (n := 360) h1 (m_int0 v1 v2) (by decide +kernel) i1]
  exact hp
theorem e1_539_CB20 {h h' : qH} {x : Nat → Int} {F : aF} (h1 : m_one h h' 539 (x 0).toNat (0, a_w (x 1))) (i1 : 0 ≤ x 0) (v1 : -2147483648 ≤ x 1) (v2 : x 1 < 2147483648) (hp : p_CB20 (m_upo 0 360 (m_ac (m_gh h) 539 0 360) (x 0) (x 1)) (m_upo 720 360 (m_ac (m_gh h) 539 720 360) (x 0) (x 1)) (m_ep x F)) : a_Rc q_SP 557 h' x 649037126659666567400378837500267 F := by
  refine m_eR rfl ?_
  rw [f_CB20, m_ucx (off := 0) (n := 360) h1 (m_int0 v1 v2) (by decide +kernel) i1, m_ucx (off := 720) (n := 360) h1 (m_int0 v1 v2) (by decide +kernel) i1]
  exact hp
theorem e1_539_CB30 {h h' : qH} {x : Nat → Int} {F : aF} (h1 : m_one h h' 539 (x 0).toNat (0, a_w (x 1))) (i1 : 0 ≤ x 0) (v1 : -2147483648 ≤ x 1) (v2 : x 1 < 2147483648) (hp : p_CB30 (m_upo 0 360 (m_ac (m_gh h) 539 0 360) (x 0) (x 1)) (m_upo 1080 360 (m_ac (m_gh h) 539 1080 360) (x 0) (x 1)) (m_ep x F)) : a_Rc q_SP 557 h' x 1298074233976520020966690878652780 F := by
  refine m_eR rfl ?_
  rw [f_CB30, m_ucx (off := 0) (n := 360) h1 (m_int0 v1 v2) (by decide +kernel) i1, m_ucx (off := 1080) (n := 360) h1 (m_int0 v1 v2) (by decide +kernel) i1]
  exact hp
theorem e1_539_CBR {h h' : qH} {x : Nat → Int} {F : aF} (h1 : m_one h h' 539 (x 0).toNat (0, a_w (x 1))) (i1 : 0 ≤ x 0) (v1 : -2147483648 ≤ x 1) (v2 : x 1 < 2147483648) (hp : p_CBR (m_ac (m_gh h) 538 0 900) (m_gh h 534 9) (m_upo 1440 360 (m_ac (m_gh h) 539 1440 360) (x 0) (x 1)) (m_ac (m_gh h) 541 0 4) (m_ep x F)) : a_Rc q_SP 557 h' x 4835703279760338467160320 F := by
  refine m_eR rfl ?_
  rw [f_CBR, m_ua h1 (d := 538) (off := 0) (n := 900) (by decide +kernel), m_us h1 (d := 534) (q := 9) (by decide +kernel), m_ucx (off := 1440) (n := 360) h1 (m_int0 v1 v2) (by decide +kernel) i1, m_ua h1 (d := 541) (off := 0) (n := 4) (by decide +kernel)]
  exact hp
theorem e1_27_CC1 {h h' : qH} {x : Nat → Int} {F : aF} (h1 : m_one h h' 27 (x 0).toNat (0, a_w (x 1))) (i1 : 0 ≤ x 0) (i2 : x 0 < 6) (v1 : -2147483648 ≤ x 1) (v2 : x 1 < 2147483648) (hp : p_CC1 (m_ac (m_gh h) 3 0 900) (m_gh h 2 7) (m_gh h 26 0) (m_gh h 26 1) (m_gh h 26 2) (m_gh h 26 3) (m_gh h 26 4) (m_gh h 26 5) (m_gh h 26 6) (m_gh h 25 3) (m_up (m_ac (m_gh h) 27 0 6) (x 0) (x 1)) (m_ac (m_gh h) 28 0 4) (m_ac (m_gh h) 29 0 4) (m_ac (m_gh h) 32 0 96) (m_ac (m_gh h) 35 0 96) (m_ac (m_gh h) 36 0 96) (m_ac (m_gh h) 39 0 4) (m_ac (m_gh h) 40 0 4) (m_ep x F)) : a_Rc q_SP 557 h' x 4699308052777509322952 F := by
  refine m_eR rfl ?_
  rw [f_CC1, m_ua h1 (d := 3) (off := 0) (n := 900) (by decide +kernel), m_us h1 (d := 2) (q := 7) (by decide +kernel), m_us h1 (d := 26) (q := 0) (by decide +kernel), m_us h1 (d := 26) (q := 1) (by decide +kernel), m_us h1 (d := 26) (q := 2) (by decide +kernel), m_us h1 (d := 26) (q := 3) (by decide +kernel), m_us h1 (d := 26) (q := 4) (by decide +kernel), m_us h1 (d := 26) (q := 5) (by decide +kernel), m_us h1 (d := 26) (q := 6) (by decide +kernel), m_us h1 (d := 25) (q := 3) (by decide +kernel), m_uc h1 (m_int0 v1 v2) (by decide +kernel) i1 i2, m_ua h1 (d := 28) (off := 0) (n := 4) (by decide +kernel), m_ua h1 (d := 29) (off := 0) (n := 4) (by decide +kernel), m_ua h1 (d := 32) (off := 0) (n := 96) (by decide +kernel), m_ua h1 (d := 35) (off := 0) (n := 96) (by decide +kernel), m_ua h1 (d := 36) (off := 0) (n := 96) (by decide +kernel), m_ua h1 (d := 39) (off := 0) (n := 4) (by decide +kernel), m_ua h1 (d := 40) (off := 0) (n := 4) (by decide +kernel)]
  exact hp
theorem e1_32_CC2 {h h' : qH} {x : Nat → Int} {F : aF} (h1 : m_one h h' 32 (x 0).toNat (0, a_w (x 1))) (i1 : 0 ≤ x 0) (i2 : x 0 < 96) (v1 : -2147483648 ≤ x 1) (v2 : x 1 < 2147483648) (hp : p_CC2 (m_ac (m_gh h) 3 0 900) (m_gh h 2 7) (m_gh h 26 0) (m_gh h 26 1) (m_gh h 26 2) (m_gh h 26 3) (m_gh h 26 4) (m_gh h 26 5) (m_gh h 26 6) (m_gh h 25 3) (m_ac (m_gh h) 27 0 6) (m_ac (m_gh h) 28 0 4) (m_ac (m_gh h) 29 0 4) (m_up (m_ac (m_gh h) 32 0 96) (x 0) (x 1)) (m_ac (m_gh h) 35 0 96) (m_ac (m_gh h) 36 0 96) (m_ac (m_gh h) 39 0 4) (m_ac (m_gh h) 40 0 4) (m_ep x F)) : a_Rc q_SP 557 h' x 4699308052777509322953 F := by
  refine m_eR rfl ?_
  rw [f_CC2, m_ua h1 (d := 3) (off := 0) (n := 900) (by decide +kernel), m_us h1 (d := 2) (q := 7) (by decide +kernel), m_us h1 (d := 26) (q := 0) (by decide +kernel), m_us h1 (d := 26) (q := 1) (by decide +kernel), m_us h1 (d := 26) (q := 2) (by decide +kernel), m_us h1 (d := 26) (q := 3) (by decide +kernel), m_us h1 (d := 26) (q := 4) (by decide +kernel), m_us h1 (d := 26) (q := 5) (by decide +kernel), m_us h1 (d := 26) (q := 6) (by decide +kernel), m_us h1 (d := 25) (q := 3) (by decide +kernel), m_ua h1 (d := 27) (off := 0) (n := 6) (by decide +kernel), m_ua h1 (d := 28) (off := 0) (n := 4) (by decide +kernel), m_ua h1 (d := 29) (off := 0) (n := 4) (by decide +kernel), m_uc h1 (m_int0 v1 v2) (by decide +kernel) i1 i2, m_ua h1 (d := 35) (off := 0) (n := 96) (by decide +kernel), m_ua h1 (d := 36) (off := 0) (n := 96) (by decide +kernel), m_ua h1 (d := 39) (off := 0) (n := 4) (by decide +kernel), m_ua h1 (d := 40) (off := 0) (n := 4) (by decide +kernel)]
  exact hp
theorem e1_36_CD1 {h h' : qH} {x : Nat → Int} {F : aF} (h1 : m_one h h' 36 (x 0).toNat (0, a_w (x 1))) (i1 : 0 ≤ x 0) (i2 : x 0 < 96) (v1 : -2147483648 ≤ x 1) (v2 : x 1 < 2147483648) (hp : p_CD1 (m_ac (m_gh h) 3 0 900) (m_gh h 2 7) (m_gh h 26 0) (m_gh h 26 1) (m_gh h 26 2) (m_gh h 26 3) (m_gh h 26 4) (m_gh h 26 5) (m_gh h 26 6) (m_gh h 25 3) (m_ac (m_gh h) 27 0 6) (m_ac (m_gh h) 28 0 4) (m_ac (m_gh h) 29 0 4) (m_ac (m_gh h) 32 0 96) (m_ac (m_gh h) 35 0 96) (m_up (m_ac (m_gh h) 36 0 96) (x 0) (x 1)) (m_ac (m_gh h) 39 0 4) (m_ac (m_gh h) 40 0 4) (m_ep x F)) : a_Rc q_SP 557 h' x 4699308052777509322961 F := by
  refine m_eR rfl ?_
  rw [f_CD1, m_ua h1 (d := 3) (off := 0) (n := 900) (by decide +kernel), m_us h1 (d := 2) (q := 7) (by decide +kernel), m_us h1 (d := 26) (q := 0) (by decide +kernel), m_us h1 (d := 26) (q := 1) (by decide +kernel), m_us h1 (d := 26) (q := 2) (by decide +kernel), m_us h1 (d := 26) (q := 3) (by decide +kernel), m_us h1 (d := 26) (q := 4) (by decide +kernel), m_us h1 (d := 26) (q := 5) (by decide +kernel), m_us h1 (d := 26) (q := 6) (by decide +kernel), m_us h1 (d := 25) (q := 3) (by decide +kernel), m_ua h1 (d := 27) (off := 0) (n := 6) (by decide +kernel), m_ua h1 (d := 28) (off := 0) (n := 4) (by decide +kernel), m_ua h1 (d := 29) (off := 0) (n := 4) (by decide +kernel), m_ua h1 (d := 32) (off := 0) (n := 96) (by decide +kernel), m_ua h1 (d := 35) (off := 0) (n := 96) (by decide +kernel), m_uc h1 (m_int0 v1 v2) (by decide +kernel) i1 i2, m_ua h1 (d := 39) (off := 0) (n := 4) (by decide +kernel), m_ua h1 (d := 40) (off := 0) (n := 4) (by decide +kernel)]
  exact hp
theorem e1_539_CFAR {h h' : qH} {x : Nat → Int} {F : aF} (h1 : m_one h h' 539 (x 0).toNat (0, a_w (x 1))) (i1 : 0 ≤ x 0) (v1 : -2147483648 ≤ x 1) (v2 : x 1 < 2147483648) (hp : p_CFAR (m_ac (m_gh h) 538 0 900) (m_gh h 534 9) (m_upo 1440 360 (m_ac (m_gh h) 539 1440 360) (x 0) (x 1)) (m_ac (m_gh h) 541 0 4) (m_ep x F)) : a_Rc q_SP 557 h' x 4835703279760338467160318 F := by
  refine m_eR rfl ?_
  rw [f_CFAR, m_ua h1 (d := 538) (off := 0) (n := 900) (by decide +kernel), m_us h1 (d := 534) (q := 9) (by decide +kernel), m_ucx (off := 1440) (n := 360) h1 (m_int0 v1 v2) (by decide +kernel) i1, m_ua h1 (d := 541) (off := 0) (n := 4) (by decide +kernel)]
  exact hp
theorem e1_539_CFR {h h' : qH} {x : Nat → Int} {F : aF} (h1 : m_one h h' 539 (x 0).toNat (0, a_w (x 1))) (i1 : 0 ≤ x 0) (v1 : -2147483648 ≤ x 1) (v2 : x 1 < 2147483648) (hp : p_CFR (m_ac (m_gh h) 538 0 900) (m_gh h 534 9) (m_upo 1440 360 (m_ac (m_gh h) 539 1440 360) (x 0) (x 1)) (m_ac (m_gh h) 541 0 4) (m_ep x F)) : a_Rc q_SP 557 h' x 4835703279760338467160314 F := by
  refine m_eR rfl ?_
  rw [f_CFR, m_ua h1 (d := 538) (off := 0) (n := 900) (by decide +kernel), m_us h1 (d := 534) (q := 9) (by decide +kernel), m_ucx (off := 1440) (n := 360) h1 (m_int0 v1 v2) (by decide +kernel) i1, m_ua h1 (d := 541) (off := 0) (n := 4) (by decide +kernel)]
  exact hp
theorem e1_542_CFX {h h' : qH} {x : Nat → Int} {F : aF} (h1 : m_one h h' 542 (x 0).toNat (0, a_w (x 1))) (i1 : 0 ≤ x 0) (i2 : x 0 < 96) (v1 : -2147483648 ≤ x 1) (v2 : x 1 < 2147483648) (hp : p_CFX (m_up (m_ac (m_gh h) 542 0 96) (x 0) (x 1)) (m_ac (m_gh h) 539 0 6) (m_ac (m_gh h) 539 7 42) (m_ep x F)) : a_Rc q_SP 557 h' x 475368975085586025569854685559 F := by
  refine m_eR rfl ?_
  rw [f_CFX, m_uc h1 (m_int0 v1 v2) (by decide +kernel) i1 i2, m_ua h1 (d := 539) (off := 0) (n := 6) (by decide +kernel), m_ua h1 (d := 539) (off := 7) (n := 42) (by decide +kernel)]
  exact hp
theorem e1_28_CM1 {h h' : qH} {x : Nat → Int} {F : aF} (h1 : m_one h h' 28 (x 0).toNat (0, a_w (x 1))) (i1 : 0 ≤ x 0) (i2 : x 0 < 4) (v1 : -2147483648 ≤ x 1) (v2 : x 1 < 2147483648) (hp : p_CM1 (m_ac (m_gh h) 3 0 900) (m_gh h 2 7) (m_gh h 26 0) (m_gh h 26 1) (m_gh h 26 2) (m_gh h 26 3) (m_gh h 26 4) (m_gh h 26 5) (m_gh h 26 6) (m_gh h 25 3) (m_ac (m_gh h) 27 0 6) (m_up (m_ac (m_gh h) 28 0 4) (x 0) (x 1)) (m_ac (m_gh h) 29 0 4) (m_ac (m_gh h) 32 0 96) (m_ac (m_gh h) 35 0 96) (m_ac (m_gh h) 36 0 96) (m_ac (m_gh h) 39 0 4) (m_ac (m_gh h) 40 0 4) (m_ep x F)) : a_Rc q_SP 557 h' x 4699308052777509322955 F := by
  refine m_eR rfl ?_
  rw [f_CM1, m_ua h1 (d := 3) (off := 0) (n := 900) (by decide +kernel), m_us h1 (d := 2) (q := 7) (by decide +kernel), m_us h1 (d := 26) (q := 0) (by decide +kernel), m_us h1 (d := 26) (q := 1) (by decide +kernel), m_us h1 (d := 26) (q := 2) (by decide +kernel), m_us h1 (d := 26) (q := 3) (by decide +kernel), m_us h1 (d := 26) (q := 4) (by decide +kernel), m_us h1 (d := 26) (q := 5) (by decide +kernel), m_us h1 (d := 26) (q := 6) (by decide +kernel), m_us h1 (d := 25) (q := 3) (by decide +kernel), m_ua h1 (d := 27) (off := 0) (n := 6) (by decide +kernel), m_uc h1 (m_int0 v1 v2) (by decide +kernel) i1 i2, m_ua h1 (d := 29) (off := 0) (n := 4) (by decide +kernel), m_ua h1 (d := 32) (off := 0) (n := 96) (by decide +kernel), m_ua h1 (d := 35) (off := 0) (n := 96) (by decide +kernel), m_ua h1 (d := 36) (off := 0) (n := 96) (by decide +kernel), m_ua h1 (d := 39) (off := 0) (n := 4) (by decide +kernel), m_ua h1 (d := 40) (off := 0) (n := 4) (by decide +kernel)]
  exact hp
theorem e1_29_CM2 {h h' : qH} {x : Nat → Int} {F : aF} (h1 : m_one h h' 29 (x 0).toNat (0, a_w (x 1))) (i1 : 0 ≤ x 0) (i2 : x 0 < 4) (v1 : -2147483648 ≤ x 1) (v2 : x 1 < 2147483648) (hp : p_CM2 (m_ac (m_gh h) 3 0 900) (m_gh h 2 7) (m_gh h 26 0) (m_gh h 26 1) (m_gh h 26 2) (m_gh h 26 3) (m_gh h 26 4) (m_gh h 26 5) (m_gh h 26 6) (m_gh h 25 3) (m_ac (m_gh h) 27 0 6) (m_ac (m_gh h) 28 0 4) (m_up (m_ac (m_gh h) 29 0 4) (x 0) (x 1)) (m_ac (m_gh h) 32 0 96) (m_ac (m_gh h) 35 0 96) (m_ac (m_gh h) 36 0 96) (m_ac (m_gh h) 39 0 4) (m_ac (m_gh h) 40 0 4) (m_ep x F)) : a_Rc q_SP 557 h' x 4699308052777509322956 F := by
  refine m_eR rfl ?_
  rw [f_CM2, m_ua h1 (d := 3) (off := 0) (n := 900) (by decide +kernel), m_us h1 (d := 2) (q := 7) (by decide +kernel), m_us h1 (d := 26) (q := 0) (by decide +kernel), m_us h1 (d := 26) (q := 1) (by decide +kernel), m_us h1 (d := 26) (q := 2) (by decide +kernel), m_us h1 (d := 26) (q := 3) (by decide +kernel), m_us h1 (d := 26) (q := 4) (by decide +kernel), m_us h1 (d := 26) (q := 5) (by decide +kernel), m_us h1 (d := 26) (q := 6) (by decide +kernel), m_us h1 (d := 25) (q := 3) (by decide +kernel), m_ua h1 (d := 27) (off := 0) (n := 6) (by decide +kernel), m_ua h1 (d := 28) (off := 0) (n := 4) (by decide +kernel), m_uc h1 (m_int0 v1 v2) (by decide +kernel) i1 i2, m_ua h1 (d := 32) (off := 0) (n := 96) (by decide +kernel), m_ua h1 (d := 35) (off := 0) (n := 96) (by decide +kernel), m_ua h1 (d := 36) (off := 0) (n := 96) (by decide +kernel), m_ua h1 (d := 39) (off := 0) (n := 4) (by decide +kernel), m_ua h1 (d := 40) (off := 0) (n := 4) (by decide +kernel)]
  exact hp
theorem e1_39_CN1 {h h' : qH} {x : Nat → Int} {F : aF} (h1 : m_one h h' 39 (x 0).toNat (0, a_w (x 1))) (i1 : 0 ≤ x 0) (i2 : x 0 < 4) (v1 : -2147483648 ≤ x 1) (v2 : x 1 < 2147483648) (hp : p_CN1 (m_ac (m_gh h) 3 0 900) (m_gh h 2 7) (m_gh h 26 0) (m_gh h 26 1) (m_gh h 26 2) (m_gh h 26 3) (m_gh h 26 4) (m_gh h 26 5) (m_gh h 26 6) (m_gh h 25 3) (m_ac (m_gh h) 27 0 6) (m_ac (m_gh h) 28 0 4) (m_ac (m_gh h) 29 0 4) (m_ac (m_gh h) 32 0 96) (m_ac (m_gh h) 35 0 96) (m_ac (m_gh h) 36 0 96) (m_up (m_ac (m_gh h) 39 0 4) (x 0) (x 1)) (m_ac (m_gh h) 40 0 4) (m_ep x F)) : a_Rc q_SP 557 h' x 4699308052777509322963 F := by
  refine m_eR rfl ?_
  rw [f_CN1, m_ua h1 (d := 3) (off := 0) (n := 900) (by decide +kernel), m_us h1 (d := 2) (q := 7) (by decide +kernel), m_us h1 (d := 26) (q := 0) (by decide +kernel), m_us h1 (d := 26) (q := 1) (by decide +kernel), m_us h1 (d := 26) (q := 2) (by decide +kernel), m_us h1 (d := 26) (q := 3) (by decide +kernel), m_us h1 (d := 26) (q := 4) (by decide +kernel), m_us h1 (d := 26) (q := 5) (by decide +kernel), m_us h1 (d := 26) (q := 6) (by decide +kernel), m_us h1 (d := 25) (q := 3) (by decide +kernel), m_ua h1 (d := 27) (off := 0) (n := 6) (by decide +kernel), m_ua h1 (d := 28) (off := 0) (n := 4) (by decide +kernel), m_ua h1 (d := 29) (off := 0) (n := 4) (by decide +kernel), m_ua h1 (d := 32) (off := 0) (n := 96) (by decide +kernel), m_ua h1 (d := 35) (off := 0) (n := 96) (by decide +kernel), m_ua h1 (d := 36) (off := 0) (n := 96) (by decide +kernel), m_uc h1 (m_int0 v1 v2) (by decide +kernel) i1 i2, m_ua h1 (d := 40) (off := 0) (n := 4) (by decide +kernel)]
  exact hp
theorem e1_40_CN2 {h h' : qH} {x : Nat → Int} {F : aF} (h1 : m_one h h' 40 (x 0).toNat (0, a_w (x 1))) (i1 : 0 ≤ x 0) (i2 : x 0 < 4) (v1 : -2147483648 ≤ x 1) (v2 : x 1 < 2147483648) (hp : p_CN2 (m_ac (m_gh h) 3 0 900) (m_gh h 2 7) (m_gh h 26 0) (m_gh h 26 1) (m_gh h 26 2) (m_gh h 26 3) (m_gh h 26 4) (m_gh h 26 5) (m_gh h 26 6) (m_gh h 25 3) (m_ac (m_gh h) 27 0 6) (m_ac (m_gh h) 28 0 4) (m_ac (m_gh h) 29 0 4) (m_ac (m_gh h) 32 0 96) (m_ac (m_gh h) 35 0 96) (m_ac (m_gh h) 36 0 96) (m_ac (m_gh h) 39 0 4) (m_up (m_ac (m_gh h) 40 0 4) (x 0) (x 1)) (m_ep x F)) : a_Rc q_SP 557 h' x 4699308052777509322964 F := by
  refine m_eR rfl ?_
  rw [f_CN2, m_ua h1 (d := 3) (off := 0) (n := 900) (by decide +kernel), m_us h1 (d := 2) (q := 7) (by decide +kernel), m_us h1 (d := 26) (q := 0) (by decide +kernel), m_us h1 (d := 26) (q := 1) (by decide +kernel), m_us h1 (d := 26) (q := 2) (by decide +kernel), m_us h1 (d := 26) (q := 3) (by decide +kernel), m_us h1 (d := 26) (q := 4) (by decide +kernel), m_us h1 (d := 26) (q := 5) (by decide +kernel), m_us h1 (d := 26) (q := 6) (by decide +kernel), m_us h1 (d := 25) (q := 3) (by decide +kernel), m_ua h1 (d := 27) (off := 0) (n := 6) (by decide +kernel), m_ua h1 (d := 28) (off := 0) (n := 4) (by decide +kernel), m_ua h1 (d := 29) (off := 0) (n := 4) (by decide +kernel), m_ua h1 (d := 32) (off := 0) (n := 96) (by decide +kernel), m_ua h1 (d := 35) (off := 0) (n := 96) (by decide +kernel), m_ua h1 (d := 36) (off := 0) (n := 96) (by decide +kernel), m_ua h1 (d := 39) (off := 0) (n := 4) (by decide +kernel), m_uc h1 (m_int0 v1 v2) (by decide +kernel) i1 i2]
  exact hp
theorem e1_539_CPW {h h' : qH} {x : Nat → Int} {F : aF} (h1 : m_one h h' 539 (x 0).toNat (0, a_w (x 1))) (i1 : 0 ≤ x 0) (v1 : -2147483648 ≤ x 1) (v2 : x 1 < 2147483648) (hp : p_CPW (m_upo 0 360 (m_ac (m_gh h) 539 0 360) (x 0) (x 1)) (m_upo 1440 360 (m_ac (m_gh h) 539 1440 360) (x 0) (x 1)) (m_ep x F)) : a_Rc q_SP 557 h' x 19342813114959966703190280 F := by
  refine m_eR rfl ?_
  rw [f_CPW, m_ucx (off := 0) (n := 360) h1 (m_int0 v1 v2) (by decide +kernel) i1, m_ucx (off := 1440) (n := 360) h1 (m_int0 v1 v2) (by decide +kernel) i1]
  exact hp
theorem e1_35_CS1 {h h' : qH} {x : Nat → Int} {F : aF} (h1 : m_one h h' 35 (x 0).toNat (0, a_w (x 1))) (i1 : 0 ≤ x 0) (i2 : x 0 < 96) (v1 : -2147483648 ≤ x 1) (v2 : x 1 < 2147483648) (hp : p_CS1 (m_ac (m_gh h) 3 0 900) (m_gh h 2 7) (m_gh h 26 0) (m_gh h 26 1) (m_gh h 26 2) (m_gh h 26 3) (m_gh h 26 4) (m_gh h 26 5) (m_gh h 26 6) (m_gh h 25 3) (m_ac (m_gh h) 27 0 6) (m_ac (m_gh h) 28 0 4) (m_ac (m_gh h) 29 0 4) (m_ac (m_gh h) 32 0 96) (m_up (m_ac (m_gh h) 35 0 96) (x 0) (x 1)) (m_ac (m_gh h) 36 0 96) (m_ac (m_gh h) 39 0 4) (m_ac (m_gh h) 40 0 4) (m_ep x F)) : a_Rc q_SP 557 h' x 4699308052777509322958 F := by
  refine m_eR rfl ?_
  rw [f_CS1, m_ua h1 (d := 3) (off := 0) (n := 900) (by decide +kernel), m_us h1 (d := 2) (q := 7) (by decide +kernel), m_us h1 (d := 26) (q := 0) (by decide +kernel), m_us h1 (d := 26) (q := 1) (by decide +kernel), m_us h1 (d := 26) (q := 2) (by decide +kernel), m_us h1 (d := 26) (q := 3) (by decide +kernel), m_us h1 (d := 26) (q := 4) (by decide +kernel), m_us h1 (d := 26) (q := 5) (by decide +kernel), m_us h1 (d := 26) (q := 6) (by decide +kernel), m_us h1 (d := 25) (q := 3) (by decide +kernel), m_ua h1 (d := 27) (off := 0) (n := 6) (by decide +kernel), m_ua h1 (d := 28) (off := 0) (n := 4) (by decide +kernel), m_ua h1 (d := 29) (off := 0) (n := 4) (by decide +kernel), m_ua h1 (d := 32) (off := 0) (n := 96) (by decide +kernel), m_uc h1 (m_int0 v1 v2) (by decide +kernel) i1 i2, m_ua h1 (d := 36) (off := 0) (n := 96) (by decide +kernel), m_ua h1 (d := 39) (off := 0) (n := 4) (by decide +kernel), m_ua h1 (d := 40) (off := 0) (n := 4) (by decide +kernel)]
  exact hp
theorem e5_467_EX0 {h h' : qH} {x : Nat → Int} {F : aF} (h1 : m_one h h' 467 (x 0).toNat (3, a_W (x 1))) (i1 : 0 ≤ x 0) (i2 : x 0 < 60) (v1 : -9223372036854775808 ≤ x 1) (v2 : x 1 < 9223372036854775808) (hp : p_EX0 (m_up (m_ac (m_gh h) 467 0 60) (x 0) (x 1)) (m_ac (m_gh h) 469 0 60) (m_ac (m_gh h) 471 0 60) (m_ac (m_gh h) 473 0 60) (m_ac (m_gh h) 537 0 240) (m_ep x F)) : a_Rc q_SP 557 h' x 4323473234462769274 F := by
  refine m_eR rfl ?_
  rw [f_EX0, m_uc h1 (m_int3 v1 v2) (by decide +kernel) i1 i2, m_ua h1 (d := 469) (off := 0) (n := 60) (by decide +kernel), m_ua h1 (d := 471) (off := 0) (n := 60) (by decide +kernel), m_ua h1 (d := 473) (off := 0) (n := 60) (by decide +kernel), m_ua h1 (d := 537) (off := 0) (n := 240) (by decide +kernel)]
  exact hp
theorem e5_469_EX1 {h h' : qH} {x : Nat → Int} {F : aF} (h1 : m_one h h' 469 (x 0).toNat (3, a_W (x 1))) (i1 : 0 ≤ x 0) (i2 : x 0 < 60) (v1 : -9223372036854775808 ≤ x 1) (v2 : x 1 < 9223372036854775808) (hp : p_EX1 (m_ac (m_gh h) 467 0 60) (m_up (m_ac (m_gh h) 469 0 60) (x 0) (x 1)) (m_ac (m_gh h) 471 0 60) (m_ac (m_gh h) 473 0 60) (m_ac (m_gh h) 537 0 240) (m_ep x F)) : a_Rc q_SP 557 h' x 4323473234462769275 F := by
  refine m_eR rfl ?_
  rw [f_EX1, m_ua h1 (d := 467) (off := 0) (n := 60) (by decide +kernel), m_uc h1 (m_int3 v1 v2) (by decide +kernel) i1 i2, m_ua h1 (d := 471) (off := 0) (n := 60) (by decide +kernel), m_ua h1 (d := 473) (off := 0) (n := 60) (by decide +kernel), m_ua h1 (d := 537) (off := 0) (n := 240) (by decide +kernel)]
  exact hp
theorem e5_471_EX2 {h h' : qH} {x : Nat → Int} {F : aF} (h1 : m_one h h' 471 (x 0).toNat (3, a_W (x 1))) (i1 : 0 ≤ x 0) (i2 : x 0 < 60) (v1 : -9223372036854775808 ≤ x 1) (v2 : x 1 < 9223372036854775808) (hp : p_EX2 (m_ac (m_gh h) 467 0 60) (m_ac (m_gh h) 469 0 60) (m_up (m_ac (m_gh h) 471 0 60) (x 0) (x 1)) (m_ac (m_gh h) 473 0 60) (m_ac (m_gh h) 537 0 240) (m_ep x F)) : a_Rc q_SP 557 h' x 4323473234462769276 F := by
  refine m_eR rfl ?_
  rw [f_EX2, m_ua h1 (d := 467) (off := 0) (n := 60) (by decide +kernel), m_ua h1 (d := 469) (off := 0) (n := 60) (by decide +kernel), m_uc h1 (m_int3 v1 v2) (by decide +kernel) i1 i2, m_ua h1 (d := 473) (off := 0) (n := 60) (by decide +kernel), m_ua h1 (d := 537) (off := 0) (n := 240) (by decide +kernel)]
  exact hp
theorem e5_473_EX3 {h h' : qH} {x : Nat → Int} {F : aF} (h1 : m_one h h' 473 (x 0).toNat (3, a_W (x 1))) (i1 : 0 ≤ x 0) (i2 : x 0 < 60) (v1 : -9223372036854775808 ≤ x 1) (v2 : x 1 < 9223372036854775808) (hp : p_EX3 (m_ac (m_gh h) 467 0 60) (m_ac (m_gh h) 469 0 60) (m_ac (m_gh h) 471 0 60) (m_up (m_ac (m_gh h) 473 0 60) (x 0) (x 1)) (m_ac (m_gh h) 537 0 240) (m_ep x F)) : a_Rc q_SP 557 h' x 4323473234462769277 F := by
  refine m_eR rfl ?_
  rw [f_EX3, m_ua h1 (d := 467) (off := 0) (n := 60) (by decide +kernel), m_ua h1 (d := 469) (off := 0) (n := 60) (by decide +kernel), m_ua h1 (d := 471) (off := 0) (n := 60) (by decide +kernel), m_uc h1 (m_int3 v1 v2) (by decide +kernel) i1 i2, m_ua h1 (d := 537) (off := 0) (n := 240) (by decide +kernel)]
  exact hp
theorem e5_546_FA {h h' : qH} {x : Nat → Int} {F : aF} (h1 : m_one h h' 546 (x 0).toNat (3, a_W (x 1))) (i1 : 0 ≤ x 0) (i2 : x 0 < 1344) (v1 : -9223372036854775808 ≤ x 1) (v2 : x 1 < 9223372036854775808) (hp : p_FA (m_gh h 539 0) (m_gh h 539 1) (m_ac (m_gh h) 539 49 96) (m_ac (m_gh h) 545 0 96) (m_gh h 539 2) (m_ac (m_gh h) 539 7 6) (m_ac (m_gh h) 543 0 1344) (m_up (m_ac (m_gh h) 546 0 1344) (x 0) (x 1)) (m_ep x F)) : a_Rc q_SP 557 h' x 7148142620 F := by
  refine m_eR rfl ?_
  rw [f_FA, m_us h1 (d := 539) (q := 0) (by decide +kernel), m_us h1 (d := 539) (q := 1) (by decide +kernel), m_ua h1 (d := 539) (off := 49) (n := 96) (by decide +kernel), m_ua h1 (d := 545) (off := 0) (n := 96) (by decide +kernel), m_us h1 (d := 539) (q := 2) (by decide +kernel), m_ua h1 (d := 539) (off := 7) (n := 6) (by decide +kernel), m_ua h1 (d := 543) (off := 0) (n := 1344) (by decide +kernel), m_uc h1 (m_int3 v1 v2) (by decide +kernel) i1 i2]
  exact hp
theorem e1_543_FB {h h' : qH} {x : Nat → Int} {F : aF} (h1 : m_one h h' 543 (x 0).toNat (0, a_w (x 1))) (i1 : 0 ≤ x 0) (i2 : x 0 < 1344) (v1 : -2147483648 ≤ x 1) (v2 : x 1 < 2147483648) (hp : p_FB (m_gh h 539 0) (m_gh h 539 1) (m_ac (m_gh h) 539 49 96) (m_ac (m_gh h) 545 0 96) (m_gh h 539 2) (m_ac (m_gh h) 539 7 6) (m_up (m_ac (m_gh h) 543 0 1344) (x 0) (x 1)) (m_ac (m_gh h) 546 0 1344) (m_ep x F)) : a_Rc q_SP 557 h' x 7148142621 F := by
  refine m_eR rfl ?_
  rw [f_FB, m_us h1 (d := 539) (q := 0) (by decide +kernel), m_us h1 (d := 539) (q := 1) (by decide +kernel), m_ua h1 (d := 539) (off := 49) (n := 96) (by decide +kernel), m_ua h1 (d := 545) (off := 0) (n := 96) (by decide +kernel), m_us h1 (d := 539) (q := 2) (by decide +kernel), m_ua h1 (d := 539) (off := 7) (n := 6) (by decide +kernel), m_uc h1 (m_int0 v1 v2) (by decide +kernel) i1 i2, m_ua h1 (d := 546) (off := 0) (n := 1344) (by decide +kernel)]
  exact hp
theorem e1_35_FZ35 {h h' : qH} {x : Nat → Int} {F : aF} (h1 : m_one h h' 35 (x 0).toNat (0, a_w (x 1))) (i1 : 0 ≤ x 0) (i2 : x 0 < 96) (v1 : -2147483648 ≤ x 1) (v2 : x 1 < 2147483648) (hp : p_FZ35 (m_up (m_ac (m_gh h) 35 0 96) (x 0) (x 1)) (m_ep x F)) : a_Rc q_SP 557 h' x 1208925819614629175754992 F := by
  refine m_eR rfl ?_
  rw [f_FZ35, m_uc h1 (m_int0 v1 v2) (by decide +kernel) i1 i2]
  exact hp
theorem e1_36_FZ36 {h h' : qH} {x : Nat → Int} {F : aF} (h1 : m_one h h' 36 (x 0).toNat (0, a_w (x 1))) (i1 : 0 ≤ x 0) (i2 : x 0 < 96) (v1 : -2147483648 ≤ x 1) (v2 : x 1 < 2147483648) (hp : p_FZ36 (m_up (m_ac (m_gh h) 36 0 96) (x 0) (x 1)) (m_ep x F)) : a_Rc q_SP 557 h' x 2417851639229258350461169 F := by
  refine m_eR rfl ?_
  rw [f_FZ36, m_uc h1 (m_int0 v1 v2) (by decide +kernel) i1 i2]
  exact hp
theorem e5_537_GA {h h' : qH} {x : Nat → Int} {F : aF} (h1 : m_one h h' 537 (x 0).toNat (3, a_W (x 1))) (i1 : 0 ≤ x 0) (i2 : x 0 < 240) (v1 : -9223372036854775808 ≤ x 1) (v2 : x 1 < 9223372036854775808) (hp : p_GA (m_ac (m_gh h) 467 0 60) (m_ac (m_gh h) 469 0 60) (m_ac (m_gh h) 471 0 60) (m_ac (m_gh h) 473 0 60) (m_up (m_ac (m_gh h) 537 0 240) (x 0) (x 1)) (m_ep x F)) : a_Rc q_SP 557 h' x 4323473234462769283 F := by
  refine m_eR rfl ?_
  rw [f_GA, m_ua h1 (d := 467) (off := 0) (n := 60) (by decide +kernel), m_ua h1 (d := 469) (off := 0) (n := 60) (by decide +kernel), m_ua h1 (d := 471) (off := 0) (n := 60) (by decide +kernel), m_ua h1 (d := 473) (off := 0) (n := 60) (by decide +kernel), m_uc h1 (m_int3 v1 v2) (by decide +kernel) i1 i2]
  exact hp
theorem e5_537_GD {h h' : qH} {x : Nat → Int} {F : aF} (h1 : m_one h h' 537 (x 0).toNat (3, a_W (x 1))) (i1 : 0 ≤ x 0) (i2 : x 0 < 240) (v1 : -9223372036854775808 ≤ x 1) (v2 : x 1 < 9223372036854775808) (hp : p_GD (m_ac (m_gh h) 467 0 60) (m_ac (m_gh h) 469 0 60) (m_ac (m_gh h) 471 0 60) (m_ac (m_gh h) 473 0 60) (m_up (m_ac (m_gh h) 537 0 240) (x 0) (x 1)) (m_ep x F)) : a_Rc q_SP 557 h' x 4323473234462769284 F := by
  refine m_eR rfl ?_
  rw [f_GD, m_ua h1 (d := 467) (off := 0) (n := 60) (by decide +kernel), m_ua h1 (d := 469) (off := 0) (n := 60) (by decide +kernel), m_ua h1 (d := 471) (off := 0) (n := 60) (by decide +kernel), m_ua h1 (d := 473) (off := 0) (n := 60) (by decide +kernel), m_uc h1 (m_int3 v1 v2) (by decide +kernel) i1 i2]
  exact hp
theorem e1_18_KN18 {h h' : qH} {x : Nat → Int} {F : aF} (h1 : m_one h h' 18 (x 0).toNat (0, a_w (x 1))) (i1 : 0 ≤ x 0) (i2 : x 0 < 96) (v1 : -2147483648 ≤ x 1) (v2 : x 1 < 2147483648) (hp : p_KN18 (m_up (m_ac (m_gh h) 18 0 96) (x 0) (x 1)) (m_ep x F)) : a_Rc q_SP 557 h' x 2596148429267413814265248165659028 F := by
  refine m_eR rfl ?_
  rw [f_KN18, m_uc h1 (m_int0 v1 v2) (by decide +kernel) i1 i2]
  exact hp
theorem e1_539_KPT {h h' : qH} {x : Nat → Int} {F : aF} (h1 : m_one h h' 539 (x 0).toNat (0, a_w (x 1))) (i1 : 0 ≤ x 0) (v1 : -2147483648 ≤ x 1) (v2 : x 1 < 2147483648) (hp : p_KPT (m_ac (m_gh h) 540 0 147) (m_upo 0 6 (m_ac (m_gh h) 539 0 6) (x 0) (x 1)) (m_upo 7 42 (m_ac (m_gh h) 539 7 42) (x 0) (x 1)) (m_ep x F)) : a_Rc q_SP 557 h' x 475368975085586307036241461614 F := by
  refine m_eR rfl ?_
  rw [f_KPT, m_ua h1 (d := 540) (off := 0) (n := 147) (by decide +kernel), m_ucx (off := 0) (n := 6) h1 (m_int0 v1 v2) (by decide +kernel) i1, m_ucx (off := 7) (n := 42) h1 (m_int0 v1 v2) (by decide +kernel) i1]
  exact hp
theorem e1_540_KPT {h h' : qH} {x : Nat → Int} {F : aF} (h1 : m_one h h' 540 (x 0).toNat (0, a_w (x 1))) (i1 : 0 ≤ x 0) (i2 : x 0 < 147) (v1 : -2147483648 ≤ x 1) (v2 : x 1 < 2147483648) (hp : p_KPT (m_up (m_ac (m_gh h) 540 0 147) (x 0) (x 1)) (m_ac (m_gh h) 539 0 6) (m_ac (m_gh h) 539 7 42) (m_ep x F)) : a_Rc q_SP 557 h' x 475368975085586307036241461614 F := by
  refine m_eR rfl ?_
  rw [f_KPT, m_uc h1 (m_int0 v1 v2) (by decide +kernel) i1 i2, m_ua h1 (d := 539) (off := 0) (n := 6) (by decide +kernel), m_ua h1 (d := 539) (off := 7) (n := 42) (by decide +kernel)]
  exact hp
theorem e1_539_NT {h h' : qH} {x : Nat → Int} {F : aF} (h1 : m_one h h' 539 (x 0).toNat (0, a_w (x 1))) (i1 : 0 ≤ x 0) (v1 : -2147483648 ≤ x 1) (v2 : x 1 < 2147483648) (hp : p_NT (m_upo 49 96 (m_ac (m_gh h) 539 49 96) (x 0) (x 1)) (m_ep x F)) : a_Rc q_SP 557 h' x 135266319 F := by
  refine m_eR rfl ?_
  rw [f_NT, m_ucx (off := 49) (n := 96) h1 (m_int0 v1 v2) (by decide +kernel) i1]
  exact hp
theorem e8_478675_PP {h h' : qH} {x : Nat → Int} {F : aF} (h1 : m_cpd h h' 467 467 (x 0) (x 1) (x 2)) (i1 : 0 ≤ x 0) (i2 : 0 ≤ x 1) (i3 : 0 ≤ x 2) (l1 : x 0 + x 2 ≤ a_cl q_SP 467) (l2 : x 1 + x 2 ≤ a_cl q_SP 467) (hp : p_PP (m_cpx (m_ac (m_gh h) 467 0 60) (m_ac (m_gh h) 467 0 60) (x 0) (x 1) (x 2)) (m_ac (m_gh h) 469 0 60) (m_ac (m_gh h) 471 0 60) (m_ac (m_gh h) 473 0 60) (m_ac (m_gh h) 537 0 240) (m_ep x F)) : a_Rc q_SP 557 h' x 4323473234462769282 F := by
  refine m_eR rfl ?_
  rw [f_PP, m_cc h1 (by decide +kernel) (by decide +kernel) i1 i2 i3 l1 l2, m_ca h1 (d := 469) (off := 0) (n := 60) (by decide +kernel), m_ca h1 (d := 471) (off := 0) (n := 60) (by decide +kernel), m_ca h1 (d := 473) (off := 0) (n := 60) (by decide +kernel), m_ca h1 (d := 537) (off := 0) (n := 240) (by decide +kernel)]
  exact hp
theorem e8_478677_PP {h h' : qH} {x : Nat → Int} {F : aF} (h1 : m_cpd h h' 467 469 (x 0) (x 1) (x 2)) (i1 : 0 ≤ x 0) (i2 : 0 ≤ x 1) (i3 : 0 ≤ x 2) (l1 : x 0 + x 2 ≤ a_cl q_SP 467) (l2 : x 1 + x 2 ≤ a_cl q_SP 469) (hp : p_PP (m_ac (m_gh h) 467 0 60) (m_cpx (m_ac (m_gh h) 467 0 60) (m_ac (m_gh h) 469 0 60) (x 0) (x 1) (x 2)) (m_ac (m_gh h) 471 0 60) (m_ac (m_gh h) 473 0 60) (m_ac (m_gh h) 537 0 240) (m_ep x F)) : a_Rc q_SP 557 h' x 4323473234462769282 F := by
  refine m_eR rfl ?_
  rw [f_PP, m_ca h1 (d := 467) (off := 0) (n := 60) (by decide +kernel), m_cc h1 (by decide +kernel) (by decide +kernel) i1 i2 i3 l1 l2, m_ca h1 (d := 471) (off := 0) (n := 60) (by decide +kernel), m_ca h1 (d := 473) (off := 0) (n := 60) (by decide +kernel), m_ca h1 (d := 537) (off := 0) (n := 240) (by decide +kernel)]
  exact hp
theorem e8_478679_PP {h h' : qH} {x : Nat → Int} {F : aF} (h1 : m_cpd h h' 467 471 (x 0) (x 1) (x 2)) (i1 : 0 ≤ x 0) (i2 : 0 ≤ x 1) (i3 : 0 ≤ x 2) (l1 : x 0 + x 2 ≤ a_cl q_SP 467) (l2 : x 1 + x 2 ≤ a_cl q_SP 471) (hp : p_PP (m_ac (m_gh h) 467 0 60) (m_ac (m_gh h) 469 0 60) (m_cpx (m_ac (m_gh h) 467 0 60) (m_ac (m_gh h) 471 0 60) (x 0) (x 1) (x 2)) (m_ac (m_gh h) 473 0 60) (m_ac (m_gh h) 537 0 240) (m_ep x F)) : a_Rc q_SP 557 h' x 4323473234462769282 F := by
  refine m_eR rfl ?_
  rw [f_PP, m_ca h1 (d := 467) (off := 0) (n := 60) (by decide +kernel), m_ca h1 (d := 469) (off := 0) (n := 60) (by decide +kernel), m_cc h1 (by decide +kernel) (by decide +kernel) i1 i2 i3 l1 l2, m_ca h1 (d := 473) (off := 0) (n := 60) (by decide +kernel), m_ca h1 (d := 537) (off := 0) (n := 240) (by decide +kernel)]
  exact hp
theorem e8_478681_PP {h h' : qH} {x : Nat → Int} {F : aF} (h1 : m_cpd h h' 467 473 (x 0) (x 1) (x 2)) (i1 : 0 ≤ x 0) (i2 : 0 ≤ x 1) (i3 : 0 ≤ x 2) (l1 : x 0 + x 2 ≤ a_cl q_SP 467) (l2 : x 1 + x 2 ≤ a_cl q_SP 473) (hp : p_PP (m_ac (m_gh h) 467 0 60) (m_ac (m_gh h) 469 0 60) (m_ac (m_gh h) 471 0 60) (m_cpx (m_ac (m_gh h) 467 0 60) (m_ac (m_gh h) 473 0 60) (x 0) (x 1) (x 2)) (m_ac (m_gh h) 537 0 240) (m_ep x F)) : a_Rc q_SP 557 h' x 4323473234462769282 F := by
  refine m_eR rfl ?_
  rw [f_PP, m_ca h1 (d := 467) (off := 0) (n := 60) (by decide +kernel), m_ca h1 (d := 469) (off := 0) (n := 60) (by decide +kernel), m_ca h1 (d := 471) (off := 0) (n := 60) (by decide +kernel), m_cc h1 (by decide +kernel) (by decide +kernel) i1 i2 i3 l1 l2, m_ca h1 (d := 537) (off := 0) (n := 240) (by decide +kernel)]
  exact hp
theorem e8_480723_PP {h h' : qH} {x : Nat → Int} {F : aF} (h1 : m_cpd h h' 469 467 (x 0) (x 1) (x 2)) (i1 : 0 ≤ x 0) (i2 : 0 ≤ x 1) (i3 : 0 ≤ x 2) (l1 : x 0 + x 2 ≤ a_cl q_SP 469) (l2 : x 1 + x 2 ≤ a_cl q_SP 467) (hp : p_PP (m_cpx (m_ac (m_gh h) 469 0 60) (m_ac (m_gh h) 467 0 60) (x 0) (x 1) (x 2)) (m_ac (m_gh h) 469 0 60) (m_ac (m_gh h) 471 0 60) (m_ac (m_gh h) 473 0 60) (m_ac (m_gh h) 537 0 240) (m_ep x F)) : a_Rc q_SP 557 h' x 4323473234462769282 F := by
  refine m_eR rfl ?_
  rw [f_PP, m_cc h1 (by decide +kernel) (by decide +kernel) i1 i2 i3 l1 l2, m_ca h1 (d := 469) (off := 0) (n := 60) (by decide +kernel), m_ca h1 (d := 471) (off := 0) (n := 60) (by decide +kernel), m_ca h1 (d := 473) (off := 0) (n := 60) (by decide +kernel), m_ca h1 (d := 537) (off := 0) (n := 240) (by decide +kernel)]
  exact hp
theorem e8_480725_PP {h h' : qH} {x : Nat → Int} {F : aF} (h1 : m_cpd h h' 469 469 (x 0) (x 1) (x 2)) (i1 : 0 ≤ x 0) (i2 : 0 ≤ x 1) (i3 : 0 ≤ x 2) (l1 : x 0 + x 2 ≤ a_cl q_SP 469) (l2 : x 1 + x 2 ≤ a_cl q_SP 469) (hp : p_PP (m_ac (m_gh h) 467 0 60) (m_cpx (m_ac (m_gh h) 469 0 60) (m_ac (m_gh h) 469 0 60) (x 0) (x 1) (x 2)) (m_ac (m_gh h) 471 0 60) (m_ac (m_gh h) 473 0 60) (m_ac (m_gh h) 537 0 240) (m_ep x F)) : a_Rc q_SP 557 h' x 4323473234462769282 F := by
  refine m_eR rfl ?_
  rw [f_PP, m_ca h1 (d := 467) (off := 0) (n := 60) (by decide +kernel), m_cc h1 (by decide +kernel) (by decide +kernel) i1 i2 i3 l1 l2, m_ca h1 (d := 471) (off := 0) (n := 60) (by decide +kernel), m_ca h1 (d := 473) (off := 0) (n := 60) (by decide +kernel), m_ca h1 (d := 537) (off := 0) (n := 240) (by decide +kernel)]
  exact hp
theorem e8_480727_PP {h h' : qH} {x : Nat → Int} {F : aF} (h1 : m_cpd h h' 469 471 (x 0) (x 1) (x 2)) (i1 : 0 ≤ x 0) (i2 : 0 ≤ x 1) (i3 : 0 ≤ x 2) (l1 : x 0 + x 2 ≤ a_cl q_SP 469) (l2 : x 1 + x 2 ≤ a_cl q_SP 471) (hp : p_PP (m_ac (m_gh h) 467 0 60) (m_ac (m_gh h) 469 0 60) (m_cpx (m_ac (m_gh h) 469 0 60) (m_ac (m_gh h) 471 0 60) (x 0) (x 1) (x 2)) (m_ac (m_gh h) 473 0 60) (m_ac (m_gh h) 537 0 240) (m_ep x F)) : a_Rc q_SP 557 h' x 4323473234462769282 F := by
  refine m_eR rfl ?_
  rw [f_PP, m_ca h1 (d := 467) (off := 0) (n := 60) (by decide +kernel), m_ca h1 (d := 469) (off := 0) (n := 60) (by decide +kernel), m_cc h1 (by decide +kernel) (by decide +kernel) i1 i2 i3 l1 l2, m_ca h1 (d := 473) (off := 0) (n := 60) (by decide +kernel), m_ca h1 (d := 537) (off := 0) (n := 240) (by decide +kernel)]
  exact hp
theorem e8_480729_PP {h h' : qH} {x : Nat → Int} {F : aF} (h1 : m_cpd h h' 469 473 (x 0) (x 1) (x 2)) (i1 : 0 ≤ x 0) (i2 : 0 ≤ x 1) (i3 : 0 ≤ x 2) (l1 : x 0 + x 2 ≤ a_cl q_SP 469) (l2 : x 1 + x 2 ≤ a_cl q_SP 473) (hp : p_PP (m_ac (m_gh h) 467 0 60) (m_ac (m_gh h) 469 0 60) (m_ac (m_gh h) 471 0 60) (m_cpx (m_ac (m_gh h) 469 0 60) (m_ac (m_gh h) 473 0 60) (x 0) (x 1) (x 2)) (m_ac (m_gh h) 537 0 240) (m_ep x F)) : a_Rc q_SP 557 h' x 4323473234462769282 F := by
  refine m_eR rfl ?_
  rw [f_PP, m_ca h1 (d := 467) (off := 0) (n := 60) (by decide +kernel), m_ca h1 (d := 469) (off := 0) (n := 60) (by decide +kernel), m_ca h1 (d := 471) (off := 0) (n := 60) (by decide +kernel), m_cc h1 (by decide +kernel) (by decide +kernel) i1 i2 i3 l1 l2, m_ca h1 (d := 537) (off := 0) (n := 240) (by decide +kernel)]
  exact hp
theorem e8_482771_PP {h h' : qH} {x : Nat → Int} {F : aF} (h1 : m_cpd h h' 471 467 (x 0) (x 1) (x 2)) (i1 : 0 ≤ x 0) (i2 : 0 ≤ x 1) (i3 : 0 ≤ x 2) (l1 : x 0 + x 2 ≤ a_cl q_SP 471) (l2 : x 1 + x 2 ≤ a_cl q_SP 467) (hp : p_PP (m_cpx (m_ac (m_gh h) 471 0 60) (m_ac (m_gh h) 467 0 60) (x 0) (x 1) (x 2)) (m_ac (m_gh h) 469 0 60) (m_ac (m_gh h) 471 0 60) (m_ac (m_gh h) 473 0 60) (m_ac (m_gh h) 537 0 240) (m_ep x F)) : a_Rc q_SP 557 h' x 4323473234462769282 F := by
  refine m_eR rfl ?_
  rw [f_PP, m_cc h1 (by decide +kernel) (by decide +kernel) i1 i2 i3 l1 l2, m_ca h1 (d := 469) (off := 0) (n := 60) (by decide +kernel), m_ca h1 (d := 471) (off := 0) (n := 60) (by decide +kernel), m_ca h1 (d := 473) (off := 0) (n := 60) (by decide +kernel), m_ca h1 (d := 537) (off := 0) (n := 240) (by decide +kernel)]
  exact hp
theorem e8_482773_PP {h h' : qH} {x : Nat → Int} {F : aF} (h1 : m_cpd h h' 471 469 (x 0) (x 1) (x 2)) (i1 : 0 ≤ x 0) (i2 : 0 ≤ x 1) (i3 : 0 ≤ x 2) (l1 : x 0 + x 2 ≤ a_cl q_SP 471) (l2 : x 1 + x 2 ≤ a_cl q_SP 469) (hp : p_PP (m_ac (m_gh h) 467 0 60) (m_cpx (m_ac (m_gh h) 471 0 60) (m_ac (m_gh h) 469 0 60) (x 0) (x 1) (x 2)) (m_ac (m_gh h) 471 0 60) (m_ac (m_gh h) 473 0 60) (m_ac (m_gh h) 537 0 240) (m_ep x F)) : a_Rc q_SP 557 h' x 4323473234462769282 F := by
  refine m_eR rfl ?_
  rw [f_PP, m_ca h1 (d := 467) (off := 0) (n := 60) (by decide +kernel), m_cc h1 (by decide +kernel) (by decide +kernel) i1 i2 i3 l1 l2, m_ca h1 (d := 471) (off := 0) (n := 60) (by decide +kernel), m_ca h1 (d := 473) (off := 0) (n := 60) (by decide +kernel), m_ca h1 (d := 537) (off := 0) (n := 240) (by decide +kernel)]
  exact hp
theorem e8_482775_PP {h h' : qH} {x : Nat → Int} {F : aF} (h1 : m_cpd h h' 471 471 (x 0) (x 1) (x 2)) (i1 : 0 ≤ x 0) (i2 : 0 ≤ x 1) (i3 : 0 ≤ x 2) (l1 : x 0 + x 2 ≤ a_cl q_SP 471) (l2 : x 1 + x 2 ≤ a_cl q_SP 471) (hp : p_PP (m_ac (m_gh h) 467 0 60) (m_ac (m_gh h) 469 0 60) (m_cpx (m_ac (m_gh h) 471 0 60) (m_ac (m_gh h) 471 0 60) (x 0) (x 1) (x 2)) (m_ac (m_gh h) 473 0 60) (m_ac (m_gh h) 537 0 240) (m_ep x F)) : a_Rc q_SP 557 h' x 4323473234462769282 F := by
  refine m_eR rfl ?_
  rw [f_PP, m_ca h1 (d := 467) (off := 0) (n := 60) (by decide +kernel), m_ca h1 (d := 469) (off := 0) (n := 60) (by decide +kernel), m_cc h1 (by decide +kernel) (by decide +kernel) i1 i2 i3 l1 l2, m_ca h1 (d := 473) (off := 0) (n := 60) (by decide +kernel), m_ca h1 (d := 537) (off := 0) (n := 240) (by decide +kernel)]
  exact hp
theorem e8_482777_PP {h h' : qH} {x : Nat → Int} {F : aF} (h1 : m_cpd h h' 471 473 (x 0) (x 1) (x 2)) (i1 : 0 ≤ x 0) (i2 : 0 ≤ x 1) (i3 : 0 ≤ x 2) (l1 : x 0 + x 2 ≤ a_cl q_SP 471) (l2 : x 1 + x 2 ≤ a_cl q_SP 473) (hp : p_PP (m_ac (m_gh h) 467 0 60) (m_ac (m_gh h) 469 0 60) (m_ac (m_gh h) 471 0 60) (m_cpx (m_ac (m_gh h) 471 0 60) (m_ac (m_gh h) 473 0 60) (x 0) (x 1) (x 2)) (m_ac (m_gh h) 537 0 240) (m_ep x F)) : a_Rc q_SP 557 h' x 4323473234462769282 F := by
  refine m_eR rfl ?_
  rw [f_PP, m_ca h1 (d := 467) (off := 0) (n := 60) (by decide +kernel), m_ca h1 (d := 469) (off := 0) (n := 60) (by decide +kernel), m_ca h1 (d := 471) (off := 0) (n := 60) (by decide +kernel), m_cc h1 (by decide +kernel) (by decide +kernel) i1 i2 i3 l1 l2, m_ca h1 (d := 537) (off := 0) (n := 240) (by decide +kernel)]
  exact hp
theorem e8_484819_PP {h h' : qH} {x : Nat → Int} {F : aF} (h1 : m_cpd h h' 473 467 (x 0) (x 1) (x 2)) (i1 : 0 ≤ x 0) (i2 : 0 ≤ x 1) (i3 : 0 ≤ x 2) (l1 : x 0 + x 2 ≤ a_cl q_SP 473) (l2 : x 1 + x 2 ≤ a_cl q_SP 467) (hp : p_PP (m_cpx (m_ac (m_gh h) 473 0 60) (m_ac (m_gh h) 467 0 60) (x 0) (x 1) (x 2)) (m_ac (m_gh h) 469 0 60) (m_ac (m_gh h) 471 0 60) (m_ac (m_gh h) 473 0 60) (m_ac (m_gh h) 537 0 240) (m_ep x F)) : a_Rc q_SP 557 h' x 4323473234462769282 F := by
  refine m_eR rfl ?_
  rw [f_PP, m_cc h1 (by decide +kernel) (by decide +kernel) i1 i2 i3 l1 l2, m_ca h1 (d := 469) (off := 0) (n := 60) (by decide +kernel), m_ca h1 (d := 471) (off := 0) (n := 60) (by decide +kernel), m_ca h1 (d := 473) (off := 0) (n := 60) (by decide +kernel), m_ca h1 (d := 537) (off := 0) (n := 240) (by decide +kernel)]
  exact hp
theorem e8_484821_PP {h h' : qH} {x : Nat → Int} {F : aF} (h1 : m_cpd h h' 473 469 (x 0) (x 1) (x 2)) (i1 : 0 ≤ x 0) (i2 : 0 ≤ x 1) (i3 : 0 ≤ x 2) (l1 : x 0 + x 2 ≤ a_cl q_SP 473) (l2 : x 1 + x 2 ≤ a_cl q_SP 469) (hp : p_PP (m_ac (m_gh h) 467 0 60) (m_cpx (m_ac (m_gh h) 473 0 60) (m_ac (m_gh h) 469 0 60) (x 0) (x 1) (x 2)) (m_ac (m_gh h) 471 0 60) (m_ac (m_gh h) 473 0 60) (m_ac (m_gh h) 537 0 240) (m_ep x F)) : a_Rc q_SP 557 h' x 4323473234462769282 F := by
  refine m_eR rfl ?_
  rw [f_PP, m_ca h1 (d := 467) (off := 0) (n := 60) (by decide +kernel), m_cc h1 (by decide +kernel) (by decide +kernel) i1 i2 i3 l1 l2, m_ca h1 (d := 471) (off := 0) (n := 60) (by decide +kernel), m_ca h1 (d := 473) (off := 0) (n := 60) (by decide +kernel), m_ca h1 (d := 537) (off := 0) (n := 240) (by decide +kernel)]
  exact hp
theorem e8_484823_PP {h h' : qH} {x : Nat → Int} {F : aF} (h1 : m_cpd h h' 473 471 (x 0) (x 1) (x 2)) (i1 : 0 ≤ x 0) (i2 : 0 ≤ x 1) (i3 : 0 ≤ x 2) (l1 : x 0 + x 2 ≤ a_cl q_SP 473) (l2 : x 1 + x 2 ≤ a_cl q_SP 471) (hp : p_PP (m_ac (m_gh h) 467 0 60) (m_ac (m_gh h) 469 0 60) (m_cpx (m_ac (m_gh h) 473 0 60) (m_ac (m_gh h) 471 0 60) (x 0) (x 1) (x 2)) (m_ac (m_gh h) 473 0 60) (m_ac (m_gh h) 537 0 240) (m_ep x F)) : a_Rc q_SP 557 h' x 4323473234462769282 F := by
  refine m_eR rfl ?_
  rw [f_PP, m_ca h1 (d := 467) (off := 0) (n := 60) (by decide +kernel), m_ca h1 (d := 469) (off := 0) (n := 60) (by decide +kernel), m_cc h1 (by decide +kernel) (by decide +kernel) i1 i2 i3 l1 l2, m_ca h1 (d := 473) (off := 0) (n := 60) (by decide +kernel), m_ca h1 (d := 537) (off := 0) (n := 240) (by decide +kernel)]
  exact hp
theorem e8_484825_PP {h h' : qH} {x : Nat → Int} {F : aF} (h1 : m_cpd h h' 473 473 (x 0) (x 1) (x 2)) (i1 : 0 ≤ x 0) (i2 : 0 ≤ x 1) (i3 : 0 ≤ x 2) (l1 : x 0 + x 2 ≤ a_cl q_SP 473) (l2 : x 1 + x 2 ≤ a_cl q_SP 473) (hp : p_PP (m_ac (m_gh h) 467 0 60) (m_ac (m_gh h) 469 0 60) (m_ac (m_gh h) 471 0 60) (m_cpx (m_ac (m_gh h) 473 0 60) (m_ac (m_gh h) 473 0 60) (x 0) (x 1) (x 2)) (m_ac (m_gh h) 537 0 240) (m_ep x F)) : a_Rc q_SP 557 h' x 4323473234462769282 F := by
  refine m_eR rfl ?_
  rw [f_PP, m_ca h1 (d := 467) (off := 0) (n := 60) (by decide +kernel), m_ca h1 (d := 469) (off := 0) (n := 60) (by decide +kernel), m_ca h1 (d := 471) (off := 0) (n := 60) (by decide +kernel), m_cc h1 (by decide +kernel) (by decide +kernel) i1 i2 i3 l1 l2, m_ca h1 (d := 537) (off := 0) (n := 240) (by decide +kernel)]
  exact hp
theorem e1_553_PX {h h' : qH} {x : Nat → Int} {F : aF} (h1 : m_one h h' 553 (x 0).toNat (0, a_w (x 1))) (i1 : 0 ≤ x 0) (i2 : x 0 < 96) (v1 : -2147483648 ≤ x 1) (v2 : x 1 < 2147483648) (hp : p_PX (m_up (m_ac (m_gh h) 553 0 96) (x 0) (x 1)) (m_ep x F)) : a_Rc q_SP 557 h' x 1099512676404 F := by
  refine m_eR rfl ?_
  rw [f_PX, m_uc h1 (m_int0 v1 v2) (by decide +kernel) i1 i2]
  exact hp
