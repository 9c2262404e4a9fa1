-- 68a93.short: what the rules use (printed by wip/p5/gen68.py)
theorem e_SKR {h : qH} {x : Nat → Int} {F : aF} (hp : p_SKR (m_ac (m_gh h) 538 0 900) (m_gh h 534 9) (m_ep x F)) : a_Rc q_SP 557 h x 4835703278493701071962275 F := by
  refine m_eR (by decide +kernel) ?_
  rw [f_SKR]
  exact hp
theorem e_NXR {h : qH} {x : Nat → Int} {F : aF} (hp : p_NXR (m_ac (m_gh h) 538 0 900) (m_gh h 534 9) (m_ep x F)) : a_Rc q_SP 557 h x 4835703278493701071962276 F := by
  refine m_eR (by decide +kernel) ?_
  rw [f_NXR]
  exact hp
theorem e_BY {h : qH} {x : Nat → Int} {F : aF} (hp : p_BY (m_ac (m_gh h) 3 0 900) (m_ep x F)) : a_Rc q_SP 557 h x 4611686018428436620 F := by
  refine m_eR (by decide +kernel) ?_
  rw [f_BY]
  exact hp
theorem e_BYB {h : qH} {x : Nat → Int} {F : aF} (hp : p_BYB (m_ac (m_gh h) 3 0 900) (m_ep x F)) : a_Rc q_SP 557 h x 4611686018428436702 F := by
  refine m_eR (by decide +kernel) ?_
  rw [f_BYB]
  exact hp
theorem e_BR {h : qH} {x : Nat → Int} {F : aF} (hp : p_BR (m_ac (m_gh h) 538 0 900) (m_ep x F)) : a_Rc q_SP 557 h x 35184373137568 F := by
  refine m_eR (by decide +kernel) ?_
  rw [f_BR]
  exact hp
theorem e_LK {h : qH} {x : Nat → Int} {F : aF} (hp : p_LK (m_ac (m_gh h) 538 0 900) (m_gh h 534 9) (m_ep x F)) : a_Rc q_SP 557 h x 4835703278493701071962273 F := by
  refine m_eR (by decide +kernel) ?_
  rw [f_LK]
  exact hp
theorem e_LKB {h : qH} {x : Nat → Int} {F : aF} (hp : p_LKB (m_ac (m_gh h) 538 0 900) (m_gh h 534 9) (m_ep x F)) : a_Rc q_SP 557 h x 4835703278493701071962274 F := by
  refine m_eR (by decide +kernel) ?_
  rw [f_LKB]
  exact hp
theorem e_LE {h : qH} {x : Nat → Int} {F : aF} (hp : p_LE (m_ac (m_gh h) 3 0 900) (m_gh h 2 7) (m_ep x F)) : a_Rc q_SP 557 h x 13835058055283212431 F := by
  refine m_eR (by decide +kernel) ?_
  rw [f_LE]
  exact hp
theorem e_DG {h : qH} {x : Nat → Int} {F : aF} (hp : p_DG (m_ac (m_gh h) 3 0 900) (m_gh h 2 7) (m_ep x F)) : a_Rc q_SP 557 h x 13835058055283212432 F := by
  refine m_eR (by decide +kernel) ?_
  rw [f_DG]
  exact hp
theorem e_TK {h : qH} {x : Nat → Int} {F : aF} (hp : p_TK (m_ac (m_gh h) 3 0 900) (m_gh h 2 4) (m_gh h 2 6) (m_gh h 2 7) (m_gh h 2 8) (m_ep x F)) : a_Rc q_SP 557 h x 23058430092137988241 F := by
  refine m_eR (by decide +kernel) ?_
  rw [f_TK]
  exact hp
theorem e_CU {h : qH} {x : Nat → Int} {F : aF} (hp : p_CU (m_ac (m_gh h) 3 0 900) (m_gh h 2 4) (m_gh h 2 5) (m_gh h 2 6) (m_gh h 2 7) (m_gh h 2 8) (m_ep x F)) : a_Rc q_SP 557 h x 23058430092137988242 F := by
  refine m_eR (by decide +kernel) ?_
  rw [f_CU]
  exact hp
theorem e_WM {h : qH} {x : Nat → Int} {F : aF} (hp : p_WM  (m_ep x F)) : a_Rc q_SP 557 h x 1048723 F := by
  refine m_eR (by decide +kernel) ?_
  rw [f_WM]
  exact hp
theorem e_WA {h : qH} {x : Nat → Int} {F : aF} (hp : p_WA  (m_ep x F)) : a_Rc q_SP 557 h x 1048724 F := by
  refine m_eR (by decide +kernel) ?_
  rw [f_WA]
  exact hp
theorem e_WS {h : qH} {x : Nat → Int} {F : aF} (hp : p_WS  (m_ep x F)) : a_Rc q_SP 557 h x 1048725 F := by
  refine m_eR (by decide +kernel) ?_
  rw [f_WS]
  exact hp
theorem e_CH {h : qH} {x : Nat → Int} {F : aF} (hp : p_CH  (m_ep x F)) : a_Rc q_SP 557 h x 1048756 F := by
  refine m_eR (by decide +kernel) ?_
  rw [f_CH]
  exact hp
theorem e_LC {h : qH} {x : Nat → Int} {F : aF} (hp : p_LC (m_ac (m_gh h) 3 0 900) (m_ep x F)) : a_Rc q_SP 557 h x 4611686018428436661 F := by
  refine m_eR (by decide +kernel) ?_
  rw [f_LC]
  exact hp
theorem e_WI {h : qH} {x : Nat → Int} {F : aF} (hp : p_WI (m_ac (m_gh h) 3 0 900) (m_gh h 2 7) (m_ep x F)) : a_Rc q_SP 557 h x 13835058055283212470 F := by
  refine m_eR (by decide +kernel) ?_
  rw [f_WI]
  exact hp
theorem e_NI {h : qH} {x : Nat → Int} {F : aF} (hp : p_NI (m_ac (m_gh h) 3 0 900) (m_gh h 2 7) (m_ep x F)) : a_Rc q_SP 557 h x 13835058055283212471 F := by
  refine m_eR (by decide +kernel) ?_
  rw [f_NI]
  exact hp
theorem e_HF {h : qH} {x : Nat → Int} {F : aF} (hp : p_HF (m_ac (m_gh h) 3 0 900) (m_gh h 2 7) (m_ep x F)) : a_Rc q_SP 557 h x 13835058055283212481 F := by
  refine m_eR (by decide +kernel) ?_
  rw [f_HF]
  exact hp
theorem e_NR {h : qH} {x : Nat → Int} {F : aF} (hp : p_NR (m_ac (m_gh h) 3 0 900) (m_gh h 2 7) (m_ep x F)) : a_Rc q_SP 557 h x 13835058055283212508 F := by
  refine m_eR (by decide +kernel) ?_
  rw [f_NR]
  exact hp
theorem e_XN {h : qH} {x : Nat → Int} {F : aF} (hp : p_XN (m_ac (m_gh h) 3 0 900) (m_gh h 2 7) (m_ep x F)) : a_Rc q_SP 557 h x 13835058055283212509 F := by
  refine m_eR (by decide +kernel) ?_
  rw [f_XN]
  exact hp
theorem e_WIR {h : qH} {x : Nat → Int} {F : aF} (hp : p_WIR (m_ac (m_gh h) 538 0 900) (m_gh h 534 9) (m_ep x F)) : a_Rc q_SP 557 h x 4835703278493701071962370 F := by
  refine m_eR (by decide +kernel) ?_
  rw [f_WIR]
  exact hp
theorem e_NIR {h : qH} {x : Nat → Int} {F : aF} (hp : p_NIR (m_ac (m_gh h) 538 0 900) (m_gh h 534 9) (m_ep x F)) : a_Rc q_SP 557 h x 4835703278493701071962371 F := by
  refine m_eR (by decide +kernel) ?_
  rw [f_NIR]
  exact hp
theorem e_HFR {h : qH} {x : Nat → Int} {F : aF} (hp : p_HFR (m_ac (m_gh h) 538 0 900) (m_gh h 534 9) (m_ep x F)) : a_Rc q_SP 557 h x 4835703278493701071962369 F := by
  refine m_eR (by decide +kernel) ?_
  rw [f_HFR]
  exact hp
theorem e_NRR {h : qH} {x : Nat → Int} {F : aF} (hp : p_NRR (m_ac (m_gh h) 538 0 900) (m_gh h 534 9) (m_ep x F)) : a_Rc q_SP 557 h x 4835703278493701071962374 F := by
  refine m_eR (by decide +kernel) ?_
  rw [f_NRR]
  exact hp
theorem e_XNR {h : qH} {x : Nat → Int} {F : aF} (hp : p_XNR (m_ac (m_gh h) 538 0 900) (m_gh h 534 9) (m_ep x F)) : a_Rc q_SP 557 h x 4835703278493701071962375 F := by
  refine m_eR (by decide +kernel) ?_
  rw [f_XNR]
  exact hp
theorem e_SI {h : qH} {x : Nat → Int} {F : aF} (hp : p_SI (m_ac (m_gh h) 3 0 900) (m_gh h 2 7) (m_ep x F)) : a_Rc q_SP 557 h x 13835058055283212484 F := by
  refine m_eR (by decide +kernel) ?_
  rw [f_SI]
  exact hp
theorem e_NSI {h : qH} {x : Nat → Int} {F : aF} (hp : p_NSI (m_ac (m_gh h) 3 0 900) (m_gh h 2 7) (m_ep x F)) : a_Rc q_SP 557 h x 13835058055283212485 F := by
  refine m_eR (by decide +kernel) ?_
  rw [f_NSI]
  exact hp
theorem e_SIR {h : qH} {x : Nat → Int} {F : aF} (hp : p_SIR (m_ac (m_gh h) 538 0 900) (m_gh h 534 9) (m_ep x F)) : a_Rc q_SP 557 h x 4835703278493701071962372 F := by
  refine m_eR (by decide +kernel) ?_
  rw [f_SIR]
  exact hp
theorem e_NSIR {h : qH} {x : Nat → Int} {F : aF} (hp : p_NSIR (m_ac (m_gh h) 538 0 900) (m_gh h 534 9) (m_ep x F)) : a_Rc q_SP 557 h x 4835703278493701071962373 F := by
  refine m_eR (by decide +kernel) ?_
  rw [f_NSIR]
  exact hp
theorem e_CF {h : qH} {x : Nat → Int} {F : aF} (hp : p_CF (m_ac (m_gh h) 3 0 900) (m_gh h 2 7) (m_gh h 26 0) (m_gh h 26 1) (m_gh h 26 2) (m_gh h 26 3) (m_gh h 26 4) (m_gh h 26 5) (m_gh h 26 6) (m_gh h 25 3) (m_ac (m_gh h) 27 0 6) (m_ac (m_gh h) 28 0 4) (m_ac (m_gh h) 29 0 4) (m_ac (m_gh h) 32 0 96) (m_ac (m_gh h) 35 0 96) (m_ac (m_gh h) 36 0 96) (m_ac (m_gh h) 39 0 4) (m_ac (m_gh h) 40 0 4) (m_ep x F)) : a_Rc q_SP 557 h x 4699308052777509322942 F := by
  refine m_eR (by decide +kernel) ?_
  rw [f_CF]
  exact hp
theorem e_RDX {h : qH} {x : Nat → Int} {F : aF} (hp : p_RDX (m_ac (m_gh h) 3 0 900) (m_gh h 2 7) (m_gh h 26 0) (m_gh h 26 1) (m_gh h 26 2) (m_gh h 26 3) (m_gh h 26 4) (m_gh h 26 5) (m_gh h 26 6) (m_gh h 25 3) (m_ac (m_gh h) 27 0 6) (m_ac (m_gh h) 28 0 4) (m_ac (m_gh h) 29 0 4) (m_ac (m_gh h) 32 0 96) (m_ac (m_gh h) 35 0 96) (m_ac (m_gh h) 36 0 96) (m_ac (m_gh h) 39 0 4) (m_ac (m_gh h) 40 0 4) (m_ep x F)) : a_Rc q_SP 557 h x 4699308052777509322944 F := by
  refine m_eR (by decide +kernel) ?_
  rw [f_RDX]
  exact hp
theorem e_CG {h : qH} {x : Nat → Int} {F : aF} (hp : p_CG (m_ac (m_gh h) 3 0 900) (m_gh h 2 7) (m_gh h 26 2) (m_gh h 26 3) (m_gh h 26 4) (m_gh h 26 5) (m_gh h 26 6) (m_gh h 25 3) (m_ac (m_gh h) 27 0 6) (m_ac (m_gh h) 28 0 4) (m_ac (m_gh h) 29 0 4) (m_ac (m_gh h) 32 0 96) (m_ac (m_gh h) 35 0 96) (m_ac (m_gh h) 36 0 96) (m_ac (m_gh h) 39 0 4) (m_ac (m_gh h) 40 0 4) (m_ep x F)) : a_Rc q_SP 557 h x 9384781047499735433410 F := by
  refine m_eR (by decide +kernel) ?_
  rw [f_CG]
  exact hp
theorem e_CFA {h : qH} {x : Nat → Int} {F : aF} (hp : p_CFA (m_ac (m_gh h) 3 0 900) (m_gh h 2 7) (m_gh h 26 0) (m_gh h 26 1) (m_gh h 26 2) (m_gh h 26 3) (m_gh h 26 4) (m_gh h 26 5) (m_gh h 26 6) (m_gh h 25 3) (m_ac (m_gh h) 27 0 6) (m_ac (m_gh h) 28 0 4) (m_ac (m_gh h) 29 0 4) (m_ac (m_gh h) 32 0 96) (m_ac (m_gh h) 35 0 96) (m_ac (m_gh h) 36 0 96) (m_ac (m_gh h) 39 0 4) (m_ac (m_gh h) 40 0 4) (m_ep x F)) : a_Rc q_SP 557 h x 4699308052777509322943 F := by
  refine m_eR (by decide +kernel) ?_
  rw [f_CFA]
  exact hp
theorem e_CC2 {h : qH} {x : Nat → Int} {F : aF} (hp : p_CC2 (m_ac (m_gh h) 3 0 900) (m_gh h 2 7) (m_gh h 26 0) (m_gh h 26 1) (m_gh h 26 2) (m_gh h 26 3) (m_gh h 26 4) (m_gh h 26 5) (m_gh h 26 6) (m_gh h 25 3) (m_ac (m_gh h) 27 0 6) (m_ac (m_gh h) 28 0 4) (m_ac (m_gh h) 29 0 4) (m_ac (m_gh h) 32 0 96) (m_ac (m_gh h) 35 0 96) (m_ac (m_gh h) 36 0 96) (m_ac (m_gh h) 39 0 4) (m_ac (m_gh h) 40 0 4) (m_ep x F)) : a_Rc q_SP 557 h x 4699308052777509322953 F := by
  refine m_eR (by decide +kernel) ?_
  rw [f_CC2]
  exact hp
theorem e_CCN {h : qH} {x : Nat → Int} {F : aF} (hp : p_CCN (m_ac (m_gh h) 3 0 900) (m_gh h 2 7) (m_gh h 26 0) (m_gh h 26 1) (m_gh h 26 4) (m_gh h 26 5) (m_gh h 26 6) (m_gh h 25 3) (m_ac (m_gh h) 27 0 6) (m_ac (m_gh h) 28 0 4) (m_ac (m_gh h) 29 0 4) (m_ac (m_gh h) 32 0 96) (m_ac (m_gh h) 35 0 96) (m_ac (m_gh h) 36 0 96) (m_ac (m_gh h) 39 0 4) (m_ac (m_gh h) 40 0 4) (m_ep x F)) : a_Rc q_SP 557 h x 32996613461847961501898 F := by
  refine m_eR (by decide +kernel) ?_
  rw [f_CCN]
  exact hp
theorem e_CMN {h : qH} {x : Nat → Int} {F : aF} (hp : p_CMN (m_ac (m_gh h) 3 0 900) (m_gh h 2 7) (m_gh h 26 0) (m_gh h 26 1) (m_gh h 26 2) (m_gh h 26 3) (m_gh h 26 5) (m_gh h 26 6) (m_gh h 25 3) (m_ac (m_gh h) 27 0 6) (m_ac (m_gh h) 28 0 4) (m_ac (m_gh h) 29 0 4) (m_ac (m_gh h) 32 0 96) (m_ac (m_gh h) 35 0 96) (m_ac (m_gh h) 36 0 96) (m_ac (m_gh h) 39 0 4) (m_ac (m_gh h) 40 0 4) (m_ep x F)) : a_Rc q_SP 557 h x 136888676084980156203213 F := by
  refine m_eR (by decide +kernel) ?_
  rw [f_CMN]
  exact hp
theorem e_CSN {h : qH} {x : Nat → Int} {F : aF} (hp : p_CSN (m_ac (m_gh h) 3 0 900) (m_gh h 2 7) (m_gh h 26 0) (m_gh h 26 1) (m_gh h 26 2) (m_gh h 26 3) (m_gh h 26 4) (m_gh h 26 6) (m_ac (m_gh h) 27 0 6) (m_ac (m_gh h) 28 0 4) (m_ac (m_gh h) 29 0 4) (m_ac (m_gh h) 32 0 96) (m_ac (m_gh h) 35 0 96) (m_ac (m_gh h) 36 0 96) (m_ac (m_gh h) 39 0 4) (m_ac (m_gh h) 40 0 4) (m_ep x F)) : a_Rc q_SP 557 h x 776769334513817082659023 F := by
  refine m_eR (by decide +kernel) ?_
  rw [f_CSN]
  exact hp
theorem e_CSM {h : qH} {x : Nat → Int} {F : aF} (hp : p_CSM (m_ac (m_gh h) 3 0 900) (m_gh h 2 7) (m_gh h 26 0) (m_gh h 26 1) (m_gh h 26 2) (m_gh h 26 3) (m_gh h 26 4) (m_gh h 26 5) (m_gh h 26 6) (m_ac (m_gh h) 27 0 6) (m_ac (m_gh h) 28 0 4) (m_ac (m_gh h) 29 0 4) (m_ac (m_gh h) 32 0 96) (m_ac (m_gh h) 35 0 96) (m_ac (m_gh h) 36 0 96) (m_ac (m_gh h) 39 0 4) (m_ac (m_gh h) 40 0 4) (m_ep x F)) : a_Rc q_SP 557 h x 2338124811342686716112 F := by
  refine m_eR (by decide +kernel) ?_
  rw [f_CSM]
  exact hp
theorem e_CDN {h : qH} {x : Nat → Int} {F : aF} (hp : p_CDN (m_ac (m_gh h) 3 0 900) (m_gh h 2 7) (m_gh h 26 0) (m_gh h 26 1) (m_gh h 26 2) (m_gh h 26 3) (m_gh h 26 4) (m_gh h 26 5) (m_gh h 25 3) (m_ac (m_gh h) 27 0 6) (m_ac (m_gh h) 28 0 4) (m_ac (m_gh h) 29 0 4) (m_ac (m_gh h) 32 0 96) (m_ac (m_gh h) 35 0 96) (m_ac (m_gh h) 36 0 96) (m_ac (m_gh h) 39 0 4) (m_ac (m_gh h) 40 0 4) (m_ep x F)) : a_Rc q_SP 557 h x 325783335399765964751058 F := by
  refine m_eR (by decide +kernel) ?_
  rw [f_CDN]
  exact hp
theorem e_CNA {h : qH} {x : Nat → Int} {F : aF} (hp : p_CNA (m_ac (m_gh h) 3 0 900) (m_gh h 2 7) (m_gh h 26 0) (m_gh h 26 1) (m_gh h 26 2) (m_gh h 26 3) (m_gh h 26 4) (m_gh h 26 5) (m_gh h 26 6) (m_gh h 25 3) (m_ac (m_gh h) 27 0 6) (m_ac (m_gh h) 28 0 4) (m_ac (m_gh h) 29 0 4) (m_ac (m_gh h) 32 0 96) (m_ac (m_gh h) 35 0 96) (m_ac (m_gh h) 36 0 96) (m_ac (m_gh h) 39 0 4) (m_ac (m_gh h) 40 0 4) (m_ep x F)) : a_Rc q_SP 557 h x 4699308052777509322981 F := by
  refine m_eR (by decide +kernel) ?_
  rw [f_CNA]
  exact hp
theorem e_FR {h : qH} {x : Nat → Int} {F : aF} (hp : p_FR (m_ac (m_gh h) 36 0 96) (m_ep x F)) : a_Rc q_SP 557 h x 590295810358706700503 F := by
  refine m_eR (by decide +kernel) ?_
  rw [f_FR]
  exact hp
theorem e_SM {h : qH} {x : Nat → Int} {F : aF} (hp : p_SM (m_ac (m_gh h) 3 0 900) (m_ep x F)) : a_Rc q_SP 557 h x 4611686018428436703 F := by
  refine m_eR (by decide +kernel) ?_
  rw [f_SM]
  exact hp
theorem e_SMT {h : qH} {x : Nat → Int} {F : aF} (hp : p_SMT (m_ac (m_gh h) 3 0 900) (m_ep x F)) : a_Rc q_SP 557 h x 4611686018428436704 F := by
  refine m_eR (by decide +kernel) ?_
  rw [f_SMT]
  exact hp
theorem e_NSM {h : qH} {x : Nat → Int} {F : aF} (hp : p_NSM (m_ac (m_gh h) 3 0 900) (m_ep x F)) : a_Rc q_SP 557 h x 4611686018428436705 F := by
  refine m_eR (by decide +kernel) ?_
  rw [f_NSM]
  exact hp
theorem e_NLR {h : qH} {x : Nat → Int} {F : aF} (hp : p_NLR (m_ac (m_gh h) 40 0 4) (m_ep x F)) : a_Rc q_SP 557 h x 1180591620717412352226 F := by
  refine m_eR (by decide +kernel) ?_
  rw [f_NLR]
  exact hp
theorem e_NSR {h : qH} {x : Nat → Int} {F : aF} (hp : p_NSR (m_ac (m_gh h) 39 0 4) (m_ep x F)) : a_Rc q_SP 557 h x 1180591620717412352227 F := by
  refine m_eR (by decide +kernel) ?_
  rw [f_NSR]
  exact hp
theorem e_DN {h : qH} {x : Nat → Int} {F : aF} (hp : p_DN (m_ac (m_gh h) 3 0 900) (m_gh h 2 7) (m_ac (m_gh h) 39 0 4) (m_ac (m_gh h) 40 0 4) (m_ep x F)) : a_Rc q_SP 557 h x 1194426678772694515940 F := by
  refine m_eR (by decide +kernel) ?_
  rw [f_DN]
  exact hp
theorem e_FZ35 {h : qH} {x : Nat → Int} {F : aF} (hp : p_FZ35 (m_ac (m_gh h) 35 0 96) (m_ep x F)) : a_Rc q_SP 557 h x 1208925819614629175754992 F := by
  refine m_eR (by decide +kernel) ?_
  rw [f_FZ35]
  exact hp
theorem e_FZ36 {h : qH} {x : Nat → Int} {F : aF} (hp : p_FZ36 (m_ac (m_gh h) 36 0 96) (m_ep x F)) : a_Rc q_SP 557 h x 2417851639229258350461169 F := by
  refine m_eR (by decide +kernel) ?_
  rw [f_FZ36]
  exact hp
theorem e_WZ {h : qH} {x : Nat → Int} {F : aF} (hp : p_WZ (m_gh h 26 0) (m_gh h 26 1) (m_gh h 26 2) (m_gh h 26 3) (m_gh h 26 4) (m_gh h 26 5) (m_gh h 26 6) (m_gh h 25 3) (m_ac (m_gh h) 27 0 6) (m_ac (m_gh h) 28 0 4) (m_ac (m_gh h) 29 0 4) (m_ac (m_gh h) 32 0 96) (m_ac (m_gh h) 35 0 96) (m_ac (m_gh h) 36 0 96) (m_ac (m_gh h) 39 0 4) (m_ac (m_gh h) 40 0 4) (m_ep x F)) : a_Rc q_SP 557 h x 4685472994722227159279 F := by
  refine m_eR (by decide +kernel) ?_
  rw [f_WZ]
  exact hp
theorem e_WD {h : qH} {x : Nat → Int} {F : aF} (hp : p_WD (m_ac (m_gh h) 3 0 900) (m_gh h 2 7) (m_gh h 26 0) (m_gh h 26 1) (m_gh h 26 2) (m_gh h 26 3) (m_gh h 26 4) (m_gh h 26 5) (m_gh h 26 6) (m_gh h 25 3) (m_ac (m_gh h) 27 0 6) (m_ac (m_gh h) 28 0 4) (m_ac (m_gh h) 29 0 4) (m_ac (m_gh h) 32 0 96) (m_ac (m_gh h) 35 0 96) (m_ac (m_gh h) 36 0 96) (m_ac (m_gh h) 39 0 4) (m_ac (m_gh h) 40 0 4) (m_ep x F)) : a_Rc q_SP 557 h x 4699308052777509322990 F := by
  refine m_eR (by decide +kernel) ?_
  rw [f_WD]
  exact hp
theorem e_RSW {h : qH} {x : Nat → Int} {F : aF} (hp : p_RSW (m_ac (m_gh h) 3 0 900) (m_gh h 2 7) (m_ep x F)) : a_Rc q_SP 557 h x 13835058055283212594 F := by
  refine m_eR (by decide +kernel) ?_
  rw [f_RSW]
  exact hp
theorem e_CFR {h : qH} {x : Nat → Int} {F : aF} (hp : p_CFR (m_ac (m_gh h) 538 0 900) (m_gh h 534 9) (m_ac (m_gh h) 539 1440 360) (m_ac (m_gh h) 541 0 4) (m_ep x F)) : a_Rc q_SP 557 h x 4835703279760338467160314 F := by
  refine m_eR (by decide +kernel) ?_
  rw [f_CFR]
  exact hp
theorem e_RDR {h : qH} {x : Nat → Int} {F : aF} (hp : p_RDR (m_ac (m_gh h) 538 0 900) (m_gh h 534 9) (m_ac (m_gh h) 539 1440 360) (m_ac (m_gh h) 541 0 4) (m_ep x F)) : a_Rc q_SP 557 h x 4835703279760338467160315 F := by
  refine m_eR (by decide +kernel) ?_
  rw [f_RDR]
  exact hp
theorem e_CFP {h : qH} {x : Nat → Int} {F : aF} (hp : p_CFP (m_ac (m_gh h) 538 0 900) (m_gh h 534 9) (m_ac (m_gh h) 539 1440 360) (m_ac (m_gh h) 541 0 4) (m_ep x F)) : a_Rc q_SP 557 h x 4835703279760338467160316 F := by
  refine m_eR (by decide +kernel) ?_
  rw [f_CFP]
  exact hp
theorem e_RDP {h : qH} {x : Nat → Int} {F : aF} (hp : p_RDP (m_ac (m_gh h) 538 0 900) (m_gh h 534 9) (m_ac (m_gh h) 539 1440 360) (m_ac (m_gh h) 541 0 4) (m_ep x F)) : a_Rc q_SP 557 h x 4835703279760338467160317 F := by
  refine m_eR (by decide +kernel) ?_
  rw [f_RDP]
  exact hp
theorem e_CFAR {h : qH} {x : Nat → Int} {F : aF} (hp : p_CFAR (m_ac (m_gh h) 538 0 900) (m_gh h 534 9) (m_ac (m_gh h) 539 1440 360) (m_ac (m_gh h) 541 0 4) (m_ep x F)) : a_Rc q_SP 557 h x 4835703279760338467160318 F := by
  refine m_eR (by decide +kernel) ?_
  rw [f_CFAR]
  exact hp
theorem e_LER {h : qH} {x : Nat → Int} {F : aF} (hp : p_LER (m_ac (m_gh h) 538 0 900) (m_gh h 534 9) (m_ep x F)) : a_Rc q_SP 557 h x 4835703278493701071962277 F := by
  refine m_eR (by decide +kernel) ?_
  rw [f_LER]
  exact hp
theorem e_DGR {h : qH} {x : Nat → Int} {F : aF} (hp : p_DGR (m_ac (m_gh h) 538 0 900) (m_gh h 534 9) (m_ep x F)) : a_Rc q_SP 557 h x 4835703278493701071962278 F := by
  refine m_eR (by decide +kernel) ?_
  rw [f_DGR]
  exact hp
theorem e_WDR {h : qH} {x : Nat → Int} {F : aF} (hp : p_WDR (m_ac (m_gh h) 538 0 900) (m_gh h 534 9) (m_ep x F)) : a_Rc q_SP 557 h x 4835703278493701071962279 F := by
  refine m_eR (by decide +kernel) ?_
  rw [f_WDR]
  exact hp
theorem e_TKR {h : qH} {x : Nat → Int} {F : aF} (hp : p_TKR (m_ac (m_gh h) 538 0 900) (m_gh h 534 9) (m_gh h 534 14) (m_gh h 534 16) (m_gh h 534 17) (m_gh h 534 18) (m_ep x F)) : a_Rc q_SP 557 h x 14507109835410734469611688 F := by
  refine m_eR (by decide +kernel) ?_
  rw [f_TKR]
  exact hp
theorem e_CUR {h : qH} {x : Nat → Int} {F : aF} (hp : p_CUR (m_ac (m_gh h) 538 0 900) (m_gh h 534 9) (m_gh h 534 14) (m_gh h 534 15) (m_gh h 534 16) (m_gh h 534 17) (m_gh h 534 18) (m_ep x F)) : a_Rc q_SP 557 h x 14507109835410734469611689 F := by
  refine m_eR (by decide +kernel) ?_
  rw [f_CUR]
  exact hp
theorem e_DNR {h : qH} {x : Nat → Int} {F : aF} (hp : p_DNR (m_ac (m_gh h) 538 0 900) (m_gh h 534 9) (m_ac (m_gh h) 541 0 4) (m_ep x F)) : a_Rc q_SP 557 h x 4835703278634438560317704 F := by
  refine m_eR (by decide +kernel) ?_
  rw [f_DNR]
  exact hp
theorem e_WKR {h : qH} {x : Nat → Int} {F : aF} (hp : p_WKR (m_ac (m_gh h) 541 0 4) (m_ep x F)) : a_Rc q_SP 557 h x 140737489404169 F := by
  refine m_eR (by decide +kernel) ?_
  rw [f_WKR]
  exact hp
theorem e_PSN {h : qH} {x : Nat → Int} {F : aF} (hp : p_PSN (m_ac (m_gh h) 539 1440 360) (m_ep x F)) : a_Rc q_SP 557 h x 1125899907891466 F := by
  refine m_eR (by decide +kernel) ?_
  rw [f_PSN]
  exact hp
theorem e_NSN {h : qH} {x : Nat → Int} {F : aF} (hp : p_NSN (m_ac (m_gh h) 539 1440 360) (m_ep x F)) : a_Rc q_SP 557 h x 1125899907891467 F := by
  refine m_eR (by decide +kernel) ?_
  rw [f_NSN]
  exact hp
theorem e_LSR {h : qH} {x : Nat → Int} {F : aF} (hp : p_LSR (m_ac (m_gh h) 539 1440 360) (m_ep x F)) : a_Rc q_SP 557 h x 1125899907891468 F := by
  refine m_eR (by decide +kernel) ?_
  rw [f_LSR]
  exact hp
theorem e_LDN {h : qH} {x : Nat → Int} {F : aF} (hp : p_LDN (m_ac (m_gh h) 539 1440 360) (m_ep x F)) : a_Rc q_SP 557 h x 1125899907891481 F := by
  refine m_eR (by decide +kernel) ?_
  rw [f_LDN]
  exact hp
theorem e_DFR {h : qH} {x : Nat → Int} {F : aF} (hp : p_DFR (m_ac (m_gh h) 539 1440 360) (m_ep x F)) : a_Rc q_SP 557 h x 1125899907891469 F := by
  refine m_eR (by decide +kernel) ?_
  rw [f_DFR]
  exact hp
theorem e_ZR {h : qH} {x : Nat → Int} {F : aF} (hp : p_ZR (m_ac (m_gh h) 539 1440 360) (m_ep x F)) : a_Rc q_SP 557 h x 1125899907891470 F := by
  refine m_eR (by decide +kernel) ?_
  rw [f_ZR]
  exact hp
theorem e_LDC {h : qH} {x : Nat → Int} {F : aF} (hp : p_LDC (m_ac (m_gh h) 539 1440 360) (m_ep x F)) : a_Rc q_SP 557 h x 1125899907891483 F := by
  refine m_eR (by decide +kernel) ?_
  rw [f_LDC]
  exact hp
theorem e_CPW {h : qH} {x : Nat → Int} {F : aF} (hp : p_CPW (m_ac (m_gh h) 539 0 360) (m_ac (m_gh h) 539 1440 360) (m_ep x F)) : a_Rc q_SP 557 h x 19342813114959966703190280 F := by
  refine m_eR (by decide +kernel) ?_
  rw [f_CPW]
  exact hp
theorem e_DNW {h : qH} {x : Nat → Int} {F : aF} (hp : p_DNW (m_ac (m_gh h) 538 0 900) (m_gh h 534 9) (m_ac (m_gh h) 539 1440 360) (m_ac (m_gh h) 541 0 4) (m_ep x F)) : a_Rc q_SP 557 h x 4835703279760338467160346 F := by
  refine m_eR (by decide +kernel) ?_
  rw [f_DNW]
  exact hp
theorem e_TB3 {h : qH} {x : Nat → Int} {F : aF} (hp : p_TB3 (m_ac (m_gh h) 3 0 900) (m_ep x F)) : a_Rc q_SP 557 h x 4611686018428436780 F := by
  refine m_eR (by decide +kernel) ?_
  rw [f_TB3]
  exact hp
theorem e_AB3 {h : qH} {x : Nat → Int} {F : aF} (hp : p_AB3 (m_ac (m_gh h) 3 0 900) (m_ep x F)) : a_Rc q_SP 557 h x 4611686018428436781 F := by
  refine m_eR (by decide +kernel) ?_
  rw [f_AB3]
  exact hp
theorem e_TB8 {h : qH} {x : Nat → Int} {F : aF} (hp : p_TB8 (m_ac (m_gh h) 538 0 900) (m_ep x F)) : a_Rc q_SP 557 h x 35184373137712 F := by
  refine m_eR (by decide +kernel) ?_
  rw [f_TB8]
  exact hp
theorem e_AB8 {h : qH} {x : Nat → Int} {F : aF} (hp : p_AB8 (m_ac (m_gh h) 538 0 900) (m_ep x F)) : a_Rc q_SP 557 h x 35184373137713 F := by
  refine m_eR (by decide +kernel) ?_
  rw [f_AB8]
  exact hp
theorem e_SHR {h : qH} {x : Nat → Int} {F : aF} (hp : p_SHR  (m_ep x F)) : a_Rc q_SP 557 h x 1048878 F := by
  refine m_eR (by decide +kernel) ?_
  rw [f_SHR]
  exact hp
theorem e_CVB {h : qH} {x : Nat → Int} {F : aF} (hp : p_CVB  (m_ep x F)) : a_Rc q_SP 557 h x 1048879 F := by
  refine m_eR (by decide +kernel) ?_
  rw [f_CVB]
  exact hp
theorem e_TSX {h : qH} {x : Nat → Int} {F : aF} (hp : p_TSX (m_gh h 26 0) (m_gh h 26 1) (m_gh h 26 2) (m_ac (m_gh h) 35 0 96) (m_ac (m_gh h) 37 0 96) (m_ac (m_gh h) 38 0 96) (m_ep x F)) : a_Rc q_SP 557 h x 272008309413291564309938496 F := by
  refine m_eR (by decide +kernel) ?_
  rw [f_TSX]
  exact hp
theorem e_SETT {h : qH} {x : Nat → Int} {F : aF} (hp : p_SETT (m_gh h 26 0) (m_gh h 26 1) (m_gh h 26 2) (m_ac (m_gh h) 35 0 96) (m_ac (m_gh h) 37 0 96) (m_ac (m_gh h) 38 0 96) (m_ep x F)) : a_Rc q_SP 557 h x 272008309413291564309938499 F := by
  refine m_eR (by decide +kernel) ?_
  rw [f_SETT]
  exact hp
theorem e_CBW {h : qH} {x : Nat → Int} {F : aF} (hp : p_CBW (m_gh h 26 0) (m_ep x F)) : a_Rc q_SP 557 h x 38685626227668133591646532 F := by
  refine m_eR (by decide +kernel) ?_
  rw [f_CBW]
  exact hp
theorem e_CBT {h : qH} {x : Nat → Int} {F : aF} (hp : p_CBT (m_gh h 26 0) (m_ep x F)) : a_Rc q_SP 557 h x 38685626227668133591646533 F := by
  refine m_eR (by decide +kernel) ?_
  rw [f_CBT]
  exact hp
theorem e_BYX {h : qH} {x : Nat → Int} {F : aF} (hp : p_BYX (m_ac (m_gh h) 35 0 96) (m_ep x F)) : a_Rc q_SP 557 h x 1208925819614629175755078 F := by
  refine m_eR (by decide +kernel) ?_
  rw [f_BYX]
  exact hp
theorem e_SWT {h : qH} {x : Nat → Int} {F : aF} (hp : p_SWT (m_ac (m_gh h) 3 0 900) (m_gh h 2 7) (m_gh h 5 0) (m_gh h 5 2) (m_ac (m_gh h) 16 0 96) (m_ac (m_gh h) 17 0 96) (m_ep x F)) : a_Rc q_SP 557 h x 84489407695062261817148440921 F := by
  refine m_eR (by decide +kernel) ?_
  rw [f_SWT]
  exact hp
theorem e_TC0 {h : qH} {x : Nat → Int} {F : aF} (hp : p_TC0 (m_gh h 5 0) (m_gh h 5 2) (m_ac (m_gh h) 16 0 96) (m_ac (m_gh h) 17 0 96) (m_ac (m_gh h) 539 0 6) (m_ac (m_gh h) 539 7 42) (m_ep x F)) : a_Rc q_SP 557 h x 559858382766813229323129979226 F := by
  refine m_eR (by decide +kernel) ?_
  rw [f_TC0]
  exact hp
theorem e_TC1 {h : qH} {x : Nat → Int} {F : aF} (hp : p_TC1 (m_gh h 475 0) (m_gh h 475 2) (m_ac (m_gh h) 486 0 96) (m_ac (m_gh h) 487 0 96) (m_ac (m_gh h) 539 360 6) (m_ac (m_gh h) 539 367 42) (m_ep x F)) : a_Rc q_SP 557 h x 4447299591132728637575104823643 F := by
  refine m_eR (by decide +kernel) ?_
  rw [f_TC1]
  exact hp
theorem e_TC2 {h : qH} {x : Nat → Int} {F : aF} (hp : p_TC2 (m_gh h 495 0) (m_gh h 495 2) (m_ac (m_gh h) 506 0 96) (m_ac (m_gh h) 507 0 96) (m_ac (m_gh h) 539 720 6) (m_ac (m_gh h) 539 727 42) (m_ep x F)) : a_Rc q_SP 557 h x 35515261787058274706580975911260 F := by
  refine m_eR (by decide +kernel) ?_
  rw [f_TC2]
  exact hp
theorem e_TC3 {h : qH} {x : Nat → Int} {F : aF} (hp : p_TC3 (m_gh h 515 0) (m_gh h 515 2) (m_ac (m_gh h) 526 0 96) (m_ac (m_gh h) 527 0 96) (m_ac (m_gh h) 539 1080 6) (m_ac (m_gh h) 539 1087 42) (m_ep x F)) : a_Rc q_SP 557 h x 283995824412459088864608089276765 F := by
  refine m_eR (by decide +kernel) ?_
  rw [f_TC3]
  exact hp
theorem e_MK1 {h : qH} {x : Nat → Int} {F : aF} (hp : p_MK1 (m_gh h 5 0) (m_gh h 5 2) (m_ac (m_gh h) 16 0 96) (m_ac (m_gh h) 17 0 96) (m_gh h 475 0) (m_gh h 475 2) (m_ac (m_gh h) 486 0 96) (m_ac (m_gh h) 487 0 96) (m_ep x F)) : a_Rc q_SP 557 h x 728837198129267636846860435807 F := by
  refine m_eR (by decide +kernel) ?_
  rw [f_MK1]
  exact hp
theorem e_MK2 {h : qH} {x : Nat → Int} {F : aF} (hp : p_MK2 (m_gh h 5 0) (m_gh h 5 2) (m_ac (m_gh h) 16 0 96) (m_ac (m_gh h) 17 0 96) (m_gh h 495 0) (m_gh h 495 2) (m_ac (m_gh h) 506 0 96) (m_ac (m_gh h) 507 0 96) (m_ep x F)) : a_Rc q_SP 557 h x 5176136789261996274421964210528 F := by
  refine m_eR (by decide +kernel) ?_
  rw [f_MK2]
  exact hp
theorem e_MK3 {h : qH} {x : Nat → Int} {F : aF} (hp : p_MK3 (m_gh h 5 0) (m_gh h 5 2) (m_ac (m_gh h) 16 0 96) (m_ac (m_gh h) 17 0 96) (m_gh h 515 0) (m_gh h 515 2) (m_ac (m_gh h) 526 0 96) (m_ac (m_gh h) 527 0 96) (m_ep x F)) : a_Rc q_SP 557 h x 40691398576320270981002939072865 F := by
  refine m_eR (by decide +kernel) ?_
  rw [f_MK3]
  exact hp
theorem e_LC0 {h : qH} {x : Nat → Int} {F : aF} (hp : p_LC0 (m_ac (m_gh h) 539 0 360) (m_ep x F)) : a_Rc q_SP 557 h x 19342813113834066796347747 F := by
  refine m_eR (by decide +kernel) ?_
  rw [f_LC0]
  exact hp
theorem e_LC1 {h : qH} {x : Nat → Int} {F : aF} (hp : p_LC1 (m_ac (m_gh h) 539 360 360) (m_ep x F)) : a_Rc q_SP 557 h x 324518553658426726783156021625188 F := by
  refine m_eR (by decide +kernel) ?_
  rw [f_LC1]
  exact hp
theorem e_LC2 {h : qH} {x : Nat → Int} {F : aF} (hp : p_LC2 (m_ac (m_gh h) 539 720 360) (m_ep x F)) : a_Rc q_SP 557 h x 649037107316853453566312042201445 F := by
  refine m_eR (by decide +kernel) ?_
  rw [f_LC2]
  exact hp
theorem e_LC3 {h : qH} {x : Nat → Int} {F : aF} (hp : p_LC3 (m_ac (m_gh h) 539 1080 360) (m_ep x F)) : a_Rc q_SP 557 h x 1298074214633706907132624083353958 F := by
  refine m_eR (by decide +kernel) ?_
  rw [f_LC3]
  exact hp
theorem e_CB01 {h : qH} {x : Nat → Int} {F : aF} (hp : p_CB01 (m_ac (m_gh h) 539 0 360) (m_ac (m_gh h) 539 360 360) (m_ep x F)) : a_Rc q_SP 557 h x 324518573001239840617222816924007 F := by
  refine m_eR (by decide +kernel) ?_
  rw [f_CB01]
  exact hp
theorem e_CB02 {h : qH} {x : Nat → Int} {F : aF} (hp : p_CB02 (m_ac (m_gh h) 539 0 360) (m_ac (m_gh h) 539 720 360) (m_ep x F)) : a_Rc q_SP 557 h x 649037126659666567400378837500264 F := by
  refine m_eR (by decide +kernel) ?_
  rw [f_CB02]
  exact hp
theorem e_CB03 {h : qH} {x : Nat → Int} {F : aF} (hp : p_CB03 (m_ac (m_gh h) 539 0 360) (m_ac (m_gh h) 539 1080 360) (m_ep x F)) : a_Rc q_SP 557 h x 1298074233976520020966690878652777 F := by
  refine m_eR (by decide +kernel) ?_
  rw [f_CB03]
  exact hp
theorem e_CB10 {h : qH} {x : Nat → Int} {F : aF} (hp : p_CB10 (m_ac (m_gh h) 539 0 360) (m_ac (m_gh h) 539 360 360) (m_ep x F)) : a_Rc q_SP 557 h x 324518573001239840617222816924010 F := by
  refine m_eR (by decide +kernel) ?_
  rw [f_CB10]
  exact hp
theorem e_CB20 {h : qH} {x : Nat → Int} {F : aF} (hp : p_CB20 (m_ac (m_gh h) 539 0 360) (m_ac (m_gh h) 539 720 360) (m_ep x F)) : a_Rc q_SP 557 h x 649037126659666567400378837500267 F := by
  refine m_eR (by decide +kernel) ?_
  rw [f_CB20]
  exact hp
theorem e_CB30 {h : qH} {x : Nat → Int} {F : aF} (hp : p_CB30 (m_ac (m_gh h) 539 0 360) (m_ac (m_gh h) 539 1080 360) (m_ep x F)) : a_Rc q_SP 557 h x 1298074233976520020966690878652780 F := by
  refine m_eR (by decide +kernel) ?_
  rw [f_CB30]
  exact hp
theorem e_KPT {h : qH} {x : Nat → Int} {F : aF} (hp : p_KPT (m_ac (m_gh h) 540 0 147) (m_ac (m_gh h) 539 0 6) (m_ac (m_gh h) 539 7 42) (m_ep x F)) : a_Rc q_SP 557 h x 475368975085586307036241461614 F := by
  refine m_eR (by decide +kernel) ?_
  rw [f_KPT]
  exact hp
theorem e_LKP {h : qH} {x : Nat → Int} {F : aF} (hp : p_LKP (m_ac (m_gh h) 540 0 147) (m_ep x F)) : a_Rc q_SP 557 h x 281474977759599 F := by
  refine m_eR (by decide +kernel) ?_
  rw [f_LKP]
  exact hp
theorem e_TV {h : qH} {x : Nat → Int} {F : aF} (hp : p_TV (m_ac (m_gh h) 539 0 6) (m_ac (m_gh h) 539 7 42) (m_ep x F)) : a_Rc q_SP 557 h x 475368975085586025561264750962 F := by
  refine m_eR (by decide +kernel) ?_
  rw [f_TV]
  exact hp
theorem e_SWV {h : qH} {x : Nat → Int} {F : aF} (hp : p_SWV (m_ac (m_gh h) 539 0 6) (m_ac (m_gh h) 539 7 42) (m_ep x F)) : a_Rc q_SP 557 h x 475368975085586025561264750963 F := by
  refine m_eR (by decide +kernel) ?_
  rw [f_SWV]
  exact hp
theorem e_HL {h : qH} {x : Nat → Int} {F : aF} (hp : p_HL (m_ac (m_gh h) 539 0 6) (m_ac (m_gh h) 539 7 42) (m_ep x F)) : a_Rc q_SP 557 h x 475368975085586025561264750964 F := by
  refine m_eR (by decide +kernel) ?_
  rw [f_HL]
  exact hp
theorem e_NH {h : qH} {x : Nat → Int} {F : aF} (hp : p_NH (m_ac (m_gh h) 539 0 6) (m_ac (m_gh h) 539 7 42) (m_ep x F)) : a_Rc q_SP 557 h x 475368975085586025561264750965 F := by
  refine m_eR (by decide +kernel) ?_
  rw [f_NH]
  exact hp
theorem e_CA {h : qH} {x : Nat → Int} {F : aF} (hp : p_CA (m_ac (m_gh h) 542 0 96) (m_ac (m_gh h) 539 0 6) (m_ac (m_gh h) 539 7 42) (m_ep x F)) : a_Rc q_SP 557 h x 475368975085586025569854685558 F := by
  refine m_eR (by decide +kernel) ?_
  rw [f_CA]
  exact hp
theorem e_CFX {h : qH} {x : Nat → Int} {F : aF} (hp : p_CFX (m_ac (m_gh h) 542 0 96) (m_ac (m_gh h) 539 0 6) (m_ac (m_gh h) 539 7 42) (m_ep x F)) : a_Rc q_SP 557 h x 475368975085586025569854685559 F := by
  refine m_eR (by decide +kernel) ?_
  rw [f_CFX]
  exact hp
theorem e_CAT {h : qH} {x : Nat → Int} {F : aF} (hp : p_CAT (m_ac (m_gh h) 542 0 96) (m_ac (m_gh h) 539 0 6) (m_ac (m_gh h) 539 7 42) (m_ep x F)) : a_Rc q_SP 557 h x 475368975085586025569854685560 F := by
  refine m_eR (by decide +kernel) ?_
  rw [f_CAT]
  exact hp
theorem e_CFT {h : qH} {x : Nat → Int} {F : aF} (hp : p_CFT (m_ac (m_gh h) 542 0 96) (m_ac (m_gh h) 539 0 6) (m_ac (m_gh h) 539 7 42) (m_ep x F)) : a_Rc q_SP 557 h x 475368975085586025569854685561 F := by
  refine m_eR (by decide +kernel) ?_
  rw [f_CFT]
  exact hp
theorem e_LSA {h : qH} {x : Nat → Int} {F : aF} (hp : p_LSA (m_ac (m_gh h) 539 7 42) (m_ep x F)) : a_Rc q_SP 557 h x 475368975085586025561264750970 F := by
  refine m_eR (by decide +kernel) ?_
  rw [f_LSA]
  exact hp
theorem e_LSB {h : qH} {x : Nat → Int} {F : aF} (hp : p_LSB (m_ac (m_gh h) 539 7 42) (m_ep x F)) : a_Rc q_SP 557 h x 475368975085586025561264750971 F := by
  refine m_eR (by decide +kernel) ?_
  rw [f_LSB]
  exact hp
theorem e_MBY {h : qH} {x : Nat → Int} {F : aF} (hp : p_MBY (m_ac (m_gh h) 539 0 6) (m_ac (m_gh h) 539 7 42) (m_ep x F)) : a_Rc q_SP 557 h x 475368975085586025561264750972 F := by
  refine m_eR (by decide +kernel) ?_
  rw [f_MBY]
  exact hp
theorem e_HC {h : qH} {x : Nat → Int} {F : aF} (hp : p_HC (m_ac (m_gh h) 539 0 6) (m_ac (m_gh h) 539 7 42) (m_ep x F)) : a_Rc q_SP 557 h x 475368975085586025561264750977 F := by
  refine m_eR (by decide +kernel) ?_
  rw [f_HC]
  exact hp
theorem e_HCC {h : qH} {x : Nat → Int} {F : aF} (hp : p_HCC (m_ac (m_gh h) 539 0 6) (m_ac (m_gh h) 539 7 42) (m_ep x F)) : a_Rc q_SP 557 h x 475368975085586025561264750978 F := by
  refine m_eR (by decide +kernel) ?_
  rw [f_HCC]
  exact hp
theorem e_HAX {h : qH} {x : Nat → Int} {F : aF} (hp : p_HAX (m_ac (m_gh h) 539 0 6) (m_ac (m_gh h) 539 7 42) (m_ep x F)) : a_Rc q_SP 557 h x 475368975085586025561264750980 F := by
  refine m_eR (by decide +kernel) ?_
  rw [f_HAX]
  exact hp
theorem e_HAR {h : qH} {x : Nat → Int} {F : aF} (hp : p_HAR (m_ac (m_gh h) 539 0 6) (m_ac (m_gh h) 539 7 42) (m_ep x F)) : a_Rc q_SP 557 h x 475368975085586025561264750981 F := by
  refine m_eR (by decide +kernel) ?_
  rw [f_HAR]
  exact hp
theorem e_HAN {h : qH} {x : Nat → Int} {F : aF} (hp : p_HAN (m_ac (m_gh h) 539 0 6) (m_ac (m_gh h) 539 7 42) (m_ep x F)) : a_Rc q_SP 557 h x 475368975085586025561264750982 F := by
  refine m_eR (by decide +kernel) ?_
  rw [f_HAN]
  exact hp
theorem e_NXH {h : qH} {x : Nat → Int} {F : aF} (hp : p_NXH (m_ac (m_gh h) 539 0 6) (m_ac (m_gh h) 539 7 42) (m_ep x F)) : a_Rc q_SP 557 h x 475368975085586025561264750983 F := by
  refine m_eR (by decide +kernel) ?_
  rw [f_NXH]
  exact hp
theorem e_NXQ {h : qH} {x : Nat → Int} {F : aF} (hp : p_NXQ (m_ac (m_gh h) 539 0 6) (m_ac (m_gh h) 539 7 42) (m_ep x F)) : a_Rc q_SP 557 h x 475368975085586025561264750984 F := by
  refine m_eR (by decide +kernel) ?_
  rw [f_NXQ]
  exact hp
theorem e_NXN {h : qH} {x : Nat → Int} {F : aF} (hp : p_NXN (m_ac (m_gh h) 539 0 6) (m_ac (m_gh h) 539 7 42) (m_ep x F)) : a_Rc q_SP 557 h x 475368975085586025561264750985 F := by
  refine m_eR (by decide +kernel) ?_
  rw [f_NXN]
  exact hp
theorem e_GPX {h : qH} {x : Nat → Int} {F : aF} (hp : p_GPX (m_ac (m_gh h) 539 0 6) (m_ac (m_gh h) 539 7 42) (m_ep x F)) : a_Rc q_SP 557 h x 475368975085586025561264750986 F := by
  refine m_eR (by decide +kernel) ?_
  rw [f_GPX]
  exact hp
theorem e_GPC {h : qH} {x : Nat → Int} {F : aF} (hp : p_GPC (m_ac (m_gh h) 539 0 6) (m_ac (m_gh h) 539 7 42) (m_ep x F)) : a_Rc q_SP 557 h x 475368975085586025561264750987 F := by
  refine m_eR (by decide +kernel) ?_
  rw [f_GPC]
  exact hp
theorem e_SHF {h : qH} {x : Nat → Int} {F : aF} (hp : p_SHF (m_ac (m_gh h) 539 0 6) (m_ac (m_gh h) 539 7 42) (m_ep x F)) : a_Rc q_SP 557 h x 475368975085586025561264750988 F := by
  refine m_eR (by decide +kernel) ?_
  rw [f_SHF]
  exact hp
theorem e_SHC {h : qH} {x : Nat → Int} {F : aF} (hp : p_SHC (m_ac (m_gh h) 539 0 6) (m_ac (m_gh h) 539 7 42) (m_ep x F)) : a_Rc q_SP 557 h x 475368975085586025561264750989 F := by
  refine m_eR (by decide +kernel) ?_
  rw [f_SHC]
  exact hp
theorem e_SHL {h : qH} {x : Nat → Int} {F : aF} (hp : p_SHL (m_ac (m_gh h) 539 0 6) (m_ac (m_gh h) 539 7 42) (m_ep x F)) : a_Rc q_SP 557 h x 475368975085586025561264750990 F := by
  refine m_eR (by decide +kernel) ?_
  rw [f_SHL]
  exact hp
theorem e_SHN {h : qH} {x : Nat → Int} {F : aF} (hp : p_SHN (m_ac (m_gh h) 539 0 6) (m_ac (m_gh h) 539 7 42) (m_ep x F)) : a_Rc q_SP 557 h x 475368975085586025561264750991 F := by
  refine m_eR (by decide +kernel) ?_
  rw [f_SHN]
  exact hp
theorem e_ASX {h : qH} {x : Nat → Int} {F : aF} (hp : p_ASX (m_ac (m_gh h) 539 0 6) (m_ac (m_gh h) 539 7 42) (m_ep x F)) : a_Rc q_SP 557 h x 475368975085586025561264750992 F := by
  refine m_eR (by decide +kernel) ?_
  rw [f_ASX]
  exact hp
theorem e_ASR {h : qH} {x : Nat → Int} {F : aF} (hp : p_ASR (m_ac (m_gh h) 539 0 6) (m_ac (m_gh h) 539 7 42) (m_ep x F)) : a_Rc q_SP 557 h x 475368975085586025561264750993 F := by
  refine m_eR (by decide +kernel) ?_
  rw [f_ASR]
  exact hp
theorem e_ASN {h : qH} {x : Nat → Int} {F : aF} (hp : p_ASN (m_ac (m_gh h) 539 0 6) (m_ac (m_gh h) 539 7 42) (m_ep x F)) : a_Rc q_SP 557 h x 475368975085586025561264750994 F := by
  refine m_eR (by decide +kernel) ?_
  rw [f_ASN]
  exact hp
theorem e_YF {h : qH} {x : Nat → Int} {F : aF} (hp : p_YF (m_ac (m_gh h) 539 0 6) (m_ac (m_gh h) 539 7 42) (m_ep x F)) : a_Rc q_SP 557 h x 475368975085586025561264751042 F := by
  refine m_eR (by decide +kernel) ?_
  rw [f_YF]
  exact hp
theorem e_EAX {h : qH} {x : Nat → Int} {F : aF} (hp : p_EAX (m_ac (m_gh h) 539 0 6) (m_ac (m_gh h) 539 7 42) (m_ep x F)) : a_Rc q_SP 557 h x 475368975085586025561264751043 F := by
  refine m_eR (by decide +kernel) ?_
  rw [f_EAX]
  exact hp
theorem e_LAX {h : qH} {x : Nat → Int} {F : aF} (hp : p_LAX (m_ac (m_gh h) 539 0 6) (m_ac (m_gh h) 539 7 42) (m_ep x F)) : a_Rc q_SP 557 h x 475368975085586025561264751045 F := by
  refine m_eR (by decide +kernel) ?_
  rw [f_LAX]
  exact hp
theorem e_EAR {h : qH} {x : Nat → Int} {F : aF} (hp : p_EAR (m_ac (m_gh h) 539 0 6) (m_ac (m_gh h) 539 7 42) (m_ep x F)) : a_Rc q_SP 557 h x 475368975085586025561264751044 F := by
  refine m_eR (by decide +kernel) ?_
  rw [f_EAR]
  exact hp
theorem e_LAR {h : qH} {x : Nat → Int} {F : aF} (hp : p_LAR (m_ac (m_gh h) 539 0 6) (m_ac (m_gh h) 539 7 42) (m_ep x F)) : a_Rc q_SP 557 h x 475368975085586025561264751046 F := by
  refine m_eR (by decide +kernel) ?_
  rw [f_LAR]
  exact hp
theorem e_FNL {h : qH} {x : Nat → Int} {F : aF} (hp : p_FNL (m_ac (m_gh h) 539 0 6) (m_ac (m_gh h) 539 7 42) (m_ep x F)) : a_Rc q_SP 557 h x 475368975085586025561264751047 F := by
  refine m_eR (by decide +kernel) ?_
  rw [f_FNL]
  exact hp
theorem e_FNO {h : qH} {x : Nat → Int} {F : aF} (hp : p_FNO (m_ac (m_gh h) 539 0 6) (m_ac (m_gh h) 539 7 42) (m_ep x F)) : a_Rc q_SP 557 h x 475368975085586025561264751048 F := by
  refine m_eR (by decide +kernel) ?_
  rw [f_FNO]
  exact hp
theorem e_LOW {h : qH} {x : Nat → Int} {F : aF} (hp : p_LOW (m_ac (m_gh h) 539 0 6) (m_ac (m_gh h) 539 7 42) (m_ep x F)) : a_Rc q_SP 557 h x 475368975085586025561264751049 F := by
  refine m_eR (by decide +kernel) ?_
  rw [f_LOW]
  exact hp
theorem e_HIG {h : qH} {x : Nat → Int} {F : aF} (hp : p_HIG (m_ac (m_gh h) 539 0 6) (m_ac (m_gh h) 539 7 42) (m_ep x F)) : a_Rc q_SP 557 h x 475368975085586025561264751050 F := by
  refine m_eR (by decide +kernel) ?_
  rw [f_HIG]
  exact hp
theorem e_HFY {h : qH} {x : Nat → Int} {F : aF} (hp : p_HFY (m_ac (m_gh h) 539 0 6) (m_ac (m_gh h) 539 7 42) (m_ep x F)) : a_Rc q_SP 557 h x 475368975085586025561264751062 F := by
  refine m_eR (by decide +kernel) ?_
  rw [f_HFY]
  exact hp
theorem e_HFS {h : qH} {x : Nat → Int} {F : aF} (hp : p_HFS (m_ac (m_gh h) 539 0 6) (m_ac (m_gh h) 539 7 42) (m_ep x F)) : a_Rc q_SP 557 h x 475368975085586025561264751063 F := by
  refine m_eR (by decide +kernel) ?_
  rw [f_HFS]
  exact hp
theorem e_NHF {h : qH} {x : Nat → Int} {F : aF} (hp : p_NHF (m_ac (m_gh h) 539 0 6) (m_ac (m_gh h) 539 7 42) (m_ep x F)) : a_Rc q_SP 557 h x 475368975085586025561264751064 F := by
  refine m_eR (by decide +kernel) ?_
  rw [f_NHF]
  exact hp
theorem e_AGO {h : qH} {x : Nat → Int} {F : aF} (hp : p_AGO (m_ac (m_gh h) 539 0 6) (m_ac (m_gh h) 539 7 42) (m_ep x F)) : a_Rc q_SP 557 h x 475368975085586025561264751065 F := by
  refine m_eR (by decide +kernel) ?_
  rw [f_AGO]
  exact hp
theorem e_AGI {h : qH} {x : Nat → Int} {F : aF} (hp : p_AGI (m_ac (m_gh h) 539 0 6) (m_ac (m_gh h) 539 7 42) (m_ep x F)) : a_Rc q_SP 557 h x 475368975085586025561264751066 F := by
  refine m_eR (by decide +kernel) ?_
  rw [f_AGI]
  exact hp
theorem e_AGR {h : qH} {x : Nat → Int} {F : aF} (hp : p_AGR (m_ac (m_gh h) 539 0 6) (m_ac (m_gh h) 539 7 42) (m_ep x F)) : a_Rc q_SP 557 h x 475368975085586025561264751067 F := by
  refine m_eR (by decide +kernel) ?_
  rw [f_AGR]
  exact hp
theorem e_YX {h : qH} {x : Nat → Int} {F : aF} (hp : p_YX (m_ac (m_gh h) 539 0 6) (m_ac (m_gh h) 539 7 42) (m_ac (m_gh h) 554 0 8) (m_ep x F)) : a_Rc q_SP 557 h x 475368975085586025578444620252 F := by
  refine m_eR (by decide +kernel) ?_
  rw [f_YX]
  exact hp
theorem e_YXR {h : qH} {x : Nat → Int} {F : aF} (hp : p_YXR (m_ac (m_gh h) 539 0 6) (m_ac (m_gh h) 539 7 42) (m_ac (m_gh h) 554 0 8) (m_ep x F)) : a_Rc q_SP 557 h x 475368975085586025578444620253 F := by
  refine m_eR (by decide +kernel) ?_
  rw [f_YXR]
  exact hp
