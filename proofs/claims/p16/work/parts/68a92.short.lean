-- 68a92.short: what the rules use (printed by wip/p5/gen68.py)
theorem g_CA {h : qH} {x : Nat → Int} {a b : Nat} {F : aF} (hp : a_Rp q_SP 557 h x (475368975085586025569854685558, a, b, F)) : p_CA (m_ac (m_gh h) 542 0 96) (m_ac (m_gh h) 539 0 6) (m_ac (m_gh h) 539 7 42) (m_ep x F) := by
  have e := m_gR (by decide +kernel) hp
  rw [f_CA] at e
  exact e
theorem g_CFX {h : qH} {x : Nat → Int} {a b : Nat} {F : aF} (hp : a_Rp q_SP 557 h x (475368975085586025569854685559, a, b, F)) : p_CFX (m_ac (m_gh h) 542 0 96) (m_ac (m_gh h) 539 0 6) (m_ac (m_gh h) 539 7 42) (m_ep x F) := by
  have e := m_gR (by decide +kernel) hp
  rw [f_CFX] at e
  exact e
theorem g_CAT {h : qH} {x : Nat → Int} {a b : Nat} {F : aF} (hp : a_Rp q_SP 557 h x (475368975085586025569854685560, a, b, F)) : p_CAT (m_ac (m_gh h) 542 0 96) (m_ac (m_gh h) 539 0 6) (m_ac (m_gh h) 539 7 42) (m_ep x F) := by
  have e := m_gR (by decide +kernel) hp
  rw [f_CAT] at e
  exact e
theorem g_CFT {h : qH} {x : Nat → Int} {a b : Nat} {F : aF} (hp : a_Rp q_SP 557 h x (475368975085586025569854685561, a, b, F)) : p_CFT (m_ac (m_gh h) 542 0 96) (m_ac (m_gh h) 539 0 6) (m_ac (m_gh h) 539 7 42) (m_ep x F) := by
  have e := m_gR (by decide +kernel) hp
  rw [f_CFT] at e
  exact e
theorem g_LSA {h : qH} {x : Nat → Int} {a b : Nat} {F : aF} (hp : a_Rp q_SP 557 h x (475368975085586025561264750970, a, b, F)) : p_LSA (m_ac (m_gh h) 539 7 42) (m_ep x F) := by
  have e := m_gR (by decide +kernel) hp
  rw [f_LSA] at e
  exact e
theorem g_LSB {h : qH} {x : Nat → Int} {a b : Nat} {F : aF} (hp : a_Rp q_SP 557 h x (475368975085586025561264750971, a, b, F)) : p_LSB (m_ac (m_gh h) 539 7 42) (m_ep x F) := by
  have e := m_gR (by decide +kernel) hp
  rw [f_LSB] at e
  exact e
theorem g_MBY {h : qH} {x : Nat → Int} {a b : Nat} {F : aF} (hp : a_Rp q_SP 557 h x (475368975085586025561264750972, a, b, F)) : p_MBY (m_ac (m_gh h) 539 0 6) (m_ac (m_gh h) 539 7 42) (m_ep x F) := by
  have e := m_gR (by decide +kernel) hp
  rw [f_MBY] at e
  exact e
theorem g_HC {h : qH} {x : Nat → Int} {a b : Nat} {F : aF} (hp : a_Rp q_SP 557 h x (475368975085586025561264750977, a, b, F)) : p_HC (m_ac (m_gh h) 539 0 6) (m_ac (m_gh h) 539 7 42) (m_ep x F) := by
  have e := m_gR (by decide +kernel) hp
  rw [f_HC] at e
  exact e
theorem g_HCC {h : qH} {x : Nat → Int} {a b : Nat} {F : aF} (hp : a_Rp q_SP 557 h x (475368975085586025561264750978, a, b, F)) : p_HCC (m_ac (m_gh h) 539 0 6) (m_ac (m_gh h) 539 7 42) (m_ep x F) := by
  have e := m_gR (by decide +kernel) hp
  rw [f_HCC] at e
  exact e
theorem g_HAX {h : qH} {x : Nat → Int} {a b : Nat} {F : aF} (hp : a_Rp q_SP 557 h x (475368975085586025561264750980, a, b, F)) : p_HAX (m_ac (m_gh h) 539 0 6) (m_ac (m_gh h) 539 7 42) (m_ep x F) := by
  have e := m_gR (by decide +kernel) hp
  rw [f_HAX] at e
  exact e
theorem g_HAR {h : qH} {x : Nat → Int} {a b : Nat} {F : aF} (hp : a_Rp q_SP 557 h x (475368975085586025561264750981, a, b, F)) : p_HAR (m_ac (m_gh h) 539 0 6) (m_ac (m_gh h) 539 7 42) (m_ep x F) := by
  have e := m_gR (by decide +kernel) hp
  rw [f_HAR] at e
  exact e
theorem g_HAN {h : qH} {x : Nat → Int} {a b : Nat} {F : aF} (hp : a_Rp q_SP 557 h x (475368975085586025561264750982, a, b, F)) : p_HAN (m_ac (m_gh h) 539 0 6) (m_ac (m_gh h) 539 7 42) (m_ep x F) := by
  have e := m_gR (by decide +kernel) hp
  rw [f_HAN] at e
  exact e
theorem g_NXH {h : qH} {x : Nat → Int} {a b : Nat} {F : aF} (hp : a_Rp q_SP 557 h x (475368975085586025561264750983, a, b, F)) : p_NXH (m_ac (m_gh h) 539 0 6) (m_ac (m_gh h) 539 7 42) (m_ep x F) := by
  have e := m_gR (by decide +kernel) hp
  rw [f_NXH] at e
  exact e
theorem g_NXQ {h : qH} {x : Nat → Int} {a b : Nat} {F : aF} (hp : a_Rp q_SP 557 h x (475368975085586025561264750984, a, b, F)) : p_NXQ (m_ac (m_gh h) 539 0 6) (m_ac (m_gh h) 539 7 42) (m_ep x F) := by
  have e := m_gR (by decide +kernel) hp
  rw [f_NXQ] at e
  exact e
theorem g_NXN {h : qH} {x : Nat → Int} {a b : Nat} {F : aF} (hp : a_Rp q_SP 557 h x (475368975085586025561264750985, a, b, F)) : p_NXN (m_ac (m_gh h) 539 0 6) (m_ac (m_gh h) 539 7 42) (m_ep x F) := by
  have e := m_gR (by decide +kernel) hp
  rw [f_NXN] at e
  exact e
theorem g_GPX {h : qH} {x : Nat → Int} {a b : Nat} {F : aF} (hp : a_Rp q_SP 557 h x (475368975085586025561264750986, a, b, F)) : p_GPX (m_ac (m_gh h) 539 0 6) (m_ac (m_gh h) 539 7 42) (m_ep x F) := by
  have e := m_gR (by decide +kernel) hp
  rw [f_GPX] at e
  exact e
theorem g_GPC {h : qH} {x : Nat → Int} {a b : Nat} {F : aF} (hp : a_Rp q_SP 557 h x (475368975085586025561264750987, a, b, F)) : p_GPC (m_ac (m_gh h) 539 0 6) (m_ac (m_gh h) 539 7 42) (m_ep x F) := by
  have e := m_gR (by decide +kernel) hp
  rw [f_GPC] at e
  exact e
theorem g_SHF {h : qH} {x : Nat → Int} {a b : Nat} {F : aF} (hp : a_Rp q_SP 557 h x (475368975085586025561264750988, a, b, F)) : p_SHF (m_ac (m_gh h) 539 0 6) (m_ac (m_gh h) 539 7 42) (m_ep x F) := by
  have e := m_gR (by decide +kernel) hp
  rw [f_SHF] at e
  exact e
theorem g_SHC {h : qH} {x : Nat → Int} {a b : Nat} {F : aF} (hp : a_Rp q_SP 557 h x (475368975085586025561264750989, a, b, F)) : p_SHC (m_ac (m_gh h) 539 0 6) (m_ac (m_gh h) 539 7 42) (m_ep x F) := by
  have e := m_gR (by decide +kernel) hp
  rw [f_SHC] at e
  exact e
theorem g_SHL {h : qH} {x : Nat → Int} {a b : Nat} {F : aF} (hp : a_Rp q_SP 557 h x (475368975085586025561264750990, a, b, F)) : p_SHL (m_ac (m_gh h) 539 0 6) (m_ac (m_gh h) 539 7 42) (m_ep x F) := by
  have e := m_gR (by decide +kernel) hp
  rw [f_SHL] at e
  exact e
theorem g_SHN {h : qH} {x : Nat → Int} {a b : Nat} {F : aF} (hp : a_Rp q_SP 557 h x (475368975085586025561264750991, a, b, F)) : p_SHN (m_ac (m_gh h) 539 0 6) (m_ac (m_gh h) 539 7 42) (m_ep x F) := by
  have e := m_gR (by decide +kernel) hp
  rw [f_SHN] at e
  exact e
theorem g_ASX {h : qH} {x : Nat → Int} {a b : Nat} {F : aF} (hp : a_Rp q_SP 557 h x (475368975085586025561264750992, a, b, F)) : p_ASX (m_ac (m_gh h) 539 0 6) (m_ac (m_gh h) 539 7 42) (m_ep x F) := by
  have e := m_gR (by decide +kernel) hp
  rw [f_ASX] at e
  exact e
theorem g_ASR {h : qH} {x : Nat → Int} {a b : Nat} {F : aF} (hp : a_Rp q_SP 557 h x (475368975085586025561264750993, a, b, F)) : p_ASR (m_ac (m_gh h) 539 0 6) (m_ac (m_gh h) 539 7 42) (m_ep x F) := by
  have e := m_gR (by decide +kernel) hp
  rw [f_ASR] at e
  exact e
theorem g_ASN {h : qH} {x : Nat → Int} {a b : Nat} {F : aF} (hp : a_Rp q_SP 557 h x (475368975085586025561264750994, a, b, F)) : p_ASN (m_ac (m_gh h) 539 0 6) (m_ac (m_gh h) 539 7 42) (m_ep x F) := by
  have e := m_gR (by decide +kernel) hp
  rw [f_ASN] at e
  exact e
theorem g_KN18 {h : qH} {x : Nat → Int} {a b : Nat} {F : aF} (hp : a_Rp q_SP 557 h x (2596148429267413814265248165659028, a, b, F)) : p_KN18 (m_ac (m_gh h) 18 0 96) (m_ep x F) := by
  have e := m_gR (by decide +kernel) hp
  rw [f_KN18] at e
  exact e
theorem e_LD {h : qH} {x : Nat → Int} {F : aF} (hp : p_LD (m_ac (m_gh h) 539 33 8) (m_ep x F)) : a_Rc q_SP 557 h x 68157450 F := by
  refine m_eR (by decide +kernel) ?_
  rw [f_LD]
  exact hp
theorem e_FI {h : qH} {x : Nat → Int} {F : aF} (hp : p_FI (m_gh h 539 5) (m_ac (m_gh h) 539 33 8) (m_ep x F)) : a_Rc q_SP 557 h x 101711883 F := by
  refine m_eR (by decide +kernel) ?_
  rw [f_FI]
  exact hp
theorem e_YN {h : qH} {x : Nat → Int} {F : aF} (hp : p_YN (m_gh h 539 5) (m_ac (m_gh h) 539 33 8) (m_ep x F)) : a_Rc q_SP 557 h x 101711884 F := by
  refine m_eR (by decide +kernel) ?_
  rw [f_YN]
  exact hp
theorem e_AF {h : qH} {x : Nat → Int} {F : aF} (hp : p_AF (m_gh h 539 0) (m_ep x F)) : a_Rc q_SP 557 h x 34603022 F := by
  refine m_eR (by decide +kernel) ?_
  rw [f_AF]
  exact hp
theorem e_NT {h : qH} {x : Nat → Int} {F : aF} (hp : p_NT (m_ac (m_gh h) 539 49 96) (m_ep x F)) : a_Rc q_SP 557 h x 135266319 F := by
  refine m_eR (by decide +kernel) ?_
  rw [f_NT]
  exact hp
theorem e_SU {h : qH} {x : Nat → Int} {F : aF} (hp : p_SU (m_gh h 539 0) (m_ac (m_gh h) 539 49 96) (m_ep x F)) : a_Rc q_SP 557 h x 168820752 F := by
  refine m_eR (by decide +kernel) ?_
  rw [f_SU]
  exact hp
theorem e_SL {h : qH} {x : Nat → Int} {F : aF} (hp : p_SL (m_ac (m_gh h) 545 0 96) (m_ep x F)) : a_Rc q_SP 557 h x 2148532241 F := by
  refine m_eR (by decide +kernel) ?_
  rw [f_SL]
  exact hp
theorem e_ST {h : qH} {x : Nat → Int} {F : aF} (hp : p_ST (m_gh h 539 0) (m_ac (m_gh h) 545 0 96) (m_ep x F)) : a_Rc q_SP 557 h x 2182086674 F := by
  refine m_eR (by decide +kernel) ?_
  rw [f_ST]
  exact hp
theorem e_FO {h : qH} {x : Nat → Int} {F : aF} (hp : p_FO (m_ac (m_gh h) 543 0 1344) (m_ep x F)) : a_Rc q_SP 557 h x 537919507 F := by
  refine m_eR (by decide +kernel) ?_
  rw [f_FO]
  exact hp
theorem e_FT {h : qH} {x : Nat → Int} {F : aF} (hp : p_FT (m_ac (m_gh h) 544 0 1344) (m_ep x F)) : a_Rc q_SP 557 h x 1074790420 F := by
  refine m_eR (by decide +kernel) ?_
  rw [f_FT]
  exact hp
theorem e_ON {h : qH} {x : Nat → Int} {F : aF} (hp : p_ON (m_ac (m_gh h) 543 0 1344) (m_ac (m_gh h) 544 0 1344) (m_gh h 534 29) (m_ep x F)) : a_Rc q_SP 557 h x 1628438549 F := by
  refine m_eR (by decide +kernel) ?_
  rw [f_ON]
  exact hp
theorem e_PS {h : qH} {x : Nat → Int} {F : aF} (hp : p_PS (m_ac (m_gh h) 539 7 6) (m_ep x F)) : a_Rc q_SP 557 h x 34603030 F := by
  refine m_eR (by decide +kernel) ?_
  rw [f_PS]
  exact hp
theorem e_NS {h : qH} {x : Nat → Int} {F : aF} (hp : p_NS (m_gh h 539 2) (m_ac (m_gh h) 539 7 6) (m_ep x F)) : a_Rc q_SP 557 h x 34603031 F := by
  refine m_eR (by decide +kernel) ?_
  rw [f_NS]
  exact hp
theorem e_BM {h : qH} {x : Nat → Int} {F : aF} (hp : p_BM (m_gh h 539 0) (m_ac (m_gh h) 539 49 96) (m_ac (m_gh h) 545 0 96) (m_ac (m_gh h) 543 0 1344) (m_ep x F)) : a_Rc q_SP 557 h x 2853175320 F := by
  refine m_eR (by decide +kernel) ?_
  rw [f_BM]
  exact hp
theorem e_BE {h : qH} {x : Nat → Int} {F : aF} (hp : p_BE (m_gh h 539 0) (m_ac (m_gh h) 539 49 96) (m_ac (m_gh h) 545 0 96) (m_ac (m_gh h) 543 0 1344) (m_ep x F)) : a_Rc q_SP 557 h x 2853175321 F := by
  refine m_eR (by decide +kernel) ?_
  rw [f_BE]
  exact hp
theorem e_R0 {h : qH} {x : Nat → Int} {F : aF} (hp : p_R0 (m_gh h 539 0) (m_gh h 539 1) (m_ac (m_gh h) 539 49 96) (m_gh h 539 2) (m_ac (m_gh h) 539 7 6) (m_ac (m_gh h) 543 0 1344) (m_ac (m_gh h) 546 0 1344) (m_ep x F)) : a_Rc q_SP 557 h x 5000658970 F := by
  refine m_eR (by decide +kernel) ?_
  rw [f_R0]
  exact hp
theorem e_FA {h : qH} {x : Nat → Int} {F : aF} (hp : p_FA (m_gh h 539 0) (m_gh h 539 1) (m_ac (m_gh h) 539 49 96) (m_ac (m_gh h) 545 0 96) (m_gh h 539 2) (m_ac (m_gh h) 539 7 6) (m_ac (m_gh h) 543 0 1344) (m_ac (m_gh h) 546 0 1344) (m_ep x F)) : a_Rc q_SP 557 h x 7148142620 F := by
  refine m_eR (by decide +kernel) ?_
  rw [f_FA]
  exact hp
theorem e_FD {h : qH} {x : Nat → Int} {F : aF} (hp : p_FD (m_gh h 539 0) (m_gh h 539 1) (m_ac (m_gh h) 539 49 96) (m_ac (m_gh h) 545 0 96) (m_gh h 539 2) (m_ac (m_gh h) 539 7 6) (m_ac (m_gh h) 543 0 1344) (m_ac (m_gh h) 546 0 1344) (m_ep x F)) : a_Rc q_SP 557 h x 7148142622 F := by
  refine m_eR (by decide +kernel) ?_
  rw [f_FD]
  exact hp
theorem e_WT {h : qH} {x : Nat → Int} {F : aF} (hp : p_WT (m_ac (m_gh h) 546 0 1344) (m_ep x F)) : a_Rc q_SP 557 h x 4296015903 F := by
  refine m_eR (by decide +kernel) ?_
  rw [f_WT]
  exact hp
theorem e_BW {h : qH} {x : Nat → Int} {F : aF} (hp : p_BW (m_gh h 539 0) (m_ac (m_gh h) 539 49 96) (m_ac (m_gh h) 545 0 96) (m_ac (m_gh h) 543 0 1344) (m_ac (m_gh h) 546 0 1344) (m_ep x F)) : a_Rc q_SP 557 h x 7148142624 F := by
  refine m_eR (by decide +kernel) ?_
  rw [f_BW]
  exact hp
theorem e_WE {h : qH} {x : Nat → Int} {F : aF} (hp : p_WE (m_gh h 539 0) (m_ac (m_gh h) 539 49 96) (m_ac (m_gh h) 545 0 96) (m_ac (m_gh h) 543 0 1344) (m_ac (m_gh h) 546 0 1344) (m_ep x F)) : a_Rc q_SP 557 h x 7148142625 F := by
  refine m_eR (by decide +kernel) ?_
  rw [f_WE]
  exact hp
theorem e_AM {h : qH} {x : Nat → Int} {F : aF} (hp : p_AM (m_gh h 539 0) (m_ac (m_gh h) 539 49 96) (m_ac (m_gh h) 545 0 96) (m_gh h 539 2) (m_ac (m_gh h) 539 7 6) (m_ac (m_gh h) 544 0 1344) (m_ep x F)) : a_Rc q_SP 557 h x 3390046242 F := by
  refine m_eR (by decide +kernel) ?_
  rw [f_AM]
  exact hp
theorem e_AN {h : qH} {x : Nat → Int} {F : aF} (hp : p_AN (m_gh h 539 0) (m_ac (m_gh h) 539 49 96) (m_ac (m_gh h) 545 0 96) (m_gh h 539 2) (m_ac (m_gh h) 539 7 6) (m_ac (m_gh h) 544 0 1344) (m_ep x F)) : a_Rc q_SP 557 h x 3390046243 F := by
  refine m_eR (by decide +kernel) ?_
  rw [f_AN]
  exact hp
theorem e_AA {h : qH} {x : Nat → Int} {F : aF} (hp : p_AA (m_gh h 539 0) (m_ac (m_gh h) 539 49 96) (m_ac (m_gh h) 545 0 96) (m_gh h 539 2) (m_ac (m_gh h) 539 7 6) (m_ac (m_gh h) 544 0 1344) (m_ep x F)) : a_Rc q_SP 557 h x 3390046244 F := by
  refine m_eR (by decide +kernel) ?_
  rw [f_AA]
  exact hp
theorem e_AD {h : qH} {x : Nat → Int} {F : aF} (hp : p_AD (m_gh h 539 0) (m_ac (m_gh h) 539 49 96) (m_ac (m_gh h) 545 0 96) (m_gh h 539 2) (m_ac (m_gh h) 539 7 6) (m_ac (m_gh h) 544 0 1344) (m_ep x F)) : a_Rc q_SP 557 h x 3390046245 F := by
  refine m_eR (by decide +kernel) ?_
  rw [f_AD]
  exact hp
theorem e_LM {h : qH} {x : Nat → Int} {F : aF} (hp : p_LM (m_gh h 539 0) (m_gh h 539 2) (m_ac (m_gh h) 539 7 6) (m_ac (m_gh h) 543 0 1344) (m_ac (m_gh h) 544 0 1344) (m_ep x F)) : a_Rc q_SP 557 h x 1645215782 F := by
  refine m_eR (by decide +kernel) ?_
  rw [f_LM]
  exact hp
theorem e_M1 {h : qH} {x : Nat → Int} {F : aF} (hp : p_M1 (m_gh h 539 0) (m_gh h 539 1) (m_ac (m_gh h) 539 49 96) (m_ac (m_gh h) 545 0 96) (m_gh h 539 2) (m_ac (m_gh h) 539 7 6) (m_ac (m_gh h) 543 0 1344) (m_ac (m_gh h) 544 0 1344) (m_ac (m_gh h) 546 0 1344) (m_gh h 534 29) (m_ep x F)) : a_Rc q_SP 557 h x 8238661671 F := by
  refine m_eR (by decide +kernel) ?_
  rw [f_M1]
  exact hp
theorem e_NW {h : qH} {x : Nat → Int} {F : aF} (hp : p_NW (m_gh h 539 0) (m_gh h 539 2) (m_ac (m_gh h) 539 7 6) (m_ac (m_gh h) 543 0 1344) (m_ac (m_gh h) 546 0 1344) (m_gh h 534 29) (m_ep x F)) : a_Rc q_SP 557 h x 4883218472 F := by
  refine m_eR (by decide +kernel) ?_
  rw [f_NW]
  exact hp
theorem e_M2 {h : qH} {x : Nat → Int} {F : aF} (hp : p_M2 (m_gh h 539 0) (m_gh h 539 2) (m_ac (m_gh h) 539 7 6) (m_ac (m_gh h) 543 0 1344) (m_ac (m_gh h) 546 0 1344) (m_gh h 534 29) (m_ep x F)) : a_Rc q_SP 557 h x 4883218473 F := by
  refine m_eR (by decide +kernel) ?_
  rw [f_M2]
  exact hp
theorem e_NO {h : qH} {x : Nat → Int} {F : aF} (hp : p_NO (m_gh h 539 0) (m_gh h 539 2) (m_ac (m_gh h) 539 7 6) (m_ac (m_gh h) 543 0 1344) (m_ac (m_gh h) 544 0 1344) (m_gh h 534 29) (m_ep x F)) : a_Rc q_SP 557 h x 1661993002 F := by
  refine m_eR (by decide +kernel) ?_
  rw [f_NO]
  exact hp
theorem e_OP {h : qH} {x : Nat → Int} {F : aF} (hp : p_OP (m_gh h 539 0) (m_gh h 539 2) (m_ac (m_gh h) 539 7 6) (m_ac (m_gh h) 543 0 1344) (m_ac (m_gh h) 544 0 1344) (m_gh h 534 29) (m_ep x F)) : a_Rc q_SP 557 h x 1661993003 F := by
  refine m_eR (by decide +kernel) ?_
  rw [f_OP]
  exact hp
theorem e_NB {h : qH} {x : Nat → Int} {F : aF} (hp : p_NB (m_gh h 539 0) (m_ac (m_gh h) 545 0 96) (m_ac (m_gh h) 543 0 1344) (m_ac (m_gh h) 544 0 1344) (m_gh h 534 29) (m_ep x F)) : a_Rc q_SP 557 h x 3809476652 F := by
  refine m_eR (by decide +kernel) ?_
  rw [f_NB]
  exact hp
theorem e_OA {h : qH} {x : Nat → Int} {F : aF} (hp : p_OA (m_gh h 539 0) (m_ac (m_gh h) 543 0 1344) (m_ac (m_gh h) 544 0 1344) (m_gh h 534 29) (m_ep x F)) : a_Rc q_SP 557 h x 1661993005 F := by
  refine m_eR (by decide +kernel) ?_
  rw [f_OA]
  exact hp
theorem e_FP {h : qH} {x : Nat → Int} {F : aF} (hp : p_FP (m_ac (m_gh h) 543 0 1344) (m_ep x F)) : a_Rc q_SP 557 h x 537919534 F := by
  refine m_eR (by decide +kernel) ?_
  rw [f_FP]
  exact hp
theorem e_SV {h : qH} {x : Nat → Int} {F : aF} (hp : p_SV (m_gh h 539 0) (m_ac (m_gh h) 545 0 96) (m_ac (m_gh h) 543 0 1344) (m_ep x F)) : a_Rc q_SP 557 h x 2718957615 F := by
  refine m_eR (by decide +kernel) ?_
  rw [f_SV]
  exact hp
theorem e_RC {h : qH} {x : Nat → Int} {F : aF} (hp : p_RC (m_ac (m_gh h) 553 0 96) (m_ep x F)) : a_Rc q_SP 557 h x 1099512676400 F := by
  refine m_eR (by decide +kernel) ?_
  rw [f_RC]
  exact hp
theorem e_RD {h : qH} {x : Nat → Int} {F : aF} (hp : p_RD (m_ac (m_gh h) 553 0 96) (m_ep x F)) : a_Rc q_SP 557 h x 1099512676401 F := by
  refine m_eR (by decide +kernel) ?_
  rw [f_RD]
  exact hp
theorem e_XX {h : qH} {x : Nat → Int} {F : aF} (hp : p_XX  (m_ep x F)) : a_Rc q_SP 557 h x 1048626 F := by
  refine m_eR (by decide +kernel) ?_
  rw [f_XX]
  exact hp
theorem e_XO {h : qH} {x : Nat → Int} {F : aF} (hp : p_XO  (m_ep x F)) : a_Rc q_SP 557 h x 1048627 F := by
  refine m_eR (by decide +kernel) ?_
  rw [f_XO]
  exact hp
theorem e_PX {h : qH} {x : Nat → Int} {F : aF} (hp : p_PX (m_ac (m_gh h) 553 0 96) (m_ep x F)) : a_Rc q_SP 557 h x 1099512676404 F := by
  refine m_eR (by decide +kernel) ?_
  rw [f_PX]
  exact hp
theorem e_QQ {h : qH} {x : Nat → Int} {F : aF} (hp : p_QQ (m_gh h 539 0) (m_ac (m_gh h) 545 0 96) (m_gh h 539 2) (m_ac (m_gh h) 539 7 6) (m_ac (m_gh h) 543 0 1344) (m_ac (m_gh h) 544 0 1344) (m_gh h 534 29) (m_ep x F)) : a_Rc q_SP 557 h x 3809476661 F := by
  refine m_eR (by decide +kernel) ?_
  rw [f_QQ]
  exact hp
theorem e_TQ {h : qH} {x : Nat → Int} {F : aF} (hp : p_TQ (m_ac (m_gh h) 467 0 60) (m_ac (m_gh h) 469 0 60) (m_ac (m_gh h) 471 0 60) (m_ac (m_gh h) 473 0 60) (m_ac (m_gh h) 537 0 240) (m_ep x F)) : a_Rc q_SP 557 h x 4323473234462769252 F := by
  refine m_eR (by decide +kernel) ?_
  rw [f_TQ]
  exact hp
theorem e_XW {h : qH} {x : Nat → Int} {F : aF} (hp : p_XW  (m_ep x F)) : a_Rc q_SP 557 h x 1048677 F := by
  refine m_eR (by decide +kernel) ?_
  rw [f_XW]
  exact hp
theorem e_LI {h : qH} {x : Nat → Int} {F : aF} (hp : p_LI  (m_ep x F)) : a_Rc q_SP 557 h x 1048678 F := by
  refine m_eR (by decide +kernel) ?_
  rw [f_LI]
  exact hp
theorem e_CV0 {h : qH} {x : Nat → Int} {F : aF} (hp : p_CV0  (m_ep x F)) : a_Rc q_SP 557 h x 1048679 F := by
  refine m_eR (by decide +kernel) ?_
  rw [f_CV0]
  exact hp
theorem e_CV1 {h : qH} {x : Nat → Int} {F : aF} (hp : p_CV1  (m_ep x F)) : a_Rc q_SP 557 h x 1048680 F := by
  refine m_eR (by decide +kernel) ?_
  rw [f_CV1]
  exact hp
theorem e_CV2 {h : qH} {x : Nat → Int} {F : aF} (hp : p_CV2  (m_ep x F)) : a_Rc q_SP 557 h x 1048681 F := by
  refine m_eR (by decide +kernel) ?_
  rw [f_CV2]
  exact hp
theorem e_CR0 {h : qH} {x : Nat → Int} {F : aF} (hp : p_CR0  (m_ep x F)) : a_Rc q_SP 557 h x 1048682 F := by
  refine m_eR (by decide +kernel) ?_
  rw [f_CR0]
  exact hp
theorem e_CR1 {h : qH} {x : Nat → Int} {F : aF} (hp : p_CR1  (m_ep x F)) : a_Rc q_SP 557 h x 1048683 F := by
  refine m_eR (by decide +kernel) ?_
  rw [f_CR1]
  exact hp
theorem e_CR2 {h : qH} {x : Nat → Int} {F : aF} (hp : p_CR2  (m_ep x F)) : a_Rc q_SP 557 h x 1048684 F := by
  refine m_eR (by decide +kernel) ?_
  rw [f_CR2]
  exact hp
theorem e_TE0 {h : qH} {x : Nat → Int} {F : aF} (hp : p_TE0 (m_ac (m_gh h) 469 0 60) (m_ac (m_gh h) 471 0 60) (m_ac (m_gh h) 473 0 60) (m_ac (m_gh h) 537 0 240) (m_ep x F)) : a_Rc q_SP 557 h x 4035242858311057518 F := by
  refine m_eR (by decide +kernel) ?_
  rw [f_TE0]
  exact hp
theorem e_TZ0 {h : qH} {x : Nat → Int} {F : aF} (hp : p_TZ0 (m_ac (m_gh h) 467 0 60) (m_ep x F)) : a_Rc q_SP 557 h x 288230376152760434 F := by
  refine m_eR (by decide +kernel) ?_
  rw [f_TZ0]
  exact hp
theorem e_TM0 {h : qH} {x : Nat → Int} {F : aF} (hp : p_TM0 (m_ac (m_gh h) 537 0 240) (m_ep x F)) : a_Rc q_SP 557 h x 17592187093110 F := by
  refine m_eR (by decide +kernel) ?_
  rw [f_TM0]
  exact hp
theorem e_NV0 {h : qH} {x : Nat → Int} {F : aF} (hp : p_NV0 (m_ac (m_gh h) 467 0 60) (m_ep x F)) : a_Rc q_SP 557 h x 288230376152760446 F := by
  refine m_eR (by decide +kernel) ?_
  rw [f_NV0]
  exact hp
theorem e_TE1 {h : qH} {x : Nat → Int} {F : aF} (hp : p_TE1 (m_ac (m_gh h) 467 0 60) (m_ac (m_gh h) 471 0 60) (m_ac (m_gh h) 473 0 60) (m_ac (m_gh h) 537 0 240) (m_ep x F)) : a_Rc q_SP 557 h x 3747012482159345775 F := by
  refine m_eR (by decide +kernel) ?_
  rw [f_TE1]
  exact hp
theorem e_TZ1 {h : qH} {x : Nat → Int} {F : aF} (hp : p_TZ1 (m_ac (m_gh h) 469 0 60) (m_ep x F)) : a_Rc q_SP 557 h x 576460752304472179 F := by
  refine m_eR (by decide +kernel) ?_
  rw [f_TZ1]
  exact hp
theorem e_TM1 {h : qH} {x : Nat → Int} {F : aF} (hp : p_TM1 (m_ac (m_gh h) 537 0 240) (m_ep x F)) : a_Rc q_SP 557 h x 17592187093111 F := by
  refine m_eR (by decide +kernel) ?_
  rw [f_TM1]
  exact hp
theorem e_NV1 {h : qH} {x : Nat → Int} {F : aF} (hp : p_NV1 (m_ac (m_gh h) 469 0 60) (m_ep x F)) : a_Rc q_SP 557 h x 576460752304472191 F := by
  refine m_eR (by decide +kernel) ?_
  rw [f_NV1]
  exact hp
theorem e_TE2 {h : qH} {x : Nat → Int} {F : aF} (hp : p_TE2 (m_ac (m_gh h) 467 0 60) (m_ac (m_gh h) 469 0 60) (m_ac (m_gh h) 473 0 60) (m_ac (m_gh h) 537 0 240) (m_ep x F)) : a_Rc q_SP 557 h x 3170551729855922288 F := by
  refine m_eR (by decide +kernel) ?_
  rw [f_TE2]
  exact hp
theorem e_TZ2 {h : qH} {x : Nat → Int} {F : aF} (hp : p_TZ2 (m_ac (m_gh h) 471 0 60) (m_ep x F)) : a_Rc q_SP 557 h x 1152921504607895668 F := by
  refine m_eR (by decide +kernel) ?_
  rw [f_TZ2]
  exact hp
theorem e_TM2 {h : qH} {x : Nat → Int} {F : aF} (hp : p_TM2 (m_ac (m_gh h) 537 0 240) (m_ep x F)) : a_Rc q_SP 557 h x 17592187093112 F := by
  refine m_eR (by decide +kernel) ?_
  rw [f_TM2]
  exact hp
theorem e_NV2 {h : qH} {x : Nat → Int} {F : aF} (hp : p_NV2 (m_ac (m_gh h) 471 0 60) (m_ep x F)) : a_Rc q_SP 557 h x 1152921504607895680 F := by
  refine m_eR (by decide +kernel) ?_
  rw [f_NV2]
  exact hp
theorem e_TE3 {h : qH} {x : Nat → Int} {F : aF} (hp : p_TE3 (m_ac (m_gh h) 467 0 60) (m_ac (m_gh h) 469 0 60) (m_ac (m_gh h) 471 0 60) (m_ac (m_gh h) 537 0 240) (m_ep x F)) : a_Rc q_SP 557 h x 2017630225249075313 F := by
  refine m_eR (by decide +kernel) ?_
  rw [f_TE3]
  exact hp
theorem e_TZ3 {h : qH} {x : Nat → Int} {F : aF} (hp : p_TZ3 (m_ac (m_gh h) 473 0 60) (m_ep x F)) : a_Rc q_SP 557 h x 2305843009214742645 F := by
  refine m_eR (by decide +kernel) ?_
  rw [f_TZ3]
  exact hp
theorem e_TM3 {h : qH} {x : Nat → Int} {F : aF} (hp : p_TM3 (m_ac (m_gh h) 537 0 240) (m_ep x F)) : a_Rc q_SP 557 h x 17592187093113 F := by
  refine m_eR (by decide +kernel) ?_
  rw [f_TM3]
  exact hp
theorem e_NV3 {h : qH} {x : Nat → Int} {F : aF} (hp : p_NV3 (m_ac (m_gh h) 473 0 60) (m_ep x F)) : a_Rc q_SP 557 h x 2305843009214742657 F := by
  refine m_eR (by decide +kernel) ?_
  rw [f_NV3]
  exact hp
theorem e_NL {h : qH} {x : Nat → Int} {F : aF} (hp : p_NL (m_ac (m_gh h) 537 0 240) (m_ep x F)) : a_Rc q_SP 557 h x 17592187093125 F := by
  refine m_eR (by decide +kernel) ?_
  rw [f_NL]
  exact hp
theorem e_GA {h : qH} {x : Nat → Int} {F : aF} (hp : p_GA (m_ac (m_gh h) 467 0 60) (m_ac (m_gh h) 469 0 60) (m_ac (m_gh h) 471 0 60) (m_ac (m_gh h) 473 0 60) (m_ac (m_gh h) 537 0 240) (m_ep x F)) : a_Rc q_SP 557 h x 4323473234462769283 F := by
  refine m_eR (by decide +kernel) ?_
  rw [f_GA]
  exact hp
theorem e_GD {h : qH} {x : Nat → Int} {F : aF} (hp : p_GD (m_ac (m_gh h) 467 0 60) (m_ac (m_gh h) 469 0 60) (m_ac (m_gh h) 471 0 60) (m_ac (m_gh h) 473 0 60) (m_ac (m_gh h) 537 0 240) (m_ep x F)) : a_Rc q_SP 557 h x 4323473234462769284 F := by
  refine m_eR (by decide +kernel) ?_
  rw [f_GD]
  exact hp
theorem e_SK {h : qH} {x : Nat → Int} {F : aF} (hp : p_SK (m_ac (m_gh h) 3 0 900) (m_gh h 2 7) (m_ep x F)) : a_Rc q_SP 557 h x 13835058055283212429 F := by
  refine m_eR (by decide +kernel) ?_
  rw [f_SK]
  exact hp
theorem e_NX {h : qH} {x : Nat → Int} {F : aF} (hp : p_NX (m_ac (m_gh h) 3 0 900) (m_gh h 2 7) (m_ep x F)) : a_Rc q_SP 557 h x 13835058055283212430 F := by
  refine m_eR (by decide +kernel) ?_
  rw [f_NX]
  exact hp
theorem e_SKR {h : qH} {x : Nat → Int} {F : aF} (hp : p_SKR (m_ac (m_gh h) 538 0 900) (m_gh h 534 9) (m_ep x F)) : a_Rc q_SP 557 h x 4835703278493701071962275 F := by
  refine m_eR (by decide +kernel) ?_
  rw [f_SKR]
  exact hp
theorem e_NXR {h : qH} {x : Nat → Int} {F : aF} (hp : p_NXR (m_ac (m_gh h) 538 0 900) (m_gh h 534 9) (m_ep x F)) : a_Rc q_SP 557 h x 4835703278493701071962276 F := by
  refine m_eR (by decide +kernel) ?_
  rw [f_NXR]
  exact hp
theorem e_BY {h : qH} {x : Nat → Int} {F : aF} (hp : p_BY (m_ac (m_gh h) 3 0 900) (m_ep x F)) : a_Rc q_SP 557 h x 4611686018428436620 F := by
  refine m_eR (by decide +kernel) ?_
  rw [f_BY]
  exact hp
theorem e_BYB {h : qH} {x : Nat → Int} {F : aF} (hp : p_BYB (m_ac (m_gh h) 3 0 900) (m_ep x F)) : a_Rc q_SP 557 h x 4611686018428436702 F := by
  refine m_eR (by decide +kernel) ?_
  rw [f_BYB]
  exact hp
theorem e_BR {h : qH} {x : Nat → Int} {F : aF} (hp : p_BR (m_ac (m_gh h) 538 0 900) (m_ep x F)) : a_Rc q_SP 557 h x 35184373137568 F := by
  refine m_eR (by decide +kernel) ?_
  rw [f_BR]
  exact hp
theorem e_LK {h : qH} {x : Nat → Int} {F : aF} (hp : p_LK (m_ac (m_gh h) 538 0 900) (m_gh h 534 9) (m_ep x F)) : a_Rc q_SP 557 h x 4835703278493701071962273 F := by
  refine m_eR (by decide +kernel) ?_
  rw [f_LK]
  exact hp
theorem e_LKB {h : qH} {x : Nat → Int} {F : aF} (hp : p_LKB (m_ac (m_gh h) 538 0 900) (m_gh h 534 9) (m_ep x F)) : a_Rc q_SP 557 h x 4835703278493701071962274 F := by
  refine m_eR (by decide +kernel) ?_
  rw [f_LKB]
  exact hp
theorem e_LE {h : qH} {x : Nat → Int} {F : aF} (hp : p_LE (m_ac (m_gh h) 3 0 900) (m_gh h 2 7) (m_ep x F)) : a_Rc q_SP 557 h x 13835058055283212431 F := by
  refine m_eR (by decide +kernel) ?_
  rw [f_LE]
  exact hp
theorem e_DG {h : qH} {x : Nat → Int} {F : aF} (hp : p_DG (m_ac (m_gh h) 3 0 900) (m_gh h 2 7) (m_ep x F)) : a_Rc q_SP 557 h x 13835058055283212432 F := by
  refine m_eR (by decide +kernel) ?_
  rw [f_DG]
  exact hp
theorem e_TK {h : qH} {x : Nat → Int} {F : aF} (hp : p_TK (m_ac (m_gh h) 3 0 900) (m_gh h 2 4) (m_gh h 2 6) (m_gh h 2 7) (m_gh h 2 8) (m_ep x F)) : a_Rc q_SP 557 h x 23058430092137988241 F := by
  refine m_eR (by decide +kernel) ?_
  rw [f_TK]
  exact hp
theorem e_CU {h : qH} {x : Nat → Int} {F : aF} (hp : p_CU (m_ac (m_gh h) 3 0 900) (m_gh h 2 4) (m_gh h 2 5) (m_gh h 2 6) (m_gh h 2 7) (m_gh h 2 8) (m_ep x F)) : a_Rc q_SP 557 h x 23058430092137988242 F := by
  refine m_eR (by decide +kernel) ?_
  rw [f_CU]
  exact hp
theorem e_WM {h : qH} {x : Nat → Int} {F : aF} (hp : p_WM  (m_ep x F)) : a_Rc q_SP 557 h x 1048723 F := by
  refine m_eR (by decide +kernel) ?_
  rw [f_WM]
  exact hp
theorem e_WA {h : qH} {x : Nat → Int} {F : aF} (hp : p_WA  (m_ep x F)) : a_Rc q_SP 557 h x 1048724 F := by
  refine m_eR (by decide +kernel) ?_
  rw [f_WA]
  exact hp
theorem e_WS {h : qH} {x : Nat → Int} {F : aF} (hp : p_WS  (m_ep x F)) : a_Rc q_SP 557 h x 1048725 F := by
  refine m_eR (by decide +kernel) ?_
  rw [f_WS]
  exact hp
theorem e_CH {h : qH} {x : Nat → Int} {F : aF} (hp : p_CH  (m_ep x F)) : a_Rc q_SP 557 h x 1048756 F := by
  refine m_eR (by decide +kernel) ?_
  rw [f_CH]
  exact hp
theorem e_LC {h : qH} {x : Nat → Int} {F : aF} (hp : p_LC (m_ac (m_gh h) 3 0 900) (m_ep x F)) : a_Rc q_SP 557 h x 4611686018428436661 F := by
  refine m_eR (by decide +kernel) ?_
  rw [f_LC]
  exact hp
theorem e_WI {h : qH} {x : Nat → Int} {F : aF} (hp : p_WI (m_ac (m_gh h) 3 0 900) (m_gh h 2 7) (m_ep x F)) : a_Rc q_SP 557 h x 13835058055283212470 F := by
  refine m_eR (by decide +kernel) ?_
  rw [f_WI]
  exact hp
theorem e_NI {h : qH} {x : Nat → Int} {F : aF} (hp : p_NI (m_ac (m_gh h) 3 0 900) (m_gh h 2 7) (m_ep x F)) : a_Rc q_SP 557 h x 13835058055283212471 F := by
  refine m_eR (by decide +kernel) ?_
  rw [f_NI]
  exact hp
theorem e_HF {h : qH} {x : Nat → Int} {F : aF} (hp : p_HF (m_ac (m_gh h) 3 0 900) (m_gh h 2 7) (m_ep x F)) : a_Rc q_SP 557 h x 13835058055283212481 F := by
  refine m_eR (by decide +kernel) ?_
  rw [f_HF]
  exact hp
theorem e_NR {h : qH} {x : Nat → Int} {F : aF} (hp : p_NR (m_ac (m_gh h) 3 0 900) (m_gh h 2 7) (m_ep x F)) : a_Rc q_SP 557 h x 13835058055283212508 F := by
  refine m_eR (by decide +kernel) ?_
  rw [f_NR]
  exact hp
theorem e_XN {h : qH} {x : Nat → Int} {F : aF} (hp : p_XN (m_ac (m_gh h) 3 0 900) (m_gh h 2 7) (m_ep x F)) : a_Rc q_SP 557 h x 13835058055283212509 F := by
  refine m_eR (by decide +kernel) ?_
  rw [f_XN]
  exact hp
theorem e_WIR {h : qH} {x : Nat → Int} {F : aF} (hp : p_WIR (m_ac (m_gh h) 538 0 900) (m_gh h 534 9) (m_ep x F)) : a_Rc q_SP 557 h x 4835703278493701071962370 F := by
  refine m_eR (by decide +kernel) ?_
  rw [f_WIR]
  exact hp
theorem e_NIR {h : qH} {x : Nat → Int} {F : aF} (hp : p_NIR (m_ac (m_gh h) 538 0 900) (m_gh h 534 9) (m_ep x F)) : a_Rc q_SP 557 h x 4835703278493701071962371 F := by
  refine m_eR (by decide +kernel) ?_
  rw [f_NIR]
  exact hp
theorem e_HFR {h : qH} {x : Nat → Int} {F : aF} (hp : p_HFR (m_ac (m_gh h) 538 0 900) (m_gh h 534 9) (m_ep x F)) : a_Rc q_SP 557 h x 4835703278493701071962369 F := by
  refine m_eR (by decide +kernel) ?_
  rw [f_HFR]
  exact hp
theorem e_NRR {h : qH} {x : Nat → Int} {F : aF} (hp : p_NRR (m_ac (m_gh h) 538 0 900) (m_gh h 534 9) (m_ep x F)) : a_Rc q_SP 557 h x 4835703278493701071962374 F := by
  refine m_eR (by decide +kernel) ?_
  rw [f_NRR]
  exact hp
theorem e_XNR {h : qH} {x : Nat → Int} {F : aF} (hp : p_XNR (m_ac (m_gh h) 538 0 900) (m_gh h 534 9) (m_ep x F)) : a_Rc q_SP 557 h x 4835703278493701071962375 F := by
  refine m_eR (by decide +kernel) ?_
  rw [f_XNR]
  exact hp
theorem e_SI {h : qH} {x : Nat → Int} {F : aF} (hp : p_SI (m_ac (m_gh h) 3 0 900) (m_gh h 2 7) (m_ep x F)) : a_Rc q_SP 557 h x 13835058055283212484 F := by
  refine m_eR (by decide +kernel) ?_
  rw [f_SI]
  exact hp
theorem e_NSI {h : qH} {x : Nat → Int} {F : aF} (hp : p_NSI (m_ac (m_gh h) 3 0 900) (m_gh h 2 7) (m_ep x F)) : a_Rc q_SP 557 h x 13835058055283212485 F := by
  refine m_eR (by decide +kernel) ?_
  rw [f_NSI]
  exact hp
theorem e_SIR {h : qH} {x : Nat → Int} {F : aF} (hp : p_SIR (m_ac (m_gh h) 538 0 900) (m_gh h 534 9) (m_ep x F)) : a_Rc q_SP 557 h x 4835703278493701071962372 F := by
  refine m_eR (by decide +kernel) ?_
  rw [f_SIR]
  exact hp
theorem e_NSIR {h : qH} {x : Nat → Int} {F : aF} (hp : p_NSIR (m_ac (m_gh h) 538 0 900) (m_gh h 534 9) (m_ep x F)) : a_Rc q_SP 557 h x 4835703278493701071962373 F := by
  refine m_eR (by decide +kernel) ?_
  rw [f_NSIR]
  exact hp
theorem e_CF {h : qH} {x : Nat → Int} {F : aF} (hp : p_CF (m_ac (m_gh h) 3 0 900) (m_gh h 2 7) (m_gh h 26 0) (m_gh h 26 1) (m_gh h 26 2) (m_gh h 26 3) (m_gh h 26 4) (m_gh h 26 5) (m_gh h 26 6) (m_gh h 25 3) (m_ac (m_gh h) 27 0 6) (m_ac (m_gh h) 28 0 4) (m_ac (m_gh h) 29 0 4) (m_ac (m_gh h) 32 0 96) (m_ac (m_gh h) 35 0 96) (m_ac (m_gh h) 36 0 96) (m_ac (m_gh h) 39 0 4) (m_ac (m_gh h) 40 0 4) (m_ep x F)) : a_Rc q_SP 557 h x 4699308052777509322942 F := by
  refine m_eR (by decide +kernel) ?_
  rw [f_CF]
  exact hp
theorem e_RDX {h : qH} {x : Nat → Int} {F : aF} (hp : p_RDX (m_ac (m_gh h) 3 0 900) (m_gh h 2 7) (m_gh h 26 0) (m_gh h 26 1) (m_gh h 26 2) (m_gh h 26 3) (m_gh h 26 4) (m_gh h 26 5) (m_gh h 26 6) (m_gh h 25 3) (m_ac (m_gh h) 27 0 6) (m_ac (m_gh h) 28 0 4) (m_ac (m_gh h) 29 0 4) (m_ac (m_gh h) 32 0 96) (m_ac (m_gh h) 35 0 96) (m_ac (m_gh h) 36 0 96) (m_ac (m_gh h) 39 0 4) (m_ac (m_gh h) 40 0 4) (m_ep x F)) : a_Rc q_SP 557 h x 4699308052777509322944 F := by
  refine m_eR (by decide +kernel) ?_
  rw [f_RDX]
  exact hp
theorem e_CG {h : qH} {x : Nat → Int} {F : aF} (hp : p_CG (m_ac (m_gh h) 3 0 900) (m_gh h 2 7) (m_gh h 26 2) (m_gh h 26 3) (m_gh h 26 4) (m_gh h 26 5) (m_gh h 26 6) (m_gh h 25 3) (m_ac (m_gh h) 27 0 6) (m_ac (m_gh h) 28 0 4) (m_ac (m_gh h) 29 0 4) (m_ac (m_gh h) 32 0 96) (m_ac (m_gh h) 35 0 96) (m_ac (m_gh h) 36 0 96) (m_ac (m_gh h) 39 0 4) (m_ac (m_gh h) 40 0 4) (m_ep x F)) : a_Rc q_SP 557 h x 9384781047499735433410 F := by
  refine m_eR (by decide +kernel) ?_
  rw [f_CG]
  exact hp
theorem e_CFA {h : qH} {x : Nat → Int} {F : aF} (hp : p_CFA (m_ac (m_gh h) 3 0 900) (m_gh h 2 7) (m_gh h 26 0) (m_gh h 26 1) (m_gh h 26 2) (m_gh h 26 3) (m_gh h 26 4) (m_gh h 26 5) (m_gh h 26 6) (m_gh h 25 3) (m_ac (m_gh h) 27 0 6) (m_ac (m_gh h) 28 0 4) (m_ac (m_gh h) 29 0 4) (m_ac (m_gh h) 32 0 96) (m_ac (m_gh h) 35 0 96) (m_ac (m_gh h) 36 0 96) (m_ac (m_gh h) 39 0 4) (m_ac (m_gh h) 40 0 4) (m_ep x F)) : a_Rc q_SP 557 h x 4699308052777509322943 F := by
  refine m_eR (by decide +kernel) ?_
  rw [f_CFA]
  exact hp
theorem e_CC2 {h : qH} {x : Nat → Int} {F : aF} (hp : p_CC2 (m_ac (m_gh h) 3 0 900) (m_gh h 2 7) (m_gh h 26 0) (m_gh h 26 1) (m_gh h 26 2) (m_gh h 26 3) (m_gh h 26 4) (m_gh h 26 5) (m_gh h 26 6) (m_gh h 25 3) (m_ac (m_gh h) 27 0 6) (m_ac (m_gh h) 28 0 4) (m_ac (m_gh h) 29 0 4) (m_ac (m_gh h) 32 0 96) (m_ac (m_gh h) 35 0 96) (m_ac (m_gh h) 36 0 96) (m_ac (m_gh h) 39 0 4) (m_ac (m_gh h) 40 0 4) (m_ep x F)) : a_Rc q_SP 557 h x 4699308052777509322953 F := by
  refine m_eR (by decide +kernel) ?_
  rw [f_CC2]
  exact hp
theorem e_CCN {h : qH} {x : Nat → Int} {F : aF} (hp : p_CCN (m_ac (m_gh h) 3 0 900) (m_gh h 2 7) (m_gh h 26 0) (m_gh h 26 1) (m_gh h 26 4) (m_gh h 26 5) (m_gh h 26 6) (m_gh h 25 3) (m_ac (m_gh h) 27 0 6) (m_ac (m_gh h) 28 0 4) (m_ac (m_gh h) 29 0 4) (m_ac (m_gh h) 32 0 96) (m_ac (m_gh h) 35 0 96) (m_ac (m_gh h) 36 0 96) (m_ac (m_gh h) 39 0 4) (m_ac (m_gh h) 40 0 4) (m_ep x F)) : a_Rc q_SP 557 h x 32996613461847961501898 F := by
  refine m_eR (by decide +kernel) ?_
  rw [f_CCN]
  exact hp
theorem e_CMN {h : qH} {x : Nat → Int} {F : aF} (hp : p_CMN (m_ac (m_gh h) 3 0 900) (m_gh h 2 7) (m_gh h 26 0) (m_gh h 26 1) (m_gh h 26 2) (m_gh h 26 3) (m_gh h 26 5) (m_gh h 26 6) (m_gh h 25 3) (m_ac (m_gh h) 27 0 6) (m_ac (m_gh h) 28 0 4) (m_ac (m_gh h) 29 0 4) (m_ac (m_gh h) 32 0 96) (m_ac (m_gh h) 35 0 96) (m_ac (m_gh h) 36 0 96) (m_ac (m_gh h) 39 0 4) (m_ac (m_gh h) 40 0 4) (m_ep x F)) : a_Rc q_SP 557 h x 136888676084980156203213 F := by
  refine m_eR (by decide +kernel) ?_
  rw [f_CMN]
  exact hp
theorem e_CSN {h : qH} {x : Nat → Int} {F : aF} (hp : p_CSN (m_ac (m_gh h) 3 0 900) (m_gh h 2 7) (m_gh h 26 0) (m_gh h 26 1) (m_gh h 26 2) (m_gh h 26 3) (m_gh h 26 4) (m_gh h 26 6) (m_ac (m_gh h) 27 0 6) (m_ac (m_gh h) 28 0 4) (m_ac (m_gh h) 29 0 4) (m_ac (m_gh h) 32 0 96) (m_ac (m_gh h) 35 0 96) (m_ac (m_gh h) 36 0 96) (m_ac (m_gh h) 39 0 4) (m_ac (m_gh h) 40 0 4) (m_ep x F)) : a_Rc q_SP 557 h x 776769334513817082659023 F := by
  refine m_eR (by decide +kernel) ?_
  rw [f_CSN]
  exact hp
theorem e_CSM {h : qH} {x : Nat → Int} {F : aF} (hp : p_CSM (m_ac (m_gh h) 3 0 900) (m_gh h 2 7) (m_gh h 26 0) (m_gh h 26 1) (m_gh h 26 2) (m_gh h 26 3) (m_gh h 26 4) (m_gh h 26 5) (m_gh h 26 6) (m_ac (m_gh h) 27 0 6) (m_ac (m_gh h) 28 0 4) (m_ac (m_gh h) 29 0 4) (m_ac (m_gh h) 32 0 96) (m_ac (m_gh h) 35 0 96) (m_ac (m_gh h) 36 0 96) (m_ac (m_gh h) 39 0 4) (m_ac (m_gh h) 40 0 4) (m_ep x F)) : a_Rc q_SP 557 h x 2338124811342686716112 F := by
  refine m_eR (by decide +kernel) ?_
  rw [f_CSM]
  exact hp
theorem e_CDN {h : qH} {x : Nat → Int} {F : aF} (hp : p_CDN (m_ac (m_gh h) 3 0 900) (m_gh h 2 7) (m_gh h 26 0) (m_gh h 26 1) (m_gh h 26 2) (m_gh h 26 3) (m_gh h 26 4) (m_gh h 26 5) (m_gh h 25 3) (m_ac (m_gh h) 27 0 6) (m_ac (m_gh h) 28 0 4) (m_ac (m_gh h) 29 0 4) (m_ac (m_gh h) 32 0 96) (m_ac (m_gh h) 35 0 96) (m_ac (m_gh h) 36 0 96) (m_ac (m_gh h) 39 0 4) (m_ac (m_gh h) 40 0 4) (m_ep x F)) : a_Rc q_SP 557 h x 325783335399765964751058 F := by
  refine m_eR (by decide +kernel) ?_
  rw [f_CDN]
  exact hp
theorem e_CNA {h : qH} {x : Nat → Int} {F : aF} (hp : p_CNA (m_ac (m_gh h) 3 0 900) (m_gh h 2 7) (m_gh h 26 0) (m_gh h 26 1) (m_gh h 26 2) (m_gh h 26 3) (m_gh h 26 4) (m_gh h 26 5) (m_gh h 26 6) (m_gh h 25 3) (m_ac (m_gh h) 27 0 6) (m_ac (m_gh h) 28 0 4) (m_ac (m_gh h) 29 0 4) (m_ac (m_gh h) 32 0 96) (m_ac (m_gh h) 35 0 96) (m_ac (m_gh h) 36 0 96) (m_ac (m_gh h) 39 0 4) (m_ac (m_gh h) 40 0 4) (m_ep x F)) : a_Rc q_SP 557 h x 4699308052777509322981 F := by
  refine m_eR (by decide +kernel) ?_
  rw [f_CNA]
  exact hp
theorem e_FR {h : qH} {x : Nat → Int} {F : aF} (hp : p_FR (m_ac (m_gh h) 36 0 96) (m_ep x F)) : a_Rc q_SP 557 h x 590295810358706700503 F := by
  refine m_eR (by decide +kernel) ?_
  rw [f_FR]
  exact hp
theorem e_SM {h : qH} {x : Nat → Int} {F : aF} (hp : p_SM (m_ac (m_gh h) 3 0 900) (m_ep x F)) : a_Rc q_SP 557 h x 4611686018428436703 F := by
  refine m_eR (by decide +kernel) ?_
  rw [f_SM]
  exact hp
theorem e_SMT {h : qH} {x : Nat → Int} {F : aF} (hp : p_SMT (m_ac (m_gh h) 3 0 900) (m_ep x F)) : a_Rc q_SP 557 h x 4611686018428436704 F := by
  refine m_eR (by decide +kernel) ?_
  rw [f_SMT]
  exact hp
theorem e_NSM {h : qH} {x : Nat → Int} {F : aF} (hp : p_NSM (m_ac (m_gh h) 3 0 900) (m_ep x F)) : a_Rc q_SP 557 h x 4611686018428436705 F := by
  refine m_eR (by decide +kernel) ?_
  rw [f_NSM]
  exact hp
theorem e_NLR {h : qH} {x : Nat → Int} {F : aF} (hp : p_NLR (m_ac (m_gh h) 40 0 4) (m_ep x F)) : a_Rc q_SP 557 h x 1180591620717412352226 F := by
  refine m_eR (by decide +kernel) ?_
  rw [f_NLR]
  exact hp
theorem e_NSR {h : qH} {x : Nat → Int} {F : aF} (hp : p_NSR (m_ac (m_gh h) 39 0 4) (m_ep x F)) : a_Rc q_SP 557 h x 1180591620717412352227 F := by
  refine m_eR (by decide +kernel) ?_
  rw [f_NSR]
  exact hp
theorem e_DN {h : qH} {x : Nat → Int} {F : aF} (hp : p_DN (m_ac (m_gh h) 3 0 900) (m_gh h 2 7) (m_ac (m_gh h) 39 0 4) (m_ac (m_gh h) 40 0 4) (m_ep x F)) : a_Rc q_SP 557 h x 1194426678772694515940 F := by
  refine m_eR (by decide +kernel) ?_
  rw [f_DN]
  exact hp
theorem e_FZ35 {h : qH} {x : Nat → Int} {F : aF} (hp : p_FZ35 (m_ac (m_gh h) 35 0 96) (m_ep x F)) : a_Rc q_SP 557 h x 1208925819614629175754992 F := by
  refine m_eR (by decide +kernel) ?_
  rw [f_FZ35]
  exact hp
theorem e_FZ36 {h : qH} {x : Nat → Int} {F : aF} (hp : p_FZ36 (m_ac (m_gh h) 36 0 96) (m_ep x F)) : a_Rc q_SP 557 h x 2417851639229258350461169 F := by
  refine m_eR (by decide +kernel) ?_
  rw [f_FZ36]
  exact hp
theorem e_WZ {h : qH} {x : Nat → Int} {F : aF} (hp : p_WZ (m_gh h 26 0) (m_gh h 26 1) (m_gh h 26 2) (m_gh h 26 3) (m_gh h 26 4) (m_gh h 26 5) (m_gh h 26 6) (m_gh h 25 3) (m_ac (m_gh h) 27 0 6) (m_ac (m_gh h) 28 0 4) (m_ac (m_gh h) 29 0 4) (m_ac (m_gh h) 32 0 96) (m_ac (m_gh h) 35 0 96) (m_ac (m_gh h) 36 0 96) (m_ac (m_gh h) 39 0 4) (m_ac (m_gh h) 40 0 4) (m_ep x F)) : a_Rc q_SP 557 h x 4685472994722227159279 F := by
  refine m_eR (by decide +kernel) ?_
  rw [f_WZ]
  exact hp
theorem e_WD {h : qH} {x : Nat → Int} {F : aF} (hp : p_WD (m_ac (m_gh h) 3 0 900) (m_gh h 2 7) (m_gh h 26 0) (m_gh h 26 1) (m_gh h 26 2) (m_gh h 26 3) (m_gh h 26 4) (m_gh h 26 5) (m_gh h 26 6) (m_gh h 25 3) (m_ac (m_gh h) 27 0 6) (m_ac (m_gh h) 28 0 4) (m_ac (m_gh h) 29 0 4) (m_ac (m_gh h) 32 0 96) (m_ac (m_gh h) 35 0 96) (m_ac (m_gh h) 36 0 96) (m_ac (m_gh h) 39 0 4) (m_ac (m_gh h) 40 0 4) (m_ep x F)) : a_Rc q_SP 557 h x 4699308052777509322990 F := by
  refine m_eR (by decide +kernel) ?_
  rw [f_WD]
  exact hp
theorem e_RSW {h : qH} {x : Nat → Int} {F : aF} (hp : p_RSW (m_ac (m_gh h) 3 0 900) (m_gh h 2 7) (m_ep x F)) : a_Rc q_SP 557 h x 13835058055283212594 F := by
  refine m_eR (by decide +kernel) ?_
  rw [f_RSW]
  exact hp
theorem e_CFR {h : qH} {x : Nat → Int} {F : aF} (hp : p_CFR (m_ac (m_gh h) 538 0 900) (m_gh h 534 9) (m_ac (m_gh h) 539 1440 360) (m_ac (m_gh h) 541 0 4) (m_ep x F)) : a_Rc q_SP 557 h x 4835703279760338467160314 F := by
  refine m_eR (by decide +kernel) ?_
  rw [f_CFR]
  exact hp
