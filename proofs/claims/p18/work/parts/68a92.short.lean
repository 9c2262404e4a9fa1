-- 68a92.short: what the rules use (printed by wip/p5/gen68.py)
theorem g_NH {h : qH} {x : Nat → Int} {a b : Nat} {F : aF} (hp : a_Rp q_SP 557 h x (475368975085586025561264750965, a, b, F)) : p_NH (m_ac (m_gh h) 539 0 6) (m_ac (m_gh h) 539 7 42) (m_ep x F) := by
  have e := m_gR (by decide +kernel) hp
  rw [f_NH] at e
  exact e
theorem g_CA {h : qH} {x : Nat → Int} {a b : Nat} {F : aF} (hp : a_Rp q_SP 557 h x (475368975085586025569854685558, a, b, F)) : p_CA (m_ac (m_gh h) 542 0 96) (m_ac (m_gh h) 539 0 6) (m_ac (m_gh h) 539 7 42) (m_ep x F) := by
  have e := m_gR (by decide +kernel) hp
  rw [f_CA] at e
  exact e
theorem g_CFX {h : qH} {x : Nat → Int} {a b : Nat} {F : aF} (hp : a_Rp q_SP 557 h x (475368975085586025569854685559, a, b, F)) : p_CFX (m_ac (m_gh h) 542 0 96) (m_ac (m_gh h) 539 0 6) (m_ac (m_gh h) 539 7 42) (m_ep x F) := by
  have e := m_gR (by decide +kernel) hp
  rw [f_CFX] at e
  exact e
theorem g_CAT {h : qH} {x : Nat → Int} {a b : Nat} {F : aF} (hp : a_Rp q_SP 557 h x (475368975085586025569854685560, a, b, F)) : p_CAT (m_ac (m_gh h) 542 0 96) (m_ac (m_gh h) 539 0 6) (m_ac (m_gh h) 539 7 42) (m_ep x F) := by
  have e := m_gR (by decide +kernel) hp
  rw [f_CAT] at e
  exact e
theorem g_CFT {h : qH} {x : Nat → Int} {a b : Nat} {F : aF} (hp : a_Rp q_SP 557 h x (475368975085586025569854685561, a, b, F)) : p_CFT (m_ac (m_gh h) 542 0 96) (m_ac (m_gh h) 539 0 6) (m_ac (m_gh h) 539 7 42) (m_ep x F) := by
  have e := m_gR (by decide +kernel) hp
  rw [f_CFT] at e
  exact e
theorem g_LSA {h : qH} {x : Nat → Int} {a b : Nat} {F : aF} (hp : a_Rp q_SP 557 h x (475368975085586025561264750970, a, b, F)) : p_LSA (m_ac (m_gh h) 539 7 42) (m_ep x F) := by
  have e := m_gR (by decide +kernel) hp
  rw [f_LSA] at e
  exact e
theorem g_LSB {h : qH} {x : Nat → Int} {a b : Nat} {F : aF} (hp : a_Rp q_SP 557 h x (475368975085586025561264750971, a, b, F)) : p_LSB (m_ac (m_gh h) 539 7 42) (m_ep x F) := by
  have e := m_gR (by decide +kernel) hp
  rw [f_LSB] at e
  exact e
theorem g_MBY {h : qH} {x : Nat → Int} {a b : Nat} {F : aF} (hp : a_Rp q_SP 557 h x (475368975085586025561264750972, a, b, F)) : p_MBY (m_ac (m_gh h) 539 0 6) (m_ac (m_gh h) 539 7 42) (m_ep x F) := by
  have e := m_gR (by decide +kernel) hp
  rw [f_MBY] at e
  exact e
theorem g_HC {h : qH} {x : Nat → Int} {a b : Nat} {F : aF} (hp : a_Rp q_SP 557 h x (475368975085586025561264750977, a, b, F)) : p_HC (m_ac (m_gh h) 539 0 6) (m_ac (m_gh h) 539 7 42) (m_ep x F) := by
  have e := m_gR (by decide +kernel) hp
  rw [f_HC] at e
  exact e
theorem g_HCC {h : qH} {x : Nat → Int} {a b : Nat} {F : aF} (hp : a_Rp q_SP 557 h x (475368975085586025561264750978, a, b, F)) : p_HCC (m_ac (m_gh h) 539 0 6) (m_ac (m_gh h) 539 7 42) (m_ep x F) := by
  have e := m_gR (by decide +kernel) hp
  rw [f_HCC] at e
  exact e
theorem g_HAX {h : qH} {x : Nat → Int} {a b : Nat} {F : aF} (hp : a_Rp q_SP 557 h x (475368975085586025561264750980, a, b, F)) : p_HAX (m_ac (m_gh h) 539 0 6) (m_ac (m_gh h) 539 7 42) (m_ep x F) := by
  have e := m_gR (by decide +kernel) hp
  rw [f_HAX] at e
  exact e
theorem g_HAR {h : qH} {x : Nat → Int} {a b : Nat} {F : aF} (hp : a_Rp q_SP 557 h x (475368975085586025561264750981, a, b, F)) : p_HAR (m_ac (m_gh h) 539 0 6) (m_ac (m_gh h) 539 7 42) (m_ep x F) := by
  have e := m_gR (by decide +kernel) hp
  rw [f_HAR] at e
  exact e
theorem g_HAN {h : qH} {x : Nat → Int} {a b : Nat} {F : aF} (hp : a_Rp q_SP 557 h x (475368975085586025561264750982, a, b, F)) : p_HAN (m_ac (m_gh h) 539 0 6) (m_ac (m_gh h) 539 7 42) (m_ep x F) := by
  have e := m_gR (by decide +kernel) hp
  rw [f_HAN] at e
  exact e
theorem g_NXH {h : qH} {x : Nat → Int} {a b : Nat} {F : aF} (hp : a_Rp q_SP 557 h x (475368975085586025561264750983, a, b, F)) : p_NXH (m_ac (m_gh h) 539 0 6) (m_ac (m_gh h) 539 7 42) (m_ep x F) := by
  have e := m_gR (by decide +kernel) hp
  rw [f_NXH] at e
  exact e
theorem g_NXQ {h : qH} {x : Nat → Int} {a b : Nat} {F : aF} (hp : a_Rp q_SP 557 h x (475368975085586025561264750984, a, b, F)) : p_NXQ (m_ac (m_gh h) 539 0 6) (m_ac (m_gh h) 539 7 42) (m_ep x F) := by
  have e := m_gR (by decide +kernel) hp
  rw [f_NXQ] at e
  exact e
theorem g_NXN {h : qH} {x : Nat → Int} {a b : Nat} {F : aF} (hp : a_Rp q_SP 557 h x (475368975085586025561264750985, a, b, F)) : p_NXN (m_ac (m_gh h) 539 0 6) (m_ac (m_gh h) 539 7 42) (m_ep x F) := by
  have e := m_gR (by decide +kernel) hp
  rw [f_NXN] at e
  exact e
theorem g_GPX {h : qH} {x : Nat → Int} {a b : Nat} {F : aF} (hp : a_Rp q_SP 557 h x (475368975085586025561264750986, a, b, F)) : p_GPX (m_ac (m_gh h) 539 0 6) (m_ac (m_gh h) 539 7 42) (m_ep x F) := by
  have e := m_gR (by decide +kernel) hp
  rw [f_GPX] at e
  exact e
theorem g_GPC {h : qH} {x : Nat → Int} {a b : Nat} {F : aF} (hp : a_Rp q_SP 557 h x (475368975085586025561264750987, a, b, F)) : p_GPC (m_ac (m_gh h) 539 0 6) (m_ac (m_gh h) 539 7 42) (m_ep x F) := by
  have e := m_gR (by decide +kernel) hp
  rw [f_GPC] at e
  exact e
theorem g_SHF {h : qH} {x : Nat → Int} {a b : Nat} {F : aF} (hp : a_Rp q_SP 557 h x (475368975085586025561264750988, a, b, F)) : p_SHF (m_ac (m_gh h) 539 0 6) (m_ac (m_gh h) 539 7 42) (m_ep x F) := by
  have e := m_gR (by decide +kernel) hp
  rw [f_SHF] at e
  exact e
theorem g_SHC {h : qH} {x : Nat → Int} {a b : Nat} {F : aF} (hp : a_Rp q_SP 557 h x (475368975085586025561264750989, a, b, F)) : p_SHC (m_ac (m_gh h) 539 0 6) (m_ac (m_gh h) 539 7 42) (m_ep x F) := by
  have e := m_gR (by decide +kernel) hp
  rw [f_SHC] at e
  exact e
theorem g_SHL {h : qH} {x : Nat → Int} {a b : Nat} {F : aF} (hp : a_Rp q_SP 557 h x (475368975085586025561264750990, a, b, F)) : p_SHL (m_ac (m_gh h) 539 0 6) (m_ac (m_gh h) 539 7 42) (m_ep x F) := by
  have e := m_gR (by decide +kernel) hp
  rw [f_SHL] at e
  exact e
theorem g_SHN {h : qH} {x : Nat → Int} {a b : Nat} {F : aF} (hp : a_Rp q_SP 557 h x (475368975085586025561264750991, a, b, F)) : p_SHN (m_ac (m_gh h) 539 0 6) (m_ac (m_gh h) 539 7 42) (m_ep x F) := by
  have e := m_gR (by decide +kernel) hp
  rw [f_SHN] at e
  exact e
theorem g_ASX {h : qH} {x : Nat → Int} {a b : Nat} {F : aF} (hp : a_Rp q_SP 557 h x (475368975085586025561264750992, a, b, F)) : p_ASX (m_ac (m_gh h) 539 0 6) (m_ac (m_gh h) 539 7 42) (m_ep x F) := by
  have e := m_gR (by decide +kernel) hp
  rw [f_ASX] at e
  exact e
theorem g_ASR {h : qH} {x : Nat → Int} {a b : Nat} {F : aF} (hp : a_Rp q_SP 557 h x (475368975085586025561264750993, a, b, F)) : p_ASR (m_ac (m_gh h) 539 0 6) (m_ac (m_gh h) 539 7 42) (m_ep x F) := by
  have e := m_gR (by decide +kernel) hp
  rw [f_ASR] at e
  exact e
theorem g_ASN {h : qH} {x : Nat → Int} {a b : Nat} {F : aF} (hp : a_Rp q_SP 557 h x (475368975085586025561264750994, a, b, F)) : p_ASN (m_ac (m_gh h) 539 0 6) (m_ac (m_gh h) 539 7 42) (m_ep x F) := by
  have e := m_gR (by decide +kernel) hp
  rw [f_ASN] at e
  exact e
theorem g_KN18 {h : qH} {x : Nat → Int} {a b : Nat} {F : aF} (hp : a_Rp q_SP 557 h x (2596148429267413814265248165659028, a, b, F)) : p_KN18 (m_ac (m_gh h) 18 0 96) (m_ep x F) := by
  have e := m_gR (by decide +kernel) hp
  rw [f_KN18] at e
  exact e
theorem g_YF {h : qH} {x : Nat → Int} {a b : Nat} {F : aF} (hp : a_Rp q_SP 557 h x (475368975085586025561264751042, a, b, F)) : p_YF (m_ac (m_gh h) 539 0 6) (m_ac (m_gh h) 539 7 42) (m_ep x F) := by
  have e := m_gR (by decide +kernel) hp
  rw [f_YF] at e
  exact e
theorem g_EAX {h : qH} {x : Nat → Int} {a b : Nat} {F : aF} (hp : a_Rp q_SP 557 h x (475368975085586025561264751043, a, b, F)) : p_EAX (m_ac (m_gh h) 539 0 6) (m_ac (m_gh h) 539 7 42) (m_ep x F) := by
  have e := m_gR (by decide +kernel) hp
  rw [f_EAX] at e
  exact e
theorem g_LAX {h : qH} {x : Nat → Int} {a b : Nat} {F : aF} (hp : a_Rp q_SP 557 h x (475368975085586025561264751045, a, b, F)) : p_LAX (m_ac (m_gh h) 539 0 6) (m_ac (m_gh h) 539 7 42) (m_ep x F) := by
  have e := m_gR (by decide +kernel) hp
  rw [f_LAX] at e
  exact e
theorem g_EAR {h : qH} {x : Nat → Int} {a b : Nat} {F : aF} (hp : a_Rp q_SP 557 h x (475368975085586025561264751044, a, b, F)) : p_EAR (m_ac (m_gh h) 539 0 6) (m_ac (m_gh h) 539 7 42) (m_ep x F) := by
  have e := m_gR (by decide +kernel) hp
  rw [f_EAR] at e
  exact e
theorem g_LAR {h : qH} {x : Nat → Int} {a b : Nat} {F : aF} (hp : a_Rp q_SP 557 h x (475368975085586025561264751046, a, b, F)) : p_LAR (m_ac (m_gh h) 539 0 6) (m_ac (m_gh h) 539 7 42) (m_ep x F) := by
  have e := m_gR (by decide +kernel) hp
  rw [f_LAR] at e
  exact e
theorem g_FNL {h : qH} {x : Nat → Int} {a b : Nat} {F : aF} (hp : a_Rp q_SP 557 h x (475368975085586025561264751047, a, b, F)) : p_FNL (m_ac (m_gh h) 539 0 6) (m_ac (m_gh h) 539 7 42) (m_ep x F) := by
  have e := m_gR (by decide +kernel) hp
  rw [f_FNL] at e
  exact e
theorem g_FNO {h : qH} {x : Nat → Int} {a b : Nat} {F : aF} (hp : a_Rp q_SP 557 h x (475368975085586025561264751048, a, b, F)) : p_FNO (m_ac (m_gh h) 539 0 6) (m_ac (m_gh h) 539 7 42) (m_ep x F) := by
  have e := m_gR (by decide +kernel) hp
  rw [f_FNO] at e
  exact e
theorem g_LOW {h : qH} {x : Nat → Int} {a b : Nat} {F : aF} (hp : a_Rp q_SP 557 h x (475368975085586025561264751049, a, b, F)) : p_LOW (m_ac (m_gh h) 539 0 6) (m_ac (m_gh h) 539 7 42) (m_ep x F) := by
  have e := m_gR (by decide +kernel) hp
  rw [f_LOW] at e
  exact e
theorem g_HIG {h : qH} {x : Nat → Int} {a b : Nat} {F : aF} (hp : a_Rp q_SP 557 h x (475368975085586025561264751050, a, b, F)) : p_HIG (m_ac (m_gh h) 539 0 6) (m_ac (m_gh h) 539 7 42) (m_ep x F) := by
  have e := m_gR (by decide +kernel) hp
  rw [f_HIG] at e
  exact e
theorem g_HFY {h : qH} {x : Nat → Int} {a b : Nat} {F : aF} (hp : a_Rp q_SP 557 h x (475368975085586025561264751062, a, b, F)) : p_HFY (m_ac (m_gh h) 539 0 6) (m_ac (m_gh h) 539 7 42) (m_ep x F) := by
  have e := m_gR (by decide +kernel) hp
  rw [f_HFY] at e
  exact e
theorem g_HFS {h : qH} {x : Nat → Int} {a b : Nat} {F : aF} (hp : a_Rp q_SP 557 h x (475368975085586025561264751063, a, b, F)) : p_HFS (m_ac (m_gh h) 539 0 6) (m_ac (m_gh h) 539 7 42) (m_ep x F) := by
  have e := m_gR (by decide +kernel) hp
  rw [f_HFS] at e
  exact e
theorem g_NHF {h : qH} {x : Nat → Int} {a b : Nat} {F : aF} (hp : a_Rp q_SP 557 h x (475368975085586025561264751064, a, b, F)) : p_NHF (m_ac (m_gh h) 539 0 6) (m_ac (m_gh h) 539 7 42) (m_ep x F) := by
  have e := m_gR (by decide +kernel) hp
  rw [f_NHF] at e
  exact e
theorem g_AGO {h : qH} {x : Nat → Int} {a b : Nat} {F : aF} (hp : a_Rp q_SP 557 h x (475368975085586025561264751065, a, b, F)) : p_AGO (m_ac (m_gh h) 539 0 6) (m_ac (m_gh h) 539 7 42) (m_ep x F) := by
  have e := m_gR (by decide +kernel) hp
  rw [f_AGO] at e
  exact e
theorem g_AGI {h : qH} {x : Nat → Int} {a b : Nat} {F : aF} (hp : a_Rp q_SP 557 h x (475368975085586025561264751066, a, b, F)) : p_AGI (m_ac (m_gh h) 539 0 6) (m_ac (m_gh h) 539 7 42) (m_ep x F) := by
  have e := m_gR (by decide +kernel) hp
  rw [f_AGI] at e
  exact e
theorem g_AGR {h : qH} {x : Nat → Int} {a b : Nat} {F : aF} (hp : a_Rp q_SP 557 h x (475368975085586025561264751067, a, b, F)) : p_AGR (m_ac (m_gh h) 539 0 6) (m_ac (m_gh h) 539 7 42) (m_ep x F) := by
  have e := m_gR (by decide +kernel) hp
  rw [f_AGR] at e
  exact e
theorem g_YX {h : qH} {x : Nat → Int} {a b : Nat} {F : aF} (hp : a_Rp q_SP 557 h x (475368975085586025578444620252, a, b, F)) : p_YX (m_ac (m_gh h) 539 0 6) (m_ac (m_gh h) 539 7 42) (m_ac (m_gh h) 554 0 8) (m_ep x F) := by
  have e := m_gR (by decide +kernel) hp
  rw [f_YX] at e
  exact e
theorem g_YXR {h : qH} {x : Nat → Int} {a b : Nat} {F : aF} (hp : a_Rp q_SP 557 h x (475368975085586025578444620253, a, b, F)) : p_YXR (m_ac (m_gh h) 539 0 6) (m_ac (m_gh h) 539 7 42) (m_ac (m_gh h) 554 0 8) (m_ep x F) := by
  have e := m_gR (by decide +kernel) hp
  rw [f_YXR] at e
  exact e
theorem g_YVI {h : qH} {x : Nat → Int} {a b : Nat} {F : aF} (hp : a_Rp q_SP 557 h x (475368975085586025561264751070, a, b, F)) : p_YVI (m_ac (m_gh h) 539 0 6) (m_ac (m_gh h) 539 7 42) (m_ep x F) := by
  have e := m_gR (by decide +kernel) hp
  rw [f_YVI] at e
  exact e
theorem g_YVK {h : qH} {x : Nat → Int} {a b : Nat} {F : aF} (hp : a_Rp q_SP 557 h x (475368975085586025561264751071, a, b, F)) : p_YVK (m_ac (m_gh h) 539 0 6) (m_ac (m_gh h) 539 7 42) (m_ep x F) := by
  have e := m_gR (by decide +kernel) hp
  rw [f_YVK] at e
  exact e
theorem g_BGO {h : qH} {x : Nat → Int} {a b : Nat} {F : aF} (hp : a_Rp q_SP 557 h x (475368975085586025561264751072, a, b, F)) : p_BGO (m_ac (m_gh h) 539 0 6) (m_ac (m_gh h) 539 7 42) (m_ep x F) := by
  have e := m_gR (by decide +kernel) hp
  rw [f_BGO] at e
  exact e
theorem g_BGI {h : qH} {x : Nat → Int} {a b : Nat} {F : aF} (hp : a_Rp q_SP 557 h x (475368975085586025561264751073, a, b, F)) : p_BGI (m_ac (m_gh h) 539 0 6) (m_ac (m_gh h) 539 7 42) (m_ep x F) := by
  have e := m_gR (by decide +kernel) hp
  rw [f_BGI] at e
  exact e
theorem g_RWO {h : qH} {x : Nat → Int} {a b : Nat} {F : aF} (hp : a_Rp q_SP 557 h x (83077225105532327642513502532272618, a, b, F)) : p_RWO (m_ac (m_gh h) 539 0 6) (m_ac (m_gh h) 539 7 42) (m_ac (m_gh h) 465 0 96) (m_ep x F) := by
  have e := m_gR (by decide +kernel) hp
  rw [f_RWO] at e
  exact e
theorem g_RWI {h : qH} {x : Nat → Int} {a b : Nat} {F : aF} (hp : a_Rp q_SP 557 h x (83077225105532327642513502532272619, a, b, F)) : p_RWI (m_ac (m_gh h) 539 0 6) (m_ac (m_gh h) 539 7 42) (m_ac (m_gh h) 465 0 96) (m_ep x F) := by
  have e := m_gR (by decide +kernel) hp
  rw [f_RWI] at e
  exact e
theorem g_RTV {h : qH} {x : Nat → Int} {a b : Nat} {F : aF} (hp : a_Rp q_SP 557 h x (475368975085586025561264751084, a, b, F)) : p_RTV (m_ac (m_gh h) 539 0 6) (m_ac (m_gh h) 539 7 42) (m_ep x F) := by
  have e := m_gR (by decide +kernel) hp
  rw [f_RTV] at e
  exact e
theorem g_RTW {h : qH} {x : Nat → Int} {a b : Nat} {F : aF} (hp : a_Rp q_SP 557 h x (475368975085586025561264751085, a, b, F)) : p_RTW (m_ac (m_gh h) 539 0 6) (m_ac (m_gh h) 539 7 42) (m_ep x F) := by
  have e := m_gR (by decide +kernel) hp
  rw [f_RTW] at e
  exact e
theorem g_RLO {h : qH} {x : Nat → Int} {a b : Nat} {F : aF} (hp : a_Rp q_SP 557 h x (475368975085586025561264751086, a, b, F)) : p_RLO (m_ac (m_gh h) 539 0 6) (m_ac (m_gh h) 539 7 42) (m_ep x F) := by
  have e := m_gR (by decide +kernel) hp
  rw [f_RLO] at e
  exact e
theorem g_RLR {h : qH} {x : Nat → Int} {a b : Nat} {F : aF} (hp : a_Rp q_SP 557 h x (475368975085586025561264751087, a, b, F)) : p_RLR (m_ac (m_gh h) 539 0 6) (m_ac (m_gh h) 539 7 42) (m_ep x F) := by
  have e := m_gR (by decide +kernel) hp
  rw [f_RLR] at e
  exact e
theorem g_LGO {h : qH} {x : Nat → Int} {a b : Nat} {F : aF} (hp : a_Rp q_SP 557 h x (475368975085586025595624489456, a, b, F)) : p_LGO (m_ac (m_gh h) 539 0 6) (m_ac (m_gh h) 539 7 42) (m_ac (m_gh h) 555 0 8) (m_ep x F) := by
  have e := m_gR (by decide +kernel) hp
  rw [f_LGO] at e
  exact e
theorem g_LGI {h : qH} {x : Nat → Int} {a b : Nat} {F : aF} (hp : a_Rp q_SP 557 h x (475368975085586025595624489457, a, b, F)) : p_LGI (m_ac (m_gh h) 539 0 6) (m_ac (m_gh h) 539 7 42) (m_ac (m_gh h) 555 0 8) (m_ep x F) := by
  have e := m_gR (by decide +kernel) hp
  rw [f_LGI] at e
  exact e
theorem g_LGV {h : qH} {x : Nat → Int} {a b : Nat} {F : aF} (hp : a_Rp q_SP 557 h x (475368975085586025561264751090, a, b, F)) : p_LGV (m_ac (m_gh h) 539 0 6) (m_ac (m_gh h) 539 7 42) (m_ep x F) := by
  have e := m_gR (by decide +kernel) hp
  rw [f_LGV] at e
  exact e
theorem g_LGW {h : qH} {x : Nat → Int} {a b : Nat} {F : aF} (hp : a_Rp q_SP 557 h x (475368975085586025561264751091, a, b, F)) : p_LGW (m_ac (m_gh h) 539 0 6) (m_ac (m_gh h) 539 7 42) (m_ep x F) := by
  have e := m_gR (by decide +kernel) hp
  rw [f_LGW] at e
  exact e
theorem g_MLO {h : qH} {x : Nat → Int} {a b : Nat} {F : aF} (hp : a_Rp q_SP 557 h x (475368975085586025561264751092, a, b, F)) : p_MLO (m_ac (m_gh h) 539 0 6) (m_ac (m_gh h) 539 7 42) (m_ep x F) := by
  have e := m_gR (by decide +kernel) hp
  rw [f_MLO] at e
  exact e
theorem g_JO {h : qH} {x : Nat → Int} {a b : Nat} {F : aF} (hp : a_Rp q_SP 557 h x (475368975085586025561264751002, a, b, F)) : p_JO (m_ac (m_gh h) 539 0 6) (m_ac (m_gh h) 539 7 42) (m_ep x F) := by
  have e := m_gR (by decide +kernel) hp
  rw [f_JO] at e
  exact e
theorem g_JT {h : qH} {x : Nat → Int} {a b : Nat} {F : aF} (hp : a_Rp q_SP 557 h x (1048987, a, b, F)) : p_JT  (m_ep x F) := by
  have e := m_gR (by decide +kernel) hp
  rw [f_JT] at e
  exact e
theorem g_JN {h : qH} {x : Nat → Int} {a b : Nat} {F : aF} (hp : a_Rp q_SP 557 h x (475368975085586025561264751004, a, b, F)) : p_JN (m_ac (m_gh h) 539 0 6) (m_ac (m_gh h) 539 7 42) (m_ep x F) := by
  have e := m_gR (by decide +kernel) hp
  rw [f_JN] at e
  exact e
theorem g_JNR {h : qH} {x : Nat → Int} {a b : Nat} {F : aF} (hp : a_Rp q_SP 557 h x (475368975085586025561264751005, a, b, F)) : p_JNR (m_ac (m_gh h) 539 0 6) (m_ac (m_gh h) 539 7 42) (m_ep x F) := by
  have e := m_gR (by decide +kernel) hp
  rw [f_JNR] at e
  exact e
theorem g_MRA {h : qH} {x : Nat → Int} {a b : Nat} {F : aF} (hp : a_Rp q_SP 557 h x (1048990, a, b, F)) : p_MRA  (m_ep x F) := by
  have e := m_gR (by decide +kernel) hp
  rw [f_MRA] at e
  exact e
theorem g_MRB {h : qH} {x : Nat → Int} {a b : Nat} {F : aF} (hp : a_Rp q_SP 557 h x (475368975085586025561264751007, a, b, F)) : p_MRB (m_ac (m_gh h) 539 0 6) (m_ac (m_gh h) 539 7 42) (m_ep x F) := by
  have e := m_gR (by decide +kernel) hp
  rw [f_MRB] at e
  exact e
theorem g_AE36_15 {h : qH} {x : Nat → Int} {a b : Nat} {F : aF} (hp : a_Rp q_SP 557 h x (5192296860952679267759754679681454, a, b, F)) : p_AE36_15 (m_ac (m_gh h) 36 0 96) (m_ac (m_gh h) 15 0 96) (m_ep x F) := by
  have e := m_gR (by decide +kernel) hp
  rw [f_AE36_15] at e
  exact e
theorem g_AE15_485 {h : qH} {x : Nat → Int} {a b : Nat} {F : aF} (hp : a_Rp q_SP 557 h x (15576890575604482885591488988709295, a, b, F)) : p_AE15_485 (m_ac (m_gh h) 15 0 96) (m_ac (m_gh h) 485 0 96) (m_ep x F) := by
  have e := m_gR (by decide +kernel) hp
  rw [f_AE15_485] at e
  exact e
theorem g_AE485_15 {h : qH} {x : Nat → Int} {a b : Nat} {F : aF} (hp : a_Rp q_SP 557 h x (15576890575604482885591488988709296, a, b, F)) : p_AE485_15 (m_ac (m_gh h) 15 0 96) (m_ac (m_gh h) 485 0 96) (m_ep x F) := by
  have e := m_gR (by decide +kernel) hp
  rw [f_AE485_15] at e
  exact e
theorem g_AE15_505 {h : qH} {x : Nat → Int} {a b : Nat} {F : aF} (hp : a_Rp q_SP 557 h x (25961484292674138142652481647149489, a, b, F)) : p_AE15_505 (m_ac (m_gh h) 15 0 96) (m_ac (m_gh h) 505 0 96) (m_ep x F) := by
  have e := m_gR (by decide +kernel) hp
  rw [f_AE15_505] at e
  exact e
theorem g_AE505_15 {h : qH} {x : Nat → Int} {a b : Nat} {F : aF} (hp : a_Rp q_SP 557 h x (25961484292674138142652481647149490, a, b, F)) : p_AE505_15 (m_ac (m_gh h) 15 0 96) (m_ac (m_gh h) 505 0 96) (m_ep x F) := by
  have e := m_gR (by decide +kernel) hp
  rw [f_AE505_15] at e
  exact e
theorem g_AE15_525 {h : qH} {x : Nat → Int} {a b : Nat} {F : aF} (hp : a_Rp q_SP 557 h x (46730671726813448656774466964029875, a, b, F)) : p_AE15_525 (m_ac (m_gh h) 15 0 96) (m_ac (m_gh h) 525 0 96) (m_ep x F) := by
  have e := m_gR (by decide +kernel) hp
  rw [f_AE15_525] at e
  exact e
theorem g_AE525_15 {h : qH} {x : Nat → Int} {a b : Nat} {F : aF} (hp : a_Rp q_SP 557 h x (46730671726813448656774466964029876, a, b, F)) : p_AE525_15 (m_ac (m_gh h) 15 0 96) (m_ac (m_gh h) 525 0 96) (m_ep x F) := by
  have e := m_gR (by decide +kernel) hp
  rw [f_AE525_15] at e
  exact e
theorem g_SFW {h : qH} {x : Nat → Int} {a b : Nat} {F : aF} (hp : a_Rp q_SP 557 h x (5192296858534841463588551612432824, a, b, F)) : p_SFW (m_ac (m_gh h) 3 0 900) (m_gh h 2 7) (m_ac (m_gh h) 15 0 96) (m_ep x F) := by
  have e := m_gR (by decide +kernel) hp
  rw [f_SFW] at e
  exact e
theorem g_TF0 {h : qH} {x : Nat → Int} {a b : Nat} {F : aF} (hp : a_Rp q_SP 557 h x (5192772227509913214556057593971129, a, b, F)) : p_TF0 (m_ac (m_gh h) 15 0 96) (m_ac (m_gh h) 539 0 6) (m_ac (m_gh h) 539 7 42) (m_ep x F) := by
  have e := m_gR (by decide +kernel) hp
  rw [f_TF0] at e
  exact e
theorem g_TF1 {h : qH} {x : Nat → Int} {a b : Nat} {F : aF} (hp : a_Rp q_SP 557 h x (10388396668870339945265482769105338, a, b, F)) : p_TF1 (m_ac (m_gh h) 485 0 96) (m_ac (m_gh h) 539 360 6) (m_ac (m_gh h) 539 367 42) (m_ep x F) := by
  have e := m_gR (by decide +kernel) hp
  rw [f_TF1] at e
  exact e
theorem g_TF2 {h : qH} {x : Nat → Int} {a b : Nat} {F : aF} (hp : a_Rp q_SP 557 h x (20799611048544788019757906194858427, a, b, F)) : p_TF2 (m_ac (m_gh h) 505 0 96) (m_ac (m_gh h) 539 720 6) (m_ac (m_gh h) 539 727 42) (m_ep x F) := by
  have e := m_gR (by decide +kernel) hp
  rw [f_TF2] at e
  exact e
theorem g_TF3 {h : qH} {x : Nat → Int} {a b : Nat} {F : aF} (hp : a_Rp q_SP 557 h x (41781763783522441073331337650241980, a, b, F)) : p_TF3 (m_ac (m_gh h) 525 0 96) (m_ac (m_gh h) 539 1080 6) (m_ac (m_gh h) 539 1087 42) (m_ep x F) := by
  have e := m_gR (by decide +kernel) hp
  rw [f_TF3] at e
  exact e
theorem g_MF1 {h : qH} {x : Nat → Int} {a b : Nat} {F : aF} (hp : a_Rp q_SP 557 h x (15576890575604482885591488988709310, a, b, F)) : p_MF1 (m_ac (m_gh h) 15 0 96) (m_ac (m_gh h) 485 0 96) (m_ep x F) := by
  have e := m_gR (by decide +kernel) hp
  rw [f_MF1] at e
  exact e
theorem g_MF2 {h : qH} {x : Nat → Int} {a b : Nat} {F : aF} (hp : a_Rp q_SP 557 h x (25961484292674138142652481647149503, a, b, F)) : p_MF2 (m_ac (m_gh h) 15 0 96) (m_ac (m_gh h) 505 0 96) (m_ep x F) := by
  have e := m_gR (by decide +kernel) hp
  rw [f_MF2] at e
  exact e
theorem g_MF3 {h : qH} {x : Nat → Int} {a b : Nat} {F : aF} (hp : a_Rp q_SP 557 h x (46730671726813448656774466964029888, a, b, F)) : p_MF3 (m_ac (m_gh h) 15 0 96) (m_ac (m_gh h) 525 0 96) (m_ep x F) := by
  have e := m_gR (by decide +kernel) hp
  rw [f_MF3] at e
  exact e
theorem e_LD {h : qH} {x : Nat → Int} {F : aF} (hp : p_LD (m_ac (m_gh h) 539 33 8) (m_ep x F)) : a_Rc q_SP 557 h x 68157450 F := by
  refine m_eR (by decide +kernel) ?_
  rw [f_LD]
  exact hp
theorem e_FI {h : qH} {x : Nat → Int} {F : aF} (hp : p_FI (m_gh h 539 5) (m_ac (m_gh h) 539 33 8) (m_ep x F)) : a_Rc q_SP 557 h x 101711883 F := by
  refine m_eR (by decide +kernel) ?_
  rw [f_FI]
  exact hp
theorem e_YN {h : qH} {x : Nat → Int} {F : aF} (hp : p_YN (m_gh h 539 5) (m_ac (m_gh h) 539 33 8) (m_ep x F)) : a_Rc q_SP 557 h x 101711884 F := by
  refine m_eR (by decide +kernel) ?_
  rw [f_YN]
  exact hp
theorem e_AF {h : qH} {x : Nat → Int} {F : aF} (hp : p_AF (m_gh h 539 0) (m_ep x F)) : a_Rc q_SP 557 h x 34603022 F := by
  refine m_eR (by decide +kernel) ?_
  rw [f_AF]
  exact hp
theorem e_NT {h : qH} {x : Nat → Int} {F : aF} (hp : p_NT (m_ac (m_gh h) 539 49 96) (m_ep x F)) : a_Rc q_SP 557 h x 135266319 F := by
  refine m_eR (by decide +kernel) ?_
  rw [f_NT]
  exact hp
theorem e_SU {h : qH} {x : Nat → Int} {F : aF} (hp : p_SU (m_gh h 539 0) (m_ac (m_gh h) 539 49 96) (m_ep x F)) : a_Rc q_SP 557 h x 168820752 F := by
  refine m_eR (by decide +kernel) ?_
  rw [f_SU]
  exact hp
theorem e_SL {h : qH} {x : Nat → Int} {F : aF} (hp : p_SL (m_ac (m_gh h) 545 0 96) (m_ep x F)) : a_Rc q_SP 557 h x 2148532241 F := by
  refine m_eR (by decide +kernel) ?_
  rw [f_SL]
  exact hp
theorem e_ST {h : qH} {x : Nat → Int} {F : aF} (hp : p_ST (m_gh h 539 0) (m_ac (m_gh h) 545 0 96) (m_ep x F)) : a_Rc q_SP 557 h x 2182086674 F := by
  refine m_eR (by decide +kernel) ?_
  rw [f_ST]
  exact hp
theorem e_FO {h : qH} {x : Nat → Int} {F : aF} (hp : p_FO (m_ac (m_gh h) 543 0 1344) (m_ep x F)) : a_Rc q_SP 557 h x 537919507 F := by
  refine m_eR (by decide +kernel) ?_
  rw [f_FO]
  exact hp
theorem e_FT {h : qH} {x : Nat → Int} {F : aF} (hp : p_FT (m_ac (m_gh h) 544 0 1344) (m_ep x F)) : a_Rc q_SP 557 h x 1074790420 F := by
  refine m_eR (by decide +kernel) ?_
  rw [f_FT]
  exact hp
theorem e_ON {h : qH} {x : Nat → Int} {F : aF} (hp : p_ON (m_ac (m_gh h) 543 0 1344) (m_ac (m_gh h) 544 0 1344) (m_gh h 534 29) (m_ep x F)) : a_Rc q_SP 557 h x 1628438549 F := by
  refine m_eR (by decide +kernel) ?_
  rw [f_ON]
  exact hp
theorem e_PS {h : qH} {x : Nat → Int} {F : aF} (hp : p_PS (m_ac (m_gh h) 539 7 6) (m_ep x F)) : a_Rc q_SP 557 h x 34603030 F := by
  refine m_eR (by decide +kernel) ?_
  rw [f_PS]
  exact hp
theorem e_NS {h : qH} {x : Nat → Int} {F : aF} (hp : p_NS (m_gh h 539 2) (m_ac (m_gh h) 539 7 6) (m_ep x F)) : a_Rc q_SP 557 h x 34603031 F := by
  refine m_eR (by decide +kernel) ?_
  rw [f_NS]
  exact hp
theorem e_BM {h : qH} {x : Nat → Int} {F : aF} (hp : p_BM (m_gh h 539 0) (m_ac (m_gh h) 539 49 96) (m_ac (m_gh h) 545 0 96) (m_ac (m_gh h) 543 0 1344) (m_ep x F)) : a_Rc q_SP 557 h x 2853175320 F := by
  refine m_eR (by decide +kernel) ?_
  rw [f_BM]
  exact hp
theorem e_BE {h : qH} {x : Nat → Int} {F : aF} (hp : p_BE (m_gh h 539 0) (m_ac (m_gh h) 539 49 96) (m_ac (m_gh h) 545 0 96) (m_ac (m_gh h) 543 0 1344) (m_ep x F)) : a_Rc q_SP 557 h x 2853175321 F := by
  refine m_eR (by decide +kernel) ?_
  rw [f_BE]
  exact hp
theorem e_R0 {h : qH} {x : Nat → Int} {F : aF} (hp : p_R0 (m_gh h 539 0) (m_gh h 539 1) (m_ac (m_gh h) 539 49 96) (m_gh h 539 2) (m_ac (m_gh h) 539 7 6) (m_ac (m_gh h) 543 0 1344) (m_ac (m_gh h) 546 0 1344) (m_ep x F)) : a_Rc q_SP 557 h x 5000658970 F := by
  refine m_eR (by decide +kernel) ?_
  rw [f_R0]
  exact hp
theorem e_FA {h : qH} {x : Nat → Int} {F : aF} (hp : p_FA (m_gh h 539 0) (m_gh h 539 1) (m_ac (m_gh h) 539 49 96) (m_ac (m_gh h) 545 0 96) (m_gh h 539 2) (m_ac (m_gh h) 539 7 6) (m_ac (m_gh h) 543 0 1344) (m_ac (m_gh h) 546 0 1344) (m_ep x F)) : a_Rc q_SP 557 h x 7148142620 F := by
  refine m_eR (by decide +kernel) ?_
  rw [f_FA]
  exact hp
theorem e_FD {h : qH} {x : Nat → Int} {F : aF} (hp : p_FD (m_gh h 539 0) (m_gh h 539 1) (m_ac (m_gh h) 539 49 96) (m_ac (m_gh h) 545 0 96) (m_gh h 539 2) (m_ac (m_gh h) 539 7 6) (m_ac (m_gh h) 543 0 1344) (m_ac (m_gh h) 546 0 1344) (m_ep x F)) : a_Rc q_SP 557 h x 7148142622 F := by
  refine m_eR (by decide +kernel) ?_
  rw [f_FD]
  exact hp
theorem e_WT {h : qH} {x : Nat → Int} {F : aF} (hp : p_WT (m_ac (m_gh h) 546 0 1344) (m_ep x F)) : a_Rc q_SP 557 h x 4296015903 F := by
  refine m_eR (by decide +kernel) ?_
  rw [f_WT]
  exact hp
theorem e_BW {h : qH} {x : Nat → Int} {F : aF} (hp : p_BW (m_gh h 539 0) (m_ac (m_gh h) 539 49 96) (m_ac (m_gh h) 545 0 96) (m_ac (m_gh h) 543 0 1344) (m_ac (m_gh h) 546 0 1344) (m_ep x F)) : a_Rc q_SP 557 h x 7148142624 F := by
  refine m_eR (by decide +kernel) ?_
  rw [f_BW]
  exact hp
theorem e_WE {h : qH} {x : Nat → Int} {F : aF} (hp : p_WE (m_gh h 539 0) (m_ac (m_gh h) 539 49 96) (m_ac (m_gh h) 545 0 96) (m_ac (m_gh h) 543 0 1344) (m_ac (m_gh h) 546 0 1344) (m_ep x F)) : a_Rc q_SP 557 h x 7148142625 F := by
  refine m_eR (by decide +kernel) ?_
  rw [f_WE]
  exact hp
theorem e_AM {h : qH} {x : Nat → Int} {F : aF} (hp : p_AM (m_gh h 539 0) (m_ac (m_gh h) 539 49 96) (m_ac (m_gh h) 545 0 96) (m_gh h 539 2) (m_ac (m_gh h) 539 7 6) (m_ac (m_gh h) 544 0 1344) (m_ep x F)) : a_Rc q_SP 557 h x 3390046242 F := by
  refine m_eR (by decide +kernel) ?_
  rw [f_AM]
  exact hp
theorem e_AN {h : qH} {x : Nat → Int} {F : aF} (hp : p_AN (m_gh h 539 0) (m_ac (m_gh h) 539 49 96) (m_ac (m_gh h) 545 0 96) (m_gh h 539 2) (m_ac (m_gh h) 539 7 6) (m_ac (m_gh h) 544 0 1344) (m_ep x F)) : a_Rc q_SP 557 h x 3390046243 F := by
  refine m_eR (by decide +kernel) ?_
  rw [f_AN]
  exact hp
theorem e_AA {h : qH} {x : Nat → Int} {F : aF} (hp : p_AA (m_gh h 539 0) (m_ac (m_gh h) 539 49 96) (m_ac (m_gh h) 545 0 96) (m_gh h 539 2) (m_ac (m_gh h) 539 7 6) (m_ac (m_gh h) 544 0 1344) (m_ep x F)) : a_Rc q_SP 557 h x 3390046244 F := by
  refine m_eR (by decide +kernel) ?_
  rw [f_AA]
  exact hp
theorem e_AD {h : qH} {x : Nat → Int} {F : aF} (hp : p_AD (m_gh h 539 0) (m_ac (m_gh h) 539 49 96) (m_ac (m_gh h) 545 0 96) (m_gh h 539 2) (m_ac (m_gh h) 539 7 6) (m_ac (m_gh h) 544 0 1344) (m_ep x F)) : a_Rc q_SP 557 h x 3390046245 F := by
  refine m_eR (by decide +kernel) ?_
  rw [f_AD]
  exact hp
theorem e_LM {h : qH} {x : Nat → Int} {F : aF} (hp : p_LM (m_gh h 539 0) (m_gh h 539 2) (m_ac (m_gh h) 539 7 6) (m_ac (m_gh h) 543 0 1344) (m_ac (m_gh h) 544 0 1344) (m_ep x F)) : a_Rc q_SP 557 h x 1645215782 F := by
  refine m_eR (by decide +kernel) ?_
  rw [f_LM]
  exact hp
theorem e_M1 {h : qH} {x : Nat → Int} {F : aF} (hp : p_M1 (m_gh h 539 0) (m_gh h 539 1) (m_ac (m_gh h) 539 49 96) (m_ac (m_gh h) 545 0 96) (m_gh h 539 2) (m_ac (m_gh h) 539 7 6) (m_ac (m_gh h) 543 0 1344) (m_ac (m_gh h) 544 0 1344) (m_ac (m_gh h) 546 0 1344) (m_gh h 534 29) (m_ep x F)) : a_Rc q_SP 557 h x 8238661671 F := by
  refine m_eR (by decide +kernel) ?_
  rw [f_M1]
  exact hp
theorem e_NW {h : qH} {x : Nat → Int} {F : aF} (hp : p_NW (m_gh h 539 0) (m_gh h 539 2) (m_ac (m_gh h) 539 7 6) (m_ac (m_gh h) 543 0 1344) (m_ac (m_gh h) 546 0 1344) (m_gh h 534 29) (m_ep x F)) : a_Rc q_SP 557 h x 4883218472 F := by
  refine m_eR (by decide +kernel) ?_
  rw [f_NW]
  exact hp
theorem e_M2 {h : qH} {x : Nat → Int} {F : aF} (hp : p_M2 (m_gh h 539 0) (m_gh h 539 2) (m_ac (m_gh h) 539 7 6) (m_ac (m_gh h) 543 0 1344) (m_ac (m_gh h) 546 0 1344) (m_gh h 534 29) (m_ep x F)) : a_Rc q_SP 557 h x 4883218473 F := by
  refine m_eR (by decide +kernel) ?_
  rw [f_M2]
  exact hp
theorem e_NO {h : qH} {x : Nat → Int} {F : aF} (hp : p_NO (m_gh h 539 0) (m_gh h 539 2) (m_ac (m_gh h) 539 7 6) (m_ac (m_gh h) 543 0 1344) (m_ac (m_gh h) 544 0 1344) (m_gh h 534 29) (m_ep x F)) : a_Rc q_SP 557 h x 1661993002 F := by
  refine m_eR (by decide +kernel) ?_
  rw [f_NO]
  exact hp
theorem e_OP {h : qH} {x : Nat → Int} {F : aF} (hp : p_OP (m_gh h 539 0) (m_gh h 539 2) (m_ac (m_gh h) 539 7 6) (m_ac (m_gh h) 543 0 1344) (m_ac (m_gh h) 544 0 1344) (m_gh h 534 29) (m_ep x F)) : a_Rc q_SP 557 h x 1661993003 F := by
  refine m_eR (by decide +kernel) ?_
  rw [f_OP]
  exact hp
theorem e_NB {h : qH} {x : Nat → Int} {F : aF} (hp : p_NB (m_gh h 539 0) (m_ac (m_gh h) 545 0 96) (m_ac (m_gh h) 543 0 1344) (m_ac (m_gh h) 544 0 1344) (m_gh h 534 29) (m_ep x F)) : a_Rc q_SP 557 h x 3809476652 F := by
  refine m_eR (by decide +kernel) ?_
  rw [f_NB]
  exact hp
theorem e_OA {h : qH} {x : Nat → Int} {F : aF} (hp : p_OA (m_gh h 539 0) (m_ac (m_gh h) 543 0 1344) (m_ac (m_gh h) 544 0 1344) (m_gh h 534 29) (m_ep x F)) : a_Rc q_SP 557 h x 1661993005 F := by
  refine m_eR (by decide +kernel) ?_
  rw [f_OA]
  exact hp
theorem e_FP {h : qH} {x : Nat → Int} {F : aF} (hp : p_FP (m_ac (m_gh h) 543 0 1344) (m_ep x F)) : a_Rc q_SP 557 h x 537919534 F := by
  refine m_eR (by decide +kernel) ?_
  rw [f_FP]
  exact hp
theorem e_SV {h : qH} {x : Nat → Int} {F : aF} (hp : p_SV (m_gh h 539 0) (m_ac (m_gh h) 545 0 96) (m_ac (m_gh h) 543 0 1344) (m_ep x F)) : a_Rc q_SP 557 h x 2718957615 F := by
  refine m_eR (by decide +kernel) ?_
  rw [f_SV]
  exact hp
theorem e_RC {h : qH} {x : Nat → Int} {F : aF} (hp : p_RC (m_ac (m_gh h) 553 0 96) (m_ep x F)) : a_Rc q_SP 557 h x 1099512676400 F := by
  refine m_eR (by decide +kernel) ?_
  rw [f_RC]
  exact hp
theorem e_RD {h : qH} {x : Nat → Int} {F : aF} (hp : p_RD (m_ac (m_gh h) 553 0 96) (m_ep x F)) : a_Rc q_SP 557 h x 1099512676401 F := by
  refine m_eR (by decide +kernel) ?_
  rw [f_RD]
  exact hp
theorem e_XX {h : qH} {x : Nat → Int} {F : aF} (hp : p_XX  (m_ep x F)) : a_Rc q_SP 557 h x 1048626 F := by
  refine m_eR (by decide +kernel) ?_
  rw [f_XX]
  exact hp
theorem e_XO {h : qH} {x : Nat → Int} {F : aF} (hp : p_XO  (m_ep x F)) : a_Rc q_SP 557 h x 1048627 F := by
  refine m_eR (by decide +kernel) ?_
  rw [f_XO]
  exact hp
theorem e_PX {h : qH} {x : Nat → Int} {F : aF} (hp : p_PX (m_ac (m_gh h) 553 0 96) (m_ep x F)) : a_Rc q_SP 557 h x 1099512676404 F := by
  refine m_eR (by decide +kernel) ?_
  rw [f_PX]
  exact hp
theorem e_QQ {h : qH} {x : Nat → Int} {F : aF} (hp : p_QQ (m_gh h 539 0) (m_ac (m_gh h) 545 0 96) (m_gh h 539 2) (m_ac (m_gh h) 539 7 6) (m_ac (m_gh h) 543 0 1344) (m_ac (m_gh h) 544 0 1344) (m_gh h 534 29) (m_ep x F)) : a_Rc q_SP 557 h x 3809476661 F := by
  refine m_eR (by decide +kernel) ?_
  rw [f_QQ]
  exact hp
theorem e_TQ {h : qH} {x : Nat → Int} {F : aF} (hp : p_TQ (m_ac (m_gh h) 467 0 60) (m_ac (m_gh h) 469 0 60) (m_ac (m_gh h) 471 0 60) (m_ac (m_gh h) 473 0 60) (m_ac (m_gh h) 537 0 240) (m_ep x F)) : a_Rc q_SP 557 h x 4323473234462769252 F := by
  refine m_eR (by decide +kernel) ?_
  rw [f_TQ]
  exact hp
theorem e_XW {h : qH} {x : Nat → Int} {F : aF} (hp : p_XW  (m_ep x F)) : a_Rc q_SP 557 h x 1048677 F := by
  refine m_eR (by decide +kernel) ?_
  rw [f_XW]
  exact hp
theorem e_LI {h : qH} {x : Nat → Int} {F : aF} (hp : p_LI  (m_ep x F)) : a_Rc q_SP 557 h x 1048678 F := by
  refine m_eR (by decide +kernel) ?_
  rw [f_LI]
  exact hp
theorem e_CV0 {h : qH} {x : Nat → Int} {F : aF} (hp : p_CV0  (m_ep x F)) : a_Rc q_SP 557 h x 1048679 F := by
  refine m_eR (by decide +kernel) ?_
  rw [f_CV0]
  exact hp
theorem e_CV1 {h : qH} {x : Nat → Int} {F : aF} (hp : p_CV1  (m_ep x F)) : a_Rc q_SP 557 h x 1048680 F := by
  refine m_eR (by decide +kernel) ?_
  rw [f_CV1]
  exact hp
theorem e_CV2 {h : qH} {x : Nat → Int} {F : aF} (hp : p_CV2  (m_ep x F)) : a_Rc q_SP 557 h x 1048681 F := by
  refine m_eR (by decide +kernel) ?_
  rw [f_CV2]
  exact hp
theorem e_CR0 {h : qH} {x : Nat → Int} {F : aF} (hp : p_CR0  (m_ep x F)) : a_Rc q_SP 557 h x 1048682 F := by
  refine m_eR (by decide +kernel) ?_
  rw [f_CR0]
  exact hp
theorem e_CR1 {h : qH} {x : Nat → Int} {F : aF} (hp : p_CR1  (m_ep x F)) : a_Rc q_SP 557 h x 1048683 F := by
  refine m_eR (by decide +kernel) ?_
  rw [f_CR1]
  exact hp
theorem e_CR2 {h : qH} {x : Nat → Int} {F : aF} (hp : p_CR2  (m_ep x F)) : a_Rc q_SP 557 h x 1048684 F := by
  refine m_eR (by decide +kernel) ?_
  rw [f_CR2]
  exact hp
theorem e_TE0 {h : qH} {x : Nat → Int} {F : aF} (hp : p_TE0 (m_ac (m_gh h) 469 0 60) (m_ac (m_gh h) 471 0 60) (m_ac (m_gh h) 473 0 60) (m_ac (m_gh h) 537 0 240) (m_ep x F)) : a_Rc q_SP 557 h x 4035242858311057518 F := by
  refine m_eR (by decide +kernel) ?_
  rw [f_TE0]
  exact hp
theorem e_TZ0 {h : qH} {x : Nat → Int} {F : aF} (hp : p_TZ0 (m_ac (m_gh h) 467 0 60) (m_ep x F)) : a_Rc q_SP 557 h x 288230376152760434 F := by
  refine m_eR (by decide +kernel) ?_
  rw [f_TZ0]
  exact hp
theorem e_TM0 {h : qH} {x : Nat → Int} {F : aF} (hp : p_TM0 (m_ac (m_gh h) 537 0 240) (m_ep x F)) : a_Rc q_SP 557 h x 17592187093110 F := by
  refine m_eR (by decide +kernel) ?_
  rw [f_TM0]
  exact hp
theorem e_NV0 {h : qH} {x : Nat → Int} {F : aF} (hp : p_NV0 (m_ac (m_gh h) 467 0 60) (m_ep x F)) : a_Rc q_SP 557 h x 288230376152760446 F := by
  refine m_eR (by decide +kernel) ?_
  rw [f_NV0]
  exact hp
theorem e_TE1 {h : qH} {x : Nat → Int} {F : aF} (hp : p_TE1 (m_ac (m_gh h) 467 0 60) (m_ac (m_gh h) 471 0 60) (m_ac (m_gh h) 473 0 60) (m_ac (m_gh h) 537 0 240) (m_ep x F)) : a_Rc q_SP 557 h x 3747012482159345775 F := by
  refine m_eR (by decide +kernel) ?_
  rw [f_TE1]
  exact hp
theorem e_TZ1 {h : qH} {x : Nat → Int} {F : aF} (hp : p_TZ1 (m_ac (m_gh h) 469 0 60) (m_ep x F)) : a_Rc q_SP 557 h x 576460752304472179 F := by
  refine m_eR (by decide +kernel) ?_
  rw [f_TZ1]
  exact hp
theorem e_TM1 {h : qH} {x : Nat → Int} {F : aF} (hp : p_TM1 (m_ac (m_gh h) 537 0 240) (m_ep x F)) : a_Rc q_SP 557 h x 17592187093111 F := by
  refine m_eR (by decide +kernel) ?_
  rw [f_TM1]
  exact hp
theorem e_NV1 {h : qH} {x : Nat → Int} {F : aF} (hp : p_NV1 (m_ac (m_gh h) 469 0 60) (m_ep x F)) : a_Rc q_SP 557 h x 576460752304472191 F := by
  refine m_eR (by decide +kernel) ?_
  rw [f_NV1]
  exact hp
theorem e_TE2 {h : qH} {x : Nat → Int} {F : aF} (hp : p_TE2 (m_ac (m_gh h) 467 0 60) (m_ac (m_gh h) 469 0 60) (m_ac (m_gh h) 473 0 60) (m_ac (m_gh h) 537 0 240) (m_ep x F)) : a_Rc q_SP 557 h x 3170551729855922288 F := by
  refine m_eR (by decide +kernel) ?_
  rw [f_TE2]
  exact hp
theorem e_TZ2 {h : qH} {x : Nat → Int} {F : aF} (hp : p_TZ2 (m_ac (m_gh h) 471 0 60) (m_ep x F)) : a_Rc q_SP 557 h x 1152921504607895668 F := by
  refine m_eR (by decide +kernel) ?_
  rw [f_TZ2]
  exact hp
theorem e_TM2 {h : qH} {x : Nat → Int} {F : aF} (hp : p_TM2 (m_ac (m_gh h) 537 0 240) (m_ep x F)) : a_Rc q_SP 557 h x 17592187093112 F := by
  refine m_eR (by decide +kernel) ?_
  rw [f_TM2]
  exact hp
theorem e_NV2 {h : qH} {x : Nat → Int} {F : aF} (hp : p_NV2 (m_ac (m_gh h) 471 0 60) (m_ep x F)) : a_Rc q_SP 557 h x 1152921504607895680 F := by
  refine m_eR (by decide +kernel) ?_
  rw [f_NV2]
  exact hp
theorem e_TE3 {h : qH} {x : Nat → Int} {F : aF} (hp : p_TE3 (m_ac (m_gh h) 467 0 60) (m_ac (m_gh h) 469 0 60) (m_ac (m_gh h) 471 0 60) (m_ac (m_gh h) 537 0 240) (m_ep x F)) : a_Rc q_SP 557 h x 2017630225249075313 F := by
  refine m_eR (by decide +kernel) ?_
  rw [f_TE3]
  exact hp
theorem e_TZ3 {h : qH} {x : Nat → Int} {F : aF} (hp : p_TZ3 (m_ac (m_gh h) 473 0 60) (m_ep x F)) : a_Rc q_SP 557 h x 2305843009214742645 F := by
  refine m_eR (by decide +kernel) ?_
  rw [f_TZ3]
  exact hp
theorem e_TM3 {h : qH} {x : Nat → Int} {F : aF} (hp : p_TM3 (m_ac (m_gh h) 537 0 240) (m_ep x F)) : a_Rc q_SP 557 h x 17592187093113 F := by
  refine m_eR (by decide +kernel) ?_
  rw [f_TM3]
  exact hp
theorem e_NV3 {h : qH} {x : Nat → Int} {F : aF} (hp : p_NV3 (m_ac (m_gh h) 473 0 60) (m_ep x F)) : a_Rc q_SP 557 h x 2305843009214742657 F := by
  refine m_eR (by decide +kernel) ?_
  rw [f_NV3]
  exact hp
theorem e_NL {h : qH} {x : Nat → Int} {F : aF} (hp : p_NL (m_ac (m_gh h) 537 0 240) (m_ep x F)) : a_Rc q_SP 557 h x 17592187093125 F := by
  refine m_eR (by decide +kernel) ?_
  rw [f_NL]
  exact hp
theorem e_GA {h : qH} {x : Nat → Int} {F : aF} (hp : p_GA (m_ac (m_gh h) 467 0 60) (m_ac (m_gh h) 469 0 60) (m_ac (m_gh h) 471 0 60) (m_ac (m_gh h) 473 0 60) (m_ac (m_gh h) 537 0 240) (m_ep x F)) : a_Rc q_SP 557 h x 4323473234462769283 F := by
  refine m_eR (by decide +kernel) ?_
  rw [f_GA]
  exact hp
theorem e_GD {h : qH} {x : Nat → Int} {F : aF} (hp : p_GD (m_ac (m_gh h) 467 0 60) (m_ac (m_gh h) 469 0 60) (m_ac (m_gh h) 471 0 60) (m_ac (m_gh h) 473 0 60) (m_ac (m_gh h) 537 0 240) (m_ep x F)) : a_Rc q_SP 557 h x 4323473234462769284 F := by
  refine m_eR (by decide +kernel) ?_
  rw [f_GD]
  exact hp
theorem e_SK {h : qH} {x : Nat → Int} {F : aF} (hp : p_SK (m_ac (m_gh h) 3 0 900) (m_gh h 2 7) (m_ep x F)) : a_Rc q_SP 557 h x 13835058055283212429 F := by
  refine m_eR (by decide +kernel) ?_
  rw [f_SK]
  exact hp
theorem e_NX {h : qH} {x : Nat → Int} {F : aF} (hp : p_NX (m_ac (m_gh h) 3 0 900) (m_gh h 2 7) (m_ep x F)) : a_Rc q_SP 557 h x 13835058055283212430 F := by
  refine m_eR (by decide +kernel) ?_
  rw [f_NX]
  exact hp
