-- 68a5.facts: the facts in numbers (printed by wip/p5/gen68.py)
set_option maxRecDepth 20000 in
theorem f_TV {h : qH} {x : Int} : a_M q_SP 557 475368975085586025561264750962 x h = p_TV (m_ac (m_gh h) 539 0 6) (m_ac (m_gh h) 539 7 42) x := by
  show p_TV (m_ac (a_gm q_SP 557 475368975085586025561264750962 h) 539 0 6) (m_ac (a_gm q_SP 557 475368975085586025561264750962 h) 539 7 42) x = _
  rw [m_ga (code := 475368975085586025561264750962) (c := 539) (off := 0) (n := 6) (by decide +kernel), m_ga (code := 475368975085586025561264750962) (c := 539) (off := 7) (n := 42) (by decide +kernel)]
set_option maxRecDepth 20000 in
theorem f_SWV {h : qH} {x : Int} : a_M q_SP 557 475368975085586025561264750963 x h = p_SWV (m_ac (m_gh h) 539 0 6) (m_ac (m_gh h) 539 7 42) x := by
  show p_SWV (m_ac (a_gm q_SP 557 475368975085586025561264750963 h) 539 0 6) (m_ac (a_gm q_SP 557 475368975085586025561264750963 h) 539 7 42) x = _
  rw [m_ga (code := 475368975085586025561264750963) (c := 539) (off := 0) (n := 6) (by decide +kernel), m_ga (code := 475368975085586025561264750963) (c := 539) (off := 7) (n := 42) (by decide +kernel)]
set_option maxRecDepth 20000 in
theorem f_HL {h : qH} {x : Int} : a_M q_SP 557 475368975085586025561264750964 x h = p_HL (m_ac (m_gh h) 539 0 6) (m_ac (m_gh h) 539 7 42) x := by
  show p_HL (m_ac (a_gm q_SP 557 475368975085586025561264750964 h) 539 0 6) (m_ac (a_gm q_SP 557 475368975085586025561264750964 h) 539 7 42) x = _
  rw [m_ga (code := 475368975085586025561264750964) (c := 539) (off := 0) (n := 6) (by decide +kernel), m_ga (code := 475368975085586025561264750964) (c := 539) (off := 7) (n := 42) (by decide +kernel)]
set_option maxRecDepth 20000 in
theorem f_NH {h : qH} {x : Int} : a_M q_SP 557 475368975085586025561264750965 x h = p_NH (m_ac (m_gh h) 539 0 6) (m_ac (m_gh h) 539 7 42) x := by
  show p_NH (m_ac (a_gm q_SP 557 475368975085586025561264750965 h) 539 0 6) (m_ac (a_gm q_SP 557 475368975085586025561264750965 h) 539 7 42) x = _
  rw [m_ga (code := 475368975085586025561264750965) (c := 539) (off := 0) (n := 6) (by decide +kernel), m_ga (code := 475368975085586025561264750965) (c := 539) (off := 7) (n := 42) (by decide +kernel)]
set_option maxRecDepth 20000 in
theorem f_CA {h : qH} {x : Int} : a_M q_SP 557 475368975085586025569854685558 x h = p_CA (m_ac (m_gh h) 542 0 96) (m_ac (m_gh h) 539 0 6) (m_ac (m_gh h) 539 7 42) x := by
  show p_CA (m_ac (a_gm q_SP 557 475368975085586025569854685558 h) 542 0 96) (m_ac (a_gm q_SP 557 475368975085586025569854685558 h) 539 0 6) (m_ac (a_gm q_SP 557 475368975085586025569854685558 h) 539 7 42) x = _
  rw [m_ga (code := 475368975085586025569854685558) (c := 542) (off := 0) (n := 96) (by decide +kernel), m_ga (code := 475368975085586025569854685558) (c := 539) (off := 0) (n := 6) (by decide +kernel), m_ga (code := 475368975085586025569854685558) (c := 539) (off := 7) (n := 42) (by decide +kernel)]
set_option maxRecDepth 20000 in
theorem f_CFX {h : qH} {x : Int} : a_M q_SP 557 475368975085586025569854685559 x h = p_CFX (m_ac (m_gh h) 542 0 96) (m_ac (m_gh h) 539 0 6) (m_ac (m_gh h) 539 7 42) x := by
  show p_CFX (m_ac (a_gm q_SP 557 475368975085586025569854685559 h) 542 0 96) (m_ac (a_gm q_SP 557 475368975085586025569854685559 h) 539 0 6) (m_ac (a_gm q_SP 557 475368975085586025569854685559 h) 539 7 42) x = _
  rw [m_ga (code := 475368975085586025569854685559) (c := 542) (off := 0) (n := 96) (by decide +kernel), m_ga (code := 475368975085586025569854685559) (c := 539) (off := 0) (n := 6) (by decide +kernel), m_ga (code := 475368975085586025569854685559) (c := 539) (off := 7) (n := 42) (by decide +kernel)]
set_option maxRecDepth 20000 in
theorem f_CAT {h : qH} {x : Int} : a_M q_SP 557 475368975085586025569854685560 x h = p_CAT (m_ac (m_gh h) 542 0 96) (m_ac (m_gh h) 539 0 6) (m_ac (m_gh h) 539 7 42) x := by
  show p_CAT (m_ac (a_gm q_SP 557 475368975085586025569854685560 h) 542 0 96) (m_ac (a_gm q_SP 557 475368975085586025569854685560 h) 539 0 6) (m_ac (a_gm q_SP 557 475368975085586025569854685560 h) 539 7 42) x = _
  rw [m_ga (code := 475368975085586025569854685560) (c := 542) (off := 0) (n := 96) (by decide +kernel), m_ga (code := 475368975085586025569854685560) (c := 539) (off := 0) (n := 6) (by decide +kernel), m_ga (code := 475368975085586025569854685560) (c := 539) (off := 7) (n := 42) (by decide +kernel)]
set_option maxRecDepth 20000 in
theorem f_CFT {h : qH} {x : Int} : a_M q_SP 557 475368975085586025569854685561 x h = p_CFT (m_ac (m_gh h) 542 0 96) (m_ac (m_gh h) 539 0 6) (m_ac (m_gh h) 539 7 42) x := by
  show p_CFT (m_ac (a_gm q_SP 557 475368975085586025569854685561 h) 542 0 96) (m_ac (a_gm q_SP 557 475368975085586025569854685561 h) 539 0 6) (m_ac (a_gm q_SP 557 475368975085586025569854685561 h) 539 7 42) x = _
  rw [m_ga (code := 475368975085586025569854685561) (c := 542) (off := 0) (n := 96) (by decide +kernel), m_ga (code := 475368975085586025569854685561) (c := 539) (off := 0) (n := 6) (by decide +kernel), m_ga (code := 475368975085586025569854685561) (c := 539) (off := 7) (n := 42) (by decide +kernel)]
set_option maxRecDepth 20000 in
theorem f_LSA {h : qH} {x : Int} : a_M q_SP 557 475368975085586025561264750970 x h = p_LSA (m_ac (m_gh h) 539 7 42) x := by
  show p_LSA (m_ac (a_gm q_SP 557 475368975085586025561264750970 h) 539 7 42) x = _
  rw [m_ga (code := 475368975085586025561264750970) (c := 539) (off := 7) (n := 42) (by decide +kernel)]
set_option maxRecDepth 20000 in
theorem f_LSB {h : qH} {x : Int} : a_M q_SP 557 475368975085586025561264750971 x h = p_LSB (m_ac (m_gh h) 539 7 42) x := by
  show p_LSB (m_ac (a_gm q_SP 557 475368975085586025561264750971 h) 539 7 42) x = _
  rw [m_ga (code := 475368975085586025561264750971) (c := 539) (off := 7) (n := 42) (by decide +kernel)]
set_option maxRecDepth 20000 in
theorem f_MBY {h : qH} {x : Int} : a_M q_SP 557 475368975085586025561264750972 x h = p_MBY (m_ac (m_gh h) 539 0 6) (m_ac (m_gh h) 539 7 42) x := by
  show p_MBY (m_ac (a_gm q_SP 557 475368975085586025561264750972 h) 539 0 6) (m_ac (a_gm q_SP 557 475368975085586025561264750972 h) 539 7 42) x = _
  rw [m_ga (code := 475368975085586025561264750972) (c := 539) (off := 0) (n := 6) (by decide +kernel), m_ga (code := 475368975085586025561264750972) (c := 539) (off := 7) (n := 42) (by decide +kernel)]
set_option maxRecDepth 20000 in
theorem f_HC {h : qH} {x : Int} : a_M q_SP 557 475368975085586025561264750977 x h = p_HC (m_ac (m_gh h) 539 0 6) (m_ac (m_gh h) 539 7 42) x := by
  show p_HC (m_ac (a_gm q_SP 557 475368975085586025561264750977 h) 539 0 6) (m_ac (a_gm q_SP 557 475368975085586025561264750977 h) 539 7 42) x = _
  rw [m_ga (code := 475368975085586025561264750977) (c := 539) (off := 0) (n := 6) (by decide +kernel), m_ga (code := 475368975085586025561264750977) (c := 539) (off := 7) (n := 42) (by decide +kernel)]
set_option maxRecDepth 20000 in
theorem f_HCC {h : qH} {x : Int} : a_M q_SP 557 475368975085586025561264750978 x h = p_HCC (m_ac (m_gh h) 539 0 6) (m_ac (m_gh h) 539 7 42) x := by
  show p_HCC (m_ac (a_gm q_SP 557 475368975085586025561264750978 h) 539 0 6) (m_ac (a_gm q_SP 557 475368975085586025561264750978 h) 539 7 42) x = _
  rw [m_ga (code := 475368975085586025561264750978) (c := 539) (off := 0) (n := 6) (by decide +kernel), m_ga (code := 475368975085586025561264750978) (c := 539) (off := 7) (n := 42) (by decide +kernel)]
set_option maxRecDepth 20000 in
theorem f_HAX {h : qH} {x : Int} : a_M q_SP 557 475368975085586025561264750980 x h = p_HAX (m_ac (m_gh h) 539 0 6) (m_ac (m_gh h) 539 7 42) x := by
  show p_HAX (m_ac (a_gm q_SP 557 475368975085586025561264750980 h) 539 0 6) (m_ac (a_gm q_SP 557 475368975085586025561264750980 h) 539 7 42) x = _
  rw [m_ga (code := 475368975085586025561264750980) (c := 539) (off := 0) (n := 6) (by decide +kernel), m_ga (code := 475368975085586025561264750980) (c := 539) (off := 7) (n := 42) (by decide +kernel)]
set_option maxRecDepth 20000 in
theorem f_HAR {h : qH} {x : Int} : a_M q_SP 557 475368975085586025561264750981 x h = p_HAR (m_ac (m_gh h) 539 0 6) (m_ac (m_gh h) 539 7 42) x := by
  show p_HAR (m_ac (a_gm q_SP 557 475368975085586025561264750981 h) 539 0 6) (m_ac (a_gm q_SP 557 475368975085586025561264750981 h) 539 7 42) x = _
  rw [m_ga (code := 475368975085586025561264750981) (c := 539) (off := 0) (n := 6) (by decide +kernel), m_ga (code := 475368975085586025561264750981) (c := 539) (off := 7) (n := 42) (by decide +kernel)]
set_option maxRecDepth 20000 in
theorem f_HAN {h : qH} {x : Int} : a_M q_SP 557 475368975085586025561264750982 x h = p_HAN (m_ac (m_gh h) 539 0 6) (m_ac (m_gh h) 539 7 42) x := by
  show p_HAN (m_ac (a_gm q_SP 557 475368975085586025561264750982 h) 539 0 6) (m_ac (a_gm q_SP 557 475368975085586025561264750982 h) 539 7 42) x = _
  rw [m_ga (code := 475368975085586025561264750982) (c := 539) (off := 0) (n := 6) (by decide +kernel), m_ga (code := 475368975085586025561264750982) (c := 539) (off := 7) (n := 42) (by decide +kernel)]
set_option maxRecDepth 20000 in
theorem f_NXH {h : qH} {x : Int} : a_M q_SP 557 475368975085586025561264750983 x h = p_NXH (m_ac (m_gh h) 539 0 6) (m_ac (m_gh h) 539 7 42) x := by
  show p_NXH (m_ac (a_gm q_SP 557 475368975085586025561264750983 h) 539 0 6) (m_ac (a_gm q_SP 557 475368975085586025561264750983 h) 539 7 42) x = _
  rw [m_ga (code := 475368975085586025561264750983) (c := 539) (off := 0) (n := 6) (by decide +kernel), m_ga (code := 475368975085586025561264750983) (c := 539) (off := 7) (n := 42) (by decide +kernel)]
set_option maxRecDepth 20000 in
theorem f_NXQ {h : qH} {x : Int} : a_M q_SP 557 475368975085586025561264750984 x h = p_NXQ (m_ac (m_gh h) 539 0 6) (m_ac (m_gh h) 539 7 42) x := by
  show p_NXQ (m_ac (a_gm q_SP 557 475368975085586025561264750984 h) 539 0 6) (m_ac (a_gm q_SP 557 475368975085586025561264750984 h) 539 7 42) x = _
  rw [m_ga (code := 475368975085586025561264750984) (c := 539) (off := 0) (n := 6) (by decide +kernel), m_ga (code := 475368975085586025561264750984) (c := 539) (off := 7) (n := 42) (by decide +kernel)]
set_option maxRecDepth 20000 in
theorem f_NXN {h : qH} {x : Int} : a_M q_SP 557 475368975085586025561264750985 x h = p_NXN (m_ac (m_gh h) 539 0 6) (m_ac (m_gh h) 539 7 42) x := by
  show p_NXN (m_ac (a_gm q_SP 557 475368975085586025561264750985 h) 539 0 6) (m_ac (a_gm q_SP 557 475368975085586025561264750985 h) 539 7 42) x = _
  rw [m_ga (code := 475368975085586025561264750985) (c := 539) (off := 0) (n := 6) (by decide +kernel), m_ga (code := 475368975085586025561264750985) (c := 539) (off := 7) (n := 42) (by decide +kernel)]
set_option maxRecDepth 20000 in
theorem f_GPX {h : qH} {x : Int} : a_M q_SP 557 475368975085586025561264750986 x h = p_GPX (m_ac (m_gh h) 539 0 6) (m_ac (m_gh h) 539 7 42) x := by
  show p_GPX (m_ac (a_gm q_SP 557 475368975085586025561264750986 h) 539 0 6) (m_ac (a_gm q_SP 557 475368975085586025561264750986 h) 539 7 42) x = _
  rw [m_ga (code := 475368975085586025561264750986) (c := 539) (off := 0) (n := 6) (by decide +kernel), m_ga (code := 475368975085586025561264750986) (c := 539) (off := 7) (n := 42) (by decide +kernel)]
set_option maxRecDepth 20000 in
theorem f_GPC {h : qH} {x : Int} : a_M q_SP 557 475368975085586025561264750987 x h = p_GPC (m_ac (m_gh h) 539 0 6) (m_ac (m_gh h) 539 7 42) x := by
  show p_GPC (m_ac (a_gm q_SP 557 475368975085586025561264750987 h) 539 0 6) (m_ac (a_gm q_SP 557 475368975085586025561264750987 h) 539 7 42) x = _
  rw [m_ga (code := 475368975085586025561264750987) (c := 539) (off := 0) (n := 6) (by decide +kernel), m_ga (code := 475368975085586025561264750987) (c := 539) (off := 7) (n := 42) (by decide +kernel)]
set_option maxRecDepth 20000 in
theorem f_SHF {h : qH} {x : Int} : a_M q_SP 557 475368975085586025561264750988 x h = p_SHF (m_ac (m_gh h) 539 0 6) (m_ac (m_gh h) 539 7 42) x := by
  show p_SHF (m_ac (a_gm q_SP 557 475368975085586025561264750988 h) 539 0 6) (m_ac (a_gm q_SP 557 475368975085586025561264750988 h) 539 7 42) x = _
  rw [m_ga (code := 475368975085586025561264750988) (c := 539) (off := 0) (n := 6) (by decide +kernel), m_ga (code := 475368975085586025561264750988) (c := 539) (off := 7) (n := 42) (by decide +kernel)]
set_option maxRecDepth 20000 in
theorem f_SHC {h : qH} {x : Int} : a_M q_SP 557 475368975085586025561264750989 x h = p_SHC (m_ac (m_gh h) 539 0 6) (m_ac (m_gh h) 539 7 42) x := by
  show p_SHC (m_ac (a_gm q_SP 557 475368975085586025561264750989 h) 539 0 6) (m_ac (a_gm q_SP 557 475368975085586025561264750989 h) 539 7 42) x = _
  rw [m_ga (code := 475368975085586025561264750989) (c := 539) (off := 0) (n := 6) (by decide +kernel), m_ga (code := 475368975085586025561264750989) (c := 539) (off := 7) (n := 42) (by decide +kernel)]
set_option maxRecDepth 20000 in
theorem f_SHL {h : qH} {x : Int} : a_M q_SP 557 475368975085586025561264750990 x h = p_SHL (m_ac (m_gh h) 539 0 6) (m_ac (m_gh h) 539 7 42) x := by
  show p_SHL (m_ac (a_gm q_SP 557 475368975085586025561264750990 h) 539 0 6) (m_ac (a_gm q_SP 557 475368975085586025561264750990 h) 539 7 42) x = _
  rw [m_ga (code := 475368975085586025561264750990) (c := 539) (off := 0) (n := 6) (by decide +kernel), m_ga (code := 475368975085586025561264750990) (c := 539) (off := 7) (n := 42) (by decide +kernel)]
set_option maxRecDepth 20000 in
theorem f_SHN {h : qH} {x : Int} : a_M q_SP 557 475368975085586025561264750991 x h = p_SHN (m_ac (m_gh h) 539 0 6) (m_ac (m_gh h) 539 7 42) x := by
  show p_SHN (m_ac (a_gm q_SP 557 475368975085586025561264750991 h) 539 0 6) (m_ac (a_gm q_SP 557 475368975085586025561264750991 h) 539 7 42) x = _
  rw [m_ga (code := 475368975085586025561264750991) (c := 539) (off := 0) (n := 6) (by decide +kernel), m_ga (code := 475368975085586025561264750991) (c := 539) (off := 7) (n := 42) (by decide +kernel)]
set_option maxRecDepth 20000 in
theorem f_ASX {h : qH} {x : Int} : a_M q_SP 557 475368975085586025561264750992 x h = p_ASX (m_ac (m_gh h) 539 0 6) (m_ac (m_gh h) 539 7 42) x := by
  show p_ASX (m_ac (a_gm q_SP 557 475368975085586025561264750992 h) 539 0 6) (m_ac (a_gm q_SP 557 475368975085586025561264750992 h) 539 7 42) x = _
  rw [m_ga (code := 475368975085586025561264750992) (c := 539) (off := 0) (n := 6) (by decide +kernel), m_ga (code := 475368975085586025561264750992) (c := 539) (off := 7) (n := 42) (by decide +kernel)]
set_option maxRecDepth 20000 in
theorem f_ASR {h : qH} {x : Int} : a_M q_SP 557 475368975085586025561264750993 x h = p_ASR (m_ac (m_gh h) 539 0 6) (m_ac (m_gh h) 539 7 42) x := by
  show p_ASR (m_ac (a_gm q_SP 557 475368975085586025561264750993 h) 539 0 6) (m_ac (a_gm q_SP 557 475368975085586025561264750993 h) 539 7 42) x = _
  rw [m_ga (code := 475368975085586025561264750993) (c := 539) (off := 0) (n := 6) (by decide +kernel), m_ga (code := 475368975085586025561264750993) (c := 539) (off := 7) (n := 42) (by decide +kernel)]
set_option maxRecDepth 20000 in
theorem f_ASN {h : qH} {x : Int} : a_M q_SP 557 475368975085586025561264750994 x h = p_ASN (m_ac (m_gh h) 539 0 6) (m_ac (m_gh h) 539 7 42) x := by
  show p_ASN (m_ac (a_gm q_SP 557 475368975085586025561264750994 h) 539 0 6) (m_ac (a_gm q_SP 557 475368975085586025561264750994 h) 539 7 42) x = _
  rw [m_ga (code := 475368975085586025561264750994) (c := 539) (off := 0) (n := 6) (by decide +kernel), m_ga (code := 475368975085586025561264750994) (c := 539) (off := 7) (n := 42) (by decide +kernel)]
set_option maxRecDepth 20000 in
theorem f_KN18 {h : qH} {x : Int} : a_M q_SP 557 2596148429267413814265248165659028 x h = p_KN18 (m_ac (m_gh h) 18 0 96) x := by
  show p_KN18 (m_ac (a_gm q_SP 557 2596148429267413814265248165659028 h) 18 0 96) x = _
  rw [m_ga (code := 2596148429267413814265248165659028) (c := 18) (off := 0) (n := 96) (by decide +kernel)]
set_option maxRecDepth 20000 in
theorem f_YF {h : qH} {x : Int} : a_M q_SP 557 475368975085586025561264751042 x h = p_YF (m_ac (m_gh h) 539 0 6) (m_ac (m_gh h) 539 7 42) x := by
  show p_YF (m_ac (a_gm q_SP 557 475368975085586025561264751042 h) 539 0 6) (m_ac (a_gm q_SP 557 475368975085586025561264751042 h) 539 7 42) x = _
  rw [m_ga (code := 475368975085586025561264751042) (c := 539) (off := 0) (n := 6) (by decide +kernel), m_ga (code := 475368975085586025561264751042) (c := 539) (off := 7) (n := 42) (by decide +kernel)]
set_option maxRecDepth 20000 in
theorem f_EAX {h : qH} {x : Int} : a_M q_SP 557 475368975085586025561264751043 x h = p_EAX (m_ac (m_gh h) 539 0 6) (m_ac (m_gh h) 539 7 42) x := by
  show p_EAX (m_ac (a_gm q_SP 557 475368975085586025561264751043 h) 539 0 6) (m_ac (a_gm q_SP 557 475368975085586025561264751043 h) 539 7 42) x = _
  rw [m_ga (code := 475368975085586025561264751043) (c := 539) (off := 0) (n := 6) (by decide +kernel), m_ga (code := 475368975085586025561264751043) (c := 539) (off := 7) (n := 42) (by decide +kernel)]
set_option maxRecDepth 20000 in
theorem f_LAX {h : qH} {x : Int} : a_M q_SP 557 475368975085586025561264751045 x h = p_LAX (m_ac (m_gh h) 539 0 6) (m_ac (m_gh h) 539 7 42) x := by
  show p_LAX (m_ac (a_gm q_SP 557 475368975085586025561264751045 h) 539 0 6) (m_ac (a_gm q_SP 557 475368975085586025561264751045 h) 539 7 42) x = _
  rw [m_ga (code := 475368975085586025561264751045) (c := 539) (off := 0) (n := 6) (by decide +kernel), m_ga (code := 475368975085586025561264751045) (c := 539) (off := 7) (n := 42) (by decide +kernel)]
set_option maxRecDepth 20000 in
theorem f_EAR {h : qH} {x : Int} : a_M q_SP 557 475368975085586025561264751044 x h = p_EAR (m_ac (m_gh h) 539 0 6) (m_ac (m_gh h) 539 7 42) x := by
  show p_EAR (m_ac (a_gm q_SP 557 475368975085586025561264751044 h) 539 0 6) (m_ac (a_gm q_SP 557 475368975085586025561264751044 h) 539 7 42) x = _
  rw [m_ga (code := 475368975085586025561264751044) (c := 539) (off := 0) (n := 6) (by decide +kernel), m_ga (code := 475368975085586025561264751044) (c := 539) (off := 7) (n := 42) (by decide +kernel)]
set_option maxRecDepth 20000 in
theorem f_LAR {h : qH} {x : Int} : a_M q_SP 557 475368975085586025561264751046 x h = p_LAR (m_ac (m_gh h) 539 0 6) (m_ac (m_gh h) 539 7 42) x := by
  show p_LAR (m_ac (a_gm q_SP 557 475368975085586025561264751046 h) 539 0 6) (m_ac (a_gm q_SP 557 475368975085586025561264751046 h) 539 7 42) x = _
  rw [m_ga (code := 475368975085586025561264751046) (c := 539) (off := 0) (n := 6) (by decide +kernel), m_ga (code := 475368975085586025561264751046) (c := 539) (off := 7) (n := 42) (by decide +kernel)]
set_option maxRecDepth 20000 in
theorem f_FNL {h : qH} {x : Int} : a_M q_SP 557 475368975085586025561264751047 x h = p_FNL (m_ac (m_gh h) 539 0 6) (m_ac (m_gh h) 539 7 42) x := by
  show p_FNL (m_ac (a_gm q_SP 557 475368975085586025561264751047 h) 539 0 6) (m_ac (a_gm q_SP 557 475368975085586025561264751047 h) 539 7 42) x = _
  rw [m_ga (code := 475368975085586025561264751047) (c := 539) (off := 0) (n := 6) (by decide +kernel), m_ga (code := 475368975085586025561264751047) (c := 539) (off := 7) (n := 42) (by decide +kernel)]
set_option maxRecDepth 20000 in
theorem f_FNO {h : qH} {x : Int} : a_M q_SP 557 475368975085586025561264751048 x h = p_FNO (m_ac (m_gh h) 539 0 6) (m_ac (m_gh h) 539 7 42) x := by
  show p_FNO (m_ac (a_gm q_SP 557 475368975085586025561264751048 h) 539 0 6) (m_ac (a_gm q_SP 557 475368975085586025561264751048 h) 539 7 42) x = _
  rw [m_ga (code := 475368975085586025561264751048) (c := 539) (off := 0) (n := 6) (by decide +kernel), m_ga (code := 475368975085586025561264751048) (c := 539) (off := 7) (n := 42) (by decide +kernel)]
set_option maxRecDepth 20000 in
theorem f_LOW {h : qH} {x : Int} : a_M q_SP 557 475368975085586025561264751049 x h = p_LOW (m_ac (m_gh h) 539 0 6) (m_ac (m_gh h) 539 7 42) x := by
  show p_LOW (m_ac (a_gm q_SP 557 475368975085586025561264751049 h) 539 0 6) (m_ac (a_gm q_SP 557 475368975085586025561264751049 h) 539 7 42) x = _
  rw [m_ga (code := 475368975085586025561264751049) (c := 539) (off := 0) (n := 6) (by decide +kernel), m_ga (code := 475368975085586025561264751049) (c := 539) (off := 7) (n := 42) (by decide +kernel)]
set_option maxRecDepth 20000 in
theorem f_HIG {h : qH} {x : Int} : a_M q_SP 557 475368975085586025561264751050 x h = p_HIG (m_ac (m_gh h) 539 0 6) (m_ac (m_gh h) 539 7 42) x := by
  show p_HIG (m_ac (a_gm q_SP 557 475368975085586025561264751050 h) 539 0 6) (m_ac (a_gm q_SP 557 475368975085586025561264751050 h) 539 7 42) x = _
  rw [m_ga (code := 475368975085586025561264751050) (c := 539) (off := 0) (n := 6) (by decide +kernel), m_ga (code := 475368975085586025561264751050) (c := 539) (off := 7) (n := 42) (by decide +kernel)]
set_option maxRecDepth 20000 in
theorem f_HFY {h : qH} {x : Int} : a_M q_SP 557 475368975085586025561264751062 x h = p_HFY (m_ac (m_gh h) 539 0 6) (m_ac (m_gh h) 539 7 42) x := by
  show p_HFY (m_ac (a_gm q_SP 557 475368975085586025561264751062 h) 539 0 6) (m_ac (a_gm q_SP 557 475368975085586025561264751062 h) 539 7 42) x = _
  rw [m_ga (code := 475368975085586025561264751062) (c := 539) (off := 0) (n := 6) (by decide +kernel), m_ga (code := 475368975085586025561264751062) (c := 539) (off := 7) (n := 42) (by decide +kernel)]
set_option maxRecDepth 20000 in
theorem f_HFS {h : qH} {x : Int} : a_M q_SP 557 475368975085586025561264751063 x h = p_HFS (m_ac (m_gh h) 539 0 6) (m_ac (m_gh h) 539 7 42) x := by
  show p_HFS (m_ac (a_gm q_SP 557 475368975085586025561264751063 h) 539 0 6) (m_ac (a_gm q_SP 557 475368975085586025561264751063 h) 539 7 42) x = _
  rw [m_ga (code := 475368975085586025561264751063) (c := 539) (off := 0) (n := 6) (by decide +kernel), m_ga (code := 475368975085586025561264751063) (c := 539) (off := 7) (n := 42) (by decide +kernel)]
set_option maxRecDepth 20000 in
theorem f_NHF {h : qH} {x : Int} : a_M q_SP 557 475368975085586025561264751064 x h = p_NHF (m_ac (m_gh h) 539 0 6) (m_ac (m_gh h) 539 7 42) x := by
  show p_NHF (m_ac (a_gm q_SP 557 475368975085586025561264751064 h) 539 0 6) (m_ac (a_gm q_SP 557 475368975085586025561264751064 h) 539 7 42) x = _
  rw [m_ga (code := 475368975085586025561264751064) (c := 539) (off := 0) (n := 6) (by decide +kernel), m_ga (code := 475368975085586025561264751064) (c := 539) (off := 7) (n := 42) (by decide +kernel)]
set_option maxRecDepth 20000 in
theorem f_AGO {h : qH} {x : Int} : a_M q_SP 557 475368975085586025561264751065 x h = p_AGO (m_ac (m_gh h) 539 0 6) (m_ac (m_gh h) 539 7 42) x := by
  show p_AGO (m_ac (a_gm q_SP 557 475368975085586025561264751065 h) 539 0 6) (m_ac (a_gm q_SP 557 475368975085586025561264751065 h) 539 7 42) x = _
  rw [m_ga (code := 475368975085586025561264751065) (c := 539) (off := 0) (n := 6) (by decide +kernel), m_ga (code := 475368975085586025561264751065) (c := 539) (off := 7) (n := 42) (by decide +kernel)]
set_option maxRecDepth 20000 in
theorem f_AGI {h : qH} {x : Int} : a_M q_SP 557 475368975085586025561264751066 x h = p_AGI (m_ac (m_gh h) 539 0 6) (m_ac (m_gh h) 539 7 42) x := by
  show p_AGI (m_ac (a_gm q_SP 557 475368975085586025561264751066 h) 539 0 6) (m_ac (a_gm q_SP 557 475368975085586025561264751066 h) 539 7 42) x = _
  rw [m_ga (code := 475368975085586025561264751066) (c := 539) (off := 0) (n := 6) (by decide +kernel), m_ga (code := 475368975085586025561264751066) (c := 539) (off := 7) (n := 42) (by decide +kernel)]
set_option maxRecDepth 20000 in
theorem f_AGR {h : qH} {x : Int} : a_M q_SP 557 475368975085586025561264751067 x h = p_AGR (m_ac (m_gh h) 539 0 6) (m_ac (m_gh h) 539 7 42) x := by
  show p_AGR (m_ac (a_gm q_SP 557 475368975085586025561264751067 h) 539 0 6) (m_ac (a_gm q_SP 557 475368975085586025561264751067 h) 539 7 42) x = _
  rw [m_ga (code := 475368975085586025561264751067) (c := 539) (off := 0) (n := 6) (by decide +kernel), m_ga (code := 475368975085586025561264751067) (c := 539) (off := 7) (n := 42) (by decide +kernel)]
set_option maxRecDepth 20000 in
theorem f_YX {h : qH} {x : Int} : a_M q_SP 557 475368975085586025578444620252 x h = p_YX (m_ac (m_gh h) 539 0 6) (m_ac (m_gh h) 539 7 42) (m_ac (m_gh h) 554 0 8) x := by
  show p_YX (m_ac (a_gm q_SP 557 475368975085586025578444620252 h) 539 0 6) (m_ac (a_gm q_SP 557 475368975085586025578444620252 h) 539 7 42) (m_ac (a_gm q_SP 557 475368975085586025578444620252 h) 554 0 8) x = _
  rw [m_ga (code := 475368975085586025578444620252) (c := 539) (off := 0) (n := 6) (by decide +kernel), m_ga (code := 475368975085586025578444620252) (c := 539) (off := 7) (n := 42) (by decide +kernel), m_ga (code := 475368975085586025578444620252) (c := 554) (off := 0) (n := 8) (by decide +kernel)]
