-- 68a6.facts: the facts in numbers (printed by wip/p5/gen68.py)
set_option maxRecDepth 20000 in
theorem f_YXR {h : qH} {x : Int} : a_M q_SP 557 475368975085586025578444620253 x h = p_YXR (m_ac (m_gh h) 539 0 6) (m_ac (m_gh h) 539 7 42) (m_ac (m_gh h) 554 0 8) x := by
  show p_YXR (m_ac (a_gm q_SP 557 475368975085586025578444620253 h) 539 0 6) (m_ac (a_gm q_SP 557 475368975085586025578444620253 h) 539 7 42) (m_ac (a_gm q_SP 557 475368975085586025578444620253 h) 554 0 8) x = _
  rw [m_ga (code := 475368975085586025578444620253) (c := 539) (off := 0) (n := 6) (by decide +kernel), m_ga (code := 475368975085586025578444620253) (c := 539) (off := 7) (n := 42) (by decide +kernel), m_ga (code := 475368975085586025578444620253) (c := 554) (off := 0) (n := 8) (by decide +kernel)]
set_option maxRecDepth 20000 in
theorem f_YVI {h : qH} {x : Int} : a_M q_SP 557 475368975085586025561264751070 x h = p_YVI (m_ac (m_gh h) 539 0 6) (m_ac (m_gh h) 539 7 42) x := by
  show p_YVI (m_ac (a_gm q_SP 557 475368975085586025561264751070 h) 539 0 6) (m_ac (a_gm q_SP 557 475368975085586025561264751070 h) 539 7 42) x = _
  rw [m_ga (code := 475368975085586025561264751070) (c := 539) (off := 0) (n := 6) (by decide +kernel), m_ga (code := 475368975085586025561264751070) (c := 539) (off := 7) (n := 42) (by decide +kernel)]
set_option maxRecDepth 20000 in
theorem f_YVK {h : qH} {x : Int} : a_M q_SP 557 475368975085586025561264751071 x h = p_YVK (m_ac (m_gh h) 539 0 6) (m_ac (m_gh h) 539 7 42) x := by
  show p_YVK (m_ac (a_gm q_SP 557 475368975085586025561264751071 h) 539 0 6) (m_ac (a_gm q_SP 557 475368975085586025561264751071 h) 539 7 42) x = _
  rw [m_ga (code := 475368975085586025561264751071) (c := 539) (off := 0) (n := 6) (by decide +kernel), m_ga (code := 475368975085586025561264751071) (c := 539) (off := 7) (n := 42) (by decide +kernel)]
set_option maxRecDepth 20000 in
theorem f_BGO {h : qH} {x : Int} : a_M q_SP 557 475368975085586025561264751072 x h = p_BGO (m_ac (m_gh h) 539 0 6) (m_ac (m_gh h) 539 7 42) x := by
  show p_BGO (m_ac (a_gm q_SP 557 475368975085586025561264751072 h) 539 0 6) (m_ac (a_gm q_SP 557 475368975085586025561264751072 h) 539 7 42) x = _
  rw [m_ga (code := 475368975085586025561264751072) (c := 539) (off := 0) (n := 6) (by decide +kernel), m_ga (code := 475368975085586025561264751072) (c := 539) (off := 7) (n := 42) (by decide +kernel)]
set_option maxRecDepth 20000 in
theorem f_BGI {h : qH} {x : Int} : a_M q_SP 557 475368975085586025561264751073 x h = p_BGI (m_ac (m_gh h) 539 0 6) (m_ac (m_gh h) 539 7 42) x := by
  show p_BGI (m_ac (a_gm q_SP 557 475368975085586025561264751073 h) 539 0 6) (m_ac (a_gm q_SP 557 475368975085586025561264751073 h) 539 7 42) x = _
  rw [m_ga (code := 475368975085586025561264751073) (c := 539) (off := 0) (n := 6) (by decide +kernel), m_ga (code := 475368975085586025561264751073) (c := 539) (off := 7) (n := 42) (by decide +kernel)]
set_option maxRecDepth 20000 in
theorem f_RWO {h : qH} {x : Int} : a_M q_SP 557 83077225105532327642513502532272618 x h = p_RWO (m_ac (m_gh h) 539 0 6) (m_ac (m_gh h) 539 7 42) (m_ac (m_gh h) 465 0 96) x := by
  show p_RWO (m_ac (a_gm q_SP 557 83077225105532327642513502532272618 h) 539 0 6) (m_ac (a_gm q_SP 557 83077225105532327642513502532272618 h) 539 7 42) (m_ac (a_gm q_SP 557 83077225105532327642513502532272618 h) 465 0 96) x = _
  rw [m_ga (code := 83077225105532327642513502532272618) (c := 539) (off := 0) (n := 6) (by decide +kernel), m_ga (code := 83077225105532327642513502532272618) (c := 539) (off := 7) (n := 42) (by decide +kernel), m_ga (code := 83077225105532327642513502532272618) (c := 465) (off := 0) (n := 96) (by decide +kernel)]
set_option maxRecDepth 20000 in
theorem f_RWI {h : qH} {x : Int} : a_M q_SP 557 83077225105532327642513502532272619 x h = p_RWI (m_ac (m_gh h) 539 0 6) (m_ac (m_gh h) 539 7 42) (m_ac (m_gh h) 465 0 96) x := by
  show p_RWI (m_ac (a_gm q_SP 557 83077225105532327642513502532272619 h) 539 0 6) (m_ac (a_gm q_SP 557 83077225105532327642513502532272619 h) 539 7 42) (m_ac (a_gm q_SP 557 83077225105532327642513502532272619 h) 465 0 96) x = _
  rw [m_ga (code := 83077225105532327642513502532272619) (c := 539) (off := 0) (n := 6) (by decide +kernel), m_ga (code := 83077225105532327642513502532272619) (c := 539) (off := 7) (n := 42) (by decide +kernel), m_ga (code := 83077225105532327642513502532272619) (c := 465) (off := 0) (n := 96) (by decide +kernel)]
set_option maxRecDepth 20000 in
theorem f_RTV {h : qH} {x : Int} : a_M q_SP 557 475368975085586025561264751084 x h = p_RTV (m_ac (m_gh h) 539 0 6) (m_ac (m_gh h) 539 7 42) x := by
  show p_RTV (m_ac (a_gm q_SP 557 475368975085586025561264751084 h) 539 0 6) (m_ac (a_gm q_SP 557 475368975085586025561264751084 h) 539 7 42) x = _
  rw [m_ga (code := 475368975085586025561264751084) (c := 539) (off := 0) (n := 6) (by decide +kernel), m_ga (code := 475368975085586025561264751084) (c := 539) (off := 7) (n := 42) (by decide +kernel)]
set_option maxRecDepth 20000 in
theorem f_RTW {h : qH} {x : Int} : a_M q_SP 557 475368975085586025561264751085 x h = p_RTW (m_ac (m_gh h) 539 0 6) (m_ac (m_gh h) 539 7 42) x := by
  show p_RTW (m_ac (a_gm q_SP 557 475368975085586025561264751085 h) 539 0 6) (m_ac (a_gm q_SP 557 475368975085586025561264751085 h) 539 7 42) x = _
  rw [m_ga (code := 475368975085586025561264751085) (c := 539) (off := 0) (n := 6) (by decide +kernel), m_ga (code := 475368975085586025561264751085) (c := 539) (off := 7) (n := 42) (by decide +kernel)]
set_option maxRecDepth 20000 in
theorem f_RLO {h : qH} {x : Int} : a_M q_SP 557 475368975085586025561264751086 x h = p_RLO (m_ac (m_gh h) 539 0 6) (m_ac (m_gh h) 539 7 42) x := by
  show p_RLO (m_ac (a_gm q_SP 557 475368975085586025561264751086 h) 539 0 6) (m_ac (a_gm q_SP 557 475368975085586025561264751086 h) 539 7 42) x = _
  rw [m_ga (code := 475368975085586025561264751086) (c := 539) (off := 0) (n := 6) (by decide +kernel), m_ga (code := 475368975085586025561264751086) (c := 539) (off := 7) (n := 42) (by decide +kernel)]
set_option maxRecDepth 20000 in
theorem f_RLR {h : qH} {x : Int} : a_M q_SP 557 475368975085586025561264751087 x h = p_RLR (m_ac (m_gh h) 539 0 6) (m_ac (m_gh h) 539 7 42) x := by
  show p_RLR (m_ac (a_gm q_SP 557 475368975085586025561264751087 h) 539 0 6) (m_ac (a_gm q_SP 557 475368975085586025561264751087 h) 539 7 42) x = _
  rw [m_ga (code := 475368975085586025561264751087) (c := 539) (off := 0) (n := 6) (by decide +kernel), m_ga (code := 475368975085586025561264751087) (c := 539) (off := 7) (n := 42) (by decide +kernel)]
set_option maxRecDepth 20000 in
theorem f_LGO {h : qH} {x : Int} : a_M q_SP 557 475368975085586025595624489456 x h = p_LGO (m_ac (m_gh h) 539 0 6) (m_ac (m_gh h) 539 7 42) (m_ac (m_gh h) 555 0 8) x := by
  show p_LGO (m_ac (a_gm q_SP 557 475368975085586025595624489456 h) 539 0 6) (m_ac (a_gm q_SP 557 475368975085586025595624489456 h) 539 7 42) (m_ac (a_gm q_SP 557 475368975085586025595624489456 h) 555 0 8) x = _
  rw [m_ga (code := 475368975085586025595624489456) (c := 539) (off := 0) (n := 6) (by decide +kernel), m_ga (code := 475368975085586025595624489456) (c := 539) (off := 7) (n := 42) (by decide +kernel), m_ga (code := 475368975085586025595624489456) (c := 555) (off := 0) (n := 8) (by decide +kernel)]
set_option maxRecDepth 20000 in
theorem f_LGI {h : qH} {x : Int} : a_M q_SP 557 475368975085586025595624489457 x h = p_LGI (m_ac (m_gh h) 539 0 6) (m_ac (m_gh h) 539 7 42) (m_ac (m_gh h) 555 0 8) x := by
  show p_LGI (m_ac (a_gm q_SP 557 475368975085586025595624489457 h) 539 0 6) (m_ac (a_gm q_SP 557 475368975085586025595624489457 h) 539 7 42) (m_ac (a_gm q_SP 557 475368975085586025595624489457 h) 555 0 8) x = _
  rw [m_ga (code := 475368975085586025595624489457) (c := 539) (off := 0) (n := 6) (by decide +kernel), m_ga (code := 475368975085586025595624489457) (c := 539) (off := 7) (n := 42) (by decide +kernel), m_ga (code := 475368975085586025595624489457) (c := 555) (off := 0) (n := 8) (by decide +kernel)]
set_option maxRecDepth 20000 in
theorem f_LGV {h : qH} {x : Int} : a_M q_SP 557 475368975085586025561264751090 x h = p_LGV (m_ac (m_gh h) 539 0 6) (m_ac (m_gh h) 539 7 42) x := by
  show p_LGV (m_ac (a_gm q_SP 557 475368975085586025561264751090 h) 539 0 6) (m_ac (a_gm q_SP 557 475368975085586025561264751090 h) 539 7 42) x = _
  rw [m_ga (code := 475368975085586025561264751090) (c := 539) (off := 0) (n := 6) (by decide +kernel), m_ga (code := 475368975085586025561264751090) (c := 539) (off := 7) (n := 42) (by decide +kernel)]
set_option maxRecDepth 20000 in
theorem f_LGW {h : qH} {x : Int} : a_M q_SP 557 475368975085586025561264751091 x h = p_LGW (m_ac (m_gh h) 539 0 6) (m_ac (m_gh h) 539 7 42) x := by
  show p_LGW (m_ac (a_gm q_SP 557 475368975085586025561264751091 h) 539 0 6) (m_ac (a_gm q_SP 557 475368975085586025561264751091 h) 539 7 42) x = _
  rw [m_ga (code := 475368975085586025561264751091) (c := 539) (off := 0) (n := 6) (by decide +kernel), m_ga (code := 475368975085586025561264751091) (c := 539) (off := 7) (n := 42) (by decide +kernel)]
set_option maxRecDepth 20000 in
theorem f_MLO {h : qH} {x : Int} : a_M q_SP 557 475368975085586025561264751092 x h = p_MLO (m_ac (m_gh h) 539 0 6) (m_ac (m_gh h) 539 7 42) x := by
  show p_MLO (m_ac (a_gm q_SP 557 475368975085586025561264751092 h) 539 0 6) (m_ac (a_gm q_SP 557 475368975085586025561264751092 h) 539 7 42) x = _
  rw [m_ga (code := 475368975085586025561264751092) (c := 539) (off := 0) (n := 6) (by decide +kernel), m_ga (code := 475368975085586025561264751092) (c := 539) (off := 7) (n := 42) (by decide +kernel)]
set_option maxRecDepth 20000 in
theorem f_JO {h : qH} {x : Int} : a_M q_SP 557 475368975085586025561264751002 x h = p_JO (m_ac (m_gh h) 539 0 6) (m_ac (m_gh h) 539 7 42) x := by
  show p_JO (m_ac (a_gm q_SP 557 475368975085586025561264751002 h) 539 0 6) (m_ac (a_gm q_SP 557 475368975085586025561264751002 h) 539 7 42) x = _
  rw [m_ga (code := 475368975085586025561264751002) (c := 539) (off := 0) (n := 6) (by decide +kernel), m_ga (code := 475368975085586025561264751002) (c := 539) (off := 7) (n := 42) (by decide +kernel)]
set_option maxRecDepth 20000 in
theorem f_JT {h : qH} {x : Int} : a_M q_SP 557 1048987 x h = p_JT  x := by
  show p_JT  x = _
  rfl
set_option maxRecDepth 20000 in
theorem f_JN {h : qH} {x : Int} : a_M q_SP 557 475368975085586025561264751004 x h = p_JN (m_ac (m_gh h) 539 0 6) (m_ac (m_gh h) 539 7 42) x := by
  show p_JN (m_ac (a_gm q_SP 557 475368975085586025561264751004 h) 539 0 6) (m_ac (a_gm q_SP 557 475368975085586025561264751004 h) 539 7 42) x = _
  rw [m_ga (code := 475368975085586025561264751004) (c := 539) (off := 0) (n := 6) (by decide +kernel), m_ga (code := 475368975085586025561264751004) (c := 539) (off := 7) (n := 42) (by decide +kernel)]
set_option maxRecDepth 20000 in
theorem f_JNR {h : qH} {x : Int} : a_M q_SP 557 475368975085586025561264751005 x h = p_JNR (m_ac (m_gh h) 539 0 6) (m_ac (m_gh h) 539 7 42) x := by
  show p_JNR (m_ac (a_gm q_SP 557 475368975085586025561264751005 h) 539 0 6) (m_ac (a_gm q_SP 557 475368975085586025561264751005 h) 539 7 42) x = _
  rw [m_ga (code := 475368975085586025561264751005) (c := 539) (off := 0) (n := 6) (by decide +kernel), m_ga (code := 475368975085586025561264751005) (c := 539) (off := 7) (n := 42) (by decide +kernel)]
set_option maxRecDepth 20000 in
theorem f_MRA {h : qH} {x : Int} : a_M q_SP 557 1048990 x h = p_MRA  x := by
  show p_MRA  x = _
  rfl
set_option maxRecDepth 20000 in
theorem f_MRB {h : qH} {x : Int} : a_M q_SP 557 475368975085586025561264751007 x h = p_MRB (m_ac (m_gh h) 539 0 6) (m_ac (m_gh h) 539 7 42) x := by
  show p_MRB (m_ac (a_gm q_SP 557 475368975085586025561264751007 h) 539 0 6) (m_ac (a_gm q_SP 557 475368975085586025561264751007 h) 539 7 42) x = _
  rw [m_ga (code := 475368975085586025561264751007) (c := 539) (off := 0) (n := 6) (by decide +kernel), m_ga (code := 475368975085586025561264751007) (c := 539) (off := 7) (n := 42) (by decide +kernel)]
set_option maxRecDepth 20000 in
theorem f_AE36_15 {h : qH} {x : Int} : a_M q_SP 557 5192296860952679267759754679681454 x h = p_AE36_15 (m_ac (m_gh h) 36 0 96) (m_ac (m_gh h) 15 0 96) x := by
  show p_AE36_15 (m_ac (a_gm q_SP 557 5192296860952679267759754679681454 h) 36 0 96) (m_ac (a_gm q_SP 557 5192296860952679267759754679681454 h) 15 0 96) x = _
  rw [m_ga (code := 5192296860952679267759754679681454) (c := 36) (off := 0) (n := 96) (by decide +kernel), m_ga (code := 5192296860952679267759754679681454) (c := 15) (off := 0) (n := 96) (by decide +kernel)]
set_option maxRecDepth 20000 in
theorem f_AE15_485 {h : qH} {x : Int} : a_M q_SP 557 15576890575604482885591488988709295 x h = p_AE15_485 (m_ac (m_gh h) 15 0 96) (m_ac (m_gh h) 485 0 96) x := by
  show p_AE15_485 (m_ac (a_gm q_SP 557 15576890575604482885591488988709295 h) 15 0 96) (m_ac (a_gm q_SP 557 15576890575604482885591488988709295 h) 485 0 96) x = _
  rw [m_ga (code := 15576890575604482885591488988709295) (c := 15) (off := 0) (n := 96) (by decide +kernel), m_ga (code := 15576890575604482885591488988709295) (c := 485) (off := 0) (n := 96) (by decide +kernel)]
set_option maxRecDepth 20000 in
theorem f_AE485_15 {h : qH} {x : Int} : a_M q_SP 557 15576890575604482885591488988709296 x h = p_AE485_15 (m_ac (m_gh h) 15 0 96) (m_ac (m_gh h) 485 0 96) x := by
  show p_AE485_15 (m_ac (a_gm q_SP 557 15576890575604482885591488988709296 h) 15 0 96) (m_ac (a_gm q_SP 557 15576890575604482885591488988709296 h) 485 0 96) x = _
  rw [m_ga (code := 15576890575604482885591488988709296) (c := 15) (off := 0) (n := 96) (by decide +kernel), m_ga (code := 15576890575604482885591488988709296) (c := 485) (off := 0) (n := 96) (by decide +kernel)]
set_option maxRecDepth 20000 in
theorem f_AE15_505 {h : qH} {x : Int} : a_M q_SP 557 25961484292674138142652481647149489 x h = p_AE15_505 (m_ac (m_gh h) 15 0 96) (m_ac (m_gh h) 505 0 96) x := by
  show p_AE15_505 (m_ac (a_gm q_SP 557 25961484292674138142652481647149489 h) 15 0 96) (m_ac (a_gm q_SP 557 25961484292674138142652481647149489 h) 505 0 96) x = _
  rw [m_ga (code := 25961484292674138142652481647149489) (c := 15) (off := 0) (n := 96) (by decide +kernel), m_ga (code := 25961484292674138142652481647149489) (c := 505) (off := 0) (n := 96) (by decide +kernel)]
set_option maxRecDepth 20000 in
theorem f_AE505_15 {h : qH} {x : Int} : a_M q_SP 557 25961484292674138142652481647149490 x h = p_AE505_15 (m_ac (m_gh h) 15 0 96) (m_ac (m_gh h) 505 0 96) x := by
  show p_AE505_15 (m_ac (a_gm q_SP 557 25961484292674138142652481647149490 h) 15 0 96) (m_ac (a_gm q_SP 557 25961484292674138142652481647149490 h) 505 0 96) x = _
  rw [m_ga (code := 25961484292674138142652481647149490) (c := 15) (off := 0) (n := 96) (by decide +kernel), m_ga (code := 25961484292674138142652481647149490) (c := 505) (off := 0) (n := 96) (by decide +kernel)]
set_option maxRecDepth 20000 in
theorem f_AE15_525 {h : qH} {x : Int} : a_M q_SP 557 46730671726813448656774466964029875 x h = p_AE15_525 (m_ac (m_gh h) 15 0 96) (m_ac (m_gh h) 525 0 96) x := by
  show p_AE15_525 (m_ac (a_gm q_SP 557 46730671726813448656774466964029875 h) 15 0 96) (m_ac (a_gm q_SP 557 46730671726813448656774466964029875 h) 525 0 96) x = _
  rw [m_ga (code := 46730671726813448656774466964029875) (c := 15) (off := 0) (n := 96) (by decide +kernel), m_ga (code := 46730671726813448656774466964029875) (c := 525) (off := 0) (n := 96) (by decide +kernel)]
set_option maxRecDepth 20000 in
theorem f_AE525_15 {h : qH} {x : Int} : a_M q_SP 557 46730671726813448656774466964029876 x h = p_AE525_15 (m_ac (m_gh h) 15 0 96) (m_ac (m_gh h) 525 0 96) x := by
  show p_AE525_15 (m_ac (a_gm q_SP 557 46730671726813448656774466964029876 h) 15 0 96) (m_ac (a_gm q_SP 557 46730671726813448656774466964029876 h) 525 0 96) x = _
  rw [m_ga (code := 46730671726813448656774466964029876) (c := 15) (off := 0) (n := 96) (by decide +kernel), m_ga (code := 46730671726813448656774466964029876) (c := 525) (off := 0) (n := 96) (by decide +kernel)]
set_option maxRecDepth 20000 in
theorem f_SFW {h : qH} {x : Int} : a_M q_SP 557 5192296858534841463588551612432824 x h = p_SFW (m_ac (m_gh h) 3 0 900) (m_gh h 2 7) (m_ac (m_gh h) 15 0 96) x := by
  show p_SFW (m_ac (a_gm q_SP 557 5192296858534841463588551612432824 h) 3 0 900) (a_gm q_SP 557 5192296858534841463588551612432824 h 2 7) (m_ac (a_gm q_SP 557 5192296858534841463588551612432824 h) 15 0 96) x = _
  rw [m_ga (code := 5192296858534841463588551612432824) (c := 3) (off := 0) (n := 900) (by decide +kernel), m_gs (code := 5192296858534841463588551612432824) (c := 2) (j := 7) (by decide +kernel), m_ga (code := 5192296858534841463588551612432824) (c := 15) (off := 0) (n := 96) (by decide +kernel)]
set_option maxRecDepth 20000 in
theorem f_TF0 {h : qH} {x : Int} : a_M q_SP 557 5192772227509913214556057593971129 x h = p_TF0 (m_ac (m_gh h) 15 0 96) (m_ac (m_gh h) 539 0 6) (m_ac (m_gh h) 539 7 42) x := by
  show p_TF0 (m_ac (a_gm q_SP 557 5192772227509913214556057593971129 h) 15 0 96) (m_ac (a_gm q_SP 557 5192772227509913214556057593971129 h) 539 0 6) (m_ac (a_gm q_SP 557 5192772227509913214556057593971129 h) 539 7 42) x = _
  rw [m_ga (code := 5192772227509913214556057593971129) (c := 15) (off := 0) (n := 96) (by decide +kernel), m_ga (code := 5192772227509913214556057593971129) (c := 539) (off := 0) (n := 6) (by decide +kernel), m_ga (code := 5192772227509913214556057593971129) (c := 539) (off := 7) (n := 42) (by decide +kernel)]
set_option maxRecDepth 20000 in
theorem f_TF1 {h : qH} {x : Int} : a_M q_SP 557 10388396668870339945265482769105338 x h = p_TF1 (m_ac (m_gh h) 485 0 96) (m_ac (m_gh h) 539 360 6) (m_ac (m_gh h) 539 367 42) x := by
  show p_TF1 (m_ac (a_gm q_SP 557 10388396668870339945265482769105338 h) 485 0 96) (m_ac (a_gm q_SP 557 10388396668870339945265482769105338 h) 539 360 6) (m_ac (a_gm q_SP 557 10388396668870339945265482769105338 h) 539 367 42) x = _
  rw [m_ga (code := 10388396668870339945265482769105338) (c := 485) (off := 0) (n := 96) (by decide +kernel), m_ga (code := 10388396668870339945265482769105338) (c := 539) (off := 360) (n := 6) (by decide +kernel), m_ga (code := 10388396668870339945265482769105338) (c := 539) (off := 367) (n := 42) (by decide +kernel)]
set_option maxRecDepth 20000 in
theorem f_TF2 {h : qH} {x : Int} : a_M q_SP 557 20799611048544788019757906194858427 x h = p_TF2 (m_ac (m_gh h) 505 0 96) (m_ac (m_gh h) 539 720 6) (m_ac (m_gh h) 539 727 42) x := by
  show p_TF2 (m_ac (a_gm q_SP 557 20799611048544788019757906194858427 h) 505 0 96) (m_ac (a_gm q_SP 557 20799611048544788019757906194858427 h) 539 720 6) (m_ac (a_gm q_SP 557 20799611048544788019757906194858427 h) 539 727 42) x = _
  rw [m_ga (code := 20799611048544788019757906194858427) (c := 505) (off := 0) (n := 96) (by decide +kernel), m_ga (code := 20799611048544788019757906194858427) (c := 539) (off := 720) (n := 6) (by decide +kernel), m_ga (code := 20799611048544788019757906194858427) (c := 539) (off := 727) (n := 42) (by decide +kernel)]
set_option maxRecDepth 20000 in
theorem f_TF3 {h : qH} {x : Int} : a_M q_SP 557 41781763783522441073331337650241980 x h = p_TF3 (m_ac (m_gh h) 525 0 96) (m_ac (m_gh h) 539 1080 6) (m_ac (m_gh h) 539 1087 42) x := by
  show p_TF3 (m_ac (a_gm q_SP 557 41781763783522441073331337650241980 h) 525 0 96) (m_ac (a_gm q_SP 557 41781763783522441073331337650241980 h) 539 1080 6) (m_ac (a_gm q_SP 557 41781763783522441073331337650241980 h) 539 1087 42) x = _
  rw [m_ga (code := 41781763783522441073331337650241980) (c := 525) (off := 0) (n := 96) (by decide +kernel), m_ga (code := 41781763783522441073331337650241980) (c := 539) (off := 1080) (n := 6) (by decide +kernel), m_ga (code := 41781763783522441073331337650241980) (c := 539) (off := 1087) (n := 42) (by decide +kernel)]
set_option maxRecDepth 20000 in
theorem f_MF1 {h : qH} {x : Int} : a_M q_SP 557 15576890575604482885591488988709310 x h = p_MF1 (m_ac (m_gh h) 15 0 96) (m_ac (m_gh h) 485 0 96) x := by
  show p_MF1 (m_ac (a_gm q_SP 557 15576890575604482885591488988709310 h) 15 0 96) (m_ac (a_gm q_SP 557 15576890575604482885591488988709310 h) 485 0 96) x = _
  rw [m_ga (code := 15576890575604482885591488988709310) (c := 15) (off := 0) (n := 96) (by decide +kernel), m_ga (code := 15576890575604482885591488988709310) (c := 485) (off := 0) (n := 96) (by decide +kernel)]
set_option maxRecDepth 20000 in
theorem f_MF2 {h : qH} {x : Int} : a_M q_SP 557 25961484292674138142652481647149503 x h = p_MF2 (m_ac (m_gh h) 15 0 96) (m_ac (m_gh h) 505 0 96) x := by
  show p_MF2 (m_ac (a_gm q_SP 557 25961484292674138142652481647149503 h) 15 0 96) (m_ac (a_gm q_SP 557 25961484292674138142652481647149503 h) 505 0 96) x = _
  rw [m_ga (code := 25961484292674138142652481647149503) (c := 15) (off := 0) (n := 96) (by decide +kernel), m_ga (code := 25961484292674138142652481647149503) (c := 505) (off := 0) (n := 96) (by decide +kernel)]
set_option maxRecDepth 20000 in
theorem f_MF3 {h : qH} {x : Int} : a_M q_SP 557 46730671726813448656774466964029888 x h = p_MF3 (m_ac (m_gh h) 15 0 96) (m_ac (m_gh h) 525 0 96) x := by
  show p_MF3 (m_ac (a_gm q_SP 557 46730671726813448656774466964029888 h) 15 0 96) (m_ac (a_gm q_SP 557 46730671726813448656774466964029888 h) 525 0 96) x = _
  rw [m_ga (code := 46730671726813448656774466964029888) (c := 15) (off := 0) (n := 96) (by decide +kernel), m_ga (code := 46730671726813448656774466964029888) (c := 525) (off := 0) (n := 96) (by decide +kernel)]
