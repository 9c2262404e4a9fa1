-- 68a1.facts: the facts in numbers (printed by wip/p5/gen68.py)
set_option maxRecDepth 20000 in
theorem f_M1 {h : qH} {x : Int} : a_M q_SP 557 8238661671 x h = p_M1 (m_gh h 539 0) (m_gh h 539 1) (m_ac (m_gh h) 539 49 96) (m_ac (m_gh h) 545 0 96) (m_gh h 539 2) (m_ac (m_gh h) 539 7 6) (m_ac (m_gh h) 543 0 1344) (m_ac (m_gh h) 544 0 1344) (m_ac (m_gh h) 546 0 1344) (m_gh h 534 29) x := by
  show p_M1 (a_gm q_SP 557 8238661671 h 539 0) (a_gm q_SP 557 8238661671 h 539 1) (m_ac (a_gm q_SP 557 8238661671 h) 539 49 96) (m_ac (a_gm q_SP 557 8238661671 h) 545 0 96) (a_gm q_SP 557 8238661671 h 539 2) (m_ac (a_gm q_SP 557 8238661671 h) 539 7 6) (m_ac (a_gm q_SP 557 8238661671 h) 543 0 1344) (m_ac (a_gm q_SP 557 8238661671 h) 544 0 1344) (m_ac (a_gm q_SP 557 8238661671 h) 546 0 1344) (a_gm q_SP 557 8238661671 h 534 29) x = _
  rw [m_gs (code := 8238661671) (c := 539) (j := 0) (by decide +kernel), m_gs (code := 8238661671) (c := 539) (j := 1) (by decide +kernel), m_ga (code := 8238661671) (c := 539) (off := 49) (n := 96) (by decide +kernel), m_ga (code := 8238661671) (c := 545) (off := 0) (n := 96) (by decide +kernel), m_gs (code := 8238661671) (c := 539) (j := 2) (by decide +kernel), m_ga (code := 8238661671) (c := 539) (off := 7) (n := 6) (by decide +kernel), m_ga (code := 8238661671) (c := 543) (off := 0) (n := 1344) (by decide +kernel), m_ga (code := 8238661671) (c := 544) (off := 0) (n := 1344) (by decide +kernel), m_ga (code := 8238661671) (c := 546) (off := 0) (n := 1344) (by decide +kernel), m_gs (code := 8238661671) (c := 534) (j := 29) (by decide +kernel)]
set_option maxRecDepth 20000 in
theorem f_NW {h : qH} {x : Int} : a_M q_SP 557 4883218472 x h = p_NW (m_gh h 539 0) (m_gh h 539 2) (m_ac (m_gh h) 539 7 6) (m_ac (m_gh h) 543 0 1344) (m_ac (m_gh h) 546 0 1344) (m_gh h 534 29) x := by
  show p_NW (a_gm q_SP 557 4883218472 h 539 0) (a_gm q_SP 557 4883218472 h 539 2) (m_ac (a_gm q_SP 557 4883218472 h) 539 7 6) (m_ac (a_gm q_SP 557 4883218472 h) 543 0 1344) (m_ac (a_gm q_SP 557 4883218472 h) 546 0 1344) (a_gm q_SP 557 4883218472 h 534 29) x = _
  rw [m_gs (code := 4883218472) (c := 539) (j := 0) (by decide +kernel), m_gs (code := 4883218472) (c := 539) (j := 2) (by decide +kernel), m_ga (code := 4883218472) (c := 539) (off := 7) (n := 6) (by decide +kernel), m_ga (code := 4883218472) (c := 543) (off := 0) (n := 1344) (by decide +kernel), m_ga (code := 4883218472) (c := 546) (off := 0) (n := 1344) (by decide +kernel), m_gs (code := 4883218472) (c := 534) (j := 29) (by decide +kernel)]
set_option maxRecDepth 20000 in
theorem f_M2 {h : qH} {x : Int} : a_M q_SP 557 4883218473 x h = p_M2 (m_gh h 539 0) (m_gh h 539 2) (m_ac (m_gh h) 539 7 6) (m_ac (m_gh h) 543 0 1344) (m_ac (m_gh h) 546 0 1344) (m_gh h 534 29) x := by
  show p_M2 (a_gm q_SP 557 4883218473 h 539 0) (a_gm q_SP 557 4883218473 h 539 2) (m_ac (a_gm q_SP 557 4883218473 h) 539 7 6) (m_ac (a_gm q_SP 557 4883218473 h) 543 0 1344) (m_ac (a_gm q_SP 557 4883218473 h) 546 0 1344) (a_gm q_SP 557 4883218473 h 534 29) x = _
  rw [m_gs (code := 4883218473) (c := 539) (j := 0) (by decide +kernel), m_gs (code := 4883218473) (c := 539) (j := 2) (by decide +kernel), m_ga (code := 4883218473) (c := 539) (off := 7) (n := 6) (by decide +kernel), m_ga (code := 4883218473) (c := 543) (off := 0) (n := 1344) (by decide +kernel), m_ga (code := 4883218473) (c := 546) (off := 0) (n := 1344) (by decide +kernel), m_gs (code := 4883218473) (c := 534) (j := 29) (by decide +kernel)]
set_option maxRecDepth 20000 in
theorem f_NO {h : qH} {x : Int} : a_M q_SP 557 1661993002 x h = p_NO (m_gh h 539 0) (m_gh h 539 2) (m_ac (m_gh h) 539 7 6) (m_ac (m_gh h) 543 0 1344) (m_ac (m_gh h) 544 0 1344) (m_gh h 534 29) x := by
  show p_NO (a_gm q_SP 557 1661993002 h 539 0) (a_gm q_SP 557 1661993002 h 539 2) (m_ac (a_gm q_SP 557 1661993002 h) 539 7 6) (m_ac (a_gm q_SP 557 1661993002 h) 543 0 1344) (m_ac (a_gm q_SP 557 1661993002 h) 544 0 1344) (a_gm q_SP 557 1661993002 h 534 29) x = _
  rw [m_gs (code := 1661993002) (c := 539) (j := 0) (by decide +kernel), m_gs (code := 1661993002) (c := 539) (j := 2) (by decide +kernel), m_ga (code := 1661993002) (c := 539) (off := 7) (n := 6) (by decide +kernel), m_ga (code := 1661993002) (c := 543) (off := 0) (n := 1344) (by decide +kernel), m_ga (code := 1661993002) (c := 544) (off := 0) (n := 1344) (by decide +kernel), m_gs (code := 1661993002) (c := 534) (j := 29) (by decide +kernel)]
set_option maxRecDepth 20000 in
theorem f_OP {h : qH} {x : Int} : a_M q_SP 557 1661993003 x h = p_OP (m_gh h 539 0) (m_gh h 539 2) (m_ac (m_gh h) 539 7 6) (m_ac (m_gh h) 543 0 1344) (m_ac (m_gh h) 544 0 1344) (m_gh h 534 29) x := by
  show p_OP (a_gm q_SP 557 1661993003 h 539 0) (a_gm q_SP 557 1661993003 h 539 2) (m_ac (a_gm q_SP 557 1661993003 h) 539 7 6) (m_ac (a_gm q_SP 557 1661993003 h) 543 0 1344) (m_ac (a_gm q_SP 557 1661993003 h) 544 0 1344) (a_gm q_SP 557 1661993003 h 534 29) x = _
  rw [m_gs (code := 1661993003) (c := 539) (j := 0) (by decide +kernel), m_gs (code := 1661993003) (c := 539) (j := 2) (by decide +kernel), m_ga (code := 1661993003) (c := 539) (off := 7) (n := 6) (by decide +kernel), m_ga (code := 1661993003) (c := 543) (off := 0) (n := 1344) (by decide +kernel), m_ga (code := 1661993003) (c := 544) (off := 0) (n := 1344) (by decide +kernel), m_gs (code := 1661993003) (c := 534) (j := 29) (by decide +kernel)]
set_option maxRecDepth 20000 in
theorem f_NB {h : qH} {x : Int} : a_M q_SP 557 3809476652 x h = p_NB (m_gh h 539 0) (m_ac (m_gh h) 545 0 96) (m_ac (m_gh h) 543 0 1344) (m_ac (m_gh h) 544 0 1344) (m_gh h 534 29) x := by
  show p_NB (a_gm q_SP 557 3809476652 h 539 0) (m_ac (a_gm q_SP 557 3809476652 h) 545 0 96) (m_ac (a_gm q_SP 557 3809476652 h) 543 0 1344) (m_ac (a_gm q_SP 557 3809476652 h) 544 0 1344) (a_gm q_SP 557 3809476652 h 534 29) x = _
  rw [m_gs (code := 3809476652) (c := 539) (j := 0) (by decide +kernel), m_ga (code := 3809476652) (c := 545) (off := 0) (n := 96) (by decide +kernel), m_ga (code := 3809476652) (c := 543) (off := 0) (n := 1344) (by decide +kernel), m_ga (code := 3809476652) (c := 544) (off := 0) (n := 1344) (by decide +kernel), m_gs (code := 3809476652) (c := 534) (j := 29) (by decide +kernel)]
set_option maxRecDepth 20000 in
theorem f_OA {h : qH} {x : Int} : a_M q_SP 557 1661993005 x h = p_OA (m_gh h 539 0) (m_ac (m_gh h) 543 0 1344) (m_ac (m_gh h) 544 0 1344) (m_gh h 534 29) x := by
  show p_OA (a_gm q_SP 557 1661993005 h 539 0) (m_ac (a_gm q_SP 557 1661993005 h) 543 0 1344) (m_ac (a_gm q_SP 557 1661993005 h) 544 0 1344) (a_gm q_SP 557 1661993005 h 534 29) x = _
  rw [m_gs (code := 1661993005) (c := 539) (j := 0) (by decide +kernel), m_ga (code := 1661993005) (c := 543) (off := 0) (n := 1344) (by decide +kernel), m_ga (code := 1661993005) (c := 544) (off := 0) (n := 1344) (by decide +kernel), m_gs (code := 1661993005) (c := 534) (j := 29) (by decide +kernel)]
set_option maxRecDepth 20000 in
theorem f_FP {h : qH} {x : Int} : a_M q_SP 557 537919534 x h = p_FP (m_ac (m_gh h) 543 0 1344) x := by
  show p_FP (m_ac (a_gm q_SP 557 537919534 h) 543 0 1344) x = _
  rw [m_ga (code := 537919534) (c := 543) (off := 0) (n := 1344) (by decide +kernel)]
set_option maxRecDepth 20000 in
theorem f_SV {h : qH} {x : Int} : a_M q_SP 557 2718957615 x h = p_SV (m_gh h 539 0) (m_ac (m_gh h) 545 0 96) (m_ac (m_gh h) 543 0 1344) x := by
  show p_SV (a_gm q_SP 557 2718957615 h 539 0) (m_ac (a_gm q_SP 557 2718957615 h) 545 0 96) (m_ac (a_gm q_SP 557 2718957615 h) 543 0 1344) x = _
  rw [m_gs (code := 2718957615) (c := 539) (j := 0) (by decide +kernel), m_ga (code := 2718957615) (c := 545) (off := 0) (n := 96) (by decide +kernel), m_ga (code := 2718957615) (c := 543) (off := 0) (n := 1344) (by decide +kernel)]
set_option maxRecDepth 20000 in
theorem f_RC {h : qH} {x : Int} : a_M q_SP 557 1099512676400 x h = p_RC (m_ac (m_gh h) 553 0 96) x := by
  show p_RC (m_ac (a_gm q_SP 557 1099512676400 h) 553 0 96) x = _
  rw [m_ga (code := 1099512676400) (c := 553) (off := 0) (n := 96) (by decide +kernel)]
set_option maxRecDepth 20000 in
theorem f_RD {h : qH} {x : Int} : a_M q_SP 557 1099512676401 x h = p_RD (m_ac (m_gh h) 553 0 96) x := by
  show p_RD (m_ac (a_gm q_SP 557 1099512676401 h) 553 0 96) x = _
  rw [m_ga (code := 1099512676401) (c := 553) (off := 0) (n := 96) (by decide +kernel)]
set_option maxRecDepth 20000 in
theorem f_XX {h : qH} {x : Int} : a_M q_SP 557 1048626 x h = p_XX  x := by
  show p_XX  x = _
  rfl
set_option maxRecDepth 20000 in
theorem f_XO {h : qH} {x : Int} : a_M q_SP 557 1048627 x h = p_XO  x := by
  show p_XO  x = _
  rfl
set_option maxRecDepth 20000 in
theorem f_PX {h : qH} {x : Int} : a_M q_SP 557 1099512676404 x h = p_PX (m_ac (m_gh h) 553 0 96) x := by
  show p_PX (m_ac (a_gm q_SP 557 1099512676404 h) 553 0 96) x = _
  rw [m_ga (code := 1099512676404) (c := 553) (off := 0) (n := 96) (by decide +kernel)]
set_option maxRecDepth 20000 in
theorem f_QQ {h : qH} {x : Int} : a_M q_SP 557 3809476661 x h = p_QQ (m_gh h 539 0) (m_ac (m_gh h) 545 0 96) (m_gh h 539 2) (m_ac (m_gh h) 539 7 6) (m_ac (m_gh h) 543 0 1344) (m_ac (m_gh h) 544 0 1344) (m_gh h 534 29) x := by
  show p_QQ (a_gm q_SP 557 3809476661 h 539 0) (m_ac (a_gm q_SP 557 3809476661 h) 545 0 96) (a_gm q_SP 557 3809476661 h 539 2) (m_ac (a_gm q_SP 557 3809476661 h) 539 7 6) (m_ac (a_gm q_SP 557 3809476661 h) 543 0 1344) (m_ac (a_gm q_SP 557 3809476661 h) 544 0 1344) (a_gm q_SP 557 3809476661 h 534 29) x = _
  rw [m_gs (code := 3809476661) (c := 539) (j := 0) (by decide +kernel), m_ga (code := 3809476661) (c := 545) (off := 0) (n := 96) (by decide +kernel), m_gs (code := 3809476661) (c := 539) (j := 2) (by decide +kernel), m_ga (code := 3809476661) (c := 539) (off := 7) (n := 6) (by decide +kernel), m_ga (code := 3809476661) (c := 543) (off := 0) (n := 1344) (by decide +kernel), m_ga (code := 3809476661) (c := 544) (off := 0) (n := 1344) (by decide +kernel), m_gs (code := 3809476661) (c := 534) (j := 29) (by decide +kernel)]
set_option maxRecDepth 20000 in
theorem f_TQ {h : qH} {x : Int} : a_M q_SP 557 4323473234462769252 x h = p_TQ (m_ac (m_gh h) 467 0 60) (m_ac (m_gh h) 469 0 60) (m_ac (m_gh h) 471 0 60) (m_ac (m_gh h) 473 0 60) (m_ac (m_gh h) 537 0 240) x := by
  show p_TQ (m_ac (a_gm q_SP 557 4323473234462769252 h) 467 0 60) (m_ac (a_gm q_SP 557 4323473234462769252 h) 469 0 60) (m_ac (a_gm q_SP 557 4323473234462769252 h) 471 0 60) (m_ac (a_gm q_SP 557 4323473234462769252 h) 473 0 60) (m_ac (a_gm q_SP 557 4323473234462769252 h) 537 0 240) x = _
  rw [m_ga (code := 4323473234462769252) (c := 467) (off := 0) (n := 60) (by decide +kernel), m_ga (code := 4323473234462769252) (c := 469) (off := 0) (n := 60) (by decide +kernel), m_ga (code := 4323473234462769252) (c := 471) (off := 0) (n := 60) (by decide +kernel), m_ga (code := 4323473234462769252) (c := 473) (off := 0) (n := 60) (by decide +kernel), m_ga (code := 4323473234462769252) (c := 537) (off := 0) (n := 240) (by decide +kernel)]
set_option maxRecDepth 20000 in
theorem f_XW {h : qH} {x : Int} : a_M q_SP 557 1048677 x h = p_XW  x := by
  show p_XW  x = _
  rfl
set_option maxRecDepth 20000 in
theorem f_LI {h : qH} {x : Int} : a_M q_SP 557 1048678 x h = p_LI  x := by
  show p_LI  x = _
  rfl
set_option maxRecDepth 20000 in
theorem f_CV0 {h : qH} {x : Int} : a_M q_SP 557 1048679 x h = p_CV0  x := by
  show p_CV0  x = _
  rfl
set_option maxRecDepth 20000 in
theorem f_CV1 {h : qH} {x : Int} : a_M q_SP 557 1048680 x h = p_CV1  x := by
  show p_CV1  x = _
  rfl
set_option maxRecDepth 20000 in
theorem f_CV2 {h : qH} {x : Int} : a_M q_SP 557 1048681 x h = p_CV2  x := by
  show p_CV2  x = _
  rfl
set_option maxRecDepth 20000 in
theorem f_CR0 {h : qH} {x : Int} : a_M q_SP 557 1048682 x h = p_CR0  x := by
  show p_CR0  x = _
  rfl
set_option maxRecDepth 20000 in
theorem f_CR1 {h : qH} {x : Int} : a_M q_SP 557 1048683 x h = p_CR1  x := by
  show p_CR1  x = _
  rfl
set_option maxRecDepth 20000 in
theorem f_CR2 {h : qH} {x : Int} : a_M q_SP 557 1048684 x h = p_CR2  x := by
  show p_CR2  x = _
  rfl
set_option maxRecDepth 20000 in
theorem f_TE0 {h : qH} {x : Int} : a_M q_SP 557 4035242858311057518 x h = p_TE0 (m_ac (m_gh h) 469 0 60) (m_ac (m_gh h) 471 0 60) (m_ac (m_gh h) 473 0 60) (m_ac (m_gh h) 537 0 240) x := by
  show p_TE0 (m_ac (a_gm q_SP 557 4035242858311057518 h) 469 0 60) (m_ac (a_gm q_SP 557 4035242858311057518 h) 471 0 60) (m_ac (a_gm q_SP 557 4035242858311057518 h) 473 0 60) (m_ac (a_gm q_SP 557 4035242858311057518 h) 537 0 240) x = _
  rw [m_ga (code := 4035242858311057518) (c := 469) (off := 0) (n := 60) (by decide +kernel), m_ga (code := 4035242858311057518) (c := 471) (off := 0) (n := 60) (by decide +kernel), m_ga (code := 4035242858311057518) (c := 473) (off := 0) (n := 60) (by decide +kernel), m_ga (code := 4035242858311057518) (c := 537) (off := 0) (n := 240) (by decide +kernel)]
set_option maxRecDepth 20000 in
theorem f_TZ0 {h : qH} {x : Int} : a_M q_SP 557 288230376152760434 x h = p_TZ0 (m_ac (m_gh h) 467 0 60) x := by
  show p_TZ0 (m_ac (a_gm q_SP 557 288230376152760434 h) 467 0 60) x = _
  rw [m_ga (code := 288230376152760434) (c := 467) (off := 0) (n := 60) (by decide +kernel)]
set_option maxRecDepth 20000 in
theorem f_TM0 {h : qH} {x : Int} : a_M q_SP 557 17592187093110 x h = p_TM0 (m_ac (m_gh h) 537 0 240) x := by
  show p_TM0 (m_ac (a_gm q_SP 557 17592187093110 h) 537 0 240) x = _
  rw [m_ga (code := 17592187093110) (c := 537) (off := 0) (n := 240) (by decide +kernel)]
set_option maxRecDepth 20000 in
theorem f_EX0 {h : qH} {x : Int} : a_M q_SP 557 4323473234462769274 x h = p_EX0 (m_ac (m_gh h) 467 0 60) (m_ac (m_gh h) 469 0 60) (m_ac (m_gh h) 471 0 60) (m_ac (m_gh h) 473 0 60) (m_ac (m_gh h) 537 0 240) x := by
  show p_EX0 (m_ac (a_gm q_SP 557 4323473234462769274 h) 467 0 60) (m_ac (a_gm q_SP 557 4323473234462769274 h) 469 0 60) (m_ac (a_gm q_SP 557 4323473234462769274 h) 471 0 60) (m_ac (a_gm q_SP 557 4323473234462769274 h) 473 0 60) (m_ac (a_gm q_SP 557 4323473234462769274 h) 537 0 240) x = _
  rw [m_ga (code := 4323473234462769274) (c := 467) (off := 0) (n := 60) (by decide +kernel), m_ga (code := 4323473234462769274) (c := 469) (off := 0) (n := 60) (by decide +kernel), m_ga (code := 4323473234462769274) (c := 471) (off := 0) (n := 60) (by decide +kernel), m_ga (code := 4323473234462769274) (c := 473) (off := 0) (n := 60) (by decide +kernel), m_ga (code := 4323473234462769274) (c := 537) (off := 0) (n := 240) (by decide +kernel)]
set_option maxRecDepth 20000 in
theorem f_NV0 {h : qH} {x : Int} : a_M q_SP 557 288230376152760446 x h = p_NV0 (m_ac (m_gh h) 467 0 60) x := by
  show p_NV0 (m_ac (a_gm q_SP 557 288230376152760446 h) 467 0 60) x = _
  rw [m_ga (code := 288230376152760446) (c := 467) (off := 0) (n := 60) (by decide +kernel)]
set_option maxRecDepth 20000 in
theorem f_TE1 {h : qH} {x : Int} : a_M q_SP 557 3747012482159345775 x h = p_TE1 (m_ac (m_gh h) 467 0 60) (m_ac (m_gh h) 471 0 60) (m_ac (m_gh h) 473 0 60) (m_ac (m_gh h) 537 0 240) x := by
  show p_TE1 (m_ac (a_gm q_SP 557 3747012482159345775 h) 467 0 60) (m_ac (a_gm q_SP 557 3747012482159345775 h) 471 0 60) (m_ac (a_gm q_SP 557 3747012482159345775 h) 473 0 60) (m_ac (a_gm q_SP 557 3747012482159345775 h) 537 0 240) x = _
  rw [m_ga (code := 3747012482159345775) (c := 467) (off := 0) (n := 60) (by decide +kernel), m_ga (code := 3747012482159345775) (c := 471) (off := 0) (n := 60) (by decide +kernel), m_ga (code := 3747012482159345775) (c := 473) (off := 0) (n := 60) (by decide +kernel), m_ga (code := 3747012482159345775) (c := 537) (off := 0) (n := 240) (by decide +kernel)]
set_option maxRecDepth 20000 in
theorem f_TZ1 {h : qH} {x : Int} : a_M q_SP 557 576460752304472179 x h = p_TZ1 (m_ac (m_gh h) 469 0 60) x := by
  show p_TZ1 (m_ac (a_gm q_SP 557 576460752304472179 h) 469 0 60) x = _
  rw [m_ga (code := 576460752304472179) (c := 469) (off := 0) (n := 60) (by decide +kernel)]
set_option maxRecDepth 20000 in
theorem f_TM1 {h : qH} {x : Int} : a_M q_SP 557 17592187093111 x h = p_TM1 (m_ac (m_gh h) 537 0 240) x := by
  show p_TM1 (m_ac (a_gm q_SP 557 17592187093111 h) 537 0 240) x = _
  rw [m_ga (code := 17592187093111) (c := 537) (off := 0) (n := 240) (by decide +kernel)]
set_option maxRecDepth 20000 in
theorem f_EX1 {h : qH} {x : Int} : a_M q_SP 557 4323473234462769275 x h = p_EX1 (m_ac (m_gh h) 467 0 60) (m_ac (m_gh h) 469 0 60) (m_ac (m_gh h) 471 0 60) (m_ac (m_gh h) 473 0 60) (m_ac (m_gh h) 537 0 240) x := by
  show p_EX1 (m_ac (a_gm q_SP 557 4323473234462769275 h) 467 0 60) (m_ac (a_gm q_SP 557 4323473234462769275 h) 469 0 60) (m_ac (a_gm q_SP 557 4323473234462769275 h) 471 0 60) (m_ac (a_gm q_SP 557 4323473234462769275 h) 473 0 60) (m_ac (a_gm q_SP 557 4323473234462769275 h) 537 0 240) x = _
  rw [m_ga (code := 4323473234462769275) (c := 467) (off := 0) (n := 60) (by decide +kernel), m_ga (code := 4323473234462769275) (c := 469) (off := 0) (n := 60) (by decide +kernel), m_ga (code := 4323473234462769275) (c := 471) (off := 0) (n := 60) (by decide +kernel), m_ga (code := 4323473234462769275) (c := 473) (off := 0) (n := 60) (by decide +kernel), m_ga (code := 4323473234462769275) (c := 537) (off := 0) (n := 240) (by decide +kernel)]
set_option maxRecDepth 20000 in
theorem f_NV1 {h : qH} {x : Int} : a_M q_SP 557 576460752304472191 x h = p_NV1 (m_ac (m_gh h) 469 0 60) x := by
  show p_NV1 (m_ac (a_gm q_SP 557 576460752304472191 h) 469 0 60) x = _
  rw [m_ga (code := 576460752304472191) (c := 469) (off := 0) (n := 60) (by decide +kernel)]
set_option maxRecDepth 20000 in
theorem f_TE2 {h : qH} {x : Int} : a_M q_SP 557 3170551729855922288 x h = p_TE2 (m_ac (m_gh h) 467 0 60) (m_ac (m_gh h) 469 0 60) (m_ac (m_gh h) 473 0 60) (m_ac (m_gh h) 537 0 240) x := by
  show p_TE2 (m_ac (a_gm q_SP 557 3170551729855922288 h) 467 0 60) (m_ac (a_gm q_SP 557 3170551729855922288 h) 469 0 60) (m_ac (a_gm q_SP 557 3170551729855922288 h) 473 0 60) (m_ac (a_gm q_SP 557 3170551729855922288 h) 537 0 240) x = _
  rw [m_ga (code := 3170551729855922288) (c := 467) (off := 0) (n := 60) (by decide +kernel), m_ga (code := 3170551729855922288) (c := 469) (off := 0) (n := 60) (by decide +kernel), m_ga (code := 3170551729855922288) (c := 473) (off := 0) (n := 60) (by decide +kernel), m_ga (code := 3170551729855922288) (c := 537) (off := 0) (n := 240) (by decide +kernel)]
set_option maxRecDepth 20000 in
theorem f_TZ2 {h : qH} {x : Int} : a_M q_SP 557 1152921504607895668 x h = p_TZ2 (m_ac (m_gh h) 471 0 60) x := by
  show p_TZ2 (m_ac (a_gm q_SP 557 1152921504607895668 h) 471 0 60) x = _
  rw [m_ga (code := 1152921504607895668) (c := 471) (off := 0) (n := 60) (by decide +kernel)]
set_option maxRecDepth 20000 in
theorem f_TM2 {h : qH} {x : Int} : a_M q_SP 557 17592187093112 x h = p_TM2 (m_ac (m_gh h) 537 0 240) x := by
  show p_TM2 (m_ac (a_gm q_SP 557 17592187093112 h) 537 0 240) x = _
  rw [m_ga (code := 17592187093112) (c := 537) (off := 0) (n := 240) (by decide +kernel)]
set_option maxRecDepth 20000 in
theorem f_EX2 {h : qH} {x : Int} : a_M q_SP 557 4323473234462769276 x h = p_EX2 (m_ac (m_gh h) 467 0 60) (m_ac (m_gh h) 469 0 60) (m_ac (m_gh h) 471 0 60) (m_ac (m_gh h) 473 0 60) (m_ac (m_gh h) 537 0 240) x := by
  show p_EX2 (m_ac (a_gm q_SP 557 4323473234462769276 h) 467 0 60) (m_ac (a_gm q_SP 557 4323473234462769276 h) 469 0 60) (m_ac (a_gm q_SP 557 4323473234462769276 h) 471 0 60) (m_ac (a_gm q_SP 557 4323473234462769276 h) 473 0 60) (m_ac (a_gm q_SP 557 4323473234462769276 h) 537 0 240) x = _
  rw [m_ga (code := 4323473234462769276) (c := 467) (off := 0) (n := 60) (by decide +kernel), m_ga (code := 4323473234462769276) (c := 469) (off := 0) (n := 60) (by decide +kernel), m_ga (code := 4323473234462769276) (c := 471) (off := 0) (n := 60) (by decide +kernel), m_ga (code := 4323473234462769276) (c := 473) (off := 0) (n := 60) (by decide +kernel), m_ga (code := 4323473234462769276) (c := 537) (off := 0) (n := 240) (by decide +kernel)]
set_option maxRecDepth 20000 in
theorem f_NV2 {h : qH} {x : Int} : a_M q_SP 557 1152921504607895680 x h = p_NV2 (m_ac (m_gh h) 471 0 60) x := by
  show p_NV2 (m_ac (a_gm q_SP 557 1152921504607895680 h) 471 0 60) x = _
  rw [m_ga (code := 1152921504607895680) (c := 471) (off := 0) (n := 60) (by decide +kernel)]
set_option maxRecDepth 20000 in
theorem f_TE3 {h : qH} {x : Int} : a_M q_SP 557 2017630225249075313 x h = p_TE3 (m_ac (m_gh h) 467 0 60) (m_ac (m_gh h) 469 0 60) (m_ac (m_gh h) 471 0 60) (m_ac (m_gh h) 537 0 240) x := by
  show p_TE3 (m_ac (a_gm q_SP 557 2017630225249075313 h) 467 0 60) (m_ac (a_gm q_SP 557 2017630225249075313 h) 469 0 60) (m_ac (a_gm q_SP 557 2017630225249075313 h) 471 0 60) (m_ac (a_gm q_SP 557 2017630225249075313 h) 537 0 240) x = _
  rw [m_ga (code := 2017630225249075313) (c := 467) (off := 0) (n := 60) (by decide +kernel), m_ga (code := 2017630225249075313) (c := 469) (off := 0) (n := 60) (by decide +kernel), m_ga (code := 2017630225249075313) (c := 471) (off := 0) (n := 60) (by decide +kernel), m_ga (code := 2017630225249075313) (c := 537) (off := 0) (n := 240) (by decide +kernel)]
set_option maxRecDepth 20000 in
theorem f_TZ3 {h : qH} {x : Int} : a_M q_SP 557 2305843009214742645 x h = p_TZ3 (m_ac (m_gh h) 473 0 60) x := by
  show p_TZ3 (m_ac (a_gm q_SP 557 2305843009214742645 h) 473 0 60) x = _
  rw [m_ga (code := 2305843009214742645) (c := 473) (off := 0) (n := 60) (by decide +kernel)]
set_option maxRecDepth 20000 in
theorem f_TM3 {h : qH} {x : Int} : a_M q_SP 557 17592187093113 x h = p_TM3 (m_ac (m_gh h) 537 0 240) x := by
  show p_TM3 (m_ac (a_gm q_SP 557 17592187093113 h) 537 0 240) x = _
  rw [m_ga (code := 17592187093113) (c := 537) (off := 0) (n := 240) (by decide +kernel)]
set_option maxRecDepth 20000 in
theorem f_EX3 {h : qH} {x : Int} : a_M q_SP 557 4323473234462769277 x h = p_EX3 (m_ac (m_gh h) 467 0 60) (m_ac (m_gh h) 469 0 60) (m_ac (m_gh h) 471 0 60) (m_ac (m_gh h) 473 0 60) (m_ac (m_gh h) 537 0 240) x := by
  show p_EX3 (m_ac (a_gm q_SP 557 4323473234462769277 h) 467 0 60) (m_ac (a_gm q_SP 557 4323473234462769277 h) 469 0 60) (m_ac (a_gm q_SP 557 4323473234462769277 h) 471 0 60) (m_ac (a_gm q_SP 557 4323473234462769277 h) 473 0 60) (m_ac (a_gm q_SP 557 4323473234462769277 h) 537 0 240) x = _
  rw [m_ga (code := 4323473234462769277) (c := 467) (off := 0) (n := 60) (by decide +kernel), m_ga (code := 4323473234462769277) (c := 469) (off := 0) (n := 60) (by decide +kernel), m_ga (code := 4323473234462769277) (c := 471) (off := 0) (n := 60) (by decide +kernel), m_ga (code := 4323473234462769277) (c := 473) (off := 0) (n := 60) (by decide +kernel), m_ga (code := 4323473234462769277) (c := 537) (off := 0) (n := 240) (by decide +kernel)]
set_option maxRecDepth 20000 in
theorem f_NV3 {h : qH} {x : Int} : a_M q_SP 557 2305843009214742657 x h = p_NV3 (m_ac (m_gh h) 473 0 60) x := by
  show p_NV3 (m_ac (a_gm q_SP 557 2305843009214742657 h) 473 0 60) x = _
  rw [m_ga (code := 2305843009214742657) (c := 473) (off := 0) (n := 60) (by decide +kernel)]
set_option maxRecDepth 20000 in
theorem f_NL {h : qH} {x : Int} : a_M q_SP 557 17592187093125 x h = p_NL (m_ac (m_gh h) 537 0 240) x := by
  show p_NL (m_ac (a_gm q_SP 557 17592187093125 h) 537 0 240) x = _
  rw [m_ga (code := 17592187093125) (c := 537) (off := 0) (n := 240) (by decide +kernel)]
