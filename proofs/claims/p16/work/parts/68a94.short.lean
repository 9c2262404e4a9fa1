-- 68a94.short: what the rules use (printed by wip/p5/gen68.py)
theorem e5_546_R0 {h h' : qH} {x : Nat → Int} {F : aF} (h1 : m_one h h' 546 (x 0).toNat (3, a_W (x 1))) (i1 : 0 ≤ x 0) (i2 : x 0 < 1344) (v1 : -9223372036854775808 ≤ x 1) (v2 : x 1 < 9223372036854775808) (hp : p_R0 (m_gh h 539 0) (m_gh h 539 1) (m_ac (m_gh h) 539 49 96) (m_gh h 539 2) (m_ac (m_gh h) 539 7 6) (m_ac (m_gh h) 543 0 1344) (m_up (m_ac (m_gh h) 546 0 1344) (x 0) (x 1)) (m_ep x F)) : a_Rc q_SP 557 h' x 5000658970 F := by
  refine m_eR rfl ?_
  rw [f_R0, m_us h1 (d := 539) (q := 0) (by decide +kernel), m_us h1 (d := 539) (q := 1) (by decide +kernel), m_ua h1 (d := 539) (off := 49) (n := 96) (by decide +kernel), m_us h1 (d := 539) (q := 2) (by decide +kernel), m_ua h1 (d := 539) (off := 7) (n := 6) (by decide +kernel), m_ua h1 (d := 543) (off := 0) (n := 1344) (by decide +kernel), m_uc h1 (m_int3 v1 v2) (by decide +kernel) i1 i2]
  exact hp
theorem e1_543_RA {h h' : qH} {x : Nat → Int} {F : aF} (h1 : m_one h h' 543 (x 0).toNat (0, a_w (x 1))) (i1 : 0 ≤ x 0) (i2 : x 0 < 1344) (v1 : -2147483648 ≤ x 1) (v2 : x 1 < 2147483648) (hp : p_RA (m_gh h 539 0) (m_gh h 539 1) (m_ac (m_gh h) 539 49 96) (m_gh h 539 2) (m_ac (m_gh h) 539 7 6) (m_up (m_ac (m_gh h) 543 0 1344) (x 0) (x 1)) (m_ac (m_gh h) 546 0 1344) (m_ep x F)) : a_Rc q_SP 557 h' x 5000658971 F := by
  refine m_eR rfl ?_
  rw [f_RA, m_us h1 (d := 539) (q := 0) (by decide +kernel), m_us h1 (d := 539) (q := 1) (by decide +kernel), m_ua h1 (d := 539) (off := 49) (n := 96) (by decide +kernel), m_us h1 (d := 539) (q := 2) (by decide +kernel), m_ua h1 (d := 539) (off := 7) (n := 6) (by decide +kernel), m_uc h1 (m_int0 v1 v2) (by decide +kernel) i1 i2, m_ua h1 (d := 546) (off := 0) (n := 1344) (by decide +kernel)]
  exact hp
theorem e1_539_TC0 {h h' : qH} {x : Nat → Int} {F : aF} (h1 : m_one h h' 539 (x 0).toNat (0, a_w (x 1))) (i1 : 0 ≤ x 0) (v1 : -2147483648 ≤ x 1) (v2 : x 1 < 2147483648) (hp : p_TC0 (m_gh h 5 0) (m_gh h 5 2) (m_ac (m_gh h) 16 0 96) (m_ac (m_gh h) 17 0 96) (m_upo 0 6 (m_ac (m_gh h) 539 0 6) (x 0) (x 1)) (m_upo 7 42 (m_ac (m_gh h) 539 7 42) (x 0) (x 1)) (m_ep x F)) : a_Rc q_SP 557 h' x 559858382766813229323129979226 F := by
  refine m_eR rfl ?_
  rw [f_TC0, m_us h1 (d := 5) (q := 0) (by decide +kernel), m_us h1 (d := 5) (q := 2) (by decide +kernel), m_ua h1 (d := 16) (off := 0) (n := 96) (by decide +kernel), m_ua h1 (d := 17) (off := 0) (n := 96) (by decide +kernel), m_ucx (off := 0) (n := 6) h1 (m_int0 v1 v2) (by decide +kernel) i1, m_ucx (off := 7) (n := 42) h1 (m_int0 v1 v2) (by decide +kernel) i1]
  exact hp
theorem e5_537_TE0 {h h' : qH} {x : Nat → Int} {F : aF} (h1 : m_one h h' 537 (x 0).toNat (3, a_W (x 1))) (i1 : 0 ≤ x 0) (i2 : x 0 < 240) (v1 : -9223372036854775808 ≤ x 1) (v2 : x 1 < 9223372036854775808) (hp : p_TE0 (m_ac (m_gh h) 469 0 60) (m_ac (m_gh h) 471 0 60) (m_ac (m_gh h) 473 0 60) (m_up (m_ac (m_gh h) 537 0 240) (x 0) (x 1)) (m_ep x F)) : a_Rc q_SP 557 h' x 4035242858311057518 F := by
  refine m_eR rfl ?_
  rw [f_TE0, m_ua h1 (d := 469) (off := 0) (n := 60) (by decide +kernel), m_ua h1 (d := 471) (off := 0) (n := 60) (by decide +kernel), m_ua h1 (d := 473) (off := 0) (n := 60) (by decide +kernel), m_uc h1 (m_int3 v1 v2) (by decide +kernel) i1 i2]
  exact hp
theorem e5_537_TE1 {h h' : qH} {x : Nat → Int} {F : aF} (h1 : m_one h h' 537 (x 0).toNat (3, a_W (x 1))) (i1 : 0 ≤ x 0) (i2 : x 0 < 240) (v1 : -9223372036854775808 ≤ x 1) (v2 : x 1 < 9223372036854775808) (hp : p_TE1 (m_ac (m_gh h) 467 0 60) (m_ac (m_gh h) 471 0 60) (m_ac (m_gh h) 473 0 60) (m_up (m_ac (m_gh h) 537 0 240) (x 0) (x 1)) (m_ep x F)) : a_Rc q_SP 557 h' x 3747012482159345775 F := by
  refine m_eR rfl ?_
  rw [f_TE1, m_ua h1 (d := 467) (off := 0) (n := 60) (by decide +kernel), m_ua h1 (d := 471) (off := 0) (n := 60) (by decide +kernel), m_ua h1 (d := 473) (off := 0) (n := 60) (by decide +kernel), m_uc h1 (m_int3 v1 v2) (by decide +kernel) i1 i2]
  exact hp
theorem e5_537_TE2 {h h' : qH} {x : Nat → Int} {F : aF} (h1 : m_one h h' 537 (x 0).toNat (3, a_W (x 1))) (i1 : 0 ≤ x 0) (i2 : x 0 < 240) (v1 : -9223372036854775808 ≤ x 1) (v2 : x 1 < 9223372036854775808) (hp : p_TE2 (m_ac (m_gh h) 467 0 60) (m_ac (m_gh h) 469 0 60) (m_ac (m_gh h) 473 0 60) (m_up (m_ac (m_gh h) 537 0 240) (x 0) (x 1)) (m_ep x F)) : a_Rc q_SP 557 h' x 3170551729855922288 F := by
  refine m_eR rfl ?_
  rw [f_TE2, m_ua h1 (d := 467) (off := 0) (n := 60) (by decide +kernel), m_ua h1 (d := 469) (off := 0) (n := 60) (by decide +kernel), m_ua h1 (d := 473) (off := 0) (n := 60) (by decide +kernel), m_uc h1 (m_int3 v1 v2) (by decide +kernel) i1 i2]
  exact hp
theorem e5_537_TE3 {h h' : qH} {x : Nat → Int} {F : aF} (h1 : m_one h h' 537 (x 0).toNat (3, a_W (x 1))) (i1 : 0 ≤ x 0) (i2 : x 0 < 240) (v1 : -9223372036854775808 ≤ x 1) (v2 : x 1 < 9223372036854775808) (hp : p_TE3 (m_ac (m_gh h) 467 0 60) (m_ac (m_gh h) 469 0 60) (m_ac (m_gh h) 471 0 60) (m_up (m_ac (m_gh h) 537 0 240) (x 0) (x 1)) (m_ep x F)) : a_Rc q_SP 557 h' x 2017630225249075313 F := by
  refine m_eR rfl ?_
  rw [f_TE3, m_ua h1 (d := 467) (off := 0) (n := 60) (by decide +kernel), m_ua h1 (d := 469) (off := 0) (n := 60) (by decide +kernel), m_ua h1 (d := 471) (off := 0) (n := 60) (by decide +kernel), m_uc h1 (m_int3 v1 v2) (by decide +kernel) i1 i2]
  exact hp
theorem e5_537_TM0 {h h' : qH} {x : Nat → Int} {F : aF} (h1 : m_one h h' 537 (x 0).toNat (3, a_W (x 1))) (i1 : 0 ≤ x 0) (i2 : x 0 < 240) (v1 : -9223372036854775808 ≤ x 1) (v2 : x 1 < 9223372036854775808) (hp : p_TM0 (m_up (m_ac (m_gh h) 537 0 240) (x 0) (x 1)) (m_ep x F)) : a_Rc q_SP 557 h' x 17592187093110 F := by
  refine m_eR rfl ?_
  rw [f_TM0, m_uc h1 (m_int3 v1 v2) (by decide +kernel) i1 i2]
  exact hp
theorem e5_537_TM1 {h h' : qH} {x : Nat → Int} {F : aF} (h1 : m_one h h' 537 (x 0).toNat (3, a_W (x 1))) (i1 : 0 ≤ x 0) (i2 : x 0 < 240) (v1 : -9223372036854775808 ≤ x 1) (v2 : x 1 < 9223372036854775808) (hp : p_TM1 (m_up (m_ac (m_gh h) 537 0 240) (x 0) (x 1)) (m_ep x F)) : a_Rc q_SP 557 h' x 17592187093111 F := by
  refine m_eR rfl ?_
  rw [f_TM1, m_uc h1 (m_int3 v1 v2) (by decide +kernel) i1 i2]
  exact hp
theorem e5_537_TM2 {h h' : qH} {x : Nat → Int} {F : aF} (h1 : m_one h h' 537 (x 0).toNat (3, a_W (x 1))) (i1 : 0 ≤ x 0) (i2 : x 0 < 240) (v1 : -9223372036854775808 ≤ x 1) (v2 : x 1 < 9223372036854775808) (hp : p_TM2 (m_up (m_ac (m_gh h) 537 0 240) (x 0) (x 1)) (m_ep x F)) : a_Rc q_SP 557 h' x 17592187093112 F := by
  refine m_eR rfl ?_
  rw [f_TM2, m_uc h1 (m_int3 v1 v2) (by decide +kernel) i1 i2]
  exact hp
theorem e5_537_TM3 {h h' : qH} {x : Nat → Int} {F : aF} (h1 : m_one h h' 537 (x 0).toNat (3, a_W (x 1))) (i1 : 0 ≤ x 0) (i2 : x 0 < 240) (v1 : -9223372036854775808 ≤ x 1) (v2 : x 1 < 9223372036854775808) (hp : p_TM3 (m_up (m_ac (m_gh h) 537 0 240) (x 0) (x 1)) (m_ep x F)) : a_Rc q_SP 557 h' x 17592187093113 F := by
  refine m_eR rfl ?_
  rw [f_TM3, m_uc h1 (m_int3 v1 v2) (by decide +kernel) i1 i2]
  exact hp
theorem e5_537_TQ {h h' : qH} {x : Nat → Int} {F : aF} (h1 : m_one h h' 537 (x 0).toNat (3, a_W (x 1))) (i1 : 0 ≤ x 0) (i2 : x 0 < 240) (v1 : -9223372036854775808 ≤ x 1) (v2 : x 1 < 9223372036854775808) (hp : p_TQ (m_ac (m_gh h) 467 0 60) (m_ac (m_gh h) 469 0 60) (m_ac (m_gh h) 471 0 60) (m_ac (m_gh h) 473 0 60) (m_up (m_ac (m_gh h) 537 0 240) (x 0) (x 1)) (m_ep x F)) : a_Rc q_SP 557 h' x 4323473234462769252 F := by
  refine m_eR rfl ?_
  rw [f_TQ, m_ua h1 (d := 467) (off := 0) (n := 60) (by decide +kernel), m_ua h1 (d := 469) (off := 0) (n := 60) (by decide +kernel), m_ua h1 (d := 471) (off := 0) (n := 60) (by decide +kernel), m_ua h1 (d := 473) (off := 0) (n := 60) (by decide +kernel), m_uc h1 (m_int3 v1 v2) (by decide +kernel) i1 i2]
  exact hp
theorem e1_37_TSY {h h' : qH} {x : Nat → Int} {F : aF} (h1 : m_one h h' 37 (x 0).toNat (0, a_w (x 1))) (i1 : 0 ≤ x 0) (i2 : x 0 < 96) (v1 : -2147483648 ≤ x 1) (v2 : x 1 < 2147483648) (hp : p_TSY (m_gh h 26 0) (m_gh h 26 1) (m_gh h 26 2) (m_ac (m_gh h) 35 0 96) (m_up (m_ac (m_gh h) 37 0 96) (x 0) (x 1)) (m_ac (m_gh h) 38 0 96) (m_ep x F)) : a_Rc q_SP 557 h' x 272008309413291564309938497 F := by
  refine m_eR rfl ?_
  rw [f_TSY, m_us h1 (d := 26) (q := 0) (by decide +kernel), m_us h1 (d := 26) (q := 1) (by decide +kernel), m_us h1 (d := 26) (q := 2) (by decide +kernel), m_ua h1 (d := 35) (off := 0) (n := 96) (by decide +kernel), m_uc h1 (m_int0 v1 v2) (by decide +kernel) i1 i2, m_ua h1 (d := 38) (off := 0) (n := 96) (by decide +kernel)]
  exact hp
theorem e1_38_TSZ {h h' : qH} {x : Nat → Int} {F : aF} (h1 : m_one h h' 38 (x 0).toNat (0, a_w (x 1))) (i1 : 0 ≤ x 0) (i2 : x 0 < 96) (v1 : -2147483648 ≤ x 1) (v2 : x 1 < 2147483648) (hp : p_TSZ (m_gh h 26 0) (m_gh h 26 1) (m_gh h 26 2) (m_ac (m_gh h) 35 0 96) (m_ac (m_gh h) 37 0 96) (m_up (m_ac (m_gh h) 38 0 96) (x 0) (x 1)) (m_ep x F)) : a_Rc q_SP 557 h' x 272008309413291564309938498 F := by
  refine m_eR rfl ?_
  rw [f_TSZ, m_us h1 (d := 26) (q := 0) (by decide +kernel), m_us h1 (d := 26) (q := 1) (by decide +kernel), m_us h1 (d := 26) (q := 2) (by decide +kernel), m_ua h1 (d := 35) (off := 0) (n := 96) (by decide +kernel), m_ua h1 (d := 37) (off := 0) (n := 96) (by decide +kernel), m_uc h1 (m_int0 v1 v2) (by decide +kernel) i1 i2]
  exact hp
theorem e5_467_TZ0 {h h' : qH} {x : Nat → Int} {F : aF} (h1 : m_one h h' 467 (x 0).toNat (3, a_W (x 1))) (i1 : 0 ≤ x 0) (i2 : x 0 < 60) (v1 : -9223372036854775808 ≤ x 1) (v2 : x 1 < 9223372036854775808) (hp : p_TZ0 (m_up (m_ac (m_gh h) 467 0 60) (x 0) (x 1)) (m_ep x F)) : a_Rc q_SP 557 h' x 288230376152760434 F := by
  refine m_eR rfl ?_
  rw [f_TZ0, m_uc h1 (m_int3 v1 v2) (by decide +kernel) i1 i2]
  exact hp
theorem e5_469_TZ1 {h h' : qH} {x : Nat → Int} {F : aF} (h1 : m_one h h' 469 (x 0).toNat (3, a_W (x 1))) (i1 : 0 ≤ x 0) (i2 : x 0 < 60) (v1 : -9223372036854775808 ≤ x 1) (v2 : x 1 < 9223372036854775808) (hp : p_TZ1 (m_up (m_ac (m_gh h) 469 0 60) (x 0) (x 1)) (m_ep x F)) : a_Rc q_SP 557 h' x 576460752304472179 F := by
  refine m_eR rfl ?_
  rw [f_TZ1, m_uc h1 (m_int3 v1 v2) (by decide +kernel) i1 i2]
  exact hp
theorem e5_471_TZ2 {h h' : qH} {x : Nat → Int} {F : aF} (h1 : m_one h h' 471 (x 0).toNat (3, a_W (x 1))) (i1 : 0 ≤ x 0) (i2 : x 0 < 60) (v1 : -9223372036854775808 ≤ x 1) (v2 : x 1 < 9223372036854775808) (hp : p_TZ2 (m_up (m_ac (m_gh h) 471 0 60) (x 0) (x 1)) (m_ep x F)) : a_Rc q_SP 557 h' x 1152921504607895668 F := by
  refine m_eR rfl ?_
  rw [f_TZ2, m_uc h1 (m_int3 v1 v2) (by decide +kernel) i1 i2]
  exact hp
theorem e5_473_TZ3 {h h' : qH} {x : Nat → Int} {F : aF} (h1 : m_one h h' 473 (x 0).toNat (3, a_W (x 1))) (i1 : 0 ≤ x 0) (i2 : x 0 < 60) (v1 : -9223372036854775808 ≤ x 1) (v2 : x 1 < 9223372036854775808) (hp : p_TZ3 (m_up (m_ac (m_gh h) 473 0 60) (x 0) (x 1)) (m_ep x F)) : a_Rc q_SP 557 h' x 2305843009214742645 F := by
  refine m_eR rfl ?_
  rw [f_TZ3, m_uc h1 (m_int3 v1 v2) (by decide +kernel) i1 i2]
  exact hp
theorem e1_539_ZR {h h' : qH} {x : Nat → Int} {F : aF} (h1 : m_one h h' 539 (x 0).toNat (0, a_w (x 1))) (i1 : 0 ≤ x 0) (v1 : -2147483648 ≤ x 1) (v2 : x 1 < 2147483648) (hp : p_ZR (m_upo 1440 360 (m_ac (m_gh h) 539 1440 360) (x 0) (x 1)) (m_ep x F)) : a_Rc q_SP 557 h' x 1125899907891470 F := by
  refine m_eR rfl ?_
  rw [f_ZR, m_ucx (off := 1440) (n := 360) h1 (m_int0 v1 v2) (by decide +kernel) i1]
  exact hp
