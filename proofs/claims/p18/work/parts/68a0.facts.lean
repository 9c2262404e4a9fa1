-- 68a0.facts: the facts in numbers (printed by wip/p5/gen68.py)
theorem r_cs {h : qH} (hh : a_HI q_SP 557 h) : ∀ i, (0 : Int) ≤ m_ac (m_gh h) 539 7 6 i ∧ m_ac (m_gh h) 539 7 6 i ≤ 16 := m_rng0 hh (by decide +kernel) (by decide)
theorem r_fs {h : qH} (hh : a_HI q_SP 557 h) : ∀ i, (0 : Int) ≤ m_ac (m_gh h) 539 33 8 i ∧ m_ac (m_gh h) 539 33 8 i ≤ 95 := m_rng0 hh (by decide +kernel) (by decide)
theorem r_nt {h : qH} (hh : a_HI q_SP 557 h) : ∀ i, (0 : Int) ≤ m_ac (m_gh h) 539 49 96 i ∧ m_ac (m_gh h) 539 49 96 i ≤ 2 := m_rng0 hh (by decide +kernel) (by decide)
theorem r_fo {h : qH} (hh : a_HI q_SP 557 h) : ∀ i, (0 : Int) ≤ m_ac (m_gh h) 543 0 1344 i ∧ m_ac (m_gh h) 543 0 1344 i ≤ 1000000 := m_rng0 hh (by decide +kernel) (by decide)
theorem r_ft {h : qH} (hh : a_HI q_SP 557 h) : ∀ i, (0 : Int) ≤ m_ac (m_gh h) 544 0 1344 i ∧ m_ac (m_gh h) 544 0 1344 i ≤ 1000000 := m_rng0 hh (by decide +kernel) (by decide)
theorem r_sl {h : qH} (hh : a_HI q_SP 557 h) : ∀ i, (0 : Int) ≤ m_ac (m_gh h) 545 0 96 i ∧ m_ac (m_gh h) 545 0 96 i ≤ 9 := m_rng0 hh (by decide +kernel) (by decide)
theorem r_wt {h : qH} (hh : a_HI q_SP 557 h) : ∀ i, (0 : Int) ≤ m_ac (m_gh h) 546 0 1344 i ∧ m_ac (m_gh h) 546 0 1344 i ≤ 999999 := m_rng1 hh (by decide +kernel) (by decide)
theorem r_rc {h : qH} (hh : a_HI q_SP 557 h) : ∀ i, (0 : Int) ≤ m_ac (m_gh h) 553 0 96 i ∧ m_ac (m_gh h) 553 0 96 i ≤ 13 := m_rng0 hh (by decide +kernel) (by decide)
theorem r_ba {h : qH} (hh : a_HI q_SP 557 h) : ∀ i, (-128 : Int) ≤ m_ac (m_gh h) 3 0 900 i ∧ m_ac (m_gh h) 3 0 900 i ≤ 127 := m_rng0 hh (by decide +kernel) (by decide)
theorem r_bb {h : qH} (hh : a_HI q_SP 557 h) : ∀ i, (-128 : Int) ≤ m_ac (m_gh h) 538 0 900 i ∧ m_ac (m_gh h) 538 0 900 i ≤ 127 := m_rng0 hh (by decide +kernel) (by decide)
theorem r_xe {h : qH} (hh : a_HI q_SP 557 h) : ∀ i, (0 : Int) ≤ m_ac (m_gh h) 35 0 96 i ∧ m_ac (m_gh h) 35 0 96 i ≤ 12 := m_rng0 hh (by decide +kernel) (by decide)
theorem r_xk {h : qH} (hh : a_HI q_SP 557 h) : ∀ i, (0 : Int) ≤ m_ac (m_gh h) 37 0 96 i ∧ m_ac (m_gh h) 37 0 96 i ≤ 13 := m_rng0 hh (by decide +kernel) (by decide)
theorem r_xl {h : qH} (hh : a_HI q_SP 557 h) : ∀ i, (0 : Int) ≤ m_ac (m_gh h) 38 0 96 i ∧ m_ac (m_gh h) 38 0 96 i ≤ 13 := m_rng0 hh (by decide +kernel) (by decide)
theorem r_yk {h : qH} (hh : a_HI q_SP 557 h) : ∀ i, (0 : Int) ≤ m_ac (m_gh h) 16 0 96 i ∧ m_ac (m_gh h) 16 0 96 i ≤ 13 := m_rng0 hh (by decide +kernel) (by decide)
theorem r_yl {h : qH} (hh : a_HI q_SP 557 h) : ∀ i, (0 : Int) ≤ m_ac (m_gh h) 17 0 96 i ∧ m_ac (m_gh h) 17 0 96 i ≤ 13 := m_rng0 hh (by decide +kernel) (by decide)
theorem r_ct {h : qH} (hh : a_HI q_SP 557 h) : ∀ i, (0 : Int) ≤ m_ac (m_gh h) 542 0 96 i ∧ m_ac (m_gh h) 542 0 96 i ≤ 13 := m_rng0 hh (by decide +kernel) (by decide)
set_option maxRecDepth 20000 in
theorem f_LD {h : qH} {x : Int} : a_M q_SP 557 68157450 x h = p_LD (m_ac (m_gh h) 539 33 8) x := by
  show p_LD (m_ac (a_gm q_SP 557 68157450 h) 539 33 8) x = _
  rw [m_ga (code := 68157450) (c := 539) (off := 33) (n := 8) (by decide +kernel)]
set_option maxRecDepth 20000 in
theorem f_FI {h : qH} {x : Int} : a_M q_SP 557 101711883 x h = p_FI (m_gh h 539 5) (m_ac (m_gh h) 539 33 8) x := by
  show p_FI (a_gm q_SP 557 101711883 h 539 5) (m_ac (a_gm q_SP 557 101711883 h) 539 33 8) x = _
  rw [m_gs (code := 101711883) (c := 539) (j := 5) (by decide +kernel), m_ga (code := 101711883) (c := 539) (off := 33) (n := 8) (by decide +kernel)]
set_option maxRecDepth 20000 in
theorem f_YN {h : qH} {x : Int} : a_M q_SP 557 101711884 x h = p_YN (m_gh h 539 5) (m_ac (m_gh h) 539 33 8) x := by
  show p_YN (a_gm q_SP 557 101711884 h 539 5) (m_ac (a_gm q_SP 557 101711884 h) 539 33 8) x = _
  rw [m_gs (code := 101711884) (c := 539) (j := 5) (by decide +kernel), m_ga (code := 101711884) (c := 539) (off := 33) (n := 8) (by decide +kernel)]
set_option maxRecDepth 20000 in
theorem f_AT {h : qH} {x : Int} : a_M q_SP 557 144115188076904461 x h = p_AT (m_ac (m_gh h) 44 0 60) x := by
  show p_AT (m_ac (a_gm q_SP 557 144115188076904461 h) 44 0 60) x = _
  rw [m_ga (code := 144115188076904461) (c := 44) (off := 0) (n := 60) (by decide +kernel)]
set_option maxRecDepth 20000 in
theorem f_AF {h : qH} {x : Int} : a_M q_SP 557 34603022 x h = p_AF (m_gh h 539 0) x := by
  show p_AF (a_gm q_SP 557 34603022 h 539 0) x = _
  rw [m_gs (code := 34603022) (c := 539) (j := 0) (by decide +kernel)]
set_option maxRecDepth 20000 in
theorem f_NT {h : qH} {x : Int} : a_M q_SP 557 135266319 x h = p_NT (m_ac (m_gh h) 539 49 96) x := by
  show p_NT (m_ac (a_gm q_SP 557 135266319 h) 539 49 96) x = _
  rw [m_ga (code := 135266319) (c := 539) (off := 49) (n := 96) (by decide +kernel)]
set_option maxRecDepth 20000 in
theorem f_SU {h : qH} {x : Int} : a_M q_SP 557 168820752 x h = p_SU (m_gh h 539 0) (m_ac (m_gh h) 539 49 96) x := by
  show p_SU (a_gm q_SP 557 168820752 h 539 0) (m_ac (a_gm q_SP 557 168820752 h) 539 49 96) x = _
  rw [m_gs (code := 168820752) (c := 539) (j := 0) (by decide +kernel), m_ga (code := 168820752) (c := 539) (off := 49) (n := 96) (by decide +kernel)]
set_option maxRecDepth 20000 in
theorem f_SL {h : qH} {x : Int} : a_M q_SP 557 2148532241 x h = p_SL (m_ac (m_gh h) 545 0 96) x := by
  show p_SL (m_ac (a_gm q_SP 557 2148532241 h) 545 0 96) x = _
  rw [m_ga (code := 2148532241) (c := 545) (off := 0) (n := 96) (by decide +kernel)]
set_option maxRecDepth 20000 in
theorem f_ST {h : qH} {x : Int} : a_M q_SP 557 2182086674 x h = p_ST (m_gh h 539 0) (m_ac (m_gh h) 545 0 96) x := by
  show p_ST (a_gm q_SP 557 2182086674 h 539 0) (m_ac (a_gm q_SP 557 2182086674 h) 545 0 96) x = _
  rw [m_gs (code := 2182086674) (c := 539) (j := 0) (by decide +kernel), m_ga (code := 2182086674) (c := 545) (off := 0) (n := 96) (by decide +kernel)]
set_option maxRecDepth 20000 in
theorem f_FO {h : qH} {x : Int} : a_M q_SP 557 537919507 x h = p_FO (m_ac (m_gh h) 543 0 1344) x := by
  show p_FO (m_ac (a_gm q_SP 557 537919507 h) 543 0 1344) x = _
  rw [m_ga (code := 537919507) (c := 543) (off := 0) (n := 1344) (by decide +kernel)]
set_option maxRecDepth 20000 in
theorem f_FT {h : qH} {x : Int} : a_M q_SP 557 1074790420 x h = p_FT (m_ac (m_gh h) 544 0 1344) x := by
  show p_FT (m_ac (a_gm q_SP 557 1074790420 h) 544 0 1344) x = _
  rw [m_ga (code := 1074790420) (c := 544) (off := 0) (n := 1344) (by decide +kernel)]
set_option maxRecDepth 20000 in
theorem f_ON {h : qH} {x : Int} : a_M q_SP 557 1628438549 x h = p_ON (m_ac (m_gh h) 543 0 1344) (m_ac (m_gh h) 544 0 1344) (m_gh h 534 29) x := by
  show p_ON (m_ac (a_gm q_SP 557 1628438549 h) 543 0 1344) (m_ac (a_gm q_SP 557 1628438549 h) 544 0 1344) (a_gm q_SP 557 1628438549 h 534 29) x = _
  rw [m_ga (code := 1628438549) (c := 543) (off := 0) (n := 1344) (by decide +kernel), m_ga (code := 1628438549) (c := 544) (off := 0) (n := 1344) (by decide +kernel), m_gs (code := 1628438549) (c := 534) (j := 29) (by decide +kernel)]
set_option maxRecDepth 20000 in
theorem f_PS {h : qH} {x : Int} : a_M q_SP 557 34603030 x h = p_PS (m_ac (m_gh h) 539 7 6) x := by
  show p_PS (m_ac (a_gm q_SP 557 34603030 h) 539 7 6) x = _
  rw [m_ga (code := 34603030) (c := 539) (off := 7) (n := 6) (by decide +kernel)]
set_option maxRecDepth 20000 in
theorem f_NS {h : qH} {x : Int} : a_M q_SP 557 34603031 x h = p_NS (m_gh h 539 2) (m_ac (m_gh h) 539 7 6) x := by
  show p_NS (a_gm q_SP 557 34603031 h 539 2) (m_ac (a_gm q_SP 557 34603031 h) 539 7 6) x = _
  rw [m_gs (code := 34603031) (c := 539) (j := 2) (by decide +kernel), m_ga (code := 34603031) (c := 539) (off := 7) (n := 6) (by decide +kernel)]
set_option maxRecDepth 20000 in
theorem f_BM {h : qH} {x : Int} : a_M q_SP 557 2853175320 x h = p_BM (m_gh h 539 0) (m_ac (m_gh h) 539 49 96) (m_ac (m_gh h) 545 0 96) (m_ac (m_gh h) 543 0 1344) x := by
  show p_BM (a_gm q_SP 557 2853175320 h 539 0) (m_ac (a_gm q_SP 557 2853175320 h) 539 49 96) (m_ac (a_gm q_SP 557 2853175320 h) 545 0 96) (m_ac (a_gm q_SP 557 2853175320 h) 543 0 1344) x = _
  rw [m_gs (code := 2853175320) (c := 539) (j := 0) (by decide +kernel), m_ga (code := 2853175320) (c := 539) (off := 49) (n := 96) (by decide +kernel), m_ga (code := 2853175320) (c := 545) (off := 0) (n := 96) (by decide +kernel), m_ga (code := 2853175320) (c := 543) (off := 0) (n := 1344) (by decide +kernel)]
set_option maxRecDepth 20000 in
theorem f_BE {h : qH} {x : Int} : a_M q_SP 557 2853175321 x h = p_BE (m_gh h 539 0) (m_ac (m_gh h) 539 49 96) (m_ac (m_gh h) 545 0 96) (m_ac (m_gh h) 543 0 1344) x := by
  show p_BE (a_gm q_SP 557 2853175321 h 539 0) (m_ac (a_gm q_SP 557 2853175321 h) 539 49 96) (m_ac (a_gm q_SP 557 2853175321 h) 545 0 96) (m_ac (a_gm q_SP 557 2853175321 h) 543 0 1344) x = _
  rw [m_gs (code := 2853175321) (c := 539) (j := 0) (by decide +kernel), m_ga (code := 2853175321) (c := 539) (off := 49) (n := 96) (by decide +kernel), m_ga (code := 2853175321) (c := 545) (off := 0) (n := 96) (by decide +kernel), m_ga (code := 2853175321) (c := 543) (off := 0) (n := 1344) (by decide +kernel)]
set_option maxRecDepth 20000 in
theorem f_R0 {h : qH} {x : Int} : a_M q_SP 557 5000658970 x h = p_R0 (m_gh h 539 0) (m_gh h 539 1) (m_ac (m_gh h) 539 49 96) (m_gh h 539 2) (m_ac (m_gh h) 539 7 6) (m_ac (m_gh h) 543 0 1344) (m_ac (m_gh h) 546 0 1344) x := by
  show p_R0 (a_gm q_SP 557 5000658970 h 539 0) (a_gm q_SP 557 5000658970 h 539 1) (m_ac (a_gm q_SP 557 5000658970 h) 539 49 96) (a_gm q_SP 557 5000658970 h 539 2) (m_ac (a_gm q_SP 557 5000658970 h) 539 7 6) (m_ac (a_gm q_SP 557 5000658970 h) 543 0 1344) (m_ac (a_gm q_SP 557 5000658970 h) 546 0 1344) x = _
  rw [m_gs (code := 5000658970) (c := 539) (j := 0) (by decide +kernel), m_gs (code := 5000658970) (c := 539) (j := 1) (by decide +kernel), m_ga (code := 5000658970) (c := 539) (off := 49) (n := 96) (by decide +kernel), m_gs (code := 5000658970) (c := 539) (j := 2) (by decide +kernel), m_ga (code := 5000658970) (c := 539) (off := 7) (n := 6) (by decide +kernel), m_ga (code := 5000658970) (c := 543) (off := 0) (n := 1344) (by decide +kernel), m_ga (code := 5000658970) (c := 546) (off := 0) (n := 1344) (by decide +kernel)]
set_option maxRecDepth 20000 in
theorem f_RA {h : qH} {x : Int} : a_M q_SP 557 5000658971 x h = p_RA (m_gh h 539 0) (m_gh h 539 1) (m_ac (m_gh h) 539 49 96) (m_gh h 539 2) (m_ac (m_gh h) 539 7 6) (m_ac (m_gh h) 543 0 1344) (m_ac (m_gh h) 546 0 1344) x := by
  show p_RA (a_gm q_SP 557 5000658971 h 539 0) (a_gm q_SP 557 5000658971 h 539 1) (m_ac (a_gm q_SP 557 5000658971 h) 539 49 96) (a_gm q_SP 557 5000658971 h 539 2) (m_ac (a_gm q_SP 557 5000658971 h) 539 7 6) (m_ac (a_gm q_SP 557 5000658971 h) 543 0 1344) (m_ac (a_gm q_SP 557 5000658971 h) 546 0 1344) x = _
  rw [m_gs (code := 5000658971) (c := 539) (j := 0) (by decide +kernel), m_gs (code := 5000658971) (c := 539) (j := 1) (by decide +kernel), m_ga (code := 5000658971) (c := 539) (off := 49) (n := 96) (by decide +kernel), m_gs (code := 5000658971) (c := 539) (j := 2) (by decide +kernel), m_ga (code := 5000658971) (c := 539) (off := 7) (n := 6) (by decide +kernel), m_ga (code := 5000658971) (c := 543) (off := 0) (n := 1344) (by decide +kernel), m_ga (code := 5000658971) (c := 546) (off := 0) (n := 1344) (by decide +kernel)]
set_option maxRecDepth 20000 in
theorem f_FA {h : qH} {x : Int} : a_M q_SP 557 7148142620 x h = p_FA (m_gh h 539 0) (m_gh h 539 1) (m_ac (m_gh h) 539 49 96) (m_ac (m_gh h) 545 0 96) (m_gh h 539 2) (m_ac (m_gh h) 539 7 6) (m_ac (m_gh h) 543 0 1344) (m_ac (m_gh h) 546 0 1344) x := by
  show p_FA (a_gm q_SP 557 7148142620 h 539 0) (a_gm q_SP 557 7148142620 h 539 1) (m_ac (a_gm q_SP 557 7148142620 h) 539 49 96) (m_ac (a_gm q_SP 557 7148142620 h) 545 0 96) (a_gm q_SP 557 7148142620 h 539 2) (m_ac (a_gm q_SP 557 7148142620 h) 539 7 6) (m_ac (a_gm q_SP 557 7148142620 h) 543 0 1344) (m_ac (a_gm q_SP 557 7148142620 h) 546 0 1344) x = _
  rw [m_gs (code := 7148142620) (c := 539) (j := 0) (by decide +kernel), m_gs (code := 7148142620) (c := 539) (j := 1) (by decide +kernel), m_ga (code := 7148142620) (c := 539) (off := 49) (n := 96) (by decide +kernel), m_ga (code := 7148142620) (c := 545) (off := 0) (n := 96) (by decide +kernel), m_gs (code := 7148142620) (c := 539) (j := 2) (by decide +kernel), m_ga (code := 7148142620) (c := 539) (off := 7) (n := 6) (by decide +kernel), m_ga (code := 7148142620) (c := 543) (off := 0) (n := 1344) (by decide +kernel), m_ga (code := 7148142620) (c := 546) (off := 0) (n := 1344) (by decide +kernel)]
set_option maxRecDepth 20000 in
theorem f_FB {h : qH} {x : Int} : a_M q_SP 557 7148142621 x h = p_FB (m_gh h 539 0) (m_gh h 539 1) (m_ac (m_gh h) 539 49 96) (m_ac (m_gh h) 545 0 96) (m_gh h 539 2) (m_ac (m_gh h) 539 7 6) (m_ac (m_gh h) 543 0 1344) (m_ac (m_gh h) 546 0 1344) x := by
  show p_FB (a_gm q_SP 557 7148142621 h 539 0) (a_gm q_SP 557 7148142621 h 539 1) (m_ac (a_gm q_SP 557 7148142621 h) 539 49 96) (m_ac (a_gm q_SP 557 7148142621 h) 545 0 96) (a_gm q_SP 557 7148142621 h 539 2) (m_ac (a_gm q_SP 557 7148142621 h) 539 7 6) (m_ac (a_gm q_SP 557 7148142621 h) 543 0 1344) (m_ac (a_gm q_SP 557 7148142621 h) 546 0 1344) x = _
  rw [m_gs (code := 7148142621) (c := 539) (j := 0) (by decide +kernel), m_gs (code := 7148142621) (c := 539) (j := 1) (by decide +kernel), m_ga (code := 7148142621) (c := 539) (off := 49) (n := 96) (by decide +kernel), m_ga (code := 7148142621) (c := 545) (off := 0) (n := 96) (by decide +kernel), m_gs (code := 7148142621) (c := 539) (j := 2) (by decide +kernel), m_ga (code := 7148142621) (c := 539) (off := 7) (n := 6) (by decide +kernel), m_ga (code := 7148142621) (c := 543) (off := 0) (n := 1344) (by decide +kernel), m_ga (code := 7148142621) (c := 546) (off := 0) (n := 1344) (by decide +kernel)]
set_option maxRecDepth 20000 in
theorem f_FD {h : qH} {x : Int} : a_M q_SP 557 7148142622 x h = p_FD (m_gh h 539 0) (m_gh h 539 1) (m_ac (m_gh h) 539 49 96) (m_ac (m_gh h) 545 0 96) (m_gh h 539 2) (m_ac (m_gh h) 539 7 6) (m_ac (m_gh h) 543 0 1344) (m_ac (m_gh h) 546 0 1344) x := by
  show p_FD (a_gm q_SP 557 7148142622 h 539 0) (a_gm q_SP 557 7148142622 h 539 1) (m_ac (a_gm q_SP 557 7148142622 h) 539 49 96) (m_ac (a_gm q_SP 557 7148142622 h) 545 0 96) (a_gm q_SP 557 7148142622 h 539 2) (m_ac (a_gm q_SP 557 7148142622 h) 539 7 6) (m_ac (a_gm q_SP 557 7148142622 h) 543 0 1344) (m_ac (a_gm q_SP 557 7148142622 h) 546 0 1344) x = _
  rw [m_gs (code := 7148142622) (c := 539) (j := 0) (by decide +kernel), m_gs (code := 7148142622) (c := 539) (j := 1) (by decide +kernel), m_ga (code := 7148142622) (c := 539) (off := 49) (n := 96) (by decide +kernel), m_ga (code := 7148142622) (c := 545) (off := 0) (n := 96) (by decide +kernel), m_gs (code := 7148142622) (c := 539) (j := 2) (by decide +kernel), m_ga (code := 7148142622) (c := 539) (off := 7) (n := 6) (by decide +kernel), m_ga (code := 7148142622) (c := 543) (off := 0) (n := 1344) (by decide +kernel), m_ga (code := 7148142622) (c := 546) (off := 0) (n := 1344) (by decide +kernel)]
set_option maxRecDepth 20000 in
theorem f_WT {h : qH} {x : Int} : a_M q_SP 557 4296015903 x h = p_WT (m_ac (m_gh h) 546 0 1344) x := by
  show p_WT (m_ac (a_gm q_SP 557 4296015903 h) 546 0 1344) x = _
  rw [m_ga (code := 4296015903) (c := 546) (off := 0) (n := 1344) (by decide +kernel)]
set_option maxRecDepth 20000 in
theorem f_BW {h : qH} {x : Int} : a_M q_SP 557 7148142624 x h = p_BW (m_gh h 539 0) (m_ac (m_gh h) 539 49 96) (m_ac (m_gh h) 545 0 96) (m_ac (m_gh h) 543 0 1344) (m_ac (m_gh h) 546 0 1344) x := by
  show p_BW (a_gm q_SP 557 7148142624 h 539 0) (m_ac (a_gm q_SP 557 7148142624 h) 539 49 96) (m_ac (a_gm q_SP 557 7148142624 h) 545 0 96) (m_ac (a_gm q_SP 557 7148142624 h) 543 0 1344) (m_ac (a_gm q_SP 557 7148142624 h) 546 0 1344) x = _
  rw [m_gs (code := 7148142624) (c := 539) (j := 0) (by decide +kernel), m_ga (code := 7148142624) (c := 539) (off := 49) (n := 96) (by decide +kernel), m_ga (code := 7148142624) (c := 545) (off := 0) (n := 96) (by decide +kernel), m_ga (code := 7148142624) (c := 543) (off := 0) (n := 1344) (by decide +kernel), m_ga (code := 7148142624) (c := 546) (off := 0) (n := 1344) (by decide +kernel)]
set_option maxRecDepth 20000 in
theorem f_WE {h : qH} {x : Int} : a_M q_SP 557 7148142625 x h = p_WE (m_gh h 539 0) (m_ac (m_gh h) 539 49 96) (m_ac (m_gh h) 545 0 96) (m_ac (m_gh h) 543 0 1344) (m_ac (m_gh h) 546 0 1344) x := by
  show p_WE (a_gm q_SP 557 7148142625 h 539 0) (m_ac (a_gm q_SP 557 7148142625 h) 539 49 96) (m_ac (a_gm q_SP 557 7148142625 h) 545 0 96) (m_ac (a_gm q_SP 557 7148142625 h) 543 0 1344) (m_ac (a_gm q_SP 557 7148142625 h) 546 0 1344) x = _
  rw [m_gs (code := 7148142625) (c := 539) (j := 0) (by decide +kernel), m_ga (code := 7148142625) (c := 539) (off := 49) (n := 96) (by decide +kernel), m_ga (code := 7148142625) (c := 545) (off := 0) (n := 96) (by decide +kernel), m_ga (code := 7148142625) (c := 543) (off := 0) (n := 1344) (by decide +kernel), m_ga (code := 7148142625) (c := 546) (off := 0) (n := 1344) (by decide +kernel)]
set_option maxRecDepth 20000 in
theorem f_AM {h : qH} {x : Int} : a_M q_SP 557 3390046242 x h = p_AM (m_gh h 539 0) (m_ac (m_gh h) 539 49 96) (m_ac (m_gh h) 545 0 96) (m_gh h 539 2) (m_ac (m_gh h) 539 7 6) (m_ac (m_gh h) 544 0 1344) x := by
  show p_AM (a_gm q_SP 557 3390046242 h 539 0) (m_ac (a_gm q_SP 557 3390046242 h) 539 49 96) (m_ac (a_gm q_SP 557 3390046242 h) 545 0 96) (a_gm q_SP 557 3390046242 h 539 2) (m_ac (a_gm q_SP 557 3390046242 h) 539 7 6) (m_ac (a_gm q_SP 557 3390046242 h) 544 0 1344) x = _
  rw [m_gs (code := 3390046242) (c := 539) (j := 0) (by decide +kernel), m_ga (code := 3390046242) (c := 539) (off := 49) (n := 96) (by decide +kernel), m_ga (code := 3390046242) (c := 545) (off := 0) (n := 96) (by decide +kernel), m_gs (code := 3390046242) (c := 539) (j := 2) (by decide +kernel), m_ga (code := 3390046242) (c := 539) (off := 7) (n := 6) (by decide +kernel), m_ga (code := 3390046242) (c := 544) (off := 0) (n := 1344) (by decide +kernel)]
set_option maxRecDepth 20000 in
theorem f_AN {h : qH} {x : Int} : a_M q_SP 557 3390046243 x h = p_AN (m_gh h 539 0) (m_ac (m_gh h) 539 49 96) (m_ac (m_gh h) 545 0 96) (m_gh h 539 2) (m_ac (m_gh h) 539 7 6) (m_ac (m_gh h) 544 0 1344) x := by
  show p_AN (a_gm q_SP 557 3390046243 h 539 0) (m_ac (a_gm q_SP 557 3390046243 h) 539 49 96) (m_ac (a_gm q_SP 557 3390046243 h) 545 0 96) (a_gm q_SP 557 3390046243 h 539 2) (m_ac (a_gm q_SP 557 3390046243 h) 539 7 6) (m_ac (a_gm q_SP 557 3390046243 h) 544 0 1344) x = _
  rw [m_gs (code := 3390046243) (c := 539) (j := 0) (by decide +kernel), m_ga (code := 3390046243) (c := 539) (off := 49) (n := 96) (by decide +kernel), m_ga (code := 3390046243) (c := 545) (off := 0) (n := 96) (by decide +kernel), m_gs (code := 3390046243) (c := 539) (j := 2) (by decide +kernel), m_ga (code := 3390046243) (c := 539) (off := 7) (n := 6) (by decide +kernel), m_ga (code := 3390046243) (c := 544) (off := 0) (n := 1344) (by decide +kernel)]
set_option maxRecDepth 20000 in
theorem f_AA {h : qH} {x : Int} : a_M q_SP 557 3390046244 x h = p_AA (m_gh h 539 0) (m_ac (m_gh h) 539 49 96) (m_ac (m_gh h) 545 0 96) (m_gh h 539 2) (m_ac (m_gh h) 539 7 6) (m_ac (m_gh h) 544 0 1344) x := by
  show p_AA (a_gm q_SP 557 3390046244 h 539 0) (m_ac (a_gm q_SP 557 3390046244 h) 539 49 96) (m_ac (a_gm q_SP 557 3390046244 h) 545 0 96) (a_gm q_SP 557 3390046244 h 539 2) (m_ac (a_gm q_SP 557 3390046244 h) 539 7 6) (m_ac (a_gm q_SP 557 3390046244 h) 544 0 1344) x = _
  rw [m_gs (code := 3390046244) (c := 539) (j := 0) (by decide +kernel), m_ga (code := 3390046244) (c := 539) (off := 49) (n := 96) (by decide +kernel), m_ga (code := 3390046244) (c := 545) (off := 0) (n := 96) (by decide +kernel), m_gs (code := 3390046244) (c := 539) (j := 2) (by decide +kernel), m_ga (code := 3390046244) (c := 539) (off := 7) (n := 6) (by decide +kernel), m_ga (code := 3390046244) (c := 544) (off := 0) (n := 1344) (by decide +kernel)]
set_option maxRecDepth 20000 in
theorem f_AD {h : qH} {x : Int} : a_M q_SP 557 3390046245 x h = p_AD (m_gh h 539 0) (m_ac (m_gh h) 539 49 96) (m_ac (m_gh h) 545 0 96) (m_gh h 539 2) (m_ac (m_gh h) 539 7 6) (m_ac (m_gh h) 544 0 1344) x := by
  show p_AD (a_gm q_SP 557 3390046245 h 539 0) (m_ac (a_gm q_SP 557 3390046245 h) 539 49 96) (m_ac (a_gm q_SP 557 3390046245 h) 545 0 96) (a_gm q_SP 557 3390046245 h 539 2) (m_ac (a_gm q_SP 557 3390046245 h) 539 7 6) (m_ac (a_gm q_SP 557 3390046245 h) 544 0 1344) x = _
  rw [m_gs (code := 3390046245) (c := 539) (j := 0) (by decide +kernel), m_ga (code := 3390046245) (c := 539) (off := 49) (n := 96) (by decide +kernel), m_ga (code := 3390046245) (c := 545) (off := 0) (n := 96) (by decide +kernel), m_gs (code := 3390046245) (c := 539) (j := 2) (by decide +kernel), m_ga (code := 3390046245) (c := 539) (off := 7) (n := 6) (by decide +kernel), m_ga (code := 3390046245) (c := 544) (off := 0) (n := 1344) (by decide +kernel)]
set_option maxRecDepth 20000 in
theorem f_LM {h : qH} {x : Int} : a_M q_SP 557 1645215782 x h = p_LM (m_gh h 539 0) (m_gh h 539 2) (m_ac (m_gh h) 539 7 6) (m_ac (m_gh h) 543 0 1344) (m_ac (m_gh h) 544 0 1344) x := by
  show p_LM (a_gm q_SP 557 1645215782 h 539 0) (a_gm q_SP 557 1645215782 h 539 2) (m_ac (a_gm q_SP 557 1645215782 h) 539 7 6) (m_ac (a_gm q_SP 557 1645215782 h) 543 0 1344) (m_ac (a_gm q_SP 557 1645215782 h) 544 0 1344) x = _
  rw [m_gs (code := 1645215782) (c := 539) (j := 0) (by decide +kernel), m_gs (code := 1645215782) (c := 539) (j := 2) (by decide +kernel), m_ga (code := 1645215782) (c := 539) (off := 7) (n := 6) (by decide +kernel), m_ga (code := 1645215782) (c := 543) (off := 0) (n := 1344) (by decide +kernel), m_ga (code := 1645215782) (c := 544) (off := 0) (n := 1344) (by decide +kernel)]
