-- 68a90.short: what the rules use (printed by wip/p5/gen68.py)
theorem r_M {h : qH} (hh : a_HI q_SP 557 h) : (2 : Int) ≤ (m_gh h 539 0) ∧ (m_gh h 539 0) ≤ 13 := (m_sc0 hh (c := 539) (j := 0) (lo := 2) (hi := 13) (by decide +kernel) (by decide))
theorem r_F {h : qH} (hh : a_HI q_SP 557 h) : (1 : Int) ≤ (m_gh h 539 1) ∧ (m_gh h 539 1) ≤ 13 := (m_sc0 hh (c := 539) (j := 1) (lo := 1) (hi := 13) (by decide +kernel) (by decide))
theorem r_nc {h : qH} (hh : a_HI q_SP 557 h) : (0 : Int) ≤ (m_gh h 539 2) ∧ (m_gh h 539 2) ≤ 6 := (m_sc0 hh (c := 539) (j := 2) (lo := 0) (hi := 6) (by decide +kernel) (by decide))
theorem r_nf {h : qH} (hh : a_HI q_SP 557 h) : (0 : Int) ≤ (m_gh h 539 5) ∧ (m_gh h 539 5) ≤ 8 := (m_sc0 hh (c := 539) (j := 5) (lo := 0) (hi := 8) (by decide +kernel) (by decide))
theorem r_qn {h : qH} (hh : a_HI q_SP 557 h) : (0 : Int) ≤ (m_gh h 2 7) ∧ (m_gh h 2 7) ≤ 900 := (m_sc0 hh (c := 2) (j := 7) (lo := 0) (hi := 900) (by decide +kernel) (by decide))
theorem r_qk {h : qH} (hh : a_HI q_SP 557 h) : (0 : Int) ≤ (m_gh h 2 4) ∧ (m_gh h 2 4) ≤ 4 := (m_sc0 hh (c := 2) (j := 4) (lo := 0) (hi := 4) (by decide +kernel) (by decide))
theorem r_qs {h : qH} (hh : a_HI q_SP 557 h) : (0 : Int) ≤ (m_gh h 2 5) ∧ (m_gh h 2 5) ≤ 900 := (m_sc0 hh (c := 2) (j := 5) (lo := 0) (hi := 900) (by decide +kernel) (by decide))
theorem r_qq {h : qH} (hh : a_HI q_SP 557 h) : (0 : Int) ≤ (m_gh h 2 6) ∧ (m_gh h 2 6) ≤ 900 := (m_sc0 hh (c := 2) (j := 6) (lo := 0) (hi := 900) (by decide +kernel) (by decide))
theorem r_wo {h : qH} (hh : a_HI q_SP 557 h) : (2 : Int) ≤ (m_gh h 26 0) ∧ (m_gh h 26 0) ≤ 13 := (m_sc0 hh (c := 26) (j := 0) (lo := 2) (hi := 13) (by decide +kernel) (by decide))
theorem r_wf {h : qH} (hh : a_HI q_SP 557 h) : (1 : Int) ≤ (m_gh h 26 1) ∧ (m_gh h 26 1) ≤ 13 := (m_sc0 hh (c := 26) (j := 1) (lo := 1) (hi := 13) (by decide +kernel) (by decide))
theorem r_wn {h : qH} (hh : a_HI q_SP 557 h) : (0 : Int) ≤ (m_gh h 26 2) ∧ (m_gh h 26 2) ≤ 96 := (m_sc0 hh (c := 26) (j := 2) (lo := 0) (hi := 96) (by decide +kernel) (by decide))
theorem r_wc {h : qH} (hh : a_HI q_SP 557 h) : (0 : Int) ≤ (m_gh h 26 3) ∧ (m_gh h 26 3) ≤ 6 := (m_sc0 hh (c := 26) (j := 3) (lo := 0) (hi := 6) (by decide +kernel) (by decide))
theorem r_wm {h : qH} (hh : a_HI q_SP 557 h) : (0 : Int) ≤ (m_gh h 26 4) ∧ (m_gh h 26 4) ≤ 4 := (m_sc0 hh (c := 26) (j := 4) (lo := 0) (hi := 4) (by decide +kernel) (by decide))
theorem r_ws {h : qH} (hh : a_HI q_SP 557 h) : (0 : Int) ≤ (m_gh h 26 5) ∧ (m_gh h 26 5) ≤ 6 := (m_sc0 hh (c := 26) (j := 5) (lo := 0) (hi := 6) (by decide +kernel) (by decide))
theorem r_wi {h : qH} (hh : a_HI q_SP 557 h) : (0 : Int) ≤ (m_gh h 26 6) ∧ (m_gh h 26 6) ≤ 8 := (m_sc0 hh (c := 26) (j := 6) (lo := 0) (hi := 8) (by decide +kernel) (by decide))
theorem r_rn {h : qH} (hh : a_HI q_SP 557 h) : (0 : Int) ≤ (m_gh h 534 9) ∧ (m_gh h 534 9) ≤ 900 := (m_sc0 hh (c := 534) (j := 9) (lo := 0) (hi := 900) (by decide +kernel) (by decide))
theorem r_rk {h : qH} (hh : a_HI q_SP 557 h) : (0 : Int) ≤ (m_gh h 534 14) ∧ (m_gh h 534 14) ≤ 4 := (m_sc0 hh (c := 534) (j := 14) (lo := 0) (hi := 4) (by decide +kernel) (by decide))
theorem r_rs {h : qH} (hh : a_HI q_SP 557 h) : (0 : Int) ≤ (m_gh h 534 15) ∧ (m_gh h 534 15) ≤ 900 := (m_sc0 hh (c := 534) (j := 15) (lo := 0) (hi := 900) (by decide +kernel) (by decide))
theorem r_rq {h : qH} (hh : a_HI q_SP 557 h) : (0 : Int) ≤ (m_gh h 534 16) ∧ (m_gh h 534 16) ≤ 900 := (m_sc0 hh (c := 534) (j := 16) (lo := 0) (hi := 900) (by decide +kernel) (by decide))
theorem r_z2 {h : qH} (hh : a_HI q_SP 557 h) : (0 : Int) ≤ (m_gh h 539 1442) ∧ (m_gh h 539 1442) ≤ 6 := (m_sc0 hh (c := 539) (j := 1442) (lo := 0) (hi := 6) (by decide +kernel) (by decide))
theorem r_z3 {h : qH} (hh : a_HI q_SP 557 h) : (0 : Int) ≤ (m_gh h 539 1443) ∧ (m_gh h 539 1443) ≤ 4 := (m_sc0 hh (c := 539) (j := 1443) (lo := 0) (hi := 4) (by decide +kernel) (by decide))
theorem r_z4 {h : qH} (hh : a_HI q_SP 557 h) : (0 : Int) ≤ (m_gh h 539 1444) ∧ (m_gh h 539 1444) ≤ 6 := (m_sc0 hh (c := 539) (j := 1444) (lo := 0) (hi := 6) (by decide +kernel) (by decide))
theorem r_z5 {h : qH} (hh : a_HI q_SP 557 h) : (0 : Int) ≤ (m_gh h 539 1445) ∧ (m_gh h 539 1445) ≤ 8 := (m_sc0 hh (c := 539) (j := 1445) (lo := 0) (hi := 8) (by decide +kernel) (by decide))
theorem r_yo {h : qH} (hh : a_HI q_SP 557 h) : (2 : Int) ≤ (m_gh h 5 0) ∧ (m_gh h 5 0) ≤ 13 := (m_sc0 hh (c := 5) (j := 0) (lo := 2) (hi := 13) (by decide +kernel) (by decide))
theorem r_yn {h : qH} (hh : a_HI q_SP 557 h) : (0 : Int) ≤ (m_gh h 5 2) ∧ (m_gh h 5 2) ≤ 96 := (m_sc0 hh (c := 5) (j := 2) (lo := 0) (hi := 96) (by decide +kernel) (by decide))
theorem r_zs {h : qH} (hh : a_HI q_SP 557 h) : (0 : Int) ≤ (m_gh h 539 4) ∧ (m_gh h 539 4) ≤ 6 := (m_sc0 hh (c := 539) (j := 4) (lo := 0) (hi := 6) (by decide +kernel) (by decide))
theorem r_yo1 {h : qH} (hh : a_HI q_SP 557 h) : (2 : Int) ≤ (m_gh h 475 0) ∧ (m_gh h 475 0) ≤ 13 := (m_sc0 hh (c := 475) (j := 0) (lo := 2) (hi := 13) (by decide +kernel) (by decide))
theorem r_yn1 {h : qH} (hh : a_HI q_SP 557 h) : (0 : Int) ≤ (m_gh h 475 2) ∧ (m_gh h 475 2) ≤ 96 := (m_sc0 hh (c := 475) (j := 2) (lo := 0) (hi := 96) (by decide +kernel) (by decide))
theorem r_yo2 {h : qH} (hh : a_HI q_SP 557 h) : (2 : Int) ≤ (m_gh h 495 0) ∧ (m_gh h 495 0) ≤ 13 := (m_sc0 hh (c := 495) (j := 0) (lo := 2) (hi := 13) (by decide +kernel) (by decide))
theorem r_yn2 {h : qH} (hh : a_HI q_SP 557 h) : (0 : Int) ≤ (m_gh h 495 2) ∧ (m_gh h 495 2) ≤ 96 := (m_sc0 hh (c := 495) (j := 2) (lo := 0) (hi := 96) (by decide +kernel) (by decide))
theorem r_yo3 {h : qH} (hh : a_HI q_SP 557 h) : (2 : Int) ≤ (m_gh h 515 0) ∧ (m_gh h 515 0) ≤ 13 := (m_sc0 hh (c := 515) (j := 0) (lo := 2) (hi := 13) (by decide +kernel) (by decide))
theorem r_yn3 {h : qH} (hh : a_HI q_SP 557 h) : (0 : Int) ≤ (m_gh h 515 2) ∧ (m_gh h 515 2) ≤ 96 := (m_sc0 hh (c := 515) (j := 2) (lo := 0) (hi := 96) (by decide +kernel) (by decide))
theorem l_cA_bk {h : qH} : ∀ i : Int, 0 ≤ i → i < 6 → (m_ac (m_gh h) 539 0 6) i = (m_ac (m_gh h) 539 0 360) (0 + i) := m_lnk (o := 0) (n := 6) (o2 := 0) (n2 := 360) (d := 0) rfl (by decide)
theorem l_cA1_bk1 {h : qH} : ∀ i : Int, 0 ≤ i → i < 6 → (m_ac (m_gh h) 539 360 6) i = (m_ac (m_gh h) 539 360 360) (0 + i) := m_lnk (o := 360) (n := 6) (o2 := 360) (n2 := 360) (d := 0) rfl (by decide)
theorem l_cA2_bk2 {h : qH} : ∀ i : Int, 0 ≤ i → i < 6 → (m_ac (m_gh h) 539 720 6) i = (m_ac (m_gh h) 539 720 360) (0 + i) := m_lnk (o := 720) (n := 6) (o2 := 720) (n2 := 360) (d := 0) rfl (by decide)
theorem l_cA3_bk3 {h : qH} : ∀ i : Int, 0 ≤ i → i < 6 → (m_ac (m_gh h) 539 1080 6) i = (m_ac (m_gh h) 539 1080 360) (0 + i) := m_lnk (o := 1080) (n := 6) (o2 := 1080) (n2 := 360) (d := 0) rfl (by decide)
theorem l_cB_bk {h : qH} : ∀ i : Int, 0 ≤ i → i < 42 → (m_ac (m_gh h) 539 7 42) i = (m_ac (m_gh h) 539 0 360) (7 + i) := m_lnk (o := 7) (n := 42) (o2 := 0) (n2 := 360) (d := 7) rfl (by decide)
theorem l_cB1_bk1 {h : qH} : ∀ i : Int, 0 ≤ i → i < 42 → (m_ac (m_gh h) 539 367 42) i = (m_ac (m_gh h) 539 360 360) (7 + i) := m_lnk (o := 367) (n := 42) (o2 := 360) (n2 := 360) (d := 7) rfl (by decide)
theorem l_cB2_bk2 {h : qH} : ∀ i : Int, 0 ≤ i → i < 42 → (m_ac (m_gh h) 539 727 42) i = (m_ac (m_gh h) 539 720 360) (7 + i) := m_lnk (o := 727) (n := 42) (o2 := 720) (n2 := 360) (d := 7) rfl (by decide)
theorem l_cB3_bk3 {h : qH} : ∀ i : Int, 0 ≤ i → i < 42 → (m_ac (m_gh h) 539 1087 42) i = (m_ac (m_gh h) 539 1080 360) (7 + i) := m_lnk (o := 1087) (n := 42) (o2 := 1080) (n2 := 360) (d := 7) rfl (by decide)
theorem l_cs_bk {h : qH} : ∀ i : Int, 0 ≤ i → i < 6 → (m_ac (m_gh h) 539 7 6) i = (m_ac (m_gh h) 539 0 360) (7 + i) := m_lnk (o := 7) (n := 6) (o2 := 0) (n2 := 360) (d := 7) rfl (by decide)
theorem l_cs_cB {h : qH} : ∀ i : Int, 0 ≤ i → i < 6 → (m_ac (m_gh h) 539 7 6) i = (m_ac (m_gh h) 539 7 42) (0 + i) := m_lnk (o := 7) (n := 6) (o2 := 7) (n2 := 42) (d := 0) rfl (by decide)
theorem l_fs_cB {h : qH} : ∀ i : Int, 0 ≤ i → i < 8 → (m_ac (m_gh h) 539 33 8) i = (m_ac (m_gh h) 539 7 42) (26 + i) := m_lnk (o := 33) (n := 8) (o2 := 7) (n2 := 42) (d := 26) rfl (by decide)
theorem v_2_4 {h : qH} {x : Nat → Int} {F : aF} (hp : a_Rp q_SP 557 h x (0, 2, 4, F)) : m_ep x F = m_gh h 2 4 := m_gV (by decide +kernel) hp
theorem v_2_5 {h : qH} {x : Nat → Int} {F : aF} (hp : a_Rp q_SP 557 h x (0, 2, 5, F)) : m_ep x F = m_gh h 2 5 := m_gV (by decide +kernel) hp
theorem v_2_6 {h : qH} {x : Nat → Int} {F : aF} (hp : a_Rp q_SP 557 h x (0, 2, 6, F)) : m_ep x F = m_gh h 2 6 := m_gV (by decide +kernel) hp
theorem v_2_7 {h : qH} {x : Nat → Int} {F : aF} (hp : a_Rp q_SP 557 h x (0, 2, 7, F)) : m_ep x F = m_gh h 2 7 := m_gV (by decide +kernel) hp
theorem v_2_8 {h : qH} {x : Nat → Int} {F : aF} (hp : a_Rp q_SP 557 h x (0, 2, 8, F)) : m_ep x F = m_gh h 2 8 := m_gV (by decide +kernel) hp
theorem v_5_0 {h : qH} {x : Nat → Int} {F : aF} (hp : a_Rp q_SP 557 h x (0, 5, 0, F)) : m_ep x F = m_gh h 5 0 := m_gV (by decide +kernel) hp
theorem v_5_2 {h : qH} {x : Nat → Int} {F : aF} (hp : a_Rp q_SP 557 h x (0, 5, 2, F)) : m_ep x F = m_gh h 5 2 := m_gV (by decide +kernel) hp
theorem v_25_3 {h : qH} {x : Nat → Int} {F : aF} (hp : a_Rp q_SP 557 h x (0, 25, 3, F)) : m_ep x F = m_gh h 25 3 := m_gV (by decide +kernel) hp
theorem v_26_0 {h : qH} {x : Nat → Int} {F : aF} (hp : a_Rp q_SP 557 h x (0, 26, 0, F)) : m_ep x F = m_gh h 26 0 := m_gV (by decide +kernel) hp
theorem v_26_1 {h : qH} {x : Nat → Int} {F : aF} (hp : a_Rp q_SP 557 h x (0, 26, 1, F)) : m_ep x F = m_gh h 26 1 := m_gV (by decide +kernel) hp
theorem v_26_2 {h : qH} {x : Nat → Int} {F : aF} (hp : a_Rp q_SP 557 h x (0, 26, 2, F)) : m_ep x F = m_gh h 26 2 := m_gV (by decide +kernel) hp
theorem v_26_3 {h : qH} {x : Nat → Int} {F : aF} (hp : a_Rp q_SP 557 h x (0, 26, 3, F)) : m_ep x F = m_gh h 26 3 := m_gV (by decide +kernel) hp
theorem v_26_4 {h : qH} {x : Nat → Int} {F : aF} (hp : a_Rp q_SP 557 h x (0, 26, 4, F)) : m_ep x F = m_gh h 26 4 := m_gV (by decide +kernel) hp
theorem v_26_5 {h : qH} {x : Nat → Int} {F : aF} (hp : a_Rp q_SP 557 h x (0, 26, 5, F)) : m_ep x F = m_gh h 26 5 := m_gV (by decide +kernel) hp
theorem v_26_6 {h : qH} {x : Nat → Int} {F : aF} (hp : a_Rp q_SP 557 h x (0, 26, 6, F)) : m_ep x F = m_gh h 26 6 := m_gV (by decide +kernel) hp
theorem v_466_1 {h : qH} {x : Nat → Int} {F : aF} (hp : a_Rp q_SP 557 h x (0, 466, 1, F)) : m_ep x F = m_gh h 466 1 := m_gV (by decide +kernel) hp
theorem v_468_1 {h : qH} {x : Nat → Int} {F : aF} (hp : a_Rp q_SP 557 h x (0, 468, 1, F)) : m_ep x F = m_gh h 468 1 := m_gV (by decide +kernel) hp
theorem v_470_1 {h : qH} {x : Nat → Int} {F : aF} (hp : a_Rp q_SP 557 h x (0, 470, 1, F)) : m_ep x F = m_gh h 470 1 := m_gV (by decide +kernel) hp
theorem v_472_1 {h : qH} {x : Nat → Int} {F : aF} (hp : a_Rp q_SP 557 h x (0, 472, 1, F)) : m_ep x F = m_gh h 472 1 := m_gV (by decide +kernel) hp
theorem v_475_0 {h : qH} {x : Nat → Int} {F : aF} (hp : a_Rp q_SP 557 h x (0, 475, 0, F)) : m_ep x F = m_gh h 475 0 := m_gV (by decide +kernel) hp
theorem v_475_2 {h : qH} {x : Nat → Int} {F : aF} (hp : a_Rp q_SP 557 h x (0, 475, 2, F)) : m_ep x F = m_gh h 475 2 := m_gV (by decide +kernel) hp
theorem v_495_0 {h : qH} {x : Nat → Int} {F : aF} (hp : a_Rp q_SP 557 h x (0, 495, 0, F)) : m_ep x F = m_gh h 495 0 := m_gV (by decide +kernel) hp
theorem v_495_2 {h : qH} {x : Nat → Int} {F : aF} (hp : a_Rp q_SP 557 h x (0, 495, 2, F)) : m_ep x F = m_gh h 495 2 := m_gV (by decide +kernel) hp
theorem v_515_0 {h : qH} {x : Nat → Int} {F : aF} (hp : a_Rp q_SP 557 h x (0, 515, 0, F)) : m_ep x F = m_gh h 515 0 := m_gV (by decide +kernel) hp
theorem v_515_2 {h : qH} {x : Nat → Int} {F : aF} (hp : a_Rp q_SP 557 h x (0, 515, 2, F)) : m_ep x F = m_gh h 515 2 := m_gV (by decide +kernel) hp
theorem v_534_9 {h : qH} {x : Nat → Int} {F : aF} (hp : a_Rp q_SP 557 h x (0, 534, 9, F)) : m_ep x F = m_gh h 534 9 := m_gV (by decide +kernel) hp
theorem v_534_14 {h : qH} {x : Nat → Int} {F : aF} (hp : a_Rp q_SP 557 h x (0, 534, 14, F)) : m_ep x F = m_gh h 534 14 := m_gV (by decide +kernel) hp
theorem v_534_15 {h : qH} {x : Nat → Int} {F : aF} (hp : a_Rp q_SP 557 h x (0, 534, 15, F)) : m_ep x F = m_gh h 534 15 := m_gV (by decide +kernel) hp
theorem v_534_16 {h : qH} {x : Nat → Int} {F : aF} (hp : a_Rp q_SP 557 h x (0, 534, 16, F)) : m_ep x F = m_gh h 534 16 := m_gV (by decide +kernel) hp
theorem v_534_17 {h : qH} {x : Nat → Int} {F : aF} (hp : a_Rp q_SP 557 h x (0, 534, 17, F)) : m_ep x F = m_gh h 534 17 := m_gV (by decide +kernel) hp
theorem v_534_18 {h : qH} {x : Nat → Int} {F : aF} (hp : a_Rp q_SP 557 h x (0, 534, 18, F)) : m_ep x F = m_gh h 534 18 := m_gV (by decide +kernel) hp
theorem v_534_29 {h : qH} {x : Nat → Int} {F : aF} (hp : a_Rp q_SP 557 h x (0, 534, 29, F)) : m_ep x F = m_gh h 534 29 := m_gV (by decide +kernel) hp
theorem v_534_40 {h : qH} {x : Nat → Int} {F : aF} (hp : a_Rp q_SP 557 h x (0, 534, 40, F)) : m_ep x F = m_gh h 534 40 := m_gV (by decide +kernel) hp
theorem v_536_0 {h : qH} {x : Nat → Int} {F : aF} (hp : a_Rp q_SP 557 h x (0, 536, 0, F)) : m_ep x F = m_gh h 536 0 := m_gV (by decide +kernel) hp
theorem v_536_1 {h : qH} {x : Nat → Int} {F : aF} (hp : a_Rp q_SP 557 h x (0, 536, 1, F)) : m_ep x F = m_gh h 536 1 := m_gV (by decide +kernel) hp
theorem v_536_2 {h : qH} {x : Nat → Int} {F : aF} (hp : a_Rp q_SP 557 h x (0, 536, 2, F)) : m_ep x F = m_gh h 536 2 := m_gV (by decide +kernel) hp
theorem v_536_3 {h : qH} {x : Nat → Int} {F : aF} (hp : a_Rp q_SP 557 h x (0, 536, 3, F)) : m_ep x F = m_gh h 536 3 := m_gV (by decide +kernel) hp
theorem v_539_0 {h : qH} {x : Nat → Int} {F : aF} (hp : a_Rp q_SP 557 h x (0, 539, 0, F)) : m_ep x F = m_gh h 539 0 := m_gV (by decide +kernel) hp
theorem v_539_1 {h : qH} {x : Nat → Int} {F : aF} (hp : a_Rp q_SP 557 h x (0, 539, 1, F)) : m_ep x F = m_gh h 539 1 := m_gV (by decide +kernel) hp
theorem v_539_2 {h : qH} {x : Nat → Int} {F : aF} (hp : a_Rp q_SP 557 h x (0, 539, 2, F)) : m_ep x F = m_gh h 539 2 := m_gV (by decide +kernel) hp
theorem v_539_4 {h : qH} {x : Nat → Int} {F : aF} (hp : a_Rp q_SP 557 h x (0, 539, 4, F)) : m_ep x F = m_gh h 539 4 := m_gV (by decide +kernel) hp
theorem v_539_5 {h : qH} {x : Nat → Int} {F : aF} (hp : a_Rp q_SP 557 h x (0, 539, 5, F)) : m_ep x F = m_gh h 539 5 := m_gV (by decide +kernel) hp
theorem v_539_1440 {h : qH} {x : Nat → Int} {F : aF} (hp : a_Rp q_SP 557 h x (0, 539, 1440, F)) : m_ep x F = m_gh h 539 1440 := m_gV (by decide +kernel) hp
theorem v_539_1442 {h : qH} {x : Nat → Int} {F : aF} (hp : a_Rp q_SP 557 h x (0, 539, 1442, F)) : m_ep x F = m_gh h 539 1442 := m_gV (by decide +kernel) hp
theorem v_539_1443 {h : qH} {x : Nat → Int} {F : aF} (hp : a_Rp q_SP 557 h x (0, 539, 1443, F)) : m_ep x F = m_gh h 539 1443 := m_gV (by decide +kernel) hp
theorem v_539_1444 {h : qH} {x : Nat → Int} {F : aF} (hp : a_Rp q_SP 557 h x (0, 539, 1444, F)) : m_ep x F = m_gh h 539 1444 := m_gV (by decide +kernel) hp
theorem v_539_1445 {h : qH} {x : Nat → Int} {F : aF} (hp : a_Rp q_SP 557 h x (0, 539, 1445, F)) : m_ep x F = m_gh h 539 1445 := m_gV (by decide +kernel) hp
theorem g_LD {h : qH} {x : Nat → Int} {a b : Nat} {F : aF} (hp : a_Rp q_SP 557 h x (68157450, a, b, F)) : p_LD (m_ac (m_gh h) 539 33 8) (m_ep x F) := by
  have e := m_gR (by decide +kernel) hp
  rw [f_LD] at e
  exact e
theorem g_FI {h : qH} {x : Nat → Int} {a b : Nat} {F : aF} (hp : a_Rp q_SP 557 h x (101711883, a, b, F)) : p_FI (m_gh h 539 5) (m_ac (m_gh h) 539 33 8) (m_ep x F) := by
  have e := m_gR (by decide +kernel) hp
  rw [f_FI] at e
  exact e
theorem g_YN {h : qH} {x : Nat → Int} {a b : Nat} {F : aF} (hp : a_Rp q_SP 557 h x (101711884, a, b, F)) : p_YN (m_gh h 539 5) (m_ac (m_gh h) 539 33 8) (m_ep x F) := by
  have e := m_gR (by decide +kernel) hp
  rw [f_YN] at e
  exact e
theorem g_AT {h : qH} {x : Nat → Int} {a b : Nat} {F : aF} (hp : a_Rp q_SP 557 h x (144115188076904461, a, b, F)) : p_AT (m_ac (m_gh h) 44 0 60) (m_ep x F) := by
  have e := m_gR (by decide +kernel) hp
  rw [f_AT] at e
  exact e
theorem g_AF {h : qH} {x : Nat → Int} {a b : Nat} {F : aF} (hp : a_Rp q_SP 557 h x (34603022, a, b, F)) : p_AF (m_gh h 539 0) (m_ep x F) := by
  have e := m_gR (by decide +kernel) hp
  rw [f_AF] at e
  exact e
theorem g_NT {h : qH} {x : Nat → Int} {a b : Nat} {F : aF} (hp : a_Rp q_SP 557 h x (135266319, a, b, F)) : p_NT (m_ac (m_gh h) 539 49 96) (m_ep x F) := by
  have e := m_gR (by decide +kernel) hp
  rw [f_NT] at e
  exact e
theorem g_SU {h : qH} {x : Nat → Int} {a b : Nat} {F : aF} (hp : a_Rp q_SP 557 h x (168820752, a, b, F)) : p_SU (m_gh h 539 0) (m_ac (m_gh h) 539 49 96) (m_ep x F) := by
  have e := m_gR (by decide +kernel) hp
  rw [f_SU] at e
  exact e
theorem g_SL {h : qH} {x : Nat → Int} {a b : Nat} {F : aF} (hp : a_Rp q_SP 557 h x (2148532241, a, b, F)) : p_SL (m_ac (m_gh h) 545 0 96) (m_ep x F) := by
  have e := m_gR (by decide +kernel) hp
  rw [f_SL] at e
  exact e
theorem g_ST {h : qH} {x : Nat → Int} {a b : Nat} {F : aF} (hp : a_Rp q_SP 557 h x (2182086674, a, b, F)) : p_ST (m_gh h 539 0) (m_ac (m_gh h) 545 0 96) (m_ep x F) := by
  have e := m_gR (by decide +kernel) hp
  rw [f_ST] at e
  exact e
theorem g_FO {h : qH} {x : Nat → Int} {a b : Nat} {F : aF} (hp : a_Rp q_SP 557 h x (537919507, a, b, F)) : p_FO (m_ac (m_gh h) 543 0 1344) (m_ep x F) := by
  have e := m_gR (by decide +kernel) hp
  rw [f_FO] at e
  exact e
theorem g_FT {h : qH} {x : Nat → Int} {a b : Nat} {F : aF} (hp : a_Rp q_SP 557 h x (1074790420, a, b, F)) : p_FT (m_ac (m_gh h) 544 0 1344) (m_ep x F) := by
  have e := m_gR (by decide +kernel) hp
  rw [f_FT] at e
  exact e
theorem g_ON {h : qH} {x : Nat → Int} {a b : Nat} {F : aF} (hp : a_Rp q_SP 557 h x (1628438549, a, b, F)) : p_ON (m_ac (m_gh h) 543 0 1344) (m_ac (m_gh h) 544 0 1344) (m_gh h 534 29) (m_ep x F) := by
  have e := m_gR (by decide +kernel) hp
  rw [f_ON] at e
  exact e
theorem g_PS {h : qH} {x : Nat → Int} {a b : Nat} {F : aF} (hp : a_Rp q_SP 557 h x (34603030, a, b, F)) : p_PS (m_ac (m_gh h) 539 7 6) (m_ep x F) := by
  have e := m_gR (by decide +kernel) hp
  rw [f_PS] at e
  exact e
theorem g_NS {h : qH} {x : Nat → Int} {a b : Nat} {F : aF} (hp : a_Rp q_SP 557 h x (34603031, a, b, F)) : p_NS (m_gh h 539 2) (m_ac (m_gh h) 539 7 6) (m_ep x F) := by
  have e := m_gR (by decide +kernel) hp
  rw [f_NS] at e
  exact e
theorem g_BM {h : qH} {x : Nat → Int} {a b : Nat} {F : aF} (hp : a_Rp q_SP 557 h x (2853175320, a, b, F)) : p_BM (m_gh h 539 0) (m_ac (m_gh h) 539 49 96) (m_ac (m_gh h) 545 0 96) (m_ac (m_gh h) 543 0 1344) (m_ep x F) := by
  have e := m_gR (by decide +kernel) hp
  rw [f_BM] at e
  exact e
theorem g_BE {h : qH} {x : Nat → Int} {a b : Nat} {F : aF} (hp : a_Rp q_SP 557 h x (2853175321, a, b, F)) : p_BE (m_gh h 539 0) (m_ac (m_gh h) 539 49 96) (m_ac (m_gh h) 545 0 96) (m_ac (m_gh h) 543 0 1344) (m_ep x F) := by
  have e := m_gR (by decide +kernel) hp
  rw [f_BE] at e
  exact e
theorem g_R0 {h : qH} {x : Nat → Int} {a b : Nat} {F : aF} (hp : a_Rp q_SP 557 h x (5000658970, a, b, F)) : p_R0 (m_gh h 539 0) (m_gh h 539 1) (m_ac (m_gh h) 539 49 96) (m_gh h 539 2) (m_ac (m_gh h) 539 7 6) (m_ac (m_gh h) 543 0 1344) (m_ac (m_gh h) 546 0 1344) (m_ep x F) := by
  have e := m_gR (by decide +kernel) hp
  rw [f_R0] at e
  exact e
theorem g_RA {h : qH} {x : Nat → Int} {a b : Nat} {F : aF} (hp : a_Rp q_SP 557 h x (5000658971, a, b, F)) : p_RA (m_gh h 539 0) (m_gh h 539 1) (m_ac (m_gh h) 539 49 96) (m_gh h 539 2) (m_ac (m_gh h) 539 7 6) (m_ac (m_gh h) 543 0 1344) (m_ac (m_gh h) 546 0 1344) (m_ep x F) := by
  have e := m_gR (by decide +kernel) hp
  rw [f_RA] at e
  exact e
theorem g_FA {h : qH} {x : Nat → Int} {a b : Nat} {F : aF} (hp : a_Rp q_SP 557 h x (7148142620, a, b, F)) : p_FA (m_gh h 539 0) (m_gh h 539 1) (m_ac (m_gh h) 539 49 96) (m_ac (m_gh h) 545 0 96) (m_gh h 539 2) (m_ac (m_gh h) 539 7 6) (m_ac (m_gh h) 543 0 1344) (m_ac (m_gh h) 546 0 1344) (m_ep x F) := by
  have e := m_gR (by decide +kernel) hp
  rw [f_FA] at e
  exact e
theorem g_FB {h : qH} {x : Nat → Int} {a b : Nat} {F : aF} (hp : a_Rp q_SP 557 h x (7148142621, a, b, F)) : p_FB (m_gh h 539 0) (m_gh h 539 1) (m_ac (m_gh h) 539 49 96) (m_ac (m_gh h) 545 0 96) (m_gh h 539 2) (m_ac (m_gh h) 539 7 6) (m_ac (m_gh h) 543 0 1344) (m_ac (m_gh h) 546 0 1344) (m_ep x F) := by
  have e := m_gR (by decide +kernel) hp
  rw [f_FB] at e
  exact e
theorem g_FD {h : qH} {x : Nat → Int} {a b : Nat} {F : aF} (hp : a_Rp q_SP 557 h x (7148142622, a, b, F)) : p_FD (m_gh h 539 0) (m_gh h 539 1) (m_ac (m_gh h) 539 49 96) (m_ac (m_gh h) 545 0 96) (m_gh h 539 2) (m_ac (m_gh h) 539 7 6) (m_ac (m_gh h) 543 0 1344) (m_ac (m_gh h) 546 0 1344) (m_ep x F) := by
  have e := m_gR (by decide +kernel) hp
  rw [f_FD] at e
  exact e
theorem g_WT {h : qH} {x : Nat → Int} {a b : Nat} {F : aF} (hp : a_Rp q_SP 557 h x (4296015903, a, b, F)) : p_WT (m_ac (m_gh h) 546 0 1344) (m_ep x F) := by
  have e := m_gR (by decide +kernel) hp
  rw [f_WT] at e
  exact e
theorem g_BW {h : qH} {x : Nat → Int} {a b : Nat} {F : aF} (hp : a_Rp q_SP 557 h x (7148142624, a, b, F)) : p_BW (m_gh h 539 0) (m_ac (m_gh h) 539 49 96) (m_ac (m_gh h) 545 0 96) (m_ac (m_gh h) 543 0 1344) (m_ac (m_gh h) 546 0 1344) (m_ep x F) := by
  have e := m_gR (by decide +kernel) hp
  rw [f_BW] at e
  exact e
theorem g_WE {h : qH} {x : Nat → Int} {a b : Nat} {F : aF} (hp : a_Rp q_SP 557 h x (7148142625, a, b, F)) : p_WE (m_gh h 539 0) (m_ac (m_gh h) 539 49 96) (m_ac (m_gh h) 545 0 96) (m_ac (m_gh h) 543 0 1344) (m_ac (m_gh h) 546 0 1344) (m_ep x F) := by
  have e := m_gR (by decide +kernel) hp
  rw [f_WE] at e
  exact e
theorem g_AM {h : qH} {x : Nat → Int} {a b : Nat} {F : aF} (hp : a_Rp q_SP 557 h x (3390046242, a, b, F)) : p_AM (m_gh h 539 0) (m_ac (m_gh h) 539 49 96) (m_ac (m_gh h) 545 0 96) (m_gh h 539 2) (m_ac (m_gh h) 539 7 6) (m_ac (m_gh h) 544 0 1344) (m_ep x F) := by
  have e := m_gR (by decide +kernel) hp
  rw [f_AM] at e
  exact e
theorem g_AN {h : qH} {x : Nat → Int} {a b : Nat} {F : aF} (hp : a_Rp q_SP 557 h x (3390046243, a, b, F)) : p_AN (m_gh h 539 0) (m_ac (m_gh h) 539 49 96) (m_ac (m_gh h) 545 0 96) (m_gh h 539 2) (m_ac (m_gh h) 539 7 6) (m_ac (m_gh h) 544 0 1344) (m_ep x F) := by
  have e := m_gR (by decide +kernel) hp
  rw [f_AN] at e
  exact e
theorem g_AA {h : qH} {x : Nat → Int} {a b : Nat} {F : aF} (hp : a_Rp q_SP 557 h x (3390046244, a, b, F)) : p_AA (m_gh h 539 0) (m_ac (m_gh h) 539 49 96) (m_ac (m_gh h) 545 0 96) (m_gh h 539 2) (m_ac (m_gh h) 539 7 6) (m_ac (m_gh h) 544 0 1344) (m_ep x F) := by
  have e := m_gR (by decide +kernel) hp
  rw [f_AA] at e
  exact e
theorem g_AD {h : qH} {x : Nat → Int} {a b : Nat} {F : aF} (hp : a_Rp q_SP 557 h x (3390046245, a, b, F)) : p_AD (m_gh h 539 0) (m_ac (m_gh h) 539 49 96) (m_ac (m_gh h) 545 0 96) (m_gh h 539 2) (m_ac (m_gh h) 539 7 6) (m_ac (m_gh h) 544 0 1344) (m_ep x F) := by
  have e := m_gR (by decide +kernel) hp
  rw [f_AD] at e
  exact e
theorem g_LM {h : qH} {x : Nat → Int} {a b : Nat} {F : aF} (hp : a_Rp q_SP 557 h x (1645215782, a, b, F)) : p_LM (m_gh h 539 0) (m_gh h 539 2) (m_ac (m_gh h) 539 7 6) (m_ac (m_gh h) 543 0 1344) (m_ac (m_gh h) 544 0 1344) (m_ep x F) := by
  have e := m_gR (by decide +kernel) hp
  rw [f_LM] at e
  exact e
theorem g_M1 {h : qH} {x : Nat → Int} {a b : Nat} {F : aF} (hp : a_Rp q_SP 557 h x (8238661671, a, b, F)) : p_M1 (m_gh h 539 0) (m_gh h 539 1) (m_ac (m_gh h) 539 49 96) (m_ac (m_gh h) 545 0 96) (m_gh h 539 2) (m_ac (m_gh h) 539 7 6) (m_ac (m_gh h) 543 0 1344) (m_ac (m_gh h) 544 0 1344) (m_ac (m_gh h) 546 0 1344) (m_gh h 534 29) (m_ep x F) := by
  have e := m_gR (by decide +kernel) hp
  rw [f_M1] at e
  exact e
theorem g_NW {h : qH} {x : Nat → Int} {a b : Nat} {F : aF} (hp : a_Rp q_SP 557 h x (4883218472, a, b, F)) : p_NW (m_gh h 539 0) (m_gh h 539 2) (m_ac (m_gh h) 539 7 6) (m_ac (m_gh h) 543 0 1344) (m_ac (m_gh h) 546 0 1344) (m_gh h 534 29) (m_ep x F) := by
  have e := m_gR (by decide +kernel) hp
  rw [f_NW] at e
  exact e
theorem g_M2 {h : qH} {x : Nat → Int} {a b : Nat} {F : aF} (hp : a_Rp q_SP 557 h x (4883218473, a, b, F)) : p_M2 (m_gh h 539 0) (m_gh h 539 2) (m_ac (m_gh h) 539 7 6) (m_ac (m_gh h) 543 0 1344) (m_ac (m_gh h) 546 0 1344) (m_gh h 534 29) (m_ep x F) := by
  have e := m_gR (by decide +kernel) hp
  rw [f_M2] at e
  exact e
theorem g_NO {h : qH} {x : Nat → Int} {a b : Nat} {F : aF} (hp : a_Rp q_SP 557 h x (1661993002, a, b, F)) : p_NO (m_gh h 539 0) (m_gh h 539 2) (m_ac (m_gh h) 539 7 6) (m_ac (m_gh h) 543 0 1344) (m_ac (m_gh h) 544 0 1344) (m_gh h 534 29) (m_ep x F) := by
  have e := m_gR (by decide +kernel) hp
  rw [f_NO] at e
  exact e
theorem g_OP {h : qH} {x : Nat → Int} {a b : Nat} {F : aF} (hp : a_Rp q_SP 557 h x (1661993003, a, b, F)) : p_OP (m_gh h 539 0) (m_gh h 539 2) (m_ac (m_gh h) 539 7 6) (m_ac (m_gh h) 543 0 1344) (m_ac (m_gh h) 544 0 1344) (m_gh h 534 29) (m_ep x F) := by
  have e := m_gR (by decide +kernel) hp
  rw [f_OP] at e
  exact e
theorem g_NB {h : qH} {x : Nat → Int} {a b : Nat} {F : aF} (hp : a_Rp q_SP 557 h x (3809476652, a, b, F)) : p_NB (m_gh h 539 0) (m_ac (m_gh h) 545 0 96) (m_ac (m_gh h) 543 0 1344) (m_ac (m_gh h) 544 0 1344) (m_gh h 534 29) (m_ep x F) := by
  have e := m_gR (by decide +kernel) hp
  rw [f_NB] at e
  exact e
theorem g_OA {h : qH} {x : Nat → Int} {a b : Nat} {F : aF} (hp : a_Rp q_SP 557 h x (1661993005, a, b, F)) : p_OA (m_gh h 539 0) (m_ac (m_gh h) 543 0 1344) (m_ac (m_gh h) 544 0 1344) (m_gh h 534 29) (m_ep x F) := by
  have e := m_gR (by decide +kernel) hp
  rw [f_OA] at e
  exact e
theorem g_FP {h : qH} {x : Nat → Int} {a b : Nat} {F : aF} (hp : a_Rp q_SP 557 h x (537919534, a, b, F)) : p_FP (m_ac (m_gh h) 543 0 1344) (m_ep x F) := by
  have e := m_gR (by decide +kernel) hp
  rw [f_FP] at e
  exact e
theorem g_SV {h : qH} {x : Nat → Int} {a b : Nat} {F : aF} (hp : a_Rp q_SP 557 h x (2718957615, a, b, F)) : p_SV (m_gh h 539 0) (m_ac (m_gh h) 545 0 96) (m_ac (m_gh h) 543 0 1344) (m_ep x F) := by
  have e := m_gR (by decide +kernel) hp
  rw [f_SV] at e
  exact e
theorem g_RC {h : qH} {x : Nat → Int} {a b : Nat} {F : aF} (hp : a_Rp q_SP 557 h x (1099512676400, a, b, F)) : p_RC (m_ac (m_gh h) 553 0 96) (m_ep x F) := by
  have e := m_gR (by decide +kernel) hp
  rw [f_RC] at e
  exact e
theorem g_RD {h : qH} {x : Nat → Int} {a b : Nat} {F : aF} (hp : a_Rp q_SP 557 h x (1099512676401, a, b, F)) : p_RD (m_ac (m_gh h) 553 0 96) (m_ep x F) := by
  have e := m_gR (by decide +kernel) hp
  rw [f_RD] at e
  exact e
theorem g_PX {h : qH} {x : Nat → Int} {a b : Nat} {F : aF} (hp : a_Rp q_SP 557 h x (1099512676404, a, b, F)) : p_PX (m_ac (m_gh h) 553 0 96) (m_ep x F) := by
  have e := m_gR (by decide +kernel) hp
  rw [f_PX] at e
  exact e
theorem g_QQ {h : qH} {x : Nat → Int} {a b : Nat} {F : aF} (hp : a_Rp q_SP 557 h x (3809476661, a, b, F)) : p_QQ (m_gh h 539 0) (m_ac (m_gh h) 545 0 96) (m_gh h 539 2) (m_ac (m_gh h) 539 7 6) (m_ac (m_gh h) 543 0 1344) (m_ac (m_gh h) 544 0 1344) (m_gh h 534 29) (m_ep x F) := by
  have e := m_gR (by decide +kernel) hp
  rw [f_QQ] at e
  exact e
theorem g_TQ {h : qH} {x : Nat → Int} {a b : Nat} {F : aF} (hp : a_Rp q_SP 557 h x (4323473234462769252, a, b, F)) : p_TQ (m_ac (m_gh h) 467 0 60) (m_ac (m_gh h) 469 0 60) (m_ac (m_gh h) 471 0 60) (m_ac (m_gh h) 473 0 60) (m_ac (m_gh h) 537 0 240) (m_ep x F) := by
  have e := m_gR (by decide +kernel) hp
  rw [f_TQ] at e
  exact e
theorem g_XW {h : qH} {x : Nat → Int} {a b : Nat} {F : aF} (hp : a_Rp q_SP 557 h x (1048677, a, b, F)) : p_XW  (m_ep x F) := by
  have e := m_gR (by decide +kernel) hp
  rw [f_XW] at e
  exact e
theorem g_LI {h : qH} {x : Nat → Int} {a b : Nat} {F : aF} (hp : a_Rp q_SP 557 h x (1048678, a, b, F)) : p_LI  (m_ep x F) := by
  have e := m_gR (by decide +kernel) hp
  rw [f_LI] at e
  exact e
theorem g_CV0 {h : qH} {x : Nat → Int} {a b : Nat} {F : aF} (hp : a_Rp q_SP 557 h x (1048679, a, b, F)) : p_CV0  (m_ep x F) := by
  have e := m_gR (by decide +kernel) hp
  rw [f_CV0] at e
  exact e
theorem g_CV1 {h : qH} {x : Nat → Int} {a b : Nat} {F : aF} (hp : a_Rp q_SP 557 h x (1048680, a, b, F)) : p_CV1  (m_ep x F) := by
  have e := m_gR (by decide +kernel) hp
  rw [f_CV1] at e
  exact e
theorem g_CV2 {h : qH} {x : Nat → Int} {a b : Nat} {F : aF} (hp : a_Rp q_SP 557 h x (1048681, a, b, F)) : p_CV2  (m_ep x F) := by
  have e := m_gR (by decide +kernel) hp
  rw [f_CV2] at e
  exact e
theorem g_CR0 {h : qH} {x : Nat → Int} {a b : Nat} {F : aF} (hp : a_Rp q_SP 557 h x (1048682, a, b, F)) : p_CR0  (m_ep x F) := by
  have e := m_gR (by decide +kernel) hp
  rw [f_CR0] at e
  exact e
theorem g_CR1 {h : qH} {x : Nat → Int} {a b : Nat} {F : aF} (hp : a_Rp q_SP 557 h x (1048683, a, b, F)) : p_CR1  (m_ep x F) := by
  have e := m_gR (by decide +kernel) hp
  rw [f_CR1] at e
  exact e
theorem g_CR2 {h : qH} {x : Nat → Int} {a b : Nat} {F : aF} (hp : a_Rp q_SP 557 h x (1048684, a, b, F)) : p_CR2  (m_ep x F) := by
  have e := m_gR (by decide +kernel) hp
  rw [f_CR2] at e
  exact e
theorem g_TE0 {h : qH} {x : Nat → Int} {a b : Nat} {F : aF} (hp : a_Rp q_SP 557 h x (4035242858311057518, a, b, F)) : p_TE0 (m_ac (m_gh h) 469 0 60) (m_ac (m_gh h) 471 0 60) (m_ac (m_gh h) 473 0 60) (m_ac (m_gh h) 537 0 240) (m_ep x F) := by
  have e := m_gR (by decide +kernel) hp
  rw [f_TE0] at e
  exact e
theorem g_TZ0 {h : qH} {x : Nat → Int} {a b : Nat} {F : aF} (hp : a_Rp q_SP 557 h x (288230376152760434, a, b, F)) : p_TZ0 (m_ac (m_gh h) 467 0 60) (m_ep x F) := by
  have e := m_gR (by decide +kernel) hp
  rw [f_TZ0] at e
  exact e
theorem g_TM0 {h : qH} {x : Nat → Int} {a b : Nat} {F : aF} (hp : a_Rp q_SP 557 h x (17592187093110, a, b, F)) : p_TM0 (m_ac (m_gh h) 537 0 240) (m_ep x F) := by
  have e := m_gR (by decide +kernel) hp
  rw [f_TM0] at e
  exact e
theorem g_EX0 {h : qH} {x : Nat → Int} {a b : Nat} {F : aF} (hp : a_Rp q_SP 557 h x (4323473234462769274, a, b, F)) : p_EX0 (m_ac (m_gh h) 467 0 60) (m_ac (m_gh h) 469 0 60) (m_ac (m_gh h) 471 0 60) (m_ac (m_gh h) 473 0 60) (m_ac (m_gh h) 537 0 240) (m_ep x F) := by
  have e := m_gR (by decide +kernel) hp
  rw [f_EX0] at e
  exact e
theorem g_NV0 {h : qH} {x : Nat → Int} {a b : Nat} {F : aF} (hp : a_Rp q_SP 557 h x (288230376152760446, a, b, F)) : p_NV0 (m_ac (m_gh h) 467 0 60) (m_ep x F) := by
  have e := m_gR (by decide +kernel) hp
  rw [f_NV0] at e
  exact e
theorem g_TE1 {h : qH} {x : Nat → Int} {a b : Nat} {F : aF} (hp : a_Rp q_SP 557 h x (3747012482159345775, a, b, F)) : p_TE1 (m_ac (m_gh h) 467 0 60) (m_ac (m_gh h) 471 0 60) (m_ac (m_gh h) 473 0 60) (m_ac (m_gh h) 537 0 240) (m_ep x F) := by
  have e := m_gR (by decide +kernel) hp
  rw [f_TE1] at e
  exact e
theorem g_TZ1 {h : qH} {x : Nat → Int} {a b : Nat} {F : aF} (hp : a_Rp q_SP 557 h x (576460752304472179, a, b, F)) : p_TZ1 (m_ac (m_gh h) 469 0 60) (m_ep x F) := by
  have e := m_gR (by decide +kernel) hp
  rw [f_TZ1] at e
  exact e
theorem g_TM1 {h : qH} {x : Nat → Int} {a b : Nat} {F : aF} (hp : a_Rp q_SP 557 h x (17592187093111, a, b, F)) : p_TM1 (m_ac (m_gh h) 537 0 240) (m_ep x F) := by
  have e := m_gR (by decide +kernel) hp
  rw [f_TM1] at e
  exact e
theorem g_EX1 {h : qH} {x : Nat → Int} {a b : Nat} {F : aF} (hp : a_Rp q_SP 557 h x (4323473234462769275, a, b, F)) : p_EX1 (m_ac (m_gh h) 467 0 60) (m_ac (m_gh h) 469 0 60) (m_ac (m_gh h) 471 0 60) (m_ac (m_gh h) 473 0 60) (m_ac (m_gh h) 537 0 240) (m_ep x F) := by
  have e := m_gR (by decide +kernel) hp
  rw [f_EX1] at e
  exact e
