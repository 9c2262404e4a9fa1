-- 67c1.core: the texts' rules in numbers (printed by wip/p5/gen68.py)
theorem k_ms10c {qn : Int} {qk : Int} {qs : Int} {qq : Int} {qv : Int} {wo : Int} {wf : Int} {wn : Int} {wc : Int} {wm : Int} {ws : Int} {wi : Int} {wl : Int} {ba : Int → Int} {xa : Int → Int} {xb : Int → Int} {xc : Int → Int} {xd : Int → Int} {xe : Int → Int} {xf : Int → Int} {xg : Int → Int} {xh : Int → Int} (hqn : 0 ≤ qn ∧ qn ≤ 900) (hqk : 0 ≤ qk ∧ qk ≤ 4) (hqs : 0 ≤ qs ∧ qs ≤ 900) (hqq : 0 ≤ qq ∧ qq ≤ 900) (hwo : 2 ≤ wo ∧ wo ≤ 13) (hwf : 1 ≤ wf ∧ wf ≤ 13) (hwn : 0 ≤ wn ∧ wn ≤ 96) (hwc : 0 ≤ wc ∧ wc ≤ 6) (hwm : 0 ≤ wm ∧ wm ≤ 4) (hws : 0 ≤ ws ∧ ws ≤ 6) (hwi : 0 ≤ wi ∧ wi ≤ 8) (hba : ∀ i, -128 ≤ ba i ∧ ba i ≤ 127) (hxe : ∀ i, 0 ≤ xe i ∧ xe i ≤ 12) {F G s q kk Y : Int} (p0 : p_CFA ba qn wo wf wn wc wm ws wi wl xa xb xc xd xe xf xg xh (F)) (p1 : p_NSI ba qn (G)) (p2 : p_CU ba qk qs qq qn qv (s)) (p3 : kk = qk) (p4 : q = qq) (c0 : 0 ≤ F + (-1) * s + (-65536) * Y + (-10240)) (c1 : 0 ≤ s + 65536 * Y + (-1) * F + 10240) (c2 : 0 ≤ G + (-256) * s + (-187)) (c3 : 0 ≤ 256 * s + (-1) * G + 187) (c4 : 0 ≤ kk + (-2)) (c5 : 0 ≤ s) (c6 : 0 ≤ (-1) * s + 900) (c7 : 0 ≤ Y) (c8 : 0 ≤ (-1) * Y + 4294967295) : p_HF ba qn (8 * s + 2) := by
  obtain ⟨st, s1, r1, r2, np, W0, W, pk, cf, sv, eW, w1, w2, w3, w4, w5, w6, w7, of⟩ := p0
  unfold m_pk at pk
  obtain rfl : s1 = s := by omega
  obtain rfl : st = 10 := by omega
  obtain ⟨s0, c0, y1, y2, y3, y4, hw⟩ := p1
  obtain ⟨rfl, rfl⟩ : s0 = s1 ∧ c0 = 59 := by omega
  obtain ⟨uA, u0, u1, u2, u3⟩ := p2
  exact ⟨2, s0, by omega, by omega, by omega, m_mp2 (m_st_sn (o := m_go 5 (m_sk ba qn (m_te ba qn s0)) 0 0 0 (m_cm 10 r1 r2 np W0)) rfl cf (by decide) hw) (by omega)⟩
theorem k_sm23 {qn : Int} {qk : Int} {qs : Int} {qq : Int} {qv : Int} {wo : Int} {wf : Int} {wn : Int} {wc : Int} {wm : Int} {ws : Int} {wi : Int} {wl : Int} {ba : Int → Int} {xa : Int → Int} {xb : Int → Int} {xc : Int → Int} {xd : Int → Int} {xe : Int → Int} {xf : Int → Int} {xg : Int → Int} {xh : Int → Int} (hqn : 0 ≤ qn ∧ qn ≤ 900) (hqk : 0 ≤ qk ∧ qk ≤ 4) (hqs : 0 ≤ qs ∧ qs ≤ 900) (hqq : 0 ≤ qq ∧ qq ≤ 900) (hwo : 2 ≤ wo ∧ wo ≤ 13) (hwf : 1 ≤ wf ∧ wf ≤ 13) (hwn : 0 ≤ wn ∧ wn ≤ 96) (hwc : 0 ≤ wc ∧ wc ≤ 6) (hwm : 0 ≤ wm ∧ wm ≤ 4) (hws : 0 ≤ ws ∧ ws ≤ 6) (hwi : 0 ≤ wi ∧ wi ≤ 8) (hba : ∀ i, -128 ≤ ba i ∧ ba i ≤ 127) (hxe : ∀ i, 0 ≤ xe i ∧ xe i ≤ 12) {F G s q kk Y : Int} (p0 : p_CFA ba qn wo wf wn wc wm ws wi wl xa xb xc xd xe xf xg xh (F)) (p1 : p_SI ba qn (G)) (p2 : p_CU ba qk qs qq qn qv (s)) (p3 : kk = qk) (p4 : q = qq) (c0 : 0 ≤ F + (-1) * s + (-65536) * Y + (-23552)) (c1 : 0 ≤ s + 65536 * Y + (-1) * F + 23552) (c2 : 0 ≤ G + (-256) * s + (-187)) (c3 : 0 ≤ 256 * s + (-1) * G + 187) (c4 : 0 ≤ q) (c5 : 0 ≤ (-1) * q + 1023) (c6 : 0 ≤ s) (c7 : 0 ≤ (-1) * s + 900) (c8 : 0 ≤ Y) (c9 : 0 ≤ (-1) * Y + 4294967295) : p_RDX ba qn wo wf wn wc wm ws wi wl xa xb xc xd xe xf xg xh (q + 5120) := by
  obtain ⟨st, s1, r1, r2, np, W0, W, pk, cf, sv, eW, w1, w2, w3, w4, w5, w6, w7, of⟩ := p0
  unfold m_pk at pk
  obtain rfl : s1 = s := by omega
  obtain rfl : st = 23 := by omega
  obtain ⟨s0, c0, y1, y2, y3, y4, hw⟩ := p1
  obtain ⟨rfl, rfl⟩ : s0 = s1 ∧ c0 = 59 := by omega
  obtain ⟨uA, u0, u1, u2, u3⟩ := p2
  have AT := m_st_s (o := m_go 5 (m_sk ba qn (m_te ba qn s0)) 0 0 0 (m_cm 23 r1 r2 np W0)) rfl cf (by decide) hw
  rw [← u2, ← eW] at AT
  exact ⟨5, qq, 0, 0, 0, W, (by unfold m_pk; omega), Or.inl ⟨by decide, AT⟩, w1, w2, w3, w4, w5, w6, w7, of, fun h => absurd h (by unfold m_ps; decide)⟩
theorem k_ms23a {qn : Int} {qk : Int} {qs : Int} {qq : Int} {qv : Int} {wo : Int} {wf : Int} {wn : Int} {wc : Int} {wm : Int} {ws : Int} {wi : Int} {wl : Int} {ba : Int → Int} {xa : Int → Int} {xb : Int → Int} {xc : Int → Int} {xd : Int → Int} {xe : Int → Int} {xf : Int → Int} {xg : Int → Int} {xh : Int → Int} (hqn : 0 ≤ qn ∧ qn ≤ 900) (hqk : 0 ≤ qk ∧ qk ≤ 4) (hqs : 0 ≤ qs ∧ qs ≤ 900) (hqq : 0 ≤ qq ∧ qq ≤ 900) (hwo : 2 ≤ wo ∧ wo ≤ 13) (hwf : 1 ≤ wf ∧ wf ≤ 13) (hwn : 0 ≤ wn ∧ wn ≤ 96) (hwc : 0 ≤ wc ∧ wc ≤ 6) (hwm : 0 ≤ wm ∧ wm ≤ 4) (hws : 0 ≤ ws ∧ ws ≤ 6) (hwi : 0 ≤ wi ∧ wi ≤ 8) (hba : ∀ i, -128 ≤ ba i ∧ ba i ≤ 127) (hxe : ∀ i, 0 ≤ xe i ∧ xe i ≤ 12) {F G s q kk Y : Int} (p0 : p_CFA ba qn wo wf wn wc wm ws wi wl xa xb xc xd xe xf xg xh (F)) (p1 : p_NSI ba qn (G)) (p2 : p_CU ba qk qs qq qn qv (s)) (p3 : kk = qk) (p4 : q = qq) (c0 : 0 ≤ F + (-1) * s + (-65536) * Y + (-23552)) (c1 : 0 ≤ s + 65536 * Y + (-1) * F + 23552) (c2 : 0 ≤ G + (-256) * s + (-187)) (c3 : 0 ≤ 256 * s + (-1) * G + 187) (c4 : 0 ≤ kk + (-1)) (c5 : 0 ≤ (-1) * kk + 1) (c6 : 0 ≤ s) (c7 : 0 ≤ (-1) * s + 900) (c8 : 0 ≤ Y) (c9 : 0 ≤ (-1) * Y + 4294967295) : p_HF ba qn (8 * s + 1) := by
  obtain ⟨st, s1, r1, r2, np, W0, W, pk, cf, sv, eW, w1, w2, w3, w4, w5, w6, w7, of⟩ := p0
  unfold m_pk at pk
  obtain rfl : s1 = s := by omega
  obtain rfl : st = 23 := by omega
  obtain ⟨s0, c0, y1, y2, y3, y4, hw⟩ := p1
  obtain ⟨rfl, rfl⟩ : s0 = s1 ∧ c0 = 59 := by omega
  obtain ⟨uA, u0, u1, u2, u3⟩ := p2
  exact ⟨1, s0, by omega, by omega, by omega, m_mp1 (m_st_sn (o := m_go 5 (m_sk ba qn (m_te ba qn s0)) 0 0 0 (m_cm 23 r1 r2 np W0)) rfl cf (by decide) hw) (by omega)⟩
theorem k_ms23b {qn : Int} {qk : Int} {qs : Int} {qq : Int} {qv : Int} {wo : Int} {wf : Int} {wn : Int} {wc : Int} {wm : Int} {ws : Int} {wi : Int} {wl : Int} {ba : Int → Int} {xa : Int → Int} {xb : Int → Int} {xc : Int → Int} {xd : Int → Int} {xe : Int → Int} {xf : Int → Int} {xg : Int → Int} {xh : Int → Int} (hqn : 0 ≤ qn ∧ qn ≤ 900) (hqk : 0 ≤ qk ∧ qk ≤ 4) (hqs : 0 ≤ qs ∧ qs ≤ 900) (hqq : 0 ≤ qq ∧ qq ≤ 900) (hwo : 2 ≤ wo ∧ wo ≤ 13) (hwf : 1 ≤ wf ∧ wf ≤ 13) (hwn : 0 ≤ wn ∧ wn ≤ 96) (hwc : 0 ≤ wc ∧ wc ≤ 6) (hwm : 0 ≤ wm ∧ wm ≤ 4) (hws : 0 ≤ ws ∧ ws ≤ 6) (hwi : 0 ≤ wi ∧ wi ≤ 8) (hba : ∀ i, -128 ≤ ba i ∧ ba i ≤ 127) (hxe : ∀ i, 0 ≤ xe i ∧ xe i ≤ 12) {F G s q kk Y : Int} (p0 : p_CFA ba qn wo wf wn wc wm ws wi wl xa xb xc xd xe xf xg xh (F)) (p1 : p_NSI ba qn (G)) (p2 : p_CU ba qk qs qq qn qv (s)) (p3 : kk = qk) (p4 : q = qq) (c0 : 0 ≤ F + (-1) * s + (-65536) * Y + (-23552)) (c1 : 0 ≤ s + 65536 * Y + (-1) * F + 23552) (c2 : 0 ≤ G + (-256) * s + (-187)) (c3 : 0 ≤ 256 * s + (-1) * G + 187) (c4 : 0 ≤ (-1) * kk) (c5 : 0 ≤ s) (c6 : 0 ≤ (-1) * s + 900) (c7 : 0 ≤ Y) (c8 : 0 ≤ (-1) * Y + 4294967295) : p_HF ba qn (8 * s + 2) := by
  obtain ⟨st, s1, r1, r2, np, W0, W, pk, cf, sv, eW, w1, w2, w3, w4, w5, w6, w7, of⟩ := p0
  unfold m_pk at pk
  obtain rfl : s1 = s := by omega
  obtain rfl : st = 23 := by omega
  obtain ⟨s0, c0, y1, y2, y3, y4, hw⟩ := p1
  obtain ⟨rfl, rfl⟩ : s0 = s1 ∧ c0 = 59 := by omega
  obtain ⟨uA, u0, u1, u2, u3⟩ := p2
  exact ⟨2, s0, by omega, by omega, by omega, m_mp2 (m_st_sn (o := m_go 5 (m_sk ba qn (m_te ba qn s0)) 0 0 0 (m_cm 23 r1 r2 np W0)) rfl cf (by decide) hw) (by omega)⟩
theorem k_ms23c {qn : Int} {qk : Int} {qs : Int} {qq : Int} {qv : Int} {wo : Int} {wf : Int} {wn : Int} {wc : Int} {wm : Int} {ws : Int} {wi : Int} {wl : Int} {ba : Int → Int} {xa : Int → Int} {xb : Int → Int} {xc : Int → Int} {xd : Int → Int} {xe : Int → Int} {xf : Int → Int} {xg : Int → Int} {xh : Int → Int} (hqn : 0 ≤ qn ∧ qn ≤ 900) (hqk : 0 ≤ qk ∧ qk ≤ 4) (hqs : 0 ≤ qs ∧ qs ≤ 900) (hqq : 0 ≤ qq ∧ qq ≤ 900) (hwo : 2 ≤ wo ∧ wo ≤ 13) (hwf : 1 ≤ wf ∧ wf ≤ 13) (hwn : 0 ≤ wn ∧ wn ≤ 96) (hwc : 0 ≤ wc ∧ wc ≤ 6) (hwm : 0 ≤ wm ∧ wm ≤ 4) (hws : 0 ≤ ws ∧ ws ≤ 6) (hwi : 0 ≤ wi ∧ wi ≤ 8) (hba : ∀ i, -128 ≤ ba i ∧ ba i ≤ 127) (hxe : ∀ i, 0 ≤ xe i ∧ xe i ≤ 12) {F G s q kk Y : Int} (p0 : p_CFA ba qn wo wf wn wc wm ws wi wl xa xb xc xd xe xf xg xh (F)) (p1 : p_NSI ba qn (G)) (p2 : p_CU ba qk qs qq qn qv (s)) (p3 : kk = qk) (p4 : q = qq) (c0 : 0 ≤ F + (-1) * s + (-65536) * Y + (-23552)) (c1 : 0 ≤ s + 65536 * Y + (-1) * F + 23552) (c2 : 0 ≤ G + (-256) * s + (-187)) (c3 : 0 ≤ 256 * s + (-1) * G + 187) (c4 : 0 ≤ kk + (-2)) (c5 : 0 ≤ s) (c6 : 0 ≤ (-1) * s + 900) (c7 : 0 ≤ Y) (c8 : 0 ≤ (-1) * Y + 4294967295) : p_HF ba qn (8 * s + 2) := by
  obtain ⟨st, s1, r1, r2, np, W0, W, pk, cf, sv, eW, w1, w2, w3, w4, w5, w6, w7, of⟩ := p0
  unfold m_pk at pk
  obtain rfl : s1 = s := by omega
  obtain rfl : st = 23 := by omega
  obtain ⟨s0, c0, y1, y2, y3, y4, hw⟩ := p1
  obtain ⟨rfl, rfl⟩ : s0 = s1 ∧ c0 = 59 := by omega
  obtain ⟨uA, u0, u1, u2, u3⟩ := p2
  exact ⟨2, s0, by omega, by omega, by omega, m_mp2 (m_st_sn (o := m_go 5 (m_sk ba qn (m_te ba qn s0)) 0 0 0 (m_cm 23 r1 r2 np W0)) rfl cf (by decide) hw) (by omega)⟩
theorem k_sm24 {qn : Int} {qk : Int} {qs : Int} {qq : Int} {qv : Int} {wo : Int} {wf : Int} {wn : Int} {wc : Int} {wm : Int} {ws : Int} {wi : Int} {wl : Int} {ba : Int → Int} {xa : Int → Int} {xb : Int → Int} {xc : Int → Int} {xd : Int → Int} {xe : Int → Int} {xf : Int → Int} {xg : Int → Int} {xh : Int → Int} (hqn : 0 ≤ qn ∧ qn ≤ 900) (hqk : 0 ≤ qk ∧ qk ≤ 4) (hqs : 0 ≤ qs ∧ qs ≤ 900) (hqq : 0 ≤ qq ∧ qq ≤ 900) (hwo : 2 ≤ wo ∧ wo ≤ 13) (hwf : 1 ≤ wf ∧ wf ≤ 13) (hwn : 0 ≤ wn ∧ wn ≤ 96) (hwc : 0 ≤ wc ∧ wc ≤ 6) (hwm : 0 ≤ wm ∧ wm ≤ 4) (hws : 0 ≤ ws ∧ ws ≤ 6) (hwi : 0 ≤ wi ∧ wi ≤ 8) (hba : ∀ i, -128 ≤ ba i ∧ ba i ≤ 127) (hxe : ∀ i, 0 ≤ xe i ∧ xe i ≤ 12) {F G s q kk Y : Int} (p0 : p_CFA ba qn wo wf wn wc wm ws wi wl xa xb xc xd xe xf xg xh (F)) (p1 : p_SI ba qn (G)) (p2 : p_CU ba qk qs qq qn qv (s)) (p3 : kk = qk) (p4 : q = qq) (c0 : 0 ≤ F + (-1) * s + (-65536) * Y + (-24576)) (c1 : 0 ≤ s + 65536 * Y + (-1) * F + 24576) (c2 : 0 ≤ G + (-256) * s + (-187)) (c3 : 0 ≤ 256 * s + (-1) * G + 187) (c4 : 0 ≤ q) (c5 : 0 ≤ (-1) * q + 1023) (c6 : 0 ≤ s) (c7 : 0 ≤ (-1) * s + 900) (c8 : 0 ≤ Y) (c9 : 0 ≤ (-1) * Y + 4294967295) : p_RDX ba qn wo wf wn wc wm ws wi wl xa xb xc xd xe xf xg xh (q + 5120) := by
  obtain ⟨st, s1, r1, r2, np, W0, W, pk, cf, sv, eW, w1, w2, w3, w4, w5, w6, w7, of⟩ := p0
  unfold m_pk at pk
  obtain rfl : s1 = s := by omega
  obtain rfl : st = 24 := by omega
  obtain ⟨s0, c0, y1, y2, y3, y4, hw⟩ := p1
  obtain ⟨rfl, rfl⟩ : s0 = s1 ∧ c0 = 59 := by omega
  obtain ⟨uA, u0, u1, u2, u3⟩ := p2
  have AT := m_st_s (o := m_go 5 (m_sk ba qn (m_te ba qn s0)) 0 0 0 (m_cm 24 r1 r2 np W0)) rfl cf (by decide) hw
  rw [← u2, ← eW] at AT
  exact ⟨5, qq, 0, 0, 0, W, (by unfold m_pk; omega), Or.inl ⟨by decide, AT⟩, w1, w2, w3, w4, w5, w6, w7, of, fun h => absurd h (by unfold m_ps; decide)⟩
theorem k_ms24a {qn : Int} {qk : Int} {qs : Int} {qq : Int} {qv : Int} {wo : Int} {wf : Int} {wn : Int} {wc : Int} {wm : Int} {ws : Int} {wi : Int} {wl : Int} {ba : Int → Int} {xa : Int → Int} {xb : Int → Int} {xc : Int → Int} {xd : Int → Int} {xe : Int → Int} {xf : Int → Int} {xg : Int → Int} {xh : Int → Int} (hqn : 0 ≤ qn ∧ qn ≤ 900) (hqk : 0 ≤ qk ∧ qk ≤ 4) (hqs : 0 ≤ qs ∧ qs ≤ 900) (hqq : 0 ≤ qq ∧ qq ≤ 900) (hwo : 2 ≤ wo ∧ wo ≤ 13) (hwf : 1 ≤ wf ∧ wf ≤ 13) (hwn : 0 ≤ wn ∧ wn ≤ 96) (hwc : 0 ≤ wc ∧ wc ≤ 6) (hwm : 0 ≤ wm ∧ wm ≤ 4) (hws : 0 ≤ ws ∧ ws ≤ 6) (hwi : 0 ≤ wi ∧ wi ≤ 8) (hba : ∀ i, -128 ≤ ba i ∧ ba i ≤ 127) (hxe : ∀ i, 0 ≤ xe i ∧ xe i ≤ 12) {F G s q kk Y : Int} (p0 : p_CFA ba qn wo wf wn wc wm ws wi wl xa xb xc xd xe xf xg xh (F)) (p1 : p_NSI ba qn (G)) (p2 : p_CU ba qk qs qq qn qv (s)) (p3 : kk = qk) (p4 : q = qq) (c0 : 0 ≤ F + (-1) * s + (-65536) * Y + (-24576)) (c1 : 0 ≤ s + 65536 * Y + (-1) * F + 24576) (c2 : 0 ≤ G + (-256) * s + (-187)) (c3 : 0 ≤ 256 * s + (-1) * G + 187) (c4 : 0 ≤ kk + (-1)) (c5 : 0 ≤ (-1) * kk + 1) (c6 : 0 ≤ s) (c7 : 0 ≤ (-1) * s + 900) (c8 : 0 ≤ Y) (c9 : 0 ≤ (-1) * Y + 4294967295) : p_HF ba qn (8 * s + 1) := by
  obtain ⟨st, s1, r1, r2, np, W0, W, pk, cf, sv, eW, w1, w2, w3, w4, w5, w6, w7, of⟩ := p0
  unfold m_pk at pk
  obtain rfl : s1 = s := by omega
  obtain rfl : st = 24 := by omega
  obtain ⟨s0, c0, y1, y2, y3, y4, hw⟩ := p1
  obtain ⟨rfl, rfl⟩ : s0 = s1 ∧ c0 = 59 := by omega
  obtain ⟨uA, u0, u1, u2, u3⟩ := p2
  exact ⟨1, s0, by omega, by omega, by omega, m_mp1 (m_st_sn (o := m_go 5 (m_sk ba qn (m_te ba qn s0)) 0 0 0 (m_cm 24 r1 r2 np W0)) rfl cf (by decide) hw) (by omega)⟩
theorem k_ms24b {qn : Int} {qk : Int} {qs : Int} {qq : Int} {qv : Int} {wo : Int} {wf : Int} {wn : Int} {wc : Int} {wm : Int} {ws : Int} {wi : Int} {wl : Int} {ba : Int → Int} {xa : Int → Int} {xb : Int → Int} {xc : Int → Int} {xd : Int → Int} {xe : Int → Int} {xf : Int → Int} {xg : Int → Int} {xh : Int → Int} (hqn : 0 ≤ qn ∧ qn ≤ 900) (hqk : 0 ≤ qk ∧ qk ≤ 4) (hqs : 0 ≤ qs ∧ qs ≤ 900) (hqq : 0 ≤ qq ∧ qq ≤ 900) (hwo : 2 ≤ wo ∧ wo ≤ 13) (hwf : 1 ≤ wf ∧ wf ≤ 13) (hwn : 0 ≤ wn ∧ wn ≤ 96) (hwc : 0 ≤ wc ∧ wc ≤ 6) (hwm : 0 ≤ wm ∧ wm ≤ 4) (hws : 0 ≤ ws ∧ ws ≤ 6) (hwi : 0 ≤ wi ∧ wi ≤ 8) (hba : ∀ i, -128 ≤ ba i ∧ ba i ≤ 127) (hxe : ∀ i, 0 ≤ xe i ∧ xe i ≤ 12) {F G s q kk Y : Int} (p0 : p_CFA ba qn wo wf wn wc wm ws wi wl xa xb xc xd xe xf xg xh (F)) (p1 : p_NSI ba qn (G)) (p2 : p_CU ba qk qs qq qn qv (s)) (p3 : kk = qk) (p4 : q = qq) (c0 : 0 ≤ F + (-1) * s + (-65536) * Y + (-24576)) (c1 : 0 ≤ s + 65536 * Y + (-1) * F + 24576) (c2 : 0 ≤ G + (-256) * s + (-187)) (c3 : 0 ≤ 256 * s + (-1) * G + 187) (c4 : 0 ≤ (-1) * kk) (c5 : 0 ≤ s) (c6 : 0 ≤ (-1) * s + 900) (c7 : 0 ≤ Y) (c8 : 0 ≤ (-1) * Y + 4294967295) : p_HF ba qn (8 * s + 2) := by
  obtain ⟨st, s1, r1, r2, np, W0, W, pk, cf, sv, eW, w1, w2, w3, w4, w5, w6, w7, of⟩ := p0
  unfold m_pk at pk
  obtain rfl : s1 = s := by omega
  obtain rfl : st = 24 := by omega
  obtain ⟨s0, c0, y1, y2, y3, y4, hw⟩ := p1
  obtain ⟨rfl, rfl⟩ : s0 = s1 ∧ c0 = 59 := by omega
  obtain ⟨uA, u0, u1, u2, u3⟩ := p2
  exact ⟨2, s0, by omega, by omega, by omega, m_mp2 (m_st_sn (o := m_go 5 (m_sk ba qn (m_te ba qn s0)) 0 0 0 (m_cm 24 r1 r2 np W0)) rfl cf (by decide) hw) (by omega)⟩
theorem k_ms24c {qn : Int} {qk : Int} {qs : Int} {qq : Int} {qv : Int} {wo : Int} {wf : Int} {wn : Int} {wc : Int} {wm : Int} {ws : Int} {wi : Int} {wl : Int} {ba : Int → Int} {xa : Int → Int} {xb : Int → Int} {xc : Int → Int} {xd : Int → Int} {xe : Int → Int} {xf : Int → Int} {xg : Int → Int} {xh : Int → Int} (hqn : 0 ≤ qn ∧ qn ≤ 900) (hqk : 0 ≤ qk ∧ qk ≤ 4) (hqs : 0 ≤ qs ∧ qs ≤ 900) (hqq : 0 ≤ qq ∧ qq ≤ 900) (hwo : 2 ≤ wo ∧ wo ≤ 13) (hwf : 1 ≤ wf ∧ wf ≤ 13) (hwn : 0 ≤ wn ∧ wn ≤ 96) (hwc : 0 ≤ wc ∧ wc ≤ 6) (hwm : 0 ≤ wm ∧ wm ≤ 4) (hws : 0 ≤ ws ∧ ws ≤ 6) (hwi : 0 ≤ wi ∧ wi ≤ 8) (hba : ∀ i, -128 ≤ ba i ∧ ba i ≤ 127) (hxe : ∀ i, 0 ≤ xe i ∧ xe i ≤ 12) {F G s q kk Y : Int} (p0 : p_CFA ba qn wo wf wn wc wm ws wi wl xa xb xc xd xe xf xg xh (F)) (p1 : p_NSI ba qn (G)) (p2 : p_CU ba qk qs qq qn qv (s)) (p3 : kk = qk) (p4 : q = qq) (c0 : 0 ≤ F + (-1) * s + (-65536) * Y + (-24576)) (c1 : 0 ≤ s + 65536 * Y + (-1) * F + 24576) (c2 : 0 ≤ G + (-256) * s + (-187)) (c3 : 0 ≤ 256 * s + (-1) * G + 187) (c4 : 0 ≤ kk + (-2)) (c5 : 0 ≤ s) (c6 : 0 ≤ (-1) * s + 900) (c7 : 0 ≤ Y) (c8 : 0 ≤ (-1) * Y + 4294967295) : p_HF ba qn (8 * s + 2) := by
  obtain ⟨st, s1, r1, r2, np, W0, W, pk, cf, sv, eW, w1, w2, w3, w4, w5, w6, w7, of⟩ := p0
  unfold m_pk at pk
  obtain rfl : s1 = s := by omega
  obtain rfl : st = 24 := by omega
  obtain ⟨s0, c0, y1, y2, y3, y4, hw⟩ := p1
  obtain ⟨rfl, rfl⟩ : s0 = s1 ∧ c0 = 59 := by omega
  obtain ⟨uA, u0, u1, u2, u3⟩ := p2
  exact ⟨2, s0, by omega, by omega, by omega, m_mp2 (m_st_sn (o := m_go 5 (m_sk ba qn (m_te ba qn s0)) 0 0 0 (m_cm 24 r1 r2 np W0)) rfl cf (by decide) hw) (by omega)⟩
theorem k_sm25 {qn : Int} {qk : Int} {qs : Int} {qq : Int} {qv : Int} {wo : Int} {wf : Int} {wn : Int} {wc : Int} {wm : Int} {ws : Int} {wi : Int} {wl : Int} {ba : Int → Int} {xa : Int → Int} {xb : Int → Int} {xc : Int → Int} {xd : Int → Int} {xe : Int → Int} {xf : Int → Int} {xg : Int → Int} {xh : Int → Int} (hqn : 0 ≤ qn ∧ qn ≤ 900) (hqk : 0 ≤ qk ∧ qk ≤ 4) (hqs : 0 ≤ qs ∧ qs ≤ 900) (hqq : 0 ≤ qq ∧ qq ≤ 900) (hwo : 2 ≤ wo ∧ wo ≤ 13) (hwf : 1 ≤ wf ∧ wf ≤ 13) (hwn : 0 ≤ wn ∧ wn ≤ 96) (hwc : 0 ≤ wc ∧ wc ≤ 6) (hwm : 0 ≤ wm ∧ wm ≤ 4) (hws : 0 ≤ ws ∧ ws ≤ 6) (hwi : 0 ≤ wi ∧ wi ≤ 8) (hba : ∀ i, -128 ≤ ba i ∧ ba i ≤ 127) (hxe : ∀ i, 0 ≤ xe i ∧ xe i ≤ 12) {F G s q kk Y : Int} (p0 : p_CFA ba qn wo wf wn wc wm ws wi wl xa xb xc xd xe xf xg xh (F)) (p1 : p_SI ba qn (G)) (p2 : p_CU ba qk qs qq qn qv (s)) (p3 : kk = qk) (p4 : q = qq) (c0 : 0 ≤ F + (-1) * s + (-65536) * Y + (-25600)) (c1 : 0 ≤ s + 65536 * Y + (-1) * F + 25600) (c2 : 0 ≤ G + (-256) * s + (-187)) (c3 : 0 ≤ 256 * s + (-1) * G + 187) (c4 : 0 ≤ q) (c5 : 0 ≤ (-1) * q + 1023) (c6 : 0 ≤ s) (c7 : 0 ≤ (-1) * s + 900) (c8 : 0 ≤ Y) (c9 : 0 ≤ (-1) * Y + 4294967295) : p_RDX ba qn wo wf wn wc wm ws wi wl xa xb xc xd xe xf xg xh (q + 5120) := by
  obtain ⟨st, s1, r1, r2, np, W0, W, pk, cf, sv, eW, w1, w2, w3, w4, w5, w6, w7, of⟩ := p0
  unfold m_pk at pk
  obtain rfl : s1 = s := by omega
  obtain rfl : st = 25 := by omega
  obtain ⟨s0, c0, y1, y2, y3, y4, hw⟩ := p1
  obtain ⟨rfl, rfl⟩ : s0 = s1 ∧ c0 = 59 := by omega
  obtain ⟨uA, u0, u1, u2, u3⟩ := p2
  have AT := m_st_s (o := m_go 5 (m_sk ba qn (m_te ba qn s0)) 0 0 0 (m_cm 25 r1 r2 np W0)) rfl cf (by decide) hw
  rw [← u2, ← eW] at AT
  exact ⟨5, qq, 0, 0, 0, W, (by unfold m_pk; omega), Or.inl ⟨by decide, AT⟩, w1, w2, w3, w4, w5, w6, w7, of, fun h => absurd h (by unfold m_ps; decide)⟩
theorem k_ms25a {qn : Int} {qk : Int} {qs : Int} {qq : Int} {qv : Int} {wo : Int} {wf : Int} {wn : Int} {wc : Int} {wm : Int} {ws : Int} {wi : Int} {wl : Int} {ba : Int → Int} {xa : Int → Int} {xb : Int → Int} {xc : Int → Int} {xd : Int → Int} {xe : Int → Int} {xf : Int → Int} {xg : Int → Int} {xh : Int → Int} (hqn : 0 ≤ qn ∧ qn ≤ 900) (hqk : 0 ≤ qk ∧ qk ≤ 4) (hqs : 0 ≤ qs ∧ qs ≤ 900) (hqq : 0 ≤ qq ∧ qq ≤ 900) (hwo : 2 ≤ wo ∧ wo ≤ 13) (hwf : 1 ≤ wf ∧ wf ≤ 13) (hwn : 0 ≤ wn ∧ wn ≤ 96) (hwc : 0 ≤ wc ∧ wc ≤ 6) (hwm : 0 ≤ wm ∧ wm ≤ 4) (hws : 0 ≤ ws ∧ ws ≤ 6) (hwi : 0 ≤ wi ∧ wi ≤ 8) (hba : ∀ i, -128 ≤ ba i ∧ ba i ≤ 127) (hxe : ∀ i, 0 ≤ xe i ∧ xe i ≤ 12) {F G s q kk Y : Int} (p0 : p_CFA ba qn wo wf wn wc wm ws wi wl xa xb xc xd xe xf xg xh (F)) (p1 : p_NSI ba qn (G)) (p2 : p_CU ba qk qs qq qn qv (s)) (p3 : kk = qk) (p4 : q = qq) (c0 : 0 ≤ F + (-1) * s + (-65536) * Y + (-25600)) (c1 : 0 ≤ s + 65536 * Y + (-1) * F + 25600) (c2 : 0 ≤ G + (-256) * s + (-187)) (c3 : 0 ≤ 256 * s + (-1) * G + 187) (c4 : 0 ≤ kk + (-1)) (c5 : 0 ≤ (-1) * kk + 1) (c6 : 0 ≤ s) (c7 : 0 ≤ (-1) * s + 900) (c8 : 0 ≤ Y) (c9 : 0 ≤ (-1) * Y + 4294967295) : p_HF ba qn (8 * s + 1) := by
  obtain ⟨st, s1, r1, r2, np, W0, W, pk, cf, sv, eW, w1, w2, w3, w4, w5, w6, w7, of⟩ := p0
  unfold m_pk at pk
  obtain rfl : s1 = s := by omega
  obtain rfl : st = 25 := by omega
  obtain ⟨s0, c0, y1, y2, y3, y4, hw⟩ := p1
  obtain ⟨rfl, rfl⟩ : s0 = s1 ∧ c0 = 59 := by omega
  obtain ⟨uA, u0, u1, u2, u3⟩ := p2
  exact ⟨1, s0, by omega, by omega, by omega, m_mp1 (m_st_sn (o := m_go 5 (m_sk ba qn (m_te ba qn s0)) 0 0 0 (m_cm 25 r1 r2 np W0)) rfl cf (by decide) hw) (by omega)⟩
theorem k_ms25b {qn : Int} {qk : Int} {qs : Int} {qq : Int} {qv : Int} {wo : Int} {wf : Int} {wn : Int} {wc : Int} {wm : Int} {ws : Int} {wi : Int} {wl : Int} {ba : Int → Int} {xa : Int → Int} {xb : Int → Int} {xc : Int → Int} {xd : Int → Int} {xe : Int → Int} {xf : Int → Int} {xg : Int → Int} {xh : Int → Int} (hqn : 0 ≤ qn ∧ qn ≤ 900) (hqk : 0 ≤ qk ∧ qk ≤ 4) (hqs : 0 ≤ qs ∧ qs ≤ 900) (hqq : 0 ≤ qq ∧ qq ≤ 900) (hwo : 2 ≤ wo ∧ wo ≤ 13) (hwf : 1 ≤ wf ∧ wf ≤ 13) (hwn : 0 ≤ wn ∧ wn ≤ 96) (hwc : 0 ≤ wc ∧ wc ≤ 6) (hwm : 0 ≤ wm ∧ wm ≤ 4) (hws : 0 ≤ ws ∧ ws ≤ 6) (hwi : 0 ≤ wi ∧ wi ≤ 8) (hba : ∀ i, -128 ≤ ba i ∧ ba i ≤ 127) (hxe : ∀ i, 0 ≤ xe i ∧ xe i ≤ 12) {F G s q kk Y : Int} (p0 : p_CFA ba qn wo wf wn wc wm ws wi wl xa xb xc xd xe xf xg xh (F)) (p1 : p_NSI ba qn (G)) (p2 : p_CU ba qk qs qq qn qv (s)) (p3 : kk = qk) (p4 : q = qq) (c0 : 0 ≤ F + (-1) * s + (-65536) * Y + (-25600)) (c1 : 0 ≤ s + 65536 * Y + (-1) * F + 25600) (c2 : 0 ≤ G + (-256) * s + (-187)) (c3 : 0 ≤ 256 * s + (-1) * G + 187) (c4 : 0 ≤ (-1) * kk) (c5 : 0 ≤ s) (c6 : 0 ≤ (-1) * s + 900) (c7 : 0 ≤ Y) (c8 : 0 ≤ (-1) * Y + 4294967295) : p_HF ba qn (8 * s + 2) := by
  obtain ⟨st, s1, r1, r2, np, W0, W, pk, cf, sv, eW, w1, w2, w3, w4, w5, w6, w7, of⟩ := p0
  unfold m_pk at pk
  obtain rfl : s1 = s := by omega
  obtain rfl : st = 25 := by omega
  obtain ⟨s0, c0, y1, y2, y3, y4, hw⟩ := p1
  obtain ⟨rfl, rfl⟩ : s0 = s1 ∧ c0 = 59 := by omega
  obtain ⟨uA, u0, u1, u2, u3⟩ := p2
  exact ⟨2, s0, by omega, by omega, by omega, m_mp2 (m_st_sn (o := m_go 5 (m_sk ba qn (m_te ba qn s0)) 0 0 0 (m_cm 25 r1 r2 np W0)) rfl cf (by decide) hw) (by omega)⟩
theorem k_ms25c {qn : Int} {qk : Int} {qs : Int} {qq : Int} {qv : Int} {wo : Int} {wf : Int} {wn : Int} {wc : Int} {wm : Int} {ws : Int} {wi : Int} {wl : Int} {ba : Int → Int} {xa : Int → Int} {xb : Int → Int} {xc : Int → Int} {xd : Int → Int} {xe : Int → Int} {xf : Int → Int} {xg : Int → Int} {xh : Int → Int} (hqn : 0 ≤ qn ∧ qn ≤ 900) (hqk : 0 ≤ qk ∧ qk ≤ 4) (hqs : 0 ≤ qs ∧ qs ≤ 900) (hqq : 0 ≤ qq ∧ qq ≤ 900) (hwo : 2 ≤ wo ∧ wo ≤ 13) (hwf : 1 ≤ wf ∧ wf ≤ 13) (hwn : 0 ≤ wn ∧ wn ≤ 96) (hwc : 0 ≤ wc ∧ wc ≤ 6) (hwm : 0 ≤ wm ∧ wm ≤ 4) (hws : 0 ≤ ws ∧ ws ≤ 6) (hwi : 0 ≤ wi ∧ wi ≤ 8) (hba : ∀ i, -128 ≤ ba i ∧ ba i ≤ 127) (hxe : ∀ i, 0 ≤ xe i ∧ xe i ≤ 12) {F G s q kk Y : Int} (p0 : p_CFA ba qn wo wf wn wc wm ws wi wl xa xb xc xd xe xf xg xh (F)) (p1 : p_NSI ba qn (G)) (p2 : p_CU ba qk qs qq qn qv (s)) (p3 : kk = qk) (p4 : q = qq) (c0 : 0 ≤ F + (-1) * s + (-65536) * Y + (-25600)) (c1 : 0 ≤ s + 65536 * Y + (-1) * F + 25600) (c2 : 0 ≤ G + (-256) * s + (-187)) (c3 : 0 ≤ 256 * s + (-1) * G + 187) (c4 : 0 ≤ kk + (-2)) (c5 : 0 ≤ s) (c6 : 0 ≤ (-1) * s + 900) (c7 : 0 ≤ Y) (c8 : 0 ≤ (-1) * Y + 4294967295) : p_HF ba qn (8 * s + 2) := by
  obtain ⟨st, s1, r1, r2, np, W0, W, pk, cf, sv, eW, w1, w2, w3, w4, w5, w6, w7, of⟩ := p0
  unfold m_pk at pk
  obtain rfl : s1 = s := by omega
  obtain rfl : st = 25 := by omega
  obtain ⟨s0, c0, y1, y2, y3, y4, hw⟩ := p1
  obtain ⟨rfl, rfl⟩ : s0 = s1 ∧ c0 = 59 := by omega
  obtain ⟨uA, u0, u1, u2, u3⟩ := p2
  exact ⟨2, s0, by omega, by omega, by omega, m_mp2 (m_st_sn (o := m_go 5 (m_sk ba qn (m_te ba qn s0)) 0 0 0 (m_cm 25 r1 r2 np W0)) rfl cf (by decide) hw) (by omega)⟩
theorem k_nu1 {qn : Int} {qk : Int} {qs : Int} {qq : Int} {qv : Int} {wo : Int} {wf : Int} {wn : Int} {wc : Int} {wm : Int} {ws : Int} {wi : Int} {wl : Int} {ba : Int → Int} {xa : Int → Int} {xb : Int → Int} {xc : Int → Int} {xd : Int → Int} {xe : Int → Int} {xf : Int → Int} {xg : Int → Int} {xh : Int → Int} (hqn : 0 ≤ qn ∧ qn ≤ 900) (hqk : 0 ≤ qk ∧ qk ≤ 4) (hqs : 0 ≤ qs ∧ qs ≤ 900) (hqq : 0 ≤ qq ∧ qq ≤ 900) (hwo : 2 ≤ wo ∧ wo ≤ 13) (hwf : 1 ≤ wf ∧ wf ≤ 13) (hwn : 0 ≤ wn ∧ wn ≤ 96) (hwc : 0 ≤ wc ∧ wc ≤ 6) (hwm : 0 ≤ wm ∧ wm ≤ 4) (hws : 0 ≤ ws ∧ ws ≤ 6) (hwi : 0 ≤ wi ∧ wi ≤ 8) (hba : ∀ i, -128 ≤ ba i ∧ ba i ≤ 127) (hxe : ∀ i, 0 ≤ xe i ∧ xe i ≤ 12) {F s q kk Y v : Int} (p0 : p_CF ba qn wo wf wn wc wm ws wi wl xa xb xc xd xe xf xg xh (F)) (p1 : p_CU ba qk qs qq qn qv (s)) (p2 : kk = qk) (p3 : q = qq) (p4 : v = qv) (c0 : 0 ≤ F + (-1) * s + (-65536) * Y + (-1024)) (c1 : 0 ≤ s + 65536 * Y + (-1) * F + 1024) (c2 : 0 ≤ kk + (-3)) (c3 : 0 ≤ (-1) * kk + 3) (c4 : 0 ≤ v + (-2)) (c5 : 0 ≤ (-1) * v + 13) (c6 : 0 ≤ q) (c7 : 0 ≤ (-1) * q + 1023) (c8 : 0 ≤ s) (c9 : 0 ≤ (-1) * s + 900) (c10 : 0 ≤ Y) (c11 : 0 ≤ (-1) * Y + 4294967295) : p_RDX ba qn wo wf wn wc wm ws wi wl xa xb xc xd xe xf xg xh (q + 65536 * v + 2048) := by
  obtain ⟨st, s1, r1, r2, np, W, pk, cf, w1, w2, w3, w4, w5, w6, w7, of, pn⟩ := p0
  unfold m_pk at pk
  obtain rfl : s1 = s := by omega
  obtain rfl : st = 1 := by omega
  obtain ⟨uA, u0, u1, u2, u3⟩ := p1
  have ev := u3 (by omega)
  have AT := m_st_n (lo := 2) (hi := 13) rfl cf (by decide) (by omega) (by omega) (by omega)
  rw [← u2, ← ev] at AT
  exact ⟨2, qq, qv, 0, np, W, (by unfold m_pk; omega), Or.inl ⟨by decide, AT⟩, w1, w2, w3, w4, w5, w6, w7, fun h => absurd h (by decide), fun h => absurd h (by unfold m_ps; decide)⟩
theorem k_ny1 {qn : Int} {wo : Int} {wf : Int} {wn : Int} {wc : Int} {wm : Int} {ws : Int} {wi : Int} {wl : Int} {ba : Int → Int} {xa : Int → Int} {xb : Int → Int} {xc : Int → Int} {xd : Int → Int} {xe : Int → Int} {xf : Int → Int} {xg : Int → Int} {xh : Int → Int} (hqn : 0 ≤ qn ∧ qn ≤ 900) (hwo : 2 ≤ wo ∧ wo ≤ 13) (hwf : 1 ≤ wf ∧ wf ≤ 13) (hwn : 0 ≤ wn ∧ wn ≤ 96) (hwc : 0 ≤ wc ∧ wc ≤ 6) (hwm : 0 ≤ wm ∧ wm ≤ 4) (hws : 0 ≤ ws ∧ ws ≤ 6) (hwi : 0 ≤ wi ∧ wi ≤ 8) (hba : ∀ i, -128 ≤ ba i ∧ ba i ≤ 127) (hxe : ∀ i, 0 ≤ xe i ∧ xe i ≤ 12) {F s q kk Y v H : Int} (p0 : p_RDX ba qn wo wf wn wc wm ws wi wl xa xb xc xd xe xf xg xh (H)) (c0 : 0 ≤ H + (-1) * q + (-65536) * v + (-2048)) (c1 : 0 ≤ q + 65536 * v + (-1) * H + 2048) : p_XW (v) := by
  trivial
theorem k_no1a {qn : Int} {qk : Int} {qs : Int} {qq : Int} {qv : Int} {wo : Int} {wf : Int} {wn : Int} {wc : Int} {wm : Int} {ws : Int} {wi : Int} {wl : Int} {ba : Int → Int} {xa : Int → Int} {xb : Int → Int} {xc : Int → Int} {xd : Int → Int} {xe : Int → Int} {xf : Int → Int} {xg : Int → Int} {xh : Int → Int} (hqn : 0 ≤ qn ∧ qn ≤ 900) (hqk : 0 ≤ qk ∧ qk ≤ 4) (hqs : 0 ≤ qs ∧ qs ≤ 900) (hqq : 0 ≤ qq ∧ qq ≤ 900) (hwo : 2 ≤ wo ∧ wo ≤ 13) (hwf : 1 ≤ wf ∧ wf ≤ 13) (hwn : 0 ≤ wn ∧ wn ≤ 96) (hwc : 0 ≤ wc ∧ wc ≤ 6) (hwm : 0 ≤ wm ∧ wm ≤ 4) (hws : 0 ≤ ws ∧ ws ≤ 6) (hwi : 0 ≤ wi ∧ wi ≤ 8) (hba : ∀ i, -128 ≤ ba i ∧ ba i ≤ 127) (hxe : ∀ i, 0 ≤ xe i ∧ xe i ≤ 12) {F s q kk Y v : Int} (p0 : p_CF ba qn wo wf wn wc wm ws wi wl xa xb xc xd xe xf xg xh (F)) (p1 : p_CU ba qk qs qq qn qv (s)) (p2 : kk = qk) (p3 : q = qq) (p4 : v = qv) (c0 : 0 ≤ F + (-1) * s + (-65536) * Y + (-1024)) (c1 : 0 ≤ s + 65536 * Y + (-1) * F + 1024) (c2 : 0 ≤ kk + (-3)) (c3 : 0 ≤ (-1) * kk + 3) (c4 : 0 ≤ (-1) * v + 1) (c5 : 0 ≤ s) (c6 : 0 ≤ (-1) * s + 900) (c7 : 0 ≤ Y) (c8 : 0 ≤ (-1) * Y + 4294967295) : p_HF ba qn (8 * s + 4) := by
  obtain ⟨st, s1, r1, r2, np, W, pk, cf, w1, w2, w3, w4, w5, w6, w7, of, pn⟩ := p0
  unfold m_pk at pk
  obtain rfl : s1 = s := by omega
  obtain rfl : st = 1 := by omega
  obtain ⟨uA, u0, u1, u2, u3⟩ := p1
  have ev := u3 (by omega)
  exact ⟨4, s1, by omega, by omega, by omega, m_st_n4 (lo := 2) (hi := 13) rfl cf (by decide) (by omega) (Or.inl (by omega))⟩
theorem k_no1b0 {qn : Int} {qk : Int} {qs : Int} {qq : Int} {qv : Int} {wo : Int} {wf : Int} {wn : Int} {wc : Int} {wm : Int} {ws : Int} {wi : Int} {wl : Int} {ba : Int → Int} {xa : Int → Int} {xb : Int → Int} {xc : Int → Int} {xd : Int → Int} {xe : Int → Int} {xf : Int → Int} {xg : Int → Int} {xh : Int → Int} (hqn : 0 ≤ qn ∧ qn ≤ 900) (hqk : 0 ≤ qk ∧ qk ≤ 4) (hqs : 0 ≤ qs ∧ qs ≤ 900) (hqq : 0 ≤ qq ∧ qq ≤ 900) (hwo : 2 ≤ wo ∧ wo ≤ 13) (hwf : 1 ≤ wf ∧ wf ≤ 13) (hwn : 0 ≤ wn ∧ wn ≤ 96) (hwc : 0 ≤ wc ∧ wc ≤ 6) (hwm : 0 ≤ wm ∧ wm ≤ 4) (hws : 0 ≤ ws ∧ ws ≤ 6) (hwi : 0 ≤ wi ∧ wi ≤ 8) (hba : ∀ i, -128 ≤ ba i ∧ ba i ≤ 127) (hxe : ∀ i, 0 ≤ xe i ∧ xe i ≤ 12) {F s q kk Y v : Int} (p0 : p_CF ba qn wo wf wn wc wm ws wi wl xa xb xc xd xe xf xg xh (F)) (p1 : p_CU ba qk qs qq qn qv (s)) (p2 : kk = qk) (p3 : q = qq) (p4 : v = qv) (c0 : 0 ≤ F + (-1) * s + (-65536) * Y + (-1024)) (c1 : 0 ≤ s + 65536 * Y + (-1) * F + 1024) (c2 : 0 ≤ kk + (-3)) (c3 : 0 ≤ (-1) * kk + 3) (c4 : 0 ≤ v + (-14)) (c5 : 0 ≤ s) (c6 : 0 ≤ (-1) * s + 900) (c7 : 0 ≤ Y) (c8 : 0 ≤ (-1) * Y + 4294967295) : p_HF ba qn (8 * s + 4) := by
  obtain ⟨st, s1, r1, r2, np, W, pk, cf, w1, w2, w3, w4, w5, w6, w7, of, pn⟩ := p0
  unfold m_pk at pk
  obtain rfl : s1 = s := by omega
  obtain rfl : st = 1 := by omega
  obtain ⟨uA, u0, u1, u2, u3⟩ := p1
  have ev := u3 (by omega)
  exact ⟨4, s1, by omega, by omega, by omega, m_st_n4 (lo := 2) (hi := 13) rfl cf (by decide) (by omega) (Or.inr (by omega))⟩
theorem k_mn1a {qn : Int} {qk : Int} {qs : Int} {qq : Int} {qv : Int} {wo : Int} {wf : Int} {wn : Int} {wc : Int} {wm : Int} {ws : Int} {wi : Int} {wl : Int} {ba : Int → Int} {xa : Int → Int} {xb : Int → Int} {xc : Int → Int} {xd : Int → Int} {xe : Int → Int} {xf : Int → Int} {xg : Int → Int} {xh : Int → Int} (hqn : 0 ≤ qn ∧ qn ≤ 900) (hqk : 0 ≤ qk ∧ qk ≤ 4) (hqs : 0 ≤ qs ∧ qs ≤ 900) (hqq : 0 ≤ qq ∧ qq ≤ 900) (hwo : 2 ≤ wo ∧ wo ≤ 13) (hwf : 1 ≤ wf ∧ wf ≤ 13) (hwn : 0 ≤ wn ∧ wn ≤ 96) (hwc : 0 ≤ wc ∧ wc ≤ 6) (hwm : 0 ≤ wm ∧ wm ≤ 4) (hws : 0 ≤ ws ∧ ws ≤ 6) (hwi : 0 ≤ wi ∧ wi ≤ 8) (hba : ∀ i, -128 ≤ ba i ∧ ba i ≤ 127) (hxe : ∀ i, 0 ≤ xe i ∧ xe i ≤ 12) {F s q kk Y : Int} (p0 : p_CF ba qn wo wf wn wc wm ws wi wl xa xb xc xd xe xf xg xh (F)) (p1 : p_CU ba qk qs qq qn qv (s)) (p2 : kk = qk) (p3 : q = qq) (c0 : 0 ≤ F + (-1) * s + (-65536) * Y + (-1024)) (c1 : 0 ≤ s + 65536 * Y + (-1) * F + 1024) (c2 : 0 ≤ kk + (-1)) (c3 : 0 ≤ (-1) * kk + 1) (c4 : 0 ≤ s) (c5 : 0 ≤ (-1) * s + 900) (c6 : 0 ≤ Y) (c7 : 0 ≤ (-1) * Y + 4294967295) : p_HF ba qn (8 * s + 1) := by
  obtain ⟨st, s1, r1, r2, np, W, pk, cf, w1, w2, w3, w4, w5, w6, w7, of, pn⟩ := p0
  unfold m_pk at pk
  obtain rfl : s1 = s := by omega
  obtain rfl : st = 1 := by omega
  obtain ⟨uA, u0, u1, u2, u3⟩ := p1
  exact ⟨1, s1, by omega, by omega, by omega, m_mp1 (m_st_nn rfl cf (by decide) (by omega)) (by omega)⟩
theorem k_mn1b {qn : Int} {qk : Int} {qs : Int} {qq : Int} {qv : Int} {wo : Int} {wf : Int} {wn : Int} {wc : Int} {wm : Int} {ws : Int} {wi : Int} {wl : Int} {ba : Int → Int} {xa : Int → Int} {xb : Int → Int} {xc : Int → Int} {xd : Int → Int} {xe : Int → Int} {xf : Int → Int} {xg : Int → Int} {xh : Int → Int} (hqn : 0 ≤ qn ∧ qn ≤ 900) (hqk : 0 ≤ qk ∧ qk ≤ 4) (hqs : 0 ≤ qs ∧ qs ≤ 900) (hqq : 0 ≤ qq ∧ qq ≤ 900) (hwo : 2 ≤ wo ∧ wo ≤ 13) (hwf : 1 ≤ wf ∧ wf ≤ 13) (hwn : 0 ≤ wn ∧ wn ≤ 96) (hwc : 0 ≤ wc ∧ wc ≤ 6) (hwm : 0 ≤ wm ∧ wm ≤ 4) (hws : 0 ≤ ws ∧ ws ≤ 6) (hwi : 0 ≤ wi ∧ wi ≤ 8) (hba : ∀ i, -128 ≤ ba i ∧ ba i ≤ 127) (hxe : ∀ i, 0 ≤ xe i ∧ xe i ≤ 12) {F s q kk Y : Int} (p0 : p_CF ba qn wo wf wn wc wm ws wi wl xa xb xc xd xe xf xg xh (F)) (p1 : p_CU ba qk qs qq qn qv (s)) (p2 : kk = qk) (p3 : q = qq) (c0 : 0 ≤ F + (-1) * s + (-65536) * Y + (-1024)) (c1 : 0 ≤ s + 65536 * Y + (-1) * F + 1024) (c2 : 0 ≤ (-1) * kk) (c3 : 0 ≤ s) (c4 : 0 ≤ (-1) * s + 900) (c5 : 0 ≤ Y) (c6 : 0 ≤ (-1) * Y + 4294967295) : p_HF ba qn (8 * s + 2) := by
  obtain ⟨st, s1, r1, r2, np, W, pk, cf, w1, w2, w3, w4, w5, w6, w7, of, pn⟩ := p0
  unfold m_pk at pk
  obtain rfl : s1 = s := by omega
  obtain rfl : st = 1 := by omega
  obtain ⟨uA, u0, u1, u2, u3⟩ := p1
  exact ⟨2, s1, by omega, by omega, by omega, m_mp2 (m_st_nn rfl cf (by decide) (by omega)) (by omega)⟩
theorem k_mn1c {qn : Int} {qk : Int} {qs : Int} {qq : Int} {qv : Int} {wo : Int} {wf : Int} {wn : Int} {wc : Int} {wm : Int} {ws : Int} {wi : Int} {wl : Int} {ba : Int → Int} {xa : Int → Int} {xb : Int → Int} {xc : Int → Int} {xd : Int → Int} {xe : Int → Int} {xf : Int → Int} {xg : Int → Int} {xh : Int → Int} (hqn : 0 ≤ qn ∧ qn ≤ 900) (hqk : 0 ≤ qk ∧ qk ≤ 4) (hqs : 0 ≤ qs ∧ qs ≤ 900) (hqq : 0 ≤ qq ∧ qq ≤ 900) (hwo : 2 ≤ wo ∧ wo ≤ 13) (hwf : 1 ≤ wf ∧ wf ≤ 13) (hwn : 0 ≤ wn ∧ wn ≤ 96) (hwc : 0 ≤ wc ∧ wc ≤ 6) (hwm : 0 ≤ wm ∧ wm ≤ 4) (hws : 0 ≤ ws ∧ ws ≤ 6) (hwi : 0 ≤ wi ∧ wi ≤ 8) (hba : ∀ i, -128 ≤ ba i ∧ ba i ≤ 127) (hxe : ∀ i, 0 ≤ xe i ∧ xe i ≤ 12) {F s q kk Y : Int} (p0 : p_CF ba qn wo wf wn wc wm ws wi wl xa xb xc xd xe xf xg xh (F)) (p1 : p_CU ba qk qs qq qn qv (s)) (p2 : kk = qk) (p3 : q = qq) (c0 : 0 ≤ F + (-1) * s + (-65536) * Y + (-1024)) (c1 : 0 ≤ s + 65536 * Y + (-1) * F + 1024) (c2 : 0 ≤ kk + (-2)) (c3 : 0 ≤ (-1) * kk + 2) (c4 : 0 ≤ s) (c5 : 0 ≤ (-1) * s + 900) (c6 : 0 ≤ Y) (c7 : 0 ≤ (-1) * Y + 4294967295) : p_HF ba qn (8 * s + 2) := by
  obtain ⟨st, s1, r1, r2, np, W, pk, cf, w1, w2, w3, w4, w5, w6, w7, of, pn⟩ := p0
  unfold m_pk at pk
  obtain rfl : s1 = s := by omega
  obtain rfl : st = 1 := by omega
  obtain ⟨uA, u0, u1, u2, u3⟩ := p1
  exact ⟨2, s1, by omega, by omega, by omega, m_mp2 (m_st_nn rfl cf (by decide) (by omega)) (by omega)⟩
theorem k_mn1d {qn : Int} {qk : Int} {qs : Int} {qq : Int} {qv : Int} {wo : Int} {wf : Int} {wn : Int} {wc : Int} {wm : Int} {ws : Int} {wi : Int} {wl : Int} {ba : Int → Int} {xa : Int → Int} {xb : Int → Int} {xc : Int → Int} {xd : Int → Int} {xe : Int → Int} {xf : Int → Int} {xg : Int → Int} {xh : Int → Int} (hqn : 0 ≤ qn ∧ qn ≤ 900) (hqk : 0 ≤ qk ∧ qk ≤ 4) (hqs : 0 ≤ qs ∧ qs ≤ 900) (hqq : 0 ≤ qq ∧ qq ≤ 900) (hwo : 2 ≤ wo ∧ wo ≤ 13) (hwf : 1 ≤ wf ∧ wf ≤ 13) (hwn : 0 ≤ wn ∧ wn ≤ 96) (hwc : 0 ≤ wc ∧ wc ≤ 6) (hwm : 0 ≤ wm ∧ wm ≤ 4) (hws : 0 ≤ ws ∧ ws ≤ 6) (hwi : 0 ≤ wi ∧ wi ≤ 8) (hba : ∀ i, -128 ≤ ba i ∧ ba i ≤ 127) (hxe : ∀ i, 0 ≤ xe i ∧ xe i ≤ 12) {F s q kk Y : Int} (p0 : p_CF ba qn wo wf wn wc wm ws wi wl xa xb xc xd xe xf xg xh (F)) (p1 : p_CU ba qk qs qq qn qv (s)) (p2 : kk = qk) (p3 : q = qq) (c0 : 0 ≤ F + (-1) * s + (-65536) * Y + (-1024)) (c1 : 0 ≤ s + 65536 * Y + (-1) * F + 1024) (c2 : 0 ≤ kk + (-4)) (c3 : 0 ≤ s) (c4 : 0 ≤ (-1) * s + 900) (c5 : 0 ≤ Y) (c6 : 0 ≤ (-1) * Y + 4294967295) : p_HF ba qn (8 * s + 2) := by
  obtain ⟨st, s1, r1, r2, np, W, pk, cf, w1, w2, w3, w4, w5, w6, w7, of, pn⟩ := p0
  unfold m_pk at pk
  obtain rfl : s1 = s := by omega
  obtain rfl : st = 1 := by omega
  obtain ⟨uA, u0, u1, u2, u3⟩ := p1
  exact ⟨2, s1, by omega, by omega, by omega, m_mp2 (m_st_nn rfl cf (by decide) (by omega)) (by omega)⟩
theorem k_nu3 {qn : Int} {qk : Int} {qs : Int} {qq : Int} {qv : Int} {wo : Int} {wf : Int} {wn : Int} {wc : Int} {wm : Int} {ws : Int} {wi : Int} {wl : Int} {ba : Int → Int} {xa : Int → Int} {xb : Int → Int} {xc : Int → Int} {xd : Int → Int} {xe : Int → Int} {xf : Int → Int} {xg : Int → Int} {xh : Int → Int} (hqn : 0 ≤ qn ∧ qn ≤ 900) (hqk : 0 ≤ qk ∧ qk ≤ 4) (hqs : 0 ≤ qs ∧ qs ≤ 900) (hqq : 0 ≤ qq ∧ qq ≤ 900) (hwo : 2 ≤ wo ∧ wo ≤ 13) (hwf : 1 ≤ wf ∧ wf ≤ 13) (hwn : 0 ≤ wn ∧ wn ≤ 96) (hwc : 0 ≤ wc ∧ wc ≤ 6) (hwm : 0 ≤ wm ∧ wm ≤ 4) (hws : 0 ≤ ws ∧ ws ≤ 6) (hwi : 0 ≤ wi ∧ wi ≤ 8) (hba : ∀ i, -128 ≤ ba i ∧ ba i ≤ 127) (hxe : ∀ i, 0 ≤ xe i ∧ xe i ≤ 12) {F s q kk Y v : Int} (p0 : p_CF ba qn wo wf wn wc wm ws wi wl xa xb xc xd xe xf xg xh (F)) (p1 : p_CU ba qk qs qq qn qv (s)) (p2 : kk = qk) (p3 : q = qq) (p4 : v = qv) (c0 : 0 ≤ F + (-1) * s + (-65536) * Y + (-3072)) (c1 : 0 ≤ s + 65536 * Y + (-1) * F + 3072) (c2 : 0 ≤ kk + (-3)) (c3 : 0 ≤ (-1) * kk + 3) (c4 : 0 ≤ v + (-1)) (c5 : 0 ≤ Y + (-1) * v) (c6 : 0 ≤ q) (c7 : 0 ≤ (-1) * q + 1023) (c8 : 0 ≤ (-1) * Y + 65535) (c9 : 0 ≤ s) (c10 : 0 ≤ (-1) * s + 900) (c11 : 0 ≤ Y) (c12 : 0 ≤ (-1) * Y + 4294967295) : p_RDX ba qn wo wf wn wc wm ws wi wl xa xb xc xd xe xf xg xh (q + 65536 * Y + 4294967296 * v + 4096) := by
  obtain ⟨st, s1, r1, r2, np, W, pk, cf, w1, w2, w3, w4, w5, w6, w7, of, pn⟩ := p0
  unfold m_pk at pk
  obtain rfl : s1 = s := by omega
  obtain rfl : st = 3 := by omega
  obtain ⟨uA, u0, u1, u2, u3⟩ := p1
  have ev := u3 (by omega)
  have AT := m_st_n (lo := 1) (hi := r1) rfl cf (by decide) (by omega) (by omega) (by omega)
  rw [← u2, ← ev] at AT
  exact ⟨4, qq, r1, qv, np, W, (by unfold m_pk; omega), Or.inl ⟨by decide, AT⟩, w1, w2, w3, w4, w5, w6, w7, fun h => absurd h (by decide), fun h => absurd h (by unfold m_ps; decide)⟩
theorem k_ny3 {qn : Int} {wo : Int} {wf : Int} {wn : Int} {wc : Int} {wm : Int} {ws : Int} {wi : Int} {wl : Int} {ba : Int → Int} {xa : Int → Int} {xb : Int → Int} {xc : Int → Int} {xd : Int → Int} {xe : Int → Int} {xf : Int → Int} {xg : Int → Int} {xh : Int → Int} (hqn : 0 ≤ qn ∧ qn ≤ 900) (hwo : 2 ≤ wo ∧ wo ≤ 13) (hwf : 1 ≤ wf ∧ wf ≤ 13) (hwn : 0 ≤ wn ∧ wn ≤ 96) (hwc : 0 ≤ wc ∧ wc ≤ 6) (hwm : 0 ≤ wm ∧ wm ≤ 4) (hws : 0 ≤ ws ∧ ws ≤ 6) (hwi : 0 ≤ wi ∧ wi ≤ 8) (hba : ∀ i, -128 ≤ ba i ∧ ba i ≤ 127) (hxe : ∀ i, 0 ≤ xe i ∧ xe i ≤ 12) {F s q kk Y v H : Int} (p0 : p_RDX ba qn wo wf wn wc wm ws wi wl xa xb xc xd xe xf xg xh (H)) (c0 : 0 ≤ H + (-1) * q + (-65536) * Y + (-4294967296) * v + (-4096)) (c1 : 0 ≤ q + 65536 * Y + 4294967296 * v + (-1) * H + 4096) : p_XW (Y + 65536 * v) := by
  trivial
theorem k_no3a {qn : Int} {qk : Int} {qs : Int} {qq : Int} {qv : Int} {wo : Int} {wf : Int} {wn : Int} {wc : Int} {wm : Int} {ws : Int} {wi : Int} {wl : Int} {ba : Int → Int} {xa : Int → Int} {xb : Int → Int} {xc : Int → Int} {xd : Int → Int} {xe : Int → Int} {xf : Int → Int} {xg : Int → Int} {xh : Int → Int} (hqn : 0 ≤ qn ∧ qn ≤ 900) (hqk : 0 ≤ qk ∧ qk ≤ 4) (hqs : 0 ≤ qs ∧ qs ≤ 900) (hqq : 0 ≤ qq ∧ qq ≤ 900) (hwo : 2 ≤ wo ∧ wo ≤ 13) (hwf : 1 ≤ wf ∧ wf ≤ 13) (hwn : 0 ≤ wn ∧ wn ≤ 96) (hwc : 0 ≤ wc ∧ wc ≤ 6) (hwm : 0 ≤ wm ∧ wm ≤ 4) (hws : 0 ≤ ws ∧ ws ≤ 6) (hwi : 0 ≤ wi ∧ wi ≤ 8) (hba : ∀ i, -128 ≤ ba i ∧ ba i ≤ 127) (hxe : ∀ i, 0 ≤ xe i ∧ xe i ≤ 12) {F s q kk Y v : Int} (p0 : p_CF ba qn wo wf wn wc wm ws wi wl xa xb xc xd xe xf xg xh (F)) (p1 : p_CU ba qk qs qq qn qv (s)) (p2 : kk = qk) (p3 : q = qq) (p4 : v = qv) (c0 : 0 ≤ F + (-1) * s + (-65536) * Y + (-3072)) (c1 : 0 ≤ s + 65536 * Y + (-1) * F + 3072) (c2 : 0 ≤ kk + (-3)) (c3 : 0 ≤ (-1) * kk + 3) (c4 : 0 ≤ (-1) * v) (c5 : 0 ≤ s) (c6 : 0 ≤ (-1) * s + 900) (c7 : 0 ≤ Y) (c8 : 0 ≤ (-1) * Y + 4294967295) : p_HF ba qn (8 * s + 4) := by
  obtain ⟨st, s1, r1, r2, np, W, pk, cf, w1, w2, w3, w4, w5, w6, w7, of, pn⟩ := p0
  unfold m_pk at pk
  obtain rfl : s1 = s := by omega
  obtain rfl : st = 3 := by omega
  obtain ⟨uA, u0, u1, u2, u3⟩ := p1
  have ev := u3 (by omega)
  exact ⟨4, s1, by omega, by omega, by omega, m_st_n4 (lo := 1) (hi := r1) rfl cf (by decide) (by omega) (Or.inl (by omega))⟩
theorem k_no3b0 {qn : Int} {qk : Int} {qs : Int} {qq : Int} {qv : Int} {wo : Int} {wf : Int} {wn : Int} {wc : Int} {wm : Int} {ws : Int} {wi : Int} {wl : Int} {ba : Int → Int} {xa : Int → Int} {xb : Int → Int} {xc : Int → Int} {xd : Int → Int} {xe : Int → Int} {xf : Int → Int} {xg : Int → Int} {xh : Int → Int} (hqn : 0 ≤ qn ∧ qn ≤ 900) (hqk : 0 ≤ qk ∧ qk ≤ 4) (hqs : 0 ≤ qs ∧ qs ≤ 900) (hqq : 0 ≤ qq ∧ qq ≤ 900) (hwo : 2 ≤ wo ∧ wo ≤ 13) (hwf : 1 ≤ wf ∧ wf ≤ 13) (hwn : 0 ≤ wn ∧ wn ≤ 96) (hwc : 0 ≤ wc ∧ wc ≤ 6) (hwm : 0 ≤ wm ∧ wm ≤ 4) (hws : 0 ≤ ws ∧ ws ≤ 6) (hwi : 0 ≤ wi ∧ wi ≤ 8) (hba : ∀ i, -128 ≤ ba i ∧ ba i ≤ 127) (hxe : ∀ i, 0 ≤ xe i ∧ xe i ≤ 12) {F s q kk Y v : Int} (p0 : p_CF ba qn wo wf wn wc wm ws wi wl xa xb xc xd xe xf xg xh (F)) (p1 : p_CU ba qk qs qq qn qv (s)) (p2 : kk = qk) (p3 : q = qq) (p4 : v = qv) (c0 : 0 ≤ F + (-1) * s + (-65536) * Y + (-3072)) (c1 : 0 ≤ s + 65536 * Y + (-1) * F + 3072) (c2 : 0 ≤ kk + (-3)) (c3 : 0 ≤ (-1) * kk + 3) (c4 : 0 ≤ (-1) * Y + v + (-1)) (c5 : 0 ≤ s) (c6 : 0 ≤ (-1) * s + 900) (c7 : 0 ≤ Y) (c8 : 0 ≤ (-1) * Y + 4294967295) : p_HF ba qn (8 * s + 4) := by
  obtain ⟨st, s1, r1, r2, np, W, pk, cf, w1, w2, w3, w4, w5, w6, w7, of, pn⟩ := p0
  unfold m_pk at pk
  obtain rfl : s1 = s := by omega
  obtain rfl : st = 3 := by omega
  obtain ⟨uA, u0, u1, u2, u3⟩ := p1
  have ev := u3 (by omega)
  exact ⟨4, s1, by omega, by omega, by omega, m_st_n4 (lo := 1) (hi := r1) rfl cf (by decide) (by omega) (Or.inr (by omega))⟩
theorem k_mn3a {qn : Int} {qk : Int} {qs : Int} {qq : Int} {qv : Int} {wo : Int} {wf : Int} {wn : Int} {wc : Int} {wm : Int} {ws : Int} {wi : Int} {wl : Int} {ba : Int → Int} {xa : Int → Int} {xb : Int → Int} {xc : Int → Int} {xd : Int → Int} {xe : Int → Int} {xf : Int → Int} {xg : Int → Int} {xh : Int → Int} (hqn : 0 ≤ qn ∧ qn ≤ 900) (hqk : 0 ≤ qk ∧ qk ≤ 4) (hqs : 0 ≤ qs ∧ qs ≤ 900) (hqq : 0 ≤ qq ∧ qq ≤ 900) (hwo : 2 ≤ wo ∧ wo ≤ 13) (hwf : 1 ≤ wf ∧ wf ≤ 13) (hwn : 0 ≤ wn ∧ wn ≤ 96) (hwc : 0 ≤ wc ∧ wc ≤ 6) (hwm : 0 ≤ wm ∧ wm ≤ 4) (hws : 0 ≤ ws ∧ ws ≤ 6) (hwi : 0 ≤ wi ∧ wi ≤ 8) (hba : ∀ i, -128 ≤ ba i ∧ ba i ≤ 127) (hxe : ∀ i, 0 ≤ xe i ∧ xe i ≤ 12) {F s q kk Y : Int} (p0 : p_CF ba qn wo wf wn wc wm ws wi wl xa xb xc xd xe xf xg xh (F)) (p1 : p_CU ba qk qs qq qn qv (s)) (p2 : kk = qk) (p3 : q = qq) (c0 : 0 ≤ F + (-1) * s + (-65536) * Y + (-3072)) (c1 : 0 ≤ s + 65536 * Y + (-1) * F + 3072) (c2 : 0 ≤ kk + (-1)) (c3 : 0 ≤ (-1) * kk + 1) (c4 : 0 ≤ s) (c5 : 0 ≤ (-1) * s + 900) (c6 : 0 ≤ Y) (c7 : 0 ≤ (-1) * Y + 4294967295) : p_HF ba qn (8 * s + 1) := by
  obtain ⟨st, s1, r1, r2, np, W, pk, cf, w1, w2, w3, w4, w5, w6, w7, of, pn⟩ := p0
  unfold m_pk at pk
  obtain rfl : s1 = s := by omega
  obtain rfl : st = 3 := by omega
  obtain ⟨uA, u0, u1, u2, u3⟩ := p1
  exact ⟨1, s1, by omega, by omega, by omega, m_mp1 (m_st_nn rfl cf (by decide) (by omega)) (by omega)⟩
theorem k_mn3b {qn : Int} {qk : Int} {qs : Int} {qq : Int} {qv : Int} {wo : Int} {wf : Int} {wn : Int} {wc : Int} {wm : Int} {ws : Int} {wi : Int} {wl : Int} {ba : Int → Int} {xa : Int → Int} {xb : Int → Int} {xc : Int → Int} {xd : Int → Int} {xe : Int → Int} {xf : Int → Int} {xg : Int → Int} {xh : Int → Int} (hqn : 0 ≤ qn ∧ qn ≤ 900) (hqk : 0 ≤ qk ∧ qk ≤ 4) (hqs : 0 ≤ qs ∧ qs ≤ 900) (hqq : 0 ≤ qq ∧ qq ≤ 900) (hwo : 2 ≤ wo ∧ wo ≤ 13) (hwf : 1 ≤ wf ∧ wf ≤ 13) (hwn : 0 ≤ wn ∧ wn ≤ 96) (hwc : 0 ≤ wc ∧ wc ≤ 6) (hwm : 0 ≤ wm ∧ wm ≤ 4) (hws : 0 ≤ ws ∧ ws ≤ 6) (hwi : 0 ≤ wi ∧ wi ≤ 8) (hba : ∀ i, -128 ≤ ba i ∧ ba i ≤ 127) (hxe : ∀ i, 0 ≤ xe i ∧ xe i ≤ 12) {F s q kk Y : Int} (p0 : p_CF ba qn wo wf wn wc wm ws wi wl xa xb xc xd xe xf xg xh (F)) (p1 : p_CU ba qk qs qq qn qv (s)) (p2 : kk = qk) (p3 : q = qq) (c0 : 0 ≤ F + (-1) * s + (-65536) * Y + (-3072)) (c1 : 0 ≤ s + 65536 * Y + (-1) * F + 3072) (c2 : 0 ≤ (-1) * kk) (c3 : 0 ≤ s) (c4 : 0 ≤ (-1) * s + 900) (c5 : 0 ≤ Y) (c6 : 0 ≤ (-1) * Y + 4294967295) : p_HF ba qn (8 * s + 2) := by
  obtain ⟨st, s1, r1, r2, np, W, pk, cf, w1, w2, w3, w4, w5, w6, w7, of, pn⟩ := p0
  unfold m_pk at pk
  obtain rfl : s1 = s := by omega
  obtain rfl : st = 3 := by omega
  obtain ⟨uA, u0, u1, u2, u3⟩ := p1
  exact ⟨2, s1, by omega, by omega, by omega, m_mp2 (m_st_nn rfl cf (by decide) (by omega)) (by omega)⟩
theorem k_mn3c {qn : Int} {qk : Int} {qs : Int} {qq : Int} {qv : Int} {wo : Int} {wf : Int} {wn : Int} {wc : Int} {wm : Int} {ws : Int} {wi : Int} {wl : Int} {ba : Int → Int} {xa : Int → Int} {xb : Int → Int} {xc : Int → Int} {xd : Int → Int} {xe : Int → Int} {xf : Int → Int} {xg : Int → Int} {xh : Int → Int} (hqn : 0 ≤ qn ∧ qn ≤ 900) (hqk : 0 ≤ qk ∧ qk ≤ 4) (hqs : 0 ≤ qs ∧ qs ≤ 900) (hqq : 0 ≤ qq ∧ qq ≤ 900) (hwo : 2 ≤ wo ∧ wo ≤ 13) (hwf : 1 ≤ wf ∧ wf ≤ 13) (hwn : 0 ≤ wn ∧ wn ≤ 96) (hwc : 0 ≤ wc ∧ wc ≤ 6) (hwm : 0 ≤ wm ∧ wm ≤ 4) (hws : 0 ≤ ws ∧ ws ≤ 6) (hwi : 0 ≤ wi ∧ wi ≤ 8) (hba : ∀ i, -128 ≤ ba i ∧ ba i ≤ 127) (hxe : ∀ i, 0 ≤ xe i ∧ xe i ≤ 12) {F s q kk Y : Int} (p0 : p_CF ba qn wo wf wn wc wm ws wi wl xa xb xc xd xe xf xg xh (F)) (p1 : p_CU ba qk qs qq qn qv (s)) (p2 : kk = qk) (p3 : q = qq) (c0 : 0 ≤ F + (-1) * s + (-65536) * Y + (-3072)) (c1 : 0 ≤ s + 65536 * Y + (-1) * F + 3072) (c2 : 0 ≤ kk + (-2)) (c3 : 0 ≤ (-1) * kk + 2) (c4 : 0 ≤ s) (c5 : 0 ≤ (-1) * s + 900) (c6 : 0 ≤ Y) (c7 : 0 ≤ (-1) * Y + 4294967295) : p_HF ba qn (8 * s + 2) := by
  obtain ⟨st, s1, r1, r2, np, W, pk, cf, w1, w2, w3, w4, w5, w6, w7, of, pn⟩ := p0
  unfold m_pk at pk
  obtain rfl : s1 = s := by omega
  obtain rfl : st = 3 := by omega
  obtain ⟨uA, u0, u1, u2, u3⟩ := p1
  exact ⟨2, s1, by omega, by omega, by omega, m_mp2 (m_st_nn rfl cf (by decide) (by omega)) (by omega)⟩
theorem k_mn3d {qn : Int} {qk : Int} {qs : Int} {qq : Int} {qv : Int} {wo : Int} {wf : Int} {wn : Int} {wc : Int} {wm : Int} {ws : Int} {wi : Int} {wl : Int} {ba : Int → Int} {xa : Int → Int} {xb : Int → Int} {xc : Int → Int} {xd : Int → Int} {xe : Int → Int} {xf : Int → Int} {xg : Int → Int} {xh : Int → Int} (hqn : 0 ≤ qn ∧ qn ≤ 900) (hqk : 0 ≤ qk ∧ qk ≤ 4) (hqs : 0 ≤ qs ∧ qs ≤ 900) (hqq : 0 ≤ qq ∧ qq ≤ 900) (hwo : 2 ≤ wo ∧ wo ≤ 13) (hwf : 1 ≤ wf ∧ wf ≤ 13) (hwn : 0 ≤ wn ∧ wn ≤ 96) (hwc : 0 ≤ wc ∧ wc ≤ 6) (hwm : 0 ≤ wm ∧ wm ≤ 4) (hws : 0 ≤ ws ∧ ws ≤ 6) (hwi : 0 ≤ wi ∧ wi ≤ 8) (hba : ∀ i, -128 ≤ ba i ∧ ba i ≤ 127) (hxe : ∀ i, 0 ≤ xe i ∧ xe i ≤ 12) {F s q kk Y : Int} (p0 : p_CF ba qn wo wf wn wc wm ws wi wl xa xb xc xd xe xf xg xh (F)) (p1 : p_CU ba qk qs qq qn qv (s)) (p2 : kk = qk) (p3 : q = qq) (c0 : 0 ≤ F + (-1) * s + (-65536) * Y + (-3072)) (c1 : 0 ≤ s + 65536 * Y + (-1) * F + 3072) (c2 : 0 ≤ kk + (-4)) (c3 : 0 ≤ s) (c4 : 0 ≤ (-1) * s + 900) (c5 : 0 ≤ Y) (c6 : 0 ≤ (-1) * Y + 4294967295) : p_HF ba qn (8 * s + 2) := by
  obtain ⟨st, s1, r1, r2, np, W, pk, cf, w1, w2, w3, w4, w5, w6, w7, of, pn⟩ := p0
  unfold m_pk at pk
  obtain rfl : s1 = s := by omega
  obtain rfl : st = 3 := by omega
  obtain ⟨uA, u0, u1, u2, u3⟩ := p1
  exact ⟨2, s1, by omega, by omega, by omega, m_mp2 (m_st_nn rfl cf (by decide) (by omega)) (by omega)⟩
theorem k_nu6 {qn : Int} {qk : Int} {qs : Int} {qq : Int} {qv : Int} {wo : Int} {wf : Int} {wn : Int} {wc : Int} {wm : Int} {ws : Int} {wi : Int} {wl : Int} {ba : Int → Int} {xa : Int → Int} {xb : Int → Int} {xc : Int → Int} {xd : Int → Int} {xe : Int → Int} {xf : Int → Int} {xg : Int → Int} {xh : Int → Int} (hqn : 0 ≤ qn ∧ qn ≤ 900) (hqk : 0 ≤ qk ∧ qk ≤ 4) (hqs : 0 ≤ qs ∧ qs ≤ 900) (hqq : 0 ≤ qq ∧ qq ≤ 900) (hwo : 2 ≤ wo ∧ wo ≤ 13) (hwf : 1 ≤ wf ∧ wf ≤ 13) (hwn : 0 ≤ wn ∧ wn ≤ 96) (hwc : 0 ≤ wc ∧ wc ≤ 6) (hwm : 0 ≤ wm ∧ wm ≤ 4) (hws : 0 ≤ ws ∧ ws ≤ 6) (hwi : 0 ≤ wi ∧ wi ≤ 8) (hba : ∀ i, -128 ≤ ba i ∧ ba i ≤ 127) (hxe : ∀ i, 0 ≤ xe i ∧ xe i ≤ 12) {F s q kk Y v : Int} (p0 : p_CF ba qn wo wf wn wc wm ws wi wl xa xb xc xd xe xf xg xh (F)) (p1 : p_CU ba qk qs qq qn qv (s)) (p2 : kk = qk) (p3 : q = qq) (p4 : v = qv) (c0 : 0 ≤ F + (-1) * s + (-65536) * Y + (-6144)) (c1 : 0 ≤ s + 65536 * Y + (-1) * F + 6144) (c2 : 0 ≤ kk + (-3)) (c3 : 0 ≤ (-1) * kk + 3) (c4 : 0 ≤ v + (-1)) (c5 : 0 ≤ (-1) * v + 16) (c6 : 0 ≤ q) (c7 : 0 ≤ (-1) * q + 1023) (c8 : 0 ≤ s) (c9 : 0 ≤ (-1) * s + 900) (c10 : 0 ≤ Y) (c11 : 0 ≤ (-1) * Y + 4294967295) : p_RDX ba qn wo wf wn wc wm ws wi wl xa xb xc xd xe xf xg xh (q + 65536 * v + 10240) := by
  obtain ⟨st, s1, r1, r2, np, W, pk, cf, w1, w2, w3, w4, w5, w6, w7, of, pn⟩ := p0
  unfold m_pk at pk
  obtain rfl : s1 = s := by omega
  obtain rfl : st = 6 := by omega
  obtain ⟨uA, u0, u1, u2, u3⟩ := p1
  have ev := u3 (by omega)
  have AT := m_st_n (lo := 1) (hi := 16) rfl cf (by decide) (by omega) (by omega) (by omega)
  rw [← u2, ← ev] at AT
  exact ⟨10, qq, qv, 0, np, W, (by unfold m_pk; omega), Or.inl ⟨by decide, AT⟩, w1, w2, w3, w4, w5, w6, w7, fun _ => of (by decide), fun h => absurd h (by unfold m_ps; decide)⟩
theorem k_ny6 {qn : Int} {wo : Int} {wf : Int} {wn : Int} {wc : Int} {wm : Int} {ws : Int} {wi : Int} {wl : Int} {ba : Int → Int} {xa : Int → Int} {xb : Int → Int} {xc : Int → Int} {xd : Int → Int} {xe : Int → Int} {xf : Int → Int} {xg : Int → Int} {xh : Int → Int} (hqn : 0 ≤ qn ∧ qn ≤ 900) (hwo : 2 ≤ wo ∧ wo ≤ 13) (hwf : 1 ≤ wf ∧ wf ≤ 13) (hwn : 0 ≤ wn ∧ wn ≤ 96) (hwc : 0 ≤ wc ∧ wc ≤ 6) (hwm : 0 ≤ wm ∧ wm ≤ 4) (hws : 0 ≤ ws ∧ ws ≤ 6) (hwi : 0 ≤ wi ∧ wi ≤ 8) (hba : ∀ i, -128 ≤ ba i ∧ ba i ≤ 127) (hxe : ∀ i, 0 ≤ xe i ∧ xe i ≤ 12) {F s q kk Y v H : Int} (p0 : p_RDX ba qn wo wf wn wc wm ws wi wl xa xb xc xd xe xf xg xh (H)) (c0 : 0 ≤ H + (-1) * q + (-65536) * v + (-10240)) (c1 : 0 ≤ q + 65536 * v + (-1) * H + 10240) : p_XW (v) := by
  trivial
theorem k_no6a {qn : Int} {qk : Int} {qs : Int} {qq : Int} {qv : Int} {wo : Int} {wf : Int} {wn : Int} {wc : Int} {wm : Int} {ws : Int} {wi : Int} {wl : Int} {ba : Int → Int} {xa : Int → Int} {xb : Int → Int} {xc : Int → Int} {xd : Int → Int} {xe : Int → Int} {xf : Int → Int} {xg : Int → Int} {xh : Int → Int} (hqn : 0 ≤ qn ∧ qn ≤ 900) (hqk : 0 ≤ qk ∧ qk ≤ 4) (hqs : 0 ≤ qs ∧ qs ≤ 900) (hqq : 0 ≤ qq ∧ qq ≤ 900) (hwo : 2 ≤ wo ∧ wo ≤ 13) (hwf : 1 ≤ wf ∧ wf ≤ 13) (hwn : 0 ≤ wn ∧ wn ≤ 96) (hwc : 0 ≤ wc ∧ wc ≤ 6) (hwm : 0 ≤ wm ∧ wm ≤ 4) (hws : 0 ≤ ws ∧ ws ≤ 6) (hwi : 0 ≤ wi ∧ wi ≤ 8) (hba : ∀ i, -128 ≤ ba i ∧ ba i ≤ 127) (hxe : ∀ i, 0 ≤ xe i ∧ xe i ≤ 12) {F s q kk Y v : Int} (p0 : p_CF ba qn wo wf wn wc wm ws wi wl xa xb xc xd xe xf xg xh (F)) (p1 : p_CU ba qk qs qq qn qv (s)) (p2 : kk = qk) (p3 : q = qq) (p4 : v = qv) (c0 : 0 ≤ F + (-1) * s + (-65536) * Y + (-6144)) (c1 : 0 ≤ s + 65536 * Y + (-1) * F + 6144) (c2 : 0 ≤ kk + (-3)) (c3 : 0 ≤ (-1) * kk + 3) (c4 : 0 ≤ (-1) * v) (c5 : 0 ≤ s) (c6 : 0 ≤ (-1) * s + 900) (c7 : 0 ≤ Y) (c8 : 0 ≤ (-1) * Y + 4294967295) : p_HF ba qn (8 * s + 4) := by
  obtain ⟨st, s1, r1, r2, np, W, pk, cf, w1, w2, w3, w4, w5, w6, w7, of, pn⟩ := p0
  unfold m_pk at pk
  obtain rfl : s1 = s := by omega
  obtain rfl : st = 6 := by omega
  obtain ⟨uA, u0, u1, u2, u3⟩ := p1
  have ev := u3 (by omega)
  exact ⟨4, s1, by omega, by omega, by omega, m_st_n4 (lo := 1) (hi := 16) rfl cf (by decide) (by omega) (Or.inl (by omega))⟩
theorem k_no6b0 {qn : Int} {qk : Int} {qs : Int} {qq : Int} {qv : Int} {wo : Int} {wf : Int} {wn : Int} {wc : Int} {wm : Int} {ws : Int} {wi : Int} {wl : Int} {ba : Int → Int} {xa : Int → Int} {xb : Int → Int} {xc : Int → Int} {xd : Int → Int} {xe : Int → Int} {xf : Int → Int} {xg : Int → Int} {xh : Int → Int} (hqn : 0 ≤ qn ∧ qn ≤ 900) (hqk : 0 ≤ qk ∧ qk ≤ 4) (hqs : 0 ≤ qs ∧ qs ≤ 900) (hqq : 0 ≤ qq ∧ qq ≤ 900) (hwo : 2 ≤ wo ∧ wo ≤ 13) (hwf : 1 ≤ wf ∧ wf ≤ 13) (hwn : 0 ≤ wn ∧ wn ≤ 96) (hwc : 0 ≤ wc ∧ wc ≤ 6) (hwm : 0 ≤ wm ∧ wm ≤ 4) (hws : 0 ≤ ws ∧ ws ≤ 6) (hwi : 0 ≤ wi ∧ wi ≤ 8) (hba : ∀ i, -128 ≤ ba i ∧ ba i ≤ 127) (hxe : ∀ i, 0 ≤ xe i ∧ xe i ≤ 12) {F s q kk Y v : Int} (p0 : p_CF ba qn wo wf wn wc wm ws wi wl xa xb xc xd xe xf xg xh (F)) (p1 : p_CU ba qk qs qq qn qv (s)) (p2 : kk = qk) (p3 : q = qq) (p4 : v = qv) (c0 : 0 ≤ F + (-1) * s + (-65536) * Y + (-6144)) (c1 : 0 ≤ s + 65536 * Y + (-1) * F + 6144) (c2 : 0 ≤ kk + (-3)) (c3 : 0 ≤ (-1) * kk + 3) (c4 : 0 ≤ v + (-17)) (c5 : 0 ≤ s) (c6 : 0 ≤ (-1) * s + 900) (c7 : 0 ≤ Y) (c8 : 0 ≤ (-1) * Y + 4294967295) : p_HF ba qn (8 * s + 4) := by
  obtain ⟨st, s1, r1, r2, np, W, pk, cf, w1, w2, w3, w4, w5, w6, w7, of, pn⟩ := p0
  unfold m_pk at pk
  obtain rfl : s1 = s := by omega
  obtain rfl : st = 6 := by omega
  obtain ⟨uA, u0, u1, u2, u3⟩ := p1
  have ev := u3 (by omega)
  exact ⟨4, s1, by omega, by omega, by omega, m_st_n4 (lo := 1) (hi := 16) rfl cf (by decide) (by omega) (Or.inr (by omega))⟩
theorem k_mn6a {qn : Int} {qk : Int} {qs : Int} {qq : Int} {qv : Int} {wo : Int} {wf : Int} {wn : Int} {wc : Int} {wm : Int} {ws : Int} {wi : Int} {wl : Int} {ba : Int → Int} {xa : Int → Int} {xb : Int → Int} {xc : Int → Int} {xd : Int → Int} {xe : Int → Int} {xf : Int → Int} {xg : Int → Int} {xh : Int → Int} (hqn : 0 ≤ qn ∧ qn ≤ 900) (hqk : 0 ≤ qk ∧ qk ≤ 4) (hqs : 0 ≤ qs ∧ qs ≤ 900) (hqq : 0 ≤ qq ∧ qq ≤ 900) (hwo : 2 ≤ wo ∧ wo ≤ 13) (hwf : 1 ≤ wf ∧ wf ≤ 13) (hwn : 0 ≤ wn ∧ wn ≤ 96) (hwc : 0 ≤ wc ∧ wc ≤ 6) (hwm : 0 ≤ wm ∧ wm ≤ 4) (hws : 0 ≤ ws ∧ ws ≤ 6) (hwi : 0 ≤ wi ∧ wi ≤ 8) (hba : ∀ i, -128 ≤ ba i ∧ ba i ≤ 127) (hxe : ∀ i, 0 ≤ xe i ∧ xe i ≤ 12) {F s q kk Y : Int} (p0 : p_CF ba qn wo wf wn wc wm ws wi wl xa xb xc xd xe xf xg xh (F)) (p1 : p_CU ba qk qs qq qn qv (s)) (p2 : kk = qk) (p3 : q = qq) (c0 : 0 ≤ F + (-1) * s + (-65536) * Y + (-6144)) (c1 : 0 ≤ s + 65536 * Y + (-1) * F + 6144) (c2 : 0 ≤ kk + (-1)) (c3 : 0 ≤ (-1) * kk + 1) (c4 : 0 ≤ s) (c5 : 0 ≤ (-1) * s + 900) (c6 : 0 ≤ Y) (c7 : 0 ≤ (-1) * Y + 4294967295) : p_HF ba qn (8 * s + 1) := by
  obtain ⟨st, s1, r1, r2, np, W, pk, cf, w1, w2, w3, w4, w5, w6, w7, of, pn⟩ := p0
  unfold m_pk at pk
  obtain rfl : s1 = s := by omega
  obtain rfl : st = 6 := by omega
  obtain ⟨uA, u0, u1, u2, u3⟩ := p1
  exact ⟨1, s1, by omega, by omega, by omega, m_mp1 (m_st_nn rfl cf (by decide) (by omega)) (by omega)⟩
theorem k_mn6b {qn : Int} {qk : Int} {qs : Int} {qq : Int} {qv : Int} {wo : Int} {wf : Int} {wn : Int} {wc : Int} {wm : Int} {ws : Int} {wi : Int} {wl : Int} {ba : Int → Int} {xa : Int → Int} {xb : Int → Int} {xc : Int → Int} {xd : Int → Int} {xe : Int → Int} {xf : Int → Int} {xg : Int → Int} {xh : Int → Int} (hqn : 0 ≤ qn ∧ qn ≤ 900) (hqk : 0 ≤ qk ∧ qk ≤ 4) (hqs : 0 ≤ qs ∧ qs ≤ 900) (hqq : 0 ≤ qq ∧ qq ≤ 900) (hwo : 2 ≤ wo ∧ wo ≤ 13) (hwf : 1 ≤ wf ∧ wf ≤ 13) (hwn : 0 ≤ wn ∧ wn ≤ 96) (hwc : 0 ≤ wc ∧ wc ≤ 6) (hwm : 0 ≤ wm ∧ wm ≤ 4) (hws : 0 ≤ ws ∧ ws ≤ 6) (hwi : 0 ≤ wi ∧ wi ≤ 8) (hba : ∀ i, -128 ≤ ba i ∧ ba i ≤ 127) (hxe : ∀ i, 0 ≤ xe i ∧ xe i ≤ 12) {F s q kk Y : Int} (p0 : p_CF ba qn wo wf wn wc wm ws wi wl xa xb xc xd xe xf xg xh (F)) (p1 : p_CU ba qk qs qq qn qv (s)) (p2 : kk = qk) (p3 : q = qq) (c0 : 0 ≤ F + (-1) * s + (-65536) * Y + (-6144)) (c1 : 0 ≤ s + 65536 * Y + (-1) * F + 6144) (c2 : 0 ≤ (-1) * kk) (c3 : 0 ≤ s) (c4 : 0 ≤ (-1) * s + 900) (c5 : 0 ≤ Y) (c6 : 0 ≤ (-1) * Y + 4294967295) : p_HF ba qn (8 * s + 2) := by
  obtain ⟨st, s1, r1, r2, np, W, pk, cf, w1, w2, w3, w4, w5, w6, w7, of, pn⟩ := p0
  unfold m_pk at pk
  obtain rfl : s1 = s := by omega
  obtain rfl : st = 6 := by omega
  obtain ⟨uA, u0, u1, u2, u3⟩ := p1
  exact ⟨2, s1, by omega, by omega, by omega, m_mp2 (m_st_nn rfl cf (by decide) (by omega)) (by omega)⟩
theorem k_mn6c {qn : Int} {qk : Int} {qs : Int} {qq : Int} {qv : Int} {wo : Int} {wf : Int} {wn : Int} {wc : Int} {wm : Int} {ws : Int} {wi : Int} {wl : Int} {ba : Int → Int} {xa : Int → Int} {xb : Int → Int} {xc : Int → Int} {xd : Int → Int} {xe : Int → Int} {xf : Int → Int} {xg : Int → Int} {xh : Int → Int} (hqn : 0 ≤ qn ∧ qn ≤ 900) (hqk : 0 ≤ qk ∧ qk ≤ 4) (hqs : 0 ≤ qs ∧ qs ≤ 900) (hqq : 0 ≤ qq ∧ qq ≤ 900) (hwo : 2 ≤ wo ∧ wo ≤ 13) (hwf : 1 ≤ wf ∧ wf ≤ 13) (hwn : 0 ≤ wn ∧ wn ≤ 96) (hwc : 0 ≤ wc ∧ wc ≤ 6) (hwm : 0 ≤ wm ∧ wm ≤ 4) (hws : 0 ≤ ws ∧ ws ≤ 6) (hwi : 0 ≤ wi ∧ wi ≤ 8) (hba : ∀ i, -128 ≤ ba i ∧ ba i ≤ 127) (hxe : ∀ i, 0 ≤ xe i ∧ xe i ≤ 12) {F s q kk Y : Int} (p0 : p_CF ba qn wo wf wn wc wm ws wi wl xa xb xc xd xe xf xg xh (F)) (p1 : p_CU ba qk qs qq qn qv (s)) (p2 : kk = qk) (p3 : q = qq) (c0 : 0 ≤ F + (-1) * s + (-65536) * Y + (-6144)) (c1 : 0 ≤ s + 65536 * Y + (-1) * F + 6144) (c2 : 0 ≤ kk + (-2)) (c3 : 0 ≤ (-1) * kk + 2) (c4 : 0 ≤ s) (c5 : 0 ≤ (-1) * s + 900) (c6 : 0 ≤ Y) (c7 : 0 ≤ (-1) * Y + 4294967295) : p_HF ba qn (8 * s + 2) := by
  obtain ⟨st, s1, r1, r2, np, W, pk, cf, w1, w2, w3, w4, w5, w6, w7, of, pn⟩ := p0
  unfold m_pk at pk
  obtain rfl : s1 = s := by omega
  obtain rfl : st = 6 := by omega
  obtain ⟨uA, u0, u1, u2, u3⟩ := p1
  exact ⟨2, s1, by omega, by omega, by omega, m_mp2 (m_st_nn rfl cf (by decide) (by omega)) (by omega)⟩
theorem k_mn6d {qn : Int} {qk : Int} {qs : Int} {qq : Int} {qv : Int} {wo : Int} {wf : Int} {wn : Int} {wc : Int} {wm : Int} {ws : Int} {wi : Int} {wl : Int} {ba : Int → Int} {xa : Int → Int} {xb : Int → Int} {xc : Int → Int} {xd : Int → Int} {xe : Int → Int} {xf : Int → Int} {xg : Int → Int} {xh : Int → Int} (hqn : 0 ≤ qn ∧ qn ≤ 900) (hqk : 0 ≤ qk ∧ qk ≤ 4) (hqs : 0 ≤ qs ∧ qs ≤ 900) (hqq : 0 ≤ qq ∧ qq ≤ 900) (hwo : 2 ≤ wo ∧ wo ≤ 13) (hwf : 1 ≤ wf ∧ wf ≤ 13) (hwn : 0 ≤ wn ∧ wn ≤ 96) (hwc : 0 ≤ wc ∧ wc ≤ 6) (hwm : 0 ≤ wm ∧ wm ≤ 4) (hws : 0 ≤ ws ∧ ws ≤ 6) (hwi : 0 ≤ wi ∧ wi ≤ 8) (hba : ∀ i, -128 ≤ ba i ∧ ba i ≤ 127) (hxe : ∀ i, 0 ≤ xe i ∧ xe i ≤ 12) {F s q kk Y : Int} (p0 : p_CF ba qn wo wf wn wc wm ws wi wl xa xb xc xd xe xf xg xh (F)) (p1 : p_CU ba qk qs qq qn qv (s)) (p2 : kk = qk) (p3 : q = qq) (c0 : 0 ≤ F + (-1) * s + (-65536) * Y + (-6144)) (c1 : 0 ≤ s + 65536 * Y + (-1) * F + 6144) (c2 : 0 ≤ kk + (-4)) (c3 : 0 ≤ s) (c4 : 0 ≤ (-1) * s + 900) (c5 : 0 ≤ Y) (c6 : 0 ≤ (-1) * Y + 4294967295) : p_HF ba qn (8 * s + 2) := by
  obtain ⟨st, s1, r1, r2, np, W, pk, cf, w1, w2, w3, w4, w5, w6, w7, of, pn⟩ := p0
  unfold m_pk at pk
  obtain rfl : s1 = s := by omega
  obtain rfl : st = 6 := by omega
  obtain ⟨uA, u0, u1, u2, u3⟩ := p1
  exact ⟨2, s1, by omega, by omega, by omega, m_mp2 (m_st_nn rfl cf (by decide) (by omega)) (by omega)⟩
theorem k_nu12 {qn : Int} {qk : Int} {qs : Int} {qq : Int} {qv : Int} {wo : Int} {wf : Int} {wn : Int} {wc : Int} {wm : Int} {ws : Int} {wi : Int} {wl : Int} {ba : Int → Int} {xa : Int → Int} {xb : Int → Int} {xc : Int → Int} {xd : Int → Int} {xe : Int → Int} {xf : Int → Int} {xg : Int → Int} {xh : Int → Int} (hqn : 0 ≤ qn ∧ qn ≤ 900) (hqk : 0 ≤ qk ∧ qk ≤ 4) (hqs : 0 ≤ qs ∧ qs ≤ 900) (hqq : 0 ≤ qq ∧ qq ≤ 900) (hwo : 2 ≤ wo ∧ wo ≤ 13) (hwf : 1 ≤ wf ∧ wf ≤ 13) (hwn : 0 ≤ wn ∧ wn ≤ 96) (hwc : 0 ≤ wc ∧ wc ≤ 6) (hwm : 0 ≤ wm ∧ wm ≤ 4) (hws : 0 ≤ ws ∧ ws ≤ 6) (hwi : 0 ≤ wi ∧ wi ≤ 8) (hba : ∀ i, -128 ≤ ba i ∧ ba i ≤ 127) (hxe : ∀ i, 0 ≤ xe i ∧ xe i ≤ 12) {F s q kk Y v : Int} (p0 : p_CF ba qn wo wf wn wc wm ws wi wl xa xb xc xd xe xf xg xh (F)) (p1 : p_CU ba qk qs qq qn qv (s)) (p2 : kk = qk) (p3 : q = qq) (p4 : v = qv) (c0 : 0 ≤ F + (-1) * s + (-65536) * Y + (-12288)) (c1 : 0 ≤ s + 65536 * Y + (-1) * F + 12288) (c2 : 0 ≤ kk + (-3)) (c3 : 0 ≤ (-1) * kk + 3) (c4 : 0 ≤ v + (-1)) (c5 : 0 ≤ (-1) * v + 96) (c6 : 0 ≤ q) (c7 : 0 ≤ (-1) * q + 1023) (c8 : 0 ≤ s) (c9 : 0 ≤ (-1) * s + 900) (c10 : 0 ≤ Y) (c11 : 0 ≤ (-1) * Y + 4294967295) : p_RDX ba qn wo wf wn wc wm ws wi wl xa xb xc xd xe xf xg xh (q + 65536 * v + 13312) := by
  obtain ⟨st, s1, r1, r2, np, W, pk, cf, w1, w2, w3, w4, w5, w6, w7, of, pn⟩ := p0
  unfold m_pk at pk
  obtain rfl : s1 = s := by omega
  obtain rfl : st = 12 := by omega
  obtain ⟨uA, u0, u1, u2, u3⟩ := p1
  have ev := u3 (by omega)
  have AT := m_st_n (lo := 1) (hi := 96) rfl cf (by decide) (by omega) (by omega) (by omega)
  rw [← u2, ← ev] at AT
  exact ⟨13, qq, qv, 0, np, W, (by unfold m_pk; omega), Or.inl ⟨by decide, AT⟩, w1, w2, w3, w4, w5, w6, w7, fun _ => of (by decide), fun _ => pn (by unfold m_ps; decide)⟩
theorem k_ny12 {qn : Int} {wo : Int} {wf : Int} {wn : Int} {wc : Int} {wm : Int} {ws : Int} {wi : Int} {wl : Int} {ba : Int → Int} {xa : Int → Int} {xb : Int → Int} {xc : Int → Int} {xd : Int → Int} {xe : Int → Int} {xf : Int → Int} {xg : Int → Int} {xh : Int → Int} (hqn : 0 ≤ qn ∧ qn ≤ 900) (hwo : 2 ≤ wo ∧ wo ≤ 13) (hwf : 1 ≤ wf ∧ wf ≤ 13) (hwn : 0 ≤ wn ∧ wn ≤ 96) (hwc : 0 ≤ wc ∧ wc ≤ 6) (hwm : 0 ≤ wm ∧ wm ≤ 4) (hws : 0 ≤ ws ∧ ws ≤ 6) (hwi : 0 ≤ wi ∧ wi ≤ 8) (hba : ∀ i, -128 ≤ ba i ∧ ba i ≤ 127) (hxe : ∀ i, 0 ≤ xe i ∧ xe i ≤ 12) {F s q kk Y v H : Int} (p0 : p_RDX ba qn wo wf wn wc wm ws wi wl xa xb xc xd xe xf xg xh (H)) (c0 : 0 ≤ H + (-1) * q + (-65536) * v + (-13312)) (c1 : 0 ≤ q + 65536 * v + (-1) * H + 13312) : p_XW (v) := by
  trivial
theorem k_no12a {qn : Int} {qk : Int} {qs : Int} {qq : Int} {qv : Int} {wo : Int} {wf : Int} {wn : Int} {wc : Int} {wm : Int} {ws : Int} {wi : Int} {wl : Int} {ba : Int → Int} {xa : Int → Int} {xb : Int → Int} {xc : Int → Int} {xd : Int → Int} {xe : Int → Int} {xf : Int → Int} {xg : Int → Int} {xh : Int → Int} (hqn : 0 ≤ qn ∧ qn ≤ 900) (hqk : 0 ≤ qk ∧ qk ≤ 4) (hqs : 0 ≤ qs ∧ qs ≤ 900) (hqq : 0 ≤ qq ∧ qq ≤ 900) (hwo : 2 ≤ wo ∧ wo ≤ 13) (hwf : 1 ≤ wf ∧ wf ≤ 13) (hwn : 0 ≤ wn ∧ wn ≤ 96) (hwc : 0 ≤ wc ∧ wc ≤ 6) (hwm : 0 ≤ wm ∧ wm ≤ 4) (hws : 0 ≤ ws ∧ ws ≤ 6) (hwi : 0 ≤ wi ∧ wi ≤ 8) (hba : ∀ i, -128 ≤ ba i ∧ ba i ≤ 127) (hxe : ∀ i, 0 ≤ xe i ∧ xe i ≤ 12) {F s q kk Y v : Int} (p0 : p_CF ba qn wo wf wn wc wm ws wi wl xa xb xc xd xe xf xg xh (F)) (p1 : p_CU ba qk qs qq qn qv (s)) (p2 : kk = qk) (p3 : q = qq) (p4 : v = qv) (c0 : 0 ≤ F + (-1) * s + (-65536) * Y + (-12288)) (c1 : 0 ≤ s + 65536 * Y + (-1) * F + 12288) (c2 : 0 ≤ kk + (-3)) (c3 : 0 ≤ (-1) * kk + 3) (c4 : 0 ≤ (-1) * v) (c5 : 0 ≤ s) (c6 : 0 ≤ (-1) * s + 900) (c7 : 0 ≤ Y) (c8 : 0 ≤ (-1) * Y + 4294967295) : p_HF ba qn (8 * s + 4) := by
  obtain ⟨st, s1, r1, r2, np, W, pk, cf, w1, w2, w3, w4, w5, w6, w7, of, pn⟩ := p0
  unfold m_pk at pk
  obtain rfl : s1 = s := by omega
  obtain rfl : st = 12 := by omega
  obtain ⟨uA, u0, u1, u2, u3⟩ := p1
  have ev := u3 (by omega)
  exact ⟨4, s1, by omega, by omega, by omega, m_st_n4 (lo := 1) (hi := 96) rfl cf (by decide) (by omega) (Or.inl (by omega))⟩
theorem k_no12b0 {qn : Int} {qk : Int} {qs : Int} {qq : Int} {qv : Int} {wo : Int} {wf : Int} {wn : Int} {wc : Int} {wm : Int} {ws : Int} {wi : Int} {wl : Int} {ba : Int → Int} {xa : Int → Int} {xb : Int → Int} {xc : Int → Int} {xd : Int → Int} {xe : Int → Int} {xf : Int → Int} {xg : Int → Int} {xh : Int → Int} (hqn : 0 ≤ qn ∧ qn ≤ 900) (hqk : 0 ≤ qk ∧ qk ≤ 4) (hqs : 0 ≤ qs ∧ qs ≤ 900) (hqq : 0 ≤ qq ∧ qq ≤ 900) (hwo : 2 ≤ wo ∧ wo ≤ 13) (hwf : 1 ≤ wf ∧ wf ≤ 13) (hwn : 0 ≤ wn ∧ wn ≤ 96) (hwc : 0 ≤ wc ∧ wc ≤ 6) (hwm : 0 ≤ wm ∧ wm ≤ 4) (hws : 0 ≤ ws ∧ ws ≤ 6) (hwi : 0 ≤ wi ∧ wi ≤ 8) (hba : ∀ i, -128 ≤ ba i ∧ ba i ≤ 127) (hxe : ∀ i, 0 ≤ xe i ∧ xe i ≤ 12) {F s q kk Y v : Int} (p0 : p_CF ba qn wo wf wn wc wm ws wi wl xa xb xc xd xe xf xg xh (F)) (p1 : p_CU ba qk qs qq qn qv (s)) (p2 : kk = qk) (p3 : q = qq) (p4 : v = qv) (c0 : 0 ≤ F + (-1) * s + (-65536) * Y + (-12288)) (c1 : 0 ≤ s + 65536 * Y + (-1) * F + 12288) (c2 : 0 ≤ kk + (-3)) (c3 : 0 ≤ (-1) * kk + 3) (c4 : 0 ≤ v + (-97)) (c5 : 0 ≤ s) (c6 : 0 ≤ (-1) * s + 900) (c7 : 0 ≤ Y) (c8 : 0 ≤ (-1) * Y + 4294967295) : p_HF ba qn (8 * s + 4) := by
  obtain ⟨st, s1, r1, r2, np, W, pk, cf, w1, w2, w3, w4, w5, w6, w7, of, pn⟩ := p0
  unfold m_pk at pk
  obtain rfl : s1 = s := by omega
  obtain rfl : st = 12 := by omega
  obtain ⟨uA, u0, u1, u2, u3⟩ := p1
  have ev := u3 (by omega)
  exact ⟨4, s1, by omega, by omega, by omega, m_st_n4 (lo := 1) (hi := 96) rfl cf (by decide) (by omega) (Or.inr (by omega))⟩
theorem k_mn12a {qn : Int} {qk : Int} {qs : Int} {qq : Int} {qv : Int} {wo : Int} {wf : Int} {wn : Int} {wc : Int} {wm : Int} {ws : Int} {wi : Int} {wl : Int} {ba : Int → Int} {xa : Int → Int} {xb : Int → Int} {xc : Int → Int} {xd : Int → Int} {xe : Int → Int} {xf : Int → Int} {xg : Int → Int} {xh : Int → Int} (hqn : 0 ≤ qn ∧ qn ≤ 900) (hqk : 0 ≤ qk ∧ qk ≤ 4) (hqs : 0 ≤ qs ∧ qs ≤ 900) (hqq : 0 ≤ qq ∧ qq ≤ 900) (hwo : 2 ≤ wo ∧ wo ≤ 13) (hwf : 1 ≤ wf ∧ wf ≤ 13) (hwn : 0 ≤ wn ∧ wn ≤ 96) (hwc : 0 ≤ wc ∧ wc ≤ 6) (hwm : 0 ≤ wm ∧ wm ≤ 4) (hws : 0 ≤ ws ∧ ws ≤ 6) (hwi : 0 ≤ wi ∧ wi ≤ 8) (hba : ∀ i, -128 ≤ ba i ∧ ba i ≤ 127) (hxe : ∀ i, 0 ≤ xe i ∧ xe i ≤ 12) {F s q kk Y : Int} (p0 : p_CF ba qn wo wf wn wc wm ws wi wl xa xb xc xd xe xf xg xh (F)) (p1 : p_CU ba qk qs qq qn qv (s)) (p2 : kk = qk) (p3 : q = qq) (c0 : 0 ≤ F + (-1) * s + (-65536) * Y + (-12288)) (c1 : 0 ≤ s + 65536 * Y + (-1) * F + 12288) (c2 : 0 ≤ kk + (-1)) (c3 : 0 ≤ (-1) * kk + 1) (c4 : 0 ≤ s) (c5 : 0 ≤ (-1) * s + 900) (c6 : 0 ≤ Y) (c7 : 0 ≤ (-1) * Y + 4294967295) : p_HF ba qn (8 * s + 1) := by
  obtain ⟨st, s1, r1, r2, np, W, pk, cf, w1, w2, w3, w4, w5, w6, w7, of, pn⟩ := p0
  unfold m_pk at pk
  obtain rfl : s1 = s := by omega
  obtain rfl : st = 12 := by omega
  obtain ⟨uA, u0, u1, u2, u3⟩ := p1
  exact ⟨1, s1, by omega, by omega, by omega, m_mp1 (m_st_nn rfl cf (by decide) (by omega)) (by omega)⟩
theorem k_mn12b {qn : Int} {qk : Int} {qs : Int} {qq : Int} {qv : Int} {wo : Int} {wf : Int} {wn : Int} {wc : Int} {wm : Int} {ws : Int} {wi : Int} {wl : Int} {ba : Int → Int} {xa : Int → Int} {xb : Int → Int} {xc : Int → Int} {xd : Int → Int} {xe : Int → Int} {xf : Int → Int} {xg : Int → Int} {xh : Int → Int} (hqn : 0 ≤ qn ∧ qn ≤ 900) (hqk : 0 ≤ qk ∧ qk ≤ 4) (hqs : 0 ≤ qs ∧ qs ≤ 900) (hqq : 0 ≤ qq ∧ qq ≤ 900) (hwo : 2 ≤ wo ∧ wo ≤ 13) (hwf : 1 ≤ wf ∧ wf ≤ 13) (hwn : 0 ≤ wn ∧ wn ≤ 96) (hwc : 0 ≤ wc ∧ wc ≤ 6) (hwm : 0 ≤ wm ∧ wm ≤ 4) (hws : 0 ≤ ws ∧ ws ≤ 6) (hwi : 0 ≤ wi ∧ wi ≤ 8) (hba : ∀ i, -128 ≤ ba i ∧ ba i ≤ 127) (hxe : ∀ i, 0 ≤ xe i ∧ xe i ≤ 12) {F s q kk Y : Int} (p0 : p_CF ba qn wo wf wn wc wm ws wi wl xa xb xc xd xe xf xg xh (F)) (p1 : p_CU ba qk qs qq qn qv (s)) (p2 : kk = qk) (p3 : q = qq) (c0 : 0 ≤ F + (-1) * s + (-65536) * Y + (-12288)) (c1 : 0 ≤ s + 65536 * Y + (-1) * F + 12288) (c2 : 0 ≤ (-1) * kk) (c3 : 0 ≤ s) (c4 : 0 ≤ (-1) * s + 900) (c5 : 0 ≤ Y) (c6 : 0 ≤ (-1) * Y + 4294967295) : p_HF ba qn (8 * s + 2) := by
  obtain ⟨st, s1, r1, r2, np, W, pk, cf, w1, w2, w3, w4, w5, w6, w7, of, pn⟩ := p0
  unfold m_pk at pk
  obtain rfl : s1 = s := by omega
  obtain rfl : st = 12 := by omega
  obtain ⟨uA, u0, u1, u2, u3⟩ := p1
  exact ⟨2, s1, by omega, by omega, by omega, m_mp2 (m_st_nn rfl cf (by decide) (by omega)) (by omega)⟩
theorem k_mn12c {qn : Int} {qk : Int} {qs : Int} {qq : Int} {qv : Int} {wo : Int} {wf : Int} {wn : Int} {wc : Int} {wm : Int} {ws : Int} {wi : Int} {wl : Int} {ba : Int → Int} {xa : Int → Int} {xb : Int → Int} {xc : Int → Int} {xd : Int → Int} {xe : Int → Int} {xf : Int → Int} {xg : Int → Int} {xh : Int → Int} (hqn : 0 ≤ qn ∧ qn ≤ 900) (hqk : 0 ≤ qk ∧ qk ≤ 4) (hqs : 0 ≤ qs ∧ qs ≤ 900) (hqq : 0 ≤ qq ∧ qq ≤ 900) (hwo : 2 ≤ wo ∧ wo ≤ 13) (hwf : 1 ≤ wf ∧ wf ≤ 13) (hwn : 0 ≤ wn ∧ wn ≤ 96) (hwc : 0 ≤ wc ∧ wc ≤ 6) (hwm : 0 ≤ wm ∧ wm ≤ 4) (hws : 0 ≤ ws ∧ ws ≤ 6) (hwi : 0 ≤ wi ∧ wi ≤ 8) (hba : ∀ i, -128 ≤ ba i ∧ ba i ≤ 127) (hxe : ∀ i, 0 ≤ xe i ∧ xe i ≤ 12) {F s q kk Y : Int} (p0 : p_CF ba qn wo wf wn wc wm ws wi wl xa xb xc xd xe xf xg xh (F)) (p1 : p_CU ba qk qs qq qn qv (s)) (p2 : kk = qk) (p3 : q = qq) (c0 : 0 ≤ F + (-1) * s + (-65536) * Y + (-12288)) (c1 : 0 ≤ s + 65536 * Y + (-1) * F + 12288) (c2 : 0 ≤ kk + (-2)) (c3 : 0 ≤ (-1) * kk + 2) (c4 : 0 ≤ s) (c5 : 0 ≤ (-1) * s + 900) (c6 : 0 ≤ Y) (c7 : 0 ≤ (-1) * Y + 4294967295) : p_HF ba qn (8 * s + 2) := by
  obtain ⟨st, s1, r1, r2, np, W, pk, cf, w1, w2, w3, w4, w5, w6, w7, of, pn⟩ := p0
  unfold m_pk at pk
  obtain rfl : s1 = s := by omega
  obtain rfl : st = 12 := by omega
  obtain ⟨uA, u0, u1, u2, u3⟩ := p1
  exact ⟨2, s1, by omega, by omega, by omega, m_mp2 (m_st_nn rfl cf (by decide) (by omega)) (by omega)⟩
theorem k_mn12d {qn : Int} {qk : Int} {qs : Int} {qq : Int} {qv : Int} {wo : Int} {wf : Int} {wn : Int} {wc : Int} {wm : Int} {ws : Int} {wi : Int} {wl : Int} {ba : Int → Int} {xa : Int → Int} {xb : Int → Int} {xc : Int → Int} {xd : Int → Int} {xe : Int → Int} {xf : Int → Int} {xg : Int → Int} {xh : Int → Int} (hqn : 0 ≤ qn ∧ qn ≤ 900) (hqk : 0 ≤ qk ∧ qk ≤ 4) (hqs : 0 ≤ qs ∧ qs ≤ 900) (hqq : 0 ≤ qq ∧ qq ≤ 900) (hwo : 2 ≤ wo ∧ wo ≤ 13) (hwf : 1 ≤ wf ∧ wf ≤ 13) (hwn : 0 ≤ wn ∧ wn ≤ 96) (hwc : 0 ≤ wc ∧ wc ≤ 6) (hwm : 0 ≤ wm ∧ wm ≤ 4) (hws : 0 ≤ ws ∧ ws ≤ 6) (hwi : 0 ≤ wi ∧ wi ≤ 8) (hba : ∀ i, -128 ≤ ba i ∧ ba i ≤ 127) (hxe : ∀ i, 0 ≤ xe i ∧ xe i ≤ 12) {F s q kk Y : Int} (p0 : p_CF ba qn wo wf wn wc wm ws wi wl xa xb xc xd xe xf xg xh (F)) (p1 : p_CU ba qk qs qq qn qv (s)) (p2 : kk = qk) (p3 : q = qq) (c0 : 0 ≤ F + (-1) * s + (-65536) * Y + (-12288)) (c1 : 0 ≤ s + 65536 * Y + (-1) * F + 12288) (c2 : 0 ≤ kk + (-4)) (c3 : 0 ≤ s) (c4 : 0 ≤ (-1) * s + 900) (c5 : 0 ≤ Y) (c6 : 0 ≤ (-1) * Y + 4294967295) : p_HF ba qn (8 * s + 2) := by
  obtain ⟨st, s1, r1, r2, np, W, pk, cf, w1, w2, w3, w4, w5, w6, w7, of, pn⟩ := p0
  unfold m_pk at pk
  obtain rfl : s1 = s := by omega
  obtain rfl : st = 12 := by omega
  obtain ⟨uA, u0, u1, u2, u3⟩ := p1
  exact ⟨2, s1, by omega, by omega, by omega, m_mp2 (m_st_nn rfl cf (by decide) (by omega)) (by omega)⟩
theorem k_nu14 {qn : Int} {qk : Int} {qs : Int} {qq : Int} {qv : Int} {wo : Int} {wf : Int} {wn : Int} {wc : Int} {wm : Int} {ws : Int} {wi : Int} {wl : Int} {ba : Int → Int} {xa : Int → Int} {xb : Int → Int} {xc : Int → Int} {xd : Int → Int} {xe : Int → Int} {xf : Int → Int} {xg : Int → Int} {xh : Int → Int} (hqn : 0 ≤ qn ∧ qn ≤ 900) (hqk : 0 ≤ qk ∧ qk ≤ 4) (hqs : 0 ≤ qs ∧ qs ≤ 900) (hqq : 0 ≤ qq ∧ qq ≤ 900) (hwo : 2 ≤ wo ∧ wo ≤ 13) (hwf : 1 ≤ wf ∧ wf ≤ 13) (hwn : 0 ≤ wn ∧ wn ≤ 96) (hwc : 0 ≤ wc ∧ wc ≤ 6) (hwm : 0 ≤ wm ∧ wm ≤ 4) (hws : 0 ≤ ws ∧ ws ≤ 6) (hwi : 0 ≤ wi ∧ wi ≤ 8) (hba : ∀ i, -128 ≤ ba i ∧ ba i ≤ 127) (hxe : ∀ i, 0 ≤ xe i ∧ xe i ≤ 12) {F s q kk Y v : Int} (p0 : p_CF ba qn wo wf wn wc wm ws wi wl xa xb xc xd xe xf xg xh (F)) (p1 : p_CU ba qk qs qq qn qv (s)) (p2 : kk = qk) (p3 : q = qq) (p4 : v = qv) (c0 : 0 ≤ F + (-1) * s + (-65536) * Y + (-14336)) (c1 : 0 ≤ s + 65536 * Y + (-1) * F + 14336) (c2 : 0 ≤ kk + (-3)) (c3 : 0 ≤ (-1) * kk + 3) (c4 : 0 ≤ v + (-1)) (c5 : 0 ≤ (-1) * v + 9) (c6 : 0 ≤ q) (c7 : 0 ≤ (-1) * q + 1023) (c8 : 0 ≤ (-1) * Y + 65535) (c9 : 0 ≤ s) (c10 : 0 ≤ (-1) * s + 900) (c11 : 0 ≤ Y) (c12 : 0 ≤ (-1) * Y + 4294967295) : p_RDX ba qn wo wf wn wc wm ws wi wl xa xb xc xd xe xf xg xh (q + 65536 * Y + 4294967296 * v + 23552) := by
  obtain ⟨st, s1, r1, r2, np, W, pk, cf, w1, w2, w3, w4, w5, w6, w7, of, pn⟩ := p0
  unfold m_pk at pk
  obtain rfl : s1 = s := by omega
  obtain rfl : st = 14 := by omega
  obtain ⟨uA, u0, u1, u2, u3⟩ := p1
  have ev := u3 (by omega)
  have AT := m_st_n (lo := 1) (hi := 9) rfl cf (by decide) (by omega) (by omega) (by omega)
  rw [← u2, ← ev] at AT
  exact ⟨23, qq, r1, qv, np, W, (by unfold m_pk; omega), Or.inl ⟨by decide, AT⟩, w1, w2, w3, w4, w5, w6, w7, fun _ => of (by decide), fun _ => pn (by unfold m_ps; decide)⟩
theorem k_ny14 {qn : Int} {wo : Int} {wf : Int} {wn : Int} {wc : Int} {wm : Int} {ws : Int} {wi : Int} {wl : Int} {ba : Int → Int} {xa : Int → Int} {xb : Int → Int} {xc : Int → Int} {xd : Int → Int} {xe : Int → Int} {xf : Int → Int} {xg : Int → Int} {xh : Int → Int} (hqn : 0 ≤ qn ∧ qn ≤ 900) (hwo : 2 ≤ wo ∧ wo ≤ 13) (hwf : 1 ≤ wf ∧ wf ≤ 13) (hwn : 0 ≤ wn ∧ wn ≤ 96) (hwc : 0 ≤ wc ∧ wc ≤ 6) (hwm : 0 ≤ wm ∧ wm ≤ 4) (hws : 0 ≤ ws ∧ ws ≤ 6) (hwi : 0 ≤ wi ∧ wi ≤ 8) (hba : ∀ i, -128 ≤ ba i ∧ ba i ≤ 127) (hxe : ∀ i, 0 ≤ xe i ∧ xe i ≤ 12) {F s q kk Y v H : Int} (p0 : p_RDX ba qn wo wf wn wc wm ws wi wl xa xb xc xd xe xf xg xh (H)) (c0 : 0 ≤ H + (-1) * q + (-65536) * Y + (-4294967296) * v + (-23552)) (c1 : 0 ≤ q + 65536 * Y + 4294967296 * v + (-1) * H + 23552) : p_XW (Y + 65536 * v) := by
  trivial
theorem k_no14a {qn : Int} {qk : Int} {qs : Int} {qq : Int} {qv : Int} {wo : Int} {wf : Int} {wn : Int} {wc : Int} {wm : Int} {ws : Int} {wi : Int} {wl : Int} {ba : Int → Int} {xa : Int → Int} {xb : Int → Int} {xc : Int → Int} {xd : Int → Int} {xe : Int → Int} {xf : Int → Int} {xg : Int → Int} {xh : Int → Int} (hqn : 0 ≤ qn ∧ qn ≤ 900) (hqk : 0 ≤ qk ∧ qk ≤ 4) (hqs : 0 ≤ qs ∧ qs ≤ 900) (hqq : 0 ≤ qq ∧ qq ≤ 900) (hwo : 2 ≤ wo ∧ wo ≤ 13) (hwf : 1 ≤ wf ∧ wf ≤ 13) (hwn : 0 ≤ wn ∧ wn ≤ 96) (hwc : 0 ≤ wc ∧ wc ≤ 6) (hwm : 0 ≤ wm ∧ wm ≤ 4) (hws : 0 ≤ ws ∧ ws ≤ 6) (hwi : 0 ≤ wi ∧ wi ≤ 8) (hba : ∀ i, -128 ≤ ba i ∧ ba i ≤ 127) (hxe : ∀ i, 0 ≤ xe i ∧ xe i ≤ 12) {F s q kk Y v : Int} (p0 : p_CF ba qn wo wf wn wc wm ws wi wl xa xb xc xd xe xf xg xh (F)) (p1 : p_CU ba qk qs qq qn qv (s)) (p2 : kk = qk) (p3 : q = qq) (p4 : v = qv) (c0 : 0 ≤ F + (-1) * s + (-65536) * Y + (-14336)) (c1 : 0 ≤ s + 65536 * Y + (-1) * F + 14336) (c2 : 0 ≤ kk + (-3)) (c3 : 0 ≤ (-1) * kk + 3) (c4 : 0 ≤ (-1) * v) (c5 : 0 ≤ s) (c6 : 0 ≤ (-1) * s + 900) (c7 : 0 ≤ Y) (c8 : 0 ≤ (-1) * Y + 4294967295) : p_HF ba qn (8 * s + 4) := by
  obtain ⟨st, s1, r1, r2, np, W, pk, cf, w1, w2, w3, w4, w5, w6, w7, of, pn⟩ := p0
  unfold m_pk at pk
  obtain rfl : s1 = s := by omega
  obtain rfl : st = 14 := by omega
  obtain ⟨uA, u0, u1, u2, u3⟩ := p1
  have ev := u3 (by omega)
  exact ⟨4, s1, by omega, by omega, by omega, m_st_n4 (lo := 1) (hi := 9) rfl cf (by decide) (by omega) (Or.inl (by omega))⟩
theorem k_no14b0 {qn : Int} {qk : Int} {qs : Int} {qq : Int} {qv : Int} {wo : Int} {wf : Int} {wn : Int} {wc : Int} {wm : Int} {ws : Int} {wi : Int} {wl : Int} {ba : Int → Int} {xa : Int → Int} {xb : Int → Int} {xc : Int → Int} {xd : Int → Int} {xe : Int → Int} {xf : Int → Int} {xg : Int → Int} {xh : Int → Int} (hqn : 0 ≤ qn ∧ qn ≤ 900) (hqk : 0 ≤ qk ∧ qk ≤ 4) (hqs : 0 ≤ qs ∧ qs ≤ 900) (hqq : 0 ≤ qq ∧ qq ≤ 900) (hwo : 2 ≤ wo ∧ wo ≤ 13) (hwf : 1 ≤ wf ∧ wf ≤ 13) (hwn : 0 ≤ wn ∧ wn ≤ 96) (hwc : 0 ≤ wc ∧ wc ≤ 6) (hwm : 0 ≤ wm ∧ wm ≤ 4) (hws : 0 ≤ ws ∧ ws ≤ 6) (hwi : 0 ≤ wi ∧ wi ≤ 8) (hba : ∀ i, -128 ≤ ba i ∧ ba i ≤ 127) (hxe : ∀ i, 0 ≤ xe i ∧ xe i ≤ 12) {F s q kk Y v : Int} (p0 : p_CF ba qn wo wf wn wc wm ws wi wl xa xb xc xd xe xf xg xh (F)) (p1 : p_CU ba qk qs qq qn qv (s)) (p2 : kk = qk) (p3 : q = qq) (p4 : v = qv) (c0 : 0 ≤ F + (-1) * s + (-65536) * Y + (-14336)) (c1 : 0 ≤ s + 65536 * Y + (-1) * F + 14336) (c2 : 0 ≤ kk + (-3)) (c3 : 0 ≤ (-1) * kk + 3) (c4 : 0 ≤ v + (-10)) (c5 : 0 ≤ s) (c6 : 0 ≤ (-1) * s + 900) (c7 : 0 ≤ Y) (c8 : 0 ≤ (-1) * Y + 4294967295) : p_HF ba qn (8 * s + 4) := by
  obtain ⟨st, s1, r1, r2, np, W, pk, cf, w1, w2, w3, w4, w5, w6, w7, of, pn⟩ := p0
  unfold m_pk at pk
  obtain rfl : s1 = s := by omega
  obtain rfl : st = 14 := by omega
  obtain ⟨uA, u0, u1, u2, u3⟩ := p1
  have ev := u3 (by omega)
  exact ⟨4, s1, by omega, by omega, by omega, m_st_n4 (lo := 1) (hi := 9) rfl cf (by decide) (by omega) (Or.inr (by omega))⟩
theorem k_mn14a {qn : Int} {qk : Int} {qs : Int} {qq : Int} {qv : Int} {wo : Int} {wf : Int} {wn : Int} {wc : Int} {wm : Int} {ws : Int} {wi : Int} {wl : Int} {ba : Int → Int} {xa : Int → Int} {xb : Int → Int} {xc : Int → Int} {xd : Int → Int} {xe : Int → Int} {xf : Int → Int} {xg : Int → Int} {xh : Int → Int} (hqn : 0 ≤ qn ∧ qn ≤ 900) (hqk : 0 ≤ qk ∧ qk ≤ 4) (hqs : 0 ≤ qs ∧ qs ≤ 900) (hqq : 0 ≤ qq ∧ qq ≤ 900) (hwo : 2 ≤ wo ∧ wo ≤ 13) (hwf : 1 ≤ wf ∧ wf ≤ 13) (hwn : 0 ≤ wn ∧ wn ≤ 96) (hwc : 0 ≤ wc ∧ wc ≤ 6) (hwm : 0 ≤ wm ∧ wm ≤ 4) (hws : 0 ≤ ws ∧ ws ≤ 6) (hwi : 0 ≤ wi ∧ wi ≤ 8) (hba : ∀ i, -128 ≤ ba i ∧ ba i ≤ 127) (hxe : ∀ i, 0 ≤ xe i ∧ xe i ≤ 12) {F s q kk Y : Int} (p0 : p_CF ba qn wo wf wn wc wm ws wi wl xa xb xc xd xe xf xg xh (F)) (p1 : p_CU ba qk qs qq qn qv (s)) (p2 : kk = qk) (p3 : q = qq) (c0 : 0 ≤ F + (-1) * s + (-65536) * Y + (-14336)) (c1 : 0 ≤ s + 65536 * Y + (-1) * F + 14336) (c2 : 0 ≤ kk + (-1)) (c3 : 0 ≤ (-1) * kk + 1) (c4 : 0 ≤ s) (c5 : 0 ≤ (-1) * s + 900) (c6 : 0 ≤ Y) (c7 : 0 ≤ (-1) * Y + 4294967295) : p_HF ba qn (8 * s + 1) := by
  obtain ⟨st, s1, r1, r2, np, W, pk, cf, w1, w2, w3, w4, w5, w6, w7, of, pn⟩ := p0
  unfold m_pk at pk
  obtain rfl : s1 = s := by omega
  obtain rfl : st = 14 := by omega
  obtain ⟨uA, u0, u1, u2, u3⟩ := p1
  exact ⟨1, s1, by omega, by omega, by omega, m_mp1 (m_st_nn rfl cf (by decide) (by omega)) (by omega)⟩
theorem k_mn14b {qn : Int} {qk : Int} {qs : Int} {qq : Int} {qv : Int} {wo : Int} {wf : Int} {wn : Int} {wc : Int} {wm : Int} {ws : Int} {wi : Int} {wl : Int} {ba : Int → Int} {xa : Int → Int} {xb : Int → Int} {xc : Int → Int} {xd : Int → Int} {xe : Int → Int} {xf : Int → Int} {xg : Int → Int} {xh : Int → Int} (hqn : 0 ≤ qn ∧ qn ≤ 900) (hqk : 0 ≤ qk ∧ qk ≤ 4) (hqs : 0 ≤ qs ∧ qs ≤ 900) (hqq : 0 ≤ qq ∧ qq ≤ 900) (hwo : 2 ≤ wo ∧ wo ≤ 13) (hwf : 1 ≤ wf ∧ wf ≤ 13) (hwn : 0 ≤ wn ∧ wn ≤ 96) (hwc : 0 ≤ wc ∧ wc ≤ 6) (hwm : 0 ≤ wm ∧ wm ≤ 4) (hws : 0 ≤ ws ∧ ws ≤ 6) (hwi : 0 ≤ wi ∧ wi ≤ 8) (hba : ∀ i, -128 ≤ ba i ∧ ba i ≤ 127) (hxe : ∀ i, 0 ≤ xe i ∧ xe i ≤ 12) {F s q kk Y : Int} (p0 : p_CF ba qn wo wf wn wc wm ws wi wl xa xb xc xd xe xf xg xh (F)) (p1 : p_CU ba qk qs qq qn qv (s)) (p2 : kk = qk) (p3 : q = qq) (c0 : 0 ≤ F + (-1) * s + (-65536) * Y + (-14336)) (c1 : 0 ≤ s + 65536 * Y + (-1) * F + 14336) (c2 : 0 ≤ (-1) * kk) (c3 : 0 ≤ s) (c4 : 0 ≤ (-1) * s + 900) (c5 : 0 ≤ Y) (c6 : 0 ≤ (-1) * Y + 4294967295) : p_HF ba qn (8 * s + 2) := by
  obtain ⟨st, s1, r1, r2, np, W, pk, cf, w1, w2, w3, w4, w5, w6, w7, of, pn⟩ := p0
  unfold m_pk at pk
  obtain rfl : s1 = s := by omega
  obtain rfl : st = 14 := by omega
  obtain ⟨uA, u0, u1, u2, u3⟩ := p1
  exact ⟨2, s1, by omega, by omega, by omega, m_mp2 (m_st_nn rfl cf (by decide) (by omega)) (by omega)⟩
theorem k_mn14c {qn : Int} {qk : Int} {qs : Int} {qq : Int} {qv : Int} {wo : Int} {wf : Int} {wn : Int} {wc : Int} {wm : Int} {ws : Int} {wi : Int} {wl : Int} {ba : Int → Int} {xa : Int → Int} {xb : Int → Int} {xc : Int → Int} {xd : Int → Int} {xe : Int → Int} {xf : Int → Int} {xg : Int → Int} {xh : Int → Int} (hqn : 0 ≤ qn ∧ qn ≤ 900) (hqk : 0 ≤ qk ∧ qk ≤ 4) (hqs : 0 ≤ qs ∧ qs ≤ 900) (hqq : 0 ≤ qq ∧ qq ≤ 900) (hwo : 2 ≤ wo ∧ wo ≤ 13) (hwf : 1 ≤ wf ∧ wf ≤ 13) (hwn : 0 ≤ wn ∧ wn ≤ 96) (hwc : 0 ≤ wc ∧ wc ≤ 6) (hwm : 0 ≤ wm ∧ wm ≤ 4) (hws : 0 ≤ ws ∧ ws ≤ 6) (hwi : 0 ≤ wi ∧ wi ≤ 8) (hba : ∀ i, -128 ≤ ba i ∧ ba i ≤ 127) (hxe : ∀ i, 0 ≤ xe i ∧ xe i ≤ 12) {F s q kk Y : Int} (p0 : p_CF ba qn wo wf wn wc wm ws wi wl xa xb xc xd xe xf xg xh (F)) (p1 : p_CU ba qk qs qq qn qv (s)) (p2 : kk = qk) (p3 : q = qq) (c0 : 0 ≤ F + (-1) * s + (-65536) * Y + (-14336)) (c1 : 0 ≤ s + 65536 * Y + (-1) * F + 14336) (c2 : 0 ≤ kk + (-2)) (c3 : 0 ≤ (-1) * kk + 2) (c4 : 0 ≤ s) (c5 : 0 ≤ (-1) * s + 900) (c6 : 0 ≤ Y) (c7 : 0 ≤ (-1) * Y + 4294967295) : p_HF ba qn (8 * s + 2) := by
  obtain ⟨st, s1, r1, r2, np, W, pk, cf, w1, w2, w3, w4, w5, w6, w7, of, pn⟩ := p0
  unfold m_pk at pk
  obtain rfl : s1 = s := by omega
  obtain rfl : st = 14 := by omega
  obtain ⟨uA, u0, u1, u2, u3⟩ := p1
  exact ⟨2, s1, by omega, by omega, by omega, m_mp2 (m_st_nn rfl cf (by decide) (by omega)) (by omega)⟩
theorem k_mn14d {qn : Int} {qk : Int} {qs : Int} {qq : Int} {qv : Int} {wo : Int} {wf : Int} {wn : Int} {wc : Int} {wm : Int} {ws : Int} {wi : Int} {wl : Int} {ba : Int → Int} {xa : Int → Int} {xb : Int → Int} {xc : Int → Int} {xd : Int → Int} {xe : Int → Int} {xf : Int → Int} {xg : Int → Int} {xh : Int → Int} (hqn : 0 ≤ qn ∧ qn ≤ 900) (hqk : 0 ≤ qk ∧ qk ≤ 4) (hqs : 0 ≤ qs ∧ qs ≤ 900) (hqq : 0 ≤ qq ∧ qq ≤ 900) (hwo : 2 ≤ wo ∧ wo ≤ 13) (hwf : 1 ≤ wf ∧ wf ≤ 13) (hwn : 0 ≤ wn ∧ wn ≤ 96) (hwc : 0 ≤ wc ∧ wc ≤ 6) (hwm : 0 ≤ wm ∧ wm ≤ 4) (hws : 0 ≤ ws ∧ ws ≤ 6) (hwi : 0 ≤ wi ∧ wi ≤ 8) (hba : ∀ i, -128 ≤ ba i ∧ ba i ≤ 127) (hxe : ∀ i, 0 ≤ xe i ∧ xe i ≤ 12) {F s q kk Y : Int} (p0 : p_CF ba qn wo wf wn wc wm ws wi wl xa xb xc xd xe xf xg xh (F)) (p1 : p_CU ba qk qs qq qn qv (s)) (p2 : kk = qk) (p3 : q = qq) (c0 : 0 ≤ F + (-1) * s + (-65536) * Y + (-14336)) (c1 : 0 ≤ s + 65536 * Y + (-1) * F + 14336) (c2 : 0 ≤ kk + (-4)) (c3 : 0 ≤ s) (c4 : 0 ≤ (-1) * s + 900) (c5 : 0 ≤ Y) (c6 : 0 ≤ (-1) * Y + 4294967295) : p_HF ba qn (8 * s + 2) := by
  obtain ⟨st, s1, r1, r2, np, W, pk, cf, w1, w2, w3, w4, w5, w6, w7, of, pn⟩ := p0
  unfold m_pk at pk
  obtain rfl : s1 = s := by omega
  obtain rfl : st = 14 := by omega
  obtain ⟨uA, u0, u1, u2, u3⟩ := p1
  exact ⟨2, s1, by omega, by omega, by omega, m_mp2 (m_st_nn rfl cf (by decide) (by omega)) (by omega)⟩
theorem k_nu15 {qn : Int} {qk : Int} {qs : Int} {qq : Int} {qv : Int} {wo : Int} {wf : Int} {wn : Int} {wc : Int} {wm : Int} {ws : Int} {wi : Int} {wl : Int} {ba : Int → Int} {xa : Int → Int} {xb : Int → Int} {xc : Int → Int} {xd : Int → Int} {xe : Int → Int} {xf : Int → Int} {xg : Int → Int} {xh : Int → Int} (hqn : 0 ≤ qn ∧ qn ≤ 900) (hqk : 0 ≤ qk ∧ qk ≤ 4) (hqs : 0 ≤ qs ∧ qs ≤ 900) (hqq : 0 ≤ qq ∧ qq ≤ 900) (hwo : 2 ≤ wo ∧ wo ≤ 13) (hwf : 1 ≤ wf ∧ wf ≤ 13) (hwn : 0 ≤ wn ∧ wn ≤ 96) (hwc : 0 ≤ wc ∧ wc ≤ 6) (hwm : 0 ≤ wm ∧ wm ≤ 4) (hws : 0 ≤ ws ∧ ws ≤ 6) (hwi : 0 ≤ wi ∧ wi ≤ 8) (hba : ∀ i, -128 ≤ ba i ∧ ba i ≤ 127) (hxe : ∀ i, 0 ≤ xe i ∧ xe i ≤ 12) {F s q kk Y v n : Int} (p0 : p_CF ba qn wo wf wn wc wm ws wi wl xa xb xc xd xe xf xg xh (F)) (p1 : p_CU ba qk qs qq qn qv (s)) (p2 : kk = qk) (p3 : q = qq) (p4 : v = qv) (p5 : n = wn) (c0 : 0 ≤ F + (-1) * s + (-65536) * Y + (-15360)) (c1 : 0 ≤ s + 65536 * Y + (-1) * F + 15360) (c2 : 0 ≤ kk + (-3)) (c3 : 0 ≤ (-1) * kk + 3) (c4 : 0 ≤ v) (c5 : 0 ≤ n + (-1) * v + (-1)) (c6 : 0 ≤ q) (c7 : 0 ≤ (-1) * q + 1023) (c8 : 0 ≤ s) (c9 : 0 ≤ (-1) * s + 900) (c10 : 0 ≤ Y) (c11 : 0 ≤ (-1) * Y + 4294967295) : p_RDX ba qn wo wf wn wc wm ws wi wl xa xb xc xd xe xf xg xh (q + 65536 * v + 4294967296 * s + 21504) := by
  obtain ⟨st, s1, r1, r2, np, W, pk, cf, w1, w2, w3, w4, w5, w6, w7, of, pn⟩ := p0
  unfold m_pk at pk
  obtain rfl : s1 = s := by omega
  obtain rfl : st = 15 := by omega
  obtain ⟨uA, u0, u1, u2, u3⟩ := p1
  have ev := u3 (by omega)
  have wq := w1.1
  have AT := m_st_n (lo := 0) (hi := m_tot (m_wcs W) - 1) rfl cf (by decide) (by omega) (by omega) (by omega)
  rw [← u2, ← ev] at AT
  exact ⟨21, qq, qv, s1, np, W, (by unfold m_pk; omega), Or.inl ⟨by decide, AT⟩, w1, w2, w3, w4, w5, w6, w7, fun _ => of (by decide), fun h => absurd h (by unfold m_ps; decide)⟩
theorem k_ny15 {qn : Int} {wo : Int} {wf : Int} {wn : Int} {wc : Int} {wm : Int} {ws : Int} {wi : Int} {wl : Int} {ba : Int → Int} {xa : Int → Int} {xb : Int → Int} {xc : Int → Int} {xd : Int → Int} {xe : Int → Int} {xf : Int → Int} {xg : Int → Int} {xh : Int → Int} (hqn : 0 ≤ qn ∧ qn ≤ 900) (hwo : 2 ≤ wo ∧ wo ≤ 13) (hwf : 1 ≤ wf ∧ wf ≤ 13) (hwn : 0 ≤ wn ∧ wn ≤ 96) (hwc : 0 ≤ wc ∧ wc ≤ 6) (hwm : 0 ≤ wm ∧ wm ≤ 4) (hws : 0 ≤ ws ∧ ws ≤ 6) (hwi : 0 ≤ wi ∧ wi ≤ 8) (hba : ∀ i, -128 ≤ ba i ∧ ba i ≤ 127) (hxe : ∀ i, 0 ≤ xe i ∧ xe i ≤ 12) {F s q kk Y v n H : Int} (p0 : p_RDX ba qn wo wf wn wc wm ws wi wl xa xb xc xd xe xf xg xh (H)) (c0 : 0 ≤ H + (-1) * q + (-65536) * v + (-4294967296) * s + (-21504)) (c1 : 0 ≤ q + 65536 * v + 4294967296 * s + (-1) * H + 21504) : p_XW (v + 65536 * s) := by
  trivial
theorem k_no15a {qn : Int} {qk : Int} {qs : Int} {qq : Int} {qv : Int} {wo : Int} {wf : Int} {wn : Int} {wc : Int} {wm : Int} {ws : Int} {wi : Int} {wl : Int} {ba : Int → Int} {xa : Int → Int} {xb : Int → Int} {xc : Int → Int} {xd : Int → Int} {xe : Int → Int} {xf : Int → Int} {xg : Int → Int} {xh : Int → Int} (hqn : 0 ≤ qn ∧ qn ≤ 900) (hqk : 0 ≤ qk ∧ qk ≤ 4) (hqs : 0 ≤ qs ∧ qs ≤ 900) (hqq : 0 ≤ qq ∧ qq ≤ 900) (hwo : 2 ≤ wo ∧ wo ≤ 13) (hwf : 1 ≤ wf ∧ wf ≤ 13) (hwn : 0 ≤ wn ∧ wn ≤ 96) (hwc : 0 ≤ wc ∧ wc ≤ 6) (hwm : 0 ≤ wm ∧ wm ≤ 4) (hws : 0 ≤ ws ∧ ws ≤ 6) (hwi : 0 ≤ wi ∧ wi ≤ 8) (hba : ∀ i, -128 ≤ ba i ∧ ba i ≤ 127) (hxe : ∀ i, 0 ≤ xe i ∧ xe i ≤ 12) {F s q kk Y v n : Int} (p0 : p_CF ba qn wo wf wn wc wm ws wi wl xa xb xc xd xe xf xg xh (F)) (p1 : p_CU ba qk qs qq qn qv (s)) (p2 : kk = qk) (p3 : q = qq) (p4 : v = qv) (p5 : n = wn) (c0 : 0 ≤ F + (-1) * s + (-65536) * Y + (-15360)) (c1 : 0 ≤ s + 65536 * Y + (-1) * F + 15360) (c2 : 0 ≤ kk + (-3)) (c3 : 0 ≤ (-1) * kk + 3) (c4 : 0 ≤ (-1) * v + (-1)) (c5 : 0 ≤ s) (c6 : 0 ≤ (-1) * s + 900) (c7 : 0 ≤ Y) (c8 : 0 ≤ (-1) * Y + 4294967295) : p_HF ba qn (8 * s + 4) := by
  obtain ⟨st, s1, r1, r2, np, W, pk, cf, w1, w2, w3, w4, w5, w6, w7, of, pn⟩ := p0
  unfold m_pk at pk
  obtain rfl : s1 = s := by omega
  obtain rfl : st = 15 := by omega
  obtain ⟨uA, u0, u1, u2, u3⟩ := p1
  have ev := u3 (by omega)
  have wq := w1.1
  exact ⟨4, s1, by omega, by omega, by omega, m_st_n4 (lo := 0) (hi := m_tot (m_wcs W) - 1) rfl cf (by decide) (by omega) (Or.inl (by omega))⟩
theorem k_no15b0 {qn : Int} {qk : Int} {qs : Int} {qq : Int} {qv : Int} {wo : Int} {wf : Int} {wn : Int} {wc : Int} {wm : Int} {ws : Int} {wi : Int} {wl : Int} {ba : Int → Int} {xa : Int → Int} {xb : Int → Int} {xc : Int → Int} {xd : Int → Int} {xe : Int → Int} {xf : Int → Int} {xg : Int → Int} {xh : Int → Int} (hqn : 0 ≤ qn ∧ qn ≤ 900) (hqk : 0 ≤ qk ∧ qk ≤ 4) (hqs : 0 ≤ qs ∧ qs ≤ 900) (hqq : 0 ≤ qq ∧ qq ≤ 900) (hwo : 2 ≤ wo ∧ wo ≤ 13) (hwf : 1 ≤ wf ∧ wf ≤ 13) (hwn : 0 ≤ wn ∧ wn ≤ 96) (hwc : 0 ≤ wc ∧ wc ≤ 6) (hwm : 0 ≤ wm ∧ wm ≤ 4) (hws : 0 ≤ ws ∧ ws ≤ 6) (hwi : 0 ≤ wi ∧ wi ≤ 8) (hba : ∀ i, -128 ≤ ba i ∧ ba i ≤ 127) (hxe : ∀ i, 0 ≤ xe i ∧ xe i ≤ 12) {F s q kk Y v n : Int} (p0 : p_CF ba qn wo wf wn wc wm ws wi wl xa xb xc xd xe xf xg xh (F)) (p1 : p_CU ba qk qs qq qn qv (s)) (p2 : kk = qk) (p3 : q = qq) (p4 : v = qv) (p5 : n = wn) (c0 : 0 ≤ F + (-1) * s + (-65536) * Y + (-15360)) (c1 : 0 ≤ s + 65536 * Y + (-1) * F + 15360) (c2 : 0 ≤ kk + (-3)) (c3 : 0 ≤ (-1) * kk + 3) (c4 : 0 ≤ (-1) * n + v) (c5 : 0 ≤ s) (c6 : 0 ≤ (-1) * s + 900) (c7 : 0 ≤ Y) (c8 : 0 ≤ (-1) * Y + 4294967295) : p_HF ba qn (8 * s + 4) := by
  obtain ⟨st, s1, r1, r2, np, W, pk, cf, w1, w2, w3, w4, w5, w6, w7, of, pn⟩ := p0
  unfold m_pk at pk
  obtain rfl : s1 = s := by omega
  obtain rfl : st = 15 := by omega
  obtain ⟨uA, u0, u1, u2, u3⟩ := p1
  have ev := u3 (by omega)
  have wq := w1.1
  exact ⟨4, s1, by omega, by omega, by omega, m_st_n4 (lo := 0) (hi := m_tot (m_wcs W) - 1) rfl cf (by decide) (by omega) (Or.inr (by omega))⟩
theorem k_mn15a {qn : Int} {qk : Int} {qs : Int} {qq : Int} {qv : Int} {wo : Int} {wf : Int} {wn : Int} {wc : Int} {wm : Int} {ws : Int} {wi : Int} {wl : Int} {ba : Int → Int} {xa : Int → Int} {xb : Int → Int} {xc : Int → Int} {xd : Int → Int} {xe : Int → Int} {xf : Int → Int} {xg : Int → Int} {xh : Int → Int} (hqn : 0 ≤ qn ∧ qn ≤ 900) (hqk : 0 ≤ qk ∧ qk ≤ 4) (hqs : 0 ≤ qs ∧ qs ≤ 900) (hqq : 0 ≤ qq ∧ qq ≤ 900) (hwo : 2 ≤ wo ∧ wo ≤ 13) (hwf : 1 ≤ wf ∧ wf ≤ 13) (hwn : 0 ≤ wn ∧ wn ≤ 96) (hwc : 0 ≤ wc ∧ wc ≤ 6) (hwm : 0 ≤ wm ∧ wm ≤ 4) (hws : 0 ≤ ws ∧ ws ≤ 6) (hwi : 0 ≤ wi ∧ wi ≤ 8) (hba : ∀ i, -128 ≤ ba i ∧ ba i ≤ 127) (hxe : ∀ i, 0 ≤ xe i ∧ xe i ≤ 12) {F s q kk Y : Int} (p0 : p_CF ba qn wo wf wn wc wm ws wi wl xa xb xc xd xe xf xg xh (F)) (p1 : p_CU ba qk qs qq qn qv (s)) (p2 : kk = qk) (p3 : q = qq) (c0 : 0 ≤ F + (-1) * s + (-65536) * Y + (-15360)) (c1 : 0 ≤ s + 65536 * Y + (-1) * F + 15360) (c2 : 0 ≤ kk + (-1)) (c3 : 0 ≤ (-1) * kk + 1) (c4 : 0 ≤ s) (c5 : 0 ≤ (-1) * s + 900) (c6 : 0 ≤ Y) (c7 : 0 ≤ (-1) * Y + 4294967295) : p_HF ba qn (8 * s + 1) := by
  obtain ⟨st, s1, r1, r2, np, W, pk, cf, w1, w2, w3, w4, w5, w6, w7, of, pn⟩ := p0
  unfold m_pk at pk
  obtain rfl : s1 = s := by omega
  obtain rfl : st = 15 := by omega
  obtain ⟨uA, u0, u1, u2, u3⟩ := p1
  exact ⟨1, s1, by omega, by omega, by omega, m_mp1 (m_st_nn rfl cf (by decide) (by omega)) (by omega)⟩
theorem k_mn15b {qn : Int} {qk : Int} {qs : Int} {qq : Int} {qv : Int} {wo : Int} {wf : Int} {wn : Int} {wc : Int} {wm : Int} {ws : Int} {wi : Int} {wl : Int} {ba : Int → Int} {xa : Int → Int} {xb : Int → Int} {xc : Int → Int} {xd : Int → Int} {xe : Int → Int} {xf : Int → Int} {xg : Int → Int} {xh : Int → Int} (hqn : 0 ≤ qn ∧ qn ≤ 900) (hqk : 0 ≤ qk ∧ qk ≤ 4) (hqs : 0 ≤ qs ∧ qs ≤ 900) (hqq : 0 ≤ qq ∧ qq ≤ 900) (hwo : 2 ≤ wo ∧ wo ≤ 13) (hwf : 1 ≤ wf ∧ wf ≤ 13) (hwn : 0 ≤ wn ∧ wn ≤ 96) (hwc : 0 ≤ wc ∧ wc ≤ 6) (hwm : 0 ≤ wm ∧ wm ≤ 4) (hws : 0 ≤ ws ∧ ws ≤ 6) (hwi : 0 ≤ wi ∧ wi ≤ 8) (hba : ∀ i, -128 ≤ ba i ∧ ba i ≤ 127) (hxe : ∀ i, 0 ≤ xe i ∧ xe i ≤ 12) {F s q kk Y : Int} (p0 : p_CF ba qn wo wf wn wc wm ws wi wl xa xb xc xd xe xf xg xh (F)) (p1 : p_CU ba qk qs qq qn qv (s)) (p2 : kk = qk) (p3 : q = qq) (c0 : 0 ≤ F + (-1) * s + (-65536) * Y + (-15360)) (c1 : 0 ≤ s + 65536 * Y + (-1) * F + 15360) (c2 : 0 ≤ (-1) * kk) (c3 : 0 ≤ s) (c4 : 0 ≤ (-1) * s + 900) (c5 : 0 ≤ Y) (c6 : 0 ≤ (-1) * Y + 4294967295) : p_HF ba qn (8 * s + 2) := by
  obtain ⟨st, s1, r1, r2, np, W, pk, cf, w1, w2, w3, w4, w5, w6, w7, of, pn⟩ := p0
  unfold m_pk at pk
  obtain rfl : s1 = s := by omega
  obtain rfl : st = 15 := by omega
  obtain ⟨uA, u0, u1, u2, u3⟩ := p1
  exact ⟨2, s1, by omega, by omega, by omega, m_mp2 (m_st_nn rfl cf (by decide) (by omega)) (by omega)⟩
theorem k_mn15c {qn : Int} {qk : Int} {qs : Int} {qq : Int} {qv : Int} {wo : Int} {wf : Int} {wn : Int} {wc : Int} {wm : Int} {ws : Int} {wi : Int} {wl : Int} {ba : Int → Int} {xa : Int → Int} {xb : Int → Int} {xc : Int → Int} {xd : Int → Int} {xe : Int → Int} {xf : Int → Int} {xg : Int → Int} {xh : Int → Int} (hqn : 0 ≤ qn ∧ qn ≤ 900) (hqk : 0 ≤ qk ∧ qk ≤ 4) (hqs : 0 ≤ qs ∧ qs ≤ 900) (hqq : 0 ≤ qq ∧ qq ≤ 900) (hwo : 2 ≤ wo ∧ wo ≤ 13) (hwf : 1 ≤ wf ∧ wf ≤ 13) (hwn : 0 ≤ wn ∧ wn ≤ 96) (hwc : 0 ≤ wc ∧ wc ≤ 6) (hwm : 0 ≤ wm ∧ wm ≤ 4) (hws : 0 ≤ ws ∧ ws ≤ 6) (hwi : 0 ≤ wi ∧ wi ≤ 8) (hba : ∀ i, -128 ≤ ba i ∧ ba i ≤ 127) (hxe : ∀ i, 0 ≤ xe i ∧ xe i ≤ 12) {F s q kk Y : Int} (p0 : p_CF ba qn wo wf wn wc wm ws wi wl xa xb xc xd xe xf xg xh (F)) (p1 : p_CU ba qk qs qq qn qv (s)) (p2 : kk = qk) (p3 : q = qq) (c0 : 0 ≤ F + (-1) * s + (-65536) * Y + (-15360)) (c1 : 0 ≤ s + 65536 * Y + (-1) * F + 15360) (c2 : 0 ≤ kk + (-2)) (c3 : 0 ≤ (-1) * kk + 2) (c4 : 0 ≤ s) (c5 : 0 ≤ (-1) * s + 900) (c6 : 0 ≤ Y) (c7 : 0 ≤ (-1) * Y + 4294967295) : p_HF ba qn (8 * s + 2) := by
  obtain ⟨st, s1, r1, r2, np, W, pk, cf, w1, w2, w3, w4, w5, w6, w7, of, pn⟩ := p0
  unfold m_pk at pk
  obtain rfl : s1 = s := by omega
  obtain rfl : st = 15 := by omega
  obtain ⟨uA, u0, u1, u2, u3⟩ := p1
  exact ⟨2, s1, by omega, by omega, by omega, m_mp2 (m_st_nn rfl cf (by decide) (by omega)) (by omega)⟩
theorem k_mn15d {qn : Int} {qk : Int} {qs : Int} {qq : Int} {qv : Int} {wo : Int} {wf : Int} {wn : Int} {wc : Int} {wm : Int} {ws : Int} {wi : Int} {wl : Int} {ba : Int → Int} {xa : Int → Int} {xb : Int → Int} {xc : Int → Int} {xd : Int → Int} {xe : Int → Int} {xf : Int → Int} {xg : Int → Int} {xh : Int → Int} (hqn : 0 ≤ qn ∧ qn ≤ 900) (hqk : 0 ≤ qk ∧ qk ≤ 4) (hqs : 0 ≤ qs ∧ qs ≤ 900) (hqq : 0 ≤ qq ∧ qq ≤ 900) (hwo : 2 ≤ wo ∧ wo ≤ 13) (hwf : 1 ≤ wf ∧ wf ≤ 13) (hwn : 0 ≤ wn ∧ wn ≤ 96) (hwc : 0 ≤ wc ∧ wc ≤ 6) (hwm : 0 ≤ wm ∧ wm ≤ 4) (hws : 0 ≤ ws ∧ ws ≤ 6) (hwi : 0 ≤ wi ∧ wi ≤ 8) (hba : ∀ i, -128 ≤ ba i ∧ ba i ≤ 127) (hxe : ∀ i, 0 ≤ xe i ∧ xe i ≤ 12) {F s q kk Y : Int} (p0 : p_CF ba qn wo wf wn wc wm ws wi wl xa xb xc xd xe xf xg xh (F)) (p1 : p_CU ba qk qs qq qn qv (s)) (p2 : kk = qk) (p3 : q = qq) (c0 : 0 ≤ F + (-1) * s + (-65536) * Y + (-15360)) (c1 : 0 ≤ s + 65536 * Y + (-1) * F + 15360) (c2 : 0 ≤ kk + (-4)) (c3 : 0 ≤ s) (c4 : 0 ≤ (-1) * s + 900) (c5 : 0 ≤ Y) (c6 : 0 ≤ (-1) * Y + 4294967295) : p_HF ba qn (8 * s + 2) := by
  obtain ⟨st, s1, r1, r2, np, W, pk, cf, w1, w2, w3, w4, w5, w6, w7, of, pn⟩ := p0
  unfold m_pk at pk
  obtain rfl : s1 = s := by omega
  obtain rfl : st = 15 := by omega
  obtain ⟨uA, u0, u1, u2, u3⟩ := p1
  exact ⟨2, s1, by omega, by omega, by omega, m_mp2 (m_st_nn rfl cf (by decide) (by omega)) (by omega)⟩
theorem k_nu17 {qn : Int} {qk : Int} {qs : Int} {qq : Int} {qv : Int} {wo : Int} {wf : Int} {wn : Int} {wc : Int} {wm : Int} {ws : Int} {wi : Int} {wl : Int} {ba : Int → Int} {xa : Int → Int} {xb : Int → Int} {xc : Int → Int} {xd : Int → Int} {xe : Int → Int} {xf : Int → Int} {xg : Int → Int} {xh : Int → Int} (hqn : 0 ≤ qn ∧ qn ≤ 900) (hqk : 0 ≤ qk ∧ qk ≤ 4) (hqs : 0 ≤ qs ∧ qs ≤ 900) (hqq : 0 ≤ qq ∧ qq ≤ 900) (hwo : 2 ≤ wo ∧ wo ≤ 13) (hwf : 1 ≤ wf ∧ wf ≤ 13) (hwn : 0 ≤ wn ∧ wn ≤ 96) (hwc : 0 ≤ wc ∧ wc ≤ 6) (hwm : 0 ≤ wm ∧ wm ≤ 4) (hws : 0 ≤ ws ∧ ws ≤ 6) (hwi : 0 ≤ wi ∧ wi ≤ 8) (hba : ∀ i, -128 ≤ ba i ∧ ba i ≤ 127) (hxe : ∀ i, 0 ≤ xe i ∧ xe i ≤ 12) {F s q kk Y v n : Int} (p0 : p_CF ba qn wo wf wn wc wm ws wi wl xa xb xc xd xe xf xg xh (F)) (p1 : p_CU ba qk qs qq qn qv (s)) (p2 : kk = qk) (p3 : q = qq) (p4 : v = qv) (p5 : n = wo) (c0 : 0 ≤ F + (-1) * s + (-65536) * Y + (-17408)) (c1 : 0 ≤ s + 65536 * Y + (-1) * F + 17408) (c2 : 0 ≤ kk + (-3)) (c3 : 0 ≤ (-1) * kk + 3) (c4 : 0 ≤ v + (-1)) (c5 : 0 ≤ n + (-1) * v + (-1)) (c6 : 0 ≤ q) (c7 : 0 ≤ (-1) * q + 1023) (c8 : 0 ≤ (-1) * Y + 65535) (c9 : 0 ≤ s) (c10 : 0 ≤ (-1) * s + 900) (c11 : 0 ≤ Y) (c12 : 0 ≤ (-1) * Y + 4294967295) : p_RDX ba qn wo wf wn wc wm ws wi wl xa xb xc xd xe xf xg xh (q + 65536 * Y + 4294967296 * v + 24576) := by
  obtain ⟨st, s1, r1, r2, np, W, pk, cf, w1, w2, w3, w4, w5, w6, w7, of, pn⟩ := p0
  unfold m_pk at pk
  obtain rfl : s1 = s := by omega
  obtain rfl : st = 17 := by omega
  obtain ⟨uA, u0, u1, u2, u3⟩ := p1
  have ev := u3 (by omega)
  have wq := (of (by decide)).1
  have AT := m_st_n (lo := 1) (hi := m_wo W - 1) rfl cf (by decide) (by omega) (by omega) (by omega)
  rw [← u2, ← ev] at AT
  exact ⟨24, qq, r1, qv, np, W, (by unfold m_pk; omega), Or.inl ⟨by decide, AT⟩, w1, w2, w3, w4, w5, w6, w7, fun _ => of (by decide), fun h => absurd h (by unfold m_ps; decide)⟩
theorem k_ny17 {qn : Int} {wo : Int} {wf : Int} {wn : Int} {wc : Int} {wm : Int} {ws : Int} {wi : Int} {wl : Int} {ba : Int → Int} {xa : Int → Int} {xb : Int → Int} {xc : Int → Int} {xd : Int → Int} {xe : Int → Int} {xf : Int → Int} {xg : Int → Int} {xh : Int → Int} (hqn : 0 ≤ qn ∧ qn ≤ 900) (hwo : 2 ≤ wo ∧ wo ≤ 13) (hwf : 1 ≤ wf ∧ wf ≤ 13) (hwn : 0 ≤ wn ∧ wn ≤ 96) (hwc : 0 ≤ wc ∧ wc ≤ 6) (hwm : 0 ≤ wm ∧ wm ≤ 4) (hws : 0 ≤ ws ∧ ws ≤ 6) (hwi : 0 ≤ wi ∧ wi ≤ 8) (hba : ∀ i, -128 ≤ ba i ∧ ba i ≤ 127) (hxe : ∀ i, 0 ≤ xe i ∧ xe i ≤ 12) {F s q kk Y v n H : Int} (p0 : p_RDX ba qn wo wf wn wc wm ws wi wl xa xb xc xd xe xf xg xh (H)) (c0 : 0 ≤ H + (-1) * q + (-65536) * Y + (-4294967296) * v + (-24576)) (c1 : 0 ≤ q + 65536 * Y + 4294967296 * v + (-1) * H + 24576) : p_XW (Y + 65536 * v) := by
  trivial
theorem k_no17a {qn : Int} {qk : Int} {qs : Int} {qq : Int} {qv : Int} {wo : Int} {wf : Int} {wn : Int} {wc : Int} {wm : Int} {ws : Int} {wi : Int} {wl : Int} {ba : Int → Int} {xa : Int → Int} {xb : Int → Int} {xc : Int → Int} {xd : Int → Int} {xe : Int → Int} {xf : Int → Int} {xg : Int → Int} {xh : Int → Int} (hqn : 0 ≤ qn ∧ qn ≤ 900) (hqk : 0 ≤ qk ∧ qk ≤ 4) (hqs : 0 ≤ qs ∧ qs ≤ 900) (hqq : 0 ≤ qq ∧ qq ≤ 900) (hwo : 2 ≤ wo ∧ wo ≤ 13) (hwf : 1 ≤ wf ∧ wf ≤ 13) (hwn : 0 ≤ wn ∧ wn ≤ 96) (hwc : 0 ≤ wc ∧ wc ≤ 6) (hwm : 0 ≤ wm ∧ wm ≤ 4) (hws : 0 ≤ ws ∧ ws ≤ 6) (hwi : 0 ≤ wi ∧ wi ≤ 8) (hba : ∀ i, -128 ≤ ba i ∧ ba i ≤ 127) (hxe : ∀ i, 0 ≤ xe i ∧ xe i ≤ 12) {F s q kk Y v n : Int} (p0 : p_CF ba qn wo wf wn wc wm ws wi wl xa xb xc xd xe xf xg xh (F)) (p1 : p_CU ba qk qs qq qn qv (s)) (p2 : kk = qk) (p3 : q = qq) (p4 : v = qv) (p5 : n = wo) (c0 : 0 ≤ F + (-1) * s + (-65536) * Y + (-17408)) (c1 : 0 ≤ s + 65536 * Y + (-1) * F + 17408) (c2 : 0 ≤ kk + (-3)) (c3 : 0 ≤ (-1) * kk + 3) (c4 : 0 ≤ (-1) * v) (c5 : 0 ≤ s) (c6 : 0 ≤ (-1) * s + 900) (c7 : 0 ≤ Y) (c8 : 0 ≤ (-1) * Y + 4294967295) : p_HF ba qn (8 * s + 4) := by
  obtain ⟨st, s1, r1, r2, np, W, pk, cf, w1, w2, w3, w4, w5, w6, w7, of, pn⟩ := p0
  unfold m_pk at pk
  obtain rfl : s1 = s := by omega
  obtain rfl : st = 17 := by omega
  obtain ⟨uA, u0, u1, u2, u3⟩ := p1
  have ev := u3 (by omega)
  have wq := (of (by decide)).1
  exact ⟨4, s1, by omega, by omega, by omega, m_st_n4 (lo := 1) (hi := m_wo W - 1) rfl cf (by decide) (by omega) (Or.inl (by omega))⟩
theorem k_no17b0 {qn : Int} {qk : Int} {qs : Int} {qq : Int} {qv : Int} {wo : Int} {wf : Int} {wn : Int} {wc : Int} {wm : Int} {ws : Int} {wi : Int} {wl : Int} {ba : Int → Int} {xa : Int → Int} {xb : Int → Int} {xc : Int → Int} {xd : Int → Int} {xe : Int → Int} {xf : Int → Int} {xg : Int → Int} {xh : Int → Int} (hqn : 0 ≤ qn ∧ qn ≤ 900) (hqk : 0 ≤ qk ∧ qk ≤ 4) (hqs : 0 ≤ qs ∧ qs ≤ 900) (hqq : 0 ≤ qq ∧ qq ≤ 900) (hwo : 2 ≤ wo ∧ wo ≤ 13) (hwf : 1 ≤ wf ∧ wf ≤ 13) (hwn : 0 ≤ wn ∧ wn ≤ 96) (hwc : 0 ≤ wc ∧ wc ≤ 6) (hwm : 0 ≤ wm ∧ wm ≤ 4) (hws : 0 ≤ ws ∧ ws ≤ 6) (hwi : 0 ≤ wi ∧ wi ≤ 8) (hba : ∀ i, -128 ≤ ba i ∧ ba i ≤ 127) (hxe : ∀ i, 0 ≤ xe i ∧ xe i ≤ 12) {F s q kk Y v n : Int} (p0 : p_CF ba qn wo wf wn wc wm ws wi wl xa xb xc xd xe xf xg xh (F)) (p1 : p_CU ba qk qs qq qn qv (s)) (p2 : kk = qk) (p3 : q = qq) (p4 : v = qv) (p5 : n = wo) (c0 : 0 ≤ F + (-1) * s + (-65536) * Y + (-17408)) (c1 : 0 ≤ s + 65536 * Y + (-1) * F + 17408) (c2 : 0 ≤ kk + (-3)) (c3 : 0 ≤ (-1) * kk + 3) (c4 : 0 ≤ (-1) * n + v) (c5 : 0 ≤ s) (c6 : 0 ≤ (-1) * s + 900) (c7 : 0 ≤ Y) (c8 : 0 ≤ (-1) * Y + 4294967295) : p_HF ba qn (8 * s + 4) := by
  obtain ⟨st, s1, r1, r2, np, W, pk, cf, w1, w2, w3, w4, w5, w6, w7, of, pn⟩ := p0
  unfold m_pk at pk
  obtain rfl : s1 = s := by omega
  obtain rfl : st = 17 := by omega
  obtain ⟨uA, u0, u1, u2, u3⟩ := p1
  have ev := u3 (by omega)
  have wq := (of (by decide)).1
  exact ⟨4, s1, by omega, by omega, by omega, m_st_n4 (lo := 1) (hi := m_wo W - 1) rfl cf (by decide) (by omega) (Or.inr (by omega))⟩
theorem k_mn17a {qn : Int} {qk : Int} {qs : Int} {qq : Int} {qv : Int} {wo : Int} {wf : Int} {wn : Int} {wc : Int} {wm : Int} {ws : Int} {wi : Int} {wl : Int} {ba : Int → Int} {xa : Int → Int} {xb : Int → Int} {xc : Int → Int} {xd : Int → Int} {xe : Int → Int} {xf : Int → Int} {xg : Int → Int} {xh : Int → Int} (hqn : 0 ≤ qn ∧ qn ≤ 900) (hqk : 0 ≤ qk ∧ qk ≤ 4) (hqs : 0 ≤ qs ∧ qs ≤ 900) (hqq : 0 ≤ qq ∧ qq ≤ 900) (hwo : 2 ≤ wo ∧ wo ≤ 13) (hwf : 1 ≤ wf ∧ wf ≤ 13) (hwn : 0 ≤ wn ∧ wn ≤ 96) (hwc : 0 ≤ wc ∧ wc ≤ 6) (hwm : 0 ≤ wm ∧ wm ≤ 4) (hws : 0 ≤ ws ∧ ws ≤ 6) (hwi : 0 ≤ wi ∧ wi ≤ 8) (hba : ∀ i, -128 ≤ ba i ∧ ba i ≤ 127) (hxe : ∀ i, 0 ≤ xe i ∧ xe i ≤ 12) {F s q kk Y : Int} (p0 : p_CF ba qn wo wf wn wc wm ws wi wl xa xb xc xd xe xf xg xh (F)) (p1 : p_CU ba qk qs qq qn qv (s)) (p2 : kk = qk) (p3 : q = qq) (c0 : 0 ≤ F + (-1) * s + (-65536) * Y + (-17408)) (c1 : 0 ≤ s + 65536 * Y + (-1) * F + 17408) (c2 : 0 ≤ kk + (-1)) (c3 : 0 ≤ (-1) * kk + 1) (c4 : 0 ≤ s) (c5 : 0 ≤ (-1) * s + 900) (c6 : 0 ≤ Y) (c7 : 0 ≤ (-1) * Y + 4294967295) : p_HF ba qn (8 * s + 1) := by
  obtain ⟨st, s1, r1, r2, np, W, pk, cf, w1, w2, w3, w4, w5, w6, w7, of, pn⟩ := p0
  unfold m_pk at pk
  obtain rfl : s1 = s := by omega
  obtain rfl : st = 17 := by omega
  obtain ⟨uA, u0, u1, u2, u3⟩ := p1
  exact ⟨1, s1, by omega, by omega, by omega, m_mp1 (m_st_nn rfl cf (by decide) (by omega)) (by omega)⟩
theorem k_mn17b {qn : Int} {qk : Int} {qs : Int} {qq : Int} {qv : Int} {wo : Int} {wf : Int} {wn : Int} {wc : Int} {wm : Int} {ws : Int} {wi : Int} {wl : Int} {ba : Int → Int} {xa : Int → Int} {xb : Int → Int} {xc : Int → Int} {xd : Int → Int} {xe : Int → Int} {xf : Int → Int} {xg : Int → Int} {xh : Int → Int} (hqn : 0 ≤ qn ∧ qn ≤ 900) (hqk : 0 ≤ qk ∧ qk ≤ 4) (hqs : 0 ≤ qs ∧ qs ≤ 900) (hqq : 0 ≤ qq ∧ qq ≤ 900) (hwo : 2 ≤ wo ∧ wo ≤ 13) (hwf : 1 ≤ wf ∧ wf ≤ 13) (hwn : 0 ≤ wn ∧ wn ≤ 96) (hwc : 0 ≤ wc ∧ wc ≤ 6) (hwm : 0 ≤ wm ∧ wm ≤ 4) (hws : 0 ≤ ws ∧ ws ≤ 6) (hwi : 0 ≤ wi ∧ wi ≤ 8) (hba : ∀ i, -128 ≤ ba i ∧ ba i ≤ 127) (hxe : ∀ i, 0 ≤ xe i ∧ xe i ≤ 12) {F s q kk Y : Int} (p0 : p_CF ba qn wo wf wn wc wm ws wi wl xa xb xc xd xe xf xg xh (F)) (p1 : p_CU ba qk qs qq qn qv (s)) (p2 : kk = qk) (p3 : q = qq) (c0 : 0 ≤ F + (-1) * s + (-65536) * Y + (-17408)) (c1 : 0 ≤ s + 65536 * Y + (-1) * F + 17408) (c2 : 0 ≤ (-1) * kk) (c3 : 0 ≤ s) (c4 : 0 ≤ (-1) * s + 900) (c5 : 0 ≤ Y) (c6 : 0 ≤ (-1) * Y + 4294967295) : p_HF ba qn (8 * s + 2) := by
  obtain ⟨st, s1, r1, r2, np, W, pk, cf, w1, w2, w3, w4, w5, w6, w7, of, pn⟩ := p0
  unfold m_pk at pk
  obtain rfl : s1 = s := by omega
  obtain rfl : st = 17 := by omega
  obtain ⟨uA, u0, u1, u2, u3⟩ := p1
  exact ⟨2, s1, by omega, by omega, by omega, m_mp2 (m_st_nn rfl cf (by decide) (by omega)) (by omega)⟩
theorem k_mn17c {qn : Int} {qk : Int} {qs : Int} {qq : Int} {qv : Int} {wo : Int} {wf : Int} {wn : Int} {wc : Int} {wm : Int} {ws : Int} {wi : Int} {wl : Int} {ba : Int → Int} {xa : Int → Int} {xb : Int → Int} {xc : Int → Int} {xd : Int → Int} {xe : Int → Int} {xf : Int → Int} {xg : Int → Int} {xh : Int → Int} (hqn : 0 ≤ qn ∧ qn ≤ 900) (hqk : 0 ≤ qk ∧ qk ≤ 4) (hqs : 0 ≤ qs ∧ qs ≤ 900) (hqq : 0 ≤ qq ∧ qq ≤ 900) (hwo : 2 ≤ wo ∧ wo ≤ 13) (hwf : 1 ≤ wf ∧ wf ≤ 13) (hwn : 0 ≤ wn ∧ wn ≤ 96) (hwc : 0 ≤ wc ∧ wc ≤ 6) (hwm : 0 ≤ wm ∧ wm ≤ 4) (hws : 0 ≤ ws ∧ ws ≤ 6) (hwi : 0 ≤ wi ∧ wi ≤ 8) (hba : ∀ i, -128 ≤ ba i ∧ ba i ≤ 127) (hxe : ∀ i, 0 ≤ xe i ∧ xe i ≤ 12) {F s q kk Y : Int} (p0 : p_CF ba qn wo wf wn wc wm ws wi wl xa xb xc xd xe xf xg xh (F)) (p1 : p_CU ba qk qs qq qn qv (s)) (p2 : kk = qk) (p3 : q = qq) (c0 : 0 ≤ F + (-1) * s + (-65536) * Y + (-17408)) (c1 : 0 ≤ s + 65536 * Y + (-1) * F + 17408) (c2 : 0 ≤ kk + (-2)) (c3 : 0 ≤ (-1) * kk + 2) (c4 : 0 ≤ s) (c5 : 0 ≤ (-1) * s + 900) (c6 : 0 ≤ Y) (c7 : 0 ≤ (-1) * Y + 4294967295) : p_HF ba qn (8 * s + 2) := by
  obtain ⟨st, s1, r1, r2, np, W, pk, cf, w1, w2, w3, w4, w5, w6, w7, of, pn⟩ := p0
  unfold m_pk at pk
  obtain rfl : s1 = s := by omega
  obtain rfl : st = 17 := by omega
  obtain ⟨uA, u0, u1, u2, u3⟩ := p1
  exact ⟨2, s1, by omega, by omega, by omega, m_mp2 (m_st_nn rfl cf (by decide) (by omega)) (by omega)⟩
theorem k_mn17d {qn : Int} {qk : Int} {qs : Int} {qq : Int} {qv : Int} {wo : Int} {wf : Int} {wn : Int} {wc : Int} {wm : Int} {ws : Int} {wi : Int} {wl : Int} {ba : Int → Int} {xa : Int → Int} {xb : Int → Int} {xc : Int → Int} {xd : Int → Int} {xe : Int → Int} {xf : Int → Int} {xg : Int → Int} {xh : Int → Int} (hqn : 0 ≤ qn ∧ qn ≤ 900) (hqk : 0 ≤ qk ∧ qk ≤ 4) (hqs : 0 ≤ qs ∧ qs ≤ 900) (hqq : 0 ≤ qq ∧ qq ≤ 900) (hwo : 2 ≤ wo ∧ wo ≤ 13) (hwf : 1 ≤ wf ∧ wf ≤ 13) (hwn : 0 ≤ wn ∧ wn ≤ 96) (hwc : 0 ≤ wc ∧ wc ≤ 6) (hwm : 0 ≤ wm ∧ wm ≤ 4) (hws : 0 ≤ ws ∧ ws ≤ 6) (hwi : 0 ≤ wi ∧ wi ≤ 8) (hba : ∀ i, -128 ≤ ba i ∧ ba i ≤ 127) (hxe : ∀ i, 0 ≤ xe i ∧ xe i ≤ 12) {F s q kk Y : Int} (p0 : p_CF ba qn wo wf wn wc wm ws wi wl xa xb xc xd xe xf xg xh (F)) (p1 : p_CU ba qk qs qq qn qv (s)) (p2 : kk = qk) (p3 : q = qq) (c0 : 0 ≤ F + (-1) * s + (-65536) * Y + (-17408)) (c1 : 0 ≤ s + 65536 * Y + (-1) * F + 17408) (c2 : 0 ≤ kk + (-4)) (c3 : 0 ≤ s) (c4 : 0 ≤ (-1) * s + 900) (c5 : 0 ≤ Y) (c6 : 0 ≤ (-1) * Y + 4294967295) : p_HF ba qn (8 * s + 2) := by
  obtain ⟨st, s1, r1, r2, np, W, pk, cf, w1, w2, w3, w4, w5, w6, w7, of, pn⟩ := p0
  unfold m_pk at pk
  obtain rfl : s1 = s := by omega
  obtain rfl : st = 17 := by omega
  obtain ⟨uA, u0, u1, u2, u3⟩ := p1
  exact ⟨2, s1, by omega, by omega, by omega, m_mp2 (m_st_nn rfl cf (by decide) (by omega)) (by omega)⟩
theorem k_nu18 {qn : Int} {qk : Int} {qs : Int} {qq : Int} {qv : Int} {wo : Int} {wf : Int} {wn : Int} {wc : Int} {wm : Int} {ws : Int} {wi : Int} {wl : Int} {ba : Int → Int} {xa : Int → Int} {xb : Int → Int} {xc : Int → Int} {xd : Int → Int} {xe : Int → Int} {xf : Int → Int} {xg : Int → Int} {xh : Int → Int} (hqn : 0 ≤ qn ∧ qn ≤ 900) (hqk : 0 ≤ qk ∧ qk ≤ 4) (hqs : 0 ≤ qs ∧ qs ≤ 900) (hqq : 0 ≤ qq ∧ qq ≤ 900) (hwo : 2 ≤ wo ∧ wo ≤ 13) (hwf : 1 ≤ wf ∧ wf ≤ 13) (hwn : 0 ≤ wn ∧ wn ≤ 96) (hwc : 0 ≤ wc ∧ wc ≤ 6) (hwm : 0 ≤ wm ∧ wm ≤ 4) (hws : 0 ≤ ws ∧ ws ≤ 6) (hwi : 0 ≤ wi ∧ wi ≤ 8) (hba : ∀ i, -128 ≤ ba i ∧ ba i ≤ 127) (hxe : ∀ i, 0 ≤ xe i ∧ xe i ≤ 12) {F s q kk Y v n : Int} (p0 : p_CF ba qn wo wf wn wc wm ws wi wl xa xb xc xd xe xf xg xh (F)) (p1 : p_CU ba qk qs qq qn qv (s)) (p2 : kk = qk) (p3 : q = qq) (p4 : v = qv) (p5 : n = wn) (c0 : 0 ≤ F + (-1) * s + (-65536) * Y + (-18432)) (c1 : 0 ≤ s + 65536 * Y + (-1) * F + 18432) (c2 : 0 ≤ kk + (-3)) (c3 : 0 ≤ (-1) * kk + 3) (c4 : 0 ≤ v) (c5 : 0 ≤ n + (-1) * v + (-1)) (c6 : 0 ≤ q) (c7 : 0 ≤ (-1) * q + 1023) (c8 : 0 ≤ s) (c9 : 0 ≤ (-1) * s + 900) (c10 : 0 ≤ Y) (c11 : 0 ≤ (-1) * Y + 4294967295) : p_RDX ba qn wo wf wn wc wm ws wi wl xa xb xc xd xe xf xg xh (q + 65536 * v + 4294967296 * s + 22528) := by
  obtain ⟨st, s1, r1, r2, np, W, pk, cf, w1, w2, w3, w4, w5, w6, w7, of, pn⟩ := p0
  unfold m_pk at pk
  obtain rfl : s1 = s := by omega
  obtain rfl : st = 18 := by omega
  obtain ⟨uA, u0, u1, u2, u3⟩ := p1
  have ev := u3 (by omega)
  have wq := w1.1
  have AT := m_st_n (lo := 0) (hi := m_tot (m_wcs W) - 1) rfl cf (by decide) (by omega) (by omega) (by omega)
  rw [← u2, ← ev] at AT
  exact ⟨22, qq, qv, s1, np, W, (by unfold m_pk; omega), Or.inl ⟨by decide, AT⟩, w1, w2, w3, w4, w5, w6, w7, fun _ => of (by decide), fun h => absurd h (by unfold m_ps; decide)⟩
theorem k_ny18 {qn : Int} {wo : Int} {wf : Int} {wn : Int} {wc : Int} {wm : Int} {ws : Int} {wi : Int} {wl : Int} {ba : Int → Int} {xa : Int → Int} {xb : Int → Int} {xc : Int → Int} {xd : Int → Int} {xe : Int → Int} {xf : Int → Int} {xg : Int → Int} {xh : Int → Int} (hqn : 0 ≤ qn ∧ qn ≤ 900) (hwo : 2 ≤ wo ∧ wo ≤ 13) (hwf : 1 ≤ wf ∧ wf ≤ 13) (hwn : 0 ≤ wn ∧ wn ≤ 96) (hwc : 0 ≤ wc ∧ wc ≤ 6) (hwm : 0 ≤ wm ∧ wm ≤ 4) (hws : 0 ≤ ws ∧ ws ≤ 6) (hwi : 0 ≤ wi ∧ wi ≤ 8) (hba : ∀ i, -128 ≤ ba i ∧ ba i ≤ 127) (hxe : ∀ i, 0 ≤ xe i ∧ xe i ≤ 12) {F s q kk Y v n H : Int} (p0 : p_RDX ba qn wo wf wn wc wm ws wi wl xa xb xc xd xe xf xg xh (H)) (c0 : 0 ≤ H + (-1) * q + (-65536) * v + (-4294967296) * s + (-22528)) (c1 : 0 ≤ q + 65536 * v + 4294967296 * s + (-1) * H + 22528) : p_XW (v + 65536 * s) := by
  trivial
theorem k_no18a {qn : Int} {qk : Int} {qs : Int} {qq : Int} {qv : Int} {wo : Int} {wf : Int} {wn : Int} {wc : Int} {wm : Int} {ws : Int} {wi : Int} {wl : Int} {ba : Int → Int} {xa : Int → Int} {xb : Int → Int} {xc : Int → Int} {xd : Int → Int} {xe : Int → Int} {xf : Int → Int} {xg : Int → Int} {xh : Int → Int} (hqn : 0 ≤ qn ∧ qn ≤ 900) (hqk : 0 ≤ qk ∧ qk ≤ 4) (hqs : 0 ≤ qs ∧ qs ≤ 900) (hqq : 0 ≤ qq ∧ qq ≤ 900) (hwo : 2 ≤ wo ∧ wo ≤ 13) (hwf : 1 ≤ wf ∧ wf ≤ 13) (hwn : 0 ≤ wn ∧ wn ≤ 96) (hwc : 0 ≤ wc ∧ wc ≤ 6) (hwm : 0 ≤ wm ∧ wm ≤ 4) (hws : 0 ≤ ws ∧ ws ≤ 6) (hwi : 0 ≤ wi ∧ wi ≤ 8) (hba : ∀ i, -128 ≤ ba i ∧ ba i ≤ 127) (hxe : ∀ i, 0 ≤ xe i ∧ xe i ≤ 12) {F s q kk Y v n : Int} (p0 : p_CF ba qn wo wf wn wc wm ws wi wl xa xb xc xd xe xf xg xh (F)) (p1 : p_CU ba qk qs qq qn qv (s)) (p2 : kk = qk) (p3 : q = qq) (p4 : v = qv) (p5 : n = wn) (c0 : 0 ≤ F + (-1) * s + (-65536) * Y + (-18432)) (c1 : 0 ≤ s + 65536 * Y + (-1) * F + 18432) (c2 : 0 ≤ kk + (-3)) (c3 : 0 ≤ (-1) * kk + 3) (c4 : 0 ≤ (-1) * v + (-1)) (c5 : 0 ≤ s) (c6 : 0 ≤ (-1) * s + 900) (c7 : 0 ≤ Y) (c8 : 0 ≤ (-1) * Y + 4294967295) : p_HF ba qn (8 * s + 4) := by
  obtain ⟨st, s1, r1, r2, np, W, pk, cf, w1, w2, w3, w4, w5, w6, w7, of, pn⟩ := p0
  unfold m_pk at pk
  obtain rfl : s1 = s := by omega
  obtain rfl : st = 18 := by omega
  obtain ⟨uA, u0, u1, u2, u3⟩ := p1
  have ev := u3 (by omega)
  have wq := w1.1
  exact ⟨4, s1, by omega, by omega, by omega, m_st_n4 (lo := 0) (hi := m_tot (m_wcs W) - 1) rfl cf (by decide) (by omega) (Or.inl (by omega))⟩
theorem k_no18b0 {qn : Int} {qk : Int} {qs : Int} {qq : Int} {qv : Int} {wo : Int} {wf : Int} {wn : Int} {wc : Int} {wm : Int} {ws : Int} {wi : Int} {wl : Int} {ba : Int → Int} {xa : Int → Int} {xb : Int → Int} {xc : Int → Int} {xd : Int → Int} {xe : Int → Int} {xf : Int → Int} {xg : Int → Int} {xh : Int → Int} (hqn : 0 ≤ qn ∧ qn ≤ 900) (hqk : 0 ≤ qk ∧ qk ≤ 4) (hqs : 0 ≤ qs ∧ qs ≤ 900) (hqq : 0 ≤ qq ∧ qq ≤ 900) (hwo : 2 ≤ wo ∧ wo ≤ 13) (hwf : 1 ≤ wf ∧ wf ≤ 13) (hwn : 0 ≤ wn ∧ wn ≤ 96) (hwc : 0 ≤ wc ∧ wc ≤ 6) (hwm : 0 ≤ wm ∧ wm ≤ 4) (hws : 0 ≤ ws ∧ ws ≤ 6) (hwi : 0 ≤ wi ∧ wi ≤ 8) (hba : ∀ i, -128 ≤ ba i ∧ ba i ≤ 127) (hxe : ∀ i, 0 ≤ xe i ∧ xe i ≤ 12) {F s q kk Y v n : Int} (p0 : p_CF ba qn wo wf wn wc wm ws wi wl xa xb xc xd xe xf xg xh (F)) (p1 : p_CU ba qk qs qq qn qv (s)) (p2 : kk = qk) (p3 : q = qq) (p4 : v = qv) (p5 : n = wn) (c0 : 0 ≤ F + (-1) * s + (-65536) * Y + (-18432)) (c1 : 0 ≤ s + 65536 * Y + (-1) * F + 18432) (c2 : 0 ≤ kk + (-3)) (c3 : 0 ≤ (-1) * kk + 3) (c4 : 0 ≤ (-1) * n + v) (c5 : 0 ≤ s) (c6 : 0 ≤ (-1) * s + 900) (c7 : 0 ≤ Y) (c8 : 0 ≤ (-1) * Y + 4294967295) : p_HF ba qn (8 * s + 4) := by
  obtain ⟨st, s1, r1, r2, np, W, pk, cf, w1, w2, w3, w4, w5, w6, w7, of, pn⟩ := p0
  unfold m_pk at pk
  obtain rfl : s1 = s := by omega
  obtain rfl : st = 18 := by omega
  obtain ⟨uA, u0, u1, u2, u3⟩ := p1
  have ev := u3 (by omega)
  have wq := w1.1
  exact ⟨4, s1, by omega, by omega, by omega, m_st_n4 (lo := 0) (hi := m_tot (m_wcs W) - 1) rfl cf (by decide) (by omega) (Or.inr (by omega))⟩
theorem k_mn18a {qn : Int} {qk : Int} {qs : Int} {qq : Int} {qv : Int} {wo : Int} {wf : Int} {wn : Int} {wc : Int} {wm : Int} {ws : Int} {wi : Int} {wl : Int} {ba : Int → Int} {xa : Int → Int} {xb : Int → Int} {xc : Int → Int} {xd : Int → Int} {xe : Int → Int} {xf : Int → Int} {xg : Int → Int} {xh : Int → Int} (hqn : 0 ≤ qn ∧ qn ≤ 900) (hqk : 0 ≤ qk ∧ qk ≤ 4) (hqs : 0 ≤ qs ∧ qs ≤ 900) (hqq : 0 ≤ qq ∧ qq ≤ 900) (hwo : 2 ≤ wo ∧ wo ≤ 13) (hwf : 1 ≤ wf ∧ wf ≤ 13) (hwn : 0 ≤ wn ∧ wn ≤ 96) (hwc : 0 ≤ wc ∧ wc ≤ 6) (hwm : 0 ≤ wm ∧ wm ≤ 4) (hws : 0 ≤ ws ∧ ws ≤ 6) (hwi : 0 ≤ wi ∧ wi ≤ 8) (hba : ∀ i, -128 ≤ ba i ∧ ba i ≤ 127) (hxe : ∀ i, 0 ≤ xe i ∧ xe i ≤ 12) {F s q kk Y : Int} (p0 : p_CF ba qn wo wf wn wc wm ws wi wl xa xb xc xd xe xf xg xh (F)) (p1 : p_CU ba qk qs qq qn qv (s)) (p2 : kk = qk) (p3 : q = qq) (c0 : 0 ≤ F + (-1) * s + (-65536) * Y + (-18432)) (c1 : 0 ≤ s + 65536 * Y + (-1) * F + 18432) (c2 : 0 ≤ kk + (-1)) (c3 : 0 ≤ (-1) * kk + 1) (c4 : 0 ≤ s) (c5 : 0 ≤ (-1) * s + 900) (c6 : 0 ≤ Y) (c7 : 0 ≤ (-1) * Y + 4294967295) : p_HF ba qn (8 * s + 1) := by
  obtain ⟨st, s1, r1, r2, np, W, pk, cf, w1, w2, w3, w4, w5, w6, w7, of, pn⟩ := p0
  unfold m_pk at pk
  obtain rfl : s1 = s := by omega
  obtain rfl : st = 18 := by omega
  obtain ⟨uA, u0, u1, u2, u3⟩ := p1
  exact ⟨1, s1, by omega, by omega, by omega, m_mp1 (m_st_nn rfl cf (by decide) (by omega)) (by omega)⟩
theorem k_mn18b {qn : Int} {qk : Int} {qs : Int} {qq : Int} {qv : Int} {wo : Int} {wf : Int} {wn : Int} {wc : Int} {wm : Int} {ws : Int} {wi : Int} {wl : Int} {ba : Int → Int} {xa : Int → Int} {xb : Int → Int} {xc : Int → Int} {xd : Int → Int} {xe : Int → Int} {xf : Int → Int} {xg : Int → Int} {xh : Int → Int} (hqn : 0 ≤ qn ∧ qn ≤ 900) (hqk : 0 ≤ qk ∧ qk ≤ 4) (hqs : 0 ≤ qs ∧ qs ≤ 900) (hqq : 0 ≤ qq ∧ qq ≤ 900) (hwo : 2 ≤ wo ∧ wo ≤ 13) (hwf : 1 ≤ wf ∧ wf ≤ 13) (hwn : 0 ≤ wn ∧ wn ≤ 96) (hwc : 0 ≤ wc ∧ wc ≤ 6) (hwm : 0 ≤ wm ∧ wm ≤ 4) (hws : 0 ≤ ws ∧ ws ≤ 6) (hwi : 0 ≤ wi ∧ wi ≤ 8) (hba : ∀ i, -128 ≤ ba i ∧ ba i ≤ 127) (hxe : ∀ i, 0 ≤ xe i ∧ xe i ≤ 12) {F s q kk Y : Int} (p0 : p_CF ba qn wo wf wn wc wm ws wi wl xa xb xc xd xe xf xg xh (F)) (p1 : p_CU ba qk qs qq qn qv (s)) (p2 : kk = qk) (p3 : q = qq) (c0 : 0 ≤ F + (-1) * s + (-65536) * Y + (-18432)) (c1 : 0 ≤ s + 65536 * Y + (-1) * F + 18432) (c2 : 0 ≤ (-1) * kk) (c3 : 0 ≤ s) (c4 : 0 ≤ (-1) * s + 900) (c5 : 0 ≤ Y) (c6 : 0 ≤ (-1) * Y + 4294967295) : p_HF ba qn (8 * s + 2) := by
  obtain ⟨st, s1, r1, r2, np, W, pk, cf, w1, w2, w3, w4, w5, w6, w7, of, pn⟩ := p0
  unfold m_pk at pk
  obtain rfl : s1 = s := by omega
  obtain rfl : st = 18 := by omega
  obtain ⟨uA, u0, u1, u2, u3⟩ := p1
  exact ⟨2, s1, by omega, by omega, by omega, m_mp2 (m_st_nn rfl cf (by decide) (by omega)) (by omega)⟩
theorem k_mn18c {qn : Int} {qk : Int} {qs : Int} {qq : Int} {qv : Int} {wo : Int} {wf : Int} {wn : Int} {wc : Int} {wm : Int} {ws : Int} {wi : Int} {wl : Int} {ba : Int → Int} {xa : Int → Int} {xb : Int → Int} {xc : Int → Int} {xd : Int → Int} {xe : Int → Int} {xf : Int → Int} {xg : Int → Int} {xh : Int → Int} (hqn : 0 ≤ qn ∧ qn ≤ 900) (hqk : 0 ≤ qk ∧ qk ≤ 4) (hqs : 0 ≤ qs ∧ qs ≤ 900) (hqq : 0 ≤ qq ∧ qq ≤ 900) (hwo : 2 ≤ wo ∧ wo ≤ 13) (hwf : 1 ≤ wf ∧ wf ≤ 13) (hwn : 0 ≤ wn ∧ wn ≤ 96) (hwc : 0 ≤ wc ∧ wc ≤ 6) (hwm : 0 ≤ wm ∧ wm ≤ 4) (hws : 0 ≤ ws ∧ ws ≤ 6) (hwi : 0 ≤ wi ∧ wi ≤ 8) (hba : ∀ i, -128 ≤ ba i ∧ ba i ≤ 127) (hxe : ∀ i, 0 ≤ xe i ∧ xe i ≤ 12) {F s q kk Y : Int} (p0 : p_CF ba qn wo wf wn wc wm ws wi wl xa xb xc xd xe xf xg xh (F)) (p1 : p_CU ba qk qs qq qn qv (s)) (p2 : kk = qk) (p3 : q = qq) (c0 : 0 ≤ F + (-1) * s + (-65536) * Y + (-18432)) (c1 : 0 ≤ s + 65536 * Y + (-1) * F + 18432) (c2 : 0 ≤ kk + (-2)) (c3 : 0 ≤ (-1) * kk + 2) (c4 : 0 ≤ s) (c5 : 0 ≤ (-1) * s + 900) (c6 : 0 ≤ Y) (c7 : 0 ≤ (-1) * Y + 4294967295) : p_HF ba qn (8 * s + 2) := by
  obtain ⟨st, s1, r1, r2, np, W, pk, cf, w1, w2, w3, w4, w5, w6, w7, of, pn⟩ := p0
  unfold m_pk at pk
  obtain rfl : s1 = s := by omega
  obtain rfl : st = 18 := by omega
  obtain ⟨uA, u0, u1, u2, u3⟩ := p1
  exact ⟨2, s1, by omega, by omega, by omega, m_mp2 (m_st_nn rfl cf (by decide) (by omega)) (by omega)⟩
theorem k_mn18d {qn : Int} {qk : Int} {qs : Int} {qq : Int} {qv : Int} {wo : Int} {wf : Int} {wn : Int} {wc : Int} {wm : Int} {ws : Int} {wi : Int} {wl : Int} {ba : Int → Int} {xa : Int → Int} {xb : Int → Int} {xc : Int → Int} {xd : Int → Int} {xe : Int → Int} {xf : Int → Int} {xg : Int → Int} {xh : Int → Int} (hqn : 0 ≤ qn ∧ qn ≤ 900) (hqk : 0 ≤ qk ∧ qk ≤ 4) (hqs : 0 ≤ qs ∧ qs ≤ 900) (hqq : 0 ≤ qq ∧ qq ≤ 900) (hwo : 2 ≤ wo ∧ wo ≤ 13) (hwf : 1 ≤ wf ∧ wf ≤ 13) (hwn : 0 ≤ wn ∧ wn ≤ 96) (hwc : 0 ≤ wc ∧ wc ≤ 6) (hwm : 0 ≤ wm ∧ wm ≤ 4) (hws : 0 ≤ ws ∧ ws ≤ 6) (hwi : 0 ≤ wi ∧ wi ≤ 8) (hba : ∀ i, -128 ≤ ba i ∧ ba i ≤ 127) (hxe : ∀ i, 0 ≤ xe i ∧ xe i ≤ 12) {F s q kk Y : Int} (p0 : p_CF ba qn wo wf wn wc wm ws wi wl xa xb xc xd xe xf xg xh (F)) (p1 : p_CU ba qk qs qq qn qv (s)) (p2 : kk = qk) (p3 : q = qq) (c0 : 0 ≤ F + (-1) * s + (-65536) * Y + (-18432)) (c1 : 0 ≤ s + 65536 * Y + (-1) * F + 18432) (c2 : 0 ≤ kk + (-4)) (c3 : 0 ≤ s) (c4 : 0 ≤ (-1) * s + 900) (c5 : 0 ≤ Y) (c6 : 0 ≤ (-1) * Y + 4294967295) : p_HF ba qn (8 * s + 2) := by
  obtain ⟨st, s1, r1, r2, np, W, pk, cf, w1, w2, w3, w4, w5, w6, w7, of, pn⟩ := p0
  unfold m_pk at pk
  obtain rfl : s1 = s := by omega
  obtain rfl : st = 18 := by omega
  obtain ⟨uA, u0, u1, u2, u3⟩ := p1
  exact ⟨2, s1, by omega, by omega, by omega, m_mp2 (m_st_nn rfl cf (by decide) (by omega)) (by omega)⟩
theorem k_nu20 {qn : Int} {qk : Int} {qs : Int} {qq : Int} {qv : Int} {wo : Int} {wf : Int} {wn : Int} {wc : Int} {wm : Int} {ws : Int} {wi : Int} {wl : Int} {ba : Int → Int} {xa : Int → Int} {xb : Int → Int} {xc : Int → Int} {xd : Int → Int} {xe : Int → Int} {xf : Int → Int} {xg : Int → Int} {xh : Int → Int} (hqn : 0 ≤ qn ∧ qn ≤ 900) (hqk : 0 ≤ qk ∧ qk ≤ 4) (hqs : 0 ≤ qs ∧ qs ≤ 900) (hqq : 0 ≤ qq ∧ qq ≤ 900) (hwo : 2 ≤ wo ∧ wo ≤ 13) (hwf : 1 ≤ wf ∧ wf ≤ 13) (hwn : 0 ≤ wn ∧ wn ≤ 96) (hwc : 0 ≤ wc ∧ wc ≤ 6) (hwm : 0 ≤ wm ∧ wm ≤ 4) (hws : 0 ≤ ws ∧ ws ≤ 6) (hwi : 0 ≤ wi ∧ wi ≤ 8) (hba : ∀ i, -128 ≤ ba i ∧ ba i ≤ 127) (hxe : ∀ i, 0 ≤ xe i ∧ xe i ≤ 12) {F s q kk Y v : Int} (p0 : p_CF ba qn wo wf wn wc wm ws wi wl xa xb xc xd xe xf xg xh (F)) (p1 : p_CU ba qk qs qq qn qv (s)) (p2 : kk = qk) (p3 : q = qq) (p4 : v = qv) (c0 : 0 ≤ F + (-1) * s + (-65536) * Y + (-20480)) (c1 : 0 ≤ s + 65536 * Y + (-1) * F + 20480) (c2 : 0 ≤ kk + (-3)) (c3 : 0 ≤ (-1) * kk + 3) (c4 : 0 ≤ v) (c5 : 0 ≤ (-1) * v + 9999) (c6 : 0 ≤ q) (c7 : 0 ≤ (-1) * q + 1023) (c8 : 0 ≤ (-1) * Y + 65535) (c9 : 0 ≤ s) (c10 : 0 ≤ (-1) * s + 900) (c11 : 0 ≤ Y) (c12 : 0 ≤ (-1) * Y + 4294967295) : p_RDX ba qn wo wf wn wc wm ws wi wl xa xb xc xd xe xf xg xh (q + 65536 * Y + 4294967296 * v + 25600) := by
  obtain ⟨st, s1, r1, r2, np, W, pk, cf, w1, w2, w3, w4, w5, w6, w7, of, pn⟩ := p0
  unfold m_pk at pk
  obtain rfl : s1 = s := by omega
  obtain rfl : st = 20 := by omega
  obtain ⟨uA, u0, u1, u2, u3⟩ := p1
  have ev := u3 (by omega)
  have AT := m_st_n (lo := 0) (hi := 9999) rfl cf (by decide) (by omega) (by omega) (by omega)
  rw [← u2, ← ev] at AT
  exact ⟨25, qq, r1, qv, np, W, (by unfold m_pk; omega), Or.inl ⟨by decide, AT⟩, w1, w2, w3, w4, w5, w6, w7, fun _ => of (by decide), fun h => absurd h (by unfold m_ps; decide)⟩
theorem k_ny20 {qn : Int} {wo : Int} {wf : Int} {wn : Int} {wc : Int} {wm : Int} {ws : Int} {wi : Int} {wl : Int} {ba : Int → Int} {xa : Int → Int} {xb : Int → Int} {xc : Int → Int} {xd : Int → Int} {xe : Int → Int} {xf : Int → Int} {xg : Int → Int} {xh : Int → Int} (hqn : 0 ≤ qn ∧ qn ≤ 900) (hwo : 2 ≤ wo ∧ wo ≤ 13) (hwf : 1 ≤ wf ∧ wf ≤ 13) (hwn : 0 ≤ wn ∧ wn ≤ 96) (hwc : 0 ≤ wc ∧ wc ≤ 6) (hwm : 0 ≤ wm ∧ wm ≤ 4) (hws : 0 ≤ ws ∧ ws ≤ 6) (hwi : 0 ≤ wi ∧ wi ≤ 8) (hba : ∀ i, -128 ≤ ba i ∧ ba i ≤ 127) (hxe : ∀ i, 0 ≤ xe i ∧ xe i ≤ 12) {F s q kk Y v H : Int} (p0 : p_RDX ba qn wo wf wn wc wm ws wi wl xa xb xc xd xe xf xg xh (H)) (c0 : 0 ≤ H + (-1) * q + (-65536) * Y + (-4294967296) * v + (-25600)) (c1 : 0 ≤ q + 65536 * Y + 4294967296 * v + (-1) * H + 25600) : p_XW (Y + 65536 * v) := by
  trivial
theorem k_no20a {qn : Int} {qk : Int} {qs : Int} {qq : Int} {qv : Int} {wo : Int} {wf : Int} {wn : Int} {wc : Int} {wm : Int} {ws : Int} {wi : Int} {wl : Int} {ba : Int → Int} {xa : Int → Int} {xb : Int → Int} {xc : Int → Int} {xd : Int → Int} {xe : Int → Int} {xf : Int → Int} {xg : Int → Int} {xh : Int → Int} (hqn : 0 ≤ qn ∧ qn ≤ 900) (hqk : 0 ≤ qk ∧ qk ≤ 4) (hqs : 0 ≤ qs ∧ qs ≤ 900) (hqq : 0 ≤ qq ∧ qq ≤ 900) (hwo : 2 ≤ wo ∧ wo ≤ 13) (hwf : 1 ≤ wf ∧ wf ≤ 13) (hwn : 0 ≤ wn ∧ wn ≤ 96) (hwc : 0 ≤ wc ∧ wc ≤ 6) (hwm : 0 ≤ wm ∧ wm ≤ 4) (hws : 0 ≤ ws ∧ ws ≤ 6) (hwi : 0 ≤ wi ∧ wi ≤ 8) (hba : ∀ i, -128 ≤ ba i ∧ ba i ≤ 127) (hxe : ∀ i, 0 ≤ xe i ∧ xe i ≤ 12) {F s q kk Y v : Int} (p0 : p_CF ba qn wo wf wn wc wm ws wi wl xa xb xc xd xe xf xg xh (F)) (p1 : p_CU ba qk qs qq qn qv (s)) (p2 : kk = qk) (p3 : q = qq) (p4 : v = qv) (c0 : 0 ≤ F + (-1) * s + (-65536) * Y + (-20480)) (c1 : 0 ≤ s + 65536 * Y + (-1) * F + 20480) (c2 : 0 ≤ kk + (-3)) (c3 : 0 ≤ (-1) * kk + 3) (c4 : 0 ≤ (-1) * v + (-1)) (c5 : 0 ≤ s) (c6 : 0 ≤ (-1) * s + 900) (c7 : 0 ≤ Y) (c8 : 0 ≤ (-1) * Y + 4294967295) : p_HF ba qn (8 * s + 4) := by
  obtain ⟨st, s1, r1, r2, np, W, pk, cf, w1, w2, w3, w4, w5, w6, w7, of, pn⟩ := p0
  unfold m_pk at pk
  obtain rfl : s1 = s := by omega
  obtain rfl : st = 20 := by omega
  obtain ⟨uA, u0, u1, u2, u3⟩ := p1
  have ev := u3 (by omega)
  exact ⟨4, s1, by omega, by omega, by omega, m_st_n4 (lo := 0) (hi := 9999) rfl cf (by decide) (by omega) (Or.inl (by omega))⟩
theorem k_no20b0 {qn : Int} {qk : Int} {qs : Int} {qq : Int} {qv : Int} {wo : Int} {wf : Int} {wn : Int} {wc : Int} {wm : Int} {ws : Int} {wi : Int} {wl : Int} {ba : Int → Int} {xa : Int → Int} {xb : Int → Int} {xc : Int → Int} {xd : Int → Int} {xe : Int → Int} {xf : Int → Int} {xg : Int → Int} {xh : Int → Int} (hqn : 0 ≤ qn ∧ qn ≤ 900) (hqk : 0 ≤ qk ∧ qk ≤ 4) (hqs : 0 ≤ qs ∧ qs ≤ 900) (hqq : 0 ≤ qq ∧ qq ≤ 900) (hwo : 2 ≤ wo ∧ wo ≤ 13) (hwf : 1 ≤ wf ∧ wf ≤ 13) (hwn : 0 ≤ wn ∧ wn ≤ 96) (hwc : 0 ≤ wc ∧ wc ≤ 6) (hwm : 0 ≤ wm ∧ wm ≤ 4) (hws : 0 ≤ ws ∧ ws ≤ 6) (hwi : 0 ≤ wi ∧ wi ≤ 8) (hba : ∀ i, -128 ≤ ba i ∧ ba i ≤ 127) (hxe : ∀ i, 0 ≤ xe i ∧ xe i ≤ 12) {F s q kk Y v : Int} (p0 : p_CF ba qn wo wf wn wc wm ws wi wl xa xb xc xd xe xf xg xh (F)) (p1 : p_CU ba qk qs qq qn qv (s)) (p2 : kk = qk) (p3 : q = qq) (p4 : v = qv) (c0 : 0 ≤ F + (-1) * s + (-65536) * Y + (-20480)) (c1 : 0 ≤ s + 65536 * Y + (-1) * F + 20480) (c2 : 0 ≤ kk + (-3)) (c3 : 0 ≤ (-1) * kk + 3) (c4 : 0 ≤ v + (-10000)) (c5 : 0 ≤ s) (c6 : 0 ≤ (-1) * s + 900) (c7 : 0 ≤ Y) (c8 : 0 ≤ (-1) * Y + 4294967295) : p_HF ba qn (8 * s + 4) := by
  obtain ⟨st, s1, r1, r2, np, W, pk, cf, w1, w2, w3, w4, w5, w6, w7, of, pn⟩ := p0
  unfold m_pk at pk
  obtain rfl : s1 = s := by omega
  obtain rfl : st = 20 := by omega
  obtain ⟨uA, u0, u1, u2, u3⟩ := p1
  have ev := u3 (by omega)
  exact ⟨4, s1, by omega, by omega, by omega, m_st_n4 (lo := 0) (hi := 9999) rfl cf (by decide) (by omega) (Or.inr (by omega))⟩
theorem k_mn20a {qn : Int} {qk : Int} {qs : Int} {qq : Int} {qv : Int} {wo : Int} {wf : Int} {wn : Int} {wc : Int} {wm : Int} {ws : Int} {wi : Int} {wl : Int} {ba : Int → Int} {xa : Int → Int} {xb : Int → Int} {xc : Int → Int} {xd : Int → Int} {xe : Int → Int} {xf : Int → Int} {xg : Int → Int} {xh : Int → Int} (hqn : 0 ≤ qn ∧ qn ≤ 900) (hqk : 0 ≤ qk ∧ qk ≤ 4) (hqs : 0 ≤ qs ∧ qs ≤ 900) (hqq : 0 ≤ qq ∧ qq ≤ 900) (hwo : 2 ≤ wo ∧ wo ≤ 13) (hwf : 1 ≤ wf ∧ wf ≤ 13) (hwn : 0 ≤ wn ∧ wn ≤ 96) (hwc : 0 ≤ wc ∧ wc ≤ 6) (hwm : 0 ≤ wm ∧ wm ≤ 4) (hws : 0 ≤ ws ∧ ws ≤ 6) (hwi : 0 ≤ wi ∧ wi ≤ 8) (hba : ∀ i, -128 ≤ ba i ∧ ba i ≤ 127) (hxe : ∀ i, 0 ≤ xe i ∧ xe i ≤ 12) {F s q kk Y : Int} (p0 : p_CF ba qn wo wf wn wc wm ws wi wl xa xb xc xd xe xf xg xh (F)) (p1 : p_CU ba qk qs qq qn qv (s)) (p2 : kk = qk) (p3 : q = qq) (c0 : 0 ≤ F + (-1) * s + (-65536) * Y + (-20480)) (c1 : 0 ≤ s + 65536 * Y + (-1) * F + 20480) (c2 : 0 ≤ kk + (-1)) (c3 : 0 ≤ (-1) * kk + 1) (c4 : 0 ≤ s) (c5 : 0 ≤ (-1) * s + 900) (c6 : 0 ≤ Y) (c7 : 0 ≤ (-1) * Y + 4294967295) : p_HF ba qn (8 * s + 1) := by
  obtain ⟨st, s1, r1, r2, np, W, pk, cf, w1, w2, w3, w4, w5, w6, w7, of, pn⟩ := p0
  unfold m_pk at pk
  obtain rfl : s1 = s := by omega
  obtain rfl : st = 20 := by omega
  obtain ⟨uA, u0, u1, u2, u3⟩ := p1
  exact ⟨1, s1, by omega, by omega, by omega, m_mp1 (m_st_nn rfl cf (by decide) (by omega)) (by omega)⟩
theorem k_mn20b {qn : Int} {qk : Int} {qs : Int} {qq : Int} {qv : Int} {wo : Int} {wf : Int} {wn : Int} {wc : Int} {wm : Int} {ws : Int} {wi : Int} {wl : Int} {ba : Int → Int} {xa : Int → Int} {xb : Int → Int} {xc : Int → Int} {xd : Int → Int} {xe : Int → Int} {xf : Int → Int} {xg : Int → Int} {xh : Int → Int} (hqn : 0 ≤ qn ∧ qn ≤ 900) (hqk : 0 ≤ qk ∧ qk ≤ 4) (hqs : 0 ≤ qs ∧ qs ≤ 900) (hqq : 0 ≤ qq ∧ qq ≤ 900) (hwo : 2 ≤ wo ∧ wo ≤ 13) (hwf : 1 ≤ wf ∧ wf ≤ 13) (hwn : 0 ≤ wn ∧ wn ≤ 96) (hwc : 0 ≤ wc ∧ wc ≤ 6) (hwm : 0 ≤ wm ∧ wm ≤ 4) (hws : 0 ≤ ws ∧ ws ≤ 6) (hwi : 0 ≤ wi ∧ wi ≤ 8) (hba : ∀ i, -128 ≤ ba i ∧ ba i ≤ 127) (hxe : ∀ i, 0 ≤ xe i ∧ xe i ≤ 12) {F s q kk Y : Int} (p0 : p_CF ba qn wo wf wn wc wm ws wi wl xa xb xc xd xe xf xg xh (F)) (p1 : p_CU ba qk qs qq qn qv (s)) (p2 : kk = qk) (p3 : q = qq) (c0 : 0 ≤ F + (-1) * s + (-65536) * Y + (-20480)) (c1 : 0 ≤ s + 65536 * Y + (-1) * F + 20480) (c2 : 0 ≤ (-1) * kk) (c3 : 0 ≤ s) (c4 : 0 ≤ (-1) * s + 900) (c5 : 0 ≤ Y) (c6 : 0 ≤ (-1) * Y + 4294967295) : p_HF ba qn (8 * s + 2) := by
  obtain ⟨st, s1, r1, r2, np, W, pk, cf, w1, w2, w3, w4, w5, w6, w7, of, pn⟩ := p0
  unfold m_pk at pk
  obtain rfl : s1 = s := by omega
  obtain rfl : st = 20 := by omega
  obtain ⟨uA, u0, u1, u2, u3⟩ := p1
  exact ⟨2, s1, by omega, by omega, by omega, m_mp2 (m_st_nn rfl cf (by decide) (by omega)) (by omega)⟩
theorem k_mn20c {qn : Int} {qk : Int} {qs : Int} {qq : Int} {qv : Int} {wo : Int} {wf : Int} {wn : Int} {wc : Int} {wm : Int} {ws : Int} {wi : Int} {wl : Int} {ba : Int → Int} {xa : Int → Int} {xb : Int → Int} {xc : Int → Int} {xd : Int → Int} {xe : Int → Int} {xf : Int → Int} {xg : Int → Int} {xh : Int → Int} (hqn : 0 ≤ qn ∧ qn ≤ 900) (hqk : 0 ≤ qk ∧ qk ≤ 4) (hqs : 0 ≤ qs ∧ qs ≤ 900) (hqq : 0 ≤ qq ∧ qq ≤ 900) (hwo : 2 ≤ wo ∧ wo ≤ 13) (hwf : 1 ≤ wf ∧ wf ≤ 13) (hwn : 0 ≤ wn ∧ wn ≤ 96) (hwc : 0 ≤ wc ∧ wc ≤ 6) (hwm : 0 ≤ wm ∧ wm ≤ 4) (hws : 0 ≤ ws ∧ ws ≤ 6) (hwi : 0 ≤ wi ∧ wi ≤ 8) (hba : ∀ i, -128 ≤ ba i ∧ ba i ≤ 127) (hxe : ∀ i, 0 ≤ xe i ∧ xe i ≤ 12) {F s q kk Y : Int} (p0 : p_CF ba qn wo wf wn wc wm ws wi wl xa xb xc xd xe xf xg xh (F)) (p1 : p_CU ba qk qs qq qn qv (s)) (p2 : kk = qk) (p3 : q = qq) (c0 : 0 ≤ F + (-1) * s + (-65536) * Y + (-20480)) (c1 : 0 ≤ s + 65536 * Y + (-1) * F + 20480) (c2 : 0 ≤ kk + (-2)) (c3 : 0 ≤ (-1) * kk + 2) (c4 : 0 ≤ s) (c5 : 0 ≤ (-1) * s + 900) (c6 : 0 ≤ Y) (c7 : 0 ≤ (-1) * Y + 4294967295) : p_HF ba qn (8 * s + 2) := by
  obtain ⟨st, s1, r1, r2, np, W, pk, cf, w1, w2, w3, w4, w5, w6, w7, of, pn⟩ := p0
  unfold m_pk at pk
  obtain rfl : s1 = s := by omega
  obtain rfl : st = 20 := by omega
  obtain ⟨uA, u0, u1, u2, u3⟩ := p1
  exact ⟨2, s1, by omega, by omega, by omega, m_mp2 (m_st_nn rfl cf (by decide) (by omega)) (by omega)⟩
theorem k_mn20d {qn : Int} {qk : Int} {qs : Int} {qq : Int} {qv : Int} {wo : Int} {wf : Int} {wn : Int} {wc : Int} {wm : Int} {ws : Int} {wi : Int} {wl : Int} {ba : Int → Int} {xa : Int → Int} {xb : Int → Int} {xc : Int → Int} {xd : Int → Int} {xe : Int → Int} {xf : Int → Int} {xg : Int → Int} {xh : Int → Int} (hqn : 0 ≤ qn ∧ qn ≤ 900) (hqk : 0 ≤ qk ∧ qk ≤ 4) (hqs : 0 ≤ qs ∧ qs ≤ 900) (hqq : 0 ≤ qq ∧ qq ≤ 900) (hwo : 2 ≤ wo ∧ wo ≤ 13) (hwf : 1 ≤ wf ∧ wf ≤ 13) (hwn : 0 ≤ wn ∧ wn ≤ 96) (hwc : 0 ≤ wc ∧ wc ≤ 6) (hwm : 0 ≤ wm ∧ wm ≤ 4) (hws : 0 ≤ ws ∧ ws ≤ 6) (hwi : 0 ≤ wi ∧ wi ≤ 8) (hba : ∀ i, -128 ≤ ba i ∧ ba i ≤ 127) (hxe : ∀ i, 0 ≤ xe i ∧ xe i ≤ 12) {F s q kk Y : Int} (p0 : p_CF ba qn wo wf wn wc wm ws wi wl xa xb xc xd xe xf xg xh (F)) (p1 : p_CU ba qk qs qq qn qv (s)) (p2 : kk = qk) (p3 : q = qq) (c0 : 0 ≤ F + (-1) * s + (-65536) * Y + (-20480)) (c1 : 0 ≤ s + 65536 * Y + (-1) * F + 20480) (c2 : 0 ≤ kk + (-4)) (c3 : 0 ≤ s) (c4 : 0 ≤ (-1) * s + 900) (c5 : 0 ≤ Y) (c6 : 0 ≤ (-1) * Y + 4294967295) : p_HF ba qn (8 * s + 2) := by
  obtain ⟨st, s1, r1, r2, np, W, pk, cf, w1, w2, w3, w4, w5, w6, w7, of, pn⟩ := p0
  unfold m_pk at pk
  obtain rfl : s1 = s := by omega
  obtain rfl : st = 20 := by omega
  obtain ⟨uA, u0, u1, u2, u3⟩ := p1
  exact ⟨2, s1, by omega, by omega, by omega, m_mp2 (m_st_nn rfl cf (by decide) (by omega)) (by omega)⟩
theorem k_cg4 {qn : Int} {wo : Int} {wf : Int} {wn : Int} {wc : Int} {wm : Int} {ws : Int} {wi : Int} {wl : Int} {ba : Int → Int} {xa : Int → Int} {xb : Int → Int} {xc : Int → Int} {xd : Int → Int} {xe : Int → Int} {xf : Int → Int} {xg : Int → Int} {xh : Int → Int} (hqn : 0 ≤ qn ∧ qn ≤ 900) (hwo : 2 ≤ wo ∧ wo ≤ 13) (hwf : 1 ≤ wf ∧ wf ≤ 13) (hwn : 0 ≤ wn ∧ wn ≤ 96) (hwc : 0 ≤ wc ∧ wc ≤ 6) (hwm : 0 ≤ wm ∧ wm ≤ 4) (hws : 0 ≤ ws ∧ ws ≤ 6) (hwi : 0 ≤ wi ∧ wi ≤ 8) (hba : ∀ i, -128 ≤ ba i ∧ ba i ≤ 127) (hxe : ∀ i, 0 ≤ xe i ∧ xe i ≤ 12) {F s Y : Int} (p0 : p_CF ba qn wo wf wn wc wm ws wi wl xa xb xc xd xe xf xg xh (F)) (c0 : 0 ≤ F + (-1) * s + (-65536) * Y + (-4096)) (c1 : 0 ≤ s + 65536 * Y + (-1) * F + 4096) (c2 : 0 ≤ s) (c3 : 0 ≤ (-1) * s + 900) (c4 : 0 ≤ Y) (c5 : 0 ≤ (-1) * Y + 4294967295) : p_CG ba qn wn wc wm ws wi wl xa xb xc xd xe xf xg xh (F) := by
  obtain ⟨st, s1, r1, r2, np, W, pk, cf, w1, w2, w3, w4, w5, w6, w7, of, pn⟩ := p0
  unfold m_pk at pk
  obtain rfl : s1 = s := by omega
  obtain rfl : st = 4 := by omega
  exact ⟨4, s1, r1, r2, np, W, (by unfold m_pk; omega), rfl, cf, w1, w2, w3, w4, w5, w6, w7, pn⟩
theorem k_cfa4 {qn : Int} {wo : Int} {wf : Int} {wn : Int} {wc : Int} {wm : Int} {ws : Int} {wi : Int} {wl : Int} {ba : Int → Int} {xa : Int → Int} {xb : Int → Int} {xc : Int → Int} {xd : Int → Int} {xe : Int → Int} {xf : Int → Int} {xg : Int → Int} {xh : Int → Int} (hqn : 0 ≤ qn ∧ qn ≤ 900) (hwo : 2 ≤ wo ∧ wo ≤ 13) (hwf : 1 ≤ wf ∧ wf ≤ 13) (hwn : 0 ≤ wn ∧ wn ≤ 96) (hwc : 0 ≤ wc ∧ wc ≤ 6) (hwm : 0 ≤ wm ∧ wm ≤ 4) (hws : 0 ≤ ws ∧ ws ≤ 6) (hwi : 0 ≤ wi ∧ wi ≤ 8) (hba : ∀ i, -128 ≤ ba i ∧ ba i ≤ 127) (hxe : ∀ i, 0 ≤ xe i ∧ xe i ≤ 12) {F s Y a b : Int} (p0 : p_CG ba qn wn wc wm ws wi wl xa xb xc xd xe xf xg xh (F)) (p1 : a = wo) (p2 : b = wf) (c0 : 0 ≤ F + (-1) * s + (-65536) * Y + (-4096)) (c1 : 0 ≤ s + 65536 * Y + (-1) * F + 4096) (c2 : 0 ≤ Y + (-1) * a + (-65536) * b) (c3 : 0 ≤ a + 65536 * b + (-1) * Y) (c4 : 0 ≤ s) (c5 : 0 ≤ (-1) * s + 900) (c6 : 0 ≤ Y) (c7 : 0 ≤ (-1) * Y + 4294967295) : p_CFA ba qn wo wf wn wc wm ws wi wl xa xb xc xd xe xf xg xh (F) := by
  obtain ⟨st, s1, r1, r2, np, W, pk, rfl, cf, w1, w2, w3, w4, w5, w6, w7, pn⟩ := p0
  unfold m_pk at pk
  exact ⟨4, s1, r1, r2, np, W, (r1, r2, W.2.2), (by unfold m_pk; omega), cf, Or.inl rfl, rfl, w1, w2, w3, w4, w5, w6, w7, fun _ => ⟨show wo = r1 by omega, show wf = r2 by omega⟩⟩
theorem k_pa5 {qn : Int} {qk : Int} {qs : Int} {qq : Int} {qv : Int} {wo : Int} {wf : Int} {wn : Int} {wc : Int} {wm : Int} {ws : Int} {wi : Int} {wl : Int} {ba : Int → Int} {xa : Int → Int} {xb : Int → Int} {xc : Int → Int} {xd : Int → Int} {xe : Int → Int} {xf : Int → Int} {xg : Int → Int} {xh : Int → Int} (hqn : 0 ≤ qn ∧ qn ≤ 900) (hqk : 0 ≤ qk ∧ qk ≤ 4) (hqs : 0 ≤ qs ∧ qs ≤ 900) (hqq : 0 ≤ qq ∧ qq ≤ 900) (hwo : 2 ≤ wo ∧ wo ≤ 13) (hwf : 1 ≤ wf ∧ wf ≤ 13) (hwn : 0 ≤ wn ∧ wn ≤ 96) (hwc : 0 ≤ wc ∧ wc ≤ 6) (hwm : 0 ≤ wm ∧ wm ≤ 4) (hws : 0 ≤ ws ∧ ws ≤ 6) (hwi : 0 ≤ wi ∧ wi ≤ 8) (hba : ∀ i, -128 ≤ ba i ∧ ba i ≤ 127) (hxe : ∀ i, 0 ≤ xe i ∧ xe i ≤ 12) {F G s q kk c : Int} (p0 : p_CF ba qn wo wf wn wc wm ws wi wl xa xb xc xd xe xf xg xh (F)) (p1 : p_WI ba qn (G)) (p2 : p_CU ba qk qs qq qn qv (s)) (p3 : kk = qk) (p4 : q = qq) (p5 : c = wc) (c0 : 0 ≤ F + (-1) * s + (-5120)) (c1 : 0 ≤ s + (-1) * F + 5120) (c2 : 0 ≤ G + (-1099511627776) * s + (-117099109)) (c3 : 0 ≤ 1099511627776 * s + (-1) * G + 117099109) (c4 : 0 ≤ q) (c5 : 0 ≤ (-1) * q + 1023) (c6 : 0 ≤ (-1) * c + 5) (c7 : 0 ≤ s) (c8 : 0 ≤ (-1) * s + 900) : p_RDX ba qn wo wf wn wc wm ws wi wl xa xb xc xd xe xf xg xh (q + 6144) := by
  obtain ⟨st, s1, r1, r2, np, W, pk, cf, w1, w2, w3, w4, w5, w6, w7, of, pn⟩ := p0
  unfold m_pk at pk
  obtain rfl : s1 = s := by omega
  obtain rfl : st = 5 := by omega
  obtain ⟨w0, s0, y1, y2, y3, y4, hw⟩ := p1
  obtain rfl : s0 = s1 := by omega
  obtain rfl : w0 = 117099109 := by omega
  obtain ⟨uA, u0, u1, u2, u3⟩ := p2
  obtain rfl : r1 = 0 := by omega
  obtain rfl : r2 = 0 := by omega
  have AT := m_cf_5 cf (by decide)
  rw [m_prt_k hw] at AT
  simp only [if_pos, if_neg, reduceIte, Int.reduceEq] at AT
  have cw := w1.2.1
  rw [if_neg (by omega), ← u2] at AT
  exact ⟨6, qq, 0, 0, 0, W, (by unfold m_pk; omega), Or.inl ⟨by decide, AT⟩, w1, w2, w3, w4, w5, w6, w7, fun _ => of (by decide), fun h => absurd h (by unfold m_ps; decide)⟩
theorem k_pf5 {qn : Int} {qk : Int} {qs : Int} {qq : Int} {qv : Int} {wo : Int} {wf : Int} {wn : Int} {wc : Int} {wm : Int} {ws : Int} {wi : Int} {wl : Int} {ba : Int → Int} {xa : Int → Int} {xb : Int → Int} {xc : Int → Int} {xd : Int → Int} {xe : Int → Int} {xf : Int → Int} {xg : Int → Int} {xh : Int → Int} (hqn : 0 ≤ qn ∧ qn ≤ 900) (hqk : 0 ≤ qk ∧ qk ≤ 4) (hqs : 0 ≤ qs ∧ qs ≤ 900) (hqq : 0 ≤ qq ∧ qq ≤ 900) (hwo : 2 ≤ wo ∧ wo ≤ 13) (hwf : 1 ≤ wf ∧ wf ≤ 13) (hwn : 0 ≤ wn ∧ wn ≤ 96) (hwc : 0 ≤ wc ∧ wc ≤ 6) (hwm : 0 ≤ wm ∧ wm ≤ 4) (hws : 0 ≤ ws ∧ ws ≤ 6) (hwi : 0 ≤ wi ∧ wi ≤ 8) (hba : ∀ i, -128 ≤ ba i ∧ ba i ≤ 127) (hxe : ∀ i, 0 ≤ xe i ∧ xe i ≤ 12) {F G s q kk c : Int} (p0 : p_CF ba qn wo wf wn wc wm ws wi wl xa xb xc xd xe xf xg xh (F)) (p1 : p_WI ba qn (G)) (p2 : p_CU ba qk qs qq qn qv (s)) (p3 : kk = qk) (p4 : q = qq) (p5 : c = wc) (c0 : 0 ≤ F + (-1) * s + (-5120)) (c1 : 0 ≤ s + (-1) * F + 5120) (c2 : 0 ≤ G + (-1099511627776) * s + (-117099109)) (c3 : 0 ≤ 1099511627776 * s + (-1) * G + 117099109) (c4 : 0 ≤ q) (c5 : 0 ≤ (-1) * q + 1023) (c6 : 0 ≤ c + (-6)) (c7 : 0 ≤ s) (c8 : 0 ≤ (-1) * s + 900) : p_HF ba qn (8 * s + 6) := by
  obtain ⟨st, s1, r1, r2, np, W, pk, cf, w1, w2, w3, w4, w5, w6, w7, of, pn⟩ := p0
  unfold m_pk at pk
  obtain rfl : s1 = s := by omega
  obtain rfl : st = 5 := by omega
  obtain ⟨w0, s0, y1, y2, y3, y4, hw⟩ := p1
  obtain rfl : s0 = s1 := by omega
  obtain rfl : w0 = 117099109 := by omega
  obtain ⟨uA, u0, u1, u2, u3⟩ := p2
  obtain rfl : r1 = 0 := by omega
  obtain rfl : r2 = 0 := by omega
  have AT := m_cf_5 cf (by decide)
  rw [m_prt_k hw] at AT
  simp only [if_pos, if_neg, reduceIte, Int.reduceEq] at AT
  have cw := w1.2.1
  rw [if_pos (by omega)] at AT
  exact ⟨6, s0, by omega, by omega, by omega, AT⟩
theorem k_pa26 {qn : Int} {qk : Int} {qs : Int} {qq : Int} {qv : Int} {wo : Int} {wf : Int} {wn : Int} {wc : Int} {wm : Int} {ws : Int} {wi : Int} {wl : Int} {ba : Int → Int} {xa : Int → Int} {xb : Int → Int} {xc : Int → Int} {xd : Int → Int} {xe : Int → Int} {xf : Int → Int} {xg : Int → Int} {xh : Int → Int} (hqn : 0 ≤ qn ∧ qn ≤ 900) (hqk : 0 ≤ qk ∧ qk ≤ 4) (hqs : 0 ≤ qs ∧ qs ≤ 900) (hqq : 0 ≤ qq ∧ qq ≤ 900) (hwo : 2 ≤ wo ∧ wo ≤ 13) (hwf : 1 ≤ wf ∧ wf ≤ 13) (hwn : 0 ≤ wn ∧ wn ≤ 96) (hwc : 0 ≤ wc ∧ wc ≤ 6) (hwm : 0 ≤ wm ∧ wm ≤ 4) (hws : 0 ≤ ws ∧ ws ≤ 6) (hwi : 0 ≤ wi ∧ wi ≤ 8) (hba : ∀ i, -128 ≤ ba i ∧ ba i ≤ 127) (hxe : ∀ i, 0 ≤ xe i ∧ xe i ≤ 12) {F G s q kk c : Int} (p0 : p_CF ba qn wo wf wn wc wm ws wi wl xa xb xc xd xe xf xg xh (F)) (p1 : p_WI ba qn (G)) (p2 : p_CU ba qk qs qq qn qv (s)) (p3 : kk = qk) (p4 : q = qq) (p5 : c = wm) (c0 : 0 ≤ F + (-1) * s + (-26624)) (c1 : 0 ≤ s + (-1) * F + 26624) (c2 : 0 ≤ G + (-1099511627776) * s + (-13684206)) (c3 : 0 ≤ 1099511627776 * s + (-1) * G + 13684206) (c4 : 0 ≤ q) (c5 : 0 ≤ (-1) * q + 1023) (c6 : 0 ≤ (-1) * c + 3) (c7 : 0 ≤ s) (c8 : 0 ≤ (-1) * s + 900) : p_RDX ba qn wo wf wn wc wm ws wi wl xa xb xc xd xe xf xg xh (q + 7168) := by
  obtain ⟨st, s1, r1, r2, np, W, pk, cf, w1, w2, w3, w4, w5, w6, w7, of, pn⟩ := p0
  unfold m_pk at pk
  obtain rfl : s1 = s := by omega
  obtain rfl : st = 26 := by omega
  obtain ⟨w0, s0, y1, y2, y3, y4, hw⟩ := p1
  obtain rfl : s0 = s1 := by omega
  obtain rfl : w0 = 13684206 := by omega
  obtain ⟨uA, u0, u1, u2, u3⟩ := p2
  obtain rfl : r1 = 0 := by omega
  obtain rfl : r2 = 0 := by omega
  have AT := m_cf_5 cf (by decide)
  rw [m_prt_k hw] at AT
  simp only [if_pos, if_neg, reduceIte, Int.reduceEq] at AT
  have cw := w1.2.2.1
  rw [if_neg (by omega), ← u2] at AT
  exact ⟨7, qq, 0, 0, 0, W, (by unfold m_pk; omega), Or.inl ⟨by decide, AT⟩, w1, w2, w3, w4, w5, w6, w7, fun _ => of (by decide), fun h => absurd h (by unfold m_ps; decide)⟩
theorem k_pf26 {qn : Int} {qk : Int} {qs : Int} {qq : Int} {qv : Int} {wo : Int} {wf : Int} {wn : Int} {wc : Int} {wm : Int} {ws : Int} {wi : Int} {wl : Int} {ba : Int → Int} {xa : Int → Int} {xb : Int → Int} {xc : Int → Int} {xd : Int → Int} {xe : Int → Int} {xf : Int → Int} {xg : Int → Int} {xh : Int → Int} (hqn : 0 ≤ qn ∧ qn ≤ 900) (hqk : 0 ≤ qk ∧ qk ≤ 4) (hqs : 0 ≤ qs ∧ qs ≤ 900) (hqq : 0 ≤ qq ∧ qq ≤ 900) (hwo : 2 ≤ wo ∧ wo ≤ 13) (hwf : 1 ≤ wf ∧ wf ≤ 13) (hwn : 0 ≤ wn ∧ wn ≤ 96) (hwc : 0 ≤ wc ∧ wc ≤ 6) (hwm : 0 ≤ wm ∧ wm ≤ 4) (hws : 0 ≤ ws ∧ ws ≤ 6) (hwi : 0 ≤ wi ∧ wi ≤ 8) (hba : ∀ i, -128 ≤ ba i ∧ ba i ≤ 127) (hxe : ∀ i, 0 ≤ xe i ∧ xe i ≤ 12) {F G s q kk c : Int} (p0 : p_CF ba qn wo wf wn wc wm ws wi wl xa xb xc xd xe xf xg xh (F)) (p1 : p_WI ba qn (G)) (p2 : p_CU ba qk qs qq qn qv (s)) (p3 : kk = qk) (p4 : q = qq) (p5 : c = wm) (c0 : 0 ≤ F + (-1) * s + (-26624)) (c1 : 0 ≤ s + (-1) * F + 26624) (c2 : 0 ≤ G + (-1099511627776) * s + (-13684206)) (c3 : 0 ≤ 1099511627776 * s + (-1) * G + 13684206) (c4 : 0 ≤ q) (c5 : 0 ≤ (-1) * q + 1023) (c6 : 0 ≤ c + (-4)) (c7 : 0 ≤ s) (c8 : 0 ≤ (-1) * s + 900) : p_HF ba qn (8 * s + 6) := by
  obtain ⟨st, s1, r1, r2, np, W, pk, cf, w1, w2, w3, w4, w5, w6, w7, of, pn⟩ := p0
  unfold m_pk at pk
  obtain rfl : s1 = s := by omega
  obtain rfl : st = 26 := by omega
  obtain ⟨w0, s0, y1, y2, y3, y4, hw⟩ := p1
  obtain rfl : s0 = s1 := by omega
  obtain rfl : w0 = 13684206 := by omega
  obtain ⟨uA, u0, u1, u2, u3⟩ := p2
  obtain rfl : r1 = 0 := by omega
  obtain rfl : r2 = 0 := by omega
  have AT := m_cf_5 cf (by decide)
  rw [m_prt_k hw] at AT
  simp only [if_pos, if_neg, reduceIte, Int.reduceEq] at AT
  have cw := w1.2.2.1
  rw [if_pos (by omega)] at AT
  exact ⟨6, s0, by omega, by omega, by omega, AT⟩
theorem k_pa27 {qn : Int} {qk : Int} {qs : Int} {qq : Int} {qv : Int} {wo : Int} {wf : Int} {wn : Int} {wc : Int} {wm : Int} {ws : Int} {wi : Int} {wl : Int} {ba : Int → Int} {xa : Int → Int} {xb : Int → Int} {xc : Int → Int} {xd : Int → Int} {xe : Int → Int} {xf : Int → Int} {xg : Int → Int} {xh : Int → Int} (hqn : 0 ≤ qn ∧ qn ≤ 900) (hqk : 0 ≤ qk ∧ qk ≤ 4) (hqs : 0 ≤ qs ∧ qs ≤ 900) (hqq : 0 ≤ qq ∧ qq ≤ 900) (hwo : 2 ≤ wo ∧ wo ≤ 13) (hwf : 1 ≤ wf ∧ wf ≤ 13) (hwn : 0 ≤ wn ∧ wn ≤ 96) (hwc : 0 ≤ wc ∧ wc ≤ 6) (hwm : 0 ≤ wm ∧ wm ≤ 4) (hws : 0 ≤ ws ∧ ws ≤ 6) (hwi : 0 ≤ wi ∧ wi ≤ 8) (hba : ∀ i, -128 ≤ ba i ∧ ba i ≤ 127) (hxe : ∀ i, 0 ≤ xe i ∧ xe i ≤ 12) {F G s q kk c : Int} (p0 : p_CF ba qn wo wf wn wc wm ws wi wl xa xb xc xd xe xf xg xh (F)) (p1 : p_WI ba qn (G)) (p2 : p_CU ba qk qs qq qn qv (s)) (p3 : kk = qk) (p4 : q = qq) (p5 : c = ws) (c0 : 0 ≤ F + (-1) * s + (-27648)) (c1 : 0 ≤ s + (-1) * F + 27648) (c2 : 0 ≤ G + (-1099511627776) * s + (-635184)) (c3 : 0 ≤ 1099511627776 * s + (-1) * G + 635184) (c4 : 0 ≤ q) (c5 : 0 ≤ (-1) * q + 1023) (c6 : 0 ≤ (-1) * c + 5) (c7 : 0 ≤ s) (c8 : 0 ≤ (-1) * s + 900) : p_RDX ba qn wo wf wn wc wm ws wi wl xa xb xc xd xe xf xg xh (q + 8192) := by
  obtain ⟨st, s1, r1, r2, np, W, pk, cf, w1, w2, w3, w4, w5, w6, w7, of, pn⟩ := p0
  unfold m_pk at pk
  obtain rfl : s1 = s := by omega
  obtain rfl : st = 27 := by omega
  obtain ⟨w0, s0, y1, y2, y3, y4, hw⟩ := p1
  obtain rfl : s0 = s1 := by omega
  obtain rfl : w0 = 635184 := by omega
  obtain ⟨uA, u0, u1, u2, u3⟩ := p2
  obtain rfl : r1 = 0 := by omega
  obtain rfl : r2 = 0 := by omega
  have AT := m_cf_5 cf (by decide)
  rw [m_prt_k hw] at AT
  simp only [if_pos, if_neg, reduceIte, Int.reduceEq] at AT
  have cw := w2
  rw [if_neg (by omega), ← u2] at AT
  exact ⟨8, qq, 0, 0, 0, W, (by unfold m_pk; omega), Or.inl ⟨by decide, AT⟩, w1, w2, w3, w4, w5, w6, w7, fun _ => of (by decide), fun h => absurd h (by unfold m_ps; decide)⟩
theorem k_pf27 {qn : Int} {qk : Int} {qs : Int} {qq : Int} {qv : Int} {wo : Int} {wf : Int} {wn : Int} {wc : Int} {wm : Int} {ws : Int} {wi : Int} {wl : Int} {ba : Int → Int} {xa : Int → Int} {xb : Int → Int} {xc : Int → Int} {xd : Int → Int} {xe : Int → Int} {xf : Int → Int} {xg : Int → Int} {xh : Int → Int} (hqn : 0 ≤ qn ∧ qn ≤ 900) (hqk : 0 ≤ qk ∧ qk ≤ 4) (hqs : 0 ≤ qs ∧ qs ≤ 900) (hqq : 0 ≤ qq ∧ qq ≤ 900) (hwo : 2 ≤ wo ∧ wo ≤ 13) (hwf : 1 ≤ wf ∧ wf ≤ 13) (hwn : 0 ≤ wn ∧ wn ≤ 96) (hwc : 0 ≤ wc ∧ wc ≤ 6) (hwm : 0 ≤ wm ∧ wm ≤ 4) (hws : 0 ≤ ws ∧ ws ≤ 6) (hwi : 0 ≤ wi ∧ wi ≤ 8) (hba : ∀ i, -128 ≤ ba i ∧ ba i ≤ 127) (hxe : ∀ i, 0 ≤ xe i ∧ xe i ≤ 12) {F G s q kk c : Int} (p0 : p_CF ba qn wo wf wn wc wm ws wi wl xa xb xc xd xe xf xg xh (F)) (p1 : p_WI ba qn (G)) (p2 : p_CU ba qk qs qq qn qv (s)) (p3 : kk = qk) (p4 : q = qq) (p5 : c = ws) (c0 : 0 ≤ F + (-1) * s + (-27648)) (c1 : 0 ≤ s + (-1) * F + 27648) (c2 : 0 ≤ G + (-1099511627776) * s + (-635184)) (c3 : 0 ≤ 1099511627776 * s + (-1) * G + 635184) (c4 : 0 ≤ q) (c5 : 0 ≤ (-1) * q + 1023) (c6 : 0 ≤ c + (-6)) (c7 : 0 ≤ s) (c8 : 0 ≤ (-1) * s + 900) : p_HF ba qn (8 * s + 6) := by
  obtain ⟨st, s1, r1, r2, np, W, pk, cf, w1, w2, w3, w4, w5, w6, w7, of, pn⟩ := p0
  unfold m_pk at pk
  obtain rfl : s1 = s := by omega
  obtain rfl : st = 27 := by omega
  obtain ⟨w0, s0, y1, y2, y3, y4, hw⟩ := p1
  obtain rfl : s0 = s1 := by omega
  obtain rfl : w0 = 635184 := by omega
  obtain ⟨uA, u0, u1, u2, u3⟩ := p2
  obtain rfl : r1 = 0 := by omega
  obtain rfl : r2 = 0 := by omega
  have AT := m_cf_5 cf (by decide)
  rw [m_prt_k hw] at AT
  simp only [if_pos, if_neg, reduceIte, Int.reduceEq] at AT
  have cw := w2
  rw [if_pos (by omega)] at AT
  exact ⟨6, s0, by omega, by omega, by omega, AT⟩
theorem k_pa28 {qn : Int} {qk : Int} {qs : Int} {qq : Int} {qv : Int} {wo : Int} {wf : Int} {wn : Int} {wc : Int} {wm : Int} {ws : Int} {wi : Int} {wl : Int} {ba : Int → Int} {xa : Int → Int} {xb : Int → Int} {xc : Int → Int} {xd : Int → Int} {xe : Int → Int} {xf : Int → Int} {xg : Int → Int} {xh : Int → Int} (hqn : 0 ≤ qn ∧ qn ≤ 900) (hqk : 0 ≤ qk ∧ qk ≤ 4) (hqs : 0 ≤ qs ∧ qs ≤ 900) (hqq : 0 ≤ qq ∧ qq ≤ 900) (hwo : 2 ≤ wo ∧ wo ≤ 13) (hwf : 1 ≤ wf ∧ wf ≤ 13) (hwn : 0 ≤ wn ∧ wn ≤ 96) (hwc : 0 ≤ wc ∧ wc ≤ 6) (hwm : 0 ≤ wm ∧ wm ≤ 4) (hws : 0 ≤ ws ∧ ws ≤ 6) (hwi : 0 ≤ wi ∧ wi ≤ 8) (hba : ∀ i, -128 ≤ ba i ∧ ba i ≤ 127) (hxe : ∀ i, 0 ≤ xe i ∧ xe i ≤ 12) {F G s q kk c : Int} (p0 : p_CF ba qn wo wf wn wc wm ws wi wl xa xb xc xd xe xf xg xh (F)) (p1 : p_WI ba qn (G)) (p2 : p_CU ba qk qs qq qn qv (s)) (p3 : kk = qk) (p4 : q = qq) (p5 : c = wi) (c0 : 0 ≤ F + (-1) * s + (-28672)) (c1 : 0 ≤ s + (-1) * F + 28672) (c2 : 0 ≤ G + (-1099511627776) * s + (-206276)) (c3 : 0 ≤ 1099511627776 * s + (-1) * G + 206276) (c4 : 0 ≤ q) (c5 : 0 ≤ (-1) * q + 1023) (c6 : 0 ≤ (-1) * c + 7) (c7 : 0 ≤ s) (c8 : 0 ≤ (-1) * s + 900) : p_RDX ba qn wo wf wn wc wm ws wi wl xa xb xc xd xe xf xg xh (q + 9216) := by
  obtain ⟨st, s1, r1, r2, np, W, pk, cf, w1, w2, w3, w4, w5, w6, w7, of, pn⟩ := p0
  unfold m_pk at pk
  obtain rfl : s1 = s := by omega
  obtain rfl : st = 28 := by omega
  obtain ⟨w0, s0, y1, y2, y3, y4, hw⟩ := p1
  obtain rfl : s0 = s1 := by omega
  obtain rfl : w0 = 206276 := by omega
  obtain ⟨uA, u0, u1, u2, u3⟩ := p2
  obtain rfl : r1 = 0 := by omega
  obtain rfl : r2 = 0 := by omega
  have AT := m_cf_5 cf (by decide)
  rw [m_prt_k hw] at AT
  simp only [if_pos, if_neg, reduceIte, Int.reduceEq] at AT
  have cw := w1.2.2.2
  rw [if_neg (by omega), ← u2] at AT
  exact ⟨9, qq, 0, 0, 0, W, (by unfold m_pk; omega), Or.inl ⟨by decide, AT⟩, w1, w2, w3, w4, w5, w6, w7, fun _ => of (by decide), fun h => absurd h (by unfold m_ps; decide)⟩
theorem k_pf28 {qn : Int} {qk : Int} {qs : Int} {qq : Int} {qv : Int} {wo : Int} {wf : Int} {wn : Int} {wc : Int} {wm : Int} {ws : Int} {wi : Int} {wl : Int} {ba : Int → Int} {xa : Int → Int} {xb : Int → Int} {xc : Int → Int} {xd : Int → Int} {xe : Int → Int} {xf : Int → Int} {xg : Int → Int} {xh : Int → Int} (hqn : 0 ≤ qn ∧ qn ≤ 900) (hqk : 0 ≤ qk ∧ qk ≤ 4) (hqs : 0 ≤ qs ∧ qs ≤ 900) (hqq : 0 ≤ qq ∧ qq ≤ 900) (hwo : 2 ≤ wo ∧ wo ≤ 13) (hwf : 1 ≤ wf ∧ wf ≤ 13) (hwn : 0 ≤ wn ∧ wn ≤ 96) (hwc : 0 ≤ wc ∧ wc ≤ 6) (hwm : 0 ≤ wm ∧ wm ≤ 4) (hws : 0 ≤ ws ∧ ws ≤ 6) (hwi : 0 ≤ wi ∧ wi ≤ 8) (hba : ∀ i, -128 ≤ ba i ∧ ba i ≤ 127) (hxe : ∀ i, 0 ≤ xe i ∧ xe i ≤ 12) {F G s q kk c : Int} (p0 : p_CF ba qn wo wf wn wc wm ws wi wl xa xb xc xd xe xf xg xh (F)) (p1 : p_WI ba qn (G)) (p2 : p_CU ba qk qs qq qn qv (s)) (p3 : kk = qk) (p4 : q = qq) (p5 : c = wi) (c0 : 0 ≤ F + (-1) * s + (-28672)) (c1 : 0 ≤ s + (-1) * F + 28672) (c2 : 0 ≤ G + (-1099511627776) * s + (-206276)) (c3 : 0 ≤ 1099511627776 * s + (-1) * G + 206276) (c4 : 0 ≤ q) (c5 : 0 ≤ (-1) * q + 1023) (c6 : 0 ≤ c + (-8)) (c7 : 0 ≤ s) (c8 : 0 ≤ (-1) * s + 900) : p_HF ba qn (8 * s + 6) := by
  obtain ⟨st, s1, r1, r2, np, W, pk, cf, w1, w2, w3, w4, w5, w6, w7, of, pn⟩ := p0
  unfold m_pk at pk
  obtain rfl : s1 = s := by omega
  obtain rfl : st = 28 := by omega
  obtain ⟨w0, s0, y1, y2, y3, y4, hw⟩ := p1
  obtain rfl : s0 = s1 := by omega
  obtain rfl : w0 = 206276 := by omega
  obtain ⟨uA, u0, u1, u2, u3⟩ := p2
  obtain rfl : r1 = 0 := by omega
  obtain rfl : r2 = 0 := by omega
  have AT := m_cf_5 cf (by decide)
  rw [m_prt_k hw] at AT
  simp only [if_pos, if_neg, reduceIte, Int.reduceEq] at AT
  have cw := w1.2.2.2
  rw [if_pos (by omega)] at AT
  exact ⟨6, s0, by omega, by omega, by omega, AT⟩
theorem k_qcc1 {qn : Int} {wo : Int} {wf : Int} {wn : Int} {wc : Int} {wm : Int} {ws : Int} {wi : Int} {wl : Int} {ba : Int → Int} {xa : Int → Int} {xb : Int → Int} {xc : Int → Int} {xd : Int → Int} {xe : Int → Int} {xf : Int → Int} {xg : Int → Int} {xh : Int → Int} (hqn : 0 ≤ qn ∧ qn ≤ 900) (hwo : 2 ≤ wo ∧ wo ≤ 13) (hwf : 1 ≤ wf ∧ wf ≤ 13) (hwn : 0 ≤ wn ∧ wn ≤ 96) (hwc : 0 ≤ wc ∧ wc ≤ 6) (hwm : 0 ≤ wm ∧ wm ≤ 4) (hws : 0 ≤ ws ∧ ws ≤ 6) (hwi : 0 ≤ wi ∧ wi ≤ 8) (hba : ∀ i, -128 ≤ ba i ∧ ba i ≤ 127) (hxe : ∀ i, 0 ≤ xe i ∧ xe i ≤ 12) {F s Y c : Int} (p0 : p_CF ba qn wo wf wn wc wm ws wi wl xa xb xc xd xe xf xg xh (F)) (p1 : c = wc) (c0 : 0 ≤ F + (-1) * s + (-65536) * Y + (-10240)) (c1 : 0 ≤ s + 65536 * Y + (-1) * F + 10240) (c2 : 0 ≤ s) (c3 : 0 ≤ (-1) * s + 900) (c4 : 0 ≤ Y) (c5 : 0 ≤ (-1) * Y + 4294967295) : 0 ≤ (-1) * c + 5 := by
  obtain ⟨st, s1, r1, r2, np, W, pk, cf, w1, w2, w3, w4, w5, w6, w7, of, pn⟩ := p0
  unfold m_pk at pk
  obtain rfl : s1 = s := by omega
  obtain rfl : st = 10 := by omega
  obtain ⟨⟨i1, i2, i3, i4, i5⟩, -, i8, i9, i10, i11, i12⟩ := (show m_icx 10 r1 W from m_cf_i cf (by decide))
  have g := i8 (by decide)
  have := w1.2.1
  omega
theorem k_qcc2 {qn : Int} {wo : Int} {wf : Int} {wn : Int} {wc : Int} {wm : Int} {ws : Int} {wi : Int} {wl : Int} {ba : Int → Int} {xa : Int → Int} {xb : Int → Int} {xc : Int → Int} {xd : Int → Int} {xe : Int → Int} {xf : Int → Int} {xg : Int → Int} {xh : Int → Int} (hqn : 0 ≤ qn ∧ qn ≤ 900) (hwo : 2 ≤ wo ∧ wo ≤ 13) (hwf : 1 ≤ wf ∧ wf ≤ 13) (hwn : 0 ≤ wn ∧ wn ≤ 96) (hwc : 0 ≤ wc ∧ wc ≤ 6) (hwm : 0 ≤ wm ∧ wm ≤ 4) (hws : 0 ≤ ws ∧ ws ≤ 6) (hwi : 0 ≤ wi ∧ wi ≤ 8) (hba : ∀ i, -128 ≤ ba i ∧ ba i ≤ 127) (hxe : ∀ i, 0 ≤ xe i ∧ xe i ≤ 12) {F s Y c n : Int} (p0 : p_CF ba qn wo wf wn wc wm ws wi wl xa xb xc xd xe xf xg xh (F)) (p1 : c = wc) (p2 : n = wn) (c0 : 0 ≤ F + (-1) * s + (-65536) * Y + (-10240)) (c1 : 0 ≤ s + 65536 * Y + (-1) * F + 10240) (c2 : 0 ≤ s) (c3 : 0 ≤ (-1) * s + 900) (c4 : 0 ≤ Y) (c5 : 0 ≤ (-1) * Y + 4294967295) : 0 ≤ 16 * c + (-1) * n := by
  obtain ⟨st, s1, r1, r2, np, W, pk, cf, w1, w2, w3, w4, w5, w6, w7, of, pn⟩ := p0
  unfold m_pk at pk
  obtain rfl : s1 = s := by omega
  obtain rfl : st = 10 := by omega
  obtain ⟨⟨i1, i2, i3, i4, i5⟩, -, i8, i9, i10, i11, i12⟩ := (show m_icx 10 r1 W from m_cf_i cf (by decide))
  have g := (m_tot_16 _ i5).2
  have := w1.2.1
  have := w1.1
  omega
theorem k_cc1 {qn : Int} {wo : Int} {wf : Int} {wn : Int} {wc : Int} {wm : Int} {ws : Int} {wi : Int} {wl : Int} {ba : Int → Int} {xa : Int → Int} {xb : Int → Int} {xc : Int → Int} {xd : Int → Int} {xe : Int → Int} {xf : Int → Int} {xg : Int → Int} {xh : Int → Int} (hqn : 0 ≤ qn ∧ qn ≤ 900) (hwo : 2 ≤ wo ∧ wo ≤ 13) (hwf : 1 ≤ wf ∧ wf ≤ 13) (hwn : 0 ≤ wn ∧ wn ≤ 96) (hwc : 0 ≤ wc ∧ wc ≤ 6) (hwm : 0 ≤ wm ∧ wm ≤ 4) (hws : 0 ≤ ws ∧ ws ≤ 6) (hwi : 0 ≤ wi ∧ wi ≤ 8) (hba : ∀ i, -128 ≤ ba i ∧ ba i ≤ 127) (hxe : ∀ i, 0 ≤ xe i ∧ xe i ≤ 12) {i z F s Y c n : Int} (i1 : 0 ≤ i) (i2 : i < 6) (p0 : p_CF ba qn wo wf wn wc wm ws wi wl xa xb xc xd xe xf xg xh (F)) (p1 : c = wc) (p2 : n = wn) (c0 : 0 ≤ F + (-1) * s + (-65536) * Y + (-10240)) (c1 : 0 ≤ s + 65536 * Y + (-1) * F + 10240) (c2 : 0 ≤ i + (-1) * c) (c3 : 0 ≤ c + (-1) * i) (c4 : 0 ≤ z + (-1) * n) (c5 : 0 ≤ n + (-1) * z) (c6 : 0 ≤ s) (c7 : 0 ≤ (-1) * s + 900) (c8 : 0 ≤ Y) (c9 : 0 ≤ (-1) * Y + 4294967295) : p_CC1 ba qn wo wf wn wc wm ws wi wl (m_up xa i z) xb xc xd xe xf xg xh (F) := by
  obtain ⟨st, s1, r1, r2, np, W, pk, cf, w1, w2, w3, w4, w5, w6, w7, of, pn⟩ := p0
  unfold m_pk at pk
  obtain rfl : s1 = s := by omega
  obtain rfl : st = 10 := by omega
  have cw := w1.2.1
  refine ⟨10, s1, r1, r2, np, W, (by unfold m_pk; omega), rfl, cf, w1, w2, w3, ⟨fun k k1 k2 => ?_, w4.2⟩, w5, w6, w7, of, by rw [m_up_at (by omega)]; omega⟩
  rw [m_up_ne (by omega)]
  exact w4.1 k k1 k2
theorem k_cc2 {qn : Int} {wo : Int} {wf : Int} {wn : Int} {wc : Int} {wm : Int} {ws : Int} {wi : Int} {wl : Int} {ba : Int → Int} {xa : Int → Int} {xb : Int → Int} {xc : Int → Int} {xd : Int → Int} {xe : Int → Int} {xf : Int → Int} {xg : Int → Int} {xh : Int → Int} (hqn : 0 ≤ qn ∧ qn ≤ 900) (hwo : 2 ≤ wo ∧ wo ≤ 13) (hwf : 1 ≤ wf ∧ wf ≤ 13) (hwn : 0 ≤ wn ∧ wn ≤ 96) (hwc : 0 ≤ wc ∧ wc ≤ 6) (hwm : 0 ≤ wm ∧ wm ≤ 4) (hws : 0 ≤ ws ∧ ws ≤ 6) (hwi : 0 ≤ wi ∧ wi ≤ 8) (hba : ∀ i, -128 ≤ ba i ∧ ba i ≤ 127) (hxe : ∀ i, 0 ≤ xe i ∧ xe i ≤ 12) {F s Y n i : Int} (p0 : p_CC1 ba qn wo wf wn wc wm ws wi wl xa xb xc xd xe xf xg xh (F)) (p1 : n = wn) (c0 : 0 ≤ F + (-1) * s + (-65536) * Y + (-10240)) (c1 : 0 ≤ s + 65536 * Y + (-1) * F + 10240) (c2 : 0 ≤ i + (-1) * n) (c3 : 0 ≤ n + (-1) * i) (c4 : 0 ≤ s) (c5 : 0 ≤ (-1) * s + 900) (c6 : 0 ≤ Y) (c7 : 0 ≤ (-1) * Y + 4294967295) : p_CC2 ba qn wo wf wn wc wm ws wi wl xa xb xc xd xe xf xg xh (F + 281474976710656 * i) := by
  obtain ⟨st, s1, r1, r2, np, W, pk, rfl, cf, w1, w2, w3, w4, w5, w6, w7, of, ex⟩ := p0
  have pk0 := pk
  unfold m_pk at pk
  exact ⟨F, i, by omega, by omega, 10, s1, r1, r2, np, W, pk0, rfl, cf, w1, w2, w3, w4, w5, w6, w7, of, ex, by omega, fun j a b => by omega⟩
theorem k_cc3 {qn : Int} {wo : Int} {wf : Int} {wn : Int} {wc : Int} {wm : Int} {ws : Int} {wi : Int} {wl : Int} {ba : Int → Int} {xa : Int → Int} {xb : Int → Int} {xc : Int → Int} {xd : Int → Int} {xe : Int → Int} {xf : Int → Int} {xg : Int → Int} {xh : Int → Int} (hqn : 0 ≤ qn ∧ qn ≤ 900) (hwo : 2 ≤ wo ∧ wo ≤ 13) (hwf : 1 ≤ wf ∧ wf ≤ 13) (hwn : 0 ≤ wn ∧ wn ≤ 96) (hwc : 0 ≤ wc ∧ wc ≤ 6) (hwm : 0 ≤ wm ∧ wm ≤ 4) (hws : 0 ≤ ws ∧ ws ≤ 6) (hwi : 0 ≤ wi ∧ wi ≤ 8) (hba : ∀ i, -128 ≤ ba i ∧ ba i ≤ 127) (hxe : ∀ i, 0 ≤ xe i ∧ xe i ≤ 12) {i z F s Y c : Int} (i1 : 0 ≤ i) (i2 : i < 96) (p0 : p_CC2 ba qn wo wf wn wc wm ws wi wl xa xb xc xd xe xf xg xh (F)) (p1 : c = wc) (c0 : 0 ≤ F + (-281474976710656) * i + (-1) * s + (-65536) * Y + (-10240)) (c1 : 0 ≤ s + 65536 * Y + (-1) * F + 281474976710656 * i + 10240) (c2 : 0 ≤ z + (-1) * c) (c3 : 0 ≤ c + (-1) * z) (c4 : 0 ≤ i) (c5 : 0 ≤ (-1) * i + 95) (c6 : 0 ≤ s) (c7 : 0 ≤ (-1) * s + 900) (c8 : 0 ≤ Y) (c9 : 0 ≤ (-1) * Y + 4294967295) : p_CC2 ba qn wo wf wn wc wm ws wi wl xa xb xc (m_up xd i z) xe xf xg xh (F + 281474976710656) := by
  obtain ⟨y, i0, ey, iy, st, s1, r1, r2, np, W, pk, rfl, cf, w1, w2, w3, w4, w5, w6, w7, of, ex, ex2, ex3⟩ := p0
  have pk0 := pk
  unfold m_pk at pk
  obtain rfl : i0 = i := by omega
  have e1 := w1.1
  refine ⟨y, i0 + 1, by omega, by omega, 10, s1, r1, r2, np, W, pk0, rfl, cf, w1, w2, w3, ⟨w4.1, fun t t1 t2 => ?_⟩, w5, w6, w7, of, ex, by omega, fun j a b => ?_⟩
  · rw [m_up_ne (by omega)]; exact w4.2 t t1 t2
  · by_cases k : j = i0
    · rw [m_up_at k]; omega
    · rw [m_up_ne k]; exact ex3 j a (by omega)
theorem k_cc4 {qn : Int} {wo : Int} {wf : Int} {wn : Int} {wc : Int} {wm : Int} {ws : Int} {wi : Int} {wl : Int} {ba : Int → Int} {xa : Int → Int} {xb : Int → Int} {xc : Int → Int} {xd : Int → Int} {xe : Int → Int} {xf : Int → Int} {xg : Int → Int} {xh : Int → Int} (hqn : 0 ≤ qn ∧ qn ≤ 900) (hwo : 2 ≤ wo ∧ wo ≤ 13) (hwf : 1 ≤ wf ∧ wf ≤ 13) (hwn : 0 ≤ wn ∧ wn ≤ 96) (hwc : 0 ≤ wc ∧ wc ≤ 6) (hwm : 0 ≤ wm ∧ wm ≤ 4) (hws : 0 ≤ ws ∧ ws ≤ 6) (hwi : 0 ≤ wi ∧ wi ≤ 8) (hba : ∀ i, -128 ≤ ba i ∧ ba i ≤ 127) (hxe : ∀ i, 0 ≤ xe i ∧ xe i ≤ 12) {F s Y c n i : Int} (p0 : p_CC2 ba qn wo wf wn wc wm ws wi wl xa xb xc xd xe xf xg xh (F)) (p1 : c = wc) (p2 : n = wn) (c0 : 0 ≤ F + (-281474976710656) * i + (-1) * s + (-65536) * Y + (-10240)) (c1 : 0 ≤ s + 65536 * Y + (-1) * F + 281474976710656 * i + 10240) (c2 : 0 ≤ i + (-1) * n + (-1) * Y) (c3 : 0 ≤ n + Y + (-1) * i) (c4 : 0 ≤ c) (c5 : 0 ≤ (-1) * c + 15) (c6 : 0 ≤ n) (c7 : 0 ≤ (-1) * n + 96) (c8 : 0 ≤ i) (c9 : 0 ≤ (-1) * i + 96) (c10 : 0 ≤ s) (c11 : 0 ≤ (-1) * s + 900) (c12 : 0 ≤ Y) (c13 : 0 ≤ (-1) * Y + 4294967295) : p_CCN ba qn wo wf wm ws wi wl xa xb xc xd xe xf xg xh (F + (-281474976710656) * i + 281474976710656 * c + 4503599627370496 * n) := by
  obtain ⟨y, i0, ey, iy, st, s1, r1, r2, np, W, pk, rfl, cf, w1, w2, w3, w4, w5, w6, w7, of, ex, ex2, ex3⟩ := p0
  have pk0 := pk
  unfold m_pk at pk
  obtain rfl : i0 = i := by omega
  subst p1
  subst p2
  exact ⟨y, c, n, by omega, by omega, by omega, by omega, 10, s1, r1, r2, np, W, pk0, rfl, by omega, cf, w1, w2, w3, w4, w5, w6, w7, of, ex, fun j a b => ex3 j a (by omega)⟩
theorem k_cc5 {qn : Int} {wo : Int} {wf : Int} {wn : Int} {wc : Int} {wm : Int} {ws : Int} {wi : Int} {wl : Int} {ba : Int → Int} {xa : Int → Int} {xb : Int → Int} {xc : Int → Int} {xd : Int → Int} {xe : Int → Int} {xf : Int → Int} {xg : Int → Int} {xh : Int → Int} (hqn : 0 ≤ qn ∧ qn ≤ 900) (hwo : 2 ≤ wo ∧ wo ≤ 13) (hwf : 1 ≤ wf ∧ wf ≤ 13) (hwn : 0 ≤ wn ∧ wn ≤ 96) (hwc : 0 ≤ wc ∧ wc ≤ 6) (hwm : 0 ≤ wm ∧ wm ≤ 4) (hws : 0 ≤ ws ∧ ws ≤ 6) (hwi : 0 ≤ wi ∧ wi ≤ 8) (hba : ∀ i, -128 ≤ ba i ∧ ba i ≤ 127) (hxe : ∀ i, 0 ≤ xe i ∧ xe i ≤ 12) {F s Y cx nx : Int} (p0 : p_CCN ba qn wo wf wm ws wi wl xa xb xc xd xe xf xg xh (F)) (p1 : cx = wc) (p2 : nx = wn) (c0 : 0 ≤ F + (-281474976710656) * cx + (-4503599627370496) * nx + 4503599627304960 * Y + (-1) * s + 281474976700416) (c1 : 0 ≤ s + (-4503599627304960) * Y + (-1) * F + 281474976710656 * cx + 4503599627370496 * nx + (-281474976700416)) (c2 : 0 ≤ cx + (-1)) (c3 : 0 ≤ (-1) * cx + 16) (c4 : 0 ≤ nx + (-1) * Y) (c5 : 0 ≤ (-1) * nx + Y + 96) (c6 : 0 ≤ s) (c7 : 0 ≤ (-1) * s + 900) (c8 : 0 ≤ Y) (c9 : 0 ≤ (-1) * Y + 4294967295) : p_CFA ba qn wo wf wn wc wm ws wi wl xa xb xc xd xe xf xg xh (F + (-281474976710656) * cx + (-4503599627370496) * nx + 4503599627370496 * Y + 281474976710656) := by
  obtain ⟨y, c0', n0, ey, d1, d2, d3, st, s1, r1, r2, np, W, pk, rfl, er, cf, w1, w2, w3, w4, w5, w6, w7, of, ex, ex3⟩ := p0
  have pk0 := pk
  unfold m_pk at pk
  have eA := m_dc48 (a := y) (b := s + 10240 + 65536 * Y) (x := c0' + 16 * n0) (y := cx - 1 + 16 * (nx - Y)) (by omega) (by omega) (by omega) (by omega) (by omega)
  have eC : c0' = cx + (-1) := by clear ey c0 c1 pk; omega
  have eN : n0 = nx + (-1) * Y := by clear ey c0 c1 pk; omega
  subst eC
  subst eN
  have eY : Y = r1 := by omega
  obtain ⟨⟨i1, i2, i3, i4, i5⟩, -⟩ := (show m_icx 10 r1 W from m_cf_i cf (by decide))
  obtain ⟨g1, g2, g3, g4⟩ := w1
  refine ⟨10, s1, r1, r2, np, W, (W.1, W.2.1, m_wcs W ++ [r1], W.2.2.2), (by unfold m_pk; omega), cf, by decide, rfl, ⟨?_, ?_, g3, g4⟩, w2, w3, m_w2_a w4 (fun x hx => by have := i5 x hx; omega) (by rw [← g2, ← g1]; exact ex) (fun j a b => by rw [← g2]; exact ex3 j (by omega) (by omega)), w5, w6, w7, fun _ => of (by decide)⟩
  · show wn = m_tot (m_wcs W ++ [r1]); rw [m_tot_a]; omega
  · show wc = m_ln (m_wcs W ++ [r1]); rw [m_ln_a]; omega
theorem k_qm1 {qn : Int} {wo : Int} {wf : Int} {wn : Int} {wc : Int} {wm : Int} {ws : Int} {wi : Int} {wl : Int} {ba : Int → Int} {xa : Int → Int} {xb : Int → Int} {xc : Int → Int} {xd : Int → Int} {xe : Int → Int} {xf : Int → Int} {xg : Int → Int} {xh : Int → Int} (hqn : 0 ≤ qn ∧ qn ≤ 900) (hwo : 2 ≤ wo ∧ wo ≤ 13) (hwf : 1 ≤ wf ∧ wf ≤ 13) (hwn : 0 ≤ wn ∧ wn ≤ 96) (hwc : 0 ≤ wc ∧ wc ≤ 6) (hwm : 0 ≤ wm ∧ wm ≤ 4) (hws : 0 ≤ ws ∧ ws ≤ 6) (hwi : 0 ≤ wi ∧ wi ≤ 8) (hba : ∀ i, -128 ≤ ba i ∧ ba i ≤ 127) (hxe : ∀ i, 0 ≤ xe i ∧ xe i ≤ 12) {F s Y m : Int} (p0 : p_CF ba qn wo wf wn wc wm ws wi wl xa xb xc xd xe xf xg xh (F)) (p1 : m = wm) (c0 : 0 ≤ F + (-1) * s + (-65536) * Y + (-23552)) (c1 : 0 ≤ s + 65536 * Y + (-1) * F + 23552) (c2 : 0 ≤ s) (c3 : 0 ≤ (-1) * s + 900) (c4 : 0 ≤ Y) (c5 : 0 ≤ (-1) * Y + 4294967295) : 0 ≤ (-1) * m + 3 := by
  obtain ⟨st, s1, r1, r2, np, W, pk, cf, w1, w2, w3, w4, w5, w6, w7, of, pn⟩ := p0
  unfold m_pk at pk
  obtain rfl : s1 = s := by omega
  obtain rfl : st = 23 := by omega
  obtain ⟨⟨i1, i2, i3, i4, i5⟩, -, i8, i9, i10, i11, i12⟩ := (show m_icx 23 r1 W from m_cf_i cf (by decide))
  have g := i9 (by unfold m_ps; decide)
  have := w1.2.2.1
  omega
theorem k_cm1 {qn : Int} {wo : Int} {wf : Int} {wn : Int} {wc : Int} {wm : Int} {ws : Int} {wi : Int} {wl : Int} {ba : Int → Int} {xa : Int → Int} {xb : Int → Int} {xc : Int → Int} {xd : Int → Int} {xe : Int → Int} {xf : Int → Int} {xg : Int → Int} {xh : Int → Int} (hqn : 0 ≤ qn ∧ qn ≤ 900) (hwo : 2 ≤ wo ∧ wo ≤ 13) (hwf : 1 ≤ wf ∧ wf ≤ 13) (hwn : 0 ≤ wn ∧ wn ≤ 96) (hwc : 0 ≤ wc ∧ wc ≤ 6) (hwm : 0 ≤ wm ∧ wm ≤ 4) (hws : 0 ≤ ws ∧ ws ≤ 6) (hwi : 0 ≤ wi ∧ wi ≤ 8) (hba : ∀ i, -128 ≤ ba i ∧ ba i ≤ 127) (hxe : ∀ i, 0 ≤ xe i ∧ xe i ≤ 12) {i z F s Y m w : Int} (i1 : 0 ≤ i) (i2 : i < 4) (p0 : p_CF ba qn wo wf wn wc wm ws wi wl xa xb xc xd xe xf xg xh (F)) (p1 : m = wm) (c0 : 0 ≤ F + (-1) * s + (-65536) * Y + (-23552)) (c1 : 0 ≤ s + 65536 * Y + (-1) * F + 23552) (c2 : 0 ≤ i + (-1) * m) (c3 : 0 ≤ m + (-1) * i) (c4 : 0 ≤ Y + (-1) * z + (-65536) * w) (c5 : 0 ≤ z + 65536 * w + (-1) * Y) (c6 : 0 ≤ z) (c7 : 0 ≤ (-1) * z + 65535) (c8 : 0 ≤ w) (c9 : 0 ≤ (-1) * w + 65535) (c10 : 0 ≤ s) (c11 : 0 ≤ (-1) * s + 900) (c12 : 0 ≤ Y) (c13 : 0 ≤ (-1) * Y + 4294967295) : p_CM1 ba qn wo wf wn wc wm ws wi wl xa (m_up xb i z) xc xd xe xf xg xh (F) := by
  obtain ⟨st, s1, r1, r2, np, W, pk, cf, w1, w2, w3, w4, w5, w6, w7, of, pn⟩ := p0
  unfold m_pk at pk
  obtain rfl : s1 = s := by omega
  obtain rfl : st = 23 := by omega
  have cw := w1.2.2.1
  refine ⟨23, s1, r1, r2, np, W, (by unfold m_pk; omega), rfl, cf, w1, w2, w3, w4, fun k hk => ?_, w6, w7, of, pn, by rw [m_up_at (by omega)]; omega⟩
  rw [m_up_ne (by unfold m_ln at cw; omega)]
  exact w5 k hk
theorem k_cm2 {qn : Int} {wo : Int} {wf : Int} {wn : Int} {wc : Int} {wm : Int} {ws : Int} {wi : Int} {wl : Int} {ba : Int → Int} {xa : Int → Int} {xb : Int → Int} {xc : Int → Int} {xd : Int → Int} {xe : Int → Int} {xf : Int → Int} {xg : Int → Int} {xh : Int → Int} (hqn : 0 ≤ qn ∧ qn ≤ 900) (hwo : 2 ≤ wo ∧ wo ≤ 13) (hwf : 1 ≤ wf ∧ wf ≤ 13) (hwn : 0 ≤ wn ∧ wn ≤ 96) (hwc : 0 ≤ wc ∧ wc ≤ 6) (hwm : 0 ≤ wm ∧ wm ≤ 4) (hws : 0 ≤ ws ∧ ws ≤ 6) (hwi : 0 ≤ wi ∧ wi ≤ 8) (hba : ∀ i, -128 ≤ ba i ∧ ba i ≤ 127) (hxe : ∀ i, 0 ≤ xe i ∧ xe i ≤ 12) {i z F s Y m w : Int} (i1 : 0 ≤ i) (i2 : i < 4) (p0 : p_CM1 ba qn wo wf wn wc wm ws wi wl xa xb xc xd xe xf xg xh (F)) (p1 : m = wm) (c0 : 0 ≤ F + (-1) * s + (-65536) * Y + (-23552)) (c1 : 0 ≤ s + 65536 * Y + (-1) * F + 23552) (c2 : 0 ≤ i + (-1) * m) (c3 : 0 ≤ m + (-1) * i) (c4 : 0 ≤ Y + (-1) * w + (-65536) * z) (c5 : 0 ≤ w + 65536 * z + (-1) * Y) (c6 : 0 ≤ z) (c7 : 0 ≤ (-1) * z + 65535) (c8 : 0 ≤ w) (c9 : 0 ≤ (-1) * w + 65535) (c10 : 0 ≤ s) (c11 : 0 ≤ (-1) * s + 900) (c12 : 0 ≤ Y) (c13 : 0 ≤ (-1) * Y + 4294967295) : p_CM2 ba qn wo wf wn wc wm ws wi wl xa xb (m_up xc i z) xd xe xf xg xh (F) := by
  obtain ⟨st, s1, r1, r2, np, W, pk, rfl, cf, w1, w2, w3, w4, w5, w6, w7, of, pn, ex⟩ := p0
  have pk0 := pk
  unfold m_pk at pk
  have cw := w1.2.2.1
  refine ⟨23, s1, r1, r2, np, W, pk0, rfl, cf, w1, w2, w3, w4, fun k hk => ?_, w6, w7, of, pn, ex, by rw [m_up_at (by omega)]; omega⟩
  rw [m_up_ne (by unfold m_ln at cw; omega)]
  exact w5 k hk
theorem k_cm3 {qn : Int} {wo : Int} {wf : Int} {wn : Int} {wc : Int} {wm : Int} {ws : Int} {wi : Int} {wl : Int} {ba : Int → Int} {xa : Int → Int} {xb : Int → Int} {xc : Int → Int} {xd : Int → Int} {xe : Int → Int} {xf : Int → Int} {xg : Int → Int} {xh : Int → Int} (hqn : 0 ≤ qn ∧ qn ≤ 900) (hwo : 2 ≤ wo ∧ wo ≤ 13) (hwf : 1 ≤ wf ∧ wf ≤ 13) (hwn : 0 ≤ wn ∧ wn ≤ 96) (hwc : 0 ≤ wc ∧ wc ≤ 6) (hwm : 0 ≤ wm ∧ wm ≤ 4) (hws : 0 ≤ ws ∧ ws ≤ 6) (hwi : 0 ≤ wi ∧ wi ≤ 8) (hba : ∀ i, -128 ≤ ba i ∧ ba i ≤ 127) (hxe : ∀ i, 0 ≤ xe i ∧ xe i ≤ 12) {F s Y m : Int} (p0 : p_CM2 ba qn wo wf wn wc wm ws wi wl xa xb xc xd xe xf xg xh (F)) (p1 : m = wm) (c0 : 0 ≤ F + (-1) * s + (-65536) * Y + (-23552)) (c1 : 0 ≤ s + 65536 * Y + (-1) * F + 23552) (c2 : 0 ≤ m) (c3 : 0 ≤ (-1) * m + 7) (c4 : 0 ≤ s) (c5 : 0 ≤ (-1) * s + 900) (c6 : 0 ≤ Y) (c7 : 0 ≤ (-1) * Y + 4294967295) : p_CMN ba qn wo wf wn wc ws wi wl xa xb xc xd xe xf xg xh (F + 281474976710656 * m) := by
  obtain ⟨st, s1, r1, r2, np, W, pk, rfl, cf, w1, w2, w3, w4, w5, w6, w7, of, pn, ex, ex2⟩ := p0
  have pk0 := pk
  unfold m_pk at pk
  subst p1
  exact ⟨F, m, by omega, by omega, by omega, 23, s1, r1, r2, np, W, pk0, rfl, cf, w1, w2, w3, w4, w5, w6, w7, of, pn, ex, ex2⟩
theorem k_cm4 {qn : Int} {wo : Int} {wf : Int} {wn : Int} {wc : Int} {wm : Int} {ws : Int} {wi : Int} {wl : Int} {ba : Int → Int} {xa : Int → Int} {xb : Int → Int} {xc : Int → Int} {xd : Int → Int} {xe : Int → Int} {xf : Int → Int} {xg : Int → Int} {xh : Int → Int} (hqn : 0 ≤ qn ∧ qn ≤ 900) (hwo : 2 ≤ wo ∧ wo ≤ 13) (hwf : 1 ≤ wf ∧ wf ≤ 13) (hwn : 0 ≤ wn ∧ wn ≤ 96) (hwc : 0 ≤ wc ∧ wc ≤ 6) (hwm : 0 ≤ wm ∧ wm ≤ 4) (hws : 0 ≤ ws ∧ ws ≤ 6) (hwi : 0 ≤ wi ∧ wi ≤ 8) (hba : ∀ i, -128 ≤ ba i ∧ ba i ≤ 127) (hxe : ∀ i, 0 ≤ xe i ∧ xe i ≤ 12) {F s Y m : Int} (p0 : p_CMN ba qn wo wf wn wc ws wi wl xa xb xc xd xe xf xg xh (F)) (p1 : m = wm) (c0 : 0 ≤ F + (-281474976710656) * m + (-1) * s + (-65536) * Y + 281474976687104) (c1 : 0 ≤ s + 65536 * Y + (-1) * F + 281474976710656 * m + (-281474976687104)) (c2 : 0 ≤ m + (-1)) (c3 : 0 ≤ (-1) * m + 15) (c4 : 0 ≤ s) (c5 : 0 ≤ (-1) * s + 900) (c6 : 0 ≤ Y) (c7 : 0 ≤ (-1) * Y + 4294967295) : p_CFA ba qn wo wf wn wc wm ws wi wl xa xb xc xd xe xf xg xh (F + (-281474976710656) * m + 281474976710656) := by
  obtain ⟨y, m0, ey, d1, d2, st, s1, r1, r2, np, W, pk, rfl, cf, w1, w2, w3, w4, w5, w6, w7, of, pn, ex, ex2⟩ := p0
  have pk0 := pk
  unfold m_pk at pk
  obtain rfl : m0 = m + (-1) := by omega
  obtain ⟨g1, g2, g3, g4⟩ := w1
  obtain ⟨n1, n2⟩ := pn (by unfold m_ps; decide)
  rw [g3] at ex ex2 n1 n2
  refine ⟨23, s1, r1, r2, np, W, (W.1, W.2.1, m_wcs W, m_wms W ++ [(r1, r2, np)], W.2.2.2.2), (by unfold m_pk; omega), cf, by decide, rfl, ⟨g1, g2, ?_, g4⟩, w2, w3, w4, m_w3_a w5 ex ex2 n1 n2, w6, w7, fun _ => of (by decide)⟩
  show wm = m_ln (m_wms W ++ [(r1, r2, np)])
  rw [m_ln_a]
  omega
theorem k_cs1 {qn : Int} {wo : Int} {wf : Int} {wn : Int} {wc : Int} {wm : Int} {ws : Int} {wi : Int} {wl : Int} {ba : Int → Int} {xa : Int → Int} {xb : Int → Int} {xc : Int → Int} {xd : Int → Int} {xe : Int → Int} {xf : Int → Int} {xg : Int → Int} {xh : Int → Int} (hqn : 0 ≤ qn ∧ qn ≤ 900) (hwo : 2 ≤ wo ∧ wo ≤ 13) (hwf : 1 ≤ wf ∧ wf ≤ 13) (hwn : 0 ≤ wn ∧ wn ≤ 96) (hwc : 0 ≤ wc ∧ wc ≤ 6) (hwm : 0 ≤ wm ∧ wm ≤ 4) (hws : 0 ≤ ws ∧ ws ≤ 6) (hwi : 0 ≤ wi ∧ wi ≤ 8) (hba : ∀ i, -128 ≤ ba i ∧ ba i ≤ 127) (hxe : ∀ i, 0 ≤ xe i ∧ xe i ≤ 12) {i z F s Y : Int} (i1 : 0 ≤ i) (i2 : i < 96) (p0 : p_CF ba qn wo wf wn wc wm ws wi wl xa xb xc xd xe xf xg xh (F)) (c0 : 0 ≤ F + (-1) * s + (-65536) * Y + (-24576)) (c1 : 0 ≤ s + 65536 * Y + (-1) * F + 24576) (c2 : 0 ≤ Y + (-1) * i + (-65536) * z) (c3 : 0 ≤ i + 65536 * z + (-1) * Y) (c4 : 0 ≤ z) (c5 : 0 ≤ (-1) * z + 65535) (c6 : 0 ≤ i) (c7 : 0 ≤ (-1) * i + 65535) (c8 : 0 ≤ s) (c9 : 0 ≤ (-1) * s + 900) (c10 : 0 ≤ Y) (c11 : 0 ≤ (-1) * Y + 4294967295) : p_CS1 ba qn wo wf wn wc wm ws wi wl xa xb xc xd (m_up xe i z) xf xg xh (F) := by
  obtain ⟨st, s1, r1, r2, np, W, pk, cf, w1, w2, w3, w4, w5, w6, w7, of, pn⟩ := p0
  unfold m_pk at pk
  obtain rfl : s1 = s := by omega
  obtain rfl : st = 24 := by omega
  obtain rfl : i = r1 := by omega
  obtain rfl : z = r2 := by omega
  exact ⟨24, s1, i, z, np, W, (by unfold m_pk; omega), rfl, cf, w1, w2, w3, w4, w5, m_wk_a w6, w7, of⟩
theorem k_cs2 {qn : Int} {wo : Int} {wf : Int} {wn : Int} {wc : Int} {wm : Int} {ws : Int} {wi : Int} {wl : Int} {ba : Int → Int} {xa : Int → Int} {xb : Int → Int} {xc : Int → Int} {xd : Int → Int} {xe : Int → Int} {xf : Int → Int} {xg : Int → Int} {xh : Int → Int} (hqn : 0 ≤ qn ∧ qn ≤ 900) (hwo : 2 ≤ wo ∧ wo ≤ 13) (hwf : 1 ≤ wf ∧ wf ≤ 13) (hwn : 0 ≤ wn ∧ wn ≤ 96) (hwc : 0 ≤ wc ∧ wc ≤ 6) (hwm : 0 ≤ wm ∧ wm ≤ 4) (hws : 0 ≤ ws ∧ ws ≤ 6) (hwi : 0 ≤ wi ∧ wi ≤ 8) (hba : ∀ i, -128 ≤ ba i ∧ ba i ≤ 127) (hxe : ∀ i, 0 ≤ xe i ∧ xe i ≤ 12) {F s Y m : Int} (p0 : p_CS1 ba qn wo wf wn wc wm ws wi wl xa xb xc xd xe xf xg xh (F)) (p1 : m = ws) (c0 : 0 ≤ F + (-1) * s + (-65536) * Y + (-24576)) (c1 : 0 ≤ s + 65536 * Y + (-1) * F + 24576) (c2 : 0 ≤ m) (c3 : 0 ≤ (-1) * m + 7) (c4 : 0 ≤ s) (c5 : 0 ≤ (-1) * s + 900) (c6 : 0 ≤ Y) (c7 : 0 ≤ (-1) * Y + 4294967295) : p_CSN ba qn wo wf wn wc wm wi xa xb xc xd xe xf xg xh (F + 281474976710656 * m) := by
  obtain ⟨st, s1, r1, r2, np, W, pk, rfl, cf, w1, w2, w3, w4, w5, w6, w7, of⟩ := p0
  have pk0 := pk
  unfold m_pk at pk
  subst p1
  exact ⟨F, m, by omega, by omega, by omega, 24, s1, r1, r2, np, W, pk0, rfl, cf, w2, w1, w4, w5, w6, w7, of⟩
theorem k_cs3 {qn : Int} {wo : Int} {wf : Int} {wn : Int} {wc : Int} {wm : Int} {ws : Int} {wi : Int} {ba : Int → Int} {xa : Int → Int} {xb : Int → Int} {xc : Int → Int} {xd : Int → Int} {xe : Int → Int} {xf : Int → Int} {xg : Int → Int} {xh : Int → Int} (hqn : 0 ≤ qn ∧ qn ≤ 900) (hwo : 2 ≤ wo ∧ wo ≤ 13) (hwf : 1 ≤ wf ∧ wf ≤ 13) (hwn : 0 ≤ wn ∧ wn ≤ 96) (hwc : 0 ≤ wc ∧ wc ≤ 6) (hwm : 0 ≤ wm ∧ wm ≤ 4) (hws : 0 ≤ ws ∧ ws ≤ 6) (hwi : 0 ≤ wi ∧ wi ≤ 8) (hba : ∀ i, -128 ≤ ba i ∧ ba i ≤ 127) (hxe : ∀ i, 0 ≤ xe i ∧ xe i ≤ 12) {F s Y m : Int} (p0 : p_CSN ba qn wo wf wn wc wm wi xa xb xc xd xe xf xg xh (F)) (p1 : m = ws) (c0 : 0 ≤ F + (-281474976710656) * m + (-1) * s + (-65536) * Y + 281474976686080) (c1 : 0 ≤ s + 65536 * Y + (-1) * F + 281474976710656 * m + (-281474976686080)) (c2 : 0 ≤ m + (-1)) (c3 : 0 ≤ (-1) * m + 15) (c4 : 0 ≤ s) (c5 : 0 ≤ (-1) * s + 900) (c6 : 0 ≤ Y) (c7 : 0 ≤ (-1) * Y + 4294967295) : p_CSM ba qn wo wf wn wc wm ws wi xa xb xc xd xe xf xg xh (F + (-281474976710656) * m + 281474976710656) := by
  obtain ⟨y, m0, ey, d1, d2, st, s1, r1, r2, np, W, pk, rfl, cf, em, w1, w4, w5, w6, w7, of⟩ := p0
  have pk0 := pk
  unfold m_pk at pk
  exact ⟨24, s1, r1, r2, np, W, (by unfold m_pk; omega), rfl, cf, by omega, w1, w4, w5, w6, w7, of⟩
theorem k_cs4 {qn : Int} {wo : Int} {wf : Int} {wn : Int} {wc : Int} {wm : Int} {ws : Int} {wi : Int} {wl : Int} {ba : Int → Int} {xa : Int → Int} {xb : Int → Int} {xc : Int → Int} {xd : Int → Int} {xe : Int → Int} {xf : Int → Int} {xg : Int → Int} {xh : Int → Int} (hqn : 0 ≤ qn ∧ qn ≤ 900) (hwo : 2 ≤ wo ∧ wo ≤ 13) (hwf : 1 ≤ wf ∧ wf ≤ 13) (hwn : 0 ≤ wn ∧ wn ≤ 96) (hwc : 0 ≤ wc ∧ wc ≤ 6) (hwm : 0 ≤ wm ∧ wm ≤ 4) (hws : 0 ≤ ws ∧ ws ≤ 6) (hwi : 0 ≤ wi ∧ wi ≤ 8) (hba : ∀ i, -128 ≤ ba i ∧ ba i ≤ 127) (hxe : ∀ i, 0 ≤ xe i ∧ xe i ≤ 12) {F s Y l v w : Int} (p0 : p_CSM ba qn wo wf wn wc wm ws wi xa xb xc xd xe xf xg xh (F)) (p1 : l = wl) (c0 : 0 ≤ F + (-1) * s + (-65536) * Y + (-24576)) (c1 : 0 ≤ s + 65536 * Y + (-1) * F + 24576) (c2 : 0 ≤ l + (-1) * v) (c3 : 0 ≤ v + (-1) * l) (c4 : 0 ≤ Y + (-1) * v + (-65536) * w) (c5 : 0 ≤ v + 65536 * w + (-1) * Y) (c6 : 0 ≤ v) (c7 : 0 ≤ (-1) * v + 65535) (c8 : 0 ≤ w) (c9 : 0 ≤ (-1) * w + 65535) (c10 : 0 ≤ s) (c11 : 0 ≤ (-1) * s + 900) (c12 : 0 ≤ Y) (c13 : 0 ≤ (-1) * Y + 4294967295) : p_CFA ba qn wo wf wn wc wm ws wi wl xa xb xc xd xe xf xg xh (F) := by
  obtain ⟨st, s1, r1, r2, np, W, pk, rfl, cf, em, w1, w4, w5, w6, w7, of⟩ := p0
  have pk0 := pk
  unfold m_pk at pk
  refine ⟨24, s1, r1, r2, np, W, (W.1, W.2.1, m_wcs W, m_wms W, m_wss W ++ [(r1, r2)], m_wfs W), pk0, cf, by decide, rfl, w1, ?_, ?_, w4, w5, w6, w7, fun _ => of (by decide)⟩
  · show ws = m_ln (m_wss W ++ [(r1, r2)]); rw [m_ln_a]; omega
  · show wl = m_lst (m_wss W ++ [(r1, r2)]); rw [m_lst_a]; omega
theorem k_ch1 {qn : Int} {wo : Int} {wf : Int} {wn : Int} {wc : Int} {wm : Int} {ws : Int} {wi : Int} {wl : Int} {ba : Int → Int} {xa : Int → Int} {xb : Int → Int} {xc : Int → Int} {xd : Int → Int} {xe : Int → Int} {xf : Int → Int} {xg : Int → Int} {xh : Int → Int} (hqn : 0 ≤ qn ∧ qn ≤ 900) (hwo : 2 ≤ wo ∧ wo ≤ 13) (hwf : 1 ≤ wf ∧ wf ≤ 13) (hwn : 0 ≤ wn ∧ wn ≤ 96) (hwc : 0 ≤ wc ∧ wc ≤ 6) (hwm : 0 ≤ wm ∧ wm ≤ 4) (hws : 0 ≤ ws ∧ ws ≤ 6) (hwi : 0 ≤ wi ∧ wi ≤ 8) (hba : ∀ i, -128 ≤ ba i ∧ ba i ≤ 127) (hxe : ∀ i, 0 ≤ xe i ∧ xe i ≤ 12) {F s Y v p l : Int} (p0 : p_CF ba qn wo wf wn wc wm ws wi wl xa xb xc xd xe xf xg xh (F)) (p1 : l = wl) (c0 : 0 ≤ F + (-1) * s + (-65536) * Y + (-21504)) (c1 : 0 ≤ s + 65536 * Y + (-1) * F + 21504) (c2 : 0 ≤ Y + (-1) * v + (-65536) * p) (c3 : 0 ≤ v + 65536 * p + (-1) * Y) (c4 : 0 ≤ v) (c5 : 0 ≤ (-1) * v + 65535) (c6 : 0 ≤ p) (c7 : 0 ≤ (-1) * p + 900) (c8 : 0 ≤ v + (-1) * l + (-1)) (c9 : 0 ≤ s) (c10 : 0 ≤ (-1) * s + 900) (c11 : 0 ≤ Y) (c12 : 0 ≤ (-1) * Y + 4294967295) : p_CF ba qn wo wf wn wc wm ws wi wl xa xb xc xd xe xf xg xh (s + 65536 * v + 16384) := by
  obtain ⟨st, s1, r1, r2, np, W, pk, cf, w1, w2, w3, w4, w5, w6, w7, of, pn⟩ := p0
  unfold m_pk at pk
  obtain rfl : s1 = s := by omega
  obtain rfl : st = 21 := by omega
  have AT := m_cf_a cf (by decide)
  rw [show m_stp ba qn (21, s1, r1, r2, np, W) = if m_lst (m_wss W) < r1 then m_go 16 s1 r1 0 np W else m_ht 5 r2 from rfl, if_pos (by omega)] at AT
  exact ⟨16, s1, r1, 0, np, W, (by unfold m_pk; omega), Or.inl ⟨by decide, AT⟩, w1, w2, w3, w4, w5, w6, w7, fun _ => of (by decide), fun h => absurd h (by unfold m_ps; decide)⟩
theorem k_ch2 {qn : Int} {wo : Int} {wf : Int} {wn : Int} {wc : Int} {wm : Int} {ws : Int} {wi : Int} {wl : Int} {ba : Int → Int} {xa : Int → Int} {xb : Int → Int} {xc : Int → Int} {xd : Int → Int} {xe : Int → Int} {xf : Int → Int} {xg : Int → Int} {xh : Int → Int} (hqn : 0 ≤ qn ∧ qn ≤ 900) (hwo : 2 ≤ wo ∧ wo ≤ 13) (hwf : 1 ≤ wf ∧ wf ≤ 13) (hwn : 0 ≤ wn ∧ wn ≤ 96) (hwc : 0 ≤ wc ∧ wc ≤ 6) (hwm : 0 ≤ wm ∧ wm ≤ 4) (hws : 0 ≤ ws ∧ ws ≤ 6) (hwi : 0 ≤ wi ∧ wi ≤ 8) (hba : ∀ i, -128 ≤ ba i ∧ ba i ≤ 127) (hxe : ∀ i, 0 ≤ xe i ∧ xe i ≤ 12) {F s Y v p l : Int} (p0 : p_CF ba qn wo wf wn wc wm ws wi wl xa xb xc xd xe xf xg xh (F)) (p1 : l = wl) (c0 : 0 ≤ F + (-1) * s + (-65536) * Y + (-21504)) (c1 : 0 ≤ s + 65536 * Y + (-1) * F + 21504) (c2 : 0 ≤ Y + (-1) * v + (-65536) * p) (c3 : 0 ≤ v + 65536 * p + (-1) * Y) (c4 : 0 ≤ v) (c5 : 0 ≤ (-1) * v + 65535) (c6 : 0 ≤ p) (c7 : 0 ≤ (-1) * p + 900) (c8 : 0 ≤ l + (-1) * v) (c9 : 0 ≤ s) (c10 : 0 ≤ (-1) * s + 900) (c11 : 0 ≤ Y) (c12 : 0 ≤ (-1) * Y + 4294967295) : p_HF ba qn (8 * p + 5) := by
  obtain ⟨st, s1, r1, r2, np, W, pk, cf, w1, w2, w3, w4, w5, w6, w7, of, pn⟩ := p0
  unfold m_pk at pk
  obtain rfl : s1 = s := by omega
  obtain rfl : st = 21 := by omega
  have AT := m_cf_a cf (by decide)
  rw [show m_stp ba qn (21, s1, r1, r2, np, W) = if m_lst (m_wss W) < r1 then m_go 16 s1 r1 0 np W else m_ht 5 r2 from rfl, if_neg (by omega)] at AT
  exact ⟨5, r2, by omega, by omega, by omega, AT⟩
theorem k_cd1 {qn : Int} {wo : Int} {wf : Int} {wn : Int} {wc : Int} {wm : Int} {ws : Int} {wi : Int} {wl : Int} {ba : Int → Int} {xa : Int → Int} {xb : Int → Int} {xc : Int → Int} {xd : Int → Int} {xe : Int → Int} {xf : Int → Int} {xg : Int → Int} {xh : Int → Int} (hqn : 0 ≤ qn ∧ qn ≤ 900) (hwo : 2 ≤ wo ∧ wo ≤ 13) (hwf : 1 ≤ wf ∧ wf ≤ 13) (hwn : 0 ≤ wn ∧ wn ≤ 96) (hwc : 0 ≤ wc ∧ wc ≤ 6) (hwm : 0 ≤ wm ∧ wm ≤ 4) (hws : 0 ≤ ws ∧ ws ≤ 6) (hwi : 0 ≤ wi ∧ wi ≤ 8) (hba : ∀ i, -128 ≤ ba i ∧ ba i ≤ 127) (hxe : ∀ i, 0 ≤ xe i ∧ xe i ≤ 12) {i z F s Y : Int} (i1 : 0 ≤ i) (i2 : i < 96) (p0 : p_CF ba qn wo wf wn wc wm ws wi wl xa xb xc xd xe xf xg xh (F)) (c0 : 0 ≤ F + (-1) * s + (-65536) * Y + (-25600)) (c1 : 0 ≤ s + 65536 * Y + (-1) * F + 25600) (c2 : 0 ≤ Y + (-1) * i + (-65536) * z) (c3 : 0 ≤ i + 65536 * z + (-1) * Y) (c4 : 0 ≤ z) (c5 : 0 ≤ (-1) * z + 65535) (c6 : 0 ≤ i) (c7 : 0 ≤ (-1) * i + 65535) (c8 : 0 ≤ s) (c9 : 0 ≤ (-1) * s + 900) (c10 : 0 ≤ Y) (c11 : 0 ≤ (-1) * Y + 4294967295) : p_CD1 ba qn wo wf wn wc wm ws wi wl xa xb xc xd xe (m_up xf i z) xg xh (F) := by
  obtain ⟨st, s1, r1, r2, np, W, pk, cf, w1, w2, w3, w4, w5, w6, w7, of, pn⟩ := p0
  unfold m_pk at pk
  obtain rfl : s1 = s := by omega
  obtain rfl : st = 25 := by omega
  obtain rfl : i = r1 := by omega
  obtain rfl : z = r2 := by omega
  exact ⟨25, s1, i, z, np, W, (by unfold m_pk; omega), rfl, cf, w1, w2, w3, w4, w5, w6, m_wk_a w7, of⟩
theorem k_cd2 {qn : Int} {wo : Int} {wf : Int} {wn : Int} {wc : Int} {wm : Int} {ws : Int} {wi : Int} {wl : Int} {ba : Int → Int} {xa : Int → Int} {xb : Int → Int} {xc : Int → Int} {xd : Int → Int} {xe : Int → Int} {xf : Int → Int} {xg : Int → Int} {xh : Int → Int} (hqn : 0 ≤ qn ∧ qn ≤ 900) (hwo : 2 ≤ wo ∧ wo ≤ 13) (hwf : 1 ≤ wf ∧ wf ≤ 13) (hwn : 0 ≤ wn ∧ wn ≤ 96) (hwc : 0 ≤ wc ∧ wc ≤ 6) (hwm : 0 ≤ wm ∧ wm ≤ 4) (hws : 0 ≤ ws ∧ ws ≤ 6) (hwi : 0 ≤ wi ∧ wi ≤ 8) (hba : ∀ i, -128 ≤ ba i ∧ ba i ≤ 127) (hxe : ∀ i, 0 ≤ xe i ∧ xe i ≤ 12) {F s Y m : Int} (p0 : p_CD1 ba qn wo wf wn wc wm ws wi wl xa xb xc xd xe xf xg xh (F)) (p1 : m = wi) (c0 : 0 ≤ F + (-1) * s + (-65536) * Y + (-25600)) (c1 : 0 ≤ s + 65536 * Y + (-1) * F + 25600) (c2 : 0 ≤ m) (c3 : 0 ≤ (-1) * m + 15) (c4 : 0 ≤ s) (c5 : 0 ≤ (-1) * s + 900) (c6 : 0 ≤ Y) (c7 : 0 ≤ (-1) * Y + 4294967295) : p_CDN ba qn wo wf wn wc wm ws wl xa xb xc xd xe xf xg xh (F + 281474976710656 * m) := by
  obtain ⟨st, s1, r1, r2, np, W, pk, rfl, cf, w1, w2, w3, w4, w5, w6, w7, of⟩ := p0
  have pk0 := pk
  unfold m_pk at pk
  subst p1
  exact ⟨F, m, by omega, by omega, by omega, 25, s1, r1, r2, np, W, pk0, rfl, cf, w1, w2, w3, w4, w5, w6, w7, of⟩
theorem k_cd3 {qn : Int} {wo : Int} {wf : Int} {wn : Int} {wc : Int} {wm : Int} {ws : Int} {wi : Int} {wl : Int} {ba : Int → Int} {xa : Int → Int} {xb : Int → Int} {xc : Int → Int} {xd : Int → Int} {xe : Int → Int} {xf : Int → Int} {xg : Int → Int} {xh : Int → Int} (hqn : 0 ≤ qn ∧ qn ≤ 900) (hwo : 2 ≤ wo ∧ wo ≤ 13) (hwf : 1 ≤ wf ∧ wf ≤ 13) (hwn : 0 ≤ wn ∧ wn ≤ 96) (hwc : 0 ≤ wc ∧ wc ≤ 6) (hwm : 0 ≤ wm ∧ wm ≤ 4) (hws : 0 ≤ ws ∧ ws ≤ 6) (hwi : 0 ≤ wi ∧ wi ≤ 8) (hba : ∀ i, -128 ≤ ba i ∧ ba i ≤ 127) (hxe : ∀ i, 0 ≤ xe i ∧ xe i ≤ 12) {F s Y m : Int} (p0 : p_CDN ba qn wo wf wn wc wm ws wl xa xb xc xd xe xf xg xh (F)) (p1 : m = wi) (c0 : 0 ≤ F + (-281474976710656) * m + (-1) * s + (-65536) * Y + 281474976685056) (c1 : 0 ≤ s + 65536 * Y + (-1) * F + 281474976710656 * m + (-281474976685056)) (c2 : 0 ≤ m + (-1)) (c3 : 0 ≤ (-1) * m + 15) (c4 : 0 ≤ s) (c5 : 0 ≤ (-1) * s + 900) (c6 : 0 ≤ Y) (c7 : 0 ≤ (-1) * Y + 4294967295) : p_CFA ba qn wo wf wn wc wm ws wi wl xa xb xc xd xe xf xg xh (F + (-281474976710656) * m + 281474976710656) := by
  obtain ⟨y, m0, ey, d1, d2, st, s1, r1, r2, np, W, pk, rfl, cf, w1, w2, w3, w4, w5, w6, w7, of⟩ := p0
  have pk0 := pk
  unfold m_pk at pk
  obtain rfl : m0 = m + (-1) := by omega
  obtain ⟨g1, g2, g3, g4⟩ := w1
  refine ⟨25, s1, r1, r2, np, W, (W.1, W.2.1, m_wcs W, m_wms W, m_wss W, m_wfs W ++ [(r1, r2)]), (by unfold m_pk; omega), cf, by decide, rfl, ⟨g1, g2, g3, ?_⟩, w2, w3, w4, w5, w6, w7, fun _ => of (by decide)⟩
  show wi = m_ln (m_wfs W ++ [(r1, r2)])
  rw [m_ln_a]
  omega
theorem k_fr {xf : Int → Int} {i z : Int} (zxf : 0 ≤ i - 0 → i - 0 < 96 → xf (i - 0) = z) (c0 : 0 ≤ i) (c1 : 0 ≤ (-1) * i + 95) (c2 : 0 ≤ z + 2147483648) (c3 : 0 ≤ (-1) * z + 2147483647) : p_FR xf (i + 128 * z + 274877906944) := by
  have h2 := zxf (by omega) (by omega)
  rw [show i - 0 = i by omega] at h2
  exact ⟨i, z, by omega, by omega, by omega, by omega, by omega, h2⟩
theorem k_frz {xf : Int → Int} {i z : Int} (zxf : 0 ≤ i - 0 → i - 0 < 96 → xf (i - 0) = z) : p_XW (z) := by
  trivial
theorem k_cf1x {qn : Int} {wo : Int} {wf : Int} {wn : Int} {wc : Int} {wm : Int} {ws : Int} {wi : Int} {wl : Int} {ba : Int → Int} {xa : Int → Int} {xb : Int → Int} {xc : Int → Int} {xd : Int → Int} {xe : Int → Int} {xf : Int → Int} {xg : Int → Int} {xh : Int → Int} (hqn : 0 ≤ qn ∧ qn ≤ 900) (hwo : 2 ≤ wo ∧ wo ≤ 13) (hwf : 1 ≤ wf ∧ wf ≤ 13) (hwn : 0 ≤ wn ∧ wn ≤ 96) (hwc : 0 ≤ wc ∧ wc ≤ 6) (hwm : 0 ≤ wm ∧ wm ≤ 4) (hws : 0 ≤ ws ∧ ws ≤ 6) (hwi : 0 ≤ wi ∧ wi ≤ 8) (hba : ∀ i, -128 ≤ ba i ∧ ba i ≤ 127) (hxe : ∀ i, 0 ≤ xe i ∧ xe i ≤ 12) {F G s Y v p z : Int} (p0 : p_CF ba qn wo wf wn wc wm ws wi wl xa xb xc xd xe xf xg xh (F)) (p1 : p_FR xf (G)) (c0 : 0 ≤ F + (-1) * s + (-65536) * Y + (-22528)) (c1 : 0 ≤ s + 65536 * Y + (-1) * F + 22528) (c2 : 0 ≤ Y + (-1) * v + (-65536) * p) (c3 : 0 ≤ v + 65536 * p + (-1) * Y) (c4 : 0 ≤ v) (c5 : 0 ≤ (-1) * v + 65535) (c6 : 0 ≤ p) (c7 : 0 ≤ (-1) * p + 900) (c8 : 0 ≤ (-1) * v + 95) (c9 : 0 ≤ G + (-1) * v + (-128) * z + (-274877906944)) (c10 : 0 ≤ v + 128 * z + (-1) * G + 274877906944) (c11 : 0 ≤ z + 1) (c12 : 0 ≤ (-1) * z + (-1)) (c13 : 0 ≤ s) (c14 : 0 ≤ (-1) * s + 900) (c15 : 0 ≤ Y) (c16 : 0 ≤ (-1) * Y + 4294967295) : p_CF ba qn wo wf wn wc wm ws wi wl xa xb xc xd xe xf xg xh (s + 65536 * v + 19456) := by
  obtain ⟨st, s1, r1, r2, np, W, pk, cf, w1, w2, w3, w4, w5, w6, w7, of, pn⟩ := p0
  unfold m_pk at pk
  obtain rfl : s1 = s := by omega
  obtain rfl : st = 22 := by omega
  obtain ⟨i0, z0, e0, f1, f2, f3, f4, f5⟩ := p1
  obtain rfl : i0 = r1 := by omega
  have g := w7 i0 (by omega) (by omega)
  have AT := m_cf_a cf (by decide)
  rw [show m_stp ba qn (22, s1, i0, r2, np, W) = if m_has (m_wfs W) i0 = true then m_ht 5 r2 else m_go 19 s1 i0 0 np W from rfl] at AT
  rw [if_neg] at AT
  · exact ⟨19, s1, i0, 0, np, W, (by unfold m_pk; omega), Or.inl ⟨by decide, AT⟩, w1, w2, w3, w4, w5, w6, w7, fun _ => of (by decide), fun h => absurd h (by unfold m_ps; decide)⟩
  · intro hh
    obtain ⟨q0, hq, eq0, lq⟩ := m_lo_y _ _ (m_has_t.mp hh)
    have := (m_cf_j cf (by decide)).2.1 q0 hq
    unfold m_lk at g
    rw [lq] at g
    have g : xf i0 = q0.2 := g
    omega
theorem k_cf2xa {qn : Int} {wo : Int} {wf : Int} {wn : Int} {wc : Int} {wm : Int} {ws : Int} {wi : Int} {wl : Int} {ba : Int → Int} {xa : Int → Int} {xb : Int → Int} {xc : Int → Int} {xd : Int → Int} {xe : Int → Int} {xf : Int → Int} {xg : Int → Int} {xh : Int → Int} (hqn : 0 ≤ qn ∧ qn ≤ 900) (hwo : 2 ≤ wo ∧ wo ≤ 13) (hwf : 1 ≤ wf ∧ wf ≤ 13) (hwn : 0 ≤ wn ∧ wn ≤ 96) (hwc : 0 ≤ wc ∧ wc ≤ 6) (hwm : 0 ≤ wm ∧ wm ≤ 4) (hws : 0 ≤ ws ∧ ws ≤ 6) (hwi : 0 ≤ wi ∧ wi ≤ 8) (hba : ∀ i, -128 ≤ ba i ∧ ba i ≤ 127) (hxe : ∀ i, 0 ≤ xe i ∧ xe i ≤ 12) {F G s Y v p z : Int} (p0 : p_CF ba qn wo wf wn wc wm ws wi wl xa xb xc xd xe xf xg xh (F)) (p1 : p_FR xf (G)) (c0 : 0 ≤ F + (-1) * s + (-65536) * Y + (-22528)) (c1 : 0 ≤ s + 65536 * Y + (-1) * F + 22528) (c2 : 0 ≤ Y + (-1) * v + (-65536) * p) (c3 : 0 ≤ v + 65536 * p + (-1) * Y) (c4 : 0 ≤ v) (c5 : 0 ≤ (-1) * v + 65535) (c6 : 0 ≤ p) (c7 : 0 ≤ (-1) * p + 900) (c8 : 0 ≤ (-1) * v + 95) (c9 : 0 ≤ G + (-1) * v + (-128) * z + (-274877906944)) (c10 : 0 ≤ v + 128 * z + (-1) * G + 274877906944) (c11 : 0 ≤ z) (c12 : 0 ≤ s) (c13 : 0 ≤ (-1) * s + 900) (c14 : 0 ≤ Y) (c15 : 0 ≤ (-1) * Y + 4294967295) : p_HF ba qn (8 * p + 5) := by
  obtain ⟨st, s1, r1, r2, np, W, pk, cf, w1, w2, w3, w4, w5, w6, w7, of, pn⟩ := p0
  unfold m_pk at pk
  obtain rfl : s1 = s := by omega
  obtain rfl : st = 22 := by omega
  obtain ⟨i0, z0, e0, f1, f2, f3, f4, f5⟩ := p1
  obtain rfl : i0 = r1 := by omega
  have g := w7 i0 (by omega) (by omega)
  have AT := m_cf_a cf (by decide)
  rw [show m_stp ba qn (22, s1, i0, r2, np, W) = if m_has (m_wfs W) i0 = true then m_ht 5 r2 else m_go 19 s1 i0 0 np W from rfl] at AT
  rw [if_pos] at AT
  · exact ⟨5, r2, by omega, by omega, by omega, AT⟩
  · rw [m_has_t]
    refine Classical.byContradiction fun hh => ?_
    unfold m_lk at g
    rw [m_lo_n _ _ hh] at g
    have g : xf i0 = -1 := g
    omega
theorem k_cf2xb {qn : Int} {wo : Int} {wf : Int} {wn : Int} {wc : Int} {wm : Int} {ws : Int} {wi : Int} {wl : Int} {ba : Int → Int} {xa : Int → Int} {xb : Int → Int} {xc : Int → Int} {xd : Int → Int} {xe : Int → Int} {xf : Int → Int} {xg : Int → Int} {xh : Int → Int} (hqn : 0 ≤ qn ∧ qn ≤ 900) (hwo : 2 ≤ wo ∧ wo ≤ 13) (hwf : 1 ≤ wf ∧ wf ≤ 13) (hwn : 0 ≤ wn ∧ wn ≤ 96) (hwc : 0 ≤ wc ∧ wc ≤ 6) (hwm : 0 ≤ wm ∧ wm ≤ 4) (hws : 0 ≤ ws ∧ ws ≤ 6) (hwi : 0 ≤ wi ∧ wi ≤ 8) (hba : ∀ i, -128 ≤ ba i ∧ ba i ≤ 127) (hxe : ∀ i, 0 ≤ xe i ∧ xe i ≤ 12) {F G s Y v p z : Int} (p0 : p_CF ba qn wo wf wn wc wm ws wi wl xa xb xc xd xe xf xg xh (F)) (p1 : p_FR xf (G)) (c0 : 0 ≤ F + (-1) * s + (-65536) * Y + (-22528)) (c1 : 0 ≤ s + 65536 * Y + (-1) * F + 22528) (c2 : 0 ≤ Y + (-1) * v + (-65536) * p) (c3 : 0 ≤ v + 65536 * p + (-1) * Y) (c4 : 0 ≤ v) (c5 : 0 ≤ (-1) * v + 65535) (c6 : 0 ≤ p) (c7 : 0 ≤ (-1) * p + 900) (c8 : 0 ≤ (-1) * v + 95) (c9 : 0 ≤ G + (-1) * v + (-128) * z + (-274877906944)) (c10 : 0 ≤ v + 128 * z + (-1) * G + 274877906944) (c11 : 0 ≤ (-1) * z + (-2)) (c12 : 0 ≤ s) (c13 : 0 ≤ (-1) * s + 900) (c14 : 0 ≤ Y) (c15 : 0 ≤ (-1) * Y + 4294967295) : p_HF ba qn (8 * p + 5) := by
  obtain ⟨st, s1, r1, r2, np, W, pk, cf, w1, w2, w3, w4, w5, w6, w7, of, pn⟩ := p0
  unfold m_pk at pk
  obtain rfl : s1 = s := by omega
  obtain rfl : st = 22 := by omega
  obtain ⟨i0, z0, e0, f1, f2, f3, f4, f5⟩ := p1
  obtain rfl : i0 = r1 := by omega
  have g := w7 i0 (by omega) (by omega)
  have AT := m_cf_a cf (by decide)
  rw [show m_stp ba qn (22, s1, i0, r2, np, W) = if m_has (m_wfs W) i0 = true then m_ht 5 r2 else m_go 19 s1 i0 0 np W from rfl] at AT
  rw [if_pos] at AT
  · exact ⟨5, r2, by omega, by omega, by omega, AT⟩
  · rw [m_has_t]
    refine Classical.byContradiction fun hh => ?_
    unfold m_lk at g
    rw [m_lo_n _ _ hh] at g
    have g : xf i0 = -1 := g
    omega
theorem k_qs1 {qn : Int} {wo : Int} {wf : Int} {wn : Int} {wc : Int} {wm : Int} {ws : Int} {wi : Int} {wl : Int} {ba : Int → Int} {xa : Int → Int} {xb : Int → Int} {xc : Int → Int} {xd : Int → Int} {xe : Int → Int} {xf : Int → Int} {xg : Int → Int} {xh : Int → Int} (hqn : 0 ≤ qn ∧ qn ≤ 900) (hwo : 2 ≤ wo ∧ wo ≤ 13) (hwf : 1 ≤ wf ∧ wf ≤ 13) (hwn : 0 ≤ wn ∧ wn ≤ 96) (hwc : 0 ≤ wc ∧ wc ≤ 6) (hwm : 0 ≤ wm ∧ wm ≤ 4) (hws : 0 ≤ ws ∧ ws ≤ 6) (hwi : 0 ≤ wi ∧ wi ≤ 8) (hba : ∀ i, -128 ≤ ba i ∧ ba i ≤ 127) (hxe : ∀ i, 0 ≤ xe i ∧ xe i ≤ 12) {F s Y m : Int} (p0 : p_CF ba qn wo wf wn wc wm ws wi wl xa xb xc xd xe xf xg xh (F)) (p1 : m = ws) (c0 : 0 ≤ F + (-1) * s + (-65536) * Y + (-24576)) (c1 : 0 ≤ s + 65536 * Y + (-1) * F + 24576) (c2 : 0 ≤ s) (c3 : 0 ≤ (-1) * s + 900) (c4 : 0 ≤ Y) (c5 : 0 ≤ (-1) * Y + 4294967295) : 0 ≤ (-1) * m + 5 := by
  obtain ⟨st, s1, r1, r2, np, W, pk, cf, w1, w2, w3, w4, w5, w6, w7, of, pn⟩ := p0
  unfold m_pk at pk
  obtain rfl : s1 = s := by omega
  obtain rfl : st = 24 := by omega
  obtain ⟨⟨i1, i2, i3, i4, i5⟩, -, i8, i9, i10, i11, i12⟩ := (show m_icx 24 r1 W from m_cf_i cf (by decide))
  have g := i10 (by decide)
  omega
theorem k_qd1 {qn : Int} {wo : Int} {wf : Int} {wn : Int} {wc : Int} {wm : Int} {ws : Int} {wi : Int} {wl : Int} {ba : Int → Int} {xa : Int → Int} {xb : Int → Int} {xc : Int → Int} {xd : Int → Int} {xe : Int → Int} {xf : Int → Int} {xg : Int → Int} {xh : Int → Int} (hqn : 0 ≤ qn ∧ qn ≤ 900) (hwo : 2 ≤ wo ∧ wo ≤ 13) (hwf : 1 ≤ wf ∧ wf ≤ 13) (hwn : 0 ≤ wn ∧ wn ≤ 96) (hwc : 0 ≤ wc ∧ wc ≤ 6) (hwm : 0 ≤ wm ∧ wm ≤ 4) (hws : 0 ≤ ws ∧ ws ≤ 6) (hwi : 0 ≤ wi ∧ wi ≤ 8) (hba : ∀ i, -128 ≤ ba i ∧ ba i ≤ 127) (hxe : ∀ i, 0 ≤ xe i ∧ xe i ≤ 12) {F s Y m : Int} (p0 : p_CF ba qn wo wf wn wc wm ws wi wl xa xb xc xd xe xf xg xh (F)) (p1 : m = wi) (c0 : 0 ≤ F + (-1) * s + (-65536) * Y + (-25600)) (c1 : 0 ≤ s + 65536 * Y + (-1) * F + 25600) (c2 : 0 ≤ s) (c3 : 0 ≤ (-1) * s + 900) (c4 : 0 ≤ Y) (c5 : 0 ≤ (-1) * Y + 4294967295) : 0 ≤ (-1) * m + 7 := by
  obtain ⟨st, s1, r1, r2, np, W, pk, cf, w1, w2, w3, w4, w5, w6, w7, of, pn⟩ := p0
  unfold m_pk at pk
  obtain rfl : s1 = s := by omega
  obtain rfl : st = 25 := by omega
  obtain ⟨⟨i1, i2, i3, i4, i5⟩, -, i8, i9, i10, i11, i12⟩ := (show m_icx 25 r1 W from m_cf_i cf (by decide))
  have g := i11 (by decide)
  have := w1.2.2.2
  omega
theorem k_xwz {s q : Int} : p_XW (q + (-1) * s) := by
  trivial
theorem k_qsz {qn : Int} {qk : Int} {qs : Int} {qq : Int} {qv : Int} {ba : Int → Int} (hqn : 0 ≤ qn ∧ qn ≤ 900) (hqk : 0 ≤ qk ∧ qk ≤ 4) (hqs : 0 ≤ qs ∧ qs ≤ 900) (hqq : 0 ≤ qq ∧ qq ≤ 900) (hba : ∀ i, -128 ≤ ba i ∧ ba i ≤ 127) {s q kk : Int} (p0 : p_CU ba qk qs qq qn qv (s)) (p1 : kk = qk) (p2 : q = qq) (c0 : 0 ≤ kk + (-2)) (c1 : 0 ≤ (-1) * kk + 2) (c2 : 0 ≤ s) : 0 ≤ q + (-1) * s + (-1) := by
  obtain ⟨uA, u0, u1, u2, u3⟩ := p0
  have := m_kd2_gt (b := ba) (n := qn) (s := s) (by omega)
  omega
theorem k_nr0 {qn : Int} {ba : Int → Int} (hqn : 0 ≤ qn ∧ qn ≤ 900) (hba : ∀ i, -128 ≤ ba i ∧ ba i ≤ 127) {s : Int} (c0 : 0 ≤ s) (c1 : 0 ≤ (-1) * s + 900) : p_NR ba qn (s) := by
  exact ⟨s, 0, by omega, by omega, by omega, by omega, fun i a => by omega⟩
theorem k_xna {qn : Int} {qk : Int} {qs : Int} {qq : Int} {qv : Int} {ba : Int → Int} (hqn : 0 ≤ qn ∧ qn ≤ 900) (hqk : 0 ≤ qk ∧ qk ≤ 4) (hqs : 0 ≤ qs ∧ qs ≤ 900) (hqq : 0 ≤ qq ∧ qq ≤ 900) (hba : ∀ i, -128 ≤ ba i ∧ ba i ≤ 127) {s q kk : Int} (p0 : p_CU ba qk qs qq qn qv (s)) (p1 : kk = qk) (p2 : q = qq) (c0 : 0 ≤ (-1) * kk + 1) (c1 : 0 ≤ s) (c2 : 0 ≤ (-1) * s + 900) : p_XN ba qn (s) := by
  obtain ⟨uA, u0, u1, u2, u3⟩ := p0
  refine ⟨by omega, ?_⟩
  rw [m_ntz m_nmk_t]
  rintro ⟨k1, k2, k3⟩
  omega
theorem k_xnb {qn : Int} {qk : Int} {qs : Int} {qq : Int} {qv : Int} {ba : Int → Int} (hqn : 0 ≤ qn ∧ qn ≤ 900) (hqk : 0 ≤ qk ∧ qk ≤ 4) (hqs : 0 ≤ qs ∧ qs ≤ 900) (hqq : 0 ≤ qq ∧ qq ≤ 900) (hba : ∀ i, -128 ≤ ba i ∧ ba i ≤ 127) {s q kk : Int} (p0 : p_CU ba qk qs qq qn qv (s)) (p1 : kk = qk) (p2 : q = qq) (c0 : 0 ≤ kk + (-3)) (c1 : 0 ≤ s) (c2 : 0 ≤ (-1) * s + 900) : p_XN ba qn (s) := by
  obtain ⟨uA, u0, u1, u2, u3⟩ := p0
  refine ⟨by omega, ?_⟩
  rw [m_ntz m_nmk_t]
  rintro ⟨k1, k2, k3⟩
  omega
