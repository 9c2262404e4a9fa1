-- 67c4.core: the texts' rules in numbers (printed by wip/p5/gen68.py)
theorem k_cfr24 {rn : Int} {bb : Int → Int} {nw : Int → Int} {ww : Int → Int} (hrn : 0 ≤ rn ∧ rn ≤ 900) (hbb : ∀ i, -128 ≤ bb i ∧ bb i ≤ 127) {H N s Y : Int} (p0 : p_RDR bb rn nw ww (H)) (p1 : p_NXR bb rn (N)) (c0 : 0 ≤ H + (-1) * N + 1024 * s + (-65536) * Y + (-24576)) (c1 : 0 ≤ 65536 * Y + (-1) * H + N + (-1024) * s + 24576) (c2 : 0 ≤ N + (-1024) * s) (c3 : 0 ≤ (-1) * N + 1024 * s + 1023) (c4 : 0 ≤ s) (c5 : 0 ≤ Y) (c6 : 0 ≤ (-1) * Y + 4294967295) : p_CFR bb rn nw ww (H + (-1) * N + 1025 * s) := by
  obtain ⟨st, q1, r1, r2, np, W, pk, cf, wr, ro, xx⟩ := p0
  unfold m_pk at pk
  obtain ⟨e2, q2, y2, n1, n2, n3, n4, n5⟩ := p1
  obtain rfl : q2 = s := by omega
  obtain rfl : e2 = q1 := by omega
  obtain rfl : st = 24 := by omega
  have n6 : q2 ≤ 900 := n5 ▸ m_sk_900 hrn.2 (by omega)
  rw [← n5] at cf
  exact ⟨24, q2, r1, r2, np, W, (by unfold m_pk; omega), cf, wr, ro, xx⟩
theorem k_cfr25 {rn : Int} {bb : Int → Int} {nw : Int → Int} {ww : Int → Int} (hrn : 0 ≤ rn ∧ rn ≤ 900) (hbb : ∀ i, -128 ≤ bb i ∧ bb i ≤ 127) {H N s Y : Int} (p0 : p_RDR bb rn nw ww (H)) (p1 : p_NXR bb rn (N)) (c0 : 0 ≤ H + (-1) * N + 1024 * s + (-65536) * Y + (-25600)) (c1 : 0 ≤ 65536 * Y + (-1) * H + N + (-1024) * s + 25600) (c2 : 0 ≤ N + (-1024) * s) (c3 : 0 ≤ (-1) * N + 1024 * s + 1023) (c4 : 0 ≤ s) (c5 : 0 ≤ Y) (c6 : 0 ≤ (-1) * Y + 4294967295) : p_CFR bb rn nw ww (H + (-1) * N + 1025 * s) := by
  obtain ⟨st, q1, r1, r2, np, W, pk, cf, wr, ro, xx⟩ := p0
  unfold m_pk at pk
  obtain ⟨e2, q2, y2, n1, n2, n3, n4, n5⟩ := p1
  obtain rfl : q2 = s := by omega
  obtain rfl : e2 = q1 := by omega
  obtain rfl : st = 25 := by omega
  have n6 : q2 ≤ 900 := n5 ▸ m_sk_900 hrn.2 (by omega)
  rw [← n5] at cf
  exact ⟨25, q2, r1, r2, np, W, (by unfold m_pk; omega), cf, wr, ro, xx⟩
theorem k_sir {rn : Int} {rk : Int} {rs : Int} {rq : Int} {rv : Int} {rl : Int} {bb : Int → Int} (hrn : 0 ≤ rn ∧ rn ≤ 900) (hrk : 0 ≤ rk ∧ rk ≤ 4) (hrs : 0 ≤ rs ∧ rs ≤ 900) (hrq : 0 ≤ rq ∧ rq ≤ 900) (hbb : ∀ i, -128 ≤ bb i ∧ bb i ≤ 127) {s c kk q v : Int} (p0 : p_CUR bb rn rk rs rq rv rl (s)) (p1 : kk = rk) (p2 : q = rq) (p3 : v = rv) (c0 : 0 ≤ v + (-1) * c) (c1 : 0 ≤ c + (-1) * v) (c2 : 0 ≤ kk + (-3)) (c3 : 0 ≤ (-1) * kk + 3) (c4 : 0 ≤ c) (c5 : 0 ≤ (-1) * c + 255) (c6 : 0 ≤ s) (c7 : 0 ≤ (-1) * s + 900) : p_SIR bb rn (c + 256 * s) := by
  obtain ⟨uA, u0, u1, u2, u3, u4, u5, u6, u7, u8, u9⟩ := p0
  exact ⟨s, c, by omega, by omega, by omega, by omega, by omega, by have := u8 (by omega); omega⟩
theorem k_nsra {rn : Int} {rk : Int} {rs : Int} {rq : Int} {rv : Int} {rl : Int} {bb : Int → Int} (hrn : 0 ≤ rn ∧ rn ≤ 900) (hrk : 0 ≤ rk ∧ rk ≤ 4) (hrs : 0 ≤ rs ∧ rs ≤ 900) (hrq : 0 ≤ rq ∧ rq ≤ 900) (hbb : ∀ i, -128 ≤ bb i ∧ bb i ≤ 127) {s c kk q v : Int} (p0 : p_CUR bb rn rk rs rq rv rl (s)) (p1 : kk = rk) (p2 : q = rq) (p3 : v = rv) (c0 : 0 ≤ v + (-1) * c + (-1)) (c1 : 0 ≤ kk + (-3)) (c2 : 0 ≤ (-1) * kk + 3) (c3 : 0 ≤ c) (c4 : 0 ≤ (-1) * c + 255) (c5 : 0 ≤ s) (c6 : 0 ≤ (-1) * s + 900) : p_NSIR bb rn (c + 256 * s) := by
  obtain ⟨uA, u0, u1, u2, u3, u4, u5, u6, u7, u8, u9⟩ := p0
  exact ⟨s, c, by omega, by omega, by omega, by omega, fun hh => by have := u8 (by omega); have := hh.2; omega⟩
theorem k_nsrb {rn : Int} {rk : Int} {rs : Int} {rq : Int} {rv : Int} {rl : Int} {bb : Int → Int} (hrn : 0 ≤ rn ∧ rn ≤ 900) (hrk : 0 ≤ rk ∧ rk ≤ 4) (hrs : 0 ≤ rs ∧ rs ≤ 900) (hrq : 0 ≤ rq ∧ rq ≤ 900) (hbb : ∀ i, -128 ≤ bb i ∧ bb i ≤ 127) {s c kk q v : Int} (p0 : p_CUR bb rn rk rs rq rv rl (s)) (p1 : kk = rk) (p2 : q = rq) (p3 : v = rv) (c0 : 0 ≤ c + (-1) * v + (-1)) (c1 : 0 ≤ kk + (-3)) (c2 : 0 ≤ (-1) * kk + 3) (c3 : 0 ≤ c) (c4 : 0 ≤ (-1) * c + 255) (c5 : 0 ≤ s) (c6 : 0 ≤ (-1) * s + 900) : p_NSIR bb rn (c + 256 * s) := by
  obtain ⟨uA, u0, u1, u2, u3, u4, u5, u6, u7, u8, u9⟩ := p0
  exact ⟨s, c, by omega, by omega, by omega, by omega, fun hh => by have := u8 (by omega); have := hh.2; omega⟩
theorem k_nsrc {rn : Int} {rk : Int} {rs : Int} {rq : Int} {rv : Int} {rl : Int} {bb : Int → Int} (hrn : 0 ≤ rn ∧ rn ≤ 900) (hrk : 0 ≤ rk ∧ rk ≤ 4) (hrs : 0 ≤ rs ∧ rs ≤ 900) (hrq : 0 ≤ rq ∧ rq ≤ 900) (hbb : ∀ i, -128 ≤ bb i ∧ bb i ≤ 127) {s c kk q v : Int} (p0 : p_CUR bb rn rk rs rq rv rl (s)) (p1 : kk = rk) (p2 : q = rq) (p3 : v = rv) (c0 : 0 ≤ (-1) * kk + 2) (c1 : 0 ≤ c) (c2 : 0 ≤ (-1) * c + 255) (c3 : 0 ≤ s) (c4 : 0 ≤ (-1) * s + 900) : p_NSIR bb rn (c + 256 * s) := by
  obtain ⟨uA, u0, u1, u2, u3, u4, u5, u6, u7, u8, u9⟩ := p0
  exact ⟨s, c, by omega, by omega, by omega, by omega, fun hh => by have := hh.1; omega⟩
theorem k_nsrd {rn : Int} {rk : Int} {rs : Int} {rq : Int} {rv : Int} {rl : Int} {bb : Int → Int} (hrn : 0 ≤ rn ∧ rn ≤ 900) (hrk : 0 ≤ rk ∧ rk ≤ 4) (hrs : 0 ≤ rs ∧ rs ≤ 900) (hrq : 0 ≤ rq ∧ rq ≤ 900) (hbb : ∀ i, -128 ≤ bb i ∧ bb i ≤ 127) {s c kk q v : Int} (p0 : p_CUR bb rn rk rs rq rv rl (s)) (p1 : kk = rk) (p2 : q = rq) (p3 : v = rv) (c0 : 0 ≤ kk + (-4)) (c1 : 0 ≤ c) (c2 : 0 ≤ (-1) * c + 255) (c3 : 0 ≤ s) (c4 : 0 ≤ (-1) * s + 900) : p_NSIR bb rn (c + 256 * s) := by
  obtain ⟨uA, u0, u1, u2, u3, u4, u5, u6, u7, u8, u9⟩ := p0
  exact ⟨s, c, by omega, by omega, by omega, by omega, fun hh => by have := hh.1; omega⟩
theorem k_smr4 {rn : Int} {rk : Int} {rs : Int} {rq : Int} {rv : Int} {rl : Int} {bb : Int → Int} {nw : Int → Int} {ww : Int → Int} (hrn : 0 ≤ rn ∧ rn ≤ 900) (hrk : 0 ≤ rk ∧ rk ≤ 4) (hrs : 0 ≤ rs ∧ rs ≤ 900) (hrq : 0 ≤ rq ∧ rq ≤ 900) (hbb : ∀ i, -128 ≤ bb i ∧ bb i ≤ 127) {F G s q kk Y : Int} (p0 : p_CFAR bb rn nw ww (F)) (p1 : p_SIR bb rn (G)) (p2 : p_CUR bb rn rk rs rq rv rl (s)) (p3 : kk = rk) (p4 : q = rq) (c0 : 0 ≤ F + (-1) * s + (-65536) * Y + (-4096)) (c1 : 0 ≤ s + 65536 * Y + (-1) * F + 4096) (c2 : 0 ≤ G + (-256) * s + (-59)) (c3 : 0 ≤ 256 * s + (-1) * G + 59) (c4 : 0 ≤ q) (c5 : 0 ≤ (-1) * q + 1023) (c6 : 0 ≤ s) (c7 : 0 ≤ (-1) * s + 900) (c8 : 0 ≤ Y) (c9 : 0 ≤ (-1) * Y + 4294967295) : p_RDR bb rn nw ww (q + 5120) := by
  obtain ⟨st, s1, r1, r2, np, W0, pk, cf, sv, wr, ro⟩ := p0
  unfold m_pk at pk
  obtain rfl : s1 = s := by omega
  obtain rfl : st = 4 := by omega
  obtain ⟨s0, c0, y1, y2, y3, y4, hw⟩ := p1
  obtain ⟨rfl, rfl⟩ : s0 = s1 ∧ c0 = 59 := by omega
  have hr := hbb s0
  obtain ⟨uA, u0, u1, u2, u3, u4, u5, u6, u7, u8, u9⟩ := p2
  have AT := m_st_s (o := m_go 5 (m_sk bb rn (m_te bb rn s0)) 0 0 0 (m_cm 4 r1 r2 np W0)) rfl cf (by decide) ⟨hw.1, by have := hw.2; omega⟩
  rw [← u1] at AT
  exact ⟨5, rq, 0, 0, 0, m_cm 4 r1 r2 np W0, (by unfold m_pk; omega), Or.inl ⟨by decide, AT⟩, wr, ro, ⟨fun h => absurd h (by decide), fun h => absurd h (by decide), fun h => absurd h (by unfold m_ps; decide), fun h => absurd h (by decide), fun h => absurd h (by decide)⟩⟩
theorem k_msr4a {rn : Int} {rk : Int} {rs : Int} {rq : Int} {rv : Int} {rl : Int} {bb : Int → Int} {nw : Int → Int} {ww : Int → Int} (hrn : 0 ≤ rn ∧ rn ≤ 900) (hrk : 0 ≤ rk ∧ rk ≤ 4) (hrs : 0 ≤ rs ∧ rs ≤ 900) (hrq : 0 ≤ rq ∧ rq ≤ 900) (hbb : ∀ i, -128 ≤ bb i ∧ bb i ≤ 127) {F G s q kk Y : Int} (p0 : p_CFAR bb rn nw ww (F)) (p1 : p_NSIR bb rn (G)) (p2 : p_CUR bb rn rk rs rq rv rl (s)) (p3 : kk = rk) (p4 : q = rq) (c0 : 0 ≤ F + (-1) * s + (-65536) * Y + (-4096)) (c1 : 0 ≤ s + 65536 * Y + (-1) * F + 4096) (c2 : 0 ≤ G + (-256) * s + (-59)) (c3 : 0 ≤ 256 * s + (-1) * G + 59) (c4 : 0 ≤ kk + (-4)) (c5 : 0 ≤ (-1) * kk + 4) (c6 : 0 ≤ s) (c7 : 0 ≤ (-1) * s + 900) (c8 : 0 ≤ Y) (c9 : 0 ≤ (-1) * Y + 4294967295) : p_HFR bb rn (8 * s + 1) := by
  obtain ⟨st, s1, r1, r2, np, W0, pk, cf, sv, wr, ro⟩ := p0
  unfold m_pk at pk
  obtain rfl : s1 = s := by omega
  obtain rfl : st = 4 := by omega
  obtain ⟨s0, c0, y1, y2, y3, y4, hw⟩ := p1
  obtain ⟨rfl, rfl⟩ : s0 = s1 ∧ c0 = 59 := by omega
  have hr := hbb s0
  obtain ⟨uA, u0, u1, u2, u3, u4, u5, u6, u7, u8, u9⟩ := p2
  exact ⟨1, s0, by omega, by omega, by omega, m_mp1 (m_st_sn (o := m_go 5 (m_sk bb rn (m_te bb rn s0)) 0 0 0 (m_cm 4 r1 r2 np W0)) rfl cf (by decide) (fun hh => hw ⟨hh.1, by rw [hh.2]; decide⟩)) (by omega)⟩
theorem k_msr4b {rn : Int} {rk : Int} {rs : Int} {rq : Int} {rv : Int} {rl : Int} {bb : Int → Int} {nw : Int → Int} {ww : Int → Int} (hrn : 0 ≤ rn ∧ rn ≤ 900) (hrk : 0 ≤ rk ∧ rk ≤ 4) (hrs : 0 ≤ rs ∧ rs ≤ 900) (hrq : 0 ≤ rq ∧ rq ≤ 900) (hbb : ∀ i, -128 ≤ bb i ∧ bb i ≤ 127) {F G s q kk Y : Int} (p0 : p_CFAR bb rn nw ww (F)) (p1 : p_NSIR bb rn (G)) (p2 : p_CUR bb rn rk rs rq rv rl (s)) (p3 : kk = rk) (p4 : q = rq) (c0 : 0 ≤ F + (-1) * s + (-65536) * Y + (-4096)) (c1 : 0 ≤ s + 65536 * Y + (-1) * F + 4096) (c2 : 0 ≤ G + (-256) * s + (-59)) (c3 : 0 ≤ 256 * s + (-1) * G + 59) (c4 : 0 ≤ (-1) * kk + 3) (c5 : 0 ≤ s) (c6 : 0 ≤ (-1) * s + 900) (c7 : 0 ≤ Y) (c8 : 0 ≤ (-1) * Y + 4294967295) : p_HFR bb rn (8 * s + 2) := by
  obtain ⟨st, s1, r1, r2, np, W0, pk, cf, sv, wr, ro⟩ := p0
  unfold m_pk at pk
  obtain rfl : s1 = s := by omega
  obtain rfl : st = 4 := by omega
  obtain ⟨s0, c0, y1, y2, y3, y4, hw⟩ := p1
  obtain ⟨rfl, rfl⟩ : s0 = s1 ∧ c0 = 59 := by omega
  have hr := hbb s0
  obtain ⟨uA, u0, u1, u2, u3, u4, u5, u6, u7, u8, u9⟩ := p2
  exact ⟨2, s0, by omega, by omega, by omega, m_mp2 (m_st_sn (o := m_go 5 (m_sk bb rn (m_te bb rn s0)) 0 0 0 (m_cm 4 r1 r2 np W0)) rfl cf (by decide) (fun hh => hw ⟨hh.1, by rw [hh.2]; decide⟩)) (by omega)⟩
theorem k_smr10 {rn : Int} {rk : Int} {rs : Int} {rq : Int} {rv : Int} {rl : Int} {bb : Int → Int} {nw : Int → Int} {ww : Int → Int} (hrn : 0 ≤ rn ∧ rn ≤ 900) (hrk : 0 ≤ rk ∧ rk ≤ 4) (hrs : 0 ≤ rs ∧ rs ≤ 900) (hrq : 0 ≤ rq ∧ rq ≤ 900) (hbb : ∀ i, -128 ≤ bb i ∧ bb i ≤ 127) {F G s q kk Y : Int} (p0 : p_CFAR bb rn nw ww (F)) (p1 : p_SIR bb rn (G)) (p2 : p_CUR bb rn rk rs rq rv rl (s)) (p3 : kk = rk) (p4 : q = rq) (c0 : 0 ≤ F + (-1) * s + (-65536) * Y + (-10240)) (c1 : 0 ≤ s + 65536 * Y + (-1) * F + 10240) (c2 : 0 ≤ G + (-256) * s + (-59)) (c3 : 0 ≤ 256 * s + (-1) * G + 59) (c4 : 0 ≤ q) (c5 : 0 ≤ (-1) * q + 1023) (c6 : 0 ≤ s) (c7 : 0 ≤ (-1) * s + 900) (c8 : 0 ≤ Y) (c9 : 0 ≤ (-1) * Y + 4294967295) : p_RDR bb rn nw ww (q + 5120) := by
  obtain ⟨st, s1, r1, r2, np, W0, pk, cf, sv, wr, ro⟩ := p0
  unfold m_pk at pk
  obtain rfl : s1 = s := by omega
  obtain rfl : st = 10 := by omega
  obtain ⟨s0, c0, y1, y2, y3, y4, hw⟩ := p1
  obtain ⟨rfl, rfl⟩ : s0 = s1 ∧ c0 = 59 := by omega
  have hr := hbb s0
  obtain ⟨uA, u0, u1, u2, u3, u4, u5, u6, u7, u8, u9⟩ := p2
  have AT := m_st_s (o := m_go 5 (m_sk bb rn (m_te bb rn s0)) 0 0 0 (m_cm 10 r1 r2 np W0)) rfl cf (by decide) ⟨hw.1, by have := hw.2; omega⟩
  rw [← u1] at AT
  exact ⟨5, rq, 0, 0, 0, m_cm 10 r1 r2 np W0, (by unfold m_pk; omega), Or.inl ⟨by decide, AT⟩, wr, ro, ⟨fun h => absurd h (by decide), fun h => absurd h (by decide), fun h => absurd h (by unfold m_ps; decide), fun h => absurd h (by decide), fun h => absurd h (by decide)⟩⟩
theorem k_msr10a {rn : Int} {rk : Int} {rs : Int} {rq : Int} {rv : Int} {rl : Int} {bb : Int → Int} {nw : Int → Int} {ww : Int → Int} (hrn : 0 ≤ rn ∧ rn ≤ 900) (hrk : 0 ≤ rk ∧ rk ≤ 4) (hrs : 0 ≤ rs ∧ rs ≤ 900) (hrq : 0 ≤ rq ∧ rq ≤ 900) (hbb : ∀ i, -128 ≤ bb i ∧ bb i ≤ 127) {F G s q kk Y : Int} (p0 : p_CFAR bb rn nw ww (F)) (p1 : p_NSIR bb rn (G)) (p2 : p_CUR bb rn rk rs rq rv rl (s)) (p3 : kk = rk) (p4 : q = rq) (c0 : 0 ≤ F + (-1) * s + (-65536) * Y + (-10240)) (c1 : 0 ≤ s + 65536 * Y + (-1) * F + 10240) (c2 : 0 ≤ G + (-256) * s + (-59)) (c3 : 0 ≤ 256 * s + (-1) * G + 59) (c4 : 0 ≤ kk + (-4)) (c5 : 0 ≤ (-1) * kk + 4) (c6 : 0 ≤ s) (c7 : 0 ≤ (-1) * s + 900) (c8 : 0 ≤ Y) (c9 : 0 ≤ (-1) * Y + 4294967295) : p_HFR bb rn (8 * s + 1) := by
  obtain ⟨st, s1, r1, r2, np, W0, pk, cf, sv, wr, ro⟩ := p0
  unfold m_pk at pk
  obtain rfl : s1 = s := by omega
  obtain rfl : st = 10 := by omega
  obtain ⟨s0, c0, y1, y2, y3, y4, hw⟩ := p1
  obtain ⟨rfl, rfl⟩ : s0 = s1 ∧ c0 = 59 := by omega
  have hr := hbb s0
  obtain ⟨uA, u0, u1, u2, u3, u4, u5, u6, u7, u8, u9⟩ := p2
  exact ⟨1, s0, by omega, by omega, by omega, m_mp1 (m_st_sn (o := m_go 5 (m_sk bb rn (m_te bb rn s0)) 0 0 0 (m_cm 10 r1 r2 np W0)) rfl cf (by decide) (fun hh => hw ⟨hh.1, by rw [hh.2]; decide⟩)) (by omega)⟩
theorem k_msr10b {rn : Int} {rk : Int} {rs : Int} {rq : Int} {rv : Int} {rl : Int} {bb : Int → Int} {nw : Int → Int} {ww : Int → Int} (hrn : 0 ≤ rn ∧ rn ≤ 900) (hrk : 0 ≤ rk ∧ rk ≤ 4) (hrs : 0 ≤ rs ∧ rs ≤ 900) (hrq : 0 ≤ rq ∧ rq ≤ 900) (hbb : ∀ i, -128 ≤ bb i ∧ bb i ≤ 127) {F G s q kk Y : Int} (p0 : p_CFAR bb rn nw ww (F)) (p1 : p_NSIR bb rn (G)) (p2 : p_CUR bb rn rk rs rq rv rl (s)) (p3 : kk = rk) (p4 : q = rq) (c0 : 0 ≤ F + (-1) * s + (-65536) * Y + (-10240)) (c1 : 0 ≤ s + 65536 * Y + (-1) * F + 10240) (c2 : 0 ≤ G + (-256) * s + (-59)) (c3 : 0 ≤ 256 * s + (-1) * G + 59) (c4 : 0 ≤ (-1) * kk + 3) (c5 : 0 ≤ s) (c6 : 0 ≤ (-1) * s + 900) (c7 : 0 ≤ Y) (c8 : 0 ≤ (-1) * Y + 4294967295) : p_HFR bb rn (8 * s + 2) := by
  obtain ⟨st, s1, r1, r2, np, W0, pk, cf, sv, wr, ro⟩ := p0
  unfold m_pk at pk
  obtain rfl : s1 = s := by omega
  obtain rfl : st = 10 := by omega
  obtain ⟨s0, c0, y1, y2, y3, y4, hw⟩ := p1
  obtain ⟨rfl, rfl⟩ : s0 = s1 ∧ c0 = 59 := by omega
  have hr := hbb s0
  obtain ⟨uA, u0, u1, u2, u3, u4, u5, u6, u7, u8, u9⟩ := p2
  exact ⟨2, s0, by omega, by omega, by omega, m_mp2 (m_st_sn (o := m_go 5 (m_sk bb rn (m_te bb rn s0)) 0 0 0 (m_cm 10 r1 r2 np W0)) rfl cf (by decide) (fun hh => hw ⟨hh.1, by rw [hh.2]; decide⟩)) (by omega)⟩
theorem k_smr23 {rn : Int} {rk : Int} {rs : Int} {rq : Int} {rv : Int} {rl : Int} {bb : Int → Int} {nw : Int → Int} {ww : Int → Int} (hrn : 0 ≤ rn ∧ rn ≤ 900) (hrk : 0 ≤ rk ∧ rk ≤ 4) (hrs : 0 ≤ rs ∧ rs ≤ 900) (hrq : 0 ≤ rq ∧ rq ≤ 900) (hbb : ∀ i, -128 ≤ bb i ∧ bb i ≤ 127) {F G s q kk Y : Int} (p0 : p_CFAR bb rn nw ww (F)) (p1 : p_SIR bb rn (G)) (p2 : p_CUR bb rn rk rs rq rv rl (s)) (p3 : kk = rk) (p4 : q = rq) (c0 : 0 ≤ F + (-1) * s + (-65536) * Y + (-23552)) (c1 : 0 ≤ s + 65536 * Y + (-1) * F + 23552) (c2 : 0 ≤ G + (-256) * s + (-59)) (c3 : 0 ≤ 256 * s + (-1) * G + 59) (c4 : 0 ≤ q) (c5 : 0 ≤ (-1) * q + 1023) (c6 : 0 ≤ s) (c7 : 0 ≤ (-1) * s + 900) (c8 : 0 ≤ Y) (c9 : 0 ≤ (-1) * Y + 4294967295) : p_RDR bb rn nw ww (q + 5120) := by
  obtain ⟨st, s1, r1, r2, np, W0, pk, cf, sv, wr, ro⟩ := p0
  unfold m_pk at pk
  obtain rfl : s1 = s := by omega
  obtain rfl : st = 23 := by omega
  obtain ⟨s0, c0, y1, y2, y3, y4, hw⟩ := p1
  obtain ⟨rfl, rfl⟩ : s0 = s1 ∧ c0 = 59 := by omega
  have hr := hbb s0
  obtain ⟨uA, u0, u1, u2, u3, u4, u5, u6, u7, u8, u9⟩ := p2
  have AT := m_st_s (o := m_go 5 (m_sk bb rn (m_te bb rn s0)) 0 0 0 (m_cm 23 r1 r2 np W0)) rfl cf (by decide) ⟨hw.1, by have := hw.2; omega⟩
  rw [← u1] at AT
  exact ⟨5, rq, 0, 0, 0, m_cm 23 r1 r2 np W0, (by unfold m_pk; omega), Or.inl ⟨by decide, AT⟩, wr, ro, ⟨fun h => absurd h (by decide), fun h => absurd h (by decide), fun h => absurd h (by unfold m_ps; decide), fun h => absurd h (by decide), fun h => absurd h (by decide)⟩⟩
theorem k_msr23a {rn : Int} {rk : Int} {rs : Int} {rq : Int} {rv : Int} {rl : Int} {bb : Int → Int} {nw : Int → Int} {ww : Int → Int} (hrn : 0 ≤ rn ∧ rn ≤ 900) (hrk : 0 ≤ rk ∧ rk ≤ 4) (hrs : 0 ≤ rs ∧ rs ≤ 900) (hrq : 0 ≤ rq ∧ rq ≤ 900) (hbb : ∀ i, -128 ≤ bb i ∧ bb i ≤ 127) {F G s q kk Y : Int} (p0 : p_CFAR bb rn nw ww (F)) (p1 : p_NSIR bb rn (G)) (p2 : p_CUR bb rn rk rs rq rv rl (s)) (p3 : kk = rk) (p4 : q = rq) (c0 : 0 ≤ F + (-1) * s + (-65536) * Y + (-23552)) (c1 : 0 ≤ s + 65536 * Y + (-1) * F + 23552) (c2 : 0 ≤ G + (-256) * s + (-59)) (c3 : 0 ≤ 256 * s + (-1) * G + 59) (c4 : 0 ≤ kk + (-4)) (c5 : 0 ≤ (-1) * kk + 4) (c6 : 0 ≤ s) (c7 : 0 ≤ (-1) * s + 900) (c8 : 0 ≤ Y) (c9 : 0 ≤ (-1) * Y + 4294967295) : p_HFR bb rn (8 * s + 1) := by
  obtain ⟨st, s1, r1, r2, np, W0, pk, cf, sv, wr, ro⟩ := p0
  unfold m_pk at pk
  obtain rfl : s1 = s := by omega
  obtain rfl : st = 23 := by omega
  obtain ⟨s0, c0, y1, y2, y3, y4, hw⟩ := p1
  obtain ⟨rfl, rfl⟩ : s0 = s1 ∧ c0 = 59 := by omega
  have hr := hbb s0
  obtain ⟨uA, u0, u1, u2, u3, u4, u5, u6, u7, u8, u9⟩ := p2
  exact ⟨1, s0, by omega, by omega, by omega, m_mp1 (m_st_sn (o := m_go 5 (m_sk bb rn (m_te bb rn s0)) 0 0 0 (m_cm 23 r1 r2 np W0)) rfl cf (by decide) (fun hh => hw ⟨hh.1, by rw [hh.2]; decide⟩)) (by omega)⟩
theorem k_msr23b {rn : Int} {rk : Int} {rs : Int} {rq : Int} {rv : Int} {rl : Int} {bb : Int → Int} {nw : Int → Int} {ww : Int → Int} (hrn : 0 ≤ rn ∧ rn ≤ 900) (hrk : 0 ≤ rk ∧ rk ≤ 4) (hrs : 0 ≤ rs ∧ rs ≤ 900) (hrq : 0 ≤ rq ∧ rq ≤ 900) (hbb : ∀ i, -128 ≤ bb i ∧ bb i ≤ 127) {F G s q kk Y : Int} (p0 : p_CFAR bb rn nw ww (F)) (p1 : p_NSIR bb rn (G)) (p2 : p_CUR bb rn rk rs rq rv rl (s)) (p3 : kk = rk) (p4 : q = rq) (c0 : 0 ≤ F + (-1) * s + (-65536) * Y + (-23552)) (c1 : 0 ≤ s + 65536 * Y + (-1) * F + 23552) (c2 : 0 ≤ G + (-256) * s + (-59)) (c3 : 0 ≤ 256 * s + (-1) * G + 59) (c4 : 0 ≤ (-1) * kk + 3) (c5 : 0 ≤ s) (c6 : 0 ≤ (-1) * s + 900) (c7 : 0 ≤ Y) (c8 : 0 ≤ (-1) * Y + 4294967295) : p_HFR bb rn (8 * s + 2) := by
  obtain ⟨st, s1, r1, r2, np, W0, pk, cf, sv, wr, ro⟩ := p0
  unfold m_pk at pk
  obtain rfl : s1 = s := by omega
  obtain rfl : st = 23 := by omega
  obtain ⟨s0, c0, y1, y2, y3, y4, hw⟩ := p1
  obtain ⟨rfl, rfl⟩ : s0 = s1 ∧ c0 = 59 := by omega
  have hr := hbb s0
  obtain ⟨uA, u0, u1, u2, u3, u4, u5, u6, u7, u8, u9⟩ := p2
  exact ⟨2, s0, by omega, by omega, by omega, m_mp2 (m_st_sn (o := m_go 5 (m_sk bb rn (m_te bb rn s0)) 0 0 0 (m_cm 23 r1 r2 np W0)) rfl cf (by decide) (fun hh => hw ⟨hh.1, by rw [hh.2]; decide⟩)) (by omega)⟩
theorem k_smr24 {rn : Int} {rk : Int} {rs : Int} {rq : Int} {rv : Int} {rl : Int} {bb : Int → Int} {nw : Int → Int} {ww : Int → Int} (hrn : 0 ≤ rn ∧ rn ≤ 900) (hrk : 0 ≤ rk ∧ rk ≤ 4) (hrs : 0 ≤ rs ∧ rs ≤ 900) (hrq : 0 ≤ rq ∧ rq ≤ 900) (hbb : ∀ i, -128 ≤ bb i ∧ bb i ≤ 127) {F G s q kk Y : Int} (p0 : p_CFAR bb rn nw ww (F)) (p1 : p_SIR bb rn (G)) (p2 : p_CUR bb rn rk rs rq rv rl (s)) (p3 : kk = rk) (p4 : q = rq) (c0 : 0 ≤ F + (-1) * s + (-65536) * Y + (-24576)) (c1 : 0 ≤ s + 65536 * Y + (-1) * F + 24576) (c2 : 0 ≤ G + (-256) * s + (-59)) (c3 : 0 ≤ 256 * s + (-1) * G + 59) (c4 : 0 ≤ q) (c5 : 0 ≤ (-1) * q + 1023) (c6 : 0 ≤ s) (c7 : 0 ≤ (-1) * s + 900) (c8 : 0 ≤ Y) (c9 : 0 ≤ (-1) * Y + 4294967295) : p_RDR bb rn nw ww (q + 5120) := by
  obtain ⟨st, s1, r1, r2, np, W0, pk, cf, sv, wr, ro⟩ := p0
  unfold m_pk at pk
  obtain rfl : s1 = s := by omega
  obtain rfl : st = 24 := by omega
  obtain ⟨s0, c0, y1, y2, y3, y4, hw⟩ := p1
  obtain ⟨rfl, rfl⟩ : s0 = s1 ∧ c0 = 59 := by omega
  have hr := hbb s0
  obtain ⟨uA, u0, u1, u2, u3, u4, u5, u6, u7, u8, u9⟩ := p2
  have AT := m_st_s (o := m_go 5 (m_sk bb rn (m_te bb rn s0)) 0 0 0 (m_cm 24 r1 r2 np W0)) rfl cf (by decide) ⟨hw.1, by have := hw.2; omega⟩
  rw [← u1] at AT
  exact ⟨5, rq, 0, 0, 0, m_cm 24 r1 r2 np W0, (by unfold m_pk; omega), Or.inl ⟨by decide, AT⟩, wr, ro, ⟨fun h => absurd h (by decide), fun h => absurd h (by decide), fun h => absurd h (by unfold m_ps; decide), fun h => absurd h (by decide), fun h => absurd h (by decide)⟩⟩
theorem k_msr24a {rn : Int} {rk : Int} {rs : Int} {rq : Int} {rv : Int} {rl : Int} {bb : Int → Int} {nw : Int → Int} {ww : Int → Int} (hrn : 0 ≤ rn ∧ rn ≤ 900) (hrk : 0 ≤ rk ∧ rk ≤ 4) (hrs : 0 ≤ rs ∧ rs ≤ 900) (hrq : 0 ≤ rq ∧ rq ≤ 900) (hbb : ∀ i, -128 ≤ bb i ∧ bb i ≤ 127) {F G s q kk Y : Int} (p0 : p_CFAR bb rn nw ww (F)) (p1 : p_NSIR bb rn (G)) (p2 : p_CUR bb rn rk rs rq rv rl (s)) (p3 : kk = rk) (p4 : q = rq) (c0 : 0 ≤ F + (-1) * s + (-65536) * Y + (-24576)) (c1 : 0 ≤ s + 65536 * Y + (-1) * F + 24576) (c2 : 0 ≤ G + (-256) * s + (-59)) (c3 : 0 ≤ 256 * s + (-1) * G + 59) (c4 : 0 ≤ kk + (-4)) (c5 : 0 ≤ (-1) * kk + 4) (c6 : 0 ≤ s) (c7 : 0 ≤ (-1) * s + 900) (c8 : 0 ≤ Y) (c9 : 0 ≤ (-1) * Y + 4294967295) : p_HFR bb rn (8 * s + 1) := by
  obtain ⟨st, s1, r1, r2, np, W0, pk, cf, sv, wr, ro⟩ := p0
  unfold m_pk at pk
  obtain rfl : s1 = s := by omega
  obtain rfl : st = 24 := by omega
  obtain ⟨s0, c0, y1, y2, y3, y4, hw⟩ := p1
  obtain ⟨rfl, rfl⟩ : s0 = s1 ∧ c0 = 59 := by omega
  have hr := hbb s0
  obtain ⟨uA, u0, u1, u2, u3, u4, u5, u6, u7, u8, u9⟩ := p2
  exact ⟨1, s0, by omega, by omega, by omega, m_mp1 (m_st_sn (o := m_go 5 (m_sk bb rn (m_te bb rn s0)) 0 0 0 (m_cm 24 r1 r2 np W0)) rfl cf (by decide) (fun hh => hw ⟨hh.1, by rw [hh.2]; decide⟩)) (by omega)⟩
theorem k_msr24b {rn : Int} {rk : Int} {rs : Int} {rq : Int} {rv : Int} {rl : Int} {bb : Int → Int} {nw : Int → Int} {ww : Int → Int} (hrn : 0 ≤ rn ∧ rn ≤ 900) (hrk : 0 ≤ rk ∧ rk ≤ 4) (hrs : 0 ≤ rs ∧ rs ≤ 900) (hrq : 0 ≤ rq ∧ rq ≤ 900) (hbb : ∀ i, -128 ≤ bb i ∧ bb i ≤ 127) {F G s q kk Y : Int} (p0 : p_CFAR bb rn nw ww (F)) (p1 : p_NSIR bb rn (G)) (p2 : p_CUR bb rn rk rs rq rv rl (s)) (p3 : kk = rk) (p4 : q = rq) (c0 : 0 ≤ F + (-1) * s + (-65536) * Y + (-24576)) (c1 : 0 ≤ s + 65536 * Y + (-1) * F + 24576) (c2 : 0 ≤ G + (-256) * s + (-59)) (c3 : 0 ≤ 256 * s + (-1) * G + 59) (c4 : 0 ≤ (-1) * kk + 3) (c5 : 0 ≤ s) (c6 : 0 ≤ (-1) * s + 900) (c7 : 0 ≤ Y) (c8 : 0 ≤ (-1) * Y + 4294967295) : p_HFR bb rn (8 * s + 2) := by
  obtain ⟨st, s1, r1, r2, np, W0, pk, cf, sv, wr, ro⟩ := p0
  unfold m_pk at pk
  obtain rfl : s1 = s := by omega
  obtain rfl : st = 24 := by omega
  obtain ⟨s0, c0, y1, y2, y3, y4, hw⟩ := p1
  obtain ⟨rfl, rfl⟩ : s0 = s1 ∧ c0 = 59 := by omega
  have hr := hbb s0
  obtain ⟨uA, u0, u1, u2, u3, u4, u5, u6, u7, u8, u9⟩ := p2
  exact ⟨2, s0, by omega, by omega, by omega, m_mp2 (m_st_sn (o := m_go 5 (m_sk bb rn (m_te bb rn s0)) 0 0 0 (m_cm 24 r1 r2 np W0)) rfl cf (by decide) (fun hh => hw ⟨hh.1, by rw [hh.2]; decide⟩)) (by omega)⟩
theorem k_smr25 {rn : Int} {rk : Int} {rs : Int} {rq : Int} {rv : Int} {rl : Int} {bb : Int → Int} {nw : Int → Int} {ww : Int → Int} (hrn : 0 ≤ rn ∧ rn ≤ 900) (hrk : 0 ≤ rk ∧ rk ≤ 4) (hrs : 0 ≤ rs ∧ rs ≤ 900) (hrq : 0 ≤ rq ∧ rq ≤ 900) (hbb : ∀ i, -128 ≤ bb i ∧ bb i ≤ 127) {F G s q kk Y : Int} (p0 : p_CFAR bb rn nw ww (F)) (p1 : p_SIR bb rn (G)) (p2 : p_CUR bb rn rk rs rq rv rl (s)) (p3 : kk = rk) (p4 : q = rq) (c0 : 0 ≤ F + (-1) * s + (-65536) * Y + (-25600)) (c1 : 0 ≤ s + 65536 * Y + (-1) * F + 25600) (c2 : 0 ≤ G + (-256) * s + (-59)) (c3 : 0 ≤ 256 * s + (-1) * G + 59) (c4 : 0 ≤ q) (c5 : 0 ≤ (-1) * q + 1023) (c6 : 0 ≤ s) (c7 : 0 ≤ (-1) * s + 900) (c8 : 0 ≤ Y) (c9 : 0 ≤ (-1) * Y + 4294967295) : p_RDR bb rn nw ww (q + 5120) := by
  obtain ⟨st, s1, r1, r2, np, W0, pk, cf, sv, wr, ro⟩ := p0
  unfold m_pk at pk
  obtain rfl : s1 = s := by omega
  obtain rfl : st = 25 := by omega
  obtain ⟨s0, c0, y1, y2, y3, y4, hw⟩ := p1
  obtain ⟨rfl, rfl⟩ : s0 = s1 ∧ c0 = 59 := by omega
  have hr := hbb s0
  obtain ⟨uA, u0, u1, u2, u3, u4, u5, u6, u7, u8, u9⟩ := p2
  have AT := m_st_s (o := m_go 5 (m_sk bb rn (m_te bb rn s0)) 0 0 0 (m_cm 25 r1 r2 np W0)) rfl cf (by decide) ⟨hw.1, by have := hw.2; omega⟩
  rw [← u1] at AT
  exact ⟨5, rq, 0, 0, 0, m_cm 25 r1 r2 np W0, (by unfold m_pk; omega), Or.inl ⟨by decide, AT⟩, wr, ro, ⟨fun h => absurd h (by decide), fun h => absurd h (by decide), fun h => absurd h (by unfold m_ps; decide), fun h => absurd h (by decide), fun h => absurd h (by decide)⟩⟩
theorem k_msr25a {rn : Int} {rk : Int} {rs : Int} {rq : Int} {rv : Int} {rl : Int} {bb : Int → Int} {nw : Int → Int} {ww : Int → Int} (hrn : 0 ≤ rn ∧ rn ≤ 900) (hrk : 0 ≤ rk ∧ rk ≤ 4) (hrs : 0 ≤ rs ∧ rs ≤ 900) (hrq : 0 ≤ rq ∧ rq ≤ 900) (hbb : ∀ i, -128 ≤ bb i ∧ bb i ≤ 127) {F G s q kk Y : Int} (p0 : p_CFAR bb rn nw ww (F)) (p1 : p_NSIR bb rn (G)) (p2 : p_CUR bb rn rk rs rq rv rl (s)) (p3 : kk = rk) (p4 : q = rq) (c0 : 0 ≤ F + (-1) * s + (-65536) * Y + (-25600)) (c1 : 0 ≤ s + 65536 * Y + (-1) * F + 25600) (c2 : 0 ≤ G + (-256) * s + (-59)) (c3 : 0 ≤ 256 * s + (-1) * G + 59) (c4 : 0 ≤ kk + (-4)) (c5 : 0 ≤ (-1) * kk + 4) (c6 : 0 ≤ s) (c7 : 0 ≤ (-1) * s + 900) (c8 : 0 ≤ Y) (c9 : 0 ≤ (-1) * Y + 4294967295) : p_HFR bb rn (8 * s + 1) := by
  obtain ⟨st, s1, r1, r2, np, W0, pk, cf, sv, wr, ro⟩ := p0
  unfold m_pk at pk
  obtain rfl : s1 = s := by omega
  obtain rfl : st = 25 := by omega
  obtain ⟨s0, c0, y1, y2, y3, y4, hw⟩ := p1
  obtain ⟨rfl, rfl⟩ : s0 = s1 ∧ c0 = 59 := by omega
  have hr := hbb s0
  obtain ⟨uA, u0, u1, u2, u3, u4, u5, u6, u7, u8, u9⟩ := p2
  exact ⟨1, s0, by omega, by omega, by omega, m_mp1 (m_st_sn (o := m_go 5 (m_sk bb rn (m_te bb rn s0)) 0 0 0 (m_cm 25 r1 r2 np W0)) rfl cf (by decide) (fun hh => hw ⟨hh.1, by rw [hh.2]; decide⟩)) (by omega)⟩
theorem k_msr25b {rn : Int} {rk : Int} {rs : Int} {rq : Int} {rv : Int} {rl : Int} {bb : Int → Int} {nw : Int → Int} {ww : Int → Int} (hrn : 0 ≤ rn ∧ rn ≤ 900) (hrk : 0 ≤ rk ∧ rk ≤ 4) (hrs : 0 ≤ rs ∧ rs ≤ 900) (hrq : 0 ≤ rq ∧ rq ≤ 900) (hbb : ∀ i, -128 ≤ bb i ∧ bb i ≤ 127) {F G s q kk Y : Int} (p0 : p_CFAR bb rn nw ww (F)) (p1 : p_NSIR bb rn (G)) (p2 : p_CUR bb rn rk rs rq rv rl (s)) (p3 : kk = rk) (p4 : q = rq) (c0 : 0 ≤ F + (-1) * s + (-65536) * Y + (-25600)) (c1 : 0 ≤ s + 65536 * Y + (-1) * F + 25600) (c2 : 0 ≤ G + (-256) * s + (-59)) (c3 : 0 ≤ 256 * s + (-1) * G + 59) (c4 : 0 ≤ (-1) * kk + 3) (c5 : 0 ≤ s) (c6 : 0 ≤ (-1) * s + 900) (c7 : 0 ≤ Y) (c8 : 0 ≤ (-1) * Y + 4294967295) : p_HFR bb rn (8 * s + 2) := by
  obtain ⟨st, s1, r1, r2, np, W0, pk, cf, sv, wr, ro⟩ := p0
  unfold m_pk at pk
  obtain rfl : s1 = s := by omega
  obtain rfl : st = 25 := by omega
  obtain ⟨s0, c0, y1, y2, y3, y4, hw⟩ := p1
  obtain ⟨rfl, rfl⟩ : s0 = s1 ∧ c0 = 59 := by omega
  have hr := hbb s0
  obtain ⟨uA, u0, u1, u2, u3, u4, u5, u6, u7, u8, u9⟩ := p2
  exact ⟨2, s0, by omega, by omega, by omega, m_mp2 (m_st_sn (o := m_go 5 (m_sk bb rn (m_te bb rn s0)) 0 0 0 (m_cm 25 r1 r2 np W0)) rfl cf (by decide) (fun hh => hw ⟨hh.1, by rw [hh.2]; decide⟩)) (by omega)⟩
theorem k_xw5 {rn : Int} {bb : Int → Int} {nw : Int → Int} {ww : Int → Int} (hrn : 0 ≤ rn ∧ rn ≤ 900) (hbb : ∀ i, -128 ≤ bb i ∧ bb i ≤ 127) {F G s : Int} (p0 : p_CFAR bb rn nw ww (F)) (p1 : p_SIR bb rn (G)) (c0 : 0 ≤ s) : p_XW (0) := by
  trivial
theorem k_nur1 {rn : Int} {rk : Int} {rs : Int} {rq : Int} {rv : Int} {rl : Int} {bb : Int → Int} {nw : Int → Int} {ww : Int → Int} (hrn : 0 ≤ rn ∧ rn ≤ 900) (hrk : 0 ≤ rk ∧ rk ≤ 4) (hrs : 0 ≤ rs ∧ rs ≤ 900) (hrq : 0 ≤ rq ∧ rq ≤ 900) (hbb : ∀ i, -128 ≤ bb i ∧ bb i ≤ 127) {F s q kk Y v lw h : Int} (p0 : p_CFR bb rn nw ww (F)) (p1 : p_CUR bb rn rk rs rq rv rl (s)) (p2 : kk = rk) (p3 : q = rq) (p4 : v = rv) (c0 : 0 ≤ F + (-1) * s + (-65536) * Y + (-1024)) (c1 : 0 ≤ s + 65536 * Y + (-1) * F + 1024) (c2 : 0 ≤ lw + (-2)) (c3 : 0 ≤ (-1) * lw + 2) (c4 : 0 ≤ h + (-13)) (c5 : 0 ≤ (-1) * h + 13) (c6 : 0 ≤ kk + (-2)) (c7 : 0 ≤ (-1) * kk + 2) (c8 : 0 ≤ v + (-1) * lw) (c9 : 0 ≤ h + (-1) * v) (c10 : 0 ≤ q) (c11 : 0 ≤ (-1) * q + 1023) (c12 : 0 ≤ v) (c13 : 0 ≤ (-1) * v + 9999) (c14 : 0 ≤ s) (c15 : 0 ≤ (-1) * s + 900) (c16 : 0 ≤ Y) (c17 : 0 ≤ (-1) * Y + 4294967295) : p_RDP bb rn nw ww (q + 65536 * v + 2048) := by
  obtain ⟨st, s1, r1, r2, np, W, pk, cf, wr, ro, ⟨x1, x2, x3, x4, x5⟩⟩ := p0
  unfold m_pk at pk
  obtain rfl : s1 = s := by omega
  obtain rfl : st = 1 := by omega
  obtain ⟨uA, u0, u1, u2, u3, u4, u5, u6, u7, u8, u9⟩ := p1
  have ev := u7 (by omega)
  have AT := m_st_n (lo := 2) (hi := 13) rfl cf (by decide) (by omega) (by omega) (by omega)
  rw [← u1, ← ev] at AT
  exact ⟨2, rq, rv, 0, np, W, (by unfold m_pk; omega), Or.inl ⟨by decide, AT⟩, wr, fun h => absurd h (by decide), ⟨fun h => absurd h (by decide), fun h => absurd h (by unfold m_ps; decide), fun h => absurd h (by decide)⟩⟩
theorem k_nyr1 {rn : Int} {bb : Int → Int} {nw : Int → Int} {ww : Int → Int} (hrn : 0 ≤ rn ∧ rn ≤ 900) (hbb : ∀ i, -128 ≤ bb i ∧ bb i ≤ 127) {F s q kk Y v lw h H : Int} (p0 : p_RDP bb rn nw ww (H)) (c0 : 0 ≤ H + (-1) * q + (-65536) * v + (-2048)) (c1 : 0 ≤ q + 65536 * v + (-1) * H + 2048) : p_XW (v) := by
  trivial
theorem k_nor1a {rn : Int} {rk : Int} {rs : Int} {rq : Int} {rv : Int} {rl : Int} {bb : Int → Int} {nw : Int → Int} {ww : Int → Int} (hrn : 0 ≤ rn ∧ rn ≤ 900) (hrk : 0 ≤ rk ∧ rk ≤ 4) (hrs : 0 ≤ rs ∧ rs ≤ 900) (hrq : 0 ≤ rq ∧ rq ≤ 900) (hbb : ∀ i, -128 ≤ bb i ∧ bb i ≤ 127) {F s q kk Y v lw h : Int} (p0 : p_CFR bb rn nw ww (F)) (p1 : p_CUR bb rn rk rs rq rv rl (s)) (p2 : kk = rk) (p3 : q = rq) (p4 : v = rv) (c0 : 0 ≤ F + (-1) * s + (-65536) * Y + (-1024)) (c1 : 0 ≤ s + 65536 * Y + (-1) * F + 1024) (c2 : 0 ≤ lw + (-2)) (c3 : 0 ≤ (-1) * lw + 2) (c4 : 0 ≤ h + (-13)) (c5 : 0 ≤ (-1) * h + 13) (c6 : 0 ≤ kk + (-2)) (c7 : 0 ≤ (-1) * kk + 2) (c8 : 0 ≤ lw + (-1) * v + (-1)) (c9 : 0 ≤ s) (c10 : 0 ≤ (-1) * s + 900) (c11 : 0 ≤ Y) (c12 : 0 ≤ (-1) * Y + 4294967295) : p_HFR bb rn (8 * s + 4) := by
  obtain ⟨st, s1, r1, r2, np, W, pk, cf, wr, ro, ⟨x1, x2, x3, x4, x5⟩⟩ := p0
  unfold m_pk at pk
  obtain rfl : s1 = s := by omega
  obtain rfl : st = 1 := by omega
  obtain ⟨uA, u0, u1, u2, u3, u4, u5, u6, u7, u8, u9⟩ := p1
  have ev := u7 (by omega)
  exact ⟨4, s1, by omega, by omega, by omega, m_st_n4 (lo := 2) (hi := 13) rfl cf (by decide) (by omega) (Or.inl (by omega))⟩
theorem k_nor1b {rn : Int} {rk : Int} {rs : Int} {rq : Int} {rv : Int} {rl : Int} {bb : Int → Int} {nw : Int → Int} {ww : Int → Int} (hrn : 0 ≤ rn ∧ rn ≤ 900) (hrk : 0 ≤ rk ∧ rk ≤ 4) (hrs : 0 ≤ rs ∧ rs ≤ 900) (hrq : 0 ≤ rq ∧ rq ≤ 900) (hbb : ∀ i, -128 ≤ bb i ∧ bb i ≤ 127) {F s q kk Y v lw h : Int} (p0 : p_CFR bb rn nw ww (F)) (p1 : p_CUR bb rn rk rs rq rv rl (s)) (p2 : kk = rk) (p3 : q = rq) (p4 : v = rv) (c0 : 0 ≤ F + (-1) * s + (-65536) * Y + (-1024)) (c1 : 0 ≤ s + 65536 * Y + (-1) * F + 1024) (c2 : 0 ≤ lw + (-2)) (c3 : 0 ≤ (-1) * lw + 2) (c4 : 0 ≤ h + (-13)) (c5 : 0 ≤ (-1) * h + 13) (c6 : 0 ≤ kk + (-2)) (c7 : 0 ≤ (-1) * kk + 2) (c8 : 0 ≤ v + (-1) * h + (-1)) (c9 : 0 ≤ s) (c10 : 0 ≤ (-1) * s + 900) (c11 : 0 ≤ Y) (c12 : 0 ≤ (-1) * Y + 4294967295) : p_HFR bb rn (8 * s + 4) := by
  obtain ⟨st, s1, r1, r2, np, W, pk, cf, wr, ro, ⟨x1, x2, x3, x4, x5⟩⟩ := p0
  unfold m_pk at pk
  obtain rfl : s1 = s := by omega
  obtain rfl : st = 1 := by omega
  obtain ⟨uA, u0, u1, u2, u3, u4, u5, u6, u7, u8, u9⟩ := p1
  have ev := u7 (by omega)
  exact ⟨4, s1, by omega, by omega, by omega, m_st_n4 (lo := 2) (hi := 13) rfl cf (by decide) (by omega) (Or.inr (by omega))⟩
theorem k_mnr1a {rn : Int} {rk : Int} {rs : Int} {rq : Int} {rv : Int} {rl : Int} {bb : Int → Int} {nw : Int → Int} {ww : Int → Int} (hrn : 0 ≤ rn ∧ rn ≤ 900) (hrk : 0 ≤ rk ∧ rk ≤ 4) (hrs : 0 ≤ rs ∧ rs ≤ 900) (hrq : 0 ≤ rq ∧ rq ≤ 900) (hbb : ∀ i, -128 ≤ bb i ∧ bb i ≤ 127) {F s q kk Y : Int} (p0 : p_CFR bb rn nw ww (F)) (p1 : p_CUR bb rn rk rs rq rv rl (s)) (p2 : kk = rk) (p3 : q = rq) (c0 : 0 ≤ F + (-1) * s + (-65536) * Y + (-1024)) (c1 : 0 ≤ s + 65536 * Y + (-1) * F + 1024) (c2 : 0 ≤ kk + (-4)) (c3 : 0 ≤ s) (c4 : 0 ≤ (-1) * s + 900) (c5 : 0 ≤ Y) (c6 : 0 ≤ (-1) * Y + 4294967295) : p_HFR bb rn (8 * s + 1) := by
  obtain ⟨st, s1, r1, r2, np, W, pk, cf, wr, ro, ⟨x1, x2, x3, x4, x5⟩⟩ := p0
  unfold m_pk at pk
  obtain rfl : s1 = s := by omega
  obtain rfl : st = 1 := by omega
  obtain ⟨uA, u0, u1, u2, u3, u4, u5, u6, u7, u8, u9⟩ := p1
  exact ⟨1, s1, by omega, by omega, by omega, m_mp1 (m_st_nn rfl cf (by decide) (by omega)) (by omega)⟩
theorem k_mnr1b {rn : Int} {rk : Int} {rs : Int} {rq : Int} {rv : Int} {rl : Int} {bb : Int → Int} {nw : Int → Int} {ww : Int → Int} (hrn : 0 ≤ rn ∧ rn ≤ 900) (hrk : 0 ≤ rk ∧ rk ≤ 4) (hrs : 0 ≤ rs ∧ rs ≤ 900) (hrq : 0 ≤ rq ∧ rq ≤ 900) (hbb : ∀ i, -128 ≤ bb i ∧ bb i ≤ 127) {F s q kk Y : Int} (p0 : p_CFR bb rn nw ww (F)) (p1 : p_CUR bb rn rk rs rq rv rl (s)) (p2 : kk = rk) (p3 : q = rq) (c0 : 0 ≤ F + (-1) * s + (-65536) * Y + (-1024)) (c1 : 0 ≤ s + 65536 * Y + (-1) * F + 1024) (c2 : 0 ≤ (-1) * kk + 1) (c3 : 0 ≤ s) (c4 : 0 ≤ (-1) * s + 900) (c5 : 0 ≤ Y) (c6 : 0 ≤ (-1) * Y + 4294967295) : p_HFR bb rn (8 * s + 2) := by
  obtain ⟨st, s1, r1, r2, np, W, pk, cf, wr, ro, ⟨x1, x2, x3, x4, x5⟩⟩ := p0
  unfold m_pk at pk
  obtain rfl : s1 = s := by omega
  obtain rfl : st = 1 := by omega
  obtain ⟨uA, u0, u1, u2, u3, u4, u5, u6, u7, u8, u9⟩ := p1
  exact ⟨2, s1, by omega, by omega, by omega, m_mp2 (m_st_nn rfl cf (by decide) (by omega)) (by omega)⟩
theorem k_mnr1c {rn : Int} {rk : Int} {rs : Int} {rq : Int} {rv : Int} {rl : Int} {bb : Int → Int} {nw : Int → Int} {ww : Int → Int} (hrn : 0 ≤ rn ∧ rn ≤ 900) (hrk : 0 ≤ rk ∧ rk ≤ 4) (hrs : 0 ≤ rs ∧ rs ≤ 900) (hrq : 0 ≤ rq ∧ rq ≤ 900) (hbb : ∀ i, -128 ≤ bb i ∧ bb i ≤ 127) {F s q kk Y : Int} (p0 : p_CFR bb rn nw ww (F)) (p1 : p_CUR bb rn rk rs rq rv rl (s)) (p2 : kk = rk) (p3 : q = rq) (c0 : 0 ≤ F + (-1) * s + (-65536) * Y + (-1024)) (c1 : 0 ≤ s + 65536 * Y + (-1) * F + 1024) (c2 : 0 ≤ kk + (-3)) (c3 : 0 ≤ (-1) * kk + 3) (c4 : 0 ≤ s) (c5 : 0 ≤ (-1) * s + 900) (c6 : 0 ≤ Y) (c7 : 0 ≤ (-1) * Y + 4294967295) : p_HFR bb rn (8 * s + 2) := by
  obtain ⟨st, s1, r1, r2, np, W, pk, cf, wr, ro, ⟨x1, x2, x3, x4, x5⟩⟩ := p0
  unfold m_pk at pk
  obtain rfl : s1 = s := by omega
  obtain rfl : st = 1 := by omega
  obtain ⟨uA, u0, u1, u2, u3, u4, u5, u6, u7, u8, u9⟩ := p1
  exact ⟨2, s1, by omega, by omega, by omega, m_mp2 (m_st_nn rfl cf (by decide) (by omega)) (by omega)⟩
theorem k_nur3 {rn : Int} {rk : Int} {rs : Int} {rq : Int} {rv : Int} {rl : Int} {bb : Int → Int} {nw : Int → Int} {ww : Int → Int} (hrn : 0 ≤ rn ∧ rn ≤ 900) (hrk : 0 ≤ rk ∧ rk ≤ 4) (hrs : 0 ≤ rs ∧ rs ≤ 900) (hrq : 0 ≤ rq ∧ rq ≤ 900) (hbb : ∀ i, -128 ≤ bb i ∧ bb i ≤ 127) {F s q kk Y v lw h : Int} (p0 : p_CFR bb rn nw ww (F)) (p1 : p_CUR bb rn rk rs rq rv rl (s)) (p2 : kk = rk) (p3 : q = rq) (p4 : v = rv) (c0 : 0 ≤ F + (-1) * s + (-65536) * Y + (-3072)) (c1 : 0 ≤ s + 65536 * Y + (-1) * F + 3072) (c2 : 0 ≤ lw + (-1)) (c3 : 0 ≤ (-1) * lw + 1) (c4 : 0 ≤ Y + (-1) * h) (c5 : 0 ≤ h + (-1) * Y) (c6 : 0 ≤ kk + (-2)) (c7 : 0 ≤ (-1) * kk + 2) (c8 : 0 ≤ v + (-1) * lw) (c9 : 0 ≤ h + (-1) * v) (c10 : 0 ≤ q) (c11 : 0 ≤ (-1) * q + 1023) (c12 : 0 ≤ v) (c13 : 0 ≤ (-1) * v + 9999) (c14 : 0 ≤ (-1) * Y + 65535) (c15 : 0 ≤ s) (c16 : 0 ≤ (-1) * s + 900) (c17 : 0 ≤ Y) (c18 : 0 ≤ (-1) * Y + 4294967295) : p_RDP bb rn nw ww (q + 65536 * Y + 4294967296 * v + 4096) := by
  obtain ⟨st, s1, r1, r2, np, W, pk, cf, wr, ro, ⟨x1, x2, x3, x4, x5⟩⟩ := p0
  unfold m_pk at pk
  obtain rfl : s1 = s := by omega
  obtain rfl : st = 3 := by omega
  obtain ⟨uA, u0, u1, u2, u3, u4, u5, u6, u7, u8, u9⟩ := p1
  have ev := u7 (by omega)
  have AT := m_st_n (lo := 1) (hi := r1) rfl cf (by decide) (by omega) (by omega) (by omega)
  rw [← u1, ← ev] at AT
  exact ⟨4, rq, r1, rv, np, W, (by unfold m_pk; omega), Or.inl ⟨by decide, AT⟩, wr, fun h => absurd h (by decide), ⟨fun _ => x1 (by decide), fun h => absurd h (by unfold m_ps; decide), fun h => absurd h (by decide)⟩⟩
theorem k_nyr3 {rn : Int} {bb : Int → Int} {nw : Int → Int} {ww : Int → Int} (hrn : 0 ≤ rn ∧ rn ≤ 900) (hbb : ∀ i, -128 ≤ bb i ∧ bb i ≤ 127) {F s q kk Y v lw h H : Int} (p0 : p_RDP bb rn nw ww (H)) (c0 : 0 ≤ H + (-1) * q + (-65536) * Y + (-4294967296) * v + (-4096)) (c1 : 0 ≤ q + 65536 * Y + 4294967296 * v + (-1) * H + 4096) : p_XW (Y + 65536 * v) := by
  trivial
theorem k_nor3a {rn : Int} {rk : Int} {rs : Int} {rq : Int} {rv : Int} {rl : Int} {bb : Int → Int} {nw : Int → Int} {ww : Int → Int} (hrn : 0 ≤ rn ∧ rn ≤ 900) (hrk : 0 ≤ rk ∧ rk ≤ 4) (hrs : 0 ≤ rs ∧ rs ≤ 900) (hrq : 0 ≤ rq ∧ rq ≤ 900) (hbb : ∀ i, -128 ≤ bb i ∧ bb i ≤ 127) {F s q kk Y v lw h : Int} (p0 : p_CFR bb rn nw ww (F)) (p1 : p_CUR bb rn rk rs rq rv rl (s)) (p2 : kk = rk) (p3 : q = rq) (p4 : v = rv) (c0 : 0 ≤ F + (-1) * s + (-65536) * Y + (-3072)) (c1 : 0 ≤ s + 65536 * Y + (-1) * F + 3072) (c2 : 0 ≤ lw + (-1)) (c3 : 0 ≤ (-1) * lw + 1) (c4 : 0 ≤ Y + (-1) * h) (c5 : 0 ≤ h + (-1) * Y) (c6 : 0 ≤ kk + (-2)) (c7 : 0 ≤ (-1) * kk + 2) (c8 : 0 ≤ lw + (-1) * v + (-1)) (c9 : 0 ≤ s) (c10 : 0 ≤ (-1) * s + 900) (c11 : 0 ≤ Y) (c12 : 0 ≤ (-1) * Y + 4294967295) : p_HFR bb rn (8 * s + 4) := by
  obtain ⟨st, s1, r1, r2, np, W, pk, cf, wr, ro, ⟨x1, x2, x3, x4, x5⟩⟩ := p0
  unfold m_pk at pk
  obtain rfl : s1 = s := by omega
  obtain rfl : st = 3 := by omega
  obtain ⟨uA, u0, u1, u2, u3, u4, u5, u6, u7, u8, u9⟩ := p1
  have ev := u7 (by omega)
  exact ⟨4, s1, by omega, by omega, by omega, m_st_n4 (lo := 1) (hi := r1) rfl cf (by decide) (by omega) (Or.inl (by omega))⟩
theorem k_nor3b {rn : Int} {rk : Int} {rs : Int} {rq : Int} {rv : Int} {rl : Int} {bb : Int → Int} {nw : Int → Int} {ww : Int → Int} (hrn : 0 ≤ rn ∧ rn ≤ 900) (hrk : 0 ≤ rk ∧ rk ≤ 4) (hrs : 0 ≤ rs ∧ rs ≤ 900) (hrq : 0 ≤ rq ∧ rq ≤ 900) (hbb : ∀ i, -128 ≤ bb i ∧ bb i ≤ 127) {F s q kk Y v lw h : Int} (p0 : p_CFR bb rn nw ww (F)) (p1 : p_CUR bb rn rk rs rq rv rl (s)) (p2 : kk = rk) (p3 : q = rq) (p4 : v = rv) (c0 : 0 ≤ F + (-1) * s + (-65536) * Y + (-3072)) (c1 : 0 ≤ s + 65536 * Y + (-1) * F + 3072) (c2 : 0 ≤ lw + (-1)) (c3 : 0 ≤ (-1) * lw + 1) (c4 : 0 ≤ Y + (-1) * h) (c5 : 0 ≤ h + (-1) * Y) (c6 : 0 ≤ kk + (-2)) (c7 : 0 ≤ (-1) * kk + 2) (c8 : 0 ≤ v + (-1) * h + (-1)) (c9 : 0 ≤ s) (c10 : 0 ≤ (-1) * s + 900) (c11 : 0 ≤ Y) (c12 : 0 ≤ (-1) * Y + 4294967295) : p_HFR bb rn (8 * s + 4) := by
  obtain ⟨st, s1, r1, r2, np, W, pk, cf, wr, ro, ⟨x1, x2, x3, x4, x5⟩⟩ := p0
  unfold m_pk at pk
  obtain rfl : s1 = s := by omega
  obtain rfl : st = 3 := by omega
  obtain ⟨uA, u0, u1, u2, u3, u4, u5, u6, u7, u8, u9⟩ := p1
  have ev := u7 (by omega)
  exact ⟨4, s1, by omega, by omega, by omega, m_st_n4 (lo := 1) (hi := r1) rfl cf (by decide) (by omega) (Or.inr (by omega))⟩
theorem k_mnr3a {rn : Int} {rk : Int} {rs : Int} {rq : Int} {rv : Int} {rl : Int} {bb : Int → Int} {nw : Int → Int} {ww : Int → Int} (hrn : 0 ≤ rn ∧ rn ≤ 900) (hrk : 0 ≤ rk ∧ rk ≤ 4) (hrs : 0 ≤ rs ∧ rs ≤ 900) (hrq : 0 ≤ rq ∧ rq ≤ 900) (hbb : ∀ i, -128 ≤ bb i ∧ bb i ≤ 127) {F s q kk Y : Int} (p0 : p_CFR bb rn nw ww (F)) (p1 : p_CUR bb rn rk rs rq rv rl (s)) (p2 : kk = rk) (p3 : q = rq) (c0 : 0 ≤ F + (-1) * s + (-65536) * Y + (-3072)) (c1 : 0 ≤ s + 65536 * Y + (-1) * F + 3072) (c2 : 0 ≤ kk + (-4)) (c3 : 0 ≤ s) (c4 : 0 ≤ (-1) * s + 900) (c5 : 0 ≤ Y) (c6 : 0 ≤ (-1) * Y + 4294967295) : p_HFR bb rn (8 * s + 1) := by
  obtain ⟨st, s1, r1, r2, np, W, pk, cf, wr, ro, ⟨x1, x2, x3, x4, x5⟩⟩ := p0
  unfold m_pk at pk
  obtain rfl : s1 = s := by omega
  obtain rfl : st = 3 := by omega
  obtain ⟨uA, u0, u1, u2, u3, u4, u5, u6, u7, u8, u9⟩ := p1
  exact ⟨1, s1, by omega, by omega, by omega, m_mp1 (m_st_nn rfl cf (by decide) (by omega)) (by omega)⟩
theorem k_mnr3b {rn : Int} {rk : Int} {rs : Int} {rq : Int} {rv : Int} {rl : Int} {bb : Int → Int} {nw : Int → Int} {ww : Int → Int} (hrn : 0 ≤ rn ∧ rn ≤ 900) (hrk : 0 ≤ rk ∧ rk ≤ 4) (hrs : 0 ≤ rs ∧ rs ≤ 900) (hrq : 0 ≤ rq ∧ rq ≤ 900) (hbb : ∀ i, -128 ≤ bb i ∧ bb i ≤ 127) {F s q kk Y : Int} (p0 : p_CFR bb rn nw ww (F)) (p1 : p_CUR bb rn rk rs rq rv rl (s)) (p2 : kk = rk) (p3 : q = rq) (c0 : 0 ≤ F + (-1) * s + (-65536) * Y + (-3072)) (c1 : 0 ≤ s + 65536 * Y + (-1) * F + 3072) (c2 : 0 ≤ (-1) * kk + 1) (c3 : 0 ≤ s) (c4 : 0 ≤ (-1) * s + 900) (c5 : 0 ≤ Y) (c6 : 0 ≤ (-1) * Y + 4294967295) : p_HFR bb rn (8 * s + 2) := by
  obtain ⟨st, s1, r1, r2, np, W, pk, cf, wr, ro, ⟨x1, x2, x3, x4, x5⟩⟩ := p0
  unfold m_pk at pk
  obtain rfl : s1 = s := by omega
  obtain rfl : st = 3 := by omega
  obtain ⟨uA, u0, u1, u2, u3, u4, u5, u6, u7, u8, u9⟩ := p1
  exact ⟨2, s1, by omega, by omega, by omega, m_mp2 (m_st_nn rfl cf (by decide) (by omega)) (by omega)⟩
theorem k_mnr3c {rn : Int} {rk : Int} {rs : Int} {rq : Int} {rv : Int} {rl : Int} {bb : Int → Int} {nw : Int → Int} {ww : Int → Int} (hrn : 0 ≤ rn ∧ rn ≤ 900) (hrk : 0 ≤ rk ∧ rk ≤ 4) (hrs : 0 ≤ rs ∧ rs ≤ 900) (hrq : 0 ≤ rq ∧ rq ≤ 900) (hbb : ∀ i, -128 ≤ bb i ∧ bb i ≤ 127) {F s q kk Y : Int} (p0 : p_CFR bb rn nw ww (F)) (p1 : p_CUR bb rn rk rs rq rv rl (s)) (p2 : kk = rk) (p3 : q = rq) (c0 : 0 ≤ F + (-1) * s + (-65536) * Y + (-3072)) (c1 : 0 ≤ s + 65536 * Y + (-1) * F + 3072) (c2 : 0 ≤ kk + (-3)) (c3 : 0 ≤ (-1) * kk + 3) (c4 : 0 ≤ s) (c5 : 0 ≤ (-1) * s + 900) (c6 : 0 ≤ Y) (c7 : 0 ≤ (-1) * Y + 4294967295) : p_HFR bb rn (8 * s + 2) := by
  obtain ⟨st, s1, r1, r2, np, W, pk, cf, wr, ro, ⟨x1, x2, x3, x4, x5⟩⟩ := p0
  unfold m_pk at pk
  obtain rfl : s1 = s := by omega
  obtain rfl : st = 3 := by omega
  obtain ⟨uA, u0, u1, u2, u3, u4, u5, u6, u7, u8, u9⟩ := p1
  exact ⟨2, s1, by omega, by omega, by omega, m_mp2 (m_st_nn rfl cf (by decide) (by omega)) (by omega)⟩
theorem k_nur6 {rn : Int} {rk : Int} {rs : Int} {rq : Int} {rv : Int} {rl : Int} {bb : Int → Int} {nw : Int → Int} {ww : Int → Int} (hrn : 0 ≤ rn ∧ rn ≤ 900) (hrk : 0 ≤ rk ∧ rk ≤ 4) (hrs : 0 ≤ rs ∧ rs ≤ 900) (hrq : 0 ≤ rq ∧ rq ≤ 900) (hbb : ∀ i, -128 ≤ bb i ∧ bb i ≤ 127) {F s q kk Y v lw h : Int} (p0 : p_CFR bb rn nw ww (F)) (p1 : p_CUR bb rn rk rs rq rv rl (s)) (p2 : kk = rk) (p3 : q = rq) (p4 : v = rv) (c0 : 0 ≤ F + (-1) * s + (-65536) * Y + (-6144)) (c1 : 0 ≤ s + 65536 * Y + (-1) * F + 6144) (c2 : 0 ≤ lw + (-1)) (c3 : 0 ≤ (-1) * lw + 1) (c4 : 0 ≤ h + (-16)) (c5 : 0 ≤ (-1) * h + 16) (c6 : 0 ≤ kk + (-2)) (c7 : 0 ≤ (-1) * kk + 2) (c8 : 0 ≤ v + (-1) * lw) (c9 : 0 ≤ h + (-1) * v) (c10 : 0 ≤ q) (c11 : 0 ≤ (-1) * q + 1023) (c12 : 0 ≤ v) (c13 : 0 ≤ (-1) * v + 9999) (c14 : 0 ≤ s) (c15 : 0 ≤ (-1) * s + 900) (c16 : 0 ≤ Y) (c17 : 0 ≤ (-1) * Y + 4294967295) : p_RDR bb rn nw ww (q + 65536 * v + 10240) := by
  obtain ⟨st, s1, r1, r2, np, W, pk, cf, wr, ro, ⟨x1, x2, x3, x4, x5⟩⟩ := p0
  unfold m_pk at pk
  obtain rfl : s1 = s := by omega
  obtain rfl : st = 6 := by omega
  obtain ⟨uA, u0, u1, u2, u3, u4, u5, u6, u7, u8, u9⟩ := p1
  have ev := u7 (by omega)
  have AT := m_st_n (lo := 1) (hi := 16) rfl cf (by decide) (by omega) (by omega) (by omega)
  rw [← u1, ← ev] at AT
  exact ⟨10, rq, rv, 0, np, W, (by unfold m_pk; omega), Or.inl ⟨by decide, AT⟩, wr, fun _ => ro (by decide), ⟨fun h => absurd h (by decide), fun h => absurd h (by decide), fun h => absurd h (by unfold m_ps; decide), fun h => absurd h (by decide), fun h => absurd h (by decide)⟩⟩
theorem k_nyr6 {rn : Int} {bb : Int → Int} {nw : Int → Int} {ww : Int → Int} (hrn : 0 ≤ rn ∧ rn ≤ 900) (hbb : ∀ i, -128 ≤ bb i ∧ bb i ≤ 127) {F s q kk Y v lw h H : Int} (p0 : p_RDR bb rn nw ww (H)) (c0 : 0 ≤ H + (-1) * q + (-65536) * v + (-10240)) (c1 : 0 ≤ q + 65536 * v + (-1) * H + 10240) : p_XW (v) := by
  trivial
theorem k_nor6a {rn : Int} {rk : Int} {rs : Int} {rq : Int} {rv : Int} {rl : Int} {bb : Int → Int} {nw : Int → Int} {ww : Int → Int} (hrn : 0 ≤ rn ∧ rn ≤ 900) (hrk : 0 ≤ rk ∧ rk ≤ 4) (hrs : 0 ≤ rs ∧ rs ≤ 900) (hrq : 0 ≤ rq ∧ rq ≤ 900) (hbb : ∀ i, -128 ≤ bb i ∧ bb i ≤ 127) {F s q kk Y v lw h : Int} (p0 : p_CFR bb rn nw ww (F)) (p1 : p_CUR bb rn rk rs rq rv rl (s)) (p2 : kk = rk) (p3 : q = rq) (p4 : v = rv) (c0 : 0 ≤ F + (-1) * s + (-65536) * Y + (-6144)) (c1 : 0 ≤ s + 65536 * Y + (-1) * F + 6144) (c2 : 0 ≤ lw + (-1)) (c3 : 0 ≤ (-1) * lw + 1) (c4 : 0 ≤ h + (-16)) (c5 : 0 ≤ (-1) * h + 16) (c6 : 0 ≤ kk + (-2)) (c7 : 0 ≤ (-1) * kk + 2) (c8 : 0 ≤ lw + (-1) * v + (-1)) (c9 : 0 ≤ s) (c10 : 0 ≤ (-1) * s + 900) (c11 : 0 ≤ Y) (c12 : 0 ≤ (-1) * Y + 4294967295) : p_HFR bb rn (8 * s + 4) := by
  obtain ⟨st, s1, r1, r2, np, W, pk, cf, wr, ro, ⟨x1, x2, x3, x4, x5⟩⟩ := p0
  unfold m_pk at pk
  obtain rfl : s1 = s := by omega
  obtain rfl : st = 6 := by omega
  obtain ⟨uA, u0, u1, u2, u3, u4, u5, u6, u7, u8, u9⟩ := p1
  have ev := u7 (by omega)
  exact ⟨4, s1, by omega, by omega, by omega, m_st_n4 (lo := 1) (hi := 16) rfl cf (by decide) (by omega) (Or.inl (by omega))⟩
theorem k_nor6b {rn : Int} {rk : Int} {rs : Int} {rq : Int} {rv : Int} {rl : Int} {bb : Int → Int} {nw : Int → Int} {ww : Int → Int} (hrn : 0 ≤ rn ∧ rn ≤ 900) (hrk : 0 ≤ rk ∧ rk ≤ 4) (hrs : 0 ≤ rs ∧ rs ≤ 900) (hrq : 0 ≤ rq ∧ rq ≤ 900) (hbb : ∀ i, -128 ≤ bb i ∧ bb i ≤ 127) {F s q kk Y v lw h : Int} (p0 : p_CFR bb rn nw ww (F)) (p1 : p_CUR bb rn rk rs rq rv rl (s)) (p2 : kk = rk) (p3 : q = rq) (p4 : v = rv) (c0 : 0 ≤ F + (-1) * s + (-65536) * Y + (-6144)) (c1 : 0 ≤ s + 65536 * Y + (-1) * F + 6144) (c2 : 0 ≤ lw + (-1)) (c3 : 0 ≤ (-1) * lw + 1) (c4 : 0 ≤ h + (-16)) (c5 : 0 ≤ (-1) * h + 16) (c6 : 0 ≤ kk + (-2)) (c7 : 0 ≤ (-1) * kk + 2) (c8 : 0 ≤ v + (-1) * h + (-1)) (c9 : 0 ≤ s) (c10 : 0 ≤ (-1) * s + 900) (c11 : 0 ≤ Y) (c12 : 0 ≤ (-1) * Y + 4294967295) : p_HFR bb rn (8 * s + 4) := by
  obtain ⟨st, s1, r1, r2, np, W, pk, cf, wr, ro, ⟨x1, x2, x3, x4, x5⟩⟩ := p0
  unfold m_pk at pk
  obtain rfl : s1 = s := by omega
  obtain rfl : st = 6 := by omega
  obtain ⟨uA, u0, u1, u2, u3, u4, u5, u6, u7, u8, u9⟩ := p1
  have ev := u7 (by omega)
  exact ⟨4, s1, by omega, by omega, by omega, m_st_n4 (lo := 1) (hi := 16) rfl cf (by decide) (by omega) (Or.inr (by omega))⟩
theorem k_mnr6a {rn : Int} {rk : Int} {rs : Int} {rq : Int} {rv : Int} {rl : Int} {bb : Int → Int} {nw : Int → Int} {ww : Int → Int} (hrn : 0 ≤ rn ∧ rn ≤ 900) (hrk : 0 ≤ rk ∧ rk ≤ 4) (hrs : 0 ≤ rs ∧ rs ≤ 900) (hrq : 0 ≤ rq ∧ rq ≤ 900) (hbb : ∀ i, -128 ≤ bb i ∧ bb i ≤ 127) {F s q kk Y : Int} (p0 : p_CFR bb rn nw ww (F)) (p1 : p_CUR bb rn rk rs rq rv rl (s)) (p2 : kk = rk) (p3 : q = rq) (c0 : 0 ≤ F + (-1) * s + (-65536) * Y + (-6144)) (c1 : 0 ≤ s + 65536 * Y + (-1) * F + 6144) (c2 : 0 ≤ kk + (-4)) (c3 : 0 ≤ s) (c4 : 0 ≤ (-1) * s + 900) (c5 : 0 ≤ Y) (c6 : 0 ≤ (-1) * Y + 4294967295) : p_HFR bb rn (8 * s + 1) := by
  obtain ⟨st, s1, r1, r2, np, W, pk, cf, wr, ro, ⟨x1, x2, x3, x4, x5⟩⟩ := p0
  unfold m_pk at pk
  obtain rfl : s1 = s := by omega
  obtain rfl : st = 6 := by omega
  obtain ⟨uA, u0, u1, u2, u3, u4, u5, u6, u7, u8, u9⟩ := p1
  exact ⟨1, s1, by omega, by omega, by omega, m_mp1 (m_st_nn rfl cf (by decide) (by omega)) (by omega)⟩
theorem k_mnr6b {rn : Int} {rk : Int} {rs : Int} {rq : Int} {rv : Int} {rl : Int} {bb : Int → Int} {nw : Int → Int} {ww : Int → Int} (hrn : 0 ≤ rn ∧ rn ≤ 900) (hrk : 0 ≤ rk ∧ rk ≤ 4) (hrs : 0 ≤ rs ∧ rs ≤ 900) (hrq : 0 ≤ rq ∧ rq ≤ 900) (hbb : ∀ i, -128 ≤ bb i ∧ bb i ≤ 127) {F s q kk Y : Int} (p0 : p_CFR bb rn nw ww (F)) (p1 : p_CUR bb rn rk rs rq rv rl (s)) (p2 : kk = rk) (p3 : q = rq) (c0 : 0 ≤ F + (-1) * s + (-65536) * Y + (-6144)) (c1 : 0 ≤ s + 65536 * Y + (-1) * F + 6144) (c2 : 0 ≤ (-1) * kk + 1) (c3 : 0 ≤ s) (c4 : 0 ≤ (-1) * s + 900) (c5 : 0 ≤ Y) (c6 : 0 ≤ (-1) * Y + 4294967295) : p_HFR bb rn (8 * s + 2) := by
  obtain ⟨st, s1, r1, r2, np, W, pk, cf, wr, ro, ⟨x1, x2, x3, x4, x5⟩⟩ := p0
  unfold m_pk at pk
  obtain rfl : s1 = s := by omega
  obtain rfl : st = 6 := by omega
  obtain ⟨uA, u0, u1, u2, u3, u4, u5, u6, u7, u8, u9⟩ := p1
  exact ⟨2, s1, by omega, by omega, by omega, m_mp2 (m_st_nn rfl cf (by decide) (by omega)) (by omega)⟩
theorem k_mnr6c {rn : Int} {rk : Int} {rs : Int} {rq : Int} {rv : Int} {rl : Int} {bb : Int → Int} {nw : Int → Int} {ww : Int → Int} (hrn : 0 ≤ rn ∧ rn ≤ 900) (hrk : 0 ≤ rk ∧ rk ≤ 4) (hrs : 0 ≤ rs ∧ rs ≤ 900) (hrq : 0 ≤ rq ∧ rq ≤ 900) (hbb : ∀ i, -128 ≤ bb i ∧ bb i ≤ 127) {F s q kk Y : Int} (p0 : p_CFR bb rn nw ww (F)) (p1 : p_CUR bb rn rk rs rq rv rl (s)) (p2 : kk = rk) (p3 : q = rq) (c0 : 0 ≤ F + (-1) * s + (-65536) * Y + (-6144)) (c1 : 0 ≤ s + 65536 * Y + (-1) * F + 6144) (c2 : 0 ≤ kk + (-3)) (c3 : 0 ≤ (-1) * kk + 3) (c4 : 0 ≤ s) (c5 : 0 ≤ (-1) * s + 900) (c6 : 0 ≤ Y) (c7 : 0 ≤ (-1) * Y + 4294967295) : p_HFR bb rn (8 * s + 2) := by
  obtain ⟨st, s1, r1, r2, np, W, pk, cf, wr, ro, ⟨x1, x2, x3, x4, x5⟩⟩ := p0
  unfold m_pk at pk
  obtain rfl : s1 = s := by omega
  obtain rfl : st = 6 := by omega
  obtain ⟨uA, u0, u1, u2, u3, u4, u5, u6, u7, u8, u9⟩ := p1
  exact ⟨2, s1, by omega, by omega, by omega, m_mp2 (m_st_nn rfl cf (by decide) (by omega)) (by omega)⟩
theorem k_nur12 {rn : Int} {rk : Int} {rs : Int} {rq : Int} {rv : Int} {rl : Int} {bb : Int → Int} {nw : Int → Int} {ww : Int → Int} (hrn : 0 ≤ rn ∧ rn ≤ 900) (hrk : 0 ≤ rk ∧ rk ≤ 4) (hrs : 0 ≤ rs ∧ rs ≤ 900) (hrq : 0 ≤ rq ∧ rq ≤ 900) (hbb : ∀ i, -128 ≤ bb i ∧ bb i ≤ 127) {F s q kk Y v lw h : Int} (p0 : p_CFR bb rn nw ww (F)) (p1 : p_CUR bb rn rk rs rq rv rl (s)) (p2 : kk = rk) (p3 : q = rq) (p4 : v = rv) (c0 : 0 ≤ F + (-1) * s + (-65536) * Y + (-12288)) (c1 : 0 ≤ s + 65536 * Y + (-1) * F + 12288) (c2 : 0 ≤ lw + (-1)) (c3 : 0 ≤ (-1) * lw + 1) (c4 : 0 ≤ h + (-96)) (c5 : 0 ≤ (-1) * h + 96) (c6 : 0 ≤ kk + (-2)) (c7 : 0 ≤ (-1) * kk + 2) (c8 : 0 ≤ v + (-1) * lw) (c9 : 0 ≤ h + (-1) * v) (c10 : 0 ≤ q) (c11 : 0 ≤ (-1) * q + 1023) (c12 : 0 ≤ v) (c13 : 0 ≤ (-1) * v + 9999) (c14 : 0 ≤ s) (c15 : 0 ≤ (-1) * s + 900) (c16 : 0 ≤ Y) (c17 : 0 ≤ (-1) * Y + 4294967295) : p_RDP bb rn nw ww (q + 65536 * v + 13312) := by
  obtain ⟨st, s1, r1, r2, np, W, pk, cf, wr, ro, ⟨x1, x2, x3, x4, x5⟩⟩ := p0
  unfold m_pk at pk
  obtain rfl : s1 = s := by omega
  obtain rfl : st = 12 := by omega
  obtain ⟨uA, u0, u1, u2, u3, u4, u5, u6, u7, u8, u9⟩ := p1
  have ev := u7 (by omega)
  have AT := m_st_n (lo := 1) (hi := 96) rfl cf (by decide) (by omega) (by omega) (by omega)
  rw [← u1, ← ev] at AT
  exact ⟨13, rq, rv, 0, np, W, (by unfold m_pk; omega), Or.inl ⟨by decide, AT⟩, wr, fun _ => ro (by decide), ⟨fun h => absurd h (by decide), fun _ => x3 (by unfold m_ps; decide), fun h => absurd h (by decide)⟩⟩
theorem k_nyr12 {rn : Int} {bb : Int → Int} {nw : Int → Int} {ww : Int → Int} (hrn : 0 ≤ rn ∧ rn ≤ 900) (hbb : ∀ i, -128 ≤ bb i ∧ bb i ≤ 127) {F s q kk Y v lw h H : Int} (p0 : p_RDP bb rn nw ww (H)) (c0 : 0 ≤ H + (-1) * q + (-65536) * v + (-13312)) (c1 : 0 ≤ q + 65536 * v + (-1) * H + 13312) : p_XW (v) := by
  trivial
theorem k_nor12a {rn : Int} {rk : Int} {rs : Int} {rq : Int} {rv : Int} {rl : Int} {bb : Int → Int} {nw : Int → Int} {ww : Int → Int} (hrn : 0 ≤ rn ∧ rn ≤ 900) (hrk : 0 ≤ rk ∧ rk ≤ 4) (hrs : 0 ≤ rs ∧ rs ≤ 900) (hrq : 0 ≤ rq ∧ rq ≤ 900) (hbb : ∀ i, -128 ≤ bb i ∧ bb i ≤ 127) {F s q kk Y v lw h : Int} (p0 : p_CFR bb rn nw ww (F)) (p1 : p_CUR bb rn rk rs rq rv rl (s)) (p2 : kk = rk) (p3 : q = rq) (p4 : v = rv) (c0 : 0 ≤ F + (-1) * s + (-65536) * Y + (-12288)) (c1 : 0 ≤ s + 65536 * Y + (-1) * F + 12288) (c2 : 0 ≤ lw + (-1)) (c3 : 0 ≤ (-1) * lw + 1) (c4 : 0 ≤ h + (-96)) (c5 : 0 ≤ (-1) * h + 96) (c6 : 0 ≤ kk + (-2)) (c7 : 0 ≤ (-1) * kk + 2) (c8 : 0 ≤ lw + (-1) * v + (-1)) (c9 : 0 ≤ s) (c10 : 0 ≤ (-1) * s + 900) (c11 : 0 ≤ Y) (c12 : 0 ≤ (-1) * Y + 4294967295) : p_HFR bb rn (8 * s + 4) := by
  obtain ⟨st, s1, r1, r2, np, W, pk, cf, wr, ro, ⟨x1, x2, x3, x4, x5⟩⟩ := p0
  unfold m_pk at pk
  obtain rfl : s1 = s := by omega
  obtain rfl : st = 12 := by omega
  obtain ⟨uA, u0, u1, u2, u3, u4, u5, u6, u7, u8, u9⟩ := p1
  have ev := u7 (by omega)
  exact ⟨4, s1, by omega, by omega, by omega, m_st_n4 (lo := 1) (hi := 96) rfl cf (by decide) (by omega) (Or.inl (by omega))⟩
theorem k_nor12b {rn : Int} {rk : Int} {rs : Int} {rq : Int} {rv : Int} {rl : Int} {bb : Int → Int} {nw : Int → Int} {ww : Int → Int} (hrn : 0 ≤ rn ∧ rn ≤ 900) (hrk : 0 ≤ rk ∧ rk ≤ 4) (hrs : 0 ≤ rs ∧ rs ≤ 900) (hrq : 0 ≤ rq ∧ rq ≤ 900) (hbb : ∀ i, -128 ≤ bb i ∧ bb i ≤ 127) {F s q kk Y v lw h : Int} (p0 : p_CFR bb rn nw ww (F)) (p1 : p_CUR bb rn rk rs rq rv rl (s)) (p2 : kk = rk) (p3 : q = rq) (p4 : v = rv) (c0 : 0 ≤ F + (-1) * s + (-65536) * Y + (-12288)) (c1 : 0 ≤ s + 65536 * Y + (-1) * F + 12288) (c2 : 0 ≤ lw + (-1)) (c3 : 0 ≤ (-1) * lw + 1) (c4 : 0 ≤ h + (-96)) (c5 : 0 ≤ (-1) * h + 96) (c6 : 0 ≤ kk + (-2)) (c7 : 0 ≤ (-1) * kk + 2) (c8 : 0 ≤ v + (-1) * h + (-1)) (c9 : 0 ≤ s) (c10 : 0 ≤ (-1) * s + 900) (c11 : 0 ≤ Y) (c12 : 0 ≤ (-1) * Y + 4294967295) : p_HFR bb rn (8 * s + 4) := by
  obtain ⟨st, s1, r1, r2, np, W, pk, cf, wr, ro, ⟨x1, x2, x3, x4, x5⟩⟩ := p0
  unfold m_pk at pk
  obtain rfl : s1 = s := by omega
  obtain rfl : st = 12 := by omega
  obtain ⟨uA, u0, u1, u2, u3, u4, u5, u6, u7, u8, u9⟩ := p1
  have ev := u7 (by omega)
  exact ⟨4, s1, by omega, by omega, by omega, m_st_n4 (lo := 1) (hi := 96) rfl cf (by decide) (by omega) (Or.inr (by omega))⟩
theorem k_mnr12a {rn : Int} {rk : Int} {rs : Int} {rq : Int} {rv : Int} {rl : Int} {bb : Int → Int} {nw : Int → Int} {ww : Int → Int} (hrn : 0 ≤ rn ∧ rn ≤ 900) (hrk : 0 ≤ rk ∧ rk ≤ 4) (hrs : 0 ≤ rs ∧ rs ≤ 900) (hrq : 0 ≤ rq ∧ rq ≤ 900) (hbb : ∀ i, -128 ≤ bb i ∧ bb i ≤ 127) {F s q kk Y : Int} (p0 : p_CFR bb rn nw ww (F)) (p1 : p_CUR bb rn rk rs rq rv rl (s)) (p2 : kk = rk) (p3 : q = rq) (c0 : 0 ≤ F + (-1) * s + (-65536) * Y + (-12288)) (c1 : 0 ≤ s + 65536 * Y + (-1) * F + 12288) (c2 : 0 ≤ kk + (-4)) (c3 : 0 ≤ s) (c4 : 0 ≤ (-1) * s + 900) (c5 : 0 ≤ Y) (c6 : 0 ≤ (-1) * Y + 4294967295) : p_HFR bb rn (8 * s + 1) := by
  obtain ⟨st, s1, r1, r2, np, W, pk, cf, wr, ro, ⟨x1, x2, x3, x4, x5⟩⟩ := p0
  unfold m_pk at pk
  obtain rfl : s1 = s := by omega
  obtain rfl : st = 12 := by omega
  obtain ⟨uA, u0, u1, u2, u3, u4, u5, u6, u7, u8, u9⟩ := p1
  exact ⟨1, s1, by omega, by omega, by omega, m_mp1 (m_st_nn rfl cf (by decide) (by omega)) (by omega)⟩
theorem k_mnr12b {rn : Int} {rk : Int} {rs : Int} {rq : Int} {rv : Int} {rl : Int} {bb : Int → Int} {nw : Int → Int} {ww : Int → Int} (hrn : 0 ≤ rn ∧ rn ≤ 900) (hrk : 0 ≤ rk ∧ rk ≤ 4) (hrs : 0 ≤ rs ∧ rs ≤ 900) (hrq : 0 ≤ rq ∧ rq ≤ 900) (hbb : ∀ i, -128 ≤ bb i ∧ bb i ≤ 127) {F s q kk Y : Int} (p0 : p_CFR bb rn nw ww (F)) (p1 : p_CUR bb rn rk rs rq rv rl (s)) (p2 : kk = rk) (p3 : q = rq) (c0 : 0 ≤ F + (-1) * s + (-65536) * Y + (-12288)) (c1 : 0 ≤ s + 65536 * Y + (-1) * F + 12288) (c2 : 0 ≤ (-1) * kk + 1) (c3 : 0 ≤ s) (c4 : 0 ≤ (-1) * s + 900) (c5 : 0 ≤ Y) (c6 : 0 ≤ (-1) * Y + 4294967295) : p_HFR bb rn (8 * s + 2) := by
  obtain ⟨st, s1, r1, r2, np, W, pk, cf, wr, ro, ⟨x1, x2, x3, x4, x5⟩⟩ := p0
  unfold m_pk at pk
  obtain rfl : s1 = s := by omega
  obtain rfl : st = 12 := by omega
  obtain ⟨uA, u0, u1, u2, u3, u4, u5, u6, u7, u8, u9⟩ := p1
  exact ⟨2, s1, by omega, by omega, by omega, m_mp2 (m_st_nn rfl cf (by decide) (by omega)) (by omega)⟩
theorem k_mnr12c {rn : Int} {rk : Int} {rs : Int} {rq : Int} {rv : Int} {rl : Int} {bb : Int → Int} {nw : Int → Int} {ww : Int → Int} (hrn : 0 ≤ rn ∧ rn ≤ 900) (hrk : 0 ≤ rk ∧ rk ≤ 4) (hrs : 0 ≤ rs ∧ rs ≤ 900) (hrq : 0 ≤ rq ∧ rq ≤ 900) (hbb : ∀ i, -128 ≤ bb i ∧ bb i ≤ 127) {F s q kk Y : Int} (p0 : p_CFR bb rn nw ww (F)) (p1 : p_CUR bb rn rk rs rq rv rl (s)) (p2 : kk = rk) (p3 : q = rq) (c0 : 0 ≤ F + (-1) * s + (-65536) * Y + (-12288)) (c1 : 0 ≤ s + 65536 * Y + (-1) * F + 12288) (c2 : 0 ≤ kk + (-3)) (c3 : 0 ≤ (-1) * kk + 3) (c4 : 0 ≤ s) (c5 : 0 ≤ (-1) * s + 900) (c6 : 0 ≤ Y) (c7 : 0 ≤ (-1) * Y + 4294967295) : p_HFR bb rn (8 * s + 2) := by
  obtain ⟨st, s1, r1, r2, np, W, pk, cf, wr, ro, ⟨x1, x2, x3, x4, x5⟩⟩ := p0
  unfold m_pk at pk
  obtain rfl : s1 = s := by omega
  obtain rfl : st = 12 := by omega
  obtain ⟨uA, u0, u1, u2, u3, u4, u5, u6, u7, u8, u9⟩ := p1
  exact ⟨2, s1, by omega, by omega, by omega, m_mp2 (m_st_nn rfl cf (by decide) (by omega)) (by omega)⟩
theorem k_nur14 {rn : Int} {rk : Int} {rs : Int} {rq : Int} {rv : Int} {rl : Int} {bb : Int → Int} {nw : Int → Int} {ww : Int → Int} (hrn : 0 ≤ rn ∧ rn ≤ 900) (hrk : 0 ≤ rk ∧ rk ≤ 4) (hrs : 0 ≤ rs ∧ rs ≤ 900) (hrq : 0 ≤ rq ∧ rq ≤ 900) (hbb : ∀ i, -128 ≤ bb i ∧ bb i ≤ 127) {F s q kk Y v lw h : Int} (p0 : p_CFR bb rn nw ww (F)) (p1 : p_CUR bb rn rk rs rq rv rl (s)) (p2 : kk = rk) (p3 : q = rq) (p4 : v = rv) (c0 : 0 ≤ F + (-1) * s + (-65536) * Y + (-14336)) (c1 : 0 ≤ s + 65536 * Y + (-1) * F + 14336) (c2 : 0 ≤ lw + (-1)) (c3 : 0 ≤ (-1) * lw + 1) (c4 : 0 ≤ h + (-9)) (c5 : 0 ≤ (-1) * h + 9) (c6 : 0 ≤ kk + (-2)) (c7 : 0 ≤ (-1) * kk + 2) (c8 : 0 ≤ v + (-1) * lw) (c9 : 0 ≤ h + (-1) * v) (c10 : 0 ≤ q) (c11 : 0 ≤ (-1) * q + 1023) (c12 : 0 ≤ v) (c13 : 0 ≤ (-1) * v + 9999) (c14 : 0 ≤ (-1) * Y + 65535) (c15 : 0 ≤ s) (c16 : 0 ≤ (-1) * s + 900) (c17 : 0 ≤ Y) (c18 : 0 ≤ (-1) * Y + 4294967295) : p_RDP bb rn nw ww (q + 65536 * Y + 4294967296 * v + 23552) := by
  obtain ⟨st, s1, r1, r2, np, W, pk, cf, wr, ro, ⟨x1, x2, x3, x4, x5⟩⟩ := p0
  unfold m_pk at pk
  obtain rfl : s1 = s := by omega
  obtain rfl : st = 14 := by omega
  obtain ⟨uA, u0, u1, u2, u3, u4, u5, u6, u7, u8, u9⟩ := p1
  have ev := u7 (by omega)
  have AT := m_st_n (lo := 1) (hi := 9) rfl cf (by decide) (by omega) (by omega) (by omega)
  rw [← u1, ← ev] at AT
  exact ⟨23, rq, r1, rv, np, W, (by unfold m_pk; omega), Or.inl ⟨by decide, AT⟩, wr, fun _ => ro (by decide), ⟨fun h => absurd h (by decide), fun _ => x3 (by unfold m_ps; decide), fun _ => x4 (by decide)⟩⟩
theorem k_nyr14 {rn : Int} {bb : Int → Int} {nw : Int → Int} {ww : Int → Int} (hrn : 0 ≤ rn ∧ rn ≤ 900) (hbb : ∀ i, -128 ≤ bb i ∧ bb i ≤ 127) {F s q kk Y v lw h H : Int} (p0 : p_RDP bb rn nw ww (H)) (c0 : 0 ≤ H + (-1) * q + (-65536) * Y + (-4294967296) * v + (-23552)) (c1 : 0 ≤ q + 65536 * Y + 4294967296 * v + (-1) * H + 23552) : p_XW (Y + 65536 * v) := by
  trivial
theorem k_nor14a {rn : Int} {rk : Int} {rs : Int} {rq : Int} {rv : Int} {rl : Int} {bb : Int → Int} {nw : Int → Int} {ww : Int → Int} (hrn : 0 ≤ rn ∧ rn ≤ 900) (hrk : 0 ≤ rk ∧ rk ≤ 4) (hrs : 0 ≤ rs ∧ rs ≤ 900) (hrq : 0 ≤ rq ∧ rq ≤ 900) (hbb : ∀ i, -128 ≤ bb i ∧ bb i ≤ 127) {F s q kk Y v lw h : Int} (p0 : p_CFR bb rn nw ww (F)) (p1 : p_CUR bb rn rk rs rq rv rl (s)) (p2 : kk = rk) (p3 : q = rq) (p4 : v = rv) (c0 : 0 ≤ F + (-1) * s + (-65536) * Y + (-14336)) (c1 : 0 ≤ s + 65536 * Y + (-1) * F + 14336) (c2 : 0 ≤ lw + (-1)) (c3 : 0 ≤ (-1) * lw + 1) (c4 : 0 ≤ h + (-9)) (c5 : 0 ≤ (-1) * h + 9) (c6 : 0 ≤ kk + (-2)) (c7 : 0 ≤ (-1) * kk + 2) (c8 : 0 ≤ lw + (-1) * v + (-1)) (c9 : 0 ≤ s) (c10 : 0 ≤ (-1) * s + 900) (c11 : 0 ≤ Y) (c12 : 0 ≤ (-1) * Y + 4294967295) : p_HFR bb rn (8 * s + 4) := by
  obtain ⟨st, s1, r1, r2, np, W, pk, cf, wr, ro, ⟨x1, x2, x3, x4, x5⟩⟩ := p0
  unfold m_pk at pk
  obtain rfl : s1 = s := by omega
  obtain rfl : st = 14 := by omega
  obtain ⟨uA, u0, u1, u2, u3, u4, u5, u6, u7, u8, u9⟩ := p1
  have ev := u7 (by omega)
  exact ⟨4, s1, by omega, by omega, by omega, m_st_n4 (lo := 1) (hi := 9) rfl cf (by decide) (by omega) (Or.inl (by omega))⟩
theorem k_nor14b {rn : Int} {rk : Int} {rs : Int} {rq : Int} {rv : Int} {rl : Int} {bb : Int → Int} {nw : Int → Int} {ww : Int → Int} (hrn : 0 ≤ rn ∧ rn ≤ 900) (hrk : 0 ≤ rk ∧ rk ≤ 4) (hrs : 0 ≤ rs ∧ rs ≤ 900) (hrq : 0 ≤ rq ∧ rq ≤ 900) (hbb : ∀ i, -128 ≤ bb i ∧ bb i ≤ 127) {F s q kk Y v lw h : Int} (p0 : p_CFR bb rn nw ww (F)) (p1 : p_CUR bb rn rk rs rq rv rl (s)) (p2 : kk = rk) (p3 : q = rq) (p4 : v = rv) (c0 : 0 ≤ F + (-1) * s + (-65536) * Y + (-14336)) (c1 : 0 ≤ s + 65536 * Y + (-1) * F + 14336) (c2 : 0 ≤ lw + (-1)) (c3 : 0 ≤ (-1) * lw + 1) (c4 : 0 ≤ h + (-9)) (c5 : 0 ≤ (-1) * h + 9) (c6 : 0 ≤ kk + (-2)) (c7 : 0 ≤ (-1) * kk + 2) (c8 : 0 ≤ v + (-1) * h + (-1)) (c9 : 0 ≤ s) (c10 : 0 ≤ (-1) * s + 900) (c11 : 0 ≤ Y) (c12 : 0 ≤ (-1) * Y + 4294967295) : p_HFR bb rn (8 * s + 4) := by
  obtain ⟨st, s1, r1, r2, np, W, pk, cf, wr, ro, ⟨x1, x2, x3, x4, x5⟩⟩ := p0
  unfold m_pk at pk
  obtain rfl : s1 = s := by omega
  obtain rfl : st = 14 := by omega
  obtain ⟨uA, u0, u1, u2, u3, u4, u5, u6, u7, u8, u9⟩ := p1
  have ev := u7 (by omega)
  exact ⟨4, s1, by omega, by omega, by omega, m_st_n4 (lo := 1) (hi := 9) rfl cf (by decide) (by omega) (Or.inr (by omega))⟩
theorem k_mnr14a {rn : Int} {rk : Int} {rs : Int} {rq : Int} {rv : Int} {rl : Int} {bb : Int → Int} {nw : Int → Int} {ww : Int → Int} (hrn : 0 ≤ rn ∧ rn ≤ 900) (hrk : 0 ≤ rk ∧ rk ≤ 4) (hrs : 0 ≤ rs ∧ rs ≤ 900) (hrq : 0 ≤ rq ∧ rq ≤ 900) (hbb : ∀ i, -128 ≤ bb i ∧ bb i ≤ 127) {F s q kk Y : Int} (p0 : p_CFR bb rn nw ww (F)) (p1 : p_CUR bb rn rk rs rq rv rl (s)) (p2 : kk = rk) (p3 : q = rq) (c0 : 0 ≤ F + (-1) * s + (-65536) * Y + (-14336)) (c1 : 0 ≤ s + 65536 * Y + (-1) * F + 14336) (c2 : 0 ≤ kk + (-4)) (c3 : 0 ≤ s) (c4 : 0 ≤ (-1) * s + 900) (c5 : 0 ≤ Y) (c6 : 0 ≤ (-1) * Y + 4294967295) : p_HFR bb rn (8 * s + 1) := by
  obtain ⟨st, s1, r1, r2, np, W, pk, cf, wr, ro, ⟨x1, x2, x3, x4, x5⟩⟩ := p0
  unfold m_pk at pk
  obtain rfl : s1 = s := by omega
  obtain rfl : st = 14 := by omega
  obtain ⟨uA, u0, u1, u2, u3, u4, u5, u6, u7, u8, u9⟩ := p1
  exact ⟨1, s1, by omega, by omega, by omega, m_mp1 (m_st_nn rfl cf (by decide) (by omega)) (by omega)⟩
theorem k_mnr14b {rn : Int} {rk : Int} {rs : Int} {rq : Int} {rv : Int} {rl : Int} {bb : Int → Int} {nw : Int → Int} {ww : Int → Int} (hrn : 0 ≤ rn ∧ rn ≤ 900) (hrk : 0 ≤ rk ∧ rk ≤ 4) (hrs : 0 ≤ rs ∧ rs ≤ 900) (hrq : 0 ≤ rq ∧ rq ≤ 900) (hbb : ∀ i, -128 ≤ bb i ∧ bb i ≤ 127) {F s q kk Y : Int} (p0 : p_CFR bb rn nw ww (F)) (p1 : p_CUR bb rn rk rs rq rv rl (s)) (p2 : kk = rk) (p3 : q = rq) (c0 : 0 ≤ F + (-1) * s + (-65536) * Y + (-14336)) (c1 : 0 ≤ s + 65536 * Y + (-1) * F + 14336) (c2 : 0 ≤ (-1) * kk + 1) (c3 : 0 ≤ s) (c4 : 0 ≤ (-1) * s + 900) (c5 : 0 ≤ Y) (c6 : 0 ≤ (-1) * Y + 4294967295) : p_HFR bb rn (8 * s + 2) := by
  obtain ⟨st, s1, r1, r2, np, W, pk, cf, wr, ro, ⟨x1, x2, x3, x4, x5⟩⟩ := p0
  unfold m_pk at pk
  obtain rfl : s1 = s := by omega
  obtain rfl : st = 14 := by omega
  obtain ⟨uA, u0, u1, u2, u3, u4, u5, u6, u7, u8, u9⟩ := p1
  exact ⟨2, s1, by omega, by omega, by omega, m_mp2 (m_st_nn rfl cf (by decide) (by omega)) (by omega)⟩
theorem k_mnr14c {rn : Int} {rk : Int} {rs : Int} {rq : Int} {rv : Int} {rl : Int} {bb : Int → Int} {nw : Int → Int} {ww : Int → Int} (hrn : 0 ≤ rn ∧ rn ≤ 900) (hrk : 0 ≤ rk ∧ rk ≤ 4) (hrs : 0 ≤ rs ∧ rs ≤ 900) (hrq : 0 ≤ rq ∧ rq ≤ 900) (hbb : ∀ i, -128 ≤ bb i ∧ bb i ≤ 127) {F s q kk Y : Int} (p0 : p_CFR bb rn nw ww (F)) (p1 : p_CUR bb rn rk rs rq rv rl (s)) (p2 : kk = rk) (p3 : q = rq) (c0 : 0 ≤ F + (-1) * s + (-65536) * Y + (-14336)) (c1 : 0 ≤ s + 65536 * Y + (-1) * F + 14336) (c2 : 0 ≤ kk + (-3)) (c3 : 0 ≤ (-1) * kk + 3) (c4 : 0 ≤ s) (c5 : 0 ≤ (-1) * s + 900) (c6 : 0 ≤ Y) (c7 : 0 ≤ (-1) * Y + 4294967295) : p_HFR bb rn (8 * s + 2) := by
  obtain ⟨st, s1, r1, r2, np, W, pk, cf, wr, ro, ⟨x1, x2, x3, x4, x5⟩⟩ := p0
  unfold m_pk at pk
  obtain rfl : s1 = s := by omega
  obtain rfl : st = 14 := by omega
  obtain ⟨uA, u0, u1, u2, u3, u4, u5, u6, u7, u8, u9⟩ := p1
  exact ⟨2, s1, by omega, by omega, by omega, m_mp2 (m_st_nn rfl cf (by decide) (by omega)) (by omega)⟩
theorem k_nur15 {rn : Int} {rk : Int} {rs : Int} {rq : Int} {rv : Int} {rl : Int} {bb : Int → Int} {nw : Int → Int} {ww : Int → Int} (hrn : 0 ≤ rn ∧ rn ≤ 900) (hrk : 0 ≤ rk ∧ rk ≤ 4) (hrs : 0 ≤ rs ∧ rs ≤ 900) (hrq : 0 ≤ rq ∧ rq ≤ 900) (hbb : ∀ i, -128 ≤ bb i ∧ bb i ≤ 127) {F s q kk Y v lw h : Int} (p0 : p_CFR bb rn nw ww (F)) (p1 : p_CUR bb rn rk rs rq rv rl (s)) (p2 : kk = rk) (p3 : q = rq) (p4 : v = rv) (p5 : p_NSN nw (h + 1)) (c0 : 0 ≤ F + (-1) * s + (-65536) * Y + (-15360)) (c1 : 0 ≤ s + 65536 * Y + (-1) * F + 15360) (c2 : 0 ≤ lw) (c3 : 0 ≤ (-1) * lw) (c4 : 0 ≤ kk + (-2)) (c5 : 0 ≤ (-1) * kk + 2) (c6 : 0 ≤ v + (-1) * lw) (c7 : 0 ≤ h + (-1) * v) (c8 : 0 ≤ q) (c9 : 0 ≤ (-1) * q + 1023) (c10 : 0 ≤ v) (c11 : 0 ≤ (-1) * v + 9999) (c12 : 0 ≤ s) (c13 : 0 ≤ (-1) * s + 900) (c14 : 0 ≤ Y) (c15 : 0 ≤ (-1) * Y + 4294967295) : p_RDR bb rn nw ww (q + 65536 * v + 4294967296 * s + 21504) := by
  obtain ⟨st, s1, r1, r2, np, W, pk, cf, wr, ro, ⟨x1, x2, x3, x4, x5⟩⟩ := p0
  unfold m_pk at pk
  obtain rfl : s1 = s := by omega
  obtain rfl : st = 15 := by omega
  obtain ⟨uA, u0, u1, u2, u3, u4, u5, u6, u7, u8, u9⟩ := p1
  have ev := u7 (by omega)
  have eh : h + 1 = m_tot (m_wcs W) := (show h + 1 = m_sum (fun j => nw (7 + j)) (nw 2).toNat from p5).trans (m_wr_tot wr)
  have AT := m_st_n (lo := 0) (hi := m_tot (m_wcs W) - 1) rfl cf (by decide) (by omega) (by omega) (by omega)
  rw [← u1, ← ev] at AT
  exact ⟨21, rq, rv, s1, np, W, (by unfold m_pk; omega), Or.inl ⟨by decide, AT⟩, wr, fun _ => ro (by decide), ⟨fun h => absurd h (by decide), fun h => absurd h (by decide), fun h => absurd h (by unfold m_ps; decide), fun h => absurd h (by decide), fun h => absurd h (by decide)⟩⟩
theorem k_nyr15 {rn : Int} {bb : Int → Int} {nw : Int → Int} {ww : Int → Int} (hrn : 0 ≤ rn ∧ rn ≤ 900) (hbb : ∀ i, -128 ≤ bb i ∧ bb i ≤ 127) {F s q kk Y v lw h H : Int} (p0 : p_RDR bb rn nw ww (H)) (c0 : 0 ≤ H + (-1) * q + (-65536) * v + (-4294967296) * s + (-21504)) (c1 : 0 ≤ q + 65536 * v + 4294967296 * s + (-1) * H + 21504) : p_XW (v + 65536 * s) := by
  trivial
theorem k_nor15a {rn : Int} {rk : Int} {rs : Int} {rq : Int} {rv : Int} {rl : Int} {bb : Int → Int} {nw : Int → Int} {ww : Int → Int} (hrn : 0 ≤ rn ∧ rn ≤ 900) (hrk : 0 ≤ rk ∧ rk ≤ 4) (hrs : 0 ≤ rs ∧ rs ≤ 900) (hrq : 0 ≤ rq ∧ rq ≤ 900) (hbb : ∀ i, -128 ≤ bb i ∧ bb i ≤ 127) {F s q kk Y v lw h : Int} (p0 : p_CFR bb rn nw ww (F)) (p1 : p_CUR bb rn rk rs rq rv rl (s)) (p2 : kk = rk) (p3 : q = rq) (p4 : v = rv) (p5 : p_NSN nw (h + 1)) (c0 : 0 ≤ F + (-1) * s + (-65536) * Y + (-15360)) (c1 : 0 ≤ s + 65536 * Y + (-1) * F + 15360) (c2 : 0 ≤ lw) (c3 : 0 ≤ (-1) * lw) (c4 : 0 ≤ kk + (-2)) (c5 : 0 ≤ (-1) * kk + 2) (c6 : 0 ≤ lw + (-1) * v + (-1)) (c7 : 0 ≤ s) (c8 : 0 ≤ (-1) * s + 900) (c9 : 0 ≤ Y) (c10 : 0 ≤ (-1) * Y + 4294967295) : p_HFR bb rn (8 * s + 4) := by
  obtain ⟨st, s1, r1, r2, np, W, pk, cf, wr, ro, ⟨x1, x2, x3, x4, x5⟩⟩ := p0
  unfold m_pk at pk
  obtain rfl : s1 = s := by omega
  obtain rfl : st = 15 := by omega
  obtain ⟨uA, u0, u1, u2, u3, u4, u5, u6, u7, u8, u9⟩ := p1
  have ev := u7 (by omega)
  have eh : h + 1 = m_tot (m_wcs W) := (show h + 1 = m_sum (fun j => nw (7 + j)) (nw 2).toNat from p5).trans (m_wr_tot wr)
  exact ⟨4, s1, by omega, by omega, by omega, m_st_n4 (lo := 0) (hi := m_tot (m_wcs W) - 1) rfl cf (by decide) (by omega) (Or.inl (by omega))⟩
theorem k_nor15b {rn : Int} {rk : Int} {rs : Int} {rq : Int} {rv : Int} {rl : Int} {bb : Int → Int} {nw : Int → Int} {ww : Int → Int} (hrn : 0 ≤ rn ∧ rn ≤ 900) (hrk : 0 ≤ rk ∧ rk ≤ 4) (hrs : 0 ≤ rs ∧ rs ≤ 900) (hrq : 0 ≤ rq ∧ rq ≤ 900) (hbb : ∀ i, -128 ≤ bb i ∧ bb i ≤ 127) {F s q kk Y v lw h : Int} (p0 : p_CFR bb rn nw ww (F)) (p1 : p_CUR bb rn rk rs rq rv rl (s)) (p2 : kk = rk) (p3 : q = rq) (p4 : v = rv) (p5 : p_NSN nw (h + 1)) (c0 : 0 ≤ F + (-1) * s + (-65536) * Y + (-15360)) (c1 : 0 ≤ s + 65536 * Y + (-1) * F + 15360) (c2 : 0 ≤ lw) (c3 : 0 ≤ (-1) * lw) (c4 : 0 ≤ kk + (-2)) (c5 : 0 ≤ (-1) * kk + 2) (c6 : 0 ≤ v + (-1) * h + (-1)) (c7 : 0 ≤ s) (c8 : 0 ≤ (-1) * s + 900) (c9 : 0 ≤ Y) (c10 : 0 ≤ (-1) * Y + 4294967295) : p_HFR bb rn (8 * s + 4) := by
  obtain ⟨st, s1, r1, r2, np, W, pk, cf, wr, ro, ⟨x1, x2, x3, x4, x5⟩⟩ := p0
  unfold m_pk at pk
  obtain rfl : s1 = s := by omega
  obtain rfl : st = 15 := by omega
  obtain ⟨uA, u0, u1, u2, u3, u4, u5, u6, u7, u8, u9⟩ := p1
  have ev := u7 (by omega)
  have eh : h + 1 = m_tot (m_wcs W) := (show h + 1 = m_sum (fun j => nw (7 + j)) (nw 2).toNat from p5).trans (m_wr_tot wr)
  exact ⟨4, s1, by omega, by omega, by omega, m_st_n4 (lo := 0) (hi := m_tot (m_wcs W) - 1) rfl cf (by decide) (by omega) (Or.inr (by omega))⟩
theorem k_mnr15a {rn : Int} {rk : Int} {rs : Int} {rq : Int} {rv : Int} {rl : Int} {bb : Int → Int} {nw : Int → Int} {ww : Int → Int} (hrn : 0 ≤ rn ∧ rn ≤ 900) (hrk : 0 ≤ rk ∧ rk ≤ 4) (hrs : 0 ≤ rs ∧ rs ≤ 900) (hrq : 0 ≤ rq ∧ rq ≤ 900) (hbb : ∀ i, -128 ≤ bb i ∧ bb i ≤ 127) {F s q kk Y : Int} (p0 : p_CFR bb rn nw ww (F)) (p1 : p_CUR bb rn rk rs rq rv rl (s)) (p2 : kk = rk) (p3 : q = rq) (c0 : 0 ≤ F + (-1) * s + (-65536) * Y + (-15360)) (c1 : 0 ≤ s + 65536 * Y + (-1) * F + 15360) (c2 : 0 ≤ kk + (-4)) (c3 : 0 ≤ s) (c4 : 0 ≤ (-1) * s + 900) (c5 : 0 ≤ Y) (c6 : 0 ≤ (-1) * Y + 4294967295) : p_HFR bb rn (8 * s + 1) := by
  obtain ⟨st, s1, r1, r2, np, W, pk, cf, wr, ro, ⟨x1, x2, x3, x4, x5⟩⟩ := p0
  unfold m_pk at pk
  obtain rfl : s1 = s := by omega
  obtain rfl : st = 15 := by omega
  obtain ⟨uA, u0, u1, u2, u3, u4, u5, u6, u7, u8, u9⟩ := p1
  exact ⟨1, s1, by omega, by omega, by omega, m_mp1 (m_st_nn rfl cf (by decide) (by omega)) (by omega)⟩
theorem k_mnr15b {rn : Int} {rk : Int} {rs : Int} {rq : Int} {rv : Int} {rl : Int} {bb : Int → Int} {nw : Int → Int} {ww : Int → Int} (hrn : 0 ≤ rn ∧ rn ≤ 900) (hrk : 0 ≤ rk ∧ rk ≤ 4) (hrs : 0 ≤ rs ∧ rs ≤ 900) (hrq : 0 ≤ rq ∧ rq ≤ 900) (hbb : ∀ i, -128 ≤ bb i ∧ bb i ≤ 127) {F s q kk Y : Int} (p0 : p_CFR bb rn nw ww (F)) (p1 : p_CUR bb rn rk rs rq rv rl (s)) (p2 : kk = rk) (p3 : q = rq) (c0 : 0 ≤ F + (-1) * s + (-65536) * Y + (-15360)) (c1 : 0 ≤ s + 65536 * Y + (-1) * F + 15360) (c2 : 0 ≤ (-1) * kk + 1) (c3 : 0 ≤ s) (c4 : 0 ≤ (-1) * s + 900) (c5 : 0 ≤ Y) (c6 : 0 ≤ (-1) * Y + 4294967295) : p_HFR bb rn (8 * s + 2) := by
  obtain ⟨st, s1, r1, r2, np, W, pk, cf, wr, ro, ⟨x1, x2, x3, x4, x5⟩⟩ := p0
  unfold m_pk at pk
  obtain rfl : s1 = s := by omega
  obtain rfl : st = 15 := by omega
  obtain ⟨uA, u0, u1, u2, u3, u4, u5, u6, u7, u8, u9⟩ := p1
  exact ⟨2, s1, by omega, by omega, by omega, m_mp2 (m_st_nn rfl cf (by decide) (by omega)) (by omega)⟩
theorem k_mnr15c {rn : Int} {rk : Int} {rs : Int} {rq : Int} {rv : Int} {rl : Int} {bb : Int → Int} {nw : Int → Int} {ww : Int → Int} (hrn : 0 ≤ rn ∧ rn ≤ 900) (hrk : 0 ≤ rk ∧ rk ≤ 4) (hrs : 0 ≤ rs ∧ rs ≤ 900) (hrq : 0 ≤ rq ∧ rq ≤ 900) (hbb : ∀ i, -128 ≤ bb i ∧ bb i ≤ 127) {F s q kk Y : Int} (p0 : p_CFR bb rn nw ww (F)) (p1 : p_CUR bb rn rk rs rq rv rl (s)) (p2 : kk = rk) (p3 : q = rq) (c0 : 0 ≤ F + (-1) * s + (-65536) * Y + (-15360)) (c1 : 0 ≤ s + 65536 * Y + (-1) * F + 15360) (c2 : 0 ≤ kk + (-3)) (c3 : 0 ≤ (-1) * kk + 3) (c4 : 0 ≤ s) (c5 : 0 ≤ (-1) * s + 900) (c6 : 0 ≤ Y) (c7 : 0 ≤ (-1) * Y + 4294967295) : p_HFR bb rn (8 * s + 2) := by
  obtain ⟨st, s1, r1, r2, np, W, pk, cf, wr, ro, ⟨x1, x2, x3, x4, x5⟩⟩ := p0
  unfold m_pk at pk
  obtain rfl : s1 = s := by omega
  obtain rfl : st = 15 := by omega
  obtain ⟨uA, u0, u1, u2, u3, u4, u5, u6, u7, u8, u9⟩ := p1
  exact ⟨2, s1, by omega, by omega, by omega, m_mp2 (m_st_nn rfl cf (by decide) (by omega)) (by omega)⟩
theorem k_nur17 {rn : Int} {rk : Int} {rs : Int} {rq : Int} {rv : Int} {rl : Int} {z0 : Int} {bb : Int → Int} {nw : Int → Int} {ww : Int → Int} (hrn : 0 ≤ rn ∧ rn ≤ 900) (hrk : 0 ≤ rk ∧ rk ≤ 4) (hrs : 0 ≤ rs ∧ rs ≤ 900) (hrq : 0 ≤ rq ∧ rq ≤ 900) (hbb : ∀ i, -128 ≤ bb i ∧ bb i ≤ 127) (lz0 : z0 = nw 0) {F s q kk Y v lw h n : Int} (p0 : p_CFR bb rn nw ww (F)) (p1 : p_CUR bb rn rk rs rq rv rl (s)) (p2 : kk = rk) (p3 : q = rq) (p4 : v = rv) (p5 : n = z0) (c0 : 0 ≤ F + (-1) * s + (-65536) * Y + (-17408)) (c1 : 0 ≤ s + 65536 * Y + (-1) * F + 17408) (c2 : 0 ≤ lw + (-1)) (c3 : 0 ≤ (-1) * lw + 1) (c4 : 0 ≤ n + (-1) * h + (-1)) (c5 : 0 ≤ h + (-1) * n + 1) (c6 : 0 ≤ kk + (-2)) (c7 : 0 ≤ (-1) * kk + 2) (c8 : 0 ≤ v + (-1) * lw) (c9 : 0 ≤ h + (-1) * v) (c10 : 0 ≤ q) (c11 : 0 ≤ (-1) * q + 1023) (c12 : 0 ≤ v) (c13 : 0 ≤ (-1) * v + 9999) (c14 : 0 ≤ (-1) * Y + 65535) (c15 : 0 ≤ s) (c16 : 0 ≤ (-1) * s + 900) (c17 : 0 ≤ Y) (c18 : 0 ≤ (-1) * Y + 4294967295) : p_RDR bb rn nw ww (q + 65536 * Y + 4294967296 * v + 24576) := by
  obtain ⟨st, s1, r1, r2, np, W, pk, cf, wr, ro, ⟨x1, x2, x3, x4, x5⟩⟩ := p0
  unfold m_pk at pk
  obtain rfl : s1 = s := by omega
  obtain rfl : st = 17 := by omega
  obtain ⟨uA, u0, u1, u2, u3, u4, u5, u6, u7, u8, u9⟩ := p1
  have ev := u7 (by omega)
  have eo := (ro (by decide)).1
  have AT := m_st_n (lo := 1) (hi := m_wo W - 1) rfl cf (by decide) (by omega) (by omega) (by omega)
  rw [← u1, ← ev] at AT
  exact ⟨24, rq, r1, rv, np, W, (by unfold m_pk; omega), Or.inl ⟨by decide, AT⟩, wr, fun _ => ro (by decide), ⟨fun h => absurd h (by decide), fun h => absurd h (by decide), fun h => absurd h (by unfold m_ps; decide), fun h => absurd h (by decide), fun h => absurd h (by decide)⟩⟩
theorem k_nyr17 {rn : Int} {bb : Int → Int} {nw : Int → Int} {ww : Int → Int} (hrn : 0 ≤ rn ∧ rn ≤ 900) (hbb : ∀ i, -128 ≤ bb i ∧ bb i ≤ 127) {F s q kk Y v lw h n H : Int} (p0 : p_RDR bb rn nw ww (H)) (c0 : 0 ≤ H + (-1) * q + (-65536) * Y + (-4294967296) * v + (-24576)) (c1 : 0 ≤ q + 65536 * Y + 4294967296 * v + (-1) * H + 24576) : p_XW (Y + 65536 * v) := by
  trivial
theorem k_nor17a {rn : Int} {rk : Int} {rs : Int} {rq : Int} {rv : Int} {rl : Int} {z0 : Int} {bb : Int → Int} {nw : Int → Int} {ww : Int → Int} (hrn : 0 ≤ rn ∧ rn ≤ 900) (hrk : 0 ≤ rk ∧ rk ≤ 4) (hrs : 0 ≤ rs ∧ rs ≤ 900) (hrq : 0 ≤ rq ∧ rq ≤ 900) (hbb : ∀ i, -128 ≤ bb i ∧ bb i ≤ 127) (lz0 : z0 = nw 0) {F s q kk Y v lw h n : Int} (p0 : p_CFR bb rn nw ww (F)) (p1 : p_CUR bb rn rk rs rq rv rl (s)) (p2 : kk = rk) (p3 : q = rq) (p4 : v = rv) (p5 : n = z0) (c0 : 0 ≤ F + (-1) * s + (-65536) * Y + (-17408)) (c1 : 0 ≤ s + 65536 * Y + (-1) * F + 17408) (c2 : 0 ≤ lw + (-1)) (c3 : 0 ≤ (-1) * lw + 1) (c4 : 0 ≤ n + (-1) * h + (-1)) (c5 : 0 ≤ h + (-1) * n + 1) (c6 : 0 ≤ kk + (-2)) (c7 : 0 ≤ (-1) * kk + 2) (c8 : 0 ≤ lw + (-1) * v + (-1)) (c9 : 0 ≤ s) (c10 : 0 ≤ (-1) * s + 900) (c11 : 0 ≤ Y) (c12 : 0 ≤ (-1) * Y + 4294967295) : p_HFR bb rn (8 * s + 4) := by
  obtain ⟨st, s1, r1, r2, np, W, pk, cf, wr, ro, ⟨x1, x2, x3, x4, x5⟩⟩ := p0
  unfold m_pk at pk
  obtain rfl : s1 = s := by omega
  obtain rfl : st = 17 := by omega
  obtain ⟨uA, u0, u1, u2, u3, u4, u5, u6, u7, u8, u9⟩ := p1
  have ev := u7 (by omega)
  have eo := (ro (by decide)).1
  exact ⟨4, s1, by omega, by omega, by omega, m_st_n4 (lo := 1) (hi := m_wo W - 1) rfl cf (by decide) (by omega) (Or.inl (by omega))⟩
theorem k_nor17b {rn : Int} {rk : Int} {rs : Int} {rq : Int} {rv : Int} {rl : Int} {z0 : Int} {bb : Int → Int} {nw : Int → Int} {ww : Int → Int} (hrn : 0 ≤ rn ∧ rn ≤ 900) (hrk : 0 ≤ rk ∧ rk ≤ 4) (hrs : 0 ≤ rs ∧ rs ≤ 900) (hrq : 0 ≤ rq ∧ rq ≤ 900) (hbb : ∀ i, -128 ≤ bb i ∧ bb i ≤ 127) (lz0 : z0 = nw 0) {F s q kk Y v lw h n : Int} (p0 : p_CFR bb rn nw ww (F)) (p1 : p_CUR bb rn rk rs rq rv rl (s)) (p2 : kk = rk) (p3 : q = rq) (p4 : v = rv) (p5 : n = z0) (c0 : 0 ≤ F + (-1) * s + (-65536) * Y + (-17408)) (c1 : 0 ≤ s + 65536 * Y + (-1) * F + 17408) (c2 : 0 ≤ lw + (-1)) (c3 : 0 ≤ (-1) * lw + 1) (c4 : 0 ≤ n + (-1) * h + (-1)) (c5 : 0 ≤ h + (-1) * n + 1) (c6 : 0 ≤ kk + (-2)) (c7 : 0 ≤ (-1) * kk + 2) (c8 : 0 ≤ v + (-1) * h + (-1)) (c9 : 0 ≤ s) (c10 : 0 ≤ (-1) * s + 900) (c11 : 0 ≤ Y) (c12 : 0 ≤ (-1) * Y + 4294967295) : p_HFR bb rn (8 * s + 4) := by
  obtain ⟨st, s1, r1, r2, np, W, pk, cf, wr, ro, ⟨x1, x2, x3, x4, x5⟩⟩ := p0
  unfold m_pk at pk
  obtain rfl : s1 = s := by omega
  obtain rfl : st = 17 := by omega
  obtain ⟨uA, u0, u1, u2, u3, u4, u5, u6, u7, u8, u9⟩ := p1
  have ev := u7 (by omega)
  have eo := (ro (by decide)).1
  exact ⟨4, s1, by omega, by omega, by omega, m_st_n4 (lo := 1) (hi := m_wo W - 1) rfl cf (by decide) (by omega) (Or.inr (by omega))⟩
theorem k_mnr17a {rn : Int} {rk : Int} {rs : Int} {rq : Int} {rv : Int} {rl : Int} {bb : Int → Int} {nw : Int → Int} {ww : Int → Int} (hrn : 0 ≤ rn ∧ rn ≤ 900) (hrk : 0 ≤ rk ∧ rk ≤ 4) (hrs : 0 ≤ rs ∧ rs ≤ 900) (hrq : 0 ≤ rq ∧ rq ≤ 900) (hbb : ∀ i, -128 ≤ bb i ∧ bb i ≤ 127) {F s q kk Y : Int} (p0 : p_CFR bb rn nw ww (F)) (p1 : p_CUR bb rn rk rs rq rv rl (s)) (p2 : kk = rk) (p3 : q = rq) (c0 : 0 ≤ F + (-1) * s + (-65536) * Y + (-17408)) (c1 : 0 ≤ s + 65536 * Y + (-1) * F + 17408) (c2 : 0 ≤ kk + (-4)) (c3 : 0 ≤ s) (c4 : 0 ≤ (-1) * s + 900) (c5 : 0 ≤ Y) (c6 : 0 ≤ (-1) * Y + 4294967295) : p_HFR bb rn (8 * s + 1) := by
  obtain ⟨st, s1, r1, r2, np, W, pk, cf, wr, ro, ⟨x1, x2, x3, x4, x5⟩⟩ := p0
  unfold m_pk at pk
  obtain rfl : s1 = s := by omega
  obtain rfl : st = 17 := by omega
  obtain ⟨uA, u0, u1, u2, u3, u4, u5, u6, u7, u8, u9⟩ := p1
  exact ⟨1, s1, by omega, by omega, by omega, m_mp1 (m_st_nn rfl cf (by decide) (by omega)) (by omega)⟩
theorem k_mnr17b {rn : Int} {rk : Int} {rs : Int} {rq : Int} {rv : Int} {rl : Int} {bb : Int → Int} {nw : Int → Int} {ww : Int → Int} (hrn : 0 ≤ rn ∧ rn ≤ 900) (hrk : 0 ≤ rk ∧ rk ≤ 4) (hrs : 0 ≤ rs ∧ rs ≤ 900) (hrq : 0 ≤ rq ∧ rq ≤ 900) (hbb : ∀ i, -128 ≤ bb i ∧ bb i ≤ 127) {F s q kk Y : Int} (p0 : p_CFR bb rn nw ww (F)) (p1 : p_CUR bb rn rk rs rq rv rl (s)) (p2 : kk = rk) (p3 : q = rq) (c0 : 0 ≤ F + (-1) * s + (-65536) * Y + (-17408)) (c1 : 0 ≤ s + 65536 * Y + (-1) * F + 17408) (c2 : 0 ≤ (-1) * kk + 1) (c3 : 0 ≤ s) (c4 : 0 ≤ (-1) * s + 900) (c5 : 0 ≤ Y) (c6 : 0 ≤ (-1) * Y + 4294967295) : p_HFR bb rn (8 * s + 2) := by
  obtain ⟨st, s1, r1, r2, np, W, pk, cf, wr, ro, ⟨x1, x2, x3, x4, x5⟩⟩ := p0
  unfold m_pk at pk
  obtain rfl : s1 = s := by omega
  obtain rfl : st = 17 := by omega
  obtain ⟨uA, u0, u1, u2, u3, u4, u5, u6, u7, u8, u9⟩ := p1
  exact ⟨2, s1, by omega, by omega, by omega, m_mp2 (m_st_nn rfl cf (by decide) (by omega)) (by omega)⟩
theorem k_mnr17c {rn : Int} {rk : Int} {rs : Int} {rq : Int} {rv : Int} {rl : Int} {bb : Int → Int} {nw : Int → Int} {ww : Int → Int} (hrn : 0 ≤ rn ∧ rn ≤ 900) (hrk : 0 ≤ rk ∧ rk ≤ 4) (hrs : 0 ≤ rs ∧ rs ≤ 900) (hrq : 0 ≤ rq ∧ rq ≤ 900) (hbb : ∀ i, -128 ≤ bb i ∧ bb i ≤ 127) {F s q kk Y : Int} (p0 : p_CFR bb rn nw ww (F)) (p1 : p_CUR bb rn rk rs rq rv rl (s)) (p2 : kk = rk) (p3 : q = rq) (c0 : 0 ≤ F + (-1) * s + (-65536) * Y + (-17408)) (c1 : 0 ≤ s + 65536 * Y + (-1) * F + 17408) (c2 : 0 ≤ kk + (-3)) (c3 : 0 ≤ (-1) * kk + 3) (c4 : 0 ≤ s) (c5 : 0 ≤ (-1) * s + 900) (c6 : 0 ≤ Y) (c7 : 0 ≤ (-1) * Y + 4294967295) : p_HFR bb rn (8 * s + 2) := by
  obtain ⟨st, s1, r1, r2, np, W, pk, cf, wr, ro, ⟨x1, x2, x3, x4, x5⟩⟩ := p0
  unfold m_pk at pk
  obtain rfl : s1 = s := by omega
  obtain rfl : st = 17 := by omega
  obtain ⟨uA, u0, u1, u2, u3, u4, u5, u6, u7, u8, u9⟩ := p1
  exact ⟨2, s1, by omega, by omega, by omega, m_mp2 (m_st_nn rfl cf (by decide) (by omega)) (by omega)⟩
theorem k_nur18 {rn : Int} {rk : Int} {rs : Int} {rq : Int} {rv : Int} {rl : Int} {bb : Int → Int} {nw : Int → Int} {ww : Int → Int} (hrn : 0 ≤ rn ∧ rn ≤ 900) (hrk : 0 ≤ rk ∧ rk ≤ 4) (hrs : 0 ≤ rs ∧ rs ≤ 900) (hrq : 0 ≤ rq ∧ rq ≤ 900) (hbb : ∀ i, -128 ≤ bb i ∧ bb i ≤ 127) {F s q kk Y v lw h : Int} (p0 : p_CFR bb rn nw ww (F)) (p1 : p_CUR bb rn rk rs rq rv rl (s)) (p2 : kk = rk) (p3 : q = rq) (p4 : v = rv) (p5 : p_NSN nw (h + 1)) (c0 : 0 ≤ F + (-1) * s + (-65536) * Y + (-18432)) (c1 : 0 ≤ s + 65536 * Y + (-1) * F + 18432) (c2 : 0 ≤ lw) (c3 : 0 ≤ (-1) * lw) (c4 : 0 ≤ kk + (-2)) (c5 : 0 ≤ (-1) * kk + 2) (c6 : 0 ≤ v + (-1) * lw) (c7 : 0 ≤ h + (-1) * v) (c8 : 0 ≤ q) (c9 : 0 ≤ (-1) * q + 1023) (c10 : 0 ≤ v) (c11 : 0 ≤ (-1) * v + 9999) (c12 : 0 ≤ s) (c13 : 0 ≤ (-1) * s + 900) (c14 : 0 ≤ Y) (c15 : 0 ≤ (-1) * Y + 4294967295) : p_RDR bb rn nw ww (q + 65536 * v + 4294967296 * s + 22528) := by
  obtain ⟨st, s1, r1, r2, np, W, pk, cf, wr, ro, ⟨x1, x2, x3, x4, x5⟩⟩ := p0
  unfold m_pk at pk
  obtain rfl : s1 = s := by omega
  obtain rfl : st = 18 := by omega
  obtain ⟨uA, u0, u1, u2, u3, u4, u5, u6, u7, u8, u9⟩ := p1
  have ev := u7 (by omega)
  have eh : h + 1 = m_tot (m_wcs W) := (show h + 1 = m_sum (fun j => nw (7 + j)) (nw 2).toNat from p5).trans (m_wr_tot wr)
  have AT := m_st_n (lo := 0) (hi := m_tot (m_wcs W) - 1) rfl cf (by decide) (by omega) (by omega) (by omega)
  rw [← u1, ← ev] at AT
  exact ⟨22, rq, rv, s1, np, W, (by unfold m_pk; omega), Or.inl ⟨by decide, AT⟩, wr, fun _ => ro (by decide), ⟨fun h => absurd h (by decide), fun h => absurd h (by decide), fun h => absurd h (by unfold m_ps; decide), fun h => absurd h (by decide), fun h => absurd h (by decide)⟩⟩
theorem k_nyr18 {rn : Int} {bb : Int → Int} {nw : Int → Int} {ww : Int → Int} (hrn : 0 ≤ rn ∧ rn ≤ 900) (hbb : ∀ i, -128 ≤ bb i ∧ bb i ≤ 127) {F s q kk Y v lw h H : Int} (p0 : p_RDR bb rn nw ww (H)) (c0 : 0 ≤ H + (-1) * q + (-65536) * v + (-4294967296) * s + (-22528)) (c1 : 0 ≤ q + 65536 * v + 4294967296 * s + (-1) * H + 22528) : p_XW (v + 65536 * s) := by
  trivial
theorem k_nor18a {rn : Int} {rk : Int} {rs : Int} {rq : Int} {rv : Int} {rl : Int} {bb : Int → Int} {nw : Int → Int} {ww : Int → Int} (hrn : 0 ≤ rn ∧ rn ≤ 900) (hrk : 0 ≤ rk ∧ rk ≤ 4) (hrs : 0 ≤ rs ∧ rs ≤ 900) (hrq : 0 ≤ rq ∧ rq ≤ 900) (hbb : ∀ i, -128 ≤ bb i ∧ bb i ≤ 127) {F s q kk Y v lw h : Int} (p0 : p_CFR bb rn nw ww (F)) (p1 : p_CUR bb rn rk rs rq rv rl (s)) (p2 : kk = rk) (p3 : q = rq) (p4 : v = rv) (p5 : p_NSN nw (h + 1)) (c0 : 0 ≤ F + (-1) * s + (-65536) * Y + (-18432)) (c1 : 0 ≤ s + 65536 * Y + (-1) * F + 18432) (c2 : 0 ≤ lw) (c3 : 0 ≤ (-1) * lw) (c4 : 0 ≤ kk + (-2)) (c5 : 0 ≤ (-1) * kk + 2) (c6 : 0 ≤ lw + (-1) * v + (-1)) (c7 : 0 ≤ s) (c8 : 0 ≤ (-1) * s + 900) (c9 : 0 ≤ Y) (c10 : 0 ≤ (-1) * Y + 4294967295) : p_HFR bb rn (8 * s + 4) := by
  obtain ⟨st, s1, r1, r2, np, W, pk, cf, wr, ro, ⟨x1, x2, x3, x4, x5⟩⟩ := p0
  unfold m_pk at pk
  obtain rfl : s1 = s := by omega
  obtain rfl : st = 18 := by omega
  obtain ⟨uA, u0, u1, u2, u3, u4, u5, u6, u7, u8, u9⟩ := p1
  have ev := u7 (by omega)
  have eh : h + 1 = m_tot (m_wcs W) := (show h + 1 = m_sum (fun j => nw (7 + j)) (nw 2).toNat from p5).trans (m_wr_tot wr)
  exact ⟨4, s1, by omega, by omega, by omega, m_st_n4 (lo := 0) (hi := m_tot (m_wcs W) - 1) rfl cf (by decide) (by omega) (Or.inl (by omega))⟩
theorem k_nor18b {rn : Int} {rk : Int} {rs : Int} {rq : Int} {rv : Int} {rl : Int} {bb : Int → Int} {nw : Int → Int} {ww : Int → Int} (hrn : 0 ≤ rn ∧ rn ≤ 900) (hrk : 0 ≤ rk ∧ rk ≤ 4) (hrs : 0 ≤ rs ∧ rs ≤ 900) (hrq : 0 ≤ rq ∧ rq ≤ 900) (hbb : ∀ i, -128 ≤ bb i ∧ bb i ≤ 127) {F s q kk Y v lw h : Int} (p0 : p_CFR bb rn nw ww (F)) (p1 : p_CUR bb rn rk rs rq rv rl (s)) (p2 : kk = rk) (p3 : q = rq) (p4 : v = rv) (p5 : p_NSN nw (h + 1)) (c0 : 0 ≤ F + (-1) * s + (-65536) * Y + (-18432)) (c1 : 0 ≤ s + 65536 * Y + (-1) * F + 18432) (c2 : 0 ≤ lw) (c3 : 0 ≤ (-1) * lw) (c4 : 0 ≤ kk + (-2)) (c5 : 0 ≤ (-1) * kk + 2) (c6 : 0 ≤ v + (-1) * h + (-1)) (c7 : 0 ≤ s) (c8 : 0 ≤ (-1) * s + 900) (c9 : 0 ≤ Y) (c10 : 0 ≤ (-1) * Y + 4294967295) : p_HFR bb rn (8 * s + 4) := by
  obtain ⟨st, s1, r1, r2, np, W, pk, cf, wr, ro, ⟨x1, x2, x3, x4, x5⟩⟩ := p0
  unfold m_pk at pk
  obtain rfl : s1 = s := by omega
  obtain rfl : st = 18 := by omega
  obtain ⟨uA, u0, u1, u2, u3, u4, u5, u6, u7, u8, u9⟩ := p1
  have ev := u7 (by omega)
  have eh : h + 1 = m_tot (m_wcs W) := (show h + 1 = m_sum (fun j => nw (7 + j)) (nw 2).toNat from p5).trans (m_wr_tot wr)
  exact ⟨4, s1, by omega, by omega, by omega, m_st_n4 (lo := 0) (hi := m_tot (m_wcs W) - 1) rfl cf (by decide) (by omega) (Or.inr (by omega))⟩
theorem k_mnr18a {rn : Int} {rk : Int} {rs : Int} {rq : Int} {rv : Int} {rl : Int} {bb : Int → Int} {nw : Int → Int} {ww : Int → Int} (hrn : 0 ≤ rn ∧ rn ≤ 900) (hrk : 0 ≤ rk ∧ rk ≤ 4) (hrs : 0 ≤ rs ∧ rs ≤ 900) (hrq : 0 ≤ rq ∧ rq ≤ 900) (hbb : ∀ i, -128 ≤ bb i ∧ bb i ≤ 127) {F s q kk Y : Int} (p0 : p_CFR bb rn nw ww (F)) (p1 : p_CUR bb rn rk rs rq rv rl (s)) (p2 : kk = rk) (p3 : q = rq) (c0 : 0 ≤ F + (-1) * s + (-65536) * Y + (-18432)) (c1 : 0 ≤ s + 65536 * Y + (-1) * F + 18432) (c2 : 0 ≤ kk + (-4)) (c3 : 0 ≤ s) (c4 : 0 ≤ (-1) * s + 900) (c5 : 0 ≤ Y) (c6 : 0 ≤ (-1) * Y + 4294967295) : p_HFR bb rn (8 * s + 1) := by
  obtain ⟨st, s1, r1, r2, np, W, pk, cf, wr, ro, ⟨x1, x2, x3, x4, x5⟩⟩ := p0
  unfold m_pk at pk
  obtain rfl : s1 = s := by omega
  obtain rfl : st = 18 := by omega
  obtain ⟨uA, u0, u1, u2, u3, u4, u5, u6, u7, u8, u9⟩ := p1
  exact ⟨1, s1, by omega, by omega, by omega, m_mp1 (m_st_nn rfl cf (by decide) (by omega)) (by omega)⟩
theorem k_mnr18b {rn : Int} {rk : Int} {rs : Int} {rq : Int} {rv : Int} {rl : Int} {bb : Int → Int} {nw : Int → Int} {ww : Int → Int} (hrn : 0 ≤ rn ∧ rn ≤ 900) (hrk : 0 ≤ rk ∧ rk ≤ 4) (hrs : 0 ≤ rs ∧ rs ≤ 900) (hrq : 0 ≤ rq ∧ rq ≤ 900) (hbb : ∀ i, -128 ≤ bb i ∧ bb i ≤ 127) {F s q kk Y : Int} (p0 : p_CFR bb rn nw ww (F)) (p1 : p_CUR bb rn rk rs rq rv rl (s)) (p2 : kk = rk) (p3 : q = rq) (c0 : 0 ≤ F + (-1) * s + (-65536) * Y + (-18432)) (c1 : 0 ≤ s + 65536 * Y + (-1) * F + 18432) (c2 : 0 ≤ (-1) * kk + 1) (c3 : 0 ≤ s) (c4 : 0 ≤ (-1) * s + 900) (c5 : 0 ≤ Y) (c6 : 0 ≤ (-1) * Y + 4294967295) : p_HFR bb rn (8 * s + 2) := by
  obtain ⟨st, s1, r1, r2, np, W, pk, cf, wr, ro, ⟨x1, x2, x3, x4, x5⟩⟩ := p0
  unfold m_pk at pk
  obtain rfl : s1 = s := by omega
  obtain rfl : st = 18 := by omega
  obtain ⟨uA, u0, u1, u2, u3, u4, u5, u6, u7, u8, u9⟩ := p1
  exact ⟨2, s1, by omega, by omega, by omega, m_mp2 (m_st_nn rfl cf (by decide) (by omega)) (by omega)⟩
theorem k_mnr18c {rn : Int} {rk : Int} {rs : Int} {rq : Int} {rv : Int} {rl : Int} {bb : Int → Int} {nw : Int → Int} {ww : Int → Int} (hrn : 0 ≤ rn ∧ rn ≤ 900) (hrk : 0 ≤ rk ∧ rk ≤ 4) (hrs : 0 ≤ rs ∧ rs ≤ 900) (hrq : 0 ≤ rq ∧ rq ≤ 900) (hbb : ∀ i, -128 ≤ bb i ∧ bb i ≤ 127) {F s q kk Y : Int} (p0 : p_CFR bb rn nw ww (F)) (p1 : p_CUR bb rn rk rs rq rv rl (s)) (p2 : kk = rk) (p3 : q = rq) (c0 : 0 ≤ F + (-1) * s + (-65536) * Y + (-18432)) (c1 : 0 ≤ s + 65536 * Y + (-1) * F + 18432) (c2 : 0 ≤ kk + (-3)) (c3 : 0 ≤ (-1) * kk + 3) (c4 : 0 ≤ s) (c5 : 0 ≤ (-1) * s + 900) (c6 : 0 ≤ Y) (c7 : 0 ≤ (-1) * Y + 4294967295) : p_HFR bb rn (8 * s + 2) := by
  obtain ⟨st, s1, r1, r2, np, W, pk, cf, wr, ro, ⟨x1, x2, x3, x4, x5⟩⟩ := p0
  unfold m_pk at pk
  obtain rfl : s1 = s := by omega
  obtain rfl : st = 18 := by omega
  obtain ⟨uA, u0, u1, u2, u3, u4, u5, u6, u7, u8, u9⟩ := p1
  exact ⟨2, s1, by omega, by omega, by omega, m_mp2 (m_st_nn rfl cf (by decide) (by omega)) (by omega)⟩
theorem k_nur20 {rn : Int} {rk : Int} {rs : Int} {rq : Int} {rv : Int} {rl : Int} {bb : Int → Int} {nw : Int → Int} {ww : Int → Int} (hrn : 0 ≤ rn ∧ rn ≤ 900) (hrk : 0 ≤ rk ∧ rk ≤ 4) (hrs : 0 ≤ rs ∧ rs ≤ 900) (hrq : 0 ≤ rq ∧ rq ≤ 900) (hbb : ∀ i, -128 ≤ bb i ∧ bb i ≤ 127) {F s q kk Y v lw h : Int} (p0 : p_CFR bb rn nw ww (F)) (p1 : p_CUR bb rn rk rs rq rv rl (s)) (p2 : kk = rk) (p3 : q = rq) (p4 : v = rv) (c0 : 0 ≤ F + (-1) * s + (-65536) * Y + (-20480)) (c1 : 0 ≤ s + 65536 * Y + (-1) * F + 20480) (c2 : 0 ≤ lw) (c3 : 0 ≤ (-1) * lw) (c4 : 0 ≤ h + (-9999)) (c5 : 0 ≤ (-1) * h + 9999) (c6 : 0 ≤ kk + (-2)) (c7 : 0 ≤ (-1) * kk + 2) (c8 : 0 ≤ v + (-1) * lw) (c9 : 0 ≤ h + (-1) * v) (c10 : 0 ≤ q) (c11 : 0 ≤ (-1) * q + 1023) (c12 : 0 ≤ v) (c13 : 0 ≤ (-1) * v + 9999) (c14 : 0 ≤ (-1) * Y + 65535) (c15 : 0 ≤ s) (c16 : 0 ≤ (-1) * s + 900) (c17 : 0 ≤ Y) (c18 : 0 ≤ (-1) * Y + 4294967295) : p_RDR bb rn nw ww (q + 65536 * Y + 4294967296 * v + 25600) := by
  obtain ⟨st, s1, r1, r2, np, W, pk, cf, wr, ro, ⟨x1, x2, x3, x4, x5⟩⟩ := p0
  unfold m_pk at pk
  obtain rfl : s1 = s := by omega
  obtain rfl : st = 20 := by omega
  obtain ⟨uA, u0, u1, u2, u3, u4, u5, u6, u7, u8, u9⟩ := p1
  have ev := u7 (by omega)
  have AT := m_st_n (lo := 0) (hi := 9999) rfl cf (by decide) (by omega) (by omega) (by omega)
  rw [← u1, ← ev] at AT
  exact ⟨25, rq, r1, rv, np, W, (by unfold m_pk; omega), Or.inl ⟨by decide, AT⟩, wr, fun _ => ro (by decide), ⟨fun h => absurd h (by decide), fun h => absurd h (by decide), fun h => absurd h (by unfold m_ps; decide), fun h => absurd h (by decide), fun h => absurd h (by decide)⟩⟩
theorem k_nyr20 {rn : Int} {bb : Int → Int} {nw : Int → Int} {ww : Int → Int} (hrn : 0 ≤ rn ∧ rn ≤ 900) (hbb : ∀ i, -128 ≤ bb i ∧ bb i ≤ 127) {F s q kk Y v lw h H : Int} (p0 : p_RDR bb rn nw ww (H)) (c0 : 0 ≤ H + (-1) * q + (-65536) * Y + (-4294967296) * v + (-25600)) (c1 : 0 ≤ q + 65536 * Y + 4294967296 * v + (-1) * H + 25600) : p_XW (Y + 65536 * v) := by
  trivial
theorem k_nor20a {rn : Int} {rk : Int} {rs : Int} {rq : Int} {rv : Int} {rl : Int} {bb : Int → Int} {nw : Int → Int} {ww : Int → Int} (hrn : 0 ≤ rn ∧ rn ≤ 900) (hrk : 0 ≤ rk ∧ rk ≤ 4) (hrs : 0 ≤ rs ∧ rs ≤ 900) (hrq : 0 ≤ rq ∧ rq ≤ 900) (hbb : ∀ i, -128 ≤ bb i ∧ bb i ≤ 127) {F s q kk Y v lw h : Int} (p0 : p_CFR bb rn nw ww (F)) (p1 : p_CUR bb rn rk rs rq rv rl (s)) (p2 : kk = rk) (p3 : q = rq) (p4 : v = rv) (c0 : 0 ≤ F + (-1) * s + (-65536) * Y + (-20480)) (c1 : 0 ≤ s + 65536 * Y + (-1) * F + 20480) (c2 : 0 ≤ lw) (c3 : 0 ≤ (-1) * lw) (c4 : 0 ≤ h + (-9999)) (c5 : 0 ≤ (-1) * h + 9999) (c6 : 0 ≤ kk + (-2)) (c7 : 0 ≤ (-1) * kk + 2) (c8 : 0 ≤ lw + (-1) * v + (-1)) (c9 : 0 ≤ s) (c10 : 0 ≤ (-1) * s + 900) (c11 : 0 ≤ Y) (c12 : 0 ≤ (-1) * Y + 4294967295) : p_HFR bb rn (8 * s + 4) := by
  obtain ⟨st, s1, r1, r2, np, W, pk, cf, wr, ro, ⟨x1, x2, x3, x4, x5⟩⟩ := p0
  unfold m_pk at pk
  obtain rfl : s1 = s := by omega
  obtain rfl : st = 20 := by omega
  obtain ⟨uA, u0, u1, u2, u3, u4, u5, u6, u7, u8, u9⟩ := p1
  have ev := u7 (by omega)
  exact ⟨4, s1, by omega, by omega, by omega, m_st_n4 (lo := 0) (hi := 9999) rfl cf (by decide) (by omega) (Or.inl (by omega))⟩
theorem k_nor20b {rn : Int} {rk : Int} {rs : Int} {rq : Int} {rv : Int} {rl : Int} {bb : Int → Int} {nw : Int → Int} {ww : Int → Int} (hrn : 0 ≤ rn ∧ rn ≤ 900) (hrk : 0 ≤ rk ∧ rk ≤ 4) (hrs : 0 ≤ rs ∧ rs ≤ 900) (hrq : 0 ≤ rq ∧ rq ≤ 900) (hbb : ∀ i, -128 ≤ bb i ∧ bb i ≤ 127) {F s q kk Y v lw h : Int} (p0 : p_CFR bb rn nw ww (F)) (p1 : p_CUR bb rn rk rs rq rv rl (s)) (p2 : kk = rk) (p3 : q = rq) (p4 : v = rv) (c0 : 0 ≤ F + (-1) * s + (-65536) * Y + (-20480)) (c1 : 0 ≤ s + 65536 * Y + (-1) * F + 20480) (c2 : 0 ≤ lw) (c3 : 0 ≤ (-1) * lw) (c4 : 0 ≤ h + (-9999)) (c5 : 0 ≤ (-1) * h + 9999) (c6 : 0 ≤ kk + (-2)) (c7 : 0 ≤ (-1) * kk + 2) (c8 : 0 ≤ v + (-1) * h + (-1)) (c9 : 0 ≤ s) (c10 : 0 ≤ (-1) * s + 900) (c11 : 0 ≤ Y) (c12 : 0 ≤ (-1) * Y + 4294967295) : p_HFR bb rn (8 * s + 4) := by
  obtain ⟨st, s1, r1, r2, np, W, pk, cf, wr, ro, ⟨x1, x2, x3, x4, x5⟩⟩ := p0
  unfold m_pk at pk
  obtain rfl : s1 = s := by omega
  obtain rfl : st = 20 := by omega
  obtain ⟨uA, u0, u1, u2, u3, u4, u5, u6, u7, u8, u9⟩ := p1
  have ev := u7 (by omega)
  exact ⟨4, s1, by omega, by omega, by omega, m_st_n4 (lo := 0) (hi := 9999) rfl cf (by decide) (by omega) (Or.inr (by omega))⟩
theorem k_mnr20a {rn : Int} {rk : Int} {rs : Int} {rq : Int} {rv : Int} {rl : Int} {bb : Int → Int} {nw : Int → Int} {ww : Int → Int} (hrn : 0 ≤ rn ∧ rn ≤ 900) (hrk : 0 ≤ rk ∧ rk ≤ 4) (hrs : 0 ≤ rs ∧ rs ≤ 900) (hrq : 0 ≤ rq ∧ rq ≤ 900) (hbb : ∀ i, -128 ≤ bb i ∧ bb i ≤ 127) {F s q kk Y : Int} (p0 : p_CFR bb rn nw ww (F)) (p1 : p_CUR bb rn rk rs rq rv rl (s)) (p2 : kk = rk) (p3 : q = rq) (c0 : 0 ≤ F + (-1) * s + (-65536) * Y + (-20480)) (c1 : 0 ≤ s + 65536 * Y + (-1) * F + 20480) (c2 : 0 ≤ kk + (-4)) (c3 : 0 ≤ s) (c4 : 0 ≤ (-1) * s + 900) (c5 : 0 ≤ Y) (c6 : 0 ≤ (-1) * Y + 4294967295) : p_HFR bb rn (8 * s + 1) := by
  obtain ⟨st, s1, r1, r2, np, W, pk, cf, wr, ro, ⟨x1, x2, x3, x4, x5⟩⟩ := p0
  unfold m_pk at pk
  obtain rfl : s1 = s := by omega
  obtain rfl : st = 20 := by omega
  obtain ⟨uA, u0, u1, u2, u3, u4, u5, u6, u7, u8, u9⟩ := p1
  exact ⟨1, s1, by omega, by omega, by omega, m_mp1 (m_st_nn rfl cf (by decide) (by omega)) (by omega)⟩
theorem k_mnr20b {rn : Int} {rk : Int} {rs : Int} {rq : Int} {rv : Int} {rl : Int} {bb : Int → Int} {nw : Int → Int} {ww : Int → Int} (hrn : 0 ≤ rn ∧ rn ≤ 900) (hrk : 0 ≤ rk ∧ rk ≤ 4) (hrs : 0 ≤ rs ∧ rs ≤ 900) (hrq : 0 ≤ rq ∧ rq ≤ 900) (hbb : ∀ i, -128 ≤ bb i ∧ bb i ≤ 127) {F s q kk Y : Int} (p0 : p_CFR bb rn nw ww (F)) (p1 : p_CUR bb rn rk rs rq rv rl (s)) (p2 : kk = rk) (p3 : q = rq) (c0 : 0 ≤ F + (-1) * s + (-65536) * Y + (-20480)) (c1 : 0 ≤ s + 65536 * Y + (-1) * F + 20480) (c2 : 0 ≤ (-1) * kk + 1) (c3 : 0 ≤ s) (c4 : 0 ≤ (-1) * s + 900) (c5 : 0 ≤ Y) (c6 : 0 ≤ (-1) * Y + 4294967295) : p_HFR bb rn (8 * s + 2) := by
  obtain ⟨st, s1, r1, r2, np, W, pk, cf, wr, ro, ⟨x1, x2, x3, x4, x5⟩⟩ := p0
  unfold m_pk at pk
  obtain rfl : s1 = s := by omega
  obtain rfl : st = 20 := by omega
  obtain ⟨uA, u0, u1, u2, u3, u4, u5, u6, u7, u8, u9⟩ := p1
  exact ⟨2, s1, by omega, by omega, by omega, m_mp2 (m_st_nn rfl cf (by decide) (by omega)) (by omega)⟩
theorem k_mnr20c {rn : Int} {rk : Int} {rs : Int} {rq : Int} {rv : Int} {rl : Int} {bb : Int → Int} {nw : Int → Int} {ww : Int → Int} (hrn : 0 ≤ rn ∧ rn ≤ 900) (hrk : 0 ≤ rk ∧ rk ≤ 4) (hrs : 0 ≤ rs ∧ rs ≤ 900) (hrq : 0 ≤ rq ∧ rq ≤ 900) (hbb : ∀ i, -128 ≤ bb i ∧ bb i ≤ 127) {F s q kk Y : Int} (p0 : p_CFR bb rn nw ww (F)) (p1 : p_CUR bb rn rk rs rq rv rl (s)) (p2 : kk = rk) (p3 : q = rq) (c0 : 0 ≤ F + (-1) * s + (-65536) * Y + (-20480)) (c1 : 0 ≤ s + 65536 * Y + (-1) * F + 20480) (c2 : 0 ≤ kk + (-3)) (c3 : 0 ≤ (-1) * kk + 3) (c4 : 0 ≤ s) (c5 : 0 ≤ (-1) * s + 900) (c6 : 0 ≤ Y) (c7 : 0 ≤ (-1) * Y + 4294967295) : p_HFR bb rn (8 * s + 2) := by
  obtain ⟨st, s1, r1, r2, np, W, pk, cf, wr, ro, ⟨x1, x2, x3, x4, x5⟩⟩ := p0
  unfold m_pk at pk
  obtain rfl : s1 = s := by omega
  obtain rfl : st = 20 := by omega
  obtain ⟨uA, u0, u1, u2, u3, u4, u5, u6, u7, u8, u9⟩ := p1
  exact ⟨2, s1, by omega, by omega, by omega, m_mp2 (m_st_nn rfl cf (by decide) (by omega)) (by omega)⟩
theorem k_nuv {rn : Int} {rk : Int} {rs : Int} {rq : Int} {rv : Int} {rl : Int} {bb : Int → Int} (hrn : 0 ≤ rn ∧ rn ≤ 900) (hrk : 0 ≤ rk ∧ rk ≤ 4) (hrs : 0 ≤ rs ∧ rs ≤ 900) (hrq : 0 ≤ rq ∧ rq ≤ 900) (hbb : ∀ i, -128 ≤ bb i ∧ bb i ≤ 127) {s kk v : Int} (p0 : p_CUR bb rn rk rs rq rv rl (s)) (p1 : kk = rk) (p2 : v = rv) (c0 : 0 ≤ kk + (-2)) (c1 : 0 ≤ (-1) * kk + 2) : 0 ≤ v := by
  obtain ⟨uA, u0, u1, u2, u3, u4, u5, u6, u7, u8, u9⟩ := p0
  have e := u7 (by omega)
  have := m_tv_bd (b := bb) (n := rn) (s := s) (by omega)
  omega
theorem k_nuw {rn : Int} {rk : Int} {rs : Int} {rq : Int} {rv : Int} {rl : Int} {bb : Int → Int} (hrn : 0 ≤ rn ∧ rn ≤ 900) (hrk : 0 ≤ rk ∧ rk ≤ 4) (hrs : 0 ≤ rs ∧ rs ≤ 900) (hrq : 0 ≤ rq ∧ rq ≤ 900) (hbb : ∀ i, -128 ≤ bb i ∧ bb i ≤ 127) {s kk v : Int} (p0 : p_CUR bb rn rk rs rq rv rl (s)) (p1 : kk = rk) (p2 : v = rv) (c0 : 0 ≤ kk + (-2)) (c1 : 0 ≤ (-1) * kk + 2) : 0 ≤ (-1) * v + 9999 := by
  obtain ⟨uA, u0, u1, u2, u3, u4, u5, u6, u7, u8, u9⟩ := p0
  have e := u7 (by omega)
  have := m_tv_bd (b := bb) (n := rn) (s := s) (by omega)
  omega
theorem k_psn0 {z2 : Int} {nw : Int → Int} (hz2 : 0 ≤ z2 ∧ z2 ≤ 6) (lz2 : z2 = nw 2) {n : Int} (c0 : 0 ≤ n) (c1 : 0 ≤ (-1) * n) : p_PSN nw (n) := by
  obtain rfl : n = 0 := by omega
  exact ⟨0, 0, by omega, by omega, by omega, by omega, by omega, rfl⟩
theorem k_psnl {z2 : Int} {nw : Int → Int} (hz2 : 0 ≤ z2 ∧ z2 ≤ 6) (lz2 : z2 = nw 2) {i z n k c : Int} (znw : 0 ≤ i - 1440 → i - 1440 < 360 → nw (i - 1440) = z) (p0 : p_PSN nw (n + 4096 * k)) (p1 : c = z2) (c0 : 0 ≤ i + (-1) * k + (-1447)) (c1 : 0 ≤ k + (-1) * i + 1447) (c2 : 0 ≤ k) (c3 : 0 ≤ (-1) * k + 5) (c4 : 0 ≤ n) (c5 : 0 ≤ (-1) * n + 96) (c6 : 0 ≤ z) (c7 : 0 ≤ (-1) * z + 16) (c8 : 0 ≤ c + (-1) * k + (-1)) : p_PSN nw (n + z + 4096 * k + 4096) := by
  obtain ⟨n0, k0, e0, f1, f2, f3, f4, f5⟩ := p0
  obtain ⟨rfl, rfl⟩ : n0 = n ∧ k0 = k := by omega
  have hz := znw (by omega) (by omega)
  rw [show i - 1440 = 7 + k0 by omega] at hz
  refine ⟨n0 + z, k0 + 1, by omega, by omega, by omega, by omega, by omega, ?_⟩
  rw [show (k0 + 1).toNat = k0.toNat + 1 by omega]
  show n0 + z = m_sum (fun j => nw (7 + j)) k0.toNat + nw (7 + ((k0.toNat : Nat) : Int))
  rw [← f5, show ((k0.toNat : Nat) : Int) = k0 by omega, hz]
theorem k_nsn {z2 : Int} {nw : Int → Int} (hz2 : 0 ≤ z2 ∧ z2 ≤ 6) (lz2 : z2 = nw 2) {n k c : Int} (p0 : p_PSN nw (n + 4096 * k)) (p1 : c = z2) (c0 : 0 ≤ k + (-1) * c) (c1 : 0 ≤ n) (c2 : 0 ≤ (-1) * n + 4095) (c3 : 0 ≤ k) (c4 : 0 ≤ (-1) * k + 6) : p_NSN nw (n) := by
  obtain ⟨n0, k0, e0, f1, f2, f3, f4, f5⟩ := p0
  obtain ⟨rfl, rfl⟩ : n0 = n ∧ k0 = k := by omega
  obtain rfl : k0 = nw 2 := by omega
  exact f5
theorem k_par5 {rn : Int} {rk : Int} {rs : Int} {rq : Int} {rv : Int} {rl : Int} {z2 : Int} {bb : Int → Int} {nw : Int → Int} {ww : Int → Int} (hrn : 0 ≤ rn ∧ rn ≤ 900) (hrk : 0 ≤ rk ∧ rk ≤ 4) (hrs : 0 ≤ rs ∧ rs ≤ 900) (hrq : 0 ≤ rq ∧ rq ≤ 900) (hz2 : 0 ≤ z2 ∧ z2 ≤ 6) (hbb : ∀ i, -128 ≤ bb i ∧ bb i ≤ 127) (lz2 : z2 = nw 2) {F G s q kk c : Int} (p0 : p_CFR bb rn nw ww (F)) (p1 : p_WIR bb rn (G)) (p2 : p_CUR bb rn rk rs rq rv rl (s)) (p3 : kk = rk) (p4 : q = rq) (p5 : c = z2) (c0 : 0 ≤ F + (-1) * s + (-5120)) (c1 : 0 ≤ s + (-1) * F + 5120) (c2 : 0 ≤ G + (-1099511627776) * s + (-117099109)) (c3 : 0 ≤ 1099511627776 * s + (-1) * G + 117099109) (c4 : 0 ≤ q) (c5 : 0 ≤ (-1) * q + 1023) (c6 : 0 ≤ (-1) * c + 5) (c7 : 0 ≤ s) (c8 : 0 ≤ (-1) * s + 900) : p_RDR bb rn nw ww (q + 6144) := by
  obtain ⟨st, s1, r1, r2, np, W, pk, cf, wr, ro, ⟨x1, x2, x3, x4, x5⟩⟩ := p0
  unfold m_pk at pk
  obtain rfl : s1 = s := by omega
  obtain rfl : st = 5 := by omega
  obtain ⟨w0, s0, y1, y2, y3, y4, hw⟩ := p1
  obtain rfl : s0 = s1 := by omega
  obtain rfl : w0 = 117099109 := by omega
  obtain ⟨uA, u0, u1, u2, u3, u4, u5, u6, u7, u8, u9⟩ := p2
  obtain rfl : r1 = 0 := by omega
  obtain rfl : r2 = 0 := by omega
  have AT := m_cf_5 cf (by decide)
  rw [m_prt_k hw] at AT
  simp only [if_pos, if_neg, reduceIte, Int.reduceEq] at AT
  have cw := wr.1.1
  rw [if_neg (by omega), ← u1] at AT
  exact ⟨6, rq, 0, 0, 0, W, (by unfold m_pk; omega), Or.inl ⟨by decide, AT⟩, wr, fun _ => ro (by decide), ⟨fun h => absurd h (by decide), fun h => absurd h (by decide), fun h => absurd h (by unfold m_ps; decide), fun h => absurd h (by decide), fun h => absurd h (by decide)⟩⟩
theorem k_pfr5 {rn : Int} {rk : Int} {rs : Int} {rq : Int} {rv : Int} {rl : Int} {z2 : Int} {bb : Int → Int} {nw : Int → Int} {ww : Int → Int} (hrn : 0 ≤ rn ∧ rn ≤ 900) (hrk : 0 ≤ rk ∧ rk ≤ 4) (hrs : 0 ≤ rs ∧ rs ≤ 900) (hrq : 0 ≤ rq ∧ rq ≤ 900) (hz2 : 0 ≤ z2 ∧ z2 ≤ 6) (hbb : ∀ i, -128 ≤ bb i ∧ bb i ≤ 127) (lz2 : z2 = nw 2) {F G s q kk c : Int} (p0 : p_CFR bb rn nw ww (F)) (p1 : p_WIR bb rn (G)) (p2 : p_CUR bb rn rk rs rq rv rl (s)) (p3 : kk = rk) (p4 : q = rq) (p5 : c = z2) (c0 : 0 ≤ F + (-1) * s + (-5120)) (c1 : 0 ≤ s + (-1) * F + 5120) (c2 : 0 ≤ G + (-1099511627776) * s + (-117099109)) (c3 : 0 ≤ 1099511627776 * s + (-1) * G + 117099109) (c4 : 0 ≤ q) (c5 : 0 ≤ (-1) * q + 1023) (c6 : 0 ≤ c + (-6)) (c7 : 0 ≤ s) (c8 : 0 ≤ (-1) * s + 900) : p_HFR bb rn (8 * s + 6) := by
  obtain ⟨st, s1, r1, r2, np, W, pk, cf, wr, ro, ⟨x1, x2, x3, x4, x5⟩⟩ := p0
  unfold m_pk at pk
  obtain rfl : s1 = s := by omega
  obtain rfl : st = 5 := by omega
  obtain ⟨w0, s0, y1, y2, y3, y4, hw⟩ := p1
  obtain rfl : s0 = s1 := by omega
  obtain rfl : w0 = 117099109 := by omega
  obtain ⟨uA, u0, u1, u2, u3, u4, u5, u6, u7, u8, u9⟩ := p2
  obtain rfl : r1 = 0 := by omega
  obtain rfl : r2 = 0 := by omega
  have AT := m_cf_5 cf (by decide)
  rw [m_prt_k hw] at AT
  simp only [if_pos, if_neg, reduceIte, Int.reduceEq] at AT
  have cw := wr.1.1
  rw [if_pos (by omega)] at AT
  exact ⟨6, s0, by omega, by omega, by omega, AT⟩
theorem k_par26 {rn : Int} {rk : Int} {rs : Int} {rq : Int} {rv : Int} {rl : Int} {z3 : Int} {bb : Int → Int} {nw : Int → Int} {ww : Int → Int} (hrn : 0 ≤ rn ∧ rn ≤ 900) (hrk : 0 ≤ rk ∧ rk ≤ 4) (hrs : 0 ≤ rs ∧ rs ≤ 900) (hrq : 0 ≤ rq ∧ rq ≤ 900) (hz3 : 0 ≤ z3 ∧ z3 ≤ 4) (hbb : ∀ i, -128 ≤ bb i ∧ bb i ≤ 127) (lz3 : z3 = nw 3) {F G s q kk c : Int} (p0 : p_CFR bb rn nw ww (F)) (p1 : p_WIR bb rn (G)) (p2 : p_CUR bb rn rk rs rq rv rl (s)) (p3 : kk = rk) (p4 : q = rq) (p5 : c = z3) (c0 : 0 ≤ F + (-1) * s + (-26624)) (c1 : 0 ≤ s + (-1) * F + 26624) (c2 : 0 ≤ G + (-1099511627776) * s + (-13684206)) (c3 : 0 ≤ 1099511627776 * s + (-1) * G + 13684206) (c4 : 0 ≤ q) (c5 : 0 ≤ (-1) * q + 1023) (c6 : 0 ≤ (-1) * c + 3) (c7 : 0 ≤ s) (c8 : 0 ≤ (-1) * s + 900) : p_RDR bb rn nw ww (q + 7168) := by
  obtain ⟨st, s1, r1, r2, np, W, pk, cf, wr, ro, ⟨x1, x2, x3, x4, x5⟩⟩ := p0
  unfold m_pk at pk
  obtain rfl : s1 = s := by omega
  obtain rfl : st = 26 := by omega
  obtain ⟨w0, s0, y1, y2, y3, y4, hw⟩ := p1
  obtain rfl : s0 = s1 := by omega
  obtain rfl : w0 = 13684206 := by omega
  obtain ⟨uA, u0, u1, u2, u3, u4, u5, u6, u7, u8, u9⟩ := p2
  obtain rfl : r1 = 0 := by omega
  obtain rfl : r2 = 0 := by omega
  have AT := m_cf_5 cf (by decide)
  rw [m_prt_k hw] at AT
  simp only [if_pos, if_neg, reduceIte, Int.reduceEq] at AT
  have cw := wr.1.2.1
  rw [if_neg (by omega), ← u1] at AT
  exact ⟨7, rq, 0, 0, 0, W, (by unfold m_pk; omega), Or.inl ⟨by decide, AT⟩, wr, fun _ => ro (by decide), ⟨fun h => absurd h (by decide), fun h => absurd h (by decide), fun h => absurd h (by unfold m_ps; decide), fun h => absurd h (by decide), fun h => absurd h (by decide)⟩⟩
theorem k_pfr26 {rn : Int} {rk : Int} {rs : Int} {rq : Int} {rv : Int} {rl : Int} {z3 : Int} {bb : Int → Int} {nw : Int → Int} {ww : Int → Int} (hrn : 0 ≤ rn ∧ rn ≤ 900) (hrk : 0 ≤ rk ∧ rk ≤ 4) (hrs : 0 ≤ rs ∧ rs ≤ 900) (hrq : 0 ≤ rq ∧ rq ≤ 900) (hz3 : 0 ≤ z3 ∧ z3 ≤ 4) (hbb : ∀ i, -128 ≤ bb i ∧ bb i ≤ 127) (lz3 : z3 = nw 3) {F G s q kk c : Int} (p0 : p_CFR bb rn nw ww (F)) (p1 : p_WIR bb rn (G)) (p2 : p_CUR bb rn rk rs rq rv rl (s)) (p3 : kk = rk) (p4 : q = rq) (p5 : c = z3) (c0 : 0 ≤ F + (-1) * s + (-26624)) (c1 : 0 ≤ s + (-1) * F + 26624) (c2 : 0 ≤ G + (-1099511627776) * s + (-13684206)) (c3 : 0 ≤ 1099511627776 * s + (-1) * G + 13684206) (c4 : 0 ≤ q) (c5 : 0 ≤ (-1) * q + 1023) (c6 : 0 ≤ c + (-4)) (c7 : 0 ≤ s) (c8 : 0 ≤ (-1) * s + 900) : p_HFR bb rn (8 * s + 6) := by
  obtain ⟨st, s1, r1, r2, np, W, pk, cf, wr, ro, ⟨x1, x2, x3, x4, x5⟩⟩ := p0
  unfold m_pk at pk
  obtain rfl : s1 = s := by omega
  obtain rfl : st = 26 := by omega
  obtain ⟨w0, s0, y1, y2, y3, y4, hw⟩ := p1
  obtain rfl : s0 = s1 := by omega
  obtain rfl : w0 = 13684206 := by omega
  obtain ⟨uA, u0, u1, u2, u3, u4, u5, u6, u7, u8, u9⟩ := p2
  obtain rfl : r1 = 0 := by omega
  obtain rfl : r2 = 0 := by omega
  have AT := m_cf_5 cf (by decide)
  rw [m_prt_k hw] at AT
  simp only [if_pos, if_neg, reduceIte, Int.reduceEq] at AT
  have cw := wr.1.2.1
  rw [if_pos (by omega)] at AT
  exact ⟨6, s0, by omega, by omega, by omega, AT⟩
theorem k_par27 {rn : Int} {rk : Int} {rs : Int} {rq : Int} {rv : Int} {rl : Int} {z4 : Int} {bb : Int → Int} {nw : Int → Int} {ww : Int → Int} (hrn : 0 ≤ rn ∧ rn ≤ 900) (hrk : 0 ≤ rk ∧ rk ≤ 4) (hrs : 0 ≤ rs ∧ rs ≤ 900) (hrq : 0 ≤ rq ∧ rq ≤ 900) (hz4 : 0 ≤ z4 ∧ z4 ≤ 6) (hbb : ∀ i, -128 ≤ bb i ∧ bb i ≤ 127) (lz4 : z4 = nw 4) {F G s q kk c : Int} (p0 : p_CFR bb rn nw ww (F)) (p1 : p_WIR bb rn (G)) (p2 : p_CUR bb rn rk rs rq rv rl (s)) (p3 : kk = rk) (p4 : q = rq) (p5 : c = z4) (c0 : 0 ≤ F + (-1) * s + (-27648)) (c1 : 0 ≤ s + (-1) * F + 27648) (c2 : 0 ≤ G + (-1099511627776) * s + (-635184)) (c3 : 0 ≤ 1099511627776 * s + (-1) * G + 635184) (c4 : 0 ≤ q) (c5 : 0 ≤ (-1) * q + 1023) (c6 : 0 ≤ (-1) * c + 5) (c7 : 0 ≤ s) (c8 : 0 ≤ (-1) * s + 900) : p_RDR bb rn nw ww (q + 8192) := by
  obtain ⟨st, s1, r1, r2, np, W, pk, cf, wr, ro, ⟨x1, x2, x3, x4, x5⟩⟩ := p0
  unfold m_pk at pk
  obtain rfl : s1 = s := by omega
  obtain rfl : st = 27 := by omega
  obtain ⟨w0, s0, y1, y2, y3, y4, hw⟩ := p1
  obtain rfl : s0 = s1 := by omega
  obtain rfl : w0 = 635184 := by omega
  obtain ⟨uA, u0, u1, u2, u3, u4, u5, u6, u7, u8, u9⟩ := p2
  obtain rfl : r1 = 0 := by omega
  obtain rfl : r2 = 0 := by omega
  have AT := m_cf_5 cf (by decide)
  rw [m_prt_k hw] at AT
  simp only [if_pos, if_neg, reduceIte, Int.reduceEq] at AT
  have cw := wr.1.2.2.1
  rw [if_neg (by omega), ← u1] at AT
  exact ⟨8, rq, 0, 0, 0, W, (by unfold m_pk; omega), Or.inl ⟨by decide, AT⟩, wr, fun _ => ro (by decide), ⟨fun h => absurd h (by decide), fun h => absurd h (by decide), fun h => absurd h (by unfold m_ps; decide), fun h => absurd h (by decide), fun h => absurd h (by decide)⟩⟩
theorem k_pfr27 {rn : Int} {rk : Int} {rs : Int} {rq : Int} {rv : Int} {rl : Int} {z4 : Int} {bb : Int → Int} {nw : Int → Int} {ww : Int → Int} (hrn : 0 ≤ rn ∧ rn ≤ 900) (hrk : 0 ≤ rk ∧ rk ≤ 4) (hrs : 0 ≤ rs ∧ rs ≤ 900) (hrq : 0 ≤ rq ∧ rq ≤ 900) (hz4 : 0 ≤ z4 ∧ z4 ≤ 6) (hbb : ∀ i, -128 ≤ bb i ∧ bb i ≤ 127) (lz4 : z4 = nw 4) {F G s q kk c : Int} (p0 : p_CFR bb rn nw ww (F)) (p1 : p_WIR bb rn (G)) (p2 : p_CUR bb rn rk rs rq rv rl (s)) (p3 : kk = rk) (p4 : q = rq) (p5 : c = z4) (c0 : 0 ≤ F + (-1) * s + (-27648)) (c1 : 0 ≤ s + (-1) * F + 27648) (c2 : 0 ≤ G + (-1099511627776) * s + (-635184)) (c3 : 0 ≤ 1099511627776 * s + (-1) * G + 635184) (c4 : 0 ≤ q) (c5 : 0 ≤ (-1) * q + 1023) (c6 : 0 ≤ c + (-6)) (c7 : 0 ≤ s) (c8 : 0 ≤ (-1) * s + 900) : p_HFR bb rn (8 * s + 6) := by
  obtain ⟨st, s1, r1, r2, np, W, pk, cf, wr, ro, ⟨x1, x2, x3, x4, x5⟩⟩ := p0
  unfold m_pk at pk
  obtain rfl : s1 = s := by omega
  obtain rfl : st = 27 := by omega
  obtain ⟨w0, s0, y1, y2, y3, y4, hw⟩ := p1
  obtain rfl : s0 = s1 := by omega
  obtain rfl : w0 = 635184 := by omega
  obtain ⟨uA, u0, u1, u2, u3, u4, u5, u6, u7, u8, u9⟩ := p2
  obtain rfl : r1 = 0 := by omega
  obtain rfl : r2 = 0 := by omega
  have AT := m_cf_5 cf (by decide)
  rw [m_prt_k hw] at AT
  simp only [if_pos, if_neg, reduceIte, Int.reduceEq] at AT
  have cw := wr.1.2.2.1
  rw [if_pos (by omega)] at AT
  exact ⟨6, s0, by omega, by omega, by omega, AT⟩
theorem k_par28 {rn : Int} {rk : Int} {rs : Int} {rq : Int} {rv : Int} {rl : Int} {z5 : Int} {bb : Int → Int} {nw : Int → Int} {ww : Int → Int} (hrn : 0 ≤ rn ∧ rn ≤ 900) (hrk : 0 ≤ rk ∧ rk ≤ 4) (hrs : 0 ≤ rs ∧ rs ≤ 900) (hrq : 0 ≤ rq ∧ rq ≤ 900) (hz5 : 0 ≤ z5 ∧ z5 ≤ 8) (hbb : ∀ i, -128 ≤ bb i ∧ bb i ≤ 127) (lz5 : z5 = nw 5) {F G s q kk c : Int} (p0 : p_CFR bb rn nw ww (F)) (p1 : p_WIR bb rn (G)) (p2 : p_CUR bb rn rk rs rq rv rl (s)) (p3 : kk = rk) (p4 : q = rq) (p5 : c = z5) (c0 : 0 ≤ F + (-1) * s + (-28672)) (c1 : 0 ≤ s + (-1) * F + 28672) (c2 : 0 ≤ G + (-1099511627776) * s + (-206276)) (c3 : 0 ≤ 1099511627776 * s + (-1) * G + 206276) (c4 : 0 ≤ q) (c5 : 0 ≤ (-1) * q + 1023) (c6 : 0 ≤ (-1) * c + 7) (c7 : 0 ≤ s) (c8 : 0 ≤ (-1) * s + 900) : p_RDR bb rn nw ww (q + 9216) := by
  obtain ⟨st, s1, r1, r2, np, W, pk, cf, wr, ro, ⟨x1, x2, x3, x4, x5⟩⟩ := p0
  unfold m_pk at pk
  obtain rfl : s1 = s := by omega
  obtain rfl : st = 28 := by omega
  obtain ⟨w0, s0, y1, y2, y3, y4, hw⟩ := p1
  obtain rfl : s0 = s1 := by omega
  obtain rfl : w0 = 206276 := by omega
  obtain ⟨uA, u0, u1, u2, u3, u4, u5, u6, u7, u8, u9⟩ := p2
  obtain rfl : r1 = 0 := by omega
  obtain rfl : r2 = 0 := by omega
  have AT := m_cf_5 cf (by decide)
  rw [m_prt_k hw] at AT
  simp only [if_pos, if_neg, reduceIte, Int.reduceEq] at AT
  have cw := wr.1.2.2.2
  rw [if_neg (by omega), ← u1] at AT
  exact ⟨9, rq, 0, 0, 0, W, (by unfold m_pk; omega), Or.inl ⟨by decide, AT⟩, wr, fun _ => ro (by decide), ⟨fun h => absurd h (by decide), fun h => absurd h (by decide), fun h => absurd h (by unfold m_ps; decide), fun h => absurd h (by decide), fun h => absurd h (by decide)⟩⟩
theorem k_pfr28 {rn : Int} {rk : Int} {rs : Int} {rq : Int} {rv : Int} {rl : Int} {z5 : Int} {bb : Int → Int} {nw : Int → Int} {ww : Int → Int} (hrn : 0 ≤ rn ∧ rn ≤ 900) (hrk : 0 ≤ rk ∧ rk ≤ 4) (hrs : 0 ≤ rs ∧ rs ≤ 900) (hrq : 0 ≤ rq ∧ rq ≤ 900) (hz5 : 0 ≤ z5 ∧ z5 ≤ 8) (hbb : ∀ i, -128 ≤ bb i ∧ bb i ≤ 127) (lz5 : z5 = nw 5) {F G s q kk c : Int} (p0 : p_CFR bb rn nw ww (F)) (p1 : p_WIR bb rn (G)) (p2 : p_CUR bb rn rk rs rq rv rl (s)) (p3 : kk = rk) (p4 : q = rq) (p5 : c = z5) (c0 : 0 ≤ F + (-1) * s + (-28672)) (c1 : 0 ≤ s + (-1) * F + 28672) (c2 : 0 ≤ G + (-1099511627776) * s + (-206276)) (c3 : 0 ≤ 1099511627776 * s + (-1) * G + 206276) (c4 : 0 ≤ q) (c5 : 0 ≤ (-1) * q + 1023) (c6 : 0 ≤ c + (-8)) (c7 : 0 ≤ s) (c8 : 0 ≤ (-1) * s + 900) : p_HFR bb rn (8 * s + 6) := by
  obtain ⟨st, s1, r1, r2, np, W, pk, cf, wr, ro, ⟨x1, x2, x3, x4, x5⟩⟩ := p0
  unfold m_pk at pk
  obtain rfl : s1 = s := by omega
  obtain rfl : st = 28 := by omega
  obtain ⟨w0, s0, y1, y2, y3, y4, hw⟩ := p1
  obtain rfl : s0 = s1 := by omega
  obtain rfl : w0 = 206276 := by omega
  obtain ⟨uA, u0, u1, u2, u3, u4, u5, u6, u7, u8, u9⟩ := p2
  obtain rfl : r1 = 0 := by omega
  obtain rfl : r2 = 0 := by omega
  have AT := m_cf_5 cf (by decide)
  rw [m_prt_k hw] at AT
  simp only [if_pos, if_neg, reduceIte, Int.reduceEq] at AT
  have cw := wr.1.2.2.2
  rw [if_pos (by omega)] at AT
  exact ⟨6, s0, by omega, by omega, by omega, AT⟩
theorem k_car {rn : Int} {z2 : Int} {bb : Int → Int} {nw : Int → Int} {ww : Int → Int} (hrn : 0 ≤ rn ∧ rn ≤ 900) (hz2 : 0 ≤ z2 ∧ z2 ≤ 6) (hbb : ∀ i, -128 ≤ bb i ∧ bb i ≤ 127) (lz2 : z2 = nw 2) {i z F s Y c : Int} (i1 : 0 ≤ i) (p0 : p_CFR bb rn nw ww (F)) (p1 : c = z2) (c0 : 0 ≤ F + (-1) * s + (-65536) * Y + (-10240)) (c1 : 0 ≤ s + 65536 * Y + (-1) * F + 10240) (c2 : 0 ≤ i + (-1) * c + (-1447)) (c3 : 0 ≤ c + (-1) * i + 1447) (c4 : 0 ≤ z + (-1) * Y) (c5 : 0 ≤ Y + (-1) * z) (c6 : 0 ≤ z) (c7 : 0 ≤ (-1) * z + 65535) (c8 : 0 ≤ s) (c9 : 0 ≤ (-1) * s + 900) (c10 : 0 ≤ Y) (c11 : 0 ≤ (-1) * Y + 4294967295) : p_CAR bb rn (m_upo 1440 360 nw i z) ww (F) := by
  obtain ⟨st, s1, r1, r2, np, W, pk, cf, wr, ro, ⟨x1, x2, x3, x4, x5⟩⟩ := p0
  unfold m_pk at pk
  obtain rfl : s1 = s := by omega
  obtain rfl : st = 10 := by omega
  obtain ⟨⟨i1, i2, i3, i4, i5⟩, -, i8, i9, i10, i11, i12⟩ := (show m_icx 10 r1 W from m_cf_i cf (by decide))
  obtain ⟨b1, b2, b3, b4⟩ := wr.1
  have d1 := m_ln_0 (m_wcs W)
  have d2 := m_ln_0 (m_wms W)
  have d3 := m_ln_0 (m_wss W)
  have d4 := m_ln_0 (m_wfs W)
  have g := i8 (by decide)
  rw [m_upo_e (p := 7 + nw 2) (by omega) (by omega) (by omega)]
  exact ⟨10, s1, r1, r2, np, W, (by unfold m_pk; omega), cf, m_wr_up wr ⟨by omega, by omega, by omega, by omega, by omega, by omega⟩ (fun k hk => by unfold m_ln at *; omega) (fun k hk => by unfold m_ln at *; constructor <;> omega) (fun k hk => by unfold m_ln at *; constructor <;> omega) (fun k hk => by unfold m_ln at *; constructor <;> omega), fun _ => ⟨by rw [m_up_ne (by omega)]; exact (ro (by decide)).1, by rw [m_up_ne (by omega)]; exact (ro (by decide)).2⟩, fun _ => by rw [m_up_ne (show (2 : Int) ≠ 7 + nw 2 by omega), m_up_at rfl]; omega, fun h => absurd h (by decide), fun h => absurd h (by decide), fun h => absurd h (by decide)⟩
theorem k_caa {rn : Int} {z2 : Int} {bb : Int → Int} {nw : Int → Int} {ww : Int → Int} (hrn : 0 ≤ rn ∧ rn ≤ 900) (hz2 : 0 ≤ z2 ∧ z2 ≤ 6) (hbb : ∀ i, -128 ≤ bb i ∧ bb i ≤ 127) (lz2 : z2 = nw 2) {i z F s Y c : Int} (i1 : 0 ≤ i) (p0 : p_CAR bb rn nw ww (F)) (p1 : c = z2) (c0 : 0 ≤ F + (-1) * s + (-65536) * Y + (-10240)) (c1 : 0 ≤ s + 65536 * Y + (-1) * F + 10240) (c2 : 0 ≤ i + (-1442)) (c3 : 0 ≤ (-1) * i + 1442) (c4 : 0 ≤ z + (-1) * c + (-1)) (c5 : 0 ≤ c + (-1) * z + 1) (c6 : 0 ≤ s) (c7 : 0 ≤ (-1) * s + 900) (c8 : 0 ≤ Y) (c9 : 0 ≤ (-1) * Y + 4294967295) : p_CFAR bb rn (m_upo 1440 360 nw i z) ww (F) := by
  obtain ⟨st, s1, r1, r2, np, W, pk, cf, wr, ro, y1, y2, y3, y4⟩ := p0
  unfold m_pk at pk
  obtain rfl : s1 = s := by omega
  obtain rfl : st = 10 := by omega
  rw [m_upo_e (p := 2) (by omega) (by omega) (by omega)]
  rw [show z = nw 2 + 1 by omega]
  exact ⟨10, s1, r1, r2, np, W, (by unfold m_pk; omega), cf, by decide, m_wr_c wr (y1 rfl), fun _ => ⟨by rw [m_up_ne (by omega)]; exact (ro (by decide)).1, by rw [m_up_ne (by omega)]; exact (ro (by decide)).2⟩⟩
theorem k_nrr0 {rn : Int} {bb : Int → Int} (hrn : 0 ≤ rn ∧ rn ≤ 900) (hbb : ∀ i, -128 ≤ bb i ∧ bb i ≤ 127) {s : Int} (c0 : 0 ≤ s) (c1 : 0 ≤ (-1) * s + 900) : p_NRR bb rn (s) := by
  exact ⟨s, 0, by omega, by omega, by omega, by omega, fun i a => by omega⟩
theorem k_nrrn0 {rn : Int} {bb : Int → Int} (hrn : 0 ≤ rn ∧ rn ≤ 900) (hbb : ∀ i, -128 ≤ bb i ∧ bb i ≤ 127) {F G s : Int} (p0 : p_NRR bb rn (F)) (p1 : p_NIR bb rn (G)) (c0 : 0 ≤ F + (-1) * s) (c1 : 0 ≤ s + (-1) * F) (c2 : 0 ≤ G + (-1099511627776) * s + (-493192)) (c3 : 0 ≤ 1099511627776 * s + (-1) * G + 493192) (c4 : 0 ≤ s) (c5 : 0 ≤ (-1) * s + 900) : p_NRR bb rn (F + 1024) := by
  obtain ⟨w1, s2, y1, y2, y3, y4, hw1⟩ := p1
  obtain rfl : s2 = s := by omega
  obtain rfl : w1 = 493192 := by omega
  obtain ⟨s0, j0, e0, f1, f2, f3, f4⟩ := p0
  obtain ⟨rfl, rfl⟩ : s0 = s2 ∧ j0 = 0 := by omega
  refine ⟨s0, 0 + 1, by omega, by omega, by omega, by omega, fun i a w hw => ?_⟩
  by_cases k : (i : Int) < 0
  · exact f4 i k w hw
  · obtain rfl : i = 0 := by omega
    obtain rfl : 493192 = w := Option.some.inj hw
    exact hw1
theorem k_xnrr0 {rn : Int} {bb : Int → Int} (hrn : 0 ≤ rn ∧ rn ≤ 900) (hbb : ∀ i, -128 ≤ bb i ∧ bb i ≤ 127) {G s : Int} (p0 : p_WIR bb rn (G)) (c0 : 0 ≤ G + (-1099511627776) * s + (-493192)) (c1 : 0 ≤ 1099511627776 * s + (-1) * G + 493192) (c2 : 0 ≤ s) (c3 : 0 ≤ (-1) * s + 900) : p_XNR bb rn (s) := by
  obtain ⟨w1, s2, y1, y2, y3, y4, hw1⟩ := p0
  obtain rfl : s2 = s := by omega
  obtain rfl : w1 = 493192 := by omega
  refine ⟨by omega, ?_⟩
  rw [m_ntz m_nmk_t]
  rintro ⟨k1, k2, k3⟩
  exact k3 493192 (by decide) hw1.2
theorem k_nrrn1 {rn : Int} {bb : Int → Int} (hrn : 0 ≤ rn ∧ rn ≤ 900) (hbb : ∀ i, -128 ≤ bb i ∧ bb i ≤ 127) {F G s : Int} (p0 : p_NRR bb rn (F)) (p1 : p_NIR bb rn (G)) (c0 : 0 ≤ F + (-1) * s + (-1024)) (c1 : 0 ≤ s + (-1) * F + 1024) (c2 : 0 ≤ G + (-1099511627776) * s + (-215533)) (c3 : 0 ≤ 1099511627776 * s + (-1) * G + 215533) (c4 : 0 ≤ s) (c5 : 0 ≤ (-1) * s + 900) : p_NRR bb rn (F + 1024) := by
  obtain ⟨w1, s2, y1, y2, y3, y4, hw1⟩ := p1
  obtain rfl : s2 = s := by omega
  obtain rfl : w1 = 215533 := by omega
  obtain ⟨s0, j0, e0, f1, f2, f3, f4⟩ := p0
  obtain ⟨rfl, rfl⟩ : s0 = s2 ∧ j0 = 1 := by omega
  refine ⟨s0, 1 + 1, by omega, by omega, by omega, by omega, fun i a w hw => ?_⟩
  by_cases k : (i : Int) < 1
  · exact f4 i k w hw
  · obtain rfl : i = 1 := by omega
    obtain rfl : 215533 = w := Option.some.inj hw
    exact hw1
theorem k_xnrr1 {rn : Int} {bb : Int → Int} (hrn : 0 ≤ rn ∧ rn ≤ 900) (hbb : ∀ i, -128 ≤ bb i ∧ bb i ≤ 127) {G s : Int} (p0 : p_WIR bb rn (G)) (c0 : 0 ≤ G + (-1099511627776) * s + (-215533)) (c1 : 0 ≤ 1099511627776 * s + (-1) * G + 215533) (c2 : 0 ≤ s) (c3 : 0 ≤ (-1) * s + 900) : p_XNR bb rn (s) := by
  obtain ⟨w1, s2, y1, y2, y3, y4, hw1⟩ := p0
  obtain rfl : s2 = s := by omega
  obtain rfl : w1 = 215533 := by omega
  refine ⟨by omega, ?_⟩
  rw [m_ntz m_nmk_t]
  rintro ⟨k1, k2, k3⟩
  exact k3 215533 (by decide) hw1.2
theorem k_nrrn2 {rn : Int} {bb : Int → Int} (hrn : 0 ≤ rn ∧ rn ≤ 900) (hbb : ∀ i, -128 ≤ bb i ∧ bb i ≤ 127) {F G s : Int} (p0 : p_NRR bb rn (F)) (p1 : p_NIR bb rn (G)) (c0 : 0 ≤ F + (-1) * s + (-2048)) (c1 : 0 ≤ s + (-1) * F + 2048) (c2 : 0 ≤ G + (-1099511627776) * s + (-117099109)) (c3 : 0 ≤ 1099511627776 * s + (-1) * G + 117099109) (c4 : 0 ≤ s) (c5 : 0 ≤ (-1) * s + 900) : p_NRR bb rn (F + 1024) := by
  obtain ⟨w1, s2, y1, y2, y3, y4, hw1⟩ := p1
  obtain rfl : s2 = s := by omega
  obtain rfl : w1 = 117099109 := by omega
  obtain ⟨s0, j0, e0, f1, f2, f3, f4⟩ := p0
  obtain ⟨rfl, rfl⟩ : s0 = s2 ∧ j0 = 2 := by omega
  refine ⟨s0, 2 + 1, by omega, by omega, by omega, by omega, fun i a w hw => ?_⟩
  by_cases k : (i : Int) < 2
  · exact f4 i k w hw
  · obtain rfl : i = 2 := by omega
    obtain rfl : 117099109 = w := Option.some.inj hw
    exact hw1
theorem k_xnrr2 {rn : Int} {bb : Int → Int} (hrn : 0 ≤ rn ∧ rn ≤ 900) (hbb : ∀ i, -128 ≤ bb i ∧ bb i ≤ 127) {G s : Int} (p0 : p_WIR bb rn (G)) (c0 : 0 ≤ G + (-1099511627776) * s + (-117099109)) (c1 : 0 ≤ 1099511627776 * s + (-1) * G + 117099109) (c2 : 0 ≤ s) (c3 : 0 ≤ (-1) * s + 900) : p_XNR bb rn (s) := by
  obtain ⟨w1, s2, y1, y2, y3, y4, hw1⟩ := p0
  obtain rfl : s2 = s := by omega
  obtain rfl : w1 = 117099109 := by omega
  refine ⟨by omega, ?_⟩
  rw [m_ntz m_nmk_t]
  rintro ⟨k1, k2, k3⟩
  exact k3 117099109 (by decide) hw1.2
theorem k_nrrn3 {rn : Int} {bb : Int → Int} (hrn : 0 ≤ rn ∧ rn ≤ 900) (hbb : ∀ i, -128 ≤ bb i ∧ bb i ≤ 127) {F G s : Int} (p0 : p_NRR bb rn (F)) (p1 : p_NIR bb rn (G)) (c0 : 0 ≤ F + (-1) * s + (-3072)) (c1 : 0 ≤ s + (-1) * F + 3072) (c2 : 0 ≤ G + (-1099511627776) * s + (-13684206)) (c3 : 0 ≤ 1099511627776 * s + (-1) * G + 13684206) (c4 : 0 ≤ s) (c5 : 0 ≤ (-1) * s + 900) : p_NRR bb rn (F + 1024) := by
  obtain ⟨w1, s2, y1, y2, y3, y4, hw1⟩ := p1
  obtain rfl : s2 = s := by omega
  obtain rfl : w1 = 13684206 := by omega
  obtain ⟨s0, j0, e0, f1, f2, f3, f4⟩ := p0
  obtain ⟨rfl, rfl⟩ : s0 = s2 ∧ j0 = 3 := by omega
  refine ⟨s0, 3 + 1, by omega, by omega, by omega, by omega, fun i a w hw => ?_⟩
  by_cases k : (i : Int) < 3
  · exact f4 i k w hw
  · obtain rfl : i = 3 := by omega
    obtain rfl : 13684206 = w := Option.some.inj hw
    exact hw1
theorem k_xnrr3 {rn : Int} {bb : Int → Int} (hrn : 0 ≤ rn ∧ rn ≤ 900) (hbb : ∀ i, -128 ≤ bb i ∧ bb i ≤ 127) {G s : Int} (p0 : p_WIR bb rn (G)) (c0 : 0 ≤ G + (-1099511627776) * s + (-13684206)) (c1 : 0 ≤ 1099511627776 * s + (-1) * G + 13684206) (c2 : 0 ≤ s) (c3 : 0 ≤ (-1) * s + 900) : p_XNR bb rn (s) := by
  obtain ⟨w1, s2, y1, y2, y3, y4, hw1⟩ := p0
  obtain rfl : s2 = s := by omega
  obtain rfl : w1 = 13684206 := by omega
  refine ⟨by omega, ?_⟩
  rw [m_ntz m_nmk_t]
  rintro ⟨k1, k2, k3⟩
  exact k3 13684206 (by decide) hw1.2
theorem k_nrrn4 {rn : Int} {bb : Int → Int} (hrn : 0 ≤ rn ∧ rn ≤ 900) (hbb : ∀ i, -128 ≤ bb i ∧ bb i ≤ 127) {F G s : Int} (p0 : p_NRR bb rn (F)) (p1 : p_NIR bb rn (G)) (c0 : 0 ≤ F + (-1) * s + (-4096)) (c1 : 0 ≤ s + (-1) * F + 4096) (c2 : 0 ≤ G + (-1099511627776) * s + (-395059)) (c3 : 0 ≤ 1099511627776 * s + (-1) * G + 395059) (c4 : 0 ≤ s) (c5 : 0 ≤ (-1) * s + 900) : p_NRR bb rn (F + 1024) := by
  obtain ⟨w1, s2, y1, y2, y3, y4, hw1⟩ := p1
  obtain rfl : s2 = s := by omega
  obtain rfl : w1 = 395059 := by omega
  obtain ⟨s0, j0, e0, f1, f2, f3, f4⟩ := p0
  obtain ⟨rfl, rfl⟩ : s0 = s2 ∧ j0 = 4 := by omega
  refine ⟨s0, 4 + 1, by omega, by omega, by omega, by omega, fun i a w hw => ?_⟩
  by_cases k : (i : Int) < 4
  · exact f4 i k w hw
  · obtain rfl : i = 4 := by omega
    obtain rfl : 395059 = w := Option.some.inj hw
    exact hw1
theorem k_xnrr4 {rn : Int} {bb : Int → Int} (hrn : 0 ≤ rn ∧ rn ≤ 900) (hbb : ∀ i, -128 ≤ bb i ∧ bb i ≤ 127) {G s : Int} (p0 : p_WIR bb rn (G)) (c0 : 0 ≤ G + (-1099511627776) * s + (-395059)) (c1 : 0 ≤ 1099511627776 * s + (-1) * G + 395059) (c2 : 0 ≤ s) (c3 : 0 ≤ (-1) * s + 900) : p_XNR bb rn (s) := by
  obtain ⟨w1, s2, y1, y2, y3, y4, hw1⟩ := p0
  obtain rfl : s2 = s := by omega
  obtain rfl : w1 = 395059 := by omega
  refine ⟨by omega, ?_⟩
  rw [m_ntz m_nmk_t]
  rintro ⟨k1, k2, k3⟩
  exact k3 395059 (by decide) hw1.2
theorem k_nrrn5 {rn : Int} {bb : Int → Int} (hrn : 0 ≤ rn ∧ rn ≤ 900) (hbb : ∀ i, -128 ≤ bb i ∧ bb i ≤ 127) {F G s : Int} (p0 : p_NRR bb rn (F)) (p1 : p_NIR bb rn (G)) (c0 : 0 ≤ F + (-1) * s + (-5120)) (c1 : 0 ≤ s + (-1) * F + 5120) (c2 : 0 ≤ G + (-1099511627776) * s + (-3657363)) (c3 : 0 ≤ 1099511627776 * s + (-1) * G + 3657363) (c4 : 0 ≤ s) (c5 : 0 ≤ (-1) * s + 900) : p_NRR bb rn (F + 1024) := by
  obtain ⟨w1, s2, y1, y2, y3, y4, hw1⟩ := p1
  obtain rfl : s2 = s := by omega
  obtain rfl : w1 = 3657363 := by omega
  obtain ⟨s0, j0, e0, f1, f2, f3, f4⟩ := p0
  obtain ⟨rfl, rfl⟩ : s0 = s2 ∧ j0 = 5 := by omega
  refine ⟨s0, 5 + 1, by omega, by omega, by omega, by omega, fun i a w hw => ?_⟩
  by_cases k : (i : Int) < 5
  · exact f4 i k w hw
  · obtain rfl : i = 5 := by omega
    obtain rfl : 3657363 = w := Option.some.inj hw
    exact hw1
theorem k_xnrr5 {rn : Int} {bb : Int → Int} (hrn : 0 ≤ rn ∧ rn ≤ 900) (hbb : ∀ i, -128 ≤ bb i ∧ bb i ≤ 127) {G s : Int} (p0 : p_WIR bb rn (G)) (c0 : 0 ≤ G + (-1099511627776) * s + (-3657363)) (c1 : 0 ≤ 1099511627776 * s + (-1) * G + 3657363) (c2 : 0 ≤ s) (c3 : 0 ≤ (-1) * s + 900) : p_XNR bb rn (s) := by
  obtain ⟨w1, s2, y1, y2, y3, y4, hw1⟩ := p0
  obtain rfl : s2 = s := by omega
  obtain rfl : w1 = 3657363 := by omega
  refine ⟨by omega, ?_⟩
  rw [m_ntz m_nmk_t]
  rintro ⟨k1, k2, k3⟩
  exact k3 3657363 (by decide) hw1.2
theorem k_nrrn6 {rn : Int} {bb : Int → Int} (hrn : 0 ≤ rn ∧ rn ≤ 900) (hbb : ∀ i, -128 ≤ bb i ∧ bb i ≤ 127) {F G s : Int} (p0 : p_NRR bb rn (F)) (p1 : p_NIR bb rn (G)) (c0 : 0 ≤ F + (-1) * s + (-6144)) (c1 : 0 ≤ s + (-1) * F + 6144) (c2 : 0 ≤ G + (-1099511627776) * s + (-635184)) (c3 : 0 ≤ 1099511627776 * s + (-1) * G + 635184) (c4 : 0 ≤ s) (c5 : 0 ≤ (-1) * s + 900) : p_NRR bb rn (F + 1024) := by
  obtain ⟨w1, s2, y1, y2, y3, y4, hw1⟩ := p1
  obtain rfl : s2 = s := by omega
  obtain rfl : w1 = 635184 := by omega
  obtain ⟨s0, j0, e0, f1, f2, f3, f4⟩ := p0
  obtain ⟨rfl, rfl⟩ : s0 = s2 ∧ j0 = 6 := by omega
  refine ⟨s0, 6 + 1, by omega, by omega, by omega, by omega, fun i a w hw => ?_⟩
  by_cases k : (i : Int) < 6
  · exact f4 i k w hw
  · obtain rfl : i = 6 := by omega
    obtain rfl : 635184 = w := Option.some.inj hw
    exact hw1
theorem k_xnrr6 {rn : Int} {bb : Int → Int} (hrn : 0 ≤ rn ∧ rn ≤ 900) (hbb : ∀ i, -128 ≤ bb i ∧ bb i ≤ 127) {G s : Int} (p0 : p_WIR bb rn (G)) (c0 : 0 ≤ G + (-1099511627776) * s + (-635184)) (c1 : 0 ≤ 1099511627776 * s + (-1) * G + 635184) (c2 : 0 ≤ s) (c3 : 0 ≤ (-1) * s + 900) : p_XNR bb rn (s) := by
  obtain ⟨w1, s2, y1, y2, y3, y4, hw1⟩ := p0
  obtain rfl : s2 = s := by omega
  obtain rfl : w1 = 635184 := by omega
  refine ⟨by omega, ?_⟩
  rw [m_ntz m_nmk_t]
  rintro ⟨k1, k2, k3⟩
  exact k3 635184 (by decide) hw1.2
theorem k_nrrn7 {rn : Int} {bb : Int → Int} (hrn : 0 ≤ rn ∧ rn ≤ 900) (hbb : ∀ i, -128 ≤ bb i ∧ bb i ≤ 127) {F G s : Int} (p0 : p_NRR bb rn (F)) (p1 : p_NIR bb rn (G)) (c0 : 0 ≤ F + (-1) * s + (-7168)) (c1 : 0 ≤ s + (-1) * F + 7168) (c2 : 0 ≤ G + (-1099511627776) * s + (-52)) (c3 : 0 ≤ 1099511627776 * s + (-1) * G + 52) (c4 : 0 ≤ s) (c5 : 0 ≤ (-1) * s + 900) : p_NRR bb rn (F + 1024) := by
  obtain ⟨w1, s2, y1, y2, y3, y4, hw1⟩ := p1
  obtain rfl : s2 = s := by omega
  obtain rfl : w1 = 52 := by omega
  obtain ⟨s0, j0, e0, f1, f2, f3, f4⟩ := p0
  obtain ⟨rfl, rfl⟩ : s0 = s2 ∧ j0 = 7 := by omega
  refine ⟨s0, 7 + 1, by omega, by omega, by omega, by omega, fun i a w hw => ?_⟩
  by_cases k : (i : Int) < 7
  · exact f4 i k w hw
  · obtain rfl : i = 7 := by omega
    obtain rfl : 52 = w := Option.some.inj hw
    exact hw1
theorem k_xnrr7 {rn : Int} {bb : Int → Int} (hrn : 0 ≤ rn ∧ rn ≤ 900) (hbb : ∀ i, -128 ≤ bb i ∧ bb i ≤ 127) {G s : Int} (p0 : p_WIR bb rn (G)) (c0 : 0 ≤ G + (-1099511627776) * s + (-52)) (c1 : 0 ≤ 1099511627776 * s + (-1) * G + 52) (c2 : 0 ≤ s) (c3 : 0 ≤ (-1) * s + 900) : p_XNR bb rn (s) := by
  obtain ⟨w1, s2, y1, y2, y3, y4, hw1⟩ := p0
  obtain rfl : s2 = s := by omega
  obtain rfl : w1 = 52 := by omega
  refine ⟨by omega, ?_⟩
  rw [m_ntz m_nmk_t]
  rintro ⟨k1, k2, k3⟩
  exact k3 52 (by decide) hw1.2
theorem k_nrrn8 {rn : Int} {bb : Int → Int} (hrn : 0 ≤ rn ∧ rn ≤ 900) (hbb : ∀ i, -128 ≤ bb i ∧ bb i ≤ 127) {F G s : Int} (p0 : p_NRR bb rn (F)) (p1 : p_NIR bb rn (G)) (c0 : 0 ≤ F + (-1) * s + (-8192)) (c1 : 0 ≤ s + (-1) * F + 8192) (c2 : 0 ≤ G + (-1099511627776) * s + (-89)) (c3 : 0 ≤ 1099511627776 * s + (-1) * G + 89) (c4 : 0 ≤ s) (c5 : 0 ≤ (-1) * s + 900) : p_NRR bb rn (F + 1024) := by
  obtain ⟨w1, s2, y1, y2, y3, y4, hw1⟩ := p1
  obtain rfl : s2 = s := by omega
  obtain rfl : w1 = 89 := by omega
  obtain ⟨s0, j0, e0, f1, f2, f3, f4⟩ := p0
  obtain ⟨rfl, rfl⟩ : s0 = s2 ∧ j0 = 8 := by omega
  refine ⟨s0, 8 + 1, by omega, by omega, by omega, by omega, fun i a w hw => ?_⟩
  by_cases k : (i : Int) < 8
  · exact f4 i k w hw
  · obtain rfl : i = 8 := by omega
    obtain rfl : 89 = w := Option.some.inj hw
    exact hw1
theorem k_xnrr8 {rn : Int} {bb : Int → Int} (hrn : 0 ≤ rn ∧ rn ≤ 900) (hbb : ∀ i, -128 ≤ bb i ∧ bb i ≤ 127) {G s : Int} (p0 : p_WIR bb rn (G)) (c0 : 0 ≤ G + (-1099511627776) * s + (-89)) (c1 : 0 ≤ 1099511627776 * s + (-1) * G + 89) (c2 : 0 ≤ s) (c3 : 0 ≤ (-1) * s + 900) : p_XNR bb rn (s) := by
  obtain ⟨w1, s2, y1, y2, y3, y4, hw1⟩ := p0
  obtain rfl : s2 = s := by omega
  obtain rfl : w1 = 89 := by omega
  refine ⟨by omega, ?_⟩
  rw [m_ntz m_nmk_t]
  rintro ⟨k1, k2, k3⟩
  exact k3 89 (by decide) hw1.2
theorem k_nrrn9 {rn : Int} {bb : Int → Int} (hrn : 0 ≤ rn ∧ rn ≤ 900) (hbb : ∀ i, -128 ≤ bb i ∧ bb i ≤ 127) {F G s : Int} (p0 : p_NRR bb rn (F)) (p1 : p_NIR bb rn (G)) (c0 : 0 ≤ F + (-1) * s + (-9216)) (c1 : 0 ≤ s + (-1) * F + 9216) (c2 : 0 ≤ G + (-1099511627776) * s + (-206276)) (c3 : 0 ≤ 1099511627776 * s + (-1) * G + 206276) (c4 : 0 ≤ s) (c5 : 0 ≤ (-1) * s + 900) : p_NRR bb rn (F + 1024) := by
  obtain ⟨w1, s2, y1, y2, y3, y4, hw1⟩ := p1
  obtain rfl : s2 = s := by omega
  obtain rfl : w1 = 206276 := by omega
  obtain ⟨s0, j0, e0, f1, f2, f3, f4⟩ := p0
  obtain ⟨rfl, rfl⟩ : s0 = s2 ∧ j0 = 9 := by omega
  refine ⟨s0, 9 + 1, by omega, by omega, by omega, by omega, fun i a w hw => ?_⟩
  by_cases k : (i : Int) < 9
  · exact f4 i k w hw
  · obtain rfl : i = 9 := by omega
    obtain rfl : 206276 = w := Option.some.inj hw
    exact hw1
theorem k_xnrr9 {rn : Int} {bb : Int → Int} (hrn : 0 ≤ rn ∧ rn ≤ 900) (hbb : ∀ i, -128 ≤ bb i ∧ bb i ≤ 127) {G s : Int} (p0 : p_WIR bb rn (G)) (c0 : 0 ≤ G + (-1099511627776) * s + (-206276)) (c1 : 0 ≤ 1099511627776 * s + (-1) * G + 206276) (c2 : 0 ≤ s) (c3 : 0 ≤ (-1) * s + 900) : p_XNR bb rn (s) := by
  obtain ⟨w1, s2, y1, y2, y3, y4, hw1⟩ := p0
  obtain rfl : s2 = s := by omega
  obtain rfl : w1 = 206276 := by omega
  refine ⟨by omega, ?_⟩
  rw [m_ntz m_nmk_t]
  rintro ⟨k1, k2, k3⟩
  exact k3 206276 (by decide) hw1.2
theorem k_nrrn10 {rn : Int} {bb : Int → Int} (hrn : 0 ≤ rn ∧ rn ≤ 900) (hbb : ∀ i, -128 ≤ bb i ∧ bb i ≤ 127) {F G s : Int} (p0 : p_NRR bb rn (F)) (p1 : p_NIR bb rn (G)) (c0 : 0 ≤ F + (-1) * s + (-10240)) (c1 : 0 ≤ s + (-1) * F + 10240) (c2 : 0 ≤ G + (-1099511627776) * s + (-824370)) (c3 : 0 ≤ 1099511627776 * s + (-1) * G + 824370) (c4 : 0 ≤ s) (c5 : 0 ≤ (-1) * s + 900) : p_NRR bb rn (F + 1024) := by
  obtain ⟨w1, s2, y1, y2, y3, y4, hw1⟩ := p1
  obtain rfl : s2 = s := by omega
  obtain rfl : w1 = 824370 := by omega
  obtain ⟨s0, j0, e0, f1, f2, f3, f4⟩ := p0
  obtain ⟨rfl, rfl⟩ : s0 = s2 ∧ j0 = 10 := by omega
  refine ⟨s0, 10 + 1, by omega, by omega, by omega, by omega, fun i a w hw => ?_⟩
  by_cases k : (i : Int) < 10
  · exact f4 i k w hw
  · obtain rfl : i = 10 := by omega
    obtain rfl : 824370 = w := Option.some.inj hw
    exact hw1
theorem k_xnrr10 {rn : Int} {bb : Int → Int} (hrn : 0 ≤ rn ∧ rn ≤ 900) (hbb : ∀ i, -128 ≤ bb i ∧ bb i ≤ 127) {G s : Int} (p0 : p_WIR bb rn (G)) (c0 : 0 ≤ G + (-1099511627776) * s + (-824370)) (c1 : 0 ≤ 1099511627776 * s + (-1) * G + 824370) (c2 : 0 ≤ s) (c3 : 0 ≤ (-1) * s + 900) : p_XNR bb rn (s) := by
  obtain ⟨w1, s2, y1, y2, y3, y4, hw1⟩ := p0
  obtain rfl : s2 = s := by omega
  obtain rfl : w1 = 824370 := by omega
  refine ⟨by omega, ?_⟩
  rw [m_ntz m_nmk_t]
  rintro ⟨k1, k2, k3⟩
  exact k3 824370 (by decide) hw1.2
theorem k_nrrn11 {rn : Int} {bb : Int → Int} (hrn : 0 ≤ rn ∧ rn ≤ 900) (hbb : ∀ i, -128 ≤ bb i ∧ bb i ≤ 127) {F G s : Int} (p0 : p_NRR bb rn (F)) (p1 : p_NIR bb rn (G)) (c0 : 0 ≤ F + (-1) * s + (-11264)) (c1 : 0 ≤ s + (-1) * F + 11264) (c2 : 0 ≤ G + (-1099511627776) * s + (-239)) (c3 : 0 ≤ 1099511627776 * s + (-1) * G + 239) (c4 : 0 ≤ s) (c5 : 0 ≤ (-1) * s + 900) : p_NRR bb rn (F + 1024) := by
  obtain ⟨w1, s2, y1, y2, y3, y4, hw1⟩ := p1
  obtain rfl : s2 = s := by omega
  obtain rfl : w1 = 239 := by omega
  obtain ⟨s0, j0, e0, f1, f2, f3, f4⟩ := p0
  obtain ⟨rfl, rfl⟩ : s0 = s2 ∧ j0 = 11 := by omega
  refine ⟨s0, 11 + 1, by omega, by omega, by omega, by omega, fun i a w hw => ?_⟩
  by_cases k : (i : Int) < 11
  · exact f4 i k w hw
  · obtain rfl : i = 11 := by omega
    obtain rfl : 239 = w := Option.some.inj hw
    exact hw1
theorem k_xnrr11 {rn : Int} {bb : Int → Int} (hrn : 0 ≤ rn ∧ rn ≤ 900) (hbb : ∀ i, -128 ≤ bb i ∧ bb i ≤ 127) {G s : Int} (p0 : p_WIR bb rn (G)) (c0 : 0 ≤ G + (-1099511627776) * s + (-239)) (c1 : 0 ≤ 1099511627776 * s + (-1) * G + 239) (c2 : 0 ≤ s) (c3 : 0 ≤ (-1) * s + 900) : p_XNR bb rn (s) := by
  obtain ⟨w1, s2, y1, y2, y3, y4, hw1⟩ := p0
  obtain rfl : s2 = s := by omega
  obtain rfl : w1 = 239 := by omega
  refine ⟨by omega, ?_⟩
  rw [m_ntz m_nmk_t]
  rintro ⟨k1, k2, k3⟩
  exact k3 239 (by decide) hw1.2
theorem k_nrrn12 {rn : Int} {bb : Int → Int} (hrn : 0 ≤ rn ∧ rn ≤ 900) (hbb : ∀ i, -128 ≤ bb i ∧ bb i ≤ 127) {F G s : Int} (p0 : p_NRR bb rn (F)) (p1 : p_NIR bb rn (G)) (c0 : 0 ≤ F + (-1) * s + (-12288)) (c1 : 0 ≤ s + (-1) * F + 12288) (c2 : 0 ≤ G + (-1099511627776) * s + (-66667)) (c3 : 0 ≤ 1099511627776 * s + (-1) * G + 66667) (c4 : 0 ≤ s) (c5 : 0 ≤ (-1) * s + 900) : p_NRR bb rn (F + 1024) := by
  obtain ⟨w1, s2, y1, y2, y3, y4, hw1⟩ := p1
  obtain rfl : s2 = s := by omega
  obtain rfl : w1 = 66667 := by omega
  obtain ⟨s0, j0, e0, f1, f2, f3, f4⟩ := p0
  obtain ⟨rfl, rfl⟩ : s0 = s2 ∧ j0 = 12 := by omega
  refine ⟨s0, 12 + 1, by omega, by omega, by omega, by omega, fun i a w hw => ?_⟩
  by_cases k : (i : Int) < 12
  · exact f4 i k w hw
  · obtain rfl : i = 12 := by omega
    obtain rfl : 66667 = w := Option.some.inj hw
    exact hw1
theorem k_xnrr12 {rn : Int} {bb : Int → Int} (hrn : 0 ≤ rn ∧ rn ≤ 900) (hbb : ∀ i, -128 ≤ bb i ∧ bb i ≤ 127) {G s : Int} (p0 : p_WIR bb rn (G)) (c0 : 0 ≤ G + (-1099511627776) * s + (-66667)) (c1 : 0 ≤ 1099511627776 * s + (-1) * G + 66667) (c2 : 0 ≤ s) (c3 : 0 ≤ (-1) * s + 900) : p_XNR bb rn (s) := by
  obtain ⟨w1, s2, y1, y2, y3, y4, hw1⟩ := p0
  obtain rfl : s2 = s := by omega
  obtain rfl : w1 = 66667 := by omega
  refine ⟨by omega, ?_⟩
  rw [m_ntz m_nmk_t]
  rintro ⟨k1, k2, k3⟩
  exact k3 66667 (by decide) hw1.2
