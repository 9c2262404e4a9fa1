-- 67c3.core: the texts' rules in numbers (printed by wip/p5/gen68.py)
theorem k_mvb {ba : Int → Int} (hba : ∀ i, -128 ≤ ba i ∧ ba i ≤ 127) {G : Int} (p0 : p_BY ba (G)) : p_BYB ba (G) := by
  exact p0
theorem k_sm0 {ba : Int → Int} (hba : ∀ i, -128 ≤ ba i ∧ ba i ≤ 127) {a b : Int} (c0 : 0 ≤ a) (c1 : 0 ≤ (-1) * a + 900) (c2 : 0 ≤ b) (c3 : 0 ≤ (-1) * b + 900) : p_SM ba (a + 1024 * b) := by
  exact ⟨a, b, 0, by omega, by omega, by omega, by omega, by omega, by omega, fun j x y => by omega⟩
theorem k_sm1x {ba : Int → Int} (hba : ∀ i, -128 ≤ ba i ∧ ba i ≤ 127) {F G H a b i : Int} (p0 : p_SM ba (F)) (p1 : p_BYB ba (G)) (p2 : p_BY ba (H)) (c0 : 0 ≤ F + (-1) * a + (-1024) * b + (-1048576) * i) (c1 : 0 ≤ (-1) * F + a + 1024 * b + 1048576 * i) (c2 : 0 ≤ a) (c3 : 0 ≤ (-1) * a + 899) (c4 : 0 ≤ b) (c5 : 0 ≤ (-1) * b + 899) (c6 : 0 ≤ i) (c7 : 0 ≤ (-1) * i + 899) (c8 : 0 ≤ G + (-256) * a + (-256) * i) (c9 : 0 ≤ 256 * a + 256 * i + (-1) * G + 255) (c10 : 0 ≤ H + (-256) * b + (-256) * i) (c11 : 0 ≤ 256 * b + 256 * i + (-1) * H + 255) (c12 : 0 ≤ G + (-256) * a + (-1) * H + 256 * b) (c13 : 0 ≤ (-1) * G + 256 * a + H + (-256) * b) : p_SM ba (F + 1048576) := by
  obtain ⟨a0, b0, i0, e0, f1, f2, f3, f4, f5, f6⟩ := p0
  obtain ⟨rfl, rfl, rfl⟩ : a0 = a ∧ b0 = b ∧ i0 = i := by omega
  obtain ⟨z1, j1, e1, ja1, jb1, za1, zb1, h1⟩ := p1
  have w1 : j1 = a0 + i0 := by omega
  rw [w1] at h1
  obtain ⟨z2, j2, e2, ja2, jb2, za2, zb2, h2⟩ := p2
  have w2 : j2 = b0 + i0 := by omega
  rw [w2] at h2
  refine ⟨a0, b0, i0 + 1, by omega, by omega, by omega, by omega, by omega, by omega, fun j x y => ?_⟩
  by_cases k : j = i0
  · rw [k]; omega
  · exact f6 j x (by omega)
theorem k_nsma {ba : Int → Int} (hba : ∀ i, -128 ≤ ba i ∧ ba i ≤ 127) {G H a b i n : Int} (p0 : p_BYB ba (G)) (p1 : p_BY ba (H)) (c0 : 0 ≤ a) (c1 : 0 ≤ (-1) * a + 899) (c2 : 0 ≤ b) (c3 : 0 ≤ (-1) * b + 899) (c4 : 0 ≤ i) (c5 : 0 ≤ (-1) * i + 899) (c6 : 0 ≤ G + (-256) * a + (-256) * i) (c7 : 0 ≤ 256 * a + 256 * i + (-1) * G + 255) (c8 : 0 ≤ H + (-256) * b + (-256) * i) (c9 : 0 ≤ 256 * b + 256 * i + (-1) * H + 255) (c10 : 0 ≤ G + (-256) * a + (-1) * H + 256 * b + (-1)) (c11 : 0 ≤ n + (-1) * i + (-1)) (c12 : 0 ≤ (-1) * n + 900) : p_NSM ba (a + 1024 * b + 1048576 * n) := by
  obtain ⟨z1, j1, e1, ja1, jb1, za1, zb1, h1⟩ := p0
  have w1 : j1 = a + i := by omega
  rw [w1] at h1
  obtain ⟨z2, j2, e2, ja2, jb2, za2, zb2, h2⟩ := p1
  have w2 : j2 = b + i := by omega
  rw [w2] at h2
  exact ⟨a, b, n, by omega, by omega, by omega, by omega, by omega, by omega, i, by omega, by omega, by omega⟩
theorem k_nsmb {ba : Int → Int} (hba : ∀ i, -128 ≤ ba i ∧ ba i ≤ 127) {G H a b i n : Int} (p0 : p_BYB ba (G)) (p1 : p_BY ba (H)) (c0 : 0 ≤ a) (c1 : 0 ≤ (-1) * a + 899) (c2 : 0 ≤ b) (c3 : 0 ≤ (-1) * b + 899) (c4 : 0 ≤ i) (c5 : 0 ≤ (-1) * i + 899) (c6 : 0 ≤ G + (-256) * a + (-256) * i) (c7 : 0 ≤ 256 * a + 256 * i + (-1) * G + 255) (c8 : 0 ≤ H + (-256) * b + (-256) * i) (c9 : 0 ≤ 256 * b + 256 * i + (-1) * H + 255) (c10 : 0 ≤ (-1) * G + 256 * a + H + (-256) * b + (-1)) (c11 : 0 ≤ n + (-1) * i + (-1)) (c12 : 0 ≤ (-1) * n + 900) : p_NSM ba (a + 1024 * b + 1048576 * n) := by
  obtain ⟨z1, j1, e1, ja1, jb1, za1, zb1, h1⟩ := p0
  have w1 : j1 = a + i := by omega
  rw [w1] at h1
  obtain ⟨z2, j2, e2, ja2, jb2, za2, zb2, h2⟩ := p1
  have w2 : j2 = b + i := by omega
  rw [w2] at h2
  exact ⟨a, b, n, by omega, by omega, by omega, by omega, by omega, by omega, i, by omega, by omega, by omega⟩
theorem k_smt {ba : Int → Int} (hba : ∀ i, -128 ≤ ba i ∧ ba i ≤ 127) {F a b i n : Int} (p0 : p_SM ba (F)) (c0 : 0 ≤ F + (-1) * a + (-1024) * b + (-1048576) * i) (c1 : 0 ≤ (-1) * F + a + 1024 * b + 1048576 * i) (c2 : 0 ≤ a) (c3 : 0 ≤ (-1) * a + 900) (c4 : 0 ≤ b) (c5 : 0 ≤ (-1) * b + 900) (c6 : 0 ≤ i) (c7 : 0 ≤ (-1) * i + 900) (c8 : 0 ≤ i + (-1) * n) (c9 : 0 ≤ n + (-1) * i) : p_SMT ba (a + 1024 * b + 1048576 * n) := by
  obtain ⟨a0, b0, i0, e0, f1, f2, f3, f4, f5, f6⟩ := p0
  obtain ⟨rfl, rfl, rfl⟩ : a0 = a ∧ b0 = b ∧ i0 = i := by omega
  exact ⟨a0, b0, n, by omega, by omega, by omega, by omega, by omega, by omega, fun j x y => f6 j x (by omega)⟩
theorem k_mka {qn : Int} {qk : Int} {qs : Int} {qq : Int} {qv : Int} {wo : Int} {wf : Int} {wn : Int} {wc : Int} {wm : Int} {ws : Int} {wi : Int} {wl : Int} {ba : Int → Int} {xa : Int → Int} {xb : Int → Int} {xc : Int → Int} {xd : Int → Int} {xe : Int → Int} {xf : Int → Int} {xg : Int → Int} {xh : Int → Int} (hqn : 0 ≤ qn ∧ qn ≤ 900) (hqk : 0 ≤ qk ∧ qk ≤ 4) (hqs : 0 ≤ qs ∧ qs ≤ 900) (hqq : 0 ≤ qq ∧ qq ≤ 900) (hwo : 2 ≤ wo ∧ wo ≤ 13) (hwf : 1 ≤ wf ∧ wf ≤ 13) (hwn : 0 ≤ wn ∧ wn ≤ 96) (hwc : 0 ≤ wc ∧ wc ≤ 6) (hwm : 0 ≤ wm ∧ wm ≤ 4) (hws : 0 ≤ ws ∧ ws ≤ 6) (hwi : 0 ≤ wi ∧ wi ≤ 8) (hba : ∀ i, -128 ≤ ba i ∧ ba i ≤ 127) (hxe : ∀ i, 0 ≤ xe i ∧ xe i ≤ 12) {F G s q kk : Int} (p0 : p_CF ba qn wo wf wn wc wm ws wi wl xa xb xc xd xe xf xg xh (F)) (p1 : p_XN ba qn (G)) (p2 : p_CU ba qk qs qq qn qv (s)) (p3 : kk = qk) (p4 : q = qq) (c0 : 0 ≤ F + (-1) * s + (-7168)) (c1 : 0 ≤ s + (-1) * F + 7168) (c2 : 0 ≤ G + (-1) * s) (c3 : 0 ≤ s + (-1) * G) (c4 : 0 ≤ kk + (-1)) (c5 : 0 ≤ (-1) * kk + 1) (c6 : 0 ≤ s) (c7 : 0 ≤ (-1) * s + 900) : p_HF ba qn (8 * s + 1) := by
  obtain ⟨st, s1, r1, r2, np, W, pk, cf, w1, w2, w3, w4, w5, w6, w7, of, pn⟩ := p0
  unfold m_pk at pk
  obtain rfl : s1 = s := by omega
  obtain rfl : st = 7 := by omega
  have xn := p1.2
  rw [show G = s1 by omega] at xn
  obtain ⟨uA, u0, u1, u2, u3⟩ := p2
  have AT := m_cf_a cf (by decide)
  rw [show m_stp ba qn (7, s1, r1, r2, np, W) = (if m_nmk ba qn s1 = true then (if m_tk ba qn s1 W = true then m_ht 3 s1 else m_go 11 (m_sk ba qn (m_te ba qn s1)) 0 0 s1 W) else m_mp ba qn s1) from rfl, xn, if_neg (by decide)] at AT
  exact ⟨1, s1, by omega, by omega, by omega, m_mp1 AT (by omega)⟩
theorem k_mkb {qn : Int} {qk : Int} {qs : Int} {qq : Int} {qv : Int} {wo : Int} {wf : Int} {wn : Int} {wc : Int} {wm : Int} {ws : Int} {wi : Int} {wl : Int} {ba : Int → Int} {xa : Int → Int} {xb : Int → Int} {xc : Int → Int} {xd : Int → Int} {xe : Int → Int} {xf : Int → Int} {xg : Int → Int} {xh : Int → Int} (hqn : 0 ≤ qn ∧ qn ≤ 900) (hqk : 0 ≤ qk ∧ qk ≤ 4) (hqs : 0 ≤ qs ∧ qs ≤ 900) (hqq : 0 ≤ qq ∧ qq ≤ 900) (hwo : 2 ≤ wo ∧ wo ≤ 13) (hwf : 1 ≤ wf ∧ wf ≤ 13) (hwn : 0 ≤ wn ∧ wn ≤ 96) (hwc : 0 ≤ wc ∧ wc ≤ 6) (hwm : 0 ≤ wm ∧ wm ≤ 4) (hws : 0 ≤ ws ∧ ws ≤ 6) (hwi : 0 ≤ wi ∧ wi ≤ 8) (hba : ∀ i, -128 ≤ ba i ∧ ba i ≤ 127) (hxe : ∀ i, 0 ≤ xe i ∧ xe i ≤ 12) {F G s q kk : Int} (p0 : p_CF ba qn wo wf wn wc wm ws wi wl xa xb xc xd xe xf xg xh (F)) (p1 : p_XN ba qn (G)) (p2 : p_CU ba qk qs qq qn qv (s)) (p3 : kk = qk) (p4 : q = qq) (c0 : 0 ≤ F + (-1) * s + (-7168)) (c1 : 0 ≤ s + (-1) * F + 7168) (c2 : 0 ≤ G + (-1) * s) (c3 : 0 ≤ s + (-1) * G) (c4 : 0 ≤ (-1) * kk) (c5 : 0 ≤ s) (c6 : 0 ≤ (-1) * s + 900) : p_HF ba qn (8 * s + 2) := by
  obtain ⟨st, s1, r1, r2, np, W, pk, cf, w1, w2, w3, w4, w5, w6, w7, of, pn⟩ := p0
  unfold m_pk at pk
  obtain rfl : s1 = s := by omega
  obtain rfl : st = 7 := by omega
  have xn := p1.2
  rw [show G = s1 by omega] at xn
  obtain ⟨uA, u0, u1, u2, u3⟩ := p2
  have AT := m_cf_a cf (by decide)
  rw [show m_stp ba qn (7, s1, r1, r2, np, W) = (if m_nmk ba qn s1 = true then (if m_tk ba qn s1 W = true then m_ht 3 s1 else m_go 11 (m_sk ba qn (m_te ba qn s1)) 0 0 s1 W) else m_mp ba qn s1) from rfl, xn, if_neg (by decide)] at AT
  exact ⟨2, s1, by omega, by omega, by omega, m_mp2 AT (by omega)⟩
theorem k_mkc {qn : Int} {qk : Int} {qs : Int} {qq : Int} {qv : Int} {wo : Int} {wf : Int} {wn : Int} {wc : Int} {wm : Int} {ws : Int} {wi : Int} {wl : Int} {ba : Int → Int} {xa : Int → Int} {xb : Int → Int} {xc : Int → Int} {xd : Int → Int} {xe : Int → Int} {xf : Int → Int} {xg : Int → Int} {xh : Int → Int} (hqn : 0 ≤ qn ∧ qn ≤ 900) (hqk : 0 ≤ qk ∧ qk ≤ 4) (hqs : 0 ≤ qs ∧ qs ≤ 900) (hqq : 0 ≤ qq ∧ qq ≤ 900) (hwo : 2 ≤ wo ∧ wo ≤ 13) (hwf : 1 ≤ wf ∧ wf ≤ 13) (hwn : 0 ≤ wn ∧ wn ≤ 96) (hwc : 0 ≤ wc ∧ wc ≤ 6) (hwm : 0 ≤ wm ∧ wm ≤ 4) (hws : 0 ≤ ws ∧ ws ≤ 6) (hwi : 0 ≤ wi ∧ wi ≤ 8) (hba : ∀ i, -128 ≤ ba i ∧ ba i ≤ 127) (hxe : ∀ i, 0 ≤ xe i ∧ xe i ≤ 12) {F G s q kk : Int} (p0 : p_CF ba qn wo wf wn wc wm ws wi wl xa xb xc xd xe xf xg xh (F)) (p1 : p_XN ba qn (G)) (p2 : p_CU ba qk qs qq qn qv (s)) (p3 : kk = qk) (p4 : q = qq) (c0 : 0 ≤ F + (-1) * s + (-7168)) (c1 : 0 ≤ s + (-1) * F + 7168) (c2 : 0 ≤ G + (-1) * s) (c3 : 0 ≤ s + (-1) * G) (c4 : 0 ≤ kk + (-2)) (c5 : 0 ≤ s) (c6 : 0 ≤ (-1) * s + 900) : p_HF ba qn (8 * s + 2) := by
  obtain ⟨st, s1, r1, r2, np, W, pk, cf, w1, w2, w3, w4, w5, w6, w7, of, pn⟩ := p0
  unfold m_pk at pk
  obtain rfl : s1 = s := by omega
  obtain rfl : st = 7 := by omega
  have xn := p1.2
  rw [show G = s1 by omega] at xn
  obtain ⟨uA, u0, u1, u2, u3⟩ := p2
  have AT := m_cf_a cf (by decide)
  rw [show m_stp ba qn (7, s1, r1, r2, np, W) = (if m_nmk ba qn s1 = true then (if m_tk ba qn s1 W = true then m_ht 3 s1 else m_go 11 (m_sk ba qn (m_te ba qn s1)) 0 0 s1 W) else m_mp ba qn s1) from rfl, xn, if_neg (by decide)] at AT
  exact ⟨2, s1, by omega, by omega, by omega, m_mp2 AT (by omega)⟩
theorem k_dn0 {qn : Int} {ba : Int → Int} {xg : Int → Int} {xh : Int → Int} (hqn : 0 ≤ qn ∧ qn ≤ 900) (hba : ∀ i, -128 ≤ ba i ∧ ba i ≤ 127) {s : Int} (c0 : 0 ≤ s) (c1 : 0 ≤ (-1) * s + 900) : p_DN ba qn xg xh (s) := by
  exact ⟨s, 0, by omega, by omega, by omega, by omega, fun j a b => by omega⟩
theorem k_nlz {xh : Int → Int} {i z : Int} (zxh : 0 ≤ i - 0 → i - 0 < 4 → xh (i - 0) = z) : p_XW (z) := by
  trivial
theorem k_nsz {xg : Int → Int} {i z : Int} (zxg : 0 ≤ i - 0 → i - 0 < 4 → xg (i - 0) = z) : p_XW (z) := by
  trivial
theorem k_nlr {xh : Int → Int} {i z : Int} (zxh : 0 ≤ i - 0 → i - 0 < 4 → xh (i - 0) = z) (c0 : 0 ≤ i) (c1 : 0 ≤ (-1) * i + 3) (c2 : 0 ≤ z) (c3 : 0 ≤ (-1) * z + 900) : p_NLR xh (i + 8 * z) := by
  have h2 := zxh (by omega) (by omega)
  rw [show i - 0 = i by omega] at h2
  exact ⟨i, z, by omega, by omega, by omega, h2⟩
theorem k_nsr {xg : Int → Int} {i z : Int} (zxg : 0 ≤ i - 0 → i - 0 < 4 → xg (i - 0) = z) (c0 : 0 ≤ i) (c1 : 0 ≤ (-1) * i + 3) (c2 : 0 ≤ z) (c3 : 0 ≤ (-1) * z + 900) : p_NSR xg (i + 8 * z) := by
  have h2 := zxg (by omega) (by omega)
  rw [show i - 0 = i by omega] at h2
  exact ⟨i, z, by omega, by omega, by omega, h2⟩
theorem k_dla {qn : Int} {qk : Int} {qs : Int} {qq : Int} {qv : Int} {wo : Int} {wf : Int} {wn : Int} {wc : Int} {wm : Int} {ws : Int} {wi : Int} {wl : Int} {ba : Int → Int} {xa : Int → Int} {xb : Int → Int} {xc : Int → Int} {xd : Int → Int} {xe : Int → Int} {xf : Int → Int} {xg : Int → Int} {xh : Int → Int} (hqn : 0 ≤ qn ∧ qn ≤ 900) (hqk : 0 ≤ qk ∧ qk ≤ 4) (hqs : 0 ≤ qs ∧ qs ≤ 900) (hqq : 0 ≤ qq ∧ qq ≤ 900) (hwo : 2 ≤ wo ∧ wo ≤ 13) (hwf : 1 ≤ wf ∧ wf ≤ 13) (hwn : 0 ≤ wn ∧ wn ≤ 96) (hwc : 0 ≤ wc ∧ wc ≤ 6) (hwm : 0 ≤ wm ∧ wm ≤ 4) (hws : 0 ≤ ws ∧ ws ≤ 6) (hwi : 0 ≤ wi ∧ wi ≤ 8) (hba : ∀ i, -128 ≤ ba i ∧ ba i ≤ 127) (hxe : ∀ i, 0 ≤ xe i ∧ xe i ≤ 12) {F G H s q kk k m z : Int} (p0 : p_DN ba qn xg xh (F)) (p1 : p_NLR xh (G)) (p2 : p_CF ba qn wo wf wn wc wm ws wi wl xa xb xc xd xe xf xg xh (H)) (p3 : m = wm) (p4 : p_CU ba qk qs qq qn qv (s)) (p5 : kk = qk) (p6 : q = qq) (c0 : 0 ≤ F + (-1) * s + (-1024) * k) (c1 : 0 ≤ s + 1024 * k + (-1) * F) (c2 : 0 ≤ k) (c3 : 0 ≤ (-1) * k + 3) (c4 : 0 ≤ s) (c5 : 0 ≤ (-1) * s + 900) (c6 : 0 ≤ H + (-1) * s + (-7168)) (c7 : 0 ≤ s + (-1) * H + 7168) (c8 : 0 ≤ m + (-1) * k + (-1)) (c9 : 0 ≤ z + (-1) * q + s + (-1)) (c10 : 0 ≤ G + (-1) * k + (-8) * z) (c11 : 0 ≤ k + 8 * z + (-1) * G) (c12 : 0 ≤ kk + (-2)) (c13 : 0 ≤ (-1) * kk + 2) (c14 : 0 ≤ s + (-1) * q + 8) : p_DN ba qn xg xh (F + 1024) := by
  obtain ⟨s0, k0, e0, f1, f2, f3, f4⟩ := p0
  obtain ⟨rfl, rfl⟩ : s0 = s ∧ k0 = k := by omega
  obtain ⟨i1, z1, g1, g2, g3, g4⟩ := p1
  obtain rfl : i1 = k0 := by omega
  obtain ⟨uA, u0, u1, u2, u3⟩ := p4
  refine ⟨s0, i1 + 1, by omega, by omega, by omega, by omega, fun j x y => ?_⟩
  by_cases e : j = i1
  · subst e
    rintro ⟨q1, q2⟩
    omega
  · exact f4 j x (by omega)
theorem k_dlb {qn : Int} {qk : Int} {qs : Int} {qq : Int} {qv : Int} {wo : Int} {wf : Int} {wn : Int} {wc : Int} {wm : Int} {ws : Int} {wi : Int} {wl : Int} {ba : Int → Int} {xa : Int → Int} {xb : Int → Int} {xc : Int → Int} {xd : Int → Int} {xe : Int → Int} {xf : Int → Int} {xg : Int → Int} {xh : Int → Int} (hqn : 0 ≤ qn ∧ qn ≤ 900) (hqk : 0 ≤ qk ∧ qk ≤ 4) (hqs : 0 ≤ qs ∧ qs ≤ 900) (hqq : 0 ≤ qq ∧ qq ≤ 900) (hwo : 2 ≤ wo ∧ wo ≤ 13) (hwf : 1 ≤ wf ∧ wf ≤ 13) (hwn : 0 ≤ wn ∧ wn ≤ 96) (hwc : 0 ≤ wc ∧ wc ≤ 6) (hwm : 0 ≤ wm ∧ wm ≤ 4) (hws : 0 ≤ ws ∧ ws ≤ 6) (hwi : 0 ≤ wi ∧ wi ≤ 8) (hba : ∀ i, -128 ≤ ba i ∧ ba i ≤ 127) (hxe : ∀ i, 0 ≤ xe i ∧ xe i ≤ 12) {F G H s q kk k m z : Int} (p0 : p_DN ba qn xg xh (F)) (p1 : p_NLR xh (G)) (p2 : p_CF ba qn wo wf wn wc wm ws wi wl xa xb xc xd xe xf xg xh (H)) (p3 : m = wm) (p4 : p_CU ba qk qs qq qn qv (s)) (p5 : kk = qk) (p6 : q = qq) (c0 : 0 ≤ F + (-1) * s + (-1024) * k) (c1 : 0 ≤ s + 1024 * k + (-1) * F) (c2 : 0 ≤ k) (c3 : 0 ≤ (-1) * k + 3) (c4 : 0 ≤ s) (c5 : 0 ≤ (-1) * s + 900) (c6 : 0 ≤ H + (-1) * s + (-7168)) (c7 : 0 ≤ s + (-1) * H + 7168) (c8 : 0 ≤ m + (-1) * k + (-1)) (c9 : 0 ≤ q + (-1) * s + (-1) * z + (-1)) (c10 : 0 ≤ G + (-1) * k + (-8) * z) (c11 : 0 ≤ k + 8 * z + (-1) * G) (c12 : 0 ≤ kk + (-2)) (c13 : 0 ≤ (-1) * kk + 2) (c14 : 0 ≤ s + (-1) * q + 8) : p_DN ba qn xg xh (F + 1024) := by
  obtain ⟨s0, k0, e0, f1, f2, f3, f4⟩ := p0
  obtain ⟨rfl, rfl⟩ : s0 = s ∧ k0 = k := by omega
  obtain ⟨i1, z1, g1, g2, g3, g4⟩ := p1
  obtain rfl : i1 = k0 := by omega
  obtain ⟨uA, u0, u1, u2, u3⟩ := p4
  refine ⟨s0, i1 + 1, by omega, by omega, by omega, by omega, fun j x y => ?_⟩
  by_cases e : j = i1
  · subst e
    rintro ⟨q1, q2⟩
    omega
  · exact f4 j x (by omega)
theorem k_ds {qn : Int} {qk : Int} {qs : Int} {qq : Int} {qv : Int} {wo : Int} {wf : Int} {wn : Int} {wc : Int} {wm : Int} {ws : Int} {wi : Int} {wl : Int} {ba : Int → Int} {xa : Int → Int} {xb : Int → Int} {xc : Int → Int} {xd : Int → Int} {xe : Int → Int} {xf : Int → Int} {xg : Int → Int} {xh : Int → Int} (hqn : 0 ≤ qn ∧ qn ≤ 900) (hqk : 0 ≤ qk ∧ qk ≤ 4) (hqs : 0 ≤ qs ∧ qs ≤ 900) (hqq : 0 ≤ qq ∧ qq ≤ 900) (hwo : 2 ≤ wo ∧ wo ≤ 13) (hwf : 1 ≤ wf ∧ wf ≤ 13) (hwn : 0 ≤ wn ∧ wn ≤ 96) (hwc : 0 ≤ wc ∧ wc ≤ 6) (hwm : 0 ≤ wm ∧ wm ≤ 4) (hws : 0 ≤ ws ∧ ws ≤ 6) (hwi : 0 ≤ wi ∧ wi ≤ 8) (hba : ∀ i, -128 ≤ ba i ∧ ba i ≤ 127) (hxe : ∀ i, 0 ≤ xe i ∧ xe i ≤ 12) {F G J H N s q kk k m : Int} (p0 : p_DN ba qn xg xh (F)) (p1 : p_NLR xh (G)) (p2 : p_NSR xg (J)) (p3 : p_CF ba qn wo wf wn wc wm ws wi wl xa xb xc xd xe xf xg xh (H)) (p4 : m = wm) (p5 : p_CU ba qk qs qq qn qv (s)) (p6 : kk = qk) (p7 : q = qq) (p8 : p_NSM ba (N)) (c0 : 0 ≤ F + (-1) * s + (-1024) * k) (c1 : 0 ≤ s + 1024 * k + (-1) * F) (c2 : 0 ≤ k) (c3 : 0 ≤ (-1) * k + 3) (c4 : 0 ≤ s) (c5 : 0 ≤ (-1) * s + 900) (c6 : 0 ≤ H + (-1) * s + (-7168)) (c7 : 0 ≤ s + (-1) * H + 7168) (c8 : 0 ≤ m + (-1) * k + (-1)) (c9 : 0 ≤ G + (-1) * k + (-8) * q + 8 * s) (c10 : 0 ≤ 8 * q + (-8) * s + k + (-1) * G) (c11 : 0 ≤ J + (-1) * k + (-8) * N + (-8380416) * s + 8388608 * q) (c12 : 0 ≤ 8 * N + 8380416 * s + (-8388608) * q + k + (-1) * J) (c13 : 0 ≤ kk + (-2)) (c14 : 0 ≤ (-1) * kk + 2) (c15 : 0 ≤ s + (-1) * q + 8) (c16 : 0 ≤ N + 1047552 * s + (-1048576) * q) (c17 : 0 ≤ (-1) * N + (-1047552) * s + 1048576 * q + 900) : p_DN ba qn xg xh (F + 1024) := by
  obtain ⟨s0, k0, e0, f1, f2, f3, f4⟩ := p0
  obtain ⟨rfl, rfl⟩ : s0 = s ∧ k0 = k := by omega
  obtain ⟨i1, z1, g1, g2, g3, g4⟩ := p1
  obtain rfl : i1 = k0 := by omega
  obtain ⟨i2, z2, h1, h2, h3, h4⟩ := p2
  obtain rfl : i2 = i1 := by omega
  obtain ⟨a1, b1, n1, x1, x2, x3, x4, x5, x6, x7⟩ := p8
  obtain rfl : b1 = s0 := by omega
  obtain rfl : n1 = q - b1 := by omega
  obtain rfl : a1 = z2 := by omega
  obtain ⟨uA, u0, u1, u2, u3⟩ := p5
  refine ⟨b1, i2 + 1, by omega, by omega, by omega, by omega, fun j x y => ?_⟩
  by_cases e : j = i2
  · subst e
    rintro ⟨q1, q2⟩
    obtain ⟨t, t1, t2, t3⟩ := x7
    refine t3 ?_
    rw [← h4]
    exact q2 t t1 (by omega)
  · exact f4 j x (by omega)
theorem k_dt {qn : Int} {qk : Int} {qs : Int} {qq : Int} {qv : Int} {wo : Int} {wf : Int} {wn : Int} {wc : Int} {wm : Int} {ws : Int} {wi : Int} {wl : Int} {ba : Int → Int} {xa : Int → Int} {xb : Int → Int} {xc : Int → Int} {xd : Int → Int} {xe : Int → Int} {xf : Int → Int} {xg : Int → Int} {xh : Int → Int} (hqn : 0 ≤ qn ∧ qn ≤ 900) (hqk : 0 ≤ qk ∧ qk ≤ 4) (hqs : 0 ≤ qs ∧ qs ≤ 900) (hqq : 0 ≤ qq ∧ qq ≤ 900) (hwo : 2 ≤ wo ∧ wo ≤ 13) (hwf : 1 ≤ wf ∧ wf ≤ 13) (hwn : 0 ≤ wn ∧ wn ≤ 96) (hwc : 0 ≤ wc ∧ wc ≤ 6) (hwm : 0 ≤ wm ∧ wm ≤ 4) (hws : 0 ≤ ws ∧ ws ≤ 6) (hwi : 0 ≤ wi ∧ wi ≤ 8) (hba : ∀ i, -128 ≤ ba i ∧ ba i ≤ 127) (hxe : ∀ i, 0 ≤ xe i ∧ xe i ≤ 12) {F G J H N s q kk k m : Int} (p0 : p_DN ba qn xg xh (F)) (p1 : p_NLR xh (G)) (p2 : p_NSR xg (J)) (p3 : p_CF ba qn wo wf wn wc wm ws wi wl xa xb xc xd xe xf xg xh (H)) (p4 : m = wm) (p5 : p_CU ba qk qs qq qn qv (s)) (p6 : kk = qk) (p7 : q = qq) (p8 : p_SMT ba (N)) (p9 : p_NR ba qn (s + 25600)) (c0 : 0 ≤ F + (-1) * s + (-1024) * k) (c1 : 0 ≤ s + 1024 * k + (-1) * F) (c2 : 0 ≤ k) (c3 : 0 ≤ (-1) * k + 3) (c4 : 0 ≤ s) (c5 : 0 ≤ (-1) * s + 900) (c6 : 0 ≤ H + (-1) * s + (-7168)) (c7 : 0 ≤ s + (-1) * H + 7168) (c8 : 0 ≤ m + (-1) * k + (-1)) (c9 : 0 ≤ G + (-1) * k + (-8) * q + 8 * s) (c10 : 0 ≤ 8 * q + (-8) * s + k + (-1) * G) (c11 : 0 ≤ J + (-1) * k + (-8) * N + (-8380416) * s + 8388608 * q) (c12 : 0 ≤ 8 * N + 8380416 * s + (-8388608) * q + k + (-1) * J) (c13 : 0 ≤ kk + (-2)) (c14 : 0 ≤ (-1) * kk + 2) (c15 : 0 ≤ s + (-1) * q + 8) (c16 : 0 ≤ N + 1047552 * s + (-1048576) * q) (c17 : 0 ≤ (-1) * N + (-1047552) * s + 1048576 * q + 900) : p_HF ba qn (8 * s + 3) := by
  obtain ⟨s0, k0, e0, f1, f2, f3, f4⟩ := p0
  obtain ⟨rfl, rfl⟩ : s0 = s ∧ k0 = k := by omega
  obtain ⟨i1, z1, g1, g2, g3, g4⟩ := p1
  obtain rfl : i1 = k0 := by omega
  obtain ⟨i2, z2, h1, h2, h3, h4⟩ := p2
  obtain rfl : i2 = i1 := by omega
  obtain ⟨a1, b1, n1, x1, x2, x3, x4, x5, x6, x7⟩ := p8
  obtain rfl : b1 = s0 := by omega
  obtain rfl : n1 = q - b1 := by omega
  obtain rfl : a1 = z2 := by omega
  obtain ⟨uA, u0, u1, u2, u3⟩ := p5
  obtain ⟨st, s1, r1, r2, np, W, pk, cf, w1, w2, w3, w4, w5, w6, w7, of, pn⟩ := p3
  unfold m_pk at pk
  obtain rfl : s1 = b1 := by omega
  obtain rfl : st = 7 := by omega
  obtain ⟨s9, j9, e9, n1, n2, n3, n4⟩ := p9
  obtain ⟨rfl, rfl⟩ : s9 = s1 ∧ j9 = 25 := by omega
  have NK : m_nmk ba qn s9 = true := by
    rw [m_nmk_t]
    refine ⟨by omega, by omega, fun w hw e => ?_⟩
    obtain ⟨i, hi⟩ := List.mem_iff_getElem?.mp hw
    have hl : i < 25 := (List.getElem?_eq_some_iff.mp hi).1
    exact n4 i (by omega) w hi ⟨by omega, e⟩
  have cw := w1.2.2.1
  unfold m_ln at cw
  obtain ⟨v1, v2⟩ := w5 i2.toNat (by omega)
  rw [show ((i2.toNat : Nat) : Int) = i2 by omega] at v1 v2
  have TK : m_tk ba qn s9 W = true := by
    unfold m_tk
    rw [List.any_eq_true]
    refine ⟨_, List.mem_of_getElem? v1, ?_⟩
    rw [decide_eq_true_eq]
    exact m_cd_cg (by rw [← v2]; omega) (fun i i1 i3 => by rw [h4]; exact x7 i i1 (by rw [← v2] at i3; omega))
  have AT := m_cf_a cf (by decide)
  rw [show m_stp ba qn (7, s9, r1, r2, np, W) = (if m_nmk ba qn s9 = true then (if m_tk ba qn s9 W = true then m_ht 3 s9 else m_go 11 (m_sk ba qn (m_te ba qn s9)) 0 0 s9 W) else m_mp ba qn s9) from rfl, if_pos NK, if_pos TK] at AT
  exact ⟨3, s9, by omega, by omega, by omega, AT⟩
theorem k_qns {qn : Int} {wo : Int} {wf : Int} {wn : Int} {wc : Int} {wm : Int} {ws : Int} {wi : Int} {wl : Int} {ba : Int → Int} {xa : Int → Int} {xb : Int → Int} {xc : Int → Int} {xd : Int → Int} {xe : Int → Int} {xf : Int → Int} {xg : Int → Int} {xh : Int → Int} (hqn : 0 ≤ qn ∧ qn ≤ 900) (hwo : 2 ≤ wo ∧ wo ≤ 13) (hwf : 1 ≤ wf ∧ wf ≤ 13) (hwn : 0 ≤ wn ∧ wn ≤ 96) (hwc : 0 ≤ wc ∧ wc ≤ 6) (hwm : 0 ≤ wm ∧ wm ≤ 4) (hws : 0 ≤ ws ∧ ws ≤ 6) (hwi : 0 ≤ wi ∧ wi ≤ 8) (hba : ∀ i, -128 ≤ ba i ∧ ba i ≤ 127) (hxe : ∀ i, 0 ≤ xe i ∧ xe i ≤ 12) {G J H s k m z a : Int} (p0 : p_NLR xh (G)) (p1 : p_NSR xg (J)) (p2 : p_CF ba qn wo wf wn wc wm ws wi wl xa xb xc xd xe xf xg xh (H)) (p3 : m = wm) (c0 : 0 ≤ H + (-1) * s + (-7168)) (c1 : 0 ≤ s + (-1) * H + 7168) (c2 : 0 ≤ m + (-1) * k + (-1)) (c3 : 0 ≤ k) (c4 : 0 ≤ (-1) * k + 3) (c5 : 0 ≤ G + (-1) * k + (-8) * z) (c6 : 0 ≤ k + 8 * z + (-1) * G) (c7 : 0 ≤ J + (-1) * k + (-8) * a) (c8 : 0 ≤ k + 8 * a + (-1) * J) (c9 : 0 ≤ s) (c10 : 0 ≤ (-1) * s + 900) : 0 ≤ (-1) * z + (-1) * a + 900 := by
  obtain ⟨i1, z1, g1, g2, g3, g4⟩ := p0
  obtain rfl : i1 = k := by omega
  obtain ⟨i2, z2, h1, h2, h3, h4⟩ := p1
  obtain rfl : i2 = i1 := by omega
  obtain ⟨st, s1, r1, r2, np, W, pk, cf, w1, w2, w3, w4, w5, w6, w7, of, pn⟩ := p2
  unfold m_pk at pk
  obtain rfl : s1 = s := by omega
  obtain rfl : st = 7 := by omega
  have cw := w1.2.2.1
  unfold m_ln at cw
  obtain ⟨v1, v2⟩ := w5 i2.toNat (by omega)
  rw [show ((i2.toNat : Nat) : Int) = i2 by omega] at v1 v2
  have hm := (m_cf_j cf (by decide)).1 _ (List.mem_of_getElem? v1)
  have hm : m_nmk ba qn (xg i2) = true := hm
  have := (m_kd2 (m_nmk_t.mp hm).1).1
  have := m_te_le (b := ba) (n := qn) (s := xg i2) (by omega)
  omega
theorem k_cna {qn : Int} {qk : Int} {qs : Int} {qq : Int} {qv : Int} {wo : Int} {wf : Int} {wn : Int} {wc : Int} {wm : Int} {ws : Int} {wi : Int} {wl : Int} {ba : Int → Int} {xa : Int → Int} {xb : Int → Int} {xc : Int → Int} {xd : Int → Int} {xe : Int → Int} {xf : Int → Int} {xg : Int → Int} {xh : Int → Int} (hqn : 0 ≤ qn ∧ qn ≤ 900) (hqk : 0 ≤ qk ∧ qk ≤ 4) (hqs : 0 ≤ qs ∧ qs ≤ 900) (hqq : 0 ≤ qq ∧ qq ≤ 900) (hwo : 2 ≤ wo ∧ wo ≤ 13) (hwf : 1 ≤ wf ∧ wf ≤ 13) (hwn : 0 ≤ wn ∧ wn ≤ 96) (hwc : 0 ≤ wc ∧ wc ≤ 6) (hwm : 0 ≤ wm ∧ wm ≤ 4) (hws : 0 ≤ ws ∧ ws ≤ 6) (hwi : 0 ≤ wi ∧ wi ≤ 8) (hba : ∀ i, -128 ≤ ba i ∧ ba i ≤ 127) (hxe : ∀ i, 0 ≤ xe i ∧ xe i ≤ 12) {F H s k m q kk : Int} (p0 : p_DN ba qn xg xh (F)) (p1 : p_CF ba qn wo wf wn wc wm ws wi wl xa xb xc xd xe xf xg xh (H)) (p2 : m = wm) (p3 : p_CU ba qk qs qq qn qv (s)) (p4 : kk = qk) (p5 : q = qq) (c0 : 0 ≤ F + (-1) * s + (-1024) * k) (c1 : 0 ≤ s + 1024 * k + (-1) * F) (c2 : 0 ≤ k + (-1) * m) (c3 : 0 ≤ m + (-1) * k) (c4 : 0 ≤ k) (c5 : 0 ≤ (-1) * k + 4) (c6 : 0 ≤ s) (c7 : 0 ≤ (-1) * s + 900) (c8 : 0 ≤ H + (-1) * s + (-7168)) (c9 : 0 ≤ s + (-1) * H + 7168) (c10 : 0 ≤ kk + (-2)) (c11 : 0 ≤ (-1) * kk + 2) (c12 : 0 ≤ s + (-1) * q + 8) : p_CNA ba qn wo wf wn wc wm ws wi wl xa xb xc xd xe xf xg xh (H) := by
  obtain ⟨s0, k0, e0, f1, f2, f3, f4⟩ := p0
  obtain ⟨rfl, rfl⟩ : s0 = s ∧ k0 = k := by omega
  obtain ⟨st, s1, r1, r2, np, W, pk, cf, w1, w2, w3, w4, w5, w6, w7, of, pn⟩ := p1
  unfold m_pk at pk
  obtain rfl : s1 = s0 := by omega
  obtain rfl : st = 7 := by omega
  obtain ⟨uA, u0, u1, u2, u3⟩ := p3
  have cw := w1.2.2.1
  refine ⟨7, s1, r1, r2, np, W, (by unfold m_pk; omega), cf, w1, w2, w3, w4, w5, w6, w7, of, rfl, by omega, by omega, ?_⟩
  cases ht : m_tk ba qn s1 W with
  | false => rfl
  | true =>
    unfold m_tk at ht
    rw [List.any_eq_true] at ht
    obtain ⟨x, hx, ex⟩ := ht
    rw [decide_eq_true_eq] at ex
    obtain ⟨i, hi⟩ := List.mem_iff_getElem?.mp hx
    have hl := (List.getElem?_eq_some_iff.mp hi).1
    obtain ⟨v1, v2⟩ := w5 i hl
    rw [hi] at v1
    have v1 := Option.some.inj v1
    subst v1
    obtain ⟨m1, m2, -⟩ := m_nmk_t.mp ((m_cf_j cf (by decide)).1 _ hx)
    obtain ⟨c1, c2⟩ := m_cd_inj m1 m2 (t := s1) (by omega) (by omega) ex
    unfold m_ln at cw
    exact absurd ⟨by rw [v2]; exact c1, fun t t1 t2 => c2 t t1 (by rw [v2] at t2; exact t2)⟩ (f4 i (by omega) (by omega))
theorem k_cn1 {qn : Int} {wo : Int} {wf : Int} {wn : Int} {wc : Int} {wm : Int} {ws : Int} {wi : Int} {wl : Int} {ba : Int → Int} {xa : Int → Int} {xb : Int → Int} {xc : Int → Int} {xd : Int → Int} {xe : Int → Int} {xf : Int → Int} {xg : Int → Int} {xh : Int → Int} (hqn : 0 ≤ qn ∧ qn ≤ 900) (hwo : 2 ≤ wo ∧ wo ≤ 13) (hwf : 1 ≤ wf ∧ wf ≤ 13) (hwn : 0 ≤ wn ∧ wn ≤ 96) (hwc : 0 ≤ wc ∧ wc ≤ 6) (hwm : 0 ≤ wm ∧ wm ≤ 4) (hws : 0 ≤ ws ∧ ws ≤ 6) (hwi : 0 ≤ wi ∧ wi ≤ 8) (hba : ∀ i, -128 ≤ ba i ∧ ba i ≤ 127) (hxe : ∀ i, 0 ≤ xe i ∧ xe i ≤ 12) {i z F s m : Int} (i1 : 0 ≤ i) (i2 : i < 4) (p0 : p_CNA ba qn wo wf wn wc wm ws wi wl xa xb xc xd xe xf xg xh (F)) (p1 : m = wm) (c0 : 0 ≤ F + (-1) * s + (-7168)) (c1 : 0 ≤ s + (-1) * F + 7168) (c2 : 0 ≤ i + (-1) * m) (c3 : 0 ≤ m + (-1) * i) (c4 : 0 ≤ z + (-1) * s) (c5 : 0 ≤ s + (-1) * z) (c6 : 0 ≤ s) (c7 : 0 ≤ (-1) * s + 900) : p_CN1 ba qn wo wf wn wc wm ws wi wl xa xb xc xd xe xf (m_up xg i z) xh (F) := by
  obtain ⟨st, s1, r1, r2, np, W, pk, cf, w1, w2, w3, w4, w5, w6, w7, of, rfl, e1, e2, nt⟩ := p0
  have pk0 := pk
  unfold m_pk at pk
  obtain rfl : s1 = s := by omega
  have cw := w1.2.2.1
  refine ⟨7, s1, r1, r2, np, W, pk0, cf, w1, w2, w3, w4, fun k hk => ?_, w6, w7, of, rfl, e1, e2, nt, by rw [m_up_at (by omega)]; omega⟩
  rw [m_up_ne (by unfold m_ln at cw; omega)]
  exact w5 k hk
theorem k_cn2 {qn : Int} {qk : Int} {qs : Int} {qq : Int} {qv : Int} {wo : Int} {wf : Int} {wn : Int} {wc : Int} {wm : Int} {ws : Int} {wi : Int} {wl : Int} {ba : Int → Int} {xa : Int → Int} {xb : Int → Int} {xc : Int → Int} {xd : Int → Int} {xe : Int → Int} {xf : Int → Int} {xg : Int → Int} {xh : Int → Int} (hqn : 0 ≤ qn ∧ qn ≤ 900) (hqk : 0 ≤ qk ∧ qk ≤ 4) (hqs : 0 ≤ qs ∧ qs ≤ 900) (hqq : 0 ≤ qq ∧ qq ≤ 900) (hwo : 2 ≤ wo ∧ wo ≤ 13) (hwf : 1 ≤ wf ∧ wf ≤ 13) (hwn : 0 ≤ wn ∧ wn ≤ 96) (hwc : 0 ≤ wc ∧ wc ≤ 6) (hwm : 0 ≤ wm ∧ wm ≤ 4) (hws : 0 ≤ ws ∧ ws ≤ 6) (hwi : 0 ≤ wi ∧ wi ≤ 8) (hba : ∀ i, -128 ≤ ba i ∧ ba i ≤ 127) (hxe : ∀ i, 0 ≤ xe i ∧ xe i ≤ 12) {i z F s m q kk : Int} (i1 : 0 ≤ i) (i2 : i < 4) (p0 : p_CN1 ba qn wo wf wn wc wm ws wi wl xa xb xc xd xe xf xg xh (F)) (p1 : m = wm) (p2 : p_CU ba qk qs qq qn qv (s)) (p3 : kk = qk) (p4 : q = qq) (c0 : 0 ≤ F + (-1) * s + (-7168)) (c1 : 0 ≤ s + (-1) * F + 7168) (c2 : 0 ≤ i + (-1) * m) (c3 : 0 ≤ m + (-1) * i) (c4 : 0 ≤ z + (-1) * q + s) (c5 : 0 ≤ q + (-1) * s + (-1) * z) (c6 : 0 ≤ s) (c7 : 0 ≤ (-1) * s + 900) : p_CN2 ba qn wo wf wn wc wm ws wi wl xa xb xc xd xe xf xg (m_up xh i z) (F) := by
  obtain ⟨st, s1, r1, r2, np, W, pk, cf, w1, w2, w3, w4, w5, w6, w7, of, rfl, e1, e2, nt, n1⟩ := p0
  have pk0 := pk
  unfold m_pk at pk
  obtain rfl : s1 = s := by omega
  obtain ⟨uA, u0, u1, u2, u3⟩ := p2
  have cw := w1.2.2.1
  refine ⟨7, s1, r1, r2, np, W, pk0, cf, w1, w2, w3, w4, fun k hk => ?_, w6, w7, of, rfl, e1, e2, nt, n1, by rw [m_up_at (by omega)]; omega⟩
  rw [m_up_ne (by unfold m_ln at cw; omega)]
  exact w5 k hk
theorem k_cn3 {qn : Int} {qk : Int} {qs : Int} {qq : Int} {qv : Int} {wo : Int} {wf : Int} {wn : Int} {wc : Int} {wm : Int} {ws : Int} {wi : Int} {wl : Int} {ba : Int → Int} {xa : Int → Int} {xb : Int → Int} {xc : Int → Int} {xd : Int → Int} {xe : Int → Int} {xf : Int → Int} {xg : Int → Int} {xh : Int → Int} (hqn : 0 ≤ qn ∧ qn ≤ 900) (hqk : 0 ≤ qk ∧ qk ≤ 4) (hqs : 0 ≤ qs ∧ qs ≤ 900) (hqq : 0 ≤ qq ∧ qq ≤ 900) (hwo : 2 ≤ wo ∧ wo ≤ 13) (hwf : 1 ≤ wf ∧ wf ≤ 13) (hwn : 0 ≤ wn ∧ wn ≤ 96) (hwc : 0 ≤ wc ∧ wc ≤ 6) (hwm : 0 ≤ wm ∧ wm ≤ 4) (hws : 0 ≤ ws ∧ ws ≤ 6) (hwi : 0 ≤ wi ∧ wi ≤ 8) (hba : ∀ i, -128 ≤ ba i ∧ ba i ≤ 127) (hxe : ∀ i, 0 ≤ xe i ∧ xe i ≤ 12) {F G s q kk : Int} (p0 : p_CN2 ba qn wo wf wn wc wm ws wi wl xa xb xc xd xe xf xg xh (F)) (p1 : p_NR ba qn (G)) (p2 : p_CU ba qk qs qq qn qv (s)) (p3 : kk = qk) (p4 : q = qq) (c0 : 0 ≤ F + (-1) * s + (-7168)) (c1 : 0 ≤ s + (-1) * F + 7168) (c2 : 0 ≤ G + (-1) * s + (-25600)) (c3 : 0 ≤ s + (-1) * G + 25600) (c4 : 0 ≤ kk + (-2)) (c5 : 0 ≤ (-1) * kk + 2) (c6 : 0 ≤ s + (-1) * q + 8) (c7 : 0 ≤ q) (c8 : 0 ≤ (-1) * q + 1023) (c9 : 0 ≤ s) (c10 : 0 ≤ (-1) * s + 900) : p_RDX ba qn wo wf wn wc wm ws wi wl xa xb xc xd xe xf xg xh (q + 11264) := by
  obtain ⟨st, s1, r1, r2, np, W, pk, cf, w1, w2, w3, w4, w5, w6, w7, of, rfl, e1, e2, nt, n1, n2⟩ := p0
  have pk0 := pk
  unfold m_pk at pk
  obtain rfl : s1 = s := by omega
  obtain ⟨uA, u0, u1, u2, u3⟩ := p2
  obtain ⟨s9, j9, e9, m1, m2, m3, m4⟩ := p1
  obtain ⟨rfl, rfl⟩ : s9 = s1 ∧ j9 = 25 := by omega
  have NK : m_nmk ba qn s9 = true := by
    rw [m_nmk_t]
    refine ⟨by omega, by omega, fun w hw e => ?_⟩
    obtain ⟨i, hi⟩ := List.mem_iff_getElem?.mp hw
    have hl : i < 25 := (List.getElem?_eq_some_iff.mp hi).1
    exact m4 i (by omega) w hi ⟨by omega, e⟩
  have AT := m_cf_a cf (by decide)
  rw [show m_stp ba qn (7, s9, r1, r2, np, W) = (if m_nmk ba qn s9 = true then (if m_tk ba qn s9 W = true then m_ht 3 s9 else m_go 11 (m_sk ba qn (m_te ba qn s9)) 0 0 s9 W) else m_mp ba qn s9) from rfl, if_pos NK, nt, if_neg (by decide), ← u2] at AT
  exact ⟨11, qq, 0, 0, s9, W, (by unfold m_pk; omega), Or.inl ⟨by decide, AT⟩, w1, w2, w3, w4, w5, w6, w7, fun _ => of (by decide), fun _ => ⟨n1, n2⟩⟩
theorem k_fa35 {xe : Int → Int} (hxe : ∀ i, 0 ≤ xe i ∧ xe i ≤ 12) {v : Int} (c0 : 0 ≤ v + 2147483648) (c1 : 0 ≤ (-1) * v + 2147483647) : p_FZ35 xe (128 * v + 274877906944) := by
  exact ⟨0, v, by omega, by omega, by omega, by omega, by omega, fun j a b => by omega⟩
theorem k_fb35 {xe : Int → Int} (hxe : ∀ i, 0 ≤ xe i ∧ xe i ≤ 12) {i z F v : Int} (i1 : 0 ≤ i) (i2 : i < 96) (p0 : p_FZ35 xe (F)) (c0 : 0 ≤ F + (-1) * i + (-128) * v + (-274877906944)) (c1 : 0 ≤ i + 128 * v + (-1) * F + 274877906944) (c2 : 0 ≤ z + (-1) * v) (c3 : 0 ≤ v + (-1) * z) (c4 : 0 ≤ i) (c5 : 0 ≤ (-1) * i + 95) (c6 : 0 ≤ v + 2147483648) (c7 : 0 ≤ (-1) * v + 2147483647) : p_FZ35 (m_up xe i z) (F + 1) := by
  obtain ⟨i1x, v1, e1, f1, f2, f3, f4, f5⟩ := p0
  obtain ⟨rfl, rfl⟩ : i1x = i ∧ v1 = v := by omega
  refine ⟨i1x + 1, v1, by omega, by omega, by omega, by omega, by omega, fun j a b => ?_⟩
  by_cases k : j = i1x
  · rw [m_up_at k]; omega
  · rw [m_up_ne k]; exact f5 j a (by omega)
theorem k_fc35 {xe : Int → Int} (hxe : ∀ i, 0 ≤ xe i ∧ xe i ≤ 12) {F i v : Int} (p0 : p_FZ35 xe (F)) (c0 : 0 ≤ F + (-1) * i + (-128) * v + (-274877906944)) (c1 : 0 ≤ i + 128 * v + (-1) * F + 274877906944) (c2 : 0 ≤ i + (-96)) (c3 : 0 ≤ (-1) * i + 96) (c4 : 0 ≤ v + 2147483648) (c5 : 0 ≤ (-1) * v + 2147483647) : p_FZ35 xe (128 * v + 274877907040) := by
  obtain ⟨i1x, v1, e1, f1, f2, f3, f4, f5⟩ := p0
  obtain ⟨rfl, rfl⟩ : i1x = i ∧ v1 = v := by omega
  exact ⟨96, v1, by omega, by omega, by omega, by omega, by omega, fun j a b => f5 j a (by omega)⟩
theorem k_fa36 {xf : Int → Int} {v : Int} (c0 : 0 ≤ v + 2147483648) (c1 : 0 ≤ (-1) * v + 2147483647) : p_FZ36 xf (128 * v + 274877906944) := by
  exact ⟨0, v, by omega, by omega, by omega, by omega, by omega, fun j a b => by omega⟩
theorem k_fb36 {xf : Int → Int} {i z F v : Int} (i1 : 0 ≤ i) (i2 : i < 96) (p0 : p_FZ36 xf (F)) (c0 : 0 ≤ F + (-1) * i + (-128) * v + (-274877906944)) (c1 : 0 ≤ i + 128 * v + (-1) * F + 274877906944) (c2 : 0 ≤ z + (-1) * v) (c3 : 0 ≤ v + (-1) * z) (c4 : 0 ≤ i) (c5 : 0 ≤ (-1) * i + 95) (c6 : 0 ≤ v + 2147483648) (c7 : 0 ≤ (-1) * v + 2147483647) : p_FZ36 (m_up xf i z) (F + 1) := by
  obtain ⟨i1x, v1, e1, f1, f2, f3, f4, f5⟩ := p0
  obtain ⟨rfl, rfl⟩ : i1x = i ∧ v1 = v := by omega
  refine ⟨i1x + 1, v1, by omega, by omega, by omega, by omega, by omega, fun j a b => ?_⟩
  by_cases k : j = i1x
  · rw [m_up_at k]; omega
  · rw [m_up_ne k]; exact f5 j a (by omega)
theorem k_fc36 {xf : Int → Int} {F i v : Int} (p0 : p_FZ36 xf (F)) (c0 : 0 ≤ F + (-1) * i + (-128) * v + (-274877906944)) (c1 : 0 ≤ i + 128 * v + (-1) * F + 274877906944) (c2 : 0 ≤ i + (-96)) (c3 : 0 ≤ (-1) * i + 96) (c4 : 0 ≤ v + 2147483648) (c5 : 0 ≤ (-1) * v + 2147483647) : p_FZ36 xf (128 * v + 274877907040) := by
  obtain ⟨i1x, v1, e1, f1, f2, f3, f4, f5⟩ := p0
  obtain ⟨rfl, rfl⟩ : i1x = i ∧ v1 = v := by omega
  exact ⟨96, v1, by omega, by omega, by omega, by omega, by omega, fun j a b => f5 j a (by omega)⟩
theorem k_wz {wo : Int} {wf : Int} {wn : Int} {wc : Int} {wm : Int} {ws : Int} {wi : Int} {wl : Int} {xa : Int → Int} {xb : Int → Int} {xc : Int → Int} {xd : Int → Int} {xe : Int → Int} {xf : Int → Int} {xg : Int → Int} {xh : Int → Int} (hwo : 2 ≤ wo ∧ wo ≤ 13) (hwf : 1 ≤ wf ∧ wf ≤ 13) (hwn : 0 ≤ wn ∧ wn ≤ 96) (hwc : 0 ≤ wc ∧ wc ≤ 6) (hwm : 0 ≤ wm ∧ wm ≤ 4) (hws : 0 ≤ ws ∧ ws ≤ 6) (hwi : 0 ≤ wi ∧ wi ≤ 8) (hxe : ∀ i, 0 ≤ xe i ∧ xe i ≤ 12) (p0 : p_FZ35 xe (274877907040)) (p1 : p_FZ36 xf (274877906912)) (p2 : 0 = wn) (p3 : 0 = wc) (p4 : 0 = wm) (p5 : 0 = ws) (p6 : 0 = wi) (p7 : 0 = wl) : p_WZ wo wf wn wc wm ws wi wl xa xb xc xd xe xf xg xh (0) := by
  obtain ⟨i1, v1, e1, f1, f2, f3, f4, f5⟩ := p0
  obtain ⟨rfl, rfl⟩ : i1 = 96 ∧ v1 = 0 := by omega
  obtain ⟨i2, v2, g1, h1, h2, h3, h4, h5⟩ := p1
  obtain ⟨rfl, rfl⟩ : i2 = 96 ∧ v2 = -1 := by omega
  exact ⟨p2.symm, p3.symm, p4.symm, p5.symm, p6.symm, p7.symm, fun s a b => f5 s a (by omega), fun s a b => h5 s a (by omega)⟩
theorem k_mvz {xe : Int → Int} (hxe : ∀ i, 0 ≤ xe i ∧ xe i ≤ 12) {F : Int} (p0 : p_FZ35 xe (F)) : p_FZ35 xe (F) := by
  exact p0
theorem k_cfz {qn : Int} {wo : Int} {wf : Int} {wn : Int} {wc : Int} {wm : Int} {ws : Int} {wi : Int} {wl : Int} {ba : Int → Int} {xa : Int → Int} {xb : Int → Int} {xc : Int → Int} {xd : Int → Int} {xe : Int → Int} {xf : Int → Int} {xg : Int → Int} {xh : Int → Int} (hqn : 0 ≤ qn ∧ qn ≤ 900) (hwo : 2 ≤ wo ∧ wo ≤ 13) (hwf : 1 ≤ wf ∧ wf ≤ 13) (hwn : 0 ≤ wn ∧ wn ≤ 96) (hwc : 0 ≤ wc ∧ wc ≤ 6) (hwm : 0 ≤ wm ∧ wm ≤ 4) (hws : 0 ≤ ws ∧ ws ≤ 6) (hwi : 0 ≤ wi ∧ wi ≤ 8) (hba : ∀ i, -128 ≤ ba i ∧ ba i ≤ 127) (hxe : ∀ i, 0 ≤ xe i ∧ xe i ≤ 12) {N s : Int} (p0 : p_WZ wo wf wn wc wm ws wi wl xa xb xc xd xe xf xg xh (0)) (p1 : p_NX ba qn (N)) (c0 : 0 ≤ N + (-1024) * s) (c1 : 0 ≤ 1024 * s + (-1) * N) (c2 : 0 ≤ s) (c3 : 0 ≤ (-1) * s + 900) : p_CF ba qn wo wf wn wc wm ws wi wl xa xb xc xd xe xf xg xh (s) := by
  obtain ⟨z1, z2, z3, z4, z5, z6, z7, z8⟩ := p0
  obtain ⟨e1, q1, x1, n1, n2, n3, n4, n5⟩ := p1
  obtain ⟨rfl, rfl⟩ : e1 = 0 ∧ q1 = s := by omega
  refine ⟨0, q1, 0, 0, 0, m_W0, (by unfold m_pk; omega), Or.inl ⟨by decide, 0, by rw [n5]; rfl⟩, ⟨z1, z2, z3, z5⟩, z4, z6, ⟨fun k a b => ?_, fun t a b => ?_⟩, fun k hk => ?_, fun t a b => z7 t a b, fun t a b => z8 t a b, fun h => absurd h (by decide), fun h => absurd h (by unfold m_ps; decide)⟩
  · have b : k < 0 := b
    omega
  · have b : t < 0 := b
    omega
  · have hk : k < 0 := hk
    omega
theorem k_np5 {qn : Int} {qk : Int} {qs : Int} {qq : Int} {qv : Int} {wo : Int} {wf : Int} {wn : Int} {wc : Int} {wm : Int} {ws : Int} {wi : Int} {wl : Int} {ba : Int → Int} {xa : Int → Int} {xb : Int → Int} {xc : Int → Int} {xd : Int → Int} {xe : Int → Int} {xf : Int → Int} {xg : Int → Int} {xh : Int → Int} (hqn : 0 ≤ qn ∧ qn ≤ 900) (hqk : 0 ≤ qk ∧ qk ≤ 4) (hqs : 0 ≤ qs ∧ qs ≤ 900) (hqq : 0 ≤ qq ∧ qq ≤ 900) (hwo : 2 ≤ wo ∧ wo ≤ 13) (hwf : 1 ≤ wf ∧ wf ≤ 13) (hwn : 0 ≤ wn ∧ wn ≤ 96) (hwc : 0 ≤ wc ∧ wc ≤ 6) (hwm : 0 ≤ wm ∧ wm ≤ 4) (hws : 0 ≤ ws ∧ ws ≤ 6) (hwi : 0 ≤ wi ∧ wi ≤ 8) (hba : ∀ i, -128 ≤ ba i ∧ ba i ≤ 127) (hxe : ∀ i, 0 ≤ xe i ∧ xe i ≤ 12) {F G s q kk : Int} (p0 : p_CF ba qn wo wf wn wc wm ws wi wl xa xb xc xd xe xf xg xh (F)) (p1 : p_NI ba qn (G)) (p2 : p_CU ba qk qs qq qn qv (s)) (p3 : kk = qk) (p4 : q = qq) (c0 : 0 ≤ F + (-1) * s + (-5120)) (c1 : 0 ≤ s + (-1) * F + 5120) (c2 : 0 ≤ G + (-1099511627776) * s + (-117099109)) (c3 : 0 ≤ 1099511627776 * s + (-1) * G + 117099109) (c4 : 0 ≤ kk + (-1)) (c5 : 0 ≤ s) (c6 : 0 ≤ (-1) * s + 900) : p_CF ba qn wo wf wn wc wm ws wi wl xa xb xc xd xe xf xg xh (s + 26624) := by
  obtain ⟨w0, s0, y1, y2, y3, y4, hw⟩ := p1
  obtain rfl : s0 = s := by omega
  obtain rfl : w0 = 117099109 := by omega
  obtain ⟨st, s1, r1, r2, np, W, pk, cf, w1, w2, w3, w4, w5, w6, w7, of, pn⟩ := p0
  unfold m_pk at pk
  obtain rfl : s1 = s0 := by omega
  obtain rfl : st = 5 := by omega
  obtain ⟨uA, u0, u1, u2, u3⟩ := p2
  obtain rfl : r1 = 0 := by omega
  obtain rfl : r2 = 0 := by omega
  refine ⟨26, s1, 0, 0, np, W, (by unfold m_pk; omega), ?_, w1, w2, w3, w4, w5, w6, w7, fun _ => of (by decide), fun h => absurd h (by unfold m_ps; decide)⟩
  rcases cf with ⟨q1, cf⟩ | ⟨q1, q2, q3, cf, q4, q5, q6, q7, q8⟩
  · exact Or.inr ⟨by decide, rfl, rfl, cf, by omega, hw, fun h => absurd h (by decide), fun h => absurd h (by decide), fun h => absurd h (by decide)⟩
  · omega
theorem k_np26 {qn : Int} {qk : Int} {qs : Int} {qq : Int} {qv : Int} {wo : Int} {wf : Int} {wn : Int} {wc : Int} {wm : Int} {ws : Int} {wi : Int} {wl : Int} {ba : Int → Int} {xa : Int → Int} {xb : Int → Int} {xc : Int → Int} {xd : Int → Int} {xe : Int → Int} {xf : Int → Int} {xg : Int → Int} {xh : Int → Int} (hqn : 0 ≤ qn ∧ qn ≤ 900) (hqk : 0 ≤ qk ∧ qk ≤ 4) (hqs : 0 ≤ qs ∧ qs ≤ 900) (hqq : 0 ≤ qq ∧ qq ≤ 900) (hwo : 2 ≤ wo ∧ wo ≤ 13) (hwf : 1 ≤ wf ∧ wf ≤ 13) (hwn : 0 ≤ wn ∧ wn ≤ 96) (hwc : 0 ≤ wc ∧ wc ≤ 6) (hwm : 0 ≤ wm ∧ wm ≤ 4) (hws : 0 ≤ ws ∧ ws ≤ 6) (hwi : 0 ≤ wi ∧ wi ≤ 8) (hba : ∀ i, -128 ≤ ba i ∧ ba i ≤ 127) (hxe : ∀ i, 0 ≤ xe i ∧ xe i ≤ 12) {F G s q kk : Int} (p0 : p_CF ba qn wo wf wn wc wm ws wi wl xa xb xc xd xe xf xg xh (F)) (p1 : p_NI ba qn (G)) (p2 : p_CU ba qk qs qq qn qv (s)) (p3 : kk = qk) (p4 : q = qq) (c0 : 0 ≤ F + (-1) * s + (-26624)) (c1 : 0 ≤ s + (-1) * F + 26624) (c2 : 0 ≤ G + (-1099511627776) * s + (-13684206)) (c3 : 0 ≤ 1099511627776 * s + (-1) * G + 13684206) (c4 : 0 ≤ kk + (-1)) (c5 : 0 ≤ s) (c6 : 0 ≤ (-1) * s + 900) : p_CF ba qn wo wf wn wc wm ws wi wl xa xb xc xd xe xf xg xh (s + 27648) := by
  obtain ⟨w0, s0, y1, y2, y3, y4, hw⟩ := p1
  obtain rfl : s0 = s := by omega
  obtain rfl : w0 = 13684206 := by omega
  obtain ⟨st, s1, r1, r2, np, W, pk, cf, w1, w2, w3, w4, w5, w6, w7, of, pn⟩ := p0
  unfold m_pk at pk
  obtain rfl : s1 = s0 := by omega
  obtain rfl : st = 26 := by omega
  obtain ⟨uA, u0, u1, u2, u3⟩ := p2
  obtain rfl : r1 = 0 := by omega
  obtain rfl : r2 = 0 := by omega
  refine ⟨27, s1, 0, 0, np, W, (by unfold m_pk; omega), ?_, w1, w2, w3, w4, w5, w6, w7, fun _ => of (by decide), fun h => absurd h (by unfold m_ps; decide)⟩
  rcases cf with ⟨q1, cf⟩ | ⟨q1, q2, q3, cf, q4, q5, q6, q7, q8⟩
  · omega
  · exact Or.inr ⟨by decide, rfl, rfl, cf, q4, q5, fun _ => hw, fun h => absurd h (by decide), fun h => absurd h (by decide)⟩
theorem k_np27 {qn : Int} {qk : Int} {qs : Int} {qq : Int} {qv : Int} {wo : Int} {wf : Int} {wn : Int} {wc : Int} {wm : Int} {ws : Int} {wi : Int} {wl : Int} {ba : Int → Int} {xa : Int → Int} {xb : Int → Int} {xc : Int → Int} {xd : Int → Int} {xe : Int → Int} {xf : Int → Int} {xg : Int → Int} {xh : Int → Int} (hqn : 0 ≤ qn ∧ qn ≤ 900) (hqk : 0 ≤ qk ∧ qk ≤ 4) (hqs : 0 ≤ qs ∧ qs ≤ 900) (hqq : 0 ≤ qq ∧ qq ≤ 900) (hwo : 2 ≤ wo ∧ wo ≤ 13) (hwf : 1 ≤ wf ∧ wf ≤ 13) (hwn : 0 ≤ wn ∧ wn ≤ 96) (hwc : 0 ≤ wc ∧ wc ≤ 6) (hwm : 0 ≤ wm ∧ wm ≤ 4) (hws : 0 ≤ ws ∧ ws ≤ 6) (hwi : 0 ≤ wi ∧ wi ≤ 8) (hba : ∀ i, -128 ≤ ba i ∧ ba i ≤ 127) (hxe : ∀ i, 0 ≤ xe i ∧ xe i ≤ 12) {F G s q kk : Int} (p0 : p_CF ba qn wo wf wn wc wm ws wi wl xa xb xc xd xe xf xg xh (F)) (p1 : p_NI ba qn (G)) (p2 : p_CU ba qk qs qq qn qv (s)) (p3 : kk = qk) (p4 : q = qq) (c0 : 0 ≤ F + (-1) * s + (-27648)) (c1 : 0 ≤ s + (-1) * F + 27648) (c2 : 0 ≤ G + (-1099511627776) * s + (-635184)) (c3 : 0 ≤ 1099511627776 * s + (-1) * G + 635184) (c4 : 0 ≤ kk + (-1)) (c5 : 0 ≤ s) (c6 : 0 ≤ (-1) * s + 900) : p_CF ba qn wo wf wn wc wm ws wi wl xa xb xc xd xe xf xg xh (s + 28672) := by
  obtain ⟨w0, s0, y1, y2, y3, y4, hw⟩ := p1
  obtain rfl : s0 = s := by omega
  obtain rfl : w0 = 635184 := by omega
  obtain ⟨st, s1, r1, r2, np, W, pk, cf, w1, w2, w3, w4, w5, w6, w7, of, pn⟩ := p0
  unfold m_pk at pk
  obtain rfl : s1 = s0 := by omega
  obtain rfl : st = 27 := by omega
  obtain ⟨uA, u0, u1, u2, u3⟩ := p2
  obtain rfl : r1 = 0 := by omega
  obtain rfl : r2 = 0 := by omega
  refine ⟨28, s1, 0, 0, np, W, (by unfold m_pk; omega), ?_, w1, w2, w3, w4, w5, w6, w7, fun _ => of (by decide), fun h => absurd h (by unfold m_ps; decide)⟩
  rcases cf with ⟨q1, cf⟩ | ⟨q1, q2, q3, cf, q4, q5, q6, q7, q8⟩
  · omega
  · exact Or.inr ⟨by decide, rfl, rfl, cf, q4, q5, fun _ => q6 (by decide), fun _ => hw, fun h => absurd h (by decide)⟩
theorem k_np28 {qn : Int} {qk : Int} {qs : Int} {qq : Int} {qv : Int} {wo : Int} {wf : Int} {wn : Int} {wc : Int} {wm : Int} {ws : Int} {wi : Int} {wl : Int} {ba : Int → Int} {xa : Int → Int} {xb : Int → Int} {xc : Int → Int} {xd : Int → Int} {xe : Int → Int} {xf : Int → Int} {xg : Int → Int} {xh : Int → Int} (hqn : 0 ≤ qn ∧ qn ≤ 900) (hqk : 0 ≤ qk ∧ qk ≤ 4) (hqs : 0 ≤ qs ∧ qs ≤ 900) (hqq : 0 ≤ qq ∧ qq ≤ 900) (hwo : 2 ≤ wo ∧ wo ≤ 13) (hwf : 1 ≤ wf ∧ wf ≤ 13) (hwn : 0 ≤ wn ∧ wn ≤ 96) (hwc : 0 ≤ wc ∧ wc ≤ 6) (hwm : 0 ≤ wm ∧ wm ≤ 4) (hws : 0 ≤ ws ∧ ws ≤ 6) (hwi : 0 ≤ wi ∧ wi ≤ 8) (hba : ∀ i, -128 ≤ ba i ∧ ba i ≤ 127) (hxe : ∀ i, 0 ≤ xe i ∧ xe i ≤ 12) {F G s q kk : Int} (p0 : p_CF ba qn wo wf wn wc wm ws wi wl xa xb xc xd xe xf xg xh (F)) (p1 : p_NI ba qn (G)) (p2 : p_CU ba qk qs qq qn qv (s)) (p3 : kk = qk) (p4 : q = qq) (c0 : 0 ≤ F + (-1) * s + (-28672)) (c1 : 0 ≤ s + (-1) * F + 28672) (c2 : 0 ≤ G + (-1099511627776) * s + (-206276)) (c3 : 0 ≤ 1099511627776 * s + (-1) * G + 206276) (c4 : 0 ≤ kk + (-1)) (c5 : 0 ≤ s) (c6 : 0 ≤ (-1) * s + 900) : p_CF ba qn wo wf wn wc wm ws wi wl xa xb xc xd xe xf xg xh (s + 29696) := by
  obtain ⟨w0, s0, y1, y2, y3, y4, hw⟩ := p1
  obtain rfl : s0 = s := by omega
  obtain rfl : w0 = 206276 := by omega
  obtain ⟨st, s1, r1, r2, np, W, pk, cf, w1, w2, w3, w4, w5, w6, w7, of, pn⟩ := p0
  unfold m_pk at pk
  obtain rfl : s1 = s0 := by omega
  obtain rfl : st = 28 := by omega
  obtain ⟨uA, u0, u1, u2, u3⟩ := p2
  obtain rfl : r1 = 0 := by omega
  obtain rfl : r2 = 0 := by omega
  refine ⟨29, s1, 0, 0, np, W, (by unfold m_pk; omega), ?_, w1, w2, w3, w4, w5, w6, w7, fun _ => of (by decide), fun h => absurd h (by unfold m_ps; decide)⟩
  rcases cf with ⟨q1, cf⟩ | ⟨q1, q2, q3, cf, q4, q5, q6, q7, q8⟩
  · omega
  · exact Or.inr ⟨by decide, rfl, rfl, cf, q4, q5, fun _ => q6 (by decide), fun _ => q7 (by decide), fun _ => hw⟩
theorem k_mpa {qn : Int} {qk : Int} {qs : Int} {qq : Int} {qv : Int} {wo : Int} {wf : Int} {wn : Int} {wc : Int} {wm : Int} {ws : Int} {wi : Int} {wl : Int} {ba : Int → Int} {xa : Int → Int} {xb : Int → Int} {xc : Int → Int} {xd : Int → Int} {xe : Int → Int} {xf : Int → Int} {xg : Int → Int} {xh : Int → Int} (hqn : 0 ≤ qn ∧ qn ≤ 900) (hqk : 0 ≤ qk ∧ qk ≤ 4) (hqs : 0 ≤ qs ∧ qs ≤ 900) (hqq : 0 ≤ qq ∧ qq ≤ 900) (hwo : 2 ≤ wo ∧ wo ≤ 13) (hwf : 1 ≤ wf ∧ wf ≤ 13) (hwn : 0 ≤ wn ∧ wn ≤ 96) (hwc : 0 ≤ wc ∧ wc ≤ 6) (hwm : 0 ≤ wm ∧ wm ≤ 4) (hws : 0 ≤ ws ∧ ws ≤ 6) (hwi : 0 ≤ wi ∧ wi ≤ 8) (hba : ∀ i, -128 ≤ ba i ∧ ba i ≤ 127) (hxe : ∀ i, 0 ≤ xe i ∧ xe i ≤ 12) {F s q kk : Int} (p0 : p_CF ba qn wo wf wn wc wm ws wi wl xa xb xc xd xe xf xg xh (F)) (p1 : p_CU ba qk qs qq qn qv (s)) (p2 : kk = qk) (p3 : q = qq) (c0 : 0 ≤ F + (-1) * s + (-29696)) (c1 : 0 ≤ s + (-1) * F + 29696) (c2 : 0 ≤ kk + (-1)) (c3 : 0 ≤ (-1) * kk + 1) (c4 : 0 ≤ s) (c5 : 0 ≤ (-1) * s + 900) : p_HF ba qn (8 * s + 1) := by
  obtain ⟨st, s1, r1, r2, np, W, pk, cf, w1, w2, w3, w4, w5, w6, w7, of, pn⟩ := p0
  unfold m_pk at pk
  obtain rfl : s1 = s := by omega
  obtain rfl : st = 29 := by omega
  obtain ⟨uA, u0, u1, u2, u3⟩ := p1
  rcases cf with ⟨q1, cf⟩ | ⟨q1, q2, q3, cf, q4, q5, q6, q7, q8⟩
  · omega
  · have AT := m_at_s cf
    rw [show m_stp ba qn (5, s1, 0, 0, np, W) = m_prt ba qn s1 W from rfl, m_prt_n q4 q5 (q6 (by decide)) (q7 (by decide)) (q8 (by decide))] at AT
    exact ⟨1, s1, by omega, by omega, by omega, m_mp1 AT (by omega)⟩
theorem k_mpc {qn : Int} {qk : Int} {qs : Int} {qq : Int} {qv : Int} {wo : Int} {wf : Int} {wn : Int} {wc : Int} {wm : Int} {ws : Int} {wi : Int} {wl : Int} {ba : Int → Int} {xa : Int → Int} {xb : Int → Int} {xc : Int → Int} {xd : Int → Int} {xe : Int → Int} {xf : Int → Int} {xg : Int → Int} {xh : Int → Int} (hqn : 0 ≤ qn ∧ qn ≤ 900) (hqk : 0 ≤ qk ∧ qk ≤ 4) (hqs : 0 ≤ qs ∧ qs ≤ 900) (hqq : 0 ≤ qq ∧ qq ≤ 900) (hwo : 2 ≤ wo ∧ wo ≤ 13) (hwf : 1 ≤ wf ∧ wf ≤ 13) (hwn : 0 ≤ wn ∧ wn ≤ 96) (hwc : 0 ≤ wc ∧ wc ≤ 6) (hwm : 0 ≤ wm ∧ wm ≤ 4) (hws : 0 ≤ ws ∧ ws ≤ 6) (hwi : 0 ≤ wi ∧ wi ≤ 8) (hba : ∀ i, -128 ≤ ba i ∧ ba i ≤ 127) (hxe : ∀ i, 0 ≤ xe i ∧ xe i ≤ 12) {F s q kk : Int} (p0 : p_CF ba qn wo wf wn wc wm ws wi wl xa xb xc xd xe xf xg xh (F)) (p1 : p_CU ba qk qs qq qn qv (s)) (p2 : kk = qk) (p3 : q = qq) (c0 : 0 ≤ F + (-1) * s + (-29696)) (c1 : 0 ≤ s + (-1) * F + 29696) (c2 : 0 ≤ kk + (-2)) (c3 : 0 ≤ s) (c4 : 0 ≤ (-1) * s + 900) : p_HF ba qn (8 * s + 2) := by
  obtain ⟨st, s1, r1, r2, np, W, pk, cf, w1, w2, w3, w4, w5, w6, w7, of, pn⟩ := p0
  unfold m_pk at pk
  obtain rfl : s1 = s := by omega
  obtain rfl : st = 29 := by omega
  obtain ⟨uA, u0, u1, u2, u3⟩ := p1
  rcases cf with ⟨q1, cf⟩ | ⟨q1, q2, q3, cf, q4, q5, q6, q7, q8⟩
  · omega
  · have AT := m_at_s cf
    rw [show m_stp ba qn (5, s1, 0, 0, np, W) = m_prt ba qn s1 W from rfl, m_prt_n q4 q5 (q6 (by decide)) (q7 (by decide)) (q8 (by decide))] at AT
    exact ⟨2, s1, by omega, by omega, by omega, m_mp2 AT (by omega)⟩
theorem k_wdone {qn : Int} {qk : Int} {qs : Int} {qq : Int} {qv : Int} {wo : Int} {wf : Int} {wn : Int} {wc : Int} {wm : Int} {ws : Int} {wi : Int} {wl : Int} {ba : Int → Int} {xa : Int → Int} {xb : Int → Int} {xc : Int → Int} {xd : Int → Int} {xe : Int → Int} {xf : Int → Int} {xg : Int → Int} {xh : Int → Int} (hqn : 0 ≤ qn ∧ qn ≤ 900) (hqk : 0 ≤ qk ∧ qk ≤ 4) (hqs : 0 ≤ qs ∧ qs ≤ 900) (hqq : 0 ≤ qq ∧ qq ≤ 900) (hwo : 2 ≤ wo ∧ wo ≤ 13) (hwf : 1 ≤ wf ∧ wf ≤ 13) (hwn : 0 ≤ wn ∧ wn ≤ 96) (hwc : 0 ≤ wc ∧ wc ≤ 6) (hwm : 0 ≤ wm ∧ wm ≤ 4) (hws : 0 ≤ ws ∧ ws ≤ 6) (hwi : 0 ≤ wi ∧ wi ≤ 8) (hba : ∀ i, -128 ≤ ba i ∧ ba i ≤ 127) (hxe : ∀ i, 0 ≤ xe i ∧ xe i ≤ 12) {F s q kk : Int} (p0 : p_CF ba qn wo wf wn wc wm ws wi wl xa xb xc xd xe xf xg xh (F)) (p1 : p_CU ba qk qs qq qn qv (s)) (p2 : kk = qk) (p3 : q = qq) (c0 : 0 ≤ F + (-1) * s + (-5120)) (c1 : 0 ≤ s + (-1) * F + 5120) (c2 : 0 ≤ kk) (c3 : 0 ≤ (-1) * kk) (c4 : 0 ≤ s) (c5 : 0 ≤ (-1) * s + 900) : p_WD ba qn wo wf wn wc wm ws wi wl xa xb xc xd xe xf xg xh (0) := by
  obtain ⟨st, s1, r1, r2, np, W, pk, cf, w1, w2, w3, w4, w5, w6, w7, of, pn⟩ := p0
  unfold m_pk at pk
  obtain rfl : s1 = s := by omega
  obtain rfl : st = 5 := by omega
  obtain ⟨uA, u0, u1, u2, u3⟩ := p1
  have AT := m_cf_a cf (by decide)
  rw [show m_stp ba qn (5, s1, r1, r2, np, W) = m_prt ba qn s1 W from rfl] at AT
  unfold m_prt at AT
  rw [if_pos (by omega)] at AT
  exact ⟨W, AT, w1, w2, w3, w4, w5, w6, w7, fun _ => of (by decide)⟩
theorem k_br {bb : Int → Int} (hbb : ∀ i, -128 ≤ bb i ∧ bb i ≤ 127) {i z : Int} (zbb : 0 ≤ i - 0 → i - 0 < 900 → bb (i - 0) = z) (c0 : 0 ≤ i) (c1 : 0 ≤ (-1) * i + 899) (c2 : 0 ≤ z + 128) (c3 : 0 ≤ (-1) * z + 127) : p_BR bb (256 * i + z + 128) := by
  have h2 := zbb (by omega) (by omega)
  rw [show i - 0 = i by omega] at h2
  exact ⟨z, i, by omega, by omega, by omega, by omega, by omega, h2⟩
theorem k_lk1 {rn : Int} {bb : Int → Int} (hrn : 0 ≤ rn ∧ rn ≤ 900) (hbb : ∀ i, -128 ≤ bb i ∧ bb i ≤ 127) {z c r i n : Int} (i6 : c = 255 → r = z % 256) (p0 : p_BR bb (256 * i + z + 128)) (p1 : n = rn) (c0 : 0 ≤ c + (-255)) (c1 : 0 ≤ (-1) * c + 255) (c2 : 0 ≤ i) (c3 : 0 ≤ n + (-1) * i + (-1)) (c4 : 0 ≤ r) (c5 : 0 ≤ (-1) * r + 255) (c6 : 0 ≤ z + 128) (c7 : 0 ≤ (-1) * z + 127) : p_LK bb rn (256 * i + r) := by
  obtain ⟨z1, i1, e, a1, a2, a3, a4, h⟩ := p0
  obtain ⟨rfl, rfl⟩ : z1 = z ∧ i1 = i := by omega
  refine ⟨i1, r, by omega, by omega, by omega, by omega, ?_⟩
  rw [if_pos (by omega), h]
  exact i6 (by omega)
theorem k_lk0 {rn : Int} {bb : Int → Int} (hrn : 0 ≤ rn ∧ rn ≤ 900) (hbb : ∀ i, -128 ≤ bb i ∧ bb i ≤ 127) {r i n : Int} (p0 : n = rn) (c0 : 0 ≤ r) (c1 : 0 ≤ (-1) * r) (c2 : 0 ≤ i + (-1) * n) (c3 : 0 ≤ i) : p_LK bb rn (256 * i + r) := by
  refine ⟨i, r, by omega, by omega, by omega, by omega, ?_⟩
  rw [if_neg (by omega)]
  omega
theorem k_sk0r {rn : Int} {bb : Int → Int} (hrn : 0 ≤ rn ∧ rn ≤ 900) (hbb : ∀ i, -128 ≤ bb i ∧ bb i ≤ 127) {q : Int} (c0 : 0 ≤ q) (c1 : 0 ≤ (-1) * q + 900) : p_SKR bb rn (1025 * q) := by
  exact ⟨q, q, by omega, by omega, by omega, by omega, by omega, Or.inl rfl, fun i a b => by omega⟩
theorem k_sk1r {rn : Int} {bb : Int → Int} (hrn : 0 ≤ rn ∧ rn ≤ 900) (hbb : ∀ i, -128 ≤ bb i ∧ bb i ≤ 127) {F G q : Int} (p0 : p_SKR bb rn (F)) (p1 : p_LK bb rn (G)) (c0 : 0 ≤ F + (-1024) * q) (c1 : 0 ≤ 1024 * q + (-1) * F + 1023) (c2 : 0 ≤ G + (-256) * q + (-10)) (c3 : 0 ≤ 256 * q + (-1) * G + 10) (c4 : 0 ≤ q) (c5 : 0 ≤ (-1) * q + 900) : p_SKR bb rn (F + 1024) := by
  obtain ⟨e1, q1, x1, s1, s2, s3, s4, s5, s6⟩ := p0
  obtain rfl : q1 = q := by omega
  obtain ⟨jx, rx, ex, jax, rax, rbx, hx⟩ := p1
  have wx : jx = q1 := by omega
  rw [wx] at hx
  obtain ⟨hn, hb⟩ := m_lk_i hx (by omega)
  have hr := hbb (q1)
  refine ⟨e1, q1 + 1, by omega, by omega, by omega, by omega, by omega, Or.inr (by omega), fun i a b => ?_⟩
  by_cases k : i = q1
  · rw [k, m_bl_t]; omega
  · exact s6 i a (by omega)
theorem k_sk2r {rn : Int} {bb : Int → Int} (hrn : 0 ≤ rn ∧ rn ≤ 900) (hbb : ∀ i, -128 ≤ bb i ∧ bb i ≤ 127) {F G q : Int} (p0 : p_SKR bb rn (F)) (p1 : p_LK bb rn (G)) (c0 : 0 ≤ F + (-1024) * q) (c1 : 0 ≤ 1024 * q + (-1) * F + 1023) (c2 : 0 ≤ G + (-256) * q + (-32)) (c3 : 0 ≤ 256 * q + (-1) * G + 32) (c4 : 0 ≤ q) (c5 : 0 ≤ (-1) * q + 900) : p_SKR bb rn (F + 1024) := by
  obtain ⟨e1, q1, x1, s1, s2, s3, s4, s5, s6⟩ := p0
  obtain rfl : q1 = q := by omega
  obtain ⟨jx, rx, ex, jax, rax, rbx, hx⟩ := p1
  have wx : jx = q1 := by omega
  rw [wx] at hx
  obtain ⟨hn, hb⟩ := m_lk_i hx (by omega)
  have hr := hbb (q1)
  refine ⟨e1, q1 + 1, by omega, by omega, by omega, by omega, by omega, Or.inr (by omega), fun i a b => ?_⟩
  by_cases k : i = q1
  · rw [k, m_bl_t]; omega
  · exact s6 i a (by omega)
theorem k_mvk {rn : Int} {bb : Int → Int} (hrn : 0 ≤ rn ∧ rn ≤ 900) (hbb : ∀ i, -128 ≤ bb i ∧ bb i ≤ 127) {G : Int} (p0 : p_LK bb rn (G)) : p_LKB bb rn (G) := by
  exact p0
theorem k_lkq1 {rn : Int} {bb : Int → Int} (hrn : 0 ≤ rn ∧ rn ≤ 900) (hbb : ∀ i, -128 ≤ bb i ∧ bb i ≤ 127) {F G q : Int} (p0 : p_LKB bb rn (F)) (p1 : p_LK bb rn (G)) (c0 : 0 ≤ F + (-256) * q) (c1 : 0 ≤ 256 * q + (-1) * F + 255) (c2 : 0 ≤ G + (-256) * q) (c3 : 0 ≤ 256 * q + (-1) * G + 255) : 0 ≤ F + (-1) * G := by
  obtain ⟨jx, rx, ex, jax, rax, rbx, hx⟩ := p0
  have wx : jx = q := by omega
  rw [wx] at hx
  obtain ⟨jy, ry, ey, jay, ray, rby, hy⟩ := p1
  have wy : jy = q := by omega
  rw [wy] at hy
  rw [← hx] at hy
  omega
theorem k_lkq2 {rn : Int} {bb : Int → Int} (hrn : 0 ≤ rn ∧ rn ≤ 900) (hbb : ∀ i, -128 ≤ bb i ∧ bb i ≤ 127) {F G q : Int} (p0 : p_LKB bb rn (F)) (p1 : p_LK bb rn (G)) (c0 : 0 ≤ F + (-256) * q) (c1 : 0 ≤ 256 * q + (-1) * F + 255) (c2 : 0 ≤ G + (-256) * q) (c3 : 0 ≤ 256 * q + (-1) * G + 255) : 0 ≤ G + (-1) * F := by
  obtain ⟨jx, rx, ex, jax, rax, rbx, hx⟩ := p0
  have wx : jx = q := by omega
  rw [wx] at hx
  obtain ⟨jy, ry, ey, jay, ray, rby, hy⟩ := p1
  have wy : jy = q := by omega
  rw [wy] at hy
  rw [← hx] at hy
  omega
theorem k_nxer {rn : Int} {bb : Int → Int} (hrn : 0 ≤ rn ∧ rn ≤ 900) (hbb : ∀ i, -128 ≤ bb i ∧ bb i ≤ 127) {F q n : Int} (p0 : p_SKR bb rn (F)) (p1 : n = rn) (c0 : 0 ≤ F + (-1024) * q) (c1 : 0 ≤ 1024 * q + (-1) * F + 1023) (c2 : 0 ≤ q + (-1) * n) (c3 : 0 ≤ q) : p_NXR bb rn (F) := by
  obtain ⟨e1, q1, x1, s1, s2, s3, s4, s5, s6⟩ := p0
  obtain rfl : q1 = q := by omega
  exact ⟨e1, q1, x1, s1, s2, s3, s1, m_sk_run hrn.2 s1 s4 s5 s6 (Or.inl (by omega))⟩
theorem k_nxar {rn : Int} {bb : Int → Int} (hrn : 0 ≤ rn ∧ rn ≤ 900) (hbb : ∀ i, -128 ≤ bb i ∧ bb i ≤ 127) {F G q n : Int} (p0 : p_SKR bb rn (F)) (p1 : p_LK bb rn (G)) (p2 : n = rn) (c0 : 0 ≤ F + (-1024) * q) (c1 : 0 ≤ 1024 * q + (-1) * F + 1023) (c2 : 0 ≤ G + (-256) * q) (c3 : 0 ≤ 256 * q + (-1) * G + 9) (c4 : 0 ≤ n + (-1) * q + (-1)) (c5 : 0 ≤ q) : p_NXR bb rn (F) := by
  obtain ⟨e1, q1, x1, s1, s2, s3, s4, s5, s6⟩ := p0
  obtain rfl : q1 = q := by omega
  obtain ⟨jx, rx, ex, jax, rax, rbx, hx⟩ := p1
  have wx : jx = q1 := by omega
  rw [wx] at hx
  rw [if_pos (by omega)] at hx
  have hr := hbb (q1)
  exact ⟨e1, q1, x1, s1, s2, s3, s1, m_sk_run hrn.2 s1 s4 s5 s6 (Or.inr (by rw [m_ntz m_bl_t]; omega))⟩
theorem k_nxbr {rn : Int} {bb : Int → Int} (hrn : 0 ≤ rn ∧ rn ≤ 900) (hbb : ∀ i, -128 ≤ bb i ∧ bb i ≤ 127) {F G q n : Int} (p0 : p_SKR bb rn (F)) (p1 : p_LK bb rn (G)) (p2 : n = rn) (c0 : 0 ≤ F + (-1024) * q) (c1 : 0 ≤ 1024 * q + (-1) * F + 1023) (c2 : 0 ≤ G + (-256) * q + (-11)) (c3 : 0 ≤ 256 * q + (-1) * G + 31) (c4 : 0 ≤ n + (-1) * q + (-1)) (c5 : 0 ≤ q) : p_NXR bb rn (F) := by
  obtain ⟨e1, q1, x1, s1, s2, s3, s4, s5, s6⟩ := p0
  obtain rfl : q1 = q := by omega
  obtain ⟨jx, rx, ex, jax, rax, rbx, hx⟩ := p1
  have wx : jx = q1 := by omega
  rw [wx] at hx
  rw [if_pos (by omega)] at hx
  have hr := hbb (q1)
  exact ⟨e1, q1, x1, s1, s2, s3, s1, m_sk_run hrn.2 s1 s4 s5 s6 (Or.inr (by rw [m_ntz m_bl_t]; omega))⟩
theorem k_nxcr {rn : Int} {bb : Int → Int} (hrn : 0 ≤ rn ∧ rn ≤ 900) (hbb : ∀ i, -128 ≤ bb i ∧ bb i ≤ 127) {F G q n : Int} (p0 : p_SKR bb rn (F)) (p1 : p_LK bb rn (G)) (p2 : n = rn) (c0 : 0 ≤ F + (-1024) * q) (c1 : 0 ≤ 1024 * q + (-1) * F + 1023) (c2 : 0 ≤ G + (-256) * q + (-33)) (c3 : 0 ≤ 256 * q + (-1) * G + 255) (c4 : 0 ≤ n + (-1) * q + (-1)) (c5 : 0 ≤ q) : p_NXR bb rn (F) := by
  obtain ⟨e1, q1, x1, s1, s2, s3, s4, s5, s6⟩ := p0
  obtain rfl : q1 = q := by omega
  obtain ⟨jx, rx, ex, jax, rax, rbx, hx⟩ := p1
  have wx : jx = q1 := by omega
  rw [wx] at hx
  rw [if_pos (by omega)] at hx
  have hr := hbb (q1)
  exact ⟨e1, q1, x1, s1, s2, s3, s1, m_sk_run hrn.2 s1 s4 s5 s6 (Or.inr (by rw [m_ntz m_bl_t]; omega))⟩
theorem k_tker {rn : Int} {rk : Int} {rq : Int} {rv : Int} {rl : Int} {bb : Int → Int} (hrn : 0 ≤ rn ∧ rn ≤ 900) (hrk : 0 ≤ rk ∧ rk ≤ 4) (hrq : 0 ≤ rq ∧ rq ≤ 900) (hbb : ∀ i, -128 ≤ bb i ∧ bb i ≤ 127) {q s n kk : Int} (p0 : kk = rk) (p1 : q = rq) (p2 : n = rn) (c0 : 0 ≤ q + (-1) * s) (c1 : 0 ≤ s + (-1) * q) (c2 : 0 ≤ s + (-1) * n) (c3 : 0 ≤ s) (c4 : 0 ≤ kk) (c5 : 0 ≤ (-1) * kk) : p_TKR bb rn rk rq rv rl (s) := by
  obtain ⟨t1, t2⟩ := m_te_end (b := bb) (n := rn) (s := s) (by omega)
  exact ⟨by omega, by omega, by omega, by omega, by omega, by omega, by omega, fun k => by omega, fun k => by omega, fun k => by omega⟩
theorem k_cur {rn : Int} {rk : Int} {rs : Int} {rq : Int} {rv : Int} {rl : Int} {bb : Int → Int} (hrn : 0 ≤ rn ∧ rn ≤ 900) (hrk : 0 ≤ rk ∧ rk ≤ 4) (hrs : 0 ≤ rs ∧ rs ≤ 900) (hrq : 0 ≤ rq ∧ rq ≤ 900) (hbb : ∀ i, -128 ≤ bb i ∧ bb i ≤ 127) {s : Int} (p0 : p_TKR bb rn rk rq rv rl (s)) (p1 : s = rs) (c0 : 0 ≤ s) : p_CUR bb rn rk rs rq rv rl (s) := by
  exact ⟨p1.symm, p0⟩
theorem k_le0r {rn : Int} {bb : Int → Int} (hrn : 0 ≤ rn ∧ rn ≤ 900) (hbb : ∀ i, -128 ≤ bb i ∧ bb i ≤ 127) {q G w n : Int} (p0 : p_LK bb rn (G)) (p1 : n = rn) (c0 : 0 ≤ G + (-256) * q + (-97)) (c1 : 0 ≤ 256 * q + (-1) * G + 122) (c2 : 0 ≤ n + (-1) * q + (-1)) (c3 : 0 ≤ q) (c4 : 0 ≤ w) (c5 : 0 ≤ (-1) * w) : p_LER bb rn (1025 * q + 1048576) := by
  obtain ⟨jx, rx, ex, jax, rax, rbx, hx⟩ := p0
  have wx : jx = q := by omega
  rw [wx] at hx
  obtain ⟨hn, hb⟩ := m_lk_i hx (by omega)
  have hr := hbb (q)
  have g : m_le (bb q) = true := by rw [m_le_t]; omega
  refine ⟨q, q, 0, by omega, by omega, by omega, by omega, by omega, by omega, by omega, g, fun i a b => by omega, ?_⟩
  rw [if_pos (by omega), show (q - q).toNat = 0 by omega]
  rfl
theorem k_leb1 {rn : Int} {bb : Int → Int} (hrn : 0 ≤ rn ∧ rn ≤ 900) (hbb : ∀ i, -128 ≤ bb i ∧ bb i ≤ 127) {F q w s : Int} (p0 : p_LER bb rn (F)) (c0 : 0 ≤ F + (-1024) * q + (-1048576) * w + (-1048576)) (c1 : 0 ≤ (-1) * F + 1024 * q + 1048576 * w + 1049599) (c2 : 0 ≤ F + (-1024) * q + (-1048576) * w + (-1) * s + (-1048576)) (c3 : 0 ≤ s + 1024 * q + 1048576 * w + (-1) * F + 1048576) (c4 : 0 ≤ (-1) * q + s + 7) (c5 : 0 ≤ q) (c6 : 0 ≤ (-1) * q + 900) : 0 ≤ (-1) * w + 34359738367 := by
  obtain ⟨s1, q1, w1, x1, sa, sb, sc, sd, se, sf, sg, sh, wh⟩ := p0
  obtain rfl : q1 = q := by omega
  obtain rfl : w1 = w := by omega
  rw [if_pos (by omega)] at wh
  obtain ⟨g1, g2⟩ := m_wc_bd (b := bb) (s := s1) (q1 - s1).toNat (fun i hi => sh _ (by omega) (by omega))
  have g3 := m_p32 (show (q1 - s1).toNat ≤ 7 by omega)
  rw [show (32 : Int) ^ 7 = 34359738368 by decide] at g3
  omega
theorem k_leb2 {rn : Int} {bb : Int → Int} (hrn : 0 ≤ rn ∧ rn ≤ 900) (hbb : ∀ i, -128 ≤ bb i ∧ bb i ≤ 127) {F q w s : Int} (p0 : p_LER bb rn (F)) (c0 : 0 ≤ F + (-1024) * q + (-1048576) * w + (-1048576)) (c1 : 0 ≤ (-1) * F + 1024 * q + 1048576 * w + 1049599) (c2 : 0 ≤ F + (-1024) * q + (-1048576) * w + (-1) * s + (-1048576)) (c3 : 0 ≤ s + 1024 * q + 1048576 * w + (-1) * F + 1048576) (c4 : 0 ≤ (-1) * q + s + 7) (c5 : 0 ≤ q) (c6 : 0 ≤ (-1) * q + 900) : 0 ≤ w := by
  obtain ⟨s1, q1, w1, x1, sa, sb, sc, sd, se, sf, sg, sh, wh⟩ := p0
  obtain rfl : q1 = q := by omega
  obtain rfl : w1 = w := by omega
  rw [if_pos (by omega)] at wh
  obtain ⟨g1, g2⟩ := m_wc_bd (b := bb) (s := s1) (q1 - s1).toNat (fun i hi => sh _ (by omega) (by omega))
  have g3 := m_p32 (show (q1 - s1).toNat ≤ 7 by omega)
  rw [show (32 : Int) ^ 7 = 34359738368 by decide] at g3
  omega
theorem k_le1r {rn : Int} {bb : Int → Int} (hrn : 0 ≤ rn ∧ rn ≤ 900) (hbb : ∀ i, -128 ≤ bb i ∧ bb i ≤ 127) {F G q w y s : Int} (p0 : p_LER bb rn (F)) (p1 : p_LK bb rn (G)) (c0 : 0 ≤ F + (-1024) * q + (-1048576) * w + (-1048576)) (c1 : 0 ≤ (-1) * F + 1024 * q + 1048576 * w + 1049599) (c2 : 0 ≤ F + (-1024) * q + (-1048576) * w + (-1) * s + (-1048576)) (c3 : 0 ≤ s + 1024 * q + 1048576 * w + (-1) * F + 1048576) (c4 : 0 ≤ (-1) * q + s + 7) (c5 : 0 ≤ q) (c6 : 0 ≤ (-1) * q + 900) (c7 : 0 ≤ G + (-256) * q + (-97)) (c8 : 0 ≤ 256 * q + (-1) * G + 122) (c9 : 0 ≤ y + (-32) * w + (-1) * G + 256 * q + 96) (c10 : 0 ≤ 32 * w + G + (-256) * q + (-1) * y + (-96)) : p_LER bb rn (F + 1048576 * y + (-1048576) * w + 1024) := by
  obtain ⟨s1, q1, w1, x1, sa, sb, sc, sd, se, sf, sg, sh, wh⟩ := p0
  obtain rfl : q1 = q := by omega
  obtain rfl : w1 = w := by omega
  obtain ⟨jx, rx, ex, jax, rax, rbx, hx⟩ := p1
  have wx : jx = q1 := by omega
  rw [wx] at hx
  obtain ⟨hn, hb⟩ := m_lk_i hx (by omega)
  have hr := hbb (q1)
  rw [if_pos (by omega)] at wh
  refine ⟨s1, q1 + 1, y, by omega, by omega, by omega, by omega, by omega, by omega, by omega, sg, fun i a b => ?_, ?_⟩
  · by_cases k : i = q1
    · rw [k, m_le_t]; omega
    · exact sh i a (by omega)
  · rw [if_pos (by omega), m_wc_s sc, ← wh]
    omega
theorem k_le2r {rn : Int} {bb : Int → Int} (hrn : 0 ≤ rn ∧ rn ≤ 900) (hbb : ∀ i, -128 ≤ bb i ∧ bb i ≤ 127) {F G q w y s : Int} (p0 : p_LER bb rn (F)) (p1 : p_LK bb rn (G)) (c0 : 0 ≤ F + (-1024) * q + (-1048576) * w + (-1048576)) (c1 : 0 ≤ (-1) * F + 1024 * q + 1048576 * w + 1049599) (c2 : 0 ≤ F + (-1024) * q + (-1048576) * w + (-1) * s + (-1048576)) (c3 : 0 ≤ s + 1024 * q + 1048576 * w + (-1) * F + 1048576) (c4 : 0 ≤ q + (-1) * s + (-8)) (c5 : 0 ≤ q) (c6 : 0 ≤ (-1) * q + 900) (c7 : 0 ≤ G + (-256) * q + (-97)) (c8 : 0 ≤ 256 * q + (-1) * G + 122) (c9 : 0 ≤ y + 1) (c10 : 0 ≤ (-1) * y + (-1)) : p_LER bb rn (F + 1048576 * y + (-1048576) * w + 1024) := by
  obtain ⟨s1, q1, w1, x1, sa, sb, sc, sd, se, sf, sg, sh, wh⟩ := p0
  obtain rfl : q1 = q := by omega
  obtain rfl : w1 = w := by omega
  obtain ⟨jx, rx, ex, jax, rax, rbx, hx⟩ := p1
  have wx : jx = q1 := by omega
  rw [wx] at hx
  obtain ⟨hn, hb⟩ := m_lk_i hx (by omega)
  have hr := hbb (q1)
  refine ⟨s1, q1 + 1, y, by omega, by omega, by omega, by omega, by omega, by omega, by omega, sg, fun i a b => ?_, ?_⟩
  · by_cases k : i = q1
    · rw [k, m_le_t]; omega
    · exact sh i a (by omega)
  · rw [if_neg (by omega)]
    omega
theorem k_tlar {rn : Int} {rk : Int} {rq : Int} {rv : Int} {rl : Int} {bb : Int → Int} (hrn : 0 ≤ rn ∧ rn ≤ 900) (hrk : 0 ≤ rk ∧ rk ≤ 4) (hrq : 0 ≤ rq ∧ rq ≤ 900) (hbb : ∀ i, -128 ≤ bb i ∧ bb i ≤ 127) {F G q w n kk l : Int} (p0 : p_LER bb rn (F)) (p1 : p_LK bb rn (G)) (p2 : l = rl) (p3 : kk = rk) (p4 : q = rq) (p5 : n = rn) (c0 : 0 ≤ F + (-1024) * q + (-1048576) * w + (-1048576)) (c1 : 0 ≤ (-1) * F + 1024 * q + 1048576 * w + 1049599) (c2 : 0 ≤ G + (-256) * q) (c3 : 0 ≤ 256 * q + (-1) * G + 96) (c4 : 0 ≤ q) (c5 : 0 ≤ kk + (-1)) (c6 : 0 ≤ (-1) * kk + 1) (c7 : 0 ≤ l + (-1025) * q + F + (-1048576) * w + (-1048576)) (c8 : 0 ≤ 1025 * q + (-1) * l + (-1) * F + 1048576 * w + 1048576) : p_TKR bb rn rk rq rv rl (F + (-1024) * q + (-1048576) * w + (-1048576)) := by
  obtain ⟨s1, q1, w1, x1, sa, sb, sc, sd, se, sf, sg, sh, wh⟩ := p0
  obtain rfl : q1 = q := by omega
  obtain rfl : w1 = w := by omega
  obtain ⟨jx, rx, ex, jax, rax, rbx, hx⟩ := p1
  have wx : jx = q1 := by omega
  rw [wx] at hx
  have EC : rn ≤ q1 ∨ m_le (bb q1) = false := by
    by_cases k : q1 < rn
    · rw [if_pos k] at hx
      have hr := hbb q1
      exact Or.inr (by rw [m_ntz m_le_t]; omega)
    · exact Or.inl (by omega)
  obtain ⟨t1, t2⟩ := m_te_let hrn.2 sa sd sg sc se sh EC
  obtain rfl : s1 = F + (-1024) * q1 + (-1048576) * w1 + (-1048576) := by omega
  exact ⟨by omega, by omega, by omega, by omega, by omega, by omega, by omega, fun k => by omega, fun k => by omega, fun k => by omega⟩
theorem k_wtlar {rn : Int} {rk : Int} {rq : Int} {bb : Int → Int} (hrn : 0 ≤ rn ∧ rn ≤ 900) (hrk : 0 ≤ rk ∧ rk ≤ 4) (hrq : 0 ≤ rq ∧ rq ≤ 900) (hbb : ∀ i, -128 ≤ bb i ∧ bb i ≤ 127) {F G q w n kk : Int} (p0 : p_LER bb rn (F)) (p1 : p_LK bb rn (G)) (p2 : kk = rk) (p3 : q = rq) (p4 : n = rn) (c0 : 0 ≤ F + (-1024) * q + (-1048576) * w + (-1048576)) (c1 : 0 ≤ (-1) * F + 1024 * q + 1048576 * w + 1049599) (c2 : 0 ≤ G + (-256) * q) (c3 : 0 ≤ 256 * q + (-1) * G + 96) (c4 : 0 ≤ q) (c5 : 0 ≤ kk + (-1)) (c6 : 0 ≤ (-1) * kk + 1) : p_WDR bb rn (F + (-1024) * q + (-1047552) * w + (-1047552)) := by
  obtain ⟨s1, q1, w1, x1, sa, sb, sc, sd, se, sf, sg, sh, wh⟩ := p0
  obtain rfl : q1 = q := by omega
  obtain rfl : w1 = w := by omega
  obtain ⟨jx, rx, ex, jax, rax, rbx, hx⟩ := p1
  have wx : jx = q1 := by omega
  rw [wx] at hx
  have EC : rn ≤ q1 ∨ m_le (bb q1) = false := by
    by_cases k : q1 < rn
    · rw [if_pos k] at hx
      have hr := hbb q1
      exact Or.inr (by rw [m_ntz m_le_t]; omega)
    · exact Or.inl (by omega)
  obtain ⟨t1, t2⟩ := m_te_let hrn.2 sa sd sg sc se sh EC
  refine ⟨s1, w1, by omega, by omega, by omega, fun _ => ?_⟩
  unfold m_cd
  rw [t1]
  exact wh
theorem k_tlbr {rn : Int} {rk : Int} {rq : Int} {rv : Int} {rl : Int} {bb : Int → Int} (hrn : 0 ≤ rn ∧ rn ≤ 900) (hrk : 0 ≤ rk ∧ rk ≤ 4) (hrq : 0 ≤ rq ∧ rq ≤ 900) (hbb : ∀ i, -128 ≤ bb i ∧ bb i ≤ 127) {F G q w n kk l : Int} (p0 : p_LER bb rn (F)) (p1 : p_LK bb rn (G)) (p2 : l = rl) (p3 : kk = rk) (p4 : q = rq) (p5 : n = rn) (c0 : 0 ≤ F + (-1024) * q + (-1048576) * w + (-1048576)) (c1 : 0 ≤ (-1) * F + 1024 * q + 1048576 * w + 1049599) (c2 : 0 ≤ G + (-256) * q + (-123)) (c3 : 0 ≤ 256 * q + (-1) * G + 255) (c4 : 0 ≤ q) (c5 : 0 ≤ kk + (-1)) (c6 : 0 ≤ (-1) * kk + 1) (c7 : 0 ≤ l + (-1025) * q + F + (-1048576) * w + (-1048576)) (c8 : 0 ≤ 1025 * q + (-1) * l + (-1) * F + 1048576 * w + 1048576) : p_TKR bb rn rk rq rv rl (F + (-1024) * q + (-1048576) * w + (-1048576)) := by
  obtain ⟨s1, q1, w1, x1, sa, sb, sc, sd, se, sf, sg, sh, wh⟩ := p0
  obtain rfl : q1 = q := by omega
  obtain rfl : w1 = w := by omega
  obtain ⟨jx, rx, ex, jax, rax, rbx, hx⟩ := p1
  have wx : jx = q1 := by omega
  rw [wx] at hx
  have EC : rn ≤ q1 ∨ m_le (bb q1) = false := by
    by_cases k : q1 < rn
    · rw [if_pos k] at hx
      have hr := hbb q1
      exact Or.inr (by rw [m_ntz m_le_t]; omega)
    · exact Or.inl (by omega)
  obtain ⟨t1, t2⟩ := m_te_let hrn.2 sa sd sg sc se sh EC
  obtain rfl : s1 = F + (-1024) * q1 + (-1048576) * w1 + (-1048576) := by omega
  exact ⟨by omega, by omega, by omega, by omega, by omega, by omega, by omega, fun k => by omega, fun k => by omega, fun k => by omega⟩
theorem k_wtlbr {rn : Int} {rk : Int} {rq : Int} {bb : Int → Int} (hrn : 0 ≤ rn ∧ rn ≤ 900) (hrk : 0 ≤ rk ∧ rk ≤ 4) (hrq : 0 ≤ rq ∧ rq ≤ 900) (hbb : ∀ i, -128 ≤ bb i ∧ bb i ≤ 127) {F G q w n kk : Int} (p0 : p_LER bb rn (F)) (p1 : p_LK bb rn (G)) (p2 : kk = rk) (p3 : q = rq) (p4 : n = rn) (c0 : 0 ≤ F + (-1024) * q + (-1048576) * w + (-1048576)) (c1 : 0 ≤ (-1) * F + 1024 * q + 1048576 * w + 1049599) (c2 : 0 ≤ G + (-256) * q + (-123)) (c3 : 0 ≤ 256 * q + (-1) * G + 255) (c4 : 0 ≤ q) (c5 : 0 ≤ kk + (-1)) (c6 : 0 ≤ (-1) * kk + 1) : p_WDR bb rn (F + (-1024) * q + (-1047552) * w + (-1047552)) := by
  obtain ⟨s1, q1, w1, x1, sa, sb, sc, sd, se, sf, sg, sh, wh⟩ := p0
  obtain rfl : q1 = q := by omega
  obtain rfl : w1 = w := by omega
  obtain ⟨jx, rx, ex, jax, rax, rbx, hx⟩ := p1
  have wx : jx = q1 := by omega
  rw [wx] at hx
  have EC : rn ≤ q1 ∨ m_le (bb q1) = false := by
    by_cases k : q1 < rn
    · rw [if_pos k] at hx
      have hr := hbb q1
      exact Or.inr (by rw [m_ntz m_le_t]; omega)
    · exact Or.inl (by omega)
  obtain ⟨t1, t2⟩ := m_te_let hrn.2 sa sd sg sc se sh EC
  refine ⟨s1, w1, by omega, by omega, by omega, fun _ => ?_⟩
  unfold m_cd
  rw [t1]
  exact wh
theorem k_dg0r {rn : Int} {bb : Int → Int} (hrn : 0 ≤ rn ∧ rn ≤ 900) (hbb : ∀ i, -128 ≤ bb i ∧ bb i ≤ 127) {q G v n : Int} (p0 : p_LK bb rn (G)) (p1 : n = rn) (c0 : 0 ≤ G + (-256) * q + (-48)) (c1 : 0 ≤ 256 * q + (-1) * G + 57) (c2 : 0 ≤ n + (-1) * q + (-1)) (c3 : 0 ≤ q) (c4 : 0 ≤ v) (c5 : 0 ≤ (-1) * v) : p_DGR bb rn (1025 * q) := by
  obtain ⟨jx, rx, ex, jax, rax, rbx, hx⟩ := p0
  have wx : jx = q := by omega
  rw [wx] at hx
  obtain ⟨hn, hb⟩ := m_lk_i hx (by omega)
  have hr := hbb (q)
  have g : m_di (bb q) = true := by rw [m_di_t]; omega
  refine ⟨q, q, 0, by omega, by omega, by omega, by omega, by omega, by omega, by omega, by omega, g, fun i a b => by omega, ?_⟩
  rw [if_pos (by omega), show (q - q).toNat = 0 by omega]
  rfl
theorem k_dgb1 {rn : Int} {bb : Int → Int} (hrn : 0 ≤ rn ∧ rn ≤ 900) (hbb : ∀ i, -128 ≤ bb i ∧ bb i ≤ 127) {F q v s : Int} (p0 : p_DGR bb rn (F)) (c0 : 0 ≤ F + (-1024) * q + (-1048576) * v) (c1 : 0 ≤ (-1) * F + 1024 * q + 1048576 * v + 1023) (c2 : 0 ≤ F + (-1024) * q + (-1048576) * v + (-1) * s) (c3 : 0 ≤ s + (-1) * F + 1024 * q + 1048576 * v) (c4 : 0 ≤ (-1) * q + s + 3) (c5 : 0 ≤ q) (c6 : 0 ≤ (-1) * q + 900) (c7 : 0 ≤ v) : 0 ≤ (-1) * v + 999 := by
  obtain ⟨s1, q1, v1, x1, va, sa, sb, sc, sd, se, sf, sg, sh, wh⟩ := p0
  obtain rfl : q1 = q := by omega
  obtain rfl : v1 = v := by omega
  rw [if_pos (by omega)] at wh
  obtain ⟨g1, g2⟩ := m_dv_bd (b := bb) (s := s1) (q1 - s1).toNat (fun i hi => sh _ (by omega) (by omega))
  have g3 := m_p10 (show (q1 - s1).toNat ≤ 3 by omega)
  omega
theorem k_dgb2 {rn : Int} {bb : Int → Int} (hrn : 0 ≤ rn ∧ rn ≤ 900) (hbb : ∀ i, -128 ≤ bb i ∧ bb i ≤ 127) {F q v s : Int} (p0 : p_DGR bb rn (F)) (c0 : 0 ≤ F + (-1024) * q + (-1048576) * v) (c1 : 0 ≤ (-1) * F + 1024 * q + 1048576 * v + 1023) (c2 : 0 ≤ F + (-1024) * q + (-1048576) * v + (-1) * s) (c3 : 0 ≤ s + (-1) * F + 1024 * q + 1048576 * v) (c4 : 0 ≤ (-1) * q + s + 3) (c5 : 0 ≤ q) (c6 : 0 ≤ (-1) * q + 900) (c7 : 0 ≤ v + 1000000) : 0 ≤ v := by
  obtain ⟨s1, q1, v1, x1, va, sa, sb, sc, sd, se, sf, sg, sh, wh⟩ := p0
  obtain rfl : q1 = q := by omega
  obtain rfl : v1 = v := by omega
  exact va
theorem k_dg1r {rn : Int} {bb : Int → Int} (hrn : 0 ≤ rn ∧ rn ≤ 900) (hbb : ∀ i, -128 ≤ bb i ∧ bb i ≤ 127) {F G q v y s : Int} (p0 : p_DGR bb rn (F)) (p1 : p_LK bb rn (G)) (c0 : 0 ≤ F + (-1024) * q + (-1048576) * v) (c1 : 0 ≤ (-1) * F + 1024 * q + 1048576 * v + 1023) (c2 : 0 ≤ v) (c3 : 0 ≤ F + (-1024) * q + (-1048576) * v + (-1) * s) (c4 : 0 ≤ s + (-1) * F + 1024 * q + 1048576 * v) (c5 : 0 ≤ (-1) * q + s + 3) (c6 : 0 ≤ q) (c7 : 0 ≤ (-1) * q + 900) (c8 : 0 ≤ G + (-256) * q + (-48)) (c9 : 0 ≤ 256 * q + (-1) * G + 57) (c10 : 0 ≤ y + (-10) * v + (-1) * G + 256 * q + 48) (c11 : 0 ≤ 10 * v + G + (-256) * q + (-1) * y + (-48)) : p_DGR bb rn (F + 1048576 * y + (-1048576) * v + 1024) := by
  obtain ⟨s1, q1, v1, x1, va, sa, sb, sc, sd, se, sf, sg, sh, wh⟩ := p0
  obtain rfl : q1 = q := by omega
  obtain rfl : v1 = v := by omega
  obtain ⟨jx, rx, ex, jax, rax, rbx, hx⟩ := p1
  have wx : jx = q1 := by omega
  rw [wx] at hx
  obtain ⟨hn, hb⟩ := m_lk_i hx (by omega)
  have hr := hbb (q1)
  rw [if_pos (by omega)] at wh
  refine ⟨s1, q1 + 1, y, by omega, by omega, by omega, by omega, by omega, by omega, by omega, by omega, sg, fun i a b => ?_, ?_⟩
  · by_cases k : i = q1
    · rw [k, m_di_t]; omega
    · exact sh i a (by omega)
  · rw [if_pos (by omega), m_dv_s sc, ← wh]
    omega
theorem k_dg3r {rn : Int} {bb : Int → Int} (hrn : 0 ≤ rn ∧ rn ≤ 900) (hbb : ∀ i, -128 ≤ bb i ∧ bb i ≤ 127) {F G q v s : Int} (p0 : p_DGR bb rn (F)) (p1 : p_LK bb rn (G)) (c0 : 0 ≤ F + (-1024) * q + (-1048576) * v) (c1 : 0 ≤ (-1) * F + 1024 * q + 1048576 * v + 1023) (c2 : 0 ≤ v) (c3 : 0 ≤ F + (-1024) * q + (-1048576) * v + (-1) * s) (c4 : 0 ≤ s + (-1) * F + 1024 * q + 1048576 * v) (c5 : 0 ≤ q + (-1) * s + (-4)) (c6 : 0 ≤ q) (c7 : 0 ≤ (-1) * q + 900) (c8 : 0 ≤ G + (-256) * q + (-48)) (c9 : 0 ≤ 256 * q + (-1) * G + 57) : p_DGR bb rn (F + 1024) := by
  obtain ⟨s1, q1, v1, x1, va, sa, sb, sc, sd, se, sf, sg, sh, wh⟩ := p0
  obtain rfl : q1 = q := by omega
  obtain rfl : v1 = v := by omega
  obtain ⟨jx, rx, ex, jax, rax, rbx, hx⟩ := p1
  have wx : jx = q1 := by omega
  rw [wx] at hx
  obtain ⟨hn, hb⟩ := m_lk_i hx (by omega)
  have hr := hbb (q1)
  refine ⟨s1, q1 + 1, v1, by omega, by omega, by omega, by omega, by omega, by omega, by omega, by omega, sg, fun i a b => ?_, ?_⟩
  · by_cases k : i = q1
    · rw [k, m_di_t]; omega
    · exact sh i a (by omega)
  · rw [if_neg (by omega)]
    by_cases k : q1 - s1 ≤ 4
    · rw [if_pos k, show q1 - s1 = 4 by omega] at wh
      exact wh
    · rw [if_neg k] at wh
      exact wh
theorem k_tdr2a {rn : Int} {rk : Int} {rq : Int} {rv : Int} {rl : Int} {bb : Int → Int} (hrn : 0 ≤ rn ∧ rn ≤ 900) (hrk : 0 ≤ rk ∧ rk ≤ 4) (hrq : 0 ≤ rq ∧ rq ≤ 900) (hbb : ∀ i, -128 ≤ bb i ∧ bb i ≤ 127) {F G q n kk v s : Int} (p0 : p_DGR bb rn (F)) (p1 : p_LK bb rn (G)) (p2 : kk = rk) (p3 : q = rq) (p4 : n = rn) (p5 : v = rv) (c0 : 0 ≤ F + (-1024) * q + (-1048576) * v) (c1 : 0 ≤ (-1) * F + 1024 * q + 1048576 * v + 1023) (c2 : 0 ≤ v) (c3 : 0 ≤ F + (-1024) * q + (-1048576) * v + (-1) * s) (c4 : 0 ≤ s + (-1) * F + 1024 * q + 1048576 * v) (c5 : 0 ≤ G + (-256) * q) (c6 : 0 ≤ 256 * q + (-1) * G + 47) (c7 : 0 ≤ q) (c8 : 0 ≤ kk + (-2)) (c9 : 0 ≤ (-1) * kk + 2) (c10 : 0 ≤ (-1) * q + s + 4) : p_TKR bb rn rk rq rv rl (s) := by
  obtain ⟨s1, q1, v1, x1, va, sa, sb, sc, sd, se, sf, sg, sh, wh⟩ := p0
  obtain rfl : q1 = q := by omega
  obtain rfl : v1 = v := by omega
  obtain ⟨jx, rx, ex, jax, rax, rbx, hx⟩ := p1
  have wx : jx = q1 := by omega
  rw [wx] at hx
  have EC : rn ≤ q1 ∨ m_di (bb q1) = false := by
    by_cases k : q1 < rn
    · rw [if_pos k] at hx
      have hr := hbb q1
      exact Or.inr (by rw [m_ntz m_di_t]; omega)
    · exact Or.inl (by omega)
  obtain ⟨t1, t2⟩ := m_te_dig hrn.2 sa sd sg sc se sh EC
  obtain rfl : s1 = s := by omega
  rw [if_neg (by omega)] at t2
  rw [if_pos (by omega)] at wh
  exact ⟨by omega, by omega, by omega, by omega, by omega, by omega, by omega, fun k => by unfold m_tv; rw [t1, ← wh]; omega, fun k => by omega, fun k => by omega⟩
theorem k_tdr2b {rn : Int} {rk : Int} {rq : Int} {rv : Int} {rl : Int} {bb : Int → Int} (hrn : 0 ≤ rn ∧ rn ≤ 900) (hrk : 0 ≤ rk ∧ rk ≤ 4) (hrq : 0 ≤ rq ∧ rq ≤ 900) (hbb : ∀ i, -128 ≤ bb i ∧ bb i ≤ 127) {F G q n kk v s : Int} (p0 : p_DGR bb rn (F)) (p1 : p_LK bb rn (G)) (p2 : kk = rk) (p3 : q = rq) (p4 : n = rn) (p5 : v = rv) (c0 : 0 ≤ F + (-1024) * q + (-1048576) * v) (c1 : 0 ≤ (-1) * F + 1024 * q + 1048576 * v + 1023) (c2 : 0 ≤ v) (c3 : 0 ≤ F + (-1024) * q + (-1048576) * v + (-1) * s) (c4 : 0 ≤ s + (-1) * F + 1024 * q + 1048576 * v) (c5 : 0 ≤ G + (-256) * q + (-58)) (c6 : 0 ≤ 256 * q + (-1) * G + 255) (c7 : 0 ≤ q) (c8 : 0 ≤ kk + (-2)) (c9 : 0 ≤ (-1) * kk + 2) (c10 : 0 ≤ (-1) * q + s + 4) : p_TKR bb rn rk rq rv rl (s) := by
  obtain ⟨s1, q1, v1, x1, va, sa, sb, sc, sd, se, sf, sg, sh, wh⟩ := p0
  obtain rfl : q1 = q := by omega
  obtain rfl : v1 = v := by omega
  obtain ⟨jx, rx, ex, jax, rax, rbx, hx⟩ := p1
  have wx : jx = q1 := by omega
  rw [wx] at hx
  have EC : rn ≤ q1 ∨ m_di (bb q1) = false := by
    by_cases k : q1 < rn
    · rw [if_pos k] at hx
      have hr := hbb q1
      exact Or.inr (by rw [m_ntz m_di_t]; omega)
    · exact Or.inl (by omega)
  obtain ⟨t1, t2⟩ := m_te_dig hrn.2 sa sd sg sc se sh EC
  obtain rfl : s1 = s := by omega
  rw [if_neg (by omega)] at t2
  rw [if_pos (by omega)] at wh
  exact ⟨by omega, by omega, by omega, by omega, by omega, by omega, by omega, fun k => by unfold m_tv; rw [t1, ← wh]; omega, fun k => by omega, fun k => by omega⟩
theorem k_tdr4a {rn : Int} {rk : Int} {rq : Int} {rv : Int} {rl : Int} {bb : Int → Int} (hrn : 0 ≤ rn ∧ rn ≤ 900) (hrk : 0 ≤ rk ∧ rk ≤ 4) (hrq : 0 ≤ rq ∧ rq ≤ 900) (hbb : ∀ i, -128 ≤ bb i ∧ bb i ≤ 127) {F G q n kk v s : Int} (p0 : p_DGR bb rn (F)) (p1 : p_LK bb rn (G)) (p2 : kk = rk) (p3 : q = rq) (p4 : n = rn) (p5 : v = rv) (c0 : 0 ≤ F + (-1024) * q + (-1048576) * v) (c1 : 0 ≤ (-1) * F + 1024 * q + 1048576 * v + 1023) (c2 : 0 ≤ v) (c3 : 0 ≤ F + (-1024) * q + (-1048576) * v + (-1) * s) (c4 : 0 ≤ s + (-1) * F + 1024 * q + 1048576 * v) (c5 : 0 ≤ G + (-256) * q) (c6 : 0 ≤ 256 * q + (-1) * G + 47) (c7 : 0 ≤ q) (c8 : 0 ≤ kk + (-4)) (c9 : 0 ≤ (-1) * kk + 4) (c10 : 0 ≤ q + (-1) * s + (-5)) : p_TKR bb rn rk rq rv rl (s) := by
  obtain ⟨s1, q1, v1, x1, va, sa, sb, sc, sd, se, sf, sg, sh, wh⟩ := p0
  obtain rfl : q1 = q := by omega
  obtain rfl : v1 = v := by omega
  obtain ⟨jx, rx, ex, jax, rax, rbx, hx⟩ := p1
  have wx : jx = q1 := by omega
  rw [wx] at hx
  have EC : rn ≤ q1 ∨ m_di (bb q1) = false := by
    by_cases k : q1 < rn
    · rw [if_pos k] at hx
      have hr := hbb q1
      exact Or.inr (by rw [m_ntz m_di_t]; omega)
    · exact Or.inl (by omega)
  obtain ⟨t1, t2⟩ := m_te_dig hrn.2 sa sd sg sc se sh EC
  obtain rfl : s1 = s := by omega
  rw [if_pos (by omega)] at t2
  exact ⟨by omega, by omega, by omega, by omega, by omega, by omega, by omega, fun k => by omega, fun k => by omega, fun k => by omega⟩
theorem k_tdr4b {rn : Int} {rk : Int} {rq : Int} {rv : Int} {rl : Int} {bb : Int → Int} (hrn : 0 ≤ rn ∧ rn ≤ 900) (hrk : 0 ≤ rk ∧ rk ≤ 4) (hrq : 0 ≤ rq ∧ rq ≤ 900) (hbb : ∀ i, -128 ≤ bb i ∧ bb i ≤ 127) {F G q n kk v s : Int} (p0 : p_DGR bb rn (F)) (p1 : p_LK bb rn (G)) (p2 : kk = rk) (p3 : q = rq) (p4 : n = rn) (p5 : v = rv) (c0 : 0 ≤ F + (-1024) * q + (-1048576) * v) (c1 : 0 ≤ (-1) * F + 1024 * q + 1048576 * v + 1023) (c2 : 0 ≤ v) (c3 : 0 ≤ F + (-1024) * q + (-1048576) * v + (-1) * s) (c4 : 0 ≤ s + (-1) * F + 1024 * q + 1048576 * v) (c5 : 0 ≤ G + (-256) * q + (-58)) (c6 : 0 ≤ 256 * q + (-1) * G + 255) (c7 : 0 ≤ q) (c8 : 0 ≤ kk + (-4)) (c9 : 0 ≤ (-1) * kk + 4) (c10 : 0 ≤ q + (-1) * s + (-5)) : p_TKR bb rn rk rq rv rl (s) := by
  obtain ⟨s1, q1, v1, x1, va, sa, sb, sc, sd, se, sf, sg, sh, wh⟩ := p0
  obtain rfl : q1 = q := by omega
  obtain rfl : v1 = v := by omega
  obtain ⟨jx, rx, ex, jax, rax, rbx, hx⟩ := p1
  have wx : jx = q1 := by omega
  rw [wx] at hx
  have EC : rn ≤ q1 ∨ m_di (bb q1) = false := by
    by_cases k : q1 < rn
    · rw [if_pos k] at hx
      have hr := hbb q1
      exact Or.inr (by rw [m_ntz m_di_t]; omega)
    · exact Or.inl (by omega)
  obtain ⟨t1, t2⟩ := m_te_dig hrn.2 sa sd sg sc se sh EC
  obtain rfl : s1 = s := by omega
  rw [if_pos (by omega)] at t2
  exact ⟨by omega, by omega, by omega, by omega, by omega, by omega, by omega, fun k => by omega, fun k => by omega, fun k => by omega⟩
theorem k_trs4 {rn : Int} {rk : Int} {rq : Int} {rv : Int} {rl : Int} {bb : Int → Int} (hrn : 0 ≤ rn ∧ rn ≤ 900) (hrk : 0 ≤ rk ∧ rk ≤ 4) (hrq : 0 ≤ rq ∧ rq ≤ 900) (hbb : ∀ i, -128 ≤ bb i ∧ bb i ≤ 127) {G q n kk r : Int} (p0 : p_LK bb rn (G)) (p1 : kk = rk) (p2 : q = rq) (p3 : n = rn) (p4 : r = rv) (c0 : 0 ≤ G + (-256) * q + 197) (c1 : 0 ≤ 256 * q + (-1) * G + (-194)) (c2 : 0 ≤ q + (-1)) (c3 : 0 ≤ n + (-1) * q) (c4 : 0 ≤ kk + (-3)) (c5 : 0 ≤ (-1) * kk + 3) (c6 : 0 ≤ G + (-256) * q + (-1) * r + 256) (c7 : 0 ≤ 256 * q + r + (-1) * G + (-256)) : p_TKR bb rn rk rq rv rl (q + (-1)) := by
  obtain ⟨jx, rx, ex, jax, rax, rbx, hx⟩ := p0
  have wx : jx = q + (-1) := by omega
  rw [wx] at hx
  rw [if_pos (by omega)] at hx
  have hr := hbb (q + (-1))
  obtain ⟨t1, t2⟩ := m_te_oth (b := bb) (n := rn) (s := q + (-1)) (by omega) (by rw [m_le_t]; omega) (by rw [m_di_t]; omega)
  rw [if_pos (by rw [m_sg_t]; omega)] at t2
  exact ⟨by omega, by omega, by omega, by omega, by omega, by omega, by omega, fun k => by omega, fun k => by omega, fun k => by omega⟩
theorem k_trs1a {rn : Int} {rk : Int} {rq : Int} {rv : Int} {rl : Int} {bb : Int → Int} (hrn : 0 ≤ rn ∧ rn ≤ 900) (hrk : 0 ≤ rk ∧ rk ≤ 4) (hrq : 0 ≤ rq ∧ rq ≤ 900) (hbb : ∀ i, -128 ≤ bb i ∧ bb i ≤ 127) {G q n kk r : Int} (p0 : p_LK bb rn (G)) (p1 : kk = rk) (p2 : q = rq) (p3 : n = rn) (p4 : r = rv) (c0 : 0 ≤ G + (-256) * q + 256) (c1 : 0 ≤ 256 * q + (-1) * G + (-209)) (c2 : 0 ≤ q + (-1)) (c3 : 0 ≤ n + (-1) * q) (c4 : 0 ≤ kk + (-4)) (c5 : 0 ≤ (-1) * kk + 4) (c6 : 0 ≤ G + (-256) * q + (-1) * r + 256) (c7 : 0 ≤ 256 * q + r + (-1) * G + (-256)) : p_TKR bb rn rk rq rv rl (q + (-1)) := by
  obtain ⟨jx, rx, ex, jax, rax, rbx, hx⟩ := p0
  have wx : jx = q + (-1) := by omega
  rw [wx] at hx
  rw [if_pos (by omega)] at hx
  have hr := hbb (q + (-1))
  obtain ⟨t1, t2⟩ := m_te_oth (b := bb) (n := rn) (s := q + (-1)) (by omega) (by rw [m_le_t]; omega) (by rw [m_di_t]; omega)
  rw [if_neg (by rw [m_sg_t]; omega)] at t2
  exact ⟨by omega, by omega, by omega, by omega, by omega, by omega, by omega, fun k => by omega, fun k => by omega, fun k => by omega⟩
theorem k_trs1b {rn : Int} {rk : Int} {rq : Int} {rv : Int} {rl : Int} {bb : Int → Int} (hrn : 0 ≤ rn ∧ rn ≤ 900) (hrk : 0 ≤ rk ∧ rk ≤ 4) (hrq : 0 ≤ rq ∧ rq ≤ 900) (hbb : ∀ i, -128 ≤ bb i ∧ bb i ≤ 127) {G q n kk r : Int} (p0 : p_LK bb rn (G)) (p1 : kk = rk) (p2 : q = rq) (p3 : n = rn) (p4 : r = rv) (c0 : 0 ≤ G + (-256) * q + 198) (c1 : 0 ≤ 256 * q + (-1) * G + (-198)) (c2 : 0 ≤ q + (-1)) (c3 : 0 ≤ n + (-1) * q) (c4 : 0 ≤ kk + (-4)) (c5 : 0 ≤ (-1) * kk + 4) (c6 : 0 ≤ G + (-256) * q + (-1) * r + 256) (c7 : 0 ≤ 256 * q + r + (-1) * G + (-256)) : p_TKR bb rn rk rq rv rl (q + (-1)) := by
  obtain ⟨jx, rx, ex, jax, rax, rbx, hx⟩ := p0
  have wx : jx = q + (-1) := by omega
  rw [wx] at hx
  rw [if_pos (by omega)] at hx
  have hr := hbb (q + (-1))
  obtain ⟨t1, t2⟩ := m_te_oth (b := bb) (n := rn) (s := q + (-1)) (by omega) (by rw [m_le_t]; omega) (by rw [m_di_t]; omega)
  rw [if_neg (by rw [m_sg_t]; omega)] at t2
  exact ⟨by omega, by omega, by omega, by omega, by omega, by omega, by omega, fun k => by omega, fun k => by omega, fun k => by omega⟩
theorem k_trs1c {rn : Int} {rk : Int} {rq : Int} {rv : Int} {rl : Int} {bb : Int → Int} (hrn : 0 ≤ rn ∧ rn ≤ 900) (hrk : 0 ≤ rk ∧ rk ≤ 4) (hrq : 0 ≤ rq ∧ rq ≤ 900) (hbb : ∀ i, -128 ≤ bb i ∧ bb i ≤ 127) {G q n kk r : Int} (p0 : p_LK bb rn (G)) (p1 : kk = rk) (p2 : q = rq) (p3 : n = rn) (p4 : r = rv) (c0 : 0 ≤ G + (-256) * q + 193) (c1 : 0 ≤ 256 * q + (-1) * G + (-160)) (c2 : 0 ≤ q + (-1)) (c3 : 0 ≤ n + (-1) * q) (c4 : 0 ≤ kk + (-4)) (c5 : 0 ≤ (-1) * kk + 4) (c6 : 0 ≤ G + (-256) * q + (-1) * r + 256) (c7 : 0 ≤ 256 * q + r + (-1) * G + (-256)) : p_TKR bb rn rk rq rv rl (q + (-1)) := by
  obtain ⟨jx, rx, ex, jax, rax, rbx, hx⟩ := p0
  have wx : jx = q + (-1) := by omega
  rw [wx] at hx
  rw [if_pos (by omega)] at hx
  have hr := hbb (q + (-1))
  obtain ⟨t1, t2⟩ := m_te_oth (b := bb) (n := rn) (s := q + (-1)) (by omega) (by rw [m_le_t]; omega) (by rw [m_di_t]; omega)
  rw [if_neg (by rw [m_sg_t]; omega)] at t2
  exact ⟨by omega, by omega, by omega, by omega, by omega, by omega, by omega, fun k => by omega, fun k => by omega, fun k => by omega⟩
theorem k_trs1d {rn : Int} {rk : Int} {rq : Int} {rv : Int} {rl : Int} {bb : Int → Int} (hrn : 0 ≤ rn ∧ rn ≤ 900) (hrk : 0 ≤ rk ∧ rk ≤ 4) (hrq : 0 ≤ rq ∧ rq ≤ 900) (hbb : ∀ i, -128 ≤ bb i ∧ bb i ≤ 127) {G q n kk r : Int} (p0 : p_LK bb rn (G)) (p1 : kk = rk) (p2 : q = rq) (p3 : n = rn) (p4 : r = rv) (c0 : 0 ≤ G + (-256) * q + 133) (c1 : 0 ≤ 256 * q + (-1) * G + (-1)) (c2 : 0 ≤ q + (-1)) (c3 : 0 ≤ n + (-1) * q) (c4 : 0 ≤ kk + (-4)) (c5 : 0 ≤ (-1) * kk + 4) (c6 : 0 ≤ G + (-256) * q + (-1) * r + 256) (c7 : 0 ≤ 256 * q + r + (-1) * G + (-256)) : p_TKR bb rn rk rq rv rl (q + (-1)) := by
  obtain ⟨jx, rx, ex, jax, rax, rbx, hx⟩ := p0
  have wx : jx = q + (-1) := by omega
  rw [wx] at hx
  rw [if_pos (by omega)] at hx
  have hr := hbb (q + (-1))
  obtain ⟨t1, t2⟩ := m_te_oth (b := bb) (n := rn) (s := q + (-1)) (by omega) (by rw [m_le_t]; omega) (by rw [m_di_t]; omega)
  rw [if_neg (by rw [m_sg_t]; omega)] at t2
  exact ⟨by omega, by omega, by omega, by omega, by omega, by omega, by omega, fun k => by omega, fun k => by omega, fun k => by omega⟩
theorem k_qsw {qn : Int} {qk : Int} {qs : Int} {qq : Int} {qv : Int} {ba : Int → Int} (hqn : 0 ≤ qn ∧ qn ≤ 900) (hqk : 0 ≤ qk ∧ qk ≤ 4) (hqs : 0 ≤ qs ∧ qs ≤ 900) (hqq : 0 ≤ qq ∧ qq ≤ 900) (hba : ∀ i, -128 ≤ ba i ∧ ba i ≤ 127) {G s q kk : Int} (p0 : p_WI ba qn (G)) (p1 : p_CU ba qk qs qq qn qv (s)) (p2 : kk = qk) (p3 : q = qq) (c0 : 0 ≤ G + (-1099511627776) * s) (c1 : 0 ≤ (-1) * G + 1099511627776 * s + 1099511627775) (c2 : 0 ≤ s) (c3 : 0 ≤ (-1) * s + 900) : 0 ≤ q + (-1) * s + (-1) := by
  obtain ⟨w0, s0, y1, y2, y3, y4, hw⟩ := p0
  obtain rfl : s0 = s := by omega
  obtain ⟨uA, u0, u1, u2, u3⟩ := p1
  have := m_kd2_gt hw.1
  omega
theorem k_nirk {rn : Int} {rk : Int} {rs : Int} {rq : Int} {rv : Int} {rl : Int} {bb : Int → Int} (hrn : 0 ≤ rn ∧ rn ≤ 900) (hrk : 0 ≤ rk ∧ rk ≤ 4) (hrs : 0 ≤ rs ∧ rs ≤ 900) (hrq : 0 ≤ rq ∧ rq ≤ 900) (hbb : ∀ i, -128 ≤ bb i ∧ bb i ≤ 127) {W s q kk : Int} (p0 : p_XW (W)) (p1 : p_CUR bb rn rk rs rq rv rl (s)) (p2 : kk = rk) (p3 : q = rq) (c0 : 0 ≤ (-1) * kk) (c1 : 0 ≤ s) (c2 : 0 ≤ (-1) * s + 900) (c3 : 0 ≤ W) (c4 : 0 ≤ (-1) * W + 1099511627775) : p_NIR bb rn (W + 1099511627776 * s) := by
  obtain ⟨uA, u0, u1, u2, u3, u4, u5, u6, u7, u8, u9⟩ := p1
  refine ⟨W, s, by omega, by omega, by omega, by omega, fun hw => ?_⟩
  have := hw.1
  omega
theorem k_nirl {rn : Int} {rk : Int} {rs : Int} {rq : Int} {rv : Int} {rl : Int} {bb : Int → Int} (hrn : 0 ≤ rn ∧ rn ≤ 900) (hrk : 0 ≤ rk ∧ rk ≤ 4) (hrs : 0 ≤ rs ∧ rs ≤ 900) (hrq : 0 ≤ rq ∧ rq ≤ 900) (hbb : ∀ i, -128 ≤ bb i ∧ bb i ≤ 127) {W s q kk : Int} (p0 : p_XW (W)) (p1 : p_CUR bb rn rk rs rq rv rl (s)) (p2 : kk = rk) (p3 : q = rq) (c0 : 0 ≤ kk + (-2)) (c1 : 0 ≤ s) (c2 : 0 ≤ (-1) * s + 900) (c3 : 0 ≤ W) (c4 : 0 ≤ (-1) * W + 1099511627775) : p_NIR bb rn (W + 1099511627776 * s) := by
  obtain ⟨uA, u0, u1, u2, u3, u4, u5, u6, u7, u8, u9⟩ := p1
  refine ⟨W, s, by omega, by omega, by omega, by omega, fun hw => ?_⟩
  have := hw.1
  omega
theorem k_nirm {rn : Int} {rk : Int} {rs : Int} {rq : Int} {rv : Int} {rl : Int} {bb : Int → Int} (hrn : 0 ≤ rn ∧ rn ≤ 900) (hrk : 0 ≤ rk ∧ rk ≤ 4) (hrs : 0 ≤ rs ∧ rs ≤ 900) (hrq : 0 ≤ rq ∧ rq ≤ 900) (hbb : ∀ i, -128 ≤ bb i ∧ bb i ≤ 127) {W s q kk w : Int} (p0 : p_XW (W)) (p1 : p_WDR bb rn (s + 1024 * w + 1024)) (p2 : p_CUR bb rn rk rs rq rv rl (s)) (p3 : kk = rk) (p4 : q = rq) (c0 : 0 ≤ w + (-1) * W + (-1)) (c1 : 0 ≤ kk + (-1)) (c2 : 0 ≤ (-1) * kk + 1) (c3 : 0 ≤ s) (c4 : 0 ≤ (-1) * s + 900) (c5 : 0 ≤ W) (c6 : 0 ≤ (-1) * W + 1099511627775) : p_NIR bb rn (W + 1099511627776 * s) := by
  obtain ⟨s0, w0, e0, f1, f2, f3⟩ := p1
  obtain ⟨rfl, rfl⟩ : s0 = s ∧ w0 = w := by omega
  obtain ⟨uA, u0, u1, u2, u3, u4, u5, u6, u7, u8, u9⟩ := p2
  refine ⟨W, s0, by omega, by omega, by omega, by omega, fun hw => ?_⟩
  have h1 := hw.1
  have h2 := hw.2
  have h3 := f3 h1
  omega
theorem k_nirn {rn : Int} {rk : Int} {rs : Int} {rq : Int} {rv : Int} {rl : Int} {bb : Int → Int} (hrn : 0 ≤ rn ∧ rn ≤ 900) (hrk : 0 ≤ rk ∧ rk ≤ 4) (hrs : 0 ≤ rs ∧ rs ≤ 900) (hrq : 0 ≤ rq ∧ rq ≤ 900) (hbb : ∀ i, -128 ≤ bb i ∧ bb i ≤ 127) {W s q kk w : Int} (p0 : p_XW (W)) (p1 : p_WDR bb rn (s + 1024 * w + 1024)) (p2 : p_CUR bb rn rk rs rq rv rl (s)) (p3 : kk = rk) (p4 : q = rq) (c0 : 0 ≤ W + (-1) * w + (-1)) (c1 : 0 ≤ kk + (-1)) (c2 : 0 ≤ (-1) * kk + 1) (c3 : 0 ≤ s) (c4 : 0 ≤ (-1) * s + 900) (c5 : 0 ≤ W) (c6 : 0 ≤ (-1) * W + 1099511627775) : p_NIR bb rn (W + 1099511627776 * s) := by
  obtain ⟨s0, w0, e0, f1, f2, f3⟩ := p1
  obtain ⟨rfl, rfl⟩ : s0 = s ∧ w0 = w := by omega
  obtain ⟨uA, u0, u1, u2, u3, u4, u5, u6, u7, u8, u9⟩ := p2
  refine ⟨W, s0, by omega, by omega, by omega, by omega, fun hw => ?_⟩
  have h1 := hw.1
  have h2 := hw.2
  have h3 := f3 h1
  omega
theorem k_wir {rn : Int} {rk : Int} {rs : Int} {rq : Int} {rv : Int} {rl : Int} {bb : Int → Int} (hrn : 0 ≤ rn ∧ rn ≤ 900) (hrk : 0 ≤ rk ∧ rk ≤ 4) (hrs : 0 ≤ rs ∧ rs ≤ 900) (hrq : 0 ≤ rq ∧ rq ≤ 900) (hbb : ∀ i, -128 ≤ bb i ∧ bb i ≤ 127) {W s q kk w : Int} (p0 : p_XW (W)) (p1 : p_WDR bb rn (s + 1024 * w + 1024)) (p2 : p_CUR bb rn rk rs rq rv rl (s)) (p3 : kk = rk) (p4 : q = rq) (c0 : 0 ≤ w + (-1) * W) (c1 : 0 ≤ W + (-1) * w) (c2 : 0 ≤ kk + (-1)) (c3 : 0 ≤ (-1) * kk + 1) (c4 : 0 ≤ s) (c5 : 0 ≤ (-1) * s + 900) (c6 : 0 ≤ W) (c7 : 0 ≤ (-1) * W + 1099511627775) : p_WIR bb rn (W + 1099511627776 * s) := by
  obtain ⟨s0, w0, e0, f1, f2, f3⟩ := p1
  obtain ⟨rfl, rfl⟩ : s0 = s ∧ w0 = w := by omega
  obtain ⟨uA, u0, u1, u2, u3, u4, u5, u6, u7, u8, u9⟩ := p2
  have h1 : m_kd bb rn s0 = 2 := by omega
  exact ⟨W, s0, by omega, by omega, by omega, by omega, h1, by have := f3 h1; omega⟩
theorem k_wdr0 {rn : Int} {rk : Int} {rs : Int} {rq : Int} {rv : Int} {rl : Int} {bb : Int → Int} {nw : Int → Int} {ww : Int → Int} (hrn : 0 ≤ rn ∧ rn ≤ 900) (hrk : 0 ≤ rk ∧ rk ≤ 4) (hrs : 0 ≤ rs ∧ rs ≤ 900) (hrq : 0 ≤ rq ∧ rq ≤ 900) (hbb : ∀ i, -128 ≤ bb i ∧ bb i ≤ 127) {F G s q kk Y : Int} (p0 : p_CFR bb rn nw ww (F)) (p1 : p_WIR bb rn (G)) (p2 : p_CUR bb rn rk rs rq rv rl (s)) (p3 : kk = rk) (p4 : q = rq) (c0 : 0 ≤ F + (-1) * s + (-65536) * Y) (c1 : 0 ≤ s + 65536 * Y + (-1) * F) (c2 : 0 ≤ G + (-1099511627776) * s + (-493192)) (c3 : 0 ≤ 1099511627776 * s + (-1) * G + 493192) (c4 : 0 ≤ q) (c5 : 0 ≤ (-1) * q + 1023) (c6 : 0 ≤ s) (c7 : 0 ≤ (-1) * s + 900) (c8 : 0 ≤ Y) (c9 : 0 ≤ (-1) * Y + 4294967295) : p_RDR bb rn nw ww (q + 65536 * Y + 1024) := by
  obtain ⟨st, s1, r1, r2, np, W, pk, cf, wr, ro, ⟨x1, x2, x3, x4, x5⟩⟩ := p0
  unfold m_pk at pk
  obtain rfl : s1 = s := by omega
  obtain rfl : st = 0 := by omega
  obtain ⟨w0, s0, y1, y2, y3, y4, hw⟩ := p1
  obtain rfl : s0 = s1 := by omega
  obtain rfl : w0 = 493192 := by omega
  obtain ⟨uA, u0, u1, u2, u3, u4, u5, u6, u7, u8, u9⟩ := p2
  have AT := m_st_w rfl cf (by decide) hw
  rw [← u1] at AT
  exact ⟨1, rq, r1, r2, np, W, (by unfold m_pk; omega), Or.inl ⟨by decide, AT⟩, wr, fun h => absurd h (by decide), ⟨fun h => absurd h (by decide), fun h => absurd h (by decide), fun h => absurd h (by unfold m_ps; decide), fun h => absurd h (by decide), fun h => absurd h (by decide)⟩⟩
theorem k_mwr0a {rn : Int} {rk : Int} {rs : Int} {rq : Int} {rv : Int} {rl : Int} {bb : Int → Int} {nw : Int → Int} {ww : Int → Int} (hrn : 0 ≤ rn ∧ rn ≤ 900) (hrk : 0 ≤ rk ∧ rk ≤ 4) (hrs : 0 ≤ rs ∧ rs ≤ 900) (hrq : 0 ≤ rq ∧ rq ≤ 900) (hbb : ∀ i, -128 ≤ bb i ∧ bb i ≤ 127) {F G s q kk Y : Int} (p0 : p_CFR bb rn nw ww (F)) (p1 : p_NIR bb rn (G)) (p2 : p_CUR bb rn rk rs rq rv rl (s)) (p3 : kk = rk) (p4 : q = rq) (c0 : 0 ≤ F + (-1) * s + (-65536) * Y) (c1 : 0 ≤ s + 65536 * Y + (-1) * F) (c2 : 0 ≤ G + (-1099511627776) * s + (-493192)) (c3 : 0 ≤ 1099511627776 * s + (-1) * G + 493192) (c4 : 0 ≤ kk + (-4)) (c5 : 0 ≤ (-1) * kk + 4) (c6 : 0 ≤ s) (c7 : 0 ≤ (-1) * s + 900) (c8 : 0 ≤ Y) (c9 : 0 ≤ (-1) * Y + 4294967295) : p_HFR bb rn (8 * s + 1) := by
  obtain ⟨st, s1, r1, r2, np, W, pk, cf, wr, ro, ⟨x1, x2, x3, x4, x5⟩⟩ := p0
  unfold m_pk at pk
  obtain rfl : s1 = s := by omega
  obtain rfl : st = 0 := by omega
  obtain ⟨w0, s0, y1, y2, y3, y4, hw⟩ := p1
  obtain rfl : s0 = s1 := by omega
  obtain rfl : w0 = 493192 := by omega
  obtain ⟨uA, u0, u1, u2, u3, u4, u5, u6, u7, u8, u9⟩ := p2
  exact ⟨1, s0, by omega, by omega, by omega, m_mp1 (m_st_wn rfl cf (by decide) hw) (by omega)⟩
theorem k_mwr0b {rn : Int} {rk : Int} {rs : Int} {rq : Int} {rv : Int} {rl : Int} {bb : Int → Int} {nw : Int → Int} {ww : Int → Int} (hrn : 0 ≤ rn ∧ rn ≤ 900) (hrk : 0 ≤ rk ∧ rk ≤ 4) (hrs : 0 ≤ rs ∧ rs ≤ 900) (hrq : 0 ≤ rq ∧ rq ≤ 900) (hbb : ∀ i, -128 ≤ bb i ∧ bb i ≤ 127) {F G s q kk Y : Int} (p0 : p_CFR bb rn nw ww (F)) (p1 : p_NIR bb rn (G)) (p2 : p_CUR bb rn rk rs rq rv rl (s)) (p3 : kk = rk) (p4 : q = rq) (c0 : 0 ≤ F + (-1) * s + (-65536) * Y) (c1 : 0 ≤ s + 65536 * Y + (-1) * F) (c2 : 0 ≤ G + (-1099511627776) * s + (-493192)) (c3 : 0 ≤ 1099511627776 * s + (-1) * G + 493192) (c4 : 0 ≤ (-1) * kk + 3) (c5 : 0 ≤ s) (c6 : 0 ≤ (-1) * s + 900) (c7 : 0 ≤ Y) (c8 : 0 ≤ (-1) * Y + 4294967295) : p_HFR bb rn (8 * s + 2) := by
  obtain ⟨st, s1, r1, r2, np, W, pk, cf, wr, ro, ⟨x1, x2, x3, x4, x5⟩⟩ := p0
  unfold m_pk at pk
  obtain rfl : s1 = s := by omega
  obtain rfl : st = 0 := by omega
  obtain ⟨w0, s0, y1, y2, y3, y4, hw⟩ := p1
  obtain rfl : s0 = s1 := by omega
  obtain rfl : w0 = 493192 := by omega
  obtain ⟨uA, u0, u1, u2, u3, u4, u5, u6, u7, u8, u9⟩ := p2
  exact ⟨2, s0, by omega, by omega, by omega, m_mp2 (m_st_wn rfl cf (by decide) hw) (by omega)⟩
theorem k_wdr2 {rn : Int} {rk : Int} {rs : Int} {rq : Int} {rv : Int} {rl : Int} {bb : Int → Int} {nw : Int → Int} {ww : Int → Int} (hrn : 0 ≤ rn ∧ rn ≤ 900) (hrk : 0 ≤ rk ∧ rk ≤ 4) (hrs : 0 ≤ rs ∧ rs ≤ 900) (hrq : 0 ≤ rq ∧ rq ≤ 900) (hbb : ∀ i, -128 ≤ bb i ∧ bb i ≤ 127) {F G s q kk Y : Int} (p0 : p_CFR bb rn nw ww (F)) (p1 : p_WIR bb rn (G)) (p2 : p_CUR bb rn rk rs rq rv rl (s)) (p3 : kk = rk) (p4 : q = rq) (c0 : 0 ≤ F + (-1) * s + (-65536) * Y + (-2048)) (c1 : 0 ≤ s + 65536 * Y + (-1) * F + 2048) (c2 : 0 ≤ G + (-1099511627776) * s + (-215533)) (c3 : 0 ≤ 1099511627776 * s + (-1) * G + 215533) (c4 : 0 ≤ q) (c5 : 0 ≤ (-1) * q + 1023) (c6 : 0 ≤ s) (c7 : 0 ≤ (-1) * s + 900) (c8 : 0 ≤ Y) (c9 : 0 ≤ (-1) * Y + 4294967295) : p_RDR bb rn nw ww (q + 65536 * Y + 3072) := by
  obtain ⟨st, s1, r1, r2, np, W, pk, cf, wr, ro, ⟨x1, x2, x3, x4, x5⟩⟩ := p0
  unfold m_pk at pk
  obtain rfl : s1 = s := by omega
  obtain rfl : st = 2 := by omega
  obtain ⟨w0, s0, y1, y2, y3, y4, hw⟩ := p1
  obtain rfl : s0 = s1 := by omega
  obtain rfl : w0 = 215533 := by omega
  obtain ⟨uA, u0, u1, u2, u3, u4, u5, u6, u7, u8, u9⟩ := p2
  have AT := m_st_w rfl cf (by decide) hw
  rw [← u1] at AT
  exact ⟨3, rq, r1, r2, np, W, (by unfold m_pk; omega), Or.inl ⟨by decide, AT⟩, wr, fun h => absurd h (by decide), ⟨fun _ => x1 (by decide), fun h => absurd h (by decide), fun h => absurd h (by unfold m_ps; decide), fun h => absurd h (by decide), fun h => absurd h (by decide)⟩⟩
theorem k_mwr2a {rn : Int} {rk : Int} {rs : Int} {rq : Int} {rv : Int} {rl : Int} {bb : Int → Int} {nw : Int → Int} {ww : Int → Int} (hrn : 0 ≤ rn ∧ rn ≤ 900) (hrk : 0 ≤ rk ∧ rk ≤ 4) (hrs : 0 ≤ rs ∧ rs ≤ 900) (hrq : 0 ≤ rq ∧ rq ≤ 900) (hbb : ∀ i, -128 ≤ bb i ∧ bb i ≤ 127) {F G s q kk Y : Int} (p0 : p_CFR bb rn nw ww (F)) (p1 : p_NIR bb rn (G)) (p2 : p_CUR bb rn rk rs rq rv rl (s)) (p3 : kk = rk) (p4 : q = rq) (c0 : 0 ≤ F + (-1) * s + (-65536) * Y + (-2048)) (c1 : 0 ≤ s + 65536 * Y + (-1) * F + 2048) (c2 : 0 ≤ G + (-1099511627776) * s + (-215533)) (c3 : 0 ≤ 1099511627776 * s + (-1) * G + 215533) (c4 : 0 ≤ kk + (-4)) (c5 : 0 ≤ (-1) * kk + 4) (c6 : 0 ≤ s) (c7 : 0 ≤ (-1) * s + 900) (c8 : 0 ≤ Y) (c9 : 0 ≤ (-1) * Y + 4294967295) : p_HFR bb rn (8 * s + 1) := by
  obtain ⟨st, s1, r1, r2, np, W, pk, cf, wr, ro, ⟨x1, x2, x3, x4, x5⟩⟩ := p0
  unfold m_pk at pk
  obtain rfl : s1 = s := by omega
  obtain rfl : st = 2 := by omega
  obtain ⟨w0, s0, y1, y2, y3, y4, hw⟩ := p1
  obtain rfl : s0 = s1 := by omega
  obtain rfl : w0 = 215533 := by omega
  obtain ⟨uA, u0, u1, u2, u3, u4, u5, u6, u7, u8, u9⟩ := p2
  exact ⟨1, s0, by omega, by omega, by omega, m_mp1 (m_st_wn rfl cf (by decide) hw) (by omega)⟩
theorem k_mwr2b {rn : Int} {rk : Int} {rs : Int} {rq : Int} {rv : Int} {rl : Int} {bb : Int → Int} {nw : Int → Int} {ww : Int → Int} (hrn : 0 ≤ rn ∧ rn ≤ 900) (hrk : 0 ≤ rk ∧ rk ≤ 4) (hrs : 0 ≤ rs ∧ rs ≤ 900) (hrq : 0 ≤ rq ∧ rq ≤ 900) (hbb : ∀ i, -128 ≤ bb i ∧ bb i ≤ 127) {F G s q kk Y : Int} (p0 : p_CFR bb rn nw ww (F)) (p1 : p_NIR bb rn (G)) (p2 : p_CUR bb rn rk rs rq rv rl (s)) (p3 : kk = rk) (p4 : q = rq) (c0 : 0 ≤ F + (-1) * s + (-65536) * Y + (-2048)) (c1 : 0 ≤ s + 65536 * Y + (-1) * F + 2048) (c2 : 0 ≤ G + (-1099511627776) * s + (-215533)) (c3 : 0 ≤ 1099511627776 * s + (-1) * G + 215533) (c4 : 0 ≤ (-1) * kk + 3) (c5 : 0 ≤ s) (c6 : 0 ≤ (-1) * s + 900) (c7 : 0 ≤ Y) (c8 : 0 ≤ (-1) * Y + 4294967295) : p_HFR bb rn (8 * s + 2) := by
  obtain ⟨st, s1, r1, r2, np, W, pk, cf, wr, ro, ⟨x1, x2, x3, x4, x5⟩⟩ := p0
  unfold m_pk at pk
  obtain rfl : s1 = s := by omega
  obtain rfl : st = 2 := by omega
  obtain ⟨w0, s0, y1, y2, y3, y4, hw⟩ := p1
  obtain rfl : s0 = s1 := by omega
  obtain rfl : w0 = 215533 := by omega
  obtain ⟨uA, u0, u1, u2, u3, u4, u5, u6, u7, u8, u9⟩ := p2
  exact ⟨2, s0, by omega, by omega, by omega, m_mp2 (m_st_wn rfl cf (by decide) hw) (by omega)⟩
theorem k_wdr11 {rn : Int} {rk : Int} {rs : Int} {rq : Int} {rv : Int} {rl : Int} {bb : Int → Int} {nw : Int → Int} {ww : Int → Int} (hrn : 0 ≤ rn ∧ rn ≤ 900) (hrk : 0 ≤ rk ∧ rk ≤ 4) (hrs : 0 ≤ rs ∧ rs ≤ 900) (hrq : 0 ≤ rq ∧ rq ≤ 900) (hbb : ∀ i, -128 ≤ bb i ∧ bb i ≤ 127) {F G s q kk Y : Int} (p0 : p_CFR bb rn nw ww (F)) (p1 : p_WIR bb rn (G)) (p2 : p_CUR bb rn rk rs rq rv rl (s)) (p3 : kk = rk) (p4 : q = rq) (c0 : 0 ≤ F + (-1) * s + (-65536) * Y + (-11264)) (c1 : 0 ≤ s + 65536 * Y + (-1) * F + 11264) (c2 : 0 ≤ G + (-1099511627776) * s + (-395059)) (c3 : 0 ≤ 1099511627776 * s + (-1) * G + 395059) (c4 : 0 ≤ q) (c5 : 0 ≤ (-1) * q + 1023) (c6 : 0 ≤ s) (c7 : 0 ≤ (-1) * s + 900) (c8 : 0 ≤ Y) (c9 : 0 ≤ (-1) * Y + 4294967295) : p_RDR bb rn nw ww (q + 65536 * Y + 12288) := by
  obtain ⟨st, s1, r1, r2, np, W, pk, cf, wr, ro, ⟨x1, x2, x3, x4, x5⟩⟩ := p0
  unfold m_pk at pk
  obtain rfl : s1 = s := by omega
  obtain rfl : st = 11 := by omega
  obtain ⟨w0, s0, y1, y2, y3, y4, hw⟩ := p1
  obtain rfl : s0 = s1 := by omega
  obtain rfl : w0 = 395059 := by omega
  obtain ⟨uA, u0, u1, u2, u3, u4, u5, u6, u7, u8, u9⟩ := p2
  have AT := m_st_w rfl cf (by decide) hw
  rw [← u1] at AT
  exact ⟨12, rq, r1, r2, np, W, (by unfold m_pk; omega), Or.inl ⟨by decide, AT⟩, wr, fun _ => ro (by decide), ⟨fun h => absurd h (by decide), fun h => absurd h (by decide), fun _ => x3 (by unfold m_ps; decide), fun h => absurd h (by decide), fun h => absurd h (by decide)⟩⟩
theorem k_mwr11a {rn : Int} {rk : Int} {rs : Int} {rq : Int} {rv : Int} {rl : Int} {bb : Int → Int} {nw : Int → Int} {ww : Int → Int} (hrn : 0 ≤ rn ∧ rn ≤ 900) (hrk : 0 ≤ rk ∧ rk ≤ 4) (hrs : 0 ≤ rs ∧ rs ≤ 900) (hrq : 0 ≤ rq ∧ rq ≤ 900) (hbb : ∀ i, -128 ≤ bb i ∧ bb i ≤ 127) {F G s q kk Y : Int} (p0 : p_CFR bb rn nw ww (F)) (p1 : p_NIR bb rn (G)) (p2 : p_CUR bb rn rk rs rq rv rl (s)) (p3 : kk = rk) (p4 : q = rq) (c0 : 0 ≤ F + (-1) * s + (-65536) * Y + (-11264)) (c1 : 0 ≤ s + 65536 * Y + (-1) * F + 11264) (c2 : 0 ≤ G + (-1099511627776) * s + (-395059)) (c3 : 0 ≤ 1099511627776 * s + (-1) * G + 395059) (c4 : 0 ≤ kk + (-4)) (c5 : 0 ≤ (-1) * kk + 4) (c6 : 0 ≤ s) (c7 : 0 ≤ (-1) * s + 900) (c8 : 0 ≤ Y) (c9 : 0 ≤ (-1) * Y + 4294967295) : p_HFR bb rn (8 * s + 1) := by
  obtain ⟨st, s1, r1, r2, np, W, pk, cf, wr, ro, ⟨x1, x2, x3, x4, x5⟩⟩ := p0
  unfold m_pk at pk
  obtain rfl : s1 = s := by omega
  obtain rfl : st = 11 := by omega
  obtain ⟨w0, s0, y1, y2, y3, y4, hw⟩ := p1
  obtain rfl : s0 = s1 := by omega
  obtain rfl : w0 = 395059 := by omega
  obtain ⟨uA, u0, u1, u2, u3, u4, u5, u6, u7, u8, u9⟩ := p2
  exact ⟨1, s0, by omega, by omega, by omega, m_mp1 (m_st_wn rfl cf (by decide) hw) (by omega)⟩
theorem k_mwr11b {rn : Int} {rk : Int} {rs : Int} {rq : Int} {rv : Int} {rl : Int} {bb : Int → Int} {nw : Int → Int} {ww : Int → Int} (hrn : 0 ≤ rn ∧ rn ≤ 900) (hrk : 0 ≤ rk ∧ rk ≤ 4) (hrs : 0 ≤ rs ∧ rs ≤ 900) (hrq : 0 ≤ rq ∧ rq ≤ 900) (hbb : ∀ i, -128 ≤ bb i ∧ bb i ≤ 127) {F G s q kk Y : Int} (p0 : p_CFR bb rn nw ww (F)) (p1 : p_NIR bb rn (G)) (p2 : p_CUR bb rn rk rs rq rv rl (s)) (p3 : kk = rk) (p4 : q = rq) (c0 : 0 ≤ F + (-1) * s + (-65536) * Y + (-11264)) (c1 : 0 ≤ s + 65536 * Y + (-1) * F + 11264) (c2 : 0 ≤ G + (-1099511627776) * s + (-395059)) (c3 : 0 ≤ 1099511627776 * s + (-1) * G + 395059) (c4 : 0 ≤ (-1) * kk + 3) (c5 : 0 ≤ s) (c6 : 0 ≤ (-1) * s + 900) (c7 : 0 ≤ Y) (c8 : 0 ≤ (-1) * Y + 4294967295) : p_HFR bb rn (8 * s + 2) := by
  obtain ⟨st, s1, r1, r2, np, W, pk, cf, wr, ro, ⟨x1, x2, x3, x4, x5⟩⟩ := p0
  unfold m_pk at pk
  obtain rfl : s1 = s := by omega
  obtain rfl : st = 11 := by omega
  obtain ⟨w0, s0, y1, y2, y3, y4, hw⟩ := p1
  obtain rfl : s0 = s1 := by omega
  obtain rfl : w0 = 395059 := by omega
  obtain ⟨uA, u0, u1, u2, u3, u4, u5, u6, u7, u8, u9⟩ := p2
  exact ⟨2, s0, by omega, by omega, by omega, m_mp2 (m_st_wn rfl cf (by decide) hw) (by omega)⟩
theorem k_wdr13 {rn : Int} {rk : Int} {rs : Int} {rq : Int} {rv : Int} {rl : Int} {bb : Int → Int} {nw : Int → Int} {ww : Int → Int} (hrn : 0 ≤ rn ∧ rn ≤ 900) (hrk : 0 ≤ rk ∧ rk ≤ 4) (hrs : 0 ≤ rs ∧ rs ≤ 900) (hrq : 0 ≤ rq ∧ rq ≤ 900) (hbb : ∀ i, -128 ≤ bb i ∧ bb i ≤ 127) {F G s q kk Y : Int} (p0 : p_CFR bb rn nw ww (F)) (p1 : p_WIR bb rn (G)) (p2 : p_CUR bb rn rk rs rq rv rl (s)) (p3 : kk = rk) (p4 : q = rq) (c0 : 0 ≤ F + (-1) * s + (-65536) * Y + (-13312)) (c1 : 0 ≤ s + 65536 * Y + (-1) * F + 13312) (c2 : 0 ≤ G + (-1099511627776) * s + (-3657363)) (c3 : 0 ≤ 1099511627776 * s + (-1) * G + 3657363) (c4 : 0 ≤ q) (c5 : 0 ≤ (-1) * q + 1023) (c6 : 0 ≤ s) (c7 : 0 ≤ (-1) * s + 900) (c8 : 0 ≤ Y) (c9 : 0 ≤ (-1) * Y + 4294967295) : p_RDR bb rn nw ww (q + 65536 * Y + 14336) := by
  obtain ⟨st, s1, r1, r2, np, W, pk, cf, wr, ro, ⟨x1, x2, x3, x4, x5⟩⟩ := p0
  unfold m_pk at pk
  obtain rfl : s1 = s := by omega
  obtain rfl : st = 13 := by omega
  obtain ⟨w0, s0, y1, y2, y3, y4, hw⟩ := p1
  obtain rfl : s0 = s1 := by omega
  obtain rfl : w0 = 3657363 := by omega
  obtain ⟨uA, u0, u1, u2, u3, u4, u5, u6, u7, u8, u9⟩ := p2
  have AT := m_st_w rfl cf (by decide) hw
  rw [← u1] at AT
  exact ⟨14, rq, r1, r2, np, W, (by unfold m_pk; omega), Or.inl ⟨by decide, AT⟩, wr, fun _ => ro (by decide), ⟨fun h => absurd h (by decide), fun h => absurd h (by decide), fun _ => x3 (by unfold m_ps; decide), fun _ => x4 (by decide), fun h => absurd h (by decide)⟩⟩
theorem k_mwr13a {rn : Int} {rk : Int} {rs : Int} {rq : Int} {rv : Int} {rl : Int} {bb : Int → Int} {nw : Int → Int} {ww : Int → Int} (hrn : 0 ≤ rn ∧ rn ≤ 900) (hrk : 0 ≤ rk ∧ rk ≤ 4) (hrs : 0 ≤ rs ∧ rs ≤ 900) (hrq : 0 ≤ rq ∧ rq ≤ 900) (hbb : ∀ i, -128 ≤ bb i ∧ bb i ≤ 127) {F G s q kk Y : Int} (p0 : p_CFR bb rn nw ww (F)) (p1 : p_NIR bb rn (G)) (p2 : p_CUR bb rn rk rs rq rv rl (s)) (p3 : kk = rk) (p4 : q = rq) (c0 : 0 ≤ F + (-1) * s + (-65536) * Y + (-13312)) (c1 : 0 ≤ s + 65536 * Y + (-1) * F + 13312) (c2 : 0 ≤ G + (-1099511627776) * s + (-3657363)) (c3 : 0 ≤ 1099511627776 * s + (-1) * G + 3657363) (c4 : 0 ≤ kk + (-4)) (c5 : 0 ≤ (-1) * kk + 4) (c6 : 0 ≤ s) (c7 : 0 ≤ (-1) * s + 900) (c8 : 0 ≤ Y) (c9 : 0 ≤ (-1) * Y + 4294967295) : p_HFR bb rn (8 * s + 1) := by
  obtain ⟨st, s1, r1, r2, np, W, pk, cf, wr, ro, ⟨x1, x2, x3, x4, x5⟩⟩ := p0
  unfold m_pk at pk
  obtain rfl : s1 = s := by omega
  obtain rfl : st = 13 := by omega
  obtain ⟨w0, s0, y1, y2, y3, y4, hw⟩ := p1
  obtain rfl : s0 = s1 := by omega
  obtain rfl : w0 = 3657363 := by omega
  obtain ⟨uA, u0, u1, u2, u3, u4, u5, u6, u7, u8, u9⟩ := p2
  exact ⟨1, s0, by omega, by omega, by omega, m_mp1 (m_st_wn rfl cf (by decide) hw) (by omega)⟩
theorem k_mwr13b {rn : Int} {rk : Int} {rs : Int} {rq : Int} {rv : Int} {rl : Int} {bb : Int → Int} {nw : Int → Int} {ww : Int → Int} (hrn : 0 ≤ rn ∧ rn ≤ 900) (hrk : 0 ≤ rk ∧ rk ≤ 4) (hrs : 0 ≤ rs ∧ rs ≤ 900) (hrq : 0 ≤ rq ∧ rq ≤ 900) (hbb : ∀ i, -128 ≤ bb i ∧ bb i ≤ 127) {F G s q kk Y : Int} (p0 : p_CFR bb rn nw ww (F)) (p1 : p_NIR bb rn (G)) (p2 : p_CUR bb rn rk rs rq rv rl (s)) (p3 : kk = rk) (p4 : q = rq) (c0 : 0 ≤ F + (-1) * s + (-65536) * Y + (-13312)) (c1 : 0 ≤ s + 65536 * Y + (-1) * F + 13312) (c2 : 0 ≤ G + (-1099511627776) * s + (-3657363)) (c3 : 0 ≤ 1099511627776 * s + (-1) * G + 3657363) (c4 : 0 ≤ (-1) * kk + 3) (c5 : 0 ≤ s) (c6 : 0 ≤ (-1) * s + 900) (c7 : 0 ≤ Y) (c8 : 0 ≤ (-1) * Y + 4294967295) : p_HFR bb rn (8 * s + 2) := by
  obtain ⟨st, s1, r1, r2, np, W, pk, cf, wr, ro, ⟨x1, x2, x3, x4, x5⟩⟩ := p0
  unfold m_pk at pk
  obtain rfl : s1 = s := by omega
  obtain rfl : st = 13 := by omega
  obtain ⟨w0, s0, y1, y2, y3, y4, hw⟩ := p1
  obtain rfl : s0 = s1 := by omega
  obtain rfl : w0 = 3657363 := by omega
  obtain ⟨uA, u0, u1, u2, u3, u4, u5, u6, u7, u8, u9⟩ := p2
  exact ⟨2, s0, by omega, by omega, by omega, m_mp2 (m_st_wn rfl cf (by decide) hw) (by omega)⟩
theorem k_wdr8 {rn : Int} {rk : Int} {rs : Int} {rq : Int} {rv : Int} {rl : Int} {bb : Int → Int} {nw : Int → Int} {ww : Int → Int} (hrn : 0 ≤ rn ∧ rn ≤ 900) (hrk : 0 ≤ rk ∧ rk ≤ 4) (hrs : 0 ≤ rs ∧ rs ≤ 900) (hrq : 0 ≤ rq ∧ rq ≤ 900) (hbb : ∀ i, -128 ≤ bb i ∧ bb i ≤ 127) {F G s q kk Y : Int} (p0 : p_CFR bb rn nw ww (F)) (p1 : p_WIR bb rn (G)) (p2 : p_CUR bb rn rk rs rq rv rl (s)) (p3 : kk = rk) (p4 : q = rq) (c0 : 0 ≤ F + (-1) * s + (-65536) * Y + (-8192)) (c1 : 0 ≤ s + 65536 * Y + (-1) * F + 8192) (c2 : 0 ≤ G + (-1099511627776) * s + (-52)) (c3 : 0 ≤ 1099511627776 * s + (-1) * G + 52) (c4 : 0 ≤ q) (c5 : 0 ≤ (-1) * q + 1023) (c6 : 0 ≤ s) (c7 : 0 ≤ (-1) * s + 900) (c8 : 0 ≤ Y) (c9 : 0 ≤ (-1) * Y + 4294967295) : p_RDR bb rn nw ww (q + 65536 * Y + 15360) := by
  obtain ⟨st, s1, r1, r2, np, W, pk, cf, wr, ro, ⟨x1, x2, x3, x4, x5⟩⟩ := p0
  unfold m_pk at pk
  obtain rfl : s1 = s := by omega
  obtain rfl : st = 8 := by omega
  obtain ⟨w0, s0, y1, y2, y3, y4, hw⟩ := p1
  obtain rfl : s0 = s1 := by omega
  obtain rfl : w0 = 52 := by omega
  obtain ⟨uA, u0, u1, u2, u3, u4, u5, u6, u7, u8, u9⟩ := p2
  have AT := m_st_w rfl cf (by decide) hw
  rw [← u1] at AT
  exact ⟨15, rq, r1, r2, np, W, (by unfold m_pk; omega), Or.inl ⟨by decide, AT⟩, wr, fun _ => ro (by decide), ⟨fun h => absurd h (by decide), fun h => absurd h (by decide), fun h => absurd h (by unfold m_ps; decide), fun h => absurd h (by decide), fun h => absurd h (by decide)⟩⟩
theorem k_mwr8a {rn : Int} {rk : Int} {rs : Int} {rq : Int} {rv : Int} {rl : Int} {bb : Int → Int} {nw : Int → Int} {ww : Int → Int} (hrn : 0 ≤ rn ∧ rn ≤ 900) (hrk : 0 ≤ rk ∧ rk ≤ 4) (hrs : 0 ≤ rs ∧ rs ≤ 900) (hrq : 0 ≤ rq ∧ rq ≤ 900) (hbb : ∀ i, -128 ≤ bb i ∧ bb i ≤ 127) {F G s q kk Y : Int} (p0 : p_CFR bb rn nw ww (F)) (p1 : p_NIR bb rn (G)) (p2 : p_CUR bb rn rk rs rq rv rl (s)) (p3 : kk = rk) (p4 : q = rq) (c0 : 0 ≤ F + (-1) * s + (-65536) * Y + (-8192)) (c1 : 0 ≤ s + 65536 * Y + (-1) * F + 8192) (c2 : 0 ≤ G + (-1099511627776) * s + (-52)) (c3 : 0 ≤ 1099511627776 * s + (-1) * G + 52) (c4 : 0 ≤ kk + (-4)) (c5 : 0 ≤ (-1) * kk + 4) (c6 : 0 ≤ s) (c7 : 0 ≤ (-1) * s + 900) (c8 : 0 ≤ Y) (c9 : 0 ≤ (-1) * Y + 4294967295) : p_HFR bb rn (8 * s + 1) := by
  obtain ⟨st, s1, r1, r2, np, W, pk, cf, wr, ro, ⟨x1, x2, x3, x4, x5⟩⟩ := p0
  unfold m_pk at pk
  obtain rfl : s1 = s := by omega
  obtain rfl : st = 8 := by omega
  obtain ⟨w0, s0, y1, y2, y3, y4, hw⟩ := p1
  obtain rfl : s0 = s1 := by omega
  obtain rfl : w0 = 52 := by omega
  obtain ⟨uA, u0, u1, u2, u3, u4, u5, u6, u7, u8, u9⟩ := p2
  exact ⟨1, s0, by omega, by omega, by omega, m_mp1 (m_st_wn rfl cf (by decide) hw) (by omega)⟩
theorem k_mwr8b {rn : Int} {rk : Int} {rs : Int} {rq : Int} {rv : Int} {rl : Int} {bb : Int → Int} {nw : Int → Int} {ww : Int → Int} (hrn : 0 ≤ rn ∧ rn ≤ 900) (hrk : 0 ≤ rk ∧ rk ≤ 4) (hrs : 0 ≤ rs ∧ rs ≤ 900) (hrq : 0 ≤ rq ∧ rq ≤ 900) (hbb : ∀ i, -128 ≤ bb i ∧ bb i ≤ 127) {F G s q kk Y : Int} (p0 : p_CFR bb rn nw ww (F)) (p1 : p_NIR bb rn (G)) (p2 : p_CUR bb rn rk rs rq rv rl (s)) (p3 : kk = rk) (p4 : q = rq) (c0 : 0 ≤ F + (-1) * s + (-65536) * Y + (-8192)) (c1 : 0 ≤ s + 65536 * Y + (-1) * F + 8192) (c2 : 0 ≤ G + (-1099511627776) * s + (-52)) (c3 : 0 ≤ 1099511627776 * s + (-1) * G + 52) (c4 : 0 ≤ (-1) * kk + 3) (c5 : 0 ≤ s) (c6 : 0 ≤ (-1) * s + 900) (c7 : 0 ≤ Y) (c8 : 0 ≤ (-1) * Y + 4294967295) : p_HFR bb rn (8 * s + 2) := by
  obtain ⟨st, s1, r1, r2, np, W, pk, cf, wr, ro, ⟨x1, x2, x3, x4, x5⟩⟩ := p0
  unfold m_pk at pk
  obtain rfl : s1 = s := by omega
  obtain rfl : st = 8 := by omega
  obtain ⟨w0, s0, y1, y2, y3, y4, hw⟩ := p1
  obtain rfl : s0 = s1 := by omega
  obtain rfl : w0 = 52 := by omega
  obtain ⟨uA, u0, u1, u2, u3, u4, u5, u6, u7, u8, u9⟩ := p2
  exact ⟨2, s0, by omega, by omega, by omega, m_mp2 (m_st_wn rfl cf (by decide) hw) (by omega)⟩
theorem k_wdr9 {rn : Int} {rk : Int} {rs : Int} {rq : Int} {rv : Int} {rl : Int} {bb : Int → Int} {nw : Int → Int} {ww : Int → Int} (hrn : 0 ≤ rn ∧ rn ≤ 900) (hrk : 0 ≤ rk ∧ rk ≤ 4) (hrs : 0 ≤ rs ∧ rs ≤ 900) (hrq : 0 ≤ rq ∧ rq ≤ 900) (hbb : ∀ i, -128 ≤ bb i ∧ bb i ≤ 127) {F G s q kk Y : Int} (p0 : p_CFR bb rn nw ww (F)) (p1 : p_WIR bb rn (G)) (p2 : p_CUR bb rn rk rs rq rv rl (s)) (p3 : kk = rk) (p4 : q = rq) (c0 : 0 ≤ F + (-1) * s + (-65536) * Y + (-9216)) (c1 : 0 ≤ s + 65536 * Y + (-1) * F + 9216) (c2 : 0 ≤ G + (-1099511627776) * s + (-52)) (c3 : 0 ≤ 1099511627776 * s + (-1) * G + 52) (c4 : 0 ≤ q) (c5 : 0 ≤ (-1) * q + 1023) (c6 : 0 ≤ s) (c7 : 0 ≤ (-1) * s + 900) (c8 : 0 ≤ Y) (c9 : 0 ≤ (-1) * Y + 4294967295) : p_RDR bb rn nw ww (q + 65536 * Y + 18432) := by
  obtain ⟨st, s1, r1, r2, np, W, pk, cf, wr, ro, ⟨x1, x2, x3, x4, x5⟩⟩ := p0
  unfold m_pk at pk
  obtain rfl : s1 = s := by omega
  obtain rfl : st = 9 := by omega
  obtain ⟨w0, s0, y1, y2, y3, y4, hw⟩ := p1
  obtain rfl : s0 = s1 := by omega
  obtain rfl : w0 = 52 := by omega
  obtain ⟨uA, u0, u1, u2, u3, u4, u5, u6, u7, u8, u9⟩ := p2
  have AT := m_st_w rfl cf (by decide) hw
  rw [← u1] at AT
  exact ⟨18, rq, r1, r2, np, W, (by unfold m_pk; omega), Or.inl ⟨by decide, AT⟩, wr, fun _ => ro (by decide), ⟨fun h => absurd h (by decide), fun h => absurd h (by decide), fun h => absurd h (by unfold m_ps; decide), fun h => absurd h (by decide), fun h => absurd h (by decide)⟩⟩
theorem k_mwr9a {rn : Int} {rk : Int} {rs : Int} {rq : Int} {rv : Int} {rl : Int} {bb : Int → Int} {nw : Int → Int} {ww : Int → Int} (hrn : 0 ≤ rn ∧ rn ≤ 900) (hrk : 0 ≤ rk ∧ rk ≤ 4) (hrs : 0 ≤ rs ∧ rs ≤ 900) (hrq : 0 ≤ rq ∧ rq ≤ 900) (hbb : ∀ i, -128 ≤ bb i ∧ bb i ≤ 127) {F G s q kk Y : Int} (p0 : p_CFR bb rn nw ww (F)) (p1 : p_NIR bb rn (G)) (p2 : p_CUR bb rn rk rs rq rv rl (s)) (p3 : kk = rk) (p4 : q = rq) (c0 : 0 ≤ F + (-1) * s + (-65536) * Y + (-9216)) (c1 : 0 ≤ s + 65536 * Y + (-1) * F + 9216) (c2 : 0 ≤ G + (-1099511627776) * s + (-52)) (c3 : 0 ≤ 1099511627776 * s + (-1) * G + 52) (c4 : 0 ≤ kk + (-4)) (c5 : 0 ≤ (-1) * kk + 4) (c6 : 0 ≤ s) (c7 : 0 ≤ (-1) * s + 900) (c8 : 0 ≤ Y) (c9 : 0 ≤ (-1) * Y + 4294967295) : p_HFR bb rn (8 * s + 1) := by
  obtain ⟨st, s1, r1, r2, np, W, pk, cf, wr, ro, ⟨x1, x2, x3, x4, x5⟩⟩ := p0
  unfold m_pk at pk
  obtain rfl : s1 = s := by omega
  obtain rfl : st = 9 := by omega
  obtain ⟨w0, s0, y1, y2, y3, y4, hw⟩ := p1
  obtain rfl : s0 = s1 := by omega
  obtain rfl : w0 = 52 := by omega
  obtain ⟨uA, u0, u1, u2, u3, u4, u5, u6, u7, u8, u9⟩ := p2
  exact ⟨1, s0, by omega, by omega, by omega, m_mp1 (m_st_wn rfl cf (by decide) hw) (by omega)⟩
theorem k_mwr9b {rn : Int} {rk : Int} {rs : Int} {rq : Int} {rv : Int} {rl : Int} {bb : Int → Int} {nw : Int → Int} {ww : Int → Int} (hrn : 0 ≤ rn ∧ rn ≤ 900) (hrk : 0 ≤ rk ∧ rk ≤ 4) (hrs : 0 ≤ rs ∧ rs ≤ 900) (hrq : 0 ≤ rq ∧ rq ≤ 900) (hbb : ∀ i, -128 ≤ bb i ∧ bb i ≤ 127) {F G s q kk Y : Int} (p0 : p_CFR bb rn nw ww (F)) (p1 : p_NIR bb rn (G)) (p2 : p_CUR bb rn rk rs rq rv rl (s)) (p3 : kk = rk) (p4 : q = rq) (c0 : 0 ≤ F + (-1) * s + (-65536) * Y + (-9216)) (c1 : 0 ≤ s + 65536 * Y + (-1) * F + 9216) (c2 : 0 ≤ G + (-1099511627776) * s + (-52)) (c3 : 0 ≤ 1099511627776 * s + (-1) * G + 52) (c4 : 0 ≤ (-1) * kk + 3) (c5 : 0 ≤ s) (c6 : 0 ≤ (-1) * s + 900) (c7 : 0 ≤ Y) (c8 : 0 ≤ (-1) * Y + 4294967295) : p_HFR bb rn (8 * s + 2) := by
  obtain ⟨st, s1, r1, r2, np, W, pk, cf, wr, ro, ⟨x1, x2, x3, x4, x5⟩⟩ := p0
  unfold m_pk at pk
  obtain rfl : s1 = s := by omega
  obtain rfl : st = 9 := by omega
  obtain ⟨w0, s0, y1, y2, y3, y4, hw⟩ := p1
  obtain rfl : s0 = s1 := by omega
  obtain rfl : w0 = 52 := by omega
  obtain ⟨uA, u0, u1, u2, u3, u4, u5, u6, u7, u8, u9⟩ := p2
  exact ⟨2, s0, by omega, by omega, by omega, m_mp2 (m_st_wn rfl cf (by decide) hw) (by omega)⟩
theorem k_wdr16 {rn : Int} {rk : Int} {rs : Int} {rq : Int} {rv : Int} {rl : Int} {bb : Int → Int} {nw : Int → Int} {ww : Int → Int} (hrn : 0 ≤ rn ∧ rn ≤ 900) (hrk : 0 ≤ rk ∧ rk ≤ 4) (hrs : 0 ≤ rs ∧ rs ≤ 900) (hrq : 0 ≤ rq ∧ rq ≤ 900) (hbb : ∀ i, -128 ≤ bb i ∧ bb i ≤ 127) {F G s q kk Y : Int} (p0 : p_CFR bb rn nw ww (F)) (p1 : p_WIR bb rn (G)) (p2 : p_CUR bb rn rk rs rq rv rl (s)) (p3 : kk = rk) (p4 : q = rq) (c0 : 0 ≤ F + (-1) * s + (-65536) * Y + (-16384)) (c1 : 0 ≤ s + 65536 * Y + (-1) * F + 16384) (c2 : 0 ≤ G + (-1099511627776) * s + (-89)) (c3 : 0 ≤ 1099511627776 * s + (-1) * G + 89) (c4 : 0 ≤ q) (c5 : 0 ≤ (-1) * q + 1023) (c6 : 0 ≤ s) (c7 : 0 ≤ (-1) * s + 900) (c8 : 0 ≤ Y) (c9 : 0 ≤ (-1) * Y + 4294967295) : p_RDR bb rn nw ww (q + 65536 * Y + 17408) := by
  obtain ⟨st, s1, r1, r2, np, W, pk, cf, wr, ro, ⟨x1, x2, x3, x4, x5⟩⟩ := p0
  unfold m_pk at pk
  obtain rfl : s1 = s := by omega
  obtain rfl : st = 16 := by omega
  obtain ⟨w0, s0, y1, y2, y3, y4, hw⟩ := p1
  obtain rfl : s0 = s1 := by omega
  obtain rfl : w0 = 89 := by omega
  obtain ⟨uA, u0, u1, u2, u3, u4, u5, u6, u7, u8, u9⟩ := p2
  have AT := m_st_w rfl cf (by decide) hw
  rw [← u1] at AT
  exact ⟨17, rq, r1, r2, np, W, (by unfold m_pk; omega), Or.inl ⟨by decide, AT⟩, wr, fun _ => ro (by decide), ⟨fun h => absurd h (by decide), fun h => absurd h (by decide), fun h => absurd h (by unfold m_ps; decide), fun h => absurd h (by decide), fun h => absurd h (by decide)⟩⟩
theorem k_mwr16a {rn : Int} {rk : Int} {rs : Int} {rq : Int} {rv : Int} {rl : Int} {bb : Int → Int} {nw : Int → Int} {ww : Int → Int} (hrn : 0 ≤ rn ∧ rn ≤ 900) (hrk : 0 ≤ rk ∧ rk ≤ 4) (hrs : 0 ≤ rs ∧ rs ≤ 900) (hrq : 0 ≤ rq ∧ rq ≤ 900) (hbb : ∀ i, -128 ≤ bb i ∧ bb i ≤ 127) {F G s q kk Y : Int} (p0 : p_CFR bb rn nw ww (F)) (p1 : p_NIR bb rn (G)) (p2 : p_CUR bb rn rk rs rq rv rl (s)) (p3 : kk = rk) (p4 : q = rq) (c0 : 0 ≤ F + (-1) * s + (-65536) * Y + (-16384)) (c1 : 0 ≤ s + 65536 * Y + (-1) * F + 16384) (c2 : 0 ≤ G + (-1099511627776) * s + (-89)) (c3 : 0 ≤ 1099511627776 * s + (-1) * G + 89) (c4 : 0 ≤ kk + (-4)) (c5 : 0 ≤ (-1) * kk + 4) (c6 : 0 ≤ s) (c7 : 0 ≤ (-1) * s + 900) (c8 : 0 ≤ Y) (c9 : 0 ≤ (-1) * Y + 4294967295) : p_HFR bb rn (8 * s + 1) := by
  obtain ⟨st, s1, r1, r2, np, W, pk, cf, wr, ro, ⟨x1, x2, x3, x4, x5⟩⟩ := p0
  unfold m_pk at pk
  obtain rfl : s1 = s := by omega
  obtain rfl : st = 16 := by omega
  obtain ⟨w0, s0, y1, y2, y3, y4, hw⟩ := p1
  obtain rfl : s0 = s1 := by omega
  obtain rfl : w0 = 89 := by omega
  obtain ⟨uA, u0, u1, u2, u3, u4, u5, u6, u7, u8, u9⟩ := p2
  exact ⟨1, s0, by omega, by omega, by omega, m_mp1 (m_st_wn rfl cf (by decide) hw) (by omega)⟩
theorem k_mwr16b {rn : Int} {rk : Int} {rs : Int} {rq : Int} {rv : Int} {rl : Int} {bb : Int → Int} {nw : Int → Int} {ww : Int → Int} (hrn : 0 ≤ rn ∧ rn ≤ 900) (hrk : 0 ≤ rk ∧ rk ≤ 4) (hrs : 0 ≤ rs ∧ rs ≤ 900) (hrq : 0 ≤ rq ∧ rq ≤ 900) (hbb : ∀ i, -128 ≤ bb i ∧ bb i ≤ 127) {F G s q kk Y : Int} (p0 : p_CFR bb rn nw ww (F)) (p1 : p_NIR bb rn (G)) (p2 : p_CUR bb rn rk rs rq rv rl (s)) (p3 : kk = rk) (p4 : q = rq) (c0 : 0 ≤ F + (-1) * s + (-65536) * Y + (-16384)) (c1 : 0 ≤ s + 65536 * Y + (-1) * F + 16384) (c2 : 0 ≤ G + (-1099511627776) * s + (-89)) (c3 : 0 ≤ 1099511627776 * s + (-1) * G + 89) (c4 : 0 ≤ (-1) * kk + 3) (c5 : 0 ≤ s) (c6 : 0 ≤ (-1) * s + 900) (c7 : 0 ≤ Y) (c8 : 0 ≤ (-1) * Y + 4294967295) : p_HFR bb rn (8 * s + 2) := by
  obtain ⟨st, s1, r1, r2, np, W, pk, cf, wr, ro, ⟨x1, x2, x3, x4, x5⟩⟩ := p0
  unfold m_pk at pk
  obtain rfl : s1 = s := by omega
  obtain rfl : st = 16 := by omega
  obtain ⟨w0, s0, y1, y2, y3, y4, hw⟩ := p1
  obtain rfl : s0 = s1 := by omega
  obtain rfl : w0 = 89 := by omega
  obtain ⟨uA, u0, u1, u2, u3, u4, u5, u6, u7, u8, u9⟩ := p2
  exact ⟨2, s0, by omega, by omega, by omega, m_mp2 (m_st_wn rfl cf (by decide) hw) (by omega)⟩
theorem k_wdr19 {rn : Int} {rk : Int} {rs : Int} {rq : Int} {rv : Int} {rl : Int} {bb : Int → Int} {nw : Int → Int} {ww : Int → Int} (hrn : 0 ≤ rn ∧ rn ≤ 900) (hrk : 0 ≤ rk ∧ rk ≤ 4) (hrs : 0 ≤ rs ∧ rs ≤ 900) (hrq : 0 ≤ rq ∧ rq ≤ 900) (hbb : ∀ i, -128 ≤ bb i ∧ bb i ≤ 127) {F G s q kk Y : Int} (p0 : p_CFR bb rn nw ww (F)) (p1 : p_WIR bb rn (G)) (p2 : p_CUR bb rn rk rs rq rv rl (s)) (p3 : kk = rk) (p4 : q = rq) (c0 : 0 ≤ F + (-1) * s + (-65536) * Y + (-19456)) (c1 : 0 ≤ s + 65536 * Y + (-1) * F + 19456) (c2 : 0 ≤ G + (-1099511627776) * s + (-824370)) (c3 : 0 ≤ 1099511627776 * s + (-1) * G + 824370) (c4 : 0 ≤ q) (c5 : 0 ≤ (-1) * q + 1023) (c6 : 0 ≤ s) (c7 : 0 ≤ (-1) * s + 900) (c8 : 0 ≤ Y) (c9 : 0 ≤ (-1) * Y + 4294967295) : p_RDR bb rn nw ww (q + 65536 * Y + 20480) := by
  obtain ⟨st, s1, r1, r2, np, W, pk, cf, wr, ro, ⟨x1, x2, x3, x4, x5⟩⟩ := p0
  unfold m_pk at pk
  obtain rfl : s1 = s := by omega
  obtain rfl : st = 19 := by omega
  obtain ⟨w0, s0, y1, y2, y3, y4, hw⟩ := p1
  obtain rfl : s0 = s1 := by omega
  obtain rfl : w0 = 824370 := by omega
  obtain ⟨uA, u0, u1, u2, u3, u4, u5, u6, u7, u8, u9⟩ := p2
  have AT := m_st_w rfl cf (by decide) hw
  rw [← u1] at AT
  exact ⟨20, rq, r1, r2, np, W, (by unfold m_pk; omega), Or.inl ⟨by decide, AT⟩, wr, fun _ => ro (by decide), ⟨fun h => absurd h (by decide), fun h => absurd h (by decide), fun h => absurd h (by unfold m_ps; decide), fun h => absurd h (by decide), fun h => absurd h (by decide)⟩⟩
theorem k_mwr19a {rn : Int} {rk : Int} {rs : Int} {rq : Int} {rv : Int} {rl : Int} {bb : Int → Int} {nw : Int → Int} {ww : Int → Int} (hrn : 0 ≤ rn ∧ rn ≤ 900) (hrk : 0 ≤ rk ∧ rk ≤ 4) (hrs : 0 ≤ rs ∧ rs ≤ 900) (hrq : 0 ≤ rq ∧ rq ≤ 900) (hbb : ∀ i, -128 ≤ bb i ∧ bb i ≤ 127) {F G s q kk Y : Int} (p0 : p_CFR bb rn nw ww (F)) (p1 : p_NIR bb rn (G)) (p2 : p_CUR bb rn rk rs rq rv rl (s)) (p3 : kk = rk) (p4 : q = rq) (c0 : 0 ≤ F + (-1) * s + (-65536) * Y + (-19456)) (c1 : 0 ≤ s + 65536 * Y + (-1) * F + 19456) (c2 : 0 ≤ G + (-1099511627776) * s + (-824370)) (c3 : 0 ≤ 1099511627776 * s + (-1) * G + 824370) (c4 : 0 ≤ kk + (-4)) (c5 : 0 ≤ (-1) * kk + 4) (c6 : 0 ≤ s) (c7 : 0 ≤ (-1) * s + 900) (c8 : 0 ≤ Y) (c9 : 0 ≤ (-1) * Y + 4294967295) : p_HFR bb rn (8 * s + 1) := by
  obtain ⟨st, s1, r1, r2, np, W, pk, cf, wr, ro, ⟨x1, x2, x3, x4, x5⟩⟩ := p0
  unfold m_pk at pk
  obtain rfl : s1 = s := by omega
  obtain rfl : st = 19 := by omega
  obtain ⟨w0, s0, y1, y2, y3, y4, hw⟩ := p1
  obtain rfl : s0 = s1 := by omega
  obtain rfl : w0 = 824370 := by omega
  obtain ⟨uA, u0, u1, u2, u3, u4, u5, u6, u7, u8, u9⟩ := p2
  exact ⟨1, s0, by omega, by omega, by omega, m_mp1 (m_st_wn rfl cf (by decide) hw) (by omega)⟩
theorem k_mwr19b {rn : Int} {rk : Int} {rs : Int} {rq : Int} {rv : Int} {rl : Int} {bb : Int → Int} {nw : Int → Int} {ww : Int → Int} (hrn : 0 ≤ rn ∧ rn ≤ 900) (hrk : 0 ≤ rk ∧ rk ≤ 4) (hrs : 0 ≤ rs ∧ rs ≤ 900) (hrq : 0 ≤ rq ∧ rq ≤ 900) (hbb : ∀ i, -128 ≤ bb i ∧ bb i ≤ 127) {F G s q kk Y : Int} (p0 : p_CFR bb rn nw ww (F)) (p1 : p_NIR bb rn (G)) (p2 : p_CUR bb rn rk rs rq rv rl (s)) (p3 : kk = rk) (p4 : q = rq) (c0 : 0 ≤ F + (-1) * s + (-65536) * Y + (-19456)) (c1 : 0 ≤ s + 65536 * Y + (-1) * F + 19456) (c2 : 0 ≤ G + (-1099511627776) * s + (-824370)) (c3 : 0 ≤ 1099511627776 * s + (-1) * G + 824370) (c4 : 0 ≤ (-1) * kk + 3) (c5 : 0 ≤ s) (c6 : 0 ≤ (-1) * s + 900) (c7 : 0 ≤ Y) (c8 : 0 ≤ (-1) * Y + 4294967295) : p_HFR bb rn (8 * s + 2) := by
  obtain ⟨st, s1, r1, r2, np, W, pk, cf, wr, ro, ⟨x1, x2, x3, x4, x5⟩⟩ := p0
  unfold m_pk at pk
  obtain rfl : s1 = s := by omega
  obtain rfl : st = 19 := by omega
  obtain ⟨w0, s0, y1, y2, y3, y4, hw⟩ := p1
  obtain rfl : s0 = s1 := by omega
  obtain rfl : w0 = 824370 := by omega
  obtain ⟨uA, u0, u1, u2, u3, u4, u5, u6, u7, u8, u9⟩ := p2
  exact ⟨2, s0, by omega, by omega, by omega, m_mp2 (m_st_wn rfl cf (by decide) hw) (by omega)⟩
theorem k_cfr1 {rn : Int} {bb : Int → Int} {nw : Int → Int} {ww : Int → Int} (hrn : 0 ≤ rn ∧ rn ≤ 900) (hbb : ∀ i, -128 ≤ bb i ∧ bb i ≤ 127) {H N s Y : Int} (p0 : p_RDR bb rn nw ww (H)) (p1 : p_NXR bb rn (N)) (c0 : 0 ≤ H + (-1) * N + 1024 * s + (-65536) * Y + (-1024)) (c1 : 0 ≤ 65536 * Y + (-1) * H + N + (-1024) * s + 1024) (c2 : 0 ≤ N + (-1024) * s) (c3 : 0 ≤ (-1) * N + 1024 * s + 1023) (c4 : 0 ≤ s) (c5 : 0 ≤ Y) (c6 : 0 ≤ (-1) * Y + 4294967295) : p_CFR bb rn nw ww (H + (-1) * N + 1025 * s) := by
  obtain ⟨st, q1, r1, r2, np, W, pk, cf, wr, ro, xx⟩ := p0
  unfold m_pk at pk
  obtain ⟨e2, q2, y2, n1, n2, n3, n4, n5⟩ := p1
  obtain rfl : q2 = s := by omega
  obtain rfl : e2 = q1 := by omega
  obtain rfl : st = 1 := by omega
  have n6 : q2 ≤ 900 := n5 ▸ m_sk_900 hrn.2 (by omega)
  rw [← n5] at cf
  exact ⟨1, q2, r1, r2, np, W, (by unfold m_pk; omega), cf, wr, ro, xx⟩
theorem k_cfp2 {rn : Int} {bb : Int → Int} {nw : Int → Int} {ww : Int → Int} (hrn : 0 ≤ rn ∧ rn ≤ 900) (hbb : ∀ i, -128 ≤ bb i ∧ bb i ≤ 127) {H N s Y : Int} (p0 : p_RDP bb rn nw ww (H)) (p1 : p_NXR bb rn (N)) (c0 : 0 ≤ H + (-1) * N + 1024 * s + (-65536) * Y + (-2048)) (c1 : 0 ≤ 65536 * Y + (-1) * H + N + (-1024) * s + 2048) (c2 : 0 ≤ N + (-1024) * s) (c3 : 0 ≤ (-1) * N + 1024 * s + 1023) (c4 : 0 ≤ s) (c5 : 0 ≤ Y) (c6 : 0 ≤ (-1) * Y + 4294967295) : p_CFP bb rn nw ww (H + (-1) * N + 1025 * s) := by
  obtain ⟨st, q1, r1, r2, np, W, pk, cf, wr, ro, xx⟩ := p0
  unfold m_pk at pk
  obtain ⟨e2, q2, y2, n1, n2, n3, n4, n5⟩ := p1
  obtain rfl : q2 = s := by omega
  obtain rfl : e2 = q1 := by omega
  obtain rfl : st = 2 := by omega
  have n6 : q2 ≤ 900 := n5 ▸ m_sk_900 hrn.2 (by omega)
  rw [← n5] at cf
  exact ⟨2, q2, r1, r2, np, W, (by unfold m_pk; omega), cf, wr, ro, xx⟩
theorem k_cfr3 {rn : Int} {bb : Int → Int} {nw : Int → Int} {ww : Int → Int} (hrn : 0 ≤ rn ∧ rn ≤ 900) (hbb : ∀ i, -128 ≤ bb i ∧ bb i ≤ 127) {H N s Y : Int} (p0 : p_RDR bb rn nw ww (H)) (p1 : p_NXR bb rn (N)) (c0 : 0 ≤ H + (-1) * N + 1024 * s + (-65536) * Y + (-3072)) (c1 : 0 ≤ 65536 * Y + (-1) * H + N + (-1024) * s + 3072) (c2 : 0 ≤ N + (-1024) * s) (c3 : 0 ≤ (-1) * N + 1024 * s + 1023) (c4 : 0 ≤ s) (c5 : 0 ≤ Y) (c6 : 0 ≤ (-1) * Y + 4294967295) : p_CFR bb rn nw ww (H + (-1) * N + 1025 * s) := by
  obtain ⟨st, q1, r1, r2, np, W, pk, cf, wr, ro, xx⟩ := p0
  unfold m_pk at pk
  obtain ⟨e2, q2, y2, n1, n2, n3, n4, n5⟩ := p1
  obtain rfl : q2 = s := by omega
  obtain rfl : e2 = q1 := by omega
  obtain rfl : st = 3 := by omega
  have n6 : q2 ≤ 900 := n5 ▸ m_sk_900 hrn.2 (by omega)
  rw [← n5] at cf
  exact ⟨3, q2, r1, r2, np, W, (by unfold m_pk; omega), cf, wr, ro, xx⟩
theorem k_cfp4 {rn : Int} {bb : Int → Int} {nw : Int → Int} {ww : Int → Int} (hrn : 0 ≤ rn ∧ rn ≤ 900) (hbb : ∀ i, -128 ≤ bb i ∧ bb i ≤ 127) {H N s Y : Int} (p0 : p_RDP bb rn nw ww (H)) (p1 : p_NXR bb rn (N)) (c0 : 0 ≤ H + (-1) * N + 1024 * s + (-65536) * Y + (-4096)) (c1 : 0 ≤ 65536 * Y + (-1) * H + N + (-1024) * s + 4096) (c2 : 0 ≤ N + (-1024) * s) (c3 : 0 ≤ (-1) * N + 1024 * s + 1023) (c4 : 0 ≤ s) (c5 : 0 ≤ Y) (c6 : 0 ≤ (-1) * Y + 4294967295) : p_CFP bb rn nw ww (H + (-1) * N + 1025 * s) := by
  obtain ⟨st, q1, r1, r2, np, W, pk, cf, wr, ro, xx⟩ := p0
  unfold m_pk at pk
  obtain ⟨e2, q2, y2, n1, n2, n3, n4, n5⟩ := p1
  obtain rfl : q2 = s := by omega
  obtain rfl : e2 = q1 := by omega
  obtain rfl : st = 4 := by omega
  have n6 : q2 ≤ 900 := n5 ▸ m_sk_900 hrn.2 (by omega)
  rw [← n5] at cf
  exact ⟨4, q2, r1, r2, np, W, (by unfold m_pk; omega), cf, wr, ro, xx⟩
theorem k_cfr5 {rn : Int} {bb : Int → Int} {nw : Int → Int} {ww : Int → Int} (hrn : 0 ≤ rn ∧ rn ≤ 900) (hbb : ∀ i, -128 ≤ bb i ∧ bb i ≤ 127) {H N s Y : Int} (p0 : p_RDR bb rn nw ww (H)) (p1 : p_NXR bb rn (N)) (c0 : 0 ≤ H + (-1) * N + 1024 * s + (-65536) * Y + (-5120)) (c1 : 0 ≤ 65536 * Y + (-1) * H + N + (-1024) * s + 5120) (c2 : 0 ≤ N + (-1024) * s) (c3 : 0 ≤ (-1) * N + 1024 * s + 1023) (c4 : 0 ≤ s) (c5 : 0 ≤ Y) (c6 : 0 ≤ (-1) * Y + 4294967295) : p_CFR bb rn nw ww (H + (-1) * N + 1025 * s) := by
  obtain ⟨st, q1, r1, r2, np, W, pk, cf, wr, ro, xx⟩ := p0
  unfold m_pk at pk
  obtain ⟨e2, q2, y2, n1, n2, n3, n4, n5⟩ := p1
  obtain rfl : q2 = s := by omega
  obtain rfl : e2 = q1 := by omega
  obtain rfl : st = 5 := by omega
  have n6 : q2 ≤ 900 := n5 ▸ m_sk_900 hrn.2 (by omega)
  rw [← n5] at cf
  exact ⟨5, q2, r1, r2, np, W, (by unfold m_pk; omega), cf, wr, ro, xx⟩
theorem k_cfr6 {rn : Int} {bb : Int → Int} {nw : Int → Int} {ww : Int → Int} (hrn : 0 ≤ rn ∧ rn ≤ 900) (hbb : ∀ i, -128 ≤ bb i ∧ bb i ≤ 127) {H N s Y : Int} (p0 : p_RDR bb rn nw ww (H)) (p1 : p_NXR bb rn (N)) (c0 : 0 ≤ H + (-1) * N + 1024 * s + (-65536) * Y + (-6144)) (c1 : 0 ≤ 65536 * Y + (-1) * H + N + (-1024) * s + 6144) (c2 : 0 ≤ N + (-1024) * s) (c3 : 0 ≤ (-1) * N + 1024 * s + 1023) (c4 : 0 ≤ s) (c5 : 0 ≤ Y) (c6 : 0 ≤ (-1) * Y + 4294967295) : p_CFR bb rn nw ww (H + (-1) * N + 1025 * s) := by
  obtain ⟨st, q1, r1, r2, np, W, pk, cf, wr, ro, xx⟩ := p0
  unfold m_pk at pk
  obtain ⟨e2, q2, y2, n1, n2, n3, n4, n5⟩ := p1
  obtain rfl : q2 = s := by omega
  obtain rfl : e2 = q1 := by omega
  obtain rfl : st = 6 := by omega
  have n6 : q2 ≤ 900 := n5 ▸ m_sk_900 hrn.2 (by omega)
  rw [← n5] at cf
  exact ⟨6, q2, r1, r2, np, W, (by unfold m_pk; omega), cf, wr, ro, xx⟩
theorem k_cfr7 {rn : Int} {bb : Int → Int} {nw : Int → Int} {ww : Int → Int} (hrn : 0 ≤ rn ∧ rn ≤ 900) (hbb : ∀ i, -128 ≤ bb i ∧ bb i ≤ 127) {H N s Y : Int} (p0 : p_RDR bb rn nw ww (H)) (p1 : p_NXR bb rn (N)) (c0 : 0 ≤ H + (-1) * N + 1024 * s + (-65536) * Y + (-7168)) (c1 : 0 ≤ 65536 * Y + (-1) * H + N + (-1024) * s + 7168) (c2 : 0 ≤ N + (-1024) * s) (c3 : 0 ≤ (-1) * N + 1024 * s + 1023) (c4 : 0 ≤ s) (c5 : 0 ≤ Y) (c6 : 0 ≤ (-1) * Y + 4294967295) : p_CFR bb rn nw ww (H + (-1) * N + 1025 * s) := by
  obtain ⟨st, q1, r1, r2, np, W, pk, cf, wr, ro, xx⟩ := p0
  unfold m_pk at pk
  obtain ⟨e2, q2, y2, n1, n2, n3, n4, n5⟩ := p1
  obtain rfl : q2 = s := by omega
  obtain rfl : e2 = q1 := by omega
  obtain rfl : st = 7 := by omega
  have n6 : q2 ≤ 900 := n5 ▸ m_sk_900 hrn.2 (by omega)
  rw [← n5] at cf
  exact ⟨7, q2, r1, r2, np, W, (by unfold m_pk; omega), cf, wr, ro, xx⟩
theorem k_cfr8 {rn : Int} {bb : Int → Int} {nw : Int → Int} {ww : Int → Int} (hrn : 0 ≤ rn ∧ rn ≤ 900) (hbb : ∀ i, -128 ≤ bb i ∧ bb i ≤ 127) {H N s Y : Int} (p0 : p_RDR bb rn nw ww (H)) (p1 : p_NXR bb rn (N)) (c0 : 0 ≤ H + (-1) * N + 1024 * s + (-65536) * Y + (-8192)) (c1 : 0 ≤ 65536 * Y + (-1) * H + N + (-1024) * s + 8192) (c2 : 0 ≤ N + (-1024) * s) (c3 : 0 ≤ (-1) * N + 1024 * s + 1023) (c4 : 0 ≤ s) (c5 : 0 ≤ Y) (c6 : 0 ≤ (-1) * Y + 4294967295) : p_CFR bb rn nw ww (H + (-1) * N + 1025 * s) := by
  obtain ⟨st, q1, r1, r2, np, W, pk, cf, wr, ro, xx⟩ := p0
  unfold m_pk at pk
  obtain ⟨e2, q2, y2, n1, n2, n3, n4, n5⟩ := p1
  obtain rfl : q2 = s := by omega
  obtain rfl : e2 = q1 := by omega
  obtain rfl : st = 8 := by omega
  have n6 : q2 ≤ 900 := n5 ▸ m_sk_900 hrn.2 (by omega)
  rw [← n5] at cf
  exact ⟨8, q2, r1, r2, np, W, (by unfold m_pk; omega), cf, wr, ro, xx⟩
theorem k_cfr9 {rn : Int} {bb : Int → Int} {nw : Int → Int} {ww : Int → Int} (hrn : 0 ≤ rn ∧ rn ≤ 900) (hbb : ∀ i, -128 ≤ bb i ∧ bb i ≤ 127) {H N s Y : Int} (p0 : p_RDR bb rn nw ww (H)) (p1 : p_NXR bb rn (N)) (c0 : 0 ≤ H + (-1) * N + 1024 * s + (-65536) * Y + (-9216)) (c1 : 0 ≤ 65536 * Y + (-1) * H + N + (-1024) * s + 9216) (c2 : 0 ≤ N + (-1024) * s) (c3 : 0 ≤ (-1) * N + 1024 * s + 1023) (c4 : 0 ≤ s) (c5 : 0 ≤ Y) (c6 : 0 ≤ (-1) * Y + 4294967295) : p_CFR bb rn nw ww (H + (-1) * N + 1025 * s) := by
  obtain ⟨st, q1, r1, r2, np, W, pk, cf, wr, ro, xx⟩ := p0
  unfold m_pk at pk
  obtain ⟨e2, q2, y2, n1, n2, n3, n4, n5⟩ := p1
  obtain rfl : q2 = s := by omega
  obtain rfl : e2 = q1 := by omega
  obtain rfl : st = 9 := by omega
  have n6 : q2 ≤ 900 := n5 ▸ m_sk_900 hrn.2 (by omega)
  rw [← n5] at cf
  exact ⟨9, q2, r1, r2, np, W, (by unfold m_pk; omega), cf, wr, ro, xx⟩
theorem k_cfr10 {rn : Int} {bb : Int → Int} {nw : Int → Int} {ww : Int → Int} (hrn : 0 ≤ rn ∧ rn ≤ 900) (hbb : ∀ i, -128 ≤ bb i ∧ bb i ≤ 127) {H N s Y : Int} (p0 : p_RDR bb rn nw ww (H)) (p1 : p_NXR bb rn (N)) (c0 : 0 ≤ H + (-1) * N + 1024 * s + (-65536) * Y + (-10240)) (c1 : 0 ≤ 65536 * Y + (-1) * H + N + (-1024) * s + 10240) (c2 : 0 ≤ N + (-1024) * s) (c3 : 0 ≤ (-1) * N + 1024 * s + 1023) (c4 : 0 ≤ s) (c5 : 0 ≤ Y) (c6 : 0 ≤ (-1) * Y + 4294967295) : p_CFR bb rn nw ww (H + (-1) * N + 1025 * s) := by
  obtain ⟨st, q1, r1, r2, np, W, pk, cf, wr, ro, xx⟩ := p0
  unfold m_pk at pk
  obtain ⟨e2, q2, y2, n1, n2, n3, n4, n5⟩ := p1
  obtain rfl : q2 = s := by omega
  obtain rfl : e2 = q1 := by omega
  obtain rfl : st = 10 := by omega
  have n6 : q2 ≤ 900 := n5 ▸ m_sk_900 hrn.2 (by omega)
  rw [← n5] at cf
  exact ⟨10, q2, r1, r2, np, W, (by unfold m_pk; omega), cf, wr, ro, xx⟩
theorem k_cfr11 {rn : Int} {bb : Int → Int} {nw : Int → Int} {ww : Int → Int} (hrn : 0 ≤ rn ∧ rn ≤ 900) (hbb : ∀ i, -128 ≤ bb i ∧ bb i ≤ 127) {H N s Y : Int} (p0 : p_RDR bb rn nw ww (H)) (p1 : p_NXR bb rn (N)) (c0 : 0 ≤ H + (-1) * N + 1024 * s + (-65536) * Y + (-11264)) (c1 : 0 ≤ 65536 * Y + (-1) * H + N + (-1024) * s + 11264) (c2 : 0 ≤ N + (-1024) * s) (c3 : 0 ≤ (-1) * N + 1024 * s + 1023) (c4 : 0 ≤ s) (c5 : 0 ≤ Y) (c6 : 0 ≤ (-1) * Y + 4294967295) : p_CFR bb rn nw ww (H + (-1) * N + 1025 * s) := by
  obtain ⟨st, q1, r1, r2, np, W, pk, cf, wr, ro, xx⟩ := p0
  unfold m_pk at pk
  obtain ⟨e2, q2, y2, n1, n2, n3, n4, n5⟩ := p1
  obtain rfl : q2 = s := by omega
  obtain rfl : e2 = q1 := by omega
  obtain rfl : st = 11 := by omega
  have n6 : q2 ≤ 900 := n5 ▸ m_sk_900 hrn.2 (by omega)
  rw [← n5] at cf
  exact ⟨11, q2, r1, r2, np, W, (by unfold m_pk; omega), cf, wr, ro, xx⟩
theorem k_cfr12 {rn : Int} {bb : Int → Int} {nw : Int → Int} {ww : Int → Int} (hrn : 0 ≤ rn ∧ rn ≤ 900) (hbb : ∀ i, -128 ≤ bb i ∧ bb i ≤ 127) {H N s Y : Int} (p0 : p_RDR bb rn nw ww (H)) (p1 : p_NXR bb rn (N)) (c0 : 0 ≤ H + (-1) * N + 1024 * s + (-65536) * Y + (-12288)) (c1 : 0 ≤ 65536 * Y + (-1) * H + N + (-1024) * s + 12288) (c2 : 0 ≤ N + (-1024) * s) (c3 : 0 ≤ (-1) * N + 1024 * s + 1023) (c4 : 0 ≤ s) (c5 : 0 ≤ Y) (c6 : 0 ≤ (-1) * Y + 4294967295) : p_CFR bb rn nw ww (H + (-1) * N + 1025 * s) := by
  obtain ⟨st, q1, r1, r2, np, W, pk, cf, wr, ro, xx⟩ := p0
  unfold m_pk at pk
  obtain ⟨e2, q2, y2, n1, n2, n3, n4, n5⟩ := p1
  obtain rfl : q2 = s := by omega
  obtain rfl : e2 = q1 := by omega
  obtain rfl : st = 12 := by omega
  have n6 : q2 ≤ 900 := n5 ▸ m_sk_900 hrn.2 (by omega)
  rw [← n5] at cf
  exact ⟨12, q2, r1, r2, np, W, (by unfold m_pk; omega), cf, wr, ro, xx⟩
theorem k_cfp13 {rn : Int} {bb : Int → Int} {nw : Int → Int} {ww : Int → Int} (hrn : 0 ≤ rn ∧ rn ≤ 900) (hbb : ∀ i, -128 ≤ bb i ∧ bb i ≤ 127) {H N s Y : Int} (p0 : p_RDP bb rn nw ww (H)) (p1 : p_NXR bb rn (N)) (c0 : 0 ≤ H + (-1) * N + 1024 * s + (-65536) * Y + (-13312)) (c1 : 0 ≤ 65536 * Y + (-1) * H + N + (-1024) * s + 13312) (c2 : 0 ≤ N + (-1024) * s) (c3 : 0 ≤ (-1) * N + 1024 * s + 1023) (c4 : 0 ≤ s) (c5 : 0 ≤ Y) (c6 : 0 ≤ (-1) * Y + 4294967295) : p_CFP bb rn nw ww (H + (-1) * N + 1025 * s) := by
  obtain ⟨st, q1, r1, r2, np, W, pk, cf, wr, ro, xx⟩ := p0
  unfold m_pk at pk
  obtain ⟨e2, q2, y2, n1, n2, n3, n4, n5⟩ := p1
  obtain rfl : q2 = s := by omega
  obtain rfl : e2 = q1 := by omega
  obtain rfl : st = 13 := by omega
  have n6 : q2 ≤ 900 := n5 ▸ m_sk_900 hrn.2 (by omega)
  rw [← n5] at cf
  exact ⟨13, q2, r1, r2, np, W, (by unfold m_pk; omega), cf, wr, ro, xx⟩
theorem k_cfr14 {rn : Int} {bb : Int → Int} {nw : Int → Int} {ww : Int → Int} (hrn : 0 ≤ rn ∧ rn ≤ 900) (hbb : ∀ i, -128 ≤ bb i ∧ bb i ≤ 127) {H N s Y : Int} (p0 : p_RDR bb rn nw ww (H)) (p1 : p_NXR bb rn (N)) (c0 : 0 ≤ H + (-1) * N + 1024 * s + (-65536) * Y + (-14336)) (c1 : 0 ≤ 65536 * Y + (-1) * H + N + (-1024) * s + 14336) (c2 : 0 ≤ N + (-1024) * s) (c3 : 0 ≤ (-1) * N + 1024 * s + 1023) (c4 : 0 ≤ s) (c5 : 0 ≤ Y) (c6 : 0 ≤ (-1) * Y + 4294967295) : p_CFR bb rn nw ww (H + (-1) * N + 1025 * s) := by
  obtain ⟨st, q1, r1, r2, np, W, pk, cf, wr, ro, xx⟩ := p0
  unfold m_pk at pk
  obtain ⟨e2, q2, y2, n1, n2, n3, n4, n5⟩ := p1
  obtain rfl : q2 = s := by omega
  obtain rfl : e2 = q1 := by omega
  obtain rfl : st = 14 := by omega
  have n6 : q2 ≤ 900 := n5 ▸ m_sk_900 hrn.2 (by omega)
  rw [← n5] at cf
  exact ⟨14, q2, r1, r2, np, W, (by unfold m_pk; omega), cf, wr, ro, xx⟩
theorem k_cfr15 {rn : Int} {bb : Int → Int} {nw : Int → Int} {ww : Int → Int} (hrn : 0 ≤ rn ∧ rn ≤ 900) (hbb : ∀ i, -128 ≤ bb i ∧ bb i ≤ 127) {H N s Y : Int} (p0 : p_RDR bb rn nw ww (H)) (p1 : p_NXR bb rn (N)) (c0 : 0 ≤ H + (-1) * N + 1024 * s + (-65536) * Y + (-15360)) (c1 : 0 ≤ 65536 * Y + (-1) * H + N + (-1024) * s + 15360) (c2 : 0 ≤ N + (-1024) * s) (c3 : 0 ≤ (-1) * N + 1024 * s + 1023) (c4 : 0 ≤ s) (c5 : 0 ≤ Y) (c6 : 0 ≤ (-1) * Y + 4294967295) : p_CFR bb rn nw ww (H + (-1) * N + 1025 * s) := by
  obtain ⟨st, q1, r1, r2, np, W, pk, cf, wr, ro, xx⟩ := p0
  unfold m_pk at pk
  obtain ⟨e2, q2, y2, n1, n2, n3, n4, n5⟩ := p1
  obtain rfl : q2 = s := by omega
  obtain rfl : e2 = q1 := by omega
  obtain rfl : st = 15 := by omega
  have n6 : q2 ≤ 900 := n5 ▸ m_sk_900 hrn.2 (by omega)
  rw [← n5] at cf
  exact ⟨15, q2, r1, r2, np, W, (by unfold m_pk; omega), cf, wr, ro, xx⟩
theorem k_cfr17 {rn : Int} {bb : Int → Int} {nw : Int → Int} {ww : Int → Int} (hrn : 0 ≤ rn ∧ rn ≤ 900) (hbb : ∀ i, -128 ≤ bb i ∧ bb i ≤ 127) {H N s Y : Int} (p0 : p_RDR bb rn nw ww (H)) (p1 : p_NXR bb rn (N)) (c0 : 0 ≤ H + (-1) * N + 1024 * s + (-65536) * Y + (-17408)) (c1 : 0 ≤ 65536 * Y + (-1) * H + N + (-1024) * s + 17408) (c2 : 0 ≤ N + (-1024) * s) (c3 : 0 ≤ (-1) * N + 1024 * s + 1023) (c4 : 0 ≤ s) (c5 : 0 ≤ Y) (c6 : 0 ≤ (-1) * Y + 4294967295) : p_CFR bb rn nw ww (H + (-1) * N + 1025 * s) := by
  obtain ⟨st, q1, r1, r2, np, W, pk, cf, wr, ro, xx⟩ := p0
  unfold m_pk at pk
  obtain ⟨e2, q2, y2, n1, n2, n3, n4, n5⟩ := p1
  obtain rfl : q2 = s := by omega
  obtain rfl : e2 = q1 := by omega
  obtain rfl : st = 17 := by omega
  have n6 : q2 ≤ 900 := n5 ▸ m_sk_900 hrn.2 (by omega)
  rw [← n5] at cf
  exact ⟨17, q2, r1, r2, np, W, (by unfold m_pk; omega), cf, wr, ro, xx⟩
theorem k_cfr18 {rn : Int} {bb : Int → Int} {nw : Int → Int} {ww : Int → Int} (hrn : 0 ≤ rn ∧ rn ≤ 900) (hbb : ∀ i, -128 ≤ bb i ∧ bb i ≤ 127) {H N s Y : Int} (p0 : p_RDR bb rn nw ww (H)) (p1 : p_NXR bb rn (N)) (c0 : 0 ≤ H + (-1) * N + 1024 * s + (-65536) * Y + (-18432)) (c1 : 0 ≤ 65536 * Y + (-1) * H + N + (-1024) * s + 18432) (c2 : 0 ≤ N + (-1024) * s) (c3 : 0 ≤ (-1) * N + 1024 * s + 1023) (c4 : 0 ≤ s) (c5 : 0 ≤ Y) (c6 : 0 ≤ (-1) * Y + 4294967295) : p_CFR bb rn nw ww (H + (-1) * N + 1025 * s) := by
  obtain ⟨st, q1, r1, r2, np, W, pk, cf, wr, ro, xx⟩ := p0
  unfold m_pk at pk
  obtain ⟨e2, q2, y2, n1, n2, n3, n4, n5⟩ := p1
  obtain rfl : q2 = s := by omega
  obtain rfl : e2 = q1 := by omega
  obtain rfl : st = 18 := by omega
  have n6 : q2 ≤ 900 := n5 ▸ m_sk_900 hrn.2 (by omega)
  rw [← n5] at cf
  exact ⟨18, q2, r1, r2, np, W, (by unfold m_pk; omega), cf, wr, ro, xx⟩
theorem k_cfr20 {rn : Int} {bb : Int → Int} {nw : Int → Int} {ww : Int → Int} (hrn : 0 ≤ rn ∧ rn ≤ 900) (hbb : ∀ i, -128 ≤ bb i ∧ bb i ≤ 127) {H N s Y : Int} (p0 : p_RDR bb rn nw ww (H)) (p1 : p_NXR bb rn (N)) (c0 : 0 ≤ H + (-1) * N + 1024 * s + (-65536) * Y + (-20480)) (c1 : 0 ≤ 65536 * Y + (-1) * H + N + (-1024) * s + 20480) (c2 : 0 ≤ N + (-1024) * s) (c3 : 0 ≤ (-1) * N + 1024 * s + 1023) (c4 : 0 ≤ s) (c5 : 0 ≤ Y) (c6 : 0 ≤ (-1) * Y + 4294967295) : p_CFR bb rn nw ww (H + (-1) * N + 1025 * s) := by
  obtain ⟨st, q1, r1, r2, np, W, pk, cf, wr, ro, xx⟩ := p0
  unfold m_pk at pk
  obtain ⟨e2, q2, y2, n1, n2, n3, n4, n5⟩ := p1
  obtain rfl : q2 = s := by omega
  obtain rfl : e2 = q1 := by omega
  obtain rfl : st = 20 := by omega
  have n6 : q2 ≤ 900 := n5 ▸ m_sk_900 hrn.2 (by omega)
  rw [← n5] at cf
  exact ⟨20, q2, r1, r2, np, W, (by unfold m_pk; omega), cf, wr, ro, xx⟩
theorem k_cfr21 {rn : Int} {bb : Int → Int} {nw : Int → Int} {ww : Int → Int} (hrn : 0 ≤ rn ∧ rn ≤ 900) (hbb : ∀ i, -128 ≤ bb i ∧ bb i ≤ 127) {H N s Y : Int} (p0 : p_RDR bb rn nw ww (H)) (p1 : p_NXR bb rn (N)) (c0 : 0 ≤ H + (-1) * N + 1024 * s + (-65536) * Y + (-21504)) (c1 : 0 ≤ 65536 * Y + (-1) * H + N + (-1024) * s + 21504) (c2 : 0 ≤ N + (-1024) * s) (c3 : 0 ≤ (-1) * N + 1024 * s + 1023) (c4 : 0 ≤ s) (c5 : 0 ≤ Y) (c6 : 0 ≤ (-1) * Y + 4294967295) : p_CFR bb rn nw ww (H + (-1) * N + 1025 * s) := by
  obtain ⟨st, q1, r1, r2, np, W, pk, cf, wr, ro, xx⟩ := p0
  unfold m_pk at pk
  obtain ⟨e2, q2, y2, n1, n2, n3, n4, n5⟩ := p1
  obtain rfl : q2 = s := by omega
  obtain rfl : e2 = q1 := by omega
  obtain rfl : st = 21 := by omega
  have n6 : q2 ≤ 900 := n5 ▸ m_sk_900 hrn.2 (by omega)
  rw [← n5] at cf
  exact ⟨21, q2, r1, r2, np, W, (by unfold m_pk; omega), cf, wr, ro, xx⟩
theorem k_cfr22 {rn : Int} {bb : Int → Int} {nw : Int → Int} {ww : Int → Int} (hrn : 0 ≤ rn ∧ rn ≤ 900) (hbb : ∀ i, -128 ≤ bb i ∧ bb i ≤ 127) {H N s Y : Int} (p0 : p_RDR bb rn nw ww (H)) (p1 : p_NXR bb rn (N)) (c0 : 0 ≤ H + (-1) * N + 1024 * s + (-65536) * Y + (-22528)) (c1 : 0 ≤ 65536 * Y + (-1) * H + N + (-1024) * s + 22528) (c2 : 0 ≤ N + (-1024) * s) (c3 : 0 ≤ (-1) * N + 1024 * s + 1023) (c4 : 0 ≤ s) (c5 : 0 ≤ Y) (c6 : 0 ≤ (-1) * Y + 4294967295) : p_CFR bb rn nw ww (H + (-1) * N + 1025 * s) := by
  obtain ⟨st, q1, r1, r2, np, W, pk, cf, wr, ro, xx⟩ := p0
  unfold m_pk at pk
  obtain ⟨e2, q2, y2, n1, n2, n3, n4, n5⟩ := p1
  obtain rfl : q2 = s := by omega
  obtain rfl : e2 = q1 := by omega
  obtain rfl : st = 22 := by omega
  have n6 : q2 ≤ 900 := n5 ▸ m_sk_900 hrn.2 (by omega)
  rw [← n5] at cf
  exact ⟨22, q2, r1, r2, np, W, (by unfold m_pk; omega), cf, wr, ro, xx⟩
theorem k_cfp23 {rn : Int} {bb : Int → Int} {nw : Int → Int} {ww : Int → Int} (hrn : 0 ≤ rn ∧ rn ≤ 900) (hbb : ∀ i, -128 ≤ bb i ∧ bb i ≤ 127) {H N s Y : Int} (p0 : p_RDP bb rn nw ww (H)) (p1 : p_NXR bb rn (N)) (c0 : 0 ≤ H + (-1) * N + 1024 * s + (-65536) * Y + (-23552)) (c1 : 0 ≤ 65536 * Y + (-1) * H + N + (-1024) * s + 23552) (c2 : 0 ≤ N + (-1024) * s) (c3 : 0 ≤ (-1) * N + 1024 * s + 1023) (c4 : 0 ≤ s) (c5 : 0 ≤ Y) (c6 : 0 ≤ (-1) * Y + 4294967295) : p_CFP bb rn nw ww (H + (-1) * N + 1025 * s) := by
  obtain ⟨st, q1, r1, r2, np, W, pk, cf, wr, ro, xx⟩ := p0
  unfold m_pk at pk
  obtain ⟨e2, q2, y2, n1, n2, n3, n4, n5⟩ := p1
  obtain rfl : q2 = s := by omega
  obtain rfl : e2 = q1 := by omega
  obtain rfl : st = 23 := by omega
  have n6 : q2 ≤ 900 := n5 ▸ m_sk_900 hrn.2 (by omega)
  rw [← n5] at cf
  exact ⟨23, q2, r1, r2, np, W, (by unfold m_pk; omega), cf, wr, ro, xx⟩
