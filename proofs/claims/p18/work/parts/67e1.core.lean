-- 67e1.core: the rules of join, years, against, dated in numbers (printed by wip/p5/gen68.py)
theorem k_mfback3 {fy : Int → Int} {fy3 : Int → Int} (p0 : p_AE525_15 fy fy3 (0)) : p_MF3 fy fy3 (0) := by
  exact fun i a b => (p0 i a b).symm
theorem k_tfm3 {bk : Int → Int} {cA : Int → Int} {cB : Int → Int} {cA3 : Int → Int} {cB3 : Int → Int} {bk3 : Int → Int} {fy : Int → Int} {fy3 : Int → Int} (lcA : ∀ i, 0 ≤ i → i < 6 → cA i = bk (0 + i)) (lcB : ∀ i, 0 ≤ i → i < 42 → cB i = bk (7 + i)) (lcA3 : ∀ i, 0 ≤ i → i < 6 → cA3 i = bk3 (0 + i)) (lcB3 : ∀ i, 0 ≤ i → i < 42 → cB3 i = bk3 (7 + i)) (p0 : p_TF0 fy cA cB (0)) (p1 : p_MF3 fy fy3 (0)) (p2 : p_CB03 bk bk3 (360)) : p_TF3 fy3 cA3 cB3 (0) := by
  exact m_TF_ext p0 p1 (fun i a b => by rw [lcA3 i a b, lcA i a b]; exact p2 (0 + i) (by omega) (by omega) (by omega)) (fun i a b => by rw [lcB3 i a b, lcB i a b]; exact p2 (7 + i) (by omega) (by omega) (by omega))
theorem k_tfb3 {bk : Int → Int} {cA : Int → Int} {cB : Int → Int} {cA3 : Int → Int} {cB3 : Int → Int} {bk3 : Int → Int} {fy : Int → Int} {fy3 : Int → Int} (lcA : ∀ i, 0 ≤ i → i < 6 → cA i = bk (0 + i)) (lcB : ∀ i, 0 ≤ i → i < 42 → cB i = bk (7 + i)) (lcA3 : ∀ i, 0 ≤ i → i < 6 → cA3 i = bk3 (0 + i)) (lcB3 : ∀ i, 0 ≤ i → i < 42 → cB3 i = bk3 (7 + i)) (p0 : p_TF3 fy3 cA3 cB3 (0)) (p1 : p_MF3 fy fy3 (0)) (p2 : p_CB30 bk bk3 (360)) : p_TF0 fy cA cB (0) := by
  exact m_TF_ext p0 (fun i a b => (p1 i a b).symm) (fun i a b => by rw [lcA3 i a b, lcA i a b]; exact p2 (0 + i) (by omega) (by omega) (by omega)) (fun i a b => by rw [lcB3 i a b, lcB i a b]; exact p2 (7 + i) (by omega) (by omega) (by omega))
theorem k_okf {kp : Int → Int} {cA : Int → Int} {cB : Int → Int} {fy : Int → Int} {i z k : Int} (i1 : 0 ≤ i) (p0 : p_TF0 fy cA cB (0)) (p1 : p_KPT kp cA cB (145)) (p2 : p_LKP kp (k + 512 * z + 1099511627776)) (c0 : 0 ≤ i + (-1) * k) (c1 : 0 ≤ k + (-1) * i) (c2 : 0 ≤ k) (c3 : 0 ≤ (-1) * k + 144) (c4 : 0 ≤ z + 2147483648) (c5 : 0 ≤ (-1) * z + 2147483647) : p_TF0 fy (m_upo 0 6 cA i z) (m_upo 7 42 cB i z) (0) := by
  obtain ⟨k1, z1, e1, g1, g2, g3, g4, g5⟩ := p2
  obtain ⟨rfl, rfl⟩ : k1 = k ∧ z1 = z := by omega
  rw [m_upo_id (off := 0) (n := 6) (fun p a b c => by rw [← p1.1 p b (by omega) (by omega), show p = k1 by omega]; exact g5), m_upo_id (off := 7) (n := 42) (fun p a b c => by rw [← p1.2 p b (by omega) (by omega), show 7 + p = k1 by omega]; exact g5)]
  exact p0
theorem k_yf {yo : Int} {yn : Int} {yk : Int → Int} {yl : Int → Int} {cA : Int → Int} {cB : Int → Int} {fy : Int → Int} (hyo : 2 ≤ yo ∧ yo ≤ 13) (hyn : 0 ≤ yn ∧ yn ≤ 96) (hyk : ∀ i, 0 ≤ yk i ∧ yk i ≤ 13) (hyl : ∀ i, 0 ≤ yl i ∧ yl i ≤ 13) {i z n : Int} (zfy : 0 ≤ i - 0 → i - 0 < 96 → fy (i - 0) = z) (p0 : p_TF0 fy cA cB (0)) (p1 : p_TC0 yo yn yk yl cA cB (0)) (p2 : n = yn) (c0 : 0 ≤ i) (c1 : 0 ≤ (-1) * i + 95) (c2 : 0 ≤ n + (-1) * i + (-1)) (c3 : 0 ≤ z + 1) (c4 : 0 ≤ (-1) * z + 9999) : p_YF cA cB (z + 16384 * i + 1) := by
  have hz := zfy (by omega) (by omega)
  rw [show i - 0 = i by omega] at hz
  have hN := p1.2.1
  have hf := p0.2.1 i (by omega) (by omega)
  rw [hz] at hf
  exact ⟨i, z, by omega, by omega, by omega, by omega, by omega, hf.symm⟩
theorem k_yfb1 {yo : Int} {yn : Int} {yk : Int → Int} {yl : Int → Int} {cA : Int → Int} {cB : Int → Int} {fy : Int → Int} (hyo : 2 ≤ yo ∧ yo ≤ 13) (hyn : 0 ≤ yn ∧ yn ≤ 96) (hyk : ∀ i, 0 ≤ yk i ∧ yk i ≤ 13) (hyl : ∀ i, 0 ≤ yl i ∧ yl i ≤ 13) {i z n : Int} (zfy : 0 ≤ i - 0 → i - 0 < 96 → fy (i - 0) = z) (p0 : p_TF0 fy cA cB (0)) (p1 : p_TC0 yo yn yk yl cA cB (0)) (p2 : n = yn) (c0 : 0 ≤ i) (c1 : 0 ≤ (-1) * i + 95) (c2 : 0 ≤ n + (-1) * i + (-1)) : 0 ≤ z + 1 := by
  have hz := zfy (by omega) (by omega)
  rw [show i - 0 = i by omega] at hz
  have hN := p1.2.1
  have hf := p0.2.1 i (by omega) (by omega)
  rw [hz] at hf
  have := m_yf_rg p0.1 i
  omega
theorem k_yfb2 {yo : Int} {yn : Int} {yk : Int → Int} {yl : Int → Int} {cA : Int → Int} {cB : Int → Int} {fy : Int → Int} (hyo : 2 ≤ yo ∧ yo ≤ 13) (hyn : 0 ≤ yn ∧ yn ≤ 96) (hyk : ∀ i, 0 ≤ yk i ∧ yk i ≤ 13) (hyl : ∀ i, 0 ≤ yl i ∧ yl i ≤ 13) {i z n : Int} (zfy : 0 ≤ i - 0 → i - 0 < 96 → fy (i - 0) = z) (p0 : p_TF0 fy cA cB (0)) (p1 : p_TC0 yo yn yk yl cA cB (0)) (p2 : n = yn) (c0 : 0 ≤ i) (c1 : 0 ≤ (-1) * i + 95) (c2 : 0 ≤ n + (-1) * i + (-1)) : 0 ≤ (-1) * z + 9999 := by
  have hz := zfy (by omega) (by omega)
  rw [show i - 0 = i by omega] at hz
  have hN := p1.2.1
  have hf := p0.2.1 i (by omega) (by omega)
  rw [hz] at hf
  have := m_yf_rg p0.1 i
  omega
theorem k_yq1 {yo : Int} {yn : Int} {yk : Int → Int} {yl : Int → Int} {cA : Int → Int} {cB : Int → Int} {fy : Int → Int} (hyo : 2 ≤ yo ∧ yo ≤ 13) (hyn : 0 ≤ yn ∧ yn ≤ 96) (hyk : ∀ i, 0 ≤ yk i ∧ yk i ≤ 13) (hyl : ∀ i, 0 ≤ yl i ∧ yl i ≤ 13) {i w F n : Int} (zfy : 0 ≤ i - 0 → i - 0 < 96 → fy (i - 0) = w) (p0 : p_TF0 fy cA cB (0)) (p1 : p_TC0 yo yn yk yl cA cB (0)) (p2 : n = yn) (p3 : p_YF cA cB (F)) (c0 : 0 ≤ i) (c1 : 0 ≤ (-1) * i + 95) (c2 : 0 ≤ n + (-1) * i + (-1)) (c3 : 0 ≤ F + (-16384) * i) (c4 : 0 ≤ 16384 * i + (-1) * F + 16383) : 0 ≤ w + 16384 * i + (-1) * F + 1 := by
  have hz := zfy (by omega) (by omega)
  rw [show i - 0 = i by omega] at hz
  have hN := p1.2.1
  have hf := p0.2.1 i (by omega) (by omega)
  rw [hz] at hf
  obtain ⟨i1, z1, e, a1, a2, a3, a4, h⟩ := p3
  obtain rfl : i1 = i := by omega
  omega
theorem k_yq2 {yo : Int} {yn : Int} {yk : Int → Int} {yl : Int → Int} {cA : Int → Int} {cB : Int → Int} {fy : Int → Int} (hyo : 2 ≤ yo ∧ yo ≤ 13) (hyn : 0 ≤ yn ∧ yn ≤ 96) (hyk : ∀ i, 0 ≤ yk i ∧ yk i ≤ 13) (hyl : ∀ i, 0 ≤ yl i ∧ yl i ≤ 13) {i w F n : Int} (zfy : 0 ≤ i - 0 → i - 0 < 96 → fy (i - 0) = w) (p0 : p_TF0 fy cA cB (0)) (p1 : p_TC0 yo yn yk yl cA cB (0)) (p2 : n = yn) (p3 : p_YF cA cB (F)) (c0 : 0 ≤ i) (c1 : 0 ≤ (-1) * i + 95) (c2 : 0 ≤ n + (-1) * i + (-1)) (c3 : 0 ≤ F + (-16384) * i) (c4 : 0 ≤ 16384 * i + (-1) * F + 16383) : 0 ≤ F + (-16384) * i + (-1) * w + (-1) := by
  have hz := zfy (by omega) (by omega)
  rw [show i - 0 = i by omega] at hz
  have hN := p1.2.1
  have hf := p0.2.1 i (by omega) (by omega)
  rw [hz] at hf
  obtain ⟨i1, z1, e, a1, a2, a3, a4, h⟩ := p3
  obtain rfl : i1 = i := by omega
  omega
theorem k_ea0 {cA : Int → Int} {cB : Int → Int} {a : Int} (c0 : 0 ≤ a) (c1 : 0 ≤ (-1) * a + 95) : p_EAX cA cB (129 * a + 1) := by
  exact ⟨a, a, by omega, by omega, by omega, by omega, fun j h1 h2 => absurd h1 (by omega)⟩
theorem k_la0 {cA : Int → Int} {cB : Int → Int} {a : Int} (c0 : 0 ≤ a) (c1 : 0 ≤ (-1) * a + 95) : p_LAX cA cB (129 * a) := by
  exact ⟨a, a, by omega, by omega, by omega, by omega, by omega, fun j h1 h2 => absurd h1 (by omega)⟩
theorem k_ea1 {cA : Int → Int} {cB : Int → Int} {s a F : Int} (p0 : p_EAX cA cB (s + 128 * a + 1)) (p1 : p_YF cA cB (F)) (c0 : 0 ≤ a) (c1 : 0 ≤ (-1) * a + 95) (c2 : 0 ≤ s) (c3 : 0 ≤ (-1) * s + 95) (c4 : 0 ≤ F + (-16384) * s) (c5 : 0 ≤ 16384 * s + (-1) * F) : p_EAX cA cB (s + 128 * a) := by
  obtain ⟨s1, a1, e, b1, b2, b3, h⟩ := p0
  obtain ⟨rfl, rfl⟩ : s1 = s ∧ a1 = a := by omega
  obtain ⟨i2, z2, e2, d1, d2, d3, d4, hy⟩ := p1
  obtain ⟨rfl, e3⟩ : i2 = s1 ∧ z2 = -1 := by omega
  exact ⟨i2 - 1, a1, by omega, by omega, by omega, by omega, fun j h1 h2 => by
    by_cases q : j = i2
    · rw [q, hy, e3]
    · exact h j (by omega) h2⟩
theorem k_ear {cA : Int → Int} {cB : Int → Int} {s a z : Int} (p0 : p_EAX cA cB (s + 128 * a + 1)) (p1 : p_YF cA cB (z + 16384 * s + 1)) (c0 : 0 ≤ a) (c1 : 0 ≤ (-1) * a + 95) (c2 : 0 ≤ s) (c3 : 0 ≤ (-1) * s + 95) (c4 : 0 ≤ z) (c5 : 0 ≤ (-1) * z + 9999) : p_EAR cA cB (z + 16384 * a + 1) := by
  obtain ⟨s1, a1, e, b1, b2, b3, h⟩ := p0
  obtain ⟨rfl, rfl⟩ : s1 = s ∧ a1 = a := by omega
  obtain ⟨i2, z2, e2, d1, d2, d3, d4, hy⟩ := p1
  obtain ⟨rfl, rfl⟩ : i2 = s1 ∧ z2 = z := by omega
  exact ⟨a1, z2, by omega, by omega, by omega, by omega, by omega, Or.inr ⟨by omega, i2, by omega, by omega, hy, h⟩⟩
theorem k_ean {cA : Int → Int} {cB : Int → Int} {s a : Int} (p0 : p_EAX cA cB (s + 128 * a + 1)) (c0 : 0 ≤ a) (c1 : 0 ≤ (-1) * a + 95) (c2 : 0 ≤ (-1) * s + (-1)) (c3 : 0 ≤ s + 1) : p_EAR cA cB (16384 * a) := by
  obtain ⟨s1, a1, e, b1, b2, b3, h⟩ := p0
  obtain ⟨rfl, rfl⟩ : s1 = s ∧ a1 = a := by omega
  exact ⟨a1, -1, by omega, by omega, by omega, by omega, by omega, Or.inl ⟨rfl, fun j h1 h2 => h j (by omega) h2⟩⟩
theorem k_la1 {cA : Int → Int} {cB : Int → Int} {s a F : Int} (p0 : p_LAX cA cB (s + 128 * a)) (p1 : p_YF cA cB (F)) (c0 : 0 ≤ a) (c1 : 0 ≤ (-1) * a + 95) (c2 : 0 ≤ s) (c3 : 0 ≤ (-1) * s + 95) (c4 : 0 ≤ F + (-16384) * s) (c5 : 0 ≤ 16384 * s + (-1) * F) : p_LAX cA cB (s + 128 * a + 1) := by
  obtain ⟨s1, a1, e, b1, b2, b3, b4, h⟩ := p0
  obtain ⟨rfl, rfl⟩ : s1 = s ∧ a1 = a := by omega
  obtain ⟨i2, z2, e2, d1, d2, d3, d4, hy⟩ := p1
  obtain ⟨rfl, e3⟩ : i2 = s1 ∧ z2 = -1 := by omega
  exact ⟨i2 + 1, a1, by omega, by omega, by omega, by omega, by omega, fun j h1 h2 => by
    by_cases q : j = i2
    · rw [q, hy, e3]
    · exact h j h1 (by omega)⟩
theorem k_lar {yo : Int} {yn : Int} {yk : Int → Int} {yl : Int → Int} {cA : Int → Int} {cB : Int → Int} (hyo : 2 ≤ yo ∧ yo ≤ 13) (hyn : 0 ≤ yn ∧ yn ≤ 96) (hyk : ∀ i, 0 ≤ yk i ∧ yk i ≤ 13) (hyl : ∀ i, 0 ≤ yl i ∧ yl i ≤ 13) {s a z n : Int} (p0 : p_TC0 yo yn yk yl cA cB (0)) (p1 : n = yn) (p2 : p_LAX cA cB (s + 128 * a)) (p3 : p_YF cA cB (z + 16384 * s + 1)) (c0 : 0 ≤ a) (c1 : 0 ≤ (-1) * a + 95) (c2 : 0 ≤ s) (c3 : 0 ≤ (-1) * s + 95) (c4 : 0 ≤ z) (c5 : 0 ≤ (-1) * z + 9999) (c6 : 0 ≤ n + (-1) * s + (-1)) : p_LAR cA cB (z + 16384 * a + 1) := by
  obtain ⟨s1, a1, e, b1, b2, b3, b4, h⟩ := p2
  obtain ⟨rfl, rfl⟩ : s1 = s ∧ a1 = a := by omega
  obtain ⟨i2, z2, e2, d1, d2, d3, d4, hy⟩ := p3
  obtain ⟨rfl, rfl⟩ : i2 = s1 ∧ z2 = z := by omega
  have hn := p0.2.1
  exact ⟨a1, z2, by omega, by omega, by omega, by omega, by omega, Or.inr ⟨by omega, i2, by omega, by omega, hy, h⟩⟩
theorem k_lan {yo : Int} {yn : Int} {yk : Int → Int} {yl : Int → Int} {cA : Int → Int} {cB : Int → Int} (hyo : 2 ≤ yo ∧ yo ≤ 13) (hyn : 0 ≤ yn ∧ yn ≤ 96) (hyk : ∀ i, 0 ≤ yk i ∧ yk i ≤ 13) (hyl : ∀ i, 0 ≤ yl i ∧ yl i ≤ 13) {s a n : Int} (p0 : p_TC0 yo yn yk yl cA cB (0)) (p1 : n = yn) (p2 : p_LAX cA cB (s + 128 * a)) (c0 : 0 ≤ a) (c1 : 0 ≤ (-1) * a + 95) (c2 : 0 ≤ s) (c3 : 0 ≤ (-1) * s + 127) (c4 : 0 ≤ s + (-1) * n) : p_LAR cA cB (16384 * a) := by
  obtain ⟨s1, a1, e, b1, b2, b3, b4, h⟩ := p2
  obtain ⟨rfl, rfl⟩ : s1 = s ∧ a1 = a := by omega
  have hn := p0.2.1
  exact ⟨a1, -1, by omega, by omega, by omega, by omega, by omega, Or.inl ⟨rfl, fun j h1 h2 => h j h1 (by omega)⟩⟩
theorem k_fnl0 {cA : Int → Int} {cB : Int → Int} {s : Int} (c0 : 0 ≤ s) (c1 : 0 ≤ (-1) * s + 95) : p_FNL cA cB (16 * s) := by
  exact ⟨0, s, by omega, by omega, by omega, by omega, by omega, fun j h1 h2 => absurd h1 (by omega)⟩
theorem k_fnl1a {fs : Int → Int} {cA : Int → Int} {cB : Int → Int} (hfs : ∀ i, 0 ≤ fs i ∧ fs i ≤ 95) (lfsB : ∀ i, 0 ≤ i → i < 8 → fs i = cB (26 + i)) {G k s : Int} (p0 : p_FNL cA cB (k + 16 * s)) (p1 : p_LD fs (G)) (c0 : 0 ≤ k) (c1 : 0 ≤ (-1) * k + 7) (c2 : 0 ≤ s) (c3 : 0 ≤ (-1) * s + 95) (c4 : 0 ≤ G + (-128) * k) (c5 : 0 ≤ 128 * k + (-1) * G + 127) (c6 : 0 ≤ G + (-128) * k + (-1) * s + (-1)) : p_FNL cA cB (k + 16 * s + 1) := by
  obtain ⟨k1, s1, e, b1, b2, b3, b4, h⟩ := p0
  obtain ⟨rfl, rfl⟩ : k1 = k ∧ s1 = s := by omega
  obtain ⟨z2, k2, e2, d1, d2, d3, d4⟩ := p1
  obtain rfl : k2 = k1 := by omega
  have hg := d4 (by omega)
  have hl := lfsB k2 (by omega) (by omega)
  exact ⟨k2 + 1, s1, by omega, by omega, by omega, by omega, by omega, fun j h1 h2 h3 => by
    by_cases q : j = k2
    · rw [q]; omega
    · exact h j h1 (by omega) h3⟩
theorem k_fnl1b {fs : Int → Int} {cA : Int → Int} {cB : Int → Int} (hfs : ∀ i, 0 ≤ fs i ∧ fs i ≤ 95) (lfsB : ∀ i, 0 ≤ i → i < 8 → fs i = cB (26 + i)) {G k s : Int} (p0 : p_FNL cA cB (k + 16 * s)) (p1 : p_LD fs (G)) (c0 : 0 ≤ k) (c1 : 0 ≤ (-1) * k + 7) (c2 : 0 ≤ s) (c3 : 0 ≤ (-1) * s + 95) (c4 : 0 ≤ G + (-128) * k) (c5 : 0 ≤ 128 * k + (-1) * G + 127) (c6 : 0 ≤ s + (-1) * G + 128 * k + (-1)) : p_FNL cA cB (k + 16 * s + 1) := by
  obtain ⟨k1, s1, e, b1, b2, b3, b4, h⟩ := p0
  obtain ⟨rfl, rfl⟩ : k1 = k ∧ s1 = s := by omega
  obtain ⟨z2, k2, e2, d1, d2, d3, d4⟩ := p1
  obtain rfl : k2 = k1 := by omega
  have hg := d4 (by omega)
  have hl := lfsB k2 (by omega) (by omega)
  exact ⟨k2 + 1, s1, by omega, by omega, by omega, by omega, by omega, fun j h1 h2 h3 => by
    by_cases q : j = k2
    · rw [q]; omega
    · exact h j h1 (by omega) h3⟩
theorem k_fno {nf : Int} {cA : Int → Int} {cB : Int → Int} (hnf : 0 ≤ nf ∧ nf ≤ 8) (lnfA : nf = cA 5) {k s c : Int} (p0 : p_FNL cA cB (k + 16 * s)) (p1 : c = nf) (c0 : 0 ≤ k) (c1 : 0 ≤ (-1) * k + 15) (c2 : 0 ≤ s) (c3 : 0 ≤ (-1) * s + 95) (c4 : 0 ≤ k + (-1) * c) : p_FNO cA cB (s) := by
  obtain ⟨k1, s1, e, b1, b2, b3, b4, h⟩ := p0
  obtain ⟨rfl, rfl⟩ : k1 = k ∧ s1 = s := by omega
  exact ⟨by omega, by omega, fun j h1 h2 => h j h1 (by omega) (by omega)⟩
theorem k_yfr {nf : Int} {fs : Int → Int} {cA : Int → Int} {cB : Int → Int} {fy : Int → Int} (hnf : 0 ≤ nf ∧ nf ≤ 8) (hfs : ∀ i, 0 ≤ fs i ∧ fs i ≤ 95) (lnfA : nf = cA 5) (lfsB : ∀ i, 0 ≤ i → i < 8 → fs i = cB (26 + i)) {i z s : Int} (zfs : 0 ≤ i - 33 → i - 33 < 8 → fs (i - 33) = z) (zcA : 0 ≤ i - 0 → i - 0 < 6 → cA (i - 0) = z) (zcB : 0 ≤ i - 7 → i - 7 < 42 → cB (i - 7) = z) (p0 : p_TF0 fy cA cB (0)) (p1 : p_FI nf fs (i + 16 * s + (-41))) (c0 : 0 ≤ i + (-41)) (c1 : 0 ≤ (-1) * i + 48) (c2 : 0 ≤ s) (c3 : 0 ≤ (-1) * s + 95) (c4 : 0 ≤ z + 1) (c5 : 0 ≤ (-1) * z + 9999) : p_YF cA cB (z + 16384 * s + 1) := by
  obtain ⟨k1, s1, e, b1, b2, b3, b4, b5⟩ := p1
  obtain ⟨rfl, ek⟩ : s1 = s ∧ k1 = i - 41 := by omega
  have hz := zcB (by omega) (by omega)
  have hl := lfsB k1 (by omega) (by omega)
  rw [show i - 7 = 34 + k1 by omega] at hz
  have hy := m_yf_k p0.1 b1 (by omega) (hl.symm.trans b5)
  exact ⟨s1, z, by omega, by omega, by omega, by omega, by omega, hy.trans hz⟩
theorem k_yfr1 {nf : Int} {fs : Int → Int} {cA : Int → Int} {cB : Int → Int} {fy : Int → Int} (hnf : 0 ≤ nf ∧ nf ≤ 8) (hfs : ∀ i, 0 ≤ fs i ∧ fs i ≤ 95) (lnfA : nf = cA 5) (lfsB : ∀ i, 0 ≤ i → i < 8 → fs i = cB (26 + i)) {i z s : Int} (zfs : 0 ≤ i - 33 → i - 33 < 8 → fs (i - 33) = z) (zcA : 0 ≤ i - 0 → i - 0 < 6 → cA (i - 0) = z) (zcB : 0 ≤ i - 7 → i - 7 < 42 → cB (i - 7) = z) (p0 : p_TF0 fy cA cB (0)) (p1 : p_FI nf fs (i + 16 * s + (-41))) (c0 : 0 ≤ i + (-41)) (c1 : 0 ≤ (-1) * i + 48) (c2 : 0 ≤ s) (c3 : 0 ≤ (-1) * s + 95) : 0 ≤ z := by
  obtain ⟨k1, s1, e, b1, b2, b3, b4, b5⟩ := p1
  obtain ⟨rfl, ek⟩ : s1 = s ∧ k1 = i - 41 := by omega
  have hz := zcB (by omega) (by omega)
  have hl := lfsB k1 (by omega) (by omega)
  rw [show i - 7 = 34 + k1 by omega] at hz
  have := p0.1.2.2.1 k1 b1 (by omega)
  omega
theorem k_yfr2 {nf : Int} {fs : Int → Int} {cA : Int → Int} {cB : Int → Int} {fy : Int → Int} (hnf : 0 ≤ nf ∧ nf ≤ 8) (hfs : ∀ i, 0 ≤ fs i ∧ fs i ≤ 95) (lnfA : nf = cA 5) (lfsB : ∀ i, 0 ≤ i → i < 8 → fs i = cB (26 + i)) {i z s : Int} (zfs : 0 ≤ i - 33 → i - 33 < 8 → fs (i - 33) = z) (zcA : 0 ≤ i - 0 → i - 0 < 6 → cA (i - 0) = z) (zcB : 0 ≤ i - 7 → i - 7 < 42 → cB (i - 7) = z) (p0 : p_TF0 fy cA cB (0)) (p1 : p_FI nf fs (i + 16 * s + (-41))) (c0 : 0 ≤ i + (-41)) (c1 : 0 ≤ (-1) * i + 48) (c2 : 0 ≤ s) (c3 : 0 ≤ (-1) * s + 95) : 0 ≤ (-1) * z + 9999 := by
  obtain ⟨k1, s1, e, b1, b2, b3, b4, b5⟩ := p1
  obtain ⟨rfl, ek⟩ : s1 = s ∧ k1 = i - 41 := by omega
  have hz := zcB (by omega) (by omega)
  have hl := lfsB k1 (by omega) (by omega)
  rw [show i - 7 = 34 + k1 by omega] at hz
  have := p0.1.2.2.1 k1 b1 (by omega)
  omega
theorem k_fix {nf : Int} {fs : Int → Int} {cA : Int → Int} {cB : Int → Int} (hnf : 0 ≤ nf ∧ nf ≤ 8) (hfs : ∀ i, 0 ≤ fs i ∧ fs i ≤ 95) (lnfA : nf = cA 5) (lfsB : ∀ i, 0 ≤ i → i < 8 → fs i = cB (26 + i)) {F s : Int} (p0 : p_FI nf fs (F)) (p1 : p_FNO cA cB (s)) (c0 : 0 ≤ s) (c1 : 0 ≤ (-1) * s + 95) (c2 : 0 ≤ F + (-16) * s) (c3 : 0 ≤ 16 * s + (-1) * F + 15) : 0 ≤ (-1) := by
  obtain ⟨k1, s1, e, b1, b2, b3, b4, b5⟩ := p0
  obtain rfl : s1 = s := by omega
  have hl := lfsB k1 (by omega) (by omega)
  exact absurd (hl.symm.trans b5) (p1.2.2 k1 b1 (by omega))
theorem k_low0 {cA : Int → Int} {cB : Int → Int} : p_LOW cA cB (0) := by
  exact ⟨0, -1, by omega, by omega, by omega, by omega, by omega, Or.inl ⟨rfl, fun j h1 h2 => absurd h1 (by omega)⟩⟩
theorem k_low1 {cA : Int → Int} {cB : Int → Int} {F z k : Int} (p0 : p_LOW cA cB (F)) (p1 : p_YF cA cB (z + 16384 * k + 1)) (c0 : 0 ≤ k) (c1 : 0 ≤ (-1) * k + 95) (c2 : 0 ≤ z) (c3 : 0 ≤ (-1) * z + 9999) (c4 : 0 ≤ F + (-16384) * k) (c5 : 0 ≤ 16384 * k + (-1) * F + 10000) : p_LOW cA cB (z + 16384 * k + 16385) := by
  obtain ⟨k1, l1, e, b1, b2, b3, b4, h⟩ := p0
  obtain ⟨i2, z2, e2, d1, d2, d3, d4, hy⟩ := p1
  obtain ⟨rfl, rfl⟩ : i2 = k ∧ z2 = z := by omega
  exact ⟨i2 + 1, z2, by omega, by omega, by omega, by omega, by omega, Or.inr ⟨by omega, i2, by omega, by omega, hy, fun j h1 h2 => absurd h1 (by omega)⟩⟩
theorem k_low2 {cA : Int → Int} {cB : Int → Int} {F k : Int} (p0 : p_LOW cA cB (F)) (p1 : p_FNO cA cB (k)) (c0 : 0 ≤ k) (c1 : 0 ≤ (-1) * k + 95) (c2 : 0 ≤ F + (-16384) * k) (c3 : 0 ≤ 16384 * k + (-1) * F + 10000) : p_LOW cA cB (F + 16384) := by
  obtain ⟨k1, l1, e, b1, b2, b3, b4, h⟩ := p0
  obtain rfl : k1 = k := by omega
  have hy := m_yf_no p1.2.2
  refine ⟨k1 + 1, l1, by omega, by omega, by omega, by omega, by omega, ?_⟩
  rcases h with ⟨h1, h2⟩ | ⟨h1, s, h2, h3, h4, h5⟩
  · exact Or.inl ⟨h1, fun j g1 g2 => by
      by_cases q : j = k1
      · rw [q, hy]
      · exact h2 j g1 (by omega)⟩
  · exact Or.inr ⟨h1, s, h2, by omega, h4, fun j g1 g2 => by
      by_cases q : j = k1
      · rw [q, hy]
      · exact h5 j g1 (by omega)⟩
theorem k_hig0 {yo : Int} {yn : Int} {yk : Int → Int} {yl : Int → Int} {cA : Int → Int} {cB : Int → Int} (hyo : 2 ≤ yo ∧ yo ≤ 13) (hyn : 0 ≤ yn ∧ yn ≤ 96) (hyk : ∀ i, 0 ≤ yk i ∧ yk i ≤ 13) (hyl : ∀ i, 0 ≤ yl i ∧ yl i ≤ 13) {k n : Int} (p0 : p_TC0 yo yn yk yl cA cB (0)) (p1 : n = yn) (c0 : 0 ≤ k + 1) (c1 : 0 ≤ (-1) * k + 95) (c2 : 0 ≤ k + (-1) * n + 1) : p_HIG cA cB (16384 * k + 16384) := by
  have hn := p0.2.1
  exact ⟨k + 1, -1, by omega, by omega, by omega, by omega, by omega, Or.inl ⟨rfl, fun j h1 h2 => absurd h1 (by omega)⟩⟩
theorem k_hig1 {yo : Int} {yn : Int} {yk : Int → Int} {yl : Int → Int} {cA : Int → Int} {cB : Int → Int} (hyo : 2 ≤ yo ∧ yo ≤ 13) (hyn : 0 ≤ yn ∧ yn ≤ 96) (hyk : ∀ i, 0 ≤ yk i ∧ yk i ≤ 13) (hyl : ∀ i, 0 ≤ yl i ∧ yl i ≤ 13) {F z k n : Int} (p0 : p_TC0 yo yn yk yl cA cB (0)) (p1 : n = yn) (p2 : p_HIG cA cB (F)) (p3 : p_YF cA cB (z + 16384 * k + 1)) (c0 : 0 ≤ k) (c1 : 0 ≤ (-1) * k + 95) (c2 : 0 ≤ z) (c3 : 0 ≤ (-1) * z + 9999) (c4 : 0 ≤ n + (-1) * k + (-1)) (c5 : 0 ≤ F + (-16384) * k + (-16384)) (c6 : 0 ≤ 16384 * k + (-1) * F + 26384) : p_HIG cA cB (z + 16384 * k + 1) := by
  obtain ⟨k1, l1, e, b1, b2, b3, b4, h⟩ := p2
  obtain ⟨i2, z2, e2, d1, d2, d3, d4, hy⟩ := p3
  obtain ⟨rfl, rfl⟩ : i2 = k ∧ z2 = z := by omega
  have hn := p0.2.1
  exact ⟨i2, z2, by omega, by omega, by omega, by omega, by omega, Or.inr ⟨by omega, i2, by omega, by omega, hy, fun j h1 h2 => absurd h1 (by omega)⟩⟩
theorem k_hig2 {yo : Int} {yn : Int} {yk : Int → Int} {yl : Int → Int} {cA : Int → Int} {cB : Int → Int} (hyo : 2 ≤ yo ∧ yo ≤ 13) (hyn : 0 ≤ yn ∧ yn ≤ 96) (hyk : ∀ i, 0 ≤ yk i ∧ yk i ≤ 13) (hyl : ∀ i, 0 ≤ yl i ∧ yl i ≤ 13) {F k n : Int} (p0 : p_TC0 yo yn yk yl cA cB (0)) (p1 : n = yn) (p2 : p_HIG cA cB (F)) (p3 : p_FNO cA cB (k)) (c0 : 0 ≤ k) (c1 : 0 ≤ (-1) * k + 95) (c2 : 0 ≤ n + (-1) * k + (-1)) (c3 : 0 ≤ F + (-16384) * k + (-16384)) (c4 : 0 ≤ 16384 * k + (-1) * F + 26384) : p_HIG cA cB (F + (-16384)) := by
  obtain ⟨k1, l1, e, b1, b2, b3, b4, h⟩ := p2
  obtain ek : k1 = k + 1 := by omega
  have hy := m_yf_no p3.2.2
  rw [ek] at h
  refine ⟨k, l1, by omega, by omega, by omega, by omega, by omega, ?_⟩
  rcases h with ⟨h1, h2⟩ | ⟨h1, s, h2, h3, h4, h5⟩
  · exact Or.inl ⟨h1, fun j g1 g2 => by
      by_cases q : j = k
      · rw [q, hy]
      · exact h2 j (by omega) g2⟩
  · exact Or.inr ⟨h1, s, by omega, h3, h4, fun j g1 g2 => by
      by_cases q : j = k
      · rw [q, hy]
      · exact h5 j (by omega) g2⟩
theorem k_loqa {cA : Int → Int} {cB : Int → Int} {l k a e : Int} (p0 : p_LOW cA cB (l + 16384 * k + 1)) (p1 : p_EAR cA cB (e + 16384 * a + 1)) (c0 : 0 ≤ a) (c1 : 0 ≤ (-1) * a + 95) (c2 : 0 ≤ k + (-1) * a + (-1)) (c3 : 0 ≤ a + (-1) * k + 1) (c4 : 0 ≤ l + 1) (c5 : 0 ≤ (-1) * l + 9999) (c6 : 0 ≤ e + 1) (c7 : 0 ≤ (-1) * e + 9999) : 0 ≤ l + (-1) * e := by
  obtain ⟨k1, l1, e0, b1, b2, b3, b4, h⟩ := p0
  obtain ⟨a2, y2, e2, d1, d2, d3, d4, g⟩ := p1
  obtain ⟨ek, el⟩ : k1 = a + 1 ∧ l1 = l := by omega
  obtain ⟨ea, ey⟩ : a2 = a ∧ y2 = e := by omega
  rcases h with ⟨h1, h2⟩ | ⟨h1, s, h2, h3, h4, h5⟩
  · rcases g with ⟨g1, g2⟩ | ⟨g1, t, g2, g3, g4, g5⟩
    · omega
    · have := h2 t (by omega) (by omega)
      omega
  · rcases g with ⟨g1, g2⟩ | ⟨g1, t, g2, g3, g4, g5⟩
    · have := g2 s (by omega) (by omega)
      omega
    · have q1 : ¬ s < t := fun q => by have := h5 t q (by omega); omega
      have q2 : ¬ t < s := fun q => by have := g5 s q (by omega); omega
      have q3 : s = t := by omega
      subst q3
      omega
theorem k_hiqa {cA : Int → Int} {cB : Int → Int} {l k a e : Int} (p0 : p_HIG cA cB (l + 16384 * k + 16385)) (p1 : p_LAR cA cB (e + 16384 * a + 1)) (c0 : 0 ≤ a) (c1 : 0 ≤ (-1) * a + 95) (c2 : 0 ≤ k + (-1) * a + 1) (c3 : 0 ≤ a + (-1) * k + (-1)) (c4 : 0 ≤ l + 1) (c5 : 0 ≤ (-1) * l + 9999) (c6 : 0 ≤ e + 1) (c7 : 0 ≤ (-1) * e + 9999) : 0 ≤ l + (-1) * e := by
  obtain ⟨k1, l1, e0, b1, b2, b3, b4, h⟩ := p0
  obtain ⟨a2, y2, e2, d1, d2, d3, d4, g⟩ := p1
  obtain ⟨ek, el⟩ : k1 = a ∧ l1 = l := by omega
  obtain ⟨ea, ey⟩ : a2 = a ∧ y2 = e := by omega
  rcases h with ⟨h1, h2⟩ | ⟨h1, s, h2, h3, h4, h5⟩
  · rcases g with ⟨g1, g2⟩ | ⟨g1, t, g2, g3, g4, g5⟩
    · omega
    · have := h2 t (by omega) (by omega)
      omega
  · rcases g with ⟨g1, g2⟩ | ⟨g1, t, g2, g3, g4, g5⟩
    · have := g2 s (by omega) (by omega)
      omega
    · have q1 : ¬ s < t := fun q => by have := g5 s (by omega) q; omega
      have q2 : ¬ t < s := fun q => by have := h5 t (by omega) q; omega
      have q3 : s = t := by omega
      subst q3
      omega
theorem k_loqb {cA : Int → Int} {cB : Int → Int} {l k a e : Int} (p0 : p_LOW cA cB (l + 16384 * k + 1)) (p1 : p_EAR cA cB (e + 16384 * a + 1)) (c0 : 0 ≤ a) (c1 : 0 ≤ (-1) * a + 95) (c2 : 0 ≤ k + (-1) * a + (-1)) (c3 : 0 ≤ a + (-1) * k + 1) (c4 : 0 ≤ l + 1) (c5 : 0 ≤ (-1) * l + 9999) (c6 : 0 ≤ e + 1) (c7 : 0 ≤ (-1) * e + 9999) : 0 ≤ e + (-1) * l := by
  obtain ⟨k1, l1, e0, b1, b2, b3, b4, h⟩ := p0
  obtain ⟨a2, y2, e2, d1, d2, d3, d4, g⟩ := p1
  obtain ⟨ek, el⟩ : k1 = a + 1 ∧ l1 = l := by omega
  obtain ⟨ea, ey⟩ : a2 = a ∧ y2 = e := by omega
  rcases h with ⟨h1, h2⟩ | ⟨h1, s, h2, h3, h4, h5⟩
  · rcases g with ⟨g1, g2⟩ | ⟨g1, t, g2, g3, g4, g5⟩
    · omega
    · have := h2 t (by omega) (by omega)
      omega
  · rcases g with ⟨g1, g2⟩ | ⟨g1, t, g2, g3, g4, g5⟩
    · have := g2 s (by omega) (by omega)
      omega
    · have q1 : ¬ s < t := fun q => by have := h5 t q (by omega); omega
      have q2 : ¬ t < s := fun q => by have := g5 s q (by omega); omega
      have q3 : s = t := by omega
      subst q3
      omega
theorem k_hiqb {cA : Int → Int} {cB : Int → Int} {l k a e : Int} (p0 : p_HIG cA cB (l + 16384 * k + 16385)) (p1 : p_LAR cA cB (e + 16384 * a + 1)) (c0 : 0 ≤ a) (c1 : 0 ≤ (-1) * a + 95) (c2 : 0 ≤ k + (-1) * a + 1) (c3 : 0 ≤ a + (-1) * k + (-1)) (c4 : 0 ≤ l + 1) (c5 : 0 ≤ (-1) * l + 9999) (c6 : 0 ≤ e + 1) (c7 : 0 ≤ (-1) * e + 9999) : 0 ≤ e + (-1) * l := by
  obtain ⟨k1, l1, e0, b1, b2, b3, b4, h⟩ := p0
  obtain ⟨a2, y2, e2, d1, d2, d3, d4, g⟩ := p1
  obtain ⟨ek, el⟩ : k1 = a ∧ l1 = l := by omega
  obtain ⟨ea, ey⟩ : a2 = a ∧ y2 = e := by omega
  rcases h with ⟨h1, h2⟩ | ⟨h1, s, h2, h3, h4, h5⟩
  · rcases g with ⟨g1, g2⟩ | ⟨g1, t, g2, g3, g4, g5⟩
    · omega
    · have := h2 t (by omega) (by omega)
      omega
  · rcases g with ⟨g1, g2⟩ | ⟨g1, t, g2, g3, g4, g5⟩
    · have := g2 s (by omega) (by omega)
      omega
    · have q1 : ¬ s < t := fun q => by have := g5 s (by omega) q; omega
      have q2 : ¬ t < s := fun q => by have := h5 t (by omega) q; omega
      have q3 : s = t := by omega
      subst q3
      omega
theorem k_dae {l h e q : Int} (c0 : 0 ≤ l + (-1) * e) (c1 : 0 ≤ e + (-1) * l) (c2 : 0 ≤ h + (-1) * q) (c3 : 0 ≤ q + (-1) * h) (c4 : 0 ≤ l + (-1) * h + (-1)) : 0 ≤ e + (-1) * q + (-1) := by
  omega
theorem k_daf {l h e q : Int} (c0 : 0 ≤ l + (-1) * e) (c1 : 0 ≤ e + (-1) * l) (c2 : 0 ≤ h + (-1) * q) (c3 : 0 ≤ q + (-1) * h) (c4 : 0 ≤ h + (-1) * l) (c5 : 0 ≤ e + (-1) * q + (-1)) : 0 ≤ (-1) := by
  omega
theorem k_xwy {fy : Int → Int} {i z : Int} (zfy : 0 ≤ i - 0 → i - 0 < 96 → fy (i - 0) = z) : p_XW (z) := by
  exact trivial
theorem k_hfy {cA : Int → Int} {cB : Int → Int} {i z : Int} (p0 : p_HL cA cB (i)) (p1 : p_YF cA cB (z + 16384 * i + 1)) (c0 : 0 ≤ i) (c1 : 0 ≤ (-1) * i + 95) (c2 : 0 ≤ z) (c3 : 0 ≤ (-1) * z + 9999) : p_HFY cA cB (z + 16384 * i) := by
  obtain ⟨i2, z2, e2, d1, d2, d3, d4, hy⟩ := p1
  obtain ⟨rfl, rfl⟩ : i2 = i ∧ z2 = z := by omega
  exact ⟨i2, z2, by omega, by omega, by omega, by omega, by omega, p0.2.2, hy⟩
theorem k_nhf1 {cA : Int → Int} {cB : Int → Int} {i : Int} (p0 : p_NH cA cB (i)) (c0 : 0 ≤ i) (c1 : 0 ≤ (-1) * i + 95) : p_NHF cA cB (i) := by
  exact ⟨p0.1, p0.2.1, fun q => p0.2.2 q.1⟩
theorem k_nhf2 {cA : Int → Int} {cB : Int → Int} {i F : Int} (p0 : p_YF cA cB (F)) (c0 : 0 ≤ i) (c1 : 0 ≤ (-1) * i + 95) (c2 : 0 ≤ F + (-16384) * i) (c3 : 0 ≤ 16384 * i + (-1) * F) : p_NHF cA cB (i) := by
  obtain ⟨i2, z2, e2, d1, d2, d3, d4, hy⟩ := p0
  obtain ⟨rfl, e3⟩ : i2 = i ∧ z2 = -1 := by omega
  exact ⟨by omega, by omega, fun q => by have := q.2; omega⟩
