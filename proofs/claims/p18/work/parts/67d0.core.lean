-- 67d0.core: the counts' rules in numbers (printed by wip/p5/gen68.py)
theorem k_ts0 {wo : Int} {wf : Int} {wn : Int} {xe : Int → Int} {xk : Int → Int} {xl : Int → Int} (hwo : 2 ≤ wo ∧ wo ≤ 13) (hwf : 1 ≤ wf ∧ wf ≤ 13) (hwn : 0 ≤ wn ∧ wn ≤ 96) (hxe : ∀ i, 0 ≤ xe i ∧ xe i ≤ 12) (hxk : ∀ i, 0 ≤ xk i ∧ xk i ≤ 13) (hxl : ∀ i, 0 ≤ xl i ∧ xl i ≤ 13) {f : Int} (p0 : f = wf) (c0 : 0 ≤ f + (-1)) (c1 : 0 ≤ (-1) * f + 13) : p_TSX wo wf wn xe xk xl (4224 * f) := by
  exact ⟨0, f, f, by omega, by omega, by omega, by omega, by omega, by omega, by omega, fun _ => ⟨p0, p0⟩, fun j hj => by omega⟩
theorem k_ts1 {wo : Int} {wf : Int} {wn : Int} {xe : Int → Int} {xk : Int → Int} {xl : Int → Int} (hwo : 2 ≤ wo ∧ wo ≤ 13) (hwf : 1 ≤ wf ∧ wf ≤ 13) (hwn : 0 ≤ wn ∧ wn ≤ 96) (hxe : ∀ i, 0 ≤ xe i ∧ xe i ≤ 12) (hxk : ∀ i, 0 ≤ xk i ∧ xk i ≤ 13) (hxl : ∀ i, 0 ≤ xl i ∧ xl i ≤ 13) {i z w : Int} (i1 : 0 ≤ i) (i2 : i < 96) (p0 : p_TSX wo wf wn xe xk xl (i + 128 * z + 4096 * w)) (c0 : 0 ≤ i) (c1 : 0 ≤ (-1) * i + 95) (c2 : 0 ≤ z) (c3 : 0 ≤ (-1) * z + 15) (c4 : 0 ≤ w) (c5 : 0 ≤ (-1) * w + 15) : p_TSY wo wf wn xe (m_up xk i z) xl (i + 128 * z + 4096 * w) := by
  obtain ⟨s1, t1, w1, e, h0, h1, h2, h3, h4, h5, h6, h7⟩ := p0
  obtain ⟨rfl, rfl, rfl⟩ : s1 = i ∧ t1 = z ∧ w1 = w := by omega
  exact ⟨s1, t1, w1, by omega, ⟨h0, h1, h2, h3, h4, h5, h6, fun j hj => by rw [m_up_ne (by omega)]; exact h7 j hj⟩, m_up_at rfl⟩
theorem k_ts2 {wo : Int} {wf : Int} {wn : Int} {xe : Int → Int} {xk : Int → Int} {xl : Int → Int} (hwo : 2 ≤ wo ∧ wo ≤ 13) (hwf : 1 ≤ wf ∧ wf ≤ 13) (hwn : 0 ≤ wn ∧ wn ≤ 96) (hxe : ∀ i, 0 ≤ xe i ∧ xe i ≤ 12) (hxk : ∀ i, 0 ≤ xk i ∧ xk i ≤ 13) (hxl : ∀ i, 0 ≤ xl i ∧ xl i ≤ 13) {i z t : Int} (i1 : 0 ≤ i) (i2 : i < 96) (p0 : p_TSY wo wf wn xe xk xl (i + 128 * t + 4096 * z)) (c0 : 0 ≤ i) (c1 : 0 ≤ (-1) * i + 95) (c2 : 0 ≤ z) (c3 : 0 ≤ (-1) * z + 15) (c4 : 0 ≤ t) (c5 : 0 ≤ (-1) * t + 15) : p_TSZ wo wf wn xe xk (m_up xl i z) (i + 128 * t + 4096 * z) := by
  obtain ⟨s1, t1, w1, e, ⟨h0, h1, h2, h3, h4, h5, h6, h7⟩, h8⟩ := p0
  obtain ⟨rfl, rfl, rfl⟩ : s1 = i ∧ t1 = t ∧ w1 = z := by omega
  exact ⟨s1, t1, w1, by omega, ⟨h0, h1, h2, h3, h4, h5, h6, fun j hj => by rw [m_up_ne (by omega)]; exact h7 j hj⟩, h8, m_up_at rfl⟩
theorem k_cbWa {wo : Int} (hwo : 2 ≤ wo ∧ wo ≤ 13) {r w o : Int} (p0 : o = wo) (c0 : 0 ≤ w + (-1) * o) (c1 : 0 ≤ r + (-1)) (c2 : 0 ≤ (-1) * r + 1) (c3 : 0 ≤ w) (c4 : 0 ≤ (-1) * w + 15) : p_CBW wo (r + 16 * w) := by
  exact ⟨r, w, by omega, by omega, by omega, by omega, by omega, by unfold m_cb; rw [if_pos (by omega)]; omega⟩
theorem k_cbWb {wo : Int} (hwo : 2 ≤ wo ∧ wo ≤ 13) {r w o : Int} (p0 : o = wo) (c0 : 0 ≤ o + (-1) * w + (-1)) (c1 : 0 ≤ r + (-1) * w + (-1)) (c2 : 0 ≤ w + (-1) * r + 1) (c3 : 0 ≤ w) (c4 : 0 ≤ (-1) * w + 15) : p_CBW wo (r + 16 * w) := by
  exact ⟨r, w, by omega, by omega, by omega, by omega, by omega, by unfold m_cb; rw [if_neg (by omega)]; omega⟩
theorem k_cbTa {wo : Int} (hwo : 2 ≤ wo ∧ wo ≤ 13) {r w o : Int} (p0 : o = wo) (c0 : 0 ≤ w + (-1) * o) (c1 : 0 ≤ r + (-1)) (c2 : 0 ≤ (-1) * r + 1) (c3 : 0 ≤ w) (c4 : 0 ≤ (-1) * w + 15) : p_CBT wo (r + 16 * w) := by
  exact ⟨r, w, by omega, by omega, by omega, by omega, by omega, by unfold m_cb; rw [if_pos (by omega)]; omega⟩
theorem k_cbTb {wo : Int} (hwo : 2 ≤ wo ∧ wo ≤ 13) {r w o : Int} (p0 : o = wo) (c0 : 0 ≤ o + (-1) * w + (-1)) (c1 : 0 ≤ r + (-1) * w + (-1)) (c2 : 0 ≤ w + (-1) * r + 1) (c3 : 0 ≤ w) (c4 : 0 ≤ (-1) * w + 15) : p_CBT wo (r + 16 * w) := by
  exact ⟨r, w, by omega, by omega, by omega, by omega, by omega, by unfold m_cb; rw [if_neg (by omega)]; omega⟩
theorem k_bys {xe : Int → Int} (hxe : ∀ i, 0 ≤ xe i ∧ xe i ≤ 12) {i z : Int} (zxe : 0 ≤ i - 0 → i - 0 < 96 → xe (i - 0) = z) (c0 : 0 ≤ i) (c1 : 0 ≤ (-1) * i + 95) (c2 : 0 ≤ z) (c3 : 0 ≤ (-1) * z + 15) : p_BYX xe (i + 128 * z) := by
  have hz := zxe (by omega) (by omega)
  rw [show i - 0 = i by omega] at hz
  exact ⟨i, z, by omega, by omega, by omega, by omega, by omega, hz⟩
theorem k_bysz {xe : Int → Int} (hxe : ∀ i, 0 ≤ xe i ∧ xe i ≤ 12) {i z : Int} (zxe : 0 ≤ i - 0 → i - 0 < 96 → xe (i - 0) = z) : p_XW (z) := by
  exact trivial
theorem k_tsa {wo : Int} {wf : Int} {wn : Int} {xe : Int → Int} {xk : Int → Int} {xl : Int → Int} (hwo : 2 ≤ wo ∧ wo ≤ 13) (hwf : 1 ≤ wf ∧ wf ≤ 13) (hwn : 0 ≤ wn ∧ wn ≤ 96) (hxe : ∀ i, 0 ≤ xe i ∧ xe i ≤ 12) (hxk : ∀ i, 0 ≤ xk i ∧ xk i ≤ 13) (hxl : ∀ i, 0 ≤ xl i ∧ xl i ≤ 13) {s t w y x o n b : Int} (p0 : p_TSZ wo wf wn xe xk xl (s + 128 * t + 4096 * w)) (p1 : p_CBW wo (x + 16 * w)) (p2 : o = wo) (p3 : n = wn) (p4 : p_CBT wo (y + o + (-1) * b + 16 * t)) (p5 : p_BYX xe (s + 128 * b + 1)) (c0 : 0 ≤ s) (c1 : 0 ≤ (-1) * s + 95) (c2 : 0 ≤ t) (c3 : 0 ≤ (-1) * t + 15) (c4 : 0 ≤ w) (c5 : 0 ≤ (-1) * w + 15) (c6 : 0 ≤ x) (c7 : 0 ≤ (-1) * x + 15) (c8 : 0 ≤ y) (c9 : 0 ≤ (-1) * y + 15) (c10 : 0 ≤ o) (c11 : 0 ≤ (-1) * o + 15) (c12 : 0 ≤ n + (-1) * s + (-2)) (c13 : 0 ≤ y + (-1)) (c14 : 0 ≤ y + o + (-1) * b) (c15 : 0 ≤ (-1) * y + (-1) * o + b + 15) (c16 : 0 ≤ b) (c17 : 0 ≤ (-1) * b + 15) : p_TSX wo wf wn xe xk xl (s + 128 * y + 4096 * x + 1) := by
  obtain ⟨s1, t1, w1, e, ⟨h0, h1, h2, h3, h4, h5, h6, h7⟩, h8, h9⟩ := p0
  obtain ⟨rfl, rfl, rfl⟩ : s1 = s ∧ t1 = t ∧ w1 = w := by omega
  obtain ⟨r2, w2, e2, a1, a2, a3, a4, a5⟩ := p1
  obtain ⟨rfl, rfl⟩ : r2 = x ∧ w2 = w1 := by omega
  obtain ⟨r3, t3, e3, b1, b2, b3, b4, b5⟩ := p4
  obtain ⟨e4, rfl⟩ : r3 = y + o + (-1) * b ∧ t3 = t1 := by omega
  obtain ⟨i5, q5, e5, d1, d2, d3, d4, d5⟩ := p5
  obtain ⟨e6, rfl⟩ : i5 = s1 + 1 ∧ q5 = b := by omega
  have hs := h6 (by omega)
  refine ⟨s1 + 1, y, r2, by omega, by omega, by omega, by omega, by omega, by omega, by omega, fun _ => ?_, fun j hj => ?_⟩
  · rw [show (s1 + 1).toNat = s1.toNat + 1 by omega]
    refine ⟨?_, ?_⟩
    · show y = m_cw wo (m_tx wo wf xe s1.toNat) (xe ((s1.toNat + 1 : Nat) : Int))
      rw [← hs.1, show ((s1.toNat + 1 : Nat) : Int) = i5 by omega, d5]
      unfold m_cw
      rw [← b5, if_pos (by omega)]
      omega
    · show r2 = m_cb wo (m_sx wo wf s1.toNat)
      rw [← hs.2]
      exact a5
  · by_cases k : (j : Int) < s1
    · exact h7 j k
    · have ej : (j : Int) = s1 := by omega
      have ej2 : s1.toNat = j := by omega
      have hs2 := h6 (by omega)
      rw [ej2] at hs2
      rw [ej, h8, h9]
      exact hs2
theorem k_tsb {wo : Int} {wf : Int} {wn : Int} {xe : Int → Int} {xk : Int → Int} {xl : Int → Int} (hwo : 2 ≤ wo ∧ wo ≤ 13) (hwf : 1 ≤ wf ∧ wf ≤ 13) (hwn : 0 ≤ wn ∧ wn ≤ 96) (hxe : ∀ i, 0 ≤ xe i ∧ xe i ≤ 12) (hxk : ∀ i, 0 ≤ xk i ∧ xk i ≤ 13) (hxl : ∀ i, 0 ≤ xl i ∧ xl i ≤ 13) {s t w y x o n b : Int} (p0 : p_TSZ wo wf wn xe xk xl (s + 128 * t + 4096 * w)) (p1 : p_CBW wo (x + 16 * w)) (p2 : o = wo) (p3 : n = wn) (p4 : p_CBT wo (y + (-1) * b + 16 * t)) (p5 : p_BYX xe (s + 128 * b + 1)) (c0 : 0 ≤ s) (c1 : 0 ≤ (-1) * s + 95) (c2 : 0 ≤ t) (c3 : 0 ≤ (-1) * t + 15) (c4 : 0 ≤ w) (c5 : 0 ≤ (-1) * w + 15) (c6 : 0 ≤ x) (c7 : 0 ≤ (-1) * x + 15) (c8 : 0 ≤ y) (c9 : 0 ≤ (-1) * y + 15) (c10 : 0 ≤ o) (c11 : 0 ≤ (-1) * o + 15) (c12 : 0 ≤ n + (-1) * s + (-2)) (c13 : 0 ≤ o + (-1) * y) (c14 : 0 ≤ y + (-1) * b) (c15 : 0 ≤ (-1) * y + b + 15) (c16 : 0 ≤ b) (c17 : 0 ≤ (-1) * b + 15) : p_TSX wo wf wn xe xk xl (s + 128 * y + 4096 * x + 1) := by
  obtain ⟨s1, t1, w1, e, ⟨h0, h1, h2, h3, h4, h5, h6, h7⟩, h8, h9⟩ := p0
  obtain ⟨rfl, rfl, rfl⟩ : s1 = s ∧ t1 = t ∧ w1 = w := by omega
  obtain ⟨r2, w2, e2, a1, a2, a3, a4, a5⟩ := p1
  obtain ⟨rfl, rfl⟩ : r2 = x ∧ w2 = w1 := by omega
  obtain ⟨r3, t3, e3, b1, b2, b3, b4, b5⟩ := p4
  obtain ⟨e4, rfl⟩ : r3 = y + (-1) * b ∧ t3 = t1 := by omega
  obtain ⟨i5, q5, e5, d1, d2, d3, d4, d5⟩ := p5
  obtain ⟨e6, rfl⟩ : i5 = s1 + 1 ∧ q5 = b := by omega
  have hs := h6 (by omega)
  refine ⟨s1 + 1, y, r2, by omega, by omega, by omega, by omega, by omega, by omega, by omega, fun _ => ?_, fun j hj => ?_⟩
  · rw [show (s1 + 1).toNat = s1.toNat + 1 by omega]
    refine ⟨?_, ?_⟩
    · show y = m_cw wo (m_tx wo wf xe s1.toNat) (xe ((s1.toNat + 1 : Nat) : Int))
      rw [← hs.1, show ((s1.toNat + 1 : Nat) : Int) = i5 by omega, d5]
      unfold m_cw
      rw [← b5, if_neg (by omega)]
      omega
    · show r2 = m_cb wo (m_sx wo wf s1.toNat)
      rw [← hs.2]
      exact a5
  · by_cases k : (j : Int) < s1
    · exact h7 j k
    · have ej : (j : Int) = s1 := by omega
      have ej2 : s1.toNat = j := by omega
      have hs2 := h6 (by omega)
      rw [ej2] at hs2
      rw [ej, h8, h9]
      exact hs2
theorem k_tsc {wo : Int} {wf : Int} {wn : Int} {xe : Int → Int} {xk : Int → Int} {xl : Int → Int} (hwo : 2 ≤ wo ∧ wo ≤ 13) (hwf : 1 ≤ wf ∧ wf ≤ 13) (hwn : 0 ≤ wn ∧ wn ≤ 96) (hxe : ∀ i, 0 ≤ xe i ∧ xe i ≤ 12) (hxk : ∀ i, 0 ≤ xk i ∧ xk i ≤ 13) (hxl : ∀ i, 0 ≤ xl i ∧ xl i ≤ 13) {s t w y x o n : Int} (p0 : p_TSZ wo wf wn xe xk xl (s + 128 * t + 4096 * w)) (p1 : p_CBW wo (x + 16 * w)) (p2 : o = wo) (p3 : n = wn) (p4 : p_CBT wo (y + 16 * t)) (c0 : 0 ≤ s) (c1 : 0 ≤ (-1) * s + 95) (c2 : 0 ≤ t) (c3 : 0 ≤ (-1) * t + 15) (c4 : 0 ≤ w) (c5 : 0 ≤ (-1) * w + 15) (c6 : 0 ≤ x) (c7 : 0 ≤ (-1) * x + 15) (c8 : 0 ≤ y) (c9 : 0 ≤ (-1) * y + 15) (c10 : 0 ≤ o) (c11 : 0 ≤ (-1) * o + 15) (c12 : 0 ≤ s + (-1) * n + 1) (c13 : 0 ≤ n + (-1) * s + (-1)) : p_TSX wo wf wn xe xk xl (s + 128 * y + 4096 * x + 1) := by
  obtain ⟨s1, t1, w1, e, ⟨h0, h1, h2, h3, h4, h5, h6, h7⟩, h8, h9⟩ := p0
  obtain ⟨rfl, rfl, rfl⟩ : s1 = s ∧ t1 = t ∧ w1 = w := by omega
  obtain ⟨r2, w2, e2, a1, a2, a3, a4, a5⟩ := p1
  obtain ⟨rfl, rfl⟩ : r2 = x ∧ w2 = w1 := by omega
  refine ⟨s1 + 1, y, r2, by omega, by omega, by omega, by omega, by omega, by omega, by omega, fun h => absurd h (by omega), fun j hj => ?_⟩
  by_cases k : (j : Int) < s1
  · exact h7 j k
  · have ej : (j : Int) = s1 := by omega
    have ej2 : s1.toNat = j := by omega
    have hs2 := h6 (by omega)
    rw [ej2] at hs2
    rw [ej, h8, h9]
    exact hs2
theorem k_tse {wo : Int} {wf : Int} {wn : Int} {xe : Int → Int} {xk : Int → Int} {xl : Int → Int} (hwo : 2 ≤ wo ∧ wo ≤ 13) (hwf : 1 ≤ wf ∧ wf ≤ 13) (hwn : 0 ≤ wn ∧ wn ≤ 96) (hxe : ∀ i, 0 ≤ xe i ∧ xe i ≤ 12) (hxk : ∀ i, 0 ≤ xk i ∧ xk i ≤ 13) (hxl : ∀ i, 0 ≤ xl i ∧ xl i ≤ 13) {s t w n : Int} (p0 : p_TSX wo wf wn xe xk xl (s + 128 * t + 4096 * w)) (p1 : n = wn) (c0 : 0 ≤ s + (-1) * n) (c1 : 0 ≤ s) (c2 : 0 ≤ (-1) * s + 127) (c3 : 0 ≤ t) (c4 : 0 ≤ (-1) * t + 15) (c5 : 0 ≤ w) (c6 : 0 ≤ (-1) * w + 15) : p_SETT wo wf wn xe xk xl (0) := by
  obtain ⟨s1, t1, w1, e, h0, h1, h2, h3, h4, h5, h6, h7⟩ := p0
  intro j hj
  exact h7 j (by omega)
theorem k_ae37_16 {xk : Int → Int} {yk : Int → Int} (hxk : ∀ i, 0 ≤ xk i ∧ xk i ≤ 13) (hyk : ∀ i, 0 ≤ yk i ∧ yk i ≤ 13) {s t n : Int} (i1 : 0 ≤ s) (i2 : 0 ≤ t) (i3 : 0 ≤ n) (c0 : 0 ≤ s) (c1 : 0 ≤ (-1) * s) (c2 : 0 ≤ t) (c3 : 0 ≤ (-1) * t) (c4 : 0 ≤ n + (-96)) (c5 : 0 ≤ (-1) * n + 96) : p_AE37_16 xk (m_cpx xk yk s t n) (0) := by
  intro j g1 g2
  unfold m_cpx
  rw [if_pos (by omega), show s + (j - t) = j by omega]
theorem k_ae16_486 {yk : Int → Int} {yk1 : Int → Int} (hyk : ∀ i, 0 ≤ yk i ∧ yk i ≤ 13) {s t n : Int} (i1 : 0 ≤ s) (i2 : 0 ≤ t) (i3 : 0 ≤ n) (c0 : 0 ≤ s) (c1 : 0 ≤ (-1) * s) (c2 : 0 ≤ t) (c3 : 0 ≤ (-1) * t) (c4 : 0 ≤ n + (-96)) (c5 : 0 ≤ (-1) * n + 96) : p_AE16_486 yk (m_cpx yk yk1 s t n) (0) := by
  intro j g1 g2
  unfold m_cpx
  rw [if_pos (by omega), show s + (j - t) = j by omega]
theorem k_ae486_16 {yk : Int → Int} {yk1 : Int → Int} (hyk : ∀ i, 0 ≤ yk i ∧ yk i ≤ 13) {s t n : Int} (i1 : 0 ≤ s) (i2 : 0 ≤ t) (i3 : 0 ≤ n) (c0 : 0 ≤ s) (c1 : 0 ≤ (-1) * s) (c2 : 0 ≤ t) (c3 : 0 ≤ (-1) * t) (c4 : 0 ≤ n + (-96)) (c5 : 0 ≤ (-1) * n + 96) : p_AE486_16 (m_cpx yk1 yk s t n) yk1 (0) := by
  intro j g1 g2
  unfold m_cpx
  rw [if_pos (by omega), show s + (j - t) = j by omega]
theorem k_ae16_506 {yk : Int → Int} {yk2 : Int → Int} (hyk : ∀ i, 0 ≤ yk i ∧ yk i ≤ 13) {s t n : Int} (i1 : 0 ≤ s) (i2 : 0 ≤ t) (i3 : 0 ≤ n) (c0 : 0 ≤ s) (c1 : 0 ≤ (-1) * s) (c2 : 0 ≤ t) (c3 : 0 ≤ (-1) * t) (c4 : 0 ≤ n + (-96)) (c5 : 0 ≤ (-1) * n + 96) : p_AE16_506 yk (m_cpx yk yk2 s t n) (0) := by
  intro j g1 g2
  unfold m_cpx
  rw [if_pos (by omega), show s + (j - t) = j by omega]
theorem k_ae506_16 {yk : Int → Int} {yk2 : Int → Int} (hyk : ∀ i, 0 ≤ yk i ∧ yk i ≤ 13) {s t n : Int} (i1 : 0 ≤ s) (i2 : 0 ≤ t) (i3 : 0 ≤ n) (c0 : 0 ≤ s) (c1 : 0 ≤ (-1) * s) (c2 : 0 ≤ t) (c3 : 0 ≤ (-1) * t) (c4 : 0 ≤ n + (-96)) (c5 : 0 ≤ (-1) * n + 96) : p_AE506_16 (m_cpx yk2 yk s t n) yk2 (0) := by
  intro j g1 g2
  unfold m_cpx
  rw [if_pos (by omega), show s + (j - t) = j by omega]
theorem k_ae16_526 {yk : Int → Int} {yk3 : Int → Int} (hyk : ∀ i, 0 ≤ yk i ∧ yk i ≤ 13) {s t n : Int} (i1 : 0 ≤ s) (i2 : 0 ≤ t) (i3 : 0 ≤ n) (c0 : 0 ≤ s) (c1 : 0 ≤ (-1) * s) (c2 : 0 ≤ t) (c3 : 0 ≤ (-1) * t) (c4 : 0 ≤ n + (-96)) (c5 : 0 ≤ (-1) * n + 96) : p_AE16_526 yk (m_cpx yk yk3 s t n) (0) := by
  intro j g1 g2
  unfold m_cpx
  rw [if_pos (by omega), show s + (j - t) = j by omega]
theorem k_ae526_16 {yk : Int → Int} {yk3 : Int → Int} (hyk : ∀ i, 0 ≤ yk i ∧ yk i ≤ 13) {s t n : Int} (i1 : 0 ≤ s) (i2 : 0 ≤ t) (i3 : 0 ≤ n) (c0 : 0 ≤ s) (c1 : 0 ≤ (-1) * s) (c2 : 0 ≤ t) (c3 : 0 ≤ (-1) * t) (c4 : 0 ≤ n + (-96)) (c5 : 0 ≤ (-1) * n + 96) : p_AE526_16 (m_cpx yk3 yk s t n) yk3 (0) := by
  intro j g1 g2
  unfold m_cpx
  rw [if_pos (by omega), show s + (j - t) = j by omega]
theorem k_ae38_17 {xl : Int → Int} {yl : Int → Int} (hxl : ∀ i, 0 ≤ xl i ∧ xl i ≤ 13) (hyl : ∀ i, 0 ≤ yl i ∧ yl i ≤ 13) {s t n : Int} (i1 : 0 ≤ s) (i2 : 0 ≤ t) (i3 : 0 ≤ n) (c0 : 0 ≤ s) (c1 : 0 ≤ (-1) * s) (c2 : 0 ≤ t) (c3 : 0 ≤ (-1) * t) (c4 : 0 ≤ n + (-96)) (c5 : 0 ≤ (-1) * n + 96) : p_AE38_17 xl (m_cpx xl yl s t n) (0) := by
  intro j g1 g2
  unfold m_cpx
  rw [if_pos (by omega), show s + (j - t) = j by omega]
theorem k_ae17_487 {yl : Int → Int} {yl1 : Int → Int} (hyl : ∀ i, 0 ≤ yl i ∧ yl i ≤ 13) {s t n : Int} (i1 : 0 ≤ s) (i2 : 0 ≤ t) (i3 : 0 ≤ n) (c0 : 0 ≤ s) (c1 : 0 ≤ (-1) * s) (c2 : 0 ≤ t) (c3 : 0 ≤ (-1) * t) (c4 : 0 ≤ n + (-96)) (c5 : 0 ≤ (-1) * n + 96) : p_AE17_487 yl (m_cpx yl yl1 s t n) (0) := by
  intro j g1 g2
  unfold m_cpx
  rw [if_pos (by omega), show s + (j - t) = j by omega]
theorem k_ae487_17 {yl : Int → Int} {yl1 : Int → Int} (hyl : ∀ i, 0 ≤ yl i ∧ yl i ≤ 13) {s t n : Int} (i1 : 0 ≤ s) (i2 : 0 ≤ t) (i3 : 0 ≤ n) (c0 : 0 ≤ s) (c1 : 0 ≤ (-1) * s) (c2 : 0 ≤ t) (c3 : 0 ≤ (-1) * t) (c4 : 0 ≤ n + (-96)) (c5 : 0 ≤ (-1) * n + 96) : p_AE487_17 (m_cpx yl1 yl s t n) yl1 (0) := by
  intro j g1 g2
  unfold m_cpx
  rw [if_pos (by omega), show s + (j - t) = j by omega]
theorem k_ae17_507 {yl : Int → Int} {yl2 : Int → Int} (hyl : ∀ i, 0 ≤ yl i ∧ yl i ≤ 13) {s t n : Int} (i1 : 0 ≤ s) (i2 : 0 ≤ t) (i3 : 0 ≤ n) (c0 : 0 ≤ s) (c1 : 0 ≤ (-1) * s) (c2 : 0 ≤ t) (c3 : 0 ≤ (-1) * t) (c4 : 0 ≤ n + (-96)) (c5 : 0 ≤ (-1) * n + 96) : p_AE17_507 yl (m_cpx yl yl2 s t n) (0) := by
  intro j g1 g2
  unfold m_cpx
  rw [if_pos (by omega), show s + (j - t) = j by omega]
theorem k_ae507_17 {yl : Int → Int} {yl2 : Int → Int} (hyl : ∀ i, 0 ≤ yl i ∧ yl i ≤ 13) {s t n : Int} (i1 : 0 ≤ s) (i2 : 0 ≤ t) (i3 : 0 ≤ n) (c0 : 0 ≤ s) (c1 : 0 ≤ (-1) * s) (c2 : 0 ≤ t) (c3 : 0 ≤ (-1) * t) (c4 : 0 ≤ n + (-96)) (c5 : 0 ≤ (-1) * n + 96) : p_AE507_17 (m_cpx yl2 yl s t n) yl2 (0) := by
  intro j g1 g2
  unfold m_cpx
  rw [if_pos (by omega), show s + (j - t) = j by omega]
theorem k_ae17_527 {yl : Int → Int} {yl3 : Int → Int} (hyl : ∀ i, 0 ≤ yl i ∧ yl i ≤ 13) {s t n : Int} (i1 : 0 ≤ s) (i2 : 0 ≤ t) (i3 : 0 ≤ n) (c0 : 0 ≤ s) (c1 : 0 ≤ (-1) * s) (c2 : 0 ≤ t) (c3 : 0 ≤ (-1) * t) (c4 : 0 ≤ n + (-96)) (c5 : 0 ≤ (-1) * n + 96) : p_AE17_527 yl (m_cpx yl yl3 s t n) (0) := by
  intro j g1 g2
  unfold m_cpx
  rw [if_pos (by omega), show s + (j - t) = j by omega]
theorem k_ae527_17 {yl : Int → Int} {yl3 : Int → Int} (hyl : ∀ i, 0 ≤ yl i ∧ yl i ≤ 13) {s t n : Int} (i1 : 0 ≤ s) (i2 : 0 ≤ t) (i3 : 0 ≤ n) (c0 : 0 ≤ s) (c1 : 0 ≤ (-1) * s) (c2 : 0 ≤ t) (c3 : 0 ≤ (-1) * t) (c4 : 0 ≤ n + (-96)) (c5 : 0 ≤ (-1) * n + 96) : p_AE527_17 (m_cpx yl3 yl s t n) yl3 (0) := by
  intro j g1 g2
  unfold m_cpx
  rw [if_pos (by omega), show s + (j - t) = j by omega]
theorem k_swt {qn : Int} {wo : Int} {wf : Int} {wn : Int} {wc : Int} {wm : Int} {ws : Int} {wi : Int} {wl : Int} {ba : Int → Int} {xa : Int → Int} {xb : Int → Int} {xc : Int → Int} {xd : Int → Int} {xe : Int → Int} {xf : Int → Int} {xg : Int → Int} {xh : Int → Int} {yo : Int} {yn : Int} {xk : Int → Int} {xl : Int → Int} {yk : Int → Int} {yl : Int → Int} (hqn : 0 ≤ qn ∧ qn ≤ 900) (hwo : 2 ≤ wo ∧ wo ≤ 13) (hwf : 1 ≤ wf ∧ wf ≤ 13) (hwn : 0 ≤ wn ∧ wn ≤ 96) (hwc : 0 ≤ wc ∧ wc ≤ 6) (hwm : 0 ≤ wm ∧ wm ≤ 4) (hws : 0 ≤ ws ∧ ws ≤ 6) (hwi : 0 ≤ wi ∧ wi ≤ 8) (hba : ∀ i, -128 ≤ ba i ∧ ba i ≤ 127) (hxe : ∀ i, 0 ≤ xe i ∧ xe i ≤ 12) (hyo : 2 ≤ yo ∧ yo ≤ 13) (hyn : 0 ≤ yn ∧ yn ≤ 96) (hxk : ∀ i, 0 ≤ xk i ∧ xk i ≤ 13) (hxl : ∀ i, 0 ≤ xl i ∧ xl i ≤ 13) (hyk : ∀ i, 0 ≤ yk i ∧ yk i ≤ 13) (hyl : ∀ i, 0 ≤ yl i ∧ yl i ≤ 13) {o n : Int} (p0 : p_WD ba qn wo wf wn wc wm ws wi wl xa xb xc xd xe xf xg xh (0)) (p1 : p_SETT wo wf wn xe xk xl (0)) (p2 : p_AE37_16 xk yk (0)) (p3 : p_AE38_17 xl yl (0)) (p4 : o = wo) (p5 : o = yo) (p6 : n = wn) (p7 : n = yn) : p_SWT ba qn yo yn yk yl (0) := by
  obtain ⟨W, AT, w1, w2, w3, w4, w5, w6, w7, of⟩ := p0
  obtain ⟨o1, o2⟩ := of (by decide)
  refine ⟨W, AT, by omega, by rw [← p7, p6]; exact w1.1, fun j hj => ?_⟩
  have h := p1 j (by omega)
  rw [p2 j (by omega) (by omega), p3 j (by omega) (by omega), h.1, h.2, ← o1, ← o2]
  exact ⟨m_tx_ext j (fun i hi => w6 i (by omega) (by omega)), rfl⟩
theorem k_tcq {qn : Int} {rn : Int} {ba : Int → Int} {bb : Int → Int} {nw : Int → Int} {ww : Int → Int} {bk : Int → Int} {yo : Int} {yn : Int} {yk : Int → Int} {yl : Int → Int} {cA : Int → Int} {cB : Int → Int} (hqn : 0 ≤ qn ∧ qn ≤ 900) (hrn : 0 ≤ rn ∧ rn ≤ 900) (hba : ∀ i, -128 ≤ ba i ∧ ba i ≤ 127) (hbb : ∀ i, -128 ≤ bb i ∧ bb i ≤ 127) (hyo : 2 ≤ yo ∧ yo ≤ 13) (hyn : 0 ≤ yn ∧ yn ≤ 96) (hyk : ∀ i, 0 ≤ yk i ∧ yk i ≤ 13) (hyl : ∀ i, 0 ≤ yl i ∧ yl i ≤ 13) (lcA : ∀ i, 0 ≤ i → i < 6 → cA i = bk (0 + i)) (lcB : ∀ i, 0 ≤ i → i < 42 → cB i = bk (7 + i)) {x D n : Int} (p0 : p_CPW bk nw (360)) (p1 : p_DNW bb rn nw ww (0)) (p2 : p_SWT ba qn yo yn yk yl (0)) (p3 : p_TB3 ba (x + 1024 * D)) (p4 : p_TB8 bb (x + 1024 * D)) (p5 : n = qn) (p6 : n = rn) (c0 : 0 ≤ x + (-1) * n) (c1 : 0 ≤ (-1) * x + 900) (c2 : 0 ≤ n) (c3 : 0 ≤ D) : p_TC0 yo yn yk yl cA cB (0) := by
  obtain ⟨W2, q2, e1, e2⟩ := p1
  obtain ⟨W, q1, o1, o2, o3⟩ := p2
  have cg := m_tb_cg hba hbb p3 p4 c0 c1 c2
  rw [p5] at cg
  have hn : rn = qn := by omega
  rw [hn] at q2 e1
  have hW := m_at_one cg q1 q2
  injection hW with hW
  subst hW
  obtain ⟨hS, hO, hI⟩ := m_at_S q1
  have hA : ∀ i, 0 ≤ i → i < 6 → cA i = nw i := fun i a b => by
    rw [lcA i a b, show 0 + i = i by omega]
    exact p0 i a (by omega) (by omega)
  have hB : ∀ i, 0 ≤ i → i < 42 → cB i = nw (7 + i) := fun i a b => by
    rw [lcB i a b]
    exact p0 (7 + i) (by omega) (by omega) (by omega)
  have h5 := e2 (by decide)
  obtain ⟨g1, g2, g3⟩ := m_wr_srt hS hO e1 h5 hA hB ⟨hI.1, hI.2.2.1⟩
  have a0 : cA 0 = m_wo W := (hA 0 (by decide) (by decide)).trans h5.1
  have a1 : cA 1 = m_wf W := (hA 1 (by decide) (by decide)).trans h5.2
  have a2 : cA 2 = m_ln (m_wcs W) := (hA 2 (by decide) (by decide)).trans e1.1.1
  have i1 := hI.1
  refine ⟨by omega, by omega, g1, fun j hj => ?_, by omega⟩
  have h := o3 j hj
  rw [h.1, h.2, ← m_tx_tb g1, ← m_sx_sb g1, a0, a1]
  exact ⟨m_tx_ext j (fun i _ => g3 _), rfl⟩
theorem k_lc_0 {bk : Int → Int} {i z k : Int} (zbk : 0 ≤ i - 0 → i - 0 < 360 → bk (i - 0) = z) (c0 : 0 ≤ i + (-1) * k) (c1 : 0 ≤ k + (-1) * i) (c2 : 0 ≤ k) (c3 : 0 ≤ (-1) * k + 359) (c4 : 0 ≤ z + 2147483648) (c5 : 0 ≤ (-1) * z + 2147483647) : p_LC0 bk (k + 512 * z + 1099511627776) := by
  have hz := zbk (by omega) (by omega)
  rw [show i - 0 = k by omega] at hz
  exact ⟨k, z, by omega, by omega, by omega, by omega, by omega, hz⟩
theorem k_lc_1 {bk1 : Int → Int} {i z k : Int} (zbk1 : 0 ≤ i - 360 → i - 360 < 360 → bk1 (i - 360) = z) (c0 : 0 ≤ i + (-1) * k + (-360)) (c1 : 0 ≤ k + (-1) * i + 360) (c2 : 0 ≤ k) (c3 : 0 ≤ (-1) * k + 359) (c4 : 0 ≤ z + 2147483648) (c5 : 0 ≤ (-1) * z + 2147483647) : p_LC1 bk1 (k + 512 * z + 1099511627776) := by
  have hz := zbk1 (by omega) (by omega)
  rw [show i - 360 = k by omega] at hz
  exact ⟨k, z, by omega, by omega, by omega, by omega, by omega, hz⟩
theorem k_lc_2 {bk2 : Int → Int} {i z k : Int} (zbk2 : 0 ≤ i - 720 → i - 720 < 360 → bk2 (i - 720) = z) (c0 : 0 ≤ i + (-1) * k + (-720)) (c1 : 0 ≤ k + (-1) * i + 720) (c2 : 0 ≤ k) (c3 : 0 ≤ (-1) * k + 359) (c4 : 0 ≤ z + 2147483648) (c5 : 0 ≤ (-1) * z + 2147483647) : p_LC2 bk2 (k + 512 * z + 1099511627776) := by
  have hz := zbk2 (by omega) (by omega)
  rw [show i - 720 = k by omega] at hz
  exact ⟨k, z, by omega, by omega, by omega, by omega, by omega, hz⟩
theorem k_lc_3 {bk3 : Int → Int} {i z k : Int} (zbk3 : 0 ≤ i - 1080 → i - 1080 < 360 → bk3 (i - 1080) = z) (c0 : 0 ≤ i + (-1) * k + (-1080)) (c1 : 0 ≤ k + (-1) * i + 1080) (c2 : 0 ≤ k) (c3 : 0 ≤ (-1) * k + 359) (c4 : 0 ≤ z + 2147483648) (c5 : 0 ≤ (-1) * z + 2147483647) : p_LC3 bk3 (k + 512 * z + 1099511627776) := by
  have hz := zbk3 (by omega) (by omega)
  rw [show i - 1080 = k by omega] at hz
  exact ⟨k, z, by omega, by omega, by omega, by omega, by omega, hz⟩
theorem k_cp0_01 {bk : Int → Int} {bk1 : Int → Int} {a b : Int} (c0 : 0 ≤ a) (c1 : 0 ≤ (-1) * a) (c2 : 0 ≤ b + (-1)) (c3 : 0 ≤ (-1) * b + 1) : p_CB01 bk bk1 (0) := by
  intro j g1 g2 g3
  omega
theorem k_cp1_01 {bk : Int → Int} {bk1 : Int → Int} {i z k : Int} (i1 : 0 ≤ i) (p0 : p_CB01 bk bk1 (k)) (p1 : p_LC0 bk (k + 512 * z + 1099511627776)) (c0 : 0 ≤ i + (-1) * k + (-360)) (c1 : 0 ≤ k + (-1) * i + 360) (c2 : 0 ≤ k) (c3 : 0 ≤ (-1) * k + 359) (c4 : 0 ≤ z + 2147483648) (c5 : 0 ≤ (-1) * z + 2147483647) : p_CB01 (m_upo 0 360 bk i z) (m_upo 360 360 bk1 i z) (k + 1) := by
  obtain ⟨k1, z1, e1, g1, g2, g3, g4, g5⟩ := p1
  obtain ⟨rfl, rfl⟩ : k1 = k ∧ z1 = z := by omega
  rw [m_upo_n (off := 0) (by omega), m_upo_e (off := 360) (p := k1) (by omega) (by omega) (by omega)]
  intro j a b c
  by_cases e : j = k1
  · rw [m_up_at e, e, g5]
  · rw [m_up_ne e]; exact p0 j a (by omega) c
theorem k_cp2_01 {bk : Int → Int} {bk1 : Int → Int} {k : Int} (p0 : p_CB01 bk bk1 (k)) (c0 : 0 ≤ k + (-360)) : p_CB01 bk bk1 (360) := by
  intro j g1 g2 g3
  exact p0 j g1 (by omega) g3
theorem k_cp0_02 {bk : Int → Int} {bk2 : Int → Int} {a b : Int} (c0 : 0 ≤ a) (c1 : 0 ≤ (-1) * a) (c2 : 0 ≤ b + (-2)) (c3 : 0 ≤ (-1) * b + 2) : p_CB02 bk bk2 (0) := by
  intro j g1 g2 g3
  omega
theorem k_cp1_02 {bk : Int → Int} {bk2 : Int → Int} {i z k : Int} (i1 : 0 ≤ i) (p0 : p_CB02 bk bk2 (k)) (p1 : p_LC0 bk (k + 512 * z + 1099511627776)) (c0 : 0 ≤ i + (-1) * k + (-720)) (c1 : 0 ≤ k + (-1) * i + 720) (c2 : 0 ≤ k) (c3 : 0 ≤ (-1) * k + 359) (c4 : 0 ≤ z + 2147483648) (c5 : 0 ≤ (-1) * z + 2147483647) : p_CB02 (m_upo 0 360 bk i z) (m_upo 720 360 bk2 i z) (k + 1) := by
  obtain ⟨k1, z1, e1, g1, g2, g3, g4, g5⟩ := p1
  obtain ⟨rfl, rfl⟩ : k1 = k ∧ z1 = z := by omega
  rw [m_upo_n (off := 0) (by omega), m_upo_e (off := 720) (p := k1) (by omega) (by omega) (by omega)]
  intro j a b c
  by_cases e : j = k1
  · rw [m_up_at e, e, g5]
  · rw [m_up_ne e]; exact p0 j a (by omega) c
theorem k_cp2_02 {bk : Int → Int} {bk2 : Int → Int} {k : Int} (p0 : p_CB02 bk bk2 (k)) (c0 : 0 ≤ k + (-360)) : p_CB02 bk bk2 (360) := by
  intro j g1 g2 g3
  exact p0 j g1 (by omega) g3
theorem k_cp0_03 {bk : Int → Int} {bk3 : Int → Int} {a b : Int} (c0 : 0 ≤ a) (c1 : 0 ≤ (-1) * a) (c2 : 0 ≤ b + (-3)) (c3 : 0 ≤ (-1) * b + 3) : p_CB03 bk bk3 (0) := by
  intro j g1 g2 g3
  omega
theorem k_cp1_03 {bk : Int → Int} {bk3 : Int → Int} {i z k : Int} (i1 : 0 ≤ i) (p0 : p_CB03 bk bk3 (k)) (p1 : p_LC0 bk (k + 512 * z + 1099511627776)) (c0 : 0 ≤ i + (-1) * k + (-1080)) (c1 : 0 ≤ k + (-1) * i + 1080) (c2 : 0 ≤ k) (c3 : 0 ≤ (-1) * k + 359) (c4 : 0 ≤ z + 2147483648) (c5 : 0 ≤ (-1) * z + 2147483647) : p_CB03 (m_upo 0 360 bk i z) (m_upo 1080 360 bk3 i z) (k + 1) := by
  obtain ⟨k1, z1, e1, g1, g2, g3, g4, g5⟩ := p1
  obtain ⟨rfl, rfl⟩ : k1 = k ∧ z1 = z := by omega
  rw [m_upo_n (off := 0) (by omega), m_upo_e (off := 1080) (p := k1) (by omega) (by omega) (by omega)]
  intro j a b c
  by_cases e : j = k1
  · rw [m_up_at e, e, g5]
  · rw [m_up_ne e]; exact p0 j a (by omega) c
theorem k_cp2_03 {bk : Int → Int} {bk3 : Int → Int} {k : Int} (p0 : p_CB03 bk bk3 (k)) (c0 : 0 ≤ k + (-360)) : p_CB03 bk bk3 (360) := by
  intro j g1 g2 g3
  exact p0 j g1 (by omega) g3
theorem k_cp0_10 {bk : Int → Int} {bk1 : Int → Int} {a b : Int} (c0 : 0 ≤ a + (-1)) (c1 : 0 ≤ (-1) * a + 1) (c2 : 0 ≤ b) (c3 : 0 ≤ (-1) * b) : p_CB10 bk bk1 (0) := by
  intro j g1 g2 g3
  omega
theorem k_cp1_10 {bk : Int → Int} {bk1 : Int → Int} {i z k : Int} (i1 : 0 ≤ i) (p0 : p_CB10 bk bk1 (k)) (p1 : p_LC1 bk1 (k + 512 * z + 1099511627776)) (c0 : 0 ≤ i + (-1) * k) (c1 : 0 ≤ k + (-1) * i) (c2 : 0 ≤ k) (c3 : 0 ≤ (-1) * k + 359) (c4 : 0 ≤ z + 2147483648) (c5 : 0 ≤ (-1) * z + 2147483647) : p_CB10 (m_upo 0 360 bk i z) (m_upo 360 360 bk1 i z) (k + 1) := by
  obtain ⟨k1, z1, e1, g1, g2, g3, g4, g5⟩ := p1
  obtain ⟨rfl, rfl⟩ : k1 = k ∧ z1 = z := by omega
  rw [m_upo_e (off := 0) (p := k1) (by omega) (by omega) (by omega), m_upo_n (off := 360) (by omega)]
  intro j a b c
  by_cases e : j = k1
  · rw [m_up_at e, e, g5]
  · rw [m_up_ne e]; exact p0 j a (by omega) c
theorem k_cp2_10 {bk : Int → Int} {bk1 : Int → Int} {k : Int} (p0 : p_CB10 bk bk1 (k)) (c0 : 0 ≤ k + (-360)) : p_CB10 bk bk1 (360) := by
  intro j g1 g2 g3
  exact p0 j g1 (by omega) g3
theorem k_cp0_20 {bk : Int → Int} {bk2 : Int → Int} {a b : Int} (c0 : 0 ≤ a + (-2)) (c1 : 0 ≤ (-1) * a + 2) (c2 : 0 ≤ b) (c3 : 0 ≤ (-1) * b) : p_CB20 bk bk2 (0) := by
  intro j g1 g2 g3
  omega
theorem k_cp1_20 {bk : Int → Int} {bk2 : Int → Int} {i z k : Int} (i1 : 0 ≤ i) (p0 : p_CB20 bk bk2 (k)) (p1 : p_LC2 bk2 (k + 512 * z + 1099511627776)) (c0 : 0 ≤ i + (-1) * k) (c1 : 0 ≤ k + (-1) * i) (c2 : 0 ≤ k) (c3 : 0 ≤ (-1) * k + 359) (c4 : 0 ≤ z + 2147483648) (c5 : 0 ≤ (-1) * z + 2147483647) : p_CB20 (m_upo 0 360 bk i z) (m_upo 720 360 bk2 i z) (k + 1) := by
  obtain ⟨k1, z1, e1, g1, g2, g3, g4, g5⟩ := p1
  obtain ⟨rfl, rfl⟩ : k1 = k ∧ z1 = z := by omega
  rw [m_upo_e (off := 0) (p := k1) (by omega) (by omega) (by omega), m_upo_n (off := 720) (by omega)]
  intro j a b c
  by_cases e : j = k1
  · rw [m_up_at e, e, g5]
  · rw [m_up_ne e]; exact p0 j a (by omega) c
theorem k_cp2_20 {bk : Int → Int} {bk2 : Int → Int} {k : Int} (p0 : p_CB20 bk bk2 (k)) (c0 : 0 ≤ k + (-360)) : p_CB20 bk bk2 (360) := by
  intro j g1 g2 g3
  exact p0 j g1 (by omega) g3
theorem k_cp0_30 {bk : Int → Int} {bk3 : Int → Int} {a b : Int} (c0 : 0 ≤ a + (-3)) (c1 : 0 ≤ (-1) * a + 3) (c2 : 0 ≤ b) (c3 : 0 ≤ (-1) * b) : p_CB30 bk bk3 (0) := by
  intro j g1 g2 g3
  omega
theorem k_cp1_30 {bk : Int → Int} {bk3 : Int → Int} {i z k : Int} (i1 : 0 ≤ i) (p0 : p_CB30 bk bk3 (k)) (p1 : p_LC3 bk3 (k + 512 * z + 1099511627776)) (c0 : 0 ≤ i + (-1) * k) (c1 : 0 ≤ k + (-1) * i) (c2 : 0 ≤ k) (c3 : 0 ≤ (-1) * k + 359) (c4 : 0 ≤ z + 2147483648) (c5 : 0 ≤ (-1) * z + 2147483647) : p_CB30 (m_upo 0 360 bk i z) (m_upo 1080 360 bk3 i z) (k + 1) := by
  obtain ⟨k1, z1, e1, g1, g2, g3, g4, g5⟩ := p1
  obtain ⟨rfl, rfl⟩ : k1 = k ∧ z1 = z := by omega
  rw [m_upo_e (off := 0) (p := k1) (by omega) (by omega) (by omega), m_upo_n (off := 1080) (by omega)]
  intro j a b c
  by_cases e : j = k1
  · rw [m_up_at e, e, g5]
  · rw [m_up_ne e]; exact p0 j a (by omega) c
theorem k_cp2_30 {bk : Int → Int} {bk3 : Int → Int} {k : Int} (p0 : p_CB30 bk bk3 (k)) (c0 : 0 ≤ k + (-360)) : p_CB30 bk bk3 (360) := by
  intro j g1 g2 g3
  exact p0 j g1 (by omega) g3
theorem k_mqmark1 {yo : Int} {yn : Int} {yk : Int → Int} {yl : Int → Int} {yo1 : Int} {yn1 : Int} {yk1 : Int → Int} {yl1 : Int → Int} (hyo : 2 ≤ yo ∧ yo ≤ 13) (hyn : 0 ≤ yn ∧ yn ≤ 96) (hyk : ∀ i, 0 ≤ yk i ∧ yk i ≤ 13) (hyl : ∀ i, 0 ≤ yl i ∧ yl i ≤ 13) (hyo1 : 2 ≤ yo1 ∧ yo1 ≤ 13) (hyn1 : 0 ≤ yn1 ∧ yn1 ≤ 96) {o n : Int} (p0 : p_AE16_486 yk yk1 (0)) (p1 : p_AE17_487 yl yl1 (0)) (p2 : o = yo) (p3 : o = yo1) (p4 : n = yn) (p5 : n = yn1) : p_MK1 yo yn yk yl yo1 yn1 yk1 yl1 (0) := by
  exact ⟨by omega, by omega, p0, p1⟩
theorem k_mqback1 {yo : Int} {yn : Int} {yk : Int → Int} {yl : Int → Int} {yo1 : Int} {yn1 : Int} {yk1 : Int → Int} {yl1 : Int → Int} (hyo : 2 ≤ yo ∧ yo ≤ 13) (hyn : 0 ≤ yn ∧ yn ≤ 96) (hyk : ∀ i, 0 ≤ yk i ∧ yk i ≤ 13) (hyl : ∀ i, 0 ≤ yl i ∧ yl i ≤ 13) (hyo1 : 2 ≤ yo1 ∧ yo1 ≤ 13) (hyn1 : 0 ≤ yn1 ∧ yn1 ≤ 96) {o n : Int} (p0 : p_AE486_16 yk yk1 (0)) (p1 : p_AE487_17 yl yl1 (0)) (p2 : o = yo1) (p3 : o = yo) (p4 : n = yn1) (p5 : n = yn) : p_MK1 yo yn yk yl yo1 yn1 yk1 yl1 (0) := by
  exact ⟨by omega, by omega, fun i a b => (p0 i a b).symm, fun i a b => (p1 i a b).symm⟩
theorem k_tm1 {bk : Int → Int} {yo : Int} {yn : Int} {yk : Int → Int} {yl : Int → Int} {yo1 : Int} {yn1 : Int} {yk1 : Int → Int} {yl1 : Int → Int} {cA : Int → Int} {cB : Int → Int} {cA1 : Int → Int} {cB1 : Int → Int} {bk1 : Int → Int} (hyo : 2 ≤ yo ∧ yo ≤ 13) (hyn : 0 ≤ yn ∧ yn ≤ 96) (hyk : ∀ i, 0 ≤ yk i ∧ yk i ≤ 13) (hyl : ∀ i, 0 ≤ yl i ∧ yl i ≤ 13) (hyo1 : 2 ≤ yo1 ∧ yo1 ≤ 13) (hyn1 : 0 ≤ yn1 ∧ yn1 ≤ 96) (lcA : ∀ i, 0 ≤ i → i < 6 → cA i = bk (0 + i)) (lcB : ∀ i, 0 ≤ i → i < 42 → cB i = bk (7 + i)) (lcA1 : ∀ i, 0 ≤ i → i < 6 → cA1 i = bk1 (0 + i)) (lcB1 : ∀ i, 0 ≤ i → i < 42 → cB1 i = bk1 (7 + i)) (p0 : p_TC0 yo yn yk yl cA cB (0)) (p1 : p_MK1 yo yn yk yl yo1 yn1 yk1 yl1 (0)) (p2 : p_CB01 bk bk1 (360)) : p_TC1 yo1 yn1 yk1 yl1 cA1 cB1 (0) := by
  exact m_TC_ext p0 p1.1 p1.2.1 p1.2.2.1 p1.2.2.2 (fun i a b => by rw [lcA1 i a b, lcA i a b]; exact p2 (0 + i) (by omega) (by omega) (by omega)) (fun i a b => by rw [lcB1 i a b, lcB i a b]; exact p2 (7 + i) (by omega) (by omega) (by omega)) hyn.2
theorem k_tb1 {bk : Int → Int} {yo : Int} {yn : Int} {yk : Int → Int} {yl : Int → Int} {yo1 : Int} {yn1 : Int} {yk1 : Int → Int} {yl1 : Int → Int} {cA : Int → Int} {cB : Int → Int} {cA1 : Int → Int} {cB1 : Int → Int} {bk1 : Int → Int} (hyo : 2 ≤ yo ∧ yo ≤ 13) (hyn : 0 ≤ yn ∧ yn ≤ 96) (hyk : ∀ i, 0 ≤ yk i ∧ yk i ≤ 13) (hyl : ∀ i, 0 ≤ yl i ∧ yl i ≤ 13) (hyo1 : 2 ≤ yo1 ∧ yo1 ≤ 13) (hyn1 : 0 ≤ yn1 ∧ yn1 ≤ 96) (lcA : ∀ i, 0 ≤ i → i < 6 → cA i = bk (0 + i)) (lcB : ∀ i, 0 ≤ i → i < 42 → cB i = bk (7 + i)) (lcA1 : ∀ i, 0 ≤ i → i < 6 → cA1 i = bk1 (0 + i)) (lcB1 : ∀ i, 0 ≤ i → i < 42 → cB1 i = bk1 (7 + i)) (p0 : p_TC1 yo1 yn1 yk1 yl1 cA1 cB1 (0)) (p1 : p_MK1 yo yn yk yl yo1 yn1 yk1 yl1 (0)) (p2 : p_CB10 bk bk1 (360)) : p_TC0 yo yn yk yl cA cB (0) := by
  exact m_TC_ext p0 p1.1.symm p1.2.1.symm (fun i a b => (p1.2.2.1 i a b).symm) (fun i a b => (p1.2.2.2 i a b).symm) (fun i a b => by rw [lcA1 i a b, lcA i a b]; exact p2 (0 + i) (by omega) (by omega) (by omega)) (fun i a b => by rw [lcB1 i a b, lcB i a b]; exact p2 (7 + i) (by omega) (by omega) (by omega)) hyn1.2
