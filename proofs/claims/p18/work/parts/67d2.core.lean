-- 67d2.core: the counts' rules in numbers (printed by wip/p5/gen68.py)
theorem k_haqb {cA : Int → Int} {cB : Int → Int} {n s k r : Int} (p0 : p_HAX cA cB (n + 128 * s + 16384 * k + 35184372088832)) (p1 : p_HL cA cB (s)) (p2 : p_HAR cA cB (r + 128 * k + 274877906944)) (c0 : 0 ≤ n) (c1 : 0 ≤ (-1) * n + 127) (c2 : 0 ≤ s) (c3 : 0 ≤ (-1) * s + 127) (c4 : 0 ≤ k + 2147483648) (c5 : 0 ≤ (-1) * k + 2147483647) (c6 : 0 ≤ n + (-1) * k) (c7 : 0 ≤ k + (-1) * n) (c8 : 0 ≤ r) (c9 : 0 ≤ (-1) * r + 95) : 0 ≤ r + (-1) * s := by
  obtain ⟨n1, s1, k1, e, a1, a2, a3, a4, a5, a6, hn, hj⟩ := p0
  obtain ⟨rfl, rfl, rfl⟩ := m_d3 e a1 a2 a3 a4 c0 c1 c2 c3
  obtain ⟨s2, k2, e2, b1, b2, b3, b4, b5, b6⟩ := p2
  obtain ⟨rfl, rfl⟩ : s2 = r ∧ k2 = k1 := by omega
  by_cases q1 : s2 < s1
  · have := hj s2.toNat (by omega) (by rw [show ((s2.toNat : Nat) : Int) = s2 by omega]; exact b5)
    omega
  by_cases q2 : s1 < s2
  · have h0 := m_hc_s (A := cA) (B := cB) (f := 0) (s := s1) a3
    rw [show s1 + 1 - 0 = s1 + 1 by omega, show s1 - 0 = s1 by omega, if_pos p1.2.2] at h0
    have h2 := m_hc_mono (A := cA) (B := cB) (f := 0) (s2.toNat - (s1 + 1).toNat) (s1 + 1).toNat
    rw [show (s1 + 1).toNat + (s2.toNat - (s1 + 1).toNat) = s2.toNat by omega] at h2
    omega
  omega
theorem k_haz {yo : Int} {yn : Int} {yk : Int → Int} {yl : Int → Int} {cA : Int → Int} {cB : Int → Int} (hyo : 2 ≤ yo ∧ yo ≤ 13) (hyn : 0 ≤ yn ∧ yn ≤ 96) (hyk : ∀ i, 0 ≤ yk i ∧ yk i ≤ 13) (hyl : ∀ i, 0 ≤ yl i ∧ yl i ≤ 13) {n s k m r : Int} (p0 : p_TC0 yo yn yk yl cA cB (0)) (p1 : p_HAX cA cB (n + 128 * s + 16384 * k + 35184372088832)) (p2 : p_HAR cA cB (r + 128 * k + 274877906944)) (p3 : m = yn) (c0 : 0 ≤ n) (c1 : 0 ≤ (-1) * n + 127) (c2 : 0 ≤ s) (c3 : 0 ≤ (-1) * s + 127) (c4 : 0 ≤ k + 2147483648) (c5 : 0 ≤ (-1) * k + 2147483647) (c6 : 0 ≤ s + (-1) * m) (c7 : 0 ≤ r) (c8 : 0 ≤ (-1) * r + 95) : 0 ≤ (-1) := by
  obtain ⟨n1, s1, k1, e, a1, a2, a3, a4, a5, a6, hn, hj⟩ := p1
  obtain ⟨rfl, rfl, rfl⟩ := m_d3 e a1 a2 a3 a4 c0 c1 c2 c3
  obtain ⟨s2, k2, e2, b1, b2, b3, b4, b5, b6⟩ := p2
  obtain ⟨rfl, rfl⟩ : s2 = r ∧ k2 = k1 := by omega
  have h1 := p0.2.1
  have := hj s2.toNat (by omega) (by rw [show ((s2.toNat : Nat) : Int) = s2 by omega]; exact b5)
  omega
theorem k_nx0 {cA : Int → Int} {cB : Int → Int} {f : Int} (c0 : 0 ≤ f) (c1 : 0 ≤ (-1) * f + 95) : p_NXH cA cB (129 * f) := by
  exact ⟨f, f, by omega, by omega, by omega, by omega, by omega, fun j a b => by omega⟩
theorem k_nx1 {cA : Int → Int} {cB : Int → Int} {f s : Int} (p0 : p_NXH cA cB (f + 128 * s)) (p1 : p_NH cA cB (s)) (c0 : 0 ≤ f) (c1 : 0 ≤ (-1) * f + 95) (c2 : 0 ≤ s) (c3 : 0 ≤ (-1) * s + 127) : p_NXH cA cB (f + 128 * s + 128) := by
  obtain ⟨f1, s1, e, a1, a2, a3, a4, hj⟩ := p0
  obtain ⟨rfl, rfl⟩ : f1 = f ∧ s1 = s := by omega
  have s95 := p1.2.1
  exact ⟨f1, s1 + 1, by omega, by omega, by omega, by omega, by omega, fun j a b => by
    by_cases q : j < s1
    · exact hj j a q
    · rw [show j = s1 by omega]; exact p1.2.2⟩
theorem k_nxr {yo : Int} {yn : Int} {yk : Int → Int} {yl : Int → Int} {cA : Int → Int} {cB : Int → Int} (hyo : 2 ≤ yo ∧ yo ≤ 13) (hyn : 0 ≤ yn ∧ yn ≤ 96) (hyk : ∀ i, 0 ≤ yk i ∧ yk i ≤ 13) (hyl : ∀ i, 0 ≤ yl i ∧ yl i ≤ 13) {f s m : Int} (p0 : p_TC0 yo yn yk yl cA cB (0)) (p1 : p_NXH cA cB (f + 128 * s)) (p2 : p_HL cA cB (s)) (p3 : m = yn) (c0 : 0 ≤ f) (c1 : 0 ≤ (-1) * f + 95) (c2 : 0 ≤ s) (c3 : 0 ≤ (-1) * s + 127) (c4 : 0 ≤ m + (-1) * s + (-1)) (c5 : 0 ≤ (-1) * s + 95) : p_NXQ cA cB (f + 128 * s) := by
  obtain ⟨f1, s1, e, a1, a2, a3, a4, hj⟩ := p1
  obtain ⟨rfl, rfl⟩ : f1 = f ∧ s1 = s := by omega
  have h1 := p0.2.1
  exact ⟨f1, s1, by omega, a1, a2, a3, a4, p2.2.2, by omega, hj⟩
theorem k_nxn {yo : Int} {yn : Int} {yk : Int → Int} {yl : Int → Int} {cA : Int → Int} {cB : Int → Int} (hyo : 2 ≤ yo ∧ yo ≤ 13) (hyn : 0 ≤ yn ∧ yn ≤ 96) (hyk : ∀ i, 0 ≤ yk i ∧ yk i ≤ 13) (hyl : ∀ i, 0 ≤ yl i ∧ yl i ≤ 13) {f s m : Int} (p0 : p_TC0 yo yn yk yl cA cB (0)) (p1 : p_NXH cA cB (f + 128 * s)) (p2 : m = yn) (c0 : 0 ≤ f) (c1 : 0 ≤ (-1) * f + 95) (c2 : 0 ≤ s) (c3 : 0 ≤ (-1) * s + 127) (c4 : 0 ≤ s + (-1) * m) : p_NXN cA cB (f) := by
  obtain ⟨f1, s1, e, a1, a2, a3, a4, hj⟩ := p1
  obtain ⟨rfl, rfl⟩ : f1 = f ∧ s1 = s := by omega
  have h1 := p0.2.1
  exact fun j a b => hj j a (by omega)
theorem k_nxx {yo : Int} {yn : Int} {yk : Int → Int} {yl : Int → Int} {cA : Int → Int} {cB : Int → Int} (hyo : 2 ≤ yo ∧ yo ≤ 13) (hyn : 0 ≤ yn ∧ yn ≤ 96) (hyk : ∀ i, 0 ≤ yk i ∧ yk i ≤ 13) (hyl : ∀ i, 0 ≤ yl i ∧ yl i ≤ 13) {f s m : Int} (p0 : p_TC0 yo yn yk yl cA cB (0)) (p1 : p_NXH cA cB (f + 128 * s)) (p2 : p_HL cA cB (s)) (p3 : p_NXN cA cB (f)) (p4 : m = yn) (c0 : 0 ≤ f) (c1 : 0 ≤ (-1) * f + 95) (c2 : 0 ≤ s) (c3 : 0 ≤ (-1) * s + 127) (c4 : 0 ≤ m + (-1) * s + (-1)) : 0 ≤ (-1) := by
  obtain ⟨f1, s1, e, a1, a2, a3, a4, hj⟩ := p1
  obtain ⟨rfl, rfl⟩ : f1 = f ∧ s1 = s := by omega
  have h1 := p0.2.1
  exact absurd p2.2.2 (p3 s1 a3 (by omega))
theorem k_nxqa {cA : Int → Int} {cB : Int → Int} {f s r : Int} (p0 : p_NXH cA cB (f + 128 * s)) (p1 : p_HL cA cB (s)) (p2 : p_NXQ cA cB (f + 128 * r)) (c0 : 0 ≤ f) (c1 : 0 ≤ (-1) * f + 95) (c2 : 0 ≤ s) (c3 : 0 ≤ (-1) * s + 127) (c4 : 0 ≤ r) (c5 : 0 ≤ (-1) * r + 95) : 0 ≤ s + (-1) * r := by
  obtain ⟨f1, s1, e, a1, a2, a3, a4, hj⟩ := p0
  obtain ⟨rfl, rfl⟩ : f1 = f ∧ s1 = s := by omega
  obtain ⟨f2, s2, e2, b1, b2, b3, b4, b5, b6, hi⟩ := p2
  obtain ⟨rfl, rfl⟩ : f2 = f1 ∧ s2 = r := by omega
  by_cases q1 : s2 < s1
  · exact absurd b5 (hj s2 b3 q1)
  by_cases q2 : s1 < s2
  · exact absurd p1.2.2 (hi s1 a3 q2)
  omega
theorem k_nxqb {cA : Int → Int} {cB : Int → Int} {f s r : Int} (p0 : p_NXH cA cB (f + 128 * s)) (p1 : p_HL cA cB (s)) (p2 : p_NXQ cA cB (f + 128 * r)) (c0 : 0 ≤ f) (c1 : 0 ≤ (-1) * f + 95) (c2 : 0 ≤ s) (c3 : 0 ≤ (-1) * s + 127) (c4 : 0 ≤ r) (c5 : 0 ≤ (-1) * r + 95) : 0 ≤ r + (-1) * s := by
  obtain ⟨f1, s1, e, a1, a2, a3, a4, hj⟩ := p0
  obtain ⟨rfl, rfl⟩ : f1 = f ∧ s1 = s := by omega
  obtain ⟨f2, s2, e2, b1, b2, b3, b4, b5, b6, hi⟩ := p2
  obtain ⟨rfl, rfl⟩ : f2 = f1 ∧ s2 = r := by omega
  by_cases q1 : s2 < s1
  · exact absurd b5 (hj s2 b3 q1)
  by_cases q2 : s1 < s2
  · exact absurd p1.2.2 (hi s1 a3 q2)
  omega
theorem k_nxz {yo : Int} {yn : Int} {yk : Int → Int} {yl : Int → Int} {cA : Int → Int} {cB : Int → Int} (hyo : 2 ≤ yo ∧ yo ≤ 13) (hyn : 0 ≤ yn ∧ yn ≤ 96) (hyk : ∀ i, 0 ≤ yk i ∧ yk i ≤ 13) (hyl : ∀ i, 0 ≤ yl i ∧ yl i ≤ 13) {f s m r : Int} (p0 : p_TC0 yo yn yk yl cA cB (0)) (p1 : p_NXH cA cB (f + 128 * s)) (p2 : p_NXQ cA cB (f + 128 * r)) (p3 : m = yn) (c0 : 0 ≤ f) (c1 : 0 ≤ (-1) * f + 95) (c2 : 0 ≤ s) (c3 : 0 ≤ (-1) * s + 127) (c4 : 0 ≤ s + (-1) * m) (c5 : 0 ≤ r) (c6 : 0 ≤ (-1) * r + 95) : 0 ≤ (-1) := by
  obtain ⟨f1, s1, e, a1, a2, a3, a4, hj⟩ := p1
  obtain ⟨rfl, rfl⟩ : f1 = f ∧ s1 = s := by omega
  obtain ⟨f2, s2, e2, b1, b2, b3, b4, b5, b6, hi⟩ := p2
  obtain ⟨rfl, rfl⟩ : f2 = f1 ∧ s2 = r := by omega
  have h1 := p0.2.1
  exact absurd b5 (hj s2 b3 (by omega))
theorem k_gp0 {cA : Int → Int} {cB : Int → Int} : p_GPX cA cB (0) := by
  exact ⟨0, 0, 0, by omega, by omega, by omega, by omega, by omega, by omega, by omega, by omega, by omega, rfl⟩
theorem k_gph {cA : Int → Int} {cB : Int → Int} {s q m w y : Int} (p0 : p_GPX cA cB (s + 128 * q + 16384 * m)) (p1 : p_HL cA cB (s)) (c0 : 0 ≤ s) (c1 : 0 ≤ (-1) * s + 127) (c2 : 0 ≤ q) (c3 : 0 ≤ (-1) * q + 127) (c4 : 0 ≤ m) (c5 : 0 ≤ (-1) * m + 127) (c6 : 0 ≤ w) (c7 : 0 ≤ (-1) * w + 127) (c8 : 0 ≤ y) (c9 : 0 ≤ (-1) * y + 127) (c10 : 0 ≤ (-1) * w) (c11 : 0 ≤ y + (-1) * m) (c12 : 0 ≤ m + (-1) * y) : p_GPX cA cB (s + 128 * w + 16384 * y + 1) := by
  obtain ⟨s1, q1, m1, e, a1, a2, a3, a4, a5, a6, a7, a8, hg⟩ := p0
  obtain ⟨rfl, rfl, rfl⟩ : s1 = s ∧ q1 = q ∧ m1 = m := by omega
  have s95 := p1.2.1
  refine ⟨s1 + 1, w, y, by omega, by omega, by omega, by omega, by omega, by omega, by omega, by omega, by omega, ?_⟩
  rw [show (s1 + 1).toNat = s1.toNat + 1 by omega]
  show (if m_hl cA cB ((s1.toNat : Nat) : Int) then ((0 : Int), (m_gp cA cB s1.toNat).2) else ((m_gp cA cB s1.toNat).1 + 1, if (m_gp cA cB s1.toNat).2 ≤ (m_gp cA cB s1.toNat).1 + 1 then (m_gp cA cB s1.toNat).1 + 1 else (m_gp cA cB s1.toNat).2)) = (w, y)
  rw [show ((s1.toNat : Nat) : Int) = s1 by omega, if_pos p1.2.2, hg]
  show ((0 : Int), m1) = (w, y)
  rw [show w = 0 by omega, show y = m1 by omega]
theorem k_gpna {cA : Int → Int} {cB : Int → Int} {s q m w y : Int} (p0 : p_GPX cA cB (s + 128 * q + 16384 * m)) (p1 : p_NH cA cB (s)) (c0 : 0 ≤ s) (c1 : 0 ≤ (-1) * s + 127) (c2 : 0 ≤ q) (c3 : 0 ≤ (-1) * q + 127) (c4 : 0 ≤ m) (c5 : 0 ≤ (-1) * m + 127) (c6 : 0 ≤ w) (c7 : 0 ≤ (-1) * w + 127) (c8 : 0 ≤ y) (c9 : 0 ≤ (-1) * y + 127) (c10 : 0 ≤ w + (-1) * q + (-1)) (c11 : 0 ≤ q + (-1) * w + 1) (c12 : 0 ≤ y + (-1) * m) (c13 : 0 ≤ m + (-1) * y) (c14 : 0 ≤ m + (-1) * w) : p_GPX cA cB (s + 128 * w + 16384 * y + 1) := by
  obtain ⟨s1, q1, m1, e, a1, a2, a3, a4, a5, a6, a7, a8, hg⟩ := p0
  obtain ⟨rfl, rfl, rfl⟩ : s1 = s ∧ q1 = q ∧ m1 = m := by omega
  have s95 := p1.2.1
  refine ⟨s1 + 1, w, y, by omega, by omega, by omega, by omega, by omega, by omega, by omega, by omega, by omega, ?_⟩
  rw [show (s1 + 1).toNat = s1.toNat + 1 by omega]
  show (if m_hl cA cB ((s1.toNat : Nat) : Int) then ((0 : Int), (m_gp cA cB s1.toNat).2) else ((m_gp cA cB s1.toNat).1 + 1, if (m_gp cA cB s1.toNat).2 ≤ (m_gp cA cB s1.toNat).1 + 1 then (m_gp cA cB s1.toNat).1 + 1 else (m_gp cA cB s1.toNat).2)) = (w, y)
  rw [show ((s1.toNat : Nat) : Int) = s1 by omega, if_neg p1.2.2, hg]
  show (q1 + 1, if m1 ≤ q1 + 1 then q1 + 1 else m1) = (w, y)
  rw [show w = q1 + 1 by omega, show y = m1 by omega]
  by_cases k : m1 ≤ q1 + 1
  · rw [if_pos k, show q1 + 1 = m1 by omega]
  · rw [if_neg k]
theorem k_gpnb {cA : Int → Int} {cB : Int → Int} {s q m w y : Int} (p0 : p_GPX cA cB (s + 128 * q + 16384 * m)) (p1 : p_NH cA cB (s)) (c0 : 0 ≤ s) (c1 : 0 ≤ (-1) * s + 127) (c2 : 0 ≤ q) (c3 : 0 ≤ (-1) * q + 127) (c4 : 0 ≤ m) (c5 : 0 ≤ (-1) * m + 127) (c6 : 0 ≤ w) (c7 : 0 ≤ (-1) * w + 127) (c8 : 0 ≤ y) (c9 : 0 ≤ (-1) * y + 127) (c10 : 0 ≤ w + (-1) * q + (-1)) (c11 : 0 ≤ q + (-1) * w + 1) (c12 : 0 ≤ y + (-1) * w) (c13 : 0 ≤ w + (-1) * y) (c14 : 0 ≤ w + (-1) * m) : p_GPX cA cB (s + 128 * w + 16384 * y + 1) := by
  obtain ⟨s1, q1, m1, e, a1, a2, a3, a4, a5, a6, a7, a8, hg⟩ := p0
  obtain ⟨rfl, rfl, rfl⟩ : s1 = s ∧ q1 = q ∧ m1 = m := by omega
  have s95 := p1.2.1
  refine ⟨s1 + 1, w, y, by omega, by omega, by omega, by omega, by omega, by omega, by omega, by omega, by omega, ?_⟩
  rw [show (s1 + 1).toNat = s1.toNat + 1 by omega]
  show (if m_hl cA cB ((s1.toNat : Nat) : Int) then ((0 : Int), (m_gp cA cB s1.toNat).2) else ((m_gp cA cB s1.toNat).1 + 1, if (m_gp cA cB s1.toNat).2 ≤ (m_gp cA cB s1.toNat).1 + 1 then (m_gp cA cB s1.toNat).1 + 1 else (m_gp cA cB s1.toNat).2)) = (w, y)
  rw [show ((s1.toNat : Nat) : Int) = s1 by omega, if_neg p1.2.2, hg]
  show (q1 + 1, if m1 ≤ q1 + 1 then q1 + 1 else m1) = (w, y)
  rw [show w = q1 + 1 by omega, show y = q1 + 1 by omega, if_pos (by omega)]
theorem k_gpc {yo : Int} {yn : Int} {yk : Int → Int} {yl : Int → Int} {cA : Int → Int} {cB : Int → Int} (hyo : 2 ≤ yo ∧ yo ≤ 13) (hyn : 0 ≤ yn ∧ yn ≤ 96) (hyk : ∀ i, 0 ≤ yk i ∧ yk i ≤ 13) (hyl : ∀ i, 0 ≤ yl i ∧ yl i ≤ 13) {s q m n : Int} (p0 : p_TC0 yo yn yk yl cA cB (0)) (p1 : p_GPX cA cB (s + 128 * q + 16384 * m)) (p2 : n = yn) (c0 : 0 ≤ s) (c1 : 0 ≤ (-1) * s + 127) (c2 : 0 ≤ q) (c3 : 0 ≤ (-1) * q + 127) (c4 : 0 ≤ m) (c5 : 0 ≤ (-1) * m + 127) (c6 : 0 ≤ s + (-1) * n) (c7 : 0 ≤ n + (-1) * s) : p_GPC cA cB (m) := by
  obtain ⟨s1, q1, m1, e, a1, a2, a3, a4, a5, a6, a7, a8, hg⟩ := p1
  obtain ⟨rfl, rfl, rfl⟩ : s1 = s ∧ q1 = q ∧ m1 = m := by omega
  have h1 := p0.2.1
  have h2 : s1.toNat = (m_NB cA cB).toNat := by omega
  show m1 = (m_gp cA cB (m_NB cA cB).toNat).2
  rw [← h2, hg]
theorem k_gpqa {yo : Int} {yn : Int} {yk : Int → Int} {yl : Int → Int} {cA : Int → Int} {cB : Int → Int} (hyo : 2 ≤ yo ∧ yo ≤ 13) (hyn : 0 ≤ yn ∧ yn ≤ 96) (hyk : ∀ i, 0 ≤ yk i ∧ yk i ≤ 13) (hyl : ∀ i, 0 ≤ yl i ∧ yl i ≤ 13) {s q m n r : Int} (p0 : p_TC0 yo yn yk yl cA cB (0)) (p1 : p_GPX cA cB (s + 128 * q + 16384 * m)) (p2 : n = yn) (p3 : p_GPC cA cB (r)) (c0 : 0 ≤ s) (c1 : 0 ≤ (-1) * s + 127) (c2 : 0 ≤ q) (c3 : 0 ≤ (-1) * q + 127) (c4 : 0 ≤ m) (c5 : 0 ≤ (-1) * m + 127) (c6 : 0 ≤ s + (-1) * n) (c7 : 0 ≤ n + (-1) * s) (c8 : 0 ≤ r) (c9 : 0 ≤ (-1) * r + 127) : 0 ≤ m + (-1) * r := by
  obtain ⟨s1, q1, m1, e, a1, a2, a3, a4, a5, a6, a7, a8, hg⟩ := p1
  obtain ⟨rfl, rfl, rfl⟩ : s1 = s ∧ q1 = q ∧ m1 = m := by omega
  have h1 := p0.2.1
  have h2 : s1.toNat = (m_NB cA cB).toNat := by omega
  have h3 : r = (m_gp cA cB (m_NB cA cB).toNat).2 := p3
  rw [← h2, hg] at h3
  have h3 : r = m1 := h3
  omega
theorem k_gpqb {yo : Int} {yn : Int} {yk : Int → Int} {yl : Int → Int} {cA : Int → Int} {cB : Int → Int} (hyo : 2 ≤ yo ∧ yo ≤ 13) (hyn : 0 ≤ yn ∧ yn ≤ 96) (hyk : ∀ i, 0 ≤ yk i ∧ yk i ≤ 13) (hyl : ∀ i, 0 ≤ yl i ∧ yl i ≤ 13) {s q m n r : Int} (p0 : p_TC0 yo yn yk yl cA cB (0)) (p1 : p_GPX cA cB (s + 128 * q + 16384 * m)) (p2 : n = yn) (p3 : p_GPC cA cB (r)) (c0 : 0 ≤ s) (c1 : 0 ≤ (-1) * s + 127) (c2 : 0 ≤ q) (c3 : 0 ≤ (-1) * q + 127) (c4 : 0 ≤ m) (c5 : 0 ≤ (-1) * m + 127) (c6 : 0 ≤ s + (-1) * n) (c7 : 0 ≤ n + (-1) * s) (c8 : 0 ≤ r) (c9 : 0 ≤ (-1) * r + 127) : 0 ≤ r + (-1) * m := by
  obtain ⟨s1, q1, m1, e, a1, a2, a3, a4, a5, a6, a7, a8, hg⟩ := p1
  obtain ⟨rfl, rfl, rfl⟩ : s1 = s ∧ q1 = q ∧ m1 = m := by omega
  have h1 := p0.2.1
  have h2 : s1.toNat = (m_NB cA cB).toNat := by omega
  have h3 : r = (m_gp cA cB (m_NB cA cB).toNat).2 := p3
  rw [← h2, hg] at h3
  have h3 : r = m1 := h3
  omega
theorem k_sha {yo : Int} {yn : Int} {yk : Int → Int} {yl : Int → Int} {cA : Int → Int} {cB : Int → Int} (hyo : 2 ≤ yo ∧ yo ≤ 13) (hyn : 0 ≤ yn ∧ yn ≤ 96) (hyk : ∀ i, 0 ≤ yk i ∧ yk i ≤ 13) (hyl : ∀ i, 0 ≤ yl i ∧ yl i ≤ 13) {F G d i o : Int} (p0 : p_TC0 yo yn yk yl cA cB (0)) (p1 : o = yo) (p2 : p_TV cA cB (F)) (p3 : p_SWV cA cB (G)) (c0 : 0 ≤ d + (-1) * F + G) (c1 : 0 ≤ F + (-1) * G + (-1) * d) (c2 : 0 ≤ i) (c3 : 0 ≤ (-1) * i + 95) (c4 : 0 ≤ F + (-16) * i) (c5 : 0 ≤ 16 * i + (-1) * F + 15) (c6 : 0 ≤ G + (-16) * i) (c7 : 0 ≤ 16 * i + (-1) * G + 15) (c8 : 0 ≤ (-1) * d + (-1)) (c9 : 0 ≤ d + o) (c10 : 0 ≤ (-1) * d + (-1) * o + 15) : p_SHC cA cB (i + 128 * d + 128 * o) := by
  obtain ⟨i1, t1, e, a1, a2, a3, a4, h⟩ := p2
  obtain ⟨rfl, et⟩ : i1 = i ∧ t1 = F - 16 * i := by omega
  obtain ⟨i2, w1, e2, b1, b2, b3, b4, h2⟩ := p3
  obtain ⟨rfl, ew⟩ : i2 = i1 ∧ w1 = G - 16 * i1 := by omega
  have hs := p0.2.2.1
  have r1 := m_tb_rg hs i2.toNat
  have r2 := m_sb_rg hs i2.toNat
  rw [h] at r1
  rw [h2] at r2
  have h0 := p0.1
  refine ⟨i2, d + o, by omega, by omega, by omega, by omega, by omega, ?_⟩
  rw [h, h2]
  have q := Int.add_mul_emod_self_left (t1 - w1) (cA 0) 1
  rw [← q]
  rw [show t1 - w1 + cA 0 * 1 = d + o by omega, Int.emod_eq_of_lt (a := d + o) (b := cA 0) (by omega) (by omega)]
theorem k_shb {yo : Int} {yn : Int} {yk : Int → Int} {yl : Int → Int} {cA : Int → Int} {cB : Int → Int} (hyo : 2 ≤ yo ∧ yo ≤ 13) (hyn : 0 ≤ yn ∧ yn ≤ 96) (hyk : ∀ i, 0 ≤ yk i ∧ yk i ≤ 13) (hyl : ∀ i, 0 ≤ yl i ∧ yl i ≤ 13) {F G d i : Int} (p0 : p_TC0 yo yn yk yl cA cB (0)) (p1 : p_TV cA cB (F)) (p2 : p_SWV cA cB (G)) (c0 : 0 ≤ d + (-1) * F + G) (c1 : 0 ≤ F + (-1) * G + (-1) * d) (c2 : 0 ≤ i) (c3 : 0 ≤ (-1) * i + 95) (c4 : 0 ≤ F + (-16) * i) (c5 : 0 ≤ 16 * i + (-1) * F + 15) (c6 : 0 ≤ G + (-16) * i) (c7 : 0 ≤ 16 * i + (-1) * G + 15) (c8 : 0 ≤ d) (c9 : 0 ≤ (-1) * d + 15) : p_SHC cA cB (i + 128 * d) := by
  obtain ⟨i1, t1, e, a1, a2, a3, a4, h⟩ := p1
  obtain ⟨rfl, et⟩ : i1 = i ∧ t1 = F - 16 * i := by omega
  obtain ⟨i2, w1, e2, b1, b2, b3, b4, h2⟩ := p2
  obtain ⟨rfl, ew⟩ : i2 = i1 ∧ w1 = G - 16 * i1 := by omega
  have hs := p0.2.2.1
  have r1 := m_tb_rg hs i2.toNat
  have r2 := m_sb_rg hs i2.toNat
  rw [h] at r1
  rw [h2] at r2
  have h0 := p0.1
  refine ⟨i2, d, by omega, by omega, by omega, by omega, by omega, ?_⟩
  rw [h, h2, Int.emod_eq_of_lt (a := t1 - w1) (b := cA 0) (by omega) (by omega)]
  omega
theorem k_tvb1 {yo : Int} {yn : Int} {yk : Int → Int} {yl : Int → Int} {cA : Int → Int} {cB : Int → Int} (hyo : 2 ≤ yo ∧ yo ≤ 13) (hyn : 0 ≤ yn ∧ yn ≤ 96) (hyk : ∀ i, 0 ≤ yk i ∧ yk i ≤ 13) (hyl : ∀ i, 0 ≤ yl i ∧ yl i ≤ 13) {z i : Int} (p0 : p_TC0 yo yn yk yl cA cB (0)) (p1 : p_TV cA cB (z + 16 * i)) (c0 : 0 ≤ i) (c1 : 0 ≤ (-1) * i + 95) (c2 : 0 ≤ z) (c3 : 0 ≤ (-1) * z + 15) : 0 ≤ z + (-1) := by
  obtain ⟨i1, z1, e, a1, a2, a3, a4, h⟩ := p1
  obtain ⟨rfl, rfl⟩ : i1 = i ∧ z1 = z := by omega
  have r1 := m_tb_rg p0.2.2.1 i1.toNat
  rw [h] at r1
  omega
theorem k_tvb2 {M : Int} {yo : Int} {yn : Int} {yk : Int → Int} {yl : Int → Int} {cA : Int → Int} {cB : Int → Int} (hM : 2 ≤ M ∧ M ≤ 13) (hyo : 2 ≤ yo ∧ yo ≤ 13) (hyn : 0 ≤ yn ∧ yn ≤ 96) (hyk : ∀ i, 0 ≤ yk i ∧ yk i ≤ 13) (hyl : ∀ i, 0 ≤ yl i ∧ yl i ≤ 13) (lMA : M = cA 0) {z i m : Int} (p0 : p_TC0 yo yn yk yl cA cB (0)) (p1 : p_TV cA cB (z + 16 * i)) (p2 : m = M) (c0 : 0 ≤ i) (c1 : 0 ≤ (-1) * i + 95) (c2 : 0 ≤ z) (c3 : 0 ≤ (-1) * z + 15) : 0 ≤ m + (-1) * z := by
  obtain ⟨i1, z1, e, a1, a2, a3, a4, h⟩ := p1
  obtain ⟨rfl, rfl⟩ : i1 = i ∧ z1 = z := by omega
  have r1 := m_tb_rg p0.2.2.1 i1.toNat
  rw [h] at r1
  omega
theorem k_svb1 {yo : Int} {yn : Int} {yk : Int → Int} {yl : Int → Int} {cA : Int → Int} {cB : Int → Int} (hyo : 2 ≤ yo ∧ yo ≤ 13) (hyn : 0 ≤ yn ∧ yn ≤ 96) (hyk : ∀ i, 0 ≤ yk i ∧ yk i ≤ 13) (hyl : ∀ i, 0 ≤ yl i ∧ yl i ≤ 13) {z i : Int} (p0 : p_TC0 yo yn yk yl cA cB (0)) (p1 : p_SWV cA cB (z + 16 * i)) (c0 : 0 ≤ i) (c1 : 0 ≤ (-1) * i + 95) (c2 : 0 ≤ z) (c3 : 0 ≤ (-1) * z + 15) : 0 ≤ z + (-1) := by
  obtain ⟨i1, z1, e, a1, a2, a3, a4, h⟩ := p1
  obtain ⟨rfl, rfl⟩ : i1 = i ∧ z1 = z := by omega
  have r1 := m_sb_rg p0.2.2.1 i1.toNat
  rw [h] at r1
  omega
theorem k_svb2 {M : Int} {yo : Int} {yn : Int} {yk : Int → Int} {yl : Int → Int} {cA : Int → Int} {cB : Int → Int} (hM : 2 ≤ M ∧ M ≤ 13) (hyo : 2 ≤ yo ∧ yo ≤ 13) (hyn : 0 ≤ yn ∧ yn ≤ 96) (hyk : ∀ i, 0 ≤ yk i ∧ yk i ≤ 13) (hyl : ∀ i, 0 ≤ yl i ∧ yl i ≤ 13) (lMA : M = cA 0) {z i m : Int} (p0 : p_TC0 yo yn yk yl cA cB (0)) (p1 : p_SWV cA cB (z + 16 * i)) (p2 : m = M) (c0 : 0 ≤ i) (c1 : 0 ≤ (-1) * i + 95) (c2 : 0 ≤ z) (c3 : 0 ≤ (-1) * z + 15) : 0 ≤ m + (-1) * z := by
  obtain ⟨i1, z1, e, a1, a2, a3, a4, h⟩ := p1
  obtain ⟨rfl, rfl⟩ : i1 = i ∧ z1 = z := by omega
  have r1 := m_sb_rg p0.2.2.1 i1.toNat
  rw [h] at r1
  omega
theorem k_tvc1 {yo : Int} {yn : Int} {yk : Int → Int} {yl : Int → Int} {cA : Int → Int} {cB : Int → Int} (hyo : 2 ≤ yo ∧ yo ≤ 13) (hyn : 0 ≤ yn ∧ yn ≤ 96) (hyk : ∀ i, 0 ≤ yk i ∧ yk i ≤ 13) (hyl : ∀ i, 0 ≤ yl i ∧ yl i ≤ 13) {t w i : Int} (p0 : p_TC0 yo yn yk yl cA cB (0)) (p1 : p_TV cA cB (t + 16 * i)) (c0 : 0 ≤ i) (c1 : 0 ≤ (-1) * i + 95) (c2 : 0 ≤ t) (c3 : 0 ≤ (-1) * t + 15) : 0 ≤ t + (-1) := by
  obtain ⟨i1, z1, e, a1, a2, a3, a4, h⟩ := p1
  obtain ⟨rfl, rfl⟩ : i1 = i ∧ z1 = t := by omega
  have r1 := m_tb_rg p0.2.2.1 i1.toNat
  rw [h] at r1
  omega
theorem k_tvc2 {yo : Int} {yn : Int} {yk : Int → Int} {yl : Int → Int} {cA : Int → Int} {cB : Int → Int} (hyo : 2 ≤ yo ∧ yo ≤ 13) (hyn : 0 ≤ yn ∧ yn ≤ 96) (hyk : ∀ i, 0 ≤ yk i ∧ yk i ≤ 13) (hyl : ∀ i, 0 ≤ yl i ∧ yl i ≤ 13) {t w i o : Int} (p0 : p_TC0 yo yn yk yl cA cB (0)) (p1 : p_TV cA cB (t + 16 * i)) (p2 : o = yo) (c0 : 0 ≤ i) (c1 : 0 ≤ (-1) * i + 95) (c2 : 0 ≤ t) (c3 : 0 ≤ (-1) * t + 15) : 0 ≤ o + (-1) * t := by
  obtain ⟨i1, z1, e, a1, a2, a3, a4, h⟩ := p1
  obtain ⟨rfl, rfl⟩ : i1 = i ∧ z1 = t := by omega
  have r1 := m_tb_rg p0.2.2.1 i1.toNat
  rw [h] at r1
  have h0 := p0.1
  omega
theorem k_svc1 {yo : Int} {yn : Int} {yk : Int → Int} {yl : Int → Int} {cA : Int → Int} {cB : Int → Int} (hyo : 2 ≤ yo ∧ yo ≤ 13) (hyn : 0 ≤ yn ∧ yn ≤ 96) (hyk : ∀ i, 0 ≤ yk i ∧ yk i ≤ 13) (hyl : ∀ i, 0 ≤ yl i ∧ yl i ≤ 13) {t w i : Int} (p0 : p_TC0 yo yn yk yl cA cB (0)) (p1 : p_SWV cA cB (w + 16 * i)) (c0 : 0 ≤ i) (c1 : 0 ≤ (-1) * i + 95) (c2 : 0 ≤ w) (c3 : 0 ≤ (-1) * w + 15) : 0 ≤ w + (-1) := by
  obtain ⟨i1, z1, e, a1, a2, a3, a4, h⟩ := p1
  obtain ⟨rfl, rfl⟩ : i1 = i ∧ z1 = w := by omega
  have r1 := m_sb_rg p0.2.2.1 i1.toNat
  rw [h] at r1
  omega
theorem k_svc2 {yo : Int} {yn : Int} {yk : Int → Int} {yl : Int → Int} {cA : Int → Int} {cB : Int → Int} (hyo : 2 ≤ yo ∧ yo ≤ 13) (hyn : 0 ≤ yn ∧ yn ≤ 96) (hyk : ∀ i, 0 ≤ yk i ∧ yk i ≤ 13) (hyl : ∀ i, 0 ≤ yl i ∧ yl i ≤ 13) {t w i o : Int} (p0 : p_TC0 yo yn yk yl cA cB (0)) (p1 : p_SWV cA cB (w + 16 * i)) (p2 : o = yo) (c0 : 0 ≤ i) (c1 : 0 ≤ (-1) * i + 95) (c2 : 0 ≤ w) (c3 : 0 ≤ (-1) * w + 15) : 0 ≤ o + (-1) * w := by
  obtain ⟨i1, z1, e, a1, a2, a3, a4, h⟩ := p1
  obtain ⟨rfl, rfl⟩ : i1 = i ∧ z1 = w := by omega
  have r1 := m_sb_rg p0.2.2.1 i1.toNat
  rw [h] at r1
  have h0 := p0.1
  omega
theorem k_shr {M : Int} {yo : Int} {yn : Int} {yk : Int → Int} {yl : Int → Int} {cA : Int → Int} {cB : Int → Int} (hM : 2 ≤ M ∧ M ≤ 13) (hyo : 2 ≤ yo ∧ yo ≤ 13) (hyn : 0 ≤ yn ∧ yn ≤ 96) (hyk : ∀ i, 0 ≤ yk i ∧ yk i ≤ 13) (hyl : ∀ i, 0 ≤ yl i ∧ yl i ≤ 13) (lMA : M = cA 0) {x m z F G i : Int} (i1 : 0 ≤ x) (i2 : 1 ≤ m) (i3 : z = x % m) (p0 : p_TC0 yo yn yk yl cA cB (0)) (p1 : m = M) (p2 : p_TV cA cB (F)) (p3 : p_SWV cA cB (G)) (c0 : 0 ≤ x + (-1) * m + (-1) * F + G) (c1 : 0 ≤ F + (-1) * G + (-1) * x + m) (c2 : 0 ≤ i) (c3 : 0 ≤ (-1) * i + 95) (c4 : 0 ≤ F + (-16) * i) (c5 : 0 ≤ 16 * i + (-1) * F + 15) (c6 : 0 ≤ G + (-16) * i) (c7 : 0 ≤ 16 * i + (-1) * G + 15) : p_SHF cA cB (i + 128 * z) := by
  obtain ⟨i1, t1, e, a1, a2, a3, a4, h⟩ := p2
  obtain ⟨rfl, et⟩ : i1 = i ∧ t1 = F - 16 * i := by omega
  obtain ⟨i2, w1, e2, b1, b2, b3, b4, h2⟩ := p3
  obtain ⟨rfl, ew⟩ : i2 = i1 ∧ w1 = G - 16 * i1 := by omega
  have hs := p0.2.2.1
  have r1 := m_tb_rg hs i2.toNat
  have r2 := m_sb_rg hs i2.toNat
  rw [h] at r1
  rw [h2] at r2
  have hx : x = t1 - w1 + cA 0 * 1 := by omega
  have hz : z = (t1 - w1) % cA 0 := by
    rw [i3, hx, show m = cA 0 by omega]
    exact Int.add_mul_emod_self_left _ _ _
  have z0 : 0 ≤ z := by rw [i3]; exact Int.emod_nonneg _ (by omega)
  have z1 : z < m := by rw [i3]; exact Int.emod_lt_of_pos _ (by omega)
  exact ⟨i2, z, by omega, by omega, by omega, by omega, by omega, by rw [h, h2]; exact hz⟩
theorem k_shqa {cA : Int → Int} {cB : Int → Int} {z r i : Int} (p0 : p_SHF cA cB (i + 128 * z)) (p1 : p_SHC cA cB (i + 128 * r)) (c0 : 0 ≤ i) (c1 : 0 ≤ (-1) * i + 95) : 0 ≤ z + (-1) * r := by
  obtain ⟨i1, y1, e, a1, a2, a3, a4, h⟩ := p0
  obtain ⟨rfl, rfl⟩ : i1 = i ∧ y1 = z := by omega
  obtain ⟨i2, y2, e2, b1, b2, b3, b4, h2⟩ := p1
  obtain ⟨rfl, rfl⟩ : i2 = i1 ∧ y2 = r := by omega
  omega
theorem k_shqb {cA : Int → Int} {cB : Int → Int} {z r i : Int} (p0 : p_SHF cA cB (i + 128 * z)) (p1 : p_SHC cA cB (i + 128 * r)) (c0 : 0 ≤ i) (c1 : 0 ≤ (-1) * i + 95) : 0 ≤ r + (-1) * z := by
  obtain ⟨i1, y1, e, a1, a2, a3, a4, h⟩ := p0
  obtain ⟨rfl, rfl⟩ : i1 = i ∧ y1 = z := by omega
  obtain ⟨i2, y2, e2, b1, b2, b3, b4, h2⟩ := p1
  obtain ⟨rfl, rfl⟩ : i2 = i1 ∧ y2 = r := by omega
  omega
theorem k_sl5 {yo : Int} {yn : Int} {yk : Int → Int} {yl : Int → Int} {cA : Int → Int} {cB : Int → Int} (hyo : 2 ≤ yo ∧ yo ≤ 13) (hyn : 0 ≤ yn ∧ yn ≤ 96) (hyk : ∀ i, 0 ≤ yk i ∧ yk i ≤ 13) (hyl : ∀ i, 0 ≤ yl i ∧ yl i ≤ 13) {i o : Int} (p0 : p_TC0 yo yn yk yl cA cB (0)) (p1 : o = yo) (p2 : p_SWV cA cB (o + 16 * i)) (c0 : 0 ≤ i) (c1 : 0 ≤ (-1) * i + 95) : p_SHL cA cB (i) := by
  obtain ⟨i1, z1, e, a1, a2, a3, a4, h⟩ := p2
  obtain ⟨rfl, e2⟩ : i1 = i ∧ z1 = o := by omega
  have h0 := p0.1
  exact ⟨a1, a2, by show _ = _; omega⟩
theorem k_sn5a {yo : Int} {yn : Int} {yk : Int → Int} {yl : Int → Int} {cA : Int → Int} {cB : Int → Int} (hyo : 2 ≤ yo ∧ yo ≤ 13) (hyn : 0 ≤ yn ∧ yn ≤ 96) (hyk : ∀ i, 0 ≤ yk i ∧ yk i ≤ 13) (hyl : ∀ i, 0 ≤ yl i ∧ yl i ≤ 13) {F i o : Int} (p0 : p_TC0 yo yn yk yl cA cB (0)) (p1 : o = yo) (p2 : p_SWV cA cB (F)) (c0 : 0 ≤ o + (-1) * F + 16 * i + (-1)) (c1 : 0 ≤ i) (c2 : 0 ≤ (-1) * i + 95) (c3 : 0 ≤ F + (-16) * i) (c4 : 0 ≤ 16 * i + (-1) * F + 15) : p_SHN cA cB (i) := by
  obtain ⟨i1, z1, e, a1, a2, a3, a4, h⟩ := p2
  obtain ⟨rfl, e2⟩ : i1 = i ∧ z1 = F - 16 * i := by omega
  have h0 := p0.1
  exact ⟨a1, a2, fun q => by have q : _ = _ := q; omega⟩
theorem k_sn5b {yo : Int} {yn : Int} {yk : Int → Int} {yl : Int → Int} {cA : Int → Int} {cB : Int → Int} (hyo : 2 ≤ yo ∧ yo ≤ 13) (hyn : 0 ≤ yn ∧ yn ≤ 96) (hyk : ∀ i, 0 ≤ yk i ∧ yk i ≤ 13) (hyl : ∀ i, 0 ≤ yl i ∧ yl i ≤ 13) {F i o : Int} (p0 : p_TC0 yo yn yk yl cA cB (0)) (p1 : o = yo) (p2 : p_SWV cA cB (F)) (c0 : 0 ≤ F + (-16) * i + (-1) * o + (-1)) (c1 : 0 ≤ i) (c2 : 0 ≤ (-1) * i + 95) (c3 : 0 ≤ F + (-16) * i) (c4 : 0 ≤ 16 * i + (-1) * F + 15) : p_SHN cA cB (i) := by
  obtain ⟨i1, z1, e, a1, a2, a3, a4, h⟩ := p2
  obtain ⟨rfl, e2⟩ : i1 = i ∧ z1 = F - 16 * i := by omega
  have h0 := p0.1
  exact ⟨a1, a2, fun q => by have q : _ = _ := q; omega⟩
theorem k_slr {M : Int} {cA : Int → Int} {cB : Int → Int} (hM : 2 ≤ M ∧ M ≤ 13) (lMA : M = cA 0) {i m : Int} (p0 : m = M) (p1 : p_SWV cA cB (m + 16 * i)) (c0 : 0 ≤ i) (c1 : 0 ≤ (-1) * i + 95) : p_SHL cA cB (i) := by
  obtain ⟨i1, z1, e, a1, a2, a3, a4, h⟩ := p1
  obtain ⟨rfl, e2⟩ : i1 = i ∧ z1 = m := by omega
  exact ⟨a1, a2, by show _ = _; omega⟩
theorem k_snra {M : Int} {cA : Int → Int} {cB : Int → Int} (hM : 2 ≤ M ∧ M ≤ 13) (lMA : M = cA 0) {F i m : Int} (p0 : m = M) (p1 : p_SWV cA cB (F)) (c0 : 0 ≤ m + (-1) * F + 16 * i + (-1)) (c1 : 0 ≤ i) (c2 : 0 ≤ (-1) * i + 95) (c3 : 0 ≤ F + (-16) * i) (c4 : 0 ≤ 16 * i + (-1) * F + 15) : p_SHN cA cB (i) := by
  obtain ⟨i1, z1, e, a1, a2, a3, a4, h⟩ := p1
  obtain ⟨rfl, e2⟩ : i1 = i ∧ z1 = F - 16 * i := by omega
  exact ⟨a1, a2, fun q => by have q : _ = _ := q; omega⟩
theorem k_snrb {M : Int} {cA : Int → Int} {cB : Int → Int} (hM : 2 ≤ M ∧ M ≤ 13) (lMA : M = cA 0) {F i m : Int} (p0 : m = M) (p1 : p_SWV cA cB (F)) (c0 : 0 ≤ F + (-16) * i + (-1) * m + (-1)) (c1 : 0 ≤ i) (c2 : 0 ≤ (-1) * i + 95) (c3 : 0 ≤ F + (-16) * i) (c4 : 0 ≤ 16 * i + (-1) * F + 15) : p_SHN cA cB (i) := by
  obtain ⟨i1, z1, e, a1, a2, a3, a4, h⟩ := p1
  obtain ⟨rfl, e2⟩ : i1 = i ∧ z1 = F - 16 * i := by omega
  exact ⟨a1, a2, fun q => by have q : _ = _ := q; omega⟩
theorem k_as0 {cA : Int → Int} {cB : Int → Int} : p_ASX cA cB (0) := by
  intro j a b
  omega
theorem k_as1a {cA : Int → Int} {cB : Int → Int} {s : Int} (p0 : p_ASX cA cB (s)) (p1 : p_HL cA cB (s)) (p2 : p_SHL cA cB (s)) (c0 : 0 ≤ s) (c1 : 0 ≤ (-1) * s + 95) : p_ASX cA cB (s + 1) := by
  intro j a b
  by_cases q : j < s
  · exact p0 j a q
  · rw [show j = s by omega]
    exact ⟨fun _ => p2.2.2, fun _ => p1.2.2⟩
theorem k_as1b {cA : Int → Int} {cB : Int → Int} {s : Int} (p0 : p_ASX cA cB (s)) (p1 : p_NH cA cB (s)) (p2 : p_SHN cA cB (s)) (c0 : 0 ≤ s) (c1 : 0 ≤ (-1) * s + 95) : p_ASX cA cB (s + 1) := by
  intro j a b
  by_cases q : j < s
  · exact p0 j a q
  · rw [show j = s by omega]
    exact ⟨fun h => absurd h p1.2.2, fun h => absurd h p2.2.2⟩
theorem k_asra {yo : Int} {yn : Int} {yk : Int → Int} {yl : Int → Int} {cA : Int → Int} {cB : Int → Int} (hyo : 2 ≤ yo ∧ yo ≤ 13) (hyn : 0 ≤ yn ∧ yn ≤ 96) (hyk : ∀ i, 0 ≤ yk i ∧ yk i ≤ 13) (hyl : ∀ i, 0 ≤ yl i ∧ yl i ≤ 13) {s n : Int} (p0 : p_TC0 yo yn yk yl cA cB (0)) (p1 : n = yn) (p2 : p_ASX cA cB (s)) (p3 : p_HL cA cB (s)) (p4 : p_SHN cA cB (s)) (c0 : 0 ≤ s) (c1 : 0 ≤ (-1) * s + 95) (c2 : 0 ≤ n + (-1) * s + (-1)) : p_ASR cA cB (s) := by
  have h1 := p0.2.1
  exact ⟨by omega, by omega, fun h => p4.2.2 (h.mp p3.2.2), p2⟩
theorem k_asxa {yo : Int} {yn : Int} {yk : Int → Int} {yl : Int → Int} {cA : Int → Int} {cB : Int → Int} (hyo : 2 ≤ yo ∧ yo ≤ 13) (hyn : 0 ≤ yn ∧ yn ≤ 96) (hyk : ∀ i, 0 ≤ yk i ∧ yk i ≤ 13) (hyl : ∀ i, 0 ≤ yl i ∧ yl i ≤ 13) {s n : Int} (p0 : p_TC0 yo yn yk yl cA cB (0)) (p1 : n = yn) (p2 : p_ASX cA cB (s)) (p3 : p_HL cA cB (s)) (p4 : p_SHN cA cB (s)) (p5 : p_ASN cA cB (0)) (c0 : 0 ≤ s) (c1 : 0 ≤ (-1) * s + 95) (c2 : 0 ≤ n + (-1) * s + (-1)) : 0 ≤ (-1) := by
  have h1 := p0.2.1
  exact absurd (p5 s (by omega) (by omega)) (fun h => p4.2.2 (h.mp p3.2.2))
theorem k_asqap {cA : Int → Int} {cB : Int → Int} {s r : Int} (p0 : p_ASX cA cB (s)) (p1 : p_HL cA cB (s)) (p2 : p_SHN cA cB (s)) (p3 : p_ASR cA cB (r)) (c0 : 0 ≤ s) (c1 : 0 ≤ (-1) * s + 95) (c2 : 0 ≤ r) (c3 : 0 ≤ (-1) * r + 95) : 0 ≤ s + (-1) * r := by
  by_cases q1 : r < s
  · exact absurd (p0 r (by omega) q1) p3.2.2.1
  by_cases q2 : s < r
  · exact absurd (p3.2.2.2 s (by omega) q2) (fun h => p2.2.2 (h.mp p1.2.2))
  omega
theorem k_asqaq {cA : Int → Int} {cB : Int → Int} {s r : Int} (p0 : p_ASX cA cB (s)) (p1 : p_HL cA cB (s)) (p2 : p_SHN cA cB (s)) (p3 : p_ASR cA cB (r)) (c0 : 0 ≤ s) (c1 : 0 ≤ (-1) * s + 95) (c2 : 0 ≤ r) (c3 : 0 ≤ (-1) * r + 95) : 0 ≤ r + (-1) * s := by
  by_cases q1 : r < s
  · exact absurd (p0 r (by omega) q1) p3.2.2.1
  by_cases q2 : s < r
  · exact absurd (p3.2.2.2 s (by omega) q2) (fun h => p2.2.2 (h.mp p1.2.2))
  omega
theorem k_asrb {yo : Int} {yn : Int} {yk : Int → Int} {yl : Int → Int} {cA : Int → Int} {cB : Int → Int} (hyo : 2 ≤ yo ∧ yo ≤ 13) (hyn : 0 ≤ yn ∧ yn ≤ 96) (hyk : ∀ i, 0 ≤ yk i ∧ yk i ≤ 13) (hyl : ∀ i, 0 ≤ yl i ∧ yl i ≤ 13) {s n : Int} (p0 : p_TC0 yo yn yk yl cA cB (0)) (p1 : n = yn) (p2 : p_ASX cA cB (s)) (p3 : p_NH cA cB (s)) (p4 : p_SHL cA cB (s)) (c0 : 0 ≤ s) (c1 : 0 ≤ (-1) * s + 95) (c2 : 0 ≤ n + (-1) * s + (-1)) : p_ASR cA cB (s) := by
  have h1 := p0.2.1
  exact ⟨by omega, by omega, fun h => p3.2.2 (h.mpr p4.2.2), p2⟩
theorem k_asxb {yo : Int} {yn : Int} {yk : Int → Int} {yl : Int → Int} {cA : Int → Int} {cB : Int → Int} (hyo : 2 ≤ yo ∧ yo ≤ 13) (hyn : 0 ≤ yn ∧ yn ≤ 96) (hyk : ∀ i, 0 ≤ yk i ∧ yk i ≤ 13) (hyl : ∀ i, 0 ≤ yl i ∧ yl i ≤ 13) {s n : Int} (p0 : p_TC0 yo yn yk yl cA cB (0)) (p1 : n = yn) (p2 : p_ASX cA cB (s)) (p3 : p_NH cA cB (s)) (p4 : p_SHL cA cB (s)) (p5 : p_ASN cA cB (0)) (c0 : 0 ≤ s) (c1 : 0 ≤ (-1) * s + 95) (c2 : 0 ≤ n + (-1) * s + (-1)) : 0 ≤ (-1) := by
  have h1 := p0.2.1
  exact absurd (p5 s (by omega) (by omega)) (fun h => p3.2.2 (h.mpr p4.2.2))
theorem k_asqbp {cA : Int → Int} {cB : Int → Int} {s r : Int} (p0 : p_ASX cA cB (s)) (p1 : p_NH cA cB (s)) (p2 : p_SHL cA cB (s)) (p3 : p_ASR cA cB (r)) (c0 : 0 ≤ s) (c1 : 0 ≤ (-1) * s + 95) (c2 : 0 ≤ r) (c3 : 0 ≤ (-1) * r + 95) : 0 ≤ s + (-1) * r := by
  by_cases q1 : r < s
  · exact absurd (p0 r (by omega) q1) p3.2.2.1
  by_cases q2 : s < r
  · exact absurd (p3.2.2.2 s (by omega) q2) (fun h => p1.2.2 (h.mpr p2.2.2))
  omega
theorem k_asqbq {cA : Int → Int} {cB : Int → Int} {s r : Int} (p0 : p_ASX cA cB (s)) (p1 : p_NH cA cB (s)) (p2 : p_SHL cA cB (s)) (p3 : p_ASR cA cB (r)) (c0 : 0 ≤ s) (c1 : 0 ≤ (-1) * s + 95) (c2 : 0 ≤ r) (c3 : 0 ≤ (-1) * r + 95) : 0 ≤ r + (-1) * s := by
  by_cases q1 : r < s
  · exact absurd (p0 r (by omega) q1) p3.2.2.1
  by_cases q2 : s < r
  · exact absurd (p3.2.2.2 s (by omega) q2) (fun h => p1.2.2 (h.mpr p2.2.2))
  omega
theorem k_asn {yo : Int} {yn : Int} {yk : Int → Int} {yl : Int → Int} {cA : Int → Int} {cB : Int → Int} (hyo : 2 ≤ yo ∧ yo ≤ 13) (hyn : 0 ≤ yn ∧ yn ≤ 96) (hyk : ∀ i, 0 ≤ yk i ∧ yk i ≤ 13) (hyl : ∀ i, 0 ≤ yl i ∧ yl i ≤ 13) {s n : Int} (p0 : p_TC0 yo yn yk yl cA cB (0)) (p1 : n = yn) (p2 : p_ASX cA cB (s)) (c0 : 0 ≤ s) (c1 : 0 ≤ (-1) * s + 127) (c2 : 0 ≤ s + (-1) * n) : p_ASN cA cB (0) := by
  have h1 := p0.2.1
  exact fun j a b => p2 j a (by omega)
theorem k_asz {yo : Int} {yn : Int} {yk : Int → Int} {yl : Int → Int} {cA : Int → Int} {cB : Int → Int} (hyo : 2 ≤ yo ∧ yo ≤ 13) (hyn : 0 ≤ yn ∧ yn ≤ 96) (hyk : ∀ i, 0 ≤ yk i ∧ yk i ≤ 13) (hyl : ∀ i, 0 ≤ yl i ∧ yl i ≤ 13) {s n r : Int} (p0 : p_TC0 yo yn yk yl cA cB (0)) (p1 : n = yn) (p2 : p_ASX cA cB (s)) (p3 : p_ASR cA cB (r)) (c0 : 0 ≤ s) (c1 : 0 ≤ (-1) * s + 127) (c2 : 0 ≤ s + (-1) * n) (c3 : 0 ≤ r) (c4 : 0 ≤ (-1) * r + 95) : 0 ≤ (-1) := by
  have h1 := p0.2.1
  have h2 := p3.2.1
  exact absurd (p2 r (by omega) (by omega)) p3.2.2.1
theorem k_kn0 {sn : Int → Int} {i z : Int} (i1 : 0 ≤ i) (i2 : i < 96) (c0 : 0 ≤ i) (c1 : 0 ≤ (-1) * i + 95) (c2 : 0 ≤ z + 1) (c3 : 0 ≤ (-1) * z + 2) : p_KN18 (m_up sn i z) (z + 4 * i + 1) := by
  exact ⟨i, z, by omega, by omega, by omega, by omega, by omega, m_up_at rfl⟩
theorem k_kn1a {sn : Int → Int} {i z F : Int} (zsn : 0 ≤ i - 0 → i - 0 < 96 → sn (i - 0) = z) (p0 : p_KN18 sn (F)) (c0 : 0 ≤ i) (c1 : 0 ≤ (-1) * i + 95) (c2 : 0 ≤ F + (-4) * i) (c3 : 0 ≤ 4 * i + (-1) * F + 3) : 0 ≤ F + (-4) * i + (-1) * z + (-1) := by
  have hz := zsn (by omega) (by omega)
  rw [show i - 0 = i by omega] at hz
  obtain ⟨i1, z1, e, a1, a2, a3, a4, h⟩ := p0
  obtain rfl : i1 = i := by omega
  rw [h] at hz
  omega
theorem k_kn1b {sn : Int → Int} {i z F : Int} (zsn : 0 ≤ i - 0 → i - 0 < 96 → sn (i - 0) = z) (p0 : p_KN18 sn (F)) (c0 : 0 ≤ i) (c1 : 0 ≤ (-1) * i + 95) (c2 : 0 ≤ F + (-4) * i) (c3 : 0 ≤ 4 * i + (-1) * F + 3) : 0 ≤ z + 4 * i + (-1) * F + 1 := by
  have hz := zsn (by omega) (by omega)
  rw [show i - 0 = i by omega] at hz
  obtain ⟨i1, z1, e, a1, a2, a3, a4, h⟩ := p0
  obtain rfl : i1 = i := by omega
  rw [h] at hz
  omega
theorem k_hn {cA : Int → Int} {cB : Int → Int} {s : Int} (p0 : p_HL cA cB (s)) (p1 : p_NH cA cB (s)) (c0 : 0 ≤ s) (c1 : 0 ≤ (-1) * s + 95) : 0 ≤ (-1) := by
  exact absurd p0.2.2 p1.2.2
theorem k_ntst {nt : Int → Int} (hnt : ∀ i, 0 ≤ nt i ∧ nt i ≤ 2) {i z s : Int} (i1 : 0 ≤ i) (c0 : 0 ≤ i + (-1) * s + (-49)) (c1 : 0 ≤ s + (-1) * i + 49) (c2 : 0 ≤ s) (c3 : 0 ≤ (-1) * s + 95) (c4 : 0 ≤ z) (c5 : 0 ≤ (-1) * z + 3) : p_NT (m_upo 49 96 nt i z) (z + 4 * s) := by
  rw [m_upo_e (p := s) (by omega) (by omega) (by omega)]
  exact ⟨z, s, by omega, by omega, by omega, by omega, by omega, m_up_at rfl⟩
