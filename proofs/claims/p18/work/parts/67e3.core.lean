-- 67e3.core: the rules of join, years, against, dated in numbers (printed by wip/p5/gen68.py)
theorem k_rtwp {cA : Int → Int} {cB : Int → Int} {ru : Int → Int} {i z t : Int} (zru : 0 ≤ i - 0 → i - 0 < 96 → ru (i - 0) = z) (p0 : p_RWI cA cB ru (t + 128 * i)) (c0 : 0 ≤ i) (c1 : 0 ≤ (-1) * i + 95) (c2 : 0 ≤ t) (c3 : 0 ≤ (-1) * t + 127) : 0 ≤ z := by
  have hz := zru (by omega) (by omega)
  rw [show i - 0 = i by omega] at hz
  obtain ⟨t1, s1, e, b1, b2, b3, hr, hs⟩ := p0
  obtain ⟨rfl, rfl⟩ : t1 = t ∧ s1 = i := by omega
  rw [hz] at hs
  have hb := m_mx_b (P := m_hfp cA cB t1.toNat) (y := m_yf cA cB s1) (b := (m_hfp cA cB t1.toNat).length) (by omega) (fun q hq => (m_hfp_rb _ q hq).2)
  have hl := m_hfp_ln (A := cA) (B := cB) t1.toNat
  omega
theorem k_rtwq {cA : Int → Int} {cB : Int → Int} {ru : Int → Int} {i z t : Int} (zru : 0 ≤ i - 0 → i - 0 < 96 → ru (i - 0) = z) (p0 : p_RWI cA cB ru (t + 128 * i)) (c0 : 0 ≤ i) (c1 : 0 ≤ (-1) * i + 95) (c2 : 0 ≤ t) (c3 : 0 ≤ (-1) * t + 127) : 0 ≤ (-1) * z + 96 := by
  have hz := zru (by omega) (by omega)
  rw [show i - 0 = i by omega] at hz
  obtain ⟨t1, s1, e, b1, b2, b3, hr, hs⟩ := p0
  obtain ⟨rfl, rfl⟩ : t1 = t ∧ s1 = i := by omega
  rw [hz] at hs
  have hb := m_mx_b (P := m_hfp cA cB t1.toNat) (y := m_yf cA cB s1) (b := (m_hfp cA cB t1.toNat).length) (by omega) (fun q hq => (m_hfp_rb _ q hq).2)
  have hl := m_hfp_ln (A := cA) (B := cB) t1.toNat
  omega
theorem k_rtx {cA : Int → Int} {cB : Int → Int} {ru : Int → Int} {i z : Int} (zru : 0 ≤ i - 0 → i - 0 < 96 → ru (i - 0) = z) (p0 : p_RWO cA cB ru (i + 1)) (c0 : 0 ≤ i) (c1 : 0 ≤ (-1) * i + 95) : p_RTV cA cB (i + 128 * z) := by
  have hz := zru (by omega) (by omega)
  rw [show i - 0 = i by omega] at hz
  have h := p0.2 i.toNat (by omega) (by omega)
  rw [show ((i.toNat : Nat) : Int) = i by omega, hz] at h
  have hb := m_row_b (A := cA) (B := cB) (s := i) (by omega)
  exact ⟨i, z, by omega, by omega, by omega, by omega, by omega, h⟩
theorem k_rtxp {cA : Int → Int} {cB : Int → Int} {ru : Int → Int} {i z : Int} (zru : 0 ≤ i - 0 → i - 0 < 96 → ru (i - 0) = z) (p0 : p_RWO cA cB ru (i + 1)) (c0 : 0 ≤ i) (c1 : 0 ≤ (-1) * i + 95) : 0 ≤ z := by
  have hz := zru (by omega) (by omega)
  rw [show i - 0 = i by omega] at hz
  have h := p0.2 i.toNat (by omega) (by omega)
  rw [show ((i.toNat : Nat) : Int) = i by omega, hz] at h
  have hb := m_row_b (A := cA) (B := cB) (s := i) (by omega)
  omega
theorem k_rtxq {cA : Int → Int} {cB : Int → Int} {ru : Int → Int} {i z : Int} (zru : 0 ≤ i - 0 → i - 0 < 96 → ru (i - 0) = z) (p0 : p_RWO cA cB ru (i + 1)) (c0 : 0 ≤ i) (c1 : 0 ≤ (-1) * i + 95) : 0 ≤ (-1) * z + 96 := by
  have hz := zru (by omega) (by omega)
  rw [show i - 0 = i by omega] at hz
  have h := p0.2 i.toNat (by omega) (by omega)
  rw [show ((i.toNat : Nat) : Int) = i by omega, hz] at h
  have hb := m_row_b (A := cA) (B := cB) (s := i) (by omega)
  omega
theorem k_ri1 {cA : Int → Int} {cB : Int → Int} {ru : Int → Int} {t s x y G : Int} (p0 : p_RWI cA cB ru (t + 128 * s)) (p1 : p_RTV cA cB (t + 128 * x)) (p2 : p_RTW cA cB (t + 128 * s + 16384 * y)) (p3 : p_HFS cA cB (G)) (c0 : 0 ≤ t) (c1 : 0 ≤ (-1) * t + 127) (c2 : 0 ≤ s) (c3 : 0 ≤ (-1) * s + 95) (c4 : 0 ≤ (-1) * t + 95) (c5 : 0 ≤ s + (-1) * t + (-1)) (c6 : 0 ≤ G + (-16384) * s) (c7 : 0 ≤ 16384 * s + (-1) * G + 9999) (c8 : 0 ≤ y + (-1) * x) : p_RWI cA cB ru (t + 128 * s + 1) := by
  obtain ⟨t1, s1, e, b1, b2, b3, hr, hs⟩ := p0
  obtain ⟨rfl, rfl⟩ : t1 = t ∧ s1 = s := by omega
  obtain ⟨i2, x2, e2, d1, d2, d3, d4, d5⟩ := p1
  obtain ⟨rfl, rfl⟩ : i2 = t1 ∧ x2 = x := by omega
  obtain ⟨t3, i3, y3, e3, f1, f2, f3, f4, f5, f6, f7⟩ := p2
  obtain ⟨rfl, rfl, rfl⟩ : t3 = i2 ∧ i3 = s1 ∧ y3 = y := by omega
  refine ⟨t3 + 1, i3, by omega, by omega, by omega, by omega, hr, ?_⟩
  rw [hs, m_mx_s b1, ← f7, ← d5]
  split <;> first | omega | (split <;> omega)
theorem k_ri2 {cA : Int → Int} {cB : Int → Int} {ru : Int → Int} {t s F G : Int} (p0 : p_RWI cA cB ru (t + 128 * s)) (p1 : p_YF cA cB (F)) (p2 : p_HFS cA cB (G)) (c0 : 0 ≤ t) (c1 : 0 ≤ (-1) * t + 127) (c2 : 0 ≤ s) (c3 : 0 ≤ (-1) * s + 95) (c4 : 0 ≤ (-1) * t + 95) (c5 : 0 ≤ s + (-1) * t + (-1)) (c6 : 0 ≤ F + (-16384) * t) (c7 : 0 ≤ 16384 * t + (-1) * F + 10000) (c8 : 0 ≤ G + (-16384) * s) (c9 : 0 ≤ 16384 * s + (-1) * G + 9999) (c10 : 0 ≤ F + (-16384) * t + (-1) * G + 16384 * s + (-2)) : p_RWI cA cB ru (t + 128 * s + 1) := by
  obtain ⟨t1, s1, e, b1, b2, b3, hr, hs⟩ := p0
  obtain ⟨rfl, rfl⟩ : t1 = t ∧ s1 = s := by omega
  obtain ⟨i2, z2, e2, d1, d2, d3, d4, d5⟩ := p1
  obtain rfl : i2 = t1 := by omega
  obtain ⟨i3, z3, e3, f1, f2, f3, f4, f5, f6⟩ := p2
  obtain rfl : i3 = s1 := by omega
  refine ⟨i2 + 1, i3, by omega, by omega, by omega, by omega, hr, ?_⟩
  rw [hs, m_mx_s b1, if_neg (fun q => by have := q.2; omega)]
theorem k_rtra {cA : Int → Int} {cB : Int → Int} {ru : Int → Int} {i z x t s : Int} (zru : 0 ≤ i - 0 → i - 0 < 96 → ru (i - 0) = z) (p0 : p_RWI cA cB ru (t + 128 * s)) (p1 : p_RTV cA cB (i + 128 * x)) (c0 : 0 ≤ t) (c1 : 0 ≤ (-1) * t + 127) (c2 : 0 ≤ s) (c3 : 0 ≤ (-1) * s + 95) (c4 : 0 ≤ i) (c5 : 0 ≤ (-1) * i + 95) (c6 : 0 ≤ s + (-1) * i + (-1)) : 0 ≤ z + (-1) * x := by
  have hz := zru (by omega) (by omega)
  rw [show i - 0 = i by omega] at hz
  obtain ⟨t1, s1, e, b1, b2, b3, hr, hs⟩ := p0
  obtain ⟨rfl, rfl⟩ : t1 = t ∧ s1 = s := by omega
  obtain ⟨i2, x2, e2, d1, d2, d3, d4, d5⟩ := p1
  obtain ⟨rfl, rfl⟩ : i2 = i ∧ x2 = x := by omega
  have h := hr i2.toNat (by omega)
  rw [show ((i2.toNat : Nat) : Int) = i2 by omega, hz] at h
  omega
theorem k_rtrb {cA : Int → Int} {cB : Int → Int} {ru : Int → Int} {i z x t s : Int} (zru : 0 ≤ i - 0 → i - 0 < 96 → ru (i - 0) = z) (p0 : p_RWI cA cB ru (t + 128 * s)) (p1 : p_RTV cA cB (i + 128 * x)) (c0 : 0 ≤ t) (c1 : 0 ≤ (-1) * t + 127) (c2 : 0 ≤ s) (c3 : 0 ≤ (-1) * s + 95) (c4 : 0 ≤ i) (c5 : 0 ≤ (-1) * i + 95) (c6 : 0 ≤ s + (-1) * i + (-1)) : 0 ≤ x + (-1) * z := by
  have hz := zru (by omega) (by omega)
  rw [show i - 0 = i by omega] at hz
  obtain ⟨t1, s1, e, b1, b2, b3, hr, hs⟩ := p0
  obtain ⟨rfl, rfl⟩ : t1 = t ∧ s1 = s := by omega
  obtain ⟨i2, x2, e2, d1, d2, d3, d4, d5⟩ := p1
  obtain ⟨rfl, rfl⟩ : i2 = i ∧ x2 = x := by omega
  have h := hr i2.toNat (by omega)
  rw [show ((i2.toNat : Nat) : Int) = i2 by omega, hz] at h
  omega
theorem k_rws {cA : Int → Int} {cB : Int → Int} {ru : Int → Int} {i z t y F G : Int} (i1 : 0 ≤ i) (i2 : i < 96) (p0 : p_RWI cA cB ru (t + 128 * i)) (p1 : p_RTV cA cB (t + 128 * z)) (p2 : p_RTW cA cB (t + 128 * i + 16384 * y)) (p3 : p_YF cA cB (F)) (p4 : p_HFS cA cB (G)) (c0 : 0 ≤ i) (c1 : 0 ≤ (-1) * i + 95) (c2 : 0 ≤ t) (c3 : 0 ≤ (-1) * t + 95) (c4 : 0 ≤ i + (-1) * t + (-1)) (c5 : 0 ≤ F + (-16384) * t) (c6 : 0 ≤ 16384 * t + (-1) * F + 10000) (c7 : 0 ≤ G + (-16384) * i) (c8 : 0 ≤ 16384 * i + (-1) * G + 9999) (c9 : 0 ≤ z + (-1) * y + (-1)) (c10 : 0 ≤ y) (c11 : 0 ≤ G + (-16384) * i + (-1) * F + 16384 * t + 1) : p_RWI cA cB (m_up ru i z) (t + 128 * i + 1) := by
  obtain ⟨t1, s1, e, b1, b2, b3, hr, hs⟩ := p0
  obtain ⟨rfl, rfl⟩ : t1 = t ∧ s1 = i := by omega
  obtain ⟨i2, x2, e2, d1, d2, d3, d4, d5⟩ := p1
  obtain ⟨rfl, rfl⟩ : i2 = t1 ∧ x2 = z := by omega
  obtain ⟨t3, i3, y3, e3, f1, f2, f3, f4, f5, f6, f7⟩ := p2
  obtain ⟨rfl, rfl, rfl⟩ : t3 = i2 ∧ i3 = s1 ∧ y3 = y := by omega
  obtain ⟨i4, z4, e4, g1, g2, g3, g4, g5⟩ := p3
  obtain rfl : i4 = t3 := by omega
  obtain ⟨i5, z5, e5, h1, h2, h3, h4, h5, h6⟩ := p4
  obtain rfl : i5 = i3 := by omega
  have hf : m_hf cA cB i4 := m_row_1 (by omega)
  refine ⟨i4 + 1, i5, by omega, by omega, by omega, by omega, fun j hj => ?_, ?_⟩
  · rw [m_up_ne (by omega)]
    exact hr j hj
  · rw [m_up_at rfl, m_mx_s b1, if_pos ⟨hf, by omega⟩, if_pos (by omega)]
    exact d5
theorem k_rwe {cA : Int → Int} {cB : Int → Int} {ru : Int → Int} {i z t G : Int} (i1 : 0 ≤ i) (i2 : i < 96) (p0 : p_RWI cA cB ru (t + 128 * i)) (p1 : p_RTW cA cB (t + 128 * i + 16384 * z + (-16384))) (p2 : p_HFS cA cB (G)) (c0 : 0 ≤ i) (c1 : 0 ≤ (-1) * i + 95) (c2 : 0 ≤ t + (-1) * i) (c3 : 0 ≤ i + (-1) * t) (c4 : 0 ≤ G + (-16384) * i) (c5 : 0 ≤ 16384 * i + (-1) * G + 9999) : p_RWO cA cB (m_up ru i z) (i + 1) := by
  obtain ⟨t1, s1, e, b1, b2, b3, hr, hs⟩ := p0
  obtain ⟨rfl, rfl⟩ : t1 = t ∧ s1 = i := by omega
  obtain ⟨t3, i3, y3, e3, f1, f2, f3, f4, f5, f6, f7⟩ := p1
  have ey : y3 = z - 1 := by omega
  have ei : i3 = s1 := by omega
  subst ei
  have et : t3 = t1 := by omega
  subst et
  obtain ⟨i5, z5, e5, h1, h2, h3, h4, h5, h6⟩ := p2
  obtain rfl : i5 = i3 := by omega
  obtain rfl : t3 = i5 := by omega
  refine ⟨by omega, fun j hj h95 => ?_⟩
  by_cases q : (j : Int) = t3
  · rw [m_up_at q, q]
    unfold m_row
    rw [if_pos ⟨h5, by omega⟩, ← f7]
    omega
  · rw [m_up_ne q]
    exact hr j (by omega)
theorem k_rl1a {cA : Int → Int} {cB : Int → Int} {s m r x : Int} (p0 : p_RLO cA cB (s + 128 * m)) (p1 : p_RTV cA cB (s + 128 * x)) (c0 : 0 ≤ s) (c1 : 0 ≤ (-1) * s + 95) (c2 : 0 ≤ r + (-1) * m) (c3 : 0 ≤ m + (-1) * r) (c4 : 0 ≤ r + (-1) * x) : p_RLO cA cB (s + 128 * r + 1) := by
  obtain ⟨s1, m1, e, b1, b2, h⟩ := p0
  obtain ⟨rfl, rfl⟩ : s1 = s ∧ m1 = m := by omega
  obtain ⟨i2, x2, e2, d1, d2, d3, d4, d5⟩ := p1
  obtain ⟨rfl, rfl⟩ : i2 = s1 ∧ x2 = x := by omega
  refine ⟨i2 + 1, r, by omega, by omega, by omega, ?_⟩
  rw [m_rl_s d1, ← h, ← d5]
  split <;> omega
theorem k_rl1b {cA : Int → Int} {cB : Int → Int} {s m r x : Int} (p0 : p_RLO cA cB (s + 128 * m)) (p1 : p_RTV cA cB (s + 128 * x)) (c0 : 0 ≤ s) (c1 : 0 ≤ (-1) * s + 95) (c2 : 0 ≤ r + (-1) * x) (c3 : 0 ≤ x + (-1) * r) (c4 : 0 ≤ r + (-1) * m) : p_RLO cA cB (s + 128 * r + 1) := by
  obtain ⟨s1, m1, e, b1, b2, h⟩ := p0
  obtain ⟨rfl, rfl⟩ : s1 = s ∧ m1 = m := by omega
  obtain ⟨i2, x2, e2, d1, d2, d3, d4, d5⟩ := p1
  obtain ⟨rfl, rfl⟩ : i2 = s1 ∧ x2 = x := by omega
  refine ⟨i2 + 1, r, by omega, by omega, by omega, ?_⟩
  rw [m_rl_s d1, ← h, ← d5]
  split <;> omega
theorem k_rwn {cA : Int → Int} {cB : Int → Int} {ru : Int → Int} {s : Int} (p0 : p_RWI cA cB ru (128 * s)) (p1 : p_NHF cA cB (s)) (c0 : 0 ≤ s) (c1 : 0 ≤ (-1) * s + 95) : p_RWO cA cB ru (s + 1) := by
  obtain ⟨t1, s1, e, b1, b2, b3, hr, hs⟩ := p0
  obtain ⟨rfl, et⟩ : s1 = s ∧ t1 = 0 := by omega
  refine ⟨by omega, fun j hj h95 => ?_⟩
  by_cases q : (j : Int) = s1
  · rw [q, hs, et]
    unfold m_row
    rw [if_neg p1.2.2]
    rfl
  · exact hr j (by omega)
theorem k_rln {cA : Int → Int} {cB : Int → Int} {s m : Int} (p0 : p_RLO cA cB (s + 128 * m)) (p1 : p_NHF cA cB (s)) (c0 : 0 ≤ s) (c1 : 0 ≤ (-1) * s + 95) : p_RLO cA cB (s + 128 * m + 1) := by
  obtain ⟨s1, m1, e, b1, b2, h⟩ := p0
  obtain ⟨rfl, rfl⟩ : s1 = s ∧ m1 = m := by omega
  refine ⟨s1 + 1, m1, by omega, by omega, ?_, ?_⟩
  · have := p1.2.1; omega
  · rw [show (s1 + 1).toNat = s1.toNat + 1 by omega, m_rl_n (by rw [show ((s1.toNat : Nat) : Int) = s1 by omega]; exact p1.2.2)]
    exact h
theorem k_rlr {yo : Int} {yn : Int} {yk : Int → Int} {yl : Int → Int} {cA : Int → Int} {cB : Int → Int} {fy : Int → Int} (hyo : 2 ≤ yo ∧ yo ≤ 13) (hyn : 0 ≤ yn ∧ yn ≤ 96) (hyk : ∀ i, 0 ≤ yk i ∧ yk i ≤ 13) (hyl : ∀ i, 0 ≤ yl i ∧ yl i ≤ 13) {s k n : Int} (p0 : p_TC0 yo yn yk yl cA cB (0)) (p1 : p_TF0 fy cA cB (0)) (p2 : n = yn) (p3 : p_RLO cA cB (s + 128 * k)) (c0 : 0 ≤ s) (c1 : 0 ≤ (-1) * s + 127) (c2 : 0 ≤ s + (-1) * n) : p_RLR cA cB (k) := by
  obtain ⟨s1, m1, e, b1, b2, h⟩ := p3
  obtain ⟨rfl, rfl⟩ : s1 = s ∧ m1 = k := by omega
  have hn := p0.2.1
  show m1 = m_rl cA cB (m_NB cA cB).toNat
  rw [h]
  exact m_rl_en p1.1 (by omega) b1
theorem k_xwk {yv : Int → Int} {i z : Int} (zyv : 0 ≤ i - 0 → i - 0 < 8 → yv (i - 0) = z) : p_XW (z) := by
  exact trivial
theorem k_lg0 {cA : Int → Int} {cB : Int → Int} {lg : Int → Int} : p_LGO cA cB lg (0) := by
  exact ⟨by omega, by omega, fun j hj => absurd hj (by omega)⟩
theorem k_ml0 {cA : Int → Int} {cB : Int → Int} {m : Int} (c0 : 0 ≤ m) (c1 : 0 ≤ (-1) * m) : p_MLO cA cB (0) := by
  exact ⟨0, 0, by omega, by omega, by omega, rfl⟩
theorem k_lg1 {cA : Int → Int} {cB : Int → Int} {lg : Int → Int} {i z : Int} (i1 : 0 ≤ i) (i2 : i < 8) (p0 : p_LGO cA cB lg (i)) (c0 : 0 ≤ i) (c1 : 0 ≤ (-1) * i + 7) (c2 : 0 ≤ z + (-1)) (c3 : 0 ≤ (-1) * z + 1) : p_LGI cA cB (m_up lg i z) (16 * i) := by
  refine ⟨0, i, by omega, by omega, by omega, by omega, by omega, fun j hj => ?_, ?_⟩
  · rw [m_up_ne (by omega)]
    exact p0.2.2 j hj
  · rw [m_up_at rfl]
    show z = 1 + 0
    omega
theorem k_xwg {lg : Int → Int} {i z : Int} (zlg : 0 ≤ i - 0 → i - 0 < 8 → lg (i - 0) = z) : p_XW (z) := by
  exact trivial
theorem k_lgw {cA : Int → Int} {cB : Int → Int} {lg : Int → Int} {i z j : Int} (zlg : 0 ≤ i - 0 → i - 0 < 8 → lg (i - 0) = z) (p0 : p_LGI cA cB lg (j + 16 * i)) (c0 : 0 ≤ i) (c1 : 0 ≤ (-1) * i + 7) (c2 : 0 ≤ j) (c3 : 0 ≤ (-1) * j + 15) : p_LGW cA cB (j + 16 * i + 256 * z) := by
  have hz := zlg (by omega) (by omega)
  rw [show i - 0 = i by omega] at hz
  obtain ⟨j1, ix, e, b1, b2, b3, b4, hr, hs⟩ := p0
  obtain ⟨rfl, rfl⟩ : j1 = j ∧ ix = i := by omega
  rw [hz] at hs
  have hb := m_PN_tk (A := cA) (B := cB) j1.toNat (m_yk (m_PN cA cB) ix.toNat)
  have hb0 := m_mx_0 ((m_PN cA cB).take j1.toNat) (m_yk (m_PN cA cB) ix.toNat)
  exact ⟨j1, ix, z, by omega, by omega, by omega, by omega, by omega, by omega, by omega, hs⟩
theorem k_lgwp {cA : Int → Int} {cB : Int → Int} {lg : Int → Int} {i z j : Int} (zlg : 0 ≤ i - 0 → i - 0 < 8 → lg (i - 0) = z) (p0 : p_LGI cA cB lg (j + 16 * i)) (c0 : 0 ≤ i) (c1 : 0 ≤ (-1) * i + 7) (c2 : 0 ≤ j) (c3 : 0 ≤ (-1) * j + 15) : 0 ≤ z := by
  have hz := zlg (by omega) (by omega)
  rw [show i - 0 = i by omega] at hz
  obtain ⟨j1, ix, e, b1, b2, b3, b4, hr, hs⟩ := p0
  obtain ⟨rfl, rfl⟩ : j1 = j ∧ ix = i := by omega
  rw [hz] at hs
  have hb := m_PN_tk (A := cA) (B := cB) j1.toNat (m_yk (m_PN cA cB) ix.toNat)
  have hb0 := m_mx_0 ((m_PN cA cB).take j1.toNat) (m_yk (m_PN cA cB) ix.toNat)
  omega
theorem k_lgwq {cA : Int → Int} {cB : Int → Int} {lg : Int → Int} {i z j : Int} (zlg : 0 ≤ i - 0 → i - 0 < 8 → lg (i - 0) = z) (p0 : p_LGI cA cB lg (j + 16 * i)) (c0 : 0 ≤ i) (c1 : 0 ≤ (-1) * i + 7) (c2 : 0 ≤ j) (c3 : 0 ≤ (-1) * j + 15) : 0 ≤ (-1) * z + 96 := by
  have hz := zlg (by omega) (by omega)
  rw [show i - 0 = i by omega] at hz
  obtain ⟨j1, ix, e, b1, b2, b3, b4, hr, hs⟩ := p0
  obtain ⟨rfl, rfl⟩ : j1 = j ∧ ix = i := by omega
  rw [hz] at hs
  have hb := m_PN_tk (A := cA) (B := cB) j1.toNat (m_yk (m_PN cA cB) ix.toNat)
  have hb0 := m_mx_0 ((m_PN cA cB).take j1.toNat) (m_yk (m_PN cA cB) ix.toNat)
  omega
theorem k_lgv {cA : Int → Int} {cB : Int → Int} {lg : Int → Int} {i z j k : Int} (zlg : 0 ≤ i - 0 → i - 0 < 8 → lg (i - 0) = z) (p0 : p_LGI cA cB lg (j + 16 * k)) (c0 : 0 ≤ i) (c1 : 0 ≤ (-1) * i + 7) (c2 : 0 ≤ k) (c3 : 0 ≤ (-1) * k + 7) (c4 : 0 ≤ j) (c5 : 0 ≤ (-1) * j + 15) (c6 : 0 ≤ k + (-1) * i + (-1)) : p_LGV cA cB (i + 16 * z) := by
  have hz := zlg (by omega) (by omega)
  rw [show i - 0 = i by omega] at hz
  obtain ⟨j1, ix, e, b1, b2, b3, b4, hr, hs⟩ := p0
  obtain ⟨rfl, rfl⟩ : j1 = j ∧ ix = k := by omega
  have h := hr i.toNat (by omega)
  rw [show ((i.toNat : Nat) : Int) = i by omega, hz] at h
  have hb := m_PN_rb (A := cA) (B := cB) i.toNat
  exact ⟨i, z, by omega, by omega, by omega, by omega, by omega, h⟩
theorem k_lgvp {cA : Int → Int} {cB : Int → Int} {lg : Int → Int} {i z j k : Int} (zlg : 0 ≤ i - 0 → i - 0 < 8 → lg (i - 0) = z) (p0 : p_LGI cA cB lg (j + 16 * k)) (c0 : 0 ≤ i) (c1 : 0 ≤ (-1) * i + 7) (c2 : 0 ≤ k) (c3 : 0 ≤ (-1) * k + 7) (c4 : 0 ≤ j) (c5 : 0 ≤ (-1) * j + 15) (c6 : 0 ≤ k + (-1) * i + (-1)) : 0 ≤ z := by
  have hz := zlg (by omega) (by omega)
  rw [show i - 0 = i by omega] at hz
  obtain ⟨j1, ix, e, b1, b2, b3, b4, hr, hs⟩ := p0
  obtain ⟨rfl, rfl⟩ : j1 = j ∧ ix = k := by omega
  have h := hr i.toNat (by omega)
  rw [show ((i.toNat : Nat) : Int) = i by omega, hz] at h
  have hb := m_PN_rb (A := cA) (B := cB) i.toNat
  omega
theorem k_lgvq {cA : Int → Int} {cB : Int → Int} {lg : Int → Int} {i z j k : Int} (zlg : 0 ≤ i - 0 → i - 0 < 8 → lg (i - 0) = z) (p0 : p_LGI cA cB lg (j + 16 * k)) (c0 : 0 ≤ i) (c1 : 0 ≤ (-1) * i + 7) (c2 : 0 ≤ k) (c3 : 0 ≤ (-1) * k + 7) (c4 : 0 ≤ j) (c5 : 0 ≤ (-1) * j + 15) (c6 : 0 ≤ k + (-1) * i + (-1)) : 0 ≤ (-1) * z + 96 := by
  have hz := zlg (by omega) (by omega)
  rw [show i - 0 = i by omega] at hz
  obtain ⟨j1, ix, e, b1, b2, b3, b4, hr, hs⟩ := p0
  obtain ⟨rfl, rfl⟩ : j1 = j ∧ ix = k := by omega
  have h := hr i.toNat (by omega)
  rw [show ((i.toNat : Nat) : Int) = i by omega, hz] at h
  have hb := m_PN_rb (A := cA) (B := cB) i.toNat
  omega
theorem k_lgx {cA : Int → Int} {cB : Int → Int} {lg : Int → Int} {i z : Int} (zlg : 0 ≤ i - 0 → i - 0 < 8 → lg (i - 0) = z) (p0 : p_LGO cA cB lg (i + 1)) (c0 : 0 ≤ i) (c1 : 0 ≤ (-1) * i + 7) : p_LGV cA cB (i + 16 * z) := by
  have hz := zlg (by omega) (by omega)
  rw [show i - 0 = i by omega] at hz
  have h := p0.2.2 i.toNat (by omega)
  rw [show ((i.toNat : Nat) : Int) = i by omega, hz] at h
  have hb := m_PN_rb (A := cA) (B := cB) i.toNat
  exact ⟨i, z, by omega, by omega, by omega, by omega, by omega, h⟩
theorem k_lgxp {cA : Int → Int} {cB : Int → Int} {lg : Int → Int} {i z : Int} (zlg : 0 ≤ i - 0 → i - 0 < 8 → lg (i - 0) = z) (p0 : p_LGO cA cB lg (i + 1)) (c0 : 0 ≤ i) (c1 : 0 ≤ (-1) * i + 7) : 0 ≤ z := by
  have hz := zlg (by omega) (by omega)
  rw [show i - 0 = i by omega] at hz
  have h := p0.2.2 i.toNat (by omega)
  rw [show ((i.toNat : Nat) : Int) = i by omega, hz] at h
  have hb := m_PN_rb (A := cA) (B := cB) i.toNat
  omega
theorem k_lgxq {cA : Int → Int} {cB : Int → Int} {lg : Int → Int} {i z : Int} (zlg : 0 ≤ i - 0 → i - 0 < 8 → lg (i - 0) = z) (p0 : p_LGO cA cB lg (i + 1)) (c0 : 0 ≤ i) (c1 : 0 ≤ (-1) * i + 7) : 0 ≤ (-1) * z + 96 := by
  have hz := zlg (by omega) (by omega)
  rw [show i - 0 = i by omega] at hz
  have h := p0.2.2 i.toNat (by omega)
  rw [show ((i.toNat : Nat) : Int) = i by omega, hz] at h
  have hb := m_PN_rb (A := cA) (B := cB) i.toNat
  omega
theorem k_lgsa {cA : Int → Int} {cB : Int → Int} {yv : Int → Int} {lg : Int → Int} {i z j x y F G n : Int} (i1 : 0 ≤ i) (i2 : i < 8) (p0 : p_YXR cA cB yv (n)) (p1 : p_LGI cA cB lg (j + 16 * i)) (p2 : p_LGV cA cB (j + 16 * x)) (p3 : p_LGW cA cB (j + 16 * i + 256 * y)) (p4 : p_YVI cA cB (F)) (p5 : p_YVK cA cB (G)) (c0 : 0 ≤ j) (c1 : 0 ≤ (-1) * j + 7) (c2 : 0 ≤ i) (c3 : 0 ≤ (-1) * i + 7) (c4 : 0 ≤ F + (-16384) * j) (c5 : 0 ≤ 16384 * j + (-1) * F + 9999) (c6 : 0 ≤ G + (-16384) * i) (c7 : 0 ≤ 16384 * i + (-1) * G + 9999) (c8 : 0 ≤ G + (-16384) * i + (-1) * F + 16384 * j) (c9 : 0 ≤ i + (-1) * j + (-1)) (c10 : 0 ≤ n + (-1) * i + (-1)) (c11 : 0 ≤ (-1) * n + 8) (c12 : 0 ≤ z + (-1) * y) (c13 : 0 ≤ y + (-1) * z) (c14 : 0 ≤ z + (-1) * x + (-1)) : p_LGI cA cB (m_up lg i z) (j + 16 * i + 1) := by
  obtain ⟨j1, ix, e, b1, b2, b3, b4, hr, hs⟩ := p1
  obtain ⟨rfl, rfl⟩ : j1 = j ∧ ix = i := by omega
  obtain ⟨i2, x2, e2, v1, v2, v3, v4, v5⟩ := p2
  obtain ⟨rfl, rfl⟩ : i2 = j1 ∧ x2 = x := by omega
  obtain ⟨j3, i3, y3, e3, w1, w2, w3, w4, w5, w6, w7⟩ := p3
  obtain ⟨rfl, rfl, rfl⟩ : j3 = i2 ∧ i3 = ix ∧ y3 = y := by omega
  obtain ⟨i5, z5, e5, d1, d2, d3, d4, d5⟩ := p4
  obtain rfl : i5 = j3 := by omega
  obtain ⟨i6, z6, e6, f1, f2, f3, f4, f5⟩ := p5
  obtain rfl : i6 = i3 := by omega
  obtain ⟨q, hq, hq1⟩ := m_fst d5
  obtain ⟨r, hr', hr1⟩ := m_fst f5
  have hyk := m_yk_e hr'
  have hrk := m_rk_e hq
  refine ⟨i5 + 1, i6, by omega, by omega, by omega, by omega, by omega, fun j hj => ?_, ?_⟩
  · rw [m_up_ne (by omega)]
    exact hr j hj
  · rw [m_up_at rfl, show (i5 + 1).toNat = i5.toNat + 1 by omega, m_mx_t hq, if_pos (by omega)]
    split <;> omega
theorem k_lgsb {cA : Int → Int} {cB : Int → Int} {yv : Int → Int} {lg : Int → Int} {i z j x y F G n : Int} (i1 : 0 ≤ i) (i2 : i < 8) (p0 : p_YXR cA cB yv (n)) (p1 : p_LGI cA cB lg (j + 16 * i)) (p2 : p_LGV cA cB (j + 16 * x)) (p3 : p_LGW cA cB (j + 16 * i + 256 * y)) (p4 : p_YVI cA cB (F)) (p5 : p_YVK cA cB (G)) (c0 : 0 ≤ j) (c1 : 0 ≤ (-1) * j + 7) (c2 : 0 ≤ i) (c3 : 0 ≤ (-1) * i + 7) (c4 : 0 ≤ F + (-16384) * j) (c5 : 0 ≤ 16384 * j + (-1) * F + 9999) (c6 : 0 ≤ G + (-16384) * i) (c7 : 0 ≤ 16384 * i + (-1) * G + 9999) (c8 : 0 ≤ G + (-16384) * i + (-1) * F + 16384 * j) (c9 : 0 ≤ i + (-1) * j + (-1)) (c10 : 0 ≤ n + (-1) * i + (-1)) (c11 : 0 ≤ (-1) * n + 8) (c12 : 0 ≤ z + (-1) * x + (-1)) (c13 : 0 ≤ x + (-1) * z + 1) (c14 : 0 ≤ z + (-1) * y) : p_LGI cA cB (m_up lg i z) (j + 16 * i + 1) := by
  obtain ⟨j1, ix, e, b1, b2, b3, b4, hr, hs⟩ := p1
  obtain ⟨rfl, rfl⟩ : j1 = j ∧ ix = i := by omega
  obtain ⟨i2, x2, e2, v1, v2, v3, v4, v5⟩ := p2
  obtain ⟨rfl, rfl⟩ : i2 = j1 ∧ x2 = x := by omega
  obtain ⟨j3, i3, y3, e3, w1, w2, w3, w4, w5, w6, w7⟩ := p3
  obtain ⟨rfl, rfl, rfl⟩ : j3 = i2 ∧ i3 = ix ∧ y3 = y := by omega
  obtain ⟨i5, z5, e5, d1, d2, d3, d4, d5⟩ := p4
  obtain rfl : i5 = j3 := by omega
  obtain ⟨i6, z6, e6, f1, f2, f3, f4, f5⟩ := p5
  obtain rfl : i6 = i3 := by omega
  obtain ⟨q, hq, hq1⟩ := m_fst d5
  obtain ⟨r, hr', hr1⟩ := m_fst f5
  have hyk := m_yk_e hr'
  have hrk := m_rk_e hq
  refine ⟨i5 + 1, i6, by omega, by omega, by omega, by omega, by omega, fun j hj => ?_, ?_⟩
  · rw [m_up_ne (by omega)]
    exact hr j hj
  · rw [m_up_at rfl, show (i5 + 1).toNat = i5.toNat + 1 by omega, m_mx_t hq, if_pos (by omega)]
    split <;> omega
theorem k_lgn {cA : Int → Int} {cB : Int → Int} {yv : Int → Int} {lg : Int → Int} {j i F G n : Int} (p0 : p_YXR cA cB yv (n)) (p1 : p_LGI cA cB lg (j + 16 * i)) (p2 : p_YVI cA cB (F)) (p3 : p_YVK cA cB (G)) (c0 : 0 ≤ j) (c1 : 0 ≤ (-1) * j + 7) (c2 : 0 ≤ i) (c3 : 0 ≤ (-1) * i + 7) (c4 : 0 ≤ F + (-16384) * j) (c5 : 0 ≤ 16384 * j + (-1) * F + 9999) (c6 : 0 ≤ G + (-16384) * i) (c7 : 0 ≤ 16384 * i + (-1) * G + 9999) (c8 : 0 ≤ F + (-16384) * j + (-1) * G + 16384 * i + (-1)) (c9 : 0 ≤ n + (-1) * i + (-1)) (c10 : 0 ≤ i + (-1) * j + (-1)) (c11 : 0 ≤ (-1) * n + 8) : p_LGI cA cB lg (j + 16 * i + 1) := by
  obtain ⟨j1, ix, e, b1, b2, b3, b4, hr, hs⟩ := p1
  obtain ⟨rfl, rfl⟩ : j1 = j ∧ ix = i := by omega
  obtain ⟨i5, z5, e5, d1, d2, d3, d4, d5⟩ := p2
  obtain rfl : i5 = j1 := by omega
  obtain ⟨i6, z6, e6, f1, f2, f3, f4, f5⟩ := p3
  obtain rfl : i6 = ix := by omega
  obtain ⟨q, hq, hq1⟩ := m_fst d5
  obtain ⟨r, hr', hr1⟩ := m_fst f5
  have hyk := m_yk_e hr'
  refine ⟨i5 + 1, i6, by omega, by omega, by omega, by omega, by omega, hr, ?_⟩
  rw [show (i5 + 1).toNat = i5.toNat + 1 by omega, m_mx_t hq, if_neg (by omega)]
  exact hs
theorem k_lge {cA : Int → Int} {cB : Int → Int} {yv : Int → Int} {lg : Int → Int} {j i n : Int} (p0 : p_YXR cA cB yv (n)) (p1 : p_LGI cA cB lg (j + 16 * i)) (c0 : 0 ≤ i) (c1 : 0 ≤ (-1) * i + 7) (c2 : 0 ≤ j + (-1) * i) (c3 : 0 ≤ i + (-1) * j) (c4 : 0 ≤ n + (-1) * i + (-1)) (c5 : 0 ≤ (-1) * n + 8) : p_LGO cA cB lg (i + 1) := by
  obtain ⟨j1, ix, e, b1, b2, b3, b4, hr, hs⟩ := p1
  obtain ⟨rfl, rfl⟩ : j1 = j ∧ ix = i := by omega
  obtain ⟨hl, hy⟩ := p0
  obtain rfl : j1 = ix := by omega
  refine ⟨by omega, by omega, fun j hj => ?_⟩
  by_cases q : (j : Int) = j1
  · have ej : j = j1.toNat := by omega
    rw [q, hs, ej]
    exact (m_PN_row (by omega)).symm
  · exact hr j (by omega)
theorem k_ml1a {cA : Int → Int} {cB : Int → Int} {yv : Int → Int} {k m r x n : Int} (p0 : p_YXR cA cB yv (n)) (p1 : p_MLO cA cB (k + 16 * m)) (p2 : p_LGV cA cB (k + 16 * x)) (c0 : 0 ≤ k) (c1 : 0 ≤ (-1) * k + 7) (c2 : 0 ≤ n + (-1) * k + (-1)) (c3 : 0 ≤ (-1) * n + 8) (c4 : 0 ≤ r + (-1) * m) (c5 : 0 ≤ m + (-1) * r) (c6 : 0 ≤ r + (-1) * x) : p_MLO cA cB (k + 16 * r + 1) := by
  obtain ⟨k1, m1, e, b1, b2, h⟩ := p1
  obtain ⟨rfl, rfl⟩ : k1 = k ∧ m1 = m := by omega
  obtain ⟨i2, x2, e2, v1, v2, v3, v4, v5⟩ := p2
  obtain ⟨rfl, rfl⟩ : i2 = k1 ∧ x2 = x := by omega
  refine ⟨i2 + 1, r, by omega, by omega, by omega, ?_⟩
  rw [show (i2 + 1).toNat = i2.toNat + 1 by omega]
  show r = if m_ml (m_PN cA cB) i2.toNat ≤ m_rk (m_PN cA cB) i2.toNat then m_rk (m_PN cA cB) i2.toNat else m_ml (m_PN cA cB) i2.toNat
  rw [← h, ← v5]
  split <;> omega
theorem k_ml1b {cA : Int → Int} {cB : Int → Int} {yv : Int → Int} {k m r x n : Int} (p0 : p_YXR cA cB yv (n)) (p1 : p_MLO cA cB (k + 16 * m)) (p2 : p_LGV cA cB (k + 16 * x)) (c0 : 0 ≤ k) (c1 : 0 ≤ (-1) * k + 7) (c2 : 0 ≤ n + (-1) * k + (-1)) (c3 : 0 ≤ (-1) * n + 8) (c4 : 0 ≤ r + (-1) * x) (c5 : 0 ≤ x + (-1) * r) (c6 : 0 ≤ r + (-1) * m) : p_MLO cA cB (k + 16 * r + 1) := by
  obtain ⟨k1, m1, e, b1, b2, h⟩ := p1
  obtain ⟨rfl, rfl⟩ : k1 = k ∧ m1 = m := by omega
  obtain ⟨i2, x2, e2, v1, v2, v3, v4, v5⟩ := p2
  obtain ⟨rfl, rfl⟩ : i2 = k1 ∧ x2 = x := by omega
  refine ⟨i2 + 1, r, by omega, by omega, by omega, ?_⟩
  rw [show (i2 + 1).toNat = i2.toNat + 1 by omega]
  show r = if m_ml (m_PN cA cB) i2.toNat ≤ m_rk (m_PN cA cB) i2.toNat then m_rk (m_PN cA cB) i2.toNat else m_ml (m_PN cA cB) i2.toNat
  rw [← h, ← v5]
  split <;> omega
theorem k_yrqa {cA : Int → Int} {cB : Int → Int} {yv : Int → Int} {k m n r : Int} (p0 : p_MLO cA cB (k + 16 * m)) (p1 : p_YXR cA cB yv (n)) (p2 : p_RLR cA cB (r)) (c0 : 0 ≤ k) (c1 : 0 ≤ (-1) * k + 15) (c2 : 0 ≤ k + (-1) * n) (c3 : 0 ≤ n) (c4 : 0 ≤ (-1) * n + 8) : 0 ≤ m + (-1) * r := by
  obtain ⟨k1, m1, e, b1, b2, h⟩ := p0
  obtain ⟨rfl, rfl⟩ : k1 = k ∧ m1 = m := by omega
  obtain ⟨hl, hy⟩ := p1
  have hr : r = m_rl cA cB (m_NB cA cB).toNat := p2
  have h1 := m_rl_ml (A := cA) (B := cB) (m_NB cA cB).toNat
  have h2 := m_ml_en (P := m_PN cA cB) (k1.toNat - (m_PN cA cB).length)
  rw [show (m_PN cA cB).length + (k1.toNat - (m_PN cA cB).length) = k1.toNat by omega] at h2
  have h3 : m_rl cA cB (m_NB cA cB).toNat = m_ml (m_PN cA cB) (m_PN cA cB).length := h1
  omega
theorem k_yrqb {cA : Int → Int} {cB : Int → Int} {yv : Int → Int} {k m n r : Int} (p0 : p_MLO cA cB (k + 16 * m)) (p1 : p_YXR cA cB yv (n)) (p2 : p_RLR cA cB (r)) (c0 : 0 ≤ k) (c1 : 0 ≤ (-1) * k + 15) (c2 : 0 ≤ k + (-1) * n) (c3 : 0 ≤ n) (c4 : 0 ≤ (-1) * n + 8) : 0 ≤ r + (-1) * m := by
  obtain ⟨k1, m1, e, b1, b2, h⟩ := p0
  obtain ⟨rfl, rfl⟩ : k1 = k ∧ m1 = m := by omega
  obtain ⟨hl, hy⟩ := p1
  have hr : r = m_rl cA cB (m_NB cA cB).toNat := p2
  have h1 := m_rl_ml (A := cA) (B := cB) (m_NB cA cB).toNat
  have h2 := m_ml_en (P := m_PN cA cB) (k1.toNat - (m_PN cA cB).length)
  rw [show (m_PN cA cB).length + (k1.toNat - (m_PN cA cB).length) = k1.toNat by omega] at h2
  have h3 : m_rl cA cB (m_NB cA cB).toNat = m_ml (m_PN cA cB) (m_PN cA cB).length := h1
  omega
