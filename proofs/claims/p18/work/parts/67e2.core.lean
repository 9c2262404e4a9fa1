-- 67e2.core: the rules of join, years, against, dated in numbers (printed by wip/p5/gen68.py)
theorem k_hfs {cA : Int → Int} {cB : Int → Int} {z s : Int} (p0 : p_HFY cA cB (z + 16384 * s)) (c0 : 0 ≤ s) (c1 : 0 ≤ (-1) * s + 95) (c2 : 0 ≤ z) (c3 : 0 ≤ (-1) * z + 9999) : p_HFS cA cB (z + 16384 * s) := by
  exact p0
theorem k_hyq1 {yo : Int} {yn : Int} {yk : Int → Int} {yl : Int → Int} {cA : Int → Int} {cB : Int → Int} {fy : Int → Int} (hyo : 2 ≤ yo ∧ yo ≤ 13) (hyn : 0 ≤ yn ∧ yn ≤ 96) (hyk : ∀ i, 0 ≤ yk i ∧ yk i ≤ 13) (hyl : ∀ i, 0 ≤ yl i ∧ yl i ≤ 13) {i w F n : Int} (zfy : 0 ≤ i - 0 → i - 0 < 96 → fy (i - 0) = w) (p0 : p_TF0 fy cA cB (0)) (p1 : p_TC0 yo yn yk yl cA cB (0)) (p2 : n = yn) (p3 : p_HFY cA cB (F)) (c0 : 0 ≤ i) (c1 : 0 ≤ (-1) * i + 95) (c2 : 0 ≤ n + (-1) * i + (-1)) (c3 : 0 ≤ F + (-16384) * i) (c4 : 0 ≤ 16384 * i + (-1) * F + 9999) : 0 ≤ w + 16384 * i + (-1) * F := by
  have hz := zfy (by omega) (by omega)
  rw [show i - 0 = i by omega] at hz
  have hN := p1.2.1
  have hf := p0.2.1 i (by omega) (by omega)
  rw [hz] at hf
  obtain ⟨i1, z1, e, a1, a2, a3, a4, a5, h⟩ := p3
  obtain rfl : i1 = i := by omega
  omega
theorem k_hsq1 {yo : Int} {yn : Int} {yk : Int → Int} {yl : Int → Int} {cA : Int → Int} {cB : Int → Int} {fy : Int → Int} (hyo : 2 ≤ yo ∧ yo ≤ 13) (hyn : 0 ≤ yn ∧ yn ≤ 96) (hyk : ∀ i, 0 ≤ yk i ∧ yk i ≤ 13) (hyl : ∀ i, 0 ≤ yl i ∧ yl i ≤ 13) {i w F n : Int} (zfy : 0 ≤ i - 0 → i - 0 < 96 → fy (i - 0) = w) (p0 : p_TF0 fy cA cB (0)) (p1 : p_TC0 yo yn yk yl cA cB (0)) (p2 : n = yn) (p3 : p_HFS cA cB (F)) (c0 : 0 ≤ i) (c1 : 0 ≤ (-1) * i + 95) (c2 : 0 ≤ n + (-1) * i + (-1)) (c3 : 0 ≤ F + (-16384) * i) (c4 : 0 ≤ 16384 * i + (-1) * F + 9999) : 0 ≤ w + 16384 * i + (-1) * F := by
  have hz := zfy (by omega) (by omega)
  rw [show i - 0 = i by omega] at hz
  have hN := p1.2.1
  have hf := p0.2.1 i (by omega) (by omega)
  rw [hz] at hf
  obtain ⟨i1, z1, e, a1, a2, a3, a4, a5, h⟩ := p3
  obtain rfl : i1 = i := by omega
  omega
theorem k_hyq2 {yo : Int} {yn : Int} {yk : Int → Int} {yl : Int → Int} {cA : Int → Int} {cB : Int → Int} {fy : Int → Int} (hyo : 2 ≤ yo ∧ yo ≤ 13) (hyn : 0 ≤ yn ∧ yn ≤ 96) (hyk : ∀ i, 0 ≤ yk i ∧ yk i ≤ 13) (hyl : ∀ i, 0 ≤ yl i ∧ yl i ≤ 13) {i w F n : Int} (zfy : 0 ≤ i - 0 → i - 0 < 96 → fy (i - 0) = w) (p0 : p_TF0 fy cA cB (0)) (p1 : p_TC0 yo yn yk yl cA cB (0)) (p2 : n = yn) (p3 : p_HFY cA cB (F)) (c0 : 0 ≤ i) (c1 : 0 ≤ (-1) * i + 95) (c2 : 0 ≤ n + (-1) * i + (-1)) (c3 : 0 ≤ F + (-16384) * i) (c4 : 0 ≤ 16384 * i + (-1) * F + 9999) : 0 ≤ F + (-16384) * i + (-1) * w := by
  have hz := zfy (by omega) (by omega)
  rw [show i - 0 = i by omega] at hz
  have hN := p1.2.1
  have hf := p0.2.1 i (by omega) (by omega)
  rw [hz] at hf
  obtain ⟨i1, z1, e, a1, a2, a3, a4, a5, h⟩ := p3
  obtain rfl : i1 = i := by omega
  omega
theorem k_hsq2 {yo : Int} {yn : Int} {yk : Int → Int} {yl : Int → Int} {cA : Int → Int} {cB : Int → Int} {fy : Int → Int} (hyo : 2 ≤ yo ∧ yo ≤ 13) (hyn : 0 ≤ yn ∧ yn ≤ 96) (hyk : ∀ i, 0 ≤ yk i ∧ yk i ≤ 13) (hyl : ∀ i, 0 ≤ yl i ∧ yl i ≤ 13) {i w F n : Int} (zfy : 0 ≤ i - 0 → i - 0 < 96 → fy (i - 0) = w) (p0 : p_TF0 fy cA cB (0)) (p1 : p_TC0 yo yn yk yl cA cB (0)) (p2 : n = yn) (p3 : p_HFS cA cB (F)) (c0 : 0 ≤ i) (c1 : 0 ≤ (-1) * i + 95) (c2 : 0 ≤ n + (-1) * i + (-1)) (c3 : 0 ≤ F + (-16384) * i) (c4 : 0 ≤ 16384 * i + (-1) * F + 9999) : 0 ≤ F + (-16384) * i + (-1) * w := by
  have hz := zfy (by omega) (by omega)
  rw [show i - 0 = i by omega] at hz
  have hN := p1.2.1
  have hf := p0.2.1 i (by omega) (by omega)
  rw [hz] at hf
  obtain ⟨i1, z1, e, a1, a2, a3, a4, a5, h⟩ := p3
  obtain rfl : i1 = i := by omega
  omega
theorem k_ago0 {cA : Int → Int} {cB : Int → Int} {n : Int} (c0 : 0 ≤ n) (c1 : 0 ≤ (-1) * n) : p_AGO cA cB (0) := by
  exact ⟨0, 0, by omega, by omega, by omega, rfl⟩
theorem k_agi0 {cA : Int → Int} {cB : Int → Int} {s n : Int} (p0 : p_AGO cA cB (s + 128 * n)) (c0 : 0 ≤ s) (c1 : 0 ≤ (-1) * s + 95) : p_AGI cA cB (128 * s + 16384 * n) := by
  obtain ⟨s1, n1, e, b1, b2, h⟩ := p0
  obtain ⟨rfl, rfl⟩ : s1 = s ∧ n1 = n := by omega
  refine ⟨0, s1, n1, by omega, by omega, by omega, by omega, by omega, ?_⟩
  rw [← h, show (0 : Int).toNat = 0 from rfl]
  show n1 = n1 + (if m_hf cA cB s1 then (0 : Int) else 0)
  split <;> omega
theorem k_agb {cA : Int → Int} {cB : Int → Int} {t s n : Int} (p0 : p_AGI cA cB (t + 128 * s + 16384 * n)) (c0 : 0 ≤ t) (c1 : 0 ≤ (-1) * t + 127) (c2 : 0 ≤ s) (c3 : 0 ≤ (-1) * s + 95) : 0 ≤ n := by
  obtain ⟨t1, s1, n1, e, b1, b2, b3, b4, h⟩ := p0
  have en : n1 = n := by omega
  subst en
  have es : s1 = s := by omega
  subst es
  have et : t1 = t := by omega
  subst et
  have hb := m_ag_b (A := cA) (B := cB) s1.toNat (by omega)
  have hb2 := m_lt_b (m_hfp cA cB t1.toNat) (m_yf cA cB s1)
  have hb3 := m_hfp_ln (A := cA) (B := cB) t1.toNat
  split at h <;> omega
theorem k_agc {cA : Int → Int} {cB : Int → Int} {t s n : Int} (p0 : p_AGI cA cB (t + 128 * s + 16384 * n)) (c0 : 0 ≤ t) (c1 : 0 ≤ (-1) * t + 127) (c2 : 0 ≤ s) (c3 : 0 ≤ (-1) * s + 95) : 0 ≤ (-1) * n + 9216 := by
  obtain ⟨t1, s1, n1, e, b1, b2, b3, b4, h⟩ := p0
  have en : n1 = n := by omega
  subst en
  have es : s1 = s := by omega
  subst es
  have et : t1 = t := by omega
  subst et
  have hb := m_ag_b (A := cA) (B := cB) s1.toNat (by omega)
  have hb2 := m_lt_b (m_hfp cA cB t1.toNat) (m_yf cA cB s1)
  have hb3 := m_hfp_ln (A := cA) (B := cB) t1.toNat
  split at h <;> omega
theorem k_ag1 {cA : Int → Int} {cB : Int → Int} {t s n F G : Int} (p0 : p_AGI cA cB (t + 128 * s + 16384 * n)) (p1 : p_HFY cA cB (F)) (p2 : p_HFS cA cB (G)) (c0 : 0 ≤ t) (c1 : 0 ≤ (-1) * t + 127) (c2 : 0 ≤ s) (c3 : 0 ≤ (-1) * s + 95) (c4 : 0 ≤ (-1) * t + 95) (c5 : 0 ≤ F + (-16384) * t) (c6 : 0 ≤ 16384 * t + (-1) * F + 9999) (c7 : 0 ≤ G + (-16384) * s) (c8 : 0 ≤ 16384 * s + (-1) * G + 9999) (c9 : 0 ≤ F + (-16384) * t + (-1) * G + 16384 * s + (-1)) : p_AGI cA cB (t + 128 * s + 16384 * n + 16385) := by
  obtain ⟨t1, s1, n1, e, b1, b2, b3, b4, h⟩ := p0
  have en : n1 = n := by omega
  subst en
  have es : s1 = s := by omega
  subst es
  have et : t1 = t := by omega
  subst et
  obtain ⟨i2, z2, e2, d1, d2, d3, d4, d5, d6⟩ := p1
  obtain rfl : i2 = t1 := by omega
  obtain ⟨i3, z3, e3, f1, f2, f3, f4, f5, f6⟩ := p2
  obtain rfl : i3 = s1 := by omega
  have hfs : m_hf cA cB i3 := ⟨f5, by omega⟩
  rw [if_pos hfs] at h
  refine ⟨i2 + 1, i3, n1 + 1, by omega, by omega, by omega, by omega, by omega, ?_⟩
  rw [if_pos hfs, m_lt_s b1, if_pos ⟨⟨d5, by omega⟩, by omega⟩]
  omega
theorem k_ag2 {cA : Int → Int} {cB : Int → Int} {t s n : Int} (p0 : p_AGI cA cB (t + 128 * s + 16384 * n)) (p1 : p_NHF cA cB (t)) (c0 : 0 ≤ t) (c1 : 0 ≤ (-1) * t + 127) (c2 : 0 ≤ s) (c3 : 0 ≤ (-1) * s + 95) : p_AGI cA cB (t + 128 * s + 16384 * n + 1) := by
  obtain ⟨t1, s1, n1, e, b1, b2, b3, b4, h⟩ := p0
  have en : n1 = n := by omega
  subst en
  have es : s1 = s := by omega
  subst es
  have et : t1 = t := by omega
  subst et
  have h95 := p1.2.1
  refine ⟨t1 + 1, s1, n1, by omega, by omega, by omega, by omega, by omega, ?_⟩
  rw [m_lt_s b1, if_neg (show ¬ (m_hf cA cB t1 ∧ m_yf cA cB s1 < m_yf cA cB t1) from fun q => p1.2.2 q.1), Int.add_zero]
  exact h
theorem k_ag3 {cA : Int → Int} {cB : Int → Int} {t s n F G : Int} (p0 : p_AGI cA cB (t + 128 * s + 16384 * n)) (p1 : p_HFY cA cB (F)) (p2 : p_HFS cA cB (G)) (c0 : 0 ≤ t) (c1 : 0 ≤ (-1) * t + 127) (c2 : 0 ≤ s) (c3 : 0 ≤ (-1) * s + 95) (c4 : 0 ≤ (-1) * t + 95) (c5 : 0 ≤ F + (-16384) * t) (c6 : 0 ≤ 16384 * t + (-1) * F + 9999) (c7 : 0 ≤ G + (-16384) * s) (c8 : 0 ≤ 16384 * s + (-1) * G + 9999) (c9 : 0 ≤ G + (-16384) * s + (-1) * F + 16384 * t) : p_AGI cA cB (t + 128 * s + 16384 * n + 1) := by
  obtain ⟨t1, s1, n1, e, b1, b2, b3, b4, h⟩ := p0
  have en : n1 = n := by omega
  subst en
  have es : s1 = s := by omega
  subst es
  have et : t1 = t := by omega
  subst et
  obtain ⟨i2, z2, e2, d1, d2, d3, d4, d5, d6⟩ := p1
  obtain rfl : i2 = t1 := by omega
  obtain ⟨i3, z3, e3, f1, f2, f3, f4, f5, f6⟩ := p2
  obtain rfl : i3 = s1 := by omega
  have hfs : m_hf cA cB i3 := ⟨f5, by omega⟩
  rw [if_pos hfs] at h
  refine ⟨i2 + 1, i3, n1, by omega, by omega, by omega, by omega, by omega, ?_⟩
  rw [if_pos hfs, m_lt_s b1, if_neg (fun q => by have := q.2; omega)]
  omega
theorem k_ag4 {cA : Int → Int} {cB : Int → Int} {t s n : Int} (p0 : p_AGI cA cB (t + 128 * s + 16384 * n)) (c0 : 0 ≤ t) (c1 : 0 ≤ (-1) * t + 127) (c2 : 0 ≤ s) (c3 : 0 ≤ (-1) * s + 95) (c4 : 0 ≤ t + (-1) * s) (c5 : 0 ≤ s + (-1) * t) : p_AGO cA cB (s + 128 * n + 1) := by
  obtain ⟨t1, s1, n1, e, b1, b2, b3, b4, h⟩ := p0
  have en : n1 = n := by omega
  subst en
  have es : s1 = s := by omega
  subst es
  have et : t1 = t := by omega
  subst et
  obtain rfl : t1 = s1 := by omega
  exact ⟨t1 + 1, n1, by omega, by omega, by omega, by rw [m_ag_s b1]; exact h⟩
theorem k_ag5 {cA : Int → Int} {cB : Int → Int} {t s n : Int} (p0 : p_AGI cA cB (t + 128 * s + 16384 * n)) (p1 : p_NHF cA cB (s)) (c0 : 0 ≤ t) (c1 : 0 ≤ (-1) * t + 127) (c2 : 0 ≤ s) (c3 : 0 ≤ (-1) * s + 95) : p_AGO cA cB (s + 128 * n + 1) := by
  obtain ⟨t1, s1, n1, e, b1, b2, b3, b4, h⟩ := p0
  have en : n1 = n := by omega
  subst en
  have es : s1 = s := by omega
  subst es
  have et : t1 = t := by omega
  subst et
  rw [if_neg p1.2.2] at h
  exact ⟨s1 + 1, n1, by omega, by omega, by omega, by rw [m_ag_s b3, if_neg p1.2.2]; exact h⟩
theorem k_agr {yo : Int} {yn : Int} {yk : Int → Int} {yl : Int → Int} {cA : Int → Int} {cB : Int → Int} {fy : Int → Int} (hyo : 2 ≤ yo ∧ yo ≤ 13) (hyn : 0 ≤ yn ∧ yn ≤ 96) (hyk : ∀ i, 0 ≤ yk i ∧ yk i ≤ 13) (hyl : ∀ i, 0 ≤ yl i ∧ yl i ≤ 13) {s k n : Int} (p0 : p_TC0 yo yn yk yl cA cB (0)) (p1 : p_TF0 fy cA cB (0)) (p2 : n = yn) (p3 : p_AGO cA cB (s + 128 * k)) (c0 : 0 ≤ s) (c1 : 0 ≤ (-1) * s + 127) (c2 : 0 ≤ s + (-1) * n) : p_AGR cA cB (k) := by
  obtain ⟨s1, n1, e, b1, b2, h⟩ := p3
  obtain ⟨rfl, rfl⟩ : s1 = s ∧ n1 = k := by omega
  have hn := p0.2.1
  show n1 = m_ag cA cB (m_NB cA cB).toNat
  rw [h]
  exact m_ag_en p1.1 (by omega) b1
theorem k_yx0 {cA : Int → Int} {cB : Int → Int} {yv : Int → Int} {n : Int} (c0 : 0 ≤ n) (c1 : 0 ≤ (-1) * n) : p_YX cA cB yv (0) := by
  exact ⟨0, 0, by omega, by omega, by omega, by omega, by omega, rfl, by show (0 : Nat) ≤ 8; omega, fun k hk => absurd hk (Nat.not_lt_zero _)⟩
theorem k_yx1 {yo : Int} {yn : Int} {yk : Int → Int} {yl : Int → Int} {cA : Int → Int} {cB : Int → Int} {yv : Int → Int} (hyo : 2 ≤ yo ∧ yo ≤ 13) (hyn : 0 ≤ yn ∧ yn ≤ 96) (hyk : ∀ i, 0 ≤ yk i ∧ yk i ≤ 13) (hyl : ∀ i, 0 ≤ yl i ∧ yl i ≤ 13) {n s : Int} (p0 : p_TC0 yo yn yk yl cA cB (0)) (p1 : p_YX cA cB yv (n + 16 * s)) (p2 : p_FNO cA cB (s)) (c0 : 0 ≤ n) (c1 : 0 ≤ (-1) * n + 15) (c2 : 0 ≤ s) (c3 : 0 ≤ (-1) * s + 95) : p_YX cA cB yv (n + 16 * s + 16) := by
  obtain ⟨n1, s1, e, b1, b2, b3, b4, hl, hy⟩ := p1
  obtain ⟨rfl, rfl⟩ : n1 = n ∧ s1 = s := by omega
  have hnf : ¬ m_hf cA cB s1 := fun q => by have h1 := q.2; rw [m_yf_no p2.2.2] at h1; omega
  exact ⟨n1, s1 + 1, by omega, by omega, by omega, by omega, by omega, by rw [m_hfp_s b3, if_neg hnf]; exact hl, by rw [m_hfp_s b3, if_neg hnf]; exact hy⟩
theorem k_yx2 {yo : Int} {yn : Int} {yk : Int → Int} {yl : Int → Int} {cA : Int → Int} {cB : Int → Int} {yv : Int → Int} (hyo : 2 ≤ yo ∧ yo ≤ 13) (hyn : 0 ≤ yn ∧ yn ≤ 96) (hyk : ∀ i, 0 ≤ yk i ∧ yk i ≤ 13) (hyl : ∀ i, 0 ≤ yl i ∧ yl i ≤ 13) {n s : Int} (p0 : p_TC0 yo yn yk yl cA cB (0)) (p1 : p_YX cA cB yv (n + 16 * s)) (p2 : p_NH cA cB (s)) (c0 : 0 ≤ n) (c1 : 0 ≤ (-1) * n + 15) (c2 : 0 ≤ s) (c3 : 0 ≤ (-1) * s + 95) : p_YX cA cB yv (n + 16 * s + 16) := by
  obtain ⟨n1, s1, e, b1, b2, b3, b4, hl, hy⟩ := p1
  obtain ⟨rfl, rfl⟩ : n1 = n ∧ s1 = s := by omega
  have hnf : ¬ m_hf cA cB s1 := fun q => p2.2.2 q.1
  exact ⟨n1, s1 + 1, by omega, by omega, by omega, by omega, by omega, by rw [m_hfp_s b3, if_neg hnf]; exact hl, by rw [m_hfp_s b3, if_neg hnf]; exact hy⟩
theorem k_yx3 {yo : Int} {yn : Int} {yk : Int → Int} {yl : Int → Int} {cA : Int → Int} {cB : Int → Int} {yv : Int → Int} (hyo : 2 ≤ yo ∧ yo ≤ 13) (hyn : 0 ≤ yn ∧ yn ≤ 96) (hyk : ∀ i, 0 ≤ yk i ∧ yk i ≤ 13) (hyl : ∀ i, 0 ≤ yl i ∧ yl i ≤ 13) {i z s : Int} (i1 : 0 ≤ i) (i2 : i < 8) (p0 : p_TC0 yo yn yk yl cA cB (0)) (p1 : p_YX cA cB yv (i + 16 * s)) (p2 : p_HL cA cB (s)) (p3 : p_YF cA cB (z + 16384 * s + 1)) (c0 : 0 ≤ i) (c1 : 0 ≤ (-1) * i + 7) (c2 : 0 ≤ s) (c3 : 0 ≤ (-1) * s + 95) (c4 : 0 ≤ z) (c5 : 0 ≤ (-1) * z + 9999) : p_YX cA cB (m_up yv i z) (i + 16 * s + 17) := by
  obtain ⟨n1, s1, e, b1, b2, b3, b4, hl, hy⟩ := p1
  obtain ⟨rfl, rfl⟩ : n1 = i ∧ s1 = s := by omega
  obtain ⟨i2, z2, e2, d1, d2, d3, d4, hz⟩ := p3
  obtain ⟨rfl, rfl⟩ : i2 = s1 ∧ z2 = z := by omega
  have hf : m_hf cA cB i2 := ⟨p2.2.2, by omega⟩
  have hln : ((m_hfp cA cB i2.toNat ++ [(m_yf cA cB i2, m_row cA cB i2)]).length : Int) = n1 + 1 := by
    rw [List.length_append, List.length_singleton]
    omega
  refine ⟨n1 + 1, i2 + 1, by omega, by omega, by omega, by omega, by omega, by rw [m_hfp_s b3, if_pos hf, hln], ?_⟩
  rw [m_hfp_s b3, if_pos hf]
  refine ⟨by omega, fun k hk => ?_⟩
  by_cases q : k < (m_hfp cA cB i2.toNat).length
  · have := hy.2 k q
    rw [List.getElem?_append_left q, m_up_ne (by omega)]
    exact this
  · have ek : k = (m_hfp cA cB i2.toNat).length := by omega
    have ek2 : (k : Int) = n1 := by omega
    rw [m_up_at ek2, ek, List.getElem?_append_right (Nat.le_refl _), Nat.sub_self]
    exact ⟨congrArg some hz, by omega, by omega⟩
theorem k_yxr {yo : Int} {yn : Int} {yk : Int → Int} {yl : Int → Int} {cA : Int → Int} {cB : Int → Int} {fy : Int → Int} {yv : Int → Int} (hyo : 2 ≤ yo ∧ yo ≤ 13) (hyn : 0 ≤ yn ∧ yn ≤ 96) (hyk : ∀ i, 0 ≤ yk i ∧ yk i ≤ 13) (hyl : ∀ i, 0 ≤ yl i ∧ yl i ≤ 13) {n s m : Int} (p0 : p_TC0 yo yn yk yl cA cB (0)) (p1 : p_TF0 fy cA cB (0)) (p2 : m = yn) (p3 : p_YX cA cB yv (n + 16 * s)) (c0 : 0 ≤ n) (c1 : 0 ≤ (-1) * n + 15) (c2 : 0 ≤ s) (c3 : 0 ≤ (-1) * s + 127) (c4 : 0 ≤ s + (-1) * m) : p_YXR cA cB yv (n) := by
  obtain ⟨n1, s1, e, b1, b2, b3, b4, hl, hy⟩ := p3
  obtain ⟨rfl, rfl⟩ : n1 = n ∧ s1 = s := by omega
  have hn := p0.2.1
  rw [m_hfp_en p1.1 (by omega) b3] at hl hy
  exact ⟨hl, hy⟩
theorem k_yvi {cA : Int → Int} {cB : Int → Int} {yv : Int → Int} {i z n : Int} (zyv : 0 ≤ i - 0 → i - 0 < 8 → yv (i - 0) = z) (p0 : p_YXR cA cB yv (n)) (c0 : 0 ≤ n + (-1) * i + (-1)) (c1 : 0 ≤ i) (c2 : 0 ≤ (-1) * i + 7) (c3 : 0 ≤ n) (c4 : 0 ≤ (-1) * n + 8) (c5 : 0 ≤ z) (c6 : 0 ≤ (-1) * z + 9999) : p_YVI cA cB (z + 16384 * i) := by
  have hz := zyv (by omega) (by omega)
  rw [show i - 0 = i by omega] at hz
  obtain ⟨hl, hy⟩ := p0
  have h := hy.2 i.toNat (by omega)
  rw [show ((i.toNat : Nat) : Int) = i by omega, hz] at h
  exact ⟨i, z, by omega, by omega, by omega, by omega, by omega, h.1⟩
theorem k_yvk {cA : Int → Int} {cB : Int → Int} {yv : Int → Int} {i z n : Int} (zyv : 0 ≤ i - 0 → i - 0 < 8 → yv (i - 0) = z) (p0 : p_YXR cA cB yv (n)) (c0 : 0 ≤ n + (-1) * i + (-1)) (c1 : 0 ≤ i) (c2 : 0 ≤ (-1) * i + 7) (c3 : 0 ≤ n) (c4 : 0 ≤ (-1) * n + 8) (c5 : 0 ≤ z) (c6 : 0 ≤ (-1) * z + 9999) : p_YVK cA cB (z + 16384 * i) := by
  have hz := zyv (by omega) (by omega)
  rw [show i - 0 = i by omega] at hz
  obtain ⟨hl, hy⟩ := p0
  have h := hy.2 i.toNat (by omega)
  rw [show ((i.toNat : Nat) : Int) = i by omega, hz] at h
  exact ⟨i, z, by omega, by omega, by omega, by omega, by omega, h.1⟩
theorem k_yvz {cA : Int → Int} {cB : Int → Int} {yv : Int → Int} {i z n : Int} (zyv : 0 ≤ i - 0 → i - 0 < 8 → yv (i - 0) = z) (p0 : p_YXR cA cB yv (n)) (c0 : 0 ≤ n + (-1) * i + (-1)) (c1 : 0 ≤ i) (c2 : 0 ≤ (-1) * i + 7) (c3 : 0 ≤ n) (c4 : 0 ≤ (-1) * n + 8) : 0 ≤ z := by
  have hz := zyv (by omega) (by omega)
  rw [show i - 0 = i by omega] at hz
  obtain ⟨hl, hy⟩ := p0
  have h := hy.2 i.toNat (by omega)
  rw [show ((i.toNat : Nat) : Int) = i by omega, hz] at h
  omega
theorem k_yvy {cA : Int → Int} {cB : Int → Int} {yv : Int → Int} {i z n : Int} (zyv : 0 ≤ i - 0 → i - 0 < 8 → yv (i - 0) = z) (p0 : p_YXR cA cB yv (n)) (c0 : 0 ≤ n + (-1) * i + (-1)) (c1 : 0 ≤ i) (c2 : 0 ≤ (-1) * i + 7) (c3 : 0 ≤ n) (c4 : 0 ≤ (-1) * n + 8) : 0 ≤ (-1) * z + 9999 := by
  have hz := zyv (by omega) (by omega)
  rw [show i - 0 = i by omega] at hz
  obtain ⟨hl, hy⟩ := p0
  have h := hy.2 i.toNat (by omega)
  rw [show ((i.toNat : Nat) : Int) = i by omega, hz] at h
  omega
theorem k_bgo0 {cA : Int → Int} {cB : Int → Int} {yv : Int → Int} {n m : Int} (p0 : p_YXR cA cB yv (m)) (c0 : 0 ≤ n) (c1 : 0 ≤ (-1) * n) : p_BGO cA cB (0) := by
  obtain ⟨hl, hy⟩ := p0
  exact ⟨0, 0, by omega, by omega, by omega, hy.1, rfl⟩
theorem k_bgi0 {cA : Int → Int} {cB : Int → Int} {k n : Int} (p0 : p_BGO cA cB (k + 16 * n)) (c0 : 0 ≤ k) (c1 : 0 ≤ (-1) * k + 15) : p_BGI cA cB (16 * k + 256 * n) := by
  obtain ⟨k1, n1, e, b1, b2, h8, h⟩ := p0
  obtain ⟨rfl, rfl⟩ : k1 = k ∧ n1 = n := by omega
  have hb := m_bt_b (P := m_PN cA cB) (k := k1.toNat) (i := (0 : Int).toNat)
  rw [show (((0 : Int).toNat : Nat) : Int) = 0 from rfl] at hb
  exact ⟨0, k1, n1, by omega, by omega, by omega, by omega, by omega, h8, by omega⟩
theorem k_bgb {cA : Int → Int} {cB : Int → Int} {i k n : Int} (p0 : p_BGI cA cB (i + 16 * k + 256 * n)) (c0 : 0 ≤ i) (c1 : 0 ≤ (-1) * i + 15) (c2 : 0 ≤ k) (c3 : 0 ≤ (-1) * k + 15) : 0 ≤ n := by
  obtain ⟨i1, k1, n1, e, b1, b2, b3, b4, h8, h⟩ := p0
  have en : n1 = n := by omega
  subst en
  have es : k1 = k := by omega
  subst es
  have et : i1 = i := by omega
  subst et
  have hb := m_bgs_56 h8 k1.toNat
  have hb2 := m_bt_b (P := m_PN cA cB) (k := k1.toNat) (i := i1.toNat)
  omega
theorem k_bgc {cA : Int → Int} {cB : Int → Int} {i k n : Int} (p0 : p_BGI cA cB (i + 16 * k + 256 * n)) (c0 : 0 ≤ i) (c1 : 0 ≤ (-1) * i + 15) (c2 : 0 ≤ k) (c3 : 0 ≤ (-1) * k + 15) : 0 ≤ (-1) * n + 64 := by
  obtain ⟨i1, k1, n1, e, b1, b2, b3, b4, h8, h⟩ := p0
  have en : n1 = n := by omega
  subst en
  have es : k1 = k := by omega
  subst es
  have et : i1 = i := by omega
  subst et
  have hb := m_bgs_56 h8 k1.toNat
  have hb2 := m_bt_b (P := m_PN cA cB) (k := k1.toNat) (i := i1.toNat)
  omega
theorem k_bg1 {cA : Int → Int} {cB : Int → Int} {i k n F G : Int} (p0 : p_BGI cA cB (i + 16 * k + 256 * n)) (p1 : p_YVI cA cB (F)) (p2 : p_YVK cA cB (G)) (c0 : 0 ≤ i) (c1 : 0 ≤ (-1) * i + 15) (c2 : 0 ≤ k) (c3 : 0 ≤ (-1) * k + 15) (c4 : 0 ≤ F + (-16384) * i) (c5 : 0 ≤ 16384 * i + (-1) * F + 9999) (c6 : 0 ≤ G + (-16384) * k) (c7 : 0 ≤ 16384 * k + (-1) * G + 9999) (c8 : 0 ≤ F + (-16384) * i + (-1) * G + 16384 * k + (-1)) : p_BGI cA cB (i + 16 * k + 256 * n + 257) := by
  obtain ⟨i1, k1, n1, e, b1, b2, b3, b4, h8, h⟩ := p0
  have en : n1 = n := by omega
  subst en
  have es : k1 = k := by omega
  subst es
  have et : i1 = i := by omega
  subst et
  obtain ⟨i2, z2, e2, d1, d2, d3, d4, d5⟩ := p1
  obtain rfl : i2 = i1 := by omega
  obtain ⟨i3, z3, e3, f1, f2, f3, f4, f5⟩ := p2
  obtain rfl : i3 = k1 := by omega
  obtain ⟨q, hq, hq1⟩ := m_fst d5
  obtain ⟨r, hr, hr1⟩ := m_fst f5
  have ht : ∀ j : Nat, m_bt (m_PN cA cB) i3.toNat j = m_lt ((m_PN cA cB).take j) r.1 := fun j => by
    unfold m_bt
    rw [hr]
    rfl
  refine ⟨i2 + 1, i3, n1 + 1, by omega, by omega, by omega, by omega, by omega, h8, ?_⟩
  rw [ht, show (i2 + 1).toNat = i2.toNat + 1 by omega, m_lt_t hq, if_pos (by omega)]
  rw [ht] at h
  omega
theorem k_bg2 {cA : Int → Int} {cB : Int → Int} {i k n F G : Int} (p0 : p_BGI cA cB (i + 16 * k + 256 * n)) (p1 : p_YVI cA cB (F)) (p2 : p_YVK cA cB (G)) (c0 : 0 ≤ i) (c1 : 0 ≤ (-1) * i + 15) (c2 : 0 ≤ k) (c3 : 0 ≤ (-1) * k + 15) (c4 : 0 ≤ F + (-16384) * i) (c5 : 0 ≤ 16384 * i + (-1) * F + 9999) (c6 : 0 ≤ G + (-16384) * k) (c7 : 0 ≤ 16384 * k + (-1) * G + 9999) (c8 : 0 ≤ G + (-16384) * k + (-1) * F + 16384 * i) : p_BGI cA cB (i + 16 * k + 256 * n + 1) := by
  obtain ⟨i1, k1, n1, e, b1, b2, b3, b4, h8, h⟩ := p0
  have en : n1 = n := by omega
  subst en
  have es : k1 = k := by omega
  subst es
  have et : i1 = i := by omega
  subst et
  obtain ⟨i2, z2, e2, d1, d2, d3, d4, d5⟩ := p1
  obtain rfl : i2 = i1 := by omega
  obtain ⟨i3, z3, e3, f1, f2, f3, f4, f5⟩ := p2
  obtain rfl : i3 = k1 := by omega
  obtain ⟨q, hq, hq1⟩ := m_fst d5
  obtain ⟨r, hr, hr1⟩ := m_fst f5
  have ht : ∀ j : Nat, m_bt (m_PN cA cB) i3.toNat j = m_lt ((m_PN cA cB).take j) r.1 := fun j => by
    unfold m_bt
    rw [hr]
    rfl
  refine ⟨i2 + 1, i3, n1, by omega, by omega, by omega, by omega, by omega, h8, ?_⟩
  rw [ht, show (i2 + 1).toNat = i2.toNat + 1 by omega, m_lt_t hq, if_neg (by omega)]
  rw [ht] at h
  omega
theorem k_bg4 {cA : Int → Int} {cB : Int → Int} {i k n : Int} (p0 : p_BGI cA cB (i + 16 * k + 256 * n)) (c0 : 0 ≤ i) (c1 : 0 ≤ (-1) * i + 15) (c2 : 0 ≤ k) (c3 : 0 ≤ (-1) * k + 15) (c4 : 0 ≤ i + (-1) * k) (c5 : 0 ≤ k + (-1) * i) (c6 : 0 ≤ (-1) * k + 14) : p_BGO cA cB (k + 16 * n + 1) := by
  obtain ⟨i1, k1, n1, e, b1, b2, b3, b4, h8, h⟩ := p0
  have en : n1 = n := by omega
  subst en
  have es : k1 = k := by omega
  subst es
  have et : i1 = i := by omega
  subst et
  obtain rfl : i1 = k1 := by omega
  have hb := m_bt_b (P := m_PN cA cB) (k := i1.toNat) (i := i1.toNat)
  refine ⟨i1 + 1, n1, by omega, by omega, ?_, h8, ?_⟩
  · omega
  · rw [show (i1 + 1).toNat = i1.toNat + 1 by omega]
    exact h
theorem k_agqa {cA : Int → Int} {cB : Int → Int} {yv : Int → Int} {k n m r : Int} (p0 : p_BGO cA cB (k + 16 * n)) (p1 : p_YXR cA cB yv (m)) (p2 : p_AGR cA cB (r)) (c0 : 0 ≤ k) (c1 : 0 ≤ (-1) * k + 15) (c2 : 0 ≤ k + (-1) * m) (c3 : 0 ≤ m) (c4 : 0 ≤ (-1) * m + 8) : 0 ≤ n + (-1) * r := by
  obtain ⟨k1, n1, e, b1, b2, h8, h⟩ := p0
  obtain ⟨rfl, rfl⟩ : k1 = k ∧ n1 = n := by omega
  obtain ⟨hl, hy⟩ := p1
  have hr : r = m_ag cA cB (m_NB cA cB).toNat := p2
  have h1 := m_ag_bg (A := cA) (B := cB) (m_NB cA cB).toNat
  have h2 := m_bgs_en (P := m_PN cA cB) (k1.toNat - (m_PN cA cB).length)
  rw [show (m_PN cA cB).length + (k1.toNat - (m_PN cA cB).length) = k1.toNat by omega] at h2
  have h3 : m_ag cA cB (m_NB cA cB).toNat = m_bgs (m_PN cA cB) (m_PN cA cB).length := h1
  omega
theorem k_agqb {cA : Int → Int} {cB : Int → Int} {yv : Int → Int} {k n m r : Int} (p0 : p_BGO cA cB (k + 16 * n)) (p1 : p_YXR cA cB yv (m)) (p2 : p_AGR cA cB (r)) (c0 : 0 ≤ k) (c1 : 0 ≤ (-1) * k + 15) (c2 : 0 ≤ k + (-1) * m) (c3 : 0 ≤ m) (c4 : 0 ≤ (-1) * m + 8) : 0 ≤ r + (-1) * n := by
  obtain ⟨k1, n1, e, b1, b2, h8, h⟩ := p0
  obtain ⟨rfl, rfl⟩ : k1 = k ∧ n1 = n := by omega
  obtain ⟨hl, hy⟩ := p1
  have hr : r = m_ag cA cB (m_NB cA cB).toNat := p2
  have h1 := m_ag_bg (A := cA) (B := cB) (m_NB cA cB).toNat
  have h2 := m_bgs_en (P := m_PN cA cB) (k1.toNat - (m_PN cA cB).length)
  rw [show (m_PN cA cB).length + (k1.toNat - (m_PN cA cB).length) = k1.toNat by omega] at h2
  have h3 : m_ag cA cB (m_NB cA cB).toNat = m_bgs (m_PN cA cB) (m_PN cA cB).length := h1
  omega
theorem k_rw0 {cA : Int → Int} {cB : Int → Int} {ru : Int → Int} : p_RWO cA cB ru (0) := by
  exact ⟨by omega, fun j hj => absurd hj (by omega)⟩
theorem k_rl0 {cA : Int → Int} {cB : Int → Int} {m : Int} (c0 : 0 ≤ m) (c1 : 0 ≤ (-1) * m) : p_RLO cA cB (0) := by
  exact ⟨0, 0, by omega, by omega, by omega, rfl⟩
theorem k_rw1 {cA : Int → Int} {cB : Int → Int} {ru : Int → Int} {i z : Int} (i1 : 0 ≤ i) (i2 : i < 96) (p0 : p_RWO cA cB ru (i)) (c0 : 0 ≤ i) (c1 : 0 ≤ (-1) * i + 95) (c2 : 0 ≤ z) (c3 : 0 ≤ (-1) * z) : p_RWI cA cB (m_up ru i z) (128 * i) := by
  refine ⟨0, i, by omega, by omega, by omega, by omega, fun j hj => ?_, ?_⟩
  · rw [m_up_ne (by omega)]
    exact p0.2 j hj (by omega)
  · rw [m_up_at rfl]
    show z = 0
    omega
theorem k_xwr {ru : Int → Int} {i z : Int} (zru : 0 ≤ i - 0 → i - 0 < 96 → ru (i - 0) = z) : p_XW (z) := by
  exact trivial
theorem k_rtv {cA : Int → Int} {cB : Int → Int} {ru : Int → Int} {i z t s : Int} (zru : 0 ≤ i - 0 → i - 0 < 96 → ru (i - 0) = z) (p0 : p_RWI cA cB ru (t + 128 * s)) (c0 : 0 ≤ t) (c1 : 0 ≤ (-1) * t + 127) (c2 : 0 ≤ s) (c3 : 0 ≤ (-1) * s + 95) (c4 : 0 ≤ i) (c5 : 0 ≤ (-1) * i + 95) (c6 : 0 ≤ s + (-1) * i + (-1)) : p_RTV cA cB (i + 128 * z) := by
  have hz := zru (by omega) (by omega)
  rw [show i - 0 = i by omega] at hz
  obtain ⟨t1, s1, e, b1, b2, b3, hr, hs⟩ := p0
  obtain ⟨rfl, rfl⟩ : t1 = t ∧ s1 = s := by omega
  have h := hr i.toNat (by omega)
  rw [show ((i.toNat : Nat) : Int) = i by omega, hz] at h
  have hb := m_row_b (A := cA) (B := cB) (s := i) (by omega)
  exact ⟨i, z, by omega, by omega, by omega, by omega, by omega, h⟩
theorem k_rtvp {cA : Int → Int} {cB : Int → Int} {ru : Int → Int} {i z t s : Int} (zru : 0 ≤ i - 0 → i - 0 < 96 → ru (i - 0) = z) (p0 : p_RWI cA cB ru (t + 128 * s)) (c0 : 0 ≤ t) (c1 : 0 ≤ (-1) * t + 127) (c2 : 0 ≤ s) (c3 : 0 ≤ (-1) * s + 95) (c4 : 0 ≤ i) (c5 : 0 ≤ (-1) * i + 95) (c6 : 0 ≤ s + (-1) * i + (-1)) : 0 ≤ z := by
  have hz := zru (by omega) (by omega)
  rw [show i - 0 = i by omega] at hz
  obtain ⟨t1, s1, e, b1, b2, b3, hr, hs⟩ := p0
  obtain ⟨rfl, rfl⟩ : t1 = t ∧ s1 = s := by omega
  have h := hr i.toNat (by omega)
  rw [show ((i.toNat : Nat) : Int) = i by omega, hz] at h
  have hb := m_row_b (A := cA) (B := cB) (s := i) (by omega)
  omega
theorem k_rtvq {cA : Int → Int} {cB : Int → Int} {ru : Int → Int} {i z t s : Int} (zru : 0 ≤ i - 0 → i - 0 < 96 → ru (i - 0) = z) (p0 : p_RWI cA cB ru (t + 128 * s)) (c0 : 0 ≤ t) (c1 : 0 ≤ (-1) * t + 127) (c2 : 0 ≤ s) (c3 : 0 ≤ (-1) * s + 95) (c4 : 0 ≤ i) (c5 : 0 ≤ (-1) * i + 95) (c6 : 0 ≤ s + (-1) * i + (-1)) : 0 ≤ (-1) * z + 96 := by
  have hz := zru (by omega) (by omega)
  rw [show i - 0 = i by omega] at hz
  obtain ⟨t1, s1, e, b1, b2, b3, hr, hs⟩ := p0
  obtain ⟨rfl, rfl⟩ : t1 = t ∧ s1 = s := by omega
  have h := hr i.toNat (by omega)
  rw [show ((i.toNat : Nat) : Int) = i by omega, hz] at h
  have hb := m_row_b (A := cA) (B := cB) (s := i) (by omega)
  omega
theorem k_rtw {cA : Int → Int} {cB : Int → Int} {ru : Int → Int} {i z t : Int} (zru : 0 ≤ i - 0 → i - 0 < 96 → ru (i - 0) = z) (p0 : p_RWI cA cB ru (t + 128 * i)) (c0 : 0 ≤ i) (c1 : 0 ≤ (-1) * i + 95) (c2 : 0 ≤ t) (c3 : 0 ≤ (-1) * t + 127) : p_RTW cA cB (t + 128 * i + 16384 * z) := by
  have hz := zru (by omega) (by omega)
  rw [show i - 0 = i by omega] at hz
  obtain ⟨t1, s1, e, b1, b2, b3, hr, hs⟩ := p0
  obtain ⟨rfl, rfl⟩ : t1 = t ∧ s1 = i := by omega
  rw [hz] at hs
  have hb := m_mx_b (P := m_hfp cA cB t1.toNat) (y := m_yf cA cB s1) (b := (m_hfp cA cB t1.toNat).length) (by omega) (fun q hq => (m_hfp_rb _ q hq).2)
  have hl := m_hfp_ln (A := cA) (B := cB) t1.toNat
  exact ⟨t1, s1, z, by omega, by omega, by omega, by omega, by omega, by omega, by omega, hs⟩
