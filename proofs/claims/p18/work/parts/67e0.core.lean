-- 67e0.core: the rules of join, years, against, dated in numbers (printed by wip/p5/gen68.py)
theorem k_jo0 {yo : Int} {yn : Int} {yk : Int → Int} {yl : Int → Int} {cA : Int → Int} {cB : Int → Int} (hyo : 2 ≤ yo ∧ yo ≤ 13) (hyn : 0 ≤ yn ∧ yn ≤ 96) (hyk : ∀ i, 0 ≤ yk i ∧ yk i ≤ 13) (hyl : ∀ i, 0 ≤ yl i ∧ yl i ≤ 13) {z i k : Int} (p0 : p_TC0 yo yn yk yl cA cB (0)) (p1 : p_TV cA cB (z + 16 * i)) (p2 : k = yn) (c0 : 0 ≤ i + (-1) * k + 1) (c1 : 0 ≤ k + (-1) * i + (-1)) (c2 : 0 ≤ z) (c3 : 0 ≤ (-1) * z + 15) (c4 : 0 ≤ i) (c5 : 0 ≤ (-1) * i + 95) : p_JO cA cB (z) := by
  obtain ⟨i1, z1, e, a1, a2, a3, a4, h⟩ := p1
  obtain ⟨rfl, rfl⟩ : i1 = i ∧ z1 = z := by omega
  have hs := p0.2.2.1
  have hn := p0.2.1
  have r1 := m_tb_rg hs i1.toNat
  have hl : m_jl cA cB = z1 := by
    unfold m_jl
    rw [← h, show (m_NB cA cB - 1).toNat = i1.toNat by omega]
  rw [h] at r1
  have h2 := hs.1
  have h3 := hs.2.1
  exact ⟨z1, 0, by omega, by omega, by omega, by omega, by rw [hl, show z1 + 0 - 1 = z1 - 1 by omega, Int.emod_eq_of_lt (by omega) (by omega)]; omega, by omega, by omega, by omega, by omega⟩
theorem k_xwl {yk : Int → Int} (hyk : ∀ i, 0 ≤ yk i ∧ yk i ≤ 13) {i z : Int} (zyk : 0 ≤ i - 0 → i - 0 < 96 → yk (i - 0) = z) : p_XW (i) := by
  exact trivial
theorem k_jt0 {n b : Int} (c0 : 0 ≤ n + (-2)) (c1 : 0 ≤ (-1) * n + 13) (c2 : 0 ≤ b + (-1)) (c3 : 0 ≤ n + (-1) * b) : p_JT (65537 * b + 4096 * n) := by
  exact ⟨b, 0, n, b, by omega, by omega, by omega, by omega, by omega, ⟨by omega, by omega, by omega, by omega⟩, by rw [show b + 0 - 1 = b - 1 by omega, Int.emod_eq_of_lt (by omega) (by omega)]; omega⟩
theorem k_jn0 {cA : Int → Int} {cB : Int → Int} {n b : Int} (c0 : 0 ≤ n + (-2)) (c1 : 0 ≤ (-1) * n + 13) (c2 : 0 ≤ b + (-1)) (c3 : 0 ≤ n + (-1) * b) : p_JN cA cB (65536 * n + 1048576 * b) := by
  exact ⟨0, 0, n, b, by omega, by omega, by omega, by omega, by omega, ⟨by omega, by omega, by omega, by omega⟩, rfl⟩
theorem k_jo1a {yo : Int} {yn : Int} {yk : Int → Int} {yl : Int → Int} {cA : Int → Int} {cB : Int → Int} (hyo : 2 ≤ yo ∧ yo ≤ 13) (hyn : 0 ≤ yn ∧ yn ≤ 96) (hyk : ∀ i, 0 ≤ yk i ∧ yk i ≤ 13) (hyl : ∀ i, 0 ≤ yl i ∧ yl i ≤ 13) {u y s o : Int} (p0 : p_TC0 yo yn yk yl cA cB (0)) (p1 : o = yo) (p2 : p_JO cA cB (u + 16 * s)) (c0 : 0 ≤ s) (c1 : 0 ≤ (-1) * s + 255) (c2 : 0 ≤ u) (c3 : 0 ≤ (-1) * u + 15) (c4 : 0 ≤ y) (c5 : 0 ≤ (-1) * y + 15) (c6 : 0 ≤ u + (-1) * o) (c7 : 0 ≤ y + (-1)) (c8 : 0 ≤ (-1) * y + 1) : p_JO cA cB (y + 16 * s + 16) := by
  obtain ⟨u1, s1, e, a1, a2, a3, hu, j1, j2, j3, j4⟩ := p2
  obtain ⟨rfl, rfl⟩ : u1 = u ∧ s1 = s := by omega
  have h0 := p0.1
  have em := m_ems (x := m_jl cA cB + s1 - 1) (o := cA 0) (by omega)
  have e2 := Int.emod_nonneg (m_jl cA cB + s1 - 1) (show cA 0 ≠ 0 by omega)
  have e3 := Int.emod_lt_of_pos (m_jl cA cB + s1 - 1) (show 0 < cA 0 by omega)
  rw [if_pos (by omega)] at em
  exact ⟨y, s1 + 1, by omega, by omega, by omega, by omega, by rw [show m_jl cA cB + (s1 + 1) - 1 = m_jl cA cB + s1 - 1 + 1 by omega, em]; omega, j1, j2, j3, j4⟩
theorem k_jt1a {t y s n b : Int} (p0 : p_JT (t + 16 * s + 4096 * n + 65536 * b)) (c0 : 0 ≤ s) (c1 : 0 ≤ (-1) * s + 254) (c2 : 0 ≤ n + (-2)) (c3 : 0 ≤ (-1) * n + 13) (c4 : 0 ≤ b + (-1)) (c5 : 0 ≤ n + (-1) * b) (c6 : 0 ≤ t) (c7 : 0 ≤ (-1) * t + 15) (c8 : 0 ≤ y) (c9 : 0 ≤ (-1) * y + 15) (c10 : 0 ≤ t + (-1) * n) (c11 : 0 ≤ y + (-1)) (c12 : 0 ≤ (-1) * y + 1) : p_JT (y + 16 * s + 4096 * n + 65536 * b + 16) := by
  obtain ⟨t1, s1, n1, b1, e, a1, a2, a3, a4, ⟨q1, q2, q3, q4⟩, ht⟩ := p0
  have eb : b1 = b := by omega
  subst eb
  have en : n1 = n := by omega
  subst en
  have es : s1 = s := by omega
  subst es
  have et : t1 = t := by omega
  subst et
  have em := m_ems (x := b1 + s1 - 1) (o := n1) (by omega)
  have e2 := Int.emod_nonneg (b1 + s1 - 1) (show n1 ≠ 0 by omega)
  have e3 := Int.emod_lt_of_pos (b1 + s1 - 1) (show 0 < n1 by omega)
  rw [if_pos (by omega)] at em
  exact ⟨y, s1 + 1, n1, b1, by omega, by omega, by omega, by omega, by omega, ⟨q1, q2, q3, q4⟩, by rw [show b1 + (s1 + 1) - 1 = b1 + s1 - 1 + 1 by omega, em]; omega⟩
theorem k_jo1b {yo : Int} {yn : Int} {yk : Int → Int} {yl : Int → Int} {cA : Int → Int} {cB : Int → Int} (hyo : 2 ≤ yo ∧ yo ≤ 13) (hyn : 0 ≤ yn ∧ yn ≤ 96) (hyk : ∀ i, 0 ≤ yk i ∧ yk i ≤ 13) (hyl : ∀ i, 0 ≤ yl i ∧ yl i ≤ 13) {u y s o : Int} (p0 : p_TC0 yo yn yk yl cA cB (0)) (p1 : o = yo) (p2 : p_JO cA cB (u + 16 * s)) (c0 : 0 ≤ s) (c1 : 0 ≤ (-1) * s + 255) (c2 : 0 ≤ u) (c3 : 0 ≤ (-1) * u + 15) (c4 : 0 ≤ y) (c5 : 0 ≤ (-1) * y + 15) (c6 : 0 ≤ o + (-1) * u + (-1)) (c7 : 0 ≤ y + (-1) * u + (-1)) (c8 : 0 ≤ u + (-1) * y + 1) : p_JO cA cB (y + 16 * s + 16) := by
  obtain ⟨u1, s1, e, a1, a2, a3, hu, j1, j2, j3, j4⟩ := p2
  obtain ⟨rfl, rfl⟩ : u1 = u ∧ s1 = s := by omega
  have h0 := p0.1
  have em := m_ems (x := m_jl cA cB + s1 - 1) (o := cA 0) (by omega)
  have e2 := Int.emod_nonneg (m_jl cA cB + s1 - 1) (show cA 0 ≠ 0 by omega)
  have e3 := Int.emod_lt_of_pos (m_jl cA cB + s1 - 1) (show 0 < cA 0 by omega)
  rw [if_neg (by omega)] at em
  exact ⟨y, s1 + 1, by omega, by omega, by omega, by omega, by rw [show m_jl cA cB + (s1 + 1) - 1 = m_jl cA cB + s1 - 1 + 1 by omega, em]; omega, j1, j2, j3, j4⟩
theorem k_jt1b {t y s n b : Int} (p0 : p_JT (t + 16 * s + 4096 * n + 65536 * b)) (c0 : 0 ≤ s) (c1 : 0 ≤ (-1) * s + 254) (c2 : 0 ≤ n + (-2)) (c3 : 0 ≤ (-1) * n + 13) (c4 : 0 ≤ b + (-1)) (c5 : 0 ≤ n + (-1) * b) (c6 : 0 ≤ t) (c7 : 0 ≤ (-1) * t + 15) (c8 : 0 ≤ y) (c9 : 0 ≤ (-1) * y + 15) (c10 : 0 ≤ n + (-1) * t + (-1)) (c11 : 0 ≤ y + (-1) * t + (-1)) (c12 : 0 ≤ t + (-1) * y + 1) : p_JT (y + 16 * s + 4096 * n + 65536 * b + 16) := by
  obtain ⟨t1, s1, n1, b1, e, a1, a2, a3, a4, ⟨q1, q2, q3, q4⟩, ht⟩ := p0
  have eb : b1 = b := by omega
  subst eb
  have en : n1 = n := by omega
  subst en
  have es : s1 = s := by omega
  subst es
  have et : t1 = t := by omega
  subst et
  have em := m_ems (x := b1 + s1 - 1) (o := n1) (by omega)
  have e2 := Int.emod_nonneg (b1 + s1 - 1) (show n1 ≠ 0 by omega)
  have e3 := Int.emod_lt_of_pos (b1 + s1 - 1) (show 0 < n1 by omega)
  rw [if_neg (by omega)] at em
  exact ⟨y, s1 + 1, n1, b1, by omega, by omega, by omega, by omega, by omega, ⟨q1, q2, q3, q4⟩, by rw [show b1 + (s1 + 1) - 1 = b1 + s1 - 1 + 1 by omega, em]; omega⟩
theorem k_jn1 {yo : Int} {yn : Int} {yk : Int → Int} {yl : Int → Int} {cA : Int → Int} {cB : Int → Int} (hyo : 2 ≤ yo ∧ yo ≤ 13) (hyn : 0 ≤ yn ∧ yn ≤ 96) (hyk : ∀ i, 0 ≤ yk i ∧ yk i ≤ 13) (hyl : ∀ i, 0 ≤ yl i ∧ yl i ≤ 13) {v s n b o : Int} (p0 : p_TC0 yo yn yk yl cA cB (0)) (p1 : o = yo) (p2 : p_JN cA cB (v + 256 * s + 65536 * n + 1048576 * b)) (p3 : p_JO cA cB (o + 16 * s + 16)) (p4 : p_JT (4097 * n + 16 * s + 65536 * b)) (c0 : 0 ≤ s) (c1 : 0 ≤ (-1) * s + 254) (c2 : 0 ≤ n + (-2)) (c3 : 0 ≤ (-1) * n + 13) (c4 : 0 ≤ b + (-1)) (c5 : 0 ≤ n + (-1) * b) (c6 : 0 ≤ v) (c7 : 0 ≤ (-1) * v + 255) : p_JN cA cB (v + 256 * s + 65536 * n + 1048576 * b + 257) := by
  obtain ⟨v1, k1, n1, b1, e, a1, a2, a3, a4, ⟨q1, q2, q3, q4⟩, hv⟩ := p2
  have eb : b1 = b := by omega
  subst eb
  have en : n1 = n := by omega
  subst en
  have es : k1 = s := by omega
  subst es
  have ev : v1 = v := by omega
  subst ev
  obtain ⟨u2, s2, e2, d1, d2, d3, hu, j1, j2, j3, j4⟩ := p3
  have h0 := p0.1
  have eu : u2 = o := by omega
  have es2 : s2 = k1 + 1 := by omega
  rw [es2] at hu
  obtain ⟨t3, s3, n3, b3, e3, f1, f2, f3, f4, ⟨g1, g2, g3, g4⟩, ht⟩ := p4
  have eb3 : b3 = b1 := by omega
  have en3 : n3 = n1 := by omega
  have es3 : s3 = k1 := by omega
  have et3 : t3 = n1 := by omega
  rw [eb3, en3, es3, et3] at ht
  have hc : (if (m_jl cA cB + k1 + 1) % cA 0 = 0 ∧ (b1 + k1) % n1 = 0 then (1 : Int) else 0) = 1 := if_pos ⟨(m_jo_z (by omega)).mp (by omega), (m_jt_z (by omega)).mp (by omega)⟩
  have hle := (m_jn_le (o := cA 0) (l := m_jl cA cB) (n := n1) (b := b1) k1.toNat).2
  exact ⟨v1 + 1, k1 + 1, n1, b1, by omega, by omega, by omega, by omega, by omega, ⟨q1, q2, q3, q4⟩, by rw [m_jn_s a3, ← hv, hc]⟩
theorem k_jn2 {yo : Int} {yn : Int} {yk : Int → Int} {yl : Int → Int} {cA : Int → Int} {cB : Int → Int} (hyo : 2 ≤ yo ∧ yo ≤ 13) (hyn : 0 ≤ yn ∧ yn ≤ 96) (hyk : ∀ i, 0 ≤ yk i ∧ yk i ≤ 13) (hyl : ∀ i, 0 ≤ yl i ∧ yl i ≤ 13) {v s n b o u : Int} (p0 : p_TC0 yo yn yk yl cA cB (0)) (p1 : o = yo) (p2 : p_JN cA cB (v + 256 * s + 65536 * n + 1048576 * b)) (p3 : p_JO cA cB (u + 16 * s + 16)) (c0 : 0 ≤ s) (c1 : 0 ≤ (-1) * s + 254) (c2 : 0 ≤ n + (-2)) (c3 : 0 ≤ (-1) * n + 13) (c4 : 0 ≤ b + (-1)) (c5 : 0 ≤ n + (-1) * b) (c6 : 0 ≤ v) (c7 : 0 ≤ (-1) * v + 255) (c8 : 0 ≤ o + (-1) * u + (-1)) (c9 : 0 ≤ u) (c10 : 0 ≤ (-1) * u + 15) : p_JN cA cB (v + 256 * s + 65536 * n + 1048576 * b + 256) := by
  obtain ⟨v1, k1, n1, b1, e, a1, a2, a3, a4, ⟨q1, q2, q3, q4⟩, hv⟩ := p2
  have eb : b1 = b := by omega
  subst eb
  have en : n1 = n := by omega
  subst en
  have es : k1 = s := by omega
  subst es
  have ev : v1 = v := by omega
  subst ev
  obtain ⟨u2, s2, e2, d1, d2, d3, hu, j1, j2, j3, j4⟩ := p3
  have h0 := p0.1
  have eu : u2 = u := by omega
  have es2 : s2 = k1 + 1 := by omega
  rw [es2] at hu
  have hc : (if (m_jl cA cB + k1 + 1) % cA 0 = 0 ∧ (b1 + k1) % n1 = 0 then (1 : Int) else 0) = 0 := if_neg fun q => by have := (m_jo_z (l := m_jl cA cB) (s := k1) (o := cA 0) (by omega)).mpr q.1; omega
  have hle := (m_jn_le (o := cA 0) (l := m_jl cA cB) (n := n1) (b := b1) k1.toNat).2
  exact ⟨v1 + 0, k1 + 1, n1, b1, by omega, by omega, by omega, by omega, by omega, ⟨q1, q2, q3, q4⟩, by rw [m_jn_s a3, ← hv, hc]⟩
theorem k_jn3 {cA : Int → Int} {cB : Int → Int} {v s n b t : Int} (p0 : p_JN cA cB (v + 256 * s + 65536 * n + 1048576 * b)) (p1 : p_JT (t + 16 * s + 4096 * n + 65536 * b)) (c0 : 0 ≤ s) (c1 : 0 ≤ (-1) * s + 254) (c2 : 0 ≤ n + (-2)) (c3 : 0 ≤ (-1) * n + 13) (c4 : 0 ≤ b + (-1)) (c5 : 0 ≤ n + (-1) * b) (c6 : 0 ≤ v) (c7 : 0 ≤ (-1) * v + 255) (c8 : 0 ≤ n + (-1) * t + (-1)) (c9 : 0 ≤ t) (c10 : 0 ≤ (-1) * t + 15) : p_JN cA cB (v + 256 * s + 65536 * n + 1048576 * b + 256) := by
  obtain ⟨v1, k1, n1, b1, e, a1, a2, a3, a4, ⟨q1, q2, q3, q4⟩, hv⟩ := p0
  have eb : b1 = b := by omega
  subst eb
  have en : n1 = n := by omega
  subst en
  have es : k1 = s := by omega
  subst es
  have ev : v1 = v := by omega
  subst ev
  obtain ⟨t3, s3, n3, b3, e3, f1, f2, f3, f4, ⟨g1, g2, g3, g4⟩, ht⟩ := p1
  have eb3 : b3 = b1 := by omega
  have en3 : n3 = n1 := by omega
  have es3 : s3 = k1 := by omega
  have et3 : t3 = t := by omega
  rw [eb3, en3, es3, et3] at ht
  have hc : (if (m_jl cA cB + k1 + 1) % cA 0 = 0 ∧ (b1 + k1) % n1 = 0 then (1 : Int) else 0) = 0 := if_neg fun q => by have := (m_jt_z (b := b1) (s := k1) (n := n1) (by omega)).mpr q.2; omega
  have hle := (m_jn_le (o := cA 0) (l := m_jl cA cB) (n := n1) (b := b1) k1.toNat).2
  exact ⟨v1 + 0, k1 + 1, n1, b1, by omega, by omega, by omega, by omega, by omega, ⟨q1, q2, q3, q4⟩, by rw [m_jn_s a3, ← hv, hc]⟩
theorem k_jnz {yo : Int} {yn : Int} {yk : Int → Int} {yl : Int → Int} {cA : Int → Int} {cB : Int → Int} (hyo : 2 ≤ yo ∧ yo ≤ 13) (hyn : 0 ≤ yn ∧ yn ≤ 96) (hyk : ∀ i, 0 ≤ yk i ∧ yk i ≤ 13) (hyl : ∀ i, 0 ≤ yl i ∧ yl i ≤ 13) {v s n b o u : Int} (p0 : p_TC0 yo yn yk yl cA cB (0)) (p1 : o = yo) (p2 : p_JO cA cB (u + 16 * s + 16)) (c0 : 0 ≤ s) (c1 : 0 ≤ (-1) * s + 254) (c2 : 0 ≤ n + (-2)) (c3 : 0 ≤ (-1) * n + 13) (c4 : 0 ≤ b + (-1)) (c5 : 0 ≤ n + (-1) * b) (c6 : 0 ≤ u + (-1) * o + (-1)) (c7 : 0 ≤ u) (c8 : 0 ≤ (-1) * u + 15) : 0 ≤ (-1) := by
  obtain ⟨u2, s2, e2, d1, d2, d3, hu, j1, j2, j3, j4⟩ := p2
  have h0 := p0.1
  have e3 := Int.emod_lt_of_pos (m_jl cA cB + s2 - 1) (show 0 < cA 0 by omega)
  omega
theorem k_jty {v s n b t : Int} (p0 : p_JT (t + 16 * s + 4096 * n + 65536 * b)) (c0 : 0 ≤ s) (c1 : 0 ≤ (-1) * s + 254) (c2 : 0 ≤ n + (-2)) (c3 : 0 ≤ (-1) * n + 13) (c4 : 0 ≤ b + (-1)) (c5 : 0 ≤ n + (-1) * b) (c6 : 0 ≤ t + (-1) * n + (-1)) (c7 : 0 ≤ t) (c8 : 0 ≤ (-1) * t + 15) : 0 ≤ (-1) := by
  obtain ⟨t1, s1, n1, b1, e, a1, a2, a3, a4, ⟨q1, q2, q3, q4⟩, ht⟩ := p0
  have eb : b1 = b := by omega
  subst eb
  have en : n1 = n := by omega
  subst en
  have es : s1 = s := by omega
  subst es
  have et : t1 = t := by omega
  have e3 := Int.emod_lt_of_pos (b1 + s1 - 1) (show 0 < n1 by omega)
  omega
theorem k_jne {cA : Int → Int} {cB : Int → Int} {v s n b k : Int} (p0 : p_JN cA cB (v + 256 * s + 65536 * n + 1048576 * b)) (c0 : 0 ≤ s) (c1 : 0 ≤ (-1) * s + 254) (c2 : 0 ≤ n + (-2)) (c3 : 0 ≤ (-1) * n + 13) (c4 : 0 ≤ b + (-1)) (c5 : 0 ≤ n + (-1) * b) (c6 : 0 ≤ v) (c7 : 0 ≤ (-1) * v + 255) (c8 : 0 ≤ s + (-1) * k) (c9 : 0 ≤ k + (-1) * s) (c10 : 0 ≤ k) (c11 : 0 ≤ (-1) * k + 255) : p_JNR cA cB (v + 256 * k + 65536 * n + 1048576 * b) := by
  obtain ⟨v1, k1, n1, b1, e, a1, a2, a3, a4, ⟨q1, q2, q3, q4⟩, hv⟩ := p0
  have eb : b1 = b := by omega
  subst eb
  have en : n1 = n := by omega
  subst en
  have es : k1 = s := by omega
  subst es
  have ev : v1 = v := by omega
  subst ev
  have ek : k1 = k := by omega
  subst ek
  exact ⟨v1, k1, n1, b1, by omega, a1, a2, a3, a4, ⟨q1, q2, q3, q4⟩, hv⟩
theorem k_tvx {cA : Int → Int} {cB : Int → Int} {F z n : Int} (p0 : p_TV cA cB (F)) (c0 : 0 ≤ F + (-1) * z + (-16) * n + 16) (c1 : 0 ≤ z + 16 * n + (-1) * F + (-16)) : p_TV cA cB (z + 16 * n + (-16)) := by
  rw [show z + 16 * n + (-16) = F by omega]
  exact p0
theorem k_mra {x y z k b : Int} (i1 : 0 ≤ x) (i2 : 1 ≤ y) (i3 : z = x % y) (c0 : 0 ≤ x + (-1) * b + (-1) * k) (c1 : 0 ≤ b + k + (-1) * x) (c2 : 0 ≤ k) (c3 : 0 ≤ (-1) * k + 255) (c4 : 0 ≤ b + (-1)) (c5 : 0 ≤ y + (-1) * b) (c6 : 0 ≤ (-1) * y + 13) : p_MRA (z + 16 * y + 256 * b + 4096 * k) := by
  have h1 := Int.emod_nonneg x (show y ≠ 0 by omega)
  have h2 := Int.emod_lt_of_pos x (show 0 < y by omega)
  exact ⟨z, y, b, k, rfl, by omega, by omega, by omega, by omega, by omega, by omega, by rw [i3, show x = b + k by omega]⟩
theorem k_mrb {M : Int} {yo : Int} {yn : Int} {yk : Int → Int} {yl : Int → Int} {cA : Int → Int} {cB : Int → Int} (hM : 2 ≤ M ∧ M ≤ 13) (hyo : 2 ≤ yo ∧ yo ≤ 13) (hyn : 0 ≤ yn ∧ yn ≤ 96) (hyk : ∀ i, 0 ≤ yk i ∧ yk i ≤ 13) (hyl : ∀ i, 0 ≤ yl i ∧ yl i ≤ 13) (lMA : M = cA 0) {x y z k l i n : Int} (i1 : 0 ≤ x) (i2 : 1 ≤ y) (i3 : z = x % y) (p0 : p_TC0 yo yn yk yl cA cB (0)) (p1 : y = M) (p2 : p_TV cA cB (l + 16 * i)) (p3 : n = yn) (c0 : 0 ≤ x + (-1) * l + (-1) * k + (-1)) (c1 : 0 ≤ l + k + (-1) * x + 1) (c2 : 0 ≤ k) (c3 : 0 ≤ (-1) * k + 255) (c4 : 0 ≤ l) (c5 : 0 ≤ (-1) * l + 15) (c6 : 0 ≤ i + (-1) * n + 1) (c7 : 0 ≤ n + (-1) * i + (-1)) (c8 : 0 ≤ i) (c9 : 0 ≤ (-1) * i + 95) : p_MRB cA cB (z + 16 * k) := by
  obtain ⟨i1', z1, e, a1, a2, a3, a4, h⟩ := p2
  obtain ⟨rfl, rfl⟩ : i1' = i ∧ z1 = l := by omega
  have hn := p0.2.1
  have hl : m_jl cA cB = z1 := by
    unfold m_jl
    rw [← h, show (m_NB cA cB - 1).toNat = i1'.toNat by omega]
  have h1 := Int.emod_nonneg x (show y ≠ 0 by omega)
  have h2 := Int.emod_lt_of_pos x (show 0 < y by omega)
  exact ⟨z, k, rfl, by omega, by omega, by omega, by rw [i3, hl, show x = z1 + k + 1 by omega, p1, lMA]⟩
theorem k_xwj {k : Int} : p_XW (k + (-1)) := by
  exact trivial
theorem k_jr1 {cA : Int → Int} {cB : Int → Int} {v k n b : Int} (p0 : p_JN cA cB (v + 256 * k + 65536 * n + 1048576 * b)) (p1 : p_MRA (16 * n + 256 * b + 4096 * k)) (p2 : p_MRB cA cB (16 * k)) (c0 : 0 ≤ k) (c1 : 0 ≤ (-1) * k + 254) (c2 : 0 ≤ n + (-2)) (c3 : 0 ≤ (-1) * n + 13) (c4 : 0 ≤ b + (-1)) (c5 : 0 ≤ n + (-1) * b) (c6 : 0 ≤ v) (c7 : 0 ≤ (-1) * v + 255) : p_JN cA cB (v + 256 * k + 65536 * n + 1048576 * b + 257) := by
  obtain ⟨v1, k1, n1, b1, e, a1, a2, a3, a4, ⟨q1, q2, q3, q4⟩, hv⟩ := p0
  have eb : b1 = b := by omega
  subst eb
  have en : n1 = n := by omega
  subst en
  have es : k1 = k := by omega
  subst es
  have ev : v1 = v := by omega
  subst ev
  obtain ⟨z2, y2, b2, k2, e2, d1, d2, d3, d4, d5, d6, hz⟩ := p1
  have ek2 : k2 = k1 := by omega
  have eb2 : b2 = b1 := by omega
  have ey2 : y2 = n1 := by omega
  rw [ek2, eb2, ey2] at hz
  obtain ⟨z3, k3, e3, f1, f2, f3, hy⟩ := p2
  have ek3 : k3 = k1 := by omega
  rw [ek3] at hy
  have hc : (if (m_jl cA cB + k1 + 1) % cA 0 = 0 ∧ (b1 + k1) % n1 = 0 then (1 : Int) else 0) = 1 := if_pos ⟨(by omega), (by omega)⟩
  have hle := (m_jn_le (o := cA 0) (l := m_jl cA cB) (n := n1) (b := b1) k1.toNat).2
  exact ⟨v1 + 1, k1 + 1, n1, b1, by omega, by omega, by omega, by omega, by omega, ⟨q1, q2, q3, q4⟩, by rw [m_jn_s a3, ← hv, hc]⟩
theorem k_jr2 {cA : Int → Int} {cB : Int → Int} {v k n b F : Int} (p0 : p_JN cA cB (v + 256 * k + 65536 * n + 1048576 * b)) (p1 : p_MRA (F)) (c0 : 0 ≤ k) (c1 : 0 ≤ (-1) * k + 254) (c2 : 0 ≤ n + (-2)) (c3 : 0 ≤ (-1) * n + 13) (c4 : 0 ≤ b + (-1)) (c5 : 0 ≤ n + (-1) * b) (c6 : 0 ≤ v) (c7 : 0 ≤ (-1) * v + 255) (c8 : 0 ≤ F + (-16) * n + (-256) * b + (-4096) * k + (-1)) (c9 : 0 ≤ 16 * n + 256 * b + 4096 * k + (-1) * F + 15) : p_JN cA cB (v + 256 * k + 65536 * n + 1048576 * b + 256) := by
  obtain ⟨v1, k1, n1, b1, e, a1, a2, a3, a4, ⟨q1, q2, q3, q4⟩, hv⟩ := p0
  have eb : b1 = b := by omega
  subst eb
  have en : n1 = n := by omega
  subst en
  have es : k1 = k := by omega
  subst es
  have ev : v1 = v := by omega
  subst ev
  obtain ⟨z2, y2, b2, k2, e2, d1, d2, d3, d4, d5, d6, hz⟩ := p1
  have ek2 : k2 = k1 := by omega
  have eb2 : b2 = b1 := by omega
  have ey2 : y2 = n1 := by omega
  rw [ek2, eb2, ey2] at hz
  have hc : (if (m_jl cA cB + k1 + 1) % cA 0 = 0 ∧ (b1 + k1) % n1 = 0 then (1 : Int) else 0) = 0 := if_neg fun q => by have := q.2; omega
  have hle := (m_jn_le (o := cA 0) (l := m_jl cA cB) (n := n1) (b := b1) k1.toNat).2
  exact ⟨v1 + 0, k1 + 1, n1, b1, by omega, by omega, by omega, by omega, by omega, ⟨q1, q2, q3, q4⟩, by rw [m_jn_s a3, ← hv, hc]⟩
theorem k_jr3 {cA : Int → Int} {cB : Int → Int} {v k n b G : Int} (p0 : p_JN cA cB (v + 256 * k + 65536 * n + 1048576 * b)) (p1 : p_MRB cA cB (G)) (c0 : 0 ≤ k) (c1 : 0 ≤ (-1) * k + 254) (c2 : 0 ≤ n + (-2)) (c3 : 0 ≤ (-1) * n + 13) (c4 : 0 ≤ b + (-1)) (c5 : 0 ≤ n + (-1) * b) (c6 : 0 ≤ v) (c7 : 0 ≤ (-1) * v + 255) (c8 : 0 ≤ G + (-16) * k + (-1)) (c9 : 0 ≤ 16 * k + (-1) * G + 15) : p_JN cA cB (v + 256 * k + 65536 * n + 1048576 * b + 256) := by
  obtain ⟨v1, k1, n1, b1, e, a1, a2, a3, a4, ⟨q1, q2, q3, q4⟩, hv⟩ := p0
  have eb : b1 = b := by omega
  subst eb
  have en : n1 = n := by omega
  subst en
  have es : k1 = k := by omega
  subst es
  have ev : v1 = v := by omega
  subst ev
  obtain ⟨z3, k3, e3, f1, f2, f3, hy⟩ := p1
  have ek3 : k3 = k1 := by omega
  rw [ek3] at hy
  have hc : (if (m_jl cA cB + k1 + 1) % cA 0 = 0 ∧ (b1 + k1) % n1 = 0 then (1 : Int) else 0) = 0 := if_neg fun q => by have := q.1; omega
  have hle := (m_jn_le (o := cA 0) (l := m_jl cA cB) (n := n1) (b := b1) k1.toNat).2
  exact ⟨v1 + 0, k1 + 1, n1, b1, by omega, by omega, by omega, by omega, by omega, ⟨q1, q2, q3, q4⟩, by rw [m_jn_s a3, ← hv, hc]⟩
theorem k_jrqa {cA : Int → Int} {cB : Int → Int} {v k n b r w : Int} (p0 : p_JN cA cB (v + 256 * k + 65536 * n + 1048576 * b)) (p1 : p_JNR cA cB (r + 256 * w + 65536 * n + 1048576 * b)) (c0 : 0 ≤ k) (c1 : 0 ≤ (-1) * k + 254) (c2 : 0 ≤ n + (-2)) (c3 : 0 ≤ (-1) * n + 13) (c4 : 0 ≤ b + (-1)) (c5 : 0 ≤ n + (-1) * b) (c6 : 0 ≤ v) (c7 : 0 ≤ (-1) * v + 255) (c8 : 0 ≤ k + (-1) * w) (c9 : 0 ≤ w + (-1) * k) (c10 : 0 ≤ w) (c11 : 0 ≤ (-1) * w + 255) (c12 : 0 ≤ r) (c13 : 0 ≤ (-1) * r + 255) : 0 ≤ v + (-1) * r := by
  obtain ⟨v1, k1, n1, b1, e, a1, a2, a3, a4, ⟨q1, q2, q3, q4⟩, hv⟩ := p0
  have eb : b1 = b := by omega
  subst eb
  have en : n1 = n := by omega
  subst en
  have es : k1 = k := by omega
  subst es
  have ev : v1 = v := by omega
  subst ev
  obtain ⟨v2, k2, n2, b2, e2, d1, d2, d3, d4, ⟨g1, g2, g3, g4⟩, hw⟩ := p1
  have eb2 : b2 = b1 := by omega
  have en2 : n2 = n1 := by omega
  have ek2 : k2 = k1 := by omega
  have ev2 : v2 = r := by omega
  rw [eb2, en2, ek2] at hw
  omega
theorem k_jrqb {cA : Int → Int} {cB : Int → Int} {v k n b r w : Int} (p0 : p_JN cA cB (v + 256 * k + 65536 * n + 1048576 * b)) (p1 : p_JNR cA cB (r + 256 * w + 65536 * n + 1048576 * b)) (c0 : 0 ≤ k) (c1 : 0 ≤ (-1) * k + 254) (c2 : 0 ≤ n + (-2)) (c3 : 0 ≤ (-1) * n + 13) (c4 : 0 ≤ b + (-1)) (c5 : 0 ≤ n + (-1) * b) (c6 : 0 ≤ v) (c7 : 0 ≤ (-1) * v + 255) (c8 : 0 ≤ k + (-1) * w) (c9 : 0 ≤ w + (-1) * k) (c10 : 0 ≤ w) (c11 : 0 ≤ (-1) * w + 255) (c12 : 0 ≤ r) (c13 : 0 ≤ (-1) * r + 255) : 0 ≤ r + (-1) * v := by
  obtain ⟨v1, k1, n1, b1, e, a1, a2, a3, a4, ⟨q1, q2, q3, q4⟩, hv⟩ := p0
  have eb : b1 = b := by omega
  subst eb
  have en : n1 = n := by omega
  subst en
  have es : k1 = k := by omega
  subst es
  have ev : v1 = v := by omega
  subst ev
  obtain ⟨v2, k2, n2, b2, e2, d1, d2, d3, d4, ⟨g1, g2, g3, g4⟩, hw⟩ := p1
  have eb2 : b2 = b1 := by omega
  have en2 : n2 = n1 := by omega
  have ek2 : k2 = k1 := by omega
  have ev2 : v2 = r := by omega
  rw [eb2, en2, ek2] at hw
  omega
theorem k_ae36_15 {xf : Int → Int} {fy : Int → Int} {s t n : Int} (i1 : 0 ≤ s) (i2 : 0 ≤ t) (i3 : 0 ≤ n) (c0 : 0 ≤ s) (c1 : 0 ≤ (-1) * s) (c2 : 0 ≤ t) (c3 : 0 ≤ (-1) * t) (c4 : 0 ≤ n + (-96)) (c5 : 0 ≤ (-1) * n + 96) : p_AE36_15 xf (m_cpx xf fy s t n) (0) := by
  intro j g1 g2
  unfold m_cpx
  rw [if_pos (by omega), show s + (j - t) = j by omega]
theorem k_ae15_485 {fy : Int → Int} {fy1 : Int → Int} {s t n : Int} (i1 : 0 ≤ s) (i2 : 0 ≤ t) (i3 : 0 ≤ n) (c0 : 0 ≤ s) (c1 : 0 ≤ (-1) * s) (c2 : 0 ≤ t) (c3 : 0 ≤ (-1) * t) (c4 : 0 ≤ n + (-96)) (c5 : 0 ≤ (-1) * n + 96) : p_AE15_485 fy (m_cpx fy fy1 s t n) (0) := by
  intro j g1 g2
  unfold m_cpx
  rw [if_pos (by omega), show s + (j - t) = j by omega]
theorem k_ae485_15 {fy : Int → Int} {fy1 : Int → Int} {s t n : Int} (i1 : 0 ≤ s) (i2 : 0 ≤ t) (i3 : 0 ≤ n) (c0 : 0 ≤ s) (c1 : 0 ≤ (-1) * s) (c2 : 0 ≤ t) (c3 : 0 ≤ (-1) * t) (c4 : 0 ≤ n + (-96)) (c5 : 0 ≤ (-1) * n + 96) : p_AE485_15 (m_cpx fy1 fy s t n) fy1 (0) := by
  intro j g1 g2
  unfold m_cpx
  rw [if_pos (by omega), show s + (j - t) = j by omega]
theorem k_ae15_505 {fy : Int → Int} {fy2 : Int → Int} {s t n : Int} (i1 : 0 ≤ s) (i2 : 0 ≤ t) (i3 : 0 ≤ n) (c0 : 0 ≤ s) (c1 : 0 ≤ (-1) * s) (c2 : 0 ≤ t) (c3 : 0 ≤ (-1) * t) (c4 : 0 ≤ n + (-96)) (c5 : 0 ≤ (-1) * n + 96) : p_AE15_505 fy (m_cpx fy fy2 s t n) (0) := by
  intro j g1 g2
  unfold m_cpx
  rw [if_pos (by omega), show s + (j - t) = j by omega]
theorem k_ae505_15 {fy : Int → Int} {fy2 : Int → Int} {s t n : Int} (i1 : 0 ≤ s) (i2 : 0 ≤ t) (i3 : 0 ≤ n) (c0 : 0 ≤ s) (c1 : 0 ≤ (-1) * s) (c2 : 0 ≤ t) (c3 : 0 ≤ (-1) * t) (c4 : 0 ≤ n + (-96)) (c5 : 0 ≤ (-1) * n + 96) : p_AE505_15 (m_cpx fy2 fy s t n) fy2 (0) := by
  intro j g1 g2
  unfold m_cpx
  rw [if_pos (by omega), show s + (j - t) = j by omega]
theorem k_ae15_525 {fy : Int → Int} {fy3 : Int → Int} {s t n : Int} (i1 : 0 ≤ s) (i2 : 0 ≤ t) (i3 : 0 ≤ n) (c0 : 0 ≤ s) (c1 : 0 ≤ (-1) * s) (c2 : 0 ≤ t) (c3 : 0 ≤ (-1) * t) (c4 : 0 ≤ n + (-96)) (c5 : 0 ≤ (-1) * n + 96) : p_AE15_525 fy (m_cpx fy fy3 s t n) (0) := by
  intro j g1 g2
  unfold m_cpx
  rw [if_pos (by omega), show s + (j - t) = j by omega]
theorem k_ae525_15 {fy : Int → Int} {fy3 : Int → Int} {s t n : Int} (i1 : 0 ≤ s) (i2 : 0 ≤ t) (i3 : 0 ≤ n) (c0 : 0 ≤ s) (c1 : 0 ≤ (-1) * s) (c2 : 0 ≤ t) (c3 : 0 ≤ (-1) * t) (c4 : 0 ≤ n + (-96)) (c5 : 0 ≤ (-1) * n + 96) : p_AE525_15 (m_cpx fy3 fy s t n) fy3 (0) := by
  intro j g1 g2
  unfold m_cpx
  rw [if_pos (by omega), show s + (j - t) = j by omega]
theorem k_sfw {qn : Int} {wo : Int} {wf : Int} {wn : Int} {wc : Int} {wm : Int} {ws : Int} {wi : Int} {wl : Int} {ba : Int → Int} {xa : Int → Int} {xb : Int → Int} {xc : Int → Int} {xd : Int → Int} {xe : Int → Int} {xf : Int → Int} {xg : Int → Int} {xh : Int → Int} {fy : Int → Int} (hqn : 0 ≤ qn ∧ qn ≤ 900) (hwo : 2 ≤ wo ∧ wo ≤ 13) (hwf : 1 ≤ wf ∧ wf ≤ 13) (hwn : 0 ≤ wn ∧ wn ≤ 96) (hwc : 0 ≤ wc ∧ wc ≤ 6) (hwm : 0 ≤ wm ∧ wm ≤ 4) (hws : 0 ≤ ws ∧ ws ≤ 6) (hwi : 0 ≤ wi ∧ wi ≤ 8) (hba : ∀ i, -128 ≤ ba i ∧ ba i ≤ 127) (hxe : ∀ i, 0 ≤ xe i ∧ xe i ≤ 12) (p0 : p_WD ba qn wo wf wn wc wm ws wi wl xa xb xc xd xe xf xg xh (0)) (p1 : p_AE36_15 xf fy (0)) : p_SFW ba qn fy (0) := by
  obtain ⟨W, AT, w1, w2, w3, w4, w5, w6, w7, of⟩ := p0
  exact ⟨W, AT, fun i a b => by rw [p1 i a b]; exact w7 i a (by omega)⟩
theorem k_tfq {qn : Int} {rn : Int} {ba : Int → Int} {bb : Int → Int} {nw : Int → Int} {ww : Int → Int} {bk : Int → Int} {cA : Int → Int} {cB : Int → Int} {fy : Int → Int} (hqn : 0 ≤ qn ∧ qn ≤ 900) (hrn : 0 ≤ rn ∧ rn ≤ 900) (hba : ∀ i, -128 ≤ ba i ∧ ba i ≤ 127) (hbb : ∀ i, -128 ≤ bb i ∧ bb i ≤ 127) (lcA : ∀ i, 0 ≤ i → i < 6 → cA i = bk (0 + i)) (lcB : ∀ i, 0 ≤ i → i < 42 → cB i = bk (7 + i)) {x D n : Int} (p0 : p_CPW bk nw (360)) (p1 : p_DNW bb rn nw ww (0)) (p2 : p_SFW ba qn fy (0)) (p3 : p_TB3 ba (x + 1024 * D)) (p4 : p_TB8 bb (x + 1024 * D)) (p5 : n = qn) (p6 : n = rn) (c0 : 0 ≤ x + (-1) * n) (c1 : 0 ≤ (-1) * x + 900) (c2 : 0 ≤ n) (c3 : 0 ≤ D) : p_TF0 fy cA cB (0) := by
  obtain ⟨W2, q2, e1, e2⟩ := p1
  obtain ⟨W, q1, o3⟩ := p2
  have cg := m_tb_cg hba hbb p3 p4 c0 c1 c2
  rw [p5] at cg
  have hn : rn = qn := by omega
  rw [hn] at q2 e1
  have hW := m_at_one cg q1 q2
  injection hW with hW
  subst hW
  obtain ⟨hS, hO, hI⟩ := m_at_S q1
  have hF := m_at_F q1
  have hA : ∀ i, 0 ≤ i → i < 6 → cA i = nw i := fun i a b => by
    rw [lcA i a b, show 0 + i = i by omega]
    exact p0 i a (by omega) (by omega)
  have hB : ∀ i, 0 ≤ i → i < 42 → cB i = nw (7 + i) := fun i a b => by
    rw [lcB i a b]
    exact p0 (7 + i) (by omega) (by omega) (by omega)
  have h5 := e2 (by decide)
  obtain ⟨g1, g2, g3⟩ := m_wr_srt hS hO e1 h5 hA hB ⟨hI.1, hI.2.2.1⟩
  obtain ⟨k1, k2⟩ := m_wr_fok hF e1 hA hB g2 hI.2.2.2.1
  have i1 := hI.1
  have a2 : cA 2 = m_ln (m_wcs W) := (hA 2 (by decide) (by decide)).trans e1.1.1
  have t1 := m_tot_le (m_wcs W) hI.2.2.2.2
  have t2 : m_ln (m_wcs W) = ((m_wcs W).length : Int) := rfl
  exact ⟨k1, fun i a b => by rw [o3 i a (by omega), k2], by omega, by omega⟩
theorem k_mfmark1 {fy : Int → Int} {fy1 : Int → Int} (p0 : p_AE15_485 fy fy1 (0)) : p_MF1 fy fy1 (0) := by
  exact p0
theorem k_mfback1 {fy : Int → Int} {fy1 : Int → Int} (p0 : p_AE485_15 fy fy1 (0)) : p_MF1 fy fy1 (0) := by
  exact fun i a b => (p0 i a b).symm
theorem k_tfm1 {bk : Int → Int} {cA : Int → Int} {cB : Int → Int} {cA1 : Int → Int} {cB1 : Int → Int} {bk1 : Int → Int} {fy : Int → Int} {fy1 : Int → Int} (lcA : ∀ i, 0 ≤ i → i < 6 → cA i = bk (0 + i)) (lcB : ∀ i, 0 ≤ i → i < 42 → cB i = bk (7 + i)) (lcA1 : ∀ i, 0 ≤ i → i < 6 → cA1 i = bk1 (0 + i)) (lcB1 : ∀ i, 0 ≤ i → i < 42 → cB1 i = bk1 (7 + i)) (p0 : p_TF0 fy cA cB (0)) (p1 : p_MF1 fy fy1 (0)) (p2 : p_CB01 bk bk1 (360)) : p_TF1 fy1 cA1 cB1 (0) := by
  exact m_TF_ext p0 p1 (fun i a b => by rw [lcA1 i a b, lcA i a b]; exact p2 (0 + i) (by omega) (by omega) (by omega)) (fun i a b => by rw [lcB1 i a b, lcB i a b]; exact p2 (7 + i) (by omega) (by omega) (by omega))
theorem k_tfb1 {bk : Int → Int} {cA : Int → Int} {cB : Int → Int} {cA1 : Int → Int} {cB1 : Int → Int} {bk1 : Int → Int} {fy : Int → Int} {fy1 : Int → Int} (lcA : ∀ i, 0 ≤ i → i < 6 → cA i = bk (0 + i)) (lcB : ∀ i, 0 ≤ i → i < 42 → cB i = bk (7 + i)) (lcA1 : ∀ i, 0 ≤ i → i < 6 → cA1 i = bk1 (0 + i)) (lcB1 : ∀ i, 0 ≤ i → i < 42 → cB1 i = bk1 (7 + i)) (p0 : p_TF1 fy1 cA1 cB1 (0)) (p1 : p_MF1 fy fy1 (0)) (p2 : p_CB10 bk bk1 (360)) : p_TF0 fy cA cB (0) := by
  exact m_TF_ext p0 (fun i a b => (p1 i a b).symm) (fun i a b => by rw [lcA1 i a b, lcA i a b]; exact p2 (0 + i) (by omega) (by omega) (by omega)) (fun i a b => by rw [lcB1 i a b, lcB i a b]; exact p2 (7 + i) (by omega) (by omega) (by omega))
theorem k_mfmark2 {fy : Int → Int} {fy2 : Int → Int} (p0 : p_AE15_505 fy fy2 (0)) : p_MF2 fy fy2 (0) := by
  exact p0
theorem k_mfback2 {fy : Int → Int} {fy2 : Int → Int} (p0 : p_AE505_15 fy fy2 (0)) : p_MF2 fy fy2 (0) := by
  exact fun i a b => (p0 i a b).symm
theorem k_tfm2 {bk : Int → Int} {cA : Int → Int} {cB : Int → Int} {cA2 : Int → Int} {cB2 : Int → Int} {bk2 : Int → Int} {fy : Int → Int} {fy2 : Int → Int} (lcA : ∀ i, 0 ≤ i → i < 6 → cA i = bk (0 + i)) (lcB : ∀ i, 0 ≤ i → i < 42 → cB i = bk (7 + i)) (lcA2 : ∀ i, 0 ≤ i → i < 6 → cA2 i = bk2 (0 + i)) (lcB2 : ∀ i, 0 ≤ i → i < 42 → cB2 i = bk2 (7 + i)) (p0 : p_TF0 fy cA cB (0)) (p1 : p_MF2 fy fy2 (0)) (p2 : p_CB02 bk bk2 (360)) : p_TF2 fy2 cA2 cB2 (0) := by
  exact m_TF_ext p0 p1 (fun i a b => by rw [lcA2 i a b, lcA i a b]; exact p2 (0 + i) (by omega) (by omega) (by omega)) (fun i a b => by rw [lcB2 i a b, lcB i a b]; exact p2 (7 + i) (by omega) (by omega) (by omega))
theorem k_tfb2 {bk : Int → Int} {cA : Int → Int} {cB : Int → Int} {cA2 : Int → Int} {cB2 : Int → Int} {bk2 : Int → Int} {fy : Int → Int} {fy2 : Int → Int} (lcA : ∀ i, 0 ≤ i → i < 6 → cA i = bk (0 + i)) (lcB : ∀ i, 0 ≤ i → i < 42 → cB i = bk (7 + i)) (lcA2 : ∀ i, 0 ≤ i → i < 6 → cA2 i = bk2 (0 + i)) (lcB2 : ∀ i, 0 ≤ i → i < 42 → cB2 i = bk2 (7 + i)) (p0 : p_TF2 fy2 cA2 cB2 (0)) (p1 : p_MF2 fy fy2 (0)) (p2 : p_CB20 bk bk2 (360)) : p_TF0 fy cA cB (0) := by
  exact m_TF_ext p0 (fun i a b => (p1 i a b).symm) (fun i a b => by rw [lcA2 i a b, lcA i a b]; exact p2 (0 + i) (by omega) (by omega) (by omega)) (fun i a b => by rw [lcB2 i a b, lcB i a b]; exact p2 (7 + i) (by omega) (by omega) (by omega))
theorem k_mfmark3 {fy : Int → Int} {fy3 : Int → Int} (p0 : p_AE15_525 fy fy3 (0)) : p_MF3 fy fy3 (0) := by
  exact p0
