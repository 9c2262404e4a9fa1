-- 67.core: the rules in numbers (printed by wip/p5/gen68.py)
theorem m_d5 {w u v s b w1 u1 v1 s1 b1 : Int} (e : w + 16777216 * u + 268435456 * v + 4294967296 * s + 1099511627776 * b = w1 + 16777216 * u1 + 268435456 * v1 + 4294967296 * s1 + 1099511627776 * b1) (a1 : 0 ≤ w) (a2 : w < 16777216) (a3 : 0 ≤ u) (a4 : u ≤ 15) (a5 : 0 ≤ v) (a6 : v ≤ 15) (a7 : 0 ≤ s) (a8 : s ≤ 255) (d1 : 0 ≤ w1) (d2 : w1 < 16777216) (d3 : 0 ≤ u1) (d4 : u1 ≤ 15) (d5 : 0 ≤ v1) (d6 : v1 ≤ 15) (d7 : 0 ≤ s1) (d8 : s1 ≤ 255) : w = w1 ∧ u = u1 ∧ v = v1 ∧ s = s1 ∧ b = b1 := by omega
def m_cpx (fc fd : Int → Int) (s d n : Int) : Int → Int := fun q => if d ≤ q ∧ q < d + n then fc (s + (q - d)) else fd q
theorem m_v4 {v : Int} (h1 : 0 ≤ v) (h2 : v ≤ 3) : v = 0 ∨ v = 1 ∨ v = 2 ∨ v = 3 := by omega
theorem m_s0 {α : Type} {a0 a1 a2 a3 : α} : m_sel a0 a1 a2 a3 0 = a0 := if_pos rfl
theorem m_s1 {α : Type} {a0 a1 a2 a3 : α} : m_sel a0 a1 a2 a3 1 = a1 := (if_neg (by decide)).trans (if_pos rfl)
theorem m_s2 {α : Type} {a0 a1 a2 a3 : α} : m_sel a0 a1 a2 a3 2 = a2 := (if_neg (by decide)).trans ((if_neg (by decide)).trans (if_pos rfl))
theorem m_s3 {α : Type} {a0 a1 a2 a3 : α} : m_sel a0 a1 a2 a3 3 = a3 := (if_neg (by decide)).trans ((if_neg (by decide)).trans (if_neg (by decide)))
theorem m_sle {l0 l1 l2 l3 v : Int} (r : m_rg l0 l1 l2 l3) : m_sel l0 l1 l2 l3 v ≤ 60 := by
  unfold m_rg at r
  unfold m_sel
  by_cases h0 : v = 0
  · rw [if_pos h0]; omega
  · rw [if_neg h0]
    by_cases h1 : v = 1
    · rw [if_pos h1]; omega
    · rw [if_neg h1]
      by_cases h2 : v = 2
      · rw [if_pos h2]; omega
      · rw [if_neg h2]; omega
theorem m_Qi {a0 a1 a2 a3 nn : Int → Int} {l0 l1 l2 l3 : Int} {E : Int → Int → Prop} (h0 : ∀ q, 0 ≤ q → q < l0 → E 0 q → a0 q = nn (60 * 0 + q)) (h1 : ∀ q, 0 ≤ q → q < l1 → E 1 q → a1 q = nn (60 * 1 + q)) (h2 : ∀ q, 0 ≤ q → q < l2 → E 2 q → a2 q = nn (60 * 2 + q)) (h3 : ∀ q, 0 ≤ q → q < l3 → E 3 q → a3 q = nn (60 * 3 + q)) : m_Q a0 a1 a2 a3 nn l0 l1 l2 l3 E := fun v q v1 v2 q1 q2 e => by
  rcases m_v4 v1 v2 with rfl | rfl | rfl | rfl
  · rw [m_s0] at q2 ⊢; exact h0 q q1 q2 e
  · rw [m_s1] at q2 ⊢; exact h1 q q1 q2 e
  · rw [m_s2] at q2 ⊢; exact h2 q q1 q2 e
  · rw [m_s3] at q2 ⊢; exact h3 q q1 q2 e
theorem m_Qc0 {a0 a1 a2 a3 nn : Int → Int} {l0 l1 l2 l3 : Int} {E : Int → Int → Prop} (H : m_Q a0 a1 a2 a3 nn l0 l1 l2 l3 E) : ∀ q, 0 ≤ q → q < l0 → E 0 q → a0 q = nn (60 * 0 + q) := fun q q1 q2 e => by
  have := H 0 q (by decide) (by decide) q1 (by rw [m_s0]; exact q2) e
  rw [m_s0] at this
  exact this
theorem m_Qc1 {a0 a1 a2 a3 nn : Int → Int} {l0 l1 l2 l3 : Int} {E : Int → Int → Prop} (H : m_Q a0 a1 a2 a3 nn l0 l1 l2 l3 E) : ∀ q, 0 ≤ q → q < l1 → E 1 q → a1 q = nn (60 * 1 + q) := fun q q1 q2 e => by
  have := H 1 q (by decide) (by decide) q1 (by rw [m_s1]; exact q2) e
  rw [m_s1] at this
  exact this
theorem m_Qc2 {a0 a1 a2 a3 nn : Int → Int} {l0 l1 l2 l3 : Int} {E : Int → Int → Prop} (H : m_Q a0 a1 a2 a3 nn l0 l1 l2 l3 E) : ∀ q, 0 ≤ q → q < l2 → E 2 q → a2 q = nn (60 * 2 + q) := fun q q1 q2 e => by
  have := H 2 q (by decide) (by decide) q1 (by rw [m_s2]; exact q2) e
  rw [m_s2] at this
  exact this
theorem m_Qc3 {a0 a1 a2 a3 nn : Int → Int} {l0 l1 l2 l3 : Int} {E : Int → Int → Prop} (H : m_Q a0 a1 a2 a3 nn l0 l1 l2 l3 E) : ∀ q, 0 ≤ q → q < l3 → E 3 q → a3 q = nn (60 * 3 + q) := fun q q1 q2 e => by
  have := H 3 q (by decide) (by decide) q1 (by rw [m_s3]; exact q2) e
  rw [m_s3] at this
  exact this
theorem m_eqv {P : Int → Prop} {a b : Int} (h : P a) (e : a = b) : P b := e ▸ h
theorem m_dc2 {a b x y : Int} (e : a + 16777216 * x = b + 16777216 * y) (a1 : 0 ≤ a) (a2 : a < 16777216) (b1 : 0 ≤ b) (b2 : b < 16777216) : a = b ∧ x = y := by omega
theorem m_dc3 {a b x y : Int} (e : a + 262144 * x = b + 262144 * y) (a1 : 0 ≤ a) (a2 : a < 262144) (b1 : 0 ≤ b) (b2 : b < 262144) : a = b ∧ x = y := by omega
theorem m_dc4 {a b c d w x y z : Int} (e : a + 64 * b + 4096 * c + 262144 * d = w + 64 * x + 4096 * y + 262144 * z) (h : m_rg a b c d) (g : m_rg w x y z) : a = w ∧ b = x ∧ c = y ∧ d = z := by
  unfold m_rg at h g
  omega
theorem m_dc6 {i j m t u k i1 j1 m1 t1 u1 kk : Int} (e : i + 64 * j + 4096 * m + 262144 * (t + 4 * u + 16 * k) = i1 + 64 * j1 + 4096 * m1 + 262144 * (t1 + 4 * u1 + 16 * kk)) (a1 : 0 ≤ i) (a2 : i ≤ 60) (a3 : 0 ≤ j) (a4 : j ≤ 60) (a5 : 0 ≤ m) (a6 : m ≤ 60) (b1 : 0 ≤ i1) (b2 : i1 ≤ 60) (b3 : 0 ≤ j1) (b4 : j1 ≤ 60) (b5 : 0 ≤ m1) (b6 : m1 ≤ 60) (c1 : 0 ≤ t) (c2 : t ≤ 3) (c3 : 0 ≤ u) (c4 : u ≤ 3) (d1 : 0 ≤ t1) (d2 : t1 ≤ 3) (d3 : 0 ≤ u1) (d4 : u1 ≤ 3) : i = i1 ∧ j = j1 ∧ m = m1 ∧ t = t1 ∧ u = u1 ∧ k = kk := by
  obtain ⟨e1, e2⟩ := m_dc3 e (by omega) (by omega) (by omega) (by omega)
  have g1 : i = i1 ∧ j = j1 ∧ m = m1 := by clear e e2; omega
  have g2 : t = t1 ∧ u = u1 ∧ k = kk := by clear e e1; omega
  exact ⟨g1.1, g1.2.1, g1.2.2, g2.1, g2.2.1, g2.2.2⟩
theorem m_dcP {l0 l1 l2 l3 i j m t u k k0 k1 k2 k3 i1 j1 m1 t1 u1 kk : Int} (e : l0 + 64 * l1 + 4096 * l2 + 262144 * l3 + 16777216 * i + 1073741824 * j + 68719476736 * m + 4398046511104 * t + 17592186044416 * u + 70368744177664 * k = k0 + 64 * k1 + 4096 * k2 + 262144 * k3 + 16777216 * i1 + 1073741824 * j1 + 68719476736 * m1 + 4398046511104 * t1 + 17592186044416 * u1 + 70368744177664 * kk) (r : m_rg l0 l1 l2 l3) (r1 : m_rg k0 k1 k2 k3) (a1 : 0 ≤ i) (a3 : 0 ≤ j) (a5 : 0 ≤ m) (b1 : 0 ≤ i1) (b3 : 0 ≤ j1) (b5 : 0 ≤ m1) (c1 : 0 ≤ t) (c2 : t ≤ 3) (c3 : 0 ≤ u) (c4 : u ≤ 3) (d1 : 0 ≤ t1) (d2 : t1 ≤ 3) (d3 : 0 ≤ u1) (d4 : u1 ≤ 3) (x1 : i + m ≤ m_sel l0 l1 l2 l3 t) (x2 : j + m ≤ m_sel l0 l1 l2 l3 u) (x3 : i1 + m1 ≤ m_sel k0 k1 k2 k3 t1) (x4 : j1 + m1 ≤ m_sel k0 k1 k2 k3 u1) : (l0 = k0 ∧ l1 = k1 ∧ l2 = k2 ∧ l3 = k3) ∧ i = i1 ∧ j = j1 ∧ m = m1 ∧ t = t1 ∧ u = u1 ∧ k = kk := by
  have y1 := m_sle (v := t) r
  have y2 := m_sle (v := u) r
  have y3 := m_sle (v := t1) r1
  have y4 := m_sle (v := u1) r1
  have s1 := r
  have s2 := r1
  unfold m_rg at s1 s2
  obtain ⟨e1, e2⟩ := m_dc2 (a := l0 + 64 * l1 + 4096 * l2 + 262144 * l3) (x := i + 64 * j + 4096 * m + 262144 * (t + 4 * u + 16 * k)) (b := k0 + 64 * k1 + 4096 * k2 + 262144 * k3) (y := i1 + 64 * j1 + 4096 * m1 + 262144 * (t1 + 4 * u1 + 16 * kk)) (by omega) (by clear e; omega) (by clear e; omega) (by clear e; omega) (by clear e; omega)
  clear e
  exact ⟨m_dc4 e1 r r1, m_dc6 e2 a1 (by omega) a3 (by omega) a5 (by omega) b1 (by omega) b3 (by omega) b5 (by omega) c1 c2 c3 c4 d1 d2 d3 d4⟩
theorem g_ra0 {a0 a1 a2 a3 nn : Int → Int} {x i j m t u l0 l1 l2 l3 : Int} (p0 : p_PP a0 a1 a2 a3 nn x) (hx : x = l0 + 64 * l1 + 4096 * l2 + 262144 * l3 + 16777216 * i + 1073741824 * j + 68719476736 * m + 4398046511104 * t + 17592186044416 * u) (r : m_rg l0 l1 l2 l3) (g1 : 0 ≤ i) (g2 : 0 ≤ j) (g3 : 0 ≤ m) (g4 : 0 ≤ t) (g5 : t ≤ 3) (g6 : 0 ≤ u) (g7 : u ≤ 3) (g8 : i + m ≤ m_sel l0 l1 l2 l3 t) (g9 : j + m ≤ m_sel l0 l1 l2 l3 u) (hij : j ≤ i) : p_GA a0 a1 a2 a3 nn x := by
  obtain ⟨k0, k1, k2, k3, i1, j1, m1, t1, u1, e, r1, f1, f2, f3, f4, f5, f6, f7, f8, f9, H, H2⟩ := p0
  rw [hx] at e
  obtain ⟨⟨rfl, rfl, rfl, rfl⟩, rfl, rfl, rfl, rfl, rfl, e9⟩ := m_dcP (k := 0) (kk := 0) (by omega) r r1 g1 g2 g3 f1 f2 f3 g4 g5 g6 g7 f4 f5 f6 f7 g8 g9 f8 f9
  refine ⟨l0, l1, l2, l3, i, j, m, t, u, 0, by omega, r, g1, g2, g3, g4, g5, g6, g7, g8, g9, Int.le_refl 0, g3, hij, ?_⟩
  rw [Int.add_zero]
  exact ⟨H, H2⟩
theorem g_rd0 {a0 a1 a2 a3 nn : Int → Int} {x i j m t u l0 l1 l2 l3 : Int} (p0 : p_PP a0 a1 a2 a3 nn x) (hx : x = l0 + 64 * l1 + 4096 * l2 + 262144 * l3 + 16777216 * i + 1073741824 * j + 68719476736 * m + 4398046511104 * t + 17592186044416 * u) (r : m_rg l0 l1 l2 l3) (g1 : 0 ≤ i) (g2 : 0 ≤ j) (g3 : 0 ≤ m) (g4 : 0 ≤ t) (g5 : t ≤ 3) (g6 : 0 ≤ u) (g7 : u ≤ 3) (g8 : i + m ≤ m_sel l0 l1 l2 l3 t) (g9 : j + m ≤ m_sel l0 l1 l2 l3 u) (hij : i < j) : p_GD a0 a1 a2 a3 nn x := by
  obtain ⟨k0, k1, k2, k3, i1, j1, m1, t1, u1, e, r1, f1, f2, f3, f4, f5, f6, f7, f8, f9, H, H2⟩ := p0
  rw [hx] at e
  obtain ⟨⟨rfl, rfl, rfl, rfl⟩, rfl, rfl, rfl, rfl, rfl, e9⟩ := m_dcP (k := 0) (kk := 0) (by omega) r r1 g1 g2 g3 f1 f2 f3 g4 g5 g6 g7 f4 f5 f6 f7 g8 g9 f8 f9
  refine ⟨l0, l1, l2, l3, i, j, m, t, u, 0, by omega, r, g1, g2, g3, g4, g5, g6, g7, g8, g9, Int.le_refl 0, g3, hij, ?_⟩
  rw [Int.sub_zero]
  exact ⟨H, H2⟩
theorem g_ra1 {a0 a1 a2 a3 nn : Int → Int} {q z y : Int} {x i j m t u k l0 l1 l2 l3 : Int} (p0 : p_GA a0 a1 a2 a3 nn x) (hx : x = l0 + 64 * l1 + 4096 * l2 + 262144 * l3 + 16777216 * i + 1073741824 * j + 68719476736 * m + 4398046511104 * t + 17592186044416 * u + 70368744177664 * k) (p1 : p_NL nn y) (hy : y = 60 * t + i + k + 256 * (z + 9223372036854775808)) (r : m_rg l0 l1 l2 l3) (g1 : 0 ≤ i) (g2 : 0 ≤ j) (g3 : 0 ≤ m) (g4 : 0 ≤ t) (g5 : t ≤ 3) (g6 : 0 ≤ u) (g7 : u ≤ 3) (g8 : i + m ≤ m_sel l0 l1 l2 l3 t) (g9 : j + m ≤ m_sel l0 l1 l2 l3 u) (hij : j ≤ i) (h0 : 0 ≤ k) (h1 : k < m) (hq : q = 60 * u + (j + k)) : p_GA a0 a1 a2 a3 (m_up nn q z) (x + 70368744177664) := by
  obtain ⟨k0, k1, k2, k3, i1, j1, m1, t1, u1, kk, e, r1, f1, f2, f3, f4, f5, f6, f7, f8, f9, ka, kb, kc, H, H2⟩ := p0
  rw [hx] at e
  obtain ⟨⟨rfl, rfl, rfl, rfl⟩, rfl, rfl, rfl, rfl, rfl, e9⟩ := m_dcP (k := k) (kk := kk) (by omega) r r1 g1 g2 g3 f1 f2 f3 g4 g5 g6 g7 f4 f5 f6 f7 g8 g9 f8 f9
  subst e9
  obtain ⟨q1, z1, e2, qa, qb, za, hz⟩ := p1
  rw [hy] at e2
  have b1 := m_sle (v := t) r
  have b2 := m_sle (v := u) r
  obtain ⟨e3, e4⟩ : q1 = 60 * t + i + k ∧ z1 = z := by omega
  rw [e3, e4] at hz
  have hw : 0 ≤ z + 9223372036854775808 := by omega
  clear e2 hy za
  refine ⟨l0, l1, l2, l3, i, j, m, t, u, k + 1, by omega, r, g1, g2, g3, g4, g5, g6, g7, g8, g9, by omega, by omega, hij, fun v x v1 v2 q1 q2 f => ?_, fun x a b => ?_⟩
  · have b3 := m_sle (v := v) r
    by_cases hv : v = u
    · subst hv
      by_cases f2 : x = j + k
      · rw [m_up_at (by omega), H2 x (by omega) (by omega), show (60 * t + i + x - j : Int) = 60 * t + i + k by omega]
        exact hz
      · rw [m_up_ne (by omega)]
        exact H v x v1 v2 q1 q2 (fun z => f ⟨z.1, by omega, z.2.2⟩)
    · rw [m_up_ne (by omega)]
      exact H v x v1 v2 q1 q2 (fun z => hv z.1)
  · rw [m_up_ne (by by_cases hv : t = u; (first | omega); omega)]
    exact H2 x (by omega) (by omega)
theorem g_rd1 {a0 a1 a2 a3 nn : Int → Int} {q z y : Int} {x i j m t u k l0 l1 l2 l3 : Int} (p0 : p_GD a0 a1 a2 a3 nn x) (hx : x = l0 + 64 * l1 + 4096 * l2 + 262144 * l3 + 16777216 * i + 1073741824 * j + 68719476736 * m + 4398046511104 * t + 17592186044416 * u + 70368744177664 * k) (p1 : p_NL nn y) (hy : y = 60 * t + i + m - 1 - k + 256 * (z + 9223372036854775808)) (r : m_rg l0 l1 l2 l3) (g1 : 0 ≤ i) (g2 : 0 ≤ j) (g3 : 0 ≤ m) (g4 : 0 ≤ t) (g5 : t ≤ 3) (g6 : 0 ≤ u) (g7 : u ≤ 3) (g8 : i + m ≤ m_sel l0 l1 l2 l3 t) (g9 : j + m ≤ m_sel l0 l1 l2 l3 u) (hij : i < j) (h0 : 0 ≤ k) (h1 : k < m) (hq : q = 60 * u + (j + m - 1 - k)) : p_GD a0 a1 a2 a3 (m_up nn q z) (x + 70368744177664) := by
  obtain ⟨k0, k1, k2, k3, i1, j1, m1, t1, u1, kk, e, r1, f1, f2, f3, f4, f5, f6, f7, f8, f9, ka, kb, kc, H, H2⟩ := p0
  rw [hx] at e
  obtain ⟨⟨rfl, rfl, rfl, rfl⟩, rfl, rfl, rfl, rfl, rfl, e9⟩ := m_dcP (k := k) (kk := kk) (by omega) r r1 g1 g2 g3 f1 f2 f3 g4 g5 g6 g7 f4 f5 f6 f7 g8 g9 f8 f9
  subst e9
  obtain ⟨q1, z1, e2, qa, qb, za, hz⟩ := p1
  rw [hy] at e2
  have b1 := m_sle (v := t) r
  have b2 := m_sle (v := u) r
  obtain ⟨e3, e4⟩ : q1 = 60 * t + i + m - 1 - k ∧ z1 = z := by omega
  rw [e3, e4] at hz
  have hw : 0 ≤ z + 9223372036854775808 := by omega
  clear e2 hy za
  refine ⟨l0, l1, l2, l3, i, j, m, t, u, k + 1, by omega, r, g1, g2, g3, g4, g5, g6, g7, g8, g9, by omega, by omega, hij, fun v x v1 v2 q1 q2 f => ?_, fun x a b => ?_⟩
  · have b3 := m_sle (v := v) r
    by_cases hv : v = u
    · subst hv
      by_cases f2 : x = j + m - 1 - k
      · rw [m_up_at (by omega), H2 x (by omega) (by omega), show (60 * t + i + x - j : Int) = 60 * t + i + m - 1 - k by omega]
        exact hz
      · rw [m_up_ne (by omega)]
        exact H v x v1 v2 q1 q2 (fun z => f ⟨z.1, z.2.1, by omega⟩)
    · rw [m_up_ne (by omega)]
      exact H v x v1 v2 q1 q2 (fun z => hv z.1)
  · rw [m_up_ne (by by_cases hv : t = u; (first | omega); omega)]
    exact H2 x (by omega) (by omega)
theorem g_ra2 {a0 a1 a2 a3 nn : Int → Int} {y : Int} {x i j m t u k l0 l1 l2 l3 : Int} (p0 : p_GA a0 a1 a2 a3 nn x) (hx : x = l0 + 64 * l1 + 4096 * l2 + 262144 * l3 + 16777216 * i + 1073741824 * j + 68719476736 * m + 4398046511104 * t + 17592186044416 * u + 70368744177664 * k) (r : m_rg l0 l1 l2 l3) (g1 : 0 ≤ i) (g2 : 0 ≤ j) (g3 : 0 ≤ m) (g4 : 0 ≤ t) (g5 : t ≤ 3) (g6 : 0 ≤ u) (g7 : u ≤ 3) (g8 : i + m ≤ m_sel l0 l1 l2 l3 t) (g9 : j + m ≤ m_sel l0 l1 l2 l3 u) (hk : m ≤ k) (hy : y = l0 + 64 * l1 + 4096 * l2 + 262144 * l3) : p_TQ a0 a1 a2 a3 nn y := by
  obtain ⟨k0, k1, k2, k3, i1, j1, m1, t1, u1, kk, e, r1, f1, f2, f3, f4, f5, f6, f7, f8, f9, ka, kb, kc, H, H2⟩ := p0
  rw [hx] at e
  obtain ⟨⟨rfl, rfl, rfl, rfl⟩, rfl, rfl, rfl, rfl, rfl, e9⟩ := m_dcP (k := k) (kk := kk) (by omega) r r1 g1 g2 g3 f1 f2 f3 g4 g5 g6 g7 f4 f5 f6 f7 g8 g9 f8 f9
  subst e9
  exact ⟨l0, l1, l2, l3, hy, r, fun v q v1 v2 q1 q2 _ => H v q v1 v2 q1 q2 (fun z => by omega)⟩
theorem g_rd2 {a0 a1 a2 a3 nn : Int → Int} {y : Int} {x i j m t u k l0 l1 l2 l3 : Int} (p0 : p_GD a0 a1 a2 a3 nn x) (hx : x = l0 + 64 * l1 + 4096 * l2 + 262144 * l3 + 16777216 * i + 1073741824 * j + 68719476736 * m + 4398046511104 * t + 17592186044416 * u + 70368744177664 * k) (r : m_rg l0 l1 l2 l3) (g1 : 0 ≤ i) (g2 : 0 ≤ j) (g3 : 0 ≤ m) (g4 : 0 ≤ t) (g5 : t ≤ 3) (g6 : 0 ≤ u) (g7 : u ≤ 3) (g8 : i + m ≤ m_sel l0 l1 l2 l3 t) (g9 : j + m ≤ m_sel l0 l1 l2 l3 u) (hk : m ≤ k) (hy : y = l0 + 64 * l1 + 4096 * l2 + 262144 * l3) : p_TQ a0 a1 a2 a3 nn y := by
  obtain ⟨k0, k1, k2, k3, i1, j1, m1, t1, u1, kk, e, r1, f1, f2, f3, f4, f5, f6, f7, f8, f9, ka, kb, kc, H, H2⟩ := p0
  rw [hx] at e
  obtain ⟨⟨rfl, rfl, rfl, rfl⟩, rfl, rfl, rfl, rfl, rfl, e9⟩ := m_dcP (k := k) (kk := kk) (by omega) r r1 g1 g2 g3 f1 f2 f3 g4 g5 g6 g7 f4 f5 f6 f7 g8 g9 f8 f9
  subst e9
  exact ⟨l0, l1, l2, l3, hy, r, fun v q v1 v2 q1 q2 _ => H v q v1 v2 q1 q2 (fun z => by omega)⟩
theorem k_ld {fs : Int → Int} (hfs : ∀ i, 0 ≤ fs i ∧ fs i ≤ 95) {i z k : Int} (zfs : 0 ≤ i - 33 → i - 33 < 8 → fs (i - 33) = z) (c0 : 0 ≤ i + (-1) * k + (-33)) (c1 : 0 ≤ k + (-1) * i + 33) (c2 : 0 ≤ k) (c3 : 0 ≤ z) (c4 : 0 ≤ (-1) * z + 127) : p_LD fs (z + 128 * k) := by
  refine ⟨z, k, by omega, by omega, by omega, by omega, fun h => ?_⟩
  have := zfs (by omega) (by omega)
  rw [show i - 33 = k by omega] at this
  exact this
theorem k_fi {nf : Int} {fs : Int → Int} (hnf : 0 ≤ nf ∧ nf ≤ 8) (hfs : ∀ i, 0 ≤ fs i ∧ fs i ≤ 95) {k s f : Int} (p0 : p_LD fs (s + 128 * k)) (p1 : f = nf) (c0 : 0 ≤ f + (-1) * k + (-1)) (c1 : 0 ≤ k) (c2 : 0 ≤ (-1) * k + 15) (c3 : 0 ≤ s) (c4 : 0 ≤ (-1) * s + 127) : p_FI nf fs (k + 16 * s) := by
  obtain ⟨z1, k1, e1, z01, z11, k01, H1⟩ := p0
  obtain ⟨rfl, rfl⟩ : s = z1 ∧ k = k1 := by omega
  refine ⟨k, s, by omega, by omega, by omega, by omega, by omega, H1 (by omega)⟩
theorem k_yn0 {nf : Int} {fs : Int → Int} (hnf : 0 ≤ nf ∧ nf ≤ 8) (hfs : ∀ i, 0 ≤ fs i ∧ fs i ≤ 95) {n : Int} (c0 : 0 ≤ (-1) * n) (c1 : 0 ≤ n) : p_YN nf fs (n) := by
  obtain rfl : n = 0 := by omega
  exact ⟨0, 0, by omega, by omega, by omega, by omega, (m_cnt_le fs 0 nf.toNat).1⟩
theorem k_yna {nf : Int} {fs : Int → Int} (hnf : 0 ≤ nf ∧ nf ≤ 8) (hfs : ∀ i, 0 ≤ fs i ∧ fs i ≤ 95) {n s : Int} (p0 : p_YN nf fs (n + 16 * s)) (c0 : 0 ≤ n) (c1 : 0 ≤ (-1) * n + 15) (c2 : 0 ≤ s) : p_YN nf fs (n + 16 * s + 16) := by
  obtain ⟨n1, s1, e1, n01, n11, s01, H1⟩ := p0
  obtain ⟨rfl, rfl⟩ : n = n1 ∧ s = s1 := by omega
  exact ⟨n, s + 1, by omega, by omega, by omega, by omega, Int.le_trans H1 (m_cnt_up fs s nf.toNat)⟩
theorem k_ynb {nf : Int} {fs : Int → Int} (hnf : 0 ≤ nf ∧ nf ≤ 8) (hfs : ∀ i, 0 ≤ fs i ∧ fs i ≤ 95) {n s f : Int} (p0 : p_YN nf fs (n + 16 * s)) (p1 : p_FI nf fs (f + 16 * s)) (c0 : 0 ≤ n) (c1 : 0 ≤ (-1) * n + 15) (c2 : 0 ≤ s) (c3 : 0 ≤ f) (c4 : 0 ≤ (-1) * f + 15) : p_YN nf fs (n + 16 * s + 17) := by
  obtain ⟨n1, s1, e1, n01, n11, s01, H1⟩ := p0
  obtain ⟨rfl, rfl⟩ : n = n1 ∧ s = s1 := by omega
  obtain ⟨k2, s2, e2, k02, k12, s02, kn2, H2⟩ := p1
  obtain ⟨rfl, rfl⟩ : f = k2 ∧ s = s2 := by omega
  obtain ⟨g1, g2⟩ := m_cnt_at fs k02 H2 nf.toNat (by omega)
  exact ⟨n + 1, s + 1, by omega, by omega, by omega, by omega, by omega⟩
theorem k_ync {nf : Int} {fs : Int → Int} (hnf : 0 ≤ nf ∧ nf ≤ 8) (hfs : ∀ i, 0 ≤ fs i ∧ fs i ≤ 95) {n s f : Int} (p0 : p_YN nf fs (n + 16 * s)) (p1 : p_FI nf fs (f + 16 * s)) (c0 : 0 ≤ n) (c1 : 0 ≤ (-1) * n + 15) (c2 : 0 ≤ s) (c3 : 0 ≤ f) (c4 : 0 ≤ (-1) * f + 15) : 0 ≤ (-1) * n + 7 := by
  obtain ⟨n1, s1, e1, n01, n11, s01, H1⟩ := p0
  obtain ⟨rfl, rfl⟩ : n = n1 ∧ s = s1 := by omega
  obtain ⟨k2, s2, e2, k02, k12, s02, kn2, H2⟩ := p1
  obtain ⟨rfl, rfl⟩ : f = k2 ∧ s = s2 := by omega
  obtain ⟨g1, g2⟩ := m_cnt_at fs k02 H2 nf.toNat (by omega)
  omega
theorem k_ynd {nf : Int} {fs : Int → Int} (hnf : 0 ≤ nf ∧ nf ≤ 8) (hfs : ∀ i, 0 ≤ fs i ∧ fs i ≤ 95) {n s : Int} (p0 : p_YN nf fs (n + 16 * s)) (c0 : 0 ≤ n) (c1 : 0 ≤ (-1) * n + 15) (c2 : 0 ≤ s) : 0 ≤ (-1) * n + 8 := by
  obtain ⟨n1, s1, e1, n01, n11, s01, H1⟩ := p0
  obtain ⟨rfl, rfl⟩ : n = n1 ∧ s = s1 := by omega
  have := (m_cnt_le fs s nf.toNat).2
  omega
theorem k_at {an : Int → Int} {i z : Int} (i1 : 0 ≤ i) (i2 : i < 60) (c0 : 0 ≤ z + 1) (c1 : 0 ≤ (-1) * z + 99) (c2 : 0 ≤ i) : p_AT (m_up an i z) (z + 128 * i + 1) := by
  exact ⟨z, i, by omega, by omega, by omega, by omega, by omega, m_up_at rfl⟩
theorem k_ata {an : Int → Int} {i w F : Int} (zan : 0 ≤ i - 0 → i - 0 < 60 → an (i - 0) = w) (p0 : p_AT an (F)) (c0 : 0 ≤ F + (-128) * i) (c1 : 0 ≤ 128 * i + (-1) * F + 100) (c2 : 0 ≤ i) : 0 ≤ w + 128 * i + (-1) * F + 1 := by
  obtain ⟨z1, i1, e1, z01, z11, i01, i11, H1⟩ := p0
  obtain rfl : i = i1 := by omega
  have := zan (by omega) (by omega)
  rw [show i - 0 = i by omega] at this
  omega
theorem k_atb {an : Int → Int} {i w F : Int} (zan : 0 ≤ i - 0 → i - 0 < 60 → an (i - 0) = w) (p0 : p_AT an (F)) (c0 : 0 ≤ F + (-128) * i) (c1 : 0 ≤ 128 * i + (-1) * F + 100) (c2 : 0 ≤ i) : 0 ≤ F + (-128) * i + (-1) * w + (-1) := by
  obtain ⟨z1, i1, e1, z01, z11, i01, i11, H1⟩ := p0
  obtain rfl : i = i1 := by omega
  have := zan (by omega) (by omega)
  rw [show i - 0 = i by omega] at this
  omega
theorem k_af {M : Int} (hM : 2 ≤ M ∧ M ≤ 13) {x y z bb count : Int} (i1 : 0 ≤ x) (i2 : 1 ≤ y) (i3 : z = x % y) (p0 : y = M) (c0 : 0 ≤ x + (-1) * count + (-1) * bb) (c1 : 0 ≤ count + bb + (-1) * x) (c2 : 0 ≤ bb) (c3 : 0 ≤ (-1) * bb + 15) (c4 : 0 ≤ count) (c5 : 0 ≤ (-1) * count + 15) (c6 : 0 ≤ y + (-1)) (c7 : 0 ≤ (-1) * y + 13) : p_AF M (z + 16 * bb + 256 * count + 1) := by
  subst p0
  obtain rfl : x = count + bb := by omega
  refine ⟨z + 1, bb, count, by omega, ?_, ?_, by omega, by omega, by omega, by omega, ?_⟩
  · have := Int.emod_nonneg (count + bb) (b := y) (by omega)
    omega
  · have := Int.emod_lt_of_pos (count + bb) (b := y) (by omega)
    omega
  · rw [i3]; rfl
theorem k_nt {nt : Int → Int} (hnt : ∀ i, 0 ≤ nt i ∧ nt i ≤ 2) {i z s : Int} (znt : 0 ≤ i - 49 → i - 49 < 96 → nt (i - 49) = z) (c0 : 0 ≤ i + (-1) * s + (-49)) (c1 : 0 ≤ s + (-1) * i + 49) (c2 : 0 ≤ s) (c3 : 0 ≤ (-1) * s + 95) (c4 : 0 ≤ z) (c5 : 0 ≤ (-1) * z + 3) : p_NT nt (z + 4 * s) := by
  refine ⟨z, s, by omega, by omega, by omega, by omega, by omega, ?_⟩
  have := znt (by omega) (by omega)
  rw [show i - 49 = s by omega] at this
  exact this
theorem k_ntq1 {nt : Int → Int} (hnt : ∀ i, 0 ≤ nt i ∧ nt i ≤ 2) {i w F s : Int} (znt : 0 ≤ i - 49 → i - 49 < 96 → nt (i - 49) = w) (p0 : p_NT nt (F)) (c0 : 0 ≤ i + (-1) * s + (-49)) (c1 : 0 ≤ s + (-1) * i + 49) (c2 : 0 ≤ s) (c3 : 0 ≤ (-1) * s + 95) (c4 : 0 ≤ F + (-4) * s) (c5 : 0 ≤ 4 * s + (-1) * F + 3) : 0 ≤ w + 4 * s + (-1) * F := by
  obtain ⟨z1, s1, e1, z01, z11, s01, s11, H1⟩ := p0
  obtain rfl : s = s1 := by omega
  have := znt (by omega) (by omega)
  rw [show i - 49 = s by omega] at this
  omega
theorem k_ntq2 {nt : Int → Int} (hnt : ∀ i, 0 ≤ nt i ∧ nt i ≤ 2) {i w F s : Int} (znt : 0 ≤ i - 49 → i - 49 < 96 → nt (i - 49) = w) (p0 : p_NT nt (F)) (c0 : 0 ≤ i + (-1) * s + (-49)) (c1 : 0 ≤ s + (-1) * i + 49) (c2 : 0 ≤ s) (c3 : 0 ≤ (-1) * s + 95) (c4 : 0 ≤ F + (-4) * s) (c5 : 0 ≤ 4 * s + (-1) * F + 3) : 0 ≤ F + (-4) * s + (-1) * w := by
  obtain ⟨z1, s1, e1, z01, z11, s01, s11, H1⟩ := p0
  obtain rfl : s = s1 := by omega
  have := znt (by omega) (by omega)
  rw [show i - 49 = s by omega] at this
  omega
theorem k_su1 {M : Int} {nt : Int → Int} (hM : 2 ≤ M ∧ M ≤ 13) (hnt : ∀ i, 0 ≤ nt i ∧ nt i ≤ 2) {r F count s : Int} (p0 : p_NT nt (F)) (c0 : 0 ≤ r + (-1)) (c1 : 0 ≤ (-1) * r + 1) (c2 : 0 ≤ F + (-4) * s) (c3 : 0 ≤ 4 * s + (-1) * F) (c4 : 0 ≤ s) (c5 : 0 ≤ (-1) * s + 95) (c6 : 0 ≤ count) (c7 : 0 ≤ (-1) * count + 15) : p_SU M nt (r + 2 * count + 32 * s) := by
  obtain ⟨z1, s1, e1, z01, z11, s01, s11, H1⟩ := p0
  obtain rfl : s = s1 := by omega
  obtain rfl : r = 1 := by omega
  refine ⟨1, count, s, by omega, by omega, by omega, by omega, by omega, by omega, by omega, ?_⟩
  unfold m_su
  omega
theorem k_su2 {M : Int} {nt : Int → Int} (hM : 2 ≤ M ∧ M ≤ 13) (hnt : ∀ i, 0 ≤ nt i ∧ nt i ≤ 2) {r F m count s : Int} (p0 : p_NT nt (F)) (p1 : m = M) (c0 : 0 ≤ r + (-1)) (c1 : 0 ≤ (-1) * r + 1) (c2 : 0 ≤ F + (-4) * s + (-2)) (c3 : 0 ≤ 4 * s + (-1) * F + 2) (c4 : 0 ≤ m + (-1) * count) (c5 : 0 ≤ count + (-1) * m) (c6 : 0 ≤ s) (c7 : 0 ≤ (-1) * s + 95) (c8 : 0 ≤ count) (c9 : 0 ≤ (-1) * count + 15) : p_SU M nt (r + 2 * count + 32 * s) := by
  obtain ⟨z1, s1, e1, z01, z11, s01, s11, H1⟩ := p0
  obtain rfl : s = s1 := by omega
  obtain rfl : r = 1 := by omega
  refine ⟨1, count, s, by omega, by omega, by omega, by omega, by omega, by omega, by omega, ?_⟩
  unfold m_su
  omega
theorem k_su3 {M : Int} {nt : Int → Int} (hM : 2 ≤ M ∧ M ≤ 13) (hnt : ∀ i, 0 ≤ nt i ∧ nt i ≤ 2) {r F m count s : Int} (p0 : p_NT nt (F)) (p1 : m = M) (c0 : 0 ≤ r + (-1)) (c1 : 0 ≤ (-1) * r + 1) (c2 : 0 ≤ F + (-4) * s + (-1)) (c3 : 0 ≤ 4 * s + (-1) * F + 1) (c4 : 0 ≤ m + (-1) * count + (-1)) (c5 : 0 ≤ s) (c6 : 0 ≤ (-1) * s + 95) (c7 : 0 ≤ count) (c8 : 0 ≤ (-1) * count + 15) : p_SU M nt (r + 2 * count + 32 * s) := by
  obtain ⟨z1, s1, e1, z01, z11, s01, s11, H1⟩ := p0
  obtain rfl : s = s1 := by omega
  obtain rfl : r = 1 := by omega
  refine ⟨1, count, s, by omega, by omega, by omega, by omega, by omega, by omega, by omega, ?_⟩
  unfold m_su
  omega
theorem k_su4 {M : Int} {nt : Int → Int} (hM : 2 ≤ M ∧ M ≤ 13) (hnt : ∀ i, 0 ≤ nt i ∧ nt i ≤ 2) {r F m count s : Int} (p0 : p_NT nt (F)) (p1 : m = M) (c0 : 0 ≤ r + (-1)) (c1 : 0 ≤ (-1) * r + 1) (c2 : 0 ≤ F + (-4) * s + (-1)) (c3 : 0 ≤ 4 * s + (-1) * F + 1) (c4 : 0 ≤ count + (-1) * m + (-1)) (c5 : 0 ≤ s) (c6 : 0 ≤ (-1) * s + 95) (c7 : 0 ≤ count) (c8 : 0 ≤ (-1) * count + 15) : p_SU M nt (r + 2 * count + 32 * s) := by
  obtain ⟨z1, s1, e1, z01, z11, s01, s11, H1⟩ := p0
  obtain rfl : s = s1 := by omega
  obtain rfl : r = 1 := by omega
  refine ⟨1, count, s, by omega, by omega, by omega, by omega, by omega, by omega, by omega, ?_⟩
  unfold m_su
  omega
theorem k_su5 {M : Int} {nt : Int → Int} (hM : 2 ≤ M ∧ M ≤ 13) (hnt : ∀ i, 0 ≤ nt i ∧ nt i ≤ 2) {r F m count s : Int} (p0 : p_NT nt (F)) (p1 : m = M) (c0 : 0 ≤ r) (c1 : 0 ≤ (-1) * r) (c2 : 0 ≤ F + (-4) * s + (-2)) (c3 : 0 ≤ 4 * s + (-1) * F + 2) (c4 : 0 ≤ m + (-1) * count + (-1)) (c5 : 0 ≤ s) (c6 : 0 ≤ (-1) * s + 95) (c7 : 0 ≤ count) (c8 : 0 ≤ (-1) * count + 15) : p_SU M nt (r + 2 * count + 32 * s) := by
  obtain ⟨z1, s1, e1, z01, z11, s01, s11, H1⟩ := p0
  obtain rfl : s = s1 := by omega
  obtain rfl : r = 0 := by omega
  refine ⟨0, count, s, by omega, by omega, by omega, by omega, by omega, by omega, by omega, ?_⟩
  unfold m_su
  omega
theorem k_su6 {M : Int} {nt : Int → Int} (hM : 2 ≤ M ∧ M ≤ 13) (hnt : ∀ i, 0 ≤ nt i ∧ nt i ≤ 2) {r F m count s : Int} (p0 : p_NT nt (F)) (p1 : m = M) (c0 : 0 ≤ r) (c1 : 0 ≤ (-1) * r) (c2 : 0 ≤ F + (-4) * s + (-2)) (c3 : 0 ≤ 4 * s + (-1) * F + 2) (c4 : 0 ≤ count + (-1) * m + (-1)) (c5 : 0 ≤ s) (c6 : 0 ≤ (-1) * s + 95) (c7 : 0 ≤ count) (c8 : 0 ≤ (-1) * count + 15) : p_SU M nt (r + 2 * count + 32 * s) := by
  obtain ⟨z1, s1, e1, z01, z11, s01, s11, H1⟩ := p0
  obtain rfl : s = s1 := by omega
  obtain rfl : r = 0 := by omega
  refine ⟨0, count, s, by omega, by omega, by omega, by omega, by omega, by omega, by omega, ?_⟩
  unfold m_su
  omega
theorem k_su7 {M : Int} {nt : Int → Int} (hM : 2 ≤ M ∧ M ≤ 13) (hnt : ∀ i, 0 ≤ nt i ∧ nt i ≤ 2) {r F m count s : Int} (p0 : p_NT nt (F)) (p1 : m = M) (c0 : 0 ≤ r) (c1 : 0 ≤ (-1) * r) (c2 : 0 ≤ F + (-4) * s + (-1)) (c3 : 0 ≤ 4 * s + (-1) * F + 1) (c4 : 0 ≤ m + (-1) * count) (c5 : 0 ≤ count + (-1) * m) (c6 : 0 ≤ s) (c7 : 0 ≤ (-1) * s + 95) (c8 : 0 ≤ count) (c9 : 0 ≤ (-1) * count + 15) : p_SU M nt (r + 2 * count + 32 * s) := by
  obtain ⟨z1, s1, e1, z01, z11, s01, s11, H1⟩ := p0
  obtain rfl : s = s1 := by omega
  obtain rfl : r = 0 := by omega
  refine ⟨0, count, s, by omega, by omega, by omega, by omega, by omega, by omega, by omega, ?_⟩
  unfold m_su
  omega
theorem k_sl {sl : Int → Int} (hsl : ∀ i, 0 ≤ sl i ∧ sl i ≤ 9) {i z : Int} (zsl : 0 ≤ i - 0 → i - 0 < 96 → sl (i - 0) = z) (c0 : 0 ≤ i) (c1 : 0 ≤ (-1) * i + 95) (c2 : 0 ≤ z) (c3 : 0 ≤ (-1) * z + 9) : p_SL sl (z + 16 * i) := by
  refine ⟨z, i, by omega, by omega, by omega, by omega, by omega, ?_⟩
  have := zsl (by omega) (by omega)
  rw [show i - 0 = i by omega] at this
  exact this
theorem k_st1 {M : Int} {sl : Int → Int} (hM : 2 ≤ M ∧ M ≤ 13) (hsl : ∀ i, 0 ≤ sl i ∧ sl i ≤ 9) {t F tt fr s : Int} (p0 : p_AF M (F)) (c0 : 0 ≤ t) (c1 : 0 ≤ (-1) * t) (c2 : 0 ≤ F + (-256) * fr + (-1) * tt) (c3 : 0 ≤ tt + 256 * fr + (-1) * F) (c4 : 0 ≤ s) (c5 : 0 ≤ (-1) * s + 95) (c6 : 0 ≤ tt) (c7 : 0 ≤ (-1) * tt + 15) (c8 : 0 ≤ fr) (c9 : 0 ≤ (-1) * fr + 15) : p_ST M sl (t + 16 * tt + 256 * fr + 4096 * s) := by
  obtain ⟨r1, b1, v1, e1, r01, r11, b01, b11, v01, v11, H1⟩ := p0
  obtain ⟨rfl, rfl, rfl⟩ : tt = r1 ∧ b1 = 0 ∧ fr = v1 := by omega
  refine ⟨t, tt, fr, s, by omega, by omega, by omega, by omega, by omega, by omega, by omega, by omega, by omega, ?_⟩
  unfold m_st
  rw [if_pos H1.symm]
  omega
theorem k_st2 {M : Int} {sl : Int → Int} (hM : 2 ≤ M ∧ M ≤ 13) (hsl : ∀ i, 0 ≤ sl i ∧ sl i ≤ 9) {t F tt fr s : Int} (p0 : p_AF M (F)) (p1 : p_SL sl (t + 16 * s)) (c0 : 0 ≤ t) (c1 : 0 ≤ (-1) * t + 9) (c2 : 0 ≤ F + (-256) * fr) (c3 : 0 ≤ 256 * fr + (-1) * F + 15) (c4 : 0 ≤ F + (-256) * fr + (-1) * tt + (-1)) (c5 : 0 ≤ s) (c6 : 0 ≤ (-1) * s + 95) (c7 : 0 ≤ tt) (c8 : 0 ≤ (-1) * tt + 15) (c9 : 0 ≤ fr) (c10 : 0 ≤ (-1) * fr + 15) : p_ST M sl (t + 16 * tt + 256 * fr + 4096 * s) := by
  obtain ⟨r1, b1, v1, e1, r01, r11, b01, b11, v01, v11, H1⟩ := p0
  obtain ⟨rfl, rfl⟩ : b1 = 0 ∧ fr = v1 := by omega
  obtain ⟨z2, s2, e2, z02, z12, s02, s12, H2⟩ := p1
  obtain ⟨rfl, rfl⟩ : t = z2 ∧ s = s2 := by omega
  refine ⟨t, tt, fr, s, by omega, by omega, by omega, by omega, by omega, by omega, by omega, by omega, by omega, ?_⟩
  unfold m_st
  rw [if_neg (by omega)]
  exact H2.symm
theorem k_st3 {M : Int} {sl : Int → Int} (hM : 2 ≤ M ∧ M ≤ 13) (hsl : ∀ i, 0 ≤ sl i ∧ sl i ≤ 9) {t F tt fr s : Int} (p0 : p_AF M (F)) (p1 : p_SL sl (t + 16 * s)) (c0 : 0 ≤ t) (c1 : 0 ≤ (-1) * t + 9) (c2 : 0 ≤ F + (-256) * fr) (c3 : 0 ≤ 256 * fr + (-1) * F + 15) (c4 : 0 ≤ tt + (-1) * F + 256 * fr + (-1)) (c5 : 0 ≤ s) (c6 : 0 ≤ (-1) * s + 95) (c7 : 0 ≤ tt) (c8 : 0 ≤ (-1) * tt + 15) (c9 : 0 ≤ fr) (c10 : 0 ≤ (-1) * fr + 15) : p_ST M sl (t + 16 * tt + 256 * fr + 4096 * s) := by
  obtain ⟨r1, b1, v1, e1, r01, r11, b01, b11, v01, v11, H1⟩ := p0
  obtain ⟨rfl, rfl⟩ : b1 = 0 ∧ fr = v1 := by omega
  obtain ⟨z2, s2, e2, z02, z12, s02, s12, H2⟩ := p1
  obtain ⟨rfl, rfl⟩ : t = z2 ∧ s = s2 := by omega
  refine ⟨t, tt, fr, s, by omega, by omega, by omega, by omega, by omega, by omega, by omega, by omega, by omega, ?_⟩
  unfold m_st
  rw [if_neg (by omega)]
  exact H2.symm
theorem k_fo {fo : Int → Int} (hfo : ∀ i, 0 ≤ fo i ∧ fo i ≤ 1000000) {i z : Int} (zfo : 0 ≤ i - 0 → i - 0 < 1344 → fo (i - 0) = z) (c0 : 0 ≤ i) (c1 : 0 ≤ (-1) * i + 1343) (c2 : 0 ≤ z) (c3 : 0 ≤ (-1) * z + 1000000) : p_FO fo (z + 2097152 * i) := by
  refine ⟨z, i, by omega, by omega, by omega, by omega, by omega, ?_⟩
  have := zfo (by omega) (by omega)
  rw [show i - 0 = i by omega] at this
  exact this
theorem k_ft {ft : Int → Int} (hft : ∀ i, 0 ≤ ft i ∧ ft i ≤ 1000000) {i z : Int} (zft : 0 ≤ i - 0 → i - 0 < 1344 → ft (i - 0) = z) (c0 : 0 ≤ i) (c1 : 0 ≤ (-1) * i + 1343) (c2 : 0 ≤ z) (c3 : 0 ≤ (-1) * z + 1000000) : p_FT ft (z + 2097152 * i) := by
  refine ⟨z, i, by omega, by omega, by omega, by omega, by omega, ?_⟩
  have := zft (by omega) (by omega)
  rw [show i - 0 = i by omega] at this
  exact this
theorem k_on1 {fo : Int → Int} {ft : Int → Int} {ls : Int} (hfo : ∀ i, 0 ≤ fo i ∧ fo i ≤ 1000000) (hft : ∀ i, 0 ≤ ft i ∧ ft i ≤ 1000000) {r F G l v s : Int} (p0 : p_FO fo (F)) (p1 : p_FT ft (G)) (p2 : l = ls) (c0 : 0 ≤ r + (-1)) (c1 : 0 ≤ (-1) * r + 1) (c2 : 0 ≤ F + (-58720256) * s + (-4194304) * v + G + (-1) * l) (c3 : 0 ≤ l + (-1) * F + 58720256 * s + 4194304 * v + (-1) * G) (c4 : 0 ≤ s) (c5 : 0 ≤ (-1) * s + 95) (c6 : 0 ≤ v) (c7 : 0 ≤ (-1) * v + 13) (c8 : 0 ≤ F + (-29360128) * s + (-2097152) * v) (c9 : 0 ≤ (-1) * F + 29360128 * s + 2097152 * v + 1000000) (c10 : 0 ≤ G + (-29360128) * s + (-2097152) * v) (c11 : 0 ≤ (-1) * G + 29360128 * s + 2097152 * v + 1000000) : p_ON fo ft ls (r + 2 * v + 32 * s) := by
  obtain ⟨z1, i1, e1, z01, z11, i01, i11, H1⟩ := p0
  obtain rfl : i1 = 14 * s + v := by omega
  obtain ⟨z2, i2, e2, z02, z12, i02, i12, H2⟩ := p1
  obtain rfl : i2 = 14 * s + v := by omega
  obtain rfl : r = 1 := by omega
  refine ⟨1, v, s, by omega, by omega, by omega, by omega, by omega, by omega, by omega, ?_⟩
  unfold m_on
  omega
theorem k_on2 {fo : Int → Int} {ft : Int → Int} {ls : Int} (hfo : ∀ i, 0 ≤ fo i ∧ fo i ≤ 1000000) (hft : ∀ i, 0 ≤ ft i ∧ ft i ≤ 1000000) {r F G l v s : Int} (p0 : p_FO fo (F)) (p1 : p_FT ft (G)) (p2 : l = ls) (c0 : 0 ≤ r) (c1 : 0 ≤ (-1) * r) (c2 : 0 ≤ F + (-58720256) * s + (-4194304) * v + G + (-1) * l + (-1)) (c3 : 0 ≤ s) (c4 : 0 ≤ (-1) * s + 95) (c5 : 0 ≤ v) (c6 : 0 ≤ (-1) * v + 13) (c7 : 0 ≤ F + (-29360128) * s + (-2097152) * v) (c8 : 0 ≤ (-1) * F + 29360128 * s + 2097152 * v + 1000000) (c9 : 0 ≤ G + (-29360128) * s + (-2097152) * v) (c10 : 0 ≤ (-1) * G + 29360128 * s + 2097152 * v + 1000000) : p_ON fo ft ls (r + 2 * v + 32 * s) := by
  obtain ⟨z1, i1, e1, z01, z11, i01, i11, H1⟩ := p0
  obtain rfl : i1 = 14 * s + v := by omega
  obtain ⟨z2, i2, e2, z02, z12, i02, i12, H2⟩ := p1
  obtain rfl : i2 = 14 * s + v := by omega
  obtain rfl : r = 0 := by omega
  refine ⟨0, v, s, by omega, by omega, by omega, by omega, by omega, by omega, by omega, ?_⟩
  unfold m_on
  omega
theorem k_on3 {fo : Int → Int} {ft : Int → Int} {ls : Int} (hfo : ∀ i, 0 ≤ fo i ∧ fo i ≤ 1000000) (hft : ∀ i, 0 ≤ ft i ∧ ft i ≤ 1000000) {r F G l v s : Int} (p0 : p_FO fo (F)) (p1 : p_FT ft (G)) (p2 : l = ls) (c0 : 0 ≤ r) (c1 : 0 ≤ (-1) * r) (c2 : 0 ≤ l + (-1) * F + 58720256 * s + 4194304 * v + (-1) * G + (-1)) (c3 : 0 ≤ s) (c4 : 0 ≤ (-1) * s + 95) (c5 : 0 ≤ v) (c6 : 0 ≤ (-1) * v + 13) (c7 : 0 ≤ F + (-29360128) * s + (-2097152) * v) (c8 : 0 ≤ (-1) * F + 29360128 * s + 2097152 * v + 1000000) (c9 : 0 ≤ G + (-29360128) * s + (-2097152) * v) (c10 : 0 ≤ (-1) * G + 29360128 * s + 2097152 * v + 1000000) : p_ON fo ft ls (r + 2 * v + 32 * s) := by
  obtain ⟨z1, i1, e1, z01, z11, i01, i11, H1⟩ := p0
  obtain rfl : i1 = 14 * s + v := by omega
  obtain ⟨z2, i2, e2, z02, z12, i02, i12, H2⟩ := p1
  obtain rfl : i2 = 14 * s + v := by omega
  obtain rfl : r = 0 := by omega
  refine ⟨0, v, s, by omega, by omega, by omega, by omega, by omega, by omega, by omega, ?_⟩
  unfold m_on
  omega
theorem k_ps0 {cs : Int → Int} (hcs : ∀ i, 0 ≤ cs i ∧ cs i ≤ 16) {n : Int} (c0 : 0 ≤ n) (c1 : 0 ≤ (-1) * n) : p_PS cs (n) := by
  obtain rfl : n = 0 := by omega
  exact ⟨0, 0, by omega, by omega, by omega, by omega, by omega, rfl⟩
theorem k_psl {cs : Int → Int} (hcs : ∀ i, 0 ≤ cs i ∧ cs i ≤ 16) {i z n k : Int} (zcs : 0 ≤ i - 7 → i - 7 < 6 → cs (i - 7) = z) (p0 : p_PS cs (n + 4096 * k)) (c0 : 0 ≤ i + (-1) * k + (-7)) (c1 : 0 ≤ k + (-1) * i + 7) (c2 : 0 ≤ k) (c3 : 0 ≤ (-1) * k + 5) (c4 : 0 ≤ n) (c5 : 0 ≤ (-1) * n + 96) (c6 : 0 ≤ z) (c7 : 0 ≤ (-1) * z + 16) : p_PS cs (n + z + 4096 * k + 4096) := by
  obtain ⟨n1, k1, e1, n01, n11, k01, k11, H1⟩ := p0
  obtain ⟨rfl, rfl⟩ : n = n1 ∧ k = k1 := by omega
  have hz := zcs (by omega) (by omega)
  rw [show i - 7 = k by omega] at hz
  have e2 : (k + 1).toNat = k.toNat + 1 := by omega
  have e3 : ((k.toNat : Nat) : Int) = k := by omega
  have h3 : m_sum cs (k + 1).toNat = n + z := by
    rw [e2]
    show m_sum cs k.toNat + cs ((k.toNat : Nat) : Int) = _
    rw [e3, hz, ← H1]
  have h4 := (m_sum_le hcs (by decide) (k + 1).toNat).2
  exact ⟨n + z, k + 1, by omega, by omega, by omega, by omega, by omega, h3.symm⟩
theorem k_ns {nc : Int} {cs : Int → Int} (hnc : 0 ≤ nc ∧ nc ≤ 6) (hcs : ∀ i, 0 ≤ cs i ∧ cs i ≤ 16) {n k c : Int} (p0 : p_PS cs (n + 4096 * k)) (p1 : c = nc) (c0 : 0 ≤ k + (-1) * c) (c1 : 0 ≤ c + (-1) * k) (c2 : 0 ≤ n) (c3 : 0 ≤ (-1) * n + 4095) (c4 : 0 ≤ k) (c5 : 0 ≤ (-1) * k + 6) : p_NS nc cs (n) := by
  obtain ⟨n1, k1, e1, n01, n11, k01, k11, H1⟩ := p0
  obtain ⟨rfl, rfl⟩ : n = n1 ∧ k = k1 := by omega
  show n = m_sum cs nc.toNat
  rw [show nc = k by omega]
  exact H1
theorem k_r0a {M : Int} {FS : Int} {nt : Int → Int} {nc : Int} {cs : Int → Int} {fo : Int → Int} {wt : Int → Int} (hM : 2 ≤ M ∧ M ≤ 13) (hFS : 1 ≤ FS ∧ FS ≤ 13) (hnt : ∀ i, 0 ≤ nt i ∧ nt i ≤ 2) (hnc : 0 ≤ nc ∧ nc ≤ 6) (hcs : ∀ i, 0 ≤ cs i ∧ cs i ≤ 16) (hfo : ∀ i, 0 ≤ fo i ∧ fo i ≤ 1000000) (hwt : ∀ i, 0 ≤ wt i ∧ wt i ≤ 999999) {i z v fr m many : Int} (i1 : 0 ≤ i) (i2 : i < 1344) (p0 : p_R0 M FS nt nc cs fo wt (v + 16 * fr)) (p1 : m = M) (p2 : p_NS nc cs (many)) (c0 : 0 ≤ i + (-1) * v) (c1 : 0 ≤ v + (-1) * i) (c2 : 0 ≤ v + (-1)) (c3 : 0 ≤ (-1) * v + 13) (c4 : 0 ≤ fr) (c5 : 0 ≤ (-1) * fr + 1) (c6 : 0 ≤ m + (-1) * v) (c7 : 0 ≤ z + (-1000000)) (c8 : 0 ≤ (-1) * z + 1000000) (c9 : 0 ≤ (-1) * many) : p_RA M FS nt nc cs (m_up fo i z) wt (v + 16 * fr) := by
  have hN : many = m_N nc cs := p2
  obtain ⟨v1, r1, e1, v01, v11, r01, r11, H1⟩ := p0
  obtain ⟨rfl, rfl⟩ : v = v1 ∧ fr = r1 := by omega
  have hold : m_R0 M FS nt (m_N nc cs) fr (m_up fo i z) wt v := fun v' h1 h2 => by
    obtain ⟨g1, g2⟩ := H1 v' h1 h2
    have e : m_up fo i z v' = fo v' := m_up_ne (by omega)
    refine ⟨?_, ?_⟩
    · unfold m_r0; rw [e]; exact g1
    · unfold m_rw; rw [e]; exact g2
  have hat : m_up fo i z v = z := m_up_at (by omega)
  refine ⟨v, fr, 0, by omega, by omega, by omega, by omega, by omega, by omega, by omega, hold, ⟨fun hb => ?_, fun hb => ?_⟩, by rw [hat]; show z = (if (0 : Int) = 1 then 0 else 1000000); rw [if_neg (by decide)]; omega⟩
  · exfalso
    obtain ⟨b1, b2, b3⟩ := hb
    omega
  · rw [hat]; omega
theorem k_r0b {M : Int} {FS : Int} {nt : Int → Int} {nc : Int} {cs : Int → Int} {fo : Int → Int} {wt : Int → Int} (hM : 2 ≤ M ∧ M ≤ 13) (hFS : 1 ≤ FS ∧ FS ≤ 13) (hnt : ∀ i, 0 ≤ nt i ∧ nt i ≤ 2) (hnc : 0 ≤ nc ∧ nc ≤ 6) (hcs : ∀ i, 0 ≤ cs i ∧ cs i ≤ 16) (hfo : ∀ i, 0 ≤ fo i ∧ fo i ≤ 1000000) (hwt : ∀ i, 0 ≤ wt i ∧ wt i ≤ 999999) {i z v fr m : Int} (i1 : 0 ≤ i) (i2 : i < 1344) (p0 : p_R0 M FS nt nc cs fo wt (v + 16 * fr)) (p1 : m = M) (p2 : p_SU M nt (2 * v)) (c0 : 0 ≤ i + (-1) * v) (c1 : 0 ≤ v + (-1) * i) (c2 : 0 ≤ v + (-1)) (c3 : 0 ≤ (-1) * v + 13) (c4 : 0 ≤ fr) (c5 : 0 ≤ (-1) * fr + 1) (c6 : 0 ≤ m + (-1) * v) (c7 : 0 ≤ z + (-1000000)) (c8 : 0 ≤ (-1) * z + 1000000) : p_RA M FS nt nc cs (m_up fo i z) wt (v + 16 * fr) := by
  obtain ⟨r3, v3, s3, e3, r03, r13, v03, v13, s03, s13, H3⟩ := p2
  obtain ⟨rfl, rfl, rfl⟩ : r3 = 0 ∧ v = v3 ∧ s3 = 0 := by omega
  obtain ⟨v1, r1, e1, v01, v11, r01, r11, H1⟩ := p0
  obtain ⟨rfl, rfl⟩ : v = v1 ∧ fr = r1 := by omega
  have hold : m_R0 M FS nt (m_N nc cs) fr (m_up fo i z) wt v := fun v' h1 h2 => by
    obtain ⟨g1, g2⟩ := H1 v' h1 h2
    have e : m_up fo i z v' = fo v' := m_up_ne (by omega)
    refine ⟨?_, ?_⟩
    · unfold m_r0; rw [e]; exact g1
    · unfold m_rw; rw [e]; exact g2
  have hat : m_up fo i z v = z := m_up_at (by omega)
  refine ⟨v, fr, 0, by omega, by omega, by omega, by omega, by omega, by omega, by omega, hold, ⟨fun hb => ?_, fun hb => ?_⟩, by rw [hat]; show z = (if (0 : Int) = 1 then 0 else 1000000); rw [if_neg (by decide)]; omega⟩
  · exfalso
    obtain ⟨b1, b2, b3⟩ := hb
    have := H3.mpr b2
    omega
  · rw [hat]; omega
theorem k_r0c {M : Int} {FS : Int} {nt : Int → Int} {nc : Int} {cs : Int → Int} {fo : Int → Int} {wt : Int → Int} (hM : 2 ≤ M ∧ M ≤ 13) (hFS : 1 ≤ FS ∧ FS ≤ 13) (hnt : ∀ i, 0 ≤ nt i ∧ nt i ≤ 2) (hnc : 0 ≤ nc ∧ nc ≤ 6) (hcs : ∀ i, 0 ≤ cs i ∧ cs i ≤ 16) (hfo : ∀ i, 0 ≤ fo i ∧ fo i ≤ 1000000) (hwt : ∀ i, 0 ≤ wt i ∧ wt i ≤ 999999) {i z v fr m f : Int} (i1 : 0 ≤ i) (i2 : i < 1344) (p0 : p_R0 M FS nt nc cs fo wt (v + 16 * fr)) (p1 : m = M) (p2 : f = FS) (c0 : 0 ≤ i + (-1) * v) (c1 : 0 ≤ v + (-1) * i) (c2 : 0 ≤ v + (-1)) (c3 : 0 ≤ (-1) * v + 13) (c4 : 0 ≤ fr) (c5 : 0 ≤ (-1) * fr + 1) (c6 : 0 ≤ m + (-1) * v) (c7 : 0 ≤ z + (-1000000)) (c8 : 0 ≤ (-1) * z + 1000000) (c9 : 0 ≤ (-1) * fr) (c10 : 0 ≤ v + (-1) * f + (-1)) : p_RA M FS nt nc cs (m_up fo i z) wt (v + 16 * fr) := by
  obtain ⟨v1, r1, e1, v01, v11, r01, r11, H1⟩ := p0
  obtain ⟨rfl, rfl⟩ : v = v1 ∧ fr = r1 := by omega
  have hold : m_R0 M FS nt (m_N nc cs) fr (m_up fo i z) wt v := fun v' h1 h2 => by
    obtain ⟨g1, g2⟩ := H1 v' h1 h2
    have e : m_up fo i z v' = fo v' := m_up_ne (by omega)
    refine ⟨?_, ?_⟩
    · unfold m_r0; rw [e]; exact g1
    · unfold m_rw; rw [e]; exact g2
  have hat : m_up fo i z v = z := m_up_at (by omega)
  refine ⟨v, fr, 0, by omega, by omega, by omega, by omega, by omega, by omega, by omega, hold, ⟨fun hb => ?_, fun hb => ?_⟩, by rw [hat]; show z = (if (0 : Int) = 1 then 0 else 1000000); rw [if_neg (by decide)]; omega⟩
  · exfalso
    obtain ⟨b1, b2, b3⟩ := hb
    omega
  · rw [hat]; omega
theorem k_r0d {M : Int} {FS : Int} {nt : Int → Int} {nc : Int} {cs : Int → Int} {fo : Int → Int} {wt : Int → Int} (hM : 2 ≤ M ∧ M ≤ 13) (hFS : 1 ≤ FS ∧ FS ≤ 13) (hnt : ∀ i, 0 ≤ nt i ∧ nt i ≤ 2) (hnc : 0 ≤ nc ∧ nc ≤ 6) (hcs : ∀ i, 0 ≤ cs i ∧ cs i ≤ 16) (hfo : ∀ i, 0 ≤ fo i ∧ fo i ≤ 1000000) (hwt : ∀ i, 0 ≤ wt i ∧ wt i ≤ 999999) {i z v fr m f : Int} (i1 : 0 ≤ i) (i2 : i < 1344) (p0 : p_R0 M FS nt nc cs fo wt (v + 16 * fr)) (p1 : m = M) (p2 : f = FS) (c0 : 0 ≤ i + (-1) * v) (c1 : 0 ≤ v + (-1) * i) (c2 : 0 ≤ v + (-1)) (c3 : 0 ≤ (-1) * v + 13) (c4 : 0 ≤ fr) (c5 : 0 ≤ (-1) * fr + 1) (c6 : 0 ≤ m + (-1) * v) (c7 : 0 ≤ z + (-1000000)) (c8 : 0 ≤ (-1) * z + 1000000) (c9 : 0 ≤ (-1) * fr) (c10 : 0 ≤ f + (-1) * v + (-1)) : p_RA M FS nt nc cs (m_up fo i z) wt (v + 16 * fr) := by
  obtain ⟨v1, r1, e1, v01, v11, r01, r11, H1⟩ := p0
  obtain ⟨rfl, rfl⟩ : v = v1 ∧ fr = r1 := by omega
  have hold : m_R0 M FS nt (m_N nc cs) fr (m_up fo i z) wt v := fun v' h1 h2 => by
    obtain ⟨g1, g2⟩ := H1 v' h1 h2
    have e : m_up fo i z v' = fo v' := m_up_ne (by omega)
    refine ⟨?_, ?_⟩
    · unfold m_r0; rw [e]; exact g1
    · unfold m_rw; rw [e]; exact g2
  have hat : m_up fo i z v = z := m_up_at (by omega)
  refine ⟨v, fr, 0, by omega, by omega, by omega, by omega, by omega, by omega, by omega, hold, ⟨fun hb => ?_, fun hb => ?_⟩, by rw [hat]; show z = (if (0 : Int) = 1 then 0 else 1000000); rw [if_neg (by decide)]; omega⟩
  · exfalso
    obtain ⟨b1, b2, b3⟩ := hb
    omega
  · rw [hat]; omega
theorem k_r0e {M : Int} {FS : Int} {nt : Int → Int} {nc : Int} {cs : Int → Int} {fo : Int → Int} {wt : Int → Int} (hM : 2 ≤ M ∧ M ≤ 13) (hFS : 1 ≤ FS ∧ FS ≤ 13) (hnt : ∀ i, 0 ≤ nt i ∧ nt i ≤ 2) (hnc : 0 ≤ nc ∧ nc ≤ 6) (hcs : ∀ i, 0 ≤ cs i ∧ cs i ≤ 16) (hfo : ∀ i, 0 ≤ fo i ∧ fo i ≤ 1000000) (hwt : ∀ i, 0 ≤ wt i ∧ wt i ≤ 999999) {i z v fr m many : Int} (i1 : 0 ≤ i) (i2 : i < 1344) (p0 : p_R0 M FS nt nc cs fo wt (v + 16 * fr)) (p1 : m = M) (p2 : p_NS nc cs (many)) (p3 : p_SU M nt (2 * v + 1)) (c0 : 0 ≤ i + (-1) * v) (c1 : 0 ≤ v + (-1) * i) (c2 : 0 ≤ v + (-1)) (c3 : 0 ≤ (-1) * v + 13) (c4 : 0 ≤ fr) (c5 : 0 ≤ (-1) * fr + 1) (c6 : 0 ≤ m + (-1) * v) (c7 : 0 ≤ z) (c8 : 0 ≤ (-1) * z) (c9 : 0 ≤ many + (-1)) (c10 : 0 ≤ fr + (-1)) : p_RA M FS nt nc cs (m_up fo i z) wt (v + 16 * fr + 32) := by
  have hN : many = m_N nc cs := p2
  obtain ⟨r3, v3, s3, e3, r03, r13, v03, v13, s03, s13, H3⟩ := p3
  obtain ⟨rfl, rfl, rfl⟩ : r3 = 1 ∧ v = v3 ∧ s3 = 0 := by omega
  obtain ⟨v1, r1, e1, v01, v11, r01, r11, H1⟩ := p0
  obtain ⟨rfl, rfl⟩ : v = v1 ∧ fr = r1 := by omega
  have hold : m_R0 M FS nt (m_N nc cs) fr (m_up fo i z) wt v := fun v' h1 h2 => by
    obtain ⟨g1, g2⟩ := H1 v' h1 h2
    have e : m_up fo i z v' = fo v' := m_up_ne (by omega)
    refine ⟨?_, ?_⟩
    · unfold m_r0; rw [e]; exact g1
    · unfold m_rw; rw [e]; exact g2
  have hat : m_up fo i z v = z := m_up_at (by omega)
  refine ⟨v, fr, 1, by omega, by omega, by omega, by omega, by omega, by omega, by omega, hold, ⟨fun hb => ?_, fun hb => ?_⟩, by rw [hat]; show z = (if (1 : Int) = 1 then 0 else 1000000); rw [if_pos rfl]; omega⟩
  · rw [hat]; omega
  · exfalso
    exact hb ⟨by omega, H3.mp rfl, by omega⟩
theorem k_r0f {M : Int} {FS : Int} {nt : Int → Int} {nc : Int} {cs : Int → Int} {fo : Int → Int} {wt : Int → Int} (hM : 2 ≤ M ∧ M ≤ 13) (hFS : 1 ≤ FS ∧ FS ≤ 13) (hnt : ∀ i, 0 ≤ nt i ∧ nt i ≤ 2) (hnc : 0 ≤ nc ∧ nc ≤ 6) (hcs : ∀ i, 0 ≤ cs i ∧ cs i ≤ 16) (hfo : ∀ i, 0 ≤ fo i ∧ fo i ≤ 1000000) (hwt : ∀ i, 0 ≤ wt i ∧ wt i ≤ 999999) {i z v fr m many f : Int} (i1 : 0 ≤ i) (i2 : i < 1344) (p0 : p_R0 M FS nt nc cs fo wt (v + 16 * fr)) (p1 : m = M) (p2 : p_NS nc cs (many)) (p3 : p_SU M nt (2 * v + 1)) (p4 : f = FS) (c0 : 0 ≤ i + (-1) * v) (c1 : 0 ≤ v + (-1) * i) (c2 : 0 ≤ v + (-1)) (c3 : 0 ≤ (-1) * v + 13) (c4 : 0 ≤ fr) (c5 : 0 ≤ (-1) * fr + 1) (c6 : 0 ≤ m + (-1) * v) (c7 : 0 ≤ z) (c8 : 0 ≤ (-1) * z) (c9 : 0 ≤ many + (-1)) (c10 : 0 ≤ f + (-1) * v) (c11 : 0 ≤ v + (-1) * f) : p_RA M FS nt nc cs (m_up fo i z) wt (v + 16 * fr + 32) := by
  have hN : many = m_N nc cs := p2
  obtain ⟨r3, v3, s3, e3, r03, r13, v03, v13, s03, s13, H3⟩ := p3
  obtain ⟨rfl, rfl, rfl⟩ : r3 = 1 ∧ v = v3 ∧ s3 = 0 := by omega
  obtain ⟨v1, r1, e1, v01, v11, r01, r11, H1⟩ := p0
  obtain ⟨rfl, rfl⟩ : v = v1 ∧ fr = r1 := by omega
  have hold : m_R0 M FS nt (m_N nc cs) fr (m_up fo i z) wt v := fun v' h1 h2 => by
    obtain ⟨g1, g2⟩ := H1 v' h1 h2
    have e : m_up fo i z v' = fo v' := m_up_ne (by omega)
    refine ⟨?_, ?_⟩
    · unfold m_r0; rw [e]; exact g1
    · unfold m_rw; rw [e]; exact g2
  have hat : m_up fo i z v = z := m_up_at (by omega)
  refine ⟨v, fr, 1, by omega, by omega, by omega, by omega, by omega, by omega, by omega, hold, ⟨fun hb => ?_, fun hb => ?_⟩, by rw [hat]; show z = (if (1 : Int) = 1 then 0 else 1000000); rw [if_pos rfl]; omega⟩
  · rw [hat]; omega
  · exfalso
    exact hb ⟨by omega, H3.mp rfl, by omega⟩
theorem k_r0w {M : Int} {FS : Int} {nt : Int → Int} {nc : Int} {cs : Int → Int} {fo : Int → Int} {wt : Int → Int} (hM : 2 ≤ M ∧ M ≤ 13) (hFS : 1 ≤ FS ∧ FS ≤ 13) (hnt : ∀ i, 0 ≤ nt i ∧ nt i ≤ 2) (hnc : 0 ≤ nc ∧ nc ≤ 6) (hcs : ∀ i, 0 ≤ cs i ∧ cs i ≤ 16) (hfo : ∀ i, 0 ≤ fo i ∧ fo i ≤ 1000000) (hwt : ∀ i, 0 ≤ wt i ∧ wt i ≤ 999999) {i z v fr b : Int} (i1 : 0 ≤ i) (i2 : i < 1344) (p0 : p_RA M FS nt nc cs fo wt (v + 16 * fr + 32 * b)) (c0 : 0 ≤ i + (-1) * v) (c1 : 0 ≤ v + (-1) * i) (c2 : 0 ≤ v + (-1)) (c3 : 0 ≤ (-1) * v + 13) (c4 : 0 ≤ fr) (c5 : 0 ≤ (-1) * fr + 1) (c6 : 0 ≤ b) (c7 : 0 ≤ (-1) * b + 1) (c8 : 0 ≤ z + (-1) * b) (c9 : 0 ≤ b + (-1) * z) : p_R0 M FS nt nc cs fo (m_up wt i z) (v + 16 * fr + 1) := by
  obtain ⟨v1, r1, b1, e1, v01, v11, r01, r11, b01, b11, H1, H21, H31⟩ := p0
  obtain ⟨rfl, rfl, rfl⟩ : v = v1 ∧ fr = r1 ∧ b = b1 := by omega
  refine ⟨v + 1, fr, by omega, by omega, by omega, by omega, by omega, fun v' h1 h2 => ?_⟩
  by_cases e : v' = v
  · subst e
    refine ⟨H21, ?_⟩
    unfold m_rw
    rw [m_up_at (by omega), H31]
    split
    · rw [if_pos (by decide)]; omega
    · rw [if_neg (by decide)]; omega
  · obtain ⟨g1, g2⟩ := H1 v' h1 (by omega)
    refine ⟨g1, ?_⟩
    unfold m_rw
    rw [m_up_ne (by omega)]
    exact g2
theorem k_r00 {M : Int} {FS : Int} {nt : Int → Int} {nc : Int} {cs : Int → Int} {fo : Int → Int} {wt : Int → Int} (hM : 2 ≤ M ∧ M ≤ 13) (hFS : 1 ≤ FS ∧ FS ≤ 13) (hnt : ∀ i, 0 ≤ nt i ∧ nt i ≤ 2) (hnc : 0 ≤ nc ∧ nc ≤ 6) (hcs : ∀ i, 0 ≤ cs i ∧ cs i ≤ 16) (hfo : ∀ i, 0 ≤ fo i ∧ fo i ≤ 1000000) (hwt : ∀ i, 0 ≤ wt i ∧ wt i ≤ 999999) {fr : Int} (c0 : 0 ≤ fr) (c1 : 0 ≤ (-1) * fr + 1) : p_R0 M FS nt nc cs fo wt (16 * fr + 1) := by
  exact ⟨1, fr, by omega, by omega, by omega, by omega, by omega, fun v' h1 h2 => by omega⟩
theorem k_fa0 {M : Int} {FS : Int} {nt : Int → Int} {sl : Int → Int} {nc : Int} {cs : Int → Int} {fo : Int → Int} {wt : Int → Int} (hM : 2 ≤ M ∧ M ≤ 13) (hFS : 1 ≤ FS ∧ FS ≤ 13) (hnt : ∀ i, 0 ≤ nt i ∧ nt i ≤ 2) (hsl : ∀ i, 0 ≤ sl i ∧ sl i ≤ 9) (hnc : 0 ≤ nc ∧ nc ≤ 6) (hcs : ∀ i, 0 ≤ cs i ∧ cs i ≤ 16) (hfo : ∀ i, 0 ≤ fo i ∧ fo i ≤ 1000000) (hwt : ∀ i, 0 ≤ wt i ∧ wt i ≤ 999999) {v fr m : Int} (p0 : p_R0 M FS nt nc cs fo wt (v + 16 * fr)) (p1 : m = M) (c0 : 0 ≤ v + (-1) * m + (-1)) (c1 : 0 ≤ (-1) * v + 14) (c2 : 0 ≤ fr) (c3 : 0 ≤ (-1) * fr + 1) : p_FA M FS nt sl nc cs fo wt (2048 * fr + 17) := by
  obtain ⟨v1, r1, e1, v01, v11, r01, r11, H1⟩ := p0
  obtain ⟨rfl, rfl⟩ : v = v1 ∧ fr = r1 := by omega
  obtain rfl : v = M + 1 := by omega
  exact ⟨1, 1, fr, by omega, by omega, by omega, by omega, by omega, by omega, by omega, H1, fun s' v' h1 h2 h3 h4 h5 => by omega⟩
theorem k_fan {M : Int} {FS : Int} {nt : Int → Int} {sl : Int → Int} {nc : Int} {cs : Int → Int} {fo : Int → Int} {wt : Int → Int} (hM : 2 ≤ M ∧ M ≤ 13) (hFS : 1 ≤ FS ∧ FS ≤ 13) (hnt : ∀ i, 0 ≤ nt i ∧ nt i ≤ 2) (hsl : ∀ i, 0 ≤ sl i ∧ sl i ≤ 9) (hnc : 0 ≤ nc ∧ nc ≤ 6) (hcs : ∀ i, 0 ≤ cs i ∧ cs i ≤ 16) (hfo : ∀ i, 0 ≤ fo i ∧ fo i ≤ 1000000) (hwt : ∀ i, 0 ≤ wt i ∧ wt i ≤ 999999) {v s fr m : Int} (p0 : p_FA M FS nt sl nc cs fo wt (v + 16 * s + 2048 * fr)) (p1 : m = M) (c0 : 0 ≤ v + (-1) * m + (-1)) (c1 : 0 ≤ (-1) * v + 14) (c2 : 0 ≤ s + (-1)) (c3 : 0 ≤ (-1) * s + 95) (c4 : 0 ≤ fr) (c5 : 0 ≤ (-1) * fr + 1) : p_FA M FS nt sl nc cs fo wt (16 * s + 2048 * fr + 17) := by
  obtain ⟨v1, s1, r1, e1, v01, v11, s01, s11, r01, r11, H1⟩ := p0
  obtain ⟨rfl, rfl, rfl⟩ : v = v1 ∧ s = s1 ∧ fr = r1 := by omega
  refine ⟨1, s + 1, fr, by omega, by omega, by omega, by omega, by omega, by omega, by omega, H1.1, fun s' v' h1 h2 h3 h4 h5 => H1.2 s' v' h1 h2 h3 h4 (by omega)⟩
theorem k_fd {M : Int} {FS : Int} {nt : Int → Int} {sl : Int → Int} {nc : Int} {cs : Int → Int} {fo : Int → Int} {wt : Int → Int} (hM : 2 ≤ M ∧ M ≤ 13) (hFS : 1 ≤ FS ∧ FS ≤ 13) (hnt : ∀ i, 0 ≤ nt i ∧ nt i ≤ 2) (hsl : ∀ i, 0 ≤ sl i ∧ sl i ≤ 9) (hnc : 0 ≤ nc ∧ nc ≤ 6) (hcs : ∀ i, 0 ≤ cs i ∧ cs i ≤ 16) (hfo : ∀ i, 0 ≤ fo i ∧ fo i ≤ 1000000) (hwt : ∀ i, 0 ≤ wt i ∧ wt i ≤ 999999) {s fr many : Int} (p0 : p_FA M FS nt sl nc cs fo wt (16 * s + 2048 * fr + 1)) (p1 : p_NS nc cs (many)) (c0 : 0 ≤ s + (-1)) (c1 : 0 ≤ (-1) * s + 96) (c2 : 0 ≤ fr) (c3 : 0 ≤ (-1) * fr + 1) (c4 : 0 ≤ s + (-1) * many) : p_FD M FS nt sl nc cs fo wt (fr) := by
  have hN : many = m_N nc cs := p1
  obtain ⟨v1, s1, r1, e1, v01, v11, s01, s11, r01, r11, H1⟩ := p0
  obtain ⟨rfl, rfl, rfl⟩ : v1 = 1 ∧ s = s1 ∧ fr = r1 := by omega
  have hN2 := m_N_le hnc hcs
  exact ⟨by omega, by omega, H1.1, fun s' v' h1 h2 h3 h4 => H1.2 s' v' h1 (by omega) h3 h4 (by omega)⟩
theorem k_bm0 {M : Int} {nt : Int → Int} {sl : Int → Int} {fo : Int → Int} (hM : 2 ≤ M ∧ M ≤ 13) (hnt : ∀ i, 0 ≤ nt i ∧ nt i ≤ 2) (hsl : ∀ i, 0 ≤ sl i ∧ sl i ≤ 9) (hfo : ∀ i, 0 ≤ fo i ∧ fo i ≤ 1000000) {best v s m : Int} (p0 : m = M) (c0 : 0 ≤ best + (-1000000)) (c1 : 0 ≤ (-1) * best + 1000000) (c2 : 0 ≤ v + (-1)) (c3 : 0 ≤ m + (-1) * v) (c4 : 0 ≤ (-1) * m + 13) (c5 : 0 ≤ s + (-1)) (c6 : 0 ≤ (-1) * s + 95) : p_BM M nt sl fo (best + 33554432 * v + 536870912 * s + 2097152) := by
  obtain rfl : best = 1000000 := by omega
  exact ⟨1000000, 1, v, s, by omega, by omega, by omega, by omega, by omega, by omega, by omega, by omega, by omega, m_mn_1 _, fun h => by omega⟩
theorem k_bm1 {M : Int} {nt : Int → Int} {sl : Int → Int} {fo : Int → Int} (hM : 2 ≤ M ∧ M ≤ 13) (hnt : ∀ i, 0 ≤ nt i ∧ nt i ≤ 2) (hsl : ∀ i, 0 ≤ sl i ∧ sl i ≤ 9) (hfo : ∀ i, 0 ≤ fo i ∧ fo i ≤ 1000000) {r best u v s F T m : Int} (p0 : p_BM M nt sl fo (best + 2097152 * u + 33554432 * v + 536870912 * s)) (p1 : p_FO fo (F)) (p2 : p_ST M sl (T)) (p3 : p_SU M nt (2 * v + 32 * s + 1)) (p4 : m = M) (c0 : 0 ≤ best) (c1 : 0 ≤ (-1) * best + 2097151) (c2 : 0 ≤ u + (-1)) (c3 : 0 ≤ (-1) * u + 14) (c4 : 0 ≤ v) (c5 : 0 ≤ (-1) * v + 15) (c6 : 0 ≤ s + (-1)) (c7 : 0 ≤ (-1) * s + 95) (c8 : 0 ≤ F + (-29360128) * s + (-2097152) * u + 29360128) (c9 : 0 ≤ (-1) * F + 29360128 * s + 2097152 * u + (-28360128)) (c10 : 0 ≤ T + (-16) * v + (-256) * u + (-4096) * s) (c11 : 0 ≤ (-1) * T + 16 * v + 256 * u + 4096 * s + 15) (c12 : 0 ≤ (-1) * u + 13) (c13 : 0 ≤ v + (-1)) (c14 : 0 ≤ (-1) * v + 13) (c15 : 0 ≤ m + (-1) * u) (c16 : 0 ≤ r + (-1) * best) (c17 : 0 ≤ best + (-1) * r) (c18 : 0 ≤ F + (-29364224) * s + (-2097408) * u + T + (-16) * v + (-1) * best + 29360128) : p_BM M nt sl fo (r + 2097152 * u + 33554432 * v + 536870912 * s + 2097152) := by
  obtain ⟨b1, u1, v1, s1, e1, b01, b11, u01, u11, v01, v11, s01, s11, H1, H21⟩ := p0
  obtain ⟨rfl, rfl, rfl, rfl⟩ : best = b1 ∧ u = u1 ∧ v = v1 ∧ s = s1 := by omega
  obtain ⟨z2, i2, e2, z02, z12, i02, i12, H2⟩ := p1
  obtain rfl : i2 = 14 * (s - 1) + u := by omega
  obtain ⟨t3, v3, u3, s3, e3, t03, t13, v03, v13, u03, u13, s03, s13, H3⟩ := p2
  obtain ⟨rfl, rfl, rfl⟩ : v = v3 ∧ u = u3 ∧ s = s3 := by omega
  obtain ⟨r4, v4, s4, e4, r04, r14, v04, v14, s04, s14, H4⟩ := p3
  obtain ⟨rfl, rfl, rfl⟩ : r4 = 1 ∧ v = v4 ∧ s = s4 := by omega
  have hc : m_fc M sl fo s v u = F - 2097152 * (14 * (s - 1) + u) + (T - 16 * v - 256 * u - 4096 * s) := by
    unfold m_fc
    omega
  obtain rfl : r = best := by omega
  exact ⟨r, u + 1, v, s, by omega, by omega, by omega, by omega, by omega, by omega, by omega, by omega, by omega, m_mn_keep H1 (by omega), fun _ => H4.mp rfl⟩
theorem k_bm2 {M : Int} {nt : Int → Int} {sl : Int → Int} {fo : Int → Int} (hM : 2 ≤ M ∧ M ≤ 13) (hnt : ∀ i, 0 ≤ nt i ∧ nt i ≤ 2) (hsl : ∀ i, 0 ≤ sl i ∧ sl i ≤ 9) (hfo : ∀ i, 0 ≤ fo i ∧ fo i ≤ 1000000) {r best u v s F T m : Int} (p0 : p_BM M nt sl fo (best + 2097152 * u + 33554432 * v + 536870912 * s)) (p1 : p_FO fo (F)) (p2 : p_ST M sl (T)) (p3 : p_SU M nt (2 * v + 32 * s + 1)) (p4 : m = M) (c0 : 0 ≤ best) (c1 : 0 ≤ (-1) * best + 2097151) (c2 : 0 ≤ u + (-1)) (c3 : 0 ≤ (-1) * u + 14) (c4 : 0 ≤ v) (c5 : 0 ≤ (-1) * v + 15) (c6 : 0 ≤ s + (-1)) (c7 : 0 ≤ (-1) * s + 95) (c8 : 0 ≤ F + (-29360128) * s + (-2097152) * u + 29360128) (c9 : 0 ≤ (-1) * F + 29360128 * s + 2097152 * u + (-28360128)) (c10 : 0 ≤ T + (-16) * v + (-256) * u + (-4096) * s) (c11 : 0 ≤ (-1) * T + 16 * v + 256 * u + 4096 * s + 15) (c12 : 0 ≤ (-1) * u + 13) (c13 : 0 ≤ v + (-1)) (c14 : 0 ≤ (-1) * v + 13) (c15 : 0 ≤ m + (-1) * u) (c16 : 0 ≤ r + (-1) * F + 29364224 * s + 2097408 * u + (-1) * T + 16 * v + (-29360128)) (c17 : 0 ≤ F + (-29364224) * s + (-2097408) * u + T + (-16) * v + (-1) * r + 29360128) (c18 : 0 ≤ best + (-1) * r) (c19 : 0 ≤ r) : p_BM M nt sl fo (r + 2097152 * u + 33554432 * v + 536870912 * s + 2097152) := by
  obtain ⟨b1, u1, v1, s1, e1, b01, b11, u01, u11, v01, v11, s01, s11, H1, H21⟩ := p0
  obtain ⟨rfl, rfl, rfl, rfl⟩ : best = b1 ∧ u = u1 ∧ v = v1 ∧ s = s1 := by omega
  obtain ⟨z2, i2, e2, z02, z12, i02, i12, H2⟩ := p1
  obtain rfl : i2 = 14 * (s - 1) + u := by omega
  obtain ⟨t3, v3, u3, s3, e3, t03, t13, v03, v13, u03, u13, s03, s13, H3⟩ := p2
  obtain ⟨rfl, rfl, rfl⟩ : v = v3 ∧ u = u3 ∧ s = s3 := by omega
  obtain ⟨r4, v4, s4, e4, r04, r14, v04, v14, s04, s14, H4⟩ := p3
  obtain ⟨rfl, rfl, rfl⟩ : r4 = 1 ∧ v = v4 ∧ s = s4 := by omega
  have hc : m_fc M sl fo s v u = F - 2097152 * (14 * (s - 1) + u) + (T - 16 * v - 256 * u - 4096 * s) := by
    unfold m_fc
    omega
  have hr : m_fc M sl fo s v u = r := by omega
  refine ⟨r, u + 1, v, s, by omega, by omega, by omega, by omega, by omega, by omega, by omega, by omega, by omega, ?_, fun _ => H4.mp rfl⟩
  rw [← hr]
  exact m_mn_new (by omega) H1 (by omega)
theorem k_bmf {M : Int} {nt : Int → Int} {sl : Int → Int} {fo : Int → Int} (hM : 2 ≤ M ∧ M ≤ 13) (hnt : ∀ i, 0 ≤ nt i ∧ nt i ≤ 2) (hsl : ∀ i, 0 ≤ sl i ∧ sl i ≤ 9) (hfo : ∀ i, 0 ≤ fo i ∧ fo i ≤ 1000000) {best u v s : Int} (p0 : p_BM M nt sl fo (best + 2097152 * u + 33554432 * v + 536870912 * s)) (c0 : 0 ≤ best) (c1 : 0 ≤ (-1) * best + 2097151) (c2 : 0 ≤ u + (-1)) (c3 : 0 ≤ (-1) * u + 14) (c4 : 0 ≤ v) (c5 : 0 ≤ (-1) * v + 15) (c6 : 0 ≤ s + (-1)) (c7 : 0 ≤ (-1) * s + 95) : 0 ≤ (-1) * best + 1000000 := by
  obtain ⟨b1, u1, v1, s1, e1, b01, b11, u01, u11, v01, v11, s01, s11, H1, H21⟩ := p0
  obtain ⟨rfl, rfl, rfl, rfl⟩ : best = b1 ∧ u = u1 ∧ v = v1 ∧ s = s1 := by omega
  have := H1.1
  omega
theorem k_be1 {M : Int} {nt : Int → Int} {sl : Int → Int} {fo : Int → Int} (hM : 2 ≤ M ∧ M ≤ 13) (hnt : ∀ i, 0 ≤ nt i ∧ nt i ≤ 2) (hsl : ∀ i, 0 ≤ sl i ∧ sl i ≤ 9) (hfo : ∀ i, 0 ≤ fo i ∧ fo i ≤ 1000000) {best u v s m : Int} (p0 : p_BM M nt sl fo (best + 2097152 * u + 33554432 * v + 536870912 * s)) (p1 : m = M) (c0 : 0 ≤ best) (c1 : 0 ≤ (-1) * best + 2097151) (c2 : 0 ≤ u + (-1)) (c3 : 0 ≤ (-1) * u + 14) (c4 : 0 ≤ v) (c5 : 0 ≤ (-1) * v + 15) (c6 : 0 ≤ s + (-1)) (c7 : 0 ≤ (-1) * s + 95) (c8 : 0 ≤ u + (-1) * m + (-1)) : p_BE M nt sl fo (best + 2097152 * v + 33554432 * s) := by
  obtain ⟨b1, u1, v1, s1, e1, b01, b11, u01, u11, v01, v11, s01, s11, H1, H21⟩ := p0
  obtain ⟨rfl, rfl, rfl, rfl⟩ : best = b1 ∧ u = u1 ∧ v = v1 ∧ s = s1 := by omega
  obtain rfl : u = M + 1 := by omega
  have hs := H21 (by omega)
  have := H1.1
  exact ⟨best, v, s, by omega, by omega, by omega, by omega, by omega, by omega, by omega, fun _ => H1, fun h => absurd hs h⟩
theorem k_be2 {M : Int} {nt : Int → Int} {sl : Int → Int} {fo : Int → Int} (hM : 2 ≤ M ∧ M ≤ 13) (hnt : ∀ i, 0 ≤ nt i ∧ nt i ≤ 2) (hsl : ∀ i, 0 ≤ sl i ∧ sl i ≤ 9) (hfo : ∀ i, 0 ≤ fo i ∧ fo i ≤ 1000000) {best u v s : Int} (p0 : p_BM M nt sl fo (best + 2097152 * u + 33554432 * v + 536870912 * s)) (p1 : p_SU M nt (2 * v + 32 * s)) (c0 : 0 ≤ best) (c1 : 0 ≤ (-1) * best + 2097151) (c2 : 0 ≤ u + (-1)) (c3 : 0 ≤ (-1) * u + 14) (c4 : 0 ≤ v) (c5 : 0 ≤ (-1) * v + 15) (c6 : 0 ≤ s + (-1)) (c7 : 0 ≤ (-1) * s + 95) : p_BE M nt sl fo (best + 2097152 * v + 33554432 * s) := by
  obtain ⟨b1, u1, v1, s1, e1, b01, b11, u01, u11, v01, v11, s01, s11, H1, H21⟩ := p0
  obtain ⟨rfl, rfl, rfl, rfl⟩ : best = b1 ∧ u = u1 ∧ v = v1 ∧ s = s1 := by omega
  obtain ⟨r2, v2, s2, e2, r02, r12, v02, v12, s02, s12, H2⟩ := p1
  obtain ⟨rfl, rfl, rfl⟩ : r2 = 0 ∧ v = v2 ∧ s = s2 := by omega
  have hs : ¬ m_su M nt s v := fun h => by
    have := H2.mpr h
    omega
  obtain rfl : u = 1 := by
    by_cases e : 2 ≤ u
    · exact absurd (H21 e) hs
    · omega
  have hb : best = 1000000 := by
    rcases H1.2.2 with e | ⟨q, q1, q2, -⟩
    · exact e
    · omega
  exact ⟨best, v, s, by omega, by omega, by omega, by omega, by omega, by omega, by omega, fun h => absurd h hs, fun _ => hb⟩
theorem k_wt {wt : Int → Int} (hwt : ∀ i, 0 ≤ wt i ∧ wt i ≤ 999999) {i z : Int} (zwt : 0 ≤ i - 0 → i - 0 < 1344 → wt (i - 0) = z) (c0 : 0 ≤ i) (c1 : 0 ≤ (-1) * i + 1343) (c2 : 0 ≤ z) (c3 : 0 ≤ (-1) * z + 999999) : p_WT wt (z + 1048576 * i) := by
  refine ⟨z, i, by omega, by omega, by omega, by omega, by omega, ?_⟩
  have := zwt (by omega) (by omega)
  rw [show i - 0 = i by omega] at this
  exact this
theorem k_bw0 {M : Int} {nt : Int → Int} {sl : Int → Int} {fo : Int → Int} {wt : Int → Int} (hM : 2 ≤ M ∧ M ≤ 13) (hnt : ∀ i, 0 ≤ nt i ∧ nt i ≤ 2) (hsl : ∀ i, 0 ≤ sl i ∧ sl i ≤ 9) (hfo : ∀ i, 0 ≤ fo i ∧ fo i ≤ 1000000) (hwt : ∀ i, 0 ≤ wt i ∧ wt i ≤ 999999) {w v s best : Int} (p0 : p_BE M nt sl fo (best + 2097152 * v + 33554432 * s)) (c0 : 0 ≤ (-1) * w) (c1 : 0 ≤ w) (c2 : 0 ≤ v + (-1)) (c3 : 0 ≤ (-1) * v + 13) (c4 : 0 ≤ s + (-1)) (c5 : 0 ≤ (-1) * s + 95) (c6 : 0 ≤ best) (c7 : 0 ≤ (-1) * best + 1000000) : p_BW M nt sl fo wt (w + 268435456 * v + 4294967296 * s + 1099511627776 * best + 16777216) := by
  obtain ⟨b1, v1, s1, e1, b01, b11, v01, v11, s01, s11, H1⟩ := p0
  obtain ⟨rfl, rfl, rfl⟩ : best = b1 ∧ v = v1 ∧ s = s1 := by omega
  obtain rfl : w = 0 := by omega
  exact ⟨0, 1, v, s, best, by omega, by omega, by omega, by omega, by omega, by omega, by omega, by omega, by omega, by omega, by omega, H1, fun h => by omega, rfl⟩
theorem k_bw1 {M : Int} {nt : Int → Int} {sl : Int → Int} {fo : Int → Int} {wt : Int → Int} (hM : 2 ≤ M ∧ M ≤ 13) (hnt : ∀ i, 0 ≤ nt i ∧ nt i ≤ 2) (hsl : ∀ i, 0 ≤ sl i ∧ sl i ≤ 9) (hfo : ∀ i, 0 ≤ fo i ∧ fo i ≤ 1000000) (hwt : ∀ i, 0 ≤ wt i ∧ wt i ≤ 999999) {w a u v s best F T m : Int} (p0 : p_BW M nt sl fo wt (w + 16777216 * u + 268435456 * v + 4294967296 * s + 1099511627776 * best)) (p1 : p_FO fo (F)) (p2 : p_ST M sl (T)) (p3 : m = M) (p4 : p_WT wt (a + 14680064 * s + 1048576 * u + (-14680064))) (c0 : 0 ≤ w) (c1 : 0 ≤ (-1) * w + 16777215) (c2 : 0 ≤ u + (-1)) (c3 : 0 ≤ (-1) * u + 14) (c4 : 0 ≤ v + (-1)) (c5 : 0 ≤ (-1) * v + 13) (c6 : 0 ≤ s + (-1)) (c7 : 0 ≤ (-1) * s + 95) (c8 : 0 ≤ best) (c9 : 0 ≤ (-1) * best + 1000000) (c10 : 0 ≤ (-1) * u + 13) (c11 : 0 ≤ m + (-1) * u) (c12 : 0 ≤ a) (c13 : 0 ≤ (-1) * a + 999999) (c14 : 0 ≤ (-1) * w + (-1) * a + 16777215) (c15 : 0 ≤ (-1) * best + 999999) (c16 : 0 ≤ F + (-29360128) * s + (-2097152) * u + 29360128) (c17 : 0 ≤ (-1) * F + 29360128 * s + 2097152 * u + (-28360128)) (c18 : 0 ≤ T + (-16) * v + (-256) * u + (-4096) * s) (c19 : 0 ≤ (-1) * T + 16 * v + 256 * u + 4096 * s + 15) (c20 : 0 ≤ F + (-29364224) * s + (-2097408) * u + T + (-16) * v + (-1) * best + 29360128) (c21 : 0 ≤ best + (-1) * F + 29364224 * s + 2097408 * u + (-1) * T + 16 * v + (-29360128)) : p_BW M nt sl fo wt (w + a + 16777216 * u + 268435456 * v + 4294967296 * s + 1099511627776 * best + 16777216) := by
  obtain ⟨w1, u1, v1, s1, b1, e1, w01, w11, u01, u11, v01, v11, s01, s11, b01, b11, H1, H21, H31⟩ := p0
  obtain ⟨rfl, rfl, rfl, rfl, rfl⟩ := m_d5 e1 (by omega) (by omega) (by omega) (by omega) (by omega) (by omega) (by omega) (by omega) (by omega) (by omega) (by omega) (by omega) (by omega) (by omega) (by omega) (by omega)
  obtain ⟨z2, i2, e2, z02, z12, i02, i12, H2⟩ := p1
  obtain rfl : i2 = 14 * (s - 1) + u := by omega
  obtain ⟨t3, v3, u3, s3, e3, t03, t13, v03, v13, u03, u13, s03, s13, H3⟩ := p2
  obtain ⟨rfl, rfl, rfl⟩ : v = v3 ∧ u = u3 ∧ s = s3 := by omega
  obtain ⟨z4, i4, e4, z04, z14, i04, i14, H4⟩ := p4
  obtain ⟨rfl, rfl⟩ : a = z4 ∧ i4 = 14 * (s - 1) + u := by omega
  have hc : m_fc M sl fo s v u = F - 2097152 * (14 * (s - 1) + u) + (T - 16 * v - 256 * u - 4096 * s) := by
    unfold m_fc
    omega
  refine ⟨w + a, u + 1, v, s, best, by omega, by omega, by omega, by omega, by omega, by omega, by omega, by omega, by omega, by omega, by omega, H1, fun _ => by omega, ?_⟩
  rw [m_ws_step (by omega), ← H31, if_pos (by omega), H4]
theorem k_bw2 {M : Int} {nt : Int → Int} {sl : Int → Int} {fo : Int → Int} {wt : Int → Int} (hM : 2 ≤ M ∧ M ≤ 13) (hnt : ∀ i, 0 ≤ nt i ∧ nt i ≤ 2) (hsl : ∀ i, 0 ≤ sl i ∧ sl i ≤ 9) (hfo : ∀ i, 0 ≤ fo i ∧ fo i ≤ 1000000) (hwt : ∀ i, 0 ≤ wt i ∧ wt i ≤ 999999) {w a u v s best F T m : Int} (p0 : p_BW M nt sl fo wt (w + 16777216 * u + 268435456 * v + 4294967296 * s + 1099511627776 * best)) (p1 : p_FO fo (F)) (p2 : p_ST M sl (T)) (p3 : m = M) (c0 : 0 ≤ w) (c1 : 0 ≤ (-1) * w + 16777215) (c2 : 0 ≤ u + (-1)) (c3 : 0 ≤ (-1) * u + 14) (c4 : 0 ≤ v + (-1)) (c5 : 0 ≤ (-1) * v + 13) (c6 : 0 ≤ s + (-1)) (c7 : 0 ≤ (-1) * s + 95) (c8 : 0 ≤ best) (c9 : 0 ≤ (-1) * best + 1000000) (c10 : 0 ≤ (-1) * u + 13) (c11 : 0 ≤ m + (-1) * u) (c12 : 0 ≤ a) (c13 : 0 ≤ (-1) * a + 999999) (c14 : 0 ≤ (-1) * w + (-1) * a + 16777215) (c15 : 0 ≤ (-1) * best + 999999) (c16 : 0 ≤ F + (-29360128) * s + (-2097152) * u + 29360128) (c17 : 0 ≤ (-1) * F + 29360128 * s + 2097152 * u + (-28360128)) (c18 : 0 ≤ T + (-16) * v + (-256) * u + (-4096) * s) (c19 : 0 ≤ (-1) * T + 16 * v + 256 * u + 4096 * s + 15) (c20 : 0 ≤ (-1) * a) (c21 : 0 ≤ F + (-29364224) * s + (-2097408) * u + T + (-16) * v + (-1) * best + 29360127) : p_BW M nt sl fo wt (w + a + 16777216 * u + 268435456 * v + 4294967296 * s + 1099511627776 * best + 16777216) := by
  obtain ⟨w1, u1, v1, s1, b1, e1, w01, w11, u01, u11, v01, v11, s01, s11, b01, b11, H1, H21, H31⟩ := p0
  obtain ⟨rfl, rfl, rfl, rfl, rfl⟩ := m_d5 e1 (by omega) (by omega) (by omega) (by omega) (by omega) (by omega) (by omega) (by omega) (by omega) (by omega) (by omega) (by omega) (by omega) (by omega) (by omega) (by omega)
  obtain ⟨z2, i2, e2, z02, z12, i02, i12, H2⟩ := p1
  obtain rfl : i2 = 14 * (s - 1) + u := by omega
  obtain ⟨t3, v3, u3, s3, e3, t03, t13, v03, v13, u03, u13, s03, s13, H3⟩ := p2
  obtain ⟨rfl, rfl, rfl⟩ : v = v3 ∧ u = u3 ∧ s = s3 := by omega
  have hc : m_fc M sl fo s v u = F - 2097152 * (14 * (s - 1) + u) + (T - 16 * v - 256 * u - 4096 * s) := by
    unfold m_fc
    omega
  obtain rfl : a = 0 := by omega
  refine ⟨w + 0, u + 1, v, s, best, by omega, by omega, by omega, by omega, by omega, by omega, by omega, by omega, by omega, by omega, by omega, H1, fun _ => by omega, ?_⟩
  rw [m_ws_step (by omega), ← H31, if_neg (by omega)]
theorem k_bw3 {M : Int} {nt : Int → Int} {sl : Int → Int} {fo : Int → Int} {wt : Int → Int} (hM : 2 ≤ M ∧ M ≤ 13) (hnt : ∀ i, 0 ≤ nt i ∧ nt i ≤ 2) (hsl : ∀ i, 0 ≤ sl i ∧ sl i ≤ 9) (hfo : ∀ i, 0 ≤ fo i ∧ fo i ≤ 1000000) (hwt : ∀ i, 0 ≤ wt i ∧ wt i ≤ 999999) {w a u v s best F T m : Int} (p0 : p_BW M nt sl fo wt (w + 16777216 * u + 268435456 * v + 4294967296 * s + 1099511627776 * best)) (p1 : p_FO fo (F)) (p2 : p_ST M sl (T)) (p3 : m = M) (c0 : 0 ≤ w) (c1 : 0 ≤ (-1) * w + 16777215) (c2 : 0 ≤ u + (-1)) (c3 : 0 ≤ (-1) * u + 14) (c4 : 0 ≤ v + (-1)) (c5 : 0 ≤ (-1) * v + 13) (c6 : 0 ≤ s + (-1)) (c7 : 0 ≤ (-1) * s + 95) (c8 : 0 ≤ best) (c9 : 0 ≤ (-1) * best + 1000000) (c10 : 0 ≤ (-1) * u + 13) (c11 : 0 ≤ m + (-1) * u) (c12 : 0 ≤ a) (c13 : 0 ≤ (-1) * a + 999999) (c14 : 0 ≤ (-1) * w + (-1) * a + 16777215) (c15 : 0 ≤ (-1) * best + 999999) (c16 : 0 ≤ F + (-29360128) * s + (-2097152) * u + 29360128) (c17 : 0 ≤ (-1) * F + 29360128 * s + 2097152 * u + (-28360128)) (c18 : 0 ≤ T + (-16) * v + (-256) * u + (-4096) * s) (c19 : 0 ≤ (-1) * T + 16 * v + 256 * u + 4096 * s + 15) (c20 : 0 ≤ (-1) * a) (c21 : 0 ≤ best + (-1) * F + 29364224 * s + 2097408 * u + (-1) * T + 16 * v + (-29360129)) : p_BW M nt sl fo wt (w + a + 16777216 * u + 268435456 * v + 4294967296 * s + 1099511627776 * best + 16777216) := by
  obtain ⟨w1, u1, v1, s1, b1, e1, w01, w11, u01, u11, v01, v11, s01, s11, b01, b11, H1, H21, H31⟩ := p0
  obtain ⟨rfl, rfl, rfl, rfl, rfl⟩ := m_d5 e1 (by omega) (by omega) (by omega) (by omega) (by omega) (by omega) (by omega) (by omega) (by omega) (by omega) (by omega) (by omega) (by omega) (by omega) (by omega) (by omega)
  obtain ⟨z2, i2, e2, z02, z12, i02, i12, H2⟩ := p1
  obtain rfl : i2 = 14 * (s - 1) + u := by omega
  obtain ⟨t3, v3, u3, s3, e3, t03, t13, v03, v13, u03, u13, s03, s13, H3⟩ := p2
  obtain ⟨rfl, rfl, rfl⟩ : v = v3 ∧ u = u3 ∧ s = s3 := by omega
  have hc : m_fc M sl fo s v u = F - 2097152 * (14 * (s - 1) + u) + (T - 16 * v - 256 * u - 4096 * s) := by
    unfold m_fc
    omega
  obtain rfl : a = 0 := by omega
  refine ⟨w + 0, u + 1, v, s, best, by omega, by omega, by omega, by omega, by omega, by omega, by omega, by omega, by omega, by omega, by omega, H1, fun _ => by omega, ?_⟩
  rw [m_ws_step (by omega), ← H31, if_neg (by omega)]
theorem k_we1 {M : Int} {nt : Int → Int} {sl : Int → Int} {fo : Int → Int} {wt : Int → Int} (hM : 2 ≤ M ∧ M ≤ 13) (hnt : ∀ i, 0 ≤ nt i ∧ nt i ≤ 2) (hsl : ∀ i, 0 ≤ sl i ∧ sl i ≤ 9) (hfo : ∀ i, 0 ≤ fo i ∧ fo i ≤ 1000000) (hwt : ∀ i, 0 ≤ wt i ∧ wt i ≤ 999999) {w u v s best m : Int} (p0 : p_BW M nt sl fo wt (w + 16777216 * u + 268435456 * v + 4294967296 * s + 1099511627776 * best)) (p1 : m = M) (c0 : 0 ≤ w) (c1 : 0 ≤ (-1) * w + 16777215) (c2 : 0 ≤ u + (-1)) (c3 : 0 ≤ (-1) * u + 14) (c4 : 0 ≤ v + (-1)) (c5 : 0 ≤ (-1) * v + 13) (c6 : 0 ≤ s + (-1)) (c7 : 0 ≤ (-1) * s + 95) (c8 : 0 ≤ best) (c9 : 0 ≤ (-1) * best + 1000000) (c10 : 0 ≤ u + (-1) * m + (-1)) : p_WE M nt sl fo wt (w + 16777216 * v + 268435456 * s + 68719476736 * best) := by
  obtain ⟨w1, u1, v1, s1, b1, e1, w01, w11, u01, u11, v01, v11, s01, s11, b01, b11, H1, H21, H31⟩ := p0
  obtain ⟨rfl, rfl, rfl, rfl, rfl⟩ := m_d5 e1 (by omega) (by omega) (by omega) (by omega) (by omega) (by omega) (by omega) (by omega) (by omega) (by omega) (by omega) (by omega) (by omega) (by omega) (by omega) (by omega)
  obtain rfl : u = M + 1 := by omega
  refine ⟨w, v, s, best, by omega, by omega, by omega, by omega, by omega, by omega, by omega, by omega, by omega, H1, ?_⟩
  unfold m_wv
  rw [if_pos (H21 (by omega)), H31, show (M + 1 - 1).toNat = M.toNat by omega]
theorem k_we2 {M : Int} {nt : Int → Int} {sl : Int → Int} {fo : Int → Int} {wt : Int → Int} (hM : 2 ≤ M ∧ M ≤ 13) (hnt : ∀ i, 0 ≤ nt i ∧ nt i ≤ 2) (hsl : ∀ i, 0 ≤ sl i ∧ sl i ≤ 9) (hfo : ∀ i, 0 ≤ fo i ∧ fo i ≤ 1000000) (hwt : ∀ i, 0 ≤ wt i ∧ wt i ≤ 999999) {w u v s best : Int} (p0 : p_BW M nt sl fo wt (w + 16777216 * u + 268435456 * v + 4294967296 * s + 1099511627776 * best)) (c0 : 0 ≤ w) (c1 : 0 ≤ (-1) * w + 16777215) (c2 : 0 ≤ u + (-1)) (c3 : 0 ≤ (-1) * u + 14) (c4 : 0 ≤ v + (-1)) (c5 : 0 ≤ (-1) * v + 13) (c6 : 0 ≤ s + (-1)) (c7 : 0 ≤ (-1) * s + 95) (c8 : 0 ≤ best) (c9 : 0 ≤ (-1) * best + 1000000) (c10 : 0 ≤ best + (-1000000)) : p_WE M nt sl fo wt (w + 16777216 * v + 268435456 * s + 68719476736 * best) := by
  obtain ⟨w1, u1, v1, s1, b1, e1, w01, w11, u01, u11, v01, v11, s01, s11, b01, b11, H1, H21, H31⟩ := p0
  obtain ⟨rfl, rfl, rfl, rfl, rfl⟩ := m_d5 e1 (by omega) (by omega) (by omega) (by omega) (by omega) (by omega) (by omega) (by omega) (by omega) (by omega) (by omega) (by omega) (by omega) (by omega) (by omega) (by omega)
  obtain rfl : u = 1 := by omega
  refine ⟨w, v, s, best, by omega, by omega, by omega, by omega, by omega, by omega, by omega, by omega, by omega, H1, ?_⟩
  unfold m_wv
  rw [if_neg (by omega), H31]
  rfl
theorem k_fb {M : Int} {FS : Int} {nt : Int → Int} {sl : Int → Int} {nc : Int} {cs : Int → Int} {fo : Int → Int} {wt : Int → Int} (hM : 2 ≤ M ∧ M ≤ 13) (hFS : 1 ≤ FS ∧ FS ≤ 13) (hnt : ∀ i, 0 ≤ nt i ∧ nt i ≤ 2) (hsl : ∀ i, 0 ≤ sl i ∧ sl i ≤ 9) (hnc : 0 ≤ nc ∧ nc ≤ 6) (hcs : ∀ i, 0 ≤ cs i ∧ cs i ≤ 16) (hfo : ∀ i, 0 ≤ fo i ∧ fo i ≤ 1000000) (hwt : ∀ i, 0 ≤ wt i ∧ wt i ≤ 999999) {i z w v s fr : Int} (i1 : 0 ≤ i) (i2 : i < 1344) (p0 : p_FA M FS nt sl nc cs fo wt (v + 16 * s + 2048 * fr)) (p1 : p_WE M nt sl fo wt (w + 16777216 * v + 268435456 * s + 68719476736 * z)) (c0 : 0 ≤ i + (-14) * s + (-1) * v) (c1 : 0 ≤ 14 * s + v + (-1) * i) (c2 : 0 ≤ w) (c3 : 0 ≤ (-1) * w + 16777215) (c4 : 0 ≤ v + (-1)) (c5 : 0 ≤ (-1) * v + 13) (c6 : 0 ≤ s + (-1)) (c7 : 0 ≤ (-1) * s + 95) (c8 : 0 ≤ z) (c9 : 0 ≤ (-1) * z + 1000000) (c10 : 0 ≤ fr) (c11 : 0 ≤ (-1) * fr + 1) : p_FB M FS nt sl nc cs (m_up fo i z) wt (w + 16777216 * v + 268435456 * s + 68719476736 * fr) := by
  obtain ⟨v1, s1, r1, e1, v01, v11, s01, s11, r01, r11, H1⟩ := p0
  obtain ⟨rfl, rfl, rfl⟩ : v = v1 ∧ s = s1 ∧ fr = r1 := by omega
  obtain ⟨w2, v2, s2, b2, e2, w02, w12, v02, v12, s02, s12, b02, b12, H2, H22⟩ := p1
  obtain ⟨rfl, rfl, rfl, rfl⟩ : w = w2 ∧ v = v2 ∧ s = s2 ∧ z = b2 := by omega
  obtain rfl : i = 14 * s + v := by omega
  have hat : m_up fo (14 * s + v) z (14 * s + v) = z := m_up_at rfl
  refine ⟨w, v, s, fr, by omega, by omega, by omega, by omega, by omega, by omega, by omega, by omega, by omega, ⟨fun v' h1 h2 => ?_, fun s' v' h1 h2 h3 h4 h5 => ?_⟩, ?_, ?_⟩
  · obtain ⟨g1, g2⟩ := H1.1 v' h1 h2
    have e : m_up fo (14 * s + v) z v' = fo v' := m_up_ne (by omega)
    refine ⟨?_, ?_⟩
    · unfold m_r0; rw [e]; exact g1
    · unfold m_rw; rw [e]; exact g2
  · exact m_fe_congr hM.1 (m_up_ne (by omega)).symm rfl (fun q q1 q2 => ⟨(m_up_ne (by omega)).symm, rfl⟩) (H1.2 s' v' h1 h2 h3 h4 h5)
  · rw [hat]
    exact m_be_congr (fun q q1 q2 => (m_up_ne (by omega)).symm) H2
  · rw [hat, H22]
    exact m_wv_congr hM.1 (fun q q1 q2 => ⟨(m_up_ne (by omega)).symm, rfl⟩)
theorem k_fw1 {M : Int} {FS : Int} {nt : Int → Int} {sl : Int → Int} {nc : Int} {cs : Int → Int} {fo : Int → Int} {wt : Int → Int} (hM : 2 ≤ M ∧ M ≤ 13) (hFS : 1 ≤ FS ∧ FS ≤ 13) (hnt : ∀ i, 0 ≤ nt i ∧ nt i ≤ 2) (hsl : ∀ i, 0 ≤ sl i ∧ sl i ≤ 9) (hnc : 0 ≤ nc ∧ nc ≤ 6) (hcs : ∀ i, 0 ≤ cs i ∧ cs i ≤ 16) (hfo : ∀ i, 0 ≤ fo i ∧ fo i ≤ 1000000) (hwt : ∀ i, 0 ≤ wt i ∧ wt i ≤ 999999) {i z w v s fr : Int} (i1 : 0 ≤ i) (i2 : i < 1344) (p0 : p_FB M FS nt sl nc cs fo wt (w + 16777216 * v + 268435456 * s + 68719476736 * fr)) (c0 : 0 ≤ i + (-14) * s + (-1) * v) (c1 : 0 ≤ 14 * s + v + (-1) * i) (c2 : 0 ≤ w) (c3 : 0 ≤ (-1) * w + 16777215) (c4 : 0 ≤ v + (-1)) (c5 : 0 ≤ (-1) * v + 13) (c6 : 0 ≤ s + (-1)) (c7 : 0 ≤ (-1) * s + 95) (c8 : 0 ≤ fr) (c9 : 0 ≤ (-1) * fr + 1) (c10 : 0 ≤ z) (c11 : 0 ≤ z + (-1) * w) (c12 : 0 ≤ w + (-1) * z) (c13 : 0 ≤ (-1) * w + 999999) : p_FA M FS nt sl nc cs fo (m_up wt i z) (v + 16 * s + 2048 * fr + 1) := by
  obtain ⟨w1, v1, s1, r1, e1, w01, w11, v01, v11, s01, s11, r01, r11, H1, H21, H31⟩ := p0
  obtain ⟨rfl, rfl, rfl, rfl⟩ : w = w1 ∧ v = v1 ∧ s = s1 ∧ fr = r1 := by omega
  obtain rfl : i = 14 * s + v := by omega
  have hz : z = m_lim w := by
    unfold m_lim
    split <;> omega
  have hold : ∀ s' v', 1 ≤ s' → s' ≤ 95 → 1 ≤ v' → v' ≤ M → (s' < s ∨ (s' = s ∧ v' < v)) → m_fe M nt sl fo (m_up wt (14 * s + v) z) s' v' := fun s' v' h1 h2 h3 h4 h5 =>
    m_fe_congr hM.1 rfl (m_up_ne (by omega)).symm (fun q q1 q2 => ⟨rfl, (m_up_ne (by omega)).symm⟩) (H1.2 s' v' h1 h2 h3 h4 h5)
  refine ⟨v + 1, s, fr, by omega, by omega, by omega, by omega, by omega, by omega, by omega, fun v' h1 h2 => ?_, fun s' v' h1 h2 h3 h4 h5 => ?_⟩
  · obtain ⟨g1, g2⟩ := H1.1 v' h1 h2
    refine ⟨g1, ?_⟩
    unfold m_rw
    rw [m_up_ne (by omega)]
    exact g2
  · by_cases e : s' = s ∧ v' = v
    · obtain ⟨rfl, rfl⟩ := e
      refine ⟨H21, ?_⟩
      have hw : m_wv M sl fo wt s' v' (fo (14 * s' + v')) = m_wv M sl fo (m_up wt (14 * s' + v') z) s' v' (fo (14 * s' + v')) := m_wv_congr hM.1 (fun q q1 q2 => ⟨rfl, (m_up_ne (by omega)).symm⟩)
      exact (m_up_at rfl).trans (hz.trans (congrArg m_lim (H31.trans hw)))
    · exact hold s' v' h1 h2 h3 h4 (by omega)
theorem k_fw2 {M : Int} {FS : Int} {nt : Int → Int} {sl : Int → Int} {nc : Int} {cs : Int → Int} {fo : Int → Int} {wt : Int → Int} (hM : 2 ≤ M ∧ M ≤ 13) (hFS : 1 ≤ FS ∧ FS ≤ 13) (hnt : ∀ i, 0 ≤ nt i ∧ nt i ≤ 2) (hsl : ∀ i, 0 ≤ sl i ∧ sl i ≤ 9) (hnc : 0 ≤ nc ∧ nc ≤ 6) (hcs : ∀ i, 0 ≤ cs i ∧ cs i ≤ 16) (hfo : ∀ i, 0 ≤ fo i ∧ fo i ≤ 1000000) (hwt : ∀ i, 0 ≤ wt i ∧ wt i ≤ 999999) {i z w v s fr : Int} (i1 : 0 ≤ i) (i2 : i < 1344) (p0 : p_FB M FS nt sl nc cs fo wt (w + 16777216 * v + 268435456 * s + 68719476736 * fr)) (c0 : 0 ≤ i + (-14) * s + (-1) * v) (c1 : 0 ≤ 14 * s + v + (-1) * i) (c2 : 0 ≤ w) (c3 : 0 ≤ (-1) * w + 16777215) (c4 : 0 ≤ v + (-1)) (c5 : 0 ≤ (-1) * v + 13) (c6 : 0 ≤ s + (-1)) (c7 : 0 ≤ (-1) * s + 95) (c8 : 0 ≤ fr) (c9 : 0 ≤ (-1) * fr + 1) (c10 : 0 ≤ z) (c11 : 0 ≤ z + (-999999)) (c12 : 0 ≤ (-1) * z + 999999) (c13 : 0 ≤ w + (-999999)) : p_FA M FS nt sl nc cs fo (m_up wt i z) (v + 16 * s + 2048 * fr + 1) := by
  obtain ⟨w1, v1, s1, r1, e1, w01, w11, v01, v11, s01, s11, r01, r11, H1, H21, H31⟩ := p0
  obtain ⟨rfl, rfl, rfl, rfl⟩ : w = w1 ∧ v = v1 ∧ s = s1 ∧ fr = r1 := by omega
  obtain rfl : i = 14 * s + v := by omega
  have hz : z = m_lim w := by
    unfold m_lim
    split <;> omega
  have hold : ∀ s' v', 1 ≤ s' → s' ≤ 95 → 1 ≤ v' → v' ≤ M → (s' < s ∨ (s' = s ∧ v' < v)) → m_fe M nt sl fo (m_up wt (14 * s + v) z) s' v' := fun s' v' h1 h2 h3 h4 h5 =>
    m_fe_congr hM.1 rfl (m_up_ne (by omega)).symm (fun q q1 q2 => ⟨rfl, (m_up_ne (by omega)).symm⟩) (H1.2 s' v' h1 h2 h3 h4 h5)
  refine ⟨v + 1, s, fr, by omega, by omega, by omega, by omega, by omega, by omega, by omega, fun v' h1 h2 => ?_, fun s' v' h1 h2 h3 h4 h5 => ?_⟩
  · obtain ⟨g1, g2⟩ := H1.1 v' h1 h2
    refine ⟨g1, ?_⟩
    unfold m_rw
    rw [m_up_ne (by omega)]
    exact g2
  · by_cases e : s' = s ∧ v' = v
    · obtain ⟨rfl, rfl⟩ := e
      refine ⟨H21, ?_⟩
      have hw : m_wv M sl fo wt s' v' (fo (14 * s' + v')) = m_wv M sl fo (m_up wt (14 * s' + v') z) s' v' (fo (14 * s' + v')) := m_wv_congr hM.1 (fun q q1 q2 => ⟨rfl, (m_up_ne (by omega)).symm⟩)
      exact (m_up_at rfl).trans (hz.trans (congrArg m_lim (H31.trans hw)))
    · exact hold s' v' h1 h2 h3 h4 (by omega)
theorem k_aa0 {M : Int} {nt : Int → Int} {sl : Int → Int} {nc : Int} {cs : Int → Int} {ft : Int → Int} (hM : 2 ≤ M ∧ M ≤ 13) (hnt : ∀ i, 0 ≤ nt i ∧ nt i ≤ 2) (hsl : ∀ i, 0 ≤ sl i ∧ sl i ≤ 9) (hnc : 0 ≤ nc ∧ nc ≤ 6) (hcs : ∀ i, 0 ≤ cs i ∧ cs i ≤ 16) (hft : ∀ i, 0 ≤ ft i ∧ ft i ≤ 1000000) {many : Int} (p0 : p_NS nc cs (many)) (c0 : 0 ≤ many) (c1 : 0 ≤ (-1) * many + 96) : p_AA M nt sl nc cs ft (16 * many + 1) := by
  have hN : many = m_N nc cs := p0
  exact ⟨1, many - 1, by omega, by omega, by omega, by omega, by omega, fun s' v' h1 h2 h3 h4 h5 => by omega⟩
theorem k_am0 {M : Int} {nt : Int → Int} {sl : Int → Int} {nc : Int} {cs : Int → Int} {ft : Int → Int} (hM : 2 ≤ M ∧ M ≤ 13) (hnt : ∀ i, 0 ≤ nt i ∧ nt i ≤ 2) (hsl : ∀ i, 0 ≤ sl i ∧ sl i ≤ 9) (hnc : 0 ≤ nc ∧ nc ≤ 6) (hcs : ∀ i, 0 ≤ cs i ∧ cs i ≤ 16) (hft : ∀ i, 0 ≤ ft i ∧ ft i ≤ 1000000) {best v s m : Int} (p0 : m = M) (p1 : p_SU M nt (2 * v + 32 * s)) (c0 : 0 ≤ best + (-1000000)) (c1 : 0 ≤ (-1) * best + 1000000) (c2 : 0 ≤ v + (-1)) (c3 : 0 ≤ (-1) * v + 13) (c4 : 0 ≤ s) (c5 : 0 ≤ (-1) * s + 95) (c6 : 0 ≤ m + (-1) * v) : p_AM M nt sl nc cs ft (best + 33554432 * v + 536870912 * s + 2097152) := by
  obtain ⟨r1, v1, s1, e1, r01, r11, v01, v11, s01, s11, H1⟩ := p1
  obtain ⟨rfl, rfl, rfl⟩ : r1 = 0 ∧ v = v1 ∧ s = s1 := by omega
  have hs : ¬ m_su M nt s v := fun h => by
    have := H1.mpr h
    omega
  refine ⟨best, 1, v, s, by omega, by omega, by omega, by omega, by omega, by omega, by omega, by omega, by omega, by omega, fun _ => ⟨by omega, rfl⟩, fun h => absurd h hs, fun h => absurd h hs⟩
theorem k_am1 {M : Int} {nt : Int → Int} {sl : Int → Int} {nc : Int} {cs : Int → Int} {ft : Int → Int} (hM : 2 ≤ M ∧ M ≤ 13) (hnt : ∀ i, 0 ≤ nt i ∧ nt i ≤ 2) (hsl : ∀ i, 0 ≤ sl i ∧ sl i ≤ 9) (hnc : 0 ≤ nc ∧ nc ≤ 6) (hcs : ∀ i, 0 ≤ cs i ∧ cs i ≤ 16) (hft : ∀ i, 0 ≤ ft i ∧ ft i ≤ 1000000) {best v s many m : Int} (p0 : m = M) (p1 : p_SU M nt (2 * v + 32 * s + 1)) (p2 : p_NS nc cs (many)) (c0 : 0 ≤ best) (c1 : 0 ≤ (-1) * best) (c2 : 0 ≤ many + (-1) * s + (-1)) (c3 : 0 ≤ s + (-1) * many + 1) (c4 : 0 ≤ v + (-1)) (c5 : 0 ≤ (-1) * v + 13) (c6 : 0 ≤ s) (c7 : 0 ≤ (-1) * s + 95) (c8 : 0 ≤ m + (-1) * v) : p_AM M nt sl nc cs ft (best + 33554432 * v + 536870912 * s + 2097152) := by
  have hN : many = m_N nc cs := p2
  obtain ⟨r1, v1, s1, e1, r01, r11, v01, v11, s01, s11, H1⟩ := p1
  obtain ⟨rfl, rfl, rfl⟩ : r1 = 1 ∧ v = v1 ∧ s = s1 := by omega
  have hs := H1.mp rfl
  refine ⟨best, 1, v, s, by omega, by omega, by omega, by omega, by omega, by omega, by omega, by omega, by omega, by omega, fun h => absurd hs h, fun _ _ => ⟨by omega, rfl⟩, fun _ h => by omega⟩
theorem k_am2 {M : Int} {nt : Int → Int} {sl : Int → Int} {nc : Int} {cs : Int → Int} {ft : Int → Int} (hM : 2 ≤ M ∧ M ≤ 13) (hnt : ∀ i, 0 ≤ nt i ∧ nt i ≤ 2) (hsl : ∀ i, 0 ≤ sl i ∧ sl i ≤ 9) (hnc : 0 ≤ nc ∧ nc ≤ 6) (hcs : ∀ i, 0 ≤ cs i ∧ cs i ≤ 16) (hft : ∀ i, 0 ≤ ft i ∧ ft i ≤ 1000000) {best v s many m : Int} (p0 : m = M) (p1 : p_SU M nt (2 * v + 32 * s + 1)) (p2 : p_NS nc cs (many)) (c0 : 0 ≤ best + (-1000000)) (c1 : 0 ≤ (-1) * best + 1000000) (c2 : 0 ≤ many + (-1) * s + (-2)) (c3 : 0 ≤ v + (-1)) (c4 : 0 ≤ (-1) * v + 13) (c5 : 0 ≤ s) (c6 : 0 ≤ (-1) * s + 95) (c7 : 0 ≤ m + (-1) * v) : p_AM M nt sl nc cs ft (best + 33554432 * v + 536870912 * s + 2097152) := by
  have hN : many = m_N nc cs := p2
  obtain ⟨r1, v1, s1, e1, r01, r11, v01, v11, s01, s11, H1⟩ := p1
  obtain ⟨rfl, rfl, rfl⟩ : r1 = 1 ∧ v = v1 ∧ s = s1 := by omega
  have hs := H1.mp rfl
  obtain rfl : best = 1000000 := by omega
  refine ⟨1000000, 1, v, s, by omega, by omega, by omega, by omega, by omega, by omega, by omega, by omega, by omega, by omega, fun h => absurd hs h, fun _ h => by omega, fun _ _ => m_mn_1 _⟩
theorem k_am3 {M : Int} {nt : Int → Int} {sl : Int → Int} {nc : Int} {cs : Int → Int} {ft : Int → Int} (hM : 2 ≤ M ∧ M ≤ 13) (hnt : ∀ i, 0 ≤ nt i ∧ nt i ≤ 2) (hsl : ∀ i, 0 ≤ sl i ∧ sl i ≤ 9) (hnc : 0 ≤ nc ∧ nc ≤ 6) (hcs : ∀ i, 0 ≤ cs i ∧ cs i ≤ 16) (hft : ∀ i, 0 ≤ ft i ∧ ft i ≤ 1000000) {r best u v s F T many m : Int} (p0 : p_AM M nt sl nc cs ft (best + 2097152 * u + 33554432 * v + 536870912 * s)) (p1 : p_FT ft (F)) (p2 : p_ST M sl (T)) (p3 : p_SU M nt (2 * v + 32 * s + 1)) (p4 : p_NS nc cs (many)) (p5 : m = M) (c0 : 0 ≤ best) (c1 : 0 ≤ (-1) * best + 2097151) (c2 : 0 ≤ u + (-1)) (c3 : 0 ≤ (-1) * u + 14) (c4 : 0 ≤ v + (-1)) (c5 : 0 ≤ (-1) * v + 13) (c6 : 0 ≤ s) (c7 : 0 ≤ (-1) * s + 95) (c8 : 0 ≤ F + (-29360128) * s + (-2097152) * u + (-29360128)) (c9 : 0 ≤ (-1) * F + 29360128 * s + 2097152 * u + 30360128) (c10 : 0 ≤ T + (-16) * u + (-256) * v + (-4096) * s + (-4096)) (c11 : 0 ≤ (-1) * T + 16 * u + 256 * v + 4096 * s + 4111) (c12 : 0 ≤ (-1) * u + 13) (c13 : 0 ≤ m + (-1) * u) (c14 : 0 ≤ many + (-1) * s + (-2)) (c15 : 0 ≤ r + (-1) * best) (c16 : 0 ≤ best + (-1) * r) (c17 : 0 ≤ F + (-29364224) * s + (-2097168) * u + T + (-256) * v + (-1) * best + (-29364224)) : p_AM M nt sl nc cs ft (r + 2097152 * u + 33554432 * v + 536870912 * s + 2097152) := by
  obtain ⟨b1, u1, v1, s1, e1, b01, b11, u01, u11, v01, v11, s01, s11, b21, H1, H21, H31⟩ := p0
  obtain ⟨rfl, rfl, rfl, rfl⟩ : best = b1 ∧ u = u1 ∧ v = v1 ∧ s = s1 := by omega
  obtain ⟨z2, i2, e2, z02, z12, i02, i12, H2⟩ := p1
  obtain rfl : i2 = 14 * (s + 1) + u := by omega
  obtain ⟨t3, v3, u3, s3, e3, t03, t13, v03, v13, u03, u13, s03, s13, H3⟩ := p2
  obtain ⟨rfl, rfl, rfl⟩ : u = v3 ∧ v = u3 ∧ s3 = s + 1 := by omega
  obtain ⟨r4, v4, s4, e4, r04, r14, v04, v14, s04, s14, H4⟩ := p3
  obtain ⟨rfl, rfl, rfl⟩ : r4 = 1 ∧ v = v4 ∧ s = s4 := by omega
  have hN : many = m_N nc cs := p4
  have hs := H4.mp rfl
  have hc : m_bc M sl ft s v u = F - 2097152 * (14 * (s + 1) + u) + (T - 16 * u - 256 * v - 4096 * (s + 1)) := by
    unfold m_bc
    omega
  have hmn := H31 hs (by omega)
  obtain rfl : r = best := by omega
  exact ⟨r, u + 1, v, s, by omega, by omega, by omega, by omega, by omega, by omega, by omega, by omega, by omega, by omega, fun h => absurd hs h, fun _ h => by omega, fun _ _ => m_mn_keep hmn (by omega)⟩
theorem k_am4 {M : Int} {nt : Int → Int} {sl : Int → Int} {nc : Int} {cs : Int → Int} {ft : Int → Int} (hM : 2 ≤ M ∧ M ≤ 13) (hnt : ∀ i, 0 ≤ nt i ∧ nt i ≤ 2) (hsl : ∀ i, 0 ≤ sl i ∧ sl i ≤ 9) (hnc : 0 ≤ nc ∧ nc ≤ 6) (hcs : ∀ i, 0 ≤ cs i ∧ cs i ≤ 16) (hft : ∀ i, 0 ≤ ft i ∧ ft i ≤ 1000000) {r best u v s F T many m : Int} (p0 : p_AM M nt sl nc cs ft (best + 2097152 * u + 33554432 * v + 536870912 * s)) (p1 : p_FT ft (F)) (p2 : p_ST M sl (T)) (p3 : p_SU M nt (2 * v + 32 * s + 1)) (p4 : p_NS nc cs (many)) (p5 : m = M) (c0 : 0 ≤ best) (c1 : 0 ≤ (-1) * best + 2097151) (c2 : 0 ≤ u + (-1)) (c3 : 0 ≤ (-1) * u + 14) (c4 : 0 ≤ v + (-1)) (c5 : 0 ≤ (-1) * v + 13) (c6 : 0 ≤ s) (c7 : 0 ≤ (-1) * s + 95) (c8 : 0 ≤ F + (-29360128) * s + (-2097152) * u + (-29360128)) (c9 : 0 ≤ (-1) * F + 29360128 * s + 2097152 * u + 30360128) (c10 : 0 ≤ T + (-16) * u + (-256) * v + (-4096) * s + (-4096)) (c11 : 0 ≤ (-1) * T + 16 * u + 256 * v + 4096 * s + 4111) (c12 : 0 ≤ (-1) * u + 13) (c13 : 0 ≤ m + (-1) * u) (c14 : 0 ≤ many + (-1) * s + (-2)) (c15 : 0 ≤ r + (-1) * F + 29364224 * s + 2097168 * u + (-1) * T + 256 * v + 29364224) (c16 : 0 ≤ F + (-29364224) * s + (-2097168) * u + T + (-256) * v + (-1) * r + (-29364224)) (c17 : 0 ≤ best + (-1) * r) (c18 : 0 ≤ r) : p_AM M nt sl nc cs ft (r + 2097152 * u + 33554432 * v + 536870912 * s + 2097152) := by
  obtain ⟨b1, u1, v1, s1, e1, b01, b11, u01, u11, v01, v11, s01, s11, b21, H1, H21, H31⟩ := p0
  obtain ⟨rfl, rfl, rfl, rfl⟩ : best = b1 ∧ u = u1 ∧ v = v1 ∧ s = s1 := by omega
  obtain ⟨z2, i2, e2, z02, z12, i02, i12, H2⟩ := p1
  obtain rfl : i2 = 14 * (s + 1) + u := by omega
  obtain ⟨t3, v3, u3, s3, e3, t03, t13, v03, v13, u03, u13, s03, s13, H3⟩ := p2
  obtain ⟨rfl, rfl, rfl⟩ : u = v3 ∧ v = u3 ∧ s3 = s + 1 := by omega
  obtain ⟨r4, v4, s4, e4, r04, r14, v04, v14, s04, s14, H4⟩ := p3
  obtain ⟨rfl, rfl, rfl⟩ : r4 = 1 ∧ v = v4 ∧ s = s4 := by omega
  have hN : many = m_N nc cs := p4
  have hs := H4.mp rfl
  have hc : m_bc M sl ft s v u = F - 2097152 * (14 * (s + 1) + u) + (T - 16 * u - 256 * v - 4096 * (s + 1)) := by
    unfold m_bc
    omega
  have hmn := H31 hs (by omega)
  have hr : m_bc M sl ft s v u = r := by omega
  refine ⟨r, u + 1, v, s, by omega, by omega, by omega, by omega, by omega, by omega, by omega, by omega, by omega, by omega, fun h => absurd hs h, fun _ h => by omega, fun _ _ => ?_⟩
  rw [← hr]
  exact m_mn_new (by omega) hmn (by omega)
theorem k_amf {M : Int} {nt : Int → Int} {sl : Int → Int} {nc : Int} {cs : Int → Int} {ft : Int → Int} (hM : 2 ≤ M ∧ M ≤ 13) (hnt : ∀ i, 0 ≤ nt i ∧ nt i ≤ 2) (hsl : ∀ i, 0 ≤ sl i ∧ sl i ≤ 9) (hnc : 0 ≤ nc ∧ nc ≤ 6) (hcs : ∀ i, 0 ≤ cs i ∧ cs i ≤ 16) (hft : ∀ i, 0 ≤ ft i ∧ ft i ≤ 1000000) {best u v s : Int} (p0 : p_AM M nt sl nc cs ft (best + 2097152 * u + 33554432 * v + 536870912 * s)) (c0 : 0 ≤ best) (c1 : 0 ≤ (-1) * best + 2097151) (c2 : 0 ≤ u + (-1)) (c3 : 0 ≤ (-1) * u + 14) (c4 : 0 ≤ v + (-1)) (c5 : 0 ≤ (-1) * v + 13) (c6 : 0 ≤ s) (c7 : 0 ≤ (-1) * s + 95) : 0 ≤ (-1) * best + 1000000 := by
  obtain ⟨b1, u1, v1, s1, e1, b01, b11, u01, u11, v01, v11, s01, s11, b21, H1, H21, H31⟩ := p0
  obtain ⟨rfl, rfl, rfl, rfl⟩ : best = b1 ∧ u = u1 ∧ v = v1 ∧ s = s1 := by omega
  omega
theorem k_an1 {M : Int} {nt : Int → Int} {sl : Int → Int} {nc : Int} {cs : Int → Int} {ft : Int → Int} (hM : 2 ≤ M ∧ M ≤ 13) (hnt : ∀ i, 0 ≤ nt i ∧ nt i ≤ 2) (hsl : ∀ i, 0 ≤ sl i ∧ sl i ≤ 9) (hnc : 0 ≤ nc ∧ nc ≤ 6) (hcs : ∀ i, 0 ≤ cs i ∧ cs i ≤ 16) (hft : ∀ i, 0 ≤ ft i ∧ ft i ≤ 1000000) {best u v s m : Int} (p0 : p_AM M nt sl nc cs ft (best + 2097152 * u + 33554432 * v + 536870912 * s)) (p1 : m = M) (c0 : 0 ≤ best) (c1 : 0 ≤ (-1) * best + 2097151) (c2 : 0 ≤ u + (-1)) (c3 : 0 ≤ (-1) * u + 14) (c4 : 0 ≤ v + (-1)) (c5 : 0 ≤ (-1) * v + 13) (c6 : 0 ≤ s) (c7 : 0 ≤ (-1) * s + 95) (c8 : 0 ≤ u + (-1) * m + (-1)) : p_AN M nt sl nc cs ft (best + 2097152 * v + 33554432 * s) := by
  obtain ⟨b1, u1, v1, s1, e1, b01, b11, u01, u11, v01, v11, s01, s11, b21, H1, H21, H31⟩ := p0
  obtain ⟨rfl, rfl, rfl, rfl⟩ : best = b1 ∧ u = u1 ∧ v = v1 ∧ s = s1 := by omega
  obtain rfl : u = M + 1 := by omega
  exact ⟨best, v, s, by omega, by omega, by omega, by omega, by omega, by omega, by omega, fun h => (H1 h).1, fun h1 h2 => (H21 h1 h2).1, fun h1 h2 => H31 h1 h2⟩
theorem k_an2 {M : Int} {nt : Int → Int} {sl : Int → Int} {nc : Int} {cs : Int → Int} {ft : Int → Int} (hM : 2 ≤ M ∧ M ≤ 13) (hnt : ∀ i, 0 ≤ nt i ∧ nt i ≤ 2) (hsl : ∀ i, 0 ≤ sl i ∧ sl i ≤ 9) (hnc : 0 ≤ nc ∧ nc ≤ 6) (hcs : ∀ i, 0 ≤ cs i ∧ cs i ≤ 16) (hft : ∀ i, 0 ≤ ft i ∧ ft i ≤ 1000000) {best u v s many : Int} (p0 : p_AM M nt sl nc cs ft (best + 2097152 * u + 33554432 * v + 536870912 * s)) (p1 : p_NS nc cs (many)) (c0 : 0 ≤ best) (c1 : 0 ≤ (-1) * best + 2097151) (c2 : 0 ≤ u + (-1)) (c3 : 0 ≤ (-1) * u + 14) (c4 : 0 ≤ v + (-1)) (c5 : 0 ≤ (-1) * v + 13) (c6 : 0 ≤ s) (c7 : 0 ≤ (-1) * s + 95) (c8 : 0 ≤ s + (-1) * many + 1) : p_AN M nt sl nc cs ft (best + 2097152 * v + 33554432 * s) := by
  have hN : many = m_N nc cs := p1
  obtain ⟨b1, u1, v1, s1, e1, b01, b11, u01, u11, v01, v11, s01, s11, b21, H1, H21, H31⟩ := p0
  obtain ⟨rfl, rfl, rfl, rfl⟩ : best = b1 ∧ u = u1 ∧ v = v1 ∧ s = s1 := by omega
  exact ⟨best, v, s, by omega, by omega, by omega, by omega, by omega, by omega, by omega, fun h => (H1 h).1, fun h1 h2 => (H21 h1 h2).1, fun h1 h2 => by omega⟩
theorem k_an3 {M : Int} {nt : Int → Int} {sl : Int → Int} {nc : Int} {cs : Int → Int} {ft : Int → Int} (hM : 2 ≤ M ∧ M ≤ 13) (hnt : ∀ i, 0 ≤ nt i ∧ nt i ≤ 2) (hsl : ∀ i, 0 ≤ sl i ∧ sl i ≤ 9) (hnc : 0 ≤ nc ∧ nc ≤ 6) (hcs : ∀ i, 0 ≤ cs i ∧ cs i ≤ 16) (hft : ∀ i, 0 ≤ ft i ∧ ft i ≤ 1000000) {best u v s : Int} (p0 : p_AM M nt sl nc cs ft (best + 2097152 * u + 33554432 * v + 536870912 * s)) (p1 : p_SU M nt (2 * v + 32 * s)) (c0 : 0 ≤ best) (c1 : 0 ≤ (-1) * best + 2097151) (c2 : 0 ≤ u + (-1)) (c3 : 0 ≤ (-1) * u + 14) (c4 : 0 ≤ v + (-1)) (c5 : 0 ≤ (-1) * v + 13) (c6 : 0 ≤ s) (c7 : 0 ≤ (-1) * s + 95) : p_AN M nt sl nc cs ft (best + 2097152 * v + 33554432 * s) := by
  obtain ⟨b1, u1, v1, s1, e1, b01, b11, u01, u11, v01, v11, s01, s11, b21, H1, H21, H31⟩ := p0
  obtain ⟨rfl, rfl, rfl, rfl⟩ : best = b1 ∧ u = u1 ∧ v = v1 ∧ s = s1 := by omega
  obtain ⟨r2, v2, s2, e2, r02, r12, v02, v12, s02, s12, H2⟩ := p1
  obtain ⟨rfl, rfl, rfl⟩ : r2 = 0 ∧ v = v2 ∧ s = s2 := by omega
  have hs : ¬ m_su M nt s v := fun h => by
    have := H2.mpr h
    omega
  exact ⟨best, v, s, by omega, by omega, by omega, by omega, by omega, by omega, by omega, fun h => (H1 h).1, fun h => absurd h hs, fun h => absurd h hs⟩
theorem k_aa1 {M : Int} {nt : Int → Int} {sl : Int → Int} {nc : Int} {cs : Int → Int} {ft : Int → Int} (hM : 2 ≤ M ∧ M ≤ 13) (hnt : ∀ i, 0 ≤ nt i ∧ nt i ≤ 2) (hsl : ∀ i, 0 ≤ sl i ∧ sl i ≤ 9) (hnc : 0 ≤ nc ∧ nc ≤ 6) (hcs : ∀ i, 0 ≤ cs i ∧ cs i ≤ 16) (hft : ∀ i, 0 ≤ ft i ∧ ft i ≤ 1000000) {i z v s : Int} (i1 : 0 ≤ i) (i2 : i < 1344) (p0 : p_AA M nt sl nc cs ft (v + 16 * s + 16)) (p1 : p_AN M nt sl nc cs ft (z + 2097152 * v + 33554432 * s)) (c0 : 0 ≤ i + (-14) * s + (-1) * v) (c1 : 0 ≤ 14 * s + v + (-1) * i) (c2 : 0 ≤ v + (-1)) (c3 : 0 ≤ (-1) * v + 13) (c4 : 0 ≤ s) (c5 : 0 ≤ (-1) * s + 95) (c6 : 0 ≤ z) (c7 : 0 ≤ (-1) * z + 1000000) : p_AA M nt sl nc cs (m_up ft i z) (v + 16 * s + 17) := by
  obtain ⟨v1, s1, e1, v01, v11, s01, s11, H1⟩ := p0
  obtain ⟨rfl, rfl⟩ : v = v1 ∧ s = s1 := by omega
  obtain ⟨b2, v2, s2, e2, b02, b12, v02, v12, s02, s12, H2⟩ := p1
  obtain ⟨rfl, rfl, rfl⟩ : z = b2 ∧ v = v2 ∧ s = s2 := by omega
  obtain rfl : i = 14 * s + v := by omega
  have hN := m_N_le hnc hcs
  refine ⟨v + 1, s, by omega, by omega, by omega, by omega, by omega, fun s' v' h1 h2 h3 h4 h5 => ?_⟩
  by_cases e : s' = s ∧ v' = v
  · obtain ⟨rfl, rfl⟩ := e
    rw [m_up_at rfl]
    exact m_ae_congr (fun q q1 q2 => (m_up_ne (by omega)).symm) H2
  · rw [m_up_ne (by omega)]
    exact m_ae_congr (fun q q1 q2 => (m_up_ne (by omega)).symm) (H1 s' v' h1 h2 h3 h4 (by omega))
theorem k_aan {M : Int} {nt : Int → Int} {sl : Int → Int} {nc : Int} {cs : Int → Int} {ft : Int → Int} (hM : 2 ≤ M ∧ M ≤ 13) (hnt : ∀ i, 0 ≤ nt i ∧ nt i ≤ 2) (hsl : ∀ i, 0 ≤ sl i ∧ sl i ≤ 9) (hnc : 0 ≤ nc ∧ nc ≤ 6) (hcs : ∀ i, 0 ≤ cs i ∧ cs i ≤ 16) (hft : ∀ i, 0 ≤ ft i ∧ ft i ≤ 1000000) {v s m : Int} (p0 : p_AA M nt sl nc cs ft (v + 16 * s + 16)) (p1 : m = M) (c0 : 0 ≤ v + (-1) * m + (-1)) (c1 : 0 ≤ (-1) * v + 14) (c2 : 0 ≤ s) (c3 : 0 ≤ (-1) * s + 95) : p_AA M nt sl nc cs ft (16 * s + 1) := by
  obtain ⟨v1, s1, e1, v01, v11, s01, s11, H1⟩ := p0
  obtain ⟨rfl, rfl⟩ : v = v1 ∧ s = s1 := by omega
  exact ⟨1, s - 1, by omega, by omega, by omega, by omega, by omega, fun s' v' h1 h2 h3 h4 h5 => H1 s' v' h1 h2 h3 h4 (by omega)⟩
theorem k_ad {M : Int} {nt : Int → Int} {sl : Int → Int} {nc : Int} {cs : Int → Int} {ft : Int → Int} (hM : 2 ≤ M ∧ M ≤ 13) (hnt : ∀ i, 0 ≤ nt i ∧ nt i ≤ 2) (hsl : ∀ i, 0 ≤ sl i ∧ sl i ≤ 9) (hnc : 0 ≤ nc ∧ nc ≤ 6) (hcs : ∀ i, 0 ≤ cs i ∧ cs i ≤ 16) (hft : ∀ i, 0 ≤ ft i ∧ ft i ≤ 1000000) {s : Int} (p0 : p_AA M nt sl nc cs ft (16 * s + 17)) (c0 : 0 ≤ (-1) * s + (-1)) (c1 : 0 ≤ s + 1) : p_AD M nt sl nc cs ft (0) := by
  obtain ⟨v1, s1, e1, v01, v11, s01, s11, H1⟩ := p0
  obtain ⟨rfl, rfl⟩ : v1 = 1 ∧ s = s1 := by omega
  exact fun s' v' h1 h2 h3 h4 h5 => H1 s' v' h1 h2 h3 h4 (by omega)
theorem k_lm0 {M : Int} {nc : Int} {cs : Int → Int} {fo : Int → Int} {ft : Int → Int} (hM : 2 ≤ M ∧ M ≤ 13) (hnc : 0 ≤ nc ∧ nc ≤ 6) (hcs : ∀ i, 0 ≤ cs i ∧ cs i ≤ 16) (hfo : ∀ i, 0 ≤ fo i ∧ fo i ≤ 1000000) (hft : ∀ i, 0 ≤ ft i ∧ ft i ≤ 1000000) {l : Int} (c0 : 0 ≤ l + (-1000000)) (c1 : 0 ≤ (-1) * l + 1000000) : p_LM M nc cs fo ft (l + 2097152) := by
  obtain rfl : l = 1000000 := by omega
  exact ⟨1000000, 1, by omega, by omega, by omega, Or.inr ⟨by omega, by omega, m_mn_1 _⟩⟩
theorem k_lm1 {M : Int} {nc : Int} {cs : Int → Int} {fo : Int → Int} {ft : Int → Int} (hM : 2 ≤ M ∧ M ≤ 13) (hnc : 0 ≤ nc ∧ nc ≤ 6) (hcs : ∀ i, 0 ≤ cs i ∧ cs i ≤ 16) (hfo : ∀ i, 0 ≤ fo i ∧ fo i ≤ 1000000) (hft : ∀ i, 0 ≤ ft i ∧ ft i ≤ 1000000) {l v many : Int} (p0 : p_NS nc cs (many)) (c0 : 0 ≤ (-1) * many) (c1 : 0 ≤ l) (c2 : 0 ≤ (-1) * l + 1000000) (c3 : 0 ≤ v + (-1)) (c4 : 0 ≤ (-1) * v + 14) : p_LM M nc cs fo ft (l + 2097152 * v) := by
  have hN : many = m_N nc cs := p0
  exact ⟨l, v, by omega, by omega, by omega, Or.inl (by omega)⟩
theorem k_lm2 {M : Int} {nc : Int} {cs : Int → Int} {fo : Int → Int} {ft : Int → Int} (hM : 2 ≤ M ∧ M ≤ 13) (hnc : 0 ≤ nc ∧ nc ≤ 6) (hcs : ∀ i, 0 ≤ cs i ∧ cs i ≤ 16) (hfo : ∀ i, 0 ≤ fo i ∧ fo i ≤ 1000000) (hft : ∀ i, 0 ≤ ft i ∧ ft i ≤ 1000000) {r l v F G m : Int} (p0 : p_LM M nc cs fo ft (l + 2097152 * v)) (p1 : p_FO fo (F)) (p2 : p_FT ft (G)) (p3 : m = M) (c0 : 0 ≤ l) (c1 : 0 ≤ (-1) * l + 1000000) (c2 : 0 ≤ v + (-1)) (c3 : 0 ≤ (-1) * v + 13) (c4 : 0 ≤ m + (-1) * v) (c5 : 0 ≤ F + (-2097152) * v) (c6 : 0 ≤ (-1) * F + 2097152 * v + 1000000) (c7 : 0 ≤ G + (-2097152) * v) (c8 : 0 ≤ (-1) * G + 2097152 * v + 1000000) (c9 : 0 ≤ r + (-1) * l) (c10 : 0 ≤ l + (-1) * r) (c11 : 0 ≤ F + (-4194304) * v + G + (-1) * l) : p_LM M nc cs fo ft (r + 2097152 * v + 2097152) := by
  obtain ⟨l1, v1, e1, l01, l11, H1⟩ := p0
  obtain ⟨rfl, rfl⟩ : l = l1 ∧ v = v1 := by omega
  obtain ⟨z2, i2, e2, z02, z12, i02, i12, H2⟩ := p1
  obtain rfl : v = i2 := by omega
  obtain ⟨z3, i3, e3, z03, z13, i03, i13, H3⟩ := p2
  obtain rfl : v = i3 := by omega
  obtain rfl : r = l := by omega
  refine ⟨r, v + 1, by omega, by omega, by omega, H1.imp id (fun ⟨h1, h2, h3⟩ => ⟨by omega, by omega, m_mn_keep h3 (by omega)⟩)⟩
theorem k_lm3 {M : Int} {nc : Int} {cs : Int → Int} {fo : Int → Int} {ft : Int → Int} (hM : 2 ≤ M ∧ M ≤ 13) (hnc : 0 ≤ nc ∧ nc ≤ 6) (hcs : ∀ i, 0 ≤ cs i ∧ cs i ≤ 16) (hfo : ∀ i, 0 ≤ fo i ∧ fo i ≤ 1000000) (hft : ∀ i, 0 ≤ ft i ∧ ft i ≤ 1000000) {r l v F G m : Int} (p0 : p_LM M nc cs fo ft (l + 2097152 * v)) (p1 : p_FO fo (F)) (p2 : p_FT ft (G)) (p3 : m = M) (c0 : 0 ≤ l) (c1 : 0 ≤ (-1) * l + 1000000) (c2 : 0 ≤ v + (-1)) (c3 : 0 ≤ (-1) * v + 13) (c4 : 0 ≤ m + (-1) * v) (c5 : 0 ≤ F + (-2097152) * v) (c6 : 0 ≤ (-1) * F + 2097152 * v + 1000000) (c7 : 0 ≤ G + (-2097152) * v) (c8 : 0 ≤ (-1) * G + 2097152 * v + 1000000) (c9 : 0 ≤ r + (-1) * F + 4194304 * v + (-1) * G) (c10 : 0 ≤ F + (-4194304) * v + G + (-1) * r) (c11 : 0 ≤ l + (-1) * r) (c12 : 0 ≤ r) : p_LM M nc cs fo ft (r + 2097152 * v + 2097152) := by
  obtain ⟨l1, v1, e1, l01, l11, H1⟩ := p0
  obtain ⟨rfl, rfl⟩ : l = l1 ∧ v = v1 := by omega
  obtain ⟨z2, i2, e2, z02, z12, i02, i12, H2⟩ := p1
  obtain rfl : v = i2 := by omega
  obtain ⟨z3, i3, e3, z03, z13, i03, i13, H3⟩ := p2
  obtain rfl : v = i3 := by omega
  have hr : fo v + ft v = r := by omega
  refine ⟨r, v + 1, by omega, by omega, by omega, H1.imp id (fun ⟨h1, h2, h3⟩ => ⟨by omega, by omega, ?_⟩)⟩
  have := m_mn_new (f := fun q => fo q + ft q) h1 h3 (by omega)
  rw [hr] at this
  exact this
theorem k_m1a {M : Int} {FS : Int} {nt : Int → Int} {sl : Int → Int} {nc : Int} {cs : Int → Int} {fo : Int → Int} {ft : Int → Int} {wt : Int → Int} {ls : Int} (hM : 2 ≤ M ∧ M ≤ 13) (hFS : 1 ≤ FS ∧ FS ≤ 13) (hnt : ∀ i, 0 ≤ nt i ∧ nt i ≤ 2) (hsl : ∀ i, 0 ≤ sl i ∧ sl i ≤ 9) (hnc : 0 ≤ nc ∧ nc ≤ 6) (hcs : ∀ i, 0 ≤ cs i ∧ cs i ≤ 16) (hfo : ∀ i, 0 ≤ fo i ∧ fo i ≤ 1000000) (hft : ∀ i, 0 ≤ ft i ∧ ft i ≤ 1000000) (hwt : ∀ i, 0 ≤ wt i ∧ wt i ≤ 999999) {fr l v m : Int} (p0 : p_FD M FS nt sl nc cs fo wt (fr)) (p1 : p_AD M nt sl nc cs ft (0)) (p2 : p_LM M nc cs fo ft (l + 2097152 * v)) (p3 : l = ls) (p4 : m = M) (c0 : 0 ≤ l) (c1 : 0 ≤ (-1) * l + 999999) (c2 : 0 ≤ v + (-1)) (c3 : 0 ≤ (-1) * v + 14) (c4 : 0 ≤ fr) (c5 : 0 ≤ (-1) * fr + 1) (c6 : 0 ≤ v + (-1) * m + (-1)) : p_M1 M FS nt sl nc cs fo ft wt ls (fr) := by
  obtain ⟨f0, f1, f2⟩ := p0
  obtain ⟨l1, v1, e1, l01, l11, H1⟩ := p2
  obtain ⟨rfl, rfl⟩ : l = l1 ∧ v = v1 := by omega
  refine ⟨by omega, by omega, H1.imp id (fun ⟨h1, h2, h3⟩ => ⟨f2, p1, ?_, by omega⟩)⟩
  obtain rfl : v = M + 1 := by omega
  rw [← p3]
  exact h3
theorem k_m1b {M : Int} {FS : Int} {nt : Int → Int} {sl : Int → Int} {nc : Int} {cs : Int → Int} {fo : Int → Int} {ft : Int → Int} {wt : Int → Int} {ls : Int} (hM : 2 ≤ M ∧ M ≤ 13) (hFS : 1 ≤ FS ∧ FS ≤ 13) (hnt : ∀ i, 0 ≤ nt i ∧ nt i ≤ 2) (hsl : ∀ i, 0 ≤ sl i ∧ sl i ≤ 9) (hnc : 0 ≤ nc ∧ nc ≤ 6) (hcs : ∀ i, 0 ≤ cs i ∧ cs i ≤ 16) (hfo : ∀ i, 0 ≤ fo i ∧ fo i ≤ 1000000) (hft : ∀ i, 0 ≤ ft i ∧ ft i ≤ 1000000) (hwt : ∀ i, 0 ≤ wt i ∧ wt i ≤ 999999) {fr l v many : Int} (p0 : p_FD M FS nt sl nc cs fo wt (fr)) (p1 : p_AD M nt sl nc cs ft (0)) (p2 : p_LM M nc cs fo ft (l + 2097152 * v)) (p3 : l = ls) (p4 : p_NS nc cs (many)) (c0 : 0 ≤ l) (c1 : 0 ≤ (-1) * l + 999999) (c2 : 0 ≤ v + (-1)) (c3 : 0 ≤ (-1) * v + 14) (c4 : 0 ≤ fr) (c5 : 0 ≤ (-1) * fr + 1) (c6 : 0 ≤ (-1) * many) : p_M1 M FS nt sl nc cs fo ft wt ls (fr) := by
  have hN : many = m_N nc cs := p4
  exact ⟨by omega, by omega, Or.inl (by omega)⟩
theorem k_nw0 {M : Int} {nc : Int} {cs : Int → Int} {fo : Int → Int} {wt : Int → Int} {ls : Int} (hM : 2 ≤ M ∧ M ≤ 13) (hnc : 0 ≤ nc ∧ nc ≤ 6) (hcs : ∀ i, 0 ≤ cs i ∧ cs i ≤ 16) (hfo : ∀ i, 0 ≤ fo i ∧ fo i ≤ 1000000) (hwt : ∀ i, 0 ≤ wt i ∧ wt i ≤ 999999) {n many : Int} (p0 : p_NS nc cs (many)) (c0 : 0 ≤ n) (c1 : 0 ≤ (-1) * n) (c2 : 0 ≤ many + (-1)) : p_NW M nc cs fo wt ls (n + 16777216) := by
  have hN : many = m_N nc cs := p0
  obtain rfl : n = 0 := by omega
  exact ⟨0, 1, by omega, by omega, by omega, by omega, by omega, by omega, rfl⟩
theorem k_nw1 {M : Int} {nc : Int} {cs : Int → Int} {fo : Int → Int} {wt : Int → Int} {ls : Int} (hM : 2 ≤ M ∧ M ≤ 13) (hnc : 0 ≤ nc ∧ nc ≤ 6) (hcs : ∀ i, 0 ≤ cs i ∧ cs i ≤ 16) (hfo : ∀ i, 0 ≤ fo i ∧ fo i ≤ 1000000) (hwt : ∀ i, 0 ≤ wt i ∧ wt i ≤ 999999) {n a v many F l m : Int} (p0 : p_NW M nc cs fo wt ls (n + 16777216 * v)) (p1 : p_NS nc cs (many)) (p2 : p_FO fo (F)) (p3 : l = ls) (p4 : m = M) (p5 : p_WT wt (a + 14680064 * many + 1048576 * v + (-14680064))) (c0 : 0 ≤ n) (c1 : 0 ≤ a) (c2 : 0 ≤ (-1) * a + 999999) (c3 : 0 ≤ (-1) * n + (-1) * a + 16777215) (c4 : 0 ≤ v + (-1)) (c5 : 0 ≤ (-1) * v + 13) (c6 : 0 ≤ m + (-1) * v) (c7 : 0 ≤ many + (-1)) (c8 : 0 ≤ (-1) * many + 96) (c9 : 0 ≤ F + (-29360128) * many + (-2097152) * v + 29360128) (c10 : 0 ≤ (-1) * F + 29360128 * many + 2097152 * v + (-28360128)) (c11 : 0 ≤ l + (-1) * F + 29360128 * many + 2097152 * v + (-29360128)) (c12 : 0 ≤ F + (-29360128) * many + (-2097152) * v + (-1) * l + 29360128) : p_NW M nc cs fo wt ls (n + a + 16777216 * v + 16777216) := by
  have hN : many = m_N nc cs := p1
  obtain ⟨n1, v1, e1, n01, n11, v01, v11, N11, H1⟩ := p0
  obtain ⟨rfl, rfl⟩ : n = n1 ∧ v = v1 := by omega
  obtain ⟨z2, i2, e2, z02, z12, i02, i12, H2⟩ := p2
  obtain rfl : i2 = 14 * (many - 1) + v := by omega
  obtain ⟨z3, i3, e3, z03, z13, i03, i13, H3⟩ := p5
  obtain ⟨rfl, rfl⟩ : a = z3 ∧ i3 = 14 * (many - 1) + v := by omega
  refine ⟨n + a, v + 1, by omega, by omega, by omega, by omega, by omega, by omega, ?_⟩
  unfold m_nw at H1 ⊢
  rw [m_ws_step (by omega), ← H1, ← hN, if_pos (by omega), H3]
theorem k_nw2 {M : Int} {nc : Int} {cs : Int → Int} {fo : Int → Int} {wt : Int → Int} {ls : Int} (hM : 2 ≤ M ∧ M ≤ 13) (hnc : 0 ≤ nc ∧ nc ≤ 6) (hcs : ∀ i, 0 ≤ cs i ∧ cs i ≤ 16) (hfo : ∀ i, 0 ≤ fo i ∧ fo i ≤ 1000000) (hwt : ∀ i, 0 ≤ wt i ∧ wt i ≤ 999999) {n a v many F l m : Int} (p0 : p_NW M nc cs fo wt ls (n + 16777216 * v)) (p1 : p_NS nc cs (many)) (p2 : p_FO fo (F)) (p3 : l = ls) (p4 : m = M) (c0 : 0 ≤ n) (c1 : 0 ≤ a) (c2 : 0 ≤ (-1) * a + 999999) (c3 : 0 ≤ (-1) * n + (-1) * a + 16777215) (c4 : 0 ≤ v + (-1)) (c5 : 0 ≤ (-1) * v + 13) (c6 : 0 ≤ m + (-1) * v) (c7 : 0 ≤ many + (-1)) (c8 : 0 ≤ (-1) * many + 96) (c9 : 0 ≤ F + (-29360128) * many + (-2097152) * v + 29360128) (c10 : 0 ≤ (-1) * F + 29360128 * many + 2097152 * v + (-28360128)) (c11 : 0 ≤ (-1) * a) (c12 : 0 ≤ l + (-1) * F + 29360128 * many + 2097152 * v + (-29360129)) : p_NW M nc cs fo wt ls (n + a + 16777216 * v + 16777216) := by
  have hN : many = m_N nc cs := p1
  obtain ⟨n1, v1, e1, n01, n11, v01, v11, N11, H1⟩ := p0
  obtain ⟨rfl, rfl⟩ : n = n1 ∧ v = v1 := by omega
  obtain ⟨z2, i2, e2, z02, z12, i02, i12, H2⟩ := p2
  obtain rfl : i2 = 14 * (many - 1) + v := by omega
  obtain rfl : a = 0 := by omega
  refine ⟨n + 0, v + 1, by omega, by omega, by omega, by omega, by omega, by omega, ?_⟩
  unfold m_nw at H1 ⊢
  rw [m_ws_step (by omega), ← H1, ← hN, if_neg (by omega)]
theorem k_nw3 {M : Int} {nc : Int} {cs : Int → Int} {fo : Int → Int} {wt : Int → Int} {ls : Int} (hM : 2 ≤ M ∧ M ≤ 13) (hnc : 0 ≤ nc ∧ nc ≤ 6) (hcs : ∀ i, 0 ≤ cs i ∧ cs i ≤ 16) (hfo : ∀ i, 0 ≤ fo i ∧ fo i ≤ 1000000) (hwt : ∀ i, 0 ≤ wt i ∧ wt i ≤ 999999) {n a v many F l m : Int} (p0 : p_NW M nc cs fo wt ls (n + 16777216 * v)) (p1 : p_NS nc cs (many)) (p2 : p_FO fo (F)) (p3 : l = ls) (p4 : m = M) (c0 : 0 ≤ n) (c1 : 0 ≤ a) (c2 : 0 ≤ (-1) * a + 999999) (c3 : 0 ≤ (-1) * n + (-1) * a + 16777215) (c4 : 0 ≤ v + (-1)) (c5 : 0 ≤ (-1) * v + 13) (c6 : 0 ≤ m + (-1) * v) (c7 : 0 ≤ many + (-1)) (c8 : 0 ≤ (-1) * many + 96) (c9 : 0 ≤ F + (-29360128) * many + (-2097152) * v + 29360128) (c10 : 0 ≤ (-1) * F + 29360128 * many + 2097152 * v + (-28360128)) (c11 : 0 ≤ (-1) * a) (c12 : 0 ≤ F + (-29360128) * many + (-2097152) * v + (-1) * l + 29360127) : p_NW M nc cs fo wt ls (n + a + 16777216 * v + 16777216) := by
  have hN : many = m_N nc cs := p1
  obtain ⟨n1, v1, e1, n01, n11, v01, v11, N11, H1⟩ := p0
  obtain ⟨rfl, rfl⟩ : n = n1 ∧ v = v1 := by omega
  obtain ⟨z2, i2, e2, z02, z12, i02, i12, H2⟩ := p2
  obtain rfl : i2 = 14 * (many - 1) + v := by omega
  obtain rfl : a = 0 := by omega
  refine ⟨n + 0, v + 1, by omega, by omega, by omega, by omega, by omega, by omega, ?_⟩
  unfold m_nw at H1 ⊢
  rw [m_ws_step (by omega), ← H1, ← hN, if_neg (by omega)]
theorem k_nwp {M : Int} {FS : Int} {nt : Int → Int} {sl : Int → Int} {nc : Int} {cs : Int → Int} {fo : Int → Int} {ft : Int → Int} {wt : Int → Int} {ls : Int} (hM : 2 ≤ M ∧ M ≤ 13) (hFS : 1 ≤ FS ∧ FS ≤ 13) (hnt : ∀ i, 0 ≤ nt i ∧ nt i ≤ 2) (hsl : ∀ i, 0 ≤ sl i ∧ sl i ≤ 9) (hnc : 0 ≤ nc ∧ nc ≤ 6) (hcs : ∀ i, 0 ≤ cs i ∧ cs i ≤ 16) (hfo : ∀ i, 0 ≤ fo i ∧ fo i ≤ 1000000) (hft : ∀ i, 0 ≤ ft i ∧ ft i ≤ 1000000) (hwt : ∀ i, 0 ≤ wt i ∧ wt i ≤ 999999) {n v many m fr : Int} (p0 : p_NW M nc cs fo wt ls (n + 16777216 * v)) (p1 : p_NS nc cs (many)) (p2 : m = M) (p3 : p_M1 M FS nt sl nc cs fo ft wt ls (fr)) (c0 : 0 ≤ n) (c1 : 0 ≤ (-1) * n + 16777215) (c2 : 0 ≤ v + (-1)) (c3 : 0 ≤ (-1) * v + 14) (c4 : 0 ≤ v + (-1) * m + (-1)) (c5 : 0 ≤ many + (-1)) : 0 ≤ n + (-1) := by
  have hN : many = m_N nc cs := p1
  obtain ⟨m0, m1, m2⟩ := p3
  obtain ⟨n1, v1, e1, n01, n11, v01, v11, N11, H1⟩ := p0
  obtain ⟨rfl, rfl⟩ : n = n1 ∧ v = v1 := by omega
  have hH : m_H M FS nt sl (m_N nc cs) fr fo ft wt ls := ⟨hM, hsl, hfo, hft, hwt, m2.resolve_left (by omega)⟩
  have := m_x_nw hH (by omega)
  obtain rfl : v = M + 1 := by omega
  rw [show (M + 1 - 1).toNat = M.toNat by omega] at H1
  omega
theorem k_mw1 {M : Int} {nc : Int} {cs : Int → Int} {fo : Int → Int} {wt : Int → Int} {ls : Int} (hM : 2 ≤ M ∧ M ≤ 13) (hnc : 0 ≤ nc ∧ nc ≤ 6) (hcs : ∀ i, 0 ≤ cs i ∧ cs i ≤ 16) (hfo : ∀ i, 0 ≤ fo i ∧ fo i ≤ 1000000) (hwt : ∀ i, 0 ≤ wt i ∧ wt i ≤ 999999) {r n v m : Int} (p0 : p_NW M nc cs fo wt ls (n + 16777216 * v)) (p1 : m = M) (c0 : 0 ≤ n) (c1 : 0 ≤ (-1) * n + 16777215) (c2 : 0 ≤ v + (-1)) (c3 : 0 ≤ (-1) * v + 14) (c4 : 0 ≤ v + (-1) * m + (-1)) (c5 : 0 ≤ r + (-1) * n) (c6 : 0 ≤ n + (-1) * r) (c7 : 0 ≤ (-1) * n + 999999) : p_M2 M nc cs fo wt ls (r) := by
  obtain ⟨n1, v1, e1, n01, n11, v01, v11, N11, H1⟩ := p0
  obtain ⟨rfl, rfl⟩ : n = n1 ∧ v = v1 := by omega
  obtain rfl : v = M + 1 := by omega
  rw [show (M + 1 - 1).toNat = M.toNat by omega] at H1
  refine Or.inr ?_
  rw [← H1]
  unfold m_lim
  split <;> omega
theorem k_mw2 {M : Int} {nc : Int} {cs : Int → Int} {fo : Int → Int} {wt : Int → Int} {ls : Int} (hM : 2 ≤ M ∧ M ≤ 13) (hnc : 0 ≤ nc ∧ nc ≤ 6) (hcs : ∀ i, 0 ≤ cs i ∧ cs i ≤ 16) (hfo : ∀ i, 0 ≤ fo i ∧ fo i ≤ 1000000) (hwt : ∀ i, 0 ≤ wt i ∧ wt i ≤ 999999) {r n v m : Int} (p0 : p_NW M nc cs fo wt ls (n + 16777216 * v)) (p1 : m = M) (c0 : 0 ≤ n) (c1 : 0 ≤ (-1) * n + 16777215) (c2 : 0 ≤ v + (-1)) (c3 : 0 ≤ (-1) * v + 14) (c4 : 0 ≤ v + (-1) * m + (-1)) (c5 : 0 ≤ r + (-999999)) (c6 : 0 ≤ (-1) * r + 999999) (c7 : 0 ≤ n + (-999999)) : p_M2 M nc cs fo wt ls (r) := by
  obtain ⟨n1, v1, e1, n01, n11, v01, v11, N11, H1⟩ := p0
  obtain ⟨rfl, rfl⟩ : n = n1 ∧ v = v1 := by omega
  obtain rfl : v = M + 1 := by omega
  rw [show (M + 1 - 1).toNat = M.toNat by omega] at H1
  refine Or.inr ?_
  rw [← H1]
  unfold m_lim
  split <;> omega
theorem k_mw3 {M : Int} {nc : Int} {cs : Int → Int} {fo : Int → Int} {wt : Int → Int} {ls : Int} (hM : 2 ≤ M ∧ M ≤ 13) (hnc : 0 ≤ nc ∧ nc ≤ 6) (hcs : ∀ i, 0 ≤ cs i ∧ cs i ≤ 16) (hfo : ∀ i, 0 ≤ fo i ∧ fo i ≤ 1000000) (hwt : ∀ i, 0 ≤ wt i ∧ wt i ≤ 999999) {r many : Int} (p0 : p_NS nc cs (many)) (c0 : 0 ≤ (-1) * many) : p_M2 M nc cs fo wt ls (r) := by
  have hN : many = m_N nc cs := p0
  exact Or.inl (by omega)
theorem k_fp {fo : Int → Int} (hfo : ∀ i, 0 ≤ fo i ∧ fo i ≤ 1000000) {i z : Int} (zfo : 0 ≤ i - 0 → i - 0 < 1344 → fo (i - 0) = z) (c0 : 0 ≤ i) (c1 : 0 ≤ (-1) * i + 1343) (c2 : 0 ≤ z) (c3 : 0 ≤ (-1) * z + 1000000) : p_FP fo (z + 2097152 * i) := by
  refine ⟨z, i, by omega, by omega, by omega, by omega, by omega, ?_⟩
  have := zfo (by omega) (by omega)
  rw [show i - 0 = i by omega] at this
  exact this
theorem k_no1 {M : Int} {nc : Int} {cs : Int → Int} {fo : Int → Int} {ft : Int → Int} {ls : Int} (hM : 2 ≤ M ∧ M ≤ 13) (hnc : 0 ≤ nc ∧ nc ≤ 6) (hcs : ∀ i, 0 ≤ cs i ∧ cs i ≤ 16) (hfo : ∀ i, 0 ≤ fo i ∧ fo i ≤ 1000000) (hft : ∀ i, 0 ≤ ft i ∧ ft i ≤ 1000000) {v : Int} (c0 : 0 ≤ v + (-1)) (c1 : 0 ≤ (-1) * v + 1) : p_NO M nc cs fo ft ls (v) := by
  exact Or.inr (fun q h1 h3 h2 => by omega)
theorem k_no0 {M : Int} {FS : Int} {nt : Int → Int} {sl : Int → Int} {nc : Int} {cs : Int → Int} {fo : Int → Int} {ft : Int → Int} {wt : Int → Int} {ls : Int} (hM : 2 ≤ M ∧ M ≤ 13) (hFS : 1 ≤ FS ∧ FS ≤ 13) (hnt : ∀ i, 0 ≤ nt i ∧ nt i ≤ 2) (hsl : ∀ i, 0 ≤ sl i ∧ sl i ≤ 9) (hnc : 0 ≤ nc ∧ nc ≤ 6) (hcs : ∀ i, 0 ≤ cs i ∧ cs i ≤ 16) (hfo : ∀ i, 0 ≤ fo i ∧ fo i ≤ 1000000) (hft : ∀ i, 0 ≤ ft i ∧ ft i ≤ 1000000) (hwt : ∀ i, 0 ≤ wt i ∧ wt i ≤ 999999) {v f fr : Int} (p0 : f = FS) (p1 : p_M1 M FS nt sl nc cs fo ft wt ls (fr)) (c0 : 0 ≤ (-1) * fr) (c1 : 0 ≤ v + (-1) * f) (c2 : 0 ≤ f + (-1) * v) (c3 : 0 ≤ v + (-1)) (c4 : 0 ≤ (-1) * v + 13) : p_NO M nc cs fo ft ls (v) := by
  obtain ⟨m0, m1, m2⟩ := p1
  obtain rfl : fr = 0 := by omega
  refine m2.imp id (fun m3 q h1 hq h2 hon => ?_)
  have hr := (m3.1.1 q h1 (by omega)).1.2 (fun hb => by
    rcases hb.2.2 with e | e <;> omega)
  have hls := m3.2.2.2
  have hft0 := hft (14 * 0 + q)
  unfold m_on at hon
  rw [show (14 : Int) * 0 + q = q by omega] at hon hft0
  omega
theorem k_nov {M : Int} {FS : Int} {nt : Int → Int} {sl : Int → Int} {nc : Int} {cs : Int → Int} {fo : Int → Int} {ft : Int → Int} {wt : Int → Int} {ls : Int} (hM : 2 ≤ M ∧ M ≤ 13) (hFS : 1 ≤ FS ∧ FS ≤ 13) (hnt : ∀ i, 0 ≤ nt i ∧ nt i ≤ 2) (hsl : ∀ i, 0 ≤ sl i ∧ sl i ≤ 9) (hnc : 0 ≤ nc ∧ nc ≤ 6) (hcs : ∀ i, 0 ≤ cs i ∧ cs i ≤ 16) (hfo : ∀ i, 0 ≤ fo i ∧ fo i ≤ 1000000) (hft : ∀ i, 0 ≤ ft i ∧ ft i ≤ 1000000) (hwt : ∀ i, 0 ≤ wt i ∧ wt i ≤ 999999) {v many fr : Int} (p0 : p_NO M nc cs fo ft ls (v)) (p1 : p_NS nc cs (many)) (p2 : p_M1 M FS nt sl nc cs fo ft wt ls (fr)) (c0 : 0 ≤ many + (-1)) (c1 : 0 ≤ v + (-1)) : 0 ≤ (-1) * v + 13 := by
  have hN : many = m_N nc cs := p1
  obtain ⟨m0, m1, m2⟩ := p2
  have hH : m_H M FS nt sl (m_N nc cs) fr fo ft wt ls := ⟨hM, hsl, hfo, hft, hwt, m2.resolve_left (by omega)⟩
  obtain ⟨q, q1, q2, q3⟩ := m_x_on hH 0 (by omega)
  have h := p0.resolve_left (by omega)
  by_cases e : q < v
  · exact absurd q3 (h q q1 q2 e)
  · omega
theorem k_non {M : Int} {nc : Int} {cs : Int → Int} {fo : Int → Int} {ft : Int → Int} {ls : Int} (hM : 2 ≤ M ∧ M ≤ 13) (hnc : 0 ≤ nc ∧ nc ≤ 6) (hcs : ∀ i, 0 ≤ cs i ∧ cs i ≤ 16) (hfo : ∀ i, 0 ≤ fo i ∧ fo i ≤ 1000000) (hft : ∀ i, 0 ≤ ft i ∧ ft i ≤ 1000000) {v : Int} (p0 : p_NO M nc cs fo ft ls (v)) (p1 : p_ON fo ft ls (2 * v)) (c0 : 0 ≤ v + (-1)) (c1 : 0 ≤ (-1) * v + 13) : p_NO M nc cs fo ft ls (v + 1) := by
  obtain ⟨r1, v1, s1, e1, r01, r11, v01, v11, s01, s11, H1⟩ := p1
  obtain ⟨rfl, rfl, rfl⟩ : r1 = 0 ∧ v = v1 ∧ s1 = 0 := by omega
  refine p0.imp id (fun h q h1 h3 h2 => ?_)
  by_cases e : q = v
  · subst e
    intro hc
    have := H1.mpr hc
    omega
  · exact h q h1 h3 (by omega)
theorem k_op1 {M : Int} {FS : Int} {nt : Int → Int} {sl : Int → Int} {nc : Int} {cs : Int → Int} {fo : Int → Int} {ft : Int → Int} {wt : Int → Int} {ls : Int} (hM : 2 ≤ M ∧ M ≤ 13) (hFS : 1 ≤ FS ∧ FS ≤ 13) (hnt : ∀ i, 0 ≤ nt i ∧ nt i ≤ 2) (hsl : ∀ i, 0 ≤ sl i ∧ sl i ≤ 9) (hnc : 0 ≤ nc ∧ nc ≤ 6) (hcs : ∀ i, 0 ≤ cs i ∧ cs i ≤ 16) (hfo : ∀ i, 0 ≤ fo i ∧ fo i ≤ 1000000) (hft : ∀ i, 0 ≤ ft i ∧ ft i ≤ 1000000) (hwt : ∀ i, 0 ≤ wt i ∧ wt i ≤ 999999) {v many fr : Int} (p0 : p_ON fo ft ls (2 * v + 1)) (p1 : p_NO M nc cs fo ft ls (v)) (p2 : p_M1 M FS nt sl nc cs fo ft wt ls (fr)) (p3 : p_NS nc cs (many)) (c0 : 0 ≤ v + (-1)) (c1 : 0 ≤ (-1) * v + 13) (c2 : 0 ≤ many + (-1)) : p_OP M nc cs fo ft ls (v + 16) := by
  have hN : many = m_N nc cs := p3
  obtain ⟨m0, m1, m2⟩ := p2
  obtain ⟨r1, v1, s1, e1, r01, r11, v01, v11, s01, s11, H1⟩ := p0
  obtain ⟨rfl, rfl, rfl⟩ : r1 = 1 ∧ v = v1 ∧ s1 = 0 := by omega
  have hH : m_H M FS nt sl (m_N nc cs) fr fo ft wt ls := ⟨hM, hsl, hfo, hft, hwt, m2.resolve_left (by omega)⟩
  obtain ⟨q, q1, q2, q3⟩ := m_x_on hH 0 (by omega)
  have h := p1.resolve_left (by omega)
  have hv : v ≤ M := by
    by_cases e : q < v
    · exact absurd q3 (h q q1 q2 e)
    · omega
  exact ⟨v, 1, by omega, by omega, by omega, by omega, Or.inr ⟨by omega, hv, H1.mp rfl⟩⟩
theorem k_op0 {M : Int} {nc : Int} {cs : Int → Int} {fo : Int → Int} {ft : Int → Int} {ls : Int} (hM : 2 ≤ M ∧ M ≤ 13) (hnc : 0 ≤ nc ∧ nc ≤ 6) (hcs : ∀ i, 0 ≤ cs i ∧ cs i ≤ 16) (hfo : ∀ i, 0 ≤ fo i ∧ fo i ≤ 1000000) (hft : ∀ i, 0 ≤ ft i ∧ ft i ≤ 1000000) {v many : Int} (p0 : p_NS nc cs (many)) (c0 : 0 ≤ (-1) * many) (c1 : 0 ≤ v) (c2 : 0 ≤ (-1) * v + 15) : p_OP M nc cs fo ft ls (v + 16) := by
  have hN : many = m_N nc cs := p0
  exact ⟨v, 1, by omega, by omega, by omega, by omega, Or.inl (by omega)⟩
theorem k_opv {M : Int} {nc : Int} {cs : Int → Int} {fo : Int → Int} {ft : Int → Int} {ls : Int} (hM : 2 ≤ M ∧ M ≤ 13) (hnc : 0 ≤ nc ∧ nc ≤ 6) (hcs : ∀ i, 0 ≤ cs i ∧ cs i ≤ 16) (hfo : ∀ i, 0 ≤ fo i ∧ fo i ≤ 1000000) (hft : ∀ i, 0 ≤ ft i ∧ ft i ≤ 1000000) {v s many : Int} (p0 : p_OP M nc cs fo ft ls (v + 16 * s)) (p1 : p_NS nc cs (many)) (c0 : 0 ≤ many + (-1) * s + (-1)) (c1 : 0 ≤ s + (-1)) (c2 : 0 ≤ (-1) * s + 95) (c3 : 0 ≤ v) (c4 : 0 ≤ (-1) * v + 15) : 0 ≤ (-1) * v + 13 := by
  have hN : many = m_N nc cs := p1
  obtain ⟨v1, s1, e1, v01, v11, s01, H1⟩ := p0
  obtain ⟨rfl, rfl⟩ : v = v1 ∧ s = s1 := by omega
  obtain ⟨g1, g2, g3⟩ := H1.resolve_left (by omega)
  omega
theorem k_opw {M : Int} {nc : Int} {cs : Int → Int} {fo : Int → Int} {ft : Int → Int} {ls : Int} (hM : 2 ≤ M ∧ M ≤ 13) (hnc : 0 ≤ nc ∧ nc ≤ 6) (hcs : ∀ i, 0 ≤ cs i ∧ cs i ≤ 16) (hfo : ∀ i, 0 ≤ fo i ∧ fo i ≤ 1000000) (hft : ∀ i, 0 ≤ ft i ∧ ft i ≤ 1000000) {v s many : Int} (p0 : p_OP M nc cs fo ft ls (v + 16 * s)) (p1 : p_NS nc cs (many)) (c0 : 0 ≤ many + (-1) * s + (-1)) (c1 : 0 ≤ s + (-1)) (c2 : 0 ≤ (-1) * s + 95) (c3 : 0 ≤ v) (c4 : 0 ≤ (-1) * v + 15) : 0 ≤ v + (-1) := by
  have hN : many = m_N nc cs := p1
  obtain ⟨v1, s1, e1, v01, v11, s01, H1⟩ := p0
  obtain ⟨rfl, rfl⟩ : v = v1 ∧ s = s1 := by omega
  obtain ⟨g1, g2, g3⟩ := H1.resolve_left (by omega)
  omega
theorem k_nb0 {M : Int} {sl : Int → Int} {fo : Int → Int} {ft : Int → Int} {ls : Int} (hM : 2 ≤ M ∧ M ≤ 13) (hsl : ∀ i, 0 ≤ sl i ∧ sl i ≤ 9) (hfo : ∀ i, 0 ≤ fo i ∧ fo i ≤ 1000000) (hft : ∀ i, 0 ≤ ft i ∧ ft i ≤ 1000000) {bb v s : Int} (c0 : 0 ≤ bb) (c1 : 0 ≤ (-1) * bb) (c2 : 0 ≤ v) (c3 : 0 ≤ (-1) * v + 15) (c4 : 0 ≤ s + (-1)) (c5 : 0 ≤ (-1) * s + 95) : p_NB M sl fo ft ls (bb + 16 * v + 256 * s) := by
  exact ⟨bb, v, s, by omega, by omega, by omega, by omega, by omega, by omega, fun q h1 h2 => by omega⟩
theorem k_nbm {M : Int} {FS : Int} {nt : Int → Int} {sl : Int → Int} {nc : Int} {cs : Int → Int} {fo : Int → Int} {ft : Int → Int} {wt : Int → Int} {ls : Int} (hM : 2 ≤ M ∧ M ≤ 13) (hFS : 1 ≤ FS ∧ FS ≤ 13) (hnt : ∀ i, 0 ≤ nt i ∧ nt i ≤ 2) (hsl : ∀ i, 0 ≤ sl i ∧ sl i ≤ 9) (hnc : 0 ≤ nc ∧ nc ≤ 6) (hcs : ∀ i, 0 ≤ cs i ∧ cs i ≤ 16) (hfo : ∀ i, 0 ≤ fo i ∧ fo i ≤ 1000000) (hft : ∀ i, 0 ≤ ft i ∧ ft i ≤ 1000000) (hwt : ∀ i, 0 ≤ wt i ∧ wt i ≤ 999999) {bb v s many fr : Int} (p0 : p_NB M sl fo ft ls (bb + 16 * v + 256 * s)) (p1 : p_OP M nc cs fo ft ls (v + 16 * s)) (p2 : p_M1 M FS nt sl nc cs fo ft wt ls (fr)) (p3 : p_NS nc cs (many)) (c0 : 0 ≤ bb) (c1 : 0 ≤ (-1) * bb + 15) (c2 : 0 ≤ v + (-1)) (c3 : 0 ≤ (-1) * v + 13) (c4 : 0 ≤ s + (-1)) (c5 : 0 ≤ (-1) * s + 95) (c6 : 0 ≤ many + (-1) * s + (-1)) : 0 ≤ (-1) * bb + 12 := by
  have hN : many = m_N nc cs := p3
  obtain ⟨m0, m1, m2⟩ := p2
  obtain ⟨b1, v1, s1, e1, b01, b11, v01, v11, s01, H1⟩ := p0
  obtain ⟨rfl, rfl, rfl⟩ : bb = b1 ∧ v = v1 ∧ s = s1 := by omega
  obtain ⟨v2, s2, e2, v02, v12, s02, H2⟩ := p1
  obtain ⟨rfl, rfl⟩ : v = v2 ∧ s = s2 := by omega
  have hH : m_H M FS nt sl (m_N nc cs) fr fo ft wt ls := ⟨hM, hsl, hfo, hft, hwt, m2.resolve_left (by omega)⟩
  obtain ⟨g1, g2, g3⟩ := H2.resolve_left (by omega)
  obtain ⟨u, u1, u2, u3, u4⟩ := m_x_next hH (s := s) (v := v) (by omega) (by omega) g1 g2 g3
  obtain ⟨c, d1, d2, d3⟩ : ∃ c, 0 ≤ c ∧ c < M ∧ m_af M v c = u := by
    by_cases e : v + 1 ≤ u
    · refine ⟨u - 1 - v, by omega, by omega, ?_⟩
      unfold m_af
      rw [show v + (u - 1 - v) = u - 1 by omega, Int.emod_eq_of_lt (by omega) (by omega)]
      omega
    · refine ⟨u - 1 - v + M, by omega, by omega, ?_⟩
      unfold m_af
      rw [show v + (u - 1 - v + M) = u - 1 + M by omega, Int.add_emod_right, Int.emod_eq_of_lt (by omega) (by omega)]
      omega
  by_cases e : c < bb
  · exact absurd ⟨by rw [d3]; exact u3, by rw [d3]; exact u4⟩ (H1 c d1 e)
  · omega
theorem k_nb1 {M : Int} {sl : Int → Int} {fo : Int → Int} {ft : Int → Int} {ls : Int} (hM : 2 ≤ M ∧ M ≤ 13) (hsl : ∀ i, 0 ≤ sl i ∧ sl i ≤ 9) (hfo : ∀ i, 0 ≤ fo i ∧ fo i ≤ 1000000) (hft : ∀ i, 0 ≤ ft i ∧ ft i ≤ 1000000) {bb v s A : Int} (p0 : p_NB M sl fo ft ls (bb + 16 * v + 256 * s)) (p1 : p_AF M (A)) (p2 : p_ON fo ft ls (2 * A + (-32) * bb + (-512) * v + 32 * s)) (c0 : 0 ≤ bb) (c1 : 0 ≤ (-1) * bb + 15) (c2 : 0 ≤ v + (-1)) (c3 : 0 ≤ (-1) * v + 13) (c4 : 0 ≤ s + (-1)) (c5 : 0 ≤ (-1) * s + 95) (c6 : 0 ≤ (-1) * bb + 13) (c7 : 0 ≤ A + (-16) * bb + (-256) * v) (c8 : 0 ≤ (-1) * A + 16 * bb + 256 * v + 15) : p_NB M sl fo ft ls (bb + 16 * v + 256 * s + 1) := by
  obtain ⟨b1, v1, s1, e1, b01, b11, v01, v11, s01, H1⟩ := p0
  obtain ⟨rfl, rfl, rfl⟩ : bb = b1 ∧ v = v1 ∧ s = s1 := by omega
  obtain ⟨r2, b2, v2, e2, r02, r12, b02, b12, v02, v12, H2⟩ := p1
  obtain ⟨rfl, rfl⟩ : bb = b2 ∧ v = v2 := by omega
  obtain ⟨r3, v3, s3, e3, r03, r13, v03, v13, s03, s13, H3⟩ := p2
  obtain ⟨rfl, rfl, rfl⟩ : r3 = 0 ∧ v3 = A - 16 * bb - 256 * v ∧ s = s3 := by omega
  refine ⟨bb + 1, v, s, by omega, by omega, by omega, by omega, by omega, by omega, fun q h1 h2 => ?_⟩
  by_cases e : q = bb
  · subst e
    rintro ⟨k1, k2⟩
    rw [show A - 16 * q - 256 * v = m_af M v q by omega] at H3
    have := H3.mpr k1
    omega
  · exact H1 q h1 (by omega)
theorem k_sv {M : Int} {sl : Int → Int} {fo : Int → Int} (hM : 2 ≤ M ∧ M ≤ 13) (hsl : ∀ i, 0 ≤ sl i ∧ sl i ≤ 9) (hfo : ∀ i, 0 ≤ fo i ∧ fo i ≤ 1000000) {f t bb v s A : Int} (p0 : p_AF M (A)) (p1 : p_FO fo (f + 29360128 * s + 2097152 * v + (-29360128))) (p2 : p_ST M sl (t + 16 * A + (-256) * bb + (-3840) * v + 4096 * s)) (c0 : 0 ≤ bb) (c1 : 0 ≤ (-1) * bb + 15) (c2 : 0 ≤ v + (-1)) (c3 : 0 ≤ (-1) * v + 13) (c4 : 0 ≤ s + (-1)) (c5 : 0 ≤ (-1) * s + 95) (c6 : 0 ≤ A + (-16) * bb + (-256) * v) (c7 : 0 ≤ (-1) * A + 16 * bb + 256 * v + 15) (c8 : 0 ≤ f) (c9 : 0 ≤ (-1) * f + 1000000) (c10 : 0 ≤ t) (c11 : 0 ≤ (-1) * t + 15) : p_SV M sl fo (f + t + 2097152 * bb + 33554432 * v + 536870912 * s) := by
  obtain ⟨r1, b1, v1, e1, r01, r11, b01, b11, v01, v11, H1⟩ := p0
  obtain ⟨rfl, rfl⟩ : bb = b1 ∧ v = v1 := by omega
  obtain ⟨z2, i2, e2, z02, z12, i02, i12, H2⟩ := p1
  obtain ⟨rfl, rfl⟩ : f = z2 ∧ i2 = 14 * (s - 1) + v := by omega
  obtain ⟨t3, v3, u3, s3, e3, t03, t13, v03, v13, u03, u13, s03, s13, H3⟩ := p2
  obtain ⟨rfl, rfl, rfl, rfl⟩ : t = t3 ∧ v3 = A - 16 * bb - 256 * v ∧ v = u3 ∧ s = s3 := by omega
  refine ⟨f + t, bb, v, s, by omega, by omega, by omega, by omega, by omega, by omega, by omega, ?_⟩
  rw [show A - 16 * bb - 256 * v = m_af M v bb by omega] at H3
  omega
theorem k_nb2 {M : Int} {sl : Int → Int} {fo : Int → Int} {ft : Int → Int} {ls : Int} (hM : 2 ≤ M ∧ M ≤ 13) (hsl : ∀ i, 0 ≤ sl i ∧ sl i ≤ 9) (hfo : ∀ i, 0 ≤ fo i ∧ fo i ≤ 1000000) (hft : ∀ i, 0 ≤ ft i ∧ ft i ≤ 1000000) {bb v s A X G : Int} (p0 : p_NB M sl fo ft ls (bb + 16 * v + 256 * s)) (p1 : p_AF M (A)) (p2 : p_SV M sl fo (X)) (p3 : p_FP fo (G)) (c0 : 0 ≤ bb) (c1 : 0 ≤ (-1) * bb + 15) (c2 : 0 ≤ v + (-1)) (c3 : 0 ≤ (-1) * v + 13) (c4 : 0 ≤ s + (-1)) (c5 : 0 ≤ (-1) * s + 95) (c6 : 0 ≤ (-1) * bb + 13) (c7 : 0 ≤ A + (-16) * bb + (-256) * v + (-1)) (c8 : 0 ≤ (-1) * A + 16 * bb + 256 * v + 13) (c9 : 0 ≤ X + (-2097152) * bb + (-33554432) * v + (-536870912) * s) (c10 : 0 ≤ (-1) * X + 2097152 * bb + 33554432 * v + 536870912 * s + 1000100) (c11 : 0 ≤ G + (-29360128) * s + (-2097152) * A + 33554432 * bb + 536870912 * v) (c12 : 0 ≤ (-1) * G + 29360128 * s + 2097152 * A + (-33554432) * bb + (-536870912) * v + 1000000) (c13 : 0 ≤ X + (-35651584) * bb + (-570425344) * v + (-507510784) * s + (-1) * G + 2097152 * A + (-1)) : p_NB M sl fo ft ls (bb + 16 * v + 256 * s + 1) := by
  obtain ⟨b1, v1, s1, e1, b01, b11, v01, v11, s01, H1⟩ := p0
  obtain ⟨rfl, rfl, rfl⟩ : bb = b1 ∧ v = v1 ∧ s = s1 := by omega
  obtain ⟨r2, b2, v2, e2, r02, r12, b02, b12, v02, v12, H2⟩ := p1
  obtain ⟨rfl, rfl⟩ : bb = b2 ∧ v = v2 := by omega
  obtain ⟨y3, b3, v3, s3, e3, y03, y13, b03, b13, v03, v13, H3⟩ := p2
  obtain ⟨rfl, rfl, rfl⟩ : bb = b3 ∧ v = v3 ∧ s = s3 := by omega
  obtain ⟨z4, i4, e4, z04, z14, i04, i14, H4⟩ := p3
  obtain rfl : i4 = 14 * s + (A - 16 * bb - 256 * v) := by omega
  refine ⟨bb + 1, v, s, by omega, by omega, by omega, by omega, by omega, by omega, fun q h1 h2 => ?_⟩
  by_cases e : q = bb
  · subst e
    rintro ⟨k1, k2⟩
    rw [show A - 16 * q - 256 * v = m_af M v q by omega] at H4
    omega
  · exact H1 q h1 (by omega)
theorem k_nb3 {M : Int} {sl : Int → Int} {fo : Int → Int} {ft : Int → Int} {ls : Int} (hM : 2 ≤ M ∧ M ≤ 13) (hsl : ∀ i, 0 ≤ sl i ∧ sl i ≤ 9) (hfo : ∀ i, 0 ≤ fo i ∧ fo i ≤ 1000000) (hft : ∀ i, 0 ≤ ft i ∧ ft i ≤ 1000000) {bb v s A X G : Int} (p0 : p_NB M sl fo ft ls (bb + 16 * v + 256 * s)) (p1 : p_AF M (A)) (p2 : p_SV M sl fo (X)) (p3 : p_FP fo (G)) (c0 : 0 ≤ bb) (c1 : 0 ≤ (-1) * bb + 15) (c2 : 0 ≤ v + (-1)) (c3 : 0 ≤ (-1) * v + 13) (c4 : 0 ≤ s + (-1)) (c5 : 0 ≤ (-1) * s + 95) (c6 : 0 ≤ (-1) * bb + 13) (c7 : 0 ≤ A + (-16) * bb + (-256) * v + (-1)) (c8 : 0 ≤ (-1) * A + 16 * bb + 256 * v + 13) (c9 : 0 ≤ X + (-2097152) * bb + (-33554432) * v + (-536870912) * s) (c10 : 0 ≤ (-1) * X + 2097152 * bb + 33554432 * v + 536870912 * s + 1000100) (c11 : 0 ≤ G + (-29360128) * s + (-2097152) * A + 33554432 * bb + 536870912 * v) (c12 : 0 ≤ (-1) * G + 29360128 * s + 2097152 * A + (-33554432) * bb + (-536870912) * v + 1000000) (c13 : 0 ≤ G + 507510784 * s + (-2097152) * A + 35651584 * bb + 570425344 * v + (-1) * X + (-1)) : p_NB M sl fo ft ls (bb + 16 * v + 256 * s + 1) := by
  obtain ⟨b1, v1, s1, e1, b01, b11, v01, v11, s01, H1⟩ := p0
  obtain ⟨rfl, rfl, rfl⟩ : bb = b1 ∧ v = v1 ∧ s = s1 := by omega
  obtain ⟨r2, b2, v2, e2, r02, r12, b02, b12, v02, v12, H2⟩ := p1
  obtain ⟨rfl, rfl⟩ : bb = b2 ∧ v = v2 := by omega
  obtain ⟨y3, b3, v3, s3, e3, y03, y13, b03, b13, v03, v13, H3⟩ := p2
  obtain ⟨rfl, rfl, rfl⟩ : bb = b3 ∧ v = v3 ∧ s = s3 := by omega
  obtain ⟨z4, i4, e4, z04, z14, i04, i14, H4⟩ := p3
  obtain rfl : i4 = 14 * s + (A - 16 * bb - 256 * v) := by omega
  refine ⟨bb + 1, v, s, by omega, by omega, by omega, by omega, by omega, by omega, fun q h1 h2 => ?_⟩
  by_cases e : q = bb
  · subst e
    rintro ⟨k1, k2⟩
    rw [show A - 16 * q - 256 * v = m_af M v q by omega] at H4
    omega
  · exact H1 q h1 (by omega)
theorem k_oa {M : Int} {fo : Int → Int} {ft : Int → Int} {ls : Int} (hM : 2 ≤ M ∧ M ≤ 13) (hfo : ∀ i, 0 ≤ fo i ∧ fo i ≤ 1000000) (hft : ∀ i, 0 ≤ ft i ∧ ft i ≤ 1000000) {bb v s A : Int} (p0 : p_AF M (A)) (p1 : p_ON fo ft ls (2 * A + (-32) * bb + (-512) * v + 32 * s + 1)) (c0 : 0 ≤ bb) (c1 : 0 ≤ (-1) * bb + 15) (c2 : 0 ≤ v + (-1)) (c3 : 0 ≤ (-1) * v + 13) (c4 : 0 ≤ s + (-1)) (c5 : 0 ≤ (-1) * s + 95) (c6 : 0 ≤ A + (-16) * bb + (-256) * v) (c7 : 0 ≤ (-1) * A + 16 * bb + 256 * v + 15) : p_OA M fo ft ls (bb + 16 * v + 256 * s) := by
  obtain ⟨r1, b1, v1, e1, r01, r11, b01, b11, v01, v11, H1⟩ := p0
  obtain ⟨rfl, rfl⟩ : bb = b1 ∧ v = v1 := by omega
  obtain ⟨r2, v2, s2, e2, r02, r12, v02, v12, s02, s12, H2⟩ := p1
  obtain ⟨rfl, rfl, rfl⟩ : r2 = 1 ∧ v2 = A - 16 * bb - 256 * v ∧ s = s2 := by omega
  refine ⟨bb, v, s, by omega, by omega, by omega, by omega, by omega, ?_⟩
  have := H2.mp rfl
  rw [show A - 16 * bb - 256 * v = m_af M v bb by omega] at this
  exact this
theorem k_opn {M : Int} {nc : Int} {cs : Int → Int} {fo : Int → Int} {ft : Int → Int} {ls : Int} (hM : 2 ≤ M ∧ M ≤ 13) (hnc : 0 ≤ nc ∧ nc ≤ 6) (hcs : ∀ i, 0 ≤ cs i ∧ cs i ≤ 16) (hfo : ∀ i, 0 ≤ fo i ∧ fo i ≤ 1000000) (hft : ∀ i, 0 ≤ ft i ∧ ft i ≤ 1000000) {bb v s w : Int} (p0 : p_OA M fo ft ls (bb + 16 * v + 256 * s)) (p1 : p_AF M (w + 16 * bb + 256 * v)) (c0 : 0 ≤ bb) (c1 : 0 ≤ (-1) * bb + 15) (c2 : 0 ≤ v + (-1)) (c3 : 0 ≤ (-1) * v + 13) (c4 : 0 ≤ s + (-1)) (c5 : 0 ≤ (-1) * s + 95) (c6 : 0 ≤ w) (c7 : 0 ≤ (-1) * w + 15) : p_OP M nc cs fo ft ls (w + 16 * s + 16) := by
  obtain ⟨b1, v1, s1, e1, b01, b11, v01, v11, H1⟩ := p0
  obtain ⟨rfl, rfl, rfl⟩ : bb = b1 ∧ v = v1 ∧ s = s1 := by omega
  obtain ⟨r2, b2, v2, e2, r02, r12, b02, b12, v02, v12, H2⟩ := p1
  obtain ⟨rfl, rfl, rfl⟩ : w = r2 ∧ bb = b2 ∧ v = v2 := by omega
  have hr := m_af_rng (M := M) (v := v) (b := bb) hM.1
  rw [← H2] at H1 hr
  refine ⟨w, s + 1, by omega, by omega, by omega, by omega, Or.inr ⟨by omega, by omega, ?_⟩⟩
  rw [show s + 1 - 1 = s by omega]
  exact H1
theorem k_rc {rc : Int → Int} (hrc : ∀ i, 0 ≤ rc i ∧ rc i ≤ 13) {i z : Int} (zrc : 0 ≤ i - 0 → i - 0 < 96 → rc (i - 0) = z) (c0 : 0 ≤ i) (c1 : 0 ≤ (-1) * i + 95) (c2 : 0 ≤ z) (c3 : 0 ≤ (-1) * z + 13) : p_RC rc (z + 16 * i) := by
  refine ⟨z, i, by omega, by omega, by omega, by omega, by omega, ?_⟩
  have := zrc (by omega) (by omega)
  rw [show i - 0 = i by omega] at this
  exact this
theorem k_rd {rc : Int → Int} (hrc : ∀ i, 0 ≤ rc i ∧ rc i ≤ 13) {i z : Int} (zrc : 0 ≤ i - 0 → i - 0 < 96 → rc (i - 0) = z) (c0 : 0 ≤ i) (c1 : 0 ≤ (-1) * i + 95) (c2 : 0 ≤ z) (c3 : 0 ≤ (-1) * z + 13) : p_RD rc (z + 16 * i) := by
  refine ⟨z, i, by omega, by omega, by omega, by omega, by omega, ?_⟩
  have := zrc (by omega) (by omega)
  rw [show i - 0 = i by omega] at this
  exact this
theorem k_qs {M : Int} {sl : Int → Int} {nc : Int} {cs : Int → Int} {fo : Int → Int} {ft : Int → Int} {ls : Int} (hM : 2 ≤ M ∧ M ≤ 13) (hsl : ∀ i, 0 ≤ sl i ∧ sl i ≤ 9) (hnc : 0 ≤ nc ∧ nc ≤ 6) (hcs : ∀ i, 0 ≤ cs i ∧ cs i ≤ 16) (hfo : ∀ i, 0 ≤ fo i ∧ fo i ≤ 1000000) (hft : ∀ i, 0 ≤ ft i ∧ ft i ≤ 1000000) {s r X many : Int} (p0 : p_QQ M sl nc cs fo ft ls (16 * s + 2048 * r + 1048576 * X + 1)) (p1 : p_NS nc cs (many)) (c0 : 0 ≤ s) (c1 : 0 ≤ (-1) * s + 96) (c2 : 0 ≤ r) (c3 : 0 ≤ (-1) * r + 511) (c4 : 0 ≤ X) : 0 ≤ many + (-1) * s := by
  have hN : many = m_N nc cs := p1
  obtain ⟨v1, s1, r1, X1, e1, v01, v11, s01, s11, r01, r11, X01, N11, sN1, H1⟩ := p0
  obtain ⟨rfl, rfl, rfl, rfl⟩ : v1 = 1 ∧ s = s1 ∧ r = r1 ∧ X = X1 := by omega
  omega
theorem k_ql {M : Int} {sl : Int → Int} {nc : Int} {cs : Int → Int} {fo : Int → Int} {ft : Int → Int} {ls : Int} (hM : 2 ≤ M ∧ M ≤ 13) (hsl : ∀ i, 0 ≤ sl i ∧ sl i ≤ 9) (hnc : 0 ≤ nc ∧ nc ≤ 6) (hcs : ∀ i, 0 ≤ cs i ∧ cs i ≤ 16) (hfo : ∀ i, 0 ≤ fo i ∧ fo i ≤ 1000000) (hft : ∀ i, 0 ≤ ft i ∧ ft i ≤ 1000000) {s r X many : Int} (p0 : p_QQ M sl nc cs fo ft ls (16 * s + 2048 * r + 1048576 * X + 1)) (p1 : p_NS nc cs (many)) (c0 : 0 ≤ s) (c1 : 0 ≤ (-1) * s + 96) (c2 : 0 ≤ r) (c3 : 0 ≤ (-1) * r + 511) (c4 : 0 ≤ X) (c5 : 0 ≤ s + (-1) * many) : 0 ≤ (-1) * r + 11 := by
  have hN : many = m_N nc cs := p1
  obtain ⟨v1, s1, r1, X1, e1, v01, v11, s01, s11, r01, r11, X01, N11, sN1, H1⟩ := p0
  obtain ⟨rfl, rfl, rfl, rfl⟩ : v1 = 1 ∧ s = s1 ∧ r = r1 ∧ X = X1 := by omega
  obtain ⟨n, hn⟩ : ∃ n : Nat, s = (n : Int) + 1 := ⟨(s - 1).toNat, by omega⟩
  have hs : s = m_N nc cs := by omega
  have hr := m_rest_nn (M := M) (sl := sl) (fo := fo) (ft := ft) (ls := ls) (N := m_N nc cs) n (X % 14 + 1) (X / 14)
  rw [show s.toNat = n + 1 by omega] at H1
  have H5 : r + (m_lv M sl fo ft ls (m_N nc cs) ((n : Int) + 1) (X % 14) 1 + m_rest M sl fo ft ls (m_N nc cs) n (X % 14 + 1) (X / 14)) ≤ 12 := H1
  rw [show (n : Int) + 1 = m_N nc cs by omega, m_lv_end, if_pos (by decide)] at H5
  omega
theorem k_qe {M : Int} {sl : Int → Int} {nc : Int} {cs : Int → Int} {fo : Int → Int} {ft : Int → Int} {ls : Int} (hM : 2 ≤ M ∧ M ≤ 13) (hsl : ∀ i, 0 ≤ sl i ∧ sl i ≤ 9) (hnc : 0 ≤ nc ∧ nc ≤ 6) (hcs : ∀ i, 0 ≤ cs i ∧ cs i ≤ 16) (hfo : ∀ i, 0 ≤ fo i ∧ fo i ≤ 1000000) (hft : ∀ i, 0 ≤ ft i ∧ ft i ≤ 1000000) {s r X many : Int} (p0 : p_QQ M sl nc cs fo ft ls (16 * s + 2048 * r + 1048576 * X + 1)) (p1 : p_NS nc cs (many)) (c0 : 0 ≤ s) (c1 : 0 ≤ (-1) * s + 96) (c2 : 0 ≤ r) (c3 : 0 ≤ (-1) * r + 511) (c4 : 0 ≤ X) (c5 : 0 ≤ s + (-1) * many) : p_QQ M sl nc cs fo ft ls (16 * s + 2048 * r + 1048576 * X + 2062) := by
  have hN : many = m_N nc cs := p1
  obtain ⟨v1, s1, r1, X1, e1, v01, v11, s01, s11, r01, r11, X01, N11, sN1, H1⟩ := p0
  obtain ⟨rfl, rfl, rfl, rfl⟩ : v1 = 1 ∧ s = s1 ∧ r = r1 ∧ X = X1 := by omega
  obtain ⟨n, hn⟩ : ∃ n : Nat, s = (n : Int) + 1 := ⟨(s - 1).toNat, by omega⟩
  have hs : s = m_N nc cs := by omega
  have hr := m_rest_nn (M := M) (sl := sl) (fo := fo) (ft := ft) (ls := ls) (N := m_N nc cs) n (X % 14 + 1) (X / 14)
  rw [show s.toNat = n + 1 by omega] at H1
  have H5 : r + (m_lv M sl fo ft ls (m_N nc cs) ((n : Int) + 1) (X % 14) 1 + m_rest M sl fo ft ls (m_N nc cs) n (X % 14 + 1) (X / 14)) ≤ 12 := H1
  rw [show (n : Int) + 1 = m_N nc cs by omega, m_lv_end, if_pos (by decide)] at H5
  refine ⟨14, s, r + 1, X, by omega, by omega, by omega, by omega, by omega, by omega, by omega, by omega, by omega, by omega, ?_⟩
  rw [show s.toNat = n + 1 by omega]
  show r + 1 + (m_lv M sl fo ft ls (m_N nc cs) ((n : Int) + 1) (X % 14) 14 + m_rest M sl fo ft ls (m_N nc cs) n (X % 14 + 1) (X / 14)) ≤ 12
  rw [show (n : Int) + 1 = m_N nc cs by omega, m_lv_end, if_neg (by decide)]
  omega
theorem k_xo {X : Int} : p_XO (X) := by
  exact trivial
theorem k_qn1 {M : Int} {sl : Int → Int} {nc : Int} {cs : Int → Int} {fo : Int → Int} {ft : Int → Int} {ls : Int} (hM : 2 ≤ M ∧ M ≤ 13) (hsl : ∀ i, 0 ≤ sl i ∧ sl i ≤ 9) (hnc : 0 ≤ nc ∧ nc ≤ 6) (hcs : ∀ i, 0 ≤ cs i ∧ cs i ≤ 16) (hfo : ∀ i, 0 ≤ fo i ∧ fo i ≤ 1000000) (hft : ∀ i, 0 ≤ ft i ∧ ft i ≤ 1000000) {v s r X : Int} (p0 : p_QQ M sl nc cs fo ft ls (v + 16 * s + 2048 * r + 1048576 * X)) (c0 : 0 ≤ s) (c1 : 0 ≤ (-1) * s + 96) (c2 : 0 ≤ r) (c3 : 0 ≤ (-1) * r + 511) (c4 : 0 ≤ X) (c5 : 0 ≤ v + (-1)) (c6 : 0 ≤ (-1) * v + 14) (c7 : 0 ≤ (-1) * v + 13) : p_QQ M sl nc cs fo ft ls (v + 16 * s + 2048 * r + 1048576 * X + 1) := by
  obtain ⟨v1, s1, r1, X1, e1, v01, v11, s01, s11, r01, r11, X01, N11, sN1, H1⟩ := p0
  obtain ⟨rfl, rfl, rfl, rfl⟩ : v = v1 ∧ s = s1 ∧ r = r1 ∧ X = X1 := by omega
  have := m_rest_le (M := M) (sl := sl) (fo := fo) (ft := ft) (ls := ls) (N := m_N nc cs) (v := v) (w := v + 1) (by omega) s.toNat X
  exact ⟨v + 1, s, r, X, by omega, by omega, by omega, by omega, by omega, by omega, by omega, by omega, by omega, by omega, by omega⟩
theorem k_qn4 {M : Int} {sl : Int → Int} {nc : Int} {cs : Int → Int} {fo : Int → Int} {ft : Int → Int} {ls : Int} (hM : 2 ≤ M ∧ M ≤ 13) (hsl : ∀ i, 0 ≤ sl i ∧ sl i ≤ 9) (hnc : 0 ≤ nc ∧ nc ≤ 6) (hcs : ∀ i, 0 ≤ cs i ∧ cs i ≤ 16) (hfo : ∀ i, 0 ≤ fo i ∧ fo i ≤ 1000000) (hft : ∀ i, 0 ≤ ft i ∧ ft i ≤ 1000000) {v s r X : Int} (p0 : p_QQ M sl nc cs fo ft ls (16 * s + 2048 * r + 14680064 * X + 1048576 * v + 30)) (c0 : 0 ≤ s) (c1 : 0 ≤ (-1) * s + 96) (c2 : 0 ≤ r) (c3 : 0 ≤ (-1) * r + 511) (c4 : 0 ≤ X) (c5 : 0 ≤ v + (-1)) (c6 : 0 ≤ (-1) * v + 14) (c7 : 0 ≤ (-1) * v + 13) : p_QQ M sl nc cs fo ft ls (v + 16 * s + 2048 * r + 1048576 * X + 1) := by
  obtain ⟨v1, s1, r1, X1, e1, v01, v11, s01, s11, r01, r11, X01, N11, sN1, H1⟩ := p0
  obtain ⟨rfl, rfl, rfl, rfl⟩ : v1 = 14 ∧ s1 = s + 1 ∧ r = r1 ∧ X1 = 14 * X + v := by omega
  rw [show (s + 1).toNat = s.toNat + 1 by omega, m_rest_suc (by omega) (by omega)] at H1
  have := m_lv_nn (M := M) (sl := sl) (fo := fo) (ft := ft) (ls := ls) (N := m_N nc cs) ((s.toNat : Int) + 1) v 14
  exact ⟨v + 1, s, r, X, by omega, by omega, by omega, by omega, by omega, by omega, by omega, by omega, by omega, by omega, by omega⟩
theorem k_qc0 {M : Int} {sl : Int → Int} {nc : Int} {cs : Int → Int} {fo : Int → Int} {ft : Int → Int} {ls : Int} {rc : Int → Int} (hM : 2 ≤ M ∧ M ≤ 13) (hsl : ∀ i, 0 ≤ sl i ∧ sl i ≤ 9) (hnc : 0 ≤ nc ∧ nc ≤ 6) (hcs : ∀ i, 0 ≤ cs i ∧ cs i ≤ 16) (hfo : ∀ i, 0 ≤ fo i ∧ fo i ≤ 1000000) (hft : ∀ i, 0 ≤ ft i ∧ ft i ≤ 1000000) (hrc : ∀ i, 0 ≤ rc i ∧ rc i ≤ 13) {v s r X many m : Int} (p0 : p_QQ M sl nc cs fo ft ls (v + 16 * s + 2048 * r + 1048576 * X)) (p1 : p_ON fo ft ls (2 * v + 32 * s + 1)) (p2 : p_PX rc (s + 128 * X)) (p3 : p_NS nc cs (many)) (p4 : m = M) (c0 : 0 ≤ s) (c1 : 0 ≤ (-1) * s + 96) (c2 : 0 ≤ r) (c3 : 0 ≤ (-1) * r + 511) (c4 : 0 ≤ X) (c5 : 0 ≤ v + (-1)) (c6 : 0 ≤ (-1) * v + 14) (c7 : 0 ≤ (-1) * v + 13) (c8 : 0 ≤ (-1) * s) (c9 : 0 ≤ many + (-1) * s + (-1)) (c10 : 0 ≤ m + (-1) * v) : p_QQ M sl nc cs fo ft ls (16 * s + 2048 * r + 14680064 * X + 1048576 * v + 17) := by
  have hN : many = m_N nc cs := p3
  obtain ⟨v1, s1, r1, X1, e1, v01, v11, s01, s11, r01, r11, X01, N11, sN1, H1⟩ := p0
  obtain ⟨rfl, rfl, rfl, rfl⟩ : v = v1 ∧ s = s1 ∧ r = r1 ∧ X = X1 := by omega
  obtain ⟨r2, v2, s2, e2, r02, r12, v02, v12, s02, s12, H2⟩ := p1
  obtain ⟨rfl, rfl, rfl⟩ : r2 = 1 ∧ v = v2 ∧ s = s2 := by omega
  have hok : m_ok M sl fo ft ls s (if s = 0 then 0 else X % 14) v = true := m_ok_tt (H2.mp rfl) (Or.inl (by omega))
  have := m_rest_ok (N := m_N nc cs) (X := X) hM.1 (by omega) (by omega) (by omega) (by omega) (show v ≤ M by omega) hok
  exact ⟨1, s + 1, r, 14 * X + v, by omega, by omega, by omega, by omega, by omega, by omega, by omega, by omega, by omega, by omega, by omega⟩
theorem k_qc1 {M : Int} {sl : Int → Int} {nc : Int} {cs : Int → Int} {fo : Int → Int} {ft : Int → Int} {ls : Int} {rc : Int → Int} (hM : 2 ≤ M ∧ M ≤ 13) (hsl : ∀ i, 0 ≤ sl i ∧ sl i ≤ 9) (hnc : 0 ≤ nc ∧ nc ≤ 6) (hcs : ∀ i, 0 ≤ cs i ∧ cs i ≤ 16) (hfo : ∀ i, 0 ≤ fo i ∧ fo i ≤ 1000000) (hft : ∀ i, 0 ≤ ft i ∧ ft i ≤ 1000000) (hrc : ∀ i, 0 ≤ rc i ∧ rc i ≤ 13) {v s r X A B F T G many m : Int} (p0 : p_QQ M sl nc cs fo ft ls (v + 16 * s + 2048 * r + 1048576 * X)) (p1 : p_PX rc (s + 128 * X)) (p2 : p_RC rc (A)) (p3 : p_RD rc (B)) (p4 : p_FO fo (F)) (p5 : p_ST M sl (T)) (p6 : p_FP fo (G)) (p7 : p_ON fo ft ls (2 * v + 32 * s + 1)) (p8 : p_NS nc cs (many)) (p9 : m = M) (c0 : 0 ≤ s) (c1 : 0 ≤ (-1) * s + 96) (c2 : 0 ≤ r) (c3 : 0 ≤ (-1) * r + 511) (c4 : 0 ≤ X) (c5 : 0 ≤ v + (-1)) (c6 : 0 ≤ (-1) * v + 14) (c7 : 0 ≤ (-1) * v + 13) (c8 : 0 ≤ s + (-1)) (c9 : 0 ≤ (-1) * s + 95) (c10 : 0 ≤ A + (-16) * s + 16) (c11 : 0 ≤ (-1) * A + 16 * s + (-3)) (c12 : 0 ≤ B + (-16) * s + 16) (c13 : 0 ≤ (-1) * B + 16 * s + (-3)) (c14 : 0 ≤ F + 4194304 * s + (-2097152) * A + (-4194304)) (c15 : 0 ≤ (-1) * F + (-4194304) * s + 2097152 * A + 5194304) (c16 : 0 ≤ T + (-16) * v + (-256) * B + (-4096)) (c17 : 0 ≤ (-1) * T + 16 * v + 256 * B + 4111) (c18 : 0 ≤ G + (-29360128) * s + (-2097152) * v) (c19 : 0 ≤ (-1) * G + 29360128 * s + 2097152 * v + 1000000) (c20 : 0 ≤ F + 33554432 * s + (-2097152) * A + T + 2097136 * v + (-256) * B + (-1) * G + (-4198400)) (c21 : 0 ≤ G + (-33554432) * s + (-2097136) * v + (-1) * F + 2097152 * A + (-1) * T + 256 * B + 4198400) (c22 : 0 ≤ many + (-1) * s + (-1)) (c23 : 0 ≤ m + (-1) * v) : p_QQ M sl nc cs fo ft ls (16 * s + 2048 * r + 14680064 * X + 1048576 * v + 17) := by
  have hN : many = m_N nc cs := p8
  obtain ⟨v1, s1, r1, X1, e1, v01, v11, s01, s11, r01, r11, X01, N11, sN1, H1⟩ := p0
  obtain ⟨rfl, rfl, rfl, rfl⟩ : v = v1 ∧ s = s1 ∧ r = r1 ∧ X = X1 := by omega
  obtain ⟨s2, X2, e2, s02, s12, X02, H2⟩ := p1
  obtain ⟨rfl, rfl⟩ : s = s2 ∧ X = X2 := by omega
  obtain ⟨z3, i3, e3, z03, z13, i03, i13, H3⟩ := p2
  obtain rfl : i3 = s - 1 := by omega
  obtain ⟨z4, i4, e4, z04, z14, i04, i14, H4⟩ := p3
  obtain rfl : i4 = s - 1 := by omega
  obtain ⟨z5, i5, e5, z05, z15, i05, i15, H5⟩ := p4
  obtain rfl : i5 = 14 * (s - 1) + (A - 16 * (s - 1)) := by omega
  obtain ⟨t6, v6, u6, s6, e6, t06, t16, v06, v16, u06, u16, s06, s16, H6⟩ := p5
  obtain ⟨rfl, rfl, rfl⟩ : v = v6 ∧ u6 = B - 16 * (s - 1) ∧ s = s6 := by omega
  obtain ⟨z7, i7, e7, z07, z17, i07, i17, H7⟩ := p6
  obtain rfl : i7 = 14 * s + v := by omega
  obtain ⟨r8, v8, s8, e8, r08, r18, v08, v18, s08, s18, H8⟩ := p7
  obtain ⟨rfl, rfl, rfl⟩ : r8 = 1 ∧ v = v8 ∧ s = s8 := by omega
  have hu : X % 14 = rc (s - 1) := by
    obtain ⟨n, hn⟩ : ∃ n : Nat, s = (n : Int) + 1 := ⟨(s - 1).toNat, by omega⟩
    rw [show s.toNat = n + 1 by omega] at H2
    rw [H2.1, show s - 1 = (n : Int) by omega]
  have e5 : A - 16 * (s - 1) = X % 14 := by omega
  have e6 : B - 16 * (s - 1) = X % 14 := by omega
  rw [e5] at H5
  rw [e6] at H6
  have hok : m_ok M sl fo ft ls s (if s = 0 then 0 else X % 14) v = true := by
    rw [if_neg (by omega)]
    exact m_ok_tt (H8.mp rfl) (Or.inr (by omega))
  have := m_rest_ok (N := m_N nc cs) (X := X) hM.1 (by omega) (by omega) (by omega) (by omega) (show v ≤ M by omega) hok
  exact ⟨1, s + 1, r, 14 * X + v, by omega, by omega, by omega, by omega, by omega, by omega, by omega, by omega, by omega, by omega, by omega⟩
theorem k_pxn {rc : Int → Int} (hrc : ∀ i, 0 ≤ rc i ∧ rc i ≤ 13) {i v s X : Int} (i1 : 0 ≤ i) (i2 : i < 96) (p0 : p_PX rc (s + 128 * X)) (c0 : 0 ≤ i + (-1) * s) (c1 : 0 ≤ s + (-1) * i) (c2 : 0 ≤ s) (c3 : 0 ≤ (-1) * s + 95) (c4 : 0 ≤ X) (c5 : 0 ≤ v) (c6 : 0 ≤ (-1) * v + 13) : p_PX (m_up rc i v) (s + 1792 * X + 128 * v + 1) := by
  obtain ⟨s1, X1, e1, s01, s11, X01, H1⟩ := p0
  obtain ⟨rfl, rfl⟩ : s = s1 ∧ X = X1 := by omega
  obtain rfl : i = s := by omega
  have hdg : ∀ (n : Nat) (Y : Int), (n : Int) ≤ i → m_dg rc n Y → m_dg (m_up rc i v) n Y := fun n => by
    induction n with
    | zero => exact fun Y _ h => h
    | succ n ih =>
      intro Y hn h
      exact ⟨by rw [h.1]; exact (m_up_ne (by omega)).symm, ih _ (by omega) h.2⟩
  refine ⟨i + 1, 14 * X + v, by omega, by omega, by omega, by omega, ?_⟩
  rw [show (i + 1).toNat = i.toNat + 1 by omega]
  refine ⟨?_, ?_⟩
  · rw [show ((i.toNat : Nat) : Int) = i by omega, m_up_at rfl]
    omega
  · rw [show (14 * X + v) / 14 = X by omega]
    exact hdg _ _ (by omega) H1
theorem k_xs {X v : Int} : p_XX (14 * X + v) := by
  exact trivial
theorem k_pxr {rc : Int → Int} (hrc : ∀ i, 0 ≤ rc i ∧ rc i ≤ 13) {v s X : Int} (p0 : p_PX rc (s + 1792 * X + 128 * v + 1)) (c0 : 0 ≤ s) (c1 : 0 ≤ (-1) * s + 95) (c2 : 0 ≤ X) (c3 : 0 ≤ v) (c4 : 0 ≤ (-1) * v + 13) : p_PX rc (s + 128 * X) := by
  obtain ⟨s1, X1, e1, s01, s11, X01, H1⟩ := p0
  obtain ⟨rfl, rfl⟩ : s1 = s + 1 ∧ X1 = 14 * X + v := by omega
  rw [show (s + 1).toNat = s.toNat + 1 by omega] at H1
  have h2 := H1.2
  rw [show (14 * X + v) / 14 = X by omega] at h2
  exact ⟨s, X, by omega, by omega, by omega, by omega, h2⟩
theorem k_xr {X : Int} : p_XX (X) := by
  exact trivial
theorem k_qr {M : Int} {sl : Int → Int} {nc : Int} {cs : Int → Int} {fo : Int → Int} {ft : Int → Int} {ls : Int} (hM : 2 ≤ M ∧ M ≤ 13) (hsl : ∀ i, 0 ≤ sl i ∧ sl i ≤ 9) (hnc : 0 ≤ nc ∧ nc ≤ 6) (hcs : ∀ i, 0 ≤ cs i ∧ cs i ≤ 16) (hfo : ∀ i, 0 ≤ fo i ∧ fo i ≤ 1000000) (hft : ∀ i, 0 ≤ ft i ∧ ft i ≤ 1000000) {v s r X : Int} (p0 : p_QQ M sl nc cs fo ft ls (v + 16 * s + 2048 * r + 1048576 * X + 1)) (c0 : 0 ≤ s) (c1 : 0 ≤ (-1) * s + 96) (c2 : 0 ≤ r) (c3 : 0 ≤ (-1) * r + 511) (c4 : 0 ≤ X) (c5 : 0 ≤ v + (-1)) (c6 : 0 ≤ (-1) * v + 14) : 0 ≤ (-1) * r + 12 := by
  obtain ⟨v1, s1, r1, X1, e1, v01, v11, s01, s11, r01, r11, X01, N11, sN1, H1⟩ := p0
  obtain ⟨rfl, rfl, rfl, rfl⟩ : v1 = v + 1 ∧ s = s1 ∧ r = r1 ∧ X = X1 := by omega
  have := m_rest_nn (M := M) (sl := sl) (fo := fo) (ft := ft) (ls := ls) (N := m_N nc cs) s.toNat (v + 1) X
  omega
theorem k_qx {M : Int} {sl : Int → Int} {nc : Int} {cs : Int → Int} {fo : Int → Int} {ft : Int → Int} {ls : Int} (hM : 2 ≤ M ∧ M ≤ 13) (hsl : ∀ i, 0 ≤ sl i ∧ sl i ≤ 9) (hnc : 0 ≤ nc ∧ nc ≤ 6) (hcs : ∀ i, 0 ≤ cs i ∧ cs i ≤ 16) (hfo : ∀ i, 0 ≤ fo i ∧ fo i ≤ 1000000) (hft : ∀ i, 0 ≤ ft i ∧ ft i ≤ 1000000) {v s r X : Int} (p0 : p_QQ M sl nc cs fo ft ls (v + 16 * s + 2048 * r + 1048576 * X)) (c0 : 0 ≤ s) (c1 : 0 ≤ (-1) * s + 96) (c2 : 0 ≤ r) (c3 : 0 ≤ (-1) * r + 511) (c4 : 0 ≤ X) (c5 : 0 ≤ v + (-1)) (c6 : 0 ≤ (-1) * v + 14) : p_QQ M sl nc cs fo ft ls (16 * s + 2048 * r + 1048576 * X + 14) := by
  obtain ⟨v1, s1, r1, X1, e1, v01, v11, s01, s11, r01, r11, X01, N11, sN1, H1⟩ := p0
  obtain ⟨rfl, rfl, rfl, rfl⟩ : v = v1 ∧ s = s1 ∧ r = r1 ∧ X = X1 := by omega
  have := m_rest_le (M := M) (sl := sl) (fo := fo) (ft := ft) (ls := ls) (N := m_N nc cs) (v := v) (w := 14) (by omega) s.toNat X
  exact ⟨14, s, r, X, by omega, by omega, by omega, by omega, by omega, by omega, by omega, by omega, by omega, by omega, by omega⟩
theorem k_xx0 : p_XX (0) := by
  exact trivial
theorem k_px0 {rc : Int → Int} (hrc : ∀ i, 0 ≤ rc i ∧ rc i ≤ 13) : p_PX rc (0) := by
  exact ⟨0, 0, by omega, by omega, by omega, by omega, rfl⟩
theorem k_q0 {M : Int} {FS : Int} {rd : Int} {nt : Int → Int} {sl : Int → Int} {nc : Int} {cs : Int → Int} {fo : Int → Int} {ft : Int → Int} {wt : Int → Int} {ls : Int} (hM : 2 ≤ M ∧ M ≤ 13) (hFS : 1 ≤ FS ∧ FS ≤ 13) (hnt : ∀ i, 0 ≤ nt i ∧ nt i ≤ 2) (hsl : ∀ i, 0 ≤ sl i ∧ sl i ≤ 9) (hnc : 0 ≤ nc ∧ nc ≤ 6) (hcs : ∀ i, 0 ≤ cs i ∧ cs i ≤ 16) (hfo : ∀ i, 0 ≤ fo i ∧ fo i ≤ 1000000) (hft : ∀ i, 0 ≤ ft i ∧ ft i ≤ 1000000) (hwt : ∀ i, 0 ≤ wt i ∧ wt i ≤ 999999) {fr n many r : Int} (p0 : p_M1 M FS nt sl nc cs fo ft wt ls (fr)) (p1 : p_M2 M nc cs fo wt ls (n)) (p2 : p_NS nc cs (many)) (p3 : r = rd) (c0 : 0 ≤ many + (-1)) (c1 : 0 ≤ (-1) * n + 12) (c2 : 0 ≤ n) (c3 : 0 ≤ r) (c4 : 0 ≤ (-1) * r) : p_QQ M sl nc cs fo ft ls (1) := by
  have hN : many = m_N nc cs := p2
  obtain ⟨m0, m1, m2⟩ := p0
  have hH : m_H M FS nt sl (m_N nc cs) fr fo ft wt ls := ⟨hM, hsl, hfo, hft, hwt, m2.resolve_left (by omega)⟩
  have hn := p1.resolve_left (by omega)
  have hl : m_nw (m_N nc cs) M ls fo wt M.toNat ≤ 12 := by
    unfold m_lim at hn
    split at hn <;> omega
  have := m_x_all hH (by omega) hl
  exact ⟨1, 0, 0, 0, by omega, by omega, by omega, by omega, by omega, by omega, by omega, by omega, by omega, by omega, by show 0 + m_lv M sl fo ft ls (m_N nc cs) 0 0 1 ≤ 12; omega⟩
theorem k_te0 {a0 : Int → Int} {a1 : Int → Int} {a2 : Int → Int} {a3 : Int → Int} {nn : Int → Int} {l0 l1 l2 l3 r : Int} (p0 : p_TQ a0 a1 a2 a3 nn (l0 + 64 * l1 + 4096 * l2 + 262144 * l3)) (c0 : 0 ≤ l0) (c1 : 0 ≤ (-1) * l0 + 60) (c2 : 0 ≤ l1) (c3 : 0 ≤ (-1) * l1 + 60) (c4 : 0 ≤ l2) (c5 : 0 ≤ (-1) * l2 + 60) (c6 : 0 ≤ l3) (c7 : 0 ≤ (-1) * l3 + 60) (c8 : 0 ≤ r) (c9 : 0 ≤ (-1) * r) : p_TE0 a1 a2 a3 nn (64 * l1 + 4096 * l2 + 262144 * l3) := by
  obtain ⟨k0, k1, k2, k3, e, r, H⟩ := p0
  have rr := r
  unfold m_rg at rr
  obtain ⟨rfl, rfl, rfl, rfl⟩ : l0 = k0 ∧ l1 = k1 ∧ l2 = k2 ∧ l3 = k3 := by omega
  exact ⟨l1, l2, l3, by omega, (by unfold m_rg; omega), m_Qi (fun q a b _ => absurd b (by omega)) (m_Qc1 H) (m_Qc2 H) (m_Qc3 H)⟩
theorem k_tz00 {a0 : Int → Int} {u0 : Int} {m : Int} (p0 : m = u0) (c0 : 0 ≤ m) (c1 : 0 ≤ (-1) * m) : p_TZ0 a0 (m) := by
  exact fun i a b c => absurd b (by omega)
theorem k_tz10 {a0 : Int → Int} {i z : Int} (i1 : 0 ≤ i) (i2 : i < 60) (p0 : p_TZ0 a0 (i)) (c0 : 0 ≤ z) (c1 : 0 ≤ (-1) * z) (c2 : 0 ≤ i) (c3 : 0 ≤ (-1) * i + 59) : p_TZ0 (m_up a0 i z) (i + 1) := by
  intro j a b c
  by_cases e : j = i
  · rw [m_up_at e]; omega
  · rw [m_up_ne e]; exact p0 j a (by omega) c
theorem k_tz20 {a0 : Int → Int} {i : Int} (p0 : p_TZ0 a0 (i)) (c0 : 0 ≤ i + (-60)) (c1 : 0 ≤ (-1) * i + 60) : p_TZ0 a0 (60) := by
  exact fun j a b c => p0 j a (by omega) c
theorem k_tm00 {nn : Int → Int} {w0 : Int} {m z : Int} (p0 : m = w0) (c0 : 0 ≤ z) (c1 : 0 ≤ (-1) * z) : p_TM0 nn (z) := by
  exact fun i a b c => absurd b (by omega)
theorem k_tek0 {a1 : Int → Int} {a2 : Int → Int} {a3 : Int → Int} {nn : Int → Int} {i z F : Int} (i1 : 0 ≤ i) (i2 : i < 240) (p0 : p_TE0 a1 a2 a3 nn (F)) (c0 : 0 ≤ i) (c1 : 0 ≤ (-1) * i + 59) : p_TE0 a1 a2 a3 (m_up nn i z) (F) := by
  obtain ⟨l1, l2, l3, e, r, H⟩ := p0
  have rr := r
  unfold m_rg at rr
  exact ⟨l1, l2, l3, e, r, m_Qi (fun q a b _ => absurd b (by omega)) (fun q a b f => by rw [m_up_ne (by omega)]; exact m_Qc1 H q a b f) (fun q a b f => by rw [m_up_ne (by omega)]; exact m_Qc2 H q a b f) (fun q a b f => by rw [m_up_ne (by omega)]; exact m_Qc3 H q a b f)⟩
theorem k_tm10 {nn : Int → Int} {i z k : Int} (i1 : 0 ≤ i) (i2 : i < 240) (p0 : p_TM0 nn (k)) (c0 : 0 ≤ i + (-1) * k) (c1 : 0 ≤ k + (-1) * i) (c2 : 0 ≤ z) (c3 : 0 ≤ (-1) * z) (c4 : 0 ≤ k) (c5 : 0 ≤ (-1) * k + 59) : p_TM0 (m_up nn i z) (k + 1) := by
  intro j a b c
  by_cases e : j = k
  · rw [m_up_at (by omega)]; omega
  · rw [m_up_ne (by omega)]; exact p0 j a (by omega) c
theorem k_tqf0 {a0 : Int → Int} {a1 : Int → Int} {a2 : Int → Int} {a3 : Int → Int} {nn : Int → Int} {l1 l2 l3 m k : Int} (p0 : p_TE0 a1 a2 a3 nn (64 * l1 + 4096 * l2 + 262144 * l3)) (p1 : p_TZ0 a0 (60)) (p2 : p_TM0 nn (k)) (c0 : 0 ≤ l1) (c1 : 0 ≤ (-1) * l1 + 60) (c2 : 0 ≤ l2) (c3 : 0 ≤ (-1) * l2 + 60) (c4 : 0 ≤ l3) (c5 : 0 ≤ (-1) * l3 + 60) (c6 : 0 ≤ k + (-1) * m) (c7 : 0 ≤ m) (c8 : 0 ≤ (-1) * m + 60) (c9 : 0 ≤ (-1) * k + 60) : p_TQ a0 a1 a2 a3 nn (64 * l1 + 4096 * l2 + 262144 * l3 + m) := by
  obtain ⟨k1, k2, k3, e, r, H⟩ := p0
  have rr := r
  unfold m_rg at rr
  obtain ⟨rfl, rfl, rfl⟩ : l1 = k1 ∧ l2 = k2 ∧ l3 = k3 := by omega
  exact ⟨m, l1, l2, l3, by omega, (by unfold m_rg; omega), m_Qi (fun q a b _ => by rw [p1 q a (by omega) (by omega), show (60 * 0 + q : Int) = 0 + q by omega]; exact (p2 q a (by omega) (by omega)).symm) (m_Qc1 H) (m_Qc2 H) (m_Qc3 H)⟩
theorem k_te1 {a0 : Int → Int} {a1 : Int → Int} {a2 : Int → Int} {a3 : Int → Int} {nn : Int → Int} {l0 l1 l2 l3 r : Int} (p0 : p_TQ a0 a1 a2 a3 nn (l0 + 64 * l1 + 4096 * l2 + 262144 * l3)) (c0 : 0 ≤ l0) (c1 : 0 ≤ (-1) * l0 + 60) (c2 : 0 ≤ l1) (c3 : 0 ≤ (-1) * l1 + 60) (c4 : 0 ≤ l2) (c5 : 0 ≤ (-1) * l2 + 60) (c6 : 0 ≤ l3) (c7 : 0 ≤ (-1) * l3 + 60) (c8 : 0 ≤ r + (-1)) (c9 : 0 ≤ (-1) * r + 1) : p_TE1 a0 a2 a3 nn (l0 + 4096 * l2 + 262144 * l3) := by
  obtain ⟨k0, k1, k2, k3, e, r, H⟩ := p0
  have rr := r
  unfold m_rg at rr
  obtain ⟨rfl, rfl, rfl, rfl⟩ : l0 = k0 ∧ l1 = k1 ∧ l2 = k2 ∧ l3 = k3 := by omega
  exact ⟨l0, l2, l3, by omega, (by unfold m_rg; omega), m_Qi (m_Qc0 H) (fun q a b _ => absurd b (by omega)) (m_Qc2 H) (m_Qc3 H)⟩
theorem k_tz01 {a1 : Int → Int} {u1 : Int} {m : Int} (p0 : m = u1) (c0 : 0 ≤ m) (c1 : 0 ≤ (-1) * m) : p_TZ1 a1 (m) := by
  exact fun i a b c => absurd b (by omega)
theorem k_tz11 {a1 : Int → Int} {i z : Int} (i1 : 0 ≤ i) (i2 : i < 60) (p0 : p_TZ1 a1 (i)) (c0 : 0 ≤ z) (c1 : 0 ≤ (-1) * z) (c2 : 0 ≤ i) (c3 : 0 ≤ (-1) * i + 59) : p_TZ1 (m_up a1 i z) (i + 1) := by
  intro j a b c
  by_cases e : j = i
  · rw [m_up_at e]; omega
  · rw [m_up_ne e]; exact p0 j a (by omega) c
theorem k_tz21 {a1 : Int → Int} {i : Int} (p0 : p_TZ1 a1 (i)) (c0 : 0 ≤ i + (-60)) (c1 : 0 ≤ (-1) * i + 60) : p_TZ1 a1 (60) := by
  exact fun j a b c => p0 j a (by omega) c
theorem k_tm01 {nn : Int → Int} {w1 : Int} {m z : Int} (p0 : m = w1) (c0 : 0 ≤ z) (c1 : 0 ≤ (-1) * z) : p_TM1 nn (z) := by
  exact fun i a b c => absurd b (by omega)
theorem k_tek1 {a0 : Int → Int} {a2 : Int → Int} {a3 : Int → Int} {nn : Int → Int} {i z F : Int} (i1 : 0 ≤ i) (i2 : i < 240) (p0 : p_TE1 a0 a2 a3 nn (F)) (c0 : 0 ≤ i + (-60)) (c1 : 0 ≤ (-1) * i + 119) : p_TE1 a0 a2 a3 (m_up nn i z) (F) := by
  obtain ⟨l0, l2, l3, e, r, H⟩ := p0
  have rr := r
  unfold m_rg at rr
  exact ⟨l0, l2, l3, e, r, m_Qi (fun q a b f => by rw [m_up_ne (by omega)]; exact m_Qc0 H q a b f) (fun q a b _ => absurd b (by omega)) (fun q a b f => by rw [m_up_ne (by omega)]; exact m_Qc2 H q a b f) (fun q a b f => by rw [m_up_ne (by omega)]; exact m_Qc3 H q a b f)⟩
theorem k_tm11 {nn : Int → Int} {i z k : Int} (i1 : 0 ≤ i) (i2 : i < 240) (p0 : p_TM1 nn (k)) (c0 : 0 ≤ i + (-1) * k + (-60)) (c1 : 0 ≤ k + (-1) * i + 60) (c2 : 0 ≤ z) (c3 : 0 ≤ (-1) * z) (c4 : 0 ≤ k) (c5 : 0 ≤ (-1) * k + 59) : p_TM1 (m_up nn i z) (k + 1) := by
  intro j a b c
  by_cases e : j = k
  · rw [m_up_at (by omega)]; omega
  · rw [m_up_ne (by omega)]; exact p0 j a (by omega) c
theorem k_tqf1 {a0 : Int → Int} {a1 : Int → Int} {a2 : Int → Int} {a3 : Int → Int} {nn : Int → Int} {l0 l2 l3 m k : Int} (p0 : p_TE1 a0 a2 a3 nn (l0 + 4096 * l2 + 262144 * l3)) (p1 : p_TZ1 a1 (60)) (p2 : p_TM1 nn (k)) (c0 : 0 ≤ l0) (c1 : 0 ≤ (-1) * l0 + 60) (c2 : 0 ≤ l2) (c3 : 0 ≤ (-1) * l2 + 60) (c4 : 0 ≤ l3) (c5 : 0 ≤ (-1) * l3 + 60) (c6 : 0 ≤ k + (-1) * m) (c7 : 0 ≤ m) (c8 : 0 ≤ (-1) * m + 60) (c9 : 0 ≤ (-1) * k + 60) : p_TQ a0 a1 a2 a3 nn (l0 + 4096 * l2 + 262144 * l3 + 64 * m) := by
  obtain ⟨k0, k2, k3, e, r, H⟩ := p0
  have rr := r
  unfold m_rg at rr
  obtain ⟨rfl, rfl, rfl⟩ : l0 = k0 ∧ l2 = k2 ∧ l3 = k3 := by omega
  exact ⟨l0, m, l2, l3, by omega, (by unfold m_rg; omega), m_Qi (m_Qc0 H) (fun q a b _ => by rw [p1 q a (by omega) (by omega), show (60 * 1 + q : Int) = 60 + q by omega]; exact (p2 q a (by omega) (by omega)).symm) (m_Qc2 H) (m_Qc3 H)⟩
theorem k_te2 {a0 : Int → Int} {a1 : Int → Int} {a2 : Int → Int} {a3 : Int → Int} {nn : Int → Int} {l0 l1 l2 l3 r : Int} (p0 : p_TQ a0 a1 a2 a3 nn (l0 + 64 * l1 + 4096 * l2 + 262144 * l3)) (c0 : 0 ≤ l0) (c1 : 0 ≤ (-1) * l0 + 60) (c2 : 0 ≤ l1) (c3 : 0 ≤ (-1) * l1 + 60) (c4 : 0 ≤ l2) (c5 : 0 ≤ (-1) * l2 + 60) (c6 : 0 ≤ l3) (c7 : 0 ≤ (-1) * l3 + 60) (c8 : 0 ≤ r + (-2)) (c9 : 0 ≤ (-1) * r + 2) : p_TE2 a0 a1 a3 nn (l0 + 64 * l1 + 262144 * l3) := by
  obtain ⟨k0, k1, k2, k3, e, r, H⟩ := p0
  have rr := r
  unfold m_rg at rr
  obtain ⟨rfl, rfl, rfl, rfl⟩ : l0 = k0 ∧ l1 = k1 ∧ l2 = k2 ∧ l3 = k3 := by omega
  exact ⟨l0, l1, l3, by omega, (by unfold m_rg; omega), m_Qi (m_Qc0 H) (m_Qc1 H) (fun q a b _ => absurd b (by omega)) (m_Qc3 H)⟩
theorem k_tz02 {a2 : Int → Int} {u2 : Int} {m : Int} (p0 : m = u2) (c0 : 0 ≤ m) (c1 : 0 ≤ (-1) * m) : p_TZ2 a2 (m) := by
  exact fun i a b c => absurd b (by omega)
theorem k_tz12 {a2 : Int → Int} {i z : Int} (i1 : 0 ≤ i) (i2 : i < 60) (p0 : p_TZ2 a2 (i)) (c0 : 0 ≤ z) (c1 : 0 ≤ (-1) * z) (c2 : 0 ≤ i) (c3 : 0 ≤ (-1) * i + 59) : p_TZ2 (m_up a2 i z) (i + 1) := by
  intro j a b c
  by_cases e : j = i
  · rw [m_up_at e]; omega
  · rw [m_up_ne e]; exact p0 j a (by omega) c
theorem k_tz22 {a2 : Int → Int} {i : Int} (p0 : p_TZ2 a2 (i)) (c0 : 0 ≤ i + (-60)) (c1 : 0 ≤ (-1) * i + 60) : p_TZ2 a2 (60) := by
  exact fun j a b c => p0 j a (by omega) c
theorem k_tm02 {nn : Int → Int} {w2 : Int} {m z : Int} (p0 : m = w2) (c0 : 0 ≤ z) (c1 : 0 ≤ (-1) * z) : p_TM2 nn (z) := by
  exact fun i a b c => absurd b (by omega)
theorem k_tek2 {a0 : Int → Int} {a1 : Int → Int} {a3 : Int → Int} {nn : Int → Int} {i z F : Int} (i1 : 0 ≤ i) (i2 : i < 240) (p0 : p_TE2 a0 a1 a3 nn (F)) (c0 : 0 ≤ i + (-120)) (c1 : 0 ≤ (-1) * i + 179) : p_TE2 a0 a1 a3 (m_up nn i z) (F) := by
  obtain ⟨l0, l1, l3, e, r, H⟩ := p0
  have rr := r
  unfold m_rg at rr
  exact ⟨l0, l1, l3, e, r, m_Qi (fun q a b f => by rw [m_up_ne (by omega)]; exact m_Qc0 H q a b f) (fun q a b f => by rw [m_up_ne (by omega)]; exact m_Qc1 H q a b f) (fun q a b _ => absurd b (by omega)) (fun q a b f => by rw [m_up_ne (by omega)]; exact m_Qc3 H q a b f)⟩
theorem k_tm12 {nn : Int → Int} {i z k : Int} (i1 : 0 ≤ i) (i2 : i < 240) (p0 : p_TM2 nn (k)) (c0 : 0 ≤ i + (-1) * k + (-120)) (c1 : 0 ≤ k + (-1) * i + 120) (c2 : 0 ≤ z) (c3 : 0 ≤ (-1) * z) (c4 : 0 ≤ k) (c5 : 0 ≤ (-1) * k + 59) : p_TM2 (m_up nn i z) (k + 1) := by
  intro j a b c
  by_cases e : j = k
  · rw [m_up_at (by omega)]; omega
  · rw [m_up_ne (by omega)]; exact p0 j a (by omega) c
theorem k_tqf2 {a0 : Int → Int} {a1 : Int → Int} {a2 : Int → Int} {a3 : Int → Int} {nn : Int → Int} {l0 l1 l3 m k : Int} (p0 : p_TE2 a0 a1 a3 nn (l0 + 64 * l1 + 262144 * l3)) (p1 : p_TZ2 a2 (60)) (p2 : p_TM2 nn (k)) (c0 : 0 ≤ l0) (c1 : 0 ≤ (-1) * l0 + 60) (c2 : 0 ≤ l1) (c3 : 0 ≤ (-1) * l1 + 60) (c4 : 0 ≤ l3) (c5 : 0 ≤ (-1) * l3 + 60) (c6 : 0 ≤ k + (-1) * m) (c7 : 0 ≤ m) (c8 : 0 ≤ (-1) * m + 60) (c9 : 0 ≤ (-1) * k + 60) : p_TQ a0 a1 a2 a3 nn (l0 + 64 * l1 + 262144 * l3 + 4096 * m) := by
  obtain ⟨k0, k1, k3, e, r, H⟩ := p0
  have rr := r
  unfold m_rg at rr
  obtain ⟨rfl, rfl, rfl⟩ : l0 = k0 ∧ l1 = k1 ∧ l3 = k3 := by omega
  exact ⟨l0, l1, m, l3, by omega, (by unfold m_rg; omega), m_Qi (m_Qc0 H) (m_Qc1 H) (fun q a b _ => by rw [p1 q a (by omega) (by omega), show (60 * 2 + q : Int) = 120 + q by omega]; exact (p2 q a (by omega) (by omega)).symm) (m_Qc3 H)⟩
theorem k_te3 {a0 : Int → Int} {a1 : Int → Int} {a2 : Int → Int} {a3 : Int → Int} {nn : Int → Int} {l0 l1 l2 l3 r : Int} (p0 : p_TQ a0 a1 a2 a3 nn (l0 + 64 * l1 + 4096 * l2 + 262144 * l3)) (c0 : 0 ≤ l0) (c1 : 0 ≤ (-1) * l0 + 60) (c2 : 0 ≤ l1) (c3 : 0 ≤ (-1) * l1 + 60) (c4 : 0 ≤ l2) (c5 : 0 ≤ (-1) * l2 + 60) (c6 : 0 ≤ l3) (c7 : 0 ≤ (-1) * l3 + 60) (c8 : 0 ≤ r + (-3)) (c9 : 0 ≤ (-1) * r + 3) : p_TE3 a0 a1 a2 nn (l0 + 64 * l1 + 4096 * l2) := by
  obtain ⟨k0, k1, k2, k3, e, r, H⟩ := p0
  have rr := r
  unfold m_rg at rr
  obtain ⟨rfl, rfl, rfl, rfl⟩ : l0 = k0 ∧ l1 = k1 ∧ l2 = k2 ∧ l3 = k3 := by omega
  exact ⟨l0, l1, l2, by omega, (by unfold m_rg; omega), m_Qi (m_Qc0 H) (m_Qc1 H) (m_Qc2 H) (fun q a b _ => absurd b (by omega))⟩
theorem k_tz03 {a3 : Int → Int} {u3 : Int} {m : Int} (p0 : m = u3) (c0 : 0 ≤ m) (c1 : 0 ≤ (-1) * m) : p_TZ3 a3 (m) := by
  exact fun i a b c => absurd b (by omega)
theorem k_tz13 {a3 : Int → Int} {i z : Int} (i1 : 0 ≤ i) (i2 : i < 60) (p0 : p_TZ3 a3 (i)) (c0 : 0 ≤ z) (c1 : 0 ≤ (-1) * z) (c2 : 0 ≤ i) (c3 : 0 ≤ (-1) * i + 59) : p_TZ3 (m_up a3 i z) (i + 1) := by
  intro j a b c
  by_cases e : j = i
  · rw [m_up_at e]; omega
  · rw [m_up_ne e]; exact p0 j a (by omega) c
theorem k_tz23 {a3 : Int → Int} {i : Int} (p0 : p_TZ3 a3 (i)) (c0 : 0 ≤ i + (-60)) (c1 : 0 ≤ (-1) * i + 60) : p_TZ3 a3 (60) := by
  exact fun j a b c => p0 j a (by omega) c
theorem k_tm03 {nn : Int → Int} {w3 : Int} {m z : Int} (p0 : m = w3) (c0 : 0 ≤ z) (c1 : 0 ≤ (-1) * z) : p_TM3 nn (z) := by
  exact fun i a b c => absurd b (by omega)
theorem k_tek3 {a0 : Int → Int} {a1 : Int → Int} {a2 : Int → Int} {nn : Int → Int} {i z F : Int} (i1 : 0 ≤ i) (i2 : i < 240) (p0 : p_TE3 a0 a1 a2 nn (F)) (c0 : 0 ≤ i + (-180)) (c1 : 0 ≤ (-1) * i + 239) : p_TE3 a0 a1 a2 (m_up nn i z) (F) := by
  obtain ⟨l0, l1, l2, e, r, H⟩ := p0
  have rr := r
  unfold m_rg at rr
  exact ⟨l0, l1, l2, e, r, m_Qi (fun q a b f => by rw [m_up_ne (by omega)]; exact m_Qc0 H q a b f) (fun q a b f => by rw [m_up_ne (by omega)]; exact m_Qc1 H q a b f) (fun q a b f => by rw [m_up_ne (by omega)]; exact m_Qc2 H q a b f) (fun q a b _ => absurd b (by omega))⟩
theorem k_tm13 {nn : Int → Int} {i z k : Int} (i1 : 0 ≤ i) (i2 : i < 240) (p0 : p_TM3 nn (k)) (c0 : 0 ≤ i + (-1) * k + (-180)) (c1 : 0 ≤ k + (-1) * i + 180) (c2 : 0 ≤ z) (c3 : 0 ≤ (-1) * z) (c4 : 0 ≤ k) (c5 : 0 ≤ (-1) * k + 59) : p_TM3 (m_up nn i z) (k + 1) := by
  intro j a b c
  by_cases e : j = k
  · rw [m_up_at (by omega)]; omega
  · rw [m_up_ne (by omega)]; exact p0 j a (by omega) c
theorem k_tqf3 {a0 : Int → Int} {a1 : Int → Int} {a2 : Int → Int} {a3 : Int → Int} {nn : Int → Int} {l0 l1 l2 m k : Int} (p0 : p_TE3 a0 a1 a2 nn (l0 + 64 * l1 + 4096 * l2)) (p1 : p_TZ3 a3 (60)) (p2 : p_TM3 nn (k)) (c0 : 0 ≤ l0) (c1 : 0 ≤ (-1) * l0 + 60) (c2 : 0 ≤ l1) (c3 : 0 ≤ (-1) * l1 + 60) (c4 : 0 ≤ l2) (c5 : 0 ≤ (-1) * l2 + 60) (c6 : 0 ≤ k + (-1) * m) (c7 : 0 ≤ m) (c8 : 0 ≤ (-1) * m + 60) (c9 : 0 ≤ (-1) * k + 60) : p_TQ a0 a1 a2 a3 nn (l0 + 64 * l1 + 4096 * l2 + 262144 * m) := by
  obtain ⟨k0, k1, k2, e, r, H⟩ := p0
  have rr := r
  unfold m_rg at rr
  obtain ⟨rfl, rfl, rfl⟩ : l0 = k0 ∧ l1 = k1 ∧ l2 = k2 := by omega
  exact ⟨l0, l1, l2, m, by omega, (by unfold m_rg; omega), m_Qi (m_Qc0 H) (m_Qc1 H) (m_Qc2 H) (fun q a b _ => by rw [p1 q a (by omega) (by omega), show (60 * 3 + q : Int) = 180 + q by omega]; exact (p2 q a (by omega) (by omega)).symm)⟩
theorem k_li {v y : Int} (i3 : y = m_w32 v) (c0 : 0 ≤ v + 9223372036854775808) (c1 : 0 ≤ (-1) * v + 9223372036854775807) (c2 : 0 ≤ y + 2147483648) (c3 : 0 ≤ (-1) * y + 2147483647) : p_LI (v + 18446744073709551616 * y + 39614081266355540833626750976) := by
  exact ⟨v, y, by omega, c0, by omega, i3⟩
theorem k_cv0 {y z v : Int} (i3 : z = m_w8 y) (p0 : p_LI (v + 18446744073709551616 * y + 39614081266355540833626750976)) (c0 : 0 ≤ v + 9223372036854775808) (c1 : 0 ≤ (-1) * v + 9223372036854775807) (c2 : 0 ≤ y + 2147483648) (c3 : 0 ≤ (-1) * y + 2147483647) (c4 : 0 ≤ z + 128) (c5 : 0 ≤ (-1) * z + 127) : p_CV0 (v + 18446744073709551616 * z + 170141183460469231740910675752738881536) := by
  obtain ⟨v1, y1, e, a, b, h⟩ := p0
  obtain ⟨rfl, rfl⟩ : v = v1 ∧ y = y1 := by omega
  refine ⟨v, z, by omega, c0, by omega, ?_⟩
  unfold m_w8 m_w32 at *
  omega
theorem k_cv1 {y z v : Int} (i3 : z = m_w16 y) (p0 : p_LI (v + 18446744073709551616 * y + 39614081266355540833626750976)) (c0 : 0 ≤ v + 9223372036854775808) (c1 : 0 ≤ (-1) * v + 9223372036854775807) (c2 : 0 ≤ y + 2147483648) (c3 : 0 ≤ (-1) * y + 2147483647) (c4 : 0 ≤ z + 32768) (c5 : 0 ≤ (-1) * z + 32767) : p_CV1 (v + 18446744073709551616 * z + 170141183460469231740910675752738881536) := by
  obtain ⟨v1, y1, e, a, b, h⟩ := p0
  obtain ⟨rfl, rfl⟩ : v = v1 ∧ y = y1 := by omega
  refine ⟨v, z, by omega, c0, by omega, ?_⟩
  unfold m_w16 m_w32 at *
  omega
theorem k_cv2 {y v : Int} (p0 : p_LI (v + 18446744073709551616 * y + 39614081266355540833626750976)) (c0 : 0 ≤ v + 9223372036854775808) (c1 : 0 ≤ (-1) * v + 9223372036854775807) (c2 : 0 ≤ y + 2147483648) (c3 : 0 ≤ (-1) * y + 2147483647) : p_CV2 (v + 18446744073709551616 * y + 170141183460469231740910675752738881536) := by
  obtain ⟨v1, y1, e, a, b, h⟩ := p0
  obtain ⟨rfl, rfl⟩ : v = v1 ∧ y = y1 := by omega
  exact ⟨v, y, by omega, c0, by omega, h⟩
theorem k_cr0 {y z v : Int} (i3 : z = m_w8 y) (p0 : p_LI (v + 18446744073709551616 * y + 39614081266355540833626750976)) (c0 : 0 ≤ v + 9223372036854775808) (c1 : 0 ≤ (-1) * v + 9223372036854775807) (c2 : 0 ≤ y + 2147483648) (c3 : 0 ≤ (-1) * y + 2147483647) (c4 : 0 ≤ z + 128) (c5 : 0 ≤ (-1) * z + 127) : p_CR0 (v + 18446744073709551616 * z + 170141183460469231740910675752738881536) := by
  obtain ⟨v1, y1, e, a, b, h⟩ := p0
  obtain ⟨rfl, rfl⟩ : v = v1 ∧ y = y1 := by omega
  refine ⟨v, z, by omega, c0, by omega, ?_⟩
  unfold m_w8 m_w32 at *
  omega
theorem k_cr1 {y z v : Int} (i3 : z = m_w16 y) (p0 : p_LI (v + 18446744073709551616 * y + 39614081266355540833626750976)) (c0 : 0 ≤ v + 9223372036854775808) (c1 : 0 ≤ (-1) * v + 9223372036854775807) (c2 : 0 ≤ y + 2147483648) (c3 : 0 ≤ (-1) * y + 2147483647) (c4 : 0 ≤ z + 32768) (c5 : 0 ≤ (-1) * z + 32767) : p_CR1 (v + 18446744073709551616 * z + 170141183460469231740910675752738881536) := by
  obtain ⟨v1, y1, e, a, b, h⟩ := p0
  obtain ⟨rfl, rfl⟩ : v = v1 ∧ y = y1 := by omega
  refine ⟨v, z, by omega, c0, by omega, ?_⟩
  unfold m_w16 m_w32 at *
  omega
theorem k_cr2 {y v : Int} (p0 : p_LI (v + 18446744073709551616 * y + 39614081266355540833626750976)) (c0 : 0 ≤ v + 9223372036854775808) (c1 : 0 ≤ (-1) * v + 9223372036854775807) (c2 : 0 ≤ y + 2147483648) (c3 : 0 ≤ (-1) * y + 2147483647) : p_CR2 (v + 18446744073709551616 * y + 170141183460469231740910675752738881536) := by
  obtain ⟨v1, y1, e, a, b, h⟩ := p0
  obtain ⟨rfl, rfl⟩ : v = v1 ∧ y = y1 := by omega
  exact ⟨v, y, by omega, c0, by omega, h⟩
theorem k_xw {z : Int} : p_XW (z) := by
  trivial
theorem k_ex0 {a0 : Int → Int} {a1 : Int → Int} {a2 : Int → Int} {a3 : Int → Int} {nn : Int → Int} {i z F : Int} (i1 : 0 ≤ i) (i2 : i < 60) (p0 : p_TQ a0 a1 a2 a3 nn (F)) (c0 : 0 ≤ i) (c1 : 0 ≤ (-1) * i + 59) (c2 : 0 ≤ F) (c3 : 0 ≤ (-1) * F + 16777215) (c4 : 0 ≤ z + 9223372036854775808) : p_EX0 (m_up a0 i z) a1 a2 a3 nn (F + 16777216 * i + 1073741824 * z + 9903520314283042199192993792) := by
  obtain ⟨l0, l1, l2, l3, e, r, H⟩ := p0
  exact ⟨l0, l1, l2, l3, i, z, by omega, r, c0, by omega, by omega, m_Qi (fun q a b f => by rcases f with f | f; exact absurd rfl f; rw [m_up_ne f]; exact m_Qc0 H q a b trivial) (fun q a b _ => m_Qc1 H q a b trivial) (fun q a b _ => m_Qc2 H q a b trivial) (fun q a b _ => m_Qc3 H q a b trivial), m_up_at rfl⟩
theorem k_exw0 {a0 : Int → Int} {a1 : Int → Int} {a2 : Int → Int} {a3 : Int → Int} {nn : Int → Int} {i z p w l0 l1 l2 l3 : Int} (i1 : 0 ≤ i) (i2 : i < 240) (p0 : p_EX0 a0 a1 a2 a3 nn (l0 + 64 * l1 + 4096 * l2 + 262144 * l3 + 16777216 * p + 1073741824 * w + 9903520314283042199192993792)) (c0 : 0 ≤ l0) (c1 : 0 ≤ (-1) * l0 + 60) (c2 : 0 ≤ l1) (c3 : 0 ≤ (-1) * l1 + 60) (c4 : 0 ≤ l2) (c5 : 0 ≤ (-1) * l2 + 60) (c6 : 0 ≤ l3) (c7 : 0 ≤ (-1) * l3 + 60) (c8 : 0 ≤ p) (c9 : 0 ≤ (-1) * p + 59) (c10 : 0 ≤ i + (-1) * p) (c11 : 0 ≤ p + (-1) * i) (c12 : 0 ≤ z + (-1) * w) (c13 : 0 ≤ w + (-1) * z) (c14 : 0 ≤ w + 9223372036854775808) (c15 : 0 ≤ (-1) * w + 9223372036854775807) : p_TQ a0 a1 a2 a3 (m_up nn i z) (l0 + 64 * l1 + 4096 * l2 + 262144 * l3) := by
  obtain ⟨k0, k1, k2, k3, pp, ww, e, r, pa, pb, wa, H, hw⟩ := p0
  have rr := r
  unfold m_rg at rr
  obtain ⟨rfl, rfl, rfl, rfl, rfl, rfl⟩ : l0 = k0 ∧ l1 = k1 ∧ l2 = k2 ∧ l3 = k3 ∧ p = pp ∧ w = ww := by omega
  refine ⟨l0, l1, l2, l3, rfl, r, m_Qi (fun q a b _ => ?_) (fun q a b _ => by rw [m_up_ne (by omega)]; exact m_Qc1 H q a b (Or.inl (by decide))) (fun q a b _ => by rw [m_up_ne (by omega)]; exact m_Qc2 H q a b (Or.inl (by decide))) (fun q a b _ => by rw [m_up_ne (by omega)]; exact m_Qc3 H q a b (Or.inl (by decide)))⟩
  by_cases f : q = p
  · rw [m_up_at (by omega), f, hw]; omega
  · rw [m_up_ne (by omega)]; exact m_Qc0 H q a b (Or.inr f)
theorem k_ex1 {a0 : Int → Int} {a1 : Int → Int} {a2 : Int → Int} {a3 : Int → Int} {nn : Int → Int} {i z F : Int} (i1 : 0 ≤ i) (i2 : i < 60) (p0 : p_TQ a0 a1 a2 a3 nn (F)) (c0 : 0 ≤ i) (c1 : 0 ≤ (-1) * i + 59) (c2 : 0 ≤ F) (c3 : 0 ≤ (-1) * F + 16777215) (c4 : 0 ≤ z + 9223372036854775808) : p_EX1 a0 (m_up a1 i z) a2 a3 nn (F + 16777216 * i + 1073741824 * z + 9903520314283042199192993792) := by
  obtain ⟨l0, l1, l2, l3, e, r, H⟩ := p0
  exact ⟨l0, l1, l2, l3, i, z, by omega, r, c0, by omega, by omega, m_Qi (fun q a b _ => m_Qc0 H q a b trivial) (fun q a b f => by rcases f with f | f; exact absurd rfl f; rw [m_up_ne f]; exact m_Qc1 H q a b trivial) (fun q a b _ => m_Qc2 H q a b trivial) (fun q a b _ => m_Qc3 H q a b trivial), m_up_at rfl⟩
theorem k_exw1 {a0 : Int → Int} {a1 : Int → Int} {a2 : Int → Int} {a3 : Int → Int} {nn : Int → Int} {i z p w l0 l1 l2 l3 : Int} (i1 : 0 ≤ i) (i2 : i < 240) (p0 : p_EX1 a0 a1 a2 a3 nn (l0 + 64 * l1 + 4096 * l2 + 262144 * l3 + 16777216 * p + 1073741824 * w + 9903520314283042199192993792)) (c0 : 0 ≤ l0) (c1 : 0 ≤ (-1) * l0 + 60) (c2 : 0 ≤ l1) (c3 : 0 ≤ (-1) * l1 + 60) (c4 : 0 ≤ l2) (c5 : 0 ≤ (-1) * l2 + 60) (c6 : 0 ≤ l3) (c7 : 0 ≤ (-1) * l3 + 60) (c8 : 0 ≤ p) (c9 : 0 ≤ (-1) * p + 59) (c10 : 0 ≤ i + (-1) * p + (-60)) (c11 : 0 ≤ p + (-1) * i + 60) (c12 : 0 ≤ z + (-1) * w) (c13 : 0 ≤ w + (-1) * z) (c14 : 0 ≤ w + 9223372036854775808) (c15 : 0 ≤ (-1) * w + 9223372036854775807) : p_TQ a0 a1 a2 a3 (m_up nn i z) (l0 + 64 * l1 + 4096 * l2 + 262144 * l3) := by
  obtain ⟨k0, k1, k2, k3, pp, ww, e, r, pa, pb, wa, H, hw⟩ := p0
  have rr := r
  unfold m_rg at rr
  obtain ⟨rfl, rfl, rfl, rfl, rfl, rfl⟩ : l0 = k0 ∧ l1 = k1 ∧ l2 = k2 ∧ l3 = k3 ∧ p = pp ∧ w = ww := by omega
  refine ⟨l0, l1, l2, l3, rfl, r, m_Qi (fun q a b _ => by rw [m_up_ne (by omega)]; exact m_Qc0 H q a b (Or.inl (by decide))) (fun q a b _ => ?_) (fun q a b _ => by rw [m_up_ne (by omega)]; exact m_Qc2 H q a b (Or.inl (by decide))) (fun q a b _ => by rw [m_up_ne (by omega)]; exact m_Qc3 H q a b (Or.inl (by decide)))⟩
  by_cases f : q = p
  · rw [m_up_at (by omega), f, hw]; omega
  · rw [m_up_ne (by omega)]; exact m_Qc1 H q a b (Or.inr f)
theorem k_ex2 {a0 : Int → Int} {a1 : Int → Int} {a2 : Int → Int} {a3 : Int → Int} {nn : Int → Int} {i z F : Int} (i1 : 0 ≤ i) (i2 : i < 60) (p0 : p_TQ a0 a1 a2 a3 nn (F)) (c0 : 0 ≤ i) (c1 : 0 ≤ (-1) * i + 59) (c2 : 0 ≤ F) (c3 : 0 ≤ (-1) * F + 16777215) (c4 : 0 ≤ z + 9223372036854775808) : p_EX2 a0 a1 (m_up a2 i z) a3 nn (F + 16777216 * i + 1073741824 * z + 9903520314283042199192993792) := by
  obtain ⟨l0, l1, l2, l3, e, r, H⟩ := p0
  exact ⟨l0, l1, l2, l3, i, z, by omega, r, c0, by omega, by omega, m_Qi (fun q a b _ => m_Qc0 H q a b trivial) (fun q a b _ => m_Qc1 H q a b trivial) (fun q a b f => by rcases f with f | f; exact absurd rfl f; rw [m_up_ne f]; exact m_Qc2 H q a b trivial) (fun q a b _ => m_Qc3 H q a b trivial), m_up_at rfl⟩
theorem k_exw2 {a0 : Int → Int} {a1 : Int → Int} {a2 : Int → Int} {a3 : Int → Int} {nn : Int → Int} {i z p w l0 l1 l2 l3 : Int} (i1 : 0 ≤ i) (i2 : i < 240) (p0 : p_EX2 a0 a1 a2 a3 nn (l0 + 64 * l1 + 4096 * l2 + 262144 * l3 + 16777216 * p + 1073741824 * w + 9903520314283042199192993792)) (c0 : 0 ≤ l0) (c1 : 0 ≤ (-1) * l0 + 60) (c2 : 0 ≤ l1) (c3 : 0 ≤ (-1) * l1 + 60) (c4 : 0 ≤ l2) (c5 : 0 ≤ (-1) * l2 + 60) (c6 : 0 ≤ l3) (c7 : 0 ≤ (-1) * l3 + 60) (c8 : 0 ≤ p) (c9 : 0 ≤ (-1) * p + 59) (c10 : 0 ≤ i + (-1) * p + (-120)) (c11 : 0 ≤ p + (-1) * i + 120) (c12 : 0 ≤ z + (-1) * w) (c13 : 0 ≤ w + (-1) * z) (c14 : 0 ≤ w + 9223372036854775808) (c15 : 0 ≤ (-1) * w + 9223372036854775807) : p_TQ a0 a1 a2 a3 (m_up nn i z) (l0 + 64 * l1 + 4096 * l2 + 262144 * l3) := by
  obtain ⟨k0, k1, k2, k3, pp, ww, e, r, pa, pb, wa, H, hw⟩ := p0
  have rr := r
  unfold m_rg at rr
  obtain ⟨rfl, rfl, rfl, rfl, rfl, rfl⟩ : l0 = k0 ∧ l1 = k1 ∧ l2 = k2 ∧ l3 = k3 ∧ p = pp ∧ w = ww := by omega
  refine ⟨l0, l1, l2, l3, rfl, r, m_Qi (fun q a b _ => by rw [m_up_ne (by omega)]; exact m_Qc0 H q a b (Or.inl (by decide))) (fun q a b _ => by rw [m_up_ne (by omega)]; exact m_Qc1 H q a b (Or.inl (by decide))) (fun q a b _ => ?_) (fun q a b _ => by rw [m_up_ne (by omega)]; exact m_Qc3 H q a b (Or.inl (by decide)))⟩
  by_cases f : q = p
  · rw [m_up_at (by omega), f, hw]; omega
  · rw [m_up_ne (by omega)]; exact m_Qc2 H q a b (Or.inr f)
theorem k_ex3 {a0 : Int → Int} {a1 : Int → Int} {a2 : Int → Int} {a3 : Int → Int} {nn : Int → Int} {i z F : Int} (i1 : 0 ≤ i) (i2 : i < 60) (p0 : p_TQ a0 a1 a2 a3 nn (F)) (c0 : 0 ≤ i) (c1 : 0 ≤ (-1) * i + 59) (c2 : 0 ≤ F) (c3 : 0 ≤ (-1) * F + 16777215) (c4 : 0 ≤ z + 9223372036854775808) : p_EX3 a0 a1 a2 (m_up a3 i z) nn (F + 16777216 * i + 1073741824 * z + 9903520314283042199192993792) := by
  obtain ⟨l0, l1, l2, l3, e, r, H⟩ := p0
  exact ⟨l0, l1, l2, l3, i, z, by omega, r, c0, by omega, by omega, m_Qi (fun q a b _ => m_Qc0 H q a b trivial) (fun q a b _ => m_Qc1 H q a b trivial) (fun q a b _ => m_Qc2 H q a b trivial) (fun q a b f => by rcases f with f | f; exact absurd rfl f; rw [m_up_ne f]; exact m_Qc3 H q a b trivial), m_up_at rfl⟩
theorem k_exw3 {a0 : Int → Int} {a1 : Int → Int} {a2 : Int → Int} {a3 : Int → Int} {nn : Int → Int} {i z p w l0 l1 l2 l3 : Int} (i1 : 0 ≤ i) (i2 : i < 240) (p0 : p_EX3 a0 a1 a2 a3 nn (l0 + 64 * l1 + 4096 * l2 + 262144 * l3 + 16777216 * p + 1073741824 * w + 9903520314283042199192993792)) (c0 : 0 ≤ l0) (c1 : 0 ≤ (-1) * l0 + 60) (c2 : 0 ≤ l1) (c3 : 0 ≤ (-1) * l1 + 60) (c4 : 0 ≤ l2) (c5 : 0 ≤ (-1) * l2 + 60) (c6 : 0 ≤ l3) (c7 : 0 ≤ (-1) * l3 + 60) (c8 : 0 ≤ p) (c9 : 0 ≤ (-1) * p + 59) (c10 : 0 ≤ i + (-1) * p + (-180)) (c11 : 0 ≤ p + (-1) * i + 180) (c12 : 0 ≤ z + (-1) * w) (c13 : 0 ≤ w + (-1) * z) (c14 : 0 ≤ w + 9223372036854775808) (c15 : 0 ≤ (-1) * w + 9223372036854775807) : p_TQ a0 a1 a2 a3 (m_up nn i z) (l0 + 64 * l1 + 4096 * l2 + 262144 * l3) := by
  obtain ⟨k0, k1, k2, k3, pp, ww, e, r, pa, pb, wa, H, hw⟩ := p0
  have rr := r
  unfold m_rg at rr
  obtain ⟨rfl, rfl, rfl, rfl, rfl, rfl⟩ : l0 = k0 ∧ l1 = k1 ∧ l2 = k2 ∧ l3 = k3 ∧ p = pp ∧ w = ww := by omega
  refine ⟨l0, l1, l2, l3, rfl, r, m_Qi (fun q a b _ => by rw [m_up_ne (by omega)]; exact m_Qc0 H q a b (Or.inl (by decide))) (fun q a b _ => by rw [m_up_ne (by omega)]; exact m_Qc1 H q a b (Or.inl (by decide))) (fun q a b _ => by rw [m_up_ne (by omega)]; exact m_Qc2 H q a b (Or.inl (by decide))) (fun q a b _ => ?_)⟩
  by_cases f : q = p
  · rw [m_up_at (by omega), f, hw]; omega
  · rw [m_up_ne (by omega)]; exact m_Qc3 H q a b (Or.inr f)
theorem k_cve0a {v w z : Int} (p0 : p_CV0 (v + 18446744073709551616 * w + 170141183460469231740910675752738881536)) (p1 : p_CR0 (v + 18446744073709551616 * z + 170141183460469231740910675752738881536)) (c0 : 0 ≤ v + 9223372036854775808) (c1 : 0 ≤ (-1) * v + 9223372036854775807) : 0 ≤ w + (-1) * z := by
  obtain ⟨v1, w1, e1, a1, b1, h1⟩ := p0
  obtain ⟨v2, z2, e2, a2, b2, h2⟩ := p1
  obtain ⟨rfl, rfl⟩ : v = v1 ∧ w = w1 := by omega
  obtain ⟨rfl, rfl⟩ : v = v2 ∧ z = z2 := by omega
  omega
theorem k_cve0b {v w z : Int} (p0 : p_CV0 (v + 18446744073709551616 * w + 170141183460469231740910675752738881536)) (p1 : p_CR0 (v + 18446744073709551616 * z + 170141183460469231740910675752738881536)) (c0 : 0 ≤ v + 9223372036854775808) (c1 : 0 ≤ (-1) * v + 9223372036854775807) : 0 ≤ z + (-1) * w := by
  obtain ⟨v1, w1, e1, a1, b1, h1⟩ := p0
  obtain ⟨v2, z2, e2, a2, b2, h2⟩ := p1
  obtain ⟨rfl, rfl⟩ : v = v1 ∧ w = w1 := by omega
  obtain ⟨rfl, rfl⟩ : v = v2 ∧ z = z2 := by omega
  omega
theorem k_cve1a {v w z : Int} (p0 : p_CV1 (v + 18446744073709551616 * w + 170141183460469231740910675752738881536)) (p1 : p_CR1 (v + 18446744073709551616 * z + 170141183460469231740910675752738881536)) (c0 : 0 ≤ v + 9223372036854775808) (c1 : 0 ≤ (-1) * v + 9223372036854775807) : 0 ≤ w + (-1) * z := by
  obtain ⟨v1, w1, e1, a1, b1, h1⟩ := p0
  obtain ⟨v2, z2, e2, a2, b2, h2⟩ := p1
  obtain ⟨rfl, rfl⟩ : v = v1 ∧ w = w1 := by omega
  obtain ⟨rfl, rfl⟩ : v = v2 ∧ z = z2 := by omega
  omega
theorem k_cve1b {v w z : Int} (p0 : p_CV1 (v + 18446744073709551616 * w + 170141183460469231740910675752738881536)) (p1 : p_CR1 (v + 18446744073709551616 * z + 170141183460469231740910675752738881536)) (c0 : 0 ≤ v + 9223372036854775808) (c1 : 0 ≤ (-1) * v + 9223372036854775807) : 0 ≤ z + (-1) * w := by
  obtain ⟨v1, w1, e1, a1, b1, h1⟩ := p0
  obtain ⟨v2, z2, e2, a2, b2, h2⟩ := p1
  obtain ⟨rfl, rfl⟩ : v = v1 ∧ w = w1 := by omega
  obtain ⟨rfl, rfl⟩ : v = v2 ∧ z = z2 := by omega
  omega
theorem k_cve2a {v w z : Int} (p0 : p_CV2 (v + 18446744073709551616 * w + 170141183460469231740910675752738881536)) (p1 : p_CR2 (v + 18446744073709551616 * z + 170141183460469231740910675752738881536)) (c0 : 0 ≤ v + 9223372036854775808) (c1 : 0 ≤ (-1) * v + 9223372036854775807) : 0 ≤ w + (-1) * z := by
  obtain ⟨v1, w1, e1, a1, b1, h1⟩ := p0
  obtain ⟨v2, z2, e2, a2, b2, h2⟩ := p1
  obtain ⟨rfl, rfl⟩ : v = v1 ∧ w = w1 := by omega
  obtain ⟨rfl, rfl⟩ : v = v2 ∧ z = z2 := by omega
  omega
theorem k_cve2b {v w z : Int} (p0 : p_CV2 (v + 18446744073709551616 * w + 170141183460469231740910675752738881536)) (p1 : p_CR2 (v + 18446744073709551616 * z + 170141183460469231740910675752738881536)) (c0 : 0 ≤ v + 9223372036854775808) (c1 : 0 ≤ (-1) * v + 9223372036854775807) : 0 ≤ z + (-1) * w := by
  obtain ⟨v1, w1, e1, a1, b1, h1⟩ := p0
  obtain ⟨v2, z2, e2, a2, b2, h2⟩ := p1
  obtain ⟨rfl, rfl⟩ : v = v1 ∧ w = w1 := by omega
  obtain ⟨rfl, rfl⟩ : v = v2 ∧ z = z2 := by omega
  omega
theorem k_nv0 {a0 : Int → Int} {i z : Int} (za0 : 0 ≤ i - 0 → i - 0 < 60 → a0 (i - 0) = z) (c0 : 0 ≤ i) (c1 : 0 ≤ (-1) * i + 59) (c2 : 0 ≤ z + 9223372036854775808) (c3 : 0 ≤ (-1) * z + 9223372036854775807) : p_NV0 a0 (i + 64 * z + 590295810358705651712) := by
  have h := za0 (by omega) (by omega)
  rw [show i - 0 = i by omega] at h
  exact ⟨i, z, by omega, c0, by omega, c2, h⟩
theorem k_rq0a {a0 : Int → Int} {a1 : Int → Int} {a2 : Int → Int} {a3 : Int → Int} {nn : Int → Int} {i z p w l0 l1 l2 l3 : Int} (znn : 0 ≤ i - 0 → i - 0 < 240 → nn (i - 0) = z) (p0 : p_TQ a0 a1 a2 a3 nn (l0 + 64 * l1 + 4096 * l2 + 262144 * l3)) (p1 : p_NV0 a0 (p + 64 * w + 590295810358705651712)) (c0 : 0 ≤ l0) (c1 : 0 ≤ (-1) * l0 + 60) (c2 : 0 ≤ l1) (c3 : 0 ≤ (-1) * l1 + 60) (c4 : 0 ≤ l2) (c5 : 0 ≤ (-1) * l2 + 60) (c6 : 0 ≤ l3) (c7 : 0 ≤ (-1) * l3 + 60) (c8 : 0 ≤ p) (c9 : 0 ≤ l0 + (-1) * p + (-1)) (c10 : 0 ≤ i + (-1) * p) (c11 : 0 ≤ p + (-1) * i) (c12 : 0 ≤ w + 9223372036854775808) (c13 : 0 ≤ (-1) * w + 9223372036854775807) : 0 ≤ w + (-1) * z := by
  obtain ⟨k0, k1, k2, k3, e, r, H⟩ := p0
  have rr := r
  unfold m_rg at rr
  obtain ⟨rfl, rfl, rfl, rfl⟩ : l0 = k0 ∧ l1 = k1 ∧ l2 = k2 ∧ l3 = k3 := by omega
  obtain ⟨pp, ww, e2, pa, pb, wa, hw⟩ := p1
  obtain ⟨rfl, rfl⟩ : p = pp ∧ w = ww := by omega
  have h1 := m_Qc0 H p (by omega) (by omega) trivial
  have h2 := znn (by omega) (by omega)
  rw [show i - 0 = 60 * 0 + p by omega] at h2
  omega
theorem k_rq0b {a0 : Int → Int} {a1 : Int → Int} {a2 : Int → Int} {a3 : Int → Int} {nn : Int → Int} {i z p w l0 l1 l2 l3 : Int} (znn : 0 ≤ i - 0 → i - 0 < 240 → nn (i - 0) = z) (p0 : p_TQ a0 a1 a2 a3 nn (l0 + 64 * l1 + 4096 * l2 + 262144 * l3)) (p1 : p_NV0 a0 (p + 64 * w + 590295810358705651712)) (c0 : 0 ≤ l0) (c1 : 0 ≤ (-1) * l0 + 60) (c2 : 0 ≤ l1) (c3 : 0 ≤ (-1) * l1 + 60) (c4 : 0 ≤ l2) (c5 : 0 ≤ (-1) * l2 + 60) (c6 : 0 ≤ l3) (c7 : 0 ≤ (-1) * l3 + 60) (c8 : 0 ≤ p) (c9 : 0 ≤ l0 + (-1) * p + (-1)) (c10 : 0 ≤ i + (-1) * p) (c11 : 0 ≤ p + (-1) * i) (c12 : 0 ≤ w + 9223372036854775808) (c13 : 0 ≤ (-1) * w + 9223372036854775807) : 0 ≤ z + (-1) * w := by
  obtain ⟨k0, k1, k2, k3, e, r, H⟩ := p0
  have rr := r
  unfold m_rg at rr
  obtain ⟨rfl, rfl, rfl, rfl⟩ : l0 = k0 ∧ l1 = k1 ∧ l2 = k2 ∧ l3 = k3 := by omega
  obtain ⟨pp, ww, e2, pa, pb, wa, hw⟩ := p1
  obtain ⟨rfl, rfl⟩ : p = pp ∧ w = ww := by omega
  have h1 := m_Qc0 H p (by omega) (by omega) trivial
  have h2 := znn (by omega) (by omega)
  rw [show i - 0 = 60 * 0 + p by omega] at h2
  omega
theorem k_nv1 {a1 : Int → Int} {i z : Int} (za1 : 0 ≤ i - 0 → i - 0 < 60 → a1 (i - 0) = z) (c0 : 0 ≤ i) (c1 : 0 ≤ (-1) * i + 59) (c2 : 0 ≤ z + 9223372036854775808) (c3 : 0 ≤ (-1) * z + 9223372036854775807) : p_NV1 a1 (i + 64 * z + 590295810358705651712) := by
  have h := za1 (by omega) (by omega)
  rw [show i - 0 = i by omega] at h
  exact ⟨i, z, by omega, c0, by omega, c2, h⟩
theorem k_rq1a {a0 : Int → Int} {a1 : Int → Int} {a2 : Int → Int} {a3 : Int → Int} {nn : Int → Int} {i z p w l0 l1 l2 l3 : Int} (znn : 0 ≤ i - 0 → i - 0 < 240 → nn (i - 0) = z) (p0 : p_TQ a0 a1 a2 a3 nn (l0 + 64 * l1 + 4096 * l2 + 262144 * l3)) (p1 : p_NV1 a1 (p + 64 * w + 590295810358705651712)) (c0 : 0 ≤ l0) (c1 : 0 ≤ (-1) * l0 + 60) (c2 : 0 ≤ l1) (c3 : 0 ≤ (-1) * l1 + 60) (c4 : 0 ≤ l2) (c5 : 0 ≤ (-1) * l2 + 60) (c6 : 0 ≤ l3) (c7 : 0 ≤ (-1) * l3 + 60) (c8 : 0 ≤ p) (c9 : 0 ≤ l1 + (-1) * p + (-1)) (c10 : 0 ≤ i + (-1) * p + (-60)) (c11 : 0 ≤ p + (-1) * i + 60) (c12 : 0 ≤ w + 9223372036854775808) (c13 : 0 ≤ (-1) * w + 9223372036854775807) : 0 ≤ w + (-1) * z := by
  obtain ⟨k0, k1, k2, k3, e, r, H⟩ := p0
  have rr := r
  unfold m_rg at rr
  obtain ⟨rfl, rfl, rfl, rfl⟩ : l0 = k0 ∧ l1 = k1 ∧ l2 = k2 ∧ l3 = k3 := by omega
  obtain ⟨pp, ww, e2, pa, pb, wa, hw⟩ := p1
  obtain ⟨rfl, rfl⟩ : p = pp ∧ w = ww := by omega
  have h1 := m_Qc1 H p (by omega) (by omega) trivial
  have h2 := znn (by omega) (by omega)
  rw [show i - 0 = 60 * 1 + p by omega] at h2
  omega
theorem k_rq1b {a0 : Int → Int} {a1 : Int → Int} {a2 : Int → Int} {a3 : Int → Int} {nn : Int → Int} {i z p w l0 l1 l2 l3 : Int} (znn : 0 ≤ i - 0 → i - 0 < 240 → nn (i - 0) = z) (p0 : p_TQ a0 a1 a2 a3 nn (l0 + 64 * l1 + 4096 * l2 + 262144 * l3)) (p1 : p_NV1 a1 (p + 64 * w + 590295810358705651712)) (c0 : 0 ≤ l0) (c1 : 0 ≤ (-1) * l0 + 60) (c2 : 0 ≤ l1) (c3 : 0 ≤ (-1) * l1 + 60) (c4 : 0 ≤ l2) (c5 : 0 ≤ (-1) * l2 + 60) (c6 : 0 ≤ l3) (c7 : 0 ≤ (-1) * l3 + 60) (c8 : 0 ≤ p) (c9 : 0 ≤ l1 + (-1) * p + (-1)) (c10 : 0 ≤ i + (-1) * p + (-60)) (c11 : 0 ≤ p + (-1) * i + 60) (c12 : 0 ≤ w + 9223372036854775808) (c13 : 0 ≤ (-1) * w + 9223372036854775807) : 0 ≤ z + (-1) * w := by
  obtain ⟨k0, k1, k2, k3, e, r, H⟩ := p0
  have rr := r
  unfold m_rg at rr
  obtain ⟨rfl, rfl, rfl, rfl⟩ : l0 = k0 ∧ l1 = k1 ∧ l2 = k2 ∧ l3 = k3 := by omega
  obtain ⟨pp, ww, e2, pa, pb, wa, hw⟩ := p1
  obtain ⟨rfl, rfl⟩ : p = pp ∧ w = ww := by omega
  have h1 := m_Qc1 H p (by omega) (by omega) trivial
  have h2 := znn (by omega) (by omega)
  rw [show i - 0 = 60 * 1 + p by omega] at h2
  omega
theorem k_nv2 {a2 : Int → Int} {i z : Int} (za2 : 0 ≤ i - 0 → i - 0 < 60 → a2 (i - 0) = z) (c0 : 0 ≤ i) (c1 : 0 ≤ (-1) * i + 59) (c2 : 0 ≤ z + 9223372036854775808) (c3 : 0 ≤ (-1) * z + 9223372036854775807) : p_NV2 a2 (i + 64 * z + 590295810358705651712) := by
  have h := za2 (by omega) (by omega)
  rw [show i - 0 = i by omega] at h
  exact ⟨i, z, by omega, c0, by omega, c2, h⟩
theorem k_rq2a {a0 : Int → Int} {a1 : Int → Int} {a2 : Int → Int} {a3 : Int → Int} {nn : Int → Int} {i z p w l0 l1 l2 l3 : Int} (znn : 0 ≤ i - 0 → i - 0 < 240 → nn (i - 0) = z) (p0 : p_TQ a0 a1 a2 a3 nn (l0 + 64 * l1 + 4096 * l2 + 262144 * l3)) (p1 : p_NV2 a2 (p + 64 * w + 590295810358705651712)) (c0 : 0 ≤ l0) (c1 : 0 ≤ (-1) * l0 + 60) (c2 : 0 ≤ l1) (c3 : 0 ≤ (-1) * l1 + 60) (c4 : 0 ≤ l2) (c5 : 0 ≤ (-1) * l2 + 60) (c6 : 0 ≤ l3) (c7 : 0 ≤ (-1) * l3 + 60) (c8 : 0 ≤ p) (c9 : 0 ≤ l2 + (-1) * p + (-1)) (c10 : 0 ≤ i + (-1) * p + (-120)) (c11 : 0 ≤ p + (-1) * i + 120) (c12 : 0 ≤ w + 9223372036854775808) (c13 : 0 ≤ (-1) * w + 9223372036854775807) : 0 ≤ w + (-1) * z := by
  obtain ⟨k0, k1, k2, k3, e, r, H⟩ := p0
  have rr := r
  unfold m_rg at rr
  obtain ⟨rfl, rfl, rfl, rfl⟩ : l0 = k0 ∧ l1 = k1 ∧ l2 = k2 ∧ l3 = k3 := by omega
  obtain ⟨pp, ww, e2, pa, pb, wa, hw⟩ := p1
  obtain ⟨rfl, rfl⟩ : p = pp ∧ w = ww := by omega
  have h1 := m_Qc2 H p (by omega) (by omega) trivial
  have h2 := znn (by omega) (by omega)
  rw [show i - 0 = 60 * 2 + p by omega] at h2
  omega
theorem k_rq2b {a0 : Int → Int} {a1 : Int → Int} {a2 : Int → Int} {a3 : Int → Int} {nn : Int → Int} {i z p w l0 l1 l2 l3 : Int} (znn : 0 ≤ i - 0 → i - 0 < 240 → nn (i - 0) = z) (p0 : p_TQ a0 a1 a2 a3 nn (l0 + 64 * l1 + 4096 * l2 + 262144 * l3)) (p1 : p_NV2 a2 (p + 64 * w + 590295810358705651712)) (c0 : 0 ≤ l0) (c1 : 0 ≤ (-1) * l0 + 60) (c2 : 0 ≤ l1) (c3 : 0 ≤ (-1) * l1 + 60) (c4 : 0 ≤ l2) (c5 : 0 ≤ (-1) * l2 + 60) (c6 : 0 ≤ l3) (c7 : 0 ≤ (-1) * l3 + 60) (c8 : 0 ≤ p) (c9 : 0 ≤ l2 + (-1) * p + (-1)) (c10 : 0 ≤ i + (-1) * p + (-120)) (c11 : 0 ≤ p + (-1) * i + 120) (c12 : 0 ≤ w + 9223372036854775808) (c13 : 0 ≤ (-1) * w + 9223372036854775807) : 0 ≤ z + (-1) * w := by
  obtain ⟨k0, k1, k2, k3, e, r, H⟩ := p0
  have rr := r
  unfold m_rg at rr
  obtain ⟨rfl, rfl, rfl, rfl⟩ : l0 = k0 ∧ l1 = k1 ∧ l2 = k2 ∧ l3 = k3 := by omega
  obtain ⟨pp, ww, e2, pa, pb, wa, hw⟩ := p1
  obtain ⟨rfl, rfl⟩ : p = pp ∧ w = ww := by omega
  have h1 := m_Qc2 H p (by omega) (by omega) trivial
  have h2 := znn (by omega) (by omega)
  rw [show i - 0 = 60 * 2 + p by omega] at h2
  omega
theorem k_nv3 {a3 : Int → Int} {i z : Int} (za3 : 0 ≤ i - 0 → i - 0 < 60 → a3 (i - 0) = z) (c0 : 0 ≤ i) (c1 : 0 ≤ (-1) * i + 59) (c2 : 0 ≤ z + 9223372036854775808) (c3 : 0 ≤ (-1) * z + 9223372036854775807) : p_NV3 a3 (i + 64 * z + 590295810358705651712) := by
  have h := za3 (by omega) (by omega)
  rw [show i - 0 = i by omega] at h
  exact ⟨i, z, by omega, c0, by omega, c2, h⟩
theorem k_rq3a {a0 : Int → Int} {a1 : Int → Int} {a2 : Int → Int} {a3 : Int → Int} {nn : Int → Int} {i z p w l0 l1 l2 l3 : Int} (znn : 0 ≤ i - 0 → i - 0 < 240 → nn (i - 0) = z) (p0 : p_TQ a0 a1 a2 a3 nn (l0 + 64 * l1 + 4096 * l2 + 262144 * l3)) (p1 : p_NV3 a3 (p + 64 * w + 590295810358705651712)) (c0 : 0 ≤ l0) (c1 : 0 ≤ (-1) * l0 + 60) (c2 : 0 ≤ l1) (c3 : 0 ≤ (-1) * l1 + 60) (c4 : 0 ≤ l2) (c5 : 0 ≤ (-1) * l2 + 60) (c6 : 0 ≤ l3) (c7 : 0 ≤ (-1) * l3 + 60) (c8 : 0 ≤ p) (c9 : 0 ≤ l3 + (-1) * p + (-1)) (c10 : 0 ≤ i + (-1) * p + (-180)) (c11 : 0 ≤ p + (-1) * i + 180) (c12 : 0 ≤ w + 9223372036854775808) (c13 : 0 ≤ (-1) * w + 9223372036854775807) : 0 ≤ w + (-1) * z := by
  obtain ⟨k0, k1, k2, k3, e, r, H⟩ := p0
  have rr := r
  unfold m_rg at rr
  obtain ⟨rfl, rfl, rfl, rfl⟩ : l0 = k0 ∧ l1 = k1 ∧ l2 = k2 ∧ l3 = k3 := by omega
  obtain ⟨pp, ww, e2, pa, pb, wa, hw⟩ := p1
  obtain ⟨rfl, rfl⟩ : p = pp ∧ w = ww := by omega
  have h1 := m_Qc3 H p (by omega) (by omega) trivial
  have h2 := znn (by omega) (by omega)
  rw [show i - 0 = 60 * 3 + p by omega] at h2
  omega
theorem k_rq3b {a0 : Int → Int} {a1 : Int → Int} {a2 : Int → Int} {a3 : Int → Int} {nn : Int → Int} {i z p w l0 l1 l2 l3 : Int} (znn : 0 ≤ i - 0 → i - 0 < 240 → nn (i - 0) = z) (p0 : p_TQ a0 a1 a2 a3 nn (l0 + 64 * l1 + 4096 * l2 + 262144 * l3)) (p1 : p_NV3 a3 (p + 64 * w + 590295810358705651712)) (c0 : 0 ≤ l0) (c1 : 0 ≤ (-1) * l0 + 60) (c2 : 0 ≤ l1) (c3 : 0 ≤ (-1) * l1 + 60) (c4 : 0 ≤ l2) (c5 : 0 ≤ (-1) * l2 + 60) (c6 : 0 ≤ l3) (c7 : 0 ≤ (-1) * l3 + 60) (c8 : 0 ≤ p) (c9 : 0 ≤ l3 + (-1) * p + (-1)) (c10 : 0 ≤ i + (-1) * p + (-180)) (c11 : 0 ≤ p + (-1) * i + 180) (c12 : 0 ≤ w + 9223372036854775808) (c13 : 0 ≤ (-1) * w + 9223372036854775807) : 0 ≤ z + (-1) * w := by
  obtain ⟨k0, k1, k2, k3, e, r, H⟩ := p0
  have rr := r
  unfold m_rg at rr
  obtain ⟨rfl, rfl, rfl, rfl⟩ : l0 = k0 ∧ l1 = k1 ∧ l2 = k2 ∧ l3 = k3 := by omega
  obtain ⟨pp, ww, e2, pa, pb, wa, hw⟩ := p1
  obtain ⟨rfl, rfl⟩ : p = pp ∧ w = ww := by omega
  have h1 := m_Qc3 H p (by omega) (by omega) trivial
  have h2 := znn (by omega) (by omega)
  rw [show i - 0 = 60 * 3 + p by omega] at h2
  omega
theorem k_pc00 {a0 : Int → Int} {a1 : Int → Int} {a2 : Int → Int} {a3 : Int → Int} {nn : Int → Int} {s d m l0 l1 l2 l3 : Int} (i1 : 0 ≤ s) (i2 : 0 ≤ d) (i3 : 0 ≤ m) (p0 : p_TQ a0 a1 a2 a3 nn (l0 + 64 * l1 + 4096 * l2 + 262144 * l3)) (c0 : 0 ≤ l0) (c1 : 0 ≤ (-1) * l0 + 60) (c2 : 0 ≤ l1) (c3 : 0 ≤ (-1) * l1 + 60) (c4 : 0 ≤ l2) (c5 : 0 ≤ (-1) * l2 + 60) (c6 : 0 ≤ l3) (c7 : 0 ≤ (-1) * l3 + 60) (c8 : 0 ≤ s) (c9 : 0 ≤ d) (c10 : 0 ≤ m) (c11 : 0 ≤ l0 + (-1) * s + (-1) * m) (c12 : 0 ≤ l0 + (-1) * d + (-1) * m) : p_PP (m_cpx a0 a0 s d m) a1 a2 a3 nn (l0 + 64 * l1 + 4096 * l2 + 262144 * l3 + 16777216 * s + 1073741824 * d + 68719476736 * m) := by
  obtain ⟨k0, k1, k2, k3, e, r, H⟩ := p0
  have rr := r
  unfold m_rg at rr
  obtain ⟨rfl, rfl, rfl, rfl⟩ : l0 = k0 ∧ l1 = k1 ∧ l2 = k2 ∧ l3 = k3 := by omega
  refine ⟨l0, l1, l2, l3, s, d, m, 0, 0, by omega, (by unfold m_rg; omega), by omega, by omega, by omega, by decide, by decide, by decide, by decide, (by rw [m_s0]; omega), (by rw [m_s0]; omega), m_Qi (fun q a b f => by unfold m_cpx; rw [if_neg (fun z => f ⟨rfl, z.1, z.2⟩)]; exact m_Qc0 H q a b trivial) (fun q a b _ => m_Qc1 H q a b trivial) (fun q a b _ => m_Qc2 H q a b trivial) (fun q a b _ => m_Qc3 H q a b trivial), fun q a b => ?_⟩
  rw [m_s0]
  unfold m_cpx
  rw [if_pos ⟨a, b⟩, m_Qc0 H (s + (q - d)) (by omega) (by omega) trivial, show (60 * 0 + (s + (q - d)) : Int) = 60 * 0 + s + q - d by omega]
theorem k_ra000 {a0 : Int → Int} {a1 : Int → Int} {a2 : Int → Int} {a3 : Int → Int} {nn : Int → Int} {i j m r l0 l1 l2 l3 : Int} (p0 : p_PP a0 a1 a2 a3 nn (l0 + 64 * l1 + 4096 * l2 + 262144 * l3 + 16777216 * i + 1073741824 * j + 68719476736 * m)) (c0 : 0 ≤ l0) (c1 : 0 ≤ (-1) * l0 + 60) (c2 : 0 ≤ l1) (c3 : 0 ≤ (-1) * l1 + 60) (c4 : 0 ≤ l2) (c5 : 0 ≤ (-1) * l2 + 60) (c6 : 0 ≤ l3) (c7 : 0 ≤ (-1) * l3 + 60) (c8 : 0 ≤ i) (c9 : 0 ≤ (-1) * i + 60) (c10 : 0 ≤ j) (c11 : 0 ≤ (-1) * j + 60) (c12 : 0 ≤ m) (c13 : 0 ≤ (-1) * m + 60) (c14 : 0 ≤ l0 + (-1) * i + (-1) * m) (c15 : 0 ≤ l0 + (-1) * j + (-1) * m) (c16 : 0 ≤ r) (c17 : 0 ≤ (-1) * r) (c18 : 0 ≤ i + (-1) * j) : p_GA a0 a1 a2 a3 nn (l0 + 64 * l1 + 4096 * l2 + 262144 * l3 + 16777216 * i + 1073741824 * j + 68719476736 * m) := by
  exact g_ra0 (t := 0) (u := 0) (i := i) (j := j) (m := m) (l0 := l0) (l1 := l1) (l2 := l2) (l3 := l3) p0 (by omega) (by unfold m_rg; omega) (by omega) (by omega) (by omega) (by decide) (by decide) (by decide) (by decide) (by rw [m_s0]; omega) (by rw [m_s0]; omega) (by omega)
theorem k_rd000 {a0 : Int → Int} {a1 : Int → Int} {a2 : Int → Int} {a3 : Int → Int} {nn : Int → Int} {i j m r l0 l1 l2 l3 : Int} (p0 : p_PP a0 a1 a2 a3 nn (l0 + 64 * l1 + 4096 * l2 + 262144 * l3 + 16777216 * i + 1073741824 * j + 68719476736 * m)) (c0 : 0 ≤ l0) (c1 : 0 ≤ (-1) * l0 + 60) (c2 : 0 ≤ l1) (c3 : 0 ≤ (-1) * l1 + 60) (c4 : 0 ≤ l2) (c5 : 0 ≤ (-1) * l2 + 60) (c6 : 0 ≤ l3) (c7 : 0 ≤ (-1) * l3 + 60) (c8 : 0 ≤ i) (c9 : 0 ≤ (-1) * i + 60) (c10 : 0 ≤ j) (c11 : 0 ≤ (-1) * j + 60) (c12 : 0 ≤ m) (c13 : 0 ≤ (-1) * m + 60) (c14 : 0 ≤ l0 + (-1) * i + (-1) * m) (c15 : 0 ≤ l0 + (-1) * j + (-1) * m) (c16 : 0 ≤ r + (-1)) (c17 : 0 ≤ j + (-1) * i + (-1)) : p_GD a0 a1 a2 a3 nn (l0 + 64 * l1 + 4096 * l2 + 262144 * l3 + 16777216 * i + 1073741824 * j + 68719476736 * m) := by
  exact g_rd0 (t := 0) (u := 0) (i := i) (j := j) (m := m) (l0 := l0) (l1 := l1) (l2 := l2) (l3 := l3) p0 (by omega) (by unfold m_rg; omega) (by omega) (by omega) (by omega) (by decide) (by decide) (by decide) (by decide) (by rw [m_s0]; omega) (by rw [m_s0]; omega) (by omega)
theorem k_ra100 {a0 : Int → Int} {a1 : Int → Int} {a2 : Int → Int} {a3 : Int → Int} {nn : Int → Int} {q z i j m k l0 l1 l2 l3 : Int} (i1 : 0 ≤ q) (i2 : q < 240) (p0 : p_GA a0 a1 a2 a3 nn (l0 + 64 * l1 + 4096 * l2 + 262144 * l3 + 16777216 * i + 1073741824 * j + 68719476736 * m + 70368744177664 * k)) (p1 : p_NL nn (i + k + 256 * z + 2361183241434822606848)) (c0 : 0 ≤ l0) (c1 : 0 ≤ (-1) * l0 + 60) (c2 : 0 ≤ l1) (c3 : 0 ≤ (-1) * l1 + 60) (c4 : 0 ≤ l2) (c5 : 0 ≤ (-1) * l2 + 60) (c6 : 0 ≤ l3) (c7 : 0 ≤ (-1) * l3 + 60) (c8 : 0 ≤ i) (c9 : 0 ≤ (-1) * i + 60) (c10 : 0 ≤ j) (c11 : 0 ≤ (-1) * j + 60) (c12 : 0 ≤ m) (c13 : 0 ≤ (-1) * m + 60) (c14 : 0 ≤ l0 + (-1) * i + (-1) * m) (c15 : 0 ≤ l0 + (-1) * j + (-1) * m) (c16 : 0 ≤ i + (-1) * j) (c17 : 0 ≤ k) (c18 : 0 ≤ m + (-1) * k + (-1)) (c19 : 0 ≤ q + (-1) * j + (-1) * k) (c20 : 0 ≤ j + k + (-1) * q) (c21 : 0 ≤ z + 9223372036854775808) (c22 : 0 ≤ (-1) * z + 9223372036854775807) : p_GA a0 a1 a2 a3 (m_up nn q z) (l0 + 64 * l1 + 4096 * l2 + 262144 * l3 + 16777216 * i + 1073741824 * j + 68719476736 * m + 70368744177664 * k + 70368744177664) := by
  have h := g_ra1 (t := 0) (u := 0) (i := i) (j := j) (m := m) (l0 := l0) (l1 := l1) (l2 := l2) (l3 := l3) (k := k) (z := z) (q := q) p0 (by omega) p1 (by omega) (by unfold m_rg; omega) (by omega) (by omega) (by omega) (by decide) (by decide) (by decide) (by decide) (by rw [m_s0]; omega) (by rw [m_s0]; omega) (by omega) (by omega) (by omega) (by omega)
  exact m_eqv (P := fun y => p_GA a0 a1 a2 a3 (m_up nn q z) y) h (by omega)
theorem k_rd100 {a0 : Int → Int} {a1 : Int → Int} {a2 : Int → Int} {a3 : Int → Int} {nn : Int → Int} {q z i j m k l0 l1 l2 l3 : Int} (i1 : 0 ≤ q) (i2 : q < 240) (p0 : p_GD a0 a1 a2 a3 nn (l0 + 64 * l1 + 4096 * l2 + 262144 * l3 + 16777216 * i + 1073741824 * j + 68719476736 * m + 70368744177664 * k)) (p1 : p_NL nn (i + m + (-1) * k + 256 * z + 2361183241434822606847)) (c0 : 0 ≤ l0) (c1 : 0 ≤ (-1) * l0 + 60) (c2 : 0 ≤ l1) (c3 : 0 ≤ (-1) * l1 + 60) (c4 : 0 ≤ l2) (c5 : 0 ≤ (-1) * l2 + 60) (c6 : 0 ≤ l3) (c7 : 0 ≤ (-1) * l3 + 60) (c8 : 0 ≤ i) (c9 : 0 ≤ (-1) * i + 60) (c10 : 0 ≤ j) (c11 : 0 ≤ (-1) * j + 60) (c12 : 0 ≤ m) (c13 : 0 ≤ (-1) * m + 60) (c14 : 0 ≤ l0 + (-1) * i + (-1) * m) (c15 : 0 ≤ l0 + (-1) * j + (-1) * m) (c16 : 0 ≤ j + (-1) * i + (-1)) (c17 : 0 ≤ k) (c18 : 0 ≤ m + (-1) * k + (-1)) (c19 : 0 ≤ q + (-1) * j + (-1) * m + k + 1) (c20 : 0 ≤ j + m + (-1) * k + (-1) * q + (-1)) (c21 : 0 ≤ z + 9223372036854775808) (c22 : 0 ≤ (-1) * z + 9223372036854775807) : p_GD a0 a1 a2 a3 (m_up nn q z) (l0 + 64 * l1 + 4096 * l2 + 262144 * l3 + 16777216 * i + 1073741824 * j + 68719476736 * m + 70368744177664 * k + 70368744177664) := by
  have h := g_rd1 (t := 0) (u := 0) (i := i) (j := j) (m := m) (l0 := l0) (l1 := l1) (l2 := l2) (l3 := l3) (k := k) (z := z) (q := q) p0 (by omega) p1 (by omega) (by unfold m_rg; omega) (by omega) (by omega) (by omega) (by decide) (by decide) (by decide) (by decide) (by rw [m_s0]; omega) (by rw [m_s0]; omega) (by omega) (by omega) (by omega) (by omega)
  exact m_eqv (P := fun y => p_GD a0 a1 a2 a3 (m_up nn q z) y) h (by omega)
theorem k_ra200 {a0 : Int → Int} {a1 : Int → Int} {a2 : Int → Int} {a3 : Int → Int} {nn : Int → Int} {i j m k l0 l1 l2 l3 : Int} (p0 : p_GA a0 a1 a2 a3 nn (l0 + 64 * l1 + 4096 * l2 + 262144 * l3 + 16777216 * i + 1073741824 * j + 68719476736 * m + 70368744177664 * k)) (c0 : 0 ≤ l0) (c1 : 0 ≤ (-1) * l0 + 60) (c2 : 0 ≤ l1) (c3 : 0 ≤ (-1) * l1 + 60) (c4 : 0 ≤ l2) (c5 : 0 ≤ (-1) * l2 + 60) (c6 : 0 ≤ l3) (c7 : 0 ≤ (-1) * l3 + 60) (c8 : 0 ≤ i) (c9 : 0 ≤ (-1) * i + 60) (c10 : 0 ≤ j) (c11 : 0 ≤ (-1) * j + 60) (c12 : 0 ≤ m) (c13 : 0 ≤ (-1) * m + 60) (c14 : 0 ≤ l0 + (-1) * i + (-1) * m) (c15 : 0 ≤ l0 + (-1) * j + (-1) * m) (c16 : 0 ≤ k + (-1) * m) (c17 : 0 ≤ (-1) * k + 60) : p_TQ a0 a1 a2 a3 nn (l0 + 64 * l1 + 4096 * l2 + 262144 * l3) := by
  exact g_ra2 (t := 0) (u := 0) (i := i) (j := j) (m := m) (l0 := l0) (l1 := l1) (l2 := l2) (l3 := l3) (k := k) p0 (by omega) (by unfold m_rg; omega) (by omega) (by omega) (by omega) (by decide) (by decide) (by decide) (by decide) (by rw [m_s0]; omega) (by rw [m_s0]; omega) (by omega) rfl
theorem k_rd200 {a0 : Int → Int} {a1 : Int → Int} {a2 : Int → Int} {a3 : Int → Int} {nn : Int → Int} {i j m k l0 l1 l2 l3 : Int} (p0 : p_GD a0 a1 a2 a3 nn (l0 + 64 * l1 + 4096 * l2 + 262144 * l3 + 16777216 * i + 1073741824 * j + 68719476736 * m + 70368744177664 * k)) (c0 : 0 ≤ l0) (c1 : 0 ≤ (-1) * l0 + 60) (c2 : 0 ≤ l1) (c3 : 0 ≤ (-1) * l1 + 60) (c4 : 0 ≤ l2) (c5 : 0 ≤ (-1) * l2 + 60) (c6 : 0 ≤ l3) (c7 : 0 ≤ (-1) * l3 + 60) (c8 : 0 ≤ i) (c9 : 0 ≤ (-1) * i + 60) (c10 : 0 ≤ j) (c11 : 0 ≤ (-1) * j + 60) (c12 : 0 ≤ m) (c13 : 0 ≤ (-1) * m + 60) (c14 : 0 ≤ l0 + (-1) * i + (-1) * m) (c15 : 0 ≤ l0 + (-1) * j + (-1) * m) (c16 : 0 ≤ k + (-1) * m) (c17 : 0 ≤ (-1) * k + 60) : p_TQ a0 a1 a2 a3 nn (l0 + 64 * l1 + 4096 * l2 + 262144 * l3) := by
  exact g_rd2 (t := 0) (u := 0) (i := i) (j := j) (m := m) (l0 := l0) (l1 := l1) (l2 := l2) (l3 := l3) (k := k) p0 (by omega) (by unfold m_rg; omega) (by omega) (by omega) (by omega) (by decide) (by decide) (by decide) (by decide) (by rw [m_s0]; omega) (by rw [m_s0]; omega) (by omega) rfl
theorem k_pc01 {a0 : Int → Int} {a1 : Int → Int} {a2 : Int → Int} {a3 : Int → Int} {nn : Int → Int} {s d m l0 l1 l2 l3 : Int} (i1 : 0 ≤ s) (i2 : 0 ≤ d) (i3 : 0 ≤ m) (p0 : p_TQ a0 a1 a2 a3 nn (l0 + 64 * l1 + 4096 * l2 + 262144 * l3)) (c0 : 0 ≤ l0) (c1 : 0 ≤ (-1) * l0 + 60) (c2 : 0 ≤ l1) (c3 : 0 ≤ (-1) * l1 + 60) (c4 : 0 ≤ l2) (c5 : 0 ≤ (-1) * l2 + 60) (c6 : 0 ≤ l3) (c7 : 0 ≤ (-1) * l3 + 60) (c8 : 0 ≤ s) (c9 : 0 ≤ d) (c10 : 0 ≤ m) (c11 : 0 ≤ l0 + (-1) * s + (-1) * m) (c12 : 0 ≤ l1 + (-1) * d + (-1) * m) : p_PP a0 (m_cpx a0 a1 s d m) a2 a3 nn (l0 + 64 * l1 + 4096 * l2 + 262144 * l3 + 16777216 * s + 1073741824 * d + 68719476736 * m + 17592186044416) := by
  obtain ⟨k0, k1, k2, k3, e, r, H⟩ := p0
  have rr := r
  unfold m_rg at rr
  obtain ⟨rfl, rfl, rfl, rfl⟩ : l0 = k0 ∧ l1 = k1 ∧ l2 = k2 ∧ l3 = k3 := by omega
  refine ⟨l0, l1, l2, l3, s, d, m, 0, 1, by omega, (by unfold m_rg; omega), by omega, by omega, by omega, by decide, by decide, by decide, by decide, (by rw [m_s0]; omega), (by rw [m_s1]; omega), m_Qi (fun q a b _ => m_Qc0 H q a b trivial) (fun q a b f => by unfold m_cpx; rw [if_neg (fun z => f ⟨rfl, z.1, z.2⟩)]; exact m_Qc1 H q a b trivial) (fun q a b _ => m_Qc2 H q a b trivial) (fun q a b _ => m_Qc3 H q a b trivial), fun q a b => ?_⟩
  rw [m_s1]
  unfold m_cpx
  rw [if_pos ⟨a, b⟩, m_Qc0 H (s + (q - d)) (by omega) (by omega) trivial, show (60 * 0 + (s + (q - d)) : Int) = 60 * 0 + s + q - d by omega]
theorem k_ra001 {a0 : Int → Int} {a1 : Int → Int} {a2 : Int → Int} {a3 : Int → Int} {nn : Int → Int} {i j m r l0 l1 l2 l3 : Int} (p0 : p_PP a0 a1 a2 a3 nn (l0 + 64 * l1 + 4096 * l2 + 262144 * l3 + 16777216 * i + 1073741824 * j + 68719476736 * m + 17592186044416)) (c0 : 0 ≤ l0) (c1 : 0 ≤ (-1) * l0 + 60) (c2 : 0 ≤ l1) (c3 : 0 ≤ (-1) * l1 + 60) (c4 : 0 ≤ l2) (c5 : 0 ≤ (-1) * l2 + 60) (c6 : 0 ≤ l3) (c7 : 0 ≤ (-1) * l3 + 60) (c8 : 0 ≤ i) (c9 : 0 ≤ (-1) * i + 60) (c10 : 0 ≤ j) (c11 : 0 ≤ (-1) * j + 60) (c12 : 0 ≤ m) (c13 : 0 ≤ (-1) * m + 60) (c14 : 0 ≤ l0 + (-1) * i + (-1) * m) (c15 : 0 ≤ l1 + (-1) * j + (-1) * m) (c16 : 0 ≤ r) (c17 : 0 ≤ (-1) * r) (c18 : 0 ≤ i + (-1) * j) : p_GA a0 a1 a2 a3 nn (l0 + 64 * l1 + 4096 * l2 + 262144 * l3 + 16777216 * i + 1073741824 * j + 68719476736 * m + 17592186044416) := by
  exact g_ra0 (t := 0) (u := 1) (i := i) (j := j) (m := m) (l0 := l0) (l1 := l1) (l2 := l2) (l3 := l3) p0 (by omega) (by unfold m_rg; omega) (by omega) (by omega) (by omega) (by decide) (by decide) (by decide) (by decide) (by rw [m_s0]; omega) (by rw [m_s1]; omega) (by omega)
theorem k_rd001 {a0 : Int → Int} {a1 : Int → Int} {a2 : Int → Int} {a3 : Int → Int} {nn : Int → Int} {i j m r l0 l1 l2 l3 : Int} (p0 : p_PP a0 a1 a2 a3 nn (l0 + 64 * l1 + 4096 * l2 + 262144 * l3 + 16777216 * i + 1073741824 * j + 68719476736 * m + 17592186044416)) (c0 : 0 ≤ l0) (c1 : 0 ≤ (-1) * l0 + 60) (c2 : 0 ≤ l1) (c3 : 0 ≤ (-1) * l1 + 60) (c4 : 0 ≤ l2) (c5 : 0 ≤ (-1) * l2 + 60) (c6 : 0 ≤ l3) (c7 : 0 ≤ (-1) * l3 + 60) (c8 : 0 ≤ i) (c9 : 0 ≤ (-1) * i + 60) (c10 : 0 ≤ j) (c11 : 0 ≤ (-1) * j + 60) (c12 : 0 ≤ m) (c13 : 0 ≤ (-1) * m + 60) (c14 : 0 ≤ l0 + (-1) * i + (-1) * m) (c15 : 0 ≤ l1 + (-1) * j + (-1) * m) (c16 : 0 ≤ r + (-1)) (c17 : 0 ≤ j + (-1) * i + (-1)) : p_GD a0 a1 a2 a3 nn (l0 + 64 * l1 + 4096 * l2 + 262144 * l3 + 16777216 * i + 1073741824 * j + 68719476736 * m + 17592186044416) := by
  exact g_rd0 (t := 0) (u := 1) (i := i) (j := j) (m := m) (l0 := l0) (l1 := l1) (l2 := l2) (l3 := l3) p0 (by omega) (by unfold m_rg; omega) (by omega) (by omega) (by omega) (by decide) (by decide) (by decide) (by decide) (by rw [m_s0]; omega) (by rw [m_s1]; omega) (by omega)
theorem k_ra101 {a0 : Int → Int} {a1 : Int → Int} {a2 : Int → Int} {a3 : Int → Int} {nn : Int → Int} {q z i j m k l0 l1 l2 l3 : Int} (i1 : 0 ≤ q) (i2 : q < 240) (p0 : p_GA a0 a1 a2 a3 nn (l0 + 64 * l1 + 4096 * l2 + 262144 * l3 + 16777216 * i + 1073741824 * j + 68719476736 * m + 70368744177664 * k + 17592186044416)) (p1 : p_NL nn (i + k + 256 * z + 2361183241434822606848)) (c0 : 0 ≤ l0) (c1 : 0 ≤ (-1) * l0 + 60) (c2 : 0 ≤ l1) (c3 : 0 ≤ (-1) * l1 + 60) (c4 : 0 ≤ l2) (c5 : 0 ≤ (-1) * l2 + 60) (c6 : 0 ≤ l3) (c7 : 0 ≤ (-1) * l3 + 60) (c8 : 0 ≤ i) (c9 : 0 ≤ (-1) * i + 60) (c10 : 0 ≤ j) (c11 : 0 ≤ (-1) * j + 60) (c12 : 0 ≤ m) (c13 : 0 ≤ (-1) * m + 60) (c14 : 0 ≤ l0 + (-1) * i + (-1) * m) (c15 : 0 ≤ l1 + (-1) * j + (-1) * m) (c16 : 0 ≤ i + (-1) * j) (c17 : 0 ≤ k) (c18 : 0 ≤ m + (-1) * k + (-1)) (c19 : 0 ≤ q + (-1) * j + (-1) * k + (-60)) (c20 : 0 ≤ j + k + (-1) * q + 60) (c21 : 0 ≤ z + 9223372036854775808) (c22 : 0 ≤ (-1) * z + 9223372036854775807) : p_GA a0 a1 a2 a3 (m_up nn q z) (l0 + 64 * l1 + 4096 * l2 + 262144 * l3 + 16777216 * i + 1073741824 * j + 68719476736 * m + 70368744177664 * k + 87960930222080) := by
  have h := g_ra1 (t := 0) (u := 1) (i := i) (j := j) (m := m) (l0 := l0) (l1 := l1) (l2 := l2) (l3 := l3) (k := k) (z := z) (q := q) p0 (by omega) p1 (by omega) (by unfold m_rg; omega) (by omega) (by omega) (by omega) (by decide) (by decide) (by decide) (by decide) (by rw [m_s0]; omega) (by rw [m_s1]; omega) (by omega) (by omega) (by omega) (by omega)
  exact m_eqv (P := fun y => p_GA a0 a1 a2 a3 (m_up nn q z) y) h (by omega)
theorem k_rd101 {a0 : Int → Int} {a1 : Int → Int} {a2 : Int → Int} {a3 : Int → Int} {nn : Int → Int} {q z i j m k l0 l1 l2 l3 : Int} (i1 : 0 ≤ q) (i2 : q < 240) (p0 : p_GD a0 a1 a2 a3 nn (l0 + 64 * l1 + 4096 * l2 + 262144 * l3 + 16777216 * i + 1073741824 * j + 68719476736 * m + 70368744177664 * k + 17592186044416)) (p1 : p_NL nn (i + m + (-1) * k + 256 * z + 2361183241434822606847)) (c0 : 0 ≤ l0) (c1 : 0 ≤ (-1) * l0 + 60) (c2 : 0 ≤ l1) (c3 : 0 ≤ (-1) * l1 + 60) (c4 : 0 ≤ l2) (c5 : 0 ≤ (-1) * l2 + 60) (c6 : 0 ≤ l3) (c7 : 0 ≤ (-1) * l3 + 60) (c8 : 0 ≤ i) (c9 : 0 ≤ (-1) * i + 60) (c10 : 0 ≤ j) (c11 : 0 ≤ (-1) * j + 60) (c12 : 0 ≤ m) (c13 : 0 ≤ (-1) * m + 60) (c14 : 0 ≤ l0 + (-1) * i + (-1) * m) (c15 : 0 ≤ l1 + (-1) * j + (-1) * m) (c16 : 0 ≤ j + (-1) * i + (-1)) (c17 : 0 ≤ k) (c18 : 0 ≤ m + (-1) * k + (-1)) (c19 : 0 ≤ q + (-1) * j + (-1) * m + k + (-59)) (c20 : 0 ≤ j + m + (-1) * k + (-1) * q + 59) (c21 : 0 ≤ z + 9223372036854775808) (c22 : 0 ≤ (-1) * z + 9223372036854775807) : p_GD a0 a1 a2 a3 (m_up nn q z) (l0 + 64 * l1 + 4096 * l2 + 262144 * l3 + 16777216 * i + 1073741824 * j + 68719476736 * m + 70368744177664 * k + 87960930222080) := by
  have h := g_rd1 (t := 0) (u := 1) (i := i) (j := j) (m := m) (l0 := l0) (l1 := l1) (l2 := l2) (l3 := l3) (k := k) (z := z) (q := q) p0 (by omega) p1 (by omega) (by unfold m_rg; omega) (by omega) (by omega) (by omega) (by decide) (by decide) (by decide) (by decide) (by rw [m_s0]; omega) (by rw [m_s1]; omega) (by omega) (by omega) (by omega) (by omega)
  exact m_eqv (P := fun y => p_GD a0 a1 a2 a3 (m_up nn q z) y) h (by omega)
theorem k_ra201 {a0 : Int → Int} {a1 : Int → Int} {a2 : Int → Int} {a3 : Int → Int} {nn : Int → Int} {i j m k l0 l1 l2 l3 : Int} (p0 : p_GA a0 a1 a2 a3 nn (l0 + 64 * l1 + 4096 * l2 + 262144 * l3 + 16777216 * i + 1073741824 * j + 68719476736 * m + 70368744177664 * k + 17592186044416)) (c0 : 0 ≤ l0) (c1 : 0 ≤ (-1) * l0 + 60) (c2 : 0 ≤ l1) (c3 : 0 ≤ (-1) * l1 + 60) (c4 : 0 ≤ l2) (c5 : 0 ≤ (-1) * l2 + 60) (c6 : 0 ≤ l3) (c7 : 0 ≤ (-1) * l3 + 60) (c8 : 0 ≤ i) (c9 : 0 ≤ (-1) * i + 60) (c10 : 0 ≤ j) (c11 : 0 ≤ (-1) * j + 60) (c12 : 0 ≤ m) (c13 : 0 ≤ (-1) * m + 60) (c14 : 0 ≤ l0 + (-1) * i + (-1) * m) (c15 : 0 ≤ l1 + (-1) * j + (-1) * m) (c16 : 0 ≤ k + (-1) * m) (c17 : 0 ≤ (-1) * k + 60) : p_TQ a0 a1 a2 a3 nn (l0 + 64 * l1 + 4096 * l2 + 262144 * l3) := by
  exact g_ra2 (t := 0) (u := 1) (i := i) (j := j) (m := m) (l0 := l0) (l1 := l1) (l2 := l2) (l3 := l3) (k := k) p0 (by omega) (by unfold m_rg; omega) (by omega) (by omega) (by omega) (by decide) (by decide) (by decide) (by decide) (by rw [m_s0]; omega) (by rw [m_s1]; omega) (by omega) rfl
theorem k_rd201 {a0 : Int → Int} {a1 : Int → Int} {a2 : Int → Int} {a3 : Int → Int} {nn : Int → Int} {i j m k l0 l1 l2 l3 : Int} (p0 : p_GD a0 a1 a2 a3 nn (l0 + 64 * l1 + 4096 * l2 + 262144 * l3 + 16777216 * i + 1073741824 * j + 68719476736 * m + 70368744177664 * k + 17592186044416)) (c0 : 0 ≤ l0) (c1 : 0 ≤ (-1) * l0 + 60) (c2 : 0 ≤ l1) (c3 : 0 ≤ (-1) * l1 + 60) (c4 : 0 ≤ l2) (c5 : 0 ≤ (-1) * l2 + 60) (c6 : 0 ≤ l3) (c7 : 0 ≤ (-1) * l3 + 60) (c8 : 0 ≤ i) (c9 : 0 ≤ (-1) * i + 60) (c10 : 0 ≤ j) (c11 : 0 ≤ (-1) * j + 60) (c12 : 0 ≤ m) (c13 : 0 ≤ (-1) * m + 60) (c14 : 0 ≤ l0 + (-1) * i + (-1) * m) (c15 : 0 ≤ l1 + (-1) * j + (-1) * m) (c16 : 0 ≤ k + (-1) * m) (c17 : 0 ≤ (-1) * k + 60) : p_TQ a0 a1 a2 a3 nn (l0 + 64 * l1 + 4096 * l2 + 262144 * l3) := by
  exact g_rd2 (t := 0) (u := 1) (i := i) (j := j) (m := m) (l0 := l0) (l1 := l1) (l2 := l2) (l3 := l3) (k := k) p0 (by omega) (by unfold m_rg; omega) (by omega) (by omega) (by omega) (by decide) (by decide) (by decide) (by decide) (by rw [m_s0]; omega) (by rw [m_s1]; omega) (by omega) rfl
theorem k_pc02 {a0 : Int → Int} {a1 : Int → Int} {a2 : Int → Int} {a3 : Int → Int} {nn : Int → Int} {s d m l0 l1 l2 l3 : Int} (i1 : 0 ≤ s) (i2 : 0 ≤ d) (i3 : 0 ≤ m) (p0 : p_TQ a0 a1 a2 a3 nn (l0 + 64 * l1 + 4096 * l2 + 262144 * l3)) (c0 : 0 ≤ l0) (c1 : 0 ≤ (-1) * l0 + 60) (c2 : 0 ≤ l1) (c3 : 0 ≤ (-1) * l1 + 60) (c4 : 0 ≤ l2) (c5 : 0 ≤ (-1) * l2 + 60) (c6 : 0 ≤ l3) (c7 : 0 ≤ (-1) * l3 + 60) (c8 : 0 ≤ s) (c9 : 0 ≤ d) (c10 : 0 ≤ m) (c11 : 0 ≤ l0 + (-1) * s + (-1) * m) (c12 : 0 ≤ l2 + (-1) * d + (-1) * m) : p_PP a0 a1 (m_cpx a0 a2 s d m) a3 nn (l0 + 64 * l1 + 4096 * l2 + 262144 * l3 + 16777216 * s + 1073741824 * d + 68719476736 * m + 35184372088832) := by
  obtain ⟨k0, k1, k2, k3, e, r, H⟩ := p0
  have rr := r
  unfold m_rg at rr
  obtain ⟨rfl, rfl, rfl, rfl⟩ : l0 = k0 ∧ l1 = k1 ∧ l2 = k2 ∧ l3 = k3 := by omega
  refine ⟨l0, l1, l2, l3, s, d, m, 0, 2, by omega, (by unfold m_rg; omega), by omega, by omega, by omega, by decide, by decide, by decide, by decide, (by rw [m_s0]; omega), (by rw [m_s2]; omega), m_Qi (fun q a b _ => m_Qc0 H q a b trivial) (fun q a b _ => m_Qc1 H q a b trivial) (fun q a b f => by unfold m_cpx; rw [if_neg (fun z => f ⟨rfl, z.1, z.2⟩)]; exact m_Qc2 H q a b trivial) (fun q a b _ => m_Qc3 H q a b trivial), fun q a b => ?_⟩
  rw [m_s2]
  unfold m_cpx
  rw [if_pos ⟨a, b⟩, m_Qc0 H (s + (q - d)) (by omega) (by omega) trivial, show (60 * 0 + (s + (q - d)) : Int) = 60 * 0 + s + q - d by omega]
theorem k_ra002 {a0 : Int → Int} {a1 : Int → Int} {a2 : Int → Int} {a3 : Int → Int} {nn : Int → Int} {i j m r l0 l1 l2 l3 : Int} (p0 : p_PP a0 a1 a2 a3 nn (l0 + 64 * l1 + 4096 * l2 + 262144 * l3 + 16777216 * i + 1073741824 * j + 68719476736 * m + 35184372088832)) (c0 : 0 ≤ l0) (c1 : 0 ≤ (-1) * l0 + 60) (c2 : 0 ≤ l1) (c3 : 0 ≤ (-1) * l1 + 60) (c4 : 0 ≤ l2) (c5 : 0 ≤ (-1) * l2 + 60) (c6 : 0 ≤ l3) (c7 : 0 ≤ (-1) * l3 + 60) (c8 : 0 ≤ i) (c9 : 0 ≤ (-1) * i + 60) (c10 : 0 ≤ j) (c11 : 0 ≤ (-1) * j + 60) (c12 : 0 ≤ m) (c13 : 0 ≤ (-1) * m + 60) (c14 : 0 ≤ l0 + (-1) * i + (-1) * m) (c15 : 0 ≤ l2 + (-1) * j + (-1) * m) (c16 : 0 ≤ r) (c17 : 0 ≤ (-1) * r) (c18 : 0 ≤ i + (-1) * j) : p_GA a0 a1 a2 a3 nn (l0 + 64 * l1 + 4096 * l2 + 262144 * l3 + 16777216 * i + 1073741824 * j + 68719476736 * m + 35184372088832) := by
  exact g_ra0 (t := 0) (u := 2) (i := i) (j := j) (m := m) (l0 := l0) (l1 := l1) (l2 := l2) (l3 := l3) p0 (by omega) (by unfold m_rg; omega) (by omega) (by omega) (by omega) (by decide) (by decide) (by decide) (by decide) (by rw [m_s0]; omega) (by rw [m_s2]; omega) (by omega)
theorem k_rd002 {a0 : Int → Int} {a1 : Int → Int} {a2 : Int → Int} {a3 : Int → Int} {nn : Int → Int} {i j m r l0 l1 l2 l3 : Int} (p0 : p_PP a0 a1 a2 a3 nn (l0 + 64 * l1 + 4096 * l2 + 262144 * l3 + 16777216 * i + 1073741824 * j + 68719476736 * m + 35184372088832)) (c0 : 0 ≤ l0) (c1 : 0 ≤ (-1) * l0 + 60) (c2 : 0 ≤ l1) (c3 : 0 ≤ (-1) * l1 + 60) (c4 : 0 ≤ l2) (c5 : 0 ≤ (-1) * l2 + 60) (c6 : 0 ≤ l3) (c7 : 0 ≤ (-1) * l3 + 60) (c8 : 0 ≤ i) (c9 : 0 ≤ (-1) * i + 60) (c10 : 0 ≤ j) (c11 : 0 ≤ (-1) * j + 60) (c12 : 0 ≤ m) (c13 : 0 ≤ (-1) * m + 60) (c14 : 0 ≤ l0 + (-1) * i + (-1) * m) (c15 : 0 ≤ l2 + (-1) * j + (-1) * m) (c16 : 0 ≤ r + (-1)) (c17 : 0 ≤ j + (-1) * i + (-1)) : p_GD a0 a1 a2 a3 nn (l0 + 64 * l1 + 4096 * l2 + 262144 * l3 + 16777216 * i + 1073741824 * j + 68719476736 * m + 35184372088832) := by
  exact g_rd0 (t := 0) (u := 2) (i := i) (j := j) (m := m) (l0 := l0) (l1 := l1) (l2 := l2) (l3 := l3) p0 (by omega) (by unfold m_rg; omega) (by omega) (by omega) (by omega) (by decide) (by decide) (by decide) (by decide) (by rw [m_s0]; omega) (by rw [m_s2]; omega) (by omega)
theorem k_ra102 {a0 : Int → Int} {a1 : Int → Int} {a2 : Int → Int} {a3 : Int → Int} {nn : Int → Int} {q z i j m k l0 l1 l2 l3 : Int} (i1 : 0 ≤ q) (i2 : q < 240) (p0 : p_GA a0 a1 a2 a3 nn (l0 + 64 * l1 + 4096 * l2 + 262144 * l3 + 16777216 * i + 1073741824 * j + 68719476736 * m + 70368744177664 * k + 35184372088832)) (p1 : p_NL nn (i + k + 256 * z + 2361183241434822606848)) (c0 : 0 ≤ l0) (c1 : 0 ≤ (-1) * l0 + 60) (c2 : 0 ≤ l1) (c3 : 0 ≤ (-1) * l1 + 60) (c4 : 0 ≤ l2) (c5 : 0 ≤ (-1) * l2 + 60) (c6 : 0 ≤ l3) (c7 : 0 ≤ (-1) * l3 + 60) (c8 : 0 ≤ i) (c9 : 0 ≤ (-1) * i + 60) (c10 : 0 ≤ j) (c11 : 0 ≤ (-1) * j + 60) (c12 : 0 ≤ m) (c13 : 0 ≤ (-1) * m + 60) (c14 : 0 ≤ l0 + (-1) * i + (-1) * m) (c15 : 0 ≤ l2 + (-1) * j + (-1) * m) (c16 : 0 ≤ i + (-1) * j) (c17 : 0 ≤ k) (c18 : 0 ≤ m + (-1) * k + (-1)) (c19 : 0 ≤ q + (-1) * j + (-1) * k + (-120)) (c20 : 0 ≤ j + k + (-1) * q + 120) (c21 : 0 ≤ z + 9223372036854775808) (c22 : 0 ≤ (-1) * z + 9223372036854775807) : p_GA a0 a1 a2 a3 (m_up nn q z) (l0 + 64 * l1 + 4096 * l2 + 262144 * l3 + 16777216 * i + 1073741824 * j + 68719476736 * m + 70368744177664 * k + 105553116266496) := by
  have h := g_ra1 (t := 0) (u := 2) (i := i) (j := j) (m := m) (l0 := l0) (l1 := l1) (l2 := l2) (l3 := l3) (k := k) (z := z) (q := q) p0 (by omega) p1 (by omega) (by unfold m_rg; omega) (by omega) (by omega) (by omega) (by decide) (by decide) (by decide) (by decide) (by rw [m_s0]; omega) (by rw [m_s2]; omega) (by omega) (by omega) (by omega) (by omega)
  exact m_eqv (P := fun y => p_GA a0 a1 a2 a3 (m_up nn q z) y) h (by omega)
theorem k_rd102 {a0 : Int → Int} {a1 : Int → Int} {a2 : Int → Int} {a3 : Int → Int} {nn : Int → Int} {q z i j m k l0 l1 l2 l3 : Int} (i1 : 0 ≤ q) (i2 : q < 240) (p0 : p_GD a0 a1 a2 a3 nn (l0 + 64 * l1 + 4096 * l2 + 262144 * l3 + 16777216 * i + 1073741824 * j + 68719476736 * m + 70368744177664 * k + 35184372088832)) (p1 : p_NL nn (i + m + (-1) * k + 256 * z + 2361183241434822606847)) (c0 : 0 ≤ l0) (c1 : 0 ≤ (-1) * l0 + 60) (c2 : 0 ≤ l1) (c3 : 0 ≤ (-1) * l1 + 60) (c4 : 0 ≤ l2) (c5 : 0 ≤ (-1) * l2 + 60) (c6 : 0 ≤ l3) (c7 : 0 ≤ (-1) * l3 + 60) (c8 : 0 ≤ i) (c9 : 0 ≤ (-1) * i + 60) (c10 : 0 ≤ j) (c11 : 0 ≤ (-1) * j + 60) (c12 : 0 ≤ m) (c13 : 0 ≤ (-1) * m + 60) (c14 : 0 ≤ l0 + (-1) * i + (-1) * m) (c15 : 0 ≤ l2 + (-1) * j + (-1) * m) (c16 : 0 ≤ j + (-1) * i + (-1)) (c17 : 0 ≤ k) (c18 : 0 ≤ m + (-1) * k + (-1)) (c19 : 0 ≤ q + (-1) * j + (-1) * m + k + (-119)) (c20 : 0 ≤ j + m + (-1) * k + (-1) * q + 119) (c21 : 0 ≤ z + 9223372036854775808) (c22 : 0 ≤ (-1) * z + 9223372036854775807) : p_GD a0 a1 a2 a3 (m_up nn q z) (l0 + 64 * l1 + 4096 * l2 + 262144 * l3 + 16777216 * i + 1073741824 * j + 68719476736 * m + 70368744177664 * k + 105553116266496) := by
  have h := g_rd1 (t := 0) (u := 2) (i := i) (j := j) (m := m) (l0 := l0) (l1 := l1) (l2 := l2) (l3 := l3) (k := k) (z := z) (q := q) p0 (by omega) p1 (by omega) (by unfold m_rg; omega) (by omega) (by omega) (by omega) (by decide) (by decide) (by decide) (by decide) (by rw [m_s0]; omega) (by rw [m_s2]; omega) (by omega) (by omega) (by omega) (by omega)
  exact m_eqv (P := fun y => p_GD a0 a1 a2 a3 (m_up nn q z) y) h (by omega)
theorem k_ra202 {a0 : Int → Int} {a1 : Int → Int} {a2 : Int → Int} {a3 : Int → Int} {nn : Int → Int} {i j m k l0 l1 l2 l3 : Int} (p0 : p_GA a0 a1 a2 a3 nn (l0 + 64 * l1 + 4096 * l2 + 262144 * l3 + 16777216 * i + 1073741824 * j + 68719476736 * m + 70368744177664 * k + 35184372088832)) (c0 : 0 ≤ l0) (c1 : 0 ≤ (-1) * l0 + 60) (c2 : 0 ≤ l1) (c3 : 0 ≤ (-1) * l1 + 60) (c4 : 0 ≤ l2) (c5 : 0 ≤ (-1) * l2 + 60) (c6 : 0 ≤ l3) (c7 : 0 ≤ (-1) * l3 + 60) (c8 : 0 ≤ i) (c9 : 0 ≤ (-1) * i + 60) (c10 : 0 ≤ j) (c11 : 0 ≤ (-1) * j + 60) (c12 : 0 ≤ m) (c13 : 0 ≤ (-1) * m + 60) (c14 : 0 ≤ l0 + (-1) * i + (-1) * m) (c15 : 0 ≤ l2 + (-1) * j + (-1) * m) (c16 : 0 ≤ k + (-1) * m) (c17 : 0 ≤ (-1) * k + 60) : p_TQ a0 a1 a2 a3 nn (l0 + 64 * l1 + 4096 * l2 + 262144 * l3) := by
  exact g_ra2 (t := 0) (u := 2) (i := i) (j := j) (m := m) (l0 := l0) (l1 := l1) (l2 := l2) (l3 := l3) (k := k) p0 (by omega) (by unfold m_rg; omega) (by omega) (by omega) (by omega) (by decide) (by decide) (by decide) (by decide) (by rw [m_s0]; omega) (by rw [m_s2]; omega) (by omega) rfl
theorem k_rd202 {a0 : Int → Int} {a1 : Int → Int} {a2 : Int → Int} {a3 : Int → Int} {nn : Int → Int} {i j m k l0 l1 l2 l3 : Int} (p0 : p_GD a0 a1 a2 a3 nn (l0 + 64 * l1 + 4096 * l2 + 262144 * l3 + 16777216 * i + 1073741824 * j + 68719476736 * m + 70368744177664 * k + 35184372088832)) (c0 : 0 ≤ l0) (c1 : 0 ≤ (-1) * l0 + 60) (c2 : 0 ≤ l1) (c3 : 0 ≤ (-1) * l1 + 60) (c4 : 0 ≤ l2) (c5 : 0 ≤ (-1) * l2 + 60) (c6 : 0 ≤ l3) (c7 : 0 ≤ (-1) * l3 + 60) (c8 : 0 ≤ i) (c9 : 0 ≤ (-1) * i + 60) (c10 : 0 ≤ j) (c11 : 0 ≤ (-1) * j + 60) (c12 : 0 ≤ m) (c13 : 0 ≤ (-1) * m + 60) (c14 : 0 ≤ l0 + (-1) * i + (-1) * m) (c15 : 0 ≤ l2 + (-1) * j + (-1) * m) (c16 : 0 ≤ k + (-1) * m) (c17 : 0 ≤ (-1) * k + 60) : p_TQ a0 a1 a2 a3 nn (l0 + 64 * l1 + 4096 * l2 + 262144 * l3) := by
  exact g_rd2 (t := 0) (u := 2) (i := i) (j := j) (m := m) (l0 := l0) (l1 := l1) (l2 := l2) (l3 := l3) (k := k) p0 (by omega) (by unfold m_rg; omega) (by omega) (by omega) (by omega) (by decide) (by decide) (by decide) (by decide) (by rw [m_s0]; omega) (by rw [m_s2]; omega) (by omega) rfl
theorem k_pc03 {a0 : Int → Int} {a1 : Int → Int} {a2 : Int → Int} {a3 : Int → Int} {nn : Int → Int} {s d m l0 l1 l2 l3 : Int} (i1 : 0 ≤ s) (i2 : 0 ≤ d) (i3 : 0 ≤ m) (p0 : p_TQ a0 a1 a2 a3 nn (l0 + 64 * l1 + 4096 * l2 + 262144 * l3)) (c0 : 0 ≤ l0) (c1 : 0 ≤ (-1) * l0 + 60) (c2 : 0 ≤ l1) (c3 : 0 ≤ (-1) * l1 + 60) (c4 : 0 ≤ l2) (c5 : 0 ≤ (-1) * l2 + 60) (c6 : 0 ≤ l3) (c7 : 0 ≤ (-1) * l3 + 60) (c8 : 0 ≤ s) (c9 : 0 ≤ d) (c10 : 0 ≤ m) (c11 : 0 ≤ l0 + (-1) * s + (-1) * m) (c12 : 0 ≤ l3 + (-1) * d + (-1) * m) : p_PP a0 a1 a2 (m_cpx a0 a3 s d m) nn (l0 + 64 * l1 + 4096 * l2 + 262144 * l3 + 16777216 * s + 1073741824 * d + 68719476736 * m + 52776558133248) := by
  obtain ⟨k0, k1, k2, k3, e, r, H⟩ := p0
  have rr := r
  unfold m_rg at rr
  obtain ⟨rfl, rfl, rfl, rfl⟩ : l0 = k0 ∧ l1 = k1 ∧ l2 = k2 ∧ l3 = k3 := by omega
  refine ⟨l0, l1, l2, l3, s, d, m, 0, 3, by omega, (by unfold m_rg; omega), by omega, by omega, by omega, by decide, by decide, by decide, by decide, (by rw [m_s0]; omega), (by rw [m_s3]; omega), m_Qi (fun q a b _ => m_Qc0 H q a b trivial) (fun q a b _ => m_Qc1 H q a b trivial) (fun q a b _ => m_Qc2 H q a b trivial) (fun q a b f => by unfold m_cpx; rw [if_neg (fun z => f ⟨rfl, z.1, z.2⟩)]; exact m_Qc3 H q a b trivial), fun q a b => ?_⟩
  rw [m_s3]
  unfold m_cpx
  rw [if_pos ⟨a, b⟩, m_Qc0 H (s + (q - d)) (by omega) (by omega) trivial, show (60 * 0 + (s + (q - d)) : Int) = 60 * 0 + s + q - d by omega]
theorem k_ra003 {a0 : Int → Int} {a1 : Int → Int} {a2 : Int → Int} {a3 : Int → Int} {nn : Int → Int} {i j m r l0 l1 l2 l3 : Int} (p0 : p_PP a0 a1 a2 a3 nn (l0 + 64 * l1 + 4096 * l2 + 262144 * l3 + 16777216 * i + 1073741824 * j + 68719476736 * m + 52776558133248)) (c0 : 0 ≤ l0) (c1 : 0 ≤ (-1) * l0 + 60) (c2 : 0 ≤ l1) (c3 : 0 ≤ (-1) * l1 + 60) (c4 : 0 ≤ l2) (c5 : 0 ≤ (-1) * l2 + 60) (c6 : 0 ≤ l3) (c7 : 0 ≤ (-1) * l3 + 60) (c8 : 0 ≤ i) (c9 : 0 ≤ (-1) * i + 60) (c10 : 0 ≤ j) (c11 : 0 ≤ (-1) * j + 60) (c12 : 0 ≤ m) (c13 : 0 ≤ (-1) * m + 60) (c14 : 0 ≤ l0 + (-1) * i + (-1) * m) (c15 : 0 ≤ l3 + (-1) * j + (-1) * m) (c16 : 0 ≤ r) (c17 : 0 ≤ (-1) * r) (c18 : 0 ≤ i + (-1) * j) : p_GA a0 a1 a2 a3 nn (l0 + 64 * l1 + 4096 * l2 + 262144 * l3 + 16777216 * i + 1073741824 * j + 68719476736 * m + 52776558133248) := by
  exact g_ra0 (t := 0) (u := 3) (i := i) (j := j) (m := m) (l0 := l0) (l1 := l1) (l2 := l2) (l3 := l3) p0 (by omega) (by unfold m_rg; omega) (by omega) (by omega) (by omega) (by decide) (by decide) (by decide) (by decide) (by rw [m_s0]; omega) (by rw [m_s3]; omega) (by omega)
theorem k_rd003 {a0 : Int → Int} {a1 : Int → Int} {a2 : Int → Int} {a3 : Int → Int} {nn : Int → Int} {i j m r l0 l1 l2 l3 : Int} (p0 : p_PP a0 a1 a2 a3 nn (l0 + 64 * l1 + 4096 * l2 + 262144 * l3 + 16777216 * i + 1073741824 * j + 68719476736 * m + 52776558133248)) (c0 : 0 ≤ l0) (c1 : 0 ≤ (-1) * l0 + 60) (c2 : 0 ≤ l1) (c3 : 0 ≤ (-1) * l1 + 60) (c4 : 0 ≤ l2) (c5 : 0 ≤ (-1) * l2 + 60) (c6 : 0 ≤ l3) (c7 : 0 ≤ (-1) * l3 + 60) (c8 : 0 ≤ i) (c9 : 0 ≤ (-1) * i + 60) (c10 : 0 ≤ j) (c11 : 0 ≤ (-1) * j + 60) (c12 : 0 ≤ m) (c13 : 0 ≤ (-1) * m + 60) (c14 : 0 ≤ l0 + (-1) * i + (-1) * m) (c15 : 0 ≤ l3 + (-1) * j + (-1) * m) (c16 : 0 ≤ r + (-1)) (c17 : 0 ≤ j + (-1) * i + (-1)) : p_GD a0 a1 a2 a3 nn (l0 + 64 * l1 + 4096 * l2 + 262144 * l3 + 16777216 * i + 1073741824 * j + 68719476736 * m + 52776558133248) := by
  exact g_rd0 (t := 0) (u := 3) (i := i) (j := j) (m := m) (l0 := l0) (l1 := l1) (l2 := l2) (l3 := l3) p0 (by omega) (by unfold m_rg; omega) (by omega) (by omega) (by omega) (by decide) (by decide) (by decide) (by decide) (by rw [m_s0]; omega) (by rw [m_s3]; omega) (by omega)
theorem k_ra103 {a0 : Int → Int} {a1 : Int → Int} {a2 : Int → Int} {a3 : Int → Int} {nn : Int → Int} {q z i j m k l0 l1 l2 l3 : Int} (i1 : 0 ≤ q) (i2 : q < 240) (p0 : p_GA a0 a1 a2 a3 nn (l0 + 64 * l1 + 4096 * l2 + 262144 * l3 + 16777216 * i + 1073741824 * j + 68719476736 * m + 70368744177664 * k + 52776558133248)) (p1 : p_NL nn (i + k + 256 * z + 2361183241434822606848)) (c0 : 0 ≤ l0) (c1 : 0 ≤ (-1) * l0 + 60) (c2 : 0 ≤ l1) (c3 : 0 ≤ (-1) * l1 + 60) (c4 : 0 ≤ l2) (c5 : 0 ≤ (-1) * l2 + 60) (c6 : 0 ≤ l3) (c7 : 0 ≤ (-1) * l3 + 60) (c8 : 0 ≤ i) (c9 : 0 ≤ (-1) * i + 60) (c10 : 0 ≤ j) (c11 : 0 ≤ (-1) * j + 60) (c12 : 0 ≤ m) (c13 : 0 ≤ (-1) * m + 60) (c14 : 0 ≤ l0 + (-1) * i + (-1) * m) (c15 : 0 ≤ l3 + (-1) * j + (-1) * m) (c16 : 0 ≤ i + (-1) * j) (c17 : 0 ≤ k) (c18 : 0 ≤ m + (-1) * k + (-1)) (c19 : 0 ≤ q + (-1) * j + (-1) * k + (-180)) (c20 : 0 ≤ j + k + (-1) * q + 180) (c21 : 0 ≤ z + 9223372036854775808) (c22 : 0 ≤ (-1) * z + 9223372036854775807) : p_GA a0 a1 a2 a3 (m_up nn q z) (l0 + 64 * l1 + 4096 * l2 + 262144 * l3 + 16777216 * i + 1073741824 * j + 68719476736 * m + 70368744177664 * k + 123145302310912) := by
  have h := g_ra1 (t := 0) (u := 3) (i := i) (j := j) (m := m) (l0 := l0) (l1 := l1) (l2 := l2) (l3 := l3) (k := k) (z := z) (q := q) p0 (by omega) p1 (by omega) (by unfold m_rg; omega) (by omega) (by omega) (by omega) (by decide) (by decide) (by decide) (by decide) (by rw [m_s0]; omega) (by rw [m_s3]; omega) (by omega) (by omega) (by omega) (by omega)
  exact m_eqv (P := fun y => p_GA a0 a1 a2 a3 (m_up nn q z) y) h (by omega)
theorem k_rd103 {a0 : Int → Int} {a1 : Int → Int} {a2 : Int → Int} {a3 : Int → Int} {nn : Int → Int} {q z i j m k l0 l1 l2 l3 : Int} (i1 : 0 ≤ q) (i2 : q < 240) (p0 : p_GD a0 a1 a2 a3 nn (l0 + 64 * l1 + 4096 * l2 + 262144 * l3 + 16777216 * i + 1073741824 * j + 68719476736 * m + 70368744177664 * k + 52776558133248)) (p1 : p_NL nn (i + m + (-1) * k + 256 * z + 2361183241434822606847)) (c0 : 0 ≤ l0) (c1 : 0 ≤ (-1) * l0 + 60) (c2 : 0 ≤ l1) (c3 : 0 ≤ (-1) * l1 + 60) (c4 : 0 ≤ l2) (c5 : 0 ≤ (-1) * l2 + 60) (c6 : 0 ≤ l3) (c7 : 0 ≤ (-1) * l3 + 60) (c8 : 0 ≤ i) (c9 : 0 ≤ (-1) * i + 60) (c10 : 0 ≤ j) (c11 : 0 ≤ (-1) * j + 60) (c12 : 0 ≤ m) (c13 : 0 ≤ (-1) * m + 60) (c14 : 0 ≤ l0 + (-1) * i + (-1) * m) (c15 : 0 ≤ l3 + (-1) * j + (-1) * m) (c16 : 0 ≤ j + (-1) * i + (-1)) (c17 : 0 ≤ k) (c18 : 0 ≤ m + (-1) * k + (-1)) (c19 : 0 ≤ q + (-1) * j + (-1) * m + k + (-179)) (c20 : 0 ≤ j + m + (-1) * k + (-1) * q + 179) (c21 : 0 ≤ z + 9223372036854775808) (c22 : 0 ≤ (-1) * z + 9223372036854775807) : p_GD a0 a1 a2 a3 (m_up nn q z) (l0 + 64 * l1 + 4096 * l2 + 262144 * l3 + 16777216 * i + 1073741824 * j + 68719476736 * m + 70368744177664 * k + 123145302310912) := by
  have h := g_rd1 (t := 0) (u := 3) (i := i) (j := j) (m := m) (l0 := l0) (l1 := l1) (l2 := l2) (l3 := l3) (k := k) (z := z) (q := q) p0 (by omega) p1 (by omega) (by unfold m_rg; omega) (by omega) (by omega) (by omega) (by decide) (by decide) (by decide) (by decide) (by rw [m_s0]; omega) (by rw [m_s3]; omega) (by omega) (by omega) (by omega) (by omega)
  exact m_eqv (P := fun y => p_GD a0 a1 a2 a3 (m_up nn q z) y) h (by omega)
theorem k_ra203 {a0 : Int → Int} {a1 : Int → Int} {a2 : Int → Int} {a3 : Int → Int} {nn : Int → Int} {i j m k l0 l1 l2 l3 : Int} (p0 : p_GA a0 a1 a2 a3 nn (l0 + 64 * l1 + 4096 * l2 + 262144 * l3 + 16777216 * i + 1073741824 * j + 68719476736 * m + 70368744177664 * k + 52776558133248)) (c0 : 0 ≤ l0) (c1 : 0 ≤ (-1) * l0 + 60) (c2 : 0 ≤ l1) (c3 : 0 ≤ (-1) * l1 + 60) (c4 : 0 ≤ l2) (c5 : 0 ≤ (-1) * l2 + 60) (c6 : 0 ≤ l3) (c7 : 0 ≤ (-1) * l3 + 60) (c8 : 0 ≤ i) (c9 : 0 ≤ (-1) * i + 60) (c10 : 0 ≤ j) (c11 : 0 ≤ (-1) * j + 60) (c12 : 0 ≤ m) (c13 : 0 ≤ (-1) * m + 60) (c14 : 0 ≤ l0 + (-1) * i + (-1) * m) (c15 : 0 ≤ l3 + (-1) * j + (-1) * m) (c16 : 0 ≤ k + (-1) * m) (c17 : 0 ≤ (-1) * k + 60) : p_TQ a0 a1 a2 a3 nn (l0 + 64 * l1 + 4096 * l2 + 262144 * l3) := by
  exact g_ra2 (t := 0) (u := 3) (i := i) (j := j) (m := m) (l0 := l0) (l1 := l1) (l2 := l2) (l3 := l3) (k := k) p0 (by omega) (by unfold m_rg; omega) (by omega) (by omega) (by omega) (by decide) (by decide) (by decide) (by decide) (by rw [m_s0]; omega) (by rw [m_s3]; omega) (by omega) rfl
theorem k_rd203 {a0 : Int → Int} {a1 : Int → Int} {a2 : Int → Int} {a3 : Int → Int} {nn : Int → Int} {i j m k l0 l1 l2 l3 : Int} (p0 : p_GD a0 a1 a2 a3 nn (l0 + 64 * l1 + 4096 * l2 + 262144 * l3 + 16777216 * i + 1073741824 * j + 68719476736 * m + 70368744177664 * k + 52776558133248)) (c0 : 0 ≤ l0) (c1 : 0 ≤ (-1) * l0 + 60) (c2 : 0 ≤ l1) (c3 : 0 ≤ (-1) * l1 + 60) (c4 : 0 ≤ l2) (c5 : 0 ≤ (-1) * l2 + 60) (c6 : 0 ≤ l3) (c7 : 0 ≤ (-1) * l3 + 60) (c8 : 0 ≤ i) (c9 : 0 ≤ (-1) * i + 60) (c10 : 0 ≤ j) (c11 : 0 ≤ (-1) * j + 60) (c12 : 0 ≤ m) (c13 : 0 ≤ (-1) * m + 60) (c14 : 0 ≤ l0 + (-1) * i + (-1) * m) (c15 : 0 ≤ l3 + (-1) * j + (-1) * m) (c16 : 0 ≤ k + (-1) * m) (c17 : 0 ≤ (-1) * k + 60) : p_TQ a0 a1 a2 a3 nn (l0 + 64 * l1 + 4096 * l2 + 262144 * l3) := by
  exact g_rd2 (t := 0) (u := 3) (i := i) (j := j) (m := m) (l0 := l0) (l1 := l1) (l2 := l2) (l3 := l3) (k := k) p0 (by omega) (by unfold m_rg; omega) (by omega) (by omega) (by omega) (by decide) (by decide) (by decide) (by decide) (by rw [m_s0]; omega) (by rw [m_s3]; omega) (by omega) rfl
theorem k_pc10 {a0 : Int → Int} {a1 : Int → Int} {a2 : Int → Int} {a3 : Int → Int} {nn : Int → Int} {s d m l0 l1 l2 l3 : Int} (i1 : 0 ≤ s) (i2 : 0 ≤ d) (i3 : 0 ≤ m) (p0 : p_TQ a0 a1 a2 a3 nn (l0 + 64 * l1 + 4096 * l2 + 262144 * l3)) (c0 : 0 ≤ l0) (c1 : 0 ≤ (-1) * l0 + 60) (c2 : 0 ≤ l1) (c3 : 0 ≤ (-1) * l1 + 60) (c4 : 0 ≤ l2) (c5 : 0 ≤ (-1) * l2 + 60) (c6 : 0 ≤ l3) (c7 : 0 ≤ (-1) * l3 + 60) (c8 : 0 ≤ s) (c9 : 0 ≤ d) (c10 : 0 ≤ m) (c11 : 0 ≤ l1 + (-1) * s + (-1) * m) (c12 : 0 ≤ l0 + (-1) * d + (-1) * m) : p_PP (m_cpx a1 a0 s d m) a1 a2 a3 nn (l0 + 64 * l1 + 4096 * l2 + 262144 * l3 + 16777216 * s + 1073741824 * d + 68719476736 * m + 4398046511104) := by
  obtain ⟨k0, k1, k2, k3, e, r, H⟩ := p0
  have rr := r
  unfold m_rg at rr
  obtain ⟨rfl, rfl, rfl, rfl⟩ : l0 = k0 ∧ l1 = k1 ∧ l2 = k2 ∧ l3 = k3 := by omega
  refine ⟨l0, l1, l2, l3, s, d, m, 1, 0, by omega, (by unfold m_rg; omega), by omega, by omega, by omega, by decide, by decide, by decide, by decide, (by rw [m_s1]; omega), (by rw [m_s0]; omega), m_Qi (fun q a b f => by unfold m_cpx; rw [if_neg (fun z => f ⟨rfl, z.1, z.2⟩)]; exact m_Qc0 H q a b trivial) (fun q a b _ => m_Qc1 H q a b trivial) (fun q a b _ => m_Qc2 H q a b trivial) (fun q a b _ => m_Qc3 H q a b trivial), fun q a b => ?_⟩
  rw [m_s0]
  unfold m_cpx
  rw [if_pos ⟨a, b⟩, m_Qc1 H (s + (q - d)) (by omega) (by omega) trivial, show (60 * 1 + (s + (q - d)) : Int) = 60 * 1 + s + q - d by omega]
theorem k_ra010 {a0 : Int → Int} {a1 : Int → Int} {a2 : Int → Int} {a3 : Int → Int} {nn : Int → Int} {i j m r l0 l1 l2 l3 : Int} (p0 : p_PP a0 a1 a2 a3 nn (l0 + 64 * l1 + 4096 * l2 + 262144 * l3 + 16777216 * i + 1073741824 * j + 68719476736 * m + 4398046511104)) (c0 : 0 ≤ l0) (c1 : 0 ≤ (-1) * l0 + 60) (c2 : 0 ≤ l1) (c3 : 0 ≤ (-1) * l1 + 60) (c4 : 0 ≤ l2) (c5 : 0 ≤ (-1) * l2 + 60) (c6 : 0 ≤ l3) (c7 : 0 ≤ (-1) * l3 + 60) (c8 : 0 ≤ i) (c9 : 0 ≤ (-1) * i + 60) (c10 : 0 ≤ j) (c11 : 0 ≤ (-1) * j + 60) (c12 : 0 ≤ m) (c13 : 0 ≤ (-1) * m + 60) (c14 : 0 ≤ l1 + (-1) * i + (-1) * m) (c15 : 0 ≤ l0 + (-1) * j + (-1) * m) (c16 : 0 ≤ r) (c17 : 0 ≤ (-1) * r) (c18 : 0 ≤ i + (-1) * j) : p_GA a0 a1 a2 a3 nn (l0 + 64 * l1 + 4096 * l2 + 262144 * l3 + 16777216 * i + 1073741824 * j + 68719476736 * m + 4398046511104) := by
  exact g_ra0 (t := 1) (u := 0) (i := i) (j := j) (m := m) (l0 := l0) (l1 := l1) (l2 := l2) (l3 := l3) p0 (by omega) (by unfold m_rg; omega) (by omega) (by omega) (by omega) (by decide) (by decide) (by decide) (by decide) (by rw [m_s1]; omega) (by rw [m_s0]; omega) (by omega)
theorem k_rd010 {a0 : Int → Int} {a1 : Int → Int} {a2 : Int → Int} {a3 : Int → Int} {nn : Int → Int} {i j m r l0 l1 l2 l3 : Int} (p0 : p_PP a0 a1 a2 a3 nn (l0 + 64 * l1 + 4096 * l2 + 262144 * l3 + 16777216 * i + 1073741824 * j + 68719476736 * m + 4398046511104)) (c0 : 0 ≤ l0) (c1 : 0 ≤ (-1) * l0 + 60) (c2 : 0 ≤ l1) (c3 : 0 ≤ (-1) * l1 + 60) (c4 : 0 ≤ l2) (c5 : 0 ≤ (-1) * l2 + 60) (c6 : 0 ≤ l3) (c7 : 0 ≤ (-1) * l3 + 60) (c8 : 0 ≤ i) (c9 : 0 ≤ (-1) * i + 60) (c10 : 0 ≤ j) (c11 : 0 ≤ (-1) * j + 60) (c12 : 0 ≤ m) (c13 : 0 ≤ (-1) * m + 60) (c14 : 0 ≤ l1 + (-1) * i + (-1) * m) (c15 : 0 ≤ l0 + (-1) * j + (-1) * m) (c16 : 0 ≤ r + (-1)) (c17 : 0 ≤ j + (-1) * i + (-1)) : p_GD a0 a1 a2 a3 nn (l0 + 64 * l1 + 4096 * l2 + 262144 * l3 + 16777216 * i + 1073741824 * j + 68719476736 * m + 4398046511104) := by
  exact g_rd0 (t := 1) (u := 0) (i := i) (j := j) (m := m) (l0 := l0) (l1 := l1) (l2 := l2) (l3 := l3) p0 (by omega) (by unfold m_rg; omega) (by omega) (by omega) (by omega) (by decide) (by decide) (by decide) (by decide) (by rw [m_s1]; omega) (by rw [m_s0]; omega) (by omega)
theorem k_ra110 {a0 : Int → Int} {a1 : Int → Int} {a2 : Int → Int} {a3 : Int → Int} {nn : Int → Int} {q z i j m k l0 l1 l2 l3 : Int} (i1 : 0 ≤ q) (i2 : q < 240) (p0 : p_GA a0 a1 a2 a3 nn (l0 + 64 * l1 + 4096 * l2 + 262144 * l3 + 16777216 * i + 1073741824 * j + 68719476736 * m + 70368744177664 * k + 4398046511104)) (p1 : p_NL nn (i + k + 256 * z + 2361183241434822606908)) (c0 : 0 ≤ l0) (c1 : 0 ≤ (-1) * l0 + 60) (c2 : 0 ≤ l1) (c3 : 0 ≤ (-1) * l1 + 60) (c4 : 0 ≤ l2) (c5 : 0 ≤ (-1) * l2 + 60) (c6 : 0 ≤ l3) (c7 : 0 ≤ (-1) * l3 + 60) (c8 : 0 ≤ i) (c9 : 0 ≤ (-1) * i + 60) (c10 : 0 ≤ j) (c11 : 0 ≤ (-1) * j + 60) (c12 : 0 ≤ m) (c13 : 0 ≤ (-1) * m + 60) (c14 : 0 ≤ l1 + (-1) * i + (-1) * m) (c15 : 0 ≤ l0 + (-1) * j + (-1) * m) (c16 : 0 ≤ i + (-1) * j) (c17 : 0 ≤ k) (c18 : 0 ≤ m + (-1) * k + (-1)) (c19 : 0 ≤ q + (-1) * j + (-1) * k) (c20 : 0 ≤ j + k + (-1) * q) (c21 : 0 ≤ z + 9223372036854775808) (c22 : 0 ≤ (-1) * z + 9223372036854775807) : p_GA a0 a1 a2 a3 (m_up nn q z) (l0 + 64 * l1 + 4096 * l2 + 262144 * l3 + 16777216 * i + 1073741824 * j + 68719476736 * m + 70368744177664 * k + 74766790688768) := by
  have h := g_ra1 (t := 1) (u := 0) (i := i) (j := j) (m := m) (l0 := l0) (l1 := l1) (l2 := l2) (l3 := l3) (k := k) (z := z) (q := q) p0 (by omega) p1 (by omega) (by unfold m_rg; omega) (by omega) (by omega) (by omega) (by decide) (by decide) (by decide) (by decide) (by rw [m_s1]; omega) (by rw [m_s0]; omega) (by omega) (by omega) (by omega) (by omega)
  exact m_eqv (P := fun y => p_GA a0 a1 a2 a3 (m_up nn q z) y) h (by omega)
theorem k_rd110 {a0 : Int → Int} {a1 : Int → Int} {a2 : Int → Int} {a3 : Int → Int} {nn : Int → Int} {q z i j m k l0 l1 l2 l3 : Int} (i1 : 0 ≤ q) (i2 : q < 240) (p0 : p_GD a0 a1 a2 a3 nn (l0 + 64 * l1 + 4096 * l2 + 262144 * l3 + 16777216 * i + 1073741824 * j + 68719476736 * m + 70368744177664 * k + 4398046511104)) (p1 : p_NL nn (i + m + (-1) * k + 256 * z + 2361183241434822606907)) (c0 : 0 ≤ l0) (c1 : 0 ≤ (-1) * l0 + 60) (c2 : 0 ≤ l1) (c3 : 0 ≤ (-1) * l1 + 60) (c4 : 0 ≤ l2) (c5 : 0 ≤ (-1) * l2 + 60) (c6 : 0 ≤ l3) (c7 : 0 ≤ (-1) * l3 + 60) (c8 : 0 ≤ i) (c9 : 0 ≤ (-1) * i + 60) (c10 : 0 ≤ j) (c11 : 0 ≤ (-1) * j + 60) (c12 : 0 ≤ m) (c13 : 0 ≤ (-1) * m + 60) (c14 : 0 ≤ l1 + (-1) * i + (-1) * m) (c15 : 0 ≤ l0 + (-1) * j + (-1) * m) (c16 : 0 ≤ j + (-1) * i + (-1)) (c17 : 0 ≤ k) (c18 : 0 ≤ m + (-1) * k + (-1)) (c19 : 0 ≤ q + (-1) * j + (-1) * m + k + 1) (c20 : 0 ≤ j + m + (-1) * k + (-1) * q + (-1)) (c21 : 0 ≤ z + 9223372036854775808) (c22 : 0 ≤ (-1) * z + 9223372036854775807) : p_GD a0 a1 a2 a3 (m_up nn q z) (l0 + 64 * l1 + 4096 * l2 + 262144 * l3 + 16777216 * i + 1073741824 * j + 68719476736 * m + 70368744177664 * k + 74766790688768) := by
  have h := g_rd1 (t := 1) (u := 0) (i := i) (j := j) (m := m) (l0 := l0) (l1 := l1) (l2 := l2) (l3 := l3) (k := k) (z := z) (q := q) p0 (by omega) p1 (by omega) (by unfold m_rg; omega) (by omega) (by omega) (by omega) (by decide) (by decide) (by decide) (by decide) (by rw [m_s1]; omega) (by rw [m_s0]; omega) (by omega) (by omega) (by omega) (by omega)
  exact m_eqv (P := fun y => p_GD a0 a1 a2 a3 (m_up nn q z) y) h (by omega)
theorem k_ra210 {a0 : Int → Int} {a1 : Int → Int} {a2 : Int → Int} {a3 : Int → Int} {nn : Int → Int} {i j m k l0 l1 l2 l3 : Int} (p0 : p_GA a0 a1 a2 a3 nn (l0 + 64 * l1 + 4096 * l2 + 262144 * l3 + 16777216 * i + 1073741824 * j + 68719476736 * m + 70368744177664 * k + 4398046511104)) (c0 : 0 ≤ l0) (c1 : 0 ≤ (-1) * l0 + 60) (c2 : 0 ≤ l1) (c3 : 0 ≤ (-1) * l1 + 60) (c4 : 0 ≤ l2) (c5 : 0 ≤ (-1) * l2 + 60) (c6 : 0 ≤ l3) (c7 : 0 ≤ (-1) * l3 + 60) (c8 : 0 ≤ i) (c9 : 0 ≤ (-1) * i + 60) (c10 : 0 ≤ j) (c11 : 0 ≤ (-1) * j + 60) (c12 : 0 ≤ m) (c13 : 0 ≤ (-1) * m + 60) (c14 : 0 ≤ l1 + (-1) * i + (-1) * m) (c15 : 0 ≤ l0 + (-1) * j + (-1) * m) (c16 : 0 ≤ k + (-1) * m) (c17 : 0 ≤ (-1) * k + 60) : p_TQ a0 a1 a2 a3 nn (l0 + 64 * l1 + 4096 * l2 + 262144 * l3) := by
  exact g_ra2 (t := 1) (u := 0) (i := i) (j := j) (m := m) (l0 := l0) (l1 := l1) (l2 := l2) (l3 := l3) (k := k) p0 (by omega) (by unfold m_rg; omega) (by omega) (by omega) (by omega) (by decide) (by decide) (by decide) (by decide) (by rw [m_s1]; omega) (by rw [m_s0]; omega) (by omega) rfl
theorem k_rd210 {a0 : Int → Int} {a1 : Int → Int} {a2 : Int → Int} {a3 : Int → Int} {nn : Int → Int} {i j m k l0 l1 l2 l3 : Int} (p0 : p_GD a0 a1 a2 a3 nn (l0 + 64 * l1 + 4096 * l2 + 262144 * l3 + 16777216 * i + 1073741824 * j + 68719476736 * m + 70368744177664 * k + 4398046511104)) (c0 : 0 ≤ l0) (c1 : 0 ≤ (-1) * l0 + 60) (c2 : 0 ≤ l1) (c3 : 0 ≤ (-1) * l1 + 60) (c4 : 0 ≤ l2) (c5 : 0 ≤ (-1) * l2 + 60) (c6 : 0 ≤ l3) (c7 : 0 ≤ (-1) * l3 + 60) (c8 : 0 ≤ i) (c9 : 0 ≤ (-1) * i + 60) (c10 : 0 ≤ j) (c11 : 0 ≤ (-1) * j + 60) (c12 : 0 ≤ m) (c13 : 0 ≤ (-1) * m + 60) (c14 : 0 ≤ l1 + (-1) * i + (-1) * m) (c15 : 0 ≤ l0 + (-1) * j + (-1) * m) (c16 : 0 ≤ k + (-1) * m) (c17 : 0 ≤ (-1) * k + 60) : p_TQ a0 a1 a2 a3 nn (l0 + 64 * l1 + 4096 * l2 + 262144 * l3) := by
  exact g_rd2 (t := 1) (u := 0) (i := i) (j := j) (m := m) (l0 := l0) (l1 := l1) (l2 := l2) (l3 := l3) (k := k) p0 (by omega) (by unfold m_rg; omega) (by omega) (by omega) (by omega) (by decide) (by decide) (by decide) (by decide) (by rw [m_s1]; omega) (by rw [m_s0]; omega) (by omega) rfl
theorem k_pc11 {a0 : Int → Int} {a1 : Int → Int} {a2 : Int → Int} {a3 : Int → Int} {nn : Int → Int} {s d m l0 l1 l2 l3 : Int} (i1 : 0 ≤ s) (i2 : 0 ≤ d) (i3 : 0 ≤ m) (p0 : p_TQ a0 a1 a2 a3 nn (l0 + 64 * l1 + 4096 * l2 + 262144 * l3)) (c0 : 0 ≤ l0) (c1 : 0 ≤ (-1) * l0 + 60) (c2 : 0 ≤ l1) (c3 : 0 ≤ (-1) * l1 + 60) (c4 : 0 ≤ l2) (c5 : 0 ≤ (-1) * l2 + 60) (c6 : 0 ≤ l3) (c7 : 0 ≤ (-1) * l3 + 60) (c8 : 0 ≤ s) (c9 : 0 ≤ d) (c10 : 0 ≤ m) (c11 : 0 ≤ l1 + (-1) * s + (-1) * m) (c12 : 0 ≤ l1 + (-1) * d + (-1) * m) : p_PP a0 (m_cpx a1 a1 s d m) a2 a3 nn (l0 + 64 * l1 + 4096 * l2 + 262144 * l3 + 16777216 * s + 1073741824 * d + 68719476736 * m + 21990232555520) := by
  obtain ⟨k0, k1, k2, k3, e, r, H⟩ := p0
  have rr := r
  unfold m_rg at rr
  obtain ⟨rfl, rfl, rfl, rfl⟩ : l0 = k0 ∧ l1 = k1 ∧ l2 = k2 ∧ l3 = k3 := by omega
  refine ⟨l0, l1, l2, l3, s, d, m, 1, 1, by omega, (by unfold m_rg; omega), by omega, by omega, by omega, by decide, by decide, by decide, by decide, (by rw [m_s1]; omega), (by rw [m_s1]; omega), m_Qi (fun q a b _ => m_Qc0 H q a b trivial) (fun q a b f => by unfold m_cpx; rw [if_neg (fun z => f ⟨rfl, z.1, z.2⟩)]; exact m_Qc1 H q a b trivial) (fun q a b _ => m_Qc2 H q a b trivial) (fun q a b _ => m_Qc3 H q a b trivial), fun q a b => ?_⟩
  rw [m_s1]
  unfold m_cpx
  rw [if_pos ⟨a, b⟩, m_Qc1 H (s + (q - d)) (by omega) (by omega) trivial, show (60 * 1 + (s + (q - d)) : Int) = 60 * 1 + s + q - d by omega]
theorem k_ra011 {a0 : Int → Int} {a1 : Int → Int} {a2 : Int → Int} {a3 : Int → Int} {nn : Int → Int} {i j m r l0 l1 l2 l3 : Int} (p0 : p_PP a0 a1 a2 a3 nn (l0 + 64 * l1 + 4096 * l2 + 262144 * l3 + 16777216 * i + 1073741824 * j + 68719476736 * m + 21990232555520)) (c0 : 0 ≤ l0) (c1 : 0 ≤ (-1) * l0 + 60) (c2 : 0 ≤ l1) (c3 : 0 ≤ (-1) * l1 + 60) (c4 : 0 ≤ l2) (c5 : 0 ≤ (-1) * l2 + 60) (c6 : 0 ≤ l3) (c7 : 0 ≤ (-1) * l3 + 60) (c8 : 0 ≤ i) (c9 : 0 ≤ (-1) * i + 60) (c10 : 0 ≤ j) (c11 : 0 ≤ (-1) * j + 60) (c12 : 0 ≤ m) (c13 : 0 ≤ (-1) * m + 60) (c14 : 0 ≤ l1 + (-1) * i + (-1) * m) (c15 : 0 ≤ l1 + (-1) * j + (-1) * m) (c16 : 0 ≤ r) (c17 : 0 ≤ (-1) * r) (c18 : 0 ≤ i + (-1) * j) : p_GA a0 a1 a2 a3 nn (l0 + 64 * l1 + 4096 * l2 + 262144 * l3 + 16777216 * i + 1073741824 * j + 68719476736 * m + 21990232555520) := by
  exact g_ra0 (t := 1) (u := 1) (i := i) (j := j) (m := m) (l0 := l0) (l1 := l1) (l2 := l2) (l3 := l3) p0 (by omega) (by unfold m_rg; omega) (by omega) (by omega) (by omega) (by decide) (by decide) (by decide) (by decide) (by rw [m_s1]; omega) (by rw [m_s1]; omega) (by omega)
theorem k_rd011 {a0 : Int → Int} {a1 : Int → Int} {a2 : Int → Int} {a3 : Int → Int} {nn : Int → Int} {i j m r l0 l1 l2 l3 : Int} (p0 : p_PP a0 a1 a2 a3 nn (l0 + 64 * l1 + 4096 * l2 + 262144 * l3 + 16777216 * i + 1073741824 * j + 68719476736 * m + 21990232555520)) (c0 : 0 ≤ l0) (c1 : 0 ≤ (-1) * l0 + 60) (c2 : 0 ≤ l1) (c3 : 0 ≤ (-1) * l1 + 60) (c4 : 0 ≤ l2) (c5 : 0 ≤ (-1) * l2 + 60) (c6 : 0 ≤ l3) (c7 : 0 ≤ (-1) * l3 + 60) (c8 : 0 ≤ i) (c9 : 0 ≤ (-1) * i + 60) (c10 : 0 ≤ j) (c11 : 0 ≤ (-1) * j + 60) (c12 : 0 ≤ m) (c13 : 0 ≤ (-1) * m + 60) (c14 : 0 ≤ l1 + (-1) * i + (-1) * m) (c15 : 0 ≤ l1 + (-1) * j + (-1) * m) (c16 : 0 ≤ r + (-1)) (c17 : 0 ≤ j + (-1) * i + (-1)) : p_GD a0 a1 a2 a3 nn (l0 + 64 * l1 + 4096 * l2 + 262144 * l3 + 16777216 * i + 1073741824 * j + 68719476736 * m + 21990232555520) := by
  exact g_rd0 (t := 1) (u := 1) (i := i) (j := j) (m := m) (l0 := l0) (l1 := l1) (l2 := l2) (l3 := l3) p0 (by omega) (by unfold m_rg; omega) (by omega) (by omega) (by omega) (by decide) (by decide) (by decide) (by decide) (by rw [m_s1]; omega) (by rw [m_s1]; omega) (by omega)
theorem k_ra111 {a0 : Int → Int} {a1 : Int → Int} {a2 : Int → Int} {a3 : Int → Int} {nn : Int → Int} {q z i j m k l0 l1 l2 l3 : Int} (i1 : 0 ≤ q) (i2 : q < 240) (p0 : p_GA a0 a1 a2 a3 nn (l0 + 64 * l1 + 4096 * l2 + 262144 * l3 + 16777216 * i + 1073741824 * j + 68719476736 * m + 70368744177664 * k + 21990232555520)) (p1 : p_NL nn (i + k + 256 * z + 2361183241434822606908)) (c0 : 0 ≤ l0) (c1 : 0 ≤ (-1) * l0 + 60) (c2 : 0 ≤ l1) (c3 : 0 ≤ (-1) * l1 + 60) (c4 : 0 ≤ l2) (c5 : 0 ≤ (-1) * l2 + 60) (c6 : 0 ≤ l3) (c7 : 0 ≤ (-1) * l3 + 60) (c8 : 0 ≤ i) (c9 : 0 ≤ (-1) * i + 60) (c10 : 0 ≤ j) (c11 : 0 ≤ (-1) * j + 60) (c12 : 0 ≤ m) (c13 : 0 ≤ (-1) * m + 60) (c14 : 0 ≤ l1 + (-1) * i + (-1) * m) (c15 : 0 ≤ l1 + (-1) * j + (-1) * m) (c16 : 0 ≤ i + (-1) * j) (c17 : 0 ≤ k) (c18 : 0 ≤ m + (-1) * k + (-1)) (c19 : 0 ≤ q + (-1) * j + (-1) * k + (-60)) (c20 : 0 ≤ j + k + (-1) * q + 60) (c21 : 0 ≤ z + 9223372036854775808) (c22 : 0 ≤ (-1) * z + 9223372036854775807) : p_GA a0 a1 a2 a3 (m_up nn q z) (l0 + 64 * l1 + 4096 * l2 + 262144 * l3 + 16777216 * i + 1073741824 * j + 68719476736 * m + 70368744177664 * k + 92358976733184) := by
  have h := g_ra1 (t := 1) (u := 1) (i := i) (j := j) (m := m) (l0 := l0) (l1 := l1) (l2 := l2) (l3 := l3) (k := k) (z := z) (q := q) p0 (by omega) p1 (by omega) (by unfold m_rg; omega) (by omega) (by omega) (by omega) (by decide) (by decide) (by decide) (by decide) (by rw [m_s1]; omega) (by rw [m_s1]; omega) (by omega) (by omega) (by omega) (by omega)
  exact m_eqv (P := fun y => p_GA a0 a1 a2 a3 (m_up nn q z) y) h (by omega)
theorem k_rd111 {a0 : Int → Int} {a1 : Int → Int} {a2 : Int → Int} {a3 : Int → Int} {nn : Int → Int} {q z i j m k l0 l1 l2 l3 : Int} (i1 : 0 ≤ q) (i2 : q < 240) (p0 : p_GD a0 a1 a2 a3 nn (l0 + 64 * l1 + 4096 * l2 + 262144 * l3 + 16777216 * i + 1073741824 * j + 68719476736 * m + 70368744177664 * k + 21990232555520)) (p1 : p_NL nn (i + m + (-1) * k + 256 * z + 2361183241434822606907)) (c0 : 0 ≤ l0) (c1 : 0 ≤ (-1) * l0 + 60) (c2 : 0 ≤ l1) (c3 : 0 ≤ (-1) * l1 + 60) (c4 : 0 ≤ l2) (c5 : 0 ≤ (-1) * l2 + 60) (c6 : 0 ≤ l3) (c7 : 0 ≤ (-1) * l3 + 60) (c8 : 0 ≤ i) (c9 : 0 ≤ (-1) * i + 60) (c10 : 0 ≤ j) (c11 : 0 ≤ (-1) * j + 60) (c12 : 0 ≤ m) (c13 : 0 ≤ (-1) * m + 60) (c14 : 0 ≤ l1 + (-1) * i + (-1) * m) (c15 : 0 ≤ l1 + (-1) * j + (-1) * m) (c16 : 0 ≤ j + (-1) * i + (-1)) (c17 : 0 ≤ k) (c18 : 0 ≤ m + (-1) * k + (-1)) (c19 : 0 ≤ q + (-1) * j + (-1) * m + k + (-59)) (c20 : 0 ≤ j + m + (-1) * k + (-1) * q + 59) (c21 : 0 ≤ z + 9223372036854775808) (c22 : 0 ≤ (-1) * z + 9223372036854775807) : p_GD a0 a1 a2 a3 (m_up nn q z) (l0 + 64 * l1 + 4096 * l2 + 262144 * l3 + 16777216 * i + 1073741824 * j + 68719476736 * m + 70368744177664 * k + 92358976733184) := by
  have h := g_rd1 (t := 1) (u := 1) (i := i) (j := j) (m := m) (l0 := l0) (l1 := l1) (l2 := l2) (l3 := l3) (k := k) (z := z) (q := q) p0 (by omega) p1 (by omega) (by unfold m_rg; omega) (by omega) (by omega) (by omega) (by decide) (by decide) (by decide) (by decide) (by rw [m_s1]; omega) (by rw [m_s1]; omega) (by omega) (by omega) (by omega) (by omega)
  exact m_eqv (P := fun y => p_GD a0 a1 a2 a3 (m_up nn q z) y) h (by omega)
theorem k_ra211 {a0 : Int → Int} {a1 : Int → Int} {a2 : Int → Int} {a3 : Int → Int} {nn : Int → Int} {i j m k l0 l1 l2 l3 : Int} (p0 : p_GA a0 a1 a2 a3 nn (l0 + 64 * l1 + 4096 * l2 + 262144 * l3 + 16777216 * i + 1073741824 * j + 68719476736 * m + 70368744177664 * k + 21990232555520)) (c0 : 0 ≤ l0) (c1 : 0 ≤ (-1) * l0 + 60) (c2 : 0 ≤ l1) (c3 : 0 ≤ (-1) * l1 + 60) (c4 : 0 ≤ l2) (c5 : 0 ≤ (-1) * l2 + 60) (c6 : 0 ≤ l3) (c7 : 0 ≤ (-1) * l3 + 60) (c8 : 0 ≤ i) (c9 : 0 ≤ (-1) * i + 60) (c10 : 0 ≤ j) (c11 : 0 ≤ (-1) * j + 60) (c12 : 0 ≤ m) (c13 : 0 ≤ (-1) * m + 60) (c14 : 0 ≤ l1 + (-1) * i + (-1) * m) (c15 : 0 ≤ l1 + (-1) * j + (-1) * m) (c16 : 0 ≤ k + (-1) * m) (c17 : 0 ≤ (-1) * k + 60) : p_TQ a0 a1 a2 a3 nn (l0 + 64 * l1 + 4096 * l2 + 262144 * l3) := by
  exact g_ra2 (t := 1) (u := 1) (i := i) (j := j) (m := m) (l0 := l0) (l1 := l1) (l2 := l2) (l3 := l3) (k := k) p0 (by omega) (by unfold m_rg; omega) (by omega) (by omega) (by omega) (by decide) (by decide) (by decide) (by decide) (by rw [m_s1]; omega) (by rw [m_s1]; omega) (by omega) rfl
theorem k_rd211 {a0 : Int → Int} {a1 : Int → Int} {a2 : Int → Int} {a3 : Int → Int} {nn : Int → Int} {i j m k l0 l1 l2 l3 : Int} (p0 : p_GD a0 a1 a2 a3 nn (l0 + 64 * l1 + 4096 * l2 + 262144 * l3 + 16777216 * i + 1073741824 * j + 68719476736 * m + 70368744177664 * k + 21990232555520)) (c0 : 0 ≤ l0) (c1 : 0 ≤ (-1) * l0 + 60) (c2 : 0 ≤ l1) (c3 : 0 ≤ (-1) * l1 + 60) (c4 : 0 ≤ l2) (c5 : 0 ≤ (-1) * l2 + 60) (c6 : 0 ≤ l3) (c7 : 0 ≤ (-1) * l3 + 60) (c8 : 0 ≤ i) (c9 : 0 ≤ (-1) * i + 60) (c10 : 0 ≤ j) (c11 : 0 ≤ (-1) * j + 60) (c12 : 0 ≤ m) (c13 : 0 ≤ (-1) * m + 60) (c14 : 0 ≤ l1 + (-1) * i + (-1) * m) (c15 : 0 ≤ l1 + (-1) * j + (-1) * m) (c16 : 0 ≤ k + (-1) * m) (c17 : 0 ≤ (-1) * k + 60) : p_TQ a0 a1 a2 a3 nn (l0 + 64 * l1 + 4096 * l2 + 262144 * l3) := by
  exact g_rd2 (t := 1) (u := 1) (i := i) (j := j) (m := m) (l0 := l0) (l1 := l1) (l2 := l2) (l3 := l3) (k := k) p0 (by omega) (by unfold m_rg; omega) (by omega) (by omega) (by omega) (by decide) (by decide) (by decide) (by decide) (by rw [m_s1]; omega) (by rw [m_s1]; omega) (by omega) rfl
theorem k_pc12 {a0 : Int → Int} {a1 : Int → Int} {a2 : Int → Int} {a3 : Int → Int} {nn : Int → Int} {s d m l0 l1 l2 l3 : Int} (i1 : 0 ≤ s) (i2 : 0 ≤ d) (i3 : 0 ≤ m) (p0 : p_TQ a0 a1 a2 a3 nn (l0 + 64 * l1 + 4096 * l2 + 262144 * l3)) (c0 : 0 ≤ l0) (c1 : 0 ≤ (-1) * l0 + 60) (c2 : 0 ≤ l1) (c3 : 0 ≤ (-1) * l1 + 60) (c4 : 0 ≤ l2) (c5 : 0 ≤ (-1) * l2 + 60) (c6 : 0 ≤ l3) (c7 : 0 ≤ (-1) * l3 + 60) (c8 : 0 ≤ s) (c9 : 0 ≤ d) (c10 : 0 ≤ m) (c11 : 0 ≤ l1 + (-1) * s + (-1) * m) (c12 : 0 ≤ l2 + (-1) * d + (-1) * m) : p_PP a0 a1 (m_cpx a1 a2 s d m) a3 nn (l0 + 64 * l1 + 4096 * l2 + 262144 * l3 + 16777216 * s + 1073741824 * d + 68719476736 * m + 39582418599936) := by
  obtain ⟨k0, k1, k2, k3, e, r, H⟩ := p0
  have rr := r
  unfold m_rg at rr
  obtain ⟨rfl, rfl, rfl, rfl⟩ : l0 = k0 ∧ l1 = k1 ∧ l2 = k2 ∧ l3 = k3 := by omega
  refine ⟨l0, l1, l2, l3, s, d, m, 1, 2, by omega, (by unfold m_rg; omega), by omega, by omega, by omega, by decide, by decide, by decide, by decide, (by rw [m_s1]; omega), (by rw [m_s2]; omega), m_Qi (fun q a b _ => m_Qc0 H q a b trivial) (fun q a b _ => m_Qc1 H q a b trivial) (fun q a b f => by unfold m_cpx; rw [if_neg (fun z => f ⟨rfl, z.1, z.2⟩)]; exact m_Qc2 H q a b trivial) (fun q a b _ => m_Qc3 H q a b trivial), fun q a b => ?_⟩
  rw [m_s2]
  unfold m_cpx
  rw [if_pos ⟨a, b⟩, m_Qc1 H (s + (q - d)) (by omega) (by omega) trivial, show (60 * 1 + (s + (q - d)) : Int) = 60 * 1 + s + q - d by omega]
theorem k_ra012 {a0 : Int → Int} {a1 : Int → Int} {a2 : Int → Int} {a3 : Int → Int} {nn : Int → Int} {i j m r l0 l1 l2 l3 : Int} (p0 : p_PP a0 a1 a2 a3 nn (l0 + 64 * l1 + 4096 * l2 + 262144 * l3 + 16777216 * i + 1073741824 * j + 68719476736 * m + 39582418599936)) (c0 : 0 ≤ l0) (c1 : 0 ≤ (-1) * l0 + 60) (c2 : 0 ≤ l1) (c3 : 0 ≤ (-1) * l1 + 60) (c4 : 0 ≤ l2) (c5 : 0 ≤ (-1) * l2 + 60) (c6 : 0 ≤ l3) (c7 : 0 ≤ (-1) * l3 + 60) (c8 : 0 ≤ i) (c9 : 0 ≤ (-1) * i + 60) (c10 : 0 ≤ j) (c11 : 0 ≤ (-1) * j + 60) (c12 : 0 ≤ m) (c13 : 0 ≤ (-1) * m + 60) (c14 : 0 ≤ l1 + (-1) * i + (-1) * m) (c15 : 0 ≤ l2 + (-1) * j + (-1) * m) (c16 : 0 ≤ r) (c17 : 0 ≤ (-1) * r) (c18 : 0 ≤ i + (-1) * j) : p_GA a0 a1 a2 a3 nn (l0 + 64 * l1 + 4096 * l2 + 262144 * l3 + 16777216 * i + 1073741824 * j + 68719476736 * m + 39582418599936) := by
  exact g_ra0 (t := 1) (u := 2) (i := i) (j := j) (m := m) (l0 := l0) (l1 := l1) (l2 := l2) (l3 := l3) p0 (by omega) (by unfold m_rg; omega) (by omega) (by omega) (by omega) (by decide) (by decide) (by decide) (by decide) (by rw [m_s1]; omega) (by rw [m_s2]; omega) (by omega)
theorem k_rd012 {a0 : Int → Int} {a1 : Int → Int} {a2 : Int → Int} {a3 : Int → Int} {nn : Int → Int} {i j m r l0 l1 l2 l3 : Int} (p0 : p_PP a0 a1 a2 a3 nn (l0 + 64 * l1 + 4096 * l2 + 262144 * l3 + 16777216 * i + 1073741824 * j + 68719476736 * m + 39582418599936)) (c0 : 0 ≤ l0) (c1 : 0 ≤ (-1) * l0 + 60) (c2 : 0 ≤ l1) (c3 : 0 ≤ (-1) * l1 + 60) (c4 : 0 ≤ l2) (c5 : 0 ≤ (-1) * l2 + 60) (c6 : 0 ≤ l3) (c7 : 0 ≤ (-1) * l3 + 60) (c8 : 0 ≤ i) (c9 : 0 ≤ (-1) * i + 60) (c10 : 0 ≤ j) (c11 : 0 ≤ (-1) * j + 60) (c12 : 0 ≤ m) (c13 : 0 ≤ (-1) * m + 60) (c14 : 0 ≤ l1 + (-1) * i + (-1) * m) (c15 : 0 ≤ l2 + (-1) * j + (-1) * m) (c16 : 0 ≤ r + (-1)) (c17 : 0 ≤ j + (-1) * i + (-1)) : p_GD a0 a1 a2 a3 nn (l0 + 64 * l1 + 4096 * l2 + 262144 * l3 + 16777216 * i + 1073741824 * j + 68719476736 * m + 39582418599936) := by
  exact g_rd0 (t := 1) (u := 2) (i := i) (j := j) (m := m) (l0 := l0) (l1 := l1) (l2 := l2) (l3 := l3) p0 (by omega) (by unfold m_rg; omega) (by omega) (by omega) (by omega) (by decide) (by decide) (by decide) (by decide) (by rw [m_s1]; omega) (by rw [m_s2]; omega) (by omega)
theorem k_ra112 {a0 : Int → Int} {a1 : Int → Int} {a2 : Int → Int} {a3 : Int → Int} {nn : Int → Int} {q z i j m k l0 l1 l2 l3 : Int} (i1 : 0 ≤ q) (i2 : q < 240) (p0 : p_GA a0 a1 a2 a3 nn (l0 + 64 * l1 + 4096 * l2 + 262144 * l3 + 16777216 * i + 1073741824 * j + 68719476736 * m + 70368744177664 * k + 39582418599936)) (p1 : p_NL nn (i + k + 256 * z + 2361183241434822606908)) (c0 : 0 ≤ l0) (c1 : 0 ≤ (-1) * l0 + 60) (c2 : 0 ≤ l1) (c3 : 0 ≤ (-1) * l1 + 60) (c4 : 0 ≤ l2) (c5 : 0 ≤ (-1) * l2 + 60) (c6 : 0 ≤ l3) (c7 : 0 ≤ (-1) * l3 + 60) (c8 : 0 ≤ i) (c9 : 0 ≤ (-1) * i + 60) (c10 : 0 ≤ j) (c11 : 0 ≤ (-1) * j + 60) (c12 : 0 ≤ m) (c13 : 0 ≤ (-1) * m + 60) (c14 : 0 ≤ l1 + (-1) * i + (-1) * m) (c15 : 0 ≤ l2 + (-1) * j + (-1) * m) (c16 : 0 ≤ i + (-1) * j) (c17 : 0 ≤ k) (c18 : 0 ≤ m + (-1) * k + (-1)) (c19 : 0 ≤ q + (-1) * j + (-1) * k + (-120)) (c20 : 0 ≤ j + k + (-1) * q + 120) (c21 : 0 ≤ z + 9223372036854775808) (c22 : 0 ≤ (-1) * z + 9223372036854775807) : p_GA a0 a1 a2 a3 (m_up nn q z) (l0 + 64 * l1 + 4096 * l2 + 262144 * l3 + 16777216 * i + 1073741824 * j + 68719476736 * m + 70368744177664 * k + 109951162777600) := by
  have h := g_ra1 (t := 1) (u := 2) (i := i) (j := j) (m := m) (l0 := l0) (l1 := l1) (l2 := l2) (l3 := l3) (k := k) (z := z) (q := q) p0 (by omega) p1 (by omega) (by unfold m_rg; omega) (by omega) (by omega) (by omega) (by decide) (by decide) (by decide) (by decide) (by rw [m_s1]; omega) (by rw [m_s2]; omega) (by omega) (by omega) (by omega) (by omega)
  exact m_eqv (P := fun y => p_GA a0 a1 a2 a3 (m_up nn q z) y) h (by omega)
theorem k_rd112 {a0 : Int → Int} {a1 : Int → Int} {a2 : Int → Int} {a3 : Int → Int} {nn : Int → Int} {q z i j m k l0 l1 l2 l3 : Int} (i1 : 0 ≤ q) (i2 : q < 240) (p0 : p_GD a0 a1 a2 a3 nn (l0 + 64 * l1 + 4096 * l2 + 262144 * l3 + 16777216 * i + 1073741824 * j + 68719476736 * m + 70368744177664 * k + 39582418599936)) (p1 : p_NL nn (i + m + (-1) * k + 256 * z + 2361183241434822606907)) (c0 : 0 ≤ l0) (c1 : 0 ≤ (-1) * l0 + 60) (c2 : 0 ≤ l1) (c3 : 0 ≤ (-1) * l1 + 60) (c4 : 0 ≤ l2) (c5 : 0 ≤ (-1) * l2 + 60) (c6 : 0 ≤ l3) (c7 : 0 ≤ (-1) * l3 + 60) (c8 : 0 ≤ i) (c9 : 0 ≤ (-1) * i + 60) (c10 : 0 ≤ j) (c11 : 0 ≤ (-1) * j + 60) (c12 : 0 ≤ m) (c13 : 0 ≤ (-1) * m + 60) (c14 : 0 ≤ l1 + (-1) * i + (-1) * m) (c15 : 0 ≤ l2 + (-1) * j + (-1) * m) (c16 : 0 ≤ j + (-1) * i + (-1)) (c17 : 0 ≤ k) (c18 : 0 ≤ m + (-1) * k + (-1)) (c19 : 0 ≤ q + (-1) * j + (-1) * m + k + (-119)) (c20 : 0 ≤ j + m + (-1) * k + (-1) * q + 119) (c21 : 0 ≤ z + 9223372036854775808) (c22 : 0 ≤ (-1) * z + 9223372036854775807) : p_GD a0 a1 a2 a3 (m_up nn q z) (l0 + 64 * l1 + 4096 * l2 + 262144 * l3 + 16777216 * i + 1073741824 * j + 68719476736 * m + 70368744177664 * k + 109951162777600) := by
  have h := g_rd1 (t := 1) (u := 2) (i := i) (j := j) (m := m) (l0 := l0) (l1 := l1) (l2 := l2) (l3 := l3) (k := k) (z := z) (q := q) p0 (by omega) p1 (by omega) (by unfold m_rg; omega) (by omega) (by omega) (by omega) (by decide) (by decide) (by decide) (by decide) (by rw [m_s1]; omega) (by rw [m_s2]; omega) (by omega) (by omega) (by omega) (by omega)
  exact m_eqv (P := fun y => p_GD a0 a1 a2 a3 (m_up nn q z) y) h (by omega)
theorem k_ra212 {a0 : Int → Int} {a1 : Int → Int} {a2 : Int → Int} {a3 : Int → Int} {nn : Int → Int} {i j m k l0 l1 l2 l3 : Int} (p0 : p_GA a0 a1 a2 a3 nn (l0 + 64 * l1 + 4096 * l2 + 262144 * l3 + 16777216 * i + 1073741824 * j + 68719476736 * m + 70368744177664 * k + 39582418599936)) (c0 : 0 ≤ l0) (c1 : 0 ≤ (-1) * l0 + 60) (c2 : 0 ≤ l1) (c3 : 0 ≤ (-1) * l1 + 60) (c4 : 0 ≤ l2) (c5 : 0 ≤ (-1) * l2 + 60) (c6 : 0 ≤ l3) (c7 : 0 ≤ (-1) * l3 + 60) (c8 : 0 ≤ i) (c9 : 0 ≤ (-1) * i + 60) (c10 : 0 ≤ j) (c11 : 0 ≤ (-1) * j + 60) (c12 : 0 ≤ m) (c13 : 0 ≤ (-1) * m + 60) (c14 : 0 ≤ l1 + (-1) * i + (-1) * m) (c15 : 0 ≤ l2 + (-1) * j + (-1) * m) (c16 : 0 ≤ k + (-1) * m) (c17 : 0 ≤ (-1) * k + 60) : p_TQ a0 a1 a2 a3 nn (l0 + 64 * l1 + 4096 * l2 + 262144 * l3) := by
  exact g_ra2 (t := 1) (u := 2) (i := i) (j := j) (m := m) (l0 := l0) (l1 := l1) (l2 := l2) (l3 := l3) (k := k) p0 (by omega) (by unfold m_rg; omega) (by omega) (by omega) (by omega) (by decide) (by decide) (by decide) (by decide) (by rw [m_s1]; omega) (by rw [m_s2]; omega) (by omega) rfl
theorem k_rd212 {a0 : Int → Int} {a1 : Int → Int} {a2 : Int → Int} {a3 : Int → Int} {nn : Int → Int} {i j m k l0 l1 l2 l3 : Int} (p0 : p_GD a0 a1 a2 a3 nn (l0 + 64 * l1 + 4096 * l2 + 262144 * l3 + 16777216 * i + 1073741824 * j + 68719476736 * m + 70368744177664 * k + 39582418599936)) (c0 : 0 ≤ l0) (c1 : 0 ≤ (-1) * l0 + 60) (c2 : 0 ≤ l1) (c3 : 0 ≤ (-1) * l1 + 60) (c4 : 0 ≤ l2) (c5 : 0 ≤ (-1) * l2 + 60) (c6 : 0 ≤ l3) (c7 : 0 ≤ (-1) * l3 + 60) (c8 : 0 ≤ i) (c9 : 0 ≤ (-1) * i + 60) (c10 : 0 ≤ j) (c11 : 0 ≤ (-1) * j + 60) (c12 : 0 ≤ m) (c13 : 0 ≤ (-1) * m + 60) (c14 : 0 ≤ l1 + (-1) * i + (-1) * m) (c15 : 0 ≤ l2 + (-1) * j + (-1) * m) (c16 : 0 ≤ k + (-1) * m) (c17 : 0 ≤ (-1) * k + 60) : p_TQ a0 a1 a2 a3 nn (l0 + 64 * l1 + 4096 * l2 + 262144 * l3) := by
  exact g_rd2 (t := 1) (u := 2) (i := i) (j := j) (m := m) (l0 := l0) (l1 := l1) (l2 := l2) (l3 := l3) (k := k) p0 (by omega) (by unfold m_rg; omega) (by omega) (by omega) (by omega) (by decide) (by decide) (by decide) (by decide) (by rw [m_s1]; omega) (by rw [m_s2]; omega) (by omega) rfl
theorem k_pc13 {a0 : Int → Int} {a1 : Int → Int} {a2 : Int → Int} {a3 : Int → Int} {nn : Int → Int} {s d m l0 l1 l2 l3 : Int} (i1 : 0 ≤ s) (i2 : 0 ≤ d) (i3 : 0 ≤ m) (p0 : p_TQ a0 a1 a2 a3 nn (l0 + 64 * l1 + 4096 * l2 + 262144 * l3)) (c0 : 0 ≤ l0) (c1 : 0 ≤ (-1) * l0 + 60) (c2 : 0 ≤ l1) (c3 : 0 ≤ (-1) * l1 + 60) (c4 : 0 ≤ l2) (c5 : 0 ≤ (-1) * l2 + 60) (c6 : 0 ≤ l3) (c7 : 0 ≤ (-1) * l3 + 60) (c8 : 0 ≤ s) (c9 : 0 ≤ d) (c10 : 0 ≤ m) (c11 : 0 ≤ l1 + (-1) * s + (-1) * m) (c12 : 0 ≤ l3 + (-1) * d + (-1) * m) : p_PP a0 a1 a2 (m_cpx a1 a3 s d m) nn (l0 + 64 * l1 + 4096 * l2 + 262144 * l3 + 16777216 * s + 1073741824 * d + 68719476736 * m + 57174604644352) := by
  obtain ⟨k0, k1, k2, k3, e, r, H⟩ := p0
  have rr := r
  unfold m_rg at rr
  obtain ⟨rfl, rfl, rfl, rfl⟩ : l0 = k0 ∧ l1 = k1 ∧ l2 = k2 ∧ l3 = k3 := by omega
  refine ⟨l0, l1, l2, l3, s, d, m, 1, 3, by omega, (by unfold m_rg; omega), by omega, by omega, by omega, by decide, by decide, by decide, by decide, (by rw [m_s1]; omega), (by rw [m_s3]; omega), m_Qi (fun q a b _ => m_Qc0 H q a b trivial) (fun q a b _ => m_Qc1 H q a b trivial) (fun q a b _ => m_Qc2 H q a b trivial) (fun q a b f => by unfold m_cpx; rw [if_neg (fun z => f ⟨rfl, z.1, z.2⟩)]; exact m_Qc3 H q a b trivial), fun q a b => ?_⟩
  rw [m_s3]
  unfold m_cpx
  rw [if_pos ⟨a, b⟩, m_Qc1 H (s + (q - d)) (by omega) (by omega) trivial, show (60 * 1 + (s + (q - d)) : Int) = 60 * 1 + s + q - d by omega]
theorem k_ra013 {a0 : Int → Int} {a1 : Int → Int} {a2 : Int → Int} {a3 : Int → Int} {nn : Int → Int} {i j m r l0 l1 l2 l3 : Int} (p0 : p_PP a0 a1 a2 a3 nn (l0 + 64 * l1 + 4096 * l2 + 262144 * l3 + 16777216 * i + 1073741824 * j + 68719476736 * m + 57174604644352)) (c0 : 0 ≤ l0) (c1 : 0 ≤ (-1) * l0 + 60) (c2 : 0 ≤ l1) (c3 : 0 ≤ (-1) * l1 + 60) (c4 : 0 ≤ l2) (c5 : 0 ≤ (-1) * l2 + 60) (c6 : 0 ≤ l3) (c7 : 0 ≤ (-1) * l3 + 60) (c8 : 0 ≤ i) (c9 : 0 ≤ (-1) * i + 60) (c10 : 0 ≤ j) (c11 : 0 ≤ (-1) * j + 60) (c12 : 0 ≤ m) (c13 : 0 ≤ (-1) * m + 60) (c14 : 0 ≤ l1 + (-1) * i + (-1) * m) (c15 : 0 ≤ l3 + (-1) * j + (-1) * m) (c16 : 0 ≤ r) (c17 : 0 ≤ (-1) * r) (c18 : 0 ≤ i + (-1) * j) : p_GA a0 a1 a2 a3 nn (l0 + 64 * l1 + 4096 * l2 + 262144 * l3 + 16777216 * i + 1073741824 * j + 68719476736 * m + 57174604644352) := by
  exact g_ra0 (t := 1) (u := 3) (i := i) (j := j) (m := m) (l0 := l0) (l1 := l1) (l2 := l2) (l3 := l3) p0 (by omega) (by unfold m_rg; omega) (by omega) (by omega) (by omega) (by decide) (by decide) (by decide) (by decide) (by rw [m_s1]; omega) (by rw [m_s3]; omega) (by omega)
theorem k_rd013 {a0 : Int → Int} {a1 : Int → Int} {a2 : Int → Int} {a3 : Int → Int} {nn : Int → Int} {i j m r l0 l1 l2 l3 : Int} (p0 : p_PP a0 a1 a2 a3 nn (l0 + 64 * l1 + 4096 * l2 + 262144 * l3 + 16777216 * i + 1073741824 * j + 68719476736 * m + 57174604644352)) (c0 : 0 ≤ l0) (c1 : 0 ≤ (-1) * l0 + 60) (c2 : 0 ≤ l1) (c3 : 0 ≤ (-1) * l1 + 60) (c4 : 0 ≤ l2) (c5 : 0 ≤ (-1) * l2 + 60) (c6 : 0 ≤ l3) (c7 : 0 ≤ (-1) * l3 + 60) (c8 : 0 ≤ i) (c9 : 0 ≤ (-1) * i + 60) (c10 : 0 ≤ j) (c11 : 0 ≤ (-1) * j + 60) (c12 : 0 ≤ m) (c13 : 0 ≤ (-1) * m + 60) (c14 : 0 ≤ l1 + (-1) * i + (-1) * m) (c15 : 0 ≤ l3 + (-1) * j + (-1) * m) (c16 : 0 ≤ r + (-1)) (c17 : 0 ≤ j + (-1) * i + (-1)) : p_GD a0 a1 a2 a3 nn (l0 + 64 * l1 + 4096 * l2 + 262144 * l3 + 16777216 * i + 1073741824 * j + 68719476736 * m + 57174604644352) := by
  exact g_rd0 (t := 1) (u := 3) (i := i) (j := j) (m := m) (l0 := l0) (l1 := l1) (l2 := l2) (l3 := l3) p0 (by omega) (by unfold m_rg; omega) (by omega) (by omega) (by omega) (by decide) (by decide) (by decide) (by decide) (by rw [m_s1]; omega) (by rw [m_s3]; omega) (by omega)
theorem k_ra113 {a0 : Int → Int} {a1 : Int → Int} {a2 : Int → Int} {a3 : Int → Int} {nn : Int → Int} {q z i j m k l0 l1 l2 l3 : Int} (i1 : 0 ≤ q) (i2 : q < 240) (p0 : p_GA a0 a1 a2 a3 nn (l0 + 64 * l1 + 4096 * l2 + 262144 * l3 + 16777216 * i + 1073741824 * j + 68719476736 * m + 70368744177664 * k + 57174604644352)) (p1 : p_NL nn (i + k + 256 * z + 2361183241434822606908)) (c0 : 0 ≤ l0) (c1 : 0 ≤ (-1) * l0 + 60) (c2 : 0 ≤ l1) (c3 : 0 ≤ (-1) * l1 + 60) (c4 : 0 ≤ l2) (c5 : 0 ≤ (-1) * l2 + 60) (c6 : 0 ≤ l3) (c7 : 0 ≤ (-1) * l3 + 60) (c8 : 0 ≤ i) (c9 : 0 ≤ (-1) * i + 60) (c10 : 0 ≤ j) (c11 : 0 ≤ (-1) * j + 60) (c12 : 0 ≤ m) (c13 : 0 ≤ (-1) * m + 60) (c14 : 0 ≤ l1 + (-1) * i + (-1) * m) (c15 : 0 ≤ l3 + (-1) * j + (-1) * m) (c16 : 0 ≤ i + (-1) * j) (c17 : 0 ≤ k) (c18 : 0 ≤ m + (-1) * k + (-1)) (c19 : 0 ≤ q + (-1) * j + (-1) * k + (-180)) (c20 : 0 ≤ j + k + (-1) * q + 180) (c21 : 0 ≤ z + 9223372036854775808) (c22 : 0 ≤ (-1) * z + 9223372036854775807) : p_GA a0 a1 a2 a3 (m_up nn q z) (l0 + 64 * l1 + 4096 * l2 + 262144 * l3 + 16777216 * i + 1073741824 * j + 68719476736 * m + 70368744177664 * k + 127543348822016) := by
  have h := g_ra1 (t := 1) (u := 3) (i := i) (j := j) (m := m) (l0 := l0) (l1 := l1) (l2 := l2) (l3 := l3) (k := k) (z := z) (q := q) p0 (by omega) p1 (by omega) (by unfold m_rg; omega) (by omega) (by omega) (by omega) (by decide) (by decide) (by decide) (by decide) (by rw [m_s1]; omega) (by rw [m_s3]; omega) (by omega) (by omega) (by omega) (by omega)
  exact m_eqv (P := fun y => p_GA a0 a1 a2 a3 (m_up nn q z) y) h (by omega)
theorem k_rd113 {a0 : Int → Int} {a1 : Int → Int} {a2 : Int → Int} {a3 : Int → Int} {nn : Int → Int} {q z i j m k l0 l1 l2 l3 : Int} (i1 : 0 ≤ q) (i2 : q < 240) (p0 : p_GD a0 a1 a2 a3 nn (l0 + 64 * l1 + 4096 * l2 + 262144 * l3 + 16777216 * i + 1073741824 * j + 68719476736 * m + 70368744177664 * k + 57174604644352)) (p1 : p_NL nn (i + m + (-1) * k + 256 * z + 2361183241434822606907)) (c0 : 0 ≤ l0) (c1 : 0 ≤ (-1) * l0 + 60) (c2 : 0 ≤ l1) (c3 : 0 ≤ (-1) * l1 + 60) (c4 : 0 ≤ l2) (c5 : 0 ≤ (-1) * l2 + 60) (c6 : 0 ≤ l3) (c7 : 0 ≤ (-1) * l3 + 60) (c8 : 0 ≤ i) (c9 : 0 ≤ (-1) * i + 60) (c10 : 0 ≤ j) (c11 : 0 ≤ (-1) * j + 60) (c12 : 0 ≤ m) (c13 : 0 ≤ (-1) * m + 60) (c14 : 0 ≤ l1 + (-1) * i + (-1) * m) (c15 : 0 ≤ l3 + (-1) * j + (-1) * m) (c16 : 0 ≤ j + (-1) * i + (-1)) (c17 : 0 ≤ k) (c18 : 0 ≤ m + (-1) * k + (-1)) (c19 : 0 ≤ q + (-1) * j + (-1) * m + k + (-179)) (c20 : 0 ≤ j + m + (-1) * k + (-1) * q + 179) (c21 : 0 ≤ z + 9223372036854775808) (c22 : 0 ≤ (-1) * z + 9223372036854775807) : p_GD a0 a1 a2 a3 (m_up nn q z) (l0 + 64 * l1 + 4096 * l2 + 262144 * l3 + 16777216 * i + 1073741824 * j + 68719476736 * m + 70368744177664 * k + 127543348822016) := by
  have h := g_rd1 (t := 1) (u := 3) (i := i) (j := j) (m := m) (l0 := l0) (l1 := l1) (l2 := l2) (l3 := l3) (k := k) (z := z) (q := q) p0 (by omega) p1 (by omega) (by unfold m_rg; omega) (by omega) (by omega) (by omega) (by decide) (by decide) (by decide) (by decide) (by rw [m_s1]; omega) (by rw [m_s3]; omega) (by omega) (by omega) (by omega) (by omega)
  exact m_eqv (P := fun y => p_GD a0 a1 a2 a3 (m_up nn q z) y) h (by omega)
theorem k_ra213 {a0 : Int → Int} {a1 : Int → Int} {a2 : Int → Int} {a3 : Int → Int} {nn : Int → Int} {i j m k l0 l1 l2 l3 : Int} (p0 : p_GA a0 a1 a2 a3 nn (l0 + 64 * l1 + 4096 * l2 + 262144 * l3 + 16777216 * i + 1073741824 * j + 68719476736 * m + 70368744177664 * k + 57174604644352)) (c0 : 0 ≤ l0) (c1 : 0 ≤ (-1) * l0 + 60) (c2 : 0 ≤ l1) (c3 : 0 ≤ (-1) * l1 + 60) (c4 : 0 ≤ l2) (c5 : 0 ≤ (-1) * l2 + 60) (c6 : 0 ≤ l3) (c7 : 0 ≤ (-1) * l3 + 60) (c8 : 0 ≤ i) (c9 : 0 ≤ (-1) * i + 60) (c10 : 0 ≤ j) (c11 : 0 ≤ (-1) * j + 60) (c12 : 0 ≤ m) (c13 : 0 ≤ (-1) * m + 60) (c14 : 0 ≤ l1 + (-1) * i + (-1) * m) (c15 : 0 ≤ l3 + (-1) * j + (-1) * m) (c16 : 0 ≤ k + (-1) * m) (c17 : 0 ≤ (-1) * k + 60) : p_TQ a0 a1 a2 a3 nn (l0 + 64 * l1 + 4096 * l2 + 262144 * l3) := by
  exact g_ra2 (t := 1) (u := 3) (i := i) (j := j) (m := m) (l0 := l0) (l1 := l1) (l2 := l2) (l3 := l3) (k := k) p0 (by omega) (by unfold m_rg; omega) (by omega) (by omega) (by omega) (by decide) (by decide) (by decide) (by decide) (by rw [m_s1]; omega) (by rw [m_s3]; omega) (by omega) rfl
theorem k_rd213 {a0 : Int → Int} {a1 : Int → Int} {a2 : Int → Int} {a3 : Int → Int} {nn : Int → Int} {i j m k l0 l1 l2 l3 : Int} (p0 : p_GD a0 a1 a2 a3 nn (l0 + 64 * l1 + 4096 * l2 + 262144 * l3 + 16777216 * i + 1073741824 * j + 68719476736 * m + 70368744177664 * k + 57174604644352)) (c0 : 0 ≤ l0) (c1 : 0 ≤ (-1) * l0 + 60) (c2 : 0 ≤ l1) (c3 : 0 ≤ (-1) * l1 + 60) (c4 : 0 ≤ l2) (c5 : 0 ≤ (-1) * l2 + 60) (c6 : 0 ≤ l3) (c7 : 0 ≤ (-1) * l3 + 60) (c8 : 0 ≤ i) (c9 : 0 ≤ (-1) * i + 60) (c10 : 0 ≤ j) (c11 : 0 ≤ (-1) * j + 60) (c12 : 0 ≤ m) (c13 : 0 ≤ (-1) * m + 60) (c14 : 0 ≤ l1 + (-1) * i + (-1) * m) (c15 : 0 ≤ l3 + (-1) * j + (-1) * m) (c16 : 0 ≤ k + (-1) * m) (c17 : 0 ≤ (-1) * k + 60) : p_TQ a0 a1 a2 a3 nn (l0 + 64 * l1 + 4096 * l2 + 262144 * l3) := by
  exact g_rd2 (t := 1) (u := 3) (i := i) (j := j) (m := m) (l0 := l0) (l1 := l1) (l2 := l2) (l3 := l3) (k := k) p0 (by omega) (by unfold m_rg; omega) (by omega) (by omega) (by omega) (by decide) (by decide) (by decide) (by decide) (by rw [m_s1]; omega) (by rw [m_s3]; omega) (by omega) rfl
theorem k_pc20 {a0 : Int → Int} {a1 : Int → Int} {a2 : Int → Int} {a3 : Int → Int} {nn : Int → Int} {s d m l0 l1 l2 l3 : Int} (i1 : 0 ≤ s) (i2 : 0 ≤ d) (i3 : 0 ≤ m) (p0 : p_TQ a0 a1 a2 a3 nn (l0 + 64 * l1 + 4096 * l2 + 262144 * l3)) (c0 : 0 ≤ l0) (c1 : 0 ≤ (-1) * l0 + 60) (c2 : 0 ≤ l1) (c3 : 0 ≤ (-1) * l1 + 60) (c4 : 0 ≤ l2) (c5 : 0 ≤ (-1) * l2 + 60) (c6 : 0 ≤ l3) (c7 : 0 ≤ (-1) * l3 + 60) (c8 : 0 ≤ s) (c9 : 0 ≤ d) (c10 : 0 ≤ m) (c11 : 0 ≤ l2 + (-1) * s + (-1) * m) (c12 : 0 ≤ l0 + (-1) * d + (-1) * m) : p_PP (m_cpx a2 a0 s d m) a1 a2 a3 nn (l0 + 64 * l1 + 4096 * l2 + 262144 * l3 + 16777216 * s + 1073741824 * d + 68719476736 * m + 8796093022208) := by
  obtain ⟨k0, k1, k2, k3, e, r, H⟩ := p0
  have rr := r
  unfold m_rg at rr
  obtain ⟨rfl, rfl, rfl, rfl⟩ : l0 = k0 ∧ l1 = k1 ∧ l2 = k2 ∧ l3 = k3 := by omega
  refine ⟨l0, l1, l2, l3, s, d, m, 2, 0, by omega, (by unfold m_rg; omega), by omega, by omega, by omega, by decide, by decide, by decide, by decide, (by rw [m_s2]; omega), (by rw [m_s0]; omega), m_Qi (fun q a b f => by unfold m_cpx; rw [if_neg (fun z => f ⟨rfl, z.1, z.2⟩)]; exact m_Qc0 H q a b trivial) (fun q a b _ => m_Qc1 H q a b trivial) (fun q a b _ => m_Qc2 H q a b trivial) (fun q a b _ => m_Qc3 H q a b trivial), fun q a b => ?_⟩
  rw [m_s0]
  unfold m_cpx
  rw [if_pos ⟨a, b⟩, m_Qc2 H (s + (q - d)) (by omega) (by omega) trivial, show (60 * 2 + (s + (q - d)) : Int) = 60 * 2 + s + q - d by omega]
theorem k_ra020 {a0 : Int → Int} {a1 : Int → Int} {a2 : Int → Int} {a3 : Int → Int} {nn : Int → Int} {i j m r l0 l1 l2 l3 : Int} (p0 : p_PP a0 a1 a2 a3 nn (l0 + 64 * l1 + 4096 * l2 + 262144 * l3 + 16777216 * i + 1073741824 * j + 68719476736 * m + 8796093022208)) (c0 : 0 ≤ l0) (c1 : 0 ≤ (-1) * l0 + 60) (c2 : 0 ≤ l1) (c3 : 0 ≤ (-1) * l1 + 60) (c4 : 0 ≤ l2) (c5 : 0 ≤ (-1) * l2 + 60) (c6 : 0 ≤ l3) (c7 : 0 ≤ (-1) * l3 + 60) (c8 : 0 ≤ i) (c9 : 0 ≤ (-1) * i + 60) (c10 : 0 ≤ j) (c11 : 0 ≤ (-1) * j + 60) (c12 : 0 ≤ m) (c13 : 0 ≤ (-1) * m + 60) (c14 : 0 ≤ l2 + (-1) * i + (-1) * m) (c15 : 0 ≤ l0 + (-1) * j + (-1) * m) (c16 : 0 ≤ r) (c17 : 0 ≤ (-1) * r) (c18 : 0 ≤ i + (-1) * j) : p_GA a0 a1 a2 a3 nn (l0 + 64 * l1 + 4096 * l2 + 262144 * l3 + 16777216 * i + 1073741824 * j + 68719476736 * m + 8796093022208) := by
  exact g_ra0 (t := 2) (u := 0) (i := i) (j := j) (m := m) (l0 := l0) (l1 := l1) (l2 := l2) (l3 := l3) p0 (by omega) (by unfold m_rg; omega) (by omega) (by omega) (by omega) (by decide) (by decide) (by decide) (by decide) (by rw [m_s2]; omega) (by rw [m_s0]; omega) (by omega)
theorem k_rd020 {a0 : Int → Int} {a1 : Int → Int} {a2 : Int → Int} {a3 : Int → Int} {nn : Int → Int} {i j m r l0 l1 l2 l3 : Int} (p0 : p_PP a0 a1 a2 a3 nn (l0 + 64 * l1 + 4096 * l2 + 262144 * l3 + 16777216 * i + 1073741824 * j + 68719476736 * m + 8796093022208)) (c0 : 0 ≤ l0) (c1 : 0 ≤ (-1) * l0 + 60) (c2 : 0 ≤ l1) (c3 : 0 ≤ (-1) * l1 + 60) (c4 : 0 ≤ l2) (c5 : 0 ≤ (-1) * l2 + 60) (c6 : 0 ≤ l3) (c7 : 0 ≤ (-1) * l3 + 60) (c8 : 0 ≤ i) (c9 : 0 ≤ (-1) * i + 60) (c10 : 0 ≤ j) (c11 : 0 ≤ (-1) * j + 60) (c12 : 0 ≤ m) (c13 : 0 ≤ (-1) * m + 60) (c14 : 0 ≤ l2 + (-1) * i + (-1) * m) (c15 : 0 ≤ l0 + (-1) * j + (-1) * m) (c16 : 0 ≤ r + (-1)) (c17 : 0 ≤ j + (-1) * i + (-1)) : p_GD a0 a1 a2 a3 nn (l0 + 64 * l1 + 4096 * l2 + 262144 * l3 + 16777216 * i + 1073741824 * j + 68719476736 * m + 8796093022208) := by
  exact g_rd0 (t := 2) (u := 0) (i := i) (j := j) (m := m) (l0 := l0) (l1 := l1) (l2 := l2) (l3 := l3) p0 (by omega) (by unfold m_rg; omega) (by omega) (by omega) (by omega) (by decide) (by decide) (by decide) (by decide) (by rw [m_s2]; omega) (by rw [m_s0]; omega) (by omega)
theorem k_ra120 {a0 : Int → Int} {a1 : Int → Int} {a2 : Int → Int} {a3 : Int → Int} {nn : Int → Int} {q z i j m k l0 l1 l2 l3 : Int} (i1 : 0 ≤ q) (i2 : q < 240) (p0 : p_GA a0 a1 a2 a3 nn (l0 + 64 * l1 + 4096 * l2 + 262144 * l3 + 16777216 * i + 1073741824 * j + 68719476736 * m + 70368744177664 * k + 8796093022208)) (p1 : p_NL nn (i + k + 256 * z + 2361183241434822606968)) (c0 : 0 ≤ l0) (c1 : 0 ≤ (-1) * l0 + 60) (c2 : 0 ≤ l1) (c3 : 0 ≤ (-1) * l1 + 60) (c4 : 0 ≤ l2) (c5 : 0 ≤ (-1) * l2 + 60) (c6 : 0 ≤ l3) (c7 : 0 ≤ (-1) * l3 + 60) (c8 : 0 ≤ i) (c9 : 0 ≤ (-1) * i + 60) (c10 : 0 ≤ j) (c11 : 0 ≤ (-1) * j + 60) (c12 : 0 ≤ m) (c13 : 0 ≤ (-1) * m + 60) (c14 : 0 ≤ l2 + (-1) * i + (-1) * m) (c15 : 0 ≤ l0 + (-1) * j + (-1) * m) (c16 : 0 ≤ i + (-1) * j) (c17 : 0 ≤ k) (c18 : 0 ≤ m + (-1) * k + (-1)) (c19 : 0 ≤ q + (-1) * j + (-1) * k) (c20 : 0 ≤ j + k + (-1) * q) (c21 : 0 ≤ z + 9223372036854775808) (c22 : 0 ≤ (-1) * z + 9223372036854775807) : p_GA a0 a1 a2 a3 (m_up nn q z) (l0 + 64 * l1 + 4096 * l2 + 262144 * l3 + 16777216 * i + 1073741824 * j + 68719476736 * m + 70368744177664 * k + 79164837199872) := by
  have h := g_ra1 (t := 2) (u := 0) (i := i) (j := j) (m := m) (l0 := l0) (l1 := l1) (l2 := l2) (l3 := l3) (k := k) (z := z) (q := q) p0 (by omega) p1 (by omega) (by unfold m_rg; omega) (by omega) (by omega) (by omega) (by decide) (by decide) (by decide) (by decide) (by rw [m_s2]; omega) (by rw [m_s0]; omega) (by omega) (by omega) (by omega) (by omega)
  exact m_eqv (P := fun y => p_GA a0 a1 a2 a3 (m_up nn q z) y) h (by omega)
theorem k_rd120 {a0 : Int → Int} {a1 : Int → Int} {a2 : Int → Int} {a3 : Int → Int} {nn : Int → Int} {q z i j m k l0 l1 l2 l3 : Int} (i1 : 0 ≤ q) (i2 : q < 240) (p0 : p_GD a0 a1 a2 a3 nn (l0 + 64 * l1 + 4096 * l2 + 262144 * l3 + 16777216 * i + 1073741824 * j + 68719476736 * m + 70368744177664 * k + 8796093022208)) (p1 : p_NL nn (i + m + (-1) * k + 256 * z + 2361183241434822606967)) (c0 : 0 ≤ l0) (c1 : 0 ≤ (-1) * l0 + 60) (c2 : 0 ≤ l1) (c3 : 0 ≤ (-1) * l1 + 60) (c4 : 0 ≤ l2) (c5 : 0 ≤ (-1) * l2 + 60) (c6 : 0 ≤ l3) (c7 : 0 ≤ (-1) * l3 + 60) (c8 : 0 ≤ i) (c9 : 0 ≤ (-1) * i + 60) (c10 : 0 ≤ j) (c11 : 0 ≤ (-1) * j + 60) (c12 : 0 ≤ m) (c13 : 0 ≤ (-1) * m + 60) (c14 : 0 ≤ l2 + (-1) * i + (-1) * m) (c15 : 0 ≤ l0 + (-1) * j + (-1) * m) (c16 : 0 ≤ j + (-1) * i + (-1)) (c17 : 0 ≤ k) (c18 : 0 ≤ m + (-1) * k + (-1)) (c19 : 0 ≤ q + (-1) * j + (-1) * m + k + 1) (c20 : 0 ≤ j + m + (-1) * k + (-1) * q + (-1)) (c21 : 0 ≤ z + 9223372036854775808) (c22 : 0 ≤ (-1) * z + 9223372036854775807) : p_GD a0 a1 a2 a3 (m_up nn q z) (l0 + 64 * l1 + 4096 * l2 + 262144 * l3 + 16777216 * i + 1073741824 * j + 68719476736 * m + 70368744177664 * k + 79164837199872) := by
  have h := g_rd1 (t := 2) (u := 0) (i := i) (j := j) (m := m) (l0 := l0) (l1 := l1) (l2 := l2) (l3 := l3) (k := k) (z := z) (q := q) p0 (by omega) p1 (by omega) (by unfold m_rg; omega) (by omega) (by omega) (by omega) (by decide) (by decide) (by decide) (by decide) (by rw [m_s2]; omega) (by rw [m_s0]; omega) (by omega) (by omega) (by omega) (by omega)
  exact m_eqv (P := fun y => p_GD a0 a1 a2 a3 (m_up nn q z) y) h (by omega)
theorem k_ra220 {a0 : Int → Int} {a1 : Int → Int} {a2 : Int → Int} {a3 : Int → Int} {nn : Int → Int} {i j m k l0 l1 l2 l3 : Int} (p0 : p_GA a0 a1 a2 a3 nn (l0 + 64 * l1 + 4096 * l2 + 262144 * l3 + 16777216 * i + 1073741824 * j + 68719476736 * m + 70368744177664 * k + 8796093022208)) (c0 : 0 ≤ l0) (c1 : 0 ≤ (-1) * l0 + 60) (c2 : 0 ≤ l1) (c3 : 0 ≤ (-1) * l1 + 60) (c4 : 0 ≤ l2) (c5 : 0 ≤ (-1) * l2 + 60) (c6 : 0 ≤ l3) (c7 : 0 ≤ (-1) * l3 + 60) (c8 : 0 ≤ i) (c9 : 0 ≤ (-1) * i + 60) (c10 : 0 ≤ j) (c11 : 0 ≤ (-1) * j + 60) (c12 : 0 ≤ m) (c13 : 0 ≤ (-1) * m + 60) (c14 : 0 ≤ l2 + (-1) * i + (-1) * m) (c15 : 0 ≤ l0 + (-1) * j + (-1) * m) (c16 : 0 ≤ k + (-1) * m) (c17 : 0 ≤ (-1) * k + 60) : p_TQ a0 a1 a2 a3 nn (l0 + 64 * l1 + 4096 * l2 + 262144 * l3) := by
  exact g_ra2 (t := 2) (u := 0) (i := i) (j := j) (m := m) (l0 := l0) (l1 := l1) (l2 := l2) (l3 := l3) (k := k) p0 (by omega) (by unfold m_rg; omega) (by omega) (by omega) (by omega) (by decide) (by decide) (by decide) (by decide) (by rw [m_s2]; omega) (by rw [m_s0]; omega) (by omega) rfl
theorem k_rd220 {a0 : Int → Int} {a1 : Int → Int} {a2 : Int → Int} {a3 : Int → Int} {nn : Int → Int} {i j m k l0 l1 l2 l3 : Int} (p0 : p_GD a0 a1 a2 a3 nn (l0 + 64 * l1 + 4096 * l2 + 262144 * l3 + 16777216 * i + 1073741824 * j + 68719476736 * m + 70368744177664 * k + 8796093022208)) (c0 : 0 ≤ l0) (c1 : 0 ≤ (-1) * l0 + 60) (c2 : 0 ≤ l1) (c3 : 0 ≤ (-1) * l1 + 60) (c4 : 0 ≤ l2) (c5 : 0 ≤ (-1) * l2 + 60) (c6 : 0 ≤ l3) (c7 : 0 ≤ (-1) * l3 + 60) (c8 : 0 ≤ i) (c9 : 0 ≤ (-1) * i + 60) (c10 : 0 ≤ j) (c11 : 0 ≤ (-1) * j + 60) (c12 : 0 ≤ m) (c13 : 0 ≤ (-1) * m + 60) (c14 : 0 ≤ l2 + (-1) * i + (-1) * m) (c15 : 0 ≤ l0 + (-1) * j + (-1) * m) (c16 : 0 ≤ k + (-1) * m) (c17 : 0 ≤ (-1) * k + 60) : p_TQ a0 a1 a2 a3 nn (l0 + 64 * l1 + 4096 * l2 + 262144 * l3) := by
  exact g_rd2 (t := 2) (u := 0) (i := i) (j := j) (m := m) (l0 := l0) (l1 := l1) (l2 := l2) (l3 := l3) (k := k) p0 (by omega) (by unfold m_rg; omega) (by omega) (by omega) (by omega) (by decide) (by decide) (by decide) (by decide) (by rw [m_s2]; omega) (by rw [m_s0]; omega) (by omega) rfl
theorem k_pc21 {a0 : Int → Int} {a1 : Int → Int} {a2 : Int → Int} {a3 : Int → Int} {nn : Int → Int} {s d m l0 l1 l2 l3 : Int} (i1 : 0 ≤ s) (i2 : 0 ≤ d) (i3 : 0 ≤ m) (p0 : p_TQ a0 a1 a2 a3 nn (l0 + 64 * l1 + 4096 * l2 + 262144 * l3)) (c0 : 0 ≤ l0) (c1 : 0 ≤ (-1) * l0 + 60) (c2 : 0 ≤ l1) (c3 : 0 ≤ (-1) * l1 + 60) (c4 : 0 ≤ l2) (c5 : 0 ≤ (-1) * l2 + 60) (c6 : 0 ≤ l3) (c7 : 0 ≤ (-1) * l3 + 60) (c8 : 0 ≤ s) (c9 : 0 ≤ d) (c10 : 0 ≤ m) (c11 : 0 ≤ l2 + (-1) * s + (-1) * m) (c12 : 0 ≤ l1 + (-1) * d + (-1) * m) : p_PP a0 (m_cpx a2 a1 s d m) a2 a3 nn (l0 + 64 * l1 + 4096 * l2 + 262144 * l3 + 16777216 * s + 1073741824 * d + 68719476736 * m + 26388279066624) := by
  obtain ⟨k0, k1, k2, k3, e, r, H⟩ := p0
  have rr := r
  unfold m_rg at rr
  obtain ⟨rfl, rfl, rfl, rfl⟩ : l0 = k0 ∧ l1 = k1 ∧ l2 = k2 ∧ l3 = k3 := by omega
  refine ⟨l0, l1, l2, l3, s, d, m, 2, 1, by omega, (by unfold m_rg; omega), by omega, by omega, by omega, by decide, by decide, by decide, by decide, (by rw [m_s2]; omega), (by rw [m_s1]; omega), m_Qi (fun q a b _ => m_Qc0 H q a b trivial) (fun q a b f => by unfold m_cpx; rw [if_neg (fun z => f ⟨rfl, z.1, z.2⟩)]; exact m_Qc1 H q a b trivial) (fun q a b _ => m_Qc2 H q a b trivial) (fun q a b _ => m_Qc3 H q a b trivial), fun q a b => ?_⟩
  rw [m_s1]
  unfold m_cpx
  rw [if_pos ⟨a, b⟩, m_Qc2 H (s + (q - d)) (by omega) (by omega) trivial, show (60 * 2 + (s + (q - d)) : Int) = 60 * 2 + s + q - d by omega]
theorem k_ra021 {a0 : Int → Int} {a1 : Int → Int} {a2 : Int → Int} {a3 : Int → Int} {nn : Int → Int} {i j m r l0 l1 l2 l3 : Int} (p0 : p_PP a0 a1 a2 a3 nn (l0 + 64 * l1 + 4096 * l2 + 262144 * l3 + 16777216 * i + 1073741824 * j + 68719476736 * m + 26388279066624)) (c0 : 0 ≤ l0) (c1 : 0 ≤ (-1) * l0 + 60) (c2 : 0 ≤ l1) (c3 : 0 ≤ (-1) * l1 + 60) (c4 : 0 ≤ l2) (c5 : 0 ≤ (-1) * l2 + 60) (c6 : 0 ≤ l3) (c7 : 0 ≤ (-1) * l3 + 60) (c8 : 0 ≤ i) (c9 : 0 ≤ (-1) * i + 60) (c10 : 0 ≤ j) (c11 : 0 ≤ (-1) * j + 60) (c12 : 0 ≤ m) (c13 : 0 ≤ (-1) * m + 60) (c14 : 0 ≤ l2 + (-1) * i + (-1) * m) (c15 : 0 ≤ l1 + (-1) * j + (-1) * m) (c16 : 0 ≤ r) (c17 : 0 ≤ (-1) * r) (c18 : 0 ≤ i + (-1) * j) : p_GA a0 a1 a2 a3 nn (l0 + 64 * l1 + 4096 * l2 + 262144 * l3 + 16777216 * i + 1073741824 * j + 68719476736 * m + 26388279066624) := by
  exact g_ra0 (t := 2) (u := 1) (i := i) (j := j) (m := m) (l0 := l0) (l1 := l1) (l2 := l2) (l3 := l3) p0 (by omega) (by unfold m_rg; omega) (by omega) (by omega) (by omega) (by decide) (by decide) (by decide) (by decide) (by rw [m_s2]; omega) (by rw [m_s1]; omega) (by omega)
theorem k_rd021 {a0 : Int → Int} {a1 : Int → Int} {a2 : Int → Int} {a3 : Int → Int} {nn : Int → Int} {i j m r l0 l1 l2 l3 : Int} (p0 : p_PP a0 a1 a2 a3 nn (l0 + 64 * l1 + 4096 * l2 + 262144 * l3 + 16777216 * i + 1073741824 * j + 68719476736 * m + 26388279066624)) (c0 : 0 ≤ l0) (c1 : 0 ≤ (-1) * l0 + 60) (c2 : 0 ≤ l1) (c3 : 0 ≤ (-1) * l1 + 60) (c4 : 0 ≤ l2) (c5 : 0 ≤ (-1) * l2 + 60) (c6 : 0 ≤ l3) (c7 : 0 ≤ (-1) * l3 + 60) (c8 : 0 ≤ i) (c9 : 0 ≤ (-1) * i + 60) (c10 : 0 ≤ j) (c11 : 0 ≤ (-1) * j + 60) (c12 : 0 ≤ m) (c13 : 0 ≤ (-1) * m + 60) (c14 : 0 ≤ l2 + (-1) * i + (-1) * m) (c15 : 0 ≤ l1 + (-1) * j + (-1) * m) (c16 : 0 ≤ r + (-1)) (c17 : 0 ≤ j + (-1) * i + (-1)) : p_GD a0 a1 a2 a3 nn (l0 + 64 * l1 + 4096 * l2 + 262144 * l3 + 16777216 * i + 1073741824 * j + 68719476736 * m + 26388279066624) := by
  exact g_rd0 (t := 2) (u := 1) (i := i) (j := j) (m := m) (l0 := l0) (l1 := l1) (l2 := l2) (l3 := l3) p0 (by omega) (by unfold m_rg; omega) (by omega) (by omega) (by omega) (by decide) (by decide) (by decide) (by decide) (by rw [m_s2]; omega) (by rw [m_s1]; omega) (by omega)
theorem k_ra121 {a0 : Int → Int} {a1 : Int → Int} {a2 : Int → Int} {a3 : Int → Int} {nn : Int → Int} {q z i j m k l0 l1 l2 l3 : Int} (i1 : 0 ≤ q) (i2 : q < 240) (p0 : p_GA a0 a1 a2 a3 nn (l0 + 64 * l1 + 4096 * l2 + 262144 * l3 + 16777216 * i + 1073741824 * j + 68719476736 * m + 70368744177664 * k + 26388279066624)) (p1 : p_NL nn (i + k + 256 * z + 2361183241434822606968)) (c0 : 0 ≤ l0) (c1 : 0 ≤ (-1) * l0 + 60) (c2 : 0 ≤ l1) (c3 : 0 ≤ (-1) * l1 + 60) (c4 : 0 ≤ l2) (c5 : 0 ≤ (-1) * l2 + 60) (c6 : 0 ≤ l3) (c7 : 0 ≤ (-1) * l3 + 60) (c8 : 0 ≤ i) (c9 : 0 ≤ (-1) * i + 60) (c10 : 0 ≤ j) (c11 : 0 ≤ (-1) * j + 60) (c12 : 0 ≤ m) (c13 : 0 ≤ (-1) * m + 60) (c14 : 0 ≤ l2 + (-1) * i + (-1) * m) (c15 : 0 ≤ l1 + (-1) * j + (-1) * m) (c16 : 0 ≤ i + (-1) * j) (c17 : 0 ≤ k) (c18 : 0 ≤ m + (-1) * k + (-1)) (c19 : 0 ≤ q + (-1) * j + (-1) * k + (-60)) (c20 : 0 ≤ j + k + (-1) * q + 60) (c21 : 0 ≤ z + 9223372036854775808) (c22 : 0 ≤ (-1) * z + 9223372036854775807) : p_GA a0 a1 a2 a3 (m_up nn q z) (l0 + 64 * l1 + 4096 * l2 + 262144 * l3 + 16777216 * i + 1073741824 * j + 68719476736 * m + 70368744177664 * k + 96757023244288) := by
  have h := g_ra1 (t := 2) (u := 1) (i := i) (j := j) (m := m) (l0 := l0) (l1 := l1) (l2 := l2) (l3 := l3) (k := k) (z := z) (q := q) p0 (by omega) p1 (by omega) (by unfold m_rg; omega) (by omega) (by omega) (by omega) (by decide) (by decide) (by decide) (by decide) (by rw [m_s2]; omega) (by rw [m_s1]; omega) (by omega) (by omega) (by omega) (by omega)
  exact m_eqv (P := fun y => p_GA a0 a1 a2 a3 (m_up nn q z) y) h (by omega)
theorem k_rd121 {a0 : Int → Int} {a1 : Int → Int} {a2 : Int → Int} {a3 : Int → Int} {nn : Int → Int} {q z i j m k l0 l1 l2 l3 : Int} (i1 : 0 ≤ q) (i2 : q < 240) (p0 : p_GD a0 a1 a2 a3 nn (l0 + 64 * l1 + 4096 * l2 + 262144 * l3 + 16777216 * i + 1073741824 * j + 68719476736 * m + 70368744177664 * k + 26388279066624)) (p1 : p_NL nn (i + m + (-1) * k + 256 * z + 2361183241434822606967)) (c0 : 0 ≤ l0) (c1 : 0 ≤ (-1) * l0 + 60) (c2 : 0 ≤ l1) (c3 : 0 ≤ (-1) * l1 + 60) (c4 : 0 ≤ l2) (c5 : 0 ≤ (-1) * l2 + 60) (c6 : 0 ≤ l3) (c7 : 0 ≤ (-1) * l3 + 60) (c8 : 0 ≤ i) (c9 : 0 ≤ (-1) * i + 60) (c10 : 0 ≤ j) (c11 : 0 ≤ (-1) * j + 60) (c12 : 0 ≤ m) (c13 : 0 ≤ (-1) * m + 60) (c14 : 0 ≤ l2 + (-1) * i + (-1) * m) (c15 : 0 ≤ l1 + (-1) * j + (-1) * m) (c16 : 0 ≤ j + (-1) * i + (-1)) (c17 : 0 ≤ k) (c18 : 0 ≤ m + (-1) * k + (-1)) (c19 : 0 ≤ q + (-1) * j + (-1) * m + k + (-59)) (c20 : 0 ≤ j + m + (-1) * k + (-1) * q + 59) (c21 : 0 ≤ z + 9223372036854775808) (c22 : 0 ≤ (-1) * z + 9223372036854775807) : p_GD a0 a1 a2 a3 (m_up nn q z) (l0 + 64 * l1 + 4096 * l2 + 262144 * l3 + 16777216 * i + 1073741824 * j + 68719476736 * m + 70368744177664 * k + 96757023244288) := by
  have h := g_rd1 (t := 2) (u := 1) (i := i) (j := j) (m := m) (l0 := l0) (l1 := l1) (l2 := l2) (l3 := l3) (k := k) (z := z) (q := q) p0 (by omega) p1 (by omega) (by unfold m_rg; omega) (by omega) (by omega) (by omega) (by decide) (by decide) (by decide) (by decide) (by rw [m_s2]; omega) (by rw [m_s1]; omega) (by omega) (by omega) (by omega) (by omega)
  exact m_eqv (P := fun y => p_GD a0 a1 a2 a3 (m_up nn q z) y) h (by omega)
theorem k_ra221 {a0 : Int → Int} {a1 : Int → Int} {a2 : Int → Int} {a3 : Int → Int} {nn : Int → Int} {i j m k l0 l1 l2 l3 : Int} (p0 : p_GA a0 a1 a2 a3 nn (l0 + 64 * l1 + 4096 * l2 + 262144 * l3 + 16777216 * i + 1073741824 * j + 68719476736 * m + 70368744177664 * k + 26388279066624)) (c0 : 0 ≤ l0) (c1 : 0 ≤ (-1) * l0 + 60) (c2 : 0 ≤ l1) (c3 : 0 ≤ (-1) * l1 + 60) (c4 : 0 ≤ l2) (c5 : 0 ≤ (-1) * l2 + 60) (c6 : 0 ≤ l3) (c7 : 0 ≤ (-1) * l3 + 60) (c8 : 0 ≤ i) (c9 : 0 ≤ (-1) * i + 60) (c10 : 0 ≤ j) (c11 : 0 ≤ (-1) * j + 60) (c12 : 0 ≤ m) (c13 : 0 ≤ (-1) * m + 60) (c14 : 0 ≤ l2 + (-1) * i + (-1) * m) (c15 : 0 ≤ l1 + (-1) * j + (-1) * m) (c16 : 0 ≤ k + (-1) * m) (c17 : 0 ≤ (-1) * k + 60) : p_TQ a0 a1 a2 a3 nn (l0 + 64 * l1 + 4096 * l2 + 262144 * l3) := by
  exact g_ra2 (t := 2) (u := 1) (i := i) (j := j) (m := m) (l0 := l0) (l1 := l1) (l2 := l2) (l3 := l3) (k := k) p0 (by omega) (by unfold m_rg; omega) (by omega) (by omega) (by omega) (by decide) (by decide) (by decide) (by decide) (by rw [m_s2]; omega) (by rw [m_s1]; omega) (by omega) rfl
theorem k_rd221 {a0 : Int → Int} {a1 : Int → Int} {a2 : Int → Int} {a3 : Int → Int} {nn : Int → Int} {i j m k l0 l1 l2 l3 : Int} (p0 : p_GD a0 a1 a2 a3 nn (l0 + 64 * l1 + 4096 * l2 + 262144 * l3 + 16777216 * i + 1073741824 * j + 68719476736 * m + 70368744177664 * k + 26388279066624)) (c0 : 0 ≤ l0) (c1 : 0 ≤ (-1) * l0 + 60) (c2 : 0 ≤ l1) (c3 : 0 ≤ (-1) * l1 + 60) (c4 : 0 ≤ l2) (c5 : 0 ≤ (-1) * l2 + 60) (c6 : 0 ≤ l3) (c7 : 0 ≤ (-1) * l3 + 60) (c8 : 0 ≤ i) (c9 : 0 ≤ (-1) * i + 60) (c10 : 0 ≤ j) (c11 : 0 ≤ (-1) * j + 60) (c12 : 0 ≤ m) (c13 : 0 ≤ (-1) * m + 60) (c14 : 0 ≤ l2 + (-1) * i + (-1) * m) (c15 : 0 ≤ l1 + (-1) * j + (-1) * m) (c16 : 0 ≤ k + (-1) * m) (c17 : 0 ≤ (-1) * k + 60) : p_TQ a0 a1 a2 a3 nn (l0 + 64 * l1 + 4096 * l2 + 262144 * l3) := by
  exact g_rd2 (t := 2) (u := 1) (i := i) (j := j) (m := m) (l0 := l0) (l1 := l1) (l2 := l2) (l3 := l3) (k := k) p0 (by omega) (by unfold m_rg; omega) (by omega) (by omega) (by omega) (by decide) (by decide) (by decide) (by decide) (by rw [m_s2]; omega) (by rw [m_s1]; omega) (by omega) rfl
theorem k_pc22 {a0 : Int → Int} {a1 : Int → Int} {a2 : Int → Int} {a3 : Int → Int} {nn : Int → Int} {s d m l0 l1 l2 l3 : Int} (i1 : 0 ≤ s) (i2 : 0 ≤ d) (i3 : 0 ≤ m) (p0 : p_TQ a0 a1 a2 a3 nn (l0 + 64 * l1 + 4096 * l2 + 262144 * l3)) (c0 : 0 ≤ l0) (c1 : 0 ≤ (-1) * l0 + 60) (c2 : 0 ≤ l1) (c3 : 0 ≤ (-1) * l1 + 60) (c4 : 0 ≤ l2) (c5 : 0 ≤ (-1) * l2 + 60) (c6 : 0 ≤ l3) (c7 : 0 ≤ (-1) * l3 + 60) (c8 : 0 ≤ s) (c9 : 0 ≤ d) (c10 : 0 ≤ m) (c11 : 0 ≤ l2 + (-1) * s + (-1) * m) (c12 : 0 ≤ l2 + (-1) * d + (-1) * m) : p_PP a0 a1 (m_cpx a2 a2 s d m) a3 nn (l0 + 64 * l1 + 4096 * l2 + 262144 * l3 + 16777216 * s + 1073741824 * d + 68719476736 * m + 43980465111040) := by
  obtain ⟨k0, k1, k2, k3, e, r, H⟩ := p0
  have rr := r
  unfold m_rg at rr
  obtain ⟨rfl, rfl, rfl, rfl⟩ : l0 = k0 ∧ l1 = k1 ∧ l2 = k2 ∧ l3 = k3 := by omega
  refine ⟨l0, l1, l2, l3, s, d, m, 2, 2, by omega, (by unfold m_rg; omega), by omega, by omega, by omega, by decide, by decide, by decide, by decide, (by rw [m_s2]; omega), (by rw [m_s2]; omega), m_Qi (fun q a b _ => m_Qc0 H q a b trivial) (fun q a b _ => m_Qc1 H q a b trivial) (fun q a b f => by unfold m_cpx; rw [if_neg (fun z => f ⟨rfl, z.1, z.2⟩)]; exact m_Qc2 H q a b trivial) (fun q a b _ => m_Qc3 H q a b trivial), fun q a b => ?_⟩
  rw [m_s2]
  unfold m_cpx
  rw [if_pos ⟨a, b⟩, m_Qc2 H (s + (q - d)) (by omega) (by omega) trivial, show (60 * 2 + (s + (q - d)) : Int) = 60 * 2 + s + q - d by omega]
theorem k_ra022 {a0 : Int → Int} {a1 : Int → Int} {a2 : Int → Int} {a3 : Int → Int} {nn : Int → Int} {i j m r l0 l1 l2 l3 : Int} (p0 : p_PP a0 a1 a2 a3 nn (l0 + 64 * l1 + 4096 * l2 + 262144 * l3 + 16777216 * i + 1073741824 * j + 68719476736 * m + 43980465111040)) (c0 : 0 ≤ l0) (c1 : 0 ≤ (-1) * l0 + 60) (c2 : 0 ≤ l1) (c3 : 0 ≤ (-1) * l1 + 60) (c4 : 0 ≤ l2) (c5 : 0 ≤ (-1) * l2 + 60) (c6 : 0 ≤ l3) (c7 : 0 ≤ (-1) * l3 + 60) (c8 : 0 ≤ i) (c9 : 0 ≤ (-1) * i + 60) (c10 : 0 ≤ j) (c11 : 0 ≤ (-1) * j + 60) (c12 : 0 ≤ m) (c13 : 0 ≤ (-1) * m + 60) (c14 : 0 ≤ l2 + (-1) * i + (-1) * m) (c15 : 0 ≤ l2 + (-1) * j + (-1) * m) (c16 : 0 ≤ r) (c17 : 0 ≤ (-1) * r) (c18 : 0 ≤ i + (-1) * j) : p_GA a0 a1 a2 a3 nn (l0 + 64 * l1 + 4096 * l2 + 262144 * l3 + 16777216 * i + 1073741824 * j + 68719476736 * m + 43980465111040) := by
  exact g_ra0 (t := 2) (u := 2) (i := i) (j := j) (m := m) (l0 := l0) (l1 := l1) (l2 := l2) (l3 := l3) p0 (by omega) (by unfold m_rg; omega) (by omega) (by omega) (by omega) (by decide) (by decide) (by decide) (by decide) (by rw [m_s2]; omega) (by rw [m_s2]; omega) (by omega)
theorem k_rd022 {a0 : Int → Int} {a1 : Int → Int} {a2 : Int → Int} {a3 : Int → Int} {nn : Int → Int} {i j m r l0 l1 l2 l3 : Int} (p0 : p_PP a0 a1 a2 a3 nn (l0 + 64 * l1 + 4096 * l2 + 262144 * l3 + 16777216 * i + 1073741824 * j + 68719476736 * m + 43980465111040)) (c0 : 0 ≤ l0) (c1 : 0 ≤ (-1) * l0 + 60) (c2 : 0 ≤ l1) (c3 : 0 ≤ (-1) * l1 + 60) (c4 : 0 ≤ l2) (c5 : 0 ≤ (-1) * l2 + 60) (c6 : 0 ≤ l3) (c7 : 0 ≤ (-1) * l3 + 60) (c8 : 0 ≤ i) (c9 : 0 ≤ (-1) * i + 60) (c10 : 0 ≤ j) (c11 : 0 ≤ (-1) * j + 60) (c12 : 0 ≤ m) (c13 : 0 ≤ (-1) * m + 60) (c14 : 0 ≤ l2 + (-1) * i + (-1) * m) (c15 : 0 ≤ l2 + (-1) * j + (-1) * m) (c16 : 0 ≤ r + (-1)) (c17 : 0 ≤ j + (-1) * i + (-1)) : p_GD a0 a1 a2 a3 nn (l0 + 64 * l1 + 4096 * l2 + 262144 * l3 + 16777216 * i + 1073741824 * j + 68719476736 * m + 43980465111040) := by
  exact g_rd0 (t := 2) (u := 2) (i := i) (j := j) (m := m) (l0 := l0) (l1 := l1) (l2 := l2) (l3 := l3) p0 (by omega) (by unfold m_rg; omega) (by omega) (by omega) (by omega) (by decide) (by decide) (by decide) (by decide) (by rw [m_s2]; omega) (by rw [m_s2]; omega) (by omega)
theorem k_ra122 {a0 : Int → Int} {a1 : Int → Int} {a2 : Int → Int} {a3 : Int → Int} {nn : Int → Int} {q z i j m k l0 l1 l2 l3 : Int} (i1 : 0 ≤ q) (i2 : q < 240) (p0 : p_GA a0 a1 a2 a3 nn (l0 + 64 * l1 + 4096 * l2 + 262144 * l3 + 16777216 * i + 1073741824 * j + 68719476736 * m + 70368744177664 * k + 43980465111040)) (p1 : p_NL nn (i + k + 256 * z + 2361183241434822606968)) (c0 : 0 ≤ l0) (c1 : 0 ≤ (-1) * l0 + 60) (c2 : 0 ≤ l1) (c3 : 0 ≤ (-1) * l1 + 60) (c4 : 0 ≤ l2) (c5 : 0 ≤ (-1) * l2 + 60) (c6 : 0 ≤ l3) (c7 : 0 ≤ (-1) * l3 + 60) (c8 : 0 ≤ i) (c9 : 0 ≤ (-1) * i + 60) (c10 : 0 ≤ j) (c11 : 0 ≤ (-1) * j + 60) (c12 : 0 ≤ m) (c13 : 0 ≤ (-1) * m + 60) (c14 : 0 ≤ l2 + (-1) * i + (-1) * m) (c15 : 0 ≤ l2 + (-1) * j + (-1) * m) (c16 : 0 ≤ i + (-1) * j) (c17 : 0 ≤ k) (c18 : 0 ≤ m + (-1) * k + (-1)) (c19 : 0 ≤ q + (-1) * j + (-1) * k + (-120)) (c20 : 0 ≤ j + k + (-1) * q + 120) (c21 : 0 ≤ z + 9223372036854775808) (c22 : 0 ≤ (-1) * z + 9223372036854775807) : p_GA a0 a1 a2 a3 (m_up nn q z) (l0 + 64 * l1 + 4096 * l2 + 262144 * l3 + 16777216 * i + 1073741824 * j + 68719476736 * m + 70368744177664 * k + 114349209288704) := by
  have h := g_ra1 (t := 2) (u := 2) (i := i) (j := j) (m := m) (l0 := l0) (l1 := l1) (l2 := l2) (l3 := l3) (k := k) (z := z) (q := q) p0 (by omega) p1 (by omega) (by unfold m_rg; omega) (by omega) (by omega) (by omega) (by decide) (by decide) (by decide) (by decide) (by rw [m_s2]; omega) (by rw [m_s2]; omega) (by omega) (by omega) (by omega) (by omega)
  exact m_eqv (P := fun y => p_GA a0 a1 a2 a3 (m_up nn q z) y) h (by omega)
theorem k_rd122 {a0 : Int → Int} {a1 : Int → Int} {a2 : Int → Int} {a3 : Int → Int} {nn : Int → Int} {q z i j m k l0 l1 l2 l3 : Int} (i1 : 0 ≤ q) (i2 : q < 240) (p0 : p_GD a0 a1 a2 a3 nn (l0 + 64 * l1 + 4096 * l2 + 262144 * l3 + 16777216 * i + 1073741824 * j + 68719476736 * m + 70368744177664 * k + 43980465111040)) (p1 : p_NL nn (i + m + (-1) * k + 256 * z + 2361183241434822606967)) (c0 : 0 ≤ l0) (c1 : 0 ≤ (-1) * l0 + 60) (c2 : 0 ≤ l1) (c3 : 0 ≤ (-1) * l1 + 60) (c4 : 0 ≤ l2) (c5 : 0 ≤ (-1) * l2 + 60) (c6 : 0 ≤ l3) (c7 : 0 ≤ (-1) * l3 + 60) (c8 : 0 ≤ i) (c9 : 0 ≤ (-1) * i + 60) (c10 : 0 ≤ j) (c11 : 0 ≤ (-1) * j + 60) (c12 : 0 ≤ m) (c13 : 0 ≤ (-1) * m + 60) (c14 : 0 ≤ l2 + (-1) * i + (-1) * m) (c15 : 0 ≤ l2 + (-1) * j + (-1) * m) (c16 : 0 ≤ j + (-1) * i + (-1)) (c17 : 0 ≤ k) (c18 : 0 ≤ m + (-1) * k + (-1)) (c19 : 0 ≤ q + (-1) * j + (-1) * m + k + (-119)) (c20 : 0 ≤ j + m + (-1) * k + (-1) * q + 119) (c21 : 0 ≤ z + 9223372036854775808) (c22 : 0 ≤ (-1) * z + 9223372036854775807) : p_GD a0 a1 a2 a3 (m_up nn q z) (l0 + 64 * l1 + 4096 * l2 + 262144 * l3 + 16777216 * i + 1073741824 * j + 68719476736 * m + 70368744177664 * k + 114349209288704) := by
  have h := g_rd1 (t := 2) (u := 2) (i := i) (j := j) (m := m) (l0 := l0) (l1 := l1) (l2 := l2) (l3 := l3) (k := k) (z := z) (q := q) p0 (by omega) p1 (by omega) (by unfold m_rg; omega) (by omega) (by omega) (by omega) (by decide) (by decide) (by decide) (by decide) (by rw [m_s2]; omega) (by rw [m_s2]; omega) (by omega) (by omega) (by omega) (by omega)
  exact m_eqv (P := fun y => p_GD a0 a1 a2 a3 (m_up nn q z) y) h (by omega)
theorem k_ra222 {a0 : Int → Int} {a1 : Int → Int} {a2 : Int → Int} {a3 : Int → Int} {nn : Int → Int} {i j m k l0 l1 l2 l3 : Int} (p0 : p_GA a0 a1 a2 a3 nn (l0 + 64 * l1 + 4096 * l2 + 262144 * l3 + 16777216 * i + 1073741824 * j + 68719476736 * m + 70368744177664 * k + 43980465111040)) (c0 : 0 ≤ l0) (c1 : 0 ≤ (-1) * l0 + 60) (c2 : 0 ≤ l1) (c3 : 0 ≤ (-1) * l1 + 60) (c4 : 0 ≤ l2) (c5 : 0 ≤ (-1) * l2 + 60) (c6 : 0 ≤ l3) (c7 : 0 ≤ (-1) * l3 + 60) (c8 : 0 ≤ i) (c9 : 0 ≤ (-1) * i + 60) (c10 : 0 ≤ j) (c11 : 0 ≤ (-1) * j + 60) (c12 : 0 ≤ m) (c13 : 0 ≤ (-1) * m + 60) (c14 : 0 ≤ l2 + (-1) * i + (-1) * m) (c15 : 0 ≤ l2 + (-1) * j + (-1) * m) (c16 : 0 ≤ k + (-1) * m) (c17 : 0 ≤ (-1) * k + 60) : p_TQ a0 a1 a2 a3 nn (l0 + 64 * l1 + 4096 * l2 + 262144 * l3) := by
  exact g_ra2 (t := 2) (u := 2) (i := i) (j := j) (m := m) (l0 := l0) (l1 := l1) (l2 := l2) (l3 := l3) (k := k) p0 (by omega) (by unfold m_rg; omega) (by omega) (by omega) (by omega) (by decide) (by decide) (by decide) (by decide) (by rw [m_s2]; omega) (by rw [m_s2]; omega) (by omega) rfl
theorem k_rd222 {a0 : Int → Int} {a1 : Int → Int} {a2 : Int → Int} {a3 : Int → Int} {nn : Int → Int} {i j m k l0 l1 l2 l3 : Int} (p0 : p_GD a0 a1 a2 a3 nn (l0 + 64 * l1 + 4096 * l2 + 262144 * l3 + 16777216 * i + 1073741824 * j + 68719476736 * m + 70368744177664 * k + 43980465111040)) (c0 : 0 ≤ l0) (c1 : 0 ≤ (-1) * l0 + 60) (c2 : 0 ≤ l1) (c3 : 0 ≤ (-1) * l1 + 60) (c4 : 0 ≤ l2) (c5 : 0 ≤ (-1) * l2 + 60) (c6 : 0 ≤ l3) (c7 : 0 ≤ (-1) * l3 + 60) (c8 : 0 ≤ i) (c9 : 0 ≤ (-1) * i + 60) (c10 : 0 ≤ j) (c11 : 0 ≤ (-1) * j + 60) (c12 : 0 ≤ m) (c13 : 0 ≤ (-1) * m + 60) (c14 : 0 ≤ l2 + (-1) * i + (-1) * m) (c15 : 0 ≤ l2 + (-1) * j + (-1) * m) (c16 : 0 ≤ k + (-1) * m) (c17 : 0 ≤ (-1) * k + 60) : p_TQ a0 a1 a2 a3 nn (l0 + 64 * l1 + 4096 * l2 + 262144 * l3) := by
  exact g_rd2 (t := 2) (u := 2) (i := i) (j := j) (m := m) (l0 := l0) (l1 := l1) (l2 := l2) (l3 := l3) (k := k) p0 (by omega) (by unfold m_rg; omega) (by omega) (by omega) (by omega) (by decide) (by decide) (by decide) (by decide) (by rw [m_s2]; omega) (by rw [m_s2]; omega) (by omega) rfl
theorem k_pc23 {a0 : Int → Int} {a1 : Int → Int} {a2 : Int → Int} {a3 : Int → Int} {nn : Int → Int} {s d m l0 l1 l2 l3 : Int} (i1 : 0 ≤ s) (i2 : 0 ≤ d) (i3 : 0 ≤ m) (p0 : p_TQ a0 a1 a2 a3 nn (l0 + 64 * l1 + 4096 * l2 + 262144 * l3)) (c0 : 0 ≤ l0) (c1 : 0 ≤ (-1) * l0 + 60) (c2 : 0 ≤ l1) (c3 : 0 ≤ (-1) * l1 + 60) (c4 : 0 ≤ l2) (c5 : 0 ≤ (-1) * l2 + 60) (c6 : 0 ≤ l3) (c7 : 0 ≤ (-1) * l3 + 60) (c8 : 0 ≤ s) (c9 : 0 ≤ d) (c10 : 0 ≤ m) (c11 : 0 ≤ l2 + (-1) * s + (-1) * m) (c12 : 0 ≤ l3 + (-1) * d + (-1) * m) : p_PP a0 a1 a2 (m_cpx a2 a3 s d m) nn (l0 + 64 * l1 + 4096 * l2 + 262144 * l3 + 16777216 * s + 1073741824 * d + 68719476736 * m + 61572651155456) := by
  obtain ⟨k0, k1, k2, k3, e, r, H⟩ := p0
  have rr := r
  unfold m_rg at rr
  obtain ⟨rfl, rfl, rfl, rfl⟩ : l0 = k0 ∧ l1 = k1 ∧ l2 = k2 ∧ l3 = k3 := by omega
  refine ⟨l0, l1, l2, l3, s, d, m, 2, 3, by omega, (by unfold m_rg; omega), by omega, by omega, by omega, by decide, by decide, by decide, by decide, (by rw [m_s2]; omega), (by rw [m_s3]; omega), m_Qi (fun q a b _ => m_Qc0 H q a b trivial) (fun q a b _ => m_Qc1 H q a b trivial) (fun q a b _ => m_Qc2 H q a b trivial) (fun q a b f => by unfold m_cpx; rw [if_neg (fun z => f ⟨rfl, z.1, z.2⟩)]; exact m_Qc3 H q a b trivial), fun q a b => ?_⟩
  rw [m_s3]
  unfold m_cpx
  rw [if_pos ⟨a, b⟩, m_Qc2 H (s + (q - d)) (by omega) (by omega) trivial, show (60 * 2 + (s + (q - d)) : Int) = 60 * 2 + s + q - d by omega]
theorem k_ra023 {a0 : Int → Int} {a1 : Int → Int} {a2 : Int → Int} {a3 : Int → Int} {nn : Int → Int} {i j m r l0 l1 l2 l3 : Int} (p0 : p_PP a0 a1 a2 a3 nn (l0 + 64 * l1 + 4096 * l2 + 262144 * l3 + 16777216 * i + 1073741824 * j + 68719476736 * m + 61572651155456)) (c0 : 0 ≤ l0) (c1 : 0 ≤ (-1) * l0 + 60) (c2 : 0 ≤ l1) (c3 : 0 ≤ (-1) * l1 + 60) (c4 : 0 ≤ l2) (c5 : 0 ≤ (-1) * l2 + 60) (c6 : 0 ≤ l3) (c7 : 0 ≤ (-1) * l3 + 60) (c8 : 0 ≤ i) (c9 : 0 ≤ (-1) * i + 60) (c10 : 0 ≤ j) (c11 : 0 ≤ (-1) * j + 60) (c12 : 0 ≤ m) (c13 : 0 ≤ (-1) * m + 60) (c14 : 0 ≤ l2 + (-1) * i + (-1) * m) (c15 : 0 ≤ l3 + (-1) * j + (-1) * m) (c16 : 0 ≤ r) (c17 : 0 ≤ (-1) * r) (c18 : 0 ≤ i + (-1) * j) : p_GA a0 a1 a2 a3 nn (l0 + 64 * l1 + 4096 * l2 + 262144 * l3 + 16777216 * i + 1073741824 * j + 68719476736 * m + 61572651155456) := by
  exact g_ra0 (t := 2) (u := 3) (i := i) (j := j) (m := m) (l0 := l0) (l1 := l1) (l2 := l2) (l3 := l3) p0 (by omega) (by unfold m_rg; omega) (by omega) (by omega) (by omega) (by decide) (by decide) (by decide) (by decide) (by rw [m_s2]; omega) (by rw [m_s3]; omega) (by omega)
theorem k_rd023 {a0 : Int → Int} {a1 : Int → Int} {a2 : Int → Int} {a3 : Int → Int} {nn : Int → Int} {i j m r l0 l1 l2 l3 : Int} (p0 : p_PP a0 a1 a2 a3 nn (l0 + 64 * l1 + 4096 * l2 + 262144 * l3 + 16777216 * i + 1073741824 * j + 68719476736 * m + 61572651155456)) (c0 : 0 ≤ l0) (c1 : 0 ≤ (-1) * l0 + 60) (c2 : 0 ≤ l1) (c3 : 0 ≤ (-1) * l1 + 60) (c4 : 0 ≤ l2) (c5 : 0 ≤ (-1) * l2 + 60) (c6 : 0 ≤ l3) (c7 : 0 ≤ (-1) * l3 + 60) (c8 : 0 ≤ i) (c9 : 0 ≤ (-1) * i + 60) (c10 : 0 ≤ j) (c11 : 0 ≤ (-1) * j + 60) (c12 : 0 ≤ m) (c13 : 0 ≤ (-1) * m + 60) (c14 : 0 ≤ l2 + (-1) * i + (-1) * m) (c15 : 0 ≤ l3 + (-1) * j + (-1) * m) (c16 : 0 ≤ r + (-1)) (c17 : 0 ≤ j + (-1) * i + (-1)) : p_GD a0 a1 a2 a3 nn (l0 + 64 * l1 + 4096 * l2 + 262144 * l3 + 16777216 * i + 1073741824 * j + 68719476736 * m + 61572651155456) := by
  exact g_rd0 (t := 2) (u := 3) (i := i) (j := j) (m := m) (l0 := l0) (l1 := l1) (l2 := l2) (l3 := l3) p0 (by omega) (by unfold m_rg; omega) (by omega) (by omega) (by omega) (by decide) (by decide) (by decide) (by decide) (by rw [m_s2]; omega) (by rw [m_s3]; omega) (by omega)
theorem k_ra123 {a0 : Int → Int} {a1 : Int → Int} {a2 : Int → Int} {a3 : Int → Int} {nn : Int → Int} {q z i j m k l0 l1 l2 l3 : Int} (i1 : 0 ≤ q) (i2 : q < 240) (p0 : p_GA a0 a1 a2 a3 nn (l0 + 64 * l1 + 4096 * l2 + 262144 * l3 + 16777216 * i + 1073741824 * j + 68719476736 * m + 70368744177664 * k + 61572651155456)) (p1 : p_NL nn (i + k + 256 * z + 2361183241434822606968)) (c0 : 0 ≤ l0) (c1 : 0 ≤ (-1) * l0 + 60) (c2 : 0 ≤ l1) (c3 : 0 ≤ (-1) * l1 + 60) (c4 : 0 ≤ l2) (c5 : 0 ≤ (-1) * l2 + 60) (c6 : 0 ≤ l3) (c7 : 0 ≤ (-1) * l3 + 60) (c8 : 0 ≤ i) (c9 : 0 ≤ (-1) * i + 60) (c10 : 0 ≤ j) (c11 : 0 ≤ (-1) * j + 60) (c12 : 0 ≤ m) (c13 : 0 ≤ (-1) * m + 60) (c14 : 0 ≤ l2 + (-1) * i + (-1) * m) (c15 : 0 ≤ l3 + (-1) * j + (-1) * m) (c16 : 0 ≤ i + (-1) * j) (c17 : 0 ≤ k) (c18 : 0 ≤ m + (-1) * k + (-1)) (c19 : 0 ≤ q + (-1) * j + (-1) * k + (-180)) (c20 : 0 ≤ j + k + (-1) * q + 180) (c21 : 0 ≤ z + 9223372036854775808) (c22 : 0 ≤ (-1) * z + 9223372036854775807) : p_GA a0 a1 a2 a3 (m_up nn q z) (l0 + 64 * l1 + 4096 * l2 + 262144 * l3 + 16777216 * i + 1073741824 * j + 68719476736 * m + 70368744177664 * k + 131941395333120) := by
  have h := g_ra1 (t := 2) (u := 3) (i := i) (j := j) (m := m) (l0 := l0) (l1 := l1) (l2 := l2) (l3 := l3) (k := k) (z := z) (q := q) p0 (by omega) p1 (by omega) (by unfold m_rg; omega) (by omega) (by omega) (by omega) (by decide) (by decide) (by decide) (by decide) (by rw [m_s2]; omega) (by rw [m_s3]; omega) (by omega) (by omega) (by omega) (by omega)
  exact m_eqv (P := fun y => p_GA a0 a1 a2 a3 (m_up nn q z) y) h (by omega)
theorem k_rd123 {a0 : Int → Int} {a1 : Int → Int} {a2 : Int → Int} {a3 : Int → Int} {nn : Int → Int} {q z i j m k l0 l1 l2 l3 : Int} (i1 : 0 ≤ q) (i2 : q < 240) (p0 : p_GD a0 a1 a2 a3 nn (l0 + 64 * l1 + 4096 * l2 + 262144 * l3 + 16777216 * i + 1073741824 * j + 68719476736 * m + 70368744177664 * k + 61572651155456)) (p1 : p_NL nn (i + m + (-1) * k + 256 * z + 2361183241434822606967)) (c0 : 0 ≤ l0) (c1 : 0 ≤ (-1) * l0 + 60) (c2 : 0 ≤ l1) (c3 : 0 ≤ (-1) * l1 + 60) (c4 : 0 ≤ l2) (c5 : 0 ≤ (-1) * l2 + 60) (c6 : 0 ≤ l3) (c7 : 0 ≤ (-1) * l3 + 60) (c8 : 0 ≤ i) (c9 : 0 ≤ (-1) * i + 60) (c10 : 0 ≤ j) (c11 : 0 ≤ (-1) * j + 60) (c12 : 0 ≤ m) (c13 : 0 ≤ (-1) * m + 60) (c14 : 0 ≤ l2 + (-1) * i + (-1) * m) (c15 : 0 ≤ l3 + (-1) * j + (-1) * m) (c16 : 0 ≤ j + (-1) * i + (-1)) (c17 : 0 ≤ k) (c18 : 0 ≤ m + (-1) * k + (-1)) (c19 : 0 ≤ q + (-1) * j + (-1) * m + k + (-179)) (c20 : 0 ≤ j + m + (-1) * k + (-1) * q + 179) (c21 : 0 ≤ z + 9223372036854775808) (c22 : 0 ≤ (-1) * z + 9223372036854775807) : p_GD a0 a1 a2 a3 (m_up nn q z) (l0 + 64 * l1 + 4096 * l2 + 262144 * l3 + 16777216 * i + 1073741824 * j + 68719476736 * m + 70368744177664 * k + 131941395333120) := by
  have h := g_rd1 (t := 2) (u := 3) (i := i) (j := j) (m := m) (l0 := l0) (l1 := l1) (l2 := l2) (l3 := l3) (k := k) (z := z) (q := q) p0 (by omega) p1 (by omega) (by unfold m_rg; omega) (by omega) (by omega) (by omega) (by decide) (by decide) (by decide) (by decide) (by rw [m_s2]; omega) (by rw [m_s3]; omega) (by omega) (by omega) (by omega) (by omega)
  exact m_eqv (P := fun y => p_GD a0 a1 a2 a3 (m_up nn q z) y) h (by omega)
theorem k_ra223 {a0 : Int → Int} {a1 : Int → Int} {a2 : Int → Int} {a3 : Int → Int} {nn : Int → Int} {i j m k l0 l1 l2 l3 : Int} (p0 : p_GA a0 a1 a2 a3 nn (l0 + 64 * l1 + 4096 * l2 + 262144 * l3 + 16777216 * i + 1073741824 * j + 68719476736 * m + 70368744177664 * k + 61572651155456)) (c0 : 0 ≤ l0) (c1 : 0 ≤ (-1) * l0 + 60) (c2 : 0 ≤ l1) (c3 : 0 ≤ (-1) * l1 + 60) (c4 : 0 ≤ l2) (c5 : 0 ≤ (-1) * l2 + 60) (c6 : 0 ≤ l3) (c7 : 0 ≤ (-1) * l3 + 60) (c8 : 0 ≤ i) (c9 : 0 ≤ (-1) * i + 60) (c10 : 0 ≤ j) (c11 : 0 ≤ (-1) * j + 60) (c12 : 0 ≤ m) (c13 : 0 ≤ (-1) * m + 60) (c14 : 0 ≤ l2 + (-1) * i + (-1) * m) (c15 : 0 ≤ l3 + (-1) * j + (-1) * m) (c16 : 0 ≤ k + (-1) * m) (c17 : 0 ≤ (-1) * k + 60) : p_TQ a0 a1 a2 a3 nn (l0 + 64 * l1 + 4096 * l2 + 262144 * l3) := by
  exact g_ra2 (t := 2) (u := 3) (i := i) (j := j) (m := m) (l0 := l0) (l1 := l1) (l2 := l2) (l3 := l3) (k := k) p0 (by omega) (by unfold m_rg; omega) (by omega) (by omega) (by omega) (by decide) (by decide) (by decide) (by decide) (by rw [m_s2]; omega) (by rw [m_s3]; omega) (by omega) rfl
theorem k_rd223 {a0 : Int → Int} {a1 : Int → Int} {a2 : Int → Int} {a3 : Int → Int} {nn : Int → Int} {i j m k l0 l1 l2 l3 : Int} (p0 : p_GD a0 a1 a2 a3 nn (l0 + 64 * l1 + 4096 * l2 + 262144 * l3 + 16777216 * i + 1073741824 * j + 68719476736 * m + 70368744177664 * k + 61572651155456)) (c0 : 0 ≤ l0) (c1 : 0 ≤ (-1) * l0 + 60) (c2 : 0 ≤ l1) (c3 : 0 ≤ (-1) * l1 + 60) (c4 : 0 ≤ l2) (c5 : 0 ≤ (-1) * l2 + 60) (c6 : 0 ≤ l3) (c7 : 0 ≤ (-1) * l3 + 60) (c8 : 0 ≤ i) (c9 : 0 ≤ (-1) * i + 60) (c10 : 0 ≤ j) (c11 : 0 ≤ (-1) * j + 60) (c12 : 0 ≤ m) (c13 : 0 ≤ (-1) * m + 60) (c14 : 0 ≤ l2 + (-1) * i + (-1) * m) (c15 : 0 ≤ l3 + (-1) * j + (-1) * m) (c16 : 0 ≤ k + (-1) * m) (c17 : 0 ≤ (-1) * k + 60) : p_TQ a0 a1 a2 a3 nn (l0 + 64 * l1 + 4096 * l2 + 262144 * l3) := by
  exact g_rd2 (t := 2) (u := 3) (i := i) (j := j) (m := m) (l0 := l0) (l1 := l1) (l2 := l2) (l3 := l3) (k := k) p0 (by omega) (by unfold m_rg; omega) (by omega) (by omega) (by omega) (by decide) (by decide) (by decide) (by decide) (by rw [m_s2]; omega) (by rw [m_s3]; omega) (by omega) rfl
theorem k_pc30 {a0 : Int → Int} {a1 : Int → Int} {a2 : Int → Int} {a3 : Int → Int} {nn : Int → Int} {s d m l0 l1 l2 l3 : Int} (i1 : 0 ≤ s) (i2 : 0 ≤ d) (i3 : 0 ≤ m) (p0 : p_TQ a0 a1 a2 a3 nn (l0 + 64 * l1 + 4096 * l2 + 262144 * l3)) (c0 : 0 ≤ l0) (c1 : 0 ≤ (-1) * l0 + 60) (c2 : 0 ≤ l1) (c3 : 0 ≤ (-1) * l1 + 60) (c4 : 0 ≤ l2) (c5 : 0 ≤ (-1) * l2 + 60) (c6 : 0 ≤ l3) (c7 : 0 ≤ (-1) * l3 + 60) (c8 : 0 ≤ s) (c9 : 0 ≤ d) (c10 : 0 ≤ m) (c11 : 0 ≤ l3 + (-1) * s + (-1) * m) (c12 : 0 ≤ l0 + (-1) * d + (-1) * m) : p_PP (m_cpx a3 a0 s d m) a1 a2 a3 nn (l0 + 64 * l1 + 4096 * l2 + 262144 * l3 + 16777216 * s + 1073741824 * d + 68719476736 * m + 13194139533312) := by
  obtain ⟨k0, k1, k2, k3, e, r, H⟩ := p0
  have rr := r
  unfold m_rg at rr
  obtain ⟨rfl, rfl, rfl, rfl⟩ : l0 = k0 ∧ l1 = k1 ∧ l2 = k2 ∧ l3 = k3 := by omega
  refine ⟨l0, l1, l2, l3, s, d, m, 3, 0, by omega, (by unfold m_rg; omega), by omega, by omega, by omega, by decide, by decide, by decide, by decide, (by rw [m_s3]; omega), (by rw [m_s0]; omega), m_Qi (fun q a b f => by unfold m_cpx; rw [if_neg (fun z => f ⟨rfl, z.1, z.2⟩)]; exact m_Qc0 H q a b trivial) (fun q a b _ => m_Qc1 H q a b trivial) (fun q a b _ => m_Qc2 H q a b trivial) (fun q a b _ => m_Qc3 H q a b trivial), fun q a b => ?_⟩
  rw [m_s0]
  unfold m_cpx
  rw [if_pos ⟨a, b⟩, m_Qc3 H (s + (q - d)) (by omega) (by omega) trivial, show (60 * 3 + (s + (q - d)) : Int) = 60 * 3 + s + q - d by omega]
theorem k_ra030 {a0 : Int → Int} {a1 : Int → Int} {a2 : Int → Int} {a3 : Int → Int} {nn : Int → Int} {i j m r l0 l1 l2 l3 : Int} (p0 : p_PP a0 a1 a2 a3 nn (l0 + 64 * l1 + 4096 * l2 + 262144 * l3 + 16777216 * i + 1073741824 * j + 68719476736 * m + 13194139533312)) (c0 : 0 ≤ l0) (c1 : 0 ≤ (-1) * l0 + 60) (c2 : 0 ≤ l1) (c3 : 0 ≤ (-1) * l1 + 60) (c4 : 0 ≤ l2) (c5 : 0 ≤ (-1) * l2 + 60) (c6 : 0 ≤ l3) (c7 : 0 ≤ (-1) * l3 + 60) (c8 : 0 ≤ i) (c9 : 0 ≤ (-1) * i + 60) (c10 : 0 ≤ j) (c11 : 0 ≤ (-1) * j + 60) (c12 : 0 ≤ m) (c13 : 0 ≤ (-1) * m + 60) (c14 : 0 ≤ l3 + (-1) * i + (-1) * m) (c15 : 0 ≤ l0 + (-1) * j + (-1) * m) (c16 : 0 ≤ r) (c17 : 0 ≤ (-1) * r) (c18 : 0 ≤ i + (-1) * j) : p_GA a0 a1 a2 a3 nn (l0 + 64 * l1 + 4096 * l2 + 262144 * l3 + 16777216 * i + 1073741824 * j + 68719476736 * m + 13194139533312) := by
  exact g_ra0 (t := 3) (u := 0) (i := i) (j := j) (m := m) (l0 := l0) (l1 := l1) (l2 := l2) (l3 := l3) p0 (by omega) (by unfold m_rg; omega) (by omega) (by omega) (by omega) (by decide) (by decide) (by decide) (by decide) (by rw [m_s3]; omega) (by rw [m_s0]; omega) (by omega)
theorem k_rd030 {a0 : Int → Int} {a1 : Int → Int} {a2 : Int → Int} {a3 : Int → Int} {nn : Int → Int} {i j m r l0 l1 l2 l3 : Int} (p0 : p_PP a0 a1 a2 a3 nn (l0 + 64 * l1 + 4096 * l2 + 262144 * l3 + 16777216 * i + 1073741824 * j + 68719476736 * m + 13194139533312)) (c0 : 0 ≤ l0) (c1 : 0 ≤ (-1) * l0 + 60) (c2 : 0 ≤ l1) (c3 : 0 ≤ (-1) * l1 + 60) (c4 : 0 ≤ l2) (c5 : 0 ≤ (-1) * l2 + 60) (c6 : 0 ≤ l3) (c7 : 0 ≤ (-1) * l3 + 60) (c8 : 0 ≤ i) (c9 : 0 ≤ (-1) * i + 60) (c10 : 0 ≤ j) (c11 : 0 ≤ (-1) * j + 60) (c12 : 0 ≤ m) (c13 : 0 ≤ (-1) * m + 60) (c14 : 0 ≤ l3 + (-1) * i + (-1) * m) (c15 : 0 ≤ l0 + (-1) * j + (-1) * m) (c16 : 0 ≤ r + (-1)) (c17 : 0 ≤ j + (-1) * i + (-1)) : p_GD a0 a1 a2 a3 nn (l0 + 64 * l1 + 4096 * l2 + 262144 * l3 + 16777216 * i + 1073741824 * j + 68719476736 * m + 13194139533312) := by
  exact g_rd0 (t := 3) (u := 0) (i := i) (j := j) (m := m) (l0 := l0) (l1 := l1) (l2 := l2) (l3 := l3) p0 (by omega) (by unfold m_rg; omega) (by omega) (by omega) (by omega) (by decide) (by decide) (by decide) (by decide) (by rw [m_s3]; omega) (by rw [m_s0]; omega) (by omega)
theorem k_ra130 {a0 : Int → Int} {a1 : Int → Int} {a2 : Int → Int} {a3 : Int → Int} {nn : Int → Int} {q z i j m k l0 l1 l2 l3 : Int} (i1 : 0 ≤ q) (i2 : q < 240) (p0 : p_GA a0 a1 a2 a3 nn (l0 + 64 * l1 + 4096 * l2 + 262144 * l3 + 16777216 * i + 1073741824 * j + 68719476736 * m + 70368744177664 * k + 13194139533312)) (p1 : p_NL nn (i + k + 256 * z + 2361183241434822607028)) (c0 : 0 ≤ l0) (c1 : 0 ≤ (-1) * l0 + 60) (c2 : 0 ≤ l1) (c3 : 0 ≤ (-1) * l1 + 60) (c4 : 0 ≤ l2) (c5 : 0 ≤ (-1) * l2 + 60) (c6 : 0 ≤ l3) (c7 : 0 ≤ (-1) * l3 + 60) (c8 : 0 ≤ i) (c9 : 0 ≤ (-1) * i + 60) (c10 : 0 ≤ j) (c11 : 0 ≤ (-1) * j + 60) (c12 : 0 ≤ m) (c13 : 0 ≤ (-1) * m + 60) (c14 : 0 ≤ l3 + (-1) * i + (-1) * m) (c15 : 0 ≤ l0 + (-1) * j + (-1) * m) (c16 : 0 ≤ i + (-1) * j) (c17 : 0 ≤ k) (c18 : 0 ≤ m + (-1) * k + (-1)) (c19 : 0 ≤ q + (-1) * j + (-1) * k) (c20 : 0 ≤ j + k + (-1) * q) (c21 : 0 ≤ z + 9223372036854775808) (c22 : 0 ≤ (-1) * z + 9223372036854775807) : p_GA a0 a1 a2 a3 (m_up nn q z) (l0 + 64 * l1 + 4096 * l2 + 262144 * l3 + 16777216 * i + 1073741824 * j + 68719476736 * m + 70368744177664 * k + 83562883710976) := by
  have h := g_ra1 (t := 3) (u := 0) (i := i) (j := j) (m := m) (l0 := l0) (l1 := l1) (l2 := l2) (l3 := l3) (k := k) (z := z) (q := q) p0 (by omega) p1 (by omega) (by unfold m_rg; omega) (by omega) (by omega) (by omega) (by decide) (by decide) (by decide) (by decide) (by rw [m_s3]; omega) (by rw [m_s0]; omega) (by omega) (by omega) (by omega) (by omega)
  exact m_eqv (P := fun y => p_GA a0 a1 a2 a3 (m_up nn q z) y) h (by omega)
theorem k_rd130 {a0 : Int → Int} {a1 : Int → Int} {a2 : Int → Int} {a3 : Int → Int} {nn : Int → Int} {q z i j m k l0 l1 l2 l3 : Int} (i1 : 0 ≤ q) (i2 : q < 240) (p0 : p_GD a0 a1 a2 a3 nn (l0 + 64 * l1 + 4096 * l2 + 262144 * l3 + 16777216 * i + 1073741824 * j + 68719476736 * m + 70368744177664 * k + 13194139533312)) (p1 : p_NL nn (i + m + (-1) * k + 256 * z + 2361183241434822607027)) (c0 : 0 ≤ l0) (c1 : 0 ≤ (-1) * l0 + 60) (c2 : 0 ≤ l1) (c3 : 0 ≤ (-1) * l1 + 60) (c4 : 0 ≤ l2) (c5 : 0 ≤ (-1) * l2 + 60) (c6 : 0 ≤ l3) (c7 : 0 ≤ (-1) * l3 + 60) (c8 : 0 ≤ i) (c9 : 0 ≤ (-1) * i + 60) (c10 : 0 ≤ j) (c11 : 0 ≤ (-1) * j + 60) (c12 : 0 ≤ m) (c13 : 0 ≤ (-1) * m + 60) (c14 : 0 ≤ l3 + (-1) * i + (-1) * m) (c15 : 0 ≤ l0 + (-1) * j + (-1) * m) (c16 : 0 ≤ j + (-1) * i + (-1)) (c17 : 0 ≤ k) (c18 : 0 ≤ m + (-1) * k + (-1)) (c19 : 0 ≤ q + (-1) * j + (-1) * m + k + 1) (c20 : 0 ≤ j + m + (-1) * k + (-1) * q + (-1)) (c21 : 0 ≤ z + 9223372036854775808) (c22 : 0 ≤ (-1) * z + 9223372036854775807) : p_GD a0 a1 a2 a3 (m_up nn q z) (l0 + 64 * l1 + 4096 * l2 + 262144 * l3 + 16777216 * i + 1073741824 * j + 68719476736 * m + 70368744177664 * k + 83562883710976) := by
  have h := g_rd1 (t := 3) (u := 0) (i := i) (j := j) (m := m) (l0 := l0) (l1 := l1) (l2 := l2) (l3 := l3) (k := k) (z := z) (q := q) p0 (by omega) p1 (by omega) (by unfold m_rg; omega) (by omega) (by omega) (by omega) (by decide) (by decide) (by decide) (by decide) (by rw [m_s3]; omega) (by rw [m_s0]; omega) (by omega) (by omega) (by omega) (by omega)
  exact m_eqv (P := fun y => p_GD a0 a1 a2 a3 (m_up nn q z) y) h (by omega)
theorem k_ra230 {a0 : Int → Int} {a1 : Int → Int} {a2 : Int → Int} {a3 : Int → Int} {nn : Int → Int} {i j m k l0 l1 l2 l3 : Int} (p0 : p_GA a0 a1 a2 a3 nn (l0 + 64 * l1 + 4096 * l2 + 262144 * l3 + 16777216 * i + 1073741824 * j + 68719476736 * m + 70368744177664 * k + 13194139533312)) (c0 : 0 ≤ l0) (c1 : 0 ≤ (-1) * l0 + 60) (c2 : 0 ≤ l1) (c3 : 0 ≤ (-1) * l1 + 60) (c4 : 0 ≤ l2) (c5 : 0 ≤ (-1) * l2 + 60) (c6 : 0 ≤ l3) (c7 : 0 ≤ (-1) * l3 + 60) (c8 : 0 ≤ i) (c9 : 0 ≤ (-1) * i + 60) (c10 : 0 ≤ j) (c11 : 0 ≤ (-1) * j + 60) (c12 : 0 ≤ m) (c13 : 0 ≤ (-1) * m + 60) (c14 : 0 ≤ l3 + (-1) * i + (-1) * m) (c15 : 0 ≤ l0 + (-1) * j + (-1) * m) (c16 : 0 ≤ k + (-1) * m) (c17 : 0 ≤ (-1) * k + 60) : p_TQ a0 a1 a2 a3 nn (l0 + 64 * l1 + 4096 * l2 + 262144 * l3) := by
  exact g_ra2 (t := 3) (u := 0) (i := i) (j := j) (m := m) (l0 := l0) (l1 := l1) (l2 := l2) (l3 := l3) (k := k) p0 (by omega) (by unfold m_rg; omega) (by omega) (by omega) (by omega) (by decide) (by decide) (by decide) (by decide) (by rw [m_s3]; omega) (by rw [m_s0]; omega) (by omega) rfl
theorem k_rd230 {a0 : Int → Int} {a1 : Int → Int} {a2 : Int → Int} {a3 : Int → Int} {nn : Int → Int} {i j m k l0 l1 l2 l3 : Int} (p0 : p_GD a0 a1 a2 a3 nn (l0 + 64 * l1 + 4096 * l2 + 262144 * l3 + 16777216 * i + 1073741824 * j + 68719476736 * m + 70368744177664 * k + 13194139533312)) (c0 : 0 ≤ l0) (c1 : 0 ≤ (-1) * l0 + 60) (c2 : 0 ≤ l1) (c3 : 0 ≤ (-1) * l1 + 60) (c4 : 0 ≤ l2) (c5 : 0 ≤ (-1) * l2 + 60) (c6 : 0 ≤ l3) (c7 : 0 ≤ (-1) * l3 + 60) (c8 : 0 ≤ i) (c9 : 0 ≤ (-1) * i + 60) (c10 : 0 ≤ j) (c11 : 0 ≤ (-1) * j + 60) (c12 : 0 ≤ m) (c13 : 0 ≤ (-1) * m + 60) (c14 : 0 ≤ l3 + (-1) * i + (-1) * m) (c15 : 0 ≤ l0 + (-1) * j + (-1) * m) (c16 : 0 ≤ k + (-1) * m) (c17 : 0 ≤ (-1) * k + 60) : p_TQ a0 a1 a2 a3 nn (l0 + 64 * l1 + 4096 * l2 + 262144 * l3) := by
  exact g_rd2 (t := 3) (u := 0) (i := i) (j := j) (m := m) (l0 := l0) (l1 := l1) (l2 := l2) (l3 := l3) (k := k) p0 (by omega) (by unfold m_rg; omega) (by omega) (by omega) (by omega) (by decide) (by decide) (by decide) (by decide) (by rw [m_s3]; omega) (by rw [m_s0]; omega) (by omega) rfl
theorem k_pc31 {a0 : Int → Int} {a1 : Int → Int} {a2 : Int → Int} {a3 : Int → Int} {nn : Int → Int} {s d m l0 l1 l2 l3 : Int} (i1 : 0 ≤ s) (i2 : 0 ≤ d) (i3 : 0 ≤ m) (p0 : p_TQ a0 a1 a2 a3 nn (l0 + 64 * l1 + 4096 * l2 + 262144 * l3)) (c0 : 0 ≤ l0) (c1 : 0 ≤ (-1) * l0 + 60) (c2 : 0 ≤ l1) (c3 : 0 ≤ (-1) * l1 + 60) (c4 : 0 ≤ l2) (c5 : 0 ≤ (-1) * l2 + 60) (c6 : 0 ≤ l3) (c7 : 0 ≤ (-1) * l3 + 60) (c8 : 0 ≤ s) (c9 : 0 ≤ d) (c10 : 0 ≤ m) (c11 : 0 ≤ l3 + (-1) * s + (-1) * m) (c12 : 0 ≤ l1 + (-1) * d + (-1) * m) : p_PP a0 (m_cpx a3 a1 s d m) a2 a3 nn (l0 + 64 * l1 + 4096 * l2 + 262144 * l3 + 16777216 * s + 1073741824 * d + 68719476736 * m + 30786325577728) := by
  obtain ⟨k0, k1, k2, k3, e, r, H⟩ := p0
  have rr := r
  unfold m_rg at rr
  obtain ⟨rfl, rfl, rfl, rfl⟩ : l0 = k0 ∧ l1 = k1 ∧ l2 = k2 ∧ l3 = k3 := by omega
  refine ⟨l0, l1, l2, l3, s, d, m, 3, 1, by omega, (by unfold m_rg; omega), by omega, by omega, by omega, by decide, by decide, by decide, by decide, (by rw [m_s3]; omega), (by rw [m_s1]; omega), m_Qi (fun q a b _ => m_Qc0 H q a b trivial) (fun q a b f => by unfold m_cpx; rw [if_neg (fun z => f ⟨rfl, z.1, z.2⟩)]; exact m_Qc1 H q a b trivial) (fun q a b _ => m_Qc2 H q a b trivial) (fun q a b _ => m_Qc3 H q a b trivial), fun q a b => ?_⟩
  rw [m_s1]
  unfold m_cpx
  rw [if_pos ⟨a, b⟩, m_Qc3 H (s + (q - d)) (by omega) (by omega) trivial, show (60 * 3 + (s + (q - d)) : Int) = 60 * 3 + s + q - d by omega]
theorem k_ra031 {a0 : Int → Int} {a1 : Int → Int} {a2 : Int → Int} {a3 : Int → Int} {nn : Int → Int} {i j m r l0 l1 l2 l3 : Int} (p0 : p_PP a0 a1 a2 a3 nn (l0 + 64 * l1 + 4096 * l2 + 262144 * l3 + 16777216 * i + 1073741824 * j + 68719476736 * m + 30786325577728)) (c0 : 0 ≤ l0) (c1 : 0 ≤ (-1) * l0 + 60) (c2 : 0 ≤ l1) (c3 : 0 ≤ (-1) * l1 + 60) (c4 : 0 ≤ l2) (c5 : 0 ≤ (-1) * l2 + 60) (c6 : 0 ≤ l3) (c7 : 0 ≤ (-1) * l3 + 60) (c8 : 0 ≤ i) (c9 : 0 ≤ (-1) * i + 60) (c10 : 0 ≤ j) (c11 : 0 ≤ (-1) * j + 60) (c12 : 0 ≤ m) (c13 : 0 ≤ (-1) * m + 60) (c14 : 0 ≤ l3 + (-1) * i + (-1) * m) (c15 : 0 ≤ l1 + (-1) * j + (-1) * m) (c16 : 0 ≤ r) (c17 : 0 ≤ (-1) * r) (c18 : 0 ≤ i + (-1) * j) : p_GA a0 a1 a2 a3 nn (l0 + 64 * l1 + 4096 * l2 + 262144 * l3 + 16777216 * i + 1073741824 * j + 68719476736 * m + 30786325577728) := by
  exact g_ra0 (t := 3) (u := 1) (i := i) (j := j) (m := m) (l0 := l0) (l1 := l1) (l2 := l2) (l3 := l3) p0 (by omega) (by unfold m_rg; omega) (by omega) (by omega) (by omega) (by decide) (by decide) (by decide) (by decide) (by rw [m_s3]; omega) (by rw [m_s1]; omega) (by omega)
theorem k_rd031 {a0 : Int → Int} {a1 : Int → Int} {a2 : Int → Int} {a3 : Int → Int} {nn : Int → Int} {i j m r l0 l1 l2 l3 : Int} (p0 : p_PP a0 a1 a2 a3 nn (l0 + 64 * l1 + 4096 * l2 + 262144 * l3 + 16777216 * i + 1073741824 * j + 68719476736 * m + 30786325577728)) (c0 : 0 ≤ l0) (c1 : 0 ≤ (-1) * l0 + 60) (c2 : 0 ≤ l1) (c3 : 0 ≤ (-1) * l1 + 60) (c4 : 0 ≤ l2) (c5 : 0 ≤ (-1) * l2 + 60) (c6 : 0 ≤ l3) (c7 : 0 ≤ (-1) * l3 + 60) (c8 : 0 ≤ i) (c9 : 0 ≤ (-1) * i + 60) (c10 : 0 ≤ j) (c11 : 0 ≤ (-1) * j + 60) (c12 : 0 ≤ m) (c13 : 0 ≤ (-1) * m + 60) (c14 : 0 ≤ l3 + (-1) * i + (-1) * m) (c15 : 0 ≤ l1 + (-1) * j + (-1) * m) (c16 : 0 ≤ r + (-1)) (c17 : 0 ≤ j + (-1) * i + (-1)) : p_GD a0 a1 a2 a3 nn (l0 + 64 * l1 + 4096 * l2 + 262144 * l3 + 16777216 * i + 1073741824 * j + 68719476736 * m + 30786325577728) := by
  exact g_rd0 (t := 3) (u := 1) (i := i) (j := j) (m := m) (l0 := l0) (l1 := l1) (l2 := l2) (l3 := l3) p0 (by omega) (by unfold m_rg; omega) (by omega) (by omega) (by omega) (by decide) (by decide) (by decide) (by decide) (by rw [m_s3]; omega) (by rw [m_s1]; omega) (by omega)
theorem k_ra131 {a0 : Int → Int} {a1 : Int → Int} {a2 : Int → Int} {a3 : Int → Int} {nn : Int → Int} {q z i j m k l0 l1 l2 l3 : Int} (i1 : 0 ≤ q) (i2 : q < 240) (p0 : p_GA a0 a1 a2 a3 nn (l0 + 64 * l1 + 4096 * l2 + 262144 * l3 + 16777216 * i + 1073741824 * j + 68719476736 * m + 70368744177664 * k + 30786325577728)) (p1 : p_NL nn (i + k + 256 * z + 2361183241434822607028)) (c0 : 0 ≤ l0) (c1 : 0 ≤ (-1) * l0 + 60) (c2 : 0 ≤ l1) (c3 : 0 ≤ (-1) * l1 + 60) (c4 : 0 ≤ l2) (c5 : 0 ≤ (-1) * l2 + 60) (c6 : 0 ≤ l3) (c7 : 0 ≤ (-1) * l3 + 60) (c8 : 0 ≤ i) (c9 : 0 ≤ (-1) * i + 60) (c10 : 0 ≤ j) (c11 : 0 ≤ (-1) * j + 60) (c12 : 0 ≤ m) (c13 : 0 ≤ (-1) * m + 60) (c14 : 0 ≤ l3 + (-1) * i + (-1) * m) (c15 : 0 ≤ l1 + (-1) * j + (-1) * m) (c16 : 0 ≤ i + (-1) * j) (c17 : 0 ≤ k) (c18 : 0 ≤ m + (-1) * k + (-1)) (c19 : 0 ≤ q + (-1) * j + (-1) * k + (-60)) (c20 : 0 ≤ j + k + (-1) * q + 60) (c21 : 0 ≤ z + 9223372036854775808) (c22 : 0 ≤ (-1) * z + 9223372036854775807) : p_GA a0 a1 a2 a3 (m_up nn q z) (l0 + 64 * l1 + 4096 * l2 + 262144 * l3 + 16777216 * i + 1073741824 * j + 68719476736 * m + 70368744177664 * k + 101155069755392) := by
  have h := g_ra1 (t := 3) (u := 1) (i := i) (j := j) (m := m) (l0 := l0) (l1 := l1) (l2 := l2) (l3 := l3) (k := k) (z := z) (q := q) p0 (by omega) p1 (by omega) (by unfold m_rg; omega) (by omega) (by omega) (by omega) (by decide) (by decide) (by decide) (by decide) (by rw [m_s3]; omega) (by rw [m_s1]; omega) (by omega) (by omega) (by omega) (by omega)
  exact m_eqv (P := fun y => p_GA a0 a1 a2 a3 (m_up nn q z) y) h (by omega)
theorem k_rd131 {a0 : Int → Int} {a1 : Int → Int} {a2 : Int → Int} {a3 : Int → Int} {nn : Int → Int} {q z i j m k l0 l1 l2 l3 : Int} (i1 : 0 ≤ q) (i2 : q < 240) (p0 : p_GD a0 a1 a2 a3 nn (l0 + 64 * l1 + 4096 * l2 + 262144 * l3 + 16777216 * i + 1073741824 * j + 68719476736 * m + 70368744177664 * k + 30786325577728)) (p1 : p_NL nn (i + m + (-1) * k + 256 * z + 2361183241434822607027)) (c0 : 0 ≤ l0) (c1 : 0 ≤ (-1) * l0 + 60) (c2 : 0 ≤ l1) (c3 : 0 ≤ (-1) * l1 + 60) (c4 : 0 ≤ l2) (c5 : 0 ≤ (-1) * l2 + 60) (c6 : 0 ≤ l3) (c7 : 0 ≤ (-1) * l3 + 60) (c8 : 0 ≤ i) (c9 : 0 ≤ (-1) * i + 60) (c10 : 0 ≤ j) (c11 : 0 ≤ (-1) * j + 60) (c12 : 0 ≤ m) (c13 : 0 ≤ (-1) * m + 60) (c14 : 0 ≤ l3 + (-1) * i + (-1) * m) (c15 : 0 ≤ l1 + (-1) * j + (-1) * m) (c16 : 0 ≤ j + (-1) * i + (-1)) (c17 : 0 ≤ k) (c18 : 0 ≤ m + (-1) * k + (-1)) (c19 : 0 ≤ q + (-1) * j + (-1) * m + k + (-59)) (c20 : 0 ≤ j + m + (-1) * k + (-1) * q + 59) (c21 : 0 ≤ z + 9223372036854775808) (c22 : 0 ≤ (-1) * z + 9223372036854775807) : p_GD a0 a1 a2 a3 (m_up nn q z) (l0 + 64 * l1 + 4096 * l2 + 262144 * l3 + 16777216 * i + 1073741824 * j + 68719476736 * m + 70368744177664 * k + 101155069755392) := by
  have h := g_rd1 (t := 3) (u := 1) (i := i) (j := j) (m := m) (l0 := l0) (l1 := l1) (l2 := l2) (l3 := l3) (k := k) (z := z) (q := q) p0 (by omega) p1 (by omega) (by unfold m_rg; omega) (by omega) (by omega) (by omega) (by decide) (by decide) (by decide) (by decide) (by rw [m_s3]; omega) (by rw [m_s1]; omega) (by omega) (by omega) (by omega) (by omega)
  exact m_eqv (P := fun y => p_GD a0 a1 a2 a3 (m_up nn q z) y) h (by omega)
theorem k_ra231 {a0 : Int → Int} {a1 : Int → Int} {a2 : Int → Int} {a3 : Int → Int} {nn : Int → Int} {i j m k l0 l1 l2 l3 : Int} (p0 : p_GA a0 a1 a2 a3 nn (l0 + 64 * l1 + 4096 * l2 + 262144 * l3 + 16777216 * i + 1073741824 * j + 68719476736 * m + 70368744177664 * k + 30786325577728)) (c0 : 0 ≤ l0) (c1 : 0 ≤ (-1) * l0 + 60) (c2 : 0 ≤ l1) (c3 : 0 ≤ (-1) * l1 + 60) (c4 : 0 ≤ l2) (c5 : 0 ≤ (-1) * l2 + 60) (c6 : 0 ≤ l3) (c7 : 0 ≤ (-1) * l3 + 60) (c8 : 0 ≤ i) (c9 : 0 ≤ (-1) * i + 60) (c10 : 0 ≤ j) (c11 : 0 ≤ (-1) * j + 60) (c12 : 0 ≤ m) (c13 : 0 ≤ (-1) * m + 60) (c14 : 0 ≤ l3 + (-1) * i + (-1) * m) (c15 : 0 ≤ l1 + (-1) * j + (-1) * m) (c16 : 0 ≤ k + (-1) * m) (c17 : 0 ≤ (-1) * k + 60) : p_TQ a0 a1 a2 a3 nn (l0 + 64 * l1 + 4096 * l2 + 262144 * l3) := by
  exact g_ra2 (t := 3) (u := 1) (i := i) (j := j) (m := m) (l0 := l0) (l1 := l1) (l2 := l2) (l3 := l3) (k := k) p0 (by omega) (by unfold m_rg; omega) (by omega) (by omega) (by omega) (by decide) (by decide) (by decide) (by decide) (by rw [m_s3]; omega) (by rw [m_s1]; omega) (by omega) rfl
theorem k_rd231 {a0 : Int → Int} {a1 : Int → Int} {a2 : Int → Int} {a3 : Int → Int} {nn : Int → Int} {i j m k l0 l1 l2 l3 : Int} (p0 : p_GD a0 a1 a2 a3 nn (l0 + 64 * l1 + 4096 * l2 + 262144 * l3 + 16777216 * i + 1073741824 * j + 68719476736 * m + 70368744177664 * k + 30786325577728)) (c0 : 0 ≤ l0) (c1 : 0 ≤ (-1) * l0 + 60) (c2 : 0 ≤ l1) (c3 : 0 ≤ (-1) * l1 + 60) (c4 : 0 ≤ l2) (c5 : 0 ≤ (-1) * l2 + 60) (c6 : 0 ≤ l3) (c7 : 0 ≤ (-1) * l3 + 60) (c8 : 0 ≤ i) (c9 : 0 ≤ (-1) * i + 60) (c10 : 0 ≤ j) (c11 : 0 ≤ (-1) * j + 60) (c12 : 0 ≤ m) (c13 : 0 ≤ (-1) * m + 60) (c14 : 0 ≤ l3 + (-1) * i + (-1) * m) (c15 : 0 ≤ l1 + (-1) * j + (-1) * m) (c16 : 0 ≤ k + (-1) * m) (c17 : 0 ≤ (-1) * k + 60) : p_TQ a0 a1 a2 a3 nn (l0 + 64 * l1 + 4096 * l2 + 262144 * l3) := by
  exact g_rd2 (t := 3) (u := 1) (i := i) (j := j) (m := m) (l0 := l0) (l1 := l1) (l2 := l2) (l3 := l3) (k := k) p0 (by omega) (by unfold m_rg; omega) (by omega) (by omega) (by omega) (by decide) (by decide) (by decide) (by decide) (by rw [m_s3]; omega) (by rw [m_s1]; omega) (by omega) rfl
theorem k_pc32 {a0 : Int → Int} {a1 : Int → Int} {a2 : Int → Int} {a3 : Int → Int} {nn : Int → Int} {s d m l0 l1 l2 l3 : Int} (i1 : 0 ≤ s) (i2 : 0 ≤ d) (i3 : 0 ≤ m) (p0 : p_TQ a0 a1 a2 a3 nn (l0 + 64 * l1 + 4096 * l2 + 262144 * l3)) (c0 : 0 ≤ l0) (c1 : 0 ≤ (-1) * l0 + 60) (c2 : 0 ≤ l1) (c3 : 0 ≤ (-1) * l1 + 60) (c4 : 0 ≤ l2) (c5 : 0 ≤ (-1) * l2 + 60) (c6 : 0 ≤ l3) (c7 : 0 ≤ (-1) * l3 + 60) (c8 : 0 ≤ s) (c9 : 0 ≤ d) (c10 : 0 ≤ m) (c11 : 0 ≤ l3 + (-1) * s + (-1) * m) (c12 : 0 ≤ l2 + (-1) * d + (-1) * m) : p_PP a0 a1 (m_cpx a3 a2 s d m) a3 nn (l0 + 64 * l1 + 4096 * l2 + 262144 * l3 + 16777216 * s + 1073741824 * d + 68719476736 * m + 48378511622144) := by
  obtain ⟨k0, k1, k2, k3, e, r, H⟩ := p0
  have rr := r
  unfold m_rg at rr
  obtain ⟨rfl, rfl, rfl, rfl⟩ : l0 = k0 ∧ l1 = k1 ∧ l2 = k2 ∧ l3 = k3 := by omega
  refine ⟨l0, l1, l2, l3, s, d, m, 3, 2, by omega, (by unfold m_rg; omega), by omega, by omega, by omega, by decide, by decide, by decide, by decide, (by rw [m_s3]; omega), (by rw [m_s2]; omega), m_Qi (fun q a b _ => m_Qc0 H q a b trivial) (fun q a b _ => m_Qc1 H q a b trivial) (fun q a b f => by unfold m_cpx; rw [if_neg (fun z => f ⟨rfl, z.1, z.2⟩)]; exact m_Qc2 H q a b trivial) (fun q a b _ => m_Qc3 H q a b trivial), fun q a b => ?_⟩
  rw [m_s2]
  unfold m_cpx
  rw [if_pos ⟨a, b⟩, m_Qc3 H (s + (q - d)) (by omega) (by omega) trivial, show (60 * 3 + (s + (q - d)) : Int) = 60 * 3 + s + q - d by omega]
theorem k_ra032 {a0 : Int → Int} {a1 : Int → Int} {a2 : Int → Int} {a3 : Int → Int} {nn : Int → Int} {i j m r l0 l1 l2 l3 : Int} (p0 : p_PP a0 a1 a2 a3 nn (l0 + 64 * l1 + 4096 * l2 + 262144 * l3 + 16777216 * i + 1073741824 * j + 68719476736 * m + 48378511622144)) (c0 : 0 ≤ l0) (c1 : 0 ≤ (-1) * l0 + 60) (c2 : 0 ≤ l1) (c3 : 0 ≤ (-1) * l1 + 60) (c4 : 0 ≤ l2) (c5 : 0 ≤ (-1) * l2 + 60) (c6 : 0 ≤ l3) (c7 : 0 ≤ (-1) * l3 + 60) (c8 : 0 ≤ i) (c9 : 0 ≤ (-1) * i + 60) (c10 : 0 ≤ j) (c11 : 0 ≤ (-1) * j + 60) (c12 : 0 ≤ m) (c13 : 0 ≤ (-1) * m + 60) (c14 : 0 ≤ l3 + (-1) * i + (-1) * m) (c15 : 0 ≤ l2 + (-1) * j + (-1) * m) (c16 : 0 ≤ r) (c17 : 0 ≤ (-1) * r) (c18 : 0 ≤ i + (-1) * j) : p_GA a0 a1 a2 a3 nn (l0 + 64 * l1 + 4096 * l2 + 262144 * l3 + 16777216 * i + 1073741824 * j + 68719476736 * m + 48378511622144) := by
  exact g_ra0 (t := 3) (u := 2) (i := i) (j := j) (m := m) (l0 := l0) (l1 := l1) (l2 := l2) (l3 := l3) p0 (by omega) (by unfold m_rg; omega) (by omega) (by omega) (by omega) (by decide) (by decide) (by decide) (by decide) (by rw [m_s3]; omega) (by rw [m_s2]; omega) (by omega)
theorem k_rd032 {a0 : Int → Int} {a1 : Int → Int} {a2 : Int → Int} {a3 : Int → Int} {nn : Int → Int} {i j m r l0 l1 l2 l3 : Int} (p0 : p_PP a0 a1 a2 a3 nn (l0 + 64 * l1 + 4096 * l2 + 262144 * l3 + 16777216 * i + 1073741824 * j + 68719476736 * m + 48378511622144)) (c0 : 0 ≤ l0) (c1 : 0 ≤ (-1) * l0 + 60) (c2 : 0 ≤ l1) (c3 : 0 ≤ (-1) * l1 + 60) (c4 : 0 ≤ l2) (c5 : 0 ≤ (-1) * l2 + 60) (c6 : 0 ≤ l3) (c7 : 0 ≤ (-1) * l3 + 60) (c8 : 0 ≤ i) (c9 : 0 ≤ (-1) * i + 60) (c10 : 0 ≤ j) (c11 : 0 ≤ (-1) * j + 60) (c12 : 0 ≤ m) (c13 : 0 ≤ (-1) * m + 60) (c14 : 0 ≤ l3 + (-1) * i + (-1) * m) (c15 : 0 ≤ l2 + (-1) * j + (-1) * m) (c16 : 0 ≤ r + (-1)) (c17 : 0 ≤ j + (-1) * i + (-1)) : p_GD a0 a1 a2 a3 nn (l0 + 64 * l1 + 4096 * l2 + 262144 * l3 + 16777216 * i + 1073741824 * j + 68719476736 * m + 48378511622144) := by
  exact g_rd0 (t := 3) (u := 2) (i := i) (j := j) (m := m) (l0 := l0) (l1 := l1) (l2 := l2) (l3 := l3) p0 (by omega) (by unfold m_rg; omega) (by omega) (by omega) (by omega) (by decide) (by decide) (by decide) (by decide) (by rw [m_s3]; omega) (by rw [m_s2]; omega) (by omega)
theorem k_ra132 {a0 : Int → Int} {a1 : Int → Int} {a2 : Int → Int} {a3 : Int → Int} {nn : Int → Int} {q z i j m k l0 l1 l2 l3 : Int} (i1 : 0 ≤ q) (i2 : q < 240) (p0 : p_GA a0 a1 a2 a3 nn (l0 + 64 * l1 + 4096 * l2 + 262144 * l3 + 16777216 * i + 1073741824 * j + 68719476736 * m + 70368744177664 * k + 48378511622144)) (p1 : p_NL nn (i + k + 256 * z + 2361183241434822607028)) (c0 : 0 ≤ l0) (c1 : 0 ≤ (-1) * l0 + 60) (c2 : 0 ≤ l1) (c3 : 0 ≤ (-1) * l1 + 60) (c4 : 0 ≤ l2) (c5 : 0 ≤ (-1) * l2 + 60) (c6 : 0 ≤ l3) (c7 : 0 ≤ (-1) * l3 + 60) (c8 : 0 ≤ i) (c9 : 0 ≤ (-1) * i + 60) (c10 : 0 ≤ j) (c11 : 0 ≤ (-1) * j + 60) (c12 : 0 ≤ m) (c13 : 0 ≤ (-1) * m + 60) (c14 : 0 ≤ l3 + (-1) * i + (-1) * m) (c15 : 0 ≤ l2 + (-1) * j + (-1) * m) (c16 : 0 ≤ i + (-1) * j) (c17 : 0 ≤ k) (c18 : 0 ≤ m + (-1) * k + (-1)) (c19 : 0 ≤ q + (-1) * j + (-1) * k + (-120)) (c20 : 0 ≤ j + k + (-1) * q + 120) (c21 : 0 ≤ z + 9223372036854775808) (c22 : 0 ≤ (-1) * z + 9223372036854775807) : p_GA a0 a1 a2 a3 (m_up nn q z) (l0 + 64 * l1 + 4096 * l2 + 262144 * l3 + 16777216 * i + 1073741824 * j + 68719476736 * m + 70368744177664 * k + 118747255799808) := by
  have h := g_ra1 (t := 3) (u := 2) (i := i) (j := j) (m := m) (l0 := l0) (l1 := l1) (l2 := l2) (l3 := l3) (k := k) (z := z) (q := q) p0 (by omega) p1 (by omega) (by unfold m_rg; omega) (by omega) (by omega) (by omega) (by decide) (by decide) (by decide) (by decide) (by rw [m_s3]; omega) (by rw [m_s2]; omega) (by omega) (by omega) (by omega) (by omega)
  exact m_eqv (P := fun y => p_GA a0 a1 a2 a3 (m_up nn q z) y) h (by omega)
theorem k_rd132 {a0 : Int → Int} {a1 : Int → Int} {a2 : Int → Int} {a3 : Int → Int} {nn : Int → Int} {q z i j m k l0 l1 l2 l3 : Int} (i1 : 0 ≤ q) (i2 : q < 240) (p0 : p_GD a0 a1 a2 a3 nn (l0 + 64 * l1 + 4096 * l2 + 262144 * l3 + 16777216 * i + 1073741824 * j + 68719476736 * m + 70368744177664 * k + 48378511622144)) (p1 : p_NL nn (i + m + (-1) * k + 256 * z + 2361183241434822607027)) (c0 : 0 ≤ l0) (c1 : 0 ≤ (-1) * l0 + 60) (c2 : 0 ≤ l1) (c3 : 0 ≤ (-1) * l1 + 60) (c4 : 0 ≤ l2) (c5 : 0 ≤ (-1) * l2 + 60) (c6 : 0 ≤ l3) (c7 : 0 ≤ (-1) * l3 + 60) (c8 : 0 ≤ i) (c9 : 0 ≤ (-1) * i + 60) (c10 : 0 ≤ j) (c11 : 0 ≤ (-1) * j + 60) (c12 : 0 ≤ m) (c13 : 0 ≤ (-1) * m + 60) (c14 : 0 ≤ l3 + (-1) * i + (-1) * m) (c15 : 0 ≤ l2 + (-1) * j + (-1) * m) (c16 : 0 ≤ j + (-1) * i + (-1)) (c17 : 0 ≤ k) (c18 : 0 ≤ m + (-1) * k + (-1)) (c19 : 0 ≤ q + (-1) * j + (-1) * m + k + (-119)) (c20 : 0 ≤ j + m + (-1) * k + (-1) * q + 119) (c21 : 0 ≤ z + 9223372036854775808) (c22 : 0 ≤ (-1) * z + 9223372036854775807) : p_GD a0 a1 a2 a3 (m_up nn q z) (l0 + 64 * l1 + 4096 * l2 + 262144 * l3 + 16777216 * i + 1073741824 * j + 68719476736 * m + 70368744177664 * k + 118747255799808) := by
  have h := g_rd1 (t := 3) (u := 2) (i := i) (j := j) (m := m) (l0 := l0) (l1 := l1) (l2 := l2) (l3 := l3) (k := k) (z := z) (q := q) p0 (by omega) p1 (by omega) (by unfold m_rg; omega) (by omega) (by omega) (by omega) (by decide) (by decide) (by decide) (by decide) (by rw [m_s3]; omega) (by rw [m_s2]; omega) (by omega) (by omega) (by omega) (by omega)
  exact m_eqv (P := fun y => p_GD a0 a1 a2 a3 (m_up nn q z) y) h (by omega)
theorem k_ra232 {a0 : Int → Int} {a1 : Int → Int} {a2 : Int → Int} {a3 : Int → Int} {nn : Int → Int} {i j m k l0 l1 l2 l3 : Int} (p0 : p_GA a0 a1 a2 a3 nn (l0 + 64 * l1 + 4096 * l2 + 262144 * l3 + 16777216 * i + 1073741824 * j + 68719476736 * m + 70368744177664 * k + 48378511622144)) (c0 : 0 ≤ l0) (c1 : 0 ≤ (-1) * l0 + 60) (c2 : 0 ≤ l1) (c3 : 0 ≤ (-1) * l1 + 60) (c4 : 0 ≤ l2) (c5 : 0 ≤ (-1) * l2 + 60) (c6 : 0 ≤ l3) (c7 : 0 ≤ (-1) * l3 + 60) (c8 : 0 ≤ i) (c9 : 0 ≤ (-1) * i + 60) (c10 : 0 ≤ j) (c11 : 0 ≤ (-1) * j + 60) (c12 : 0 ≤ m) (c13 : 0 ≤ (-1) * m + 60) (c14 : 0 ≤ l3 + (-1) * i + (-1) * m) (c15 : 0 ≤ l2 + (-1) * j + (-1) * m) (c16 : 0 ≤ k + (-1) * m) (c17 : 0 ≤ (-1) * k + 60) : p_TQ a0 a1 a2 a3 nn (l0 + 64 * l1 + 4096 * l2 + 262144 * l3) := by
  exact g_ra2 (t := 3) (u := 2) (i := i) (j := j) (m := m) (l0 := l0) (l1 := l1) (l2 := l2) (l3 := l3) (k := k) p0 (by omega) (by unfold m_rg; omega) (by omega) (by omega) (by omega) (by decide) (by decide) (by decide) (by decide) (by rw [m_s3]; omega) (by rw [m_s2]; omega) (by omega) rfl
theorem k_rd232 {a0 : Int → Int} {a1 : Int → Int} {a2 : Int → Int} {a3 : Int → Int} {nn : Int → Int} {i j m k l0 l1 l2 l3 : Int} (p0 : p_GD a0 a1 a2 a3 nn (l0 + 64 * l1 + 4096 * l2 + 262144 * l3 + 16777216 * i + 1073741824 * j + 68719476736 * m + 70368744177664 * k + 48378511622144)) (c0 : 0 ≤ l0) (c1 : 0 ≤ (-1) * l0 + 60) (c2 : 0 ≤ l1) (c3 : 0 ≤ (-1) * l1 + 60) (c4 : 0 ≤ l2) (c5 : 0 ≤ (-1) * l2 + 60) (c6 : 0 ≤ l3) (c7 : 0 ≤ (-1) * l3 + 60) (c8 : 0 ≤ i) (c9 : 0 ≤ (-1) * i + 60) (c10 : 0 ≤ j) (c11 : 0 ≤ (-1) * j + 60) (c12 : 0 ≤ m) (c13 : 0 ≤ (-1) * m + 60) (c14 : 0 ≤ l3 + (-1) * i + (-1) * m) (c15 : 0 ≤ l2 + (-1) * j + (-1) * m) (c16 : 0 ≤ k + (-1) * m) (c17 : 0 ≤ (-1) * k + 60) : p_TQ a0 a1 a2 a3 nn (l0 + 64 * l1 + 4096 * l2 + 262144 * l3) := by
  exact g_rd2 (t := 3) (u := 2) (i := i) (j := j) (m := m) (l0 := l0) (l1 := l1) (l2 := l2) (l3 := l3) (k := k) p0 (by omega) (by unfold m_rg; omega) (by omega) (by omega) (by omega) (by decide) (by decide) (by decide) (by decide) (by rw [m_s3]; omega) (by rw [m_s2]; omega) (by omega) rfl
theorem k_pc33 {a0 : Int → Int} {a1 : Int → Int} {a2 : Int → Int} {a3 : Int → Int} {nn : Int → Int} {s d m l0 l1 l2 l3 : Int} (i1 : 0 ≤ s) (i2 : 0 ≤ d) (i3 : 0 ≤ m) (p0 : p_TQ a0 a1 a2 a3 nn (l0 + 64 * l1 + 4096 * l2 + 262144 * l3)) (c0 : 0 ≤ l0) (c1 : 0 ≤ (-1) * l0 + 60) (c2 : 0 ≤ l1) (c3 : 0 ≤ (-1) * l1 + 60) (c4 : 0 ≤ l2) (c5 : 0 ≤ (-1) * l2 + 60) (c6 : 0 ≤ l3) (c7 : 0 ≤ (-1) * l3 + 60) (c8 : 0 ≤ s) (c9 : 0 ≤ d) (c10 : 0 ≤ m) (c11 : 0 ≤ l3 + (-1) * s + (-1) * m) (c12 : 0 ≤ l3 + (-1) * d + (-1) * m) : p_PP a0 a1 a2 (m_cpx a3 a3 s d m) nn (l0 + 64 * l1 + 4096 * l2 + 262144 * l3 + 16777216 * s + 1073741824 * d + 68719476736 * m + 65970697666560) := by
  obtain ⟨k0, k1, k2, k3, e, r, H⟩ := p0
  have rr := r
  unfold m_rg at rr
  obtain ⟨rfl, rfl, rfl, rfl⟩ : l0 = k0 ∧ l1 = k1 ∧ l2 = k2 ∧ l3 = k3 := by omega
  refine ⟨l0, l1, l2, l3, s, d, m, 3, 3, by omega, (by unfold m_rg; omega), by omega, by omega, by omega, by decide, by decide, by decide, by decide, (by rw [m_s3]; omega), (by rw [m_s3]; omega), m_Qi (fun q a b _ => m_Qc0 H q a b trivial) (fun q a b _ => m_Qc1 H q a b trivial) (fun q a b _ => m_Qc2 H q a b trivial) (fun q a b f => by unfold m_cpx; rw [if_neg (fun z => f ⟨rfl, z.1, z.2⟩)]; exact m_Qc3 H q a b trivial), fun q a b => ?_⟩
  rw [m_s3]
  unfold m_cpx
  rw [if_pos ⟨a, b⟩, m_Qc3 H (s + (q - d)) (by omega) (by omega) trivial, show (60 * 3 + (s + (q - d)) : Int) = 60 * 3 + s + q - d by omega]
theorem k_ra033 {a0 : Int → Int} {a1 : Int → Int} {a2 : Int → Int} {a3 : Int → Int} {nn : Int → Int} {i j m r l0 l1 l2 l3 : Int} (p0 : p_PP a0 a1 a2 a3 nn (l0 + 64 * l1 + 4096 * l2 + 262144 * l3 + 16777216 * i + 1073741824 * j + 68719476736 * m + 65970697666560)) (c0 : 0 ≤ l0) (c1 : 0 ≤ (-1) * l0 + 60) (c2 : 0 ≤ l1) (c3 : 0 ≤ (-1) * l1 + 60) (c4 : 0 ≤ l2) (c5 : 0 ≤ (-1) * l2 + 60) (c6 : 0 ≤ l3) (c7 : 0 ≤ (-1) * l3 + 60) (c8 : 0 ≤ i) (c9 : 0 ≤ (-1) * i + 60) (c10 : 0 ≤ j) (c11 : 0 ≤ (-1) * j + 60) (c12 : 0 ≤ m) (c13 : 0 ≤ (-1) * m + 60) (c14 : 0 ≤ l3 + (-1) * i + (-1) * m) (c15 : 0 ≤ l3 + (-1) * j + (-1) * m) (c16 : 0 ≤ r) (c17 : 0 ≤ (-1) * r) (c18 : 0 ≤ i + (-1) * j) : p_GA a0 a1 a2 a3 nn (l0 + 64 * l1 + 4096 * l2 + 262144 * l3 + 16777216 * i + 1073741824 * j + 68719476736 * m + 65970697666560) := by
  exact g_ra0 (t := 3) (u := 3) (i := i) (j := j) (m := m) (l0 := l0) (l1 := l1) (l2 := l2) (l3 := l3) p0 (by omega) (by unfold m_rg; omega) (by omega) (by omega) (by omega) (by decide) (by decide) (by decide) (by decide) (by rw [m_s3]; omega) (by rw [m_s3]; omega) (by omega)
theorem k_rd033 {a0 : Int → Int} {a1 : Int → Int} {a2 : Int → Int} {a3 : Int → Int} {nn : Int → Int} {i j m r l0 l1 l2 l3 : Int} (p0 : p_PP a0 a1 a2 a3 nn (l0 + 64 * l1 + 4096 * l2 + 262144 * l3 + 16777216 * i + 1073741824 * j + 68719476736 * m + 65970697666560)) (c0 : 0 ≤ l0) (c1 : 0 ≤ (-1) * l0 + 60) (c2 : 0 ≤ l1) (c3 : 0 ≤ (-1) * l1 + 60) (c4 : 0 ≤ l2) (c5 : 0 ≤ (-1) * l2 + 60) (c6 : 0 ≤ l3) (c7 : 0 ≤ (-1) * l3 + 60) (c8 : 0 ≤ i) (c9 : 0 ≤ (-1) * i + 60) (c10 : 0 ≤ j) (c11 : 0 ≤ (-1) * j + 60) (c12 : 0 ≤ m) (c13 : 0 ≤ (-1) * m + 60) (c14 : 0 ≤ l3 + (-1) * i + (-1) * m) (c15 : 0 ≤ l3 + (-1) * j + (-1) * m) (c16 : 0 ≤ r + (-1)) (c17 : 0 ≤ j + (-1) * i + (-1)) : p_GD a0 a1 a2 a3 nn (l0 + 64 * l1 + 4096 * l2 + 262144 * l3 + 16777216 * i + 1073741824 * j + 68719476736 * m + 65970697666560) := by
  exact g_rd0 (t := 3) (u := 3) (i := i) (j := j) (m := m) (l0 := l0) (l1 := l1) (l2 := l2) (l3 := l3) p0 (by omega) (by unfold m_rg; omega) (by omega) (by omega) (by omega) (by decide) (by decide) (by decide) (by decide) (by rw [m_s3]; omega) (by rw [m_s3]; omega) (by omega)
theorem k_ra133 {a0 : Int → Int} {a1 : Int → Int} {a2 : Int → Int} {a3 : Int → Int} {nn : Int → Int} {q z i j m k l0 l1 l2 l3 : Int} (i1 : 0 ≤ q) (i2 : q < 240) (p0 : p_GA a0 a1 a2 a3 nn (l0 + 64 * l1 + 4096 * l2 + 262144 * l3 + 16777216 * i + 1073741824 * j + 68719476736 * m + 70368744177664 * k + 65970697666560)) (p1 : p_NL nn (i + k + 256 * z + 2361183241434822607028)) (c0 : 0 ≤ l0) (c1 : 0 ≤ (-1) * l0 + 60) (c2 : 0 ≤ l1) (c3 : 0 ≤ (-1) * l1 + 60) (c4 : 0 ≤ l2) (c5 : 0 ≤ (-1) * l2 + 60) (c6 : 0 ≤ l3) (c7 : 0 ≤ (-1) * l3 + 60) (c8 : 0 ≤ i) (c9 : 0 ≤ (-1) * i + 60) (c10 : 0 ≤ j) (c11 : 0 ≤ (-1) * j + 60) (c12 : 0 ≤ m) (c13 : 0 ≤ (-1) * m + 60) (c14 : 0 ≤ l3 + (-1) * i + (-1) * m) (c15 : 0 ≤ l3 + (-1) * j + (-1) * m) (c16 : 0 ≤ i + (-1) * j) (c17 : 0 ≤ k) (c18 : 0 ≤ m + (-1) * k + (-1)) (c19 : 0 ≤ q + (-1) * j + (-1) * k + (-180)) (c20 : 0 ≤ j + k + (-1) * q + 180) (c21 : 0 ≤ z + 9223372036854775808) (c22 : 0 ≤ (-1) * z + 9223372036854775807) : p_GA a0 a1 a2 a3 (m_up nn q z) (l0 + 64 * l1 + 4096 * l2 + 262144 * l3 + 16777216 * i + 1073741824 * j + 68719476736 * m + 70368744177664 * k + 136339441844224) := by
  have h := g_ra1 (t := 3) (u := 3) (i := i) (j := j) (m := m) (l0 := l0) (l1 := l1) (l2 := l2) (l3 := l3) (k := k) (z := z) (q := q) p0 (by omega) p1 (by omega) (by unfold m_rg; omega) (by omega) (by omega) (by omega) (by decide) (by decide) (by decide) (by decide) (by rw [m_s3]; omega) (by rw [m_s3]; omega) (by omega) (by omega) (by omega) (by omega)
  exact m_eqv (P := fun y => p_GA a0 a1 a2 a3 (m_up nn q z) y) h (by omega)
theorem k_rd133 {a0 : Int → Int} {a1 : Int → Int} {a2 : Int → Int} {a3 : Int → Int} {nn : Int → Int} {q z i j m k l0 l1 l2 l3 : Int} (i1 : 0 ≤ q) (i2 : q < 240) (p0 : p_GD a0 a1 a2 a3 nn (l0 + 64 * l1 + 4096 * l2 + 262144 * l3 + 16777216 * i + 1073741824 * j + 68719476736 * m + 70368744177664 * k + 65970697666560)) (p1 : p_NL nn (i + m + (-1) * k + 256 * z + 2361183241434822607027)) (c0 : 0 ≤ l0) (c1 : 0 ≤ (-1) * l0 + 60) (c2 : 0 ≤ l1) (c3 : 0 ≤ (-1) * l1 + 60) (c4 : 0 ≤ l2) (c5 : 0 ≤ (-1) * l2 + 60) (c6 : 0 ≤ l3) (c7 : 0 ≤ (-1) * l3 + 60) (c8 : 0 ≤ i) (c9 : 0 ≤ (-1) * i + 60) (c10 : 0 ≤ j) (c11 : 0 ≤ (-1) * j + 60) (c12 : 0 ≤ m) (c13 : 0 ≤ (-1) * m + 60) (c14 : 0 ≤ l3 + (-1) * i + (-1) * m) (c15 : 0 ≤ l3 + (-1) * j + (-1) * m) (c16 : 0 ≤ j + (-1) * i + (-1)) (c17 : 0 ≤ k) (c18 : 0 ≤ m + (-1) * k + (-1)) (c19 : 0 ≤ q + (-1) * j + (-1) * m + k + (-179)) (c20 : 0 ≤ j + m + (-1) * k + (-1) * q + 179) (c21 : 0 ≤ z + 9223372036854775808) (c22 : 0 ≤ (-1) * z + 9223372036854775807) : p_GD a0 a1 a2 a3 (m_up nn q z) (l0 + 64 * l1 + 4096 * l2 + 262144 * l3 + 16777216 * i + 1073741824 * j + 68719476736 * m + 70368744177664 * k + 136339441844224) := by
  have h := g_rd1 (t := 3) (u := 3) (i := i) (j := j) (m := m) (l0 := l0) (l1 := l1) (l2 := l2) (l3 := l3) (k := k) (z := z) (q := q) p0 (by omega) p1 (by omega) (by unfold m_rg; omega) (by omega) (by omega) (by omega) (by decide) (by decide) (by decide) (by decide) (by rw [m_s3]; omega) (by rw [m_s3]; omega) (by omega) (by omega) (by omega) (by omega)
  exact m_eqv (P := fun y => p_GD a0 a1 a2 a3 (m_up nn q z) y) h (by omega)
theorem k_ra233 {a0 : Int → Int} {a1 : Int → Int} {a2 : Int → Int} {a3 : Int → Int} {nn : Int → Int} {i j m k l0 l1 l2 l3 : Int} (p0 : p_GA a0 a1 a2 a3 nn (l0 + 64 * l1 + 4096 * l2 + 262144 * l3 + 16777216 * i + 1073741824 * j + 68719476736 * m + 70368744177664 * k + 65970697666560)) (c0 : 0 ≤ l0) (c1 : 0 ≤ (-1) * l0 + 60) (c2 : 0 ≤ l1) (c3 : 0 ≤ (-1) * l1 + 60) (c4 : 0 ≤ l2) (c5 : 0 ≤ (-1) * l2 + 60) (c6 : 0 ≤ l3) (c7 : 0 ≤ (-1) * l3 + 60) (c8 : 0 ≤ i) (c9 : 0 ≤ (-1) * i + 60) (c10 : 0 ≤ j) (c11 : 0 ≤ (-1) * j + 60) (c12 : 0 ≤ m) (c13 : 0 ≤ (-1) * m + 60) (c14 : 0 ≤ l3 + (-1) * i + (-1) * m) (c15 : 0 ≤ l3 + (-1) * j + (-1) * m) (c16 : 0 ≤ k + (-1) * m) (c17 : 0 ≤ (-1) * k + 60) : p_TQ a0 a1 a2 a3 nn (l0 + 64 * l1 + 4096 * l2 + 262144 * l3) := by
  exact g_ra2 (t := 3) (u := 3) (i := i) (j := j) (m := m) (l0 := l0) (l1 := l1) (l2 := l2) (l3 := l3) (k := k) p0 (by omega) (by unfold m_rg; omega) (by omega) (by omega) (by omega) (by decide) (by decide) (by decide) (by decide) (by rw [m_s3]; omega) (by rw [m_s3]; omega) (by omega) rfl
theorem k_rd233 {a0 : Int → Int} {a1 : Int → Int} {a2 : Int → Int} {a3 : Int → Int} {nn : Int → Int} {i j m k l0 l1 l2 l3 : Int} (p0 : p_GD a0 a1 a2 a3 nn (l0 + 64 * l1 + 4096 * l2 + 262144 * l3 + 16777216 * i + 1073741824 * j + 68719476736 * m + 70368744177664 * k + 65970697666560)) (c0 : 0 ≤ l0) (c1 : 0 ≤ (-1) * l0 + 60) (c2 : 0 ≤ l1) (c3 : 0 ≤ (-1) * l1 + 60) (c4 : 0 ≤ l2) (c5 : 0 ≤ (-1) * l2 + 60) (c6 : 0 ≤ l3) (c7 : 0 ≤ (-1) * l3 + 60) (c8 : 0 ≤ i) (c9 : 0 ≤ (-1) * i + 60) (c10 : 0 ≤ j) (c11 : 0 ≤ (-1) * j + 60) (c12 : 0 ≤ m) (c13 : 0 ≤ (-1) * m + 60) (c14 : 0 ≤ l3 + (-1) * i + (-1) * m) (c15 : 0 ≤ l3 + (-1) * j + (-1) * m) (c16 : 0 ≤ k + (-1) * m) (c17 : 0 ≤ (-1) * k + 60) : p_TQ a0 a1 a2 a3 nn (l0 + 64 * l1 + 4096 * l2 + 262144 * l3) := by
  exact g_rd2 (t := 3) (u := 3) (i := i) (j := j) (m := m) (l0 := l0) (l1 := l1) (l2 := l2) (l3 := l3) (k := k) p0 (by omega) (by unfold m_rg; omega) (by omega) (by omega) (by omega) (by decide) (by decide) (by decide) (by decide) (by rw [m_s3]; omega) (by rw [m_s3]; omega) (by omega) rfl
theorem k_nl {nn : Int → Int} {q z : Int} (znn : 0 ≤ q - 0 → q - 0 < 240 → nn (q - 0) = z) (c0 : 0 ≤ q) (c1 : 0 ≤ (-1) * q + 239) (c2 : 0 ≤ z + 9223372036854775808) (c3 : 0 ≤ (-1) * z + 9223372036854775807) : p_NL nn (q + 256 * z + 2361183241434822606848) := by
  have h := znn (by omega) (by omega)
  rw [show q - 0 = q by omega] at h
  exact ⟨q, z, by omega, c0, by omega, c2, h⟩
