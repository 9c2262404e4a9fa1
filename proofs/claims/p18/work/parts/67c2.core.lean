-- 67c2.core: the texts' rules in numbers (printed by wip/p5/gen68.py)
theorem k_xnc {qn : Int} {qk : Int} {qs : Int} {qq : Int} {qv : Int} {ba : Int → Int} (hqn : 0 ≤ qn ∧ qn ≤ 900) (hqk : 0 ≤ qk ∧ qk ≤ 4) (hqs : 0 ≤ qs ∧ qs ≤ 900) (hqq : 0 ≤ qq ∧ qq ≤ 900) (hba : ∀ i, -128 ≤ ba i ∧ ba i ≤ 127) {s q kk : Int} (p0 : p_CU ba qk qs qq qn qv (s)) (p1 : kk = qk) (p2 : q = qq) (c0 : 0 ≤ q + (-1) * s + (-9)) (c1 : 0 ≤ s) (c2 : 0 ≤ (-1) * s + 900) : p_XN ba qn (s) := by
  obtain ⟨uA, u0, u1, u2, u3⟩ := p0
  refine ⟨by omega, ?_⟩
  rw [m_ntz m_nmk_t]
  rintro ⟨k1, k2, k3⟩
  omega
theorem k_xwr0 {p : Int} (c0 : 0 ≤ p) (c1 : 0 ≤ (-1) * p) : p_XW (493192) := by
  trivial
theorem k_nrl0a {qn : Int} {qk : Int} {qs : Int} {qq : Int} {qv : Int} {ba : Int → Int} (hqn : 0 ≤ qn ∧ qn ≤ 900) (hqk : 0 ≤ qk ∧ qk ≤ 4) (hqs : 0 ≤ qs ∧ qs ≤ 900) (hqq : 0 ≤ qq ∧ qq ≤ 900) (hba : ∀ i, -128 ≤ ba i ∧ ba i ≤ 127) {F s q kk p : Int} (p0 : p_NR ba qn (F)) (p1 : p_CU ba qk qs qq qn qv (s)) (p2 : kk = qk) (p3 : q = qq) (c0 : 0 ≤ p) (c1 : 0 ≤ (-1) * p) (c2 : 0 ≤ F + (-1) * s) (c3 : 0 ≤ s + (-1) * F) (c4 : 0 ≤ s + (-1) * q + 3) (c5 : 0 ≤ s) (c6 : 0 ≤ (-1) * s + 900) : p_NR ba qn (F + 1024) := by
  obtain ⟨uA, u0, u1, u2, u3⟩ := p1
  obtain ⟨s0, j0, e0, f1, f2, f3, f4⟩ := p0
  obtain ⟨rfl, rfl⟩ : s0 = s ∧ j0 = 0 := by omega
  refine ⟨s0, 0 + 1, by omega, by omega, by omega, by omega, fun i a w hw => ?_⟩
  by_cases k : (i : Int) < 0
  · exact f4 i k w hw
  · obtain rfl : i = 0 := by omega
    obtain rfl : 493192 = w := Option.some.inj hw
    intro hh
    have g := m_wi_len (k := 3) (show (32 : Int) ^ 3 ≤ 493192 by decide) (show (493192 : Int) < 32 ^ 4 by decide) hh
    omega
theorem k_nrl0b {qn : Int} {qk : Int} {qs : Int} {qq : Int} {qv : Int} {ba : Int → Int} (hqn : 0 ≤ qn ∧ qn ≤ 900) (hqk : 0 ≤ qk ∧ qk ≤ 4) (hqs : 0 ≤ qs ∧ qs ≤ 900) (hqq : 0 ≤ qq ∧ qq ≤ 900) (hba : ∀ i, -128 ≤ ba i ∧ ba i ≤ 127) {F s q kk p : Int} (p0 : p_NR ba qn (F)) (p1 : p_CU ba qk qs qq qn qv (s)) (p2 : kk = qk) (p3 : q = qq) (c0 : 0 ≤ p) (c1 : 0 ≤ (-1) * p) (c2 : 0 ≤ F + (-1) * s) (c3 : 0 ≤ s + (-1) * F) (c4 : 0 ≤ q + (-1) * s + (-5)) (c5 : 0 ≤ s) (c6 : 0 ≤ (-1) * s + 900) : p_NR ba qn (F + 1024) := by
  obtain ⟨uA, u0, u1, u2, u3⟩ := p1
  obtain ⟨s0, j0, e0, f1, f2, f3, f4⟩ := p0
  obtain ⟨rfl, rfl⟩ : s0 = s ∧ j0 = 0 := by omega
  refine ⟨s0, 0 + 1, by omega, by omega, by omega, by omega, fun i a w hw => ?_⟩
  by_cases k : (i : Int) < 0
  · exact f4 i k w hw
  · obtain rfl : i = 0 := by omega
    obtain rfl : 493192 = w := Option.some.inj hw
    intro hh
    have g := m_wi_len (k := 3) (show (32 : Int) ^ 3 ≤ 493192 by decide) (show (493192 : Int) < 32 ^ 4 by decide) hh
    omega
theorem k_nrn0 {qn : Int} {ba : Int → Int} (hqn : 0 ≤ qn ∧ qn ≤ 900) (hba : ∀ i, -128 ≤ ba i ∧ ba i ≤ 127) {F G s p : Int} (p0 : p_NR ba qn (F)) (p1 : p_NI ba qn (G)) (c0 : 0 ≤ p) (c1 : 0 ≤ (-1) * p) (c2 : 0 ≤ F + (-1) * s) (c3 : 0 ≤ s + (-1) * F) (c4 : 0 ≤ G + (-1099511627776) * s + (-493192)) (c5 : 0 ≤ 1099511627776 * s + (-1) * G + 493192) (c6 : 0 ≤ s) (c7 : 0 ≤ (-1) * s + 900) : p_NR ba qn (F + 1024) := by
  obtain ⟨w1, s2, y1, y2, y3, y4, hw1⟩ := p1
  obtain rfl : s2 = s := by omega
  obtain rfl : w1 = 493192 := by omega
  obtain ⟨s0, j0, e0, f1, f2, f3, f4⟩ := p0
  obtain ⟨rfl, rfl⟩ : s0 = s2 ∧ j0 = 0 := by omega
  refine ⟨s0, 0 + 1, by omega, by omega, by omega, by omega, fun i a w hw => ?_⟩
  by_cases k : (i : Int) < 0
  · exact f4 i k w hw
  · obtain rfl : i = 0 := by omega
    obtain rfl : 493192 = w := Option.some.inj hw
    exact hw1
theorem k_xnr0 {qn : Int} {ba : Int → Int} (hqn : 0 ≤ qn ∧ qn ≤ 900) (hba : ∀ i, -128 ≤ ba i ∧ ba i ≤ 127) {G s : Int} (p0 : p_WI ba qn (G)) (c0 : 0 ≤ G + (-1099511627776) * s + (-493192)) (c1 : 0 ≤ 1099511627776 * s + (-1) * G + 493192) (c2 : 0 ≤ s) (c3 : 0 ≤ (-1) * s + 900) : p_XN ba qn (s) := by
  obtain ⟨w1, s2, y1, y2, y3, y4, hw1⟩ := p0
  obtain rfl : s2 = s := by omega
  obtain rfl : w1 = 493192 := by omega
  refine ⟨by omega, ?_⟩
  rw [m_ntz m_nmk_t]
  rintro ⟨k1, k2, k3⟩
  exact k3 493192 (by decide) hw1.2
theorem k_xwr1 {p : Int} (c0 : 0 ≤ p + (-5)) (c1 : 0 ≤ (-1) * p + 5) : p_XW (215533) := by
  trivial
theorem k_nrl1a {qn : Int} {qk : Int} {qs : Int} {qq : Int} {qv : Int} {ba : Int → Int} (hqn : 0 ≤ qn ∧ qn ≤ 900) (hqk : 0 ≤ qk ∧ qk ≤ 4) (hqs : 0 ≤ qs ∧ qs ≤ 900) (hqq : 0 ≤ qq ∧ qq ≤ 900) (hba : ∀ i, -128 ≤ ba i ∧ ba i ≤ 127) {F s q kk p : Int} (p0 : p_NR ba qn (F)) (p1 : p_CU ba qk qs qq qn qv (s)) (p2 : kk = qk) (p3 : q = qq) (c0 : 0 ≤ p + (-5)) (c1 : 0 ≤ (-1) * p + 5) (c2 : 0 ≤ F + (-1) * s + (-1024)) (c3 : 0 ≤ s + (-1) * F + 1024) (c4 : 0 ≤ s + (-1) * q + 3) (c5 : 0 ≤ s) (c6 : 0 ≤ (-1) * s + 900) : p_NR ba qn (F + 1024) := by
  obtain ⟨uA, u0, u1, u2, u3⟩ := p1
  obtain ⟨s0, j0, e0, f1, f2, f3, f4⟩ := p0
  obtain ⟨rfl, rfl⟩ : s0 = s ∧ j0 = 1 := by omega
  refine ⟨s0, 1 + 1, by omega, by omega, by omega, by omega, fun i a w hw => ?_⟩
  by_cases k : (i : Int) < 1
  · exact f4 i k w hw
  · obtain rfl : i = 1 := by omega
    obtain rfl : 215533 = w := Option.some.inj hw
    intro hh
    have g := m_wi_len (k := 3) (show (32 : Int) ^ 3 ≤ 215533 by decide) (show (215533 : Int) < 32 ^ 4 by decide) hh
    omega
theorem k_nrl1b {qn : Int} {qk : Int} {qs : Int} {qq : Int} {qv : Int} {ba : Int → Int} (hqn : 0 ≤ qn ∧ qn ≤ 900) (hqk : 0 ≤ qk ∧ qk ≤ 4) (hqs : 0 ≤ qs ∧ qs ≤ 900) (hqq : 0 ≤ qq ∧ qq ≤ 900) (hba : ∀ i, -128 ≤ ba i ∧ ba i ≤ 127) {F s q kk p : Int} (p0 : p_NR ba qn (F)) (p1 : p_CU ba qk qs qq qn qv (s)) (p2 : kk = qk) (p3 : q = qq) (c0 : 0 ≤ p + (-5)) (c1 : 0 ≤ (-1) * p + 5) (c2 : 0 ≤ F + (-1) * s + (-1024)) (c3 : 0 ≤ s + (-1) * F + 1024) (c4 : 0 ≤ q + (-1) * s + (-5)) (c5 : 0 ≤ s) (c6 : 0 ≤ (-1) * s + 900) : p_NR ba qn (F + 1024) := by
  obtain ⟨uA, u0, u1, u2, u3⟩ := p1
  obtain ⟨s0, j0, e0, f1, f2, f3, f4⟩ := p0
  obtain ⟨rfl, rfl⟩ : s0 = s ∧ j0 = 1 := by omega
  refine ⟨s0, 1 + 1, by omega, by omega, by omega, by omega, fun i a w hw => ?_⟩
  by_cases k : (i : Int) < 1
  · exact f4 i k w hw
  · obtain rfl : i = 1 := by omega
    obtain rfl : 215533 = w := Option.some.inj hw
    intro hh
    have g := m_wi_len (k := 3) (show (32 : Int) ^ 3 ≤ 215533 by decide) (show (215533 : Int) < 32 ^ 4 by decide) hh
    omega
theorem k_nrn1 {qn : Int} {ba : Int → Int} (hqn : 0 ≤ qn ∧ qn ≤ 900) (hba : ∀ i, -128 ≤ ba i ∧ ba i ≤ 127) {F G s p : Int} (p0 : p_NR ba qn (F)) (p1 : p_NI ba qn (G)) (c0 : 0 ≤ p + (-5)) (c1 : 0 ≤ (-1) * p + 5) (c2 : 0 ≤ F + (-1) * s + (-1024)) (c3 : 0 ≤ s + (-1) * F + 1024) (c4 : 0 ≤ G + (-1099511627776) * s + (-215533)) (c5 : 0 ≤ 1099511627776 * s + (-1) * G + 215533) (c6 : 0 ≤ s) (c7 : 0 ≤ (-1) * s + 900) : p_NR ba qn (F + 1024) := by
  obtain ⟨w1, s2, y1, y2, y3, y4, hw1⟩ := p1
  obtain rfl : s2 = s := by omega
  obtain rfl : w1 = 215533 := by omega
  obtain ⟨s0, j0, e0, f1, f2, f3, f4⟩ := p0
  obtain ⟨rfl, rfl⟩ : s0 = s2 ∧ j0 = 1 := by omega
  refine ⟨s0, 1 + 1, by omega, by omega, by omega, by omega, fun i a w hw => ?_⟩
  by_cases k : (i : Int) < 1
  · exact f4 i k w hw
  · obtain rfl : i = 1 := by omega
    obtain rfl : 215533 = w := Option.some.inj hw
    exact hw1
theorem k_xnr1 {qn : Int} {ba : Int → Int} (hqn : 0 ≤ qn ∧ qn ≤ 900) (hba : ∀ i, -128 ≤ ba i ∧ ba i ≤ 127) {G s : Int} (p0 : p_WI ba qn (G)) (c0 : 0 ≤ G + (-1099511627776) * s + (-215533)) (c1 : 0 ≤ 1099511627776 * s + (-1) * G + 215533) (c2 : 0 ≤ s) (c3 : 0 ≤ (-1) * s + 900) : p_XN ba qn (s) := by
  obtain ⟨w1, s2, y1, y2, y3, y4, hw1⟩ := p0
  obtain rfl : s2 = s := by omega
  obtain rfl : w1 = 215533 := by omega
  refine ⟨by omega, ?_⟩
  rw [m_ntz m_nmk_t]
  rintro ⟨k1, k2, k3⟩
  exact k3 215533 (by decide) hw1.2
theorem k_xwr2 {p : Int} (c0 : 0 ≤ p + (-10)) (c1 : 0 ≤ (-1) * p + 10) : p_XW (117099109) := by
  trivial
theorem k_nrl2a {qn : Int} {qk : Int} {qs : Int} {qq : Int} {qv : Int} {ba : Int → Int} (hqn : 0 ≤ qn ∧ qn ≤ 900) (hqk : 0 ≤ qk ∧ qk ≤ 4) (hqs : 0 ≤ qs ∧ qs ≤ 900) (hqq : 0 ≤ qq ∧ qq ≤ 900) (hba : ∀ i, -128 ≤ ba i ∧ ba i ≤ 127) {F s q kk p : Int} (p0 : p_NR ba qn (F)) (p1 : p_CU ba qk qs qq qn qv (s)) (p2 : kk = qk) (p3 : q = qq) (c0 : 0 ≤ p + (-10)) (c1 : 0 ≤ (-1) * p + 10) (c2 : 0 ≤ F + (-1) * s + (-2048)) (c3 : 0 ≤ s + (-1) * F + 2048) (c4 : 0 ≤ s + (-1) * q + 5) (c5 : 0 ≤ s) (c6 : 0 ≤ (-1) * s + 900) : p_NR ba qn (F + 1024) := by
  obtain ⟨uA, u0, u1, u2, u3⟩ := p1
  obtain ⟨s0, j0, e0, f1, f2, f3, f4⟩ := p0
  obtain ⟨rfl, rfl⟩ : s0 = s ∧ j0 = 2 := by omega
  refine ⟨s0, 2 + 1, by omega, by omega, by omega, by omega, fun i a w hw => ?_⟩
  by_cases k : (i : Int) < 2
  · exact f4 i k w hw
  · obtain rfl : i = 2 := by omega
    obtain rfl : 117099109 = w := Option.some.inj hw
    intro hh
    have g := m_wi_len (k := 5) (show (32 : Int) ^ 5 ≤ 117099109 by decide) (show (117099109 : Int) < 32 ^ 6 by decide) hh
    omega
theorem k_nrl2b {qn : Int} {qk : Int} {qs : Int} {qq : Int} {qv : Int} {ba : Int → Int} (hqn : 0 ≤ qn ∧ qn ≤ 900) (hqk : 0 ≤ qk ∧ qk ≤ 4) (hqs : 0 ≤ qs ∧ qs ≤ 900) (hqq : 0 ≤ qq ∧ qq ≤ 900) (hba : ∀ i, -128 ≤ ba i ∧ ba i ≤ 127) {F s q kk p : Int} (p0 : p_NR ba qn (F)) (p1 : p_CU ba qk qs qq qn qv (s)) (p2 : kk = qk) (p3 : q = qq) (c0 : 0 ≤ p + (-10)) (c1 : 0 ≤ (-1) * p + 10) (c2 : 0 ≤ F + (-1) * s + (-2048)) (c3 : 0 ≤ s + (-1) * F + 2048) (c4 : 0 ≤ q + (-1) * s + (-7)) (c5 : 0 ≤ s) (c6 : 0 ≤ (-1) * s + 900) : p_NR ba qn (F + 1024) := by
  obtain ⟨uA, u0, u1, u2, u3⟩ := p1
  obtain ⟨s0, j0, e0, f1, f2, f3, f4⟩ := p0
  obtain ⟨rfl, rfl⟩ : s0 = s ∧ j0 = 2 := by omega
  refine ⟨s0, 2 + 1, by omega, by omega, by omega, by omega, fun i a w hw => ?_⟩
  by_cases k : (i : Int) < 2
  · exact f4 i k w hw
  · obtain rfl : i = 2 := by omega
    obtain rfl : 117099109 = w := Option.some.inj hw
    intro hh
    have g := m_wi_len (k := 5) (show (32 : Int) ^ 5 ≤ 117099109 by decide) (show (117099109 : Int) < 32 ^ 6 by decide) hh
    omega
theorem k_nrn2 {qn : Int} {ba : Int → Int} (hqn : 0 ≤ qn ∧ qn ≤ 900) (hba : ∀ i, -128 ≤ ba i ∧ ba i ≤ 127) {F G s p : Int} (p0 : p_NR ba qn (F)) (p1 : p_NI ba qn (G)) (c0 : 0 ≤ p + (-10)) (c1 : 0 ≤ (-1) * p + 10) (c2 : 0 ≤ F + (-1) * s + (-2048)) (c3 : 0 ≤ s + (-1) * F + 2048) (c4 : 0 ≤ G + (-1099511627776) * s + (-117099109)) (c5 : 0 ≤ 1099511627776 * s + (-1) * G + 117099109) (c6 : 0 ≤ s) (c7 : 0 ≤ (-1) * s + 900) : p_NR ba qn (F + 1024) := by
  obtain ⟨w1, s2, y1, y2, y3, y4, hw1⟩ := p1
  obtain rfl : s2 = s := by omega
  obtain rfl : w1 = 117099109 := by omega
  obtain ⟨s0, j0, e0, f1, f2, f3, f4⟩ := p0
  obtain ⟨rfl, rfl⟩ : s0 = s2 ∧ j0 = 2 := by omega
  refine ⟨s0, 2 + 1, by omega, by omega, by omega, by omega, fun i a w hw => ?_⟩
  by_cases k : (i : Int) < 2
  · exact f4 i k w hw
  · obtain rfl : i = 2 := by omega
    obtain rfl : 117099109 = w := Option.some.inj hw
    exact hw1
theorem k_xnr2 {qn : Int} {ba : Int → Int} (hqn : 0 ≤ qn ∧ qn ≤ 900) (hba : ∀ i, -128 ≤ ba i ∧ ba i ≤ 127) {G s : Int} (p0 : p_WI ba qn (G)) (c0 : 0 ≤ G + (-1099511627776) * s + (-117099109)) (c1 : 0 ≤ 1099511627776 * s + (-1) * G + 117099109) (c2 : 0 ≤ s) (c3 : 0 ≤ (-1) * s + 900) : p_XN ba qn (s) := by
  obtain ⟨w1, s2, y1, y2, y3, y4, hw1⟩ := p0
  obtain rfl : s2 = s := by omega
  obtain rfl : w1 = 117099109 := by omega
  refine ⟨by omega, ?_⟩
  rw [m_ntz m_nmk_t]
  rintro ⟨k1, k2, k3⟩
  exact k3 117099109 (by decide) hw1.2
theorem k_xwr3 {p : Int} (c0 : 0 ≤ p + (-17)) (c1 : 0 ≤ (-1) * p + 17) : p_XW (13684206) := by
  trivial
theorem k_nrl3a {qn : Int} {qk : Int} {qs : Int} {qq : Int} {qv : Int} {ba : Int → Int} (hqn : 0 ≤ qn ∧ qn ≤ 900) (hqk : 0 ≤ qk ∧ qk ≤ 4) (hqs : 0 ≤ qs ∧ qs ≤ 900) (hqq : 0 ≤ qq ∧ qq ≤ 900) (hba : ∀ i, -128 ≤ ba i ∧ ba i ≤ 127) {F s q kk p : Int} (p0 : p_NR ba qn (F)) (p1 : p_CU ba qk qs qq qn qv (s)) (p2 : kk = qk) (p3 : q = qq) (c0 : 0 ≤ p + (-17)) (c1 : 0 ≤ (-1) * p + 17) (c2 : 0 ≤ F + (-1) * s + (-3072)) (c3 : 0 ≤ s + (-1) * F + 3072) (c4 : 0 ≤ s + (-1) * q + 4) (c5 : 0 ≤ s) (c6 : 0 ≤ (-1) * s + 900) : p_NR ba qn (F + 1024) := by
  obtain ⟨uA, u0, u1, u2, u3⟩ := p1
  obtain ⟨s0, j0, e0, f1, f2, f3, f4⟩ := p0
  obtain ⟨rfl, rfl⟩ : s0 = s ∧ j0 = 3 := by omega
  refine ⟨s0, 3 + 1, by omega, by omega, by omega, by omega, fun i a w hw => ?_⟩
  by_cases k : (i : Int) < 3
  · exact f4 i k w hw
  · obtain rfl : i = 3 := by omega
    obtain rfl : 13684206 = w := Option.some.inj hw
    intro hh
    have g := m_wi_len (k := 4) (show (32 : Int) ^ 4 ≤ 13684206 by decide) (show (13684206 : Int) < 32 ^ 5 by decide) hh
    omega
theorem k_nrl3b {qn : Int} {qk : Int} {qs : Int} {qq : Int} {qv : Int} {ba : Int → Int} (hqn : 0 ≤ qn ∧ qn ≤ 900) (hqk : 0 ≤ qk ∧ qk ≤ 4) (hqs : 0 ≤ qs ∧ qs ≤ 900) (hqq : 0 ≤ qq ∧ qq ≤ 900) (hba : ∀ i, -128 ≤ ba i ∧ ba i ≤ 127) {F s q kk p : Int} (p0 : p_NR ba qn (F)) (p1 : p_CU ba qk qs qq qn qv (s)) (p2 : kk = qk) (p3 : q = qq) (c0 : 0 ≤ p + (-17)) (c1 : 0 ≤ (-1) * p + 17) (c2 : 0 ≤ F + (-1) * s + (-3072)) (c3 : 0 ≤ s + (-1) * F + 3072) (c4 : 0 ≤ q + (-1) * s + (-6)) (c5 : 0 ≤ s) (c6 : 0 ≤ (-1) * s + 900) : p_NR ba qn (F + 1024) := by
  obtain ⟨uA, u0, u1, u2, u3⟩ := p1
  obtain ⟨s0, j0, e0, f1, f2, f3, f4⟩ := p0
  obtain ⟨rfl, rfl⟩ : s0 = s ∧ j0 = 3 := by omega
  refine ⟨s0, 3 + 1, by omega, by omega, by omega, by omega, fun i a w hw => ?_⟩
  by_cases k : (i : Int) < 3
  · exact f4 i k w hw
  · obtain rfl : i = 3 := by omega
    obtain rfl : 13684206 = w := Option.some.inj hw
    intro hh
    have g := m_wi_len (k := 4) (show (32 : Int) ^ 4 ≤ 13684206 by decide) (show (13684206 : Int) < 32 ^ 5 by decide) hh
    omega
theorem k_nrn3 {qn : Int} {ba : Int → Int} (hqn : 0 ≤ qn ∧ qn ≤ 900) (hba : ∀ i, -128 ≤ ba i ∧ ba i ≤ 127) {F G s p : Int} (p0 : p_NR ba qn (F)) (p1 : p_NI ba qn (G)) (c0 : 0 ≤ p + (-17)) (c1 : 0 ≤ (-1) * p + 17) (c2 : 0 ≤ F + (-1) * s + (-3072)) (c3 : 0 ≤ s + (-1) * F + 3072) (c4 : 0 ≤ G + (-1099511627776) * s + (-13684206)) (c5 : 0 ≤ 1099511627776 * s + (-1) * G + 13684206) (c6 : 0 ≤ s) (c7 : 0 ≤ (-1) * s + 900) : p_NR ba qn (F + 1024) := by
  obtain ⟨w1, s2, y1, y2, y3, y4, hw1⟩ := p1
  obtain rfl : s2 = s := by omega
  obtain rfl : w1 = 13684206 := by omega
  obtain ⟨s0, j0, e0, f1, f2, f3, f4⟩ := p0
  obtain ⟨rfl, rfl⟩ : s0 = s2 ∧ j0 = 3 := by omega
  refine ⟨s0, 3 + 1, by omega, by omega, by omega, by omega, fun i a w hw => ?_⟩
  by_cases k : (i : Int) < 3
  · exact f4 i k w hw
  · obtain rfl : i = 3 := by omega
    obtain rfl : 13684206 = w := Option.some.inj hw
    exact hw1
theorem k_xnr3 {qn : Int} {ba : Int → Int} (hqn : 0 ≤ qn ∧ qn ≤ 900) (hba : ∀ i, -128 ≤ ba i ∧ ba i ≤ 127) {G s : Int} (p0 : p_WI ba qn (G)) (c0 : 0 ≤ G + (-1099511627776) * s + (-13684206)) (c1 : 0 ≤ 1099511627776 * s + (-1) * G + 13684206) (c2 : 0 ≤ s) (c3 : 0 ≤ (-1) * s + 900) : p_XN ba qn (s) := by
  obtain ⟨w1, s2, y1, y2, y3, y4, hw1⟩ := p0
  obtain rfl : s2 = s := by omega
  obtain rfl : w1 = 13684206 := by omega
  refine ⟨by omega, ?_⟩
  rw [m_ntz m_nmk_t]
  rintro ⟨k1, k2, k3⟩
  exact k3 13684206 (by decide) hw1.2
theorem k_xwr4 {p : Int} (c0 : 0 ≤ p + (-23)) (c1 : 0 ≤ (-1) * p + 23) : p_XW (395059) := by
  trivial
theorem k_nrl4a {qn : Int} {qk : Int} {qs : Int} {qq : Int} {qv : Int} {ba : Int → Int} (hqn : 0 ≤ qn ∧ qn ≤ 900) (hqk : 0 ≤ qk ∧ qk ≤ 4) (hqs : 0 ≤ qs ∧ qs ≤ 900) (hqq : 0 ≤ qq ∧ qq ≤ 900) (hba : ∀ i, -128 ≤ ba i ∧ ba i ≤ 127) {F s q kk p : Int} (p0 : p_NR ba qn (F)) (p1 : p_CU ba qk qs qq qn qv (s)) (p2 : kk = qk) (p3 : q = qq) (c0 : 0 ≤ p + (-23)) (c1 : 0 ≤ (-1) * p + 23) (c2 : 0 ≤ F + (-1) * s + (-4096)) (c3 : 0 ≤ s + (-1) * F + 4096) (c4 : 0 ≤ s + (-1) * q + 3) (c5 : 0 ≤ s) (c6 : 0 ≤ (-1) * s + 900) : p_NR ba qn (F + 1024) := by
  obtain ⟨uA, u0, u1, u2, u3⟩ := p1
  obtain ⟨s0, j0, e0, f1, f2, f3, f4⟩ := p0
  obtain ⟨rfl, rfl⟩ : s0 = s ∧ j0 = 4 := by omega
  refine ⟨s0, 4 + 1, by omega, by omega, by omega, by omega, fun i a w hw => ?_⟩
  by_cases k : (i : Int) < 4
  · exact f4 i k w hw
  · obtain rfl : i = 4 := by omega
    obtain rfl : 395059 = w := Option.some.inj hw
    intro hh
    have g := m_wi_len (k := 3) (show (32 : Int) ^ 3 ≤ 395059 by decide) (show (395059 : Int) < 32 ^ 4 by decide) hh
    omega
theorem k_nrl4b {qn : Int} {qk : Int} {qs : Int} {qq : Int} {qv : Int} {ba : Int → Int} (hqn : 0 ≤ qn ∧ qn ≤ 900) (hqk : 0 ≤ qk ∧ qk ≤ 4) (hqs : 0 ≤ qs ∧ qs ≤ 900) (hqq : 0 ≤ qq ∧ qq ≤ 900) (hba : ∀ i, -128 ≤ ba i ∧ ba i ≤ 127) {F s q kk p : Int} (p0 : p_NR ba qn (F)) (p1 : p_CU ba qk qs qq qn qv (s)) (p2 : kk = qk) (p3 : q = qq) (c0 : 0 ≤ p + (-23)) (c1 : 0 ≤ (-1) * p + 23) (c2 : 0 ≤ F + (-1) * s + (-4096)) (c3 : 0 ≤ s + (-1) * F + 4096) (c4 : 0 ≤ q + (-1) * s + (-5)) (c5 : 0 ≤ s) (c6 : 0 ≤ (-1) * s + 900) : p_NR ba qn (F + 1024) := by
  obtain ⟨uA, u0, u1, u2, u3⟩ := p1
  obtain ⟨s0, j0, e0, f1, f2, f3, f4⟩ := p0
  obtain ⟨rfl, rfl⟩ : s0 = s ∧ j0 = 4 := by omega
  refine ⟨s0, 4 + 1, by omega, by omega, by omega, by omega, fun i a w hw => ?_⟩
  by_cases k : (i : Int) < 4
  · exact f4 i k w hw
  · obtain rfl : i = 4 := by omega
    obtain rfl : 395059 = w := Option.some.inj hw
    intro hh
    have g := m_wi_len (k := 3) (show (32 : Int) ^ 3 ≤ 395059 by decide) (show (395059 : Int) < 32 ^ 4 by decide) hh
    omega
theorem k_nrn4 {qn : Int} {ba : Int → Int} (hqn : 0 ≤ qn ∧ qn ≤ 900) (hba : ∀ i, -128 ≤ ba i ∧ ba i ≤ 127) {F G s p : Int} (p0 : p_NR ba qn (F)) (p1 : p_NI ba qn (G)) (c0 : 0 ≤ p + (-23)) (c1 : 0 ≤ (-1) * p + 23) (c2 : 0 ≤ F + (-1) * s + (-4096)) (c3 : 0 ≤ s + (-1) * F + 4096) (c4 : 0 ≤ G + (-1099511627776) * s + (-395059)) (c5 : 0 ≤ 1099511627776 * s + (-1) * G + 395059) (c6 : 0 ≤ s) (c7 : 0 ≤ (-1) * s + 900) : p_NR ba qn (F + 1024) := by
  obtain ⟨w1, s2, y1, y2, y3, y4, hw1⟩ := p1
  obtain rfl : s2 = s := by omega
  obtain rfl : w1 = 395059 := by omega
  obtain ⟨s0, j0, e0, f1, f2, f3, f4⟩ := p0
  obtain ⟨rfl, rfl⟩ : s0 = s2 ∧ j0 = 4 := by omega
  refine ⟨s0, 4 + 1, by omega, by omega, by omega, by omega, fun i a w hw => ?_⟩
  by_cases k : (i : Int) < 4
  · exact f4 i k w hw
  · obtain rfl : i = 4 := by omega
    obtain rfl : 395059 = w := Option.some.inj hw
    exact hw1
theorem k_xnr4 {qn : Int} {ba : Int → Int} (hqn : 0 ≤ qn ∧ qn ≤ 900) (hba : ∀ i, -128 ≤ ba i ∧ ba i ≤ 127) {G s : Int} (p0 : p_WI ba qn (G)) (c0 : 0 ≤ G + (-1099511627776) * s + (-395059)) (c1 : 0 ≤ 1099511627776 * s + (-1) * G + 395059) (c2 : 0 ≤ s) (c3 : 0 ≤ (-1) * s + 900) : p_XN ba qn (s) := by
  obtain ⟨w1, s2, y1, y2, y3, y4, hw1⟩ := p0
  obtain rfl : s2 = s := by omega
  obtain rfl : w1 = 395059 := by omega
  refine ⟨by omega, ?_⟩
  rw [m_ntz m_nmk_t]
  rintro ⟨k1, k2, k3⟩
  exact k3 395059 (by decide) hw1.2
theorem k_xwr5 {p : Int} (c0 : 0 ≤ p + (-28)) (c1 : 0 ≤ (-1) * p + 28) : p_XW (3657363) := by
  trivial
theorem k_nrl5a {qn : Int} {qk : Int} {qs : Int} {qq : Int} {qv : Int} {ba : Int → Int} (hqn : 0 ≤ qn ∧ qn ≤ 900) (hqk : 0 ≤ qk ∧ qk ≤ 4) (hqs : 0 ≤ qs ∧ qs ≤ 900) (hqq : 0 ≤ qq ∧ qq ≤ 900) (hba : ∀ i, -128 ≤ ba i ∧ ba i ≤ 127) {F s q kk p : Int} (p0 : p_NR ba qn (F)) (p1 : p_CU ba qk qs qq qn qv (s)) (p2 : kk = qk) (p3 : q = qq) (c0 : 0 ≤ p + (-28)) (c1 : 0 ≤ (-1) * p + 28) (c2 : 0 ≤ F + (-1) * s + (-5120)) (c3 : 0 ≤ s + (-1) * F + 5120) (c4 : 0 ≤ s + (-1) * q + 4) (c5 : 0 ≤ s) (c6 : 0 ≤ (-1) * s + 900) : p_NR ba qn (F + 1024) := by
  obtain ⟨uA, u0, u1, u2, u3⟩ := p1
  obtain ⟨s0, j0, e0, f1, f2, f3, f4⟩ := p0
  obtain ⟨rfl, rfl⟩ : s0 = s ∧ j0 = 5 := by omega
  refine ⟨s0, 5 + 1, by omega, by omega, by omega, by omega, fun i a w hw => ?_⟩
  by_cases k : (i : Int) < 5
  · exact f4 i k w hw
  · obtain rfl : i = 5 := by omega
    obtain rfl : 3657363 = w := Option.some.inj hw
    intro hh
    have g := m_wi_len (k := 4) (show (32 : Int) ^ 4 ≤ 3657363 by decide) (show (3657363 : Int) < 32 ^ 5 by decide) hh
    omega
theorem k_nrl5b {qn : Int} {qk : Int} {qs : Int} {qq : Int} {qv : Int} {ba : Int → Int} (hqn : 0 ≤ qn ∧ qn ≤ 900) (hqk : 0 ≤ qk ∧ qk ≤ 4) (hqs : 0 ≤ qs ∧ qs ≤ 900) (hqq : 0 ≤ qq ∧ qq ≤ 900) (hba : ∀ i, -128 ≤ ba i ∧ ba i ≤ 127) {F s q kk p : Int} (p0 : p_NR ba qn (F)) (p1 : p_CU ba qk qs qq qn qv (s)) (p2 : kk = qk) (p3 : q = qq) (c0 : 0 ≤ p + (-28)) (c1 : 0 ≤ (-1) * p + 28) (c2 : 0 ≤ F + (-1) * s + (-5120)) (c3 : 0 ≤ s + (-1) * F + 5120) (c4 : 0 ≤ q + (-1) * s + (-6)) (c5 : 0 ≤ s) (c6 : 0 ≤ (-1) * s + 900) : p_NR ba qn (F + 1024) := by
  obtain ⟨uA, u0, u1, u2, u3⟩ := p1
  obtain ⟨s0, j0, e0, f1, f2, f3, f4⟩ := p0
  obtain ⟨rfl, rfl⟩ : s0 = s ∧ j0 = 5 := by omega
  refine ⟨s0, 5 + 1, by omega, by omega, by omega, by omega, fun i a w hw => ?_⟩
  by_cases k : (i : Int) < 5
  · exact f4 i k w hw
  · obtain rfl : i = 5 := by omega
    obtain rfl : 3657363 = w := Option.some.inj hw
    intro hh
    have g := m_wi_len (k := 4) (show (32 : Int) ^ 4 ≤ 3657363 by decide) (show (3657363 : Int) < 32 ^ 5 by decide) hh
    omega
theorem k_nrn5 {qn : Int} {ba : Int → Int} (hqn : 0 ≤ qn ∧ qn ≤ 900) (hba : ∀ i, -128 ≤ ba i ∧ ba i ≤ 127) {F G s p : Int} (p0 : p_NR ba qn (F)) (p1 : p_NI ba qn (G)) (c0 : 0 ≤ p + (-28)) (c1 : 0 ≤ (-1) * p + 28) (c2 : 0 ≤ F + (-1) * s + (-5120)) (c3 : 0 ≤ s + (-1) * F + 5120) (c4 : 0 ≤ G + (-1099511627776) * s + (-3657363)) (c5 : 0 ≤ 1099511627776 * s + (-1) * G + 3657363) (c6 : 0 ≤ s) (c7 : 0 ≤ (-1) * s + 900) : p_NR ba qn (F + 1024) := by
  obtain ⟨w1, s2, y1, y2, y3, y4, hw1⟩ := p1
  obtain rfl : s2 = s := by omega
  obtain rfl : w1 = 3657363 := by omega
  obtain ⟨s0, j0, e0, f1, f2, f3, f4⟩ := p0
  obtain ⟨rfl, rfl⟩ : s0 = s2 ∧ j0 = 5 := by omega
  refine ⟨s0, 5 + 1, by omega, by omega, by omega, by omega, fun i a w hw => ?_⟩
  by_cases k : (i : Int) < 5
  · exact f4 i k w hw
  · obtain rfl : i = 5 := by omega
    obtain rfl : 3657363 = w := Option.some.inj hw
    exact hw1
theorem k_xnr5 {qn : Int} {ba : Int → Int} (hqn : 0 ≤ qn ∧ qn ≤ 900) (hba : ∀ i, -128 ≤ ba i ∧ ba i ≤ 127) {G s : Int} (p0 : p_WI ba qn (G)) (c0 : 0 ≤ G + (-1099511627776) * s + (-3657363)) (c1 : 0 ≤ 1099511627776 * s + (-1) * G + 3657363) (c2 : 0 ≤ s) (c3 : 0 ≤ (-1) * s + 900) : p_XN ba qn (s) := by
  obtain ⟨w1, s2, y1, y2, y3, y4, hw1⟩ := p0
  obtain rfl : s2 = s := by omega
  obtain rfl : w1 = 3657363 := by omega
  refine ⟨by omega, ?_⟩
  rw [m_ntz m_nmk_t]
  rintro ⟨k1, k2, k3⟩
  exact k3 3657363 (by decide) hw1.2
theorem k_xwr6 {p : Int} (c0 : 0 ≤ p + (-34)) (c1 : 0 ≤ (-1) * p + 34) : p_XW (635184) := by
  trivial
theorem k_nrl6a {qn : Int} {qk : Int} {qs : Int} {qq : Int} {qv : Int} {ba : Int → Int} (hqn : 0 ≤ qn ∧ qn ≤ 900) (hqk : 0 ≤ qk ∧ qk ≤ 4) (hqs : 0 ≤ qs ∧ qs ≤ 900) (hqq : 0 ≤ qq ∧ qq ≤ 900) (hba : ∀ i, -128 ≤ ba i ∧ ba i ≤ 127) {F s q kk p : Int} (p0 : p_NR ba qn (F)) (p1 : p_CU ba qk qs qq qn qv (s)) (p2 : kk = qk) (p3 : q = qq) (c0 : 0 ≤ p + (-34)) (c1 : 0 ≤ (-1) * p + 34) (c2 : 0 ≤ F + (-1) * s + (-6144)) (c3 : 0 ≤ s + (-1) * F + 6144) (c4 : 0 ≤ s + (-1) * q + 3) (c5 : 0 ≤ s) (c6 : 0 ≤ (-1) * s + 900) : p_NR ba qn (F + 1024) := by
  obtain ⟨uA, u0, u1, u2, u3⟩ := p1
  obtain ⟨s0, j0, e0, f1, f2, f3, f4⟩ := p0
  obtain ⟨rfl, rfl⟩ : s0 = s ∧ j0 = 6 := by omega
  refine ⟨s0, 6 + 1, by omega, by omega, by omega, by omega, fun i a w hw => ?_⟩
  by_cases k : (i : Int) < 6
  · exact f4 i k w hw
  · obtain rfl : i = 6 := by omega
    obtain rfl : 635184 = w := Option.some.inj hw
    intro hh
    have g := m_wi_len (k := 3) (show (32 : Int) ^ 3 ≤ 635184 by decide) (show (635184 : Int) < 32 ^ 4 by decide) hh
    omega
theorem k_nrl6b {qn : Int} {qk : Int} {qs : Int} {qq : Int} {qv : Int} {ba : Int → Int} (hqn : 0 ≤ qn ∧ qn ≤ 900) (hqk : 0 ≤ qk ∧ qk ≤ 4) (hqs : 0 ≤ qs ∧ qs ≤ 900) (hqq : 0 ≤ qq ∧ qq ≤ 900) (hba : ∀ i, -128 ≤ ba i ∧ ba i ≤ 127) {F s q kk p : Int} (p0 : p_NR ba qn (F)) (p1 : p_CU ba qk qs qq qn qv (s)) (p2 : kk = qk) (p3 : q = qq) (c0 : 0 ≤ p + (-34)) (c1 : 0 ≤ (-1) * p + 34) (c2 : 0 ≤ F + (-1) * s + (-6144)) (c3 : 0 ≤ s + (-1) * F + 6144) (c4 : 0 ≤ q + (-1) * s + (-5)) (c5 : 0 ≤ s) (c6 : 0 ≤ (-1) * s + 900) : p_NR ba qn (F + 1024) := by
  obtain ⟨uA, u0, u1, u2, u3⟩ := p1
  obtain ⟨s0, j0, e0, f1, f2, f3, f4⟩ := p0
  obtain ⟨rfl, rfl⟩ : s0 = s ∧ j0 = 6 := by omega
  refine ⟨s0, 6 + 1, by omega, by omega, by omega, by omega, fun i a w hw => ?_⟩
  by_cases k : (i : Int) < 6
  · exact f4 i k w hw
  · obtain rfl : i = 6 := by omega
    obtain rfl : 635184 = w := Option.some.inj hw
    intro hh
    have g := m_wi_len (k := 3) (show (32 : Int) ^ 3 ≤ 635184 by decide) (show (635184 : Int) < 32 ^ 4 by decide) hh
    omega
theorem k_nrn6 {qn : Int} {ba : Int → Int} (hqn : 0 ≤ qn ∧ qn ≤ 900) (hba : ∀ i, -128 ≤ ba i ∧ ba i ≤ 127) {F G s p : Int} (p0 : p_NR ba qn (F)) (p1 : p_NI ba qn (G)) (c0 : 0 ≤ p + (-34)) (c1 : 0 ≤ (-1) * p + 34) (c2 : 0 ≤ F + (-1) * s + (-6144)) (c3 : 0 ≤ s + (-1) * F + 6144) (c4 : 0 ≤ G + (-1099511627776) * s + (-635184)) (c5 : 0 ≤ 1099511627776 * s + (-1) * G + 635184) (c6 : 0 ≤ s) (c7 : 0 ≤ (-1) * s + 900) : p_NR ba qn (F + 1024) := by
  obtain ⟨w1, s2, y1, y2, y3, y4, hw1⟩ := p1
  obtain rfl : s2 = s := by omega
  obtain rfl : w1 = 635184 := by omega
  obtain ⟨s0, j0, e0, f1, f2, f3, f4⟩ := p0
  obtain ⟨rfl, rfl⟩ : s0 = s2 ∧ j0 = 6 := by omega
  refine ⟨s0, 6 + 1, by omega, by omega, by omega, by omega, fun i a w hw => ?_⟩
  by_cases k : (i : Int) < 6
  · exact f4 i k w hw
  · obtain rfl : i = 6 := by omega
    obtain rfl : 635184 = w := Option.some.inj hw
    exact hw1
theorem k_xnr6 {qn : Int} {ba : Int → Int} (hqn : 0 ≤ qn ∧ qn ≤ 900) (hba : ∀ i, -128 ≤ ba i ∧ ba i ≤ 127) {G s : Int} (p0 : p_WI ba qn (G)) (c0 : 0 ≤ G + (-1099511627776) * s + (-635184)) (c1 : 0 ≤ 1099511627776 * s + (-1) * G + 635184) (c2 : 0 ≤ s) (c3 : 0 ≤ (-1) * s + 900) : p_XN ba qn (s) := by
  obtain ⟨w1, s2, y1, y2, y3, y4, hw1⟩ := p0
  obtain rfl : s2 = s := by omega
  obtain rfl : w1 = 635184 := by omega
  refine ⟨by omega, ?_⟩
  rw [m_ntz m_nmk_t]
  rintro ⟨k1, k2, k3⟩
  exact k3 635184 (by decide) hw1.2
theorem k_xwr7 {p : Int} (c0 : 0 ≤ p + (-39)) (c1 : 0 ≤ (-1) * p + 39) : p_XW (52) := by
  trivial
theorem k_nrl7a {qn : Int} {qk : Int} {qs : Int} {qq : Int} {qv : Int} {ba : Int → Int} (hqn : 0 ≤ qn ∧ qn ≤ 900) (hqk : 0 ≤ qk ∧ qk ≤ 4) (hqs : 0 ≤ qs ∧ qs ≤ 900) (hqq : 0 ≤ qq ∧ qq ≤ 900) (hba : ∀ i, -128 ≤ ba i ∧ ba i ≤ 127) {F s q kk p : Int} (p0 : p_NR ba qn (F)) (p1 : p_CU ba qk qs qq qn qv (s)) (p2 : kk = qk) (p3 : q = qq) (c0 : 0 ≤ p + (-39)) (c1 : 0 ≤ (-1) * p + 39) (c2 : 0 ≤ F + (-1) * s + (-7168)) (c3 : 0 ≤ s + (-1) * F + 7168) (c4 : 0 ≤ s + (-1) * q + 1) (c5 : 0 ≤ s) (c6 : 0 ≤ (-1) * s + 900) : p_NR ba qn (F + 1024) := by
  obtain ⟨uA, u0, u1, u2, u3⟩ := p1
  obtain ⟨s0, j0, e0, f1, f2, f3, f4⟩ := p0
  obtain ⟨rfl, rfl⟩ : s0 = s ∧ j0 = 7 := by omega
  refine ⟨s0, 7 + 1, by omega, by omega, by omega, by omega, fun i a w hw => ?_⟩
  by_cases k : (i : Int) < 7
  · exact f4 i k w hw
  · obtain rfl : i = 7 := by omega
    obtain rfl : 52 = w := Option.some.inj hw
    intro hh
    have g := m_wi_len (k := 1) (show (32 : Int) ^ 1 ≤ 52 by decide) (show (52 : Int) < 32 ^ 2 by decide) hh
    omega
theorem k_nrl7b {qn : Int} {qk : Int} {qs : Int} {qq : Int} {qv : Int} {ba : Int → Int} (hqn : 0 ≤ qn ∧ qn ≤ 900) (hqk : 0 ≤ qk ∧ qk ≤ 4) (hqs : 0 ≤ qs ∧ qs ≤ 900) (hqq : 0 ≤ qq ∧ qq ≤ 900) (hba : ∀ i, -128 ≤ ba i ∧ ba i ≤ 127) {F s q kk p : Int} (p0 : p_NR ba qn (F)) (p1 : p_CU ba qk qs qq qn qv (s)) (p2 : kk = qk) (p3 : q = qq) (c0 : 0 ≤ p + (-39)) (c1 : 0 ≤ (-1) * p + 39) (c2 : 0 ≤ F + (-1) * s + (-7168)) (c3 : 0 ≤ s + (-1) * F + 7168) (c4 : 0 ≤ q + (-1) * s + (-3)) (c5 : 0 ≤ s) (c6 : 0 ≤ (-1) * s + 900) : p_NR ba qn (F + 1024) := by
  obtain ⟨uA, u0, u1, u2, u3⟩ := p1
  obtain ⟨s0, j0, e0, f1, f2, f3, f4⟩ := p0
  obtain ⟨rfl, rfl⟩ : s0 = s ∧ j0 = 7 := by omega
  refine ⟨s0, 7 + 1, by omega, by omega, by omega, by omega, fun i a w hw => ?_⟩
  by_cases k : (i : Int) < 7
  · exact f4 i k w hw
  · obtain rfl : i = 7 := by omega
    obtain rfl : 52 = w := Option.some.inj hw
    intro hh
    have g := m_wi_len (k := 1) (show (32 : Int) ^ 1 ≤ 52 by decide) (show (52 : Int) < 32 ^ 2 by decide) hh
    omega
theorem k_nrn7 {qn : Int} {ba : Int → Int} (hqn : 0 ≤ qn ∧ qn ≤ 900) (hba : ∀ i, -128 ≤ ba i ∧ ba i ≤ 127) {F G s p : Int} (p0 : p_NR ba qn (F)) (p1 : p_NI ba qn (G)) (c0 : 0 ≤ p + (-39)) (c1 : 0 ≤ (-1) * p + 39) (c2 : 0 ≤ F + (-1) * s + (-7168)) (c3 : 0 ≤ s + (-1) * F + 7168) (c4 : 0 ≤ G + (-1099511627776) * s + (-52)) (c5 : 0 ≤ 1099511627776 * s + (-1) * G + 52) (c6 : 0 ≤ s) (c7 : 0 ≤ (-1) * s + 900) : p_NR ba qn (F + 1024) := by
  obtain ⟨w1, s2, y1, y2, y3, y4, hw1⟩ := p1
  obtain rfl : s2 = s := by omega
  obtain rfl : w1 = 52 := by omega
  obtain ⟨s0, j0, e0, f1, f2, f3, f4⟩ := p0
  obtain ⟨rfl, rfl⟩ : s0 = s2 ∧ j0 = 7 := by omega
  refine ⟨s0, 7 + 1, by omega, by omega, by omega, by omega, fun i a w hw => ?_⟩
  by_cases k : (i : Int) < 7
  · exact f4 i k w hw
  · obtain rfl : i = 7 := by omega
    obtain rfl : 52 = w := Option.some.inj hw
    exact hw1
theorem k_xnr7 {qn : Int} {ba : Int → Int} (hqn : 0 ≤ qn ∧ qn ≤ 900) (hba : ∀ i, -128 ≤ ba i ∧ ba i ≤ 127) {G s : Int} (p0 : p_WI ba qn (G)) (c0 : 0 ≤ G + (-1099511627776) * s + (-52)) (c1 : 0 ≤ 1099511627776 * s + (-1) * G + 52) (c2 : 0 ≤ s) (c3 : 0 ≤ (-1) * s + 900) : p_XN ba qn (s) := by
  obtain ⟨w1, s2, y1, y2, y3, y4, hw1⟩ := p0
  obtain rfl : s2 = s := by omega
  obtain rfl : w1 = 52 := by omega
  refine ⟨by omega, ?_⟩
  rw [m_ntz m_nmk_t]
  rintro ⟨k1, k2, k3⟩
  exact k3 52 (by decide) hw1.2
theorem k_xwr8 {p : Int} (c0 : 0 ≤ p + (-42)) (c1 : 0 ≤ (-1) * p + 42) : p_XW (89) := by
  trivial
theorem k_nrl8a {qn : Int} {qk : Int} {qs : Int} {qq : Int} {qv : Int} {ba : Int → Int} (hqn : 0 ≤ qn ∧ qn ≤ 900) (hqk : 0 ≤ qk ∧ qk ≤ 4) (hqs : 0 ≤ qs ∧ qs ≤ 900) (hqq : 0 ≤ qq ∧ qq ≤ 900) (hba : ∀ i, -128 ≤ ba i ∧ ba i ≤ 127) {F s q kk p : Int} (p0 : p_NR ba qn (F)) (p1 : p_CU ba qk qs qq qn qv (s)) (p2 : kk = qk) (p3 : q = qq) (c0 : 0 ≤ p + (-42)) (c1 : 0 ≤ (-1) * p + 42) (c2 : 0 ≤ F + (-1) * s + (-8192)) (c3 : 0 ≤ s + (-1) * F + 8192) (c4 : 0 ≤ s + (-1) * q + 1) (c5 : 0 ≤ s) (c6 : 0 ≤ (-1) * s + 900) : p_NR ba qn (F + 1024) := by
  obtain ⟨uA, u0, u1, u2, u3⟩ := p1
  obtain ⟨s0, j0, e0, f1, f2, f3, f4⟩ := p0
  obtain ⟨rfl, rfl⟩ : s0 = s ∧ j0 = 8 := by omega
  refine ⟨s0, 8 + 1, by omega, by omega, by omega, by omega, fun i a w hw => ?_⟩
  by_cases k : (i : Int) < 8
  · exact f4 i k w hw
  · obtain rfl : i = 8 := by omega
    obtain rfl : 89 = w := Option.some.inj hw
    intro hh
    have g := m_wi_len (k := 1) (show (32 : Int) ^ 1 ≤ 89 by decide) (show (89 : Int) < 32 ^ 2 by decide) hh
    omega
theorem k_nrl8b {qn : Int} {qk : Int} {qs : Int} {qq : Int} {qv : Int} {ba : Int → Int} (hqn : 0 ≤ qn ∧ qn ≤ 900) (hqk : 0 ≤ qk ∧ qk ≤ 4) (hqs : 0 ≤ qs ∧ qs ≤ 900) (hqq : 0 ≤ qq ∧ qq ≤ 900) (hba : ∀ i, -128 ≤ ba i ∧ ba i ≤ 127) {F s q kk p : Int} (p0 : p_NR ba qn (F)) (p1 : p_CU ba qk qs qq qn qv (s)) (p2 : kk = qk) (p3 : q = qq) (c0 : 0 ≤ p + (-42)) (c1 : 0 ≤ (-1) * p + 42) (c2 : 0 ≤ F + (-1) * s + (-8192)) (c3 : 0 ≤ s + (-1) * F + 8192) (c4 : 0 ≤ q + (-1) * s + (-3)) (c5 : 0 ≤ s) (c6 : 0 ≤ (-1) * s + 900) : p_NR ba qn (F + 1024) := by
  obtain ⟨uA, u0, u1, u2, u3⟩ := p1
  obtain ⟨s0, j0, e0, f1, f2, f3, f4⟩ := p0
  obtain ⟨rfl, rfl⟩ : s0 = s ∧ j0 = 8 := by omega
  refine ⟨s0, 8 + 1, by omega, by omega, by omega, by omega, fun i a w hw => ?_⟩
  by_cases k : (i : Int) < 8
  · exact f4 i k w hw
  · obtain rfl : i = 8 := by omega
    obtain rfl : 89 = w := Option.some.inj hw
    intro hh
    have g := m_wi_len (k := 1) (show (32 : Int) ^ 1 ≤ 89 by decide) (show (89 : Int) < 32 ^ 2 by decide) hh
    omega
theorem k_nrn8 {qn : Int} {ba : Int → Int} (hqn : 0 ≤ qn ∧ qn ≤ 900) (hba : ∀ i, -128 ≤ ba i ∧ ba i ≤ 127) {F G s p : Int} (p0 : p_NR ba qn (F)) (p1 : p_NI ba qn (G)) (c0 : 0 ≤ p + (-42)) (c1 : 0 ≤ (-1) * p + 42) (c2 : 0 ≤ F + (-1) * s + (-8192)) (c3 : 0 ≤ s + (-1) * F + 8192) (c4 : 0 ≤ G + (-1099511627776) * s + (-89)) (c5 : 0 ≤ 1099511627776 * s + (-1) * G + 89) (c6 : 0 ≤ s) (c7 : 0 ≤ (-1) * s + 900) : p_NR ba qn (F + 1024) := by
  obtain ⟨w1, s2, y1, y2, y3, y4, hw1⟩ := p1
  obtain rfl : s2 = s := by omega
  obtain rfl : w1 = 89 := by omega
  obtain ⟨s0, j0, e0, f1, f2, f3, f4⟩ := p0
  obtain ⟨rfl, rfl⟩ : s0 = s2 ∧ j0 = 8 := by omega
  refine ⟨s0, 8 + 1, by omega, by omega, by omega, by omega, fun i a w hw => ?_⟩
  by_cases k : (i : Int) < 8
  · exact f4 i k w hw
  · obtain rfl : i = 8 := by omega
    obtain rfl : 89 = w := Option.some.inj hw
    exact hw1
theorem k_xnr8 {qn : Int} {ba : Int → Int} (hqn : 0 ≤ qn ∧ qn ≤ 900) (hba : ∀ i, -128 ≤ ba i ∧ ba i ≤ 127) {G s : Int} (p0 : p_WI ba qn (G)) (c0 : 0 ≤ G + (-1099511627776) * s + (-89)) (c1 : 0 ≤ 1099511627776 * s + (-1) * G + 89) (c2 : 0 ≤ s) (c3 : 0 ≤ (-1) * s + 900) : p_XN ba qn (s) := by
  obtain ⟨w1, s2, y1, y2, y3, y4, hw1⟩ := p0
  obtain rfl : s2 = s := by omega
  obtain rfl : w1 = 89 := by omega
  refine ⟨by omega, ?_⟩
  rw [m_ntz m_nmk_t]
  rintro ⟨k1, k2, k3⟩
  exact k3 89 (by decide) hw1.2
theorem k_xwr9 {p : Int} (c0 : 0 ≤ p + (-45)) (c1 : 0 ≤ (-1) * p + 45) : p_XW (206276) := by
  trivial
theorem k_nrl9a {qn : Int} {qk : Int} {qs : Int} {qq : Int} {qv : Int} {ba : Int → Int} (hqn : 0 ≤ qn ∧ qn ≤ 900) (hqk : 0 ≤ qk ∧ qk ≤ 4) (hqs : 0 ≤ qs ∧ qs ≤ 900) (hqq : 0 ≤ qq ∧ qq ≤ 900) (hba : ∀ i, -128 ≤ ba i ∧ ba i ≤ 127) {F s q kk p : Int} (p0 : p_NR ba qn (F)) (p1 : p_CU ba qk qs qq qn qv (s)) (p2 : kk = qk) (p3 : q = qq) (c0 : 0 ≤ p + (-45)) (c1 : 0 ≤ (-1) * p + 45) (c2 : 0 ≤ F + (-1) * s + (-9216)) (c3 : 0 ≤ s + (-1) * F + 9216) (c4 : 0 ≤ s + (-1) * q + 3) (c5 : 0 ≤ s) (c6 : 0 ≤ (-1) * s + 900) : p_NR ba qn (F + 1024) := by
  obtain ⟨uA, u0, u1, u2, u3⟩ := p1
  obtain ⟨s0, j0, e0, f1, f2, f3, f4⟩ := p0
  obtain ⟨rfl, rfl⟩ : s0 = s ∧ j0 = 9 := by omega
  refine ⟨s0, 9 + 1, by omega, by omega, by omega, by omega, fun i a w hw => ?_⟩
  by_cases k : (i : Int) < 9
  · exact f4 i k w hw
  · obtain rfl : i = 9 := by omega
    obtain rfl : 206276 = w := Option.some.inj hw
    intro hh
    have g := m_wi_len (k := 3) (show (32 : Int) ^ 3 ≤ 206276 by decide) (show (206276 : Int) < 32 ^ 4 by decide) hh
    omega
theorem k_nrl9b {qn : Int} {qk : Int} {qs : Int} {qq : Int} {qv : Int} {ba : Int → Int} (hqn : 0 ≤ qn ∧ qn ≤ 900) (hqk : 0 ≤ qk ∧ qk ≤ 4) (hqs : 0 ≤ qs ∧ qs ≤ 900) (hqq : 0 ≤ qq ∧ qq ≤ 900) (hba : ∀ i, -128 ≤ ba i ∧ ba i ≤ 127) {F s q kk p : Int} (p0 : p_NR ba qn (F)) (p1 : p_CU ba qk qs qq qn qv (s)) (p2 : kk = qk) (p3 : q = qq) (c0 : 0 ≤ p + (-45)) (c1 : 0 ≤ (-1) * p + 45) (c2 : 0 ≤ F + (-1) * s + (-9216)) (c3 : 0 ≤ s + (-1) * F + 9216) (c4 : 0 ≤ q + (-1) * s + (-5)) (c5 : 0 ≤ s) (c6 : 0 ≤ (-1) * s + 900) : p_NR ba qn (F + 1024) := by
  obtain ⟨uA, u0, u1, u2, u3⟩ := p1
  obtain ⟨s0, j0, e0, f1, f2, f3, f4⟩ := p0
  obtain ⟨rfl, rfl⟩ : s0 = s ∧ j0 = 9 := by omega
  refine ⟨s0, 9 + 1, by omega, by omega, by omega, by omega, fun i a w hw => ?_⟩
  by_cases k : (i : Int) < 9
  · exact f4 i k w hw
  · obtain rfl : i = 9 := by omega
    obtain rfl : 206276 = w := Option.some.inj hw
    intro hh
    have g := m_wi_len (k := 3) (show (32 : Int) ^ 3 ≤ 206276 by decide) (show (206276 : Int) < 32 ^ 4 by decide) hh
    omega
theorem k_nrn9 {qn : Int} {ba : Int → Int} (hqn : 0 ≤ qn ∧ qn ≤ 900) (hba : ∀ i, -128 ≤ ba i ∧ ba i ≤ 127) {F G s p : Int} (p0 : p_NR ba qn (F)) (p1 : p_NI ba qn (G)) (c0 : 0 ≤ p + (-45)) (c1 : 0 ≤ (-1) * p + 45) (c2 : 0 ≤ F + (-1) * s + (-9216)) (c3 : 0 ≤ s + (-1) * F + 9216) (c4 : 0 ≤ G + (-1099511627776) * s + (-206276)) (c5 : 0 ≤ 1099511627776 * s + (-1) * G + 206276) (c6 : 0 ≤ s) (c7 : 0 ≤ (-1) * s + 900) : p_NR ba qn (F + 1024) := by
  obtain ⟨w1, s2, y1, y2, y3, y4, hw1⟩ := p1
  obtain rfl : s2 = s := by omega
  obtain rfl : w1 = 206276 := by omega
  obtain ⟨s0, j0, e0, f1, f2, f3, f4⟩ := p0
  obtain ⟨rfl, rfl⟩ : s0 = s2 ∧ j0 = 9 := by omega
  refine ⟨s0, 9 + 1, by omega, by omega, by omega, by omega, fun i a w hw => ?_⟩
  by_cases k : (i : Int) < 9
  · exact f4 i k w hw
  · obtain rfl : i = 9 := by omega
    obtain rfl : 206276 = w := Option.some.inj hw
    exact hw1
theorem k_xnr9 {qn : Int} {ba : Int → Int} (hqn : 0 ≤ qn ∧ qn ≤ 900) (hba : ∀ i, -128 ≤ ba i ∧ ba i ≤ 127) {G s : Int} (p0 : p_WI ba qn (G)) (c0 : 0 ≤ G + (-1099511627776) * s + (-206276)) (c1 : 0 ≤ 1099511627776 * s + (-1) * G + 206276) (c2 : 0 ≤ s) (c3 : 0 ≤ (-1) * s + 900) : p_XN ba qn (s) := by
  obtain ⟨w1, s2, y1, y2, y3, y4, hw1⟩ := p0
  obtain rfl : s2 = s := by omega
  obtain rfl : w1 = 206276 := by omega
  refine ⟨by omega, ?_⟩
  rw [m_ntz m_nmk_t]
  rintro ⟨k1, k2, k3⟩
  exact k3 206276 (by decide) hw1.2
theorem k_xwr10 {p : Int} (c0 : 0 ≤ p + (-50)) (c1 : 0 ≤ (-1) * p + 50) : p_XW (824370) := by
  trivial
theorem k_nrl10a {qn : Int} {qk : Int} {qs : Int} {qq : Int} {qv : Int} {ba : Int → Int} (hqn : 0 ≤ qn ∧ qn ≤ 900) (hqk : 0 ≤ qk ∧ qk ≤ 4) (hqs : 0 ≤ qs ∧ qs ≤ 900) (hqq : 0 ≤ qq ∧ qq ≤ 900) (hba : ∀ i, -128 ≤ ba i ∧ ba i ≤ 127) {F s q kk p : Int} (p0 : p_NR ba qn (F)) (p1 : p_CU ba qk qs qq qn qv (s)) (p2 : kk = qk) (p3 : q = qq) (c0 : 0 ≤ p + (-50)) (c1 : 0 ≤ (-1) * p + 50) (c2 : 0 ≤ F + (-1) * s + (-10240)) (c3 : 0 ≤ s + (-1) * F + 10240) (c4 : 0 ≤ s + (-1) * q + 3) (c5 : 0 ≤ s) (c6 : 0 ≤ (-1) * s + 900) : p_NR ba qn (F + 1024) := by
  obtain ⟨uA, u0, u1, u2, u3⟩ := p1
  obtain ⟨s0, j0, e0, f1, f2, f3, f4⟩ := p0
  obtain ⟨rfl, rfl⟩ : s0 = s ∧ j0 = 10 := by omega
  refine ⟨s0, 10 + 1, by omega, by omega, by omega, by omega, fun i a w hw => ?_⟩
  by_cases k : (i : Int) < 10
  · exact f4 i k w hw
  · obtain rfl : i = 10 := by omega
    obtain rfl : 824370 = w := Option.some.inj hw
    intro hh
    have g := m_wi_len (k := 3) (show (32 : Int) ^ 3 ≤ 824370 by decide) (show (824370 : Int) < 32 ^ 4 by decide) hh
    omega
theorem k_nrl10b {qn : Int} {qk : Int} {qs : Int} {qq : Int} {qv : Int} {ba : Int → Int} (hqn : 0 ≤ qn ∧ qn ≤ 900) (hqk : 0 ≤ qk ∧ qk ≤ 4) (hqs : 0 ≤ qs ∧ qs ≤ 900) (hqq : 0 ≤ qq ∧ qq ≤ 900) (hba : ∀ i, -128 ≤ ba i ∧ ba i ≤ 127) {F s q kk p : Int} (p0 : p_NR ba qn (F)) (p1 : p_CU ba qk qs qq qn qv (s)) (p2 : kk = qk) (p3 : q = qq) (c0 : 0 ≤ p + (-50)) (c1 : 0 ≤ (-1) * p + 50) (c2 : 0 ≤ F + (-1) * s + (-10240)) (c3 : 0 ≤ s + (-1) * F + 10240) (c4 : 0 ≤ q + (-1) * s + (-5)) (c5 : 0 ≤ s) (c6 : 0 ≤ (-1) * s + 900) : p_NR ba qn (F + 1024) := by
  obtain ⟨uA, u0, u1, u2, u3⟩ := p1
  obtain ⟨s0, j0, e0, f1, f2, f3, f4⟩ := p0
  obtain ⟨rfl, rfl⟩ : s0 = s ∧ j0 = 10 := by omega
  refine ⟨s0, 10 + 1, by omega, by omega, by omega, by omega, fun i a w hw => ?_⟩
  by_cases k : (i : Int) < 10
  · exact f4 i k w hw
  · obtain rfl : i = 10 := by omega
    obtain rfl : 824370 = w := Option.some.inj hw
    intro hh
    have g := m_wi_len (k := 3) (show (32 : Int) ^ 3 ≤ 824370 by decide) (show (824370 : Int) < 32 ^ 4 by decide) hh
    omega
theorem k_nrn10 {qn : Int} {ba : Int → Int} (hqn : 0 ≤ qn ∧ qn ≤ 900) (hba : ∀ i, -128 ≤ ba i ∧ ba i ≤ 127) {F G s p : Int} (p0 : p_NR ba qn (F)) (p1 : p_NI ba qn (G)) (c0 : 0 ≤ p + (-50)) (c1 : 0 ≤ (-1) * p + 50) (c2 : 0 ≤ F + (-1) * s + (-10240)) (c3 : 0 ≤ s + (-1) * F + 10240) (c4 : 0 ≤ G + (-1099511627776) * s + (-824370)) (c5 : 0 ≤ 1099511627776 * s + (-1) * G + 824370) (c6 : 0 ≤ s) (c7 : 0 ≤ (-1) * s + 900) : p_NR ba qn (F + 1024) := by
  obtain ⟨w1, s2, y1, y2, y3, y4, hw1⟩ := p1
  obtain rfl : s2 = s := by omega
  obtain rfl : w1 = 824370 := by omega
  obtain ⟨s0, j0, e0, f1, f2, f3, f4⟩ := p0
  obtain ⟨rfl, rfl⟩ : s0 = s2 ∧ j0 = 10 := by omega
  refine ⟨s0, 10 + 1, by omega, by omega, by omega, by omega, fun i a w hw => ?_⟩
  by_cases k : (i : Int) < 10
  · exact f4 i k w hw
  · obtain rfl : i = 10 := by omega
    obtain rfl : 824370 = w := Option.some.inj hw
    exact hw1
theorem k_xnr10 {qn : Int} {ba : Int → Int} (hqn : 0 ≤ qn ∧ qn ≤ 900) (hba : ∀ i, -128 ≤ ba i ∧ ba i ≤ 127) {G s : Int} (p0 : p_WI ba qn (G)) (c0 : 0 ≤ G + (-1099511627776) * s + (-824370)) (c1 : 0 ≤ 1099511627776 * s + (-1) * G + 824370) (c2 : 0 ≤ s) (c3 : 0 ≤ (-1) * s + 900) : p_XN ba qn (s) := by
  obtain ⟨w1, s2, y1, y2, y3, y4, hw1⟩ := p0
  obtain rfl : s2 = s := by omega
  obtain rfl : w1 = 824370 := by omega
  refine ⟨by omega, ?_⟩
  rw [m_ntz m_nmk_t]
  rintro ⟨k1, k2, k3⟩
  exact k3 824370 (by decide) hw1.2
theorem k_xwr11 {p : Int} (c0 : 0 ≤ p + (-55)) (c1 : 0 ≤ (-1) * p + 55) : p_XW (239) := by
  trivial
theorem k_nrl11a {qn : Int} {qk : Int} {qs : Int} {qq : Int} {qv : Int} {ba : Int → Int} (hqn : 0 ≤ qn ∧ qn ≤ 900) (hqk : 0 ≤ qk ∧ qk ≤ 4) (hqs : 0 ≤ qs ∧ qs ≤ 900) (hqq : 0 ≤ qq ∧ qq ≤ 900) (hba : ∀ i, -128 ≤ ba i ∧ ba i ≤ 127) {F s q kk p : Int} (p0 : p_NR ba qn (F)) (p1 : p_CU ba qk qs qq qn qv (s)) (p2 : kk = qk) (p3 : q = qq) (c0 : 0 ≤ p + (-55)) (c1 : 0 ≤ (-1) * p + 55) (c2 : 0 ≤ F + (-1) * s + (-11264)) (c3 : 0 ≤ s + (-1) * F + 11264) (c4 : 0 ≤ s + (-1) * q + 1) (c5 : 0 ≤ s) (c6 : 0 ≤ (-1) * s + 900) : p_NR ba qn (F + 1024) := by
  obtain ⟨uA, u0, u1, u2, u3⟩ := p1
  obtain ⟨s0, j0, e0, f1, f2, f3, f4⟩ := p0
  obtain ⟨rfl, rfl⟩ : s0 = s ∧ j0 = 11 := by omega
  refine ⟨s0, 11 + 1, by omega, by omega, by omega, by omega, fun i a w hw => ?_⟩
  by_cases k : (i : Int) < 11
  · exact f4 i k w hw
  · obtain rfl : i = 11 := by omega
    obtain rfl : 239 = w := Option.some.inj hw
    intro hh
    have g := m_wi_len (k := 1) (show (32 : Int) ^ 1 ≤ 239 by decide) (show (239 : Int) < 32 ^ 2 by decide) hh
    omega
theorem k_nrl11b {qn : Int} {qk : Int} {qs : Int} {qq : Int} {qv : Int} {ba : Int → Int} (hqn : 0 ≤ qn ∧ qn ≤ 900) (hqk : 0 ≤ qk ∧ qk ≤ 4) (hqs : 0 ≤ qs ∧ qs ≤ 900) (hqq : 0 ≤ qq ∧ qq ≤ 900) (hba : ∀ i, -128 ≤ ba i ∧ ba i ≤ 127) {F s q kk p : Int} (p0 : p_NR ba qn (F)) (p1 : p_CU ba qk qs qq qn qv (s)) (p2 : kk = qk) (p3 : q = qq) (c0 : 0 ≤ p + (-55)) (c1 : 0 ≤ (-1) * p + 55) (c2 : 0 ≤ F + (-1) * s + (-11264)) (c3 : 0 ≤ s + (-1) * F + 11264) (c4 : 0 ≤ q + (-1) * s + (-3)) (c5 : 0 ≤ s) (c6 : 0 ≤ (-1) * s + 900) : p_NR ba qn (F + 1024) := by
  obtain ⟨uA, u0, u1, u2, u3⟩ := p1
  obtain ⟨s0, j0, e0, f1, f2, f3, f4⟩ := p0
  obtain ⟨rfl, rfl⟩ : s0 = s ∧ j0 = 11 := by omega
  refine ⟨s0, 11 + 1, by omega, by omega, by omega, by omega, fun i a w hw => ?_⟩
  by_cases k : (i : Int) < 11
  · exact f4 i k w hw
  · obtain rfl : i = 11 := by omega
    obtain rfl : 239 = w := Option.some.inj hw
    intro hh
    have g := m_wi_len (k := 1) (show (32 : Int) ^ 1 ≤ 239 by decide) (show (239 : Int) < 32 ^ 2 by decide) hh
    omega
theorem k_nrn11 {qn : Int} {ba : Int → Int} (hqn : 0 ≤ qn ∧ qn ≤ 900) (hba : ∀ i, -128 ≤ ba i ∧ ba i ≤ 127) {F G s p : Int} (p0 : p_NR ba qn (F)) (p1 : p_NI ba qn (G)) (c0 : 0 ≤ p + (-55)) (c1 : 0 ≤ (-1) * p + 55) (c2 : 0 ≤ F + (-1) * s + (-11264)) (c3 : 0 ≤ s + (-1) * F + 11264) (c4 : 0 ≤ G + (-1099511627776) * s + (-239)) (c5 : 0 ≤ 1099511627776 * s + (-1) * G + 239) (c6 : 0 ≤ s) (c7 : 0 ≤ (-1) * s + 900) : p_NR ba qn (F + 1024) := by
  obtain ⟨w1, s2, y1, y2, y3, y4, hw1⟩ := p1
  obtain rfl : s2 = s := by omega
  obtain rfl : w1 = 239 := by omega
  obtain ⟨s0, j0, e0, f1, f2, f3, f4⟩ := p0
  obtain ⟨rfl, rfl⟩ : s0 = s2 ∧ j0 = 11 := by omega
  refine ⟨s0, 11 + 1, by omega, by omega, by omega, by omega, fun i a w hw => ?_⟩
  by_cases k : (i : Int) < 11
  · exact f4 i k w hw
  · obtain rfl : i = 11 := by omega
    obtain rfl : 239 = w := Option.some.inj hw
    exact hw1
theorem k_xnr11 {qn : Int} {ba : Int → Int} (hqn : 0 ≤ qn ∧ qn ≤ 900) (hba : ∀ i, -128 ≤ ba i ∧ ba i ≤ 127) {G s : Int} (p0 : p_WI ba qn (G)) (c0 : 0 ≤ G + (-1099511627776) * s + (-239)) (c1 : 0 ≤ 1099511627776 * s + (-1) * G + 239) (c2 : 0 ≤ s) (c3 : 0 ≤ (-1) * s + 900) : p_XN ba qn (s) := by
  obtain ⟨w1, s2, y1, y2, y3, y4, hw1⟩ := p0
  obtain rfl : s2 = s := by omega
  obtain rfl : w1 = 239 := by omega
  refine ⟨by omega, ?_⟩
  rw [m_ntz m_nmk_t]
  rintro ⟨k1, k2, k3⟩
  exact k3 239 (by decide) hw1.2
theorem k_xwr12 {p : Int} (c0 : 0 ≤ p + (-58)) (c1 : 0 ≤ (-1) * p + 58) : p_XW (66667) := by
  trivial
theorem k_nrl12a {qn : Int} {qk : Int} {qs : Int} {qq : Int} {qv : Int} {ba : Int → Int} (hqn : 0 ≤ qn ∧ qn ≤ 900) (hqk : 0 ≤ qk ∧ qk ≤ 4) (hqs : 0 ≤ qs ∧ qs ≤ 900) (hqq : 0 ≤ qq ∧ qq ≤ 900) (hba : ∀ i, -128 ≤ ba i ∧ ba i ≤ 127) {F s q kk p : Int} (p0 : p_NR ba qn (F)) (p1 : p_CU ba qk qs qq qn qv (s)) (p2 : kk = qk) (p3 : q = qq) (c0 : 0 ≤ p + (-58)) (c1 : 0 ≤ (-1) * p + 58) (c2 : 0 ≤ F + (-1) * s + (-12288)) (c3 : 0 ≤ s + (-1) * F + 12288) (c4 : 0 ≤ s + (-1) * q + 3) (c5 : 0 ≤ s) (c6 : 0 ≤ (-1) * s + 900) : p_NR ba qn (F + 1024) := by
  obtain ⟨uA, u0, u1, u2, u3⟩ := p1
  obtain ⟨s0, j0, e0, f1, f2, f3, f4⟩ := p0
  obtain ⟨rfl, rfl⟩ : s0 = s ∧ j0 = 12 := by omega
  refine ⟨s0, 12 + 1, by omega, by omega, by omega, by omega, fun i a w hw => ?_⟩
  by_cases k : (i : Int) < 12
  · exact f4 i k w hw
  · obtain rfl : i = 12 := by omega
    obtain rfl : 66667 = w := Option.some.inj hw
    intro hh
    have g := m_wi_len (k := 3) (show (32 : Int) ^ 3 ≤ 66667 by decide) (show (66667 : Int) < 32 ^ 4 by decide) hh
    omega
theorem k_nrl12b {qn : Int} {qk : Int} {qs : Int} {qq : Int} {qv : Int} {ba : Int → Int} (hqn : 0 ≤ qn ∧ qn ≤ 900) (hqk : 0 ≤ qk ∧ qk ≤ 4) (hqs : 0 ≤ qs ∧ qs ≤ 900) (hqq : 0 ≤ qq ∧ qq ≤ 900) (hba : ∀ i, -128 ≤ ba i ∧ ba i ≤ 127) {F s q kk p : Int} (p0 : p_NR ba qn (F)) (p1 : p_CU ba qk qs qq qn qv (s)) (p2 : kk = qk) (p3 : q = qq) (c0 : 0 ≤ p + (-58)) (c1 : 0 ≤ (-1) * p + 58) (c2 : 0 ≤ F + (-1) * s + (-12288)) (c3 : 0 ≤ s + (-1) * F + 12288) (c4 : 0 ≤ q + (-1) * s + (-5)) (c5 : 0 ≤ s) (c6 : 0 ≤ (-1) * s + 900) : p_NR ba qn (F + 1024) := by
  obtain ⟨uA, u0, u1, u2, u3⟩ := p1
  obtain ⟨s0, j0, e0, f1, f2, f3, f4⟩ := p0
  obtain ⟨rfl, rfl⟩ : s0 = s ∧ j0 = 12 := by omega
  refine ⟨s0, 12 + 1, by omega, by omega, by omega, by omega, fun i a w hw => ?_⟩
  by_cases k : (i : Int) < 12
  · exact f4 i k w hw
  · obtain rfl : i = 12 := by omega
    obtain rfl : 66667 = w := Option.some.inj hw
    intro hh
    have g := m_wi_len (k := 3) (show (32 : Int) ^ 3 ≤ 66667 by decide) (show (66667 : Int) < 32 ^ 4 by decide) hh
    omega
theorem k_nrn12 {qn : Int} {ba : Int → Int} (hqn : 0 ≤ qn ∧ qn ≤ 900) (hba : ∀ i, -128 ≤ ba i ∧ ba i ≤ 127) {F G s p : Int} (p0 : p_NR ba qn (F)) (p1 : p_NI ba qn (G)) (c0 : 0 ≤ p + (-58)) (c1 : 0 ≤ (-1) * p + 58) (c2 : 0 ≤ F + (-1) * s + (-12288)) (c3 : 0 ≤ s + (-1) * F + 12288) (c4 : 0 ≤ G + (-1099511627776) * s + (-66667)) (c5 : 0 ≤ 1099511627776 * s + (-1) * G + 66667) (c6 : 0 ≤ s) (c7 : 0 ≤ (-1) * s + 900) : p_NR ba qn (F + 1024) := by
  obtain ⟨w1, s2, y1, y2, y3, y4, hw1⟩ := p1
  obtain rfl : s2 = s := by omega
  obtain rfl : w1 = 66667 := by omega
  obtain ⟨s0, j0, e0, f1, f2, f3, f4⟩ := p0
  obtain ⟨rfl, rfl⟩ : s0 = s2 ∧ j0 = 12 := by omega
  refine ⟨s0, 12 + 1, by omega, by omega, by omega, by omega, fun i a w hw => ?_⟩
  by_cases k : (i : Int) < 12
  · exact f4 i k w hw
  · obtain rfl : i = 12 := by omega
    obtain rfl : 66667 = w := Option.some.inj hw
    exact hw1
theorem k_xnr12 {qn : Int} {ba : Int → Int} (hqn : 0 ≤ qn ∧ qn ≤ 900) (hba : ∀ i, -128 ≤ ba i ∧ ba i ≤ 127) {G s : Int} (p0 : p_WI ba qn (G)) (c0 : 0 ≤ G + (-1099511627776) * s + (-66667)) (c1 : 0 ≤ 1099511627776 * s + (-1) * G + 66667) (c2 : 0 ≤ s) (c3 : 0 ≤ (-1) * s + 900) : p_XN ba qn (s) := by
  obtain ⟨w1, s2, y1, y2, y3, y4, hw1⟩ := p0
  obtain rfl : s2 = s := by omega
  obtain rfl : w1 = 66667 := by omega
  refine ⟨by omega, ?_⟩
  rw [m_ntz m_nmk_t]
  rintro ⟨k1, k2, k3⟩
  exact k3 66667 (by decide) hw1.2
theorem k_xwr13 {p : Int} (c0 : 0 ≤ p + (-63)) (c1 : 0 ≤ (-1) * p + 63) : p_XW (12008555) := by
  trivial
theorem k_nrl13a {qn : Int} {qk : Int} {qs : Int} {qq : Int} {qv : Int} {ba : Int → Int} (hqn : 0 ≤ qn ∧ qn ≤ 900) (hqk : 0 ≤ qk ∧ qk ≤ 4) (hqs : 0 ≤ qs ∧ qs ≤ 900) (hqq : 0 ≤ qq ∧ qq ≤ 900) (hba : ∀ i, -128 ≤ ba i ∧ ba i ≤ 127) {F s q kk p : Int} (p0 : p_NR ba qn (F)) (p1 : p_CU ba qk qs qq qn qv (s)) (p2 : kk = qk) (p3 : q = qq) (c0 : 0 ≤ p + (-63)) (c1 : 0 ≤ (-1) * p + 63) (c2 : 0 ≤ F + (-1) * s + (-13312)) (c3 : 0 ≤ s + (-1) * F + 13312) (c4 : 0 ≤ s + (-1) * q + 4) (c5 : 0 ≤ s) (c6 : 0 ≤ (-1) * s + 900) : p_NR ba qn (F + 1024) := by
  obtain ⟨uA, u0, u1, u2, u3⟩ := p1
  obtain ⟨s0, j0, e0, f1, f2, f3, f4⟩ := p0
  obtain ⟨rfl, rfl⟩ : s0 = s ∧ j0 = 13 := by omega
  refine ⟨s0, 13 + 1, by omega, by omega, by omega, by omega, fun i a w hw => ?_⟩
  by_cases k : (i : Int) < 13
  · exact f4 i k w hw
  · obtain rfl : i = 13 := by omega
    obtain rfl : 12008555 = w := Option.some.inj hw
    intro hh
    have g := m_wi_len (k := 4) (show (32 : Int) ^ 4 ≤ 12008555 by decide) (show (12008555 : Int) < 32 ^ 5 by decide) hh
    omega
theorem k_nrl13b {qn : Int} {qk : Int} {qs : Int} {qq : Int} {qv : Int} {ba : Int → Int} (hqn : 0 ≤ qn ∧ qn ≤ 900) (hqk : 0 ≤ qk ∧ qk ≤ 4) (hqs : 0 ≤ qs ∧ qs ≤ 900) (hqq : 0 ≤ qq ∧ qq ≤ 900) (hba : ∀ i, -128 ≤ ba i ∧ ba i ≤ 127) {F s q kk p : Int} (p0 : p_NR ba qn (F)) (p1 : p_CU ba qk qs qq qn qv (s)) (p2 : kk = qk) (p3 : q = qq) (c0 : 0 ≤ p + (-63)) (c1 : 0 ≤ (-1) * p + 63) (c2 : 0 ≤ F + (-1) * s + (-13312)) (c3 : 0 ≤ s + (-1) * F + 13312) (c4 : 0 ≤ q + (-1) * s + (-6)) (c5 : 0 ≤ s) (c6 : 0 ≤ (-1) * s + 900) : p_NR ba qn (F + 1024) := by
  obtain ⟨uA, u0, u1, u2, u3⟩ := p1
  obtain ⟨s0, j0, e0, f1, f2, f3, f4⟩ := p0
  obtain ⟨rfl, rfl⟩ : s0 = s ∧ j0 = 13 := by omega
  refine ⟨s0, 13 + 1, by omega, by omega, by omega, by omega, fun i a w hw => ?_⟩
  by_cases k : (i : Int) < 13
  · exact f4 i k w hw
  · obtain rfl : i = 13 := by omega
    obtain rfl : 12008555 = w := Option.some.inj hw
    intro hh
    have g := m_wi_len (k := 4) (show (32 : Int) ^ 4 ≤ 12008555 by decide) (show (12008555 : Int) < 32 ^ 5 by decide) hh
    omega
theorem k_nrn13 {qn : Int} {ba : Int → Int} (hqn : 0 ≤ qn ∧ qn ≤ 900) (hba : ∀ i, -128 ≤ ba i ∧ ba i ≤ 127) {F G s p : Int} (p0 : p_NR ba qn (F)) (p1 : p_NI ba qn (G)) (c0 : 0 ≤ p + (-63)) (c1 : 0 ≤ (-1) * p + 63) (c2 : 0 ≤ F + (-1) * s + (-13312)) (c3 : 0 ≤ s + (-1) * F + 13312) (c4 : 0 ≤ G + (-1099511627776) * s + (-12008555)) (c5 : 0 ≤ 1099511627776 * s + (-1) * G + 12008555) (c6 : 0 ≤ s) (c7 : 0 ≤ (-1) * s + 900) : p_NR ba qn (F + 1024) := by
  obtain ⟨w1, s2, y1, y2, y3, y4, hw1⟩ := p1
  obtain rfl : s2 = s := by omega
  obtain rfl : w1 = 12008555 := by omega
  obtain ⟨s0, j0, e0, f1, f2, f3, f4⟩ := p0
  obtain ⟨rfl, rfl⟩ : s0 = s2 ∧ j0 = 13 := by omega
  refine ⟨s0, 13 + 1, by omega, by omega, by omega, by omega, fun i a w hw => ?_⟩
  by_cases k : (i : Int) < 13
  · exact f4 i k w hw
  · obtain rfl : i = 13 := by omega
    obtain rfl : 12008555 = w := Option.some.inj hw
    exact hw1
theorem k_xnr13 {qn : Int} {ba : Int → Int} (hqn : 0 ≤ qn ∧ qn ≤ 900) (hba : ∀ i, -128 ≤ ba i ∧ ba i ≤ 127) {G s : Int} (p0 : p_WI ba qn (G)) (c0 : 0 ≤ G + (-1099511627776) * s + (-12008555)) (c1 : 0 ≤ 1099511627776 * s + (-1) * G + 12008555) (c2 : 0 ≤ s) (c3 : 0 ≤ (-1) * s + 900) : p_XN ba qn (s) := by
  obtain ⟨w1, s2, y1, y2, y3, y4, hw1⟩ := p0
  obtain rfl : s2 = s := by omega
  obtain rfl : w1 = 12008555 := by omega
  refine ⟨by omega, ?_⟩
  rw [m_ntz m_nmk_t]
  rintro ⟨k1, k2, k3⟩
  exact k3 12008555 (by decide) hw1.2
theorem k_xwr14 {p : Int} (c0 : 0 ≤ p + (-69)) (c1 : 0 ≤ (-1) * p + 69) : p_XW (474757) := by
  trivial
theorem k_nrl14a {qn : Int} {qk : Int} {qs : Int} {qq : Int} {qv : Int} {ba : Int → Int} (hqn : 0 ≤ qn ∧ qn ≤ 900) (hqk : 0 ≤ qk ∧ qk ≤ 4) (hqs : 0 ≤ qs ∧ qs ≤ 900) (hqq : 0 ≤ qq ∧ qq ≤ 900) (hba : ∀ i, -128 ≤ ba i ∧ ba i ≤ 127) {F s q kk p : Int} (p0 : p_NR ba qn (F)) (p1 : p_CU ba qk qs qq qn qv (s)) (p2 : kk = qk) (p3 : q = qq) (c0 : 0 ≤ p + (-69)) (c1 : 0 ≤ (-1) * p + 69) (c2 : 0 ≤ F + (-1) * s + (-14336)) (c3 : 0 ≤ s + (-1) * F + 14336) (c4 : 0 ≤ s + (-1) * q + 3) (c5 : 0 ≤ s) (c6 : 0 ≤ (-1) * s + 900) : p_NR ba qn (F + 1024) := by
  obtain ⟨uA, u0, u1, u2, u3⟩ := p1
  obtain ⟨s0, j0, e0, f1, f2, f3, f4⟩ := p0
  obtain ⟨rfl, rfl⟩ : s0 = s ∧ j0 = 14 := by omega
  refine ⟨s0, 14 + 1, by omega, by omega, by omega, by omega, fun i a w hw => ?_⟩
  by_cases k : (i : Int) < 14
  · exact f4 i k w hw
  · obtain rfl : i = 14 := by omega
    obtain rfl : 474757 = w := Option.some.inj hw
    intro hh
    have g := m_wi_len (k := 3) (show (32 : Int) ^ 3 ≤ 474757 by decide) (show (474757 : Int) < 32 ^ 4 by decide) hh
    omega
theorem k_nrl14b {qn : Int} {qk : Int} {qs : Int} {qq : Int} {qv : Int} {ba : Int → Int} (hqn : 0 ≤ qn ∧ qn ≤ 900) (hqk : 0 ≤ qk ∧ qk ≤ 4) (hqs : 0 ≤ qs ∧ qs ≤ 900) (hqq : 0 ≤ qq ∧ qq ≤ 900) (hba : ∀ i, -128 ≤ ba i ∧ ba i ≤ 127) {F s q kk p : Int} (p0 : p_NR ba qn (F)) (p1 : p_CU ba qk qs qq qn qv (s)) (p2 : kk = qk) (p3 : q = qq) (c0 : 0 ≤ p + (-69)) (c1 : 0 ≤ (-1) * p + 69) (c2 : 0 ≤ F + (-1) * s + (-14336)) (c3 : 0 ≤ s + (-1) * F + 14336) (c4 : 0 ≤ q + (-1) * s + (-5)) (c5 : 0 ≤ s) (c6 : 0 ≤ (-1) * s + 900) : p_NR ba qn (F + 1024) := by
  obtain ⟨uA, u0, u1, u2, u3⟩ := p1
  obtain ⟨s0, j0, e0, f1, f2, f3, f4⟩ := p0
  obtain ⟨rfl, rfl⟩ : s0 = s ∧ j0 = 14 := by omega
  refine ⟨s0, 14 + 1, by omega, by omega, by omega, by omega, fun i a w hw => ?_⟩
  by_cases k : (i : Int) < 14
  · exact f4 i k w hw
  · obtain rfl : i = 14 := by omega
    obtain rfl : 474757 = w := Option.some.inj hw
    intro hh
    have g := m_wi_len (k := 3) (show (32 : Int) ^ 3 ≤ 474757 by decide) (show (474757 : Int) < 32 ^ 4 by decide) hh
    omega
theorem k_nrn14 {qn : Int} {ba : Int → Int} (hqn : 0 ≤ qn ∧ qn ≤ 900) (hba : ∀ i, -128 ≤ ba i ∧ ba i ≤ 127) {F G s p : Int} (p0 : p_NR ba qn (F)) (p1 : p_NI ba qn (G)) (c0 : 0 ≤ p + (-69)) (c1 : 0 ≤ (-1) * p + 69) (c2 : 0 ≤ F + (-1) * s + (-14336)) (c3 : 0 ≤ s + (-1) * F + 14336) (c4 : 0 ≤ G + (-1099511627776) * s + (-474757)) (c5 : 0 ≤ 1099511627776 * s + (-1) * G + 474757) (c6 : 0 ≤ s) (c7 : 0 ≤ (-1) * s + 900) : p_NR ba qn (F + 1024) := by
  obtain ⟨w1, s2, y1, y2, y3, y4, hw1⟩ := p1
  obtain rfl : s2 = s := by omega
  obtain rfl : w1 = 474757 := by omega
  obtain ⟨s0, j0, e0, f1, f2, f3, f4⟩ := p0
  obtain ⟨rfl, rfl⟩ : s0 = s2 ∧ j0 = 14 := by omega
  refine ⟨s0, 14 + 1, by omega, by omega, by omega, by omega, fun i a w hw => ?_⟩
  by_cases k : (i : Int) < 14
  · exact f4 i k w hw
  · obtain rfl : i = 14 := by omega
    obtain rfl : 474757 = w := Option.some.inj hw
    exact hw1
theorem k_xnr14 {qn : Int} {ba : Int → Int} (hqn : 0 ≤ qn ∧ qn ≤ 900) (hba : ∀ i, -128 ≤ ba i ∧ ba i ≤ 127) {G s : Int} (p0 : p_WI ba qn (G)) (c0 : 0 ≤ G + (-1099511627776) * s + (-474757)) (c1 : 0 ≤ 1099511627776 * s + (-1) * G + 474757) (c2 : 0 ≤ s) (c3 : 0 ≤ (-1) * s + 900) : p_XN ba qn (s) := by
  obtain ⟨w1, s2, y1, y2, y3, y4, hw1⟩ := p0
  obtain rfl : s2 = s := by omega
  obtain rfl : w1 = 474757 := by omega
  refine ⟨by omega, ?_⟩
  rw [m_ntz m_nmk_t]
  rintro ⟨k1, k2, k3⟩
  exact k3 474757 (by decide) hw1.2
theorem k_xwr15 {p : Int} (c0 : 0 ≤ p + (-74)) (c1 : 0 ≤ (-1) * p + 74) : p_XW (677454) := by
  trivial
theorem k_nrl15a {qn : Int} {qk : Int} {qs : Int} {qq : Int} {qv : Int} {ba : Int → Int} (hqn : 0 ≤ qn ∧ qn ≤ 900) (hqk : 0 ≤ qk ∧ qk ≤ 4) (hqs : 0 ≤ qs ∧ qs ≤ 900) (hqq : 0 ≤ qq ∧ qq ≤ 900) (hba : ∀ i, -128 ≤ ba i ∧ ba i ≤ 127) {F s q kk p : Int} (p0 : p_NR ba qn (F)) (p1 : p_CU ba qk qs qq qn qv (s)) (p2 : kk = qk) (p3 : q = qq) (c0 : 0 ≤ p + (-74)) (c1 : 0 ≤ (-1) * p + 74) (c2 : 0 ≤ F + (-1) * s + (-15360)) (c3 : 0 ≤ s + (-1) * F + 15360) (c4 : 0 ≤ s + (-1) * q + 3) (c5 : 0 ≤ s) (c6 : 0 ≤ (-1) * s + 900) : p_NR ba qn (F + 1024) := by
  obtain ⟨uA, u0, u1, u2, u3⟩ := p1
  obtain ⟨s0, j0, e0, f1, f2, f3, f4⟩ := p0
  obtain ⟨rfl, rfl⟩ : s0 = s ∧ j0 = 15 := by omega
  refine ⟨s0, 15 + 1, by omega, by omega, by omega, by omega, fun i a w hw => ?_⟩
  by_cases k : (i : Int) < 15
  · exact f4 i k w hw
  · obtain rfl : i = 15 := by omega
    obtain rfl : 677454 = w := Option.some.inj hw
    intro hh
    have g := m_wi_len (k := 3) (show (32 : Int) ^ 3 ≤ 677454 by decide) (show (677454 : Int) < 32 ^ 4 by decide) hh
    omega
theorem k_nrl15b {qn : Int} {qk : Int} {qs : Int} {qq : Int} {qv : Int} {ba : Int → Int} (hqn : 0 ≤ qn ∧ qn ≤ 900) (hqk : 0 ≤ qk ∧ qk ≤ 4) (hqs : 0 ≤ qs ∧ qs ≤ 900) (hqq : 0 ≤ qq ∧ qq ≤ 900) (hba : ∀ i, -128 ≤ ba i ∧ ba i ≤ 127) {F s q kk p : Int} (p0 : p_NR ba qn (F)) (p1 : p_CU ba qk qs qq qn qv (s)) (p2 : kk = qk) (p3 : q = qq) (c0 : 0 ≤ p + (-74)) (c1 : 0 ≤ (-1) * p + 74) (c2 : 0 ≤ F + (-1) * s + (-15360)) (c3 : 0 ≤ s + (-1) * F + 15360) (c4 : 0 ≤ q + (-1) * s + (-5)) (c5 : 0 ≤ s) (c6 : 0 ≤ (-1) * s + 900) : p_NR ba qn (F + 1024) := by
  obtain ⟨uA, u0, u1, u2, u3⟩ := p1
  obtain ⟨s0, j0, e0, f1, f2, f3, f4⟩ := p0
  obtain ⟨rfl, rfl⟩ : s0 = s ∧ j0 = 15 := by omega
  refine ⟨s0, 15 + 1, by omega, by omega, by omega, by omega, fun i a w hw => ?_⟩
  by_cases k : (i : Int) < 15
  · exact f4 i k w hw
  · obtain rfl : i = 15 := by omega
    obtain rfl : 677454 = w := Option.some.inj hw
    intro hh
    have g := m_wi_len (k := 3) (show (32 : Int) ^ 3 ≤ 677454 by decide) (show (677454 : Int) < 32 ^ 4 by decide) hh
    omega
theorem k_nrn15 {qn : Int} {ba : Int → Int} (hqn : 0 ≤ qn ∧ qn ≤ 900) (hba : ∀ i, -128 ≤ ba i ∧ ba i ≤ 127) {F G s p : Int} (p0 : p_NR ba qn (F)) (p1 : p_NI ba qn (G)) (c0 : 0 ≤ p + (-74)) (c1 : 0 ≤ (-1) * p + 74) (c2 : 0 ≤ F + (-1) * s + (-15360)) (c3 : 0 ≤ s + (-1) * F + 15360) (c4 : 0 ≤ G + (-1099511627776) * s + (-677454)) (c5 : 0 ≤ 1099511627776 * s + (-1) * G + 677454) (c6 : 0 ≤ s) (c7 : 0 ≤ (-1) * s + 900) : p_NR ba qn (F + 1024) := by
  obtain ⟨w1, s2, y1, y2, y3, y4, hw1⟩ := p1
  obtain rfl : s2 = s := by omega
  obtain rfl : w1 = 677454 := by omega
  obtain ⟨s0, j0, e0, f1, f2, f3, f4⟩ := p0
  obtain ⟨rfl, rfl⟩ : s0 = s2 ∧ j0 = 15 := by omega
  refine ⟨s0, 15 + 1, by omega, by omega, by omega, by omega, fun i a w hw => ?_⟩
  by_cases k : (i : Int) < 15
  · exact f4 i k w hw
  · obtain rfl : i = 15 := by omega
    obtain rfl : 677454 = w := Option.some.inj hw
    exact hw1
theorem k_xnr15 {qn : Int} {ba : Int → Int} (hqn : 0 ≤ qn ∧ qn ≤ 900) (hba : ∀ i, -128 ≤ ba i ∧ ba i ≤ 127) {G s : Int} (p0 : p_WI ba qn (G)) (c0 : 0 ≤ G + (-1099511627776) * s + (-677454)) (c1 : 0 ≤ 1099511627776 * s + (-1) * G + 677454) (c2 : 0 ≤ s) (c3 : 0 ≤ (-1) * s + 900) : p_XN ba qn (s) := by
  obtain ⟨w1, s2, y1, y2, y3, y4, hw1⟩ := p0
  obtain rfl : s2 = s := by omega
  obtain rfl : w1 = 677454 := by omega
  refine ⟨by omega, ?_⟩
  rw [m_ntz m_nmk_t]
  rintro ⟨k1, k2, k3⟩
  exact k3 677454 (by decide) hw1.2
theorem k_xwr16 {p : Int} (c0 : 0 ≤ p + (-79)) (c1 : 0 ≤ (-1) * p + 79) : p_XW (762030) := by
  trivial
theorem k_nrl16a {qn : Int} {qk : Int} {qs : Int} {qq : Int} {qv : Int} {ba : Int → Int} (hqn : 0 ≤ qn ∧ qn ≤ 900) (hqk : 0 ≤ qk ∧ qk ≤ 4) (hqs : 0 ≤ qs ∧ qs ≤ 900) (hqq : 0 ≤ qq ∧ qq ≤ 900) (hba : ∀ i, -128 ≤ ba i ∧ ba i ≤ 127) {F s q kk p : Int} (p0 : p_NR ba qn (F)) (p1 : p_CU ba qk qs qq qn qv (s)) (p2 : kk = qk) (p3 : q = qq) (c0 : 0 ≤ p + (-79)) (c1 : 0 ≤ (-1) * p + 79) (c2 : 0 ≤ F + (-1) * s + (-16384)) (c3 : 0 ≤ s + (-1) * F + 16384) (c4 : 0 ≤ s + (-1) * q + 3) (c5 : 0 ≤ s) (c6 : 0 ≤ (-1) * s + 900) : p_NR ba qn (F + 1024) := by
  obtain ⟨uA, u0, u1, u2, u3⟩ := p1
  obtain ⟨s0, j0, e0, f1, f2, f3, f4⟩ := p0
  obtain ⟨rfl, rfl⟩ : s0 = s ∧ j0 = 16 := by omega
  refine ⟨s0, 16 + 1, by omega, by omega, by omega, by omega, fun i a w hw => ?_⟩
  by_cases k : (i : Int) < 16
  · exact f4 i k w hw
  · obtain rfl : i = 16 := by omega
    obtain rfl : 762030 = w := Option.some.inj hw
    intro hh
    have g := m_wi_len (k := 3) (show (32 : Int) ^ 3 ≤ 762030 by decide) (show (762030 : Int) < 32 ^ 4 by decide) hh
    omega
theorem k_nrl16b {qn : Int} {qk : Int} {qs : Int} {qq : Int} {qv : Int} {ba : Int → Int} (hqn : 0 ≤ qn ∧ qn ≤ 900) (hqk : 0 ≤ qk ∧ qk ≤ 4) (hqs : 0 ≤ qs ∧ qs ≤ 900) (hqq : 0 ≤ qq ∧ qq ≤ 900) (hba : ∀ i, -128 ≤ ba i ∧ ba i ≤ 127) {F s q kk p : Int} (p0 : p_NR ba qn (F)) (p1 : p_CU ba qk qs qq qn qv (s)) (p2 : kk = qk) (p3 : q = qq) (c0 : 0 ≤ p + (-79)) (c1 : 0 ≤ (-1) * p + 79) (c2 : 0 ≤ F + (-1) * s + (-16384)) (c3 : 0 ≤ s + (-1) * F + 16384) (c4 : 0 ≤ q + (-1) * s + (-5)) (c5 : 0 ≤ s) (c6 : 0 ≤ (-1) * s + 900) : p_NR ba qn (F + 1024) := by
  obtain ⟨uA, u0, u1, u2, u3⟩ := p1
  obtain ⟨s0, j0, e0, f1, f2, f3, f4⟩ := p0
  obtain ⟨rfl, rfl⟩ : s0 = s ∧ j0 = 16 := by omega
  refine ⟨s0, 16 + 1, by omega, by omega, by omega, by omega, fun i a w hw => ?_⟩
  by_cases k : (i : Int) < 16
  · exact f4 i k w hw
  · obtain rfl : i = 16 := by omega
    obtain rfl : 762030 = w := Option.some.inj hw
    intro hh
    have g := m_wi_len (k := 3) (show (32 : Int) ^ 3 ≤ 762030 by decide) (show (762030 : Int) < 32 ^ 4 by decide) hh
    omega
theorem k_nrn16 {qn : Int} {ba : Int → Int} (hqn : 0 ≤ qn ∧ qn ≤ 900) (hba : ∀ i, -128 ≤ ba i ∧ ba i ≤ 127) {F G s p : Int} (p0 : p_NR ba qn (F)) (p1 : p_NI ba qn (G)) (c0 : 0 ≤ p + (-79)) (c1 : 0 ≤ (-1) * p + 79) (c2 : 0 ≤ F + (-1) * s + (-16384)) (c3 : 0 ≤ s + (-1) * F + 16384) (c4 : 0 ≤ G + (-1099511627776) * s + (-762030)) (c5 : 0 ≤ 1099511627776 * s + (-1) * G + 762030) (c6 : 0 ≤ s) (c7 : 0 ≤ (-1) * s + 900) : p_NR ba qn (F + 1024) := by
  obtain ⟨w1, s2, y1, y2, y3, y4, hw1⟩ := p1
  obtain rfl : s2 = s := by omega
  obtain rfl : w1 = 762030 := by omega
  obtain ⟨s0, j0, e0, f1, f2, f3, f4⟩ := p0
  obtain ⟨rfl, rfl⟩ : s0 = s2 ∧ j0 = 16 := by omega
  refine ⟨s0, 16 + 1, by omega, by omega, by omega, by omega, fun i a w hw => ?_⟩
  by_cases k : (i : Int) < 16
  · exact f4 i k w hw
  · obtain rfl : i = 16 := by omega
    obtain rfl : 762030 = w := Option.some.inj hw
    exact hw1
theorem k_xnr16 {qn : Int} {ba : Int → Int} (hqn : 0 ≤ qn ∧ qn ≤ 900) (hba : ∀ i, -128 ≤ ba i ∧ ba i ≤ 127) {G s : Int} (p0 : p_WI ba qn (G)) (c0 : 0 ≤ G + (-1099511627776) * s + (-762030)) (c1 : 0 ≤ 1099511627776 * s + (-1) * G + 762030) (c2 : 0 ≤ s) (c3 : 0 ≤ (-1) * s + 900) : p_XN ba qn (s) := by
  obtain ⟨w1, s2, y1, y2, y3, y4, hw1⟩ := p0
  obtain rfl : s2 = s := by omega
  obtain rfl : w1 = 762030 := by omega
  refine ⟨by omega, ?_⟩
  rw [m_ntz m_nmk_t]
  rintro ⟨k1, k2, k3⟩
  exact k3 762030 (by decide) hw1.2
theorem k_xwr17 {p : Int} (c0 : 0 ≤ p + (-84)) (c1 : 0 ≤ (-1) * p + 84) : p_XW (284570103) := by
  trivial
theorem k_nrl17a {qn : Int} {qk : Int} {qs : Int} {qq : Int} {qv : Int} {ba : Int → Int} (hqn : 0 ≤ qn ∧ qn ≤ 900) (hqk : 0 ≤ qk ∧ qk ≤ 4) (hqs : 0 ≤ qs ∧ qs ≤ 900) (hqq : 0 ≤ qq ∧ qq ≤ 900) (hba : ∀ i, -128 ≤ ba i ∧ ba i ≤ 127) {F s q kk p : Int} (p0 : p_NR ba qn (F)) (p1 : p_CU ba qk qs qq qn qv (s)) (p2 : kk = qk) (p3 : q = qq) (c0 : 0 ≤ p + (-84)) (c1 : 0 ≤ (-1) * p + 84) (c2 : 0 ≤ F + (-1) * s + (-17408)) (c3 : 0 ≤ s + (-1) * F + 17408) (c4 : 0 ≤ s + (-1) * q + 5) (c5 : 0 ≤ s) (c6 : 0 ≤ (-1) * s + 900) : p_NR ba qn (F + 1024) := by
  obtain ⟨uA, u0, u1, u2, u3⟩ := p1
  obtain ⟨s0, j0, e0, f1, f2, f3, f4⟩ := p0
  obtain ⟨rfl, rfl⟩ : s0 = s ∧ j0 = 17 := by omega
  refine ⟨s0, 17 + 1, by omega, by omega, by omega, by omega, fun i a w hw => ?_⟩
  by_cases k : (i : Int) < 17
  · exact f4 i k w hw
  · obtain rfl : i = 17 := by omega
    obtain rfl : 284570103 = w := Option.some.inj hw
    intro hh
    have g := m_wi_len (k := 5) (show (32 : Int) ^ 5 ≤ 284570103 by decide) (show (284570103 : Int) < 32 ^ 6 by decide) hh
    omega
theorem k_nrl17b {qn : Int} {qk : Int} {qs : Int} {qq : Int} {qv : Int} {ba : Int → Int} (hqn : 0 ≤ qn ∧ qn ≤ 900) (hqk : 0 ≤ qk ∧ qk ≤ 4) (hqs : 0 ≤ qs ∧ qs ≤ 900) (hqq : 0 ≤ qq ∧ qq ≤ 900) (hba : ∀ i, -128 ≤ ba i ∧ ba i ≤ 127) {F s q kk p : Int} (p0 : p_NR ba qn (F)) (p1 : p_CU ba qk qs qq qn qv (s)) (p2 : kk = qk) (p3 : q = qq) (c0 : 0 ≤ p + (-84)) (c1 : 0 ≤ (-1) * p + 84) (c2 : 0 ≤ F + (-1) * s + (-17408)) (c3 : 0 ≤ s + (-1) * F + 17408) (c4 : 0 ≤ q + (-1) * s + (-7)) (c5 : 0 ≤ s) (c6 : 0 ≤ (-1) * s + 900) : p_NR ba qn (F + 1024) := by
  obtain ⟨uA, u0, u1, u2, u3⟩ := p1
  obtain ⟨s0, j0, e0, f1, f2, f3, f4⟩ := p0
  obtain ⟨rfl, rfl⟩ : s0 = s ∧ j0 = 17 := by omega
  refine ⟨s0, 17 + 1, by omega, by omega, by omega, by omega, fun i a w hw => ?_⟩
  by_cases k : (i : Int) < 17
  · exact f4 i k w hw
  · obtain rfl : i = 17 := by omega
    obtain rfl : 284570103 = w := Option.some.inj hw
    intro hh
    have g := m_wi_len (k := 5) (show (32 : Int) ^ 5 ≤ 284570103 by decide) (show (284570103 : Int) < 32 ^ 6 by decide) hh
    omega
theorem k_nrn17 {qn : Int} {ba : Int → Int} (hqn : 0 ≤ qn ∧ qn ≤ 900) (hba : ∀ i, -128 ≤ ba i ∧ ba i ≤ 127) {F G s p : Int} (p0 : p_NR ba qn (F)) (p1 : p_NI ba qn (G)) (c0 : 0 ≤ p + (-84)) (c1 : 0 ≤ (-1) * p + 84) (c2 : 0 ≤ F + (-1) * s + (-17408)) (c3 : 0 ≤ s + (-1) * F + 17408) (c4 : 0 ≤ G + (-1099511627776) * s + (-284570103)) (c5 : 0 ≤ 1099511627776 * s + (-1) * G + 284570103) (c6 : 0 ≤ s) (c7 : 0 ≤ (-1) * s + 900) : p_NR ba qn (F + 1024) := by
  obtain ⟨w1, s2, y1, y2, y3, y4, hw1⟩ := p1
  obtain rfl : s2 = s := by omega
  obtain rfl : w1 = 284570103 := by omega
  obtain ⟨s0, j0, e0, f1, f2, f3, f4⟩ := p0
  obtain ⟨rfl, rfl⟩ : s0 = s2 ∧ j0 = 17 := by omega
  refine ⟨s0, 17 + 1, by omega, by omega, by omega, by omega, fun i a w hw => ?_⟩
  by_cases k : (i : Int) < 17
  · exact f4 i k w hw
  · obtain rfl : i = 17 := by omega
    obtain rfl : 284570103 = w := Option.some.inj hw
    exact hw1
theorem k_xnr17 {qn : Int} {ba : Int → Int} (hqn : 0 ≤ qn ∧ qn ≤ 900) (hba : ∀ i, -128 ≤ ba i ∧ ba i ≤ 127) {G s : Int} (p0 : p_WI ba qn (G)) (c0 : 0 ≤ G + (-1099511627776) * s + (-284570103)) (c1 : 0 ≤ 1099511627776 * s + (-1) * G + 284570103) (c2 : 0 ≤ s) (c3 : 0 ≤ (-1) * s + 900) : p_XN ba qn (s) := by
  obtain ⟨w1, s2, y1, y2, y3, y4, hw1⟩ := p0
  obtain rfl : s2 = s := by omega
  obtain rfl : w1 = 284570103 := by omega
  refine ⟨by omega, ?_⟩
  rw [m_ntz m_nmk_t]
  rintro ⟨k1, k2, k3⟩
  exact k3 284570103 (by decide) hw1.2
theorem k_xwr18 {p : Int} (c0 : 0 ≤ p + (-91)) (c1 : 0 ≤ (-1) * p + 91) : p_XW (218508) := by
  trivial
theorem k_nrl18a {qn : Int} {qk : Int} {qs : Int} {qq : Int} {qv : Int} {ba : Int → Int} (hqn : 0 ≤ qn ∧ qn ≤ 900) (hqk : 0 ≤ qk ∧ qk ≤ 4) (hqs : 0 ≤ qs ∧ qs ≤ 900) (hqq : 0 ≤ qq ∧ qq ≤ 900) (hba : ∀ i, -128 ≤ ba i ∧ ba i ≤ 127) {F s q kk p : Int} (p0 : p_NR ba qn (F)) (p1 : p_CU ba qk qs qq qn qv (s)) (p2 : kk = qk) (p3 : q = qq) (c0 : 0 ≤ p + (-91)) (c1 : 0 ≤ (-1) * p + 91) (c2 : 0 ≤ F + (-1) * s + (-18432)) (c3 : 0 ≤ s + (-1) * F + 18432) (c4 : 0 ≤ s + (-1) * q + 3) (c5 : 0 ≤ s) (c6 : 0 ≤ (-1) * s + 900) : p_NR ba qn (F + 1024) := by
  obtain ⟨uA, u0, u1, u2, u3⟩ := p1
  obtain ⟨s0, j0, e0, f1, f2, f3, f4⟩ := p0
  obtain ⟨rfl, rfl⟩ : s0 = s ∧ j0 = 18 := by omega
  refine ⟨s0, 18 + 1, by omega, by omega, by omega, by omega, fun i a w hw => ?_⟩
  by_cases k : (i : Int) < 18
  · exact f4 i k w hw
  · obtain rfl : i = 18 := by omega
    obtain rfl : 218508 = w := Option.some.inj hw
    intro hh
    have g := m_wi_len (k := 3) (show (32 : Int) ^ 3 ≤ 218508 by decide) (show (218508 : Int) < 32 ^ 4 by decide) hh
    omega
theorem k_nrl18b {qn : Int} {qk : Int} {qs : Int} {qq : Int} {qv : Int} {ba : Int → Int} (hqn : 0 ≤ qn ∧ qn ≤ 900) (hqk : 0 ≤ qk ∧ qk ≤ 4) (hqs : 0 ≤ qs ∧ qs ≤ 900) (hqq : 0 ≤ qq ∧ qq ≤ 900) (hba : ∀ i, -128 ≤ ba i ∧ ba i ≤ 127) {F s q kk p : Int} (p0 : p_NR ba qn (F)) (p1 : p_CU ba qk qs qq qn qv (s)) (p2 : kk = qk) (p3 : q = qq) (c0 : 0 ≤ p + (-91)) (c1 : 0 ≤ (-1) * p + 91) (c2 : 0 ≤ F + (-1) * s + (-18432)) (c3 : 0 ≤ s + (-1) * F + 18432) (c4 : 0 ≤ q + (-1) * s + (-5)) (c5 : 0 ≤ s) (c6 : 0 ≤ (-1) * s + 900) : p_NR ba qn (F + 1024) := by
  obtain ⟨uA, u0, u1, u2, u3⟩ := p1
  obtain ⟨s0, j0, e0, f1, f2, f3, f4⟩ := p0
  obtain ⟨rfl, rfl⟩ : s0 = s ∧ j0 = 18 := by omega
  refine ⟨s0, 18 + 1, by omega, by omega, by omega, by omega, fun i a w hw => ?_⟩
  by_cases k : (i : Int) < 18
  · exact f4 i k w hw
  · obtain rfl : i = 18 := by omega
    obtain rfl : 218508 = w := Option.some.inj hw
    intro hh
    have g := m_wi_len (k := 3) (show (32 : Int) ^ 3 ≤ 218508 by decide) (show (218508 : Int) < 32 ^ 4 by decide) hh
    omega
theorem k_nrn18 {qn : Int} {ba : Int → Int} (hqn : 0 ≤ qn ∧ qn ≤ 900) (hba : ∀ i, -128 ≤ ba i ∧ ba i ≤ 127) {F G s p : Int} (p0 : p_NR ba qn (F)) (p1 : p_NI ba qn (G)) (c0 : 0 ≤ p + (-91)) (c1 : 0 ≤ (-1) * p + 91) (c2 : 0 ≤ F + (-1) * s + (-18432)) (c3 : 0 ≤ s + (-1) * F + 18432) (c4 : 0 ≤ G + (-1099511627776) * s + (-218508)) (c5 : 0 ≤ 1099511627776 * s + (-1) * G + 218508) (c6 : 0 ≤ s) (c7 : 0 ≤ (-1) * s + 900) : p_NR ba qn (F + 1024) := by
  obtain ⟨w1, s2, y1, y2, y3, y4, hw1⟩ := p1
  obtain rfl : s2 = s := by omega
  obtain rfl : w1 = 218508 := by omega
  obtain ⟨s0, j0, e0, f1, f2, f3, f4⟩ := p0
  obtain ⟨rfl, rfl⟩ : s0 = s2 ∧ j0 = 18 := by omega
  refine ⟨s0, 18 + 1, by omega, by omega, by omega, by omega, fun i a w hw => ?_⟩
  by_cases k : (i : Int) < 18
  · exact f4 i k w hw
  · obtain rfl : i = 18 := by omega
    obtain rfl : 218508 = w := Option.some.inj hw
    exact hw1
theorem k_xnr18 {qn : Int} {ba : Int → Int} (hqn : 0 ≤ qn ∧ qn ≤ 900) (hba : ∀ i, -128 ≤ ba i ∧ ba i ≤ 127) {G s : Int} (p0 : p_WI ba qn (G)) (c0 : 0 ≤ G + (-1099511627776) * s + (-218508)) (c1 : 0 ≤ 1099511627776 * s + (-1) * G + 218508) (c2 : 0 ≤ s) (c3 : 0 ≤ (-1) * s + 900) : p_XN ba qn (s) := by
  obtain ⟨w1, s2, y1, y2, y3, y4, hw1⟩ := p0
  obtain rfl : s2 = s := by omega
  obtain rfl : w1 = 218508 := by omega
  refine ⟨by omega, ?_⟩
  rw [m_ntz m_nmk_t]
  rintro ⟨k1, k2, k3⟩
  exact k3 218508 (by decide) hw1.2
theorem k_xwr19 {p : Int} (c0 : 0 ≤ p + (-96)) (c1 : 0 ≤ (-1) * p + 96) : p_XW (20594117) := by
  trivial
theorem k_nrl19a {qn : Int} {qk : Int} {qs : Int} {qq : Int} {qv : Int} {ba : Int → Int} (hqn : 0 ≤ qn ∧ qn ≤ 900) (hqk : 0 ≤ qk ∧ qk ≤ 4) (hqs : 0 ≤ qs ∧ qs ≤ 900) (hqq : 0 ≤ qq ∧ qq ≤ 900) (hba : ∀ i, -128 ≤ ba i ∧ ba i ≤ 127) {F s q kk p : Int} (p0 : p_NR ba qn (F)) (p1 : p_CU ba qk qs qq qn qv (s)) (p2 : kk = qk) (p3 : q = qq) (c0 : 0 ≤ p + (-96)) (c1 : 0 ≤ (-1) * p + 96) (c2 : 0 ≤ F + (-1) * s + (-19456)) (c3 : 0 ≤ s + (-1) * F + 19456) (c4 : 0 ≤ s + (-1) * q + 4) (c5 : 0 ≤ s) (c6 : 0 ≤ (-1) * s + 900) : p_NR ba qn (F + 1024) := by
  obtain ⟨uA, u0, u1, u2, u3⟩ := p1
  obtain ⟨s0, j0, e0, f1, f2, f3, f4⟩ := p0
  obtain ⟨rfl, rfl⟩ : s0 = s ∧ j0 = 19 := by omega
  refine ⟨s0, 19 + 1, by omega, by omega, by omega, by omega, fun i a w hw => ?_⟩
  by_cases k : (i : Int) < 19
  · exact f4 i k w hw
  · obtain rfl : i = 19 := by omega
    obtain rfl : 20594117 = w := Option.some.inj hw
    intro hh
    have g := m_wi_len (k := 4) (show (32 : Int) ^ 4 ≤ 20594117 by decide) (show (20594117 : Int) < 32 ^ 5 by decide) hh
    omega
theorem k_nrl19b {qn : Int} {qk : Int} {qs : Int} {qq : Int} {qv : Int} {ba : Int → Int} (hqn : 0 ≤ qn ∧ qn ≤ 900) (hqk : 0 ≤ qk ∧ qk ≤ 4) (hqs : 0 ≤ qs ∧ qs ≤ 900) (hqq : 0 ≤ qq ∧ qq ≤ 900) (hba : ∀ i, -128 ≤ ba i ∧ ba i ≤ 127) {F s q kk p : Int} (p0 : p_NR ba qn (F)) (p1 : p_CU ba qk qs qq qn qv (s)) (p2 : kk = qk) (p3 : q = qq) (c0 : 0 ≤ p + (-96)) (c1 : 0 ≤ (-1) * p + 96) (c2 : 0 ≤ F + (-1) * s + (-19456)) (c3 : 0 ≤ s + (-1) * F + 19456) (c4 : 0 ≤ q + (-1) * s + (-6)) (c5 : 0 ≤ s) (c6 : 0 ≤ (-1) * s + 900) : p_NR ba qn (F + 1024) := by
  obtain ⟨uA, u0, u1, u2, u3⟩ := p1
  obtain ⟨s0, j0, e0, f1, f2, f3, f4⟩ := p0
  obtain ⟨rfl, rfl⟩ : s0 = s ∧ j0 = 19 := by omega
  refine ⟨s0, 19 + 1, by omega, by omega, by omega, by omega, fun i a w hw => ?_⟩
  by_cases k : (i : Int) < 19
  · exact f4 i k w hw
  · obtain rfl : i = 19 := by omega
    obtain rfl : 20594117 = w := Option.some.inj hw
    intro hh
    have g := m_wi_len (k := 4) (show (32 : Int) ^ 4 ≤ 20594117 by decide) (show (20594117 : Int) < 32 ^ 5 by decide) hh
    omega
theorem k_nrn19 {qn : Int} {ba : Int → Int} (hqn : 0 ≤ qn ∧ qn ≤ 900) (hba : ∀ i, -128 ≤ ba i ∧ ba i ≤ 127) {F G s p : Int} (p0 : p_NR ba qn (F)) (p1 : p_NI ba qn (G)) (c0 : 0 ≤ p + (-96)) (c1 : 0 ≤ (-1) * p + 96) (c2 : 0 ≤ F + (-1) * s + (-19456)) (c3 : 0 ≤ s + (-1) * F + 19456) (c4 : 0 ≤ G + (-1099511627776) * s + (-20594117)) (c5 : 0 ≤ 1099511627776 * s + (-1) * G + 20594117) (c6 : 0 ≤ s) (c7 : 0 ≤ (-1) * s + 900) : p_NR ba qn (F + 1024) := by
  obtain ⟨w1, s2, y1, y2, y3, y4, hw1⟩ := p1
  obtain rfl : s2 = s := by omega
  obtain rfl : w1 = 20594117 := by omega
  obtain ⟨s0, j0, e0, f1, f2, f3, f4⟩ := p0
  obtain ⟨rfl, rfl⟩ : s0 = s2 ∧ j0 = 19 := by omega
  refine ⟨s0, 19 + 1, by omega, by omega, by omega, by omega, fun i a w hw => ?_⟩
  by_cases k : (i : Int) < 19
  · exact f4 i k w hw
  · obtain rfl : i = 19 := by omega
    obtain rfl : 20594117 = w := Option.some.inj hw
    exact hw1
theorem k_xnr19 {qn : Int} {ba : Int → Int} (hqn : 0 ≤ qn ∧ qn ≤ 900) (hba : ∀ i, -128 ≤ ba i ∧ ba i ≤ 127) {G s : Int} (p0 : p_WI ba qn (G)) (c0 : 0 ≤ G + (-1099511627776) * s + (-20594117)) (c1 : 0 ≤ 1099511627776 * s + (-1) * G + 20594117) (c2 : 0 ≤ s) (c3 : 0 ≤ (-1) * s + 900) : p_XN ba qn (s) := by
  obtain ⟨w1, s2, y1, y2, y3, y4, hw1⟩ := p0
  obtain rfl : s2 = s := by omega
  obtain rfl : w1 = 20594117 := by omega
  refine ⟨by omega, ?_⟩
  rw [m_ntz m_nmk_t]
  rintro ⟨k1, k2, k3⟩
  exact k3 20594117 (by decide) hw1.2
theorem k_xwr20 {p : Int} (c0 : 0 ≤ p + (-102)) (c1 : 0 ≤ (-1) * p + 102) : p_XW (15192228) := by
  trivial
theorem k_nrl20a {qn : Int} {qk : Int} {qs : Int} {qq : Int} {qv : Int} {ba : Int → Int} (hqn : 0 ≤ qn ∧ qn ≤ 900) (hqk : 0 ≤ qk ∧ qk ≤ 4) (hqs : 0 ≤ qs ∧ qs ≤ 900) (hqq : 0 ≤ qq ∧ qq ≤ 900) (hba : ∀ i, -128 ≤ ba i ∧ ba i ≤ 127) {F s q kk p : Int} (p0 : p_NR ba qn (F)) (p1 : p_CU ba qk qs qq qn qv (s)) (p2 : kk = qk) (p3 : q = qq) (c0 : 0 ≤ p + (-102)) (c1 : 0 ≤ (-1) * p + 102) (c2 : 0 ≤ F + (-1) * s + (-20480)) (c3 : 0 ≤ s + (-1) * F + 20480) (c4 : 0 ≤ s + (-1) * q + 4) (c5 : 0 ≤ s) (c6 : 0 ≤ (-1) * s + 900) : p_NR ba qn (F + 1024) := by
  obtain ⟨uA, u0, u1, u2, u3⟩ := p1
  obtain ⟨s0, j0, e0, f1, f2, f3, f4⟩ := p0
  obtain ⟨rfl, rfl⟩ : s0 = s ∧ j0 = 20 := by omega
  refine ⟨s0, 20 + 1, by omega, by omega, by omega, by omega, fun i a w hw => ?_⟩
  by_cases k : (i : Int) < 20
  · exact f4 i k w hw
  · obtain rfl : i = 20 := by omega
    obtain rfl : 15192228 = w := Option.some.inj hw
    intro hh
    have g := m_wi_len (k := 4) (show (32 : Int) ^ 4 ≤ 15192228 by decide) (show (15192228 : Int) < 32 ^ 5 by decide) hh
    omega
theorem k_nrl20b {qn : Int} {qk : Int} {qs : Int} {qq : Int} {qv : Int} {ba : Int → Int} (hqn : 0 ≤ qn ∧ qn ≤ 900) (hqk : 0 ≤ qk ∧ qk ≤ 4) (hqs : 0 ≤ qs ∧ qs ≤ 900) (hqq : 0 ≤ qq ∧ qq ≤ 900) (hba : ∀ i, -128 ≤ ba i ∧ ba i ≤ 127) {F s q kk p : Int} (p0 : p_NR ba qn (F)) (p1 : p_CU ba qk qs qq qn qv (s)) (p2 : kk = qk) (p3 : q = qq) (c0 : 0 ≤ p + (-102)) (c1 : 0 ≤ (-1) * p + 102) (c2 : 0 ≤ F + (-1) * s + (-20480)) (c3 : 0 ≤ s + (-1) * F + 20480) (c4 : 0 ≤ q + (-1) * s + (-6)) (c5 : 0 ≤ s) (c6 : 0 ≤ (-1) * s + 900) : p_NR ba qn (F + 1024) := by
  obtain ⟨uA, u0, u1, u2, u3⟩ := p1
  obtain ⟨s0, j0, e0, f1, f2, f3, f4⟩ := p0
  obtain ⟨rfl, rfl⟩ : s0 = s ∧ j0 = 20 := by omega
  refine ⟨s0, 20 + 1, by omega, by omega, by omega, by omega, fun i a w hw => ?_⟩
  by_cases k : (i : Int) < 20
  · exact f4 i k w hw
  · obtain rfl : i = 20 := by omega
    obtain rfl : 15192228 = w := Option.some.inj hw
    intro hh
    have g := m_wi_len (k := 4) (show (32 : Int) ^ 4 ≤ 15192228 by decide) (show (15192228 : Int) < 32 ^ 5 by decide) hh
    omega
theorem k_nrn20 {qn : Int} {ba : Int → Int} (hqn : 0 ≤ qn ∧ qn ≤ 900) (hba : ∀ i, -128 ≤ ba i ∧ ba i ≤ 127) {F G s p : Int} (p0 : p_NR ba qn (F)) (p1 : p_NI ba qn (G)) (c0 : 0 ≤ p + (-102)) (c1 : 0 ≤ (-1) * p + 102) (c2 : 0 ≤ F + (-1) * s + (-20480)) (c3 : 0 ≤ s + (-1) * F + 20480) (c4 : 0 ≤ G + (-1099511627776) * s + (-15192228)) (c5 : 0 ≤ 1099511627776 * s + (-1) * G + 15192228) (c6 : 0 ≤ s) (c7 : 0 ≤ (-1) * s + 900) : p_NR ba qn (F + 1024) := by
  obtain ⟨w1, s2, y1, y2, y3, y4, hw1⟩ := p1
  obtain rfl : s2 = s := by omega
  obtain rfl : w1 = 15192228 := by omega
  obtain ⟨s0, j0, e0, f1, f2, f3, f4⟩ := p0
  obtain ⟨rfl, rfl⟩ : s0 = s2 ∧ j0 = 20 := by omega
  refine ⟨s0, 20 + 1, by omega, by omega, by omega, by omega, fun i a w hw => ?_⟩
  by_cases k : (i : Int) < 20
  · exact f4 i k w hw
  · obtain rfl : i = 20 := by omega
    obtain rfl : 15192228 = w := Option.some.inj hw
    exact hw1
theorem k_xnr20 {qn : Int} {ba : Int → Int} (hqn : 0 ≤ qn ∧ qn ≤ 900) (hba : ∀ i, -128 ≤ ba i ∧ ba i ≤ 127) {G s : Int} (p0 : p_WI ba qn (G)) (c0 : 0 ≤ G + (-1099511627776) * s + (-15192228)) (c1 : 0 ≤ 1099511627776 * s + (-1) * G + 15192228) (c2 : 0 ≤ s) (c3 : 0 ≤ (-1) * s + 900) : p_XN ba qn (s) := by
  obtain ⟨w1, s2, y1, y2, y3, y4, hw1⟩ := p0
  obtain rfl : s2 = s := by omega
  obtain rfl : w1 = 15192228 := by omega
  refine ⟨by omega, ?_⟩
  rw [m_ntz m_nmk_t]
  rintro ⟨k1, k2, k3⟩
  exact k3 15192228 (by decide) hw1.2
theorem k_xwr21 {p : Int} (c0 : 0 ≤ p + (-108)) (c1 : 0 ≤ (-1) * p + 108) : p_XW (6605428) := by
  trivial
theorem k_nrl21a {qn : Int} {qk : Int} {qs : Int} {qq : Int} {qv : Int} {ba : Int → Int} (hqn : 0 ≤ qn ∧ qn ≤ 900) (hqk : 0 ≤ qk ∧ qk ≤ 4) (hqs : 0 ≤ qs ∧ qs ≤ 900) (hqq : 0 ≤ qq ∧ qq ≤ 900) (hba : ∀ i, -128 ≤ ba i ∧ ba i ≤ 127) {F s q kk p : Int} (p0 : p_NR ba qn (F)) (p1 : p_CU ba qk qs qq qn qv (s)) (p2 : kk = qk) (p3 : q = qq) (c0 : 0 ≤ p + (-108)) (c1 : 0 ≤ (-1) * p + 108) (c2 : 0 ≤ F + (-1) * s + (-21504)) (c3 : 0 ≤ s + (-1) * F + 21504) (c4 : 0 ≤ s + (-1) * q + 4) (c5 : 0 ≤ s) (c6 : 0 ≤ (-1) * s + 900) : p_NR ba qn (F + 1024) := by
  obtain ⟨uA, u0, u1, u2, u3⟩ := p1
  obtain ⟨s0, j0, e0, f1, f2, f3, f4⟩ := p0
  obtain ⟨rfl, rfl⟩ : s0 = s ∧ j0 = 21 := by omega
  refine ⟨s0, 21 + 1, by omega, by omega, by omega, by omega, fun i a w hw => ?_⟩
  by_cases k : (i : Int) < 21
  · exact f4 i k w hw
  · obtain rfl : i = 21 := by omega
    obtain rfl : 6605428 = w := Option.some.inj hw
    intro hh
    have g := m_wi_len (k := 4) (show (32 : Int) ^ 4 ≤ 6605428 by decide) (show (6605428 : Int) < 32 ^ 5 by decide) hh
    omega
theorem k_nrl21b {qn : Int} {qk : Int} {qs : Int} {qq : Int} {qv : Int} {ba : Int → Int} (hqn : 0 ≤ qn ∧ qn ≤ 900) (hqk : 0 ≤ qk ∧ qk ≤ 4) (hqs : 0 ≤ qs ∧ qs ≤ 900) (hqq : 0 ≤ qq ∧ qq ≤ 900) (hba : ∀ i, -128 ≤ ba i ∧ ba i ≤ 127) {F s q kk p : Int} (p0 : p_NR ba qn (F)) (p1 : p_CU ba qk qs qq qn qv (s)) (p2 : kk = qk) (p3 : q = qq) (c0 : 0 ≤ p + (-108)) (c1 : 0 ≤ (-1) * p + 108) (c2 : 0 ≤ F + (-1) * s + (-21504)) (c3 : 0 ≤ s + (-1) * F + 21504) (c4 : 0 ≤ q + (-1) * s + (-6)) (c5 : 0 ≤ s) (c6 : 0 ≤ (-1) * s + 900) : p_NR ba qn (F + 1024) := by
  obtain ⟨uA, u0, u1, u2, u3⟩ := p1
  obtain ⟨s0, j0, e0, f1, f2, f3, f4⟩ := p0
  obtain ⟨rfl, rfl⟩ : s0 = s ∧ j0 = 21 := by omega
  refine ⟨s0, 21 + 1, by omega, by omega, by omega, by omega, fun i a w hw => ?_⟩
  by_cases k : (i : Int) < 21
  · exact f4 i k w hw
  · obtain rfl : i = 21 := by omega
    obtain rfl : 6605428 = w := Option.some.inj hw
    intro hh
    have g := m_wi_len (k := 4) (show (32 : Int) ^ 4 ≤ 6605428 by decide) (show (6605428 : Int) < 32 ^ 5 by decide) hh
    omega
theorem k_nrn21 {qn : Int} {ba : Int → Int} (hqn : 0 ≤ qn ∧ qn ≤ 900) (hba : ∀ i, -128 ≤ ba i ∧ ba i ≤ 127) {F G s p : Int} (p0 : p_NR ba qn (F)) (p1 : p_NI ba qn (G)) (c0 : 0 ≤ p + (-108)) (c1 : 0 ≤ (-1) * p + 108) (c2 : 0 ≤ F + (-1) * s + (-21504)) (c3 : 0 ≤ s + (-1) * F + 21504) (c4 : 0 ≤ G + (-1099511627776) * s + (-6605428)) (c5 : 0 ≤ 1099511627776 * s + (-1) * G + 6605428) (c6 : 0 ≤ s) (c7 : 0 ≤ (-1) * s + 900) : p_NR ba qn (F + 1024) := by
  obtain ⟨w1, s2, y1, y2, y3, y4, hw1⟩ := p1
  obtain rfl : s2 = s := by omega
  obtain rfl : w1 = 6605428 := by omega
  obtain ⟨s0, j0, e0, f1, f2, f3, f4⟩ := p0
  obtain ⟨rfl, rfl⟩ : s0 = s2 ∧ j0 = 21 := by omega
  refine ⟨s0, 21 + 1, by omega, by omega, by omega, by omega, fun i a w hw => ?_⟩
  by_cases k : (i : Int) < 21
  · exact f4 i k w hw
  · obtain rfl : i = 21 := by omega
    obtain rfl : 6605428 = w := Option.some.inj hw
    exact hw1
theorem k_xnr21 {qn : Int} {ba : Int → Int} (hqn : 0 ≤ qn ∧ qn ≤ 900) (hba : ∀ i, -128 ≤ ba i ∧ ba i ≤ 127) {G s : Int} (p0 : p_WI ba qn (G)) (c0 : 0 ≤ G + (-1099511627776) * s + (-6605428)) (c1 : 0 ≤ 1099511627776 * s + (-1) * G + 6605428) (c2 : 0 ≤ s) (c3 : 0 ≤ (-1) * s + 900) : p_XN ba qn (s) := by
  obtain ⟨w1, s2, y1, y2, y3, y4, hw1⟩ := p0
  obtain rfl : s2 = s := by omega
  obtain rfl : w1 = 6605428 := by omega
  refine ⟨by omega, ?_⟩
  rw [m_ntz m_nmk_t]
  rintro ⟨k1, k2, k3⟩
  exact k3 6605428 (by decide) hw1.2
theorem k_xwr22 {p : Int} (c0 : 0 ≤ p + (-114)) (c1 : 0 ≤ (-1) * p + 114) : p_XW (409072) := by
  trivial
theorem k_nrl22a {qn : Int} {qk : Int} {qs : Int} {qq : Int} {qv : Int} {ba : Int → Int} (hqn : 0 ≤ qn ∧ qn ≤ 900) (hqk : 0 ≤ qk ∧ qk ≤ 4) (hqs : 0 ≤ qs ∧ qs ≤ 900) (hqq : 0 ≤ qq ∧ qq ≤ 900) (hba : ∀ i, -128 ≤ ba i ∧ ba i ≤ 127) {F s q kk p : Int} (p0 : p_NR ba qn (F)) (p1 : p_CU ba qk qs qq qn qv (s)) (p2 : kk = qk) (p3 : q = qq) (c0 : 0 ≤ p + (-114)) (c1 : 0 ≤ (-1) * p + 114) (c2 : 0 ≤ F + (-1) * s + (-22528)) (c3 : 0 ≤ s + (-1) * F + 22528) (c4 : 0 ≤ s + (-1) * q + 3) (c5 : 0 ≤ s) (c6 : 0 ≤ (-1) * s + 900) : p_NR ba qn (F + 1024) := by
  obtain ⟨uA, u0, u1, u2, u3⟩ := p1
  obtain ⟨s0, j0, e0, f1, f2, f3, f4⟩ := p0
  obtain ⟨rfl, rfl⟩ : s0 = s ∧ j0 = 22 := by omega
  refine ⟨s0, 22 + 1, by omega, by omega, by omega, by omega, fun i a w hw => ?_⟩
  by_cases k : (i : Int) < 22
  · exact f4 i k w hw
  · obtain rfl : i = 22 := by omega
    obtain rfl : 409072 = w := Option.some.inj hw
    intro hh
    have g := m_wi_len (k := 3) (show (32 : Int) ^ 3 ≤ 409072 by decide) (show (409072 : Int) < 32 ^ 4 by decide) hh
    omega
theorem k_nrl22b {qn : Int} {qk : Int} {qs : Int} {qq : Int} {qv : Int} {ba : Int → Int} (hqn : 0 ≤ qn ∧ qn ≤ 900) (hqk : 0 ≤ qk ∧ qk ≤ 4) (hqs : 0 ≤ qs ∧ qs ≤ 900) (hqq : 0 ≤ qq ∧ qq ≤ 900) (hba : ∀ i, -128 ≤ ba i ∧ ba i ≤ 127) {F s q kk p : Int} (p0 : p_NR ba qn (F)) (p1 : p_CU ba qk qs qq qn qv (s)) (p2 : kk = qk) (p3 : q = qq) (c0 : 0 ≤ p + (-114)) (c1 : 0 ≤ (-1) * p + 114) (c2 : 0 ≤ F + (-1) * s + (-22528)) (c3 : 0 ≤ s + (-1) * F + 22528) (c4 : 0 ≤ q + (-1) * s + (-5)) (c5 : 0 ≤ s) (c6 : 0 ≤ (-1) * s + 900) : p_NR ba qn (F + 1024) := by
  obtain ⟨uA, u0, u1, u2, u3⟩ := p1
  obtain ⟨s0, j0, e0, f1, f2, f3, f4⟩ := p0
  obtain ⟨rfl, rfl⟩ : s0 = s ∧ j0 = 22 := by omega
  refine ⟨s0, 22 + 1, by omega, by omega, by omega, by omega, fun i a w hw => ?_⟩
  by_cases k : (i : Int) < 22
  · exact f4 i k w hw
  · obtain rfl : i = 22 := by omega
    obtain rfl : 409072 = w := Option.some.inj hw
    intro hh
    have g := m_wi_len (k := 3) (show (32 : Int) ^ 3 ≤ 409072 by decide) (show (409072 : Int) < 32 ^ 4 by decide) hh
    omega
theorem k_nrn22 {qn : Int} {ba : Int → Int} (hqn : 0 ≤ qn ∧ qn ≤ 900) (hba : ∀ i, -128 ≤ ba i ∧ ba i ≤ 127) {F G s p : Int} (p0 : p_NR ba qn (F)) (p1 : p_NI ba qn (G)) (c0 : 0 ≤ p + (-114)) (c1 : 0 ≤ (-1) * p + 114) (c2 : 0 ≤ F + (-1) * s + (-22528)) (c3 : 0 ≤ s + (-1) * F + 22528) (c4 : 0 ≤ G + (-1099511627776) * s + (-409072)) (c5 : 0 ≤ 1099511627776 * s + (-1) * G + 409072) (c6 : 0 ≤ s) (c7 : 0 ≤ (-1) * s + 900) : p_NR ba qn (F + 1024) := by
  obtain ⟨w1, s2, y1, y2, y3, y4, hw1⟩ := p1
  obtain rfl : s2 = s := by omega
  obtain rfl : w1 = 409072 := by omega
  obtain ⟨s0, j0, e0, f1, f2, f3, f4⟩ := p0
  obtain ⟨rfl, rfl⟩ : s0 = s2 ∧ j0 = 22 := by omega
  refine ⟨s0, 22 + 1, by omega, by omega, by omega, by omega, fun i a w hw => ?_⟩
  by_cases k : (i : Int) < 22
  · exact f4 i k w hw
  · obtain rfl : i = 22 := by omega
    obtain rfl : 409072 = w := Option.some.inj hw
    exact hw1
theorem k_xnr22 {qn : Int} {ba : Int → Int} (hqn : 0 ≤ qn ∧ qn ≤ 900) (hba : ∀ i, -128 ≤ ba i ∧ ba i ≤ 127) {G s : Int} (p0 : p_WI ba qn (G)) (c0 : 0 ≤ G + (-1099511627776) * s + (-409072)) (c1 : 0 ≤ 1099511627776 * s + (-1) * G + 409072) (c2 : 0 ≤ s) (c3 : 0 ≤ (-1) * s + 900) : p_XN ba qn (s) := by
  obtain ⟨w1, s2, y1, y2, y3, y4, hw1⟩ := p0
  obtain rfl : s2 = s := by omega
  obtain rfl : w1 = 409072 := by omega
  refine ⟨by omega, ?_⟩
  rw [m_ntz m_nmk_t]
  rintro ⟨k1, k2, k3⟩
  exact k3 409072 (by decide) hw1.2
theorem k_xwr23 {p : Int} (c0 : 0 ≤ p + (-119)) (c1 : 0 ≤ (-1) * p + 119) : p_XW (5572) := by
  trivial
theorem k_nrl23a {qn : Int} {qk : Int} {qs : Int} {qq : Int} {qv : Int} {ba : Int → Int} (hqn : 0 ≤ qn ∧ qn ≤ 900) (hqk : 0 ≤ qk ∧ qk ≤ 4) (hqs : 0 ≤ qs ∧ qs ≤ 900) (hqq : 0 ≤ qq ∧ qq ≤ 900) (hba : ∀ i, -128 ≤ ba i ∧ ba i ≤ 127) {F s q kk p : Int} (p0 : p_NR ba qn (F)) (p1 : p_CU ba qk qs qq qn qv (s)) (p2 : kk = qk) (p3 : q = qq) (c0 : 0 ≤ p + (-119)) (c1 : 0 ≤ (-1) * p + 119) (c2 : 0 ≤ F + (-1) * s + (-23552)) (c3 : 0 ≤ s + (-1) * F + 23552) (c4 : 0 ≤ s + (-1) * q + 2) (c5 : 0 ≤ s) (c6 : 0 ≤ (-1) * s + 900) : p_NR ba qn (F + 1024) := by
  obtain ⟨uA, u0, u1, u2, u3⟩ := p1
  obtain ⟨s0, j0, e0, f1, f2, f3, f4⟩ := p0
  obtain ⟨rfl, rfl⟩ : s0 = s ∧ j0 = 23 := by omega
  refine ⟨s0, 23 + 1, by omega, by omega, by omega, by omega, fun i a w hw => ?_⟩
  by_cases k : (i : Int) < 23
  · exact f4 i k w hw
  · obtain rfl : i = 23 := by omega
    obtain rfl : 5572 = w := Option.some.inj hw
    intro hh
    have g := m_wi_len (k := 2) (show (32 : Int) ^ 2 ≤ 5572 by decide) (show (5572 : Int) < 32 ^ 3 by decide) hh
    omega
theorem k_nrl23b {qn : Int} {qk : Int} {qs : Int} {qq : Int} {qv : Int} {ba : Int → Int} (hqn : 0 ≤ qn ∧ qn ≤ 900) (hqk : 0 ≤ qk ∧ qk ≤ 4) (hqs : 0 ≤ qs ∧ qs ≤ 900) (hqq : 0 ≤ qq ∧ qq ≤ 900) (hba : ∀ i, -128 ≤ ba i ∧ ba i ≤ 127) {F s q kk p : Int} (p0 : p_NR ba qn (F)) (p1 : p_CU ba qk qs qq qn qv (s)) (p2 : kk = qk) (p3 : q = qq) (c0 : 0 ≤ p + (-119)) (c1 : 0 ≤ (-1) * p + 119) (c2 : 0 ≤ F + (-1) * s + (-23552)) (c3 : 0 ≤ s + (-1) * F + 23552) (c4 : 0 ≤ q + (-1) * s + (-4)) (c5 : 0 ≤ s) (c6 : 0 ≤ (-1) * s + 900) : p_NR ba qn (F + 1024) := by
  obtain ⟨uA, u0, u1, u2, u3⟩ := p1
  obtain ⟨s0, j0, e0, f1, f2, f3, f4⟩ := p0
  obtain ⟨rfl, rfl⟩ : s0 = s ∧ j0 = 23 := by omega
  refine ⟨s0, 23 + 1, by omega, by omega, by omega, by omega, fun i a w hw => ?_⟩
  by_cases k : (i : Int) < 23
  · exact f4 i k w hw
  · obtain rfl : i = 23 := by omega
    obtain rfl : 5572 = w := Option.some.inj hw
    intro hh
    have g := m_wi_len (k := 2) (show (32 : Int) ^ 2 ≤ 5572 by decide) (show (5572 : Int) < 32 ^ 3 by decide) hh
    omega
theorem k_nrn23 {qn : Int} {ba : Int → Int} (hqn : 0 ≤ qn ∧ qn ≤ 900) (hba : ∀ i, -128 ≤ ba i ∧ ba i ≤ 127) {F G s p : Int} (p0 : p_NR ba qn (F)) (p1 : p_NI ba qn (G)) (c0 : 0 ≤ p + (-119)) (c1 : 0 ≤ (-1) * p + 119) (c2 : 0 ≤ F + (-1) * s + (-23552)) (c3 : 0 ≤ s + (-1) * F + 23552) (c4 : 0 ≤ G + (-1099511627776) * s + (-5572)) (c5 : 0 ≤ 1099511627776 * s + (-1) * G + 5572) (c6 : 0 ≤ s) (c7 : 0 ≤ (-1) * s + 900) : p_NR ba qn (F + 1024) := by
  obtain ⟨w1, s2, y1, y2, y3, y4, hw1⟩ := p1
  obtain rfl : s2 = s := by omega
  obtain rfl : w1 = 5572 := by omega
  obtain ⟨s0, j0, e0, f1, f2, f3, f4⟩ := p0
  obtain ⟨rfl, rfl⟩ : s0 = s2 ∧ j0 = 23 := by omega
  refine ⟨s0, 23 + 1, by omega, by omega, by omega, by omega, fun i a w hw => ?_⟩
  by_cases k : (i : Int) < 23
  · exact f4 i k w hw
  · obtain rfl : i = 23 := by omega
    obtain rfl : 5572 = w := Option.some.inj hw
    exact hw1
theorem k_xnr23 {qn : Int} {ba : Int → Int} (hqn : 0 ≤ qn ∧ qn ≤ 900) (hba : ∀ i, -128 ≤ ba i ∧ ba i ≤ 127) {G s : Int} (p0 : p_WI ba qn (G)) (c0 : 0 ≤ G + (-1099511627776) * s + (-5572)) (c1 : 0 ≤ 1099511627776 * s + (-1) * G + 5572) (c2 : 0 ≤ s) (c3 : 0 ≤ (-1) * s + 900) : p_XN ba qn (s) := by
  obtain ⟨w1, s2, y1, y2, y3, y4, hw1⟩ := p0
  obtain rfl : s2 = s := by omega
  obtain rfl : w1 = 5572 := by omega
  refine ⟨by omega, ?_⟩
  rw [m_ntz m_nmk_t]
  rintro ⟨k1, k2, k3⟩
  exact k3 5572 (by decide) hw1.2
theorem k_xwr24 {p : Int} (c0 : 0 ≤ p + (-123)) (c1 : 0 ≤ (-1) * p + 123) : p_XW (643568) := by
  trivial
theorem k_nrl24a {qn : Int} {qk : Int} {qs : Int} {qq : Int} {qv : Int} {ba : Int → Int} (hqn : 0 ≤ qn ∧ qn ≤ 900) (hqk : 0 ≤ qk ∧ qk ≤ 4) (hqs : 0 ≤ qs ∧ qs ≤ 900) (hqq : 0 ≤ qq ∧ qq ≤ 900) (hba : ∀ i, -128 ≤ ba i ∧ ba i ≤ 127) {F s q kk p : Int} (p0 : p_NR ba qn (F)) (p1 : p_CU ba qk qs qq qn qv (s)) (p2 : kk = qk) (p3 : q = qq) (c0 : 0 ≤ p + (-123)) (c1 : 0 ≤ (-1) * p + 123) (c2 : 0 ≤ F + (-1) * s + (-24576)) (c3 : 0 ≤ s + (-1) * F + 24576) (c4 : 0 ≤ s + (-1) * q + 3) (c5 : 0 ≤ s) (c6 : 0 ≤ (-1) * s + 900) : p_NR ba qn (F + 1024) := by
  obtain ⟨uA, u0, u1, u2, u3⟩ := p1
  obtain ⟨s0, j0, e0, f1, f2, f3, f4⟩ := p0
  obtain ⟨rfl, rfl⟩ : s0 = s ∧ j0 = 24 := by omega
  refine ⟨s0, 24 + 1, by omega, by omega, by omega, by omega, fun i a w hw => ?_⟩
  by_cases k : (i : Int) < 24
  · exact f4 i k w hw
  · obtain rfl : i = 24 := by omega
    obtain rfl : 643568 = w := Option.some.inj hw
    intro hh
    have g := m_wi_len (k := 3) (show (32 : Int) ^ 3 ≤ 643568 by decide) (show (643568 : Int) < 32 ^ 4 by decide) hh
    omega
theorem k_nrl24b {qn : Int} {qk : Int} {qs : Int} {qq : Int} {qv : Int} {ba : Int → Int} (hqn : 0 ≤ qn ∧ qn ≤ 900) (hqk : 0 ≤ qk ∧ qk ≤ 4) (hqs : 0 ≤ qs ∧ qs ≤ 900) (hqq : 0 ≤ qq ∧ qq ≤ 900) (hba : ∀ i, -128 ≤ ba i ∧ ba i ≤ 127) {F s q kk p : Int} (p0 : p_NR ba qn (F)) (p1 : p_CU ba qk qs qq qn qv (s)) (p2 : kk = qk) (p3 : q = qq) (c0 : 0 ≤ p + (-123)) (c1 : 0 ≤ (-1) * p + 123) (c2 : 0 ≤ F + (-1) * s + (-24576)) (c3 : 0 ≤ s + (-1) * F + 24576) (c4 : 0 ≤ q + (-1) * s + (-5)) (c5 : 0 ≤ s) (c6 : 0 ≤ (-1) * s + 900) : p_NR ba qn (F + 1024) := by
  obtain ⟨uA, u0, u1, u2, u3⟩ := p1
  obtain ⟨s0, j0, e0, f1, f2, f3, f4⟩ := p0
  obtain ⟨rfl, rfl⟩ : s0 = s ∧ j0 = 24 := by omega
  refine ⟨s0, 24 + 1, by omega, by omega, by omega, by omega, fun i a w hw => ?_⟩
  by_cases k : (i : Int) < 24
  · exact f4 i k w hw
  · obtain rfl : i = 24 := by omega
    obtain rfl : 643568 = w := Option.some.inj hw
    intro hh
    have g := m_wi_len (k := 3) (show (32 : Int) ^ 3 ≤ 643568 by decide) (show (643568 : Int) < 32 ^ 4 by decide) hh
    omega
theorem k_nrn24 {qn : Int} {ba : Int → Int} (hqn : 0 ≤ qn ∧ qn ≤ 900) (hba : ∀ i, -128 ≤ ba i ∧ ba i ≤ 127) {F G s p : Int} (p0 : p_NR ba qn (F)) (p1 : p_NI ba qn (G)) (c0 : 0 ≤ p + (-123)) (c1 : 0 ≤ (-1) * p + 123) (c2 : 0 ≤ F + (-1) * s + (-24576)) (c3 : 0 ≤ s + (-1) * F + 24576) (c4 : 0 ≤ G + (-1099511627776) * s + (-643568)) (c5 : 0 ≤ 1099511627776 * s + (-1) * G + 643568) (c6 : 0 ≤ s) (c7 : 0 ≤ (-1) * s + 900) : p_NR ba qn (F + 1024) := by
  obtain ⟨w1, s2, y1, y2, y3, y4, hw1⟩ := p1
  obtain rfl : s2 = s := by omega
  obtain rfl : w1 = 643568 := by omega
  obtain ⟨s0, j0, e0, f1, f2, f3, f4⟩ := p0
  obtain ⟨rfl, rfl⟩ : s0 = s2 ∧ j0 = 24 := by omega
  refine ⟨s0, 24 + 1, by omega, by omega, by omega, by omega, fun i a w hw => ?_⟩
  by_cases k : (i : Int) < 24
  · exact f4 i k w hw
  · obtain rfl : i = 24 := by omega
    obtain rfl : 643568 = w := Option.some.inj hw
    exact hw1
theorem k_xnr24 {qn : Int} {ba : Int → Int} (hqn : 0 ≤ qn ∧ qn ≤ 900) (hba : ∀ i, -128 ≤ ba i ∧ ba i ≤ 127) {G s : Int} (p0 : p_WI ba qn (G)) (c0 : 0 ≤ G + (-1099511627776) * s + (-643568)) (c1 : 0 ≤ 1099511627776 * s + (-1) * G + 643568) (c2 : 0 ≤ s) (c3 : 0 ≤ (-1) * s + 900) : p_XN ba qn (s) := by
  obtain ⟨w1, s2, y1, y2, y3, y4, hw1⟩ := p0
  obtain rfl : s2 = s := by omega
  obtain rfl : w1 = 643568 := by omega
  refine ⟨by omega, ?_⟩
  rw [m_ntz m_nmk_t]
  rintro ⟨k1, k2, k3⟩
  exact k3 643568 (by decide) hw1.2
theorem k_nre {qn : Int} {qk : Int} {qs : Int} {qq : Int} {qv : Int} {ba : Int → Int} (hqn : 0 ≤ qn ∧ qn ≤ 900) (hqk : 0 ≤ qk ∧ qk ≤ 4) (hqs : 0 ≤ qs ∧ qs ≤ 900) (hqq : 0 ≤ qq ∧ qq ≤ 900) (hba : ∀ i, -128 ≤ ba i ∧ ba i ≤ 127) {F s q kk : Int} (p0 : p_NR ba qn (F)) (p1 : p_CU ba qk qs qq qn qv (s)) (p2 : kk = qk) (p3 : q = qq) (c0 : 0 ≤ F + (-1) * s + (-24576)) (c1 : 0 ≤ s + (-1) * F + 24576) (c2 : 0 ≤ q + (-1) * s + (-5)) (c3 : 0 ≤ s) (c4 : 0 ≤ (-1) * s + 900) : p_NR ba qn (F + 1024) := by
  obtain ⟨uA, u0, u1, u2, u3⟩ := p1
  obtain ⟨s0, j0, e0, f1, f2, f3, f4⟩ := p0
  obtain ⟨rfl, rfl⟩ : s0 = s ∧ j0 = 24 := by omega
  refine ⟨s0, 24 + 1, by omega, by omega, by omega, by omega, fun i a w hw => ?_⟩
  by_cases k : (i : Int) < 24
  · exact f4 i k w hw
  · obtain rfl : i = 24 := by omega
    obtain rfl : 643568 = w := Option.some.inj hw
    intro hh
    have g := m_wi_len (k := 3) (show (32 : Int) ^ 3 ≤ 643568 by decide) (show (643568 : Int) < 32 ^ 4 by decide) hh
    omega
theorem k_qlb {qn : Int} {qk : Int} {qs : Int} {qq : Int} {qv : Int} {ba : Int → Int} (hqn : 0 ≤ qn ∧ qn ≤ 900) (hqk : 0 ≤ qk ∧ qk ≤ 4) (hqs : 0 ≤ qs ∧ qs ≤ 900) (hqq : 0 ≤ qq ∧ qq ≤ 900) (hba : ∀ i, -128 ≤ ba i ∧ ba i ≤ 127) {G s i kk q : Int} (p0 : p_BY ba (G)) (p1 : p_CU ba qk qs qq qn qv (s)) (p2 : kk = qk) (p3 : q = qq) (c0 : 0 ≤ kk + (-2)) (c1 : 0 ≤ (-1) * kk + 2) (c2 : 0 ≤ i) (c3 : 0 ≤ q + (-1) * s + (-1) * i + (-1)) (c4 : 0 ≤ G + (-256) * s + (-256) * i) (c5 : 0 ≤ 256 * s + 256 * i + (-1) * G + 255) (c6 : 0 ≤ s) (c7 : 0 ≤ (-1) * s + 900) : 0 ≤ G + (-256) * s + (-256) * i + (-225) := by
  obtain ⟨z1, j1, e1, ja1, jb1, za1, zb1, h1⟩ := p0
  have w1 : j1 = s + i := by omega
  rw [w1] at h1
  obtain ⟨uA, u0, u1, u2, u3⟩ := p1
  have g := m_le_t.mp (m_kd2_in (b := ba) (n := qn) (s := s) (i := s + i) (by omega) (by omega) (by omega))
  omega
