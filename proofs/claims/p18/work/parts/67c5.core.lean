-- 67c5.core: the texts' rules in numbers (printed by wip/p5/gen68.py)
theorem k_nrrn13 {rn : Int} {bb : Int → Int} (hrn : 0 ≤ rn ∧ rn ≤ 900) (hbb : ∀ i, -128 ≤ bb i ∧ bb i ≤ 127) {F G s : Int} (p0 : p_NRR bb rn (F)) (p1 : p_NIR bb rn (G)) (c0 : 0 ≤ F + (-1) * s + (-13312)) (c1 : 0 ≤ s + (-1) * F + 13312) (c2 : 0 ≤ G + (-1099511627776) * s + (-12008555)) (c3 : 0 ≤ 1099511627776 * s + (-1) * G + 12008555) (c4 : 0 ≤ s) (c5 : 0 ≤ (-1) * s + 900) : p_NRR bb rn (F + 1024) := by
  obtain ⟨w1, s2, y1, y2, y3, y4, hw1⟩ := p1
  obtain rfl : s2 = s := by omega
  obtain rfl : w1 = 12008555 := by omega
  obtain ⟨s0, j0, e0, f1, f2, f3, f4⟩ := p0
  obtain ⟨rfl, rfl⟩ : s0 = s2 ∧ j0 = 13 := by omega
  refine ⟨s0, 13 + 1, by omega, by omega, by omega, by omega, fun i a w hw => ?_⟩
  by_cases k : (i : Int) < 13
  · exact f4 i k w hw
  · obtain rfl : i = 13 := by omega
    obtain rfl : 12008555 = w := Option.some.inj hw
    exact hw1
theorem k_xnrr13 {rn : Int} {bb : Int → Int} (hrn : 0 ≤ rn ∧ rn ≤ 900) (hbb : ∀ i, -128 ≤ bb i ∧ bb i ≤ 127) {G s : Int} (p0 : p_WIR bb rn (G)) (c0 : 0 ≤ G + (-1099511627776) * s + (-12008555)) (c1 : 0 ≤ 1099511627776 * s + (-1) * G + 12008555) (c2 : 0 ≤ s) (c3 : 0 ≤ (-1) * s + 900) : p_XNR bb rn (s) := by
  obtain ⟨w1, s2, y1, y2, y3, y4, hw1⟩ := p0
  obtain rfl : s2 = s := by omega
  obtain rfl : w1 = 12008555 := by omega
  refine ⟨by omega, ?_⟩
  rw [m_ntz m_nmk_t]
  rintro ⟨k1, k2, k3⟩
  exact k3 12008555 (by decide) hw1.2
theorem k_nrrn14 {rn : Int} {bb : Int → Int} (hrn : 0 ≤ rn ∧ rn ≤ 900) (hbb : ∀ i, -128 ≤ bb i ∧ bb i ≤ 127) {F G s : Int} (p0 : p_NRR bb rn (F)) (p1 : p_NIR bb rn (G)) (c0 : 0 ≤ F + (-1) * s + (-14336)) (c1 : 0 ≤ s + (-1) * F + 14336) (c2 : 0 ≤ G + (-1099511627776) * s + (-474757)) (c3 : 0 ≤ 1099511627776 * s + (-1) * G + 474757) (c4 : 0 ≤ s) (c5 : 0 ≤ (-1) * s + 900) : p_NRR bb rn (F + 1024) := by
  obtain ⟨w1, s2, y1, y2, y3, y4, hw1⟩ := p1
  obtain rfl : s2 = s := by omega
  obtain rfl : w1 = 474757 := by omega
  obtain ⟨s0, j0, e0, f1, f2, f3, f4⟩ := p0
  obtain ⟨rfl, rfl⟩ : s0 = s2 ∧ j0 = 14 := by omega
  refine ⟨s0, 14 + 1, by omega, by omega, by omega, by omega, fun i a w hw => ?_⟩
  by_cases k : (i : Int) < 14
  · exact f4 i k w hw
  · obtain rfl : i = 14 := by omega
    obtain rfl : 474757 = w := Option.some.inj hw
    exact hw1
theorem k_xnrr14 {rn : Int} {bb : Int → Int} (hrn : 0 ≤ rn ∧ rn ≤ 900) (hbb : ∀ i, -128 ≤ bb i ∧ bb i ≤ 127) {G s : Int} (p0 : p_WIR bb rn (G)) (c0 : 0 ≤ G + (-1099511627776) * s + (-474757)) (c1 : 0 ≤ 1099511627776 * s + (-1) * G + 474757) (c2 : 0 ≤ s) (c3 : 0 ≤ (-1) * s + 900) : p_XNR bb rn (s) := by
  obtain ⟨w1, s2, y1, y2, y3, y4, hw1⟩ := p0
  obtain rfl : s2 = s := by omega
  obtain rfl : w1 = 474757 := by omega
  refine ⟨by omega, ?_⟩
  rw [m_ntz m_nmk_t]
  rintro ⟨k1, k2, k3⟩
  exact k3 474757 (by decide) hw1.2
theorem k_nrrn15 {rn : Int} {bb : Int → Int} (hrn : 0 ≤ rn ∧ rn ≤ 900) (hbb : ∀ i, -128 ≤ bb i ∧ bb i ≤ 127) {F G s : Int} (p0 : p_NRR bb rn (F)) (p1 : p_NIR bb rn (G)) (c0 : 0 ≤ F + (-1) * s + (-15360)) (c1 : 0 ≤ s + (-1) * F + 15360) (c2 : 0 ≤ G + (-1099511627776) * s + (-677454)) (c3 : 0 ≤ 1099511627776 * s + (-1) * G + 677454) (c4 : 0 ≤ s) (c5 : 0 ≤ (-1) * s + 900) : p_NRR bb rn (F + 1024) := by
  obtain ⟨w1, s2, y1, y2, y3, y4, hw1⟩ := p1
  obtain rfl : s2 = s := by omega
  obtain rfl : w1 = 677454 := by omega
  obtain ⟨s0, j0, e0, f1, f2, f3, f4⟩ := p0
  obtain ⟨rfl, rfl⟩ : s0 = s2 ∧ j0 = 15 := by omega
  refine ⟨s0, 15 + 1, by omega, by omega, by omega, by omega, fun i a w hw => ?_⟩
  by_cases k : (i : Int) < 15
  · exact f4 i k w hw
  · obtain rfl : i = 15 := by omega
    obtain rfl : 677454 = w := Option.some.inj hw
    exact hw1
theorem k_xnrr15 {rn : Int} {bb : Int → Int} (hrn : 0 ≤ rn ∧ rn ≤ 900) (hbb : ∀ i, -128 ≤ bb i ∧ bb i ≤ 127) {G s : Int} (p0 : p_WIR bb rn (G)) (c0 : 0 ≤ G + (-1099511627776) * s + (-677454)) (c1 : 0 ≤ 1099511627776 * s + (-1) * G + 677454) (c2 : 0 ≤ s) (c3 : 0 ≤ (-1) * s + 900) : p_XNR bb rn (s) := by
  obtain ⟨w1, s2, y1, y2, y3, y4, hw1⟩ := p0
  obtain rfl : s2 = s := by omega
  obtain rfl : w1 = 677454 := by omega
  refine ⟨by omega, ?_⟩
  rw [m_ntz m_nmk_t]
  rintro ⟨k1, k2, k3⟩
  exact k3 677454 (by decide) hw1.2
theorem k_nrrn16 {rn : Int} {bb : Int → Int} (hrn : 0 ≤ rn ∧ rn ≤ 900) (hbb : ∀ i, -128 ≤ bb i ∧ bb i ≤ 127) {F G s : Int} (p0 : p_NRR bb rn (F)) (p1 : p_NIR bb rn (G)) (c0 : 0 ≤ F + (-1) * s + (-16384)) (c1 : 0 ≤ s + (-1) * F + 16384) (c2 : 0 ≤ G + (-1099511627776) * s + (-762030)) (c3 : 0 ≤ 1099511627776 * s + (-1) * G + 762030) (c4 : 0 ≤ s) (c5 : 0 ≤ (-1) * s + 900) : p_NRR bb rn (F + 1024) := by
  obtain ⟨w1, s2, y1, y2, y3, y4, hw1⟩ := p1
  obtain rfl : s2 = s := by omega
  obtain rfl : w1 = 762030 := by omega
  obtain ⟨s0, j0, e0, f1, f2, f3, f4⟩ := p0
  obtain ⟨rfl, rfl⟩ : s0 = s2 ∧ j0 = 16 := by omega
  refine ⟨s0, 16 + 1, by omega, by omega, by omega, by omega, fun i a w hw => ?_⟩
  by_cases k : (i : Int) < 16
  · exact f4 i k w hw
  · obtain rfl : i = 16 := by omega
    obtain rfl : 762030 = w := Option.some.inj hw
    exact hw1
theorem k_xnrr16 {rn : Int} {bb : Int → Int} (hrn : 0 ≤ rn ∧ rn ≤ 900) (hbb : ∀ i, -128 ≤ bb i ∧ bb i ≤ 127) {G s : Int} (p0 : p_WIR bb rn (G)) (c0 : 0 ≤ G + (-1099511627776) * s + (-762030)) (c1 : 0 ≤ 1099511627776 * s + (-1) * G + 762030) (c2 : 0 ≤ s) (c3 : 0 ≤ (-1) * s + 900) : p_XNR bb rn (s) := by
  obtain ⟨w1, s2, y1, y2, y3, y4, hw1⟩ := p0
  obtain rfl : s2 = s := by omega
  obtain rfl : w1 = 762030 := by omega
  refine ⟨by omega, ?_⟩
  rw [m_ntz m_nmk_t]
  rintro ⟨k1, k2, k3⟩
  exact k3 762030 (by decide) hw1.2
theorem k_nrrn17 {rn : Int} {bb : Int → Int} (hrn : 0 ≤ rn ∧ rn ≤ 900) (hbb : ∀ i, -128 ≤ bb i ∧ bb i ≤ 127) {F G s : Int} (p0 : p_NRR bb rn (F)) (p1 : p_NIR bb rn (G)) (c0 : 0 ≤ F + (-1) * s + (-17408)) (c1 : 0 ≤ s + (-1) * F + 17408) (c2 : 0 ≤ G + (-1099511627776) * s + (-409072)) (c3 : 0 ≤ 1099511627776 * s + (-1) * G + 409072) (c4 : 0 ≤ s) (c5 : 0 ≤ (-1) * s + 900) : p_NRR bb rn (F + 1024) := by
  obtain ⟨w1, s2, y1, y2, y3, y4, hw1⟩ := p1
  obtain rfl : s2 = s := by omega
  obtain rfl : w1 = 409072 := by omega
  obtain ⟨s0, j0, e0, f1, f2, f3, f4⟩ := p0
  obtain ⟨rfl, rfl⟩ : s0 = s2 ∧ j0 = 17 := by omega
  refine ⟨s0, 17 + 1, by omega, by omega, by omega, by omega, fun i a w hw => ?_⟩
  by_cases k : (i : Int) < 17
  · exact f4 i k w hw
  · obtain rfl : i = 17 := by omega
    obtain rfl : 409072 = w := Option.some.inj hw
    exact hw1
theorem k_xnrr17 {rn : Int} {bb : Int → Int} (hrn : 0 ≤ rn ∧ rn ≤ 900) (hbb : ∀ i, -128 ≤ bb i ∧ bb i ≤ 127) {G s : Int} (p0 : p_WIR bb rn (G)) (c0 : 0 ≤ G + (-1099511627776) * s + (-409072)) (c1 : 0 ≤ 1099511627776 * s + (-1) * G + 409072) (c2 : 0 ≤ s) (c3 : 0 ≤ (-1) * s + 900) : p_XNR bb rn (s) := by
  obtain ⟨w1, s2, y1, y2, y3, y4, hw1⟩ := p0
  obtain rfl : s2 = s := by omega
  obtain rfl : w1 = 409072 := by omega
  refine ⟨by omega, ?_⟩
  rw [m_ntz m_nmk_t]
  rintro ⟨k1, k2, k3⟩
  exact k3 409072 (by decide) hw1.2
theorem k_nrrn18 {rn : Int} {bb : Int → Int} (hrn : 0 ≤ rn ∧ rn ≤ 900) (hbb : ∀ i, -128 ≤ bb i ∧ bb i ≤ 127) {F G s : Int} (p0 : p_NRR bb rn (F)) (p1 : p_NIR bb rn (G)) (c0 : 0 ≤ F + (-1) * s + (-18432)) (c1 : 0 ≤ s + (-1) * F + 18432) (c2 : 0 ≤ G + (-1099511627776) * s + (-643568)) (c3 : 0 ≤ 1099511627776 * s + (-1) * G + 643568) (c4 : 0 ≤ s) (c5 : 0 ≤ (-1) * s + 900) : p_NRR bb rn (F + 1024) := by
  obtain ⟨w1, s2, y1, y2, y3, y4, hw1⟩ := p1
  obtain rfl : s2 = s := by omega
  obtain rfl : w1 = 643568 := by omega
  obtain ⟨s0, j0, e0, f1, f2, f3, f4⟩ := p0
  obtain ⟨rfl, rfl⟩ : s0 = s2 ∧ j0 = 18 := by omega
  refine ⟨s0, 18 + 1, by omega, by omega, by omega, by omega, fun i a w hw => ?_⟩
  by_cases k : (i : Int) < 18
  · exact f4 i k w hw
  · obtain rfl : i = 18 := by omega
    obtain rfl : 643568 = w := Option.some.inj hw
    exact hw1
theorem k_xnrr18 {rn : Int} {bb : Int → Int} (hrn : 0 ≤ rn ∧ rn ≤ 900) (hbb : ∀ i, -128 ≤ bb i ∧ bb i ≤ 127) {G s : Int} (p0 : p_WIR bb rn (G)) (c0 : 0 ≤ G + (-1099511627776) * s + (-643568)) (c1 : 0 ≤ 1099511627776 * s + (-1) * G + 643568) (c2 : 0 ≤ s) (c3 : 0 ≤ (-1) * s + 900) : p_XNR bb rn (s) := by
  obtain ⟨w1, s2, y1, y2, y3, y4, hw1⟩ := p0
  obtain rfl : s2 = s := by omega
  obtain rfl : w1 = 643568 := by omega
  refine ⟨by omega, ?_⟩
  rw [m_ntz m_nmk_t]
  rintro ⟨k1, k2, k3⟩
  exact k3 643568 (by decide) hw1.2
theorem k_nrrn19 {rn : Int} {bb : Int → Int} (hrn : 0 ≤ rn ∧ rn ≤ 900) (hbb : ∀ i, -128 ≤ bb i ∧ bb i ≤ 127) {F G s : Int} (p0 : p_NRR bb rn (F)) (p1 : p_NIR bb rn (G)) (c0 : 0 ≤ F + (-1) * s + (-19456)) (c1 : 0 ≤ s + (-1) * F + 19456) (c2 : 0 ≤ G + (-1099511627776) * s + (-284570103)) (c3 : 0 ≤ 1099511627776 * s + (-1) * G + 284570103) (c4 : 0 ≤ s) (c5 : 0 ≤ (-1) * s + 900) : p_NRR bb rn (F + 1024) := by
  obtain ⟨w1, s2, y1, y2, y3, y4, hw1⟩ := p1
  obtain rfl : s2 = s := by omega
  obtain rfl : w1 = 284570103 := by omega
  obtain ⟨s0, j0, e0, f1, f2, f3, f4⟩ := p0
  obtain ⟨rfl, rfl⟩ : s0 = s2 ∧ j0 = 19 := by omega
  refine ⟨s0, 19 + 1, by omega, by omega, by omega, by omega, fun i a w hw => ?_⟩
  by_cases k : (i : Int) < 19
  · exact f4 i k w hw
  · obtain rfl : i = 19 := by omega
    obtain rfl : 284570103 = w := Option.some.inj hw
    exact hw1
theorem k_xnrr19 {rn : Int} {bb : Int → Int} (hrn : 0 ≤ rn ∧ rn ≤ 900) (hbb : ∀ i, -128 ≤ bb i ∧ bb i ≤ 127) {G s : Int} (p0 : p_WIR bb rn (G)) (c0 : 0 ≤ G + (-1099511627776) * s + (-284570103)) (c1 : 0 ≤ 1099511627776 * s + (-1) * G + 284570103) (c2 : 0 ≤ s) (c3 : 0 ≤ (-1) * s + 900) : p_XNR bb rn (s) := by
  obtain ⟨w1, s2, y1, y2, y3, y4, hw1⟩ := p0
  obtain rfl : s2 = s := by omega
  obtain rfl : w1 = 284570103 := by omega
  refine ⟨by omega, ?_⟩
  rw [m_ntz m_nmk_t]
  rintro ⟨k1, k2, k3⟩
  exact k3 284570103 (by decide) hw1.2
theorem k_nrrn20 {rn : Int} {bb : Int → Int} (hrn : 0 ≤ rn ∧ rn ≤ 900) (hbb : ∀ i, -128 ≤ bb i ∧ bb i ≤ 127) {F G s : Int} (p0 : p_NRR bb rn (F)) (p1 : p_NIR bb rn (G)) (c0 : 0 ≤ F + (-1) * s + (-20480)) (c1 : 0 ≤ s + (-1) * F + 20480) (c2 : 0 ≤ G + (-1099511627776) * s + (-218508)) (c3 : 0 ≤ 1099511627776 * s + (-1) * G + 218508) (c4 : 0 ≤ s) (c5 : 0 ≤ (-1) * s + 900) : p_NRR bb rn (F + 1024) := by
  obtain ⟨w1, s2, y1, y2, y3, y4, hw1⟩ := p1
  obtain rfl : s2 = s := by omega
  obtain rfl : w1 = 218508 := by omega
  obtain ⟨s0, j0, e0, f1, f2, f3, f4⟩ := p0
  obtain ⟨rfl, rfl⟩ : s0 = s2 ∧ j0 = 20 := by omega
  refine ⟨s0, 20 + 1, by omega, by omega, by omega, by omega, fun i a w hw => ?_⟩
  by_cases k : (i : Int) < 20
  · exact f4 i k w hw
  · obtain rfl : i = 20 := by omega
    obtain rfl : 218508 = w := Option.some.inj hw
    exact hw1
theorem k_xnrr20 {rn : Int} {bb : Int → Int} (hrn : 0 ≤ rn ∧ rn ≤ 900) (hbb : ∀ i, -128 ≤ bb i ∧ bb i ≤ 127) {G s : Int} (p0 : p_WIR bb rn (G)) (c0 : 0 ≤ G + (-1099511627776) * s + (-218508)) (c1 : 0 ≤ 1099511627776 * s + (-1) * G + 218508) (c2 : 0 ≤ s) (c3 : 0 ≤ (-1) * s + 900) : p_XNR bb rn (s) := by
  obtain ⟨w1, s2, y1, y2, y3, y4, hw1⟩ := p0
  obtain rfl : s2 = s := by omega
  obtain rfl : w1 = 218508 := by omega
  refine ⟨by omega, ?_⟩
  rw [m_ntz m_nmk_t]
  rintro ⟨k1, k2, k3⟩
  exact k3 218508 (by decide) hw1.2
theorem k_nrrn21 {rn : Int} {bb : Int → Int} (hrn : 0 ≤ rn ∧ rn ≤ 900) (hbb : ∀ i, -128 ≤ bb i ∧ bb i ≤ 127) {F G s : Int} (p0 : p_NRR bb rn (F)) (p1 : p_NIR bb rn (G)) (c0 : 0 ≤ F + (-1) * s + (-21504)) (c1 : 0 ≤ s + (-1) * F + 21504) (c2 : 0 ≤ G + (-1099511627776) * s + (-15192228)) (c3 : 0 ≤ 1099511627776 * s + (-1) * G + 15192228) (c4 : 0 ≤ s) (c5 : 0 ≤ (-1) * s + 900) : p_NRR bb rn (F + 1024) := by
  obtain ⟨w1, s2, y1, y2, y3, y4, hw1⟩ := p1
  obtain rfl : s2 = s := by omega
  obtain rfl : w1 = 15192228 := by omega
  obtain ⟨s0, j0, e0, f1, f2, f3, f4⟩ := p0
  obtain ⟨rfl, rfl⟩ : s0 = s2 ∧ j0 = 21 := by omega
  refine ⟨s0, 21 + 1, by omega, by omega, by omega, by omega, fun i a w hw => ?_⟩
  by_cases k : (i : Int) < 21
  · exact f4 i k w hw
  · obtain rfl : i = 21 := by omega
    obtain rfl : 15192228 = w := Option.some.inj hw
    exact hw1
theorem k_xnrr21 {rn : Int} {bb : Int → Int} (hrn : 0 ≤ rn ∧ rn ≤ 900) (hbb : ∀ i, -128 ≤ bb i ∧ bb i ≤ 127) {G s : Int} (p0 : p_WIR bb rn (G)) (c0 : 0 ≤ G + (-1099511627776) * s + (-15192228)) (c1 : 0 ≤ 1099511627776 * s + (-1) * G + 15192228) (c2 : 0 ≤ s) (c3 : 0 ≤ (-1) * s + 900) : p_XNR bb rn (s) := by
  obtain ⟨w1, s2, y1, y2, y3, y4, hw1⟩ := p0
  obtain rfl : s2 = s := by omega
  obtain rfl : w1 = 15192228 := by omega
  refine ⟨by omega, ?_⟩
  rw [m_ntz m_nmk_t]
  rintro ⟨k1, k2, k3⟩
  exact k3 15192228 (by decide) hw1.2
theorem k_nrrn22 {rn : Int} {bb : Int → Int} (hrn : 0 ≤ rn ∧ rn ≤ 900) (hbb : ∀ i, -128 ≤ bb i ∧ bb i ≤ 127) {F G s : Int} (p0 : p_NRR bb rn (F)) (p1 : p_NIR bb rn (G)) (c0 : 0 ≤ F + (-1) * s + (-22528)) (c1 : 0 ≤ s + (-1) * F + 22528) (c2 : 0 ≤ G + (-1099511627776) * s + (-6605428)) (c3 : 0 ≤ 1099511627776 * s + (-1) * G + 6605428) (c4 : 0 ≤ s) (c5 : 0 ≤ (-1) * s + 900) : p_NRR bb rn (F + 1024) := by
  obtain ⟨w1, s2, y1, y2, y3, y4, hw1⟩ := p1
  obtain rfl : s2 = s := by omega
  obtain rfl : w1 = 6605428 := by omega
  obtain ⟨s0, j0, e0, f1, f2, f3, f4⟩ := p0
  obtain ⟨rfl, rfl⟩ : s0 = s2 ∧ j0 = 22 := by omega
  refine ⟨s0, 22 + 1, by omega, by omega, by omega, by omega, fun i a w hw => ?_⟩
  by_cases k : (i : Int) < 22
  · exact f4 i k w hw
  · obtain rfl : i = 22 := by omega
    obtain rfl : 6605428 = w := Option.some.inj hw
    exact hw1
theorem k_xnrr22 {rn : Int} {bb : Int → Int} (hrn : 0 ≤ rn ∧ rn ≤ 900) (hbb : ∀ i, -128 ≤ bb i ∧ bb i ≤ 127) {G s : Int} (p0 : p_WIR bb rn (G)) (c0 : 0 ≤ G + (-1099511627776) * s + (-6605428)) (c1 : 0 ≤ 1099511627776 * s + (-1) * G + 6605428) (c2 : 0 ≤ s) (c3 : 0 ≤ (-1) * s + 900) : p_XNR bb rn (s) := by
  obtain ⟨w1, s2, y1, y2, y3, y4, hw1⟩ := p0
  obtain rfl : s2 = s := by omega
  obtain rfl : w1 = 6605428 := by omega
  refine ⟨by omega, ?_⟩
  rw [m_ntz m_nmk_t]
  rintro ⟨k1, k2, k3⟩
  exact k3 6605428 (by decide) hw1.2
theorem k_nrrn23 {rn : Int} {bb : Int → Int} (hrn : 0 ≤ rn ∧ rn ≤ 900) (hbb : ∀ i, -128 ≤ bb i ∧ bb i ≤ 127) {F G s : Int} (p0 : p_NRR bb rn (F)) (p1 : p_NIR bb rn (G)) (c0 : 0 ≤ F + (-1) * s + (-23552)) (c1 : 0 ≤ s + (-1) * F + 23552) (c2 : 0 ≤ G + (-1099511627776) * s + (-20594117)) (c3 : 0 ≤ 1099511627776 * s + (-1) * G + 20594117) (c4 : 0 ≤ s) (c5 : 0 ≤ (-1) * s + 900) : p_NRR bb rn (F + 1024) := by
  obtain ⟨w1, s2, y1, y2, y3, y4, hw1⟩ := p1
  obtain rfl : s2 = s := by omega
  obtain rfl : w1 = 20594117 := by omega
  obtain ⟨s0, j0, e0, f1, f2, f3, f4⟩ := p0
  obtain ⟨rfl, rfl⟩ : s0 = s2 ∧ j0 = 23 := by omega
  refine ⟨s0, 23 + 1, by omega, by omega, by omega, by omega, fun i a w hw => ?_⟩
  by_cases k : (i : Int) < 23
  · exact f4 i k w hw
  · obtain rfl : i = 23 := by omega
    obtain rfl : 20594117 = w := Option.some.inj hw
    exact hw1
theorem k_xnrr23 {rn : Int} {bb : Int → Int} (hrn : 0 ≤ rn ∧ rn ≤ 900) (hbb : ∀ i, -128 ≤ bb i ∧ bb i ≤ 127) {G s : Int} (p0 : p_WIR bb rn (G)) (c0 : 0 ≤ G + (-1099511627776) * s + (-20594117)) (c1 : 0 ≤ 1099511627776 * s + (-1) * G + 20594117) (c2 : 0 ≤ s) (c3 : 0 ≤ (-1) * s + 900) : p_XNR bb rn (s) := by
  obtain ⟨w1, s2, y1, y2, y3, y4, hw1⟩ := p0
  obtain rfl : s2 = s := by omega
  obtain rfl : w1 = 20594117 := by omega
  refine ⟨by omega, ?_⟩
  rw [m_ntz m_nmk_t]
  rintro ⟨k1, k2, k3⟩
  exact k3 20594117 (by decide) hw1.2
theorem k_nrrn24 {rn : Int} {bb : Int → Int} (hrn : 0 ≤ rn ∧ rn ≤ 900) (hbb : ∀ i, -128 ≤ bb i ∧ bb i ≤ 127) {F G s : Int} (p0 : p_NRR bb rn (F)) (p1 : p_NIR bb rn (G)) (c0 : 0 ≤ F + (-1) * s + (-24576)) (c1 : 0 ≤ s + (-1) * F + 24576) (c2 : 0 ≤ G + (-1099511627776) * s + (-5572)) (c3 : 0 ≤ 1099511627776 * s + (-1) * G + 5572) (c4 : 0 ≤ s) (c5 : 0 ≤ (-1) * s + 900) : p_NRR bb rn (F + 1024) := by
  obtain ⟨w1, s2, y1, y2, y3, y4, hw1⟩ := p1
  obtain rfl : s2 = s := by omega
  obtain rfl : w1 = 5572 := by omega
  obtain ⟨s0, j0, e0, f1, f2, f3, f4⟩ := p0
  obtain ⟨rfl, rfl⟩ : s0 = s2 ∧ j0 = 24 := by omega
  refine ⟨s0, 24 + 1, by omega, by omega, by omega, by omega, fun i a w hw => ?_⟩
  by_cases k : (i : Int) < 24
  · exact f4 i k w hw
  · obtain rfl : i = 24 := by omega
    obtain rfl : 5572 = w := Option.some.inj hw
    exact hw1
theorem k_xnrr24 {rn : Int} {bb : Int → Int} (hrn : 0 ≤ rn ∧ rn ≤ 900) (hbb : ∀ i, -128 ≤ bb i ∧ bb i ≤ 127) {G s : Int} (p0 : p_WIR bb rn (G)) (c0 : 0 ≤ G + (-1099511627776) * s + (-5572)) (c1 : 0 ≤ 1099511627776 * s + (-1) * G + 5572) (c2 : 0 ≤ s) (c3 : 0 ≤ (-1) * s + 900) : p_XNR bb rn (s) := by
  obtain ⟨w1, s2, y1, y2, y3, y4, hw1⟩ := p0
  obtain rfl : s2 = s := by omega
  obtain rfl : w1 = 5572 := by omega
  refine ⟨by omega, ?_⟩
  rw [m_ntz m_nmk_t]
  rintro ⟨k1, k2, k3⟩
  exact k3 5572 (by decide) hw1.2
theorem k_xnra {rn : Int} {rk : Int} {rs : Int} {rq : Int} {rv : Int} {rl : Int} {bb : Int → Int} (hrn : 0 ≤ rn ∧ rn ≤ 900) (hrk : 0 ≤ rk ∧ rk ≤ 4) (hrs : 0 ≤ rs ∧ rs ≤ 900) (hrq : 0 ≤ rq ∧ rq ≤ 900) (hbb : ∀ i, -128 ≤ bb i ∧ bb i ≤ 127) {s q kk : Int} (p0 : p_CUR bb rn rk rs rq rv rl (s)) (p1 : kk = rk) (p2 : q = rq) (c0 : 0 ≤ (-1) * kk) (c1 : 0 ≤ s) (c2 : 0 ≤ (-1) * s + 900) : p_XNR bb rn (s) := by
  obtain ⟨uA, u0, u1, u2, u3, u4, u5, u6, u7, u8, u9⟩ := p0
  refine ⟨by omega, ?_⟩
  rw [m_ntz m_nmk_t]
  rintro ⟨k1, k2, k3⟩
  omega
theorem k_xnrb {rn : Int} {rk : Int} {rs : Int} {rq : Int} {rv : Int} {rl : Int} {bb : Int → Int} (hrn : 0 ≤ rn ∧ rn ≤ 900) (hrk : 0 ≤ rk ∧ rk ≤ 4) (hrs : 0 ≤ rs ∧ rs ≤ 900) (hrq : 0 ≤ rq ∧ rq ≤ 900) (hbb : ∀ i, -128 ≤ bb i ∧ bb i ≤ 127) {s q kk : Int} (p0 : p_CUR bb rn rk rs rq rv rl (s)) (p1 : kk = rk) (p2 : q = rq) (c0 : 0 ≤ kk + (-2)) (c1 : 0 ≤ s) (c2 : 0 ≤ (-1) * s + 900) : p_XNR bb rn (s) := by
  obtain ⟨uA, u0, u1, u2, u3, u4, u5, u6, u7, u8, u9⟩ := p0
  refine ⟨by omega, ?_⟩
  rw [m_ntz m_nmk_t]
  rintro ⟨k1, k2, k3⟩
  omega
theorem k_xnrc {rn : Int} {rk : Int} {rs : Int} {rq : Int} {rv : Int} {rl : Int} {bb : Int → Int} (hrn : 0 ≤ rn ∧ rn ≤ 900) (hrk : 0 ≤ rk ∧ rk ≤ 4) (hrs : 0 ≤ rs ∧ rs ≤ 900) (hrq : 0 ≤ rq ∧ rq ≤ 900) (hbb : ∀ i, -128 ≤ bb i ∧ bb i ≤ 127) {s q kk l : Int} (p0 : p_CUR bb rn rk rs rq rv rl (s)) (p1 : kk = rk) (p2 : q = rq) (p3 : l = rl) (c0 : 0 ≤ kk + (-1)) (c1 : 0 ≤ (-1) * kk + 1) (c2 : 0 ≤ l + (-9)) (c3 : 0 ≤ s) (c4 : 0 ≤ (-1) * s + 900) : p_XNR bb rn (s) := by
  obtain ⟨uA, u0, u1, u2, u3, u4, u5, u6, u7, u8, u9⟩ := p0
  refine ⟨by omega, ?_⟩
  rw [m_ntz m_nmk_t]
  rintro ⟨k1, k2, k3⟩
  have := u9 (by omega)
  omega
theorem k_mkra {rn : Int} {rk : Int} {rs : Int} {rq : Int} {rv : Int} {rl : Int} {bb : Int → Int} {nw : Int → Int} {ww : Int → Int} (hrn : 0 ≤ rn ∧ rn ≤ 900) (hrk : 0 ≤ rk ∧ rk ≤ 4) (hrs : 0 ≤ rs ∧ rs ≤ 900) (hrq : 0 ≤ rq ∧ rq ≤ 900) (hbb : ∀ i, -128 ≤ bb i ∧ bb i ≤ 127) {F s q kk : Int} (p0 : p_CFR bb rn nw ww (F)) (p1 : p_XNR bb rn (s)) (p2 : p_CUR bb rn rk rs rq rv rl (s)) (p3 : kk = rk) (p4 : q = rq) (c0 : 0 ≤ F + (-1) * s + (-7168)) (c1 : 0 ≤ s + (-1) * F + 7168) (c2 : 0 ≤ kk + (-4)) (c3 : 0 ≤ (-1) * kk + 4) (c4 : 0 ≤ s) (c5 : 0 ≤ (-1) * s + 900) : p_HFR bb rn (8 * s + 1) := by
  obtain ⟨st, s1, r1, r2, np, W, pk, cf, wr, ro, ⟨x1, x2, x3, x4, x5⟩⟩ := p0
  unfold m_pk at pk
  obtain rfl : s1 = s := by omega
  obtain rfl : st = 7 := by omega
  have xn := p1.2
  obtain ⟨uA, u0, u1, u2, u3, u4, u5, u6, u7, u8, u9⟩ := p2
  have AT := m_cf_a cf (by decide)
  rw [show m_stp bb rn (7, s1, r1, r2, np, W) = (if m_nmk bb rn s1 = true then (if m_tk bb rn s1 W = true then m_ht 3 s1 else m_go 11 (m_sk bb rn (m_te bb rn s1)) 0 0 s1 W) else m_mp bb rn s1) from rfl, xn, if_neg (by decide)] at AT
  exact ⟨1, s1, by omega, by omega, by omega, m_mp1 AT (by omega)⟩
theorem k_mkrb {rn : Int} {rk : Int} {rs : Int} {rq : Int} {rv : Int} {rl : Int} {bb : Int → Int} {nw : Int → Int} {ww : Int → Int} (hrn : 0 ≤ rn ∧ rn ≤ 900) (hrk : 0 ≤ rk ∧ rk ≤ 4) (hrs : 0 ≤ rs ∧ rs ≤ 900) (hrq : 0 ≤ rq ∧ rq ≤ 900) (hbb : ∀ i, -128 ≤ bb i ∧ bb i ≤ 127) {F s q kk : Int} (p0 : p_CFR bb rn nw ww (F)) (p1 : p_XNR bb rn (s)) (p2 : p_CUR bb rn rk rs rq rv rl (s)) (p3 : kk = rk) (p4 : q = rq) (c0 : 0 ≤ F + (-1) * s + (-7168)) (c1 : 0 ≤ s + (-1) * F + 7168) (c2 : 0 ≤ (-1) * kk + 3) (c3 : 0 ≤ s) (c4 : 0 ≤ (-1) * s + 900) : p_HFR bb rn (8 * s + 2) := by
  obtain ⟨st, s1, r1, r2, np, W, pk, cf, wr, ro, ⟨x1, x2, x3, x4, x5⟩⟩ := p0
  unfold m_pk at pk
  obtain rfl : s1 = s := by omega
  obtain rfl : st = 7 := by omega
  have xn := p1.2
  obtain ⟨uA, u0, u1, u2, u3, u4, u5, u6, u7, u8, u9⟩ := p2
  have AT := m_cf_a cf (by decide)
  rw [show m_stp bb rn (7, s1, r1, r2, np, W) = (if m_nmk bb rn s1 = true then (if m_tk bb rn s1 W = true then m_ht 3 s1 else m_go 11 (m_sk bb rn (m_te bb rn s1)) 0 0 s1 W) else m_mp bb rn s1) from rfl, xn, if_neg (by decide)] at AT
  exact ⟨2, s1, by omega, by omega, by omega, m_mp2 AT (by omega)⟩
theorem k_dnr0 {rn : Int} {rk : Int} {rs : Int} {rq : Int} {rv : Int} {rl : Int} {bb : Int → Int} {ww : Int → Int} (hrn : 0 ≤ rn ∧ rn ≤ 900) (hrk : 0 ≤ rk ∧ rk ≤ 4) (hrs : 0 ≤ rs ∧ rs ≤ 900) (hrq : 0 ≤ rq ∧ rq ≤ 900) (hbb : ∀ i, -128 ≤ bb i ∧ bb i ≤ 127) {s q kk l : Int} (p0 : p_NRR bb rn (s + 25600)) (p1 : l = rl) (p2 : p_CUR bb rn rk rs rq rv rl (s)) (p3 : kk = rk) (p4 : q = rq) (c0 : 0 ≤ (-1) * l + 8) (c1 : 0 ≤ kk + (-1)) (c2 : 0 ≤ (-1) * kk + 1) (c3 : 0 ≤ s) (c4 : 0 ≤ (-1) * s + 900) : p_DNR bb rn ww (s) := by
  exact ⟨s, 0, by omega, by omega, by omega, by omega, fun j a b => by omega⟩
theorem k_wkr {ww : Int → Int} {i z : Int} (zww : 0 ≤ i - 0 → i - 0 < 4 → ww (i - 0) = z) (c0 : 0 ≤ i) (c1 : 0 ≤ (-1) * i + 3) : p_WKR ww (i + 8 * z) := by
  have h2 := zww (by omega) (by omega)
  rw [show i - 0 = i by omega] at h2
  exact ⟨i, z, by omega, by omega, by omega, h2⟩
theorem k_wkz {ww : Int → Int} {i z : Int} (zww : 0 ≤ i - 0 → i - 0 < 4 → ww (i - 0) = z) : p_XW (z) := by
  trivial
theorem k_dnra {rn : Int} {rk : Int} {rs : Int} {rq : Int} {rv : Int} {rl : Int} {z3 : Int} {bb : Int → Int} {nw : Int → Int} {ww : Int → Int} (hrn : 0 ≤ rn ∧ rn ≤ 900) (hrk : 0 ≤ rk ∧ rk ≤ 4) (hrs : 0 ≤ rs ∧ rs ≤ 900) (hrq : 0 ≤ rq ∧ rq ≤ 900) (hz3 : 0 ≤ z3 ∧ z3 ≤ 4) (hbb : ∀ i, -128 ≤ bb i ∧ bb i ≤ 127) (lz3 : z3 = nw 3) {F G H i s w m l kk q z : Int} (p0 : p_DNR bb rn ww (F)) (p1 : p_WKR ww (G)) (p2 : p_WDR bb rn (s + 1024 * w + 1024)) (p3 : p_CFR bb rn nw ww (H)) (p4 : m = z3) (p5 : p_NRR bb rn (s + 25600)) (p6 : l = rl) (p7 : p_CUR bb rn rk rs rq rv rl (s)) (p8 : kk = rk) (p9 : q = rq) (c0 : 0 ≤ H + (-1) * s + (-7168)) (c1 : 0 ≤ s + (-1) * H + 7168) (c2 : 0 ≤ z + (-1) * w + (-1)) (c3 : 0 ≤ G + (-1) * i + (-8) * z) (c4 : 0 ≤ 8 * z + i + (-1) * G) (c5 : 0 ≤ (-1) * l + 8) (c6 : 0 ≤ kk + (-1)) (c7 : 0 ≤ (-1) * kk + 1) (c8 : 0 ≤ F + (-1) * s + (-1024) * i) (c9 : 0 ≤ s + 1024 * i + (-1) * F) (c10 : 0 ≤ m + (-1) * i + (-1)) (c11 : 0 ≤ i) (c12 : 0 ≤ (-1) * i + 3) (c13 : 0 ≤ s) (c14 : 0 ≤ (-1) * s + 900) : p_DNR bb rn ww (F + 1024) := by
  obtain ⟨s0, j0, e0, f1, f2, f3, f4⟩ := p0
  obtain ⟨rfl, rfl⟩ : s0 = s ∧ j0 = i := by omega
  obtain ⟨i1x, z1, g1, g2, g3, g4⟩ := p1
  obtain ⟨rfl, rfl⟩ : i1x = j0 ∧ z1 = z := by omega
  obtain ⟨s9, w9, e9, h1, h2, h3⟩ := p2
  obtain ⟨rfl, rfl⟩ : s9 = s0 ∧ w9 = w := by omega
  obtain ⟨uA, u0, u1, u2, u3, u4, u5, u6, u7, u8, u9⟩ := p7
  have h4 := h3 (by omega)
  refine ⟨s9, i1x + 1, by omega, by omega, by omega, by omega, fun j a b => ?_⟩
  by_cases k : j = i1x
  · rw [k, ← h4, g4]; omega
  · exact f4 j a (by omega)
theorem k_dnrb {rn : Int} {rk : Int} {rs : Int} {rq : Int} {rv : Int} {rl : Int} {z3 : Int} {bb : Int → Int} {nw : Int → Int} {ww : Int → Int} (hrn : 0 ≤ rn ∧ rn ≤ 900) (hrk : 0 ≤ rk ∧ rk ≤ 4) (hrs : 0 ≤ rs ∧ rs ≤ 900) (hrq : 0 ≤ rq ∧ rq ≤ 900) (hz3 : 0 ≤ z3 ∧ z3 ≤ 4) (hbb : ∀ i, -128 ≤ bb i ∧ bb i ≤ 127) (lz3 : z3 = nw 3) {F G H i s w m l kk q z : Int} (p0 : p_DNR bb rn ww (F)) (p1 : p_WKR ww (G)) (p2 : p_WDR bb rn (s + 1024 * w + 1024)) (p3 : p_CFR bb rn nw ww (H)) (p4 : m = z3) (p5 : p_NRR bb rn (s + 25600)) (p6 : l = rl) (p7 : p_CUR bb rn rk rs rq rv rl (s)) (p8 : kk = rk) (p9 : q = rq) (c0 : 0 ≤ H + (-1) * s + (-7168)) (c1 : 0 ≤ s + (-1) * H + 7168) (c2 : 0 ≤ w + (-1) * z + (-1)) (c3 : 0 ≤ G + (-1) * i + (-8) * z) (c4 : 0 ≤ 8 * z + i + (-1) * G) (c5 : 0 ≤ (-1) * l + 8) (c6 : 0 ≤ kk + (-1)) (c7 : 0 ≤ (-1) * kk + 1) (c8 : 0 ≤ F + (-1) * s + (-1024) * i) (c9 : 0 ≤ s + 1024 * i + (-1) * F) (c10 : 0 ≤ m + (-1) * i + (-1)) (c11 : 0 ≤ i) (c12 : 0 ≤ (-1) * i + 3) (c13 : 0 ≤ s) (c14 : 0 ≤ (-1) * s + 900) : p_DNR bb rn ww (F + 1024) := by
  obtain ⟨s0, j0, e0, f1, f2, f3, f4⟩ := p0
  obtain ⟨rfl, rfl⟩ : s0 = s ∧ j0 = i := by omega
  obtain ⟨i1x, z1, g1, g2, g3, g4⟩ := p1
  obtain ⟨rfl, rfl⟩ : i1x = j0 ∧ z1 = z := by omega
  obtain ⟨s9, w9, e9, h1, h2, h3⟩ := p2
  obtain ⟨rfl, rfl⟩ : s9 = s0 ∧ w9 = w := by omega
  obtain ⟨uA, u0, u1, u2, u3, u4, u5, u6, u7, u8, u9⟩ := p7
  have h4 := h3 (by omega)
  refine ⟨s9, i1x + 1, by omega, by omega, by omega, by omega, fun j a b => ?_⟩
  by_cases k : j = i1x
  · rw [k, ← h4, g4]; omega
  · exact f4 j a (by omega)
theorem k_dnrh {rn : Int} {rk : Int} {rs : Int} {rq : Int} {rv : Int} {rl : Int} {z3 : Int} {bb : Int → Int} {nw : Int → Int} {ww : Int → Int} (hrn : 0 ≤ rn ∧ rn ≤ 900) (hrk : 0 ≤ rk ∧ rk ≤ 4) (hrs : 0 ≤ rs ∧ rs ≤ 900) (hrq : 0 ≤ rq ∧ rq ≤ 900) (hz3 : 0 ≤ z3 ∧ z3 ≤ 4) (hbb : ∀ i, -128 ≤ bb i ∧ bb i ≤ 127) (lz3 : z3 = nw 3) {F G H i s w m l kk q z : Int} (p0 : p_DNR bb rn ww (F)) (p1 : p_WKR ww (G)) (p2 : p_WDR bb rn (s + 1024 * w + 1024)) (p3 : p_CFR bb rn nw ww (H)) (p4 : m = z3) (p5 : p_NRR bb rn (s + 25600)) (p6 : l = rl) (p7 : p_CUR bb rn rk rs rq rv rl (s)) (p8 : kk = rk) (p9 : q = rq) (c0 : 0 ≤ H + (-1) * s + (-7168)) (c1 : 0 ≤ s + (-1) * H + 7168) (c2 : 0 ≤ z + (-1) * w) (c3 : 0 ≤ w + (-1) * z) (c4 : 0 ≤ G + (-1) * i + (-8) * z) (c5 : 0 ≤ 8 * z + i + (-1) * G) (c6 : 0 ≤ (-1) * l + 8) (c7 : 0 ≤ kk + (-1)) (c8 : 0 ≤ (-1) * kk + 1) (c9 : 0 ≤ F + (-1) * s + (-1024) * i) (c10 : 0 ≤ s + 1024 * i + (-1) * F) (c11 : 0 ≤ m + (-1) * i + (-1)) (c12 : 0 ≤ i) (c13 : 0 ≤ (-1) * i + 3) (c14 : 0 ≤ s) (c15 : 0 ≤ (-1) * s + 900) : p_HFR bb rn (8 * s + 3) := by
  obtain ⟨s0, j0, e0, f1, f2, f3, f4⟩ := p0
  obtain ⟨rfl, rfl⟩ : s0 = s ∧ j0 = i := by omega
  obtain ⟨i1x, z1, g1, g2, g3, g4⟩ := p1
  obtain ⟨rfl, rfl⟩ : i1x = j0 ∧ z1 = z := by omega
  obtain ⟨s9, w9, e9, h1, h2, h3⟩ := p2
  obtain ⟨rfl, rfl⟩ : s9 = s0 ∧ w9 = w := by omega
  obtain ⟨uA, u0, u1, u2, u3, u4, u5, u6, u7, u8, u9⟩ := p7
  have h4 := h3 (by omega)
  obtain ⟨st, s1, r1, r2, np, W, pk, cf, wr, ro, ⟨x1, x2, x3, x4, x5⟩⟩ := p3
  unfold m_pk at pk
  obtain rfl : s1 = s9 := by omega
  obtain rfl : st = 7 := by omega
  obtain ⟨s8, j8, e8, n1, n2, n3, n4⟩ := p5
  obtain rfl : s8 = s1 := by omega
  obtain rfl : j8 = 25 := by omega
  have NK : m_nmk bb rn s8 = true := by
    rw [m_nmk_t]
    refine ⟨by omega, by have := u9 (by omega); omega, fun w hw e => ?_⟩
    have hm : w ∈ m_RR := (by decide : ∀ w ∈ m_RS, w ∈ m_RR) w hw
    obtain ⟨i, hi⟩ := List.mem_iff_getElem?.mp hm
    have hl : i < 25 := (List.getElem?_eq_some_iff.mp hi).1
    exact n4 i (by omega) w hi ⟨by omega, e⟩
  have TK : m_tk bb rn s8 W = true := (m_wr_tk wr).mpr ⟨i1x, by omega, by omega, by rw [g4, ← h4]; omega⟩
  have AT := m_cf_a cf (by decide)
  rw [show m_stp bb rn (7, s8, r1, r2, np, W) = (if m_nmk bb rn s8 = true then (if m_tk bb rn s8 W = true then m_ht 3 s8 else m_go 11 (m_sk bb rn (m_te bb rn s8)) 0 0 s8 W) else m_mp bb rn s8) from rfl, if_pos NK, if_pos TK] at AT
  exact ⟨3, s8, by omega, by omega, by omega, AT⟩
theorem k_cwr {rn : Int} {rk : Int} {rs : Int} {rq : Int} {rv : Int} {rl : Int} {z3 : Int} {bb : Int → Int} {nw : Int → Int} {ww : Int → Int} (hrn : 0 ≤ rn ∧ rn ≤ 900) (hrk : 0 ≤ rk ∧ rk ≤ 4) (hrs : 0 ≤ rs ∧ rs ≤ 900) (hrq : 0 ≤ rq ∧ rq ≤ 900) (hz3 : 0 ≤ z3 ∧ z3 ≤ 4) (hbb : ∀ i, -128 ≤ bb i ∧ bb i ≤ 127) (lz3 : z3 = nw 3) {i z F H s m kk q l : Int} (i1 : 0 ≤ i) (i2 : i < 4) (p0 : p_DNR bb rn ww (F)) (p1 : p_CFR bb rn nw ww (H)) (p2 : p_NRR bb rn (s + 25600)) (p3 : p_WDR bb rn (s + 1024 * z + 1024)) (p4 : m = z3) (p5 : l = rl) (p6 : p_CUR bb rn rk rs rq rv rl (s)) (p7 : kk = rk) (p8 : q = rq) (c0 : 0 ≤ H + (-1) * s + (-7168)) (c1 : 0 ≤ s + (-1) * H + 7168) (c2 : 0 ≤ F + (-1) * s + (-1024) * m) (c3 : 0 ≤ s + 1024 * m + (-1) * F) (c4 : 0 ≤ i + (-1) * m) (c5 : 0 ≤ m + (-1) * i) (c6 : 0 ≤ m) (c7 : 0 ≤ (-1) * m + 3) (c8 : 0 ≤ kk + (-1)) (c9 : 0 ≤ (-1) * kk + 1) (c10 : 0 ≤ (-1) * l + 8) (c11 : 0 ≤ s) (c12 : 0 ≤ (-1) * s + 900) : p_CAR bb rn nw (m_up ww i z) (H) := by
  obtain ⟨s0, j0, e0, f1, f2, f3, f4⟩ := p0
  obtain ⟨st, s1, r1, r2, np, W, pk, cf, wr, ro, ⟨x1, x2, x3, x4, x5⟩⟩ := p1
  unfold m_pk at pk
  obtain rfl : s1 = s := by omega
  obtain rfl : st = 7 := by omega
  obtain ⟨s8, j8, e8, n1, n2, n3, n4⟩ := p2
  obtain rfl : s8 = s1 := by omega
  obtain rfl : j8 = 25 := by omega
  obtain rfl : s0 = s8 := by omega
  obtain rfl : j0 = m := by omega
  obtain ⟨s9, w9, e9, h1, h2, h3⟩ := p3
  obtain rfl : s9 = s0 := by omega
  obtain rfl : w9 = z := by omega
  obtain ⟨uA, u0, u1, u2, u3, u4, u5, u6, u7, u8, u9⟩ := p6
  have NK : m_nmk bb rn s9 = true := by
    rw [m_nmk_t]
    refine ⟨by omega, by have := u9 (by omega); omega, fun w hw e => ?_⟩
    have hm : w ∈ m_RR := (by decide : ∀ w ∈ m_RS, w ∈ m_RR) w hw
    obtain ⟨i, hi⟩ := List.mem_iff_getElem?.mp hm
    have hl : i < 25 := (List.getElem?_eq_some_iff.mp hi).1
    exact n4 i (by omega) w hi ⟨by omega, e⟩
  have h4 := h3 (by omega)
  have c3 := wr.1.2.1
  have TK : m_tk bb rn s9 W = false := by
    cases ht : m_tk bb rn s9 W with
    | false => rfl
    | true =>
      obtain ⟨k, k1, k2, k3⟩ := (m_wr_tk wr).mp ht
      exact absurd k3 (f4 k k1 (by omega))
  refine ⟨7, s9, r1, r2, np, W, (by unfold m_pk; omega), cf, ⟨wr.1, wr.2.1, fun k hk => ?_, wr.2.2.2⟩, ro, fun h => absurd h (by decide), fun h => absurd h (by decide), fun h => absurd h (by decide), fun _ => ⟨NK, TK, by rw [m_up_at (by omega)]; exact h4⟩⟩
  unfold m_ln at c3
  rw [m_up_ne (by omega)]
  exact wr.2.2.1 k hk
theorem k_cw2 {rn : Int} {rk : Int} {rs : Int} {rq : Int} {rv : Int} {rl : Int} {bb : Int → Int} {nw : Int → Int} {ww : Int → Int} (hrn : 0 ≤ rn ∧ rn ≤ 900) (hrk : 0 ≤ rk ∧ rk ≤ 4) (hrs : 0 ≤ rs ∧ rs ≤ 900) (hrq : 0 ≤ rq ∧ rq ≤ 900) (hbb : ∀ i, -128 ≤ bb i ∧ bb i ≤ 127) {H s kk q : Int} (p0 : p_CAR bb rn nw ww (H)) (p1 : p_CUR bb rn rk rs rq rv rl (s)) (p2 : kk = rk) (p3 : q = rq) (c0 : 0 ≤ H + (-1) * s + (-7168)) (c1 : 0 ≤ s + (-1) * H + 7168) (c2 : 0 ≤ q) (c3 : 0 ≤ (-1) * q + 1023) (c4 : 0 ≤ s) (c5 : 0 ≤ (-1) * s + 900) : p_RDR bb rn nw ww (q + 11264) := by
  obtain ⟨st, s1, r1, r2, np, W, pk, cf, wr, ro, y1, y2, y3, y4⟩ := p0
  unfold m_pk at pk
  obtain rfl : s1 = s := by omega
  obtain rfl : st = 7 := by omega
  obtain ⟨uA, u0, u1, u2, u3, u4, u5, u6, u7, u8, u9⟩ := p1
  obtain rfl : r1 = 0 := by omega
  obtain rfl : r2 = 0 := by omega
  obtain ⟨NK, TK, E⟩ := y4 rfl
  have AT := m_cf_a cf (by decide)
  rw [show m_stp bb rn (7, s1, 0, 0, np, W) = (if m_nmk bb rn s1 = true then (if m_tk bb rn s1 W = true then m_ht 3 s1 else m_go 11 (m_sk bb rn (m_te bb rn s1)) 0 0 s1 W) else m_mp bb rn s1) from rfl, if_pos NK, TK, if_neg (by decide), ← u1] at AT
  exact ⟨11, rq, 0, 0, s1, W, (by unfold m_pk; omega), Or.inl ⟨by decide, AT⟩, wr, fun _ => ro (by decide), fun h => absurd h (by decide), fun h => absurd h (by decide), fun _ => E, fun h => absurd h (by decide), fun h => absurd h (by decide)⟩
theorem k_cp13 {rn : Int} {z3 : Int} {bb : Int → Int} {nw : Int → Int} {ww : Int → Int} (hrn : 0 ≤ rn ∧ rn ≤ 900) (hz3 : 0 ≤ z3 ∧ z3 ≤ 4) (hbb : ∀ i, -128 ≤ bb i ∧ bb i ≤ 127) (lz3 : z3 = nw 3) {i z F s Y c : Int} (i1 : 0 ≤ i) (p0 : p_CFP bb rn nw ww (F)) (p1 : c = z3) (c0 : 0 ≤ F + (-1) * s + (-65536) * Y + (-13312)) (c1 : 0 ≤ s + 65536 * Y + (-1) * F + 13312) (c2 : 0 ≤ i + (-1) * c + (-1453)) (c3 : 0 ≤ c + (-1) * i + 1453) (c4 : 0 ≤ z + (-1) * Y) (c5 : 0 ≤ Y + (-1) * z) (c6 : 0 ≤ z) (c7 : 0 ≤ (-1) * z + 65535) (c8 : 0 ≤ s) (c9 : 0 ≤ (-1) * s + 900) (c10 : 0 ≤ Y) (c11 : 0 ≤ (-1) * Y + 4294967295) : p_CFR bb rn (m_upo 1440 360 nw i z) ww (F) := by
  obtain ⟨st, s1, r1, r2, np, W, pk, cf, wr, ro, ⟨x1, x2, x3⟩⟩ := p0
  unfold m_pk at pk
  obtain rfl : s1 = s := by omega
  obtain rfl : st = 13 := by omega
  obtain ⟨⟨i1, i2, i3, i4, i5⟩, -, i8, i9, i10, i11, i12⟩ := (show m_icx 13 r1 W from m_cf_i cf (by decide))
  obtain ⟨b1, b2, b3, b4⟩ := wr.1
  have d1 := m_ln_0 (m_wcs W)
  have d2 := m_ln_0 (m_wms W)
  have d3 := m_ln_0 (m_wss W)
  have d4 := m_ln_0 (m_wfs W)
  have g := i9 (by unfold m_ps; decide)
  have y5 := x2 (by unfold m_ps; decide)
  rw [m_upo_e (p := 13 + nw 3) (by omega) (by omega) (by omega)]
  exact ⟨13, s1, r1, r2, np, W, (by unfold m_pk; omega), cf, m_wr_up wr ⟨by omega, by omega, by omega, by omega, by omega, by omega⟩ (fun k hk => by unfold m_ln at *; omega) (fun k hk => by unfold m_ln at *; constructor <;> omega) (fun k hk => by unfold m_ln at *; constructor <;> omega) (fun k hk => by unfold m_ln at *; constructor <;> omega), fun _ => ⟨by rw [m_up_ne (by omega)]; exact (ro (by decide)).1, by rw [m_up_ne (by omega)]; exact (ro (by decide)).2⟩, fun h => absurd h (by decide), fun h => absurd h (by decide), fun _ => by rw [m_up_ne (show (3 : Int) ≠ 13 + nw 3 by omega)]; exact y5, fun _ => by rw [m_up_ne (show (3 : Int) ≠ 13 + nw 3 by omega), m_up_at rfl]; omega, fun h => absurd h (by decide)⟩
theorem k_cp23 {rn : Int} {z3 : Int} {bb : Int → Int} {nw : Int → Int} {ww : Int → Int} (hrn : 0 ≤ rn ∧ rn ≤ 900) (hz3 : 0 ≤ z3 ∧ z3 ≤ 4) (hbb : ∀ i, -128 ≤ bb i ∧ bb i ≤ 127) (lz3 : z3 = nw 3) {i z F s Y c : Int} (i1 : 0 ≤ i) (p0 : p_CFP bb rn nw ww (F)) (p1 : c = z3) (c0 : 0 ≤ F + (-1) * s + (-65536) * Y + (-23552)) (c1 : 0 ≤ s + 65536 * Y + (-1) * F + 23552) (c2 : 0 ≤ i + (-1) * c + (-1457)) (c3 : 0 ≤ c + (-1) * i + 1457) (c4 : 0 ≤ Y + (-65536) * z) (c5 : 0 ≤ (-1) * Y + 65536 * z + 65535) (c6 : 0 ≤ z) (c7 : 0 ≤ (-1) * z + 65535) (c8 : 0 ≤ s) (c9 : 0 ≤ (-1) * s + 900) (c10 : 0 ≤ Y) (c11 : 0 ≤ (-1) * Y + 4294967295) : p_CFR bb rn (m_upo 1440 360 nw i z) ww (F) := by
  obtain ⟨st, s1, r1, r2, np, W, pk, cf, wr, ro, ⟨x1, x2, x3⟩⟩ := p0
  unfold m_pk at pk
  obtain rfl : s1 = s := by omega
  obtain rfl : st = 23 := by omega
  obtain ⟨⟨i1, i2, i3, i4, i5⟩, -, i8, i9, i10, i11, i12⟩ := (show m_icx 23 r1 W from m_cf_i cf (by decide))
  obtain ⟨b1, b2, b3, b4⟩ := wr.1
  have d1 := m_ln_0 (m_wcs W)
  have d2 := m_ln_0 (m_wms W)
  have d3 := m_ln_0 (m_wss W)
  have d4 := m_ln_0 (m_wfs W)
  have g := i9 (by unfold m_ps; decide)
  have y5 := x2 (by unfold m_ps; decide)
  have y6 := x3 rfl
  rw [m_upo_e (p := 17 + nw 3) (by omega) (by omega) (by omega)]
  exact ⟨23, s1, r1, r2, np, W, (by unfold m_pk; omega), cf, m_wr_up wr ⟨by omega, by omega, by omega, by omega, by omega, by omega⟩ (fun k hk => by unfold m_ln at *; omega) (fun k hk => by unfold m_ln at *; constructor <;> omega) (fun k hk => by unfold m_ln at *; constructor <;> omega) (fun k hk => by unfold m_ln at *; constructor <;> omega), fun _ => ⟨by rw [m_up_ne (by omega)]; exact (ro (by decide)).1, by rw [m_up_ne (by omega)]; exact (ro (by decide)).2⟩, fun h => absurd h (by decide), fun h => absurd h (by decide), fun _ => by rw [m_up_ne (show (3 : Int) ≠ 17 + nw 3 by omega)]; exact y5, fun _ => by rw [m_up_ne (show (3 : Int) ≠ 17 + nw 3 by omega), m_up_ne (by omega)]; exact y6, fun _ => by rw [m_up_ne (show (3 : Int) ≠ 17 + nw 3 by omega), m_up_at rfl]; omega⟩
theorem k_cma {rn : Int} {z3 : Int} {bb : Int → Int} {nw : Int → Int} {ww : Int → Int} (hrn : 0 ≤ rn ∧ rn ≤ 900) (hz3 : 0 ≤ z3 ∧ z3 ≤ 4) (hbb : ∀ i, -128 ≤ bb i ∧ bb i ≤ 127) (lz3 : z3 = nw 3) {i z F s Y c : Int} (i1 : 0 ≤ i) (p0 : p_CFR bb rn nw ww (F)) (p1 : c = z3) (c0 : 0 ≤ F + (-1) * s + (-65536) * Y + (-23552)) (c1 : 0 ≤ s + 65536 * Y + (-1) * F + 23552) (c2 : 0 ≤ i + (-1443)) (c3 : 0 ≤ (-1) * i + 1443) (c4 : 0 ≤ z + (-1) * c + (-1)) (c5 : 0 ≤ c + (-1) * z + 1) (c6 : 0 ≤ s) (c7 : 0 ≤ (-1) * s + 900) (c8 : 0 ≤ Y) (c9 : 0 ≤ (-1) * Y + 4294967295) : p_CFAR bb rn (m_upo 1440 360 nw i z) ww (F) := by
  obtain ⟨st, s1, r1, r2, np, W, pk, cf, wr, ro, ⟨x1, x2, x3, x4, x5⟩⟩ := p0
  unfold m_pk at pk
  obtain rfl : s1 = s := by omega
  obtain rfl : st = 23 := by omega
  rw [m_upo_e (p := 3) (by omega) (by omega) (by omega)]
  rw [show z = nw 3 + 1 by omega]
  exact ⟨23, s1, r1, r2, np, W, (by unfold m_pk; omega), cf, by decide, m_wr_m wr (x4 (by decide)) (x5 rfl) (x3 (by unfold m_ps; decide)), fun _ => ⟨by rw [m_up_ne (by omega)]; exact (ro (by decide)).1, by rw [m_up_ne (by omega)]; exact (ro (by decide)).2⟩⟩
theorem k_lsr0 {rn : Int} {z4 : Int} {bb : Int → Int} {nw : Int → Int} {ww : Int → Int} (hrn : 0 ≤ rn ∧ rn ≤ 900) (hz4 : 0 ≤ z4 ∧ z4 ≤ 6) (hbb : ∀ i, -128 ≤ bb i ∧ bb i ≤ 127) (lz4 : z4 = nw 4) {F s Y c : Int} (p0 : p_CFR bb rn nw ww (F)) (p1 : c = z4) (c0 : 0 ≤ F + (-1) * s + (-65536) * Y + (-21504)) (c1 : 0 ≤ s + 65536 * Y + (-1) * F + 21504) (c2 : 0 ≤ c) (c3 : 0 ≤ (-1) * c) (c4 : 0 ≤ s) (c5 : 0 ≤ (-1) * s + 900) (c6 : 0 ≤ Y) (c7 : 0 ≤ (-1) * Y + 4294967295) : p_LSR nw (0) := by
  show 0 = if nw 4 = 0 then 0 else nw (20 + nw 4)
  rw [if_pos (by omega)]
theorem k_lsr1 {rn : Int} {z4 : Int} {bb : Int → Int} {nw : Int → Int} {ww : Int → Int} (hrn : 0 ≤ rn ∧ rn ≤ 900) (hz4 : 0 ≤ z4 ∧ z4 ≤ 6) (hbb : ∀ i, -128 ≤ bb i ∧ bb i ≤ 127) (lz4 : z4 = nw 4) {i z F s Y c : Int} (znw : 0 ≤ i - 1440 → i - 1440 < 360 → nw (i - 1440) = z) (p0 : p_CFR bb rn nw ww (F)) (p1 : c = z4) (c0 : 0 ≤ F + (-1) * s + (-65536) * Y + (-21504)) (c1 : 0 ≤ s + 65536 * Y + (-1) * F + 21504) (c2 : 0 ≤ c + (-1)) (c3 : 0 ≤ (-1) * c + 6) (c4 : 0 ≤ i + (-1) * c + (-1460)) (c5 : 0 ≤ c + (-1) * i + 1460) (c6 : 0 ≤ z) (c7 : 0 ≤ (-1) * z + 95) (c8 : 0 ≤ s) (c9 : 0 ≤ (-1) * s + 900) (c10 : 0 ≤ Y) (c11 : 0 ≤ (-1) * Y + 4294967295) : p_LSR nw (z) := by
  have hz := znw (by omega) (by omega)
  show z = if nw 4 = 0 then 0 else nw (20 + nw 4)
  rw [if_neg (by omega), ← hz, show i - 1440 = 20 + nw 4 by omega]
theorem k_sh1 {rn : Int} {bb : Int → Int} {nw : Int → Int} {ww : Int → Int} (hrn : 0 ≤ rn ∧ rn ≤ 900) (hbb : ∀ i, -128 ≤ bb i ∧ bb i ≤ 127) {F s Y v p l : Int} (p0 : p_CFR bb rn nw ww (F)) (p1 : p_LSR nw (l)) (c0 : 0 ≤ F + (-1) * s + (-65536) * Y + (-21504)) (c1 : 0 ≤ s + 65536 * Y + (-1) * F + 21504) (c2 : 0 ≤ Y + (-1) * v + (-65536) * p) (c3 : 0 ≤ v + 65536 * p + (-1) * Y) (c4 : 0 ≤ v) (c5 : 0 ≤ (-1) * v + 65535) (c6 : 0 ≤ p) (c7 : 0 ≤ (-1) * p + 900) (c8 : 0 ≤ v + (-1) * l + (-1)) (c9 : 0 ≤ s) (c10 : 0 ≤ (-1) * s + 900) (c11 : 0 ≤ Y) (c12 : 0 ≤ (-1) * Y + 4294967295) : p_CFR bb rn nw ww (s + 65536 * v + 16384) := by
  obtain ⟨st, s1, r1, r2, np, W, pk, cf, wr, ro, ⟨x1, x2, x3, x4, x5⟩⟩ := p0
  unfold m_pk at pk
  obtain rfl : s1 = s := by omega
  obtain rfl : st = 21 := by omega
  have el : l = m_lst (m_wss W) := (show l = if nw 4 = 0 then 0 else nw (20 + nw 4) from p1).trans (m_wr_lst wr).symm
  have AT := m_cf_a cf (by decide)
  rw [show m_stp bb rn (21, s1, r1, r2, np, W) = if m_lst (m_wss W) < r1 then m_go 16 s1 r1 0 np W else m_ht 5 r2 from rfl] at AT
  rw [if_pos (by omega)] at AT
  exact ⟨16, s1, r1, 0, np, W, (by unfold m_pk; omega), Or.inl ⟨by decide, AT⟩, wr, fun _ => ro (by decide), ⟨fun h => absurd h (by decide), fun h => absurd h (by decide), fun h => absurd h (by unfold m_ps; decide), fun h => absurd h (by decide), fun h => absurd h (by decide)⟩⟩
theorem k_sh2 {rn : Int} {bb : Int → Int} {nw : Int → Int} {ww : Int → Int} (hrn : 0 ≤ rn ∧ rn ≤ 900) (hbb : ∀ i, -128 ≤ bb i ∧ bb i ≤ 127) {F s Y v p l : Int} (p0 : p_CFR bb rn nw ww (F)) (p1 : p_LSR nw (l)) (c0 : 0 ≤ F + (-1) * s + (-65536) * Y + (-21504)) (c1 : 0 ≤ s + 65536 * Y + (-1) * F + 21504) (c2 : 0 ≤ Y + (-1) * v + (-65536) * p) (c3 : 0 ≤ v + 65536 * p + (-1) * Y) (c4 : 0 ≤ v) (c5 : 0 ≤ (-1) * v + 65535) (c6 : 0 ≤ p) (c7 : 0 ≤ (-1) * p + 900) (c8 : 0 ≤ l + (-1) * v) (c9 : 0 ≤ s) (c10 : 0 ≤ (-1) * s + 900) (c11 : 0 ≤ Y) (c12 : 0 ≤ (-1) * Y + 4294967295) : p_HFR bb rn (8 * p + 5) := by
  obtain ⟨st, s1, r1, r2, np, W, pk, cf, wr, ro, ⟨x1, x2, x3, x4, x5⟩⟩ := p0
  unfold m_pk at pk
  obtain rfl : s1 = s := by omega
  obtain rfl : st = 21 := by omega
  have el : l = m_lst (m_wss W) := (show l = if nw 4 = 0 then 0 else nw (20 + nw 4) from p1).trans (m_wr_lst wr).symm
  have AT := m_cf_a cf (by decide)
  rw [show m_stp bb rn (21, s1, r1, r2, np, W) = if m_lst (m_wss W) < r1 then m_go 16 s1 r1 0 np W else m_ht 5 r2 from rfl] at AT
  rw [if_neg (by omega)] at AT
  exact ⟨5, r2, by omega, by omega, by omega, AT⟩
theorem k_xwv {rn : Int} {bb : Int → Int} {nw : Int → Int} {ww : Int → Int} (hrn : 0 ≤ rn ∧ rn ≤ 900) (hbb : ∀ i, -128 ≤ bb i ∧ bb i ≤ 127) {F s v : Int} (p0 : p_CFR bb rn nw ww (F)) (c0 : 0 ≤ F + (-1) * s + (-65536) * v + (-16384)) (c1 : 0 ≤ s + 65536 * v + (-1) * F + 16384) (c2 : 0 ≤ s) (c3 : 0 ≤ (-1) * s + 900) (c4 : 0 ≤ v) (c5 : 0 ≤ (-1) * v + 95) : p_XW (v) := by
  trivial
theorem k_csr1 {rn : Int} {z4 : Int} {bb : Int → Int} {nw : Int → Int} {ww : Int → Int} (hrn : 0 ≤ rn ∧ rn ≤ 900) (hz4 : 0 ≤ z4 ∧ z4 ≤ 6) (hbb : ∀ i, -128 ≤ bb i ∧ bb i ≤ 127) (lz4 : z4 = nw 4) {i z F s Y c w : Int} (i1 : 0 ≤ i) (p0 : p_CFR bb rn nw ww (F)) (p1 : c = z4) (c0 : 0 ≤ F + (-1) * s + (-65536) * Y + (-24576)) (c1 : 0 ≤ s + 65536 * Y + (-1) * F + 24576) (c2 : 0 ≤ i + (-1) * c + (-1461)) (c3 : 0 ≤ c + (-1) * i + 1461) (c4 : 0 ≤ z + 65536 * w + (-1) * Y) (c5 : 0 ≤ Y + (-1) * z + (-65536) * w) (c6 : 0 ≤ z) (c7 : 0 ≤ (-1) * z + 65535) (c8 : 0 ≤ w) (c9 : 0 ≤ (-1) * w + 65535) (c10 : 0 ≤ s) (c11 : 0 ≤ (-1) * s + 900) (c12 : 0 ≤ Y) (c13 : 0 ≤ (-1) * Y + 4294967295) : p_CAR bb rn (m_upo 1440 360 nw i z) ww (F) := by
  obtain ⟨st, s1, r1, r2, np, W, pk, cf, wr, ro, ⟨x1, x2, x3, x4, x5⟩⟩ := p0
  unfold m_pk at pk
  obtain rfl : s1 = s := by omega
  obtain rfl : st = 24 := by omega
  obtain ⟨⟨i1, i2, i3, i4, i5⟩, -, i8, i9, i10, i11, i12⟩ := (show m_icx 24 r1 W from m_cf_i cf (by decide))
  obtain ⟨b1, b2, b3, b4⟩ := wr.1
  have d1 := m_ln_0 (m_wcs W)
  have d2 := m_ln_0 (m_wms W)
  have d3 := m_ln_0 (m_wss W)
  have d4 := m_ln_0 (m_wfs W)
  have g := i10 (by decide)
  rw [m_upo_e (p := 21 + nw 4) (by omega) (by omega) (by omega)]
  exact ⟨24, s1, r1, r2, np, W, (by unfold m_pk; omega), cf, m_wr_up wr ⟨by omega, by omega, by omega, by omega, by omega, by omega⟩ (fun k hk => by unfold m_ln at *; omega) (fun k hk => by unfold m_ln at *; constructor <;> omega) (fun k hk => by unfold m_ln at *; constructor <;> omega) (fun k hk => by unfold m_ln at *; constructor <;> omega), fun _ => ⟨by rw [m_up_ne (by omega)]; exact (ro (by decide)).1, by rw [m_up_ne (by omega)]; exact (ro (by decide)).2⟩, fun h => absurd h (by decide), fun _ => by rw [m_up_ne (show (4 : Int) ≠ 21 + nw 4 by omega), m_up_at rfl]; omega, fun h => absurd h (by decide), fun h => absurd h (by decide)⟩
theorem k_csr2 {rn : Int} {z4 : Int} {bb : Int → Int} {nw : Int → Int} {ww : Int → Int} (hrn : 0 ≤ rn ∧ rn ≤ 900) (hz4 : 0 ≤ z4 ∧ z4 ≤ 6) (hbb : ∀ i, -128 ≤ bb i ∧ bb i ≤ 127) (lz4 : z4 = nw 4) {i z F s Y c : Int} (i1 : 0 ≤ i) (p0 : p_CAR bb rn nw ww (F)) (p1 : c = z4) (c0 : 0 ≤ F + (-1) * s + (-65536) * Y + (-24576)) (c1 : 0 ≤ s + 65536 * Y + (-1) * F + 24576) (c2 : 0 ≤ i + (-1) * c + (-1467)) (c3 : 0 ≤ c + (-1) * i + 1467) (c4 : 0 ≤ Y + (-65536) * z) (c5 : 0 ≤ (-1) * Y + 65536 * z + 65535) (c6 : 0 ≤ z) (c7 : 0 ≤ (-1) * z + 65535) (c8 : 0 ≤ s) (c9 : 0 ≤ (-1) * s + 900) (c10 : 0 ≤ Y) (c11 : 0 ≤ (-1) * Y + 4294967295) : p_CBR bb rn (m_upo 1440 360 nw i z) ww (F) := by
  obtain ⟨st, s1, r1, r2, np, W, pk, cf, wr, ro, y1, y2, y3, y4⟩ := p0
  unfold m_pk at pk
  obtain rfl : s1 = s := by omega
  obtain rfl : st = 24 := by omega
  obtain ⟨⟨i1, i2, i3, i4, i5⟩, -, i8, i9, i10, i11, i12⟩ := (show m_icx 24 r1 W from m_cf_i cf (by decide))
  obtain ⟨b1, b2, b3, b4⟩ := wr.1
  have d1 := m_ln_0 (m_wcs W)
  have d2 := m_ln_0 (m_wms W)
  have d3 := m_ln_0 (m_wss W)
  have d4 := m_ln_0 (m_wfs W)
  have g := i10 (by decide)
  have y5 := y2 rfl
  rw [m_upo_e (p := 27 + nw 4) (by omega) (by omega) (by omega)]
  exact ⟨24, s1, r1, r2, np, W, (by unfold m_pk; omega), cf, m_wr_up wr ⟨by omega, by omega, by omega, by omega, by omega, by omega⟩ (fun k hk => by unfold m_ln at *; omega) (fun k hk => by unfold m_ln at *; constructor <;> omega) (fun k hk => by unfold m_ln at *; constructor <;> omega) (fun k hk => by unfold m_ln at *; constructor <;> omega), fun _ => ⟨by rw [m_up_ne (by omega)]; exact (ro (by decide)).1, by rw [m_up_ne (by omega)]; exact (ro (by decide)).2⟩, fun h => absurd h (by decide), fun _ => by rw [m_up_ne (show (4 : Int) ≠ 27 + nw 4 by omega), m_up_ne (by omega)]; exact y5, fun h => absurd h (by decide), fun h => absurd h (by decide), fun _ => by rw [m_up_ne (show (4 : Int) ≠ 27 + nw 4 by omega), m_up_at rfl]; omega, fun h => absurd h (by decide)⟩
theorem k_csa {rn : Int} {z4 : Int} {bb : Int → Int} {nw : Int → Int} {ww : Int → Int} (hrn : 0 ≤ rn ∧ rn ≤ 900) (hz4 : 0 ≤ z4 ∧ z4 ≤ 6) (hbb : ∀ i, -128 ≤ bb i ∧ bb i ≤ 127) (lz4 : z4 = nw 4) {i z F s Y c : Int} (i1 : 0 ≤ i) (p0 : p_CBR bb rn nw ww (F)) (p1 : c = z4) (c0 : 0 ≤ F + (-1) * s + (-65536) * Y + (-24576)) (c1 : 0 ≤ s + 65536 * Y + (-1) * F + 24576) (c2 : 0 ≤ i + (-1444)) (c3 : 0 ≤ (-1) * i + 1444) (c4 : 0 ≤ z + (-1) * c + (-1)) (c5 : 0 ≤ c + (-1) * z + 1) (c6 : 0 ≤ s) (c7 : 0 ≤ (-1) * s + 900) (c8 : 0 ≤ Y) (c9 : 0 ≤ (-1) * Y + 4294967295) : p_CFAR bb rn (m_upo 1440 360 nw i z) ww (F) := by
  obtain ⟨st, s1, r1, r2, np, W, pk, cf, wr, ro, y1, y2, y3, y4, y5, y6⟩ := p0
  unfold m_pk at pk
  obtain rfl : s1 = s := by omega
  obtain rfl : st = 24 := by omega
  rw [m_upo_e (p := 4) (by omega) (by omega) (by omega)]
  rw [show z = nw 4 + 1 by omega]
  exact ⟨24, s1, r1, r2, np, W, (by unfold m_pk; omega), cf, by decide, m_wr_s wr (y2 rfl) (y5 rfl), fun _ => ⟨by rw [m_up_ne (by omega)]; exact (ro (by decide)).1, by rw [m_up_ne (by omega)]; exact (ro (by decide)).2⟩⟩
theorem k_ldn {nw : Int → Int} {i z k : Int} (znw : 0 ≤ i - 1440 → i - 1440 < 360 → nw (i - 1440) = z) (c0 : 0 ≤ i + (-1) * k + (-1473)) (c1 : 0 ≤ k + (-1) * i + 1473) (c2 : 0 ≤ k) (c3 : 0 ≤ (-1) * k + 7) (c4 : 0 ≤ z) (c5 : 0 ≤ (-1) * z + 127) : p_LDN nw (z + 128 * k) := by
  have hz := znw (by omega) (by omega)
  rw [show i - 1440 = 33 + k by omega] at hz
  exact ⟨z, k, by omega, by omega, by omega, by omega, hz⟩
theorem k_dfr0 {nw : Int → Int} {v : Int} (c0 : 0 ≤ v) (c1 : 0 ≤ (-1) * v + 95) : p_DFR nw (v) := by
  exact ⟨v, 0, by omega, by omega, by omega, by omega, fun j a b => by omega⟩
theorem k_dfra {nw : Int → Int} {F G v k : Int} (p0 : p_DFR nw (F)) (p1 : p_LDN nw (G)) (c0 : 0 ≤ F + (-1) * v + (-128) * k) (c1 : 0 ≤ v + 128 * k + (-1) * F) (c2 : 0 ≤ G + (-128) * k) (c3 : 0 ≤ 128 * k + (-1) * G + 127) (c4 : 0 ≤ k) (c5 : 0 ≤ (-1) * k + 7) (c6 : 0 ≤ v) (c7 : 0 ≤ (-1) * v + 95) (c8 : 0 ≤ G + (-128) * k + (-1) * v + (-1)) : p_DFR nw (F + 128) := by
  obtain ⟨v0, k0, e0, f1, f2, f3, f4⟩ := p0
  obtain ⟨rfl, rfl⟩ : v0 = v ∧ k0 = k := by omega
  obtain ⟨z1, k1, e1, g1, g2, g3, g4⟩ := p1
  obtain rfl : k1 = k0 := by omega
  refine ⟨v0, k1 + 1, by omega, by omega, by omega, by omega, fun j a b => ?_⟩
  by_cases e : j = k1
  · rw [e, g4]; omega
  · exact f4 j a (by omega)
theorem k_dfrb {nw : Int → Int} {F G v k : Int} (p0 : p_DFR nw (F)) (p1 : p_LDN nw (G)) (c0 : 0 ≤ F + (-1) * v + (-128) * k) (c1 : 0 ≤ v + 128 * k + (-1) * F) (c2 : 0 ≤ G + (-128) * k) (c3 : 0 ≤ 128 * k + (-1) * G + 127) (c4 : 0 ≤ k) (c5 : 0 ≤ (-1) * k + 7) (c6 : 0 ≤ v) (c7 : 0 ≤ (-1) * v + 95) (c8 : 0 ≤ v + 128 * k + (-1) * G + (-1)) : p_DFR nw (F + 128) := by
  obtain ⟨v0, k0, e0, f1, f2, f3, f4⟩ := p0
  obtain ⟨rfl, rfl⟩ : v0 = v ∧ k0 = k := by omega
  obtain ⟨z1, k1, e1, g1, g2, g3, g4⟩ := p1
  obtain rfl : k1 = k0 := by omega
  refine ⟨v0, k1 + 1, by omega, by omega, by omega, by omega, fun j a b => ?_⟩
  by_cases e : j = k1
  · rw [e, g4]; omega
  · exact f4 j a (by omega)
theorem k_dfh {rn : Int} {z5 : Int} {bb : Int → Int} {nw : Int → Int} {ww : Int → Int} (hrn : 0 ≤ rn ∧ rn ≤ 900) (hz5 : 0 ≤ z5 ∧ z5 ≤ 8) (hbb : ∀ i, -128 ≤ bb i ∧ bb i ≤ 127) (lz5 : z5 = nw 5) {F G s Y v p k c : Int} (p0 : p_CFR bb rn nw ww (F)) (p1 : p_LDN nw (G)) (p2 : c = z5) (c0 : 0 ≤ F + (-1) * s + (-65536) * Y + (-22528)) (c1 : 0 ≤ s + 65536 * Y + (-1) * F + 22528) (c2 : 0 ≤ Y + (-1) * v + (-65536) * p) (c3 : 0 ≤ v + 65536 * p + (-1) * Y) (c4 : 0 ≤ v) (c5 : 0 ≤ (-1) * v + 65535) (c6 : 0 ≤ p) (c7 : 0 ≤ (-1) * p + 900) (c8 : 0 ≤ G + (-128) * k + (-1) * v) (c9 : 0 ≤ v + 128 * k + (-1) * G) (c10 : 0 ≤ k) (c11 : 0 ≤ c + (-1) * k + (-1)) (c12 : 0 ≤ v) (c13 : 0 ≤ (-1) * v + 95) (c14 : 0 ≤ s) (c15 : 0 ≤ (-1) * s + 900) (c16 : 0 ≤ Y) (c17 : 0 ≤ (-1) * Y + 4294967295) : p_HFR bb rn (8 * p + 5) := by
  obtain ⟨st, s1, r1, r2, np, W, pk, cf, wr, ro, ⟨x1, x2, x3, x4, x5⟩⟩ := p0
  unfold m_pk at pk
  obtain rfl : s1 = s := by omega
  obtain rfl : st = 22 := by omega
  obtain ⟨z1, k1, e1, g1, g2, g3, g4⟩ := p1
  obtain rfl : k1 = k := by omega
  have AT := m_cf_a cf (by decide)
  rw [show m_stp bb rn (22, s1, r1, r2, np, W) = if m_has (m_wfs W) r1 = true then m_ht 5 r2 else m_go 19 s1 r1 0 np W from rfl, if_pos ((m_wr_has wr).mpr ⟨k1, g3, by omega, by omega⟩)] at AT
  exact ⟨5, r2, by omega, by omega, by omega, AT⟩
theorem k_dfe {rn : Int} {z5 : Int} {bb : Int → Int} {nw : Int → Int} {ww : Int → Int} (hrn : 0 ≤ rn ∧ rn ≤ 900) (hz5 : 0 ≤ z5 ∧ z5 ≤ 8) (hbb : ∀ i, -128 ≤ bb i ∧ bb i ≤ 127) (lz5 : z5 = nw 5) {F H s Y v p c : Int} (p0 : p_CFR bb rn nw ww (F)) (p1 : p_DFR nw (H)) (p2 : c = z5) (c0 : 0 ≤ F + (-1) * s + (-65536) * Y + (-22528)) (c1 : 0 ≤ s + 65536 * Y + (-1) * F + 22528) (c2 : 0 ≤ Y + (-1) * v + (-65536) * p) (c3 : 0 ≤ v + 65536 * p + (-1) * Y) (c4 : 0 ≤ v) (c5 : 0 ≤ (-1) * v + 65535) (c6 : 0 ≤ p) (c7 : 0 ≤ (-1) * p + 900) (c8 : 0 ≤ H + (-1) * v + (-128) * c) (c9 : 0 ≤ v + 128 * c + (-1) * H) (c10 : 0 ≤ c) (c11 : 0 ≤ (-1) * c + 8) (c12 : 0 ≤ (-1) * v + 95) (c13 : 0 ≤ s) (c14 : 0 ≤ (-1) * s + 900) (c15 : 0 ≤ Y) (c16 : 0 ≤ (-1) * Y + 4294967295) : p_CFR bb rn nw ww (s + 65536 * v + 19456) := by
  obtain ⟨st, s1, r1, r2, np, W, pk, cf, wr, ro, ⟨x1, x2, x3, x4, x5⟩⟩ := p0
  unfold m_pk at pk
  obtain rfl : s1 = s := by omega
  obtain rfl : st = 22 := by omega
  obtain ⟨v0, k0, e0, f1, f2, f3, f4⟩ := p1
  obtain ⟨rfl, rfl⟩ : v0 = v ∧ k0 = c := by omega
  have AT := m_cf_a cf (by decide)
  rw [show m_stp bb rn (22, s1, r1, r2, np, W) = if m_has (m_wfs W) r1 = true then m_ht 5 r2 else m_go 19 s1 r1 0 np W from rfl, if_neg (fun hh => by obtain ⟨k, k1, k2, k3⟩ := (m_wr_has wr).mp hh; exact f4 k k1 (by omega) (by omega))] at AT
  exact ⟨19, s1, r1, 0, np, W, (by unfold m_pk; omega), Or.inl ⟨by decide, AT⟩, wr, fun _ => ro (by decide), ⟨fun h => absurd h (by decide), fun h => absurd h (by decide), fun h => absurd h (by unfold m_ps; decide), fun h => absurd h (by decide), fun h => absurd h (by decide)⟩⟩
theorem k_xwf {rn : Int} {bb : Int → Int} {nw : Int → Int} {ww : Int → Int} (hrn : 0 ≤ rn ∧ rn ≤ 900) (hbb : ∀ i, -128 ≤ bb i ∧ bb i ≤ 127) {F s v : Int} (p0 : p_CFR bb rn nw ww (F)) (c0 : 0 ≤ F + (-1) * s + (-65536) * v + (-19456)) (c1 : 0 ≤ s + 65536 * v + (-1) * F + 19456) (c2 : 0 ≤ s) (c3 : 0 ≤ (-1) * s + 900) (c4 : 0 ≤ v) (c5 : 0 ≤ (-1) * v + 95) : p_XW (v) := by
  trivial
theorem k_cdr1 {rn : Int} {z5 : Int} {bb : Int → Int} {nw : Int → Int} {ww : Int → Int} (hrn : 0 ≤ rn ∧ rn ≤ 900) (hz5 : 0 ≤ z5 ∧ z5 ≤ 8) (hbb : ∀ i, -128 ≤ bb i ∧ bb i ≤ 127) (lz5 : z5 = nw 5) {i z F s Y c w : Int} (i1 : 0 ≤ i) (p0 : p_CFR bb rn nw ww (F)) (p1 : c = z5) (c0 : 0 ≤ F + (-1) * s + (-65536) * Y + (-25600)) (c1 : 0 ≤ s + 65536 * Y + (-1) * F + 25600) (c2 : 0 ≤ i + (-1) * c + (-1473)) (c3 : 0 ≤ c + (-1) * i + 1473) (c4 : 0 ≤ z + 65536 * w + (-1) * Y) (c5 : 0 ≤ Y + (-1) * z + (-65536) * w) (c6 : 0 ≤ z) (c7 : 0 ≤ (-1) * z + 65535) (c8 : 0 ≤ w) (c9 : 0 ≤ (-1) * w + 65535) (c10 : 0 ≤ s) (c11 : 0 ≤ (-1) * s + 900) (c12 : 0 ≤ Y) (c13 : 0 ≤ (-1) * Y + 4294967295) : p_CAR bb rn (m_upo 1440 360 nw i z) ww (F) := by
  obtain ⟨st, s1, r1, r2, np, W, pk, cf, wr, ro, ⟨x1, x2, x3, x4, x5⟩⟩ := p0
  unfold m_pk at pk
  obtain rfl : s1 = s := by omega
  obtain rfl : st = 25 := by omega
  obtain ⟨⟨i1, i2, i3, i4, i5⟩, -, i8, i9, i10, i11, i12⟩ := (show m_icx 25 r1 W from m_cf_i cf (by decide))
  obtain ⟨b1, b2, b3, b4⟩ := wr.1
  have d1 := m_ln_0 (m_wcs W)
  have d2 := m_ln_0 (m_wms W)
  have d3 := m_ln_0 (m_wss W)
  have d4 := m_ln_0 (m_wfs W)
  have g := i11 (by decide)
  rw [m_upo_e (p := 33 + nw 5) (by omega) (by omega) (by omega)]
  exact ⟨25, s1, r1, r2, np, W, (by unfold m_pk; omega), cf, m_wr_up wr ⟨by omega, by omega, by omega, by omega, by omega, by omega⟩ (fun k hk => by unfold m_ln at *; omega) (fun k hk => by unfold m_ln at *; constructor <;> omega) (fun k hk => by unfold m_ln at *; constructor <;> omega) (fun k hk => by unfold m_ln at *; constructor <;> omega), fun _ => ⟨by rw [m_up_ne (by omega)]; exact (ro (by decide)).1, by rw [m_up_ne (by omega)]; exact (ro (by decide)).2⟩, fun h => absurd h (by decide), fun h => absurd h (by decide), fun _ => by rw [m_up_ne (show (5 : Int) ≠ 33 + nw 5 by omega), m_up_at rfl]; omega, fun h => absurd h (by decide)⟩
theorem k_cdr2 {rn : Int} {z5 : Int} {bb : Int → Int} {nw : Int → Int} {ww : Int → Int} (hrn : 0 ≤ rn ∧ rn ≤ 900) (hz5 : 0 ≤ z5 ∧ z5 ≤ 8) (hbb : ∀ i, -128 ≤ bb i ∧ bb i ≤ 127) (lz5 : z5 = nw 5) {i z F s Y c : Int} (i1 : 0 ≤ i) (p0 : p_CAR bb rn nw ww (F)) (p1 : c = z5) (c0 : 0 ≤ F + (-1) * s + (-65536) * Y + (-25600)) (c1 : 0 ≤ s + 65536 * Y + (-1) * F + 25600) (c2 : 0 ≤ i + (-1) * c + (-1481)) (c3 : 0 ≤ c + (-1) * i + 1481) (c4 : 0 ≤ Y + (-65536) * z) (c5 : 0 ≤ (-1) * Y + 65536 * z + 65535) (c6 : 0 ≤ z) (c7 : 0 ≤ (-1) * z + 65535) (c8 : 0 ≤ s) (c9 : 0 ≤ (-1) * s + 900) (c10 : 0 ≤ Y) (c11 : 0 ≤ (-1) * Y + 4294967295) : p_CBR bb rn (m_upo 1440 360 nw i z) ww (F) := by
  obtain ⟨st, s1, r1, r2, np, W, pk, cf, wr, ro, y1, y2, y3, y4⟩ := p0
  unfold m_pk at pk
  obtain rfl : s1 = s := by omega
  obtain rfl : st = 25 := by omega
  obtain ⟨⟨i1, i2, i3, i4, i5⟩, -, i8, i9, i10, i11, i12⟩ := (show m_icx 25 r1 W from m_cf_i cf (by decide))
  obtain ⟨b1, b2, b3, b4⟩ := wr.1
  have d1 := m_ln_0 (m_wcs W)
  have d2 := m_ln_0 (m_wms W)
  have d3 := m_ln_0 (m_wss W)
  have d4 := m_ln_0 (m_wfs W)
  have g := i11 (by decide)
  have y5 := y3 rfl
  rw [m_upo_e (p := 41 + nw 5) (by omega) (by omega) (by omega)]
  exact ⟨25, s1, r1, r2, np, W, (by unfold m_pk; omega), cf, m_wr_up wr ⟨by omega, by omega, by omega, by omega, by omega, by omega⟩ (fun k hk => by unfold m_ln at *; omega) (fun k hk => by unfold m_ln at *; constructor <;> omega) (fun k hk => by unfold m_ln at *; constructor <;> omega) (fun k hk => by unfold m_ln at *; constructor <;> omega), fun _ => ⟨by rw [m_up_ne (by omega)]; exact (ro (by decide)).1, by rw [m_up_ne (by omega)]; exact (ro (by decide)).2⟩, fun h => absurd h (by decide), fun h => absurd h (by decide), fun _ => by rw [m_up_ne (show (5 : Int) ≠ 41 + nw 5 by omega), m_up_ne (by omega)]; exact y5, fun h => absurd h (by decide), fun h => absurd h (by decide), fun _ => by rw [m_up_ne (show (5 : Int) ≠ 41 + nw 5 by omega), m_up_at rfl]; omega⟩
theorem k_cda {rn : Int} {z5 : Int} {bb : Int → Int} {nw : Int → Int} {ww : Int → Int} (hrn : 0 ≤ rn ∧ rn ≤ 900) (hz5 : 0 ≤ z5 ∧ z5 ≤ 8) (hbb : ∀ i, -128 ≤ bb i ∧ bb i ≤ 127) (lz5 : z5 = nw 5) {i z F s Y c : Int} (i1 : 0 ≤ i) (p0 : p_CBR bb rn nw ww (F)) (p1 : c = z5) (c0 : 0 ≤ F + (-1) * s + (-65536) * Y + (-25600)) (c1 : 0 ≤ s + 65536 * Y + (-1) * F + 25600) (c2 : 0 ≤ i + (-1445)) (c3 : 0 ≤ (-1) * i + 1445) (c4 : 0 ≤ z + (-1) * c + (-1)) (c5 : 0 ≤ c + (-1) * z + 1) (c6 : 0 ≤ s) (c7 : 0 ≤ (-1) * s + 900) (c8 : 0 ≤ Y) (c9 : 0 ≤ (-1) * Y + 4294967295) : p_CFAR bb rn (m_upo 1440 360 nw i z) ww (F) := by
  obtain ⟨st, s1, r1, r2, np, W, pk, cf, wr, ro, y1, y2, y3, y4, y5, y6⟩ := p0
  unfold m_pk at pk
  obtain rfl : s1 = s := by omega
  obtain rfl : st = 25 := by omega
  rw [m_upo_e (p := 5) (by omega) (by omega) (by omega)]
  rw [show z = nw 5 + 1 by omega]
  exact ⟨25, s1, r1, r2, np, W, (by unfold m_pk; omega), cf, by decide, m_wr_f wr (y3 rfl) (y6 rfl), fun _ => ⟨by rw [m_up_ne (by omega)]; exact (ro (by decide)).1, by rw [m_up_ne (by omega)]; exact (ro (by decide)).2⟩⟩
theorem k_zr0 {nw : Int → Int} : p_ZR nw (0) := by
  exact fun j a b c => by omega
theorem k_zr1 {nw : Int → Int} {i z k : Int} (i1 : 0 ≤ i) (p0 : p_ZR nw (k)) (c0 : 0 ≤ i + (-1) * k + (-1440)) (c1 : 0 ≤ k + (-1) * i + 1440) (c2 : 0 ≤ k) (c3 : 0 ≤ (-1) * k + 359) (c4 : 0 ≤ z) (c5 : 0 ≤ (-1) * z) : p_ZR (m_upo 1440 360 nw i z) (k + 1) := by
  rw [m_upo_e (p := k) (by omega) (by omega) (by omega)]
  intro j a b c
  by_cases e : j = k
  · rw [m_up_at e]; omega
  · rw [m_up_ne e]; exact p0 j a (by omega) c
theorem k_cz {rn : Int} {bb : Int → Int} {nw : Int → Int} {ww : Int → Int} (hrn : 0 ≤ rn ∧ rn ≤ 900) (hbb : ∀ i, -128 ≤ bb i ∧ bb i ≤ 127) {N s k : Int} (p0 : p_ZR nw (k)) (p1 : p_NXR bb rn (N)) (c0 : 0 ≤ k + (-360)) (c1 : 0 ≤ N + (-1024) * s) (c2 : 0 ≤ 1024 * s + (-1) * N) (c3 : 0 ≤ s) (c4 : 0 ≤ (-1) * s + 900) : p_CFR bb rn nw ww (s) := by
  obtain ⟨e1, q1, x1, n1, n2, n3, n4, n5⟩ := p1
  obtain ⟨rfl, rfl⟩ : e1 = 0 ∧ q1 = s := by omega
  have z := fun j h0 h1 => p0 j h0 (show j < k by omega) h1
  refine ⟨0, q1, 0, 0, 0, m_W0, (by unfold m_pk; omega), Or.inl ⟨by decide, 0, by rw [n5]; rfl⟩, ⟨⟨z 2 (by decide) (by decide), z 3 (by decide) (by decide), z 4 (by decide) (by decide), z 5 (by decide) (by decide)⟩, fun k hk => absurd hk (Nat.not_lt_zero k), fun k hk => absurd hk (Nat.not_lt_zero k), fun k hk => absurd hk (Nat.not_lt_zero k), fun k hk => absurd hk (Nat.not_lt_zero k), fun i hi => z i (by omega) (by omega)⟩, fun h => absurd h (by decide), ⟨fun h => absurd h (by decide), fun h => absurd h (by decide), fun h => absurd h (by unfold m_ps; decide), fun h => absurd h (by decide), fun h => absurd h (by decide)⟩⟩
theorem k_co1 {rn : Int} {bb : Int → Int} {nw : Int → Int} {ww : Int → Int} (hrn : 0 ≤ rn ∧ rn ≤ 900) (hbb : ∀ i, -128 ≤ bb i ∧ bb i ≤ 127) {i z F s Y : Int} (i1 : 0 ≤ i) (p0 : p_CFP bb rn nw ww (F)) (c0 : 0 ≤ F + (-1) * s + (-65536) * Y + (-2048)) (c1 : 0 ≤ s + 65536 * Y + (-1) * F + 2048) (c2 : 0 ≤ i + (-1440)) (c3 : 0 ≤ (-1) * i + 1440) (c4 : 0 ≤ z + (-1) * Y) (c5 : 0 ≤ Y + (-1) * z) (c6 : 0 ≤ z) (c7 : 0 ≤ (-1) * z + 65535) (c8 : 0 ≤ s) (c9 : 0 ≤ (-1) * s + 900) (c10 : 0 ≤ Y) (c11 : 0 ≤ (-1) * Y + 4294967295) : p_CFR bb rn (m_upo 1440 360 nw i z) ww (F) := by
  obtain ⟨st, s1, r1, r2, np, W, pk, cf, wr, ro, ⟨x1, x2, x3⟩⟩ := p0
  unfold m_pk at pk
  obtain rfl : s1 = s := by omega
  obtain rfl : st = 2 := by omega
  obtain ⟨⟨i1, i2, i3, i4, i5⟩, -, i8, i9, i10, i11, i12⟩ := (show m_icx 2 r1 W from m_cf_i cf (by decide))
  obtain ⟨b1, b2, b3, b4⟩ := wr.1
  have d1 := m_ln_0 (m_wcs W)
  have d2 := m_ln_0 (m_wms W)
  have d3 := m_ln_0 (m_wss W)
  have d4 := m_ln_0 (m_wfs W)
  rw [m_upo_e (p := 0) (by omega) (by omega) (by omega)]
  exact ⟨2, s1, r1, r2, np, W, (by unfold m_pk; omega), cf, m_wr_up wr ⟨by omega, by omega, by omega, by omega, by omega, by omega⟩ (fun k hk => by unfold m_ln at *; omega) (fun k hk => by unfold m_ln at *; constructor <;> omega) (fun k hk => by unfold m_ln at *; constructor <;> omega) (fun k hk => by unfold m_ln at *; constructor <;> omega), fun h => absurd h (by decide), fun _ => by rw [m_up_at rfl]; omega, fun h => absurd h (by decide), fun h => absurd h (by unfold m_ps; decide), fun h => absurd h (by decide), fun h => absurd h (by decide)⟩
theorem k_co2 {rn : Int} {bb : Int → Int} {nw : Int → Int} {ww : Int → Int} (hrn : 0 ≤ rn ∧ rn ≤ 900) (hbb : ∀ i, -128 ≤ bb i ∧ bb i ≤ 127) {i z F s Y : Int} (i1 : 0 ≤ i) (p0 : p_CFP bb rn nw ww (F)) (c0 : 0 ≤ F + (-1) * s + (-65536) * Y + (-4096)) (c1 : 0 ≤ s + 65536 * Y + (-1) * F + 4096) (c2 : 0 ≤ i + (-1441)) (c3 : 0 ≤ (-1) * i + 1441) (c4 : 0 ≤ Y + (-65536) * z) (c5 : 0 ≤ (-1) * Y + 65536 * z + 65535) (c6 : 0 ≤ z) (c7 : 0 ≤ (-1) * z + 65535) (c8 : 0 ≤ s) (c9 : 0 ≤ (-1) * s + 900) (c10 : 0 ≤ Y) (c11 : 0 ≤ (-1) * Y + 4294967295) : p_CFR bb rn (m_upo 1440 360 nw i z) ww (F) := by
  obtain ⟨st, s1, r1, r2, np, W, pk, cf, wr, ro, ⟨x1, x2, x3⟩⟩ := p0
  unfold m_pk at pk
  obtain rfl : s1 = s := by omega
  obtain rfl : st = 4 := by omega
  obtain ⟨⟨i1, i2, i3, i4, i5⟩, -, i8, i9, i10, i11, i12⟩ := (show m_icx 4 r1 W from m_cf_i cf (by decide))
  obtain ⟨b1, b2, b3, b4⟩ := wr.1
  have d1 := m_ln_0 (m_wcs W)
  have d2 := m_ln_0 (m_wms W)
  have d3 := m_ln_0 (m_wss W)
  have d4 := m_ln_0 (m_wfs W)
  have y5 := x1 rfl
  rw [m_upo_e (p := 1) (by omega) (by omega) (by omega)]
  exact ⟨4, s1, r1, r2, np, W, (by unfold m_pk; omega), cf, m_wr_up wr ⟨by omega, by omega, by omega, by omega, by omega, by omega⟩ (fun k hk => by unfold m_ln at *; omega) (fun k hk => by unfold m_ln at *; constructor <;> omega) (fun k hk => by unfold m_ln at *; constructor <;> omega) (fun k hk => by unfold m_ln at *; constructor <;> omega), fun h => absurd h (by decide), fun _ => by rw [m_up_ne (by decide)]; exact y5, fun _ => by rw [m_up_at rfl]; omega, fun h => absurd h (by unfold m_ps; decide), fun h => absurd h (by decide), fun h => absurd h (by decide)⟩
theorem k_co3 {rn : Int} {bb : Int → Int} {nw : Int → Int} {ww : Int → Int} (hrn : 0 ≤ rn ∧ rn ≤ 900) (hbb : ∀ i, -128 ≤ bb i ∧ bb i ≤ 127) {F s Y : Int} (p0 : p_CFR bb rn nw ww (F)) (c0 : 0 ≤ F + (-1) * s + (-65536) * Y + (-4096)) (c1 : 0 ≤ s + 65536 * Y + (-1) * F + 4096) (c2 : 0 ≤ s) (c3 : 0 ≤ (-1) * s + 900) (c4 : 0 ≤ Y) (c5 : 0 ≤ (-1) * Y + 4294967295) : p_CFAR bb rn nw ww (F) := by
  obtain ⟨st, s1, r1, r2, np, W, pk, cf, wr, ro, ⟨x1, x2, x3, x4, x5⟩⟩ := p0
  unfold m_pk at pk
  obtain rfl : s1 = s := by omega
  obtain rfl : st = 4 := by omega
  exact ⟨4, s1, r1, r2, np, W, (by unfold m_pk; omega), cf, by decide, wr, fun _ => ⟨x1 (by decide), x2 rfl⟩⟩
theorem k_npr5 {rn : Int} {rk : Int} {rs : Int} {rq : Int} {rv : Int} {rl : Int} {bb : Int → Int} {nw : Int → Int} {ww : Int → Int} (hrn : 0 ≤ rn ∧ rn ≤ 900) (hrk : 0 ≤ rk ∧ rk ≤ 4) (hrs : 0 ≤ rs ∧ rs ≤ 900) (hrq : 0 ≤ rq ∧ rq ≤ 900) (hbb : ∀ i, -128 ≤ bb i ∧ bb i ≤ 127) {F G s q kk : Int} (p0 : p_CFR bb rn nw ww (F)) (p1 : p_NIR bb rn (G)) (p2 : p_CUR bb rn rk rs rq rv rl (s)) (p3 : kk = rk) (p4 : q = rq) (c0 : 0 ≤ F + (-1) * s + (-5120)) (c1 : 0 ≤ s + (-1) * F + 5120) (c2 : 0 ≤ G + (-1099511627776) * s + (-117099109)) (c3 : 0 ≤ 1099511627776 * s + (-1) * G + 117099109) (c4 : 0 ≤ kk + (-1)) (c5 : 0 ≤ s) (c6 : 0 ≤ (-1) * s + 900) : p_CFR bb rn nw ww (s + 26624) := by
  obtain ⟨w0, s0, y1, y2, y3, y4, hw⟩ := p1
  obtain rfl : s0 = s := by omega
  obtain rfl : w0 = 117099109 := by omega
  obtain ⟨st, s1, r1, r2, np, W, pk, cf, wr, ro, ⟨x1, x2, x3, x4, x5⟩⟩ := p0
  unfold m_pk at pk
  obtain rfl : s1 = s0 := by omega
  obtain rfl : st = 5 := by omega
  obtain ⟨uA, u0, u1, u2, u3, u4, u5, u6, u7, u8, u9⟩ := p2
  obtain rfl : r1 = 0 := by omega
  obtain rfl : r2 = 0 := by omega
  refine ⟨26, s1, 0, 0, np, W, (by unfold m_pk; omega), ?_, wr, fun _ => ro (by decide), ⟨fun h => absurd h (by decide), fun h => absurd h (by decide), fun h => absurd h (by unfold m_ps; decide), fun h => absurd h (by decide), fun h => absurd h (by decide)⟩⟩
  rcases cf with ⟨q1, cf⟩ | ⟨q1, q2, q3, cf, q4, q5, q6, q7, q8⟩
  · exact Or.inr ⟨by decide, rfl, rfl, cf, by omega, hw, fun h => absurd h (by decide), fun h => absurd h (by decide), fun h => absurd h (by decide)⟩
  · omega
theorem k_npr26 {rn : Int} {rk : Int} {rs : Int} {rq : Int} {rv : Int} {rl : Int} {bb : Int → Int} {nw : Int → Int} {ww : Int → Int} (hrn : 0 ≤ rn ∧ rn ≤ 900) (hrk : 0 ≤ rk ∧ rk ≤ 4) (hrs : 0 ≤ rs ∧ rs ≤ 900) (hrq : 0 ≤ rq ∧ rq ≤ 900) (hbb : ∀ i, -128 ≤ bb i ∧ bb i ≤ 127) {F G s q kk : Int} (p0 : p_CFR bb rn nw ww (F)) (p1 : p_NIR bb rn (G)) (p2 : p_CUR bb rn rk rs rq rv rl (s)) (p3 : kk = rk) (p4 : q = rq) (c0 : 0 ≤ F + (-1) * s + (-26624)) (c1 : 0 ≤ s + (-1) * F + 26624) (c2 : 0 ≤ G + (-1099511627776) * s + (-13684206)) (c3 : 0 ≤ 1099511627776 * s + (-1) * G + 13684206) (c4 : 0 ≤ kk + (-1)) (c5 : 0 ≤ s) (c6 : 0 ≤ (-1) * s + 900) : p_CFR bb rn nw ww (s + 27648) := by
  obtain ⟨w0, s0, y1, y2, y3, y4, hw⟩ := p1
  obtain rfl : s0 = s := by omega
  obtain rfl : w0 = 13684206 := by omega
  obtain ⟨st, s1, r1, r2, np, W, pk, cf, wr, ro, ⟨x1, x2, x3, x4, x5⟩⟩ := p0
  unfold m_pk at pk
  obtain rfl : s1 = s0 := by omega
  obtain rfl : st = 26 := by omega
  obtain ⟨uA, u0, u1, u2, u3, u4, u5, u6, u7, u8, u9⟩ := p2
  obtain rfl : r1 = 0 := by omega
  obtain rfl : r2 = 0 := by omega
  refine ⟨27, s1, 0, 0, np, W, (by unfold m_pk; omega), ?_, wr, fun _ => ro (by decide), ⟨fun h => absurd h (by decide), fun h => absurd h (by decide), fun h => absurd h (by unfold m_ps; decide), fun h => absurd h (by decide), fun h => absurd h (by decide)⟩⟩
  rcases cf with ⟨q1, cf⟩ | ⟨q1, q2, q3, cf, q4, q5, q6, q7, q8⟩
  · omega
  · exact Or.inr ⟨by decide, rfl, rfl, cf, q4, q5, fun _ => hw, fun h => absurd h (by decide), fun h => absurd h (by decide)⟩
theorem k_npr27 {rn : Int} {rk : Int} {rs : Int} {rq : Int} {rv : Int} {rl : Int} {bb : Int → Int} {nw : Int → Int} {ww : Int → Int} (hrn : 0 ≤ rn ∧ rn ≤ 900) (hrk : 0 ≤ rk ∧ rk ≤ 4) (hrs : 0 ≤ rs ∧ rs ≤ 900) (hrq : 0 ≤ rq ∧ rq ≤ 900) (hbb : ∀ i, -128 ≤ bb i ∧ bb i ≤ 127) {F G s q kk : Int} (p0 : p_CFR bb rn nw ww (F)) (p1 : p_NIR bb rn (G)) (p2 : p_CUR bb rn rk rs rq rv rl (s)) (p3 : kk = rk) (p4 : q = rq) (c0 : 0 ≤ F + (-1) * s + (-27648)) (c1 : 0 ≤ s + (-1) * F + 27648) (c2 : 0 ≤ G + (-1099511627776) * s + (-635184)) (c3 : 0 ≤ 1099511627776 * s + (-1) * G + 635184) (c4 : 0 ≤ kk + (-1)) (c5 : 0 ≤ s) (c6 : 0 ≤ (-1) * s + 900) : p_CFR bb rn nw ww (s + 28672) := by
  obtain ⟨w0, s0, y1, y2, y3, y4, hw⟩ := p1
  obtain rfl : s0 = s := by omega
  obtain rfl : w0 = 635184 := by omega
  obtain ⟨st, s1, r1, r2, np, W, pk, cf, wr, ro, ⟨x1, x2, x3, x4, x5⟩⟩ := p0
  unfold m_pk at pk
  obtain rfl : s1 = s0 := by omega
  obtain rfl : st = 27 := by omega
  obtain ⟨uA, u0, u1, u2, u3, u4, u5, u6, u7, u8, u9⟩ := p2
  obtain rfl : r1 = 0 := by omega
  obtain rfl : r2 = 0 := by omega
  refine ⟨28, s1, 0, 0, np, W, (by unfold m_pk; omega), ?_, wr, fun _ => ro (by decide), ⟨fun h => absurd h (by decide), fun h => absurd h (by decide), fun h => absurd h (by unfold m_ps; decide), fun h => absurd h (by decide), fun h => absurd h (by decide)⟩⟩
  rcases cf with ⟨q1, cf⟩ | ⟨q1, q2, q3, cf, q4, q5, q6, q7, q8⟩
  · omega
  · exact Or.inr ⟨by decide, rfl, rfl, cf, q4, q5, fun _ => q6 (by decide), fun _ => hw, fun h => absurd h (by decide)⟩
theorem k_npr28 {rn : Int} {rk : Int} {rs : Int} {rq : Int} {rv : Int} {rl : Int} {bb : Int → Int} {nw : Int → Int} {ww : Int → Int} (hrn : 0 ≤ rn ∧ rn ≤ 900) (hrk : 0 ≤ rk ∧ rk ≤ 4) (hrs : 0 ≤ rs ∧ rs ≤ 900) (hrq : 0 ≤ rq ∧ rq ≤ 900) (hbb : ∀ i, -128 ≤ bb i ∧ bb i ≤ 127) {F G s q kk : Int} (p0 : p_CFR bb rn nw ww (F)) (p1 : p_NIR bb rn (G)) (p2 : p_CUR bb rn rk rs rq rv rl (s)) (p3 : kk = rk) (p4 : q = rq) (c0 : 0 ≤ F + (-1) * s + (-28672)) (c1 : 0 ≤ s + (-1) * F + 28672) (c2 : 0 ≤ G + (-1099511627776) * s + (-206276)) (c3 : 0 ≤ 1099511627776 * s + (-1) * G + 206276) (c4 : 0 ≤ kk + (-1)) (c5 : 0 ≤ s) (c6 : 0 ≤ (-1) * s + 900) : p_CFR bb rn nw ww (s + 29696) := by
  obtain ⟨w0, s0, y1, y2, y3, y4, hw⟩ := p1
  obtain rfl : s0 = s := by omega
  obtain rfl : w0 = 206276 := by omega
  obtain ⟨st, s1, r1, r2, np, W, pk, cf, wr, ro, ⟨x1, x2, x3, x4, x5⟩⟩ := p0
  unfold m_pk at pk
  obtain rfl : s1 = s0 := by omega
  obtain rfl : st = 28 := by omega
  obtain ⟨uA, u0, u1, u2, u3, u4, u5, u6, u7, u8, u9⟩ := p2
  obtain rfl : r1 = 0 := by omega
  obtain rfl : r2 = 0 := by omega
  refine ⟨29, s1, 0, 0, np, W, (by unfold m_pk; omega), ?_, wr, fun _ => ro (by decide), ⟨fun h => absurd h (by decide), fun h => absurd h (by decide), fun h => absurd h (by unfold m_ps; decide), fun h => absurd h (by decide), fun h => absurd h (by decide)⟩⟩
  rcases cf with ⟨q1, cf⟩ | ⟨q1, q2, q3, cf, q4, q5, q6, q7, q8⟩
  · omega
  · exact Or.inr ⟨by decide, rfl, rfl, cf, q4, q5, fun _ => q6 (by decide), fun _ => q7 (by decide), fun _ => hw⟩
theorem k_mpra {rn : Int} {rk : Int} {rs : Int} {rq : Int} {rv : Int} {rl : Int} {bb : Int → Int} {nw : Int → Int} {ww : Int → Int} (hrn : 0 ≤ rn ∧ rn ≤ 900) (hrk : 0 ≤ rk ∧ rk ≤ 4) (hrs : 0 ≤ rs ∧ rs ≤ 900) (hrq : 0 ≤ rq ∧ rq ≤ 900) (hbb : ∀ i, -128 ≤ bb i ∧ bb i ≤ 127) {F s q kk : Int} (p0 : p_CFR bb rn nw ww (F)) (p1 : p_CUR bb rn rk rs rq rv rl (s)) (p2 : kk = rk) (p3 : q = rq) (c0 : 0 ≤ F + (-1) * s + (-29696)) (c1 : 0 ≤ s + (-1) * F + 29696) (c2 : 0 ≤ kk + (-4)) (c3 : 0 ≤ s) (c4 : 0 ≤ (-1) * s + 900) : p_HFR bb rn (8 * s + 1) := by
  obtain ⟨st, s1, r1, r2, np, W, pk, cf, wr, ro, ⟨x1, x2, x3, x4, x5⟩⟩ := p0
  unfold m_pk at pk
  obtain rfl : s1 = s := by omega
  obtain rfl : st = 29 := by omega
  obtain ⟨uA, u0, u1, u2, u3, u4, u5, u6, u7, u8, u9⟩ := p1
  rcases cf with ⟨q1, cf⟩ | ⟨q1, q2, q3, cf, q4, q5, q6, q7, q8⟩
  · omega
  · have AT := m_at_s cf
    rw [show m_stp bb rn (5, s1, 0, 0, np, W) = m_prt bb rn s1 W from rfl, m_prt_n q4 q5 (q6 (by decide)) (q7 (by decide)) (q8 (by decide))] at AT
    exact ⟨1, s1, by omega, by omega, by omega, m_mp1 AT (by omega)⟩
theorem k_mprc {rn : Int} {rk : Int} {rs : Int} {rq : Int} {rv : Int} {rl : Int} {bb : Int → Int} {nw : Int → Int} {ww : Int → Int} (hrn : 0 ≤ rn ∧ rn ≤ 900) (hrk : 0 ≤ rk ∧ rk ≤ 4) (hrs : 0 ≤ rs ∧ rs ≤ 900) (hrq : 0 ≤ rq ∧ rq ≤ 900) (hbb : ∀ i, -128 ≤ bb i ∧ bb i ≤ 127) {F s q kk : Int} (p0 : p_CFR bb rn nw ww (F)) (p1 : p_CUR bb rn rk rs rq rv rl (s)) (p2 : kk = rk) (p3 : q = rq) (c0 : 0 ≤ F + (-1) * s + (-29696)) (c1 : 0 ≤ s + (-1) * F + 29696) (c2 : 0 ≤ kk + (-1)) (c3 : 0 ≤ (-1) * kk + 3) (c4 : 0 ≤ s) (c5 : 0 ≤ (-1) * s + 900) : p_HFR bb rn (8 * s + 2) := by
  obtain ⟨st, s1, r1, r2, np, W, pk, cf, wr, ro, ⟨x1, x2, x3, x4, x5⟩⟩ := p0
  unfold m_pk at pk
  obtain rfl : s1 = s := by omega
  obtain rfl : st = 29 := by omega
  obtain ⟨uA, u0, u1, u2, u3, u4, u5, u6, u7, u8, u9⟩ := p1
  rcases cf with ⟨q1, cf⟩ | ⟨q1, q2, q3, cf, q4, q5, q6, q7, q8⟩
  · omega
  · have AT := m_at_s cf
    rw [show m_stp bb rn (5, s1, 0, 0, np, W) = m_prt bb rn s1 W from rfl, m_prt_n q4 q5 (q6 (by decide)) (q7 (by decide)) (q8 (by decide))] at AT
    exact ⟨2, s1, by omega, by omega, by omega, m_mp2 AT (by omega)⟩
theorem k_dnw {rn : Int} {rk : Int} {rs : Int} {rq : Int} {rv : Int} {rl : Int} {bb : Int → Int} {nw : Int → Int} {ww : Int → Int} (hrn : 0 ≤ rn ∧ rn ≤ 900) (hrk : 0 ≤ rk ∧ rk ≤ 4) (hrs : 0 ≤ rs ∧ rs ≤ 900) (hrq : 0 ≤ rq ∧ rq ≤ 900) (hbb : ∀ i, -128 ≤ bb i ∧ bb i ≤ 127) {F s q kk : Int} (p0 : p_CFR bb rn nw ww (F)) (p1 : p_CUR bb rn rk rs rq rv rl (s)) (p2 : kk = rk) (p3 : q = rq) (c0 : 0 ≤ F + (-1) * s + (-5120)) (c1 : 0 ≤ s + (-1) * F + 5120) (c2 : 0 ≤ kk) (c3 : 0 ≤ (-1) * kk) (c4 : 0 ≤ s) (c5 : 0 ≤ (-1) * s + 900) : p_DNW bb rn nw ww (0) := by
  obtain ⟨st, s1, r1, r2, np, W, pk, cf, wr, ro, ⟨x1, x2, x3, x4, x5⟩⟩ := p0
  unfold m_pk at pk
  obtain rfl : s1 = s := by omega
  obtain rfl : st = 5 := by omega
  obtain ⟨uA, u0, u1, u2, u3, u4, u5, u6, u7, u8, u9⟩ := p1
  have AT := m_cf_a cf (by decide)
  rw [show m_stp bb rn (5, s1, r1, r2, np, W) = m_prt bb rn s1 W from rfl] at AT
  unfold m_prt at AT
  rw [if_pos (by omega)] at AT
  exact ⟨W, AT, wr, fun _ => ro (by decide)⟩
theorem k_ldc {nw : Int → Int} {i z k : Int} (znw : 0 ≤ i - 1440 → i - 1440 < 360 → nw (i - 1440) = z) (c0 : 0 ≤ i + (-1) * k + (-1440)) (c1 : 0 ≤ k + (-1) * i + 1440) (c2 : 0 ≤ k) (c3 : 0 ≤ (-1) * k + 359) (c4 : 0 ≤ z + 2147483648) (c5 : 0 ≤ (-1) * z + 2147483647) : p_LDC nw (k + 512 * z + 1099511627776) := by
  have hz := znw (by omega) (by omega)
  rw [show i - 1440 = k by omega] at hz
  exact ⟨k, z, by omega, by omega, by omega, by omega, by omega, hz⟩
theorem k_cpw0 {nw : Int → Int} {bk : Int → Int} : p_CPW bk nw (0) := by
  exact fun j a b c => by omega
theorem k_cpw1 {nw : Int → Int} {bk : Int → Int} {i z k : Int} (i1 : 0 ≤ i) (p0 : p_CPW bk nw (k)) (p1 : p_LDC nw (k + 512 * z + 1099511627776)) (c0 : 0 ≤ i + (-1) * k) (c1 : 0 ≤ k + (-1) * i) (c2 : 0 ≤ k) (c3 : 0 ≤ (-1) * k + 359) (c4 : 0 ≤ z + 2147483648) (c5 : 0 ≤ (-1) * z + 2147483647) : p_CPW (m_upo 0 360 bk i z) (m_upo 1440 360 nw i z) (k + 1) := by
  obtain ⟨k1, z1, e1, g1, g2, g3, g4, g5⟩ := p1
  obtain ⟨rfl, rfl⟩ : k1 = k ∧ z1 = z := by omega
  rw [m_upo_e (p := k1) (by omega) (by omega) (by omega), m_upo_n (off := 1440) (by omega)]
  intro j a b c
  by_cases e : j = k1
  · rw [m_up_at e, e, g5]
  · rw [m_up_ne e]; exact p0 j a (by omega) c
theorem k_wdxa {rn : Int} {rk : Int} {rs : Int} {rq : Int} {rv : Int} {rl : Int} {bb : Int → Int} (hrn : 0 ≤ rn ∧ rn ≤ 900) (hrk : 0 ≤ rk ∧ rk ≤ 4) (hrs : 0 ≤ rs ∧ rs ≤ 900) (hrq : 0 ≤ rq ∧ rq ≤ 900) (hbb : ∀ i, -128 ≤ bb i ∧ bb i ≤ 127) {s q kk w : Int} (p0 : p_CUR bb rn rk rs rq rv rl (s)) (p1 : kk = rk) (p2 : q = rq) (c0 : 0 ≤ (-1) * kk) (c1 : 0 ≤ s) : p_WDR bb rn (s + 1024 * w + 1024) := by
  obtain ⟨uA, u0, u1, u2, u3, u4, u5, u6, u7, u8, u9⟩ := p0
  exact ⟨s, w, by omega, by omega, by omega, fun h => by omega⟩
theorem k_wdxb {rn : Int} {rk : Int} {rs : Int} {rq : Int} {rv : Int} {rl : Int} {bb : Int → Int} (hrn : 0 ≤ rn ∧ rn ≤ 900) (hrk : 0 ≤ rk ∧ rk ≤ 4) (hrs : 0 ≤ rs ∧ rs ≤ 900) (hrq : 0 ≤ rq ∧ rq ≤ 900) (hbb : ∀ i, -128 ≤ bb i ∧ bb i ≤ 127) {s q kk w : Int} (p0 : p_CUR bb rn rk rs rq rv rl (s)) (p1 : kk = rk) (p2 : q = rq) (c0 : 0 ≤ kk + (-2)) (c1 : 0 ≤ s) : p_WDR bb rn (s + 1024 * w + 1024) := by
  obtain ⟨uA, u0, u1, u2, u3, u4, u5, u6, u7, u8, u9⟩ := p0
  exact ⟨s, w, by omega, by omega, by omega, fun h => by omega⟩
theorem k_shr0 {v k y : Int} (i6 : (k = 0 → y = v) ∧ (k = 8 → y = v / 256) ∧ (k = 16 → y = v / 65536) ∧ (k = 24 → y = v / 16777216)) (c0 : 0 ≤ v + 2147483648) (c1 : 0 ≤ (-1) * v + 2147483647) (c2 : 0 ≤ y + 2147483648) (c3 : 0 ≤ (-1) * y + 2147483647) (c4 : 0 ≤ k) (c5 : 0 ≤ (-1) * k) : p_SHR (v + 4294967296 * y + 9223372039002259456) := by
  obtain rfl : k = 0 := by omega
  exact ⟨v, y, 0, by omega, by omega, by omega, by omega, by omega, fun h => i6.1 rfl, fun h => absurd h (by decide), fun h => absurd h (by decide), fun h => absurd h (by decide)⟩
theorem k_cvb0 {y z v : Int} (i3 : z = m_w8 y) (p0 : p_SHR (v + 4294967296 * y + 9223372039002259456)) (c0 : 0 ≤ v + 2147483648) (c1 : 0 ≤ (-1) * v + 2147483647) (c2 : 0 ≤ y + 2147483648) (c3 : 0 ≤ (-1) * y + 2147483647) (c4 : 0 ≤ z + 128) (c5 : 0 ≤ (-1) * z + 127) : p_CVB (v + 4294967296 * z + 551903297536) := by
  obtain ⟨v1, y1, k1, e1, a1, a2, a3, a4, b1, b2, b3, b4⟩ := p0
  obtain ⟨rfl, rfl, rfl⟩ : v1 = v ∧ y1 = y ∧ k1 = 0 := by omega
  exact ⟨v1, z, 0, by omega, by omega, by omega, by omega, by omega, fun h => by rw [i3, b1 rfl], fun h => absurd h (by decide), fun h => absurd h (by decide), fun h => absurd h (by decide)⟩
theorem k_shr8 {v k y : Int} (i6 : (k = 0 → y = v) ∧ (k = 8 → y = v / 256) ∧ (k = 16 → y = v / 65536) ∧ (k = 24 → y = v / 16777216)) (c0 : 0 ≤ v + 2147483648) (c1 : 0 ≤ (-1) * v + 2147483647) (c2 : 0 ≤ y + 2147483648) (c3 : 0 ≤ (-1) * y + 2147483647) (c4 : 0 ≤ k + (-8)) (c5 : 0 ≤ (-1) * k + 8) : p_SHR (v + 4294967296 * y + 156797324628678672384) := by
  obtain rfl : k = 8 := by omega
  exact ⟨v, y, 8, by omega, by omega, by omega, by omega, by omega, fun h => absurd h (by decide), fun h => i6.2.1 rfl, fun h => absurd h (by decide), fun h => absurd h (by decide)⟩
theorem k_cvb8 {y z v : Int} (i3 : z = m_w8 y) (p0 : p_SHR (v + 4294967296 * y + 156797324628678672384)) (c0 : 0 ≤ v + 2147483648) (c1 : 0 ≤ (-1) * v + 2147483647) (c2 : 0 ≤ y + 2147483648) (c3 : 0 ≤ (-1) * y + 2147483647) (c4 : 0 ≤ z + 128) (c5 : 0 ≤ (-1) * z + 127) : p_CVB (v + 4294967296 * z + 9347996319744) := by
  obtain ⟨v1, y1, k1, e1, a1, a2, a3, a4, b1, b2, b3, b4⟩ := p0
  obtain ⟨rfl, rfl, rfl⟩ : v1 = v ∧ y1 = y ∧ k1 = 8 := by omega
  exact ⟨v1, z, 8, by omega, by omega, by omega, by omega, by omega, fun h => absurd h (by decide), fun h => by rw [i3, b2 rfl], fun h => absurd h (by decide), fun h => absurd h (by decide)⟩
theorem k_shr16 {v k y : Int} (i6 : (k = 0 → y = v) ∧ (k = 8 → y = v / 256) ∧ (k = 16 → y = v / 65536) ∧ (k = 24 → y = v / 16777216)) (c0 : 0 ≤ v + 2147483648) (c1 : 0 ≤ (-1) * v + 2147483647) (c2 : 0 ≤ y + 2147483648) (c3 : 0 ≤ (-1) * y + 2147483647) (c4 : 0 ≤ k + (-16)) (c5 : 0 ≤ (-1) * k + 16) : p_SHR (v + 4294967296 * y + 304371277218355085312) := by
  obtain rfl : k = 16 := by omega
  exact ⟨v, y, 16, by omega, by omega, by omega, by omega, by omega, fun h => absurd h (by decide), fun h => absurd h (by decide), fun h => i6.2.2.1 rfl, fun h => absurd h (by decide)⟩
theorem k_cvb16 {y z v : Int} (i3 : z = m_w8 y) (p0 : p_SHR (v + 4294967296 * y + 304371277218355085312)) (c0 : 0 ≤ v + 2147483648) (c1 : 0 ≤ (-1) * v + 2147483647) (c2 : 0 ≤ y + 2147483648) (c3 : 0 ≤ (-1) * y + 2147483647) (c4 : 0 ≤ z + 128) (c5 : 0 ≤ (-1) * z + 127) : p_CVB (v + 4294967296 * z + 18144089341952) := by
  obtain ⟨v1, y1, k1, e1, a1, a2, a3, a4, b1, b2, b3, b4⟩ := p0
  obtain ⟨rfl, rfl, rfl⟩ : v1 = v ∧ y1 = y ∧ k1 = 16 := by omega
  exact ⟨v1, z, 16, by omega, by omega, by omega, by omega, by omega, fun h => absurd h (by decide), fun h => absurd h (by decide), fun h => by rw [i3, b3 rfl], fun h => absurd h (by decide)⟩
theorem k_shr24 {v k y : Int} (i6 : (k = 0 → y = v) ∧ (k = 8 → y = v / 256) ∧ (k = 16 → y = v / 65536) ∧ (k = 24 → y = v / 16777216)) (c0 : 0 ≤ v + 2147483648) (c1 : 0 ≤ (-1) * v + 2147483647) (c2 : 0 ≤ y + 2147483648) (c3 : 0 ≤ (-1) * y + 2147483647) (c4 : 0 ≤ k + (-24)) (c5 : 0 ≤ (-1) * k + 24) : p_SHR (v + 4294967296 * y + 451945229808031498240) := by
  obtain rfl : k = 24 := by omega
  exact ⟨v, y, 24, by omega, by omega, by omega, by omega, by omega, fun h => absurd h (by decide), fun h => absurd h (by decide), fun h => absurd h (by decide), fun h => i6.2.2.2 rfl⟩
theorem k_cvb24 {y z v : Int} (i3 : z = m_w8 y) (p0 : p_SHR (v + 4294967296 * y + 451945229808031498240)) (c0 : 0 ≤ v + 2147483648) (c1 : 0 ≤ (-1) * v + 2147483647) (c2 : 0 ≤ y + 2147483648) (c3 : 0 ≤ (-1) * y + 2147483647) (c4 : 0 ≤ z + 128) (c5 : 0 ≤ (-1) * z + 127) : p_CVB (v + 4294967296 * z + 26940182364160) := by
  obtain ⟨v1, y1, k1, e1, a1, a2, a3, a4, b1, b2, b3, b4⟩ := p0
  obtain ⟨rfl, rfl, rfl⟩ : v1 = v ∧ y1 = y ∧ k1 = 24 := by omega
  exact ⟨v1, z, 24, by omega, by omega, by omega, by omega, by omega, fun h => absurd h (by decide), fun h => absurd h (by decide), fun h => absurd h (by decide), fun h => by rw [i3, b4 rfl]⟩
theorem k_ab03 {ba : Int → Int} (hba : ∀ i, -128 ≤ ba i ∧ ba i ≤ 127) {x v D : Int} (p0 : p_TB3 ba (x + 1024 * D)) (c0 : 0 ≤ v + 2147483648) (c1 : 0 ≤ (-1) * v + 2147483647) (c2 : 0 ≤ x) (c3 : 0 ≤ (-1) * x + 900) (c4 : 0 ≤ D) : p_AB3 ba (x + 8192 * v + 70368744177664 * D + 17592186044416) := by
  obtain ⟨k, D1, e, a1, a2⟩ := p0
  obtain rfl : D1 = D := by omega
  obtain rfl : x = 4 * k := by omega
  exact ⟨k, 0, v, D1, by omega, a1, by omega, by omega, by omega, by omega, a2, fun h => by omega, fun h => by omega, fun h => by omega, fun h => by omega⟩
theorem k_abs30 {ba : Int → Int} (hba : ∀ i, -128 ≤ ba i ∧ ba i ≤ 127) {j z v D : Int} (i1 : 0 ≤ j) (i2 : j < 900) (p0 : p_AB3 ba (j + 8192 * v + 70368744177664 * D + 17592186044416)) (p1 : p_CVB (v + 4294967296 * z + 26940182364160)) (c0 : 0 ≤ v + 2147483648) (c1 : 0 ≤ (-1) * v + 2147483647) (c2 : 0 ≤ j) (c3 : 0 ≤ (-1) * j + 899) (c4 : 0 ≤ D) (c5 : 0 ≤ z + 128) (c6 : 0 ≤ (-1) * z + 127) : p_AB3 (m_up ba j z) (j + 8192 * v + 70368744177664 * D + 17592186045440) := by
  obtain ⟨k, i0, v1, D1, e, a1, a2, a3, a4, a5, a6, b1, b2, b3, b4⟩ := p0
  obtain ⟨v9, z9, k9, e9, d1, d2, d3, d4, f1, f2, f3, f4⟩ := p1
  obtain rfl : k9 = 24 := by omega
  obtain rfl : z9 = z := by omega
  obtain rfl : v9 = v := by omega
  obtain rfl : D1 = D := by omega
  obtain rfl : v1 = v9 := by omega
  obtain rfl : i0 = 0 := by omega
  obtain hj : j = 4 * (k : Int) + 0 := by omega
  have hz := f4 rfl
  exact ⟨k, 0 + 1, v1, D1, by omega, a1, by omega, by omega, by omega, by omega, by rw [m_dg_up (by omega)]; exact a6, fun h => by rw [m_up_at (by omega)]; exact hz, fun h => absurd h (by omega), fun h => absurd h (by omega), fun h => absurd h (by omega)⟩
theorem k_abs31 {ba : Int → Int} (hba : ∀ i, -128 ≤ ba i ∧ ba i ≤ 127) {j z v D : Int} (i1 : 0 ≤ j) (i2 : j < 900) (p0 : p_AB3 ba (j + 8192 * v + 70368744177664 * D + 17592186045439)) (p1 : p_CVB (v + 4294967296 * z + 18144089341952)) (c0 : 0 ≤ v + 2147483648) (c1 : 0 ≤ (-1) * v + 2147483647) (c2 : 0 ≤ j + (-1)) (c3 : 0 ≤ (-1) * j + 899) (c4 : 0 ≤ D) (c5 : 0 ≤ z + 128) (c6 : 0 ≤ (-1) * z + 127) : p_AB3 (m_up ba j z) (j + 8192 * v + 70368744177664 * D + 17592186046463) := by
  obtain ⟨k, i0, v1, D1, e, a1, a2, a3, a4, a5, a6, b1, b2, b3, b4⟩ := p0
  obtain ⟨v9, z9, k9, e9, d1, d2, d3, d4, f1, f2, f3, f4⟩ := p1
  obtain rfl : k9 = 16 := by omega
  obtain rfl : z9 = z := by omega
  obtain rfl : v9 = v := by omega
  obtain rfl : D1 = D := by omega
  obtain rfl : v1 = v9 := by omega
  obtain rfl : i0 = 1 := by omega
  obtain hj : j = 4 * (k : Int) + 1 := by omega
  have hz := f3 rfl
  exact ⟨k, 1 + 1, v1, D1, by omega, a1, by omega, by omega, by omega, by omega, by rw [m_dg_up (by omega)]; exact a6, fun h => by rw [m_up_ne (by omega)]; exact b1 (by omega), fun h => by rw [m_up_at (by omega)]; exact hz, fun h => absurd h (by omega), fun h => absurd h (by omega)⟩
theorem k_abs32 {ba : Int → Int} (hba : ∀ i, -128 ≤ ba i ∧ ba i ≤ 127) {j z v D : Int} (i1 : 0 ≤ j) (i2 : j < 900) (p0 : p_AB3 ba (j + 8192 * v + 70368744177664 * D + 17592186046462)) (p1 : p_CVB (v + 4294967296 * z + 9347996319744)) (c0 : 0 ≤ v + 2147483648) (c1 : 0 ≤ (-1) * v + 2147483647) (c2 : 0 ≤ j + (-2)) (c3 : 0 ≤ (-1) * j + 899) (c4 : 0 ≤ D) (c5 : 0 ≤ z + 128) (c6 : 0 ≤ (-1) * z + 127) : p_AB3 (m_up ba j z) (j + 8192 * v + 70368744177664 * D + 17592186047486) := by
  obtain ⟨k, i0, v1, D1, e, a1, a2, a3, a4, a5, a6, b1, b2, b3, b4⟩ := p0
  obtain ⟨v9, z9, k9, e9, d1, d2, d3, d4, f1, f2, f3, f4⟩ := p1
  obtain rfl : k9 = 8 := by omega
  obtain rfl : z9 = z := by omega
  obtain rfl : v9 = v := by omega
  obtain rfl : D1 = D := by omega
  obtain rfl : v1 = v9 := by omega
  obtain rfl : i0 = 2 := by omega
  obtain hj : j = 4 * (k : Int) + 2 := by omega
  have hz := f2 rfl
  exact ⟨k, 2 + 1, v1, D1, by omega, a1, by omega, by omega, by omega, by omega, by rw [m_dg_up (by omega)]; exact a6, fun h => by rw [m_up_ne (by omega)]; exact b1 (by omega), fun h => by rw [m_up_ne (by omega)]; exact b2 (by omega), fun h => by rw [m_up_at (by omega)]; exact hz, fun h => absurd h (by omega)⟩
theorem k_abs33 {ba : Int → Int} (hba : ∀ i, -128 ≤ ba i ∧ ba i ≤ 127) {j z v D : Int} (i1 : 0 ≤ j) (i2 : j < 900) (p0 : p_AB3 ba (j + 8192 * v + 70368744177664 * D + 17592186047485)) (p1 : p_CVB (v + 4294967296 * z + 551903297536)) (c0 : 0 ≤ v + 2147483648) (c1 : 0 ≤ (-1) * v + 2147483647) (c2 : 0 ≤ j + (-3)) (c3 : 0 ≤ (-1) * j + 899) (c4 : 0 ≤ D) (c5 : 0 ≤ z + 128) (c6 : 0 ≤ (-1) * z + 127) : p_AB3 (m_up ba j z) (j + 8192 * v + 70368744177664 * D + 17592186048509) := by
  obtain ⟨k, i0, v1, D1, e, a1, a2, a3, a4, a5, a6, b1, b2, b3, b4⟩ := p0
  obtain ⟨v9, z9, k9, e9, d1, d2, d3, d4, f1, f2, f3, f4⟩ := p1
  obtain rfl : k9 = 0 := by omega
  obtain rfl : z9 = z := by omega
  obtain rfl : v9 = v := by omega
  obtain rfl : D1 = D := by omega
  obtain rfl : v1 = v9 := by omega
  obtain rfl : i0 = 3 := by omega
  obtain hj : j = 4 * (k : Int) + 3 := by omega
  have hz := f1 rfl
  exact ⟨k, 3 + 1, v1, D1, by omega, a1, by omega, by omega, by omega, by omega, by rw [m_dg_up (by omega)]; exact a6, fun h => by rw [m_up_ne (by omega)]; exact b1 (by omega), fun h => by rw [m_up_ne (by omega)]; exact b2 (by omega), fun h => by rw [m_up_ne (by omega)]; exact b3 (by omega), fun h => by rw [m_up_at (by omega)]; exact hz⟩
theorem k_abt3 {ba : Int → Int} (hba : ∀ i, -128 ≤ ba i ∧ ba i ≤ 127) {x v D : Int} (p0 : p_AB3 ba (x + 8192 * v + 70368744177664 * D + 17592186048508)) (c0 : 0 ≤ v + 2147483648) (c1 : 0 ≤ (-1) * v + 2147483647) (c2 : 0 ≤ x + (-4)) (c3 : 0 ≤ (-1) * x + 900) (c4 : 0 ≤ D) : p_TB3 ba (x + 4398046511104 * D + 1024 * v + 2199023255552) := by
  obtain ⟨k, i0, v1, D1, e, a1, a2, a3, a4, a5, a6, b1, b2, b3, b4⟩ := p0
  obtain rfl : D1 = D := by omega
  obtain rfl : v1 = v := by omega
  obtain rfl : i0 = 4 := by omega
  have hx : x = 4 * (k : Int) + 4 := by omega
  have g : m_w4 ba k = v1 + 2147483648 := m_w4_of a4 a5 (b1 (by omega)) (b2 (by omega)) (b3 (by omega)) (b4 (by omega))
  refine ⟨k + 1, 4294967296 * D1 + (v1 + 2147483648), by omega, by omega, ?_⟩
  show _ = 4294967296 * m_dgz ba k + m_w4 ba k
  rw [g, ← a6]
theorem k_abx3 {ba : Int → Int} (hba : ∀ i, -128 ≤ ba i ∧ ba i ≤ 127) {x v D : Int} (p0 : p_AB3 ba (x + 8192 * v + 70368744177664 * D + 17592186048508)) (c0 : 0 ≤ v + 2147483648) (c1 : 0 ≤ (-1) * v + 2147483647) (c2 : 0 ≤ x + (-4)) (c3 : 0 ≤ (-1) * x + 900) (c4 : 0 ≤ D) : p_XW (4294967296 * D + v + 2147483648) := by
  exact trivial
theorem k_tbb3a {ba : Int → Int} (hba : ∀ i, -128 ≤ ba i ∧ ba i ≤ 127) {x D : Int} (p0 : p_TB3 ba (x + 1024 * D)) (c0 : 0 ≤ x) (c1 : 0 ≤ (-1) * x + 900) : 0 ≤ (-1) * D + 173766203193809456599982445949435627061939786100117250547173286503262376022458008465094333630120854338003194362163007597987225472483598640843335685441710193966274131338557192586399006789292714554767500194796127964596906605976605873665859580600161998556511368530960400907199253450604168622770350228527124626728538626805418833470107651091641919900725415994689920112219170907023561354484047025713734651608777544579846111001059482132180956689444108315785401642188044178788629853592228467331730519810763559577944882016286493908631503101121166109571682295769470379514531105239965209245314082665518579335511291525230373316486697786532335206274149240813489201828773854353041855598709390675430960381072270432383913542702130202430186637321862331068861776780211082856984506050024895394320139435868484643843368002496089956046419964019877586845530207748994394501505588146979082629871366088121763790555364513243984244004147636040219136443410377798011608722717131323621700159335786445601947601694025107888293017058178562647175461026384343438874861406516767158373279032321096262126551620255666605185789463207944391905756886829667520553014724372245300878786091700563444079107099009003380230356461989260377273986023281444076082783406824471703499844642915587790146384758051663547775336021829171033411043796977042190519657861762804226147480755555085278062866268677842432851421790544407006581148631979148571299417963950579210719961422405768071335213324842709316205032078384168750091017964584060285240107161561019930505687950233196051962261970932008838279760834318101044311710769457048672103958655016388894770892065267451228938951370237422841366052736174160431593023473217066764172949768821843606479073866252864377064398085101223216558344281956767163876579889759124956035672317578122141070933058555310274598884089982879647974020264495921703064439532898207943134374576254840272047075633856749514044298135927611328433323640657533550512376900773273703275329924651465759145114579174356770593439987135755889403613364529029604049868233807295134382284730745937309910703657676103447124097631074153287120040247837143656624045055614076111832245239612708339272798262887437416818440064925049838443370805645609424314780108030016683461562597569371539974003402697903023830108053034645133078208043917492087248958344081026378788915528519967248989338592027124423914083391771884524464968645052058218151010508471258285907685355807229880747677634789376 := by
  obtain ⟨k, D1, e, a1, a2⟩ := p0
  obtain rfl : D1 = D := by omega
  have g := m_dg_900 173766203193809456599982445949435627061939786100117250547173286503262376022458008465094333630120854338003194362163007597987225472483598640843335685441710193966274131338557192586399006789292714554767500194796127964596906605976605873665859580600161998556511368530960400907199253450604168622770350228527124626728538626805418833470107651091641919900725415994689920112219170907023561354484047025713734651608777544579846111001059482132180956689444108315785401642188044178788629853592228467331730519810763559577944882016286493908631503101121166109571682295769470379514531105239965209245314082665518579335511291525230373316486697786532335206274149240813489201828773854353041855598709390675430960381072270432383913542702130202430186637321862331068861776780211082856984506050024895394320139435868484643843368002496089956046419964019877586845530207748994394501505588146979082629871366088121763790555364513243984244004147636040219136443410377798011608722717131323621700159335786445601947601694025107888293017058178562647175461026384343438874861406516767158373279032321096262126551620255666605185789463207944391905756886829667520553014724372245300878786091700563444079107099009003380230356461989260377273986023281444076082783406824471703499844642915587790146384758051663547775336021829171033411043796977042190519657861762804226147480755555085278062866268677842432851421790544407006581148631979148571299417963950579210719961422405768071335213324842709316205032078384168750091017964584060285240107161561019930505687950233196051962261970932008838279760834318101044311710769457048672103958655016388894770892065267451228938951370237422841366052736174160431593023473217066764172949768821843606479073866252864377064398085101223216558344281956767163876579889759124956035672317578122141070933058555310274598884089982879647974020264495921703064439532898207943134374576254840272047075633856749514044298135927611328433323640657533550512376900773273703275329924651465759145114579174356770593439987135755889403613364529029604049868233807295134382284730745937309910703657676103447124097631074153287120040247837143656624045055614076111832245239612708339272798262887437416818440064925049838443370805645609424314780108030016683461562597569371539974003402697903023830108053034645133078208043917492087248958344081026378788915528519967248989338592027124423914083391771884524464968645052058218151010508471258285907685355807229880747677634789376 (Nat.le_of_ble_eq_true rfl) hba a1
  rw [← a2] at g
  omega
theorem k_ab08 {bb : Int → Int} (hbb : ∀ i, -128 ≤ bb i ∧ bb i ≤ 127) {x v D : Int} (p0 : p_TB8 bb (x + 1024 * D)) (c0 : 0 ≤ v + 2147483648) (c1 : 0 ≤ (-1) * v + 2147483647) (c2 : 0 ≤ x) (c3 : 0 ≤ (-1) * x + 900) (c4 : 0 ≤ D) : p_AB8 bb (x + 8192 * v + 70368744177664 * D + 17592186044416) := by
  obtain ⟨k, D1, e, a1, a2⟩ := p0
  obtain rfl : D1 = D := by omega
  obtain rfl : x = 4 * k := by omega
  exact ⟨k, 0, v, D1, by omega, a1, by omega, by omega, by omega, by omega, a2, fun h => by omega, fun h => by omega, fun h => by omega, fun h => by omega⟩
theorem k_abs80 {bb : Int → Int} (hbb : ∀ i, -128 ≤ bb i ∧ bb i ≤ 127) {j z v D : Int} (i1 : 0 ≤ j) (i2 : j < 900) (p0 : p_AB8 bb (j + 8192 * v + 70368744177664 * D + 17592186044416)) (p1 : p_CVB (v + 4294967296 * z + 26940182364160)) (c0 : 0 ≤ v + 2147483648) (c1 : 0 ≤ (-1) * v + 2147483647) (c2 : 0 ≤ j) (c3 : 0 ≤ (-1) * j + 899) (c4 : 0 ≤ D) (c5 : 0 ≤ z + 128) (c6 : 0 ≤ (-1) * z + 127) : p_AB8 (m_up bb j z) (j + 8192 * v + 70368744177664 * D + 17592186045440) := by
  obtain ⟨k, i0, v1, D1, e, a1, a2, a3, a4, a5, a6, b1, b2, b3, b4⟩ := p0
  obtain ⟨v9, z9, k9, e9, d1, d2, d3, d4, f1, f2, f3, f4⟩ := p1
  obtain rfl : k9 = 24 := by omega
  obtain rfl : z9 = z := by omega
  obtain rfl : v9 = v := by omega
  obtain rfl : D1 = D := by omega
  obtain rfl : v1 = v9 := by omega
  obtain rfl : i0 = 0 := by omega
  obtain hj : j = 4 * (k : Int) + 0 := by omega
  have hz := f4 rfl
  exact ⟨k, 0 + 1, v1, D1, by omega, a1, by omega, by omega, by omega, by omega, by rw [m_dg_up (by omega)]; exact a6, fun h => by rw [m_up_at (by omega)]; exact hz, fun h => absurd h (by omega), fun h => absurd h (by omega), fun h => absurd h (by omega)⟩
theorem k_abs81 {bb : Int → Int} (hbb : ∀ i, -128 ≤ bb i ∧ bb i ≤ 127) {j z v D : Int} (i1 : 0 ≤ j) (i2 : j < 900) (p0 : p_AB8 bb (j + 8192 * v + 70368744177664 * D + 17592186045439)) (p1 : p_CVB (v + 4294967296 * z + 18144089341952)) (c0 : 0 ≤ v + 2147483648) (c1 : 0 ≤ (-1) * v + 2147483647) (c2 : 0 ≤ j + (-1)) (c3 : 0 ≤ (-1) * j + 899) (c4 : 0 ≤ D) (c5 : 0 ≤ z + 128) (c6 : 0 ≤ (-1) * z + 127) : p_AB8 (m_up bb j z) (j + 8192 * v + 70368744177664 * D + 17592186046463) := by
  obtain ⟨k, i0, v1, D1, e, a1, a2, a3, a4, a5, a6, b1, b2, b3, b4⟩ := p0
  obtain ⟨v9, z9, k9, e9, d1, d2, d3, d4, f1, f2, f3, f4⟩ := p1
  obtain rfl : k9 = 16 := by omega
  obtain rfl : z9 = z := by omega
  obtain rfl : v9 = v := by omega
  obtain rfl : D1 = D := by omega
  obtain rfl : v1 = v9 := by omega
  obtain rfl : i0 = 1 := by omega
  obtain hj : j = 4 * (k : Int) + 1 := by omega
  have hz := f3 rfl
  exact ⟨k, 1 + 1, v1, D1, by omega, a1, by omega, by omega, by omega, by omega, by rw [m_dg_up (by omega)]; exact a6, fun h => by rw [m_up_ne (by omega)]; exact b1 (by omega), fun h => by rw [m_up_at (by omega)]; exact hz, fun h => absurd h (by omega), fun h => absurd h (by omega)⟩
theorem k_abs82 {bb : Int → Int} (hbb : ∀ i, -128 ≤ bb i ∧ bb i ≤ 127) {j z v D : Int} (i1 : 0 ≤ j) (i2 : j < 900) (p0 : p_AB8 bb (j + 8192 * v + 70368744177664 * D + 17592186046462)) (p1 : p_CVB (v + 4294967296 * z + 9347996319744)) (c0 : 0 ≤ v + 2147483648) (c1 : 0 ≤ (-1) * v + 2147483647) (c2 : 0 ≤ j + (-2)) (c3 : 0 ≤ (-1) * j + 899) (c4 : 0 ≤ D) (c5 : 0 ≤ z + 128) (c6 : 0 ≤ (-1) * z + 127) : p_AB8 (m_up bb j z) (j + 8192 * v + 70368744177664 * D + 17592186047486) := by
  obtain ⟨k, i0, v1, D1, e, a1, a2, a3, a4, a5, a6, b1, b2, b3, b4⟩ := p0
  obtain ⟨v9, z9, k9, e9, d1, d2, d3, d4, f1, f2, f3, f4⟩ := p1
  obtain rfl : k9 = 8 := by omega
  obtain rfl : z9 = z := by omega
  obtain rfl : v9 = v := by omega
  obtain rfl : D1 = D := by omega
  obtain rfl : v1 = v9 := by omega
  obtain rfl : i0 = 2 := by omega
  obtain hj : j = 4 * (k : Int) + 2 := by omega
  have hz := f2 rfl
  exact ⟨k, 2 + 1, v1, D1, by omega, a1, by omega, by omega, by omega, by omega, by rw [m_dg_up (by omega)]; exact a6, fun h => by rw [m_up_ne (by omega)]; exact b1 (by omega), fun h => by rw [m_up_ne (by omega)]; exact b2 (by omega), fun h => by rw [m_up_at (by omega)]; exact hz, fun h => absurd h (by omega)⟩
theorem k_abs83 {bb : Int → Int} (hbb : ∀ i, -128 ≤ bb i ∧ bb i ≤ 127) {j z v D : Int} (i1 : 0 ≤ j) (i2 : j < 900) (p0 : p_AB8 bb (j + 8192 * v + 70368744177664 * D + 17592186047485)) (p1 : p_CVB (v + 4294967296 * z + 551903297536)) (c0 : 0 ≤ v + 2147483648) (c1 : 0 ≤ (-1) * v + 2147483647) (c2 : 0 ≤ j + (-3)) (c3 : 0 ≤ (-1) * j + 899) (c4 : 0 ≤ D) (c5 : 0 ≤ z + 128) (c6 : 0 ≤ (-1) * z + 127) : p_AB8 (m_up bb j z) (j + 8192 * v + 70368744177664 * D + 17592186048509) := by
  obtain ⟨k, i0, v1, D1, e, a1, a2, a3, a4, a5, a6, b1, b2, b3, b4⟩ := p0
  obtain ⟨v9, z9, k9, e9, d1, d2, d3, d4, f1, f2, f3, f4⟩ := p1
  obtain rfl : k9 = 0 := by omega
  obtain rfl : z9 = z := by omega
  obtain rfl : v9 = v := by omega
  obtain rfl : D1 = D := by omega
  obtain rfl : v1 = v9 := by omega
  obtain rfl : i0 = 3 := by omega
  obtain hj : j = 4 * (k : Int) + 3 := by omega
  have hz := f1 rfl
  exact ⟨k, 3 + 1, v1, D1, by omega, a1, by omega, by omega, by omega, by omega, by rw [m_dg_up (by omega)]; exact a6, fun h => by rw [m_up_ne (by omega)]; exact b1 (by omega), fun h => by rw [m_up_ne (by omega)]; exact b2 (by omega), fun h => by rw [m_up_ne (by omega)]; exact b3 (by omega), fun h => by rw [m_up_at (by omega)]; exact hz⟩
theorem k_abt8 {bb : Int → Int} (hbb : ∀ i, -128 ≤ bb i ∧ bb i ≤ 127) {x v D : Int} (p0 : p_AB8 bb (x + 8192 * v + 70368744177664 * D + 17592186048508)) (c0 : 0 ≤ v + 2147483648) (c1 : 0 ≤ (-1) * v + 2147483647) (c2 : 0 ≤ x + (-4)) (c3 : 0 ≤ (-1) * x + 900) (c4 : 0 ≤ D) : p_TB8 bb (x + 4398046511104 * D + 1024 * v + 2199023255552) := by
  obtain ⟨k, i0, v1, D1, e, a1, a2, a3, a4, a5, a6, b1, b2, b3, b4⟩ := p0
  obtain rfl : D1 = D := by omega
  obtain rfl : v1 = v := by omega
  obtain rfl : i0 = 4 := by omega
  have hx : x = 4 * (k : Int) + 4 := by omega
  have g : m_w4 bb k = v1 + 2147483648 := m_w4_of a4 a5 (b1 (by omega)) (b2 (by omega)) (b3 (by omega)) (b4 (by omega))
  refine ⟨k + 1, 4294967296 * D1 + (v1 + 2147483648), by omega, by omega, ?_⟩
  show _ = 4294967296 * m_dgz bb k + m_w4 bb k
  rw [g, ← a6]
theorem k_abx8 {bb : Int → Int} (hbb : ∀ i, -128 ≤ bb i ∧ bb i ≤ 127) {x v D : Int} (p0 : p_AB8 bb (x + 8192 * v + 70368744177664 * D + 17592186048508)) (c0 : 0 ≤ v + 2147483648) (c1 : 0 ≤ (-1) * v + 2147483647) (c2 : 0 ≤ x + (-4)) (c3 : 0 ≤ (-1) * x + 900) (c4 : 0 ≤ D) : p_XW (4294967296 * D + v + 2147483648) := by
  exact trivial
theorem k_tbb8a {bb : Int → Int} (hbb : ∀ i, -128 ≤ bb i ∧ bb i ≤ 127) {x D : Int} (p0 : p_TB8 bb (x + 1024 * D)) (c0 : 0 ≤ x) (c1 : 0 ≤ (-1) * x + 900) : 0 ≤ (-1) * D + 173766203193809456599982445949435627061939786100117250547173286503262376022458008465094333630120854338003194362163007597987225472483598640843335685441710193966274131338557192586399006789292714554767500194796127964596906605976605873665859580600161998556511368530960400907199253450604168622770350228527124626728538626805418833470107651091641919900725415994689920112219170907023561354484047025713734651608777544579846111001059482132180956689444108315785401642188044178788629853592228467331730519810763559577944882016286493908631503101121166109571682295769470379514531105239965209245314082665518579335511291525230373316486697786532335206274149240813489201828773854353041855598709390675430960381072270432383913542702130202430186637321862331068861776780211082856984506050024895394320139435868484643843368002496089956046419964019877586845530207748994394501505588146979082629871366088121763790555364513243984244004147636040219136443410377798011608722717131323621700159335786445601947601694025107888293017058178562647175461026384343438874861406516767158373279032321096262126551620255666605185789463207944391905756886829667520553014724372245300878786091700563444079107099009003380230356461989260377273986023281444076082783406824471703499844642915587790146384758051663547775336021829171033411043796977042190519657861762804226147480755555085278062866268677842432851421790544407006581148631979148571299417963950579210719961422405768071335213324842709316205032078384168750091017964584060285240107161561019930505687950233196051962261970932008838279760834318101044311710769457048672103958655016388894770892065267451228938951370237422841366052736174160431593023473217066764172949768821843606479073866252864377064398085101223216558344281956767163876579889759124956035672317578122141070933058555310274598884089982879647974020264495921703064439532898207943134374576254840272047075633856749514044298135927611328433323640657533550512376900773273703275329924651465759145114579174356770593439987135755889403613364529029604049868233807295134382284730745937309910703657676103447124097631074153287120040247837143656624045055614076111832245239612708339272798262887437416818440064925049838443370805645609424314780108030016683461562597569371539974003402697903023830108053034645133078208043917492087248958344081026378788915528519967248989338592027124423914083391771884524464968645052058218151010508471258285907685355807229880747677634789376 := by
  obtain ⟨k, D1, e, a1, a2⟩ := p0
  obtain rfl : D1 = D := by omega
  have g := m_dg_900 173766203193809456599982445949435627061939786100117250547173286503262376022458008465094333630120854338003194362163007597987225472483598640843335685441710193966274131338557192586399006789292714554767500194796127964596906605976605873665859580600161998556511368530960400907199253450604168622770350228527124626728538626805418833470107651091641919900725415994689920112219170907023561354484047025713734651608777544579846111001059482132180956689444108315785401642188044178788629853592228467331730519810763559577944882016286493908631503101121166109571682295769470379514531105239965209245314082665518579335511291525230373316486697786532335206274149240813489201828773854353041855598709390675430960381072270432383913542702130202430186637321862331068861776780211082856984506050024895394320139435868484643843368002496089956046419964019877586845530207748994394501505588146979082629871366088121763790555364513243984244004147636040219136443410377798011608722717131323621700159335786445601947601694025107888293017058178562647175461026384343438874861406516767158373279032321096262126551620255666605185789463207944391905756886829667520553014724372245300878786091700563444079107099009003380230356461989260377273986023281444076082783406824471703499844642915587790146384758051663547775336021829171033411043796977042190519657861762804226147480755555085278062866268677842432851421790544407006581148631979148571299417963950579210719961422405768071335213324842709316205032078384168750091017964584060285240107161561019930505687950233196051962261970932008838279760834318101044311710769457048672103958655016388894770892065267451228938951370237422841366052736174160431593023473217066764172949768821843606479073866252864377064398085101223216558344281956767163876579889759124956035672317578122141070933058555310274598884089982879647974020264495921703064439532898207943134374576254840272047075633856749514044298135927611328433323640657533550512376900773273703275329924651465759145114579174356770593439987135755889403613364529029604049868233807295134382284730745937309910703657676103447124097631074153287120040247837143656624045055614076111832245239612708339272798262887437416818440064925049838443370805645609424314780108030016683461562597569371539974003402697903023830108053034645133078208043917492087248958344081026378788915528519967248989338592027124423914083391771884524464968645052058218151010508471258285907685355807229880747677634789376 (Nat.le_of_ble_eq_true rfl) hbb a1
  rw [← a2] at g
  omega
theorem k_rsw {qn : Int} {wo : Int} {wf : Int} {wn : Int} {wc : Int} {wm : Int} {ws : Int} {wi : Int} {wl : Int} {ba : Int → Int} {xa : Int → Int} {xb : Int → Int} {xc : Int → Int} {xd : Int → Int} {xe : Int → Int} {xf : Int → Int} {xg : Int → Int} {xh : Int → Int} (hqn : 0 ≤ qn ∧ qn ≤ 900) (hwo : 2 ≤ wo ∧ wo ≤ 13) (hwf : 1 ≤ wf ∧ wf ≤ 13) (hwn : 0 ≤ wn ∧ wn ≤ 96) (hwc : 0 ≤ wc ∧ wc ≤ 6) (hwm : 0 ≤ wm ∧ wm ≤ 4) (hws : 0 ≤ ws ∧ ws ≤ 6) (hwi : 0 ≤ wi ∧ wi ≤ 8) (hba : ∀ i, -128 ≤ ba i ∧ ba i ≤ 127) (hxe : ∀ i, 0 ≤ xe i ∧ xe i ≤ 12) {n : Int} (p0 : p_WD ba qn wo wf wn wc wm ws wi wl xa xb xc xd xe xf xg xh (0)) (p1 : n = wn) : p_RSW ba qn (n) := by
  obtain ⟨W, AT, w1, -⟩ := p0
  exact ⟨W, AT, by rw [p1]; exact w1.1⟩
theorem k_cmf {qn : Int} {rn : Int} {ba : Int → Int} {bb : Int → Int} (hqn : 0 ≤ qn ∧ qn ≤ 900) (hrn : 0 ≤ rn ∧ rn ≤ 900) (hba : ∀ i, -128 ≤ ba i ∧ ba i ≤ 127) (hbb : ∀ i, -128 ≤ bb i ∧ bb i ≤ 127) {G r x D n : Int} (p0 : p_HFR bb rn (G)) (p1 : p_RSW ba qn (r)) (p2 : p_TB3 ba (x + 1024 * D)) (p3 : p_TB8 bb (x + 1024 * D)) (p4 : n = qn) (p5 : n = rn) (c0 : 0 ≤ x + (-1) * n) (c1 : 0 ≤ (-1) * x + 900) (c2 : 0 ≤ n) (c3 : 0 ≤ D) : 0 ≤ (-1) := by
  obtain ⟨f1, k1, e1, a1, a2, q2⟩ := p0
  obtain ⟨W, q1, e2⟩ := p1
  have cg := m_tb_cg hba hbb p2 p3 c0 c1 c2
  rw [p4] at cg
  have hn : rn = qn := by omega
  rw [hn] at q2
  cases m_at_one cg q1 q2
theorem k_cmg {qn : Int} {rn : Int} {ba : Int → Int} {bb : Int → Int} {nw : Int → Int} {ww : Int → Int} (hqn : 0 ≤ qn ∧ qn ≤ 900) (hrn : 0 ≤ rn ∧ rn ≤ 900) (hba : ∀ i, -128 ≤ ba i ∧ ba i ≤ 127) (hbb : ∀ i, -128 ≤ bb i ∧ bb i ≤ 127) {F x D n : Int} (p0 : p_HF ba qn (F)) (p1 : p_DNW bb rn nw ww (0)) (p2 : p_TB3 ba (x + 1024 * D)) (p3 : p_TB8 bb (x + 1024 * D)) (p4 : n = qn) (p5 : n = rn) (c0 : 0 ≤ x + (-1) * n) (c1 : 0 ≤ (-1) * x + 900) (c2 : 0 ≤ n) (c3 : 0 ≤ D) : 0 ≤ (-1) := by
  obtain ⟨f1, k1, e1, a1, a2, q1⟩ := p0
  obtain ⟨W, q2, e2⟩ := p1
  have cg := m_tb_cg hba hbb p2 p3 c0 c1 c2
  rw [p4] at cg
  have hn : rn = qn := by omega
  rw [hn] at q2
  cases m_at_one cg q1 q2
theorem k_ceqa {qn : Int} {rn : Int} {ba : Int → Int} {bb : Int → Int} (hqn : 0 ≤ qn ∧ qn ≤ 900) (hrn : 0 ≤ rn ∧ rn ≤ 900) (hba : ∀ i, -128 ≤ ba i ∧ ba i ≤ 127) (hbb : ∀ i, -128 ≤ bb i ∧ bb i ≤ 127) {k p l q x D n : Int} (p0 : p_HF ba qn (k + 8 * p)) (p1 : p_HFR bb rn (l + 8 * q)) (p2 : p_TB3 ba (x + 1024 * D)) (p3 : p_TB8 bb (x + 1024 * D)) (p4 : n = qn) (p5 : n = rn) (c0 : 0 ≤ x + (-1) * n) (c1 : 0 ≤ (-1) * x + 900) (c2 : 0 ≤ n) (c3 : 0 ≤ D) (c4 : 0 ≤ k) (c5 : 0 ≤ (-1) * k + 7) (c6 : 0 ≤ l) (c7 : 0 ≤ (-1) * l + 7) : 0 ≤ k + (-1) * l := by
  obtain ⟨f1, k1, e1, a1, a2, q1⟩ := p0
  obtain ⟨f2, k2, e2, a3, a4, q2⟩ := p1
  have cg := m_tb_cg hba hbb p2 p3 c0 c1 c2
  rw [p4] at cg
  have hn : rn = qn := by omega
  rw [hn] at q2
  have := m_at_one cg q1 q2
  injection this with h
  injection h with h1 h2
  omega
theorem k_ceqb {qn : Int} {rn : Int} {ba : Int → Int} {bb : Int → Int} (hqn : 0 ≤ qn ∧ qn ≤ 900) (hrn : 0 ≤ rn ∧ rn ≤ 900) (hba : ∀ i, -128 ≤ ba i ∧ ba i ≤ 127) (hbb : ∀ i, -128 ≤ bb i ∧ bb i ≤ 127) {k p l q x D n : Int} (p0 : p_HF ba qn (k + 8 * p)) (p1 : p_HFR bb rn (l + 8 * q)) (p2 : p_TB3 ba (x + 1024 * D)) (p3 : p_TB8 bb (x + 1024 * D)) (p4 : n = qn) (p5 : n = rn) (c0 : 0 ≤ x + (-1) * n) (c1 : 0 ≤ (-1) * x + 900) (c2 : 0 ≤ n) (c3 : 0 ≤ D) (c4 : 0 ≤ k) (c5 : 0 ≤ (-1) * k + 7) (c6 : 0 ≤ l) (c7 : 0 ≤ (-1) * l + 7) : 0 ≤ l + (-1) * k := by
  obtain ⟨f1, k1, e1, a1, a2, q1⟩ := p0
  obtain ⟨f2, k2, e2, a3, a4, q2⟩ := p1
  have cg := m_tb_cg hba hbb p2 p3 c0 c1 c2
  rw [p4] at cg
  have hn : rn = qn := by omega
  rw [hn] at q2
  have := m_at_one cg q1 q2
  injection this with h
  injection h with h1 h2
  omega
theorem k_ceqc {qn : Int} {rn : Int} {ba : Int → Int} {bb : Int → Int} (hqn : 0 ≤ qn ∧ qn ≤ 900) (hrn : 0 ≤ rn ∧ rn ≤ 900) (hba : ∀ i, -128 ≤ ba i ∧ ba i ≤ 127) (hbb : ∀ i, -128 ≤ bb i ∧ bb i ≤ 127) {k p l q x D n : Int} (p0 : p_HF ba qn (k + 8 * p)) (p1 : p_HFR bb rn (l + 8 * q)) (p2 : p_TB3 ba (x + 1024 * D)) (p3 : p_TB8 bb (x + 1024 * D)) (p4 : n = qn) (p5 : n = rn) (c0 : 0 ≤ x + (-1) * n) (c1 : 0 ≤ (-1) * x + 900) (c2 : 0 ≤ n) (c3 : 0 ≤ D) (c4 : 0 ≤ k) (c5 : 0 ≤ (-1) * k + 7) (c6 : 0 ≤ l) (c7 : 0 ≤ (-1) * l + 7) : 0 ≤ p + (-1) * q := by
  obtain ⟨f1, k1, e1, a1, a2, q1⟩ := p0
  obtain ⟨f2, k2, e2, a3, a4, q2⟩ := p1
  have cg := m_tb_cg hba hbb p2 p3 c0 c1 c2
  rw [p4] at cg
  have hn : rn = qn := by omega
  rw [hn] at q2
  have := m_at_one cg q1 q2
  injection this with h
  injection h with h1 h2
  omega
theorem k_ceqd {qn : Int} {rn : Int} {ba : Int → Int} {bb : Int → Int} (hqn : 0 ≤ qn ∧ qn ≤ 900) (hrn : 0 ≤ rn ∧ rn ≤ 900) (hba : ∀ i, -128 ≤ ba i ∧ ba i ≤ 127) (hbb : ∀ i, -128 ≤ bb i ∧ bb i ≤ 127) {k p l q x D n : Int} (p0 : p_HF ba qn (k + 8 * p)) (p1 : p_HFR bb rn (l + 8 * q)) (p2 : p_TB3 ba (x + 1024 * D)) (p3 : p_TB8 bb (x + 1024 * D)) (p4 : n = qn) (p5 : n = rn) (c0 : 0 ≤ x + (-1) * n) (c1 : 0 ≤ (-1) * x + 900) (c2 : 0 ≤ n) (c3 : 0 ≤ D) (c4 : 0 ≤ k) (c5 : 0 ≤ (-1) * k + 7) (c6 : 0 ≤ l) (c7 : 0 ≤ (-1) * l + 7) : 0 ≤ q + (-1) * p := by
  obtain ⟨f1, k1, e1, a1, a2, q1⟩ := p0
  obtain ⟨f2, k2, e2, a3, a4, q2⟩ := p1
  have cg := m_tb_cg hba hbb p2 p3 c0 c1 c2
  rw [p4] at cg
  have hn : rn = qn := by omega
  rw [hn] at q2
  have := m_at_one cg q1 q2
  injection this with h
  injection h with h1 h2
  omega
theorem k_cesa {nc : Int} {cs : Int → Int} {qn : Int} {rn : Int} {ba : Int → Int} {bb : Int → Int} {nw : Int → Int} {ww : Int → Int} {bk : Int → Int} (hnc : 0 ≤ nc ∧ nc ≤ 6) (hcs : ∀ i, 0 ≤ cs i ∧ cs i ≤ 16) (hqn : 0 ≤ qn ∧ qn ≤ 900) (hrn : 0 ≤ rn ∧ rn ≤ 900) (hba : ∀ i, -128 ≤ ba i ∧ ba i ≤ 127) (hbb : ∀ i, -128 ≤ bb i ∧ bb i ≤ 127) (lnc : nc = bk 2) (lcs : ∀ i, 0 ≤ i → i < 6 → cs i = bk (7 + i)) {r m x D n : Int} (p0 : p_CPW bk nw (360)) (p1 : p_DNW bb rn nw ww (0)) (p2 : p_NS nc cs (m)) (p3 : p_RSW ba qn (r)) (p4 : p_TB3 ba (x + 1024 * D)) (p5 : p_TB8 bb (x + 1024 * D)) (p6 : n = qn) (p7 : n = rn) (c0 : 0 ≤ x + (-1) * n) (c1 : 0 ≤ (-1) * x + 900) (c2 : 0 ≤ n) (c3 : 0 ≤ D) : 0 ≤ r + (-1) * m := by
  obtain ⟨W2, q2, e1, e2⟩ := p1
  obtain ⟨W, q1, e3⟩ := p3
  have cg := m_tb_cg hba hbb p4 p5 c0 c1 c2
  rw [p6] at cg
  have hn : rn = qn := by omega
  rw [hn] at q2 e1
  have hW := m_at_one cg q1 q2
  injection hW with hW
  have ht := m_wr_tot e1
  have h2 := p0 2 (by omega) (by omega) (by omega)
  have hs : m_N nc cs = m_sum (fun j => nw (7 + j)) (nw 2).toNat := by
    unfold m_N
    rw [lnc, h2]
    refine m_sum_ext _ fun i hi => ?_
    have hi2 : (i : Int) < nc := by omega
    rw [lcs i (by omega) (by omega)]
    exact p0 (7 + i) (by omega) (by omega) (by omega)
  rw [show m = m_N nc cs from p2, hs, ht, e3, hW]
  omega
theorem k_cesb {nc : Int} {cs : Int → Int} {qn : Int} {rn : Int} {ba : Int → Int} {bb : Int → Int} {nw : Int → Int} {ww : Int → Int} {bk : Int → Int} (hnc : 0 ≤ nc ∧ nc ≤ 6) (hcs : ∀ i, 0 ≤ cs i ∧ cs i ≤ 16) (hqn : 0 ≤ qn ∧ qn ≤ 900) (hrn : 0 ≤ rn ∧ rn ≤ 900) (hba : ∀ i, -128 ≤ ba i ∧ ba i ≤ 127) (hbb : ∀ i, -128 ≤ bb i ∧ bb i ≤ 127) (lnc : nc = bk 2) (lcs : ∀ i, 0 ≤ i → i < 6 → cs i = bk (7 + i)) {r m x D n : Int} (p0 : p_CPW bk nw (360)) (p1 : p_DNW bb rn nw ww (0)) (p2 : p_NS nc cs (m)) (p3 : p_RSW ba qn (r)) (p4 : p_TB3 ba (x + 1024 * D)) (p5 : p_TB8 bb (x + 1024 * D)) (p6 : n = qn) (p7 : n = rn) (c0 : 0 ≤ x + (-1) * n) (c1 : 0 ≤ (-1) * x + 900) (c2 : 0 ≤ n) (c3 : 0 ≤ D) : 0 ≤ m + (-1) * r := by
  obtain ⟨W2, q2, e1, e2⟩ := p1
  obtain ⟨W, q1, e3⟩ := p3
  have cg := m_tb_cg hba hbb p4 p5 c0 c1 c2
  rw [p6] at cg
  have hn : rn = qn := by omega
  rw [hn] at q2 e1
  have hW := m_at_one cg q1 q2
  injection hW with hW
  have ht := m_wr_tot e1
  have h2 := p0 2 (by omega) (by omega) (by omega)
  have hs : m_N nc cs = m_sum (fun j => nw (7 + j)) (nw 2).toNat := by
    unfold m_N
    rw [lnc, h2]
    refine m_sum_ext _ fun i hi => ?_
    have hi2 : (i : Int) < nc := by omega
    rw [lcs i (by omega) (by omega)]
    exact p0 (7 + i) (by omega) (by omega) (by omega)
  rw [show m = m_N nc cs from p2, hs, ht, e3, hW]
  omega
theorem k_cpwe {nw : Int → Int} {bk : Int → Int} {k : Int} (p0 : p_CPW bk nw (k)) (c0 : 0 ≤ k + (-360)) : p_CPW bk nw (360) := by
  exact fun j a b c => p0 j a (by omega) c
theorem k_tb03 {ba : Int → Int} (hba : ∀ i, -128 ≤ ba i ∧ ba i ≤ 127) : p_TB3 ba (1024) := by
  exact ⟨0, 1, by omega, by omega, rfl⟩
theorem k_tb08 {bb : Int → Int} (hbb : ∀ i, -128 ≤ bb i ∧ bb i ≤ 127) : p_TB8 bb (1024) := by
  exact ⟨0, 1, by omega, by omega, rfl⟩
theorem k_xwc0 : p_XW (0) := by
  exact trivial
theorem k_xwc493192 : p_XW (493192) := by
  exact trivial
theorem k_xwc215533 : p_XW (215533) := by
  exact trivial
theorem k_xwc52 : p_XW (52) := by
  exact trivial
theorem k_xwc89 : p_XW (89) := by
  exact trivial
theorem k_xwc824370 : p_XW (824370) := by
  exact trivial
theorem k_xwc395059 : p_XW (395059) := by
  exact trivial
theorem k_xwc3657363 : p_XW (3657363) := by
  exact trivial
theorem k_xwc117099109 : p_XW (117099109) := by
  exact trivial
theorem k_xwc13684206 : p_XW (13684206) := by
  exact trivial
theorem k_xwc635184 : p_XW (635184) := by
  exact trivial
theorem k_xwc206276 : p_XW (206276) := by
  exact trivial
theorem k_xwc1 : p_XW (1) := by
  exact trivial
