-- 67d1.core: the counts' rules in numbers (printed by wip/p5/gen68.py)
theorem k_mqmark2 {yo : Int} {yn : Int} {yk : Int → Int} {yl : Int → Int} {yo2 : Int} {yn2 : Int} {yk2 : Int → Int} {yl2 : Int → Int} (hyo : 2 ≤ yo ∧ yo ≤ 13) (hyn : 0 ≤ yn ∧ yn ≤ 96) (hyk : ∀ i, 0 ≤ yk i ∧ yk i ≤ 13) (hyl : ∀ i, 0 ≤ yl i ∧ yl i ≤ 13) (hyo2 : 2 ≤ yo2 ∧ yo2 ≤ 13) (hyn2 : 0 ≤ yn2 ∧ yn2 ≤ 96) {o n : Int} (p0 : p_AE16_506 yk yk2 (0)) (p1 : p_AE17_507 yl yl2 (0)) (p2 : o = yo) (p3 : o = yo2) (p4 : n = yn) (p5 : n = yn2) : p_MK2 yo yn yk yl yo2 yn2 yk2 yl2 (0) := by
  exact ⟨by omega, by omega, p0, p1⟩
theorem k_mqback2 {yo : Int} {yn : Int} {yk : Int → Int} {yl : Int → Int} {yo2 : Int} {yn2 : Int} {yk2 : Int → Int} {yl2 : Int → Int} (hyo : 2 ≤ yo ∧ yo ≤ 13) (hyn : 0 ≤ yn ∧ yn ≤ 96) (hyk : ∀ i, 0 ≤ yk i ∧ yk i ≤ 13) (hyl : ∀ i, 0 ≤ yl i ∧ yl i ≤ 13) (hyo2 : 2 ≤ yo2 ∧ yo2 ≤ 13) (hyn2 : 0 ≤ yn2 ∧ yn2 ≤ 96) {o n : Int} (p0 : p_AE506_16 yk yk2 (0)) (p1 : p_AE507_17 yl yl2 (0)) (p2 : o = yo2) (p3 : o = yo) (p4 : n = yn2) (p5 : n = yn) : p_MK2 yo yn yk yl yo2 yn2 yk2 yl2 (0) := by
  exact ⟨by omega, by omega, fun i a b => (p0 i a b).symm, fun i a b => (p1 i a b).symm⟩
theorem k_tm2 {bk : Int → Int} {yo : Int} {yn : Int} {yk : Int → Int} {yl : Int → Int} {yo2 : Int} {yn2 : Int} {yk2 : Int → Int} {yl2 : Int → Int} {cA : Int → Int} {cB : Int → Int} {cA2 : Int → Int} {cB2 : Int → Int} {bk2 : Int → Int} (hyo : 2 ≤ yo ∧ yo ≤ 13) (hyn : 0 ≤ yn ∧ yn ≤ 96) (hyk : ∀ i, 0 ≤ yk i ∧ yk i ≤ 13) (hyl : ∀ i, 0 ≤ yl i ∧ yl i ≤ 13) (hyo2 : 2 ≤ yo2 ∧ yo2 ≤ 13) (hyn2 : 0 ≤ yn2 ∧ yn2 ≤ 96) (lcA : ∀ i, 0 ≤ i → i < 6 → cA i = bk (0 + i)) (lcB : ∀ i, 0 ≤ i → i < 42 → cB i = bk (7 + i)) (lcA2 : ∀ i, 0 ≤ i → i < 6 → cA2 i = bk2 (0 + i)) (lcB2 : ∀ i, 0 ≤ i → i < 42 → cB2 i = bk2 (7 + i)) (p0 : p_TC0 yo yn yk yl cA cB (0)) (p1 : p_MK2 yo yn yk yl yo2 yn2 yk2 yl2 (0)) (p2 : p_CB02 bk bk2 (360)) : p_TC2 yo2 yn2 yk2 yl2 cA2 cB2 (0) := by
  exact m_TC_ext p0 p1.1 p1.2.1 p1.2.2.1 p1.2.2.2 (fun i a b => by rw [lcA2 i a b, lcA i a b]; exact p2 (0 + i) (by omega) (by omega) (by omega)) (fun i a b => by rw [lcB2 i a b, lcB i a b]; exact p2 (7 + i) (by omega) (by omega) (by omega)) hyn.2
theorem k_tb2 {bk : Int → Int} {yo : Int} {yn : Int} {yk : Int → Int} {yl : Int → Int} {yo2 : Int} {yn2 : Int} {yk2 : Int → Int} {yl2 : Int → Int} {cA : Int → Int} {cB : Int → Int} {cA2 : Int → Int} {cB2 : Int → Int} {bk2 : Int → Int} (hyo : 2 ≤ yo ∧ yo ≤ 13) (hyn : 0 ≤ yn ∧ yn ≤ 96) (hyk : ∀ i, 0 ≤ yk i ∧ yk i ≤ 13) (hyl : ∀ i, 0 ≤ yl i ∧ yl i ≤ 13) (hyo2 : 2 ≤ yo2 ∧ yo2 ≤ 13) (hyn2 : 0 ≤ yn2 ∧ yn2 ≤ 96) (lcA : ∀ i, 0 ≤ i → i < 6 → cA i = bk (0 + i)) (lcB : ∀ i, 0 ≤ i → i < 42 → cB i = bk (7 + i)) (lcA2 : ∀ i, 0 ≤ i → i < 6 → cA2 i = bk2 (0 + i)) (lcB2 : ∀ i, 0 ≤ i → i < 42 → cB2 i = bk2 (7 + i)) (p0 : p_TC2 yo2 yn2 yk2 yl2 cA2 cB2 (0)) (p1 : p_MK2 yo yn yk yl yo2 yn2 yk2 yl2 (0)) (p2 : p_CB20 bk bk2 (360)) : p_TC0 yo yn yk yl cA cB (0) := by
  exact m_TC_ext p0 p1.1.symm p1.2.1.symm (fun i a b => (p1.2.2.1 i a b).symm) (fun i a b => (p1.2.2.2 i a b).symm) (fun i a b => by rw [lcA2 i a b, lcA i a b]; exact p2 (0 + i) (by omega) (by omega) (by omega)) (fun i a b => by rw [lcB2 i a b, lcB i a b]; exact p2 (7 + i) (by omega) (by omega) (by omega)) hyn2.2
theorem k_mqmark3 {yo : Int} {yn : Int} {yk : Int → Int} {yl : Int → Int} {yo3 : Int} {yn3 : Int} {yk3 : Int → Int} {yl3 : Int → Int} (hyo : 2 ≤ yo ∧ yo ≤ 13) (hyn : 0 ≤ yn ∧ yn ≤ 96) (hyk : ∀ i, 0 ≤ yk i ∧ yk i ≤ 13) (hyl : ∀ i, 0 ≤ yl i ∧ yl i ≤ 13) (hyo3 : 2 ≤ yo3 ∧ yo3 ≤ 13) (hyn3 : 0 ≤ yn3 ∧ yn3 ≤ 96) {o n : Int} (p0 : p_AE16_526 yk yk3 (0)) (p1 : p_AE17_527 yl yl3 (0)) (p2 : o = yo) (p3 : o = yo3) (p4 : n = yn) (p5 : n = yn3) : p_MK3 yo yn yk yl yo3 yn3 yk3 yl3 (0) := by
  exact ⟨by omega, by omega, p0, p1⟩
theorem k_mqback3 {yo : Int} {yn : Int} {yk : Int → Int} {yl : Int → Int} {yo3 : Int} {yn3 : Int} {yk3 : Int → Int} {yl3 : Int → Int} (hyo : 2 ≤ yo ∧ yo ≤ 13) (hyn : 0 ≤ yn ∧ yn ≤ 96) (hyk : ∀ i, 0 ≤ yk i ∧ yk i ≤ 13) (hyl : ∀ i, 0 ≤ yl i ∧ yl i ≤ 13) (hyo3 : 2 ≤ yo3 ∧ yo3 ≤ 13) (hyn3 : 0 ≤ yn3 ∧ yn3 ≤ 96) {o n : Int} (p0 : p_AE526_16 yk yk3 (0)) (p1 : p_AE527_17 yl yl3 (0)) (p2 : o = yo3) (p3 : o = yo) (p4 : n = yn3) (p5 : n = yn) : p_MK3 yo yn yk yl yo3 yn3 yk3 yl3 (0) := by
  exact ⟨by omega, by omega, fun i a b => (p0 i a b).symm, fun i a b => (p1 i a b).symm⟩
theorem k_tm3 {bk : Int → Int} {yo : Int} {yn : Int} {yk : Int → Int} {yl : Int → Int} {yo3 : Int} {yn3 : Int} {yk3 : Int → Int} {yl3 : Int → Int} {cA : Int → Int} {cB : Int → Int} {cA3 : Int → Int} {cB3 : Int → Int} {bk3 : Int → Int} (hyo : 2 ≤ yo ∧ yo ≤ 13) (hyn : 0 ≤ yn ∧ yn ≤ 96) (hyk : ∀ i, 0 ≤ yk i ∧ yk i ≤ 13) (hyl : ∀ i, 0 ≤ yl i ∧ yl i ≤ 13) (hyo3 : 2 ≤ yo3 ∧ yo3 ≤ 13) (hyn3 : 0 ≤ yn3 ∧ yn3 ≤ 96) (lcA : ∀ i, 0 ≤ i → i < 6 → cA i = bk (0 + i)) (lcB : ∀ i, 0 ≤ i → i < 42 → cB i = bk (7 + i)) (lcA3 : ∀ i, 0 ≤ i → i < 6 → cA3 i = bk3 (0 + i)) (lcB3 : ∀ i, 0 ≤ i → i < 42 → cB3 i = bk3 (7 + i)) (p0 : p_TC0 yo yn yk yl cA cB (0)) (p1 : p_MK3 yo yn yk yl yo3 yn3 yk3 yl3 (0)) (p2 : p_CB03 bk bk3 (360)) : p_TC3 yo3 yn3 yk3 yl3 cA3 cB3 (0) := by
  exact m_TC_ext p0 p1.1 p1.2.1 p1.2.2.1 p1.2.2.2 (fun i a b => by rw [lcA3 i a b, lcA i a b]; exact p2 (0 + i) (by omega) (by omega) (by omega)) (fun i a b => by rw [lcB3 i a b, lcB i a b]; exact p2 (7 + i) (by omega) (by omega) (by omega)) hyn.2
theorem k_tb3 {bk : Int → Int} {yo : Int} {yn : Int} {yk : Int → Int} {yl : Int → Int} {yo3 : Int} {yn3 : Int} {yk3 : Int → Int} {yl3 : Int → Int} {cA : Int → Int} {cB : Int → Int} {cA3 : Int → Int} {cB3 : Int → Int} {bk3 : Int → Int} (hyo : 2 ≤ yo ∧ yo ≤ 13) (hyn : 0 ≤ yn ∧ yn ≤ 96) (hyk : ∀ i, 0 ≤ yk i ∧ yk i ≤ 13) (hyl : ∀ i, 0 ≤ yl i ∧ yl i ≤ 13) (hyo3 : 2 ≤ yo3 ∧ yo3 ≤ 13) (hyn3 : 0 ≤ yn3 ∧ yn3 ≤ 96) (lcA : ∀ i, 0 ≤ i → i < 6 → cA i = bk (0 + i)) (lcB : ∀ i, 0 ≤ i → i < 42 → cB i = bk (7 + i)) (lcA3 : ∀ i, 0 ≤ i → i < 6 → cA3 i = bk3 (0 + i)) (lcB3 : ∀ i, 0 ≤ i → i < 42 → cB3 i = bk3 (7 + i)) (p0 : p_TC3 yo3 yn3 yk3 yl3 cA3 cB3 (0)) (p1 : p_MK3 yo yn yk yl yo3 yn3 yk3 yl3 (0)) (p2 : p_CB30 bk bk3 (360)) : p_TC0 yo yn yk yl cA cB (0) := by
  exact m_TC_ext p0 p1.1.symm p1.2.1.symm (fun i a b => (p1.2.2.1 i a b).symm) (fun i a b => (p1.2.2.2 i a b).symm) (fun i a b => by rw [lcA3 i a b, lcA i a b]; exact p2 (0 + i) (by omega) (by omega) (by omega)) (fun i a b => by rw [lcB3 i a b, lcB i a b]; exact p2 (7 + i) (by omega) (by omega) (by omega)) hyn3.2
theorem k_kp0 {kp : Int → Int} {cA : Int → Int} {cB : Int → Int} : p_KPT kp cA cB (0) := by
  exact ⟨fun j a b _ => absurd b (by omega), fun j a b _ => absurd b (by omega)⟩
theorem k_kp1 {bk : Int → Int} {kp : Int → Int} {cA : Int → Int} {cB : Int → Int} (lcA : ∀ i, 0 ≤ i → i < 6 → cA i = bk (0 + i)) (lcB : ∀ i, 0 ≤ i → i < 42 → cB i = bk (7 + i)) {i z k : Int} (i1 : 0 ≤ i) (i2 : i < 147) (p0 : p_KPT kp cA cB (k)) (p1 : p_LC0 bk (k + 512 * z + 1099511627776)) (c0 : 0 ≤ i + (-1) * k) (c1 : 0 ≤ k + (-1) * i) (c2 : 0 ≤ k) (c3 : 0 ≤ (-1) * k + 144) (c4 : 0 ≤ z + 2147483648) (c5 : 0 ≤ (-1) * z + 2147483647) : p_KPT (m_up kp i z) cA cB (k + 1) := by
  obtain ⟨k1, z1, e1, g1, g2, g3, g4, g5⟩ := p1
  obtain ⟨rfl, rfl⟩ : k1 = k ∧ z1 = z := by omega
  refine ⟨fun j a b c => ?_, fun j a b c => ?_⟩
  · by_cases e : j = i
    · rw [m_up_at e, lcA j a c, show 0 + j = k1 by omega, g5]
    · rw [m_up_ne e]; exact p0.1 j a (by omega) c
  · by_cases e : 7 + j = i
    · rw [m_up_at e, lcB j a c, show 7 + j = k1 by omega, g5]
    · rw [m_up_ne e]; exact p0.2 j a (by omega) c
theorem k_kp2 {kp : Int → Int} {cA : Int → Int} {cB : Int → Int} {k : Int} (p0 : p_KPT kp cA cB (k)) (c0 : 0 ≤ k + (-145)) : p_KPT kp cA cB (145) := by
  exact ⟨fun j a b c => p0.1 j a (by omega) c, fun j a b c => p0.2 j a (by omega) c⟩
theorem k_lkp {kp : Int → Int} {i z k : Int} (zkp : 0 ≤ i - 0 → i - 0 < 147 → kp (i - 0) = z) (c0 : 0 ≤ i + (-1) * k) (c1 : 0 ≤ k + (-1) * i) (c2 : 0 ≤ k) (c3 : 0 ≤ (-1) * k + 144) (c4 : 0 ≤ z + 2147483648) (c5 : 0 ≤ (-1) * z + 2147483647) : p_LKP kp (k + 512 * z + 1099511627776) := by
  have hz := zkp (by omega) (by omega)
  rw [show i - 0 = i by omega] at hz
  exact ⟨i, z, by omega, by omega, by omega, by omega, by omega, hz⟩
theorem k_okt {yo : Int} {yn : Int} {yk : Int → Int} {yl : Int → Int} {kp : Int → Int} {cA : Int → Int} {cB : Int → Int} (hyo : 2 ≤ yo ∧ yo ≤ 13) (hyn : 0 ≤ yn ∧ yn ≤ 96) (hyk : ∀ i, 0 ≤ yk i ∧ yk i ≤ 13) (hyl : ∀ i, 0 ≤ yl i ∧ yl i ≤ 13) {i z k : Int} (i1 : 0 ≤ i) (p0 : p_TC0 yo yn yk yl cA cB (0)) (p1 : p_KPT kp cA cB (145)) (p2 : p_LKP kp (k + 512 * z + 1099511627776)) (c0 : 0 ≤ i + (-1) * k) (c1 : 0 ≤ k + (-1) * i) (c2 : 0 ≤ k) (c3 : 0 ≤ (-1) * k + 144) (c4 : 0 ≤ z + 2147483648) (c5 : 0 ≤ (-1) * z + 2147483647) : p_TC0 yo yn yk yl (m_upo 0 6 cA i z) (m_upo 7 42 cB i z) (0) := by
  obtain ⟨k1, z1, e1, g1, g2, g3, g4, g5⟩ := p2
  obtain ⟨rfl, rfl⟩ : k1 = k ∧ z1 = z := by omega
  rw [m_upo_id (off := 0) (n := 6) (fun p a b c => by rw [← p1.1 p b (by omega) (by omega), show p = k1 by omega]; exact g5), m_upo_id (off := 7) (n := 42) (fun p a b c => by rw [← p1.2 p b (by omega) (by omega), show 7 + p = k1 by omega]; exact g5)]
  exact p0
theorem k_okk {kp : Int → Int} {cA : Int → Int} {cB : Int → Int} {i z k : Int} (i1 : 0 ≤ i) (p0 : p_KPT kp cA cB (145)) (p1 : p_LKP kp (k + 512 * z + 1099511627776)) (c0 : 0 ≤ i + (-1) * k) (c1 : 0 ≤ k + (-1) * i) (c2 : 0 ≤ k) (c3 : 0 ≤ (-1) * k + 144) (c4 : 0 ≤ z + 2147483648) (c5 : 0 ≤ (-1) * z + 2147483647) : p_KPT kp (m_upo 0 6 cA i z) (m_upo 7 42 cB i z) (145) := by
  obtain ⟨k1, z1, e1, g1, g2, g3, g4, g5⟩ := p1
  obtain ⟨rfl, rfl⟩ : k1 = k ∧ z1 = z := by omega
  rw [m_upo_id (off := 0) (n := 6) (fun p a b c => by rw [← p0.1 p b (by omega) (by omega), show p = k1 by omega]; exact g5), m_upo_id (off := 7) (n := 42) (fun p a b c => by rw [← p0.2 p b (by omega) (by omega), show 7 + p = k1 by omega]; exact g5)]
  exact p0
theorem k_tv16 {yo : Int} {yn : Int} {yk : Int → Int} {yl : Int → Int} {cA : Int → Int} {cB : Int → Int} (hyo : 2 ≤ yo ∧ yo ≤ 13) (hyn : 0 ≤ yn ∧ yn ≤ 96) (hyk : ∀ i, 0 ≤ yk i ∧ yk i ≤ 13) (hyl : ∀ i, 0 ≤ yl i ∧ yl i ≤ 13) {i z n : Int} (zyk : 0 ≤ i - 0 → i - 0 < 96 → yk (i - 0) = z) (p0 : p_TC0 yo yn yk yl cA cB (0)) (p1 : n = yn) (c0 : 0 ≤ i) (c1 : 0 ≤ n + (-1) * i + (-1)) (c2 : 0 ≤ (-1) * i + 95) (c3 : 0 ≤ z) (c4 : 0 ≤ (-1) * z + 15) : p_TV cA cB (z + 16 * i) := by
  have hz := zyk (by omega) (by omega)
  rw [show i - 0 = i by omega] at hz
  have h := p0.2.2.2.1 i.toNat (by omega)
  rw [show ((i.toNat : Nat) : Int) = i by omega] at h
  exact ⟨i, z, by omega, by omega, by omega, by omega, by omega, by rw [← hz]; exact h.1.symm⟩
theorem k_sv17 {yo : Int} {yn : Int} {yk : Int → Int} {yl : Int → Int} {cA : Int → Int} {cB : Int → Int} (hyo : 2 ≤ yo ∧ yo ≤ 13) (hyn : 0 ≤ yn ∧ yn ≤ 96) (hyk : ∀ i, 0 ≤ yk i ∧ yk i ≤ 13) (hyl : ∀ i, 0 ≤ yl i ∧ yl i ≤ 13) {i z n : Int} (zyl : 0 ≤ i - 0 → i - 0 < 96 → yl (i - 0) = z) (p0 : p_TC0 yo yn yk yl cA cB (0)) (p1 : n = yn) (c0 : 0 ≤ i) (c1 : 0 ≤ n + (-1) * i + (-1)) (c2 : 0 ≤ (-1) * i + 95) (c3 : 0 ≤ z) (c4 : 0 ≤ (-1) * z + 15) : p_SWV cA cB (z + 16 * i) := by
  have hz := zyl (by omega) (by omega)
  rw [show i - 0 = i by omega] at hz
  have h := p0.2.2.2.1 i.toNat (by omega)
  rw [show ((i.toNat : Nat) : Int) = i by omega] at h
  exact ⟨i, z, by omega, by omega, by omega, by omega, by omega, by rw [← hz]; exact h.2.symm⟩
theorem k_hl5 {yo : Int} {yn : Int} {yk : Int → Int} {yl : Int → Int} {cA : Int → Int} {cB : Int → Int} (hyo : 2 ≤ yo ∧ yo ≤ 13) (hyn : 0 ≤ yn ∧ yn ≤ 96) (hyk : ∀ i, 0 ≤ yk i ∧ yk i ≤ 13) (hyl : ∀ i, 0 ≤ yl i ∧ yl i ≤ 13) {i o : Int} (p0 : p_TC0 yo yn yk yl cA cB (0)) (p1 : o = yo) (p2 : p_TV cA cB (o + 16 * i)) (c0 : 0 ≤ i) (c1 : 0 ≤ (-1) * i + 95) : p_HL cA cB (i) := by
  obtain ⟨i1, z1, e, a1, a2, a3, a4, h⟩ := p2
  obtain ⟨rfl, e2⟩ : i1 = i ∧ z1 = o := by omega
  have h0 := p0.1
  exact ⟨a1, a2, by show _ = _; omega⟩
theorem k_nh5a {yo : Int} {yn : Int} {yk : Int → Int} {yl : Int → Int} {cA : Int → Int} {cB : Int → Int} (hyo : 2 ≤ yo ∧ yo ≤ 13) (hyn : 0 ≤ yn ∧ yn ≤ 96) (hyk : ∀ i, 0 ≤ yk i ∧ yk i ≤ 13) (hyl : ∀ i, 0 ≤ yl i ∧ yl i ≤ 13) {F i o : Int} (p0 : p_TC0 yo yn yk yl cA cB (0)) (p1 : o = yo) (p2 : p_TV cA cB (F)) (c0 : 0 ≤ o + (-1) * F + 16 * i + (-1)) (c1 : 0 ≤ i) (c2 : 0 ≤ (-1) * i + 95) (c3 : 0 ≤ F + (-16) * i) (c4 : 0 ≤ 16 * i + (-1) * F + 15) : p_NH cA cB (i) := by
  obtain ⟨i1, z1, e, a1, a2, a3, a4, h⟩ := p2
  obtain ⟨rfl, e2⟩ : i1 = i ∧ z1 = F - 16 * i := by omega
  have h0 := p0.1
  exact ⟨a1, a2, fun q => by have q : _ = _ := q; omega⟩
theorem k_nh5b {yo : Int} {yn : Int} {yk : Int → Int} {yl : Int → Int} {cA : Int → Int} {cB : Int → Int} (hyo : 2 ≤ yo ∧ yo ≤ 13) (hyn : 0 ≤ yn ∧ yn ≤ 96) (hyk : ∀ i, 0 ≤ yk i ∧ yk i ≤ 13) (hyl : ∀ i, 0 ≤ yl i ∧ yl i ≤ 13) {F i o : Int} (p0 : p_TC0 yo yn yk yl cA cB (0)) (p1 : o = yo) (p2 : p_TV cA cB (F)) (c0 : 0 ≤ F + (-16) * i + (-1) * o + (-1)) (c1 : 0 ≤ i) (c2 : 0 ≤ (-1) * i + 95) (c3 : 0 ≤ F + (-16) * i) (c4 : 0 ≤ 16 * i + (-1) * F + 15) : p_NH cA cB (i) := by
  obtain ⟨i1, z1, e, a1, a2, a3, a4, h⟩ := p2
  obtain ⟨rfl, e2⟩ : i1 = i ∧ z1 = F - 16 * i := by omega
  have h0 := p0.1
  exact ⟨a1, a2, fun q => by have q : _ = _ := q; omega⟩
theorem k_tcna {nc : Int} {cs : Int → Int} {yo : Int} {yn : Int} {yk : Int → Int} {yl : Int → Int} {cA : Int → Int} {cB : Int → Int} (hnc : 0 ≤ nc ∧ nc ≤ 6) (hcs : ∀ i, 0 ≤ cs i ∧ cs i ≤ 16) (hyo : 2 ≤ yo ∧ yo ≤ 13) (hyn : 0 ≤ yn ∧ yn ≤ 96) (hyk : ∀ i, 0 ≤ yk i ∧ yk i ≤ 13) (hyl : ∀ i, 0 ≤ yl i ∧ yl i ≤ 13) (lncA : nc = cA 2) (lcsB : ∀ i, 0 ≤ i → i < 6 → cs i = cB (0 + i)) {m n : Int} (p0 : p_TC0 yo yn yk yl cA cB (0)) (p1 : p_NS nc cs (m)) (p2 : n = yn) : 0 ≤ m + (-1) * n := by
  have h1 := p0.2.1
  have hs : m_N nc cs = m_NB cA cB := by
    unfold m_N m_NB
    rw [lncA]
    have h6 := p0.2.2.2.2
    refine m_sum_ext _ fun i hi => ?_
    rw [lcsB i (by omega) (by omega), show (0 : Int) + i = i by omega]
  have h2 : m = m_N nc cs := p1
  omega
theorem k_tcnb {nc : Int} {cs : Int → Int} {yo : Int} {yn : Int} {yk : Int → Int} {yl : Int → Int} {cA : Int → Int} {cB : Int → Int} (hnc : 0 ≤ nc ∧ nc ≤ 6) (hcs : ∀ i, 0 ≤ cs i ∧ cs i ≤ 16) (hyo : 2 ≤ yo ∧ yo ≤ 13) (hyn : 0 ≤ yn ∧ yn ≤ 96) (hyk : ∀ i, 0 ≤ yk i ∧ yk i ≤ 13) (hyl : ∀ i, 0 ≤ yl i ∧ yl i ≤ 13) (lncA : nc = cA 2) (lcsB : ∀ i, 0 ≤ i → i < 6 → cs i = cB (0 + i)) {m n : Int} (p0 : p_TC0 yo yn yk yl cA cB (0)) (p1 : p_NS nc cs (m)) (p2 : n = yn) : 0 ≤ n + (-1) * m := by
  have h1 := p0.2.1
  have hs : m_N nc cs = m_NB cA cB := by
    unfold m_N m_NB
    rw [lncA]
    have h6 := p0.2.2.2.2
    refine m_sum_ext _ fun i hi => ?_
    rw [lcsB i (by omega) (by omega), show (0 : Int) + i = i by omega]
  have h2 : m = m_N nc cs := p1
  omega
theorem k_ca0 {FS : Int} {yo : Int} {yn : Int} {yk : Int → Int} {yl : Int → Int} {ct : Int → Int} {cA : Int → Int} {cB : Int → Int} (hFS : 1 ≤ FS ∧ FS ≤ 13) (hyo : 2 ≤ yo ∧ yo ≤ 13) (hyn : 0 ≤ yn ∧ yn ≤ 96) (hyk : ∀ i, 0 ≤ yk i ∧ yk i ≤ 13) (hyl : ∀ i, 0 ≤ yl i ∧ yl i ≤ 13) (hct : ∀ i, 0 ≤ ct i ∧ ct i ≤ 13) (lFA : FS = cA 1) {f p : Int} (p0 : p_TC0 yo yn yk yl cA cB (0)) (p1 : f = FS) (c0 : 0 ≤ p + (-1)) (c1 : 0 ≤ f) (c2 : 0 ≤ (-1) * f + 15) : p_CA ct cA cB (1024 * f) := by
  have hs := p0.2.2.1
  have h4 := hs.2.2.2.2.1
  exact ⟨0, 0, f, by omega, by omega, by omega, by omega, by omega, by omega, ⟨by omega, h4, fun j a b => by omega, fun j a b => by have := (hs.2.2.2.2.2.2 j a b).1; omega⟩, by rw [p1, lFA]; rfl, fun j hj => by omega⟩
theorem k_cf0x {FS : Int} {ct : Int → Int} {cA : Int → Int} {cB : Int → Int} (hFS : 1 ≤ FS ∧ FS ≤ 13) (hct : ∀ i, 0 ≤ ct i ∧ ct i ≤ 13) (lFA : FS = cA 1) {f p : Int} (p0 : f = FS) (c0 : 0 ≤ (-1) * p) (c1 : 0 ≤ f) (c2 : 0 ≤ (-1) * f + 15) : p_CFX ct cA cB (1024 * f) := by
  exact ⟨0, f, by omega, by omega, by omega, by omega, by omega, by rw [p0, lFA]; rfl, fun j hj => by omega⟩
theorem k_lsa {cB : Int → Int} {i z k : Int} (zcB : 0 ≤ i - 7 → i - 7 < 42 → cB (i - 7) = z) (c0 : 0 ≤ i + (-1) * k + (-21)) (c1 : 0 ≤ k + (-1) * i + 21) (c2 : 0 ≤ k) (c3 : 0 ≤ (-1) * k + 5) (c4 : 0 ≤ z) (c5 : 0 ≤ (-1) * z + 95) : p_LSA cB (z + 128 * k) := by
  have hz := zcB (by omega) (by omega)
  rw [show i - 7 = 14 + k by omega] at hz
  exact ⟨k, z, by omega, by omega, by omega, by omega, by omega, hz⟩
theorem k_lsb {cB : Int → Int} {i z k : Int} (zcB : 0 ≤ i - 7 → i - 7 < 42 → cB (i - 7) = z) (c0 : 0 ≤ i + (-1) * k + (-27)) (c1 : 0 ≤ k + (-1) * i + 27) (c2 : 0 ≤ k) (c3 : 0 ≤ (-1) * k + 5) (c4 : 0 ≤ z) (c5 : 0 ≤ (-1) * z + 15) : p_LSB cB (z + 16 * k) := by
  have hz := zcB (by omega) (by omega)
  rw [show i - 7 = 20 + k by omega] at hz
  exact ⟨k, z, by omega, by omega, by omega, by omega, by omega, hz⟩
theorem k_mbz {yo : Int} {yn : Int} {zs : Int} {yk : Int → Int} {yl : Int → Int} {cA : Int → Int} {cB : Int → Int} (hyo : 2 ≤ yo ∧ yo ≤ 13) (hyn : 0 ≤ yn ∧ yn ≤ 96) (hzs : 0 ≤ zs ∧ zs ≤ 6) (hyk : ∀ i, 0 ≤ yk i ∧ yk i ≤ 13) (hyl : ∀ i, 0 ≤ yl i ∧ yl i ≤ 13) (lzsA : zs = cA 4) {s k c : Int} (p0 : p_TC0 yo yn yk yl cA cB (0)) (p1 : p_LSA cB (s + 128 * k)) (p2 : c = zs) (c0 : 0 ≤ k) (c1 : 0 ≤ (-1) * k + 7) (c2 : 0 ≤ s) (c3 : 0 ≤ (-1) * s + 95) (c4 : 0 ≤ c + (-1) * k + (-1)) : 0 ≤ s + (-1) := by
  have hs := p0.2.2.1
  obtain ⟨k2, z2, e2, b1, b2, b3, b4, b5⟩ := p1
  obtain ⟨rfl, rfl⟩ : k2 = k ∧ z2 = s := by omega
  have := (hs.2.2.2.2.2.2 k2 b1 (by omega)).1
  omega
theorem k_mb1 {yo : Int} {yn : Int} {zs : Int} {yk : Int → Int} {yl : Int → Int} {ct : Int → Int} {cA : Int → Int} {cB : Int → Int} (hyo : 2 ≤ yo ∧ yo ≤ 13) (hyn : 0 ≤ yn ∧ yn ≤ 96) (hzs : 0 ≤ zs ∧ zs ≤ 6) (hyk : ∀ i, 0 ≤ yk i ∧ yk i ≤ 13) (hyl : ∀ i, 0 ≤ yl i ∧ yl i ≤ 13) (hct : ∀ i, 0 ≤ ct i ∧ ct i ≤ 13) (lzsA : zs = cA 4) {s k v c b : Int} (p0 : p_TC0 yo yn yk yl cA cB (0)) (p1 : p_CA ct cA cB (s + 128 * k + 1024 * v)) (p2 : p_LSA cB (s + 128 * k)) (p3 : p_LSB cB (b + 16 * k)) (p4 : c = zs) (c0 : 0 ≤ s) (c1 : 0 ≤ (-1) * s + 95) (c2 : 0 ≤ k) (c3 : 0 ≤ (-1) * k + 7) (c4 : 0 ≤ v) (c5 : 0 ≤ (-1) * v + 15) (c6 : 0 ≤ c + (-1) * k + (-1)) (c7 : 0 ≤ b) (c8 : 0 ≤ (-1) * b + 15) (c9 : 0 ≤ s + (-1)) : p_MBY cA cB (k + 8 * b + 128 * s + 1) := by
  obtain ⟨s1, k1, v1, e, a1, a2, a3, a4, a5, hp, hv, hc⟩ := p1
  have hk := hp.1
  obtain ⟨rfl, rfl, rfl⟩ : s1 = s ∧ k1 = k ∧ v1 = v := by omega
  have hs := p0.2.2.1
  obtain ⟨k2, z2, e2, b1, b2, b3, b4, b5⟩ := p2
  obtain ⟨rfl, rfl⟩ : k2 = k1 ∧ z2 = s1 := by omega
  obtain ⟨k3, z3, e3, d1, d2, d3, d4, d5⟩ := p3
  obtain ⟨rfl, rfl⟩ : k3 = k2 ∧ z3 = b := by omega
  have hk4 : k3 < cA 4 := by omega
  refine ⟨k3 + 1, z3, z2, by omega, by omega, by omega, by omega, by omega, by omega, by omega, ?_, by omega, by omega, fun j a b => ?_, fun j a b => ?_⟩
  · rw [m_by_k hs b1 hk4 b5]; exact d5
  · by_cases q : j < k3
    · have := hp.2.2.1 j a q; omega
    · have : j = k3 := by omega
      rw [this]; omega
  · have := m_srt_mono hs b1 (show k3 < j by omega) b
    omega
theorem k_mb2 {yo : Int} {yn : Int} {zs : Int} {yk : Int → Int} {yl : Int → Int} {ct : Int → Int} {cA : Int → Int} {cB : Int → Int} (hyo : 2 ≤ yo ∧ yo ≤ 13) (hyn : 0 ≤ yn ∧ yn ≤ 96) (hzs : 0 ≤ zs ∧ zs ≤ 6) (hyk : ∀ i, 0 ≤ yk i ∧ yk i ≤ 13) (hyl : ∀ i, 0 ≤ yl i ∧ yl i ≤ 13) (hct : ∀ i, 0 ≤ ct i ∧ ct i ≤ 13) (lzsA : zs = cA 4) {s k v c : Int} (p0 : p_TC0 yo yn yk yl cA cB (0)) (p1 : p_CA ct cA cB (s + 128 * k + 1024 * v)) (p2 : c = zs) (c0 : 0 ≤ s) (c1 : 0 ≤ (-1) * s + 95) (c2 : 0 ≤ k) (c3 : 0 ≤ (-1) * k + 7) (c4 : 0 ≤ v) (c5 : 0 ≤ (-1) * v + 15) (c6 : 0 ≤ k + (-1) * c) : p_MBY cA cB (k + 128 * s) := by
  obtain ⟨s1, k1, v1, e, a1, a2, a3, a4, a5, hp, hv, hc⟩ := p1
  have hk := hp.1
  obtain ⟨rfl, rfl, rfl⟩ : s1 = s ∧ k1 = k ∧ v1 = v := by omega
  exact ⟨k1, 0, s1, by omega, by omega, by omega, by omega, by omega, by omega, by omega, m_by_0 hp (fun j a b => by omega), hk, hp.2.1, fun j a b => by have := hp.2.2.1 j a b; omega, fun j a b => by omega⟩
theorem k_mb3 {yo : Int} {yn : Int} {zs : Int} {yk : Int → Int} {yl : Int → Int} {ct : Int → Int} {cA : Int → Int} {cB : Int → Int} (hyo : 2 ≤ yo ∧ yo ≤ 13) (hyn : 0 ≤ yn ∧ yn ≤ 96) (hzs : 0 ≤ zs ∧ zs ≤ 6) (hyk : ∀ i, 0 ≤ yk i ∧ yk i ≤ 13) (hyl : ∀ i, 0 ≤ yl i ∧ yl i ≤ 13) (hct : ∀ i, 0 ≤ ct i ∧ ct i ≤ 13) (lzsA : zs = cA 4) {G s k v c : Int} (p0 : p_TC0 yo yn yk yl cA cB (0)) (p1 : p_CA ct cA cB (s + 128 * k + 1024 * v)) (p2 : p_LSA cB (G)) (p3 : c = zs) (c0 : 0 ≤ s) (c1 : 0 ≤ (-1) * s + 95) (c2 : 0 ≤ k) (c3 : 0 ≤ (-1) * k + 7) (c4 : 0 ≤ v) (c5 : 0 ≤ (-1) * v + 15) (c6 : 0 ≤ c + (-1) * k + (-1)) (c7 : 0 ≤ G + (-128) * k + (-1) * s + (-1)) (c8 : 0 ≤ 128 * k + (-1) * G + 127) : p_MBY cA cB (k + 128 * s) := by
  obtain ⟨s1, k1, v1, e, a1, a2, a3, a4, a5, hp, hv, hc⟩ := p1
  have hk := hp.1
  obtain ⟨rfl, rfl, rfl⟩ : s1 = s ∧ k1 = k ∧ v1 = v := by omega
  have hs := p0.2.2.1
  obtain ⟨k2, z2, e2, b1, b2, b3, b4, b5⟩ := p2
  obtain ⟨rfl, e3⟩ : k2 = k1 ∧ s1 + 1 ≤ z2 := by omega
  have hg : ∀ j, k2 ≤ j → j < cA 4 → s1 + 1 ≤ cB (14 + j) := fun j a b => by
    by_cases q : k2 < j
    · have := m_srt_mono hs b1 q b; omega
    · rw [show j = k2 by omega]; omega
  exact ⟨k2, 0, s1, by omega, by omega, by omega, by omega, by omega, by omega, by omega, m_by_0 hp (fun j a b => by have := hg j a b; omega), hk, hp.2.1, fun j a b => by have := hp.2.2.1 j a b; omega, hg⟩
theorem k_mb4 {yo : Int} {yn : Int} {zs : Int} {yk : Int → Int} {yl : Int → Int} {ct : Int → Int} {cA : Int → Int} {cB : Int → Int} (hyo : 2 ≤ yo ∧ yo ≤ 13) (hyn : 0 ≤ yn ∧ yn ≤ 96) (hzs : 0 ≤ zs ∧ zs ≤ 6) (hyk : ∀ i, 0 ≤ yk i ∧ yk i ≤ 13) (hyl : ∀ i, 0 ≤ yl i ∧ yl i ≤ 13) (hct : ∀ i, 0 ≤ ct i ∧ ct i ≤ 13) (lzsA : zs = cA 4) {G s k v c : Int} (p0 : p_TC0 yo yn yk yl cA cB (0)) (p1 : p_CA ct cA cB (s + 128 * k + 1024 * v)) (p2 : p_LSA cB (G)) (p3 : c = zs) (c0 : 0 ≤ s) (c1 : 0 ≤ (-1) * s + 95) (c2 : 0 ≤ k) (c3 : 0 ≤ (-1) * k + 7) (c4 : 0 ≤ v) (c5 : 0 ≤ (-1) * v + 15) (c6 : 0 ≤ c + (-1) * k + (-1)) (c7 : 0 ≤ s + (-1) * G + 128 * k + (-1)) (c8 : 0 ≤ G + (-128) * k) : 0 ≤ (-1) := by
  obtain ⟨s1, k1, v1, e, a1, a2, a3, a4, a5, hp, hv, hc⟩ := p1
  have hk := hp.1
  obtain ⟨rfl, rfl, rfl⟩ : s1 = s ∧ k1 = k ∧ v1 = v := by omega
  obtain ⟨k2, z2, e2, b1, b2, b3, b4, b5⟩ := p2
  obtain ⟨rfl, e3⟩ : k2 = k1 ∧ z2 + 1 ≤ s1 := by omega
  have := hp.2.2.2 k2 (by omega) (by omega)
  omega
theorem k_cas0 {ct : Int → Int} {cA : Int → Int} {cB : Int → Int} (hct : ∀ i, 0 ≤ ct i ∧ ct i ≤ 13) {i z k h : Int} (i1 : 0 ≤ i) (i2 : i < 96) (p0 : p_CA ct cA cB (i + 128 * h + 1024 * z)) (p1 : p_MBY cA cB (k + 128 * i)) (c0 : 0 ≤ k) (c1 : 0 ≤ (-1) * k + 7) (c2 : 0 ≤ h) (c3 : 0 ≤ (-1) * h + 7) (c4 : 0 ≤ i) (c5 : 0 ≤ (-1) * i + 95) (c6 : 0 ≤ z) (c7 : 0 ≤ (-1) * z + 15) (c8 : 0 ≤ (-1) * i) : p_CA (m_up ct i z) cA cB (i + 128 * k + 1024 * z + 1) := by
  obtain ⟨s1, k1, v1, e, a1, a2, a3, a4, a5, hp, hv, hc⟩ := p0
  have hk := hp.1
  obtain ⟨rfl, rfl, rfl⟩ : s1 = i ∧ k1 = h ∧ v1 = z := by omega
  obtain ⟨k2, q2, s2, e2, b1, b2, b3, b4, b5, b6, hb, hq⟩ := p1
  obtain ⟨rfl, rfl, rfl⟩ : k2 = k ∧ q2 = 0 ∧ s2 = s1 := by omega
  have hw : v1 = m_tb cA cB s2.toNat := by
    rw [hv, show (s2 - 1).toNat = s2.toNat by omega]
  refine ⟨s2 + 1, k2, v1, by omega, by omega, by omega, by omega, by omega, by omega, hq, by rw [show s2 + 1 - 1 = s2 by omega]; exact hw, fun j hj => ?_⟩
  by_cases q : (j : Int) = s2
  · rw [m_up_at q, hw, show s2.toNat = j by omega]
  · rw [m_up_ne q]; exact hc j (by omega)
theorem k_cas1 {M : Int} {yo : Int} {yn : Int} {yk : Int → Int} {yl : Int → Int} {ct : Int → Int} {cA : Int → Int} {cB : Int → Int} (hM : 2 ≤ M ∧ M ≤ 13) (hyo : 2 ≤ yo ∧ yo ≤ 13) (hyn : 0 ≤ yn ∧ yn ≤ 96) (hyk : ∀ i, 0 ≤ yk i ∧ yk i ≤ 13) (hyl : ∀ i, 0 ≤ yl i ∧ yl i ≤ 13) (hct : ∀ i, 0 ≤ ct i ∧ ct i ≤ 13) (lMA : M = cA 0) {i z k h v b : Int} (i1 : 0 ≤ i) (i2 : i < 96) (p0 : p_TC0 yo yn yk yl cA cB (0)) (p1 : p_CA ct cA cB (i + 128 * h + 1024 * v)) (p2 : p_MBY cA cB (k + 8 * b + 128 * i)) (p3 : p_AF M (z + 16 * b + 256 * v)) (c0 : 0 ≤ k) (c1 : 0 ≤ (-1) * k + 7) (c2 : 0 ≤ h) (c3 : 0 ≤ (-1) * h + 7) (c4 : 0 ≤ i) (c5 : 0 ≤ (-1) * i + 95) (c6 : 0 ≤ z) (c7 : 0 ≤ (-1) * z + 15) (c8 : 0 ≤ i + (-1)) (c9 : 0 ≤ b) (c10 : 0 ≤ (-1) * b + 15) (c11 : 0 ≤ v) (c12 : 0 ≤ (-1) * v + 15) : p_CA (m_up ct i z) cA cB (i + 128 * k + 1024 * z + 1) := by
  obtain ⟨s1, k1, v1, e, a1, a2, a3, a4, a5, hp, hv, hc⟩ := p1
  have hk := hp.1
  obtain ⟨rfl, rfl, rfl⟩ : s1 = i ∧ k1 = h ∧ v1 = v := by omega
  obtain ⟨k2, q2, s2, e2, b1, b2, b3, b4, b5, b6, hb, hq⟩ := p2
  obtain ⟨rfl, rfl, rfl⟩ : k2 = k ∧ q2 = b ∧ s2 = s1 := by omega
  obtain ⟨r3, b3', v3, e3, d1, d2, d3, d4, d5, d6, d7⟩ := p3
  obtain ⟨rfl, rfl, rfl⟩ : r3 = z ∧ b3' = q2 ∧ v3 = v1 := by omega
  have hw : r3 = m_tb cA cB s2.toNat := by
    rw [show s2.toNat = (s2 - 1).toNat + 1 by omega]
    show r3 = m_af (cA 0) (m_tb cA cB (s2 - 1).toNat) (m_by cA cB (((s2 - 1).toNat + 1 : Nat) : Int))
    rw [show (((s2 - 1).toNat + 1 : Nat) : Int) = s2 by omega, hb, ← hv, ← lMA]
    exact d7
  refine ⟨s2 + 1, k2, r3, by omega, by omega, by omega, by omega, by omega, by omega, hq, by rw [show s2 + 1 - 1 = s2 by omega]; exact hw, fun j hj => ?_⟩
  by_cases q : (j : Int) = s2
  · rw [m_up_at q, hw, show s2.toNat = j by omega]
  · rw [m_up_ne q]; exact hc j (by omega)
theorem k_cfs0 {ct : Int → Int} {cA : Int → Int} {cB : Int → Int} (hct : ∀ i, 0 ≤ ct i ∧ ct i ≤ 13) {i z : Int} (i1 : 0 ≤ i) (i2 : i < 96) (p0 : p_CFX ct cA cB (i + 1024 * z)) (c0 : 0 ≤ i) (c1 : 0 ≤ (-1) * i + 95) (c2 : 0 ≤ z) (c3 : 0 ≤ (-1) * z + 15) (c4 : 0 ≤ (-1) * i) : p_CFX (m_up ct i z) cA cB (i + 1024 * z + 1) := by
  obtain ⟨s1, v1, e, a1, a2, a3, a4, hv, hc⟩ := p0
  obtain ⟨rfl, rfl⟩ : s1 = i ∧ v1 = z := by omega
  have hw : v1 = m_sb cA cB s1.toNat := by
    rw [hv, show (s1 - 1).toNat = s1.toNat by omega]
  refine ⟨s1 + 1, v1, by omega, by omega, by omega, by omega, by omega, by rw [show s1 + 1 - 1 = s1 by omega]; exact hw, fun j hj => ?_⟩
  by_cases q : (j : Int) = s1
  · rw [m_up_at q, hw, show s1.toNat = j by omega]
  · rw [m_up_ne q]; exact hc j (by omega)
theorem k_cfs1 {M : Int} {yo : Int} {yn : Int} {yk : Int → Int} {yl : Int → Int} {ct : Int → Int} {cA : Int → Int} {cB : Int → Int} (hM : 2 ≤ M ∧ M ≤ 13) (hyo : 2 ≤ yo ∧ yo ≤ 13) (hyn : 0 ≤ yn ∧ yn ≤ 96) (hyk : ∀ i, 0 ≤ yk i ∧ yk i ≤ 13) (hyl : ∀ i, 0 ≤ yl i ∧ yl i ≤ 13) (hct : ∀ i, 0 ≤ ct i ∧ ct i ≤ 13) (lMA : M = cA 0) {i z v : Int} (i1 : 0 ≤ i) (i2 : i < 96) (p0 : p_TC0 yo yn yk yl cA cB (0)) (p1 : p_CFX ct cA cB (i + 1024 * v)) (p2 : p_AF M (z + 256 * v)) (c0 : 0 ≤ i) (c1 : 0 ≤ (-1) * i + 95) (c2 : 0 ≤ z) (c3 : 0 ≤ (-1) * z + 15) (c4 : 0 ≤ i + (-1)) (c5 : 0 ≤ v) (c6 : 0 ≤ (-1) * v + 15) : p_CFX (m_up ct i z) cA cB (i + 1024 * z + 1) := by
  obtain ⟨s1, v1, e, a1, a2, a3, a4, hv, hc⟩ := p1
  obtain ⟨rfl, rfl⟩ : s1 = i ∧ v1 = v := by omega
  obtain ⟨r3, b3', v3, e3, d1, d2, d3, d4, d5, d6, d7⟩ := p2
  obtain ⟨rfl, rfl, rfl⟩ : r3 = z ∧ b3' = 0 ∧ v3 = v1 := by omega
  have hw : r3 = m_sb cA cB s1.toNat := by
    rw [show s1.toNat = (s1 - 1).toNat + 1 by omega]
    show r3 = m_af (cA 0) (m_sb cA cB (s1 - 1).toNat) 0
    rw [← hv, ← lMA]
    exact d7
  refine ⟨s1 + 1, r3, by omega, by omega, by omega, by omega, by omega, by rw [show s1 + 1 - 1 = s1 by omega]; exact hw, fun j hj => ?_⟩
  by_cases q : (j : Int) = s1
  · rw [m_up_at q, hw, show s1.toNat = j by omega]
  · rw [m_up_ne q]; exact hc j (by omega)
theorem k_cat {yo : Int} {yn : Int} {yk : Int → Int} {yl : Int → Int} {ct : Int → Int} {cA : Int → Int} {cB : Int → Int} (hyo : 2 ≤ yo ∧ yo ≤ 13) (hyn : 0 ≤ yn ∧ yn ≤ 96) (hyk : ∀ i, 0 ≤ yk i ∧ yk i ≤ 13) (hyl : ∀ i, 0 ≤ yl i ∧ yl i ≤ 13) (hct : ∀ i, 0 ≤ ct i ∧ ct i ≤ 13) {s k v n : Int} (p0 : p_TC0 yo yn yk yl cA cB (0)) (p1 : p_CA ct cA cB (s + 128 * k + 1024 * v)) (p2 : n = yn) (c0 : 0 ≤ k) (c1 : 0 ≤ (-1) * k + 7) (c2 : 0 ≤ v) (c3 : 0 ≤ (-1) * v + 15) (c4 : 0 ≤ s + (-1) * n) (c5 : 0 ≤ s) (c6 : 0 ≤ (-1) * s + 127) : p_CAT ct cA cB (0) := by
  obtain ⟨s1, k1, v1, e, a1, a2, a3, a4, a5, hp, hv, hc⟩ := p1
  have hk := hp.1
  obtain ⟨rfl, rfl, rfl⟩ : s1 = s ∧ k1 = k ∧ v1 = v := by omega
  have h1 := p0.2.1
  intro j hj
  exact hc j (by omega)
theorem k_cft {yo : Int} {yn : Int} {yk : Int → Int} {yl : Int → Int} {ct : Int → Int} {cA : Int → Int} {cB : Int → Int} (hyo : 2 ≤ yo ∧ yo ≤ 13) (hyn : 0 ≤ yn ∧ yn ≤ 96) (hyk : ∀ i, 0 ≤ yk i ∧ yk i ≤ 13) (hyl : ∀ i, 0 ≤ yl i ∧ yl i ≤ 13) (hct : ∀ i, 0 ≤ ct i ∧ ct i ≤ 13) {s v n : Int} (p0 : p_TC0 yo yn yk yl cA cB (0)) (p1 : p_CFX ct cA cB (s + 1024 * v)) (p2 : n = yn) (c0 : 0 ≤ v) (c1 : 0 ≤ (-1) * v + 15) (c2 : 0 ≤ s + (-1) * n) (c3 : 0 ≤ s) (c4 : 0 ≤ (-1) * s + 127) : p_CFT ct cA cB (0) := by
  obtain ⟨s1, v1, e, a1, a2, a3, a4, hv, hc⟩ := p1
  obtain ⟨rfl, rfl⟩ : s1 = s ∧ v1 = v := by omega
  have h1 := p0.2.1
  intro j hj
  exact hc j (by omega)
theorem k_tvr {yo : Int} {yn : Int} {yk : Int → Int} {yl : Int → Int} {ct : Int → Int} {cA : Int → Int} {cB : Int → Int} (hyo : 2 ≤ yo ∧ yo ≤ 13) (hyn : 0 ≤ yn ∧ yn ≤ 96) (hyk : ∀ i, 0 ≤ yk i ∧ yk i ≤ 13) (hyl : ∀ i, 0 ≤ yl i ∧ yl i ≤ 13) (hct : ∀ i, 0 ≤ ct i ∧ ct i ≤ 13) {i z n : Int} (zct : 0 ≤ i - 0 → i - 0 < 96 → ct (i - 0) = z) (p0 : p_TC0 yo yn yk yl cA cB (0)) (p1 : n = yn) (p2 : p_CAT ct cA cB (0)) (c0 : 0 ≤ i) (c1 : 0 ≤ n + (-1) * i + (-1)) (c2 : 0 ≤ (-1) * i + 95) (c3 : 0 ≤ z) (c4 : 0 ≤ (-1) * z + 15) : p_TV cA cB (z + 16 * i) := by
  have hz := zct (by omega) (by omega)
  rw [show i - 0 = i by omega] at hz
  have h := p2 i.toNat (by rw [← p0.2.1]; omega)
  rw [show ((i.toNat : Nat) : Int) = i by omega] at h
  exact ⟨i, z, by omega, by omega, by omega, by omega, by omega, by rw [← hz]; exact h.symm⟩
theorem k_svr {yo : Int} {yn : Int} {yk : Int → Int} {yl : Int → Int} {ct : Int → Int} {cA : Int → Int} {cB : Int → Int} (hyo : 2 ≤ yo ∧ yo ≤ 13) (hyn : 0 ≤ yn ∧ yn ≤ 96) (hyk : ∀ i, 0 ≤ yk i ∧ yk i ≤ 13) (hyl : ∀ i, 0 ≤ yl i ∧ yl i ≤ 13) (hct : ∀ i, 0 ≤ ct i ∧ ct i ≤ 13) {i z n : Int} (zct : 0 ≤ i - 0 → i - 0 < 96 → ct (i - 0) = z) (p0 : p_TC0 yo yn yk yl cA cB (0)) (p1 : n = yn) (p2 : p_CFT ct cA cB (0)) (c0 : 0 ≤ i) (c1 : 0 ≤ n + (-1) * i + (-1)) (c2 : 0 ≤ (-1) * i + 95) (c3 : 0 ≤ z) (c4 : 0 ≤ (-1) * z + 15) : p_SWV cA cB (z + 16 * i) := by
  have hz := zct (by omega) (by omega)
  rw [show i - 0 = i by omega] at hz
  have h := p2 i.toNat (by rw [← p0.2.1]; omega)
  rw [show ((i.toNat : Nat) : Int) = i by omega] at h
  exact ⟨i, z, by omega, by omega, by omega, by omega, by omega, by rw [← hz]; exact h.symm⟩
theorem k_hlr {M : Int} {cA : Int → Int} {cB : Int → Int} (hM : 2 ≤ M ∧ M ≤ 13) (lMA : M = cA 0) {i m : Int} (p0 : m = M) (p1 : p_TV cA cB (m + 16 * i)) (c0 : 0 ≤ i) (c1 : 0 ≤ (-1) * i + 95) : p_HL cA cB (i) := by
  obtain ⟨i1, z1, e, a1, a2, a3, a4, h⟩ := p1
  obtain ⟨rfl, e2⟩ : i1 = i ∧ z1 = m := by omega
  exact ⟨a1, a2, by show _ = _; omega⟩
theorem k_nhra {M : Int} {cA : Int → Int} {cB : Int → Int} (hM : 2 ≤ M ∧ M ≤ 13) (lMA : M = cA 0) {F i m : Int} (p0 : m = M) (p1 : p_TV cA cB (F)) (c0 : 0 ≤ m + (-1) * F + 16 * i + (-1)) (c1 : 0 ≤ i) (c2 : 0 ≤ (-1) * i + 95) (c3 : 0 ≤ F + (-16) * i) (c4 : 0 ≤ 16 * i + (-1) * F + 15) : p_NH cA cB (i) := by
  obtain ⟨i1, z1, e, a1, a2, a3, a4, h⟩ := p1
  obtain ⟨rfl, e2⟩ : i1 = i ∧ z1 = F - 16 * i := by omega
  exact ⟨a1, a2, fun q => by have q : _ = _ := q; omega⟩
theorem k_nhrb {M : Int} {cA : Int → Int} {cB : Int → Int} (hM : 2 ≤ M ∧ M ≤ 13) (lMA : M = cA 0) {F i m : Int} (p0 : m = M) (p1 : p_TV cA cB (F)) (c0 : 0 ≤ F + (-16) * i + (-1) * m + (-1)) (c1 : 0 ≤ i) (c2 : 0 ≤ (-1) * i + 95) (c3 : 0 ≤ F + (-16) * i) (c4 : 0 ≤ 16 * i + (-1) * F + 15) : p_NH cA cB (i) := by
  obtain ⟨i1, z1, e, a1, a2, a3, a4, h⟩ := p1
  obtain ⟨rfl, e2⟩ : i1 = i ∧ z1 = F - 16 * i := by omega
  exact ⟨a1, a2, fun q => by have q : _ = _ := q; omega⟩
theorem k_hc0 {cA : Int → Int} {cB : Int → Int} {f : Int} (c0 : 0 ≤ f) (c1 : 0 ≤ (-1) * f + 95) : p_HC cA cB (16512 * f) := by
  exact ⟨0, f, f, by omega, by omega, by omega, by omega, by omega, by omega, by rw [show (f - f).toNat = 0 by omega]; rfl⟩
theorem k_hc1 {cA : Int → Int} {cB : Int → Int} {n s f : Int} (p0 : p_HC cA cB (n + 128 * s + 16384 * f)) (p1 : p_HL cA cB (s)) (c0 : 0 ≤ n) (c1 : 0 ≤ (-1) * n + 127) (c2 : 0 ≤ s) (c3 : 0 ≤ (-1) * s + 127) (c4 : 0 ≤ f) (c5 : 0 ≤ (-1) * f + 95) (c6 : 0 ≤ (-1) * s + 95) : p_HC cA cB (n + 128 * s + 16384 * f + 129) := by
  obtain ⟨n1, s1, f1, e, a1, a2, a3, a4, a5, hn⟩ := p0
  obtain ⟨rfl, rfl, rfl⟩ : n1 = n ∧ s1 = s ∧ f1 = f := by omega
  have hle := (m_hc_le (A := cA) (B := cB) (f := f1) (s1 - f1).toNat).2
  exact ⟨n1 + 1, s1 + 1, f1, by omega, by omega, by omega, by omega, by omega, by omega, by rw [m_hc_s a4, if_pos p1.2.2, ← hn]⟩
theorem k_hc2 {cA : Int → Int} {cB : Int → Int} {n s f : Int} (p0 : p_HC cA cB (n + 128 * s + 16384 * f)) (p1 : p_NH cA cB (s)) (c0 : 0 ≤ n) (c1 : 0 ≤ (-1) * n + 127) (c2 : 0 ≤ s) (c3 : 0 ≤ (-1) * s + 127) (c4 : 0 ≤ f) (c5 : 0 ≤ (-1) * f + 95) (c6 : 0 ≤ (-1) * s + 95) : p_HC cA cB (n + 128 * s + 16384 * f + 128) := by
  obtain ⟨n1, s1, f1, e, a1, a2, a3, a4, a5, hn⟩ := p0
  obtain ⟨rfl, rfl, rfl⟩ : n1 = n ∧ s1 = s ∧ f1 = f := by omega
  exact ⟨n1, s1 + 1, f1, by omega, by omega, by omega, by omega, by omega, by omega, by rw [m_hc_s a4, if_neg p1.2.2, ← hn]; omega⟩
theorem k_hce {cA : Int → Int} {cB : Int → Int} {n s f t : Int} (p0 : p_HC cA cB (n + 128 * s + 16384 * f)) (c0 : 0 ≤ n) (c1 : 0 ≤ (-1) * n + 127) (c2 : 0 ≤ s) (c3 : 0 ≤ (-1) * s + 127) (c4 : 0 ≤ f) (c5 : 0 ≤ (-1) * f + 95) (c6 : 0 ≤ s + (-1) * t + (-1)) (c7 : 0 ≤ t + (-1) * s + 1) : p_HCC cA cB (n + 128 * t + 16384 * f + 128) := by
  obtain ⟨n1, s1, f1, e, a1, a2, a3, a4, a5, hn⟩ := p0
  obtain ⟨rfl, rfl, rfl⟩ : n1 = n ∧ s1 = s ∧ f1 = f := by omega
  exact ⟨n1, s1, f1, by omega, a1, a2, a3, a4, a5, hn⟩
theorem k_hcqa {cA : Int → Int} {cB : Int → Int} {n s f t r : Int} (p0 : p_HC cA cB (n + 128 * s + 16384 * f)) (p1 : p_HCC cA cB (r + 128 * t + 16384 * f + 128)) (c0 : 0 ≤ n) (c1 : 0 ≤ (-1) * n + 127) (c2 : 0 ≤ s) (c3 : 0 ≤ (-1) * s + 127) (c4 : 0 ≤ f) (c5 : 0 ≤ (-1) * f + 95) (c6 : 0 ≤ r) (c7 : 0 ≤ (-1) * r + 127) (c8 : 0 ≤ s + (-1) * t + (-1)) (c9 : 0 ≤ t + (-1) * s + 1) : 0 ≤ n + (-1) * r := by
  obtain ⟨n1, s1, f1, e, a1, a2, a3, a4, a5, hn⟩ := p0
  obtain ⟨rfl, rfl, rfl⟩ : n1 = n ∧ s1 = s ∧ f1 = f := by omega
  obtain ⟨n2, s2, f2, e2, b1, b2, b3, b4, b5, hn2⟩ := p1
  obtain ⟨rfl, rfl, rfl⟩ : n2 = r ∧ s2 = s1 ∧ f2 = f1 := by omega
  omega
theorem k_hcqb {cA : Int → Int} {cB : Int → Int} {n s f t r : Int} (p0 : p_HC cA cB (n + 128 * s + 16384 * f)) (p1 : p_HCC cA cB (r + 128 * t + 16384 * f + 128)) (c0 : 0 ≤ n) (c1 : 0 ≤ (-1) * n + 127) (c2 : 0 ≤ s) (c3 : 0 ≤ (-1) * s + 127) (c4 : 0 ≤ f) (c5 : 0 ≤ (-1) * f + 95) (c6 : 0 ≤ r) (c7 : 0 ≤ (-1) * r + 127) (c8 : 0 ≤ s + (-1) * t + (-1)) (c9 : 0 ≤ t + (-1) * s + 1) : 0 ≤ r + (-1) * n := by
  obtain ⟨n1, s1, f1, e, a1, a2, a3, a4, a5, hn⟩ := p0
  obtain ⟨rfl, rfl, rfl⟩ : n1 = n ∧ s1 = s ∧ f1 = f := by omega
  obtain ⟨n2, s2, f2, e2, b1, b2, b3, b4, b5, hn2⟩ := p1
  obtain ⟨rfl, rfl, rfl⟩ : n2 = r ∧ s2 = s1 ∧ f2 = f1 := by omega
  omega
theorem k_ha0 {cA : Int → Int} {cB : Int → Int} {k : Int} (c0 : 0 ≤ k + 2147483648) (c1 : 0 ≤ (-1) * k + 2147483647) : p_HAX cA cB (16384 * k + 35184372088832) := by
  exact ⟨0, 0, k, by omega, by omega, by omega, by omega, by omega, by omega, by omega, rfl, fun j hj => by omega⟩
theorem k_ha1a {cA : Int → Int} {cB : Int → Int} {n s k : Int} (p0 : p_HAX cA cB (n + 128 * s + 16384 * k + 35184372088832)) (p1 : p_HL cA cB (s)) (c0 : 0 ≤ n) (c1 : 0 ≤ (-1) * n + 127) (c2 : 0 ≤ s) (c3 : 0 ≤ (-1) * s + 127) (c4 : 0 ≤ k + 2147483648) (c5 : 0 ≤ (-1) * k + 2147483647) (c6 : 0 ≤ n + (-1) * k + (-1)) : p_HAX cA cB (n + 128 * s + 16384 * k + 35184372088961) := by
  obtain ⟨n1, s1, k1, e, a1, a2, a3, a4, a5, a6, hn, hj⟩ := p0
  obtain ⟨rfl, rfl, rfl⟩ := m_d3 e a1 a2 a3 a4 c0 c1 c2 c3
  have h0 := m_hc_s (A := cA) (B := cB) (f := 0) (s := s1) a3
  rw [show s1 + 1 - 0 = s1 + 1 by omega, show s1 - 0 = s1 by omega] at h0
  have s95 := p1.2.1
  rw [if_pos p1.2.2] at h0
  exact ⟨n1 + 1, s1 + 1, k1, by omega, by omega, by omega, by omega, by omega, by omega, by omega, by rw [h0, ← hn], fun j h1 h2 => by
    by_cases q : (j : Int) < s1
    · exact hj j q h2
    · rw [show j = s1.toNat by omega, ← hn]; omega⟩
theorem k_ha1b {cA : Int → Int} {cB : Int → Int} {n s k : Int} (p0 : p_HAX cA cB (n + 128 * s + 16384 * k + 35184372088832)) (p1 : p_HL cA cB (s)) (c0 : 0 ≤ n) (c1 : 0 ≤ (-1) * n + 127) (c2 : 0 ≤ s) (c3 : 0 ≤ (-1) * s + 127) (c4 : 0 ≤ k + 2147483648) (c5 : 0 ≤ (-1) * k + 2147483647) (c6 : 0 ≤ k + (-1) * n + (-1)) : p_HAX cA cB (n + 128 * s + 16384 * k + 35184372088961) := by
  obtain ⟨n1, s1, k1, e, a1, a2, a3, a4, a5, a6, hn, hj⟩ := p0
  obtain ⟨rfl, rfl, rfl⟩ := m_d3 e a1 a2 a3 a4 c0 c1 c2 c3
  have h0 := m_hc_s (A := cA) (B := cB) (f := 0) (s := s1) a3
  rw [show s1 + 1 - 0 = s1 + 1 by omega, show s1 - 0 = s1 by omega] at h0
  have s95 := p1.2.1
  rw [if_pos p1.2.2] at h0
  exact ⟨n1 + 1, s1 + 1, k1, by omega, by omega, by omega, by omega, by omega, by omega, by omega, by rw [h0, ← hn], fun j h1 h2 => by
    by_cases q : (j : Int) < s1
    · exact hj j q h2
    · rw [show j = s1.toNat by omega, ← hn]; omega⟩
theorem k_ha2 {cA : Int → Int} {cB : Int → Int} {n s k : Int} (p0 : p_HAX cA cB (n + 128 * s + 16384 * k + 35184372088832)) (p1 : p_NH cA cB (s)) (c0 : 0 ≤ n) (c1 : 0 ≤ (-1) * n + 127) (c2 : 0 ≤ s) (c3 : 0 ≤ (-1) * s + 127) (c4 : 0 ≤ k + 2147483648) (c5 : 0 ≤ (-1) * k + 2147483647) : p_HAX cA cB (n + 128 * s + 16384 * k + 35184372088960) := by
  obtain ⟨n1, s1, k1, e, a1, a2, a3, a4, a5, a6, hn, hj⟩ := p0
  obtain ⟨rfl, rfl, rfl⟩ := m_d3 e a1 a2 a3 a4 c0 c1 c2 c3
  have h0 := m_hc_s (A := cA) (B := cB) (f := 0) (s := s1) a3
  rw [show s1 + 1 - 0 = s1 + 1 by omega, show s1 - 0 = s1 by omega] at h0
  have s95 := p1.2.1
  rw [if_neg p1.2.2] at h0
  exact ⟨n1, s1 + 1, k1, by omega, by omega, by omega, by omega, by omega, by omega, by omega, by rw [h0, ← hn]; omega, fun j h1 h2 => by
    by_cases q : (j : Int) < s1
    · exact hj j q h2
    · exact absurd (show m_hl cA cB s1 by rw [show s1 = (j : Int) by omega]; exact h2) p1.2.2⟩
theorem k_har {yo : Int} {yn : Int} {yk : Int → Int} {yl : Int → Int} {cA : Int → Int} {cB : Int → Int} (hyo : 2 ≤ yo ∧ yo ≤ 13) (hyn : 0 ≤ yn ∧ yn ≤ 96) (hyk : ∀ i, 0 ≤ yk i ∧ yk i ≤ 13) (hyl : ∀ i, 0 ≤ yl i ∧ yl i ≤ 13) {n s k m : Int} (p0 : p_TC0 yo yn yk yl cA cB (0)) (p1 : p_HAX cA cB (n + 128 * s + 16384 * k + 35184372088832)) (p2 : p_HL cA cB (s)) (p3 : m = yn) (c0 : 0 ≤ n) (c1 : 0 ≤ (-1) * n + 127) (c2 : 0 ≤ s) (c3 : 0 ≤ (-1) * s + 127) (c4 : 0 ≤ k + 2147483648) (c5 : 0 ≤ (-1) * k + 2147483647) (c6 : 0 ≤ n + (-1) * k) (c7 : 0 ≤ k + (-1) * n) (c8 : 0 ≤ m + (-1) * s + (-1)) (c9 : 0 ≤ (-1) * s + 95) : p_HAR cA cB (s + 128 * k + 274877906944) := by
  obtain ⟨n1, s1, k1, e, a1, a2, a3, a4, a5, a6, hn, hj⟩ := p1
  obtain ⟨rfl, rfl, rfl⟩ := m_d3 e a1 a2 a3 a4 c0 c1 c2 c3
  have h1 := p0.2.1
  exact ⟨s1, k1, by omega, by omega, by omega, by omega, by omega, p2.2.2, by rw [← hn]; omega⟩
theorem k_han {yo : Int} {yn : Int} {yk : Int → Int} {yl : Int → Int} {cA : Int → Int} {cB : Int → Int} (hyo : 2 ≤ yo ∧ yo ≤ 13) (hyn : 0 ≤ yn ∧ yn ≤ 96) (hyk : ∀ i, 0 ≤ yk i ∧ yk i ≤ 13) (hyl : ∀ i, 0 ≤ yl i ∧ yl i ≤ 13) {n s k m : Int} (p0 : p_TC0 yo yn yk yl cA cB (0)) (p1 : p_HAX cA cB (n + 128 * s + 16384 * k + 35184372088832)) (p2 : m = yn) (c0 : 0 ≤ n) (c1 : 0 ≤ (-1) * n + 127) (c2 : 0 ≤ s) (c3 : 0 ≤ (-1) * s + 127) (c4 : 0 ≤ k + 2147483648) (c5 : 0 ≤ (-1) * k + 2147483647) (c6 : 0 ≤ s + (-1) * m) : p_HAN cA cB (k + 2147483648) := by
  obtain ⟨n1, s1, k1, e, a1, a2, a3, a4, a5, a6, hn, hj⟩ := p1
  obtain ⟨rfl, rfl, rfl⟩ := m_d3 e a1 a2 a3 a4 c0 c1 c2 c3
  have h1 := p0.2.1
  intro j h2 h3
  rw [show k1 + 2147483648 - 2147483648 = k1 by omega]
  exact hj j (by omega) h3
theorem k_hax {yo : Int} {yn : Int} {yk : Int → Int} {yl : Int → Int} {cA : Int → Int} {cB : Int → Int} (hyo : 2 ≤ yo ∧ yo ≤ 13) (hyn : 0 ≤ yn ∧ yn ≤ 96) (hyk : ∀ i, 0 ≤ yk i ∧ yk i ≤ 13) (hyl : ∀ i, 0 ≤ yl i ∧ yl i ≤ 13) {n s k m : Int} (p0 : p_TC0 yo yn yk yl cA cB (0)) (p1 : p_HAX cA cB (n + 128 * s + 16384 * k + 35184372088832)) (p2 : p_HL cA cB (s)) (p3 : p_HAN cA cB (k + 2147483648)) (p4 : m = yn) (c0 : 0 ≤ n) (c1 : 0 ≤ (-1) * n + 127) (c2 : 0 ≤ s) (c3 : 0 ≤ (-1) * s + 127) (c4 : 0 ≤ k + 2147483648) (c5 : 0 ≤ (-1) * k + 2147483647) (c6 : 0 ≤ n + (-1) * k) (c7 : 0 ≤ k + (-1) * n) (c8 : 0 ≤ m + (-1) * s + (-1)) : 0 ≤ (-1) := by
  obtain ⟨n1, s1, k1, e, a1, a2, a3, a4, a5, a6, hn, hj⟩ := p1
  obtain ⟨rfl, rfl, rfl⟩ := m_d3 e a1 a2 a3 a4 c0 c1 c2 c3
  have h1 := p0.2.1
  have h2 := p3 s1.toNat (by omega) (by rw [show ((s1.toNat : Nat) : Int) = s1 by omega]; exact p2.2.2)
  rw [← hn] at h2
  omega
theorem k_haqa {cA : Int → Int} {cB : Int → Int} {n s k r : Int} (p0 : p_HAX cA cB (n + 128 * s + 16384 * k + 35184372088832)) (p1 : p_HL cA cB (s)) (p2 : p_HAR cA cB (r + 128 * k + 274877906944)) (c0 : 0 ≤ n) (c1 : 0 ≤ (-1) * n + 127) (c2 : 0 ≤ s) (c3 : 0 ≤ (-1) * s + 127) (c4 : 0 ≤ k + 2147483648) (c5 : 0 ≤ (-1) * k + 2147483647) (c6 : 0 ≤ n + (-1) * k) (c7 : 0 ≤ k + (-1) * n) (c8 : 0 ≤ r) (c9 : 0 ≤ (-1) * r + 95) : 0 ≤ s + (-1) * r := by
  obtain ⟨n1, s1, k1, e, a1, a2, a3, a4, a5, a6, hn, hj⟩ := p0
  obtain ⟨rfl, rfl, rfl⟩ := m_d3 e a1 a2 a3 a4 c0 c1 c2 c3
  obtain ⟨s2, k2, e2, b1, b2, b3, b4, b5, b6⟩ := p2
  obtain ⟨rfl, rfl⟩ : s2 = r ∧ k2 = k1 := by omega
  by_cases q1 : s2 < s1
  · have := hj s2.toNat (by omega) (by rw [show ((s2.toNat : Nat) : Int) = s2 by omega]; exact b5)
    omega
  by_cases q2 : s1 < s2
  · have h0 := m_hc_s (A := cA) (B := cB) (f := 0) (s := s1) a3
    rw [show s1 + 1 - 0 = s1 + 1 by omega, show s1 - 0 = s1 by omega, if_pos p1.2.2] at h0
    have h2 := m_hc_mono (A := cA) (B := cB) (f := 0) (s2.toNat - (s1 + 1).toNat) (s1 + 1).toNat
    rw [show (s1 + 1).toNat + (s2.toNat - (s1 + 1).toNat) = s2.toNat by omega] at h2
    omega
  omega
