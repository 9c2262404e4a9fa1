-- 66c.text: bases of the texts' facts
-- base: runs, tokens
theorem m_le_t {z : Int} : m_le z = true ↔ 97 ≤ z ∧ z ≤ 122 := by simp [m_le]
theorem m_di_t {z : Int} : m_di z = true ↔ 48 ≤ z ∧ z ≤ 57 := by simp [m_di]
theorem m_sg_t {z : Int} : m_sgz z = true ↔ 59 ≤ z ∧ z ≤ 62 := by simp [m_sgz]
theorem m_bl_t {z : Int} : m_bl z = true ↔ z = 10 ∨ z = 32 := by simp [m_bl]
theorem m_ntz {p : Bool} {P : Prop} (h : p = true ↔ P) : p = false ↔ ¬ P := by
  rw [← h]
  cases p <;> simp
theorem m_end_run {P : Int → Bool} {b : Int → Int} {n : Int} : ∀ (k : Nat) (q r : Int), q ≤ r → r - q ≤ k → (∀ i, q ≤ i → i < r → i < n ∧ P (b i) = true) → (n ≤ r ∨ P (b r) = false) → m_end P b n k q = r
  | 0, q, r, h1, h2, _, _ => by
    show q = r
    omega
  | k + 1, q, r, h1, h2, h3, h4 => by
    show (if q < n ∧ P (b q) = true then m_end P b n k (q + 1) else q) = r
    by_cases e : q = r
    · subst e
      rw [if_neg]
      rintro ⟨a, c⟩
      rcases h4 with h4 | h4
      · omega
      · rw [h4] at c; cases c
    · obtain ⟨a, c⟩ := h3 q (by omega) (by omega)
      rw [if_pos ⟨a, c⟩]
      exact m_end_run k (q + 1) r (by omega) (by omega) (fun i i1 i2 => h3 i (by omega) i2) h4
theorem m_end_ge {P : Int → Bool} {b : Int → Int} {n : Int} : ∀ (k : Nat) (q : Int), q ≤ m_end P b n k q
  | 0, q => Int.le_refl q
  | k + 1, q => by
    show q ≤ (if q < n ∧ P (b q) = true then m_end P b n k (q + 1) else q)
    by_cases e : q < n ∧ P (b q) = true
    · rw [if_pos e]
      have := m_end_ge (P := P) (b := b) (n := n) k (q + 1)
      omega
    · rw [if_neg e]
      exact Int.le_refl q
theorem m_end_le {P : Int → Bool} {b : Int → Int} {n : Int} : ∀ (k : Nat) (q : Int), q ≤ n → m_end P b n k q ≤ n
  | 0, q, h => h
  | k + 1, q, h => by
    show (if q < n ∧ P (b q) = true then m_end P b n k (q + 1) else q) ≤ n
    by_cases e : q < n ∧ P (b q) = true
    · rw [if_pos e]
      exact m_end_le k (q + 1) (by omega)
    · rw [if_neg e]
      exact h
theorem m_end_in {P : Int → Bool} {b : Int → Int} {n : Int} : ∀ (k : Nat) (q i : Int), q ≤ i → i < m_end P b n k q → P (b i) = true
  | 0, q, i, h1, h2 => by
    have h2 : i < q := h2
    omega
  | k + 1, q, i, h1, h2 => by
    have h2 : i < (if q < n ∧ P (b q) = true then m_end P b n k (q + 1) else q) := h2
    by_cases e : q < n ∧ P (b q) = true
    · rw [if_pos e] at h2
      by_cases e2 : i = q
      · rw [e2]; exact e.2
      · exact m_end_in k (q + 1) i (by omega) h2
    · rw [if_neg e] at h2
      omega
theorem m_sk_run {b : Int → Int} {n e q : Int} (hn : n ≤ 900) (he : 0 ≤ e) (h1 : e ≤ q) (h2 : e = q ∨ q ≤ n) (h3 : ∀ i, e ≤ i → i < q → m_bl (b i) = true) (h4 : n ≤ q ∨ m_bl (b q) = false) : q = m_sk b n e := by
  refine (m_end_run 1000 e q h1 (by omega) (fun i i1 i2 => ⟨by omega, h3 i i1 i2⟩) h4).symm
theorem m_te_end {b : Int → Int} {n s : Int} (h : n ≤ s) : m_te b n s = s ∧ m_kd b n s = 0 := by
  unfold m_te m_kd
  rw [if_pos h, if_pos h]
  exact ⟨rfl, rfl⟩
theorem m_te_let {b : Int → Int} {n s q : Int} (hn : n ≤ 900) (h0 : 0 ≤ s) (h1 : s < n) (h2 : m_le (b s) = true) (h3 : s ≤ q) (h4 : q ≤ n) (h5 : ∀ i, s ≤ i → i < q → m_le (b i) = true) (h6 : n ≤ q ∨ m_le (b q) = false) : m_te b n s = q ∧ m_kd b n s = 2 := by
  unfold m_kd m_te
  rw [if_neg (by omega), if_pos h2, if_neg (by omega), if_pos h2]
  exact ⟨m_end_run 1000 s q h3 (by omega) (fun i i1 i2 => ⟨by omega, h5 i i1 i2⟩) h6, rfl⟩
theorem m_di_nl {z : Int} (h : m_di z = true) : ¬ m_le z = true := by
  rw [m_di_t] at h
  rw [m_le_t]
  omega
theorem m_te_dig {b : Int → Int} {n s q : Int} (hn : n ≤ 900) (h0 : 0 ≤ s) (h1 : s < n) (h2 : m_di (b s) = true) (h3 : s ≤ q) (h4 : q ≤ n) (h5 : ∀ i, s ≤ i → i < q → m_di (b i) = true) (h6 : n ≤ q ∨ m_di (b q) = false) : m_te b n s = q ∧ m_kd b n s = if 4 < q - s then 1 else 3 := by
  have e : m_te b n s = q := by
    unfold m_te
    rw [if_neg (by omega), if_neg (m_di_nl h2), if_pos h2]
    exact m_end_run 1000 s q h3 (by omega) (fun i i1 i2 => ⟨by omega, h5 i i1 i2⟩) h6
  refine ⟨e, ?_⟩
  unfold m_kd
  rw [if_neg (by omega), if_neg (m_di_nl h2), if_pos h2, e]
theorem m_te_oth {b : Int → Int} {n s : Int} (h1 : s < n) (h2 : ¬ m_le (b s) = true) (h3 : ¬ m_di (b s) = true) : m_te b n s = s + 1 ∧ m_kd b n s = if m_sgz (b s) = true then 4 else 1 := by
  unfold m_kd m_te
  rw [if_neg (by omega), if_neg h2, if_neg h3, if_neg (by omega), if_neg h2, if_neg h3]
  exact ⟨rfl, rfl⟩
theorem m_dv_s {b : Int → Int} {s q : Int} (h : s ≤ q) : m_dv b s (q + 1 - s).toNat = 10 * m_dv b s (q - s).toNat + (b q - 48) := by
  rw [show (q + 1 - s).toNat = (q - s).toNat + 1 by omega]
  show 10 * m_dv b s (q - s).toNat + (b (s + ((q - s).toNat : Nat)) - 48) = _
  rw [show s + (((q - s).toNat : Nat) : Int) = q by omega]
theorem m_wc_s {b : Int → Int} {s q : Int} (h : s ≤ q) : m_wc b s (q + 1 - s).toNat = 32 * m_wc b s (q - s).toNat + (b q - 96) := by
  rw [show (q + 1 - s).toNat = (q - s).toNat + 1 by omega]
  show 32 * m_wc b s (q - s).toNat + (b (s + ((q - s).toNat : Nat)) - 96) = _
  rw [show s + (((q - s).toNat : Nat) : Int) = q by omega]
theorem m_dv_bd {b : Int → Int} {s : Int} : ∀ (k : Nat), (∀ i : Nat, i < k → m_di (b (s + i)) = true) → 0 ≤ m_dv b s k ∧ m_dv b s k < 10 ^ k
  | 0, _ => ⟨Int.le_refl 0, by show (0 : Int) < 1; decide⟩
  | k + 1, h => by
    obtain ⟨h1, h2⟩ := m_dv_bd k (fun i hi => h i (by omega))
    have h3 := m_di_t.mp (h k (by omega))
    show 0 ≤ 10 * m_dv b s k + (b (s + k) - 48) ∧ 10 * m_dv b s k + (b (s + k) - 48) < 10 ^ (k + 1)
    rw [Int.pow_succ]
    omega
theorem m_wc_bd {b : Int → Int} {s : Int} : ∀ (k : Nat), (∀ i : Nat, i < k → m_le (b (s + i)) = true) → 0 ≤ m_wc b s k ∧ m_wc b s k < 32 ^ k
  | 0, _ => ⟨Int.le_refl 0, by show (0 : Int) < 1; decide⟩
  | k + 1, h => by
    obtain ⟨h1, h2⟩ := m_wc_bd k (fun i hi => h i (by omega))
    have h3 := m_le_t.mp (h k (by omega))
    show 0 ≤ 32 * m_wc b s k + (b (s + k) - 96) ∧ 32 * m_wc b s k + (b (s + k) - 96) < 32 ^ (k + 1)
    rw [Int.pow_succ]
    omega
theorem m_wc_lo {b : Int → Int} {s : Int} (k : Nat) (h : ∀ i : Nat, i < k + 1 → m_le (b (s + i)) = true) : 32 ^ k ≤ m_wc b s (k + 1) := by
  induction k with
  | zero =>
    have h3 := m_le_t.mp (h 0 (by omega))
    show (1 : Int) ≤ 32 * 0 + (b (s + (0 : Nat)) - 96)
    omega
  | succ k ih =>
    have h1 := ih (fun i hi => h i (by omega))
    have h3 := m_le_t.mp (h (k + 1) (by omega))
    show 32 ^ (k + 1) ≤ 32 * m_wc b s (k + 1) + (b (s + ((k + 1 : Nat) : Int)) - 96)
    rw [Int.pow_succ]
    omega
theorem m_p10 : ∀ {k : Nat}, k ≤ 3 → (10 : Int) ^ k ≤ 1000
  | 0, _ => by decide
  | 1, _ => by decide
  | 2, _ => by decide
  | 3, _ => by decide
  | k + 4, h => by omega
-- words
theorem m_kd2 {b : Int → Int} {n s : Int} (h : m_kd b n s = 2) : s < n ∧ m_le (b s) = true ∧ m_te b n s = m_end m_le b n 1000 s := by
  unfold m_kd at h
  by_cases h1 : n ≤ s
  · rw [if_pos h1] at h; cases h
  · rw [if_neg h1] at h
    by_cases h2 : m_le (b s) = true
    · refine ⟨by omega, h2, ?_⟩
      unfold m_te
      rw [if_neg h1, if_pos h2]
    · rw [if_neg h2] at h
      by_cases h3 : m_di (b s) = true
      · rw [if_pos h3] at h
        by_cases h4 : 4 < m_te b n s - s
        · rw [if_pos h4] at h; cases h
        · rw [if_neg h4] at h; cases h
      · rw [if_neg h3] at h
        by_cases h4 : m_sgz (b s) = true
        · rw [if_pos h4] at h; cases h
        · rw [if_neg h4] at h; cases h
theorem m_te_ge {b : Int → Int} {n s : Int} : s ≤ m_te b n s := by
  unfold m_te
  by_cases h1 : n ≤ s
  · rw [if_pos h1]; exact Int.le_refl s
  · rw [if_neg h1]
    by_cases h2 : m_le (b s) = true
    · rw [if_pos h2]; exact m_end_ge _ _
    · rw [if_neg h2]
      by_cases h3 : m_di (b s) = true
      · rw [if_pos h3]; exact m_end_ge _ _
      · rw [if_neg h3]; omega
theorem m_te_le {b : Int → Int} {n s : Int} (h : s ≤ n) : m_te b n s ≤ n := by
  unfold m_te
  by_cases h1 : n ≤ s
  · rw [if_pos h1]; exact h
  · rw [if_neg h1]
    by_cases h2 : m_le (b s) = true
    · rw [if_pos h2]; exact m_end_le _ _ h
    · rw [if_neg h2]
      by_cases h3 : m_di (b s) = true
      · rw [if_pos h3]; exact m_end_le _ _ h
      · rw [if_neg h3]; omega
theorem m_kd2_in {b : Int → Int} {n s : Int} (h : m_kd b n s = 2) {i : Int} (h1 : s ≤ i) (h2 : i < m_te b n s) : m_le (b i) = true := by
  rw [(m_kd2 h).2.2] at h2
  exact m_end_in _ _ _ h1 h2
theorem m_kd2_gt {b : Int → Int} {n s : Int} (h : m_kd b n s = 2) : s < m_te b n s := by
  obtain ⟨h1, h2, h3⟩ := m_kd2 h
  rw [h3]
  show s < (if s < n ∧ m_le (b s) = true then m_end m_le b n 999 (s + 1) else s)
  rw [if_pos ⟨h1, h2⟩]
  have := m_end_ge (P := m_le) (b := b) (n := n) 999 (s + 1)
  omega
theorem m_te_gt {b : Int → Int} {n s : Int} (h : m_kd b n s ≠ 0) : s < m_te b n s := by
  by_cases h1 : n ≤ s
  · exact absurd (m_te_end h1).2 h
  · unfold m_te
    rw [if_neg h1]
    by_cases h2 : m_le (b s) = true
    · rw [if_pos h2]
      show s < (if s < n ∧ m_le (b s) = true then m_end m_le b n 999 (s + 1) else s)
      rw [if_pos ⟨by omega, h2⟩]
      have := m_end_ge (P := m_le) (b := b) (n := n) 999 (s + 1)
      omega
    · rw [if_neg h2]
      by_cases h3 : m_di (b s) = true
      · rw [if_pos h3]
        show s < (if s < n ∧ m_di (b s) = true then m_end m_di b n 999 (s + 1) else s)
        rw [if_pos ⟨by omega, h3⟩]
        have := m_end_ge (P := m_di) (b := b) (n := n) 999 (s + 1)
        omega
      · rw [if_neg h3]; omega
/-- bounds of a code by its length -/
theorem m_cd_bd {b : Int → Int} {n s : Int} (h : m_kd b n s = 2) (h8 : m_te b n s - s ≤ 8) : m_cd b n s = m_wc b s (m_te b n s - s).toNat ∧ 32 ^ ((m_te b n s - s).toNat - 1) ≤ m_cd b n s ∧ m_cd b n s < 32 ^ (m_te b n s - s).toNat := by
  have h0 := m_kd2_gt h
  have e : m_cd b n s = m_wc b s (m_te b n s - s).toNat := by
    unfold m_cd
    rw [if_pos h8]
  refine ⟨e, ?_⟩
  rw [e]
  have hl : ∀ i : Nat, i < (m_te b n s - s).toNat → m_le (b (s + i)) = true := fun i hi => m_kd2_in h (by omega) (by omega)
  obtain ⟨k, hk⟩ : ∃ k, (m_te b n s - s).toNat = k + 1 := ⟨(m_te b n s - s).toNat - 1, by omega⟩
  rw [hk] at hl ⊢
  exact ⟨m_wc_lo k hl, (m_wc_bd (k + 1) hl).2⟩
theorem m_p32 : ∀ {a c : Nat}, a ≤ c → (32 : Int) ^ a ≤ 32 ^ c := by
  intro a c h
  induction c with
  | zero => rw [show a = 0 by omega]; exact Int.le_refl _
  | succ c ih =>
    by_cases e : a = c + 1
    · rw [e]; exact Int.le_refl _
    · have h1 := ih (by omega)
      have h2 := Int.pow_pos (n := 32) (m := c) (by decide)
      rw [Int.pow_succ]
      omega
/-- no such word, by its length -/
theorem m_wi_len {b : Int → Int} {n s w : Int} {k : Nat} (h1 : (32 : Int) ^ k ≤ w) (h2 : w < 32 ^ (k + 1)) (hw : m_wi b n s w) : m_te b n s - s = k + 1 := by
  obtain ⟨hk, hc⟩ := hw
  have h0 := m_kd2_gt hk
  have hp := Int.pow_pos (n := 32) (m := k) (by decide)
  by_cases h8 : m_te b n s - s ≤ 8
  · obtain ⟨e, g1, g2⟩ := m_cd_bd hk h8
    rw [hc] at g1 g2
    by_cases a : (m_te b n s - s).toNat ≤ k
    · have := m_p32 a; omega
    · by_cases c : k + 2 ≤ (m_te b n s - s).toNat
      · have := m_p32 (show k + 1 ≤ (m_te b n s - s).toNat - 1 by omega); omega
      · omega
  · unfold m_cd at hc
    rw [if_neg h8] at hc
    omega
theorem m_wc_pre {b : Int → Int} {s : Int} (k : Nat) : ∀ (m : Nat), (∀ i : Nat, i < k + m → m_le (b (s + i)) = true) → m_wc b s k * 32 ^ m ≤ m_wc b s (k + m) ∧ m_wc b s (k + m) < (m_wc b s k + 1) * 32 ^ m
  | 0, _ => by
    rw [Nat.add_zero, Int.pow_zero]
    omega
  | m + 1, h => by
    obtain ⟨h1, h2⟩ := m_wc_pre k m (fun i hi => h i (by omega))
    have h3 := m_le_t.mp (h (k + m) (by omega))
    have h4 : m_wc b s (k + (m + 1)) = 32 * m_wc b s (k + m) + (b (s + ((k + m : Nat) : Int)) - 96) := rfl
    rw [h4, Int.pow_succ, ← Int.mul_assoc, ← Int.mul_assoc]
    omega
/-- no such word, by its letter at k -/
theorem m_wi_chr {b : Int → Int} {n s w c : Int} {k m : Nat} (hc : c ≠ b (s + k)) (hl : m_te b n s - s = k + 1 + m) (h0 : 0 ≤ w) (g1 : (32 * m_wc b s k + c - 96) * 32 ^ m ≤ w) (g2 : w < (32 * m_wc b s k + c - 96 + 1) * 32 ^ m) : ¬ m_wi b n s w := by
  rintro ⟨hk, hw⟩
  by_cases h8 : m_te b n s - s ≤ 8
  case neg =>
    unfold m_cd at hw
    rw [if_neg h8] at hw
    omega
  obtain ⟨e, -⟩ := m_cd_bd hk h8
  rw [show (m_te b n s - s).toNat = k + 1 + m by omega, hw] at e
  obtain ⟨q1, q2⟩ := m_wc_pre (b := b) (s := s) (k + 1) m (fun i hi => m_kd2_in hk (by omega) (by omega))
  rw [← e] at q1 q2
  have e2 : m_wc b s (k + 1) = 32 * m_wc b s k + (b (s + k) - 96) := rfl
  rw [e2] at q1 q2
  have hp := Int.pow_pos (n := 32) (m := m) (by decide)
  generalize (32 : Int) ^ m = t at *
  rcases Int.lt_or_gt_of_ne hc with hlt | hgt
  · have : (32 * m_wc b s k + c - 96 + 1) * t ≤ (32 * m_wc b s k + (b (s + k) - 96)) * t := Int.mul_le_mul_of_nonneg_right (by omega) (by omega)
    omega
  · have : (32 * m_wc b s k + (b (s + k) - 96) + 1) * t ≤ (32 * m_wc b s k + c - 96) * t := Int.mul_le_mul_of_nonneg_right (by omega) (by omega)
    omega
-- the machine
theorem m_at_s {b : Int → Int} {n : Int} {c : mC} (h : m_at b n (Sum.inl c)) : m_at b n (m_stp b n c) := by
  obtain ⟨k, hk⟩ := h
  refine ⟨k + 1, ?_⟩
  show m_nxt b n (m_rn b n k) = _
  rw [hk]
  rfl
theorem m_cf_a {b : Int → Int} {n st s r1 r2 np : Int} {W : mW} (h : m_cf b n st s r1 r2 np W) (h25 : st ≤ 25) : m_at b n (m_stp b n (st, s, r1, r2, np, W)) := by
  rcases h with ⟨-, h⟩ | ⟨h, -⟩
  · exact m_at_s h
  · omega
theorem m_st_w {b : Int → Int} {n st s r1 r2 np w : Int} {W : mW} {o : mO} (hs : m_stp b n (st, s, r1, r2, np, W) = m_swd b n s w o) (hc : m_cf b n st s r1 r2 np W) (h25 : st ≤ 25) (hw : m_wi b n s w) : m_at b n o := by
  have := m_cf_a hc h25
  rw [hs] at this
  unfold m_swd at this
  rwa [if_pos (show m_kd b n s = 2 ∧ m_cd b n s = w from hw)] at this
theorem m_st_wn {b : Int → Int} {n st s r1 r2 np w : Int} {W : mW} {o : mO} (hs : m_stp b n (st, s, r1, r2, np, W) = m_swd b n s w o) (hc : m_cf b n st s r1 r2 np W) (h25 : st ≤ 25) (hw : ¬ m_wi b n s w) : m_at b n (m_mp b n s) := by
  have := m_cf_a hc h25
  rw [hs] at this
  unfold m_swd at this
  rwa [if_neg (show ¬ (m_kd b n s = 2 ∧ m_cd b n s = w) from hw)] at this
theorem m_st_s {b : Int → Int} {n st s r1 r2 np : Int} {W : mW} {o : mO} (hs : m_stp b n (st, s, r1, r2, np, W) = m_ssg b n s o) (hc : m_cf b n st s r1 r2 np W) (h25 : st ≤ 25) (hw : m_kd b n s = 4 ∧ b s = 59) : m_at b n o := by
  have := m_cf_a hc h25
  rw [hs] at this
  unfold m_ssg at this
  rwa [if_pos hw] at this
theorem m_st_sn {b : Int → Int} {n st s r1 r2 np : Int} {W : mW} {o : mO} (hs : m_stp b n (st, s, r1, r2, np, W) = m_ssg b n s o) (hc : m_cf b n st s r1 r2 np W) (h25 : st ≤ 25) (hw : ¬ (m_kd b n s = 4 ∧ b s = 59)) : m_at b n (m_mp b n s) := by
  have := m_cf_a hc h25
  rw [hs] at this
  unfold m_ssg at this
  rwa [if_neg hw] at this
theorem m_st_n {b : Int → Int} {n st s r1 r2 np lo hi : Int} {W : mW} {o : mO} (hs : m_stp b n (st, s, r1, r2, np, W) = m_snm b n s lo hi o) (hc : m_cf b n st s r1 r2 np W) (h25 : st ≤ 25) (hk : m_kd b n s = 3) (h1 : lo ≤ m_tv b n s) (h2 : m_tv b n s ≤ hi) : m_at b n o := by
  have := m_cf_a hc h25
  rw [hs] at this
  unfold m_snm at this
  rwa [if_pos hk, if_pos ⟨h1, h2⟩] at this
theorem m_st_n4 {b : Int → Int} {n st s r1 r2 np lo hi : Int} {W : mW} {o : mO} (hs : m_stp b n (st, s, r1, r2, np, W) = m_snm b n s lo hi o) (hc : m_cf b n st s r1 r2 np W) (h25 : st ≤ 25) (hk : m_kd b n s = 3) (h1 : m_tv b n s < lo ∨ hi < m_tv b n s) : m_at b n (m_ht 4 s) := by
  have := m_cf_a hc h25
  rw [hs] at this
  unfold m_snm at this
  rwa [if_pos hk, if_neg (by omega)] at this
theorem m_st_nn {b : Int → Int} {n st s r1 r2 np lo hi : Int} {W : mW} {o : mO} (hs : m_stp b n (st, s, r1, r2, np, W) = m_snm b n s lo hi o) (hc : m_cf b n st s r1 r2 np W) (h25 : st ≤ 25) (hk : m_kd b n s ≠ 3) : m_at b n (m_mp b n s) := by
  have := m_cf_a hc h25
  rw [hs] at this
  unfold m_snm at this
  rwa [if_neg hk] at this
/-- a misplaced token: its fault -/
theorem m_mp1 {b : Int → Int} {n s : Int} (h : m_at b n (m_mp b n s)) (hk : m_kd b n s = 1) : m_at b n (m_ht 1 s) := by
  unfold m_mp at h
  rwa [if_pos hk] at h
theorem m_mp2 {b : Int → Int} {n s : Int} (h : m_at b n (m_mp b n s)) (hk : m_kd b n s ≠ 1) : m_at b n (m_ht 2 s) := by
  unfold m_mp at h
  rwa [if_neg hk] at h
theorem m_sk_900 {b : Int → Int} {n e : Int} (hn : n ≤ 900) (he : e ≤ 900) : m_sk b n e ≤ 900 := by
  by_cases h : e ≤ n
  · exact Int.le_trans (m_end_le 1000 e h) hn
  · show (if e < n ∧ m_bl (b e) = true then m_end m_bl b n 999 (e + 1) else e) ≤ 900
    rw [if_neg (by omega)]
    exact he
theorem m_sk_ge {b : Int → Int} {n e : Int} : e ≤ m_sk b n e := m_end_ge 1000 e
-- parts
theorem m_cf_5 {b : Int → Int} {n st s np : Int} {W : mW} (h : m_cf b n st s 0 0 np W) (h5 : st = 5 ∨ 26 ≤ st) : m_at b n (m_prt b n s W) := by
  rcases h with ⟨h2, h⟩ | ⟨-, -, -, h, -⟩
  · obtain rfl : st = 5 := by omega
    exact m_at_s h
  · exact m_at_s h
theorem m_prt_k {b : Int → Int} {n s w : Int} {W : mW} (hw : m_wi b n s w) : m_prt b n s W = if w = 117099109 then (if 6 ≤ m_ln (m_wcs W) then m_ht 6 s else m_go 6 (m_sk b n (m_te b n s)) 0 0 0 W) else if w = 13684206 then (if 4 ≤ m_ln (m_wms W) then m_ht 6 s else m_go 7 (m_sk b n (m_te b n s)) 0 0 0 W) else if w = 635184 then (if 6 ≤ m_ln (m_wss W) then m_ht 6 s else m_go 8 (m_sk b n (m_te b n s)) 0 0 0 W) else if w = 206276 then (if 8 ≤ m_ln (m_wfs W) then m_ht 6 s else m_go 9 (m_sk b n (m_te b n s)) 0 0 0 W) else m_mp b n s := by
  obtain ⟨h1, h2⟩ := hw
  unfold m_prt
  rw [h1, h2, if_neg (by decide)]
  simp only [true_and]
theorem m_prt_n {b : Int → Int} {n s : Int} {W : mW} (h0 : m_kd b n s ≠ 0) (h1 : ¬ m_wi b n s 117099109) (h2 : ¬ m_wi b n s 13684206) (h3 : ¬ m_wi b n s 635184) (h4 : ¬ m_wi b n s 206276) : m_prt b n s W = m_mp b n s := by
  unfold m_prt
  rw [if_neg h0, if_neg (show ¬ (m_kd b n s = 2 ∧ m_cd b n s = 117099109) from h1), if_neg (show ¬ (m_kd b n s = 2 ∧ m_cd b n s = 13684206) from h2), if_neg (show ¬ (m_kd b n s = 2 ∧ m_cd b n s = 635184) from h3), if_neg (show ¬ (m_kd b n s = 2 ∧ m_cd b n s = 206276) from h4)]
-- what stays true of a configuration
def m_iw (W : mW) : Prop := m_ln (m_wcs W) ≤ 6 ∧ m_ln (m_wms W) ≤ 4 ∧ m_ln (m_wss W) ≤ 6 ∧ m_ln (m_wfs W) ≤ 8 ∧ ∀ a ∈ m_wcs W, 1 ≤ a ∧ a ≤ 16
def m_icx (st r1 : Int) (W : mW) : Prop := m_iw W ∧ (0 ≤ st ∧ st ≤ 25) ∧ (st = 6 ∨ st = 10 → m_ln (m_wcs W) ≤ 5) ∧ (st = 7 ∨ m_ps st → m_ln (m_wms W) ≤ 3) ∧ (st = 8 ∨ st = 15 ∨ st = 16 ∨ st = 17 ∨ st = 21 ∨ st = 24 → m_ln (m_wss W) ≤ 5) ∧ (st = 9 ∨ st = 18 ∨ st = 19 ∨ st = 20 ∨ st = 22 ∨ st = 25 → m_ln (m_wfs W) ≤ 7) ∧ (st = 10 → 1 ≤ r1 ∧ r1 ≤ 16)
def m_ic (c : mC) : Prop := m_icx c.1 c.2.2.1 c.2.2.2.2.2
theorem m_swd_i {b : Int → Int} {n s w : Int} {o : mO} {c : mC} (h : m_swd b n s w o = Sum.inl c) : o = Sum.inl c := by
  unfold m_swd at h
  by_cases k : m_kd b n s = 2 ∧ m_cd b n s = w
  · rwa [if_pos k] at h
  · rw [if_neg k] at h; unfold m_mp m_ht at h; cases h
theorem m_ssg_i {b : Int → Int} {n s : Int} {o : mO} {c : mC} (h : m_ssg b n s o = Sum.inl c) : o = Sum.inl c := by
  unfold m_ssg at h
  by_cases k : m_kd b n s = 4 ∧ b s = 59
  · rwa [if_pos k] at h
  · rw [if_neg k] at h; unfold m_mp m_ht at h; cases h
theorem m_snm_i {b : Int → Int} {n s lo hi : Int} {o : mO} {c : mC} (h : m_snm b n s lo hi o = Sum.inl c) : o = Sum.inl c ∧ lo ≤ m_tv b n s ∧ m_tv b n s ≤ hi := by
  unfold m_snm at h
  by_cases k : m_kd b n s = 3
  · rw [if_pos k] at h
    by_cases k2 : lo ≤ m_tv b n s ∧ m_tv b n s ≤ hi
    · rw [if_pos k2] at h; exact ⟨h, k2⟩
    · rw [if_neg k2] at h; unfold m_ht at h; cases h
  · rw [if_neg k] at h; unfold m_mp m_ht at h; cases h
theorem m_prt_i {b : Int → Int} {n s : Int} {W : mW} {c : mC} (h : m_prt b n s W = Sum.inl c) : (m_ln (m_wcs W) ≤ 5 ∧ m_go 6 (m_sk b n (m_te b n s)) 0 0 0 W = Sum.inl c) ∨ (m_ln (m_wms W) ≤ 3 ∧ m_go 7 (m_sk b n (m_te b n s)) 0 0 0 W = Sum.inl c) ∨ (m_ln (m_wss W) ≤ 5 ∧ m_go 8 (m_sk b n (m_te b n s)) 0 0 0 W = Sum.inl c) ∨ (m_ln (m_wfs W) ≤ 7 ∧ m_go 9 (m_sk b n (m_te b n s)) 0 0 0 W = Sum.inl c) := by
  unfold m_prt at h
  by_cases k0 : m_kd b n s = 0
  · rw [if_pos k0] at h; unfold m_dn at h; cases h
  rw [if_neg k0] at h
  by_cases k1 : m_kd b n s = 2 ∧ m_cd b n s = 117099109
  · rw [if_pos k1] at h
    by_cases g : 6 ≤ m_ln (m_wcs W)
    · rw [if_pos g] at h; unfold m_ht at h; cases h
    · rw [if_neg g] at h; exact Or.inl ⟨by omega, h⟩
  rw [if_neg k1] at h
  by_cases k2 : m_kd b n s = 2 ∧ m_cd b n s = 13684206
  · rw [if_pos k2] at h
    by_cases g : 4 ≤ m_ln (m_wms W)
    · rw [if_pos g] at h; unfold m_ht at h; cases h
    · rw [if_neg g] at h; exact Or.inr (Or.inl ⟨by omega, h⟩)
  rw [if_neg k2] at h
  by_cases k3 : m_kd b n s = 2 ∧ m_cd b n s = 635184
  · rw [if_pos k3] at h
    by_cases g : 6 ≤ m_ln (m_wss W)
    · rw [if_pos g] at h; unfold m_ht at h; cases h
    · rw [if_neg g] at h; exact Or.inr (Or.inr (Or.inl ⟨by omega, h⟩))
  rw [if_neg k3] at h
  by_cases k4 : m_kd b n s = 2 ∧ m_cd b n s = 206276
  · rw [if_pos k4] at h
    by_cases g : 8 ≤ m_ln (m_wfs W)
    · rw [if_pos g] at h; unfold m_ht at h; cases h
    · rw [if_neg g] at h; exact Or.inr (Or.inr (Or.inr ⟨by omega, h⟩))
  · rw [if_neg k4] at h; unfold m_mp m_ht at h; cases h
theorem m_ln_a {α : Type} (l : List α) (a : α) : m_ln (l ++ [a]) = m_ln l + 1 := by
  unfold m_ln
  rw [List.length_append]
  rfl
theorem m_ln_0 {α : Type} (l : List α) : 0 ≤ m_ln l := Int.natCast_nonneg _
theorem m_go_i {st s r1 r2 np : Int} {W : mW} {c : mC} (h : m_go st s r1 r2 np W = Sum.inl c) : c = (st, s, r1, r2, np, W) := (Sum.inl.inj h).symm
theorem m_ic_s {b : Int → Int} {n : Int} {c c2 : mC} (hc : m_ic c) (h : m_stp b n c = Sum.inl c2) : m_ic c2 := by
  obtain ⟨st, s, r1, r2, np, W⟩ := c
  obtain ⟨⟨i1, i2, i3, i4, i5⟩, ⟨i6, i7⟩, i8, i9, i10, i11, i12⟩ := (show m_icx st r1 W from hc)
  have hs : st = 0 ∨ st = 1 ∨ st = 2 ∨ st = 3 ∨ st = 4 ∨ st = 5 ∨ st = 6 ∨ st = 7 ∨ st = 8 ∨ st = 9 ∨ st = 10 ∨ st = 11 ∨ st = 12 ∨ st = 13 ∨ st = 14 ∨ st = 15 ∨ st = 16 ∨ st = 17 ∨ st = 18 ∨ st = 19 ∨ st = 20 ∨ st = 21 ∨ st = 22 ∨ st = 23 ∨ st = 24 ∨ st = 25 := by omega
  rcases hs with rfl | rfl | rfl | rfl | rfl | rfl | rfl | rfl | rfl | rfl | rfl | rfl | rfl | rfl | rfl | rfl | rfl | rfl | rfl | rfl | rfl | rfl | rfl | rfl | rfl | rfl
  · have h := m_swd_i h
    rw [m_go_i h]
    exact (show m_icx 1 _ _ from ⟨⟨i1, i2, i3, i4, i5⟩, by decide, fun h => absurd h (by decide), fun h => absurd h (by unfold m_ps; decide), fun h => absurd h (by decide), fun h => absurd h (by decide), fun h => absurd h (by decide)⟩)
  · have h := m_snm_i h
    obtain ⟨h, v1, v2⟩ := h
    rw [m_go_i h]
    exact (show m_icx 2 _ _ from ⟨⟨i1, i2, i3, i4, i5⟩, by decide, fun h => absurd h (by decide), fun h => absurd h (by unfold m_ps; decide), fun h => absurd h (by decide), fun h => absurd h (by decide), fun h => absurd h (by decide)⟩)
  · have h := m_swd_i h
    rw [m_go_i h]
    exact (show m_icx 3 _ _ from ⟨⟨i1, i2, i3, i4, i5⟩, by decide, fun h => absurd h (by decide), fun h => absurd h (by unfold m_ps; decide), fun h => absurd h (by decide), fun h => absurd h (by decide), fun h => absurd h (by decide)⟩)
  · have h := m_snm_i h
    obtain ⟨h, v1, v2⟩ := h
    rw [m_go_i h]
    exact (show m_icx 4 _ _ from ⟨⟨i1, i2, i3, i4, i5⟩, by decide, fun h => absurd h (by decide), fun h => absurd h (by unfold m_ps; decide), fun h => absurd h (by decide), fun h => absurd h (by decide), fun h => absurd h (by decide)⟩)
  · have h := m_go_i (m_ssg_i h)
    rw [h]
    exact (show m_icx 5 _ _ from ⟨⟨i1, i2, i3, i4, i5⟩, by decide, fun h => absurd h (by decide), fun h => absurd h (by unfold m_ps; decide), fun h => absurd h (by decide), fun h => absurd h (by decide), fun h => absurd h (by decide)⟩)
  · rcases m_prt_i h with ⟨g, h⟩ | ⟨g, h⟩ | ⟨g, h⟩ | ⟨g, h⟩
    · rw [m_go_i h]
      exact (show m_icx 6 _ _ from ⟨⟨i1, i2, i3, i4, i5⟩, by decide, fun _ => g, fun h => absurd h (by unfold m_ps; decide), fun h => absurd h (by decide), fun h => absurd h (by decide), fun h => absurd h (by decide)⟩)
    · rw [m_go_i h]
      exact (show m_icx 7 _ _ from ⟨⟨i1, i2, i3, i4, i5⟩, by decide, fun h => absurd h (by decide), fun _ => g, fun h => absurd h (by decide), fun h => absurd h (by decide), fun h => absurd h (by decide)⟩)
    · rw [m_go_i h]
      exact (show m_icx 8 _ _ from ⟨⟨i1, i2, i3, i4, i5⟩, by decide, fun h => absurd h (by decide), fun h => absurd h (by unfold m_ps; decide), fun _ => g, fun h => absurd h (by decide), fun h => absurd h (by decide)⟩)
    · rw [m_go_i h]
      exact (show m_icx 9 _ _ from ⟨⟨i1, i2, i3, i4, i5⟩, by decide, fun h => absurd h (by decide), fun h => absurd h (by unfold m_ps; decide), fun h => absurd h (by decide), fun _ => g, fun h => absurd h (by decide)⟩)
  · have h := m_snm_i h
    obtain ⟨h, v1, v2⟩ := h
    rw [m_go_i h]
    exact (show m_icx 10 _ _ from ⟨⟨i1, i2, i3, i4, i5⟩, by decide, fun _ => i8 (by decide), fun h => absurd h (by unfold m_ps; decide), fun h => absurd h (by decide), fun h => absurd h (by decide), fun _ => ⟨v1, v2⟩⟩)
  · have h : (if m_nmk b n s = true then (if m_tk b n s W = true then m_ht 3 s else m_go 11 (m_sk b n (m_te b n s)) 0 0 s W) else m_mp b n s) = Sum.inl c2 := h
    by_cases k : m_nmk b n s = true
    · rw [if_pos k] at h
      by_cases k2 : m_tk b n s W = true
      · rw [if_pos k2] at h; unfold m_ht at h; cases h
      · rw [if_neg k2] at h
        rw [m_go_i h]
        exact (show m_icx 11 _ _ from ⟨⟨i1, i2, i3, i4, i5⟩, by decide, fun h => absurd h (by decide), fun _ => i9 (by unfold m_ps; decide), fun h => absurd h (by decide), fun h => absurd h (by decide), fun h => absurd h (by decide)⟩)
    · rw [if_neg k] at h; unfold m_mp m_ht at h; cases h
  · have h := m_swd_i h
    rw [m_go_i h]
    exact (show m_icx 15 _ _ from ⟨⟨i1, i2, i3, i4, i5⟩, by decide, fun h => absurd h (by decide), fun h => absurd h (by unfold m_ps; decide), fun _ => i10 (by decide), fun h => absurd h (by decide), fun h => absurd h (by decide)⟩)
  · have h := m_swd_i h
    rw [m_go_i h]
    exact (show m_icx 18 _ _ from ⟨⟨i1, i2, i3, i4, i5⟩, by decide, fun h => absurd h (by decide), fun h => absurd h (by unfold m_ps; decide), fun h => absurd h (by decide), fun _ => i11 (by decide), fun h => absurd h (by decide)⟩)
  · have h := m_go_i (m_ssg_i h)
    rw [h]
    exact (show m_icx 5 _ _ from ⟨⟨by have := i8 (by decide); have := m_ln_a (m_wcs W) r1; show m_ln (m_wcs W ++ [r1]) ≤ 6; omega, i2, i3, i4, fun a ha => by rcases List.mem_append.mp ha with ha | ha; exact i5 a ha; rw [List.mem_singleton.mp ha]; exact i12 rfl⟩, by decide, fun h => absurd h (by decide), fun h => absurd h (by unfold m_ps; decide), fun h => absurd h (by decide), fun h => absurd h (by decide), fun h => absurd h (by decide)⟩)
  · have h := m_swd_i h
    rw [m_go_i h]
    exact (show m_icx 12 _ _ from ⟨⟨i1, i2, i3, i4, i5⟩, by decide, fun h => absurd h (by decide), fun _ => i9 (by unfold m_ps; decide), fun h => absurd h (by decide), fun h => absurd h (by decide), fun h => absurd h (by decide)⟩)
  · have h := m_snm_i h
    obtain ⟨h, v1, v2⟩ := h
    rw [m_go_i h]
    exact (show m_icx 13 _ _ from ⟨⟨i1, i2, i3, i4, i5⟩, by decide, fun h => absurd h (by decide), fun _ => i9 (by unfold m_ps; decide), fun h => absurd h (by decide), fun h => absurd h (by decide), fun h => absurd h (by decide)⟩)
  · have h := m_swd_i h
    rw [m_go_i h]
    exact (show m_icx 14 _ _ from ⟨⟨i1, i2, i3, i4, i5⟩, by decide, fun h => absurd h (by decide), fun _ => i9 (by unfold m_ps; decide), fun h => absurd h (by decide), fun h => absurd h (by decide), fun h => absurd h (by decide)⟩)
  · have h := m_snm_i h
    obtain ⟨h, v1, v2⟩ := h
    rw [m_go_i h]
    exact (show m_icx 23 _ _ from ⟨⟨i1, i2, i3, i4, i5⟩, by decide, fun h => absurd h (by decide), fun _ => i9 (by unfold m_ps; decide), fun h => absurd h (by decide), fun h => absurd h (by decide), fun h => absurd h (by decide)⟩)
  · have h := m_snm_i h
    obtain ⟨h, v1, v2⟩ := h
    rw [m_go_i h]
    exact (show m_icx 21 _ _ from ⟨⟨i1, i2, i3, i4, i5⟩, by decide, fun h => absurd h (by decide), fun h => absurd h (by unfold m_ps; decide), fun _ => i10 (by decide), fun h => absurd h (by decide), fun h => absurd h (by decide)⟩)
  · have h := m_swd_i h
    rw [m_go_i h]
    exact (show m_icx 17 _ _ from ⟨⟨i1, i2, i3, i4, i5⟩, by decide, fun h => absurd h (by decide), fun h => absurd h (by unfold m_ps; decide), fun _ => i10 (by decide), fun h => absurd h (by decide), fun h => absurd h (by decide)⟩)
  · have h := m_snm_i h
    obtain ⟨h, v1, v2⟩ := h
    rw [m_go_i h]
    exact (show m_icx 24 _ _ from ⟨⟨i1, i2, i3, i4, i5⟩, by decide, fun h => absurd h (by decide), fun h => absurd h (by unfold m_ps; decide), fun _ => i10 (by decide), fun h => absurd h (by decide), fun h => absurd h (by decide)⟩)
  · have h := m_snm_i h
    obtain ⟨h, v1, v2⟩ := h
    rw [m_go_i h]
    exact (show m_icx 22 _ _ from ⟨⟨i1, i2, i3, i4, i5⟩, by decide, fun h => absurd h (by decide), fun h => absurd h (by unfold m_ps; decide), fun h => absurd h (by decide), fun _ => i11 (by decide), fun h => absurd h (by decide)⟩)
  · have h := m_swd_i h
    rw [m_go_i h]
    exact (show m_icx 20 _ _ from ⟨⟨i1, i2, i3, i4, i5⟩, by decide, fun h => absurd h (by decide), fun h => absurd h (by unfold m_ps; decide), fun h => absurd h (by decide), fun _ => i11 (by decide), fun h => absurd h (by decide)⟩)
  · have h := m_snm_i h
    obtain ⟨h, v1, v2⟩ := h
    rw [m_go_i h]
    exact (show m_icx 25 _ _ from ⟨⟨i1, i2, i3, i4, i5⟩, by decide, fun h => absurd h (by decide), fun h => absurd h (by unfold m_ps; decide), fun h => absurd h (by decide), fun _ => i11 (by decide), fun h => absurd h (by decide)⟩)
  · have h : (if m_lst (m_wss W) < r1 then m_go 16 s r1 0 np W else m_ht 5 r2) = Sum.inl c2 := h
    by_cases k : m_lst (m_wss W) < r1
    · rw [if_pos k] at h
      rw [m_go_i h]
      exact (show m_icx 16 _ _ from ⟨⟨i1, i2, i3, i4, i5⟩, by decide, fun h => absurd h (by decide), fun h => absurd h (by unfold m_ps; decide), fun _ => i10 (by decide), fun h => absurd h (by decide), fun h => absurd h (by decide)⟩)
    · rw [if_neg k] at h
      unfold m_ht at h; cases h
  · have h : (if m_has (m_wfs W) r1 = true then m_ht 5 r2 else m_go 19 s r1 0 np W) = Sum.inl c2 := h
    by_cases k : m_has (m_wfs W) r1 = true
    · rw [if_pos k] at h
      unfold m_ht at h; cases h
    · rw [if_neg k] at h
      rw [m_go_i h]
      exact (show m_icx 19 _ _ from ⟨⟨i1, i2, i3, i4, i5⟩, by decide, fun h => absurd h (by decide), fun h => absurd h (by unfold m_ps; decide), fun h => absurd h (by decide), fun _ => i11 (by decide), fun h => absurd h (by decide)⟩)
  · have h := m_go_i (m_ssg_i h)
    rw [h]
    exact (show m_icx 5 _ _ from ⟨⟨i1, by have := i9 (by unfold m_ps; decide); have := m_ln_a (m_wms W) (r1, r2, np); show m_ln (m_wms W ++ [(r1, r2, np)]) ≤ 4; omega, i3, i4, i5⟩, by decide, fun h => absurd h (by decide), fun h => absurd h (by unfold m_ps; decide), fun h => absurd h (by decide), fun h => absurd h (by decide), fun h => absurd h (by decide)⟩)
  · have h := m_go_i (m_ssg_i h)
    rw [h]
    exact (show m_icx 5 _ _ from ⟨⟨i1, i2, by have := i10 (by decide); have := m_ln_a (m_wss W) (r1, r2); show m_ln (m_wss W ++ [(r1, r2)]) ≤ 6; omega, i4, i5⟩, by decide, fun h => absurd h (by decide), fun h => absurd h (by unfold m_ps; decide), fun h => absurd h (by decide), fun h => absurd h (by decide), fun h => absurd h (by decide)⟩)
  · have h := m_go_i (m_ssg_i h)
    rw [h]
    exact (show m_icx 5 _ _ from ⟨⟨i1, i2, i3, by have := i11 (by decide); have := m_ln_a (m_wfs W) (r1, r2); show m_ln (m_wfs W ++ [(r1, r2)]) ≤ 8; omega, i5⟩, by decide, fun h => absurd h (by decide), fun h => absurd h (by unfold m_ps; decide), fun h => absurd h (by decide), fun h => absurd h (by decide), fun h => absurd h (by decide)⟩)
theorem m_ic_r {b : Int → Int} {n : Int} : ∀ (k : Nat) {c : mC}, m_rn b n k = Sum.inl c → m_ic c
  | 0, c, h => by
    rw [m_go_i (show m_go 0 (m_sk b n 0) 0 0 0 m_W0 = Sum.inl c from h)]
    exact (show m_icx 0 0 m_W0 from ⟨⟨by decide, by decide, by decide, by decide, fun a ha => absurd ha List.not_mem_nil⟩, by decide, fun h => absurd h (by decide), fun h => absurd h (by unfold m_ps; decide), fun h => absurd h (by decide), fun h => absurd h (by decide), fun h => absurd h (by decide)⟩)
  | k + 1, c, h => by
    have h : m_nxt b n (m_rn b n k) = Sum.inl c := h
    cases hk : m_rn b n k with
    | inl c1 =>
      rw [hk] at h
      exact m_ic_s (m_ic_r k hk) h
    | inr r =>
      rw [hk] at h
      cases h
theorem m_cf_i {b : Int → Int} {n st s r1 r2 np : Int} {W : mW} (h : m_cf b n st s r1 r2 np W) (h25 : st ≤ 25) : m_ic (st, s, r1, r2, np, W) := by
  rcases h with ⟨-, k, h⟩ | ⟨h, -⟩
  · exact m_ic_r k h
  · omega
theorem m_tot_16 : ∀ (l : List Int), (∀ a ∈ l, 1 ≤ a ∧ a ≤ 16) → m_ln l ≤ m_tot l ∧ m_tot l ≤ 16 * m_ln l
  | [], _ => by decide
  | a :: l, h => by
    have h1 := h a List.mem_cons_self
    obtain ⟨h2, h3⟩ := m_tot_16 l (fun x hx => h x (List.mem_cons_of_mem a hx))
    have e : m_ln (a :: l) = m_ln l + 1 := by unfold m_ln; rw [List.length_cons]; rfl
    show m_ln (a :: l) ≤ a + m_tot l ∧ a + m_tot l ≤ 16 * m_ln (a :: l)
    omega
-- places
theorem m_tot_a : ∀ (l : List Int) (a : Int), m_tot (l ++ [a]) = m_tot l + a
  | [], a => by show a + 0 = 0 + a; omega
  | x :: l, a => by
    show x + m_tot (l ++ [a]) = x + m_tot l + a
    rw [m_tot_a l a]
    omega
theorem m_ci_a : ∀ (l : List Int) (a s : Int), (∀ x ∈ l, 0 ≤ x) → 0 ≤ s → s < m_tot l → m_ci (l ++ [a]) s = m_ci l s
  | [], a, s, _, h0, h => by
    have h : s < 0 := h
    omega
  | x :: l, a, s, hl, h0, h => by
    show (if s < x then 0 else 1 + m_ci (l ++ [a]) (s - x)) = (if s < x then 0 else 1 + m_ci l (s - x))
    by_cases k : s < x
    · rw [if_pos k, if_pos k]
    · have h : s < x + m_tot l := h
      rw [if_neg k, if_neg k, m_ci_a l a (s - x) (fun y hy => hl y (List.mem_cons_of_mem x hy)) (by omega) (by omega)]
theorem m_tot_0 : ∀ (l : List Int), (∀ x ∈ l, 0 ≤ x) → 0 ≤ m_tot l
  | [], _ => Int.le_refl 0
  | x :: l, h => by
    have h1 := h x List.mem_cons_self
    have h2 := m_tot_0 l (fun y hy => h y (List.mem_cons_of_mem x hy))
    show 0 ≤ x + m_tot l
    omega
theorem m_ci_l : ∀ (l : List Int) (a s : Int), (∀ x ∈ l, 0 ≤ x) → m_tot l ≤ s → s < m_tot l + a → m_ci (l ++ [a]) s = m_ln l
  | [], a, s, _, h0, h => by
    have h0 : 0 ≤ s := h0
    have h : s < 0 + a := h
    show (if s < a then 0 else 1 + m_ci [] (s - a)) = 0
    rw [if_pos (by omega)]
  | x :: l, a, s, hl, h0, h => by
    have h0 : x + m_tot l ≤ s := h0
    have h : s < x + m_tot l + a := h
    have h1 := m_tot_0 l (fun y hy => hl y (List.mem_cons_of_mem x hy))
    show (if s < x then 0 else 1 + m_ci (l ++ [a]) (s - x)) = m_ln (x :: l)
    rw [if_neg (by omega), m_ci_l l a (s - x) (fun y hy => hl y (List.mem_cons_of_mem x hy)) (by omega) (by omega)]
    unfold m_ln
    rw [List.length_cons]
    omega
theorem m_lo_a : ∀ (l : List (Int × Int)) (p v s : Int), m_lo (l ++ [(p, v)]) s = if p = s then some v else m_lo l s
  | [], p, v, s => rfl
  | q :: l, p, v, s => by
    show (match m_lo (l ++ [(p, v)]) s with
      | some v => some v
      | none => if q.1 = s then some q.2 else none) = _
    rw [m_lo_a l p v s]
    by_cases k : p = s
    · rw [if_pos k, if_pos k]
    · rw [if_neg k, if_neg k]
      rfl
theorem m_lk_a {l : List (Int × Int)} {d p v s : Int} : m_lk (l ++ [(p, v)]) d s = if s = p then v else m_lk l d s := by
  unfold m_lk
  rw [m_lo_a]
  by_cases k : p = s
  · rw [if_pos k, if_pos k.symm]; rfl
  · rw [if_neg k, if_neg (fun e => k e.symm)]
theorem m_wk_a {x : Int → Int} {d p v : Int} {l : List (Int × Int)} (h : m_wk x d l) : m_wk (m_up x p v) d (l ++ [(p, v)]) := by
  intro s h1 h2
  rw [m_lk_a]
  unfold m_up
  by_cases k : s = p
  · rw [if_pos k, if_pos k]
  · rw [if_neg k, if_neg k]
    exact h s h1 h2
theorem m_lst_a (l : List (Int × Int)) (p v : Int) : m_lst (l ++ [(p, v)]) = p := by
  unfold m_lst
  rw [List.getLast?_append, List.getLast?_singleton]
  rfl
theorem m_ln_t {α : Type} (l : List α) : (m_ln l).toNat = l.length := Int.toNat_natCast _
theorem m_w2_a {xa xd : Int → Int} {W : mW} {a : Int} (h : m_w2 xa xd W) (hl : ∀ x ∈ m_wcs W, 0 ≤ x) (h1 : xa (m_ln (m_wcs W)) = m_tot (m_wcs W)) (h2 : ∀ j, m_tot (m_wcs W) ≤ j → j < m_tot (m_wcs W) + a → xd j = m_ln (m_wcs W)) : m_w2 xa xd (W.1, W.2.1, m_wcs W ++ [a], W.2.2.2) := by
  refine ⟨fun k k1 k2 => ?_, fun s s1 s2 => ?_⟩
  · have k2 : k < m_ln (m_wcs W ++ [a]) := k2
    rw [m_ln_a] at k2
    show xa k = m_tot ((m_wcs W ++ [a]).take k.toNat)
    by_cases e : k = m_ln (m_wcs W)
    · rw [e, m_ln_t, List.take_left]
      exact h1
    · rw [List.take_append_of_le_length (by unfold m_ln at *; omega)]
      exact h.1 k k1 (by omega)
  · have s2 : s < m_tot (m_wcs W ++ [a]) := s2
    rw [m_tot_a] at s2
    show xd s = m_ci (m_wcs W ++ [a]) s
    by_cases e : s < m_tot (m_wcs W)
    · rw [m_ci_a _ _ _ hl s1 e]
      exact h.2 s s1 e
    · rw [m_ci_l _ _ _ hl (by omega) s2]
      exact h2 s (by omega) s2
theorem m_w3_a {ba : Int → Int} {qn : Int} {xb xc xg xh : Int → Int} {W : mW} {p q r : Int} (h : m_w3 ba qn xb xc xg xh W) (h1 : xb (m_ln (m_wms W)) = p) (h2 : xc (m_ln (m_wms W)) = q) (h3 : xg (m_ln (m_wms W)) = r) (h4 : xh (m_ln (m_wms W)) = m_te ba qn r - r) : m_w3 ba qn xb xc xg xh (W.1, W.2.1, m_wcs W, m_wms W ++ [(p, q, r)], W.2.2.2.2) := by
  intro k hk
  have hk : k < (m_wms W ++ [(p, q, r)]).length := hk
  rw [List.length_append, List.length_singleton] at hk
  show (m_wms W ++ [(p, q, r)])[k]? = some (xb k, xc k, xg k) ∧ xh k = m_te ba qn (xg k) - xg k
  by_cases e : k < (m_wms W).length
  · rw [List.getElem?_append_left e]
    exact h k e
  · obtain rfl : k = (m_wms W).length := by omega
    rw [List.getElem?_append_right (Nat.le_refl _), Nat.sub_self]
    show some (p, q, r) = some (xb (m_ln (m_wms W)), xc (m_ln (m_wms W)), xg (m_ln (m_wms W))) ∧ xh (m_ln (m_wms W)) = m_te ba qn (xg (m_ln (m_wms W))) - xg (m_ln (m_wms W))
    rw [h1, h2, h3]
    exact ⟨rfl, h4⟩
-- names and years
def m_jx (b : Int → Int) (n st r2 np : Int) (W : mW) : Prop := (∀ x ∈ m_wms W, m_nmk b n x.2.2 = true) ∧ (∀ q ∈ m_wfs W, 0 ≤ q.2) ∧ (m_ps st → m_nmk b n np = true) ∧ (st = 25 → 0 ≤ r2) ∧ (0 ≤ st ∧ st ≤ 25)
def m_jc (b : Int → Int) (n : Int) (c : mC) : Prop := m_jx b n c.1 c.2.2.2.1 c.2.2.2.2.1 c.2.2.2.2.2
theorem m_jc_s {b : Int → Int} {n : Int} {c c2 : mC} (hc : m_jc b n c) (h : m_stp b n c = Sum.inl c2) : m_jc b n c2 := by
  obtain ⟨st, s, r1, r2, np, W⟩ := c
  obtain ⟨i1, i2, i3, i4, i6, i7⟩ := (show m_jx b n st r2 np W from hc)
  have hs : st = 0 ∨ st = 1 ∨ st = 2 ∨ st = 3 ∨ st = 4 ∨ st = 5 ∨ st = 6 ∨ st = 7 ∨ st = 8 ∨ st = 9 ∨ st = 10 ∨ st = 11 ∨ st = 12 ∨ st = 13 ∨ st = 14 ∨ st = 15 ∨ st = 16 ∨ st = 17 ∨ st = 18 ∨ st = 19 ∨ st = 20 ∨ st = 21 ∨ st = 22 ∨ st = 23 ∨ st = 24 ∨ st = 25 := by omega
  rcases hs with rfl | rfl | rfl | rfl | rfl | rfl | rfl | rfl | rfl | rfl | rfl | rfl | rfl | rfl | rfl | rfl | rfl | rfl | rfl | rfl | rfl | rfl | rfl | rfl | rfl | rfl
  · have h := m_swd_i h
    rw [m_go_i h]
    exact (show m_jx b n 1 _ _ _ from ⟨i1, i2, fun h => absurd h (by unfold m_ps; decide), fun h => absurd h (by decide), by decide⟩)
  · have h := m_snm_i h
    obtain ⟨h, v1, v2⟩ := h
    rw [m_go_i h]
    exact (show m_jx b n 2 _ _ _ from ⟨i1, i2, fun h => absurd h (by unfold m_ps; decide), fun h => absurd h (by decide), by decide⟩)
  · have h := m_swd_i h
    rw [m_go_i h]
    exact (show m_jx b n 3 _ _ _ from ⟨i1, i2, fun h => absurd h (by unfold m_ps; decide), fun h => absurd h (by decide), by decide⟩)
  · have h := m_snm_i h
    obtain ⟨h, v1, v2⟩ := h
    rw [m_go_i h]
    exact (show m_jx b n 4 _ _ _ from ⟨i1, i2, fun h => absurd h (by unfold m_ps; decide), fun h => absurd h (by decide), by decide⟩)
  · have h := m_go_i (m_ssg_i h)
    rw [h]
    exact (show m_jx b n 5 _ _ _ from ⟨i1, i2, fun h => absurd h (by unfold m_ps; decide), fun h => absurd h (by decide), by decide⟩)
  · rcases m_prt_i h with ⟨g, h⟩ | ⟨g, h⟩ | ⟨g, h⟩ | ⟨g, h⟩
    · rw [m_go_i h]
      exact (show m_jx b n 6 _ _ _ from ⟨i1, i2, fun h => absurd h (by unfold m_ps; decide), fun h => absurd h (by decide), by decide⟩)
    · rw [m_go_i h]
      exact (show m_jx b n 7 _ _ _ from ⟨i1, i2, fun h => absurd h (by unfold m_ps; decide), fun h => absurd h (by decide), by decide⟩)
    · rw [m_go_i h]
      exact (show m_jx b n 8 _ _ _ from ⟨i1, i2, fun h => absurd h (by unfold m_ps; decide), fun h => absurd h (by decide), by decide⟩)
    · rw [m_go_i h]
      exact (show m_jx b n 9 _ _ _ from ⟨i1, i2, fun h => absurd h (by unfold m_ps; decide), fun h => absurd h (by decide), by decide⟩)
  · have h := m_snm_i h
    obtain ⟨h, v1, v2⟩ := h
    rw [m_go_i h]
    exact (show m_jx b n 10 _ _ _ from ⟨i1, i2, fun h => absurd h (by unfold m_ps; decide), fun h => absurd h (by decide), by decide⟩)
  · have h : (if m_nmk b n s = true then (if m_tk b n s W = true then m_ht 3 s else m_go 11 (m_sk b n (m_te b n s)) 0 0 s W) else m_mp b n s) = Sum.inl c2 := h
    by_cases k : m_nmk b n s = true
    · rw [if_pos k] at h
      by_cases k2 : m_tk b n s W = true
      · rw [if_pos k2] at h; unfold m_ht at h; cases h
      · rw [if_neg k2] at h
        rw [m_go_i h]
        exact (show m_jx b n 11 _ _ _ from ⟨i1, i2, fun _ => k, fun h => absurd h (by decide), by decide⟩)
    · rw [if_neg k] at h; unfold m_mp m_ht at h; cases h
  · have h := m_swd_i h
    rw [m_go_i h]
    exact (show m_jx b n 15 _ _ _ from ⟨i1, i2, fun h => absurd h (by unfold m_ps; decide), fun h => absurd h (by decide), by decide⟩)
  · have h := m_swd_i h
    rw [m_go_i h]
    exact (show m_jx b n 18 _ _ _ from ⟨i1, i2, fun h => absurd h (by unfold m_ps; decide), fun h => absurd h (by decide), by decide⟩)
  · have h := m_go_i (m_ssg_i h)
    rw [h]
    exact (show m_jx b n 5 _ _ _ from ⟨i1, i2, fun h => absurd h (by unfold m_ps; decide), fun h => absurd h (by decide), by decide⟩)
  · have h := m_swd_i h
    rw [m_go_i h]
    exact (show m_jx b n 12 _ _ _ from ⟨i1, i2, fun _ => i3 (by unfold m_ps; decide), fun h => absurd h (by decide), by decide⟩)
  · have h := m_snm_i h
    obtain ⟨h, v1, v2⟩ := h
    rw [m_go_i h]
    exact (show m_jx b n 13 _ _ _ from ⟨i1, i2, fun _ => i3 (by unfold m_ps; decide), fun h => absurd h (by decide), by decide⟩)
  · have h := m_swd_i h
    rw [m_go_i h]
    exact (show m_jx b n 14 _ _ _ from ⟨i1, i2, fun _ => i3 (by unfold m_ps; decide), fun h => absurd h (by decide), by decide⟩)
  · have h := m_snm_i h
    obtain ⟨h, v1, v2⟩ := h
    rw [m_go_i h]
    exact (show m_jx b n 23 _ _ _ from ⟨i1, i2, fun _ => i3 (by unfold m_ps; decide), fun h => absurd h (by decide), by decide⟩)
  · have h := m_snm_i h
    obtain ⟨h, v1, v2⟩ := h
    rw [m_go_i h]
    exact (show m_jx b n 21 _ _ _ from ⟨i1, i2, fun h => absurd h (by unfold m_ps; decide), fun h => absurd h (by decide), by decide⟩)
  · have h := m_swd_i h
    rw [m_go_i h]
    exact (show m_jx b n 17 _ _ _ from ⟨i1, i2, fun h => absurd h (by unfold m_ps; decide), fun h => absurd h (by decide), by decide⟩)
  · have h := m_snm_i h
    obtain ⟨h, v1, v2⟩ := h
    rw [m_go_i h]
    exact (show m_jx b n 24 _ _ _ from ⟨i1, i2, fun h => absurd h (by unfold m_ps; decide), fun h => absurd h (by decide), by decide⟩)
  · have h := m_snm_i h
    obtain ⟨h, v1, v2⟩ := h
    rw [m_go_i h]
    exact (show m_jx b n 22 _ _ _ from ⟨i1, i2, fun h => absurd h (by unfold m_ps; decide), fun h => absurd h (by decide), by decide⟩)
  · have h := m_swd_i h
    rw [m_go_i h]
    exact (show m_jx b n 20 _ _ _ from ⟨i1, i2, fun h => absurd h (by unfold m_ps; decide), fun h => absurd h (by decide), by decide⟩)
  · have h := m_snm_i h
    obtain ⟨h, v1, v2⟩ := h
    rw [m_go_i h]
    exact (show m_jx b n 25 _ _ _ from ⟨i1, i2, fun h => absurd h (by unfold m_ps; decide), fun _ => v1, by decide⟩)
  · have h : (if m_lst (m_wss W) < r1 then m_go 16 s r1 0 np W else m_ht 5 r2) = Sum.inl c2 := h
    by_cases k : m_lst (m_wss W) < r1
    · rw [if_pos k] at h
      rw [m_go_i h]
      exact (show m_jx b n 16 _ _ _ from ⟨i1, i2, fun h => absurd h (by unfold m_ps; decide), fun h => absurd h (by decide), by decide⟩)
    · rw [if_neg k] at h
      unfold m_ht at h; cases h
  · have h : (if m_has (m_wfs W) r1 = true then m_ht 5 r2 else m_go 19 s r1 0 np W) = Sum.inl c2 := h
    by_cases k : m_has (m_wfs W) r1 = true
    · rw [if_pos k] at h
      unfold m_ht at h; cases h
    · rw [if_neg k] at h
      rw [m_go_i h]
      exact (show m_jx b n 19 _ _ _ from ⟨i1, i2, fun h => absurd h (by unfold m_ps; decide), fun h => absurd h (by decide), by decide⟩)
  · have h := m_go_i (m_ssg_i h)
    rw [h]
    exact (show m_jx b n 5 _ _ _ from ⟨(fun x hx => by rcases List.mem_append.mp hx with hx | hx; exact i1 x hx; rw [List.mem_singleton.mp hx]; exact i3 (by unfold m_ps; decide)), i2, fun h => absurd h (by unfold m_ps; decide), fun h => absurd h (by decide), by decide⟩)
  · have h := m_go_i (m_ssg_i h)
    rw [h]
    exact (show m_jx b n 5 _ _ _ from ⟨i1, i2, fun h => absurd h (by unfold m_ps; decide), fun h => absurd h (by decide), by decide⟩)
  · have h := m_go_i (m_ssg_i h)
    rw [h]
    exact (show m_jx b n 5 _ _ _ from ⟨i1, (fun x hx => by rcases List.mem_append.mp hx with hx | hx; exact i2 x hx; rw [List.mem_singleton.mp hx]; exact i4 rfl), fun h => absurd h (by unfold m_ps; decide), fun h => absurd h (by decide), by decide⟩)
theorem m_jc_r {b : Int → Int} {n : Int} : ∀ (k : Nat) {c : mC}, m_rn b n k = Sum.inl c → m_jc b n c
  | 0, c, h => by
    rw [m_go_i (show m_go 0 (m_sk b n 0) 0 0 0 m_W0 = Sum.inl c from h)]
    exact (show m_jx b n 0 0 0 m_W0 from ⟨fun a ha => absurd ha List.not_mem_nil, fun a ha => absurd ha List.not_mem_nil, fun h => absurd h (by unfold m_ps; decide), fun h => absurd h (by decide), by decide⟩)
  | k + 1, c, h => by
    have h : m_nxt b n (m_rn b n k) = Sum.inl c := h
    cases hk : m_rn b n k with
    | inl c1 =>
      rw [hk] at h
      exact m_jc_s (m_jc_r k hk) h
    | inr r =>
      rw [hk] at h
      cases h
theorem m_cf_j {b : Int → Int} {n st s r1 r2 np : Int} {W : mW} (h : m_cf b n st s r1 r2 np W) (h25 : st ≤ 25) : m_jx b n st r2 np W := by
  rcases h with ⟨-, k, h⟩ | ⟨h, -⟩
  · exact m_jc_r k h
  · omega
theorem m_nmk_t {b : Int → Int} {n s : Int} : m_nmk b n s = true ↔ m_kd b n s = 2 ∧ m_te b n s - s ≤ 8 ∧ ∀ w ∈ m_RS, m_cd b n s ≠ w := by
  unfold m_nmk
  rw [Bool.and_eq_true, Bool.and_eq_true, decide_eq_true_eq, decide_eq_true_eq, Bool.not_eq_true', List.any_eq_false]
  simp only [decide_eq_true_eq]
theorem m_wc_inj {b : Int → Int} {s t : Int} : ∀ (k : Nat), (∀ i : Nat, i < k → m_le (b (s + i)) = true) → (∀ i : Nat, i < k → m_le (b (t + i)) = true) → m_wc b s k = m_wc b t k → ∀ i : Nat, i < k → b (s + i) = b (t + i)
  | 0, _, _, _, i, hi => by omega
  | k + 1, h1, h2, h, i, hi => by
    have h : 32 * m_wc b s k + (b (s + k) - 96) = 32 * m_wc b t k + (b (t + k) - 96) := h
    have g1 := m_le_t.mp (h1 k (by omega))
    have g2 := m_le_t.mp (h2 k (by omega))
    by_cases e : i = k
    · subst e; omega
    · exact m_wc_inj k (fun i hi => h1 i (by omega)) (fun i hi => h2 i (by omega)) (by omega) i (by omega)
theorem m_wc_cg {b : Int → Int} {s t : Int} : ∀ (k : Nat), (∀ i : Nat, i < k → b (s + i) = b (t + i)) → m_wc b s k = m_wc b t k
  | 0, _ => rfl
  | k + 1, h => by
    show 32 * m_wc b s k + (b (s + k) - 96) = 32 * m_wc b t k + (b (t + k) - 96)
    rw [m_wc_cg k (fun i hi => h i (by omega)), h k (by omega)]
/-- one code, one word -/
theorem m_cd_inj {b : Int → Int} {n s t : Int} (h1 : m_kd b n s = 2) (h2 : m_te b n s - s ≤ 8) (h3 : m_kd b n t = 2) (h4 : m_te b n t - t ≤ 8) (h : m_cd b n s = m_cd b n t) : m_te b n s - s = m_te b n t - t ∧ ∀ i, 0 ≤ i → i < m_te b n s - s → b (s + i) = b (t + i) := by
  obtain ⟨a1, a2, a3⟩ := m_cd_bd h1 h2
  obtain ⟨c1, c2, c3⟩ := m_cd_bd h3 h4
  have g1 := m_kd2_gt h1
  have g2 := m_kd2_gt h3
  have e : (m_te b n s - s).toNat = (m_te b n t - t).toNat := by
    rcases Nat.lt_trichotomy (m_te b n s - s).toNat (m_te b n t - t).toNat with k | k | k
    · have := m_p32 (show (m_te b n s - s).toNat ≤ (m_te b n t - t).toNat - 1 by omega); omega
    · exact k
    · have := m_p32 (show (m_te b n t - t).toNat ≤ (m_te b n s - s).toNat - 1 by omega); omega
  refine ⟨by omega, fun i i1 i2 => ?_⟩
  have q := m_wc_inj (b := b) (s := s) (t := t) (m_te b n s - s).toNat (fun i hi => m_kd2_in h1 (by omega) (by omega)) (fun i hi => m_kd2_in h3 (by omega) (by omega)) (by rw [← a1, h, c1, e]) i.toNat (by omega)
  rw [show ((i.toNat : Nat) : Int) = i by omega] at q
  exact q
theorem m_cd_cg {b : Int → Int} {n s t : Int} (h : m_te b n s - s = m_te b n t - t) (hb : ∀ i, 0 ≤ i → i < m_te b n s - s → b (s + i) = b (t + i)) : m_cd b n s = m_cd b n t := by
  unfold m_cd
  rw [← h, m_wc_cg (m_te b n s - s).toNat (fun i hi => hb i (by omega) (by omega))]
theorem m_has_t {l : List (Int × Int)} {v : Int} : m_has l v = true ↔ ∃ q ∈ l, q.1 = v := by
  unfold m_has
  rw [List.any_eq_true]
  simp only [decide_eq_true_eq]
theorem m_lo_n : ∀ (l : List (Int × Int)) (s : Int), (¬ ∃ q ∈ l, q.1 = s) → m_lo l s = none
  | [], s, _ => rfl
  | q :: l, s, h => by
    show (match m_lo l s with
      | some v => some v
      | none => if q.1 = s then some q.2 else none) = none
    rw [m_lo_n l s (fun ⟨x, hx, e⟩ => h ⟨x, List.mem_cons_of_mem q hx, e⟩)]
    exact if_neg (fun e => h ⟨q, List.mem_cons_self, e⟩)
theorem m_lo_y : ∀ (l : List (Int × Int)) (s : Int), (∃ q ∈ l, q.1 = s) → ∃ q ∈ l, q.1 = s ∧ m_lo l s = some q.2
  | [], s, h => by
    obtain ⟨x, hx, -⟩ := h
    exact absurd hx List.not_mem_nil
  | q :: l, s, h => by
    by_cases k : ∃ x ∈ l, x.1 = s
    · obtain ⟨x, hx, e, g⟩ := m_lo_y l s k
      refine ⟨x, List.mem_cons_of_mem q hx, e, ?_⟩
      show (match m_lo l s with
        | some v => some v
        | none => if q.1 = s then some q.2 else none) = _
      rw [g]
    · obtain ⟨x, hx, e⟩ := h
      rcases List.mem_cons.mp hx with rfl | hx
      · refine ⟨x, List.mem_cons_self, e, ?_⟩
        show (match m_lo l s with
          | some v => some v
          | none => if x.1 = s then some x.2 else none) = _
        rw [m_lo_n l s k]
        exact if_pos e
      · exact absurd ⟨x, hx, e⟩ k
-- the reference's bytes
theorem m_lk_i {b : Int → Int} {n q r : Int} (h : r = if q < n then b q % 256 else 0) (h0 : 1 ≤ r) : q < n ∧ b q % 256 = r := by
  by_cases k : q < n
  · rw [if_pos k] at h; exact ⟨k, h.symm⟩
  · rw [if_neg k] at h; omega
theorem m_sum_tot {l : List Int} {f : Int → Int} (h : ∀ k : Nat, k < l.length → l[k]? = some (f k)) : ∀ k : Nat, k ≤ l.length → m_sum f k = m_tot (l.take k)
  | 0, _ => rfl
  | k + 1, hk => by
    show m_sum f k + f k = m_tot (l.take (k + 1))
    rw [m_sum_tot h k (by omega), List.take_add_one, h k (by omega)]
    show m_tot (l.take k) + f k = m_tot (l.take k ++ [f k])
    rw [m_tot_a]
-- the reference's block
def m_upo (off n : Nat) (f : Int → Int) (i z : Int) : Int → Int := if 0 ≤ i - off ∧ i - off < n then m_up f (i - off) z else f
theorem m_upo_e {off n : Nat} {f : Int → Int} {i z p : Int} (h : i - off = p) (h0 : 0 ≤ p) (h1 : p < n) : m_upo off n f i z = m_up f p z := by
  unfold m_upo
  rw [if_pos (by omega), h]
theorem m_upo_n {off n : Nat} {f : Int → Int} {i z : Int} (h : i < off ∨ off + n ≤ i) : m_upo off n f i z = f := by
  unfold m_upo
  rw [if_neg (by omega)]
theorem m_wr_tot {bb : Int → Int} {rn : Int} {nw ww : Int → Int} {W : mW} (h : m_wr bb rn nw ww W) : m_sum (fun j => nw (7 + j)) (nw 2).toNat = m_tot (m_wcs W) := by
  obtain ⟨⟨h1, -⟩, h2, -⟩ := h
  rw [h1, m_ln_t, m_sum_tot (fun k hk => h2 k hk) (m_wcs W).length (Nat.le_refl _), List.take_length]
theorem m_wr_lst {bb : Int → Int} {rn : Int} {nw ww : Int → Int} {W : mW} (h : m_wr bb rn nw ww W) : m_lst (m_wss W) = if nw 4 = 0 then 0 else nw (20 + nw 4) := by
  obtain ⟨⟨-, -, h1, -⟩, -, -, h2, -⟩ := h
  unfold m_lst
  rw [List.getLast?_eq_getElem?, h1]
  by_cases k : (m_wss W).length = 0
  · rw [if_pos (by unfold m_ln; omega), List.getElem?_eq_none (by omega)]
  · rw [if_neg (by unfold m_ln; omega), h2 _ (by omega)]
    show nw (21 + (((m_wss W).length - 1 : Nat) : Int)) = nw (20 + m_ln (m_wss W))
    congr 1
    unfold m_ln
    omega
theorem m_wr_has {bb : Int → Int} {rn : Int} {nw ww : Int → Int} {W : mW} (h : m_wr bb rn nw ww W) {v : Int} : m_has (m_wfs W) v = true ↔ ∃ k, 0 ≤ k ∧ k < nw 5 ∧ nw (33 + k) = v := by
  obtain ⟨⟨-, -, -, h1⟩, -, -, -, h2, -⟩ := h
  rw [m_has_t, h1]
  constructor
  · rintro ⟨q, hq, e⟩
    obtain ⟨i, hi⟩ := List.mem_iff_getElem?.mp hq
    have hl := (List.getElem?_eq_some_iff.mp hi).1
    have h3 := h2 i hl
    rw [hi] at h3
    have h3 := Option.some.inj h3
    rw [h3] at e
    exact ⟨i, by omega, by unfold m_ln; omega, e⟩
  · rintro ⟨k, k1, k2, e⟩
    unfold m_ln at k2
    have h3 := h2 k.toNat (by omega)
    rw [show ((k.toNat : Nat) : Int) = k by omega] at h3
    exact ⟨_, List.mem_of_getElem? h3, e⟩
theorem m_wr_tk {bb : Int → Int} {rn : Int} {nw ww : Int → Int} {W : mW} (h : m_wr bb rn nw ww W) {s : Int} : m_tk bb rn s W = true ↔ ∃ k, 0 ≤ k ∧ k < nw 3 ∧ ww k = m_cd bb rn s := by
  obtain ⟨⟨-, h1, -⟩, -, h2, -⟩ := h
  unfold m_tk
  rw [List.any_eq_true, h1]
  constructor
  · rintro ⟨q, hq, e⟩
    rw [decide_eq_true_eq] at e
    obtain ⟨i, hi⟩ := List.mem_iff_getElem?.mp hq
    have hl := (List.getElem?_eq_some_iff.mp hi).1
    obtain ⟨np, h3, h4⟩ := h2 i hl
    rw [hi] at h3
    have h3 := Option.some.inj h3
    rw [h3] at e
    exact ⟨i, by omega, by unfold m_ln; omega, h4.trans e⟩
  · rintro ⟨k, k1, k2, e⟩
    unfold m_ln at k2
    obtain ⟨np, h3, h4⟩ := h2 k.toNat (by omega)
    rw [show ((k.toNat : Nat) : Int) = k by omega] at h4
    refine ⟨_, List.mem_of_getElem? h3, ?_⟩
    rw [decide_eq_true_eq]
    exact h4.symm.trans e
theorem m_wr_up {bb : Int → Int} {rn : Int} {nw ww : Int → Int} {W : mW} {p z : Int} (h : m_wr bb rn nw ww W) (h0 : p ≠ 2 ∧ p ≠ 3 ∧ p ≠ 4 ∧ p ≠ 5 ∧ p ≠ 6 ∧ p < 49) (h1 : ∀ k : Nat, k < (m_wcs W).length → 7 + (k : Int) ≠ p) (h2 : ∀ k : Nat, k < (m_wms W).length → 13 + (k : Int) ≠ p ∧ 17 + (k : Int) ≠ p) (h3 : ∀ k : Nat, k < (m_wss W).length → 21 + (k : Int) ≠ p ∧ 27 + (k : Int) ≠ p) (h4 : ∀ k : Nat, k < (m_wfs W).length → 33 + (k : Int) ≠ p ∧ 41 + (k : Int) ≠ p) : m_wr bb rn (m_up nw p z) ww W := by
  obtain ⟨⟨a1, a2, a3, a4⟩, b1, b2, b3, b4, b5⟩ := h
  refine ⟨⟨?_, ?_, ?_, ?_⟩, fun k hk => ?_, fun k hk => ?_, fun k hk => ?_, fun k hk => ?_, fun i hi => ?_⟩
  · rw [m_up_ne (by omega)]; exact a1
  · rw [m_up_ne (by omega)]; exact a2
  · rw [m_up_ne (by omega)]; exact a3
  · rw [m_up_ne (by omega)]; exact a4
  · rw [m_up_ne (h1 k hk)]; exact b1 k hk
  · rw [m_up_ne (h2 k hk).1, m_up_ne (h2 k hk).2]; exact b2 k hk
  · rw [m_up_ne (h3 k hk).1, m_up_ne (h3 k hk).2]; exact b3 k hk
  · rw [m_up_ne (h4 k hk).1, m_up_ne (h4 k hk).2]; exact b4 k hk
  · rw [m_up_ne (by omega)]; exact b5 i hi
theorem m_get_a {α : Type} {l : List α} {a : α} {f : Nat → α} (h : ∀ k : Nat, k < l.length → l[k]? = some (f k)) (ha : a = f l.length) : ∀ k : Nat, k < (l ++ [a]).length → (l ++ [a])[k]? = some (f k) := by
  intro k hk
  rw [List.length_append, List.length_singleton] at hk
  by_cases e : k < l.length
  · rw [List.getElem?_append_left e]
    exact h k e
  · obtain rfl : k = l.length := by omega
    rw [List.getElem?_append_right (Nat.le_refl _), Nat.sub_self, ha]
    rfl
theorem m_wr_c {bb : Int → Int} {rn : Int} {nw ww : Int → Int} {W : mW} {a : Int} (h : m_wr bb rn nw ww W) (ha : nw (7 + nw 2) = a) : m_wr bb rn (m_up nw 2 (nw 2 + 1)) ww (W.1, W.2.1, m_wcs W ++ [a], W.2.2.2) := by
  obtain ⟨⟨a1, a2, a3, a4⟩, b1, b2, b3, b4, b5⟩ := h
  refine ⟨⟨?_, ?_, ?_, ?_⟩, fun k hk => ?_, fun k hk => ?_, fun k hk => ?_, fun k hk => ?_, fun i hi => ?_⟩
  · show _ = m_ln (m_wcs W ++ [a]); rw [m_up_at rfl, m_ln_a]; omega
  · rw [m_up_ne (by omega)]; exact a2
  · rw [m_up_ne (by omega)]; exact a3
  · rw [m_up_ne (by omega)]; exact a4
  · rw [m_up_ne (by omega)]
    exact m_get_a (f := fun k : Nat => nw (7 + k)) b1 (by rw [← ha, a1]; rfl) k hk
  · rw [m_up_ne (by omega), m_up_ne (by omega)]; exact b2 k hk
  · rw [m_up_ne (by omega), m_up_ne (by omega)]; exact b3 k hk
  · rw [m_up_ne (by omega), m_up_ne (by omega)]; exact b4 k hk
  · rw [m_up_ne (by omega)]; exact b5 i hi
theorem m_wr_m {bb : Int → Int} {rn : Int} {nw ww : Int → Int} {W : mW} {r1 r2 np : Int} (h : m_wr bb rn nw ww W) (h1 : nw (13 + nw 3) = r1) (h2 : nw (17 + nw 3) = r2) (h3 : ww (nw 3) = m_cd bb rn np) : m_wr bb rn (m_up nw 3 (nw 3 + 1)) ww (W.1, W.2.1, m_wcs W, m_wms W ++ [(r1, r2, np)], W.2.2.2.2) := by
  obtain ⟨⟨a1, a2, a3, a4⟩, b1, b2, b3, b4, b5⟩ := h
  refine ⟨⟨?_, ?_, ?_, ?_⟩, fun k hk => ?_, fun k hk => ?_, fun k hk => ?_, fun k hk => ?_, fun i hi => ?_⟩
  · rw [m_up_ne (by omega)]; exact a1
  · show _ = m_ln (m_wms W ++ [(r1, r2, np)]); rw [m_up_at rfl, m_ln_a]; omega
  · rw [m_up_ne (by omega)]; exact a3
  · rw [m_up_ne (by omega)]; exact a4
  · rw [m_up_ne (by omega)]; exact b1 k hk
  · rw [m_up_ne (by omega), m_up_ne (by omega)]
    have hk : k < (m_wms W ++ [(r1, r2, np)]).length := hk
    rw [List.length_append, List.length_singleton] at hk
    show ∃ np2, (m_wms W ++ [(r1, r2, np)])[k]? = some (nw (13 + k), nw (17 + k), np2) ∧ ww k = m_cd bb rn np2
    by_cases e : k < (m_wms W).length
    · rw [List.getElem?_append_left e]
      exact b2 k e
    · obtain rfl : k = (m_wms W).length := by omega
      rw [List.getElem?_append_right (Nat.le_refl _), Nat.sub_self]
      rw [a2] at h1 h2 h3
      exact ⟨np, by rw [← h1, ← h2]; rfl, h3⟩
  · rw [m_up_ne (by omega), m_up_ne (by omega)]; exact b3 k hk
  · rw [m_up_ne (by omega), m_up_ne (by omega)]; exact b4 k hk
  · rw [m_up_ne (by omega)]; exact b5 i hi
theorem m_wr_s {bb : Int → Int} {rn : Int} {nw ww : Int → Int} {W : mW} {r1 r2 : Int} (h : m_wr bb rn nw ww W) (h1 : nw (21 + nw 4) = r1) (h2 : nw (27 + nw 4) = r2) : m_wr bb rn (m_up nw 4 (nw 4 + 1)) ww (W.1, W.2.1, m_wcs W, m_wms W, m_wss W ++ [(r1, r2)], m_wfs W) := by
  obtain ⟨⟨a1, a2, a3, a4⟩, b1, b2, b3, b4, b5⟩ := h
  refine ⟨⟨?_, ?_, ?_, ?_⟩, fun k hk => ?_, fun k hk => ?_, fun k hk => ?_, fun k hk => ?_, fun i hi => ?_⟩
  · rw [m_up_ne (by omega)]; exact a1
  · rw [m_up_ne (by omega)]; exact a2
  · show _ = m_ln (m_wss W ++ [(r1, r2)]); rw [m_up_at rfl, m_ln_a]; omega
  · rw [m_up_ne (by omega)]; exact a4
  · rw [m_up_ne (by omega)]; exact b1 k hk
  · rw [m_up_ne (by omega), m_up_ne (by omega)]; exact b2 k hk
  · rw [m_up_ne (by omega), m_up_ne (by omega)]
    exact m_get_a (f := fun k : Nat => (nw (21 + k), nw (27 + k))) b3 (by rw [← h1, ← h2, a3]; rfl) k hk
  · rw [m_up_ne (by omega), m_up_ne (by omega)]; exact b4 k hk
  · rw [m_up_ne (by omega)]; exact b5 i hi
theorem m_wr_f {bb : Int → Int} {rn : Int} {nw ww : Int → Int} {W : mW} {r1 r2 : Int} (h : m_wr bb rn nw ww W) (h1 : nw (33 + nw 5) = r1) (h2 : nw (41 + nw 5) = r2) : m_wr bb rn (m_up nw 5 (nw 5 + 1)) ww (W.1, W.2.1, m_wcs W, m_wms W, m_wss W, m_wfs W ++ [(r1, r2)]) := by
  obtain ⟨⟨a1, a2, a3, a4⟩, b1, b2, b3, b4, b5⟩ := h
  refine ⟨⟨?_, ?_, ?_, ?_⟩, fun k hk => ?_, fun k hk => ?_, fun k hk => ?_, fun k hk => ?_, fun i hi => ?_⟩
  · rw [m_up_ne (by omega)]; exact a1
  · rw [m_up_ne (by omega)]; exact a2
  · rw [m_up_ne (by omega)]; exact a3
  · show _ = m_ln (m_wfs W ++ [(r1, r2)]); rw [m_up_at rfl, m_ln_a]; omega
  · rw [m_up_ne (by omega)]; exact b1 k hk
  · rw [m_up_ne (by omega), m_up_ne (by omega)]; exact b2 k hk
  · rw [m_up_ne (by omega), m_up_ne (by omega)]; exact b3 k hk
  · rw [m_up_ne (by omega), m_up_ne (by omega)]
    exact m_get_a (f := fun k : Nat => (nw (33 + k), nw (41 + k))) b4 (by rw [← h1, ← h2, a4]; rfl) k hk
  · rw [m_up_ne (by omega)]; exact b5 i hi
theorem m_tv_bd {b : Int → Int} {n s : Int} (h : m_kd b n s = 3) : 0 ≤ m_tv b n s ∧ m_tv b n s ≤ 9999 := by
  have hn : ¬ n ≤ s := fun k => by rw [(m_te_end k).2] at h; cases h
  unfold m_kd at h
  rw [if_neg hn] at h
  by_cases h2 : m_le (b s) = true
  · rw [if_pos h2] at h; cases h
  rw [if_neg h2] at h
  by_cases h3 : m_di (b s) = true
  · rw [if_pos h3] at h
    by_cases h4 : 4 < m_te b n s - s
    · rw [if_pos h4] at h; cases h
    · have e : m_te b n s = m_end m_di b n 1000 s := by unfold m_te; rw [if_neg hn, if_neg h2, if_pos h3]
      have hg := m_te_ge (b := b) (n := n) (s := s)
      obtain ⟨g1, g2⟩ := m_dv_bd (b := b) (s := s) (m_te b n s - s).toNat (fun i hi => m_end_in (P := m_di) (b := b) (n := n) 1000 s (s + i) (by omega) (by rw [← e]; omega))
      unfold m_tv
      refine ⟨g1, ?_⟩
      have h5 : (m_te b n s - s).toNat ≤ 4 := by omega
      generalize (m_te b n s - s).toNat = k at *
      have : (10 : Int) ^ k ≤ 10000 := by
        match k, h5 with
        | 0, _ => decide
        | 1, _ => decide
        | 2, _ => decide
        | 3, _ => decide
        | 4, _ => decide
        | k + 5, h => omega
      omega
  · rw [if_neg h3] at h
    by_cases h4 : m_sgz (b s) = true
    · rw [if_pos h4] at h; cases h
    · rw [if_neg h4] at h; cases h
-- the tape's number
theorem m_dg_cg {b c : Int → Int} : ∀ (k : Nat), (∀ i, 0 ≤ i → i < 4 * (k : Int) → b i = c i) → m_dgz b k = m_dgz c k
  | 0, _ => rfl
  | k + 1, h => by
    show 4294967296 * m_dgz b k + m_w4 b k = 4294967296 * m_dgz c k + m_w4 c k
    rw [m_dg_cg k (fun i a d => h i a (by omega))]
    unfold m_w4
    rw [h (4 * k) (by omega) (by omega), h (4 * k + 1) (by omega) (by omega), h (4 * k + 2) (by omega) (by omega), h (4 * k + 3) (by omega) (by omega)]
theorem m_dg_up {b : Int → Int} {k : Nat} {j z : Int} (h : 4 * (k : Int) ≤ j) : m_dgz (m_up b j z) k = m_dgz b k := m_dg_cg k (fun i a d => m_up_ne (by omega))
theorem m_w4_bd {b : Int → Int} (hb : ∀ i, -128 ≤ b i ∧ b i ≤ 127) (k : Int) : 0 ≤ m_w4 b k ∧ m_w4 b k < 4294967296 := by
  unfold m_w4
  have := hb (4 * k)
  omega
theorem m_dg_bd {b : Int → Int} (hb : ∀ i, -128 ≤ b i ∧ b i ≤ 127) : ∀ (k : Nat), 4294967296 ^ k ≤ m_dgz b k ∧ m_dgz b k < 2 * 4294967296 ^ k
  | 0 => by
    show (1 : Int) ≤ 1 ∧ (1 : Int) < 2 * 1
    decide
  | k + 1 => by
    obtain ⟨h1, h2⟩ := m_dg_bd hb k
    obtain ⟨h3, h4⟩ := m_w4_bd hb k
    show 4294967296 ^ (k + 1) ≤ 4294967296 * m_dgz b k + m_w4 b k ∧ 4294967296 * m_dgz b k + m_w4 b k < 2 * 4294967296 ^ (k + 1)
    rw [Int.pow_succ]
    omega
theorem m_dg_inj {b c : Int → Int} (hb : ∀ i, -128 ≤ b i ∧ b i ≤ 127) (hc : ∀ i, -128 ≤ c i ∧ c i ≤ 127) : ∀ (k : Nat), m_dgz b k = m_dgz c k → ∀ i, 0 ≤ i → i < 4 * (k : Int) → b i = c i
  | 0, _, i, a, d => by omega
  | k + 1, h, i, a, d => by
    have h : 4294967296 * m_dgz b k + m_w4 b k = 4294967296 * m_dgz c k + m_w4 c k := h
    obtain ⟨h1, h2⟩ := m_w4_bd hb k
    obtain ⟨h3, h4⟩ := m_w4_bd hc k
    have e : m_dgz b k = m_dgz c k := by omega
    have e4 : m_w4 b k = m_w4 c k := by omega
    by_cases g : i < 4 * (k : Int)
    · exact m_dg_inj hb hc k e i a g
    · unfold m_w4 at e4
      have b0 := hb (4 * k); have b1 := hb (4 * k + 1); have b2 := hb (4 * k + 2); have b3 := hb (4 * k + 3)
      have d0 := hc (4 * k); have d1 := hc (4 * k + 1); have d2 := hc (4 * k + 2); have d3 := hc (4 * k + 3)
      have q : i = 4 * k ∨ i = 4 * k + 1 ∨ i = 4 * k + 2 ∨ i = 4 * k + 3 := by omega
      have s0 : b (4 * k) = c (4 * k) := by omega
      rcases q with rfl | rfl | rfl | rfl
      · exact s0
      · rw [s0] at e4; omega
      · rw [s0] at e4; omega
      · rw [s0] at e4; omega
-- one machine, one end
theorem m_end_cg {P : Int → Bool} {b c : Int → Int} {n : Int} (h : ∀ i, 0 ≤ i → i < n → b i = c i) : ∀ (k : Nat) (q : Int), 0 ≤ q → m_end P b n k q = m_end P c n k q
  | 0, q, _ => rfl
  | k + 1, q, h0 => by
    show (if q < n ∧ P (b q) = true then m_end P b n k (q + 1) else q) = (if q < n ∧ P (c q) = true then m_end P c n k (q + 1) else q)
    by_cases e : q < n
    · rw [h q h0 e, m_end_cg h k (q + 1) (by omega)]
    · rw [if_neg (fun g => e g.1), if_neg (fun g => e g.1)]
theorem m_te_cg {b c : Int → Int} {n s : Int} (h : ∀ i, 0 ≤ i → i < n → b i = c i) (h0 : 0 ≤ s) : m_te b n s = m_te c n s := by
  unfold m_te
  by_cases e : n ≤ s
  · rw [if_pos e, if_pos e]
  · rw [if_neg e, if_neg e, h s h0 (by omega), m_end_cg h 1000 s h0, m_end_cg h 1000 s h0]
theorem m_kd_cg {b c : Int → Int} {n s : Int} (h : ∀ i, 0 ≤ i → i < n → b i = c i) (h0 : 0 ≤ s) : m_kd b n s = m_kd c n s := by
  unfold m_kd
  by_cases e : n ≤ s
  · rw [if_pos e, if_pos e]
  · rw [if_neg e, if_neg e, h s h0 (by omega), m_te_cg h h0]
theorem m_te_n {b : Int → Int} {n s : Int} (h : m_kd b n s ≠ 0) : m_te b n s ≤ n := by
  refine m_te_le ?_
  refine Classical.byContradiction fun k => h (m_te_end (by omega)).2
theorem m_tv_cg {b c : Int → Int} {n s : Int} (h : ∀ i, 0 ≤ i → i < n → b i = c i) (h0 : 0 ≤ s) : m_tv b n s = m_tv c n s := by
  unfold m_tv
  rw [← m_te_cg h h0]
  have key : ∀ k : Nat, k = 0 ∨ s + (k : Int) ≤ n → m_dv b s k = m_dv c s k := by
    intro k
    induction k with
    | zero => intro _; rfl
    | succ k ih =>
      intro g
      show 10 * m_dv b s k + (b (s + k) - 48) = 10 * m_dv c s k + (c (s + k) - 48)
      rw [ih (by omega), h (s + k) (by omega) (by omega)]
  refine key _ ?_
  have hg := m_te_ge (b := b) (n := n) (s := s)
  by_cases e : n ≤ s
  · have := (m_te_end (b := b) e).1
    omega
  · have := m_te_le (b := b) (n := n) (s := s) (by omega)
    omega
theorem m_cd_cgb {b c : Int → Int} {n s : Int} (h : ∀ i, 0 ≤ i → i < n → b i = c i) (h0 : 0 ≤ s) : m_cd b n s = m_cd c n s := by
  unfold m_cd
  rw [← m_te_cg h h0]
  have key : ∀ k : Nat, k = 0 ∨ s + (k : Int) ≤ n → m_wc b s k = m_wc c s k := by
    intro k
    induction k with
    | zero => intro _; rfl
    | succ k ih =>
      intro g
      show 32 * m_wc b s k + (b (s + k) - 96) = 32 * m_wc c s k + (c (s + k) - 96)
      rw [ih (by omega), h (s + k) (by omega) (by omega)]
  have hg := m_te_ge (b := b) (n := n) (s := s)
  by_cases e : n ≤ s
  · have := (m_te_end (b := b) e).1
    rw [key _ (by omega)]
  · have := m_te_le (b := b) (n := n) (s := s) (by omega)
    rw [key _ (by omega)]
theorem m_sk_cg {b c : Int → Int} {n s : Int} (h : ∀ i, 0 ≤ i → i < n → b i = c i) (h0 : 0 ≤ s) : m_sk b n (m_te b n s) = m_sk c n (m_te c n s) := by
  have hg := m_te_ge (b := b) (n := n) (s := s)
  rw [← m_te_cg h h0]
  exact m_end_cg h 1000 _ (by omega)
theorem m_mp_cg {b c : Int → Int} {n s : Int} (h : ∀ i, 0 ≤ i → i < n → b i = c i) (h0 : 0 ≤ s) : m_mp b n s = m_mp c n s := by
  unfold m_mp; rw [m_kd_cg h h0]
theorem m_swd_cg {b c : Int → Int} {n s : Int} (h : ∀ i, 0 ≤ i → i < n → b i = c i) (h0 : 0 ≤ s) (w : Int) (o : mO) : m_swd b n s w o = m_swd c n s w o := by
  unfold m_swd; rw [m_kd_cg h h0, m_cd_cgb h h0, m_mp_cg h h0]
theorem m_snm_cg {b c : Int → Int} {n s : Int} (h : ∀ i, 0 ≤ i → i < n → b i = c i) (h0 : 0 ≤ s) (l u : Int) (o : mO) : m_snm b n s l u o = m_snm c n s l u o := by
  unfold m_snm; rw [m_kd_cg h h0, m_tv_cg h h0, m_mp_cg h h0]
theorem m_ssg_cg {b c : Int → Int} {n s : Int} (h : ∀ i, 0 ≤ i → i < n → b i = c i) (h0 : 0 ≤ s) (o : mO) : m_ssg b n s o = m_ssg c n s o := by
  unfold m_ssg; rw [m_kd_cg h h0, m_mp_cg h h0]
  by_cases e : n ≤ s
  · have := (m_te_end (b := c) e).2
    rw [if_neg (by omega), if_neg (by omega)]
  · rw [h s h0 (by omega)]
theorem m_nmk_cg {b c : Int → Int} {n s : Int} (h : ∀ i, 0 ≤ i → i < n → b i = c i) (h0 : 0 ≤ s) : m_nmk b n s = m_nmk c n s := by
  unfold m_nmk; rw [m_kd_cg h h0, m_cd_cgb h h0, m_te_cg h h0]
theorem m_tk_cg {b c : Int → Int} {n s : Int} {W : mW} (h : ∀ i, 0 ≤ i → i < n → b i = c i) (h0 : 0 ≤ s) (hW : ∀ x ∈ m_wms W, 0 ≤ x.2.2) : m_tk b n s W = m_tk c n s W := by
  unfold m_tk
  rw [m_cd_cgb h h0]
  generalize m_wms W = l at hW
  induction l with
  | nil => rfl
  | cons a l ih =>
    show (decide (m_cd b n a.2.2 = _) || l.any _) = (decide (m_cd c n a.2.2 = _) || l.any _)
    rw [m_cd_cgb h (hW a (List.mem_cons_self ..)), ih (fun x hx => hW x (List.mem_cons_of_mem _ hx))]
theorem m_prt_cg {b c : Int → Int} {n s : Int} {W : mW} (h : ∀ i, 0 ≤ i → i < n → b i = c i) (h0 : 0 ≤ s) : m_prt b n s W = m_prt c n s W := by
  unfold m_prt; rw [m_kd_cg h h0, m_cd_cgb h h0, m_sk_cg h h0, m_mp_cg h h0]
/-- places that lie in the text -/
def m_okz (c : mC) : Prop := 0 ≤ c.2.1 ∧ 0 ≤ c.2.2.2.2.1 ∧ ∀ x ∈ m_wms c.2.2.2.2.2, 0 ≤ x.2.2
def m_okO (o : mO) : Prop := ∀ c, o = Sum.inl c → m_okz c
theorem m_okO_h {f p : Int} : m_okO (m_ht f p) := fun c h => by cases h
theorem m_okO_d {W : mW} : m_okO (m_dn W) := fun c h => by cases h
theorem m_okO_i {p : Prop} [Decidable p] {x y : mO} (h1 : m_okO x) (h2 : m_okO y) : m_okO (if p then x else y) := by
  by_cases e : p
  · rw [if_pos e]; exact h1
  · rw [if_neg e]; exact h2
theorem m_okO_mp {b : Int → Int} {n s : Int} : m_okO (m_mp b n s) := m_okO_h
theorem m_okO_w {b : Int → Int} {n s w : Int} {o : mO} (h : m_okO o) : m_okO (m_swd b n s w o) := m_okO_i h m_okO_mp
theorem m_okO_n {b : Int → Int} {n s l u : Int} {o : mO} (h : m_okO o) : m_okO (m_snm b n s l u o) := m_okO_i (m_okO_i h m_okO_h) m_okO_mp
theorem m_okO_s {b : Int → Int} {n s : Int} {o : mO} (h : m_okO o) : m_okO (m_ssg b n s o) := m_okO_i h m_okO_mp
theorem m_okO_g {st s r1 r2 np : Int} {W : mW} (h1 : 0 ≤ s) (h2 : 0 ≤ np) (h3 : ∀ x ∈ m_wms W, 0 ≤ x.2.2) : m_okO (m_go st s r1 r2 np W) := fun c h => by
  cases h; exact ⟨h1, h2, h3⟩
theorem m_okO_p {b : Int → Int} {n s : Int} {W : mW} (h1 : 0 ≤ m_sk b n (m_te b n s)) (h3 : ∀ x ∈ m_wms W, 0 ≤ x.2.2) : m_okO (m_prt b n s W) := by
  have g : ∀ st, m_okO (m_go st (m_sk b n (m_te b n s)) 0 0 0 W) := fun st => m_okO_g h1 (by decide) h3
  exact m_okO_i m_okO_d (m_okO_i (m_okO_i m_okO_h (g _)) (m_okO_i (m_okO_i m_okO_h (g _)) (m_okO_i (m_okO_i m_okO_h (g _)) (m_okO_i (m_okO_i m_okO_h (g _)) m_okO_mp))))
theorem m_ok_s {b : Int → Int} {n : Int} {c : mC} (hc : m_okz c) : m_okO (m_stp b n c) := by
  obtain ⟨st, s, r1, r2, np, W⟩ := c
  obtain ⟨h0, h1, h2⟩ := hc
  have h0 : 0 ≤ s := h0
  have h1 : 0 ≤ np := h1
  have h2 : ∀ x ∈ m_wms W, 0 ≤ x.2.2 := h2
  have ht : 0 ≤ m_sk b n (m_te b n s) := by
    have g1 := m_te_ge (b := b) (n := n) (s := s)
    have g2 := m_sk_ge (b := b) (n := n) (e := m_te b n s)
    omega
  have g : ∀ st r1 r2, m_okO (m_go st (m_sk b n (m_te b n s)) r1 r2 np W) := fun st r1 r2 => m_okO_g ht h1 h2
  have gs : ∀ st r1 r2, m_okO (m_go st s r1 r2 np W) := fun st r1 r2 => m_okO_g h0 h1 h2
  unfold m_stp
  refine m_okO_i (m_okO_w (g _ _ _)) (m_okO_i (m_okO_n (g _ _ _)) (m_okO_i (m_okO_w (g _ _ _)) (m_okO_i (m_okO_n (g _ _ _)) (m_okO_i (m_okO_s (m_okO_g ht (by decide) h2)) (m_okO_i (m_okO_p ht h2) (m_okO_i (m_okO_n (g _ _ _)) (m_okO_i (m_okO_i (m_okO_i m_okO_h (m_okO_g ht h0 h2)) m_okO_mp) ?_)))))))
  refine m_okO_i (m_okO_w (g _ _ _)) (m_okO_i (m_okO_w (g _ _ _)) (m_okO_i (m_okO_s (m_okO_g ht (by decide) h2)) (m_okO_i (m_okO_w (g _ _ _)) (m_okO_i (m_okO_n (g _ _ _)) (m_okO_i (m_okO_w (g _ _ _)) (m_okO_i (m_okO_n (g _ _ _)) (m_okO_i (m_okO_n (g _ _ _)) ?_)))))))
  refine m_okO_i (m_okO_w (g _ _ _)) (m_okO_i (m_okO_n (g _ _ _)) (m_okO_i (m_okO_n (g _ _ _)) (m_okO_i (m_okO_w (g _ _ _)) (m_okO_i (m_okO_n (g _ _ _)) (m_okO_i (m_okO_i (gs _ _ _) m_okO_h) (m_okO_i (m_okO_i m_okO_h (gs _ _ _)) ?_))))))
  refine m_okO_i (m_okO_s (m_okO_g ht (by decide) fun x hx => ?_)) (m_okO_i (m_okO_s (m_okO_g ht (by decide) h2)) (m_okO_i (m_okO_s (m_okO_g ht (by decide) h2)) m_okO_d))
  rcases List.mem_append.mp hx with hx | hx
  · exact h2 x hx
  · rw [List.mem_singleton.mp hx]; exact h1
theorem m_stp_cg {b c : Int → Int} {n : Int} {C : mC} (h : ∀ i, 0 ≤ i → i < n → b i = c i) (hc : m_okz C) : m_stp b n C = m_stp c n C := by
  obtain ⟨st, s, r1, r2, np, W⟩ := C
  obtain ⟨h0, h1, h2⟩ := hc
  have h0 : 0 ≤ s := h0
  have h2 : ∀ x ∈ m_wms W, 0 ≤ x.2.2 := h2
  simp only [m_stp, m_swd_cg h h0, m_snm_cg h h0, m_ssg_cg h h0, m_prt_cg h h0, m_nmk_cg h h0, m_tk_cg h h0 h2, m_tv_cg h h0, m_sk_cg h h0, m_mp_cg h h0]
theorem m_rn_cg {b c : Int → Int} {n : Int} (h : ∀ i, 0 ≤ i → i < n → b i = c i) : ∀ k : Nat, m_rn b n k = m_rn c n k ∧ m_okO (m_rn b n k)
  | 0 => by
    have e : m_sk b n 0 = m_sk c n 0 := m_end_cg h 1000 0 (by omega)
    refine ⟨?_, ?_⟩
    · show m_go 0 (m_sk b n 0) 0 0 0 m_W0 = m_go 0 (m_sk c n 0) 0 0 0 m_W0
      rw [e]
    · exact m_okO_g (m_sk_ge (b := b) (n := n) (e := 0)) (by decide) (fun x hx => by cases hx)
  | k + 1 => by
    obtain ⟨h1, h2⟩ := m_rn_cg h k
    show m_nxt b n (m_rn b n k) = m_nxt c n (m_rn c n k) ∧ m_okO (m_nxt b n (m_rn b n k))
    rw [← h1]
    generalize m_rn b n k = o at h2
    cases o with
    | inl C => exact ⟨m_stp_cg h (h2 C rfl), m_ok_s (h2 C rfl)⟩
    | inr x => exact ⟨rfl, fun c h => by cases h⟩
theorem m_rn_inr {b : Int → Int} {n : Int} {x : Sum (Int × Int) mW} {k : Nat} (h : m_rn b n k = Sum.inr x) : ∀ j : Nat, m_rn b n (k + j) = Sum.inr x
  | 0 => h
  | j + 1 => by
    show m_nxt b n (m_rn b n (k + j)) = _
    rw [m_rn_inr h j]
    rfl
/-- one text, one end -/
theorem m_at_one {b c : Int → Int} {n : Int} {x y : Sum (Int × Int) mW} (h : ∀ i, 0 ≤ i → i < n → b i = c i) (hx : m_at b n (Sum.inr x)) (hy : m_at c n (Sum.inr y)) : x = y := by
  obtain ⟨k, hk⟩ := hx
  obtain ⟨j, hj⟩ := hy
  have e1 := m_rn_inr hk j
  have e2 := m_rn_inr hj k
  rw [Nat.add_comm j k, ← (m_rn_cg h (k + j)).1, e1] at e2
  injection e2
-- two tapes of one number
theorem m_tb_cg {ba bb : Int → Int} (hba : ∀ i, -128 ≤ ba i ∧ ba i ≤ 127) (hbb : ∀ i, -128 ≤ bb i ∧ bb i ≤ 127) {x D n : Int} (p2 : p_TB3 ba (x + 1024 * D)) (p3 : p_TB8 bb (x + 1024 * D)) (c0 : 0 ≤ x + (-1) * n) (c1 : 0 ≤ (-1) * x + 900) (c2 : 0 ≤ n) : ∀ i, 0 ≤ i → i < n → ba i = bb i := by
  obtain ⟨k, E, e1, e2, e3⟩ := p2
  obtain ⟨k2, E2, e4, e5, e6⟩ := p3
  obtain rfl : k2 = k := by omega
  obtain rfl : E = D := by omega
  obtain rfl : E2 = E := by omega
  exact fun i a d => m_dg_inj hba hbb k2 (e3.symm.trans e6) i a (by omega)
theorem m_w4_of {b : Int → Int} {k v : Int} (h1 : -2147483648 ≤ v) (h2 : v < 2147483648) (b1 : b (4 * k) = m_w8 (v / 16777216)) (b2 : b (4 * k + 1) = m_w8 (v / 65536)) (b3 : b (4 * k + 2) = m_w8 (v / 256)) (b4 : b (4 * k + 3) = m_w8 v) : m_w4 b k = v + 2147483648 := by
  unfold m_w4
  rw [b1, b2, b3, b4]
  unfold m_w8
  omega
theorem m_dg_900 (B : Nat) (hB : 2 * 4294967296 ^ 225 ≤ B) {b : Int → Int} (hb : ∀ i, -128 ≤ b i ∧ b i ≤ 127) {k : Nat} (hk : 4 * (k : Int) ≤ 900) : m_dgz b k ≤ (B : Int) := by
  have h := (m_dg_bd hb k).2
  have g : 4294967296 ^ k ≤ 4294967296 ^ 225 := Nat.pow_le_pow_right (by decide) (by omega)
  have g2 : ((4294967296 ^ k : Nat) : Int) = (4294967296 : Int) ^ k := by rw [Int.natCast_pow]; rfl
  have h3 : 2 * 4294967296 ^ k ≤ B := Nat.le_trans (Nat.mul_le_mul_left 2 g) hB
  have h4 : ((2 * 4294967296 ^ k : Nat) : Int) ≤ (B : Int) := Int.ofNat_le.mpr h3
  rw [Int.natCast_mul, g2] at h4
  generalize (4294967296 : Int) ^ k = z at h h4
  have h5 : ((2 : Nat) : Int) = 2 := rfl
  rw [h5] at h4
  omega
theorem m_sum_ext {f g : Int → Int} : ∀ k : Nat, (∀ i : Nat, i < k → f i = g i) → m_sum f k = m_sum g k
  | 0, _ => rfl
  | k + 1, h => by
    show m_sum f k + f k = m_sum g k + g k
    rw [m_sum_ext k (fun i hi => h i (by omega)), h k (by omega)]
theorem m_dc48 {a b x y : Int} (e : a + 281474976710656 * x = b + 281474976710656 * y) (a1 : 0 ≤ a) (a2 : a < 281474976710656) (b1 : 0 ≤ b) (b2 : b < 281474976710656) : x = y := by omega
theorem m_cvz {P : Int → Prop} {a b : Int} (h : P a) (e : a = b) : P b := e ▸ h
