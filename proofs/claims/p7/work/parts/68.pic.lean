-- 68.rules: the rules hold (printed by wip/p5/gen68.py)
noncomputable def m_gh (h : qH) : mG := fun c j => m_int (a_fd h c j)
theorem m_int0 {z : Int} (h1 : -2147483648 ≤ z) (h2 : z < 2147483648) : m_int (0, a_w z) = z := a_qIt h1 h2
theorem m_int3 {z : Int} (h1 : -9223372036854775808 ≤ z) (h2 : z < 9223372036854775808) : m_int (3, a_W z) = z := a_qJt h1 h2
noncomputable def m_cov (D : aW) (c lo hi : Nat) : Bool := match D with
  | [] => false
  | r :: D => (Nat.ble r.1 c && (Nat.ble c r.2.1 && (Nat.ble r.2.2.1 lo && Nat.ble hi r.2.2.2))) || m_cov D c lo hi
theorem m_cov_ok {c lo hi j : Nat} (h1 : lo ≤ j) (h2 : j < hi) : ∀ {D : aW}, m_cov D c lo hi = true → a_inS D c j = true
  | [], h => by cases h
  | r :: D, h => by
    have h : ((Nat.ble r.1 c && (Nat.ble c r.2.1 && (Nat.ble r.2.2.1 lo && Nat.ble hi r.2.2.2))) || m_cov D c lo hi) = true := h
    show ((Nat.ble r.1 c && (Nat.ble c r.2.1 && (Nat.ble r.2.2.1 j && Nat.blt j r.2.2.2))) || a_inS D c j) = true
    rw [Bool.or_eq_true] at h ⊢
    rcases h with h | h
    · simp only [Bool.and_eq_true] at h ⊢
      obtain ⟨g1, g2, g3, g4⟩ := h
      refine Or.inl ⟨g1, g2, Nat.ble_eq_true_of_le (Nat.le_trans (Nat.le_of_ble_eq_true g3) h1), ?_⟩
      rw [q_blt]
      exact decide_eq_true (Nat.lt_of_lt_of_le h2 (Nat.le_of_ble_eq_true g4))
    · exact Or.inr (m_cov_ok h1 h2 h)
theorem m_gs {code c j : Nat} {h : qH} (hb : (Nat.blt c 557 && (Nat.blt j (a_cl q_SP c) && a_inS (a_Md code) c j)) = true) : a_gm q_SP 557 code h c j = m_gh h c j := by
  unfold a_gm
  rw [hb]
  rfl
theorem m_ga {code c off n : Nat} {h : qH} (hb : (Nat.blt c 557 && (Nat.ble (off + n) (a_cl q_SP c) && m_cov (a_Md code) c off (off + n))) = true) : m_ac (a_gm q_SP 557 code h) c off n = m_ac (m_gh h) c off n := by
  simp only [Bool.and_eq_true] at hb
  obtain ⟨h1, h2, h3⟩ := hb
  have h2 := Nat.le_of_ble_eq_true h2
  funext i
  unfold m_ac
  by_cases hi : 0 ≤ i ∧ i < n
  · rw [if_pos hi, if_pos hi]
    refine m_gs ?_
    have h4 : off + i.toNat < off + n := by omega
    rw [h1, q_blt, decide_eq_true (show off + i.toNat < a_cl q_SP c by omega), m_cov_ok (Nat.le_add_right _ _) h4 h3]
    rfl
  · rw [if_neg hi, if_neg hi]
theorem m_cv {P : Int → Prop} {a b : Int} (h : P a) (e : a = b) : P b := e ▸ h
theorem m_Rp {h : qH} {x : Nat → Int} {code a b : Nat} {F : aF} (hz : Nat.beq code 0 = false) (hp : a_Rp q_SP 557 h x (code, a, b, F)) : a_M q_SP 557 code (a_ev x F) h := by
  unfold a_Rp at hp
  rw [q_beq] at hz
  rw [if_neg (of_decide_eq_false hz)] at hp
  exact hp
theorem m_Rv {h : qH} {x : Nat → Int} {c j : Nat} {F : aF} (hl : Nat.blt j (a_cl q_SP c) = true) (hp : a_Rp q_SP 557 h x (0, c, j, F)) : a_ev x F = m_gh h c j := by
  rw [q_blt] at hl
  have hp : j < a_cl q_SP c → a_fd h c j = (0, a_w (a_ev x F)) ∧ -2147483648 ≤ a_ev x F ∧ a_ev x F < 2147483648 := hp
  obtain ⟨h1, h2, h3⟩ := hp (of_decide_eq_true hl)
  show a_ev x F = m_int (a_fd h c j)
  rw [h1, m_int0 h2 h3]
theorem m_Rcf {h : qH} {x : Nat → Int} {code : Nat} {F : aF} (hz : Nat.beq code 0 = false) (hp : a_M q_SP 557 code (a_ev x F) h) : a_Rc q_SP 557 h x code F := by
  unfold a_Rc
  rw [q_beq] at hz
  rw [if_neg (of_decide_eq_false hz)]
  exact hp
theorem m_Rcs {h : qH} {x : Nat → Int} {F : aF} (hp : 0 ≤ a_ev x F) : a_Rc q_SP 557 h x 0 F := hp
-- the picture in numbers
theorem m_pic0 {h : qH} (hh : a_HI q_SP 557 h) {c j : Nat} {lo hi : Int} (hc : c < 557) (hj : j < a_cl q_SP c) (ht : a_ct q_SP c j = (0, lo, hi)) (h1 : -2147483648 ≤ lo) (h2 : hi < 2147483648) : lo ≤ m_gh h c j ∧ m_gh h c j ≤ hi := by
  have hv := (hh.2.2 c hc).2.2 j hj
  rw [ht] at hv
  obtain ⟨z, hz, z1, z2⟩ := (show ∃ z : Int, a_fd h c j = (0, a_w z) ∧ lo ≤ z ∧ z ≤ hi from hv)
  have e : m_gh h c j = z := by
    show m_int (a_fd h c j) = z
    rw [hz, m_int0 (by omega) (by omega)]
  rw [e]
  exact ⟨z1, z2⟩
theorem m_pic1 {h : qH} (hh : a_HI q_SP 557 h) {c j : Nat} {lo hi : Int} (hc : c < 557) (hj : j < a_cl q_SP c) (ht : a_ct q_SP c j = (1, lo, hi)) (h1 : -9223372036854775808 ≤ lo) (h2 : hi < 9223372036854775808) : lo ≤ m_gh h c j ∧ m_gh h c j ≤ hi := by
  have hv := (hh.2.2 c hc).2.2 j hj
  rw [ht] at hv
  obtain ⟨z, hz, z1, z2⟩ := (show ∃ z : Int, a_fd h c j = (3, a_W z) ∧ lo ≤ z ∧ z ≤ hi from hv)
  have e : m_gh h c j = z := by
    show m_int (a_fd h c j) = z
    rw [hz, m_int3 (by omega) (by omega)]
  rw [e]
  exact ⟨z1, z2⟩
noncomputable def m_teq (t : aT) (k : Nat) (lo hi : Int) : Bool := Nat.beq t.1 k && (a_iz (t.2.1 - lo) && a_iz (t.2.2 - hi))
noncomputable def m_chk (c off k : Nat) (lo hi : Int) : Nat → Bool
  | 0 => true
  | n + 1 => m_chk c off k lo hi n && m_teq (a_ct q_SP c (off + n)) k lo hi
theorem m_chk_ok {c off k : Nat} {lo hi : Int} : ∀ {n i : Nat}, m_chk c off k lo hi n = true → i < n → a_ct q_SP c (off + i) = (k, lo, hi)
  | 0, i, _, h => by omega
  | n + 1, i, hk, h => by
    have hk : (m_chk c off k lo hi n && m_teq (a_ct q_SP c (off + n)) k lo hi) = true := hk
    rw [Bool.and_eq_true] at hk
    by_cases e : i = n
    · subst e
      have h2 := hk.2
      unfold m_teq at h2
      simp only [Bool.and_eq_true] at h2
      obtain ⟨g1, g2, g3⟩ := h2
      have g1 := Nat.eq_of_beq_eq_true g1
      have g2 := a_iz_ok g2
      have g3 := a_iz_ok g3
      generalize a_ct q_SP c (off + i) = t at g1 g2 g3 ⊢
      obtain ⟨t1, t2, t3⟩ := t
      have g1 : t1 = k := g1
      have g2 : t2 - lo = 0 := g2
      have g3 : t3 - hi = 0 := g3
      rw [g1, show t2 = lo by omega, show t3 = hi by omega]
    · exact m_chk_ok hk.1 (by omega)
theorem m_rng0 {h : qH} (hh : a_HI q_SP 557 h) {c off n : Nat} {lo hi : Int} (hb : (Nat.blt c 557 && (Nat.ble (off + n) (a_cl q_SP c) && m_chk c off 0 lo hi n)) = true) (h0 : -2147483648 ≤ lo ∧ lo ≤ 0 ∧ 0 ≤ hi ∧ hi < 2147483648) : ∀ i, lo ≤ m_ac (m_gh h) c off n i ∧ m_ac (m_gh h) c off n i ≤ hi := fun i => by
  simp only [Bool.and_eq_true] at hb
  obtain ⟨h1, h2, h3⟩ := hb
  have h2 := Nat.le_of_ble_eq_true h2
  rw [q_blt] at h1
  unfold m_ac
  by_cases hi : 0 ≤ i ∧ i < n
  · rw [if_pos hi]
    exact m_pic0 hh (of_decide_eq_true h1) (by omega) (m_chk_ok h3 (by omega)) h0.1 h0.2.2.2
  · rw [if_neg hi]
    exact ⟨h0.2.1, h0.2.2.1⟩
theorem m_rng1 {h : qH} (hh : a_HI q_SP 557 h) {c off n : Nat} {lo hi : Int} (hb : (Nat.blt c 557 && (Nat.ble (off + n) (a_cl q_SP c) && m_chk c off 1 lo hi n)) = true) (h0 : -9223372036854775808 ≤ lo ∧ lo ≤ 0 ∧ 0 ≤ hi ∧ hi < 9223372036854775808) : ∀ i, lo ≤ m_ac (m_gh h) c off n i ∧ m_ac (m_gh h) c off n i ≤ hi := fun i => by
  simp only [Bool.and_eq_true] at hb
  obtain ⟨h1, h2, h3⟩ := hb
  have h2 := Nat.le_of_ble_eq_true h2
  rw [q_blt] at h1
  unfold m_ac
  by_cases hi : 0 ≤ i ∧ i < n
  · rw [if_pos hi]
    exact m_pic1 hh (of_decide_eq_true h1) (by omega) (m_chk_ok h3 (by omega)) h0.1 h0.2.2.2
  · rw [if_neg hi]
    exact ⟨h0.2.1, h0.2.2.1⟩
theorem m_sc0 {h : qH} (hh : a_HI q_SP 557 h) {c j : Nat} {lo hi : Int} (hb : (Nat.blt c 557 && (Nat.ble (j + 1) (a_cl q_SP c) && m_chk c j 0 lo hi 1)) = true) (h0 : -2147483648 ≤ lo ∧ hi < 2147483648) : lo ≤ m_gh h c j ∧ m_gh h c j ≤ hi := by
  simp only [Bool.and_eq_true] at hb
  obtain ⟨h1, h2, h3⟩ := hb
  have h2 := Nat.le_of_ble_eq_true h2
  rw [q_blt] at h1
  exact m_pic0 hh (of_decide_eq_true h1) (by omega) (m_chk_ok (i := 0) h3 (by omega)) h0.1 h0.2
-- another heap, one place changed
noncomputable def m_one (h h' : qH) (c j : Nat) (v : qV) : Prop := ∀ i q, i < 557 → q < a_cl q_SP i → a_fd h' i q = if i = c ∧ q = j then v else a_fd h i q
theorem m_us {h h' : qH} {c j : Nat} {v : qV} (h1 : m_one h h' c j v) {d q : Nat} (hb : (Nat.blt d 557 && (Nat.blt q (a_cl q_SP d) && !(Nat.beq d c))) = true) : m_gh h' d q = m_gh h d q := by
  simp only [Bool.and_eq_true, q_blt, decide_eq_true_eq, q_beq, Bool.not_eq_true', decide_eq_false_iff_not] at hb
  show m_int (a_fd h' d q) = m_int (a_fd h d q)
  rw [h1 d q hb.1 hb.2.1, if_neg (fun e => hb.2.2 e.1)]
theorem m_ua {h h' : qH} {c j : Nat} {v : qV} (h1 : m_one h h' c j v) {d off n : Nat} (hb : (Nat.blt d 557 && (Nat.ble (off + n) (a_cl q_SP d) && !(Nat.beq d c))) = true) : m_ac (m_gh h') d off n = m_ac (m_gh h) d off n := by
  simp only [Bool.and_eq_true] at hb
  obtain ⟨h2, h3, h4⟩ := hb
  have h3 := Nat.le_of_ble_eq_true h3
  funext i
  unfold m_ac
  by_cases hi : 0 ≤ i ∧ i < n
  · rw [if_pos hi, if_pos hi]
    refine m_us h1 ?_
    rw [h2, q_blt, decide_eq_true (show off + i.toNat < a_cl q_SP d by omega), h4]
    rfl
  · rw [if_neg hi, if_neg hi]
theorem m_uc {h h' : qH} {c : Nat} {v : qV} {i z : Int} (h1 : m_one h h' c i.toNat v) (hv : m_int v = z) {n : Nat} (hb : (Nat.blt c 557 && Nat.ble n (a_cl q_SP c)) = true) (i1 : 0 ≤ i) (i2 : i < n) : m_ac (m_gh h') c 0 n = m_up (m_ac (m_gh h) c 0 n) i z := by
  simp only [Bool.and_eq_true] at hb
  obtain ⟨h2, h3⟩ := hb
  rw [q_blt] at h2
  have h3 := Nat.le_of_ble_eq_true h3
  funext j
  unfold m_ac m_up
  by_cases hi : 0 ≤ j ∧ j < n
  · rw [if_pos hi]
    show m_int (a_fd h' c (0 + j.toNat)) = _
    rw [h1 c (0 + j.toNat) (of_decide_eq_true h2) (by omega)]
    by_cases e : j = i
    · rw [if_pos e, if_pos ⟨rfl, by omega⟩]
      exact hv
    · rw [if_neg e, if_neg (fun q => e (by omega))]
      exact (if_pos hi).symm
  · rw [if_neg hi, if_neg (by omega)]
    exact (if_neg hi).symm
theorem m_z0 {h : qH} {c off n : Nat} {i z : Int} (i1 : 0 ≤ i) (hz : m_gh h c i.toNat = z) : 0 ≤ i - off → i - off < n → m_ac (m_gh h) c off n (i - off) = z := fun h1 h2 => by
  unfold m_ac
  rw [if_pos ⟨h1, h2⟩, show off + (i - (off : Int)).toNat = i.toNat by omega]
  exact hz
-- a row copied
noncomputable def m_cpd (h h' : qH) (c d : Nat) (s t n : Int) : Prop := ∀ i q, i < 557 → q < a_cl q_SP i → a_fd h' i q = if i = d ∧ t.toNat ≤ q ∧ q < t.toNat + n.toNat then a_fd h c (s.toNat + (q - t.toNat)) else a_fd h i q
theorem m_ca {h h' : qH} {c e : Nat} {s t m : Int} (h1 : m_cpd h h' c e s t m) {d off n : Nat} (hb : (Nat.blt d 557 && (Nat.ble (off + n) (a_cl q_SP d) && !(Nat.beq d e))) = true) : m_ac (m_gh h') d off n = m_ac (m_gh h) d off n := by
  simp only [Bool.and_eq_true, q_blt, decide_eq_true_eq, q_beq, Bool.not_eq_true', decide_eq_false_iff_not] at hb
  obtain ⟨h2, h3, h4⟩ := hb
  have h3 := Nat.le_of_ble_eq_true h3
  funext i
  unfold m_ac
  by_cases hi : 0 ≤ i ∧ i < n
  · rw [if_pos hi, if_pos hi]
    show m_int (a_fd h' d (off + i.toNat)) = m_int (a_fd h d (off + i.toNat))
    rw [h1 d (off + i.toNat) h2 (by omega), if_neg (fun z => h4 z.1)]
  · rw [if_neg hi, if_neg hi]
theorem m_cc {h h' : qH} {c d : Nat} {s t m : Int} (h1 : m_cpd h h' c d s t m) {n : Nat} (hb : (Nat.blt d 557 && Nat.beq (a_cl q_SP d) n) = true) (hb2 : Nat.beq (a_cl q_SP c) n = true) (i1 : 0 ≤ s) (i2 : 0 ≤ t) (i3 : 0 ≤ m) (l1 : s + m ≤ a_cl q_SP c) (l2 : t + m ≤ a_cl q_SP d) : m_ac (m_gh h') d 0 n = m_cpx (m_ac (m_gh h) c 0 n) (m_ac (m_gh h) d 0 n) s t m := by
  simp only [Bool.and_eq_true] at hb
  obtain ⟨h2, h3⟩ := hb
  rw [q_blt] at h2
  have h2 := of_decide_eq_true h2
  have h3 := Nat.eq_of_beq_eq_true h3
  have h4 := Nat.eq_of_beq_eq_true hb2
  rw [h4] at l1
  rw [h3] at l2
  funext j
  unfold m_cpx
  by_cases e : t ≤ j ∧ j < t + m
  · rw [if_pos e]
    unfold m_ac
    rw [if_pos (show 0 ≤ j ∧ j < n by omega), if_pos (show 0 ≤ s + (j - t) ∧ s + (j - t) < n by omega)]
    show m_int (a_fd h' d (0 + j.toNat)) = m_int (a_fd h c (0 + (s + (j - t)).toNat))
    rw [h1 d (0 + j.toNat) h2 (by omega), if_pos ⟨rfl, by omega, by omega⟩]
    rw [show s.toNat + (0 + j.toNat - t.toNat) = 0 + (s + (j - t)).toNat by omega]
  · rw [if_neg e]
    unfold m_ac
    by_cases hi : 0 ≤ j ∧ j < n
    · rw [if_pos hi, if_pos hi]
      show m_int (a_fd h' d (0 + j.toNat)) = m_int (a_fd h d (0 + j.toNat))
      rw [h1 d (0 + j.toNat) h2 (by omega), if_neg (fun z => e (by omega))]
    · rw [if_neg hi, if_neg hi]
-- cut numbers
theorem m_c71 {a b : Int} (hv : (1 : Nat) = 1 ∧ -9223372036854775808 ≤ a ∧ a < 9223372036854775808 ∧ a_w b = qNn (qJ (a_W a)).toInt32 ∨ (1 : Nat) ≠ 1 ∧ -2147483648 ≤ a ∧ a < 2147483648 ∧ (0, a_w b) = q_s6v 1 (0, a_w a)) (v1 : -2147483648 ≤ b) (v2 : b < 2147483648) : b = m_w32 a := by
  rcases hv with ⟨-, h1, h2, h3⟩ | ⟨h, -⟩
  · have h4 := congrArg (fun n => (qI n).toInt) h3
    have h4 : (qI (a_w b)).toInt = (qI (qNn (qJ (a_W a)).toInt32)).toInt := h4
    rw [qI_N, a_qIt v1 v2, Int64.toInt_toInt32, a_qJt h1 h2, Int.bmod_def] at h4
    unfold m_w32
    omega
  · exact absurd rfl h
theorem m_c72 {a b : Int} (hv : (2 : Nat) = 1 ∧ -9223372036854775808 ≤ a ∧ a < 9223372036854775808 ∧ a_w b = qNn (qJ (a_W a)).toInt32 ∨ (2 : Nat) ≠ 1 ∧ -2147483648 ≤ a ∧ a < 2147483648 ∧ (0, a_w b) = q_s6v 2 (0, a_w a)) (v1 : -2147483648 ≤ b) (v2 : b < 2147483648) : b = m_w8 a := by
  rcases hv with ⟨h, -⟩ | ⟨-, h1, h2, h3⟩
  · exact absurd h (by decide)
  · have h3 : a_w b = qNn (qI (a_w a)).toInt8.toInt32 := congrArg Prod.snd h3
    have h4 := congrArg (fun n => (qI n).toInt) h3
    have h4 : (qI (a_w b)).toInt = (qI (qNn (qI (a_w a)).toInt8.toInt32)).toInt := h4
    rw [qI_N, a_qIt v1 v2, Int8.toInt_toInt32, Int32.toInt_toInt8, a_qIt h1 h2, Int.bmod_def] at h4
    unfold m_w8
    omega
theorem m_c73 {a b : Int} (hv : (3 : Nat) = 1 ∧ -9223372036854775808 ≤ a ∧ a < 9223372036854775808 ∧ a_w b = qNn (qJ (a_W a)).toInt32 ∨ (3 : Nat) ≠ 1 ∧ -2147483648 ≤ a ∧ a < 2147483648 ∧ (0, a_w b) = q_s6v 3 (0, a_w a)) (v1 : -2147483648 ≤ b) (v2 : b < 2147483648) : b = m_w16 a := by
  rcases hv with ⟨h, -⟩ | ⟨-, h1, h2, h3⟩
  · exact absurd h (by decide)
  · have h3 : a_w b = qNn (qI (a_w a)).toInt16.toInt32 := congrArg Prod.snd h3
    have h4 := congrArg (fun n => (qI n).toInt) h3
    have h4 : (qI (a_w b)).toInt = (qI (qNn (qI (a_w a)).toInt16.toInt32)).toInt := h4
    rw [qI_N, a_qIt v1 v2, Int16.toInt_toInt32, Int32.toInt_toInt16, a_qIt h1 h2, Int.bmod_def] at h4
    unfold m_w16
    omega
-- the facts
theorem r_cs {h : qH} (hh : a_HI q_SP 557 h) : ∀ i, (0 : Int) ≤ m_ac (m_gh h) 539 7 6 i ∧ m_ac (m_gh h) 539 7 6 i ≤ 16 := m_rng0 hh (by decide +kernel) (by decide)
theorem r_fs {h : qH} (hh : a_HI q_SP 557 h) : ∀ i, (0 : Int) ≤ m_ac (m_gh h) 539 33 8 i ∧ m_ac (m_gh h) 539 33 8 i ≤ 95 := m_rng0 hh (by decide +kernel) (by decide)
theorem r_nt {h : qH} (hh : a_HI q_SP 557 h) : ∀ i, (0 : Int) ≤ m_ac (m_gh h) 539 49 96 i ∧ m_ac (m_gh h) 539 49 96 i ≤ 2 := m_rng0 hh (by decide +kernel) (by decide)
theorem r_fo {h : qH} (hh : a_HI q_SP 557 h) : ∀ i, (0 : Int) ≤ m_ac (m_gh h) 543 0 1344 i ∧ m_ac (m_gh h) 543 0 1344 i ≤ 1000000 := m_rng0 hh (by decide +kernel) (by decide)
theorem r_ft {h : qH} (hh : a_HI q_SP 557 h) : ∀ i, (0 : Int) ≤ m_ac (m_gh h) 544 0 1344 i ∧ m_ac (m_gh h) 544 0 1344 i ≤ 1000000 := m_rng0 hh (by decide +kernel) (by decide)
theorem r_sl {h : qH} (hh : a_HI q_SP 557 h) : ∀ i, (0 : Int) ≤ m_ac (m_gh h) 545 0 96 i ∧ m_ac (m_gh h) 545 0 96 i ≤ 9 := m_rng0 hh (by decide +kernel) (by decide)
theorem r_wt {h : qH} (hh : a_HI q_SP 557 h) : ∀ i, (0 : Int) ≤ m_ac (m_gh h) 546 0 1344 i ∧ m_ac (m_gh h) 546 0 1344 i ≤ 999999 := m_rng1 hh (by decide +kernel) (by decide)
theorem r_rc {h : qH} (hh : a_HI q_SP 557 h) : ∀ i, (0 : Int) ≤ m_ac (m_gh h) 553 0 96 i ∧ m_ac (m_gh h) 553 0 96 i ≤ 13 := m_rng0 hh (by decide +kernel) (by decide)
theorem f_LD {h : qH} {x : Int} : a_M q_SP 557 68157450 x h = p_LD (m_ac (m_gh h) 539 33 8) x := by
  show p_LD (m_ac (a_gm q_SP 557 68157450 h) 539 33 8) x = _
  rw [m_ga (code := 68157450) (c := 539) (off := 33) (n := 8) (by decide +kernel)]
theorem f_FI {h : qH} {x : Int} : a_M q_SP 557 101711883 x h = p_FI (m_gh h 539 5) (m_ac (m_gh h) 539 33 8) x := by
  show p_FI (a_gm q_SP 557 101711883 h 539 5) (m_ac (a_gm q_SP 557 101711883 h) 539 33 8) x = _
  rw [m_gs (code := 101711883) (c := 539) (j := 5) (by decide +kernel), m_ga (code := 101711883) (c := 539) (off := 33) (n := 8) (by decide +kernel)]
theorem f_YN {h : qH} {x : Int} : a_M q_SP 557 101711884 x h = p_YN (m_gh h 539 5) (m_ac (m_gh h) 539 33 8) x := by
  show p_YN (a_gm q_SP 557 101711884 h 539 5) (m_ac (a_gm q_SP 557 101711884 h) 539 33 8) x = _
  rw [m_gs (code := 101711884) (c := 539) (j := 5) (by decide +kernel), m_ga (code := 101711884) (c := 539) (off := 33) (n := 8) (by decide +kernel)]
theorem f_AT {h : qH} {x : Int} : a_M q_SP 557 144115188076904461 x h = p_AT (m_ac (m_gh h) 44 0 60) x := by
  show p_AT (m_ac (a_gm q_SP 557 144115188076904461 h) 44 0 60) x = _
  rw [m_ga (code := 144115188076904461) (c := 44) (off := 0) (n := 60) (by decide +kernel)]
theorem f_AF {h : qH} {x : Int} : a_M q_SP 557 34603022 x h = p_AF (m_gh h 539 0) x := by
  show p_AF (a_gm q_SP 557 34603022 h 539 0) x = _
  rw [m_gs (code := 34603022) (c := 539) (j := 0) (by decide +kernel)]
theorem f_NT {h : qH} {x : Int} : a_M q_SP 557 135266319 x h = p_NT (m_ac (m_gh h) 539 49 96) x := by
  show p_NT (m_ac (a_gm q_SP 557 135266319 h) 539 49 96) x = _
  rw [m_ga (code := 135266319) (c := 539) (off := 49) (n := 96) (by decide +kernel)]
theorem f_SU {h : qH} {x : Int} : a_M q_SP 557 168820752 x h = p_SU (m_gh h 539 0) (m_ac (m_gh h) 539 49 96) x := by
  show p_SU (a_gm q_SP 557 168820752 h 539 0) (m_ac (a_gm q_SP 557 168820752 h) 539 49 96) x = _
  rw [m_gs (code := 168820752) (c := 539) (j := 0) (by decide +kernel), m_ga (code := 168820752) (c := 539) (off := 49) (n := 96) (by decide +kernel)]
theorem f_SL {h : qH} {x : Int} : a_M q_SP 557 2148532241 x h = p_SL (m_ac (m_gh h) 545 0 96) x := by
  show p_SL (m_ac (a_gm q_SP 557 2148532241 h) 545 0 96) x = _
  rw [m_ga (code := 2148532241) (c := 545) (off := 0) (n := 96) (by decide +kernel)]
theorem f_ST {h : qH} {x : Int} : a_M q_SP 557 2182086674 x h = p_ST (m_gh h 539 0) (m_ac (m_gh h) 545 0 96) x := by
  show p_ST (a_gm q_SP 557 2182086674 h 539 0) (m_ac (a_gm q_SP 557 2182086674 h) 545 0 96) x = _
  rw [m_gs (code := 2182086674) (c := 539) (j := 0) (by decide +kernel), m_ga (code := 2182086674) (c := 545) (off := 0) (n := 96) (by decide +kernel)]
theorem f_FO {h : qH} {x : Int} : a_M q_SP 557 537919507 x h = p_FO (m_ac (m_gh h) 543 0 1344) x := by
  show p_FO (m_ac (a_gm q_SP 557 537919507 h) 543 0 1344) x = _
  rw [m_ga (code := 537919507) (c := 543) (off := 0) (n := 1344) (by decide +kernel)]
theorem f_FT {h : qH} {x : Int} : a_M q_SP 557 1074790420 x h = p_FT (m_ac (m_gh h) 544 0 1344) x := by
  show p_FT (m_ac (a_gm q_SP 557 1074790420 h) 544 0 1344) x = _
  rw [m_ga (code := 1074790420) (c := 544) (off := 0) (n := 1344) (by decide +kernel)]
theorem f_ON {h : qH} {x : Int} : a_M q_SP 557 1628438549 x h = p_ON (m_ac (m_gh h) 543 0 1344) (m_ac (m_gh h) 544 0 1344) (m_gh h 534 29) x := by
  show p_ON (m_ac (a_gm q_SP 557 1628438549 h) 543 0 1344) (m_ac (a_gm q_SP 557 1628438549 h) 544 0 1344) (a_gm q_SP 557 1628438549 h 534 29) x = _
  rw [m_ga (code := 1628438549) (c := 543) (off := 0) (n := 1344) (by decide +kernel), m_ga (code := 1628438549) (c := 544) (off := 0) (n := 1344) (by decide +kernel), m_gs (code := 1628438549) (c := 534) (j := 29) (by decide +kernel)]
theorem f_PS {h : qH} {x : Int} : a_M q_SP 557 34603030 x h = p_PS (m_ac (m_gh h) 539 7 6) x := by
  show p_PS (m_ac (a_gm q_SP 557 34603030 h) 539 7 6) x = _
  rw [m_ga (code := 34603030) (c := 539) (off := 7) (n := 6) (by decide +kernel)]
theorem f_NS {h : qH} {x : Int} : a_M q_SP 557 34603031 x h = p_NS (m_gh h 539 2) (m_ac (m_gh h) 539 7 6) x := by
  show p_NS (a_gm q_SP 557 34603031 h 539 2) (m_ac (a_gm q_SP 557 34603031 h) 539 7 6) x = _
  rw [m_gs (code := 34603031) (c := 539) (j := 2) (by decide +kernel), m_ga (code := 34603031) (c := 539) (off := 7) (n := 6) (by decide +kernel)]
theorem f_BM {h : qH} {x : Int} : a_M q_SP 557 2853175320 x h = p_BM (m_gh h 539 0) (m_ac (m_gh h) 539 49 96) (m_ac (m_gh h) 545 0 96) (m_ac (m_gh h) 543 0 1344) x := by
  show p_BM (a_gm q_SP 557 2853175320 h 539 0) (m_ac (a_gm q_SP 557 2853175320 h) 539 49 96) (m_ac (a_gm q_SP 557 2853175320 h) 545 0 96) (m_ac (a_gm q_SP 557 2853175320 h) 543 0 1344) x = _
  rw [m_gs (code := 2853175320) (c := 539) (j := 0) (by decide +kernel), m_ga (code := 2853175320) (c := 539) (off := 49) (n := 96) (by decide +kernel), m_ga (code := 2853175320) (c := 545) (off := 0) (n := 96) (by decide +kernel), m_ga (code := 2853175320) (c := 543) (off := 0) (n := 1344) (by decide +kernel)]
theorem f_BE {h : qH} {x : Int} : a_M q_SP 557 2853175321 x h = p_BE (m_gh h 539 0) (m_ac (m_gh h) 539 49 96) (m_ac (m_gh h) 545 0 96) (m_ac (m_gh h) 543 0 1344) x := by
  show p_BE (a_gm q_SP 557 2853175321 h 539 0) (m_ac (a_gm q_SP 557 2853175321 h) 539 49 96) (m_ac (a_gm q_SP 557 2853175321 h) 545 0 96) (m_ac (a_gm q_SP 557 2853175321 h) 543 0 1344) x = _
  rw [m_gs (code := 2853175321) (c := 539) (j := 0) (by decide +kernel), m_ga (code := 2853175321) (c := 539) (off := 49) (n := 96) (by decide +kernel), m_ga (code := 2853175321) (c := 545) (off := 0) (n := 96) (by decide +kernel), m_ga (code := 2853175321) (c := 543) (off := 0) (n := 1344) (by decide +kernel)]
theorem f_R0 {h : qH} {x : Int} : a_M q_SP 557 5000658970 x h = p_R0 (m_gh h 539 0) (m_gh h 539 1) (m_ac (m_gh h) 539 49 96) (m_gh h 539 2) (m_ac (m_gh h) 539 7 6) (m_ac (m_gh h) 543 0 1344) (m_ac (m_gh h) 546 0 1344) x := by
  show p_R0 (a_gm q_SP 557 5000658970 h 539 0) (a_gm q_SP 557 5000658970 h 539 1) (m_ac (a_gm q_SP 557 5000658970 h) 539 49 96) (a_gm q_SP 557 5000658970 h 539 2) (m_ac (a_gm q_SP 557 5000658970 h) 539 7 6) (m_ac (a_gm q_SP 557 5000658970 h) 543 0 1344) (m_ac (a_gm q_SP 557 5000658970 h) 546 0 1344) x = _
  rw [m_gs (code := 5000658970) (c := 539) (j := 0) (by decide +kernel), m_gs (code := 5000658970) (c := 539) (j := 1) (by decide +kernel), m_ga (code := 5000658970) (c := 539) (off := 49) (n := 96) (by decide +kernel), m_gs (code := 5000658970) (c := 539) (j := 2) (by decide +kernel), m_ga (code := 5000658970) (c := 539) (off := 7) (n := 6) (by decide +kernel), m_ga (code := 5000658970) (c := 543) (off := 0) (n := 1344) (by decide +kernel), m_ga (code := 5000658970) (c := 546) (off := 0) (n := 1344) (by decide +kernel)]
theorem f_RA {h : qH} {x : Int} : a_M q_SP 557 5000658971 x h = p_RA (m_gh h 539 0) (m_gh h 539 1) (m_ac (m_gh h) 539 49 96) (m_gh h 539 2) (m_ac (m_gh h) 539 7 6) (m_ac (m_gh h) 543 0 1344) (m_ac (m_gh h) 546 0 1344) x := by
  show p_RA (a_gm q_SP 557 5000658971 h 539 0) (a_gm q_SP 557 5000658971 h 539 1) (m_ac (a_gm q_SP 557 5000658971 h) 539 49 96) (a_gm q_SP 557 5000658971 h 539 2) (m_ac (a_gm q_SP 557 5000658971 h) 539 7 6) (m_ac (a_gm q_SP 557 5000658971 h) 543 0 1344) (m_ac (a_gm q_SP 557 5000658971 h) 546 0 1344) x = _
  rw [m_gs (code := 5000658971) (c := 539) (j := 0) (by decide +kernel), m_gs (code := 5000658971) (c := 539) (j := 1) (by decide +kernel), m_ga (code := 5000658971) (c := 539) (off := 49) (n := 96) (by decide +kernel), m_gs (code := 5000658971) (c := 539) (j := 2) (by decide +kernel), m_ga (code := 5000658971) (c := 539) (off := 7) (n := 6) (by decide +kernel), m_ga (code := 5000658971) (c := 543) (off := 0) (n := 1344) (by decide +kernel), m_ga (code := 5000658971) (c := 546) (off := 0) (n := 1344) (by decide +kernel)]
theorem f_FA {h : qH} {x : Int} : a_M q_SP 557 7148142620 x h = p_FA (m_gh h 539 0) (m_gh h 539 1) (m_ac (m_gh h) 539 49 96) (m_ac (m_gh h) 545 0 96) (m_gh h 539 2) (m_ac (m_gh h) 539 7 6) (m_ac (m_gh h) 543 0 1344) (m_ac (m_gh h) 546 0 1344) x := by
  show p_FA (a_gm q_SP 557 7148142620 h 539 0) (a_gm q_SP 557 7148142620 h 539 1) (m_ac (a_gm q_SP 557 7148142620 h) 539 49 96) (m_ac (a_gm q_SP 557 7148142620 h) 545 0 96) (a_gm q_SP 557 7148142620 h 539 2) (m_ac (a_gm q_SP 557 7148142620 h) 539 7 6) (m_ac (a_gm q_SP 557 7148142620 h) 543 0 1344) (m_ac (a_gm q_SP 557 7148142620 h) 546 0 1344) x = _
  rw [m_gs (code := 7148142620) (c := 539) (j := 0) (by decide +kernel), m_gs (code := 7148142620) (c := 539) (j := 1) (by decide +kernel), m_ga (code := 7148142620) (c := 539) (off := 49) (n := 96) (by decide +kernel), m_ga (code := 7148142620) (c := 545) (off := 0) (n := 96) (by decide +kernel), m_gs (code := 7148142620) (c := 539) (j := 2) (by decide +kernel), m_ga (code := 7148142620) (c := 539) (off := 7) (n := 6) (by decide +kernel), m_ga (code := 7148142620) (c := 543) (off := 0) (n := 1344) (by decide +kernel), m_ga (code := 7148142620) (c := 546) (off := 0) (n := 1344) (by decide +kernel)]
theorem f_FB {h : qH} {x : Int} : a_M q_SP 557 7148142621 x h = p_FB (m_gh h 539 0) (m_gh h 539 1) (m_ac (m_gh h) 539 49 96) (m_ac (m_gh h) 545 0 96) (m_gh h 539 2) (m_ac (m_gh h) 539 7 6) (m_ac (m_gh h) 543 0 1344) (m_ac (m_gh h) 546 0 1344) x := by
  show p_FB (a_gm q_SP 557 7148142621 h 539 0) (a_gm q_SP 557 7148142621 h 539 1) (m_ac (a_gm q_SP 557 7148142621 h) 539 49 96) (m_ac (a_gm q_SP 557 7148142621 h) 545 0 96) (a_gm q_SP 557 7148142621 h 539 2) (m_ac (a_gm q_SP 557 7148142621 h) 539 7 6) (m_ac (a_gm q_SP 557 7148142621 h) 543 0 1344) (m_ac (a_gm q_SP 557 7148142621 h) 546 0 1344) x = _
  rw [m_gs (code := 7148142621) (c := 539) (j := 0) (by decide +kernel), m_gs (code := 7148142621) (c := 539) (j := 1) (by decide +kernel), m_ga (code := 7148142621) (c := 539) (off := 49) (n := 96) (by decide +kernel), m_ga (code := 7148142621) (c := 545) (off := 0) (n := 96) (by decide +kernel), m_gs (code := 7148142621) (c := 539) (j := 2) (by decide +kernel), m_ga (code := 7148142621) (c := 539) (off := 7) (n := 6) (by decide +kernel), m_ga (code := 7148142621) (c := 543) (off := 0) (n := 1344) (by decide +kernel), m_ga (code := 7148142621) (c := 546) (off := 0) (n := 1344) (by decide +kernel)]
theorem f_FD {h : qH} {x : Int} : a_M q_SP 557 7148142622 x h = p_FD (m_gh h 539 0) (m_gh h 539 1) (m_ac (m_gh h) 539 49 96) (m_ac (m_gh h) 545 0 96) (m_gh h 539 2) (m_ac (m_gh h) 539 7 6) (m_ac (m_gh h) 543 0 1344) (m_ac (m_gh h) 546 0 1344) x := by
  show p_FD (a_gm q_SP 557 7148142622 h 539 0) (a_gm q_SP 557 7148142622 h 539 1) (m_ac (a_gm q_SP 557 7148142622 h) 539 49 96) (m_ac (a_gm q_SP 557 7148142622 h) 545 0 96) (a_gm q_SP 557 7148142622 h 539 2) (m_ac (a_gm q_SP 557 7148142622 h) 539 7 6) (m_ac (a_gm q_SP 557 7148142622 h) 543 0 1344) (m_ac (a_gm q_SP 557 7148142622 h) 546 0 1344) x = _
  rw [m_gs (code := 7148142622) (c := 539) (j := 0) (by decide +kernel), m_gs (code := 7148142622) (c := 539) (j := 1) (by decide +kernel), m_ga (code := 7148142622) (c := 539) (off := 49) (n := 96) (by decide +kernel), m_ga (code := 7148142622) (c := 545) (off := 0) (n := 96) (by decide +kernel), m_gs (code := 7148142622) (c := 539) (j := 2) (by decide +kernel), m_ga (code := 7148142622) (c := 539) (off := 7) (n := 6) (by decide +kernel), m_ga (code := 7148142622) (c := 543) (off := 0) (n := 1344) (by decide +kernel), m_ga (code := 7148142622) (c := 546) (off := 0) (n := 1344) (by decide +kernel)]
theorem f_WT {h : qH} {x : Int} : a_M q_SP 557 4296015903 x h = p_WT (m_ac (m_gh h) 546 0 1344) x := by
  show p_WT (m_ac (a_gm q_SP 557 4296015903 h) 546 0 1344) x = _
  rw [m_ga (code := 4296015903) (c := 546) (off := 0) (n := 1344) (by decide +kernel)]
theorem f_BW {h : qH} {x : Int} : a_M q_SP 557 7148142624 x h = p_BW (m_gh h 539 0) (m_ac (m_gh h) 539 49 96) (m_ac (m_gh h) 545 0 96) (m_ac (m_gh h) 543 0 1344) (m_ac (m_gh h) 546 0 1344) x := by
  show p_BW (a_gm q_SP 557 7148142624 h 539 0) (m_ac (a_gm q_SP 557 7148142624 h) 539 49 96) (m_ac (a_gm q_SP 557 7148142624 h) 545 0 96) (m_ac (a_gm q_SP 557 7148142624 h) 543 0 1344) (m_ac (a_gm q_SP 557 7148142624 h) 546 0 1344) x = _
  rw [m_gs (code := 7148142624) (c := 539) (j := 0) (by decide +kernel), m_ga (code := 7148142624) (c := 539) (off := 49) (n := 96) (by decide +kernel), m_ga (code := 7148142624) (c := 545) (off := 0) (n := 96) (by decide +kernel), m_ga (code := 7148142624) (c := 543) (off := 0) (n := 1344) (by decide +kernel), m_ga (code := 7148142624) (c := 546) (off := 0) (n := 1344) (by decide +kernel)]
theorem f_WE {h : qH} {x : Int} : a_M q_SP 557 7148142625 x h = p_WE (m_gh h 539 0) (m_ac (m_gh h) 539 49 96) (m_ac (m_gh h) 545 0 96) (m_ac (m_gh h) 543 0 1344) (m_ac (m_gh h) 546 0 1344) x := by
  show p_WE (a_gm q_SP 557 7148142625 h 539 0) (m_ac (a_gm q_SP 557 7148142625 h) 539 49 96) (m_ac (a_gm q_SP 557 7148142625 h) 545 0 96) (m_ac (a_gm q_SP 557 7148142625 h) 543 0 1344) (m_ac (a_gm q_SP 557 7148142625 h) 546 0 1344) x = _
  rw [m_gs (code := 7148142625) (c := 539) (j := 0) (by decide +kernel), m_ga (code := 7148142625) (c := 539) (off := 49) (n := 96) (by decide +kernel), m_ga (code := 7148142625) (c := 545) (off := 0) (n := 96) (by decide +kernel), m_ga (code := 7148142625) (c := 543) (off := 0) (n := 1344) (by decide +kernel), m_ga (code := 7148142625) (c := 546) (off := 0) (n := 1344) (by decide +kernel)]
theorem f_AM {h : qH} {x : Int} : a_M q_SP 557 3390046242 x h = p_AM (m_gh h 539 0) (m_ac (m_gh h) 539 49 96) (m_ac (m_gh h) 545 0 96) (m_gh h 539 2) (m_ac (m_gh h) 539 7 6) (m_ac (m_gh h) 544 0 1344) x := by
  show p_AM (a_gm q_SP 557 3390046242 h 539 0) (m_ac (a_gm q_SP 557 3390046242 h) 539 49 96) (m_ac (a_gm q_SP 557 3390046242 h) 545 0 96) (a_gm q_SP 557 3390046242 h 539 2) (m_ac (a_gm q_SP 557 3390046242 h) 539 7 6) (m_ac (a_gm q_SP 557 3390046242 h) 544 0 1344) x = _
  rw [m_gs (code := 3390046242) (c := 539) (j := 0) (by decide +kernel), m_ga (code := 3390046242) (c := 539) (off := 49) (n := 96) (by decide +kernel), m_ga (code := 3390046242) (c := 545) (off := 0) (n := 96) (by decide +kernel), m_gs (code := 3390046242) (c := 539) (j := 2) (by decide +kernel), m_ga (code := 3390046242) (c := 539) (off := 7) (n := 6) (by decide +kernel), m_ga (code := 3390046242) (c := 544) (off := 0) (n := 1344) (by decide +kernel)]
theorem f_AN {h : qH} {x : Int} : a_M q_SP 557 3390046243 x h = p_AN (m_gh h 539 0) (m_ac (m_gh h) 539 49 96) (m_ac (m_gh h) 545 0 96) (m_gh h 539 2) (m_ac (m_gh h) 539 7 6) (m_ac (m_gh h) 544 0 1344) x := by
  show p_AN (a_gm q_SP 557 3390046243 h 539 0) (m_ac (a_gm q_SP 557 3390046243 h) 539 49 96) (m_ac (a_gm q_SP 557 3390046243 h) 545 0 96) (a_gm q_SP 557 3390046243 h 539 2) (m_ac (a_gm q_SP 557 3390046243 h) 539 7 6) (m_ac (a_gm q_SP 557 3390046243 h) 544 0 1344) x = _
  rw [m_gs (code := 3390046243) (c := 539) (j := 0) (by decide +kernel), m_ga (code := 3390046243) (c := 539) (off := 49) (n := 96) (by decide +kernel), m_ga (code := 3390046243) (c := 545) (off := 0) (n := 96) (by decide +kernel), m_gs (code := 3390046243) (c := 539) (j := 2) (by decide +kernel), m_ga (code := 3390046243) (c := 539) (off := 7) (n := 6) (by decide +kernel), m_ga (code := 3390046243) (c := 544) (off := 0) (n := 1344) (by decide +kernel)]
theorem f_AA {h : qH} {x : Int} : a_M q_SP 557 3390046244 x h = p_AA (m_gh h 539 0) (m_ac (m_gh h) 539 49 96) (m_ac (m_gh h) 545 0 96) (m_gh h 539 2) (m_ac (m_gh h) 539 7 6) (m_ac (m_gh h) 544 0 1344) x := by
  show p_AA (a_gm q_SP 557 3390046244 h 539 0) (m_ac (a_gm q_SP 557 3390046244 h) 539 49 96) (m_ac (a_gm q_SP 557 3390046244 h) 545 0 96) (a_gm q_SP 557 3390046244 h 539 2) (m_ac (a_gm q_SP 557 3390046244 h) 539 7 6) (m_ac (a_gm q_SP 557 3390046244 h) 544 0 1344) x = _
  rw [m_gs (code := 3390046244) (c := 539) (j := 0) (by decide +kernel), m_ga (code := 3390046244) (c := 539) (off := 49) (n := 96) (by decide +kernel), m_ga (code := 3390046244) (c := 545) (off := 0) (n := 96) (by decide +kernel), m_gs (code := 3390046244) (c := 539) (j := 2) (by decide +kernel), m_ga (code := 3390046244) (c := 539) (off := 7) (n := 6) (by decide +kernel), m_ga (code := 3390046244) (c := 544) (off := 0) (n := 1344) (by decide +kernel)]
theorem f_AD {h : qH} {x : Int} : a_M q_SP 557 3390046245 x h = p_AD (m_gh h 539 0) (m_ac (m_gh h) 539 49 96) (m_ac (m_gh h) 545 0 96) (m_gh h 539 2) (m_ac (m_gh h) 539 7 6) (m_ac (m_gh h) 544 0 1344) x := by
  show p_AD (a_gm q_SP 557 3390046245 h 539 0) (m_ac (a_gm q_SP 557 3390046245 h) 539 49 96) (m_ac (a_gm q_SP 557 3390046245 h) 545 0 96) (a_gm q_SP 557 3390046245 h 539 2) (m_ac (a_gm q_SP 557 3390046245 h) 539 7 6) (m_ac (a_gm q_SP 557 3390046245 h) 544 0 1344) x = _
  rw [m_gs (code := 3390046245) (c := 539) (j := 0) (by decide +kernel), m_ga (code := 3390046245) (c := 539) (off := 49) (n := 96) (by decide +kernel), m_ga (code := 3390046245) (c := 545) (off := 0) (n := 96) (by decide +kernel), m_gs (code := 3390046245) (c := 539) (j := 2) (by decide +kernel), m_ga (code := 3390046245) (c := 539) (off := 7) (n := 6) (by decide +kernel), m_ga (code := 3390046245) (c := 544) (off := 0) (n := 1344) (by decide +kernel)]
theorem f_LM {h : qH} {x : Int} : a_M q_SP 557 1645215782 x h = p_LM (m_gh h 539 0) (m_gh h 539 2) (m_ac (m_gh h) 539 7 6) (m_ac (m_gh h) 543 0 1344) (m_ac (m_gh h) 544 0 1344) x := by
  show p_LM (a_gm q_SP 557 1645215782 h 539 0) (a_gm q_SP 557 1645215782 h 539 2) (m_ac (a_gm q_SP 557 1645215782 h) 539 7 6) (m_ac (a_gm q_SP 557 1645215782 h) 543 0 1344) (m_ac (a_gm q_SP 557 1645215782 h) 544 0 1344) x = _
  rw [m_gs (code := 1645215782) (c := 539) (j := 0) (by decide +kernel), m_gs (code := 1645215782) (c := 539) (j := 2) (by decide +kernel), m_ga (code := 1645215782) (c := 539) (off := 7) (n := 6) (by decide +kernel), m_ga (code := 1645215782) (c := 543) (off := 0) (n := 1344) (by decide +kernel), m_ga (code := 1645215782) (c := 544) (off := 0) (n := 1344) (by decide +kernel)]
theorem f_M1 {h : qH} {x : Int} : a_M q_SP 557 8238661671 x h = p_M1 (m_gh h 539 0) (m_gh h 539 1) (m_ac (m_gh h) 539 49 96) (m_ac (m_gh h) 545 0 96) (m_gh h 539 2) (m_ac (m_gh h) 539 7 6) (m_ac (m_gh h) 543 0 1344) (m_ac (m_gh h) 544 0 1344) (m_ac (m_gh h) 546 0 1344) (m_gh h 534 29) x := by
  show p_M1 (a_gm q_SP 557 8238661671 h 539 0) (a_gm q_SP 557 8238661671 h 539 1) (m_ac (a_gm q_SP 557 8238661671 h) 539 49 96) (m_ac (a_gm q_SP 557 8238661671 h) 545 0 96) (a_gm q_SP 557 8238661671 h 539 2) (m_ac (a_gm q_SP 557 8238661671 h) 539 7 6) (m_ac (a_gm q_SP 557 8238661671 h) 543 0 1344) (m_ac (a_gm q_SP 557 8238661671 h) 544 0 1344) (m_ac (a_gm q_SP 557 8238661671 h) 546 0 1344) (a_gm q_SP 557 8238661671 h 534 29) x = _
  rw [m_gs (code := 8238661671) (c := 539) (j := 0) (by decide +kernel), m_gs (code := 8238661671) (c := 539) (j := 1) (by decide +kernel), m_ga (code := 8238661671) (c := 539) (off := 49) (n := 96) (by decide +kernel), m_ga (code := 8238661671) (c := 545) (off := 0) (n := 96) (by decide +kernel), m_gs (code := 8238661671) (c := 539) (j := 2) (by decide +kernel), m_ga (code := 8238661671) (c := 539) (off := 7) (n := 6) (by decide +kernel), m_ga (code := 8238661671) (c := 543) (off := 0) (n := 1344) (by decide +kernel), m_ga (code := 8238661671) (c := 544) (off := 0) (n := 1344) (by decide +kernel), m_ga (code := 8238661671) (c := 546) (off := 0) (n := 1344) (by decide +kernel), m_gs (code := 8238661671) (c := 534) (j := 29) (by decide +kernel)]
theorem f_NW {h : qH} {x : Int} : a_M q_SP 557 4883218472 x h = p_NW (m_gh h 539 0) (m_gh h 539 2) (m_ac (m_gh h) 539 7 6) (m_ac (m_gh h) 543 0 1344) (m_ac (m_gh h) 546 0 1344) (m_gh h 534 29) x := by
  show p_NW (a_gm q_SP 557 4883218472 h 539 0) (a_gm q_SP 557 4883218472 h 539 2) (m_ac (a_gm q_SP 557 4883218472 h) 539 7 6) (m_ac (a_gm q_SP 557 4883218472 h) 543 0 1344) (m_ac (a_gm q_SP 557 4883218472 h) 546 0 1344) (a_gm q_SP 557 4883218472 h 534 29) x = _
  rw [m_gs (code := 4883218472) (c := 539) (j := 0) (by decide +kernel), m_gs (code := 4883218472) (c := 539) (j := 2) (by decide +kernel), m_ga (code := 4883218472) (c := 539) (off := 7) (n := 6) (by decide +kernel), m_ga (code := 4883218472) (c := 543) (off := 0) (n := 1344) (by decide +kernel), m_ga (code := 4883218472) (c := 546) (off := 0) (n := 1344) (by decide +kernel), m_gs (code := 4883218472) (c := 534) (j := 29) (by decide +kernel)]
theorem f_M2 {h : qH} {x : Int} : a_M q_SP 557 4883218473 x h = p_M2 (m_gh h 539 0) (m_gh h 539 2) (m_ac (m_gh h) 539 7 6) (m_ac (m_gh h) 543 0 1344) (m_ac (m_gh h) 546 0 1344) (m_gh h 534 29) x := by
  show p_M2 (a_gm q_SP 557 4883218473 h 539 0) (a_gm q_SP 557 4883218473 h 539 2) (m_ac (a_gm q_SP 557 4883218473 h) 539 7 6) (m_ac (a_gm q_SP 557 4883218473 h) 543 0 1344) (m_ac (a_gm q_SP 557 4883218473 h) 546 0 1344) (a_gm q_SP 557 4883218473 h 534 29) x = _
  rw [m_gs (code := 4883218473) (c := 539) (j := 0) (by decide +kernel), m_gs (code := 4883218473) (c := 539) (j := 2) (by decide +kernel), m_ga (code := 4883218473) (c := 539) (off := 7) (n := 6) (by decide +kernel), m_ga (code := 4883218473) (c := 543) (off := 0) (n := 1344) (by decide +kernel), m_ga (code := 4883218473) (c := 546) (off := 0) (n := 1344) (by decide +kernel), m_gs (code := 4883218473) (c := 534) (j := 29) (by decide +kernel)]
theorem f_NO {h : qH} {x : Int} : a_M q_SP 557 1661993002 x h = p_NO (m_gh h 539 0) (m_gh h 539 2) (m_ac (m_gh h) 539 7 6) (m_ac (m_gh h) 543 0 1344) (m_ac (m_gh h) 544 0 1344) (m_gh h 534 29) x := by
  show p_NO (a_gm q_SP 557 1661993002 h 539 0) (a_gm q_SP 557 1661993002 h 539 2) (m_ac (a_gm q_SP 557 1661993002 h) 539 7 6) (m_ac (a_gm q_SP 557 1661993002 h) 543 0 1344) (m_ac (a_gm q_SP 557 1661993002 h) 544 0 1344) (a_gm q_SP 557 1661993002 h 534 29) x = _
  rw [m_gs (code := 1661993002) (c := 539) (j := 0) (by decide +kernel), m_gs (code := 1661993002) (c := 539) (j := 2) (by decide +kernel), m_ga (code := 1661993002) (c := 539) (off := 7) (n := 6) (by decide +kernel), m_ga (code := 1661993002) (c := 543) (off := 0) (n := 1344) (by decide +kernel), m_ga (code := 1661993002) (c := 544) (off := 0) (n := 1344) (by decide +kernel), m_gs (code := 1661993002) (c := 534) (j := 29) (by decide +kernel)]
theorem f_OP {h : qH} {x : Int} : a_M q_SP 557 1661993003 x h = p_OP (m_gh h 539 0) (m_gh h 539 2) (m_ac (m_gh h) 539 7 6) (m_ac (m_gh h) 543 0 1344) (m_ac (m_gh h) 544 0 1344) (m_gh h 534 29) x := by
  show p_OP (a_gm q_SP 557 1661993003 h 539 0) (a_gm q_SP 557 1661993003 h 539 2) (m_ac (a_gm q_SP 557 1661993003 h) 539 7 6) (m_ac (a_gm q_SP 557 1661993003 h) 543 0 1344) (m_ac (a_gm q_SP 557 1661993003 h) 544 0 1344) (a_gm q_SP 557 1661993003 h 534 29) x = _
  rw [m_gs (code := 1661993003) (c := 539) (j := 0) (by decide +kernel), m_gs (code := 1661993003) (c := 539) (j := 2) (by decide +kernel), m_ga (code := 1661993003) (c := 539) (off := 7) (n := 6) (by decide +kernel), m_ga (code := 1661993003) (c := 543) (off := 0) (n := 1344) (by decide +kernel), m_ga (code := 1661993003) (c := 544) (off := 0) (n := 1344) (by decide +kernel), m_gs (code := 1661993003) (c := 534) (j := 29) (by decide +kernel)]
theorem f_NB {h : qH} {x : Int} : a_M q_SP 557 3809476652 x h = p_NB (m_gh h 539 0) (m_ac (m_gh h) 545 0 96) (m_ac (m_gh h) 543 0 1344) (m_ac (m_gh h) 544 0 1344) (m_gh h 534 29) x := by
  show p_NB (a_gm q_SP 557 3809476652 h 539 0) (m_ac (a_gm q_SP 557 3809476652 h) 545 0 96) (m_ac (a_gm q_SP 557 3809476652 h) 543 0 1344) (m_ac (a_gm q_SP 557 3809476652 h) 544 0 1344) (a_gm q_SP 557 3809476652 h 534 29) x = _
  rw [m_gs (code := 3809476652) (c := 539) (j := 0) (by decide +kernel), m_ga (code := 3809476652) (c := 545) (off := 0) (n := 96) (by decide +kernel), m_ga (code := 3809476652) (c := 543) (off := 0) (n := 1344) (by decide +kernel), m_ga (code := 3809476652) (c := 544) (off := 0) (n := 1344) (by decide +kernel), m_gs (code := 3809476652) (c := 534) (j := 29) (by decide +kernel)]
theorem f_OA {h : qH} {x : Int} : a_M q_SP 557 1661993005 x h = p_OA (m_gh h 539 0) (m_ac (m_gh h) 543 0 1344) (m_ac (m_gh h) 544 0 1344) (m_gh h 534 29) x := by
  show p_OA (a_gm q_SP 557 1661993005 h 539 0) (m_ac (a_gm q_SP 557 1661993005 h) 543 0 1344) (m_ac (a_gm q_SP 557 1661993005 h) 544 0 1344) (a_gm q_SP 557 1661993005 h 534 29) x = _
  rw [m_gs (code := 1661993005) (c := 539) (j := 0) (by decide +kernel), m_ga (code := 1661993005) (c := 543) (off := 0) (n := 1344) (by decide +kernel), m_ga (code := 1661993005) (c := 544) (off := 0) (n := 1344) (by decide +kernel), m_gs (code := 1661993005) (c := 534) (j := 29) (by decide +kernel)]
theorem f_FP {h : qH} {x : Int} : a_M q_SP 557 537919534 x h = p_FP (m_ac (m_gh h) 543 0 1344) x := by
  show p_FP (m_ac (a_gm q_SP 557 537919534 h) 543 0 1344) x = _
  rw [m_ga (code := 537919534) (c := 543) (off := 0) (n := 1344) (by decide +kernel)]
theorem f_SV {h : qH} {x : Int} : a_M q_SP 557 2718957615 x h = p_SV (m_gh h 539 0) (m_ac (m_gh h) 545 0 96) (m_ac (m_gh h) 543 0 1344) x := by
  show p_SV (a_gm q_SP 557 2718957615 h 539 0) (m_ac (a_gm q_SP 557 2718957615 h) 545 0 96) (m_ac (a_gm q_SP 557 2718957615 h) 543 0 1344) x = _
  rw [m_gs (code := 2718957615) (c := 539) (j := 0) (by decide +kernel), m_ga (code := 2718957615) (c := 545) (off := 0) (n := 96) (by decide +kernel), m_ga (code := 2718957615) (c := 543) (off := 0) (n := 1344) (by decide +kernel)]
theorem f_RC {h : qH} {x : Int} : a_M q_SP 557 1099512676400 x h = p_RC (m_ac (m_gh h) 553 0 96) x := by
  show p_RC (m_ac (a_gm q_SP 557 1099512676400 h) 553 0 96) x = _
  rw [m_ga (code := 1099512676400) (c := 553) (off := 0) (n := 96) (by decide +kernel)]
theorem f_RD {h : qH} {x : Int} : a_M q_SP 557 1099512676401 x h = p_RD (m_ac (m_gh h) 553 0 96) x := by
  show p_RD (m_ac (a_gm q_SP 557 1099512676401 h) 553 0 96) x = _
  rw [m_ga (code := 1099512676401) (c := 553) (off := 0) (n := 96) (by decide +kernel)]
theorem f_XX {h : qH} {x : Int} : a_M q_SP 557 1048626 x h = p_XX  x := by
  show p_XX  x = _
  rfl
theorem f_XO {h : qH} {x : Int} : a_M q_SP 557 1048627 x h = p_XO  x := by
  show p_XO  x = _
  rfl
theorem f_PX {h : qH} {x : Int} : a_M q_SP 557 1099512676404 x h = p_PX (m_ac (m_gh h) 553 0 96) x := by
  show p_PX (m_ac (a_gm q_SP 557 1099512676404 h) 553 0 96) x = _
  rw [m_ga (code := 1099512676404) (c := 553) (off := 0) (n := 96) (by decide +kernel)]
theorem f_QQ {h : qH} {x : Int} : a_M q_SP 557 3809476661 x h = p_QQ (m_gh h 539 0) (m_ac (m_gh h) 545 0 96) (m_gh h 539 2) (m_ac (m_gh h) 539 7 6) (m_ac (m_gh h) 543 0 1344) (m_ac (m_gh h) 544 0 1344) (m_gh h 534 29) x := by
  show p_QQ (a_gm q_SP 557 3809476661 h 539 0) (m_ac (a_gm q_SP 557 3809476661 h) 545 0 96) (a_gm q_SP 557 3809476661 h 539 2) (m_ac (a_gm q_SP 557 3809476661 h) 539 7 6) (m_ac (a_gm q_SP 557 3809476661 h) 543 0 1344) (m_ac (a_gm q_SP 557 3809476661 h) 544 0 1344) (a_gm q_SP 557 3809476661 h 534 29) x = _
  rw [m_gs (code := 3809476661) (c := 539) (j := 0) (by decide +kernel), m_ga (code := 3809476661) (c := 545) (off := 0) (n := 96) (by decide +kernel), m_gs (code := 3809476661) (c := 539) (j := 2) (by decide +kernel), m_ga (code := 3809476661) (c := 539) (off := 7) (n := 6) (by decide +kernel), m_ga (code := 3809476661) (c := 543) (off := 0) (n := 1344) (by decide +kernel), m_ga (code := 3809476661) (c := 544) (off := 0) (n := 1344) (by decide +kernel), m_gs (code := 3809476661) (c := 534) (j := 29) (by decide +kernel)]
theorem f_TQ {h : qH} {x : Int} : a_M q_SP 557 4323473234462769252 x h = p_TQ (m_ac (m_gh h) 467 0 60) (m_ac (m_gh h) 469 0 60) (m_ac (m_gh h) 471 0 60) (m_ac (m_gh h) 473 0 60) (m_ac (m_gh h) 537 0 240) x := by
  show p_TQ (m_ac (a_gm q_SP 557 4323473234462769252 h) 467 0 60) (m_ac (a_gm q_SP 557 4323473234462769252 h) 469 0 60) (m_ac (a_gm q_SP 557 4323473234462769252 h) 471 0 60) (m_ac (a_gm q_SP 557 4323473234462769252 h) 473 0 60) (m_ac (a_gm q_SP 557 4323473234462769252 h) 537 0 240) x = _
  rw [m_ga (code := 4323473234462769252) (c := 467) (off := 0) (n := 60) (by decide +kernel), m_ga (code := 4323473234462769252) (c := 469) (off := 0) (n := 60) (by decide +kernel), m_ga (code := 4323473234462769252) (c := 471) (off := 0) (n := 60) (by decide +kernel), m_ga (code := 4323473234462769252) (c := 473) (off := 0) (n := 60) (by decide +kernel), m_ga (code := 4323473234462769252) (c := 537) (off := 0) (n := 240) (by decide +kernel)]
theorem f_XW {h : qH} {x : Int} : a_M q_SP 557 1048677 x h = p_XW  x := by
  show p_XW  x = _
  rfl
theorem f_LI {h : qH} {x : Int} : a_M q_SP 557 1048678 x h = p_LI  x := by
  show p_LI  x = _
  rfl
theorem f_CV0 {h : qH} {x : Int} : a_M q_SP 557 1048679 x h = p_CV0  x := by
  show p_CV0  x = _
  rfl
theorem f_CV1 {h : qH} {x : Int} : a_M q_SP 557 1048680 x h = p_CV1  x := by
  show p_CV1  x = _
  rfl
theorem f_CV2 {h : qH} {x : Int} : a_M q_SP 557 1048681 x h = p_CV2  x := by
  show p_CV2  x = _
  rfl
theorem f_CR0 {h : qH} {x : Int} : a_M q_SP 557 1048682 x h = p_CR0  x := by
  show p_CR0  x = _
  rfl
theorem f_CR1 {h : qH} {x : Int} : a_M q_SP 557 1048683 x h = p_CR1  x := by
  show p_CR1  x = _
  rfl
theorem f_CR2 {h : qH} {x : Int} : a_M q_SP 557 1048684 x h = p_CR2  x := by
  show p_CR2  x = _
  rfl
theorem f_TE0 {h : qH} {x : Int} : a_M q_SP 557 4035242858311057518 x h = p_TE0 (m_ac (m_gh h) 469 0 60) (m_ac (m_gh h) 471 0 60) (m_ac (m_gh h) 473 0 60) (m_ac (m_gh h) 537 0 240) x := by
  show p_TE0 (m_ac (a_gm q_SP 557 4035242858311057518 h) 469 0 60) (m_ac (a_gm q_SP 557 4035242858311057518 h) 471 0 60) (m_ac (a_gm q_SP 557 4035242858311057518 h) 473 0 60) (m_ac (a_gm q_SP 557 4035242858311057518 h) 537 0 240) x = _
  rw [m_ga (code := 4035242858311057518) (c := 469) (off := 0) (n := 60) (by decide +kernel), m_ga (code := 4035242858311057518) (c := 471) (off := 0) (n := 60) (by decide +kernel), m_ga (code := 4035242858311057518) (c := 473) (off := 0) (n := 60) (by decide +kernel), m_ga (code := 4035242858311057518) (c := 537) (off := 0) (n := 240) (by decide +kernel)]
theorem f_TZ0 {h : qH} {x : Int} : a_M q_SP 557 288230376152760434 x h = p_TZ0 (m_ac (m_gh h) 467 0 60) x := by
  show p_TZ0 (m_ac (a_gm q_SP 557 288230376152760434 h) 467 0 60) x = _
  rw [m_ga (code := 288230376152760434) (c := 467) (off := 0) (n := 60) (by decide +kernel)]
theorem f_TM0 {h : qH} {x : Int} : a_M q_SP 557 17592187093110 x h = p_TM0 (m_ac (m_gh h) 537 0 240) x := by
  show p_TM0 (m_ac (a_gm q_SP 557 17592187093110 h) 537 0 240) x = _
  rw [m_ga (code := 17592187093110) (c := 537) (off := 0) (n := 240) (by decide +kernel)]
theorem f_EX0 {h : qH} {x : Int} : a_M q_SP 557 4323473234462769274 x h = p_EX0 (m_ac (m_gh h) 467 0 60) (m_ac (m_gh h) 469 0 60) (m_ac (m_gh h) 471 0 60) (m_ac (m_gh h) 473 0 60) (m_ac (m_gh h) 537 0 240) x := by
  show p_EX0 (m_ac (a_gm q_SP 557 4323473234462769274 h) 467 0 60) (m_ac (a_gm q_SP 557 4323473234462769274 h) 469 0 60) (m_ac (a_gm q_SP 557 4323473234462769274 h) 471 0 60) (m_ac (a_gm q_SP 557 4323473234462769274 h) 473 0 60) (m_ac (a_gm q_SP 557 4323473234462769274 h) 537 0 240) x = _
  rw [m_ga (code := 4323473234462769274) (c := 467) (off := 0) (n := 60) (by decide +kernel), m_ga (code := 4323473234462769274) (c := 469) (off := 0) (n := 60) (by decide +kernel), m_ga (code := 4323473234462769274) (c := 471) (off := 0) (n := 60) (by decide +kernel), m_ga (code := 4323473234462769274) (c := 473) (off := 0) (n := 60) (by decide +kernel), m_ga (code := 4323473234462769274) (c := 537) (off := 0) (n := 240) (by decide +kernel)]
theorem f_NV0 {h : qH} {x : Int} : a_M q_SP 557 288230376152760446 x h = p_NV0 (m_ac (m_gh h) 467 0 60) x := by
  show p_NV0 (m_ac (a_gm q_SP 557 288230376152760446 h) 467 0 60) x = _
  rw [m_ga (code := 288230376152760446) (c := 467) (off := 0) (n := 60) (by decide +kernel)]
theorem f_TE1 {h : qH} {x : Int} : a_M q_SP 557 3747012482159345775 x h = p_TE1 (m_ac (m_gh h) 467 0 60) (m_ac (m_gh h) 471 0 60) (m_ac (m_gh h) 473 0 60) (m_ac (m_gh h) 537 0 240) x := by
  show p_TE1 (m_ac (a_gm q_SP 557 3747012482159345775 h) 467 0 60) (m_ac (a_gm q_SP 557 3747012482159345775 h) 471 0 60) (m_ac (a_gm q_SP 557 3747012482159345775 h) 473 0 60) (m_ac (a_gm q_SP 557 3747012482159345775 h) 537 0 240) x = _
  rw [m_ga (code := 3747012482159345775) (c := 467) (off := 0) (n := 60) (by decide +kernel), m_ga (code := 3747012482159345775) (c := 471) (off := 0) (n := 60) (by decide +kernel), m_ga (code := 3747012482159345775) (c := 473) (off := 0) (n := 60) (by decide +kernel), m_ga (code := 3747012482159345775) (c := 537) (off := 0) (n := 240) (by decide +kernel)]
theorem f_TZ1 {h : qH} {x : Int} : a_M q_SP 557 576460752304472179 x h = p_TZ1 (m_ac (m_gh h) 469 0 60) x := by
  show p_TZ1 (m_ac (a_gm q_SP 557 576460752304472179 h) 469 0 60) x = _
  rw [m_ga (code := 576460752304472179) (c := 469) (off := 0) (n := 60) (by decide +kernel)]
theorem f_TM1 {h : qH} {x : Int} : a_M q_SP 557 17592187093111 x h = p_TM1 (m_ac (m_gh h) 537 0 240) x := by
  show p_TM1 (m_ac (a_gm q_SP 557 17592187093111 h) 537 0 240) x = _
  rw [m_ga (code := 17592187093111) (c := 537) (off := 0) (n := 240) (by decide +kernel)]
theorem f_EX1 {h : qH} {x : Int} : a_M q_SP 557 4323473234462769275 x h = p_EX1 (m_ac (m_gh h) 467 0 60) (m_ac (m_gh h) 469 0 60) (m_ac (m_gh h) 471 0 60) (m_ac (m_gh h) 473 0 60) (m_ac (m_gh h) 537 0 240) x := by
  show p_EX1 (m_ac (a_gm q_SP 557 4323473234462769275 h) 467 0 60) (m_ac (a_gm q_SP 557 4323473234462769275 h) 469 0 60) (m_ac (a_gm q_SP 557 4323473234462769275 h) 471 0 60) (m_ac (a_gm q_SP 557 4323473234462769275 h) 473 0 60) (m_ac (a_gm q_SP 557 4323473234462769275 h) 537 0 240) x = _
  rw [m_ga (code := 4323473234462769275) (c := 467) (off := 0) (n := 60) (by decide +kernel), m_ga (code := 4323473234462769275) (c := 469) (off := 0) (n := 60) (by decide +kernel), m_ga (code := 4323473234462769275) (c := 471) (off := 0) (n := 60) (by decide +kernel), m_ga (code := 4323473234462769275) (c := 473) (off := 0) (n := 60) (by decide +kernel), m_ga (code := 4323473234462769275) (c := 537) (off := 0) (n := 240) (by decide +kernel)]
theorem f_NV1 {h : qH} {x : Int} : a_M q_SP 557 576460752304472191 x h = p_NV1 (m_ac (m_gh h) 469 0 60) x := by
  show p_NV1 (m_ac (a_gm q_SP 557 576460752304472191 h) 469 0 60) x = _
  rw [m_ga (code := 576460752304472191) (c := 469) (off := 0) (n := 60) (by decide +kernel)]
theorem f_TE2 {h : qH} {x : Int} : a_M q_SP 557 3170551729855922288 x h = p_TE2 (m_ac (m_gh h) 467 0 60) (m_ac (m_gh h) 469 0 60) (m_ac (m_gh h) 473 0 60) (m_ac (m_gh h) 537 0 240) x := by
  show p_TE2 (m_ac (a_gm q_SP 557 3170551729855922288 h) 467 0 60) (m_ac (a_gm q_SP 557 3170551729855922288 h) 469 0 60) (m_ac (a_gm q_SP 557 3170551729855922288 h) 473 0 60) (m_ac (a_gm q_SP 557 3170551729855922288 h) 537 0 240) x = _
  rw [m_ga (code := 3170551729855922288) (c := 467) (off := 0) (n := 60) (by decide +kernel), m_ga (code := 3170551729855922288) (c := 469) (off := 0) (n := 60) (by decide +kernel), m_ga (code := 3170551729855922288) (c := 473) (off := 0) (n := 60) (by decide +kernel), m_ga (code := 3170551729855922288) (c := 537) (off := 0) (n := 240) (by decide +kernel)]
theorem f_TZ2 {h : qH} {x : Int} : a_M q_SP 557 1152921504607895668 x h = p_TZ2 (m_ac (m_gh h) 471 0 60) x := by
  show p_TZ2 (m_ac (a_gm q_SP 557 1152921504607895668 h) 471 0 60) x = _
  rw [m_ga (code := 1152921504607895668) (c := 471) (off := 0) (n := 60) (by decide +kernel)]
theorem f_TM2 {h : qH} {x : Int} : a_M q_SP 557 17592187093112 x h = p_TM2 (m_ac (m_gh h) 537 0 240) x := by
  show p_TM2 (m_ac (a_gm q_SP 557 17592187093112 h) 537 0 240) x = _
  rw [m_ga (code := 17592187093112) (c := 537) (off := 0) (n := 240) (by decide +kernel)]
theorem f_EX2 {h : qH} {x : Int} : a_M q_SP 557 4323473234462769276 x h = p_EX2 (m_ac (m_gh h) 467 0 60) (m_ac (m_gh h) 469 0 60) (m_ac (m_gh h) 471 0 60) (m_ac (m_gh h) 473 0 60) (m_ac (m_gh h) 537 0 240) x := by
  show p_EX2 (m_ac (a_gm q_SP 557 4323473234462769276 h) 467 0 60) (m_ac (a_gm q_SP 557 4323473234462769276 h) 469 0 60) (m_ac (a_gm q_SP 557 4323473234462769276 h) 471 0 60) (m_ac (a_gm q_SP 557 4323473234462769276 h) 473 0 60) (m_ac (a_gm q_SP 557 4323473234462769276 h) 537 0 240) x = _
  rw [m_ga (code := 4323473234462769276) (c := 467) (off := 0) (n := 60) (by decide +kernel), m_ga (code := 4323473234462769276) (c := 469) (off := 0) (n := 60) (by decide +kernel), m_ga (code := 4323473234462769276) (c := 471) (off := 0) (n := 60) (by decide +kernel), m_ga (code := 4323473234462769276) (c := 473) (off := 0) (n := 60) (by decide +kernel), m_ga (code := 4323473234462769276) (c := 537) (off := 0) (n := 240) (by decide +kernel)]
theorem f_NV2 {h : qH} {x : Int} : a_M q_SP 557 1152921504607895680 x h = p_NV2 (m_ac (m_gh h) 471 0 60) x := by
  show p_NV2 (m_ac (a_gm q_SP 557 1152921504607895680 h) 471 0 60) x = _
  rw [m_ga (code := 1152921504607895680) (c := 471) (off := 0) (n := 60) (by decide +kernel)]
theorem f_TE3 {h : qH} {x : Int} : a_M q_SP 557 2017630225249075313 x h = p_TE3 (m_ac (m_gh h) 467 0 60) (m_ac (m_gh h) 469 0 60) (m_ac (m_gh h) 471 0 60) (m_ac (m_gh h) 537 0 240) x := by
  show p_TE3 (m_ac (a_gm q_SP 557 2017630225249075313 h) 467 0 60) (m_ac (a_gm q_SP 557 2017630225249075313 h) 469 0 60) (m_ac (a_gm q_SP 557 2017630225249075313 h) 471 0 60) (m_ac (a_gm q_SP 557 2017630225249075313 h) 537 0 240) x = _
  rw [m_ga (code := 2017630225249075313) (c := 467) (off := 0) (n := 60) (by decide +kernel), m_ga (code := 2017630225249075313) (c := 469) (off := 0) (n := 60) (by decide +kernel), m_ga (code := 2017630225249075313) (c := 471) (off := 0) (n := 60) (by decide +kernel), m_ga (code := 2017630225249075313) (c := 537) (off := 0) (n := 240) (by decide +kernel)]
theorem f_TZ3 {h : qH} {x : Int} : a_M q_SP 557 2305843009214742645 x h = p_TZ3 (m_ac (m_gh h) 473 0 60) x := by
  show p_TZ3 (m_ac (a_gm q_SP 557 2305843009214742645 h) 473 0 60) x = _
  rw [m_ga (code := 2305843009214742645) (c := 473) (off := 0) (n := 60) (by decide +kernel)]
theorem f_TM3 {h : qH} {x : Int} : a_M q_SP 557 17592187093113 x h = p_TM3 (m_ac (m_gh h) 537 0 240) x := by
  show p_TM3 (m_ac (a_gm q_SP 557 17592187093113 h) 537 0 240) x = _
  rw [m_ga (code := 17592187093113) (c := 537) (off := 0) (n := 240) (by decide +kernel)]
theorem f_EX3 {h : qH} {x : Int} : a_M q_SP 557 4323473234462769277 x h = p_EX3 (m_ac (m_gh h) 467 0 60) (m_ac (m_gh h) 469 0 60) (m_ac (m_gh h) 471 0 60) (m_ac (m_gh h) 473 0 60) (m_ac (m_gh h) 537 0 240) x := by
  show p_EX3 (m_ac (a_gm q_SP 557 4323473234462769277 h) 467 0 60) (m_ac (a_gm q_SP 557 4323473234462769277 h) 469 0 60) (m_ac (a_gm q_SP 557 4323473234462769277 h) 471 0 60) (m_ac (a_gm q_SP 557 4323473234462769277 h) 473 0 60) (m_ac (a_gm q_SP 557 4323473234462769277 h) 537 0 240) x = _
  rw [m_ga (code := 4323473234462769277) (c := 467) (off := 0) (n := 60) (by decide +kernel), m_ga (code := 4323473234462769277) (c := 469) (off := 0) (n := 60) (by decide +kernel), m_ga (code := 4323473234462769277) (c := 471) (off := 0) (n := 60) (by decide +kernel), m_ga (code := 4323473234462769277) (c := 473) (off := 0) (n := 60) (by decide +kernel), m_ga (code := 4323473234462769277) (c := 537) (off := 0) (n := 240) (by decide +kernel)]
theorem f_NV3 {h : qH} {x : Int} : a_M q_SP 557 2305843009214742657 x h = p_NV3 (m_ac (m_gh h) 473 0 60) x := by
  show p_NV3 (m_ac (a_gm q_SP 557 2305843009214742657 h) 473 0 60) x = _
  rw [m_ga (code := 2305843009214742657) (c := 473) (off := 0) (n := 60) (by decide +kernel)]
theorem f_NL {h : qH} {x : Int} : a_M q_SP 557 17592187093125 x h = p_NL (m_ac (m_gh h) 537 0 240) x := by
  show p_NL (m_ac (a_gm q_SP 557 17592187093125 h) 537 0 240) x = _
  rw [m_ga (code := 17592187093125) (c := 537) (off := 0) (n := 240) (by decide +kernel)]
theorem f_PP {h : qH} {x : Int} : a_M q_SP 557 4323473234462769282 x h = p_PP (m_ac (m_gh h) 467 0 60) (m_ac (m_gh h) 469 0 60) (m_ac (m_gh h) 471 0 60) (m_ac (m_gh h) 473 0 60) (m_ac (m_gh h) 537 0 240) x := by
  show p_PP (m_ac (a_gm q_SP 557 4323473234462769282 h) 467 0 60) (m_ac (a_gm q_SP 557 4323473234462769282 h) 469 0 60) (m_ac (a_gm q_SP 557 4323473234462769282 h) 471 0 60) (m_ac (a_gm q_SP 557 4323473234462769282 h) 473 0 60) (m_ac (a_gm q_SP 557 4323473234462769282 h) 537 0 240) x = _
  rw [m_ga (code := 4323473234462769282) (c := 467) (off := 0) (n := 60) (by decide +kernel), m_ga (code := 4323473234462769282) (c := 469) (off := 0) (n := 60) (by decide +kernel), m_ga (code := 4323473234462769282) (c := 471) (off := 0) (n := 60) (by decide +kernel), m_ga (code := 4323473234462769282) (c := 473) (off := 0) (n := 60) (by decide +kernel), m_ga (code := 4323473234462769282) (c := 537) (off := 0) (n := 240) (by decide +kernel)]
theorem f_GA {h : qH} {x : Int} : a_M q_SP 557 4323473234462769283 x h = p_GA (m_ac (m_gh h) 467 0 60) (m_ac (m_gh h) 469 0 60) (m_ac (m_gh h) 471 0 60) (m_ac (m_gh h) 473 0 60) (m_ac (m_gh h) 537 0 240) x := by
  show p_GA (m_ac (a_gm q_SP 557 4323473234462769283 h) 467 0 60) (m_ac (a_gm q_SP 557 4323473234462769283 h) 469 0 60) (m_ac (a_gm q_SP 557 4323473234462769283 h) 471 0 60) (m_ac (a_gm q_SP 557 4323473234462769283 h) 473 0 60) (m_ac (a_gm q_SP 557 4323473234462769283 h) 537 0 240) x = _
  rw [m_ga (code := 4323473234462769283) (c := 467) (off := 0) (n := 60) (by decide +kernel), m_ga (code := 4323473234462769283) (c := 469) (off := 0) (n := 60) (by decide +kernel), m_ga (code := 4323473234462769283) (c := 471) (off := 0) (n := 60) (by decide +kernel), m_ga (code := 4323473234462769283) (c := 473) (off := 0) (n := 60) (by decide +kernel), m_ga (code := 4323473234462769283) (c := 537) (off := 0) (n := 240) (by decide +kernel)]
theorem f_GD {h : qH} {x : Int} : a_M q_SP 557 4323473234462769284 x h = p_GD (m_ac (m_gh h) 467 0 60) (m_ac (m_gh h) 469 0 60) (m_ac (m_gh h) 471 0 60) (m_ac (m_gh h) 473 0 60) (m_ac (m_gh h) 537 0 240) x := by
  show p_GD (m_ac (a_gm q_SP 557 4323473234462769284 h) 467 0 60) (m_ac (a_gm q_SP 557 4323473234462769284 h) 469 0 60) (m_ac (a_gm q_SP 557 4323473234462769284 h) 471 0 60) (m_ac (a_gm q_SP 557 4323473234462769284 h) 473 0 60) (m_ac (a_gm q_SP 557 4323473234462769284 h) 537 0 240) x = _
  rw [m_ga (code := 4323473234462769284) (c := 467) (off := 0) (n := 60) (by decide +kernel), m_ga (code := 4323473234462769284) (c := 469) (off := 0) (n := 60) (by decide +kernel), m_ga (code := 4323473234462769284) (c := 471) (off := 0) (n := 60) (by decide +kernel), m_ga (code := 4323473234462769284) (c := 473) (off := 0) (n := 60) (by decide +kernel), m_ga (code := 4323473234462769284) (c := 537) (off := 0) (n := 240) (by decide +kernel)]
