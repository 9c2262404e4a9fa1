-- 68.rules: the rules hold (printed by wip/p5/gen68.py)
noncomputable def m_gh (h : qH) : mG := fun c j => m_int (a_fd h c j)
theorem m_int0 {z : Int} (h1 : -2147483648 ≤ z) (h2 : z < 2147483648) : m_int (0, a_w z) = z := a_qIt h1 h2
theorem m_int3 {z : Int} (h1 : -9223372036854775808 ≤ z) (h2 : z < 9223372036854775808) : m_int (3, a_W z) = z := a_qJt h1 h2
noncomputable def m_cov (D : aW) (c lo hi : Nat) : Bool := match D with
  | [] => false
  | r :: D => (Nat.ble r.1 c && (Nat.ble c r.2.1 && (Nat.ble r.2.2.1 lo && Nat.ble hi r.2.2.2))) || m_cov D c lo hi
theorem m_cov_ok {c lo hi j : Nat} (h1 : lo ≤ j) (h2 : j < hi) : ∀ {D : aW}, m_cov D c lo hi = true → a_inS D c j = true
  | [], h => by cases h
  | r :: D, h => by
    have h : ((Nat.ble r.1 c && (Nat.ble c r.2.1 && (Nat.ble r.2.2.1 lo && Nat.ble hi r.2.2.2))) || m_cov D c lo hi) = true := h
    show ((Nat.ble r.1 c && (Nat.ble c r.2.1 && (Nat.ble r.2.2.1 j && Nat.blt j r.2.2.2))) || a_inS D c j) = true
    rw [Bool.or_eq_true] at h ⊢
    rcases h with h | h
    · simp only [Bool.and_eq_true] at h ⊢
      obtain ⟨g1, g2, g3, g4⟩ := h
      refine Or.inl ⟨g1, g2, Nat.ble_eq_true_of_le (Nat.le_trans (Nat.le_of_ble_eq_true g3) h1), ?_⟩
      rw [q_blt]
      exact decide_eq_true (Nat.lt_of_lt_of_le h2 (Nat.le_of_ble_eq_true g4))
    · exact Or.inr (m_cov_ok h1 h2 h)
theorem m_gs {code c j : Nat} {h : qH} (hb : (Nat.blt c 557 && (Nat.blt j (a_cl q_SP c) && a_inS (a_Md code) c j)) = true) : a_gm q_SP 557 code h c j = m_gh h c j := by
  unfold a_gm
  rw [hb]
  rfl
theorem m_ga {code c off n : Nat} {h : qH} (hb : (Nat.blt c 557 && (Nat.ble (off + n) (a_cl q_SP c) && m_cov (a_Md code) c off (off + n))) = true) : m_ac (a_gm q_SP 557 code h) c off n = m_ac (m_gh h) c off n := by
  simp only [Bool.and_eq_true] at hb
  obtain ⟨h1, h2, h3⟩ := hb
  have h2 := Nat.le_of_ble_eq_true h2
  funext i
  unfold m_ac
  by_cases hi : 0 ≤ i ∧ i < n
  · rw [if_pos hi, if_pos hi]
    refine m_gs ?_
    have h4 : off + i.toNat < off + n := by omega
    rw [h1, q_blt, decide_eq_true (show off + i.toNat < a_cl q_SP c by omega), m_cov_ok (Nat.le_add_right _ _) h4 h3]
    rfl
  · rw [if_neg hi, if_neg hi]
theorem m_cv {P : Int → Prop} {a b : Int} (h : P a) (e : a = b) : P b := e ▸ h
theorem m_Rp {h : qH} {x : Nat → Int} {code a b : Nat} {F : aF} (hz : Nat.beq code 0 = false) (hp : a_Rp q_SP 557 h x (code, a, b, F)) : a_M q_SP 557 code (a_ev x F) h := by
  unfold a_Rp at hp
  rw [q_beq] at hz
  rw [if_neg (of_decide_eq_false hz)] at hp
  exact hp
theorem m_Rv {h : qH} {x : Nat → Int} {c j : Nat} {F : aF} (hl : Nat.blt j (a_cl q_SP c) = true) (hp : a_Rp q_SP 557 h x (0, c, j, F)) : a_ev x F = m_gh h c j := by
  rw [q_blt] at hl
  have hp : j < a_cl q_SP c → a_fd h c j = (0, a_w (a_ev x F)) ∧ -2147483648 ≤ a_ev x F ∧ a_ev x F < 2147483648 := hp
  obtain ⟨h1, h2, h3⟩ := hp (of_decide_eq_true hl)
  show a_ev x F = m_int (a_fd h c j)
  rw [h1, m_int0 h2 h3]
theorem m_Rcf {h : qH} {x : Nat → Int} {code : Nat} {F : aF} (hz : Nat.beq code 0 = false) (hp : a_M q_SP 557 code (a_ev x F) h) : a_Rc q_SP 557 h x code F := by
  unfold a_Rc
  rw [q_beq] at hz
  rw [if_neg (of_decide_eq_false hz)]
  exact hp
theorem m_Rcs {h : qH} {x : Nat → Int} {F : aF} (hp : 0 ≤ a_ev x F) : a_Rc q_SP 557 h x 0 F := hp
-- the picture in numbers
theorem m_pic0 {h : qH} (hh : a_HI q_SP 557 h) {c j : Nat} {lo hi : Int} (hc : c < 557) (hj : j < a_cl q_SP c) (ht : a_ct q_SP c j = (0, lo, hi)) (h1 : -2147483648 ≤ lo) (h2 : hi < 2147483648) : lo ≤ m_gh h c j ∧ m_gh h c j ≤ hi := by
  have hv := (hh.2.2 c hc).2.2 j hj
  rw [ht] at hv
  obtain ⟨z, hz, z1, z2⟩ := (show ∃ z : Int, a_fd h c j = (0, a_w z) ∧ lo ≤ z ∧ z ≤ hi from hv)
  have e : m_gh h c j = z := by
    show m_int (a_fd h c j) = z
    rw [hz, m_int0 (by omega) (by omega)]
  rw [e]
  exact ⟨z1, z2⟩
theorem m_pic1 {h : qH} (hh : a_HI q_SP 557 h) {c j : Nat} {lo hi : Int} (hc : c < 557) (hj : j < a_cl q_SP c) (ht : a_ct q_SP c j = (1, lo, hi)) (h1 : -9223372036854775808 ≤ lo) (h2 : hi < 9223372036854775808) : lo ≤ m_gh h c j ∧ m_gh h c j ≤ hi := by
  have hv := (hh.2.2 c hc).2.2 j hj
  rw [ht] at hv
  obtain ⟨z, hz, z1, z2⟩ := (show ∃ z : Int, a_fd h c j = (3, a_W z) ∧ lo ≤ z ∧ z ≤ hi from hv)
  have e : m_gh h c j = z := by
    show m_int (a_fd h c j) = z
    rw [hz, m_int3 (by omega) (by omega)]
  rw [e]
  exact ⟨z1, z2⟩
noncomputable def m_teq (t : aT) (k : Nat) (lo hi : Int) : Bool := Nat.beq t.1 k && (a_iz (t.2.1 - lo) && a_iz (t.2.2 - hi))
noncomputable def m_chk (c off k : Nat) (lo hi : Int) : Nat → Bool
  | 0 => true
  | n + 1 => m_chk c off k lo hi n && m_teq (a_ct q_SP c (off + n)) k lo hi
theorem m_chk_ok {c off k : Nat} {lo hi : Int} : ∀ {n i : Nat}, m_chk c off k lo hi n = true → i < n → a_ct q_SP c (off + i) = (k, lo, hi)
  | 0, i, _, h => by omega
  | n + 1, i, hk, h => by
    have hk : (m_chk c off k lo hi n && m_teq (a_ct q_SP c (off + n)) k lo hi) = true := hk
    rw [Bool.and_eq_true] at hk
    by_cases e : i = n
    · subst e
      have h2 := hk.2
      unfold m_teq at h2
      simp only [Bool.and_eq_true] at h2
      obtain ⟨g1, g2, g3⟩ := h2
      have g1 := Nat.eq_of_beq_eq_true g1
      have g2 := a_iz_ok g2
      have g3 := a_iz_ok g3
      generalize a_ct q_SP c (off + i) = t at g1 g2 g3 ⊢
      obtain ⟨t1, t2, t3⟩ := t
      have g1 : t1 = k := g1
      have g2 : t2 - lo = 0 := g2
      have g3 : t3 - hi = 0 := g3
      rw [g1, show t2 = lo by omega, show t3 = hi by omega]
    · exact m_chk_ok hk.1 (by omega)
theorem m_rng0 {h : qH} (hh : a_HI q_SP 557 h) {c off n : Nat} {lo hi : Int} (hb : (Nat.blt c 557 && (Nat.ble (off + n) (a_cl q_SP c) && m_chk c off 0 lo hi n)) = true) (h0 : -2147483648 ≤ lo ∧ lo ≤ 0 ∧ 0 ≤ hi ∧ hi < 2147483648) : ∀ i, lo ≤ m_ac (m_gh h) c off n i ∧ m_ac (m_gh h) c off n i ≤ hi := fun i => by
  simp only [Bool.and_eq_true] at hb
  obtain ⟨h1, h2, h3⟩ := hb
  have h2 := Nat.le_of_ble_eq_true h2
  rw [q_blt] at h1
  unfold m_ac
  by_cases hi : 0 ≤ i ∧ i < n
  · rw [if_pos hi]
    exact m_pic0 hh (of_decide_eq_true h1) (by omega) (m_chk_ok h3 (by omega)) h0.1 h0.2.2.2
  · rw [if_neg hi]
    exact ⟨h0.2.1, h0.2.2.1⟩
theorem m_rng1 {h : qH} (hh : a_HI q_SP 557 h) {c off n : Nat} {lo hi : Int} (hb : (Nat.blt c 557 && (Nat.ble (off + n) (a_cl q_SP c) && m_chk c off 1 lo hi n)) = true) (h0 : -9223372036854775808 ≤ lo ∧ lo ≤ 0 ∧ 0 ≤ hi ∧ hi < 9223372036854775808) : ∀ i, lo ≤ m_ac (m_gh h) c off n i ∧ m_ac (m_gh h) c off n i ≤ hi := fun i => by
  simp only [Bool.and_eq_true] at hb
  obtain ⟨h1, h2, h3⟩ := hb
  have h2 := Nat.le_of_ble_eq_true h2
  rw [q_blt] at h1
  unfold m_ac
  by_cases hi : 0 ≤ i ∧ i < n
  · rw [if_pos hi]
    exact m_pic1 hh (of_decide_eq_true h1) (by omega) (m_chk_ok h3 (by omega)) h0.1 h0.2.2.2
  · rw [if_neg hi]
    exact ⟨h0.2.1, h0.2.2.1⟩
theorem m_sc0 {h : qH} (hh : a_HI q_SP 557 h) {c j : Nat} {lo hi : Int} (hb : (Nat.blt c 557 && (Nat.ble (j + 1) (a_cl q_SP c) && m_chk c j 0 lo hi 1)) = true) (h0 : -2147483648 ≤ lo ∧ hi < 2147483648) : lo ≤ m_gh h c j ∧ m_gh h c j ≤ hi := by
  simp only [Bool.and_eq_true] at hb
  obtain ⟨h1, h2, h3⟩ := hb
  have h2 := Nat.le_of_ble_eq_true h2
  rw [q_blt] at h1
  exact m_pic0 hh (of_decide_eq_true h1) (by omega) (m_chk_ok (i := 0) h3 (by omega)) h0.1 h0.2
-- another heap, one place changed
noncomputable def m_one (h h' : qH) (c j : Nat) (v : qV) : Prop := ∀ i q, i < 557 → q < a_cl q_SP i → a_fd h' i q = if i = c ∧ q = j then v else a_fd h i q
theorem m_us {h h' : qH} {c j : Nat} {v : qV} (h1 : m_one h h' c j v) {d q : Nat} (hb : (Nat.blt d 557 && (Nat.blt q (a_cl q_SP d) && !(Nat.beq d c))) = true) : m_gh h' d q = m_gh h d q := by
  simp only [Bool.and_eq_true, q_blt, decide_eq_true_eq, q_beq, Bool.not_eq_true', decide_eq_false_iff_not] at hb
  show m_int (a_fd h' d q) = m_int (a_fd h d q)
  rw [h1 d q hb.1 hb.2.1, if_neg (fun e => hb.2.2 e.1)]
theorem m_ua {h h' : qH} {c j : Nat} {v : qV} (h1 : m_one h h' c j v) {d off n : Nat} (hb : (Nat.blt d 557 && (Nat.ble (off + n) (a_cl q_SP d) && !(Nat.beq d c))) = true) : m_ac (m_gh h') d off n = m_ac (m_gh h) d off n := by
  simp only [Bool.and_eq_true] at hb
  obtain ⟨h2, h3, h4⟩ := hb
  have h3 := Nat.le_of_ble_eq_true h3
  funext i
  unfold m_ac
  by_cases hi : 0 ≤ i ∧ i < n
  · rw [if_pos hi, if_pos hi]
    refine m_us h1 ?_
    rw [h2, q_blt, decide_eq_true (show off + i.toNat < a_cl q_SP d by omega), h4]
    rfl
  · rw [if_neg hi, if_neg hi]
theorem m_uc {h h' : qH} {c : Nat} {v : qV} {i z : Int} (h1 : m_one h h' c i.toNat v) (hv : m_int v = z) {n : Nat} (hb : (Nat.blt c 557 && Nat.ble n (a_cl q_SP c)) = true) (i1 : 0 ≤ i) (i2 : i < n) : m_ac (m_gh h') c 0 n = m_up (m_ac (m_gh h) c 0 n) i z := by
  simp only [Bool.and_eq_true] at hb
  obtain ⟨h2, h3⟩ := hb
  rw [q_blt] at h2
  have h3 := Nat.le_of_ble_eq_true h3
  funext j
  unfold m_ac m_up
  by_cases hi : 0 ≤ j ∧ j < n
  · rw [if_pos hi]
    show m_int (a_fd h' c (0 + j.toNat)) = _
    rw [h1 c (0 + j.toNat) (of_decide_eq_true h2) (by omega)]
    by_cases e : j = i
    · rw [if_pos e, if_pos ⟨rfl, by omega⟩]
      exact hv
    · rw [if_neg e, if_neg (fun q => e (by omega))]
      exact (if_pos hi).symm
  · rw [if_neg hi, if_neg (by omega)]
    exact (if_neg hi).symm
theorem m_z0 {h : qH} {c off n : Nat} {i z : Int} (i1 : 0 ≤ i) (hz : m_gh h c i.toNat = z) : 0 ≤ i - off → i - off < n → m_ac (m_gh h) c off n (i - off) = z := fun h1 h2 => by
  unfold m_ac
  rw [if_pos ⟨h1, h2⟩, show off + (i - (off : Int)).toNat = i.toNat by omega]
  exact hz
-- a row copied
noncomputable def m_cpd (h h' : qH) (c d : Nat) (s t n : Int) : Prop := ∀ i q, i < 557 → q < a_cl q_SP i → a_fd h' i q = if i = d ∧ t.toNat ≤ q ∧ q < t.toNat + n.toNat then a_fd h c (s.toNat + (q - t.toNat)) else a_fd h i q
theorem m_ca {h h' : qH} {c e : Nat} {s t m : Int} (h1 : m_cpd h h' c e s t m) {d off n : Nat} (hb : (Nat.blt d 557 && (Nat.ble (off + n) (a_cl q_SP d) && !(Nat.beq d e))) = true) : m_ac (m_gh h') d off n = m_ac (m_gh h) d off n := by
  simp only [Bool.and_eq_true, q_blt, decide_eq_true_eq, q_beq, Bool.not_eq_true', decide_eq_false_iff_not] at hb
  obtain ⟨h2, h3, h4⟩ := hb
  have h3 := Nat.le_of_ble_eq_true h3
  funext i
  unfold m_ac
  by_cases hi : 0 ≤ i ∧ i < n
  · rw [if_pos hi, if_pos hi]
    show m_int (a_fd h' d (off + i.toNat)) = m_int (a_fd h d (off + i.toNat))
    rw [h1 d (off + i.toNat) h2 (by omega), if_neg (fun z => h4 z.1)]
  · rw [if_neg hi, if_neg hi]
theorem m_cc {h h' : qH} {c d : Nat} {s t m : Int} (h1 : m_cpd h h' c d s t m) {n : Nat} (hb : (Nat.blt d 557 && Nat.beq (a_cl q_SP d) n) = true) (hb2 : Nat.beq (a_cl q_SP c) n = true) (i1 : 0 ≤ s) (i2 : 0 ≤ t) (i3 : 0 ≤ m) (l1 : s + m ≤ a_cl q_SP c) (l2 : t + m ≤ a_cl q_SP d) : m_ac (m_gh h') d 0 n = m_cpx (m_ac (m_gh h) c 0 n) (m_ac (m_gh h) d 0 n) s t m := by
  simp only [Bool.and_eq_true] at hb
  obtain ⟨h2, h3⟩ := hb
  rw [q_blt] at h2
  have h2 := of_decide_eq_true h2
  have h3 := Nat.eq_of_beq_eq_true h3
  have h4 := Nat.eq_of_beq_eq_true hb2
  rw [h4] at l1
  rw [h3] at l2
  funext j
  unfold m_cpx
  by_cases e : t ≤ j ∧ j < t + m
  · rw [if_pos e]
    unfold m_ac
    rw [if_pos (show 0 ≤ j ∧ j < n by omega), if_pos (show 0 ≤ s + (j - t) ∧ s + (j - t) < n by omega)]
    show m_int (a_fd h' d (0 + j.toNat)) = m_int (a_fd h c (0 + (s + (j - t)).toNat))
    rw [h1 d (0 + j.toNat) h2 (by omega), if_pos ⟨rfl, by omega, by omega⟩]
    rw [show s.toNat + (0 + j.toNat - t.toNat) = 0 + (s + (j - t)).toNat by omega]
  · rw [if_neg e]
    unfold m_ac
    by_cases hi : 0 ≤ j ∧ j < n
    · rw [if_pos hi, if_pos hi]
      show m_int (a_fd h' d (0 + j.toNat)) = m_int (a_fd h d (0 + j.toNat))
      rw [h1 d (0 + j.toNat) h2 (by omega), if_neg (fun z => e (by omega))]
    · rw [if_neg hi, if_neg hi]
-- cut numbers
theorem m_c71 {a b : Int} (hv : (1 : Nat) = 1 ∧ -9223372036854775808 ≤ a ∧ a < 9223372036854775808 ∧ a_w b = qNn (qJ (a_W a)).toInt32 ∨ (1 : Nat) ≠ 1 ∧ -2147483648 ≤ a ∧ a < 2147483648 ∧ (0, a_w b) = q_s6v 1 (0, a_w a)) (v1 : -2147483648 ≤ b) (v2 : b < 2147483648) : b = m_w32 a := by
  rcases hv with ⟨-, h1, h2, h3⟩ | ⟨h, -⟩
  · have h4 := congrArg (fun n => (qI n).toInt) h3
    have h4 : (qI (a_w b)).toInt = (qI (qNn (qJ (a_W a)).toInt32)).toInt := h4
    rw [qI_N, a_qIt v1 v2, Int64.toInt_toInt32, a_qJt h1 h2, Int.bmod_def] at h4
    unfold m_w32
    omega
  · exact absurd rfl h
theorem m_c72 {a b : Int} (hv : (2 : Nat) = 1 ∧ -9223372036854775808 ≤ a ∧ a < 9223372036854775808 ∧ a_w b = qNn (qJ (a_W a)).toInt32 ∨ (2 : Nat) ≠ 1 ∧ -2147483648 ≤ a ∧ a < 2147483648 ∧ (0, a_w b) = q_s6v 2 (0, a_w a)) (v1 : -2147483648 ≤ b) (v2 : b < 2147483648) : b = m_w8 a := by
  rcases hv with ⟨h, -⟩ | ⟨-, h1, h2, h3⟩
  · exact absurd h (by decide)
  · have h3 : a_w b = qNn (qI (a_w a)).toInt8.toInt32 := congrArg Prod.snd h3
    have h4 := congrArg (fun n => (qI n).toInt) h3
    have h4 : (qI (a_w b)).toInt = (qI (qNn (qI (a_w a)).toInt8.toInt32)).toInt := h4
    rw [qI_N, a_qIt v1 v2, Int8.toInt_toInt32, Int32.toInt_toInt8, a_qIt h1 h2, Int.bmod_def] at h4
    unfold m_w8
    omega
theorem m_c73 {a b : Int} (hv : (3 : Nat) = 1 ∧ -9223372036854775808 ≤ a ∧ a < 9223372036854775808 ∧ a_w b = qNn (qJ (a_W a)).toInt32 ∨ (3 : Nat) ≠ 1 ∧ -2147483648 ≤ a ∧ a < 2147483648 ∧ (0, a_w b) = q_s6v 3 (0, a_w a)) (v1 : -2147483648 ≤ b) (v2 : b < 2147483648) : b = m_w16 a := by
  rcases hv with ⟨h, -⟩ | ⟨-, h1, h2, h3⟩
  · exact absurd h (by decide)
  · have h3 : a_w b = qNn (qI (a_w a)).toInt16.toInt32 := congrArg Prod.snd h3
    have h4 := congrArg (fun n => (qI n).toInt) h3
    have h4 : (qI (a_w b)).toInt = (qI (qNn (qI (a_w a)).toInt16.toInt32)).toInt := h4
    rw [qI_N, a_qIt v1 v2, Int16.toInt_toInt32, Int32.toInt_toInt16, a_qIt h1 h2, Int.bmod_def] at h4
    unfold m_w16
    omega
-- the machine's arithmetic, in numbers
theorem m_b32 (z : Int) : z.bmod (2 ^ 32) = m_w32 z := by
  rw [Int.bmod_def]
  unfold m_w32
  omega
theorem m_f4 {op : Nat} {a b y : Int} (v1 : -2147483648 ≤ y) (v2 : y < 2147483648) (hv : a_w y = qNn (q_f4 op (qI (a_w a)) (qI (a_w b)))) : y = (q_f4 op (qI (a_w a)) (qI (a_w b))).toInt := by
  have h4 := congrArg (fun n => (qI n).toInt) hv
  have h4 : (qI (a_w y)).toInt = (qI (qNn (q_f4 op (qI (a_w a)) (qI (a_w b))))).toInt := h4
  rw [qI_N, a_qIt v1 v2] at h4
  exact h4
theorem m_o60 {a b y : Int} (a1 : -2147483648 ≤ a) (a2 : a < 2147483648) (b1 : -2147483648 ≤ b) (b2 : b < 2147483648) (v1 : -2147483648 ≤ y) (v2 : y < 2147483648) (hv : a_w y = qNn (q_f4 0 (qI (a_w a)) (qI (a_w b)))) : y = m_w32 (a + b) := by
  have h := m_f4 v1 v2 hv
  have h : y = (qI (a_w a) + qI (a_w b)).toInt := h
  rw [Int32.toInt_add, a_qIt a1 a2, a_qIt b1 b2, m_b32] at h
  exact h
theorem m_o61 {a b y : Int} (a1 : -2147483648 ≤ a) (a2 : a < 2147483648) (b1 : -2147483648 ≤ b) (b2 : b < 2147483648) (v1 : -2147483648 ≤ y) (v2 : y < 2147483648) (hv : a_w y = qNn (q_f4 1 (qI (a_w a)) (qI (a_w b)))) : y = m_w32 (a - b) := by
  have h := m_f4 v1 v2 hv
  have h : y = (qI (a_w a) - qI (a_w b)).toInt := h
  rw [Int32.toInt_sub, a_qIt a1 a2, a_qIt b1 b2, m_b32] at h
  exact h
theorem m_o62 {a b y : Int} (a1 : -2147483648 ≤ a) (a2 : a < 2147483648) (b1 : -2147483648 ≤ b) (b2 : b < 2147483648) (v1 : -2147483648 ≤ y) (v2 : y < 2147483648) (hv : a_w y = qNn (q_f4 2 (qI (a_w a)) (qI (a_w b)))) : y = m_w32 (a * b) := by
  have h := m_f4 v1 v2 hv
  have h : y = (qI (a_w a) * qI (a_w b)).toInt := h
  rw [Int32.toInt_mul, a_qIt a1 a2, a_qIt b1 b2, m_b32] at h
  exact h
theorem m_i32 {w : Int32} {b : Int} (h : w.toInt = b) (k : Int32) (hk : k.toInt = b) : w = k := Int32.toInt_inj.mp (h.trans hk.symm)
theorem m_o63 {a b y : Int} (a1 : -2147483648 ≤ a) (a2 : a < 2147483648) (b1 : -2147483648 ≤ b) (b2 : b < 2147483648) (v1 : -2147483648 ≤ y) (v2 : y < 2147483648) (hv : a_w y = qNn (q_f4 3 (qI (a_w a)) (qI (a_w b)))) : b = 255 → y = a % 256 := by
  intro e
  have h := m_f4 v1 v2 hv
  have h : y = (qI (a_w a) &&& qI (a_w b)).toInt := h
  have ha := a_qIt a1 a2
  have hb := m_i32 (a_qIt b1 b2) 255 (by rw [e]; decide)
  rw [hb] at h
  generalize qI (a_w a) = w at h ha
  have key : (w &&& 255).toInt = w.toInt % 256 := m_and255 w
  rw [h, key, ha]
theorem m_o67 {a b y : Int} (a1 : -2147483648 ≤ a) (a2 : a < 2147483648) (b1 : -2147483648 ≤ b) (b2 : b < 2147483648) (v1 : -2147483648 ≤ y) (v2 : y < 2147483648) (hv : a_w y = qNn (q_f4 7 (qI (a_w a)) (qI (a_w b)))) : (b = 0 → y = a) ∧ (b = 8 → y = a / 256) ∧ (b = 16 → y = a / 65536) ∧ (b = 24 → y = a / 16777216) := by
  have h := m_f4 v1 v2 hv
  have h : y = (qI (a_w a) >>> (qI (a_w b) &&& 31)).toInt := h
  have ha := a_qIt a1 a2
  have hb := a_qIt b1 b2
  generalize qI (a_w a) = w at h ha
  refine ⟨fun e => ?_, fun e => ?_, fun e => ?_, fun e => ?_⟩
  · rw [m_i32 hb 0 (by rw [e]; decide), m_shr w 0 0 (by decide)] at h
    rw [h, ha]; omega
  · rw [m_i32 hb 8 (by rw [e]; decide), m_shr w 8 8 (by decide)] at h
    rw [h, ha]; rfl
  · rw [m_i32 hb 16 (by rw [e]; decide), m_shr w 16 16 (by decide)] at h
    rw [h, ha]; rfl
  · rw [m_i32 hb 24 (by rw [e]; decide), m_shr w 24 24 (by decide)] at h
    rw [h, ha]; rfl
theorem m_ucx {h h' : qH} {c off : Nat} {v : qV} {i z : Int} (h1 : m_one h h' c i.toNat v) (hv : m_int v = z) {n : Nat} (hb : (Nat.blt c 557 && Nat.ble (off + n) (a_cl q_SP c)) = true) (i1 : 0 ≤ i) : m_ac (m_gh h') c off n = m_upo off n (m_ac (m_gh h) c off n) i z := by
  simp only [Bool.and_eq_true] at hb
  obtain ⟨h2, h3⟩ := hb
  rw [q_blt] at h2
  have h3 := Nat.le_of_ble_eq_true h3
  funext j
  unfold m_ac
  by_cases hj : 0 ≤ j ∧ j < n
  · rw [if_pos hj]
    show m_int (a_fd h' c (off + j.toNat)) = _
    rw [h1 c (off + j.toNat) (of_decide_eq_true h2) (by omega)]
    by_cases e : off + j.toNat = i.toNat
    · rw [if_pos ⟨rfl, e⟩, m_upo_e (p := i - off) rfl (by omega) (by omega), m_up_at (by omega)]
      exact hv
    · rw [if_neg (fun q => e q.2)]
      by_cases e2 : 0 ≤ i - off ∧ i - off < n
      · rw [m_upo_e (p := i - off) rfl e2.1 e2.2, m_up_ne (by omega), if_pos hj]
        rfl
      · rw [m_upo_n (by omega), if_pos hj]
        rfl
  · rw [if_neg hj]
    by_cases e2 : 0 ≤ i - off ∧ i - off < n
    · rw [m_upo_e (p := i - off) rfl e2.1 e2.2, m_up_ne (by omega), if_neg hj]
    · rw [m_upo_n (by omega), if_neg hj]
theorem m_lnk {g : mG} {c o n o2 n2 d : Nat} (h1 : o = o2 + d) (h2 : d + n ≤ n2) : ∀ i : Int, 0 ≤ i → i < (n : Int) → m_ac g c o n i = m_ac g c o2 n2 ((d : Int) + i) := by
  intro i a b
  unfold m_ac
  rw [if_pos ⟨a, b⟩, if_pos (by omega), show o + i.toNat = o2 + ((d : Int) + i).toNat by omega]
-- the facts
theorem r_cs {h : qH} (hh : a_HI q_SP 557 h) : ∀ i, (0 : Int) ≤ m_ac (m_gh h) 539 7 6 i ∧ m_ac (m_gh h) 539 7 6 i ≤ 16 := m_rng0 hh (by decide +kernel) (by decide)
theorem r_fs {h : qH} (hh : a_HI q_SP 557 h) : ∀ i, (0 : Int) ≤ m_ac (m_gh h) 539 33 8 i ∧ m_ac (m_gh h) 539 33 8 i ≤ 95 := m_rng0 hh (by decide +kernel) (by decide)
theorem r_nt {h : qH} (hh : a_HI q_SP 557 h) : ∀ i, (0 : Int) ≤ m_ac (m_gh h) 539 49 96 i ∧ m_ac (m_gh h) 539 49 96 i ≤ 2 := m_rng0 hh (by decide +kernel) (by decide)
theorem r_fo {h : qH} (hh : a_HI q_SP 557 h) : ∀ i, (0 : Int) ≤ m_ac (m_gh h) 543 0 1344 i ∧ m_ac (m_gh h) 543 0 1344 i ≤ 1000000 := m_rng0 hh (by decide +kernel) (by decide)
theorem r_ft {h : qH} (hh : a_HI q_SP 557 h) : ∀ i, (0 : Int) ≤ m_ac (m_gh h) 544 0 1344 i ∧ m_ac (m_gh h) 544 0 1344 i ≤ 1000000 := m_rng0 hh (by decide +kernel) (by decide)
theorem r_sl {h : qH} (hh : a_HI q_SP 557 h) : ∀ i, (0 : Int) ≤ m_ac (m_gh h) 545 0 96 i ∧ m_ac (m_gh h) 545 0 96 i ≤ 9 := m_rng0 hh (by decide +kernel) (by decide)
theorem r_wt {h : qH} (hh : a_HI q_SP 557 h) : ∀ i, (0 : Int) ≤ m_ac (m_gh h) 546 0 1344 i ∧ m_ac (m_gh h) 546 0 1344 i ≤ 999999 := m_rng1 hh (by decide +kernel) (by decide)
theorem r_rc {h : qH} (hh : a_HI q_SP 557 h) : ∀ i, (0 : Int) ≤ m_ac (m_gh h) 553 0 96 i ∧ m_ac (m_gh h) 553 0 96 i ≤ 13 := m_rng0 hh (by decide +kernel) (by decide)
theorem r_ba {h : qH} (hh : a_HI q_SP 557 h) : ∀ i, (-128 : Int) ≤ m_ac (m_gh h) 3 0 900 i ∧ m_ac (m_gh h) 3 0 900 i ≤ 127 := m_rng0 hh (by decide +kernel) (by decide)
theorem r_bb {h : qH} (hh : a_HI q_SP 557 h) : ∀ i, (-128 : Int) ≤ m_ac (m_gh h) 538 0 900 i ∧ m_ac (m_gh h) 538 0 900 i ≤ 127 := m_rng0 hh (by decide +kernel) (by decide)
theorem f_LD {h : qH} {x : Int} : a_M q_SP 557 68157450 x h = p_LD (m_ac (m_gh h) 539 33 8) x := by
  show p_LD (m_ac (a_gm q_SP 557 68157450 h) 539 33 8) x = _
  rw [m_ga (code := 68157450) (c := 539) (off := 33) (n := 8) (by decide +kernel)]
theorem f_FI {h : qH} {x : Int} : a_M q_SP 557 101711883 x h = p_FI (m_gh h 539 5) (m_ac (m_gh h) 539 33 8) x := by
  show p_FI (a_gm q_SP 557 101711883 h 539 5) (m_ac (a_gm q_SP 557 101711883 h) 539 33 8) x = _
  rw [m_gs (code := 101711883) (c := 539) (j := 5) (by decide +kernel), m_ga (code := 101711883) (c := 539) (off := 33) (n := 8) (by decide +kernel)]
theorem f_YN {h : qH} {x : Int} : a_M q_SP 557 101711884 x h = p_YN (m_gh h 539 5) (m_ac (m_gh h) 539 33 8) x := by
  show p_YN (a_gm q_SP 557 101711884 h 539 5) (m_ac (a_gm q_SP 557 101711884 h) 539 33 8) x = _
  rw [m_gs (code := 101711884) (c := 539) (j := 5) (by decide +kernel), m_ga (code := 101711884) (c := 539) (off := 33) (n := 8) (by decide +kernel)]
theorem f_AT {h : qH} {x : Int} : a_M q_SP 557 144115188076904461 x h = p_AT (m_ac (m_gh h) 44 0 60) x := by
  show p_AT (m_ac (a_gm q_SP 557 144115188076904461 h) 44 0 60) x = _
  rw [m_ga (code := 144115188076904461) (c := 44) (off := 0) (n := 60) (by decide +kernel)]
theorem f_AF {h : qH} {x : Int} : a_M q_SP 557 34603022 x h = p_AF (m_gh h 539 0) x := by
  show p_AF (a_gm q_SP 557 34603022 h 539 0) x = _
  rw [m_gs (code := 34603022) (c := 539) (j := 0) (by decide +kernel)]
theorem f_NT {h : qH} {x : Int} : a_M q_SP 557 135266319 x h = p_NT (m_ac (m_gh h) 539 49 96) x := by
  show p_NT (m_ac (a_gm q_SP 557 135266319 h) 539 49 96) x = _
  rw [m_ga (code := 135266319) (c := 539) (off := 49) (n := 96) (by decide +kernel)]
theorem f_SU {h : qH} {x : Int} : a_M q_SP 557 168820752 x h = p_SU (m_gh h 539 0) (m_ac (m_gh h) 539 49 96) x := by
  show p_SU (a_gm q_SP 557 168820752 h 539 0) (m_ac (a_gm q_SP 557 168820752 h) 539 49 96) x = _
  rw [m_gs (code := 168820752) (c := 539) (j := 0) (by decide +kernel), m_ga (code := 168820752) (c := 539) (off := 49) (n := 96) (by decide +kernel)]
theorem f_SL {h : qH} {x : Int} : a_M q_SP 557 2148532241 x h = p_SL (m_ac (m_gh h) 545 0 96) x := by
  show p_SL (m_ac (a_gm q_SP 557 2148532241 h) 545 0 96) x = _
  rw [m_ga (code := 2148532241) (c := 545) (off := 0) (n := 96) (by decide +kernel)]
theorem f_ST {h : qH} {x : Int} : a_M q_SP 557 2182086674 x h = p_ST (m_gh h 539 0) (m_ac (m_gh h) 545 0 96) x := by
  show p_ST (a_gm q_SP 557 2182086674 h 539 0) (m_ac (a_gm q_SP 557 2182086674 h) 545 0 96) x = _
  rw [m_gs (code := 2182086674) (c := 539) (j := 0) (by decide +kernel), m_ga (code := 2182086674) (c := 545) (off := 0) (n := 96) (by decide +kernel)]
theorem f_FO {h : qH} {x : Int} : a_M q_SP 557 537919507 x h = p_FO (m_ac (m_gh h) 543 0 1344) x := by
  show p_FO (m_ac (a_gm q_SP 557 537919507 h) 543 0 1344) x = _
  rw [m_ga (code := 537919507) (c := 543) (off := 0) (n := 1344) (by decide +kernel)]
theorem f_FT {h : qH} {x : Int} : a_M q_SP 557 1074790420 x h = p_FT (m_ac (m_gh h) 544 0 1344) x := by
  show p_FT (m_ac (a_gm q_SP 557 1074790420 h) 544 0 1344) x = _
  rw [m_ga (code := 1074790420) (c := 544) (off := 0) (n := 1344) (by decide +kernel)]
theorem f_ON {h : qH} {x : Int} : a_M q_SP 557 1628438549 x h = p_ON (m_ac (m_gh h) 543 0 1344) (m_ac (m_gh h) 544 0 1344) (m_gh h 534 29) x := by
  show p_ON (m_ac (a_gm q_SP 557 1628438549 h) 543 0 1344) (m_ac (a_gm q_SP 557 1628438549 h) 544 0 1344) (a_gm q_SP 557 1628438549 h 534 29) x = _
  rw [m_ga (code := 1628438549) (c := 543) (off := 0) (n := 1344) (by decide +kernel), m_ga (code := 1628438549) (c := 544) (off := 0) (n := 1344) (by decide +kernel), m_gs (code := 1628438549) (c := 534) (j := 29) (by decide +kernel)]
theorem f_PS {h : qH} {x : Int} : a_M q_SP 557 34603030 x h = p_PS (m_ac (m_gh h) 539 7 6) x := by
  show p_PS (m_ac (a_gm q_SP 557 34603030 h) 539 7 6) x = _
  rw [m_ga (code := 34603030) (c := 539) (off := 7) (n := 6) (by decide +kernel)]
theorem f_NS {h : qH} {x : Int} : a_M q_SP 557 34603031 x h = p_NS (m_gh h 539 2) (m_ac (m_gh h) 539 7 6) x := by
  show p_NS (a_gm q_SP 557 34603031 h 539 2) (m_ac (a_gm q_SP 557 34603031 h) 539 7 6) x = _
  rw [m_gs (code := 34603031) (c := 539) (j := 2) (by decide +kernel), m_ga (code := 34603031) (c := 539) (off := 7) (n := 6) (by decide +kernel)]
theorem f_BM {h : qH} {x : Int} : a_M q_SP 557 2853175320 x h = p_BM (m_gh h 539 0) (m_ac (m_gh h) 539 49 96) (m_ac (m_gh h) 545 0 96) (m_ac (m_gh h) 543 0 1344) x := by
  show p_BM (a_gm q_SP 557 2853175320 h 539 0) (m_ac (a_gm q_SP 557 2853175320 h) 539 49 96) (m_ac (a_gm q_SP 557 2853175320 h) 545 0 96) (m_ac (a_gm q_SP 557 2853175320 h) 543 0 1344) x = _
  rw [m_gs (code := 2853175320) (c := 539) (j := 0) (by decide +kernel), m_ga (code := 2853175320) (c := 539) (off := 49) (n := 96) (by decide +kernel), m_ga (code := 2853175320) (c := 545) (off := 0) (n := 96) (by decide +kernel), m_ga (code := 2853175320) (c := 543) (off := 0) (n := 1344) (by decide +kernel)]
theorem f_BE {h : qH} {x : Int} : a_M q_SP 557 2853175321 x h = p_BE (m_gh h 539 0) (m_ac (m_gh h) 539 49 96) (m_ac (m_gh h) 545 0 96) (m_ac (m_gh h) 543 0 1344) x := by
  show p_BE (a_gm q_SP 557 2853175321 h 539 0) (m_ac (a_gm q_SP 557 2853175321 h) 539 49 96) (m_ac (a_gm q_SP 557 2853175321 h) 545 0 96) (m_ac (a_gm q_SP 557 2853175321 h) 543 0 1344) x = _
  rw [m_gs (code := 2853175321) (c := 539) (j := 0) (by decide +kernel), m_ga (code := 2853175321) (c := 539) (off := 49) (n := 96) (by decide +kernel), m_ga (code := 2853175321) (c := 545) (off := 0) (n := 96) (by decide +kernel), m_ga (code := 2853175321) (c := 543) (off := 0) (n := 1344) (by decide +kernel)]
theorem f_R0 {h : qH} {x : Int} : a_M q_SP 557 5000658970 x h = p_R0 (m_gh h 539 0) (m_gh h 539 1) (m_ac (m_gh h) 539 49 96) (m_gh h 539 2) (m_ac (m_gh h) 539 7 6) (m_ac (m_gh h) 543 0 1344) (m_ac (m_gh h) 546 0 1344) x := by
  show p_R0 (a_gm q_SP 557 5000658970 h 539 0) (a_gm q_SP 557 5000658970 h 539 1) (m_ac (a_gm q_SP 557 5000658970 h) 539 49 96) (a_gm q_SP 557 5000658970 h 539 2) (m_ac (a_gm q_SP 557 5000658970 h) 539 7 6) (m_ac (a_gm q_SP 557 5000658970 h) 543 0 1344) (m_ac (a_gm q_SP 557 5000658970 h) 546 0 1344) x = _
  rw [m_gs (code := 5000658970) (c := 539) (j := 0) (by decide +kernel), m_gs (code := 5000658970) (c := 539) (j := 1) (by decide +kernel), m_ga (code := 5000658970) (c := 539) (off := 49) (n := 96) (by decide +kernel), m_gs (code := 5000658970) (c := 539) (j := 2) (by decide +kernel), m_ga (code := 5000658970) (c := 539) (off := 7) (n := 6) (by decide +kernel), m_ga (code := 5000658970) (c := 543) (off := 0) (n := 1344) (by decide +kernel), m_ga (code := 5000658970) (c := 546) (off := 0) (n := 1344) (by decide +kernel)]
theorem f_RA {h : qH} {x : Int} : a_M q_SP 557 5000658971 x h = p_RA (m_gh h 539 0) (m_gh h 539 1) (m_ac (m_gh h) 539 49 96) (m_gh h 539 2) (m_ac (m_gh h) 539 7 6) (m_ac (m_gh h) 543 0 1344) (m_ac (m_gh h) 546 0 1344) x := by
  show p_RA (a_gm q_SP 557 5000658971 h 539 0) (a_gm q_SP 557 5000658971 h 539 1) (m_ac (a_gm q_SP 557 5000658971 h) 539 49 96) (a_gm q_SP 557 5000658971 h 539 2) (m_ac (a_gm q_SP 557 5000658971 h) 539 7 6) (m_ac (a_gm q_SP 557 5000658971 h) 543 0 1344) (m_ac (a_gm q_SP 557 5000658971 h) 546 0 1344) x = _
  rw [m_gs (code := 5000658971) (c := 539) (j := 0) (by decide +kernel), m_gs (code := 5000658971) (c := 539) (j := 1) (by decide +kernel), m_ga (code := 5000658971) (c := 539) (off := 49) (n := 96) (by decide +kernel), m_gs (code := 5000658971) (c := 539) (j := 2) (by decide +kernel), m_ga (code := 5000658971) (c := 539) (off := 7) (n := 6) (by decide +kernel), m_ga (code := 5000658971) (c := 543) (off := 0) (n := 1344) (by decide +kernel), m_ga (code := 5000658971) (c := 546) (off := 0) (n := 1344) (by decide +kernel)]
theorem f_FA {h : qH} {x : Int} : a_M q_SP 557 7148142620 x h = p_FA (m_gh h 539 0) (m_gh h 539 1) (m_ac (m_gh h) 539 49 96) (m_ac (m_gh h) 545 0 96) (m_gh h 539 2) (m_ac (m_gh h) 539 7 6) (m_ac (m_gh h) 543 0 1344) (m_ac (m_gh h) 546 0 1344) x := by
  show p_FA (a_gm q_SP 557 7148142620 h 539 0) (a_gm q_SP 557 7148142620 h 539 1) (m_ac (a_gm q_SP 557 7148142620 h) 539 49 96) (m_ac (a_gm q_SP 557 7148142620 h) 545 0 96) (a_gm q_SP 557 7148142620 h 539 2) (m_ac (a_gm q_SP 557 7148142620 h) 539 7 6) (m_ac (a_gm q_SP 557 7148142620 h) 543 0 1344) (m_ac (a_gm q_SP 557 7148142620 h) 546 0 1344) x = _
  rw [m_gs (code := 7148142620) (c := 539) (j := 0) (by decide +kernel), m_gs (code := 7148142620) (c := 539) (j := 1) (by decide +kernel), m_ga (code := 7148142620) (c := 539) (off := 49) (n := 96) (by decide +kernel), m_ga (code := 7148142620) (c := 545) (off := 0) (n := 96) (by decide +kernel), m_gs (code := 7148142620) (c := 539) (j := 2) (by decide +kernel), m_ga (code := 7148142620) (c := 539) (off := 7) (n := 6) (by decide +kernel), m_ga (code := 7148142620) (c := 543) (off := 0) (n := 1344) (by decide +kernel), m_ga (code := 7148142620) (c := 546) (off := 0) (n := 1344) (by decide +kernel)]
theorem f_FB {h : qH} {x : Int} : a_M q_SP 557 7148142621 x h = p_FB (m_gh h 539 0) (m_gh h 539 1) (m_ac (m_gh h) 539 49 96) (m_ac (m_gh h) 545 0 96) (m_gh h 539 2) (m_ac (m_gh h) 539 7 6) (m_ac (m_gh h) 543 0 1344) (m_ac (m_gh h) 546 0 1344) x := by
  show p_FB (a_gm q_SP 557 7148142621 h 539 0) (a_gm q_SP 557 7148142621 h 539 1) (m_ac (a_gm q_SP 557 7148142621 h) 539 49 96) (m_ac (a_gm q_SP 557 7148142621 h) 545 0 96) (a_gm q_SP 557 7148142621 h 539 2) (m_ac (a_gm q_SP 557 7148142621 h) 539 7 6) (m_ac (a_gm q_SP 557 7148142621 h) 543 0 1344) (m_ac (a_gm q_SP 557 7148142621 h) 546 0 1344) x = _
  rw [m_gs (code := 7148142621) (c := 539) (j := 0) (by decide +kernel), m_gs (code := 7148142621) (c := 539) (j := 1) (by decide +kernel), m_ga (code := 7148142621) (c := 539) (off := 49) (n := 96) (by decide +kernel), m_ga (code := 7148142621) (c := 545) (off := 0) (n := 96) (by decide +kernel), m_gs (code := 7148142621) (c := 539) (j := 2) (by decide +kernel), m_ga (code := 7148142621) (c := 539) (off := 7) (n := 6) (by decide +kernel), m_ga (code := 7148142621) (c := 543) (off := 0) (n := 1344) (by decide +kernel), m_ga (code := 7148142621) (c := 546) (off := 0) (n := 1344) (by decide +kernel)]
theorem f_FD {h : qH} {x : Int} : a_M q_SP 557 7148142622 x h = p_FD (m_gh h 539 0) (m_gh h 539 1) (m_ac (m_gh h) 539 49 96) (m_ac (m_gh h) 545 0 96) (m_gh h 539 2) (m_ac (m_gh h) 539 7 6) (m_ac (m_gh h) 543 0 1344) (m_ac (m_gh h) 546 0 1344) x := by
  show p_FD (a_gm q_SP 557 7148142622 h 539 0) (a_gm q_SP 557 7148142622 h 539 1) (m_ac (a_gm q_SP 557 7148142622 h) 539 49 96) (m_ac (a_gm q_SP 557 7148142622 h) 545 0 96) (a_gm q_SP 557 7148142622 h 539 2) (m_ac (a_gm q_SP 557 7148142622 h) 539 7 6) (m_ac (a_gm q_SP 557 7148142622 h) 543 0 1344) (m_ac (a_gm q_SP 557 7148142622 h) 546 0 1344) x = _
  rw [m_gs (code := 7148142622) (c := 539) (j := 0) (by decide +kernel), m_gs (code := 7148142622) (c := 539) (j := 1) (by decide +kernel), m_ga (code := 7148142622) (c := 539) (off := 49) (n := 96) (by decide +kernel), m_ga (code := 7148142622) (c := 545) (off := 0) (n := 96) (by decide +kernel), m_gs (code := 7148142622) (c := 539) (j := 2) (by decide +kernel), m_ga (code := 7148142622) (c := 539) (off := 7) (n := 6) (by decide +kernel), m_ga (code := 7148142622) (c := 543) (off := 0) (n := 1344) (by decide +kernel), m_ga (code := 7148142622) (c := 546) (off := 0) (n := 1344) (by decide +kernel)]
theorem f_WT {h : qH} {x : Int} : a_M q_SP 557 4296015903 x h = p_WT (m_ac (m_gh h) 546 0 1344) x := by
  show p_WT (m_ac (a_gm q_SP 557 4296015903 h) 546 0 1344) x = _
  rw [m_ga (code := 4296015903) (c := 546) (off := 0) (n := 1344) (by decide +kernel)]
theorem f_BW {h : qH} {x : Int} : a_M q_SP 557 7148142624 x h = p_BW (m_gh h 539 0) (m_ac (m_gh h) 539 49 96) (m_ac (m_gh h) 545 0 96) (m_ac (m_gh h) 543 0 1344) (m_ac (m_gh h) 546 0 1344) x := by
  show p_BW (a_gm q_SP 557 7148142624 h 539 0) (m_ac (a_gm q_SP 557 7148142624 h) 539 49 96) (m_ac (a_gm q_SP 557 7148142624 h) 545 0 96) (m_ac (a_gm q_SP 557 7148142624 h) 543 0 1344) (m_ac (a_gm q_SP 557 7148142624 h) 546 0 1344) x = _
  rw [m_gs (code := 7148142624) (c := 539) (j := 0) (by decide +kernel), m_ga (code := 7148142624) (c := 539) (off := 49) (n := 96) (by decide +kernel), m_ga (code := 7148142624) (c := 545) (off := 0) (n := 96) (by decide +kernel), m_ga (code := 7148142624) (c := 543) (off := 0) (n := 1344) (by decide +kernel), m_ga (code := 7148142624) (c := 546) (off := 0) (n := 1344) (by decide +kernel)]
theorem f_WE {h : qH} {x : Int} : a_M q_SP 557 7148142625 x h = p_WE (m_gh h 539 0) (m_ac (m_gh h) 539 49 96) (m_ac (m_gh h) 545 0 96) (m_ac (m_gh h) 543 0 1344) (m_ac (m_gh h) 546 0 1344) x := by
  show p_WE (a_gm q_SP 557 7148142625 h 539 0) (m_ac (a_gm q_SP 557 7148142625 h) 539 49 96) (m_ac (a_gm q_SP 557 7148142625 h) 545 0 96) (m_ac (a_gm q_SP 557 7148142625 h) 543 0 1344) (m_ac (a_gm q_SP 557 7148142625 h) 546 0 1344) x = _
  rw [m_gs (code := 7148142625) (c := 539) (j := 0) (by decide +kernel), m_ga (code := 7148142625) (c := 539) (off := 49) (n := 96) (by decide +kernel), m_ga (code := 7148142625) (c := 545) (off := 0) (n := 96) (by decide +kernel), m_ga (code := 7148142625) (c := 543) (off := 0) (n := 1344) (by decide +kernel), m_ga (code := 7148142625) (c := 546) (off := 0) (n := 1344) (by decide +kernel)]
theorem f_AM {h : qH} {x : Int} : a_M q_SP 557 3390046242 x h = p_AM (m_gh h 539 0) (m_ac (m_gh h) 539 49 96) (m_ac (m_gh h) 545 0 96) (m_gh h 539 2) (m_ac (m_gh h) 539 7 6) (m_ac (m_gh h) 544 0 1344) x := by
  show p_AM (a_gm q_SP 557 3390046242 h 539 0) (m_ac (a_gm q_SP 557 3390046242 h) 539 49 96) (m_ac (a_gm q_SP 557 3390046242 h) 545 0 96) (a_gm q_SP 557 3390046242 h 539 2) (m_ac (a_gm q_SP 557 3390046242 h) 539 7 6) (m_ac (a_gm q_SP 557 3390046242 h) 544 0 1344) x = _
  rw [m_gs (code := 3390046242) (c := 539) (j := 0) (by decide +kernel), m_ga (code := 3390046242) (c := 539) (off := 49) (n := 96) (by decide +kernel), m_ga (code := 3390046242) (c := 545) (off := 0) (n := 96) (by decide +kernel), m_gs (code := 3390046242) (c := 539) (j := 2) (by decide +kernel), m_ga (code := 3390046242) (c := 539) (off := 7) (n := 6) (by decide +kernel), m_ga (code := 3390046242) (c := 544) (off := 0) (n := 1344) (by decide +kernel)]
theorem f_AN {h : qH} {x : Int} : a_M q_SP 557 3390046243 x h = p_AN (m_gh h 539 0) (m_ac (m_gh h) 539 49 96) (m_ac (m_gh h) 545 0 96) (m_gh h 539 2) (m_ac (m_gh h) 539 7 6) (m_ac (m_gh h) 544 0 1344) x := by
  show p_AN (a_gm q_SP 557 3390046243 h 539 0) (m_ac (a_gm q_SP 557 3390046243 h) 539 49 96) (m_ac (a_gm q_SP 557 3390046243 h) 545 0 96) (a_gm q_SP 557 3390046243 h 539 2) (m_ac (a_gm q_SP 557 3390046243 h) 539 7 6) (m_ac (a_gm q_SP 557 3390046243 h) 544 0 1344) x = _
  rw [m_gs (code := 3390046243) (c := 539) (j := 0) (by decide +kernel), m_ga (code := 3390046243) (c := 539) (off := 49) (n := 96) (by decide +kernel), m_ga (code := 3390046243) (c := 545) (off := 0) (n := 96) (by decide +kernel), m_gs (code := 3390046243) (c := 539) (j := 2) (by decide +kernel), m_ga (code := 3390046243) (c := 539) (off := 7) (n := 6) (by decide +kernel), m_ga (code := 3390046243) (c := 544) (off := 0) (n := 1344) (by decide +kernel)]
theorem f_AA {h : qH} {x : Int} : a_M q_SP 557 3390046244 x h = p_AA (m_gh h 539 0) (m_ac (m_gh h) 539 49 96) (m_ac (m_gh h) 545 0 96) (m_gh h 539 2) (m_ac (m_gh h) 539 7 6) (m_ac (m_gh h) 544 0 1344) x := by
  show p_AA (a_gm q_SP 557 3390046244 h 539 0) (m_ac (a_gm q_SP 557 3390046244 h) 539 49 96) (m_ac (a_gm q_SP 557 3390046244 h) 545 0 96) (a_gm q_SP 557 3390046244 h 539 2) (m_ac (a_gm q_SP 557 3390046244 h) 539 7 6) (m_ac (a_gm q_SP 557 3390046244 h) 544 0 1344) x = _
  rw [m_gs (code := 3390046244) (c := 539) (j := 0) (by decide +kernel), m_ga (code := 3390046244) (c := 539) (off := 49) (n := 96) (by decide +kernel), m_ga (code := 3390046244) (c := 545) (off := 0) (n := 96) (by decide +kernel), m_gs (code := 3390046244) (c := 539) (j := 2) (by decide +kernel), m_ga (code := 3390046244) (c := 539) (off := 7) (n := 6) (by decide +kernel), m_ga (code := 3390046244) (c := 544) (off := 0) (n := 1344) (by decide +kernel)]
theorem f_AD {h : qH} {x : Int} : a_M q_SP 557 3390046245 x h = p_AD (m_gh h 539 0) (m_ac (m_gh h) 539 49 96) (m_ac (m_gh h) 545 0 96) (m_gh h 539 2) (m_ac (m_gh h) 539 7 6) (m_ac (m_gh h) 544 0 1344) x := by
  show p_AD (a_gm q_SP 557 3390046245 h 539 0) (m_ac (a_gm q_SP 557 3390046245 h) 539 49 96) (m_ac (a_gm q_SP 557 3390046245 h) 545 0 96) (a_gm q_SP 557 3390046245 h 539 2) (m_ac (a_gm q_SP 557 3390046245 h) 539 7 6) (m_ac (a_gm q_SP 557 3390046245 h) 544 0 1344) x = _
  rw [m_gs (code := 3390046245) (c := 539) (j := 0) (by decide +kernel), m_ga (code := 3390046245) (c := 539) (off := 49) (n := 96) (by decide +kernel), m_ga (code := 3390046245) (c := 545) (off := 0) (n := 96) (by decide +kernel), m_gs (code := 3390046245) (c := 539) (j := 2) (by decide +kernel), m_ga (code := 3390046245) (c := 539) (off := 7) (n := 6) (by decide +kernel), m_ga (code := 3390046245) (c := 544) (off := 0) (n := 1344) (by decide +kernel)]
theorem f_LM {h : qH} {x : Int} : a_M q_SP 557 1645215782 x h = p_LM (m_gh h 539 0) (m_gh h 539 2) (m_ac (m_gh h) 539 7 6) (m_ac (m_gh h) 543 0 1344) (m_ac (m_gh h) 544 0 1344) x := by
  show p_LM (a_gm q_SP 557 1645215782 h 539 0) (a_gm q_SP 557 1645215782 h 539 2) (m_ac (a_gm q_SP 557 1645215782 h) 539 7 6) (m_ac (a_gm q_SP 557 1645215782 h) 543 0 1344) (m_ac (a_gm q_SP 557 1645215782 h) 544 0 1344) x = _
  rw [m_gs (code := 1645215782) (c := 539) (j := 0) (by decide +kernel), m_gs (code := 1645215782) (c := 539) (j := 2) (by decide +kernel), m_ga (code := 1645215782) (c := 539) (off := 7) (n := 6) (by decide +kernel), m_ga (code := 1645215782) (c := 543) (off := 0) (n := 1344) (by decide +kernel), m_ga (code := 1645215782) (c := 544) (off := 0) (n := 1344) (by decide +kernel)]
theorem f_M1 {h : qH} {x : Int} : a_M q_SP 557 8238661671 x h = p_M1 (m_gh h 539 0) (m_gh h 539 1) (m_ac (m_gh h) 539 49 96) (m_ac (m_gh h) 545 0 96) (m_gh h 539 2) (m_ac (m_gh h) 539 7 6) (m_ac (m_gh h) 543 0 1344) (m_ac (m_gh h) 544 0 1344) (m_ac (m_gh h) 546 0 1344) (m_gh h 534 29) x := by
  show p_M1 (a_gm q_SP 557 8238661671 h 539 0) (a_gm q_SP 557 8238661671 h 539 1) (m_ac (a_gm q_SP 557 8238661671 h) 539 49 96) (m_ac (a_gm q_SP 557 8238661671 h) 545 0 96) (a_gm q_SP 557 8238661671 h 539 2) (m_ac (a_gm q_SP 557 8238661671 h) 539 7 6) (m_ac (a_gm q_SP 557 8238661671 h) 543 0 1344) (m_ac (a_gm q_SP 557 8238661671 h) 544 0 1344) (m_ac (a_gm q_SP 557 8238661671 h) 546 0 1344) (a_gm q_SP 557 8238661671 h 534 29) x = _
  rw [m_gs (code := 8238661671) (c := 539) (j := 0) (by decide +kernel), m_gs (code := 8238661671) (c := 539) (j := 1) (by decide +kernel), m_ga (code := 8238661671) (c := 539) (off := 49) (n := 96) (by decide +kernel), m_ga (code := 8238661671) (c := 545) (off := 0) (n := 96) (by decide +kernel), m_gs (code := 8238661671) (c := 539) (j := 2) (by decide +kernel), m_ga (code := 8238661671) (c := 539) (off := 7) (n := 6) (by decide +kernel), m_ga (code := 8238661671) (c := 543) (off := 0) (n := 1344) (by decide +kernel), m_ga (code := 8238661671) (c := 544) (off := 0) (n := 1344) (by decide +kernel), m_ga (code := 8238661671) (c := 546) (off := 0) (n := 1344) (by decide +kernel), m_gs (code := 8238661671) (c := 534) (j := 29) (by decide +kernel)]
theorem f_NW {h : qH} {x : Int} : a_M q_SP 557 4883218472 x h = p_NW (m_gh h 539 0) (m_gh h 539 2) (m_ac (m_gh h) 539 7 6) (m_ac (m_gh h) 543 0 1344) (m_ac (m_gh h) 546 0 1344) (m_gh h 534 29) x := by
  show p_NW (a_gm q_SP 557 4883218472 h 539 0) (a_gm q_SP 557 4883218472 h 539 2) (m_ac (a_gm q_SP 557 4883218472 h) 539 7 6) (m_ac (a_gm q_SP 557 4883218472 h) 543 0 1344) (m_ac (a_gm q_SP 557 4883218472 h) 546 0 1344) (a_gm q_SP 557 4883218472 h 534 29) x = _
  rw [m_gs (code := 4883218472) (c := 539) (j := 0) (by decide +kernel), m_gs (code := 4883218472) (c := 539) (j := 2) (by decide +kernel), m_ga (code := 4883218472) (c := 539) (off := 7) (n := 6) (by decide +kernel), m_ga (code := 4883218472) (c := 543) (off := 0) (n := 1344) (by decide +kernel), m_ga (code := 4883218472) (c := 546) (off := 0) (n := 1344) (by decide +kernel), m_gs (code := 4883218472) (c := 534) (j := 29) (by decide +kernel)]
theorem f_M2 {h : qH} {x : Int} : a_M q_SP 557 4883218473 x h = p_M2 (m_gh h 539 0) (m_gh h 539 2) (m_ac (m_gh h) 539 7 6) (m_ac (m_gh h) 543 0 1344) (m_ac (m_gh h) 546 0 1344) (m_gh h 534 29) x := by
  show p_M2 (a_gm q_SP 557 4883218473 h 539 0) (a_gm q_SP 557 4883218473 h 539 2) (m_ac (a_gm q_SP 557 4883218473 h) 539 7 6) (m_ac (a_gm q_SP 557 4883218473 h) 543 0 1344) (m_ac (a_gm q_SP 557 4883218473 h) 546 0 1344) (a_gm q_SP 557 4883218473 h 534 29) x = _
  rw [m_gs (code := 4883218473) (c := 539) (j := 0) (by decide +kernel), m_gs (code := 4883218473) (c := 539) (j := 2) (by decide +kernel), m_ga (code := 4883218473) (c := 539) (off := 7) (n := 6) (by decide +kernel), m_ga (code := 4883218473) (c := 543) (off := 0) (n := 1344) (by decide +kernel), m_ga (code := 4883218473) (c := 546) (off := 0) (n := 1344) (by decide +kernel), m_gs (code := 4883218473) (c := 534) (j := 29) (by decide +kernel)]
theorem f_NO {h : qH} {x : Int} : a_M q_SP 557 1661993002 x h = p_NO (m_gh h 539 0) (m_gh h 539 2) (m_ac (m_gh h) 539 7 6) (m_ac (m_gh h) 543 0 1344) (m_ac (m_gh h) 544 0 1344) (m_gh h 534 29) x := by
  show p_NO (a_gm q_SP 557 1661993002 h 539 0) (a_gm q_SP 557 1661993002 h 539 2) (m_ac (a_gm q_SP 557 1661993002 h) 539 7 6) (m_ac (a_gm q_SP 557 1661993002 h) 543 0 1344) (m_ac (a_gm q_SP 557 1661993002 h) 544 0 1344) (a_gm q_SP 557 1661993002 h 534 29) x = _
  rw [m_gs (code := 1661993002) (c := 539) (j := 0) (by decide +kernel), m_gs (code := 1661993002) (c := 539) (j := 2) (by decide +kernel), m_ga (code := 1661993002) (c := 539) (off := 7) (n := 6) (by decide +kernel), m_ga (code := 1661993002) (c := 543) (off := 0) (n := 1344) (by decide +kernel), m_ga (code := 1661993002) (c := 544) (off := 0) (n := 1344) (by decide +kernel), m_gs (code := 1661993002) (c := 534) (j := 29) (by decide +kernel)]
theorem f_OP {h : qH} {x : Int} : a_M q_SP 557 1661993003 x h = p_OP (m_gh h 539 0) (m_gh h 539 2) (m_ac (m_gh h) 539 7 6) (m_ac (m_gh h) 543 0 1344) (m_ac (m_gh h) 544 0 1344) (m_gh h 534 29) x := by
  show p_OP (a_gm q_SP 557 1661993003 h 539 0) (a_gm q_SP 557 1661993003 h 539 2) (m_ac (a_gm q_SP 557 1661993003 h) 539 7 6) (m_ac (a_gm q_SP 557 1661993003 h) 543 0 1344) (m_ac (a_gm q_SP 557 1661993003 h) 544 0 1344) (a_gm q_SP 557 1661993003 h 534 29) x = _
  rw [m_gs (code := 1661993003) (c := 539) (j := 0) (by decide +kernel), m_gs (code := 1661993003) (c := 539) (j := 2) (by decide +kernel), m_ga (code := 1661993003) (c := 539) (off := 7) (n := 6) (by decide +kernel), m_ga (code := 1661993003) (c := 543) (off := 0) (n := 1344) (by decide +kernel), m_ga (code := 1661993003) (c := 544) (off := 0) (n := 1344) (by decide +kernel), m_gs (code := 1661993003) (c := 534) (j := 29) (by decide +kernel)]
theorem f_NB {h : qH} {x : Int} : a_M q_SP 557 3809476652 x h = p_NB (m_gh h 539 0) (m_ac (m_gh h) 545 0 96) (m_ac (m_gh h) 543 0 1344) (m_ac (m_gh h) 544 0 1344) (m_gh h 534 29) x := by
  show p_NB (a_gm q_SP 557 3809476652 h 539 0) (m_ac (a_gm q_SP 557 3809476652 h) 545 0 96) (m_ac (a_gm q_SP 557 3809476652 h) 543 0 1344) (m_ac (a_gm q_SP 557 3809476652 h) 544 0 1344) (a_gm q_SP 557 3809476652 h 534 29) x = _
  rw [m_gs (code := 3809476652) (c := 539) (j := 0) (by decide +kernel), m_ga (code := 3809476652) (c := 545) (off := 0) (n := 96) (by decide +kernel), m_ga (code := 3809476652) (c := 543) (off := 0) (n := 1344) (by decide +kernel), m_ga (code := 3809476652) (c := 544) (off := 0) (n := 1344) (by decide +kernel), m_gs (code := 3809476652) (c := 534) (j := 29) (by decide +kernel)]
theorem f_OA {h : qH} {x : Int} : a_M q_SP 557 1661993005 x h = p_OA (m_gh h 539 0) (m_ac (m_gh h) 543 0 1344) (m_ac (m_gh h) 544 0 1344) (m_gh h 534 29) x := by
  show p_OA (a_gm q_SP 557 1661993005 h 539 0) (m_ac (a_gm q_SP 557 1661993005 h) 543 0 1344) (m_ac (a_gm q_SP 557 1661993005 h) 544 0 1344) (a_gm q_SP 557 1661993005 h 534 29) x = _
  rw [m_gs (code := 1661993005) (c := 539) (j := 0) (by decide +kernel), m_ga (code := 1661993005) (c := 543) (off := 0) (n := 1344) (by decide +kernel), m_ga (code := 1661993005) (c := 544) (off := 0) (n := 1344) (by decide +kernel), m_gs (code := 1661993005) (c := 534) (j := 29) (by decide +kernel)]
theorem f_FP {h : qH} {x : Int} : a_M q_SP 557 537919534 x h = p_FP (m_ac (m_gh h) 543 0 1344) x := by
  show p_FP (m_ac (a_gm q_SP 557 537919534 h) 543 0 1344) x = _
  rw [m_ga (code := 537919534) (c := 543) (off := 0) (n := 1344) (by decide +kernel)]
theorem f_SV {h : qH} {x : Int} : a_M q_SP 557 2718957615 x h = p_SV (m_gh h 539 0) (m_ac (m_gh h) 545 0 96) (m_ac (m_gh h) 543 0 1344) x := by
  show p_SV (a_gm q_SP 557 2718957615 h 539 0) (m_ac (a_gm q_SP 557 2718957615 h) 545 0 96) (m_ac (a_gm q_SP 557 2718957615 h) 543 0 1344) x = _
  rw [m_gs (code := 2718957615) (c := 539) (j := 0) (by decide +kernel), m_ga (code := 2718957615) (c := 545) (off := 0) (n := 96) (by decide +kernel), m_ga (code := 2718957615) (c := 543) (off := 0) (n := 1344) (by decide +kernel)]
theorem f_RC {h : qH} {x : Int} : a_M q_SP 557 1099512676400 x h = p_RC (m_ac (m_gh h) 553 0 96) x := by
  show p_RC (m_ac (a_gm q_SP 557 1099512676400 h) 553 0 96) x = _
  rw [m_ga (code := 1099512676400) (c := 553) (off := 0) (n := 96) (by decide +kernel)]
theorem f_RD {h : qH} {x : Int} : a_M q_SP 557 1099512676401 x h = p_RD (m_ac (m_gh h) 553 0 96) x := by
  show p_RD (m_ac (a_gm q_SP 557 1099512676401 h) 553 0 96) x = _
  rw [m_ga (code := 1099512676401) (c := 553) (off := 0) (n := 96) (by decide +kernel)]
theorem f_XX {h : qH} {x : Int} : a_M q_SP 557 1048626 x h = p_XX  x := by
  show p_XX  x = _
  rfl
theorem f_XO {h : qH} {x : Int} : a_M q_SP 557 1048627 x h = p_XO  x := by
  show p_XO  x = _
  rfl
theorem f_PX {h : qH} {x : Int} : a_M q_SP 557 1099512676404 x h = p_PX (m_ac (m_gh h) 553 0 96) x := by
  show p_PX (m_ac (a_gm q_SP 557 1099512676404 h) 553 0 96) x = _
  rw [m_ga (code := 1099512676404) (c := 553) (off := 0) (n := 96) (by decide +kernel)]
theorem f_QQ {h : qH} {x : Int} : a_M q_SP 557 3809476661 x h = p_QQ (m_gh h 539 0) (m_ac (m_gh h) 545 0 96) (m_gh h 539 2) (m_ac (m_gh h) 539 7 6) (m_ac (m_gh h) 543 0 1344) (m_ac (m_gh h) 544 0 1344) (m_gh h 534 29) x := by
  show p_QQ (a_gm q_SP 557 3809476661 h 539 0) (m_ac (a_gm q_SP 557 3809476661 h) 545 0 96) (a_gm q_SP 557 3809476661 h 539 2) (m_ac (a_gm q_SP 557 3809476661 h) 539 7 6) (m_ac (a_gm q_SP 557 3809476661 h) 543 0 1344) (m_ac (a_gm q_SP 557 3809476661 h) 544 0 1344) (a_gm q_SP 557 3809476661 h 534 29) x = _
  rw [m_gs (code := 3809476661) (c := 539) (j := 0) (by decide +kernel), m_ga (code := 3809476661) (c := 545) (off := 0) (n := 96) (by decide +kernel), m_gs (code := 3809476661) (c := 539) (j := 2) (by decide +kernel), m_ga (code := 3809476661) (c := 539) (off := 7) (n := 6) (by decide +kernel), m_ga (code := 3809476661) (c := 543) (off := 0) (n := 1344) (by decide +kernel), m_ga (code := 3809476661) (c := 544) (off := 0) (n := 1344) (by decide +kernel), m_gs (code := 3809476661) (c := 534) (j := 29) (by decide +kernel)]
theorem f_TQ {h : qH} {x : Int} : a_M q_SP 557 4323473234462769252 x h = p_TQ (m_ac (m_gh h) 467 0 60) (m_ac (m_gh h) 469 0 60) (m_ac (m_gh h) 471 0 60) (m_ac (m_gh h) 473 0 60) (m_ac (m_gh h) 537 0 240) x := by
  show p_TQ (m_ac (a_gm q_SP 557 4323473234462769252 h) 467 0 60) (m_ac (a_gm q_SP 557 4323473234462769252 h) 469 0 60) (m_ac (a_gm q_SP 557 4323473234462769252 h) 471 0 60) (m_ac (a_gm q_SP 557 4323473234462769252 h) 473 0 60) (m_ac (a_gm q_SP 557 4323473234462769252 h) 537 0 240) x = _
  rw [m_ga (code := 4323473234462769252) (c := 467) (off := 0) (n := 60) (by decide +kernel), m_ga (code := 4323473234462769252) (c := 469) (off := 0) (n := 60) (by decide +kernel), m_ga (code := 4323473234462769252) (c := 471) (off := 0) (n := 60) (by decide +kernel), m_ga (code := 4323473234462769252) (c := 473) (off := 0) (n := 60) (by decide +kernel), m_ga (code := 4323473234462769252) (c := 537) (off := 0) (n := 240) (by decide +kernel)]
theorem f_XW {h : qH} {x : Int} : a_M q_SP 557 1048677 x h = p_XW  x := by
  show p_XW  x = _
  rfl
theorem f_LI {h : qH} {x : Int} : a_M q_SP 557 1048678 x h = p_LI  x := by
  show p_LI  x = _
  rfl
theorem f_CV0 {h : qH} {x : Int} : a_M q_SP 557 1048679 x h = p_CV0  x := by
  show p_CV0  x = _
  rfl
theorem f_CV1 {h : qH} {x : Int} : a_M q_SP 557 1048680 x h = p_CV1  x := by
  show p_CV1  x = _
  rfl
theorem f_CV2 {h : qH} {x : Int} : a_M q_SP 557 1048681 x h = p_CV2  x := by
  show p_CV2  x = _
  rfl
theorem f_CR0 {h : qH} {x : Int} : a_M q_SP 557 1048682 x h = p_CR0  x := by
  show p_CR0  x = _
  rfl
theorem f_CR1 {h : qH} {x : Int} : a_M q_SP 557 1048683 x h = p_CR1  x := by
  show p_CR1  x = _
  rfl
theorem f_CR2 {h : qH} {x : Int} : a_M q_SP 557 1048684 x h = p_CR2  x := by
  show p_CR2  x = _
  rfl
theorem f_TE0 {h : qH} {x : Int} : a_M q_SP 557 4035242858311057518 x h = p_TE0 (m_ac (m_gh h) 469 0 60) (m_ac (m_gh h) 471 0 60) (m_ac (m_gh h) 473 0 60) (m_ac (m_gh h) 537 0 240) x := by
  show p_TE0 (m_ac (a_gm q_SP 557 4035242858311057518 h) 469 0 60) (m_ac (a_gm q_SP 557 4035242858311057518 h) 471 0 60) (m_ac (a_gm q_SP 557 4035242858311057518 h) 473 0 60) (m_ac (a_gm q_SP 557 4035242858311057518 h) 537 0 240) x = _
  rw [m_ga (code := 4035242858311057518) (c := 469) (off := 0) (n := 60) (by decide +kernel), m_ga (code := 4035242858311057518) (c := 471) (off := 0) (n := 60) (by decide +kernel), m_ga (code := 4035242858311057518) (c := 473) (off := 0) (n := 60) (by decide +kernel), m_ga (code := 4035242858311057518) (c := 537) (off := 0) (n := 240) (by decide +kernel)]
theorem f_TZ0 {h : qH} {x : Int} : a_M q_SP 557 288230376152760434 x h = p_TZ0 (m_ac (m_gh h) 467 0 60) x := by
  show p_TZ0 (m_ac (a_gm q_SP 557 288230376152760434 h) 467 0 60) x = _
  rw [m_ga (code := 288230376152760434) (c := 467) (off := 0) (n := 60) (by decide +kernel)]
theorem f_TM0 {h : qH} {x : Int} : a_M q_SP 557 17592187093110 x h = p_TM0 (m_ac (m_gh h) 537 0 240) x := by
  show p_TM0 (m_ac (a_gm q_SP 557 17592187093110 h) 537 0 240) x = _
  rw [m_ga (code := 17592187093110) (c := 537) (off := 0) (n := 240) (by decide +kernel)]
theorem f_EX0 {h : qH} {x : Int} : a_M q_SP 557 4323473234462769274 x h = p_EX0 (m_ac (m_gh h) 467 0 60) (m_ac (m_gh h) 469 0 60) (m_ac (m_gh h) 471 0 60) (m_ac (m_gh h) 473 0 60) (m_ac (m_gh h) 537 0 240) x := by
  show p_EX0 (m_ac (a_gm q_SP 557 4323473234462769274 h) 467 0 60) (m_ac (a_gm q_SP 557 4323473234462769274 h) 469 0 60) (m_ac (a_gm q_SP 557 4323473234462769274 h) 471 0 60) (m_ac (a_gm q_SP 557 4323473234462769274 h) 473 0 60) (m_ac (a_gm q_SP 557 4323473234462769274 h) 537 0 240) x = _
  rw [m_ga (code := 4323473234462769274) (c := 467) (off := 0) (n := 60) (by decide +kernel), m_ga (code := 4323473234462769274) (c := 469) (off := 0) (n := 60) (by decide +kernel), m_ga (code := 4323473234462769274) (c := 471) (off := 0) (n := 60) (by decide +kernel), m_ga (code := 4323473234462769274) (c := 473) (off := 0) (n := 60) (by decide +kernel), m_ga (code := 4323473234462769274) (c := 537) (off := 0) (n := 240) (by decide +kernel)]
theorem f_NV0 {h : qH} {x : Int} : a_M q_SP 557 288230376152760446 x h = p_NV0 (m_ac (m_gh h) 467 0 60) x := by
  show p_NV0 (m_ac (a_gm q_SP 557 288230376152760446 h) 467 0 60) x = _
  rw [m_ga (code := 288230376152760446) (c := 467) (off := 0) (n := 60) (by decide +kernel)]
theorem f_TE1 {h : qH} {x : Int} : a_M q_SP 557 3747012482159345775 x h = p_TE1 (m_ac (m_gh h) 467 0 60) (m_ac (m_gh h) 471 0 60) (m_ac (m_gh h) 473 0 60) (m_ac (m_gh h) 537 0 240) x := by
  show p_TE1 (m_ac (a_gm q_SP 557 3747012482159345775 h) 467 0 60) (m_ac (a_gm q_SP 557 3747012482159345775 h) 471 0 60) (m_ac (a_gm q_SP 557 3747012482159345775 h) 473 0 60) (m_ac (a_gm q_SP 557 3747012482159345775 h) 537 0 240) x = _
  rw [m_ga (code := 3747012482159345775) (c := 467) (off := 0) (n := 60) (by decide +kernel), m_ga (code := 3747012482159345775) (c := 471) (off := 0) (n := 60) (by decide +kernel), m_ga (code := 3747012482159345775) (c := 473) (off := 0) (n := 60) (by decide +kernel), m_ga (code := 3747012482159345775) (c := 537) (off := 0) (n := 240) (by decide +kernel)]
theorem f_TZ1 {h : qH} {x : Int} : a_M q_SP 557 576460752304472179 x h = p_TZ1 (m_ac (m_gh h) 469 0 60) x := by
  show p_TZ1 (m_ac (a_gm q_SP 557 576460752304472179 h) 469 0 60) x = _
  rw [m_ga (code := 576460752304472179) (c := 469) (off := 0) (n := 60) (by decide +kernel)]
theorem f_TM1 {h : qH} {x : Int} : a_M q_SP 557 17592187093111 x h = p_TM1 (m_ac (m_gh h) 537 0 240) x := by
  show p_TM1 (m_ac (a_gm q_SP 557 17592187093111 h) 537 0 240) x = _
  rw [m_ga (code := 17592187093111) (c := 537) (off := 0) (n := 240) (by decide +kernel)]
theorem f_EX1 {h : qH} {x : Int} : a_M q_SP 557 4323473234462769275 x h = p_EX1 (m_ac (m_gh h) 467 0 60) (m_ac (m_gh h) 469 0 60) (m_ac (m_gh h) 471 0 60) (m_ac (m_gh h) 473 0 60) (m_ac (m_gh h) 537 0 240) x := by
  show p_EX1 (m_ac (a_gm q_SP 557 4323473234462769275 h) 467 0 60) (m_ac (a_gm q_SP 557 4323473234462769275 h) 469 0 60) (m_ac (a_gm q_SP 557 4323473234462769275 h) 471 0 60) (m_ac (a_gm q_SP 557 4323473234462769275 h) 473 0 60) (m_ac (a_gm q_SP 557 4323473234462769275 h) 537 0 240) x = _
  rw [m_ga (code := 4323473234462769275) (c := 467) (off := 0) (n := 60) (by decide +kernel), m_ga (code := 4323473234462769275) (c := 469) (off := 0) (n := 60) (by decide +kernel), m_ga (code := 4323473234462769275) (c := 471) (off := 0) (n := 60) (by decide +kernel), m_ga (code := 4323473234462769275) (c := 473) (off := 0) (n := 60) (by decide +kernel), m_ga (code := 4323473234462769275) (c := 537) (off := 0) (n := 240) (by decide +kernel)]
theorem f_NV1 {h : qH} {x : Int} : a_M q_SP 557 576460752304472191 x h = p_NV1 (m_ac (m_gh h) 469 0 60) x := by
  show p_NV1 (m_ac (a_gm q_SP 557 576460752304472191 h) 469 0 60) x = _
  rw [m_ga (code := 576460752304472191) (c := 469) (off := 0) (n := 60) (by decide +kernel)]
theorem f_TE2 {h : qH} {x : Int} : a_M q_SP 557 3170551729855922288 x h = p_TE2 (m_ac (m_gh h) 467 0 60) (m_ac (m_gh h) 469 0 60) (m_ac (m_gh h) 473 0 60) (m_ac (m_gh h) 537 0 240) x := by
  show p_TE2 (m_ac (a_gm q_SP 557 3170551729855922288 h) 467 0 60) (m_ac (a_gm q_SP 557 3170551729855922288 h) 469 0 60) (m_ac (a_gm q_SP 557 3170551729855922288 h) 473 0 60) (m_ac (a_gm q_SP 557 3170551729855922288 h) 537 0 240) x = _
  rw [m_ga (code := 3170551729855922288) (c := 467) (off := 0) (n := 60) (by decide +kernel), m_ga (code := 3170551729855922288) (c := 469) (off := 0) (n := 60) (by decide +kernel), m_ga (code := 3170551729855922288) (c := 473) (off := 0) (n := 60) (by decide +kernel), m_ga (code := 3170551729855922288) (c := 537) (off := 0) (n := 240) (by decide +kernel)]
theorem f_TZ2 {h : qH} {x : Int} : a_M q_SP 557 1152921504607895668 x h = p_TZ2 (m_ac (m_gh h) 471 0 60) x := by
  show p_TZ2 (m_ac (a_gm q_SP 557 1152921504607895668 h) 471 0 60) x = _
  rw [m_ga (code := 1152921504607895668) (c := 471) (off := 0) (n := 60) (by decide +kernel)]
theorem f_TM2 {h : qH} {x : Int} : a_M q_SP 557 17592187093112 x h = p_TM2 (m_ac (m_gh h) 537 0 240) x := by
  show p_TM2 (m_ac (a_gm q_SP 557 17592187093112 h) 537 0 240) x = _
  rw [m_ga (code := 17592187093112) (c := 537) (off := 0) (n := 240) (by decide +kernel)]
theorem f_EX2 {h : qH} {x : Int} : a_M q_SP 557 4323473234462769276 x h = p_EX2 (m_ac (m_gh h) 467 0 60) (m_ac (m_gh h) 469 0 60) (m_ac (m_gh h) 471 0 60) (m_ac (m_gh h) 473 0 60) (m_ac (m_gh h) 537 0 240) x := by
  show p_EX2 (m_ac (a_gm q_SP 557 4323473234462769276 h) 467 0 60) (m_ac (a_gm q_SP 557 4323473234462769276 h) 469 0 60) (m_ac (a_gm q_SP 557 4323473234462769276 h) 471 0 60) (m_ac (a_gm q_SP 557 4323473234462769276 h) 473 0 60) (m_ac (a_gm q_SP 557 4323473234462769276 h) 537 0 240) x = _
  rw [m_ga (code := 4323473234462769276) (c := 467) (off := 0) (n := 60) (by decide +kernel), m_ga (code := 4323473234462769276) (c := 469) (off := 0) (n := 60) (by decide +kernel), m_ga (code := 4323473234462769276) (c := 471) (off := 0) (n := 60) (by decide +kernel), m_ga (code := 4323473234462769276) (c := 473) (off := 0) (n := 60) (by decide +kernel), m_ga (code := 4323473234462769276) (c := 537) (off := 0) (n := 240) (by decide +kernel)]
theorem f_NV2 {h : qH} {x : Int} : a_M q_SP 557 1152921504607895680 x h = p_NV2 (m_ac (m_gh h) 471 0 60) x := by
  show p_NV2 (m_ac (a_gm q_SP 557 1152921504607895680 h) 471 0 60) x = _
  rw [m_ga (code := 1152921504607895680) (c := 471) (off := 0) (n := 60) (by decide +kernel)]
theorem f_TE3 {h : qH} {x : Int} : a_M q_SP 557 2017630225249075313 x h = p_TE3 (m_ac (m_gh h) 467 0 60) (m_ac (m_gh h) 469 0 60) (m_ac (m_gh h) 471 0 60) (m_ac (m_gh h) 537 0 240) x := by
  show p_TE3 (m_ac (a_gm q_SP 557 2017630225249075313 h) 467 0 60) (m_ac (a_gm q_SP 557 2017630225249075313 h) 469 0 60) (m_ac (a_gm q_SP 557 2017630225249075313 h) 471 0 60) (m_ac (a_gm q_SP 557 2017630225249075313 h) 537 0 240) x = _
  rw [m_ga (code := 2017630225249075313) (c := 467) (off := 0) (n := 60) (by decide +kernel), m_ga (code := 2017630225249075313) (c := 469) (off := 0) (n := 60) (by decide +kernel), m_ga (code := 2017630225249075313) (c := 471) (off := 0) (n := 60) (by decide +kernel), m_ga (code := 2017630225249075313) (c := 537) (off := 0) (n := 240) (by decide +kernel)]
theorem f_TZ3 {h : qH} {x : Int} : a_M q_SP 557 2305843009214742645 x h = p_TZ3 (m_ac (m_gh h) 473 0 60) x := by
  show p_TZ3 (m_ac (a_gm q_SP 557 2305843009214742645 h) 473 0 60) x = _
  rw [m_ga (code := 2305843009214742645) (c := 473) (off := 0) (n := 60) (by decide +kernel)]
theorem f_TM3 {h : qH} {x : Int} : a_M q_SP 557 17592187093113 x h = p_TM3 (m_ac (m_gh h) 537 0 240) x := by
  show p_TM3 (m_ac (a_gm q_SP 557 17592187093113 h) 537 0 240) x = _
  rw [m_ga (code := 17592187093113) (c := 537) (off := 0) (n := 240) (by decide +kernel)]
theorem f_EX3 {h : qH} {x : Int} : a_M q_SP 557 4323473234462769277 x h = p_EX3 (m_ac (m_gh h) 467 0 60) (m_ac (m_gh h) 469 0 60) (m_ac (m_gh h) 471 0 60) (m_ac (m_gh h) 473 0 60) (m_ac (m_gh h) 537 0 240) x := by
  show p_EX3 (m_ac (a_gm q_SP 557 4323473234462769277 h) 467 0 60) (m_ac (a_gm q_SP 557 4323473234462769277 h) 469 0 60) (m_ac (a_gm q_SP 557 4323473234462769277 h) 471 0 60) (m_ac (a_gm q_SP 557 4323473234462769277 h) 473 0 60) (m_ac (a_gm q_SP 557 4323473234462769277 h) 537 0 240) x = _
  rw [m_ga (code := 4323473234462769277) (c := 467) (off := 0) (n := 60) (by decide +kernel), m_ga (code := 4323473234462769277) (c := 469) (off := 0) (n := 60) (by decide +kernel), m_ga (code := 4323473234462769277) (c := 471) (off := 0) (n := 60) (by decide +kernel), m_ga (code := 4323473234462769277) (c := 473) (off := 0) (n := 60) (by decide +kernel), m_ga (code := 4323473234462769277) (c := 537) (off := 0) (n := 240) (by decide +kernel)]
theorem f_NV3 {h : qH} {x : Int} : a_M q_SP 557 2305843009214742657 x h = p_NV3 (m_ac (m_gh h) 473 0 60) x := by
  show p_NV3 (m_ac (a_gm q_SP 557 2305843009214742657 h) 473 0 60) x = _
  rw [m_ga (code := 2305843009214742657) (c := 473) (off := 0) (n := 60) (by decide +kernel)]
theorem f_NL {h : qH} {x : Int} : a_M q_SP 557 17592187093125 x h = p_NL (m_ac (m_gh h) 537 0 240) x := by
  show p_NL (m_ac (a_gm q_SP 557 17592187093125 h) 537 0 240) x = _
  rw [m_ga (code := 17592187093125) (c := 537) (off := 0) (n := 240) (by decide +kernel)]
theorem f_PP {h : qH} {x : Int} : a_M q_SP 557 4323473234462769282 x h = p_PP (m_ac (m_gh h) 467 0 60) (m_ac (m_gh h) 469 0 60) (m_ac (m_gh h) 471 0 60) (m_ac (m_gh h) 473 0 60) (m_ac (m_gh h) 537 0 240) x := by
  show p_PP (m_ac (a_gm q_SP 557 4323473234462769282 h) 467 0 60) (m_ac (a_gm q_SP 557 4323473234462769282 h) 469 0 60) (m_ac (a_gm q_SP 557 4323473234462769282 h) 471 0 60) (m_ac (a_gm q_SP 557 4323473234462769282 h) 473 0 60) (m_ac (a_gm q_SP 557 4323473234462769282 h) 537 0 240) x = _
  rw [m_ga (code := 4323473234462769282) (c := 467) (off := 0) (n := 60) (by decide +kernel), m_ga (code := 4323473234462769282) (c := 469) (off := 0) (n := 60) (by decide +kernel), m_ga (code := 4323473234462769282) (c := 471) (off := 0) (n := 60) (by decide +kernel), m_ga (code := 4323473234462769282) (c := 473) (off := 0) (n := 60) (by decide +kernel), m_ga (code := 4323473234462769282) (c := 537) (off := 0) (n := 240) (by decide +kernel)]
theorem f_GA {h : qH} {x : Int} : a_M q_SP 557 4323473234462769283 x h = p_GA (m_ac (m_gh h) 467 0 60) (m_ac (m_gh h) 469 0 60) (m_ac (m_gh h) 471 0 60) (m_ac (m_gh h) 473 0 60) (m_ac (m_gh h) 537 0 240) x := by
  show p_GA (m_ac (a_gm q_SP 557 4323473234462769283 h) 467 0 60) (m_ac (a_gm q_SP 557 4323473234462769283 h) 469 0 60) (m_ac (a_gm q_SP 557 4323473234462769283 h) 471 0 60) (m_ac (a_gm q_SP 557 4323473234462769283 h) 473 0 60) (m_ac (a_gm q_SP 557 4323473234462769283 h) 537 0 240) x = _
  rw [m_ga (code := 4323473234462769283) (c := 467) (off := 0) (n := 60) (by decide +kernel), m_ga (code := 4323473234462769283) (c := 469) (off := 0) (n := 60) (by decide +kernel), m_ga (code := 4323473234462769283) (c := 471) (off := 0) (n := 60) (by decide +kernel), m_ga (code := 4323473234462769283) (c := 473) (off := 0) (n := 60) (by decide +kernel), m_ga (code := 4323473234462769283) (c := 537) (off := 0) (n := 240) (by decide +kernel)]
theorem f_GD {h : qH} {x : Int} : a_M q_SP 557 4323473234462769284 x h = p_GD (m_ac (m_gh h) 467 0 60) (m_ac (m_gh h) 469 0 60) (m_ac (m_gh h) 471 0 60) (m_ac (m_gh h) 473 0 60) (m_ac (m_gh h) 537 0 240) x := by
  show p_GD (m_ac (a_gm q_SP 557 4323473234462769284 h) 467 0 60) (m_ac (a_gm q_SP 557 4323473234462769284 h) 469 0 60) (m_ac (a_gm q_SP 557 4323473234462769284 h) 471 0 60) (m_ac (a_gm q_SP 557 4323473234462769284 h) 473 0 60) (m_ac (a_gm q_SP 557 4323473234462769284 h) 537 0 240) x = _
  rw [m_ga (code := 4323473234462769284) (c := 467) (off := 0) (n := 60) (by decide +kernel), m_ga (code := 4323473234462769284) (c := 469) (off := 0) (n := 60) (by decide +kernel), m_ga (code := 4323473234462769284) (c := 471) (off := 0) (n := 60) (by decide +kernel), m_ga (code := 4323473234462769284) (c := 473) (off := 0) (n := 60) (by decide +kernel), m_ga (code := 4323473234462769284) (c := 537) (off := 0) (n := 240) (by decide +kernel)]
theorem f_SK {h : qH} {x : Int} : a_M q_SP 557 13835058055283212429 x h = p_SK (m_ac (m_gh h) 3 0 900) (m_gh h 2 7) x := by
  show p_SK (m_ac (a_gm q_SP 557 13835058055283212429 h) 3 0 900) (a_gm q_SP 557 13835058055283212429 h 2 7) x = _
  rw [m_ga (code := 13835058055283212429) (c := 3) (off := 0) (n := 900) (by decide +kernel), m_gs (code := 13835058055283212429) (c := 2) (j := 7) (by decide +kernel)]
theorem f_NX {h : qH} {x : Int} : a_M q_SP 557 13835058055283212430 x h = p_NX (m_ac (m_gh h) 3 0 900) (m_gh h 2 7) x := by
  show p_NX (m_ac (a_gm q_SP 557 13835058055283212430 h) 3 0 900) (a_gm q_SP 557 13835058055283212430 h 2 7) x = _
  rw [m_ga (code := 13835058055283212430) (c := 3) (off := 0) (n := 900) (by decide +kernel), m_gs (code := 13835058055283212430) (c := 2) (j := 7) (by decide +kernel)]
theorem f_SKR {h : qH} {x : Int} : a_M q_SP 557 36893523331792240803 x h = p_SKR (m_ac (m_gh h) 538 0 900) (m_gh h 534 9) x := by
  show p_SKR (m_ac (a_gm q_SP 557 36893523331792240803 h) 538 0 900) (a_gm q_SP 557 36893523331792240803 h 534 9) x = _
  rw [m_ga (code := 36893523331792240803) (c := 538) (off := 0) (n := 900) (by decide +kernel), m_gs (code := 36893523331792240803) (c := 534) (j := 9) (by decide +kernel)]
theorem f_NXR {h : qH} {x : Int} : a_M q_SP 557 36893523331792240804 x h = p_NXR (m_ac (m_gh h) 538 0 900) (m_gh h 534 9) x := by
  show p_NXR (m_ac (a_gm q_SP 557 36893523331792240804 h) 538 0 900) (a_gm q_SP 557 36893523331792240804 h 534 9) x = _
  rw [m_ga (code := 36893523331792240804) (c := 538) (off := 0) (n := 900) (by decide +kernel), m_gs (code := 36893523331792240804) (c := 534) (j := 9) (by decide +kernel)]
theorem f_BY {h : qH} {x : Int} : a_M q_SP 557 4611686018428436620 x h = p_BY (m_ac (m_gh h) 3 0 900) x := by
  show p_BY (m_ac (a_gm q_SP 557 4611686018428436620 h) 3 0 900) x = _
  rw [m_ga (code := 4611686018428436620) (c := 3) (off := 0) (n := 900) (by decide +kernel)]
theorem f_BYB {h : qH} {x : Int} : a_M q_SP 557 4611686018428436702 x h = p_BYB (m_ac (m_gh h) 3 0 900) x := by
  show p_BYB (m_ac (a_gm q_SP 557 4611686018428436702 h) 3 0 900) x = _
  rw [m_ga (code := 4611686018428436702) (c := 3) (off := 0) (n := 900) (by decide +kernel)]
theorem f_BR {h : qH} {x : Int} : a_M q_SP 557 35184373137568 x h = p_BR (m_ac (m_gh h) 538 0 900) x := by
  show p_BR (m_ac (a_gm q_SP 557 35184373137568 h) 538 0 900) x = _
  rw [m_ga (code := 35184373137568) (c := 538) (off := 0) (n := 900) (by decide +kernel)]
theorem f_LK {h : qH} {x : Int} : a_M q_SP 557 36893523331792240801 x h = p_LK (m_ac (m_gh h) 538 0 900) (m_gh h 534 9) x := by
  show p_LK (m_ac (a_gm q_SP 557 36893523331792240801 h) 538 0 900) (a_gm q_SP 557 36893523331792240801 h 534 9) x = _
  rw [m_ga (code := 36893523331792240801) (c := 538) (off := 0) (n := 900) (by decide +kernel), m_gs (code := 36893523331792240801) (c := 534) (j := 9) (by decide +kernel)]
theorem f_LKB {h : qH} {x : Int} : a_M q_SP 557 36893523331792240802 x h = p_LKB (m_ac (m_gh h) 538 0 900) (m_gh h 534 9) x := by
  show p_LKB (m_ac (a_gm q_SP 557 36893523331792240802 h) 538 0 900) (a_gm q_SP 557 36893523331792240802 h 534 9) x = _
  rw [m_ga (code := 36893523331792240802) (c := 538) (off := 0) (n := 900) (by decide +kernel), m_gs (code := 36893523331792240802) (c := 534) (j := 9) (by decide +kernel)]
theorem f_LE {h : qH} {x : Int} : a_M q_SP 557 13835058055283212431 x h = p_LE (m_ac (m_gh h) 3 0 900) (m_gh h 2 7) x := by
  show p_LE (m_ac (a_gm q_SP 557 13835058055283212431 h) 3 0 900) (a_gm q_SP 557 13835058055283212431 h 2 7) x = _
  rw [m_ga (code := 13835058055283212431) (c := 3) (off := 0) (n := 900) (by decide +kernel), m_gs (code := 13835058055283212431) (c := 2) (j := 7) (by decide +kernel)]
theorem f_DG {h : qH} {x : Int} : a_M q_SP 557 13835058055283212432 x h = p_DG (m_ac (m_gh h) 3 0 900) (m_gh h 2 7) x := by
  show p_DG (m_ac (a_gm q_SP 557 13835058055283212432 h) 3 0 900) (a_gm q_SP 557 13835058055283212432 h 2 7) x = _
  rw [m_ga (code := 13835058055283212432) (c := 3) (off := 0) (n := 900) (by decide +kernel), m_gs (code := 13835058055283212432) (c := 2) (j := 7) (by decide +kernel)]
theorem f_TK {h : qH} {x : Int} : a_M q_SP 557 23058430092137988241 x h = p_TK (m_ac (m_gh h) 3 0 900) (m_gh h 2 4) (m_gh h 2 6) (m_gh h 2 7) (m_gh h 2 8) x := by
  show p_TK (m_ac (a_gm q_SP 557 23058430092137988241 h) 3 0 900) (a_gm q_SP 557 23058430092137988241 h 2 4) (a_gm q_SP 557 23058430092137988241 h 2 6) (a_gm q_SP 557 23058430092137988241 h 2 7) (a_gm q_SP 557 23058430092137988241 h 2 8) x = _
  rw [m_ga (code := 23058430092137988241) (c := 3) (off := 0) (n := 900) (by decide +kernel), m_gs (code := 23058430092137988241) (c := 2) (j := 4) (by decide +kernel), m_gs (code := 23058430092137988241) (c := 2) (j := 6) (by decide +kernel), m_gs (code := 23058430092137988241) (c := 2) (j := 7) (by decide +kernel), m_gs (code := 23058430092137988241) (c := 2) (j := 8) (by decide +kernel)]
theorem f_CU {h : qH} {x : Int} : a_M q_SP 557 23058430092137988242 x h = p_CU (m_ac (m_gh h) 3 0 900) (m_gh h 2 4) (m_gh h 2 5) (m_gh h 2 6) (m_gh h 2 7) (m_gh h 2 8) x := by
  show p_CU (m_ac (a_gm q_SP 557 23058430092137988242 h) 3 0 900) (a_gm q_SP 557 23058430092137988242 h 2 4) (a_gm q_SP 557 23058430092137988242 h 2 5) (a_gm q_SP 557 23058430092137988242 h 2 6) (a_gm q_SP 557 23058430092137988242 h 2 7) (a_gm q_SP 557 23058430092137988242 h 2 8) x = _
  rw [m_ga (code := 23058430092137988242) (c := 3) (off := 0) (n := 900) (by decide +kernel), m_gs (code := 23058430092137988242) (c := 2) (j := 4) (by decide +kernel), m_gs (code := 23058430092137988242) (c := 2) (j := 5) (by decide +kernel), m_gs (code := 23058430092137988242) (c := 2) (j := 6) (by decide +kernel), m_gs (code := 23058430092137988242) (c := 2) (j := 7) (by decide +kernel), m_gs (code := 23058430092137988242) (c := 2) (j := 8) (by decide +kernel)]
theorem f_WM {h : qH} {x : Int} : a_M q_SP 557 1048723 x h = p_WM  x := by
  show p_WM  x = _
  rfl
theorem f_WA {h : qH} {x : Int} : a_M q_SP 557 1048724 x h = p_WA  x := by
  show p_WA  x = _
  rfl
theorem f_WS {h : qH} {x : Int} : a_M q_SP 557 1048725 x h = p_WS  x := by
  show p_WS  x = _
  rfl
theorem f_CH {h : qH} {x : Int} : a_M q_SP 557 1048756 x h = p_CH  x := by
  show p_CH  x = _
  rfl
theorem f_LC {h : qH} {x : Int} : a_M q_SP 557 4611686018428436661 x h = p_LC (m_ac (m_gh h) 3 0 900) x := by
  show p_LC (m_ac (a_gm q_SP 557 4611686018428436661 h) 3 0 900) x = _
  rw [m_ga (code := 4611686018428436661) (c := 3) (off := 0) (n := 900) (by decide +kernel)]
theorem f_WI {h : qH} {x : Int} : a_M q_SP 557 13835058055283212470 x h = p_WI (m_ac (m_gh h) 3 0 900) (m_gh h 2 7) x := by
  show p_WI (m_ac (a_gm q_SP 557 13835058055283212470 h) 3 0 900) (a_gm q_SP 557 13835058055283212470 h 2 7) x = _
  rw [m_ga (code := 13835058055283212470) (c := 3) (off := 0) (n := 900) (by decide +kernel), m_gs (code := 13835058055283212470) (c := 2) (j := 7) (by decide +kernel)]
theorem f_NI {h : qH} {x : Int} : a_M q_SP 557 13835058055283212471 x h = p_NI (m_ac (m_gh h) 3 0 900) (m_gh h 2 7) x := by
  show p_NI (m_ac (a_gm q_SP 557 13835058055283212471 h) 3 0 900) (a_gm q_SP 557 13835058055283212471 h 2 7) x = _
  rw [m_ga (code := 13835058055283212471) (c := 3) (off := 0) (n := 900) (by decide +kernel), m_gs (code := 13835058055283212471) (c := 2) (j := 7) (by decide +kernel)]
theorem f_HF {h : qH} {x : Int} : a_M q_SP 557 13835058055283212481 x h = p_HF (m_ac (m_gh h) 3 0 900) (m_gh h 2 7) x := by
  show p_HF (m_ac (a_gm q_SP 557 13835058055283212481 h) 3 0 900) (a_gm q_SP 557 13835058055283212481 h 2 7) x = _
  rw [m_ga (code := 13835058055283212481) (c := 3) (off := 0) (n := 900) (by decide +kernel), m_gs (code := 13835058055283212481) (c := 2) (j := 7) (by decide +kernel)]
theorem f_NR {h : qH} {x : Int} : a_M q_SP 557 13835058055283212508 x h = p_NR (m_ac (m_gh h) 3 0 900) (m_gh h 2 7) x := by
  show p_NR (m_ac (a_gm q_SP 557 13835058055283212508 h) 3 0 900) (a_gm q_SP 557 13835058055283212508 h 2 7) x = _
  rw [m_ga (code := 13835058055283212508) (c := 3) (off := 0) (n := 900) (by decide +kernel), m_gs (code := 13835058055283212508) (c := 2) (j := 7) (by decide +kernel)]
theorem f_XN {h : qH} {x : Int} : a_M q_SP 557 13835058055283212509 x h = p_XN (m_ac (m_gh h) 3 0 900) (m_gh h 2 7) x := by
  show p_XN (m_ac (a_gm q_SP 557 13835058055283212509 h) 3 0 900) (a_gm q_SP 557 13835058055283212509 h 2 7) x = _
  rw [m_ga (code := 13835058055283212509) (c := 3) (off := 0) (n := 900) (by decide +kernel), m_gs (code := 13835058055283212509) (c := 2) (j := 7) (by decide +kernel)]
theorem f_WIR {h : qH} {x : Int} : a_M q_SP 557 36893523331792240898 x h = p_WIR (m_ac (m_gh h) 538 0 900) (m_gh h 534 9) x := by
  show p_WIR (m_ac (a_gm q_SP 557 36893523331792240898 h) 538 0 900) (a_gm q_SP 557 36893523331792240898 h 534 9) x = _
  rw [m_ga (code := 36893523331792240898) (c := 538) (off := 0) (n := 900) (by decide +kernel), m_gs (code := 36893523331792240898) (c := 534) (j := 9) (by decide +kernel)]
theorem f_NIR {h : qH} {x : Int} : a_M q_SP 557 36893523331792240899 x h = p_NIR (m_ac (m_gh h) 538 0 900) (m_gh h 534 9) x := by
  show p_NIR (m_ac (a_gm q_SP 557 36893523331792240899 h) 538 0 900) (a_gm q_SP 557 36893523331792240899 h 534 9) x = _
  rw [m_ga (code := 36893523331792240899) (c := 538) (off := 0) (n := 900) (by decide +kernel), m_gs (code := 36893523331792240899) (c := 534) (j := 9) (by decide +kernel)]
theorem f_HFR {h : qH} {x : Int} : a_M q_SP 557 36893523331792240897 x h = p_HFR (m_ac (m_gh h) 538 0 900) (m_gh h 534 9) x := by
  show p_HFR (m_ac (a_gm q_SP 557 36893523331792240897 h) 538 0 900) (a_gm q_SP 557 36893523331792240897 h 534 9) x = _
  rw [m_ga (code := 36893523331792240897) (c := 538) (off := 0) (n := 900) (by decide +kernel), m_gs (code := 36893523331792240897) (c := 534) (j := 9) (by decide +kernel)]
theorem f_NRR {h : qH} {x : Int} : a_M q_SP 557 36893523331792240902 x h = p_NRR (m_ac (m_gh h) 538 0 900) (m_gh h 534 9) x := by
  show p_NRR (m_ac (a_gm q_SP 557 36893523331792240902 h) 538 0 900) (a_gm q_SP 557 36893523331792240902 h 534 9) x = _
  rw [m_ga (code := 36893523331792240902) (c := 538) (off := 0) (n := 900) (by decide +kernel), m_gs (code := 36893523331792240902) (c := 534) (j := 9) (by decide +kernel)]
theorem f_XNR {h : qH} {x : Int} : a_M q_SP 557 36893523331792240903 x h = p_XNR (m_ac (m_gh h) 538 0 900) (m_gh h 534 9) x := by
  show p_XNR (m_ac (a_gm q_SP 557 36893523331792240903 h) 538 0 900) (a_gm q_SP 557 36893523331792240903 h 534 9) x = _
  rw [m_ga (code := 36893523331792240903) (c := 538) (off := 0) (n := 900) (by decide +kernel), m_gs (code := 36893523331792240903) (c := 534) (j := 9) (by decide +kernel)]
theorem f_SI {h : qH} {x : Int} : a_M q_SP 557 13835058055283212484 x h = p_SI (m_ac (m_gh h) 3 0 900) (m_gh h 2 7) x := by
  show p_SI (m_ac (a_gm q_SP 557 13835058055283212484 h) 3 0 900) (a_gm q_SP 557 13835058055283212484 h 2 7) x = _
  rw [m_ga (code := 13835058055283212484) (c := 3) (off := 0) (n := 900) (by decide +kernel), m_gs (code := 13835058055283212484) (c := 2) (j := 7) (by decide +kernel)]
theorem f_NSI {h : qH} {x : Int} : a_M q_SP 557 13835058055283212485 x h = p_NSI (m_ac (m_gh h) 3 0 900) (m_gh h 2 7) x := by
  show p_NSI (m_ac (a_gm q_SP 557 13835058055283212485 h) 3 0 900) (a_gm q_SP 557 13835058055283212485 h 2 7) x = _
  rw [m_ga (code := 13835058055283212485) (c := 3) (off := 0) (n := 900) (by decide +kernel), m_gs (code := 13835058055283212485) (c := 2) (j := 7) (by decide +kernel)]
theorem f_SIR {h : qH} {x : Int} : a_M q_SP 557 36893523331792240900 x h = p_SIR (m_ac (m_gh h) 538 0 900) (m_gh h 534 9) x := by
  show p_SIR (m_ac (a_gm q_SP 557 36893523331792240900 h) 538 0 900) (a_gm q_SP 557 36893523331792240900 h 534 9) x = _
  rw [m_ga (code := 36893523331792240900) (c := 538) (off := 0) (n := 900) (by decide +kernel), m_gs (code := 36893523331792240900) (c := 534) (j := 9) (by decide +kernel)]
theorem f_NSIR {h : qH} {x : Int} : a_M q_SP 557 36893523331792240901 x h = p_NSIR (m_ac (m_gh h) 538 0 900) (m_gh h 534 9) x := by
  show p_NSIR (m_ac (a_gm q_SP 557 36893523331792240901 h) 538 0 900) (a_gm q_SP 557 36893523331792240901 h 534 9) x = _
  rw [m_ga (code := 36893523331792240901) (c := 538) (off := 0) (n := 900) (by decide +kernel), m_gs (code := 36893523331792240901) (c := 534) (j := 9) (by decide +kernel)]
theorem f_CF {h : qH} {x : Int} : a_M q_SP 557 4699308052777509322942 x h = p_CF (m_ac (m_gh h) 3 0 900) (m_gh h 2 7) (m_gh h 26 0) (m_gh h 26 1) (m_gh h 26 2) (m_gh h 26 3) (m_gh h 26 4) (m_gh h 26 5) (m_gh h 26 6) (m_gh h 25 3) (m_ac (m_gh h) 27 0 6) (m_ac (m_gh h) 28 0 4) (m_ac (m_gh h) 29 0 4) (m_ac (m_gh h) 32 0 96) (m_ac (m_gh h) 35 0 96) (m_ac (m_gh h) 36 0 96) (m_ac (m_gh h) 39 0 4) (m_ac (m_gh h) 40 0 4) x := by
  show p_CF (m_ac (a_gm q_SP 557 4699308052777509322942 h) 3 0 900) (a_gm q_SP 557 4699308052777509322942 h 2 7) (a_gm q_SP 557 4699308052777509322942 h 26 0) (a_gm q_SP 557 4699308052777509322942 h 26 1) (a_gm q_SP 557 4699308052777509322942 h 26 2) (a_gm q_SP 557 4699308052777509322942 h 26 3) (a_gm q_SP 557 4699308052777509322942 h 26 4) (a_gm q_SP 557 4699308052777509322942 h 26 5) (a_gm q_SP 557 4699308052777509322942 h 26 6) (a_gm q_SP 557 4699308052777509322942 h 25 3) (m_ac (a_gm q_SP 557 4699308052777509322942 h) 27 0 6) (m_ac (a_gm q_SP 557 4699308052777509322942 h) 28 0 4) (m_ac (a_gm q_SP 557 4699308052777509322942 h) 29 0 4) (m_ac (a_gm q_SP 557 4699308052777509322942 h) 32 0 96) (m_ac (a_gm q_SP 557 4699308052777509322942 h) 35 0 96) (m_ac (a_gm q_SP 557 4699308052777509322942 h) 36 0 96) (m_ac (a_gm q_SP 557 4699308052777509322942 h) 39 0 4) (m_ac (a_gm q_SP 557 4699308052777509322942 h) 40 0 4) x = _
  rw [m_ga (code := 4699308052777509322942) (c := 3) (off := 0) (n := 900) (by decide +kernel), m_gs (code := 4699308052777509322942) (c := 2) (j := 7) (by decide +kernel), m_gs (code := 4699308052777509322942) (c := 26) (j := 0) (by decide +kernel), m_gs (code := 4699308052777509322942) (c := 26) (j := 1) (by decide +kernel), m_gs (code := 4699308052777509322942) (c := 26) (j := 2) (by decide +kernel), m_gs (code := 4699308052777509322942) (c := 26) (j := 3) (by decide +kernel), m_gs (code := 4699308052777509322942) (c := 26) (j := 4) (by decide +kernel), m_gs (code := 4699308052777509322942) (c := 26) (j := 5) (by decide +kernel), m_gs (code := 4699308052777509322942) (c := 26) (j := 6) (by decide +kernel), m_gs (code := 4699308052777509322942) (c := 25) (j := 3) (by decide +kernel), m_ga (code := 4699308052777509322942) (c := 27) (off := 0) (n := 6) (by decide +kernel), m_ga (code := 4699308052777509322942) (c := 28) (off := 0) (n := 4) (by decide +kernel), m_ga (code := 4699308052777509322942) (c := 29) (off := 0) (n := 4) (by decide +kernel), m_ga (code := 4699308052777509322942) (c := 32) (off := 0) (n := 96) (by decide +kernel), m_ga (code := 4699308052777509322942) (c := 35) (off := 0) (n := 96) (by decide +kernel), m_ga (code := 4699308052777509322942) (c := 36) (off := 0) (n := 96) (by decide +kernel), m_ga (code := 4699308052777509322942) (c := 39) (off := 0) (n := 4) (by decide +kernel), m_ga (code := 4699308052777509322942) (c := 40) (off := 0) (n := 4) (by decide +kernel)]
theorem f_RDX {h : qH} {x : Int} : a_M q_SP 557 4699308052777509322944 x h = p_RDX (m_ac (m_gh h) 3 0 900) (m_gh h 2 7) (m_gh h 26 0) (m_gh h 26 1) (m_gh h 26 2) (m_gh h 26 3) (m_gh h 26 4) (m_gh h 26 5) (m_gh h 26 6) (m_gh h 25 3) (m_ac (m_gh h) 27 0 6) (m_ac (m_gh h) 28 0 4) (m_ac (m_gh h) 29 0 4) (m_ac (m_gh h) 32 0 96) (m_ac (m_gh h) 35 0 96) (m_ac (m_gh h) 36 0 96) (m_ac (m_gh h) 39 0 4) (m_ac (m_gh h) 40 0 4) x := by
  show p_RDX (m_ac (a_gm q_SP 557 4699308052777509322944 h) 3 0 900) (a_gm q_SP 557 4699308052777509322944 h 2 7) (a_gm q_SP 557 4699308052777509322944 h 26 0) (a_gm q_SP 557 4699308052777509322944 h 26 1) (a_gm q_SP 557 4699308052777509322944 h 26 2) (a_gm q_SP 557 4699308052777509322944 h 26 3) (a_gm q_SP 557 4699308052777509322944 h 26 4) (a_gm q_SP 557 4699308052777509322944 h 26 5) (a_gm q_SP 557 4699308052777509322944 h 26 6) (a_gm q_SP 557 4699308052777509322944 h 25 3) (m_ac (a_gm q_SP 557 4699308052777509322944 h) 27 0 6) (m_ac (a_gm q_SP 557 4699308052777509322944 h) 28 0 4) (m_ac (a_gm q_SP 557 4699308052777509322944 h) 29 0 4) (m_ac (a_gm q_SP 557 4699308052777509322944 h) 32 0 96) (m_ac (a_gm q_SP 557 4699308052777509322944 h) 35 0 96) (m_ac (a_gm q_SP 557 4699308052777509322944 h) 36 0 96) (m_ac (a_gm q_SP 557 4699308052777509322944 h) 39 0 4) (m_ac (a_gm q_SP 557 4699308052777509322944 h) 40 0 4) x = _
  rw [m_ga (code := 4699308052777509322944) (c := 3) (off := 0) (n := 900) (by decide +kernel), m_gs (code := 4699308052777509322944) (c := 2) (j := 7) (by decide +kernel), m_gs (code := 4699308052777509322944) (c := 26) (j := 0) (by decide +kernel), m_gs (code := 4699308052777509322944) (c := 26) (j := 1) (by decide +kernel), m_gs (code := 4699308052777509322944) (c := 26) (j := 2) (by decide +kernel), m_gs (code := 4699308052777509322944) (c := 26) (j := 3) (by decide +kernel), m_gs (code := 4699308052777509322944) (c := 26) (j := 4) (by decide +kernel), m_gs (code := 4699308052777509322944) (c := 26) (j := 5) (by decide +kernel), m_gs (code := 4699308052777509322944) (c := 26) (j := 6) (by decide +kernel), m_gs (code := 4699308052777509322944) (c := 25) (j := 3) (by decide +kernel), m_ga (code := 4699308052777509322944) (c := 27) (off := 0) (n := 6) (by decide +kernel), m_ga (code := 4699308052777509322944) (c := 28) (off := 0) (n := 4) (by decide +kernel), m_ga (code := 4699308052777509322944) (c := 29) (off := 0) (n := 4) (by decide +kernel), m_ga (code := 4699308052777509322944) (c := 32) (off := 0) (n := 96) (by decide +kernel), m_ga (code := 4699308052777509322944) (c := 35) (off := 0) (n := 96) (by decide +kernel), m_ga (code := 4699308052777509322944) (c := 36) (off := 0) (n := 96) (by decide +kernel), m_ga (code := 4699308052777509322944) (c := 39) (off := 0) (n := 4) (by decide +kernel), m_ga (code := 4699308052777509322944) (c := 40) (off := 0) (n := 4) (by decide +kernel)]
theorem f_CG {h : qH} {x : Int} : a_M q_SP 557 9384781047499735433410 x h = p_CG (m_ac (m_gh h) 3 0 900) (m_gh h 2 7) (m_gh h 26 2) (m_gh h 26 3) (m_gh h 26 4) (m_gh h 26 5) (m_gh h 26 6) (m_gh h 25 3) (m_ac (m_gh h) 27 0 6) (m_ac (m_gh h) 28 0 4) (m_ac (m_gh h) 29 0 4) (m_ac (m_gh h) 32 0 96) (m_ac (m_gh h) 35 0 96) (m_ac (m_gh h) 36 0 96) (m_ac (m_gh h) 39 0 4) (m_ac (m_gh h) 40 0 4) x := by
  show p_CG (m_ac (a_gm q_SP 557 9384781047499735433410 h) 3 0 900) (a_gm q_SP 557 9384781047499735433410 h 2 7) (a_gm q_SP 557 9384781047499735433410 h 26 2) (a_gm q_SP 557 9384781047499735433410 h 26 3) (a_gm q_SP 557 9384781047499735433410 h 26 4) (a_gm q_SP 557 9384781047499735433410 h 26 5) (a_gm q_SP 557 9384781047499735433410 h 26 6) (a_gm q_SP 557 9384781047499735433410 h 25 3) (m_ac (a_gm q_SP 557 9384781047499735433410 h) 27 0 6) (m_ac (a_gm q_SP 557 9384781047499735433410 h) 28 0 4) (m_ac (a_gm q_SP 557 9384781047499735433410 h) 29 0 4) (m_ac (a_gm q_SP 557 9384781047499735433410 h) 32 0 96) (m_ac (a_gm q_SP 557 9384781047499735433410 h) 35 0 96) (m_ac (a_gm q_SP 557 9384781047499735433410 h) 36 0 96) (m_ac (a_gm q_SP 557 9384781047499735433410 h) 39 0 4) (m_ac (a_gm q_SP 557 9384781047499735433410 h) 40 0 4) x = _
  rw [m_ga (code := 9384781047499735433410) (c := 3) (off := 0) (n := 900) (by decide +kernel), m_gs (code := 9384781047499735433410) (c := 2) (j := 7) (by decide +kernel), m_gs (code := 9384781047499735433410) (c := 26) (j := 2) (by decide +kernel), m_gs (code := 9384781047499735433410) (c := 26) (j := 3) (by decide +kernel), m_gs (code := 9384781047499735433410) (c := 26) (j := 4) (by decide +kernel), m_gs (code := 9384781047499735433410) (c := 26) (j := 5) (by decide +kernel), m_gs (code := 9384781047499735433410) (c := 26) (j := 6) (by decide +kernel), m_gs (code := 9384781047499735433410) (c := 25) (j := 3) (by decide +kernel), m_ga (code := 9384781047499735433410) (c := 27) (off := 0) (n := 6) (by decide +kernel), m_ga (code := 9384781047499735433410) (c := 28) (off := 0) (n := 4) (by decide +kernel), m_ga (code := 9384781047499735433410) (c := 29) (off := 0) (n := 4) (by decide +kernel), m_ga (code := 9384781047499735433410) (c := 32) (off := 0) (n := 96) (by decide +kernel), m_ga (code := 9384781047499735433410) (c := 35) (off := 0) (n := 96) (by decide +kernel), m_ga (code := 9384781047499735433410) (c := 36) (off := 0) (n := 96) (by decide +kernel), m_ga (code := 9384781047499735433410) (c := 39) (off := 0) (n := 4) (by decide +kernel), m_ga (code := 9384781047499735433410) (c := 40) (off := 0) (n := 4) (by decide +kernel)]
theorem f_CFA {h : qH} {x : Int} : a_M q_SP 557 4699308052777509322943 x h = p_CFA (m_ac (m_gh h) 3 0 900) (m_gh h 2 7) (m_gh h 26 0) (m_gh h 26 1) (m_gh h 26 2) (m_gh h 26 3) (m_gh h 26 4) (m_gh h 26 5) (m_gh h 26 6) (m_gh h 25 3) (m_ac (m_gh h) 27 0 6) (m_ac (m_gh h) 28 0 4) (m_ac (m_gh h) 29 0 4) (m_ac (m_gh h) 32 0 96) (m_ac (m_gh h) 35 0 96) (m_ac (m_gh h) 36 0 96) (m_ac (m_gh h) 39 0 4) (m_ac (m_gh h) 40 0 4) x := by
  show p_CFA (m_ac (a_gm q_SP 557 4699308052777509322943 h) 3 0 900) (a_gm q_SP 557 4699308052777509322943 h 2 7) (a_gm q_SP 557 4699308052777509322943 h 26 0) (a_gm q_SP 557 4699308052777509322943 h 26 1) (a_gm q_SP 557 4699308052777509322943 h 26 2) (a_gm q_SP 557 4699308052777509322943 h 26 3) (a_gm q_SP 557 4699308052777509322943 h 26 4) (a_gm q_SP 557 4699308052777509322943 h 26 5) (a_gm q_SP 557 4699308052777509322943 h 26 6) (a_gm q_SP 557 4699308052777509322943 h 25 3) (m_ac (a_gm q_SP 557 4699308052777509322943 h) 27 0 6) (m_ac (a_gm q_SP 557 4699308052777509322943 h) 28 0 4) (m_ac (a_gm q_SP 557 4699308052777509322943 h) 29 0 4) (m_ac (a_gm q_SP 557 4699308052777509322943 h) 32 0 96) (m_ac (a_gm q_SP 557 4699308052777509322943 h) 35 0 96) (m_ac (a_gm q_SP 557 4699308052777509322943 h) 36 0 96) (m_ac (a_gm q_SP 557 4699308052777509322943 h) 39 0 4) (m_ac (a_gm q_SP 557 4699308052777509322943 h) 40 0 4) x = _
  rw [m_ga (code := 4699308052777509322943) (c := 3) (off := 0) (n := 900) (by decide +kernel), m_gs (code := 4699308052777509322943) (c := 2) (j := 7) (by decide +kernel), m_gs (code := 4699308052777509322943) (c := 26) (j := 0) (by decide +kernel), m_gs (code := 4699308052777509322943) (c := 26) (j := 1) (by decide +kernel), m_gs (code := 4699308052777509322943) (c := 26) (j := 2) (by decide +kernel), m_gs (code := 4699308052777509322943) (c := 26) (j := 3) (by decide +kernel), m_gs (code := 4699308052777509322943) (c := 26) (j := 4) (by decide +kernel), m_gs (code := 4699308052777509322943) (c := 26) (j := 5) (by decide +kernel), m_gs (code := 4699308052777509322943) (c := 26) (j := 6) (by decide +kernel), m_gs (code := 4699308052777509322943) (c := 25) (j := 3) (by decide +kernel), m_ga (code := 4699308052777509322943) (c := 27) (off := 0) (n := 6) (by decide +kernel), m_ga (code := 4699308052777509322943) (c := 28) (off := 0) (n := 4) (by decide +kernel), m_ga (code := 4699308052777509322943) (c := 29) (off := 0) (n := 4) (by decide +kernel), m_ga (code := 4699308052777509322943) (c := 32) (off := 0) (n := 96) (by decide +kernel), m_ga (code := 4699308052777509322943) (c := 35) (off := 0) (n := 96) (by decide +kernel), m_ga (code := 4699308052777509322943) (c := 36) (off := 0) (n := 96) (by decide +kernel), m_ga (code := 4699308052777509322943) (c := 39) (off := 0) (n := 4) (by decide +kernel), m_ga (code := 4699308052777509322943) (c := 40) (off := 0) (n := 4) (by decide +kernel)]
theorem f_CC1 {h : qH} {x : Int} : a_M q_SP 557 4699308052777509322952 x h = p_CC1 (m_ac (m_gh h) 3 0 900) (m_gh h 2 7) (m_gh h 26 0) (m_gh h 26 1) (m_gh h 26 2) (m_gh h 26 3) (m_gh h 26 4) (m_gh h 26 5) (m_gh h 26 6) (m_gh h 25 3) (m_ac (m_gh h) 27 0 6) (m_ac (m_gh h) 28 0 4) (m_ac (m_gh h) 29 0 4) (m_ac (m_gh h) 32 0 96) (m_ac (m_gh h) 35 0 96) (m_ac (m_gh h) 36 0 96) (m_ac (m_gh h) 39 0 4) (m_ac (m_gh h) 40 0 4) x := by
  show p_CC1 (m_ac (a_gm q_SP 557 4699308052777509322952 h) 3 0 900) (a_gm q_SP 557 4699308052777509322952 h 2 7) (a_gm q_SP 557 4699308052777509322952 h 26 0) (a_gm q_SP 557 4699308052777509322952 h 26 1) (a_gm q_SP 557 4699308052777509322952 h 26 2) (a_gm q_SP 557 4699308052777509322952 h 26 3) (a_gm q_SP 557 4699308052777509322952 h 26 4) (a_gm q_SP 557 4699308052777509322952 h 26 5) (a_gm q_SP 557 4699308052777509322952 h 26 6) (a_gm q_SP 557 4699308052777509322952 h 25 3) (m_ac (a_gm q_SP 557 4699308052777509322952 h) 27 0 6) (m_ac (a_gm q_SP 557 4699308052777509322952 h) 28 0 4) (m_ac (a_gm q_SP 557 4699308052777509322952 h) 29 0 4) (m_ac (a_gm q_SP 557 4699308052777509322952 h) 32 0 96) (m_ac (a_gm q_SP 557 4699308052777509322952 h) 35 0 96) (m_ac (a_gm q_SP 557 4699308052777509322952 h) 36 0 96) (m_ac (a_gm q_SP 557 4699308052777509322952 h) 39 0 4) (m_ac (a_gm q_SP 557 4699308052777509322952 h) 40 0 4) x = _
  rw [m_ga (code := 4699308052777509322952) (c := 3) (off := 0) (n := 900) (by decide +kernel), m_gs (code := 4699308052777509322952) (c := 2) (j := 7) (by decide +kernel), m_gs (code := 4699308052777509322952) (c := 26) (j := 0) (by decide +kernel), m_gs (code := 4699308052777509322952) (c := 26) (j := 1) (by decide +kernel), m_gs (code := 4699308052777509322952) (c := 26) (j := 2) (by decide +kernel), m_gs (code := 4699308052777509322952) (c := 26) (j := 3) (by decide +kernel), m_gs (code := 4699308052777509322952) (c := 26) (j := 4) (by decide +kernel), m_gs (code := 4699308052777509322952) (c := 26) (j := 5) (by decide +kernel), m_gs (code := 4699308052777509322952) (c := 26) (j := 6) (by decide +kernel), m_gs (code := 4699308052777509322952) (c := 25) (j := 3) (by decide +kernel), m_ga (code := 4699308052777509322952) (c := 27) (off := 0) (n := 6) (by decide +kernel), m_ga (code := 4699308052777509322952) (c := 28) (off := 0) (n := 4) (by decide +kernel), m_ga (code := 4699308052777509322952) (c := 29) (off := 0) (n := 4) (by decide +kernel), m_ga (code := 4699308052777509322952) (c := 32) (off := 0) (n := 96) (by decide +kernel), m_ga (code := 4699308052777509322952) (c := 35) (off := 0) (n := 96) (by decide +kernel), m_ga (code := 4699308052777509322952) (c := 36) (off := 0) (n := 96) (by decide +kernel), m_ga (code := 4699308052777509322952) (c := 39) (off := 0) (n := 4) (by decide +kernel), m_ga (code := 4699308052777509322952) (c := 40) (off := 0) (n := 4) (by decide +kernel)]
theorem f_CC2 {h : qH} {x : Int} : a_M q_SP 557 4699308052777509322953 x h = p_CC2 (m_ac (m_gh h) 3 0 900) (m_gh h 2 7) (m_gh h 26 0) (m_gh h 26 1) (m_gh h 26 2) (m_gh h 26 3) (m_gh h 26 4) (m_gh h 26 5) (m_gh h 26 6) (m_gh h 25 3) (m_ac (m_gh h) 27 0 6) (m_ac (m_gh h) 28 0 4) (m_ac (m_gh h) 29 0 4) (m_ac (m_gh h) 32 0 96) (m_ac (m_gh h) 35 0 96) (m_ac (m_gh h) 36 0 96) (m_ac (m_gh h) 39 0 4) (m_ac (m_gh h) 40 0 4) x := by
  show p_CC2 (m_ac (a_gm q_SP 557 4699308052777509322953 h) 3 0 900) (a_gm q_SP 557 4699308052777509322953 h 2 7) (a_gm q_SP 557 4699308052777509322953 h 26 0) (a_gm q_SP 557 4699308052777509322953 h 26 1) (a_gm q_SP 557 4699308052777509322953 h 26 2) (a_gm q_SP 557 4699308052777509322953 h 26 3) (a_gm q_SP 557 4699308052777509322953 h 26 4) (a_gm q_SP 557 4699308052777509322953 h 26 5) (a_gm q_SP 557 4699308052777509322953 h 26 6) (a_gm q_SP 557 4699308052777509322953 h 25 3) (m_ac (a_gm q_SP 557 4699308052777509322953 h) 27 0 6) (m_ac (a_gm q_SP 557 4699308052777509322953 h) 28 0 4) (m_ac (a_gm q_SP 557 4699308052777509322953 h) 29 0 4) (m_ac (a_gm q_SP 557 4699308052777509322953 h) 32 0 96) (m_ac (a_gm q_SP 557 4699308052777509322953 h) 35 0 96) (m_ac (a_gm q_SP 557 4699308052777509322953 h) 36 0 96) (m_ac (a_gm q_SP 557 4699308052777509322953 h) 39 0 4) (m_ac (a_gm q_SP 557 4699308052777509322953 h) 40 0 4) x = _
  rw [m_ga (code := 4699308052777509322953) (c := 3) (off := 0) (n := 900) (by decide +kernel), m_gs (code := 4699308052777509322953) (c := 2) (j := 7) (by decide +kernel), m_gs (code := 4699308052777509322953) (c := 26) (j := 0) (by decide +kernel), m_gs (code := 4699308052777509322953) (c := 26) (j := 1) (by decide +kernel), m_gs (code := 4699308052777509322953) (c := 26) (j := 2) (by decide +kernel), m_gs (code := 4699308052777509322953) (c := 26) (j := 3) (by decide +kernel), m_gs (code := 4699308052777509322953) (c := 26) (j := 4) (by decide +kernel), m_gs (code := 4699308052777509322953) (c := 26) (j := 5) (by decide +kernel), m_gs (code := 4699308052777509322953) (c := 26) (j := 6) (by decide +kernel), m_gs (code := 4699308052777509322953) (c := 25) (j := 3) (by decide +kernel), m_ga (code := 4699308052777509322953) (c := 27) (off := 0) (n := 6) (by decide +kernel), m_ga (code := 4699308052777509322953) (c := 28) (off := 0) (n := 4) (by decide +kernel), m_ga (code := 4699308052777509322953) (c := 29) (off := 0) (n := 4) (by decide +kernel), m_ga (code := 4699308052777509322953) (c := 32) (off := 0) (n := 96) (by decide +kernel), m_ga (code := 4699308052777509322953) (c := 35) (off := 0) (n := 96) (by decide +kernel), m_ga (code := 4699308052777509322953) (c := 36) (off := 0) (n := 96) (by decide +kernel), m_ga (code := 4699308052777509322953) (c := 39) (off := 0) (n := 4) (by decide +kernel), m_ga (code := 4699308052777509322953) (c := 40) (off := 0) (n := 4) (by decide +kernel)]
theorem f_CCN {h : qH} {x : Int} : a_M q_SP 557 32996613461847961501898 x h = p_CCN (m_ac (m_gh h) 3 0 900) (m_gh h 2 7) (m_gh h 26 0) (m_gh h 26 1) (m_gh h 26 4) (m_gh h 26 5) (m_gh h 26 6) (m_gh h 25 3) (m_ac (m_gh h) 27 0 6) (m_ac (m_gh h) 28 0 4) (m_ac (m_gh h) 29 0 4) (m_ac (m_gh h) 32 0 96) (m_ac (m_gh h) 35 0 96) (m_ac (m_gh h) 36 0 96) (m_ac (m_gh h) 39 0 4) (m_ac (m_gh h) 40 0 4) x := by
  show p_CCN (m_ac (a_gm q_SP 557 32996613461847961501898 h) 3 0 900) (a_gm q_SP 557 32996613461847961501898 h 2 7) (a_gm q_SP 557 32996613461847961501898 h 26 0) (a_gm q_SP 557 32996613461847961501898 h 26 1) (a_gm q_SP 557 32996613461847961501898 h 26 4) (a_gm q_SP 557 32996613461847961501898 h 26 5) (a_gm q_SP 557 32996613461847961501898 h 26 6) (a_gm q_SP 557 32996613461847961501898 h 25 3) (m_ac (a_gm q_SP 557 32996613461847961501898 h) 27 0 6) (m_ac (a_gm q_SP 557 32996613461847961501898 h) 28 0 4) (m_ac (a_gm q_SP 557 32996613461847961501898 h) 29 0 4) (m_ac (a_gm q_SP 557 32996613461847961501898 h) 32 0 96) (m_ac (a_gm q_SP 557 32996613461847961501898 h) 35 0 96) (m_ac (a_gm q_SP 557 32996613461847961501898 h) 36 0 96) (m_ac (a_gm q_SP 557 32996613461847961501898 h) 39 0 4) (m_ac (a_gm q_SP 557 32996613461847961501898 h) 40 0 4) x = _
  rw [m_ga (code := 32996613461847961501898) (c := 3) (off := 0) (n := 900) (by decide +kernel), m_gs (code := 32996613461847961501898) (c := 2) (j := 7) (by decide +kernel), m_gs (code := 32996613461847961501898) (c := 26) (j := 0) (by decide +kernel), m_gs (code := 32996613461847961501898) (c := 26) (j := 1) (by decide +kernel), m_gs (code := 32996613461847961501898) (c := 26) (j := 4) (by decide +kernel), m_gs (code := 32996613461847961501898) (c := 26) (j := 5) (by decide +kernel), m_gs (code := 32996613461847961501898) (c := 26) (j := 6) (by decide +kernel), m_gs (code := 32996613461847961501898) (c := 25) (j := 3) (by decide +kernel), m_ga (code := 32996613461847961501898) (c := 27) (off := 0) (n := 6) (by decide +kernel), m_ga (code := 32996613461847961501898) (c := 28) (off := 0) (n := 4) (by decide +kernel), m_ga (code := 32996613461847961501898) (c := 29) (off := 0) (n := 4) (by decide +kernel), m_ga (code := 32996613461847961501898) (c := 32) (off := 0) (n := 96) (by decide +kernel), m_ga (code := 32996613461847961501898) (c := 35) (off := 0) (n := 96) (by decide +kernel), m_ga (code := 32996613461847961501898) (c := 36) (off := 0) (n := 96) (by decide +kernel), m_ga (code := 32996613461847961501898) (c := 39) (off := 0) (n := 4) (by decide +kernel), m_ga (code := 32996613461847961501898) (c := 40) (off := 0) (n := 4) (by decide +kernel)]
theorem f_CM1 {h : qH} {x : Int} : a_M q_SP 557 4699308052777509322955 x h = p_CM1 (m_ac (m_gh h) 3 0 900) (m_gh h 2 7) (m_gh h 26 0) (m_gh h 26 1) (m_gh h 26 2) (m_gh h 26 3) (m_gh h 26 4) (m_gh h 26 5) (m_gh h 26 6) (m_gh h 25 3) (m_ac (m_gh h) 27 0 6) (m_ac (m_gh h) 28 0 4) (m_ac (m_gh h) 29 0 4) (m_ac (m_gh h) 32 0 96) (m_ac (m_gh h) 35 0 96) (m_ac (m_gh h) 36 0 96) (m_ac (m_gh h) 39 0 4) (m_ac (m_gh h) 40 0 4) x := by
  show p_CM1 (m_ac (a_gm q_SP 557 4699308052777509322955 h) 3 0 900) (a_gm q_SP 557 4699308052777509322955 h 2 7) (a_gm q_SP 557 4699308052777509322955 h 26 0) (a_gm q_SP 557 4699308052777509322955 h 26 1) (a_gm q_SP 557 4699308052777509322955 h 26 2) (a_gm q_SP 557 4699308052777509322955 h 26 3) (a_gm q_SP 557 4699308052777509322955 h 26 4) (a_gm q_SP 557 4699308052777509322955 h 26 5) (a_gm q_SP 557 4699308052777509322955 h 26 6) (a_gm q_SP 557 4699308052777509322955 h 25 3) (m_ac (a_gm q_SP 557 4699308052777509322955 h) 27 0 6) (m_ac (a_gm q_SP 557 4699308052777509322955 h) 28 0 4) (m_ac (a_gm q_SP 557 4699308052777509322955 h) 29 0 4) (m_ac (a_gm q_SP 557 4699308052777509322955 h) 32 0 96) (m_ac (a_gm q_SP 557 4699308052777509322955 h) 35 0 96) (m_ac (a_gm q_SP 557 4699308052777509322955 h) 36 0 96) (m_ac (a_gm q_SP 557 4699308052777509322955 h) 39 0 4) (m_ac (a_gm q_SP 557 4699308052777509322955 h) 40 0 4) x = _
  rw [m_ga (code := 4699308052777509322955) (c := 3) (off := 0) (n := 900) (by decide +kernel), m_gs (code := 4699308052777509322955) (c := 2) (j := 7) (by decide +kernel), m_gs (code := 4699308052777509322955) (c := 26) (j := 0) (by decide +kernel), m_gs (code := 4699308052777509322955) (c := 26) (j := 1) (by decide +kernel), m_gs (code := 4699308052777509322955) (c := 26) (j := 2) (by decide +kernel), m_gs (code := 4699308052777509322955) (c := 26) (j := 3) (by decide +kernel), m_gs (code := 4699308052777509322955) (c := 26) (j := 4) (by decide +kernel), m_gs (code := 4699308052777509322955) (c := 26) (j := 5) (by decide +kernel), m_gs (code := 4699308052777509322955) (c := 26) (j := 6) (by decide +kernel), m_gs (code := 4699308052777509322955) (c := 25) (j := 3) (by decide +kernel), m_ga (code := 4699308052777509322955) (c := 27) (off := 0) (n := 6) (by decide +kernel), m_ga (code := 4699308052777509322955) (c := 28) (off := 0) (n := 4) (by decide +kernel), m_ga (code := 4699308052777509322955) (c := 29) (off := 0) (n := 4) (by decide +kernel), m_ga (code := 4699308052777509322955) (c := 32) (off := 0) (n := 96) (by decide +kernel), m_ga (code := 4699308052777509322955) (c := 35) (off := 0) (n := 96) (by decide +kernel), m_ga (code := 4699308052777509322955) (c := 36) (off := 0) (n := 96) (by decide +kernel), m_ga (code := 4699308052777509322955) (c := 39) (off := 0) (n := 4) (by decide +kernel), m_ga (code := 4699308052777509322955) (c := 40) (off := 0) (n := 4) (by decide +kernel)]
theorem f_CM2 {h : qH} {x : Int} : a_M q_SP 557 4699308052777509322956 x h = p_CM2 (m_ac (m_gh h) 3 0 900) (m_gh h 2 7) (m_gh h 26 0) (m_gh h 26 1) (m_gh h 26 2) (m_gh h 26 3) (m_gh h 26 4) (m_gh h 26 5) (m_gh h 26 6) (m_gh h 25 3) (m_ac (m_gh h) 27 0 6) (m_ac (m_gh h) 28 0 4) (m_ac (m_gh h) 29 0 4) (m_ac (m_gh h) 32 0 96) (m_ac (m_gh h) 35 0 96) (m_ac (m_gh h) 36 0 96) (m_ac (m_gh h) 39 0 4) (m_ac (m_gh h) 40 0 4) x := by
  show p_CM2 (m_ac (a_gm q_SP 557 4699308052777509322956 h) 3 0 900) (a_gm q_SP 557 4699308052777509322956 h 2 7) (a_gm q_SP 557 4699308052777509322956 h 26 0) (a_gm q_SP 557 4699308052777509322956 h 26 1) (a_gm q_SP 557 4699308052777509322956 h 26 2) (a_gm q_SP 557 4699308052777509322956 h 26 3) (a_gm q_SP 557 4699308052777509322956 h 26 4) (a_gm q_SP 557 4699308052777509322956 h 26 5) (a_gm q_SP 557 4699308052777509322956 h 26 6) (a_gm q_SP 557 4699308052777509322956 h 25 3) (m_ac (a_gm q_SP 557 4699308052777509322956 h) 27 0 6) (m_ac (a_gm q_SP 557 4699308052777509322956 h) 28 0 4) (m_ac (a_gm q_SP 557 4699308052777509322956 h) 29 0 4) (m_ac (a_gm q_SP 557 4699308052777509322956 h) 32 0 96) (m_ac (a_gm q_SP 557 4699308052777509322956 h) 35 0 96) (m_ac (a_gm q_SP 557 4699308052777509322956 h) 36 0 96) (m_ac (a_gm q_SP 557 4699308052777509322956 h) 39 0 4) (m_ac (a_gm q_SP 557 4699308052777509322956 h) 40 0 4) x = _
  rw [m_ga (code := 4699308052777509322956) (c := 3) (off := 0) (n := 900) (by decide +kernel), m_gs (code := 4699308052777509322956) (c := 2) (j := 7) (by decide +kernel), m_gs (code := 4699308052777509322956) (c := 26) (j := 0) (by decide +kernel), m_gs (code := 4699308052777509322956) (c := 26) (j := 1) (by decide +kernel), m_gs (code := 4699308052777509322956) (c := 26) (j := 2) (by decide +kernel), m_gs (code := 4699308052777509322956) (c := 26) (j := 3) (by decide +kernel), m_gs (code := 4699308052777509322956) (c := 26) (j := 4) (by decide +kernel), m_gs (code := 4699308052777509322956) (c := 26) (j := 5) (by decide +kernel), m_gs (code := 4699308052777509322956) (c := 26) (j := 6) (by decide +kernel), m_gs (code := 4699308052777509322956) (c := 25) (j := 3) (by decide +kernel), m_ga (code := 4699308052777509322956) (c := 27) (off := 0) (n := 6) (by decide +kernel), m_ga (code := 4699308052777509322956) (c := 28) (off := 0) (n := 4) (by decide +kernel), m_ga (code := 4699308052777509322956) (c := 29) (off := 0) (n := 4) (by decide +kernel), m_ga (code := 4699308052777509322956) (c := 32) (off := 0) (n := 96) (by decide +kernel), m_ga (code := 4699308052777509322956) (c := 35) (off := 0) (n := 96) (by decide +kernel), m_ga (code := 4699308052777509322956) (c := 36) (off := 0) (n := 96) (by decide +kernel), m_ga (code := 4699308052777509322956) (c := 39) (off := 0) (n := 4) (by decide +kernel), m_ga (code := 4699308052777509322956) (c := 40) (off := 0) (n := 4) (by decide +kernel)]
theorem f_CMN {h : qH} {x : Int} : a_M q_SP 557 136888676084980156203213 x h = p_CMN (m_ac (m_gh h) 3 0 900) (m_gh h 2 7) (m_gh h 26 0) (m_gh h 26 1) (m_gh h 26 2) (m_gh h 26 3) (m_gh h 26 5) (m_gh h 26 6) (m_gh h 25 3) (m_ac (m_gh h) 27 0 6) (m_ac (m_gh h) 28 0 4) (m_ac (m_gh h) 29 0 4) (m_ac (m_gh h) 32 0 96) (m_ac (m_gh h) 35 0 96) (m_ac (m_gh h) 36 0 96) (m_ac (m_gh h) 39 0 4) (m_ac (m_gh h) 40 0 4) x := by
  show p_CMN (m_ac (a_gm q_SP 557 136888676084980156203213 h) 3 0 900) (a_gm q_SP 557 136888676084980156203213 h 2 7) (a_gm q_SP 557 136888676084980156203213 h 26 0) (a_gm q_SP 557 136888676084980156203213 h 26 1) (a_gm q_SP 557 136888676084980156203213 h 26 2) (a_gm q_SP 557 136888676084980156203213 h 26 3) (a_gm q_SP 557 136888676084980156203213 h 26 5) (a_gm q_SP 557 136888676084980156203213 h 26 6) (a_gm q_SP 557 136888676084980156203213 h 25 3) (m_ac (a_gm q_SP 557 136888676084980156203213 h) 27 0 6) (m_ac (a_gm q_SP 557 136888676084980156203213 h) 28 0 4) (m_ac (a_gm q_SP 557 136888676084980156203213 h) 29 0 4) (m_ac (a_gm q_SP 557 136888676084980156203213 h) 32 0 96) (m_ac (a_gm q_SP 557 136888676084980156203213 h) 35 0 96) (m_ac (a_gm q_SP 557 136888676084980156203213 h) 36 0 96) (m_ac (a_gm q_SP 557 136888676084980156203213 h) 39 0 4) (m_ac (a_gm q_SP 557 136888676084980156203213 h) 40 0 4) x = _
  rw [m_ga (code := 136888676084980156203213) (c := 3) (off := 0) (n := 900) (by decide +kernel), m_gs (code := 136888676084980156203213) (c := 2) (j := 7) (by decide +kernel), m_gs (code := 136888676084980156203213) (c := 26) (j := 0) (by decide +kernel), m_gs (code := 136888676084980156203213) (c := 26) (j := 1) (by decide +kernel), m_gs (code := 136888676084980156203213) (c := 26) (j := 2) (by decide +kernel), m_gs (code := 136888676084980156203213) (c := 26) (j := 3) (by decide +kernel), m_gs (code := 136888676084980156203213) (c := 26) (j := 5) (by decide +kernel), m_gs (code := 136888676084980156203213) (c := 26) (j := 6) (by decide +kernel), m_gs (code := 136888676084980156203213) (c := 25) (j := 3) (by decide +kernel), m_ga (code := 136888676084980156203213) (c := 27) (off := 0) (n := 6) (by decide +kernel), m_ga (code := 136888676084980156203213) (c := 28) (off := 0) (n := 4) (by decide +kernel), m_ga (code := 136888676084980156203213) (c := 29) (off := 0) (n := 4) (by decide +kernel), m_ga (code := 136888676084980156203213) (c := 32) (off := 0) (n := 96) (by decide +kernel), m_ga (code := 136888676084980156203213) (c := 35) (off := 0) (n := 96) (by decide +kernel), m_ga (code := 136888676084980156203213) (c := 36) (off := 0) (n := 96) (by decide +kernel), m_ga (code := 136888676084980156203213) (c := 39) (off := 0) (n := 4) (by decide +kernel), m_ga (code := 136888676084980156203213) (c := 40) (off := 0) (n := 4) (by decide +kernel)]
theorem f_CS1 {h : qH} {x : Int} : a_M q_SP 557 4699308052777509322958 x h = p_CS1 (m_ac (m_gh h) 3 0 900) (m_gh h 2 7) (m_gh h 26 0) (m_gh h 26 1) (m_gh h 26 2) (m_gh h 26 3) (m_gh h 26 4) (m_gh h 26 5) (m_gh h 26 6) (m_gh h 25 3) (m_ac (m_gh h) 27 0 6) (m_ac (m_gh h) 28 0 4) (m_ac (m_gh h) 29 0 4) (m_ac (m_gh h) 32 0 96) (m_ac (m_gh h) 35 0 96) (m_ac (m_gh h) 36 0 96) (m_ac (m_gh h) 39 0 4) (m_ac (m_gh h) 40 0 4) x := by
  show p_CS1 (m_ac (a_gm q_SP 557 4699308052777509322958 h) 3 0 900) (a_gm q_SP 557 4699308052777509322958 h 2 7) (a_gm q_SP 557 4699308052777509322958 h 26 0) (a_gm q_SP 557 4699308052777509322958 h 26 1) (a_gm q_SP 557 4699308052777509322958 h 26 2) (a_gm q_SP 557 4699308052777509322958 h 26 3) (a_gm q_SP 557 4699308052777509322958 h 26 4) (a_gm q_SP 557 4699308052777509322958 h 26 5) (a_gm q_SP 557 4699308052777509322958 h 26 6) (a_gm q_SP 557 4699308052777509322958 h 25 3) (m_ac (a_gm q_SP 557 4699308052777509322958 h) 27 0 6) (m_ac (a_gm q_SP 557 4699308052777509322958 h) 28 0 4) (m_ac (a_gm q_SP 557 4699308052777509322958 h) 29 0 4) (m_ac (a_gm q_SP 557 4699308052777509322958 h) 32 0 96) (m_ac (a_gm q_SP 557 4699308052777509322958 h) 35 0 96) (m_ac (a_gm q_SP 557 4699308052777509322958 h) 36 0 96) (m_ac (a_gm q_SP 557 4699308052777509322958 h) 39 0 4) (m_ac (a_gm q_SP 557 4699308052777509322958 h) 40 0 4) x = _
  rw [m_ga (code := 4699308052777509322958) (c := 3) (off := 0) (n := 900) (by decide +kernel), m_gs (code := 4699308052777509322958) (c := 2) (j := 7) (by decide +kernel), m_gs (code := 4699308052777509322958) (c := 26) (j := 0) (by decide +kernel), m_gs (code := 4699308052777509322958) (c := 26) (j := 1) (by decide +kernel), m_gs (code := 4699308052777509322958) (c := 26) (j := 2) (by decide +kernel), m_gs (code := 4699308052777509322958) (c := 26) (j := 3) (by decide +kernel), m_gs (code := 4699308052777509322958) (c := 26) (j := 4) (by decide +kernel), m_gs (code := 4699308052777509322958) (c := 26) (j := 5) (by decide +kernel), m_gs (code := 4699308052777509322958) (c := 26) (j := 6) (by decide +kernel), m_gs (code := 4699308052777509322958) (c := 25) (j := 3) (by decide +kernel), m_ga (code := 4699308052777509322958) (c := 27) (off := 0) (n := 6) (by decide +kernel), m_ga (code := 4699308052777509322958) (c := 28) (off := 0) (n := 4) (by decide +kernel), m_ga (code := 4699308052777509322958) (c := 29) (off := 0) (n := 4) (by decide +kernel), m_ga (code := 4699308052777509322958) (c := 32) (off := 0) (n := 96) (by decide +kernel), m_ga (code := 4699308052777509322958) (c := 35) (off := 0) (n := 96) (by decide +kernel), m_ga (code := 4699308052777509322958) (c := 36) (off := 0) (n := 96) (by decide +kernel), m_ga (code := 4699308052777509322958) (c := 39) (off := 0) (n := 4) (by decide +kernel), m_ga (code := 4699308052777509322958) (c := 40) (off := 0) (n := 4) (by decide +kernel)]
theorem f_CSN {h : qH} {x : Int} : a_M q_SP 557 776769334513817082659023 x h = p_CSN (m_ac (m_gh h) 3 0 900) (m_gh h 2 7) (m_gh h 26 0) (m_gh h 26 1) (m_gh h 26 2) (m_gh h 26 3) (m_gh h 26 4) (m_gh h 26 6) (m_ac (m_gh h) 27 0 6) (m_ac (m_gh h) 28 0 4) (m_ac (m_gh h) 29 0 4) (m_ac (m_gh h) 32 0 96) (m_ac (m_gh h) 35 0 96) (m_ac (m_gh h) 36 0 96) (m_ac (m_gh h) 39 0 4) (m_ac (m_gh h) 40 0 4) x := by
  show p_CSN (m_ac (a_gm q_SP 557 776769334513817082659023 h) 3 0 900) (a_gm q_SP 557 776769334513817082659023 h 2 7) (a_gm q_SP 557 776769334513817082659023 h 26 0) (a_gm q_SP 557 776769334513817082659023 h 26 1) (a_gm q_SP 557 776769334513817082659023 h 26 2) (a_gm q_SP 557 776769334513817082659023 h 26 3) (a_gm q_SP 557 776769334513817082659023 h 26 4) (a_gm q_SP 557 776769334513817082659023 h 26 6) (m_ac (a_gm q_SP 557 776769334513817082659023 h) 27 0 6) (m_ac (a_gm q_SP 557 776769334513817082659023 h) 28 0 4) (m_ac (a_gm q_SP 557 776769334513817082659023 h) 29 0 4) (m_ac (a_gm q_SP 557 776769334513817082659023 h) 32 0 96) (m_ac (a_gm q_SP 557 776769334513817082659023 h) 35 0 96) (m_ac (a_gm q_SP 557 776769334513817082659023 h) 36 0 96) (m_ac (a_gm q_SP 557 776769334513817082659023 h) 39 0 4) (m_ac (a_gm q_SP 557 776769334513817082659023 h) 40 0 4) x = _
  rw [m_ga (code := 776769334513817082659023) (c := 3) (off := 0) (n := 900) (by decide +kernel), m_gs (code := 776769334513817082659023) (c := 2) (j := 7) (by decide +kernel), m_gs (code := 776769334513817082659023) (c := 26) (j := 0) (by decide +kernel), m_gs (code := 776769334513817082659023) (c := 26) (j := 1) (by decide +kernel), m_gs (code := 776769334513817082659023) (c := 26) (j := 2) (by decide +kernel), m_gs (code := 776769334513817082659023) (c := 26) (j := 3) (by decide +kernel), m_gs (code := 776769334513817082659023) (c := 26) (j := 4) (by decide +kernel), m_gs (code := 776769334513817082659023) (c := 26) (j := 6) (by decide +kernel), m_ga (code := 776769334513817082659023) (c := 27) (off := 0) (n := 6) (by decide +kernel), m_ga (code := 776769334513817082659023) (c := 28) (off := 0) (n := 4) (by decide +kernel), m_ga (code := 776769334513817082659023) (c := 29) (off := 0) (n := 4) (by decide +kernel), m_ga (code := 776769334513817082659023) (c := 32) (off := 0) (n := 96) (by decide +kernel), m_ga (code := 776769334513817082659023) (c := 35) (off := 0) (n := 96) (by decide +kernel), m_ga (code := 776769334513817082659023) (c := 36) (off := 0) (n := 96) (by decide +kernel), m_ga (code := 776769334513817082659023) (c := 39) (off := 0) (n := 4) (by decide +kernel), m_ga (code := 776769334513817082659023) (c := 40) (off := 0) (n := 4) (by decide +kernel)]
theorem f_CSM {h : qH} {x : Int} : a_M q_SP 557 2338124811342686716112 x h = p_CSM (m_ac (m_gh h) 3 0 900) (m_gh h 2 7) (m_gh h 26 0) (m_gh h 26 1) (m_gh h 26 2) (m_gh h 26 3) (m_gh h 26 4) (m_gh h 26 5) (m_gh h 26 6) (m_ac (m_gh h) 27 0 6) (m_ac (m_gh h) 28 0 4) (m_ac (m_gh h) 29 0 4) (m_ac (m_gh h) 32 0 96) (m_ac (m_gh h) 35 0 96) (m_ac (m_gh h) 36 0 96) (m_ac (m_gh h) 39 0 4) (m_ac (m_gh h) 40 0 4) x := by
  show p_CSM (m_ac (a_gm q_SP 557 2338124811342686716112 h) 3 0 900) (a_gm q_SP 557 2338124811342686716112 h 2 7) (a_gm q_SP 557 2338124811342686716112 h 26 0) (a_gm q_SP 557 2338124811342686716112 h 26 1) (a_gm q_SP 557 2338124811342686716112 h 26 2) (a_gm q_SP 557 2338124811342686716112 h 26 3) (a_gm q_SP 557 2338124811342686716112 h 26 4) (a_gm q_SP 557 2338124811342686716112 h 26 5) (a_gm q_SP 557 2338124811342686716112 h 26 6) (m_ac (a_gm q_SP 557 2338124811342686716112 h) 27 0 6) (m_ac (a_gm q_SP 557 2338124811342686716112 h) 28 0 4) (m_ac (a_gm q_SP 557 2338124811342686716112 h) 29 0 4) (m_ac (a_gm q_SP 557 2338124811342686716112 h) 32 0 96) (m_ac (a_gm q_SP 557 2338124811342686716112 h) 35 0 96) (m_ac (a_gm q_SP 557 2338124811342686716112 h) 36 0 96) (m_ac (a_gm q_SP 557 2338124811342686716112 h) 39 0 4) (m_ac (a_gm q_SP 557 2338124811342686716112 h) 40 0 4) x = _
  rw [m_ga (code := 2338124811342686716112) (c := 3) (off := 0) (n := 900) (by decide +kernel), m_gs (code := 2338124811342686716112) (c := 2) (j := 7) (by decide +kernel), m_gs (code := 2338124811342686716112) (c := 26) (j := 0) (by decide +kernel), m_gs (code := 2338124811342686716112) (c := 26) (j := 1) (by decide +kernel), m_gs (code := 2338124811342686716112) (c := 26) (j := 2) (by decide +kernel), m_gs (code := 2338124811342686716112) (c := 26) (j := 3) (by decide +kernel), m_gs (code := 2338124811342686716112) (c := 26) (j := 4) (by decide +kernel), m_gs (code := 2338124811342686716112) (c := 26) (j := 5) (by decide +kernel), m_gs (code := 2338124811342686716112) (c := 26) (j := 6) (by decide +kernel), m_ga (code := 2338124811342686716112) (c := 27) (off := 0) (n := 6) (by decide +kernel), m_ga (code := 2338124811342686716112) (c := 28) (off := 0) (n := 4) (by decide +kernel), m_ga (code := 2338124811342686716112) (c := 29) (off := 0) (n := 4) (by decide +kernel), m_ga (code := 2338124811342686716112) (c := 32) (off := 0) (n := 96) (by decide +kernel), m_ga (code := 2338124811342686716112) (c := 35) (off := 0) (n := 96) (by decide +kernel), m_ga (code := 2338124811342686716112) (c := 36) (off := 0) (n := 96) (by decide +kernel), m_ga (code := 2338124811342686716112) (c := 39) (off := 0) (n := 4) (by decide +kernel), m_ga (code := 2338124811342686716112) (c := 40) (off := 0) (n := 4) (by decide +kernel)]
theorem f_CD1 {h : qH} {x : Int} : a_M q_SP 557 4699308052777509322961 x h = p_CD1 (m_ac (m_gh h) 3 0 900) (m_gh h 2 7) (m_gh h 26 0) (m_gh h 26 1) (m_gh h 26 2) (m_gh h 26 3) (m_gh h 26 4) (m_gh h 26 5) (m_gh h 26 6) (m_gh h 25 3) (m_ac (m_gh h) 27 0 6) (m_ac (m_gh h) 28 0 4) (m_ac (m_gh h) 29 0 4) (m_ac (m_gh h) 32 0 96) (m_ac (m_gh h) 35 0 96) (m_ac (m_gh h) 36 0 96) (m_ac (m_gh h) 39 0 4) (m_ac (m_gh h) 40 0 4) x := by
  show p_CD1 (m_ac (a_gm q_SP 557 4699308052777509322961 h) 3 0 900) (a_gm q_SP 557 4699308052777509322961 h 2 7) (a_gm q_SP 557 4699308052777509322961 h 26 0) (a_gm q_SP 557 4699308052777509322961 h 26 1) (a_gm q_SP 557 4699308052777509322961 h 26 2) (a_gm q_SP 557 4699308052777509322961 h 26 3) (a_gm q_SP 557 4699308052777509322961 h 26 4) (a_gm q_SP 557 4699308052777509322961 h 26 5) (a_gm q_SP 557 4699308052777509322961 h 26 6) (a_gm q_SP 557 4699308052777509322961 h 25 3) (m_ac (a_gm q_SP 557 4699308052777509322961 h) 27 0 6) (m_ac (a_gm q_SP 557 4699308052777509322961 h) 28 0 4) (m_ac (a_gm q_SP 557 4699308052777509322961 h) 29 0 4) (m_ac (a_gm q_SP 557 4699308052777509322961 h) 32 0 96) (m_ac (a_gm q_SP 557 4699308052777509322961 h) 35 0 96) (m_ac (a_gm q_SP 557 4699308052777509322961 h) 36 0 96) (m_ac (a_gm q_SP 557 4699308052777509322961 h) 39 0 4) (m_ac (a_gm q_SP 557 4699308052777509322961 h) 40 0 4) x = _
  rw [m_ga (code := 4699308052777509322961) (c := 3) (off := 0) (n := 900) (by decide +kernel), m_gs (code := 4699308052777509322961) (c := 2) (j := 7) (by decide +kernel), m_gs (code := 4699308052777509322961) (c := 26) (j := 0) (by decide +kernel), m_gs (code := 4699308052777509322961) (c := 26) (j := 1) (by decide +kernel), m_gs (code := 4699308052777509322961) (c := 26) (j := 2) (by decide +kernel), m_gs (code := 4699308052777509322961) (c := 26) (j := 3) (by decide +kernel), m_gs (code := 4699308052777509322961) (c := 26) (j := 4) (by decide +kernel), m_gs (code := 4699308052777509322961) (c := 26) (j := 5) (by decide +kernel), m_gs (code := 4699308052777509322961) (c := 26) (j := 6) (by decide +kernel), m_gs (code := 4699308052777509322961) (c := 25) (j := 3) (by decide +kernel), m_ga (code := 4699308052777509322961) (c := 27) (off := 0) (n := 6) (by decide +kernel), m_ga (code := 4699308052777509322961) (c := 28) (off := 0) (n := 4) (by decide +kernel), m_ga (code := 4699308052777509322961) (c := 29) (off := 0) (n := 4) (by decide +kernel), m_ga (code := 4699308052777509322961) (c := 32) (off := 0) (n := 96) (by decide +kernel), m_ga (code := 4699308052777509322961) (c := 35) (off := 0) (n := 96) (by decide +kernel), m_ga (code := 4699308052777509322961) (c := 36) (off := 0) (n := 96) (by decide +kernel), m_ga (code := 4699308052777509322961) (c := 39) (off := 0) (n := 4) (by decide +kernel), m_ga (code := 4699308052777509322961) (c := 40) (off := 0) (n := 4) (by decide +kernel)]
theorem f_CDN {h : qH} {x : Int} : a_M q_SP 557 325783335399765964751058 x h = p_CDN (m_ac (m_gh h) 3 0 900) (m_gh h 2 7) (m_gh h 26 0) (m_gh h 26 1) (m_gh h 26 2) (m_gh h 26 3) (m_gh h 26 4) (m_gh h 26 5) (m_gh h 25 3) (m_ac (m_gh h) 27 0 6) (m_ac (m_gh h) 28 0 4) (m_ac (m_gh h) 29 0 4) (m_ac (m_gh h) 32 0 96) (m_ac (m_gh h) 35 0 96) (m_ac (m_gh h) 36 0 96) (m_ac (m_gh h) 39 0 4) (m_ac (m_gh h) 40 0 4) x := by
  show p_CDN (m_ac (a_gm q_SP 557 325783335399765964751058 h) 3 0 900) (a_gm q_SP 557 325783335399765964751058 h 2 7) (a_gm q_SP 557 325783335399765964751058 h 26 0) (a_gm q_SP 557 325783335399765964751058 h 26 1) (a_gm q_SP 557 325783335399765964751058 h 26 2) (a_gm q_SP 557 325783335399765964751058 h 26 3) (a_gm q_SP 557 325783335399765964751058 h 26 4) (a_gm q_SP 557 325783335399765964751058 h 26 5) (a_gm q_SP 557 325783335399765964751058 h 25 3) (m_ac (a_gm q_SP 557 325783335399765964751058 h) 27 0 6) (m_ac (a_gm q_SP 557 325783335399765964751058 h) 28 0 4) (m_ac (a_gm q_SP 557 325783335399765964751058 h) 29 0 4) (m_ac (a_gm q_SP 557 325783335399765964751058 h) 32 0 96) (m_ac (a_gm q_SP 557 325783335399765964751058 h) 35 0 96) (m_ac (a_gm q_SP 557 325783335399765964751058 h) 36 0 96) (m_ac (a_gm q_SP 557 325783335399765964751058 h) 39 0 4) (m_ac (a_gm q_SP 557 325783335399765964751058 h) 40 0 4) x = _
  rw [m_ga (code := 325783335399765964751058) (c := 3) (off := 0) (n := 900) (by decide +kernel), m_gs (code := 325783335399765964751058) (c := 2) (j := 7) (by decide +kernel), m_gs (code := 325783335399765964751058) (c := 26) (j := 0) (by decide +kernel), m_gs (code := 325783335399765964751058) (c := 26) (j := 1) (by decide +kernel), m_gs (code := 325783335399765964751058) (c := 26) (j := 2) (by decide +kernel), m_gs (code := 325783335399765964751058) (c := 26) (j := 3) (by decide +kernel), m_gs (code := 325783335399765964751058) (c := 26) (j := 4) (by decide +kernel), m_gs (code := 325783335399765964751058) (c := 26) (j := 5) (by decide +kernel), m_gs (code := 325783335399765964751058) (c := 25) (j := 3) (by decide +kernel), m_ga (code := 325783335399765964751058) (c := 27) (off := 0) (n := 6) (by decide +kernel), m_ga (code := 325783335399765964751058) (c := 28) (off := 0) (n := 4) (by decide +kernel), m_ga (code := 325783335399765964751058) (c := 29) (off := 0) (n := 4) (by decide +kernel), m_ga (code := 325783335399765964751058) (c := 32) (off := 0) (n := 96) (by decide +kernel), m_ga (code := 325783335399765964751058) (c := 35) (off := 0) (n := 96) (by decide +kernel), m_ga (code := 325783335399765964751058) (c := 36) (off := 0) (n := 96) (by decide +kernel), m_ga (code := 325783335399765964751058) (c := 39) (off := 0) (n := 4) (by decide +kernel), m_ga (code := 325783335399765964751058) (c := 40) (off := 0) (n := 4) (by decide +kernel)]
theorem f_CNA {h : qH} {x : Int} : a_M q_SP 557 4699308052777509322981 x h = p_CNA (m_ac (m_gh h) 3 0 900) (m_gh h 2 7) (m_gh h 26 0) (m_gh h 26 1) (m_gh h 26 2) (m_gh h 26 3) (m_gh h 26 4) (m_gh h 26 5) (m_gh h 26 6) (m_gh h 25 3) (m_ac (m_gh h) 27 0 6) (m_ac (m_gh h) 28 0 4) (m_ac (m_gh h) 29 0 4) (m_ac (m_gh h) 32 0 96) (m_ac (m_gh h) 35 0 96) (m_ac (m_gh h) 36 0 96) (m_ac (m_gh h) 39 0 4) (m_ac (m_gh h) 40 0 4) x := by
  show p_CNA (m_ac (a_gm q_SP 557 4699308052777509322981 h) 3 0 900) (a_gm q_SP 557 4699308052777509322981 h 2 7) (a_gm q_SP 557 4699308052777509322981 h 26 0) (a_gm q_SP 557 4699308052777509322981 h 26 1) (a_gm q_SP 557 4699308052777509322981 h 26 2) (a_gm q_SP 557 4699308052777509322981 h 26 3) (a_gm q_SP 557 4699308052777509322981 h 26 4) (a_gm q_SP 557 4699308052777509322981 h 26 5) (a_gm q_SP 557 4699308052777509322981 h 26 6) (a_gm q_SP 557 4699308052777509322981 h 25 3) (m_ac (a_gm q_SP 557 4699308052777509322981 h) 27 0 6) (m_ac (a_gm q_SP 557 4699308052777509322981 h) 28 0 4) (m_ac (a_gm q_SP 557 4699308052777509322981 h) 29 0 4) (m_ac (a_gm q_SP 557 4699308052777509322981 h) 32 0 96) (m_ac (a_gm q_SP 557 4699308052777509322981 h) 35 0 96) (m_ac (a_gm q_SP 557 4699308052777509322981 h) 36 0 96) (m_ac (a_gm q_SP 557 4699308052777509322981 h) 39 0 4) (m_ac (a_gm q_SP 557 4699308052777509322981 h) 40 0 4) x = _
  rw [m_ga (code := 4699308052777509322981) (c := 3) (off := 0) (n := 900) (by decide +kernel), m_gs (code := 4699308052777509322981) (c := 2) (j := 7) (by decide +kernel), m_gs (code := 4699308052777509322981) (c := 26) (j := 0) (by decide +kernel), m_gs (code := 4699308052777509322981) (c := 26) (j := 1) (by decide +kernel), m_gs (code := 4699308052777509322981) (c := 26) (j := 2) (by decide +kernel), m_gs (code := 4699308052777509322981) (c := 26) (j := 3) (by decide +kernel), m_gs (code := 4699308052777509322981) (c := 26) (j := 4) (by decide +kernel), m_gs (code := 4699308052777509322981) (c := 26) (j := 5) (by decide +kernel), m_gs (code := 4699308052777509322981) (c := 26) (j := 6) (by decide +kernel), m_gs (code := 4699308052777509322981) (c := 25) (j := 3) (by decide +kernel), m_ga (code := 4699308052777509322981) (c := 27) (off := 0) (n := 6) (by decide +kernel), m_ga (code := 4699308052777509322981) (c := 28) (off := 0) (n := 4) (by decide +kernel), m_ga (code := 4699308052777509322981) (c := 29) (off := 0) (n := 4) (by decide +kernel), m_ga (code := 4699308052777509322981) (c := 32) (off := 0) (n := 96) (by decide +kernel), m_ga (code := 4699308052777509322981) (c := 35) (off := 0) (n := 96) (by decide +kernel), m_ga (code := 4699308052777509322981) (c := 36) (off := 0) (n := 96) (by decide +kernel), m_ga (code := 4699308052777509322981) (c := 39) (off := 0) (n := 4) (by decide +kernel), m_ga (code := 4699308052777509322981) (c := 40) (off := 0) (n := 4) (by decide +kernel)]
theorem f_CN1 {h : qH} {x : Int} : a_M q_SP 557 4699308052777509322963 x h = p_CN1 (m_ac (m_gh h) 3 0 900) (m_gh h 2 7) (m_gh h 26 0) (m_gh h 26 1) (m_gh h 26 2) (m_gh h 26 3) (m_gh h 26 4) (m_gh h 26 5) (m_gh h 26 6) (m_gh h 25 3) (m_ac (m_gh h) 27 0 6) (m_ac (m_gh h) 28 0 4) (m_ac (m_gh h) 29 0 4) (m_ac (m_gh h) 32 0 96) (m_ac (m_gh h) 35 0 96) (m_ac (m_gh h) 36 0 96) (m_ac (m_gh h) 39 0 4) (m_ac (m_gh h) 40 0 4) x := by
  show p_CN1 (m_ac (a_gm q_SP 557 4699308052777509322963 h) 3 0 900) (a_gm q_SP 557 4699308052777509322963 h 2 7) (a_gm q_SP 557 4699308052777509322963 h 26 0) (a_gm q_SP 557 4699308052777509322963 h 26 1) (a_gm q_SP 557 4699308052777509322963 h 26 2) (a_gm q_SP 557 4699308052777509322963 h 26 3) (a_gm q_SP 557 4699308052777509322963 h 26 4) (a_gm q_SP 557 4699308052777509322963 h 26 5) (a_gm q_SP 557 4699308052777509322963 h 26 6) (a_gm q_SP 557 4699308052777509322963 h 25 3) (m_ac (a_gm q_SP 557 4699308052777509322963 h) 27 0 6) (m_ac (a_gm q_SP 557 4699308052777509322963 h) 28 0 4) (m_ac (a_gm q_SP 557 4699308052777509322963 h) 29 0 4) (m_ac (a_gm q_SP 557 4699308052777509322963 h) 32 0 96) (m_ac (a_gm q_SP 557 4699308052777509322963 h) 35 0 96) (m_ac (a_gm q_SP 557 4699308052777509322963 h) 36 0 96) (m_ac (a_gm q_SP 557 4699308052777509322963 h) 39 0 4) (m_ac (a_gm q_SP 557 4699308052777509322963 h) 40 0 4) x = _
  rw [m_ga (code := 4699308052777509322963) (c := 3) (off := 0) (n := 900) (by decide +kernel), m_gs (code := 4699308052777509322963) (c := 2) (j := 7) (by decide +kernel), m_gs (code := 4699308052777509322963) (c := 26) (j := 0) (by decide +kernel), m_gs (code := 4699308052777509322963) (c := 26) (j := 1) (by decide +kernel), m_gs (code := 4699308052777509322963) (c := 26) (j := 2) (by decide +kernel), m_gs (code := 4699308052777509322963) (c := 26) (j := 3) (by decide +kernel), m_gs (code := 4699308052777509322963) (c := 26) (j := 4) (by decide +kernel), m_gs (code := 4699308052777509322963) (c := 26) (j := 5) (by decide +kernel), m_gs (code := 4699308052777509322963) (c := 26) (j := 6) (by decide +kernel), m_gs (code := 4699308052777509322963) (c := 25) (j := 3) (by decide +kernel), m_ga (code := 4699308052777509322963) (c := 27) (off := 0) (n := 6) (by decide +kernel), m_ga (code := 4699308052777509322963) (c := 28) (off := 0) (n := 4) (by decide +kernel), m_ga (code := 4699308052777509322963) (c := 29) (off := 0) (n := 4) (by decide +kernel), m_ga (code := 4699308052777509322963) (c := 32) (off := 0) (n := 96) (by decide +kernel), m_ga (code := 4699308052777509322963) (c := 35) (off := 0) (n := 96) (by decide +kernel), m_ga (code := 4699308052777509322963) (c := 36) (off := 0) (n := 96) (by decide +kernel), m_ga (code := 4699308052777509322963) (c := 39) (off := 0) (n := 4) (by decide +kernel), m_ga (code := 4699308052777509322963) (c := 40) (off := 0) (n := 4) (by decide +kernel)]
theorem f_CN2 {h : qH} {x : Int} : a_M q_SP 557 4699308052777509322964 x h = p_CN2 (m_ac (m_gh h) 3 0 900) (m_gh h 2 7) (m_gh h 26 0) (m_gh h 26 1) (m_gh h 26 2) (m_gh h 26 3) (m_gh h 26 4) (m_gh h 26 5) (m_gh h 26 6) (m_gh h 25 3) (m_ac (m_gh h) 27 0 6) (m_ac (m_gh h) 28 0 4) (m_ac (m_gh h) 29 0 4) (m_ac (m_gh h) 32 0 96) (m_ac (m_gh h) 35 0 96) (m_ac (m_gh h) 36 0 96) (m_ac (m_gh h) 39 0 4) (m_ac (m_gh h) 40 0 4) x := by
  show p_CN2 (m_ac (a_gm q_SP 557 4699308052777509322964 h) 3 0 900) (a_gm q_SP 557 4699308052777509322964 h 2 7) (a_gm q_SP 557 4699308052777509322964 h 26 0) (a_gm q_SP 557 4699308052777509322964 h 26 1) (a_gm q_SP 557 4699308052777509322964 h 26 2) (a_gm q_SP 557 4699308052777509322964 h 26 3) (a_gm q_SP 557 4699308052777509322964 h 26 4) (a_gm q_SP 557 4699308052777509322964 h 26 5) (a_gm q_SP 557 4699308052777509322964 h 26 6) (a_gm q_SP 557 4699308052777509322964 h 25 3) (m_ac (a_gm q_SP 557 4699308052777509322964 h) 27 0 6) (m_ac (a_gm q_SP 557 4699308052777509322964 h) 28 0 4) (m_ac (a_gm q_SP 557 4699308052777509322964 h) 29 0 4) (m_ac (a_gm q_SP 557 4699308052777509322964 h) 32 0 96) (m_ac (a_gm q_SP 557 4699308052777509322964 h) 35 0 96) (m_ac (a_gm q_SP 557 4699308052777509322964 h) 36 0 96) (m_ac (a_gm q_SP 557 4699308052777509322964 h) 39 0 4) (m_ac (a_gm q_SP 557 4699308052777509322964 h) 40 0 4) x = _
  rw [m_ga (code := 4699308052777509322964) (c := 3) (off := 0) (n := 900) (by decide +kernel), m_gs (code := 4699308052777509322964) (c := 2) (j := 7) (by decide +kernel), m_gs (code := 4699308052777509322964) (c := 26) (j := 0) (by decide +kernel), m_gs (code := 4699308052777509322964) (c := 26) (j := 1) (by decide +kernel), m_gs (code := 4699308052777509322964) (c := 26) (j := 2) (by decide +kernel), m_gs (code := 4699308052777509322964) (c := 26) (j := 3) (by decide +kernel), m_gs (code := 4699308052777509322964) (c := 26) (j := 4) (by decide +kernel), m_gs (code := 4699308052777509322964) (c := 26) (j := 5) (by decide +kernel), m_gs (code := 4699308052777509322964) (c := 26) (j := 6) (by decide +kernel), m_gs (code := 4699308052777509322964) (c := 25) (j := 3) (by decide +kernel), m_ga (code := 4699308052777509322964) (c := 27) (off := 0) (n := 6) (by decide +kernel), m_ga (code := 4699308052777509322964) (c := 28) (off := 0) (n := 4) (by decide +kernel), m_ga (code := 4699308052777509322964) (c := 29) (off := 0) (n := 4) (by decide +kernel), m_ga (code := 4699308052777509322964) (c := 32) (off := 0) (n := 96) (by decide +kernel), m_ga (code := 4699308052777509322964) (c := 35) (off := 0) (n := 96) (by decide +kernel), m_ga (code := 4699308052777509322964) (c := 36) (off := 0) (n := 96) (by decide +kernel), m_ga (code := 4699308052777509322964) (c := 39) (off := 0) (n := 4) (by decide +kernel), m_ga (code := 4699308052777509322964) (c := 40) (off := 0) (n := 4) (by decide +kernel)]
theorem f_FR {h : qH} {x : Int} : a_M q_SP 557 590295810358706700503 x h = p_FR (m_ac (m_gh h) 36 0 96) x := by
  show p_FR (m_ac (a_gm q_SP 557 590295810358706700503 h) 36 0 96) x = _
  rw [m_ga (code := 590295810358706700503) (c := 36) (off := 0) (n := 96) (by decide +kernel)]
theorem f_SM {h : qH} {x : Int} : a_M q_SP 557 4611686018428436703 x h = p_SM (m_ac (m_gh h) 3 0 900) x := by
  show p_SM (m_ac (a_gm q_SP 557 4611686018428436703 h) 3 0 900) x = _
  rw [m_ga (code := 4611686018428436703) (c := 3) (off := 0) (n := 900) (by decide +kernel)]
theorem f_SMT {h : qH} {x : Int} : a_M q_SP 557 4611686018428436704 x h = p_SMT (m_ac (m_gh h) 3 0 900) x := by
  show p_SMT (m_ac (a_gm q_SP 557 4611686018428436704 h) 3 0 900) x = _
  rw [m_ga (code := 4611686018428436704) (c := 3) (off := 0) (n := 900) (by decide +kernel)]
theorem f_NSM {h : qH} {x : Int} : a_M q_SP 557 4611686018428436705 x h = p_NSM (m_ac (m_gh h) 3 0 900) x := by
  show p_NSM (m_ac (a_gm q_SP 557 4611686018428436705 h) 3 0 900) x = _
  rw [m_ga (code := 4611686018428436705) (c := 3) (off := 0) (n := 900) (by decide +kernel)]
theorem f_NLR {h : qH} {x : Int} : a_M q_SP 557 1180591620717412352226 x h = p_NLR (m_ac (m_gh h) 40 0 4) x := by
  show p_NLR (m_ac (a_gm q_SP 557 1180591620717412352226 h) 40 0 4) x = _
  rw [m_ga (code := 1180591620717412352226) (c := 40) (off := 0) (n := 4) (by decide +kernel)]
theorem f_NSR {h : qH} {x : Int} : a_M q_SP 557 1180591620717412352227 x h = p_NSR (m_ac (m_gh h) 39 0 4) x := by
  show p_NSR (m_ac (a_gm q_SP 557 1180591620717412352227 h) 39 0 4) x = _
  rw [m_ga (code := 1180591620717412352227) (c := 39) (off := 0) (n := 4) (by decide +kernel)]
theorem f_DN {h : qH} {x : Int} : a_M q_SP 557 1194426678772694515940 x h = p_DN (m_ac (m_gh h) 3 0 900) (m_gh h 2 7) (m_ac (m_gh h) 39 0 4) (m_ac (m_gh h) 40 0 4) x := by
  show p_DN (m_ac (a_gm q_SP 557 1194426678772694515940 h) 3 0 900) (a_gm q_SP 557 1194426678772694515940 h 2 7) (m_ac (a_gm q_SP 557 1194426678772694515940 h) 39 0 4) (m_ac (a_gm q_SP 557 1194426678772694515940 h) 40 0 4) x = _
  rw [m_ga (code := 1194426678772694515940) (c := 3) (off := 0) (n := 900) (by decide +kernel), m_gs (code := 1194426678772694515940) (c := 2) (j := 7) (by decide +kernel), m_ga (code := 1194426678772694515940) (c := 39) (off := 0) (n := 4) (by decide +kernel), m_ga (code := 1194426678772694515940) (c := 40) (off := 0) (n := 4) (by decide +kernel)]
theorem f_FZ35 {h : qH} {x : Int} : a_M q_SP 557 1208925819614629175754992 x h = p_FZ35 (m_ac (m_gh h) 35 0 96) x := by
  show p_FZ35 (m_ac (a_gm q_SP 557 1208925819614629175754992 h) 35 0 96) x = _
  rw [m_ga (code := 1208925819614629175754992) (c := 35) (off := 0) (n := 96) (by decide +kernel)]
theorem f_FZ36 {h : qH} {x : Int} : a_M q_SP 557 2417851639229258350461169 x h = p_FZ36 (m_ac (m_gh h) 36 0 96) x := by
  show p_FZ36 (m_ac (a_gm q_SP 557 2417851639229258350461169 h) 36 0 96) x = _
  rw [m_ga (code := 2417851639229258350461169) (c := 36) (off := 0) (n := 96) (by decide +kernel)]
theorem f_WZ {h : qH} {x : Int} : a_M q_SP 557 4685472994722227159279 x h = p_WZ (m_gh h 26 0) (m_gh h 26 1) (m_gh h 26 2) (m_gh h 26 3) (m_gh h 26 4) (m_gh h 26 5) (m_gh h 26 6) (m_gh h 25 3) (m_ac (m_gh h) 27 0 6) (m_ac (m_gh h) 28 0 4) (m_ac (m_gh h) 29 0 4) (m_ac (m_gh h) 32 0 96) (m_ac (m_gh h) 35 0 96) (m_ac (m_gh h) 36 0 96) (m_ac (m_gh h) 39 0 4) (m_ac (m_gh h) 40 0 4) x := by
  show p_WZ (a_gm q_SP 557 4685472994722227159279 h 26 0) (a_gm q_SP 557 4685472994722227159279 h 26 1) (a_gm q_SP 557 4685472994722227159279 h 26 2) (a_gm q_SP 557 4685472994722227159279 h 26 3) (a_gm q_SP 557 4685472994722227159279 h 26 4) (a_gm q_SP 557 4685472994722227159279 h 26 5) (a_gm q_SP 557 4685472994722227159279 h 26 6) (a_gm q_SP 557 4685472994722227159279 h 25 3) (m_ac (a_gm q_SP 557 4685472994722227159279 h) 27 0 6) (m_ac (a_gm q_SP 557 4685472994722227159279 h) 28 0 4) (m_ac (a_gm q_SP 557 4685472994722227159279 h) 29 0 4) (m_ac (a_gm q_SP 557 4685472994722227159279 h) 32 0 96) (m_ac (a_gm q_SP 557 4685472994722227159279 h) 35 0 96) (m_ac (a_gm q_SP 557 4685472994722227159279 h) 36 0 96) (m_ac (a_gm q_SP 557 4685472994722227159279 h) 39 0 4) (m_ac (a_gm q_SP 557 4685472994722227159279 h) 40 0 4) x = _
  rw [m_gs (code := 4685472994722227159279) (c := 26) (j := 0) (by decide +kernel), m_gs (code := 4685472994722227159279) (c := 26) (j := 1) (by decide +kernel), m_gs (code := 4685472994722227159279) (c := 26) (j := 2) (by decide +kernel), m_gs (code := 4685472994722227159279) (c := 26) (j := 3) (by decide +kernel), m_gs (code := 4685472994722227159279) (c := 26) (j := 4) (by decide +kernel), m_gs (code := 4685472994722227159279) (c := 26) (j := 5) (by decide +kernel), m_gs (code := 4685472994722227159279) (c := 26) (j := 6) (by decide +kernel), m_gs (code := 4685472994722227159279) (c := 25) (j := 3) (by decide +kernel), m_ga (code := 4685472994722227159279) (c := 27) (off := 0) (n := 6) (by decide +kernel), m_ga (code := 4685472994722227159279) (c := 28) (off := 0) (n := 4) (by decide +kernel), m_ga (code := 4685472994722227159279) (c := 29) (off := 0) (n := 4) (by decide +kernel), m_ga (code := 4685472994722227159279) (c := 32) (off := 0) (n := 96) (by decide +kernel), m_ga (code := 4685472994722227159279) (c := 35) (off := 0) (n := 96) (by decide +kernel), m_ga (code := 4685472994722227159279) (c := 36) (off := 0) (n := 96) (by decide +kernel), m_ga (code := 4685472994722227159279) (c := 39) (off := 0) (n := 4) (by decide +kernel), m_ga (code := 4685472994722227159279) (c := 40) (off := 0) (n := 4) (by decide +kernel)]
theorem f_WD {h : qH} {x : Int} : a_M q_SP 557 4699308052777509322990 x h = p_WD (m_ac (m_gh h) 3 0 900) (m_gh h 2 7) (m_gh h 26 0) (m_gh h 26 1) (m_gh h 26 2) (m_gh h 26 3) (m_gh h 26 4) (m_gh h 26 5) (m_gh h 26 6) (m_gh h 25 3) (m_ac (m_gh h) 27 0 6) (m_ac (m_gh h) 28 0 4) (m_ac (m_gh h) 29 0 4) (m_ac (m_gh h) 32 0 96) (m_ac (m_gh h) 35 0 96) (m_ac (m_gh h) 36 0 96) (m_ac (m_gh h) 39 0 4) (m_ac (m_gh h) 40 0 4) x := by
  show p_WD (m_ac (a_gm q_SP 557 4699308052777509322990 h) 3 0 900) (a_gm q_SP 557 4699308052777509322990 h 2 7) (a_gm q_SP 557 4699308052777509322990 h 26 0) (a_gm q_SP 557 4699308052777509322990 h 26 1) (a_gm q_SP 557 4699308052777509322990 h 26 2) (a_gm q_SP 557 4699308052777509322990 h 26 3) (a_gm q_SP 557 4699308052777509322990 h 26 4) (a_gm q_SP 557 4699308052777509322990 h 26 5) (a_gm q_SP 557 4699308052777509322990 h 26 6) (a_gm q_SP 557 4699308052777509322990 h 25 3) (m_ac (a_gm q_SP 557 4699308052777509322990 h) 27 0 6) (m_ac (a_gm q_SP 557 4699308052777509322990 h) 28 0 4) (m_ac (a_gm q_SP 557 4699308052777509322990 h) 29 0 4) (m_ac (a_gm q_SP 557 4699308052777509322990 h) 32 0 96) (m_ac (a_gm q_SP 557 4699308052777509322990 h) 35 0 96) (m_ac (a_gm q_SP 557 4699308052777509322990 h) 36 0 96) (m_ac (a_gm q_SP 557 4699308052777509322990 h) 39 0 4) (m_ac (a_gm q_SP 557 4699308052777509322990 h) 40 0 4) x = _
  rw [m_ga (code := 4699308052777509322990) (c := 3) (off := 0) (n := 900) (by decide +kernel), m_gs (code := 4699308052777509322990) (c := 2) (j := 7) (by decide +kernel), m_gs (code := 4699308052777509322990) (c := 26) (j := 0) (by decide +kernel), m_gs (code := 4699308052777509322990) (c := 26) (j := 1) (by decide +kernel), m_gs (code := 4699308052777509322990) (c := 26) (j := 2) (by decide +kernel), m_gs (code := 4699308052777509322990) (c := 26) (j := 3) (by decide +kernel), m_gs (code := 4699308052777509322990) (c := 26) (j := 4) (by decide +kernel), m_gs (code := 4699308052777509322990) (c := 26) (j := 5) (by decide +kernel), m_gs (code := 4699308052777509322990) (c := 26) (j := 6) (by decide +kernel), m_gs (code := 4699308052777509322990) (c := 25) (j := 3) (by decide +kernel), m_ga (code := 4699308052777509322990) (c := 27) (off := 0) (n := 6) (by decide +kernel), m_ga (code := 4699308052777509322990) (c := 28) (off := 0) (n := 4) (by decide +kernel), m_ga (code := 4699308052777509322990) (c := 29) (off := 0) (n := 4) (by decide +kernel), m_ga (code := 4699308052777509322990) (c := 32) (off := 0) (n := 96) (by decide +kernel), m_ga (code := 4699308052777509322990) (c := 35) (off := 0) (n := 96) (by decide +kernel), m_ga (code := 4699308052777509322990) (c := 36) (off := 0) (n := 96) (by decide +kernel), m_ga (code := 4699308052777509322990) (c := 39) (off := 0) (n := 4) (by decide +kernel), m_ga (code := 4699308052777509322990) (c := 40) (off := 0) (n := 4) (by decide +kernel)]
theorem f_RSW {h : qH} {x : Int} : a_M q_SP 557 13835058055283212594 x h = p_RSW (m_ac (m_gh h) 3 0 900) (m_gh h 2 7) x := by
  show p_RSW (m_ac (a_gm q_SP 557 13835058055283212594 h) 3 0 900) (a_gm q_SP 557 13835058055283212594 h 2 7) x = _
  rw [m_ga (code := 13835058055283212594) (c := 3) (off := 0) (n := 900) (by decide +kernel), m_gs (code := 13835058055283212594) (c := 2) (j := 7) (by decide +kernel)]
theorem f_CFR {h : qH} {x : Int} : a_M q_SP 557 36894789969187438842 x h = p_CFR (m_ac (m_gh h) 538 0 900) (m_gh h 534 9) (m_ac (m_gh h) 539 1440 360) (m_ac (m_gh h) 541 0 4) x := by
  show p_CFR (m_ac (a_gm q_SP 557 36894789969187438842 h) 538 0 900) (a_gm q_SP 557 36894789969187438842 h 534 9) (m_ac (a_gm q_SP 557 36894789969187438842 h) 539 1440 360) (m_ac (a_gm q_SP 557 36894789969187438842 h) 541 0 4) x = _
  rw [m_ga (code := 36894789969187438842) (c := 538) (off := 0) (n := 900) (by decide +kernel), m_gs (code := 36894789969187438842) (c := 534) (j := 9) (by decide +kernel), m_ga (code := 36894789969187438842) (c := 539) (off := 1440) (n := 360) (by decide +kernel), m_ga (code := 36894789969187438842) (c := 541) (off := 0) (n := 4) (by decide +kernel)]
theorem f_RDR {h : qH} {x : Int} : a_M q_SP 557 36894789969187438843 x h = p_RDR (m_ac (m_gh h) 538 0 900) (m_gh h 534 9) (m_ac (m_gh h) 539 1440 360) (m_ac (m_gh h) 541 0 4) x := by
  show p_RDR (m_ac (a_gm q_SP 557 36894789969187438843 h) 538 0 900) (a_gm q_SP 557 36894789969187438843 h 534 9) (m_ac (a_gm q_SP 557 36894789969187438843 h) 539 1440 360) (m_ac (a_gm q_SP 557 36894789969187438843 h) 541 0 4) x = _
  rw [m_ga (code := 36894789969187438843) (c := 538) (off := 0) (n := 900) (by decide +kernel), m_gs (code := 36894789969187438843) (c := 534) (j := 9) (by decide +kernel), m_ga (code := 36894789969187438843) (c := 539) (off := 1440) (n := 360) (by decide +kernel), m_ga (code := 36894789969187438843) (c := 541) (off := 0) (n := 4) (by decide +kernel)]
theorem f_CFP {h : qH} {x : Int} : a_M q_SP 557 36894789969187438844 x h = p_CFP (m_ac (m_gh h) 538 0 900) (m_gh h 534 9) (m_ac (m_gh h) 539 1440 360) (m_ac (m_gh h) 541 0 4) x := by
  show p_CFP (m_ac (a_gm q_SP 557 36894789969187438844 h) 538 0 900) (a_gm q_SP 557 36894789969187438844 h 534 9) (m_ac (a_gm q_SP 557 36894789969187438844 h) 539 1440 360) (m_ac (a_gm q_SP 557 36894789969187438844 h) 541 0 4) x = _
  rw [m_ga (code := 36894789969187438844) (c := 538) (off := 0) (n := 900) (by decide +kernel), m_gs (code := 36894789969187438844) (c := 534) (j := 9) (by decide +kernel), m_ga (code := 36894789969187438844) (c := 539) (off := 1440) (n := 360) (by decide +kernel), m_ga (code := 36894789969187438844) (c := 541) (off := 0) (n := 4) (by decide +kernel)]
theorem f_RDP {h : qH} {x : Int} : a_M q_SP 557 36894789969187438845 x h = p_RDP (m_ac (m_gh h) 538 0 900) (m_gh h 534 9) (m_ac (m_gh h) 539 1440 360) (m_ac (m_gh h) 541 0 4) x := by
  show p_RDP (m_ac (a_gm q_SP 557 36894789969187438845 h) 538 0 900) (a_gm q_SP 557 36894789969187438845 h 534 9) (m_ac (a_gm q_SP 557 36894789969187438845 h) 539 1440 360) (m_ac (a_gm q_SP 557 36894789969187438845 h) 541 0 4) x = _
  rw [m_ga (code := 36894789969187438845) (c := 538) (off := 0) (n := 900) (by decide +kernel), m_gs (code := 36894789969187438845) (c := 534) (j := 9) (by decide +kernel), m_ga (code := 36894789969187438845) (c := 539) (off := 1440) (n := 360) (by decide +kernel), m_ga (code := 36894789969187438845) (c := 541) (off := 0) (n := 4) (by decide +kernel)]
theorem f_CFAR {h : qH} {x : Int} : a_M q_SP 557 36894789969187438846 x h = p_CFAR (m_ac (m_gh h) 538 0 900) (m_gh h 534 9) (m_ac (m_gh h) 539 1440 360) (m_ac (m_gh h) 541 0 4) x := by
  show p_CFAR (m_ac (a_gm q_SP 557 36894789969187438846 h) 538 0 900) (a_gm q_SP 557 36894789969187438846 h 534 9) (m_ac (a_gm q_SP 557 36894789969187438846 h) 539 1440 360) (m_ac (a_gm q_SP 557 36894789969187438846 h) 541 0 4) x = _
  rw [m_ga (code := 36894789969187438846) (c := 538) (off := 0) (n := 900) (by decide +kernel), m_gs (code := 36894789969187438846) (c := 534) (j := 9) (by decide +kernel), m_ga (code := 36894789969187438846) (c := 539) (off := 1440) (n := 360) (by decide +kernel), m_ga (code := 36894789969187438846) (c := 541) (off := 0) (n := 4) (by decide +kernel)]
theorem f_CAR {h : qH} {x : Int} : a_M q_SP 557 36894789969187438847 x h = p_CAR (m_ac (m_gh h) 538 0 900) (m_gh h 534 9) (m_ac (m_gh h) 539 1440 360) (m_ac (m_gh h) 541 0 4) x := by
  show p_CAR (m_ac (a_gm q_SP 557 36894789969187438847 h) 538 0 900) (a_gm q_SP 557 36894789969187438847 h 534 9) (m_ac (a_gm q_SP 557 36894789969187438847 h) 539 1440 360) (m_ac (a_gm q_SP 557 36894789969187438847 h) 541 0 4) x = _
  rw [m_ga (code := 36894789969187438847) (c := 538) (off := 0) (n := 900) (by decide +kernel), m_gs (code := 36894789969187438847) (c := 534) (j := 9) (by decide +kernel), m_ga (code := 36894789969187438847) (c := 539) (off := 1440) (n := 360) (by decide +kernel), m_ga (code := 36894789969187438847) (c := 541) (off := 0) (n := 4) (by decide +kernel)]
theorem f_CBR {h : qH} {x : Int} : a_M q_SP 557 36894789969187438848 x h = p_CBR (m_ac (m_gh h) 538 0 900) (m_gh h 534 9) (m_ac (m_gh h) 539 1440 360) (m_ac (m_gh h) 541 0 4) x := by
  show p_CBR (m_ac (a_gm q_SP 557 36894789969187438848 h) 538 0 900) (a_gm q_SP 557 36894789969187438848 h 534 9) (m_ac (a_gm q_SP 557 36894789969187438848 h) 539 1440 360) (m_ac (a_gm q_SP 557 36894789969187438848 h) 541 0 4) x = _
  rw [m_ga (code := 36894789969187438848) (c := 538) (off := 0) (n := 900) (by decide +kernel), m_gs (code := 36894789969187438848) (c := 534) (j := 9) (by decide +kernel), m_ga (code := 36894789969187438848) (c := 539) (off := 1440) (n := 360) (by decide +kernel), m_ga (code := 36894789969187438848) (c := 541) (off := 0) (n := 4) (by decide +kernel)]
theorem f_LER {h : qH} {x : Int} : a_M q_SP 557 36893523331792240805 x h = p_LER (m_ac (m_gh h) 538 0 900) (m_gh h 534 9) x := by
  show p_LER (m_ac (a_gm q_SP 557 36893523331792240805 h) 538 0 900) (a_gm q_SP 557 36893523331792240805 h 534 9) x = _
  rw [m_ga (code := 36893523331792240805) (c := 538) (off := 0) (n := 900) (by decide +kernel), m_gs (code := 36893523331792240805) (c := 534) (j := 9) (by decide +kernel)]
theorem f_DGR {h : qH} {x : Int} : a_M q_SP 557 36893523331792240806 x h = p_DGR (m_ac (m_gh h) 538 0 900) (m_gh h 534 9) x := by
  show p_DGR (m_ac (a_gm q_SP 557 36893523331792240806 h) 538 0 900) (a_gm q_SP 557 36893523331792240806 h 534 9) x = _
  rw [m_ga (code := 36893523331792240806) (c := 538) (off := 0) (n := 900) (by decide +kernel), m_gs (code := 36893523331792240806) (c := 534) (j := 9) (by decide +kernel)]
theorem f_WDR {h : qH} {x : Int} : a_M q_SP 557 36893523331792240807 x h = p_WDR (m_ac (m_gh h) 538 0 900) (m_gh h 534 9) x := by
  show p_WDR (m_ac (a_gm q_SP 557 36893523331792240807 h) 538 0 900) (a_gm q_SP 557 36893523331792240807 h 534 9) x = _
  rw [m_ga (code := 36893523331792240807) (c := 538) (off := 0) (n := 900) (by decide +kernel), m_gs (code := 36893523331792240807) (c := 534) (j := 9) (by decide +kernel)]
theorem f_TKR {h : qH} {x : Int} : a_M q_SP 557 110680499626630447272 x h = p_TKR (m_ac (m_gh h) 538 0 900) (m_gh h 534 9) (m_gh h 534 14) (m_gh h 534 16) (m_gh h 534 17) (m_gh h 534 18) x := by
  show p_TKR (m_ac (a_gm q_SP 557 110680499626630447272 h) 538 0 900) (a_gm q_SP 557 110680499626630447272 h 534 9) (a_gm q_SP 557 110680499626630447272 h 534 14) (a_gm q_SP 557 110680499626630447272 h 534 16) (a_gm q_SP 557 110680499626630447272 h 534 17) (a_gm q_SP 557 110680499626630447272 h 534 18) x = _
  rw [m_ga (code := 110680499626630447272) (c := 538) (off := 0) (n := 900) (by decide +kernel), m_gs (code := 110680499626630447272) (c := 534) (j := 9) (by decide +kernel), m_gs (code := 110680499626630447272) (c := 534) (j := 14) (by decide +kernel), m_gs (code := 110680499626630447272) (c := 534) (j := 16) (by decide +kernel), m_gs (code := 110680499626630447272) (c := 534) (j := 17) (by decide +kernel), m_gs (code := 110680499626630447272) (c := 534) (j := 18) (by decide +kernel)]
theorem f_CUR {h : qH} {x : Int} : a_M q_SP 557 110680499626630447273 x h = p_CUR (m_ac (m_gh h) 538 0 900) (m_gh h 534 9) (m_gh h 534 14) (m_gh h 534 15) (m_gh h 534 16) (m_gh h 534 17) (m_gh h 534 18) x := by
  show p_CUR (m_ac (a_gm q_SP 557 110680499626630447273 h) 538 0 900) (a_gm q_SP 557 110680499626630447273 h 534 9) (a_gm q_SP 557 110680499626630447273 h 534 14) (a_gm q_SP 557 110680499626630447273 h 534 15) (a_gm q_SP 557 110680499626630447273 h 534 16) (a_gm q_SP 557 110680499626630447273 h 534 17) (a_gm q_SP 557 110680499626630447273 h 534 18) x = _
  rw [m_ga (code := 110680499626630447273) (c := 538) (off := 0) (n := 900) (by decide +kernel), m_gs (code := 110680499626630447273) (c := 534) (j := 9) (by decide +kernel), m_gs (code := 110680499626630447273) (c := 534) (j := 14) (by decide +kernel), m_gs (code := 110680499626630447273) (c := 534) (j := 15) (by decide +kernel), m_gs (code := 110680499626630447273) (c := 534) (j := 16) (by decide +kernel), m_gs (code := 110680499626630447273) (c := 534) (j := 17) (by decide +kernel), m_gs (code := 110680499626630447273) (c := 534) (j := 18) (by decide +kernel)]
theorem f_DNR {h : qH} {x : Int} : a_M q_SP 557 36893664069280596232 x h = p_DNR (m_ac (m_gh h) 538 0 900) (m_gh h 534 9) (m_ac (m_gh h) 541 0 4) x := by
  show p_DNR (m_ac (a_gm q_SP 557 36893664069280596232 h) 538 0 900) (a_gm q_SP 557 36893664069280596232 h 534 9) (m_ac (a_gm q_SP 557 36893664069280596232 h) 541 0 4) x = _
  rw [m_ga (code := 36893664069280596232) (c := 538) (off := 0) (n := 900) (by decide +kernel), m_gs (code := 36893664069280596232) (c := 534) (j := 9) (by decide +kernel), m_ga (code := 36893664069280596232) (c := 541) (off := 0) (n := 4) (by decide +kernel)]
theorem f_WKR {h : qH} {x : Int} : a_M q_SP 557 140737489404169 x h = p_WKR (m_ac (m_gh h) 541 0 4) x := by
  show p_WKR (m_ac (a_gm q_SP 557 140737489404169 h) 541 0 4) x = _
  rw [m_ga (code := 140737489404169) (c := 541) (off := 0) (n := 4) (by decide +kernel)]
theorem f_PSN {h : qH} {x : Int} : a_M q_SP 557 1125899907891466 x h = p_PSN (m_ac (m_gh h) 539 1440 360) x := by
  show p_PSN (m_ac (a_gm q_SP 557 1125899907891466 h) 539 1440 360) x = _
  rw [m_ga (code := 1125899907891466) (c := 539) (off := 1440) (n := 360) (by decide +kernel)]
theorem f_NSN {h : qH} {x : Int} : a_M q_SP 557 1125899907891467 x h = p_NSN (m_ac (m_gh h) 539 1440 360) x := by
  show p_NSN (m_ac (a_gm q_SP 557 1125899907891467 h) 539 1440 360) x = _
  rw [m_ga (code := 1125899907891467) (c := 539) (off := 1440) (n := 360) (by decide +kernel)]
theorem f_LSR {h : qH} {x : Int} : a_M q_SP 557 1125899907891468 x h = p_LSR (m_ac (m_gh h) 539 1440 360) x := by
  show p_LSR (m_ac (a_gm q_SP 557 1125899907891468 h) 539 1440 360) x = _
  rw [m_ga (code := 1125899907891468) (c := 539) (off := 1440) (n := 360) (by decide +kernel)]
theorem f_LDN {h : qH} {x : Int} : a_M q_SP 557 1125899907891481 x h = p_LDN (m_ac (m_gh h) 539 1440 360) x := by
  show p_LDN (m_ac (a_gm q_SP 557 1125899907891481 h) 539 1440 360) x = _
  rw [m_ga (code := 1125899907891481) (c := 539) (off := 1440) (n := 360) (by decide +kernel)]
theorem f_DFR {h : qH} {x : Int} : a_M q_SP 557 1125899907891469 x h = p_DFR (m_ac (m_gh h) 539 1440 360) x := by
  show p_DFR (m_ac (a_gm q_SP 557 1125899907891469 h) 539 1440 360) x = _
  rw [m_ga (code := 1125899907891469) (c := 539) (off := 1440) (n := 360) (by decide +kernel)]
theorem f_ZR {h : qH} {x : Int} : a_M q_SP 557 1125899907891470 x h = p_ZR (m_ac (m_gh h) 539 1440 360) x := by
  show p_ZR (m_ac (a_gm q_SP 557 1125899907891470 h) 539 1440 360) x = _
  rw [m_ga (code := 1125899907891470) (c := 539) (off := 1440) (n := 360) (by decide +kernel)]
theorem f_LDC {h : qH} {x : Int} : a_M q_SP 557 1125899907891483 x h = p_LDC (m_ac (m_gh h) 539 1440 360) x := by
  show p_LDC (m_ac (a_gm q_SP 557 1125899907891483 h) 539 1440 360) x = _
  rw [m_ga (code := 1125899907891483) (c := 539) (off := 1440) (n := 360) (by decide +kernel)]
theorem f_CPW {h : qH} {x : Int} : a_M q_SP 557 1125900427985160 x h = p_CPW (m_ac (m_gh h) 539 0 360) (m_ac (m_gh h) 539 1440 360) x := by
  show p_CPW (m_ac (a_gm q_SP 557 1125900427985160 h) 539 0 360) (m_ac (a_gm q_SP 557 1125900427985160 h) 539 1440 360) x = _
  rw [m_ga (code := 1125900427985160) (c := 539) (off := 0) (n := 360) (by decide +kernel), m_ga (code := 1125900427985160) (c := 539) (off := 1440) (n := 360) (by decide +kernel)]
theorem f_DNW {h : qH} {x : Int} : a_M q_SP 557 36894789969187438874 x h = p_DNW (m_ac (m_gh h) 538 0 900) (m_gh h 534 9) (m_ac (m_gh h) 539 1440 360) (m_ac (m_gh h) 541 0 4) x := by
  show p_DNW (m_ac (a_gm q_SP 557 36894789969187438874 h) 538 0 900) (a_gm q_SP 557 36894789969187438874 h 534 9) (m_ac (a_gm q_SP 557 36894789969187438874 h) 539 1440 360) (m_ac (a_gm q_SP 557 36894789969187438874 h) 541 0 4) x = _
  rw [m_ga (code := 36894789969187438874) (c := 538) (off := 0) (n := 900) (by decide +kernel), m_gs (code := 36894789969187438874) (c := 534) (j := 9) (by decide +kernel), m_ga (code := 36894789969187438874) (c := 539) (off := 1440) (n := 360) (by decide +kernel), m_ga (code := 36894789969187438874) (c := 541) (off := 0) (n := 4) (by decide +kernel)]
theorem f_TB3 {h : qH} {x : Int} : a_M q_SP 557 4611686018428436780 x h = p_TB3 (m_ac (m_gh h) 3 0 900) x := by
  show p_TB3 (m_ac (a_gm q_SP 557 4611686018428436780 h) 3 0 900) x = _
  rw [m_ga (code := 4611686018428436780) (c := 3) (off := 0) (n := 900) (by decide +kernel)]
theorem f_AB3 {h : qH} {x : Int} : a_M q_SP 557 4611686018428436781 x h = p_AB3 (m_ac (m_gh h) 3 0 900) x := by
  show p_AB3 (m_ac (a_gm q_SP 557 4611686018428436781 h) 3 0 900) x = _
  rw [m_ga (code := 4611686018428436781) (c := 3) (off := 0) (n := 900) (by decide +kernel)]
theorem f_TB8 {h : qH} {x : Int} : a_M q_SP 557 35184373137712 x h = p_TB8 (m_ac (m_gh h) 538 0 900) x := by
  show p_TB8 (m_ac (a_gm q_SP 557 35184373137712 h) 538 0 900) x = _
  rw [m_ga (code := 35184373137712) (c := 538) (off := 0) (n := 900) (by decide +kernel)]
theorem f_AB8 {h : qH} {x : Int} : a_M q_SP 557 35184373137713 x h = p_AB8 (m_ac (m_gh h) 538 0 900) x := by
  show p_AB8 (m_ac (a_gm q_SP 557 35184373137713 h) 538 0 900) x = _
  rw [m_ga (code := 35184373137713) (c := 538) (off := 0) (n := 900) (by decide +kernel)]
theorem f_SHR {h : qH} {x : Int} : a_M q_SP 557 1048878 x h = p_SHR  x := by
  show p_SHR  x = _
  rfl
theorem f_CVB {h : qH} {x : Int} : a_M q_SP 557 1048879 x h = p_CVB  x := by
  show p_CVB  x = _
  rfl
