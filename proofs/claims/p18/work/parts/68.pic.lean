-- 68.rules: the rules hold (printed by wip/p5/gen68.py)
noncomputable def m_gh (h : qH) : mG := fun c j => m_int (a_fd h c j)
theorem m_int0 {z : Int} (h1 : -2147483648 ≤ z) (h2 : z < 2147483648) : m_int (0, a_w z) = z := a_qIt h1 h2
theorem m_int3 {z : Int} (h1 : -9223372036854775808 ≤ z) (h2 : z < 9223372036854775808) : m_int (3, a_W z) = z := a_qJt h1 h2
noncomputable def m_cov (D : aW) (c lo hi : Nat) : Bool := match D with
  | [] => false
  | r :: D => (Nat.ble r.1 c && (Nat.ble c r.2.1 && (Nat.ble r.2.2.1 lo && Nat.ble hi r.2.2.2))) || m_cov D c lo hi
theorem m_cov_ok {c lo hi j : Nat} (h1 : lo ≤ j) (h2 : j < hi) : ∀ {D : aW}, m_cov D c lo hi = true → a_inS D c j = true
  | [], h => by cases h
  | r :: D, h => by
    have h : ((Nat.ble r.1 c && (Nat.ble c r.2.1 && (Nat.ble r.2.2.1 lo && Nat.ble hi r.2.2.2))) || m_cov D c lo hi) = true := h
    show ((Nat.ble r.1 c && (Nat.ble c r.2.1 && (Nat.ble r.2.2.1 j && Nat.blt j r.2.2.2))) || a_inS D c j) = true
    rw [Bool.or_eq_true] at h ⊢
    rcases h with h | h
    · simp only [Bool.and_eq_true] at h ⊢
      obtain ⟨g1, g2, g3, g4⟩ := h
      refine Or.inl ⟨g1, g2, Nat.ble_eq_true_of_le (Nat.le_trans (Nat.le_of_ble_eq_true g3) h1), ?_⟩
      rw [q_blt]
      exact decide_eq_true (Nat.lt_of_lt_of_le h2 (Nat.le_of_ble_eq_true g4))
    · exact Or.inr (m_cov_ok h1 h2 h)
theorem m_gs {code c j : Nat} {h : qH} (hb : (Nat.blt c 557 && (Nat.blt j (a_cl q_SP c) && a_inS (a_Md code) c j)) = true) : a_gm q_SP 557 code h c j = m_gh h c j := by
  unfold a_gm
  rw [hb]
  rfl
theorem m_ga {code c off n : Nat} {h : qH} (hb : (Nat.blt c 557 && (Nat.ble (off + n) (a_cl q_SP c) && m_cov (a_Md code) c off (off + n))) = true) : m_ac (a_gm q_SP 557 code h) c off n = m_ac (m_gh h) c off n := by
  simp only [Bool.and_eq_true] at hb
  obtain ⟨h1, h2, h3⟩ := hb
  have h2 := Nat.le_of_ble_eq_true h2
  funext i
  unfold m_ac
  by_cases hi : 0 ≤ i ∧ i < n
  · rw [if_pos hi, if_pos hi]
    refine m_gs ?_
    have h4 : off + i.toNat < off + n := by omega
    rw [h1, q_blt, decide_eq_true (show off + i.toNat < a_cl q_SP c by omega), m_cov_ok (Nat.le_add_right _ _) h4 h3]
    rfl
  · rw [if_neg hi, if_neg hi]
theorem m_cv {P : Int → Prop} {a b : Int} (h : P a) (e : a = b) : P b := e ▸ h
theorem m_Rp {h : qH} {x : Nat → Int} {code a b : Nat} {F : aF} (hz : Nat.beq code 0 = false) (hp : a_Rp q_SP 557 h x (code, a, b, F)) : a_M q_SP 557 code (a_ev x F) h := by
  unfold a_Rp at hp
  rw [q_beq] at hz
  rw [if_neg (of_decide_eq_false hz)] at hp
  exact hp
theorem m_Rv {h : qH} {x : Nat → Int} {c j : Nat} {F : aF} (hl : Nat.blt j (a_cl q_SP c) = true) (hp : a_Rp q_SP 557 h x (0, c, j, F)) : a_ev x F = m_gh h c j := by
  rw [q_blt] at hl
  have hp : j < a_cl q_SP c → a_fd h c j = (0, a_w (a_ev x F)) ∧ -2147483648 ≤ a_ev x F ∧ a_ev x F < 2147483648 := hp
  obtain ⟨h1, h2, h3⟩ := hp (of_decide_eq_true hl)
  show a_ev x F = m_int (a_fd h c j)
  rw [h1, m_int0 h2 h3]
theorem m_Rcf {h : qH} {x : Nat → Int} {code : Nat} {F : aF} (hz : Nat.beq code 0 = false) (hp : a_M q_SP 557 code (a_ev x F) h) : a_Rc q_SP 557 h x code F := by
  unfold a_Rc
  rw [q_beq] at hz
  rw [if_neg (of_decide_eq_false hz)]
  exact hp
theorem m_Rcs {h : qH} {x : Nat → Int} {F : aF} (hp : 0 ≤ a_ev x F) : a_Rc q_SP 557 h x 0 F := hp
-- the picture in numbers
theorem m_pic0 {h : qH} (hh : a_HI q_SP 557 h) {c j : Nat} {lo hi : Int} (hc : c < 557) (hj : j < a_cl q_SP c) (ht : a_ct q_SP c j = (0, lo, hi)) (h1 : -2147483648 ≤ lo) (h2 : hi < 2147483648) : lo ≤ m_gh h c j ∧ m_gh h c j ≤ hi := by
  have hv := (hh.2.2 c hc).2.2 j hj
  rw [ht] at hv
  obtain ⟨z, hz, z1, z2⟩ := (show ∃ z : Int, a_fd h c j = (0, a_w z) ∧ lo ≤ z ∧ z ≤ hi from hv)
  have e : m_gh h c j = z := by
    show m_int (a_fd h c j) = z
    rw [hz, m_int0 (by omega) (by omega)]
  rw [e]
  exact ⟨z1, z2⟩
theorem m_pic1 {h : qH} (hh : a_HI q_SP 557 h) {c j : Nat} {lo hi : Int} (hc : c < 557) (hj : j < a_cl q_SP c) (ht : a_ct q_SP c j = (1, lo, hi)) (h1 : -9223372036854775808 ≤ lo) (h2 : hi < 9223372036854775808) : lo ≤ m_gh h c j ∧ m_gh h c j ≤ hi := by
  have hv := (hh.2.2 c hc).2.2 j hj
  rw [ht] at hv
  obtain ⟨z, hz, z1, z2⟩ := (show ∃ z : Int, a_fd h c j = (3, a_W z) ∧ lo ≤ z ∧ z ≤ hi from hv)
  have e : m_gh h c j = z := by
    show m_int (a_fd h c j) = z
    rw [hz, m_int3 (by omega) (by omega)]
  rw [e]
  exact ⟨z1, z2⟩
noncomputable def m_teq (t : aT) (k : Nat) (lo hi : Int) : Bool := Nat.beq t.1 k && (a_iz (t.2.1 - lo) && a_iz (t.2.2 - hi))
noncomputable def m_chk (c off k : Nat) (lo hi : Int) : Nat → Bool
  | 0 => true
  | n + 1 => m_chk c off k lo hi n && m_teq (a_ct q_SP c (off + n)) k lo hi
theorem m_chk_ok {c off k : Nat} {lo hi : Int} : ∀ {n i : Nat}, m_chk c off k lo hi n = true → i < n → a_ct q_SP c (off + i) = (k, lo, hi)
  | 0, i, _, h => by omega
  | n + 1, i, hk, h => by
    have hk : (m_chk c off k lo hi n && m_teq (a_ct q_SP c (off + n)) k lo hi) = true := hk
    rw [Bool.and_eq_true] at hk
    by_cases e : i = n
    · subst e
      have h2 := hk.2
      unfold m_teq at h2
      simp only [Bool.and_eq_true] at h2
      obtain ⟨g1, g2, g3⟩ := h2
      have g1 := Nat.eq_of_beq_eq_true g1
      have g2 := a_iz_ok g2
      have g3 := a_iz_ok g3
      generalize a_ct q_SP c (off + i) = t at g1 g2 g3 ⊢
      obtain ⟨t1, t2, t3⟩ := t
      have g1 : t1 = k := g1
      have g2 : t2 - lo = 0 := g2
      have g3 : t3 - hi = 0 := g3
      rw [g1, show t2 = lo by omega, show t3 = hi by omega]
    · exact m_chk_ok hk.1 (by omega)
theorem m_rng0 {h : qH} (hh : a_HI q_SP 557 h) {c off n : Nat} {lo hi : Int} (hb : (Nat.blt c 557 && (Nat.ble (off + n) (a_cl q_SP c) && m_chk c off 0 lo hi n)) = true) (h0 : -2147483648 ≤ lo ∧ lo ≤ 0 ∧ 0 ≤ hi ∧ hi < 2147483648) : ∀ i, lo ≤ m_ac (m_gh h) c off n i ∧ m_ac (m_gh h) c off n i ≤ hi := fun i => by
  simp only [Bool.and_eq_true] at hb
  obtain ⟨h1, h2, h3⟩ := hb
  have h2 := Nat.le_of_ble_eq_true h2
  rw [q_blt] at h1
  unfold m_ac
  by_cases hi : 0 ≤ i ∧ i < n
  · rw [if_pos hi]
    exact m_pic0 hh (of_decide_eq_true h1) (by omega) (m_chk_ok h3 (by omega)) h0.1 h0.2.2.2
  · rw [if_neg hi]
    exact ⟨h0.2.1, h0.2.2.1⟩
theorem m_rng1 {h : qH} (hh : a_HI q_SP 557 h) {c off n : Nat} {lo hi : Int} (hb : (Nat.blt c 557 && (Nat.ble (off + n) (a_cl q_SP c) && m_chk c off 1 lo hi n)) = true) (h0 : -9223372036854775808 ≤ lo ∧ lo ≤ 0 ∧ 0 ≤ hi ∧ hi < 9223372036854775808) : ∀ i, lo ≤ m_ac (m_gh h) c off n i ∧ m_ac (m_gh h) c off n i ≤ hi := fun i => by
  simp only [Bool.and_eq_true] at hb
  obtain ⟨h1, h2, h3⟩ := hb
  have h2 := Nat.le_of_ble_eq_true h2
  rw [q_blt] at h1
  unfold m_ac
  by_cases hi : 0 ≤ i ∧ i < n
  · rw [if_pos hi]
    exact m_pic1 hh (of_decide_eq_true h1) (by omega) (m_chk_ok h3 (by omega)) h0.1 h0.2.2.2
  · rw [if_neg hi]
    exact ⟨h0.2.1, h0.2.2.1⟩
theorem m_sc0 {h : qH} (hh : a_HI q_SP 557 h) {c j : Nat} {lo hi : Int} (hb : (Nat.blt c 557 && (Nat.ble (j + 1) (a_cl q_SP c) && m_chk c j 0 lo hi 1)) = true) (h0 : -2147483648 ≤ lo ∧ hi < 2147483648) : lo ≤ m_gh h c j ∧ m_gh h c j ≤ hi := by
  simp only [Bool.and_eq_true] at hb
  obtain ⟨h1, h2, h3⟩ := hb
  have h2 := Nat.le_of_ble_eq_true h2
  rw [q_blt] at h1
  exact m_pic0 hh (of_decide_eq_true h1) (by omega) (m_chk_ok (i := 0) h3 (by omega)) h0.1 h0.2
-- another heap, one place changed
noncomputable def m_one (h h' : qH) (c j : Nat) (v : qV) : Prop := ∀ i q, i < 557 → q < a_cl q_SP i → a_fd h' i q = if i = c ∧ q = j then v else a_fd h i q
theorem m_us {h h' : qH} {c j : Nat} {v : qV} (h1 : m_one h h' c j v) {d q : Nat} (hb : (Nat.blt d 557 && (Nat.blt q (a_cl q_SP d) && !(Nat.beq d c))) = true) : m_gh h' d q = m_gh h d q := by
  simp only [Bool.and_eq_true, q_blt, decide_eq_true_eq, q_beq, Bool.not_eq_true', decide_eq_false_iff_not] at hb
  show m_int (a_fd h' d q) = m_int (a_fd h d q)
  rw [h1 d q hb.1 hb.2.1, if_neg (fun e => hb.2.2 e.1)]
theorem m_ua {h h' : qH} {c j : Nat} {v : qV} (h1 : m_one h h' c j v) {d off n : Nat} (hb : (Nat.blt d 557 && (Nat.ble (off + n) (a_cl q_SP d) && !(Nat.beq d c))) = true) : m_ac (m_gh h') d off n = m_ac (m_gh h) d off n := by
  simp only [Bool.and_eq_true] at hb
  obtain ⟨h2, h3, h4⟩ := hb
  have h3 := Nat.le_of_ble_eq_true h3
  funext i
  unfold m_ac
  by_cases hi : 0 ≤ i ∧ i < n
  · rw [if_pos hi, if_pos hi]
    refine m_us h1 ?_
    rw [h2, q_blt, decide_eq_true (show off + i.toNat < a_cl q_SP d by omega), h4]
    rfl
  · rw [if_neg hi, if_neg hi]
theorem m_uc {h h' : qH} {c : Nat} {v : qV} {i z : Int} (h1 : m_one h h' c i.toNat v) (hv : m_int v = z) {n : Nat} (hb : (Nat.blt c 557 && Nat.ble n (a_cl q_SP c)) = true) (i1 : 0 ≤ i) (i2 : i < n) : m_ac (m_gh h') c 0 n = m_up (m_ac (m_gh h) c 0 n) i z := by
  simp only [Bool.and_eq_true] at hb
  obtain ⟨h2, h3⟩ := hb
  rw [q_blt] at h2
  have h3 := Nat.le_of_ble_eq_true h3
  funext j
  unfold m_ac m_up
  by_cases hi : 0 ≤ j ∧ j < n
  · rw [if_pos hi]
    show m_int (a_fd h' c (0 + j.toNat)) = _
    rw [h1 c (0 + j.toNat) (of_decide_eq_true h2) (by omega)]
    by_cases e : j = i
    · rw [if_pos e, if_pos ⟨rfl, by omega⟩]
      exact hv
    · rw [if_neg e, if_neg (fun q => e (by omega))]
      exact (if_pos hi).symm
  · rw [if_neg hi, if_neg (by omega)]
    exact (if_neg hi).symm
theorem m_z0 {h : qH} {c off n : Nat} {i z : Int} (i1 : 0 ≤ i) (hz : m_gh h c i.toNat = z) : 0 ≤ i - off → i - off < n → m_ac (m_gh h) c off n (i - off) = z := fun h1 h2 => by
  unfold m_ac
  rw [if_pos ⟨h1, h2⟩, show off + (i - (off : Int)).toNat = i.toNat by omega]
  exact hz
-- a row copied
noncomputable def m_cpd (h h' : qH) (c d : Nat) (s t n : Int) : Prop := ∀ i q, i < 557 → q < a_cl q_SP i → a_fd h' i q = if i = d ∧ t.toNat ≤ q ∧ q < t.toNat + n.toNat then a_fd h c (s.toNat + (q - t.toNat)) else a_fd h i q
theorem m_ca {h h' : qH} {c e : Nat} {s t m : Int} (h1 : m_cpd h h' c e s t m) {d off n : Nat} (hb : (Nat.blt d 557 && (Nat.ble (off + n) (a_cl q_SP d) && !(Nat.beq d e))) = true) : m_ac (m_gh h') d off n = m_ac (m_gh h) d off n := by
  simp only [Bool.and_eq_true, q_blt, decide_eq_true_eq, q_beq, Bool.not_eq_true', decide_eq_false_iff_not] at hb
  obtain ⟨h2, h3, h4⟩ := hb
  have h3 := Nat.le_of_ble_eq_true h3
  funext i
  unfold m_ac
  by_cases hi : 0 ≤ i ∧ i < n
  · rw [if_pos hi, if_pos hi]
    show m_int (a_fd h' d (off + i.toNat)) = m_int (a_fd h d (off + i.toNat))
    rw [h1 d (off + i.toNat) h2 (by omega), if_neg (fun z => h4 z.1)]
  · rw [if_neg hi, if_neg hi]
theorem m_cc {h h' : qH} {c d : Nat} {s t m : Int} (h1 : m_cpd h h' c d s t m) {n : Nat} (hb : (Nat.blt d 557 && Nat.beq (a_cl q_SP d) n) = true) (hb2 : Nat.beq (a_cl q_SP c) n = true) (i1 : 0 ≤ s) (i2 : 0 ≤ t) (i3 : 0 ≤ m) (l1 : s + m ≤ a_cl q_SP c) (l2 : t + m ≤ a_cl q_SP d) : m_ac (m_gh h') d 0 n = m_cpx (m_ac (m_gh h) c 0 n) (m_ac (m_gh h) d 0 n) s t m := by
  simp only [Bool.and_eq_true] at hb
  obtain ⟨h2, h3⟩ := hb
  rw [q_blt] at h2
  have h2 := of_decide_eq_true h2
  have h3 := Nat.eq_of_beq_eq_true h3
  have h4 := Nat.eq_of_beq_eq_true hb2
  rw [h4] at l1
  rw [h3] at l2
  funext j
  unfold m_cpx
  by_cases e : t ≤ j ∧ j < t + m
  · rw [if_pos e]
    unfold m_ac
    rw [if_pos (show 0 ≤ j ∧ j < n by omega), if_pos (show 0 ≤ s + (j - t) ∧ s + (j - t) < n by omega)]
    show m_int (a_fd h' d (0 + j.toNat)) = m_int (a_fd h c (0 + (s + (j - t)).toNat))
    rw [h1 d (0 + j.toNat) h2 (by omega), if_pos ⟨rfl, by omega, by omega⟩]
    rw [show s.toNat + (0 + j.toNat - t.toNat) = 0 + (s + (j - t)).toNat by omega]
  · rw [if_neg e]
    unfold m_ac
    by_cases hi : 0 ≤ j ∧ j < n
    · rw [if_pos hi, if_pos hi]
      show m_int (a_fd h' d (0 + j.toNat)) = m_int (a_fd h d (0 + j.toNat))
      rw [h1 d (0 + j.toNat) h2 (by omega), if_neg (fun z => e (by omega))]
    · rw [if_neg hi, if_neg hi]
-- cut numbers
theorem m_c71 {a b : Int} (hv : (1 : Nat) = 1 ∧ -9223372036854775808 ≤ a ∧ a < 9223372036854775808 ∧ a_w b = qNn (qJ (a_W a)).toInt32 ∨ (1 : Nat) ≠ 1 ∧ -2147483648 ≤ a ∧ a < 2147483648 ∧ (0, a_w b) = q_s6v 1 (0, a_w a)) (v1 : -2147483648 ≤ b) (v2 : b < 2147483648) : b = m_w32 a := by
  rcases hv with ⟨-, h1, h2, h3⟩ | ⟨h, -⟩
  · have h4 := congrArg (fun n => (qI n).toInt) h3
    have h4 : (qI (a_w b)).toInt = (qI (qNn (qJ (a_W a)).toInt32)).toInt := h4
    rw [qI_N, a_qIt v1 v2, Int64.toInt_toInt32, a_qJt h1 h2, Int.bmod_def] at h4
    unfold m_w32
    omega
  · exact absurd rfl h
theorem m_c72 {a b : Int} (hv : (2 : Nat) = 1 ∧ -9223372036854775808 ≤ a ∧ a < 9223372036854775808 ∧ a_w b = qNn (qJ (a_W a)).toInt32 ∨ (2 : Nat) ≠ 1 ∧ -2147483648 ≤ a ∧ a < 2147483648 ∧ (0, a_w b) = q_s6v 2 (0, a_w a)) (v1 : -2147483648 ≤ b) (v2 : b < 2147483648) : b = m_w8 a := by
  rcases hv with ⟨h, -⟩ | ⟨-, h1, h2, h3⟩
  · exact absurd h (by decide)
  · have h3 : a_w b = qNn (qI (a_w a)).toInt8.toInt32 := congrArg Prod.snd h3
    have h4 := congrArg (fun n => (qI n).toInt) h3
    have h4 : (qI (a_w b)).toInt = (qI (qNn (qI (a_w a)).toInt8.toInt32)).toInt := h4
    rw [qI_N, a_qIt v1 v2, Int8.toInt_toInt32, Int32.toInt_toInt8, a_qIt h1 h2, Int.bmod_def] at h4
    unfold m_w8
    omega
theorem m_c73 {a b : Int} (hv : (3 : Nat) = 1 ∧ -9223372036854775808 ≤ a ∧ a < 9223372036854775808 ∧ a_w b = qNn (qJ (a_W a)).toInt32 ∨ (3 : Nat) ≠ 1 ∧ -2147483648 ≤ a ∧ a < 2147483648 ∧ (0, a_w b) = q_s6v 3 (0, a_w a)) (v1 : -2147483648 ≤ b) (v2 : b < 2147483648) : b = m_w16 a := by
  rcases hv with ⟨h, -⟩ | ⟨-, h1, h2, h3⟩
  · exact absurd h (by decide)
  · have h3 : a_w b = qNn (qI (a_w a)).toInt16.toInt32 := congrArg Prod.snd h3
    have h4 := congrArg (fun n => (qI n).toInt) h3
    have h4 : (qI (a_w b)).toInt = (qI (qNn (qI (a_w a)).toInt16.toInt32)).toInt := h4
    rw [qI_N, a_qIt v1 v2, Int16.toInt_toInt32, Int32.toInt_toInt16, a_qIt h1 h2, Int.bmod_def] at h4
    unfold m_w16
    omega
-- the machine's arithmetic, in numbers
theorem m_b32 (z : Int) : z.bmod (2 ^ 32) = m_w32 z := by
  rw [Int.bmod_def]
  unfold m_w32
  omega
theorem m_f4 {op : Nat} {a b y : Int} (v1 : -2147483648 ≤ y) (v2 : y < 2147483648) (hv : a_w y = qNn (q_f4 op (qI (a_w a)) (qI (a_w b)))) : y = (q_f4 op (qI (a_w a)) (qI (a_w b))).toInt := by
  have h4 := congrArg (fun n => (qI n).toInt) hv
  have h4 : (qI (a_w y)).toInt = (qI (qNn (q_f4 op (qI (a_w a)) (qI (a_w b))))).toInt := h4
  rw [qI_N, a_qIt v1 v2] at h4
  exact h4
theorem m_o60 {a b y : Int} (a1 : -2147483648 ≤ a) (a2 : a < 2147483648) (b1 : -2147483648 ≤ b) (b2 : b < 2147483648) (v1 : -2147483648 ≤ y) (v2 : y < 2147483648) (hv : a_w y = qNn (q_f4 0 (qI (a_w a)) (qI (a_w b)))) : y = m_w32 (a + b) := by
  have h := m_f4 v1 v2 hv
  have h : y = (qI (a_w a) + qI (a_w b)).toInt := h
  rw [Int32.toInt_add, a_qIt a1 a2, a_qIt b1 b2, m_b32] at h
  exact h
theorem m_o61 {a b y : Int} (a1 : -2147483648 ≤ a) (a2 : a < 2147483648) (b1 : -2147483648 ≤ b) (b2 : b < 2147483648) (v1 : -2147483648 ≤ y) (v2 : y < 2147483648) (hv : a_w y = qNn (q_f4 1 (qI (a_w a)) (qI (a_w b)))) : y = m_w32 (a - b) := by
  have h := m_f4 v1 v2 hv
  have h : y = (qI (a_w a) - qI (a_w b)).toInt := h
  rw [Int32.toInt_sub, a_qIt a1 a2, a_qIt b1 b2, m_b32] at h
  exact h
theorem m_o62 {a b y : Int} (a1 : -2147483648 ≤ a) (a2 : a < 2147483648) (b1 : -2147483648 ≤ b) (b2 : b < 2147483648) (v1 : -2147483648 ≤ y) (v2 : y < 2147483648) (hv : a_w y = qNn (q_f4 2 (qI (a_w a)) (qI (a_w b)))) : y = m_w32 (a * b) := by
  have h := m_f4 v1 v2 hv
  have h : y = (qI (a_w a) * qI (a_w b)).toInt := h
  rw [Int32.toInt_mul, a_qIt a1 a2, a_qIt b1 b2, m_b32] at h
  exact h
theorem m_shr (w k : Int32) (n : Nat) (h : (k &&& 31).toBitVec.smod 32 = BitVec.ofNat 32 n) (hn : n < 32) : (w >>> (k &&& 31)).toInt = w.toInt / ((2 ^ n : Nat) : Int) := by
  rw [← Int32.toInt_toBitVec, Int32.toBitVec_shiftRight, h]
  show (w.toBitVec.sshiftRight (BitVec.ofNat 32 n).toNat).toInt = _
  rw [BitVec.toInt_sshiftRight, BitVec.toNat_ofNat, Nat.mod_eq_of_lt (by omega), Int.shiftRight_eq_div_pow, Int32.toInt_toBitVec]
theorem m_and255 (w : Int32) : (w &&& 255).toInt = w.toInt % 256 := by
  rw [← Int32.toInt_toBitVec, ← Int32.toInt_toBitVec, Int32.toBitVec_and]
  generalize w.toBitVec = v
  have h : (Int32.toBitVec 255) = (255 : BitVec 32) := rfl
  have h1 : (v &&& Int32.toBitVec 255).toNat = v.toNat % 256 := by
    rw [h, BitVec.toNat_and]
    exact Nat.and_two_pow_sub_one_eq_mod v.toNat 8
  rw [BitVec.toInt_eq_toNat_bmod, BitVec.toInt_eq_toNat_bmod, h1, Int.bmod_def, Int.bmod_def]
  omega
theorem m_i32 {w : Int32} {b : Int} (h : w.toInt = b) (k : Int32) (hk : k.toInt = b) : w = k := Int32.toInt_inj.mp (h.trans hk.symm)
theorem m_o63 {a b y : Int} (a1 : -2147483648 ≤ a) (a2 : a < 2147483648) (b1 : -2147483648 ≤ b) (b2 : b < 2147483648) (v1 : -2147483648 ≤ y) (v2 : y < 2147483648) (hv : a_w y = qNn (q_f4 3 (qI (a_w a)) (qI (a_w b)))) : b = 255 → y = a % 256 := by
  intro e
  have h := m_f4 v1 v2 hv
  have h : y = (qI (a_w a) &&& qI (a_w b)).toInt := h
  have ha := a_qIt a1 a2
  have hb := m_i32 (a_qIt b1 b2) 255 (by rw [e]; decide)
  rw [hb] at h
  generalize qI (a_w a) = w at h ha
  have key : (w &&& 255).toInt = w.toInt % 256 := m_and255 w
  rw [h, key, ha]
theorem m_o67 {a b y : Int} (a1 : -2147483648 ≤ a) (a2 : a < 2147483648) (b1 : -2147483648 ≤ b) (b2 : b < 2147483648) (v1 : -2147483648 ≤ y) (v2 : y < 2147483648) (hv : a_w y = qNn (q_f4 7 (qI (a_w a)) (qI (a_w b)))) : (b = 0 → y = a) ∧ (b = 8 → y = a / 256) ∧ (b = 16 → y = a / 65536) ∧ (b = 24 → y = a / 16777216) := by
  have h := m_f4 v1 v2 hv
  have h : y = (qI (a_w a) >>> (qI (a_w b) &&& 31)).toInt := h
  have ha := a_qIt a1 a2
  have hb := a_qIt b1 b2
  generalize qI (a_w a) = w at h ha
  refine ⟨fun e => ?_, fun e => ?_, fun e => ?_, fun e => ?_⟩
  · rw [m_i32 hb 0 (by rw [e]; decide), m_shr w 0 0 (by decide) (by decide)] at h
    rw [h, ha]; omega
  · rw [m_i32 hb 8 (by rw [e]; decide), m_shr w 8 8 (by decide) (by decide)] at h
    rw [h, ha]; rfl
  · rw [m_i32 hb 16 (by rw [e]; decide), m_shr w 16 16 (by decide) (by decide)] at h
    rw [h, ha]; rfl
  · rw [m_i32 hb 24 (by rw [e]; decide), m_shr w 24 24 (by decide) (by decide)] at h
    rw [h, ha]; rfl
theorem m_ucx {h h' : qH} {c off : Nat} {v : qV} {i z : Int} (h1 : m_one h h' c i.toNat v) (hv : m_int v = z) {n : Nat} (hb : (Nat.blt c 557 && Nat.ble (off + n) (a_cl q_SP c)) = true) (i1 : 0 ≤ i) : m_ac (m_gh h') c off n = m_upo off n (m_ac (m_gh h) c off n) i z := by
  simp only [Bool.and_eq_true] at hb
  obtain ⟨h2, h3⟩ := hb
  rw [q_blt] at h2
  have h3 := Nat.le_of_ble_eq_true h3
  funext j
  unfold m_ac
  by_cases hj : 0 ≤ j ∧ j < n
  · rw [if_pos hj]
    show m_int (a_fd h' c (off + j.toNat)) = _
    rw [h1 c (off + j.toNat) (of_decide_eq_true h2) (by omega)]
    by_cases e : off + j.toNat = i.toNat
    · rw [if_pos ⟨rfl, e⟩, m_upo_e (p := i - off) rfl (by omega) (by omega), m_up_at (by omega)]
      exact hv
    · rw [if_neg (fun q => e q.2)]
      by_cases e2 : 0 ≤ i - off ∧ i - off < n
      · rw [m_upo_e (p := i - off) rfl e2.1 e2.2, m_up_ne (by omega), if_pos hj]
        rfl
      · rw [m_upo_n (by omega), if_pos hj]
        rfl
  · rw [if_neg hj]
    by_cases e2 : 0 ≤ i - off ∧ i - off < n
    · rw [m_upo_e (p := i - off) rfl e2.1 e2.2, m_up_ne (by omega), if_neg hj]
    · rw [m_upo_n (by omega), if_neg hj]
theorem m_lnk {g : mG} {c o n o2 n2 d : Nat} (h1 : o = o2 + d) (h2 : d + n ≤ n2) : ∀ i : Int, 0 ≤ i → i < (n : Int) → m_ac g c o n i = m_ac g c o2 n2 ((d : Int) + i) := by
  intro i a b
  unfold m_ac
  rw [if_pos ⟨a, b⟩, if_pos (by omega), show o + i.toNat = o2 + ((d : Int) + i).toNat by omega]
-- a rule's wrapping, the short way
noncomputable def m_al {α : Type} (P : α → Prop) (l : List α) : Prop := @List.rec α (fun _ => Prop) True (fun a _ ih => P a ∧ ih) l
theorem m_al_of {α : Type} {P : α → Prop} : ∀ {l : List α}, (∀ a ∈ l, P a) → m_al P l
  | [], _ => trivial
  | a :: _, h => ⟨h a List.mem_cons_self, m_al_of fun b hb => h b (List.mem_cons_of_mem _ hb)⟩
/-- a sum, as it is said in the rules' heads -/
noncomputable def m_tm (x : Nat → Int) (q : Nat × Int) : Int := @Int.rec (fun _ => Int) (fun n => @Bool.rec (fun _ => Int) (q.2 * x q.1) (x q.1) (Nat.beq n 1)) (fun _ => q.2 * x q.1) q.2
theorem m_tm_ev (x : Nat → Int) (q : Nat × Int) : m_tm x q = q.2 * x q.1 := by
  obtain ⟨i, c⟩ := q
  cases c with
  | negSucc n => rfl
  | ofNat n =>
    show @Bool.rec (fun _ => Int) (Int.ofNat n * x i) (x i) (Nat.beq n 1) = Int.ofNat n * x i
    cases hb : Nat.beq n 1 with
    | false => rfl
    | true =>
      have e := Nat.eq_of_beq_eq_true hb
      subst e
      exact (Int.one_mul (x i)).symm
noncomputable def m_el (x : Nat → Int) (l : List (Nat × Int)) : Int → Int := @List.rec (Nat × Int) (fun _ => Int → Int) (fun a => a) (fun q _ ih a => ih (a + m_tm x q)) l
theorem m_el_ev (x : Nat → Int) : ∀ (l : List (Nat × Int)) (a : Int), m_el x l a = a + a_evl x l
  | [], a => (Int.add_zero a).symm
  | q :: l, a => by
    show m_el x l (a + m_tm x q) = a + (q.2 * x q.1 + a_evl x l)
    rw [m_el_ev x l, m_tm_ev, Int.add_assoc]
noncomputable def m_ec (a c : Int) : Int := @Int.rec (fun _ => Int) (fun n => @Bool.rec (fun _ => Int) (a + c) a (Nat.beq n 0)) (fun _ => a + c) c
theorem m_ec_ev (a c : Int) : m_ec a c = a + c := by
  cases c with
  | negSucc n => rfl
  | ofNat n =>
    show @Bool.rec (fun _ => Int) (a + Int.ofNat n) a (Nat.beq n 0) = a + Int.ofNat n
    cases hb : Nat.beq n 0 with
    | false => rfl
    | true =>
      have e := Nat.eq_of_beq_eq_true hb
      subst e
      exact (Int.add_zero a).symm
noncomputable def m_ep (x : Nat → Int) (f : aF) : Int := @List.rec (Nat × Int) (fun _ => Int) f.2 (fun q l _ => m_ec (m_el x l (m_tm x q)) f.2) f.1
theorem m_ep_ev (x : Nat → Int) (f : aF) : m_ep x f = a_ev x f := by
  obtain ⟨l, c⟩ := f
  cases l with
  | nil => exact (Int.zero_add c).symm
  | cons q l =>
    show m_ec (m_el x l (m_tm x q)) c = q.2 * x q.1 + a_evl x l + c
    rw [m_ec_ev, m_el_ev, m_tm_ev]
theorem m_hcs {x : Nat → Int} {l : List aF} (h : ∀ f ∈ l, 0 ≤ a_ev x f) : m_al (fun f => 0 ≤ m_ep x f) l := m_al_of fun f hf => m_ep_ev x f ▸ h f hf
theorem m_gR {h : qH} {x : Nat → Int} {code a b : Nat} {F : aF} (hz : Nat.beq code 0 = false) (hp : a_Rp q_SP 557 h x (code, a, b, F)) : a_M q_SP 557 code (m_ep x F) h := m_ep_ev x F ▸ m_Rp hz hp
theorem m_gV {h : qH} {x : Nat → Int} {c j : Nat} {F : aF} (hl : Nat.blt j (a_cl q_SP c) = true) (hp : a_Rp q_SP 557 h x (0, c, j, F)) : m_ep x F = m_gh h c j := (m_ep_ev x F).trans (m_Rv hl hp)
theorem m_eR {h : qH} {x : Nat → Int} {code : Nat} {F : aF} (hz : Nat.beq code 0 = false) (hp : a_M q_SP 557 code (m_ep x F) h) : a_Rc q_SP 557 h x code F := m_Rcf hz (m_ep_ev x F ▸ hp)
theorem m_eS {h : qH} {x : Nat → Int} {F : aF} (hp : 0 ≤ m_ep x F) : a_Rc q_SP 557 h x 0 F := m_Rcs (m_ep_ev x F ▸ hp)
theorem m_mk0 {r : aRl} (e : r.1 = 0) (k : ∀ (h : qH) (x : Nat → Int), a_HI q_SP 557 h → m_al (a_Rp q_SP 557 h x) r.2.2.1 → m_al (fun f => 0 ≤ m_ep x f) r.2.2.2.1 → a_Rc q_SP 557 h x r.2.2.2.2.1 r.2.2.2.2.2) : a_RR q_SP 557 r := ⟨fun _ h x hh hp hc => k h x hh (m_al_of hp) (m_hcs hc), fun q => absurd (e.symm.trans q) (by decide), fun q => absurd (e.symm.trans q) (by decide), fun q => absurd (e.symm.trans q) (by decide), fun q => absurd (e.symm.trans q) (by decide), fun q => absurd (e.symm.trans q) (by decide), fun q => absurd (e.symm.trans q) (by decide), fun q => absurd (e.symm.trans q) (by decide), fun q => absurd (e.symm.trans q) (by decide)⟩
theorem m_mk1 {r : aRl} (e : r.1 = 1) (k : ∀ (h h' : qH) (x : Nat → Int), a_HI q_SP 557 h → 0 ≤ x 0 → x 0 < a_cl q_SP r.2.1 → -2147483648 ≤ x 1 → x 1 < 2147483648 → m_one h h' r.2.1 (x 0).toNat (0, a_w (x 1)) → m_al (a_Rp q_SP 557 h x) r.2.2.1 → m_al (fun f => 0 ≤ m_ep x f) r.2.2.2.1 → a_Rc q_SP 557 h' x r.2.2.2.2.1 r.2.2.2.2.2) : a_RR q_SP 557 r := ⟨fun q => absurd (e.symm.trans q) (by decide), fun _ h h' x hh _ _ i1 i2 v1 v2 hv hp hc => k h h' x hh i1 i2 v1 v2 hv (m_al_of hp) (m_hcs hc), fun q => absurd (e.symm.trans q) (by decide), fun q => absurd (e.symm.trans q) (by decide), fun q => absurd (e.symm.trans q) (by decide), fun q => absurd (e.symm.trans q) (by decide), fun q => absurd (e.symm.trans q) (by decide), fun q => absurd (e.symm.trans q) (by decide), fun q => absurd (e.symm.trans q) (by decide)⟩
theorem m_mk2 {r : aRl} (e : r.1 = 2) (k : ∀ (h : qH) (x : Nat → Int), a_HI q_SP 557 h → 0 ≤ x 0 → m_gh h r.2.1 (x 0).toNat = x 1 → m_al (a_Rp q_SP 557 h x) r.2.2.1 → m_al (fun f => 0 ≤ m_ep x f) r.2.2.2.1 → a_Rc q_SP 557 h x r.2.2.2.2.1 r.2.2.2.2.2) : a_RR q_SP 557 r := ⟨fun q => absurd (e.symm.trans q) (by decide), fun q => absurd (e.symm.trans q) (by decide), fun _ h x hh i1 _ hv v1 v2 hp hc => k h x hh i1 ((congrArg m_int hv).trans (m_int0 v1 v2)) (m_al_of hp) (m_hcs hc), fun q => absurd (e.symm.trans q) (by decide), fun q => absurd (e.symm.trans q) (by decide), fun q => absurd (e.symm.trans q) (by decide), fun q => absurd (e.symm.trans q) (by decide), fun q => absurd (e.symm.trans q) (by decide), fun q => absurd (e.symm.trans q) (by decide)⟩
theorem m_mk3 {r : aRl} (e : r.1 = 3) (k : ∀ (h : qH) (x : Nat → Int), a_HI q_SP 557 h → 0 ≤ x 0 → 1 ≤ x 1 → x 2 = x 0 % x 1 → m_al (a_Rp q_SP 557 h x) r.2.2.1 → m_al (fun f => 0 ≤ m_ep x f) r.2.2.2.1 → a_Rc q_SP 557 h x r.2.2.2.2.1 r.2.2.2.2.2) : a_RR q_SP 557 r := ⟨fun q => absurd (e.symm.trans q) (by decide), fun q => absurd (e.symm.trans q) (by decide), fun q => absurd (e.symm.trans q) (by decide), fun _ h x hh i1 i2 i3 hp hc => k h x hh i1 i2 i3 (m_al_of hp) (m_hcs hc), fun q => absurd (e.symm.trans q) (by decide), fun q => absurd (e.symm.trans q) (by decide), fun q => absurd (e.symm.trans q) (by decide), fun q => absurd (e.symm.trans q) (by decide), fun q => absurd (e.symm.trans q) (by decide)⟩
theorem m_mk4 {r : aRl} (e : r.1 = 4) (k : ∀ (h : qH) (x : Nat → Int), a_HI q_SP 557 h → 0 ≤ x 0 → m_gh h r.2.1 (x 0).toNat = x 1 → m_al (a_Rp q_SP 557 h x) r.2.2.1 → m_al (fun f => 0 ≤ m_ep x f) r.2.2.2.1 → a_Rc q_SP 557 h x r.2.2.2.2.1 r.2.2.2.2.2) : a_RR q_SP 557 r := ⟨fun q => absurd (e.symm.trans q) (by decide), fun q => absurd (e.symm.trans q) (by decide), fun q => absurd (e.symm.trans q) (by decide), fun q => absurd (e.symm.trans q) (by decide), fun _ h x hh i1 _ hv v1 v2 hp hc => k h x hh i1 ((congrArg m_int hv).trans (m_int3 v1 v2)) (m_al_of hp) (m_hcs hc), fun q => absurd (e.symm.trans q) (by decide), fun q => absurd (e.symm.trans q) (by decide), fun q => absurd (e.symm.trans q) (by decide), fun q => absurd (e.symm.trans q) (by decide)⟩
theorem m_mk5 {r : aRl} (e : r.1 = 5) (k : ∀ (h h' : qH) (x : Nat → Int), a_HI q_SP 557 h → 0 ≤ x 0 → x 0 < a_cl q_SP r.2.1 → -9223372036854775808 ≤ x 1 → x 1 < 9223372036854775808 → m_one h h' r.2.1 (x 0).toNat (3, a_W (x 1)) → m_al (a_Rp q_SP 557 h x) r.2.2.1 → m_al (fun f => 0 ≤ m_ep x f) r.2.2.2.1 → a_Rc q_SP 557 h' x r.2.2.2.2.1 r.2.2.2.2.2) : a_RR q_SP 557 r := ⟨fun q => absurd (e.symm.trans q) (by decide), fun q => absurd (e.symm.trans q) (by decide), fun q => absurd (e.symm.trans q) (by decide), fun q => absurd (e.symm.trans q) (by decide), fun q => absurd (e.symm.trans q) (by decide), fun _ h h' x hh _ _ i1 i2 v1 v2 hv hp hc => k h h' x hh i1 i2 v1 v2 hv (m_al_of hp) (m_hcs hc), fun q => absurd (e.symm.trans q) (by decide), fun q => absurd (e.symm.trans q) (by decide), fun q => absurd (e.symm.trans q) (by decide)⟩
theorem m_mk6 {r : aRl} (e : r.1 = 6) (k : ∀ (h : qH) (x : Nat → Int), a_HI q_SP 557 h → -2147483648 ≤ x 0 → x 0 < 2147483648 → -2147483648 ≤ x 1 → x 1 < 2147483648 → -2147483648 ≤ x 2 → x 2 < 2147483648 → a_w (x 2) = qNn (q_f4 r.2.1 (qI (a_w (x 0))) (qI (a_w (x 1)))) → m_al (a_Rp q_SP 557 h x) r.2.2.1 → m_al (fun f => 0 ≤ m_ep x f) r.2.2.2.1 → a_Rc q_SP 557 h x r.2.2.2.2.1 r.2.2.2.2.2) : a_RR q_SP 557 r := ⟨fun q => absurd (e.symm.trans q) (by decide), fun q => absurd (e.symm.trans q) (by decide), fun q => absurd (e.symm.trans q) (by decide), fun q => absurd (e.symm.trans q) (by decide), fun q => absurd (e.symm.trans q) (by decide), fun q => absurd (e.symm.trans q) (by decide), fun _ h x hh a1 a2 b1 b2 v1 v2 hv hp hc => k h x hh a1 a2 b1 b2 v1 v2 hv (m_al_of hp) (m_hcs hc), fun q => absurd (e.symm.trans q) (by decide), fun q => absurd (e.symm.trans q) (by decide)⟩
theorem m_mk7 {r : aRl} (e : r.1 = 7) (k : ∀ (h : qH) (x : Nat → Int), a_HI q_SP 557 h → -2147483648 ≤ x 1 → x 1 < 2147483648 → (r.2.1 = 1 ∧ -9223372036854775808 ≤ x 0 ∧ x 0 < 9223372036854775808 ∧ a_w (x 1) = qNn (qJ (a_W (x 0))).toInt32 ∨ r.2.1 ≠ 1 ∧ -2147483648 ≤ x 0 ∧ x 0 < 2147483648 ∧ (0, a_w (x 1)) = q_s6v r.2.1 (0, a_w (x 0))) → m_al (a_Rp q_SP 557 h x) r.2.2.1 → m_al (fun f => 0 ≤ m_ep x f) r.2.2.2.1 → a_Rc q_SP 557 h x r.2.2.2.2.1 r.2.2.2.2.2) : a_RR q_SP 557 r := ⟨fun q => absurd (e.symm.trans q) (by decide), fun q => absurd (e.symm.trans q) (by decide), fun q => absurd (e.symm.trans q) (by decide), fun q => absurd (e.symm.trans q) (by decide), fun q => absurd (e.symm.trans q) (by decide), fun q => absurd (e.symm.trans q) (by decide), fun q => absurd (e.symm.trans q) (by decide), fun _ h x hh v1 v2 hv hp hc => k h x hh v1 v2 hv (m_al_of hp) (m_hcs hc), fun q => absurd (e.symm.trans q) (by decide)⟩
theorem m_mk8 {r : aRl} (e : r.1 = 8) (k : ∀ (h h' : qH) (x : Nat → Int), a_HI q_SP 557 h → 0 ≤ x 0 → 0 ≤ x 1 → 0 ≤ x 2 → x 0 + x 2 ≤ a_cl q_SP (r.2.1 / 1024) → x 1 + x 2 ≤ a_cl q_SP (r.2.1 % 1024) → m_cpd h h' (r.2.1 / 1024) (r.2.1 % 1024) (x 0) (x 1) (x 2) → m_al (a_Rp q_SP 557 h x) r.2.2.1 → m_al (fun f => 0 ≤ m_ep x f) r.2.2.2.1 → a_Rc q_SP 557 h' x r.2.2.2.2.1 r.2.2.2.2.2) : a_RR q_SP 557 r := ⟨fun q => absurd (e.symm.trans q) (by decide), fun q => absurd (e.symm.trans q) (by decide), fun q => absurd (e.symm.trans q) (by decide), fun q => absurd (e.symm.trans q) (by decide), fun q => absurd (e.symm.trans q) (by decide), fun q => absurd (e.symm.trans q) (by decide), fun q => absurd (e.symm.trans q) (by decide), fun q => absurd (e.symm.trans q) (by decide), fun _ h h' x hh _ i1 i2 i3 l1 l2 hv hp hc => k h h' x hh i1 i2 i3 l1 l2 hv (m_al_of hp) (m_hcs hc)⟩
