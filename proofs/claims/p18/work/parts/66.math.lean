-- 66.math: what follows from the equations of the costs
theorem m_mn_1 (f : Int → Int) : m_mn f 1 1000000 := ⟨Int.le_refl _, fun u h1 h2 => by omega, Or.inl rfl⟩
theorem m_mn_keep {f : Int → Int} {k b : Int} (h : m_mn f k b) (hb : b ≤ f k) : m_mn f (k + 1) b := by
  refine ⟨h.1, fun u h1 h2 => ?_, ?_⟩
  · by_cases e : u = k
    · rw [e]; exact hb
    · exact h.2.1 u h1 (by omega)
  · rcases h.2.2 with h | ⟨u, a, b, c⟩
    · exact Or.inl h
    · exact Or.inr ⟨u, a, by omega, c⟩
theorem m_mn_new {f : Int → Int} {k b : Int} (hk : 1 ≤ k) (h : m_mn f k b) (hb : f k ≤ b) : m_mn f (k + 1) (f k) := by
  refine ⟨Int.le_trans hb h.1, fun u h1 h2 => ?_, Or.inr ⟨k, hk, by omega, rfl⟩⟩
  by_cases e : u = k
  · rw [e]; exact Int.le_refl _
  · exact Int.le_trans hb (h.2.1 u h1 (by omega))
theorem m_mn_congr {f g : Int → Int} {k b : Int} (hfg : ∀ u, 1 ≤ u → u < k → f u = g u) (h : m_mn f k b) : m_mn g k b := by
  refine ⟨h.1, fun u h1 h2 => ?_, ?_⟩
  · rw [← hfg u h1 h2]; exact h.2.1 u h1 h2
  · rcases h.2.2 with h | ⟨u, a, b, c⟩
    · exact Or.inl h
    · exact Or.inr ⟨u, a, b, by rw [← hfg u a b]; exact c⟩
theorem m_ws_step {f w : Int → Int} {b u : Int} (hu : 1 ≤ u) : m_ws f w b (u + 1 - 1).toNat = m_ws f w b (u - 1).toNat + (if f u = b then w u else 0) := by
  have e : (u + 1 - 1).toNat = (u - 1).toNat + 1 := by omega
  have e2 : (((u - 1).toNat : Int) + 1) = u := by omega
  rw [e]
  show m_ws f w b (u - 1).toNat + (if f (((u - 1).toNat : Int) + 1) = b then w (((u - 1).toNat : Int) + 1) else 0) = _
  rw [e2]
theorem m_ws_congr {f g w x : Int → Int} {b : Int} : ∀ (k : Nat), (∀ u : Int, 1 ≤ u → u ≤ k → f u = g u ∧ w u = x u) → m_ws f w b k = m_ws g x b k
  | 0, _ => rfl
  | k + 1, h => by
    show m_ws f w b k + (if f ((k : Int) + 1) = b then w ((k : Int) + 1) else 0) = m_ws g x b k + (if g ((k : Int) + 1) = b then x ((k : Int) + 1) else 0)
    rw [m_ws_congr k (fun u h1 h2 => h u h1 (by omega)), (h ((k : Int) + 1) (by omega) (by omega)).1, (h ((k : Int) + 1) (by omega) (by omega)).2]
theorem m_ws_nn {f w : Int → Int} {b : Int} (hw : ∀ i, 0 ≤ w i) : ∀ k : Nat, 0 ≤ m_ws f w b k
  | 0 => Int.le_refl _
  | k + 1 => by
    have h1 := m_ws_nn (f := f) (b := b) hw k
    have h2 := hw ((k : Int) + 1)
    show 0 ≤ m_ws f w b k + (if f ((k : Int) + 1) = b then w ((k : Int) + 1) else 0)
    split <;> omega
theorem m_ws_pos {f w : Int → Int} {b : Int} (hw : ∀ i, 0 ≤ w i) {u : Int} (h1 : 1 ≤ u) (h2 : f u = b) (h3 : 1 ≤ w u) : ∀ k : Nat, u ≤ k → 1 ≤ m_ws f w b k
  | 0, h => by omega
  | k + 1, h => by
    have h4 := m_ws_nn (f := f) (b := b) hw k
    have h5 := hw ((k : Int) + 1)
    show 1 ≤ m_ws f w b k + (if f ((k : Int) + 1) = b then w ((k : Int) + 1) else 0)
    by_cases e : u = (k : Int) + 1
    · rw [← e, if_pos h2]; omega
    · have := m_ws_pos hw h1 h2 h3 k (by omega)
      split <;> omega
theorem m_lim_le (x : Int) : m_lim x ≤ x ∧ m_lim x ≤ 999999 := by
  unfold m_lim
  split <;> omega
theorem m_lim_pos {x : Int} (h : 1 ≤ x) : 1 ≤ m_lim x := by
  unfold m_lim
  split <;> omega
def m_up (f : Int → Int) (i z : Int) : Int → Int := fun j => if j = i then z else f j
theorem m_up_at {f : Int → Int} {i z j : Int} (h : j = i) : m_up f i z j = z := if_pos h
theorem m_up_ne {f : Int → Int} {i z j : Int} (h : j ≠ i) : m_up f i z j = f j := if_neg h
theorem m_sum_le {f : Int → Int} {c : Int} (hf : ∀ i, 0 ≤ f i ∧ f i ≤ c) (hc : 0 ≤ c) : ∀ n : Nat, 0 ≤ m_sum f n ∧ m_sum f n ≤ c * n
  | 0 => by
    refine ⟨Int.le_refl _, ?_⟩
    show (0 : Int) ≤ c * ((0 : Nat) : Int)
    simp
  | n + 1 => by
    obtain ⟨h1, h2⟩ := m_sum_le hf hc n
    obtain ⟨h3, h4⟩ := hf n
    have e : c * ((n + 1 : Nat) : Int) = c * n + c := by
      have : ((n + 1 : Nat) : Int) = (n : Int) + 1 := rfl
      rw [this, Int.mul_add, Int.mul_one]
    refine ⟨by show 0 ≤ m_sum f n + f n; omega, ?_⟩
    rw [e]
    show m_sum f n + f n ≤ c * n + c
    omega
theorem m_N_le {nc : Int} {cs : Int → Int} (hnc : 0 ≤ nc ∧ nc ≤ 6) (hcs : ∀ i, 0 ≤ cs i ∧ cs i ≤ 16) : 0 ≤ m_N nc cs ∧ m_N nc cs ≤ 96 := by
  obtain ⟨h1, h2⟩ := m_sum_le hcs (by decide) nc.toNat
  refine ⟨h1, Int.le_trans h2 ?_⟩
  omega
theorem m_cnt_le (fs : Int → Int) (s : Int) : ∀ k : Nat, 0 ≤ m_cnt fs s k ∧ m_cnt fs s k ≤ k
  | 0 => ⟨Int.le_refl _, Int.le_refl _⟩
  | k + 1 => by
    obtain ⟨h1, h2⟩ := m_cnt_le fs s k
    show 0 ≤ m_cnt fs s k + (if fs k < s then 1 else 0) ∧ m_cnt fs s k + (if fs k < s then 1 else 0) ≤ ((k + 1 : Nat) : Int)
    split <;> omega
theorem m_cnt_up (fs : Int → Int) (s : Int) : ∀ k : Nat, m_cnt fs s k ≤ m_cnt fs (s + 1) k
  | 0 => Int.le_refl _
  | k + 1 => by
    have h1 := m_cnt_up fs s k
    show m_cnt fs s k + (if fs k < s then 1 else 0) ≤ m_cnt fs (s + 1) k + (if fs k < s + 1 then 1 else 0)
    split <;> split <;> omega
theorem m_cnt_at (fs : Int → Int) {s f : Int} (h1 : 0 ≤ f) (h2 : fs f = s) : ∀ k : Nat, f < k → m_cnt fs s k + 1 ≤ m_cnt fs (s + 1) k ∧ m_cnt fs s k + 1 ≤ k
  | 0, h => by omega
  | k + 1, h => by
    have h5 := m_cnt_up fs s k
    have h6 := (m_cnt_le fs s k).2
    show m_cnt fs s k + (if fs k < s then 1 else 0) + 1 ≤ m_cnt fs (s + 1) k + (if fs k < s + 1 then 1 else 0) ∧ m_cnt fs s k + (if fs k < s then 1 else 0) + 1 ≤ ((k + 1 : Nat) : Int)
    by_cases e : f = k
    · rw [← e, h2, if_neg (by omega), if_pos (by omega)]
      omega
    · obtain ⟨h7, h8⟩ := m_cnt_at fs h1 h2 k (by omega)
      split <;> split <;> omega
theorem m_af_rng {M v b : Int} (hM : 2 ≤ M) : 1 ≤ m_af M v b ∧ m_af M v b ≤ M := by
  unfold m_af
  have h1 := Int.emod_nonneg (v + b) (b := M) (by omega)
  have h2 := Int.emod_lt_of_pos (v + b) (b := M) (by omega)
  omega
theorem m_st_rng {M : Int} {sl : Int → Int} (hsl : ∀ i, 0 ≤ sl i ∧ sl i ≤ 9) {s u v : Int} : 0 ≤ m_st M sl s u v ∧ m_st M sl s u v ≤ 9 := by
  unfold m_st
  have := hsl s
  split <;> omega
theorem m_be_congr {M : Int} {nt sl fo fo' : Int → Int} {s v b : Int} (h : ∀ u, 1 ≤ u → u ≤ M → fo (14 * (s - 1) + u) = fo' (14 * (s - 1) + u)) (hb : m_be M nt sl fo s v b) : m_be M nt sl fo' s v b := by
  refine ⟨fun hs => m_mn_congr (fun u h1 h2 => ?_) (hb.1 hs), hb.2⟩
  unfold m_fc
  rw [h u h1 (by omega)]
theorem m_wv_congr {M : Int} {sl fo fo' wt wt' : Int → Int} {s v b : Int} (hM : 2 ≤ M) (h : ∀ u, 1 ≤ u → u ≤ M → fo (14 * (s - 1) + u) = fo' (14 * (s - 1) + u) ∧ wt (14 * (s - 1) + u) = wt' (14 * (s - 1) + u)) : m_wv M sl fo wt s v b = m_wv M sl fo' wt' s v b := by
  unfold m_wv
  rw [m_ws_congr M.toNat (fun u h1 h2 => ⟨?_, ?_⟩)]
  · unfold m_fc
    rw [(h u h1 (by omega)).1]
  · exact (h u h1 (by omega)).2
theorem m_fe_congr {M : Int} {nt sl fo fo' wt wt' : Int → Int} {s v : Int} (hM : 2 ≤ M) (h0 : fo (14 * s + v) = fo' (14 * s + v)) (h0' : wt (14 * s + v) = wt' (14 * s + v)) (h : ∀ u, 1 ≤ u → u ≤ M → fo (14 * (s - 1) + u) = fo' (14 * (s - 1) + u) ∧ wt (14 * (s - 1) + u) = wt' (14 * (s - 1) + u)) (hf : m_fe M nt sl fo wt s v) : m_fe M nt sl fo' wt' s v := by
  refine ⟨?_, ?_⟩
  · rw [← h0]
    exact m_be_congr (fun u h1 h2 => (h u h1 h2).1) hf.1
  · rw [← h0, ← h0', hf.2, m_wv_congr hM h]
theorem m_ae_congr {M : Int} {nt sl : Int → Int} {N : Int} {ft ft' : Int → Int} {s v b : Int} (h : ∀ u, 1 ≤ u → u ≤ M → ft (14 * (s + 1) + u) = ft' (14 * (s + 1) + u)) (ha : m_ae M nt sl N ft s v b) : m_ae M nt sl N ft' s v b := by
  refine ⟨ha.1, ha.2.1, fun h1 h2 => m_mn_congr (fun u h3 h4 => ?_) (ha.2.2 h1 h2)⟩
  unfold m_bc
  rw [h u h3 (by omega)]
-- what holds on the way
def m_H (M F : Int) (nt sl : Int → Int) (N fr : Int) (fo ft wt : Int → Int) (ls : Int) : Prop := (2 ≤ M ∧ M ≤ 13) ∧ (∀ i, 0 ≤ sl i ∧ sl i ≤ 9) ∧ (∀ i, 0 ≤ fo i ∧ fo i ≤ 1000000) ∧ (∀ i, 0 ≤ ft i ∧ ft i ≤ 1000000) ∧ (∀ i, 0 ≤ wt i ∧ wt i ≤ 999999) ∧ m_M1 M F nt sl N fr fo ft wt ls
section
variable {M F : Int} {nt sl : Int → Int} {N fr : Int} {fo ft wt : Int → Int} {ls : Int}
theorem m_x_su (hH : m_H M F nt sl N fr fo ft wt ls) {s v : Int} (h0 : 0 ≤ s) (hs : s < N) (hv : 1 ≤ v) (hv2 : v ≤ M) (hf : fo (14 * s + v) < 1000000) : m_su M nt s v := by
  have ⟨hM, hsl, hfo, hft, hwt, h1⟩ := hH
  by_cases e : s = 0
  · have hr := (h1.1.1 v hv (by omega)).1
    rw [show 14 * s + v = v by omega] at hf
    by_cases hb : m_bg M F nt N fr v
    · rw [e]; exact hb.2.1
    · have := hr.2 hb
      omega
  · have hb := (h1.1.2 s v (by omega) hs hv hv2).1
    by_cases hu : m_su M nt s v
    · exact hu
    · have := hb.2 hu
      omega
/-- from the row ahead -/
theorem m_x_pre (hH : m_H M F nt sl N fr fo ft wt ls) {s v : Int} (h0 : 1 ≤ s) (hs : s < N) (hv : 1 ≤ v) (hv2 : v ≤ M) (hf : fo (14 * s + v) < 1000000) : ∃ u, 1 ≤ u ∧ u ≤ M ∧ fo (14 * s + v) = fo (14 * (s - 1) + u) + m_st M sl s u v := by
  have ⟨hM, hsl, hfo, hft, hwt, h1⟩ := hH
  have hb := (h1.1.2 s v h0 hs hv hv2).1
  rcases (hb.1 (m_x_su hH (by omega) hs hv hv2 hf)).2.2 with e | ⟨u, a, b, c⟩
  · omega
  · exact ⟨u, a, by omega, c⟩
theorem m_x_bw (hH : m_H M F nt sl N fr fo ft wt ls) {s u v : Int} (h0 : 0 ≤ s) (hs : s + 1 < N) (hu : 1 ≤ u) (hu2 : u ≤ M) (hv : 1 ≤ v) (hv2 : v ≤ M) (hsu : m_su M nt s u) : ft (14 * s + u) ≤ ft (14 * (s + 1) + v) + m_st M sl (s + 1) u v := by
  have ⟨hM, hsl, hfo, hft, hwt, h1⟩ := hH
  have ha := h1.2.1 s u h0 (by omega) hu hu2 (by omega)
  exact ((ha.2.2 hsu hs).2.1 v hv (by omega))
theorem m_x_lb (hH : m_H M F nt sl N fr fo ft wt ls) : ∀ (k : Nat) {v : Int}, (k : Int) < N → 1 ≤ v → v ≤ M → ls ≤ fo (14 * k + v) + ft (14 * k + v)
  | 0, v, hk, hv, hv2 => by
    have ⟨hM, hsl, hfo, hft, hwt, h1⟩ := hH
    have := h1.2.2.1.2.1 v hv (by omega)
    have e : 14 * ((0 : Nat) : Int) + v = v := by omega
    rw [e]
    exact this
  | k + 1, v, hk, hv, hv2 => by
    have ⟨hM, hsl, hfo, hft, hwt, h1⟩ := hH
    have hft1 := hft (14 * ((k + 1 : Nat) : Int) + v)
    have hls := h1.2.2.2
    by_cases hf : fo (14 * ((k + 1 : Nat) : Int) + v) < 1000000
    · obtain ⟨u, a, b, c⟩ := m_x_pre hH (s := ((k + 1 : Nat) : Int)) (by omega) hk hv hv2 hf
      have e : ((k + 1 : Nat) : Int) - 1 = k := by omega
      rw [e] at c
      have hst := m_st_rng (M := M) hsl (s := ((k + 1 : Nat) : Int)) (u := u) (v := v)
      have hsu := m_x_su hH (s := (k : Int)) (by omega) (by omega) a b (by omega)
      have hb := m_x_bw hH (s := (k : Int)) (by omega) (by omega) a b hv hv2 hsu
      have ih := m_x_lb hH k (v := u) (by omega) a b
      have e2 : (k : Int) + 1 = ((k + 1 : Nat) : Int) := rfl
      rw [e2] at hb
      omega
    · omega
theorem m_x_next (hH : m_H M F nt sl N fr fo ft wt ls) {s v : Int} (h0 : 1 ≤ s) (hs : s < N) (hv : 1 ≤ v) (hv2 : v ≤ M) (hon : m_on fo ft ls (s - 1) v) : ∃ u, 1 ≤ u ∧ u ≤ M ∧ m_on fo ft ls s u ∧ fo (14 * (s - 1) + v) + m_st M sl s v u = fo (14 * s + u) := by
  have ⟨hM, hsl, hfo, hft, hwt, h1⟩ := hH
  unfold m_on at hon
  have hls := h1.2.2.2
  have a1 := hfo (14 * (s - 1) + v)
  have a2 := hft (14 * (s - 1) + v)
  have hsu := m_x_su hH (s := s - 1) (by omega) (by omega) hv hv2 (by omega)
  have ha := h1.2.1 (s - 1) v (by omega) (by omega) hv hv2 (by omega)
  rcases (ha.2.2 hsu (by omega)).2.2 with e | ⟨u, b1, b2, b3⟩
  · omega
  · have hu2 : u ≤ M := by omega
    unfold m_bc at b3
    have e : s - 1 + 1 = s := by omega
    rw [e] at b3
    have hst := m_st_rng (M := M) hsl (s := s) (u := v) (v := u)
    have a3 := hft (14 * s + u)
    have a4 := hfo (14 * s + u)
    have hau := h1.2.1 s u (by omega) hs b1 hu2 (by omega)
    have hsu2 : m_su M nt s u := by
      by_cases hc : m_su M nt s u
      · exact hc
      · have := hau.1 hc
        omega
    have hb := (h1.1.2 s u h0 hs b1 hu2).1
    have hle := (hb.1 hsu2).2.1 v hv (by omega)
    unfold m_fc at hle
    have hlb := m_x_lb hH s.toNat (v := u) (by omega) b1 hu2
    have e3 : ((s.toNat : Nat) : Int) = s := by omega
    rw [e3] at hlb
    refine ⟨u, b1, hu2, ?_, by omega⟩
    unfold m_on
    omega
theorem m_x_wp (hH : m_H M F nt sl N fr fo ft wt ls) : ∀ (k : Nat) {v : Int}, (k : Int) < N → 1 ≤ v → v ≤ M → fo (14 * k + v) < 1000000 → 1 ≤ wt (14 * k + v)
  | 0, v, hk, hv, hv2, hf => by
    have ⟨hM, hsl, hfo, hft, hwt, h1⟩ := hH
    have hr := (h1.1.1 v hv (by omega)).2
    unfold m_rw at hr
    have e : 14 * ((0 : Nat) : Int) + v = v := by omega
    rw [e] at hf
    rw [e, hr, if_pos hf]
    exact Int.le_refl _
  | k + 1, v, hk, hv, hv2, hf => by
    have ⟨hM, hsl, hfo, hft, hwt, h1⟩ := hH
    obtain ⟨u, a, b, c⟩ := m_x_pre hH (s := ((k + 1 : Nat) : Int)) (by omega) hk hv hv2 hf
    have hst := m_st_rng (M := M) hsl (s := ((k + 1 : Nat) : Int)) (u := u) (v := v)
    have e : ((k + 1 : Nat) : Int) - 1 = k := by omega
    have ih := m_x_wp hH k (v := u) (by omega) a b (by rw [e] at c; omega)
    rw [(h1.1.2 ((k + 1 : Nat) : Int) v (by omega) hk hv hv2).2]
    refine m_lim_pos ?_
    unfold m_wv
    rw [if_pos hf]
    exact m_ws_pos (fun i => (hwt _).1) a c.symm (by rw [e]; exact ih) M.toNat (by omega)
/-- some count of each row is on the way -/
theorem m_x_on (hH : m_H M F nt sl N fr fo ft wt ls) : ∀ (k : Nat), (k : Int) < N → ∃ v, 1 ≤ v ∧ v ≤ M ∧ m_on fo ft ls k v
  | 0, hk => by
    have ⟨hM, hsl, hfo, hft, hwt, h1⟩ := hH
    have hls := h1.2.2.2
    rcases h1.2.2.1.2.2 with e | ⟨u, a, b, c⟩
    · omega
    · refine ⟨u, a, by omega, ?_⟩
      unfold m_on
      have e : 14 * ((0 : Nat) : Int) + u = u := by omega
      rw [e]
      exact c.symm
  | k + 1, hk => by
    have ⟨hM, hsl, hfo, hft, hwt, h1⟩ := hH
    obtain ⟨v, a, b, c⟩ := m_x_on hH k (by omega)
    have e : ((k + 1 : Nat) : Int) - 1 = k := by omega
    obtain ⟨u, d1, d2, d3, -⟩ := m_x_next hH (s := ((k + 1 : Nat) : Int)) (v := v) (by omega) hk a b (by rw [e]; exact c)
    exact ⟨u, d1, d2, d3⟩
theorem m_x_last (hH : m_H M F nt sl N fr fo ft wt ls) {v : Int} (hN : 1 ≤ N) (hv : 1 ≤ v) (hv2 : v ≤ M) (hon : m_on fo ft ls (N - 1) v) : fo (14 * (N - 1) + v) = ls := by
  have ⟨hM, hsl, hfo, hft, hwt, h1⟩ := hH
  unfold m_on at hon
  have hls := h1.2.2.2
  have a1 := hfo (14 * (N - 1) + v)
  have a2 := hft (14 * (N - 1) + v)
  have hsu := m_x_su hH (s := N - 1) (by omega) (by omega) hv hv2 (by omega)
  have ha := (h1.2.1 (N - 1) v (by omega) (by omega) hv hv2 (by omega)).2.1 hsu (by omega)
  omega
theorem m_x_nw (hH : m_H M F nt sl N fr fo ft wt ls) (hN : 1 ≤ N) : 1 ≤ m_nw N M ls fo wt M.toNat := by
  have ⟨hM, hsl, hfo, hft, hwt, h1⟩ := hH
  obtain ⟨v, a, b, c⟩ := m_x_on hH (N - 1).toNat (by omega)
  have e : (((N - 1).toNat : Nat) : Int) = N - 1 := by omega
  rw [e] at c
  have hl := m_x_last hH hN a b c
  have hls := h1.2.2.2
  have hw := m_x_wp hH (N - 1).toNat (v := v) (by omega) a b (by rw [e]; omega)
  rw [e] at hw
  exact m_ws_pos (fun i => (hwt _).1) a hl hw M.toNat (by omega)
end
