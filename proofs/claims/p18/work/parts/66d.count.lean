-- 66d.count: the counts of the stones: the class's, the block's
theorem m_tx_ext {o f : Int} {b c : Int → Int} : ∀ k : Nat, (∀ i : Nat, i ≤ k → b (i : Int) = c (i : Int)) → m_tx o f b k = m_tx o f c k
  | 0, _ => rfl
  | k + 1, h => by
    show m_cw o (m_tx o f b k) (b ((k + 1 : Nat) : Int)) = m_cw o (m_tx o f c k) (c ((k + 1 : Nat) : Int))
    rw [m_tx_ext k (fun i hi => h i (by omega)), h (k + 1) (Nat.le_refl _)]
theorem m_tb_rg {A B : Int → Int} (h : m_srt A B) : ∀ k : Nat, 1 ≤ m_tb A B k ∧ m_tb A B k ≤ A 0
  | 0 => ⟨h.2.2.1, h.2.2.2.1⟩
  | _ + 1 => m_af_rng h.1
theorem m_sb_rg {A B : Int → Int} (h : m_srt A B) : ∀ k : Nat, 1 ≤ m_sb A B k ∧ m_sb A B k ≤ A 0
  | 0 => ⟨h.2.2.1, h.2.2.2.1⟩
  | _ + 1 => m_af_rng h.1
theorem m_cw_af {o c b : Int} (h0 : 1 ≤ c) (h1 : c ≤ o) (h2 : 0 ≤ b) (h3 : b < o) : m_cw o c b = m_af o c b := by
  unfold m_cw m_cb m_af
  by_cases k : c + b < o
  · rw [Int.emod_eq_of_lt (by omega) k, if_neg (show ¬ o ≤ c by omega), if_neg (by omega)]
    omega
  · have e : (c + b) % o = c + b - o := by
      have h := Int.add_mul_emod_self_left (c + b - o) o 1
      rw [show c + b - o + o * 1 = c + b by omega] at h
      rw [h]
      exact Int.emod_eq_of_lt (by omega) (by omega)
    rw [e]
    by_cases g : o ≤ c
    · rw [if_pos g, if_neg (by omega)]
      omega
    · rw [if_neg g]
      by_cases q : o < c + 1 + b
      · rw [if_pos q]; omega
      · rw [if_neg q]; omega
theorem m_byn_0 {B : Int → Int} {s : Int} : ∀ n : Nat, (∀ j, 0 ≤ j → j < (n : Int) → B (14 + j) ≠ s) → m_byn B s n = 0
  | 0, _ => rfl
  | n + 1, h => by
    show (if B (14 + (n : Int)) = s then B (20 + (n : Int)) else m_byn B s n) = 0
    rw [if_neg (h n (by omega) (by omega))]
    exact m_byn_0 n (fun j a b => h j a (by omega))
theorem m_byn_at {B : Int → Int} {s k : Int} (hk : B (14 + k) = s) : ∀ n : Nat, 0 ≤ k → k < (n : Int) → (∀ j, 0 ≤ j → j < (n : Int) → B (14 + j) = s → j = k) → m_byn B s n = B (20 + k)
  | 0, _, h, _ => by omega
  | n + 1, h0, h1, h => by
    show (if B (14 + (n : Int)) = s then B (20 + (n : Int)) else m_byn B s n) = _
    by_cases e : B (14 + (n : Int)) = s
    · rw [if_pos e, h n (by omega) (by omega) e]
    · rw [if_neg e]
      have : k ≠ n := fun q => e (q ▸ hk)
      exact m_byn_at hk n h0 (by omega) (fun j a b c => h j a (by omega) c)
theorem m_srt_lt {A B : Int → Int} (h : m_srt A B) : ∀ (d : Nat) (i : Int), 0 ≤ i → i + ((d + 1 : Nat) : Int) < A 4 → B (14 + i) < B (14 + (i + ((d + 1 : Nat) : Int)))
  | 0, i, a, b => by
    have h1 := (h.2.2.2.2.2.2 i a (by omega)).2.2.2.2 (by omega)
    rw [show i + ((0 + 1 : Nat) : Int) = i + 1 by omega]
    exact h1
  | d + 1, i, a, b => by
    have h1 := m_srt_lt h d i a (by omega)
    have h2 := (h.2.2.2.2.2.2 (i + ((d + 1 : Nat) : Int)) (by omega) (by omega)).2.2.2.2 (by omega)
    rw [show i + ((d + 1 + 1 : Nat) : Int) = i + ((d + 1 : Nat) : Int) + 1 by omega]
    omega
theorem m_srt_mono {A B : Int → Int} (h : m_srt A B) {i j : Int} (a : 0 ≤ i) (b : i < j) (c : j < A 4) : B (14 + i) < B (14 + j) := by
  have := m_srt_lt h (j - i - 1).toNat i a (by omega)
  rw [show i + (((j - i - 1).toNat + 1 : Nat) : Int) = j by omega] at this
  exact this
theorem m_by_rg {A B : Int → Int} (h : m_srt A B) {s : Int} : 0 ≤ m_by A B s ∧ m_by A B s < A 0 := by
  have g : ∀ n : Nat, (n : Int) ≤ A 4 → 0 ≤ m_byn B s n ∧ m_byn B s n < A 0 := by
    intro n
    induction n with
    | zero => intro _; have := h.1; exact ⟨Int.le_refl _, by show (0 : Int) < A 0; omega⟩
    | succ n ih =>
      intro hn
      show 0 ≤ (if B (14 + (n : Int)) = s then B (20 + (n : Int)) else m_byn B s n) ∧ (if B (14 + (n : Int)) = s then B (20 + (n : Int)) else m_byn B s n) < A 0
      by_cases e : B (14 + (n : Int)) = s
      · rw [if_pos e]
        have := h.2.2.2.2.2.2 n (by omega) (by omega)
        omega
      · rw [if_neg e]
        exact ih (by omega)
  have := h.2.2.2.2.1
  exact g _ (by omega)
/-- no slip at s, where none of the pointer's is -/
theorem m_by_0 {A B : Int → Int} {s k : Int} (hp : m_ptr A B s k) (h : ∀ j, k ≤ j → j < A 4 → B (14 + j) ≠ s) : m_by A B s = 0 := by
  refine m_byn_0 _ fun j a b => ?_
  by_cases e : j < k
  · have := hp.2.2.1 j a e; omega
  · exact h j (by omega) (by omega)
theorem m_by_k {A B : Int → Int} {s k : Int} (hs : m_srt A B) (h0 : 0 ≤ k) (h1 : k < A 4) (h : B (14 + k) = s) : m_by A B s = B (20 + k) := by
  refine m_byn_at h _ h0 (by omega) fun j a b c => ?_
  by_cases e : j < k
  · have := m_srt_mono hs a e h1; omega
  · by_cases e2 : k < j
    · have := m_srt_mono hs h0 e2 (by omega); omega
    · omega
theorem m_lk_byn {l : List (Int × Int)} {B : Int → Int} {s : Int} (h : ∀ k : Nat, k < l.length → l[k]? = some (B (14 + (k : Int)), B (20 + (k : Int)))) : ∀ n : Nat, n ≤ l.length → m_lk (l.take n) 0 s = m_byn B s n
  | 0, _ => rfl
  | n + 1, hn => by
    rw [List.take_add_one, h n (by omega)]
    show m_lk (l.take n ++ [(B (14 + (n : Int)), B (20 + (n : Int)))]) 0 s = _
    rw [m_lk_a, m_lk_byn h n (by omega)]
    show _ = if B (14 + (n : Int)) = s then B (20 + (n : Int)) else m_byn B s n
    by_cases e : s = B (14 + (n : Int))
    · rw [if_pos e, if_pos e.symm]
    · rw [if_neg e, if_neg (fun q => e q.symm)]
-- what the machine's wall is like
def m_S (W : mW) : Prop := (∀ q ∈ m_wss W, 1 ≤ q.1 ∧ q.1 < m_tot (m_wcs W) ∧ 1 ≤ q.2 ∧ q.2 < m_wo W ∧ q.1 ≤ m_lst (m_wss W)) ∧ (m_wss W).Pairwise (fun a b => a.1 < b.1) ∧ 0 ≤ m_lst (m_wss W)
def m_O (W : mW) : Prop := 2 ≤ m_wo W ∧ m_wo W ≤ 13 ∧ 1 ≤ m_wf W ∧ m_wf W ≤ m_wo W
def m_kx (st r1 r2 : Int) (W : mW) : Prop := m_S W ∧ (st ≤ 4 → m_wss W = []) ∧ (5 ≤ st → m_O W) ∧ (st = 2 ∨ st = 3 ∨ st = 4 → 2 ≤ r1 ∧ r1 ≤ 13) ∧ (st = 4 → 1 ≤ r2 ∧ r2 ≤ r1) ∧ (st = 10 → 1 ≤ r1) ∧ (st = 21 → r1 < m_tot (m_wcs W)) ∧ (st = 16 ∨ st = 17 ∨ st = 24 → m_lst (m_wss W) < r1 ∧ r1 < m_tot (m_wcs W)) ∧ (st = 24 → 1 ≤ r2 ∧ r2 < m_wo W)
def m_kO (o : mO) : Prop := (∀ c, o = Sum.inl c → m_kx c.1 c.2.2.1 c.2.2.2.1 c.2.2.2.2.2) ∧ ∀ W, o = m_dn W → m_S W ∧ m_O W ∧ m_iw W
theorem m_kO_h {f p : Int} : m_kO (m_ht f p) := ⟨fun c h => (by cases h), fun W h => (by cases h)⟩
theorem m_kO_d {W : mW} (h : m_S W) (h2 : m_O W) (h3 : m_iw W) : m_kO (m_dn W) := ⟨fun c h => (by cases h), fun W' e => (by cases e; exact ⟨h, h2, h3⟩)⟩
theorem m_kO_i {p : Prop} [Decidable p] {x y : mO} (h1 : p → m_kO x) (h2 : ¬ p → m_kO y) : m_kO (if p then x else y) := by
  by_cases e : p
  · rw [if_pos e]; exact h1 e
  · rw [if_neg e]; exact h2 e
theorem m_kO_mp {b : Int → Int} {n s : Int} : m_kO (m_mp b n s) := m_kO_h
theorem m_kO_w {b : Int → Int} {n s w : Int} {o : mO} (h : m_kO o) : m_kO (m_swd b n s w o) := m_kO_i (fun _ => h) (fun _ => m_kO_mp)
theorem m_kO_n {b : Int → Int} {n s l u : Int} {o : mO} (h : l ≤ m_tv b n s → m_tv b n s ≤ u → m_kO o) : m_kO (m_snm b n s l u o) := m_kO_i (fun _ => m_kO_i (fun k => h k.1 k.2) (fun _ => m_kO_h)) (fun _ => m_kO_mp)
theorem m_kO_s {b : Int → Int} {n s : Int} {o : mO} (h : m_kO o) : m_kO (m_ssg b n s o) := m_kO_i (fun _ => h) (fun _ => m_kO_mp)
theorem m_kO_g {st s r1 r2 np : Int} {W : mW} (h : m_kx st r1 r2 W) : m_kO (m_go st s r1 r2 np W) := ⟨fun c e => by cases e; exact h, fun W' e => by cases e⟩
theorem m_kO_p {b : Int → Int} {n s : Int} {W : mW} (h : m_S W) (h2 : m_O W) (h3 : m_iw W) : m_kO (m_prt b n s W) := by
  have g : ∀ st : Int, st = 6 ∨ st = 7 ∨ st = 8 ∨ st = 9 → m_kO (m_go st (m_sk b n (m_te b n s)) 0 0 0 W) := fun st hst => m_kO_g ⟨h, fun _ => by omega, fun _ => h2, fun _ => by omega, fun _ => by omega, fun _ => by omega, fun _ => by omega, fun _ => by omega, fun _ => by omega⟩
  exact m_kO_i (fun _ => m_kO_d h h2 h3) (fun _ => m_kO_i (fun _ => m_kO_i (fun _ => m_kO_h) (fun _ => g 6 (by decide))) (fun _ => m_kO_i (fun _ => m_kO_i (fun _ => m_kO_h) (fun _ => g 7 (by decide))) (fun _ => m_kO_i (fun _ => m_kO_i (fun _ => m_kO_h) (fun _ => g 8 (by decide))) (fun _ => m_kO_i (fun _ => m_kO_i (fun _ => m_kO_h) (fun _ => g 9 (by decide))) (fun _ => m_kO_mp)))))
theorem m_S_0 {o f : Int} {W : mW} (h : m_wss W = []) : m_S (o, f, W.2.2) := by
  unfold m_S
  rw [show m_wss (o, f, W.2.2) = [] from h]
  exact ⟨fun q hq => absurd hq List.not_mem_nil, List.Pairwise.nil, by decide⟩
theorem m_S_c {W : mW} {r : Int} (h : m_S W) (hr : 1 ≤ r) : m_S (W.1, W.2.1, m_wcs W ++ [r], W.2.2.2) := by
  refine ⟨fun q hq => ?_, h.2⟩
  obtain ⟨a1, a2, a3⟩ := h.1 q hq
  refine ⟨a1, ?_, a3⟩
  have := m_tot_a (m_wcs W) r
  show q.1 < m_tot (m_wcs W ++ [r])
  omega
theorem m_S_s {W : mW} {r1 r2 : Int} (h : m_S W) (h1 : m_lst (m_wss W) < r1 ∧ r1 < m_tot (m_wcs W)) (h2 : 1 ≤ r2 ∧ r2 < m_wo W) : m_S (W.1, W.2.1, m_wcs W, m_wms W, m_wss W ++ [(r1, r2)], m_wfs W) := by
  have ha := m_lst_a (m_wss W) r1 r2
  have h0 := h.2.2
  refine ⟨fun q hq => ?_, List.pairwise_append.mpr ⟨h.2.1, List.pairwise_singleton _ _, fun a ma b mb => ?_⟩, ?_⟩
  · show 1 ≤ q.1 ∧ q.1 < m_tot (m_wcs W) ∧ 1 ≤ q.2 ∧ q.2 < m_wo W ∧ q.1 ≤ m_lst (m_wss W ++ [(r1, r2)])
    rw [ha]
    rcases List.mem_append.mp hq with hq | hq
    · obtain ⟨a1, a2, a3, a4, a5⟩ := h.1 q hq
      exact ⟨a1, a2, a3, a4, by omega⟩
    · rw [List.mem_singleton.mp hq]
      exact ⟨(show 1 ≤ r1 by omega), h1.2, h2.1, h2.2, Int.le_refl _⟩
  · rw [List.mem_singleton.mp mb]
    have := (h.1 a ma).2.2.2.2
    show a.1 < r1
    omega
  · show 0 ≤ m_lst (m_wss W ++ [(r1, r2)])
    rw [ha]
    omega
theorem m_k_s {b : Int → Int} {n st s r1 r2 np : Int} {W : mW} (hst : 0 ≤ st ∧ st ≤ 25) (hi : m_iw W) (hc : m_kx st r1 r2 W) : m_kO (m_stp b n (st, s, r1, r2, np, W)) := by
  obtain ⟨i1, i2, i3, i5, i6, i7, i8, i9, i10⟩ := hc
  have hs : st = 0 ∨ st = 1 ∨ st = 2 ∨ st = 3 ∨ st = 4 ∨ st = 5 ∨ st = 6 ∨ st = 7 ∨ st = 8 ∨ st = 9 ∨ st = 10 ∨ st = 11 ∨ st = 12 ∨ st = 13 ∨ st = 14 ∨ st = 15 ∨ st = 16 ∨ st = 17 ∨ st = 18 ∨ st = 19 ∨ st = 20 ∨ st = 21 ∨ st = 22 ∨ st = 23 ∨ st = 24 ∨ st = 25 := by omega
  rcases hs with rfl | rfl | rfl | rfl | rfl | rfl | rfl | rfl | rfl | rfl | rfl | rfl | rfl | rfl | rfl | rfl | rfl | rfl | rfl | rfl | rfl | rfl | rfl | rfl | rfl | rfl
  · exact m_kO_w (m_kO_g (show m_kx 1 _ _ _ from ⟨i1, fun _ => i2 (by decide), fun h => absurd h (by decide), fun h => absurd h (by decide), fun h => absurd h (by decide), fun h => absurd h (by decide), fun h => absurd h (by decide), fun h => absurd h (by decide), fun h => absurd h (by decide)⟩))
  · exact m_kO_n (fun v1 v2 => m_kO_g (show m_kx 2 _ _ _ from ⟨i1, fun _ => i2 (by decide), fun h => absurd h (by decide), fun _ => ⟨v1, v2⟩, fun h => absurd h (by decide), fun h => absurd h (by decide), fun h => absurd h (by decide), fun h => absurd h (by decide), fun h => absurd h (by decide)⟩))
  · exact m_kO_w (m_kO_g (show m_kx 3 _ _ _ from ⟨i1, fun _ => i2 (by decide), fun h => absurd h (by decide), fun _ => i5 (by decide), fun h => absurd h (by decide), fun h => absurd h (by decide), fun h => absurd h (by decide), fun h => absurd h (by decide), fun h => absurd h (by decide)⟩))
  · exact m_kO_n (fun v1 v2 => m_kO_g (show m_kx 4 _ _ _ from ⟨i1, fun _ => i2 (by decide), fun h => absurd h (by decide), fun _ => i5 (by decide), fun _ => ⟨v1, v2⟩, fun h => absurd h (by decide), fun h => absurd h (by decide), fun h => absurd h (by decide), fun h => absurd h (by decide)⟩))
  · exact m_kO_s (m_kO_g (show m_kx 5 _ _ _ from ⟨(m_S_0 (i2 (by decide))), fun h => absurd h (by decide), fun _ => ⟨(i5 (by decide)).1, (i5 (by decide)).2, (i6 rfl).1, (i6 rfl).2⟩, fun h => absurd h (by decide), fun h => absurd h (by decide), fun h => absurd h (by decide), fun h => absurd h (by decide), fun h => absurd h (by decide), fun h => absurd h (by decide)⟩))
  · exact m_kO_p i1 (i3 (by decide)) hi
  · exact m_kO_n (fun v1 v2 => m_kO_g (show m_kx 10 _ _ _ from ⟨i1, fun h => absurd h (by decide), fun _ => i3 (by decide), fun h => absurd h (by decide), fun h => absurd h (by decide), fun _ => v1, fun h => absurd h (by decide), fun h => absurd h (by decide), fun h => absurd h (by decide)⟩))
  · exact m_kO_i (fun _ => m_kO_i (fun _ => m_kO_h) (fun _ => m_kO_g (show m_kx 11 _ _ _ from ⟨i1, fun h => absurd h (by decide), fun _ => i3 (by decide), fun h => absurd h (by decide), fun h => absurd h (by decide), fun h => absurd h (by decide), fun h => absurd h (by decide), fun h => absurd h (by decide), fun h => absurd h (by decide)⟩))) (fun _ => m_kO_mp)
  · exact m_kO_w (m_kO_g (show m_kx 15 _ _ _ from ⟨i1, fun h => absurd h (by decide), fun _ => i3 (by decide), fun h => absurd h (by decide), fun h => absurd h (by decide), fun h => absurd h (by decide), fun h => absurd h (by decide), fun h => absurd h (by decide), fun h => absurd h (by decide)⟩))
  · exact m_kO_w (m_kO_g (show m_kx 18 _ _ _ from ⟨i1, fun h => absurd h (by decide), fun _ => i3 (by decide), fun h => absurd h (by decide), fun h => absurd h (by decide), fun h => absurd h (by decide), fun h => absurd h (by decide), fun h => absurd h (by decide), fun h => absurd h (by decide)⟩))
  · exact m_kO_s (m_kO_g (show m_kx 5 _ _ _ from ⟨(m_S_c i1 (i7 rfl)), fun h => absurd h (by decide), fun _ => i3 (by decide), fun h => absurd h (by decide), fun h => absurd h (by decide), fun h => absurd h (by decide), fun h => absurd h (by decide), fun h => absurd h (by decide), fun h => absurd h (by decide)⟩))
  · exact m_kO_w (m_kO_g (show m_kx 12 _ _ _ from ⟨i1, fun h => absurd h (by decide), fun _ => i3 (by decide), fun h => absurd h (by decide), fun h => absurd h (by decide), fun h => absurd h (by decide), fun h => absurd h (by decide), fun h => absurd h (by decide), fun h => absurd h (by decide)⟩))
  · exact m_kO_n (fun v1 v2 => m_kO_g (show m_kx 13 _ _ _ from ⟨i1, fun h => absurd h (by decide), fun _ => i3 (by decide), fun h => absurd h (by decide), fun h => absurd h (by decide), fun h => absurd h (by decide), fun h => absurd h (by decide), fun h => absurd h (by decide), fun h => absurd h (by decide)⟩))
  · exact m_kO_w (m_kO_g (show m_kx 14 _ _ _ from ⟨i1, fun h => absurd h (by decide), fun _ => i3 (by decide), fun h => absurd h (by decide), fun h => absurd h (by decide), fun h => absurd h (by decide), fun h => absurd h (by decide), fun h => absurd h (by decide), fun h => absurd h (by decide)⟩))
  · exact m_kO_n (fun v1 v2 => m_kO_g (show m_kx 23 _ _ _ from ⟨i1, fun h => absurd h (by decide), fun _ => i3 (by decide), fun h => absurd h (by decide), fun h => absurd h (by decide), fun h => absurd h (by decide), fun h => absurd h (by decide), fun h => absurd h (by decide), fun h => absurd h (by decide)⟩))
  · exact m_kO_n (fun v1 v2 => m_kO_g (show m_kx 21 _ _ _ from ⟨i1, fun h => absurd h (by decide), fun _ => i3 (by decide), fun h => absurd h (by decide), fun h => absurd h (by decide), fun h => absurd h (by decide), fun _ => (by have v3 : m_tv b n s ≤ m_tot (m_wcs W) - 1 := v2; show m_tv b n s < m_tot (m_wcs W); omega), fun h => absurd h (by decide), fun h => absurd h (by decide)⟩))
  · exact m_kO_w (m_kO_g (show m_kx 17 _ _ _ from ⟨i1, fun h => absurd h (by decide), fun _ => i3 (by decide), fun h => absurd h (by decide), fun h => absurd h (by decide), fun h => absurd h (by decide), fun h => absurd h (by decide), fun _ => i9 (by decide), fun h => absurd h (by decide)⟩))
  · exact m_kO_n (fun v1 v2 => m_kO_g (show m_kx 24 _ _ _ from ⟨i1, fun h => absurd h (by decide), fun _ => i3 (by decide), fun h => absurd h (by decide), fun h => absurd h (by decide), fun h => absurd h (by decide), fun h => absurd h (by decide), fun _ => i9 (by decide), fun _ => ⟨v1, by have v3 : m_tv b n s ≤ m_wo W - 1 := v2; show m_tv b n s < m_wo W; omega⟩⟩))
  · exact m_kO_n (fun v1 v2 => m_kO_g (show m_kx 22 _ _ _ from ⟨i1, fun h => absurd h (by decide), fun _ => i3 (by decide), fun h => absurd h (by decide), fun h => absurd h (by decide), fun h => absurd h (by decide), fun h => absurd h (by decide), fun h => absurd h (by decide), fun h => absurd h (by decide)⟩))
  · exact m_kO_w (m_kO_g (show m_kx 20 _ _ _ from ⟨i1, fun h => absurd h (by decide), fun _ => i3 (by decide), fun h => absurd h (by decide), fun h => absurd h (by decide), fun h => absurd h (by decide), fun h => absurd h (by decide), fun h => absurd h (by decide), fun h => absurd h (by decide)⟩))
  · exact m_kO_n (fun v1 v2 => m_kO_g (show m_kx 25 _ _ _ from ⟨i1, fun h => absurd h (by decide), fun _ => i3 (by decide), fun h => absurd h (by decide), fun h => absurd h (by decide), fun h => absurd h (by decide), fun h => absurd h (by decide), fun h => absurd h (by decide), fun h => absurd h (by decide)⟩))
  · exact m_kO_i (fun k => m_kO_g (show m_kx 16 _ _ _ from ⟨i1, fun h => absurd h (by decide), fun _ => i3 (by decide), fun h => absurd h (by decide), fun h => absurd h (by decide), fun h => absurd h (by decide), fun h => absurd h (by decide), fun _ => ⟨k, i8 rfl⟩, fun h => absurd h (by decide)⟩)) (fun _ => m_kO_h)
  · exact m_kO_i (fun _ => m_kO_h) (fun _ => m_kO_g (show m_kx 19 _ _ _ from ⟨i1, fun h => absurd h (by decide), fun _ => i3 (by decide), fun h => absurd h (by decide), fun h => absurd h (by decide), fun h => absurd h (by decide), fun h => absurd h (by decide), fun h => absurd h (by decide), fun h => absurd h (by decide)⟩))
  · exact m_kO_s (m_kO_g (show m_kx 5 _ _ _ from ⟨i1, fun h => absurd h (by decide), fun _ => i3 (by decide), fun h => absurd h (by decide), fun h => absurd h (by decide), fun h => absurd h (by decide), fun h => absurd h (by decide), fun h => absurd h (by decide), fun h => absurd h (by decide)⟩))
  · exact m_kO_s (m_kO_g (show m_kx 5 _ _ _ from ⟨(m_S_s i1 (i9 (by decide)) (i10 rfl)), fun h => absurd h (by decide), fun _ => i3 (by decide), fun h => absurd h (by decide), fun h => absurd h (by decide), fun h => absurd h (by decide), fun h => absurd h (by decide), fun h => absurd h (by decide), fun h => absurd h (by decide)⟩))
  · exact m_kO_s (m_kO_g (show m_kx 5 _ _ _ from ⟨i1, fun h => absurd h (by decide), fun _ => i3 (by decide), fun h => absurd h (by decide), fun h => absurd h (by decide), fun h => absurd h (by decide), fun h => absurd h (by decide), fun h => absurd h (by decide), fun h => absurd h (by decide)⟩))
theorem m_k_r {b : Int → Int} {n : Int} : ∀ k : Nat, m_kO (m_rn b n k)
  | 0 => m_kO_g (show m_kx 0 0 0 m_W0 from ⟨⟨fun q hq => absurd hq List.not_mem_nil, List.Pairwise.nil, by decide⟩, fun _ => rfl, fun h => absurd h (by decide), fun h => absurd h (by decide), fun h => absurd h (by decide), fun h => absurd h (by decide), fun h => absurd h (by decide), fun h => absurd h (by decide), fun h => absurd h (by decide)⟩)
  | k + 1 => by
    show m_kO (m_nxt b n (m_rn b n k))
    cases hk : m_rn b n k with
    | inl c =>
      have h := (m_k_r (b := b) (n := n) k).1 c hk
      have h2 := (show m_icx c.1 c.2.2.1 c.2.2.2.2.2 from m_ic_r k hk)
      obtain ⟨st, s, r1, r2, np, W⟩ := c
      exact m_k_s h2.2.1 h2.1 h
    | inr r =>
      have h := m_k_r (b := b) (n := n) k
      rw [hk] at h
      exact h
theorem m_at_S {b : Int → Int} {n : Int} {W : mW} (h : m_at b n (m_dn W)) : m_S W ∧ m_O W ∧ m_iw W := by
  obtain ⟨k, hk⟩ := h
  exact (m_k_r k).2 W hk
/-- the machine's wall in the block -/
theorem m_wr_srt {bb : Int → Int} {rn : Int} {nw ww A B : Int → Int} {W : mW} (hS : m_S W) (hO : m_O W) (hw : m_wr bb rn nw ww W) (ho : nw 0 = m_wo W ∧ nw 1 = m_wf W) (hA : ∀ i, 0 ≤ i → i < 6 → A i = nw i) (hB : ∀ i, 0 ≤ i → i < 42 → B i = nw (7 + i)) (hi : m_ln (m_wcs W) ≤ 6 ∧ m_ln (m_wss W) ≤ 6) : m_srt A B ∧ m_NB A B = m_tot (m_wcs W) ∧ ∀ s, m_lk (m_wss W) 0 s = m_by A B s := by
  have hN : m_NB A B = m_tot (m_wcs W) := by
    rw [← m_wr_tot hw]
    unfold m_NB
    rw [hA 2 (by decide) (by decide)]
    refine m_sum_ext _ fun i h => ?_
    rw [hw.1.1] at h
    exact hB i (by omega) (by omega)
  have hl : ∀ k : Nat, k < (m_wss W).length → (m_wss W)[k]? = some (B (14 + (k : Int)), B (20 + (k : Int))) := by
    intro k hk
    have h6 : k < 6 := by have := hi.2; unfold m_ln at this; omega
    rw [hw.2.2.2.1 k hk, hB (14 + k) (by omega) (by omega), hB (20 + k) (by omega) (by omega), show 7 + (14 + (k : Int)) = 21 + k by omega, show 7 + (20 + (k : Int)) = 27 + k by omega]
  have h4 : A 4 = m_ln (m_wss W) := by rw [hA 4 (by decide) (by decide)]; exact hw.1.2.2.1
  refine ⟨?_, hN, fun s => ?_⟩
  · obtain ⟨o1, o2, o3, o4⟩ := hO
    have e0 : A 0 = m_wo W := by rw [hA 0 (by decide) (by decide)]; exact ho.1
    have e1 : A 1 = m_wf W := by rw [hA 1 (by decide) (by decide)]; exact ho.2
    have l0 := m_ln_0 (m_wss W)
    refine ⟨by omega, by omega, by omega, by omega, by omega, by omega, fun k k0 k1 => ?_⟩
    have hk : k.toNat < (m_wss W).length := by unfold m_ln at h4; omega
    have hg := hl k.toNat hk
    rw [show ((k.toNat : Nat) : Int) = k by omega] at hg
    obtain ⟨a1, a2, a3, a4, -⟩ := hS.1 _ (List.mem_of_getElem? hg)
    rw [hN, e0]
    refine ⟨a1, a2, a3, a4, fun k2 => ?_⟩
    have hk2 : k.toNat + 1 < (m_wss W).length := by unfold m_ln at h4; omega
    have hg2 := hl (k.toNat + 1) hk2
    rw [show ((k.toNat + 1 : Nat) : Int) = k + 1 by omega] at hg2
    have hp := List.pairwise_iff_getElem.mp hS.2.1 k.toNat (k.toNat + 1) hk hk2 (Nat.lt_succ_self _)
    rw [List.getElem?_eq_getElem hk] at hg
    rw [List.getElem?_eq_getElem hk2] at hg2
    rw [Option.some.inj hg, Option.some.inj hg2] at hp
    exact hp
  · have h := m_lk_byn (s := s) hl (m_wss W).length (Nat.le_refl _)
    rw [List.take_length] at h
    rw [h]
    unfold m_by
    rw [h4, m_ln_t]
theorem m_tx_tb {A B : Int → Int} (h : m_srt A B) : ∀ k : Nat, m_tx (A 0) (A 1) (m_by A B) k = m_tb A B k
  | 0 => rfl
  | k + 1 => by
    show m_cw (A 0) (m_tx (A 0) (A 1) (m_by A B) k) (m_by A B ((k + 1 : Nat) : Int)) = m_af (A 0) (m_tb A B k) (m_by A B ((k + 1 : Nat) : Int))
    rw [m_tx_tb h k]
    exact m_cw_af (m_tb_rg h k).1 (m_tb_rg h k).2 (m_by_rg h).1 (m_by_rg h).2
theorem m_sx_sb {A B : Int → Int} (h : m_srt A B) : ∀ k : Nat, m_sx (A 0) (A 1) k = m_sb A B k
  | 0 => rfl
  | k + 1 => by
    show m_cb (A 0) (m_sx (A 0) (A 1) k) = m_af (A 0) (m_sb A B k) 0
    rw [m_sx_sb h k, ← m_cw_af (m_sb_rg h k).1 (m_sb_rg h k).2 (Int.le_refl _) (by have := h.1; omega)]
    unfold m_cw
    have := (m_sb_rg h k).2
    have h2 := h.1
    rw [if_neg (by unfold m_cb; split <;> omega)]
    omega
/-- the count's relation hangs on the cells 0 to 5 and those from 7 on -/
theorem m_byn_ext {B B' : Int → Int} {s : Int} (h : ∀ i, 0 ≤ i → i < 42 → B i = B' i) : ∀ n : Nat, n ≤ 6 → m_byn B s n = m_byn B' s n
  | 0, _ => rfl
  | n + 1, hn => by
    show (if B (14 + (n : Int)) = s then B (20 + (n : Int)) else m_byn B s n) = if B' (14 + (n : Int)) = s then B' (20 + (n : Int)) else m_byn B' s n
    rw [h (14 + n) (by omega) (by omega), h (20 + n) (by omega) (by omega), m_byn_ext h n (by omega)]
theorem m_TC_ext {yo yn zo zn : Int} {yk yl zk zl A B A' B' : Int → Int} (h : m_TC yo yn yk yl A B) (h1 : zo = yo) (h2 : zn = yn) (h3 : m_eqa yk zk) (h4 : m_eqa yl zl) (hA : ∀ i, 0 ≤ i → i < 6 → A' i = A i) (hB : ∀ i, 0 ≤ i → i < 42 → B' i = B i) (hn : yn ≤ 96) : m_TC zo zn zk zl A' B' := by
  obtain ⟨e1, e2, e3, e4, hc⟩ := h
  have a0 := hA 0 (by decide) (by decide)
  have a1 := hA 1 (by decide) (by decide)
  have a2 := hA 2 (by decide) (by decide)
  have a4 := hA 4 (by decide) (by decide)
  have hN : m_NB A' B' = m_NB A B := by
    unfold m_NB
    rw [a2]
    exact m_sum_ext _ fun i hi => hB i (by omega) (by omega)
  obtain ⟨s1, s2, s3, s4, s5, s6, s7⟩ := e3
  have hy : ∀ s, m_by A' B' s = m_by A B s := fun s => by
    unfold m_by
    rw [a4]
    exact m_byn_ext hB _ (by omega)
  have ht : ∀ k : Nat, m_tb A' B' k = m_tb A B k := by
    intro k
    induction k with
    | zero => exact a1
    | succ k ih =>
      show m_af (A' 0) (m_tb A' B' k) (m_by A' B' ((k + 1 : Nat) : Int)) = m_af (A 0) (m_tb A B k) (m_by A B ((k + 1 : Nat) : Int))
      rw [a0, ih, hy]
  have hs : ∀ k : Nat, m_sb A' B' k = m_sb A B k := by
    intro k
    induction k with
    | zero => exact a1
    | succ k ih =>
      show m_af (A' 0) (m_sb A' B' k) 0 = m_af (A 0) (m_sb A B k) 0
      rw [a0, ih]
  refine ⟨by omega, by omega, ⟨by omega, by omega, by omega, by omega, by omega, by omega, fun k k0 k1 => ?_⟩, fun j hj => ?_, by omega⟩
  · have := s7 k k0 (by omega)
    rw [hN, a0, hB (14 + k) (by omega) (by omega), hB (20 + k) (by omega) (by omega)]
    refine ⟨this.1, this.2.1, this.2.2.1, this.2.2.2.1, fun k2 => ?_⟩
    rw [hB (14 + (k + 1)) (by omega) (by omega)]
    exact this.2.2.2.2 (by omega)
  · have := e4 j (by omega)
    rw [ht, hs, h3 j (by omega) (by omega), h4 j (by omega) (by omega)]
    exact this
theorem m_hc_le {A B : Int → Int} {f : Int} : ∀ m : Nat, 0 ≤ m_hc A B f m ∧ m_hc A B f m ≤ m
  | 0 => ⟨Int.le_refl _, Int.le_refl _⟩
  | m + 1 => by
    have := m_hc_le (A := A) (B := B) (f := f) m
    show 0 ≤ m_hc A B f m + (if m_hl A B (f + (m : Int)) then 1 else 0) ∧ _
    show _ ∧ m_hc A B f m + (if m_hl A B (f + (m : Int)) then 1 else 0) ≤ ((m + 1 : Nat) : Int)
    split <;> omega
theorem m_hc_s {A B : Int → Int} {f s : Int} (h : f ≤ s) : m_hc A B f (s + 1 - f).toNat = m_hc A B f (s - f).toNat + if m_hl A B s then 1 else 0 := by
  rw [show (s + 1 - f).toNat = (s - f).toNat + 1 by omega]
  show m_hc A B f (s - f).toNat + (if m_hl A B (f + ((s - f).toNat : Int)) then 1 else 0) = _
  rw [show f + ((s - f).toNat : Int) = s by omega]
theorem m_hc_mono {A B : Int → Int} {f : Int} : ∀ d m : Nat, m_hc A B f m ≤ m_hc A B f (m + d)
  | 0, _ => Int.le_refl _
  | d + 1, m => by
    have := m_hc_mono (A := A) (B := B) (f := f) d m
    show m_hc A B f m ≤ m_hc A B f (m + d) + if m_hl A B (f + ((m + d : Nat) : Int)) then 1 else 0
    split <;> omega
theorem m_upo_id {off n : Nat} {f : Int → Int} {i z : Int} (h : ∀ p, i - off = p → 0 ≤ p → p < n → f p = z) : m_upo off n f i z = f := by
  funext j
  unfold m_upo
  by_cases k : 0 ≤ i - off ∧ i - off < n
  · rw [if_pos k]
    by_cases e : j = i - off
    · rw [m_up_at e, e, h _ rfl k.1 k.2]
    · rw [m_up_ne e]
  · rw [if_neg k]
theorem m_d3 {n s k n1 s1 k1 : Int} (e : n + 128 * s + 16384 * k + 35184372088832 = n1 + 128 * s1 + 16384 * (k1 + 2147483648)) (a1 : 0 ≤ n1) (a2 : n1 ≤ 127) (a3 : 0 ≤ s1) (a4 : s1 ≤ 127) (c0 : 0 ≤ n) (c1 : 0 ≤ (-1) * n + 127) (c2 : 0 ≤ s) (c3 : 0 ≤ (-1) * s + 127) : n1 = n ∧ s1 = s ∧ k1 = k := by
  have h1 : k1 = k := by omega
  have h2 : s1 = s := by omega
  omega
