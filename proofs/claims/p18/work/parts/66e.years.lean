-- 66e.years: the years told, rows of years, join's counts
theorem m_ems {x o : Int} (h : 0 < o) : (x + 1) % o = if x % o + 1 = o then 0 else x % o + 1 := by
  have h1 := Int.emod_nonneg x (show o ≠ 0 by omega)
  have h2 := Int.emod_lt_of_pos x h
  rw [← Int.emod_add_emod x o 1]
  by_cases e : x % o + 1 = o
  · rw [if_pos e, e]; exact Int.emod_self
  · rw [if_neg e]; exact Int.emod_eq_of_lt (by omega) (by omega)
theorem m_em0 {x o : Int} (h : 0 < o) : x % o + 1 = o ↔ (x + 1) % o = 0 := by
  have h1 := Int.emod_nonneg x (show o ≠ 0 by omega)
  have hs := m_ems (x := x) h
  by_cases e : x % o + 1 = o
  · rw [if_pos e] at hs; exact ⟨fun _ => hs, fun _ => e⟩
  · rw [if_neg e] at hs; exact ⟨fun q => absurd q e, fun q => by omega⟩
theorem m_jo_z {l s o : Int} (h : 0 < o) : (l + (s + 1) - 1) % o + 1 = o ↔ (l + s + 1) % o = 0 := by
  rw [show l + (s + 1) - 1 = l + s by omega]
  exact m_em0 h
theorem m_jt_z {b s n : Int} (h : 0 < n) : (b + s - 1) % n + 1 = n ↔ (b + s) % n = 0 := by
  have := m_em0 (x := b + s - 1) h
  rw [show b + s - 1 + 1 = b + s by omega] at this
  exact this
theorem m_jn_le {o l n b : Int} : ∀ s : Nat, 0 ≤ m_jn o l n b s ∧ m_jn o l n b s ≤ s
  | 0 => ⟨Int.le_refl _, Int.le_refl _⟩
  | s + 1 => by
    have h := m_jn_le (o := o) (l := l) (n := n) (b := b) s
    show 0 ≤ m_jn o l n b s + (if (l + (s : Int) + 1) % o = 0 ∧ (b + (s : Int)) % n = 0 then 1 else 0) ∧ m_jn o l n b s + (if (l + (s : Int) + 1) % o = 0 ∧ (b + (s : Int)) % n = 0 then 1 else 0) ≤ ((s + 1 : Nat) : Int)
    split <;> omega
theorem m_jn_s {o l n b s : Int} (h : 0 ≤ s) : m_jn o l n b (s + 1).toNat = m_jn o l n b s.toNat + if (l + s + 1) % o = 0 ∧ (b + s) % n = 0 then 1 else 0 := by
  rw [show (s + 1).toNat = s.toNat + 1 by omega]
  show m_jn o l n b s.toNat + (if (l + ((s.toNat : Nat) : Int) + 1) % o = 0 ∧ (b + ((s.toNat : Nat) : Int)) % n = 0 then 1 else 0) = _
  rw [show ((s.toNat : Nat) : Int) = s by omega]
-- what the machine's finds are like
def m_Fd (W : mW) : Prop := (∀ q ∈ m_wfs W, 0 ≤ q.1 ∧ q.1 < m_tot (m_wcs W) ∧ 0 ≤ q.2 ∧ q.2 ≤ 9999) ∧ (m_wfs W).Pairwise (fun a b => a.1 ≠ b.1)
def m_fx (st r1 r2 : Int) (W : mW) : Prop := m_Fd W ∧ (st = 10 → 1 ≤ r1) ∧ (st = 22 → 0 ≤ r1 ∧ r1 < m_tot (m_wcs W)) ∧ (st = 19 ∨ st = 20 ∨ st = 25 → 0 ≤ r1 ∧ r1 < m_tot (m_wcs W) ∧ m_has (m_wfs W) r1 = false) ∧ (st = 25 → 0 ≤ r2 ∧ r2 ≤ 9999)
def m_fO (o : mO) : Prop := (∀ c, o = Sum.inl c → m_fx c.1 c.2.2.1 c.2.2.2.1 c.2.2.2.2.2) ∧ ∀ W, o = m_dn W → m_Fd W
theorem m_fO_h {f p : Int} : m_fO (m_ht f p) := ⟨fun c h => (by cases h), fun W h => (by cases h)⟩
theorem m_fO_d {W : mW} (h : m_Fd W) : m_fO (m_dn W) := ⟨fun c h => (by cases h), fun W' e => (by cases e; exact h)⟩
theorem m_fO_i {p : Prop} [Decidable p] {x y : mO} (h1 : p → m_fO x) (h2 : ¬ p → m_fO y) : m_fO (if p then x else y) := by
  by_cases e : p
  · rw [if_pos e]; exact h1 e
  · rw [if_neg e]; exact h2 e
theorem m_fO_mp {b : Int → Int} {n s : Int} : m_fO (m_mp b n s) := m_fO_h
theorem m_fO_w {b : Int → Int} {n s w : Int} {o : mO} (h : m_fO o) : m_fO (m_swd b n s w o) := m_fO_i (fun _ => h) (fun _ => m_fO_mp)
theorem m_fO_n {b : Int → Int} {n s l u : Int} {o : mO} (h : l ≤ m_tv b n s → m_tv b n s ≤ u → m_fO o) : m_fO (m_snm b n s l u o) := m_fO_i (fun _ => m_fO_i (fun k => h k.1 k.2) (fun _ => m_fO_h)) (fun _ => m_fO_mp)
theorem m_fO_s {b : Int → Int} {n s : Int} {o : mO} (h : m_fO o) : m_fO (m_ssg b n s o) := m_fO_i (fun _ => h) (fun _ => m_fO_mp)
theorem m_fO_g {st s r1 r2 np : Int} {W : mW} (h : m_fx st r1 r2 W) : m_fO (m_go st s r1 r2 np W) := ⟨fun c e => by cases e; exact h, fun W' e => by cases e⟩
theorem m_fO_p {b : Int → Int} {n s : Int} {W : mW} (h : m_Fd W) : m_fO (m_prt b n s W) := by
  have g : ∀ st : Int, st = 6 ∨ st = 7 ∨ st = 8 ∨ st = 9 → m_fO (m_go st (m_sk b n (m_te b n s)) 0 0 0 W) := fun st hst => m_fO_g ⟨h, fun _ => by omega, fun _ => by omega, fun _ => by omega, fun _ => by omega⟩
  exact m_fO_i (fun _ => m_fO_d h) (fun _ => m_fO_i (fun _ => m_fO_i (fun _ => m_fO_h) (fun _ => g 6 (by decide))) (fun _ => m_fO_i (fun _ => m_fO_i (fun _ => m_fO_h) (fun _ => g 7 (by decide))) (fun _ => m_fO_i (fun _ => m_fO_i (fun _ => m_fO_h) (fun _ => g 8 (by decide))) (fun _ => m_fO_i (fun _ => m_fO_i (fun _ => m_fO_h) (fun _ => g 9 (by decide))) (fun _ => m_fO_mp)))))
theorem m_Fd_c {W : mW} {r : Int} (h : m_Fd W) (hr : 1 ≤ r) : m_Fd (W.1, W.2.1, m_wcs W ++ [r], W.2.2.2) := by
  refine ⟨fun q hq => ?_, h.2⟩
  obtain ⟨a1, a2, a3⟩ := h.1 q hq
  refine ⟨a1, ?_, a3⟩
  have := m_tot_a (m_wcs W) r
  show q.1 < m_tot (m_wcs W ++ [r])
  omega
theorem m_Fd_f {W : mW} {r1 r2 : Int} (h : m_Fd W) (h1 : 0 ≤ r1 ∧ r1 < m_tot (m_wcs W) ∧ m_has (m_wfs W) r1 = false) (h2 : 0 ≤ r2 ∧ r2 ≤ 9999) : m_Fd (W.1, W.2.1, m_wcs W, m_wms W, m_wss W, m_wfs W ++ [(r1, r2)]) := by
  refine ⟨fun q hq => ?_, List.pairwise_append.mpr ⟨h.2, List.pairwise_singleton _ _, fun a ma b mb => ?_⟩⟩
  · rcases List.mem_append.mp hq with hq | hq
    · exact h.1 q hq
    · rw [List.mem_singleton.mp hq]
      exact ⟨h1.1, h1.2.1, h2.1, h2.2⟩
  · rw [List.mem_singleton.mp mb]
    intro e
    have := m_has_t.mpr ⟨a, ma, e⟩
    rw [h1.2.2] at this
    cases this
theorem m_f_s {b : Int → Int} {n st s r1 r2 np : Int} {W : mW} (hst : 0 ≤ st ∧ st ≤ 25) (hc : m_fx st r1 r2 W) : m_fO (m_stp b n (st, s, r1, r2, np, W)) := by
  obtain ⟨i1, i2, i3, i4, i5⟩ := hc
  have hs : st = 0 ∨ st = 1 ∨ st = 2 ∨ st = 3 ∨ st = 4 ∨ st = 5 ∨ st = 6 ∨ st = 7 ∨ st = 8 ∨ st = 9 ∨ st = 10 ∨ st = 11 ∨ st = 12 ∨ st = 13 ∨ st = 14 ∨ st = 15 ∨ st = 16 ∨ st = 17 ∨ st = 18 ∨ st = 19 ∨ st = 20 ∨ st = 21 ∨ st = 22 ∨ st = 23 ∨ st = 24 ∨ st = 25 := by omega
  rcases hs with rfl | rfl | rfl | rfl | rfl | rfl | rfl | rfl | rfl | rfl | rfl | rfl | rfl | rfl | rfl | rfl | rfl | rfl | rfl | rfl | rfl | rfl | rfl | rfl | rfl | rfl
  · exact m_fO_w (m_fO_g (show m_fx 1 _ _ _ from ⟨i1, fun h => absurd h (by decide), fun h => absurd h (by decide), fun h => absurd h (by decide), fun h => absurd h (by decide)⟩))
  · exact m_fO_n (fun v1 v2 => m_fO_g (show m_fx 2 _ _ _ from ⟨i1, fun h => absurd h (by decide), fun h => absurd h (by decide), fun h => absurd h (by decide), fun h => absurd h (by decide)⟩))
  · exact m_fO_w (m_fO_g (show m_fx 3 _ _ _ from ⟨i1, fun h => absurd h (by decide), fun h => absurd h (by decide), fun h => absurd h (by decide), fun h => absurd h (by decide)⟩))
  · exact m_fO_n (fun v1 v2 => m_fO_g (show m_fx 4 _ _ _ from ⟨i1, fun h => absurd h (by decide), fun h => absurd h (by decide), fun h => absurd h (by decide), fun h => absurd h (by decide)⟩))
  · exact m_fO_s (m_fO_g (show m_fx 5 _ _ _ from ⟨i1, fun h => absurd h (by decide), fun h => absurd h (by decide), fun h => absurd h (by decide), fun h => absurd h (by decide)⟩))
  · exact m_fO_p i1
  · exact m_fO_n (fun v1 v2 => m_fO_g (show m_fx 10 _ _ _ from ⟨i1, fun _ => v1, fun h => absurd h (by decide), fun h => absurd h (by decide), fun h => absurd h (by decide)⟩))
  · exact m_fO_i (fun _ => m_fO_i (fun _ => m_fO_h) (fun _ => m_fO_g (show m_fx 11 _ _ _ from ⟨i1, fun h => absurd h (by decide), fun h => absurd h (by decide), fun h => absurd h (by decide), fun h => absurd h (by decide)⟩))) (fun _ => m_fO_mp)
  · exact m_fO_w (m_fO_g (show m_fx 15 _ _ _ from ⟨i1, fun h => absurd h (by decide), fun h => absurd h (by decide), fun h => absurd h (by decide), fun h => absurd h (by decide)⟩))
  · exact m_fO_w (m_fO_g (show m_fx 18 _ _ _ from ⟨i1, fun h => absurd h (by decide), fun h => absurd h (by decide), fun h => absurd h (by decide), fun h => absurd h (by decide)⟩))
  · exact m_fO_s (m_fO_g (show m_fx 5 _ _ _ from ⟨(m_Fd_c i1 (i2 rfl)), fun h => absurd h (by decide), fun h => absurd h (by decide), fun h => absurd h (by decide), fun h => absurd h (by decide)⟩))
  · exact m_fO_w (m_fO_g (show m_fx 12 _ _ _ from ⟨i1, fun h => absurd h (by decide), fun h => absurd h (by decide), fun h => absurd h (by decide), fun h => absurd h (by decide)⟩))
  · exact m_fO_n (fun v1 v2 => m_fO_g (show m_fx 13 _ _ _ from ⟨i1, fun h => absurd h (by decide), fun h => absurd h (by decide), fun h => absurd h (by decide), fun h => absurd h (by decide)⟩))
  · exact m_fO_w (m_fO_g (show m_fx 14 _ _ _ from ⟨i1, fun h => absurd h (by decide), fun h => absurd h (by decide), fun h => absurd h (by decide), fun h => absurd h (by decide)⟩))
  · exact m_fO_n (fun v1 v2 => m_fO_g (show m_fx 23 _ _ _ from ⟨i1, fun h => absurd h (by decide), fun h => absurd h (by decide), fun h => absurd h (by decide), fun h => absurd h (by decide)⟩))
  · exact m_fO_n (fun v1 v2 => m_fO_g (show m_fx 21 _ _ _ from ⟨i1, fun h => absurd h (by decide), fun h => absurd h (by decide), fun h => absurd h (by decide), fun h => absurd h (by decide)⟩))
  · exact m_fO_w (m_fO_g (show m_fx 17 _ _ _ from ⟨i1, fun h => absurd h (by decide), fun h => absurd h (by decide), fun h => absurd h (by decide), fun h => absurd h (by decide)⟩))
  · exact m_fO_n (fun v1 v2 => m_fO_g (show m_fx 24 _ _ _ from ⟨i1, fun h => absurd h (by decide), fun h => absurd h (by decide), fun h => absurd h (by decide), fun h => absurd h (by decide)⟩))
  · exact m_fO_n (fun v1 v2 => m_fO_g (show m_fx 22 _ _ _ from ⟨i1, fun h => absurd h (by decide), fun _ => ⟨v1, (by have v3 : m_tv b n s ≤ m_tot (m_wcs W) - 1 := v2; show m_tv b n s < m_tot (m_wcs W); omega)⟩, fun h => absurd h (by decide), fun h => absurd h (by decide)⟩))
  · exact m_fO_w (m_fO_g (show m_fx 20 _ _ _ from ⟨i1, fun h => absurd h (by decide), fun h => absurd h (by decide), fun _ => i4 (by decide), fun h => absurd h (by decide)⟩))
  · exact m_fO_n (fun v1 v2 => m_fO_g (show m_fx 25 _ _ _ from ⟨i1, fun h => absurd h (by decide), fun h => absurd h (by decide), fun _ => i4 (by decide), fun _ => ⟨v1, v2⟩⟩))
  · exact m_fO_i (fun _ => m_fO_g (show m_fx 16 _ _ _ from ⟨i1, fun h => absurd h (by decide), fun h => absurd h (by decide), fun h => absurd h (by decide), fun h => absurd h (by decide)⟩)) (fun _ => m_fO_h)
  · exact m_fO_i (fun _ => m_fO_h) (fun k => m_fO_g (show m_fx 19 _ _ _ from ⟨i1, fun h => absurd h (by decide), fun h => absurd h (by decide), fun _ => ⟨(i3 rfl).1, (i3 rfl).2, Bool.eq_false_iff.mpr k⟩, fun h => absurd h (by decide)⟩))
  · exact m_fO_s (m_fO_g (show m_fx 5 _ _ _ from ⟨i1, fun h => absurd h (by decide), fun h => absurd h (by decide), fun h => absurd h (by decide), fun h => absurd h (by decide)⟩))
  · exact m_fO_s (m_fO_g (show m_fx 5 _ _ _ from ⟨i1, fun h => absurd h (by decide), fun h => absurd h (by decide), fun h => absurd h (by decide), fun h => absurd h (by decide)⟩))
  · exact m_fO_s (m_fO_g (show m_fx 5 _ _ _ from ⟨(m_Fd_f i1 (i4 (by decide)) (i5 rfl)), fun h => absurd h (by decide), fun h => absurd h (by decide), fun h => absurd h (by decide), fun h => absurd h (by decide)⟩))
theorem m_f_r {b : Int → Int} {n : Int} : ∀ k : Nat, m_fO (m_rn b n k)
  | 0 => m_fO_g (show m_fx 0 0 0 m_W0 from ⟨⟨fun q hq => absurd hq List.not_mem_nil, List.Pairwise.nil⟩, fun h => absurd h (by decide), fun h => absurd h (by decide), fun h => absurd h (by decide), fun h => absurd h (by decide)⟩)
  | k + 1 => by
    show m_fO (m_nxt b n (m_rn b n k))
    cases hk : m_rn b n k with
    | inl c =>
      have h := (m_f_r (b := b) (n := n) k).1 c hk
      have h2 := (show m_icx c.1 c.2.2.1 c.2.2.2.2.2 from m_ic_r k hk)
      obtain ⟨st, s, r1, r2, np, W⟩ := c
      exact m_f_s h2.2.1 h
    | inr r =>
      have h := m_f_r (b := b) (n := n) k
      rw [hk] at h
      exact h
theorem m_at_F {b : Int → Int} {n : Int} {W : mW} (h : m_at b n (m_dn W)) : m_Fd W := by
  obtain ⟨k, hk⟩ := h
  exact (m_f_r k).2 W hk
-- the years told
theorem m_lk_yfn {l : List (Int × Int)} {B : Int → Int} {s : Int} (h : ∀ k : Nat, k < l.length → l[k]? = some (B (26 + (k : Int)), B (34 + (k : Int)))) : ∀ n : Nat, n ≤ l.length → m_lk (l.take n) (-1) s = m_yfn B s n
  | 0, _ => rfl
  | n + 1, hn => by
    rw [List.take_add_one, h n (by omega)]
    show m_lk (l.take n ++ [(B (26 + (n : Int)), B (34 + (n : Int)))]) (-1) s = _
    rw [m_lk_a, m_lk_yfn h n (by omega)]
    show _ = if B (26 + (n : Int)) = s then B (34 + (n : Int)) else m_yfn B s n
    by_cases e : s = B (26 + (n : Int))
    · rw [if_pos e, if_pos e.symm]
    · rw [if_neg e, if_neg (fun q => e q.symm)]
theorem m_yfn_0 {B : Int → Int} {s : Int} : ∀ n : Nat, (∀ j, 0 ≤ j → j < (n : Int) → B (26 + j) ≠ s) → m_yfn B s n = -1
  | 0, _ => rfl
  | n + 1, h => by
    show (if B (26 + (n : Int)) = s then B (34 + (n : Int)) else m_yfn B s n) = -1
    rw [if_neg (h n (by omega) (by omega))]
    exact m_yfn_0 n (fun j a b => h j a (by omega))
theorem m_yfn_at {B : Int → Int} {s k : Int} (hk : B (26 + k) = s) : ∀ n : Nat, 0 ≤ k → k < (n : Int) → (∀ j, 0 ≤ j → j < (n : Int) → B (26 + j) = s → j = k) → m_yfn B s n = B (34 + k)
  | 0, _, h, _ => by omega
  | n + 1, h0, h1, h => by
    show (if B (26 + (n : Int)) = s then B (34 + (n : Int)) else m_yfn B s n) = _
    by_cases e : B (26 + (n : Int)) = s
    · rw [if_pos e, h n (by omega) (by omega) e]
    · rw [if_neg e]
      have : k ≠ n := fun q => e (q ▸ hk)
      exact m_yfn_at hk n h0 (by omega) (fun j a b c => h j a (by omega) c)
theorem m_yfn_ex {B : Int → Int} {s : Int} : ∀ n : Nat, m_yfn B s n = -1 ∨ ∃ k, 0 ≤ k ∧ k < (n : Int) ∧ B (26 + k) = s ∧ m_yfn B s n = B (34 + k)
  | 0 => Or.inl rfl
  | n + 1 => by
    show (if B (26 + (n : Int)) = s then B (34 + (n : Int)) else m_yfn B s n) = -1 ∨ ∃ k, 0 ≤ k ∧ k < ((n + 1 : Nat) : Int) ∧ B (26 + k) = s ∧ (if B (26 + (n : Int)) = s then B (34 + (n : Int)) else m_yfn B s n) = B (34 + k)
    by_cases e : B (26 + (n : Int)) = s
    · rw [if_pos e]
      exact Or.inr ⟨n, by omega, by omega, e, rfl⟩
    · rw [if_neg e]
      rcases m_yfn_ex (B := B) (s := s) n with h | ⟨k, h0, h1, h2, h3⟩
      · exact Or.inl h
      · exact Or.inr ⟨k, h0, by omega, h2, h3⟩
theorem m_yfn_ext {B B' : Int → Int} {s : Int} (h : ∀ i, 0 ≤ i → i < 42 → B i = B' i) : ∀ n : Nat, n ≤ 8 → m_yfn B s n = m_yfn B' s n
  | 0, _ => rfl
  | n + 1, hn => by
    show (if B (26 + (n : Int)) = s then B (34 + (n : Int)) else m_yfn B s n) = if B' (26 + (n : Int)) = s then B' (34 + (n : Int)) else m_yfn B' s n
    rw [h (26 + n) (by omega) (by omega), h (34 + n) (by omega) (by omega), m_yfn_ext h n (by omega)]
theorem m_yf_ex {A B : Int → Int} (h : m_fok A B) (s : Int) : m_yf A B s = -1 ∨ ∃ k, 0 ≤ k ∧ k < A 5 ∧ B (26 + k) = s ∧ m_yf A B s = B (34 + k) := by
  rcases m_yfn_ex (B := B) (s := s) (A 5).toNat with e | ⟨k, h0, h1, h2, h3⟩
  · exact Or.inl e
  · exact Or.inr ⟨k, h0, by have := h.1; omega, h2, h3⟩
theorem m_yf_rg {A B : Int → Int} (h : m_fok A B) (s : Int) : -1 ≤ m_yf A B s ∧ m_yf A B s ≤ 9999 := by
  rcases m_yf_ex h s with e | ⟨k, h0, h1, h2, h3⟩
  · omega
  · have := h.2.2.1 k h0 h1
    omega
theorem m_yf_lt {A B : Int → Int} (h : m_fok A B) {s : Int} (hs : 0 ≤ m_yf A B s) : 0 ≤ s ∧ s < m_NB A B := by
  rcases m_yf_ex h s with e | ⟨k, h0, h1, h2, h3⟩
  · omega
  · have := h.2.2.1 k h0 h1
    omega
theorem m_yf_no {A B : Int → Int} {s : Int} (h : ∀ j, 0 ≤ j → j < A 5 → B (26 + j) ≠ s) : m_yf A B s = -1 := m_yfn_0 _ fun j a b => h j a (by omega)
theorem m_yf_k {A B : Int → Int} (h : m_fok A B) {k s : Int} (h0 : 0 ≤ k) (h1 : k < A 5) (h2 : B (26 + k) = s) : m_yf A B s = B (34 + k) := by
  refine m_yfn_at h2 _ h0 (by omega) fun j a b c => ?_
  by_cases e : j < k
  · exact absurd (c.trans h2.symm) (h.2.2.2 j k a e h1)
  · by_cases e2 : k < j
    · exact absurd (h2.trans c.symm) (h.2.2.2 k j h0 e2 (by omega))
    · omega
theorem m_wr_fok {bb : Int → Int} {rn : Int} {nw ww A B : Int → Int} {W : mW} (hF : m_Fd W) (hw : m_wr bb rn nw ww W) (hA : ∀ i, 0 ≤ i → i < 6 → A i = nw i) (hB : ∀ i, 0 ≤ i → i < 42 → B i = nw (7 + i)) (hN : m_NB A B = m_tot (m_wcs W)) (hi : m_ln (m_wfs W) ≤ 8) : m_fok A B ∧ ∀ s, m_lk (m_wfs W) (-1) s = m_yf A B s := by
  have h5 : A 5 = m_ln (m_wfs W) := by rw [hA 5 (by decide) (by decide)]; exact hw.1.2.2.2
  have l0 := m_ln_0 (m_wfs W)
  have hl : ∀ k : Nat, k < (m_wfs W).length → (m_wfs W)[k]? = some (B (26 + (k : Int)), B (34 + (k : Int))) := by
    intro k hk
    have h8 : k < 8 := by unfold m_ln at hi; omega
    rw [hw.2.2.2.2.1 k hk, hB (26 + k) (by omega) (by omega), hB (34 + k) (by omega) (by omega), show 7 + (26 + (k : Int)) = 33 + k by omega, show 7 + (34 + (k : Int)) = 41 + k by omega]
  refine ⟨⟨by omega, by omega, fun k k0 k1 => ?_, fun i j i0 i1 i2 => ?_⟩, fun s => ?_⟩
  · have hk : k.toNat < (m_wfs W).length := by unfold m_ln at h5; omega
    have hg := hl k.toNat hk
    rw [show ((k.toNat : Nat) : Int) = k by omega] at hg
    rw [hN]
    exact hF.1 _ (List.mem_of_getElem? hg)
  · have hi' : i.toNat < (m_wfs W).length := by unfold m_ln at h5; omega
    have hj' : j.toNat < (m_wfs W).length := by unfold m_ln at h5; omega
    have gi := hl i.toNat hi'
    have gj := hl j.toNat hj'
    rw [show ((i.toNat : Nat) : Int) = i by omega] at gi
    rw [show ((j.toNat : Nat) : Int) = j by omega] at gj
    have hp := List.pairwise_iff_getElem.mp hF.2 i.toNat j.toNat hi' hj' (by omega)
    rw [List.getElem?_eq_getElem hi'] at gi
    rw [List.getElem?_eq_getElem hj'] at gj
    rw [Option.some.inj gi, Option.some.inj gj] at hp
    exact hp
  · have h := m_lk_yfn (s := s) hl (m_wfs W).length (Nat.le_refl _)
    rw [List.take_length] at h
    rw [h]
    unfold m_yf
    rw [h5, m_ln_t]
theorem m_tot_le : ∀ l : List Int, (∀ a ∈ l, 1 ≤ a ∧ a ≤ 16) → m_tot l ≤ 16 * (l.length : Int)
  | [], _ => Int.le_refl _
  | a :: l, h => by
    have h1 := m_tot_le l fun b hb => h b (List.mem_cons_of_mem _ hb)
    have h2 := h a List.mem_cons_self
    show a + m_tot l ≤ 16 * ((l.length + 1 : Nat) : Int)
    omega
theorem m_NB_ext {A B A' B' : Int → Int} (hA : ∀ i, 0 ≤ i → i < 6 → A' i = A i) (hB : ∀ i, 0 ≤ i → i < 42 → B' i = B i) (h2 : A 2 ≤ 6) : m_NB A' B' = m_NB A B := by
  unfold m_NB
  rw [hA 2 (by decide) (by decide)]
  exact m_sum_ext _ fun i hi => hB i (by omega) (by omega)
theorem m_TF_ext {fy gy A B A' B' : Int → Int} (h : m_TF fy A B) (hf : m_eqa fy gy) (hA : ∀ i, 0 ≤ i → i < 6 → A' i = A i) (hB : ∀ i, 0 ≤ i → i < 42 → B' i = B i) : m_TF gy A' B' := by
  obtain ⟨⟨f1, f2, f3, f4⟩, g, h2, h3⟩ := h
  have a5 := hA 5 (by decide) (by decide)
  have a2 := hA 2 (by decide) (by decide)
  have hN := m_NB_ext hA hB h2
  have hy : ∀ s, m_yf A' B' s = m_yf A B s := fun s => by
    unfold m_yf
    rw [a5]
    exact m_yfn_ext hB _ (by omega)
  refine ⟨⟨by omega, by omega, fun k k0 k1 => ?_, fun i j i0 i1 i2 => ?_⟩, fun i i0 i1 => ?_, by omega, by omega⟩
  · rw [hN, hB (26 + k) (by omega) (by omega), hB (34 + k) (by omega) (by omega)]
    exact f3 k k0 (by omega)
  · rw [hB (26 + i) (by omega) (by omega), hB (26 + j) (by omega) (by omega)]
    exact f4 i j i0 i1 (by omega)
  · rw [hy, hf i i0 (by omega)]
    exact g i i0 (by omega)
-- sums and rows over the hollow finds
theorem m_mx_a {P : List (Int × Int)} {q : Int × Int} {y : Int} : m_mx (P ++ [q]) y = if q.1 ≤ y then (if m_mx P y ≤ q.2 then q.2 else m_mx P y) else m_mx P y := by
  unfold m_mx
  rw [List.foldl_append]
  rfl
theorem m_lt_a {P : List (Int × Int)} {q : Int × Int} {y : Int} : m_lt (P ++ [q]) y = if y < q.1 then m_lt P y + 1 else m_lt P y := by
  unfold m_lt
  rw [List.foldl_append]
  rfl
theorem m_mx_f {y b : Int} : ∀ (P : List (Int × Int)) (m : Int), 0 ≤ m → m ≤ b → (∀ q ∈ P, q.2 ≤ b) → 0 ≤ P.foldl (m_mxs y) m ∧ P.foldl (m_mxs y) m ≤ b
  | [], _, h0, h1, _ => ⟨h0, h1⟩
  | q :: P, m, h0, h1, h => by
    have hq := h q List.mem_cons_self
    show 0 ≤ P.foldl (m_mxs y) (m_mxs y m q) ∧ P.foldl (m_mxs y) (m_mxs y m q) ≤ b
    refine m_mx_f P _ ?_ ?_ fun r hr => h r (List.mem_cons_of_mem _ hr)
    · unfold m_mxs; split
      · split <;> omega
      · omega
    · unfold m_mxs; split
      · split <;> omega
      · omega
theorem m_mx_b {P : List (Int × Int)} {y b : Int} (h0 : 0 ≤ b) (h : ∀ q ∈ P, q.2 ≤ b) : 0 ≤ m_mx P y ∧ m_mx P y ≤ b := m_mx_f P 0 (Int.le_refl _) h0 h
theorem m_mx_n {y : Int} : ∀ (P : List (Int × Int)) (m : Int), m ≤ P.foldl (m_mxs y) m
  | [], _ => Int.le_refl _
  | q :: P, m => by
    show m ≤ P.foldl (m_mxs y) (m_mxs y m q)
    have h := m_mx_n (y := y) P (m_mxs y m q)
    have : m ≤ m_mxs y m q := by
      unfold m_mxs; split
      · split <;> omega
      · omega
    omega
theorem m_mx_0 (P : List (Int × Int)) (y : Int) : 0 ≤ m_mx P y := m_mx_n P 0
theorem m_lt_f {y : Int} : ∀ (P : List (Int × Int)) (m : Int), m ≤ P.foldl (m_lts y) m ∧ P.foldl (m_lts y) m ≤ m + P.length
  | [], m => ⟨Int.le_refl _, by show m ≤ m + ((0 : Nat) : Int); omega⟩
  | q :: P, m => by
    show m ≤ P.foldl (m_lts y) (m_lts y m q) ∧ P.foldl (m_lts y) (m_lts y m q) ≤ m + ((P.length + 1 : Nat) : Int)
    have h := m_lt_f (y := y) P (m_lts y m q)
    have : m ≤ m_lts y m q ∧ m_lts y m q ≤ m + 1 := by
      unfold m_lts; split <;> omega
    omega
theorem m_lt_b (P : List (Int × Int)) (y : Int) : 0 ≤ m_lt P y ∧ m_lt P y ≤ P.length := by
  have h := m_lt_f (y := y) P 0
  unfold m_lt
  omega
theorem m_hfp_c {A B : Int → Int} (s : Nat) : m_hfp A B (s + 1) = if m_hf A B (s : Int) then m_hfp A B s ++ [(m_yf A B (s : Int), m_row A B (s : Int))] else m_hfp A B s := by
  show (if m_hf A B (s : Int) then m_hfp A B s ++ [(m_yf A B (s : Int), 1 + m_mx (m_hfp A B s) (m_yf A B (s : Int)))] else m_hfp A B s) = _
  by_cases e : m_hf A B (s : Int)
  · rw [if_pos e, if_pos e]
    unfold m_row
    rw [if_pos e, Int.toNat_natCast]
  · rw [if_neg e, if_neg e]
theorem m_hfp_s {A B : Int → Int} {s : Int} (h : 0 ≤ s) : m_hfp A B (s + 1).toNat = if m_hf A B s then m_hfp A B s.toNat ++ [(m_yf A B s, m_row A B s)] else m_hfp A B s.toNat := by
  rw [show (s + 1).toNat = s.toNat + 1 by omega, m_hfp_c, show ((s.toNat : Nat) : Int) = s by omega]
theorem m_hfp_ln {A B : Int → Int} : ∀ s : Nat, (m_hfp A B s).length ≤ s
  | 0 => Nat.le_refl _
  | s + 1 => by
    have h := m_hfp_ln (A := A) (B := B) s
    rw [m_hfp_c]
    split
    · rw [List.length_append, List.length_singleton]; omega
    · omega
theorem m_hfp_rb {A B : Int → Int} : ∀ s : Nat, ∀ q ∈ m_hfp A B s, 1 ≤ q.2 ∧ q.2 ≤ (m_hfp A B s).length
  | 0 => fun q hq => absurd hq List.not_mem_nil
  | s + 1 => by
    have h := m_hfp_rb (A := A) (B := B) s
    rw [m_hfp_c]
    by_cases e : m_hf A B (s : Int)
    · rw [if_pos e]
      intro q hq
      rw [List.length_append, List.length_singleton]
      rcases List.mem_append.mp hq with hq | hq
      · have := h q hq
        omega
      · rw [List.mem_singleton.mp hq]
        show 1 ≤ m_row A B (s : Int) ∧ m_row A B (s : Int) ≤ _
        unfold m_row
        rw [if_pos e, Int.toNat_natCast]
        have := m_mx_b (P := m_hfp A B s) (y := m_yf A B (s : Int)) (b := (m_hfp A B s).length) (by omega) (fun r hr => (h r hr).2)
        omega
    · rw [if_neg e]
      exact h
theorem m_row_b {A B : Int → Int} {s : Int} (h : 0 ≤ s) : 0 ≤ m_row A B s ∧ m_row A B s ≤ s + 1 := by
  unfold m_row
  split
  · have h1 := m_mx_b (P := m_hfp A B s.toNat) (y := m_yf A B s) (b := (m_hfp A B s.toNat).length) (by omega) (fun r hr => (m_hfp_rb _ r hr).2)
    have h2 := m_hfp_ln (A := A) (B := B) s.toNat
    omega
  · omega
theorem m_row_1 {A B : Int → Int} {s : Int} (h : 1 ≤ m_row A B s) : m_hf A B s := by
  unfold m_row at h
  split at h
  · assumption
  · omega
theorem m_mx_s {A B : Int → Int} {t y : Int} (h : 0 ≤ t) : m_mx (m_hfp A B (t + 1).toNat) y = if m_hf A B t ∧ m_yf A B t ≤ y then (if m_mx (m_hfp A B t.toNat) y ≤ m_row A B t then m_row A B t else m_mx (m_hfp A B t.toNat) y) else m_mx (m_hfp A B t.toNat) y := by
  rw [m_hfp_s h]
  by_cases e : m_hf A B t
  · rw [if_pos e, m_mx_a]
    by_cases e2 : m_yf A B t ≤ y
    · rw [if_pos e2, if_pos (show m_hf A B t ∧ m_yf A B t ≤ y from ⟨e, e2⟩)]
    · rw [if_neg e2, if_neg (show ¬ (m_hf A B t ∧ m_yf A B t ≤ y) from fun q => e2 q.2)]
  · rw [if_neg e, if_neg (show ¬ (m_hf A B t ∧ m_yf A B t ≤ y) from fun q => e q.1)]
theorem m_lt_s {A B : Int → Int} {t y : Int} (h : 0 ≤ t) : m_lt (m_hfp A B (t + 1).toNat) y = m_lt (m_hfp A B t.toNat) y + if m_hf A B t ∧ y < m_yf A B t then 1 else 0 := by
  rw [m_hfp_s h]
  by_cases e : m_hf A B t
  · rw [if_pos e, m_lt_a]
    by_cases e2 : y < m_yf A B t
    · rw [if_pos e2, if_pos ⟨e, e2⟩]
    · rw [if_neg e2, if_neg (fun q => e2 q.2), Int.add_zero]
  · rw [if_neg e, if_neg (fun q => e q.1), Int.add_zero]
/-- behind the stones no find is -/
theorem m_hfp_st {A B : Int → Int} (h : m_fok A B) : ∀ d : Nat, m_hfp A B ((m_NB A B).toNat + d) = m_PN A B
  | 0 => rfl
  | d + 1 => by
    rw [show (m_NB A B).toNat + (d + 1) = (m_NB A B).toNat + d + 1 from rfl, m_hfp_c, if_neg (fun q => by have := m_yf_lt h q.2; omega)]
    exact m_hfp_st h d
theorem m_hfp_en {A B : Int → Int} (h : m_fok A B) {s : Int} (hs : m_NB A B ≤ s) (h0 : 0 ≤ s) : m_hfp A B s.toNat = m_PN A B := by
  have := m_hfp_st h (s.toNat - (m_NB A B).toNat)
  rw [show (m_NB A B).toNat + (s.toNat - (m_NB A B).toNat) = s.toNat by omega] at this
  exact this
theorem m_hfp_at {A B : Int → Int} : ∀ s k : Nat, k < (m_hfp A B s).length → ∃ y, (m_hfp A B s)[k]? = some (y, 1 + m_mx ((m_hfp A B s).take k) y)
  | 0, k, h => absurd h (Nat.not_lt_zero _)
  | s + 1, k, h => by
    have ih := m_hfp_at (A := A) (B := B) s
    rw [m_hfp_c] at h ⊢
    by_cases e : m_hf A B (s : Int)
    · rw [if_pos e] at h ⊢
      rw [List.length_append, List.length_singleton] at h
      by_cases q : k < (m_hfp A B s).length
      · obtain ⟨y, hy⟩ := ih k q
        exact ⟨y, by rw [List.getElem?_append_left q, List.take_append_of_le_length (by omega)]; exact hy⟩
      · have ek : k = (m_hfp A B s).length := by omega
        refine ⟨m_yf A B (s : Int), ?_⟩
        rw [ek, List.getElem?_append_right (Nat.le_refl _), Nat.sub_self, List.take_left]
        show some (m_yf A B (s : Int), m_row A B (s : Int)) = _
        unfold m_row
        rw [if_pos e, Int.toNat_natCast]
    · rw [if_neg e] at h ⊢
      exact ih k h
theorem m_ag_s {A B : Int → Int} {s : Int} (h : 0 ≤ s) : m_ag A B (s + 1).toNat = m_ag A B s.toNat + if m_hf A B s then m_lt (m_hfp A B s.toNat) (m_yf A B s) else 0 := by
  rw [show (s + 1).toNat = s.toNat + 1 by omega]
  show m_ag A B s.toNat + (if m_hf A B ((s.toNat : Nat) : Int) then m_lt (m_hfp A B s.toNat) (m_yf A B ((s.toNat : Nat) : Int)) else 0) = _
  rw [show ((s.toNat : Nat) : Int) = s by omega]
theorem m_ag_b {A B : Int → Int} : ∀ s : Nat, s ≤ 96 → 0 ≤ m_ag A B s ∧ m_ag A B s ≤ 95 * s
  | 0, _ => ⟨Int.le_refl _, Int.le_refl _⟩
  | s + 1, hs => by
    have h := m_ag_b (A := A) (B := B) s (by omega)
    have h1 := m_lt_b (m_hfp A B s) (m_yf A B (s : Int))
    have h2 := m_hfp_ln (A := A) (B := B) s
    show 0 ≤ m_ag A B s + (if m_hf A B (s : Int) then m_lt (m_hfp A B s) (m_yf A B (s : Int)) else 0) ∧ m_ag A B s + (if m_hf A B (s : Int) then m_lt (m_hfp A B s) (m_yf A B (s : Int)) else 0) ≤ 95 * ((s + 1 : Nat) : Int)
    split <;> omega
theorem m_ag_en {A B : Int → Int} (h : m_fok A B) {s : Int} (hs : m_NB A B ≤ s) (h0 : 0 ≤ s) : m_ag A B s.toNat = m_ag A B (m_NB A B).toNat := by
  have g : ∀ d : Nat, m_ag A B ((m_NB A B).toNat + d) = m_ag A B (m_NB A B).toNat := by
    intro d
    induction d with
    | zero => rfl
    | succ d ih =>
      show m_ag A B ((m_NB A B).toNat + d) + (if m_hf A B (((m_NB A B).toNat + d : Nat) : Int) then m_lt (m_hfp A B ((m_NB A B).toNat + d)) (m_yf A B (((m_NB A B).toNat + d : Nat) : Int)) else 0) = _
      rw [if_neg (fun q => by have := m_yf_lt h q.2; omega), ih, Int.add_zero]
  have := g (s.toNat - (m_NB A B).toNat)
  rw [show (m_NB A B).toNat + (s.toNat - (m_NB A B).toNat) = s.toNat by omega] at this
  exact this
theorem m_bt_a {P : List (Int × Int)} {x : Int × Int} {k i : Nat} (hk : k < P.length) (hi : i ≤ P.length) : m_bt (P ++ [x]) k i = m_bt P k i := by
  unfold m_bt
  rw [List.getElem?_append_left hk, List.take_append_of_le_length hi]
theorem m_bgs_a {P : List (Int × Int)} {x : Int × Int} : ∀ k : Nat, k ≤ P.length → m_bgs (P ++ [x]) k = m_bgs P k
  | 0, _ => rfl
  | k + 1, h => by
    show m_bgs (P ++ [x]) k + m_bt (P ++ [x]) k k = m_bgs P k + m_bt P k k
    rw [m_bgs_a k (by omega), m_bt_a (by omega) (by omega)]
theorem m_ag_bg {A B : Int → Int} : ∀ s : Nat, m_ag A B s = m_bgs (m_hfp A B s) (m_hfp A B s).length
  | 0 => rfl
  | s + 1 => by
    have ih := m_ag_bg (A := A) (B := B) s
    show m_ag A B s + (if m_hf A B (s : Int) then m_lt (m_hfp A B s) (m_yf A B (s : Int)) else 0) = _
    rw [m_hfp_c]
    by_cases e : m_hf A B (s : Int)
    · rw [if_pos e, if_pos e, List.length_append, List.length_singleton]
      show _ = m_bgs (m_hfp A B s ++ [(m_yf A B (s : Int), m_row A B (s : Int))]) (m_hfp A B s).length + m_bt (m_hfp A B s ++ [(m_yf A B (s : Int), m_row A B (s : Int))]) (m_hfp A B s).length (m_hfp A B s).length
      rw [m_bgs_a _ (Nat.le_refl _), ih]
      unfold m_bt
      rw [List.getElem?_append_right (Nat.le_refl _), Nat.sub_self, List.take_left]
      rfl
    · rw [if_neg e, if_neg e, Int.add_zero, ih]
theorem m_bt_0 {P : List (Int × Int)} {k i : Nat} (h : P.length ≤ k) : m_bt P k i = 0 := by
  unfold m_bt
  rw [List.getElem?_eq_none h]
  rfl
theorem m_bt_b {P : List (Int × Int)} {k i : Nat} : 0 ≤ m_bt P k i ∧ m_bt P k i ≤ i ∧ m_bt P k i ≤ P.length := by
  unfold m_bt
  cases hp : P[k]? with
  | none => exact ⟨Int.le_refl _, by show (0 : Int) ≤ (i : Int); omega, by show (0 : Int) ≤ (P.length : Int); omega⟩
  | some q =>
    have h := m_lt_b (P.take i) q.1
    rw [List.length_take] at h
    show 0 ≤ m_lt (P.take i) q.1 ∧ m_lt (P.take i) q.1 ≤ (i : Int) ∧ m_lt (P.take i) q.1 ≤ (P.length : Int)
    omega
theorem m_bgs_en {P : List (Int × Int)} : ∀ d : Nat, m_bgs P (P.length + d) = m_bgs P P.length
  | 0 => rfl
  | d + 1 => by
    show m_bgs P (P.length + d) + m_bt P (P.length + d) (P.length + d) = _
    rw [m_bt_0 (by omega), m_bgs_en d, Int.add_zero]
theorem m_bgs_b {P : List (Int × Int)} : ∀ k : Nat, 0 ≤ m_bgs P k ∧ (k ≤ 8 → m_bgs P k ≤ 7 * k)
  | 0 => ⟨Int.le_refl _, fun _ => Int.le_refl _⟩
  | k + 1 => by
    have h := m_bgs_b (P := P) k
    have h2 := m_bt_b (P := P) (k := k) (i := k)
    refine ⟨?_, fun hk => ?_⟩
    · show 0 ≤ m_bgs P k + m_bt P k k
      omega
    · show m_bgs P k + m_bt P k k ≤ 7 * ((k + 1 : Nat) : Int)
      have := h.2 (by omega)
      omega
theorem m_bgs_56 {P : List (Int × Int)} (hP : P.length ≤ 8) (k : Nat) : 0 ≤ m_bgs P k ∧ m_bgs P k ≤ 56 := by
  have h := m_bgs_b (P := P) k
  refine ⟨h.1, ?_⟩
  by_cases e : k ≤ 8
  · have := h.2 e
    omega
  · have h1 := m_bgs_en (P := P) (k - P.length)
    rw [show P.length + (k - P.length) = k by omega] at h1
    have h2 := (m_bgs_b (P := P) P.length).2 hP
    omega
theorem m_rl_0 {A B : Int → Int} : ∀ s : Nat, 0 ≤ m_rl A B s
  | 0 => Int.le_refl _
  | s + 1 => by
    have h := m_rl_0 (A := A) (B := B) s
    show 0 ≤ if m_rl A B s ≤ m_row A B (s : Int) then m_row A B (s : Int) else m_rl A B s
    split <;> omega
theorem m_rl_s {A B : Int → Int} {s : Int} (h : 0 ≤ s) : m_rl A B (s + 1).toNat = if m_rl A B s.toNat ≤ m_row A B s then m_row A B s else m_rl A B s.toNat := by
  rw [show (s + 1).toNat = s.toNat + 1 by omega]
  show (if m_rl A B s.toNat ≤ m_row A B ((s.toNat : Nat) : Int) then m_row A B ((s.toNat : Nat) : Int) else m_rl A B s.toNat) = _
  rw [show ((s.toNat : Nat) : Int) = s by omega]
theorem m_rl_n {A B : Int → Int} {s : Nat} (h : ¬ m_hf A B (s : Int)) : m_rl A B (s + 1) = m_rl A B s := by
  have h0 := m_rl_0 (A := A) (B := B) s
  show (if m_rl A B s ≤ m_row A B (s : Int) then m_row A B (s : Int) else m_rl A B s) = _
  rw [show m_row A B (s : Int) = 0 from if_neg h]
  split <;> omega
theorem m_rl_en {A B : Int → Int} (h : m_fok A B) {s : Int} (hs : m_NB A B ≤ s) (h0 : 0 ≤ s) : m_rl A B s.toNat = m_rl A B (m_NB A B).toNat := by
  have g : ∀ d : Nat, m_rl A B ((m_NB A B).toNat + d) = m_rl A B (m_NB A B).toNat := by
    intro d
    induction d with
    | zero => rfl
    | succ d ih =>
      rw [← ih]
      exact m_rl_n (s := (m_NB A B).toNat + d) (fun q => by have := m_yf_lt h q.2; omega)
  have := g (s.toNat - (m_NB A B).toNat)
  rw [show (m_NB A B).toNat + (s.toNat - (m_NB A B).toNat) = s.toNat by omega] at this
  exact this
theorem m_rk_a {P : List (Int × Int)} {x : Int × Int} {k : Nat} (h : k < P.length) : m_rk (P ++ [x]) k = m_rk P k := by
  unfold m_rk
  rw [List.getElem?_append_left h]
theorem m_rk_l {P : List (Int × Int)} {x : Int × Int} : m_rk (P ++ [x]) P.length = x.2 := by
  unfold m_rk
  rw [List.getElem?_append_right (Nat.le_refl _), Nat.sub_self]
  rfl
theorem m_rk_0 {P : List (Int × Int)} {k : Nat} (h : P.length ≤ k) : m_rk P k = 0 := by
  unfold m_rk
  rw [List.getElem?_eq_none h]
  rfl
theorem m_rk_e {P : List (Int × Int)} {k : Nat} {q : Int × Int} (h : P[k]? = some q) : m_rk P k = q.2 := by
  unfold m_rk
  rw [h]
  rfl
theorem m_yk_e {P : List (Int × Int)} {k : Nat} {q : Int × Int} (h : P[k]? = some q) : m_yk P k = q.1 := by
  unfold m_yk
  rw [h]
  rfl
theorem m_ml_0 {P : List (Int × Int)} : ∀ k : Nat, 0 ≤ m_ml P k
  | 0 => Int.le_refl _
  | k + 1 => by
    have h := m_ml_0 (P := P) k
    show 0 ≤ if m_ml P k ≤ m_rk P k then m_rk P k else m_ml P k
    split <;> omega
theorem m_ml_a {P : List (Int × Int)} {x : Int × Int} : ∀ k : Nat, k ≤ P.length → m_ml (P ++ [x]) k = m_ml P k
  | 0, _ => rfl
  | k + 1, h => by
    show (if m_ml (P ++ [x]) k ≤ m_rk (P ++ [x]) k then m_rk (P ++ [x]) k else m_ml (P ++ [x]) k) = if m_ml P k ≤ m_rk P k then m_rk P k else m_ml P k
    rw [m_ml_a k (by omega), m_rk_a (by omega)]
theorem m_ml_en {P : List (Int × Int)} : ∀ d : Nat, m_ml P (P.length + d) = m_ml P P.length
  | 0 => rfl
  | d + 1 => by
    have h0 := m_ml_0 (P := P) (P.length + d)
    show (if m_ml P (P.length + d) ≤ m_rk P (P.length + d) then m_rk P (P.length + d) else m_ml P (P.length + d)) = _
    rw [m_rk_0 (by omega), ← m_ml_en d]
    split <;> omega
theorem m_rl_ml {A B : Int → Int} : ∀ s : Nat, m_rl A B s = m_ml (m_hfp A B s) (m_hfp A B s).length
  | 0 => rfl
  | s + 1 => by
    have ih := m_rl_ml (A := A) (B := B) s
    by_cases e : m_hf A B (s : Int)
    · rw [m_hfp_c, if_pos e, List.length_append, List.length_singleton]
      show (if m_rl A B s ≤ m_row A B (s : Int) then m_row A B (s : Int) else m_rl A B s) = if m_ml (m_hfp A B s ++ [(m_yf A B (s : Int), m_row A B (s : Int))]) (m_hfp A B s).length ≤ m_rk (m_hfp A B s ++ [(m_yf A B (s : Int), m_row A B (s : Int))]) (m_hfp A B s).length then m_rk (m_hfp A B s ++ [(m_yf A B (s : Int), m_row A B (s : Int))]) (m_hfp A B s).length else m_ml (m_hfp A B s ++ [(m_yf A B (s : Int), m_row A B (s : Int))]) (m_hfp A B s).length
      rw [m_ml_a _ (Nat.le_refl _), m_rk_l, ih]
    · rw [m_rl_n e, m_hfp_c, if_neg e, ih]
theorem m_mx_t {P : List (Int × Int)} {i : Nat} {q : Int × Int} {y : Int} (h : P[i]? = some q) : m_mx (P.take (i + 1)) y = if q.1 ≤ y then (if m_mx (P.take i) y ≤ q.2 then q.2 else m_mx (P.take i) y) else m_mx (P.take i) y := by
  rw [List.take_add_one, h]
  exact m_mx_a
theorem m_lt_t {P : List (Int × Int)} {i : Nat} {q : Int × Int} {y : Int} (h : P[i]? = some q) : m_lt (P.take (i + 1)) y = if y < q.1 then m_lt (P.take i) y + 1 else m_lt (P.take i) y := by
  rw [List.take_add_one, h]
  exact m_lt_a
theorem m_fst {P : List (Int × Int)} {i : Nat} {z : Int} (h : (P[i]?).map Prod.fst = some z) : ∃ q, P[i]? = some q ∧ q.1 = z := by
  cases hp : P[i]? with
  | none => rw [hp] at h; cases h
  | some q => rw [hp] at h; exact ⟨q, rfl, Option.some.inj h⟩
theorem m_PN_row {A B : Int → Int} {k : Nat} (h : k < (m_PN A B).length) : m_rk (m_PN A B) k = 1 + m_mx ((m_PN A B).take k) (m_yk (m_PN A B) k) := by
  obtain ⟨y, hy⟩ := m_hfp_at (A := A) (B := B) (m_NB A B).toNat k h
  have hy : (m_PN A B)[k]? = some (y, 1 + m_mx ((m_PN A B).take k) y) := hy
  rw [m_rk_e hy, m_yk_e hy]
theorem m_PN_tk {A B : Int → Int} : ∀ (k : Nat) (y : Int), m_mx ((m_PN A B).take k) y ≤ k
  | 0, _ => Int.le_refl _
  | k + 1, y => by
    have h := m_PN_tk (A := A) (B := B) k
    cases hp : (m_PN A B)[k]? with
    | none =>
      rw [List.take_add_one, hp]
      show m_mx ((m_PN A B).take k ++ []) y ≤ _
      rw [List.append_nil]
      have := h y
      omega
    | some q =>
      have hk : k < (m_PN A B).length := (List.getElem?_eq_some_iff.mp hp).1
      have h1 := m_PN_row hk
      rw [m_rk_e hp] at h1
      have h2 := h (m_yk (m_PN A B) k)
      have h3 := h y
      rw [m_mx_t hp]
      split
      · split <;> omega
      · omega
theorem m_PN_rb {A B : Int → Int} (k : Nat) : 0 ≤ m_rk (m_PN A B) k ∧ m_rk (m_PN A B) k ≤ k + 1 := by
  by_cases hk : k < (m_PN A B).length
  · rw [m_PN_row hk]
    have h1 := m_PN_tk (A := A) (B := B) k (m_yk (m_PN A B) k)
    have h2 := m_mx_0 ((m_PN A B).take k) (m_yk (m_PN A B) k)
    omega
  · rw [m_rk_0 (by omega)]
    omega
