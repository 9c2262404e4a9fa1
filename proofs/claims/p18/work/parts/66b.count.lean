-- 66b.count: how many ways there are
def m_sg (f : Int → Int) : Nat → Int
  | 0 => 0
  | k + 1 => m_sg f k + f (k + 1)
theorem m_sg_congr {f g : Int → Int} : ∀ k : Nat, (∀ v : Int, 1 ≤ v → v ≤ k → f v = g v) → m_sg f k = m_sg g k
  | 0, _ => rfl
  | k + 1, h => by
    show m_sg f k + f ((k : Int) + 1) = m_sg g k + g ((k : Int) + 1)
    rw [m_sg_congr k (fun v h1 h2 => h v h1 (by omega)), h ((k : Int) + 1) (by omega) (by omega)]
theorem m_sg_le {f g : Int → Int} : ∀ k : Nat, (∀ v : Int, 1 ≤ v → v ≤ k → f v ≤ g v) → m_sg f k ≤ m_sg g k
  | 0, _ => Int.le_refl _
  | k + 1, h => by
    have h1 := m_sg_le (f := f) (g := g) k (fun v h1 h2 => h v h1 (by omega))
    have h2 := h ((k : Int) + 1) (by omega) (by omega)
    show m_sg f k + f ((k : Int) + 1) ≤ m_sg g k + g ((k : Int) + 1)
    omega
theorem m_sg_nn {f : Int → Int} : ∀ k : Nat, (∀ v : Int, 1 ≤ v → v ≤ k → 0 ≤ f v) → 0 ≤ m_sg f k
  | 0, _ => Int.le_refl _
  | k + 1, h => by
    have h1 := m_sg_nn (f := f) k (fun v h1 h2 => h v h1 (by omega))
    have h2 := h ((k : Int) + 1) (by omega) (by omega)
    show 0 ≤ m_sg f k + f ((k : Int) + 1)
    omega
theorem m_sg_mem {f : Int → Int} {u : Int} (h1 : 1 ≤ u) : ∀ k : Nat, (∀ v : Int, 1 ≤ v → v ≤ k → 0 ≤ f v) → u ≤ k → f u ≤ m_sg f k
  | 0, _, h => by omega
  | k + 1, hf, h => by
    have h2 := m_sg_nn (f := f) k (fun v h1 h2 => hf v h1 (by omega))
    have h3 := hf ((k : Int) + 1) (by omega) (by omega)
    show f u ≤ m_sg f k + f ((k : Int) + 1)
    by_cases e : u = (k : Int) + 1
    · rw [← e] at h3 ⊢; omega
    · have := m_sg_mem h1 k (fun v h1 h2 => hf v h1 (by omega)) (by omega)
      omega
theorem m_sg_add (f g : Int → Int) : ∀ k : Nat, m_sg (fun v => f v + g v) k = m_sg f k + m_sg g k
  | 0 => rfl
  | k + 1 => by
    show m_sg (fun v => f v + g v) k + (f ((k : Int) + 1) + g ((k : Int) + 1)) = m_sg f k + f ((k : Int) + 1) + (m_sg g k + g ((k : Int) + 1))
    rw [m_sg_add f g k]
    omega
theorem m_sg_mul (c : Int) (f : Int → Int) : ∀ k : Nat, m_sg (fun v => c * f v) k = c * m_sg f k
  | 0 => by
    show (0 : Int) = c * 0
    omega
  | k + 1 => by
    show m_sg (fun v => c * f v) k + c * f ((k : Int) + 1) = c * (m_sg f k + f ((k : Int) + 1))
    rw [m_sg_mul c f k, Int.mul_add]
theorem m_sg_zero : ∀ k : Nat, m_sg (fun _ => 0) k = 0
  | 0 => rfl
  | k + 1 => by
    show m_sg (fun _ => 0) k + 0 = 0
    rw [m_sg_zero k]; rfl
theorem m_sg_swap (a : Int → Int → Int) (n : Nat) : ∀ m : Nat, m_sg (fun u => m_sg (fun v => a u v) n) m = m_sg (fun v => m_sg (fun u => a u v) m) n
  | 0 => (m_sg_zero n).symm
  | m + 1 => by
    show m_sg (fun u => m_sg (fun v => a u v) n) m + m_sg (fun v => a ((m : Int) + 1) v) n = m_sg (fun v => m_sg (fun u => a u v) m + a ((m : Int) + 1) v) n
    rw [m_sg_add, m_sg_swap a n m]
theorem m_ws_sg (f w : Int → Int) (b : Int) : ∀ k : Nat, m_ws f w b k = m_sg (fun v => if f v = b then w v else 0) k
  | 0 => rfl
  | k + 1 => by
    show m_ws f w b k + (if f ((k : Int) + 1) = b then w ((k : Int) + 1) else 0) = m_sg _ k + (if f ((k : Int) + 1) = b then w ((k : Int) + 1) else 0)
    rw [m_ws_sg f w b k]
theorem m_tl_snoc (f : Int → Int) : ∀ (k : Nat) (v : Int), m_tl f v (k + 1) = m_tl f v k + f (v + k)
  | 0, v => by
    show f v + 0 = 0 + f (v + ((0 : Nat) : Int))
    have e : v + ((0 : Nat) : Int) = v := by omega
    rw [e]; omega
  | k + 1, v => by
    show f v + m_tl f (v + 1) (k + 1) = f v + m_tl f (v + 1) k + f (v + ((k + 1 : Nat) : Int))
    rw [m_tl_snoc f k (v + 1)]
    have e : v + 1 + (k : Int) = v + ((k + 1 : Nat) : Int) := by omega
    rw [e]; omega
theorem m_tl_sg (f : Int → Int) : ∀ k : Nat, m_tl f 1 k = m_sg f k
  | 0 => rfl
  | k + 1 => by
    rw [m_tl_snoc, m_tl_sg f k]
    have e : (1 : Int) + (k : Int) = (k : Int) + 1 := by omega
    show m_sg f k + f (1 + (k : Int)) = m_sg f k + f ((k : Int) + 1)
    rw [e]
theorem m_tl_nn {f : Int → Int} (hf : ∀ v, 0 ≤ f v) : ∀ (k : Nat) (v : Int), 0 ≤ m_tl f v k
  | 0, _ => Int.le_refl _
  | k + 1, v => by
    have h1 := m_tl_nn hf k (v + 1)
    have h2 := hf v
    show 0 ≤ f v + m_tl f (v + 1) k
    omega
section
variable {M : Int} {sl fo ft : Int → Int} {ls N : Int}
theorem m_C_nn : ∀ (k : Nat) (s u : Int), 0 ≤ m_C M sl fo ft ls k s u
  | 0, _, _ => by
    show (0 : Int) ≤ 1
    decide
  | k + 1, s, u => by
    refine m_tl_nn (fun v => ?_) _ _
    have := m_C_nn k (s + 1) v
    cases m_ok M sl fo ft ls s u v
    · exact Int.le_refl _
    · exact this
theorem m_lv_nn (s u v : Int) : 0 ≤ m_lv M sl fo ft ls N s u v := by
  unfold m_lv
  split
  · split <;> decide
  · refine m_tl_nn (fun v => ?_) _ _
    have := m_C_nn (M := M) (sl := sl) (fo := fo) (ft := ft) (ls := ls) (N - s - 1).toNat (s + 1) v
    cases m_ok M sl fo ft ls s u v
    · exact Int.le_refl _
    · exact this
theorem m_lv_step {s u v : Int} (hs : s ≠ N) (hv : v ≤ M) : m_lv M sl fo ft ls N s u v = (bif m_ok M sl fo ft ls s u v then m_C M sl fo ft ls (N - s - 1).toNat (s + 1) v else 0) + m_lv M sl fo ft ls N s u (v + 1) := by
  unfold m_lv
  rw [if_neg hs, if_neg hs]
  have e : (M + 1 - v).toNat = (M + 1 - (v + 1)).toNat + 1 := by omega
  rw [e]
  rfl
theorem m_lv_1 {s u v : Int} : m_lv M sl fo ft ls N s u (v + 1) ≤ m_lv M sl fo ft ls N s u v := by
  by_cases hs : s = N
  · unfold m_lv
    rw [if_pos hs, if_pos hs]
    split <;> split <;> omega
  · by_cases hv : v ≤ M
    · rw [m_lv_step hs hv]
      have := m_C_nn (M := M) (sl := sl) (fo := fo) (ft := ft) (ls := ls) (N - s - 1).toNat (s + 1) v
      cases m_ok M sl fo ft ls s u v
      · show _ ≤ 0 + m_lv M sl fo ft ls N s u (v + 1)
        omega
      · show _ ≤ m_C M sl fo ft ls (N - s - 1).toNat (s + 1) v + m_lv M sl fo ft ls N s u (v + 1)
        omega
    · unfold m_lv
      rw [if_neg hs, if_neg hs]
      have e1 : (M + 1 - v).toNat = 0 := by omega
      have e2 : (M + 1 - (v + 1)).toNat = 0 := by omega
      rw [e1, e2]
      exact Int.le_refl _
theorem m_lv_mono {s u v : Int} : ∀ n : Nat, m_lv M sl fo ft ls N s u (v + n) ≤ m_lv M sl fo ft ls N s u v
  | 0 => by
    have e : v + ((0 : Nat) : Int) = v := by omega
    rw [e]; exact Int.le_refl _
  | n + 1 => by
    have h1 := m_lv_mono (s := s) (u := u) (v := v) n
    have h2 := m_lv_1 (M := M) (sl := sl) (fo := fo) (ft := ft) (ls := ls) (N := N) (s := s) (u := u) (v := v + n)
    have e : v + ((n + 1 : Nat) : Int) = v + n + 1 := by omega
    rw [e]
    exact Int.le_trans h2 h1
theorem m_lv_le {s u v w : Int} (h : v ≤ w) : m_lv M sl fo ft ls N s u w ≤ m_lv M sl fo ft ls N s u v := by
  have e : w = v + ((w - v).toNat : Int) := by omega
  rw [e]
  exact m_lv_mono _
theorem m_lv_end {u v : Int} : m_lv M sl fo ft ls N N u v = if v ≤ 1 then 1 else 0 := by
  unfold m_lv
  rw [if_pos rfl]
theorem m_rest_nn : ∀ (n : Nat) (v X : Int), 0 ≤ m_rest M sl fo ft ls N n v X
  | 0, v, X => m_lv_nn 0 0 v
  | n + 1, v, X => by
    have h1 := m_rest_nn n (X % 14 + 1) (X / 14)
    have h2 := m_lv_nn (M := M) (sl := sl) (fo := fo) (ft := ft) (ls := ls) (N := N) ((n : Int) + 1) (X % 14) v
    show 0 ≤ m_lv M sl fo ft ls N ((n : Int) + 1) (X % 14) v + m_rest M sl fo ft ls N n (X % 14 + 1) (X / 14)
    omega
theorem m_rest_le {v w : Int} (h : v ≤ w) : ∀ (n : Nat) (X : Int), m_rest M sl fo ft ls N n w X ≤ m_rest M sl fo ft ls N n v X
  | 0, X => m_lv_le h
  | n + 1, X => by
    have h2 := m_lv_le (M := M) (sl := sl) (fo := fo) (ft := ft) (ls := ls) (N := N) (s := (n : Int) + 1) (u := X % 14) h
    show m_lv M sl fo ft ls N ((n : Int) + 1) (X % 14) w + m_rest M sl fo ft ls N n (X % 14 + 1) (X / 14) ≤ m_lv M sl fo ft ls N ((n : Int) + 1) (X % 14) v + m_rest M sl fo ft ls N n (X % 14 + 1) (X / 14)
    omega
theorem m_rest_suc {n : Nat} {v w X : Int} (h0 : 0 ≤ v) (h1 : v ≤ 13) : m_rest M sl fo ft ls N (n + 1) w (14 * X + v) = m_lv M sl fo ft ls N ((n : Int) + 1) v w + m_rest M sl fo ft ls N n (v + 1) X := by
  have e1 : (14 * X + v) % 14 = v := by omega
  have e2 : (14 * X + v) / 14 = X := by omega
  show m_lv M sl fo ft ls N ((n : Int) + 1) ((14 * X + v) % 14) w + m_rest M sl fo ft ls N n ((14 * X + v) % 14 + 1) ((14 * X + v) / 14) = _
  rw [e1, e2]
theorem m_C_lv {s v : Int} (hM : 2 ≤ M) (h0 : 0 ≤ s) (hs : s < N) : m_C M sl fo ft ls (N - s - 1).toNat (s + 1) v = m_lv M sl fo ft ls N (s + 1) v 1 := by
  by_cases e : s + 1 = N
  · rw [e, m_lv_end]
    have e1 : (N - s - 1).toNat = 0 := by omega
    rw [e1]
    rfl
  · have e1 : (N - s - 1).toNat = (N - (s + 1) - 1).toNat + 1 := by omega
    have e2 : (M + 1 - 1).toNat = M.toNat := by omega
    unfold m_lv
    rw [if_neg e, e1, e2]
    rfl
/-- one more row -/
theorem m_rest_ok {s v X : Int} (hM : 2 ≤ M) (h0 : 0 ≤ s) (hs : s < N) (hv0 : 0 ≤ v) (hv1 : v ≤ 13) (hv : v ≤ M) (hok : m_ok M sl fo ft ls s (if s = 0 then 0 else X % 14) v = true) : m_rest M sl fo ft ls N (s + 1).toNat 1 (14 * X + v) ≤ m_rest M sl fo ft ls N s.toNat v X := by
  have e : (s + 1).toNat = s.toNat + 1 := by omega
  have e3 : (s.toNat : Int) = s := by omega
  rw [e, m_rest_suc hv0 hv1, e3, ← m_C_lv hM h0 hs]
  rcases hn : s.toNat with _ | n
  · have es : s = 0 := by omega
    rw [if_pos es] at hok
    show _ + m_lv M sl fo ft ls N 0 0 (v + 1) ≤ m_lv M sl fo ft ls N 0 0 v
    rw [es] at hok ⊢
    rw [m_lv_step (s := 0) (u := 0) (v := v) (by omega) hv, hok]
    exact Int.le_refl _
  · have es : s = (n : Int) + 1 := by omega
    rw [if_neg (by omega)] at hok
    show _ + (m_lv M sl fo ft ls N ((n : Int) + 1) (X % 14) (v + 1) + m_rest M sl fo ft ls N n (X % 14 + 1) (X / 14)) ≤ m_lv M sl fo ft ls N ((n : Int) + 1) (X % 14) v + m_rest M sl fo ft ls N n (X % 14 + 1) (X / 14)
    rw [es] at hok ⊢
    rw [m_lv_step (s := (n : Int) + 1) (u := X % 14) (v := v) (by omega) hv, hok]
    show _ ≤ m_C M sl fo ft ls (N - ((n : Int) + 1) - 1).toNat ((n : Int) + 1 + 1) v + m_lv M sl fo ft ls N ((n : Int) + 1) (X % 14) (v + 1) + m_rest M sl fo ft ls N n (X % 14 + 1) (X / 14)
    omega
end
section
variable {M F : Int} {nt sl : Int → Int} {N fr : Int} {fo ft wt : Int → Int} {ls : Int}
theorem m_ok_tt {s u v : Int} (h1 : m_on fo ft ls s v) (h2 : s ≤ 0 ∨ fo (14 * (s - 1) + u) + m_st M sl s u v = fo (14 * s + v)) : m_ok M sl fo ft ls s u v = true := by
  unfold m_ok
  rw [Bool.and_eq_true, Bool.or_eq_true, decide_eq_true_eq, decide_eq_true_eq, decide_eq_true_eq]
  exact ⟨h1, h2⟩
theorem m_ok_on {s u v : Int} (h : m_ok M sl fo ft ls s u v = true) : m_on fo ft ls s v ∧ (s ≤ 0 ∨ fo (14 * (s - 1) + u) + m_st M sl s u v = fo (14 * s + v)) := by
  unfold m_ok at h
  rw [Bool.and_eq_true, Bool.or_eq_true, decide_eq_true_eq, decide_eq_true_eq, decide_eq_true_eq] at h
  exact h
theorem m_x_C (hH : m_H M F nt sl N fr fo ft wt ls) : ∀ (k : Nat) {s v : Int}, 0 ≤ s → s + k + 1 = N → 1 ≤ v → v ≤ M → m_on fo ft ls s v → 1 ≤ m_C M sl fo ft ls k (s + 1) v
  | 0, s, v, _, _, _, _, _ => Int.le_refl _
  | k + 1, s, v, h0, hN, hv, hv2, hon => by
    have e : s + 1 - 1 = s := by omega
    obtain ⟨u, a, b, c, d⟩ := m_x_next hH (s := s + 1) (v := v) (by omega) (by omega) hv hv2 (by rw [e]; exact hon)
    have ih := m_x_C hH k (s := s + 1) (v := u) (by omega) (by omega) a b c
    refine Int.le_trans ih ?_
    show _ ≤ m_tl (fun w => bif m_ok M sl fo ft ls (s + 1) v w then m_C M sl fo ft ls k (s + 1 + 1) w else 0) 1 M.toNat
    rw [m_tl_sg]
    have hm := m_sg_mem (f := fun w => bif m_ok M sl fo ft ls (s + 1) v w then m_C M sl fo ft ls k (s + 1 + 1) w else 0) a M.toNat (fun w _ _ => by
      have := m_C_nn (M := M) (sl := sl) (fo := fo) (ft := ft) (ls := ls) k (s + 1 + 1) w
      show 0 ≤ (bif m_ok M sl fo ft ls (s + 1) v w then m_C M sl fo ft ls k (s + 1 + 1) w else 0)
      cases m_ok M sl fo ft ls (s + 1) v w
      · exact Int.le_refl _
      · exact this) (by omega)
    have hm : (bif m_ok M sl fo ft ls (s + 1) v u then m_C M sl fo ft ls k (s + 1 + 1) u else 0) ≤ _ := hm
    rw [m_ok_tt c (Or.inr d)] at hm
    exact hm
/-- the ways to row s with those that go on from there -/
def m_T (M : Int) (sl fo ft wt : Int → Int) (ls : Int) (k : Nat) (s : Int) : Int := m_sg (fun v => if fo (14 * s + v) + ft (14 * s + v) = ls then wt (14 * s + v) * m_C M sl fo ft ls k (s + 1) v else 0) M.toNat
theorem m_x_T (hH : m_H M F nt sl N fr fo ft wt ls) {k : Nat} {s : Int} (h0 : 0 ≤ s) (hN : s + k + 2 = N) (hT : m_T M sl fo ft wt ls k (s + 1) ≤ 12) : m_T M sl fo ft wt ls (k + 1) s ≤ m_T M sl fo ft wt ls k (s + 1) := by
  have ⟨hM, hsl, hfo, hft, hwt, h1⟩ := hH
  have e : s + 1 - 1 = s := by omega
  have hls := h1.2.2.2
  -- each term of row s + 1
  have hterm : ∀ v : Int, 1 ≤ v → v ≤ M → m_on fo ft ls (s + 1) v → wt (14 * (s + 1) + v) = m_ws (m_fc M sl fo (s + 1) v) (fun u => wt (14 * s + u)) (fo (14 * (s + 1) + v)) M.toNat := fun v hv hv2 hon => by
    have hC := m_x_C hH k (s := s + 1) (v := v) (by omega) (by omega) hv hv2 hon
    have hw0 := hwt (14 * (s + 1) + v)
    have hle := m_sg_mem (f := fun v => if fo (14 * (s + 1) + v) + ft (14 * (s + 1) + v) = ls then wt (14 * (s + 1) + v) * m_C M sl fo ft ls k (s + 1 + 1) v else 0) hv M.toNat (fun w _ _ => by
      show 0 ≤ (if fo (14 * (s + 1) + w) + ft (14 * (s + 1) + w) = ls then wt (14 * (s + 1) + w) * m_C M sl fo ft ls k (s + 1 + 1) w else 0)
      split
      · exact Int.mul_nonneg (hwt _).1 (m_C_nn _ _ _)
      · exact Int.le_refl _) (by omega)
    have hle : (if fo (14 * (s + 1) + v) + ft (14 * (s + 1) + v) = ls then wt (14 * (s + 1) + v) * m_C M sl fo ft ls k (s + 1 + 1) v else 0) ≤ m_T M sl fo ft wt ls k (s + 1) := hle
    have hon' : fo (14 * (s + 1) + v) + ft (14 * (s + 1) + v) = ls := hon
    rw [if_pos hon'] at hle
    have hmul : wt (14 * (s + 1) + v) * 1 ≤ wt (14 * (s + 1) + v) * m_C M sl fo ft ls k (s + 1 + 1) v := Int.mul_le_mul_of_nonneg_left hC hw0.1
    have hfe := (h1.1.2 (s + 1) v (by omega) (by omega) hv hv2).2
    have hft0 := hft (14 * (s + 1) + v)
    unfold m_wv at hfe
    rw [if_pos (by omega)] at hfe
    rw [e] at hfe
    have hlim : wt (14 * (s + 1) + v) ≤ 12 := by omega
    unfold m_lim at hfe
    split at hfe
    · exact hfe
    · omega
  have ls1 : m_T M sl fo ft wt ls (k + 1) s = m_sg (fun u => m_sg (fun v => if fo (14 * s + u) + ft (14 * s + u) = ls then wt (14 * s + u) * (bif m_ok M sl fo ft ls (s + 1) u v then m_C M sl fo ft ls k (s + 1 + 1) v else 0) else 0) M.toNat) M.toNat := by
    unfold m_T
    refine m_sg_congr _ (fun u _ _ => ?_)
    by_cases hc : fo (14 * s + u) + ft (14 * s + u) = ls
    · rw [if_pos hc]
      have : m_sg (fun v => if fo (14 * s + u) + ft (14 * s + u) = ls then wt (14 * s + u) * (bif m_ok M sl fo ft ls (s + 1) u v then m_C M sl fo ft ls k (s + 1 + 1) v else 0) else 0) M.toNat = m_sg (fun v => wt (14 * s + u) * (bif m_ok M sl fo ft ls (s + 1) u v then m_C M sl fo ft ls k (s + 1 + 1) v else 0)) M.toNat := m_sg_congr _ (fun v _ _ => if_pos hc)
      rw [this, m_sg_mul, ← m_tl_sg]
      rfl
    · rw [if_neg hc]
      have : m_sg (fun v => if fo (14 * s + u) + ft (14 * s + u) = ls then wt (14 * s + u) * (bif m_ok M sl fo ft ls (s + 1) u v then m_C M sl fo ft ls k (s + 1 + 1) v else 0) else 0) M.toNat = m_sg (fun _ => 0) M.toNat := m_sg_congr _ (fun v _ _ => if_neg hc)
      rw [this, m_sg_zero]
  rw [ls1, m_sg_swap]
  unfold m_T
  refine m_sg_le _ (fun v hv hv2 => ?_)
  have hv2 : v ≤ M := by omega
  by_cases hon : fo (14 * (s + 1) + v) + ft (14 * (s + 1) + v) = ls
  · rw [if_pos hon, hterm v hv hv2 hon, m_ws_sg, Int.mul_comm (m_sg _ _) (m_C M sl fo ft ls k (s + 1 + 1) v), ← m_sg_mul]
    refine m_sg_le _ (fun u _ _ => ?_)
    have hCn := m_C_nn (M := M) (sl := sl) (fo := fo) (ft := ft) (ls := ls) k (s + 1 + 1) v
    have hw := (hwt (14 * s + u)).1
    have hr : 0 ≤ m_C M sl fo ft ls k (s + 1 + 1) v * (if m_fc M sl fo (s + 1) v u = fo (14 * (s + 1) + v) then wt (14 * s + u) else 0) := Int.mul_nonneg hCn (by split <;> omega)
    by_cases hc : fo (14 * s + u) + ft (14 * s + u) = ls
    · rw [if_pos hc]
      cases hok : m_ok M sl fo ft ls (s + 1) u v with
      | false =>
        show wt (14 * s + u) * 0 ≤ _
        rw [Int.mul_zero]
        exact hr
      | true =>
        have hk := (m_ok_on hok).2.resolve_left (by omega)
        rw [e] at hk
        have hk2 : m_fc M sl fo (s + 1) v u = fo (14 * (s + 1) + v) := by
          unfold m_fc
          rw [e]
          exact hk
        rw [if_pos hk2]
        show wt (14 * s + u) * m_C M sl fo ft ls k (s + 1 + 1) v ≤ m_C M sl fo ft ls k (s + 1 + 1) v * wt (14 * s + u)
        rw [Int.mul_comm]
        exact Int.le_refl _
    · rw [if_neg hc]
      exact hr
  · rw [if_neg hon]
    have : m_sg (fun u => if fo (14 * s + u) + ft (14 * s + u) = ls then wt (14 * s + u) * (bif m_ok M sl fo ft ls (s + 1) u v then m_C M sl fo ft ls k (s + 1 + 1) v else 0) else 0) M.toNat = m_sg (fun _ => 0) M.toNat := m_sg_congr _ (fun u _ _ => by
      cases hok : m_ok M sl fo ft ls (s + 1) u v with
      | false =>
        show (if _ then wt (14 * s + u) * 0 else 0) = (0 : Int)
        rw [Int.mul_zero]
        split <;> rfl
      | true => exact absurd (m_ok_on hok).1 hon)
    rw [this, m_sg_zero]
    exact Int.le_refl _
theorem m_x_down (hH : m_H M F nt sl N fr fo ft wt ls) : ∀ (n : Nat), (n : Int) < N → m_T M sl fo ft wt ls 0 (N - 1) ≤ 12 → m_T M sl fo ft wt ls n (N - 1 - n) ≤ 12
  | 0, _, h => by
    have e : N - 1 - ((0 : Nat) : Int) = N - 1 := by omega
    rw [e]; exact h
  | n + 1, hn, h => by
    have ih := m_x_down hH n (by omega) h
    have e : N - 1 - ((n + 1 : Nat) : Int) + 1 = N - 1 - n := by omega
    have := m_x_T hH (k := n) (s := N - 1 - ((n + 1 : Nat) : Int)) (by omega) (by omega) (by rw [e]; exact ih)
    rw [e] at this
    exact Int.le_trans this ih
theorem m_x_all (hH : m_H M F nt sl N fr fo ft wt ls) (hN : 1 ≤ N) (h12 : m_nw N M ls fo wt M.toNat ≤ 12) : m_lv M sl fo ft ls N 0 0 1 ≤ 12 := by
  have ⟨hM, hsl, hfo, hft, hwt, h1⟩ := hH
  have hls := h1.2.2.2
  have ht : m_T M sl fo ft wt ls 0 (N - 1) ≤ 12 := by
    refine Int.le_trans ?_ h12
    unfold m_T m_nw
    rw [m_ws_sg]
    refine m_sg_le _ (fun v hv hv2 => ?_)
    have hw := (hwt (14 * (N - 1) + v)).1
    by_cases hon : fo (14 * (N - 1) + v) + ft (14 * (N - 1) + v) = ls
    · rw [if_pos hon, if_pos (m_x_last hH hN hv (by omega) hon)]
      show wt (14 * (N - 1) + v) * 1 ≤ _
      rw [Int.mul_one]
      exact Int.le_refl _
    · rw [if_neg hon]
      split <;> omega
  have h0 := m_x_down hH (N - 1).toNat (by omega) ht
  have e : N - 1 - ((N - 1).toNat : Int) = 0 := by omega
  rw [e] at h0
  refine Int.le_trans ?_ h0
  unfold m_lv m_T
  rw [if_neg (by omega)]
  have e2 : (M + 1 - 1).toNat = M.toNat := by omega
  have e3 : (N - 0 - 1).toNat = (N - 1).toNat := by omega
  rw [e2, e3, m_tl_sg]
  refine m_sg_le _ (fun v hv hv2 => ?_)
  have hC := m_C_nn (M := M) (sl := sl) (fo := fo) (ft := ft) (ls := ls) (N - 1).toNat (0 + 1) v
  have hw := (hwt (14 * 0 + v)).1
  cases hok : m_ok M sl fo ft ls 0 0 v with
  | false =>
    show 0 ≤ _
    split
    · exact Int.mul_nonneg hw hC
    · exact Int.le_refl _
  | true =>
    have hon := (m_ok_on hok).1
    have hon' : fo (14 * 0 + v) + ft (14 * 0 + v) = ls := hon
    have hft0 := hft (14 * 0 + v)
    have hr := (h1.1.1 v hv (by omega)).2
    unfold m_rw at hr
    have e4 : (14 : Int) * 0 + v = v := by omega
    rw [if_pos hon', e4, hr, if_pos (by rw [e4] at hon' hft0; omega)]
    show m_C M sl fo ft ls (N - 1).toNat (0 + 1) v ≤ 1 * m_C M sl fo ft ls (N - 1).toNat (0 + 1) v
    rw [Int.one_mul]
    exact Int.le_refl _
end
