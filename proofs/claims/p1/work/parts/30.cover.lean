-- 30.cover: the law's switch; case 35, case 40 for all numbers
section
variable {tab : Nat → qM} {call : q_call} {M : qM} {scr : Bool} {L : Nat} {env : qE} {h : qH} {k sl pc : Nat} {lv : qL} {stk : List qV} {P : qO → Prop}
theorem q_GE_all (hc : q_cMono call) : ∀ (nx : List qF), (∀ f ∈ nx, q_GE tab call M scr L f P) → ∃ N, ∀ f ∈ nx, q_GF tab call M scr L N f P
  | [], _ => ⟨0, fun f hf => absurd hf List.not_mem_nil⟩
  | g :: nx, h => by
    obtain ⟨a, ha⟩ := h g List.mem_cons_self
    obtain ⟨b, hb⟩ := q_GE_all hc nx (fun f hf => h f (List.mem_cons_of_mem _ hf))
    refine ⟨a + b, fun f hf => ?_⟩
    rcases List.mem_cons.mp hf with rfl | hf
    · exact q_GF_mono hc _ _ _ _ _ (Nat.le_add_right a b) (fun _ h => h) ha
    · exact q_GF_mono hc _ _ _ _ _ (Nat.le_add_left b a) (fun _ h => h) (hb f hf)
theorem q_xst {e : qN} {nx : List qF} (hc : q_cMono call) (he : (q_mI M).get pc = e) (hpc : q_pc e = pc) (hs : q_step (q_mc M) (q_ms M) scr L (q_mL M) e env h k sl lv stk = some nx) (hn : ∀ f ∈ nx, q_GE tab call M scr L f P) : q_GE tab call M scr L (env, h, k, sl, pc, lv, stk) P := by
  obtain ⟨N, hN⟩ := q_GE_all hc nx hn
  subst he
  exact ⟨N + 1, Or.inl ⟨hpc, Or.inr (Or.inr ⟨nx, hs, hN⟩)⟩⟩
theorem q_xI {fr : qF} {I : qF → Prop} (hI : q_cov fr I) {N : Nat} (hN : ∀ f, I f → q_GF tab call M scr L N f P) : q_GE tab call M scr L fr P := ⟨N + 1, Or.inr ⟨I, hI, hN⟩⟩
end
theorem q_bnd {Q : Nat → Nat → Prop} (mono : ∀ i n m, n ≤ m → Q i n → Q i m) : ∀ k, (∀ i, i < k → ∃ n, Q i n) → ∃ N, ∀ i, i < k → Q i N
  | 0, _ => ⟨0, fun i hi => absurd hi (Nat.not_lt_zero _)⟩
  | k + 1, h => by
    obtain ⟨a, ha⟩ := q_bnd mono k (fun i hi => h i (by omega))
    obtain ⟨b, hb⟩ := h k (by omega)
    refine ⟨a + b, fun i hi => ?_⟩
    by_cases e : i = k
    · subst e
      exact mono _ _ _ (Nat.le_add_left _ _) hb
    · exact mono _ _ _ (Nat.le_add_right _ _) (ha i (by omega))
theorem q_En6 (ρ : Nat → Int32) : q_En ρ q_e6 := by
  intro i p hp
  have hb := qB_lt (ρ i)
  have e : p = (0, 4294967295) := by
    unfold q_e6 at hp
    rcases i with _ | _ | _ | _ | _ | _ | i
    · cases hp; rfl
    · cases hp; rfl
    · cases hp; rfl
    · cases hp; rfl
    · cases hp; rfl
    · cases hp; rfl
    · cases hp
  rw [e]
  exact ⟨Nat.zero_le _, by show qB (ρ i) ≤ 4294967295; omega⟩
theorem q_ffL : q_ff q_hL := q_ffB_ok (by decide +kernel)
abbrev q_GFL (n : Nat) (env : qE) (t : Nat) : Prop := q_GF q_T (q_GM q_T 9) q_ML true 6 n (env, q_hL, q_kL, q_sL, t, q_lvL, []) q_PL
theorem q_GFLm {n m : Nat} {env : qE} {t : Nat} (hnm : n ≤ m) (h : q_GFL n env t) : q_GFL m env t := q_GF_mono (q_GM_mono q_T 9) n m _ _ _ hnm (fun _ h => h) h
theorem q_G35 : q_GE q_T (q_GM q_T 9) q_ML true 6 (q_e6, q_hL, q_kL, q_sL, 1286, q_lvL, []) q_PL := by
  obtain ⟨-, -, hk, hsl⟩ := q_pre_ok
  have h1 : ∀ v1, v1 < 4294967296 → ∃ n, ∀ v2, v2 < 4294967296 → q_GFL n (q_eo v1 v2) 1286 := fun v1 _ => q_bnd (Q := fun v2 n => q_GFL n (q_eo v1 v2) 1286) (fun i n m hnm h => q_GFLm hnm h) 4294967296 (fun v2 _ => q_k35 (d := 5) hk hsl q_ffL)
  obtain ⟨N, hN⟩ := q_bnd (Q := fun v1 n => ∀ v2, v2 < 4294967296 → q_GFL n (q_eo v1 v2) 1286) (fun i n m hnm h v2 hv => q_GFLm hnm (h v2 hv)) 4294967296 h1
  refine q_xI (I := fun f => ∃ v1 v2, v1 < 4294967296 ∧ v2 < 4294967296 ∧ f = (q_eo v1 v2, q_hL, q_kL, q_sL, 1286, q_lvL, [])) ?_ (N := N) (fun f ⟨v1, v2, a, b, e⟩ => by rw [e]; exact hN v1 a v2 b)
  intro ρ sb ws tys cl st ⟨hE, hH, hL, hS⟩
  refine ⟨(q_eo (qB (ρ 1)) (qB (ρ 2)), q_hL, q_kL, q_sL, 1286, q_lvL, []), ⟨qB (ρ 1), qB (ρ 2), qB_lt _, qB_lt _, rfl⟩, rfl, rfl, rfl, ?_, hH, hL, hS⟩
  exact q_iv_ok (i := 2) (q_iv_ok (i := 1) (q_En6 ρ) (Nat.le_refl _) (Nat.le_refl _)) (Nat.le_refl _) (Nat.le_refl _)
abbrev q_vld (m a n b : Nat) : Prop := 2 ≤ m ∧ m ≤ 13 ∧ 2 ≤ n ∧ n ≤ 13 ∧ 1 ≤ a ∧ a ≤ m ∧ 1 ≤ b ∧ b ≤ n
abbrev q_e40 (m a n b : Nat) : qE := q_ev (0, 4294967295) (0, 4294967295) m a n b
theorem q_v40 : ∃ N, ∀ m, m < 14 → ∀ a, a < 14 → ∀ n, n < 14 → ∀ b, b < 14 → q_vld m a n b → q_GFL N (q_e40 m a n b) 1437 := by
  obtain ⟨-, hh, hk, hsl⟩ := q_pre_ok
  refine q_bnd (Q := fun m N => ∀ a, a < 14 → ∀ n, n < 14 → ∀ b, b < 14 → q_vld m a n b → q_GFL N (q_e40 m a n b) 1437) (fun i n m hnm h a ha n2 hn b hb hv => q_GFLm hnm (h a ha n2 hn b hb hv)) 14 fun m _ => ?_
  refine q_bnd (Q := fun a N => ∀ n, n < 14 → ∀ b, b < 14 → q_vld m a n b → q_GFL N (q_e40 m a n b) 1437) (fun i n m hnm h n2 hn b hb hv => q_GFLm hnm (h n2 hn b hb hv)) 14 fun a _ => ?_
  refine q_bnd (Q := fun n N => ∀ b, b < 14 → q_vld m a n b → q_GFL N (q_e40 m a n b) 1437) (fun i n m hnm h b hb hv => q_GFLm hnm (h b hb hv)) 14 fun n _ => ?_
  refine q_bnd (Q := fun b N => q_vld m a n b → q_GFL N (q_e40 m a n b) 1437) (fun i n m hnm h hv => q_GFLm hnm (h hv)) 14 fun b _ => ?_
  by_cases hv : q_vld m a n b
  · obtain ⟨v1, v2, v3, v4, v5, v6, v7, v8⟩ := hv
    obtain ⟨N, hN⟩ := q_k40 (d := 6) (e0 := (0, 4294967295)) (e5 := (0, 4294967295)) hk hsl hh v1 v2 v3 v4 v5 v6 v7 v8
    exact ⟨N, fun _ => hN⟩
  · exact ⟨0, fun h => absurd h hv⟩
theorem q_rnF : ∃ F, ∀ (env : qE) (t : Nat), q_rn env t = true → q_GFL F env t := by
  refine ⟨1000000, fun env t h => ?_⟩
  obtain ⟨os, h1, h2⟩ := q_gd_ok h
  exact q_rf_ok q_hcall 1000000 _ _ _ _ _ _ _ os h1 q_PL h2
theorem q_En40 {ρ : Nat → Int32} {m a n b : Nat} (h1 : qB (ρ 1) = m + 2147483648) (h2 : qB (ρ 2) = a + 2147483648) (h3 : qB (ρ 3) = n + 2147483648) (h4 : qB (ρ 4) = b + 2147483648) : q_En ρ (q_e40 m a n b) := by
  have hz := q_iv_ok (i := 4) (q_iv_ok (i := 3) (q_iv_ok (i := 2) (q_iv_ok (i := 1) (q_En6 ρ) (Nat.le_of_eq h1.symm) (Nat.le_of_eq h1)) (Nat.le_of_eq h2.symm) (Nat.le_of_eq h2)) (Nat.le_of_eq h3.symm) (Nat.le_of_eq h3)) (Nat.le_of_eq h4.symm) (Nat.le_of_eq h4)
  exact hz
theorem q_ax0 : q_rn (q_iv (q_e6) 1 0 2147483649) 1437 = true := List.all_eq_true.mp q_bx1 _ (List.mem_of_getElem? (i := 0) rfl)
theorem q_ax1 : q_rn (q_iv (q_e6) 1 2147483662 4294967295) 1437 = true := List.all_eq_true.mp q_bx1 _ (List.mem_of_getElem? (i := 1) rfl)
theorem q_ax2 : q_rn (q_iv (q_e6) 2 0 2147483648) 1437 = true := List.all_eq_true.mp q_bx1 _ (List.mem_of_getElem? (i := 2) rfl)
theorem q_ax3 : q_rn (q_iv (q_e6) 2 2147483662 4294967295) 1437 = true := List.all_eq_true.mp q_bx1 _ (List.mem_of_getElem? (i := 3) rfl)
theorem q_ax4 : q_rn (q_iv (q_e6) 3 0 2147483649) 1437 = true := List.all_eq_true.mp q_bx1 _ (List.mem_of_getElem? (i := 4) rfl)
theorem q_ax5 : q_rn (q_iv (q_e6) 3 2147483662 4294967295) 1437 = true := List.all_eq_true.mp q_bx1 _ (List.mem_of_getElem? (i := 5) rfl)
theorem q_ax6 : q_rn (q_iv (q_e6) 4 0 2147483648) 1437 = true := List.all_eq_true.mp q_bx2 _ (List.mem_of_getElem? (i := 0) rfl)
theorem q_f8 : ∀ j, j < 12 → q_rn (q_iv (q_iv q_e6 1 (2147483650 + j) (2147483650 + j)) 4 2147483662 4294967295) 1437 = true
  | 0, _ => List.all_eq_true.mp q_bx3 _ (List.mem_of_getElem? (i := 0) rfl)
  | 1, _ => List.all_eq_true.mp q_bx3 _ (List.mem_of_getElem? (i := 1) rfl)
  | 2, _ => List.all_eq_true.mp q_bx3 _ (List.mem_of_getElem? (i := 2) rfl)
  | 3, _ => List.all_eq_true.mp q_bx3 _ (List.mem_of_getElem? (i := 3) rfl)
  | 4, _ => List.all_eq_true.mp q_bx3 _ (List.mem_of_getElem? (i := 4) rfl)
  | 5, _ => List.all_eq_true.mp q_bx3 _ (List.mem_of_getElem? (i := 5) rfl)
  | 6, _ => List.all_eq_true.mp q_bx4 _ (List.mem_of_getElem? (i := 0) rfl)
  | 7, _ => List.all_eq_true.mp q_bx4 _ (List.mem_of_getElem? (i := 1) rfl)
  | 8, _ => List.all_eq_true.mp q_bx4 _ (List.mem_of_getElem? (i := 2) rfl)
  | 9, _ => List.all_eq_true.mp q_bx4 _ (List.mem_of_getElem? (i := 3) rfl)
  | 10, _ => List.all_eq_true.mp q_bx4 _ (List.mem_of_getElem? (i := 4) rfl)
  | 11, _ => List.all_eq_true.mp q_bx4 _ (List.mem_of_getElem? (i := 5) rfl)
  | j + 12, h => absurd h (by omega)
theorem q_f9 : ∀ j, j < 11 → q_rn (q_iv (q_iv q_e6 1 (2147483650 + j) (2147483650 + j)) 2 (2147483651 + j) 2147483661) 1437 = true
  | 0, _ => List.all_eq_true.mp q_bx2 _ (List.mem_of_getElem? (i := 1) rfl)
  | 1, _ => List.all_eq_true.mp q_bx2 _ (List.mem_of_getElem? (i := 2) rfl)
  | 2, _ => List.all_eq_true.mp q_bx2 _ (List.mem_of_getElem? (i := 3) rfl)
  | 3, _ => List.all_eq_true.mp q_bx2 _ (List.mem_of_getElem? (i := 4) rfl)
  | 4, _ => List.all_eq_true.mp q_bx2 _ (List.mem_of_getElem? (i := 5) rfl)
  | 5, _ => List.all_eq_true.mp q_bx2 _ (List.mem_of_getElem? (i := 6) rfl)
  | 6, _ => List.all_eq_true.mp q_bx2 _ (List.mem_of_getElem? (i := 7) rfl)
  | 7, _ => List.all_eq_true.mp q_bx2 _ (List.mem_of_getElem? (i := 8) rfl)
  | 8, _ => List.all_eq_true.mp q_bx2 _ (List.mem_of_getElem? (i := 9) rfl)
  | 9, _ => List.all_eq_true.mp q_bx2 _ (List.mem_of_getElem? (i := 10) rfl)
  | 10, _ => List.all_eq_true.mp q_bx2 _ (List.mem_of_getElem? (i := 11) rfl)
  | j + 11, h => absurd h (by omega)
theorem q_f10 : ∀ j, j < 11 → q_rn (q_iv (q_iv q_e6 3 (2147483650 + j) (2147483650 + j)) 4 (2147483651 + j) 2147483661) 1437 = true
  | 0, _ => List.all_eq_true.mp q_bx5 _ (List.mem_of_getElem? (i := 0) rfl)
  | 1, _ => List.all_eq_true.mp q_bx5 _ (List.mem_of_getElem? (i := 1) rfl)
  | 2, _ => List.all_eq_true.mp q_bx5 _ (List.mem_of_getElem? (i := 2) rfl)
  | 3, _ => List.all_eq_true.mp q_bx5 _ (List.mem_of_getElem? (i := 3) rfl)
  | 4, _ => List.all_eq_true.mp q_bx6 _ (List.mem_of_getElem? (i := 0) rfl)
  | 5, _ => List.all_eq_true.mp q_bx6 _ (List.mem_of_getElem? (i := 1) rfl)
  | 6, _ => List.all_eq_true.mp q_bx6 _ (List.mem_of_getElem? (i := 2) rfl)
  | 7, _ => List.all_eq_true.mp q_bx6 _ (List.mem_of_getElem? (i := 3) rfl)
  | 8, _ => List.all_eq_true.mp q_bx7 _ (List.mem_of_getElem? (i := 0) rfl)
  | 9, _ => List.all_eq_true.mp q_bx7 _ (List.mem_of_getElem? (i := 1) rfl)
  | 10, _ => List.all_eq_true.mp q_bx7 _ (List.mem_of_getElem? (i := 2) rfl)
  | j + 11, h => absurd h (by omega)
theorem q_cov40 (ρ : Nat → Int32) : (∃ m a n b, q_vld m a n b ∧ q_En ρ (q_e40 m a n b)) ∨ ∃ e, q_rn e 1437 = true ∧ q_En ρ e := by
  have w1 := qB_lt (ρ 1)
  have w2 := qB_lt (ρ 2)
  have w3 := qB_lt (ρ 3)
  have w4 := qB_lt (ρ 4)
  have e6 := q_En6 ρ
  by_cases g1 : qB (ρ 1) < 2147483650
  · exact Or.inr ⟨_, q_ax0, q_iv_ok (i := 1) (e6) (by omega) (by omega)⟩
  by_cases g2 : 2147483662 ≤ qB (ρ 1)
  · exact Or.inr ⟨_, q_ax1, q_iv_ok (i := 1) (e6) (by omega) (by omega)⟩
  by_cases g3 : qB (ρ 2) < 2147483649
  · exact Or.inr ⟨_, q_ax2, q_iv_ok (i := 2) (e6) (by omega) (by omega)⟩
  by_cases g4 : 2147483662 ≤ qB (ρ 2)
  · exact Or.inr ⟨_, q_ax3, q_iv_ok (i := 2) (e6) (by omega) (by omega)⟩
  by_cases g5 : qB (ρ 3) < 2147483650
  · exact Or.inr ⟨_, q_ax4, q_iv_ok (i := 3) (e6) (by omega) (by omega)⟩
  by_cases g6 : 2147483662 ≤ qB (ρ 3)
  · exact Or.inr ⟨_, q_ax5, q_iv_ok (i := 3) (e6) (by omega) (by omega)⟩
  by_cases g7 : qB (ρ 4) < 2147483649
  · exact Or.inr ⟨_, q_ax6, q_iv_ok (i := 4) (e6) (by omega) (by omega)⟩
  obtain ⟨j1, hj1⟩ : ∃ j, qB (ρ 1) = 2147483650 + j := ⟨qB (ρ 1) - 2147483650, by omega⟩
  obtain ⟨j3, hj3⟩ : ∃ j, qB (ρ 3) = 2147483650 + j := ⟨qB (ρ 3) - 2147483650, by omega⟩
  by_cases g8 : 2147483662 ≤ qB (ρ 4)
  · exact Or.inr ⟨_, q_f8 j1 (by omega), q_iv_ok (i := 4) (q_iv_ok (i := 1) (e6) (by omega) (by omega)) (by omega) (by omega)⟩
  by_cases g9 : qB (ρ 1) < qB (ρ 2)
  · exact Or.inr ⟨_, q_f9 j1 (by omega), q_iv_ok (i := 2) (q_iv_ok (i := 1) (e6) (by omega) (by omega)) (by omega) (by omega)⟩
  by_cases g10 : qB (ρ 3) < qB (ρ 4)
  · exact Or.inr ⟨_, q_f10 j3 (by omega), q_iv_ok (i := 4) (q_iv_ok (i := 3) (e6) (by omega) (by omega)) (by omega) (by omega)⟩
  refine Or.inl ⟨qB (ρ 1) - 2147483648, qB (ρ 2) - 2147483648, qB (ρ 3) - 2147483648, qB (ρ 4) - 2147483648, ⟨by omega, by omega, by omega, by omega, by omega, by omega, by omega, by omega⟩, ?_⟩
  exact q_En40 (by omega) (by omega) (by omega) (by omega)
set_option maxRecDepth 100000 in
theorem q_G40 : q_GE q_T (q_GM q_T 9) q_ML true 6 (q_e6, q_hL, q_kL, q_sL, 1437, q_lvL, []) q_PL := by
  obtain ⟨N, hN⟩ := q_v40
  obtain ⟨F, hF⟩ := q_rnF
  refine q_xI (I := fun f => ∃ e : qE, q_GFL (N + F) e 1437 ∧ f = (e, q_hL, q_kL, q_sL, 1437, q_lvL, [])) ?_ (N := N + F) ?_
  · intro ρ sb ws tys cl st ⟨hE, hH, hL, hS⟩
    have go : ∀ e : qE, q_GFL (N + F) e 1437 → q_En ρ e → ∃ f : qF, (∃ e : qE, q_GFL (N + F) e 1437 ∧ f = (e, q_hL, q_kL, q_sL, 1437, q_lvL, [])) ∧ f.2.2.1 = q_kL ∧ f.2.2.2.1 = q_sL ∧ f.2.2.2.2.1 = 1437 ∧ q_cc f ρ sb ws tys cl st := fun e h1 h2 =>
      ⟨(e, q_hL, q_kL, q_sL, 1437, q_lvL, []), ⟨e, h1, rfl⟩, rfl, rfl, rfl, h2, hH, hL, hS⟩
    rcases q_cov40 ρ with ⟨m, a, n, b, hv, he⟩ | ⟨e, hr, he⟩
    · have hv2 := hv
      obtain ⟨v1, v2, v3, v4, v5, v6, v7, v8⟩ := hv2
      exact go _ (q_GFLm (Nat.le_add_right _ _) (hN m (by omega) a (by omega) n (by omega) b (by omega) hv)) he
    · exact go _ (q_GFLm (Nat.le_add_left _ _) (hF e _ hr)) he
  · intro f ⟨e, he, hf⟩
    rw [hf]
    exact he
abbrev q_TS : List Nat := [252, 265, 279, 293, 336, 409, 443, 506, 569, 592, 615, 638, 661, 694, 727, 760, 783, 806, 819, 842, 855, 868, 881, 904, 937, 950, 963, 1002, 1041, 1080, 1113, 1126, 1175, 1224, 1273, 1286, 1319, 1358, 1371, 1394, 1437, 1490, 1533, 1546, 1559, 1592, 1615, 1648, 1671, 1714, 1727]
theorem q_sw1 (env : qE) (h : qH) (k sl : Nat) (lv : qL) : q_step 600000 7302250 true 6 4 (12, 33, 0, 1740, 219, 0, q_TS) env h k sl lv [(2, 0)] = some ((env, h, k, sl, 1740, lv, []) :: q_TS.map fun t => (env, h, k, sl, t, lv, [])) := rfl
theorem q_cases : ∀ t ∈ 1740 :: q_TS, t = 1286 ∨ t = 1437 ∨ t ∈ ([252, 265, 279, 293, 336, 409, 443, 506] : List Nat) ∨ t ∈ ([569, 592, 615, 638, 661, 694, 727, 760, 783, 806, 819, 842, 855, 868, 881, 904, 937, 950] : List Nat) ∨ t ∈ ([963, 1002, 1041, 1080, 1113, 1126, 1175] : List Nat) ∨ t ∈ ([1224] : List Nat) ∨ t ∈ ([1273, 1319, 1358, 1371, 1394] : List Nat) ∨ t ∈ ([1490] : List Nat) ∨ t ∈ ([1533, 1546, 1559, 1592, 1615, 1648, 1714, 1727, 1740] : List Nat) ∨ t ∈ ([1671] : List Nat) := by decide +kernel
set_option maxRecDepth 100000 in
theorem q_Gt : ∀ t ∈ 1740 :: q_TS, q_GE q_T (q_GM q_T 9) q_ML true 6 (q_e6, q_hL, q_kL, q_sL, t, q_lvL, []) q_PL := by
  intro t ht
  rcases q_cases t ht with rfl | rfl | ht | ht | ht | ht | ht | ht | ht | ht
  · exact q_G35
  · exact q_G40
  · exact q_rn_ok (List.all_eq_true.mp q_g0 t ht)
  · exact q_rn_ok (List.all_eq_true.mp q_g1 t ht)
  · exact q_rn_ok (List.all_eq_true.mp q_g2 t ht)
  · exact q_rn_ok (List.all_eq_true.mp q_g3 t ht)
  · exact q_rn_ok (List.all_eq_true.mp q_g4 t ht)
  · exact q_rn_ok (List.all_eq_true.mp q_g5 t ht)
  · exact q_rn_ok (List.all_eq_true.mp q_g6 t ht)
  · exact q_rn_ok (List.all_eq_true.mp q_g7 t ht)
theorem q_Gsw : q_GE q_T (q_GM q_T 9) q_ML true 6 (q_e6, q_hL, q_kL, q_sL, 33, q_lvL, [(2, 0)]) q_PL := by
  refine q_xst (q_GM_mono q_T 9) (e := (12, 33, 0, 1740, 219, 0, q_TS)) rfl rfl (q_sw1 _ _ _ _ _) fun f hf => ?_
  rcases List.mem_cons.mp hf with rfl | hf
  · exact q_Gt _ List.mem_cons_self
  · obtain ⟨t, ht, rfl⟩ := List.mem_map.mp hf
    exact q_Gt t (List.mem_cons_of_mem _ ht)
theorem q_Glaw6 : q_GE q_T (q_GM q_T 9) q_ML true 6 (q_e6, q_hZ, 0, 0, 0, [(0, (9, 0))], []) q_PL := by
  obtain ⟨n, hn⟩ := q_Gsw
  exact q_adv_ok q_hcall hn 1000000 _ _ _ _ _ _ _ q_pre_ok.1
theorem q_short : (([0, 1, 2, 3, 4, 5] : List Nat).all fun L => q_gd (q_rf q_T q_cc9 q_ML true L 1000000 q_e6 q_hZ 0 0 0 [(0, (9, 0))] [])) = true := by decide +kernel
theorem q_Glaw (L : Nat) (hL : L ≤ 6) : q_GE q_T (q_GM q_T 9) q_ML true L (q_e6, q_hZ, 0, 0, 0, [(0, (9, 0))], []) q_PL := by
  by_cases h6 : L = 6
  · subst h6
    exact q_Glaw6
  · have hm : L ∈ ([0, 1, 2, 3, 4, 5] : List Nat) := by
      have : L = 0 ∨ L = 1 ∨ L = 2 ∨ L = 3 ∨ L = 4 ∨ L = 5 := by omega
      rcases this with rfl | rfl | rfl | rfl | rfl | rfl <;> decide
    obtain ⟨os, h1, h2⟩ := q_gd_ok (List.all_eq_true.mp q_short L hm)
    exact ⟨1000000, q_rf_ok q_hcall 1000000 _ _ _ _ _ _ _ os h1 q_PL h2⟩
