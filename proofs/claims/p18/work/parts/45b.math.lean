-- 45b.math: Math's methods run to their values (their class may be run by the platform's own rows, so calls go by the library's contracts)
def q_vop (e : qN) : Bool := (Nat.beq e.1 0 && Nat.beq (q_v e) 3) || ((Nat.beq e.1 1 && Nat.ble (q_v e) 3) || (Nat.beq e.1 7 || (Nat.beq e.1 8 || (Nat.beq e.1 9 || (Nat.beq e.1 10 || Nat.beq e.1 28)))))
def q_vld (o : Option Value) (v n : Nat) (st : List Value) : Option (Nat × List Value) := match o with
  | some (.int x) => bif Nat.ble v 1 then some (n, .int x :: st) else none
  | some (.long x) => bif Nat.ble v 1 then none else some (n, .long x :: st)
  | _ => none
/-- one instruction over values -/
def q_vs (g : Nat → Option Value) (e : qN) (st : List Value) : Option (Nat × List Value) := match e.1 with
  | 0 => some (q_pc e + 1, .long (Int64.ofNat (q_fin2 (q_a e) : Nat)) :: st)
  | 1 => q_vld (g (q_a e)) (q_v e) (q_pc e + (q_ins1 (q_v e) (q_a e)).2) st
  | 7 => (match st with
    | .long y :: .long x :: st => some (q_pc e + 1, .int (lg_cmp x y) :: st)
    | _ => none)
  | 8 => (match st with
    | .int x :: st => some (bif q_op (q_v e) x 0 then q_a e else q_pc e + 3, st)
    | _ => none)
  | 9 => (match st with
    | .int y :: .int x :: st => some (bif q_op (q_v e) x y then q_a e else q_pc e + 3, st)
    | _ => none)
  | 10 => some (q_a e, st)
  | 28 => (match st with
    | .long x :: st => some (q_pc e + 1, .long (-x) :: st)
    | _ => none)
  | _ => none
def q_vit (g : Nat → Option Value) (I : Lean.RArray qN) : Nat → Option (Nat × List Value)
  | 0 => some (0, [])
  | j + 1 => match q_vit g I j with
    | none => none
    | some r => q_vs g (I.get r.1) r.2
theorem q_vit_s {g : Nat → Option Value} {I : Lean.RArray qN} {j pc : Nat} {st : List Value} (h : q_vit g I j = some (pc, st)) : q_vit g I (j + 1) = q_vs g (I.get pc) st := by
  show (match q_vit g I j with
    | none => none
    | some r => q_vs g (I.get r.1) r.2) = _
  rw [h]
theorem q_vit_n {g : Nat → Option Value} {I : Lean.RArray qN} {j : Nat} (h : q_vit g I j = none) : ∀ k, q_vit g I (j + k) = none
  | 0 => h
  | k + 1 => by
    show (match q_vit g I (j + k) with
      | none => none
      | some r => q_vs g (I.get r.1) r.2) = none
    rw [q_vit_n h k]
theorem q_rvo_one {T : Option FieldType} {v : Nat} {x : qV} {r : Option qV} (h : q_rvo T v [x] = some r) : r = some x := by
  cases T with
  | none => cases h
  | some T =>
    cases T
    case int => obtain ⟨-, h⟩ := q_bt h; cases h; rfl
    case boolean => obtain ⟨-, h⟩ := q_bt h; cases h; rfl
    case long => obtain ⟨-, h⟩ := q_bt h; cases h; rfl
    case object n => obtain ⟨-, h⟩ := q_bt h; cases h; rfl
    case array t => obtain ⟨-, h⟩ := q_bt h; cases h; rfl
    all_goals cases h
section
variable {ρ : Nat → Int32} {sb : (Nat → Nat) × va_W} {scr : Bool} {L : Nat}
variable {e : qN} {env : qE} {h : qH} {k sl : Nat} {lv : qL} {stk : List qV} {nx : List qF} {ws : va_W} {tys : List (ClassId × FieldType)} {tab : Nat → qM} {M : qM}
theorem q_vcmp {Pf : qF → Prop} {pc v tgt b w : Nat} {t : List Nat} {x1 x0 : Value} {st : List Value} (hs : q_s9 (9, pc, v, tgt, b, w, t) env h k sl lv stk = some nx) (hn : ∀ f ∈ nx, Pf f) (hE : q_En ρ env) (hT : q_Sk ρ sb ws stk (x1 :: x0 :: st)) :
    ∃ env' stk', q_En ρ env' ∧ ((q_Sk ρ sb ws stk' (x1 :: x0 :: st) ∧ Pf (env', h, k, sl, pc, lv, stk')) ∨ ∃ a c, x0 = .int a ∧ x1 = .int c ∧ q_Sk ρ sb ws stk' st ∧ Pf (env', h, k, sl, (bif q_op v a c then tgt else pc + 3), lv, stk')) := by
  unfold q_s9 at hs
  rcases stk with _ | ⟨y, _ | ⟨x, stk⟩⟩
  · cases hs
  · cases hs
  · obtain ⟨hyv, hxv, hT⟩ := hT
    rcases q_bf hs with ⟨hk, hs⟩ | ⟨-, hs⟩
    · rw [Bool.and_eq_true] at hk
      have hg := q_spl_in hs hn
      obtain ⟨q, hq, hE2, hq2⟩ := q_spl_ok hE hyv hk.2
      exact ⟨q.1, q.2 :: x :: stk, hE2, Or.inl ⟨⟨hq2, hxv, hT⟩, hg q hq⟩⟩
    · rcases q_bf hs with ⟨hk, hs⟩ | ⟨-, hs⟩
      · rw [Bool.and_eq_true] at hk
        have hg := q_spl_in hs hn
        obtain ⟨q, hq, hE2, hq2⟩ := q_spl_ok hE hxv hk.2
        exact ⟨q.1, y :: q.2 :: stk, hE2, Or.inl ⟨⟨hyv, hq2, hT⟩, hg q hq⟩⟩
      · obtain ⟨hk, hs⟩ := q_bt hs
        rw [Bool.and_eq_true] at hk
        obtain ⟨xc, rfl⟩ := hxv.int (Nat.eq_of_beq_eq_true hk.1)
        obtain ⟨yc, rfl⟩ := hyv.int (Nat.eq_of_beq_eq_true hk.2)
        have hg := q_map_in hs hn
        obtain ⟨q, hq, h1, hE2⟩ := q_cmp_ok hE v hxv hyv
        have hg := hg q hq
        rw [q_fc_eq] at hg
        refine ⟨q.2, stk, hE2, Or.inr ⟨xc, yc, rfl, rfl, hT, ?_⟩⟩
        rw [← h1]
        exact hg
theorem q_vs_ok {Pf : qF → Prop} {cl : List (Nat × Value)} {g : Nat → Option Value} {st : List Value} {mc ms maxL : Nat} (hg : ∀ i w, (i, w) ∈ cl → g i = some w) (hop : q_vop e = true) (hs : q_step mc ms scr L maxL e env h k sl lv stk = some nx) (hn : ∀ f ∈ nx, Pf f) (hE : q_En ρ env) (hLs : q_Ls ρ sb ws lv cl) (hT : q_Sk ρ sb ws stk st) :
    ∃ env' stk', q_En ρ env' ∧ ((∃ r, q_vs g e st = some r ∧ q_Sk ρ sb ws stk' r.2 ∧ Pf (env', h, k, sl, r.1, lv, stk')) ∨ (q_Sk ρ sb ws stk' st ∧ Pf (env', h, k, sl, q_pc e, lv, stk'))) := by
  obtain ⟨op, pc, v, a, b, w, t⟩ := e
  unfold q_vop at hop
  simp only [Bool.or_eq_true, Bool.and_eq_true] at hop
  rcases hop with ⟨ho, hv⟩ | ⟨ho, hv⟩ | ho | ho | ho | ho | ho
  · have ho2 : op = 0 := Nat.eq_of_beq_eq_true ho
    have hv2 : v = 3 := Nat.eq_of_beq_eq_true hv
    subst ho2; subst hv2
    have hs : q_gv env h k sl (pc + 1) lv 3 (qMn (Int64.ofNat (q_fin2 a : Nat))) stk = some nx := hs
    have hz : q_RV ρ sb ws (3, qMn (Int64.ofNat (q_fin2 a : Nat))) (.long (Int64.ofNat (q_fin2 a : Nat))) := by show Value.long _ = .long (qJ (qMn _)); rw [qJ_M]
    exact ⟨env, (3, qMn (Int64.ofNat (q_fin2 a : Nat))) :: stk, hE, Or.inl ⟨(pc + 1, .long (Int64.ofNat (q_fin2 a : Nat)) :: st), rfl, (⟨hz, hT⟩ : q_Sk ρ sb ws ((3, qMn (Int64.ofNat (q_fin2 a : Nat))) :: stk) (.long (Int64.ofNat (q_fin2 a : Nat)) :: st)), q_gv_in hs hn⟩⟩
  · have ho : op = 1 := Nat.eq_of_beq_eq_true ho
    subst ho
    have hv : v ≤ 3 := Nat.le_of_ble_eq_true hv
    have hs : q_s1 (1, pc, v, a, b, w, t) env h k sl lv stk = some nx := hs
    unfold q_s1 at hs
    cases hlg : q_lg lv a with
    | none => simp only [hlg] at hs; cases hs
    | some x =>
      simp only [hlg] at hs
      obtain ⟨hk, hs⟩ := q_bt hs
      have hk := Nat.eq_of_beq_eq_true hk
      obtain ⟨x1, h1, hxv⟩ := hLs.lg hlg
      have hgx := hg _ _ h1
      have hP := q_go_in hs hn
      refine ⟨env, x :: stk, hE, Or.inl ⟨(pc + (q_ins1 v a).2, x1 :: st), ?_, ⟨hxv, hT⟩, hP⟩⟩
      show q_vld (g a) v (pc + (q_ins1 v a).2) st = _
      rw [hgx]
      rcases v with _ | _ | _ | _ | v
      · obtain ⟨c1, rfl⟩ := hxv.int hk; rfl
      · obtain ⟨c1, rfl⟩ := hxv.int hk; rfl
      · obtain ⟨c1, rfl⟩ := hxv.long hk; rfl
      · obtain ⟨c1, rfl⟩ := hxv.long hk; rfl
      · omega
  · have ho : op = 7 := Nat.eq_of_beq_eq_true ho
    subst ho
    have hs : q_s7 (7, pc, v, a, b, w, t) env h k sl lv stk = some nx := hs
    unfold q_s7 at hs
    rcases stk with _ | ⟨y, _ | ⟨x, stk⟩⟩
    · cases hs
    · cases hs
    · obtain ⟨yv, st1, rfl, hyv, hT1⟩ := hT.cons
      obtain ⟨xv, st2, rfl, hxv, hT2⟩ := hT1.cons
      obtain ⟨hk, hs⟩ := q_bt hs
      rw [Bool.and_eq_true] at hk
      obtain ⟨xc, rfl⟩ := hxv.long (Nat.eq_of_beq_eq_true hk.1)
      obtain ⟨yc, rfl⟩ := hyv.long (Nat.eq_of_beq_eq_true hk.2)
      have hg := q_map_in hs hn
      obtain ⟨q, hq, h1, hE2⟩ := q_lc_ok hE hxv hyv
      have hg := hg q hq
      rw [q_fc_eq] at hg
      have hz : q_RV ρ sb ws (0, q.1) (.int (lg_cmp xc yc)) := by
        show Value.int _ = .int (qI q.1)
        rw [h1, qI_N]
      exact ⟨q.2, (0, q.1) :: stk, hE2, Or.inl ⟨(pc + 1, .int (lg_cmp xc yc) :: st2), rfl, (⟨hz, hT2⟩ : q_Sk ρ sb ws ((0, q.1) :: stk) (.int (lg_cmp xc yc) :: st2)), hg⟩⟩
  · have ho : op = 8 := Nat.eq_of_beq_eq_true ho
    subst ho
    have hs : q_s8 (8, pc, v, a, b, w, t) env h k sl lv stk = some nx := hs
    unfold q_s8 at hs
    rcases stk with _ | ⟨x, stk⟩
    · cases hs
    · obtain ⟨xv, st2, rfl, hxv, hT2⟩ := hT.cons
      obtain ⟨hk, hs⟩ := q_bt hs
      obtain ⟨xc, rfl⟩ := hxv.int (Nat.eq_of_beq_eq_true hk)
      have hg := q_map_in hs hn
      obtain ⟨q, hq, h1, hE2⟩ := q_cmp_ok hE v hxv (y := (0, 0)) (c := 0) (by rfl)
      have hg := hg q hq
      rw [q_fc_eq] at hg
      refine ⟨q.2, stk, hE2, Or.inl ⟨_, rfl, hT2, ?_⟩⟩
      show Pf (q.2, h, k, sl, (bif q_op v xc 0 then a else pc + 3), lv, stk)
      rw [← h1]
      exact hg
  · have ho : op = 9 := Nat.eq_of_beq_eq_true ho
    subst ho
    have hs : q_s9 (9, pc, v, a, b, w, t) env h k sl lv stk = some nx := hs
    rcases stk with _ | ⟨y, _ | ⟨x, stk⟩⟩
    · cases hs
    · cases hs
    · obtain ⟨yv, st1, rfl, hyv, hT1⟩ := hT.cons
      obtain ⟨xv, st2, rfl, hxv, hT2⟩ := hT1.cons
      obtain ⟨env', stk', hE', ⟨hT', hP⟩ | ⟨a', c', e0, e1, hT', hP⟩⟩ := q_vcmp hs hn hE (⟨hyv, hxv, hT2⟩ : q_Sk ρ sb ws (y :: x :: stk) (yv :: xv :: st2))
      · exact ⟨env', stk', hE', Or.inr ⟨hT', hP⟩⟩
      · subst e0; subst e1
        exact ⟨env', stk', hE', Or.inl ⟨_, rfl, hT', hP⟩⟩
  · have ho : op = 10 := Nat.eq_of_beq_eq_true ho
    subst ho
    have hs : q_go env h k sl a lv stk = some nx := hs
    exact ⟨env, stk, hE, Or.inl ⟨_, rfl, hT, q_go_in hs hn⟩⟩
  · have ho : op = 28 := Nat.eq_of_beq_eq_true ho
    subst ho
    have hs : q_s28 (28, pc, v, a, b, w, t) env h k sl lv stk = some nx := hs
    unfold q_s28 at hs
    rcases stk with _ | ⟨x, stk⟩
    · cases hs
    · obtain ⟨xv, st2, rfl, hxv, hT2⟩ := hT.cons
      obtain ⟨hk, hs⟩ := q_bt hs
      have ex := hxv.c3 hk
      subst ex
      have hz : q_RV ρ sb ws (3, qMn (-(qJ x.2))) (.long (-(qJ x.2))) := by show Value.long _ = .long (qJ (qMn _)); rw [qJ_M]
      exact ⟨env, (3, qMn (-(qJ x.2))) :: stk, hE, Or.inl ⟨(pc + 1, .long (-(qJ x.2)) :: st2), rfl, (⟨hz, hT2⟩ : q_Sk ρ sb ws ((3, qMn (-(qJ x.2))) :: stk) (.long (-(qJ x.2)) :: st2)), q_gv_in hs hn⟩⟩
theorem q_vop_23 (h : q_vop e = true) : e.1 ≠ 23 ∧ e.1 ≠ 24 := by
  obtain ⟨op, r⟩ := e
  constructor
  · intro q
    have q : op = 23 := q
    subst q
    cases h
  · intro q
    have q : op = 24 := q
    subst q
    cases h
theorem q_step_24 {mc ms maxL : Nat} (he : e.1 = 24) : q_step mc ms scr L maxL e env h k sl lv stk = none := by
  obtain ⟨op, r⟩ := e
  have he : op = 24 := he
  subst he
  rfl
/-- a run of such a method ends with the value that the instructions come to -/
theorem q_va_run {call : q_call} {T : Value → Prop} {g : Nat → Option Value} {cl : List (Nat × Value)} (hg : ∀ i w, (i, w) ∈ cl → g i = some w) (hend : ∀ j pc st, q_vit g (q_mI M) j = some (pc, st) → (((q_mI M).get pc).1 = 24 ∧ ∃ w, st = [w] ∧ T w) ∨ q_vop ((q_mI M).get pc) = true) {P : qO → Prop} :
    ∀ (n : Nat) (fr : qF) (st : List Value) (j : Nat), q_GF tab call M scr L n fr P → q_cc fr ρ sb ws tys cl st → q_vit g (q_mI M) j = some (fr.2.2.2.2.1, st) → ∃ (w : Value) (o : qO) (r : qV), T w ∧ P o ∧ o.2.2 = some r ∧ q_RV ρ sb ws r w ∧ q_En ρ o.1 ∧ q_Hp ρ sb o.2.1 ws tys := by
  intro n
  induction n with
  | zero => intro fr st j hG; exact (hG : False).elim
  | succ n ih =>
    intro fr st j hG hcc hS
    obtain ⟨env, h, k, sl, pc, lv, stk⟩ := fr
    have hS : q_vit g (q_mI M) j = some (pc, st) := hS
    rcases hG with ⟨hpc, hG⟩ | ⟨I, hcov, hG⟩
    · obtain ⟨hE, hH, hL, hT⟩ := hcc
      have hE : q_En ρ env := hE
      have hH : q_Hp ρ sb h ws tys := hH
      have hL : q_Ls ρ sb ws lv cl := hL
      have hT : q_Sk ρ sb ws stk st := hT
      have hpc : q_pc ((q_mI M).get pc) = pc := hpc
      rcases hG with ⟨h24, r, hr, hk, hsl, hPo⟩ | ⟨h23, -⟩ | ⟨nx, hs, hn⟩
      · rcases hend j pc st hS with ⟨-, w, rfl, hw⟩ | hv
        · have hr : q_rvo (q_mT M) (q_v ((q_mI M).get pc)) stk = some r := hr
          rcases stk with _ | ⟨x, _ | ⟨x2, stk⟩⟩
          · exact (hT : False).elim
          · have e := q_rvo_one hr
            subst e
            exact ⟨w, _, x, hw, hPo, rfl, hT.1, hE, hH⟩
          · exact (hT.2 : False).elim
        · exact absurd h24 (q_vop_23 hv).2
      · rcases hend j pc st hS with ⟨h24, -⟩ | hv
        · have h23 : ((q_mI M).get pc).1 = 23 := h23
          rw [h24] at h23
          cases h23
        · exact absurd h23 (q_vop_23 hv).1
      · have hs : q_step (q_mc M) (q_ms M) scr L (q_mL M) ((q_mI M).get pc) env h k sl lv stk = some nx := hs
        have hn : ∀ f ∈ nx, q_GF tab call M scr L n f P := hn
        rcases hend j pc st hS with ⟨h24, -⟩ | hv
        · rw [q_step_24 h24] at hs
          cases hs
        · obtain ⟨env', stk', hE', ⟨r, hr, hT', hP⟩ | ⟨hT', hP⟩⟩ := q_vs_ok hg hv hs hn hE hL hT
          · exact ih _ r.2 (j + 1) hP ⟨hE', hH, hL, hT'⟩ (by rw [q_vit_s hS]; exact hr)
          · rw [hpc] at hP
            exact ih _ st j hP ⟨hE', hH, hL, hT'⟩ hS
    · obtain ⟨f, hf, e1, e2, e3, hcc2⟩ := hcov ρ sb ws tys cl st hcc
      exact ih f st j (hG f hf) hcc2 (by rw [e3]; exact hS)
end
-- the five methods
def q_mxI (v : Nat) (t : Lean.RArray qN) : Prop := t.get 0 = (1, 0, 0, 0, 0, 0, []) ∧ t.get 1 = (1, 1, 0, 1, 0, 0, []) ∧ t.get 2 = (9, 2, v, 9, 0, 0, []) ∧ t.get 5 = (1, 5, 0, 0, 0, 0, []) ∧ t.get 6 = (10, 6, 0, 10, 0, 0, []) ∧ t.get 9 = (1, 9, 0, 1, 0, 0, []) ∧ t.get 10 = (24, 10, 1, 0, 0, 0, [])
def q_mlI (v : Nat) (t : Lean.RArray qN) : Prop := t.get 0 = (1, 0, 2, 0, 0, 0, []) ∧ t.get 1 = (1, 1, 2, 2, 0, 0, []) ∧ t.get 2 = (7, 2, 0, 0, 0, 0, []) ∧ t.get 3 = (8, 3, v, 10, 0, 0, []) ∧ t.get 6 = (1, 6, 2, 0, 0, 0, []) ∧ t.get 7 = (10, 7, 0, 11, 0, 0, []) ∧ t.get 10 = (1, 10, 2, 2, 0, 0, []) ∧ t.get 11 = (24, 11, 2, 0, 0, 0, [])
def q_mbI (t : Lean.RArray qN) : Prop := t.get 0 = (1, 0, 2, 0, 0, 0, []) ∧ t.get 1 = (0, 1, 3, 0, 0, 0, []) ∧ t.get 2 = (7, 2, 0, 0, 0, 0, []) ∧ t.get 3 = (8, 3, 3, 11, 0, 0, []) ∧ t.get 6 = (1, 6, 2, 0, 0, 0, []) ∧ t.get 7 = (28, 7, 0, 0, 0, 0, []) ∧ t.get 8 = (10, 8, 0, 12, 0, 0, []) ∧ t.get 11 = (1, 11, 2, 0, 0, 0, []) ∧ t.get 12 = (24, 12, 2, 0, 0, 0, [])
theorem q_end_mx {v : Nat} {t : Lean.RArray qN} (hI : q_mxI v t) {w0 w1 : Value} {g : Nat → Option Value} (g0 : g 0 = some w0) (g1 : g 1 = some w1) : ∀ j pc st, q_vit g t j = some (pc, st) → ((t.get pc).1 = 24 ∧ ∃ w, st = [w] ∧ ∃ a c, w0 = .int a ∧ w1 = .int c ∧ w = .int (if q_op v a c = true then c else a)) ∨ q_vop (t.get pc) = true := by
  obtain ⟨i0, i1, i2, i5, i6, i9, i10⟩ := hI
  have s0 : q_vit g t 0 = some (0, []) := rfl
  have r0 : q_vop (t.get 0) = true := by rw [i0]; rfl
  have r1 : q_vop (t.get 1) = true := by rw [i1]; rfl
  have r2 : q_vop (t.get 2) = true := by rw [i2]; rfl
  have r5 : q_vop (t.get 5) = true := by rw [i5]; rfl
  have r6 : q_vop (t.get 6) = true := by rw [i6]; rfl
  have r9 : q_vop (t.get 9) = true := by rw [i9]; rfl
  by_cases h0 : ∃ a, w0 = .int a
  · obtain ⟨a, rfl⟩ := h0
    have s1 : q_vit g t 1 = some (1, [.int a]) := by
      rw [q_vit_s s0, i0]
      show q_vld (g 0) 0 1 [] = _
      rw [g0]; rfl
    by_cases h1 : ∃ c, w1 = .int c
    · obtain ⟨c, rfl⟩ := h1
      have s2 : q_vit g t 2 = some (2, [.int c, .int a]) := by
        rw [q_vit_s s1, i1]
        show q_vld (g 1) 0 2 [.int a] = _
        rw [g1]; rfl
      have s3 : q_vit g t 3 = some (bif q_op v a c then 9 else 5, []) := by rw [q_vit_s s2, i2]; rfl
      cases hb : q_op v a c with
      | true =>
        rw [hb] at s3
        have s3 : q_vit g t 3 = some (9, []) := s3
        have s4 : q_vit g t 4 = some (10, [.int c]) := by
          rw [q_vit_s s3, i9]
          show q_vld (g 1) 0 10 [] = _
          rw [g1]; rfl
        have s5 : q_vit g t 5 = none := by rw [q_vit_s s4, i10]; rfl
        intro j pc st hj
        rcases j with _ | _ | _ | _ | _ | j
        · rw [s0] at hj; cases hj; exact Or.inr r0
        · rw [s1] at hj; cases hj; exact Or.inr r1
        · rw [s2] at hj; cases hj; exact Or.inr r2
        · rw [s3] at hj; cases hj; exact Or.inr r9
        · rw [s4] at hj; cases hj; exact Or.inl ⟨by rw [i10], _, rfl, a, c, rfl, rfl, by rw [if_pos hb]⟩
        · rw [show j + 1 + 1 + 1 + 1 + 1 = 5 + j by omega, q_vit_n s5 j] at hj; cases hj
      | false =>
        rw [hb] at s3
        have s3 : q_vit g t 3 = some (5, []) := s3
        have s4 : q_vit g t 4 = some (6, [.int a]) := by
          rw [q_vit_s s3, i5]
          show q_vld (g 0) 0 6 [] = _
          rw [g0]; rfl
        have s5 : q_vit g t 5 = some (10, [.int a]) := by rw [q_vit_s s4, i6]; rfl
        have s6 : q_vit g t 6 = none := by rw [q_vit_s s5, i10]; rfl
        intro j pc st hj
        rcases j with _ | _ | _ | _ | _ | _ | j
        · rw [s0] at hj; cases hj; exact Or.inr r0
        · rw [s1] at hj; cases hj; exact Or.inr r1
        · rw [s2] at hj; cases hj; exact Or.inr r2
        · rw [s3] at hj; cases hj; exact Or.inr r5
        · rw [s4] at hj; cases hj; exact Or.inr r6
        · rw [s5] at hj; cases hj; exact Or.inl ⟨by rw [i10], _, rfl, a, c, rfl, rfl, by rw [if_neg (by rw [hb]; exact Bool.false_ne_true)]⟩
        · rw [show j + 1 + 1 + 1 + 1 + 1 + 1 = 6 + j by omega, q_vit_n s6 j] at hj; cases hj
    · have s2 : q_vit g t 2 = none := by
        rw [q_vit_s s1, i1]
        show q_vld (g 1) 0 2 [.int a] = _
        rw [g1]
        cases w1 <;> first | rfl | exact absurd ⟨_, rfl⟩ h1
      intro j pc st hj
      rcases j with _ | _ | j
      · rw [s0] at hj; cases hj; exact Or.inr r0
      · rw [s1] at hj; cases hj; exact Or.inr r1
      · rw [show j + 1 + 1 = 2 + j by omega, q_vit_n s2 j] at hj; cases hj
  · have s1 : q_vit g t 1 = none := by
      rw [q_vit_s s0, i0]
      show q_vld (g 0) 0 1 [] = _
      rw [g0]
      cases w0 <;> first | rfl | exact absurd ⟨_, rfl⟩ h0
    intro j pc st hj
    rcases j with _ | j
    · rw [s0] at hj; cases hj; exact Or.inr r0
    · rw [show j + 1 = 1 + j by omega, q_vit_n s1 j] at hj; cases hj
theorem q_end_ml {v : Nat} {t : Lean.RArray qN} (hI : q_mlI v t) {w0 w1 : Value} {g : Nat → Option Value} (g0 : g 0 = some w0) (g2 : g 2 = some w1) : ∀ j pc st, q_vit g t j = some (pc, st) → ((t.get pc).1 = 24 ∧ ∃ w, st = [w] ∧ ∃ a c, w0 = .long a ∧ w1 = .long c ∧ w = .long (if q_op v (lg_cmp a c) 0 = true then c else a)) ∨ q_vop (t.get pc) = true := by
  obtain ⟨i0, i1, i2, i3, i6, i7, i10, i11⟩ := hI
  have s0 : q_vit g t 0 = some (0, []) := rfl
  have r0 : q_vop (t.get 0) = true := by rw [i0]; rfl
  have r1 : q_vop (t.get 1) = true := by rw [i1]; rfl
  have r2 : q_vop (t.get 2) = true := by rw [i2]; rfl
  have r3 : q_vop (t.get 3) = true := by rw [i3]; rfl
  have r6 : q_vop (t.get 6) = true := by rw [i6]; rfl
  have r7 : q_vop (t.get 7) = true := by rw [i7]; rfl
  have r10 : q_vop (t.get 10) = true := by rw [i10]; rfl
  by_cases h0 : ∃ a, w0 = .long a
  · obtain ⟨a, rfl⟩ := h0
    have s1 : q_vit g t 1 = some (1, [.long a]) := by
      rw [q_vit_s s0, i0]
      show q_vld (g 0) 2 1 [] = _
      rw [g0]; rfl
    by_cases h1 : ∃ c, w1 = .long c
    · obtain ⟨c, rfl⟩ := h1
      have s2 : q_vit g t 2 = some (2, [.long c, .long a]) := by
        rw [q_vit_s s1, i1]
        show q_vld (g 2) 2 2 [.long a] = _
        rw [g2]; rfl
      have s3 : q_vit g t 3 = some (3, [.int (lg_cmp a c)]) := by rw [q_vit_s s2, i2]; rfl
      have s4 : q_vit g t 4 = some (bif q_op v (lg_cmp a c) 0 then 10 else 6, []) := by rw [q_vit_s s3, i3]; rfl
      cases hb : q_op v (lg_cmp a c) 0 with
      | true =>
        rw [hb] at s4
        have s4 : q_vit g t 4 = some (10, []) := s4
        have s5 : q_vit g t 5 = some (11, [.long c]) := by
          rw [q_vit_s s4, i10]
          show q_vld (g 2) 2 11 [] = _
          rw [g2]; rfl
        have s6 : q_vit g t 6 = none := by rw [q_vit_s s5, i11]; rfl
        intro j pc st hj
        rcases j with _ | _ | _ | _ | _ | _ | j
        · rw [s0] at hj; cases hj; exact Or.inr r0
        · rw [s1] at hj; cases hj; exact Or.inr r1
        · rw [s2] at hj; cases hj; exact Or.inr r2
        · rw [s3] at hj; cases hj; exact Or.inr r3
        · rw [s4] at hj; cases hj; exact Or.inr r10
        · rw [s5] at hj; cases hj; exact Or.inl ⟨by rw [i11], _, rfl, a, c, rfl, rfl, by rw [if_pos hb]⟩
        · rw [show j + 1 + 1 + 1 + 1 + 1 + 1 = 6 + j by omega, q_vit_n s6 j] at hj; cases hj
      | false =>
        rw [hb] at s4
        have s4 : q_vit g t 4 = some (6, []) := s4
        have s5 : q_vit g t 5 = some (7, [.long a]) := by
          rw [q_vit_s s4, i6]
          show q_vld (g 0) 2 7 [] = _
          rw [g0]; rfl
        have s6 : q_vit g t 6 = some (11, [.long a]) := by rw [q_vit_s s5, i7]; rfl
        have s7 : q_vit g t 7 = none := by rw [q_vit_s s6, i11]; rfl
        intro j pc st hj
        rcases j with _ | _ | _ | _ | _ | _ | _ | j
        · rw [s0] at hj; cases hj; exact Or.inr r0
        · rw [s1] at hj; cases hj; exact Or.inr r1
        · rw [s2] at hj; cases hj; exact Or.inr r2
        · rw [s3] at hj; cases hj; exact Or.inr r3
        · rw [s4] at hj; cases hj; exact Or.inr r6
        · rw [s5] at hj; cases hj; exact Or.inr r7
        · rw [s6] at hj; cases hj; exact Or.inl ⟨by rw [i11], _, rfl, a, c, rfl, rfl, by rw [if_neg (by rw [hb]; exact Bool.false_ne_true)]⟩
        · rw [show j + 1 + 1 + 1 + 1 + 1 + 1 + 1 = 7 + j by omega, q_vit_n s7 j] at hj; cases hj
    · have s2 : q_vit g t 2 = none := by
        rw [q_vit_s s1, i1]
        show q_vld (g 2) 2 2 [.long a] = _
        rw [g2]
        cases w1 <;> first | rfl | exact absurd ⟨_, rfl⟩ h1
      intro j pc st hj
      rcases j with _ | _ | j
      · rw [s0] at hj; cases hj; exact Or.inr r0
      · rw [s1] at hj; cases hj; exact Or.inr r1
      · rw [show j + 1 + 1 = 2 + j by omega, q_vit_n s2 j] at hj; cases hj
  · have s1 : q_vit g t 1 = none := by
      rw [q_vit_s s0, i0]
      show q_vld (g 0) 2 1 [] = _
      rw [g0]
      cases w0 <;> first | rfl | exact absurd ⟨_, rfl⟩ h0
    intro j pc st hj
    rcases j with _ | j
    · rw [s0] at hj; cases hj; exact Or.inr r0
    · rw [show j + 1 = 1 + j by omega, q_vit_n s1 j] at hj; cases hj
theorem q_end_mb {t : Lean.RArray qN} (hI : q_mbI t) {w0 : Value} {g : Nat → Option Value} (g0 : g 0 = some w0) : ∀ j pc st, q_vit g t j = some (pc, st) → ((t.get pc).1 = 24 ∧ ∃ w, st = [w] ∧ ∃ a, w0 = .long a ∧ w = .long (if q_op 3 (lg_cmp a 0) 0 = true then a else -a)) ∨ q_vop (t.get pc) = true := by
  obtain ⟨i0, i1, i2, i3, i6, i7, i8, i11, i12⟩ := hI
  have s0 : q_vit g t 0 = some (0, []) := rfl
  have r0 : q_vop (t.get 0) = true := by rw [i0]; rfl
  have r1 : q_vop (t.get 1) = true := by rw [i1]; rfl
  have r2 : q_vop (t.get 2) = true := by rw [i2]; rfl
  have r3 : q_vop (t.get 3) = true := by rw [i3]; rfl
  have r6 : q_vop (t.get 6) = true := by rw [i6]; rfl
  have r7 : q_vop (t.get 7) = true := by rw [i7]; rfl
  have r8 : q_vop (t.get 8) = true := by rw [i8]; rfl
  have r11 : q_vop (t.get 11) = true := by rw [i11]; rfl
  by_cases h0 : ∃ a, w0 = .long a
  · obtain ⟨a, rfl⟩ := h0
    have s1 : q_vit g t 1 = some (1, [.long a]) := by
      rw [q_vit_s s0, i0]
      show q_vld (g 0) 2 1 [] = _
      rw [g0]; rfl
    have s2 : q_vit g t 2 = some (2, [.long 0, .long a]) := by rw [q_vit_s s1, i1]; rfl
    have s3 : q_vit g t 3 = some (3, [.int (lg_cmp a 0)]) := by rw [q_vit_s s2, i2]; rfl
    have s4 : q_vit g t 4 = some (bif q_op 3 (lg_cmp a 0) 0 then 11 else 6, []) := by rw [q_vit_s s3, i3]; rfl
    cases hb : q_op 3 (lg_cmp a 0) 0 with
    | true =>
      rw [hb] at s4
      have s4 : q_vit g t 4 = some (11, []) := s4
      have s5 : q_vit g t 5 = some (12, [.long a]) := by
        rw [q_vit_s s4, i11]
        show q_vld (g 0) 2 12 [] = _
        rw [g0]; rfl
      have s6 : q_vit g t 6 = none := by rw [q_vit_s s5, i12]; rfl
      intro j pc st hj
      rcases j with _ | _ | _ | _ | _ | _ | j
      · rw [s0] at hj; cases hj; exact Or.inr r0
      · rw [s1] at hj; cases hj; exact Or.inr r1
      · rw [s2] at hj; cases hj; exact Or.inr r2
      · rw [s3] at hj; cases hj; exact Or.inr r3
      · rw [s4] at hj; cases hj; exact Or.inr r11
      · rw [s5] at hj; cases hj; exact Or.inl ⟨by rw [i12], _, rfl, a, rfl, by rw [if_pos hb]⟩
      · rw [show j + 1 + 1 + 1 + 1 + 1 + 1 = 6 + j by omega, q_vit_n s6 j] at hj; cases hj
    | false =>
      rw [hb] at s4
      have s4 : q_vit g t 4 = some (6, []) := s4
      have s5 : q_vit g t 5 = some (7, [.long a]) := by
        rw [q_vit_s s4, i6]
        show q_vld (g 0) 2 7 [] = _
        rw [g0]; rfl
      have s6 : q_vit g t 6 = some (8, [.long (-a)]) := by rw [q_vit_s s5, i7]; rfl
      have s7 : q_vit g t 7 = some (12, [.long (-a)]) := by rw [q_vit_s s6, i8]; rfl
      have s8 : q_vit g t 8 = none := by rw [q_vit_s s7, i12]; rfl
      intro j pc st hj
      rcases j with _ | _ | _ | _ | _ | _ | _ | _ | j
      · rw [s0] at hj; cases hj; exact Or.inr r0
      · rw [s1] at hj; cases hj; exact Or.inr r1
      · rw [s2] at hj; cases hj; exact Or.inr r2
      · rw [s3] at hj; cases hj; exact Or.inr r3
      · rw [s4] at hj; cases hj; exact Or.inr r6
      · rw [s5] at hj; cases hj; exact Or.inr r7
      · rw [s6] at hj; cases hj; exact Or.inr r8
      · rw [s7] at hj; cases hj; exact Or.inl ⟨by rw [i12], _, rfl, a, rfl, by rw [if_neg (by rw [hb]; exact Bool.false_ne_true)]⟩
      · rw [show j + 1 + 1 + 1 + 1 + 1 + 1 + 1 + 1 = 8 + j by omega, q_vit_n s8 j] at hj; cases hj
  · have s1 : q_vit g t 1 = none := by
      rw [q_vit_s s0, i0]
      show q_vld (g 0) 2 1 [] = _
      rw [g0]
      cases w0 <;> first | rfl | exact absurd ⟨_, rfl⟩ h0
    intro j pc st hj
    rcases j with _ | j
    · rw [s0] at hj; cases hj; exact Or.inr r0
    · rw [show j + 1 = 1 + j by omega, q_vit_n s1 j] at hj; cases hj
theorem q_lmax (a c : Int64) : (if q_op 2 (lg_cmp a c) 0 = true then c else a) = (if c < a then a else c) := by
  unfold lg_cmp
  by_cases h1 : a > c
  · rw [if_pos h1, if_pos (show c < a from h1), if_neg (by decide)]
  · rw [if_neg h1, if_neg (show ¬ c < a from h1)]
    by_cases h2 : a = c
    · rw [if_pos h2, if_neg (by decide), h2]
    · rw [if_neg h2, if_pos (by decide)]
theorem q_lmin (a c : Int64) : (if q_op 4 (lg_cmp a c) 0 = true then c else a) = (if c < a then c else a) := by
  unfold lg_cmp
  by_cases h1 : a > c
  · rw [if_pos h1, if_pos (show c < a from h1), if_pos (by decide)]
  · rw [if_neg h1, if_neg (show ¬ c < a from h1)]
    by_cases h2 : a = c
    · rw [if_pos h2, if_neg (by decide)]
    · rw [if_neg h2, if_neg (by decide)]
theorem q_labs (a : Int64) : (if q_op 3 (lg_cmp a 0) 0 = true then a else -a) = (if 0 < a then a else -a) := by
  unfold lg_cmp
  by_cases h1 : a > 0
  · rw [if_pos h1, if_pos (show 0 < a from h1), if_pos (by decide)]
  · rw [if_neg h1, if_neg (show ¬ 0 < a from h1)]
    by_cases h2 : a = 0
    · rw [if_pos h2, if_pos (by decide), h2]; rfl
    · rw [if_neg h2, if_neg (by decide)]
/-- what a method of Math's answers -/
def q_maF (m : Nat) (vals : List Value) : Option Value := match m, vals with
  | 0, [.int a, .int c] => some (.int (if a < c then c else a))
  | 1, [.int a, .int c] => some (.int (if c < a then c else a))
  | 2, [.long a, .long c] => some (.long (if c < a then a else c))
  | 3, [.long a, .long c] => some (.long (if c < a then c else a))
  | 4, [.long a] => some (.long (if 0 < a then a else -a))
  | _, _ => none
theorem q_maF0 {vals : List Value} {w : Value} (h : q_maF 0 vals = some w) : ∃ a c, vals = [.int a, .int c] ∧ w = .int (if a < c then c else a) := by
  rcases vals with _ | ⟨x, _ | ⟨y, _ | ⟨z, l⟩⟩⟩
  · cases h
  · cases x <;> cases h
  · cases x <;> cases y <;> first | exact ⟨_, _, rfl, (Option.some.inj h).symm⟩ | cases h
  · cases x <;> cases y <;> cases h
theorem q_maF1 {vals : List Value} {w : Value} (h : q_maF 1 vals = some w) : ∃ a c, vals = [.int a, .int c] ∧ w = .int (if c < a then c else a) := by
  rcases vals with _ | ⟨x, _ | ⟨y, _ | ⟨z, l⟩⟩⟩
  · cases h
  · cases x <;> cases h
  · cases x <;> cases y <;> first | exact ⟨_, _, rfl, (Option.some.inj h).symm⟩ | cases h
  · cases x <;> cases y <;> cases h
theorem q_maF2 {vals : List Value} {w : Value} (h : q_maF 2 vals = some w) : ∃ a c, vals = [.long a, .long c] ∧ w = .long (if c < a then a else c) := by
  rcases vals with _ | ⟨x, _ | ⟨y, _ | ⟨z, l⟩⟩⟩
  · cases h
  · cases x <;> cases h
  · cases x <;> cases y <;> first | exact ⟨_, _, rfl, (Option.some.inj h).symm⟩ | cases h
  · cases x <;> cases y <;> cases h
theorem q_maF3 {vals : List Value} {w : Value} (h : q_maF 3 vals = some w) : ∃ a c, vals = [.long a, .long c] ∧ w = .long (if c < a then c else a) := by
  rcases vals with _ | ⟨x, _ | ⟨y, _ | ⟨z, l⟩⟩⟩
  · cases h
  · cases x <;> cases h
  · cases x <;> cases y <;> first | exact ⟨_, _, rfl, (Option.some.inj h).symm⟩ | cases h
  · cases x <;> cases y <;> cases h
theorem q_maF4 {vals : List Value} {w : Value} (h : q_maF 4 vals = some w) : ∃ a, vals = [.long a] ∧ w = .long (if 0 < a then a else -a) := by
  rcases vals with _ | ⟨x, _ | ⟨y, l⟩⟩
  · cases h
  · cases x <;> first | exact ⟨_, rfl, (Option.some.inj h).symm⟩ | cases h
  · cases x <;> cases h
def q_maI (m : Nat) (t : Lean.RArray qN) : Prop := match m with
  | 0 => q_mxI 2 t
  | 1 => q_mxI 4 t
  | 2 => q_mlI 2 t
  | 3 => q_mlI 4 t
  | 4 => q_mbI t
  | _ => False
def q_maN (m : Nat) : MethodName := match m with
  | 0 => Lib.Math.max.name
  | 1 => Lib.Math.min.name
  | 2 => Lib.MathLoose.max_long.x
  | 3 => Lib.MathLoose.min_long.x
  | _ => Lib.MathLoose.abs_long.x
def q_maB (m : Nat) : ByteArray := match m with
  | 0 => Lib.Math.max.code
  | 1 => Lib.Math.min.code
  | 2 => Lib.MathLoose.max_long.code
  | 3 => Lib.MathLoose.min_long.code
  | _ => Lib.MathLoose.abs_long.code
def q_maL (m : Nat) : Nat := match m with
  | 2 => 4
  | 3 => 4
  | _ => 2
def q_maT (m : Nat) : Option FieldType := match m with
  | 0 => some .int
  | 1 => some .int
  | _ => some .long
def q_maA (m : Nat) : Nat := match m with
  | 4 => 1
  | _ => 2
def q_maR (ρ : Nat → Int32) (sb : (Nat → Nat) × va_W) (ws : va_W) (tys : List (ClassId × FieldType)) (m : Nat) (vals : List Value) (P : qO → Prop) : Prop := ∃ (w : Value) (o : qO) (r : qV), q_maF m vals = some w ∧ P o ∧ o.2.2 = some r ∧ q_RV ρ sb ws r w ∧ q_En ρ o.1 ∧ q_Hp ρ sb o.2.1 ws tys
theorem q_ma_run {ρ : Nat → Int32} {sb : (Nat → Nat) × va_W} {ws : va_W} {tys : List (ClassId × FieldType)} {tab : Nat → qM} {M : qM} {scr : Bool} {L : Nat} {call : q_call} {m : Nat} (hI : q_maI m (q_mI M)) {vals : List Value} (hlen : vals.length = q_maA m) {P : qO → Prop} {n : Nat} {fr : qF} (hG : q_GF tab call M scr L n fr P) (hcc : q_cc fr ρ sb ws tys (lv_args 0 vals) []) (hpc : fr.2.2.2.2.1 = 0) : q_maR ρ sb ws tys m vals P := by
  have two : ∀ (w0 w1 : Value) (g : Nat → Option Value), g 0 = some w0 → (if w0.category = 2 then g 2 = some w1 else g 1 = some w1) → ∀ i w, (i, w) ∈ lv_args 0 [w0, w1] → g i = some w := by
    intro w0 w1 g g0 g1 i w hm
    have hm : (i, w) ∈ [(0, w0), ((if w0.category = 2 then 2 else 1), w1)] := hm
    simp only [List.mem_cons, Prod.mk.injEq, List.not_mem_nil, or_false] at hm
    rcases hm with ⟨rfl, rfl⟩ | ⟨rfl, rfl⟩
    · exact g0
    · split <;> rename_i hc
      · rw [if_pos hc] at g1; exact g1
      · rw [if_neg hc] at g1; exact g1
  rcases m with _ | _ | _ | _ | _ | m
  · obtain ⟨w0, w1, rfl⟩ : ∃ w0 w1, vals = [w0, w1] := by
      match vals, hlen with
      | [w0, w1], _ => exact ⟨w0, w1, rfl⟩
    let g : Nat → Option Value := fun i => if i = 0 then some w0 else some w1
    obtain ⟨w, o, r, ⟨a, c, rfl, rfl, rfl⟩, h2, h3, h4, h5, h6⟩ := q_va_run (g := g) (two w0 w1 g rfl (by split <;> rfl)) (q_end_mx hI (g := g) rfl rfl) n fr [] 0 hG hcc (by rw [hpc]; rfl)
    refine ⟨_, o, r, ?_, h2, h3, h4, h5, h6⟩
    show some (Value.int (if a < c then c else a)) = some (.int (if q_op 2 a c = true then c else a))
    simp [q_op]
  · obtain ⟨w0, w1, rfl⟩ : ∃ w0 w1, vals = [w0, w1] := by
      match vals, hlen with
      | [w0, w1], _ => exact ⟨w0, w1, rfl⟩
    let g : Nat → Option Value := fun i => if i = 0 then some w0 else some w1
    obtain ⟨w, o, r, ⟨a, c, rfl, rfl, rfl⟩, h2, h3, h4, h5, h6⟩ := q_va_run (g := g) (two w0 w1 g rfl (by split <;> rfl)) (q_end_mx hI (g := g) rfl rfl) n fr [] 0 hG hcc (by rw [hpc]; rfl)
    refine ⟨_, o, r, ?_, h2, h3, h4, h5, h6⟩
    show some (Value.int (if c < a then c else a)) = some (.int (if q_op 4 a c = true then c else a))
    simp [q_op]
  · obtain ⟨w0, w1, rfl⟩ : ∃ w0 w1, vals = [w0, w1] := by
      match vals, hlen with
      | [w0, w1], _ => exact ⟨w0, w1, rfl⟩
    let g : Nat → Option Value := fun i => if i = 0 then some w0 else some w1
    obtain ⟨w, o, r, ⟨a, c, rfl, rfl, rfl⟩, h2, h3, h4, h5, h6⟩ := q_va_run (g := g) (two w0 w1 g rfl (by split <;> rfl)) (q_end_ml hI (g := g) rfl rfl) n fr [] 0 hG hcc (by rw [hpc]; rfl)
    exact ⟨_, o, r, by rw [q_lmax]; rfl, h2, h3, h4, h5, h6⟩
  · obtain ⟨w0, w1, rfl⟩ : ∃ w0 w1, vals = [w0, w1] := by
      match vals, hlen with
      | [w0, w1], _ => exact ⟨w0, w1, rfl⟩
    let g : Nat → Option Value := fun i => if i = 0 then some w0 else some w1
    obtain ⟨w, o, r, ⟨a, c, rfl, rfl, rfl⟩, h2, h3, h4, h5, h6⟩ := q_va_run (g := g) (two w0 w1 g rfl (by split <;> rfl)) (q_end_ml hI (g := g) rfl rfl) n fr [] 0 hG hcc (by rw [hpc]; rfl)
    exact ⟨_, o, r, by rw [q_lmin]; rfl, h2, h3, h4, h5, h6⟩
  · obtain ⟨w0, rfl⟩ : ∃ w0, vals = [w0] := by
      match vals, hlen with
      | [w0], _ => exact ⟨w0, rfl⟩
    let g : Nat → Option Value := fun _ => some w0
    obtain ⟨w, o, r, ⟨a, rfl, rfl⟩, h2, h3, h4, h5, h6⟩ := q_va_run (g := g) (cl := lv_args 0 [w0]) (fun i w hm => by
      have hm : (i, w) ∈ [(0, w0)] := hm
      rw [List.mem_singleton] at hm
      cases hm
      rfl) (q_end_mb hI (g := g) rfl) n fr [] 0 hG hcc (by rw [hpc]; rfl)
    exact ⟨_, o, r, by rw [q_labs]; rfl, h2, h3, h4, h5, h6⟩
  · exact (hI : False).elim
