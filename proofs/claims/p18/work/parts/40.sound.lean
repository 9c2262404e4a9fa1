-- 40.sound: each step of the abstract machine is the machine's
/-- the texts -/
def q_txs : List String := ["oath", "from", "course", "mason", "lays", "costs", "slip", "at", "by", "find", "year", "end", "go", "back", "knock", "note", "turn", "when", "loop", "stop", "stone", "hollow", "full", "noted", "first", " oath from course mason lays costs slip at by find year go back knock note turn when hollow full stone noted first loop end stop "]
def q_txl : List Nat := q_lits.map List.length
def q_txb : List (List Int32) := q_lits.map fun l => l.map Int32.ofNat
def q_tyOk (code : Nat) (ty : FieldType) : Prop := match code with
  | 0 => ty = .int
  | 1 => ty = .boolean
  | 2 => ty = .long
  | 3 => (∃ n, ty = .object n) ∨ ∃ t, ty = .array t
  | _ => False
def q_lnk (v b : Nat) (P : vw_C → Prop) : Prop := ∃ r : vw_C, vwCl[v]? = some r ∧ b < r.2.2 ∧ P r
/-- the words that an instruction wants -/
def q_ok (own : String) (init : Bool) (e : qN) : Prop := match e.1 with
  | 0 => (match q_v e with
    | 4 => Cond.constant own (q_a e) (qI (q_b e)) ∈ qWS
    | 5 => Cond.constant own (q_a e) (qI (q_b e)) ∈ qWS
    | 6 => Cond.constantLong own (q_a e) (qJ (q_b e)) ∈ qWS
    | 7 => ∃ tx, Cond.stringRef own (q_a e) tx ∈ qSP ∧ q_txs[q_b e]? = some tx
    | _ => True)
  | 1 => q_v e = 0 ∨ q_v e = 2 ∨ q_v e = 4 → q_a e < 4
  | 2 => q_v e = 0 ∨ q_v e = 2 ∨ q_v e = 4 → q_a e < 4
  | 14 => q_lnk (q_v e) (q_b e) fun r => Cond.fieldLink own (q_a e) (r.2.1 (q_b e)).1 (r.2.1 (q_b e)).2.1 (r.2.1 (q_b e)).2.2.1 ∈ qWS
  | 15 => q_lnk (q_v e) (q_b e) fun r => Cond.fieldLink own (q_a e) (r.2.1 (q_b e)).1 (r.2.1 (q_b e)).2.1 (r.2.1 (q_b e)).2.2.1 ∈ qWS ∧ (∃ ty, parseFieldDescriptor (r.2.1 (q_b e)).2.2.1 = some ty ∧ q_tyOk ((q_t e).getD 0 9) ty) ∧ ((r.2.1 (q_b e)).2.2.2 = true → init = true ∧ (r.2.1 (q_b e)).1 = own)
  | 16 => Cond.arrayClass (newarray.typeOf (q_aty (q_v e))) ∈ qWS ∧ q_v e ≤ 3
  | 17 => q_lnk (q_v e) 0 fun r => q_v e < 100 ∧ Cond.classLink own (q_a e) r.1 ∈ qWS ∧ Cond.arrayOver (.object r.1) ∈ qSP
  | 18 => Cond.classLink own (q_a e) ("[" ++ (FieldType.array .int).toString) ∈ qWS ∧ Cond.arrayOver (.array .int) ∈ qSP ∧ Cond.arrayClass .int ∈ qWS
  | 22 => ∃ r : vw_C, vwCl[q_v e]? = some r ∧ q_v e < 100 ∧ r.2.2 = (q_t e).length ∧ Cond.classLink own (q_a e) r.1 ∈ qWS ∧ Cond.instantiable r.1 r.2.2 ∈ qWS ∧ Cond.initialized r.1 ∈ qWS ∧ ∀ j, j < r.2.2 → ∃ ty, parseFieldDescriptor (r.2.1 j).2.2.1 = some ty ∧ q_tyOk ((q_t e).getD j 9) ty
  | 25 => Cond.methodLink own (q_a e) Lib.objectInit ∈ qWS ∧ Cond.instanceMethod Lib.objectInit ∈ qWS ∧ Cond.code Lib.objectInit ⟨#[0xb1]⟩ 1 none ∈ qWS
  | 26 => Cond.methodLink own (q_a e) arraycopyName ∈ qWS ∧ Cond.native arraycopyName ∈ qWS ∧ Cond.static arraycopyName ∈ qWS ∧ Cond.initialized "java/lang/System" ∈ qWS
  | 29 => Cond.methodLink own (q_a e) yJ0_length_8abf5 ∈ qWS
  | 30 => Cond.methodLink own (q_a e) yJ0_charAt_5068e ∈ qWS
  | _ => True
/-- the texts lie where b says, and hold what they say -/
def q_TX (b : Nat → Nat) (A : Nat → Prop) (U : State) (H : Heap) : Prop := (∀ (own : String) (k i : Nat) (tx : String), Cond.stringRef own k tx ∈ qSP → q_txs[i]? = some tx → vk_R own k tx (b (i + 1)) U) ∧ (∃ adV : Nat → Nat, vk_S 26 q_txl q_txb (fun i => b (i + 1)) adV A U H) ∧ va_Z "java/lang/String" "COMPACT_STRINGS" "Z" (.int 1) A U H ∧ va_Zq "jdk/internal/util/Preconditions" "SIOOBE_FORMATTER" "Ljava/util/function/BiFunction;" A U H
/-- the words by themselves -/
def q_XW (U : State) : Prop := ∀ w ∈ qSP, va_Nw w U
def q_Cx (p : Program) (R : Room) (s : State) (m : MethodId) (args : Array Value) (meth : Method) (c : Code) (A : Nat → Prop) (ρ : Nat → Int32) (sb : (Nat → Nat) × va_W) (mc ms : Nat) (scr : Bool) (L : Nat) (own : String) (bytes : ByteArray) (maxL : Nat) (init : Bool) : Prop :=
  p.tables.exec = Jvm.exec ∧ c.code = bytes ∧ c.maxLocals = maxL ∧ s.vm.findClass own = some m.cls ∧ (∀ w ∈ qWS, w.before args s = true) ∧ q_XW s ∧ (∀ q, s.heap.size ≤ q → A q) ∧ ((init = true → meth.name = "<init>") ∧ q_TX sb.1 A s s.heap) ∧
    (scr = true → va_X (sb.1 0) L ρ s s.heap ∧ sb.1 0 < s.heap.size ∧ ¬ A (sb.1 0)) ∧ mc ≤ R.cells ∧ ms ≤ R.slots ∧ 6 ≤ R.frames ∧ 600 ≤ R.locals
def q_St (D : va_G) (A : Nat → Prop) (s : State) (ρ : Nat → Int32) (sb : (Nat → Nat) × va_W) (maxL : Nat) (env : qE) (h : qH) (lv : qL) (stk : List qV) (ws : va_W) (tys : List (ClassId × FieldType)) (H : Heap) (locs : List Loc) (ls : Array Slot) (st : List Value) : Prop :=
  q_En ρ env ∧ q_Hp ρ sb h ws tys ∧ va_P D vwCl ws H ∧ va_D A ws ∧ va_K D vwCl tys s ∧ va_S A s.heap H locs ∧ (∃ cl, lv_has ls maxL cl ∧ q_Ls ρ sb ws lv cl) ∧ q_Sk ρ sb ws stk st
section
variable {p : Program} {l : Launch} {e0 : Env} {R : Room} {s : State} {m : MethodId} {args : Array Value} {below : List Frame} {meth : Method} {c : Code} {Q : State → Prop}
variable {D : va_G} {A : Nat → Prop} {ρ : Nat → Int32} {sb : (Nat → Nat) × va_W} {mc ms : Nat} {scr : Bool} {L : Nat} {own : String} {bytes : ByteArray} {maxL : Nat} {init : Bool}
variable {e : qN} {env : qE} {h : qH} {k sl : Nat} {lv : qL} {stk : List qV} {nx : List qF}
/-- from every state that is like this one the end is come to -/
def q_WW (p : Program) (l : Launch) (e0 : Env) (R : Room) (s : State) (m : MethodId) (args : Array Value) (below : List Frame) (meth : Method) (c : Code) (Q : State → Prop) (D : va_G) (A : Nat → Prop) (ρ : Nat → Int32) (sb : (Nat → Nat) × va_W) (maxL : Nat) (fr : qF) : Prop :=
  ∀ (ws : va_W) (tys : List (ClassId × FieldType)) (H : Heap) (locs : List Loc) (ls : Array Slot) (st : List Value), q_St D A s ρ sb maxL fr.1 fr.2.1 fr.2.2.2.2.2.1 fr.2.2.2.2.2.2 ws tys H locs ls st →
    W p l e0 R s m args below meth c H locs fr.2.2.1 fr.2.2.2.1 Q (F0 m fr.2.2.2.2.1 ls st)
theorem q_go_in {pc : Nat} {P : qF → Prop} (hs : q_go env h k sl pc lv stk = some nx) (hn : ∀ fr ∈ nx, P fr) : P (env, h, k, sl, pc, lv, stk) := by
  unfold q_go at hs
  rw [q_fc_eq] at hs
  cases hs
  exact hn _ (List.mem_singleton.mpr rfl)
theorem q_gv_in {pc t n : Nat} {P : qF → Prop} (hs : q_gv env h k sl pc lv t n stk = some nx) (hn : ∀ fr ∈ nx, P fr) : P (env, h, k, sl, pc, lv, (t, n) :: stk) := by
  unfold q_gv at hs
  rw [q_fc_eq] at hs
  exact q_go_in hs hn
theorem q_gh_in {pc : Nat} {P : qF → Prop} (hs : q_gh env h k sl pc lv stk = some nx) (hn : ∀ fr ∈ nx, P fr) : P (env, h, k, sl, pc, lv, stk) := by
  unfold q_gh q_opn at hs
  obtain ⟨t, n⟩ := h
  cases t with
  | leaf a => exact q_go_in hs hn
  | branch p l r => exact q_go_in hs hn
theorem q_ok0 (C : q_Cx p R s m args meth c A ρ sb mc ms scr L own bytes maxL init) (hok : q_ok own init e) (hdec : decode bytes (q_pc e) = .ok (q_ins e)) (hop : e.1 = 0) (hs : q_s0 e env h k sl lv stk = some nx) (hn : ∀ fr ∈ nx, q_WW p l e0 R s m args below meth c Q D A ρ sb maxL fr) : q_WW p l e0 R s m args below meth c Q D A ρ sb maxL (env, h, k, sl, q_pc e, lv, stk) := by
  obtain ⟨op, pc, v, a, b, w, t⟩ := e
  subst hop
  obtain ⟨hx, hb, hml, hown, hts, hsp, hA, hin, hscr, hmc, hms, hR1, hR2⟩ := C
  have hg := q_gv_in hs hn
  intro ws tys H locs ls st ⟨hE, hH, hP, hD, hK, hS, hL, hT⟩
  have hgo : ∀ (x : Value), q_RV ρ sb ws ((q_s0v v a b).1, (q_s0v v a b).2) x → W p l e0 R s m args below meth c H locs k sl Q (F0 m (pc + (q_ins0 v a b).2) ls (x :: st)) := fun x hxv => hg ws tys H locs ls (x :: st) ⟨hE, hH, hP, hD, hK, hS, hL, hxv, hT⟩
  rcases v with _ | _ | _ | _ | _ | _ | _ | _ | v
  · exact lv_iconst hx hb hdec rfl (hgo _ (by show _ = Value.int (qI (qNn _)); rw [qI_N]))
  · exact lv_bipush hx hb hdec rfl (hgo _ (by show _ = Value.int (qI (qNn _)); rw [qI_N]))
  · exact lv_sipush hx hb hdec rfl (hgo _ (by show _ = Value.int (qI (qNn _)); rw [qI_N]))
  · exact lv_lconst hx hb hdec rfl (hgo _ (by show _ = Value.long (qJ (qMn _)); rw [qJ_M]))
  · exact lv_ldc hx hb hown (hts _ hok) hdec (hgo _ rfl)
  · exact lv_ldcw hx hb hown (hts _ hok) hdec (hgo _ rfl)
  · exact lv_ldc2 hx hb hown (hts _ hok) hdec (hgo _ rfl)
  · obtain ⟨tx, hw, hb2⟩ := (hok : ∃ tx, Cond.stringRef own a tx ∈ qSP ∧ q_txs[b]? = some tx)
    exact va_ldcS hx hb hown (hin.2.1 own a b tx hw hb2) hdec (hgo _ rfl)
  · exact lv_null hx hb hdec (hgo _ rfl)
theorem q_ok1 (C : q_Cx p R s m args meth c A ρ sb mc ms scr L own bytes maxL init) (hok : q_ok own init e) (hdec : decode bytes (q_pc e) = .ok (q_ins e)) (hop : e.1 = 1) (hs : q_s1 e env h k sl lv stk = some nx) (hn : ∀ fr ∈ nx, q_WW p l e0 R s m args below meth c Q D A ρ sb maxL fr) : q_WW p l e0 R s m args below meth c Q D A ρ sb maxL (env, h, k, sl, q_pc e, lv, stk) := by
  obtain ⟨op, pc, v, a, b, w, t⟩ := e
  subst hop
  obtain ⟨hx, hb, hml, hown, hts, hsp, hA, hin, hscr, hmc, hms, hR1, hR2⟩ := C
  unfold q_s1 at hs
  cases hlg : q_lg lv a with
  | none => simp only [hlg] at hs; cases hs
  | some x =>
    simp only [hlg] at hs
    obtain ⟨hk, hs⟩ := q_bt hs
    have hk := Nat.eq_of_beq_eq_true hk
    have hg := q_go_in hs hn
    intro ws tys H locs ls st ⟨hE, hH, hP, hD, hK, hS, hL, hT⟩
    obtain ⟨cl, hl, hLs⟩ := hL
    obtain ⟨x1, hm1, hxv⟩ := hLs.lg hlg
    have hla : ls[a]? = some (.val x1) := hl.2.2 (a, x1) hm1
    have hgo : W p l e0 R s m args below meth c H locs k sl Q (F0 m (pc + (q_ins1 v a).2) ls (x1 :: st)) := hg ws tys H locs ls (x1 :: st) ⟨hE, hH, hP, hD, hK, hS, ⟨cl, hl, hLs⟩, hxv, hT⟩
    have hfin : v = 0 ∨ v = 2 ∨ v = 4 → ((q_fin4 a : Fin 4) : Nat) = a := fun hv => Nat.mod_eq_of_lt (hok hv)
    rcases v with _ | _ | _ | _ | _ | v
    · obtain ⟨c1, rfl⟩ := hxv.int hk; exact lv_iload_n hx hb hdec (hfin (by simp)) hla hgo
    · obtain ⟨c1, rfl⟩ := hxv.int hk; exact lv_iload hx hb hdec hla hgo
    · obtain ⟨c1, rfl⟩ := hxv.long hk; exact lv_lload_n hx hb hdec (hfin (by simp)) hla hgo
    · obtain ⟨c1, rfl⟩ := hxv.long hk; exact lv_lload hx hb hdec hla hgo
    · rcases hxv.rf hk with ⟨-, rfl⟩ | ⟨-, c1, rfl⟩
      · exact lv_aload_nN hx hb hdec (hfin (by simp)) hla hgo
      · exact lv_aload_n hx hb hdec (hfin (by simp)) hla hgo
    · rcases hxv.rf hk with ⟨-, rfl⟩ | ⟨-, c1, rfl⟩
      · exact lv_aloadN hx hb hdec hla hgo
      · exact lv_aload hx hb hdec hla hgo
theorem q_ls_in {i : Nat} {x : qV} {P : qF → Prop} {pc : Nat} (hs : (q_ls lv i x fun lv => q_go env h k sl pc lv stk) = some nx) (hn : ∀ fr ∈ nx, P fr) : P (env, h, k, sl, pc, (bif Nat.beq (q_cat x) 2 then q_ls2 lv i x else q_ls1 lv i x), stk) := by
  unfold q_ls at hs
  rw [q_nrm_eq] at hs
  exact q_go_in hs hn
theorem q_Ls.set1 {ws : va_W} {cl : List (Nat × Value)} {i : Nat} {x : qV} {v : Value} (hL : q_Ls ρ sb ws lv cl) (hx : q_RV ρ sb ws x v) : q_Ls ρ sb ws (q_ls1 lv i x) ((i, v) :: cl.filter (fun q => !(q.1 == i) && !(q.1 + 1 == i && q.2.category == 2))) := by
  refine ⟨rfl, hx, hL.filter fun a c h1 h2 => ?_⟩
  rw [h1, h2.cat]
  simp only [q_beq]
  rfl
theorem q_Ls.set2 {ws : va_W} {cl : List (Nat × Value)} {i : Nat} {x : qV} {v : Value} (hL : q_Ls ρ sb ws lv cl) (hx : q_RV ρ sb ws x v) : q_Ls ρ sb ws (q_ls2 lv i x) ((i, v) :: cl.filter (fun q => !(q.1 == i) && (!(q.1 == i + 1) && !(q.1 + 1 == i && q.2.category == 2)))) := by
  refine ⟨rfl, hx, hL.filter fun a c h1 h2 => ?_⟩
  rw [h1, h2.cat]
  simp only [q_beq]
  rfl
theorem q_cat_k {x : qV} : (q_knd x = 1 → q_cat x = 2) ∧ (q_knd x ≠ 1 → q_cat x = 1) := by
  unfold q_cat
  rw [q_beq]
  by_cases hk : q_knd x = 1 <;> simp [hk]
theorem q_ok2 (C : q_Cx p R s m args meth c A ρ sb mc ms scr L own bytes maxL init) (hok : q_ok own init e) (hdec : decode bytes (q_pc e) = .ok (q_ins e)) (hop : e.1 = 2) (hs : q_s2 maxL e env h k sl lv stk = some nx) (hn : ∀ fr ∈ nx, q_WW p l e0 R s m args below meth c Q D A ρ sb maxL fr) : q_WW p l e0 R s m args below meth c Q D A ρ sb maxL (env, h, k, sl, q_pc e, lv, stk) := by
  obtain ⟨op, pc, v, a, b, w, t⟩ := e
  subst hop
  obtain ⟨hx, hb, hml, hown, hts, hsp, hA, hin, hscr, hmc, hms, hR1, hR2⟩ := C
  unfold q_s2 at hs
  cases stk with
  | nil => cases hs
  | cons x stk =>
    obtain ⟨hk, hs⟩ := q_bt hs
    rw [Bool.and_eq_true, q_blt] at hk
    obtain ⟨hk, hlt⟩ := hk
    have hk := Nat.eq_of_beq_eq_true hk
    have hlt := of_decide_eq_true hlt
    have hg := q_ls_in hs hn
    intro ws tys H locs ls st ⟨hE, hH, hP, hD, hK, hS, ⟨cl, hl, hLs⟩, hT⟩
    obtain ⟨x1, st, rfl, hxv, hT⟩ := hT.cons
    have hfin : v = 0 ∨ v = 2 ∨ v = 4 → ((q_fin4 a : Fin 4) : Nat) = a := fun hv => Nat.mod_eq_of_lt (hok hv)
    have hg1 : q_knd x ≠ 1 → ∀ ls' : Array Slot, lv_has ls' maxL ((a, x1) :: cl.filter (fun q => !(q.1 == a) && !(q.1 + 1 == a && q.2.category == 2))) → W p l e0 R s m args below meth c H locs k sl Q (F0 m (pc + (q_ins2 v a).2) ls' st) := fun hne ls' hl' => by
      refine hg ws tys H locs ls' st ⟨hE, hH, hP, hD, hK, hS, ⟨_, hl', ?_⟩, hT⟩
      have e1 : Nat.beq (q_cat x) 2 = false := by rw [q_cat_k.2 hne]; rfl
      show q_Ls ρ sb ws (bif Nat.beq (q_cat x) 2 then q_ls2 lv a x else q_ls1 lv a x) _
      rw [e1]
      exact hLs.set1 hxv
    have hg2 : q_knd x = 1 → ∀ ls' : Array Slot, lv_has ls' maxL ((a, x1) :: cl.filter (fun q => !(q.1 == a) && (!(q.1 == a + 1) && !(q.1 + 1 == a && q.2.category == 2)))) → W p l e0 R s m args below meth c H locs k sl Q (F0 m (pc + (q_ins2 v a).2) ls' st) := fun hne ls' hl' => by
      refine hg ws tys H locs ls' st ⟨hE, hH, hP, hD, hK, hS, ⟨_, hl', ?_⟩, hT⟩
      have e1 : Nat.beq (q_cat x) 2 = true := by rw [q_cat_k.1 hne]; rfl
      show q_Ls ρ sb ws (bif Nat.beq (q_cat x) 2 then q_ls2 lv a x else q_ls1 lv a x) _
      rw [e1]
      exact hLs.set2 hxv
    have l1 : q_knd x ≠ 1 → a < maxL := fun hne => by have := q_cat_k.2 hne; simp only [q_a] at hlt; omega
    have l2 : q_knd x = 1 → a + 1 < maxL := fun hne => by have := q_cat_k.1 hne; simp only [q_a] at hlt; omega
    rcases v with _ | _ | _ | _ | _ | v
    · have hne : q_knd x ≠ 1 := fun q => absurd (show (0 : Nat) = 1 from hk.symm.trans q) (by decide)
      obtain ⟨c1, rfl⟩ := hxv.int hk; exact lv_istore_n hx hb hdec (hfin (by simp)) hl (l1 hne) rfl (hg1 hne)
    · have hne : q_knd x ≠ 1 := fun q => absurd (show (0 : Nat) = 1 from hk.symm.trans q) (by decide)
      obtain ⟨c1, rfl⟩ := hxv.int hk; exact lv_istore hx hb hdec hl (l1 hne) rfl (hg1 hne)
    · obtain ⟨c1, rfl⟩ := hxv.long hk; exact lv_lstore_n hx hb hdec (hfin (by simp)) hl (l2 hk) rfl (hg2 hk)
    · obtain ⟨c1, rfl⟩ := hxv.long hk; exact lv_lstore hx hb hdec hl (l2 hk) rfl (hg2 hk)
    · have hne : q_knd x ≠ 1 := fun q => absurd (show (2 : Nat) = 1 from hk.symm.trans q) (by decide)
      rcases hxv.rf hk with ⟨-, rfl⟩ | ⟨-, c1, rfl⟩
      · exact lv_astore_nN hx hb hdec (hfin (by simp)) hl (l1 hne) rfl (hg1 hne)
      · exact lv_astore_n hx hb hdec (hfin (by simp)) hl (l1 hne) rfl (hg1 hne)
    · have hne : q_knd x ≠ 1 := fun q => absurd (show (2 : Nat) = 1 from hk.symm.trans q) (by decide)
      rcases hxv.rf hk with ⟨-, rfl⟩ | ⟨-, c1, rfl⟩
      · exact lv_astoreN hx hb hdec hl (l1 hne) rfl (hg1 hne)
      · exact lv_astore hx hb hdec hl (l1 hne) rfl (hg1 hne)
end
