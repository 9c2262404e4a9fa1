-- 06.gs: what every run from a frame comes to
theorem q_bt {α : Type} {b : Bool} {x : Option α} {y : α} (h : (bif b then x else none) = some y) : b = true ∧ x = some y := by
  cases b
  · cases h
  · exact ⟨rfl, h⟩
-- a method's parts
abbrev q_mY (M : qM) : MethodName := M.1
abbrev q_mB (M : qM) : ByteArray := M.2.1
abbrev q_mL (M : qM) : Nat := M.2.2.1
abbrev q_mT (M : qM) : Option FieldType := M.2.2.2.1
abbrev q_mC (M : qM) : Nat := M.2.2.2.2.1
abbrev q_mK (M : qM) : Nat := M.2.2.2.2.2.1
abbrev q_mA (M : qM) : Nat := M.2.2.2.2.2.2.1
abbrev q_mc (M : qM) : Nat := M.2.2.2.2.2.2.2.1
abbrev q_ms (M : qM) : Nat := M.2.2.2.2.2.2.2.2.1
abbrev q_mI (M : qM) : Lean.RArray qN := M.2.2.2.2.2.2.2.2.2
/-- what a return answers -/
def q_rvo (T : Option FieldType) (v : Nat) (stk : List qV) : Option (Option qV) := match stk with
  | [] => (match T with
    | none => bif Nat.beq v 0 then some none else none
    | _ => none)
  | [x] => (match T with
    | some .int => bif Nat.beq v 1 && Nat.beq (q_knd x) 0 then some (some x) else none
    | some .boolean => bif Nat.beq v 1 && (Nat.beq x.1 0 && Nat.ble x.2 1) then some (some x) else none
    | some .long => bif Nat.beq v 2 && Nat.beq (q_knd x) 1 then some (some x) else none
    | some (.object _) => bif Nat.beq v 3 && Nat.beq (q_knd x) 2 then some (some x) else none
    | some (.array _) => bif Nat.beq v 3 && Nat.beq (q_knd x) 2 then some (some x) else none
    | _ => none)
  | _ => none
def q_args : Nat → List qV → qL
  | _, [] => []
  | i, x :: xs => (i, x) :: q_args (bif Nat.beq (q_cat x) 2 then i + 2 else i + 1) xs
/-- the receiver of a call by its kind: 0 none, 1 any cell, 2 a cell of that class -/
noncomputable def q_rcv (kind ci : Nat) (h : qH) (av : List qV) : Bool := match kind with
  | 0 => true
  | 1 => (match av with
    | x :: _ => Nat.beq x.1 6 && Nat.blt x.2 h.2
    | [] => false)
  | _ => (match av with
    | x :: _ => Nat.beq x.1 6 && Nat.blt x.2 h.2 && Nat.beq (h.1.get x.2).1 ci
    | [] => false)
abbrev q_call : Type := Nat → qE → qH → List qV → (qO → Prop) → Prop
/-- what a frame says of the machine's state -/
def q_cc (fr : qF) (ρ : Nat → Int32) (sb : (Nat → Nat) × va_W) (ws : va_W) (tys : List (ClassId × FieldType)) (cl : List (Nat × Value)) (st : List Value) : Prop := q_En ρ fr.1 ∧ q_Hp ρ sb fr.2.1 ws tys ∧ q_Ls ρ sb ws fr.2.2.2.2.2.1 cl ∧ q_Sk ρ sb ws fr.2.2.2.2.2.2 st
/-- some frame of I says as much -/
def q_cov (fr : qF) (I : qF → Prop) : Prop := ∀ (ρ : Nat → Int32) (sb : (Nat → Nat) × va_W) (ws : va_W) (tys : List (ClassId × FieldType)) (cl : List (Nat × Value)) (st : List Value), q_cc fr ρ sb ws tys cl st → ∃ f, I f ∧ f.2.2.1 = fr.2.2.1 ∧ f.2.2.2.1 = fr.2.2.2.1 ∧ f.2.2.2.2.1 = fr.2.2.2.2.1 ∧ q_cc f ρ sb ws tys cl st
/-- one more instruction, calls by 'call' -/
def q_GS (tab : Nat → qM) (call : q_call) (M : qM) (scr : Bool) (L : Nat) (G : qF → (qO → Prop) → Prop) (fr : qF) (P : qO → Prop) : Prop :=
  (q_pc ((q_mI M).get fr.2.2.2.2.1) = fr.2.2.2.2.1 ∧
    ((((q_mI M).get fr.2.2.2.2.1).1 = 24 ∧ ∃ r, q_rvo (q_mT M) (q_v ((q_mI M).get fr.2.2.2.2.1)) fr.2.2.2.2.2.2 = some r ∧ fr.2.2.1 ≤ q_mc M ∧ fr.2.2.2.1 ≤ q_ms M ∧ P (fr.1, fr.2.1, r)) ∨
    (((q_mI M).get fr.2.2.2.2.1).1 = 23 ∧ ∃ (av rest : List qV), fr.2.2.2.2.2.2 = av.reverse ++ rest ∧ av.length = (if q_mK (tab (q_w ((q_mI M).get fr.2.2.2.2.1))) = 0 then q_mA (tab (q_w ((q_mI M).get fr.2.2.2.2.1))) else q_mA (tab (q_w ((q_mI M).get fr.2.2.2.2.1))) + 1) ∧
      q_rcv (q_mK (tab (q_w ((q_mI M).get fr.2.2.2.2.1)))) (q_mC (tab (q_w ((q_mI M).get fr.2.2.2.2.1)))) fr.2.1 av = true ∧ (rest.map q_cat).sum ≤ 8 ∧
      fr.2.2.1 + q_mc (tab (q_w ((q_mI M).get fr.2.2.2.2.1))) ≤ q_mc M ∧ fr.2.2.2.1 + q_ms (tab (q_w ((q_mI M).get fr.2.2.2.2.1))) ≤ q_ms M ∧
      call (q_w ((q_mI M).get fr.2.2.2.2.1)) fr.1 fr.2.1 av (fun o => G (o.1, o.2.1, fr.2.2.1 + q_mc (tab (q_w ((q_mI M).get fr.2.2.2.2.1))), fr.2.2.2.1 + q_ms (tab (q_w ((q_mI M).get fr.2.2.2.2.1))), fr.2.2.2.2.1 + 3, fr.2.2.2.2.2.1, o.2.2.toList ++ rest) P)) ∨
    (∃ nx, q_step (q_mc M) (q_ms M) scr L (q_mL M) ((q_mI M).get fr.2.2.2.2.1) fr.1 fr.2.1 fr.2.2.1 fr.2.2.2.1 fr.2.2.2.2.2.1 fr.2.2.2.2.2.2 = some nx ∧ ∀ f ∈ nx, G f P))) ∨
    (∃ I : qF → Prop, q_cov fr I ∧ ∀ f, I f → G f P)
/-- from a frame every run comes to a return with P, within n instructions of this method -/
def q_GF (tab : Nat → qM) (call : q_call) (M : qM) (scr : Bool) (L : Nat) : Nat → qF → (qO → Prop) → Prop
  | 0, _, _ => False
  | n + 1, fr, P => q_GS tab call M scr L (q_GF tab call M scr L n) fr P
/-- a method called: every run of it comes to a return with P; at most d calls deep -/
def q_GM (tab : Nat → qM) : Nat → q_call
  | 0, _, _, _, _, _ => False
  | d + 1, id, env, h, av, P => (av.map q_cat).sum ≤ q_mL (tab id) ∧ ∃ n, q_GF tab (q_GM tab d) (tab id) false 0 n (env, h, 0, 0, 0, q_args 0 av, []) P
def q_cMono (call : q_call) : Prop := ∀ (id : Nat) (env : qE) (h : qH) (av : List qV) (P P' : qO → Prop), (∀ o, P o → P' o) → call id env h av P → call id env h av P'
theorem q_GS_mono {tab : Nat → qM} {call : q_call} (hc : q_cMono call) {M : qM} {scr : Bool} {L : Nat} {G G' : qF → (qO → Prop) → Prop} {P P' : qO → Prop} {fr : qF} (hP : ∀ o, P o → P' o) (hG : ∀ f, G f P → G' f P') (h : q_GS tab call M scr L G fr P) : q_GS tab call M scr L G' fr P' := by
  rcases h with ⟨hpc, ⟨hop, r, hr, c1, c2, h1⟩ | ⟨hop, av, rest, hstk, hlen, hrcv, h8, c1, c2, h1⟩ | ⟨nx, hs, hn⟩⟩ | ⟨I, hI, h1⟩
  · exact Or.inl ⟨hpc, Or.inl ⟨hop, r, hr, c1, c2, hP _ h1⟩⟩
  · exact Or.inl ⟨hpc, Or.inr (Or.inl ⟨hop, av, rest, hstk, hlen, hrcv, h8, c1, c2, hc _ _ _ _ _ _ (fun o ho => hG _ ho) h1⟩)⟩
  · exact Or.inl ⟨hpc, Or.inr (Or.inr ⟨nx, hs, fun f hf => hG f (hn f hf)⟩)⟩
  · exact Or.inr ⟨I, hI, fun f hf => hG f (h1 f hf)⟩
theorem q_GF_mono {tab : Nat → qM} {call : q_call} (hc : q_cMono call) {M : qM} {scr : Bool} {L : Nat} : ∀ (n m : Nat) (fr : qF) (P P' : qO → Prop), n ≤ m → (∀ o, P o → P' o) → q_GF tab call M scr L n fr P → q_GF tab call M scr L m fr P'
  | 0, _, _, _, _, _, _, h => (h : False).elim
  | n + 1, 0, _, _, _, hn, _, _ => by omega
  | n + 1, m + 1, fr, P, P', hn, hP, h => q_GS_mono hc hP (fun f hf => q_GF_mono hc n m f P P' (by omega) hP hf) h
theorem q_GM_mono (tab : Nat → qM) : ∀ d, q_cMono (q_GM tab d)
  | 0 => fun _ _ _ _ _ _ _ h => (h : False).elim
  | d + 1 => fun id env h av P P' hP ⟨h1, n, h2⟩ => ⟨h1, n, q_GF_mono (q_GM_mono tab d) n n _ P P' (Nat.le_refl _) hP h2⟩
