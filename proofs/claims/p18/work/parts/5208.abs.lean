-- 08.abs: an abstract machine over the machine's known values: numbers as a symbol and an offset, intervals, differences; what is promised of the heap
noncomputable def a_w (x : Int) : Nat := (x % 4294967296).toNat
noncomputable def a_W (x : Int) : Nat := (x % 18446744073709551616).toNat
theorem a_wN (z : Int) : qNn (Int32.ofInt z) = a_w z := by
  show (BitVec.ofInt 32 z).toNat = _
  rw [BitVec.toNat_ofInt]
  rfl
theorem a_qI (z : Int) : qI (a_w z) = Int32.ofInt z := by
  apply Int32.toBitVec.inj
  show BitVec.ofNat 32 (a_w z) = BitVec.ofInt 32 z
  apply BitVec.eq_of_toNat_eq
  rw [BitVec.toNat_ofNat, BitVec.toNat_ofInt]
  unfold a_w
  omega
theorem a_WN (z : Int) : qMn (Int64.ofInt z) = a_W z := by
  show (BitVec.ofInt 64 z).toNat = _
  rw [BitVec.toNat_ofInt]
  rfl
theorem a_qJ (z : Int) : qJ (a_W z) = Int64.ofInt z := by
  apply Int64.toBitVec.inj
  show BitVec.ofNat 64 (a_W z) = BitVec.ofInt 64 z
  apply BitVec.eq_of_toNat_eq
  rw [BitVec.toNat_ofNat, BitVec.toNat_ofInt]
  unfold a_W
  omega
theorem a_qIt {z : Int} (h1 : -2147483648 ≤ z) (h2 : z < 2147483648) : (qI (a_w z)).toInt = z := by
  rw [a_qI, Int32.toInt_ofInt, Int.bmod_def]
  have e : ((Int32.size : Nat) : Int) = 4294967296 := rfl
  rw [e]
  omega
theorem a_qJt {z : Int} (h1 : -9223372036854775808 ≤ z) (h2 : z < 9223372036854775808) : (qJ (a_W z)).toInt = z := by
  rw [a_qJ, Int64.toInt_ofInt, Int.bmod_def]
  have e : ((Int64.size : Nat) : Int) = 18446744073709551616 := rfl
  rw [e]
  omega
theorem a_wI (r : Int32) : qNn r = a_w r.toInt ∧ -2147483648 ≤ r.toInt ∧ r.toInt < 2147483648 := by
  have h1 := r.toInt_lt
  have h2 := r.le_toInt
  refine ⟨?_, by omega, by omega⟩
  rw [← a_wN, Int32.ofInt_toInt]
theorem a_WI (r : Int64) : qMn r = a_W r.toInt ∧ -9223372036854775808 ≤ r.toInt ∧ r.toInt < 9223372036854775808 := by
  have h1 := r.toInt_lt
  have h2 := r.le_toInt
  refine ⟨?_, by omega, by omega⟩
  rw [← a_WN, Int64.ofInt_toInt]
/-- Int compares that the kernel counts fast -/
noncomputable def i_sn (m n : Nat) : Int := @Nat.rec (fun _ => Int) (Int.ofNat (Nat.sub m n)) (fun k _ => Int.negSucc k) (Nat.sub n m)
theorem i_sn_eq (m n : Nat) : i_sn m n = Int.subNatNat m n := by
  unfold Int.subNatNat
  show @Nat.rec (fun _ => Int) (Int.ofNat (m - n)) (fun k _ => Int.negSucc k) (n - m) = _
  cases n - m <;> rfl
noncomputable def i_add (a b : Int) : Int := @Int.rec (fun _ => Int) (fun m => @Int.rec (fun _ => Int) (fun n => Int.ofNat (Nat.add m n)) (fun n => i_sn m (Nat.succ n)) b) (fun m => @Int.rec (fun _ => Int) (fun n => i_sn n (Nat.succ m)) (fun n => Int.negSucc (Nat.succ (Nat.add m n))) b) a
theorem i_add_eq {a b : Int} : i_add a b = a + b := by
  cases a with
  | ofNat m => cases b with
    | ofNat n => rfl
    | negSucc n => exact i_sn_eq m (n + 1)
  | negSucc m => cases b with
    | ofNat n => exact i_sn_eq n (m + 1)
    | negSucc n => rfl
noncomputable def i_neg (a : Int) : Int := @Int.rec (fun _ => Int) (fun n => @Nat.rec (fun _ => Int) (Int.ofNat 0) (fun k _ => Int.negSucc k) n) (fun n => Int.ofNat (Nat.succ n)) a
theorem i_neg_eq {a : Int} : i_neg a = -a := by
  cases a with
  | ofNat n => cases n <;> rfl
  | negSucc n => rfl
noncomputable def a_ile (a b : Int) : Bool := @Int.rec (fun _ => Bool) (fun _ => true) (fun _ => false) (i_add b (i_neg a))
theorem a_ile_ok {a b : Int} : a_ile a b = true ↔ a ≤ b := by
  show @Int.rec (fun _ => Bool) (fun _ => true) (fun _ => false) (i_add b (i_neg a)) = true ↔ a ≤ b
  rw [i_add_eq, i_neg_eq, ← Int.sub_eq_add_neg]
  cases h : b - a with
  | ofNat n => simp; have : (Int.ofNat n : Int) = n := rfl; omega
  | negSucc n => simp; have := Int.negSucc_lt_zero n; omega
theorem a_ile_no {a b : Int} (h : a_ile a b = false) : b < a := by
  by_cases h1 : a ≤ b
  · rw [a_ile_ok.mpr h1] at h; cases h
  · omega
noncomputable def a_min (a b : Int) : Int := bif a_ile a b then a else b
noncomputable def a_max (a b : Int) : Int := bif a_ile a b then b else a
theorem a_min_le {a b c : Int} (h1 : c ≤ a) (h2 : c ≤ b) : c ≤ a_min a b := by
  unfold a_min
  cases a_ile a b
  · exact h2
  · exact h1
theorem a_max_ge {a b c : Int} (h1 : a ≤ c) (h2 : b ≤ c) : a_max a b ≤ c := by
  unfold a_max
  cases a_ile a b
  · exact h1
  · exact h2
abbrev aT : Type := Nat × Int × Int
abbrev aG : Type := List (Nat × aT)
abbrev aSp : Type := Lean.RArray (Nat × Nat × aG)
noncomputable def a_at (g : aG) (j : Nat) : aT := @List.rec (Nat × aT) (fun _ => aT) (9, 0, 0) (fun q _ ih => @Bool.rec (fun _ => aT) ih q.2 (Nat.ble (Nat.succ j) q.1)) g
theorem a_rb {α : Type} (a b : α) (c : Bool) : @Bool.rec (fun _ => α) a b c = (bif c then b else a) := by cases c <;> rfl
theorem a_at_c {q : Nat × aT} {g : aG} {j : Nat} : a_at (q :: g) j = (bif Nat.blt j q.1 then q.2 else a_at g j) := a_rb (a_at g j) q.2 (Nat.blt j q.1)
/-- what a place of the heap may hold: 0 an int, 1 a long, both within bounds; 2 that cell; else anything -/
noncomputable def a_vt (t : aT) (v : qV) : Prop := match t.1 with
  | 0 => ∃ x : Int, v = (0, a_w x) ∧ t.2.1 ≤ x ∧ x ≤ t.2.2
  | 1 => ∃ x : Int, v = (3, a_W x) ∧ t.2.1 ≤ x ∧ x ≤ t.2.2
  | 2 => v = (6, t.2.1.toNat)
  | _ => True
abbrev a_fd (h : qH) (c j : Nat) : qV := (h.1.get c).2.2.get j
abbrev a_ck (sp : aSp) (c : Nat) : Nat := (sp.get c).1
abbrev a_cl (sp : aSp) (c : Nat) : Nat := (sp.get c).2.1
noncomputable abbrev a_ct (sp : aSp) (c j : Nat) : aT := a_at (sp.get c).2.2 j
/-- the picture that every call keeps -/
noncomputable def a_HI (sp : aSp) (nc : Nat) (h : qH) : Prop := h.2 = nc ∧ nc ≤ 1024 ∧ ∀ c, c < nc → (h.1.get c).1 = a_ck sp c ∧ (h.1.get c).2.1 = a_cl sp c ∧ ∀ j, j < a_cl sp c → a_vt (a_ct sp c j) (a_fd h c j)
/-- places: cells from .. to, places from .. below -/
abbrev aW : Type := List (Nat × Nat × Nat × Nat)
noncomputable def a_inS (S : aW) (c j : Nat) : Bool := match S with
  | [] => false
  | r :: S => (Nat.ble r.1 c && (Nat.ble c r.2.1 && (Nat.ble r.2.2.1 j && Nat.blt j r.2.2.2))) || a_inS S c j
/-- only what S names has changed -/
noncomputable def a_Fr (sp : aSp) (nc : Nat) (S : aW) (h h' : qH) : Prop := ∀ c j, c < nc → j < a_cl sp c → a_inS S c j = false → a_fd h' c j = a_fd h c j
theorem a_Fr.rf {sp : aSp} {nc : Nat} {S : aW} {h : qH} : a_Fr sp nc S h h := fun _ _ _ _ _ => rfl
theorem a_Fr.tr {sp : aSp} {nc : Nat} {S : aW} {h h' h'' : qH} (h1 : a_Fr sp nc S h h') (h2 : a_Fr sp nc S h' h'') : a_Fr sp nc S h h'' := fun c j a b d => (h2 c j a b d).trans (h1 c j a b d)
theorem a_putg {h : qH} {c j : Nat} {x : qV} (hc : c < 1024) (hj : j < (h.1.get c).2.1) (i : Nat) (hi : i < 1024) : ((q_put h c j x).1.get i).1 = (h.1.get i).1 ∧ ((q_put h c j x).1.get i).2.1 = (h.1.get i).2.1 ∧ ∀ q, q < (h.1.get i).2.1 → a_fd (q_put h c j x) i q = if i = c ∧ q = j then x else a_fd h i q := by
  have e0 : (q_put h c j x).1.get i = if i = c then ((h.1.get c).1, (h.1.get c).2.1, q_ts x j (h.1.get c).2.2 0 (h.1.get c).2.1) else h.1.get i := q_ts_get _ c h.1 0 1024 i (Nat.zero_le _) hc (Nat.zero_le _) hi
  unfold a_fd
  rw [e0]
  by_cases e : i = c
  · subst e
    rw [if_pos rfl]
    refine ⟨rfl, rfl, fun q hq => ?_⟩
    show (q_ts x j (h.1.get i).2.2 0 (h.1.get i).2.1).get q = _
    rw [q_ts_get x j _ 0 _ q (Nat.zero_le _) hj (Nat.zero_le _) hq]
    by_cases e2 : q = j
    · rw [if_pos e2, if_pos ⟨rfl, e2⟩]
    · rw [if_neg e2, if_neg (fun z => e2 z.2)]
  · rw [if_neg e]
    exact ⟨rfl, rfl, fun q _ => by rw [if_neg (fun z => e z.1)]⟩
theorem a_HI.put {sp : aSp} {nc : Nat} {h : qH} {c j : Nat} {x : qV} (hh : a_HI sp nc h) (hc : c < nc) (hj : j < a_cl sp c) (hx : a_vt (a_ct sp c j) x) : a_HI sp nc (q_put h c j x) ∧ ∀ i q, i < nc → q < a_cl sp i → a_fd (q_put h c j x) i q = if i = c ∧ q = j then x else a_fd h i q := by
  obtain ⟨h1, h2, h3⟩ := hh
  have hcj : j < (h.1.get c).2.1 := by rw [(h3 c hc).2.1]; exact hj
  have g := fun i (hi : i < nc) => a_putg (h := h) (c := c) (j := j) (x := x) (by omega) hcj i (by omega)
  have g2 : ∀ i q, i < nc → q < a_cl sp i → a_fd (q_put h c j x) i q = if i = c ∧ q = j then x else a_fd h i q := fun i q hi hq => (g i hi).2.2 q (by rw [(h3 i hi).2.1]; exact hq)
  refine ⟨⟨h1, h2, fun i hi => ⟨(g i hi).1.trans (h3 i hi).1, (g i hi).2.1.trans (h3 i hi).2.1, fun q hq => ?_⟩⟩, g2⟩
  rw [g2 i q hi hq]
  by_cases e : i = c ∧ q = j
  · rw [if_pos e, e.1, e.2]; exact hx
  · rw [if_neg e]; exact (h3 i hi).2.2 q hq
/-- a sum: symbols with their factors, and a number -/
abbrev aF : Type := List (Nat × Int) × Int
noncomputable def a_evl (σ : Nat → Int) : List (Nat × Int) → Int
  | [] => 0
  | q :: l => q.2 * σ q.1 + a_evl σ l
noncomputable def a_ev (σ : Nat → Int) (f : aF) : Int := a_evl σ f.1 + f.2
noncomputable def a_iz (x : Int) : Bool := @Int.rec (fun _ => Bool) (fun n => Nat.beq n 0) (fun _ => false) x
theorem a_iz_ok {x : Int} (h : a_iz x = true) : x = 0 := by
  cases x with
  | ofNat n => have h : Nat.beq n 0 = true := h; have := Nat.eq_of_beq_eq_true h; subst this; rfl
  | negSucc n => exact absurd (show false = true from h) (by decide)
noncomputable def a_ins (s : Nat) (k : Int) (l : List (Nat × Int)) : List (Nat × Int) := @List.rec (Nat × Int) (fun _ => List (Nat × Int)) [(s, k)] (fun q l ih => @Bool.rec (fun _ => List (Nat × Int)) (@Bool.rec (fun _ => List (Nat × Int)) (q :: ih) (@Bool.rec (fun _ => List (Nat × Int)) ((s, i_add k q.2) :: l) l (a_iz (i_add k q.2))) (Nat.beq s q.1)) ((s, k) :: q :: l) (Nat.ble (Nat.succ s) q.1)) l
theorem a_ins_c {s : Nat} {k : Int} {q : Nat × Int} {l : List (Nat × Int)} : a_ins s k (q :: l) = (bif Nat.blt s q.1 then (s, k) :: q :: l else bif Nat.beq s q.1 then (bif a_iz (k + q.2) then l else (s, k + q.2) :: l) else q :: a_ins s k l) := by
  show @Bool.rec (fun _ => List (Nat × Int)) (@Bool.rec (fun _ => List (Nat × Int)) (q :: a_ins s k l) (@Bool.rec (fun _ => List (Nat × Int)) ((s, i_add k q.2) :: l) l (a_iz (i_add k q.2))) (Nat.beq s q.1)) ((s, k) :: q :: l) (Nat.blt s q.1) = _
  rw [a_rb, a_rb, a_rb, i_add_eq]
noncomputable def a_suml (l m : List (Nat × Int)) : List (Nat × Int) := @List.rec (Nat × Int) (fun _ => List (Nat × Int)) m (fun q _ ih => a_ins q.1 q.2 ih) l
noncomputable def a_scl (k : Int) (l : List (Nat × Int)) : List (Nat × Int) := @List.rec (Nat × Int) (fun _ => List (Nat × Int)) [] (fun q _ ih => (q.1, Int.mul k q.2) :: ih) l
noncomputable def a_sum (f g : aF) : aF := (a_suml f.1 g.1, i_add f.2 g.2)
noncomputable def a_neg (l : List (Nat × Int)) : List (Nat × Int) := @List.rec (Nat × Int) (fun _ => List (Nat × Int)) [] (fun q _ ih => (q.1, i_neg q.2) :: ih) l
theorem a_neg_eq : ∀ l, a_neg l = a_scl (-1) l
  | [] => rfl
  | q :: l => by
    show (q.1, i_neg q.2) :: a_neg l = (q.1, -1 * q.2) :: a_scl (-1) l
    rw [a_neg_eq l, i_neg_eq, Int.neg_one_mul]
noncomputable def a_dif (f g : aF) : aF := (a_suml f.1 (a_neg g.1), i_add f.2 (i_neg g.2))
noncomputable def a_mulc (k : Int) (f : aF) : aF := bif a_iz k then ([], 0) else (a_scl k f.1, k * f.2)
noncomputable def a_pl (f : aF) (c : Int) : aF := (f.1, i_add f.2 c)
noncomputable def a_cn (c : Int) : aF := ([], c)
noncomputable def a_sy (s : Nat) : aF := ([(s, 1)], 0)
theorem a_ins_ev (σ : Nat → Int) (s : Nat) (k : Int) : ∀ l, a_evl σ (a_ins s k l) = k * σ s + a_evl σ l
  | [] => rfl
  | q :: l => by
    rw [a_ins_c]
    cases Nat.blt s q.1 with
    | true => rfl
    | false =>
      cases hb : Nat.beq s q.1 with
      | true =>
        have e := Nat.eq_of_beq_eq_true hb
        cases hz : a_iz (k + q.2) with
        | true =>
          have z := a_iz_ok hz
          show a_evl σ l = k * σ s + (q.2 * σ q.1 + a_evl σ l)
          rw [← e, ← Int.add_assoc, ← Int.add_mul, z, Int.zero_mul, Int.zero_add]
        | false =>
          show (k + q.2) * σ s + a_evl σ l = k * σ s + (q.2 * σ q.1 + a_evl σ l)
          rw [← e, Int.add_mul, Int.add_assoc]
      | false =>
        show q.2 * σ q.1 + a_evl σ (a_ins s k l) = k * σ s + (q.2 * σ q.1 + a_evl σ l)
        rw [a_ins_ev σ s k l]
        omega
theorem a_suml_ev (σ : Nat → Int) : ∀ l m, a_evl σ (a_suml l m) = a_evl σ l + a_evl σ m
  | [], m => by show a_evl σ m = 0 + a_evl σ m; omega
  | q :: l, m => by
    show a_evl σ (a_ins q.1 q.2 (a_suml l m)) = q.2 * σ q.1 + a_evl σ l + a_evl σ m
    rw [a_ins_ev, a_suml_ev σ l m, Int.add_assoc]
theorem a_scl_ev (σ : Nat → Int) (k : Int) : ∀ l, a_evl σ (a_scl k l) = k * a_evl σ l
  | [] => by show (0 : Int) = k * 0; rw [Int.mul_zero]
  | q :: l => by
    show k * q.2 * σ q.1 + a_evl σ (a_scl k l) = k * (q.2 * σ q.1 + a_evl σ l)
    rw [a_scl_ev σ k l, Int.mul_add, Int.mul_assoc]
theorem a_sum_ev (σ : Nat → Int) (f g : aF) : a_ev σ (a_sum f g) = a_ev σ f + a_ev σ g := by
  show a_evl σ (a_suml f.1 g.1) + i_add f.2 g.2 = a_evl σ f.1 + f.2 + (a_evl σ g.1 + g.2)
  rw [i_add_eq, a_suml_ev]; omega
theorem a_dif_ev (σ : Nat → Int) (f g : aF) : a_ev σ (a_dif f g) = a_ev σ f - a_ev σ g := by
  show a_evl σ (a_suml f.1 (a_neg g.1)) + i_add f.2 (i_neg g.2) = a_evl σ f.1 + f.2 - (a_evl σ g.1 + g.2)
  rw [i_add_eq, i_neg_eq, a_neg_eq, a_suml_ev, a_scl_ev]; omega
theorem a_mulc_ev (σ : Nat → Int) (k : Int) (f : aF) : a_ev σ (a_mulc k f) = k * a_ev σ f := by
  unfold a_mulc
  cases hz : a_iz k with
  | true =>
    rw [a_iz_ok hz, Int.zero_mul (a_ev σ f)]; rfl
  | false =>
    show a_evl σ (a_scl k f.1) + k * f.2 = k * (a_evl σ f.1 + f.2)
    rw [a_scl_ev, Int.mul_add]
theorem a_pl_ev (σ : Nat → Int) (f : aF) (c : Int) : a_ev σ (a_pl f c) = a_ev σ f + c := by
  show a_evl σ f.1 + i_add f.2 c = a_evl σ f.1 + f.2 + c
  rw [i_add_eq]
  omega
theorem a_cn_ev (σ : Nat → Int) (c : Int) : a_ev σ (a_cn c) = c := by
  show (0 : Int) + c = c
  omega
theorem a_sy_ev (σ : Nat → Int) (s : Nat) : a_ev σ (a_sy s) = σ s := by
  show 1 * σ s + 0 + 0 = σ s
  omega
/-- its symbols are below n -/
noncomputable def a_wfl (n : Nat) (l : List (Nat × Int)) : Prop := ∀ q ∈ l, q.1 < n
theorem a_wfl.mono {n m : Nat} {l : List (Nat × Int)} (h : a_wfl n l) (hn : n ≤ m) : a_wfl m l := fun q hq => Nat.lt_of_lt_of_le (h q hq) hn
theorem a_wfl.ins {n s : Nat} {k : Int} (hs : s < n) : ∀ {l : List (Nat × Int)}, a_wfl n l → a_wfl n (a_ins s k l)
  | [], _ => fun q hq => by rw [List.mem_singleton.mp hq]; exact hs
  | p :: l, h => by
    have hp : p.1 < n := h p List.mem_cons_self
    have hl : a_wfl n l := fun q hq => h q (List.mem_cons_of_mem _ hq)
    rw [a_ins_c]
    cases Nat.blt s p.1 with
    | true =>
      intro q hq
      rcases List.mem_cons.mp hq with rfl | hq
      · exact hs
      · exact h q hq
    | false =>
      cases Nat.beq s p.1 with
      | true =>
        cases a_iz (k + p.2) with
        | true => exact hl
        | false =>
          intro q hq
          rcases List.mem_cons.mp hq with rfl | hq
          · exact hs
          · exact hl q hq
      | false =>
        intro q hq
        rcases List.mem_cons.mp hq with rfl | hq
        · exact hp
        · exact a_wfl.ins hs hl q hq
theorem a_wfl.sum {n : Nat} : ∀ {l m : List (Nat × Int)}, a_wfl n l → a_wfl n m → a_wfl n (a_suml l m)
  | [], _, _, h => h
  | q :: _, _, h1, h2 => a_wfl.ins (h1 q List.mem_cons_self) (a_wfl.sum (fun x hx => h1 x (List.mem_cons_of_mem _ hx)) h2)
theorem a_wfl.scl {n : Nat} {k : Int} : ∀ {l : List (Nat × Int)}, a_wfl n l → a_wfl n (a_scl k l)
  | [], _ => fun q hq => by cases hq
  | p :: l, h => fun q hq => by
    rcases List.mem_cons.mp hq with rfl | hq
    · exact h p List.mem_cons_self
    · exact a_wfl.scl (fun x hx => h x (List.mem_cons_of_mem _ hx)) q hq
abbrev a_wf (n : Nat) (f : aF) : Prop := a_wfl n f.1
theorem a_wf.sum {n : Nat} {f g : aF} (h1 : a_wf n f) (h2 : a_wf n g) : a_wf n (a_sum f g) := a_wfl.sum h1 h2
theorem a_wf.dif {n : Nat} {f g : aF} (h1 : a_wf n f) (h2 : a_wf n g) : a_wf n (a_dif f g) := a_wfl.sum h1 (by rw [a_neg_eq]; exact a_wfl.scl h2)
theorem a_wf.mulc {n : Nat} {k : Int} {f : aF} (h1 : a_wf n f) : a_wf n (a_mulc k f) := by
  unfold a_mulc
  cases a_iz k
  · exact a_wfl.scl h1
  · exact fun q hq => by cases hq
theorem a_wf.cn {n : Nat} {c : Int} : a_wf n (a_cn c) := fun q hq => by cases hq
theorem a_wf.sy {n s : Nat} (h : s < n) : a_wf n (a_sy s) := fun q hq => by rw [List.mem_singleton.mp hq]; exact h
theorem a_evl_ext {σ σ' : Nat → Int} {n : Nat} (hs : ∀ i, i < n → σ' i = σ i) : ∀ {l : List (Nat × Int)}, a_wfl n l → a_evl σ' l = a_evl σ l
  | [], _ => rfl
  | q :: l, h => by
    show q.2 * σ' q.1 + a_evl σ' l = q.2 * σ q.1 + a_evl σ l
    rw [hs q.1 (h q List.mem_cons_self), a_evl_ext hs (fun x hx => h x (List.mem_cons_of_mem _ hx))]
theorem a_ev_ext {σ σ' : Nat → Int} {n : Nat} (hs : ∀ i, i < n → σ' i = σ i) {f : aF} (h : a_wf n f) : a_ev σ' f = a_ev σ f := by
  unfold a_ev
  rw [a_evl_ext hs h]
/-- an abstract value: 1 an int, 4 a long (its sum), 6 a cell, 7 null, 8 the cell of that number (a sum), 11 a text -/
abbrev aV : Type := Nat × Nat × aF
noncomputable def a_V (σ : Nat → Int) (n : Nat) (a : aV) (v : qV) : Prop := match a.1 with
  | 1 => a_wf n a.2.2 ∧ v = (0, a_w (a_ev σ a.2.2)) ∧ -2147483648 ≤ a_ev σ a.2.2 ∧ a_ev σ a.2.2 < 2147483648
  | 4 => a_wf n a.2.2 ∧ v = (3, a_W (a_ev σ a.2.2)) ∧ -9223372036854775808 ≤ a_ev σ a.2.2 ∧ a_ev σ a.2.2 < 9223372036854775808
  | 6 => v = (6, a.2.1)
  | 7 => v = (7, 0)
  | 8 => a_wf n a.2.2 ∧ 0 ≤ a_ev σ a.2.2 ∧ v = (6, (a_ev σ a.2.2).toNat)
  | 11 => v = (11, a.2.1)
  | _ => False
theorem a_V.ext {σ σ' : Nat → Int} {n n' : Nat} {a : aV} {v : qV} (h : a_V σ n a v) (hn : n ≤ n') (hs : ∀ i, i < n → σ' i = σ i) : a_V σ' n' a v := by
  obtain ⟨t, s, c⟩ := a
  unfold a_V at h ⊢
  split at h
  · obtain ⟨h1, h2⟩ := h
    have e : a_ev σ' c = a_ev σ c := a_ev_ext hs h1
    refine ⟨h1.mono hn, ?_⟩
    show v = (0, a_w (a_ev σ' c)) ∧ _ ≤ a_ev σ' c ∧ a_ev σ' c < _
    rw [e]
    exact h2
  · obtain ⟨h1, h2⟩ := h
    have e : a_ev σ' c = a_ev σ c := a_ev_ext hs h1
    refine ⟨h1.mono hn, ?_⟩
    show v = (3, a_W (a_ev σ' c)) ∧ _ ≤ a_ev σ' c ∧ a_ev σ' c < _
    rw [e]
    exact h2
  · exact h
  · exact h
  · obtain ⟨h1, h2⟩ := h
    have e : a_ev σ' c = a_ev σ c := a_ev_ext hs h1
    refine ⟨h1.mono hn, ?_⟩
    show 0 ≤ a_ev σ' c ∧ v = (6, (a_ev σ' c).toNat)
    rw [e]
    exact h2
  · exact h
  · exact h
noncomputable def a_kd (a : aV) : Nat := match a.1 with
  | 1 => 0
  | 4 => 1
  | 6 => 2
  | 7 => 2
  | 8 => 2
  | 11 => 2
  | _ => 9
noncomputable def a_cat (a : aV) : Nat := bif Nat.beq a.1 4 then 2 else 1
theorem a_V.kd {σ : Nat → Int} {n : Nat} {a : aV} {v : qV} (h : a_V σ n a v) : q_knd v = a_kd a ∧ q_cat v = a_cat a := by
  obtain ⟨t, s, c⟩ := a
  unfold a_V at h
  split at h
  · rename_i ht
    have ht : t = 1 := ht
    subst ht
    rw [h.2.1]; exact ⟨rfl, rfl⟩
  · rename_i ht
    have ht : t = 4 := ht
    subst ht
    rw [h.2.1]; exact ⟨rfl, rfl⟩
  · rename_i ht
    have ht : t = 6 := ht
    subst ht
    rw [h]; exact ⟨rfl, rfl⟩
  · rename_i ht
    have ht : t = 7 := ht
    subst ht
    rw [h]; exact ⟨rfl, rfl⟩
  · rename_i ht
    have ht : t = 8 := ht
    subst ht
    rw [h.2.2]; exact ⟨rfl, rfl⟩
  · rename_i ht
    have ht : t = 11 := ht
    subst ht
    rw [h]; exact ⟨rfl, rfl⟩
  · exact h.elim
/-- intervals of the symbols, sums that are 0 or more -/
abbrev aE : Type := List (Int × Int) × List aF
abbrev a_n (E : aE) : Nat := E.1.length
noncomputable def a_En (σ : Nat → Int) (E : aE) : Prop := (∀ (i : Nat) (p : Int × Int), E.1[i]? = some p → p.1 ≤ σ i ∧ σ i ≤ p.2) ∧ ∀ q ∈ E.2, a_wf (a_n E) q ∧ 0 ≤ a_ev σ q
noncomputable def a_ivl (L : List (Int × Int)) : Nat → Int × Int := @List.rec (Int × Int) (fun _ => Nat → Int × Int) (fun _ => (0, 0)) (fun q _ ih s => @Nat.rec (fun _ => Int × Int) q (fun s' _ => ih s') s) L
theorem a_ivl_eq : ∀ (L : List (Int × Int)) (s : Nat), a_ivl L s = L.getD s (0, 0)
  | [], _ => rfl
  | _ :: _, 0 => rfl
  | _ :: L, s + 1 => a_ivl_eq L s
noncomputable def a_iv (E : aE) (s : Nat) : Int × Int := a_ivl E.1 s
theorem a_iv_ok {σ : Nat → Int} {E : aE} (h : a_En σ E) {s : Nat} (hs : s < a_n E) : (a_iv E s).1 ≤ σ s ∧ σ s ≤ (a_iv E s).2 := by
  refine h.1 s _ ?_
  unfold a_iv
  rw [a_ivl_eq, List.getD_eq_getElem?_getD, List.getElem?_eq_getElem hs]
  rfl
noncomputable def a_tlo (k : Int) (p : Int × Int) : Int := @Int.rec (fun _ => Int) (fun n => @Bool.rec (fun _ => Int) (Int.mul k p.1) p.1 (Nat.beq n 1)) (fun n => @Bool.rec (fun _ => Int) (Int.mul k p.2) (i_neg p.2) (Nat.beq n 0)) k
noncomputable def a_thi (k : Int) (p : Int × Int) : Int := @Int.rec (fun _ => Int) (fun n => @Bool.rec (fun _ => Int) (Int.mul k p.2) p.2 (Nat.beq n 1)) (fun n => @Bool.rec (fun _ => Int) (Int.mul k p.1) (i_neg p.1) (Nat.beq n 0)) k
theorem a_m1 {n : Nat} {x : Int} : @Bool.rec (fun _ => Int) (Int.ofNat n * x) x (Nat.beq n 1) = Int.ofNat n * x := by
  cases h : Nat.beq n 1 with
  | false => rfl
  | true =>
    have h := Nat.eq_of_beq_eq_true h
    subst h
    exact (Int.one_mul x).symm
theorem a_m2 {n : Nat} {x : Int} : @Bool.rec (fun _ => Int) (Int.negSucc n * x) (i_neg x) (Nat.beq n 0) = Int.negSucc n * x := by
  cases h : Nat.beq n 0 with
  | false => rfl
  | true =>
    have h := Nat.eq_of_beq_eq_true h
    subst h
    show i_neg x = -1 * x
    rw [i_neg_eq, Int.neg_one_mul]
theorem a_tlo_eq {k : Int} {p : Int × Int} : a_tlo k p = (bif a_ile 0 k then k * p.1 else k * p.2) := by
  cases k with
  | ofNat n =>
    rw [show a_ile 0 (Int.ofNat n) = true from a_ile_ok.mpr (Int.natCast_nonneg n)]
    exact a_m1
  | negSucc n =>
    have e : a_ile 0 (Int.negSucc n) = false := by
      cases h : a_ile 0 (Int.negSucc n) with
      | false => rfl
      | true => exact absurd (a_ile_ok.mp h) (Int.not_le.mpr (Int.negSucc_lt_zero n))
    rw [e]
    exact a_m2
theorem a_thi_eq {k : Int} {p : Int × Int} : a_thi k p = (bif a_ile 0 k then k * p.2 else k * p.1) := by
  cases k with
  | ofNat n =>
    rw [show a_ile 0 (Int.ofNat n) = true from a_ile_ok.mpr (Int.natCast_nonneg n)]
    exact a_m1
  | negSucc n =>
    have e : a_ile 0 (Int.negSucc n) = false := by
      cases h : a_ile 0 (Int.negSucc n) with
      | false => rfl
      | true => exact absurd (a_ile_ok.mp h) (Int.not_le.mpr (Int.negSucc_lt_zero n))
    rw [e]
    exact a_m2
theorem a_t_ok {k x : Int} {p : Int × Int} (h1 : p.1 ≤ x) (h2 : x ≤ p.2) : a_tlo k p ≤ k * x ∧ k * x ≤ a_thi k p := by
  rw [a_tlo_eq, a_thi_eq]
  cases hk : a_ile 0 k with
  | true =>
    have hk := a_ile_ok.mp hk
    exact ⟨Int.mul_le_mul_of_nonneg_left h1 hk, Int.mul_le_mul_of_nonneg_left h2 hk⟩
  | false =>
    have hk := a_ile_no hk
    exact ⟨Int.mul_le_mul_of_nonpos_left (by omega) h2, Int.mul_le_mul_of_nonpos_left (by omega) h1⟩
noncomputable def a_lol (E : aE) (l : List (Nat × Int)) : Int := @List.rec (Nat × Int) (fun _ => Int) 0 (fun q _ ih => i_add (a_tlo q.2 (a_ivl E.1 q.1)) ih) l
noncomputable def a_hil (E : aE) (l : List (Nat × Int)) : Int := @List.rec (Nat × Int) (fun _ => Int) 0 (fun q _ ih => i_add (a_thi q.2 (a_ivl E.1 q.1)) ih) l
noncomputable def a_lo (E : aE) (f : aF) : Int := i_add (a_lol E f.1) f.2
noncomputable def a_hi (E : aE) (f : aF) : Int := i_add (a_hil E f.1) f.2
theorem a_lol_c {E : aE} {q : Nat × Int} {l : List (Nat × Int)} : a_lol E (q :: l) = a_tlo q.2 (a_iv E q.1) + a_lol E l := i_add_eq
theorem a_hil_c {E : aE} {q : Nat × Int} {l : List (Nat × Int)} : a_hil E (q :: l) = a_thi q.2 (a_iv E q.1) + a_hil E l := i_add_eq
theorem a_lo_eq {E : aE} {f : aF} : a_lo E f = a_lol E f.1 + f.2 := i_add_eq
theorem a_hi_eq {E : aE} {f : aF} : a_hi E f = a_hil E f.1 + f.2 := i_add_eq
theorem a_bl_ok {σ : Nat → Int} {E : aE} (h : a_En σ E) : ∀ {l : List (Nat × Int)}, a_wfl (a_n E) l → a_lol E l ≤ a_evl σ l ∧ a_evl σ l ≤ a_hil E l ∧ ∀ q ∈ l, a_evl σ l ≤ a_hil E l - a_thi q.2 (a_iv E q.1) + q.2 * σ q.1
  | [], _ => ⟨Int.le_refl _, Int.le_refl _, fun q hq => by cases hq⟩
  | q :: l, hl => by
    obtain ⟨i1, i2⟩ := a_iv_ok h (hl q List.mem_cons_self)
    obtain ⟨t1, t2⟩ := a_t_ok (k := q.2) i1 i2
    obtain ⟨r1, r2, r3⟩ := a_bl_ok h (l := l) (fun x hx => hl x (List.mem_cons_of_mem _ hx))
    refine ⟨?_, ?_, fun x hx => ?_⟩
    · rw [a_lol_c]
      show a_tlo q.2 (a_iv E q.1) + a_lol E l ≤ q.2 * σ q.1 + a_evl σ l
      omega
    · rw [a_hil_c]
      show q.2 * σ q.1 + a_evl σ l ≤ a_thi q.2 (a_iv E q.1) + a_hil E l
      omega
    · rw [a_hil_c]
      show q.2 * σ q.1 + a_evl σ l ≤ a_thi q.2 (a_iv E q.1) + a_hil E l - a_thi x.2 (a_iv E x.1) + x.2 * σ x.1
      rcases List.mem_cons.mp hx with rfl | hx
      · omega
      · have := r3 x hx
        omega
theorem a_b_ok {σ : Nat → Int} {E : aE} (h : a_En σ E) {f : aF} (hf : a_wf (a_n E) f) : a_lo E f ≤ a_ev σ f ∧ a_ev σ f ≤ a_hi E f := by
  have := a_bl_ok h hf
  rw [a_lo_eq, a_hi_eq]
  show a_lol E f.1 + f.2 ≤ a_evl σ f.1 + f.2 ∧ a_evl σ f.1 + f.2 ≤ a_hil E f.1 + f.2
  omega
noncomputable def a_cf (s : Nat) (l : List (Nat × Int)) : Int := @List.rec (Nat × Int) (fun _ => Int) 0 (fun q _ ih => @Bool.rec (fun _ => Int) ih q.2 (Nat.beq q.1 s)) l
/-- f and q with a symbol of theirs taken out: that f is 0 or more if the rest is -/
noncomputable def a_elb (f q : aF) (n m : Nat) : aF := @Bool.rec (fun _ => aF) (a_pl (a_dif (a_mulc (Int.ofNat (Nat.succ m)) f) (a_mulc (Int.ofNat (Nat.succ n)) q)) (Int.ofNat m)) (a_dif f q) (Nat.beq n m)
noncomputable def a_el (f q : aF) (a b : Int) : Option aF := @Int.rec (fun _ => Option aF) (fun n => @Nat.rec (fun _ => Option aF) none (fun n' _ => @Int.rec (fun _ => Option aF) (fun m => @Nat.rec (fun _ => Option aF) none (fun m' _ => some (a_elb f q n' m')) m) (fun _ => none) b) n) (fun n => @Int.rec (fun _ => Option aF) (fun _ => none) (fun m => some (a_elb f q n m)) b) a
theorem a_elb_ok {σ : Nat → Int} {k : Nat} {f q : aF} {n m : Nat} (hf : a_wf k f) (hq : a_wf k q) (q0 : 0 ≤ a_ev σ q) : a_wf k (a_elb f q n m) ∧ (0 ≤ a_ev σ (a_elb f q n m) → 0 ≤ a_ev σ f) := by
  unfold a_elb
  cases hz : Nat.beq n m with
  | true =>
    refine ⟨hf.dif hq, fun h3 => ?_⟩
    have h3 : 0 ≤ a_ev σ (a_dif f q) := h3
    rw [a_dif_ev] at h3
    omega
  | false =>
    refine ⟨a_wf.dif (a_wf.mulc hf) (a_wf.mulc hq), fun h3 => ?_⟩
    have h3 : 0 ≤ a_ev σ (a_pl (a_dif (a_mulc (Int.ofNat (Nat.succ m)) f) (a_mulc (Int.ofNat (Nat.succ n)) q)) (Int.ofNat m)) := h3
    rw [a_pl_ev, a_dif_ev, a_mulc_ev, a_mulc_ev] at h3
    have hm : 0 ≤ Int.ofNat (Nat.succ n) * a_ev σ q := Int.mul_nonneg (Int.natCast_nonneg _) q0
    by_cases z : a_ev σ f < 0
    · have h9 : Int.ofNat (Nat.succ m) * a_ev σ f ≤ Int.ofNat (Nat.succ m) * (-1) := Int.mul_le_mul_of_nonneg_left (by omega) (Int.natCast_nonneg _)
      have e : Int.ofNat (Nat.succ m) = (m : Int) + 1 := rfl
      have e2 : Int.ofNat m = (m : Int) := rfl
      rw [e] at h3 h9
      rw [e2] at h3
      omega
    · omega
theorem a_el_ok {σ : Nat → Int} {n : Nat} {f q g : aF} {a b : Int} (h : a_el f q a b = some g) (hf : a_wf n f) (hq : a_wf n q) (q0 : 0 ≤ a_ev σ q) : a_wf n g ∧ (0 ≤ a_ev σ g → 0 ≤ a_ev σ f) := by
  cases a with
  | ofNat x => cases x with
    | zero => cases h
    | succ x => cases b with
      | ofNat y => cases y with
        | zero => cases h
        | succ y => cases h; exact a_elb_ok hf hq q0
      | negSucc y => cases h
  | negSucc x => cases b with
    | ofNat y => cases h
    | negSucc y => cases h; exact a_elb_ok hf hq q0
/-- by the first symbol that does -/
noncomputable def a_els (f q : aF) (l : List (Nat × Int)) : Option aF := @List.rec (Nat × Int) (fun _ => Option aF) none (fun t _ ih => @Option.rec aF (fun _ => Option aF) ih (fun g => some g) (a_el f q (a_cf t.1 f.1) t.2)) l
theorem a_els_c {f q : aF} {t : Nat × Int} {l : List (Nat × Int)} : a_els f q (t :: l) = (match a_el f q (a_cf t.1 f.1) t.2 with
    | some g => some g
    | none => a_els f q l) := by
  show @Option.rec aF (fun _ => Option aF) (a_els f q l) (fun g => some g) (a_el f q (a_cf t.1 f.1) t.2) = _
  cases a_el f q (a_cf t.1 f.1) t.2 <;> rfl
theorem a_els_ok {σ : Nat → Int} {n : Nat} {f q g : aF} (hf : a_wf n f) (hq : a_wf n q) (q0 : 0 ≤ a_ev σ q) : ∀ {l : List (Nat × Int)}, a_els f q l = some g → a_wf n g ∧ (0 ≤ a_ev σ g → 0 ≤ a_ev σ f)
  | [], h => by cases h
  | t :: l, h => by
    rw [a_els_c] at h
    split at h
    · rename_i g2 hg
      cases h
      exact a_el_ok hg hf hq q0
    · exact a_els_ok hf hq q0 h
/-- f is 0 or more: by the intervals, or by up to d of the sums that are -/
noncomputable def a_any (p : aF → Bool) (l : List aF) : Bool := @List.rec aF (fun _ => Bool) false (fun q _ ih => @Bool.rec (fun _ => Bool) ih true (p q)) l
theorem a_any_eq (p : aF → Bool) : ∀ l : List aF, a_any p l = l.any p
  | [] => rfl
  | q :: l => by
    show @Bool.rec (fun _ => Bool) (a_any p l) true (p q) = (p q || l.any p)
    rw [a_any_eq p l]
    cases p q <;> rfl
noncomputable def a_nnF (E : aE) : Nat → aF → Bool := @Nat.rec (fun _ => aF → Bool) (fun f => a_ile 0 (a_lo E f)) (fun _ ih f => @Bool.rec (fun _ => Bool) (a_any (fun q => @Option.rec aF (fun _ => Bool) false ih (a_els f q q.1)) E.2) true (ih f))
noncomputable def a_nn (E : aE) (f : aF) (d : Nat) : Bool := a_nnF E d f
theorem a_nn_s {E : aE} {f : aF} {d : Nat} : a_nn E f (d + 1) = (a_nn E f d || E.2.any fun q => match a_els f q q.1 with
    | none => false
    | some g => a_nn E g d) := by
  show @Bool.rec (fun _ => Bool) (a_any (fun q => @Option.rec aF (fun _ => Bool) false (a_nnF E d) (a_els f q q.1)) E.2) true (a_nn E f d) = _
  rw [a_any_eq, a_rb]
  have e : (fun q => @Option.rec aF (fun _ => Bool) false (a_nnF E d) (a_els f q q.1)) = (fun q => match a_els f q q.1 with
    | none => false
    | some g => a_nn E g d) := funext fun q => by
      cases a_els f q q.1 <;> rfl
  rw [e]
  cases a_nn E f d <;> rfl
theorem a_nn_ok {σ : Nat → Int} {E : aE} (h : a_En σ E) : ∀ (d : Nat) {f : aF}, a_wf (a_n E) f → a_nn E f d = true → 0 ≤ a_ev σ f
  | 0, f, hf, hn => by
    have h1 := a_ile_ok.mp (show a_ile 0 (a_lo E f) = true from hn)
    have h2 := (a_b_ok h hf).1
    omega
  | d + 1, f, hf, hn => by
    rw [a_nn_s, Bool.or_eq_true] at hn
    rcases hn with hn | hn
    · exact a_nn_ok h d hf hn
    · obtain ⟨q, hq, hd⟩ := List.any_eq_true.mp hn
      obtain ⟨w1, w2⟩ := h.2 q hq
      split at hd
      · cases hd
      · rename_i g hg
        obtain ⟨g1, g2⟩ := a_els_ok (σ := σ) hf w1 w2 hg
        exact g2 (a_nn_ok h d g1 hd)
/-- the same, the newest symbol first, by sums of two; at most n steps -/
noncomputable def a_ntl (go : aF → Nat → Bool × Nat) (f : aF) (s : Nat) : List aF → Nat → Bool × Nat
  | [], n => (false, n)
  | q :: qs, n => match n with
    | 0 => (false, 0)
    | m + 1 => (match (match q.1 with
        | [u, v] => a_els f q (bif Nat.beq u.1 s then [u] else bif Nat.beq v.1 s then [v] else [])
        | _ => none) with
      | none => a_ntl go f s qs (m + 1)
      | some g => (match go g m with
        | (true, k) => (true, k)
        | (false, k) => a_ntl go f s qs k))
noncomputable def a_nt (E : aE) : Nat → aF → Nat → Bool × Nat
  | 0, f, n => (a_ile 0 (a_lo E f), n)
  | d + 1, f, n => bif a_ile 0 (a_lo E f) then (true, n) else (match f.1.getLast? with
    | none => (false, n)
    | some t => a_ntl (a_nt E d) f t.1 E.2 n)
theorem a_ntl_ok {σ : Nat → Int} {N : Nat} {go : aF → Nat → Bool × Nat} {f : aF} {s : Nat} (hgo : ∀ g n, a_wf N g → (go g n).1 = true → 0 ≤ a_ev σ g) (hf : a_wf N f) : ∀ {l : List aF} {n : Nat}, (∀ q ∈ l, a_wf N q ∧ 0 ≤ a_ev σ q) → (a_ntl go f s l n).1 = true → 0 ≤ a_ev σ f
  | [], n, _, h => by cases h
  | q :: qs, 0, _, h => by cases h
  | q :: qs, m + 1, hl, h => by
    have ht : ∀ q ∈ qs, a_wf N q ∧ 0 ≤ a_ev σ q := fun x hx => hl x (List.mem_cons_of_mem _ hx)
    obtain ⟨w1, w2⟩ := hl q List.mem_cons_self
    unfold a_ntl at h
    dsimp only at h
    split at h
    · exact a_ntl_ok hgo hf ht h
    · rename_i g hg
      have hg : ∃ l, a_els f q l = some g := by
        split at hg
        · exact ⟨_, hg⟩
        · cases hg
      obtain ⟨l, hg⟩ := hg
      obtain ⟨g1, g2⟩ := a_els_ok (σ := σ) hf w1 w2 hg
      split at h
      · rename_i k hk
        exact g2 (hgo g m g1 (by rw [hk]))
      · exact a_ntl_ok hgo hf ht h
theorem a_nt_ok {σ : Nat → Int} {E : aE} (h : a_En σ E) : ∀ (d : Nat) (f : aF) (n : Nat), a_wf (a_n E) f → (a_nt E d f n).1 = true → 0 ≤ a_ev σ f
  | 0, f, n, hf, hn => by
    have h1 := a_ile_ok.mp (show a_ile 0 (a_lo E f) = true from hn)
    have h2 := (a_b_ok h hf).1
    omega
  | d + 1, f, n, hf, hn => by
    unfold a_nt at hn
    cases hb : a_ile 0 (a_lo E f) with
    | true =>
      have h1 := a_ile_ok.mp hb
      have h2 := (a_b_ok h hf).1
      omega
    | false =>
      rw [hb] at hn
      dsimp only [cond_false] at hn
      split at hn
      · cases hn
      · exact a_ntl_ok (fun g m hg hm => a_nt_ok h d g m hg hm) hf h.2 hn
noncomputable def a_nx (E : aE) (f : aF) : Bool := a_nn E f 2 || (a_nt E 8 f 150).1
theorem a_nx_ok {σ : Nat → Int} {E : aE} (h : a_En σ E) {f : aF} (hf : a_wf (a_n E) f) (hn : a_nx E f = true) : 0 ≤ a_ev σ f := by
  unfold a_nx at hn
  rw [Bool.or_eq_true] at hn
  rcases hn with hn | hn
  · exact a_nn_ok h 2 hf hn
  · exact a_nt_ok h 8 f 150 hf hn
noncomputable def a_ge (E : aE) (f : aF) (lo : Int) : Bool := a_nn E (a_pl f (-lo)) 2
noncomputable def a_lef (E : aE) (f : aF) (hi : Int) : Bool := a_nn E (a_dif (a_cn hi) f) 2
theorem a_ge_ok {σ : Nat → Int} {E : aE} (h : a_En σ E) {f : aF} (hf : a_wf (a_n E) f) {lo : Int} (hc : a_ge E f lo = true) : lo ≤ a_ev σ f := by
  have := a_nn_ok h 2 (f := a_pl f (-lo)) hf hc
  rw [a_pl_ev] at this
  omega
theorem a_lef_ok {σ : Nat → Int} {E : aE} (h : a_En σ E) {f : aF} (hf : a_wf (a_n E) f) {hi : Int} (hc : a_lef E f hi = true) : a_ev σ f ≤ hi := by
  have := a_nn_ok h 2 (a_wf.cn.dif hf) hc
  rw [a_dif_ev, a_cn_ev] at this
  omega
/-- the intervals of a sum's symbols where the sum, at most U, is 0 or more -/
noncomputable def a_rf (E : aE) (U : Int) : List (Nat × Int) → List (Int × Int) → List (Int × Int)
  | [], I => I
  | q :: l, I => a_rf E U l (match q.2 with
    | .ofNat m => bif Nat.beq m 1 then I.set q.1 (a_max (I.getD q.1 (0, 0)).1 ((a_iv E q.1).2 - U), (I.getD q.1 (0, 0)).2) else I
    | .negSucc m => bif Nat.beq m 0 then I.set q.1 ((I.getD q.1 (0, 0)).1, a_min (I.getD q.1 (0, 0)).2 ((a_iv E q.1).1 + U)) else I)
noncomputable def a_In (σ : Nat → Int) (I : List (Int × Int)) : Prop := ∀ (i : Nat) (p : Int × Int), I[i]? = some p → p.1 ≤ σ i ∧ σ i ≤ p.2
theorem a_In.set {σ : Nat → Int} {I : List (Int × Int)} (h : a_In σ I) {s : Nat} {p : Int × Int} (hp : s < I.length → p.1 ≤ σ s ∧ σ s ≤ p.2) : a_In σ (I.set s p) := fun i q hi => by
  by_cases e : s = i
  · subst e
    rw [List.getElem?_set] at hi
    simp only [if_true] at hi
    split at hi
    · rename_i hl
      cases hi; exact hp hl
    · cases hi
  · rw [List.getElem?_set_ne e] at hi
    exact h i q hi
theorem a_In.get {σ : Nat → Int} {I : List (Int × Int)} (h : a_In σ I) {s : Nat} (hs : s < I.length) : (I.getD s (0, 0)).1 ≤ σ s ∧ σ s ≤ (I.getD s (0, 0)).2 := by
  refine h s _ ?_
  rw [List.getD_eq_getElem?_getD, List.getElem?_eq_getElem hs]
  rfl
theorem a_rf_ok {σ : Nat → Int} {E : aE} {U : Int} : ∀ (l : List (Nat × Int)) (I : List (Int × Int)), (∀ q ∈ l, a_thi q.2 (a_iv E q.1) - U ≤ q.2 * σ q.1) → a_In σ I → a_In σ (a_rf E U l I) ∧ (a_rf E U l I).length = I.length
  | [], I, _, h => ⟨h, rfl⟩
  | q :: l, I, hq, h => by
    have hl := fun x hx => hq x (List.mem_cons_of_mem _ hx)
    have h0 := hq q List.mem_cons_self
    obtain ⟨s, k⟩ := q
    unfold a_rf
    cases k with
    | ofNat m =>
      cases hb : Nat.beq m 1 with
      | false =>
        show a_In σ (a_rf E U l (bif Nat.beq m 1 then _ else I)) ∧ (a_rf E U l (bif Nat.beq m 1 then _ else I)).length = _
        rw [hb]
        exact a_rf_ok l I hl h
      | true =>
        show a_In σ (a_rf E U l (bif Nat.beq m 1 then _ else I)) ∧ (a_rf E U l (bif Nat.beq m 1 then _ else I)).length = _
        rw [hb]
        have e := Nat.eq_of_beq_eq_true hb
        subst e
        have h0 : a_thi 1 (a_iv E s) - U ≤ 1 * σ s := h0
        have et : a_thi 1 (a_iv E s) = 1 * (a_iv E s).2 := (Int.one_mul _).symm
        rw [et] at h0
        obtain ⟨g1, g2⟩ := a_rf_ok l _ hl (h.set (s := s) (p := (a_max (I.getD s (0, 0)).1 ((a_iv E s).2 - U), (I.getD s (0, 0)).2)) (fun hs => ⟨a_max_ge (h.get hs).1 (by omega), (h.get hs).2⟩))
        exact ⟨g1, g2.trans List.length_set⟩
    | negSucc m =>
      cases hb : Nat.beq m 0 with
      | false =>
        show a_In σ (a_rf E U l (bif Nat.beq m 0 then _ else I)) ∧ (a_rf E U l (bif Nat.beq m 0 then _ else I)).length = _
        rw [hb]
        exact a_rf_ok l I hl h
      | true =>
        show a_In σ (a_rf E U l (bif Nat.beq m 0 then _ else I)) ∧ (a_rf E U l (bif Nat.beq m 0 then _ else I)).length = _
        rw [hb]
        have e := Nat.eq_of_beq_eq_true hb
        subst e
        have h0 : a_thi (-1) (a_iv E s) - U ≤ -1 * σ s := h0
        have et : a_thi (-1) (a_iv E s) = -1 * (a_iv E s).1 := by
          show i_neg (a_iv E s).1 = _
          rw [i_neg_eq, Int.neg_one_mul]
        rw [et] at h0
        obtain ⟨g1, g2⟩ := a_rf_ok l _ hl (h.set (s := s) (p := ((I.getD s (0, 0)).1, a_min (I.getD s (0, 0)).2 ((a_iv E s).1 + U))) (fun hs => ⟨(h.get hs).1, a_min_le (h.get hs).2 (by omega)⟩))
        exact ⟨g1, g2.trans List.length_set⟩
noncomputable def a_eql : List (Nat × Int) → List (Nat × Int) → Bool
  | [], [] => true
  | p :: l, q :: r => Nat.beq p.1 q.1 && (a_iz (p.2 - q.2) && a_eql l r)
  | _, _ => false
/-- written alike (nothing hangs on it) -/
noncomputable def a_eqf (f g : aF) : Bool := a_iz (f.2 - g.2) && a_eql f.1 g.1
/-- E where P is taken to be 0 or more; none if it can't be -/
noncomputable def a_as (E : aE) (P : aF) : Option aE :=
  bif a_ile 0 (a_hi E P) then
    bif a_ile 0 (a_lo E P) then some E
    else bif a_nn E (a_dif (a_cn (-1)) P) 1 then none
    else some (a_rf E (a_hi E P) P.1 E.1, match P.1 with
      | [_] => E.2
      | _ => bif E.2.any (a_eqf P) then E.2 else P :: E.2)
  else none
theorem a_as_ok {σ : Nat → Int} {E : aE} (h : a_En σ E) {P : aF} (hP : a_wf (a_n E) P) (hp : 0 ≤ a_ev σ P) : ∃ E', a_as E P = some E' ∧ a_En σ E' ∧ a_n E' = a_n E := by
  unfold a_as
  obtain ⟨b1, b2⟩ := a_b_ok h hP
  rw [show a_ile 0 (a_hi E P) = true from a_ile_ok.mpr (by omega)]
  cases a_ile 0 (a_lo E P) with
  | true => exact ⟨E, rfl, h, rfl⟩
  | false =>
    cases hn : a_nn E (a_dif (a_cn (-1)) P) 1 with
    | true =>
      have := a_nn_ok h 1 (a_wf.cn.dif hP) hn
      rw [a_dif_ev, a_cn_ev] at this
      omega
    | false =>
      obtain ⟨g1, g2⟩ := a_rf_ok (E := E) (U := a_hi E P) P.1 E.1 (fun q hq => by
        have h3 := (a_bl_ok h hP).2.2 q hq
        have h4 : 0 ≤ a_evl σ P.1 + P.2 := hp
        have h5 : a_hi E P = a_hil E P.1 + P.2 := a_hi_eq
        omega) h.1
      have wf : ∀ q, a_wf (a_n E) q → a_wf (a_rf E (a_hi E P) P.1 E.1).length q := fun q hq => by rw [g2]; exact hq
      refine ⟨_, rfl, ⟨g1, fun q hq => ?_⟩, g2⟩
      have hq : q ∈ (match P.1 with
        | [_] => E.2
        | _ => bif E.2.any (a_eqf P) then E.2 else P :: E.2) := hq
      have old : ∀ x ∈ E.2, a_wf (a_rf E (a_hi E P) P.1 E.1).length x ∧ 0 ≤ a_ev σ x := fun x hx => ⟨wf x (h.2 x hx).1, (h.2 x hx).2⟩
      have all : ∀ x ∈ P :: E.2, a_wf (a_rf E (a_hi E P) P.1 E.1).length x ∧ 0 ≤ a_ev σ x := fun x hx => by
        rcases List.mem_cons.mp hx with rfl | hx
        · exact ⟨wf _ hP, hp⟩
        · exact old x hx
      split at hq
      · exact old q hq
      · cases hb : E.2.any (a_eqf P) with
        | true => rw [hb] at hq; exact old q hq
        | false => rw [hb] at hq; exact all q hq
/-- one symbol more -/
noncomputable def a_add (E : aE) (lo hi : Int) : aE := (E.1 ++ [(lo, hi)], E.2)
noncomputable def a_up (σ : Nat → Int) (n : Nat) (x : Int) : Nat → Int := fun i => if i = n then x else σ i
theorem a_up_old {σ : Nat → Int} {n : Nat} {x : Int} : ∀ i, i < n → a_up σ n x i = σ i := fun i hi => if_neg (by omega)
theorem a_up_new {σ : Nat → Int} {n : Nat} {x : Int} : a_up σ n x n = x := if_pos rfl
theorem a_add_n {E : aE} {lo hi : Int} : a_n (a_add E lo hi) = a_n E + 1 := by
  show (E.1 ++ [(lo, hi)]).length = _
  rw [List.length_append]; rfl
theorem a_add_ok {σ : Nat → Int} {E : aE} (h : a_En σ E) {lo hi x : Int} (h1 : lo ≤ x) (h2 : x ≤ hi) : a_En (a_up σ (a_n E) x) (a_add E lo hi) := by
  obtain ⟨z2, z3⟩ := h
  refine ⟨fun i p hp => ?_, fun q hq => ?_⟩
  · have hp : (E.1 ++ [(lo, hi)])[i]? = some p := hp
    have hil := (List.getElem?_eq_some_iff.mp hp).1
    rw [List.length_append] at hil
    have hil : i < E.1.length + 1 := hil
    by_cases e : i = E.1.length
    · subst e
      rw [List.getElem?_append_right (Nat.le_refl _), Nat.sub_self] at hp
      cases hp
      rw [show a_up σ (a_n E) x E.1.length = x from a_up_new]
      exact ⟨h1, h2⟩
    · rw [List.getElem?_append_left (by omega)] at hp
      rw [a_up_old i (by show i < E.1.length; omega)]
      exact z2 i p hp
  · obtain ⟨a, b⟩ := z3 q hq
    refine ⟨a.mono (by rw [a_add_n]; exact Nat.le_succ _), ?_⟩
    rw [a_ev_ext (a_up_old (n := a_n E) (x := x)) a]
    exact b
-- compares
noncomputable def a_opI (o : Nat) (x y : Int) : Bool := match o with
  | 0 => decide (x = y)
  | 1 => !decide (x = y)
  | 2 => decide (x < y)
  | 3 => !decide (x < y)
  | 4 => decide (y < x)
  | _ => !decide (y < x)
theorem a_op_I {o : Nat} {x y : Int} (h1 : -2147483648 ≤ x) (h2 : x < 2147483648) (h3 : -2147483648 ≤ y) (h4 : y < 2147483648) : q_op o (qI (a_w x)) (qI (a_w y)) = a_opI o x y := by
  have e1 := a_qIt h1 h2
  have e2 := a_qIt h3 h4
  have ee : qI (a_w x) = qI (a_w y) ↔ x = y := by rw [← Int32.toInt_inj, e1, e2]
  have el : qI (a_w x) < qI (a_w y) ↔ x < y := by rw [Int32.lt_iff_toInt_lt, e1, e2]
  have eg : qI (a_w y) < qI (a_w x) ↔ y < x := by rw [Int32.lt_iff_toInt_lt, e1, e2]
  rcases o with _ | _ | _ | _ | _ | o
  · exact decide_eq_decide.mpr ee
  · exact congrArg not (decide_eq_decide.mpr ee)
  · exact decide_eq_decide.mpr el
  · exact congrArg not (decide_eq_decide.mpr el)
  · exact decide_eq_decide.mpr eg
  · exact congrArg not (decide_eq_decide.mpr eg)
noncomputable def a_o (b : Bool) (o : Option aE) : List (Bool × aE) := match o with
  | none => []
  | some E => [(b, E)]
noncomputable def a_eqs (E : aE) (D : aF) (b : Bool) : List (Bool × aE) := match a_as E D with
  | none => []
  | some E1 => a_o b (a_as E1 (a_dif (a_cn 0) D))
/-- x against y, D their difference y - x -/
noncomputable def a_cmpD (o : Nat) (E : aE) (D : aF) : List (Bool × aE) := match o with
  | 0 => a_eqs E D true ++ (a_o false (a_as E (a_pl D (-1))) ++ a_o false (a_as E (a_dif (a_cn (-1)) D)))
  | 1 => a_eqs E D false ++ (a_o true (a_as E (a_pl D (-1))) ++ a_o true (a_as E (a_dif (a_cn (-1)) D)))
  | 2 => a_o true (a_as E (a_pl D (-1))) ++ a_o false (a_as E (a_dif (a_cn 0) D))
  | 3 => a_o false (a_as E (a_pl D (-1))) ++ a_o true (a_as E (a_dif (a_cn 0) D))
  | 4 => a_o true (a_as E (a_dif (a_cn (-1)) D)) ++ a_o false (a_as E D)
  | _ => a_o false (a_as E (a_dif (a_cn (-1)) D)) ++ a_o true (a_as E D)
theorem a_o_ok {σ : Nat → Int} {E : aE} (h : a_En σ E) {P : aF} (hP : a_wf (a_n E) P) (hp : 0 ≤ a_ev σ P) (b : Bool) : ∃ q ∈ a_o b (a_as E P), q.1 = b ∧ a_En σ q.2 ∧ a_n q.2 = a_n E := by
  obtain ⟨E', h1, h2, h3⟩ := a_as_ok h hP hp
  rw [h1]
  exact ⟨(b, E'), List.mem_singleton.mpr rfl, rfl, h2, h3⟩
theorem a_eqs_ok {σ : Nat → Int} {E : aE} (h : a_En σ E) {D : aF} (hD : a_wf (a_n E) D) (he : a_ev σ D = 0) (b : Bool) : ∃ q ∈ a_eqs E D b, q.1 = b ∧ a_En σ q.2 ∧ a_n q.2 = a_n E := by
  unfold a_eqs
  obtain ⟨E', h1, h2, h3⟩ := a_as_ok h hD (by omega)
  rw [h1]
  obtain ⟨q, g1, g2, g3, g4⟩ := a_o_ok h2 (P := a_dif (a_cn 0) D) (a_wf.cn.dif (by rw [h3]; exact hD)) (by rw [a_dif_ev, a_cn_ev]; omega) b
  exact ⟨q, g1, g2, g3, by omega⟩
theorem a_cmpD_ok {σ : Nat → Int} {E : aE} (h : a_En σ E) (o : Nat) {D : aF} (hD : a_wf (a_n E) D) {x y : Int} (hxy : a_ev σ D = y - x) : ∃ q ∈ a_cmpD o E D, q.1 = a_opI o x y ∧ a_En σ q.2 ∧ a_n q.2 = a_n E := by
  have L : ∀ {A B : List (Bool × aE)} {b r : Bool}, b = r → (∃ q ∈ A, q.1 = b ∧ a_En σ q.2 ∧ a_n q.2 = a_n E) → ∃ q ∈ A ++ B, q.1 = r ∧ a_En σ q.2 ∧ a_n q.2 = a_n E := fun e ⟨q, h1, h2⟩ => ⟨q, List.mem_append_left _ h1, by rw [← e]; exact h2⟩
  have R : ∀ {A B : List (Bool × aE)} {b r : Bool}, b = r → (∃ q ∈ B, q.1 = b ∧ a_En σ q.2 ∧ a_n q.2 = a_n E) → ∃ q ∈ A ++ B, q.1 = r ∧ a_En σ q.2 ∧ a_n q.2 = a_n E := fun e ⟨q, h1, h2⟩ => ⟨q, List.mem_append_right _ h1, by rw [← e]; exact h2⟩
  have T : ∀ {p : Prop} [Decidable p], p → true = decide p := fun hp => (decide_eq_true hp).symm
  have F : ∀ {p : Prop} [Decidable p], ¬ p → false = decide p := fun hp => (decide_eq_false hp).symm
  have NT : ∀ {p : Prop} [Decidable p], ¬ p → true = !decide p := fun hp => by rw [decide_eq_false hp]; rfl
  have NF : ∀ {p : Prop} [Decidable p], p → false = !decide p := fun hp => by rw [decide_eq_true hp]; rfl
  have lt : ∀ b, x < y → ∃ q ∈ a_o b (a_as E (a_pl D (-1))), q.1 = b ∧ a_En σ q.2 ∧ a_n q.2 = a_n E := fun b g => a_o_ok h (P := a_pl D (-1)) hD (by rw [a_pl_ev]; omega) b
  have le : ∀ b, x ≤ y → ∃ q ∈ a_o b (a_as E D), q.1 = b ∧ a_En σ q.2 ∧ a_n q.2 = a_n E := fun b g => a_o_ok h hD (by omega) b
  have gt : ∀ b, y < x → ∃ q ∈ a_o b (a_as E (a_dif (a_cn (-1)) D)), q.1 = b ∧ a_En σ q.2 ∧ a_n q.2 = a_n E := fun b g => a_o_ok h (a_wf.cn.dif hD) (by rw [a_dif_ev, a_cn_ev]; omega) b
  have ge : ∀ b, y ≤ x → ∃ q ∈ a_o b (a_as E (a_dif (a_cn 0) D)), q.1 = b ∧ a_En σ q.2 ∧ a_n q.2 = a_n E := fun b g => a_o_ok h (a_wf.cn.dif hD) (by rw [a_dif_ev, a_cn_ev]; omega) b
  rcases o with _ | _ | _ | _ | _ | o
  · rcases Int.lt_trichotomy x y with g | g | g
    · exact R rfl (L (F (by omega)) (lt false g))
    · exact L (T g) (a_eqs_ok h hD (by omega) true)
    · exact R rfl (R (F (by omega)) (gt false g))
  · rcases Int.lt_trichotomy x y with g | g | g
    · exact R rfl (L (NT (by omega)) (lt true g))
    · exact L (NF g) (a_eqs_ok h hD (by omega) false)
    · exact R rfl (R (NT (by omega)) (gt true g))
  · by_cases g : x < y
    · exact L (T g) (lt true g)
    · exact R (F g) (ge false (by omega))
  · by_cases g : x < y
    · exact L (NF g) (lt false g)
    · exact R (NT g) (ge true (by omega))
  · by_cases g : y < x
    · exact L (T g) (gt true g)
    · exact R (F g) (le false (by omega))
  · by_cases g : y < x
    · exact L (NF g) (gt false g)
    · exact R (NT g) (le true (by omega))
