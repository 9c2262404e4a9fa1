-- 5209m.mean: what the facts of the heap mean
/-- an int or a long of the heap -/
def m_int (v : qV) : Int := match v.1 with
  | 3 => (qJ v.2).toInt
  | _ => (qI v.2).toInt
abbrev mG : Type := Nat → Nat → Int
def m_ac (g : mG) (c off n : Nat) (i : Int) : Int := if 0 ≤ i ∧ i < n then g c (off + i.toNat) else 0
abbrev m_M (g : mG) : Int := g 539 0
abbrev m_F (g : mG) : Int := g 539 1
abbrev m_nc (g : mG) : Int := g 539 2
abbrev m_nf (g : mG) : Int := g 539 5
abbrev m_ls (g : mG) : Int := g 534 29
abbrev m_cs (g : mG) : Int → Int := m_ac g 539 7 6
abbrev m_fs (g : mG) : Int → Int := m_ac g 539 33 8
abbrev m_nt (g : mG) : Int → Int := m_ac g 539 49 96
abbrev m_fo (g : mG) : Int → Int := m_ac g 543 0 1344
abbrev m_ft (g : mG) : Int → Int := m_ac g 544 0 1344
abbrev m_sl (g : mG) : Int → Int := m_ac g 545 0 96
abbrev m_wt (g : mG) : Int → Int := m_ac g 546 0 1344
abbrev m_rc (g : mG) : Int → Int := m_ac g 553 0 96
abbrev m_an (g : mG) : Int → Int := m_ac g 44 0 60
-- the words
def m_af (M v b : Int) : Int := (v + b) % M + 1
def m_su (M : Int) (nt : Int → Int) (s v : Int) : Prop := nt s = 0 ∨ (nt s = 2 ↔ v = M)
def m_st (M : Int) (sl : Int → Int) (s u v : Int) : Int := if m_af M u 0 = v then 0 else sl s
def m_sum (f : Int → Int) : Nat → Int
  | 0 => 0
  | n + 1 => m_sum f n + f n
def m_N (nc : Int) (cs : Int → Int) : Int := m_sum cs nc.toNat
/-- how many of the first k finds lie below s -/
def m_cnt (fs : Int → Int) (s : Int) : Nat → Int
  | 0 => 0
  | k + 1 => m_cnt fs s k + (if fs k < s then 1 else 0)
/-- best is the least of f at 1 .. k - 1, and of 1000000 -/
def m_mn (f : Int → Int) (k best : Int) : Prop := best ≤ 1000000 ∧ (∀ u, 1 ≤ u → u < k → best ≤ f u) ∧ (best = 1000000 ∨ ∃ u, 1 ≤ u ∧ u < k ∧ best = f u)
/-- what stands in w where f is b, at 1 .. k, together -/
def m_ws (f w : Int → Int) (b : Int) : Nat → Int
  | 0 => 0
  | k + 1 => m_ws f w b k + (if f (k + 1) = b then w (k + 1) else 0)
def m_fc (M : Int) (sl fo : Int → Int) (s v u : Int) : Int := fo (14 * (s - 1) + u) + m_st M sl s u v
def m_bc (M : Int) (sl ft : Int → Int) (s v u : Int) : Int := ft (14 * (s + 1) + u) + m_st M sl (s + 1) v u
/-- best is the forward cost at (s, v) -/
def m_be (M : Int) (nt sl fo : Int → Int) (s v best : Int) : Prop := (m_su M nt s v → m_mn (m_fc M sl fo s v) (M + 1) best) ∧ (¬ m_su M nt s v → best = 1000000)
/-- its ways, all of them -/
def m_wv (M : Int) (sl fo wt : Int → Int) (s v best : Int) : Int := if best < 1000000 then m_ws (m_fc M sl fo s v) (fun u => wt (14 * (s - 1) + u)) best M.toNat else 0
def m_lim (x : Int) : Int := if x ≤ 999999 then x else 999999
def m_fe (M : Int) (nt sl fo wt : Int → Int) (s v : Int) : Prop := m_be M nt sl fo s v (fo (14 * s + v)) ∧ wt (14 * s + v) = m_lim (m_wv M sl fo wt s v (fo (14 * s + v)))
def m_bg (M F : Int) (nt : Int → Int) (N fr v : Int) : Prop := 0 < N ∧ m_su M nt 0 v ∧ (fr = 1 ∨ v = F)
def m_r0 (M F : Int) (nt : Int → Int) (N fr : Int) (fo : Int → Int) (v : Int) : Prop := (m_bg M F nt N fr v → fo v = 0) ∧ (¬ m_bg M F nt N fr v → fo v = 1000000)
def m_rw (fo wt : Int → Int) (v : Int) : Prop := wt v = if fo v < 1000000 then 1 else 0
def m_ae (M : Int) (nt sl : Int → Int) (N : Int) (ft : Int → Int) (s v best : Int) : Prop := (¬ m_su M nt s v → best = 1000000) ∧ (m_su M nt s v → s + 1 = N → best = 0) ∧ (m_su M nt s v → s + 1 < N → m_mn (m_bc M sl ft s v) (M + 1) best)
def m_R0 (M F : Int) (nt : Int → Int) (N fr : Int) (fo wt : Int → Int) (v : Int) : Prop := ∀ v', 1 ≤ v' → v' < v → m_r0 M F nt N fr fo v' ∧ m_rw fo wt v'
def m_FA (M F : Int) (nt sl : Int → Int) (N fr : Int) (fo wt : Int → Int) (s v : Int) : Prop := m_R0 M F nt N fr fo wt (M + 1) ∧ ∀ s' v', 1 ≤ s' → s' ≤ 95 → 1 ≤ v' → v' ≤ M → (s' < s ∨ (s' = s ∧ v' < v)) → m_fe M nt sl fo wt s' v'
def m_FD (M F : Int) (nt sl : Int → Int) (N fr : Int) (fo wt : Int → Int) : Prop := m_R0 M F nt N fr fo wt (M + 1) ∧ ∀ s' v', 1 ≤ s' → s' < N → 1 ≤ v' → v' ≤ M → m_fe M nt sl fo wt s' v'
def m_AA (M : Int) (nt sl : Int → Int) (N : Int) (ft : Int → Int) (s v : Int) : Prop := ∀ s' v', 0 ≤ s' → s' < N → 1 ≤ v' → v' ≤ M → (s < s' ∨ (s' = s ∧ v' < v)) → m_ae M nt sl N ft s' v' (ft (14 * s' + v'))
def m_on (fo ft : Int → Int) (ls s v : Int) : Prop := fo (14 * s + v) + ft (14 * s + v) = ls
def m_M1 (M F : Int) (nt sl : Int → Int) (N fr : Int) (fo ft wt : Int → Int) (ls : Int) : Prop := m_FD M F nt sl N fr fo wt ∧ m_AA M nt sl N ft (-1) 1 ∧ m_mn (fun v => fo v + ft v) (M + 1) ls ∧ ls < 1000000
def m_nw (N M ls : Int) (fo wt : Int → Int) (k : Nat) : Int := m_ws (fun v => fo (14 * (N - 1) + v)) (fun v => wt (14 * (N - 1) + v)) ls k
/-- f at v, v + 1 .., k of them -/
def m_tl (f : Int → Int) (v : Int) : Nat → Int
  | 0 => 0
  | k + 1 => f v + m_tl f (v + 1) k
/-- from u at the row ahead to v at row s -/
def m_ok (M : Int) (sl fo ft : Int → Int) (ls s u v : Int) : Bool := decide (fo (14 * s + v) + ft (14 * s + v) = ls) && (decide (s ≤ 0) || decide (fo (14 * (s - 1) + u) + m_st M sl s u v = fo (14 * s + v)))
/-- in how many ways it goes on at row s, k rows from there on, behind u -/
def m_C (M : Int) (sl fo ft : Int → Int) (ls : Int) : Nat → Int → Int → Int
  | 0, _, _ => 1
  | k + 1, s, u => m_tl (fun v => bif m_ok M sl fo ft ls s u v then m_C M sl fo ft ls k (s + 1) v else 0) 1 M.toNat
/-- those from v on at row s -/
def m_lv (M : Int) (sl fo ft : Int → Int) (ls N s u v : Int) : Int := if s = N then (if v ≤ 1 then 1 else 0) else m_tl (fun v => bif m_ok M sl fo ft ls s u v then m_C M sl fo ft ls (N - s - 1).toNat (s + 1) v else 0) v (M + 1 - v).toNat
/-- and those from the next ones on at the rows ahead; X has the counts there, by 14 -/
def m_rest (M : Int) (sl fo ft : Int → Int) (ls N : Int) : Nat → Int → Int → Int
  | 0, v, _ => m_lv M sl fo ft ls N 0 0 v
  | s + 1, v, X => m_lv M sl fo ft ls N (s + 1) (X % 14) v + m_rest M sl fo ft ls N s (X % 14 + 1) (X / 14)
def m_dg (rc : Int → Int) : Nat → Int → Prop
  | 0, X => X = 0
  | n + 1, X => X % 14 = rc n ∧ m_dg rc n (X / 14)
-- the facts by number
def p_LD (fs : Int → Int) (x : Int) : Prop := ∃ z k, x = z + 128 * k ∧ 0 ≤ z ∧ z ≤ 127 ∧ 0 ≤ k ∧ (k < 8 → fs k = z)
def p_FI (nf : Int) (fs : Int → Int) (x : Int) : Prop := ∃ k s, x = k + 16 * s ∧ 0 ≤ k ∧ k ≤ 15 ∧ 0 ≤ s ∧ k < nf ∧ fs k = s
def p_YN (nf : Int) (fs : Int → Int) (x : Int) : Prop := ∃ n s, x = n + 16 * s ∧ 0 ≤ n ∧ n ≤ 15 ∧ 0 ≤ s ∧ n ≤ m_cnt fs s nf.toNat
def p_AT (an : Int → Int) (x : Int) : Prop := ∃ z i, x = z + 1 + 128 * i ∧ 0 ≤ z + 1 ∧ z + 1 ≤ 100 ∧ 0 ≤ i ∧ i < 60 ∧ an i = z
def p_AF (M : Int) (x : Int) : Prop := ∃ r b v, x = r + 16 * b + 256 * v ∧ 0 ≤ r ∧ r ≤ 15 ∧ 0 ≤ b ∧ b ≤ 15 ∧ 0 ≤ v ∧ v ≤ 15 ∧ r = m_af M v b
def p_NT (nt : Int → Int) (x : Int) : Prop := ∃ z s, x = z + 4 * s ∧ 0 ≤ z ∧ z ≤ 3 ∧ 0 ≤ s ∧ s ≤ 95 ∧ nt s = z
def p_SU (M : Int) (nt : Int → Int) (x : Int) : Prop := ∃ r v s, x = r + 2 * v + 32 * s ∧ 0 ≤ r ∧ r ≤ 1 ∧ 0 ≤ v ∧ v ≤ 15 ∧ 0 ≤ s ∧ s ≤ 95 ∧ (r = 1 ↔ m_su M nt s v)
def p_SL (sl : Int → Int) (x : Int) : Prop := ∃ z s, x = z + 16 * s ∧ 0 ≤ z ∧ z ≤ 9 ∧ 0 ≤ s ∧ s ≤ 95 ∧ sl s = z
def p_ST (M : Int) (sl : Int → Int) (x : Int) : Prop := ∃ t v u s, x = t + 16 * v + 256 * u + 4096 * s ∧ 0 ≤ t ∧ t ≤ 15 ∧ 0 ≤ v ∧ v ≤ 15 ∧ 0 ≤ u ∧ u ≤ 15 ∧ 0 ≤ s ∧ s ≤ 95 ∧ t = m_st M sl s u v
def p_FO (fo : Int → Int) (x : Int) : Prop := ∃ z i, x = z + 2097152 * i ∧ 0 ≤ z ∧ z ≤ 1000000 ∧ 0 ≤ i ∧ i ≤ 1343 ∧ fo i = z
def p_FT (ft : Int → Int) (x : Int) : Prop := ∃ z i, x = z + 2097152 * i ∧ 0 ≤ z ∧ z ≤ 1000000 ∧ 0 ≤ i ∧ i ≤ 1343 ∧ ft i = z
def p_ON (fo : Int → Int) (ft : Int → Int) (ls : Int) (x : Int) : Prop := ∃ r v s, x = r + 2 * v + 32 * s ∧ 0 ≤ r ∧ r ≤ 1 ∧ 0 ≤ v ∧ v ≤ 13 ∧ 0 ≤ s ∧ s ≤ 95 ∧ (r = 1 ↔ m_on fo ft ls s v)
def p_PS (cs : Int → Int) (x : Int) : Prop := ∃ n k, x = n + 4096 * k ∧ 0 ≤ n ∧ n ≤ 96 ∧ 0 ≤ k ∧ k ≤ 6 ∧ n = m_sum cs k.toNat
def p_NS (nc : Int) (cs : Int → Int) (x : Int) : Prop := x = m_N nc cs
def p_BM (M : Int) (nt : Int → Int) (sl : Int → Int) (fo : Int → Int) (x : Int) : Prop := ∃ b u v s, x = b + 2097152 * u + 33554432 * v + 536870912 * s ∧ 0 ≤ b ∧ b < 2097152 ∧ 1 ≤ u ∧ u ≤ M + 1 ∧ 1 ≤ v ∧ v ≤ M ∧ 1 ≤ s ∧ s ≤ 95 ∧ m_mn (m_fc M sl fo s v) u b ∧ (2 ≤ u → m_su M nt s v)
def p_BE (M : Int) (nt : Int → Int) (sl : Int → Int) (fo : Int → Int) (x : Int) : Prop := ∃ b v s, x = b + 2097152 * v + 33554432 * s ∧ 0 ≤ b ∧ b ≤ 1000000 ∧ 1 ≤ v ∧ v ≤ M ∧ 1 ≤ s ∧ s ≤ 95 ∧ m_be M nt sl fo s v b
def p_R0 (M : Int) (F : Int) (nt : Int → Int) (nc : Int) (cs : Int → Int) (fo : Int → Int) (wt : Int → Int) (x : Int) : Prop := ∃ v r, x = v + 16 * r ∧ 1 ≤ v ∧ v ≤ M + 1 ∧ 0 ≤ r ∧ r ≤ 1 ∧ m_R0 M F nt (m_N nc cs) r fo wt v
def p_RA (M : Int) (F : Int) (nt : Int → Int) (nc : Int) (cs : Int → Int) (fo : Int → Int) (wt : Int → Int) (x : Int) : Prop := ∃ v r b, x = v + 16 * r + 32 * b ∧ 1 ≤ v ∧ v ≤ M ∧ 0 ≤ r ∧ r ≤ 1 ∧ 0 ≤ b ∧ b ≤ 1 ∧ m_R0 M F nt (m_N nc cs) r fo wt v ∧ m_r0 M F nt (m_N nc cs) r fo v ∧ fo v = (if b = 1 then 0 else 1000000)
def p_FA (M : Int) (F : Int) (nt : Int → Int) (sl : Int → Int) (nc : Int) (cs : Int → Int) (fo : Int → Int) (wt : Int → Int) (x : Int) : Prop := ∃ v s r, x = v + 16 * s + 2048 * r ∧ 1 ≤ v ∧ v ≤ M + 1 ∧ 1 ≤ s ∧ s ≤ 96 ∧ 0 ≤ r ∧ r ≤ 1 ∧ m_FA M F nt sl (m_N nc cs) r fo wt s v
def p_FB (M : Int) (F : Int) (nt : Int → Int) (sl : Int → Int) (nc : Int) (cs : Int → Int) (fo : Int → Int) (wt : Int → Int) (x : Int) : Prop := ∃ w v s r, x = w + 16777216 * v + 268435456 * s + 68719476736 * r ∧ 0 ≤ w ∧ w < 16777216 ∧ 1 ≤ v ∧ v ≤ M ∧ 1 ≤ s ∧ s ≤ 95 ∧ 0 ≤ r ∧ r ≤ 1 ∧ m_FA M F nt sl (m_N nc cs) r fo wt s v ∧ m_be M nt sl fo s v (fo (14 * s + v)) ∧ w = m_wv M sl fo wt s v (fo (14 * s + v))
def p_FD (M : Int) (F : Int) (nt : Int → Int) (sl : Int → Int) (nc : Int) (cs : Int → Int) (fo : Int → Int) (wt : Int → Int) (x : Int) : Prop := 0 ≤ x ∧ x ≤ 1 ∧ m_FD M F nt sl (m_N nc cs) x fo wt
def p_WT (wt : Int → Int) (x : Int) : Prop := ∃ z i, x = z + 1048576 * i ∧ 0 ≤ z ∧ z ≤ 999999 ∧ 0 ≤ i ∧ i ≤ 1343 ∧ wt i = z
def p_BW (M : Int) (nt : Int → Int) (sl : Int → Int) (fo : Int → Int) (wt : Int → Int) (x : Int) : Prop := ∃ w u v s b, x = w + 16777216 * u + 268435456 * v + 4294967296 * s + 1099511627776 * b ∧ 0 ≤ w ∧ w < 16777216 ∧ 1 ≤ u ∧ u ≤ M + 1 ∧ 1 ≤ v ∧ v ≤ M ∧ 1 ≤ s ∧ s ≤ 95 ∧ 0 ≤ b ∧ b ≤ 1000000 ∧ m_be M nt sl fo s v b ∧ (2 ≤ u → b < 1000000) ∧ w = m_ws (m_fc M sl fo s v) (fun q => wt (14 * (s - 1) + q)) b (u - 1).toNat
def p_WE (M : Int) (nt : Int → Int) (sl : Int → Int) (fo : Int → Int) (wt : Int → Int) (x : Int) : Prop := ∃ w v s b, x = w + 16777216 * v + 268435456 * s + 68719476736 * b ∧ 0 ≤ w ∧ w < 16777216 ∧ 1 ≤ v ∧ v ≤ M ∧ 1 ≤ s ∧ s ≤ 95 ∧ 0 ≤ b ∧ b ≤ 1000000 ∧ m_be M nt sl fo s v b ∧ w = m_wv M sl fo wt s v b
def p_AM (M : Int) (nt : Int → Int) (sl : Int → Int) (nc : Int) (cs : Int → Int) (ft : Int → Int) (x : Int) : Prop := ∃ b u v s, x = b + 2097152 * u + 33554432 * v + 536870912 * s ∧ 0 ≤ b ∧ b < 2097152 ∧ 1 ≤ u ∧ u ≤ M + 1 ∧ 1 ≤ v ∧ v ≤ M ∧ 0 ≤ s ∧ s ≤ 95 ∧ b ≤ 1000000 ∧ (¬ m_su M nt s v → b = 1000000 ∧ u = 1) ∧ (m_su M nt s v → s + 1 = m_N nc cs → b = 0 ∧ u = 1) ∧ (m_su M nt s v → s + 1 < m_N nc cs → m_mn (m_bc M sl ft s v) u b)
def p_AN (M : Int) (nt : Int → Int) (sl : Int → Int) (nc : Int) (cs : Int → Int) (ft : Int → Int) (x : Int) : Prop := ∃ b v s, x = b + 2097152 * v + 33554432 * s ∧ 0 ≤ b ∧ b ≤ 1000000 ∧ 1 ≤ v ∧ v ≤ M ∧ 0 ≤ s ∧ s ≤ 95 ∧ m_ae M nt sl (m_N nc cs) ft s v b
def p_AA (M : Int) (nt : Int → Int) (sl : Int → Int) (nc : Int) (cs : Int → Int) (ft : Int → Int) (x : Int) : Prop := ∃ v s, x = v + 16 * (s + 1) ∧ 1 ≤ v ∧ v ≤ M + 1 ∧ -1 ≤ s ∧ s ≤ 95 ∧ m_AA M nt sl (m_N nc cs) ft s v
def p_AD (M : Int) (nt : Int → Int) (sl : Int → Int) (nc : Int) (cs : Int → Int) (ft : Int → Int) (x : Int) : Prop := m_AA M nt sl (m_N nc cs) ft (-1) 1
def p_LM (M : Int) (nc : Int) (cs : Int → Int) (fo : Int → Int) (ft : Int → Int) (x : Int) : Prop := ∃ l v, x = l + 2097152 * v ∧ 0 ≤ l ∧ l ≤ 1000000 ∧ (m_N nc cs ≤ 0 ∨ 1 ≤ v ∧ v ≤ M + 1 ∧ m_mn (fun q => fo q + ft q) v l)
def p_M1 (M : Int) (F : Int) (nt : Int → Int) (sl : Int → Int) (nc : Int) (cs : Int → Int) (fo : Int → Int) (ft : Int → Int) (wt : Int → Int) (ls : Int) (x : Int) : Prop := 0 ≤ x ∧ x ≤ 1 ∧ (m_N nc cs ≤ 0 ∨ m_M1 M F nt sl (m_N nc cs) x fo ft wt ls)
def p_NW (M : Int) (nc : Int) (cs : Int → Int) (fo : Int → Int) (wt : Int → Int) (ls : Int) (x : Int) : Prop := ∃ n v, x = n + 16777216 * v ∧ 0 ≤ n ∧ n < 16777216 ∧ 1 ≤ v ∧ v ≤ M + 1 ∧ 1 ≤ m_N nc cs ∧ n = m_nw (m_N nc cs) M ls fo wt (v - 1).toNat
def p_M2 (M : Int) (nc : Int) (cs : Int → Int) (fo : Int → Int) (wt : Int → Int) (ls : Int) (x : Int) : Prop := m_N nc cs ≤ 0 ∨ x = m_lim (m_nw (m_N nc cs) M ls fo wt M.toNat)
def p_NO (M : Int) (nc : Int) (cs : Int → Int) (fo : Int → Int) (ft : Int → Int) (ls : Int) (x : Int) : Prop := m_N nc cs ≤ 0 ∨ ∀ v, 1 ≤ v → v ≤ M → v < x → ¬ m_on fo ft ls 0 v
def p_OP (M : Int) (nc : Int) (cs : Int → Int) (fo : Int → Int) (ft : Int → Int) (ls : Int) (x : Int) : Prop := ∃ v s, x = v + 16 * s ∧ 0 ≤ v ∧ v ≤ 15 ∧ 1 ≤ s ∧ (m_N nc cs ≤ 0 ∨ 1 ≤ v ∧ v ≤ M ∧ m_on fo ft ls (s - 1) v)
def p_NB (M : Int) (sl : Int → Int) (fo : Int → Int) (ft : Int → Int) (ls : Int) (x : Int) : Prop := ∃ b v s, x = b + 16 * v + 256 * s ∧ 0 ≤ b ∧ b ≤ 15 ∧ 0 ≤ v ∧ v ≤ 15 ∧ 1 ≤ s ∧ ∀ c, 0 ≤ c → c < b → ¬ (m_on fo ft ls s (m_af M v c) ∧ fo (14 * (s - 1) + v) + m_st M sl s v (m_af M v c) = fo (14 * s + m_af M v c))
def p_OA (M : Int) (fo : Int → Int) (ft : Int → Int) (ls : Int) (x : Int) : Prop := ∃ b v s, x = b + 16 * v + 256 * s ∧ 0 ≤ b ∧ b ≤ 15 ∧ 0 ≤ v ∧ v ≤ 15 ∧ m_on fo ft ls s (m_af M v b)
def p_FP (fo : Int → Int) (x : Int) : Prop := ∃ z i, x = z + 2097152 * i ∧ 0 ≤ z ∧ z ≤ 1000000 ∧ 0 ≤ i ∧ i ≤ 1343 ∧ fo i = z
def p_SV (M : Int) (sl : Int → Int) (fo : Int → Int) (x : Int) : Prop := ∃ y b v s, x = y + 2097152 * b + 33554432 * v + 536870912 * s ∧ 0 ≤ y ∧ y < 2097152 ∧ 0 ≤ b ∧ b ≤ 15 ∧ 0 ≤ v ∧ v ≤ 15 ∧ y = fo (14 * (s - 1) + v) + m_st M sl s v (m_af M v b)
def p_RC (rc : Int → Int) (x : Int) : Prop := ∃ z i, x = z + 16 * i ∧ 0 ≤ z ∧ z ≤ 13 ∧ 0 ≤ i ∧ i ≤ 95 ∧ rc i = z
def p_RD (rc : Int → Int) (x : Int) : Prop := ∃ z i, x = z + 16 * i ∧ 0 ≤ z ∧ z ≤ 13 ∧ 0 ≤ i ∧ i ≤ 95 ∧ rc i = z
def p_XX (x : Int) : Prop := True
def p_XO (x : Int) : Prop := True
def p_PX (rc : Int → Int) (x : Int) : Prop := ∃ s X, x = s + 128 * X ∧ 0 ≤ s ∧ s ≤ 96 ∧ 0 ≤ X ∧ m_dg rc s.toNat X
def p_QQ (M : Int) (sl : Int → Int) (nc : Int) (cs : Int → Int) (fo : Int → Int) (ft : Int → Int) (ls : Int) (x : Int) : Prop := ∃ v s r X, x = v + 16 * s + 2048 * r + 1048576 * X ∧ 0 ≤ v ∧ v ≤ 15 ∧ 0 ≤ s ∧ s ≤ 96 ∧ 0 ≤ r ∧ r ≤ 511 ∧ 0 ≤ X ∧ 1 ≤ m_N nc cs ∧ s ≤ m_N nc cs ∧ r + m_rest M sl fo ft ls (m_N nc cs) s.toNat v X ≤ 12
abbrev m_b0 (g : mG) : Int → Int := m_ac g 467 0 60
abbrev m_b1 (g : mG) : Int → Int := m_ac g 469 0 60
abbrev m_b2 (g : mG) : Int → Int := m_ac g 471 0 60
abbrev m_b3 (g : mG) : Int → Int := m_ac g 473 0 60
abbrev m_nn (g : mG) : Int → Int := m_ac g 537 0 240
/-- one of four -/
def m_sel {α : Type} (a0 a1 a2 a3 : α) (v : Int) : α := if v = 0 then a0 else if v = 1 then a1 else if v = 2 then a2 else a3
def m_rg (l0 l1 l2 l3 : Int) : Prop := 0 ≤ l0 ∧ l0 ≤ 60 ∧ 0 ≤ l1 ∧ l1 ≤ 60 ∧ 0 ≤ l2 ∧ l2 ≤ 60 ∧ 0 ≤ l3 ∧ l3 ≤ 60
/-- the first numbers of each tray are the same, where E -/
def m_Q (a0 a1 a2 a3 nn : Int → Int) (l0 l1 l2 l3 : Int) (E : Int → Int → Prop) : Prop := ∀ v q, 0 ≤ v → v ≤ 3 → 0 ≤ q → q < m_sel l0 l1 l2 l3 v → E v q → m_sel a0 a1 a2 a3 v q = nn (60 * v + q)
def m_w8 (v : Int) : Int := (v + 128) % 256 - 128
def m_w16 (v : Int) : Int := (v + 32768) % 65536 - 32768
def m_w32 (v : Int) : Int := (v + 2147483648) % 4294967296 - 2147483648
def p_TQ (a0 : Int → Int) (a1 : Int → Int) (a2 : Int → Int) (a3 : Int → Int) (nn : Int → Int) (x : Int) : Prop := ∃ l0 l1 l2 l3, x = l0 + 64 * l1 + 4096 * l2 + 262144 * l3 ∧ m_rg l0 l1 l2 l3 ∧ m_Q a0 a1 a2 a3 nn l0 l1 l2 l3 (fun _ _ => True)
def p_XW (x : Int) : Prop := True
def p_LI (x : Int) : Prop := ∃ v y, x = v + 9223372036854775808 + 18446744073709551616 * (y + 2147483648) ∧ 0 ≤ v + 9223372036854775808 ∧ v < 9223372036854775808 ∧ y = m_w32 v
def p_CV0 (x : Int) : Prop := ∃ v z, x = v + 9223372036854775808 + 18446744073709551616 * (z + 9223372036854775808) ∧ 0 ≤ v + 9223372036854775808 ∧ v < 9223372036854775808 ∧ z = m_w8 v
def p_CV1 (x : Int) : Prop := ∃ v z, x = v + 9223372036854775808 + 18446744073709551616 * (z + 9223372036854775808) ∧ 0 ≤ v + 9223372036854775808 ∧ v < 9223372036854775808 ∧ z = m_w16 v
def p_CV2 (x : Int) : Prop := ∃ v z, x = v + 9223372036854775808 + 18446744073709551616 * (z + 9223372036854775808) ∧ 0 ≤ v + 9223372036854775808 ∧ v < 9223372036854775808 ∧ z = m_w32 v
def p_CR0 (x : Int) : Prop := ∃ v z, x = v + 9223372036854775808 + 18446744073709551616 * (z + 9223372036854775808) ∧ 0 ≤ v + 9223372036854775808 ∧ v < 9223372036854775808 ∧ z = m_w8 v
def p_CR1 (x : Int) : Prop := ∃ v z, x = v + 9223372036854775808 + 18446744073709551616 * (z + 9223372036854775808) ∧ 0 ≤ v + 9223372036854775808 ∧ v < 9223372036854775808 ∧ z = m_w16 v
def p_CR2 (x : Int) : Prop := ∃ v z, x = v + 9223372036854775808 + 18446744073709551616 * (z + 9223372036854775808) ∧ 0 ≤ v + 9223372036854775808 ∧ v < 9223372036854775808 ∧ z = m_w32 v
def p_TE0 (a1 : Int → Int) (a2 : Int → Int) (a3 : Int → Int) (nn : Int → Int) (x : Int) : Prop := ∃ l1 l2 l3, x = 64 * l1 + 4096 * l2 + 262144 * l3 ∧ m_rg 0 l1 l2 l3 ∧ m_Q (fun _ => 0) a1 a2 a3 nn 0 l1 l2 l3 (fun _ _ => True)
def p_TZ0 (a0 : Int → Int) (x : Int) : Prop := ∀ i, 0 ≤ i → i < x → i < 60 → a0 i = 0
def p_TM0 (nn : Int → Int) (x : Int) : Prop := ∀ i, 0 ≤ i → i < x → i < 60 → nn (0 + i) = 0
def p_EX0 (a0 : Int → Int) (a1 : Int → Int) (a2 : Int → Int) (a3 : Int → Int) (nn : Int → Int) (x : Int) : Prop := ∃ l0 l1 l2 l3 p w, x = l0 + 64 * l1 + 4096 * l2 + 262144 * l3 + 16777216 * p + 1073741824 * (w + 9223372036854775808) ∧ m_rg l0 l1 l2 l3 ∧ 0 ≤ p ∧ p ≤ 59 ∧ 0 ≤ w + 9223372036854775808 ∧ m_Q a0 a1 a2 a3 nn l0 l1 l2 l3 (fun v q => v ≠ 0 ∨ q ≠ p) ∧ a0 p = w
def p_NV0 (a0 : Int → Int) (x : Int) : Prop := ∃ p z, x = p + 64 * (z + 9223372036854775808) ∧ 0 ≤ p ∧ p ≤ 59 ∧ 0 ≤ z + 9223372036854775808 ∧ a0 p = z
def p_TE1 (a0 : Int → Int) (a2 : Int → Int) (a3 : Int → Int) (nn : Int → Int) (x : Int) : Prop := ∃ l0 l2 l3, x = l0 + 4096 * l2 + 262144 * l3 ∧ m_rg l0 0 l2 l3 ∧ m_Q a0 (fun _ => 0) a2 a3 nn l0 0 l2 l3 (fun _ _ => True)
def p_TZ1 (a1 : Int → Int) (x : Int) : Prop := ∀ i, 0 ≤ i → i < x → i < 60 → a1 i = 0
def p_TM1 (nn : Int → Int) (x : Int) : Prop := ∀ i, 0 ≤ i → i < x → i < 60 → nn (60 + i) = 0
def p_EX1 (a0 : Int → Int) (a1 : Int → Int) (a2 : Int → Int) (a3 : Int → Int) (nn : Int → Int) (x : Int) : Prop := ∃ l0 l1 l2 l3 p w, x = l0 + 64 * l1 + 4096 * l2 + 262144 * l3 + 16777216 * p + 1073741824 * (w + 9223372036854775808) ∧ m_rg l0 l1 l2 l3 ∧ 0 ≤ p ∧ p ≤ 59 ∧ 0 ≤ w + 9223372036854775808 ∧ m_Q a0 a1 a2 a3 nn l0 l1 l2 l3 (fun v q => v ≠ 1 ∨ q ≠ p) ∧ a1 p = w
def p_NV1 (a1 : Int → Int) (x : Int) : Prop := ∃ p z, x = p + 64 * (z + 9223372036854775808) ∧ 0 ≤ p ∧ p ≤ 59 ∧ 0 ≤ z + 9223372036854775808 ∧ a1 p = z
def p_TE2 (a0 : Int → Int) (a1 : Int → Int) (a3 : Int → Int) (nn : Int → Int) (x : Int) : Prop := ∃ l0 l1 l3, x = l0 + 64 * l1 + 262144 * l3 ∧ m_rg l0 l1 0 l3 ∧ m_Q a0 a1 (fun _ => 0) a3 nn l0 l1 0 l3 (fun _ _ => True)
def p_TZ2 (a2 : Int → Int) (x : Int) : Prop := ∀ i, 0 ≤ i → i < x → i < 60 → a2 i = 0
def p_TM2 (nn : Int → Int) (x : Int) : Prop := ∀ i, 0 ≤ i → i < x → i < 60 → nn (120 + i) = 0
def p_EX2 (a0 : Int → Int) (a1 : Int → Int) (a2 : Int → Int) (a3 : Int → Int) (nn : Int → Int) (x : Int) : Prop := ∃ l0 l1 l2 l3 p w, x = l0 + 64 * l1 + 4096 * l2 + 262144 * l3 + 16777216 * p + 1073741824 * (w + 9223372036854775808) ∧ m_rg l0 l1 l2 l3 ∧ 0 ≤ p ∧ p ≤ 59 ∧ 0 ≤ w + 9223372036854775808 ∧ m_Q a0 a1 a2 a3 nn l0 l1 l2 l3 (fun v q => v ≠ 2 ∨ q ≠ p) ∧ a2 p = w
def p_NV2 (a2 : Int → Int) (x : Int) : Prop := ∃ p z, x = p + 64 * (z + 9223372036854775808) ∧ 0 ≤ p ∧ p ≤ 59 ∧ 0 ≤ z + 9223372036854775808 ∧ a2 p = z
def p_TE3 (a0 : Int → Int) (a1 : Int → Int) (a2 : Int → Int) (nn : Int → Int) (x : Int) : Prop := ∃ l0 l1 l2, x = l0 + 64 * l1 + 4096 * l2 ∧ m_rg l0 l1 l2 0 ∧ m_Q a0 a1 a2 (fun _ => 0) nn l0 l1 l2 0 (fun _ _ => True)
def p_TZ3 (a3 : Int → Int) (x : Int) : Prop := ∀ i, 0 ≤ i → i < x → i < 60 → a3 i = 0
def p_TM3 (nn : Int → Int) (x : Int) : Prop := ∀ i, 0 ≤ i → i < x → i < 60 → nn (180 + i) = 0
def p_EX3 (a0 : Int → Int) (a1 : Int → Int) (a2 : Int → Int) (a3 : Int → Int) (nn : Int → Int) (x : Int) : Prop := ∃ l0 l1 l2 l3 p w, x = l0 + 64 * l1 + 4096 * l2 + 262144 * l3 + 16777216 * p + 1073741824 * (w + 9223372036854775808) ∧ m_rg l0 l1 l2 l3 ∧ 0 ≤ p ∧ p ≤ 59 ∧ 0 ≤ w + 9223372036854775808 ∧ m_Q a0 a1 a2 a3 nn l0 l1 l2 l3 (fun v q => v ≠ 3 ∨ q ≠ p) ∧ a3 p = w
def p_NV3 (a3 : Int → Int) (x : Int) : Prop := ∃ p z, x = p + 64 * (z + 9223372036854775808) ∧ 0 ≤ p ∧ p ≤ 59 ∧ 0 ≤ z + 9223372036854775808 ∧ a3 p = z
def p_NL (nn : Int → Int) (x : Int) : Prop := ∃ q z, x = q + 256 * (z + 9223372036854775808) ∧ 0 ≤ q ∧ q ≤ 239 ∧ 0 ≤ z + 9223372036854775808 ∧ nn q = z
/-- what is poured: from .. to .. of u's numbers are t's still, in the reference's -/
def m_pp (a0 a1 a2 a3 nn : Int → Int) (l0 l1 l2 l3 i j t u lo hi : Int) : Prop := m_Q a0 a1 a2 a3 nn l0 l1 l2 l3 (fun v q => ¬ (v = u ∧ lo ≤ q ∧ q < hi)) ∧ ∀ q, lo ≤ q → q < hi → m_sel a0 a1 a2 a3 u q = nn (60 * t + i + q - j)
def p_PP (a0 : Int → Int) (a1 : Int → Int) (a2 : Int → Int) (a3 : Int → Int) (nn : Int → Int) (x : Int) : Prop := ∃ l0 l1 l2 l3 i j m t u, x = l0 + 64 * l1 + 4096 * l2 + 262144 * l3 + 16777216 * i + 1073741824 * j + 68719476736 * m + 4398046511104 * t + 17592186044416 * u ∧ m_rg l0 l1 l2 l3 ∧ 0 ≤ i ∧ 0 ≤ j ∧ 0 ≤ m ∧ 0 ≤ t ∧ t ≤ 3 ∧ 0 ≤ u ∧ u ≤ 3 ∧ i + m ≤ m_sel l0 l1 l2 l3 t ∧ j + m ≤ m_sel l0 l1 l2 l3 u ∧ m_pp a0 a1 a2 a3 nn l0 l1 l2 l3 i j t u j (j + m)
def p_GA (a0 : Int → Int) (a1 : Int → Int) (a2 : Int → Int) (a3 : Int → Int) (nn : Int → Int) (x : Int) : Prop := ∃ l0 l1 l2 l3 i j m t u k, x = l0 + 64 * l1 + 4096 * l2 + 262144 * l3 + 16777216 * i + 1073741824 * j + 68719476736 * m + 4398046511104 * t + 17592186044416 * u + 70368744177664 * k ∧ m_rg l0 l1 l2 l3 ∧ 0 ≤ i ∧ 0 ≤ j ∧ 0 ≤ m ∧ 0 ≤ t ∧ t ≤ 3 ∧ 0 ≤ u ∧ u ≤ 3 ∧ i + m ≤ m_sel l0 l1 l2 l3 t ∧ j + m ≤ m_sel l0 l1 l2 l3 u ∧ 0 ≤ k ∧ k ≤ m ∧ j ≤ i ∧ m_pp a0 a1 a2 a3 nn l0 l1 l2 l3 i j t u (j + k) (j + m)
def p_GD (a0 : Int → Int) (a1 : Int → Int) (a2 : Int → Int) (a3 : Int → Int) (nn : Int → Int) (x : Int) : Prop := ∃ l0 l1 l2 l3 i j m t u k, x = l0 + 64 * l1 + 4096 * l2 + 262144 * l3 + 16777216 * i + 1073741824 * j + 68719476736 * m + 4398046511104 * t + 17592186044416 * u + 70368744177664 * k ∧ m_rg l0 l1 l2 l3 ∧ 0 ≤ i ∧ 0 ≤ j ∧ 0 ≤ m ∧ 0 ≤ t ∧ t ≤ 3 ∧ 0 ≤ u ∧ u ≤ 3 ∧ i + m ≤ m_sel l0 l1 l2 l3 t ∧ j + m ≤ m_sel l0 l1 l2 l3 u ∧ 0 ≤ k ∧ k ≤ m ∧ i < j ∧ m_pp a0 a1 a2 a3 nn l0 l1 l2 l3 i j t u j (j + m - k)
-- 5209p.mean: what the facts of the texts mean: tokens, the machine over them, both pictures of a wall
def m_bl (z : Int) : Bool := decide (z = 10) || decide (z = 32)
def m_le (z : Int) : Bool := decide (97 ≤ z) && decide (z ≤ 122)
def m_di (z : Int) : Bool := decide (48 ≤ z) && decide (z ≤ 57)
def m_sgz (z : Int) : Bool := decide (59 ≤ z) && decide (z ≤ 62)
/-- the end of a run from q on -/
def m_end (P : Int → Bool) (b : Int → Int) (n : Int) : Nat → Int → Int
  | 0, q => q
  | k + 1, q => if q < n ∧ P (b q) = true then m_end P b n k (q + 1) else q
def m_sk (b : Int → Int) (n e : Int) : Int := m_end m_bl b n 1000 e
def m_te (b : Int → Int) (n s : Int) : Int := if n ≤ s then s else if m_le (b s) = true then m_end m_le b n 1000 s else if m_di (b s) = true then m_end m_di b n 1000 s else s + 1
/-- 0 the end, 1 no token, 2 a word, 3 a number, 4 a sign -/
def m_kd (b : Int → Int) (n s : Int) : Int := if n ≤ s then 0 else if m_le (b s) = true then 2 else if m_di (b s) = true then (if 4 < m_te b n s - s then 1 else 3) else if m_sgz (b s) = true then 4 else 1
def m_dv (b : Int → Int) (s : Int) : Nat → Int
  | 0 => 0
  | k + 1 => 10 * m_dv b s k + (b (s + k) - 48)
def m_tv (b : Int → Int) (n s : Int) : Int := m_dv b s (m_te b n s - s).toNat
/-- the code of the first letters -/
def m_wc (b : Int → Int) (s : Int) : Nat → Int
  | 0 => 0
  | k + 1 => 32 * m_wc b s k + (b (s + k) - 96)
def m_cd (b : Int → Int) (n s : Int) : Int := if m_te b n s - s ≤ 8 then m_wc b s (m_te b n s - s).toNat else -1
/-- the token at s is the word of that code -/
def m_wi (b : Int → Int) (n s w : Int) : Prop := m_kd b n s = 2 ∧ m_cd b n s = w
/-- the oath, the first count, courses, masons (lays, costs, where the name stands), slips (at, by), finds (at, year) -/
abbrev mW : Type := Int × Int × List Int × List (Int × Int × Int) × List (Int × Int) × List (Int × Int)
abbrev m_wo (W : mW) : Int := W.1
abbrev m_wf (W : mW) : Int := W.2.1
abbrev m_wcs (W : mW) : List Int := W.2.2.1
abbrev m_wms (W : mW) : List (Int × Int × Int) := W.2.2.2.1
abbrev m_wss (W : mW) : List (Int × Int) := W.2.2.2.2.1
abbrev m_wfs (W : mW) : List (Int × Int) := W.2.2.2.2.2
def m_tot : List Int → Int
  | [] => 0
  | a :: l => a + m_tot l
def m_lst (l : List (Int × Int)) : Int := match l.getLast? with
  | none => 0
  | some q => q.1
/-- stage, place, two registers, where the pending name stands, the wall -/
abbrev mC : Type := Int × Int × Int × Int × Int × mW
/-- goes on; or halts (fault, place); or is done -/
abbrev mO : Type := Sum mC (Sum (Int × Int) mW)
def m_go (st s r1 r2 np : Int) (W : mW) : mO := Sum.inl (st, s, r1, r2, np, W)
def m_ht (f p : Int) : mO := Sum.inr (Sum.inl (f, p))
def m_dn (W : mW) : mO := Sum.inr (Sum.inr W)
def m_mp (b : Int → Int) (n s : Int) : mO := m_ht (if m_kd b n s = 1 then 1 else 2) s
def m_swd (b : Int → Int) (n s w : Int) (o : mO) : mO := if m_kd b n s = 2 ∧ m_cd b n s = w then o else m_mp b n s
def m_snm (b : Int → Int) (n s lo hi : Int) (o : mO) : mO := if m_kd b n s = 3 then (if lo ≤ m_tv b n s ∧ m_tv b n s ≤ hi then o else m_ht 4 s) else m_mp b n s
def m_ssg (b : Int → Int) (n s : Int) (o : mO) : mO := if m_kd b n s = 4 ∧ b s = 59 then o else m_mp b n s
/-- the reserved words, in both orders -/
def m_RS : List Int := [493192, 215533, 117099109, 13684206, 395059, 3657363, 635184, 52, 89, 206276, 824370, 239, 66667, 12008555, 474757, 677454, 762030, 284570103, 218508, 20594117, 15192228, 6605428, 409072, 5572, 643568]
def m_RR : List Int := [493192, 215533, 117099109, 13684206, 395059, 3657363, 635184, 52, 89, 206276, 824370, 239, 66667, 12008555, 474757, 677454, 762030, 409072, 643568, 284570103, 218508, 15192228, 6605428, 20594117, 5572]
def m_ln {α : Type} (l : List α) : Int := (l.length : Int)
/-- some mason has that name -/
def m_tk (b : Int → Int) (n s : Int) (W : mW) : Bool := (m_wms W).any fun x => decide (m_cd b n x.2.2 = m_cd b n s)
def m_nmk (b : Int → Int) (n s : Int) : Bool := decide (m_kd b n s = 2) && (decide (m_te b n s - s ≤ 8) && !(m_RS.any fun w => decide (m_cd b n s = w)))
def m_has (l : List (Int × Int)) (v : Int) : Bool := l.any fun q => decide (q.1 = v)
/-- a part's word -/
def m_prt (b : Int → Int) (n s : Int) (W : mW) : mO :=
  if m_kd b n s = 0 then m_dn W
  else if m_kd b n s = 2 ∧ m_cd b n s = 117099109 then (if 6 ≤ m_ln (m_wcs W) then m_ht 6 s else m_go 6 (m_sk b n (m_te b n s)) 0 0 0 W)
  else if m_kd b n s = 2 ∧ m_cd b n s = 13684206 then (if 4 ≤ m_ln (m_wms W) then m_ht 6 s else m_go 7 (m_sk b n (m_te b n s)) 0 0 0 W)
  else if m_kd b n s = 2 ∧ m_cd b n s = 635184 then (if 6 ≤ m_ln (m_wss W) then m_ht 6 s else m_go 8 (m_sk b n (m_te b n s)) 0 0 0 W)
  else if m_kd b n s = 2 ∧ m_cd b n s = 206276 then (if 8 ≤ m_ln (m_wfs W) then m_ht 6 s else m_go 9 (m_sk b n (m_te b n s)) 0 0 0 W)
  else m_mp b n s
/-- one step of the machine -/
def m_stp (b : Int → Int) (n : Int) (c : mC) : mO :=
  let st := c.1; let s := c.2.1; let r1 := c.2.2.1; let r2 := c.2.2.2.1; let np := c.2.2.2.2.1; let W := c.2.2.2.2.2
  let t := m_sk b n (m_te b n s); let v := m_tv b n s
  if st = 0 then m_swd b n s 493192 (m_go 1 t r1 r2 np W) else
  if st = 1 then m_snm b n s 2 13 (m_go 2 t v 0 np W) else
  if st = 2 then m_swd b n s 215533 (m_go 3 t r1 r2 np W) else
  if st = 3 then m_snm b n s 1 r1 (m_go 4 t r1 v np W) else
  if st = 4 then m_ssg b n s (m_go 5 t 0 0 0 (r1, r2, W.2.2)) else
  if st = 5 then m_prt b n s W else
  if st = 6 then m_snm b n s 1 16 (m_go 10 t v 0 np W) else
  if st = 7 then if m_nmk b n s = true then (if m_tk b n s W = true then m_ht 3 s else m_go 11 t 0 0 s W) else m_mp b n s else
  if st = 8 then m_swd b n s 52 (m_go 15 t r1 r2 np W) else
  if st = 9 then m_swd b n s 52 (m_go 18 t r1 r2 np W) else
  if st = 10 then m_ssg b n s (m_go 5 t 0 0 0 (W.1, W.2.1, m_wcs W ++ [r1], W.2.2.2)) else
  if st = 11 then m_swd b n s 395059 (m_go 12 t r1 r2 np W) else
  if st = 12 then m_snm b n s 1 96 (m_go 13 t v 0 np W) else
  if st = 13 then m_swd b n s 3657363 (m_go 14 t r1 r2 np W) else
  if st = 14 then m_snm b n s 1 9 (m_go 23 t r1 v np W) else
  if st = 15 then m_snm b n s 0 (m_tot (m_wcs W) - 1) (m_go 21 t v s np W) else
  if st = 16 then m_swd b n s 89 (m_go 17 t r1 r2 np W) else
  if st = 17 then m_snm b n s 1 (m_wo W - 1) (m_go 24 t r1 v np W) else
  if st = 18 then m_snm b n s 0 (m_tot (m_wcs W) - 1) (m_go 22 t v s np W) else
  if st = 19 then m_swd b n s 824370 (m_go 20 t r1 r2 np W) else
  if st = 20 then m_snm b n s 0 9999 (m_go 25 t r1 v np W) else
  if st = 21 then if m_lst (m_wss W) < r1 then m_go 16 s r1 0 np W else m_ht 5 r2 else
  if st = 22 then if m_has (m_wfs W) r1 = true then m_ht 5 r2 else m_go 19 s r1 0 np W else
  if st = 23 then m_ssg b n s (m_go 5 t 0 0 0 (W.1, W.2.1, m_wcs W, m_wms W ++ [(r1, r2, np)], W.2.2.2.2)) else
  if st = 24 then m_ssg b n s (m_go 5 t 0 0 0 (W.1, W.2.1, m_wcs W, m_wms W, m_wss W ++ [(r1, r2)], m_wfs W)) else
  if st = 25 then m_ssg b n s (m_go 5 t 0 0 0 (W.1, W.2.1, m_wcs W, m_wms W, m_wss W, m_wfs W ++ [(r1, r2)])) else
  m_dn W
def m_W0 : mW := (0, 0, [], [], [], [])
def m_nxt (b : Int → Int) (n : Int) (o : mO) : mO := match o with
  | Sum.inl c => m_stp b n c
  | Sum.inr r => Sum.inr r
def m_rn (b : Int → Int) (n : Int) : Nat → mO
  | 0 => m_go 0 (m_sk b n 0) 0 0 0 m_W0
  | k + 1 => m_nxt b n (m_rn b n k)
/-- the machine comes to it -/
def m_at (b : Int → Int) (n : Int) (o : mO) : Prop := ∃ k, m_rn b n k = o
/-- its configuration at a place; 26 to 29: a part begins there, with none of the first words -/
def m_cf (b : Int → Int) (n st s r1 r2 np : Int) (W : mW) : Prop :=
  (st ≤ 25 ∧ m_at b n (m_go st s r1 r2 np W)) ∨ (26 ≤ st ∧ r1 = 0 ∧ r2 = 0 ∧ m_at b n (m_go 5 s 0 0 np W) ∧ m_kd b n s ≠ 0 ∧ ¬ m_wi b n s 117099109 ∧ (27 ≤ st → ¬ m_wi b n s 13684206) ∧ (28 ≤ st → ¬ m_wi b n s 635184) ∧ (29 ≤ st → ¬ m_wi b n s 206276))
-- the facts of the texts
/-- stage, place and registers in one number -/
def m_pk (x st s r1 r2 : Int) : Prop := x = s + 1024 * st + 65536 * r1 + 4294967296 * r2 ∧ 0 ≤ s ∧ s ≤ 900 ∧ 0 ≤ st ∧ st ≤ 63 ∧ 0 ≤ r1 ∧ r1 ≤ 65535 ∧ 0 ≤ r2 ∧ r2 ≤ 65535
def m_ci : List Int → Int → Int
  | [], _ => 0
  | a :: l, s => if s < a then 0 else 1 + m_ci l (s - a)
def m_lo : List (Int × Int) → Int → Option Int
  | [], _ => none
  | q :: l, s => match m_lo l s with
    | some v => some v
    | none => if q.1 = s then some q.2 else none
def m_lk (l : List (Int × Int)) (d s : Int) : Int := (m_lo l s).getD d
def m_nx (b : Int → Int) (n e q : Int) : Prop := 0 ≤ e ∧ q = m_sk b n e
def m_tok (b : Int → Int) (n s k q v : Int) : Prop := 0 ≤ s ∧ k = m_kd b n s ∧ q = m_te b n s ∧ (k = 3 → v = m_tv b n s)
def m_tkr (b : Int → Int) (n s k q v l : Int) : Prop := 0 ≤ s ∧ q = m_te b n s ∧ (k = 0 ↔ m_kd b n s = 0) ∧ (k = 1 ↔ m_kd b n s = 2) ∧ (k = 2 ↔ m_kd b n s = 3) ∧ (k = 3 ↔ m_kd b n s = 4) ∧ (k = 4 ↔ m_kd b n s = 1) ∧ (k = 2 → v = m_tv b n s) ∧ (k = 3 → v = b s % 256) ∧ (k = 1 → l = q - s)
def p_SK (ba : Int → Int) (qn : Int) (x : Int) : Prop := ∃ e q, x = e + 1024 * q ∧ 0 ≤ e ∧ e ≤ 1023 ∧ 0 ≤ q ∧ e ≤ q ∧ (e = q ∨ q ≤ qn) ∧ ∀ i, e ≤ i → i < q → m_bl (ba i) = true
def p_NX (ba : Int → Int) (qn : Int) (x : Int) : Prop := ∃ e q, x = e + 1024 * q ∧ 0 ≤ e ∧ e ≤ 1023 ∧ 0 ≤ q ∧ m_nx ba qn e q
def p_SKR (bb : Int → Int) (rn : Int) (x : Int) : Prop := ∃ e q, x = e + 1024 * q ∧ 0 ≤ e ∧ e ≤ 1023 ∧ 0 ≤ q ∧ e ≤ q ∧ (e = q ∨ q ≤ rn) ∧ ∀ i, e ≤ i → i < q → m_bl (bb i) = true
def p_NXR (bb : Int → Int) (rn : Int) (x : Int) : Prop := ∃ e q, x = e + 1024 * q ∧ 0 ≤ e ∧ e ≤ 1023 ∧ 0 ≤ q ∧ m_nx bb rn e q
def p_BY (ba : Int → Int) (x : Int) : Prop := ∃ z i, x = 256 * i + z + 128 ∧ 0 ≤ i ∧ i ≤ 899 ∧ -128 ≤ z ∧ z ≤ 127 ∧ ba i = z
def p_BYB (ba : Int → Int) (x : Int) : Prop := ∃ z i, x = 256 * i + z + 128 ∧ 0 ≤ i ∧ i ≤ 899 ∧ -128 ≤ z ∧ z ≤ 127 ∧ ba i = z
def p_BR (bb : Int → Int) (x : Int) : Prop := ∃ z i, x = 256 * i + z + 128 ∧ 0 ≤ i ∧ i ≤ 899 ∧ -128 ≤ z ∧ z ≤ 127 ∧ bb i = z
def p_LK (bb : Int → Int) (rn : Int) (x : Int) : Prop := ∃ i r, x = 256 * i + r ∧ 0 ≤ i ∧ 0 ≤ r ∧ r ≤ 255 ∧ r = if i < rn then bb i % 256 else 0
def p_LKB (bb : Int → Int) (rn : Int) (x : Int) : Prop := ∃ i r, x = 256 * i + r ∧ 0 ≤ i ∧ 0 ≤ r ∧ r ≤ 255 ∧ r = if i < rn then bb i % 256 else 0
def p_LE (ba : Int → Int) (qn : Int) (x : Int) : Prop := ∃ s q, x = s + 1024 * q ∧ 0 ≤ s ∧ s ≤ 1023 ∧ s ≤ q ∧ s < qn ∧ q ≤ qn ∧ q ≤ 1023 ∧ m_le (ba s) = true ∧ (∀ i, s ≤ i → i < q → m_le (ba i) = true)
def p_DG (ba : Int → Int) (qn : Int) (x : Int) : Prop := ∃ s q v, x = s + 1024 * q + 1048576 * (v + 2147483648) ∧ 0 ≤ s ∧ s ≤ 1023 ∧ s ≤ q ∧ s < qn ∧ q ≤ qn ∧ q ≤ 1023 ∧ m_di (ba s) = true ∧ (∀ i, s ≤ i → i < q → m_di (ba i) = true) ∧ -2147483648 ≤ v ∧ v < 2147483648 ∧ (q - s ≤ 4 → v = m_dv ba s (q - s).toNat)
def p_TK (ba : Int → Int) (qk : Int) (qq : Int) (qn : Int) (qv : Int) (x : Int) : Prop := m_tok ba qn x qk qq qv
def p_CU (ba : Int → Int) (qk : Int) (qs : Int) (qq : Int) (qn : Int) (qv : Int) (x : Int) : Prop := qs = x ∧ m_tok ba qn x qk qq qv
def p_WM (x : Int) : Prop := ∃ v y, x = v + 2147483648 + 4294967296 * (y + 2147483648) ∧ -2147483648 ≤ v ∧ v < 2147483648 ∧ y = m_w32 (v * 10)
def p_WA (x : Int) : Prop := ∃ v y G, x = v + 2147483648 + 4294967296 * (y + 2147483648) + 18446744073709551616 * G ∧ -2147483648 ≤ v ∧ v < 2147483648 ∧ -2147483648 ≤ y ∧ y < 2147483648 ∧ 0 ≤ G ∧ y = m_w32 (m_w32 (v * 10) + (G % 256 - 128))
def p_WS (x : Int) : Prop := ∃ v y G, x = v + 2147483648 + 4294967296 * (y + 2147483648) + 18446744073709551616 * G ∧ -2147483648 ≤ v ∧ v < 2147483648 ∧ -2147483648 ≤ y ∧ y < 2147483648 ∧ 0 ≤ G ∧ y = m_w32 (m_w32 (m_w32 (v * 10) + (G % 256 - 128)) - 48)
def p_CH (x : Int) : Prop := True
def p_LC (ba : Int → Int) (x : Int) : Prop := ∃ c s i, x = c + 1099511627776 * s + 1125899906842624 * i ∧ 0 ≤ s ∧ s ≤ 1023 ∧ 0 ≤ i ∧ i ≤ 8 ∧ 0 ≤ c ∧ c < 1099511627776 ∧ c = m_wc ba s i.toNat ∧ ∀ j, 0 ≤ j → j < i → m_le (ba (s + j)) = true
def p_WI (ba : Int → Int) (qn : Int) (x : Int) : Prop := ∃ w s, x = w + 1099511627776 * s ∧ 0 ≤ w ∧ w < 1099511627776 ∧ 0 ≤ s ∧ m_wi ba qn s w
def p_NI (ba : Int → Int) (qn : Int) (x : Int) : Prop := ∃ w s, x = w + 1099511627776 * s ∧ 0 ≤ w ∧ w < 1099511627776 ∧ 0 ≤ s ∧ ¬ m_wi ba qn s w
def p_HF (ba : Int → Int) (qn : Int) (x : Int) : Prop := ∃ f p, x = f + 8 * p ∧ 0 ≤ f ∧ f ≤ 7 ∧ m_at ba qn (m_ht f p)
def p_NR (ba : Int → Int) (qn : Int) (x : Int) : Prop := ∃ s j, x = s + 1024 * j ∧ 0 ≤ s ∧ s ≤ 900 ∧ 0 ≤ j ∧ ∀ i : Nat, (i : Int) < j → ∀ w, m_RS[i]? = some w → ¬ m_wi ba qn s w
def p_XN (ba : Int → Int) (qn : Int) (x : Int) : Prop := 0 ≤ x ∧ m_nmk ba qn x = false
def p_WIR (bb : Int → Int) (rn : Int) (x : Int) : Prop := ∃ w s, x = w + 1099511627776 * s ∧ 0 ≤ w ∧ w < 1099511627776 ∧ 0 ≤ s ∧ m_wi bb rn s w
def p_NIR (bb : Int → Int) (rn : Int) (x : Int) : Prop := ∃ w s, x = w + 1099511627776 * s ∧ 0 ≤ w ∧ w < 1099511627776 ∧ 0 ≤ s ∧ ¬ m_wi bb rn s w
def p_HFR (bb : Int → Int) (rn : Int) (x : Int) : Prop := ∃ f p, x = f + 8 * p ∧ 0 ≤ f ∧ f ≤ 7 ∧ m_at bb rn (m_ht f p)
def p_NRR (bb : Int → Int) (rn : Int) (x : Int) : Prop := ∃ s j, x = s + 1024 * j ∧ 0 ≤ s ∧ s ≤ 900 ∧ 0 ≤ j ∧ ∀ i : Nat, (i : Int) < j → ∀ w, m_RR[i]? = some w → ¬ m_wi bb rn s w
def p_XNR (bb : Int → Int) (rn : Int) (x : Int) : Prop := 0 ≤ x ∧ m_nmk bb rn x = false
def p_SI (ba : Int → Int) (qn : Int) (x : Int) : Prop := ∃ s c, x = c + 256 * s + 128 ∧ -128 ≤ c ∧ c ≤ 127 ∧ 0 ≤ s ∧ m_kd ba qn s = 4 ∧ ba s = c
def p_NSI (ba : Int → Int) (qn : Int) (x : Int) : Prop := ∃ s c, x = c + 256 * s + 128 ∧ -128 ≤ c ∧ c ≤ 127 ∧ 0 ≤ s ∧ ¬ (m_kd ba qn s = 4 ∧ ba s = c)
def p_SIR (bb : Int → Int) (rn : Int) (x : Int) : Prop := ∃ s c, x = c + 256 * s ∧ 0 ≤ c ∧ c ≤ 255 ∧ 0 ≤ s ∧ m_kd bb rn s = 4 ∧ bb s % 256 = c
def p_NSIR (bb : Int → Int) (rn : Int) (x : Int) : Prop := ∃ s c, x = c + 256 * s ∧ 0 ≤ c ∧ c ≤ 255 ∧ 0 ≤ s ∧ ¬ (m_kd bb rn s = 4 ∧ bb s % 256 = c)
/-- the class's wall: how many of each; courses; masons; slips; finds -/
def m_w1 (wn wc wm wi : Int) (W : mW) : Prop := wn = m_tot (m_wcs W) ∧ wc = m_ln (m_wcs W) ∧ wm = m_ln (m_wms W) ∧ wi = m_ln (m_wfs W)
def m_w2 (xa xd : Int → Int) (W : mW) : Prop := (∀ k, 0 ≤ k → k < m_ln (m_wcs W) → xa k = m_tot ((m_wcs W).take k.toNat)) ∧ (∀ s, 0 ≤ s → s < m_tot (m_wcs W) → xd s = m_ci (m_wcs W) s)
def m_w3 (ba : Int → Int) (qn : Int) (xb xc xg xh : Int → Int) (W : mW) : Prop := ∀ k : Nat, k < (m_wms W).length → (m_wms W)[k]? = some (xb k, xc k, xg k) ∧ xh k = m_te ba qn (xg k) - xg k
def m_wk (x : Int → Int) (d : Int) (l : List (Int × Int)) : Prop := ∀ s, 0 ≤ s → s ≤ 95 → x s = m_lk l d s
/-- the pending name -/
def m_ps (st : Int) : Prop := st = 11 ∨ st = 12 ∨ st = 13 ∨ st = 14 ∨ st = 23
def m_pn (ba : Int → Int) (qn wm : Int) (xg xh : Int → Int) (st np : Int) : Prop := m_ps st → xg wm = np ∧ xh wm = m_te ba qn np - np
def m_of (wo wf st : Int) (W : mW) : Prop := 5 ≤ st → wo = m_wo W ∧ wf = m_wf W
/-- the wall behind a semicolon -/
def m_cm (st r1 r2 np : Int) (W : mW) : mW := if st = 4 then (r1, r2, W.2.2) else if st = 10 then (W.1, W.2.1, m_wcs W ++ [r1], W.2.2.2) else if st = 23 then (W.1, W.2.1, m_wcs W, m_wms W ++ [(r1, r2, np)], W.2.2.2.2) else if st = 24 then (W.1, W.2.1, m_wcs W, m_wms W, m_wss W ++ [(r1, r2)], m_wfs W) else (W.1, W.2.1, m_wcs W, m_wms W, m_wss W, m_wfs W ++ [(r1, r2)])
def p_CF (ba : Int → Int) (qn : Int) (wo : Int) (wf : Int) (wn : Int) (wc : Int) (wm : Int) (ws : Int) (wi : Int) (wl : Int) (xa : Int → Int) (xb : Int → Int) (xc : Int → Int) (xd : Int → Int) (xe : Int → Int) (xf : Int → Int) (xg : Int → Int) (xh : Int → Int) (x : Int) : Prop := ∃ st s r1 r2 np W, m_pk x st s r1 r2 ∧ m_cf ba qn st s r1 r2 np W ∧ m_w1 wn wc wm wi W ∧ ws = m_ln (m_wss W) ∧ wl = m_lst (m_wss W) ∧ m_w2 xa xd W ∧ m_w3 ba qn xb xc xg xh W ∧ m_wk xe 0 (m_wss W) ∧ m_wk xf (-1) (m_wfs W) ∧ m_of wo wf st W ∧ m_pn ba qn wm xg xh st np
def p_RDX (ba : Int → Int) (qn : Int) (wo : Int) (wf : Int) (wn : Int) (wc : Int) (wm : Int) (ws : Int) (wi : Int) (wl : Int) (xa : Int → Int) (xb : Int → Int) (xc : Int → Int) (xd : Int → Int) (xe : Int → Int) (xf : Int → Int) (xg : Int → Int) (xh : Int → Int) (x : Int) : Prop := ∃ st q r1 r2 np W, m_pk x st q r1 r2 ∧ m_cf ba qn st (m_sk ba qn q) r1 r2 np W ∧ m_w1 wn wc wm wi W ∧ ws = m_ln (m_wss W) ∧ wl = m_lst (m_wss W) ∧ m_w2 xa xd W ∧ m_w3 ba qn xb xc xg xh W ∧ m_wk xe 0 (m_wss W) ∧ m_wk xf (-1) (m_wfs W) ∧ m_of wo wf st W ∧ m_pn ba qn wm xg xh st np
def p_CG (ba : Int → Int) (qn : Int) (wn : Int) (wc : Int) (wm : Int) (ws : Int) (wi : Int) (wl : Int) (xa : Int → Int) (xb : Int → Int) (xc : Int → Int) (xd : Int → Int) (xe : Int → Int) (xf : Int → Int) (xg : Int → Int) (xh : Int → Int) (x : Int) : Prop := ∃ st s r1 r2 np W, m_pk x st s r1 r2 ∧ st = 4 ∧ m_cf ba qn st s r1 r2 np W ∧ m_w1 wn wc wm wi W ∧ ws = m_ln (m_wss W) ∧ wl = m_lst (m_wss W) ∧ m_w2 xa xd W ∧ m_w3 ba qn xb xc xg xh W ∧ m_wk xe 0 (m_wss W) ∧ m_wk xf (-1) (m_wfs W) ∧ m_pn ba qn wm xg xh st np
def p_CFA (ba : Int → Int) (qn : Int) (wo : Int) (wf : Int) (wn : Int) (wc : Int) (wm : Int) (ws : Int) (wi : Int) (wl : Int) (xa : Int → Int) (xb : Int → Int) (xc : Int → Int) (xd : Int → Int) (xe : Int → Int) (xf : Int → Int) (xg : Int → Int) (xh : Int → Int) (x : Int) : Prop := ∃ st s r1 r2 np W0 W, m_pk x st s r1 r2 ∧ m_cf ba qn st s r1 r2 np W0 ∧ (st = 4 ∨ st = 10 ∨ st = 23 ∨ st = 24 ∨ st = 25) ∧ W = m_cm st r1 r2 np W0 ∧ m_w1 wn wc wm wi W ∧ ws = m_ln (m_wss W) ∧ wl = m_lst (m_wss W) ∧ m_w2 xa xd W ∧ m_w3 ba qn xb xc xg xh W ∧ m_wk xe 0 (m_wss W) ∧ m_wk xf (-1) (m_wfs W) ∧ m_of wo wf 5 W
def p_CC1 (ba : Int → Int) (qn : Int) (wo : Int) (wf : Int) (wn : Int) (wc : Int) (wm : Int) (ws : Int) (wi : Int) (wl : Int) (xa : Int → Int) (xb : Int → Int) (xc : Int → Int) (xd : Int → Int) (xe : Int → Int) (xf : Int → Int) (xg : Int → Int) (xh : Int → Int) (x : Int) : Prop := ∃ st s r1 r2 np W, m_pk x st s r1 r2 ∧ st = 10 ∧ m_cf ba qn st s r1 r2 np W ∧ m_w1 wn wc wm wi W ∧ ws = m_ln (m_wss W) ∧ wl = m_lst (m_wss W) ∧ m_w2 xa xd W ∧ m_w3 ba qn xb xc xg xh W ∧ m_wk xe 0 (m_wss W) ∧ m_wk xf (-1) (m_wfs W) ∧ m_of wo wf st W ∧ xa wc = wn
def p_CC2 (ba : Int → Int) (qn : Int) (wo : Int) (wf : Int) (wn : Int) (wc : Int) (wm : Int) (ws : Int) (wi : Int) (wl : Int) (xa : Int → Int) (xb : Int → Int) (xc : Int → Int) (xd : Int → Int) (xe : Int → Int) (xf : Int → Int) (xg : Int → Int) (xh : Int → Int) (x : Int) : Prop := ∃ y i, x = y + 281474976710656 * i ∧ 0 ≤ i ∧ ∃ st s r1 r2 np W, m_pk y st s r1 r2 ∧ st = 10 ∧ m_cf ba qn st s r1 r2 np W ∧ m_w1 wn wc wm wi W ∧ ws = m_ln (m_wss W) ∧ wl = m_lst (m_wss W) ∧ m_w2 xa xd W ∧ m_w3 ba qn xb xc xg xh W ∧ m_wk xe 0 (m_wss W) ∧ m_wk xf (-1) (m_wfs W) ∧ m_of wo wf st W ∧ xa wc = wn ∧ wn ≤ i ∧ ∀ j, wn ≤ j → j < i → xd j = wc
def p_CCN (ba : Int → Int) (qn : Int) (wo : Int) (wf : Int) (wm : Int) (ws : Int) (wi : Int) (wl : Int) (xa : Int → Int) (xb : Int → Int) (xc : Int → Int) (xd : Int → Int) (xe : Int → Int) (xf : Int → Int) (xg : Int → Int) (xh : Int → Int) (x : Int) : Prop := ∃ y c n, x = y + 281474976710656 * c + 4503599627370496 * n ∧ 0 ≤ c ∧ c ≤ 15 ∧ 0 ≤ n ∧ ∃ st s r1 r2 np W, m_pk y st s r1 r2 ∧ st = 10 ∧ r2 = 0 ∧ m_cf ba qn st s r1 r2 np W ∧ m_w1 n c wm wi W ∧ ws = m_ln (m_wss W) ∧ wl = m_lst (m_wss W) ∧ m_w2 xa xd W ∧ m_w3 ba qn xb xc xg xh W ∧ m_wk xe 0 (m_wss W) ∧ m_wk xf (-1) (m_wfs W) ∧ m_of wo wf st W ∧ xa c = n ∧ ∀ j, n ≤ j → j < n + r1 → xd j = c
def p_CM1 (ba : Int → Int) (qn : Int) (wo : Int) (wf : Int) (wn : Int) (wc : Int) (wm : Int) (ws : Int) (wi : Int) (wl : Int) (xa : Int → Int) (xb : Int → Int) (xc : Int → Int) (xd : Int → Int) (xe : Int → Int) (xf : Int → Int) (xg : Int → Int) (xh : Int → Int) (x : Int) : Prop := ∃ st s r1 r2 np W, m_pk x st s r1 r2 ∧ st = 23 ∧ m_cf ba qn st s r1 r2 np W ∧ m_w1 wn wc wm wi W ∧ ws = m_ln (m_wss W) ∧ wl = m_lst (m_wss W) ∧ m_w2 xa xd W ∧ m_w3 ba qn xb xc xg xh W ∧ m_wk xe 0 (m_wss W) ∧ m_wk xf (-1) (m_wfs W) ∧ m_of wo wf st W ∧ m_pn ba qn wm xg xh st np ∧ xb wm = r1
def p_CM2 (ba : Int → Int) (qn : Int) (wo : Int) (wf : Int) (wn : Int) (wc : Int) (wm : Int) (ws : Int) (wi : Int) (wl : Int) (xa : Int → Int) (xb : Int → Int) (xc : Int → Int) (xd : Int → Int) (xe : Int → Int) (xf : Int → Int) (xg : Int → Int) (xh : Int → Int) (x : Int) : Prop := ∃ st s r1 r2 np W, m_pk x st s r1 r2 ∧ st = 23 ∧ m_cf ba qn st s r1 r2 np W ∧ m_w1 wn wc wm wi W ∧ ws = m_ln (m_wss W) ∧ wl = m_lst (m_wss W) ∧ m_w2 xa xd W ∧ m_w3 ba qn xb xc xg xh W ∧ m_wk xe 0 (m_wss W) ∧ m_wk xf (-1) (m_wfs W) ∧ m_of wo wf st W ∧ m_pn ba qn wm xg xh st np ∧ xb wm = r1 ∧ xc wm = r2
def p_CMN (ba : Int → Int) (qn : Int) (wo : Int) (wf : Int) (wn : Int) (wc : Int) (ws : Int) (wi : Int) (wl : Int) (xa : Int → Int) (xb : Int → Int) (xc : Int → Int) (xd : Int → Int) (xe : Int → Int) (xf : Int → Int) (xg : Int → Int) (xh : Int → Int) (x : Int) : Prop := ∃ y m, x = y + 281474976710656 * m ∧ 0 ≤ m ∧ m ≤ 7 ∧ ∃ st s r1 r2 np W, m_pk y st s r1 r2 ∧ st = 23 ∧ m_cf ba qn st s r1 r2 np W ∧ m_w1 wn wc m wi W ∧ ws = m_ln (m_wss W) ∧ wl = m_lst (m_wss W) ∧ m_w2 xa xd W ∧ m_w3 ba qn xb xc xg xh W ∧ m_wk xe 0 (m_wss W) ∧ m_wk xf (-1) (m_wfs W) ∧ m_of wo wf st W ∧ m_pn ba qn m xg xh st np ∧ xb m = r1 ∧ xc m = r2
def p_CS1 (ba : Int → Int) (qn : Int) (wo : Int) (wf : Int) (wn : Int) (wc : Int) (wm : Int) (ws : Int) (wi : Int) (wl : Int) (xa : Int → Int) (xb : Int → Int) (xc : Int → Int) (xd : Int → Int) (xe : Int → Int) (xf : Int → Int) (xg : Int → Int) (xh : Int → Int) (x : Int) : Prop := ∃ st s r1 r2 np W, m_pk x st s r1 r2 ∧ st = 24 ∧ m_cf ba qn st s r1 r2 np W ∧ m_w1 wn wc wm wi W ∧ ws = m_ln (m_wss W) ∧ wl = m_lst (m_wss W) ∧ m_w2 xa xd W ∧ m_w3 ba qn xb xc xg xh W ∧ m_wk xe 0 (m_wss W ++ [(r1, r2)]) ∧ m_wk xf (-1) (m_wfs W) ∧ m_of wo wf st W
def p_CSN (ba : Int → Int) (qn : Int) (wo : Int) (wf : Int) (wn : Int) (wc : Int) (wm : Int) (wi : Int) (xa : Int → Int) (xb : Int → Int) (xc : Int → Int) (xd : Int → Int) (xe : Int → Int) (xf : Int → Int) (xg : Int → Int) (xh : Int → Int) (x : Int) : Prop := ∃ y m, x = y + 281474976710656 * m ∧ 0 ≤ m ∧ m ≤ 7 ∧ ∃ st s r1 r2 np W, m_pk y st s r1 r2 ∧ st = 24 ∧ m_cf ba qn st s r1 r2 np W ∧ m = m_ln (m_wss W) ∧ m_w1 wn wc wm wi W ∧ m_w2 xa xd W ∧ m_w3 ba qn xb xc xg xh W ∧ m_wk xe 0 (m_wss W ++ [(r1, r2)]) ∧ m_wk xf (-1) (m_wfs W) ∧ m_of wo wf st W
def p_CSM (ba : Int → Int) (qn : Int) (wo : Int) (wf : Int) (wn : Int) (wc : Int) (wm : Int) (ws : Int) (wi : Int) (xa : Int → Int) (xb : Int → Int) (xc : Int → Int) (xd : Int → Int) (xe : Int → Int) (xf : Int → Int) (xg : Int → Int) (xh : Int → Int) (x : Int) : Prop := ∃ st s r1 r2 np W, m_pk x st s r1 r2 ∧ st = 24 ∧ m_cf ba qn st s r1 r2 np W ∧ ws = m_ln (m_wss W) + 1 ∧ m_w1 wn wc wm wi W ∧ m_w2 xa xd W ∧ m_w3 ba qn xb xc xg xh W ∧ m_wk xe 0 (m_wss W ++ [(r1, r2)]) ∧ m_wk xf (-1) (m_wfs W) ∧ m_of wo wf st W
def p_CD1 (ba : Int → Int) (qn : Int) (wo : Int) (wf : Int) (wn : Int) (wc : Int) (wm : Int) (ws : Int) (wi : Int) (wl : Int) (xa : Int → Int) (xb : Int → Int) (xc : Int → Int) (xd : Int → Int) (xe : Int → Int) (xf : Int → Int) (xg : Int → Int) (xh : Int → Int) (x : Int) : Prop := ∃ st s r1 r2 np W, m_pk x st s r1 r2 ∧ st = 25 ∧ m_cf ba qn st s r1 r2 np W ∧ m_w1 wn wc wm wi W ∧ ws = m_ln (m_wss W) ∧ wl = m_lst (m_wss W) ∧ m_w2 xa xd W ∧ m_w3 ba qn xb xc xg xh W ∧ m_wk xe 0 (m_wss W) ∧ m_wk xf (-1) (m_wfs W ++ [(r1, r2)]) ∧ m_of wo wf st W
def p_CDN (ba : Int → Int) (qn : Int) (wo : Int) (wf : Int) (wn : Int) (wc : Int) (wm : Int) (ws : Int) (wl : Int) (xa : Int → Int) (xb : Int → Int) (xc : Int → Int) (xd : Int → Int) (xe : Int → Int) (xf : Int → Int) (xg : Int → Int) (xh : Int → Int) (x : Int) : Prop := ∃ y m, x = y + 281474976710656 * m ∧ 0 ≤ m ∧ m ≤ 15 ∧ ∃ st s r1 r2 np W, m_pk y st s r1 r2 ∧ st = 25 ∧ m_cf ba qn st s r1 r2 np W ∧ m_w1 wn wc wm m W ∧ ws = m_ln (m_wss W) ∧ wl = m_lst (m_wss W) ∧ m_w2 xa xd W ∧ m_w3 ba qn xb xc xg xh W ∧ m_wk xe 0 (m_wss W) ∧ m_wk xf (-1) (m_wfs W ++ [(r1, r2)]) ∧ m_of wo wf st W
def p_CNA (ba : Int → Int) (qn : Int) (wo : Int) (wf : Int) (wn : Int) (wc : Int) (wm : Int) (ws : Int) (wi : Int) (wl : Int) (xa : Int → Int) (xb : Int → Int) (xc : Int → Int) (xd : Int → Int) (xe : Int → Int) (xf : Int → Int) (xg : Int → Int) (xh : Int → Int) (x : Int) : Prop := ∃ st s r1 r2 np W, m_pk x st s r1 r2 ∧ m_cf ba qn st s r1 r2 np W ∧ m_w1 wn wc wm wi W ∧ ws = m_ln (m_wss W) ∧ wl = m_lst (m_wss W) ∧ m_w2 xa xd W ∧ m_w3 ba qn xb xc xg xh W ∧ m_wk xe 0 (m_wss W) ∧ m_wk xf (-1) (m_wfs W) ∧ m_of wo wf st W ∧ st = 7 ∧ r1 = 0 ∧ r2 = 0 ∧ m_tk ba qn s W = false
def p_CN1 (ba : Int → Int) (qn : Int) (wo : Int) (wf : Int) (wn : Int) (wc : Int) (wm : Int) (ws : Int) (wi : Int) (wl : Int) (xa : Int → Int) (xb : Int → Int) (xc : Int → Int) (xd : Int → Int) (xe : Int → Int) (xf : Int → Int) (xg : Int → Int) (xh : Int → Int) (x : Int) : Prop := ∃ st s r1 r2 np W, m_pk x st s r1 r2 ∧ m_cf ba qn st s r1 r2 np W ∧ m_w1 wn wc wm wi W ∧ ws = m_ln (m_wss W) ∧ wl = m_lst (m_wss W) ∧ m_w2 xa xd W ∧ m_w3 ba qn xb xc xg xh W ∧ m_wk xe 0 (m_wss W) ∧ m_wk xf (-1) (m_wfs W) ∧ m_of wo wf st W ∧ st = 7 ∧ r1 = 0 ∧ r2 = 0 ∧ m_tk ba qn s W = false ∧ xg wm = s
def p_CN2 (ba : Int → Int) (qn : Int) (wo : Int) (wf : Int) (wn : Int) (wc : Int) (wm : Int) (ws : Int) (wi : Int) (wl : Int) (xa : Int → Int) (xb : Int → Int) (xc : Int → Int) (xd : Int → Int) (xe : Int → Int) (xf : Int → Int) (xg : Int → Int) (xh : Int → Int) (x : Int) : Prop := ∃ st s r1 r2 np W, m_pk x st s r1 r2 ∧ m_cf ba qn st s r1 r2 np W ∧ m_w1 wn wc wm wi W ∧ ws = m_ln (m_wss W) ∧ wl = m_lst (m_wss W) ∧ m_w2 xa xd W ∧ m_w3 ba qn xb xc xg xh W ∧ m_wk xe 0 (m_wss W) ∧ m_wk xf (-1) (m_wfs W) ∧ m_of wo wf st W ∧ st = 7 ∧ r1 = 0 ∧ r2 = 0 ∧ m_tk ba qn s W = false ∧ xg wm = s ∧ xh wm = m_te ba qn s - s
def p_FR (xf : Int → Int) (x : Int) : Prop := ∃ i z, x = i + 128 * (z + 2147483648) ∧ 0 ≤ i ∧ i ≤ 95 ∧ -2147483648 ≤ z ∧ z < 2147483648 ∧ xf i = z
def p_SM (ba : Int → Int) (x : Int) : Prop := ∃ a b i, x = a + 1024 * b + 1048576 * i ∧ 0 ≤ a ∧ a ≤ 1023 ∧ 0 ≤ b ∧ b ≤ 1023 ∧ 0 ≤ i ∧ ∀ j, 0 ≤ j → j < i → ba (a + j) = ba (b + j)
def p_SMT (ba : Int → Int) (x : Int) : Prop := ∃ a b i, x = a + 1024 * b + 1048576 * i ∧ 0 ≤ a ∧ a ≤ 1023 ∧ 0 ≤ b ∧ b ≤ 1023 ∧ 0 ≤ i ∧ ∀ j, 0 ≤ j → j < i → ba (a + j) = ba (b + j)
def p_NSM (ba : Int → Int) (x : Int) : Prop := ∃ a b i, x = a + 1024 * b + 1048576 * i ∧ 0 ≤ a ∧ a ≤ 1023 ∧ 0 ≤ b ∧ b ≤ 1023 ∧ 0 ≤ i ∧ ∃ j, 0 ≤ j ∧ j < i ∧ ba (a + j) ≠ ba (b + j)
def p_NLR (xh : Int → Int) (x : Int) : Prop := ∃ i z, x = i + 8 * z ∧ 0 ≤ i ∧ i ≤ 3 ∧ xh i = z
def p_NSR (xg : Int → Int) (x : Int) : Prop := ∃ i z, x = i + 8 * z ∧ 0 ≤ i ∧ i ≤ 3 ∧ xg i = z
def p_DN (ba : Int → Int) (qn : Int) (xg : Int → Int) (xh : Int → Int) (x : Int) : Prop := ∃ s k, x = s + 1024 * k ∧ 0 ≤ s ∧ s ≤ 900 ∧ 0 ≤ k ∧ ∀ j, 0 ≤ j → j < k → ¬ (xh j = m_te ba qn s - s ∧ ∀ i, 0 ≤ i → i < xh j → ba (xg j + i) = ba (s + i))
def p_FZ35 (xe : Int → Int) (x : Int) : Prop := ∃ i v, x = i + 128 * (v + 2147483648) ∧ 0 ≤ i ∧ i ≤ 96 ∧ -2147483648 ≤ v ∧ v < 2147483648 ∧ ∀ j, 0 ≤ j → j < i → xe j = v
def p_FZ36 (xf : Int → Int) (x : Int) : Prop := ∃ i v, x = i + 128 * (v + 2147483648) ∧ 0 ≤ i ∧ i ≤ 96 ∧ -2147483648 ≤ v ∧ v < 2147483648 ∧ ∀ j, 0 ≤ j → j < i → xf j = v
def p_WZ (wo : Int) (wf : Int) (wn : Int) (wc : Int) (wm : Int) (ws : Int) (wi : Int) (wl : Int) (xa : Int → Int) (xb : Int → Int) (xc : Int → Int) (xd : Int → Int) (xe : Int → Int) (xf : Int → Int) (xg : Int → Int) (xh : Int → Int) (x : Int) : Prop := wn = 0 ∧ wc = 0 ∧ wm = 0 ∧ ws = 0 ∧ wi = 0 ∧ wl = 0 ∧ (∀ s, 0 ≤ s → s ≤ 95 → xe s = 0) ∧ (∀ s, 0 ≤ s → s ≤ 95 → xf s = -1)
def p_WD (ba : Int → Int) (qn : Int) (wo : Int) (wf : Int) (wn : Int) (wc : Int) (wm : Int) (ws : Int) (wi : Int) (wl : Int) (xa : Int → Int) (xb : Int → Int) (xc : Int → Int) (xd : Int → Int) (xe : Int → Int) (xf : Int → Int) (xg : Int → Int) (xh : Int → Int) (x : Int) : Prop := ∃ W, m_at ba qn (m_dn W) ∧ m_w1 wn wc wm wi W ∧ ws = m_ln (m_wss W) ∧ wl = m_lst (m_wss W) ∧ m_w2 xa xd W ∧ m_w3 ba qn xb xc xg xh W ∧ m_wk xe 0 (m_wss W) ∧ m_wk xf (-1) (m_wfs W) ∧ m_of wo wf 5 W
def p_RSW (ba : Int → Int) (qn : Int) (x : Int) : Prop := ∃ W, m_at ba qn (m_dn W) ∧ x = m_tot (m_wcs W)
def m_wr (bb : Int → Int) (rn : Int) (nw ww : Int → Int) (W : mW) : Prop :=
  (nw 2 = m_ln (m_wcs W) ∧ nw 3 = m_ln (m_wms W) ∧ nw 4 = m_ln (m_wss W) ∧ nw 5 = m_ln (m_wfs W)) ∧
  (∀ k : Nat, k < (m_wcs W).length → (m_wcs W)[k]? = some (nw (7 + k))) ∧ (∀ k : Nat, k < (m_wms W).length → ∃ np, (m_wms W)[k]? = some (nw (13 + k), nw (17 + k), np) ∧ ww k = m_cd bb rn np) ∧
  (∀ k : Nat, k < (m_wss W).length → (m_wss W)[k]? = some (nw (21 + k), nw (27 + k))) ∧ (∀ k : Nat, k < (m_wfs W).length → (m_wfs W)[k]? = some (nw (33 + k), nw (41 + k))) ∧ (∀ i, i = 6 ∨ (49 ≤ i ∧ i < 360) → nw i = 0)
def m_ro (nw : Int → Int) (st : Int) (W : mW) : Prop := 5 ≤ st → nw 0 = m_wo W ∧ nw 1 = m_wf W
def m_r2 (nw : Int → Int) (st r1 : Int) : Prop := st = 2 ∨ st = 3 ∨ st = 4 → nw 0 = r1
def m_px (bb : Int → Int) (rn : Int) (nw ww : Int → Int) (st r1 r2 np : Int) : Prop := m_r2 nw st r1 ∧ (st = 4 → nw 1 = r2) ∧ (m_ps st → ww (nw 3) = m_cd bb rn np) ∧ (st = 13 ∨ st = 14 ∨ st = 23 → nw (13 + nw 3) = r1) ∧ (st = 23 → nw (17 + nw 3) = r2)
def m_py (bb : Int → Int) (rn : Int) (nw ww : Int → Int) (st r1 np : Int) : Prop := (st = 4 → nw 0 = r1) ∧ (m_ps st → ww (nw 3) = m_cd bb rn np) ∧ (st = 23 → nw (13 + nw 3) = r1)
def p_CFR (bb : Int → Int) (rn : Int) (nw : Int → Int) (ww : Int → Int) (x : Int) : Prop := ∃ st s r1 r2 np W, m_pk x st s r1 r2 ∧ m_cf bb rn st s r1 r2 np W ∧ m_wr bb rn nw ww W ∧ m_ro nw st W ∧ m_px bb rn nw ww st r1 r2 np
def p_RDR (bb : Int → Int) (rn : Int) (nw : Int → Int) (ww : Int → Int) (x : Int) : Prop := ∃ st q r1 r2 np W, m_pk x st q r1 r2 ∧ m_cf bb rn st (m_sk bb rn q) r1 r2 np W ∧ m_wr bb rn nw ww W ∧ m_ro nw st W ∧ m_px bb rn nw ww st r1 r2 np
def p_CFP (bb : Int → Int) (rn : Int) (nw : Int → Int) (ww : Int → Int) (x : Int) : Prop := ∃ st s r1 r2 np W, m_pk x st s r1 r2 ∧ m_cf bb rn st s r1 r2 np W ∧ m_wr bb rn nw ww W ∧ m_ro nw st W ∧ m_py bb rn nw ww st r1 np
def p_RDP (bb : Int → Int) (rn : Int) (nw : Int → Int) (ww : Int → Int) (x : Int) : Prop := ∃ st q r1 r2 np W, m_pk x st q r1 r2 ∧ m_cf bb rn st (m_sk bb rn q) r1 r2 np W ∧ m_wr bb rn nw ww W ∧ m_ro nw st W ∧ m_py bb rn nw ww st r1 np
def p_CFAR (bb : Int → Int) (rn : Int) (nw : Int → Int) (ww : Int → Int) (x : Int) : Prop := ∃ st s r1 r2 np W0, m_pk x st s r1 r2 ∧ m_cf bb rn st s r1 r2 np W0 ∧ (st = 4 ∨ st = 10 ∨ st = 23 ∨ st = 24 ∨ st = 25) ∧ m_wr bb rn nw ww (m_cm st r1 r2 np W0) ∧ m_ro nw 5 (m_cm st r1 r2 np W0)
def p_CAR (bb : Int → Int) (rn : Int) (nw : Int → Int) (ww : Int → Int) (x : Int) : Prop := ∃ st s r1 r2 np W, m_pk x st s r1 r2 ∧ m_cf bb rn st s r1 r2 np W ∧ m_wr bb rn nw ww W ∧ m_ro nw st W ∧ (st = 10 → nw (7 + nw 2) = r1) ∧ (st = 24 → nw (21 + nw 4) = r1) ∧ (st = 25 → nw (33 + nw 5) = r1) ∧ (st = 7 → m_nmk bb rn s = true ∧ m_tk bb rn s W = false ∧ ww (nw 3) = m_cd bb rn s)
def p_CBR (bb : Int → Int) (rn : Int) (nw : Int → Int) (ww : Int → Int) (x : Int) : Prop := ∃ st s r1 r2 np W, m_pk x st s r1 r2 ∧ m_cf bb rn st s r1 r2 np W ∧ m_wr bb rn nw ww W ∧ m_ro nw st W ∧ (st = 10 → nw (7 + nw 2) = r1) ∧ (st = 24 → nw (21 + nw 4) = r1) ∧ (st = 25 → nw (33 + nw 5) = r1) ∧ (st = 7 → m_nmk bb rn s = true ∧ m_tk bb rn s W = false ∧ ww (nw 3) = m_cd bb rn s) ∧ (st = 24 → nw (27 + nw 4) = r2) ∧ (st = 25 → nw (41 + nw 5) = r2)
def p_LER (bb : Int → Int) (rn : Int) (x : Int) : Prop := ∃ s q w, x = s + 1024 * q + 1048576 * (w + 1) ∧ 0 ≤ s ∧ s ≤ 1023 ∧ s ≤ q ∧ s < rn ∧ q ≤ rn ∧ q ≤ 1023 ∧ m_le (bb s) = true ∧ (∀ i, s ≤ i → i < q → m_le (bb i) = true) ∧ w = if q - s ≤ 8 then m_wc bb s (q - s).toNat else -1
def p_DGR (bb : Int → Int) (rn : Int) (x : Int) : Prop := ∃ s q v, x = s + 1024 * q + 1048576 * v ∧ 0 ≤ v ∧ 0 ≤ s ∧ s ≤ 1023 ∧ s ≤ q ∧ s < rn ∧ q ≤ rn ∧ q ≤ 1023 ∧ m_di (bb s) = true ∧ (∀ i, s ≤ i → i < q → m_di (bb i) = true) ∧ v = m_dv bb s (if q - s ≤ 4 then q - s else 4).toNat
def p_WDR (bb : Int → Int) (rn : Int) (x : Int) : Prop := ∃ s w, x = s + 1024 * (w + 1) ∧ 0 ≤ s ∧ s ≤ 1023 ∧ (m_kd bb rn s = 2 → w = m_cd bb rn s)
def p_TKR (bb : Int → Int) (rn : Int) (rk : Int) (rq : Int) (rv : Int) (rl : Int) (x : Int) : Prop := m_tkr bb rn x rk rq rv rl
def p_CUR (bb : Int → Int) (rn : Int) (rk : Int) (rs : Int) (rq : Int) (rv : Int) (rl : Int) (x : Int) : Prop := rs = x ∧ m_tkr bb rn x rk rq rv rl
def p_DNR (bb : Int → Int) (rn : Int) (ww : Int → Int) (x : Int) : Prop := ∃ s i, x = s + 1024 * i ∧ 0 ≤ s ∧ s ≤ 900 ∧ 0 ≤ i ∧ ∀ j, 0 ≤ j → j < i → ww j ≠ m_cd bb rn s
def p_WKR (ww : Int → Int) (x : Int) : Prop := ∃ i z, x = i + 8 * z ∧ 0 ≤ i ∧ i ≤ 3 ∧ ww i = z
def p_PSN (nw : Int → Int) (x : Int) : Prop := ∃ n k, x = n + 4096 * k ∧ 0 ≤ n ∧ n ≤ 4095 ∧ 0 ≤ k ∧ k ≤ nw 2 ∧ n = m_sum (fun j => nw (7 + j)) k.toNat
def p_NSN (nw : Int → Int) (x : Int) : Prop := x = m_sum (fun j => nw (7 + j)) (nw 2).toNat
def p_LSR (nw : Int → Int) (x : Int) : Prop := x = if nw 4 = 0 then 0 else nw (20 + nw 4)
def p_LDN (nw : Int → Int) (x : Int) : Prop := ∃ z k, x = z + 128 * k ∧ 0 ≤ z ∧ z ≤ 127 ∧ 0 ≤ k ∧ nw (33 + k) = z
def p_DFR (nw : Int → Int) (x : Int) : Prop := ∃ v k, x = v + 128 * k ∧ 0 ≤ v ∧ v ≤ 127 ∧ 0 ≤ k ∧ ∀ j, 0 ≤ j → j < k → nw (33 + j) ≠ v
def p_ZR (nw : Int → Int) (x : Int) : Prop := ∀ j, 0 ≤ j → j < x → j < 360 → nw j = 0
def p_LDC (nw : Int → Int) (x : Int) : Prop := ∃ k z, x = k + 512 * (z + 2147483648) ∧ 0 ≤ k ∧ k ≤ 359 ∧ -2147483648 ≤ z ∧ z < 2147483648 ∧ nw k = z
def p_CPW (bk : Int → Int) (nw : Int → Int) (x : Int) : Prop := ∀ j, 0 ≤ j → j < x → j < 360 → bk j = nw j
def p_DNW (bb : Int → Int) (rn : Int) (nw : Int → Int) (ww : Int → Int) (x : Int) : Prop := ∃ W, m_at bb rn (m_dn W) ∧ m_wr bb rn nw ww W ∧ m_ro nw 5 W
def m_w4 (b : Int → Int) (k : Int) : Int := (b (4 * k) + 128) * 16777216 + b (4 * k + 1) % 256 * 65536 + b (4 * k + 2) % 256 * 256 + b (4 * k + 3) % 256
def m_dgz (b : Int → Int) : Nat → Int
  | 0 => 1
  | k + 1 => 4294967296 * m_dgz b k + m_w4 b k
def p_TB3 (ba : Int → Int) (x : Int) : Prop := ∃ (k : Nat) (D : Int), x = 4 * k + 1024 * D ∧ 4 * (k : Int) ≤ 900 ∧ D = m_dgz ba k
def p_AB3 (ba : Int → Int) (x : Int) : Prop := ∃ (k : Nat) (i v D : Int), x = 4 * k + 1024 * i + 8192 * (v + 2147483648) + 70368744177664 * D ∧ 4 * (k : Int) ≤ 900 ∧ 0 ≤ i ∧ i ≤ 3 + 1 ∧ -2147483648 ≤ v ∧ v < 2147483648 ∧ D = m_dgz ba k ∧ (1 ≤ i → ba (4 * k) = m_w8 (v / 16777216)) ∧ (2 ≤ i → ba (4 * k + 1) = m_w8 (v / 65536)) ∧ (3 ≤ i → ba (4 * k + 2) = m_w8 (v / 256)) ∧ (4 ≤ i → ba (4 * k + 3) = m_w8 v)
def p_TB8 (bb : Int → Int) (x : Int) : Prop := ∃ (k : Nat) (D : Int), x = 4 * k + 1024 * D ∧ 4 * (k : Int) ≤ 900 ∧ D = m_dgz bb k
def p_AB8 (bb : Int → Int) (x : Int) : Prop := ∃ (k : Nat) (i v D : Int), x = 4 * k + 1024 * i + 8192 * (v + 2147483648) + 70368744177664 * D ∧ 4 * (k : Int) ≤ 900 ∧ 0 ≤ i ∧ i ≤ 3 + 1 ∧ -2147483648 ≤ v ∧ v < 2147483648 ∧ D = m_dgz bb k ∧ (1 ≤ i → bb (4 * k) = m_w8 (v / 16777216)) ∧ (2 ≤ i → bb (4 * k + 1) = m_w8 (v / 65536)) ∧ (3 ≤ i → bb (4 * k + 2) = m_w8 (v / 256)) ∧ (4 ≤ i → bb (4 * k + 3) = m_w8 v)
def p_SHR (x : Int) : Prop := ∃ v y k, x = v + 2147483648 + 4294967296 * (y + 2147483648) + 18446744073709551616 * k ∧ -2147483648 ≤ v ∧ v < 2147483648 ∧ -2147483648 ≤ y ∧ y < 2147483648 ∧ (k = 0 → y = v) ∧ (k = 8 → y = v / 256) ∧ (k = 16 → y = v / 65536) ∧ (k = 24 → y = v / 16777216)
def p_CVB (x : Int) : Prop := ∃ v z k, x = v + 2147483648 + 4294967296 * (z + 128) + 1099511627776 * k ∧ -2147483648 ≤ v ∧ v < 2147483648 ∧ -128 ≤ z ∧ z ≤ 127 ∧ (k = 0 → z = m_w8 v) ∧ (k = 8 → z = m_w8 (v / 256)) ∧ (k = 16 → z = m_w8 (v / 65536)) ∧ (k = 24 → z = m_w8 (v / 16777216))
-- ORDER ba qn wo wf wn wc wm ws wi wl xa xb xc xd xe xf xg xh
-- 5209q.mean: what the facts of the stones' counts mean
/-- the class's count behind one; with a slip -/
def m_cb (o c : Int) : Int := if o ≤ c then 1 else c + 1
def m_cw (o c b : Int) : Int := if o < m_cb o c + b then m_cb o c + b - o else m_cb o c + b
def m_tx (o f : Int) (b : Int → Int) : Nat → Int
  | 0 => f
  | s + 1 => m_cw o (m_tx o f b s) (b ((s + 1 : Nat) : Int))
def m_sx (o f : Int) : Nat → Int
  | 0 => f
  | s + 1 => m_cb o (m_sx o f s)
def m_txs (wo wf wn : Int) (xe xk xl : Int → Int) (s t w : Int) : Prop := 0 ≤ s ∧ s ≤ wn ∧ 0 ≤ t ∧ t ≤ 15 ∧ 0 ≤ w ∧ w ≤ 15 ∧ (s < wn → t = m_tx wo wf xe s.toNat ∧ w = m_sx wo wf s.toNat) ∧ ∀ j : Nat, (j : Int) < s → xk j = m_tx wo wf xe j ∧ xl j = m_sx wo wf j
def p_TSX (wo : Int) (wf : Int) (wn : Int) (xe : Int → Int) (xk : Int → Int) (xl : Int → Int) (x : Int) : Prop := ∃ s t w, x = s + 128 * t + 4096 * w ∧ m_txs wo wf wn xe xk xl s t w
def p_TSY (wo : Int) (wf : Int) (wn : Int) (xe : Int → Int) (xk : Int → Int) (xl : Int → Int) (x : Int) : Prop := ∃ s t w, x = s + 128 * t + 4096 * w ∧ m_txs wo wf wn xe xk xl s t w ∧ xk s = t
def p_TSZ (wo : Int) (wf : Int) (wn : Int) (xe : Int → Int) (xk : Int → Int) (xl : Int → Int) (x : Int) : Prop := ∃ s t w, x = s + 128 * t + 4096 * w ∧ m_txs wo wf wn xe xk xl s t w ∧ xk s = t ∧ xl s = w
def p_SETT (wo : Int) (wf : Int) (wn : Int) (xe : Int → Int) (xk : Int → Int) (xl : Int → Int) (x : Int) : Prop := ∀ j : Nat, (j : Int) < wn → xk j = m_tx wo wf xe j ∧ xl j = m_sx wo wf j
def p_CBW (wo : Int) (x : Int) : Prop := ∃ r w, x = r + 16 * w ∧ 0 ≤ r ∧ r ≤ 15 ∧ 0 ≤ w ∧ w ≤ 15 ∧ r = m_cb wo w
def p_CBT (wo : Int) (x : Int) : Prop := ∃ r w, x = r + 16 * w ∧ 0 ≤ r ∧ r ≤ 15 ∧ 0 ≤ w ∧ w ≤ 15 ∧ r = m_cb wo w
def p_BYX (xe : Int → Int) (x : Int) : Prop := ∃ i b, x = i + 128 * b ∧ 0 ≤ i ∧ i ≤ 95 ∧ 0 ≤ b ∧ b ≤ 15 ∧ xe i = b
def m_eqa (a b : Int → Int) : Prop := ∀ i, 0 ≤ i → i < 96 → b i = a i
def p_SWT (ba : Int → Int) (qn : Int) (yo : Int) (yn : Int) (yk : Int → Int) (yl : Int → Int) (x : Int) : Prop := ∃ W, m_at ba qn (m_dn W) ∧ yo = m_wo W ∧ yn = m_tot (m_wcs W) ∧ ∀ j : Nat, (j : Int) < yn → yk j = m_tx (m_wo W) (m_wf W) (m_lk (m_wss W) 0) j ∧ yl j = m_sx (m_wo W) (m_wf W) j
-- the block: A its cells 0 to 5, B those from 7 on
/-- by how much the count slips at a stone -/
def m_byn (B : Int → Int) (s : Int) : Nat → Int
  | 0 => 0
  | k + 1 => if B (14 + (k : Int)) = s then B (20 + (k : Int)) else m_byn B s k
def m_by (A B : Int → Int) (s : Int) : Int := m_byn B s (A 4).toNat
def m_tb (A B : Int → Int) : Nat → Int
  | 0 => A 1
  | s + 1 => m_af (A 0) (m_tb A B s) (m_by A B ((s + 1 : Nat) : Int))
def m_sb (A B : Int → Int) : Nat → Int
  | 0 => A 1
  | s + 1 => m_af (A 0) (m_sb A B s) 0
def m_NB (A B : Int → Int) : Int := m_sum B (A 2).toNat
/-- slips rise, below the stones, and by less than the oath -/
def m_srt (A B : Int → Int) : Prop := 2 ≤ A 0 ∧ A 0 ≤ 13 ∧ 1 ≤ A 1 ∧ A 1 ≤ A 0 ∧ 0 ≤ A 4 ∧ A 4 ≤ 6 ∧ ∀ k, 0 ≤ k → k < A 4 → 1 ≤ B (14 + k) ∧ B (14 + k) < m_NB A B ∧ 1 ≤ B (20 + k) ∧ B (20 + k) < A 0 ∧ (k + 1 < A 4 → B (14 + k) < B (14 + (k + 1)))
def m_TC (yo yn : Int) (yk yl A B : Int → Int) : Prop := yo = A 0 ∧ yn = m_NB A B ∧ m_srt A B ∧ (∀ j : Nat, (j : Int) < yn → yk j = m_tb A B j ∧ yl j = m_sb A B j) ∧ A 2 ≤ 6
def m_ptr (A B : Int → Int) (s k : Int) : Prop := 0 ≤ k ∧ k ≤ A 4 ∧ (∀ j, 0 ≤ j → j < k → B (14 + j) < s) ∧ ∀ j, k ≤ j → j < A 4 → s ≤ B (14 + j)
abbrev m_hl (A B : Int → Int) (s : Int) : Prop := m_tb A B s.toNat = A 0
abbrev m_shl (A B : Int → Int) (s : Int) : Prop := m_sb A B s.toNat = A 0
def p_AE37_16 (xk : Int → Int) (yk : Int → Int) (x : Int) : Prop := m_eqa xk yk
def p_AE16_486 (yk : Int → Int) (yk1 : Int → Int) (x : Int) : Prop := m_eqa yk yk1
def p_AE486_16 (yk : Int → Int) (yk1 : Int → Int) (x : Int) : Prop := m_eqa yk1 yk
def p_AE16_506 (yk : Int → Int) (yk2 : Int → Int) (x : Int) : Prop := m_eqa yk yk2
def p_AE506_16 (yk : Int → Int) (yk2 : Int → Int) (x : Int) : Prop := m_eqa yk2 yk
def p_AE16_526 (yk : Int → Int) (yk3 : Int → Int) (x : Int) : Prop := m_eqa yk yk3
def p_AE526_16 (yk : Int → Int) (yk3 : Int → Int) (x : Int) : Prop := m_eqa yk3 yk
def p_AE38_17 (xl : Int → Int) (yl : Int → Int) (x : Int) : Prop := m_eqa xl yl
def p_AE17_487 (yl : Int → Int) (yl1 : Int → Int) (x : Int) : Prop := m_eqa yl yl1
def p_AE487_17 (yl : Int → Int) (yl1 : Int → Int) (x : Int) : Prop := m_eqa yl1 yl
def p_AE17_507 (yl : Int → Int) (yl2 : Int → Int) (x : Int) : Prop := m_eqa yl yl2
def p_AE507_17 (yl : Int → Int) (yl2 : Int → Int) (x : Int) : Prop := m_eqa yl2 yl
def p_AE17_527 (yl : Int → Int) (yl3 : Int → Int) (x : Int) : Prop := m_eqa yl yl3
def p_AE527_17 (yl : Int → Int) (yl3 : Int → Int) (x : Int) : Prop := m_eqa yl3 yl
def p_TC0 (yo : Int) (yn : Int) (yk : Int → Int) (yl : Int → Int) (cA : Int → Int) (cB : Int → Int) (x : Int) : Prop := m_TC yo yn yk yl cA cB
def p_TC1 (yo1 : Int) (yn1 : Int) (yk1 : Int → Int) (yl1 : Int → Int) (cA1 : Int → Int) (cB1 : Int → Int) (x : Int) : Prop := m_TC yo1 yn1 yk1 yl1 cA1 cB1
def p_TC2 (yo2 : Int) (yn2 : Int) (yk2 : Int → Int) (yl2 : Int → Int) (cA2 : Int → Int) (cB2 : Int → Int) (x : Int) : Prop := m_TC yo2 yn2 yk2 yl2 cA2 cB2
def p_TC3 (yo3 : Int) (yn3 : Int) (yk3 : Int → Int) (yl3 : Int → Int) (cA3 : Int → Int) (cB3 : Int → Int) (x : Int) : Prop := m_TC yo3 yn3 yk3 yl3 cA3 cB3
def p_MK1 (yo : Int) (yn : Int) (yk : Int → Int) (yl : Int → Int) (yo1 : Int) (yn1 : Int) (yk1 : Int → Int) (yl1 : Int → Int) (x : Int) : Prop := yo1 = yo ∧ yn1 = yn ∧ m_eqa yk yk1 ∧ m_eqa yl yl1
def p_MK2 (yo : Int) (yn : Int) (yk : Int → Int) (yl : Int → Int) (yo2 : Int) (yn2 : Int) (yk2 : Int → Int) (yl2 : Int → Int) (x : Int) : Prop := yo2 = yo ∧ yn2 = yn ∧ m_eqa yk yk2 ∧ m_eqa yl yl2
def p_MK3 (yo : Int) (yn : Int) (yk : Int → Int) (yl : Int → Int) (yo3 : Int) (yn3 : Int) (yk3 : Int → Int) (yl3 : Int → Int) (x : Int) : Prop := yo3 = yo ∧ yn3 = yn ∧ m_eqa yk yk3 ∧ m_eqa yl yl3
def p_LC0 (bk : Int → Int) (x : Int) : Prop := ∃ k z, x = k + 512 * (z + 2147483648) ∧ 0 ≤ k ∧ k ≤ 359 ∧ -2147483648 ≤ z ∧ z < 2147483648 ∧ bk k = z
def p_LC1 (bk1 : Int → Int) (x : Int) : Prop := ∃ k z, x = k + 512 * (z + 2147483648) ∧ 0 ≤ k ∧ k ≤ 359 ∧ -2147483648 ≤ z ∧ z < 2147483648 ∧ bk1 k = z
def p_LC2 (bk2 : Int → Int) (x : Int) : Prop := ∃ k z, x = k + 512 * (z + 2147483648) ∧ 0 ≤ k ∧ k ≤ 359 ∧ -2147483648 ≤ z ∧ z < 2147483648 ∧ bk2 k = z
def p_LC3 (bk3 : Int → Int) (x : Int) : Prop := ∃ k z, x = k + 512 * (z + 2147483648) ∧ 0 ≤ k ∧ k ≤ 359 ∧ -2147483648 ≤ z ∧ z < 2147483648 ∧ bk3 k = z
def p_CB01 (bk : Int → Int) (bk1 : Int → Int) (x : Int) : Prop := ∀ j, 0 ≤ j → j < x → j < 360 → bk1 j = bk j
def p_CB02 (bk : Int → Int) (bk2 : Int → Int) (x : Int) : Prop := ∀ j, 0 ≤ j → j < x → j < 360 → bk2 j = bk j
def p_CB03 (bk : Int → Int) (bk3 : Int → Int) (x : Int) : Prop := ∀ j, 0 ≤ j → j < x → j < 360 → bk3 j = bk j
def p_CB10 (bk : Int → Int) (bk1 : Int → Int) (x : Int) : Prop := ∀ j, 0 ≤ j → j < x → j < 360 → bk j = bk1 j
def p_CB20 (bk : Int → Int) (bk2 : Int → Int) (x : Int) : Prop := ∀ j, 0 ≤ j → j < x → j < 360 → bk j = bk2 j
def p_CB30 (bk : Int → Int) (bk3 : Int → Int) (x : Int) : Prop := ∀ j, 0 ≤ j → j < x → j < 360 → bk j = bk3 j
def p_KPT (kp : Int → Int) (cA : Int → Int) (cB : Int → Int) (x : Int) : Prop := (∀ j, 0 ≤ j → j < x → j < 6 → kp j = cA j) ∧ ∀ j, 0 ≤ j → j + 7 < x → j < 42 → kp (7 + j) = cB j
def p_LKP (kp : Int → Int) (x : Int) : Prop := ∃ k z, x = k + 512 * (z + 2147483648) ∧ 0 ≤ k ∧ k ≤ 146 ∧ -2147483648 ≤ z ∧ z < 2147483648 ∧ kp k = z
def p_TV (cA : Int → Int) (cB : Int → Int) (x : Int) : Prop := ∃ i z, x = z + 16 * i ∧ 0 ≤ i ∧ i ≤ 95 ∧ 0 ≤ z ∧ z ≤ 15 ∧ m_tb cA cB i.toNat = z
def p_SWV (cA : Int → Int) (cB : Int → Int) (x : Int) : Prop := ∃ i z, x = z + 16 * i ∧ 0 ≤ i ∧ i ≤ 95 ∧ 0 ≤ z ∧ z ≤ 15 ∧ m_sb cA cB i.toNat = z
def p_HL (cA : Int → Int) (cB : Int → Int) (x : Int) : Prop := 0 ≤ x ∧ x ≤ 95 ∧ m_hl cA cB x
def p_NH (cA : Int → Int) (cB : Int → Int) (x : Int) : Prop := 0 ≤ x ∧ x ≤ 95 ∧ ¬ m_hl cA cB x
def p_CA (ct : Int → Int) (cA : Int → Int) (cB : Int → Int) (x : Int) : Prop := ∃ s k v, x = s + 128 * k + 1024 * v ∧ 0 ≤ s ∧ s ≤ 127 ∧ 0 ≤ v ∧ v ≤ 15 ∧ k ≤ 7 ∧ m_ptr cA cB s k ∧ v = m_tb cA cB (s - 1).toNat ∧ ∀ j : Nat, (j : Int) < s → ct j = m_tb cA cB j
def p_CFX (ct : Int → Int) (cA : Int → Int) (cB : Int → Int) (x : Int) : Prop := ∃ s v, x = s + 1024 * v ∧ 0 ≤ s ∧ s ≤ 127 ∧ 0 ≤ v ∧ v ≤ 15 ∧ v = m_sb cA cB (s - 1).toNat ∧ ∀ j : Nat, (j : Int) < s → ct j = m_sb cA cB j
def p_CAT (ct : Int → Int) (cA : Int → Int) (cB : Int → Int) (x : Int) : Prop := ∀ j : Nat, (j : Int) < m_NB cA cB → ct j = m_tb cA cB j
def p_CFT (ct : Int → Int) (cA : Int → Int) (cB : Int → Int) (x : Int) : Prop := ∀ j : Nat, (j : Int) < m_NB cA cB → ct j = m_sb cA cB j
def p_LSA (cB : Int → Int) (x : Int) : Prop := ∃ k z, x = z + 128 * k ∧ 0 ≤ k ∧ k ≤ 7 ∧ 0 ≤ z ∧ z ≤ 127 ∧ cB (14 + k) = z
def p_LSB (cB : Int → Int) (x : Int) : Prop := ∃ k z, x = z + 16 * k ∧ 0 ≤ k ∧ k ≤ 7 ∧ 0 ≤ z ∧ z ≤ 15 ∧ cB (20 + k) = z
def p_MBY (cA : Int → Int) (cB : Int → Int) (x : Int) : Prop := ∃ k b s, x = k + 8 * b + 128 * s ∧ 0 ≤ k ∧ k ≤ 7 ∧ 0 ≤ b ∧ b ≤ 15 ∧ 0 ≤ s ∧ s ≤ 95 ∧ m_by cA cB s = b ∧ m_ptr cA cB (s + 1) k
/-- how many hollow ones from f on, m of them looked at -/
def m_hc (A B : Int → Int) (f : Int) : Nat → Int
  | 0 => 0
  | m + 1 => m_hc A B f m + if m_hl A B (f + (m : Int)) then 1 else 0
/-- the row of full ones and the longest of them, ahead of s -/
def m_gp (A B : Int → Int) : Nat → Int × Int
  | 0 => (0, 0)
  | s + 1 => if m_hl A B (s : Int) then (0, (m_gp A B s).2) else ((m_gp A B s).1 + 1, if (m_gp A B s).2 ≤ (m_gp A B s).1 + 1 then (m_gp A B s).1 + 1 else (m_gp A B s).2)
def p_HC (cA : Int → Int) (cB : Int → Int) (x : Int) : Prop := ∃ n s f, x = n + 128 * s + 16384 * f ∧ 0 ≤ n ∧ n ≤ 127 ∧ 0 ≤ f ∧ f ≤ s ∧ s ≤ 127 ∧ n = m_hc cA cB f (s - f).toNat
def p_HCC (cA : Int → Int) (cB : Int → Int) (x : Int) : Prop := ∃ n s f, x = n + 128 * s + 16384 * f ∧ 0 ≤ n ∧ n ≤ 127 ∧ 0 ≤ f ∧ f ≤ s ∧ s ≤ 127 ∧ n = m_hc cA cB f (s - f).toNat
def p_HAX (cA : Int → Int) (cB : Int → Int) (x : Int) : Prop := ∃ n s k, x = n + 128 * s + 16384 * (k + 2147483648) ∧ 0 ≤ n ∧ n ≤ 127 ∧ 0 ≤ s ∧ s ≤ 127 ∧ n ≤ s ∧ -2147483648 ≤ k ∧ n = m_hc cA cB 0 s.toNat ∧ ∀ j : Nat, (j : Int) < s → m_hl cA cB j → m_hc cA cB 0 j ≠ k
def p_HAR (cA : Int → Int) (cB : Int → Int) (x : Int) : Prop := ∃ s k, x = s + 128 * (k + 2147483648) ∧ 0 ≤ s ∧ s ≤ 95 ∧ -2147483648 ≤ k ∧ s < m_NB cA cB ∧ m_hl cA cB s ∧ m_hc cA cB 0 s.toNat = k
def p_HAN (cA : Int → Int) (cB : Int → Int) (x : Int) : Prop := ∀ j : Nat, (j : Int) < m_NB cA cB → m_hl cA cB j → m_hc cA cB 0 j ≠ x - 2147483648
def p_NXH (cA : Int → Int) (cB : Int → Int) (x : Int) : Prop := ∃ f s, x = f + 128 * s ∧ 0 ≤ f ∧ f ≤ 127 ∧ f ≤ s ∧ s ≤ 127 ∧ ∀ j, f ≤ j → j < s → ¬ m_hl cA cB j
def p_NXQ (cA : Int → Int) (cB : Int → Int) (x : Int) : Prop := ∃ f s, x = f + 128 * s ∧ 0 ≤ f ∧ f ≤ 127 ∧ f ≤ s ∧ s ≤ 127 ∧ m_hl cA cB s ∧ s < m_NB cA cB ∧ ∀ j, f ≤ j → j < s → ¬ m_hl cA cB j
def p_NXN (cA : Int → Int) (cB : Int → Int) (x : Int) : Prop := ∀ j, x ≤ j → j < m_NB cA cB → ¬ m_hl cA cB j
def p_GPX (cA : Int → Int) (cB : Int → Int) (x : Int) : Prop := ∃ s q m, x = s + 128 * q + 16384 * m ∧ 0 ≤ s ∧ s ≤ 127 ∧ 0 ≤ q ∧ q ≤ 127 ∧ 0 ≤ m ∧ m ≤ 127 ∧ q ≤ s ∧ m ≤ s ∧ m_gp cA cB s.toNat = (q, m)
def p_GPC (cA : Int → Int) (cB : Int → Int) (x : Int) : Prop := x = (m_gp cA cB (m_NB cA cB).toNat).2
def p_SHF (cA : Int → Int) (cB : Int → Int) (x : Int) : Prop := ∃ i y, x = i + 128 * y ∧ 0 ≤ i ∧ i ≤ 95 ∧ 0 ≤ y ∧ y ≤ 15 ∧ y = (m_tb cA cB i.toNat - m_sb cA cB i.toNat) % cA 0
def p_SHC (cA : Int → Int) (cB : Int → Int) (x : Int) : Prop := ∃ i y, x = i + 128 * y ∧ 0 ≤ i ∧ i ≤ 95 ∧ 0 ≤ y ∧ y ≤ 15 ∧ y = (m_tb cA cB i.toNat - m_sb cA cB i.toNat) % cA 0
def p_SHL (cA : Int → Int) (cB : Int → Int) (x : Int) : Prop := 0 ≤ x ∧ x ≤ 95 ∧ m_shl cA cB x
def p_SHN (cA : Int → Int) (cB : Int → Int) (x : Int) : Prop := 0 ≤ x ∧ x ≤ 95 ∧ ¬ m_shl cA cB x
def p_ASX (cA : Int → Int) (cB : Int → Int) (x : Int) : Prop := ∀ j, 0 ≤ j → j < x → (m_hl cA cB j ↔ m_shl cA cB j)
def p_ASR (cA : Int → Int) (cB : Int → Int) (x : Int) : Prop := 0 ≤ x ∧ x < m_NB cA cB ∧ ¬ (m_hl cA cB x ↔ m_shl cA cB x) ∧ ∀ j, 0 ≤ j → j < x → (m_hl cA cB j ↔ m_shl cA cB j)
def p_ASN (cA : Int → Int) (cB : Int → Int) (x : Int) : Prop := ∀ j, 0 ≤ j → j < m_NB cA cB → (m_hl cA cB j ↔ m_shl cA cB j)
def p_KN18 (sn : Int → Int) (x : Int) : Prop := ∃ i z, x = z + 1 + 4 * i ∧ 0 ≤ i ∧ i ≤ 95 ∧ -1 ≤ z ∧ z ≤ 2 ∧ sn i = z
-- 5209r.mean: what the facts of join, dated, years and against mean (A2)
-- the block: A its cells 0 to 5, B those from 7 on; finds: their stones B (26 + k), their years B (34 + k), A 5 of them
def m_yfn (B : Int → Int) (s : Int) : Nat → Int
  | 0 => -1
  | k + 1 => if B (26 + (k : Int)) = s then B (34 + (k : Int)) else m_yfn B s k
/-- the year of the find at s, -1 where none is -/
def m_yf (A B : Int → Int) (s : Int) : Int := m_yfn B s (A 5).toNat
/-- finds: no two at one stone, all below the stones, years from 0 to 9999 -/
def m_fok (A B : Int → Int) : Prop := 0 ≤ A 5 ∧ A 5 ≤ 8 ∧ (∀ k, 0 ≤ k → k < A 5 → 0 ≤ B (26 + k) ∧ B (26 + k) < m_NB A B ∧ 0 ≤ B (34 + k) ∧ B (34 + k) ≤ 9999) ∧ ∀ i j, 0 ≤ i → i < j → j < A 5 → B (26 + i) ≠ B (26 + j)
def m_TF (fy A B : Int → Int) : Prop := m_fok A B ∧ (∀ i, 0 ≤ i → i < m_NB A B → fy i = m_yf A B i) ∧ A 2 ≤ 6 ∧ m_NB A B ≤ 96
/-- hollow and a find -/
abbrev m_hf (A B : Int → Int) (s : Int) : Prop := m_hl A B s ∧ 0 ≤ m_yf A B s
/-- the most of the rows whose year is no later than y -/
def m_mxs (y m : Int) (q : Int × Int) : Int := if q.1 ≤ y then (if m ≤ q.2 then q.2 else m) else m
def m_mx (P : List (Int × Int)) (y : Int) : Int := P.foldl (m_mxs y) 0
/-- the hollow finds below s: year and row -/
def m_hfp (A B : Int → Int) : Nat → List (Int × Int)
  | 0 => []
  | s + 1 => if m_hf A B (s : Int) then m_hfp A B s ++ [(m_yf A B (s : Int), 1 + m_mx (m_hfp A B s) (m_yf A B (s : Int)))] else m_hfp A B s
/-- how many have a later year -/
def m_lts (y m : Int) (q : Int × Int) : Int := if y < q.1 then m + 1 else m
def m_lt (P : List (Int × Int)) (y : Int) : Int := P.foldl (m_lts y) 0
/-- the couples -/
def m_ag (A B : Int → Int) : Nat → Int
  | 0 => 0
  | s + 1 => m_ag A B s + if m_hf A B (s : Int) then m_lt (m_hfp A B s) (m_yf A B (s : Int)) else 0
/-- the row up to s, 0 where no hollow find is -/
def m_row (A B : Int → Int) (s : Int) : Int := if m_hf A B s then 1 + m_mx (m_hfp A B s.toNat) (m_yf A B s) else 0
/-- the longest row below s -/
def m_rl (A B : Int → Int) : Nat → Int
  | 0 => 0
  | s + 1 => if m_rl A B s ≤ m_row A B (s : Int) then m_row A B (s : Int) else m_rl A B s
def m_PN (A B : Int → Int) : List (Int × Int) := m_hfp A B (m_NB A B).toNat
-- the facts (places: fy fy1 fy2 fy3 the class's years told and the marks', xf the reader's, yv yearOf, ru rowUpTo, lg longest)
def p_YF (cA : Int → Int) (cB : Int → Int) (x : Int) : Prop := ∃ i z, x = z + 1 + 16384 * i ∧ 0 ≤ i ∧ i ≤ 95 ∧ -1 ≤ z ∧ z ≤ 9999 ∧ m_yf cA cB i = z
def p_EAX (cA : Int → Int) (cB : Int → Int) (x : Int) : Prop := ∃ s a, x = s + 1 + 128 * a ∧ -1 ≤ s ∧ s ≤ a ∧ a ≤ 95 ∧ ∀ j, s < j → j ≤ a → m_yf cA cB j = -1
def p_LAX (cA : Int → Int) (cB : Int → Int) (x : Int) : Prop := ∃ s a, x = s + 128 * a ∧ 0 ≤ a ∧ a ≤ s ∧ s ≤ 127 ∧ a ≤ 95 ∧ ∀ j, a ≤ j → j < s → m_yf cA cB j = -1
/-- the nearest year at or ahead of a, -1: none -/
def m_ea (A B : Int → Int) (a y : Int) : Prop := (y = -1 ∧ ∀ j, 0 ≤ j → j ≤ a → m_yf A B j = -1) ∨ (0 ≤ y ∧ ∃ s, 0 ≤ s ∧ s ≤ a ∧ m_yf A B s = y ∧ ∀ j, s < j → j ≤ a → m_yf A B j = -1)
def m_la (A B : Int → Int) (a y : Int) : Prop := (y = -1 ∧ ∀ j, a ≤ j → j < m_NB A B → m_yf A B j = -1) ∨ (0 ≤ y ∧ ∃ s, a ≤ s ∧ s < m_NB A B ∧ m_yf A B s = y ∧ ∀ j, a ≤ j → j < s → m_yf A B j = -1)
def p_EAR (cA : Int → Int) (cB : Int → Int) (x : Int) : Prop := ∃ a y, x = y + 1 + 16384 * a ∧ 0 ≤ a ∧ a ≤ 95 ∧ -1 ≤ y ∧ y ≤ 9999 ∧ m_ea cA cB a y
def p_LAR (cA : Int → Int) (cB : Int → Int) (x : Int) : Prop := ∃ a y, x = y + 1 + 16384 * a ∧ 0 ≤ a ∧ a ≤ 95 ∧ -1 ≤ y ∧ y ≤ 9999 ∧ m_la cA cB a y
def p_FNL (cA : Int → Int) (cB : Int → Int) (x : Int) : Prop := ∃ k s, x = k + 16 * s ∧ 0 ≤ k ∧ k ≤ 15 ∧ 0 ≤ s ∧ s ≤ 95 ∧ ∀ j, 0 ≤ j → j < k → j < 8 → cB (26 + j) ≠ s
def p_FNO (cA : Int → Int) (cB : Int → Int) (x : Int) : Prop := 0 ≤ x ∧ x ≤ 95 ∧ ∀ j, 0 ≤ j → j < cA 5 → cB (26 + j) ≠ x
/-- LOW l + 1 + 2^14 k: l the nearest year ahead of k (stones below k); HIG the same from k + 1 on, k one less -/
def p_LOW (cA : Int → Int) (cB : Int → Int) (x : Int) : Prop := ∃ k l, x = l + 1 + 16384 * k ∧ 0 ≤ k ∧ k ≤ 96 ∧ -1 ≤ l ∧ l ≤ 9999 ∧ m_ea cA cB (k - 1) l
def p_HIG (cA : Int → Int) (cB : Int → Int) (x : Int) : Prop := ∃ k l, x = l + 1 + 16384 * k ∧ 0 ≤ k ∧ k ≤ 96 ∧ -1 ≤ l ∧ l ≤ 9999 ∧ m_la cA cB k l
def p_HFY (cA : Int → Int) (cB : Int → Int) (x : Int) : Prop := ∃ i z, x = z + 16384 * i ∧ 0 ≤ i ∧ i ≤ 95 ∧ 0 ≤ z ∧ z ≤ 9999 ∧ m_hl cA cB i ∧ m_yf cA cB i = z
def p_HFS (cA : Int → Int) (cB : Int → Int) (x : Int) : Prop := ∃ i z, x = z + 16384 * i ∧ 0 ≤ i ∧ i ≤ 95 ∧ 0 ≤ z ∧ z ≤ 9999 ∧ m_hl cA cB i ∧ m_yf cA cB i = z
def p_NHF (cA : Int → Int) (cB : Int → Int) (x : Int) : Prop := 0 ≤ x ∧ x ≤ 95 ∧ ¬ m_hf cA cB x
def p_AGO (cA : Int → Int) (cB : Int → Int) (x : Int) : Prop := ∃ s n, x = s + 128 * n ∧ 0 ≤ s ∧ s ≤ 127 ∧ n = m_ag cA cB s.toNat
def p_AGI (cA : Int → Int) (cB : Int → Int) (x : Int) : Prop := ∃ t s n, x = t + 128 * s + 16384 * n ∧ 0 ≤ t ∧ t ≤ 127 ∧ 0 ≤ s ∧ s ≤ 127 ∧ n = m_ag cA cB s.toNat + if m_hf cA cB s then m_lt (m_hfp cA cB t.toNat) (m_yf cA cB s) else 0
def p_AGR (cA : Int → Int) (cB : Int → Int) (x : Int) : Prop := x = m_ag cA cB (m_NB cA cB).toNat
def m_yvs (P : List (Int × Int)) (yv : Int → Int) : Prop := P.length ≤ 8 ∧ ∀ k : Nat, k < P.length → (P[k]?).map Prod.fst = some (yv k) ∧ 0 ≤ yv k ∧ yv k ≤ 9999
def p_YX (cA : Int → Int) (cB : Int → Int) (yv : Int → Int) (x : Int) : Prop := ∃ n s, x = n + 16 * s ∧ 0 ≤ n ∧ n ≤ 15 ∧ 0 ≤ s ∧ s ≤ 127 ∧ n = (m_hfp cA cB s.toNat).length ∧ m_yvs (m_hfp cA cB s.toNat) yv
def p_YXR (cA : Int → Int) (cB : Int → Int) (yv : Int → Int) (x : Int) : Prop := x = (m_PN cA cB).length ∧ m_yvs (m_PN cA cB) yv
def p_YVI (cA : Int → Int) (cB : Int → Int) (x : Int) : Prop := ∃ i z, x = z + 16384 * i ∧ 0 ≤ i ∧ i ≤ 7 ∧ 0 ≤ z ∧ z ≤ 9999 ∧ ((m_PN cA cB)[i.toNat]?).map Prod.fst = some z
def p_YVK (cA : Int → Int) (cB : Int → Int) (x : Int) : Prop := ∃ i z, x = z + 16384 * i ∧ 0 ≤ i ∧ i ≤ 7 ∧ 0 ≤ z ∧ z ≤ 9999 ∧ ((m_PN cA cB)[i.toNat]?).map Prod.fst = some z
/-- the couples by the years' places -/
def m_bt (P : List (Int × Int)) (k i : Nat) : Int := ((P[k]?).map fun q => m_lt (P.take i) q.1).getD 0
def m_bgs (P : List (Int × Int)) : Nat → Int
  | 0 => 0
  | k + 1 => m_bgs P k + m_bt P k k
def p_BGO (cA : Int → Int) (cB : Int → Int) (x : Int) : Prop := ∃ k n, x = k + 16 * n ∧ 0 ≤ k ∧ k ≤ 15 ∧ (m_PN cA cB).length ≤ 8 ∧ n = m_bgs (m_PN cA cB) k.toNat
def p_BGI (cA : Int → Int) (cB : Int → Int) (x : Int) : Prop := ∃ i k n, x = i + 16 * k + 256 * n ∧ 0 ≤ i ∧ i ≤ 15 ∧ 0 ≤ k ∧ k ≤ 15 ∧ (m_PN cA cB).length ≤ 8 ∧ n = m_bgs (m_PN cA cB) k.toNat + m_bt (m_PN cA cB) k.toNat i.toNat
-- the longest row: the class's (ru: rowUpTo), the reference's (lg: longest)
def p_RWO (cA : Int → Int) (cB : Int → Int) (ru : Int → Int) (x : Int) : Prop := 0 ≤ x ∧ ∀ j : Nat, (j : Int) < x → j ≤ 95 → ru j = m_row cA cB j
def p_RWI (cA : Int → Int) (cB : Int → Int) (ru : Int → Int) (x : Int) : Prop := ∃ t s, x = t + 128 * s ∧ 0 ≤ t ∧ t ≤ s ∧ s ≤ 95 ∧ (∀ j : Nat, (j : Int) < s → ru j = m_row cA cB j) ∧ ru s = m_mx (m_hfp cA cB t.toNat) (m_yf cA cB s)
def p_RTV (cA : Int → Int) (cB : Int → Int) (x : Int) : Prop := ∃ i z, x = i + 128 * z ∧ 0 ≤ i ∧ i ≤ 95 ∧ 0 ≤ z ∧ z ≤ 96 ∧ z = m_row cA cB i
def p_RTW (cA : Int → Int) (cB : Int → Int) (x : Int) : Prop := ∃ t i z, x = t + 128 * i + 16384 * z ∧ 0 ≤ t ∧ t ≤ 127 ∧ 0 ≤ i ∧ i ≤ 95 ∧ 0 ≤ z ∧ z ≤ 96 ∧ z = m_mx (m_hfp cA cB t.toNat) (m_yf cA cB i)
def p_RLO (cA : Int → Int) (cB : Int → Int) (x : Int) : Prop := ∃ s m, x = s + 128 * m ∧ 0 ≤ s ∧ s ≤ 127 ∧ m = m_rl cA cB s.toNat
def p_RLR (cA : Int → Int) (cB : Int → Int) (x : Int) : Prop := x = m_rl cA cB (m_NB cA cB).toNat
/-- the k-th year, the k-th row -/
def m_yk (P : List (Int × Int)) (k : Nat) : Int := ((P[k]?).map Prod.fst).getD 0
def m_rk (P : List (Int × Int)) (k : Nat) : Int := ((P[k]?).map Prod.snd).getD 0
def m_ml (P : List (Int × Int)) : Nat → Int
  | 0 => 0
  | k + 1 => if m_ml P k ≤ m_rk P k then m_rk P k else m_ml P k
def p_LGO (cA : Int → Int) (cB : Int → Int) (lg : Int → Int) (x : Int) : Prop := 0 ≤ x ∧ x ≤ 15 ∧ ∀ j : Nat, (j : Int) < x → lg j = m_rk (m_PN cA cB) j
def p_LGI (cA : Int → Int) (cB : Int → Int) (lg : Int → Int) (x : Int) : Prop := ∃ i k, x = i + 16 * k ∧ 0 ≤ i ∧ i ≤ 15 ∧ 0 ≤ k ∧ k ≤ 7 ∧ (∀ j : Nat, (j : Int) < k → lg j = m_rk (m_PN cA cB) j) ∧ lg k = 1 + m_mx ((m_PN cA cB).take i.toNat) (m_yk (m_PN cA cB) k.toNat)
def p_LGV (cA : Int → Int) (cB : Int → Int) (x : Int) : Prop := ∃ i z, x = i + 16 * z ∧ 0 ≤ i ∧ i ≤ 7 ∧ 0 ≤ z ∧ z ≤ 96 ∧ z = m_rk (m_PN cA cB) i.toNat
def p_LGW (cA : Int → Int) (cB : Int → Int) (x : Int) : Prop := ∃ j i z, x = j + 16 * i + 256 * z ∧ 0 ≤ j ∧ j ≤ 15 ∧ 0 ≤ i ∧ i ≤ 7 ∧ 0 ≤ z ∧ z ≤ 96 ∧ z = 1 + m_mx ((m_PN cA cB).take j.toNat) (m_yk (m_PN cA cB) i.toNat)
def p_MLO (cA : Int → Int) (cB : Int → Int) (x : Int) : Prop := ∃ k m, x = k + 16 * m ∧ 0 ≤ k ∧ k ≤ 15 ∧ m = m_ml (m_PN cA cB) k.toNat
-- join
/-- how many times both are at their oaths, s stones on: o the wall's oath, l its last count -/
def m_jn (o l n b : Int) : Nat → Int
  | 0 => 0
  | s + 1 => m_jn o l n b s + if (l + (s : Int) + 1) % o = 0 ∧ (b + (s : Int)) % n = 0 then 1 else 0
def m_jl (A B : Int → Int) : Int := m_tb A B (m_NB A B - 1).toNat
def m_jp (n b : Int) : Prop := 2 ≤ n ∧ n ≤ 13 ∧ 1 ≤ b ∧ b ≤ n
def p_JO (cA : Int → Int) (cB : Int → Int) (x : Int) : Prop := ∃ u s, x = u + 16 * s ∧ 0 ≤ u ∧ u ≤ 15 ∧ 0 ≤ s ∧ u = (m_jl cA cB + s - 1) % cA 0 + 1 ∧ 1 ≤ m_jl cA cB ∧ m_jl cA cB ≤ cA 0 ∧ 2 ≤ cA 0 ∧ cA 0 ≤ 13
def p_JT (x : Int) : Prop := ∃ t s n b, x = t + 16 * s + 4096 * n + 65536 * b ∧ 0 ≤ t ∧ t ≤ 15 ∧ 0 ≤ s ∧ s ≤ 255 ∧ m_jp n b ∧ t = (b + s - 1) % n + 1
def p_JN (cA : Int → Int) (cB : Int → Int) (x : Int) : Prop := ∃ v s n b, x = v + 256 * s + 65536 * n + 1048576 * b ∧ 0 ≤ v ∧ v ≤ 255 ∧ 0 ≤ s ∧ s ≤ 255 ∧ m_jp n b ∧ v = m_jn (cA 0) (m_jl cA cB) n b s.toNat
def p_JNR (cA : Int → Int) (cB : Int → Int) (x : Int) : Prop := ∃ v s n b, x = v + 256 * s + 65536 * n + 1048576 * b ∧ 0 ≤ v ∧ v ≤ 255 ∧ 0 ≤ s ∧ s ≤ 255 ∧ m_jp n b ∧ v = m_jn (cA 0) (m_jl cA cB) n b s.toNat
def p_MRA (x : Int) : Prop := ∃ z y b k, x = z + 16 * y + 256 * b + 4096 * k ∧ 0 ≤ z ∧ z < y ∧ y ≤ 13 ∧ 1 ≤ b ∧ b ≤ 15 ∧ 0 ≤ k ∧ z = (b + k) % y
def p_MRB (cA : Int → Int) (cB : Int → Int) (x : Int) : Prop := ∃ z k, x = z + 16 * k ∧ 0 ≤ z ∧ z ≤ 15 ∧ 0 ≤ k ∧ z = (m_jl cA cB + k + 1) % cA 0
-- the class's years told: the reader's, the site's, the marks'
def p_AE36_15 (xf : Int → Int) (fy : Int → Int) (x : Int) : Prop := m_eqa xf fy
def p_AE15_485 (fy : Int → Int) (fy1 : Int → Int) (x : Int) : Prop := m_eqa fy fy1
def p_AE485_15 (fy : Int → Int) (fy1 : Int → Int) (x : Int) : Prop := m_eqa fy1 fy
def p_AE15_505 (fy : Int → Int) (fy2 : Int → Int) (x : Int) : Prop := m_eqa fy fy2
def p_AE505_15 (fy : Int → Int) (fy2 : Int → Int) (x : Int) : Prop := m_eqa fy2 fy
def p_AE15_525 (fy : Int → Int) (fy3 : Int → Int) (x : Int) : Prop := m_eqa fy fy3
def p_AE525_15 (fy : Int → Int) (fy3 : Int → Int) (x : Int) : Prop := m_eqa fy3 fy
def p_SFW (ba : Int → Int) (qn : Int) (fy : Int → Int) (x : Int) : Prop := ∃ W, m_at ba qn (m_dn W) ∧ ∀ i, 0 ≤ i → i < 96 → fy i = m_lk (m_wfs W) (-1) i
def p_TF0 (fy : Int → Int) (cA : Int → Int) (cB : Int → Int) (x : Int) : Prop := m_TF fy cA cB
def p_TF1 (fy1 : Int → Int) (cA1 : Int → Int) (cB1 : Int → Int) (x : Int) : Prop := m_TF fy1 cA1 cB1
def p_TF2 (fy2 : Int → Int) (cA2 : Int → Int) (cB2 : Int → Int) (x : Int) : Prop := m_TF fy2 cA2 cB2
def p_TF3 (fy3 : Int → Int) (cA3 : Int → Int) (cB3 : Int → Int) (x : Int) : Prop := m_TF fy3 cA3 cB3
def p_MF1 (fy : Int → Int) (fy1 : Int → Int) (x : Int) : Prop := m_eqa fy fy1
def p_MF2 (fy : Int → Int) (fy2 : Int → Int) (x : Int) : Prop := m_eqa fy fy2
def p_MF3 (fy : Int → Int) (fy3 : Int → Int) (x : Int) : Prop := m_eqa fy fy3
set_option maxRecDepth 100000 in
def m_P (code : Nat) (x : Int) (g : mG) : Prop :=
  bif Nat.beq code 475368975085586025561264751042 then p_YF (m_ac g 539 0 6) (m_ac g 539 7 42) x else
  bif Nat.beq code 475368975085586025561264751043 then p_EAX (m_ac g 539 0 6) (m_ac g 539 7 42) x else
  bif Nat.beq code 475368975085586025561264751045 then p_LAX (m_ac g 539 0 6) (m_ac g 539 7 42) x else
  bif Nat.beq code 475368975085586025561264751044 then p_EAR (m_ac g 539 0 6) (m_ac g 539 7 42) x else
  bif Nat.beq code 475368975085586025561264751046 then p_LAR (m_ac g 539 0 6) (m_ac g 539 7 42) x else
  bif Nat.beq code 475368975085586025561264751047 then p_FNL (m_ac g 539 0 6) (m_ac g 539 7 42) x else
  bif Nat.beq code 475368975085586025561264751048 then p_FNO (m_ac g 539 0 6) (m_ac g 539 7 42) x else
  bif Nat.beq code 475368975085586025561264751049 then p_LOW (m_ac g 539 0 6) (m_ac g 539 7 42) x else
  bif Nat.beq code 475368975085586025561264751050 then p_HIG (m_ac g 539 0 6) (m_ac g 539 7 42) x else
  bif Nat.beq code 475368975085586025561264751062 then p_HFY (m_ac g 539 0 6) (m_ac g 539 7 42) x else
  bif Nat.beq code 475368975085586025561264751063 then p_HFS (m_ac g 539 0 6) (m_ac g 539 7 42) x else
  bif Nat.beq code 475368975085586025561264751064 then p_NHF (m_ac g 539 0 6) (m_ac g 539 7 42) x else
  bif Nat.beq code 475368975085586025561264751065 then p_AGO (m_ac g 539 0 6) (m_ac g 539 7 42) x else
  bif Nat.beq code 475368975085586025561264751066 then p_AGI (m_ac g 539 0 6) (m_ac g 539 7 42) x else
  bif Nat.beq code 475368975085586025561264751067 then p_AGR (m_ac g 539 0 6) (m_ac g 539 7 42) x else
  bif Nat.beq code 475368975085586025578444620252 then p_YX (m_ac g 539 0 6) (m_ac g 539 7 42) (m_ac g 554 0 8) x else
  bif Nat.beq code 475368975085586025578444620253 then p_YXR (m_ac g 539 0 6) (m_ac g 539 7 42) (m_ac g 554 0 8) x else
  bif Nat.beq code 475368975085586025561264751070 then p_YVI (m_ac g 539 0 6) (m_ac g 539 7 42) x else
  bif Nat.beq code 475368975085586025561264751071 then p_YVK (m_ac g 539 0 6) (m_ac g 539 7 42) x else
  bif Nat.beq code 475368975085586025561264751072 then p_BGO (m_ac g 539 0 6) (m_ac g 539 7 42) x else
  bif Nat.beq code 475368975085586025561264751073 then p_BGI (m_ac g 539 0 6) (m_ac g 539 7 42) x else
  bif Nat.beq code 83077225105532327642513502532272618 then p_RWO (m_ac g 539 0 6) (m_ac g 539 7 42) (m_ac g 465 0 96) x else
  bif Nat.beq code 83077225105532327642513502532272619 then p_RWI (m_ac g 539 0 6) (m_ac g 539 7 42) (m_ac g 465 0 96) x else
  bif Nat.beq code 475368975085586025561264751084 then p_RTV (m_ac g 539 0 6) (m_ac g 539 7 42) x else
  bif Nat.beq code 475368975085586025561264751085 then p_RTW (m_ac g 539 0 6) (m_ac g 539 7 42) x else
  bif Nat.beq code 475368975085586025561264751086 then p_RLO (m_ac g 539 0 6) (m_ac g 539 7 42) x else
  bif Nat.beq code 475368975085586025561264751087 then p_RLR (m_ac g 539 0 6) (m_ac g 539 7 42) x else
  bif Nat.beq code 475368975085586025595624489456 then p_LGO (m_ac g 539 0 6) (m_ac g 539 7 42) (m_ac g 555 0 8) x else
  bif Nat.beq code 475368975085586025595624489457 then p_LGI (m_ac g 539 0 6) (m_ac g 539 7 42) (m_ac g 555 0 8) x else
  bif Nat.beq code 475368975085586025561264751090 then p_LGV (m_ac g 539 0 6) (m_ac g 539 7 42) x else
  bif Nat.beq code 475368975085586025561264751091 then p_LGW (m_ac g 539 0 6) (m_ac g 539 7 42) x else
  bif Nat.beq code 475368975085586025561264751092 then p_MLO (m_ac g 539 0 6) (m_ac g 539 7 42) x else
  bif Nat.beq code 475368975085586025561264751002 then p_JO (m_ac g 539 0 6) (m_ac g 539 7 42) x else
  bif Nat.beq code 1048987 then p_JT x else
  bif Nat.beq code 475368975085586025561264751004 then p_JN (m_ac g 539 0 6) (m_ac g 539 7 42) x else
  bif Nat.beq code 475368975085586025561264751005 then p_JNR (m_ac g 539 0 6) (m_ac g 539 7 42) x else
  bif Nat.beq code 1048990 then p_MRA x else
  bif Nat.beq code 475368975085586025561264751007 then p_MRB (m_ac g 539 0 6) (m_ac g 539 7 42) x else
  bif Nat.beq code 5192296860952679267759754679681454 then p_AE36_15 (m_ac g 36 0 96) (m_ac g 15 0 96) x else
  bif Nat.beq code 15576890575604482885591488988709295 then p_AE15_485 (m_ac g 15 0 96) (m_ac g 485 0 96) x else
  bif Nat.beq code 15576890575604482885591488988709296 then p_AE485_15 (m_ac g 15 0 96) (m_ac g 485 0 96) x else
  bif Nat.beq code 25961484292674138142652481647149489 then p_AE15_505 (m_ac g 15 0 96) (m_ac g 505 0 96) x else
  bif Nat.beq code 25961484292674138142652481647149490 then p_AE505_15 (m_ac g 15 0 96) (m_ac g 505 0 96) x else
  bif Nat.beq code 46730671726813448656774466964029875 then p_AE15_525 (m_ac g 15 0 96) (m_ac g 525 0 96) x else
  bif Nat.beq code 46730671726813448656774466964029876 then p_AE525_15 (m_ac g 15 0 96) (m_ac g 525 0 96) x else
  bif Nat.beq code 5192296858534841463588551612432824 then p_SFW (m_ac g 3 0 900) (g 2 7) (m_ac g 15 0 96) x else
  bif Nat.beq code 5192772227509913214556057593971129 then p_TF0 (m_ac g 15 0 96) (m_ac g 539 0 6) (m_ac g 539 7 42) x else
  bif Nat.beq code 10388396668870339945265482769105338 then p_TF1 (m_ac g 485 0 96) (m_ac g 539 360 6) (m_ac g 539 367 42) x else
  bif Nat.beq code 20799611048544788019757906194858427 then p_TF2 (m_ac g 505 0 96) (m_ac g 539 720 6) (m_ac g 539 727 42) x else
  bif Nat.beq code 41781763783522441073331337650241980 then p_TF3 (m_ac g 525 0 96) (m_ac g 539 1080 6) (m_ac g 539 1087 42) x else
  bif Nat.beq code 15576890575604482885591488988709310 then p_MF1 (m_ac g 15 0 96) (m_ac g 485 0 96) x else
  bif Nat.beq code 25961484292674138142652481647149503 then p_MF2 (m_ac g 15 0 96) (m_ac g 505 0 96) x else
  bif Nat.beq code 46730671726813448656774466964029888 then p_MF3 (m_ac g 15 0 96) (m_ac g 525 0 96) x else
  bif Nat.beq code 272008309413291564309938496 then p_TSX (g 26 0) (g 26 1) (g 26 2) (m_ac g 35 0 96) (m_ac g 37 0 96) (m_ac g 38 0 96) x else
  bif Nat.beq code 272008309413291564309938497 then p_TSY (g 26 0) (g 26 1) (g 26 2) (m_ac g 35 0 96) (m_ac g 37 0 96) (m_ac g 38 0 96) x else
  bif Nat.beq code 272008309413291564309938498 then p_TSZ (g 26 0) (g 26 1) (g 26 2) (m_ac g 35 0 96) (m_ac g 37 0 96) (m_ac g 38 0 96) x else
  bif Nat.beq code 272008309413291564309938499 then p_SETT (g 26 0) (g 26 1) (g 26 2) (m_ac g 35 0 96) (m_ac g 37 0 96) (m_ac g 38 0 96) x else
  bif Nat.beq code 38685626227668133591646532 then p_CBW (g 26 0) x else
  bif Nat.beq code 38685626227668133591646533 then p_CBT (g 26 0) x else
  bif Nat.beq code 1208925819614629175755078 then p_BYX (m_ac g 35 0 96) x else
  bif Nat.beq code 84489407695062261817148440921 then p_SWT (m_ac g 3 0 900) (g 2 7) (g 5 0) (g 5 2) (m_ac g 16 0 96) (m_ac g 17 0 96) x else
  bif Nat.beq code 386856262276681335907025226 then p_AE37_16 (m_ac g 37 0 96) (m_ac g 16 0 96) x else
  bif Nat.beq code 928455029464035206175392075 then p_AE16_486 (m_ac g 16 0 96) (m_ac g 486 0 96) x else
  bif Nat.beq code 928455029464035206175392076 then p_AE486_16 (m_ac g 16 0 96) (m_ac g 486 0 96) x else
  bif Nat.beq code 1547425049106725343624954189 then p_AE16_506 (m_ac g 16 0 96) (m_ac g 506 0 96) x else
  bif Nat.beq code 1547425049106725343624954190 then p_AE506_16 (m_ac g 16 0 96) (m_ac g 506 0 96) x else
  bif Nat.beq code 2785365088392105618524078415 then p_AE16_526 (m_ac g 16 0 96) (m_ac g 526 0 96) x else
  bif Nat.beq code 2785365088392105618524078416 then p_AE526_16 (m_ac g 16 0 96) (m_ac g 526 0 96) x else
  bif Nat.beq code 5106502662052193633959936337 then p_AE38_17 (m_ac g 38 0 96) (m_ac g 17 0 96) x else
  bif Nat.beq code 14855280471424563298790539602 then p_AE17_487 (m_ac g 17 0 96) (m_ac g 487 0 96) x else
  bif Nat.beq code 14855280471424563298790539603 then p_AE487_17 (m_ac g 17 0 96) (m_ac g 487 0 96) x else
  bif Nat.beq code 24758800785707605497983533396 then p_AE17_507 (m_ac g 17 0 96) (m_ac g 507 0 96) x else
  bif Nat.beq code 24758800785707605497983533397 then p_AE507_17 (m_ac g 17 0 96) (m_ac g 507 0 96) x else
  bif Nat.beq code 44565841414273689896369520982 then p_AE17_527 (m_ac g 17 0 96) (m_ac g 527 0 96) x else
  bif Nat.beq code 44565841414273689896369520983 then p_AE527_17 (m_ac g 17 0 96) (m_ac g 527 0 96) x else
  bif Nat.beq code 559858382766813229323129979226 then p_TC0 (g 5 0) (g 5 2) (m_ac g 16 0 96) (m_ac g 17 0 96) (m_ac g 539 0 6) (m_ac g 539 7 42) x else
  bif Nat.beq code 4447299591132728637575104823643 then p_TC1 (g 475 0) (g 475 2) (m_ac g 486 0 96) (m_ac g 487 0 96) (m_ac g 539 360 6) (m_ac g 539 367 42) x else
  bif Nat.beq code 35515261787058274706580975911260 then p_TC2 (g 495 0) (g 495 2) (m_ac g 506 0 96) (m_ac g 507 0 96) (m_ac g 539 720 6) (m_ac g 539 727 42) x else
  bif Nat.beq code 283995824412459088864608089276765 then p_TC3 (g 515 0) (g 515 2) (m_ac g 526 0 96) (m_ac g 527 0 96) (m_ac g 539 1080 6) (m_ac g 539 1087 42) x else
  bif Nat.beq code 728837198129267636846860435807 then p_MK1 (g 5 0) (g 5 2) (m_ac g 16 0 96) (m_ac g 17 0 96) (g 475 0) (g 475 2) (m_ac g 486 0 96) (m_ac g 487 0 96) x else
  bif Nat.beq code 5176136789261996274421964210528 then p_MK2 (g 5 0) (g 5 2) (m_ac g 16 0 96) (m_ac g 17 0 96) (g 495 0) (g 495 2) (m_ac g 506 0 96) (m_ac g 507 0 96) x else
  bif Nat.beq code 40691398576320270981002939072865 then p_MK3 (g 5 0) (g 5 2) (m_ac g 16 0 96) (m_ac g 17 0 96) (g 515 0) (g 515 2) (m_ac g 526 0 96) (m_ac g 527 0 96) x else
  bif Nat.beq code 19342813113834066796347747 then p_LC0 (m_ac g 539 0 360) x else
  bif Nat.beq code 324518553658426726783156021625188 then p_LC1 (m_ac g 539 360 360) x else
  bif Nat.beq code 649037107316853453566312042201445 then p_LC2 (m_ac g 539 720 360) x else
  bif Nat.beq code 1298074214633706907132624083353958 then p_LC3 (m_ac g 539 1080 360) x else
  bif Nat.beq code 324518573001239840617222816924007 then p_CB01 (m_ac g 539 0 360) (m_ac g 539 360 360) x else
  bif Nat.beq code 649037126659666567400378837500264 then p_CB02 (m_ac g 539 0 360) (m_ac g 539 720 360) x else
  bif Nat.beq code 1298074233976520020966690878652777 then p_CB03 (m_ac g 539 0 360) (m_ac g 539 1080 360) x else
  bif Nat.beq code 324518573001239840617222816924010 then p_CB10 (m_ac g 539 0 360) (m_ac g 539 360 360) x else
  bif Nat.beq code 649037126659666567400378837500267 then p_CB20 (m_ac g 539 0 360) (m_ac g 539 720 360) x else
  bif Nat.beq code 1298074233976520020966690878652780 then p_CB30 (m_ac g 539 0 360) (m_ac g 539 1080 360) x else
  bif Nat.beq code 475368975085586307036241461614 then p_KPT (m_ac g 540 0 147) (m_ac g 539 0 6) (m_ac g 539 7 42) x else
  bif Nat.beq code 281474977759599 then p_LKP (m_ac g 540 0 147) x else
  bif Nat.beq code 475368975085586025561264750962 then p_TV (m_ac g 539 0 6) (m_ac g 539 7 42) x else
  bif Nat.beq code 475368975085586025561264750963 then p_SWV (m_ac g 539 0 6) (m_ac g 539 7 42) x else
  bif Nat.beq code 475368975085586025561264750964 then p_HL (m_ac g 539 0 6) (m_ac g 539 7 42) x else
  bif Nat.beq code 475368975085586025561264750965 then p_NH (m_ac g 539 0 6) (m_ac g 539 7 42) x else
  bif Nat.beq code 475368975085586025569854685558 then p_CA (m_ac g 542 0 96) (m_ac g 539 0 6) (m_ac g 539 7 42) x else
  bif Nat.beq code 475368975085586025569854685559 then p_CFX (m_ac g 542 0 96) (m_ac g 539 0 6) (m_ac g 539 7 42) x else
  bif Nat.beq code 475368975085586025569854685560 then p_CAT (m_ac g 542 0 96) (m_ac g 539 0 6) (m_ac g 539 7 42) x else
  bif Nat.beq code 475368975085586025569854685561 then p_CFT (m_ac g 542 0 96) (m_ac g 539 0 6) (m_ac g 539 7 42) x else
  bif Nat.beq code 475368975085586025561264750970 then p_LSA (m_ac g 539 7 42) x else
  bif Nat.beq code 475368975085586025561264750971 then p_LSB (m_ac g 539 7 42) x else
  bif Nat.beq code 475368975085586025561264750972 then p_MBY (m_ac g 539 0 6) (m_ac g 539 7 42) x else
  bif Nat.beq code 475368975085586025561264750977 then p_HC (m_ac g 539 0 6) (m_ac g 539 7 42) x else
  bif Nat.beq code 475368975085586025561264750978 then p_HCC (m_ac g 539 0 6) (m_ac g 539 7 42) x else
  bif Nat.beq code 475368975085586025561264750980 then p_HAX (m_ac g 539 0 6) (m_ac g 539 7 42) x else
  bif Nat.beq code 475368975085586025561264750981 then p_HAR (m_ac g 539 0 6) (m_ac g 539 7 42) x else
  bif Nat.beq code 475368975085586025561264750982 then p_HAN (m_ac g 539 0 6) (m_ac g 539 7 42) x else
  bif Nat.beq code 475368975085586025561264750983 then p_NXH (m_ac g 539 0 6) (m_ac g 539 7 42) x else
  bif Nat.beq code 475368975085586025561264750984 then p_NXQ (m_ac g 539 0 6) (m_ac g 539 7 42) x else
  bif Nat.beq code 475368975085586025561264750985 then p_NXN (m_ac g 539 0 6) (m_ac g 539 7 42) x else
  bif Nat.beq code 475368975085586025561264750986 then p_GPX (m_ac g 539 0 6) (m_ac g 539 7 42) x else
  bif Nat.beq code 475368975085586025561264750987 then p_GPC (m_ac g 539 0 6) (m_ac g 539 7 42) x else
  bif Nat.beq code 475368975085586025561264750988 then p_SHF (m_ac g 539 0 6) (m_ac g 539 7 42) x else
  bif Nat.beq code 475368975085586025561264750989 then p_SHC (m_ac g 539 0 6) (m_ac g 539 7 42) x else
  bif Nat.beq code 475368975085586025561264750990 then p_SHL (m_ac g 539 0 6) (m_ac g 539 7 42) x else
  bif Nat.beq code 475368975085586025561264750991 then p_SHN (m_ac g 539 0 6) (m_ac g 539 7 42) x else
  bif Nat.beq code 475368975085586025561264750992 then p_ASX (m_ac g 539 0 6) (m_ac g 539 7 42) x else
  bif Nat.beq code 475368975085586025561264750993 then p_ASR (m_ac g 539 0 6) (m_ac g 539 7 42) x else
  bif Nat.beq code 475368975085586025561264750994 then p_ASN (m_ac g 539 0 6) (m_ac g 539 7 42) x else
  bif Nat.beq code 2596148429267413814265248165659028 then p_KN18 (m_ac g 18 0 96) x else
  bif Nat.beq code 13835058055283212429 then p_SK (m_ac g 3 0 900) (g 2 7) x else
  bif Nat.beq code 13835058055283212430 then p_NX (m_ac g 3 0 900) (g 2 7) x else
  bif Nat.beq code 4835703278493701071962275 then p_SKR (m_ac g 538 0 900) (g 534 9) x else
  bif Nat.beq code 4835703278493701071962276 then p_NXR (m_ac g 538 0 900) (g 534 9) x else
  bif Nat.beq code 4611686018428436620 then p_BY (m_ac g 3 0 900) x else
  bif Nat.beq code 4611686018428436702 then p_BYB (m_ac g 3 0 900) x else
  bif Nat.beq code 35184373137568 then p_BR (m_ac g 538 0 900) x else
  bif Nat.beq code 4835703278493701071962273 then p_LK (m_ac g 538 0 900) (g 534 9) x else
  bif Nat.beq code 4835703278493701071962274 then p_LKB (m_ac g 538 0 900) (g 534 9) x else
  bif Nat.beq code 13835058055283212431 then p_LE (m_ac g 3 0 900) (g 2 7) x else
  bif Nat.beq code 13835058055283212432 then p_DG (m_ac g 3 0 900) (g 2 7) x else
  bif Nat.beq code 23058430092137988241 then p_TK (m_ac g 3 0 900) (g 2 4) (g 2 6) (g 2 7) (g 2 8) x else
  bif Nat.beq code 23058430092137988242 then p_CU (m_ac g 3 0 900) (g 2 4) (g 2 5) (g 2 6) (g 2 7) (g 2 8) x else
  bif Nat.beq code 1048723 then p_WM x else
  bif Nat.beq code 1048724 then p_WA x else
  bif Nat.beq code 1048725 then p_WS x else
  bif Nat.beq code 1048756 then p_CH x else
  bif Nat.beq code 4611686018428436661 then p_LC (m_ac g 3 0 900) x else
  bif Nat.beq code 13835058055283212470 then p_WI (m_ac g 3 0 900) (g 2 7) x else
  bif Nat.beq code 13835058055283212471 then p_NI (m_ac g 3 0 900) (g 2 7) x else
  bif Nat.beq code 13835058055283212481 then p_HF (m_ac g 3 0 900) (g 2 7) x else
  bif Nat.beq code 13835058055283212508 then p_NR (m_ac g 3 0 900) (g 2 7) x else
  bif Nat.beq code 13835058055283212509 then p_XN (m_ac g 3 0 900) (g 2 7) x else
  bif Nat.beq code 4835703278493701071962370 then p_WIR (m_ac g 538 0 900) (g 534 9) x else
  bif Nat.beq code 4835703278493701071962371 then p_NIR (m_ac g 538 0 900) (g 534 9) x else
  bif Nat.beq code 4835703278493701071962369 then p_HFR (m_ac g 538 0 900) (g 534 9) x else
  bif Nat.beq code 4835703278493701071962374 then p_NRR (m_ac g 538 0 900) (g 534 9) x else
  bif Nat.beq code 4835703278493701071962375 then p_XNR (m_ac g 538 0 900) (g 534 9) x else
  bif Nat.beq code 13835058055283212484 then p_SI (m_ac g 3 0 900) (g 2 7) x else
  bif Nat.beq code 13835058055283212485 then p_NSI (m_ac g 3 0 900) (g 2 7) x else
  bif Nat.beq code 4835703278493701071962372 then p_SIR (m_ac g 538 0 900) (g 534 9) x else
  bif Nat.beq code 4835703278493701071962373 then p_NSIR (m_ac g 538 0 900) (g 534 9) x else
  bif Nat.beq code 4699308052777509322942 then p_CF (m_ac g 3 0 900) (g 2 7) (g 26 0) (g 26 1) (g 26 2) (g 26 3) (g 26 4) (g 26 5) (g 26 6) (g 25 3) (m_ac g 27 0 6) (m_ac g 28 0 4) (m_ac g 29 0 4) (m_ac g 32 0 96) (m_ac g 35 0 96) (m_ac g 36 0 96) (m_ac g 39 0 4) (m_ac g 40 0 4) x else
  bif Nat.beq code 4699308052777509322944 then p_RDX (m_ac g 3 0 900) (g 2 7) (g 26 0) (g 26 1) (g 26 2) (g 26 3) (g 26 4) (g 26 5) (g 26 6) (g 25 3) (m_ac g 27 0 6) (m_ac g 28 0 4) (m_ac g 29 0 4) (m_ac g 32 0 96) (m_ac g 35 0 96) (m_ac g 36 0 96) (m_ac g 39 0 4) (m_ac g 40 0 4) x else
  bif Nat.beq code 9384781047499735433410 then p_CG (m_ac g 3 0 900) (g 2 7) (g 26 2) (g 26 3) (g 26 4) (g 26 5) (g 26 6) (g 25 3) (m_ac g 27 0 6) (m_ac g 28 0 4) (m_ac g 29 0 4) (m_ac g 32 0 96) (m_ac g 35 0 96) (m_ac g 36 0 96) (m_ac g 39 0 4) (m_ac g 40 0 4) x else
  bif Nat.beq code 4699308052777509322943 then p_CFA (m_ac g 3 0 900) (g 2 7) (g 26 0) (g 26 1) (g 26 2) (g 26 3) (g 26 4) (g 26 5) (g 26 6) (g 25 3) (m_ac g 27 0 6) (m_ac g 28 0 4) (m_ac g 29 0 4) (m_ac g 32 0 96) (m_ac g 35 0 96) (m_ac g 36 0 96) (m_ac g 39 0 4) (m_ac g 40 0 4) x else
  bif Nat.beq code 4699308052777509322952 then p_CC1 (m_ac g 3 0 900) (g 2 7) (g 26 0) (g 26 1) (g 26 2) (g 26 3) (g 26 4) (g 26 5) (g 26 6) (g 25 3) (m_ac g 27 0 6) (m_ac g 28 0 4) (m_ac g 29 0 4) (m_ac g 32 0 96) (m_ac g 35 0 96) (m_ac g 36 0 96) (m_ac g 39 0 4) (m_ac g 40 0 4) x else
  bif Nat.beq code 4699308052777509322953 then p_CC2 (m_ac g 3 0 900) (g 2 7) (g 26 0) (g 26 1) (g 26 2) (g 26 3) (g 26 4) (g 26 5) (g 26 6) (g 25 3) (m_ac g 27 0 6) (m_ac g 28 0 4) (m_ac g 29 0 4) (m_ac g 32 0 96) (m_ac g 35 0 96) (m_ac g 36 0 96) (m_ac g 39 0 4) (m_ac g 40 0 4) x else
  bif Nat.beq code 32996613461847961501898 then p_CCN (m_ac g 3 0 900) (g 2 7) (g 26 0) (g 26 1) (g 26 4) (g 26 5) (g 26 6) (g 25 3) (m_ac g 27 0 6) (m_ac g 28 0 4) (m_ac g 29 0 4) (m_ac g 32 0 96) (m_ac g 35 0 96) (m_ac g 36 0 96) (m_ac g 39 0 4) (m_ac g 40 0 4) x else
  bif Nat.beq code 4699308052777509322955 then p_CM1 (m_ac g 3 0 900) (g 2 7) (g 26 0) (g 26 1) (g 26 2) (g 26 3) (g 26 4) (g 26 5) (g 26 6) (g 25 3) (m_ac g 27 0 6) (m_ac g 28 0 4) (m_ac g 29 0 4) (m_ac g 32 0 96) (m_ac g 35 0 96) (m_ac g 36 0 96) (m_ac g 39 0 4) (m_ac g 40 0 4) x else
  bif Nat.beq code 4699308052777509322956 then p_CM2 (m_ac g 3 0 900) (g 2 7) (g 26 0) (g 26 1) (g 26 2) (g 26 3) (g 26 4) (g 26 5) (g 26 6) (g 25 3) (m_ac g 27 0 6) (m_ac g 28 0 4) (m_ac g 29 0 4) (m_ac g 32 0 96) (m_ac g 35 0 96) (m_ac g 36 0 96) (m_ac g 39 0 4) (m_ac g 40 0 4) x else
  bif Nat.beq code 136888676084980156203213 then p_CMN (m_ac g 3 0 900) (g 2 7) (g 26 0) (g 26 1) (g 26 2) (g 26 3) (g 26 5) (g 26 6) (g 25 3) (m_ac g 27 0 6) (m_ac g 28 0 4) (m_ac g 29 0 4) (m_ac g 32 0 96) (m_ac g 35 0 96) (m_ac g 36 0 96) (m_ac g 39 0 4) (m_ac g 40 0 4) x else
  bif Nat.beq code 4699308052777509322958 then p_CS1 (m_ac g 3 0 900) (g 2 7) (g 26 0) (g 26 1) (g 26 2) (g 26 3) (g 26 4) (g 26 5) (g 26 6) (g 25 3) (m_ac g 27 0 6) (m_ac g 28 0 4) (m_ac g 29 0 4) (m_ac g 32 0 96) (m_ac g 35 0 96) (m_ac g 36 0 96) (m_ac g 39 0 4) (m_ac g 40 0 4) x else
  bif Nat.beq code 776769334513817082659023 then p_CSN (m_ac g 3 0 900) (g 2 7) (g 26 0) (g 26 1) (g 26 2) (g 26 3) (g 26 4) (g 26 6) (m_ac g 27 0 6) (m_ac g 28 0 4) (m_ac g 29 0 4) (m_ac g 32 0 96) (m_ac g 35 0 96) (m_ac g 36 0 96) (m_ac g 39 0 4) (m_ac g 40 0 4) x else
  bif Nat.beq code 2338124811342686716112 then p_CSM (m_ac g 3 0 900) (g 2 7) (g 26 0) (g 26 1) (g 26 2) (g 26 3) (g 26 4) (g 26 5) (g 26 6) (m_ac g 27 0 6) (m_ac g 28 0 4) (m_ac g 29 0 4) (m_ac g 32 0 96) (m_ac g 35 0 96) (m_ac g 36 0 96) (m_ac g 39 0 4) (m_ac g 40 0 4) x else
  bif Nat.beq code 4699308052777509322961 then p_CD1 (m_ac g 3 0 900) (g 2 7) (g 26 0) (g 26 1) (g 26 2) (g 26 3) (g 26 4) (g 26 5) (g 26 6) (g 25 3) (m_ac g 27 0 6) (m_ac g 28 0 4) (m_ac g 29 0 4) (m_ac g 32 0 96) (m_ac g 35 0 96) (m_ac g 36 0 96) (m_ac g 39 0 4) (m_ac g 40 0 4) x else
  bif Nat.beq code 325783335399765964751058 then p_CDN (m_ac g 3 0 900) (g 2 7) (g 26 0) (g 26 1) (g 26 2) (g 26 3) (g 26 4) (g 26 5) (g 25 3) (m_ac g 27 0 6) (m_ac g 28 0 4) (m_ac g 29 0 4) (m_ac g 32 0 96) (m_ac g 35 0 96) (m_ac g 36 0 96) (m_ac g 39 0 4) (m_ac g 40 0 4) x else
  bif Nat.beq code 4699308052777509322981 then p_CNA (m_ac g 3 0 900) (g 2 7) (g 26 0) (g 26 1) (g 26 2) (g 26 3) (g 26 4) (g 26 5) (g 26 6) (g 25 3) (m_ac g 27 0 6) (m_ac g 28 0 4) (m_ac g 29 0 4) (m_ac g 32 0 96) (m_ac g 35 0 96) (m_ac g 36 0 96) (m_ac g 39 0 4) (m_ac g 40 0 4) x else
  bif Nat.beq code 4699308052777509322963 then p_CN1 (m_ac g 3 0 900) (g 2 7) (g 26 0) (g 26 1) (g 26 2) (g 26 3) (g 26 4) (g 26 5) (g 26 6) (g 25 3) (m_ac g 27 0 6) (m_ac g 28 0 4) (m_ac g 29 0 4) (m_ac g 32 0 96) (m_ac g 35 0 96) (m_ac g 36 0 96) (m_ac g 39 0 4) (m_ac g 40 0 4) x else
  bif Nat.beq code 4699308052777509322964 then p_CN2 (m_ac g 3 0 900) (g 2 7) (g 26 0) (g 26 1) (g 26 2) (g 26 3) (g 26 4) (g 26 5) (g 26 6) (g 25 3) (m_ac g 27 0 6) (m_ac g 28 0 4) (m_ac g 29 0 4) (m_ac g 32 0 96) (m_ac g 35 0 96) (m_ac g 36 0 96) (m_ac g 39 0 4) (m_ac g 40 0 4) x else
  bif Nat.beq code 590295810358706700503 then p_FR (m_ac g 36 0 96) x else
  bif Nat.beq code 4611686018428436703 then p_SM (m_ac g 3 0 900) x else
  bif Nat.beq code 4611686018428436704 then p_SMT (m_ac g 3 0 900) x else
  bif Nat.beq code 4611686018428436705 then p_NSM (m_ac g 3 0 900) x else
  bif Nat.beq code 1180591620717412352226 then p_NLR (m_ac g 40 0 4) x else
  bif Nat.beq code 1180591620717412352227 then p_NSR (m_ac g 39 0 4) x else
  bif Nat.beq code 1194426678772694515940 then p_DN (m_ac g 3 0 900) (g 2 7) (m_ac g 39 0 4) (m_ac g 40 0 4) x else
  bif Nat.beq code 1208925819614629175754992 then p_FZ35 (m_ac g 35 0 96) x else
  bif Nat.beq code 2417851639229258350461169 then p_FZ36 (m_ac g 36 0 96) x else
  bif Nat.beq code 4685472994722227159279 then p_WZ (g 26 0) (g 26 1) (g 26 2) (g 26 3) (g 26 4) (g 26 5) (g 26 6) (g 25 3) (m_ac g 27 0 6) (m_ac g 28 0 4) (m_ac g 29 0 4) (m_ac g 32 0 96) (m_ac g 35 0 96) (m_ac g 36 0 96) (m_ac g 39 0 4) (m_ac g 40 0 4) x else
  bif Nat.beq code 4699308052777509322990 then p_WD (m_ac g 3 0 900) (g 2 7) (g 26 0) (g 26 1) (g 26 2) (g 26 3) (g 26 4) (g 26 5) (g 26 6) (g 25 3) (m_ac g 27 0 6) (m_ac g 28 0 4) (m_ac g 29 0 4) (m_ac g 32 0 96) (m_ac g 35 0 96) (m_ac g 36 0 96) (m_ac g 39 0 4) (m_ac g 40 0 4) x else
  bif Nat.beq code 13835058055283212594 then p_RSW (m_ac g 3 0 900) (g 2 7) x else
  bif Nat.beq code 4835703279760338467160314 then p_CFR (m_ac g 538 0 900) (g 534 9) (m_ac g 539 1440 360) (m_ac g 541 0 4) x else
  bif Nat.beq code 4835703279760338467160315 then p_RDR (m_ac g 538 0 900) (g 534 9) (m_ac g 539 1440 360) (m_ac g 541 0 4) x else
  bif Nat.beq code 4835703279760338467160316 then p_CFP (m_ac g 538 0 900) (g 534 9) (m_ac g 539 1440 360) (m_ac g 541 0 4) x else
  bif Nat.beq code 4835703279760338467160317 then p_RDP (m_ac g 538 0 900) (g 534 9) (m_ac g 539 1440 360) (m_ac g 541 0 4) x else
  bif Nat.beq code 4835703279760338467160318 then p_CFAR (m_ac g 538 0 900) (g 534 9) (m_ac g 539 1440 360) (m_ac g 541 0 4) x else
  bif Nat.beq code 4835703279760338467160319 then p_CAR (m_ac g 538 0 900) (g 534 9) (m_ac g 539 1440 360) (m_ac g 541 0 4) x else
  bif Nat.beq code 4835703279760338467160320 then p_CBR (m_ac g 538 0 900) (g 534 9) (m_ac g 539 1440 360) (m_ac g 541 0 4) x else
  bif Nat.beq code 4835703278493701071962277 then p_LER (m_ac g 538 0 900) (g 534 9) x else
  bif Nat.beq code 4835703278493701071962278 then p_DGR (m_ac g 538 0 900) (g 534 9) x else
  bif Nat.beq code 4835703278493701071962279 then p_WDR (m_ac g 538 0 900) (g 534 9) x else
  bif Nat.beq code 14507109835410734469611688 then p_TKR (m_ac g 538 0 900) (g 534 9) (g 534 14) (g 534 16) (g 534 17) (g 534 18) x else
  bif Nat.beq code 14507109835410734469611689 then p_CUR (m_ac g 538 0 900) (g 534 9) (g 534 14) (g 534 15) (g 534 16) (g 534 17) (g 534 18) x else
  bif Nat.beq code 4835703278634438560317704 then p_DNR (m_ac g 538 0 900) (g 534 9) (m_ac g 541 0 4) x else
  bif Nat.beq code 140737489404169 then p_WKR (m_ac g 541 0 4) x else
  bif Nat.beq code 1125899907891466 then p_PSN (m_ac g 539 1440 360) x else
  bif Nat.beq code 1125899907891467 then p_NSN (m_ac g 539 1440 360) x else
  bif Nat.beq code 1125899907891468 then p_LSR (m_ac g 539 1440 360) x else
  bif Nat.beq code 1125899907891481 then p_LDN (m_ac g 539 1440 360) x else
  bif Nat.beq code 1125899907891469 then p_DFR (m_ac g 539 1440 360) x else
  bif Nat.beq code 1125899907891470 then p_ZR (m_ac g 539 1440 360) x else
  bif Nat.beq code 1125899907891483 then p_LDC (m_ac g 539 1440 360) x else
  bif Nat.beq code 19342813114959966703190280 then p_CPW (m_ac g 539 0 360) (m_ac g 539 1440 360) x else
  bif Nat.beq code 4835703279760338467160346 then p_DNW (m_ac g 538 0 900) (g 534 9) (m_ac g 539 1440 360) (m_ac g 541 0 4) x else
  bif Nat.beq code 4611686018428436780 then p_TB3 (m_ac g 3 0 900) x else
  bif Nat.beq code 4611686018428436781 then p_AB3 (m_ac g 3 0 900) x else
  bif Nat.beq code 35184373137712 then p_TB8 (m_ac g 538 0 900) x else
  bif Nat.beq code 35184373137713 then p_AB8 (m_ac g 538 0 900) x else
  bif Nat.beq code 1048878 then p_SHR x else
  bif Nat.beq code 1048879 then p_CVB x else
  bif Nat.beq code 4323473234462769252 then p_TQ (m_b0 g) (m_b1 g) (m_b2 g) (m_b3 g) (m_nn g) x else
  bif Nat.beq code 1048677 then p_XW  x else
  bif Nat.beq code 1048678 then p_LI  x else
  bif Nat.beq code 1048679 then p_CV0  x else
  bif Nat.beq code 1048680 then p_CV1  x else
  bif Nat.beq code 1048681 then p_CV2  x else
  bif Nat.beq code 1048682 then p_CR0  x else
  bif Nat.beq code 1048683 then p_CR1  x else
  bif Nat.beq code 1048684 then p_CR2  x else
  bif Nat.beq code 4035242858311057518 then p_TE0 (m_b1 g) (m_b2 g) (m_b3 g) (m_nn g) x else
  bif Nat.beq code 288230376152760434 then p_TZ0 (m_b0 g) x else
  bif Nat.beq code 17592187093110 then p_TM0 (m_nn g) x else
  bif Nat.beq code 4323473234462769274 then p_EX0 (m_b0 g) (m_b1 g) (m_b2 g) (m_b3 g) (m_nn g) x else
  bif Nat.beq code 288230376152760446 then p_NV0 (m_b0 g) x else
  bif Nat.beq code 3747012482159345775 then p_TE1 (m_b0 g) (m_b2 g) (m_b3 g) (m_nn g) x else
  bif Nat.beq code 576460752304472179 then p_TZ1 (m_b1 g) x else
  bif Nat.beq code 17592187093111 then p_TM1 (m_nn g) x else
  bif Nat.beq code 4323473234462769275 then p_EX1 (m_b0 g) (m_b1 g) (m_b2 g) (m_b3 g) (m_nn g) x else
  bif Nat.beq code 576460752304472191 then p_NV1 (m_b1 g) x else
  bif Nat.beq code 3170551729855922288 then p_TE2 (m_b0 g) (m_b1 g) (m_b3 g) (m_nn g) x else
  bif Nat.beq code 1152921504607895668 then p_TZ2 (m_b2 g) x else
  bif Nat.beq code 17592187093112 then p_TM2 (m_nn g) x else
  bif Nat.beq code 4323473234462769276 then p_EX2 (m_b0 g) (m_b1 g) (m_b2 g) (m_b3 g) (m_nn g) x else
  bif Nat.beq code 1152921504607895680 then p_NV2 (m_b2 g) x else
  bif Nat.beq code 2017630225249075313 then p_TE3 (m_b0 g) (m_b1 g) (m_b2 g) (m_nn g) x else
  bif Nat.beq code 2305843009214742645 then p_TZ3 (m_b3 g) x else
  bif Nat.beq code 17592187093113 then p_TM3 (m_nn g) x else
  bif Nat.beq code 4323473234462769277 then p_EX3 (m_b0 g) (m_b1 g) (m_b2 g) (m_b3 g) (m_nn g) x else
  bif Nat.beq code 2305843009214742657 then p_NV3 (m_b3 g) x else
  bif Nat.beq code 17592187093125 then p_NL (m_nn g) x else
  bif Nat.beq code 4323473234462769282 then p_PP (m_b0 g) (m_b1 g) (m_b2 g) (m_b3 g) (m_nn g) x else
  bif Nat.beq code 4323473234462769283 then p_GA (m_b0 g) (m_b1 g) (m_b2 g) (m_b3 g) (m_nn g) x else
  bif Nat.beq code 4323473234462769284 then p_GD (m_b0 g) (m_b1 g) (m_b2 g) (m_b3 g) (m_nn g) x else
  bif Nat.beq code 68157450 then p_LD (m_fs g) x else
  bif Nat.beq code 101711883 then p_FI (m_nf g) (m_fs g) x else
  bif Nat.beq code 101711884 then p_YN (m_nf g) (m_fs g) x else
  bif Nat.beq code 144115188076904461 then p_AT (m_an g) x else
  bif Nat.beq code 34603022 then p_AF (m_M g) x else
  bif Nat.beq code 135266319 then p_NT (m_nt g) x else
  bif Nat.beq code 168820752 then p_SU (m_M g) (m_nt g) x else
  bif Nat.beq code 2148532241 then p_SL (m_sl g) x else
  bif Nat.beq code 2182086674 then p_ST (m_M g) (m_sl g) x else
  bif Nat.beq code 537919507 then p_FO (m_fo g) x else
  bif Nat.beq code 1074790420 then p_FT (m_ft g) x else
  bif Nat.beq code 1628438549 then p_ON (m_fo g) (m_ft g) (m_ls g) x else
  bif Nat.beq code 34603030 then p_PS (m_cs g) x else
  bif Nat.beq code 34603031 then p_NS (m_nc g) (m_cs g) x else
  bif Nat.beq code 2853175320 then p_BM (m_M g) (m_nt g) (m_sl g) (m_fo g) x else
  bif Nat.beq code 2853175321 then p_BE (m_M g) (m_nt g) (m_sl g) (m_fo g) x else
  bif Nat.beq code 5000658970 then p_R0 (m_M g) (m_F g) (m_nt g) (m_nc g) (m_cs g) (m_fo g) (m_wt g) x else
  bif Nat.beq code 5000658971 then p_RA (m_M g) (m_F g) (m_nt g) (m_nc g) (m_cs g) (m_fo g) (m_wt g) x else
  bif Nat.beq code 7148142620 then p_FA (m_M g) (m_F g) (m_nt g) (m_sl g) (m_nc g) (m_cs g) (m_fo g) (m_wt g) x else
  bif Nat.beq code 7148142621 then p_FB (m_M g) (m_F g) (m_nt g) (m_sl g) (m_nc g) (m_cs g) (m_fo g) (m_wt g) x else
  bif Nat.beq code 7148142622 then p_FD (m_M g) (m_F g) (m_nt g) (m_sl g) (m_nc g) (m_cs g) (m_fo g) (m_wt g) x else
  bif Nat.beq code 4296015903 then p_WT (m_wt g) x else
  bif Nat.beq code 7148142624 then p_BW (m_M g) (m_nt g) (m_sl g) (m_fo g) (m_wt g) x else
  bif Nat.beq code 7148142625 then p_WE (m_M g) (m_nt g) (m_sl g) (m_fo g) (m_wt g) x else
  bif Nat.beq code 3390046242 then p_AM (m_M g) (m_nt g) (m_sl g) (m_nc g) (m_cs g) (m_ft g) x else
  bif Nat.beq code 3390046243 then p_AN (m_M g) (m_nt g) (m_sl g) (m_nc g) (m_cs g) (m_ft g) x else
  bif Nat.beq code 3390046244 then p_AA (m_M g) (m_nt g) (m_sl g) (m_nc g) (m_cs g) (m_ft g) x else
  bif Nat.beq code 3390046245 then p_AD (m_M g) (m_nt g) (m_sl g) (m_nc g) (m_cs g) (m_ft g) x else
  bif Nat.beq code 1645215782 then p_LM (m_M g) (m_nc g) (m_cs g) (m_fo g) (m_ft g) x else
  bif Nat.beq code 8238661671 then p_M1 (m_M g) (m_F g) (m_nt g) (m_sl g) (m_nc g) (m_cs g) (m_fo g) (m_ft g) (m_wt g) (m_ls g) x else
  bif Nat.beq code 4883218472 then p_NW (m_M g) (m_nc g) (m_cs g) (m_fo g) (m_wt g) (m_ls g) x else
  bif Nat.beq code 4883218473 then p_M2 (m_M g) (m_nc g) (m_cs g) (m_fo g) (m_wt g) (m_ls g) x else
  bif Nat.beq code 1661993002 then p_NO (m_M g) (m_nc g) (m_cs g) (m_fo g) (m_ft g) (m_ls g) x else
  bif Nat.beq code 1661993003 then p_OP (m_M g) (m_nc g) (m_cs g) (m_fo g) (m_ft g) (m_ls g) x else
  bif Nat.beq code 3809476652 then p_NB (m_M g) (m_sl g) (m_fo g) (m_ft g) (m_ls g) x else
  bif Nat.beq code 1661993005 then p_OA (m_M g) (m_fo g) (m_ft g) (m_ls g) x else
  bif Nat.beq code 537919534 then p_FP (m_fo g) x else
  bif Nat.beq code 2718957615 then p_SV (m_M g) (m_sl g) (m_fo g) x else
  bif Nat.beq code 1099512676400 then p_RC (m_rc g) x else
  bif Nat.beq code 1099512676401 then p_RD (m_rc g) x else
  bif Nat.beq code 1048626 then p_XX  x else
  bif Nat.beq code 1048627 then p_XO  x else
  bif Nat.beq code 1099512676404 then p_PX (m_rc g) x else
  bif Nat.beq code 3809476661 then p_QQ (m_M g) (m_sl g) (m_nc g) (m_cs g) (m_fo g) (m_ft g) (m_ls g) x else
  True
/-- facts of the heap by number: below 1048576 "what stands in an array ahead of a place is an int of 0 .. that number"; the others speak of the places that the number's bits from the 24th on pick out of a_MT -/
noncomputable def a_MT : aW := [(534, 534, 29, 30), (539, 539, 0, 13), (539, 539, 13, 49), (539, 539, 49, 145), (539, 539, 145, 360), (543, 543, 0, 1344), (544, 544, 0, 1344), (545, 545, 0, 96), (546, 546, 0, 1344), (542, 542, 0, 96), (554, 554, 0, 8), (555, 555, 0, 8), (549, 549, 0, 28), (550, 550, 0, 1344), (551, 551, 0, 1152), (552, 552, 0, 4096), (553, 553, 0, 96), (534, 534, 40, 41), (535, 535, 0, 4), (536, 536, 0, 4), (537, 537, 0, 240), (538, 538, 0, 900), (534, 534, 8, 20), (541, 541, 0, 4), (540, 540, 0, 147), (539, 539, 360, 1440), (539, 539, 1440, 1800), (534, 534, 32, 34), (547, 548, 0, 96), (534, 534, 43, 52), (556, 556, 0, 4), (534, 534, 0, 4), (534, 534, 23, 24), (44, 44, 0, 60), (467, 467, 0, 60), (469, 469, 0, 60), (471, 471, 0, 60), (473, 473, 0, 60), (3, 3, 0, 900), (2, 2, 7, 8), (2, 2, 4, 9), (26, 26, 0, 7), (27, 27, 0, 6), (28, 29, 0, 4), (32, 32, 0, 96), (35, 36, 0, 96), (39, 40, 0, 4), (25, 25, 3, 4), (26, 26, 2, 7), (26, 26, 4, 7), (26, 26, 0, 2), (26, 26, 2, 4), (26, 26, 5, 7), (26, 26, 2, 5), (26, 26, 2, 6), (26, 26, 6, 7), (35, 35, 0, 96), (36, 36, 0, 96), (534, 534, 9, 10), (534, 534, 14, 20), (539, 539, 0, 360), (26, 26, 0, 3), (37, 37, 0, 96), (38, 38, 0, 96), (16, 16, 0, 96), (486, 486, 0, 96), (506, 506, 0, 96), (526, 526, 0, 96), (17, 17, 0, 96), (487, 487, 0, 96), (507, 507, 0, 96), (527, 527, 0, 96), (5, 5, 0, 3), (539, 539, 0, 6), (539, 539, 7, 49), (475, 475, 0, 3), (539, 539, 360, 366), (539, 539, 367, 409), (495, 495, 0, 3), (539, 539, 720, 726), (539, 539, 727, 769), (515, 515, 0, 3), (539, 539, 1080, 1086), (539, 539, 1087, 1129), (539, 539, 360, 720), (539, 539, 720, 1080), (539, 539, 1080, 1440), (18, 18, 0, 96), (15, 15, 0, 96), (485, 485, 0, 96), (505, 505, 0, 96), (525, 525, 0, 96), (465, 465, 0, 96)]
noncomputable def a_mdl (k : Nat) : aW → aW
  | [] => []
  | r :: l => bif Nat.beq (k % 2) 1 then r :: a_mdl (k / 2) l else a_mdl (k / 2) l
noncomputable def a_Md (code : Nat) : aW := a_mdl (code / 16777216) a_MT
noncomputable def a_gm (sp : aSp) (nc code : Nat) (h : qH) : mG := fun c j => bif Nat.blt c nc && (Nat.blt j (a_cl sp c) && a_inS (a_Md code) c j) then m_int (a_fd h c j) else 0
/-- what those numbers say -/
noncomputable def a_M (sp : aSp) (nc code : Nat) (x : Int) (h : qH) : Prop := m_P code x (a_gm sp nc code h)
theorem a_gm_fr {sp : aSp} {nc code : Nat} {h h' : qH} (hf : ∀ c j, c < nc → j < a_cl sp c → a_inS (a_Md code) c j = true → a_fd h' c j = a_fd h c j) : a_gm sp nc code h' = a_gm sp nc code h := by
  funext c j
  unfold a_gm
  cases hb : (Nat.blt c nc && (Nat.blt j (a_cl sp c) && a_inS (a_Md code) c j)) with
  | false => rfl
  | true =>
    simp only [Bool.and_eq_true, q_blt, decide_eq_true_eq] at hb
    rw [hf c j hb.1 hb.2.1 hb.2.2]
theorem a_M_fr {sp : aSp} {nc code : Nat} {x : Int} {h h' : qH} (hf : ∀ c j, c < nc → j < a_cl sp c → a_inS (a_Md code) c j = true → a_fd h' c j = a_fd h c j) (hm : a_M sp nc code x h) : a_M sp nc code x h' := by
  unfold a_M
  rw [a_gm_fr hf]
  exact hm
