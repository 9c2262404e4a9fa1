-- 5209m.mean: what the facts of the heap mean
/-- an int or a long of the heap -/
def m_int (v : qV) : Int := match v.1 with
  | 3 => (qJ v.2).toInt
  | _ => (qI v.2).toInt
abbrev mG : Type := Nat → Nat → Int
def m_ac (g : mG) (c off n : Nat) (i : Int) : Int := if 0 ≤ i ∧ i < n then g c (off + i.toNat) else 0
abbrev m_M (g : mG) : Int := g 539 0
abbrev m_F (g : mG) : Int := g 539 1
abbrev m_nc (g : mG) : Int := g 539 2
abbrev m_nf (g : mG) : Int := g 539 5
abbrev m_ls (g : mG) : Int := g 534 29
abbrev m_cs (g : mG) : Int → Int := m_ac g 539 7 6
abbrev m_fs (g : mG) : Int → Int := m_ac g 539 33 8
abbrev m_nt (g : mG) : Int → Int := m_ac g 539 49 96
abbrev m_fo (g : mG) : Int → Int := m_ac g 543 0 1344
abbrev m_ft (g : mG) : Int → Int := m_ac g 544 0 1344
abbrev m_sl (g : mG) : Int → Int := m_ac g 545 0 96
abbrev m_wt (g : mG) : Int → Int := m_ac g 546 0 1344
abbrev m_rc (g : mG) : Int → Int := m_ac g 553 0 96
abbrev m_an (g : mG) : Int → Int := m_ac g 44 0 60
-- the words
def m_af (M v b : Int) : Int := (v + b) % M + 1
def m_su (M : Int) (nt : Int → Int) (s v : Int) : Prop := nt s = 0 ∨ (nt s = 2 ↔ v = M)
def m_st (M : Int) (sl : Int → Int) (s u v : Int) : Int := if m_af M u 0 = v then 0 else sl s
def m_sum (f : Int → Int) : Nat → Int
  | 0 => 0
  | n + 1 => m_sum f n + f n
def m_N (nc : Int) (cs : Int → Int) : Int := m_sum cs nc.toNat
/-- how many of the first k finds lie below s -/
def m_cnt (fs : Int → Int) (s : Int) : Nat → Int
  | 0 => 0
  | k + 1 => m_cnt fs s k + (if fs k < s then 1 else 0)
/-- best is the least of f at 1 .. k - 1, and of 1000000 -/
def m_mn (f : Int → Int) (k best : Int) : Prop := best ≤ 1000000 ∧ (∀ u, 1 ≤ u → u < k → best ≤ f u) ∧ (best = 1000000 ∨ ∃ u, 1 ≤ u ∧ u < k ∧ best = f u)
/-- what stands in w where f is b, at 1 .. k, together -/
def m_ws (f w : Int → Int) (b : Int) : Nat → Int
  | 0 => 0
  | k + 1 => m_ws f w b k + (if f (k + 1) = b then w (k + 1) else 0)
def m_fc (M : Int) (sl fo : Int → Int) (s v u : Int) : Int := fo (14 * (s - 1) + u) + m_st M sl s u v
def m_bc (M : Int) (sl ft : Int → Int) (s v u : Int) : Int := ft (14 * (s + 1) + u) + m_st M sl (s + 1) v u
/-- best is the forward cost at (s, v) -/
def m_be (M : Int) (nt sl fo : Int → Int) (s v best : Int) : Prop := (m_su M nt s v → m_mn (m_fc M sl fo s v) (M + 1) best) ∧ (¬ m_su M nt s v → best = 1000000)
/-- its ways, all of them -/
def m_wv (M : Int) (sl fo wt : Int → Int) (s v best : Int) : Int := if best < 1000000 then m_ws (m_fc M sl fo s v) (fun u => wt (14 * (s - 1) + u)) best M.toNat else 0
def m_lim (x : Int) : Int := if x ≤ 999999 then x else 999999
def m_fe (M : Int) (nt sl fo wt : Int → Int) (s v : Int) : Prop := m_be M nt sl fo s v (fo (14 * s + v)) ∧ wt (14 * s + v) = m_lim (m_wv M sl fo wt s v (fo (14 * s + v)))
def m_bg (M F : Int) (nt : Int → Int) (N fr v : Int) : Prop := 0 < N ∧ m_su M nt 0 v ∧ (fr = 1 ∨ v = F)
def m_r0 (M F : Int) (nt : Int → Int) (N fr : Int) (fo : Int → Int) (v : Int) : Prop := (m_bg M F nt N fr v → fo v = 0) ∧ (¬ m_bg M F nt N fr v → fo v = 1000000)
def m_rw (fo wt : Int → Int) (v : Int) : Prop := wt v = if fo v < 1000000 then 1 else 0
def m_ae (M : Int) (nt sl : Int → Int) (N : Int) (ft : Int → Int) (s v best : Int) : Prop := (¬ m_su M nt s v → best = 1000000) ∧ (m_su M nt s v → s + 1 = N → best = 0) ∧ (m_su M nt s v → s + 1 < N → m_mn (m_bc M sl ft s v) (M + 1) best)
def m_R0 (M F : Int) (nt : Int → Int) (N fr : Int) (fo wt : Int → Int) (v : Int) : Prop := ∀ v', 1 ≤ v' → v' < v → m_r0 M F nt N fr fo v' ∧ m_rw fo wt v'
def m_FA (M F : Int) (nt sl : Int → Int) (N fr : Int) (fo wt : Int → Int) (s v : Int) : Prop := m_R0 M F nt N fr fo wt (M + 1) ∧ ∀ s' v', 1 ≤ s' → s' ≤ 95 → 1 ≤ v' → v' ≤ M → (s' < s ∨ (s' = s ∧ v' < v)) → m_fe M nt sl fo wt s' v'
def m_FD (M F : Int) (nt sl : Int → Int) (N fr : Int) (fo wt : Int → Int) : Prop := m_R0 M F nt N fr fo wt (M + 1) ∧ ∀ s' v', 1 ≤ s' → s' < N → 1 ≤ v' → v' ≤ M → m_fe M nt sl fo wt s' v'
def m_AA (M : Int) (nt sl : Int → Int) (N : Int) (ft : Int → Int) (s v : Int) : Prop := ∀ s' v', 0 ≤ s' → s' < N → 1 ≤ v' → v' ≤ M → (s < s' ∨ (s' = s ∧ v' < v)) → m_ae M nt sl N ft s' v' (ft (14 * s' + v'))
def m_on (fo ft : Int → Int) (ls s v : Int) : Prop := fo (14 * s + v) + ft (14 * s + v) = ls
def m_M1 (M F : Int) (nt sl : Int → Int) (N fr : Int) (fo ft wt : Int → Int) (ls : Int) : Prop := m_FD M F nt sl N fr fo wt ∧ m_AA M nt sl N ft (-1) 1 ∧ m_mn (fun v => fo v + ft v) (M + 1) ls ∧ ls < 1000000
def m_nw (N M ls : Int) (fo wt : Int → Int) (k : Nat) : Int := m_ws (fun v => fo (14 * (N - 1) + v)) (fun v => wt (14 * (N - 1) + v)) ls k
/-- f at v, v + 1 .., k of them -/
def m_tl (f : Int → Int) (v : Int) : Nat → Int
  | 0 => 0
  | k + 1 => f v + m_tl f (v + 1) k
/-- from u at the row ahead to v at row s -/
def m_ok (M : Int) (sl fo ft : Int → Int) (ls s u v : Int) : Bool := decide (fo (14 * s + v) + ft (14 * s + v) = ls) && (decide (s ≤ 0) || decide (fo (14 * (s - 1) + u) + m_st M sl s u v = fo (14 * s + v)))
/-- in how many ways it goes on at row s, k rows from there on, behind u -/
def m_C (M : Int) (sl fo ft : Int → Int) (ls : Int) : Nat → Int → Int → Int
  | 0, _, _ => 1
  | k + 1, s, u => m_tl (fun v => bif m_ok M sl fo ft ls s u v then m_C M sl fo ft ls k (s + 1) v else 0) 1 M.toNat
/-- those from v on at row s -/
def m_lv (M : Int) (sl fo ft : Int → Int) (ls N s u v : Int) : Int := if s = N then (if v ≤ 1 then 1 else 0) else m_tl (fun v => bif m_ok M sl fo ft ls s u v then m_C M sl fo ft ls (N - s - 1).toNat (s + 1) v else 0) v (M + 1 - v).toNat
/-- and those from the next ones on at the rows ahead; X has the counts there, by 14 -/
def m_rest (M : Int) (sl fo ft : Int → Int) (ls N : Int) : Nat → Int → Int → Int
  | 0, v, _ => m_lv M sl fo ft ls N 0 0 v
  | s + 1, v, X => m_lv M sl fo ft ls N (s + 1) (X % 14) v + m_rest M sl fo ft ls N s (X % 14 + 1) (X / 14)
def m_dg (rc : Int → Int) : Nat → Int → Prop
  | 0, X => X = 0
  | n + 1, X => X % 14 = rc n ∧ m_dg rc n (X / 14)
-- the facts by number
def p_LD (fs : Int → Int) (x : Int) : Prop := ∃ z k, x = z + 128 * k ∧ 0 ≤ z ∧ z ≤ 127 ∧ 0 ≤ k ∧ (k < 8 → fs k = z)
def p_FI (nf : Int) (fs : Int → Int) (x : Int) : Prop := ∃ k s, x = k + 16 * s ∧ 0 ≤ k ∧ k ≤ 15 ∧ 0 ≤ s ∧ k < nf ∧ fs k = s
def p_YN (nf : Int) (fs : Int → Int) (x : Int) : Prop := ∃ n s, x = n + 16 * s ∧ 0 ≤ n ∧ n ≤ 15 ∧ 0 ≤ s ∧ n ≤ m_cnt fs s nf.toNat
def p_AT (an : Int → Int) (x : Int) : Prop := ∃ z i, x = z + 1 + 128 * i ∧ 0 ≤ z + 1 ∧ z + 1 ≤ 100 ∧ 0 ≤ i ∧ i < 60 ∧ an i = z
def p_AF (M : Int) (x : Int) : Prop := ∃ r b v, x = r + 16 * b + 256 * v ∧ 0 ≤ r ∧ r ≤ 15 ∧ 0 ≤ b ∧ b ≤ 15 ∧ 0 ≤ v ∧ v ≤ 15 ∧ r = m_af M v b
def p_NT (nt : Int → Int) (x : Int) : Prop := ∃ z s, x = z + 4 * s ∧ 0 ≤ z ∧ z ≤ 3 ∧ 0 ≤ s ∧ s ≤ 95 ∧ nt s = z
def p_SU (M : Int) (nt : Int → Int) (x : Int) : Prop := ∃ r v s, x = r + 2 * v + 32 * s ∧ 0 ≤ r ∧ r ≤ 1 ∧ 0 ≤ v ∧ v ≤ 15 ∧ 0 ≤ s ∧ s ≤ 95 ∧ (r = 1 ↔ m_su M nt s v)
def p_SL (sl : Int → Int) (x : Int) : Prop := ∃ z s, x = z + 16 * s ∧ 0 ≤ z ∧ z ≤ 9 ∧ 0 ≤ s ∧ s ≤ 95 ∧ sl s = z
def p_ST (M : Int) (sl : Int → Int) (x : Int) : Prop := ∃ t v u s, x = t + 16 * v + 256 * u + 4096 * s ∧ 0 ≤ t ∧ t ≤ 15 ∧ 0 ≤ v ∧ v ≤ 15 ∧ 0 ≤ u ∧ u ≤ 15 ∧ 0 ≤ s ∧ s ≤ 95 ∧ t = m_st M sl s u v
def p_FO (fo : Int → Int) (x : Int) : Prop := ∃ z i, x = z + 2097152 * i ∧ 0 ≤ z ∧ z ≤ 1000000 ∧ 0 ≤ i ∧ i ≤ 1343 ∧ fo i = z
def p_FT (ft : Int → Int) (x : Int) : Prop := ∃ z i, x = z + 2097152 * i ∧ 0 ≤ z ∧ z ≤ 1000000 ∧ 0 ≤ i ∧ i ≤ 1343 ∧ ft i = z
def p_ON (fo : Int → Int) (ft : Int → Int) (ls : Int) (x : Int) : Prop := ∃ r v s, x = r + 2 * v + 32 * s ∧ 0 ≤ r ∧ r ≤ 1 ∧ 0 ≤ v ∧ v ≤ 13 ∧ 0 ≤ s ∧ s ≤ 95 ∧ (r = 1 ↔ m_on fo ft ls s v)
def p_PS (cs : Int → Int) (x : Int) : Prop := ∃ n k, x = n + 4096 * k ∧ 0 ≤ n ∧ n ≤ 96 ∧ 0 ≤ k ∧ k ≤ 6 ∧ n = m_sum cs k.toNat
def p_NS (nc : Int) (cs : Int → Int) (x : Int) : Prop := x = m_N nc cs
def p_BM (M : Int) (nt : Int → Int) (sl : Int → Int) (fo : Int → Int) (x : Int) : Prop := ∃ b u v s, x = b + 2097152 * u + 33554432 * v + 536870912 * s ∧ 0 ≤ b ∧ b < 2097152 ∧ 1 ≤ u ∧ u ≤ M + 1 ∧ 1 ≤ v ∧ v ≤ M ∧ 1 ≤ s ∧ s ≤ 95 ∧ m_mn (m_fc M sl fo s v) u b ∧ (2 ≤ u → m_su M nt s v)
def p_BE (M : Int) (nt : Int → Int) (sl : Int → Int) (fo : Int → Int) (x : Int) : Prop := ∃ b v s, x = b + 2097152 * v + 33554432 * s ∧ 0 ≤ b ∧ b ≤ 1000000 ∧ 1 ≤ v ∧ v ≤ M ∧ 1 ≤ s ∧ s ≤ 95 ∧ m_be M nt sl fo s v b
def p_R0 (M : Int) (F : Int) (nt : Int → Int) (nc : Int) (cs : Int → Int) (fo : Int → Int) (wt : Int → Int) (x : Int) : Prop := ∃ v r, x = v + 16 * r ∧ 1 ≤ v ∧ v ≤ M + 1 ∧ 0 ≤ r ∧ r ≤ 1 ∧ m_R0 M F nt (m_N nc cs) r fo wt v
def p_RA (M : Int) (F : Int) (nt : Int → Int) (nc : Int) (cs : Int → Int) (fo : Int → Int) (wt : Int → Int) (x : Int) : Prop := ∃ v r b, x = v + 16 * r + 32 * b ∧ 1 ≤ v ∧ v ≤ M ∧ 0 ≤ r ∧ r ≤ 1 ∧ 0 ≤ b ∧ b ≤ 1 ∧ m_R0 M F nt (m_N nc cs) r fo wt v ∧ m_r0 M F nt (m_N nc cs) r fo v ∧ fo v = (if b = 1 then 0 else 1000000)
def p_FA (M : Int) (F : Int) (nt : Int → Int) (sl : Int → Int) (nc : Int) (cs : Int → Int) (fo : Int → Int) (wt : Int → Int) (x : Int) : Prop := ∃ v s r, x = v + 16 * s + 2048 * r ∧ 1 ≤ v ∧ v ≤ M + 1 ∧ 1 ≤ s ∧ s ≤ 96 ∧ 0 ≤ r ∧ r ≤ 1 ∧ m_FA M F nt sl (m_N nc cs) r fo wt s v
def p_FB (M : Int) (F : Int) (nt : Int → Int) (sl : Int → Int) (nc : Int) (cs : Int → Int) (fo : Int → Int) (wt : Int → Int) (x : Int) : Prop := ∃ w v s r, x = w + 16777216 * v + 268435456 * s + 68719476736 * r ∧ 0 ≤ w ∧ w < 16777216 ∧ 1 ≤ v ∧ v ≤ M ∧ 1 ≤ s ∧ s ≤ 95 ∧ 0 ≤ r ∧ r ≤ 1 ∧ m_FA M F nt sl (m_N nc cs) r fo wt s v ∧ m_be M nt sl fo s v (fo (14 * s + v)) ∧ w = m_wv M sl fo wt s v (fo (14 * s + v))
def p_FD (M : Int) (F : Int) (nt : Int → Int) (sl : Int → Int) (nc : Int) (cs : Int → Int) (fo : Int → Int) (wt : Int → Int) (x : Int) : Prop := 0 ≤ x ∧ x ≤ 1 ∧ m_FD M F nt sl (m_N nc cs) x fo wt
def p_WT (wt : Int → Int) (x : Int) : Prop := ∃ z i, x = z + 1048576 * i ∧ 0 ≤ z ∧ z ≤ 999999 ∧ 0 ≤ i ∧ i ≤ 1343 ∧ wt i = z
def p_BW (M : Int) (nt : Int → Int) (sl : Int → Int) (fo : Int → Int) (wt : Int → Int) (x : Int) : Prop := ∃ w u v s b, x = w + 16777216 * u + 268435456 * v + 4294967296 * s + 1099511627776 * b ∧ 0 ≤ w ∧ w < 16777216 ∧ 1 ≤ u ∧ u ≤ M + 1 ∧ 1 ≤ v ∧ v ≤ M ∧ 1 ≤ s ∧ s ≤ 95 ∧ 0 ≤ b ∧ b ≤ 1000000 ∧ m_be M nt sl fo s v b ∧ (2 ≤ u → b < 1000000) ∧ w = m_ws (m_fc M sl fo s v) (fun q => wt (14 * (s - 1) + q)) b (u - 1).toNat
def p_WE (M : Int) (nt : Int → Int) (sl : Int → Int) (fo : Int → Int) (wt : Int → Int) (x : Int) : Prop := ∃ w v s b, x = w + 16777216 * v + 268435456 * s + 68719476736 * b ∧ 0 ≤ w ∧ w < 16777216 ∧ 1 ≤ v ∧ v ≤ M ∧ 1 ≤ s ∧ s ≤ 95 ∧ 0 ≤ b ∧ b ≤ 1000000 ∧ m_be M nt sl fo s v b ∧ w = m_wv M sl fo wt s v b
def p_AM (M : Int) (nt : Int → Int) (sl : Int → Int) (nc : Int) (cs : Int → Int) (ft : Int → Int) (x : Int) : Prop := ∃ b u v s, x = b + 2097152 * u + 33554432 * v + 536870912 * s ∧ 0 ≤ b ∧ b < 2097152 ∧ 1 ≤ u ∧ u ≤ M + 1 ∧ 1 ≤ v ∧ v ≤ M ∧ 0 ≤ s ∧ s ≤ 95 ∧ b ≤ 1000000 ∧ (¬ m_su M nt s v → b = 1000000 ∧ u = 1) ∧ (m_su M nt s v → s + 1 = m_N nc cs → b = 0 ∧ u = 1) ∧ (m_su M nt s v → s + 1 < m_N nc cs → m_mn (m_bc M sl ft s v) u b)
def p_AN (M : Int) (nt : Int → Int) (sl : Int → Int) (nc : Int) (cs : Int → Int) (ft : Int → Int) (x : Int) : Prop := ∃ b v s, x = b + 2097152 * v + 33554432 * s ∧ 0 ≤ b ∧ b ≤ 1000000 ∧ 1 ≤ v ∧ v ≤ M ∧ 0 ≤ s ∧ s ≤ 95 ∧ m_ae M nt sl (m_N nc cs) ft s v b
def p_AA (M : Int) (nt : Int → Int) (sl : Int → Int) (nc : Int) (cs : Int → Int) (ft : Int → Int) (x : Int) : Prop := ∃ v s, x = v + 16 * (s + 1) ∧ 1 ≤ v ∧ v ≤ M + 1 ∧ -1 ≤ s ∧ s ≤ 95 ∧ m_AA M nt sl (m_N nc cs) ft s v
def p_AD (M : Int) (nt : Int → Int) (sl : Int → Int) (nc : Int) (cs : Int → Int) (ft : Int → Int) (x : Int) : Prop := m_AA M nt sl (m_N nc cs) ft (-1) 1
def p_LM (M : Int) (nc : Int) (cs : Int → Int) (fo : Int → Int) (ft : Int → Int) (x : Int) : Prop := ∃ l v, x = l + 2097152 * v ∧ 0 ≤ l ∧ l ≤ 1000000 ∧ (m_N nc cs ≤ 0 ∨ 1 ≤ v ∧ v ≤ M + 1 ∧ m_mn (fun q => fo q + ft q) v l)
def p_M1 (M : Int) (F : Int) (nt : Int → Int) (sl : Int → Int) (nc : Int) (cs : Int → Int) (fo : Int → Int) (ft : Int → Int) (wt : Int → Int) (ls : Int) (x : Int) : Prop := 0 ≤ x ∧ x ≤ 1 ∧ (m_N nc cs ≤ 0 ∨ m_M1 M F nt sl (m_N nc cs) x fo ft wt ls)
def p_NW (M : Int) (nc : Int) (cs : Int → Int) (fo : Int → Int) (wt : Int → Int) (ls : Int) (x : Int) : Prop := ∃ n v, x = n + 16777216 * v ∧ 0 ≤ n ∧ n < 16777216 ∧ 1 ≤ v ∧ v ≤ M + 1 ∧ 1 ≤ m_N nc cs ∧ n = m_nw (m_N nc cs) M ls fo wt (v - 1).toNat
def p_M2 (M : Int) (nc : Int) (cs : Int → Int) (fo : Int → Int) (wt : Int → Int) (ls : Int) (x : Int) : Prop := m_N nc cs ≤ 0 ∨ x = m_lim (m_nw (m_N nc cs) M ls fo wt M.toNat)
def p_NO (M : Int) (nc : Int) (cs : Int → Int) (fo : Int → Int) (ft : Int → Int) (ls : Int) (x : Int) : Prop := m_N nc cs ≤ 0 ∨ ∀ v, 1 ≤ v → v ≤ M → v < x → ¬ m_on fo ft ls 0 v
def p_OP (M : Int) (nc : Int) (cs : Int → Int) (fo : Int → Int) (ft : Int → Int) (ls : Int) (x : Int) : Prop := ∃ v s, x = v + 16 * s ∧ 0 ≤ v ∧ v ≤ 15 ∧ 1 ≤ s ∧ (m_N nc cs ≤ 0 ∨ 1 ≤ v ∧ v ≤ M ∧ m_on fo ft ls (s - 1) v)
def p_NB (M : Int) (sl : Int → Int) (fo : Int → Int) (ft : Int → Int) (ls : Int) (x : Int) : Prop := ∃ b v s, x = b + 16 * v + 256 * s ∧ 0 ≤ b ∧ b ≤ 15 ∧ 0 ≤ v ∧ v ≤ 15 ∧ 1 ≤ s ∧ ∀ c, 0 ≤ c → c < b → ¬ (m_on fo ft ls s (m_af M v c) ∧ fo (14 * (s - 1) + v) + m_st M sl s v (m_af M v c) = fo (14 * s + m_af M v c))
def p_OA (M : Int) (fo : Int → Int) (ft : Int → Int) (ls : Int) (x : Int) : Prop := ∃ b v s, x = b + 16 * v + 256 * s ∧ 0 ≤ b ∧ b ≤ 15 ∧ 0 ≤ v ∧ v ≤ 15 ∧ m_on fo ft ls s (m_af M v b)
def p_FP (fo : Int → Int) (x : Int) : Prop := ∃ z i, x = z + 2097152 * i ∧ 0 ≤ z ∧ z ≤ 1000000 ∧ 0 ≤ i ∧ i ≤ 1343 ∧ fo i = z
def p_SV (M : Int) (sl : Int → Int) (fo : Int → Int) (x : Int) : Prop := ∃ y b v s, x = y + 2097152 * b + 33554432 * v + 536870912 * s ∧ 0 ≤ y ∧ y < 2097152 ∧ 0 ≤ b ∧ b ≤ 15 ∧ 0 ≤ v ∧ v ≤ 15 ∧ y = fo (14 * (s - 1) + v) + m_st M sl s v (m_af M v b)
def p_RC (rc : Int → Int) (x : Int) : Prop := ∃ z i, x = z + 16 * i ∧ 0 ≤ z ∧ z ≤ 13 ∧ 0 ≤ i ∧ i ≤ 95 ∧ rc i = z
def p_RD (rc : Int → Int) (x : Int) : Prop := ∃ z i, x = z + 16 * i ∧ 0 ≤ z ∧ z ≤ 13 ∧ 0 ≤ i ∧ i ≤ 95 ∧ rc i = z
def p_XX (x : Int) : Prop := True
def p_XO (x : Int) : Prop := True
def p_PX (rc : Int → Int) (x : Int) : Prop := ∃ s X, x = s + 128 * X ∧ 0 ≤ s ∧ s ≤ 96 ∧ 0 ≤ X ∧ m_dg rc s.toNat X
def p_QQ (M : Int) (sl : Int → Int) (nc : Int) (cs : Int → Int) (fo : Int → Int) (ft : Int → Int) (ls : Int) (x : Int) : Prop := ∃ v s r X, x = v + 16 * s + 2048 * r + 1048576 * X ∧ 0 ≤ v ∧ v ≤ 15 ∧ 0 ≤ s ∧ s ≤ 96 ∧ 0 ≤ r ∧ r ≤ 511 ∧ 0 ≤ X ∧ 1 ≤ m_N nc cs ∧ s ≤ m_N nc cs ∧ r + m_rest M sl fo ft ls (m_N nc cs) s.toNat v X ≤ 12
abbrev m_b0 (g : mG) : Int → Int := m_ac g 467 0 60
abbrev m_b1 (g : mG) : Int → Int := m_ac g 469 0 60
abbrev m_b2 (g : mG) : Int → Int := m_ac g 471 0 60
abbrev m_b3 (g : mG) : Int → Int := m_ac g 473 0 60
abbrev m_nn (g : mG) : Int → Int := m_ac g 537 0 240
/-- one of four -/
def m_sel {α : Type} (a0 a1 a2 a3 : α) (v : Int) : α := if v = 0 then a0 else if v = 1 then a1 else if v = 2 then a2 else a3
def m_rg (l0 l1 l2 l3 : Int) : Prop := 0 ≤ l0 ∧ l0 ≤ 60 ∧ 0 ≤ l1 ∧ l1 ≤ 60 ∧ 0 ≤ l2 ∧ l2 ≤ 60 ∧ 0 ≤ l3 ∧ l3 ≤ 60
/-- the first numbers of each tray are the same, where E -/
def m_Q (a0 a1 a2 a3 nn : Int → Int) (l0 l1 l2 l3 : Int) (E : Int → Int → Prop) : Prop := ∀ v q, 0 ≤ v → v ≤ 3 → 0 ≤ q → q < m_sel l0 l1 l2 l3 v → E v q → m_sel a0 a1 a2 a3 v q = nn (60 * v + q)
def m_w8 (v : Int) : Int := (v + 128) % 256 - 128
def m_w16 (v : Int) : Int := (v + 32768) % 65536 - 32768
def m_w32 (v : Int) : Int := (v + 2147483648) % 4294967296 - 2147483648
def p_TQ (a0 : Int → Int) (a1 : Int → Int) (a2 : Int → Int) (a3 : Int → Int) (nn : Int → Int) (x : Int) : Prop := ∃ l0 l1 l2 l3, x = l0 + 64 * l1 + 4096 * l2 + 262144 * l3 ∧ m_rg l0 l1 l2 l3 ∧ m_Q a0 a1 a2 a3 nn l0 l1 l2 l3 (fun _ _ => True)
def p_XW (x : Int) : Prop := True
def p_LI (x : Int) : Prop := ∃ v y, x = v + 9223372036854775808 + 18446744073709551616 * (y + 2147483648) ∧ 0 ≤ v + 9223372036854775808 ∧ v < 9223372036854775808 ∧ y = m_w32 v
def p_CV0 (x : Int) : Prop := ∃ v z, x = v + 9223372036854775808 + 18446744073709551616 * (z + 9223372036854775808) ∧ 0 ≤ v + 9223372036854775808 ∧ v < 9223372036854775808 ∧ z = m_w8 v
def p_CV1 (x : Int) : Prop := ∃ v z, x = v + 9223372036854775808 + 18446744073709551616 * (z + 9223372036854775808) ∧ 0 ≤ v + 9223372036854775808 ∧ v < 9223372036854775808 ∧ z = m_w16 v
def p_CV2 (x : Int) : Prop := ∃ v z, x = v + 9223372036854775808 + 18446744073709551616 * (z + 9223372036854775808) ∧ 0 ≤ v + 9223372036854775808 ∧ v < 9223372036854775808 ∧ z = m_w32 v
def p_CR0 (x : Int) : Prop := ∃ v z, x = v + 9223372036854775808 + 18446744073709551616 * (z + 9223372036854775808) ∧ 0 ≤ v + 9223372036854775808 ∧ v < 9223372036854775808 ∧ z = m_w8 v
def p_CR1 (x : Int) : Prop := ∃ v z, x = v + 9223372036854775808 + 18446744073709551616 * (z + 9223372036854775808) ∧ 0 ≤ v + 9223372036854775808 ∧ v < 9223372036854775808 ∧ z = m_w16 v
def p_CR2 (x : Int) : Prop := ∃ v z, x = v + 9223372036854775808 + 18446744073709551616 * (z + 9223372036854775808) ∧ 0 ≤ v + 9223372036854775808 ∧ v < 9223372036854775808 ∧ z = m_w32 v
def p_TE0 (a1 : Int → Int) (a2 : Int → Int) (a3 : Int → Int) (nn : Int → Int) (x : Int) : Prop := ∃ l1 l2 l3, x = 64 * l1 + 4096 * l2 + 262144 * l3 ∧ m_rg 0 l1 l2 l3 ∧ m_Q (fun _ => 0) a1 a2 a3 nn 0 l1 l2 l3 (fun _ _ => True)
def p_TZ0 (a0 : Int → Int) (x : Int) : Prop := ∀ i, 0 ≤ i → i < x → i < 60 → a0 i = 0
def p_TM0 (nn : Int → Int) (x : Int) : Prop := ∀ i, 0 ≤ i → i < x → i < 60 → nn (0 + i) = 0
def p_EX0 (a0 : Int → Int) (a1 : Int → Int) (a2 : Int → Int) (a3 : Int → Int) (nn : Int → Int) (x : Int) : Prop := ∃ l0 l1 l2 l3 p w, x = l0 + 64 * l1 + 4096 * l2 + 262144 * l3 + 16777216 * p + 1073741824 * (w + 9223372036854775808) ∧ m_rg l0 l1 l2 l3 ∧ 0 ≤ p ∧ p ≤ 59 ∧ 0 ≤ w + 9223372036854775808 ∧ m_Q a0 a1 a2 a3 nn l0 l1 l2 l3 (fun v q => v ≠ 0 ∨ q ≠ p) ∧ a0 p = w
def p_NV0 (a0 : Int → Int) (x : Int) : Prop := ∃ p z, x = p + 64 * (z + 9223372036854775808) ∧ 0 ≤ p ∧ p ≤ 59 ∧ 0 ≤ z + 9223372036854775808 ∧ a0 p = z
def p_TE1 (a0 : Int → Int) (a2 : Int → Int) (a3 : Int → Int) (nn : Int → Int) (x : Int) : Prop := ∃ l0 l2 l3, x = l0 + 4096 * l2 + 262144 * l3 ∧ m_rg l0 0 l2 l3 ∧ m_Q a0 (fun _ => 0) a2 a3 nn l0 0 l2 l3 (fun _ _ => True)
def p_TZ1 (a1 : Int → Int) (x : Int) : Prop := ∀ i, 0 ≤ i → i < x → i < 60 → a1 i = 0
def p_TM1 (nn : Int → Int) (x : Int) : Prop := ∀ i, 0 ≤ i → i < x → i < 60 → nn (60 + i) = 0
def p_EX1 (a0 : Int → Int) (a1 : Int → Int) (a2 : Int → Int) (a3 : Int → Int) (nn : Int → Int) (x : Int) : Prop := ∃ l0 l1 l2 l3 p w, x = l0 + 64 * l1 + 4096 * l2 + 262144 * l3 + 16777216 * p + 1073741824 * (w + 9223372036854775808) ∧ m_rg l0 l1 l2 l3 ∧ 0 ≤ p ∧ p ≤ 59 ∧ 0 ≤ w + 9223372036854775808 ∧ m_Q a0 a1 a2 a3 nn l0 l1 l2 l3 (fun v q => v ≠ 1 ∨ q ≠ p) ∧ a1 p = w
def p_NV1 (a1 : Int → Int) (x : Int) : Prop := ∃ p z, x = p + 64 * (z + 9223372036854775808) ∧ 0 ≤ p ∧ p ≤ 59 ∧ 0 ≤ z + 9223372036854775808 ∧ a1 p = z
def p_TE2 (a0 : Int → Int) (a1 : Int → Int) (a3 : Int → Int) (nn : Int → Int) (x : Int) : Prop := ∃ l0 l1 l3, x = l0 + 64 * l1 + 262144 * l3 ∧ m_rg l0 l1 0 l3 ∧ m_Q a0 a1 (fun _ => 0) a3 nn l0 l1 0 l3 (fun _ _ => True)
def p_TZ2 (a2 : Int → Int) (x : Int) : Prop := ∀ i, 0 ≤ i → i < x → i < 60 → a2 i = 0
def p_TM2 (nn : Int → Int) (x : Int) : Prop := ∀ i, 0 ≤ i → i < x → i < 60 → nn (120 + i) = 0
def p_EX2 (a0 : Int → Int) (a1 : Int → Int) (a2 : Int → Int) (a3 : Int → Int) (nn : Int → Int) (x : Int) : Prop := ∃ l0 l1 l2 l3 p w, x = l0 + 64 * l1 + 4096 * l2 + 262144 * l3 + 16777216 * p + 1073741824 * (w + 9223372036854775808) ∧ m_rg l0 l1 l2 l3 ∧ 0 ≤ p ∧ p ≤ 59 ∧ 0 ≤ w + 9223372036854775808 ∧ m_Q a0 a1 a2 a3 nn l0 l1 l2 l3 (fun v q => v ≠ 2 ∨ q ≠ p) ∧ a2 p = w
def p_NV2 (a2 : Int → Int) (x : Int) : Prop := ∃ p z, x = p + 64 * (z + 9223372036854775808) ∧ 0 ≤ p ∧ p ≤ 59 ∧ 0 ≤ z + 9223372036854775808 ∧ a2 p = z
def p_TE3 (a0 : Int → Int) (a1 : Int → Int) (a2 : Int → Int) (nn : Int → Int) (x : Int) : Prop := ∃ l0 l1 l2, x = l0 + 64 * l1 + 4096 * l2 ∧ m_rg l0 l1 l2 0 ∧ m_Q a0 a1 a2 (fun _ => 0) nn l0 l1 l2 0 (fun _ _ => True)
def p_TZ3 (a3 : Int → Int) (x : Int) : Prop := ∀ i, 0 ≤ i → i < x → i < 60 → a3 i = 0
def p_TM3 (nn : Int → Int) (x : Int) : Prop := ∀ i, 0 ≤ i → i < x → i < 60 → nn (180 + i) = 0
def p_EX3 (a0 : Int → Int) (a1 : Int → Int) (a2 : Int → Int) (a3 : Int → Int) (nn : Int → Int) (x : Int) : Prop := ∃ l0 l1 l2 l3 p w, x = l0 + 64 * l1 + 4096 * l2 + 262144 * l3 + 16777216 * p + 1073741824 * (w + 9223372036854775808) ∧ m_rg l0 l1 l2 l3 ∧ 0 ≤ p ∧ p ≤ 59 ∧ 0 ≤ w + 9223372036854775808 ∧ m_Q a0 a1 a2 a3 nn l0 l1 l2 l3 (fun v q => v ≠ 3 ∨ q ≠ p) ∧ a3 p = w
def p_NV3 (a3 : Int → Int) (x : Int) : Prop := ∃ p z, x = p + 64 * (z + 9223372036854775808) ∧ 0 ≤ p ∧ p ≤ 59 ∧ 0 ≤ z + 9223372036854775808 ∧ a3 p = z
def p_NL (nn : Int → Int) (x : Int) : Prop := ∃ q z, x = q + 256 * (z + 9223372036854775808) ∧ 0 ≤ q ∧ q ≤ 239 ∧ 0 ≤ z + 9223372036854775808 ∧ nn q = z
/-- what is poured: from .. to .. of u's numbers are t's still, in the reference's -/
def m_pp (a0 a1 a2 a3 nn : Int → Int) (l0 l1 l2 l3 i j t u lo hi : Int) : Prop := m_Q a0 a1 a2 a3 nn l0 l1 l2 l3 (fun v q => ¬ (v = u ∧ lo ≤ q ∧ q < hi)) ∧ ∀ q, lo ≤ q → q < hi → m_sel a0 a1 a2 a3 u q = nn (60 * t + i + q - j)
def p_PP (a0 : Int → Int) (a1 : Int → Int) (a2 : Int → Int) (a3 : Int → Int) (nn : Int → Int) (x : Int) : Prop := ∃ l0 l1 l2 l3 i j m t u, x = l0 + 64 * l1 + 4096 * l2 + 262144 * l3 + 16777216 * i + 1073741824 * j + 68719476736 * m + 4398046511104 * t + 17592186044416 * u ∧ m_rg l0 l1 l2 l3 ∧ 0 ≤ i ∧ 0 ≤ j ∧ 0 ≤ m ∧ 0 ≤ t ∧ t ≤ 3 ∧ 0 ≤ u ∧ u ≤ 3 ∧ i + m ≤ m_sel l0 l1 l2 l3 t ∧ j + m ≤ m_sel l0 l1 l2 l3 u ∧ m_pp a0 a1 a2 a3 nn l0 l1 l2 l3 i j t u j (j + m)
def p_GA (a0 : Int → Int) (a1 : Int → Int) (a2 : Int → Int) (a3 : Int → Int) (nn : Int → Int) (x : Int) : Prop := ∃ l0 l1 l2 l3 i j m t u k, x = l0 + 64 * l1 + 4096 * l2 + 262144 * l3 + 16777216 * i + 1073741824 * j + 68719476736 * m + 4398046511104 * t + 17592186044416 * u + 70368744177664 * k ∧ m_rg l0 l1 l2 l3 ∧ 0 ≤ i ∧ 0 ≤ j ∧ 0 ≤ m ∧ 0 ≤ t ∧ t ≤ 3 ∧ 0 ≤ u ∧ u ≤ 3 ∧ i + m ≤ m_sel l0 l1 l2 l3 t ∧ j + m ≤ m_sel l0 l1 l2 l3 u ∧ 0 ≤ k ∧ k ≤ m ∧ j ≤ i ∧ m_pp a0 a1 a2 a3 nn l0 l1 l2 l3 i j t u (j + k) (j + m)
def p_GD (a0 : Int → Int) (a1 : Int → Int) (a2 : Int → Int) (a3 : Int → Int) (nn : Int → Int) (x : Int) : Prop := ∃ l0 l1 l2 l3 i j m t u k, x = l0 + 64 * l1 + 4096 * l2 + 262144 * l3 + 16777216 * i + 1073741824 * j + 68719476736 * m + 4398046511104 * t + 17592186044416 * u + 70368744177664 * k ∧ m_rg l0 l1 l2 l3 ∧ 0 ≤ i ∧ 0 ≤ j ∧ 0 ≤ m ∧ 0 ≤ t ∧ t ≤ 3 ∧ 0 ≤ u ∧ u ≤ 3 ∧ i + m ≤ m_sel l0 l1 l2 l3 t ∧ j + m ≤ m_sel l0 l1 l2 l3 u ∧ 0 ≤ k ∧ k ≤ m ∧ i < j ∧ m_pp a0 a1 a2 a3 nn l0 l1 l2 l3 i j t u j (j + m - k)
def m_P (code : Nat) (x : Int) (g : mG) : Prop :=
  bif Nat.beq code 4323473234462769252 then p_TQ (m_b0 g) (m_b1 g) (m_b2 g) (m_b3 g) (m_nn g) x else
  bif Nat.beq code 1048677 then p_XW  x else
  bif Nat.beq code 1048678 then p_LI  x else
  bif Nat.beq code 1048679 then p_CV0  x else
  bif Nat.beq code 1048680 then p_CV1  x else
  bif Nat.beq code 1048681 then p_CV2  x else
  bif Nat.beq code 1048682 then p_CR0  x else
  bif Nat.beq code 1048683 then p_CR1  x else
  bif Nat.beq code 1048684 then p_CR2  x else
  bif Nat.beq code 4035242858311057518 then p_TE0 (m_b1 g) (m_b2 g) (m_b3 g) (m_nn g) x else
  bif Nat.beq code 288230376152760434 then p_TZ0 (m_b0 g) x else
  bif Nat.beq code 17592187093110 then p_TM0 (m_nn g) x else
  bif Nat.beq code 4323473234462769274 then p_EX0 (m_b0 g) (m_b1 g) (m_b2 g) (m_b3 g) (m_nn g) x else
  bif Nat.beq code 288230376152760446 then p_NV0 (m_b0 g) x else
  bif Nat.beq code 3747012482159345775 then p_TE1 (m_b0 g) (m_b2 g) (m_b3 g) (m_nn g) x else
  bif Nat.beq code 576460752304472179 then p_TZ1 (m_b1 g) x else
  bif Nat.beq code 17592187093111 then p_TM1 (m_nn g) x else
  bif Nat.beq code 4323473234462769275 then p_EX1 (m_b0 g) (m_b1 g) (m_b2 g) (m_b3 g) (m_nn g) x else
  bif Nat.beq code 576460752304472191 then p_NV1 (m_b1 g) x else
  bif Nat.beq code 3170551729855922288 then p_TE2 (m_b0 g) (m_b1 g) (m_b3 g) (m_nn g) x else
  bif Nat.beq code 1152921504607895668 then p_TZ2 (m_b2 g) x else
  bif Nat.beq code 17592187093112 then p_TM2 (m_nn g) x else
  bif Nat.beq code 4323473234462769276 then p_EX2 (m_b0 g) (m_b1 g) (m_b2 g) (m_b3 g) (m_nn g) x else
  bif Nat.beq code 1152921504607895680 then p_NV2 (m_b2 g) x else
  bif Nat.beq code 2017630225249075313 then p_TE3 (m_b0 g) (m_b1 g) (m_b2 g) (m_nn g) x else
  bif Nat.beq code 2305843009214742645 then p_TZ3 (m_b3 g) x else
  bif Nat.beq code 17592187093113 then p_TM3 (m_nn g) x else
  bif Nat.beq code 4323473234462769277 then p_EX3 (m_b0 g) (m_b1 g) (m_b2 g) (m_b3 g) (m_nn g) x else
  bif Nat.beq code 2305843009214742657 then p_NV3 (m_b3 g) x else
  bif Nat.beq code 17592187093125 then p_NL (m_nn g) x else
  bif Nat.beq code 4323473234462769282 then p_PP (m_b0 g) (m_b1 g) (m_b2 g) (m_b3 g) (m_nn g) x else
  bif Nat.beq code 4323473234462769283 then p_GA (m_b0 g) (m_b1 g) (m_b2 g) (m_b3 g) (m_nn g) x else
  bif Nat.beq code 4323473234462769284 then p_GD (m_b0 g) (m_b1 g) (m_b2 g) (m_b3 g) (m_nn g) x else
  bif Nat.beq code 68157450 then p_LD (m_fs g) x else
  bif Nat.beq code 101711883 then p_FI (m_nf g) (m_fs g) x else
  bif Nat.beq code 101711884 then p_YN (m_nf g) (m_fs g) x else
  bif Nat.beq code 144115188076904461 then p_AT (m_an g) x else
  bif Nat.beq code 34603022 then p_AF (m_M g) x else
  bif Nat.beq code 135266319 then p_NT (m_nt g) x else
  bif Nat.beq code 168820752 then p_SU (m_M g) (m_nt g) x else
  bif Nat.beq code 2148532241 then p_SL (m_sl g) x else
  bif Nat.beq code 2182086674 then p_ST (m_M g) (m_sl g) x else
  bif Nat.beq code 537919507 then p_FO (m_fo g) x else
  bif Nat.beq code 1074790420 then p_FT (m_ft g) x else
  bif Nat.beq code 1628438549 then p_ON (m_fo g) (m_ft g) (m_ls g) x else
  bif Nat.beq code 34603030 then p_PS (m_cs g) x else
  bif Nat.beq code 34603031 then p_NS (m_nc g) (m_cs g) x else
  bif Nat.beq code 2853175320 then p_BM (m_M g) (m_nt g) (m_sl g) (m_fo g) x else
  bif Nat.beq code 2853175321 then p_BE (m_M g) (m_nt g) (m_sl g) (m_fo g) x else
  bif Nat.beq code 5000658970 then p_R0 (m_M g) (m_F g) (m_nt g) (m_nc g) (m_cs g) (m_fo g) (m_wt g) x else
  bif Nat.beq code 5000658971 then p_RA (m_M g) (m_F g) (m_nt g) (m_nc g) (m_cs g) (m_fo g) (m_wt g) x else
  bif Nat.beq code 7148142620 then p_FA (m_M g) (m_F g) (m_nt g) (m_sl g) (m_nc g) (m_cs g) (m_fo g) (m_wt g) x else
  bif Nat.beq code 7148142621 then p_FB (m_M g) (m_F g) (m_nt g) (m_sl g) (m_nc g) (m_cs g) (m_fo g) (m_wt g) x else
  bif Nat.beq code 7148142622 then p_FD (m_M g) (m_F g) (m_nt g) (m_sl g) (m_nc g) (m_cs g) (m_fo g) (m_wt g) x else
  bif Nat.beq code 4296015903 then p_WT (m_wt g) x else
  bif Nat.beq code 7148142624 then p_BW (m_M g) (m_nt g) (m_sl g) (m_fo g) (m_wt g) x else
  bif Nat.beq code 7148142625 then p_WE (m_M g) (m_nt g) (m_sl g) (m_fo g) (m_wt g) x else
  bif Nat.beq code 3390046242 then p_AM (m_M g) (m_nt g) (m_sl g) (m_nc g) (m_cs g) (m_ft g) x else
  bif Nat.beq code 3390046243 then p_AN (m_M g) (m_nt g) (m_sl g) (m_nc g) (m_cs g) (m_ft g) x else
  bif Nat.beq code 3390046244 then p_AA (m_M g) (m_nt g) (m_sl g) (m_nc g) (m_cs g) (m_ft g) x else
  bif Nat.beq code 3390046245 then p_AD (m_M g) (m_nt g) (m_sl g) (m_nc g) (m_cs g) (m_ft g) x else
  bif Nat.beq code 1645215782 then p_LM (m_M g) (m_nc g) (m_cs g) (m_fo g) (m_ft g) x else
  bif Nat.beq code 8238661671 then p_M1 (m_M g) (m_F g) (m_nt g) (m_sl g) (m_nc g) (m_cs g) (m_fo g) (m_ft g) (m_wt g) (m_ls g) x else
  bif Nat.beq code 4883218472 then p_NW (m_M g) (m_nc g) (m_cs g) (m_fo g) (m_wt g) (m_ls g) x else
  bif Nat.beq code 4883218473 then p_M2 (m_M g) (m_nc g) (m_cs g) (m_fo g) (m_wt g) (m_ls g) x else
  bif Nat.beq code 1661993002 then p_NO (m_M g) (m_nc g) (m_cs g) (m_fo g) (m_ft g) (m_ls g) x else
  bif Nat.beq code 1661993003 then p_OP (m_M g) (m_nc g) (m_cs g) (m_fo g) (m_ft g) (m_ls g) x else
  bif Nat.beq code 3809476652 then p_NB (m_M g) (m_sl g) (m_fo g) (m_ft g) (m_ls g) x else
  bif Nat.beq code 1661993005 then p_OA (m_M g) (m_fo g) (m_ft g) (m_ls g) x else
  bif Nat.beq code 537919534 then p_FP (m_fo g) x else
  bif Nat.beq code 2718957615 then p_SV (m_M g) (m_sl g) (m_fo g) x else
  bif Nat.beq code 1099512676400 then p_RC (m_rc g) x else
  bif Nat.beq code 1099512676401 then p_RD (m_rc g) x else
  bif Nat.beq code 1048626 then p_XX  x else
  bif Nat.beq code 1048627 then p_XO  x else
  bif Nat.beq code 1099512676404 then p_PX (m_rc g) x else
  bif Nat.beq code 3809476661 then p_QQ (m_M g) (m_sl g) (m_nc g) (m_cs g) (m_fo g) (m_ft g) (m_ls g) x else
  True
/-- facts of the heap by number: below 1048576 "what stands in an array ahead of a place is an int of 0 .. that number"; the others speak of the places that the number's bits from the 24th on pick out of a_MT -/
noncomputable def a_MT : aW := [(534, 534, 29, 30), (539, 539, 0, 13), (539, 539, 13, 49), (539, 539, 49, 145), (539, 539, 145, 360), (543, 543, 0, 1344), (544, 544, 0, 1344), (545, 545, 0, 96), (546, 546, 0, 1344), (542, 542, 0, 96), (554, 554, 0, 8), (555, 555, 0, 8), (549, 549, 0, 28), (550, 550, 0, 1344), (551, 551, 0, 1152), (552, 552, 0, 4096), (553, 553, 0, 96), (534, 534, 40, 41), (535, 535, 0, 4), (536, 536, 0, 4), (537, 537, 0, 240), (538, 538, 0, 900), (534, 534, 8, 20), (541, 541, 0, 4), (540, 540, 0, 147), (539, 539, 360, 1440), (539, 539, 1440, 1800), (534, 534, 32, 34), (547, 548, 0, 96), (534, 534, 43, 52), (556, 556, 0, 4), (534, 534, 0, 4), (534, 534, 23, 24), (44, 44, 0, 60), (467, 467, 0, 60), (469, 469, 0, 60), (471, 471, 0, 60), (473, 473, 0, 60)]
noncomputable def a_mdl (k : Nat) : aW → aW
  | [] => []
  | r :: l => bif Nat.beq (k % 2) 1 then r :: a_mdl (k / 2) l else a_mdl (k / 2) l
noncomputable def a_Md (code : Nat) : aW := a_mdl (code / 16777216) a_MT
noncomputable def a_gm (sp : aSp) (nc code : Nat) (h : qH) : mG := fun c j => bif Nat.blt c nc && (Nat.blt j (a_cl sp c) && a_inS (a_Md code) c j) then m_int (a_fd h c j) else 0
/-- what those numbers say -/
noncomputable def a_M (sp : aSp) (nc code : Nat) (x : Int) (h : qH) : Prop := m_P code x (a_gm sp nc code h)
theorem a_gm_fr {sp : aSp} {nc code : Nat} {h h' : qH} (hf : ∀ c j, c < nc → j < a_cl sp c → a_inS (a_Md code) c j = true → a_fd h' c j = a_fd h c j) : a_gm sp nc code h' = a_gm sp nc code h := by
  funext c j
  unfold a_gm
  cases hb : (Nat.blt c nc && (Nat.blt j (a_cl sp c) && a_inS (a_Md code) c j)) with
  | false => rfl
  | true =>
    simp only [Bool.and_eq_true, q_blt, decide_eq_true_eq] at hb
    rw [hf c j hb.1 hb.2.1 hb.2.2]
theorem a_M_fr {sp : aSp} {nc code : Nat} {x : Int} {h h' : qH} (hf : ∀ c j, c < nc → j < a_cl sp c → a_inS (a_Md code) c j = true → a_fd h' c j = a_fd h c j) (hm : a_M sp nc code x h) : a_M sp nc code x h' := by
  unfold a_M
  rw [a_gm_fr hf]
  exact hm
