-- 67c0.core: the texts' rules in numbers (printed by wip/p5/gen68.py)
theorem k_byq1 {ba : Int → Int} (hba : ∀ i, -128 ≤ ba i ∧ ba i ≤ 127) {i w F : Int} (zba : 0 ≤ i - 0 → i - 0 < 900 → ba (i - 0) = w) (p0 : p_BY ba (F)) (c0 : 0 ≤ F + (-256) * i) (c1 : 0 ≤ 256 * i + (-1) * F + 255) (c2 : 0 ≤ i) : 0 ≤ w + 256 * i + (-1) * F + 128 := by
  obtain ⟨z, j, e, ja, jb, za, zb, h⟩ := p0
  obtain rfl : j = i := by omega
  have h2 := zba (by omega) (by omega)
  rw [show j - 0 = j by omega, h] at h2
  omega
theorem k_byq2 {ba : Int → Int} (hba : ∀ i, -128 ≤ ba i ∧ ba i ≤ 127) {i w F : Int} (zba : 0 ≤ i - 0 → i - 0 < 900 → ba (i - 0) = w) (p0 : p_BY ba (F)) (c0 : 0 ≤ F + (-256) * i) (c1 : 0 ≤ 256 * i + (-1) * F + 255) (c2 : 0 ≤ i) : 0 ≤ F + (-256) * i + (-1) * w + (-128) := by
  obtain ⟨z, j, e, ja, jb, za, zb, h⟩ := p0
  obtain rfl : j = i := by omega
  have h2 := zba (by omega) (by omega)
  rw [show j - 0 = j by omega, h] at h2
  omega
theorem k_by {ba : Int → Int} (hba : ∀ i, -128 ≤ ba i ∧ ba i ≤ 127) {i z : Int} (zba : 0 ≤ i - 0 → i - 0 < 900 → ba (i - 0) = z) (c0 : 0 ≤ i) (c1 : 0 ≤ (-1) * i + 899) (c2 : 0 ≤ z + 128) (c3 : 0 ≤ (-1) * z + 127) : p_BY ba (256 * i + z + 128) := by
  have h2 := zba (by omega) (by omega)
  rw [show i - 0 = i by omega] at h2
  exact ⟨z, i, by omega, by omega, by omega, by omega, by omega, h2⟩
theorem k_sk0 {qn : Int} {ba : Int → Int} (hqn : 0 ≤ qn ∧ qn ≤ 900) (hba : ∀ i, -128 ≤ ba i ∧ ba i ≤ 127) {q : Int} (c0 : 0 ≤ q) (c1 : 0 ≤ (-1) * q + 900) : p_SK ba qn (1025 * q) := by
  exact ⟨q, q, by omega, by omega, by omega, by omega, by omega, Or.inl rfl, fun i a b => by omega⟩
theorem k_sk1 {qn : Int} {ba : Int → Int} (hqn : 0 ≤ qn ∧ qn ≤ 900) (hba : ∀ i, -128 ≤ ba i ∧ ba i ≤ 127) {F G q n : Int} (p0 : p_SK ba qn (F)) (p1 : p_BY ba (G)) (p2 : n = qn) (c0 : 0 ≤ F + (-1024) * q) (c1 : 0 ≤ 1024 * q + (-1) * F + 1023) (c2 : 0 ≤ G + (-256) * q + (-138)) (c3 : 0 ≤ 256 * q + (-1) * G + 138) (c4 : 0 ≤ n + (-1) * q + (-1)) (c5 : 0 ≤ q) : p_SK ba qn (F + 1024) := by
  obtain ⟨e1, q1, x1, s1, s2, s3, s4, s5, s6⟩ := p0
  obtain rfl : q1 = q := by omega
  obtain ⟨z, j, e, ja, jb, za, zb, h⟩ := p1
  have w : j = q1 := by omega
  rw [w] at h
  refine ⟨e1, q1 + 1, by omega, by omega, by omega, by omega, by omega, Or.inr (by omega), fun i a b => ?_⟩
  by_cases k : i = q1
  · rw [k, h, m_bl_t]; omega
  · exact s6 i a (by omega)
theorem k_sk2 {qn : Int} {ba : Int → Int} (hqn : 0 ≤ qn ∧ qn ≤ 900) (hba : ∀ i, -128 ≤ ba i ∧ ba i ≤ 127) {F G q n : Int} (p0 : p_SK ba qn (F)) (p1 : p_BY ba (G)) (p2 : n = qn) (c0 : 0 ≤ F + (-1024) * q) (c1 : 0 ≤ 1024 * q + (-1) * F + 1023) (c2 : 0 ≤ G + (-256) * q + (-160)) (c3 : 0 ≤ 256 * q + (-1) * G + 160) (c4 : 0 ≤ n + (-1) * q + (-1)) (c5 : 0 ≤ q) : p_SK ba qn (F + 1024) := by
  obtain ⟨e1, q1, x1, s1, s2, s3, s4, s5, s6⟩ := p0
  obtain rfl : q1 = q := by omega
  obtain ⟨z, j, e, ja, jb, za, zb, h⟩ := p1
  have w : j = q1 := by omega
  rw [w] at h
  refine ⟨e1, q1 + 1, by omega, by omega, by omega, by omega, by omega, Or.inr (by omega), fun i a b => ?_⟩
  by_cases k : i = q1
  · rw [k, h, m_bl_t]; omega
  · exact s6 i a (by omega)
theorem k_nxe {qn : Int} {ba : Int → Int} (hqn : 0 ≤ qn ∧ qn ≤ 900) (hba : ∀ i, -128 ≤ ba i ∧ ba i ≤ 127) {F q n : Int} (p0 : p_SK ba qn (F)) (p1 : n = qn) (c0 : 0 ≤ F + (-1024) * q) (c1 : 0 ≤ 1024 * q + (-1) * F + 1023) (c2 : 0 ≤ q + (-1) * n) (c3 : 0 ≤ n + (-1) * q) (c4 : 0 ≤ q) : p_NX ba qn (F) := by
  obtain ⟨e1, q1, x1, s1, s2, s3, s4, s5, s6⟩ := p0
  obtain rfl : q1 = q := by omega
  exact ⟨e1, q1, x1, s1, s2, s3, s1, m_sk_run hqn.2 s1 s4 s5 s6 (Or.inl (by omega))⟩
theorem k_nxa {qn : Int} {ba : Int → Int} (hqn : 0 ≤ qn ∧ qn ≤ 900) (hba : ∀ i, -128 ≤ ba i ∧ ba i ≤ 127) {F G q n : Int} (p0 : p_SK ba qn (F)) (p1 : p_BY ba (G)) (p2 : n = qn) (c0 : 0 ≤ F + (-1024) * q) (c1 : 0 ≤ 1024 * q + (-1) * F + 1023) (c2 : 0 ≤ G + (-256) * q) (c3 : 0 ≤ 256 * q + (-1) * G + 137) (c4 : 0 ≤ n + (-1) * q + (-1)) (c5 : 0 ≤ q) : p_NX ba qn (F) := by
  obtain ⟨e1, q1, x1, s1, s2, s3, s4, s5, s6⟩ := p0
  obtain rfl : q1 = q := by omega
  obtain ⟨z, j, e, ja, jb, za, zb, h⟩ := p1
  have w : j = q1 := by omega
  rw [w] at h
  exact ⟨e1, q1, x1, s1, s2, s3, s1, m_sk_run hqn.2 s1 s4 s5 s6 (Or.inr (by rw [m_ntz m_bl_t, h]; omega))⟩
theorem k_nxb {qn : Int} {ba : Int → Int} (hqn : 0 ≤ qn ∧ qn ≤ 900) (hba : ∀ i, -128 ≤ ba i ∧ ba i ≤ 127) {F G q n : Int} (p0 : p_SK ba qn (F)) (p1 : p_BY ba (G)) (p2 : n = qn) (c0 : 0 ≤ F + (-1024) * q) (c1 : 0 ≤ 1024 * q + (-1) * F + 1023) (c2 : 0 ≤ G + (-256) * q + (-139)) (c3 : 0 ≤ 256 * q + (-1) * G + 159) (c4 : 0 ≤ n + (-1) * q + (-1)) (c5 : 0 ≤ q) : p_NX ba qn (F) := by
  obtain ⟨e1, q1, x1, s1, s2, s3, s4, s5, s6⟩ := p0
  obtain rfl : q1 = q := by omega
  obtain ⟨z, j, e, ja, jb, za, zb, h⟩ := p1
  have w : j = q1 := by omega
  rw [w] at h
  exact ⟨e1, q1, x1, s1, s2, s3, s1, m_sk_run hqn.2 s1 s4 s5 s6 (Or.inr (by rw [m_ntz m_bl_t, h]; omega))⟩
theorem k_nxc {qn : Int} {ba : Int → Int} (hqn : 0 ≤ qn ∧ qn ≤ 900) (hba : ∀ i, -128 ≤ ba i ∧ ba i ≤ 127) {F G q n : Int} (p0 : p_SK ba qn (F)) (p1 : p_BY ba (G)) (p2 : n = qn) (c0 : 0 ≤ F + (-1024) * q) (c1 : 0 ≤ 1024 * q + (-1) * F + 1023) (c2 : 0 ≤ G + (-256) * q + (-161)) (c3 : 0 ≤ 256 * q + (-1) * G + 255) (c4 : 0 ≤ n + (-1) * q + (-1)) (c5 : 0 ≤ q) : p_NX ba qn (F) := by
  obtain ⟨e1, q1, x1, s1, s2, s3, s4, s5, s6⟩ := p0
  obtain rfl : q1 = q := by omega
  obtain ⟨z, j, e, ja, jb, za, zb, h⟩ := p1
  have w : j = q1 := by omega
  rw [w] at h
  exact ⟨e1, q1, x1, s1, s2, s3, s1, m_sk_run hqn.2 s1 s4 s5 s6 (Or.inr (by rw [m_ntz m_bl_t, h]; omega))⟩
theorem k_le0 {qn : Int} {ba : Int → Int} (hqn : 0 ≤ qn ∧ qn ≤ 900) (hba : ∀ i, -128 ≤ ba i ∧ ba i ≤ 127) {q z G n : Int} (p0 : p_BY ba (G)) (p1 : n = qn) (c0 : 0 ≤ G + (-256) * q + (-1) * z + (-128)) (c1 : 0 ≤ 256 * q + z + (-1) * G + 128) (c2 : 0 ≤ z + (-97)) (c3 : 0 ≤ (-1) * z + 122) (c4 : 0 ≤ n + (-1) * q + (-1)) (c5 : 0 ≤ q) : p_LE ba qn (1025 * q) := by
  obtain ⟨z, j, e, ja, jb, za, zb, h⟩ := p0
  have w : j = q := by omega
  rw [w] at h
  have g : m_le (ba q) = true := by rw [m_le_t, h]; omega
  exact ⟨q, q, by omega, by omega, by omega, by omega, by omega, by omega, by omega, g, fun i a b => by omega⟩
theorem k_le1 {qn : Int} {ba : Int → Int} (hqn : 0 ≤ qn ∧ qn ≤ 900) (hba : ∀ i, -128 ≤ ba i ∧ ba i ≤ 127) {F G q n : Int} (p0 : p_LE ba qn (F)) (p1 : p_BY ba (G)) (p2 : n = qn) (c0 : 0 ≤ F + (-1024) * q) (c1 : 0 ≤ 1024 * q + (-1) * F + 1023) (c2 : 0 ≤ G + (-256) * q + (-225)) (c3 : 0 ≤ 256 * q + (-1) * G + 250) (c4 : 0 ≤ n + (-1) * q + (-1)) (c5 : 0 ≤ q) : p_LE ba qn (F + 1024) := by
  obtain ⟨s1, q1, x1, sa, sb, sc, sd, se, sf, sg, sh⟩ := p0
  obtain rfl : q1 = q := by omega
  obtain ⟨z, j, e, ja, jb, za, zb, h⟩ := p1
  have w : j = q1 := by omega
  rw [w] at h
  refine ⟨s1, q1 + 1, by omega, by omega, by omega, by omega, by omega, by omega, by omega, sg, fun i a b => ?_⟩
  by_cases k : i = q1
  · rw [k, h, m_le_t]; omega
  · exact sh i a (by omega)
theorem k_tle {qn : Int} {qk : Int} {qq : Int} {qv : Int} {ba : Int → Int} (hqn : 0 ≤ qn ∧ qn ≤ 900) (hqk : 0 ≤ qk ∧ qk ≤ 4) (hqq : 0 ≤ qq ∧ qq ≤ 900) (hba : ∀ i, -128 ≤ ba i ∧ ba i ≤ 127) {F q n kk : Int} (p0 : p_LE ba qn (F)) (p1 : kk = qk) (p2 : q = qq) (p3 : n = qn) (c0 : 0 ≤ F + (-1024) * q) (c1 : 0 ≤ 1024 * q + (-1) * F + 1023) (c2 : 0 ≤ q + (-1) * n) (c3 : 0 ≤ n + (-1) * q) (c4 : 0 ≤ q) (c5 : 0 ≤ kk + (-2)) (c6 : 0 ≤ (-1) * kk + 2) : p_TK ba qk qq qn qv (F + (-1024) * q) := by
  obtain ⟨s1, q1, x1, sa, sb, sc, sd, se, sf, sg, sh⟩ := p0
  obtain rfl : q1 = q := by omega
  obtain rfl : s1 = F + (-1024) * q1 := by omega
  obtain ⟨t1, t2⟩ := m_te_let hqn.2 sa sd sg sc se sh (Or.inl (by omega))
  exact ⟨sa, by omega, by omega, fun k => by omega⟩
theorem k_tla {qn : Int} {qk : Int} {qq : Int} {qv : Int} {ba : Int → Int} (hqn : 0 ≤ qn ∧ qn ≤ 900) (hqk : 0 ≤ qk ∧ qk ≤ 4) (hqq : 0 ≤ qq ∧ qq ≤ 900) (hba : ∀ i, -128 ≤ ba i ∧ ba i ≤ 127) {F G q n kk : Int} (p0 : p_LE ba qn (F)) (p1 : p_BY ba (G)) (p2 : kk = qk) (p3 : q = qq) (p4 : n = qn) (c0 : 0 ≤ F + (-1024) * q) (c1 : 0 ≤ 1024 * q + (-1) * F + 1023) (c2 : 0 ≤ n + (-1) * q + (-1)) (c3 : 0 ≤ G + (-256) * q) (c4 : 0 ≤ 256 * q + (-1) * G + 224) (c5 : 0 ≤ q) (c6 : 0 ≤ kk + (-2)) (c7 : 0 ≤ (-1) * kk + 2) : p_TK ba qk qq qn qv (F + (-1024) * q) := by
  obtain ⟨s1, q1, x1, sa, sb, sc, sd, se, sf, sg, sh⟩ := p0
  obtain rfl : q1 = q := by omega
  obtain ⟨z, j, e, ja, jb, za, zb, h⟩ := p1
  have w : j = q1 := by omega
  rw [w] at h
  obtain rfl : s1 = F + (-1024) * q1 := by omega
  obtain ⟨t1, t2⟩ := m_te_let hqn.2 sa sd sg sc se sh (Or.inr (by rw [m_ntz m_le_t, h]; omega))
  exact ⟨sa, by omega, by omega, fun k => by omega⟩
theorem k_tlb {qn : Int} {qk : Int} {qq : Int} {qv : Int} {ba : Int → Int} (hqn : 0 ≤ qn ∧ qn ≤ 900) (hqk : 0 ≤ qk ∧ qk ≤ 4) (hqq : 0 ≤ qq ∧ qq ≤ 900) (hba : ∀ i, -128 ≤ ba i ∧ ba i ≤ 127) {F G q n kk : Int} (p0 : p_LE ba qn (F)) (p1 : p_BY ba (G)) (p2 : kk = qk) (p3 : q = qq) (p4 : n = qn) (c0 : 0 ≤ F + (-1024) * q) (c1 : 0 ≤ 1024 * q + (-1) * F + 1023) (c2 : 0 ≤ n + (-1) * q + (-1)) (c3 : 0 ≤ G + (-256) * q + (-251)) (c4 : 0 ≤ 256 * q + (-1) * G + 255) (c5 : 0 ≤ q) (c6 : 0 ≤ kk + (-2)) (c7 : 0 ≤ (-1) * kk + 2) : p_TK ba qk qq qn qv (F + (-1024) * q) := by
  obtain ⟨s1, q1, x1, sa, sb, sc, sd, se, sf, sg, sh⟩ := p0
  obtain rfl : q1 = q := by omega
  obtain ⟨z, j, e, ja, jb, za, zb, h⟩ := p1
  have w : j = q1 := by omega
  rw [w] at h
  obtain rfl : s1 = F + (-1024) * q1 := by omega
  obtain ⟨t1, t2⟩ := m_te_let hqn.2 sa sd sg sc se sh (Or.inr (by rw [m_ntz m_le_t, h]; omega))
  exact ⟨sa, by omega, by omega, fun k => by omega⟩
theorem k_dg0 {qn : Int} {qv : Int} {ba : Int → Int} (hqn : 0 ≤ qn ∧ qn ≤ 900) (hba : ∀ i, -128 ≤ ba i ∧ ba i ≤ 127) {q z G v n : Int} (p0 : p_BY ba (G)) (p1 : v = qv) (p2 : n = qn) (c0 : 0 ≤ G + (-256) * q + (-1) * z + (-128)) (c1 : 0 ≤ 256 * q + z + (-1) * G + 128) (c2 : 0 ≤ z + (-48)) (c3 : 0 ≤ (-1) * z + 57) (c4 : 0 ≤ v) (c5 : 0 ≤ (-1) * v) (c6 : 0 ≤ n + (-1) * q + (-1)) (c7 : 0 ≤ q) : p_DG ba qn (1025 * q + 2251799813685248) := by
  obtain ⟨z, j, e, ja, jb, za, zb, h⟩ := p0
  have w : j = q := by omega
  rw [w] at h
  have g : m_di (ba q) = true := by rw [m_di_t, h]; omega
  refine ⟨q, q, 0, by omega, by omega, by omega, by omega, by omega, by omega, by omega, ⟨g, fun i a b => by omega, by decide, by decide, fun _ => ?_⟩⟩
  rw [show (q - q).toNat = 0 by omega]
  rfl
theorem k_wm {v c y : Int} (i6 : y = m_w32 (v * c)) (c0 : 0 ≤ v + 2147483648) (c1 : 0 ≤ (-1) * v + 2147483647) (c2 : 0 ≤ y + 2147483648) (c3 : 0 ≤ (-1) * y + 2147483647) (c4 : 0 ≤ c + (-10)) (c5 : 0 ≤ (-1) * c + 10) : p_WM (v + 4294967296 * y + 9223372039002259456) := by
  obtain rfl : c = 10 := by omega
  exact ⟨v, y, by omega, by omega, by omega, i6⟩
theorem k_wa {ba : Int → Int} (hba : ∀ i, -128 ≤ ba i ∧ ba i ≤ 127) {y z x v G q : Int} (i6 : x = m_w32 (y + z)) (p0 : p_WM (v + 4294967296 * y + 9223372039002259456)) (p1 : p_BY ba (G)) (c0 : 0 ≤ v + 2147483648) (c1 : 0 ≤ (-1) * v + 2147483647) (c2 : 0 ≤ y + 2147483648) (c3 : 0 ≤ (-1) * y + 2147483647) (c4 : 0 ≤ x + 2147483648) (c5 : 0 ≤ (-1) * x + 2147483647) (c6 : 0 ≤ G + (-256) * q + (-1) * z + (-128)) (c7 : 0 ≤ 256 * q + z + (-1) * G + 128) (c8 : 0 ≤ z + 128) (c9 : 0 ≤ (-1) * z + 127) (c10 : 0 ≤ q) (c11 : 0 ≤ (-1) * q + 899) : p_WA (v + 4294967296 * x + 18446744073709551616 * G + 9223372039002259456) := by
  obtain ⟨v1, y1, e1, a1, a2, g⟩ := p0
  obtain rfl : v = v1 := by omega
  obtain rfl : y = y1 := by omega
  refine ⟨v, x, G, by omega, by omega, by omega, by omega, by omega, by omega, ?_⟩
  rw [i6, g, show z = G % 256 - 128 by omega]
theorem k_ws {x c y v G : Int} (i6 : y = m_w32 (x - c)) (p0 : p_WA (v + 4294967296 * x + 18446744073709551616 * G + 9223372039002259456)) (c0 : 0 ≤ v + 2147483648) (c1 : 0 ≤ (-1) * v + 2147483647) (c2 : 0 ≤ y + 2147483648) (c3 : 0 ≤ (-1) * y + 2147483647) (c4 : 0 ≤ x + 2147483648) (c5 : 0 ≤ (-1) * x + 2147483647) (c6 : 0 ≤ c + (-48)) (c7 : 0 ≤ (-1) * c + 48) (c8 : 0 ≤ G) : p_WS (v + 4294967296 * y + 18446744073709551616 * G + 9223372039002259456) := by
  obtain ⟨v1, y1, G1, e1, a1, a2, a3, a4, a5, g⟩ := p0
  obtain ⟨rfl, rfl, rfl⟩ : v = v1 ∧ x = y1 ∧ G = G1 := by omega
  obtain rfl : c = 48 := by omega
  refine ⟨v, y, G, by omega, by omega, by omega, by omega, by omega, by omega, ?_⟩
  rw [i6, g]
theorem k_dg1 {qn : Int} {ba : Int → Int} (hqn : 0 ≤ qn ∧ qn ≤ 900) (hba : ∀ i, -128 ≤ ba i ∧ ba i ≤ 127) {F G q v y n : Int} (p0 : p_DG ba qn (F)) (p1 : p_BY ba (G)) (p2 : p_WS (v + 4294967296 * y + 18446744073709551616 * G + 9223372039002259456)) (p3 : n = qn) (c0 : 0 ≤ F + (-1024) * q + (-1048576) * v + (-2251799813685248)) (c1 : 0 ≤ (-1) * F + 1024 * q + 1048576 * v + 2251799813686271) (c2 : 0 ≤ v + 2147483648) (c3 : 0 ≤ (-1) * v + 2147483647) (c4 : 0 ≤ y + 2147483648) (c5 : 0 ≤ (-1) * y + 2147483647) (c6 : 0 ≤ G + (-256) * q + (-176)) (c7 : 0 ≤ 256 * q + (-1) * G + 185) (c8 : 0 ≤ n + (-1) * q + (-1)) (c9 : 0 ≤ q) : p_DG ba qn (F + 1048576 * y + (-1048576) * v + 1024) := by
  obtain ⟨vv, yy, GG, ee, b1, b2, b3, b4, b5, g⟩ := p2
  obtain ⟨rfl, rfl, rfl⟩ : v = vv ∧ y = yy ∧ G = GG := by omega
  obtain ⟨s1, q1, v1, x1, sa, sb, sc, sd, se, sf, sg, sh, va, vb, vh⟩ := p0
  obtain rfl : q1 = q := by omega
  obtain rfl : v1 = v := by omega
  obtain ⟨z, j, e, ja, jb, za, zb, h⟩ := p1
  have w : j = q1 := by omega
  rw [w] at h
  refine ⟨s1, q1 + 1, y, by omega, by omega, by omega, by omega, by omega, by omega, by omega, ⟨sg, fun i a b => ?_, by omega, by omega, fun k => ?_⟩⟩
  · by_cases k : i = q1
    · rw [k, h, m_di_t]; omega
    · exact sh i a (by omega)
  · have k1 := vh (by omega)
    have k2 := m_dv_bd (b := ba) (s := s1) (q1 - s1).toNat (fun i hi => sh _ (by omega) (by omega))
    have k3 := m_p10 (show (q1 - s1).toNat ≤ 3 by omega)
    rw [m_dv_s sc, ← k1, h, g, show G % 256 - 128 = z by omega]
    unfold m_w32
    omega
theorem k_td3a {qn : Int} {qk : Int} {qq : Int} {qv : Int} {ba : Int → Int} (hqn : 0 ≤ qn ∧ qn ≤ 900) (hqk : 0 ≤ qk ∧ qk ≤ 4) (hqq : 0 ≤ qq ∧ qq ≤ 900) (hba : ∀ i, -128 ≤ ba i ∧ ba i ≤ 127) {F q n kk v : Int} (p0 : p_DG ba qn (F)) (p1 : kk = qk) (p2 : q = qq) (p3 : n = qn) (p4 : v = qv) (c0 : 0 ≤ F + (-1024) * q + (-1048576) * v + (-2251799813685248)) (c1 : 0 ≤ (-1) * F + 1024 * q + 1048576 * v + 2251799813686271) (c2 : 0 ≤ v + 2147483648) (c3 : 0 ≤ (-1) * v + 2147483647) (c4 : 0 ≤ q + (-1) * n) (c5 : 0 ≤ n + (-1) * q) (c6 : 0 ≤ q) (c7 : 0 ≤ kk + (-3)) (c8 : 0 ≤ (-1) * kk + 3) (c9 : 0 ≤ (-1025) * q + F + (-1048576) * v + (-2251799813685244)) : p_TK ba qk qq qn qv (F + (-1024) * q + (-1048576) * v + (-2251799813685248)) := by
  obtain ⟨s1, q1, v1, x1, sa, sb, sc, sd, se, sf, sg, sh, va, vb, vh⟩ := p0
  obtain rfl : q1 = q := by omega
  obtain rfl : v1 = v := by omega
  obtain rfl : s1 = F + (-1024) * q1 + (-1048576) * v1 + (-2251799813685248) := by omega
  obtain ⟨t1, t2⟩ := m_te_dig hqn.2 sa sd sg sc se sh (Or.inl (by omega))
  refine ⟨sa, ?_, by omega, fun k => ?_⟩
  · rw [t2]; rw [if_neg (by omega)]; omega
  · unfold m_tv
    rw [t1, ← vh (by omega)]
    omega
theorem k_td3b {qn : Int} {qk : Int} {qq : Int} {qv : Int} {ba : Int → Int} (hqn : 0 ≤ qn ∧ qn ≤ 900) (hqk : 0 ≤ qk ∧ qk ≤ 4) (hqq : 0 ≤ qq ∧ qq ≤ 900) (hba : ∀ i, -128 ≤ ba i ∧ ba i ≤ 127) {F G q n kk v : Int} (p0 : p_DG ba qn (F)) (p1 : p_BY ba (G)) (p2 : kk = qk) (p3 : q = qq) (p4 : n = qn) (p5 : v = qv) (c0 : 0 ≤ F + (-1024) * q + (-1048576) * v + (-2251799813685248)) (c1 : 0 ≤ (-1) * F + 1024 * q + 1048576 * v + 2251799813686271) (c2 : 0 ≤ v + 2147483648) (c3 : 0 ≤ (-1) * v + 2147483647) (c4 : 0 ≤ n + (-1) * q + (-1)) (c5 : 0 ≤ G + (-256) * q) (c6 : 0 ≤ 256 * q + (-1) * G + 175) (c7 : 0 ≤ q) (c8 : 0 ≤ kk + (-3)) (c9 : 0 ≤ (-1) * kk + 3) (c10 : 0 ≤ (-1025) * q + F + (-1048576) * v + (-2251799813685244)) : p_TK ba qk qq qn qv (F + (-1024) * q + (-1048576) * v + (-2251799813685248)) := by
  obtain ⟨s1, q1, v1, x1, sa, sb, sc, sd, se, sf, sg, sh, va, vb, vh⟩ := p0
  obtain rfl : q1 = q := by omega
  obtain rfl : v1 = v := by omega
  obtain ⟨z, j, e, ja, jb, za, zb, h⟩ := p1
  have w : j = q1 := by omega
  rw [w] at h
  obtain rfl : s1 = F + (-1024) * q1 + (-1048576) * v1 + (-2251799813685248) := by omega
  obtain ⟨t1, t2⟩ := m_te_dig hqn.2 sa sd sg sc se sh (Or.inr (by rw [m_ntz m_di_t, h]; omega))
  refine ⟨sa, ?_, by omega, fun k => ?_⟩
  · rw [t2]; rw [if_neg (by omega)]; omega
  · unfold m_tv
    rw [t1, ← vh (by omega)]
    omega
theorem k_td3c {qn : Int} {qk : Int} {qq : Int} {qv : Int} {ba : Int → Int} (hqn : 0 ≤ qn ∧ qn ≤ 900) (hqk : 0 ≤ qk ∧ qk ≤ 4) (hqq : 0 ≤ qq ∧ qq ≤ 900) (hba : ∀ i, -128 ≤ ba i ∧ ba i ≤ 127) {F G q n kk v : Int} (p0 : p_DG ba qn (F)) (p1 : p_BY ba (G)) (p2 : kk = qk) (p3 : q = qq) (p4 : n = qn) (p5 : v = qv) (c0 : 0 ≤ F + (-1024) * q + (-1048576) * v + (-2251799813685248)) (c1 : 0 ≤ (-1) * F + 1024 * q + 1048576 * v + 2251799813686271) (c2 : 0 ≤ v + 2147483648) (c3 : 0 ≤ (-1) * v + 2147483647) (c4 : 0 ≤ n + (-1) * q + (-1)) (c5 : 0 ≤ G + (-256) * q + (-186)) (c6 : 0 ≤ 256 * q + (-1) * G + 255) (c7 : 0 ≤ q) (c8 : 0 ≤ kk + (-3)) (c9 : 0 ≤ (-1) * kk + 3) (c10 : 0 ≤ (-1025) * q + F + (-1048576) * v + (-2251799813685244)) : p_TK ba qk qq qn qv (F + (-1024) * q + (-1048576) * v + (-2251799813685248)) := by
  obtain ⟨s1, q1, v1, x1, sa, sb, sc, sd, se, sf, sg, sh, va, vb, vh⟩ := p0
  obtain rfl : q1 = q := by omega
  obtain rfl : v1 = v := by omega
  obtain ⟨z, j, e, ja, jb, za, zb, h⟩ := p1
  have w : j = q1 := by omega
  rw [w] at h
  obtain rfl : s1 = F + (-1024) * q1 + (-1048576) * v1 + (-2251799813685248) := by omega
  obtain ⟨t1, t2⟩ := m_te_dig hqn.2 sa sd sg sc se sh (Or.inr (by rw [m_ntz m_di_t, h]; omega))
  refine ⟨sa, ?_, by omega, fun k => ?_⟩
  · rw [t2]; rw [if_neg (by omega)]; omega
  · unfold m_tv
    rw [t1, ← vh (by omega)]
    omega
theorem k_td1a {qn : Int} {qk : Int} {qq : Int} {qv : Int} {ba : Int → Int} (hqn : 0 ≤ qn ∧ qn ≤ 900) (hqk : 0 ≤ qk ∧ qk ≤ 4) (hqq : 0 ≤ qq ∧ qq ≤ 900) (hba : ∀ i, -128 ≤ ba i ∧ ba i ≤ 127) {F q n kk v : Int} (p0 : p_DG ba qn (F)) (p1 : kk = qk) (p2 : q = qq) (p3 : n = qn) (p4 : v = qv) (c0 : 0 ≤ F + (-1024) * q + (-1048576) * v + (-2251799813685248)) (c1 : 0 ≤ (-1) * F + 1024 * q + 1048576 * v + 2251799813686271) (c2 : 0 ≤ v + 2147483648) (c3 : 0 ≤ (-1) * v + 2147483647) (c4 : 0 ≤ q + (-1) * n) (c5 : 0 ≤ n + (-1) * q) (c6 : 0 ≤ q) (c7 : 0 ≤ kk + (-1)) (c8 : 0 ≤ (-1) * kk + 1) (c9 : 0 ≤ 1025 * q + (-1) * F + 1048576 * v + 2251799813685243) : p_TK ba qk qq qn qv (F + (-1024) * q + (-1048576) * v + (-2251799813685248)) := by
  obtain ⟨s1, q1, v1, x1, sa, sb, sc, sd, se, sf, sg, sh, va, vb, vh⟩ := p0
  obtain rfl : q1 = q := by omega
  obtain rfl : v1 = v := by omega
  obtain rfl : s1 = F + (-1024) * q1 + (-1048576) * v1 + (-2251799813685248) := by omega
  obtain ⟨t1, t2⟩ := m_te_dig hqn.2 sa sd sg sc se sh (Or.inl (by omega))
  refine ⟨sa, ?_, by omega, fun k => ?_⟩
  · rw [t2]; rw [if_pos (by omega)]; omega
  · omega
theorem k_td1b {qn : Int} {qk : Int} {qq : Int} {qv : Int} {ba : Int → Int} (hqn : 0 ≤ qn ∧ qn ≤ 900) (hqk : 0 ≤ qk ∧ qk ≤ 4) (hqq : 0 ≤ qq ∧ qq ≤ 900) (hba : ∀ i, -128 ≤ ba i ∧ ba i ≤ 127) {F G q n kk v : Int} (p0 : p_DG ba qn (F)) (p1 : p_BY ba (G)) (p2 : kk = qk) (p3 : q = qq) (p4 : n = qn) (p5 : v = qv) (c0 : 0 ≤ F + (-1024) * q + (-1048576) * v + (-2251799813685248)) (c1 : 0 ≤ (-1) * F + 1024 * q + 1048576 * v + 2251799813686271) (c2 : 0 ≤ v + 2147483648) (c3 : 0 ≤ (-1) * v + 2147483647) (c4 : 0 ≤ n + (-1) * q + (-1)) (c5 : 0 ≤ G + (-256) * q) (c6 : 0 ≤ 256 * q + (-1) * G + 175) (c7 : 0 ≤ q) (c8 : 0 ≤ kk + (-1)) (c9 : 0 ≤ (-1) * kk + 1) (c10 : 0 ≤ 1025 * q + (-1) * F + 1048576 * v + 2251799813685243) : p_TK ba qk qq qn qv (F + (-1024) * q + (-1048576) * v + (-2251799813685248)) := by
  obtain ⟨s1, q1, v1, x1, sa, sb, sc, sd, se, sf, sg, sh, va, vb, vh⟩ := p0
  obtain rfl : q1 = q := by omega
  obtain rfl : v1 = v := by omega
  obtain ⟨z, j, e, ja, jb, za, zb, h⟩ := p1
  have w : j = q1 := by omega
  rw [w] at h
  obtain rfl : s1 = F + (-1024) * q1 + (-1048576) * v1 + (-2251799813685248) := by omega
  obtain ⟨t1, t2⟩ := m_te_dig hqn.2 sa sd sg sc se sh (Or.inr (by rw [m_ntz m_di_t, h]; omega))
  refine ⟨sa, ?_, by omega, fun k => ?_⟩
  · rw [t2]; rw [if_pos (by omega)]; omega
  · omega
theorem k_td1c {qn : Int} {qk : Int} {qq : Int} {qv : Int} {ba : Int → Int} (hqn : 0 ≤ qn ∧ qn ≤ 900) (hqk : 0 ≤ qk ∧ qk ≤ 4) (hqq : 0 ≤ qq ∧ qq ≤ 900) (hba : ∀ i, -128 ≤ ba i ∧ ba i ≤ 127) {F G q n kk v : Int} (p0 : p_DG ba qn (F)) (p1 : p_BY ba (G)) (p2 : kk = qk) (p3 : q = qq) (p4 : n = qn) (p5 : v = qv) (c0 : 0 ≤ F + (-1024) * q + (-1048576) * v + (-2251799813685248)) (c1 : 0 ≤ (-1) * F + 1024 * q + 1048576 * v + 2251799813686271) (c2 : 0 ≤ v + 2147483648) (c3 : 0 ≤ (-1) * v + 2147483647) (c4 : 0 ≤ n + (-1) * q + (-1)) (c5 : 0 ≤ G + (-256) * q + (-186)) (c6 : 0 ≤ 256 * q + (-1) * G + 255) (c7 : 0 ≤ q) (c8 : 0 ≤ kk + (-1)) (c9 : 0 ≤ (-1) * kk + 1) (c10 : 0 ≤ 1025 * q + (-1) * F + 1048576 * v + 2251799813685243) : p_TK ba qk qq qn qv (F + (-1024) * q + (-1048576) * v + (-2251799813685248)) := by
  obtain ⟨s1, q1, v1, x1, sa, sb, sc, sd, se, sf, sg, sh, va, vb, vh⟩ := p0
  obtain rfl : q1 = q := by omega
  obtain rfl : v1 = v := by omega
  obtain ⟨z, j, e, ja, jb, za, zb, h⟩ := p1
  have w : j = q1 := by omega
  rw [w] at h
  obtain rfl : s1 = F + (-1024) * q1 + (-1048576) * v1 + (-2251799813685248) := by omega
  obtain ⟨t1, t2⟩ := m_te_dig hqn.2 sa sd sg sc se sh (Or.inr (by rw [m_ntz m_di_t, h]; omega))
  refine ⟨sa, ?_, by omega, fun k => ?_⟩
  · rw [t2]; rw [if_pos (by omega)]; omega
  · omega
theorem k_ts4 {qn : Int} {qk : Int} {qq : Int} {qv : Int} {ba : Int → Int} (hqn : 0 ≤ qn ∧ qn ≤ 900) (hqk : 0 ≤ qk ∧ qk ≤ 4) (hqq : 0 ≤ qq ∧ qq ≤ 900) (hba : ∀ i, -128 ≤ ba i ∧ ba i ≤ 127) {G q n kk : Int} (p0 : p_BY ba (G)) (p1 : kk = qk) (p2 : q = qq) (p3 : n = qn) (c0 : 0 ≤ G + (-256) * q + 69) (c1 : 0 ≤ 256 * q + (-1) * G + (-66)) (c2 : 0 ≤ q + (-1)) (c3 : 0 ≤ n + (-1) * q) (c4 : 0 ≤ kk + (-4)) (c5 : 0 ≤ (-1) * kk + 4) : p_TK ba qk qq qn qv (q + (-1)) := by
  obtain ⟨z, j, e, ja, jb, za, zb, h⟩ := p0
  have w : j = q + (-1) := by omega
  rw [w] at h
  obtain ⟨t1, t2⟩ := m_te_oth (b := ba) (n := qn) (s := q + (-1)) (by omega) (by rw [m_le_t, h]; omega) (by rw [m_di_t, h]; omega)
  refine ⟨by omega, ?_, by omega, fun k => by omega⟩
  rw [t2, if_pos (by rw [m_sg_t, h]; omega)]
  omega
theorem k_ts1a {qn : Int} {qk : Int} {qq : Int} {qv : Int} {ba : Int → Int} (hqn : 0 ≤ qn ∧ qn ≤ 900) (hqk : 0 ≤ qk ∧ qk ≤ 4) (hqq : 0 ≤ qq ∧ qq ≤ 900) (hba : ∀ i, -128 ≤ ba i ∧ ba i ≤ 127) {G q n kk : Int} (p0 : p_BY ba (G)) (p1 : kk = qk) (p2 : q = qq) (p3 : n = qn) (c0 : 0 ≤ G + (-256) * q + 256) (c1 : 0 ≤ 256 * q + (-1) * G + (-81)) (c2 : 0 ≤ q + (-1)) (c3 : 0 ≤ n + (-1) * q) (c4 : 0 ≤ kk + (-1)) (c5 : 0 ≤ (-1) * kk + 1) : p_TK ba qk qq qn qv (q + (-1)) := by
  obtain ⟨z, j, e, ja, jb, za, zb, h⟩ := p0
  have w : j = q + (-1) := by omega
  rw [w] at h
  obtain ⟨t1, t2⟩ := m_te_oth (b := ba) (n := qn) (s := q + (-1)) (by omega) (by rw [m_le_t, h]; omega) (by rw [m_di_t, h]; omega)
  refine ⟨by omega, ?_, by omega, fun k => by omega⟩
  rw [t2, if_neg (by rw [m_sg_t, h]; omega)]
  omega
theorem k_ts1b {qn : Int} {qk : Int} {qq : Int} {qv : Int} {ba : Int → Int} (hqn : 0 ≤ qn ∧ qn ≤ 900) (hqk : 0 ≤ qk ∧ qk ≤ 4) (hqq : 0 ≤ qq ∧ qq ≤ 900) (hba : ∀ i, -128 ≤ ba i ∧ ba i ≤ 127) {G q n kk : Int} (p0 : p_BY ba (G)) (p1 : kk = qk) (p2 : q = qq) (p3 : n = qn) (c0 : 0 ≤ G + (-256) * q + 70) (c1 : 0 ≤ 256 * q + (-1) * G + (-70)) (c2 : 0 ≤ q + (-1)) (c3 : 0 ≤ n + (-1) * q) (c4 : 0 ≤ kk + (-1)) (c5 : 0 ≤ (-1) * kk + 1) : p_TK ba qk qq qn qv (q + (-1)) := by
  obtain ⟨z, j, e, ja, jb, za, zb, h⟩ := p0
  have w : j = q + (-1) := by omega
  rw [w] at h
  obtain ⟨t1, t2⟩ := m_te_oth (b := ba) (n := qn) (s := q + (-1)) (by omega) (by rw [m_le_t, h]; omega) (by rw [m_di_t, h]; omega)
  refine ⟨by omega, ?_, by omega, fun k => by omega⟩
  rw [t2, if_neg (by rw [m_sg_t, h]; omega)]
  omega
theorem k_ts1c {qn : Int} {qk : Int} {qq : Int} {qv : Int} {ba : Int → Int} (hqn : 0 ≤ qn ∧ qn ≤ 900) (hqk : 0 ≤ qk ∧ qk ≤ 4) (hqq : 0 ≤ qq ∧ qq ≤ 900) (hba : ∀ i, -128 ≤ ba i ∧ ba i ≤ 127) {G q n kk : Int} (p0 : p_BY ba (G)) (p1 : kk = qk) (p2 : q = qq) (p3 : n = qn) (c0 : 0 ≤ G + (-256) * q + 65) (c1 : 0 ≤ 256 * q + (-1) * G + (-32)) (c2 : 0 ≤ q + (-1)) (c3 : 0 ≤ n + (-1) * q) (c4 : 0 ≤ kk + (-1)) (c5 : 0 ≤ (-1) * kk + 1) : p_TK ba qk qq qn qv (q + (-1)) := by
  obtain ⟨z, j, e, ja, jb, za, zb, h⟩ := p0
  have w : j = q + (-1) := by omega
  rw [w] at h
  obtain ⟨t1, t2⟩ := m_te_oth (b := ba) (n := qn) (s := q + (-1)) (by omega) (by rw [m_le_t, h]; omega) (by rw [m_di_t, h]; omega)
  refine ⟨by omega, ?_, by omega, fun k => by omega⟩
  rw [t2, if_neg (by rw [m_sg_t, h]; omega)]
  omega
theorem k_ts1d {qn : Int} {qk : Int} {qq : Int} {qv : Int} {ba : Int → Int} (hqn : 0 ≤ qn ∧ qn ≤ 900) (hqk : 0 ≤ qk ∧ qk ≤ 4) (hqq : 0 ≤ qq ∧ qq ≤ 900) (hba : ∀ i, -128 ≤ ba i ∧ ba i ≤ 127) {G q n kk : Int} (p0 : p_BY ba (G)) (p1 : kk = qk) (p2 : q = qq) (p3 : n = qn) (c0 : 0 ≤ G + (-256) * q + 5) (c1 : 0 ≤ 256 * q + (-1) * G + (-1)) (c2 : 0 ≤ q + (-1)) (c3 : 0 ≤ n + (-1) * q) (c4 : 0 ≤ kk + (-1)) (c5 : 0 ≤ (-1) * kk + 1) : p_TK ba qk qq qn qv (q + (-1)) := by
  obtain ⟨z, j, e, ja, jb, za, zb, h⟩ := p0
  have w : j = q + (-1) := by omega
  rw [w] at h
  obtain ⟨t1, t2⟩ := m_te_oth (b := ba) (n := qn) (s := q + (-1)) (by omega) (by rw [m_le_t, h]; omega) (by rw [m_di_t, h]; omega)
  refine ⟨by omega, ?_, by omega, fun k => by omega⟩
  rw [t2, if_neg (by rw [m_sg_t, h]; omega)]
  omega
theorem k_tke {qn : Int} {qk : Int} {qq : Int} {qv : Int} {ba : Int → Int} (hqn : 0 ≤ qn ∧ qn ≤ 900) (hqk : 0 ≤ qk ∧ qk ≤ 4) (hqq : 0 ≤ qq ∧ qq ≤ 900) (hba : ∀ i, -128 ≤ ba i ∧ ba i ≤ 127) {q s n kk : Int} (p0 : kk = qk) (p1 : q = qq) (p2 : n = qn) (c0 : 0 ≤ q + (-1) * s) (c1 : 0 ≤ s + (-1) * q) (c2 : 0 ≤ s + (-1) * n) (c3 : 0 ≤ s) (c4 : 0 ≤ kk) (c5 : 0 ≤ (-1) * kk) : p_TK ba qk qq qn qv (s) := by
  obtain ⟨t1, t2⟩ := m_te_end (b := ba) (n := qn) (s := s) (by omega)
  exact ⟨by omega, by omega, by omega, fun k => by omega⟩
theorem k_cu {qn : Int} {qk : Int} {qs : Int} {qq : Int} {qv : Int} {ba : Int → Int} (hqn : 0 ≤ qn ∧ qn ≤ 900) (hqk : 0 ≤ qk ∧ qk ≤ 4) (hqs : 0 ≤ qs ∧ qs ≤ 900) (hqq : 0 ≤ qq ∧ qq ≤ 900) (hba : ∀ i, -128 ≤ ba i ∧ ba i ≤ 127) {s : Int} (p0 : p_TK ba qk qq qn qv (s)) (p1 : s = qs) (c0 : 0 ≤ s) : p_CU ba qk qs qq qn qv (s) := by
  exact ⟨p1.symm, p0⟩
theorem k_ch {c : Int} : p_CH (c) := by
  trivial
theorem k_lc0 {ba : Int → Int} (hba : ∀ i, -128 ≤ ba i ∧ ba i ≤ 127) {s : Int} (c0 : 0 ≤ s) (c1 : 0 ≤ (-1) * s + 899) : p_LC ba (1099511627776 * s) := by
  exact ⟨0, s, 0, by omega, by omega, by omega, by omega, by omega, by omega, by omega, rfl, fun j a b => by omega⟩
theorem k_lc1 {ba : Int → Int} (hba : ∀ i, -128 ≤ ba i ∧ ba i ≤ 127) {F G C s i : Int} (p0 : p_LC ba (F)) (p1 : p_BY ba (G)) (p2 : p_CH (C)) (c0 : 0 ≤ F + (-1099511627776) * s + (-1125899906842624) * i) (c1 : 0 ≤ (-1) * F + 1099511627776 * s + 1125899906842624 * i + 34359738367) (c2 : 0 ≤ i) (c3 : 0 ≤ (-1) * i + 7) (c4 : 0 ≤ s) (c5 : 0 ≤ (-1) * s + 900) (c6 : 0 ≤ G + (-256) * s + (-256) * i + (-1) * C + (-128)) (c7 : 0 ≤ C + 256 * s + 256 * i + (-1) * G + 128) (c8 : 0 ≤ C + (-97)) (c9 : 0 ≤ (-1) * C + 122) : p_LC ba (32 * F + (-34084860461056) * s + (-34902897112121344) * i + C + 1125899906842528) := by
  obtain ⟨c9, s9, i9, x9, la, lb, lc, ld, le, lf, lg, lh⟩ := p0
  obtain ⟨rfl, rfl⟩ : s9 = s ∧ i9 = i := by omega
  obtain ⟨z1, j1, e1, ja1, jb1, za1, zb1, h1⟩ := p1
  have w1 : j1 = s9 + i9 := by omega
  rw [w1] at h1
  have g : m_le (ba (s9 + i9)) = true := by rw [m_le_t, h1]; omega
  have e := m_wc_s (b := ba) (s := s9) (q := s9 + i9) (by omega)
  rw [show (s9 + i9 + 1 - s9).toNat = (i9 + 1).toNat by omega, show (s9 + i9 - s9).toNat = i9.toNat by omega, ← lg, h1] at e
  refine ⟨32 * c9 + (z1 - 96), s9, i9 + 1, by omega, by omega, by omega, by omega, by omega, by omega, by omega, e.symm, fun j a b => ?_⟩
  by_cases k : j = i9
  · rw [k]; exact g
  · exact lh j a (by omega)
theorem k_wi {qn : Int} {qk : Int} {qs : Int} {qq : Int} {qv : Int} {ba : Int → Int} (hqn : 0 ≤ qn ∧ qn ≤ 900) (hqk : 0 ≤ qk ∧ qk ≤ 4) (hqs : 0 ≤ qs ∧ qs ≤ 900) (hqq : 0 ≤ qq ∧ qq ≤ 900) (hba : ∀ i, -128 ≤ ba i ∧ ba i ≤ 127) {F W s q i kk : Int} (p0 : p_LC ba (F)) (p1 : p_XW (W)) (p2 : p_CU ba qk qs qq qn qv (s)) (p3 : kk = qk) (p4 : q = qq) (c0 : 0 ≤ kk + (-2)) (c1 : 0 ≤ (-1) * kk + 2) (c2 : 0 ≤ q + (-1) * s + (-1) * i) (c3 : 0 ≤ s + i + (-1) * q) (c4 : 0 ≤ i) (c5 : 0 ≤ (-1) * i + 8) (c6 : 0 ≤ F + (-1099511627776) * s + (-1125899906842624) * i + (-1) * W) (c7 : 0 ≤ W + (-1) * F + 1099511627776 * s + 1125899906842624 * i) (c8 : 0 ≤ s) (c9 : 0 ≤ (-1) * s + 900) (c10 : 0 ≤ W) (c11 : 0 ≤ (-1) * W + 1099511627775) : p_WI ba qn (W + 1099511627776 * s) := by
  obtain ⟨c9, s9, i9, x9, la, lb, lc, ld, le, lf, lg, lh⟩ := p0
  obtain ⟨rfl, rfl⟩ : s9 = s ∧ i9 = i := by omega
  obtain ⟨uA, u0, u1, u2, u3⟩ := p2
  refine ⟨W, s9, by omega, by omega, by omega, by omega, by omega, ?_⟩
  unfold m_cd
  rw [if_pos (by omega), ← u2, show (qq - s9).toNat = i9.toNat by omega, ← lg]
  omega
theorem k_nika {qn : Int} {qk : Int} {qs : Int} {qq : Int} {qv : Int} {ba : Int → Int} (hqn : 0 ≤ qn ∧ qn ≤ 900) (hqk : 0 ≤ qk ∧ qk ≤ 4) (hqs : 0 ≤ qs ∧ qs ≤ 900) (hqq : 0 ≤ qq ∧ qq ≤ 900) (hba : ∀ i, -128 ≤ ba i ∧ ba i ≤ 127) {W s q kk : Int} (p0 : p_XW (W)) (p1 : p_CU ba qk qs qq qn qv (s)) (p2 : kk = qk) (p3 : q = qq) (c0 : 0 ≤ (-1) * kk + 1) (c1 : 0 ≤ s) (c2 : 0 ≤ (-1) * s + 900) (c3 : 0 ≤ W) (c4 : 0 ≤ (-1) * W + 1099511627775) : p_NI ba qn (W + 1099511627776 * s) := by
  obtain ⟨uA, u0, u1, u2, u3⟩ := p1
  refine ⟨W, s, by omega, by omega, by omega, by omega, fun hw => ?_⟩
  have := hw.1
  omega
theorem k_nikb {qn : Int} {qk : Int} {qs : Int} {qq : Int} {qv : Int} {ba : Int → Int} (hqn : 0 ≤ qn ∧ qn ≤ 900) (hqk : 0 ≤ qk ∧ qk ≤ 4) (hqs : 0 ≤ qs ∧ qs ≤ 900) (hqq : 0 ≤ qq ∧ qq ≤ 900) (hba : ∀ i, -128 ≤ ba i ∧ ba i ≤ 127) {W s q kk : Int} (p0 : p_XW (W)) (p1 : p_CU ba qk qs qq qn qv (s)) (p2 : kk = qk) (p3 : q = qq) (c0 : 0 ≤ kk + (-3)) (c1 : 0 ≤ s) (c2 : 0 ≤ (-1) * s + 900) (c3 : 0 ≤ W) (c4 : 0 ≤ (-1) * W + 1099511627775) : p_NI ba qn (W + 1099511627776 * s) := by
  obtain ⟨uA, u0, u1, u2, u3⟩ := p1
  refine ⟨W, s, by omega, by omega, by omega, by omega, fun hw => ?_⟩
  have := hw.1
  omega
theorem k_nil2a {qn : Int} {qk : Int} {qs : Int} {qq : Int} {qv : Int} {ba : Int → Int} (hqn : 0 ≤ qn ∧ qn ≤ 900) (hqk : 0 ≤ qk ∧ qk ≤ 4) (hqs : 0 ≤ qs ∧ qs ≤ 900) (hqq : 0 ≤ qq ∧ qq ≤ 900) (hba : ∀ i, -128 ≤ ba i ∧ ba i ≤ 127) {W s q kk : Int} (p0 : p_XW (W)) (p1 : p_CU ba qk qs qq qn qv (s)) (p2 : kk = qk) (p3 : q = qq) (c0 : 0 ≤ s + (-1) * q + 1) (c1 : 0 ≤ W + (-32)) (c2 : 0 ≤ (-1) * W + 1023) (c3 : 0 ≤ s) (c4 : 0 ≤ (-1) * s + 900) (c5 : 0 ≤ W) (c6 : 0 ≤ (-1) * W + 1099511627775) : p_NI ba qn (W + 1099511627776 * s) := by
  obtain ⟨uA, u0, u1, u2, u3⟩ := p1
  refine ⟨W, s, by omega, by omega, by omega, by omega, fun hw => ?_⟩
  have := m_wi_len (k := 1) (show (32 : Int) ^ 1 ≤ W by rw [show (32 : Int) ^ 1 = 32 by decide]; omega) (show W < (32 : Int) ^ 2 by rw [show (32 : Int) ^ 2 = 1024 by decide]; omega) hw
  omega
theorem k_nil2b {qn : Int} {qk : Int} {qs : Int} {qq : Int} {qv : Int} {ba : Int → Int} (hqn : 0 ≤ qn ∧ qn ≤ 900) (hqk : 0 ≤ qk ∧ qk ≤ 4) (hqs : 0 ≤ qs ∧ qs ≤ 900) (hqq : 0 ≤ qq ∧ qq ≤ 900) (hba : ∀ i, -128 ≤ ba i ∧ ba i ≤ 127) {W s q kk : Int} (p0 : p_XW (W)) (p1 : p_CU ba qk qs qq qn qv (s)) (p2 : kk = qk) (p3 : q = qq) (c0 : 0 ≤ q + (-1) * s + (-3)) (c1 : 0 ≤ W + (-32)) (c2 : 0 ≤ (-1) * W + 1023) (c3 : 0 ≤ s) (c4 : 0 ≤ (-1) * s + 900) (c5 : 0 ≤ W) (c6 : 0 ≤ (-1) * W + 1099511627775) : p_NI ba qn (W + 1099511627776 * s) := by
  obtain ⟨uA, u0, u1, u2, u3⟩ := p1
  refine ⟨W, s, by omega, by omega, by omega, by omega, fun hw => ?_⟩
  have := m_wi_len (k := 1) (show (32 : Int) ^ 1 ≤ W by rw [show (32 : Int) ^ 1 = 32 by decide]; omega) (show W < (32 : Int) ^ 2 by rw [show (32 : Int) ^ 2 = 1024 by decide]; omega) hw
  omega
theorem k_nil3a {qn : Int} {qk : Int} {qs : Int} {qq : Int} {qv : Int} {ba : Int → Int} (hqn : 0 ≤ qn ∧ qn ≤ 900) (hqk : 0 ≤ qk ∧ qk ≤ 4) (hqs : 0 ≤ qs ∧ qs ≤ 900) (hqq : 0 ≤ qq ∧ qq ≤ 900) (hba : ∀ i, -128 ≤ ba i ∧ ba i ≤ 127) {W s q kk : Int} (p0 : p_XW (W)) (p1 : p_CU ba qk qs qq qn qv (s)) (p2 : kk = qk) (p3 : q = qq) (c0 : 0 ≤ s + (-1) * q + 2) (c1 : 0 ≤ W + (-1024)) (c2 : 0 ≤ (-1) * W + 32767) (c3 : 0 ≤ s) (c4 : 0 ≤ (-1) * s + 900) (c5 : 0 ≤ W) (c6 : 0 ≤ (-1) * W + 1099511627775) : p_NI ba qn (W + 1099511627776 * s) := by
  obtain ⟨uA, u0, u1, u2, u3⟩ := p1
  refine ⟨W, s, by omega, by omega, by omega, by omega, fun hw => ?_⟩
  have := m_wi_len (k := 2) (show (32 : Int) ^ 2 ≤ W by rw [show (32 : Int) ^ 2 = 1024 by decide]; omega) (show W < (32 : Int) ^ 3 by rw [show (32 : Int) ^ 3 = 32768 by decide]; omega) hw
  omega
theorem k_nil3b {qn : Int} {qk : Int} {qs : Int} {qq : Int} {qv : Int} {ba : Int → Int} (hqn : 0 ≤ qn ∧ qn ≤ 900) (hqk : 0 ≤ qk ∧ qk ≤ 4) (hqs : 0 ≤ qs ∧ qs ≤ 900) (hqq : 0 ≤ qq ∧ qq ≤ 900) (hba : ∀ i, -128 ≤ ba i ∧ ba i ≤ 127) {W s q kk : Int} (p0 : p_XW (W)) (p1 : p_CU ba qk qs qq qn qv (s)) (p2 : kk = qk) (p3 : q = qq) (c0 : 0 ≤ q + (-1) * s + (-4)) (c1 : 0 ≤ W + (-1024)) (c2 : 0 ≤ (-1) * W + 32767) (c3 : 0 ≤ s) (c4 : 0 ≤ (-1) * s + 900) (c5 : 0 ≤ W) (c6 : 0 ≤ (-1) * W + 1099511627775) : p_NI ba qn (W + 1099511627776 * s) := by
  obtain ⟨uA, u0, u1, u2, u3⟩ := p1
  refine ⟨W, s, by omega, by omega, by omega, by omega, fun hw => ?_⟩
  have := m_wi_len (k := 2) (show (32 : Int) ^ 2 ≤ W by rw [show (32 : Int) ^ 2 = 1024 by decide]; omega) (show W < (32 : Int) ^ 3 by rw [show (32 : Int) ^ 3 = 32768 by decide]; omega) hw
  omega
theorem k_nil4a {qn : Int} {qk : Int} {qs : Int} {qq : Int} {qv : Int} {ba : Int → Int} (hqn : 0 ≤ qn ∧ qn ≤ 900) (hqk : 0 ≤ qk ∧ qk ≤ 4) (hqs : 0 ≤ qs ∧ qs ≤ 900) (hqq : 0 ≤ qq ∧ qq ≤ 900) (hba : ∀ i, -128 ≤ ba i ∧ ba i ≤ 127) {W s q kk : Int} (p0 : p_XW (W)) (p1 : p_CU ba qk qs qq qn qv (s)) (p2 : kk = qk) (p3 : q = qq) (c0 : 0 ≤ s + (-1) * q + 3) (c1 : 0 ≤ W + (-32768)) (c2 : 0 ≤ (-1) * W + 1048575) (c3 : 0 ≤ s) (c4 : 0 ≤ (-1) * s + 900) (c5 : 0 ≤ W) (c6 : 0 ≤ (-1) * W + 1099511627775) : p_NI ba qn (W + 1099511627776 * s) := by
  obtain ⟨uA, u0, u1, u2, u3⟩ := p1
  refine ⟨W, s, by omega, by omega, by omega, by omega, fun hw => ?_⟩
  have := m_wi_len (k := 3) (show (32 : Int) ^ 3 ≤ W by rw [show (32 : Int) ^ 3 = 32768 by decide]; omega) (show W < (32 : Int) ^ 4 by rw [show (32 : Int) ^ 4 = 1048576 by decide]; omega) hw
  omega
theorem k_nil4b {qn : Int} {qk : Int} {qs : Int} {qq : Int} {qv : Int} {ba : Int → Int} (hqn : 0 ≤ qn ∧ qn ≤ 900) (hqk : 0 ≤ qk ∧ qk ≤ 4) (hqs : 0 ≤ qs ∧ qs ≤ 900) (hqq : 0 ≤ qq ∧ qq ≤ 900) (hba : ∀ i, -128 ≤ ba i ∧ ba i ≤ 127) {W s q kk : Int} (p0 : p_XW (W)) (p1 : p_CU ba qk qs qq qn qv (s)) (p2 : kk = qk) (p3 : q = qq) (c0 : 0 ≤ q + (-1) * s + (-5)) (c1 : 0 ≤ W + (-32768)) (c2 : 0 ≤ (-1) * W + 1048575) (c3 : 0 ≤ s) (c4 : 0 ≤ (-1) * s + 900) (c5 : 0 ≤ W) (c6 : 0 ≤ (-1) * W + 1099511627775) : p_NI ba qn (W + 1099511627776 * s) := by
  obtain ⟨uA, u0, u1, u2, u3⟩ := p1
  refine ⟨W, s, by omega, by omega, by omega, by omega, fun hw => ?_⟩
  have := m_wi_len (k := 3) (show (32 : Int) ^ 3 ≤ W by rw [show (32 : Int) ^ 3 = 32768 by decide]; omega) (show W < (32 : Int) ^ 4 by rw [show (32 : Int) ^ 4 = 1048576 by decide]; omega) hw
  omega
theorem k_nil5a {qn : Int} {qk : Int} {qs : Int} {qq : Int} {qv : Int} {ba : Int → Int} (hqn : 0 ≤ qn ∧ qn ≤ 900) (hqk : 0 ≤ qk ∧ qk ≤ 4) (hqs : 0 ≤ qs ∧ qs ≤ 900) (hqq : 0 ≤ qq ∧ qq ≤ 900) (hba : ∀ i, -128 ≤ ba i ∧ ba i ≤ 127) {W s q kk : Int} (p0 : p_XW (W)) (p1 : p_CU ba qk qs qq qn qv (s)) (p2 : kk = qk) (p3 : q = qq) (c0 : 0 ≤ s + (-1) * q + 4) (c1 : 0 ≤ W + (-1048576)) (c2 : 0 ≤ (-1) * W + 33554431) (c3 : 0 ≤ s) (c4 : 0 ≤ (-1) * s + 900) (c5 : 0 ≤ W) (c6 : 0 ≤ (-1) * W + 1099511627775) : p_NI ba qn (W + 1099511627776 * s) := by
  obtain ⟨uA, u0, u1, u2, u3⟩ := p1
  refine ⟨W, s, by omega, by omega, by omega, by omega, fun hw => ?_⟩
  have := m_wi_len (k := 4) (show (32 : Int) ^ 4 ≤ W by rw [show (32 : Int) ^ 4 = 1048576 by decide]; omega) (show W < (32 : Int) ^ 5 by rw [show (32 : Int) ^ 5 = 33554432 by decide]; omega) hw
  omega
theorem k_nil5b {qn : Int} {qk : Int} {qs : Int} {qq : Int} {qv : Int} {ba : Int → Int} (hqn : 0 ≤ qn ∧ qn ≤ 900) (hqk : 0 ≤ qk ∧ qk ≤ 4) (hqs : 0 ≤ qs ∧ qs ≤ 900) (hqq : 0 ≤ qq ∧ qq ≤ 900) (hba : ∀ i, -128 ≤ ba i ∧ ba i ≤ 127) {W s q kk : Int} (p0 : p_XW (W)) (p1 : p_CU ba qk qs qq qn qv (s)) (p2 : kk = qk) (p3 : q = qq) (c0 : 0 ≤ q + (-1) * s + (-6)) (c1 : 0 ≤ W + (-1048576)) (c2 : 0 ≤ (-1) * W + 33554431) (c3 : 0 ≤ s) (c4 : 0 ≤ (-1) * s + 900) (c5 : 0 ≤ W) (c6 : 0 ≤ (-1) * W + 1099511627775) : p_NI ba qn (W + 1099511627776 * s) := by
  obtain ⟨uA, u0, u1, u2, u3⟩ := p1
  refine ⟨W, s, by omega, by omega, by omega, by omega, fun hw => ?_⟩
  have := m_wi_len (k := 4) (show (32 : Int) ^ 4 ≤ W by rw [show (32 : Int) ^ 4 = 1048576 by decide]; omega) (show W < (32 : Int) ^ 5 by rw [show (32 : Int) ^ 5 = 33554432 by decide]; omega) hw
  omega
theorem k_nil6a {qn : Int} {qk : Int} {qs : Int} {qq : Int} {qv : Int} {ba : Int → Int} (hqn : 0 ≤ qn ∧ qn ≤ 900) (hqk : 0 ≤ qk ∧ qk ≤ 4) (hqs : 0 ≤ qs ∧ qs ≤ 900) (hqq : 0 ≤ qq ∧ qq ≤ 900) (hba : ∀ i, -128 ≤ ba i ∧ ba i ≤ 127) {W s q kk : Int} (p0 : p_XW (W)) (p1 : p_CU ba qk qs qq qn qv (s)) (p2 : kk = qk) (p3 : q = qq) (c0 : 0 ≤ s + (-1) * q + 5) (c1 : 0 ≤ W + (-33554432)) (c2 : 0 ≤ (-1) * W + 1073741823) (c3 : 0 ≤ s) (c4 : 0 ≤ (-1) * s + 900) (c5 : 0 ≤ W) (c6 : 0 ≤ (-1) * W + 1099511627775) : p_NI ba qn (W + 1099511627776 * s) := by
  obtain ⟨uA, u0, u1, u2, u3⟩ := p1
  refine ⟨W, s, by omega, by omega, by omega, by omega, fun hw => ?_⟩
  have := m_wi_len (k := 5) (show (32 : Int) ^ 5 ≤ W by rw [show (32 : Int) ^ 5 = 33554432 by decide]; omega) (show W < (32 : Int) ^ 6 by rw [show (32 : Int) ^ 6 = 1073741824 by decide]; omega) hw
  omega
theorem k_nil6b {qn : Int} {qk : Int} {qs : Int} {qq : Int} {qv : Int} {ba : Int → Int} (hqn : 0 ≤ qn ∧ qn ≤ 900) (hqk : 0 ≤ qk ∧ qk ≤ 4) (hqs : 0 ≤ qs ∧ qs ≤ 900) (hqq : 0 ≤ qq ∧ qq ≤ 900) (hba : ∀ i, -128 ≤ ba i ∧ ba i ≤ 127) {W s q kk : Int} (p0 : p_XW (W)) (p1 : p_CU ba qk qs qq qn qv (s)) (p2 : kk = qk) (p3 : q = qq) (c0 : 0 ≤ q + (-1) * s + (-7)) (c1 : 0 ≤ W + (-33554432)) (c2 : 0 ≤ (-1) * W + 1073741823) (c3 : 0 ≤ s) (c4 : 0 ≤ (-1) * s + 900) (c5 : 0 ≤ W) (c6 : 0 ≤ (-1) * W + 1099511627775) : p_NI ba qn (W + 1099511627776 * s) := by
  obtain ⟨uA, u0, u1, u2, u3⟩ := p1
  refine ⟨W, s, by omega, by omega, by omega, by omega, fun hw => ?_⟩
  have := m_wi_len (k := 5) (show (32 : Int) ^ 5 ≤ W by rw [show (32 : Int) ^ 5 = 33554432 by decide]; omega) (show W < (32 : Int) ^ 6 by rw [show (32 : Int) ^ 6 = 1073741824 by decide]; omega) hw
  omega
theorem k_nic0a {qn : Int} {qk : Int} {qs : Int} {qq : Int} {qv : Int} {ba : Int → Int} (hqn : 0 ≤ qn ∧ qn ≤ 900) (hqk : 0 ≤ qk ∧ qk ≤ 4) (hqs : 0 ≤ qs ∧ qs ≤ 900) (hqq : 0 ≤ qq ∧ qq ≤ 900) (hba : ∀ i, -128 ≤ ba i ∧ ba i ≤ 127) {F G C W s q i kk : Int} (p0 : p_LC ba (F)) (p1 : p_BY ba (G)) (p2 : p_CH (C)) (p3 : p_XW (W)) (p4 : p_CU ba qk qs qq qn qv (s)) (p5 : kk = qk) (p6 : q = qq) (c0 : 0 ≤ F + (-1099511627776) * s + (-1125899906842624) * i) (c1 : 0 ≤ (-1) * F + 1099511627776 * s + 1125899906842624 * i + 34359738367) (c2 : 0 ≤ i) (c3 : 0 ≤ (-1) * i + 7) (c4 : 0 ≤ s) (c5 : 0 ≤ (-1) * s + 900) (c6 : 0 ≤ C + 256 * s + 256 * i + (-1) * G + 127) (c7 : 0 ≤ C + (-97)) (c8 : 0 ≤ (-1) * C + 122) (c9 : 0 ≤ q + (-1) * s + (-1) * i + (-1)) (c10 : 0 ≤ s + i + (-1) * q + 1) (c11 : 0 ≤ W + (-32) * F + 35184372088832 * s + 36028797018963968 * i + (-1) * C + 96) (c12 : 0 ≤ 32 * F + (-35184372088832) * s + (-36028797018963968) * i + C + (-1) * W + (-96)) (c13 : 0 ≤ G + (-256) * s + (-256) * i) (c14 : 0 ≤ 256 * s + 256 * i + (-1) * G + 255) (c15 : 0 ≤ kk + (-2)) (c16 : 0 ≤ (-1) * kk + 2) (c17 : 0 ≤ s) (c18 : 0 ≤ (-1) * s + 900) (c19 : 0 ≤ W) (c20 : 0 ≤ (-1) * W + 1099511627775) : p_NI ba qn (W + 1099511627776 * s) := by
  obtain ⟨c9, s9, i9, x9, la, lb, lc, ld, le, lf, lg, lh⟩ := p0
  obtain ⟨rfl, rfl⟩ : s9 = s ∧ i9 = i := by omega
  obtain ⟨z1, j1, e1, ja1, jb1, za1, zb1, h1⟩ := p1
  have w1 : j1 = s9 + i9 := by omega
  rw [w1] at h1
  obtain ⟨uA, u0, u1, u2, u3⟩ := p4
  refine ⟨W, s9, by omega, by omega, by omega, by omega, ?_⟩
  obtain ⟨k, rfl⟩ : ∃ k : Nat, i9 = k := ⟨i9.toNat, by omega⟩
  rw [Int.toNat_natCast] at lg
  refine m_wi_chr (k := k) (m := 0) (c := C) (by rw [h1]; omega) (by rw [← u2]; omega) (by omega) ?_ ?_
  · rw [← lg, show (32 : Int) ^ 0 = 1 by decide]; omega
  · rw [← lg, show (32 : Int) ^ 0 = 1 by decide]; omega
theorem k_nic0b {qn : Int} {qk : Int} {qs : Int} {qq : Int} {qv : Int} {ba : Int → Int} (hqn : 0 ≤ qn ∧ qn ≤ 900) (hqk : 0 ≤ qk ∧ qk ≤ 4) (hqs : 0 ≤ qs ∧ qs ≤ 900) (hqq : 0 ≤ qq ∧ qq ≤ 900) (hba : ∀ i, -128 ≤ ba i ∧ ba i ≤ 127) {F G C W s q i kk : Int} (p0 : p_LC ba (F)) (p1 : p_BY ba (G)) (p2 : p_CH (C)) (p3 : p_XW (W)) (p4 : p_CU ba qk qs qq qn qv (s)) (p5 : kk = qk) (p6 : q = qq) (c0 : 0 ≤ F + (-1099511627776) * s + (-1125899906842624) * i) (c1 : 0 ≤ (-1) * F + 1099511627776 * s + 1125899906842624 * i + 34359738367) (c2 : 0 ≤ i) (c3 : 0 ≤ (-1) * i + 7) (c4 : 0 ≤ s) (c5 : 0 ≤ (-1) * s + 900) (c6 : 0 ≤ G + (-256) * s + (-256) * i + (-1) * C + (-129)) (c7 : 0 ≤ C + (-97)) (c8 : 0 ≤ (-1) * C + 122) (c9 : 0 ≤ q + (-1) * s + (-1) * i + (-1)) (c10 : 0 ≤ s + i + (-1) * q + 1) (c11 : 0 ≤ W + (-32) * F + 35184372088832 * s + 36028797018963968 * i + (-1) * C + 96) (c12 : 0 ≤ 32 * F + (-35184372088832) * s + (-36028797018963968) * i + C + (-1) * W + (-96)) (c13 : 0 ≤ G + (-256) * s + (-256) * i) (c14 : 0 ≤ 256 * s + 256 * i + (-1) * G + 255) (c15 : 0 ≤ kk + (-2)) (c16 : 0 ≤ (-1) * kk + 2) (c17 : 0 ≤ s) (c18 : 0 ≤ (-1) * s + 900) (c19 : 0 ≤ W) (c20 : 0 ≤ (-1) * W + 1099511627775) : p_NI ba qn (W + 1099511627776 * s) := by
  obtain ⟨c9, s9, i9, x9, la, lb, lc, ld, le, lf, lg, lh⟩ := p0
  obtain ⟨rfl, rfl⟩ : s9 = s ∧ i9 = i := by omega
  obtain ⟨z1, j1, e1, ja1, jb1, za1, zb1, h1⟩ := p1
  have w1 : j1 = s9 + i9 := by omega
  rw [w1] at h1
  obtain ⟨uA, u0, u1, u2, u3⟩ := p4
  refine ⟨W, s9, by omega, by omega, by omega, by omega, ?_⟩
  obtain ⟨k, rfl⟩ : ∃ k : Nat, i9 = k := ⟨i9.toNat, by omega⟩
  rw [Int.toNat_natCast] at lg
  refine m_wi_chr (k := k) (m := 0) (c := C) (by rw [h1]; omega) (by rw [← u2]; omega) (by omega) ?_ ?_
  · rw [← lg, show (32 : Int) ^ 0 = 1 by decide]; omega
  · rw [← lg, show (32 : Int) ^ 0 = 1 by decide]; omega
theorem k_nic1a {qn : Int} {qk : Int} {qs : Int} {qq : Int} {qv : Int} {ba : Int → Int} (hqn : 0 ≤ qn ∧ qn ≤ 900) (hqk : 0 ≤ qk ∧ qk ≤ 4) (hqs : 0 ≤ qs ∧ qs ≤ 900) (hqq : 0 ≤ qq ∧ qq ≤ 900) (hba : ∀ i, -128 ≤ ba i ∧ ba i ≤ 127) {F G C W s q i kk : Int} (p0 : p_LC ba (F)) (p1 : p_BY ba (G)) (p2 : p_CH (C)) (p3 : p_XW (W)) (p4 : p_CU ba qk qs qq qn qv (s)) (p5 : kk = qk) (p6 : q = qq) (c0 : 0 ≤ F + (-1099511627776) * s + (-1125899906842624) * i) (c1 : 0 ≤ (-1) * F + 1099511627776 * s + 1125899906842624 * i + 34359738367) (c2 : 0 ≤ i) (c3 : 0 ≤ (-1) * i + 7) (c4 : 0 ≤ s) (c5 : 0 ≤ (-1) * s + 900) (c6 : 0 ≤ C + 256 * s + 256 * i + (-1) * G + 127) (c7 : 0 ≤ C + (-97)) (c8 : 0 ≤ (-1) * C + 122) (c9 : 0 ≤ q + (-1) * s + (-1) * i + (-2)) (c10 : 0 ≤ s + i + (-1) * q + 2) (c11 : 0 ≤ W + (-1024) * F + 1125899906842624 * s + 1152921504606846976 * i + (-32) * C + 3072) (c12 : 0 ≤ 1024 * F + (-1125899906842624) * s + (-1152921504606846976) * i + 32 * C + (-1) * W + (-3041)) (c13 : 0 ≤ G + (-256) * s + (-256) * i) (c14 : 0 ≤ 256 * s + 256 * i + (-1) * G + 255) (c15 : 0 ≤ kk + (-2)) (c16 : 0 ≤ (-1) * kk + 2) (c17 : 0 ≤ s) (c18 : 0 ≤ (-1) * s + 900) (c19 : 0 ≤ W) (c20 : 0 ≤ (-1) * W + 1099511627775) : p_NI ba qn (W + 1099511627776 * s) := by
  obtain ⟨c9, s9, i9, x9, la, lb, lc, ld, le, lf, lg, lh⟩ := p0
  obtain ⟨rfl, rfl⟩ : s9 = s ∧ i9 = i := by omega
  obtain ⟨z1, j1, e1, ja1, jb1, za1, zb1, h1⟩ := p1
  have w1 : j1 = s9 + i9 := by omega
  rw [w1] at h1
  obtain ⟨uA, u0, u1, u2, u3⟩ := p4
  refine ⟨W, s9, by omega, by omega, by omega, by omega, ?_⟩
  obtain ⟨k, rfl⟩ : ∃ k : Nat, i9 = k := ⟨i9.toNat, by omega⟩
  rw [Int.toNat_natCast] at lg
  refine m_wi_chr (k := k) (m := 1) (c := C) (by rw [h1]; omega) (by rw [← u2]; omega) (by omega) ?_ ?_
  · rw [← lg, show (32 : Int) ^ 1 = 32 by decide]; omega
  · rw [← lg, show (32 : Int) ^ 1 = 32 by decide]; omega
theorem k_nic1b {qn : Int} {qk : Int} {qs : Int} {qq : Int} {qv : Int} {ba : Int → Int} (hqn : 0 ≤ qn ∧ qn ≤ 900) (hqk : 0 ≤ qk ∧ qk ≤ 4) (hqs : 0 ≤ qs ∧ qs ≤ 900) (hqq : 0 ≤ qq ∧ qq ≤ 900) (hba : ∀ i, -128 ≤ ba i ∧ ba i ≤ 127) {F G C W s q i kk : Int} (p0 : p_LC ba (F)) (p1 : p_BY ba (G)) (p2 : p_CH (C)) (p3 : p_XW (W)) (p4 : p_CU ba qk qs qq qn qv (s)) (p5 : kk = qk) (p6 : q = qq) (c0 : 0 ≤ F + (-1099511627776) * s + (-1125899906842624) * i) (c1 : 0 ≤ (-1) * F + 1099511627776 * s + 1125899906842624 * i + 34359738367) (c2 : 0 ≤ i) (c3 : 0 ≤ (-1) * i + 7) (c4 : 0 ≤ s) (c5 : 0 ≤ (-1) * s + 900) (c6 : 0 ≤ G + (-256) * s + (-256) * i + (-1) * C + (-129)) (c7 : 0 ≤ C + (-97)) (c8 : 0 ≤ (-1) * C + 122) (c9 : 0 ≤ q + (-1) * s + (-1) * i + (-2)) (c10 : 0 ≤ s + i + (-1) * q + 2) (c11 : 0 ≤ W + (-1024) * F + 1125899906842624 * s + 1152921504606846976 * i + (-32) * C + 3072) (c12 : 0 ≤ 1024 * F + (-1125899906842624) * s + (-1152921504606846976) * i + 32 * C + (-1) * W + (-3041)) (c13 : 0 ≤ G + (-256) * s + (-256) * i) (c14 : 0 ≤ 256 * s + 256 * i + (-1) * G + 255) (c15 : 0 ≤ kk + (-2)) (c16 : 0 ≤ (-1) * kk + 2) (c17 : 0 ≤ s) (c18 : 0 ≤ (-1) * s + 900) (c19 : 0 ≤ W) (c20 : 0 ≤ (-1) * W + 1099511627775) : p_NI ba qn (W + 1099511627776 * s) := by
  obtain ⟨c9, s9, i9, x9, la, lb, lc, ld, le, lf, lg, lh⟩ := p0
  obtain ⟨rfl, rfl⟩ : s9 = s ∧ i9 = i := by omega
  obtain ⟨z1, j1, e1, ja1, jb1, za1, zb1, h1⟩ := p1
  have w1 : j1 = s9 + i9 := by omega
  rw [w1] at h1
  obtain ⟨uA, u0, u1, u2, u3⟩ := p4
  refine ⟨W, s9, by omega, by omega, by omega, by omega, ?_⟩
  obtain ⟨k, rfl⟩ : ∃ k : Nat, i9 = k := ⟨i9.toNat, by omega⟩
  rw [Int.toNat_natCast] at lg
  refine m_wi_chr (k := k) (m := 1) (c := C) (by rw [h1]; omega) (by rw [← u2]; omega) (by omega) ?_ ?_
  · rw [← lg, show (32 : Int) ^ 1 = 32 by decide]; omega
  · rw [← lg, show (32 : Int) ^ 1 = 32 by decide]; omega
theorem k_nic2a {qn : Int} {qk : Int} {qs : Int} {qq : Int} {qv : Int} {ba : Int → Int} (hqn : 0 ≤ qn ∧ qn ≤ 900) (hqk : 0 ≤ qk ∧ qk ≤ 4) (hqs : 0 ≤ qs ∧ qs ≤ 900) (hqq : 0 ≤ qq ∧ qq ≤ 900) (hba : ∀ i, -128 ≤ ba i ∧ ba i ≤ 127) {F G C W s q i kk : Int} (p0 : p_LC ba (F)) (p1 : p_BY ba (G)) (p2 : p_CH (C)) (p3 : p_XW (W)) (p4 : p_CU ba qk qs qq qn qv (s)) (p5 : kk = qk) (p6 : q = qq) (c0 : 0 ≤ F + (-1099511627776) * s + (-1125899906842624) * i) (c1 : 0 ≤ (-1) * F + 1099511627776 * s + 1125899906842624 * i + 34359738367) (c2 : 0 ≤ i) (c3 : 0 ≤ (-1) * i + 7) (c4 : 0 ≤ s) (c5 : 0 ≤ (-1) * s + 900) (c6 : 0 ≤ C + 256 * s + 256 * i + (-1) * G + 127) (c7 : 0 ≤ C + (-97)) (c8 : 0 ≤ (-1) * C + 122) (c9 : 0 ≤ q + (-1) * s + (-1) * i + (-3)) (c10 : 0 ≤ s + i + (-1) * q + 3) (c11 : 0 ≤ W + (-32768) * F + 36028797018963968 * s + 36893488147419103232 * i + (-1024) * C + 98304) (c12 : 0 ≤ 32768 * F + (-36028797018963968) * s + (-36893488147419103232) * i + 1024 * C + (-1) * W + (-97281)) (c13 : 0 ≤ G + (-256) * s + (-256) * i) (c14 : 0 ≤ 256 * s + 256 * i + (-1) * G + 255) (c15 : 0 ≤ kk + (-2)) (c16 : 0 ≤ (-1) * kk + 2) (c17 : 0 ≤ s) (c18 : 0 ≤ (-1) * s + 900) (c19 : 0 ≤ W) (c20 : 0 ≤ (-1) * W + 1099511627775) : p_NI ba qn (W + 1099511627776 * s) := by
  obtain ⟨c9, s9, i9, x9, la, lb, lc, ld, le, lf, lg, lh⟩ := p0
  obtain ⟨rfl, rfl⟩ : s9 = s ∧ i9 = i := by omega
  obtain ⟨z1, j1, e1, ja1, jb1, za1, zb1, h1⟩ := p1
  have w1 : j1 = s9 + i9 := by omega
  rw [w1] at h1
  obtain ⟨uA, u0, u1, u2, u3⟩ := p4
  refine ⟨W, s9, by omega, by omega, by omega, by omega, ?_⟩
  obtain ⟨k, rfl⟩ : ∃ k : Nat, i9 = k := ⟨i9.toNat, by omega⟩
  rw [Int.toNat_natCast] at lg
  refine m_wi_chr (k := k) (m := 2) (c := C) (by rw [h1]; omega) (by rw [← u2]; omega) (by omega) ?_ ?_
  · rw [← lg, show (32 : Int) ^ 2 = 1024 by decide]; omega
  · rw [← lg, show (32 : Int) ^ 2 = 1024 by decide]; omega
theorem k_nic2b {qn : Int} {qk : Int} {qs : Int} {qq : Int} {qv : Int} {ba : Int → Int} (hqn : 0 ≤ qn ∧ qn ≤ 900) (hqk : 0 ≤ qk ∧ qk ≤ 4) (hqs : 0 ≤ qs ∧ qs ≤ 900) (hqq : 0 ≤ qq ∧ qq ≤ 900) (hba : ∀ i, -128 ≤ ba i ∧ ba i ≤ 127) {F G C W s q i kk : Int} (p0 : p_LC ba (F)) (p1 : p_BY ba (G)) (p2 : p_CH (C)) (p3 : p_XW (W)) (p4 : p_CU ba qk qs qq qn qv (s)) (p5 : kk = qk) (p6 : q = qq) (c0 : 0 ≤ F + (-1099511627776) * s + (-1125899906842624) * i) (c1 : 0 ≤ (-1) * F + 1099511627776 * s + 1125899906842624 * i + 34359738367) (c2 : 0 ≤ i) (c3 : 0 ≤ (-1) * i + 7) (c4 : 0 ≤ s) (c5 : 0 ≤ (-1) * s + 900) (c6 : 0 ≤ G + (-256) * s + (-256) * i + (-1) * C + (-129)) (c7 : 0 ≤ C + (-97)) (c8 : 0 ≤ (-1) * C + 122) (c9 : 0 ≤ q + (-1) * s + (-1) * i + (-3)) (c10 : 0 ≤ s + i + (-1) * q + 3) (c11 : 0 ≤ W + (-32768) * F + 36028797018963968 * s + 36893488147419103232 * i + (-1024) * C + 98304) (c12 : 0 ≤ 32768 * F + (-36028797018963968) * s + (-36893488147419103232) * i + 1024 * C + (-1) * W + (-97281)) (c13 : 0 ≤ G + (-256) * s + (-256) * i) (c14 : 0 ≤ 256 * s + 256 * i + (-1) * G + 255) (c15 : 0 ≤ kk + (-2)) (c16 : 0 ≤ (-1) * kk + 2) (c17 : 0 ≤ s) (c18 : 0 ≤ (-1) * s + 900) (c19 : 0 ≤ W) (c20 : 0 ≤ (-1) * W + 1099511627775) : p_NI ba qn (W + 1099511627776 * s) := by
  obtain ⟨c9, s9, i9, x9, la, lb, lc, ld, le, lf, lg, lh⟩ := p0
  obtain ⟨rfl, rfl⟩ : s9 = s ∧ i9 = i := by omega
  obtain ⟨z1, j1, e1, ja1, jb1, za1, zb1, h1⟩ := p1
  have w1 : j1 = s9 + i9 := by omega
  rw [w1] at h1
  obtain ⟨uA, u0, u1, u2, u3⟩ := p4
  refine ⟨W, s9, by omega, by omega, by omega, by omega, ?_⟩
  obtain ⟨k, rfl⟩ : ∃ k : Nat, i9 = k := ⟨i9.toNat, by omega⟩
  rw [Int.toNat_natCast] at lg
  refine m_wi_chr (k := k) (m := 2) (c := C) (by rw [h1]; omega) (by rw [← u2]; omega) (by omega) ?_ ?_
  · rw [← lg, show (32 : Int) ^ 2 = 1024 by decide]; omega
  · rw [← lg, show (32 : Int) ^ 2 = 1024 by decide]; omega
theorem k_nic3a {qn : Int} {qk : Int} {qs : Int} {qq : Int} {qv : Int} {ba : Int → Int} (hqn : 0 ≤ qn ∧ qn ≤ 900) (hqk : 0 ≤ qk ∧ qk ≤ 4) (hqs : 0 ≤ qs ∧ qs ≤ 900) (hqq : 0 ≤ qq ∧ qq ≤ 900) (hba : ∀ i, -128 ≤ ba i ∧ ba i ≤ 127) {F G C W s q i kk : Int} (p0 : p_LC ba (F)) (p1 : p_BY ba (G)) (p2 : p_CH (C)) (p3 : p_XW (W)) (p4 : p_CU ba qk qs qq qn qv (s)) (p5 : kk = qk) (p6 : q = qq) (c0 : 0 ≤ F + (-1099511627776) * s + (-1125899906842624) * i) (c1 : 0 ≤ (-1) * F + 1099511627776 * s + 1125899906842624 * i + 34359738367) (c2 : 0 ≤ i) (c3 : 0 ≤ (-1) * i + 7) (c4 : 0 ≤ s) (c5 : 0 ≤ (-1) * s + 900) (c6 : 0 ≤ C + 256 * s + 256 * i + (-1) * G + 127) (c7 : 0 ≤ C + (-97)) (c8 : 0 ≤ (-1) * C + 122) (c9 : 0 ≤ q + (-1) * s + (-1) * i + (-4)) (c10 : 0 ≤ s + i + (-1) * q + 4) (c11 : 0 ≤ W + (-1048576) * F + 1152921504606846976 * s + 1180591620717411303424 * i + (-32768) * C + 3145728) (c12 : 0 ≤ 1048576 * F + (-1152921504606846976) * s + (-1180591620717411303424) * i + 32768 * C + (-1) * W + (-3112961)) (c13 : 0 ≤ G + (-256) * s + (-256) * i) (c14 : 0 ≤ 256 * s + 256 * i + (-1) * G + 255) (c15 : 0 ≤ kk + (-2)) (c16 : 0 ≤ (-1) * kk + 2) (c17 : 0 ≤ s) (c18 : 0 ≤ (-1) * s + 900) (c19 : 0 ≤ W) (c20 : 0 ≤ (-1) * W + 1099511627775) : p_NI ba qn (W + 1099511627776 * s) := by
  obtain ⟨c9, s9, i9, x9, la, lb, lc, ld, le, lf, lg, lh⟩ := p0
  obtain ⟨rfl, rfl⟩ : s9 = s ∧ i9 = i := by omega
  obtain ⟨z1, j1, e1, ja1, jb1, za1, zb1, h1⟩ := p1
  have w1 : j1 = s9 + i9 := by omega
  rw [w1] at h1
  obtain ⟨uA, u0, u1, u2, u3⟩ := p4
  refine ⟨W, s9, by omega, by omega, by omega, by omega, ?_⟩
  obtain ⟨k, rfl⟩ : ∃ k : Nat, i9 = k := ⟨i9.toNat, by omega⟩
  rw [Int.toNat_natCast] at lg
  refine m_wi_chr (k := k) (m := 3) (c := C) (by rw [h1]; omega) (by rw [← u2]; omega) (by omega) ?_ ?_
  · rw [← lg, show (32 : Int) ^ 3 = 32768 by decide]; omega
  · rw [← lg, show (32 : Int) ^ 3 = 32768 by decide]; omega
theorem k_nic3b {qn : Int} {qk : Int} {qs : Int} {qq : Int} {qv : Int} {ba : Int → Int} (hqn : 0 ≤ qn ∧ qn ≤ 900) (hqk : 0 ≤ qk ∧ qk ≤ 4) (hqs : 0 ≤ qs ∧ qs ≤ 900) (hqq : 0 ≤ qq ∧ qq ≤ 900) (hba : ∀ i, -128 ≤ ba i ∧ ba i ≤ 127) {F G C W s q i kk : Int} (p0 : p_LC ba (F)) (p1 : p_BY ba (G)) (p2 : p_CH (C)) (p3 : p_XW (W)) (p4 : p_CU ba qk qs qq qn qv (s)) (p5 : kk = qk) (p6 : q = qq) (c0 : 0 ≤ F + (-1099511627776) * s + (-1125899906842624) * i) (c1 : 0 ≤ (-1) * F + 1099511627776 * s + 1125899906842624 * i + 34359738367) (c2 : 0 ≤ i) (c3 : 0 ≤ (-1) * i + 7) (c4 : 0 ≤ s) (c5 : 0 ≤ (-1) * s + 900) (c6 : 0 ≤ G + (-256) * s + (-256) * i + (-1) * C + (-129)) (c7 : 0 ≤ C + (-97)) (c8 : 0 ≤ (-1) * C + 122) (c9 : 0 ≤ q + (-1) * s + (-1) * i + (-4)) (c10 : 0 ≤ s + i + (-1) * q + 4) (c11 : 0 ≤ W + (-1048576) * F + 1152921504606846976 * s + 1180591620717411303424 * i + (-32768) * C + 3145728) (c12 : 0 ≤ 1048576 * F + (-1152921504606846976) * s + (-1180591620717411303424) * i + 32768 * C + (-1) * W + (-3112961)) (c13 : 0 ≤ G + (-256) * s + (-256) * i) (c14 : 0 ≤ 256 * s + 256 * i + (-1) * G + 255) (c15 : 0 ≤ kk + (-2)) (c16 : 0 ≤ (-1) * kk + 2) (c17 : 0 ≤ s) (c18 : 0 ≤ (-1) * s + 900) (c19 : 0 ≤ W) (c20 : 0 ≤ (-1) * W + 1099511627775) : p_NI ba qn (W + 1099511627776 * s) := by
  obtain ⟨c9, s9, i9, x9, la, lb, lc, ld, le, lf, lg, lh⟩ := p0
  obtain ⟨rfl, rfl⟩ : s9 = s ∧ i9 = i := by omega
  obtain ⟨z1, j1, e1, ja1, jb1, za1, zb1, h1⟩ := p1
  have w1 : j1 = s9 + i9 := by omega
  rw [w1] at h1
  obtain ⟨uA, u0, u1, u2, u3⟩ := p4
  refine ⟨W, s9, by omega, by omega, by omega, by omega, ?_⟩
  obtain ⟨k, rfl⟩ : ∃ k : Nat, i9 = k := ⟨i9.toNat, by omega⟩
  rw [Int.toNat_natCast] at lg
  refine m_wi_chr (k := k) (m := 3) (c := C) (by rw [h1]; omega) (by rw [← u2]; omega) (by omega) ?_ ?_
  · rw [← lg, show (32 : Int) ^ 3 = 32768 by decide]; omega
  · rw [← lg, show (32 : Int) ^ 3 = 32768 by decide]; omega
theorem k_nic4a {qn : Int} {qk : Int} {qs : Int} {qq : Int} {qv : Int} {ba : Int → Int} (hqn : 0 ≤ qn ∧ qn ≤ 900) (hqk : 0 ≤ qk ∧ qk ≤ 4) (hqs : 0 ≤ qs ∧ qs ≤ 900) (hqq : 0 ≤ qq ∧ qq ≤ 900) (hba : ∀ i, -128 ≤ ba i ∧ ba i ≤ 127) {F G C W s q i kk : Int} (p0 : p_LC ba (F)) (p1 : p_BY ba (G)) (p2 : p_CH (C)) (p3 : p_XW (W)) (p4 : p_CU ba qk qs qq qn qv (s)) (p5 : kk = qk) (p6 : q = qq) (c0 : 0 ≤ F + (-1099511627776) * s + (-1125899906842624) * i) (c1 : 0 ≤ (-1) * F + 1099511627776 * s + 1125899906842624 * i + 34359738367) (c2 : 0 ≤ i) (c3 : 0 ≤ (-1) * i + 7) (c4 : 0 ≤ s) (c5 : 0 ≤ (-1) * s + 900) (c6 : 0 ≤ C + 256 * s + 256 * i + (-1) * G + 127) (c7 : 0 ≤ C + (-97)) (c8 : 0 ≤ (-1) * C + 122) (c9 : 0 ≤ q + (-1) * s + (-1) * i + (-5)) (c10 : 0 ≤ s + i + (-1) * q + 5) (c11 : 0 ≤ W + (-33554432) * F + 36893488147419103232 * s + 37778931862957161709568 * i + (-1048576) * C + 100663296) (c12 : 0 ≤ 33554432 * F + (-36893488147419103232) * s + (-37778931862957161709568) * i + 1048576 * C + (-1) * W + (-99614721)) (c13 : 0 ≤ G + (-256) * s + (-256) * i) (c14 : 0 ≤ 256 * s + 256 * i + (-1) * G + 255) (c15 : 0 ≤ kk + (-2)) (c16 : 0 ≤ (-1) * kk + 2) (c17 : 0 ≤ s) (c18 : 0 ≤ (-1) * s + 900) (c19 : 0 ≤ W) (c20 : 0 ≤ (-1) * W + 1099511627775) : p_NI ba qn (W + 1099511627776 * s) := by
  obtain ⟨c9, s9, i9, x9, la, lb, lc, ld, le, lf, lg, lh⟩ := p0
  obtain ⟨rfl, rfl⟩ : s9 = s ∧ i9 = i := by omega
  obtain ⟨z1, j1, e1, ja1, jb1, za1, zb1, h1⟩ := p1
  have w1 : j1 = s9 + i9 := by omega
  rw [w1] at h1
  obtain ⟨uA, u0, u1, u2, u3⟩ := p4
  refine ⟨W, s9, by omega, by omega, by omega, by omega, ?_⟩
  obtain ⟨k, rfl⟩ : ∃ k : Nat, i9 = k := ⟨i9.toNat, by omega⟩
  rw [Int.toNat_natCast] at lg
  refine m_wi_chr (k := k) (m := 4) (c := C) (by rw [h1]; omega) (by rw [← u2]; omega) (by omega) ?_ ?_
  · rw [← lg, show (32 : Int) ^ 4 = 1048576 by decide]; omega
  · rw [← lg, show (32 : Int) ^ 4 = 1048576 by decide]; omega
theorem k_nic4b {qn : Int} {qk : Int} {qs : Int} {qq : Int} {qv : Int} {ba : Int → Int} (hqn : 0 ≤ qn ∧ qn ≤ 900) (hqk : 0 ≤ qk ∧ qk ≤ 4) (hqs : 0 ≤ qs ∧ qs ≤ 900) (hqq : 0 ≤ qq ∧ qq ≤ 900) (hba : ∀ i, -128 ≤ ba i ∧ ba i ≤ 127) {F G C W s q i kk : Int} (p0 : p_LC ba (F)) (p1 : p_BY ba (G)) (p2 : p_CH (C)) (p3 : p_XW (W)) (p4 : p_CU ba qk qs qq qn qv (s)) (p5 : kk = qk) (p6 : q = qq) (c0 : 0 ≤ F + (-1099511627776) * s + (-1125899906842624) * i) (c1 : 0 ≤ (-1) * F + 1099511627776 * s + 1125899906842624 * i + 34359738367) (c2 : 0 ≤ i) (c3 : 0 ≤ (-1) * i + 7) (c4 : 0 ≤ s) (c5 : 0 ≤ (-1) * s + 900) (c6 : 0 ≤ G + (-256) * s + (-256) * i + (-1) * C + (-129)) (c7 : 0 ≤ C + (-97)) (c8 : 0 ≤ (-1) * C + 122) (c9 : 0 ≤ q + (-1) * s + (-1) * i + (-5)) (c10 : 0 ≤ s + i + (-1) * q + 5) (c11 : 0 ≤ W + (-33554432) * F + 36893488147419103232 * s + 37778931862957161709568 * i + (-1048576) * C + 100663296) (c12 : 0 ≤ 33554432 * F + (-36893488147419103232) * s + (-37778931862957161709568) * i + 1048576 * C + (-1) * W + (-99614721)) (c13 : 0 ≤ G + (-256) * s + (-256) * i) (c14 : 0 ≤ 256 * s + 256 * i + (-1) * G + 255) (c15 : 0 ≤ kk + (-2)) (c16 : 0 ≤ (-1) * kk + 2) (c17 : 0 ≤ s) (c18 : 0 ≤ (-1) * s + 900) (c19 : 0 ≤ W) (c20 : 0 ≤ (-1) * W + 1099511627775) : p_NI ba qn (W + 1099511627776 * s) := by
  obtain ⟨c9, s9, i9, x9, la, lb, lc, ld, le, lf, lg, lh⟩ := p0
  obtain ⟨rfl, rfl⟩ : s9 = s ∧ i9 = i := by omega
  obtain ⟨z1, j1, e1, ja1, jb1, za1, zb1, h1⟩ := p1
  have w1 : j1 = s9 + i9 := by omega
  rw [w1] at h1
  obtain ⟨uA, u0, u1, u2, u3⟩ := p4
  refine ⟨W, s9, by omega, by omega, by omega, by omega, ?_⟩
  obtain ⟨k, rfl⟩ : ∃ k : Nat, i9 = k := ⟨i9.toNat, by omega⟩
  rw [Int.toNat_natCast] at lg
  refine m_wi_chr (k := k) (m := 4) (c := C) (by rw [h1]; omega) (by rw [← u2]; omega) (by omega) ?_ ?_
  · rw [← lg, show (32 : Int) ^ 4 = 1048576 by decide]; omega
  · rw [← lg, show (32 : Int) ^ 4 = 1048576 by decide]; omega
theorem k_nic5a {qn : Int} {qk : Int} {qs : Int} {qq : Int} {qv : Int} {ba : Int → Int} (hqn : 0 ≤ qn ∧ qn ≤ 900) (hqk : 0 ≤ qk ∧ qk ≤ 4) (hqs : 0 ≤ qs ∧ qs ≤ 900) (hqq : 0 ≤ qq ∧ qq ≤ 900) (hba : ∀ i, -128 ≤ ba i ∧ ba i ≤ 127) {F G C W s q i kk : Int} (p0 : p_LC ba (F)) (p1 : p_BY ba (G)) (p2 : p_CH (C)) (p3 : p_XW (W)) (p4 : p_CU ba qk qs qq qn qv (s)) (p5 : kk = qk) (p6 : q = qq) (c0 : 0 ≤ F + (-1099511627776) * s + (-1125899906842624) * i) (c1 : 0 ≤ (-1) * F + 1099511627776 * s + 1125899906842624 * i + 34359738367) (c2 : 0 ≤ i) (c3 : 0 ≤ (-1) * i + 7) (c4 : 0 ≤ s) (c5 : 0 ≤ (-1) * s + 900) (c6 : 0 ≤ C + 256 * s + 256 * i + (-1) * G + 127) (c7 : 0 ≤ C + (-97)) (c8 : 0 ≤ (-1) * C + 122) (c9 : 0 ≤ q + (-1) * s + (-1) * i + (-6)) (c10 : 0 ≤ s + i + (-1) * q + 6) (c11 : 0 ≤ W + (-1073741824) * F + 1180591620717411303424 * s + 1208925819614629174706176 * i + (-33554432) * C + 3221225472) (c12 : 0 ≤ 1073741824 * F + (-1180591620717411303424) * s + (-1208925819614629174706176) * i + 33554432 * C + (-1) * W + (-3187671041)) (c13 : 0 ≤ G + (-256) * s + (-256) * i) (c14 : 0 ≤ 256 * s + 256 * i + (-1) * G + 255) (c15 : 0 ≤ kk + (-2)) (c16 : 0 ≤ (-1) * kk + 2) (c17 : 0 ≤ s) (c18 : 0 ≤ (-1) * s + 900) (c19 : 0 ≤ W) (c20 : 0 ≤ (-1) * W + 1099511627775) : p_NI ba qn (W + 1099511627776 * s) := by
  obtain ⟨c9, s9, i9, x9, la, lb, lc, ld, le, lf, lg, lh⟩ := p0
  obtain ⟨rfl, rfl⟩ : s9 = s ∧ i9 = i := by omega
  obtain ⟨z1, j1, e1, ja1, jb1, za1, zb1, h1⟩ := p1
  have w1 : j1 = s9 + i9 := by omega
  rw [w1] at h1
  obtain ⟨uA, u0, u1, u2, u3⟩ := p4
  refine ⟨W, s9, by omega, by omega, by omega, by omega, ?_⟩
  obtain ⟨k, rfl⟩ : ∃ k : Nat, i9 = k := ⟨i9.toNat, by omega⟩
  rw [Int.toNat_natCast] at lg
  refine m_wi_chr (k := k) (m := 5) (c := C) (by rw [h1]; omega) (by rw [← u2]; omega) (by omega) ?_ ?_
  · rw [← lg, show (32 : Int) ^ 5 = 33554432 by decide]; omega
  · rw [← lg, show (32 : Int) ^ 5 = 33554432 by decide]; omega
theorem k_nic5b {qn : Int} {qk : Int} {qs : Int} {qq : Int} {qv : Int} {ba : Int → Int} (hqn : 0 ≤ qn ∧ qn ≤ 900) (hqk : 0 ≤ qk ∧ qk ≤ 4) (hqs : 0 ≤ qs ∧ qs ≤ 900) (hqq : 0 ≤ qq ∧ qq ≤ 900) (hba : ∀ i, -128 ≤ ba i ∧ ba i ≤ 127) {F G C W s q i kk : Int} (p0 : p_LC ba (F)) (p1 : p_BY ba (G)) (p2 : p_CH (C)) (p3 : p_XW (W)) (p4 : p_CU ba qk qs qq qn qv (s)) (p5 : kk = qk) (p6 : q = qq) (c0 : 0 ≤ F + (-1099511627776) * s + (-1125899906842624) * i) (c1 : 0 ≤ (-1) * F + 1099511627776 * s + 1125899906842624 * i + 34359738367) (c2 : 0 ≤ i) (c3 : 0 ≤ (-1) * i + 7) (c4 : 0 ≤ s) (c5 : 0 ≤ (-1) * s + 900) (c6 : 0 ≤ G + (-256) * s + (-256) * i + (-1) * C + (-129)) (c7 : 0 ≤ C + (-97)) (c8 : 0 ≤ (-1) * C + 122) (c9 : 0 ≤ q + (-1) * s + (-1) * i + (-6)) (c10 : 0 ≤ s + i + (-1) * q + 6) (c11 : 0 ≤ W + (-1073741824) * F + 1180591620717411303424 * s + 1208925819614629174706176 * i + (-33554432) * C + 3221225472) (c12 : 0 ≤ 1073741824 * F + (-1180591620717411303424) * s + (-1208925819614629174706176) * i + 33554432 * C + (-1) * W + (-3187671041)) (c13 : 0 ≤ G + (-256) * s + (-256) * i) (c14 : 0 ≤ 256 * s + 256 * i + (-1) * G + 255) (c15 : 0 ≤ kk + (-2)) (c16 : 0 ≤ (-1) * kk + 2) (c17 : 0 ≤ s) (c18 : 0 ≤ (-1) * s + 900) (c19 : 0 ≤ W) (c20 : 0 ≤ (-1) * W + 1099511627775) : p_NI ba qn (W + 1099511627776 * s) := by
  obtain ⟨c9, s9, i9, x9, la, lb, lc, ld, le, lf, lg, lh⟩ := p0
  obtain ⟨rfl, rfl⟩ : s9 = s ∧ i9 = i := by omega
  obtain ⟨z1, j1, e1, ja1, jb1, za1, zb1, h1⟩ := p1
  have w1 : j1 = s9 + i9 := by omega
  rw [w1] at h1
  obtain ⟨uA, u0, u1, u2, u3⟩ := p4
  refine ⟨W, s9, by omega, by omega, by omega, by omega, ?_⟩
  obtain ⟨k, rfl⟩ : ∃ k : Nat, i9 = k := ⟨i9.toNat, by omega⟩
  rw [Int.toNat_natCast] at lg
  refine m_wi_chr (k := k) (m := 5) (c := C) (by rw [h1]; omega) (by rw [← u2]; omega) (by omega) ?_ ?_
  · rw [← lg, show (32 : Int) ^ 5 = 33554432 by decide]; omega
  · rw [← lg, show (32 : Int) ^ 5 = 33554432 by decide]; omega
theorem k_cf1 {qn : Int} {wo : Int} {wf : Int} {wn : Int} {wc : Int} {wm : Int} {ws : Int} {wi : Int} {wl : Int} {ba : Int → Int} {xa : Int → Int} {xb : Int → Int} {xc : Int → Int} {xd : Int → Int} {xe : Int → Int} {xf : Int → Int} {xg : Int → Int} {xh : Int → Int} (hqn : 0 ≤ qn ∧ qn ≤ 900) (hwo : 2 ≤ wo ∧ wo ≤ 13) (hwf : 1 ≤ wf ∧ wf ≤ 13) (hwn : 0 ≤ wn ∧ wn ≤ 96) (hwc : 0 ≤ wc ∧ wc ≤ 6) (hwm : 0 ≤ wm ∧ wm ≤ 4) (hws : 0 ≤ ws ∧ ws ≤ 6) (hwi : 0 ≤ wi ∧ wi ≤ 8) (hba : ∀ i, -128 ≤ ba i ∧ ba i ≤ 127) (hxe : ∀ i, 0 ≤ xe i ∧ xe i ≤ 12) {H N s Y : Int} (p0 : p_RDX ba qn wo wf wn wc wm ws wi wl xa xb xc xd xe xf xg xh (H)) (p1 : p_NX ba qn (N)) (c0 : 0 ≤ H + (-1) * N + 1024 * s + (-65536) * Y + (-1024)) (c1 : 0 ≤ 65536 * Y + (-1) * H + N + (-1024) * s + 1024) (c2 : 0 ≤ N + (-1024) * s) (c3 : 0 ≤ (-1) * N + 1024 * s + 1023) (c4 : 0 ≤ s) (c5 : 0 ≤ Y) (c6 : 0 ≤ (-1) * Y + 4294967295) : p_CF ba qn wo wf wn wc wm ws wi wl xa xb xc xd xe xf xg xh (H + (-1) * N + 1025 * s) := by
  obtain ⟨st, q1, r1, r2, np, W, pk, cf, w1, w2, w3, w4, w5, w6, w7, of, pn⟩ := p0
  unfold m_pk at pk
  obtain ⟨e2, q2, x2, n1, n2, n3, n4, n5⟩ := p1
  obtain rfl : q2 = s := by omega
  obtain rfl : e2 = q1 := by omega
  obtain rfl : st = 1 := by omega
  have n6 : q2 ≤ 900 := n5 ▸ m_sk_900 hqn.2 (by omega)
  rw [← n5] at cf
  exact ⟨1, q2, r1, r2, np, W, (by unfold m_pk; omega), cf, w1, w2, w3, w4, w5, w6, w7, of, pn⟩
theorem k_cf2 {qn : Int} {wo : Int} {wf : Int} {wn : Int} {wc : Int} {wm : Int} {ws : Int} {wi : Int} {wl : Int} {ba : Int → Int} {xa : Int → Int} {xb : Int → Int} {xc : Int → Int} {xd : Int → Int} {xe : Int → Int} {xf : Int → Int} {xg : Int → Int} {xh : Int → Int} (hqn : 0 ≤ qn ∧ qn ≤ 900) (hwo : 2 ≤ wo ∧ wo ≤ 13) (hwf : 1 ≤ wf ∧ wf ≤ 13) (hwn : 0 ≤ wn ∧ wn ≤ 96) (hwc : 0 ≤ wc ∧ wc ≤ 6) (hwm : 0 ≤ wm ∧ wm ≤ 4) (hws : 0 ≤ ws ∧ ws ≤ 6) (hwi : 0 ≤ wi ∧ wi ≤ 8) (hba : ∀ i, -128 ≤ ba i ∧ ba i ≤ 127) (hxe : ∀ i, 0 ≤ xe i ∧ xe i ≤ 12) {H N s Y : Int} (p0 : p_RDX ba qn wo wf wn wc wm ws wi wl xa xb xc xd xe xf xg xh (H)) (p1 : p_NX ba qn (N)) (c0 : 0 ≤ H + (-1) * N + 1024 * s + (-65536) * Y + (-2048)) (c1 : 0 ≤ 65536 * Y + (-1) * H + N + (-1024) * s + 2048) (c2 : 0 ≤ N + (-1024) * s) (c3 : 0 ≤ (-1) * N + 1024 * s + 1023) (c4 : 0 ≤ s) (c5 : 0 ≤ Y) (c6 : 0 ≤ (-1) * Y + 4294967295) : p_CF ba qn wo wf wn wc wm ws wi wl xa xb xc xd xe xf xg xh (H + (-1) * N + 1025 * s) := by
  obtain ⟨st, q1, r1, r2, np, W, pk, cf, w1, w2, w3, w4, w5, w6, w7, of, pn⟩ := p0
  unfold m_pk at pk
  obtain ⟨e2, q2, x2, n1, n2, n3, n4, n5⟩ := p1
  obtain rfl : q2 = s := by omega
  obtain rfl : e2 = q1 := by omega
  obtain rfl : st = 2 := by omega
  have n6 : q2 ≤ 900 := n5 ▸ m_sk_900 hqn.2 (by omega)
  rw [← n5] at cf
  exact ⟨2, q2, r1, r2, np, W, (by unfold m_pk; omega), cf, w1, w2, w3, w4, w5, w6, w7, of, pn⟩
theorem k_cf3 {qn : Int} {wo : Int} {wf : Int} {wn : Int} {wc : Int} {wm : Int} {ws : Int} {wi : Int} {wl : Int} {ba : Int → Int} {xa : Int → Int} {xb : Int → Int} {xc : Int → Int} {xd : Int → Int} {xe : Int → Int} {xf : Int → Int} {xg : Int → Int} {xh : Int → Int} (hqn : 0 ≤ qn ∧ qn ≤ 900) (hwo : 2 ≤ wo ∧ wo ≤ 13) (hwf : 1 ≤ wf ∧ wf ≤ 13) (hwn : 0 ≤ wn ∧ wn ≤ 96) (hwc : 0 ≤ wc ∧ wc ≤ 6) (hwm : 0 ≤ wm ∧ wm ≤ 4) (hws : 0 ≤ ws ∧ ws ≤ 6) (hwi : 0 ≤ wi ∧ wi ≤ 8) (hba : ∀ i, -128 ≤ ba i ∧ ba i ≤ 127) (hxe : ∀ i, 0 ≤ xe i ∧ xe i ≤ 12) {H N s Y : Int} (p0 : p_RDX ba qn wo wf wn wc wm ws wi wl xa xb xc xd xe xf xg xh (H)) (p1 : p_NX ba qn (N)) (c0 : 0 ≤ H + (-1) * N + 1024 * s + (-65536) * Y + (-3072)) (c1 : 0 ≤ 65536 * Y + (-1) * H + N + (-1024) * s + 3072) (c2 : 0 ≤ N + (-1024) * s) (c3 : 0 ≤ (-1) * N + 1024 * s + 1023) (c4 : 0 ≤ s) (c5 : 0 ≤ Y) (c6 : 0 ≤ (-1) * Y + 4294967295) : p_CF ba qn wo wf wn wc wm ws wi wl xa xb xc xd xe xf xg xh (H + (-1) * N + 1025 * s) := by
  obtain ⟨st, q1, r1, r2, np, W, pk, cf, w1, w2, w3, w4, w5, w6, w7, of, pn⟩ := p0
  unfold m_pk at pk
  obtain ⟨e2, q2, x2, n1, n2, n3, n4, n5⟩ := p1
  obtain rfl : q2 = s := by omega
  obtain rfl : e2 = q1 := by omega
  obtain rfl : st = 3 := by omega
  have n6 : q2 ≤ 900 := n5 ▸ m_sk_900 hqn.2 (by omega)
  rw [← n5] at cf
  exact ⟨3, q2, r1, r2, np, W, (by unfold m_pk; omega), cf, w1, w2, w3, w4, w5, w6, w7, of, pn⟩
theorem k_cf4 {qn : Int} {wo : Int} {wf : Int} {wn : Int} {wc : Int} {wm : Int} {ws : Int} {wi : Int} {wl : Int} {ba : Int → Int} {xa : Int → Int} {xb : Int → Int} {xc : Int → Int} {xd : Int → Int} {xe : Int → Int} {xf : Int → Int} {xg : Int → Int} {xh : Int → Int} (hqn : 0 ≤ qn ∧ qn ≤ 900) (hwo : 2 ≤ wo ∧ wo ≤ 13) (hwf : 1 ≤ wf ∧ wf ≤ 13) (hwn : 0 ≤ wn ∧ wn ≤ 96) (hwc : 0 ≤ wc ∧ wc ≤ 6) (hwm : 0 ≤ wm ∧ wm ≤ 4) (hws : 0 ≤ ws ∧ ws ≤ 6) (hwi : 0 ≤ wi ∧ wi ≤ 8) (hba : ∀ i, -128 ≤ ba i ∧ ba i ≤ 127) (hxe : ∀ i, 0 ≤ xe i ∧ xe i ≤ 12) {H N s Y : Int} (p0 : p_RDX ba qn wo wf wn wc wm ws wi wl xa xb xc xd xe xf xg xh (H)) (p1 : p_NX ba qn (N)) (c0 : 0 ≤ H + (-1) * N + 1024 * s + (-65536) * Y + (-4096)) (c1 : 0 ≤ 65536 * Y + (-1) * H + N + (-1024) * s + 4096) (c2 : 0 ≤ N + (-1024) * s) (c3 : 0 ≤ (-1) * N + 1024 * s + 1023) (c4 : 0 ≤ s) (c5 : 0 ≤ Y) (c6 : 0 ≤ (-1) * Y + 4294967295) : p_CF ba qn wo wf wn wc wm ws wi wl xa xb xc xd xe xf xg xh (H + (-1) * N + 1025 * s) := by
  obtain ⟨st, q1, r1, r2, np, W, pk, cf, w1, w2, w3, w4, w5, w6, w7, of, pn⟩ := p0
  unfold m_pk at pk
  obtain ⟨e2, q2, x2, n1, n2, n3, n4, n5⟩ := p1
  obtain rfl : q2 = s := by omega
  obtain rfl : e2 = q1 := by omega
  obtain rfl : st = 4 := by omega
  have n6 : q2 ≤ 900 := n5 ▸ m_sk_900 hqn.2 (by omega)
  rw [← n5] at cf
  exact ⟨4, q2, r1, r2, np, W, (by unfold m_pk; omega), cf, w1, w2, w3, w4, w5, w6, w7, of, pn⟩
theorem k_cf5 {qn : Int} {wo : Int} {wf : Int} {wn : Int} {wc : Int} {wm : Int} {ws : Int} {wi : Int} {wl : Int} {ba : Int → Int} {xa : Int → Int} {xb : Int → Int} {xc : Int → Int} {xd : Int → Int} {xe : Int → Int} {xf : Int → Int} {xg : Int → Int} {xh : Int → Int} (hqn : 0 ≤ qn ∧ qn ≤ 900) (hwo : 2 ≤ wo ∧ wo ≤ 13) (hwf : 1 ≤ wf ∧ wf ≤ 13) (hwn : 0 ≤ wn ∧ wn ≤ 96) (hwc : 0 ≤ wc ∧ wc ≤ 6) (hwm : 0 ≤ wm ∧ wm ≤ 4) (hws : 0 ≤ ws ∧ ws ≤ 6) (hwi : 0 ≤ wi ∧ wi ≤ 8) (hba : ∀ i, -128 ≤ ba i ∧ ba i ≤ 127) (hxe : ∀ i, 0 ≤ xe i ∧ xe i ≤ 12) {H N s Y : Int} (p0 : p_RDX ba qn wo wf wn wc wm ws wi wl xa xb xc xd xe xf xg xh (H)) (p1 : p_NX ba qn (N)) (c0 : 0 ≤ H + (-1) * N + 1024 * s + (-65536) * Y + (-5120)) (c1 : 0 ≤ 65536 * Y + (-1) * H + N + (-1024) * s + 5120) (c2 : 0 ≤ N + (-1024) * s) (c3 : 0 ≤ (-1) * N + 1024 * s + 1023) (c4 : 0 ≤ s) (c5 : 0 ≤ Y) (c6 : 0 ≤ (-1) * Y + 4294967295) : p_CF ba qn wo wf wn wc wm ws wi wl xa xb xc xd xe xf xg xh (H + (-1) * N + 1025 * s) := by
  obtain ⟨st, q1, r1, r2, np, W, pk, cf, w1, w2, w3, w4, w5, w6, w7, of, pn⟩ := p0
  unfold m_pk at pk
  obtain ⟨e2, q2, x2, n1, n2, n3, n4, n5⟩ := p1
  obtain rfl : q2 = s := by omega
  obtain rfl : e2 = q1 := by omega
  obtain rfl : st = 5 := by omega
  have n6 : q2 ≤ 900 := n5 ▸ m_sk_900 hqn.2 (by omega)
  rw [← n5] at cf
  exact ⟨5, q2, r1, r2, np, W, (by unfold m_pk; omega), cf, w1, w2, w3, w4, w5, w6, w7, of, pn⟩
theorem k_cf6 {qn : Int} {wo : Int} {wf : Int} {wn : Int} {wc : Int} {wm : Int} {ws : Int} {wi : Int} {wl : Int} {ba : Int → Int} {xa : Int → Int} {xb : Int → Int} {xc : Int → Int} {xd : Int → Int} {xe : Int → Int} {xf : Int → Int} {xg : Int → Int} {xh : Int → Int} (hqn : 0 ≤ qn ∧ qn ≤ 900) (hwo : 2 ≤ wo ∧ wo ≤ 13) (hwf : 1 ≤ wf ∧ wf ≤ 13) (hwn : 0 ≤ wn ∧ wn ≤ 96) (hwc : 0 ≤ wc ∧ wc ≤ 6) (hwm : 0 ≤ wm ∧ wm ≤ 4) (hws : 0 ≤ ws ∧ ws ≤ 6) (hwi : 0 ≤ wi ∧ wi ≤ 8) (hba : ∀ i, -128 ≤ ba i ∧ ba i ≤ 127) (hxe : ∀ i, 0 ≤ xe i ∧ xe i ≤ 12) {H N s Y : Int} (p0 : p_RDX ba qn wo wf wn wc wm ws wi wl xa xb xc xd xe xf xg xh (H)) (p1 : p_NX ba qn (N)) (c0 : 0 ≤ H + (-1) * N + 1024 * s + (-65536) * Y + (-6144)) (c1 : 0 ≤ 65536 * Y + (-1) * H + N + (-1024) * s + 6144) (c2 : 0 ≤ N + (-1024) * s) (c3 : 0 ≤ (-1) * N + 1024 * s + 1023) (c4 : 0 ≤ s) (c5 : 0 ≤ Y) (c6 : 0 ≤ (-1) * Y + 4294967295) : p_CF ba qn wo wf wn wc wm ws wi wl xa xb xc xd xe xf xg xh (H + (-1) * N + 1025 * s) := by
  obtain ⟨st, q1, r1, r2, np, W, pk, cf, w1, w2, w3, w4, w5, w6, w7, of, pn⟩ := p0
  unfold m_pk at pk
  obtain ⟨e2, q2, x2, n1, n2, n3, n4, n5⟩ := p1
  obtain rfl : q2 = s := by omega
  obtain rfl : e2 = q1 := by omega
  obtain rfl : st = 6 := by omega
  have n6 : q2 ≤ 900 := n5 ▸ m_sk_900 hqn.2 (by omega)
  rw [← n5] at cf
  exact ⟨6, q2, r1, r2, np, W, (by unfold m_pk; omega), cf, w1, w2, w3, w4, w5, w6, w7, of, pn⟩
theorem k_cf7 {qn : Int} {wo : Int} {wf : Int} {wn : Int} {wc : Int} {wm : Int} {ws : Int} {wi : Int} {wl : Int} {ba : Int → Int} {xa : Int → Int} {xb : Int → Int} {xc : Int → Int} {xd : Int → Int} {xe : Int → Int} {xf : Int → Int} {xg : Int → Int} {xh : Int → Int} (hqn : 0 ≤ qn ∧ qn ≤ 900) (hwo : 2 ≤ wo ∧ wo ≤ 13) (hwf : 1 ≤ wf ∧ wf ≤ 13) (hwn : 0 ≤ wn ∧ wn ≤ 96) (hwc : 0 ≤ wc ∧ wc ≤ 6) (hwm : 0 ≤ wm ∧ wm ≤ 4) (hws : 0 ≤ ws ∧ ws ≤ 6) (hwi : 0 ≤ wi ∧ wi ≤ 8) (hba : ∀ i, -128 ≤ ba i ∧ ba i ≤ 127) (hxe : ∀ i, 0 ≤ xe i ∧ xe i ≤ 12) {H N s Y : Int} (p0 : p_RDX ba qn wo wf wn wc wm ws wi wl xa xb xc xd xe xf xg xh (H)) (p1 : p_NX ba qn (N)) (c0 : 0 ≤ H + (-1) * N + 1024 * s + (-65536) * Y + (-7168)) (c1 : 0 ≤ 65536 * Y + (-1) * H + N + (-1024) * s + 7168) (c2 : 0 ≤ N + (-1024) * s) (c3 : 0 ≤ (-1) * N + 1024 * s + 1023) (c4 : 0 ≤ s) (c5 : 0 ≤ Y) (c6 : 0 ≤ (-1) * Y + 4294967295) : p_CF ba qn wo wf wn wc wm ws wi wl xa xb xc xd xe xf xg xh (H + (-1) * N + 1025 * s) := by
  obtain ⟨st, q1, r1, r2, np, W, pk, cf, w1, w2, w3, w4, w5, w6, w7, of, pn⟩ := p0
  unfold m_pk at pk
  obtain ⟨e2, q2, x2, n1, n2, n3, n4, n5⟩ := p1
  obtain rfl : q2 = s := by omega
  obtain rfl : e2 = q1 := by omega
  obtain rfl : st = 7 := by omega
  have n6 : q2 ≤ 900 := n5 ▸ m_sk_900 hqn.2 (by omega)
  rw [← n5] at cf
  exact ⟨7, q2, r1, r2, np, W, (by unfold m_pk; omega), cf, w1, w2, w3, w4, w5, w6, w7, of, pn⟩
theorem k_cf8 {qn : Int} {wo : Int} {wf : Int} {wn : Int} {wc : Int} {wm : Int} {ws : Int} {wi : Int} {wl : Int} {ba : Int → Int} {xa : Int → Int} {xb : Int → Int} {xc : Int → Int} {xd : Int → Int} {xe : Int → Int} {xf : Int → Int} {xg : Int → Int} {xh : Int → Int} (hqn : 0 ≤ qn ∧ qn ≤ 900) (hwo : 2 ≤ wo ∧ wo ≤ 13) (hwf : 1 ≤ wf ∧ wf ≤ 13) (hwn : 0 ≤ wn ∧ wn ≤ 96) (hwc : 0 ≤ wc ∧ wc ≤ 6) (hwm : 0 ≤ wm ∧ wm ≤ 4) (hws : 0 ≤ ws ∧ ws ≤ 6) (hwi : 0 ≤ wi ∧ wi ≤ 8) (hba : ∀ i, -128 ≤ ba i ∧ ba i ≤ 127) (hxe : ∀ i, 0 ≤ xe i ∧ xe i ≤ 12) {H N s Y : Int} (p0 : p_RDX ba qn wo wf wn wc wm ws wi wl xa xb xc xd xe xf xg xh (H)) (p1 : p_NX ba qn (N)) (c0 : 0 ≤ H + (-1) * N + 1024 * s + (-65536) * Y + (-8192)) (c1 : 0 ≤ 65536 * Y + (-1) * H + N + (-1024) * s + 8192) (c2 : 0 ≤ N + (-1024) * s) (c3 : 0 ≤ (-1) * N + 1024 * s + 1023) (c4 : 0 ≤ s) (c5 : 0 ≤ Y) (c6 : 0 ≤ (-1) * Y + 4294967295) : p_CF ba qn wo wf wn wc wm ws wi wl xa xb xc xd xe xf xg xh (H + (-1) * N + 1025 * s) := by
  obtain ⟨st, q1, r1, r2, np, W, pk, cf, w1, w2, w3, w4, w5, w6, w7, of, pn⟩ := p0
  unfold m_pk at pk
  obtain ⟨e2, q2, x2, n1, n2, n3, n4, n5⟩ := p1
  obtain rfl : q2 = s := by omega
  obtain rfl : e2 = q1 := by omega
  obtain rfl : st = 8 := by omega
  have n6 : q2 ≤ 900 := n5 ▸ m_sk_900 hqn.2 (by omega)
  rw [← n5] at cf
  exact ⟨8, q2, r1, r2, np, W, (by unfold m_pk; omega), cf, w1, w2, w3, w4, w5, w6, w7, of, pn⟩
theorem k_cf9 {qn : Int} {wo : Int} {wf : Int} {wn : Int} {wc : Int} {wm : Int} {ws : Int} {wi : Int} {wl : Int} {ba : Int → Int} {xa : Int → Int} {xb : Int → Int} {xc : Int → Int} {xd : Int → Int} {xe : Int → Int} {xf : Int → Int} {xg : Int → Int} {xh : Int → Int} (hqn : 0 ≤ qn ∧ qn ≤ 900) (hwo : 2 ≤ wo ∧ wo ≤ 13) (hwf : 1 ≤ wf ∧ wf ≤ 13) (hwn : 0 ≤ wn ∧ wn ≤ 96) (hwc : 0 ≤ wc ∧ wc ≤ 6) (hwm : 0 ≤ wm ∧ wm ≤ 4) (hws : 0 ≤ ws ∧ ws ≤ 6) (hwi : 0 ≤ wi ∧ wi ≤ 8) (hba : ∀ i, -128 ≤ ba i ∧ ba i ≤ 127) (hxe : ∀ i, 0 ≤ xe i ∧ xe i ≤ 12) {H N s Y : Int} (p0 : p_RDX ba qn wo wf wn wc wm ws wi wl xa xb xc xd xe xf xg xh (H)) (p1 : p_NX ba qn (N)) (c0 : 0 ≤ H + (-1) * N + 1024 * s + (-65536) * Y + (-9216)) (c1 : 0 ≤ 65536 * Y + (-1) * H + N + (-1024) * s + 9216) (c2 : 0 ≤ N + (-1024) * s) (c3 : 0 ≤ (-1) * N + 1024 * s + 1023) (c4 : 0 ≤ s) (c5 : 0 ≤ Y) (c6 : 0 ≤ (-1) * Y + 4294967295) : p_CF ba qn wo wf wn wc wm ws wi wl xa xb xc xd xe xf xg xh (H + (-1) * N + 1025 * s) := by
  obtain ⟨st, q1, r1, r2, np, W, pk, cf, w1, w2, w3, w4, w5, w6, w7, of, pn⟩ := p0
  unfold m_pk at pk
  obtain ⟨e2, q2, x2, n1, n2, n3, n4, n5⟩ := p1
  obtain rfl : q2 = s := by omega
  obtain rfl : e2 = q1 := by omega
  obtain rfl : st = 9 := by omega
  have n6 : q2 ≤ 900 := n5 ▸ m_sk_900 hqn.2 (by omega)
  rw [← n5] at cf
  exact ⟨9, q2, r1, r2, np, W, (by unfold m_pk; omega), cf, w1, w2, w3, w4, w5, w6, w7, of, pn⟩
theorem k_cf10 {qn : Int} {wo : Int} {wf : Int} {wn : Int} {wc : Int} {wm : Int} {ws : Int} {wi : Int} {wl : Int} {ba : Int → Int} {xa : Int → Int} {xb : Int → Int} {xc : Int → Int} {xd : Int → Int} {xe : Int → Int} {xf : Int → Int} {xg : Int → Int} {xh : Int → Int} (hqn : 0 ≤ qn ∧ qn ≤ 900) (hwo : 2 ≤ wo ∧ wo ≤ 13) (hwf : 1 ≤ wf ∧ wf ≤ 13) (hwn : 0 ≤ wn ∧ wn ≤ 96) (hwc : 0 ≤ wc ∧ wc ≤ 6) (hwm : 0 ≤ wm ∧ wm ≤ 4) (hws : 0 ≤ ws ∧ ws ≤ 6) (hwi : 0 ≤ wi ∧ wi ≤ 8) (hba : ∀ i, -128 ≤ ba i ∧ ba i ≤ 127) (hxe : ∀ i, 0 ≤ xe i ∧ xe i ≤ 12) {H N s Y : Int} (p0 : p_RDX ba qn wo wf wn wc wm ws wi wl xa xb xc xd xe xf xg xh (H)) (p1 : p_NX ba qn (N)) (c0 : 0 ≤ H + (-1) * N + 1024 * s + (-65536) * Y + (-10240)) (c1 : 0 ≤ 65536 * Y + (-1) * H + N + (-1024) * s + 10240) (c2 : 0 ≤ N + (-1024) * s) (c3 : 0 ≤ (-1) * N + 1024 * s + 1023) (c4 : 0 ≤ s) (c5 : 0 ≤ Y) (c6 : 0 ≤ (-1) * Y + 4294967295) : p_CF ba qn wo wf wn wc wm ws wi wl xa xb xc xd xe xf xg xh (H + (-1) * N + 1025 * s) := by
  obtain ⟨st, q1, r1, r2, np, W, pk, cf, w1, w2, w3, w4, w5, w6, w7, of, pn⟩ := p0
  unfold m_pk at pk
  obtain ⟨e2, q2, x2, n1, n2, n3, n4, n5⟩ := p1
  obtain rfl : q2 = s := by omega
  obtain rfl : e2 = q1 := by omega
  obtain rfl : st = 10 := by omega
  have n6 : q2 ≤ 900 := n5 ▸ m_sk_900 hqn.2 (by omega)
  rw [← n5] at cf
  exact ⟨10, q2, r1, r2, np, W, (by unfold m_pk; omega), cf, w1, w2, w3, w4, w5, w6, w7, of, pn⟩
theorem k_cf11 {qn : Int} {wo : Int} {wf : Int} {wn : Int} {wc : Int} {wm : Int} {ws : Int} {wi : Int} {wl : Int} {ba : Int → Int} {xa : Int → Int} {xb : Int → Int} {xc : Int → Int} {xd : Int → Int} {xe : Int → Int} {xf : Int → Int} {xg : Int → Int} {xh : Int → Int} (hqn : 0 ≤ qn ∧ qn ≤ 900) (hwo : 2 ≤ wo ∧ wo ≤ 13) (hwf : 1 ≤ wf ∧ wf ≤ 13) (hwn : 0 ≤ wn ∧ wn ≤ 96) (hwc : 0 ≤ wc ∧ wc ≤ 6) (hwm : 0 ≤ wm ∧ wm ≤ 4) (hws : 0 ≤ ws ∧ ws ≤ 6) (hwi : 0 ≤ wi ∧ wi ≤ 8) (hba : ∀ i, -128 ≤ ba i ∧ ba i ≤ 127) (hxe : ∀ i, 0 ≤ xe i ∧ xe i ≤ 12) {H N s Y : Int} (p0 : p_RDX ba qn wo wf wn wc wm ws wi wl xa xb xc xd xe xf xg xh (H)) (p1 : p_NX ba qn (N)) (c0 : 0 ≤ H + (-1) * N + 1024 * s + (-65536) * Y + (-11264)) (c1 : 0 ≤ 65536 * Y + (-1) * H + N + (-1024) * s + 11264) (c2 : 0 ≤ N + (-1024) * s) (c3 : 0 ≤ (-1) * N + 1024 * s + 1023) (c4 : 0 ≤ s) (c5 : 0 ≤ Y) (c6 : 0 ≤ (-1) * Y + 4294967295) : p_CF ba qn wo wf wn wc wm ws wi wl xa xb xc xd xe xf xg xh (H + (-1) * N + 1025 * s) := by
  obtain ⟨st, q1, r1, r2, np, W, pk, cf, w1, w2, w3, w4, w5, w6, w7, of, pn⟩ := p0
  unfold m_pk at pk
  obtain ⟨e2, q2, x2, n1, n2, n3, n4, n5⟩ := p1
  obtain rfl : q2 = s := by omega
  obtain rfl : e2 = q1 := by omega
  obtain rfl : st = 11 := by omega
  have n6 : q2 ≤ 900 := n5 ▸ m_sk_900 hqn.2 (by omega)
  rw [← n5] at cf
  exact ⟨11, q2, r1, r2, np, W, (by unfold m_pk; omega), cf, w1, w2, w3, w4, w5, w6, w7, of, pn⟩
theorem k_cf12 {qn : Int} {wo : Int} {wf : Int} {wn : Int} {wc : Int} {wm : Int} {ws : Int} {wi : Int} {wl : Int} {ba : Int → Int} {xa : Int → Int} {xb : Int → Int} {xc : Int → Int} {xd : Int → Int} {xe : Int → Int} {xf : Int → Int} {xg : Int → Int} {xh : Int → Int} (hqn : 0 ≤ qn ∧ qn ≤ 900) (hwo : 2 ≤ wo ∧ wo ≤ 13) (hwf : 1 ≤ wf ∧ wf ≤ 13) (hwn : 0 ≤ wn ∧ wn ≤ 96) (hwc : 0 ≤ wc ∧ wc ≤ 6) (hwm : 0 ≤ wm ∧ wm ≤ 4) (hws : 0 ≤ ws ∧ ws ≤ 6) (hwi : 0 ≤ wi ∧ wi ≤ 8) (hba : ∀ i, -128 ≤ ba i ∧ ba i ≤ 127) (hxe : ∀ i, 0 ≤ xe i ∧ xe i ≤ 12) {H N s Y : Int} (p0 : p_RDX ba qn wo wf wn wc wm ws wi wl xa xb xc xd xe xf xg xh (H)) (p1 : p_NX ba qn (N)) (c0 : 0 ≤ H + (-1) * N + 1024 * s + (-65536) * Y + (-12288)) (c1 : 0 ≤ 65536 * Y + (-1) * H + N + (-1024) * s + 12288) (c2 : 0 ≤ N + (-1024) * s) (c3 : 0 ≤ (-1) * N + 1024 * s + 1023) (c4 : 0 ≤ s) (c5 : 0 ≤ Y) (c6 : 0 ≤ (-1) * Y + 4294967295) : p_CF ba qn wo wf wn wc wm ws wi wl xa xb xc xd xe xf xg xh (H + (-1) * N + 1025 * s) := by
  obtain ⟨st, q1, r1, r2, np, W, pk, cf, w1, w2, w3, w4, w5, w6, w7, of, pn⟩ := p0
  unfold m_pk at pk
  obtain ⟨e2, q2, x2, n1, n2, n3, n4, n5⟩ := p1
  obtain rfl : q2 = s := by omega
  obtain rfl : e2 = q1 := by omega
  obtain rfl : st = 12 := by omega
  have n6 : q2 ≤ 900 := n5 ▸ m_sk_900 hqn.2 (by omega)
  rw [← n5] at cf
  exact ⟨12, q2, r1, r2, np, W, (by unfold m_pk; omega), cf, w1, w2, w3, w4, w5, w6, w7, of, pn⟩
theorem k_cf13 {qn : Int} {wo : Int} {wf : Int} {wn : Int} {wc : Int} {wm : Int} {ws : Int} {wi : Int} {wl : Int} {ba : Int → Int} {xa : Int → Int} {xb : Int → Int} {xc : Int → Int} {xd : Int → Int} {xe : Int → Int} {xf : Int → Int} {xg : Int → Int} {xh : Int → Int} (hqn : 0 ≤ qn ∧ qn ≤ 900) (hwo : 2 ≤ wo ∧ wo ≤ 13) (hwf : 1 ≤ wf ∧ wf ≤ 13) (hwn : 0 ≤ wn ∧ wn ≤ 96) (hwc : 0 ≤ wc ∧ wc ≤ 6) (hwm : 0 ≤ wm ∧ wm ≤ 4) (hws : 0 ≤ ws ∧ ws ≤ 6) (hwi : 0 ≤ wi ∧ wi ≤ 8) (hba : ∀ i, -128 ≤ ba i ∧ ba i ≤ 127) (hxe : ∀ i, 0 ≤ xe i ∧ xe i ≤ 12) {H N s Y : Int} (p0 : p_RDX ba qn wo wf wn wc wm ws wi wl xa xb xc xd xe xf xg xh (H)) (p1 : p_NX ba qn (N)) (c0 : 0 ≤ H + (-1) * N + 1024 * s + (-65536) * Y + (-13312)) (c1 : 0 ≤ 65536 * Y + (-1) * H + N + (-1024) * s + 13312) (c2 : 0 ≤ N + (-1024) * s) (c3 : 0 ≤ (-1) * N + 1024 * s + 1023) (c4 : 0 ≤ s) (c5 : 0 ≤ Y) (c6 : 0 ≤ (-1) * Y + 4294967295) : p_CF ba qn wo wf wn wc wm ws wi wl xa xb xc xd xe xf xg xh (H + (-1) * N + 1025 * s) := by
  obtain ⟨st, q1, r1, r2, np, W, pk, cf, w1, w2, w3, w4, w5, w6, w7, of, pn⟩ := p0
  unfold m_pk at pk
  obtain ⟨e2, q2, x2, n1, n2, n3, n4, n5⟩ := p1
  obtain rfl : q2 = s := by omega
  obtain rfl : e2 = q1 := by omega
  obtain rfl : st = 13 := by omega
  have n6 : q2 ≤ 900 := n5 ▸ m_sk_900 hqn.2 (by omega)
  rw [← n5] at cf
  exact ⟨13, q2, r1, r2, np, W, (by unfold m_pk; omega), cf, w1, w2, w3, w4, w5, w6, w7, of, pn⟩
theorem k_cf14 {qn : Int} {wo : Int} {wf : Int} {wn : Int} {wc : Int} {wm : Int} {ws : Int} {wi : Int} {wl : Int} {ba : Int → Int} {xa : Int → Int} {xb : Int → Int} {xc : Int → Int} {xd : Int → Int} {xe : Int → Int} {xf : Int → Int} {xg : Int → Int} {xh : Int → Int} (hqn : 0 ≤ qn ∧ qn ≤ 900) (hwo : 2 ≤ wo ∧ wo ≤ 13) (hwf : 1 ≤ wf ∧ wf ≤ 13) (hwn : 0 ≤ wn ∧ wn ≤ 96) (hwc : 0 ≤ wc ∧ wc ≤ 6) (hwm : 0 ≤ wm ∧ wm ≤ 4) (hws : 0 ≤ ws ∧ ws ≤ 6) (hwi : 0 ≤ wi ∧ wi ≤ 8) (hba : ∀ i, -128 ≤ ba i ∧ ba i ≤ 127) (hxe : ∀ i, 0 ≤ xe i ∧ xe i ≤ 12) {H N s Y : Int} (p0 : p_RDX ba qn wo wf wn wc wm ws wi wl xa xb xc xd xe xf xg xh (H)) (p1 : p_NX ba qn (N)) (c0 : 0 ≤ H + (-1) * N + 1024 * s + (-65536) * Y + (-14336)) (c1 : 0 ≤ 65536 * Y + (-1) * H + N + (-1024) * s + 14336) (c2 : 0 ≤ N + (-1024) * s) (c3 : 0 ≤ (-1) * N + 1024 * s + 1023) (c4 : 0 ≤ s) (c5 : 0 ≤ Y) (c6 : 0 ≤ (-1) * Y + 4294967295) : p_CF ba qn wo wf wn wc wm ws wi wl xa xb xc xd xe xf xg xh (H + (-1) * N + 1025 * s) := by
  obtain ⟨st, q1, r1, r2, np, W, pk, cf, w1, w2, w3, w4, w5, w6, w7, of, pn⟩ := p0
  unfold m_pk at pk
  obtain ⟨e2, q2, x2, n1, n2, n3, n4, n5⟩ := p1
  obtain rfl : q2 = s := by omega
  obtain rfl : e2 = q1 := by omega
  obtain rfl : st = 14 := by omega
  have n6 : q2 ≤ 900 := n5 ▸ m_sk_900 hqn.2 (by omega)
  rw [← n5] at cf
  exact ⟨14, q2, r1, r2, np, W, (by unfold m_pk; omega), cf, w1, w2, w3, w4, w5, w6, w7, of, pn⟩
theorem k_cf15 {qn : Int} {wo : Int} {wf : Int} {wn : Int} {wc : Int} {wm : Int} {ws : Int} {wi : Int} {wl : Int} {ba : Int → Int} {xa : Int → Int} {xb : Int → Int} {xc : Int → Int} {xd : Int → Int} {xe : Int → Int} {xf : Int → Int} {xg : Int → Int} {xh : Int → Int} (hqn : 0 ≤ qn ∧ qn ≤ 900) (hwo : 2 ≤ wo ∧ wo ≤ 13) (hwf : 1 ≤ wf ∧ wf ≤ 13) (hwn : 0 ≤ wn ∧ wn ≤ 96) (hwc : 0 ≤ wc ∧ wc ≤ 6) (hwm : 0 ≤ wm ∧ wm ≤ 4) (hws : 0 ≤ ws ∧ ws ≤ 6) (hwi : 0 ≤ wi ∧ wi ≤ 8) (hba : ∀ i, -128 ≤ ba i ∧ ba i ≤ 127) (hxe : ∀ i, 0 ≤ xe i ∧ xe i ≤ 12) {H N s Y : Int} (p0 : p_RDX ba qn wo wf wn wc wm ws wi wl xa xb xc xd xe xf xg xh (H)) (p1 : p_NX ba qn (N)) (c0 : 0 ≤ H + (-1) * N + 1024 * s + (-65536) * Y + (-15360)) (c1 : 0 ≤ 65536 * Y + (-1) * H + N + (-1024) * s + 15360) (c2 : 0 ≤ N + (-1024) * s) (c3 : 0 ≤ (-1) * N + 1024 * s + 1023) (c4 : 0 ≤ s) (c5 : 0 ≤ Y) (c6 : 0 ≤ (-1) * Y + 4294967295) : p_CF ba qn wo wf wn wc wm ws wi wl xa xb xc xd xe xf xg xh (H + (-1) * N + 1025 * s) := by
  obtain ⟨st, q1, r1, r2, np, W, pk, cf, w1, w2, w3, w4, w5, w6, w7, of, pn⟩ := p0
  unfold m_pk at pk
  obtain ⟨e2, q2, x2, n1, n2, n3, n4, n5⟩ := p1
  obtain rfl : q2 = s := by omega
  obtain rfl : e2 = q1 := by omega
  obtain rfl : st = 15 := by omega
  have n6 : q2 ≤ 900 := n5 ▸ m_sk_900 hqn.2 (by omega)
  rw [← n5] at cf
  exact ⟨15, q2, r1, r2, np, W, (by unfold m_pk; omega), cf, w1, w2, w3, w4, w5, w6, w7, of, pn⟩
theorem k_cf17 {qn : Int} {wo : Int} {wf : Int} {wn : Int} {wc : Int} {wm : Int} {ws : Int} {wi : Int} {wl : Int} {ba : Int → Int} {xa : Int → Int} {xb : Int → Int} {xc : Int → Int} {xd : Int → Int} {xe : Int → Int} {xf : Int → Int} {xg : Int → Int} {xh : Int → Int} (hqn : 0 ≤ qn ∧ qn ≤ 900) (hwo : 2 ≤ wo ∧ wo ≤ 13) (hwf : 1 ≤ wf ∧ wf ≤ 13) (hwn : 0 ≤ wn ∧ wn ≤ 96) (hwc : 0 ≤ wc ∧ wc ≤ 6) (hwm : 0 ≤ wm ∧ wm ≤ 4) (hws : 0 ≤ ws ∧ ws ≤ 6) (hwi : 0 ≤ wi ∧ wi ≤ 8) (hba : ∀ i, -128 ≤ ba i ∧ ba i ≤ 127) (hxe : ∀ i, 0 ≤ xe i ∧ xe i ≤ 12) {H N s Y : Int} (p0 : p_RDX ba qn wo wf wn wc wm ws wi wl xa xb xc xd xe xf xg xh (H)) (p1 : p_NX ba qn (N)) (c0 : 0 ≤ H + (-1) * N + 1024 * s + (-65536) * Y + (-17408)) (c1 : 0 ≤ 65536 * Y + (-1) * H + N + (-1024) * s + 17408) (c2 : 0 ≤ N + (-1024) * s) (c3 : 0 ≤ (-1) * N + 1024 * s + 1023) (c4 : 0 ≤ s) (c5 : 0 ≤ Y) (c6 : 0 ≤ (-1) * Y + 4294967295) : p_CF ba qn wo wf wn wc wm ws wi wl xa xb xc xd xe xf xg xh (H + (-1) * N + 1025 * s) := by
  obtain ⟨st, q1, r1, r2, np, W, pk, cf, w1, w2, w3, w4, w5, w6, w7, of, pn⟩ := p0
  unfold m_pk at pk
  obtain ⟨e2, q2, x2, n1, n2, n3, n4, n5⟩ := p1
  obtain rfl : q2 = s := by omega
  obtain rfl : e2 = q1 := by omega
  obtain rfl : st = 17 := by omega
  have n6 : q2 ≤ 900 := n5 ▸ m_sk_900 hqn.2 (by omega)
  rw [← n5] at cf
  exact ⟨17, q2, r1, r2, np, W, (by unfold m_pk; omega), cf, w1, w2, w3, w4, w5, w6, w7, of, pn⟩
theorem k_cf18 {qn : Int} {wo : Int} {wf : Int} {wn : Int} {wc : Int} {wm : Int} {ws : Int} {wi : Int} {wl : Int} {ba : Int → Int} {xa : Int → Int} {xb : Int → Int} {xc : Int → Int} {xd : Int → Int} {xe : Int → Int} {xf : Int → Int} {xg : Int → Int} {xh : Int → Int} (hqn : 0 ≤ qn ∧ qn ≤ 900) (hwo : 2 ≤ wo ∧ wo ≤ 13) (hwf : 1 ≤ wf ∧ wf ≤ 13) (hwn : 0 ≤ wn ∧ wn ≤ 96) (hwc : 0 ≤ wc ∧ wc ≤ 6) (hwm : 0 ≤ wm ∧ wm ≤ 4) (hws : 0 ≤ ws ∧ ws ≤ 6) (hwi : 0 ≤ wi ∧ wi ≤ 8) (hba : ∀ i, -128 ≤ ba i ∧ ba i ≤ 127) (hxe : ∀ i, 0 ≤ xe i ∧ xe i ≤ 12) {H N s Y : Int} (p0 : p_RDX ba qn wo wf wn wc wm ws wi wl xa xb xc xd xe xf xg xh (H)) (p1 : p_NX ba qn (N)) (c0 : 0 ≤ H + (-1) * N + 1024 * s + (-65536) * Y + (-18432)) (c1 : 0 ≤ 65536 * Y + (-1) * H + N + (-1024) * s + 18432) (c2 : 0 ≤ N + (-1024) * s) (c3 : 0 ≤ (-1) * N + 1024 * s + 1023) (c4 : 0 ≤ s) (c5 : 0 ≤ Y) (c6 : 0 ≤ (-1) * Y + 4294967295) : p_CF ba qn wo wf wn wc wm ws wi wl xa xb xc xd xe xf xg xh (H + (-1) * N + 1025 * s) := by
  obtain ⟨st, q1, r1, r2, np, W, pk, cf, w1, w2, w3, w4, w5, w6, w7, of, pn⟩ := p0
  unfold m_pk at pk
  obtain ⟨e2, q2, x2, n1, n2, n3, n4, n5⟩ := p1
  obtain rfl : q2 = s := by omega
  obtain rfl : e2 = q1 := by omega
  obtain rfl : st = 18 := by omega
  have n6 : q2 ≤ 900 := n5 ▸ m_sk_900 hqn.2 (by omega)
  rw [← n5] at cf
  exact ⟨18, q2, r1, r2, np, W, (by unfold m_pk; omega), cf, w1, w2, w3, w4, w5, w6, w7, of, pn⟩
theorem k_cf20 {qn : Int} {wo : Int} {wf : Int} {wn : Int} {wc : Int} {wm : Int} {ws : Int} {wi : Int} {wl : Int} {ba : Int → Int} {xa : Int → Int} {xb : Int → Int} {xc : Int → Int} {xd : Int → Int} {xe : Int → Int} {xf : Int → Int} {xg : Int → Int} {xh : Int → Int} (hqn : 0 ≤ qn ∧ qn ≤ 900) (hwo : 2 ≤ wo ∧ wo ≤ 13) (hwf : 1 ≤ wf ∧ wf ≤ 13) (hwn : 0 ≤ wn ∧ wn ≤ 96) (hwc : 0 ≤ wc ∧ wc ≤ 6) (hwm : 0 ≤ wm ∧ wm ≤ 4) (hws : 0 ≤ ws ∧ ws ≤ 6) (hwi : 0 ≤ wi ∧ wi ≤ 8) (hba : ∀ i, -128 ≤ ba i ∧ ba i ≤ 127) (hxe : ∀ i, 0 ≤ xe i ∧ xe i ≤ 12) {H N s Y : Int} (p0 : p_RDX ba qn wo wf wn wc wm ws wi wl xa xb xc xd xe xf xg xh (H)) (p1 : p_NX ba qn (N)) (c0 : 0 ≤ H + (-1) * N + 1024 * s + (-65536) * Y + (-20480)) (c1 : 0 ≤ 65536 * Y + (-1) * H + N + (-1024) * s + 20480) (c2 : 0 ≤ N + (-1024) * s) (c3 : 0 ≤ (-1) * N + 1024 * s + 1023) (c4 : 0 ≤ s) (c5 : 0 ≤ Y) (c6 : 0 ≤ (-1) * Y + 4294967295) : p_CF ba qn wo wf wn wc wm ws wi wl xa xb xc xd xe xf xg xh (H + (-1) * N + 1025 * s) := by
  obtain ⟨st, q1, r1, r2, np, W, pk, cf, w1, w2, w3, w4, w5, w6, w7, of, pn⟩ := p0
  unfold m_pk at pk
  obtain ⟨e2, q2, x2, n1, n2, n3, n4, n5⟩ := p1
  obtain rfl : q2 = s := by omega
  obtain rfl : e2 = q1 := by omega
  obtain rfl : st = 20 := by omega
  have n6 : q2 ≤ 900 := n5 ▸ m_sk_900 hqn.2 (by omega)
  rw [← n5] at cf
  exact ⟨20, q2, r1, r2, np, W, (by unfold m_pk; omega), cf, w1, w2, w3, w4, w5, w6, w7, of, pn⟩
theorem k_cf21 {qn : Int} {wo : Int} {wf : Int} {wn : Int} {wc : Int} {wm : Int} {ws : Int} {wi : Int} {wl : Int} {ba : Int → Int} {xa : Int → Int} {xb : Int → Int} {xc : Int → Int} {xd : Int → Int} {xe : Int → Int} {xf : Int → Int} {xg : Int → Int} {xh : Int → Int} (hqn : 0 ≤ qn ∧ qn ≤ 900) (hwo : 2 ≤ wo ∧ wo ≤ 13) (hwf : 1 ≤ wf ∧ wf ≤ 13) (hwn : 0 ≤ wn ∧ wn ≤ 96) (hwc : 0 ≤ wc ∧ wc ≤ 6) (hwm : 0 ≤ wm ∧ wm ≤ 4) (hws : 0 ≤ ws ∧ ws ≤ 6) (hwi : 0 ≤ wi ∧ wi ≤ 8) (hba : ∀ i, -128 ≤ ba i ∧ ba i ≤ 127) (hxe : ∀ i, 0 ≤ xe i ∧ xe i ≤ 12) {H N s Y : Int} (p0 : p_RDX ba qn wo wf wn wc wm ws wi wl xa xb xc xd xe xf xg xh (H)) (p1 : p_NX ba qn (N)) (c0 : 0 ≤ H + (-1) * N + 1024 * s + (-65536) * Y + (-21504)) (c1 : 0 ≤ 65536 * Y + (-1) * H + N + (-1024) * s + 21504) (c2 : 0 ≤ N + (-1024) * s) (c3 : 0 ≤ (-1) * N + 1024 * s + 1023) (c4 : 0 ≤ s) (c5 : 0 ≤ Y) (c6 : 0 ≤ (-1) * Y + 4294967295) : p_CF ba qn wo wf wn wc wm ws wi wl xa xb xc xd xe xf xg xh (H + (-1) * N + 1025 * s) := by
  obtain ⟨st, q1, r1, r2, np, W, pk, cf, w1, w2, w3, w4, w5, w6, w7, of, pn⟩ := p0
  unfold m_pk at pk
  obtain ⟨e2, q2, x2, n1, n2, n3, n4, n5⟩ := p1
  obtain rfl : q2 = s := by omega
  obtain rfl : e2 = q1 := by omega
  obtain rfl : st = 21 := by omega
  have n6 : q2 ≤ 900 := n5 ▸ m_sk_900 hqn.2 (by omega)
  rw [← n5] at cf
  exact ⟨21, q2, r1, r2, np, W, (by unfold m_pk; omega), cf, w1, w2, w3, w4, w5, w6, w7, of, pn⟩
theorem k_cf22 {qn : Int} {wo : Int} {wf : Int} {wn : Int} {wc : Int} {wm : Int} {ws : Int} {wi : Int} {wl : Int} {ba : Int → Int} {xa : Int → Int} {xb : Int → Int} {xc : Int → Int} {xd : Int → Int} {xe : Int → Int} {xf : Int → Int} {xg : Int → Int} {xh : Int → Int} (hqn : 0 ≤ qn ∧ qn ≤ 900) (hwo : 2 ≤ wo ∧ wo ≤ 13) (hwf : 1 ≤ wf ∧ wf ≤ 13) (hwn : 0 ≤ wn ∧ wn ≤ 96) (hwc : 0 ≤ wc ∧ wc ≤ 6) (hwm : 0 ≤ wm ∧ wm ≤ 4) (hws : 0 ≤ ws ∧ ws ≤ 6) (hwi : 0 ≤ wi ∧ wi ≤ 8) (hba : ∀ i, -128 ≤ ba i ∧ ba i ≤ 127) (hxe : ∀ i, 0 ≤ xe i ∧ xe i ≤ 12) {H N s Y : Int} (p0 : p_RDX ba qn wo wf wn wc wm ws wi wl xa xb xc xd xe xf xg xh (H)) (p1 : p_NX ba qn (N)) (c0 : 0 ≤ H + (-1) * N + 1024 * s + (-65536) * Y + (-22528)) (c1 : 0 ≤ 65536 * Y + (-1) * H + N + (-1024) * s + 22528) (c2 : 0 ≤ N + (-1024) * s) (c3 : 0 ≤ (-1) * N + 1024 * s + 1023) (c4 : 0 ≤ s) (c5 : 0 ≤ Y) (c6 : 0 ≤ (-1) * Y + 4294967295) : p_CF ba qn wo wf wn wc wm ws wi wl xa xb xc xd xe xf xg xh (H + (-1) * N + 1025 * s) := by
  obtain ⟨st, q1, r1, r2, np, W, pk, cf, w1, w2, w3, w4, w5, w6, w7, of, pn⟩ := p0
  unfold m_pk at pk
  obtain ⟨e2, q2, x2, n1, n2, n3, n4, n5⟩ := p1
  obtain rfl : q2 = s := by omega
  obtain rfl : e2 = q1 := by omega
  obtain rfl : st = 22 := by omega
  have n6 : q2 ≤ 900 := n5 ▸ m_sk_900 hqn.2 (by omega)
  rw [← n5] at cf
  exact ⟨22, q2, r1, r2, np, W, (by unfold m_pk; omega), cf, w1, w2, w3, w4, w5, w6, w7, of, pn⟩
theorem k_cf23 {qn : Int} {wo : Int} {wf : Int} {wn : Int} {wc : Int} {wm : Int} {ws : Int} {wi : Int} {wl : Int} {ba : Int → Int} {xa : Int → Int} {xb : Int → Int} {xc : Int → Int} {xd : Int → Int} {xe : Int → Int} {xf : Int → Int} {xg : Int → Int} {xh : Int → Int} (hqn : 0 ≤ qn ∧ qn ≤ 900) (hwo : 2 ≤ wo ∧ wo ≤ 13) (hwf : 1 ≤ wf ∧ wf ≤ 13) (hwn : 0 ≤ wn ∧ wn ≤ 96) (hwc : 0 ≤ wc ∧ wc ≤ 6) (hwm : 0 ≤ wm ∧ wm ≤ 4) (hws : 0 ≤ ws ∧ ws ≤ 6) (hwi : 0 ≤ wi ∧ wi ≤ 8) (hba : ∀ i, -128 ≤ ba i ∧ ba i ≤ 127) (hxe : ∀ i, 0 ≤ xe i ∧ xe i ≤ 12) {H N s Y : Int} (p0 : p_RDX ba qn wo wf wn wc wm ws wi wl xa xb xc xd xe xf xg xh (H)) (p1 : p_NX ba qn (N)) (c0 : 0 ≤ H + (-1) * N + 1024 * s + (-65536) * Y + (-23552)) (c1 : 0 ≤ 65536 * Y + (-1) * H + N + (-1024) * s + 23552) (c2 : 0 ≤ N + (-1024) * s) (c3 : 0 ≤ (-1) * N + 1024 * s + 1023) (c4 : 0 ≤ s) (c5 : 0 ≤ Y) (c6 : 0 ≤ (-1) * Y + 4294967295) : p_CF ba qn wo wf wn wc wm ws wi wl xa xb xc xd xe xf xg xh (H + (-1) * N + 1025 * s) := by
  obtain ⟨st, q1, r1, r2, np, W, pk, cf, w1, w2, w3, w4, w5, w6, w7, of, pn⟩ := p0
  unfold m_pk at pk
  obtain ⟨e2, q2, x2, n1, n2, n3, n4, n5⟩ := p1
  obtain rfl : q2 = s := by omega
  obtain rfl : e2 = q1 := by omega
  obtain rfl : st = 23 := by omega
  have n6 : q2 ≤ 900 := n5 ▸ m_sk_900 hqn.2 (by omega)
  rw [← n5] at cf
  exact ⟨23, q2, r1, r2, np, W, (by unfold m_pk; omega), cf, w1, w2, w3, w4, w5, w6, w7, of, pn⟩
theorem k_cf24 {qn : Int} {wo : Int} {wf : Int} {wn : Int} {wc : Int} {wm : Int} {ws : Int} {wi : Int} {wl : Int} {ba : Int → Int} {xa : Int → Int} {xb : Int → Int} {xc : Int → Int} {xd : Int → Int} {xe : Int → Int} {xf : Int → Int} {xg : Int → Int} {xh : Int → Int} (hqn : 0 ≤ qn ∧ qn ≤ 900) (hwo : 2 ≤ wo ∧ wo ≤ 13) (hwf : 1 ≤ wf ∧ wf ≤ 13) (hwn : 0 ≤ wn ∧ wn ≤ 96) (hwc : 0 ≤ wc ∧ wc ≤ 6) (hwm : 0 ≤ wm ∧ wm ≤ 4) (hws : 0 ≤ ws ∧ ws ≤ 6) (hwi : 0 ≤ wi ∧ wi ≤ 8) (hba : ∀ i, -128 ≤ ba i ∧ ba i ≤ 127) (hxe : ∀ i, 0 ≤ xe i ∧ xe i ≤ 12) {H N s Y : Int} (p0 : p_RDX ba qn wo wf wn wc wm ws wi wl xa xb xc xd xe xf xg xh (H)) (p1 : p_NX ba qn (N)) (c0 : 0 ≤ H + (-1) * N + 1024 * s + (-65536) * Y + (-24576)) (c1 : 0 ≤ 65536 * Y + (-1) * H + N + (-1024) * s + 24576) (c2 : 0 ≤ N + (-1024) * s) (c3 : 0 ≤ (-1) * N + 1024 * s + 1023) (c4 : 0 ≤ s) (c5 : 0 ≤ Y) (c6 : 0 ≤ (-1) * Y + 4294967295) : p_CF ba qn wo wf wn wc wm ws wi wl xa xb xc xd xe xf xg xh (H + (-1) * N + 1025 * s) := by
  obtain ⟨st, q1, r1, r2, np, W, pk, cf, w1, w2, w3, w4, w5, w6, w7, of, pn⟩ := p0
  unfold m_pk at pk
  obtain ⟨e2, q2, x2, n1, n2, n3, n4, n5⟩ := p1
  obtain rfl : q2 = s := by omega
  obtain rfl : e2 = q1 := by omega
  obtain rfl : st = 24 := by omega
  have n6 : q2 ≤ 900 := n5 ▸ m_sk_900 hqn.2 (by omega)
  rw [← n5] at cf
  exact ⟨24, q2, r1, r2, np, W, (by unfold m_pk; omega), cf, w1, w2, w3, w4, w5, w6, w7, of, pn⟩
theorem k_cf25 {qn : Int} {wo : Int} {wf : Int} {wn : Int} {wc : Int} {wm : Int} {ws : Int} {wi : Int} {wl : Int} {ba : Int → Int} {xa : Int → Int} {xb : Int → Int} {xc : Int → Int} {xd : Int → Int} {xe : Int → Int} {xf : Int → Int} {xg : Int → Int} {xh : Int → Int} (hqn : 0 ≤ qn ∧ qn ≤ 900) (hwo : 2 ≤ wo ∧ wo ≤ 13) (hwf : 1 ≤ wf ∧ wf ≤ 13) (hwn : 0 ≤ wn ∧ wn ≤ 96) (hwc : 0 ≤ wc ∧ wc ≤ 6) (hwm : 0 ≤ wm ∧ wm ≤ 4) (hws : 0 ≤ ws ∧ ws ≤ 6) (hwi : 0 ≤ wi ∧ wi ≤ 8) (hba : ∀ i, -128 ≤ ba i ∧ ba i ≤ 127) (hxe : ∀ i, 0 ≤ xe i ∧ xe i ≤ 12) {H N s Y : Int} (p0 : p_RDX ba qn wo wf wn wc wm ws wi wl xa xb xc xd xe xf xg xh (H)) (p1 : p_NX ba qn (N)) (c0 : 0 ≤ H + (-1) * N + 1024 * s + (-65536) * Y + (-25600)) (c1 : 0 ≤ 65536 * Y + (-1) * H + N + (-1024) * s + 25600) (c2 : 0 ≤ N + (-1024) * s) (c3 : 0 ≤ (-1) * N + 1024 * s + 1023) (c4 : 0 ≤ s) (c5 : 0 ≤ Y) (c6 : 0 ≤ (-1) * Y + 4294967295) : p_CF ba qn wo wf wn wc wm ws wi wl xa xb xc xd xe xf xg xh (H + (-1) * N + 1025 * s) := by
  obtain ⟨st, q1, r1, r2, np, W, pk, cf, w1, w2, w3, w4, w5, w6, w7, of, pn⟩ := p0
  unfold m_pk at pk
  obtain ⟨e2, q2, x2, n1, n2, n3, n4, n5⟩ := p1
  obtain rfl : q2 = s := by omega
  obtain rfl : e2 = q1 := by omega
  obtain rfl : st = 25 := by omega
  have n6 : q2 ≤ 900 := n5 ▸ m_sk_900 hqn.2 (by omega)
  rw [← n5] at cf
  exact ⟨25, q2, r1, r2, np, W, (by unfold m_pk; omega), cf, w1, w2, w3, w4, w5, w6, w7, of, pn⟩
theorem k_wd0 {qn : Int} {qk : Int} {qs : Int} {qq : Int} {qv : Int} {wo : Int} {wf : Int} {wn : Int} {wc : Int} {wm : Int} {ws : Int} {wi : Int} {wl : Int} {ba : Int → Int} {xa : Int → Int} {xb : Int → Int} {xc : Int → Int} {xd : Int → Int} {xe : Int → Int} {xf : Int → Int} {xg : Int → Int} {xh : Int → Int} (hqn : 0 ≤ qn ∧ qn ≤ 900) (hqk : 0 ≤ qk ∧ qk ≤ 4) (hqs : 0 ≤ qs ∧ qs ≤ 900) (hqq : 0 ≤ qq ∧ qq ≤ 900) (hwo : 2 ≤ wo ∧ wo ≤ 13) (hwf : 1 ≤ wf ∧ wf ≤ 13) (hwn : 0 ≤ wn ∧ wn ≤ 96) (hwc : 0 ≤ wc ∧ wc ≤ 6) (hwm : 0 ≤ wm ∧ wm ≤ 4) (hws : 0 ≤ ws ∧ ws ≤ 6) (hwi : 0 ≤ wi ∧ wi ≤ 8) (hba : ∀ i, -128 ≤ ba i ∧ ba i ≤ 127) (hxe : ∀ i, 0 ≤ xe i ∧ xe i ≤ 12) {F G s q kk Y : Int} (p0 : p_CF ba qn wo wf wn wc wm ws wi wl xa xb xc xd xe xf xg xh (F)) (p1 : p_WI ba qn (G)) (p2 : p_CU ba qk qs qq qn qv (s)) (p3 : kk = qk) (p4 : q = qq) (c0 : 0 ≤ F + (-1) * s + (-65536) * Y) (c1 : 0 ≤ s + 65536 * Y + (-1) * F) (c2 : 0 ≤ G + (-1099511627776) * s + (-493192)) (c3 : 0 ≤ 1099511627776 * s + (-1) * G + 493192) (c4 : 0 ≤ q) (c5 : 0 ≤ (-1) * q + 1023) (c6 : 0 ≤ s) (c7 : 0 ≤ (-1) * s + 900) (c8 : 0 ≤ Y) (c9 : 0 ≤ (-1) * Y + 4294967295) : p_RDX ba qn wo wf wn wc wm ws wi wl xa xb xc xd xe xf xg xh (q + 65536 * Y + 1024) := by
  obtain ⟨st, s1, r1, r2, np, W, pk, cf, w1, w2, w3, w4, w5, w6, w7, of, pn⟩ := p0
  unfold m_pk at pk
  obtain rfl : s1 = s := by omega
  obtain rfl : st = 0 := by omega
  obtain ⟨w0, s0, y1, y2, y3, y4, hw⟩ := p1
  obtain rfl : s0 = s1 := by omega
  obtain rfl : w0 = 493192 := by omega
  obtain ⟨uA, u0, u1, u2, u3⟩ := p2
  have AT := m_st_w rfl cf (by decide) hw
  rw [← u2] at AT
  exact ⟨1, qq, r1, r2, np, W, (by unfold m_pk; omega), Or.inl ⟨by decide, AT⟩, w1, w2, w3, w4, w5, w6, w7, fun h => absurd h (by decide), fun h => absurd h (by unfold m_ps; decide)⟩
theorem k_mw0a {qn : Int} {qk : Int} {qs : Int} {qq : Int} {qv : Int} {wo : Int} {wf : Int} {wn : Int} {wc : Int} {wm : Int} {ws : Int} {wi : Int} {wl : Int} {ba : Int → Int} {xa : Int → Int} {xb : Int → Int} {xc : Int → Int} {xd : Int → Int} {xe : Int → Int} {xf : Int → Int} {xg : Int → Int} {xh : Int → Int} (hqn : 0 ≤ qn ∧ qn ≤ 900) (hqk : 0 ≤ qk ∧ qk ≤ 4) (hqs : 0 ≤ qs ∧ qs ≤ 900) (hqq : 0 ≤ qq ∧ qq ≤ 900) (hwo : 2 ≤ wo ∧ wo ≤ 13) (hwf : 1 ≤ wf ∧ wf ≤ 13) (hwn : 0 ≤ wn ∧ wn ≤ 96) (hwc : 0 ≤ wc ∧ wc ≤ 6) (hwm : 0 ≤ wm ∧ wm ≤ 4) (hws : 0 ≤ ws ∧ ws ≤ 6) (hwi : 0 ≤ wi ∧ wi ≤ 8) (hba : ∀ i, -128 ≤ ba i ∧ ba i ≤ 127) (hxe : ∀ i, 0 ≤ xe i ∧ xe i ≤ 12) {F G s q kk Y : Int} (p0 : p_CF ba qn wo wf wn wc wm ws wi wl xa xb xc xd xe xf xg xh (F)) (p1 : p_NI ba qn (G)) (p2 : p_CU ba qk qs qq qn qv (s)) (p3 : kk = qk) (p4 : q = qq) (c0 : 0 ≤ F + (-1) * s + (-65536) * Y) (c1 : 0 ≤ s + 65536 * Y + (-1) * F) (c2 : 0 ≤ G + (-1099511627776) * s + (-493192)) (c3 : 0 ≤ 1099511627776 * s + (-1) * G + 493192) (c4 : 0 ≤ kk + (-1)) (c5 : 0 ≤ (-1) * kk + 1) (c6 : 0 ≤ s) (c7 : 0 ≤ (-1) * s + 900) (c8 : 0 ≤ Y) (c9 : 0 ≤ (-1) * Y + 4294967295) : p_HF ba qn (8 * s + 1) := by
  obtain ⟨st, s1, r1, r2, np, W, pk, cf, w1, w2, w3, w4, w5, w6, w7, of, pn⟩ := p0
  unfold m_pk at pk
  obtain rfl : s1 = s := by omega
  obtain rfl : st = 0 := by omega
  obtain ⟨w0, s0, y1, y2, y3, y4, hw⟩ := p1
  obtain rfl : s0 = s1 := by omega
  obtain rfl : w0 = 493192 := by omega
  obtain ⟨uA, u0, u1, u2, u3⟩ := p2
  exact ⟨1, s0, by omega, by omega, by omega, m_mp1 (m_st_wn rfl cf (by decide) hw) (by omega)⟩
theorem k_mw0b {qn : Int} {qk : Int} {qs : Int} {qq : Int} {qv : Int} {wo : Int} {wf : Int} {wn : Int} {wc : Int} {wm : Int} {ws : Int} {wi : Int} {wl : Int} {ba : Int → Int} {xa : Int → Int} {xb : Int → Int} {xc : Int → Int} {xd : Int → Int} {xe : Int → Int} {xf : Int → Int} {xg : Int → Int} {xh : Int → Int} (hqn : 0 ≤ qn ∧ qn ≤ 900) (hqk : 0 ≤ qk ∧ qk ≤ 4) (hqs : 0 ≤ qs ∧ qs ≤ 900) (hqq : 0 ≤ qq ∧ qq ≤ 900) (hwo : 2 ≤ wo ∧ wo ≤ 13) (hwf : 1 ≤ wf ∧ wf ≤ 13) (hwn : 0 ≤ wn ∧ wn ≤ 96) (hwc : 0 ≤ wc ∧ wc ≤ 6) (hwm : 0 ≤ wm ∧ wm ≤ 4) (hws : 0 ≤ ws ∧ ws ≤ 6) (hwi : 0 ≤ wi ∧ wi ≤ 8) (hba : ∀ i, -128 ≤ ba i ∧ ba i ≤ 127) (hxe : ∀ i, 0 ≤ xe i ∧ xe i ≤ 12) {F G s q kk Y : Int} (p0 : p_CF ba qn wo wf wn wc wm ws wi wl xa xb xc xd xe xf xg xh (F)) (p1 : p_NI ba qn (G)) (p2 : p_CU ba qk qs qq qn qv (s)) (p3 : kk = qk) (p4 : q = qq) (c0 : 0 ≤ F + (-1) * s + (-65536) * Y) (c1 : 0 ≤ s + 65536 * Y + (-1) * F) (c2 : 0 ≤ G + (-1099511627776) * s + (-493192)) (c3 : 0 ≤ 1099511627776 * s + (-1) * G + 493192) (c4 : 0 ≤ (-1) * kk) (c5 : 0 ≤ s) (c6 : 0 ≤ (-1) * s + 900) (c7 : 0 ≤ Y) (c8 : 0 ≤ (-1) * Y + 4294967295) : p_HF ba qn (8 * s + 2) := by
  obtain ⟨st, s1, r1, r2, np, W, pk, cf, w1, w2, w3, w4, w5, w6, w7, of, pn⟩ := p0
  unfold m_pk at pk
  obtain rfl : s1 = s := by omega
  obtain rfl : st = 0 := by omega
  obtain ⟨w0, s0, y1, y2, y3, y4, hw⟩ := p1
  obtain rfl : s0 = s1 := by omega
  obtain rfl : w0 = 493192 := by omega
  obtain ⟨uA, u0, u1, u2, u3⟩ := p2
  exact ⟨2, s0, by omega, by omega, by omega, m_mp2 (m_st_wn rfl cf (by decide) hw) (by omega)⟩
theorem k_mw0c {qn : Int} {qk : Int} {qs : Int} {qq : Int} {qv : Int} {wo : Int} {wf : Int} {wn : Int} {wc : Int} {wm : Int} {ws : Int} {wi : Int} {wl : Int} {ba : Int → Int} {xa : Int → Int} {xb : Int → Int} {xc : Int → Int} {xd : Int → Int} {xe : Int → Int} {xf : Int → Int} {xg : Int → Int} {xh : Int → Int} (hqn : 0 ≤ qn ∧ qn ≤ 900) (hqk : 0 ≤ qk ∧ qk ≤ 4) (hqs : 0 ≤ qs ∧ qs ≤ 900) (hqq : 0 ≤ qq ∧ qq ≤ 900) (hwo : 2 ≤ wo ∧ wo ≤ 13) (hwf : 1 ≤ wf ∧ wf ≤ 13) (hwn : 0 ≤ wn ∧ wn ≤ 96) (hwc : 0 ≤ wc ∧ wc ≤ 6) (hwm : 0 ≤ wm ∧ wm ≤ 4) (hws : 0 ≤ ws ∧ ws ≤ 6) (hwi : 0 ≤ wi ∧ wi ≤ 8) (hba : ∀ i, -128 ≤ ba i ∧ ba i ≤ 127) (hxe : ∀ i, 0 ≤ xe i ∧ xe i ≤ 12) {F G s q kk Y : Int} (p0 : p_CF ba qn wo wf wn wc wm ws wi wl xa xb xc xd xe xf xg xh (F)) (p1 : p_NI ba qn (G)) (p2 : p_CU ba qk qs qq qn qv (s)) (p3 : kk = qk) (p4 : q = qq) (c0 : 0 ≤ F + (-1) * s + (-65536) * Y) (c1 : 0 ≤ s + 65536 * Y + (-1) * F) (c2 : 0 ≤ G + (-1099511627776) * s + (-493192)) (c3 : 0 ≤ 1099511627776 * s + (-1) * G + 493192) (c4 : 0 ≤ kk + (-2)) (c5 : 0 ≤ s) (c6 : 0 ≤ (-1) * s + 900) (c7 : 0 ≤ Y) (c8 : 0 ≤ (-1) * Y + 4294967295) : p_HF ba qn (8 * s + 2) := by
  obtain ⟨st, s1, r1, r2, np, W, pk, cf, w1, w2, w3, w4, w5, w6, w7, of, pn⟩ := p0
  unfold m_pk at pk
  obtain rfl : s1 = s := by omega
  obtain rfl : st = 0 := by omega
  obtain ⟨w0, s0, y1, y2, y3, y4, hw⟩ := p1
  obtain rfl : s0 = s1 := by omega
  obtain rfl : w0 = 493192 := by omega
  obtain ⟨uA, u0, u1, u2, u3⟩ := p2
  exact ⟨2, s0, by omega, by omega, by omega, m_mp2 (m_st_wn rfl cf (by decide) hw) (by omega)⟩
theorem k_wd2 {qn : Int} {qk : Int} {qs : Int} {qq : Int} {qv : Int} {wo : Int} {wf : Int} {wn : Int} {wc : Int} {wm : Int} {ws : Int} {wi : Int} {wl : Int} {ba : Int → Int} {xa : Int → Int} {xb : Int → Int} {xc : Int → Int} {xd : Int → Int} {xe : Int → Int} {xf : Int → Int} {xg : Int → Int} {xh : Int → Int} (hqn : 0 ≤ qn ∧ qn ≤ 900) (hqk : 0 ≤ qk ∧ qk ≤ 4) (hqs : 0 ≤ qs ∧ qs ≤ 900) (hqq : 0 ≤ qq ∧ qq ≤ 900) (hwo : 2 ≤ wo ∧ wo ≤ 13) (hwf : 1 ≤ wf ∧ wf ≤ 13) (hwn : 0 ≤ wn ∧ wn ≤ 96) (hwc : 0 ≤ wc ∧ wc ≤ 6) (hwm : 0 ≤ wm ∧ wm ≤ 4) (hws : 0 ≤ ws ∧ ws ≤ 6) (hwi : 0 ≤ wi ∧ wi ≤ 8) (hba : ∀ i, -128 ≤ ba i ∧ ba i ≤ 127) (hxe : ∀ i, 0 ≤ xe i ∧ xe i ≤ 12) {F G s q kk Y : Int} (p0 : p_CF ba qn wo wf wn wc wm ws wi wl xa xb xc xd xe xf xg xh (F)) (p1 : p_WI ba qn (G)) (p2 : p_CU ba qk qs qq qn qv (s)) (p3 : kk = qk) (p4 : q = qq) (c0 : 0 ≤ F + (-1) * s + (-65536) * Y + (-2048)) (c1 : 0 ≤ s + 65536 * Y + (-1) * F + 2048) (c2 : 0 ≤ G + (-1099511627776) * s + (-215533)) (c3 : 0 ≤ 1099511627776 * s + (-1) * G + 215533) (c4 : 0 ≤ q) (c5 : 0 ≤ (-1) * q + 1023) (c6 : 0 ≤ s) (c7 : 0 ≤ (-1) * s + 900) (c8 : 0 ≤ Y) (c9 : 0 ≤ (-1) * Y + 4294967295) : p_RDX ba qn wo wf wn wc wm ws wi wl xa xb xc xd xe xf xg xh (q + 65536 * Y + 3072) := by
  obtain ⟨st, s1, r1, r2, np, W, pk, cf, w1, w2, w3, w4, w5, w6, w7, of, pn⟩ := p0
  unfold m_pk at pk
  obtain rfl : s1 = s := by omega
  obtain rfl : st = 2 := by omega
  obtain ⟨w0, s0, y1, y2, y3, y4, hw⟩ := p1
  obtain rfl : s0 = s1 := by omega
  obtain rfl : w0 = 215533 := by omega
  obtain ⟨uA, u0, u1, u2, u3⟩ := p2
  have AT := m_st_w rfl cf (by decide) hw
  rw [← u2] at AT
  exact ⟨3, qq, r1, r2, np, W, (by unfold m_pk; omega), Or.inl ⟨by decide, AT⟩, w1, w2, w3, w4, w5, w6, w7, fun h => absurd h (by decide), fun h => absurd h (by unfold m_ps; decide)⟩
theorem k_mw2a {qn : Int} {qk : Int} {qs : Int} {qq : Int} {qv : Int} {wo : Int} {wf : Int} {wn : Int} {wc : Int} {wm : Int} {ws : Int} {wi : Int} {wl : Int} {ba : Int → Int} {xa : Int → Int} {xb : Int → Int} {xc : Int → Int} {xd : Int → Int} {xe : Int → Int} {xf : Int → Int} {xg : Int → Int} {xh : Int → Int} (hqn : 0 ≤ qn ∧ qn ≤ 900) (hqk : 0 ≤ qk ∧ qk ≤ 4) (hqs : 0 ≤ qs ∧ qs ≤ 900) (hqq : 0 ≤ qq ∧ qq ≤ 900) (hwo : 2 ≤ wo ∧ wo ≤ 13) (hwf : 1 ≤ wf ∧ wf ≤ 13) (hwn : 0 ≤ wn ∧ wn ≤ 96) (hwc : 0 ≤ wc ∧ wc ≤ 6) (hwm : 0 ≤ wm ∧ wm ≤ 4) (hws : 0 ≤ ws ∧ ws ≤ 6) (hwi : 0 ≤ wi ∧ wi ≤ 8) (hba : ∀ i, -128 ≤ ba i ∧ ba i ≤ 127) (hxe : ∀ i, 0 ≤ xe i ∧ xe i ≤ 12) {F G s q kk Y : Int} (p0 : p_CF ba qn wo wf wn wc wm ws wi wl xa xb xc xd xe xf xg xh (F)) (p1 : p_NI ba qn (G)) (p2 : p_CU ba qk qs qq qn qv (s)) (p3 : kk = qk) (p4 : q = qq) (c0 : 0 ≤ F + (-1) * s + (-65536) * Y + (-2048)) (c1 : 0 ≤ s + 65536 * Y + (-1) * F + 2048) (c2 : 0 ≤ G + (-1099511627776) * s + (-215533)) (c3 : 0 ≤ 1099511627776 * s + (-1) * G + 215533) (c4 : 0 ≤ kk + (-1)) (c5 : 0 ≤ (-1) * kk + 1) (c6 : 0 ≤ s) (c7 : 0 ≤ (-1) * s + 900) (c8 : 0 ≤ Y) (c9 : 0 ≤ (-1) * Y + 4294967295) : p_HF ba qn (8 * s + 1) := by
  obtain ⟨st, s1, r1, r2, np, W, pk, cf, w1, w2, w3, w4, w5, w6, w7, of, pn⟩ := p0
  unfold m_pk at pk
  obtain rfl : s1 = s := by omega
  obtain rfl : st = 2 := by omega
  obtain ⟨w0, s0, y1, y2, y3, y4, hw⟩ := p1
  obtain rfl : s0 = s1 := by omega
  obtain rfl : w0 = 215533 := by omega
  obtain ⟨uA, u0, u1, u2, u3⟩ := p2
  exact ⟨1, s0, by omega, by omega, by omega, m_mp1 (m_st_wn rfl cf (by decide) hw) (by omega)⟩
theorem k_mw2b {qn : Int} {qk : Int} {qs : Int} {qq : Int} {qv : Int} {wo : Int} {wf : Int} {wn : Int} {wc : Int} {wm : Int} {ws : Int} {wi : Int} {wl : Int} {ba : Int → Int} {xa : Int → Int} {xb : Int → Int} {xc : Int → Int} {xd : Int → Int} {xe : Int → Int} {xf : Int → Int} {xg : Int → Int} {xh : Int → Int} (hqn : 0 ≤ qn ∧ qn ≤ 900) (hqk : 0 ≤ qk ∧ qk ≤ 4) (hqs : 0 ≤ qs ∧ qs ≤ 900) (hqq : 0 ≤ qq ∧ qq ≤ 900) (hwo : 2 ≤ wo ∧ wo ≤ 13) (hwf : 1 ≤ wf ∧ wf ≤ 13) (hwn : 0 ≤ wn ∧ wn ≤ 96) (hwc : 0 ≤ wc ∧ wc ≤ 6) (hwm : 0 ≤ wm ∧ wm ≤ 4) (hws : 0 ≤ ws ∧ ws ≤ 6) (hwi : 0 ≤ wi ∧ wi ≤ 8) (hba : ∀ i, -128 ≤ ba i ∧ ba i ≤ 127) (hxe : ∀ i, 0 ≤ xe i ∧ xe i ≤ 12) {F G s q kk Y : Int} (p0 : p_CF ba qn wo wf wn wc wm ws wi wl xa xb xc xd xe xf xg xh (F)) (p1 : p_NI ba qn (G)) (p2 : p_CU ba qk qs qq qn qv (s)) (p3 : kk = qk) (p4 : q = qq) (c0 : 0 ≤ F + (-1) * s + (-65536) * Y + (-2048)) (c1 : 0 ≤ s + 65536 * Y + (-1) * F + 2048) (c2 : 0 ≤ G + (-1099511627776) * s + (-215533)) (c3 : 0 ≤ 1099511627776 * s + (-1) * G + 215533) (c4 : 0 ≤ (-1) * kk) (c5 : 0 ≤ s) (c6 : 0 ≤ (-1) * s + 900) (c7 : 0 ≤ Y) (c8 : 0 ≤ (-1) * Y + 4294967295) : p_HF ba qn (8 * s + 2) := by
  obtain ⟨st, s1, r1, r2, np, W, pk, cf, w1, w2, w3, w4, w5, w6, w7, of, pn⟩ := p0
  unfold m_pk at pk
  obtain rfl : s1 = s := by omega
  obtain rfl : st = 2 := by omega
  obtain ⟨w0, s0, y1, y2, y3, y4, hw⟩ := p1
  obtain rfl : s0 = s1 := by omega
  obtain rfl : w0 = 215533 := by omega
  obtain ⟨uA, u0, u1, u2, u3⟩ := p2
  exact ⟨2, s0, by omega, by omega, by omega, m_mp2 (m_st_wn rfl cf (by decide) hw) (by omega)⟩
theorem k_mw2c {qn : Int} {qk : Int} {qs : Int} {qq : Int} {qv : Int} {wo : Int} {wf : Int} {wn : Int} {wc : Int} {wm : Int} {ws : Int} {wi : Int} {wl : Int} {ba : Int → Int} {xa : Int → Int} {xb : Int → Int} {xc : Int → Int} {xd : Int → Int} {xe : Int → Int} {xf : Int → Int} {xg : Int → Int} {xh : Int → Int} (hqn : 0 ≤ qn ∧ qn ≤ 900) (hqk : 0 ≤ qk ∧ qk ≤ 4) (hqs : 0 ≤ qs ∧ qs ≤ 900) (hqq : 0 ≤ qq ∧ qq ≤ 900) (hwo : 2 ≤ wo ∧ wo ≤ 13) (hwf : 1 ≤ wf ∧ wf ≤ 13) (hwn : 0 ≤ wn ∧ wn ≤ 96) (hwc : 0 ≤ wc ∧ wc ≤ 6) (hwm : 0 ≤ wm ∧ wm ≤ 4) (hws : 0 ≤ ws ∧ ws ≤ 6) (hwi : 0 ≤ wi ∧ wi ≤ 8) (hba : ∀ i, -128 ≤ ba i ∧ ba i ≤ 127) (hxe : ∀ i, 0 ≤ xe i ∧ xe i ≤ 12) {F G s q kk Y : Int} (p0 : p_CF ba qn wo wf wn wc wm ws wi wl xa xb xc xd xe xf xg xh (F)) (p1 : p_NI ba qn (G)) (p2 : p_CU ba qk qs qq qn qv (s)) (p3 : kk = qk) (p4 : q = qq) (c0 : 0 ≤ F + (-1) * s + (-65536) * Y + (-2048)) (c1 : 0 ≤ s + 65536 * Y + (-1) * F + 2048) (c2 : 0 ≤ G + (-1099511627776) * s + (-215533)) (c3 : 0 ≤ 1099511627776 * s + (-1) * G + 215533) (c4 : 0 ≤ kk + (-2)) (c5 : 0 ≤ s) (c6 : 0 ≤ (-1) * s + 900) (c7 : 0 ≤ Y) (c8 : 0 ≤ (-1) * Y + 4294967295) : p_HF ba qn (8 * s + 2) := by
  obtain ⟨st, s1, r1, r2, np, W, pk, cf, w1, w2, w3, w4, w5, w6, w7, of, pn⟩ := p0
  unfold m_pk at pk
  obtain rfl : s1 = s := by omega
  obtain rfl : st = 2 := by omega
  obtain ⟨w0, s0, y1, y2, y3, y4, hw⟩ := p1
  obtain rfl : s0 = s1 := by omega
  obtain rfl : w0 = 215533 := by omega
  obtain ⟨uA, u0, u1, u2, u3⟩ := p2
  exact ⟨2, s0, by omega, by omega, by omega, m_mp2 (m_st_wn rfl cf (by decide) hw) (by omega)⟩
theorem k_wd11 {qn : Int} {qk : Int} {qs : Int} {qq : Int} {qv : Int} {wo : Int} {wf : Int} {wn : Int} {wc : Int} {wm : Int} {ws : Int} {wi : Int} {wl : Int} {ba : Int → Int} {xa : Int → Int} {xb : Int → Int} {xc : Int → Int} {xd : Int → Int} {xe : Int → Int} {xf : Int → Int} {xg : Int → Int} {xh : Int → Int} (hqn : 0 ≤ qn ∧ qn ≤ 900) (hqk : 0 ≤ qk ∧ qk ≤ 4) (hqs : 0 ≤ qs ∧ qs ≤ 900) (hqq : 0 ≤ qq ∧ qq ≤ 900) (hwo : 2 ≤ wo ∧ wo ≤ 13) (hwf : 1 ≤ wf ∧ wf ≤ 13) (hwn : 0 ≤ wn ∧ wn ≤ 96) (hwc : 0 ≤ wc ∧ wc ≤ 6) (hwm : 0 ≤ wm ∧ wm ≤ 4) (hws : 0 ≤ ws ∧ ws ≤ 6) (hwi : 0 ≤ wi ∧ wi ≤ 8) (hba : ∀ i, -128 ≤ ba i ∧ ba i ≤ 127) (hxe : ∀ i, 0 ≤ xe i ∧ xe i ≤ 12) {F G s q kk Y : Int} (p0 : p_CF ba qn wo wf wn wc wm ws wi wl xa xb xc xd xe xf xg xh (F)) (p1 : p_WI ba qn (G)) (p2 : p_CU ba qk qs qq qn qv (s)) (p3 : kk = qk) (p4 : q = qq) (c0 : 0 ≤ F + (-1) * s + (-65536) * Y + (-11264)) (c1 : 0 ≤ s + 65536 * Y + (-1) * F + 11264) (c2 : 0 ≤ G + (-1099511627776) * s + (-395059)) (c3 : 0 ≤ 1099511627776 * s + (-1) * G + 395059) (c4 : 0 ≤ q) (c5 : 0 ≤ (-1) * q + 1023) (c6 : 0 ≤ s) (c7 : 0 ≤ (-1) * s + 900) (c8 : 0 ≤ Y) (c9 : 0 ≤ (-1) * Y + 4294967295) : p_RDX ba qn wo wf wn wc wm ws wi wl xa xb xc xd xe xf xg xh (q + 65536 * Y + 12288) := by
  obtain ⟨st, s1, r1, r2, np, W, pk, cf, w1, w2, w3, w4, w5, w6, w7, of, pn⟩ := p0
  unfold m_pk at pk
  obtain rfl : s1 = s := by omega
  obtain rfl : st = 11 := by omega
  obtain ⟨w0, s0, y1, y2, y3, y4, hw⟩ := p1
  obtain rfl : s0 = s1 := by omega
  obtain rfl : w0 = 395059 := by omega
  obtain ⟨uA, u0, u1, u2, u3⟩ := p2
  have AT := m_st_w rfl cf (by decide) hw
  rw [← u2] at AT
  exact ⟨12, qq, r1, r2, np, W, (by unfold m_pk; omega), Or.inl ⟨by decide, AT⟩, w1, w2, w3, w4, w5, w6, w7, fun _ => of (by decide), fun _ => pn (by unfold m_ps; decide)⟩
theorem k_mw11a {qn : Int} {qk : Int} {qs : Int} {qq : Int} {qv : Int} {wo : Int} {wf : Int} {wn : Int} {wc : Int} {wm : Int} {ws : Int} {wi : Int} {wl : Int} {ba : Int → Int} {xa : Int → Int} {xb : Int → Int} {xc : Int → Int} {xd : Int → Int} {xe : Int → Int} {xf : Int → Int} {xg : Int → Int} {xh : Int → Int} (hqn : 0 ≤ qn ∧ qn ≤ 900) (hqk : 0 ≤ qk ∧ qk ≤ 4) (hqs : 0 ≤ qs ∧ qs ≤ 900) (hqq : 0 ≤ qq ∧ qq ≤ 900) (hwo : 2 ≤ wo ∧ wo ≤ 13) (hwf : 1 ≤ wf ∧ wf ≤ 13) (hwn : 0 ≤ wn ∧ wn ≤ 96) (hwc : 0 ≤ wc ∧ wc ≤ 6) (hwm : 0 ≤ wm ∧ wm ≤ 4) (hws : 0 ≤ ws ∧ ws ≤ 6) (hwi : 0 ≤ wi ∧ wi ≤ 8) (hba : ∀ i, -128 ≤ ba i ∧ ba i ≤ 127) (hxe : ∀ i, 0 ≤ xe i ∧ xe i ≤ 12) {F G s q kk Y : Int} (p0 : p_CF ba qn wo wf wn wc wm ws wi wl xa xb xc xd xe xf xg xh (F)) (p1 : p_NI ba qn (G)) (p2 : p_CU ba qk qs qq qn qv (s)) (p3 : kk = qk) (p4 : q = qq) (c0 : 0 ≤ F + (-1) * s + (-65536) * Y + (-11264)) (c1 : 0 ≤ s + 65536 * Y + (-1) * F + 11264) (c2 : 0 ≤ G + (-1099511627776) * s + (-395059)) (c3 : 0 ≤ 1099511627776 * s + (-1) * G + 395059) (c4 : 0 ≤ kk + (-1)) (c5 : 0 ≤ (-1) * kk + 1) (c6 : 0 ≤ s) (c7 : 0 ≤ (-1) * s + 900) (c8 : 0 ≤ Y) (c9 : 0 ≤ (-1) * Y + 4294967295) : p_HF ba qn (8 * s + 1) := by
  obtain ⟨st, s1, r1, r2, np, W, pk, cf, w1, w2, w3, w4, w5, w6, w7, of, pn⟩ := p0
  unfold m_pk at pk
  obtain rfl : s1 = s := by omega
  obtain rfl : st = 11 := by omega
  obtain ⟨w0, s0, y1, y2, y3, y4, hw⟩ := p1
  obtain rfl : s0 = s1 := by omega
  obtain rfl : w0 = 395059 := by omega
  obtain ⟨uA, u0, u1, u2, u3⟩ := p2
  exact ⟨1, s0, by omega, by omega, by omega, m_mp1 (m_st_wn rfl cf (by decide) hw) (by omega)⟩
theorem k_mw11b {qn : Int} {qk : Int} {qs : Int} {qq : Int} {qv : Int} {wo : Int} {wf : Int} {wn : Int} {wc : Int} {wm : Int} {ws : Int} {wi : Int} {wl : Int} {ba : Int → Int} {xa : Int → Int} {xb : Int → Int} {xc : Int → Int} {xd : Int → Int} {xe : Int → Int} {xf : Int → Int} {xg : Int → Int} {xh : Int → Int} (hqn : 0 ≤ qn ∧ qn ≤ 900) (hqk : 0 ≤ qk ∧ qk ≤ 4) (hqs : 0 ≤ qs ∧ qs ≤ 900) (hqq : 0 ≤ qq ∧ qq ≤ 900) (hwo : 2 ≤ wo ∧ wo ≤ 13) (hwf : 1 ≤ wf ∧ wf ≤ 13) (hwn : 0 ≤ wn ∧ wn ≤ 96) (hwc : 0 ≤ wc ∧ wc ≤ 6) (hwm : 0 ≤ wm ∧ wm ≤ 4) (hws : 0 ≤ ws ∧ ws ≤ 6) (hwi : 0 ≤ wi ∧ wi ≤ 8) (hba : ∀ i, -128 ≤ ba i ∧ ba i ≤ 127) (hxe : ∀ i, 0 ≤ xe i ∧ xe i ≤ 12) {F G s q kk Y : Int} (p0 : p_CF ba qn wo wf wn wc wm ws wi wl xa xb xc xd xe xf xg xh (F)) (p1 : p_NI ba qn (G)) (p2 : p_CU ba qk qs qq qn qv (s)) (p3 : kk = qk) (p4 : q = qq) (c0 : 0 ≤ F + (-1) * s + (-65536) * Y + (-11264)) (c1 : 0 ≤ s + 65536 * Y + (-1) * F + 11264) (c2 : 0 ≤ G + (-1099511627776) * s + (-395059)) (c3 : 0 ≤ 1099511627776 * s + (-1) * G + 395059) (c4 : 0 ≤ (-1) * kk) (c5 : 0 ≤ s) (c6 : 0 ≤ (-1) * s + 900) (c7 : 0 ≤ Y) (c8 : 0 ≤ (-1) * Y + 4294967295) : p_HF ba qn (8 * s + 2) := by
  obtain ⟨st, s1, r1, r2, np, W, pk, cf, w1, w2, w3, w4, w5, w6, w7, of, pn⟩ := p0
  unfold m_pk at pk
  obtain rfl : s1 = s := by omega
  obtain rfl : st = 11 := by omega
  obtain ⟨w0, s0, y1, y2, y3, y4, hw⟩ := p1
  obtain rfl : s0 = s1 := by omega
  obtain rfl : w0 = 395059 := by omega
  obtain ⟨uA, u0, u1, u2, u3⟩ := p2
  exact ⟨2, s0, by omega, by omega, by omega, m_mp2 (m_st_wn rfl cf (by decide) hw) (by omega)⟩
theorem k_mw11c {qn : Int} {qk : Int} {qs : Int} {qq : Int} {qv : Int} {wo : Int} {wf : Int} {wn : Int} {wc : Int} {wm : Int} {ws : Int} {wi : Int} {wl : Int} {ba : Int → Int} {xa : Int → Int} {xb : Int → Int} {xc : Int → Int} {xd : Int → Int} {xe : Int → Int} {xf : Int → Int} {xg : Int → Int} {xh : Int → Int} (hqn : 0 ≤ qn ∧ qn ≤ 900) (hqk : 0 ≤ qk ∧ qk ≤ 4) (hqs : 0 ≤ qs ∧ qs ≤ 900) (hqq : 0 ≤ qq ∧ qq ≤ 900) (hwo : 2 ≤ wo ∧ wo ≤ 13) (hwf : 1 ≤ wf ∧ wf ≤ 13) (hwn : 0 ≤ wn ∧ wn ≤ 96) (hwc : 0 ≤ wc ∧ wc ≤ 6) (hwm : 0 ≤ wm ∧ wm ≤ 4) (hws : 0 ≤ ws ∧ ws ≤ 6) (hwi : 0 ≤ wi ∧ wi ≤ 8) (hba : ∀ i, -128 ≤ ba i ∧ ba i ≤ 127) (hxe : ∀ i, 0 ≤ xe i ∧ xe i ≤ 12) {F G s q kk Y : Int} (p0 : p_CF ba qn wo wf wn wc wm ws wi wl xa xb xc xd xe xf xg xh (F)) (p1 : p_NI ba qn (G)) (p2 : p_CU ba qk qs qq qn qv (s)) (p3 : kk = qk) (p4 : q = qq) (c0 : 0 ≤ F + (-1) * s + (-65536) * Y + (-11264)) (c1 : 0 ≤ s + 65536 * Y + (-1) * F + 11264) (c2 : 0 ≤ G + (-1099511627776) * s + (-395059)) (c3 : 0 ≤ 1099511627776 * s + (-1) * G + 395059) (c4 : 0 ≤ kk + (-2)) (c5 : 0 ≤ s) (c6 : 0 ≤ (-1) * s + 900) (c7 : 0 ≤ Y) (c8 : 0 ≤ (-1) * Y + 4294967295) : p_HF ba qn (8 * s + 2) := by
  obtain ⟨st, s1, r1, r2, np, W, pk, cf, w1, w2, w3, w4, w5, w6, w7, of, pn⟩ := p0
  unfold m_pk at pk
  obtain rfl : s1 = s := by omega
  obtain rfl : st = 11 := by omega
  obtain ⟨w0, s0, y1, y2, y3, y4, hw⟩ := p1
  obtain rfl : s0 = s1 := by omega
  obtain rfl : w0 = 395059 := by omega
  obtain ⟨uA, u0, u1, u2, u3⟩ := p2
  exact ⟨2, s0, by omega, by omega, by omega, m_mp2 (m_st_wn rfl cf (by decide) hw) (by omega)⟩
theorem k_wd13 {qn : Int} {qk : Int} {qs : Int} {qq : Int} {qv : Int} {wo : Int} {wf : Int} {wn : Int} {wc : Int} {wm : Int} {ws : Int} {wi : Int} {wl : Int} {ba : Int → Int} {xa : Int → Int} {xb : Int → Int} {xc : Int → Int} {xd : Int → Int} {xe : Int → Int} {xf : Int → Int} {xg : Int → Int} {xh : Int → Int} (hqn : 0 ≤ qn ∧ qn ≤ 900) (hqk : 0 ≤ qk ∧ qk ≤ 4) (hqs : 0 ≤ qs ∧ qs ≤ 900) (hqq : 0 ≤ qq ∧ qq ≤ 900) (hwo : 2 ≤ wo ∧ wo ≤ 13) (hwf : 1 ≤ wf ∧ wf ≤ 13) (hwn : 0 ≤ wn ∧ wn ≤ 96) (hwc : 0 ≤ wc ∧ wc ≤ 6) (hwm : 0 ≤ wm ∧ wm ≤ 4) (hws : 0 ≤ ws ∧ ws ≤ 6) (hwi : 0 ≤ wi ∧ wi ≤ 8) (hba : ∀ i, -128 ≤ ba i ∧ ba i ≤ 127) (hxe : ∀ i, 0 ≤ xe i ∧ xe i ≤ 12) {F G s q kk Y : Int} (p0 : p_CF ba qn wo wf wn wc wm ws wi wl xa xb xc xd xe xf xg xh (F)) (p1 : p_WI ba qn (G)) (p2 : p_CU ba qk qs qq qn qv (s)) (p3 : kk = qk) (p4 : q = qq) (c0 : 0 ≤ F + (-1) * s + (-65536) * Y + (-13312)) (c1 : 0 ≤ s + 65536 * Y + (-1) * F + 13312) (c2 : 0 ≤ G + (-1099511627776) * s + (-3657363)) (c3 : 0 ≤ 1099511627776 * s + (-1) * G + 3657363) (c4 : 0 ≤ q) (c5 : 0 ≤ (-1) * q + 1023) (c6 : 0 ≤ s) (c7 : 0 ≤ (-1) * s + 900) (c8 : 0 ≤ Y) (c9 : 0 ≤ (-1) * Y + 4294967295) : p_RDX ba qn wo wf wn wc wm ws wi wl xa xb xc xd xe xf xg xh (q + 65536 * Y + 14336) := by
  obtain ⟨st, s1, r1, r2, np, W, pk, cf, w1, w2, w3, w4, w5, w6, w7, of, pn⟩ := p0
  unfold m_pk at pk
  obtain rfl : s1 = s := by omega
  obtain rfl : st = 13 := by omega
  obtain ⟨w0, s0, y1, y2, y3, y4, hw⟩ := p1
  obtain rfl : s0 = s1 := by omega
  obtain rfl : w0 = 3657363 := by omega
  obtain ⟨uA, u0, u1, u2, u3⟩ := p2
  have AT := m_st_w rfl cf (by decide) hw
  rw [← u2] at AT
  exact ⟨14, qq, r1, r2, np, W, (by unfold m_pk; omega), Or.inl ⟨by decide, AT⟩, w1, w2, w3, w4, w5, w6, w7, fun _ => of (by decide), fun _ => pn (by unfold m_ps; decide)⟩
theorem k_mw13a {qn : Int} {qk : Int} {qs : Int} {qq : Int} {qv : Int} {wo : Int} {wf : Int} {wn : Int} {wc : Int} {wm : Int} {ws : Int} {wi : Int} {wl : Int} {ba : Int → Int} {xa : Int → Int} {xb : Int → Int} {xc : Int → Int} {xd : Int → Int} {xe : Int → Int} {xf : Int → Int} {xg : Int → Int} {xh : Int → Int} (hqn : 0 ≤ qn ∧ qn ≤ 900) (hqk : 0 ≤ qk ∧ qk ≤ 4) (hqs : 0 ≤ qs ∧ qs ≤ 900) (hqq : 0 ≤ qq ∧ qq ≤ 900) (hwo : 2 ≤ wo ∧ wo ≤ 13) (hwf : 1 ≤ wf ∧ wf ≤ 13) (hwn : 0 ≤ wn ∧ wn ≤ 96) (hwc : 0 ≤ wc ∧ wc ≤ 6) (hwm : 0 ≤ wm ∧ wm ≤ 4) (hws : 0 ≤ ws ∧ ws ≤ 6) (hwi : 0 ≤ wi ∧ wi ≤ 8) (hba : ∀ i, -128 ≤ ba i ∧ ba i ≤ 127) (hxe : ∀ i, 0 ≤ xe i ∧ xe i ≤ 12) {F G s q kk Y : Int} (p0 : p_CF ba qn wo wf wn wc wm ws wi wl xa xb xc xd xe xf xg xh (F)) (p1 : p_NI ba qn (G)) (p2 : p_CU ba qk qs qq qn qv (s)) (p3 : kk = qk) (p4 : q = qq) (c0 : 0 ≤ F + (-1) * s + (-65536) * Y + (-13312)) (c1 : 0 ≤ s + 65536 * Y + (-1) * F + 13312) (c2 : 0 ≤ G + (-1099511627776) * s + (-3657363)) (c3 : 0 ≤ 1099511627776 * s + (-1) * G + 3657363) (c4 : 0 ≤ kk + (-1)) (c5 : 0 ≤ (-1) * kk + 1) (c6 : 0 ≤ s) (c7 : 0 ≤ (-1) * s + 900) (c8 : 0 ≤ Y) (c9 : 0 ≤ (-1) * Y + 4294967295) : p_HF ba qn (8 * s + 1) := by
  obtain ⟨st, s1, r1, r2, np, W, pk, cf, w1, w2, w3, w4, w5, w6, w7, of, pn⟩ := p0
  unfold m_pk at pk
  obtain rfl : s1 = s := by omega
  obtain rfl : st = 13 := by omega
  obtain ⟨w0, s0, y1, y2, y3, y4, hw⟩ := p1
  obtain rfl : s0 = s1 := by omega
  obtain rfl : w0 = 3657363 := by omega
  obtain ⟨uA, u0, u1, u2, u3⟩ := p2
  exact ⟨1, s0, by omega, by omega, by omega, m_mp1 (m_st_wn rfl cf (by decide) hw) (by omega)⟩
theorem k_mw13b {qn : Int} {qk : Int} {qs : Int} {qq : Int} {qv : Int} {wo : Int} {wf : Int} {wn : Int} {wc : Int} {wm : Int} {ws : Int} {wi : Int} {wl : Int} {ba : Int → Int} {xa : Int → Int} {xb : Int → Int} {xc : Int → Int} {xd : Int → Int} {xe : Int → Int} {xf : Int → Int} {xg : Int → Int} {xh : Int → Int} (hqn : 0 ≤ qn ∧ qn ≤ 900) (hqk : 0 ≤ qk ∧ qk ≤ 4) (hqs : 0 ≤ qs ∧ qs ≤ 900) (hqq : 0 ≤ qq ∧ qq ≤ 900) (hwo : 2 ≤ wo ∧ wo ≤ 13) (hwf : 1 ≤ wf ∧ wf ≤ 13) (hwn : 0 ≤ wn ∧ wn ≤ 96) (hwc : 0 ≤ wc ∧ wc ≤ 6) (hwm : 0 ≤ wm ∧ wm ≤ 4) (hws : 0 ≤ ws ∧ ws ≤ 6) (hwi : 0 ≤ wi ∧ wi ≤ 8) (hba : ∀ i, -128 ≤ ba i ∧ ba i ≤ 127) (hxe : ∀ i, 0 ≤ xe i ∧ xe i ≤ 12) {F G s q kk Y : Int} (p0 : p_CF ba qn wo wf wn wc wm ws wi wl xa xb xc xd xe xf xg xh (F)) (p1 : p_NI ba qn (G)) (p2 : p_CU ba qk qs qq qn qv (s)) (p3 : kk = qk) (p4 : q = qq) (c0 : 0 ≤ F + (-1) * s + (-65536) * Y + (-13312)) (c1 : 0 ≤ s + 65536 * Y + (-1) * F + 13312) (c2 : 0 ≤ G + (-1099511627776) * s + (-3657363)) (c3 : 0 ≤ 1099511627776 * s + (-1) * G + 3657363) (c4 : 0 ≤ (-1) * kk) (c5 : 0 ≤ s) (c6 : 0 ≤ (-1) * s + 900) (c7 : 0 ≤ Y) (c8 : 0 ≤ (-1) * Y + 4294967295) : p_HF ba qn (8 * s + 2) := by
  obtain ⟨st, s1, r1, r2, np, W, pk, cf, w1, w2, w3, w4, w5, w6, w7, of, pn⟩ := p0
  unfold m_pk at pk
  obtain rfl : s1 = s := by omega
  obtain rfl : st = 13 := by omega
  obtain ⟨w0, s0, y1, y2, y3, y4, hw⟩ := p1
  obtain rfl : s0 = s1 := by omega
  obtain rfl : w0 = 3657363 := by omega
  obtain ⟨uA, u0, u1, u2, u3⟩ := p2
  exact ⟨2, s0, by omega, by omega, by omega, m_mp2 (m_st_wn rfl cf (by decide) hw) (by omega)⟩
theorem k_mw13c {qn : Int} {qk : Int} {qs : Int} {qq : Int} {qv : Int} {wo : Int} {wf : Int} {wn : Int} {wc : Int} {wm : Int} {ws : Int} {wi : Int} {wl : Int} {ba : Int → Int} {xa : Int → Int} {xb : Int → Int} {xc : Int → Int} {xd : Int → Int} {xe : Int → Int} {xf : Int → Int} {xg : Int → Int} {xh : Int → Int} (hqn : 0 ≤ qn ∧ qn ≤ 900) (hqk : 0 ≤ qk ∧ qk ≤ 4) (hqs : 0 ≤ qs ∧ qs ≤ 900) (hqq : 0 ≤ qq ∧ qq ≤ 900) (hwo : 2 ≤ wo ∧ wo ≤ 13) (hwf : 1 ≤ wf ∧ wf ≤ 13) (hwn : 0 ≤ wn ∧ wn ≤ 96) (hwc : 0 ≤ wc ∧ wc ≤ 6) (hwm : 0 ≤ wm ∧ wm ≤ 4) (hws : 0 ≤ ws ∧ ws ≤ 6) (hwi : 0 ≤ wi ∧ wi ≤ 8) (hba : ∀ i, -128 ≤ ba i ∧ ba i ≤ 127) (hxe : ∀ i, 0 ≤ xe i ∧ xe i ≤ 12) {F G s q kk Y : Int} (p0 : p_CF ba qn wo wf wn wc wm ws wi wl xa xb xc xd xe xf xg xh (F)) (p1 : p_NI ba qn (G)) (p2 : p_CU ba qk qs qq qn qv (s)) (p3 : kk = qk) (p4 : q = qq) (c0 : 0 ≤ F + (-1) * s + (-65536) * Y + (-13312)) (c1 : 0 ≤ s + 65536 * Y + (-1) * F + 13312) (c2 : 0 ≤ G + (-1099511627776) * s + (-3657363)) (c3 : 0 ≤ 1099511627776 * s + (-1) * G + 3657363) (c4 : 0 ≤ kk + (-2)) (c5 : 0 ≤ s) (c6 : 0 ≤ (-1) * s + 900) (c7 : 0 ≤ Y) (c8 : 0 ≤ (-1) * Y + 4294967295) : p_HF ba qn (8 * s + 2) := by
  obtain ⟨st, s1, r1, r2, np, W, pk, cf, w1, w2, w3, w4, w5, w6, w7, of, pn⟩ := p0
  unfold m_pk at pk
  obtain rfl : s1 = s := by omega
  obtain rfl : st = 13 := by omega
  obtain ⟨w0, s0, y1, y2, y3, y4, hw⟩ := p1
  obtain rfl : s0 = s1 := by omega
  obtain rfl : w0 = 3657363 := by omega
  obtain ⟨uA, u0, u1, u2, u3⟩ := p2
  exact ⟨2, s0, by omega, by omega, by omega, m_mp2 (m_st_wn rfl cf (by decide) hw) (by omega)⟩
theorem k_wd8 {qn : Int} {qk : Int} {qs : Int} {qq : Int} {qv : Int} {wo : Int} {wf : Int} {wn : Int} {wc : Int} {wm : Int} {ws : Int} {wi : Int} {wl : Int} {ba : Int → Int} {xa : Int → Int} {xb : Int → Int} {xc : Int → Int} {xd : Int → Int} {xe : Int → Int} {xf : Int → Int} {xg : Int → Int} {xh : Int → Int} (hqn : 0 ≤ qn ∧ qn ≤ 900) (hqk : 0 ≤ qk ∧ qk ≤ 4) (hqs : 0 ≤ qs ∧ qs ≤ 900) (hqq : 0 ≤ qq ∧ qq ≤ 900) (hwo : 2 ≤ wo ∧ wo ≤ 13) (hwf : 1 ≤ wf ∧ wf ≤ 13) (hwn : 0 ≤ wn ∧ wn ≤ 96) (hwc : 0 ≤ wc ∧ wc ≤ 6) (hwm : 0 ≤ wm ∧ wm ≤ 4) (hws : 0 ≤ ws ∧ ws ≤ 6) (hwi : 0 ≤ wi ∧ wi ≤ 8) (hba : ∀ i, -128 ≤ ba i ∧ ba i ≤ 127) (hxe : ∀ i, 0 ≤ xe i ∧ xe i ≤ 12) {F G s q kk Y : Int} (p0 : p_CF ba qn wo wf wn wc wm ws wi wl xa xb xc xd xe xf xg xh (F)) (p1 : p_WI ba qn (G)) (p2 : p_CU ba qk qs qq qn qv (s)) (p3 : kk = qk) (p4 : q = qq) (c0 : 0 ≤ F + (-1) * s + (-65536) * Y + (-8192)) (c1 : 0 ≤ s + 65536 * Y + (-1) * F + 8192) (c2 : 0 ≤ G + (-1099511627776) * s + (-52)) (c3 : 0 ≤ 1099511627776 * s + (-1) * G + 52) (c4 : 0 ≤ q) (c5 : 0 ≤ (-1) * q + 1023) (c6 : 0 ≤ s) (c7 : 0 ≤ (-1) * s + 900) (c8 : 0 ≤ Y) (c9 : 0 ≤ (-1) * Y + 4294967295) : p_RDX ba qn wo wf wn wc wm ws wi wl xa xb xc xd xe xf xg xh (q + 65536 * Y + 15360) := by
  obtain ⟨st, s1, r1, r2, np, W, pk, cf, w1, w2, w3, w4, w5, w6, w7, of, pn⟩ := p0
  unfold m_pk at pk
  obtain rfl : s1 = s := by omega
  obtain rfl : st = 8 := by omega
  obtain ⟨w0, s0, y1, y2, y3, y4, hw⟩ := p1
  obtain rfl : s0 = s1 := by omega
  obtain rfl : w0 = 52 := by omega
  obtain ⟨uA, u0, u1, u2, u3⟩ := p2
  have AT := m_st_w rfl cf (by decide) hw
  rw [← u2] at AT
  exact ⟨15, qq, r1, r2, np, W, (by unfold m_pk; omega), Or.inl ⟨by decide, AT⟩, w1, w2, w3, w4, w5, w6, w7, fun _ => of (by decide), fun h => absurd h (by unfold m_ps; decide)⟩
theorem k_mw8a {qn : Int} {qk : Int} {qs : Int} {qq : Int} {qv : Int} {wo : Int} {wf : Int} {wn : Int} {wc : Int} {wm : Int} {ws : Int} {wi : Int} {wl : Int} {ba : Int → Int} {xa : Int → Int} {xb : Int → Int} {xc : Int → Int} {xd : Int → Int} {xe : Int → Int} {xf : Int → Int} {xg : Int → Int} {xh : Int → Int} (hqn : 0 ≤ qn ∧ qn ≤ 900) (hqk : 0 ≤ qk ∧ qk ≤ 4) (hqs : 0 ≤ qs ∧ qs ≤ 900) (hqq : 0 ≤ qq ∧ qq ≤ 900) (hwo : 2 ≤ wo ∧ wo ≤ 13) (hwf : 1 ≤ wf ∧ wf ≤ 13) (hwn : 0 ≤ wn ∧ wn ≤ 96) (hwc : 0 ≤ wc ∧ wc ≤ 6) (hwm : 0 ≤ wm ∧ wm ≤ 4) (hws : 0 ≤ ws ∧ ws ≤ 6) (hwi : 0 ≤ wi ∧ wi ≤ 8) (hba : ∀ i, -128 ≤ ba i ∧ ba i ≤ 127) (hxe : ∀ i, 0 ≤ xe i ∧ xe i ≤ 12) {F G s q kk Y : Int} (p0 : p_CF ba qn wo wf wn wc wm ws wi wl xa xb xc xd xe xf xg xh (F)) (p1 : p_NI ba qn (G)) (p2 : p_CU ba qk qs qq qn qv (s)) (p3 : kk = qk) (p4 : q = qq) (c0 : 0 ≤ F + (-1) * s + (-65536) * Y + (-8192)) (c1 : 0 ≤ s + 65536 * Y + (-1) * F + 8192) (c2 : 0 ≤ G + (-1099511627776) * s + (-52)) (c3 : 0 ≤ 1099511627776 * s + (-1) * G + 52) (c4 : 0 ≤ kk + (-1)) (c5 : 0 ≤ (-1) * kk + 1) (c6 : 0 ≤ s) (c7 : 0 ≤ (-1) * s + 900) (c8 : 0 ≤ Y) (c9 : 0 ≤ (-1) * Y + 4294967295) : p_HF ba qn (8 * s + 1) := by
  obtain ⟨st, s1, r1, r2, np, W, pk, cf, w1, w2, w3, w4, w5, w6, w7, of, pn⟩ := p0
  unfold m_pk at pk
  obtain rfl : s1 = s := by omega
  obtain rfl : st = 8 := by omega
  obtain ⟨w0, s0, y1, y2, y3, y4, hw⟩ := p1
  obtain rfl : s0 = s1 := by omega
  obtain rfl : w0 = 52 := by omega
  obtain ⟨uA, u0, u1, u2, u3⟩ := p2
  exact ⟨1, s0, by omega, by omega, by omega, m_mp1 (m_st_wn rfl cf (by decide) hw) (by omega)⟩
theorem k_mw8b {qn : Int} {qk : Int} {qs : Int} {qq : Int} {qv : Int} {wo : Int} {wf : Int} {wn : Int} {wc : Int} {wm : Int} {ws : Int} {wi : Int} {wl : Int} {ba : Int → Int} {xa : Int → Int} {xb : Int → Int} {xc : Int → Int} {xd : Int → Int} {xe : Int → Int} {xf : Int → Int} {xg : Int → Int} {xh : Int → Int} (hqn : 0 ≤ qn ∧ qn ≤ 900) (hqk : 0 ≤ qk ∧ qk ≤ 4) (hqs : 0 ≤ qs ∧ qs ≤ 900) (hqq : 0 ≤ qq ∧ qq ≤ 900) (hwo : 2 ≤ wo ∧ wo ≤ 13) (hwf : 1 ≤ wf ∧ wf ≤ 13) (hwn : 0 ≤ wn ∧ wn ≤ 96) (hwc : 0 ≤ wc ∧ wc ≤ 6) (hwm : 0 ≤ wm ∧ wm ≤ 4) (hws : 0 ≤ ws ∧ ws ≤ 6) (hwi : 0 ≤ wi ∧ wi ≤ 8) (hba : ∀ i, -128 ≤ ba i ∧ ba i ≤ 127) (hxe : ∀ i, 0 ≤ xe i ∧ xe i ≤ 12) {F G s q kk Y : Int} (p0 : p_CF ba qn wo wf wn wc wm ws wi wl xa xb xc xd xe xf xg xh (F)) (p1 : p_NI ba qn (G)) (p2 : p_CU ba qk qs qq qn qv (s)) (p3 : kk = qk) (p4 : q = qq) (c0 : 0 ≤ F + (-1) * s + (-65536) * Y + (-8192)) (c1 : 0 ≤ s + 65536 * Y + (-1) * F + 8192) (c2 : 0 ≤ G + (-1099511627776) * s + (-52)) (c3 : 0 ≤ 1099511627776 * s + (-1) * G + 52) (c4 : 0 ≤ (-1) * kk) (c5 : 0 ≤ s) (c6 : 0 ≤ (-1) * s + 900) (c7 : 0 ≤ Y) (c8 : 0 ≤ (-1) * Y + 4294967295) : p_HF ba qn (8 * s + 2) := by
  obtain ⟨st, s1, r1, r2, np, W, pk, cf, w1, w2, w3, w4, w5, w6, w7, of, pn⟩ := p0
  unfold m_pk at pk
  obtain rfl : s1 = s := by omega
  obtain rfl : st = 8 := by omega
  obtain ⟨w0, s0, y1, y2, y3, y4, hw⟩ := p1
  obtain rfl : s0 = s1 := by omega
  obtain rfl : w0 = 52 := by omega
  obtain ⟨uA, u0, u1, u2, u3⟩ := p2
  exact ⟨2, s0, by omega, by omega, by omega, m_mp2 (m_st_wn rfl cf (by decide) hw) (by omega)⟩
theorem k_mw8c {qn : Int} {qk : Int} {qs : Int} {qq : Int} {qv : Int} {wo : Int} {wf : Int} {wn : Int} {wc : Int} {wm : Int} {ws : Int} {wi : Int} {wl : Int} {ba : Int → Int} {xa : Int → Int} {xb : Int → Int} {xc : Int → Int} {xd : Int → Int} {xe : Int → Int} {xf : Int → Int} {xg : Int → Int} {xh : Int → Int} (hqn : 0 ≤ qn ∧ qn ≤ 900) (hqk : 0 ≤ qk ∧ qk ≤ 4) (hqs : 0 ≤ qs ∧ qs ≤ 900) (hqq : 0 ≤ qq ∧ qq ≤ 900) (hwo : 2 ≤ wo ∧ wo ≤ 13) (hwf : 1 ≤ wf ∧ wf ≤ 13) (hwn : 0 ≤ wn ∧ wn ≤ 96) (hwc : 0 ≤ wc ∧ wc ≤ 6) (hwm : 0 ≤ wm ∧ wm ≤ 4) (hws : 0 ≤ ws ∧ ws ≤ 6) (hwi : 0 ≤ wi ∧ wi ≤ 8) (hba : ∀ i, -128 ≤ ba i ∧ ba i ≤ 127) (hxe : ∀ i, 0 ≤ xe i ∧ xe i ≤ 12) {F G s q kk Y : Int} (p0 : p_CF ba qn wo wf wn wc wm ws wi wl xa xb xc xd xe xf xg xh (F)) (p1 : p_NI ba qn (G)) (p2 : p_CU ba qk qs qq qn qv (s)) (p3 : kk = qk) (p4 : q = qq) (c0 : 0 ≤ F + (-1) * s + (-65536) * Y + (-8192)) (c1 : 0 ≤ s + 65536 * Y + (-1) * F + 8192) (c2 : 0 ≤ G + (-1099511627776) * s + (-52)) (c3 : 0 ≤ 1099511627776 * s + (-1) * G + 52) (c4 : 0 ≤ kk + (-2)) (c5 : 0 ≤ s) (c6 : 0 ≤ (-1) * s + 900) (c7 : 0 ≤ Y) (c8 : 0 ≤ (-1) * Y + 4294967295) : p_HF ba qn (8 * s + 2) := by
  obtain ⟨st, s1, r1, r2, np, W, pk, cf, w1, w2, w3, w4, w5, w6, w7, of, pn⟩ := p0
  unfold m_pk at pk
  obtain rfl : s1 = s := by omega
  obtain rfl : st = 8 := by omega
  obtain ⟨w0, s0, y1, y2, y3, y4, hw⟩ := p1
  obtain rfl : s0 = s1 := by omega
  obtain rfl : w0 = 52 := by omega
  obtain ⟨uA, u0, u1, u2, u3⟩ := p2
  exact ⟨2, s0, by omega, by omega, by omega, m_mp2 (m_st_wn rfl cf (by decide) hw) (by omega)⟩
theorem k_wd9 {qn : Int} {qk : Int} {qs : Int} {qq : Int} {qv : Int} {wo : Int} {wf : Int} {wn : Int} {wc : Int} {wm : Int} {ws : Int} {wi : Int} {wl : Int} {ba : Int → Int} {xa : Int → Int} {xb : Int → Int} {xc : Int → Int} {xd : Int → Int} {xe : Int → Int} {xf : Int → Int} {xg : Int → Int} {xh : Int → Int} (hqn : 0 ≤ qn ∧ qn ≤ 900) (hqk : 0 ≤ qk ∧ qk ≤ 4) (hqs : 0 ≤ qs ∧ qs ≤ 900) (hqq : 0 ≤ qq ∧ qq ≤ 900) (hwo : 2 ≤ wo ∧ wo ≤ 13) (hwf : 1 ≤ wf ∧ wf ≤ 13) (hwn : 0 ≤ wn ∧ wn ≤ 96) (hwc : 0 ≤ wc ∧ wc ≤ 6) (hwm : 0 ≤ wm ∧ wm ≤ 4) (hws : 0 ≤ ws ∧ ws ≤ 6) (hwi : 0 ≤ wi ∧ wi ≤ 8) (hba : ∀ i, -128 ≤ ba i ∧ ba i ≤ 127) (hxe : ∀ i, 0 ≤ xe i ∧ xe i ≤ 12) {F G s q kk Y : Int} (p0 : p_CF ba qn wo wf wn wc wm ws wi wl xa xb xc xd xe xf xg xh (F)) (p1 : p_WI ba qn (G)) (p2 : p_CU ba qk qs qq qn qv (s)) (p3 : kk = qk) (p4 : q = qq) (c0 : 0 ≤ F + (-1) * s + (-65536) * Y + (-9216)) (c1 : 0 ≤ s + 65536 * Y + (-1) * F + 9216) (c2 : 0 ≤ G + (-1099511627776) * s + (-52)) (c3 : 0 ≤ 1099511627776 * s + (-1) * G + 52) (c4 : 0 ≤ q) (c5 : 0 ≤ (-1) * q + 1023) (c6 : 0 ≤ s) (c7 : 0 ≤ (-1) * s + 900) (c8 : 0 ≤ Y) (c9 : 0 ≤ (-1) * Y + 4294967295) : p_RDX ba qn wo wf wn wc wm ws wi wl xa xb xc xd xe xf xg xh (q + 65536 * Y + 18432) := by
  obtain ⟨st, s1, r1, r2, np, W, pk, cf, w1, w2, w3, w4, w5, w6, w7, of, pn⟩ := p0
  unfold m_pk at pk
  obtain rfl : s1 = s := by omega
  obtain rfl : st = 9 := by omega
  obtain ⟨w0, s0, y1, y2, y3, y4, hw⟩ := p1
  obtain rfl : s0 = s1 := by omega
  obtain rfl : w0 = 52 := by omega
  obtain ⟨uA, u0, u1, u2, u3⟩ := p2
  have AT := m_st_w rfl cf (by decide) hw
  rw [← u2] at AT
  exact ⟨18, qq, r1, r2, np, W, (by unfold m_pk; omega), Or.inl ⟨by decide, AT⟩, w1, w2, w3, w4, w5, w6, w7, fun _ => of (by decide), fun h => absurd h (by unfold m_ps; decide)⟩
theorem k_mw9a {qn : Int} {qk : Int} {qs : Int} {qq : Int} {qv : Int} {wo : Int} {wf : Int} {wn : Int} {wc : Int} {wm : Int} {ws : Int} {wi : Int} {wl : Int} {ba : Int → Int} {xa : Int → Int} {xb : Int → Int} {xc : Int → Int} {xd : Int → Int} {xe : Int → Int} {xf : Int → Int} {xg : Int → Int} {xh : Int → Int} (hqn : 0 ≤ qn ∧ qn ≤ 900) (hqk : 0 ≤ qk ∧ qk ≤ 4) (hqs : 0 ≤ qs ∧ qs ≤ 900) (hqq : 0 ≤ qq ∧ qq ≤ 900) (hwo : 2 ≤ wo ∧ wo ≤ 13) (hwf : 1 ≤ wf ∧ wf ≤ 13) (hwn : 0 ≤ wn ∧ wn ≤ 96) (hwc : 0 ≤ wc ∧ wc ≤ 6) (hwm : 0 ≤ wm ∧ wm ≤ 4) (hws : 0 ≤ ws ∧ ws ≤ 6) (hwi : 0 ≤ wi ∧ wi ≤ 8) (hba : ∀ i, -128 ≤ ba i ∧ ba i ≤ 127) (hxe : ∀ i, 0 ≤ xe i ∧ xe i ≤ 12) {F G s q kk Y : Int} (p0 : p_CF ba qn wo wf wn wc wm ws wi wl xa xb xc xd xe xf xg xh (F)) (p1 : p_NI ba qn (G)) (p2 : p_CU ba qk qs qq qn qv (s)) (p3 : kk = qk) (p4 : q = qq) (c0 : 0 ≤ F + (-1) * s + (-65536) * Y + (-9216)) (c1 : 0 ≤ s + 65536 * Y + (-1) * F + 9216) (c2 : 0 ≤ G + (-1099511627776) * s + (-52)) (c3 : 0 ≤ 1099511627776 * s + (-1) * G + 52) (c4 : 0 ≤ kk + (-1)) (c5 : 0 ≤ (-1) * kk + 1) (c6 : 0 ≤ s) (c7 : 0 ≤ (-1) * s + 900) (c8 : 0 ≤ Y) (c9 : 0 ≤ (-1) * Y + 4294967295) : p_HF ba qn (8 * s + 1) := by
  obtain ⟨st, s1, r1, r2, np, W, pk, cf, w1, w2, w3, w4, w5, w6, w7, of, pn⟩ := p0
  unfold m_pk at pk
  obtain rfl : s1 = s := by omega
  obtain rfl : st = 9 := by omega
  obtain ⟨w0, s0, y1, y2, y3, y4, hw⟩ := p1
  obtain rfl : s0 = s1 := by omega
  obtain rfl : w0 = 52 := by omega
  obtain ⟨uA, u0, u1, u2, u3⟩ := p2
  exact ⟨1, s0, by omega, by omega, by omega, m_mp1 (m_st_wn rfl cf (by decide) hw) (by omega)⟩
theorem k_mw9b {qn : Int} {qk : Int} {qs : Int} {qq : Int} {qv : Int} {wo : Int} {wf : Int} {wn : Int} {wc : Int} {wm : Int} {ws : Int} {wi : Int} {wl : Int} {ba : Int → Int} {xa : Int → Int} {xb : Int → Int} {xc : Int → Int} {xd : Int → Int} {xe : Int → Int} {xf : Int → Int} {xg : Int → Int} {xh : Int → Int} (hqn : 0 ≤ qn ∧ qn ≤ 900) (hqk : 0 ≤ qk ∧ qk ≤ 4) (hqs : 0 ≤ qs ∧ qs ≤ 900) (hqq : 0 ≤ qq ∧ qq ≤ 900) (hwo : 2 ≤ wo ∧ wo ≤ 13) (hwf : 1 ≤ wf ∧ wf ≤ 13) (hwn : 0 ≤ wn ∧ wn ≤ 96) (hwc : 0 ≤ wc ∧ wc ≤ 6) (hwm : 0 ≤ wm ∧ wm ≤ 4) (hws : 0 ≤ ws ∧ ws ≤ 6) (hwi : 0 ≤ wi ∧ wi ≤ 8) (hba : ∀ i, -128 ≤ ba i ∧ ba i ≤ 127) (hxe : ∀ i, 0 ≤ xe i ∧ xe i ≤ 12) {F G s q kk Y : Int} (p0 : p_CF ba qn wo wf wn wc wm ws wi wl xa xb xc xd xe xf xg xh (F)) (p1 : p_NI ba qn (G)) (p2 : p_CU ba qk qs qq qn qv (s)) (p3 : kk = qk) (p4 : q = qq) (c0 : 0 ≤ F + (-1) * s + (-65536) * Y + (-9216)) (c1 : 0 ≤ s + 65536 * Y + (-1) * F + 9216) (c2 : 0 ≤ G + (-1099511627776) * s + (-52)) (c3 : 0 ≤ 1099511627776 * s + (-1) * G + 52) (c4 : 0 ≤ (-1) * kk) (c5 : 0 ≤ s) (c6 : 0 ≤ (-1) * s + 900) (c7 : 0 ≤ Y) (c8 : 0 ≤ (-1) * Y + 4294967295) : p_HF ba qn (8 * s + 2) := by
  obtain ⟨st, s1, r1, r2, np, W, pk, cf, w1, w2, w3, w4, w5, w6, w7, of, pn⟩ := p0
  unfold m_pk at pk
  obtain rfl : s1 = s := by omega
  obtain rfl : st = 9 := by omega
  obtain ⟨w0, s0, y1, y2, y3, y4, hw⟩ := p1
  obtain rfl : s0 = s1 := by omega
  obtain rfl : w0 = 52 := by omega
  obtain ⟨uA, u0, u1, u2, u3⟩ := p2
  exact ⟨2, s0, by omega, by omega, by omega, m_mp2 (m_st_wn rfl cf (by decide) hw) (by omega)⟩
theorem k_mw9c {qn : Int} {qk : Int} {qs : Int} {qq : Int} {qv : Int} {wo : Int} {wf : Int} {wn : Int} {wc : Int} {wm : Int} {ws : Int} {wi : Int} {wl : Int} {ba : Int → Int} {xa : Int → Int} {xb : Int → Int} {xc : Int → Int} {xd : Int → Int} {xe : Int → Int} {xf : Int → Int} {xg : Int → Int} {xh : Int → Int} (hqn : 0 ≤ qn ∧ qn ≤ 900) (hqk : 0 ≤ qk ∧ qk ≤ 4) (hqs : 0 ≤ qs ∧ qs ≤ 900) (hqq : 0 ≤ qq ∧ qq ≤ 900) (hwo : 2 ≤ wo ∧ wo ≤ 13) (hwf : 1 ≤ wf ∧ wf ≤ 13) (hwn : 0 ≤ wn ∧ wn ≤ 96) (hwc : 0 ≤ wc ∧ wc ≤ 6) (hwm : 0 ≤ wm ∧ wm ≤ 4) (hws : 0 ≤ ws ∧ ws ≤ 6) (hwi : 0 ≤ wi ∧ wi ≤ 8) (hba : ∀ i, -128 ≤ ba i ∧ ba i ≤ 127) (hxe : ∀ i, 0 ≤ xe i ∧ xe i ≤ 12) {F G s q kk Y : Int} (p0 : p_CF ba qn wo wf wn wc wm ws wi wl xa xb xc xd xe xf xg xh (F)) (p1 : p_NI ba qn (G)) (p2 : p_CU ba qk qs qq qn qv (s)) (p3 : kk = qk) (p4 : q = qq) (c0 : 0 ≤ F + (-1) * s + (-65536) * Y + (-9216)) (c1 : 0 ≤ s + 65536 * Y + (-1) * F + 9216) (c2 : 0 ≤ G + (-1099511627776) * s + (-52)) (c3 : 0 ≤ 1099511627776 * s + (-1) * G + 52) (c4 : 0 ≤ kk + (-2)) (c5 : 0 ≤ s) (c6 : 0 ≤ (-1) * s + 900) (c7 : 0 ≤ Y) (c8 : 0 ≤ (-1) * Y + 4294967295) : p_HF ba qn (8 * s + 2) := by
  obtain ⟨st, s1, r1, r2, np, W, pk, cf, w1, w2, w3, w4, w5, w6, w7, of, pn⟩ := p0
  unfold m_pk at pk
  obtain rfl : s1 = s := by omega
  obtain rfl : st = 9 := by omega
  obtain ⟨w0, s0, y1, y2, y3, y4, hw⟩ := p1
  obtain rfl : s0 = s1 := by omega
  obtain rfl : w0 = 52 := by omega
  obtain ⟨uA, u0, u1, u2, u3⟩ := p2
  exact ⟨2, s0, by omega, by omega, by omega, m_mp2 (m_st_wn rfl cf (by decide) hw) (by omega)⟩
theorem k_wd16 {qn : Int} {qk : Int} {qs : Int} {qq : Int} {qv : Int} {wo : Int} {wf : Int} {wn : Int} {wc : Int} {wm : Int} {ws : Int} {wi : Int} {wl : Int} {ba : Int → Int} {xa : Int → Int} {xb : Int → Int} {xc : Int → Int} {xd : Int → Int} {xe : Int → Int} {xf : Int → Int} {xg : Int → Int} {xh : Int → Int} (hqn : 0 ≤ qn ∧ qn ≤ 900) (hqk : 0 ≤ qk ∧ qk ≤ 4) (hqs : 0 ≤ qs ∧ qs ≤ 900) (hqq : 0 ≤ qq ∧ qq ≤ 900) (hwo : 2 ≤ wo ∧ wo ≤ 13) (hwf : 1 ≤ wf ∧ wf ≤ 13) (hwn : 0 ≤ wn ∧ wn ≤ 96) (hwc : 0 ≤ wc ∧ wc ≤ 6) (hwm : 0 ≤ wm ∧ wm ≤ 4) (hws : 0 ≤ ws ∧ ws ≤ 6) (hwi : 0 ≤ wi ∧ wi ≤ 8) (hba : ∀ i, -128 ≤ ba i ∧ ba i ≤ 127) (hxe : ∀ i, 0 ≤ xe i ∧ xe i ≤ 12) {F G s q kk Y : Int} (p0 : p_CF ba qn wo wf wn wc wm ws wi wl xa xb xc xd xe xf xg xh (F)) (p1 : p_WI ba qn (G)) (p2 : p_CU ba qk qs qq qn qv (s)) (p3 : kk = qk) (p4 : q = qq) (c0 : 0 ≤ F + (-1) * s + (-65536) * Y + (-16384)) (c1 : 0 ≤ s + 65536 * Y + (-1) * F + 16384) (c2 : 0 ≤ G + (-1099511627776) * s + (-89)) (c3 : 0 ≤ 1099511627776 * s + (-1) * G + 89) (c4 : 0 ≤ q) (c5 : 0 ≤ (-1) * q + 1023) (c6 : 0 ≤ s) (c7 : 0 ≤ (-1) * s + 900) (c8 : 0 ≤ Y) (c9 : 0 ≤ (-1) * Y + 4294967295) : p_RDX ba qn wo wf wn wc wm ws wi wl xa xb xc xd xe xf xg xh (q + 65536 * Y + 17408) := by
  obtain ⟨st, s1, r1, r2, np, W, pk, cf, w1, w2, w3, w4, w5, w6, w7, of, pn⟩ := p0
  unfold m_pk at pk
  obtain rfl : s1 = s := by omega
  obtain rfl : st = 16 := by omega
  obtain ⟨w0, s0, y1, y2, y3, y4, hw⟩ := p1
  obtain rfl : s0 = s1 := by omega
  obtain rfl : w0 = 89 := by omega
  obtain ⟨uA, u0, u1, u2, u3⟩ := p2
  have AT := m_st_w rfl cf (by decide) hw
  rw [← u2] at AT
  exact ⟨17, qq, r1, r2, np, W, (by unfold m_pk; omega), Or.inl ⟨by decide, AT⟩, w1, w2, w3, w4, w5, w6, w7, fun _ => of (by decide), fun h => absurd h (by unfold m_ps; decide)⟩
theorem k_mw16a {qn : Int} {qk : Int} {qs : Int} {qq : Int} {qv : Int} {wo : Int} {wf : Int} {wn : Int} {wc : Int} {wm : Int} {ws : Int} {wi : Int} {wl : Int} {ba : Int → Int} {xa : Int → Int} {xb : Int → Int} {xc : Int → Int} {xd : Int → Int} {xe : Int → Int} {xf : Int → Int} {xg : Int → Int} {xh : Int → Int} (hqn : 0 ≤ qn ∧ qn ≤ 900) (hqk : 0 ≤ qk ∧ qk ≤ 4) (hqs : 0 ≤ qs ∧ qs ≤ 900) (hqq : 0 ≤ qq ∧ qq ≤ 900) (hwo : 2 ≤ wo ∧ wo ≤ 13) (hwf : 1 ≤ wf ∧ wf ≤ 13) (hwn : 0 ≤ wn ∧ wn ≤ 96) (hwc : 0 ≤ wc ∧ wc ≤ 6) (hwm : 0 ≤ wm ∧ wm ≤ 4) (hws : 0 ≤ ws ∧ ws ≤ 6) (hwi : 0 ≤ wi ∧ wi ≤ 8) (hba : ∀ i, -128 ≤ ba i ∧ ba i ≤ 127) (hxe : ∀ i, 0 ≤ xe i ∧ xe i ≤ 12) {F G s q kk Y : Int} (p0 : p_CF ba qn wo wf wn wc wm ws wi wl xa xb xc xd xe xf xg xh (F)) (p1 : p_NI ba qn (G)) (p2 : p_CU ba qk qs qq qn qv (s)) (p3 : kk = qk) (p4 : q = qq) (c0 : 0 ≤ F + (-1) * s + (-65536) * Y + (-16384)) (c1 : 0 ≤ s + 65536 * Y + (-1) * F + 16384) (c2 : 0 ≤ G + (-1099511627776) * s + (-89)) (c3 : 0 ≤ 1099511627776 * s + (-1) * G + 89) (c4 : 0 ≤ kk + (-1)) (c5 : 0 ≤ (-1) * kk + 1) (c6 : 0 ≤ s) (c7 : 0 ≤ (-1) * s + 900) (c8 : 0 ≤ Y) (c9 : 0 ≤ (-1) * Y + 4294967295) : p_HF ba qn (8 * s + 1) := by
  obtain ⟨st, s1, r1, r2, np, W, pk, cf, w1, w2, w3, w4, w5, w6, w7, of, pn⟩ := p0
  unfold m_pk at pk
  obtain rfl : s1 = s := by omega
  obtain rfl : st = 16 := by omega
  obtain ⟨w0, s0, y1, y2, y3, y4, hw⟩ := p1
  obtain rfl : s0 = s1 := by omega
  obtain rfl : w0 = 89 := by omega
  obtain ⟨uA, u0, u1, u2, u3⟩ := p2
  exact ⟨1, s0, by omega, by omega, by omega, m_mp1 (m_st_wn rfl cf (by decide) hw) (by omega)⟩
theorem k_mw16b {qn : Int} {qk : Int} {qs : Int} {qq : Int} {qv : Int} {wo : Int} {wf : Int} {wn : Int} {wc : Int} {wm : Int} {ws : Int} {wi : Int} {wl : Int} {ba : Int → Int} {xa : Int → Int} {xb : Int → Int} {xc : Int → Int} {xd : Int → Int} {xe : Int → Int} {xf : Int → Int} {xg : Int → Int} {xh : Int → Int} (hqn : 0 ≤ qn ∧ qn ≤ 900) (hqk : 0 ≤ qk ∧ qk ≤ 4) (hqs : 0 ≤ qs ∧ qs ≤ 900) (hqq : 0 ≤ qq ∧ qq ≤ 900) (hwo : 2 ≤ wo ∧ wo ≤ 13) (hwf : 1 ≤ wf ∧ wf ≤ 13) (hwn : 0 ≤ wn ∧ wn ≤ 96) (hwc : 0 ≤ wc ∧ wc ≤ 6) (hwm : 0 ≤ wm ∧ wm ≤ 4) (hws : 0 ≤ ws ∧ ws ≤ 6) (hwi : 0 ≤ wi ∧ wi ≤ 8) (hba : ∀ i, -128 ≤ ba i ∧ ba i ≤ 127) (hxe : ∀ i, 0 ≤ xe i ∧ xe i ≤ 12) {F G s q kk Y : Int} (p0 : p_CF ba qn wo wf wn wc wm ws wi wl xa xb xc xd xe xf xg xh (F)) (p1 : p_NI ba qn (G)) (p2 : p_CU ba qk qs qq qn qv (s)) (p3 : kk = qk) (p4 : q = qq) (c0 : 0 ≤ F + (-1) * s + (-65536) * Y + (-16384)) (c1 : 0 ≤ s + 65536 * Y + (-1) * F + 16384) (c2 : 0 ≤ G + (-1099511627776) * s + (-89)) (c3 : 0 ≤ 1099511627776 * s + (-1) * G + 89) (c4 : 0 ≤ (-1) * kk) (c5 : 0 ≤ s) (c6 : 0 ≤ (-1) * s + 900) (c7 : 0 ≤ Y) (c8 : 0 ≤ (-1) * Y + 4294967295) : p_HF ba qn (8 * s + 2) := by
  obtain ⟨st, s1, r1, r2, np, W, pk, cf, w1, w2, w3, w4, w5, w6, w7, of, pn⟩ := p0
  unfold m_pk at pk
  obtain rfl : s1 = s := by omega
  obtain rfl : st = 16 := by omega
  obtain ⟨w0, s0, y1, y2, y3, y4, hw⟩ := p1
  obtain rfl : s0 = s1 := by omega
  obtain rfl : w0 = 89 := by omega
  obtain ⟨uA, u0, u1, u2, u3⟩ := p2
  exact ⟨2, s0, by omega, by omega, by omega, m_mp2 (m_st_wn rfl cf (by decide) hw) (by omega)⟩
theorem k_mw16c {qn : Int} {qk : Int} {qs : Int} {qq : Int} {qv : Int} {wo : Int} {wf : Int} {wn : Int} {wc : Int} {wm : Int} {ws : Int} {wi : Int} {wl : Int} {ba : Int → Int} {xa : Int → Int} {xb : Int → Int} {xc : Int → Int} {xd : Int → Int} {xe : Int → Int} {xf : Int → Int} {xg : Int → Int} {xh : Int → Int} (hqn : 0 ≤ qn ∧ qn ≤ 900) (hqk : 0 ≤ qk ∧ qk ≤ 4) (hqs : 0 ≤ qs ∧ qs ≤ 900) (hqq : 0 ≤ qq ∧ qq ≤ 900) (hwo : 2 ≤ wo ∧ wo ≤ 13) (hwf : 1 ≤ wf ∧ wf ≤ 13) (hwn : 0 ≤ wn ∧ wn ≤ 96) (hwc : 0 ≤ wc ∧ wc ≤ 6) (hwm : 0 ≤ wm ∧ wm ≤ 4) (hws : 0 ≤ ws ∧ ws ≤ 6) (hwi : 0 ≤ wi ∧ wi ≤ 8) (hba : ∀ i, -128 ≤ ba i ∧ ba i ≤ 127) (hxe : ∀ i, 0 ≤ xe i ∧ xe i ≤ 12) {F G s q kk Y : Int} (p0 : p_CF ba qn wo wf wn wc wm ws wi wl xa xb xc xd xe xf xg xh (F)) (p1 : p_NI ba qn (G)) (p2 : p_CU ba qk qs qq qn qv (s)) (p3 : kk = qk) (p4 : q = qq) (c0 : 0 ≤ F + (-1) * s + (-65536) * Y + (-16384)) (c1 : 0 ≤ s + 65536 * Y + (-1) * F + 16384) (c2 : 0 ≤ G + (-1099511627776) * s + (-89)) (c3 : 0 ≤ 1099511627776 * s + (-1) * G + 89) (c4 : 0 ≤ kk + (-2)) (c5 : 0 ≤ s) (c6 : 0 ≤ (-1) * s + 900) (c7 : 0 ≤ Y) (c8 : 0 ≤ (-1) * Y + 4294967295) : p_HF ba qn (8 * s + 2) := by
  obtain ⟨st, s1, r1, r2, np, W, pk, cf, w1, w2, w3, w4, w5, w6, w7, of, pn⟩ := p0
  unfold m_pk at pk
  obtain rfl : s1 = s := by omega
  obtain rfl : st = 16 := by omega
  obtain ⟨w0, s0, y1, y2, y3, y4, hw⟩ := p1
  obtain rfl : s0 = s1 := by omega
  obtain rfl : w0 = 89 := by omega
  obtain ⟨uA, u0, u1, u2, u3⟩ := p2
  exact ⟨2, s0, by omega, by omega, by omega, m_mp2 (m_st_wn rfl cf (by decide) hw) (by omega)⟩
theorem k_wd19 {qn : Int} {qk : Int} {qs : Int} {qq : Int} {qv : Int} {wo : Int} {wf : Int} {wn : Int} {wc : Int} {wm : Int} {ws : Int} {wi : Int} {wl : Int} {ba : Int → Int} {xa : Int → Int} {xb : Int → Int} {xc : Int → Int} {xd : Int → Int} {xe : Int → Int} {xf : Int → Int} {xg : Int → Int} {xh : Int → Int} (hqn : 0 ≤ qn ∧ qn ≤ 900) (hqk : 0 ≤ qk ∧ qk ≤ 4) (hqs : 0 ≤ qs ∧ qs ≤ 900) (hqq : 0 ≤ qq ∧ qq ≤ 900) (hwo : 2 ≤ wo ∧ wo ≤ 13) (hwf : 1 ≤ wf ∧ wf ≤ 13) (hwn : 0 ≤ wn ∧ wn ≤ 96) (hwc : 0 ≤ wc ∧ wc ≤ 6) (hwm : 0 ≤ wm ∧ wm ≤ 4) (hws : 0 ≤ ws ∧ ws ≤ 6) (hwi : 0 ≤ wi ∧ wi ≤ 8) (hba : ∀ i, -128 ≤ ba i ∧ ba i ≤ 127) (hxe : ∀ i, 0 ≤ xe i ∧ xe i ≤ 12) {F G s q kk Y : Int} (p0 : p_CF ba qn wo wf wn wc wm ws wi wl xa xb xc xd xe xf xg xh (F)) (p1 : p_WI ba qn (G)) (p2 : p_CU ba qk qs qq qn qv (s)) (p3 : kk = qk) (p4 : q = qq) (c0 : 0 ≤ F + (-1) * s + (-65536) * Y + (-19456)) (c1 : 0 ≤ s + 65536 * Y + (-1) * F + 19456) (c2 : 0 ≤ G + (-1099511627776) * s + (-824370)) (c3 : 0 ≤ 1099511627776 * s + (-1) * G + 824370) (c4 : 0 ≤ q) (c5 : 0 ≤ (-1) * q + 1023) (c6 : 0 ≤ s) (c7 : 0 ≤ (-1) * s + 900) (c8 : 0 ≤ Y) (c9 : 0 ≤ (-1) * Y + 4294967295) : p_RDX ba qn wo wf wn wc wm ws wi wl xa xb xc xd xe xf xg xh (q + 65536 * Y + 20480) := by
  obtain ⟨st, s1, r1, r2, np, W, pk, cf, w1, w2, w3, w4, w5, w6, w7, of, pn⟩ := p0
  unfold m_pk at pk
  obtain rfl : s1 = s := by omega
  obtain rfl : st = 19 := by omega
  obtain ⟨w0, s0, y1, y2, y3, y4, hw⟩ := p1
  obtain rfl : s0 = s1 := by omega
  obtain rfl : w0 = 824370 := by omega
  obtain ⟨uA, u0, u1, u2, u3⟩ := p2
  have AT := m_st_w rfl cf (by decide) hw
  rw [← u2] at AT
  exact ⟨20, qq, r1, r2, np, W, (by unfold m_pk; omega), Or.inl ⟨by decide, AT⟩, w1, w2, w3, w4, w5, w6, w7, fun _ => of (by decide), fun h => absurd h (by unfold m_ps; decide)⟩
theorem k_mw19a {qn : Int} {qk : Int} {qs : Int} {qq : Int} {qv : Int} {wo : Int} {wf : Int} {wn : Int} {wc : Int} {wm : Int} {ws : Int} {wi : Int} {wl : Int} {ba : Int → Int} {xa : Int → Int} {xb : Int → Int} {xc : Int → Int} {xd : Int → Int} {xe : Int → Int} {xf : Int → Int} {xg : Int → Int} {xh : Int → Int} (hqn : 0 ≤ qn ∧ qn ≤ 900) (hqk : 0 ≤ qk ∧ qk ≤ 4) (hqs : 0 ≤ qs ∧ qs ≤ 900) (hqq : 0 ≤ qq ∧ qq ≤ 900) (hwo : 2 ≤ wo ∧ wo ≤ 13) (hwf : 1 ≤ wf ∧ wf ≤ 13) (hwn : 0 ≤ wn ∧ wn ≤ 96) (hwc : 0 ≤ wc ∧ wc ≤ 6) (hwm : 0 ≤ wm ∧ wm ≤ 4) (hws : 0 ≤ ws ∧ ws ≤ 6) (hwi : 0 ≤ wi ∧ wi ≤ 8) (hba : ∀ i, -128 ≤ ba i ∧ ba i ≤ 127) (hxe : ∀ i, 0 ≤ xe i ∧ xe i ≤ 12) {F G s q kk Y : Int} (p0 : p_CF ba qn wo wf wn wc wm ws wi wl xa xb xc xd xe xf xg xh (F)) (p1 : p_NI ba qn (G)) (p2 : p_CU ba qk qs qq qn qv (s)) (p3 : kk = qk) (p4 : q = qq) (c0 : 0 ≤ F + (-1) * s + (-65536) * Y + (-19456)) (c1 : 0 ≤ s + 65536 * Y + (-1) * F + 19456) (c2 : 0 ≤ G + (-1099511627776) * s + (-824370)) (c3 : 0 ≤ 1099511627776 * s + (-1) * G + 824370) (c4 : 0 ≤ kk + (-1)) (c5 : 0 ≤ (-1) * kk + 1) (c6 : 0 ≤ s) (c7 : 0 ≤ (-1) * s + 900) (c8 : 0 ≤ Y) (c9 : 0 ≤ (-1) * Y + 4294967295) : p_HF ba qn (8 * s + 1) := by
  obtain ⟨st, s1, r1, r2, np, W, pk, cf, w1, w2, w3, w4, w5, w6, w7, of, pn⟩ := p0
  unfold m_pk at pk
  obtain rfl : s1 = s := by omega
  obtain rfl : st = 19 := by omega
  obtain ⟨w0, s0, y1, y2, y3, y4, hw⟩ := p1
  obtain rfl : s0 = s1 := by omega
  obtain rfl : w0 = 824370 := by omega
  obtain ⟨uA, u0, u1, u2, u3⟩ := p2
  exact ⟨1, s0, by omega, by omega, by omega, m_mp1 (m_st_wn rfl cf (by decide) hw) (by omega)⟩
theorem k_mw19b {qn : Int} {qk : Int} {qs : Int} {qq : Int} {qv : Int} {wo : Int} {wf : Int} {wn : Int} {wc : Int} {wm : Int} {ws : Int} {wi : Int} {wl : Int} {ba : Int → Int} {xa : Int → Int} {xb : Int → Int} {xc : Int → Int} {xd : Int → Int} {xe : Int → Int} {xf : Int → Int} {xg : Int → Int} {xh : Int → Int} (hqn : 0 ≤ qn ∧ qn ≤ 900) (hqk : 0 ≤ qk ∧ qk ≤ 4) (hqs : 0 ≤ qs ∧ qs ≤ 900) (hqq : 0 ≤ qq ∧ qq ≤ 900) (hwo : 2 ≤ wo ∧ wo ≤ 13) (hwf : 1 ≤ wf ∧ wf ≤ 13) (hwn : 0 ≤ wn ∧ wn ≤ 96) (hwc : 0 ≤ wc ∧ wc ≤ 6) (hwm : 0 ≤ wm ∧ wm ≤ 4) (hws : 0 ≤ ws ∧ ws ≤ 6) (hwi : 0 ≤ wi ∧ wi ≤ 8) (hba : ∀ i, -128 ≤ ba i ∧ ba i ≤ 127) (hxe : ∀ i, 0 ≤ xe i ∧ xe i ≤ 12) {F G s q kk Y : Int} (p0 : p_CF ba qn wo wf wn wc wm ws wi wl xa xb xc xd xe xf xg xh (F)) (p1 : p_NI ba qn (G)) (p2 : p_CU ba qk qs qq qn qv (s)) (p3 : kk = qk) (p4 : q = qq) (c0 : 0 ≤ F + (-1) * s + (-65536) * Y + (-19456)) (c1 : 0 ≤ s + 65536 * Y + (-1) * F + 19456) (c2 : 0 ≤ G + (-1099511627776) * s + (-824370)) (c3 : 0 ≤ 1099511627776 * s + (-1) * G + 824370) (c4 : 0 ≤ (-1) * kk) (c5 : 0 ≤ s) (c6 : 0 ≤ (-1) * s + 900) (c7 : 0 ≤ Y) (c8 : 0 ≤ (-1) * Y + 4294967295) : p_HF ba qn (8 * s + 2) := by
  obtain ⟨st, s1, r1, r2, np, W, pk, cf, w1, w2, w3, w4, w5, w6, w7, of, pn⟩ := p0
  unfold m_pk at pk
  obtain rfl : s1 = s := by omega
  obtain rfl : st = 19 := by omega
  obtain ⟨w0, s0, y1, y2, y3, y4, hw⟩ := p1
  obtain rfl : s0 = s1 := by omega
  obtain rfl : w0 = 824370 := by omega
  obtain ⟨uA, u0, u1, u2, u3⟩ := p2
  exact ⟨2, s0, by omega, by omega, by omega, m_mp2 (m_st_wn rfl cf (by decide) hw) (by omega)⟩
theorem k_mw19c {qn : Int} {qk : Int} {qs : Int} {qq : Int} {qv : Int} {wo : Int} {wf : Int} {wn : Int} {wc : Int} {wm : Int} {ws : Int} {wi : Int} {wl : Int} {ba : Int → Int} {xa : Int → Int} {xb : Int → Int} {xc : Int → Int} {xd : Int → Int} {xe : Int → Int} {xf : Int → Int} {xg : Int → Int} {xh : Int → Int} (hqn : 0 ≤ qn ∧ qn ≤ 900) (hqk : 0 ≤ qk ∧ qk ≤ 4) (hqs : 0 ≤ qs ∧ qs ≤ 900) (hqq : 0 ≤ qq ∧ qq ≤ 900) (hwo : 2 ≤ wo ∧ wo ≤ 13) (hwf : 1 ≤ wf ∧ wf ≤ 13) (hwn : 0 ≤ wn ∧ wn ≤ 96) (hwc : 0 ≤ wc ∧ wc ≤ 6) (hwm : 0 ≤ wm ∧ wm ≤ 4) (hws : 0 ≤ ws ∧ ws ≤ 6) (hwi : 0 ≤ wi ∧ wi ≤ 8) (hba : ∀ i, -128 ≤ ba i ∧ ba i ≤ 127) (hxe : ∀ i, 0 ≤ xe i ∧ xe i ≤ 12) {F G s q kk Y : Int} (p0 : p_CF ba qn wo wf wn wc wm ws wi wl xa xb xc xd xe xf xg xh (F)) (p1 : p_NI ba qn (G)) (p2 : p_CU ba qk qs qq qn qv (s)) (p3 : kk = qk) (p4 : q = qq) (c0 : 0 ≤ F + (-1) * s + (-65536) * Y + (-19456)) (c1 : 0 ≤ s + 65536 * Y + (-1) * F + 19456) (c2 : 0 ≤ G + (-1099511627776) * s + (-824370)) (c3 : 0 ≤ 1099511627776 * s + (-1) * G + 824370) (c4 : 0 ≤ kk + (-2)) (c5 : 0 ≤ s) (c6 : 0 ≤ (-1) * s + 900) (c7 : 0 ≤ Y) (c8 : 0 ≤ (-1) * Y + 4294967295) : p_HF ba qn (8 * s + 2) := by
  obtain ⟨st, s1, r1, r2, np, W, pk, cf, w1, w2, w3, w4, w5, w6, w7, of, pn⟩ := p0
  unfold m_pk at pk
  obtain rfl : s1 = s := by omega
  obtain rfl : st = 19 := by omega
  obtain ⟨w0, s0, y1, y2, y3, y4, hw⟩ := p1
  obtain rfl : s0 = s1 := by omega
  obtain rfl : w0 = 824370 := by omega
  obtain ⟨uA, u0, u1, u2, u3⟩ := p2
  exact ⟨2, s0, by omega, by omega, by omega, m_mp2 (m_st_wn rfl cf (by decide) hw) (by omega)⟩
theorem k_si {qn : Int} {qk : Int} {qs : Int} {qq : Int} {qv : Int} {ba : Int → Int} (hqn : 0 ≤ qn ∧ qn ≤ 900) (hqk : 0 ≤ qk ∧ qk ≤ 4) (hqs : 0 ≤ qs ∧ qs ≤ 900) (hqq : 0 ≤ qq ∧ qq ≤ 900) (hba : ∀ i, -128 ≤ ba i ∧ ba i ≤ 127) {G s c kk q : Int} (p0 : p_BY ba (G)) (p1 : p_CU ba qk qs qq qn qv (s)) (p2 : kk = qk) (p3 : q = qq) (c0 : 0 ≤ G + (-256) * s + (-1) * c + (-128)) (c1 : 0 ≤ c + 256 * s + (-1) * G + 128) (c2 : 0 ≤ kk + (-4)) (c3 : 0 ≤ (-1) * kk + 4) (c4 : 0 ≤ s) (c5 : 0 ≤ (-1) * s + 900) (c6 : 0 ≤ c + 128) (c7 : 0 ≤ (-1) * c + 127) : p_SI ba qn (c + 256 * s + 128) := by
  obtain ⟨z1, j1, e1, ja1, jb1, za1, zb1, h1⟩ := p0
  have w1 : j1 = s := by omega
  rw [w1] at h1
  obtain ⟨uA, u0, u1, u2, u3⟩ := p1
  exact ⟨s, c, by omega, by omega, by omega, by omega, by omega, by omega⟩
theorem k_nsa {qn : Int} {qk : Int} {qs : Int} {qq : Int} {qv : Int} {ba : Int → Int} (hqn : 0 ≤ qn ∧ qn ≤ 900) (hqk : 0 ≤ qk ∧ qk ≤ 4) (hqs : 0 ≤ qs ∧ qs ≤ 900) (hqq : 0 ≤ qq ∧ qq ≤ 900) (hba : ∀ i, -128 ≤ ba i ∧ ba i ≤ 127) {G s c kk q : Int} (p0 : p_BY ba (G)) (p1 : p_CU ba qk qs qq qn qv (s)) (p2 : kk = qk) (p3 : q = qq) (c0 : 0 ≤ G + (-256) * s + (-1) * c + (-129)) (c1 : 0 ≤ G + (-256) * s) (c2 : 0 ≤ 256 * s + (-1) * G + 255) (c3 : 0 ≤ c + 128) (c4 : 0 ≤ (-1) * c + 127) (c5 : 0 ≤ s) (c6 : 0 ≤ (-1) * s + 900) : p_NSI ba qn (c + 256 * s + 128) := by
  obtain ⟨z1, j1, e1, ja1, jb1, za1, zb1, h1⟩ := p0
  have w1 : j1 = s := by omega
  rw [w1] at h1
  obtain ⟨uA, u0, u1, u2, u3⟩ := p1
  exact ⟨s, c, by omega, by omega, by omega, by omega, fun hh => by have := hh.2; omega⟩
theorem k_nsb {qn : Int} {qk : Int} {qs : Int} {qq : Int} {qv : Int} {ba : Int → Int} (hqn : 0 ≤ qn ∧ qn ≤ 900) (hqk : 0 ≤ qk ∧ qk ≤ 4) (hqs : 0 ≤ qs ∧ qs ≤ 900) (hqq : 0 ≤ qq ∧ qq ≤ 900) (hba : ∀ i, -128 ≤ ba i ∧ ba i ≤ 127) {G s c kk q : Int} (p0 : p_BY ba (G)) (p1 : p_CU ba qk qs qq qn qv (s)) (p2 : kk = qk) (p3 : q = qq) (c0 : 0 ≤ c + 256 * s + (-1) * G + 127) (c1 : 0 ≤ G + (-256) * s) (c2 : 0 ≤ 256 * s + (-1) * G + 255) (c3 : 0 ≤ c + 128) (c4 : 0 ≤ (-1) * c + 127) (c5 : 0 ≤ s) (c6 : 0 ≤ (-1) * s + 900) : p_NSI ba qn (c + 256 * s + 128) := by
  obtain ⟨z1, j1, e1, ja1, jb1, za1, zb1, h1⟩ := p0
  have w1 : j1 = s := by omega
  rw [w1] at h1
  obtain ⟨uA, u0, u1, u2, u3⟩ := p1
  exact ⟨s, c, by omega, by omega, by omega, by omega, fun hh => by have := hh.2; omega⟩
theorem k_nsc {qn : Int} {qk : Int} {qs : Int} {qq : Int} {qv : Int} {ba : Int → Int} (hqn : 0 ≤ qn ∧ qn ≤ 900) (hqk : 0 ≤ qk ∧ qk ≤ 4) (hqs : 0 ≤ qs ∧ qs ≤ 900) (hqq : 0 ≤ qq ∧ qq ≤ 900) (hba : ∀ i, -128 ≤ ba i ∧ ba i ≤ 127) {s c kk q : Int} (p0 : p_CU ba qk qs qq qn qv (s)) (p1 : kk = qk) (p2 : q = qq) (c0 : 0 ≤ (-1) * kk + 3) (c1 : 0 ≤ c + 128) (c2 : 0 ≤ (-1) * c + 127) (c3 : 0 ≤ s) (c4 : 0 ≤ (-1) * s + 900) : p_NSI ba qn (c + 256 * s + 128) := by
  obtain ⟨uA, u0, u1, u2, u3⟩ := p0
  exact ⟨s, c, by omega, by omega, by omega, by omega, fun hh => by have := hh.1; omega⟩
theorem k_nsd {qn : Int} {qk : Int} {qs : Int} {qq : Int} {qv : Int} {ba : Int → Int} (hqn : 0 ≤ qn ∧ qn ≤ 900) (hqk : 0 ≤ qk ∧ qk ≤ 4) (hqs : 0 ≤ qs ∧ qs ≤ 900) (hqq : 0 ≤ qq ∧ qq ≤ 900) (hba : ∀ i, -128 ≤ ba i ∧ ba i ≤ 127) {s c kk q : Int} (p0 : p_CU ba qk qs qq qn qv (s)) (p1 : kk = qk) (p2 : q = qq) (c0 : 0 ≤ kk + (-5)) (c1 : 0 ≤ c + 128) (c2 : 0 ≤ (-1) * c + 127) (c3 : 0 ≤ s) (c4 : 0 ≤ (-1) * s + 900) : p_NSI ba qn (c + 256 * s + 128) := by
  obtain ⟨uA, u0, u1, u2, u3⟩ := p0
  exact ⟨s, c, by omega, by omega, by omega, by omega, fun hh => by have := hh.1; omega⟩
theorem k_sm4 {qn : Int} {qk : Int} {qs : Int} {qq : Int} {qv : Int} {wo : Int} {wf : Int} {wn : Int} {wc : Int} {wm : Int} {ws : Int} {wi : Int} {wl : Int} {ba : Int → Int} {xa : Int → Int} {xb : Int → Int} {xc : Int → Int} {xd : Int → Int} {xe : Int → Int} {xf : Int → Int} {xg : Int → Int} {xh : Int → Int} (hqn : 0 ≤ qn ∧ qn ≤ 900) (hqk : 0 ≤ qk ∧ qk ≤ 4) (hqs : 0 ≤ qs ∧ qs ≤ 900) (hqq : 0 ≤ qq ∧ qq ≤ 900) (hwo : 2 ≤ wo ∧ wo ≤ 13) (hwf : 1 ≤ wf ∧ wf ≤ 13) (hwn : 0 ≤ wn ∧ wn ≤ 96) (hwc : 0 ≤ wc ∧ wc ≤ 6) (hwm : 0 ≤ wm ∧ wm ≤ 4) (hws : 0 ≤ ws ∧ ws ≤ 6) (hwi : 0 ≤ wi ∧ wi ≤ 8) (hba : ∀ i, -128 ≤ ba i ∧ ba i ≤ 127) (hxe : ∀ i, 0 ≤ xe i ∧ xe i ≤ 12) {F G s q kk Y : Int} (p0 : p_CFA ba qn wo wf wn wc wm ws wi wl xa xb xc xd xe xf xg xh (F)) (p1 : p_SI ba qn (G)) (p2 : p_CU ba qk qs qq qn qv (s)) (p3 : kk = qk) (p4 : q = qq) (c0 : 0 ≤ F + (-1) * s + (-65536) * Y + (-4096)) (c1 : 0 ≤ s + 65536 * Y + (-1) * F + 4096) (c2 : 0 ≤ G + (-256) * s + (-187)) (c3 : 0 ≤ 256 * s + (-1) * G + 187) (c4 : 0 ≤ q) (c5 : 0 ≤ (-1) * q + 1023) (c6 : 0 ≤ s) (c7 : 0 ≤ (-1) * s + 900) (c8 : 0 ≤ Y) (c9 : 0 ≤ (-1) * Y + 4294967295) : p_RDX ba qn wo wf wn wc wm ws wi wl xa xb xc xd xe xf xg xh (q + 5120) := by
  obtain ⟨st, s1, r1, r2, np, W0, W, pk, cf, sv, eW, w1, w2, w3, w4, w5, w6, w7, of⟩ := p0
  unfold m_pk at pk
  obtain rfl : s1 = s := by omega
  obtain rfl : st = 4 := by omega
  obtain ⟨s0, c0, y1, y2, y3, y4, hw⟩ := p1
  obtain ⟨rfl, rfl⟩ : s0 = s1 ∧ c0 = 59 := by omega
  obtain ⟨uA, u0, u1, u2, u3⟩ := p2
  have AT := m_st_s (o := m_go 5 (m_sk ba qn (m_te ba qn s0)) 0 0 0 (m_cm 4 r1 r2 np W0)) rfl cf (by decide) hw
  rw [← u2, ← eW] at AT
  exact ⟨5, qq, 0, 0, 0, W, (by unfold m_pk; omega), Or.inl ⟨by decide, AT⟩, w1, w2, w3, w4, w5, w6, w7, of, fun h => absurd h (by unfold m_ps; decide)⟩
theorem k_ms4a {qn : Int} {qk : Int} {qs : Int} {qq : Int} {qv : Int} {wo : Int} {wf : Int} {wn : Int} {wc : Int} {wm : Int} {ws : Int} {wi : Int} {wl : Int} {ba : Int → Int} {xa : Int → Int} {xb : Int → Int} {xc : Int → Int} {xd : Int → Int} {xe : Int → Int} {xf : Int → Int} {xg : Int → Int} {xh : Int → Int} (hqn : 0 ≤ qn ∧ qn ≤ 900) (hqk : 0 ≤ qk ∧ qk ≤ 4) (hqs : 0 ≤ qs ∧ qs ≤ 900) (hqq : 0 ≤ qq ∧ qq ≤ 900) (hwo : 2 ≤ wo ∧ wo ≤ 13) (hwf : 1 ≤ wf ∧ wf ≤ 13) (hwn : 0 ≤ wn ∧ wn ≤ 96) (hwc : 0 ≤ wc ∧ wc ≤ 6) (hwm : 0 ≤ wm ∧ wm ≤ 4) (hws : 0 ≤ ws ∧ ws ≤ 6) (hwi : 0 ≤ wi ∧ wi ≤ 8) (hba : ∀ i, -128 ≤ ba i ∧ ba i ≤ 127) (hxe : ∀ i, 0 ≤ xe i ∧ xe i ≤ 12) {F G s q kk Y : Int} (p0 : p_CFA ba qn wo wf wn wc wm ws wi wl xa xb xc xd xe xf xg xh (F)) (p1 : p_NSI ba qn (G)) (p2 : p_CU ba qk qs qq qn qv (s)) (p3 : kk = qk) (p4 : q = qq) (c0 : 0 ≤ F + (-1) * s + (-65536) * Y + (-4096)) (c1 : 0 ≤ s + 65536 * Y + (-1) * F + 4096) (c2 : 0 ≤ G + (-256) * s + (-187)) (c3 : 0 ≤ 256 * s + (-1) * G + 187) (c4 : 0 ≤ kk + (-1)) (c5 : 0 ≤ (-1) * kk + 1) (c6 : 0 ≤ s) (c7 : 0 ≤ (-1) * s + 900) (c8 : 0 ≤ Y) (c9 : 0 ≤ (-1) * Y + 4294967295) : p_HF ba qn (8 * s + 1) := by
  obtain ⟨st, s1, r1, r2, np, W0, W, pk, cf, sv, eW, w1, w2, w3, w4, w5, w6, w7, of⟩ := p0
  unfold m_pk at pk
  obtain rfl : s1 = s := by omega
  obtain rfl : st = 4 := by omega
  obtain ⟨s0, c0, y1, y2, y3, y4, hw⟩ := p1
  obtain ⟨rfl, rfl⟩ : s0 = s1 ∧ c0 = 59 := by omega
  obtain ⟨uA, u0, u1, u2, u3⟩ := p2
  exact ⟨1, s0, by omega, by omega, by omega, m_mp1 (m_st_sn (o := m_go 5 (m_sk ba qn (m_te ba qn s0)) 0 0 0 (m_cm 4 r1 r2 np W0)) rfl cf (by decide) hw) (by omega)⟩
theorem k_ms4b {qn : Int} {qk : Int} {qs : Int} {qq : Int} {qv : Int} {wo : Int} {wf : Int} {wn : Int} {wc : Int} {wm : Int} {ws : Int} {wi : Int} {wl : Int} {ba : Int → Int} {xa : Int → Int} {xb : Int → Int} {xc : Int → Int} {xd : Int → Int} {xe : Int → Int} {xf : Int → Int} {xg : Int → Int} {xh : Int → Int} (hqn : 0 ≤ qn ∧ qn ≤ 900) (hqk : 0 ≤ qk ∧ qk ≤ 4) (hqs : 0 ≤ qs ∧ qs ≤ 900) (hqq : 0 ≤ qq ∧ qq ≤ 900) (hwo : 2 ≤ wo ∧ wo ≤ 13) (hwf : 1 ≤ wf ∧ wf ≤ 13) (hwn : 0 ≤ wn ∧ wn ≤ 96) (hwc : 0 ≤ wc ∧ wc ≤ 6) (hwm : 0 ≤ wm ∧ wm ≤ 4) (hws : 0 ≤ ws ∧ ws ≤ 6) (hwi : 0 ≤ wi ∧ wi ≤ 8) (hba : ∀ i, -128 ≤ ba i ∧ ba i ≤ 127) (hxe : ∀ i, 0 ≤ xe i ∧ xe i ≤ 12) {F G s q kk Y : Int} (p0 : p_CFA ba qn wo wf wn wc wm ws wi wl xa xb xc xd xe xf xg xh (F)) (p1 : p_NSI ba qn (G)) (p2 : p_CU ba qk qs qq qn qv (s)) (p3 : kk = qk) (p4 : q = qq) (c0 : 0 ≤ F + (-1) * s + (-65536) * Y + (-4096)) (c1 : 0 ≤ s + 65536 * Y + (-1) * F + 4096) (c2 : 0 ≤ G + (-256) * s + (-187)) (c3 : 0 ≤ 256 * s + (-1) * G + 187) (c4 : 0 ≤ (-1) * kk) (c5 : 0 ≤ s) (c6 : 0 ≤ (-1) * s + 900) (c7 : 0 ≤ Y) (c8 : 0 ≤ (-1) * Y + 4294967295) : p_HF ba qn (8 * s + 2) := by
  obtain ⟨st, s1, r1, r2, np, W0, W, pk, cf, sv, eW, w1, w2, w3, w4, w5, w6, w7, of⟩ := p0
  unfold m_pk at pk
  obtain rfl : s1 = s := by omega
  obtain rfl : st = 4 := by omega
  obtain ⟨s0, c0, y1, y2, y3, y4, hw⟩ := p1
  obtain ⟨rfl, rfl⟩ : s0 = s1 ∧ c0 = 59 := by omega
  obtain ⟨uA, u0, u1, u2, u3⟩ := p2
  exact ⟨2, s0, by omega, by omega, by omega, m_mp2 (m_st_sn (o := m_go 5 (m_sk ba qn (m_te ba qn s0)) 0 0 0 (m_cm 4 r1 r2 np W0)) rfl cf (by decide) hw) (by omega)⟩
theorem k_ms4c {qn : Int} {qk : Int} {qs : Int} {qq : Int} {qv : Int} {wo : Int} {wf : Int} {wn : Int} {wc : Int} {wm : Int} {ws : Int} {wi : Int} {wl : Int} {ba : Int → Int} {xa : Int → Int} {xb : Int → Int} {xc : Int → Int} {xd : Int → Int} {xe : Int → Int} {xf : Int → Int} {xg : Int → Int} {xh : Int → Int} (hqn : 0 ≤ qn ∧ qn ≤ 900) (hqk : 0 ≤ qk ∧ qk ≤ 4) (hqs : 0 ≤ qs ∧ qs ≤ 900) (hqq : 0 ≤ qq ∧ qq ≤ 900) (hwo : 2 ≤ wo ∧ wo ≤ 13) (hwf : 1 ≤ wf ∧ wf ≤ 13) (hwn : 0 ≤ wn ∧ wn ≤ 96) (hwc : 0 ≤ wc ∧ wc ≤ 6) (hwm : 0 ≤ wm ∧ wm ≤ 4) (hws : 0 ≤ ws ∧ ws ≤ 6) (hwi : 0 ≤ wi ∧ wi ≤ 8) (hba : ∀ i, -128 ≤ ba i ∧ ba i ≤ 127) (hxe : ∀ i, 0 ≤ xe i ∧ xe i ≤ 12) {F G s q kk Y : Int} (p0 : p_CFA ba qn wo wf wn wc wm ws wi wl xa xb xc xd xe xf xg xh (F)) (p1 : p_NSI ba qn (G)) (p2 : p_CU ba qk qs qq qn qv (s)) (p3 : kk = qk) (p4 : q = qq) (c0 : 0 ≤ F + (-1) * s + (-65536) * Y + (-4096)) (c1 : 0 ≤ s + 65536 * Y + (-1) * F + 4096) (c2 : 0 ≤ G + (-256) * s + (-187)) (c3 : 0 ≤ 256 * s + (-1) * G + 187) (c4 : 0 ≤ kk + (-2)) (c5 : 0 ≤ s) (c6 : 0 ≤ (-1) * s + 900) (c7 : 0 ≤ Y) (c8 : 0 ≤ (-1) * Y + 4294967295) : p_HF ba qn (8 * s + 2) := by
  obtain ⟨st, s1, r1, r2, np, W0, W, pk, cf, sv, eW, w1, w2, w3, w4, w5, w6, w7, of⟩ := p0
  unfold m_pk at pk
  obtain rfl : s1 = s := by omega
  obtain rfl : st = 4 := by omega
  obtain ⟨s0, c0, y1, y2, y3, y4, hw⟩ := p1
  obtain ⟨rfl, rfl⟩ : s0 = s1 ∧ c0 = 59 := by omega
  obtain ⟨uA, u0, u1, u2, u3⟩ := p2
  exact ⟨2, s0, by omega, by omega, by omega, m_mp2 (m_st_sn (o := m_go 5 (m_sk ba qn (m_te ba qn s0)) 0 0 0 (m_cm 4 r1 r2 np W0)) rfl cf (by decide) hw) (by omega)⟩
theorem k_sm10 {qn : Int} {qk : Int} {qs : Int} {qq : Int} {qv : Int} {wo : Int} {wf : Int} {wn : Int} {wc : Int} {wm : Int} {ws : Int} {wi : Int} {wl : Int} {ba : Int → Int} {xa : Int → Int} {xb : Int → Int} {xc : Int → Int} {xd : Int → Int} {xe : Int → Int} {xf : Int → Int} {xg : Int → Int} {xh : Int → Int} (hqn : 0 ≤ qn ∧ qn ≤ 900) (hqk : 0 ≤ qk ∧ qk ≤ 4) (hqs : 0 ≤ qs ∧ qs ≤ 900) (hqq : 0 ≤ qq ∧ qq ≤ 900) (hwo : 2 ≤ wo ∧ wo ≤ 13) (hwf : 1 ≤ wf ∧ wf ≤ 13) (hwn : 0 ≤ wn ∧ wn ≤ 96) (hwc : 0 ≤ wc ∧ wc ≤ 6) (hwm : 0 ≤ wm ∧ wm ≤ 4) (hws : 0 ≤ ws ∧ ws ≤ 6) (hwi : 0 ≤ wi ∧ wi ≤ 8) (hba : ∀ i, -128 ≤ ba i ∧ ba i ≤ 127) (hxe : ∀ i, 0 ≤ xe i ∧ xe i ≤ 12) {F G s q kk Y : Int} (p0 : p_CFA ba qn wo wf wn wc wm ws wi wl xa xb xc xd xe xf xg xh (F)) (p1 : p_SI ba qn (G)) (p2 : p_CU ba qk qs qq qn qv (s)) (p3 : kk = qk) (p4 : q = qq) (c0 : 0 ≤ F + (-1) * s + (-65536) * Y + (-10240)) (c1 : 0 ≤ s + 65536 * Y + (-1) * F + 10240) (c2 : 0 ≤ G + (-256) * s + (-187)) (c3 : 0 ≤ 256 * s + (-1) * G + 187) (c4 : 0 ≤ q) (c5 : 0 ≤ (-1) * q + 1023) (c6 : 0 ≤ s) (c7 : 0 ≤ (-1) * s + 900) (c8 : 0 ≤ Y) (c9 : 0 ≤ (-1) * Y + 4294967295) : p_RDX ba qn wo wf wn wc wm ws wi wl xa xb xc xd xe xf xg xh (q + 5120) := by
  obtain ⟨st, s1, r1, r2, np, W0, W, pk, cf, sv, eW, w1, w2, w3, w4, w5, w6, w7, of⟩ := p0
  unfold m_pk at pk
  obtain rfl : s1 = s := by omega
  obtain rfl : st = 10 := by omega
  obtain ⟨s0, c0, y1, y2, y3, y4, hw⟩ := p1
  obtain ⟨rfl, rfl⟩ : s0 = s1 ∧ c0 = 59 := by omega
  obtain ⟨uA, u0, u1, u2, u3⟩ := p2
  have AT := m_st_s (o := m_go 5 (m_sk ba qn (m_te ba qn s0)) 0 0 0 (m_cm 10 r1 r2 np W0)) rfl cf (by decide) hw
  rw [← u2, ← eW] at AT
  exact ⟨5, qq, 0, 0, 0, W, (by unfold m_pk; omega), Or.inl ⟨by decide, AT⟩, w1, w2, w3, w4, w5, w6, w7, of, fun h => absurd h (by unfold m_ps; decide)⟩
theorem k_ms10a {qn : Int} {qk : Int} {qs : Int} {qq : Int} {qv : Int} {wo : Int} {wf : Int} {wn : Int} {wc : Int} {wm : Int} {ws : Int} {wi : Int} {wl : Int} {ba : Int → Int} {xa : Int → Int} {xb : Int → Int} {xc : Int → Int} {xd : Int → Int} {xe : Int → Int} {xf : Int → Int} {xg : Int → Int} {xh : Int → Int} (hqn : 0 ≤ qn ∧ qn ≤ 900) (hqk : 0 ≤ qk ∧ qk ≤ 4) (hqs : 0 ≤ qs ∧ qs ≤ 900) (hqq : 0 ≤ qq ∧ qq ≤ 900) (hwo : 2 ≤ wo ∧ wo ≤ 13) (hwf : 1 ≤ wf ∧ wf ≤ 13) (hwn : 0 ≤ wn ∧ wn ≤ 96) (hwc : 0 ≤ wc ∧ wc ≤ 6) (hwm : 0 ≤ wm ∧ wm ≤ 4) (hws : 0 ≤ ws ∧ ws ≤ 6) (hwi : 0 ≤ wi ∧ wi ≤ 8) (hba : ∀ i, -128 ≤ ba i ∧ ba i ≤ 127) (hxe : ∀ i, 0 ≤ xe i ∧ xe i ≤ 12) {F G s q kk Y : Int} (p0 : p_CFA ba qn wo wf wn wc wm ws wi wl xa xb xc xd xe xf xg xh (F)) (p1 : p_NSI ba qn (G)) (p2 : p_CU ba qk qs qq qn qv (s)) (p3 : kk = qk) (p4 : q = qq) (c0 : 0 ≤ F + (-1) * s + (-65536) * Y + (-10240)) (c1 : 0 ≤ s + 65536 * Y + (-1) * F + 10240) (c2 : 0 ≤ G + (-256) * s + (-187)) (c3 : 0 ≤ 256 * s + (-1) * G + 187) (c4 : 0 ≤ kk + (-1)) (c5 : 0 ≤ (-1) * kk + 1) (c6 : 0 ≤ s) (c7 : 0 ≤ (-1) * s + 900) (c8 : 0 ≤ Y) (c9 : 0 ≤ (-1) * Y + 4294967295) : p_HF ba qn (8 * s + 1) := by
  obtain ⟨st, s1, r1, r2, np, W0, W, pk, cf, sv, eW, w1, w2, w3, w4, w5, w6, w7, of⟩ := p0
  unfold m_pk at pk
  obtain rfl : s1 = s := by omega
  obtain rfl : st = 10 := by omega
  obtain ⟨s0, c0, y1, y2, y3, y4, hw⟩ := p1
  obtain ⟨rfl, rfl⟩ : s0 = s1 ∧ c0 = 59 := by omega
  obtain ⟨uA, u0, u1, u2, u3⟩ := p2
  exact ⟨1, s0, by omega, by omega, by omega, m_mp1 (m_st_sn (o := m_go 5 (m_sk ba qn (m_te ba qn s0)) 0 0 0 (m_cm 10 r1 r2 np W0)) rfl cf (by decide) hw) (by omega)⟩
theorem k_ms10b {qn : Int} {qk : Int} {qs : Int} {qq : Int} {qv : Int} {wo : Int} {wf : Int} {wn : Int} {wc : Int} {wm : Int} {ws : Int} {wi : Int} {wl : Int} {ba : Int → Int} {xa : Int → Int} {xb : Int → Int} {xc : Int → Int} {xd : Int → Int} {xe : Int → Int} {xf : Int → Int} {xg : Int → Int} {xh : Int → Int} (hqn : 0 ≤ qn ∧ qn ≤ 900) (hqk : 0 ≤ qk ∧ qk ≤ 4) (hqs : 0 ≤ qs ∧ qs ≤ 900) (hqq : 0 ≤ qq ∧ qq ≤ 900) (hwo : 2 ≤ wo ∧ wo ≤ 13) (hwf : 1 ≤ wf ∧ wf ≤ 13) (hwn : 0 ≤ wn ∧ wn ≤ 96) (hwc : 0 ≤ wc ∧ wc ≤ 6) (hwm : 0 ≤ wm ∧ wm ≤ 4) (hws : 0 ≤ ws ∧ ws ≤ 6) (hwi : 0 ≤ wi ∧ wi ≤ 8) (hba : ∀ i, -128 ≤ ba i ∧ ba i ≤ 127) (hxe : ∀ i, 0 ≤ xe i ∧ xe i ≤ 12) {F G s q kk Y : Int} (p0 : p_CFA ba qn wo wf wn wc wm ws wi wl xa xb xc xd xe xf xg xh (F)) (p1 : p_NSI ba qn (G)) (p2 : p_CU ba qk qs qq qn qv (s)) (p3 : kk = qk) (p4 : q = qq) (c0 : 0 ≤ F + (-1) * s + (-65536) * Y + (-10240)) (c1 : 0 ≤ s + 65536 * Y + (-1) * F + 10240) (c2 : 0 ≤ G + (-256) * s + (-187)) (c3 : 0 ≤ 256 * s + (-1) * G + 187) (c4 : 0 ≤ (-1) * kk) (c5 : 0 ≤ s) (c6 : 0 ≤ (-1) * s + 900) (c7 : 0 ≤ Y) (c8 : 0 ≤ (-1) * Y + 4294967295) : p_HF ba qn (8 * s + 2) := by
  obtain ⟨st, s1, r1, r2, np, W0, W, pk, cf, sv, eW, w1, w2, w3, w4, w5, w6, w7, of⟩ := p0
  unfold m_pk at pk
  obtain rfl : s1 = s := by omega
  obtain rfl : st = 10 := by omega
  obtain ⟨s0, c0, y1, y2, y3, y4, hw⟩ := p1
  obtain ⟨rfl, rfl⟩ : s0 = s1 ∧ c0 = 59 := by omega
  obtain ⟨uA, u0, u1, u2, u3⟩ := p2
  exact ⟨2, s0, by omega, by omega, by omega, m_mp2 (m_st_sn (o := m_go 5 (m_sk ba qn (m_te ba qn s0)) 0 0 0 (m_cm 10 r1 r2 np W0)) rfl cf (by decide) hw) (by omega)⟩
