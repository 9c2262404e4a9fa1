-- 68a91.short: what the rules use (printed by wip/p5/gen68.py)
theorem g_NV1 {h : qH} {x : Nat → Int} {a b : Nat} {F : aF} (hp : a_Rp q_SP 557 h x (576460752304472191, a, b, F)) : p_NV1 (m_ac (m_gh h) 469 0 60) (m_ep x F) := by
  have e := m_gR (by decide +kernel) hp
  rw [f_NV1] at e
  exact e
theorem g_TE2 {h : qH} {x : Nat → Int} {a b : Nat} {F : aF} (hp : a_Rp q_SP 557 h x (3170551729855922288, a, b, F)) : p_TE2 (m_ac (m_gh h) 467 0 60) (m_ac (m_gh h) 469 0 60) (m_ac (m_gh h) 473 0 60) (m_ac (m_gh h) 537 0 240) (m_ep x F) := by
  have e := m_gR (by decide +kernel) hp
  rw [f_TE2] at e
  exact e
theorem g_TZ2 {h : qH} {x : Nat → Int} {a b : Nat} {F : aF} (hp : a_Rp q_SP 557 h x (1152921504607895668, a, b, F)) : p_TZ2 (m_ac (m_gh h) 471 0 60) (m_ep x F) := by
  have e := m_gR (by decide +kernel) hp
  rw [f_TZ2] at e
  exact e
theorem g_TM2 {h : qH} {x : Nat → Int} {a b : Nat} {F : aF} (hp : a_Rp q_SP 557 h x (17592187093112, a, b, F)) : p_TM2 (m_ac (m_gh h) 537 0 240) (m_ep x F) := by
  have e := m_gR (by decide +kernel) hp
  rw [f_TM2] at e
  exact e
theorem g_EX2 {h : qH} {x : Nat → Int} {a b : Nat} {F : aF} (hp : a_Rp q_SP 557 h x (4323473234462769276, a, b, F)) : p_EX2 (m_ac (m_gh h) 467 0 60) (m_ac (m_gh h) 469 0 60) (m_ac (m_gh h) 471 0 60) (m_ac (m_gh h) 473 0 60) (m_ac (m_gh h) 537 0 240) (m_ep x F) := by
  have e := m_gR (by decide +kernel) hp
  rw [f_EX2] at e
  exact e
theorem g_NV2 {h : qH} {x : Nat → Int} {a b : Nat} {F : aF} (hp : a_Rp q_SP 557 h x (1152921504607895680, a, b, F)) : p_NV2 (m_ac (m_gh h) 471 0 60) (m_ep x F) := by
  have e := m_gR (by decide +kernel) hp
  rw [f_NV2] at e
  exact e
theorem g_TE3 {h : qH} {x : Nat → Int} {a b : Nat} {F : aF} (hp : a_Rp q_SP 557 h x (2017630225249075313, a, b, F)) : p_TE3 (m_ac (m_gh h) 467 0 60) (m_ac (m_gh h) 469 0 60) (m_ac (m_gh h) 471 0 60) (m_ac (m_gh h) 537 0 240) (m_ep x F) := by
  have e := m_gR (by decide +kernel) hp
  rw [f_TE3] at e
  exact e
theorem g_TZ3 {h : qH} {x : Nat → Int} {a b : Nat} {F : aF} (hp : a_Rp q_SP 557 h x (2305843009214742645, a, b, F)) : p_TZ3 (m_ac (m_gh h) 473 0 60) (m_ep x F) := by
  have e := m_gR (by decide +kernel) hp
  rw [f_TZ3] at e
  exact e
theorem g_TM3 {h : qH} {x : Nat → Int} {a b : Nat} {F : aF} (hp : a_Rp q_SP 557 h x (17592187093113, a, b, F)) : p_TM3 (m_ac (m_gh h) 537 0 240) (m_ep x F) := by
  have e := m_gR (by decide +kernel) hp
  rw [f_TM3] at e
  exact e
theorem g_EX3 {h : qH} {x : Nat → Int} {a b : Nat} {F : aF} (hp : a_Rp q_SP 557 h x (4323473234462769277, a, b, F)) : p_EX3 (m_ac (m_gh h) 467 0 60) (m_ac (m_gh h) 469 0 60) (m_ac (m_gh h) 471 0 60) (m_ac (m_gh h) 473 0 60) (m_ac (m_gh h) 537 0 240) (m_ep x F) := by
  have e := m_gR (by decide +kernel) hp
  rw [f_EX3] at e
  exact e
theorem g_NV3 {h : qH} {x : Nat → Int} {a b : Nat} {F : aF} (hp : a_Rp q_SP 557 h x (2305843009214742657, a, b, F)) : p_NV3 (m_ac (m_gh h) 473 0 60) (m_ep x F) := by
  have e := m_gR (by decide +kernel) hp
  rw [f_NV3] at e
  exact e
theorem g_NL {h : qH} {x : Nat → Int} {a b : Nat} {F : aF} (hp : a_Rp q_SP 557 h x (17592187093125, a, b, F)) : p_NL (m_ac (m_gh h) 537 0 240) (m_ep x F) := by
  have e := m_gR (by decide +kernel) hp
  rw [f_NL] at e
  exact e
theorem g_PP {h : qH} {x : Nat → Int} {a b : Nat} {F : aF} (hp : a_Rp q_SP 557 h x (4323473234462769282, a, b, F)) : p_PP (m_ac (m_gh h) 467 0 60) (m_ac (m_gh h) 469 0 60) (m_ac (m_gh h) 471 0 60) (m_ac (m_gh h) 473 0 60) (m_ac (m_gh h) 537 0 240) (m_ep x F) := by
  have e := m_gR (by decide +kernel) hp
  rw [f_PP] at e
  exact e
theorem g_GA {h : qH} {x : Nat → Int} {a b : Nat} {F : aF} (hp : a_Rp q_SP 557 h x (4323473234462769283, a, b, F)) : p_GA (m_ac (m_gh h) 467 0 60) (m_ac (m_gh h) 469 0 60) (m_ac (m_gh h) 471 0 60) (m_ac (m_gh h) 473 0 60) (m_ac (m_gh h) 537 0 240) (m_ep x F) := by
  have e := m_gR (by decide +kernel) hp
  rw [f_GA] at e
  exact e
theorem g_GD {h : qH} {x : Nat → Int} {a b : Nat} {F : aF} (hp : a_Rp q_SP 557 h x (4323473234462769284, a, b, F)) : p_GD (m_ac (m_gh h) 467 0 60) (m_ac (m_gh h) 469 0 60) (m_ac (m_gh h) 471 0 60) (m_ac (m_gh h) 473 0 60) (m_ac (m_gh h) 537 0 240) (m_ep x F) := by
  have e := m_gR (by decide +kernel) hp
  rw [f_GD] at e
  exact e
theorem g_SK {h : qH} {x : Nat → Int} {a b : Nat} {F : aF} (hp : a_Rp q_SP 557 h x (13835058055283212429, a, b, F)) : p_SK (m_ac (m_gh h) 3 0 900) (m_gh h 2 7) (m_ep x F) := by
  have e := m_gR (by decide +kernel) hp
  rw [f_SK] at e
  exact e
theorem g_NX {h : qH} {x : Nat → Int} {a b : Nat} {F : aF} (hp : a_Rp q_SP 557 h x (13835058055283212430, a, b, F)) : p_NX (m_ac (m_gh h) 3 0 900) (m_gh h 2 7) (m_ep x F) := by
  have e := m_gR (by decide +kernel) hp
  rw [f_NX] at e
  exact e
theorem g_SKR {h : qH} {x : Nat → Int} {a b : Nat} {F : aF} (hp : a_Rp q_SP 557 h x (4835703278493701071962275, a, b, F)) : p_SKR (m_ac (m_gh h) 538 0 900) (m_gh h 534 9) (m_ep x F) := by
  have e := m_gR (by decide +kernel) hp
  rw [f_SKR] at e
  exact e
theorem g_NXR {h : qH} {x : Nat → Int} {a b : Nat} {F : aF} (hp : a_Rp q_SP 557 h x (4835703278493701071962276, a, b, F)) : p_NXR (m_ac (m_gh h) 538 0 900) (m_gh h 534 9) (m_ep x F) := by
  have e := m_gR (by decide +kernel) hp
  rw [f_NXR] at e
  exact e
theorem g_BY {h : qH} {x : Nat → Int} {a b : Nat} {F : aF} (hp : a_Rp q_SP 557 h x (4611686018428436620, a, b, F)) : p_BY (m_ac (m_gh h) 3 0 900) (m_ep x F) := by
  have e := m_gR (by decide +kernel) hp
  rw [f_BY] at e
  exact e
theorem g_BYB {h : qH} {x : Nat → Int} {a b : Nat} {F : aF} (hp : a_Rp q_SP 557 h x (4611686018428436702, a, b, F)) : p_BYB (m_ac (m_gh h) 3 0 900) (m_ep x F) := by
  have e := m_gR (by decide +kernel) hp
  rw [f_BYB] at e
  exact e
theorem g_BR {h : qH} {x : Nat → Int} {a b : Nat} {F : aF} (hp : a_Rp q_SP 557 h x (35184373137568, a, b, F)) : p_BR (m_ac (m_gh h) 538 0 900) (m_ep x F) := by
  have e := m_gR (by decide +kernel) hp
  rw [f_BR] at e
  exact e
theorem g_LK {h : qH} {x : Nat → Int} {a b : Nat} {F : aF} (hp : a_Rp q_SP 557 h x (4835703278493701071962273, a, b, F)) : p_LK (m_ac (m_gh h) 538 0 900) (m_gh h 534 9) (m_ep x F) := by
  have e := m_gR (by decide +kernel) hp
  rw [f_LK] at e
  exact e
theorem g_LKB {h : qH} {x : Nat → Int} {a b : Nat} {F : aF} (hp : a_Rp q_SP 557 h x (4835703278493701071962274, a, b, F)) : p_LKB (m_ac (m_gh h) 538 0 900) (m_gh h 534 9) (m_ep x F) := by
  have e := m_gR (by decide +kernel) hp
  rw [f_LKB] at e
  exact e
theorem g_LE {h : qH} {x : Nat → Int} {a b : Nat} {F : aF} (hp : a_Rp q_SP 557 h x (13835058055283212431, a, b, F)) : p_LE (m_ac (m_gh h) 3 0 900) (m_gh h 2 7) (m_ep x F) := by
  have e := m_gR (by decide +kernel) hp
  rw [f_LE] at e
  exact e
theorem g_DG {h : qH} {x : Nat → Int} {a b : Nat} {F : aF} (hp : a_Rp q_SP 557 h x (13835058055283212432, a, b, F)) : p_DG (m_ac (m_gh h) 3 0 900) (m_gh h 2 7) (m_ep x F) := by
  have e := m_gR (by decide +kernel) hp
  rw [f_DG] at e
  exact e
theorem g_TK {h : qH} {x : Nat → Int} {a b : Nat} {F : aF} (hp : a_Rp q_SP 557 h x (23058430092137988241, a, b, F)) : p_TK (m_ac (m_gh h) 3 0 900) (m_gh h 2 4) (m_gh h 2 6) (m_gh h 2 7) (m_gh h 2 8) (m_ep x F) := by
  have e := m_gR (by decide +kernel) hp
  rw [f_TK] at e
  exact e
theorem g_CU {h : qH} {x : Nat → Int} {a b : Nat} {F : aF} (hp : a_Rp q_SP 557 h x (23058430092137988242, a, b, F)) : p_CU (m_ac (m_gh h) 3 0 900) (m_gh h 2 4) (m_gh h 2 5) (m_gh h 2 6) (m_gh h 2 7) (m_gh h 2 8) (m_ep x F) := by
  have e := m_gR (by decide +kernel) hp
  rw [f_CU] at e
  exact e
theorem g_WM {h : qH} {x : Nat → Int} {a b : Nat} {F : aF} (hp : a_Rp q_SP 557 h x (1048723, a, b, F)) : p_WM  (m_ep x F) := by
  have e := m_gR (by decide +kernel) hp
  rw [f_WM] at e
  exact e
theorem g_WA {h : qH} {x : Nat → Int} {a b : Nat} {F : aF} (hp : a_Rp q_SP 557 h x (1048724, a, b, F)) : p_WA  (m_ep x F) := by
  have e := m_gR (by decide +kernel) hp
  rw [f_WA] at e
  exact e
theorem g_WS {h : qH} {x : Nat → Int} {a b : Nat} {F : aF} (hp : a_Rp q_SP 557 h x (1048725, a, b, F)) : p_WS  (m_ep x F) := by
  have e := m_gR (by decide +kernel) hp
  rw [f_WS] at e
  exact e
theorem g_CH {h : qH} {x : Nat → Int} {a b : Nat} {F : aF} (hp : a_Rp q_SP 557 h x (1048756, a, b, F)) : p_CH  (m_ep x F) := by
  have e := m_gR (by decide +kernel) hp
  rw [f_CH] at e
  exact e
theorem g_LC {h : qH} {x : Nat → Int} {a b : Nat} {F : aF} (hp : a_Rp q_SP 557 h x (4611686018428436661, a, b, F)) : p_LC (m_ac (m_gh h) 3 0 900) (m_ep x F) := by
  have e := m_gR (by decide +kernel) hp
  rw [f_LC] at e
  exact e
theorem g_WI {h : qH} {x : Nat → Int} {a b : Nat} {F : aF} (hp : a_Rp q_SP 557 h x (13835058055283212470, a, b, F)) : p_WI (m_ac (m_gh h) 3 0 900) (m_gh h 2 7) (m_ep x F) := by
  have e := m_gR (by decide +kernel) hp
  rw [f_WI] at e
  exact e
theorem g_NI {h : qH} {x : Nat → Int} {a b : Nat} {F : aF} (hp : a_Rp q_SP 557 h x (13835058055283212471, a, b, F)) : p_NI (m_ac (m_gh h) 3 0 900) (m_gh h 2 7) (m_ep x F) := by
  have e := m_gR (by decide +kernel) hp
  rw [f_NI] at e
  exact e
theorem g_HF {h : qH} {x : Nat → Int} {a b : Nat} {F : aF} (hp : a_Rp q_SP 557 h x (13835058055283212481, a, b, F)) : p_HF (m_ac (m_gh h) 3 0 900) (m_gh h 2 7) (m_ep x F) := by
  have e := m_gR (by decide +kernel) hp
  rw [f_HF] at e
  exact e
theorem g_NR {h : qH} {x : Nat → Int} {a b : Nat} {F : aF} (hp : a_Rp q_SP 557 h x (13835058055283212508, a, b, F)) : p_NR (m_ac (m_gh h) 3 0 900) (m_gh h 2 7) (m_ep x F) := by
  have e := m_gR (by decide +kernel) hp
  rw [f_NR] at e
  exact e
theorem g_XN {h : qH} {x : Nat → Int} {a b : Nat} {F : aF} (hp : a_Rp q_SP 557 h x (13835058055283212509, a, b, F)) : p_XN (m_ac (m_gh h) 3 0 900) (m_gh h 2 7) (m_ep x F) := by
  have e := m_gR (by decide +kernel) hp
  rw [f_XN] at e
  exact e
theorem g_WIR {h : qH} {x : Nat → Int} {a b : Nat} {F : aF} (hp : a_Rp q_SP 557 h x (4835703278493701071962370, a, b, F)) : p_WIR (m_ac (m_gh h) 538 0 900) (m_gh h 534 9) (m_ep x F) := by
  have e := m_gR (by decide +kernel) hp
  rw [f_WIR] at e
  exact e
theorem g_NIR {h : qH} {x : Nat → Int} {a b : Nat} {F : aF} (hp : a_Rp q_SP 557 h x (4835703278493701071962371, a, b, F)) : p_NIR (m_ac (m_gh h) 538 0 900) (m_gh h 534 9) (m_ep x F) := by
  have e := m_gR (by decide +kernel) hp
  rw [f_NIR] at e
  exact e
theorem g_HFR {h : qH} {x : Nat → Int} {a b : Nat} {F : aF} (hp : a_Rp q_SP 557 h x (4835703278493701071962369, a, b, F)) : p_HFR (m_ac (m_gh h) 538 0 900) (m_gh h 534 9) (m_ep x F) := by
  have e := m_gR (by decide +kernel) hp
  rw [f_HFR] at e
  exact e
theorem g_NRR {h : qH} {x : Nat → Int} {a b : Nat} {F : aF} (hp : a_Rp q_SP 557 h x (4835703278493701071962374, a, b, F)) : p_NRR (m_ac (m_gh h) 538 0 900) (m_gh h 534 9) (m_ep x F) := by
  have e := m_gR (by decide +kernel) hp
  rw [f_NRR] at e
  exact e
theorem g_XNR {h : qH} {x : Nat → Int} {a b : Nat} {F : aF} (hp : a_Rp q_SP 557 h x (4835703278493701071962375, a, b, F)) : p_XNR (m_ac (m_gh h) 538 0 900) (m_gh h 534 9) (m_ep x F) := by
  have e := m_gR (by decide +kernel) hp
  rw [f_XNR] at e
  exact e
theorem g_SI {h : qH} {x : Nat → Int} {a b : Nat} {F : aF} (hp : a_Rp q_SP 557 h x (13835058055283212484, a, b, F)) : p_SI (m_ac (m_gh h) 3 0 900) (m_gh h 2 7) (m_ep x F) := by
  have e := m_gR (by decide +kernel) hp
  rw [f_SI] at e
  exact e
theorem g_NSI {h : qH} {x : Nat → Int} {a b : Nat} {F : aF} (hp : a_Rp q_SP 557 h x (13835058055283212485, a, b, F)) : p_NSI (m_ac (m_gh h) 3 0 900) (m_gh h 2 7) (m_ep x F) := by
  have e := m_gR (by decide +kernel) hp
  rw [f_NSI] at e
  exact e
theorem g_SIR {h : qH} {x : Nat → Int} {a b : Nat} {F : aF} (hp : a_Rp q_SP 557 h x (4835703278493701071962372, a, b, F)) : p_SIR (m_ac (m_gh h) 538 0 900) (m_gh h 534 9) (m_ep x F) := by
  have e := m_gR (by decide +kernel) hp
  rw [f_SIR] at e
  exact e
theorem g_NSIR {h : qH} {x : Nat → Int} {a b : Nat} {F : aF} (hp : a_Rp q_SP 557 h x (4835703278493701071962373, a, b, F)) : p_NSIR (m_ac (m_gh h) 538 0 900) (m_gh h 534 9) (m_ep x F) := by
  have e := m_gR (by decide +kernel) hp
  rw [f_NSIR] at e
  exact e
theorem g_CF {h : qH} {x : Nat → Int} {a b : Nat} {F : aF} (hp : a_Rp q_SP 557 h x (4699308052777509322942, a, b, F)) : p_CF (m_ac (m_gh h) 3 0 900) (m_gh h 2 7) (m_gh h 26 0) (m_gh h 26 1) (m_gh h 26 2) (m_gh h 26 3) (m_gh h 26 4) (m_gh h 26 5) (m_gh h 26 6) (m_gh h 25 3) (m_ac (m_gh h) 27 0 6) (m_ac (m_gh h) 28 0 4) (m_ac (m_gh h) 29 0 4) (m_ac (m_gh h) 32 0 96) (m_ac (m_gh h) 35 0 96) (m_ac (m_gh h) 36 0 96) (m_ac (m_gh h) 39 0 4) (m_ac (m_gh h) 40 0 4) (m_ep x F) := by
  have e := m_gR (by decide +kernel) hp
  rw [f_CF] at e
  exact e
theorem g_RDX {h : qH} {x : Nat → Int} {a b : Nat} {F : aF} (hp : a_Rp q_SP 557 h x (4699308052777509322944, a, b, F)) : p_RDX (m_ac (m_gh h) 3 0 900) (m_gh h 2 7) (m_gh h 26 0) (m_gh h 26 1) (m_gh h 26 2) (m_gh h 26 3) (m_gh h 26 4) (m_gh h 26 5) (m_gh h 26 6) (m_gh h 25 3) (m_ac (m_gh h) 27 0 6) (m_ac (m_gh h) 28 0 4) (m_ac (m_gh h) 29 0 4) (m_ac (m_gh h) 32 0 96) (m_ac (m_gh h) 35 0 96) (m_ac (m_gh h) 36 0 96) (m_ac (m_gh h) 39 0 4) (m_ac (m_gh h) 40 0 4) (m_ep x F) := by
  have e := m_gR (by decide +kernel) hp
  rw [f_RDX] at e
  exact e
theorem g_CG {h : qH} {x : Nat → Int} {a b : Nat} {F : aF} (hp : a_Rp q_SP 557 h x (9384781047499735433410, a, b, F)) : p_CG (m_ac (m_gh h) 3 0 900) (m_gh h 2 7) (m_gh h 26 2) (m_gh h 26 3) (m_gh h 26 4) (m_gh h 26 5) (m_gh h 26 6) (m_gh h 25 3) (m_ac (m_gh h) 27 0 6) (m_ac (m_gh h) 28 0 4) (m_ac (m_gh h) 29 0 4) (m_ac (m_gh h) 32 0 96) (m_ac (m_gh h) 35 0 96) (m_ac (m_gh h) 36 0 96) (m_ac (m_gh h) 39 0 4) (m_ac (m_gh h) 40 0 4) (m_ep x F) := by
  have e := m_gR (by decide +kernel) hp
  rw [f_CG] at e
  exact e
theorem g_CFA {h : qH} {x : Nat → Int} {a b : Nat} {F : aF} (hp : a_Rp q_SP 557 h x (4699308052777509322943, a, b, F)) : p_CFA (m_ac (m_gh h) 3 0 900) (m_gh h 2 7) (m_gh h 26 0) (m_gh h 26 1) (m_gh h 26 2) (m_gh h 26 3) (m_gh h 26 4) (m_gh h 26 5) (m_gh h 26 6) (m_gh h 25 3) (m_ac (m_gh h) 27 0 6) (m_ac (m_gh h) 28 0 4) (m_ac (m_gh h) 29 0 4) (m_ac (m_gh h) 32 0 96) (m_ac (m_gh h) 35 0 96) (m_ac (m_gh h) 36 0 96) (m_ac (m_gh h) 39 0 4) (m_ac (m_gh h) 40 0 4) (m_ep x F) := by
  have e := m_gR (by decide +kernel) hp
  rw [f_CFA] at e
  exact e
theorem g_CC1 {h : qH} {x : Nat → Int} {a b : Nat} {F : aF} (hp : a_Rp q_SP 557 h x (4699308052777509322952, a, b, F)) : p_CC1 (m_ac (m_gh h) 3 0 900) (m_gh h 2 7) (m_gh h 26 0) (m_gh h 26 1) (m_gh h 26 2) (m_gh h 26 3) (m_gh h 26 4) (m_gh h 26 5) (m_gh h 26 6) (m_gh h 25 3) (m_ac (m_gh h) 27 0 6) (m_ac (m_gh h) 28 0 4) (m_ac (m_gh h) 29 0 4) (m_ac (m_gh h) 32 0 96) (m_ac (m_gh h) 35 0 96) (m_ac (m_gh h) 36 0 96) (m_ac (m_gh h) 39 0 4) (m_ac (m_gh h) 40 0 4) (m_ep x F) := by
  have e := m_gR (by decide +kernel) hp
  rw [f_CC1] at e
  exact e
theorem g_CC2 {h : qH} {x : Nat → Int} {a b : Nat} {F : aF} (hp : a_Rp q_SP 557 h x (4699308052777509322953, a, b, F)) : p_CC2 (m_ac (m_gh h) 3 0 900) (m_gh h 2 7) (m_gh h 26 0) (m_gh h 26 1) (m_gh h 26 2) (m_gh h 26 3) (m_gh h 26 4) (m_gh h 26 5) (m_gh h 26 6) (m_gh h 25 3) (m_ac (m_gh h) 27 0 6) (m_ac (m_gh h) 28 0 4) (m_ac (m_gh h) 29 0 4) (m_ac (m_gh h) 32 0 96) (m_ac (m_gh h) 35 0 96) (m_ac (m_gh h) 36 0 96) (m_ac (m_gh h) 39 0 4) (m_ac (m_gh h) 40 0 4) (m_ep x F) := by
  have e := m_gR (by decide +kernel) hp
  rw [f_CC2] at e
  exact e
theorem g_CCN {h : qH} {x : Nat → Int} {a b : Nat} {F : aF} (hp : a_Rp q_SP 557 h x (32996613461847961501898, a, b, F)) : p_CCN (m_ac (m_gh h) 3 0 900) (m_gh h 2 7) (m_gh h 26 0) (m_gh h 26 1) (m_gh h 26 4) (m_gh h 26 5) (m_gh h 26 6) (m_gh h 25 3) (m_ac (m_gh h) 27 0 6) (m_ac (m_gh h) 28 0 4) (m_ac (m_gh h) 29 0 4) (m_ac (m_gh h) 32 0 96) (m_ac (m_gh h) 35 0 96) (m_ac (m_gh h) 36 0 96) (m_ac (m_gh h) 39 0 4) (m_ac (m_gh h) 40 0 4) (m_ep x F) := by
  have e := m_gR (by decide +kernel) hp
  rw [f_CCN] at e
  exact e
theorem g_CM1 {h : qH} {x : Nat → Int} {a b : Nat} {F : aF} (hp : a_Rp q_SP 557 h x (4699308052777509322955, a, b, F)) : p_CM1 (m_ac (m_gh h) 3 0 900) (m_gh h 2 7) (m_gh h 26 0) (m_gh h 26 1) (m_gh h 26 2) (m_gh h 26 3) (m_gh h 26 4) (m_gh h 26 5) (m_gh h 26 6) (m_gh h 25 3) (m_ac (m_gh h) 27 0 6) (m_ac (m_gh h) 28 0 4) (m_ac (m_gh h) 29 0 4) (m_ac (m_gh h) 32 0 96) (m_ac (m_gh h) 35 0 96) (m_ac (m_gh h) 36 0 96) (m_ac (m_gh h) 39 0 4) (m_ac (m_gh h) 40 0 4) (m_ep x F) := by
  have e := m_gR (by decide +kernel) hp
  rw [f_CM1] at e
  exact e
theorem g_CM2 {h : qH} {x : Nat → Int} {a b : Nat} {F : aF} (hp : a_Rp q_SP 557 h x (4699308052777509322956, a, b, F)) : p_CM2 (m_ac (m_gh h) 3 0 900) (m_gh h 2 7) (m_gh h 26 0) (m_gh h 26 1) (m_gh h 26 2) (m_gh h 26 3) (m_gh h 26 4) (m_gh h 26 5) (m_gh h 26 6) (m_gh h 25 3) (m_ac (m_gh h) 27 0 6) (m_ac (m_gh h) 28 0 4) (m_ac (m_gh h) 29 0 4) (m_ac (m_gh h) 32 0 96) (m_ac (m_gh h) 35 0 96) (m_ac (m_gh h) 36 0 96) (m_ac (m_gh h) 39 0 4) (m_ac (m_gh h) 40 0 4) (m_ep x F) := by
  have e := m_gR (by decide +kernel) hp
  rw [f_CM2] at e
  exact e
theorem g_CMN {h : qH} {x : Nat → Int} {a b : Nat} {F : aF} (hp : a_Rp q_SP 557 h x (136888676084980156203213, a, b, F)) : p_CMN (m_ac (m_gh h) 3 0 900) (m_gh h 2 7) (m_gh h 26 0) (m_gh h 26 1) (m_gh h 26 2) (m_gh h 26 3) (m_gh h 26 5) (m_gh h 26 6) (m_gh h 25 3) (m_ac (m_gh h) 27 0 6) (m_ac (m_gh h) 28 0 4) (m_ac (m_gh h) 29 0 4) (m_ac (m_gh h) 32 0 96) (m_ac (m_gh h) 35 0 96) (m_ac (m_gh h) 36 0 96) (m_ac (m_gh h) 39 0 4) (m_ac (m_gh h) 40 0 4) (m_ep x F) := by
  have e := m_gR (by decide +kernel) hp
  rw [f_CMN] at e
  exact e
theorem g_CS1 {h : qH} {x : Nat → Int} {a b : Nat} {F : aF} (hp : a_Rp q_SP 557 h x (4699308052777509322958, a, b, F)) : p_CS1 (m_ac (m_gh h) 3 0 900) (m_gh h 2 7) (m_gh h 26 0) (m_gh h 26 1) (m_gh h 26 2) (m_gh h 26 3) (m_gh h 26 4) (m_gh h 26 5) (m_gh h 26 6) (m_gh h 25 3) (m_ac (m_gh h) 27 0 6) (m_ac (m_gh h) 28 0 4) (m_ac (m_gh h) 29 0 4) (m_ac (m_gh h) 32 0 96) (m_ac (m_gh h) 35 0 96) (m_ac (m_gh h) 36 0 96) (m_ac (m_gh h) 39 0 4) (m_ac (m_gh h) 40 0 4) (m_ep x F) := by
  have e := m_gR (by decide +kernel) hp
  rw [f_CS1] at e
  exact e
theorem g_CSN {h : qH} {x : Nat → Int} {a b : Nat} {F : aF} (hp : a_Rp q_SP 557 h x (776769334513817082659023, a, b, F)) : p_CSN (m_ac (m_gh h) 3 0 900) (m_gh h 2 7) (m_gh h 26 0) (m_gh h 26 1) (m_gh h 26 2) (m_gh h 26 3) (m_gh h 26 4) (m_gh h 26 6) (m_ac (m_gh h) 27 0 6) (m_ac (m_gh h) 28 0 4) (m_ac (m_gh h) 29 0 4) (m_ac (m_gh h) 32 0 96) (m_ac (m_gh h) 35 0 96) (m_ac (m_gh h) 36 0 96) (m_ac (m_gh h) 39 0 4) (m_ac (m_gh h) 40 0 4) (m_ep x F) := by
  have e := m_gR (by decide +kernel) hp
  rw [f_CSN] at e
  exact e
theorem g_CSM {h : qH} {x : Nat → Int} {a b : Nat} {F : aF} (hp : a_Rp q_SP 557 h x (2338124811342686716112, a, b, F)) : p_CSM (m_ac (m_gh h) 3 0 900) (m_gh h 2 7) (m_gh h 26 0) (m_gh h 26 1) (m_gh h 26 2) (m_gh h 26 3) (m_gh h 26 4) (m_gh h 26 5) (m_gh h 26 6) (m_ac (m_gh h) 27 0 6) (m_ac (m_gh h) 28 0 4) (m_ac (m_gh h) 29 0 4) (m_ac (m_gh h) 32 0 96) (m_ac (m_gh h) 35 0 96) (m_ac (m_gh h) 36 0 96) (m_ac (m_gh h) 39 0 4) (m_ac (m_gh h) 40 0 4) (m_ep x F) := by
  have e := m_gR (by decide +kernel) hp
  rw [f_CSM] at e
  exact e
theorem g_CD1 {h : qH} {x : Nat → Int} {a b : Nat} {F : aF} (hp : a_Rp q_SP 557 h x (4699308052777509322961, a, b, F)) : p_CD1 (m_ac (m_gh h) 3 0 900) (m_gh h 2 7) (m_gh h 26 0) (m_gh h 26 1) (m_gh h 26 2) (m_gh h 26 3) (m_gh h 26 4) (m_gh h 26 5) (m_gh h 26 6) (m_gh h 25 3) (m_ac (m_gh h) 27 0 6) (m_ac (m_gh h) 28 0 4) (m_ac (m_gh h) 29 0 4) (m_ac (m_gh h) 32 0 96) (m_ac (m_gh h) 35 0 96) (m_ac (m_gh h) 36 0 96) (m_ac (m_gh h) 39 0 4) (m_ac (m_gh h) 40 0 4) (m_ep x F) := by
  have e := m_gR (by decide +kernel) hp
  rw [f_CD1] at e
  exact e
theorem g_CDN {h : qH} {x : Nat → Int} {a b : Nat} {F : aF} (hp : a_Rp q_SP 557 h x (325783335399765964751058, a, b, F)) : p_CDN (m_ac (m_gh h) 3 0 900) (m_gh h 2 7) (m_gh h 26 0) (m_gh h 26 1) (m_gh h 26 2) (m_gh h 26 3) (m_gh h 26 4) (m_gh h 26 5) (m_gh h 25 3) (m_ac (m_gh h) 27 0 6) (m_ac (m_gh h) 28 0 4) (m_ac (m_gh h) 29 0 4) (m_ac (m_gh h) 32 0 96) (m_ac (m_gh h) 35 0 96) (m_ac (m_gh h) 36 0 96) (m_ac (m_gh h) 39 0 4) (m_ac (m_gh h) 40 0 4) (m_ep x F) := by
  have e := m_gR (by decide +kernel) hp
  rw [f_CDN] at e
  exact e
theorem g_CNA {h : qH} {x : Nat → Int} {a b : Nat} {F : aF} (hp : a_Rp q_SP 557 h x (4699308052777509322981, a, b, F)) : p_CNA (m_ac (m_gh h) 3 0 900) (m_gh h 2 7) (m_gh h 26 0) (m_gh h 26 1) (m_gh h 26 2) (m_gh h 26 3) (m_gh h 26 4) (m_gh h 26 5) (m_gh h 26 6) (m_gh h 25 3) (m_ac (m_gh h) 27 0 6) (m_ac (m_gh h) 28 0 4) (m_ac (m_gh h) 29 0 4) (m_ac (m_gh h) 32 0 96) (m_ac (m_gh h) 35 0 96) (m_ac (m_gh h) 36 0 96) (m_ac (m_gh h) 39 0 4) (m_ac (m_gh h) 40 0 4) (m_ep x F) := by
  have e := m_gR (by decide +kernel) hp
  rw [f_CNA] at e
  exact e
theorem g_CN1 {h : qH} {x : Nat → Int} {a b : Nat} {F : aF} (hp : a_Rp q_SP 557 h x (4699308052777509322963, a, b, F)) : p_CN1 (m_ac (m_gh h) 3 0 900) (m_gh h 2 7) (m_gh h 26 0) (m_gh h 26 1) (m_gh h 26 2) (m_gh h 26 3) (m_gh h 26 4) (m_gh h 26 5) (m_gh h 26 6) (m_gh h 25 3) (m_ac (m_gh h) 27 0 6) (m_ac (m_gh h) 28 0 4) (m_ac (m_gh h) 29 0 4) (m_ac (m_gh h) 32 0 96) (m_ac (m_gh h) 35 0 96) (m_ac (m_gh h) 36 0 96) (m_ac (m_gh h) 39 0 4) (m_ac (m_gh h) 40 0 4) (m_ep x F) := by
  have e := m_gR (by decide +kernel) hp
  rw [f_CN1] at e
  exact e
theorem g_CN2 {h : qH} {x : Nat → Int} {a b : Nat} {F : aF} (hp : a_Rp q_SP 557 h x (4699308052777509322964, a, b, F)) : p_CN2 (m_ac (m_gh h) 3 0 900) (m_gh h 2 7) (m_gh h 26 0) (m_gh h 26 1) (m_gh h 26 2) (m_gh h 26 3) (m_gh h 26 4) (m_gh h 26 5) (m_gh h 26 6) (m_gh h 25 3) (m_ac (m_gh h) 27 0 6) (m_ac (m_gh h) 28 0 4) (m_ac (m_gh h) 29 0 4) (m_ac (m_gh h) 32 0 96) (m_ac (m_gh h) 35 0 96) (m_ac (m_gh h) 36 0 96) (m_ac (m_gh h) 39 0 4) (m_ac (m_gh h) 40 0 4) (m_ep x F) := by
  have e := m_gR (by decide +kernel) hp
  rw [f_CN2] at e
  exact e
theorem g_FR {h : qH} {x : Nat → Int} {a b : Nat} {F : aF} (hp : a_Rp q_SP 557 h x (590295810358706700503, a, b, F)) : p_FR (m_ac (m_gh h) 36 0 96) (m_ep x F) := by
  have e := m_gR (by decide +kernel) hp
  rw [f_FR] at e
  exact e
theorem g_SM {h : qH} {x : Nat → Int} {a b : Nat} {F : aF} (hp : a_Rp q_SP 557 h x (4611686018428436703, a, b, F)) : p_SM (m_ac (m_gh h) 3 0 900) (m_ep x F) := by
  have e := m_gR (by decide +kernel) hp
  rw [f_SM] at e
  exact e
theorem g_SMT {h : qH} {x : Nat → Int} {a b : Nat} {F : aF} (hp : a_Rp q_SP 557 h x (4611686018428436704, a, b, F)) : p_SMT (m_ac (m_gh h) 3 0 900) (m_ep x F) := by
  have e := m_gR (by decide +kernel) hp
  rw [f_SMT] at e
  exact e
theorem g_NSM {h : qH} {x : Nat → Int} {a b : Nat} {F : aF} (hp : a_Rp q_SP 557 h x (4611686018428436705, a, b, F)) : p_NSM (m_ac (m_gh h) 3 0 900) (m_ep x F) := by
  have e := m_gR (by decide +kernel) hp
  rw [f_NSM] at e
  exact e
theorem g_NLR {h : qH} {x : Nat → Int} {a b : Nat} {F : aF} (hp : a_Rp q_SP 557 h x (1180591620717412352226, a, b, F)) : p_NLR (m_ac (m_gh h) 40 0 4) (m_ep x F) := by
  have e := m_gR (by decide +kernel) hp
  rw [f_NLR] at e
  exact e
theorem g_NSR {h : qH} {x : Nat → Int} {a b : Nat} {F : aF} (hp : a_Rp q_SP 557 h x (1180591620717412352227, a, b, F)) : p_NSR (m_ac (m_gh h) 39 0 4) (m_ep x F) := by
  have e := m_gR (by decide +kernel) hp
  rw [f_NSR] at e
  exact e
theorem g_DN {h : qH} {x : Nat → Int} {a b : Nat} {F : aF} (hp : a_Rp q_SP 557 h x (1194426678772694515940, a, b, F)) : p_DN (m_ac (m_gh h) 3 0 900) (m_gh h 2 7) (m_ac (m_gh h) 39 0 4) (m_ac (m_gh h) 40 0 4) (m_ep x F) := by
  have e := m_gR (by decide +kernel) hp
  rw [f_DN] at e
  exact e
theorem g_FZ35 {h : qH} {x : Nat → Int} {a b : Nat} {F : aF} (hp : a_Rp q_SP 557 h x (1208925819614629175754992, a, b, F)) : p_FZ35 (m_ac (m_gh h) 35 0 96) (m_ep x F) := by
  have e := m_gR (by decide +kernel) hp
  rw [f_FZ35] at e
  exact e
theorem g_FZ36 {h : qH} {x : Nat → Int} {a b : Nat} {F : aF} (hp : a_Rp q_SP 557 h x (2417851639229258350461169, a, b, F)) : p_FZ36 (m_ac (m_gh h) 36 0 96) (m_ep x F) := by
  have e := m_gR (by decide +kernel) hp
  rw [f_FZ36] at e
  exact e
theorem g_WZ {h : qH} {x : Nat → Int} {a b : Nat} {F : aF} (hp : a_Rp q_SP 557 h x (4685472994722227159279, a, b, F)) : p_WZ (m_gh h 26 0) (m_gh h 26 1) (m_gh h 26 2) (m_gh h 26 3) (m_gh h 26 4) (m_gh h 26 5) (m_gh h 26 6) (m_gh h 25 3) (m_ac (m_gh h) 27 0 6) (m_ac (m_gh h) 28 0 4) (m_ac (m_gh h) 29 0 4) (m_ac (m_gh h) 32 0 96) (m_ac (m_gh h) 35 0 96) (m_ac (m_gh h) 36 0 96) (m_ac (m_gh h) 39 0 4) (m_ac (m_gh h) 40 0 4) (m_ep x F) := by
  have e := m_gR (by decide +kernel) hp
  rw [f_WZ] at e
  exact e
theorem g_WD {h : qH} {x : Nat → Int} {a b : Nat} {F : aF} (hp : a_Rp q_SP 557 h x (4699308052777509322990, a, b, F)) : p_WD (m_ac (m_gh h) 3 0 900) (m_gh h 2 7) (m_gh h 26 0) (m_gh h 26 1) (m_gh h 26 2) (m_gh h 26 3) (m_gh h 26 4) (m_gh h 26 5) (m_gh h 26 6) (m_gh h 25 3) (m_ac (m_gh h) 27 0 6) (m_ac (m_gh h) 28 0 4) (m_ac (m_gh h) 29 0 4) (m_ac (m_gh h) 32 0 96) (m_ac (m_gh h) 35 0 96) (m_ac (m_gh h) 36 0 96) (m_ac (m_gh h) 39 0 4) (m_ac (m_gh h) 40 0 4) (m_ep x F) := by
  have e := m_gR (by decide +kernel) hp
  rw [f_WD] at e
  exact e
theorem g_RSW {h : qH} {x : Nat → Int} {a b : Nat} {F : aF} (hp : a_Rp q_SP 557 h x (13835058055283212594, a, b, F)) : p_RSW (m_ac (m_gh h) 3 0 900) (m_gh h 2 7) (m_ep x F) := by
  have e := m_gR (by decide +kernel) hp
  rw [f_RSW] at e
  exact e
theorem g_CFR {h : qH} {x : Nat → Int} {a b : Nat} {F : aF} (hp : a_Rp q_SP 557 h x (4835703279760338467160314, a, b, F)) : p_CFR (m_ac (m_gh h) 538 0 900) (m_gh h 534 9) (m_ac (m_gh h) 539 1440 360) (m_ac (m_gh h) 541 0 4) (m_ep x F) := by
  have e := m_gR (by decide +kernel) hp
  rw [f_CFR] at e
  exact e
theorem g_RDR {h : qH} {x : Nat → Int} {a b : Nat} {F : aF} (hp : a_Rp q_SP 557 h x (4835703279760338467160315, a, b, F)) : p_RDR (m_ac (m_gh h) 538 0 900) (m_gh h 534 9) (m_ac (m_gh h) 539 1440 360) (m_ac (m_gh h) 541 0 4) (m_ep x F) := by
  have e := m_gR (by decide +kernel) hp
  rw [f_RDR] at e
  exact e
theorem g_CFP {h : qH} {x : Nat → Int} {a b : Nat} {F : aF} (hp : a_Rp q_SP 557 h x (4835703279760338467160316, a, b, F)) : p_CFP (m_ac (m_gh h) 538 0 900) (m_gh h 534 9) (m_ac (m_gh h) 539 1440 360) (m_ac (m_gh h) 541 0 4) (m_ep x F) := by
  have e := m_gR (by decide +kernel) hp
  rw [f_CFP] at e
  exact e
theorem g_RDP {h : qH} {x : Nat → Int} {a b : Nat} {F : aF} (hp : a_Rp q_SP 557 h x (4835703279760338467160317, a, b, F)) : p_RDP (m_ac (m_gh h) 538 0 900) (m_gh h 534 9) (m_ac (m_gh h) 539 1440 360) (m_ac (m_gh h) 541 0 4) (m_ep x F) := by
  have e := m_gR (by decide +kernel) hp
  rw [f_RDP] at e
  exact e
theorem g_CFAR {h : qH} {x : Nat → Int} {a b : Nat} {F : aF} (hp : a_Rp q_SP 557 h x (4835703279760338467160318, a, b, F)) : p_CFAR (m_ac (m_gh h) 538 0 900) (m_gh h 534 9) (m_ac (m_gh h) 539 1440 360) (m_ac (m_gh h) 541 0 4) (m_ep x F) := by
  have e := m_gR (by decide +kernel) hp
  rw [f_CFAR] at e
  exact e
theorem g_CAR {h : qH} {x : Nat → Int} {a b : Nat} {F : aF} (hp : a_Rp q_SP 557 h x (4835703279760338467160319, a, b, F)) : p_CAR (m_ac (m_gh h) 538 0 900) (m_gh h 534 9) (m_ac (m_gh h) 539 1440 360) (m_ac (m_gh h) 541 0 4) (m_ep x F) := by
  have e := m_gR (by decide +kernel) hp
  rw [f_CAR] at e
  exact e
theorem g_CBR {h : qH} {x : Nat → Int} {a b : Nat} {F : aF} (hp : a_Rp q_SP 557 h x (4835703279760338467160320, a, b, F)) : p_CBR (m_ac (m_gh h) 538 0 900) (m_gh h 534 9) (m_ac (m_gh h) 539 1440 360) (m_ac (m_gh h) 541 0 4) (m_ep x F) := by
  have e := m_gR (by decide +kernel) hp
  rw [f_CBR] at e
  exact e
theorem g_LER {h : qH} {x : Nat → Int} {a b : Nat} {F : aF} (hp : a_Rp q_SP 557 h x (4835703278493701071962277, a, b, F)) : p_LER (m_ac (m_gh h) 538 0 900) (m_gh h 534 9) (m_ep x F) := by
  have e := m_gR (by decide +kernel) hp
  rw [f_LER] at e
  exact e
theorem g_DGR {h : qH} {x : Nat → Int} {a b : Nat} {F : aF} (hp : a_Rp q_SP 557 h x (4835703278493701071962278, a, b, F)) : p_DGR (m_ac (m_gh h) 538 0 900) (m_gh h 534 9) (m_ep x F) := by
  have e := m_gR (by decide +kernel) hp
  rw [f_DGR] at e
  exact e
theorem g_WDR {h : qH} {x : Nat → Int} {a b : Nat} {F : aF} (hp : a_Rp q_SP 557 h x (4835703278493701071962279, a, b, F)) : p_WDR (m_ac (m_gh h) 538 0 900) (m_gh h 534 9) (m_ep x F) := by
  have e := m_gR (by decide +kernel) hp
  rw [f_WDR] at e
  exact e
theorem g_TKR {h : qH} {x : Nat → Int} {a b : Nat} {F : aF} (hp : a_Rp q_SP 557 h x (14507109835410734469611688, a, b, F)) : p_TKR (m_ac (m_gh h) 538 0 900) (m_gh h 534 9) (m_gh h 534 14) (m_gh h 534 16) (m_gh h 534 17) (m_gh h 534 18) (m_ep x F) := by
  have e := m_gR (by decide +kernel) hp
  rw [f_TKR] at e
  exact e
theorem g_CUR {h : qH} {x : Nat → Int} {a b : Nat} {F : aF} (hp : a_Rp q_SP 557 h x (14507109835410734469611689, a, b, F)) : p_CUR (m_ac (m_gh h) 538 0 900) (m_gh h 534 9) (m_gh h 534 14) (m_gh h 534 15) (m_gh h 534 16) (m_gh h 534 17) (m_gh h 534 18) (m_ep x F) := by
  have e := m_gR (by decide +kernel) hp
  rw [f_CUR] at e
  exact e
theorem g_DNR {h : qH} {x : Nat → Int} {a b : Nat} {F : aF} (hp : a_Rp q_SP 557 h x (4835703278634438560317704, a, b, F)) : p_DNR (m_ac (m_gh h) 538 0 900) (m_gh h 534 9) (m_ac (m_gh h) 541 0 4) (m_ep x F) := by
  have e := m_gR (by decide +kernel) hp
  rw [f_DNR] at e
  exact e
theorem g_WKR {h : qH} {x : Nat → Int} {a b : Nat} {F : aF} (hp : a_Rp q_SP 557 h x (140737489404169, a, b, F)) : p_WKR (m_ac (m_gh h) 541 0 4) (m_ep x F) := by
  have e := m_gR (by decide +kernel) hp
  rw [f_WKR] at e
  exact e
theorem g_PSN {h : qH} {x : Nat → Int} {a b : Nat} {F : aF} (hp : a_Rp q_SP 557 h x (1125899907891466, a, b, F)) : p_PSN (m_ac (m_gh h) 539 1440 360) (m_ep x F) := by
  have e := m_gR (by decide +kernel) hp
  rw [f_PSN] at e
  exact e
theorem g_NSN {h : qH} {x : Nat → Int} {a b : Nat} {F : aF} (hp : a_Rp q_SP 557 h x (1125899907891467, a, b, F)) : p_NSN (m_ac (m_gh h) 539 1440 360) (m_ep x F) := by
  have e := m_gR (by decide +kernel) hp
  rw [f_NSN] at e
  exact e
theorem g_LSR {h : qH} {x : Nat → Int} {a b : Nat} {F : aF} (hp : a_Rp q_SP 557 h x (1125899907891468, a, b, F)) : p_LSR (m_ac (m_gh h) 539 1440 360) (m_ep x F) := by
  have e := m_gR (by decide +kernel) hp
  rw [f_LSR] at e
  exact e
theorem g_LDN {h : qH} {x : Nat → Int} {a b : Nat} {F : aF} (hp : a_Rp q_SP 557 h x (1125899907891481, a, b, F)) : p_LDN (m_ac (m_gh h) 539 1440 360) (m_ep x F) := by
  have e := m_gR (by decide +kernel) hp
  rw [f_LDN] at e
  exact e
theorem g_DFR {h : qH} {x : Nat → Int} {a b : Nat} {F : aF} (hp : a_Rp q_SP 557 h x (1125899907891469, a, b, F)) : p_DFR (m_ac (m_gh h) 539 1440 360) (m_ep x F) := by
  have e := m_gR (by decide +kernel) hp
  rw [f_DFR] at e
  exact e
theorem g_ZR {h : qH} {x : Nat → Int} {a b : Nat} {F : aF} (hp : a_Rp q_SP 557 h x (1125899907891470, a, b, F)) : p_ZR (m_ac (m_gh h) 539 1440 360) (m_ep x F) := by
  have e := m_gR (by decide +kernel) hp
  rw [f_ZR] at e
  exact e
theorem g_LDC {h : qH} {x : Nat → Int} {a b : Nat} {F : aF} (hp : a_Rp q_SP 557 h x (1125899907891483, a, b, F)) : p_LDC (m_ac (m_gh h) 539 1440 360) (m_ep x F) := by
  have e := m_gR (by decide +kernel) hp
  rw [f_LDC] at e
  exact e
theorem g_CPW {h : qH} {x : Nat → Int} {a b : Nat} {F : aF} (hp : a_Rp q_SP 557 h x (19342813114959966703190280, a, b, F)) : p_CPW (m_ac (m_gh h) 539 0 360) (m_ac (m_gh h) 539 1440 360) (m_ep x F) := by
  have e := m_gR (by decide +kernel) hp
  rw [f_CPW] at e
  exact e
theorem g_DNW {h : qH} {x : Nat → Int} {a b : Nat} {F : aF} (hp : a_Rp q_SP 557 h x (4835703279760338467160346, a, b, F)) : p_DNW (m_ac (m_gh h) 538 0 900) (m_gh h 534 9) (m_ac (m_gh h) 539 1440 360) (m_ac (m_gh h) 541 0 4) (m_ep x F) := by
  have e := m_gR (by decide +kernel) hp
  rw [f_DNW] at e
  exact e
theorem g_TB3 {h : qH} {x : Nat → Int} {a b : Nat} {F : aF} (hp : a_Rp q_SP 557 h x (4611686018428436780, a, b, F)) : p_TB3 (m_ac (m_gh h) 3 0 900) (m_ep x F) := by
  have e := m_gR (by decide +kernel) hp
  rw [f_TB3] at e
  exact e
theorem g_AB3 {h : qH} {x : Nat → Int} {a b : Nat} {F : aF} (hp : a_Rp q_SP 557 h x (4611686018428436781, a, b, F)) : p_AB3 (m_ac (m_gh h) 3 0 900) (m_ep x F) := by
  have e := m_gR (by decide +kernel) hp
  rw [f_AB3] at e
  exact e
theorem g_TB8 {h : qH} {x : Nat → Int} {a b : Nat} {F : aF} (hp : a_Rp q_SP 557 h x (35184373137712, a, b, F)) : p_TB8 (m_ac (m_gh h) 538 0 900) (m_ep x F) := by
  have e := m_gR (by decide +kernel) hp
  rw [f_TB8] at e
  exact e
theorem g_AB8 {h : qH} {x : Nat → Int} {a b : Nat} {F : aF} (hp : a_Rp q_SP 557 h x (35184373137713, a, b, F)) : p_AB8 (m_ac (m_gh h) 538 0 900) (m_ep x F) := by
  have e := m_gR (by decide +kernel) hp
  rw [f_AB8] at e
  exact e
theorem g_SHR {h : qH} {x : Nat → Int} {a b : Nat} {F : aF} (hp : a_Rp q_SP 557 h x (1048878, a, b, F)) : p_SHR  (m_ep x F) := by
  have e := m_gR (by decide +kernel) hp
  rw [f_SHR] at e
  exact e
theorem g_CVB {h : qH} {x : Nat → Int} {a b : Nat} {F : aF} (hp : a_Rp q_SP 557 h x (1048879, a, b, F)) : p_CVB  (m_ep x F) := by
  have e := m_gR (by decide +kernel) hp
  rw [f_CVB] at e
  exact e
theorem g_TSX {h : qH} {x : Nat → Int} {a b : Nat} {F : aF} (hp : a_Rp q_SP 557 h x (272008309413291564309938496, a, b, F)) : p_TSX (m_gh h 26 0) (m_gh h 26 1) (m_gh h 26 2) (m_ac (m_gh h) 35 0 96) (m_ac (m_gh h) 37 0 96) (m_ac (m_gh h) 38 0 96) (m_ep x F) := by
  have e := m_gR (by decide +kernel) hp
  rw [f_TSX] at e
  exact e
theorem g_TSY {h : qH} {x : Nat → Int} {a b : Nat} {F : aF} (hp : a_Rp q_SP 557 h x (272008309413291564309938497, a, b, F)) : p_TSY (m_gh h 26 0) (m_gh h 26 1) (m_gh h 26 2) (m_ac (m_gh h) 35 0 96) (m_ac (m_gh h) 37 0 96) (m_ac (m_gh h) 38 0 96) (m_ep x F) := by
  have e := m_gR (by decide +kernel) hp
  rw [f_TSY] at e
  exact e
theorem g_TSZ {h : qH} {x : Nat → Int} {a b : Nat} {F : aF} (hp : a_Rp q_SP 557 h x (272008309413291564309938498, a, b, F)) : p_TSZ (m_gh h 26 0) (m_gh h 26 1) (m_gh h 26 2) (m_ac (m_gh h) 35 0 96) (m_ac (m_gh h) 37 0 96) (m_ac (m_gh h) 38 0 96) (m_ep x F) := by
  have e := m_gR (by decide +kernel) hp
  rw [f_TSZ] at e
  exact e
theorem g_SETT {h : qH} {x : Nat → Int} {a b : Nat} {F : aF} (hp : a_Rp q_SP 557 h x (272008309413291564309938499, a, b, F)) : p_SETT (m_gh h 26 0) (m_gh h 26 1) (m_gh h 26 2) (m_ac (m_gh h) 35 0 96) (m_ac (m_gh h) 37 0 96) (m_ac (m_gh h) 38 0 96) (m_ep x F) := by
  have e := m_gR (by decide +kernel) hp
  rw [f_SETT] at e
  exact e
theorem g_CBW {h : qH} {x : Nat → Int} {a b : Nat} {F : aF} (hp : a_Rp q_SP 557 h x (38685626227668133591646532, a, b, F)) : p_CBW (m_gh h 26 0) (m_ep x F) := by
  have e := m_gR (by decide +kernel) hp
  rw [f_CBW] at e
  exact e
theorem g_CBT {h : qH} {x : Nat → Int} {a b : Nat} {F : aF} (hp : a_Rp q_SP 557 h x (38685626227668133591646533, a, b, F)) : p_CBT (m_gh h 26 0) (m_ep x F) := by
  have e := m_gR (by decide +kernel) hp
  rw [f_CBT] at e
  exact e
theorem g_BYX {h : qH} {x : Nat → Int} {a b : Nat} {F : aF} (hp : a_Rp q_SP 557 h x (1208925819614629175755078, a, b, F)) : p_BYX (m_ac (m_gh h) 35 0 96) (m_ep x F) := by
  have e := m_gR (by decide +kernel) hp
  rw [f_BYX] at e
  exact e
theorem g_SWT {h : qH} {x : Nat → Int} {a b : Nat} {F : aF} (hp : a_Rp q_SP 557 h x (84489407695062261817148440921, a, b, F)) : p_SWT (m_ac (m_gh h) 3 0 900) (m_gh h 2 7) (m_gh h 5 0) (m_gh h 5 2) (m_ac (m_gh h) 16 0 96) (m_ac (m_gh h) 17 0 96) (m_ep x F) := by
  have e := m_gR (by decide +kernel) hp
  rw [f_SWT] at e
  exact e
theorem g_AE37_16 {h : qH} {x : Nat → Int} {a b : Nat} {F : aF} (hp : a_Rp q_SP 557 h x (386856262276681335907025226, a, b, F)) : p_AE37_16 (m_ac (m_gh h) 37 0 96) (m_ac (m_gh h) 16 0 96) (m_ep x F) := by
  have e := m_gR (by decide +kernel) hp
  rw [f_AE37_16] at e
  exact e
theorem g_AE16_486 {h : qH} {x : Nat → Int} {a b : Nat} {F : aF} (hp : a_Rp q_SP 557 h x (928455029464035206175392075, a, b, F)) : p_AE16_486 (m_ac (m_gh h) 16 0 96) (m_ac (m_gh h) 486 0 96) (m_ep x F) := by
  have e := m_gR (by decide +kernel) hp
  rw [f_AE16_486] at e
  exact e
theorem g_AE486_16 {h : qH} {x : Nat → Int} {a b : Nat} {F : aF} (hp : a_Rp q_SP 557 h x (928455029464035206175392076, a, b, F)) : p_AE486_16 (m_ac (m_gh h) 16 0 96) (m_ac (m_gh h) 486 0 96) (m_ep x F) := by
  have e := m_gR (by decide +kernel) hp
  rw [f_AE486_16] at e
  exact e
theorem g_AE16_506 {h : qH} {x : Nat → Int} {a b : Nat} {F : aF} (hp : a_Rp q_SP 557 h x (1547425049106725343624954189, a, b, F)) : p_AE16_506 (m_ac (m_gh h) 16 0 96) (m_ac (m_gh h) 506 0 96) (m_ep x F) := by
  have e := m_gR (by decide +kernel) hp
  rw [f_AE16_506] at e
  exact e
theorem g_AE506_16 {h : qH} {x : Nat → Int} {a b : Nat} {F : aF} (hp : a_Rp q_SP 557 h x (1547425049106725343624954190, a, b, F)) : p_AE506_16 (m_ac (m_gh h) 16 0 96) (m_ac (m_gh h) 506 0 96) (m_ep x F) := by
  have e := m_gR (by decide +kernel) hp
  rw [f_AE506_16] at e
  exact e
theorem g_AE16_526 {h : qH} {x : Nat → Int} {a b : Nat} {F : aF} (hp : a_Rp q_SP 557 h x (2785365088392105618524078415, a, b, F)) : p_AE16_526 (m_ac (m_gh h) 16 0 96) (m_ac (m_gh h) 526 0 96) (m_ep x F) := by
  have e := m_gR (by decide +kernel) hp
  rw [f_AE16_526] at e
  exact e
theorem g_AE526_16 {h : qH} {x : Nat → Int} {a b : Nat} {F : aF} (hp : a_Rp q_SP 557 h x (2785365088392105618524078416, a, b, F)) : p_AE526_16 (m_ac (m_gh h) 16 0 96) (m_ac (m_gh h) 526 0 96) (m_ep x F) := by
  have e := m_gR (by decide +kernel) hp
  rw [f_AE526_16] at e
  exact e
theorem g_AE38_17 {h : qH} {x : Nat → Int} {a b : Nat} {F : aF} (hp : a_Rp q_SP 557 h x (5106502662052193633959936337, a, b, F)) : p_AE38_17 (m_ac (m_gh h) 38 0 96) (m_ac (m_gh h) 17 0 96) (m_ep x F) := by
  have e := m_gR (by decide +kernel) hp
  rw [f_AE38_17] at e
  exact e
theorem g_AE17_487 {h : qH} {x : Nat → Int} {a b : Nat} {F : aF} (hp : a_Rp q_SP 557 h x (14855280471424563298790539602, a, b, F)) : p_AE17_487 (m_ac (m_gh h) 17 0 96) (m_ac (m_gh h) 487 0 96) (m_ep x F) := by
  have e := m_gR (by decide +kernel) hp
  rw [f_AE17_487] at e
  exact e
theorem g_AE487_17 {h : qH} {x : Nat → Int} {a b : Nat} {F : aF} (hp : a_Rp q_SP 557 h x (14855280471424563298790539603, a, b, F)) : p_AE487_17 (m_ac (m_gh h) 17 0 96) (m_ac (m_gh h) 487 0 96) (m_ep x F) := by
  have e := m_gR (by decide +kernel) hp
  rw [f_AE487_17] at e
  exact e
theorem g_AE17_507 {h : qH} {x : Nat → Int} {a b : Nat} {F : aF} (hp : a_Rp q_SP 557 h x (24758800785707605497983533396, a, b, F)) : p_AE17_507 (m_ac (m_gh h) 17 0 96) (m_ac (m_gh h) 507 0 96) (m_ep x F) := by
  have e := m_gR (by decide +kernel) hp
  rw [f_AE17_507] at e
  exact e
theorem g_AE507_17 {h : qH} {x : Nat → Int} {a b : Nat} {F : aF} (hp : a_Rp q_SP 557 h x (24758800785707605497983533397, a, b, F)) : p_AE507_17 (m_ac (m_gh h) 17 0 96) (m_ac (m_gh h) 507 0 96) (m_ep x F) := by
  have e := m_gR (by decide +kernel) hp
  rw [f_AE507_17] at e
  exact e
theorem g_AE17_527 {h : qH} {x : Nat → Int} {a b : Nat} {F : aF} (hp : a_Rp q_SP 557 h x (44565841414273689896369520982, a, b, F)) : p_AE17_527 (m_ac (m_gh h) 17 0 96) (m_ac (m_gh h) 527 0 96) (m_ep x F) := by
  have e := m_gR (by decide +kernel) hp
  rw [f_AE17_527] at e
  exact e
theorem g_AE527_17 {h : qH} {x : Nat → Int} {a b : Nat} {F : aF} (hp : a_Rp q_SP 557 h x (44565841414273689896369520983, a, b, F)) : p_AE527_17 (m_ac (m_gh h) 17 0 96) (m_ac (m_gh h) 527 0 96) (m_ep x F) := by
  have e := m_gR (by decide +kernel) hp
  rw [f_AE527_17] at e
  exact e
theorem g_TC0 {h : qH} {x : Nat → Int} {a b : Nat} {F : aF} (hp : a_Rp q_SP 557 h x (559858382766813229323129979226, a, b, F)) : p_TC0 (m_gh h 5 0) (m_gh h 5 2) (m_ac (m_gh h) 16 0 96) (m_ac (m_gh h) 17 0 96) (m_ac (m_gh h) 539 0 6) (m_ac (m_gh h) 539 7 42) (m_ep x F) := by
  have e := m_gR (by decide +kernel) hp
  rw [f_TC0] at e
  exact e
theorem g_TC1 {h : qH} {x : Nat → Int} {a b : Nat} {F : aF} (hp : a_Rp q_SP 557 h x (4447299591132728637575104823643, a, b, F)) : p_TC1 (m_gh h 475 0) (m_gh h 475 2) (m_ac (m_gh h) 486 0 96) (m_ac (m_gh h) 487 0 96) (m_ac (m_gh h) 539 360 6) (m_ac (m_gh h) 539 367 42) (m_ep x F) := by
  have e := m_gR (by decide +kernel) hp
  rw [f_TC1] at e
  exact e
theorem g_TC2 {h : qH} {x : Nat → Int} {a b : Nat} {F : aF} (hp : a_Rp q_SP 557 h x (35515261787058274706580975911260, a, b, F)) : p_TC2 (m_gh h 495 0) (m_gh h 495 2) (m_ac (m_gh h) 506 0 96) (m_ac (m_gh h) 507 0 96) (m_ac (m_gh h) 539 720 6) (m_ac (m_gh h) 539 727 42) (m_ep x F) := by
  have e := m_gR (by decide +kernel) hp
  rw [f_TC2] at e
  exact e
theorem g_TC3 {h : qH} {x : Nat → Int} {a b : Nat} {F : aF} (hp : a_Rp q_SP 557 h x (283995824412459088864608089276765, a, b, F)) : p_TC3 (m_gh h 515 0) (m_gh h 515 2) (m_ac (m_gh h) 526 0 96) (m_ac (m_gh h) 527 0 96) (m_ac (m_gh h) 539 1080 6) (m_ac (m_gh h) 539 1087 42) (m_ep x F) := by
  have e := m_gR (by decide +kernel) hp
  rw [f_TC3] at e
  exact e
theorem g_MK1 {h : qH} {x : Nat → Int} {a b : Nat} {F : aF} (hp : a_Rp q_SP 557 h x (728837198129267636846860435807, a, b, F)) : p_MK1 (m_gh h 5 0) (m_gh h 5 2) (m_ac (m_gh h) 16 0 96) (m_ac (m_gh h) 17 0 96) (m_gh h 475 0) (m_gh h 475 2) (m_ac (m_gh h) 486 0 96) (m_ac (m_gh h) 487 0 96) (m_ep x F) := by
  have e := m_gR (by decide +kernel) hp
  rw [f_MK1] at e
  exact e
theorem g_MK2 {h : qH} {x : Nat → Int} {a b : Nat} {F : aF} (hp : a_Rp q_SP 557 h x (5176136789261996274421964210528, a, b, F)) : p_MK2 (m_gh h 5 0) (m_gh h 5 2) (m_ac (m_gh h) 16 0 96) (m_ac (m_gh h) 17 0 96) (m_gh h 495 0) (m_gh h 495 2) (m_ac (m_gh h) 506 0 96) (m_ac (m_gh h) 507 0 96) (m_ep x F) := by
  have e := m_gR (by decide +kernel) hp
  rw [f_MK2] at e
  exact e
theorem g_MK3 {h : qH} {x : Nat → Int} {a b : Nat} {F : aF} (hp : a_Rp q_SP 557 h x (40691398576320270981002939072865, a, b, F)) : p_MK3 (m_gh h 5 0) (m_gh h 5 2) (m_ac (m_gh h) 16 0 96) (m_ac (m_gh h) 17 0 96) (m_gh h 515 0) (m_gh h 515 2) (m_ac (m_gh h) 526 0 96) (m_ac (m_gh h) 527 0 96) (m_ep x F) := by
  have e := m_gR (by decide +kernel) hp
  rw [f_MK3] at e
  exact e
theorem g_LC0 {h : qH} {x : Nat → Int} {a b : Nat} {F : aF} (hp : a_Rp q_SP 557 h x (19342813113834066796347747, a, b, F)) : p_LC0 (m_ac (m_gh h) 539 0 360) (m_ep x F) := by
  have e := m_gR (by decide +kernel) hp
  rw [f_LC0] at e
  exact e
theorem g_LC1 {h : qH} {x : Nat → Int} {a b : Nat} {F : aF} (hp : a_Rp q_SP 557 h x (324518553658426726783156021625188, a, b, F)) : p_LC1 (m_ac (m_gh h) 539 360 360) (m_ep x F) := by
  have e := m_gR (by decide +kernel) hp
  rw [f_LC1] at e
  exact e
theorem g_LC2 {h : qH} {x : Nat → Int} {a b : Nat} {F : aF} (hp : a_Rp q_SP 557 h x (649037107316853453566312042201445, a, b, F)) : p_LC2 (m_ac (m_gh h) 539 720 360) (m_ep x F) := by
  have e := m_gR (by decide +kernel) hp
  rw [f_LC2] at e
  exact e
theorem g_LC3 {h : qH} {x : Nat → Int} {a b : Nat} {F : aF} (hp : a_Rp q_SP 557 h x (1298074214633706907132624083353958, a, b, F)) : p_LC3 (m_ac (m_gh h) 539 1080 360) (m_ep x F) := by
  have e := m_gR (by decide +kernel) hp
  rw [f_LC3] at e
  exact e
theorem g_CB01 {h : qH} {x : Nat → Int} {a b : Nat} {F : aF} (hp : a_Rp q_SP 557 h x (324518573001239840617222816924007, a, b, F)) : p_CB01 (m_ac (m_gh h) 539 0 360) (m_ac (m_gh h) 539 360 360) (m_ep x F) := by
  have e := m_gR (by decide +kernel) hp
  rw [f_CB01] at e
  exact e
theorem g_CB02 {h : qH} {x : Nat → Int} {a b : Nat} {F : aF} (hp : a_Rp q_SP 557 h x (649037126659666567400378837500264, a, b, F)) : p_CB02 (m_ac (m_gh h) 539 0 360) (m_ac (m_gh h) 539 720 360) (m_ep x F) := by
  have e := m_gR (by decide +kernel) hp
  rw [f_CB02] at e
  exact e
theorem g_CB03 {h : qH} {x : Nat → Int} {a b : Nat} {F : aF} (hp : a_Rp q_SP 557 h x (1298074233976520020966690878652777, a, b, F)) : p_CB03 (m_ac (m_gh h) 539 0 360) (m_ac (m_gh h) 539 1080 360) (m_ep x F) := by
  have e := m_gR (by decide +kernel) hp
  rw [f_CB03] at e
  exact e
theorem g_CB10 {h : qH} {x : Nat → Int} {a b : Nat} {F : aF} (hp : a_Rp q_SP 557 h x (324518573001239840617222816924010, a, b, F)) : p_CB10 (m_ac (m_gh h) 539 0 360) (m_ac (m_gh h) 539 360 360) (m_ep x F) := by
  have e := m_gR (by decide +kernel) hp
  rw [f_CB10] at e
  exact e
theorem g_CB20 {h : qH} {x : Nat → Int} {a b : Nat} {F : aF} (hp : a_Rp q_SP 557 h x (649037126659666567400378837500267, a, b, F)) : p_CB20 (m_ac (m_gh h) 539 0 360) (m_ac (m_gh h) 539 720 360) (m_ep x F) := by
  have e := m_gR (by decide +kernel) hp
  rw [f_CB20] at e
  exact e
theorem g_CB30 {h : qH} {x : Nat → Int} {a b : Nat} {F : aF} (hp : a_Rp q_SP 557 h x (1298074233976520020966690878652780, a, b, F)) : p_CB30 (m_ac (m_gh h) 539 0 360) (m_ac (m_gh h) 539 1080 360) (m_ep x F) := by
  have e := m_gR (by decide +kernel) hp
  rw [f_CB30] at e
  exact e
theorem g_KPT {h : qH} {x : Nat → Int} {a b : Nat} {F : aF} (hp : a_Rp q_SP 557 h x (475368975085586307036241461614, a, b, F)) : p_KPT (m_ac (m_gh h) 540 0 147) (m_ac (m_gh h) 539 0 6) (m_ac (m_gh h) 539 7 42) (m_ep x F) := by
  have e := m_gR (by decide +kernel) hp
  rw [f_KPT] at e
  exact e
theorem g_LKP {h : qH} {x : Nat → Int} {a b : Nat} {F : aF} (hp : a_Rp q_SP 557 h x (281474977759599, a, b, F)) : p_LKP (m_ac (m_gh h) 540 0 147) (m_ep x F) := by
  have e := m_gR (by decide +kernel) hp
  rw [f_LKP] at e
  exact e
theorem g_TV {h : qH} {x : Nat → Int} {a b : Nat} {F : aF} (hp : a_Rp q_SP 557 h x (475368975085586025561264750962, a, b, F)) : p_TV (m_ac (m_gh h) 539 0 6) (m_ac (m_gh h) 539 7 42) (m_ep x F) := by
  have e := m_gR (by decide +kernel) hp
  rw [f_TV] at e
  exact e
theorem g_SWV {h : qH} {x : Nat → Int} {a b : Nat} {F : aF} (hp : a_Rp q_SP 557 h x (475368975085586025561264750963, a, b, F)) : p_SWV (m_ac (m_gh h) 539 0 6) (m_ac (m_gh h) 539 7 42) (m_ep x F) := by
  have e := m_gR (by decide +kernel) hp
  rw [f_SWV] at e
  exact e
theorem g_HL {h : qH} {x : Nat → Int} {a b : Nat} {F : aF} (hp : a_Rp q_SP 557 h x (475368975085586025561264750964, a, b, F)) : p_HL (m_ac (m_gh h) 539 0 6) (m_ac (m_gh h) 539 7 42) (m_ep x F) := by
  have e := m_gR (by decide +kernel) hp
  rw [f_HL] at e
  exact e
