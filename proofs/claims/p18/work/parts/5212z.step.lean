-- 12z.step: the step
section
variable {sp : aSp} {nc : Nat} {S : aW} {σ : Nat → Int} {env : qE} {h : qH} {lv : qL} {stk : List qV} {E : aE} {K : aK} {pc : Nat} {al : aL} {sk : List aV} {nx : List aS} {e : qN}
noncomputable def a_or (a b : Option (List aS)) : Option (List aS) := match a with
  | some x => some x
  | none => b
theorem a_or_ok {a b : Option (List aS)} {x : List aS} (h : a_or a b = some x) : a = some x ∨ b = some x := by
  cases a with
  | none => exact Or.inr h
  | some y => exact Or.inl h
/-- a step; calls and returns apart -/
noncomputable def a_step (sp : aSp) (nc : Nat) (S : aW) (maxL : Nat) (e : qN) (E : aE) (K : aK) (al : aL) (sk : List aV) : Option (List aS) := match e.1 with
  | 0 => a_s0 e E K al sk
  | 1 => a_s1 e E K al sk
  | 2 => a_s2 maxL e E K al sk
  | 3 => a_s3 maxL e E K al sk
  | 4 => a_s4 e E K al sk
  | 5 => a_s5 e E K al sk
  | 6 => a_s6 e E K al sk
  | 7 => a_s7 e E K al sk
  | 8 => a_s8 e E K al sk
  | 9 => a_s9 e E K al sk
  | 10 => a_s10 e E K al sk
  | 11 => a_s11 (q_a e) (q_pc e + 3) E K al sk
  | 12 => a_s12 e E K al sk
  | 13 => a_s13 e E K al sk
  | 14 => a_s14 sp nc e E K al sk
  | 15 => a_s15 sp nc S e E K al sk
  | 19 => a_s19 sp nc e E K al sk
  | 20 => a_or (a_s20q sp nc e E K al sk) (a_or (a_s20p sp nc e E K al sk) (a_or (a_s20s sp nc e E K al sk) (a_or (a_s20 sp nc e E K al sk) (a_s20r sp nc e E K al sk))))
  | 21 => a_or (a_s21s sp nc S e E K al sk) (a_or (a_s21 sp nc S e E K al sk) (a_s21r sp nc S e E K al sk))
  | 26 => a_s26 sp nc S e E K al sk
  | 27 => a_s11 (q_pc e + 3) (q_a e) E K al sk
  | 28 => a_s28 e E K al sk
  | 29 => a_s29 e E K al sk
  | 30 => a_s30 e E K al sk
  | _ => none
theorem a_step_ok {maxL : Nat} (hE : a_En σ E) (hh : a_HI sp nc h) (hR : a_Rs sp nc σ (a_n E) h lv stk K al sk) (hs : a_step sp nc S maxL e E K al sk = some nx) : a_Nx sp nc S σ (a_n E) env h (q_stepS 0 0 false 0 maxL e env h 0 0 lv stk) nx ∧ e.1 ≠ 23 ∧ e.1 ≠ 24 := by
  unfold a_step at hs
  unfold q_stepS
  generalize e.1 = op at hs
  rcases op with _ | _ | _ | _ | _ | _ | _ | _ | _ | _ | _ | _ | _ | _ | _ | _ | _ | _ | _ | _ | _ | _ | _ | _ | _ | _ | _ | _ | _ | _ | _ | op
  · exact ⟨a_k0 hE hh hR hs, by decide, by decide⟩
  · exact ⟨a_k1 hE hh hR hs, by decide, by decide⟩
  · exact ⟨a_k2 hE hh hR hs, by decide, by decide⟩
  · exact ⟨a_k3 hE hh hR hs, by decide, by decide⟩
  · exact ⟨a_k4 hE hh hR hs, by decide, by decide⟩
  · exact ⟨a_k5 hE hh hR hs, by decide, by decide⟩
  · exact ⟨a_k6 hE hh hR hs, by decide, by decide⟩
  · exact ⟨a_k7 hE hh hR hs, by decide, by decide⟩
  · exact ⟨a_k8 hE hh hR hs, by decide, by decide⟩
  · exact ⟨a_k9 hE hh hR hs, by decide, by decide⟩
  · exact ⟨a_k10 hE hh hR hs, by decide, by decide⟩
  · exact ⟨a_k11 hE hh hR hs, by decide, by decide⟩
  · exact ⟨a_k12 hE hh hR hs, by decide, by decide⟩
  · exact ⟨a_k13 hE hh hR hs, by decide, by decide⟩
  · exact ⟨a_k14 hE hh hR hs, by decide, by decide⟩
  · exact ⟨a_k15 hE hh hR hs, by decide, by decide⟩
  · cases hs
  · cases hs
  · cases hs
  · exact ⟨a_k19 hE hh hR hs, by decide, by decide⟩
  · refine ⟨?_, by decide, by decide⟩
    rcases a_or_ok hs with hs | hs
    · exact a_k20q hE hh hR hs
    · rcases a_or_ok hs with hs | hs
      · exact a_k20p hE hh hR hs
      · rcases a_or_ok hs with hs | hs
        · exact a_k20s hE hh hR hs
        · rcases a_or_ok hs with hs | hs
          · exact a_k20 hE hh hR hs
          · exact a_k20r hE hh hR hs
  · refine ⟨?_, by decide, by decide⟩
    rcases a_or_ok hs with hs | hs
    · exact a_k21s hE hh hR hs
    · rcases a_or_ok hs with hs | hs
      · exact a_k21 hE hh hR hs
      · exact a_k21r hE hh hR hs
  · cases hs
  · cases hs
  · cases hs
  · cases hs
  · exact ⟨a_k26 hE hh hR hs, by decide, by decide⟩
  · exact ⟨a_k27 hE hh hR hs, by decide, by decide⟩
  · exact ⟨a_k28 hE hh hR hs, by decide, by decide⟩
  · exact ⟨a_k29 hE hh hR hs, by decide, by decide⟩
  · exact ⟨a_k30 hE hh hR hs, by decide, by decide⟩
  · cases hs
end
