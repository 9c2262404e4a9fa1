-- 59.split: a method's check in pieces
section
variable {sp : aSp} {nc : Nat} {tab : Nat → qM} {ct : Nat → List (Nat × aCon)} {rc : Nat → List (aF × aCon)} {ρ0 : aF} {M : qM} {S : aW} {D p : Nat} {outs : List aOut} {cuts : List aCut} {spl : aSg} {fuel : Nat} {C : aCon}
theorem a_mok_of (h0 : (a_wfb (a_n C.2.2.2.1) (a_cn 0).1 && (Nat.beq (q_mc M) 0 && (Nat.beq (q_ms M) 0 && Nat.ble (C.2.1.map a_cat).sum (q_mL M)))) = true) (h1 : a_go sp nc tab ct (fun _ => []) (a_cn 0) M C.2.2.2.2.1 D (a_n C.2.2.2.1) C.2.2.2.2.2 cuts spl none fuel true (C.2.2.2.1, C.2.2.1, 0, a_args 0 C.2.1, []) = true) (h2 : a_cuts sp nc tab ct (fun _ => []) (a_cn 0) M C.2.2.2.2.1 D (a_n C.2.2.2.1) C.2.2.2.2.2 cuts spl fuel cuts = true) : a_mok sp nc tab ct M D C cuts spl fuel = true := by
  unfold a_mok a_mokr
  simp only [Bool.and_eq_true] at h0 ⊢
  exact ⟨h0.1, h0.2.1, h0.2.2.1, h0.2.2.2, h1, h2⟩
theorem a_cuts_of {c : aCut} {cs : List aCut} (h1 : (Nat.ble p (a_n c.2.2.2.2.2.1) && (a_wfb (a_n c.2.2.2.2.2.1) c.2.2.2.2.2.2.1 && a_nn c.2.2.2.2.2.1 c.2.2.2.2.2.2 2)) = true) (h2 : a_go sp nc tab ct rc ρ0 M S D p outs cuts spl (some c.2.2.2.2.2.2) fuel true (c.2.2.2.2.2.1, c.2.2.2.2.1, c.1, c.2.2.1, c.2.2.2.1) = true) (h3 : a_cuts sp nc tab ct rc ρ0 M S D p outs cuts spl fuel cs = true) : a_cuts sp nc tab ct rc ρ0 M S D p outs cuts spl fuel (c :: cs) = true := by
  unfold a_cuts
  simp only [Bool.and_eq_true] at h1 ⊢
  exact ⟨⟨h1.1, h1.2.1, h1.2.2, h2⟩, h3⟩
theorem a_cuts_nil : a_cuts sp nc tab ct rc ρ0 M S D p outs cuts spl fuel [] = true := rfl
end
