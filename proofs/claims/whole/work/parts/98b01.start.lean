/-- rows at the start -/
def r0F (j : Nat) : Int32 := if j = 4 then -1 else if j = 6 then 10 else if 165 ≤ j ∧ j < 173 then -1 else 0
/-- what stands at the start -/
def IN0 (G : XH) : Prop := CS G ∧ MS G ∧ ((∀ i, i < 16 → hpR G 9 i = some (10 + i) ∧ hpC G (10 + i) = 20 ∧ hpN G (10 + i) = 138) ∧ ∀ i, i < 16 → hpR G 28 i = some (29 + i) ∧ hpC G (29 + i) = 20 ∧ hpN G (29 + i) = 138) ∧ hpZ G = 105 ∧ hpS G ≤ 7000000 ∧ (∀ j, j < 180 → hpI G 72 j = r0F j) ∧ (∀ j, j < 138 → hpI G 2 j = if j = 1 then 10 else 0) ∧ (∀ r, r < 8 → hpI G 5 r = -1) ∧ hpI G 1 5 = 0 ∧ hpI G 1 6 = 0 ∧ hpI G 1 7 = -1 ∧ (∀ k, k < 6 → hpR G 6 k = none) ∧ hpI G 8 3 = 0 ∧ hpI G 8 2 = 0 ∧ hpI G 47 1 = 0 ∧ hpI G 0 19 = 0 ∧ hpI G 0 17 = -1 ∧ hpI G 0 18 = -1 ∧ hpI G 0 16 = 0 ∧ (∀ i, i < 5 → hpI G 69 i = 0) ∧ hpI G 0 14 = 0 ∧ (∀ k, k < 2 → hpR G 7 k = none) ∧ hpI G 70 20 = 0 ∧ hpI G 70 8 = 0 ∧ hpI G 70 13 = 0 ∧ hpI G 70 11 = 0 ∧ hpI G 70 18 = -1 ∧ hpI G 70 60 = -1 ∧ hpI G 70 1 = 0 ∧ (∀ i, i < 5 → hpI G 71 (mIx i) = 0) ∧ (hpI G 70 64 = 0 ∨ hpI G 70 64 = -1) ∧ (∀ k, k < 2 → hpI G 74 k = 0) ∧ (∀ k, k < 10 → hpL G 85 k = Int64.ofNat (wcd (lawW.getD k []))) ∧ (∀ k, k < 7 → hpL G 86 k = Int64.ofNat (wcd (ordW.getD k []))) ∧ ∀ k, k < 5 → hpL G 87 k = Int64.ofNat (wcd (hdsW.getD k []))
def dIN0 (G : XH) : Decidable (IN0 G) := by
  unfold IN0 CS MS
  repeat' (first | refine @instDecidableAnd _ _ ?_ ?_ | infer_instance)
/-- both constructors -/
def st0 : Option (XH × XH) := match D_Post_init [.ref 0] (stN G0 10 20) with
  | some (none, G1) => (match D_Mdl_init [.ref (hpZ G1)] (stN G1 11 65) with
    | some (none, G2) => some (G1, G2)
    | _ => none)
  | _ => none
def ok0 : Bool := match st0 with
  | some z => decide (hpZ z.1 = 70) && @decide (IN0 z.2) (dIN0 z.2)
  | none => false
theorem ok0_t : ok0 = true := by decide +kernel
