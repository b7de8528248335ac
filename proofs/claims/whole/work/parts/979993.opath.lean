/-- the most that was found so far, and one more -/
def moI (m : Option Nat) : Int32 := match m with
  | none => -1
  | some v => nI v
def beB (m : Option Nat) (o : Nat) (P : Option (Nat × Nat)) : Bool := match P with
  | none => false
  | some q => match m with
    | none => true
    | some v => decide (v < o + q.1)
def buN (m : Option Nat) (o : Nat) (P : Option (Nat × Nat)) : Option Nat := match P with
  | none => m
  | some q => if beB m o (some q) then some (o + q.1) else m
theorem bu_comb {m : Option Nat} {o py j : Nat} {P P' : Option (Nat × Nat)} : buN (buN m o P) (o + py) P' = buN m o (updO P (P'.map (fun q => py + q.1)) j) ∧ (beB (buN m o P) (o + py) P' = true → beB m o (updO P (P'.map (fun q => py + q.1)) j) = true ∧ chN (updO P (P'.map (fun q => py + q.1)) j) = j) ∧ (beB (buN m o P) (o + py) P' = false → beB m o (updO P (P'.map (fun q => py + q.1)) j) = beB m o P ∧ (beB m o P = true → updO P (P'.map (fun q => py + q.1)) j = P)) := by
  cases P' with
  | none => exact ⟨rfl, (fun h => by cases h), (fun _ => ⟨rfl, fun _ => rfl⟩)⟩
  | some x =>
    cases P with
    | none =>
      cases m with
      | none => exact ⟨by simp [buN, beB, updO, Nat.add_assoc], (fun _ => ⟨rfl, rfl⟩), (fun h => by cases h)⟩
      | some v =>
        by_cases q : v < o + py + x.1
        · have q' : v < o + (py + x.1) := by omega
          refine ⟨by simp [buN, beB, updO, q, q', Nat.add_assoc], fun _ => ⟨by simp [beB, updO, q'], rfl⟩, fun h => ?_⟩
          simp [buN, beB, q] at h
        · have q' : ¬ v < o + (py + x.1) := by omega
          refine ⟨by simp [buN, beB, updO, q, q'], fun h => ?_, fun _ => ⟨by simp [beB, updO, q'], (fun h => by cases h)⟩⟩
          simp [buN, beB, q] at h
    | some y =>
      by_cases r : y.1 < py + x.1
      · have hu : updO (some y) (Option.map (fun q => py + q.1) (some x)) j = some (py + x.1, j) := by
          show (if y.1 < py + x.1 then some (py + x.1, j) else some y) = _
          rw [if_pos r]
        rw [hu]
        cases m with
        | none =>
          have q' : o + y.1 < o + py + x.1 := by omega
          refine ⟨by simp [buN, beB, q', Nat.add_assoc]; omega, fun _ => ⟨rfl, rfl⟩, fun h => ?_⟩
          simp [buN, beB, q'] at h
        | some v =>
          by_cases q1 : v < o + y.1
          · have q2 : o + y.1 < o + py + x.1 := by omega
            have q3 : v < o + (py + x.1) := by omega
            refine ⟨by simp [buN, beB, q1, q2, q3, Nat.add_assoc]; omega, fun _ => ⟨by simp [beB, q3], rfl⟩, fun h => ?_⟩
            simp [buN, beB, q1, q2] at h
          · by_cases q : v < o + py + x.1
            · have q3 : v < o + (py + x.1) := by omega
              refine ⟨by simp [buN, beB, q1, q, q3, Nat.add_assoc], fun _ => ⟨by simp [beB, q3], rfl⟩, fun h => ?_⟩
              simp [buN, beB, q1, q] at h
            · have q3 : ¬ v < o + (py + x.1) := by omega
              refine ⟨by simp [buN, beB, q1, q, q3], fun h => ?_, fun _ => ⟨by simp [beB, q1, q3], fun h => ?_⟩⟩
              · simp [buN, beB, q1, q] at h
              · simp [beB, q1] at h
      · have hu : updO (some y) (Option.map (fun q => py + q.1) (some x)) j = some y := by
          show (if y.1 < py + x.1 then some (py + x.1, j) else some y) = _
          rw [if_neg r]
        rw [hu]
        have hno : beB (buN m o (some y)) (o + py) (some x) = false := by
          cases m with
          | none =>
            have q' : ¬ o + y.1 < o + py + x.1 := by omega
            simp [buN, beB, q']
          | some v =>
            by_cases q1 : v < o + y.1
            · have q2 : ¬ o + y.1 < o + py + x.1 := by omega
              simp [buN, beB, q1, q2]
            · have q2 : ¬ v < o + py + x.1 := by omega
              simp [buN, beB, q1, q2]
        refine ⟨?_, fun h => ?_, fun _ => ⟨rfl, fun _ => rfl⟩⟩
        · show (if beB (buN m o (some y)) (o + py) (some x) = true then _ else buN m o (some y)) = _
          rw [hno]
          rfl
        · rw [hno] at h
          cases h
/-- the path of the best so far -/
def paN (M : Nat → Nat → Nat → Nat → Option (Nat × Nat)) (af : Nat → Nat → Nat → Nat) (f d done t : Nat) (pre : Nat → Nat) (P : Option (Nat × Nat)) (i : Nat) : Nat := if i < d then pre i else if i = d then chN P else pthN M af f (d + 1) (done ||| 2 ^ chN P) (af d t (chN P)) (i - (d + 1))
def paE (M : Nat → Nat → Nat → Nat → Option (Nat × Nat)) (af : Nat → Nat → Nat → Nat) (f d done t : Nat) (pre : Nat → Nat) (i : Nat) : Nat := if i < d then pre i else pthN M af f d done t (i - d)
theorem pa_end {M : Nat → Nat → Nat → Nat → Option (Nat × Nat)} {af : Nat → Nat → Nat → Nat} {f d done t : Nat} {pre : Nat → Nat} {i : Nat} : paN M af f d done t pre (M (f + 1) d done t) i = paE M af (f + 1) d done t pre i := by
  unfold paN paE
  by_cases q : i < d
  · rw [if_pos q, if_pos q]
  · rw [if_neg q, if_neg q]
    by_cases e : i = d
    · rw [if_pos e, show i - d = 0 by omega]
      rfl
    · rw [if_neg e, show i - d = (i - (d + 1)) + 1 by omega]
      rfl
theorem pa_new {M : Nat → Nat → Nat → Nat → Option (Nat × Nat)} {af : Nat → Nat → Nat → Nat} {f d done t j : Nat} {pre : Nat → Nat} {P : Option (Nat × Nat)} (h : chN P = j) {i : Nat} : paE M af f (d + 1) (done ||| 2 ^ j) (af d t j) (fun i => if i = d then j else pre i) i = paN M af f d done t pre P i := by
  unfold paN paE
  rw [h]
  by_cases q : i < d
  · rw [if_pos q, if_pos (by omega)]
    dsimp only
    rw [if_neg (by omega)]
  · by_cases e : i = d
    · rw [if_neg q, if_pos e, if_pos (by omega)]
      dsimp only
      rw [if_pos e]
    · rw [if_neg q, if_neg e, if_neg (by omega)]
/-- how many rounds a node costs -/
def coN (n : Nat) : Nat → Nat
  | 0 => 0
  | f + 1 => n * (1 + coN n f) + 1
theorem co_le {n : Nat} (hn : n ≤ 8) : ∀ f, coN n f + 1 ≤ 10 ^ f
  | 0 => Nat.le_refl _
  | f + 1 => by
    have ih := co_le hn f
    have h1 : n * (1 + coN n f) ≤ 8 * (1 + coN n f) := Nat.mul_le_mul_right _ hn
    rw [coN, Nat.pow_succ]
    omega
/-- what a node of depth d writes -/
def WNo (d : Nat) : Nat → Nat → Bool := fun a k => WR a k || (a == 75 && decide (136 * (17 + d) ≤ k)) || (a == 94 && decide (d ≤ k)) || a == 95
theorem WNo_s {d : Nat} (a k : Nat) (h : WNo d a k = false) : WNo (d + 1) a k = false := by
  unfold WNo at h ⊢
  simp only [Bool.or_eq_false_iff, Bool.and_eq_false_iff, decide_eq_false_iff_not] at h ⊢
  obtain ⟨⟨⟨h1, h2⟩, h3⟩, h4⟩ := h
  refine ⟨⟨⟨h1, ?_⟩, ?_⟩, h4⟩
  · rcases h2 with h2 | h2
    · exact Or.inl h2
    · exact Or.inr (by omega)
  · rcases h3 with h3 | h3
    · exact Or.inl h3
    · exact Or.inr (by omega)
theorem WR_WNo {d : Nat} (a k : Nat) (h : WNo d a k = false) : WR a k = false := by
  unfold WNo at h
  simp only [Bool.or_eq_false_iff] at h
  exact h.1.1.1
theorem WH_WNo {d : Nat} (a k : Nat) (h : WNo d a k = false) : WH a k = false := WH_WR a k (WR_WNo a k h)
theorem nI_m1 {d : Nat} : nI (d + 1) + Int32.ofInt (-1) = nI d := by
  rw [← nI_1 d, Int32.add_assoc, show (1 + Int32.ofInt (-1) : Int32) = 0 by decide, Int32.add_zero]
theorem mo_le {m : Option Nat} {o : Nat} (ho : o < 2147483648) (hm : ∀ v, m = some v → v < 2147483648) : (nI o ≤ moI m) = (beB m o (some (0, 0)) = false) := by
  cases m with
  | none =>
    have : ¬ nI o ≤ (-1 : Int32) := by
      rw [Int32.le_iff_toInt_le, nI_toInt ho, show (-1 : Int32).toInt = -1 by decide]
      omega
    simp [moI, beB, this]
  | some v =>
    have hv := hm v rfl
    have e : (nI o ≤ nI v) = (o ≤ v) := propext (nI_leI ho hv)
    simp [moI, beB, e]
/-- a row put back from paper -/
theorem s_pbk {G : XH} (hM : MS G) {S S' : Nat → Int32} {k : Nat} (hk : k ≤ 25) (hrow : hpI G 72 = S') (hHi : Hi S S') (hun : ∀ i, i < 136 → hpI G 75 (136 * k + i) = S (5 + i)) (Q : XR → Prop) : SP D_Mdl_putBack [.ref 70, .int (nI k)] G Q = Q (none, stA G 72 S) := by
  have := s_putBack hM Q k hk
  rw [hrow] at this
  have e : va_cpy (hpI G 75) S' (136 * k) 5 136 = S := by
    funext j
    by_cases q : 5 ≤ j ∧ j < 5 + 136
    · rw [cpy_in q, hun (j - 5) (by omega)]
      exact congrArg S (by omega)
    · rw [cpy_out q]
      exact hHi j (by omega)
  rw [e] at this
  exact this
