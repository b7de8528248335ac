/-- the rows when the k-th snapshot is put back -/
def snR (R u : Nat → Int32) (k : Nat) : Nat → Int32 := va_cpy u R (136 * k) 5 136
theorem cpy_in {f g : Nat → Int32} {s d n k : Nat} (h : d ≤ k ∧ k < d + n) : va_cpy f g s d n k = f (s + (k - d)) := by
  unfold va_cpy
  rw [if_pos h]
theorem cpy_out {f g : Nat → Int32} {s d n k : Nat} (h : ¬ (d ≤ k ∧ k < d + n)) : va_cpy f g s d n k = g k := by
  unfold va_cpy
  rw [if_neg h]
/-- what VW and RW read -/
def EqS (R R' : Nat → Int32) : Prop := R' 1 = R 1 ∧ R' 2 = R 2 ∧ ∀ j, 5 ≤ j → j < 141 → R' j = R j
theorem VW.eqs {s R R' : Nat → Int32} (h : VW s R) (he : EqS R R') : VW s R' := by
  obtain ⟨h1, h2, h3, h4, h5⟩ := h
  obtain ⟨e1, e2, e3⟩ := he
  refine ⟨fun k hk => ?_, by rw [e1]; exact h2, by rw [e2]; exact h3, fun r f hr hf => ?_, fun l f hl hf => ?_⟩
  · rw [e3 _ (by omega) (by omega)]; exact h1 k hk
  · rw [e3 _ (by omega) (by omega)]; exact h4 r f hr hf
  · rw [e3 _ (by omega) (by omega)]; exact h5 l f hl hf
theorem RW.eqs {R R' : Nat → Int32} {nr nl c : Nat} (h : RW R nr nl c) (he : EqS R R') : RW R' nr nl c := by
  obtain ⟨h1, h2, h3, h4, h5, h6, h7, h8, h9, h10⟩ := h
  obtain ⟨e1, e2, e3⟩ := he
  refine ⟨by rw [e1]; exact h1, h2, by rw [e2]; exact h3, h4, ?_, ?_, ?_, ?_, fun r hr => ?_, fun l hl => ?_⟩
  · rw [e3 _ (by omega) (by omega)]; exact h5
  · rw [e3 _ (by omega) (by omega)]; exact h6
  · rw [e3 _ (by omega) (by omega)]; exact h7
  · rw [e3 _ (by omega) (by omega)]; exact h8
  · rw [e3 (9 + 6 * r) (by omega) (by omega), e3 (10 + 6 * r) (by omega) (by omega), e3 (11 + 6 * r) (by omega) (by omega), e3 (12 + 6 * r) (by omega) (by omega), e3 (13 + 6 * r) (by omega) (by omega), e3 (14 + 6 * r) (by omega) (by omega)]
    exact h9 r hr
  · rw [e3 (57 + 7 * l) (by omega) (by omega), e3 (58 + 7 * l) (by omega) (by omega), e3 (59 + 7 * l) (by omega) (by omega), e3 (60 + 7 * l) (by omega) (by omega), e3 (61 + 7 * l) (by omega) (by omega), e3 (62 + 7 * l) (by omega) (by omega), e3 (63 + 7 * l) (by omega) (by omega)]
    exact h10 l hl
theorem RW.mono {R : Nat → Int32} {nr nl c c' : Nat} (h : RW R nr nl c) (hc : c ≤ c') : RW R nr nl c' := by
  obtain ⟨h1, h2, h3, h4, h5, h6, h7, h8, h9, h10⟩ := h
  refine ⟨h1, h2, h3, h4, h5, h6, h7, h8.le (by omega), fun r hr => ?_, h10⟩
  obtain ⟨a1, a2, a3, a4, a5, a6⟩ := h9 r hr
  exact ⟨a1, a2, a3, a4.le (by omega), a5.le (by omega), a6.le (by omega)⟩
theorem VW.eqc {s s' R : Nat → Int32} (h : VW s R) (he : ∀ j, j < 138 → s' j = s j) : VW s' R := by
  obtain ⟨h1, h2, h3, h4, h5⟩ := h
  refine ⟨fun k hk => ?_, ?_, ?_, fun r f hr hf => ?_, fun l f hl hf => ?_⟩
  · rw [he _ (by omega)]; exact h1 k hk
  · rw [he _ (by omega)]; exact h2
  · rw [he _ (by omega)]; exact h3
  · rw [he _ (by omega)]; exact h4 r f hr hf
  · rw [he _ (by omega)]; exact h5 l f hl hf
/-- what can be undone, of both -/
def URel (R : Nat → Int32) (nr nl c : Nat) (u so : Nat → Int32) (n : Nat) (st : Nat → Nat → Int32) (kd : Nat → Int32) (p : Nat) : Prop := n ≤ 16 ∧ p < 16 ∧ ∀ k, k < n → so k = kd ((p + 16 - n + k) % 16) ∧ (so k = 0 ∨ so k = 1 ∨ so k = 2) ∧ VW (st ((p + 16 - n + k) % 16)) (snR R u k) ∧ RW (snR R u k) nr nl c
theorem snR_eqs {R R' u u' : Nat → Int32} {k k' : Nat} (h1 : R' 1 = R 1) (h2 : R' 2 = R 2) (hu : ∀ i, i < 136 → u' (136 * k' + i) = u (136 * k + i)) : EqS (snR R u k) (snR R' u' k') := by
  unfold snR
  refine ⟨?_, ?_, fun j h5 h6 => ?_⟩
  · rw [cpy_out (by omega), cpy_out (by omega)]; exact h1
  · rw [cpy_out (by omega), cpy_out (by omega)]; exact h2
  · rw [cpy_in (by omega), cpy_in (by omega)]
    exact hu _ (by omega)
theorem URel.rows {R R' : Nat → Int32} {nr nl c c' : Nat} {u so : Nat → Int32} {n : Nat} {st : Nat → Nat → Int32} {kd : Nat → Int32} {p : Nat} (h : URel R nr nl c u so n st kd p) (h1 : R' 1 = R 1) (h2 : R' 2 = R 2) (hc : c ≤ c') : URel R' nr nl c' u so n st kd p := by
  obtain ⟨a1, a2, a3⟩ := h
  refine ⟨a1, a2, fun k hk => ?_⟩
  obtain ⟨b1, b2, b3, b4⟩ := a3 k hk
  have he := snR_eqs (R := R) (R' := R') (u := u) (u' := u) (k := k) (k' := k) h1 h2 (fun _ _ => rfl)
  exact ⟨b1, b2, b3.eqs he, (b4.eqs he).mono hc⟩
theorem URel.none {R : Nat → Int32} {nr nl c : Nat} {u so : Nat → Int32} {st : Nat → Nat → Int32} {kd : Nat → Int32} {p : Nat} (hp : p < 16) : URel R nr nl c u so 0 st kd p := ⟨by omega, hp, fun k hk => absurd hk (by omega)⟩
/-- one more -/
theorem URel.keep {R : Nat → Int32} {nr nl c : Nat} {u so : Nat → Int32} {n : Nat} {st : Nat → Nat → Int32} {kd : Nat → Int32} {p : Nat} (h : URel R nr nl c u so n st kd p) (hn : n < 16) {s : Nat → Int32} (hV : VW s R) (hR : RW R nr nl c) (v : Int32) (hv : v = 0 ∨ v = 1 ∨ v = 2) {st' : Nat → Nat → Int32} (hs1 : ∀ i, i < 16 → ¬ i = p → st' i = st i) (hs2 : ∀ j, j < 138 → st' p j = s j) : URel R nr nl c (va_cpy R u 5 (136 * n) 136) (up so n v) (n + 1) st' (up kd p v) ((p + 1) % 16) := by
  obtain ⟨a1, a2, a3⟩ := h
  refine ⟨by omega, by omega, fun k hk => ?_⟩
  have ei : ((p + 1) % 16 + 16 - (n + 1) + k) % 16 = (p + 16 - n + k) % 16 := by omega
  rw [ei]
  by_cases q : k = n
  · subst q
    have e1 : (p + 16 - k + k) % 16 = p := by omega
    have e2 : snR R (va_cpy R u 5 (136 * k) 136) k = R := by
      funext j
      unfold snR
      by_cases q : 5 ≤ j ∧ j < 5 + 136
      · rw [cpy_in q, cpy_in (by omega)]
        exact congrArg R (by omega)
      · rw [cpy_out q]
    rw [e1, up_eq, up_eq, e2]
    exact ⟨rfl, hv, hV.eqc hs2, hR⟩
  · obtain ⟨b1, b2, b3, b4⟩ := a3 k (by omega)
    have hne : ¬ (p + 16 - n + k) % 16 = p := by omega
    have he : EqS (snR R u k) (snR R (va_cpy R u 5 (136 * n) 136) k) := snR_eqs rfl rfl (fun i hi => cpy_out (by omega))
    rw [up_ne q, up_ne hne, hs1 _ (by omega) hne]
    exact ⟨b1, b2, b3.eqs he, b4.eqs he⟩
/-- one more where sixteen are kept -/
theorem URel.keep16 {R : Nat → Int32} {nr nl c : Nat} {u so : Nat → Int32} {st : Nat → Nat → Int32} {kd : Nat → Int32} {p : Nat} (h : URel R nr nl c u so 16 st kd p) {s : Nat → Int32} (hV : VW s R) (hR : RW R nr nl c) (v : Int32) (hv : v = 0 ∨ v = 1 ∨ v = 2) {st' : Nat → Nat → Int32} (hs1 : ∀ i, i < 16 → ¬ i = p → st' i = st i) (hs2 : ∀ j, j < 138 → st' p j = s j) : URel R nr nl c (va_cpy R (xsh u 136 2040) 5 (136 * 15) 136) (up (xsh so 1 15) 15 v) 16 st' (up kd p v) ((p + 1) % 16) := by
  obtain ⟨a1, a2, a3⟩ := h
  refine ⟨by omega, by omega, fun k hk => ?_⟩
  have ei : ((p + 1) % 16 + 16 - 16 + k) % 16 = (p + 1 + k) % 16 := by omega
  rw [ei]
  by_cases q : k = 15
  · subst q
    have e1 : (p + 1 + 15) % 16 = p := by omega
    have e2 : snR R (va_cpy R (xsh u 136 2040) 5 (136 * 15) 136) 15 = R := by
      funext j
      unfold snR
      by_cases q : 5 ≤ j ∧ j < 5 + 136
      · rw [cpy_in q, cpy_in (by omega)]
        exact congrArg R (by omega)
      · rw [cpy_out q]
    rw [e1, up_eq, up_eq, e2]
    exact ⟨rfl, hv, hV.eqc hs2, hR⟩
  · obtain ⟨b1, b2, b3, b4⟩ := a3 (k + 1) (by omega)
    have e3 : (p + 16 - 16 + (k + 1)) % 16 = (p + 1 + k) % 16 := by omega
    rw [e3] at b1 b3
    have hne : ¬ (p + 1 + k) % 16 = p := by omega
    have he : EqS (snR R u (k + 1)) (snR R (va_cpy R (xsh u 136 2040) 5 (136 * 15) 136) k) := by
      refine snR_eqs rfl rfl (fun i hi => ?_)
      rw [cpy_out (by omega)]
      unfold xsh
      rw [if_pos (by omega)]
      exact congrArg u (by omega)
    have hso : up (xsh so 1 15) 15 v k = so (k + 1) := by
      rw [up_ne q]
      unfold xsh
      rw [if_pos (by omega)]
    rw [hso, up_ne hne, hs1 _ (by omega) hne]
    exact ⟨b1, b2, b3.eqs he, b4.eqs he⟩
/-- one less -/
theorem URel.pop {R : Nat → Int32} {nr nl c : Nat} {u so : Nat → Int32} {n : Nat} {st : Nat → Nat → Int32} {kd : Nat → Int32} {p : Nat} (h : URel R nr nl c u so (n + 1) st kd p) : so n = kd ((p + 15) % 16) ∧ (so n = 0 ∨ so n = 1 ∨ so n = 2) ∧ VW (st ((p + 15) % 16)) (snR R u n) ∧ RW (snR R u n) nr nl c ∧ URel (snR R u n) nr nl c u so n st kd ((p + 15) % 16) := by
  obtain ⟨a1, a2, a3⟩ := h
  obtain ⟨b1, b2, b3, b4⟩ := a3 n (by omega)
  have e1 : (p + 16 - (n + 1) + n) % 16 = (p + 15) % 16 := by omega
  rw [e1] at b1 b3
  refine ⟨b1, b2, b3, b4, by omega, by omega, fun k hk => ?_⟩
  obtain ⟨d1, d2, d3, d4⟩ := a3 k (by omega)
  have e2 : (p + 16 - (n + 1) + k) % 16 = ((p + 15) % 16 + 16 - n + k) % 16 := by omega
  rw [e2] at d1 d3
  have he : EqS (snR R u k) (snR (snR R u n) u k) := by
    refine snR_eqs ?_ ?_ (fun _ _ => rfl)
    · unfold snR; rw [cpy_out (by omega)]
    · unfold snR; rw [cpy_out (by omega)]
  exact ⟨d1, d2, d3.eqs he, d4.eqs he⟩
