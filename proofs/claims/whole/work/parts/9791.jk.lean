/-- the rows when the held letters were read, some as jokes -/
def jkR (T : Nat → (Nat → Int64) → Option Int64) (R : Nat → Int32) (s : Nat) : Nat → Nat → Int32
  | 0 => R
  | l + 1 => if R (62 + 7 * l) = 0 then rdR T (jkR T R s l) (whN R l) l none (s.testBit l) else jkR T R s l
/-- and what of it does not know of jokes -/
def gaR (T : Nat → (Nat → Int64) → Option Int64) (R : Nat → Int32) : Nat → Nat → Int32
  | 0 => R
  | l + 1 => if R (62 + 7 * l) = 0 then up (up (gaR T R l) (11 + 6 * whN R l) (wtF (gaR T R l (11 + 6 * whN R l) + tirF T (hdF (gaR T R l) (whN R l) l none)).toInt64 0 999)) (12 + 6 * whN R l) (gaR T R l (12 + 6 * whN R l) + 1) else gaR T R l
/-- the same but for what is paid, owed, read -/
def Ag (P Q : Nat → Int32) : Prop := P 5 = Q 5 ∧ P 7 = Q 7 ∧ (∀ r, r < 8 → P (9 + 6 * r) = Q (9 + 6 * r) ∧ P (10 + 6 * r) = Q (10 + 6 * r) ∧ P (11 + 6 * r) = Q (11 + 6 * r) ∧ P (12 + 6 * r) = Q (12 + 6 * r)) ∧ ∀ l f, l < 12 → f < 5 → P (57 + 7 * l + f) = Q (57 + 7 * l + f)
theorem Ag.refl {P : Nat → Int32} : Ag P P := ⟨rfl, rfl, fun _ _ => ⟨rfl, rfl, rfl, rfl⟩, fun _ _ _ _ => rfl⟩
theorem Ag.hd {P Q : Nat → Int32} (h : Ag P Q) {w l : Nat} (hw : w < 8) (hl : l < 12) : hdF P w l none = hdF Q w l none := by
  obtain ⟨h1, h2, h3, h4⟩ := h
  obtain ⟨r1, r2, r3, r4⟩ := h3 w hw
  have e0 : ltS P l none 0 = ltS Q l none 0 := h4 l 0 hl (by omega)
  have e1 : ltS P l none 1 = ltS Q l none 1 := h4 l 1 hl (by omega)
  have e2 : ltS P l none 2 = ltS Q l none 2 := h4 l 2 hl (by omega)
  unfold hdF
  rw [e0, e1, e2]
  funext k
  unfold wdF
  rw [r1, r3, r4, h1, h2]
theorem Ag.step {T : Nat → (Nat → Int64) → Option Int64} {P Q : Nat → Int32} (h : Ag P Q) {w l : Nat} (hw : w < 8) (hl : l < 12) (lg : Bool) : Ag (rdR T P w l none lg) (up (up Q (11 + 6 * w) (wtF (Q (11 + 6 * w) + tirF T (hdF Q w l none)).toInt64 0 999)) (12 + 6 * w) (Q (12 + 6 * w) + 1)) := by
  have hd := h.hd hw hl
  obtain ⟨h1, h2, h3, h4⟩ := h
  obtain ⟨w0, w1, w2, w3, w4, w5, w6⟩ := rdA_w (T := T) (R := P) (w := w) (one := l) (o := none) (lg := lg)
  refine ⟨?_, ?_, fun r hr => ?_, fun k f hk hf => ?_⟩
  · rw [rdR_lo (by omega), rdA_hi hw (by omega), up_ne (by omega), up_ne (by omega)]
    exact h1
  · rw [rdR_lo (by omega), rdA_hi hw (by omega), up_ne (by omega), up_ne (by omega)]
    exact h2
  · obtain ⟨r1, r2, r3, r4⟩ := h3 r hr
    rw [rdR_lo (by omega), rdR_lo (by omega), rdR_lo (by omega), rdR_lo (by omega)]
    by_cases z : r = w
    · subst z
      rw [w1, w2, w3, w4, up_ne (j := 9 + 6 * r) (by omega), up_ne (j := 9 + 6 * r) (by omega), up_ne (j := 10 + 6 * r) (by omega), up_ne (j := 10 + 6 * r) (by omega), up_ne (j := 11 + 6 * r) (by omega), up_eq, up_eq, r3, r4, hd]
      exact ⟨r1, r2, rfl, rfl⟩
    · have e := fun f hf => rdA_r (T := T) (R := P) (one := l) (o := none) (lg := lg) (f := f) z hf
      have e0 := e 0 (by omega)
      have e1 := e 1 (by omega)
      have e2 := e 2 (by omega)
      have e3 := e 3 (by omega)
      rw [show 9 + 6 * r + 0 = 9 + 6 * r by omega] at e0
      rw [show 9 + 6 * r + 1 = 10 + 6 * r by omega] at e1
      rw [show 9 + 6 * r + 2 = 11 + 6 * r by omega] at e2
      rw [show 9 + 6 * r + 3 = 12 + 6 * r by omega] at e3
      rw [e0, e1, e2, e3, up_ne (j := 9 + 6 * r) (by omega), up_ne (j := 9 + 6 * r) (by omega), up_ne (j := 10 + 6 * r) (by omega), up_ne (j := 10 + 6 * r) (by omega), up_ne (j := 11 + 6 * r) (by omega), up_ne (j := 11 + 6 * r) (by omega), up_ne (j := 12 + 6 * r) (by omega), up_ne (j := 12 + 6 * r) (by omega)]
      exact ⟨r1, r2, r3, r4⟩
  · have e : rdR T P w l none lg = up (up (rdA T P w l none lg) (57 + 7 * l + 5) 1) (57 + 7 * l + 6) (rdQ P l none (rdP T P w l none lg)) := rfl
    rw [e, up_ne (by omega), up_ne (by omega), rdA_hi hw (by omega), up_ne (by omega), up_ne (by omega)]
    exact h4 k f hk hf
/-- whichever were jokes -/
theorem jk_ga {T : Nat → (Nat → Int64) → Option Int64} {R : Nat → Int32} {nr nl c : Nat} (h : RW R nr nl c) (s : Nat) : ∀ l, l ≤ nl → Ag (jkR T R s l) (gaR T R l)
  | 0, _ => Ag.refl
  | l + 1, hl => by
    have ih := jk_ga (T := T) h s l (by omega)
    have n8 := h.2.1
    have n12 := h.2.2.2.1
    have hw := (h.wh (show l < nl by omega)).1
    rw [jkR, gaR]
    by_cases q : R (62 + 7 * l) = 0
    · rw [if_pos q, if_pos q]
      exact ih.step (by omega) (by omega) _
    · rw [if_neg q, if_neg q]
      exact ih
/-- what is wept for a held letter -/
def teF (T : Nat → (Nat → Int64) → Option Int64) (R : Nat → Int32) (l : Nat) : Int32 := if R (62 + 7 * l) = 0 then wepF T (hdF (gaR T R l) (whN R l) l none) else 0
/-- what a reader has paid then -/
def pdF (T : Nat → (Nat → Int64) → Option Int64) (R : Nat → Int32) (s r : Nat) : Nat → Int32
  | 0 => R (14 + 6 * r)
  | l + 1 => pdF T R s r l + (if whN R l = r ∧ s.testBit l = false then teF T R l else 0)
theorem jk_pd {T : Nat → (Nat → Int64) → Option Int64} {R : Nat → Int32} {nr nl c : Nat} (h : RW R nr nl c) (s r : Nat) (hr : r < 8) : ∀ l, l ≤ nl → jkR T R s l (14 + 6 * r) = pdF T R s r l
  | 0, _ => rfl
  | l + 1, hl => by
    have ih := jk_pd (T := T) h s r hr l (by omega)
    have ag := jk_ga (T := T) h s l (by omega)
    have n8 := h.2.1
    have n12 := h.2.2.2.1
    have hw := (h.wh (show l < nl by omega)).1
    rw [jkR, pdF]
    unfold teF
    by_cases q : R (62 + 7 * l) = 0
    · rw [if_pos q, if_pos q, rdR_lo (by omega)]
      by_cases z : whN R l = r
      · rw [← z] at ih ⊢
        rw [(rdA_w (T := T) (R := jkR T R s l) (w := whN R l) (one := l) (o := none) (lg := s.testBit l)).2.2.2.2.2.2, ih]
        unfold rdP
        rw [ag.hd (show whN R l < 8 by omega) (by omega)]
        cases s.testBit l <;> simp
      · rw [if_neg (fun y => z y.1), Int32.add_zero]
        have := rdA_r (T := T) (R := jkR T R s l) (w := whN R l) (one := l) (o := none) (lg := s.testBit l) (r := r) (f := 5) (fun y => z y.symm) (by omega)
        rw [show 9 + 6 * r + 5 = 14 + 6 * r by omega] at this
        rw [this]
        exact ih
    · rw [if_neg q, if_neg q, ih]
      split <;> rw [Int32.add_zero]
