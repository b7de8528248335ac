theorem RW.ga {T : Nat → (Nat → Int64) → Option Int64} {R : Nat → Int32} {nr nl c : Nat} (h : RW R nr nl c) : ∀ l, l ≤ nl → RW (gaR T R l) nr nl (c + l)
  | 0, _ => h
  | l + 1, hl => by
    have ih := RW.ga (T := T) h l (by omega)
    have n8 := h.2.1
    have hw := (h.wh (show l < nl by omega)).1
    rw [gaR]
    by_cases q : R (62 + 7 * l) = 0
    · rw [if_pos q]
      generalize gaR T R l = Q at ih ⊢
      generalize whN R l = w at hw ⊢
      obtain ⟨a1, a2, a3, a4, a5, a6, a7, a8, a9, a10⟩ := ih
      have ot : ∀ {x y : Int32} (j : Nat), ¬ j = 11 + 6 * w → ¬ j = 12 + 6 * w → up (up Q (11 + 6 * w) x) (12 + 6 * w) y j = Q j := fun j h1 h2 => by rw [up_ne h2, up_ne h1]
      refine ⟨?_, a2, ?_, a4, ?_, ?_, ?_, ?_, fun r hr => ?_, fun k hk => ?_⟩
      · rw [ot 1 (by omega) (by omega)]; exact a1
      · rw [ot 2 (by omega) (by omega)]; exact a3
      · rw [ot 5 (by omega) (by omega)]; exact a5
      · rw [ot 6 (by omega) (by omega)]; exact a6
      · rw [ot 7 (by omega) (by omega)]; exact a7
      · rw [ot 8 (by omega) (by omega)]; exact a8.le (by omega)
      · obtain ⟨b1, b2, b3, b4, b5, b6⟩ := a9 r hr
        rw [ot (9 + 6 * r) (by omega) (by omega), ot (10 + 6 * r) (by omega) (by omega), ot (13 + 6 * r) (by omega) (by omega), ot (14 + 6 * r) (by omega) (by omega)]
        by_cases z : r = w
        · subst z
          rw [up_ne (j := 11 + 6 * r) (by omega), up_eq, up_eq]
          exact ⟨b1, b2, In_wt (b := 999) (by omega), (b4.add ⟨1, by omega, rfl⟩ : In (Q (12 + 6 * r) + 1) (2 * (c + l) + 1)).le (by omega), b5.le (by omega), b6.le (by omega)⟩
        · rw [ot (11 + 6 * r) (by omega) (by omega), ot (12 + 6 * r) (by omega) (by omega)]
          exact ⟨b1, b2, b3, b4.le (by omega), b5.le (by omega), b6.le (by omega)⟩
      · rw [ot (57 + 7 * k) (by omega) (by omega), ot (58 + 7 * k) (by omega) (by omega), ot (59 + 7 * k) (by omega) (by omega), ot (60 + 7 * k) (by omega) (by omega), ot (61 + 7 * k) (by omega) (by omega), ot (62 + 7 * k) (by omega) (by omega), ot (63 + 7 * k) (by omega) (by omega)]
        exact a10 k hk
    · rw [if_neg q]
      exact ih.mono (by omega)
theorem ga_ot {T : Nat → (Nat → Int64) → Option Int64} {R : Nat → Int32} {nr nl c : Nat} (h : RW R nr nl c) {j : Nat} (hj : 57 ≤ j ∨ j < 9) : ∀ l, l ≤ nl → gaR T R l j = R j
  | 0, _ => rfl
  | l + 1, hl => by
    have ih := ga_ot (T := T) h hj l (by omega)
    have n8 := h.2.1
    have hw := (h.wh (show l < nl by omega)).1
    rw [gaR]
    split
    · rw [up_ne (by omega), up_ne (by omega)]
      exact ih
    · exact ih
/-- the held letters as bits -/
def hmN (R : Nat → Int32) : Nat → Nat
  | 0 => 0
  | l + 1 => hmN R l ||| (if R (62 + 7 * l) = 0 then 2 ^ l else 0)
theorem hmN_lt {R : Nat → Int32} : ∀ l, hmN R l < 2 ^ l
  | 0 => Nat.one_pos
  | l + 1 => by
    have ih := hmN_lt (R := R) l
    have p : 2 ^ l < 2 ^ (l + 1) := Nat.pow_lt_pow_right (by decide) (by omega)
    rw [hmN]
    split
    · exact Nat.or_lt_two_pow (by omega) p
    · rw [Nat.or_zero]
      omega
