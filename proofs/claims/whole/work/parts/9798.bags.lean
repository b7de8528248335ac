theorem sub_xor : ∀ (s c : Nat), c &&& s = c → (s ^^^ c) + c = s := by
  intro s
  induction s using Nat.strongRecOn with
  | _ s ih =>
    intro c h
    by_cases hs : s = 0
    · subst hs
      rw [Nat.and_zero] at h
      subst h
      rfl
    · have h2 : c / 2 &&& s / 2 = c / 2 := by rw [← Nat.and_div_two, h]
      have := ih (s / 2) (by omega) (c / 2) h2
      have e1 : (s ^^^ c) / 2 = s / 2 ^^^ c / 2 := Nat.xor_div_two
      have m1 := Nat.xor_mod_two_eq_one (a := s) (b := c)
      have m2 := Nat.and_mod_two_eq_one (a := c) (b := s)
      rw [h] at m2
      rw [← e1] at this
      by_cases q1 : s % 2 = 1 <;> by_cases q2 : c % 2 = 1 <;> simp only [q1, q2, true_iff, false_iff, iff_true, iff_false, not_true_eq_false, not_false_eq_true, and_true, and_false, true_and, false_and, iff_self] at m1 m2 <;> omega
theorem sub_nx : ∀ (s b c : Nat), b &&& s = b → c &&& s = c → c < b → c ≤ (b - 1) &&& s := by
  intro s
  induction s using Nat.strongRecOn with
  | _ s ih =>
    intro b c hb hc hlt
    by_cases hs : s = 0
    · subst hs
      rw [Nat.and_zero] at hc
      omega
    · have b2 : b / 2 &&& s / 2 = b / 2 := by rw [← Nat.and_div_two, hb]
      have c2 : c / 2 &&& s / 2 = c / 2 := by rw [← Nat.and_div_two, hc]
      have e1 : ((b - 1) &&& s) / 2 = (b - 1) / 2 &&& s / 2 := Nat.and_div_two
      have m1 := Nat.and_mod_two_eq_one (a := b - 1) (b := s)
      have m2 := Nat.and_mod_two_eq_one (a := c) (b := s)
      rw [hc] at m2
      by_cases q : b % 2 = 1
      · have e2 : (b - 1) / 2 = b / 2 := by omega
        rw [e2, b2] at e1
        omega
      · have e2 : (b - 1) / 2 = b / 2 - 1 := by omega
        rw [e2] at e1
        have := ih (s / 2) (by omega) (b / 2) (c / 2) b2 c2 (by omega)
        rw [← e1] at this
        have m3 : (b - 1) % 2 = 1 := by omega
        by_cases q1 : s % 2 = 1
        · have := m1.mpr ⟨m3, q1⟩
          omega
        · have : ¬ c % 2 = 1 := fun z => q1 (m2.mp z).2
          omega
/-- what the letters of a set weigh -/
def sW (W : Nat → Nat) (s : Nat) : Nat → Nat
  | 0 => 0
  | k + 1 => sW W s k + (if s.testBit k then W k else 0)
theorem sW_congr {W : Nat → Nat} {s t : Nat} : ∀ {n}, (∀ k, k < n → s.testBit k = t.testBit k) → sW W s n = sW W t n
  | 0, _ => rfl
  | n + 1, h => by rw [sW, sW, sW_congr (fun k hk => h k (by omega)), h n (by omega)]
theorem sW_xor {W : Nat → Nat} {s k : Nat} (hb : s.testBit k = true) : ∀ {n}, k < n → sW W s n = sW W (s ^^^ 2 ^ k) n + W k
  | 0, h => absurd h (by omega)
  | n + 1, h => by
    rw [sW, sW]
    by_cases e : k = n
    · subst e
      have : sW W s k = sW W (s ^^^ 2 ^ k) k := sW_congr (fun j hj => by rw [Nat.testBit_xor, Nat.testBit_two_pow_of_ne (by omega), Bool.xor_false])
      rw [← this, Nat.testBit_xor, hb, Nat.testBit_two_pow_self]
      simp
    · have ih := sW_xor (W := W) hb (n := n) (by omega)
      rw [ih, Nat.testBit_xor, Nat.testBit_two_pow_of_ne e, Bool.xor_false]
      omega
theorem sW_0 {W : Nat → Nat} : ∀ n, sW W 0 n = 0
  | 0 => rfl
  | n + 1 => by rw [sW, sW_0 n, Nat.zero_testBit]; rfl
theorem tb_n {s n k : Nat} (hs : s < 2 ^ n) (h : s.testBit k = true) : k < n := by
  rcases Nat.lt_or_ge k n with q | q
  · exact q
  · have := Nat.testBit_lt_two_pow (Nat.lt_of_lt_of_le hs (Nat.pow_le_pow_right (by decide) q))
    rw [this] at h
    cases h
theorem k_sub {s k : Nat} (h : s.testBit k = true) : 2 ^ k &&& s = 2 ^ k := by
  refine Nat.eq_of_testBit_eq (fun i => ?_)
  rw [Nat.testBit_and]
  by_cases e : k = i
  · subst e
    rw [h, Bool.and_true]
  · rw [Nat.testBit_two_pow_of_ne e, Bool.false_and]
theorem xor_lt {s k : Nat} (h : s.testBit k = true) : s ^^^ 2 ^ k < s := by
  have := sub_xor s (2 ^ k) (k_sub h)
  have := Nat.one_le_two_pow (n := k)
  omega
theorem sub_bit {c s i : Nat} (h : c &&& s = c) (hi : c.testBit i = true) : s.testBit i = true := by
  have := congrArg (fun z => z.testBit i) h
  simp only [Nat.testBit_and, hi, Bool.true_and] at this
  exact this
theorem xor_xor {a b : Nat} : a ^^^ b ^^^ b = a := by rw [Nat.xor_assoc, Nat.xor_self, Nat.xor_zero]
theorem xor_ac {a b c : Nat} : a ^^^ b ^^^ c = a ^^^ c ^^^ b := by rw [Nat.xor_assoc, Nat.xor_assoc, Nat.xor_comm b c]
/-- one letter more -/
def oaN (lim p w : Nat) : Nat := if 0 < p ∧ p % 128 + w ≤ lim then p + w else (p / 128 + 1) * 128 + w
theorem oaN_le {lim p w : Nat} (hl : lim ≤ 99) : oaN lim p w ≤ 128 * (p / 128 + 1) + w := by
  unfold oaN
  split <;> omega
theorem oaN_mono {lim p q w : Nat} (hl : lim ≤ 99) (h : p ≤ q) (hp : p = 0 ∨ 128 ≤ p) (hq : q = 0 ∨ 128 ≤ q) : oaN lim p w ≤ oaN lim q w := by
  unfold oaN
  split <;> split <;> omega
theorem bg_A {n lim : Nat} {W L F : Nat → Nat} (hlim : lim ≤ 99) (hW : ∀ k, k < n → W k ≤ lim) (hL0 : L 0 = 0) (hL2 : ∀ s, s < 2 ^ n → ¬ s = 0 → ∃ k, k < n ∧ s.testBit k = true ∧ L s = oaN lim (L (s ^^^ 2 ^ k)) (W k)) (hF0 : F 0 = 0) (hF1 : ∀ s b, s < 2 ^ n → ¬ b = 0 → b &&& s = b → sW W b n ≤ lim → F s ≤ 1 + F (s ^^^ b)) : ∀ s, s < 2 ^ n → ¬ s = 0 → 128 ≤ L s ∧ ∃ t, ¬ t = 0 ∧ t &&& s = t ∧ sW W t n ≤ lim ∧ L s % 128 = sW W t n ∧ F (s ^^^ t) + 1 ≤ L s / 128 := by
  intro s
  induction s using Nat.strongRecOn with
  | _ s ih =>
    intro hs h0
    obtain ⟨k, hk, hb, hL⟩ := hL2 s hs h0
    have hlt := xor_lt hb
    have hwk := hW k hk
    have hk0 : sW W (2 ^ k) n = W k := by
      rw [sW_xor (W := W) (s := 2 ^ k) (k := k) Nat.testBit_two_pow_self hk, Nat.xor_self, sW_0, Nat.zero_add]
    have hpk : ¬ 2 ^ k = 0 := by have := Nat.one_le_two_pow (n := k); omega
    by_cases q : s ^^^ 2 ^ k = 0
    · rw [q, hL0] at hL
      have e : oaN lim 0 (W k) = 128 + W k := by unfold oaN; rw [if_neg (by omega)]
      rw [e] at hL
      refine ⟨by omega, 2 ^ k, hpk, k_sub hb, by omega, by omega, ?_⟩
      rw [q, hF0, hL]
      omega
    · obtain ⟨g, t, t0, t1, t2, t3, t4⟩ := ih (s ^^^ 2 ^ k) hlt (by omega) q
      have tk : t.testBit k = false := by
        cases hh : t.testBit k
        · rfl
        · have := sub_bit t1 hh
          rw [Nat.testBit_xor, hb, Nat.testBit_two_pow_self] at this
          cases this
      by_cases fit : 0 < L (s ^^^ 2 ^ k) ∧ L (s ^^^ 2 ^ k) % 128 + W k ≤ lim
      · have e : L s = L (s ^^^ 2 ^ k) + W k := by rw [hL]; unfold oaN; rw [if_pos fit]
        have hx : sW W (t ^^^ 2 ^ k) n = sW W t n + W k := by
          rw [sW_xor (W := W) (s := t ^^^ 2 ^ k) (k := k) (by rw [Nat.testBit_xor, tk, Nat.testBit_two_pow_self]; rfl) hk, xor_xor]
        have hx2 : s ^^^ (t ^^^ 2 ^ k) = s ^^^ 2 ^ k ^^^ t := by rw [← Nat.xor_assoc, xor_ac]
        refine ⟨by omega, t ^^^ 2 ^ k, ?_, ?_, by omega, by omega, ?_⟩
        · intro z
          have := congrArg (fun z => z.testBit k) z
          simp only [Nat.testBit_xor, tk, Nat.testBit_two_pow_self, Nat.zero_testBit] at this
          cases this
        · refine Nat.eq_of_testBit_eq (fun i => ?_)
          have h1 := congrArg (fun z => z.testBit i) t1
          simp only [Nat.testBit_and, Nat.testBit_xor] at h1 ⊢
          by_cases e : k = i
          · subst e
            rw [tk, hb, Nat.testBit_two_pow_self]
            rfl
          · rw [Nat.testBit_two_pow_of_ne e] at h1 ⊢
            revert h1
            cases t.testBit i <;> cases s.testBit i <;> simp
        · rw [hx2, e]
          omega
      · have e : L s = (L (s ^^^ 2 ^ k) / 128 + 1) * 128 + W k := by rw [hL]; unfold oaN; rw [if_neg fit]
        have hF := hF1 (s ^^^ 2 ^ k) t (by omega) t0 t1 t2
        refine ⟨by omega, 2 ^ k, hpk, k_sub hb, by omega, by omega, ?_⟩
        omega
theorem bg_B {n lim : Nat} {W L : Nat → Nat} (hlim : lim ≤ 99) (hL0 : L 0 = 0) (hLg : ∀ s, s < 2 ^ n → ¬ s = 0 → 128 ≤ L s) (hL1 : ∀ s k, s < 2 ^ n → k < n → s.testBit k = true → L s ≤ oaN lim (L (s ^^^ 2 ^ k)) (W k)) (r : Nat) : ∀ c, ¬ c = 0 → c &&& r = 0 → r ^^^ c < 2 ^ n → sW W c n ≤ lim → L (r ^^^ c) ≤ 128 * (L r / 128 + 1) + sW W c n := by
  intro c
  induction c using Nat.strongRecOn with
  | _ c ih =>
    intro h0 hd hn hw
    obtain ⟨k, hk⟩ := Nat.exists_testBit_of_ne_zero h0
    have rk : r.testBit k = false := by
      have := congrArg (fun z => z.testBit k) hd
      simp only [Nat.testBit_and, hk, Bool.true_and, Nat.zero_testBit] at this
      exact this
    have hrk : (r ^^^ c).testBit k = true := by rw [Nat.testBit_xor, rk, hk]; rfl
    have hkn := tb_n hn hrk
    have hlt := xor_lt hk
    have h1 := hL1 (r ^^^ c) k hn hkn hrk
    have hn2 := xor_lt hrk
    have es := sW_xor (W := W) hk hkn
    rw [Nat.xor_assoc] at h1 hn2
    by_cases q : c ^^^ 2 ^ k = 0
    · rw [q, Nat.xor_zero] at h1
      rw [q, sW_0] at es
      have := oaN_le (lim := lim) (p := L r) (w := W k) hlim
      omega
    · have hd2 : (c ^^^ 2 ^ k) &&& r = 0 := by
        refine Nat.eq_of_testBit_eq (fun i => ?_)
        have h1 := congrArg (fun z => z.testBit i) hd
        simp only [Nat.testBit_and, Nat.testBit_xor, Nat.zero_testBit] at h1 ⊢
        by_cases e : k = i
        · subst e
          rw [rk, Bool.and_false]
        · rw [Nat.testBit_two_pow_of_ne e, Bool.xor_false]
          exact h1
      have i1 := ih (c ^^^ 2 ^ k) hlt q hd2 (by omega) (by omega)
      have g : L (r ^^^ (c ^^^ 2 ^ k)) = 0 ∨ 128 ≤ L (r ^^^ (c ^^^ 2 ^ k)) := by
        by_cases z : r ^^^ (c ^^^ 2 ^ k) = 0
        · rw [z, hL0]
          exact Or.inl rfl
        · exact Or.inr (hLg _ (by omega) z)
      have m := oaN_mono (lim := lim) (w := W k) hlim i1 g (Or.inr (by omega))
      have e : oaN lim (128 * (L r / 128 + 1) + sW W (c ^^^ 2 ^ k) n) (W k) = 128 * (L r / 128 + 1) + sW W (c ^^^ 2 ^ k) n + W k := by
        unfold oaN
        rw [if_pos (by omega)]
      omega
theorem bg_same {n lim : Nat} {W L F : Nat → Nat} (hlim : lim ≤ 99) (hW : ∀ k, k < n → W k ≤ lim) (hL0 : L 0 = 0) (hL1 : ∀ s k, s < 2 ^ n → k < n → s.testBit k = true → L s ≤ oaN lim (L (s ^^^ 2 ^ k)) (W k)) (hL2 : ∀ s, s < 2 ^ n → ¬ s = 0 → ∃ k, k < n ∧ s.testBit k = true ∧ L s = oaN lim (L (s ^^^ 2 ^ k)) (W k)) (hF0 : F 0 = 0) (hF1 : ∀ s b, s < 2 ^ n → ¬ b = 0 → b &&& s = b → sW W b n ≤ lim → F s ≤ 1 + F (s ^^^ b)) (hF2 : ∀ s, s < 2 ^ n → ¬ s = 0 → ∃ b, ¬ b = 0 ∧ b &&& s = b ∧ sW W b n ≤ lim ∧ F s = 1 + F (s ^^^ b)) : ∀ s, s < 2 ^ n → L s / 128 = F s := by
  intro s
  induction s using Nat.strongRecOn with
  | _ s ih =>
    intro hs
    by_cases h0 : s = 0
    · rw [h0, hL0, hF0]
    · have hA := bg_A hlim hW hL0 hL2 hF0 hF1
      obtain ⟨-, t, t0, t1, t2, -, t4⟩ := hA s hs h0
      have h1 := hF1 s t hs t0 t1 t2
      obtain ⟨b, b0, b1, b2, b3⟩ := hF2 s hs h0
      have hx := sub_xor s b b1
      have hd : b &&& (s ^^^ b) = 0 := by
        rw [Nat.and_xor_distrib_left, b1, Nat.and_self, Nat.xor_self]
      have hB := bg_B hlim hL0 (fun s hs h0 => (hA s hs h0).1) hL1 (s ^^^ b) b b0 hd (by rw [xor_xor]; exact hs) b2
      rw [xor_xor] at hB
      have := ih (s ^^^ b) (by omega) (by omega)
      omega
theorem bg_hv {n lim far : Nat} {W F : Nat → Nat} {k : Nat} (hk : k < n) (hW : lim < W k) (hF2 : ∀ s, s < 2 ^ n → ¬ s = 0 → F s = far ∨ ∃ b, ¬ b = 0 ∧ b &&& s = b ∧ sW W b n ≤ lim ∧ F s = 1 + F (s ^^^ b)) (hF3 : ∀ s, s < 2 ^ n → F s ≤ far) : ∀ s, s < 2 ^ n → s.testBit k = true → F s = far := by
  intro s
  induction s using Nat.strongRecOn with
  | _ s ih =>
    intro hs hb
    have h0 : ¬ s = 0 := fun z => by rw [z, Nat.zero_testBit] at hb; cases hb
    rcases hF2 s hs h0 with h | ⟨b, b0, b1, b2, b3⟩
    · exact h
    · have bk : b.testBit k = false := by
        cases hh : b.testBit k
        · rfl
        · have := sW_xor (W := W) hh hk
          omega
      have hx := sub_xor s b b1
      have := ih (s ^^^ b) (by omega) (by omega) (by rw [Nat.testBit_xor, hb, bk]; rfl)
      have := hF3 s hs
      omega
