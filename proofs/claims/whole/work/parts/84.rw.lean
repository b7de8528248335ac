theorem nI_div {a b : Nat} (ha : a < 2147483648) (hb : b < 2147483648) (h0 : 0 < b) : nI a / nI b = nI (a / b) := by
  have hd : a / b ≤ a := Nat.div_le_self a b
  apply Int32.toInt_inj.mp
  rw [Int32.toInt_div, nI_toInt ha, nI_toInt hb, nI_toInt (by omega), Int.tdiv_eq_ediv_of_nonneg (by omega)]
  rw [show ((a : Int) / (b : Int)) = ((a / b : Nat) : Int) from rfl]
  generalize a / b = q at hd ⊢
  apply Int.bmod_eq_of_le <;> omega
theorem rdR_lo {T : Nat → (Nat → Int64) → Option Int64} {R : Nat → Int32} {w one : Nat} {o : Option Nat} {lg : Bool} {i : Nat} (h : i < 57) : rdR T R w one o lg i = rdA T R w one o lg i := by
  cases o with
  | none =>
    show up (up (rdA T R w one none lg) (57 + 7 * one + 5) 1) (57 + 7 * one + 6) _ i = _
    rw [up_ne (by omega), up_ne (by omega)]
  | some k =>
    show up (up (up (up (rdA T R w one (some k) lg) (57 + 7 * one + 5) 1) (57 + 7 * one + 6) _) (57 + 7 * k + 5) 1) (57 + 7 * k + 6) _ i = _
    rw [up_ne (by omega), up_ne (by omega), up_ne (by omega), up_ne (by omega)]
theorem rdA_hi {T : Nat → (Nat → Int64) → Option Int64} {R : Nat → Int32} {w one : Nat} {o : Option Nat} {lg : Bool} {i : Nat} (hw : w < 8) (h : 57 ≤ i ∨ (i < 9 ∧ ¬ i = 8)) : rdA T R w one o lg i = R i := by
  unfold rdA
  rw [up_ne (by omega), up_ne (by omega), up_ne (by omega), up_ne (by omega), up_ne (by omega)]
theorem rdA_r {T : Nat → (Nat → Int64) → Option Int64} {R : Nat → Int32} {w one : Nat} {o : Option Nat} {lg : Bool} {r f : Nat} (hr : ¬ r = w) (hf : f < 6) : rdA T R w one o lg (9 + 6 * r + f) = R (9 + 6 * r + f) := by
  unfold rdA
  rw [up_ne (by omega), up_ne (by omega), up_ne (by omega), up_ne (by omega), up_ne (by omega)]
theorem rdA_w {T : Nat → (Nat → Int64) → Option Int64} {R : Nat → Int32} {w one : Nat} {o : Option Nat} {lg : Bool} : rdA T R w one o lg 8 = R 8 + rdP T R w one o lg ∧ rdA T R w one o lg (9 + 6 * w) = R (9 + 6 * w) ∧ rdA T R w one o lg (10 + 6 * w) = R (10 + 6 * w) ∧ rdA T R w one o lg (11 + 6 * w) = wtF (R (11 + 6 * w) + tirF T (hdF R w one o)).toInt64 0 999 ∧ rdA T R w one o lg (12 + 6 * w) = R (12 + 6 * w) + oC o ∧ rdA T R w one o lg (13 + 6 * w) = R (13 + 6 * w) + (if lg = false ∧ rdP T R w one o lg = 0 then 1 else 0) ∧ rdA T R w one o lg (14 + 6 * w) = R (14 + 6 * w) + rdP T R w one o lg := by
  unfold rdA
  refine ⟨?_, ?_, ?_, ?_, ?_, ?_, ?_⟩
  · rw [up_eq]
  · rw [up_ne (by omega), up_ne (by omega), up_ne (by omega), up_ne (by omega), up_ne (by omega)]
  · rw [up_ne (by omega), up_ne (by omega), up_ne (by omega), up_ne (by omega), up_ne (by omega)]
  · rw [up_ne (by omega), up_eq]
  · rw [up_ne (by omega), up_ne (by omega), up_eq]
  · rw [up_ne (by omega), up_ne (by omega), up_ne (by omega), up_ne (by omega), up_eq]
  · rw [up_ne (by omega), up_ne (by omega), up_ne (by omega), up_eq]
theorem wepF_In {T : Nat → (Nat → Int64) → Option Int64} {x : Nat → Int32} (h4 : In (x 4) 60) (h1 : In (x 1) 9) (h2 : In (x 2) 999) : In (wepF T x) 999 := by
  unfold wepF
  split
  · exact In_wt (b := 999) (by omega)
  · obtain ⟨a, a1, a2⟩ := h4
    obtain ⟨b, b1, b2⟩ := h1
    obtain ⟨d, d1, d2⟩ := h2
    rw [a2, b2, d2, nI_mul]
    have hm : a * b ≤ 540 := by
      have := Nat.mul_le_mul a1 b1
      omega
    rcases Nat.lt_or_ge (a * b) d with z | z
    · have : nI (a * b) - nI d < 0 := by
        have z0 : (0 : Int32).toInt = 0 := by decide
        rw [Int32.lt_iff_toInt_lt, Int32.toInt_sub, nI_toInt (by omega), nI_toInt (by omega), z0, Int.bmod_eq_of_le (by omega) (by omega)]
        omega
      rw [if_pos this]
      exact ⟨0, by omega, rfl⟩
    · rw [nI_sub z, if_neg (Int32.not_lt.mpr (nI_pos' (by omega)))]
      exact ⟨a * b - d, by omega, rfl⟩
theorem RW.wep {R : Nat → Int32} {nr nl c : Nat} (h : RW R nr nl c) {w one : Nat} {o : Option Nat} (hw : w < nr) (hg : In (ltS R one o 0) 60) {T : Nat → (Nat → Int64) → Option Int64} {lg : Bool} : In (rdP T R w one o lg) 999 := by
  unfold rdP
  split
  · exact ⟨0, by omega, rfl⟩
  · obtain ⟨a1, a2, a3, a4, a5, a6⟩ := h.2.2.2.2.2.2.2.2.1 w hw
    exact wepF_In hg a1 a3
theorem In_0 {b : Nat} : In 0 b := ⟨0, by omega, rfl⟩
theorem rdQ_In {R : Nat → Int32} {nr nl c : Nat} (h : RW R nr nl c) {one : Nat} {o : Option Nat} (h1 : one < nl) (h2 : ∀ k, o = some k → k < nl) {p : Int32} (hp : In p 999) : In (rdQ R one o p) 999 ∧ In (p - rdQ R one o p) 999 := by
  obtain ⟨n, n1, n2⟩ := hp
  cases o with
  | none =>
    refine ⟨⟨n, n1, n2⟩, ?_⟩
    show In (p - p) 999
    rw [Int32.sub_self]
    exact In_0
  | some k =>
    obtain ⟨⟨a, a1, a2⟩, a3⟩ := (h.2.2.2.2.2.2.2.2.2 one h1).2.2.1
    obtain ⟨⟨b, b1, b2⟩, b3⟩ := (h.2.2.2.2.2.2.2.2.2 k (h2 k rfl)).2.2.1
    have a0 : 0 < a := by
      rcases Nat.eq_zero_or_pos a with z | z
      · rw [a2, z] at a3
        exact absurd rfl a3
      · exact z
    have e : rdQ R one (some k) p = nI (n * a / (a + b)) := by
      show p * R (57 + 7 * one + 2) / (R (57 + 7 * one + 2) + R (57 + 7 * k + 2)) = _
      rw [show 57 + 7 * one + 2 = 59 + 7 * one by omega, show 57 + 7 * k + 2 = 59 + 7 * k by omega, a2, b2, n2, nI_mul, nI_add]
      have hm : n * a ≤ 999 * 9 := Nat.mul_le_mul n1 a1
      exact nI_div (by omega) (by omega) (by omega)
    have hle : n * a / (a + b) ≤ n := by
      apply Nat.div_le_of_le_mul
      rw [Nat.mul_comm]
      exact Nat.mul_le_mul_right n (by omega)
    rw [e, n2, nI_sub hle]
    exact ⟨⟨_, Nat.le_trans hle n1, rfl⟩, ⟨_, Nat.le_trans (Nat.sub_le _ _) n1, rfl⟩⟩
theorem rdR_l {T : Nat → (Nat → Int64) → Option Int64} {R : Nat → Int32} {nr nl c : Nat} (h : RW R nr nl c) {w one : Nat} {o : Option Nat} {lg : Bool} (hw : w < nr) (h1 : one < nl) (h2 : ∀ k, o = some k → k < nl) (hg : In (ltS R one o 0) 60) {l : Nat} (hl : l < nl) : (∀ f, f < 5 → rdR T R w one o lg (57 + 7 * l + f) = R (57 + 7 * l + f)) ∧ In (rdR T R w one o lg (57 + 7 * l + 5)) 1 ∧ In (rdR T R w one o lg (57 + 7 * l + 6)) 999 := by
  have hw8 : w < 8 := Nat.lt_of_lt_of_le hw h.2.1
  obtain ⟨q1, q2⟩ := rdQ_In h h1 h2 (h.wep (T := T) (lg := lg) hw hg)
  have hL := (h.2.2.2.2.2.2.2.2.2 l hl).2.2.2.2.2
  have b5 : In (R (57 + 7 * l + 5)) 1 := by rw [show 57 + 7 * l + 5 = 62 + 7 * l by omega]; exact hL.1
  have b6 : In (R (57 + 7 * l + 6)) 999 := by rw [show 57 + 7 * l + 6 = 63 + 7 * l by omega]; exact hL.2
  have i1 : In (1 : Int32) 1 := ⟨1, by omega, rfl⟩
  cases o with
  | none =>
    have e : rdR T R w one none lg = up (up (rdA T R w one none lg) (57 + 7 * one + 5) 1) (57 + 7 * one + 6) (rdQ R one none (rdP T R w one none lg)) := rfl
    rw [e]
    refine ⟨fun f hf => ?_, ?_, ?_⟩
    · rw [up_ne (by omega), up_ne (by omega), rdA_hi hw8 (by omega)]
    · rw [up_ne (by omega)]
      by_cases z : l = one
      · rw [z, up_eq]; exact i1
      · rw [up_ne (by omega), rdA_hi hw8 (by omega)]; exact b5
    · by_cases z : l = one
      · rw [z, up_eq]; exact q1
      · rw [up_ne (by omega), up_ne (by omega), rdA_hi hw8 (by omega)]; exact b6
  | some k =>
    have e : rdR T R w one (some k) lg = up (up (up (up (rdA T R w one (some k) lg) (57 + 7 * one + 5) 1) (57 + 7 * one + 6) (rdQ R one (some k) (rdP T R w one (some k) lg))) (57 + 7 * k + 5) 1) (57 + 7 * k + 6) (rdP T R w one (some k) lg - rdQ R one (some k) (rdP T R w one (some k) lg)) := rfl
    rw [e]
    refine ⟨fun f hf => ?_, ?_, ?_⟩
    · rw [up_ne (by omega), up_ne (by omega), up_ne (by omega), up_ne (by omega), rdA_hi hw8 (by omega)]
    · rw [up_ne (by omega)]
      by_cases z : l = k
      · rw [z, up_eq]; exact i1
      · rw [up_ne (by omega), up_ne (by omega)]
        by_cases z2 : l = one
        · rw [z2, up_eq]; exact i1
        · rw [up_ne (by omega), rdA_hi hw8 (by omega)]; exact b5
    · by_cases z : l = k
      · rw [z, up_eq]; exact q2
      · rw [up_ne (by omega), up_ne (by omega)]
        by_cases z2 : l = one
        · rw [z2, up_eq]; exact q1
        · rw [up_ne (by omega), up_ne (by omega), rdA_hi hw8 (by omega)]; exact b6
/-- the rows are as they must be, when letters were read -/
theorem RW.rd {T : Nat → (Nat → Int64) → Option Int64} {R : Nat → Int32} {nr nl c : Nat} (h : RW R nr nl c) {w one : Nat} {o : Option Nat} {lg : Bool} (hw : w < nr) (h1 : one < nl) (h2 : ∀ k, o = some k → k < nl) (hg : In (ltS R one o 0) 60) : RW (rdR T R w one o lg) nr nl (c + 1) := by
  have hl := fun l hll => rdR_l (T := T) (lg := lg) h hw h1 h2 hg (l := l) hll
  have hp := h.wep (T := T) (lg := lg) hw hg
  obtain ⟨a1, a2, a3, a4, a5, a6, a7, a8, a9, a10⟩ := h
  have hw8 : w < 8 := Nat.lt_of_lt_of_le hw a2
  obtain ⟨w0, w1, w2, w3, w4, w5, w6⟩ := rdA_w (T := T) (R := R) (w := w) (one := one) (o := o) (lg := lg)
  have lo : ∀ i, i < 57 → rdR T R w one o lg i = rdA T R w one o lg i := fun i hi => rdR_lo hi
  refine ⟨?_, a2, ?_, a4, ?_, ?_, ?_, ?_, fun r hr => ?_, fun l hll => ?_⟩
  · rw [lo 1 (by omega), rdA_hi hw8 (by omega)]; exact a1
  · rw [lo 2 (by omega), rdA_hi hw8 (by omega)]; exact a3
  · rw [lo 5 (by omega), rdA_hi hw8 (by omega)]; exact a5
  · rw [lo 6 (by omega), rdA_hi hw8 (by omega)]; exact a6
  · rw [lo 7 (by omega), rdA_hi hw8 (by omega)]; exact a7
  · rw [lo 8 (by omega), w0]; exact (a8.add hp).le (by omega)
  · obtain ⟨b1, b2, b3, b4, b5, b6⟩ := a9 r hr
    rw [lo _ (by omega), lo _ (by omega), lo _ (by omega), lo _ (by omega), lo _ (by omega), lo _ (by omega)]
    by_cases z : r = w
    · subst z
      rw [w1, w2, w3, w4, w5, w6]
      refine ⟨b1, b2, In_wt (b := 999) (by omega), ?_, ?_, (b6.add hp).le (by omega)⟩
      · have : In (oC o) 2 := by
          cases o with
          | none => exact ⟨1, by omega, rfl⟩
          | some k => exact ⟨2, by omega, rfl⟩
        exact (b4.add this).le (by omega)
      · have : In (if lg = false ∧ rdP T R r one o lg = 0 then (1 : Int32) else 0) 1 := by
          split
          · exact ⟨1, by omega, rfl⟩
          · exact In_0
        exact (b5.add this).le (by omega)
    · have e := fun f hf => rdA_r (T := T) (R := R) (one := one) (o := o) (lg := lg) (f := f) z hf
      have e0 := e 0 (by omega)
      have e1 := e 1 (by omega)
      have e2 := e 2 (by omega)
      have e3 := e 3 (by omega)
      have e4 := e 4 (by omega)
      have e5 := e 5 (by omega)
      rw [show 9 + 6 * r + 0 = 9 + 6 * r by omega] at e0
      rw [show 9 + 6 * r + 1 = 10 + 6 * r by omega] at e1
      rw [show 9 + 6 * r + 2 = 11 + 6 * r by omega] at e2
      rw [show 9 + 6 * r + 3 = 12 + 6 * r by omega] at e3
      rw [show 9 + 6 * r + 4 = 13 + 6 * r by omega] at e4
      rw [show 9 + 6 * r + 5 = 14 + 6 * r by omega] at e5
      rw [e0, e1, e2, e3, e4, e5]
      exact ⟨b1, b2, b3, b4.le (by omega), b5.le (by omega), b6.le (by omega)⟩
  · obtain ⟨l1, l2, l3⟩ := hl l hll
    obtain ⟨b1, b2, b3, b4, b5, b6, b7⟩ := a10 l hll
    have e0 := l1 0 (by omega)
    have e1 := l1 1 (by omega)
    have e2 := l1 2 (by omega)
    have e3 := l1 3 (by omega)
    have e4 := l1 4 (by omega)
    rw [show 57 + 7 * l + 0 = 57 + 7 * l by omega] at e0
    rw [show 57 + 7 * l + 1 = 58 + 7 * l by omega] at e1
    rw [show 57 + 7 * l + 2 = 59 + 7 * l by omega] at e2
    rw [show 57 + 7 * l + 3 = 60 + 7 * l by omega] at e3
    rw [show 57 + 7 * l + 4 = 61 + 7 * l by omega] at e4
    rw [show 57 + 7 * l + 5 = 62 + 7 * l by omega] at l2
    rw [show 57 + 7 * l + 6 = 63 + 7 * l by omega] at l3
    rw [e0, e1, e2, e3, e4]
    exact ⟨b1, b2, b3, b4, b5, l2, l3⟩
theorem RW.gd {T : Nat → (Nat → Int64) → Option Int64} {R : Nat → Int32} {nr nl c : Nat} (h : RW R nr nl c) : RW (gdF T R nr) nr nl c := by
  obtain ⟨a1, a2, a3, a4, a5, a6, a7, a8, a9, a10⟩ := h
  have ot : ∀ j, ¬ j = 5 → (∀ k, k < nr → ¬ j = 11 + 6 * k) → gdF T R nr j = R j := by
    intro j h1 h2
    unfold gdF
    rw [up_ne h1, gdL_ne nr h2]
  refine ⟨?_, a2, ?_, a4, ?_, ?_, ?_, ?_, fun r hr => ?_, fun l hll => ?_⟩
  · rw [ot 1 (by omega) (fun k hk => by omega)]; exact a1
  · rw [ot 2 (by omega) (fun k hk => by omega)]; exact a3
  · unfold gdF
    rw [up_eq]
    exact In_wt (b := 999) (by omega)
  · rw [ot 6 (by omega) (fun k hk => by omega)]; exact a6
  · rw [ot 7 (by omega) (fun k hk => by omega)]; exact a7
  · rw [ot 8 (by omega) (fun k hk => by omega)]; exact a8
  · obtain ⟨b1, b2, b3, b4, b5, b6⟩ := a9 r hr
    rw [ot (9 + 6 * r) (by omega) (fun k hk => by omega), ot (10 + 6 * r) (by omega) (fun k hk => by omega), ot (12 + 6 * r) (by omega) (fun k hk => by omega), ot (13 + 6 * r) (by omega) (fun k hk => by omega), ot (14 + 6 * r) (by omega) (fun k hk => by omega)]
    refine ⟨b1, b2, ?_, b4, b5, b6⟩
    unfold gdF
    rw [up_ne (by omega)]
    have key : ∀ n, r < n → gdL T R n (11 + 6 * r) = wtF (R (11 + 6 * r) - rsF T R r).toInt64 0 999 := by
      intro n
      induction n with
      | zero => intro q; omega
      | succ n ih =>
        intro q
        rw [gdL]
        by_cases z : r = n
        · rw [z, up_eq]
        · rw [up_ne (by omega)]
          exact ih (by omega)
    rw [key nr hr]
    exact In_wt (b := 999) (by omega)
  · rw [ot (57 + 7 * l) (by omega) (fun k hk => by omega), ot (58 + 7 * l) (by omega) (fun k hk => by omega), ot (59 + 7 * l) (by omega) (fun k hk => by omega), ot (60 + 7 * l) (by omega) (fun k hk => by omega), ot (61 + 7 * l) (by omega) (fun k hk => by omega), ot (62 + 7 * l) (by omega) (fun k hk => by omega), ot (63 + 7 * l) (by omega) (fun k hk => by omega)]
    exact a10 l hll
