/-- the model's row on paper, d letters of w read: so tired, so much paid; rd: which were read -/
def OSt (R S : Nat → Int32) (w : Nat) (dg : Bool) (nr nl c d t o : Nat) (rd : Nat → Bool) : Prop := RW S nr nl (c + d) ∧ Hi R S ∧ S 5 = dyO R dg d ∧ S 7 = R 7 ∧ S (9 + 6 * w) = R (9 + 6 * w) ∧ S (11 + 6 * w) = nI t ∧ S (12 + 6 * w) = hdO R w d ∧ S 8 = R 8 + nI o ∧ (∀ l f, l < nl → f < 5 → S (57 + 7 * l + f) = R (57 + 7 * l + f)) ∧ ∀ l, l < nl → S (62 + 7 * l) = if rd l then 1 else R (62 + 7 * l)
theorem OSt.rw {R S : Nat → Int32} {w : Nat} {dg : Bool} {nr nl c d t o : Nat} {rd : Nat → Bool} (h : OSt R S w dg nr nl c d t o rd) : RW S nr nl (c + d) := h.1
theorem OSt.hi {R S : Nat → Int32} {w : Nat} {dg : Bool} {nr nl c d t o : Nat} {rd : Nat → Bool} (h : OSt R S w dg nr nl c d t o rd) : Hi R S := h.2.1
theorem OSt.h5 {R S : Nat → Int32} {w : Nat} {dg : Bool} {nr nl c d t o : Nat} {rd : Nat → Bool} (h : OSt R S w dg nr nl c d t o rd) : S 5 = dyO R dg d := h.2.2.1
theorem OSt.h7 {R S : Nat → Int32} {w : Nat} {dg : Bool} {nr nl c d t o : Nat} {rd : Nat → Bool} (h : OSt R S w dg nr nl c d t o rd) : S 7 = R 7 := h.2.2.2.1
theorem OSt.h9 {R S : Nat → Int32} {w : Nat} {dg : Bool} {nr nl c d t o : Nat} {rd : Nat → Bool} (h : OSt R S w dg nr nl c d t o rd) : S (9 + 6 * w) = R (9 + 6 * w) := h.2.2.2.2.1
theorem OSt.h11 {R S : Nat → Int32} {w : Nat} {dg : Bool} {nr nl c d t o : Nat} {rd : Nat → Bool} (h : OSt R S w dg nr nl c d t o rd) : S (11 + 6 * w) = nI t := h.2.2.2.2.2.1
theorem OSt.h12 {R S : Nat → Int32} {w : Nat} {dg : Bool} {nr nl c d t o : Nat} {rd : Nat → Bool} (h : OSt R S w dg nr nl c d t o rd) : S (12 + 6 * w) = hdO R w d := h.2.2.2.2.2.2.1
theorem OSt.h8 {R S : Nat → Int32} {w : Nat} {dg : Bool} {nr nl c d t o : Nat} {rd : Nat → Bool} (h : OSt R S w dg nr nl c d t o rd) : S 8 = R 8 + nI o := h.2.2.2.2.2.2.2.1
theorem OSt.hl {R S : Nat → Int32} {w : Nat} {dg : Bool} {nr nl c d t o : Nat} {rd : Nat → Bool} (h : OSt R S w dg nr nl c d t o rd) : (∀ l f, l < nl → f < 5 → S (57 + 7 * l + f) = R (57 + 7 * l + f)) := h.2.2.2.2.2.2.2.2.1
theorem OSt.hr {R S : Nat → Int32} {w : Nat} {dg : Bool} {nr nl c d t o : Nat} {rd : Nat → Bool} (h : OSt R S w dg nr nl c d t o rd) : ∀ l, l < nl → S (62 + 7 * l) = if rd l then 1 else R (62 + 7 * l) := h.2.2.2.2.2.2.2.2.2
theorem OSt.zero {R : Nat → Int32} {w nr nl c t : Nat} {dg : Bool} (h : RW R nr nl c) (h11 : R (11 + 6 * w) = nI t) : OSt R R w dg nr nl c 0 t 0 (fun _ => false) := by
  obtain ⟨D, h1, h2⟩ := h.2.2.2.2.1
  refine ⟨h, Hi.refl, ?_, rfl, rfl, h11, ?_, ?_, fun _ _ _ _ => rfl, fun _ _ => rfl⟩
  · unfold dyO
    cases dg
    · rfl
    · rw [h2, nI_add]
      simp only [if_true]
      have e : ((999 : Int32) ≤ nI (D + 0)) = (999 ≤ D + 0) := propext (nI_leI (a := 999) (by omega) (by omega))
      simp only [e]
      split
      · rw [show D = 999 by omega]
        rfl
      · rfl
  · unfold hdO
    rw [show nI 0 = 0 from rfl]
    simp
  · rw [show nI 0 = 0 from rfl]
    simp
theorem OSt.x {R S : Nat → Int32} {w : Nat} {dg : Bool} {nr nl c d t o : Nat} {rd : Nat → Bool} (h : OSt R S w dg nr nl c d t o rd) {l : Nat} (hl : l < nl) : hdF S w l none = xO R w dg d t l := by
  have e : hdF S w l none = wS S w (S (11 + 6 * w)) (S (12 + 6 * w)) (S 5) (S (57 + 7 * l + 0)) (S (57 + 7 * l + 1)) (S (57 + 7 * l + 2)) 1 := rfl
  rw [e, h.h11, h.h12, h.h5, h.hl l 0 hl (by omega), h.hl l 1 hl (by omega), h.hl l 2 hl (by omega)]
  unfold xO wS
  funext k
  rw [h.h9, h.h7]
  simp only [show 57 + 7 * l + 0 = 57 + 7 * l by omega, show 57 + 7 * l + 1 = 58 + 7 * l by omega, show 57 + 7 * l + 2 = 59 + 7 * l by omega]
theorem rdP_pw {T : Nat → (Nat → Int64) → Option Int64} {hl : Bool} {R : Nat → Int32} {w l : Nat} : rdP T R w l none (lafF T hl (hdF R w l none)) = pwF T hl (hdF R w l none) := rfl
theorem gdL_at {T : Nat → (Nat → Int64) → Option Int64} {R : Nat → Int32} {w : Nat} : ∀ n, w < n → gdL T R n (11 + 6 * w) = wtF (R (11 + 6 * w) - rsF T R w).toInt64 0 999
  | 0, h => absurd h (by omega)
  | n + 1, h => by
    rw [gdL]
    by_cases e : w = n
    · rw [e, up_eq]
    · rw [up_ne (by omega)]
      exact gdL_at n (by omega)
theorem dyO_s {R : Nat → Int32} {nr nl c : Nat} (h : RW R nr nl c) {d : Nat} (hd : d ≤ 8) : wtF (dyO R true d + 1).toInt64 0 999 = dyO R true (d + 1) := by
  obtain ⟨D, h1, h2⟩ := h.2.2.2.2.1
  have htd := td_c (v := dyO R true d) (u := 1) (dyO_In h hd) ⟨1, by omega, rfl⟩
  rw [← htd]
  unfold dyO
  simp only [if_true, h2, nI_add]
  have e : ∀ k, k ≤ 9 → ((999 : Int32) ≤ nI (D + k)) = (999 ≤ D + k) := fun k hk => propext (nI_leI (a := 999) (by omega) (by omega))
  simp only [e d (by omega), e (d + 1) (by omega)]
  by_cases q : 999 ≤ D + d
  · rw [if_pos q, if_pos (show 999 ≤ D + (d + 1) by omega)]
    rw [if_pos (by decide)]
  · rw [if_neg q, show nI (D + d) + 1 = nI (D + (d + 1)) from nI_1 (D + d)]
    simp only [e (d + 1) (by omega)]
theorem rdR_at {T : Nat → (Nat → Int64) → Option Int64} {S : Nat → Int32} {w l : Nat} {lg : Bool} {j : Nat} (h1 : ¬ j = 57 + 7 * l + 5) (h2 : ¬ j = 57 + 7 * l + 6) : rdR T S w l none lg j = rdA T S w l none lg j := by
  show up (up _ _ _) _ _ j = _
  rw [up_ne h2, up_ne h1]
/-- a letter is read -/
theorem OSt.rd1 {T : Nat → (Nat → Int64) → Option Int64} {hl : Bool} {R S : Nat → Int32} {w : Nat} {dg : Bool} {nr nl c d t o : Nat} {rd : Nat → Bool} (h : OSt R S w dg nr nl c d t o rd) (hR : RW R nr nl c) (hc : c + d ≤ 499999) (hw : w < nr) {l : Nat} (hln : l < nl) (ht : t ≤ 999) {S1 : Nat → Int32} (hS1 : S1 = rdR T S w l none (lafF T hl (hdF S w l none))) : RW S1 nr nl (c + (d + 1)) ∧ Hi R S1 ∧ S1 5 = dyO R dg d ∧ S1 7 = R 7 ∧ S1 (9 + 6 * w) = R (9 + 6 * w) ∧ S1 (11 + 6 * w) = a1O T R w dg d t l ∧ S1 (12 + 6 * w) = hdO R w (d + 1) ∧ S1 8 = R 8 + nI (o + pyO T hl R w dg d t l) ∧ (∀ k f, k < nl → f < 5 → S1 (57 + 7 * k + f) = R (57 + 7 * k + f)) ∧ ∀ k, k < nl → S1 (62 + 7 * k) = if (rd k || decide (k = l)) then 1 else R (62 + 7 * k) := by
  have nr8 := hR.2.1
  have nl12 := hR.2.2.2.1
  have hx := h.x hln
  have hp := pyO_le (T := T) (hl := hl) (dg := dg) (d := d) hR hw hln ht
  obtain ⟨b1, b2, b3, b4, b5, b6, b7⟩ := rdA_w (T := T) (R := S) (w := w) (one := l) (o := none) (lg := lafF T hl (hdF S w l none))
  obtain ⟨w', w1, w2, w3⟩ := h.rw.hc (by omega) hln (o := none) (fun k hk => by cases hk)
  refine ⟨?_, ?_, ?_, ?_, ?_, ?_, ?_, ?_, ?_, ?_⟩
  · rw [hS1]
    exact (h.rw.rd hw hln (fun k hk => by cases hk) w3.2.2.2.2.2).mono (by omega)
  · rw [hS1]
    exact h.hi.trans (Hi.re (by omega) (by omega) (fun k hk => by cases hk))
  · rw [hS1, rdR_at (by omega) (by omega), rdA_hi (by omega) (by omega)]
    exact h.h5
  · rw [hS1, rdR_at (by omega) (by omega), rdA_hi (by omega) (by omega)]
    exact h.h7
  · rw [hS1, rdR_at (by omega) (by omega), b2]
    exact h.h9
  · rw [hS1, rdR_at (by omega) (by omega), b4, h.h11, hx]
    rfl
  · rw [hS1, rdR_at (by omega) (by omega), b5, h.h12]
    unfold hdO
    rw [Int32.add_assoc]
    exact congrArg _ (nI_1 d)
  · rw [hS1, rdR_at (by omega) (by omega), b1, h.h8, rdP_pw, hx, ← hp.2, Int32.add_assoc, nI_add]
  · intro k f hk hf
    rw [hS1, rdR_at (by omega) (by omega), rdA_hi (by omega) (by omega)]
    exact h.hl k f hk hf
  · intro k hk
    by_cases e : k = l
    · rw [e, hS1]
      show up (up _ _ _) _ _ (62 + 7 * l) = _
      rw [up_ne (by omega), show 62 + 7 * l = 57 + 7 * l + 5 by omega, up_eq]
      simp
    · rw [hS1, rdR_at (by omega) (by omega), rdA_hi (by omega) (by omega), h.hr k hk]
      simp [e]
theorem OSt.step0 {T : Nat → (Nat → Int64) → Option Int64} {hl : Bool} {R S : Nat → Int32} {w : Nat} {nr nl c d t o : Nat} {rd : Nat → Bool} (h : OSt R S w false nr nl c d t o rd) (hR : RW R nr nl c) (hc : c + d ≤ 499999) (hw : w < nr) {l : Nat} (hln : l < nl) (ht : t ≤ 999) : OSt R (rdR T S w l none (lafF T hl (hdF S w l none))) w false nr nl c (d + 1) (afO T R w false d t l) (o + pyO T hl R w false d t l) (fun k => rd k || decide (k = l)) := by
  obtain ⟨h1, h2, h3, h4, h5, h6, h7, h8, h9, h10⟩ := h.rd1 (T := T) (hl := hl) hR hc hw hln ht rfl
  have e6 := (afO_le (T := T) (R := R) (w := w) (dg := false) (d := d) (t := t) (l := l)).2
  rw [if_neg (by decide)] at e6
  have e3 : dyO R false d = dyO R false (d + 1) := by
    unfold dyO
    rw [if_neg (by decide), if_neg (by decide)]
  exact ⟨h1, h2, h3.trans e3, h4, h5, h6.trans e6.symm, h7, h8, h9, h10⟩
theorem OSt.step1 {T : Nat → (Nat → Int64) → Option Int64} {hl : Bool} {R S : Nat → Int32} {w : Nat} {nr nl c d t o : Nat} {rd : Nat → Bool} (h : OSt R S w true nr nl c d t o rd) (hR : RW R nr nl c) (hc : c + d ≤ 499999) (hw : w < nr) (hd : d ≤ 8) {l : Nat} (hln : l < nl) (ht : t ≤ 999) : OSt R (gdF T (rdR T S w l none (lafF T hl (hdF S w l none))) nr) w true nr nl c (d + 1) (afO T R w true d t l) (o + pyO T hl R w true d t l) (fun k => rd k || decide (k = l)) := by
  have nr8 := hR.2.1
  have nl12 := hR.2.2.2.1
  obtain ⟨S1, hS1⟩ : ∃ S1, S1 = rdR T S w l none (lafF T hl (hdF S w l none)) := ⟨_, rfl⟩
  obtain ⟨h1, h2, h3, h4, h5, h6, h7, h8, h9, h10⟩ := h.rd1 (T := T) (hl := hl) hR hc hw hln ht hS1
  rw [← hS1]
  have g : ∀ j, ¬ j = 5 → (∀ k, k < nr → ¬ j = 11 + 6 * k) → gdF T S1 nr j = S1 j := fun j q1 q2 => by
    unfold gdF
    rw [up_ne q1, gdL_ne nr q2]
  refine ⟨h1.gd, h2.trans (Hi.gd nr8), ?_, ?_, ?_, ?_, ?_, ?_, ?_, ?_⟩
  · unfold gdF
    rw [up_eq, h3]
    exact dyO_s hR hd
  · rw [g _ (by omega) (fun k hk => by omega)]
    exact h4
  · rw [g _ (by omega) (fun k hk => by omega)]
    exact h5
  · unfold gdF
    rw [up_ne (by omega), gdL_at nr hw, (afO_le (dg := true)).2]
    simp only [if_true]
    unfold a2O rsF
    rw [wdF_wS, h6, h7, h3]
    have e : wS S1 w (a1O T R w true d t l) (hdO R w (d + 1)) (dyO R true d) (-1) (-1) (-1) (-1) = wS R w (a1O T R w true d t l) (hdO R w d + 1) (dyO R true d) (-1) (-1) (-1) (-1) := by
      have e2 : hdO R w (d + 1) = hdO R w d + 1 := by
        unfold hdO
        rw [Int32.add_assoc]
        exact congrArg _ (nI_1 d).symm
      rw [e2]
      unfold wS
      funext k
      rw [h5, h4]
    rw [e]
  · rw [g _ (by omega) (fun k hk => by omega)]
    exact h7
  · rw [g _ (by omega) (fun k hk => by omega)]
    exact h8
  · intro k f hk hf
    rw [g _ (by omega) (fun k hk => by omega)]
    exact h9 k f hk hf
  · intro k hk
    rw [g _ (by omega) (fun k hk => by omega)]
    exact h10 k hk
/-- which letters were read, by the bits of what was done -/
def rdB (n done : Nat) (lt : Nat → Nat) (l : Nat) : Bool := (List.range n).any (fun k => done.testBit k && decide (lt k = l))
theorem rdB_at {n done : Nat} {lt : Nat → Nat} (hinj : ∀ j k, j < n → k < n → lt j = lt k → j = k) {k : Nat} (hk : k < n) : rdB n done lt (lt k) = done.testBit k := by
  unfold rdB
  cases hb : done.testBit k with
  | true =>
    rw [List.any_eq_true]
    exact ⟨k, List.mem_range.mpr hk, by simp [hb]⟩
  | false =>
    rw [List.any_eq_false]
    intro j hj
    have hj := List.mem_range.mp hj
    intro q
    simp only [Bool.and_eq_true, decide_eq_true_eq] at q
    have := hinj j k hj hk q.2
    rw [this, hb] at q
    exact absurd q.1 (by simp)
theorem rdB_or {n done : Nat} {lt : Nat → Nat} {k : Nat} (hk : k < n) : rdB n (done ||| 2 ^ k) lt = fun l => rdB n done lt l || decide (l = lt k) := by
  funext l
  unfold rdB
  rw [Bool.eq_iff_iff]
  simp only [Bool.or_eq_true, List.any_eq_true, Bool.and_eq_true, decide_eq_true_eq, List.mem_range, Nat.testBit_or, Nat.testBit_two_pow]
  constructor
  · rintro ⟨j, h1, h2 | h2, h3⟩
    · exact Or.inl ⟨j, h1, h2, h3⟩
    · exact Or.inr (by rw [h2, h3])
  · rintro (⟨j, h1, h2, h3⟩ | h)
    · exact ⟨j, h1, Or.inl h2, h3⟩
    · exact ⟨k, hk, Or.inr rfl, h.symm⟩
theorem rdB_0 {n : Nat} {lt : Nat → Nat} : rdB n 0 lt = fun _ => false := by
  funext l
  unfold rdB
  rw [List.any_eq_false]
  intro j _
  simp
