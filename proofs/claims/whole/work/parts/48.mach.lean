/-- a pure machine for the codes of both: 0 a number, 1 a word, 2..9 two values to one, 10 not, 11 or, 12 and -/
def mop (o : Nat) (a b : Int64) : Int64 := if o = 2 then a + b else if o = 3 then a - b else if o = 4 then a * b else if o = 5 then a / b else if o = 6 then a - a / b * b else if o = 7 then (if a < b then 1 else 0) else if o = 8 then (if b < a then 1 else 0) else if a = b then 1 else 0
def mbin (o : Nat) (a b : Int64) : Option Int64 := if (o = 5 ∨ o = 6) ∧ b = 0 then none else if mop o a b < -1000000000 ∨ 1000000000 < mop o a b then none else some (mop o a b)
/-- one step: none = stuck (never comes), some none = broken -/
def mst (I : Nat → Nat × Nat) (env : Nat → Int64) (k : Nat) (st : List Int64) : Option (Option (Nat × List Int64)) :=
  if 64 ≤ st.length then none else if (I k).1 = 0 then some (some (k + 1, Int64.ofNat (I k).2 :: st)) else if (I k).1 = 1 then some (some (k + 1, env (I k).2 :: st)) else match st with
  | [] => none
  | x :: r => if (I k).1 = 10 then some (some (k + 1, (1 - x) :: r)) else if (I k).1 = 11 then (if x = 1 then some (some ((I k).2, x :: r)) else some (some (k + 1, r))) else if (I k).1 = 12 then (if x = 0 then some (some ((I k).2, x :: r)) else some (some (k + 1, r))) else match r with
    | [] => none
    | y :: r' => match mbin (I k).1 y x with
      | none => some none
      | some v => some (some (k + 1, v :: r'))
def mrF (I : Nat → Nat × Nat) (env : Nat → Int64) (lim : Nat) : Nat → Nat → List Int64 → Option (Option (List Int64))
  | 0, _, st => some (some st)
  | n + 1, k, st => if k < lim then match mst I env k st with
      | none => none
      | some none => some none
      | some (some x) => mrF I env lim n x.1 x.2
    else some (some st)
/-- jumps go forward -/
def FW (I : Nat → Nat × Nat) (lim : Nat) : Prop := ∀ k, k < lim → (I k).1 = 11 ∨ (I k).1 = 12 → k < (I k).2
theorem mst_lt {I : Nat → Nat × Nat} {env : Nat → Int64} {lim k : Nat} {x : Nat × List Int64} {st : List Int64} (hF : FW I lim) (hk : k < lim) (h : mst I env k st = some (some x)) : k < x.1 := by
  unfold mst at h
  split at h
  · cases h
  · split at h
    · injection h with h; injection h with h; subst h; exact Nat.lt_succ_self k
    · split at h
      · injection h with h; injection h with h; subst h; exact Nat.lt_succ_self k
      · split at h
        · cases h
        · split at h
          · injection h with h; injection h with h; subst h; exact Nat.lt_succ_self k
          · split at h
            · rename_i g
              have := hF k hk (Or.inl g)
              split at h
              · injection h with h; injection h with h; subst h; exact this
              · injection h with h; injection h with h; subst h; exact Nat.lt_succ_self k
            · split at h
              · rename_i g
                have := hF k hk (Or.inr g)
                split at h
                · injection h with h; injection h with h; subst h; exact this
                · injection h with h; injection h with h; subst h; exact Nat.lt_succ_self k
              · split at h
                · cases h
                · split at h
                  · injection h with h; cases h
                  · injection h with h; injection h with h; subst h; exact Nat.lt_succ_self k
theorem mrF_en {I : Nat → Nat × Nat} {env : Nat → Int64} {lim : Nat} (hF : FW I lim) : ∀ (n m k : Nat) (st : List Int64), lim - k ≤ n → lim - k ≤ m → mrF I env lim n k st = mrF I env lim m k st
  | 0, 0, _, _, _, _ => rfl
  | 0, m + 1, k, st, h1, _ => by
    rw [mrF, mrF, if_neg (by omega)]
  | n + 1, 0, k, st, _, h2 => by
    rw [mrF, mrF, if_neg (by omega)]
  | n + 1, m + 1, k, st, h1, h2 => by
    rw [mrF, mrF]
    by_cases hk : k < lim
    · rw [if_pos hk, if_pos hk]
      cases h : mst I env k st with
      | none => rfl
      | some y =>
        cases y with
        | none => rfl
        | some x =>
          have := mst_lt hF hk h
          exact mrF_en hF n m x.1 x.2 (by omega) (by omega)
    · rw [if_neg hk, if_neg hk]
def mr (I : Nat → Nat × Nat) (env : Nat → Int64) (lim k : Nat) (st : List Int64) : Option (Option (List Int64)) := mrF I env lim (lim - k) k st
theorem mr_end {I : Nat → Nat × Nat} {env : Nat → Int64} {lim k : Nat} {st : List Int64} (h : lim ≤ k) : mr I env lim k st = some (some st) := by
  unfold mr
  rw [show lim - k = 0 by omega]
  rfl
theorem mr_stuck {I : Nat → Nat × Nat} {env : Nat → Int64} {lim k : Nat} {st : List Int64} (hk : k < lim) (h : mst I env k st = none) : mr I env lim k st = none := by
  unfold mr
  rw [show lim - k = (lim - k - 1) + 1 by omega, mrF, if_pos hk, h]
theorem mr_no {I : Nat → Nat × Nat} {env : Nat → Int64} {lim k : Nat} {st : List Int64} (hk : k < lim) (h : mst I env k st = some none) : mr I env lim k st = some none := by
  unfold mr
  rw [show lim - k = (lim - k - 1) + 1 by omega, mrF, if_pos hk, h]
theorem mr_so {I : Nat → Nat × Nat} {env : Nat → Int64} {lim k : Nat} {x : Nat × List Int64} {st : List Int64} (hF : FW I lim) (hk : k < lim) (h : mst I env k st = some (some x)) : mr I env lim k st = mr I env lim x.1 x.2 := by
  unfold mr
  rw [show lim - k = (lim - k - 1) + 1 by omega, mrF, if_pos hk, h]
  have := mst_lt hF hk h
  exact mrF_en hF _ _ _ _ (by omega) (by omega)
/-- the code from p up to q works out a function of the words, with at most h values more -/
def Sem (I : Nat → Nat × Nat) (p q h : Nat) (f : (Nat → Int64) → Option Int64) : Prop := ∀ (env : Nat → Int64) (lim : Nat) (st : List Int64), q ≤ lim → FW I lim → st.length + h < 64 → mr I env lim p st = match f env with
  | none => some none
  | some v => mr I env lim q (v :: st)
theorem sem_num {I : Nat → Nat × Nat} {p n : Nat} (h : I p = (0, n)) : Sem I p (p + 1) 1 (fun _ => some (Int64.ofNat n)) := by
  intro env lim st hq hF hh
  exact mr_so (x := (p + 1, Int64.ofNat n :: st)) hF (by omega) (by simp [mst, h, show ¬ 64 ≤ st.length by omega])
theorem sem_word {I : Nat → Nat × Nat} {p n : Nat} (h : I p = (1, n)) : Sem I p (p + 1) 1 (fun env => some (env n)) := by
  intro env lim st hq hF hh
  exact mr_so (x := (p + 1, env n :: st)) hF (by omega) (by simp [mst, h, show ¬ 64 ≤ st.length by omega])
def fbin (o : Nat) (f g : (Nat → Int64) → Option Int64) : (Nat → Int64) → Option Int64 := fun env => match f env with
  | none => none
  | some a => match g env with
    | none => none
    | some b => mbin o a b
theorem sem_bin {I : Nat → Nat × Nat} {p q r o n h1 h2 : Nat} {f g : (Nat → Int64) → Option Int64} (hf : Sem I p q h1 f) (hg : Sem I q r h2 g) (hp : 1 ≤ h1) (hp2 : 1 ≤ h2) (hqr : q ≤ r) (ho : 2 ≤ o ∧ o ≤ 9) (h : I r = (o, n)) : Sem I p (r + 1) (h1 + h2) (fbin o f g) := by
  intro env lim st hq hF hh
  rw [hf env lim st (by omega) hF (by omega)]
  unfold fbin
  cases hfe : f env with
  | none => rfl
  | some a =>
    simp only
    rw [hg env lim _ (by omega) hF (by simp only [List.length_cons]; omega)]
    cases hge : g env with
    | none => rfl
    | some b =>
      simp only
      have h0 : ¬ o = 0 := by omega
      have h1 : ¬ o = 1 := by omega
      have h10 : ¬ o = 10 := by omega
      have h11 : ¬ o = 11 := by omega
      have h12 : ¬ o = 12 := by omega
      have hl : ¬ 64 ≤ st.length + 1 + 1 := by omega
      cases hm : mbin o a b with
      | none => exact mr_no (by omega) (by simp [mst, h, h0, h1, h10, h11, h12, hm, hl])
      | some v => exact mr_so (x := (r + 1, v :: st)) hF (by omega) (by simp [mst, h, h0, h1, h10, h11, h12, hm, hl])
def fnot (f : (Nat → Int64) → Option Int64) : (Nat → Int64) → Option Int64 := fun env => match f env with
  | none => none
  | some a => some (1 - a)
theorem sem_not {I : Nat → Nat × Nat} {p q n h1 : Nat} {f : (Nat → Int64) → Option Int64} (hf : Sem I p q h1 f) (hp : 1 ≤ h1) (h : I q = (10, n)) : Sem I p (q + 1) h1 (fnot f) := by
  intro env lim st hq hF hh
  rw [hf env lim st (by omega) hF hh]
  unfold fnot
  cases hfe : f env with
  | none => rfl
  | some a => exact mr_so (x := (q + 1, (1 - a) :: st)) hF (by omega) (by simp [mst, h, show ¬ 64 ≤ st.length + 1 by omega])
def fand (f g : (Nat → Int64) → Option Int64) : (Nat → Int64) → Option Int64 := fun env => match f env with
  | none => none
  | some a => if a = 0 then some a else g env
theorem sem_and {I : Nat → Nat × Nat} {p q r h1 h2 : Nat} {f g : (Nat → Int64) → Option Int64} (hf : Sem I p q h1 f) (hg : Sem I (q + 1) r h2 g) (hp : 1 ≤ h1) (hqr : q + 1 ≤ r) (h : I q = (12, r)) : Sem I p r (h1 + h2) (fand f g) := by
  intro env lim st hq hF hh
  rw [hf env lim st (by omega) hF (by omega)]
  unfold fand
  cases hfe : f env with
  | none => rfl
  | some a =>
    simp only
    by_cases h0 : a = 0
    · simp only [h0, if_true]
      exact mr_so (x := (r, 0 :: st)) hF (by omega) (by simp [mst, h, show ¬ 64 ≤ st.length + 1 by omega])
    · simp only [h0, if_false]
      rw [← hg env lim st hq hF (by omega)]
      exact mr_so (x := (q + 1, st)) hF (by omega) (by simp [mst, h, h0, show ¬ 64 ≤ st.length + 1 by omega])
def forr (f g : (Nat → Int64) → Option Int64) : (Nat → Int64) → Option Int64 := fun env => match f env with
  | none => none
  | some a => if a = 1 then some a else g env
theorem sem_or {I : Nat → Nat × Nat} {p q r h1 h2 : Nat} {f g : (Nat → Int64) → Option Int64} (hf : Sem I p q h1 f) (hg : Sem I (q + 1) r h2 g) (hp : 1 ≤ h1) (hqr : q + 1 ≤ r) (h : I q = (11, r)) : Sem I p r (h1 + h2) (forr f g) := by
  intro env lim st hq hF hh
  rw [hf env lim st (by omega) hF (by omega)]
  unfold forr
  cases hfe : f env with
  | none => rfl
  | some a =>
    simp only
    by_cases h0 : a = 1
    · simp only [h0, if_true]
      exact mr_so (x := (r, 1 :: st)) hF (by omega) (by simp [mst, h, show ¬ 64 ≤ st.length + 1 by omega])
    · simp only [h0, if_false]
      rw [← hg env lim st hq hF (by omega)]
      exact mr_so (x := (q + 1, st)) hF (by omega) (by simp [mst, h, h0, show ¬ 64 ≤ st.length + 1 by omega])
/-- a code alone works out its function -/
theorem sem_run {I : Nat → Nat × Nat} {p q h : Nat} {f : (Nat → Int64) → Option Int64} (hf : Sem I p q h f) (hh : h < 64) (hF : FW I q) (env : Nat → Int64) : mr I env q p [] = match f env with
  | none => some none
  | some v => some (some [v]) := by
  rw [hf env q [] (Nat.le_refl _) hF (by simpa using hh)]
  cases f env with
  | none => rfl
  | some v => exact mr_end (Nat.le_refl _)
