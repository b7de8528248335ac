theorem gTimes_er {b : Nat → Nat} {len q c kd : Nat} {sm : SF} {wt : Option SF} {e : Nat} (h : gTimes b len q c kd sm wt = .error e) : e ≤ len := by
  unfold gTimes at h
  split at h
  · cases hn : nuO b len (nxB b len q) with
    | none => rw [hn] at h; cases h; exact nxB_le.1
    | some v =>
      rw [hn] at h
      dsimp only at h
      split at h
      · cases h
      · cases h; exact nxB_le.1
  · cases h
theorem gSum_er {b : Nat → Nat} {len p c : Nat} {od : Bool} (hp : p ≤ len) {e : Nat} (h : gSum b len od 8 p c = .error e) : e ≤ len := by
  have := gSum_ok (b := b) (len := len) (od := od) rfl 8 p c hp
  rw [h] at this
  exact this
theorem gTest_er {b : Nat → Nat} {len p c : Nat} {od : Bool} (hp : p ≤ len) {e : Nat} (h : gTest b len od 8 p c = .error e) : e ≤ len := by
  have := gTest_ok (b := b) (len := len) (od := od) 8 p c hp
  rw [h] at this
  exact this
theorem gHead_er {b : Nat → Nat} {len p c : Nat} {od : Bool} (hp : p ≤ len) {e : Nat} (h : gHead b len od p c = .error e) : e ≤ len := by
  unfold gHead at h
  cases od with
  | false =>
    rw [if_neg Bool.false_ne_true] at h
    unfold gLawH at h
    cases hw : wIx b len p hdsW 0 with
    | none => rw [hw] at h; cases h; exact hp
    | some k =>
      rw [hw] at h
      dsimp only at h
      split at h
      · cases hg : gSum b len false 8 (nxB b len p) c with
        | error x => rw [hg] at h; cases h; exact gSum_er nxB_le.1 hg
        | ok s => rw [hg] at h; cases h
      · cases h
  | true =>
    rw [if_pos rfl] at h
    unfold gOrdH at h
    split at h
    · cases hg : gSum b len true 8 (nxB b len p) c with
      | error x => rw [hg] at h; cases h; exact gSum_er nxB_le.1 hg
      | ok s =>
        rw [hg] at h
        dsimp only at h
        unfold gHandB at h
        split at h
        · cases hg2 : gSum b len true 8 (nxB b len s.1) s.2.1 with
          | error x => rw [hg2] at h; cases h; exact gSum_er nxB_le.1 hg2
          | ok s2 => rw [hg2] at h; exact gTimes_er h
        · exact gTimes_er h
    · split at h
      · exact gTimes_er h
      · cases h; exact hp
theorem gHead_le {b : Nat → Nat} {len p c : Nat} {od : Bool} {r : Nat × Nat × Nat × SF × Option SF × Nat} (h : gHead b len od p c = .ok r) : r.1 ≤ len := by
  have ht : ∀ {q c kd : Nat} {sm : SF} {wt : Option SF} {r}, q ≤ len → gTimes b len q c kd sm wt = .ok r → r.1 ≤ len := by
    intro q c kd sm wt r hq h
    unfold gTimes at h
    split at h
    · cases hn : nuO b len (nxB b len q) with
      | none => rw [hn] at h; cases h
      | some v =>
        rw [hn] at h
        dsimp only at h
        split at h
        · cases h; exact nxB_le.1
        · cases h
    · cases h; exact hq
  have hs : ∀ {p c s}, p ≤ len → gSum b len od 8 p c = .ok s → s.1 ≤ len := by
    intro p c s hp h
    have := gSum_ok (b := b) (len := len) (od := od) rfl 8 p c hp
    rw [h] at this
    exact this.2.1
  unfold gHead at h
  cases od with
  | false =>
    rw [if_neg Bool.false_ne_true] at h
    unfold gLawH at h
    cases hw : wIx b len p hdsW 0 with
    | none => rw [hw] at h; cases h
    | some k =>
      rw [hw] at h
      dsimp only at h
      split at h
      · cases hg : gSum b len false 8 (nxB b len p) c with
        | error x => rw [hg] at h; cases h
        | ok s => rw [hg] at h; cases h; exact hs nxB_le.1 hg
      · cases h; exact nxB_le.1
  | true =>
    rw [if_pos rfl] at h
    unfold gOrdH at h
    split at h
    · cases hg : gSum b len true 8 (nxB b len p) c with
      | error x => rw [hg] at h; cases h
      | ok s =>
        rw [hg] at h
        dsimp only at h
        have h1 := hs nxB_le.1 hg
        unfold gHandB at h
        split at h
        · cases hg2 : gSum b len true 8 (nxB b len s.1) s.2.1 with
          | error x => rw [hg2] at h; cases h
          | ok s2 => rw [hg2] at h; exact ht (hs nxB_le.1 hg2) h
        · exact ht h1 h
    · split at h
      · exact ht nxB_le.1 h
      · cases h
theorem gClause_er {b : Nat → Nat} {len p c : Nat} {od : Bool} (hp : p ≤ len) {e : Nat} (h : gClause b len od p c = .error e) : e ≤ len := by
  unfold gClause at h
  cases hg : gHead b len od p c with
  | error x => rw [hg] at h; cases h; exact gHead_er hp hg
  | ok r =>
    rw [hg] at h
    dsimp only at h
    split at h
    · cases ht : gTest b len od 8 (nxB b len r.1) r.2.1 with
      | error x => rw [ht] at h; cases h; exact gTest_er nxB_le.1 ht
      | ok s => rw [ht] at h; cases h
    · cases h
theorem gClause_le {b : Nat → Nat} {len p c : Nat} {od : Bool} {r : Nat × Nat × CLd} (h : gClause b len od p c = .ok r) : r.1 ≤ len ∧ ∃ s, gHead b len od p c = .ok s ∧ r.2.2.1 = s.2.2.1 ∧ r.2.2.2.1 = s.2.2.2.1 ∧ r.2.2.2.2.1 = s.2.2.2.2.1 ∧ r.2.2.2.2.2.1 = s.2.2.2.2.2 := by
  unfold gClause at h
  cases hg : gHead b len od p c with
  | error x => rw [hg] at h; cases h
  | ok r =>
    rw [hg] at h
    dsimp only at h
    have h1 := gHead_le hg
    split at h
    · cases ht : gTest b len od 8 (nxB b len r.1) r.2.1 with
      | error x => rw [ht] at h; cases h
      | ok s =>
        rw [ht] at h
        cases h
        have := gTest_ok (b := b) (len := len) (od := od) 8 (nxB b len r.1) r.2.1 nxB_le.1
        rw [ht] at this
        exact ⟨this.2.1, r, rfl, rfl, rfl, rfl, rfl⟩
    · cases h
      exact ⟨h1, r, rfl, rfl, rfl, rfl, rfl⟩
theorem gTx_er {b : Nat → Nat} {len : Nat} {od : Bool} : ∀ m p c (L : List CLd) e, p ≤ len → gTx b len od m p c L = .error e → e ≤ len
  | 0, p, _, _, e, hp, h => by rw [gTx] at h; cases h; exact hp
  | m + 1, p, c, L, e, hp, h => by
    rw [gTx] at h
    cases hg : gClause b len od p c with
    | error x => rw [hg] at h; cases h; exact gClause_er hp hg
    | ok r =>
      rw [hg] at h
      dsimp only at h
      split at h
      · cases h
      · split at h
        · exact gTx_er m _ _ _ e nxB_le.1 h
        · cases h; exact (gClause_le hg).1
theorem gText_er {b : Nat → Nat} {len : Nat} {od : Bool} {e : Nat} (h : gText b len od = .error e) : e ≤ len := gTx_er 12 _ 0 [] e (skB_le (Nat.zero_le _)).2 h
theorem gTx_all {P : CLd → Prop} {b : Nat → Nat} {len : Nat} {od : Bool} (hP : ∀ p c r, gClause b len od p c = .ok r → P r.2.2) : ∀ m p c (L : List CLd) (L' : List CLd), (∀ i, i < L.length → P (L.getD i clD)) → gTx b len od m p c L = .ok L' → ∀ i, i < L'.length → P (L'.getD i clD)
  | 0, _, _, _, _, _, e => by rw [gTx] at e; cases e
  | m + 1, p, c, L, L', hL, e => by
    rw [gTx] at e
    cases hg : gClause b len od p c with
    | error x => rw [hg] at e; cases e
    | ok r =>
      rw [hg] at e
      dsimp only at e
      have h1 := hP p c r hg
      have h2 : ∀ i, i < (L ++ [r.2.2]).length → P ((L ++ [r.2.2]).getD i clD) := by
        intro i hi
        rw [List.length_append, List.length_singleton] at hi
        rcases (show i < L.length ∨ i = L.length by omega) with y | y
        · rw [getD_app y]; exact hL i y
        · rw [y, getD_last]; exact h1
      split at e
      · cases e; exact h2
      · split at e
        · exact gTx_all hP m _ _ _ L' h2 e
        · cases e
theorem gText_all {P : CLd → Prop} {b : Nat → Nat} {len : Nat} {od : Bool} (hP : ∀ p c r, gClause b len od p c = .ok r → P r.2.2) {L : List CLd} (e : gText b len od = .ok L) : ∀ i, i < L.length → P (L.getD i clD) := gTx_all hP 12 _ 0 [] L (fun i hi => absurd hi (by simp)) e
/-- a clause of a law -/
def CLl (cl : CLd) : Prop := cl.1 ≤ 4 ∧ cl.2.2.1 = none
/-- a clause of orders -/
def CLo (cl : CLd) : Prop := (cl.1 = 5 ∨ (cl.1 = 6 ∧ cl.2.1 = f1 ∧ cl.2.2.1 = none)) ∧ 1 ≤ cl.2.2.2.1 ∧ cl.2.2.2.1 ≤ 20
theorem gClause_law {b : Nat → Nat} {len p c : Nat} {r : Nat × Nat × CLd} (h : gClause b len false p c = .ok r) : CLl r.2.2 := by
  obtain ⟨_, s, hs, e1, e2, e3, e4⟩ := gClause_le h
  unfold CLl
  rw [e1, e3]
  unfold gHead at hs
  rw [if_neg Bool.false_ne_true] at hs
  unfold gLawH at hs
  cases hw : wIx b len p hdsW 0 with
  | none => rw [hw] at hs; cases hs
  | some k =>
    have hk := wIx_lt _ 0 k (by decide) hw
    have hk5 : k < 5 := by simpa [hdsW] using hk.2.2
    rw [hw] at hs
    dsimp only at hs
    split at hs
    · cases hg : gSum b len false 8 (nxB b len p) c with
      | error x => rw [hg] at hs; cases hs
      | ok s2 => rw [hg] at hs; cases hs; exact ⟨by dsimp only; omega, rfl⟩
    · cases hs; exact ⟨by dsimp only; omega, rfl⟩
theorem gClause_ord {b : Nat → Nat} {len p c : Nat} {r : Nat × Nat × CLd} (h : gClause b len true p c = .ok r) : CLo r.2.2 := by
  obtain ⟨_, s, hs, e1, e2, e3, e4⟩ := gClause_le h
  unfold CLo
  rw [e1, e2, e3, e4]
  unfold gHead at hs
  rw [if_pos rfl] at hs
  unfold gOrdH at hs
  split at hs
  · cases hg : gSum b len true 8 (nxB b len p) c with
    | error x => rw [hg] at hs; cases hs
    | ok s1 =>
      rw [hg] at hs
      dsimp only at hs
      unfold gHandB at hs
      split at hs
      · cases hg2 : gSum b len true 8 (nxB b len s1.1) s1.2.1 with
        | error x => rw [hg2] at hs; cases hs
        | ok s2 =>
          rw [hg2] at hs
          obtain ⟨z1, z2, z3, z4, z5⟩ := gTimes_ok hs
          exact ⟨Or.inl z3, z4, z5⟩
      · obtain ⟨z1, z2, z3, z4, z5⟩ := gTimes_ok hs
        exact ⟨Or.inl z3, z4, z5⟩
  · split at hs
    · obtain ⟨z1, z2, z3, z4, z5⟩ := gTimes_ok hs
      exact ⟨Or.inr ⟨z3, z1, z2⟩, z4, z5⟩
    · cases hs
