/-- what can be undone: how many, their kinds, the rows ahead of them -/
abbrev US := Nat × (Nat → Int32) × (Nat → Nat → Int32)
def keepU (U : US) (v : Int32) (R : Nat → Int32) : US := if U.1 < 16 then (U.1 + 1, up U.2.1 U.1 v, fun k => if k = U.1 then R else U.2.2 k) else (16, fun k => if k = 15 then v else U.2.1 (k + 1), fun k => if k = 15 then R else U.2.2 (k + 1))
/-- the model's rows of it -/
def MU (R u so : Nat → Int32) (U : US) : Prop := ∀ k, k < U.1 → so k = U.2.1 k ∧ EqS (U.2.2 k) (snR R u k)
/-- the class's -/
def CUr (st : Nat → Nat → Int32) (kd : Nat → Int32) (p : Nat) (U : US) : Prop := ∀ k, k < U.1 → kd ((p + 16 - U.1 + k) % 16) = U.2.1 k ∧ VW (st ((p + 16 - U.1 + k) % 16)) (U.2.2 k)
def UOK (U : US) (nr nl c : Nat) : Prop := U.1 ≤ 16 ∧ ∀ k, k < U.1 → (U.2.1 k = 0 ∨ U.2.1 k = 1 ∨ U.2.1 k = 2) ∧ RW (U.2.2 k) nr nl c
theorem EqS.refl {R : Nat → Int32} : EqS R R := ⟨rfl, rfl, fun _ _ _ => rfl⟩
theorem EqS.trans {R R' R'' : Nat → Int32} (h : EqS R R') (g : EqS R' R'') : EqS R R'' := ⟨g.1.trans h.1, g.2.1.trans h.2.1, fun j h1 h2 => (g.2.2 j h1 h2).trans (h.2.2 j h1 h2)⟩
theorem URel.toU {R : Nat → Int32} {nr nl c : Nat} {u so : Nat → Int32} {n : Nat} {st : Nat → Nat → Int32} {kd : Nat → Int32} {p : Nat} (h : URel R nr nl c u so n st kd p) : UOK (n, so, fun k => snR R u k) nr nl c ∧ MU R u so (n, so, fun k => snR R u k) ∧ CUr st kd p (n, so, fun k => snR R u k) := by
  obtain ⟨a1, a2, a3⟩ := h
  refine ⟨⟨a1, fun k hk => ⟨(a3 k hk).2.1, (a3 k hk).2.2.2⟩⟩, fun k hk => ⟨rfl, EqS.refl⟩, fun k hk => ⟨(a3 k hk).1.symm, (a3 k hk).2.2.1⟩⟩
theorem URel.ofU {R : Nat → Int32} {nr nl c : Nat} {u so : Nat → Int32} {U : US} {st : Nat → Nat → Int32} {kd : Nat → Int32} {p : Nat} (h1 : UOK U nr nl c) (h2 : MU R u so U) (h3 : CUr st kd p U) (hp : p < 16) : URel R nr nl c u so U.1 st kd p := by
  refine ⟨h1.1, hp, fun k hk => ?_⟩
  obtain ⟨a1, a2⟩ := h1.2 k hk
  obtain ⟨b1, b2⟩ := h2 k hk
  obtain ⟨c1, c2⟩ := h3 k hk
  exact ⟨b1.trans c1.symm, by rw [b1]; exact a1, c2.eqs b2, a2.eqs b2⟩
theorem UOK.keep {U : US} {nr nl c : Nat} (h : UOK U nr nl c) {R : Nat → Int32} (hR : RW R nr nl c) {v : Int32} (hv : v = 0 ∨ v = 1 ∨ v = 2) {c' : Nat} (hc : c ≤ c') : UOK (keepU U v R) nr nl c' := by
  obtain ⟨a1, a2⟩ := h
  unfold keepU
  split
  · next q =>
    refine ⟨by show U.1 + 1 ≤ 16; omega, fun k hk => ?_⟩
    have hk' : k < U.1 + 1 := hk
    dsimp only
    by_cases e : k = U.1
    · rw [if_pos e, e, up_eq]
      exact ⟨hv, hR.mono hc⟩
    · rw [if_neg e, up_ne e]
      obtain ⟨b1, b2⟩ := a2 k (by omega)
      exact ⟨b1, b2.mono hc⟩
  · next q =>
    refine ⟨Nat.le_refl 16, fun k hk => ?_⟩
    have hk' : k < 16 := hk
    dsimp only
    by_cases e : k = 15
    · rw [if_pos e, if_pos e]
      exact ⟨hv, hR.mono hc⟩
    · rw [if_neg e, if_neg e]
      obtain ⟨b1, b2⟩ := a2 (k + 1) (by omega)
      exact ⟨b1, b2.mono hc⟩
theorem UOK.mono {U : US} {nr nl c c' : Nat} (h : UOK U nr nl c) (hc : c ≤ c') : UOK U nr nl c' := ⟨h.1, fun k hk => ⟨(h.2 k hk).1, (h.2 k hk).2.mono hc⟩⟩
theorem snR_keep {R u : Nat → Int32} {k : Nat} : snR R (va_cpy R u 5 (136 * k) 136) k = R := by
  funext j
  unfold snR
  by_cases q : 5 ≤ j ∧ j < 5 + 136
  · rw [cpy_in q, cpy_in (by omega)]
    exact congrArg R (by omega)
  · rw [cpy_out q]
theorem MU.rows {R R' u u' so : Nat → Int32} {U : US} (h : MU R u so U) (h16 : U.1 ≤ 16) (h1 : R' 1 = R 1) (h2 : R' 2 = R 2) (hu : ∀ j, j < 2176 → u' j = u j) : MU R' u' so U := fun k hk => by
  obtain ⟨b1, b2⟩ := h k hk
  exact ⟨b1, b2.trans (snR_eqs h1 h2 (fun i hi => hu _ (by omega)))⟩
theorem MU.keep {R u so : Nat → Int32} {U : US} (h : MU R u so U) (h16 : U.1 ≤ 16) {v n' : Int32} {u' so' : Nat → Int32} (hk : UKm R u so U.1 v n' u' so') {R' : Nat → Int32} (h1 : R' 1 = R 1) (h2 : R' 2 = R 2) : MU R' u' so' (keepU U v R) ∧ n' = nI (keepU U v R).1 ∧ ∀ j, 2176 ≤ j → u' j = u j := by
  rcases hk with ⟨q, e1, e2, e3⟩ | ⟨q, e1, e2, e3⟩
  · unfold keepU
    rw [if_pos q]
    refine ⟨fun k hk => ?_, e1, fun j hj => by rw [e2, cpy_out (by omega)]⟩
    have hk' : k < U.1 + 1 := hk
    dsimp only
    by_cases e : k = U.1
    · rw [if_pos e, e3, e, up_eq, up_eq]
      refine ⟨rfl, ?_⟩
      have hh := snR_eqs (R := R) (R' := R') (u := u') (u' := u') (k := U.1) (k' := U.1) h1 h2 (fun _ _ => rfl)
      rw [show snR R u' U.1 = R by rw [e2]; exact snR_keep] at hh
      exact hh
    · rw [if_neg e, e3, up_ne e, up_ne e]
      obtain ⟨b1, b2⟩ := h k (by omega)
      refine ⟨b1, b2.trans (snR_eqs h1 h2 (fun i hi => ?_))⟩
      rw [e2, cpy_out (by omega)]
  · unfold keepU
    rw [if_neg (by omega)]
    refine ⟨fun k hk => ?_, e1, fun j hj => by rw [e2, cpy_out (by omega)]; unfold xsh; rw [if_neg (by omega)]⟩
    have hk' : k < 16 := hk
    dsimp only
    by_cases e : k = 15
    · rw [if_pos e, if_pos e, e3, e, up_eq]
      refine ⟨rfl, ?_⟩
      have hh := snR_eqs (R := R) (R' := R') (u := u') (u' := u') (k := 15) (k' := 15) h1 h2 (fun _ _ => rfl)
      rw [show snR R u' 15 = R by rw [e2]; exact snR_keep] at hh
      exact hh
    · rw [if_neg e, if_neg e, e3, up_ne e]
      obtain ⟨b1, b2⟩ := h (k + 1) (by omega)
      refine ⟨?_, b2.trans (snR_eqs h1 h2 (fun i hi => ?_))⟩
      · unfold xsh
        rw [if_pos (by omega)]
        exact b1
      · rw [e2, cpy_out (by omega)]
        unfold xsh
        rw [if_pos (by omega)]
        exact congrArg u (by omega)
theorem CUr.keep {st : Nat → Nat → Int32} {kd : Nat → Int32} {p : Nat} {U : US} (h : CUr st kd p U) (h16 : U.1 ≤ 16) (hp : p < 16) {R s : Nat → Int32} (hV : VW s R) (v : Int32) {st' : Nat → Nat → Int32} {kd' : Nat → Int32} (hs1 : ∀ i, i < 16 → ¬ i = p → st' i = st i) (hs2 : ∀ j, j < 138 → st' p j = s j) (hk : kd' = up kd p v) : CUr st' kd' ((p + 1) % 16) (keepU U v R) := by
  subst hk
  unfold keepU
  split
  · next q =>
    intro k hk
    have hk' : k < U.1 + 1 := hk
    dsimp only
    have ei : ((p + 1) % 16 + 16 - (U.1 + 1) + k) % 16 = (p + 16 - U.1 + k) % 16 := by omega
    rw [ei]
    by_cases e : k = U.1
    · have e1 : (p + 16 - U.1 + k) % 16 = p := by omega
      rw [if_pos e, e1, e, up_eq, up_eq]
      exact ⟨rfl, hV.eqc hs2⟩
    · have hne : ¬ (p + 16 - U.1 + k) % 16 = p := by omega
      obtain ⟨b1, b2⟩ := h k (by omega)
      rw [if_neg e, up_ne e, up_ne hne, hs1 _ (by omega) hne]
      exact ⟨b1, b2⟩
  · next q =>
    intro k hk
    have hk' : k < 16 := hk
    dsimp only
    have e16 : U.1 = 16 := by omega
    have ei : ((p + 1) % 16 + 16 - 16 + k) % 16 = (p + 1 + k) % 16 := by omega
    rw [ei]
    by_cases e : k = 15
    · have e1 : (p + 1 + k) % 16 = p := by omega
      rw [if_pos e, if_pos e, e1, up_eq]
      exact ⟨rfl, hV.eqc hs2⟩
    · have hne : ¬ (p + 1 + k) % 16 = p := by omega
      obtain ⟨b1, b2⟩ := h (k + 1) (by omega)
      have e3 : (p + 16 - U.1 + (k + 1)) % 16 = (p + 1 + k) % 16 := by omega
      rw [e3] at b1 b2
      rw [if_neg e, if_neg e, up_ne hne, hs1 _ (by omega) hne]
      exact ⟨b1, b2⟩
/-- the words of orders -/
def owE (R : Nat → Int32) (done : Nat) (paid : Int32) : Nat → Int64 := fun w => if w < 5 then (if w = 0 then R 5 else if w = 1 then R 2 else if w = 2 then R 8 else if w = 3 then nI done else paid).toInt64 else if w < 13 then (if nI (w - 5) < R 1 then (R (9 + 6 * (w - 5) + 2)).toInt64 else -1) else (if nI (w - 13) < R 1 then (R (9 + 6 * (w - 13) + 4)).toInt64 else -1)
/-- a run: rows, how many were run, what was paid, what can be undone -/
abbrev OS := (Nat → Int32) × Nat × Int32 × US
/-- a sum as a letter -/
def oLt (nl : Nat) (f : SF) (e : Nat → Int64) : Option Nat := match f e with
  | none => none
  | some v => if 0 ≤ v ∧ v < Int64.ofNat nl then some v.toInt32.toNatClampNeg else none
section OR
variable (T : Nat → (Nat → Int64) → Option Int64) (hl : Bool) (A B : Nat → Nat) (n nr nl : Nat)
def oHd (one : Nat) (o : Option Nat) (S : OS) : Option OS := if okF T S.1 A B n (whN S.1 one) (tnN S.1 (whN S.1 one)) one o then some (rdR T S.1 (whN S.1 one) one o (lafF T hl (hdF S.1 (whN S.1 one) one o)), S.2.1 + 1, rdP T S.1 (whN S.1 one) one o (lafF T hl (hdF S.1 (whN S.1 one) one o)), keepU S.2.2.2 0 S.1) else none
def oAct (cl : CLd) (S : OS) : Option OS := if cl.1 = 6 then (if S.1 5 = 999 then none else some (gdF T S.1 nr, S.2.1 + 1, S.2.2.1, keepU S.2.2.2 2 S.1)) else match oLt nl cl.2.1 (owE S.1 S.2.1 S.2.2.1) with
  | none => none
  | some one => match cl.2.2.1 with
    | none => oHd T hl A B n one none S
    | some f => match oLt nl f (owE S.1 S.2.1 S.2.2.1) with
      | none => none
      | some k => oHd T hl A B n one (some k) S
def oOne (cl : CLd) (S : OS) : Option OS := if cl.2.2.2.2 (owE S.1 S.2.1 S.2.2.1) = some 1 then oAct T hl A B n nr nl cl S else some S
def oTms (cl : CLd) : Nat → OS → Option OS
  | 0, S => some S
  | t + 1, S => match oOne T hl A B n nr nl cl S with
    | none => none
    | some S' => oTms cl t S'
def oGo (L : List CLd) : Nat → Nat → OS → Except Nat OS
  | 0, _, S => .ok S
  | m + 1, k, S => match oTms T hl A B n nr nl (L.getD k clD) (L.getD k clD).2.2.2.1 S with
    | none => .error k
    | some S' => oGo L m (k + 1) S'
end OR
/-- a run is as it must be -/
def OI (R0 : Nat → Int32) (nr nl c : Nat) (S : OS) : Prop := RW S.1 nr nl (c + S.2.1) ∧ Hi R0 S.1 ∧ UOK S.2.2.2 nr nl (c + S.2.1) ∧ (S.2.2.1 = -1 ∨ In S.2.2.1 999)
theorem oHd_OI {T : Nat → (Nat → Int64) → Option Int64} {hl : Bool} {A B : Nat → Nat} {n nr nl c : Nat} {R0 : Nat → Int32} {one : Nat} {o : Option Nat} {S S' : OS} (h : OI R0 nr nl c S) (hc : c + S.2.1 ≤ 500000) (h1 : one < nl) (h2 : ∀ k, o = some k → k < nl) (e : oHd T hl A B n one o S = some S') : OI R0 nr nl c S' ∧ S'.2.1 = S.2.1 + 1 := by
  obtain ⟨a1, a2, a3, a4⟩ := h
  obtain ⟨w, w1, w2, w3⟩ := a1.hc hc h1 h2
  have ew : whN S.1 one = w := by unfold whN; rw [w2]; exact nI_clamp (by have := a1.2.1; omega)
  unfold oHd at e
  rw [ew] at e
  split at e
  · cases e
    have n8 := a1.2.1
    have n12 := a1.2.2.2.1
    refine ⟨⟨?_, ?_, ?_, Or.inr ?_⟩, rfl⟩
    · exact a1.rd w1 h1 h2 w3.2.2.2.2.2
    · exact a2.trans (Hi.re (by omega) (by omega) (fun k hk => by have := h2 k hk; omega))
    · exact a3.keep a1 (Or.inl rfl) (by show c + S.2.1 ≤ c + (S.2.1 + 1); omega)
    · exact a1.wep w1 w3.2.2.2.2.2
  · cases e
theorem oLt_lt {nl : Nat} (hnl : nl ≤ 12) {f : SF} {e : Nat → Int64} {k : Nat} (h : oLt nl f e = some k) : k < nl ∧ f e = some (Int64.ofNat k) := by
  unfold oLt at h
  cases hf : f e with
  | none => rw [hf] at h; cases h
  | some v =>
    rw [hf] at h
    dsimp only at h
    split at h
    · next q =>
      cases h
      have i0 : (0 : Int64).toInt = 0 := by decide
      have i1 : (Int64.ofNat nl).toInt = nl := by rw [← nI_64 (by omega), Int32.toInt_toInt64, nI_toInt (by omega)]
      have q1 : 0 ≤ v.toInt := by have := Int64.le_iff_toInt_le.mp q.1; rw [i0] at this; exact this
      have q2 : v.toInt < nl := by have := Int64.lt_iff_toInt_lt.mp q.2; rw [i1] at this; exact this
      obtain ⟨k, hk⟩ : ∃ k : Nat, v.toInt = k := ⟨v.toInt.toNat, by omega⟩
      have ev : v = Int64.ofNat k := by
        apply Int64.toInt_inj.mp
        rw [hk, ← nI_64 (by omega), Int32.toInt_toInt64, nI_toInt (by omega)]
      rw [ev, lN_32 (by omega), nI_clamp (by omega)]
      exact ⟨by omega, rfl⟩
    · cases h
theorem oOne_OI {T : Nat → (Nat → Int64) → Option Int64} {hl : Bool} {A B : Nat → Nat} {n nr nl c : Nat} {R0 : Nat → Int32} {cl : CLd} {S S' : OS} (h : OI R0 nr nl c S) (hc : c + S.2.1 ≤ 500000) (e : oOne T hl A B n nr nl cl S = some S') : OI R0 nr nl c S' ∧ S.2.1 ≤ S'.2.1 ∧ S'.2.1 ≤ S.2.1 + 1 := by
  have n12 := h.1.2.2.2.1
  have n8 := h.1.2.1
  unfold oOne at e
  split at e
  · unfold oAct at e
    split at e
    · split at e
      · cases e
      · cases e
        obtain ⟨a1, a2, a3, a4⟩ := h
        exact ⟨⟨a1.gd.mono (by show c + S.2.1 ≤ c + (S.2.1 + 1); omega), a2.trans (Hi.gd n8), a3.keep a1 (Or.inr (Or.inr rfl)) (by show c + S.2.1 ≤ c + (S.2.1 + 1); omega), a4⟩, by show S.2.1 ≤ S.2.1 + 1; omega, Nat.le_refl _⟩
    · cases h1 : oLt nl cl.2.1 (owE S.1 S.2.1 S.2.2.1) with
      | none => rw [h1] at e; cases e
      | some one =>
        rw [h1] at e
        dsimp only at e
        have l1 := (oLt_lt n12 h1).1
        cases hw : cl.2.2.1 with
        | none =>
          rw [hw] at e
          have := oHd_OI h hc l1 (fun k hk => by cases hk) e
          exact ⟨this.1, by omega, by omega⟩
        | some f =>
          rw [hw] at e
          dsimp only at e
          cases h2 : oLt nl f (owE S.1 S.2.1 S.2.2.1) with
          | none => rw [h2] at e; cases e
          | some k =>
            rw [h2] at e
            have l2 := (oLt_lt n12 h2).1
            have := oHd_OI h hc l1 (fun k' hk => by cases hk; exact l2) e
            exact ⟨this.1, by omega, by omega⟩
  · cases e
    exact ⟨h, Nat.le_refl _, by omega⟩
