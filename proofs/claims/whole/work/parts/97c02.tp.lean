theorem mst_ext {I : Nat → Nat × Nat} {e e' : Nat → Int64} {k : Nat} {st : List Int64} (h : (I k).1 = 1 → e (I k).2 = e' (I k).2) : mst I e k st = mst I e' k st := by
  unfold mst
  by_cases q : (I k).1 = 1
  · rw [h q]
  · rw [if_neg q, if_neg q]
theorem mrF_ext {I : Nat → Nat × Nat} {e e' : Nat → Int64} {lim : Nat} (h : ∀ k, k < lim → (I k).1 = 1 → e (I k).2 = e' (I k).2) : ∀ (n k : Nat) (st : List Int64), mrF I e lim n k st = mrF I e' lim n k st
  | 0, _, _ => rfl
  | n + 1, k, st => by
    rw [mrF, mrF]
    by_cases hk : k < lim
    · rw [if_pos hk, if_pos hk, mst_ext (h k hk)]
      cases mst I e' k st with
      | none => rfl
      | some y =>
        cases y with
        | none => rfl
        | some x => exact mrF_ext h n x.1 x.2
    · rw [if_neg hk, if_neg hk]
/-- what is worked out goes by the words that stand in the code -/
theorem Sem.loc {I : Nat → Nat × Nat} {p q h n : Nat} {f : SF} (hS : Sem I p q h f) (hh : h < 64) (hF : FW I q) (hw : ∀ k, k < q → (I k).1 = 1 → (I k).2 < n) {e e' : Nat → Int64} (he : ∀ w, w < n → e w = e' w) : f e = f e' := by
  have h1 := hS e q [] (Nat.le_refl _) hF (by simpa using hh)
  have h2 := hS e' q [] (Nat.le_refl _) hF (by simpa using hh)
  have h3 : mr I e q p [] = mr I e' q p [] := mrF_ext (fun k hk hj => he _ (hw k hk hj)) _ _ _
  have hq : ∀ (e : Nat → Int64) st, mr I e q q st = some (some st) := fun e st => by
    unfold mr
    rw [Nat.sub_self]
    rfl
  rw [h1, h2] at h3
  cases hf : f e with
  | none =>
    rw [hf] at h3
    cases hf' : f e' with
    | none => rfl
    | some v =>
      rw [hf'] at h3
      dsimp only at h3
      rw [hq] at h3
      injection h3 with h3
      cases h3
  | some v =>
    rw [hf] at h3
    cases hf' : f e' with
    | none =>
      rw [hf'] at h3
      dsimp only at h3
      rw [hq] at h3
      injection h3 with h3
      cases h3
    | some v' =>
      rw [hf'] at h3
      dsimp only at h3
      rw [hq, hq] at h3
      injection h3 with h3
      injection h3 with h3
      injection h3 with h3
      rw [h3]
theorem MI_w {op arg : Int32} {x : Nat × Nat} (h : MI false op arg x) (h1 : x.1 = 1) : x.2 < 10 := by
  rcases h with ⟨_, z, _⟩ | ⟨w, z, _, rfl⟩ | ⟨z, _⟩ | ⟨z, _⟩ | ⟨z, _⟩ | ⟨z, _⟩ | ⟨z, _⟩ | ⟨z, _⟩
  · omega
  · exact z
  · cases z
  · cases z
  · omega
  · omega
  · omega
  · omega
theorem ClM.loc {R : Nat → Int32} {I : Nat → Nat × Nat} {lim k kd : Nat} {sm ts : SF} (h : ClM R I lim k kd sm ts) (hF : FW I lim) (hw : ∀ k, k < lim → (I k).1 = 1 → (I k).2 < 10) {e e' : Nat → Int64} (he : ∀ w, w < 10 → e w = e' w) : clF sm ts e = clF sm ts e' := by
  obtain ⟨c1, c2, ⟨p, q, d1, d2, d3, d4, d5, d6⟩, c3, c4, c5⟩ := h
  have ht : ts e = ts e' := by
    rcases Nat.lt_or_ge p q with z | z
    · obtain ⟨hh, h1, h2⟩ := d5 z
      exact h2.loc h1 (hF.le d3) (fun k hk => hw k (by omega)) he
    · have e0 : p = q := by omega
      rw [d6 e0, d6 e0]
  have hs : sm e = sm e' := by
    rcases Nat.lt_or_ge kd 3 with z | z
    · obtain ⟨p', q', g1, g2, g3, g4, g5⟩ := c3 z
      obtain ⟨hh, h1, h2⟩ := g5
      exact h2.loc h1 (hF.le g3) (fun k hk => hw k (by omega)) he
    · rw [c4 z, c4 z]
  unfold clF
  rw [ht, hs]
theorem tdF_loc {n : Nat} {kd : Nat → Nat} {sm ts : Nat → SF} {head : Nat} {e e' : Nat → Int64} (h : ∀ c, c < n → clF (sm c) (ts c) e = clF (sm c) (ts c) e') : tdF kd sm ts head e n = tdF kd sm ts head e' n := by
  induction n with
  | zero => rfl
  | succ n ih =>
    rw [tdF, tdF, h n (by omega), ih (fun c hc => h c (by omega))]
theorem tdF_all {P : Int64 → Prop} {n : Nat} {kd : Nat → Nat} {sm ts : Nat → SF} {head : Nat} {e : Nat → Int64} (h : ∀ c v, c < n → kd c = head → clF (sm c) (ts c) e = some v → P v) {v : Int64} (hv : tdF kd sm ts head e n = some v) : P v := by
  induction n with
  | zero => cases hv
  | succ n ih =>
    rw [tdF] at hv
    split at hv
    · next q =>
      cases hc : clF (sm n) (ts n) e with
      | some u =>
        rw [hc] at hv
        injection hv with hv
        rw [← hv]
        exact h n u (by omega) q hc
      | none =>
        rw [hc] at hv
        exact ih (fun c v hc => h c v (by omega)) hv
    · exact ih (fun c v hc => h c v (by omega)) hv
theorem LawM.tp {R : Nat → Int32} {lw n : Nat} {kd : Nat → Nat} {sm ts : Nat → SF} (h : LawM R lw n kd sm ts) (hB : ∀ c, c < n → VB 10 (sm c)) : TP (fun h e => tdF kd sm ts h e n) := by
  obtain ⟨l1, l2, I, lim, l3, l4, l5, l6⟩ := h
  refine ⟨fun h e e' he => tdF_loc (fun c hc => (l6 c hc).loc l4 (fun k hk hj => MI_w (l5 k hk) hj) he), fun h e v h3 hv => ?_, fun h e v he hv => ?_⟩
  · refine tdF_all (P := fun v => v = 1) (fun c u hc hk hu => ?_) hv
    obtain ⟨c1, c2, c3, c4, c5, c6⟩ := l6 c hc
    unfold clF at hu
    split at hu
    · rw [c5 (by omega)] at hu
      injection hu with hu
      exact hu.symm
    · cases hu
  · refine tdF_all (P := fun v => -BIG ≤ v ∧ v ≤ BIG) (fun c u hc hk hu => ?_) hv
    unfold clF at hu
    split at hu
    · exact hB c hc e u he hu
    · cases hu
/-- what the law in force tells -/
def TW (W : WDt) : Nat → (Nat → Int64) → Option Int64 := if W.1 4 = -1 then fun _ _ => none else fun h e => tdF (W.2 (W.1 4).toNatClampNeg).2.1 (W.2 (W.1 4).toNatClampNeg).2.2.1 (W.2 (W.1 4).toNatClampNeg).2.2.2 h e (W.2 (W.1 4).toNatClampNeg).1
def lW (W : WDt) : Bool := if W.1 4 = -1 then false else hsF (W.2 (W.1 4).toNatClampNeg).2.1 3 (W.2 (W.1 4).toNatClampNeg).1
theorem VWd.tp {W : WDt} {nr nl n m : Nat} {A B : Nat → Nat} {c : Nat} (h : VWd W nr nl n m A B c) : TP (TW W) := by
  obtain ⟨_, _, h6, _, hl, hf⟩ := h
  unfold TW
  rcases hf with z | ⟨f, f1, f2⟩
  · rw [if_pos z]
    exact ⟨fun _ _ _ _ => rfl, fun _ _ _ _ h => (by cases h), fun _ _ _ _ h => by cases h⟩
  · rw [if_neg (by rw [f2]; exact nI_ne (by omega)), f2, nI_clamp (by omega)]
    exact (hl f f1).1.tp (hl f f1).2
theorem VWd.ml {W : WDt} {nr nl n m : Nat} {A B : Nat → Nat} {c : Nat} (h : VWd W nr nl n m A B c) : ML W.1 (TW W) (lW W) := by
  obtain ⟨_, _, h6, _, hl, hf⟩ := h
  unfold TW lW
  rcases hf with z | ⟨f, f1, f2⟩
  · rw [if_pos z, if_pos z]
    exact Or.inl ⟨z, fun _ _ => rfl, rfl⟩
  · rw [if_neg (by rw [f2]; exact nI_ne (by omega)), if_neg (by rw [f2]; exact nI_ne (by omega)), f2, nI_clamp (by omega)]
    exact Or.inr ⟨f, _, _, _, _, by omega, f2, (hl f f1).1, fun _ _ => rfl, rfl⟩
theorem MPx.mx {G : XH} {X : XDt} (h : MPx G X) {nr nl n m : Nat} {A B : Nat → Nat} {c : Nat} (hV : VWd X.1 nr nl n m A B c) : MX G X.1.1 (TW X.1) (lW X.1) := ⟨h.1.1, h.1.2.2, h.2.1, hV.ml, hV.tp⟩
theorem CPx.cx {G : XH} {X : XDt} (h : CPx G X) {nr nl n m : Nat} {A B : Nat → Nat} {c : Nat} (hV : VWd X.1 nr nl n m A B c) : CX G 2 X.1.1 (TW X.1) (lW X.1) := by
  obtain ⟨⟨a1, a2, a3⟩, ⟨b1, b2, b3, b4, b5, b6, b7, b8⟩, _⟩ := h
  refine ⟨a1, ⟨by simp only [a1.all], by simp only [a1.all], Or.inl rfl⟩, b1, ?_, hV.tp⟩
  obtain ⟨_, _, h6, h3, hl, hf⟩ := hV
  unfold TW lW
  rcases hf with z | ⟨f, f1, f2⟩
  · rw [if_pos z, if_pos z]
    exact ⟨none, Or.inl ⟨by rw [← z]; exact b6, rfl⟩, Or.inl ⟨rfl, fun _ _ => rfl, rfl⟩⟩
  · rw [if_neg (by rw [f2]; exact nI_ne (by omega)), if_neg (by rw [f2]; exact nI_ne (by omega)), f2, nI_clamp (by omega)]
    obtain ⟨t, t1, t2⟩ := b7 f (by rw [h3, nI_clamp (by omega)]; exact f1)
    exact ⟨some t, Or.inr ⟨f, m, t, f1, h6, by rw [b6, f2], by rw [b5, h3], t1, rfl⟩, Or.inr ⟨t, _, _, _, _, rfl, t2.law, fun _ _ => rfl, rfl⟩⟩
theorem CPx.crd {G : XH} {X : XDt} (h : CPx G X) {nr nl n m : Nat} {A B : Nat → Nat} {c : Nat} (hV : VWd X.1 nr nl n m A B c) : CRd G n A B := by
  obtain ⟨_, ⟨b1, b2, b3, b4, _⟩, _⟩ := h
  obtain ⟨_, ⟨r1, r2, r3⟩, _⟩ := hV
  refine ⟨r1, b4.trans r2, fun j hj => ?_⟩
  obtain ⟨z1, z2⟩ := b2 j (by rw [r2, nI_clamp (by omega)]; exact hj)
  obtain ⟨y1, y2, y3, y4, y5⟩ := r3 j hj
  exact ⟨y1, y2, by rw [← y4]; exact z1, by rw [← y5]; exact z2⟩
