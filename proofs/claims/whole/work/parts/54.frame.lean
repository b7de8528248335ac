/-- the heap but for what may be written -/
def Fr (W : Nat → Nat → Bool) (G G' : XH) : Prop := G'.1 = G.1 ∧ G'.2.1 = G.2.1 ∧ G'.2.2.2.2 = G.2.2.2.2 ∧ (∀ a k, W a k = false → hpI G' a k = hpI G a k) ∧ (∀ a k, W a k = false → hpL G' a k = hpL G a k)
theorem Fr.refl {W : Nat → Nat → Bool} {G : XH} : Fr W G G := ⟨rfl, rfl, rfl, fun _ _ _ => rfl, fun _ _ _ => rfl⟩
theorem Fr.trans {W : Nat → Nat → Bool} {G G' G'' : XH} (h : Fr W G G') (g : Fr W G' G'') : Fr W G G'' := ⟨g.1.trans h.1, g.2.1.trans h.2.1, g.2.2.1.trans h.2.2.1, fun a k q => (g.2.2.2.1 a k q).trans (h.2.2.2.1 a k q), fun a k q => (g.2.2.2.2 a k q).trans (h.2.2.2.2 a k q)⟩
theorem Fr.mono {W W' : Nat → Nat → Bool} {G G' : XH} (h : Fr W G G') (hw : ∀ a k, W' a k = false → W a k = false) : Fr W' G G' := ⟨h.1, h.2.1, h.2.2.1, fun a k q => h.2.2.2.1 a k (hw a k q), fun a k q => h.2.2.2.2 a k (hw a k q)⟩
theorem Fr.C {W : Nat → Nat → Bool} {G G' : XH} (h : Fr W G G') : hpC G' = hpC G := h.1
theorem Fr.N {W : Nat → Nat → Bool} {G G' : XH} (h : Fr W G G') : hpN G' = hpN G := h.2.1
theorem Fr.R {W : Nat → Nat → Bool} {G G' : XH} (h : Fr W G G') : hpR G' = hpR G := congrArg (fun x => x.1) h.2.2.1
theorem Fr.Z {W : Nat → Nat → Bool} {G G' : XH} (h : Fr W G G') : hpZ G' = hpZ G := congrArg (fun x => x.2.1) h.2.2.1
theorem Fr.I {W : Nat → Nat → Bool} {G G' : XH} (h : Fr W G G') {a k : Nat} (hw : W a k = false) : hpI G' a k = hpI G a k := h.2.2.2.1 a k hw
theorem Fr.L {W : Nat → Nat → Bool} {G G' : XH} (h : Fr W G G') {a k : Nat} (hw : W a k = false) : hpL G' a k = hpL G a k := h.2.2.2.2 a k hw
theorem Fr.IA {W : Nat → Nat → Bool} {G G' : XH} (h : Fr W G G') (a : Nat) (hw : ∀ k, W a k = false) : hpI G' a = hpI G a := funext fun k => h.2.2.2.1 a k (hw k)
theorem Fr.LA {W : Nat → Nat → Bool} {G G' : XH} (h : Fr W G G') (a : Nat) (hw : ∀ k, W a k = false) : hpL G' a = hpL G a := funext fun k => h.2.2.2.2 a k (hw k)
theorem Fr.ms {W : Nat → Nat → Bool} {G G' : XH} (h : Fr W G G') (hM : MS G) : MS G' := by
  unfold MS at hM ⊢
  rw [h.C, h.N, h.R]
  exact hM
theorem Fr.cs {W : Nat → Nat → Bool} {G G' : XH} (h : Fr W G G') (hM : CS G) : CS G' := by
  unfold CS at hM ⊢
  rw [h.C, h.N, h.R]
  exact hM
theorem Fr.wI {W : Nat → Nat → Bool} {G G' : XH} (h : Fr W G G') {a k : Nat} {v : Int32} (hw : W a k = true) : Fr W G (stI G' a k v) := by
  refine ⟨h.1, h.2.1, h.2.2.1, fun b j q => ?_, h.2.2.2.2⟩
  have : ¬ (b = a ∧ j = k) := by
    rintro ⟨rfl, rfl⟩
    rw [hw] at q
    cases q
  show up2 G'.2.2.1 a k v b j = _
  unfold up2
  by_cases h1 : b = a
  · rw [if_pos h1, if_neg (fun g => this ⟨h1, g⟩)]
    exact h.I q
  · rw [if_neg h1]
    exact h.I q
theorem Fr.wL {W : Nat → Nat → Bool} {G G' : XH} (h : Fr W G G') {a k : Nat} {v : Int64} (hw : W a k = true) : Fr W G (stL G' a k v) := by
  refine ⟨h.1, h.2.1, h.2.2.1, h.2.2.2.1, fun b j q => ?_⟩
  have : ¬ (b = a ∧ j = k) := by
    rintro ⟨rfl, rfl⟩
    rw [hw] at q
    cases q
  show up2 G'.2.2.2.1 a k v b j = _
  unfold up2
  by_cases h1 : b = a
  · rw [if_pos h1, if_neg (fun g => this ⟨h1, g⟩)]
    exact h.L q
  · rw [if_neg h1]
    exact h.L q
theorem Fr.wA {W : Nat → Nat → Bool} {G G' : XH} (h : Fr W G G') {a : Nat} {f : Nat → Int32} (hw : ∀ k, W a k = false → f k = hpI G a k) : Fr W G (stA G' a f) := by
  refine ⟨h.1, h.2.1, h.2.2.1, fun b j q => ?_, h.2.2.2.2⟩
  show up1 G'.2.2.1 a f b j = _
  unfold up1
  by_cases h1 : b = a
  · subst h1
    rw [if_pos rfl]
    exact hw j q
  · rw [if_neg h1]
    exact h.I q
theorem Fr.wM {W : Nat → Nat → Bool} {G G' : XH} (h : Fr W G G') {a : Nat} {f : Nat → Int64} (hw : ∀ k, W a k = true) : Fr W G (stM G' a f) := by
  refine ⟨h.1, h.2.1, h.2.2.1, h.2.2.2.1, fun b j q => ?_⟩
  show up1 G'.2.2.2.1 a f b j = _
  unfold up1
  by_cases h1 : b = a
  · subst h1
    rw [hw] at q
    cases q
  · rw [if_neg h1]
    exact h.L q
/-- what reckoning writes in the model -/
def WE : Nat → Nat → Bool := fun a k => a == 90 || (a == 70 && (k == 38 || k == 39 || k == 40))
def WL : Nat → Nat → Bool := fun a k => a == 90 || (a == 70 && (k == 38 || k == 39 || k == 40 || k == 34))
/-- and what handing writes -/
def WH : Nat → Nat → Bool := fun a k => a == 90 || a == 88 || a == 91 || a == 92 || (a == 70 && (k == 38 || k == 39 || k == 40 || k == 34 || k == 41 || k == 42 || k == 43))
theorem WE_WL (a k : Nat) (h : WL a k = false) : WE a k = false := by
  unfold WL at h
  unfold WE
  simp only [Bool.or_eq_false_iff, Bool.and_eq_false_iff] at h ⊢
  grind
theorem WL_WH (a k : Nat) (h : WH a k = false) : WL a k = false := by
  unfold WH at h
  unfold WL
  simp only [Bool.or_eq_false_iff, Bool.and_eq_false_iff] at h ⊢
  grind
theorem raQ_Fr {od : Bool} {G : XH} {f : (Nat → Int64) → Option Int64} {r : XR} (h : raQ od G f r) : r.1 = none ∧ Fr WE G r.2 ∧ (f (menv od G) = none → hpI r.2 70 38 = 1) ∧ (∀ x, f (menv od G) = some x → hpI r.2 70 38 = 0 ∧ hpL r.2 70 39 = x) := by
  obtain ⟨h1, R, b, v, h2, h3⟩ := h
  refine ⟨h1, ?_, ?_, ?_⟩
  · rw [h2]
    unfold evG
    exact ((Fr.refl.wM (fun _ => rfl)).wI rfl).wL rfl
  · intro hf
    rw [hf] at h3
    rw [h2]
    exact (ev_b (G := G) (R := R) (b := b)).trans h3
  · intro x hf
    rw [hf] at h3
    rw [h2]
    refine ⟨(ev_b (G := G) (R := R) (b := b)).trans h3.1, ?_⟩
    rw [← h3.2]
    simp only [stI_C, stI_N, stI_Z, stI_S, stI_L, stI_R, stL_C, stL_N, stL_Z, stL_S, stL_I, stL_R, stR_C, stR_N, stR_Z, stR_S, stR_I, stR_L, stA_C, stA_N, stA_Z, stA_S, stA_L, stA_R, stI_I, stL_L, stR_R, stA_I, stN_C, stN_N, stN_Z, stN_S, stN_I, stN_L, stN_R, stI_ne, stL_ne, stR_ne, List.getElem?_cons_zero, List.getElem?_cons_succ, List.set_cons_zero, List.set_cons_succ, List.length_cons, List.length_nil, List.map_cons, List.map_nil, List.sum_cons, List.sum_nil, List.nil_append, List.cons_append, Option.toList_some, Option.toList_none, Value.category, xok, va_rf, true_and, and_true, and_self, Nat.reduceAdd, Nat.reduceLT, Nat.reduceLeDiff, Nat.reduceEqDiff, Nat.reduceMul, beq_self_eq_true, decide_true, ite_true, ite_false, if_true, if_false, reduceIte, Bool.true_eq_false, Bool.false_eq_true, eq_self_iff_true, Nat.zero_le, not_true_eq_false, not_false_eq_true, forall_const, false_implies, implies_true, forall_false]
theorem ne10 : ((1 : Int32) = 0) = False := by decide
theorem ne10L : ((1 : Int64) = 0) = False := by decide
theorem ne01 : ((0 : Int32) = 1) = False := by decide
theorem ne01L : ((0 : Int64) = 1) = False := by decide
theorem tt_imp {p : Prop} : (True → p) = p := by simp
theorem nt_imp {p : Prop} : (¬ True → p) = True := by simp
theorem ff_imp {p : Prop} : (False → p) = True := by simp
theorem nf_imp {p : Prop} : (¬ False → p) = p := by simp
