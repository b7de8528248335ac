theorem Fr.wR {W : Nat → Nat → Bool} {G G' : XH} (h : Fr W G G') (a k : Nat) (o : Option Nat) : Fr W (stR G a k o) (stR G' a k o) := by
  refine ⟨h.1, h.2.1, ?_, h.2.2.2.1, h.2.2.2.2⟩
  show (up2 G'.2.2.2.2.1 a k o, G'.2.2.2.2.2) = (up2 G.2.2.2.2.1 a k o, G.2.2.2.2.2)
  rw [h.2.2.1]
theorem stR_stR {G : XH} {a k : Nat} {o o' : Option Nat} : stR (stR G a k o) a k o' = stR G a k o' := by
  unfold stR
  have : up2 (up2 G.2.2.2.2.1 a k o) a k o' = up2 G.2.2.2.2.1 a k o' := by
    funext x y
    unfold up2
    by_cases h1 : x = a
    · by_cases h2 : y = k <;> simp [h1, h2]
    · simp [h1]
  simp only [this]
theorem stR_same {G : XH} {a k : Nat} : stR G a k (hpR G a k) = G := by
  unfold stR
  have : up2 G.2.2.2.2.1 a k (hpR G a k) = G.2.2.2.2.1 := by
    funext x y
    unfold up2
    by_cases h1 : x = a
    · by_cases h2 : y = k
      · subst h1 h2
        simp only [if_true]
      · simp [h1, h2]
    · simp [h1]
  rw [this]
/-- the heap but for what may be written, and the heart's law -/
def FC (W : Nat → Nat → Bool) (G G' : XH) : Prop := ∃ o, Fr W (stR G 53 2 o) G'
theorem Fr.fc {W : Nat → Nat → Bool} {G G' : XH} (h : Fr W G G') : FC W G G' := ⟨hpR G 53 2, by rw [stR_same]; exact h⟩
theorem FC.refl {W : Nat → Nat → Bool} {G : XH} : FC W G G := Fr.refl.fc
theorem FC.trans {W : Nat → Nat → Bool} {G G' G'' : XH} (h : FC W G G') (g : FC W G' G'') : FC W G G'' := by
  obtain ⟨o, h⟩ := h
  obtain ⟨o', g⟩ := g
  refine ⟨o', Fr.trans ?_ g⟩
  have := h.wR 53 2 o'
  rw [stR_stR] at this
  exact this
theorem FC.mono {W W' : Nat → Nat → Bool} {G G' : XH} (h : FC W G G') (hw : ∀ a k, W' a k = false → W a k = false) : FC W' G G' := by
  obtain ⟨o, h⟩ := h
  exact ⟨o, h.mono hw⟩
theorem FC.C {W : Nat → Nat → Bool} {G G' : XH} (h : FC W G G') : hpC G' = hpC G := by
  obtain ⟨o, h⟩ := h
  exact h.C
theorem FC.N {W : Nat → Nat → Bool} {G G' : XH} (h : FC W G G') : hpN G' = hpN G := by
  obtain ⟨o, h⟩ := h
  exact h.N
theorem FC.I {W : Nat → Nat → Bool} {G G' : XH} (h : FC W G G') {a k : Nat} (hw : W a k = false) : hpI G' a k = hpI G a k := by
  obtain ⟨o, h⟩ := h
  exact h.I hw
theorem FC.L {W : Nat → Nat → Bool} {G G' : XH} (h : FC W G G') {a k : Nat} (hw : W a k = false) : hpL G' a k = hpL G a k := by
  obtain ⟨o, h⟩ := h
  exact h.L hw
theorem FC.IA {W : Nat → Nat → Bool} {G G' : XH} (h : FC W G G') (a : Nat) (hw : ∀ k, W a k = false) : hpI G' a = hpI G a := funext fun k => h.I (hw k)
theorem FC.R {W : Nat → Nat → Bool} {G G' : XH} (h : FC W G G') {a k : Nat} (hw : ¬ a = 53 ∨ ¬ k = 2) : hpR G' a k = hpR G a k := by
  obtain ⟨o, h⟩ := h
  rw [h.R]
  show up2 G.2.2.2.2.1 53 2 o a k = _
  unfold up2
  by_cases h1 : a = 53
  · rw [if_pos h1, if_neg (hw.resolve_left (fun q => q h1))]
  · rw [if_neg h1]
theorem CS_ru {G : XH} {o : Option Nat} : CS (stR G 53 2 o) ↔ CS G := ⟨fun h => h, fun h => h⟩
theorem MS_ru {G : XH} {o : Option Nat} : MS (stR G 53 2 o) ↔ MS G := ⟨fun h => h, fun h => h⟩
theorem FC.cs {W : Nat → Nat → Bool} {G G' : XH} (h : FC W G G') (hC : CS G) : CS G' := by
  obtain ⟨o, h⟩ := h
  exact h.cs (CS_ru.mpr hC)
theorem FC.ms {W : Nat → Nat → Bool} {G G' : XH} (h : FC W G G') (hC : MS G) : MS G' := by
  obtain ⟨o, h⟩ := h
  exact h.ms (MS_ru.mpr hC)
theorem c_min (a b : Int32) (G : XH) (Q : XR → Prop) : SP D_Math_min [.int a, .int b] G Q = Q (some (.int (if a ≤ b then a else b)), G) := by
  rw [e_Math_min]
  simp only [k_Math_min_10, k_Math_min_0, w_iadd, w_isub, w_imul, w_iand, w_ior, w_ixor, w_ishl, w_ishr, w_iushr, w_idiv, w_irem, w_ineg, w_ladd, w_lsub, w_lmul, w_ldiv, w_lrem, w_i2l, w_l2i, w_i2c, w_lcmp, w_dup_int, w_pop_int, w_dup_ref, w_pop_ref, w_dup_retAddr, w_pop_retAddr, w_dup2, w_I, w_L, w_Null, w_Ild, w_Lld, w_Ald, w_Ist, w_Lst, w_Ast, w_Iinc, w_if_eq, w_icmp_eq, w_if_ne, w_icmp_ne, w_if_lt, w_icmp_lt, w_if_ge, w_icmp_ge, w_if_gt, w_icmp_gt, w_if_le, w_icmp_le, w_GetI, w_GetL, w_GetR, w_PutI, w_PutZ, w_PutL, w_PutR, w_PutN, w_Iald, w_Zald, w_Lald, w_Aald, w_Iast, w_Zast, w_Last, w_AastR, w_AastN, w_Alen, w_New, w_NewA, w_Mna, w_Iret, w_Zret, w_Cret, w_Bret, w_Lret, w_AretR, w_AretN, w_Vret, w_Obj, w_IfNN, w_IfNR, w_Copy, w_Cln, w_Cast, w_SfA, w_SfI, w_SfQ, w_Str, w_ScLd, w_ScLen, w_CV0, w_CS0, w_CV1, w_CS1, w_CV2, w_CS2, w_CV3, w_CS3, w_CV4, w_CS4, w_CV5, w_CS5, List.getElem?_cons_zero, List.getElem?_cons_succ, List.set_cons_zero, List.set_cons_succ, List.length_cons, List.length_nil, List.map_cons, List.map_nil, List.sum_cons, List.sum_nil, List.nil_append, List.cons_append, Option.toList_some, Option.toList_none, Value.category, xok, va_rf, true_and, and_true, and_self, Nat.reduceAdd, Nat.reduceLT, Nat.reduceLeDiff, Nat.reduceEqDiff, Nat.reduceMul, beq_self_eq_true, decide_true, ite_true, ite_false, if_true, if_false, reduceIte, Bool.true_eq_false, Bool.false_eq_true, eq_self_iff_true, Nat.zero_le, not_true_eq_false, not_false_eq_true, forall_const, false_implies, implies_true, forall_false]
  by_cases h : a ≤ b
  · have : ¬ b < a := Int32.not_lt.mpr h
    simp [h, this]
  · have : b < a := Int32.not_le.mp h
    simp [h, this]
theorem c_max (a b : Int32) (G : XH) (Q : XR → Prop) : SP D_Math_max [.int a, .int b] G Q = Q (some (.int (if b ≤ a then a else b)), G) := by
  rw [e_Math_max]
  simp only [k_Math_max_10, k_Math_max_0, w_iadd, w_isub, w_imul, w_iand, w_ior, w_ixor, w_ishl, w_ishr, w_iushr, w_idiv, w_irem, w_ineg, w_ladd, w_lsub, w_lmul, w_ldiv, w_lrem, w_i2l, w_l2i, w_i2c, w_lcmp, w_dup_int, w_pop_int, w_dup_ref, w_pop_ref, w_dup_retAddr, w_pop_retAddr, w_dup2, w_I, w_L, w_Null, w_Ild, w_Lld, w_Ald, w_Ist, w_Lst, w_Ast, w_Iinc, w_if_eq, w_icmp_eq, w_if_ne, w_icmp_ne, w_if_lt, w_icmp_lt, w_if_ge, w_icmp_ge, w_if_gt, w_icmp_gt, w_if_le, w_icmp_le, w_GetI, w_GetL, w_GetR, w_PutI, w_PutZ, w_PutL, w_PutR, w_PutN, w_Iald, w_Zald, w_Lald, w_Aald, w_Iast, w_Zast, w_Last, w_AastR, w_AastN, w_Alen, w_New, w_NewA, w_Mna, w_Iret, w_Zret, w_Cret, w_Bret, w_Lret, w_AretR, w_AretN, w_Vret, w_Obj, w_IfNN, w_IfNR, w_Copy, w_Cln, w_Cast, w_SfA, w_SfI, w_SfQ, w_Str, w_ScLd, w_ScLen, w_CV0, w_CS0, w_CV1, w_CS1, w_CV2, w_CS2, w_CV3, w_CS3, w_CV4, w_CS4, w_CV5, w_CS5, List.getElem?_cons_zero, List.getElem?_cons_succ, List.set_cons_zero, List.set_cons_succ, List.length_cons, List.length_nil, List.map_cons, List.map_nil, List.sum_cons, List.sum_nil, List.nil_append, List.cons_append, Option.toList_some, Option.toList_none, Value.category, xok, va_rf, true_and, and_true, and_self, Nat.reduceAdd, Nat.reduceLT, Nat.reduceLeDiff, Nat.reduceEqDiff, Nat.reduceMul, beq_self_eq_true, decide_true, ite_true, ite_false, if_true, if_false, reduceIte, Bool.true_eq_false, Bool.false_eq_true, eq_self_iff_true, Nat.zero_le, not_true_eq_false, not_false_eq_true, forall_const, false_implies, implies_true, forall_false]
  by_cases h : b ≤ a
  · have : ¬ a < b := Int32.not_lt.mpr h
    simp [h, this]
  · have : a < b := Int32.not_le.mp h
    simp [h, this]
/-- a clause of a law in the class's rows -/
def ClC (R : Nat → Int32) (I : Nat → Nat × Nat) (lim c kd : Nat) (sm ts : (Nat → Int64) → Option Int64) : Prop :=
  R (6 * c) = nI kd ∧ kd ≤ 4 ∧
  (∃ p q, R (6 * c + 1) = nI p ∧ R (6 * c + 2) = nI q ∧ q ≤ lim ∧ p ≤ q ∧ (p < q → ∃ h, h < 64 ∧ Sem I p q h sm) ∧ (p = q → ∀ e, sm e = some 1)) ∧
  (∃ p q, R (6 * c + 3) = nI p ∧ R (6 * c + 4) = nI q ∧ q ≤ lim ∧ p ≤ q ∧ (p < q → ∃ h, h < 64 ∧ Sem I p q h ts) ∧ (p = q → ∀ e, ts e = some 1)) ∧
  (∀ e, ts e = none ∨ ts e = some 0 ∨ ts e = some 1) ∧ (∀ e v, (∀ w, w < 10 → -BIG ≤ e w ∧ e w ≤ BIG) → sm e = some v → -BIG ≤ v ∧ v ≤ BIG)
/-- a law of the class -/
def LawC (G : XH) (t n : Nat) (kd : Nat → Nat) (sm ts : Nat → (Nat → Int64) → Option Int64) : Prop := ∃ cd rw lim I, 105 ≤ t ∧ 105 ≤ cd ∧ 105 ≤ rw ∧ TX G t cd rw lim n ∧ n ≤ 12 ∧ FW I lim ∧ (∀ k, k < lim → CI (hpI G cd k) (I k) ∧ ((I k).1 = 1 → (I k).2 < 10) ∧ ((I k).1 = 11 ∨ (I k).1 = 12 → (I k).2 ≤ 400)) ∧ ∀ c, c < n → ClC (hpI G rw) I lim c (kd c) (sm c) (ts c)
/-- the class's law tells T -/
def CL (G : XH) (o : Option Nat) (T : Nat → (Nat → Int64) → Option Int64) (hl : Bool) : Prop := (o = none ∧ (∀ h e, T h e = none) ∧ hl = false) ∨ (∃ t n kd sm ts, o = some t ∧ LawC G t n kd sm ts ∧ (∀ h e, T h e = tdF kd sm ts h e n) ∧ hl = hsF kd 3 n)
/-- writes below the laws -/
def Lo (W : Nat → Nat → Bool) : Prop := ∀ a k, 105 ≤ a → W a k = false
theorem LawC.fc {W : Nat → Nat → Bool} {G G' : XH} {t n : Nat} {kd : Nat → Nat} {sm ts : Nat → (Nat → Int64) → Option Int64} (h : LawC G t n kd sm ts) (hf : FC W G G') (hW : Lo W) : LawC G' t n kd sm ts := by
  obtain ⟨cd, rw', lim, I, a1, a2, a3, ⟨b1, b2, b3, b4, b5, b6, b7, b8, b9, b10, b11⟩, a5, a6, a7, a8⟩ := h
  have i1 : hpI G' t = hpI G t := hf.IA t (fun k => hW t k a1)
  have i2 : hpI G' cd = hpI G cd := hf.IA cd (fun k => hW cd k a2)
  have i3 : hpI G' rw' = hpI G rw' := hf.IA rw' (fun k => hW rw' k a3)
  refine ⟨cd, rw', lim, I, a1, a2, a3, ⟨?_, ?_, ?_, ?_, ?_, ?_, ?_, ?_, ?_, ?_, ?_⟩, a5, a6, ?_, ?_⟩
  · rw [hf.C]; exact b1
  · rw [hf.R (Or.inl (by omega))]; exact b2
  · rw [hf.R (Or.inl (by omega))]; exact b3
  · rw [hf.C]; exact b4
  · rw [hf.C]; exact b5
  · rw [hf.N]; exact b6
  · rw [hf.N]; exact b7
  · rw [hf.N]; exact b8
  · rw [hf.N]; exact b9
  · rw [i1]; exact b10
  · rw [i1]; exact b11
  · rw [i2]; exact a7
  · rw [i3]; exact a8
theorem CL.fc {W : Nat → Nat → Bool} {G G' : XH} {o : Option Nat} {T : Nat → (Nat → Int64) → Option Int64} {hl : Bool} (h : CL G o T hl) (hf : FC W G G') (hW : Lo W) : CL G' o T hl := by
  rcases h with h | ⟨t, n, kd, sm, ts, h1, h2, h3, h4⟩
  · exact Or.inl h
  · exact Or.inr ⟨t, n, kd, sm, ts, h1, h2.fc hf hW, h3, h4⟩
/-- the class is ready to ask -/
def CK (G : XH) (T : Nat → (Nat → Int64) → Option Int64) (hl : Bool) (x : Nat → Int32) : Prop := CS G ∧ CL G (hpR G 53 2) T hl ∧ TP T ∧ (∀ w, w < 10 → hpI G 56 w = x w) ∧ (∀ w, w < 10 → -BIG ≤ (x w).toInt64 ∧ (x w).toInt64 ≤ BIG)
theorem WK_Lo : Lo WK := by
  intro a k h
  unfold WK
  simp only [beq_eq_false_iff_ne]
  omega
theorem CK.fr {G G' : XH} {T : Nat → (Nat → Int64) → Option Int64} {hl : Bool} {x : Nat → Int32} (h : CK G T hl x) (hf : Fr WK G G') : CK G' T hl x := by
  obtain ⟨h1, h2, h3, h4, h5⟩ := h
  refine ⟨hf.cs h1, ?_, h3, ?_, h5⟩
  · rw [hf.R]
    exact h2.fc hf.fc WK_Lo
  · rw [hf.IA 56 (fun _ => rfl)]
    exact h4
