def FARc : Int32 := 100000000
theorem FAR_ne {j : Nat} (h : j ≤ 8) : (nI j = FARc) = False := by
  apply eq_false
  have : ∀ j, j ≤ 8 → ¬ nI j = FARc := by decide +kernel
  exact this j h
theorem nI8 {i j : Nat} (hi : i ≤ 8) (hj : j ≤ 8) : (nI i = nI j) = (i = j) := propext ⟨fun q => (nI_eq (by omega) (by omega)).mp q, fun q => by rw [q]⟩
/-- the first step that leads to a town, of the first k -/
def dN (A B : Nat → Nat) (ct : Nat → Bool) (n k t : Nat) : Option Nat := dsN (fun j => (lvN A B ct n j).testBit t) k
/-- far, in the pass of q + 1, behind r roads -/
def fwF (A B : Nat → Nat) (ct : Nat → Bool) (n q r t : Nat) : Int32 := match dN A B ct n (q + 1) t with
  | some j => nI j
  | none => if (spN A B ct (lvN A B ct n q) r).testBit t then nI (q + 1) else FARc
def fwP (A B : Nat → Nat) (ct : Nat → Bool) (n k t : Nat) : Int32 := match dN A B ct n k t with
  | some j => nI j
  | none => FARc
theorem fw_0 {A B : Nat → Nat} {ct : Nat → Bool} {n q t : Nat} : fwF A B ct n q 0 t = fwP A B ct n (q + 1) t := by
  unfold fwF fwP
  cases h : dN A B ct n (q + 1) t with
  | some j => rfl
  | none =>
    have := dsN_none (q + 1) h q (by omega)
    simp only [spN, this]
    rfl
theorem fw_n {A B : Nat → Nat} {ct : Nat → Bool} {n q t : Nat} : fwF A B ct n q n t = fwP A B ct n (q + 2) t := by
  unfold fwF fwP
  have e : dN A B ct n (q + 2) t = match dN A B ct n (q + 1) t with
      | some j => some j
      | none => if (lvN A B ct n (q + 1)).testBit t then some (q + 1) else none := rfl
  rw [e]
  cases h : dN A B ct n (q + 1) t with
  | some j => rfl
  | none =>
    simp only
    rw [show lvN A B ct n (q + 1) = spN A B ct (lvN A B ct n q) n from rfl]
    split <;> rfl
theorem dN_M {A B : Nat → Nat} {ct : Nat → Bool} {n q t i : Nat} (h : dN A B ct n (q + 1) t = some i) : (lvN A B ct n q).testBit t = true := by
  obtain ⟨h1, h2⟩ := dsN_some (q + 1) h
  have := lvN_mono h2 (q - i)
  rw [show i + (q - i) = q by omega] at this
  exact this
theorem dN_key {A B : Nat → Nat} {ct : Nat → Bool} {n q a b i r : Nat} (hr : r < n) (hct : ct r = false) (hab : (A r = a ∧ B r = b) ∨ (A r = b ∧ B r = a)) (ha : dN A B ct n (q + 1) a = some i) (hb : dN A B ct n (q + 1) b = none) : i = q := by
  obtain ⟨h1, h2⟩ := dsN_some (q + 1) ha
  rcases Nat.lt_or_ge i q with z | z
  · have h3 : (lvN A B ct n (i + 1)).testBit b = true := by
      refine (spN_tb n).mpr (Or.inr ⟨r, hr, hct, ?_, ?_⟩)
      · rcases hab with ⟨e1, e2⟩ | ⟨e1, e2⟩
        · exact Or.inl (by rw [e1]; exact h2)
        · exact Or.inr (by rw [e2]; exact h2)
      · rcases hab with ⟨e1, e2⟩ | ⟨e1, e2⟩
        · exact Or.inr e2
        · exact Or.inl e1
    have := dsN_none (q + 1) hb (i + 1) (by omega)
    simp only [h3] at this
    cases this
  · omega
theorem fw_ne {A B : Nat → Nat} {ct : Nat → Bool} {n q r t : Nat} (h1 : ¬ A r = t) (h2 : ¬ B r = t) : fwF A B ct n q (r + 1) t = fwF A B ct n q r t := by
  unfold fwF
  have : (spN A B ct (lvN A B ct n q) (r + 1)).testBit t = (spN A B ct (lvN A B ct n q) r).testBit t := by
    rw [spN]
    split
    · rw [Nat.testBit_or, Nat.testBit_or, Nat.testBit_two_pow, Nat.testBit_two_pow]
      simp [h1, h2]
    · rfl
  rw [this]
theorem fw_skip {A B : Nat → Nat} {ct : Nat → Bool} {n q r t : Nat} (h : ct r = true) : fwF A B ct n q (r + 1) t = fwF A B ct n q r t := by
  unfold fwF
  have : spN A B ct (lvN A B ct n q) (r + 1) = spN A B ct (lvN A B ct n q) r := by
    rw [spN, if_neg]
    rintro ⟨q, -⟩
    rw [h] at q
    cases q
  rw [this]
/-- one road in a pass -/
theorem fw_step {A B : Nat → Nat} {ct : Nat → Bool} {n q r : Nat} (hr : r < n) (hq : q ≤ 6) (hct : ct r = false) (hab : ¬ A r = B r) {f f1 : Nat → Int32} (hf : ∀ t, t < 8 → f t = fwF A B ct n q r t) (a8 : A r < 8) (b8 : B r < 8) (hf1 : f1 = up f (B r) (if f (A r) = nI q ∧ f (B r) = FARc then nI (q + 1) else f (B r))) : ∀ t, t < 8 → up f1 (A r) (if f1 (B r) = nI q ∧ f1 (A r) = FARc then nI (q + 1) else f1 (A r)) t = fwF A B ct n q (r + 1) t := by
  have fa := hf (A r) a8
  have fb := hf (B r) b8
  have n1 : (nI (q + 1) = nI q) = False := by rw [nI8 (by omega) (by omega)]; simp
  have n2 : (FARc = nI q) = False := by
    apply eq_false
    intro z
    exact (FAR_ne (j := q) (by omega)).mp z.symm
  have n3 : (nI (q + 1) = FARc) = False := FAR_ne (by omega)
  have e1 : f1 (A r) = f (A r) := by rw [hf1, up_ne hab]
  have e2 : f1 (B r) = if f (A r) = nI q ∧ f (B r) = FARc then nI (q + 1) else f (B r) := by rw [hf1, up_eq]
  have hoth : ∀ t, t < 8 → ¬ t = A r → ¬ t = B r → up f1 (A r) (if f1 (B r) = nI q ∧ f1 (A r) = FARc then nI (q + 1) else f1 (A r)) t = fwF A B ct n q (r + 1) t := by
    intro t ht h1 h2
    rw [up_ne h1, hf1, up_ne h2, fw_ne (fun z => h1 z.symm) (fun z => h2 z.symm)]
    exact hf t ht
  suffices hh : (if f1 (B r) = nI q ∧ f1 (A r) = FARc then nI (q + 1) else f1 (A r)) = fwF A B ct n q (r + 1) (A r) ∧ f1 (B r) = fwF A B ct n q (r + 1) (B r) by
    intro t ht
    by_cases h1 : t = A r
    · rw [h1, up_eq]
      exact hh.1
    · by_cases h2 : t = B r
      · rw [h2, up_ne (fun z => hab z.symm)]
        exact hh.2
      · exact hoth t ht h1 h2
  rw [e1, e2, fa, fb]
  unfold fwF
  cases hDa : dN A B ct n (q + 1) (A r) with
  | some i =>
    have hi := dsN_some (q + 1) hDa
    have hMa := dN_M hDa
    cases hDb : dN A B ct n (q + 1) (B r) with
    | some j =>
      have hj := dsN_some (q + 1) hDb
      simp only [FAR_ne (show i ≤ 8 by omega), FAR_ne (show j ≤ 8 by omega), and_false, if_false, List.getElem?_cons_zero, List.getElem?_cons_succ, List.set_cons_zero, List.set_cons_succ, List.length_cons, List.length_nil, List.map_cons, List.map_nil, List.sum_cons, List.sum_nil, List.nil_append, List.cons_append, Option.toList_some, Option.toList_none, Value.category, xok, va_rf, true_and, and_true, and_self, Nat.reduceAdd, Nat.reduceLT, Nat.reduceLeDiff, Nat.reduceEqDiff, Nat.reduceMul, beq_self_eq_true, decide_true, ite_true, ite_false, if_true, if_false, reduceIte, Bool.true_eq_false, Bool.false_eq_true, eq_self_iff_true, Nat.zero_le, not_true_eq_false, not_false_eq_true, forall_const, false_implies, implies_true, forall_false]
    | none =>
      have hiq := dN_key (a := A r) (b := B r) hr hct (Or.inl ⟨rfl, rfl⟩) hDa hDb
      subst hiq
      have hs : (spN A B ct (lvN A B ct n i) (r + 1)).testBit (B r) = true := (spN_tb (r + 1)).mpr (Or.inr ⟨r, by omega, hct, Or.inl hMa, Or.inr rfl⟩)
      simp only [FAR_ne (show i ≤ 8 by omega), and_false, if_false, List.getElem?_cons_zero, List.getElem?_cons_succ, List.set_cons_zero, List.set_cons_succ, List.length_cons, List.length_nil, List.map_cons, List.map_nil, List.sum_cons, List.sum_nil, List.nil_append, List.cons_append, Option.toList_some, Option.toList_none, Value.category, xok, va_rf, true_and, and_true, and_self, Nat.reduceAdd, Nat.reduceLT, Nat.reduceLeDiff, Nat.reduceEqDiff, Nat.reduceMul, beq_self_eq_true, decide_true, ite_true, ite_false, if_true, if_false, reduceIte, Bool.true_eq_false, Bool.false_eq_true, eq_self_iff_true, Nat.zero_le, not_true_eq_false, not_false_eq_true, forall_const, false_implies, implies_true, forall_false, hs]
      cases hsr : (spN A B ct (lvN A B ct n i) r).testBit (B r) <;> simp [n3]
  | none =>
    have hMa := dsN_none (q + 1) hDa q (by omega)
    cases hDb : dN A B ct n (q + 1) (B r) with
    | some j =>
      have hj := dsN_some (q + 1) hDb
      have hMb := dN_M hDb
      have hjq := dN_key (a := B r) (b := A r) hr hct (Or.inr ⟨rfl, rfl⟩) hDb hDa
      subst hjq
      have hs : (spN A B ct (lvN A B ct n j) (r + 1)).testBit (A r) = true := (spN_tb (r + 1)).mpr (Or.inr ⟨r, by omega, hct, Or.inr hMb, Or.inl rfl⟩)
      simp only [FAR_ne (show j ≤ 8 by omega), and_false, if_false, List.getElem?_cons_zero, List.getElem?_cons_succ, List.set_cons_zero, List.set_cons_succ, List.length_cons, List.length_nil, List.map_cons, List.map_nil, List.sum_cons, List.sum_nil, List.nil_append, List.cons_append, Option.toList_some, Option.toList_none, Value.category, xok, va_rf, true_and, and_true, and_self, Nat.reduceAdd, Nat.reduceLT, Nat.reduceLeDiff, Nat.reduceEqDiff, Nat.reduceMul, beq_self_eq_true, decide_true, ite_true, ite_false, if_true, if_false, reduceIte, Bool.true_eq_false, Bool.false_eq_true, eq_self_iff_true, Nat.zero_le, not_true_eq_false, not_false_eq_true, forall_const, false_implies, implies_true, forall_false, hs]
      cases hsr : (spN A B ct (lvN A B ct n j) r).testBit (A r) <;> simp [n3]
    | none =>
      have hMb := dsN_none (q + 1) hDb q (by omega)
      have hs : spN A B ct (lvN A B ct n q) (r + 1) = spN A B ct (lvN A B ct n q) r := by
        rw [spN, if_neg]
        rintro ⟨-, z | z⟩
        · rw [hMa] at z; cases z
        · rw [hMb] at z; cases z
      simp only [hs]
      cases hsa : (spN A B ct (lvN A B ct n q) r).testBit (A r) <;> cases hsb : (spN A B ct (lvN A B ct n q) r).testBit (B r) <;> simp [n1, n2, n3]
/-- the roads of the model -/
def MRd (R : Nat → Int32) (n : Nat) (A B : Nat → Nat) : Prop := n ≤ 12 ∧ R 0 = nI n ∧ ∀ j, j < n → A j < 8 ∧ B j < 8 ∧ ¬ A j = B j ∧ R (141 + 2 * j) = nI (A j) ∧ R (141 + 2 * j + 1) = nI (B j)
theorem s_is (s i : Nat) (hs : s < 2147483648) (hi : i < 32) (G : XH) (Q : XR → Prop) : SP D_Mdl_is [.int (nI s), .int (nI i)] G Q = Q (some (.int (if s.testBit i then 1 else 0)), G) := by
  rw [e_Mdl_is]
  simp only [k_Mdl_is_14, k_Mdl_is_0, w_iadd, w_isub, w_imul, w_iand, w_ior, w_ixor, w_ishl, w_ishr, w_iushr, w_idiv, w_irem, w_ineg, w_ladd, w_lsub, w_lmul, w_ldiv, w_lrem, w_i2l, w_l2i, w_i2c, w_lcmp, w_dup_int, w_pop_int, w_dup_ref, w_pop_ref, w_dup_retAddr, w_pop_retAddr, w_dup2, w_I, w_L, w_Null, w_Ild, w_Lld, w_Ald, w_Ist, w_Lst, w_Ast, w_Iinc, w_if_eq, w_icmp_eq, w_if_ne, w_icmp_ne, w_if_lt, w_icmp_lt, w_if_ge, w_icmp_ge, w_if_gt, w_icmp_gt, w_if_le, w_icmp_le, w_GetI, w_GetL, w_GetR, w_PutI, w_PutZ, w_PutL, w_PutR, w_PutN, w_Iald, w_Zald, w_Lald, w_Aald, w_Iast, w_Zast, w_Last, w_AastR, w_AastN, w_Alen, w_New, w_NewA, w_Mna, w_Iret, w_Zret, w_Cret, w_Bret, w_Lret, w_AretR, w_AretN, w_Vret, w_Obj, w_IfNN, w_IfNR, w_Copy, w_Cln, w_Cast, w_SfA, w_SfI, w_SfQ, w_Str, w_ScLd, w_ScLen, w_CV0, w_CS0, w_CV1, w_CS1, w_CV2, w_CS2, w_CV3, w_CS3, w_CV4, w_CS4, w_CV5, w_CS5, List.getElem?_cons_zero, List.getElem?_cons_succ, List.set_cons_zero, List.set_cons_succ, List.length_cons, List.length_nil, List.map_cons, List.map_nil, List.sum_cons, List.sum_nil, List.nil_append, List.cons_append, Option.toList_some, Option.toList_none, Value.category, xok, va_rf, true_and, and_true, and_self, Nat.reduceAdd, Nat.reduceLT, Nat.reduceLeDiff, Nat.reduceEqDiff, Nat.reduceMul, beq_self_eq_true, decide_true, ite_true, ite_false, if_true, if_false, reduceIte, Bool.true_eq_false, Bool.false_eq_true, eq_self_iff_true, Nat.zero_le, not_true_eq_false, not_false_eq_true, forall_const, false_implies, implies_true, forall_false, nx_b1 hs hi, ite11]
  cases s.testBit i <;> simp
theorem s_findWays {G : XH} (hM : MS G) {n : Nat} {A B : Nat → Nat} (hR : MRd (hpI G 72) n A B) (s : Nat) (hs : s < 4096) : SP D_Mdl_findWays [.ref 70, .int (nI s)] G (fun r => r.1 = none ∧ ∃ f, r.2 = stA G 91 f ∧ ∀ t, t < 8 → f t = fwP A B (fun j => s.testBit j) n 8 t) := by
  obtain ⟨n12, r0, r1⟩ := hR
  rw [e_Mdl_findWays]
  simp only [k_Mdl_findWays_0, w_iadd, w_isub, w_imul, w_iand, w_ior, w_ixor, w_ishl, w_ishr, w_iushr, w_idiv, w_irem, w_ineg, w_ladd, w_lsub, w_lmul, w_ldiv, w_lrem, w_i2l, w_l2i, w_i2c, w_lcmp, w_dup_int, w_pop_int, w_dup_ref, w_pop_ref, w_dup_retAddr, w_pop_retAddr, w_dup2, w_I, w_L, w_Null, w_Ild, w_Lld, w_Ald, w_Ist, w_Lst, w_Ast, w_Iinc, w_if_eq, w_icmp_eq, w_if_ne, w_icmp_ne, w_if_lt, w_icmp_lt, w_if_ge, w_icmp_ge, w_if_gt, w_icmp_gt, w_if_le, w_icmp_le, w_GetI, w_GetL, w_GetR, w_PutI, w_PutZ, w_PutL, w_PutR, w_PutN, w_Iald, w_Zald, w_Lald, w_Aald, w_Iast, w_Zast, w_Last, w_AastR, w_AastN, w_Alen, w_New, w_NewA, w_Mna, w_Iret, w_Zret, w_Cret, w_Bret, w_Lret, w_AretR, w_AretN, w_Vret, w_Obj, w_IfNN, w_IfNR, w_Copy, w_Cln, w_Cast, w_SfA, w_SfI, w_SfQ, w_Str, w_ScLd, w_ScLen, w_CV0, w_CS0, w_CV1, w_CS1, w_CV2, w_CS2, w_CV3, w_CS3, w_CV4, w_CS4, w_CV5, w_CS5, List.getElem?_cons_zero, List.getElem?_cons_succ, List.set_cons_zero, List.set_cons_succ, List.length_cons, List.length_nil, List.map_cons, List.map_nil, List.sum_cons, List.sum_nil, List.nil_append, List.cons_append, Option.toList_some, Option.toList_none, Value.category, xok, va_rf, true_and, and_true, and_self, Nat.reduceAdd, Nat.reduceLT, Nat.reduceLeDiff, Nat.reduceEqDiff, Nat.reduceMul, beq_self_eq_true, decide_true, ite_true, ite_false, if_true, if_false, reduceIte, Bool.true_eq_false, Bool.false_eq_true, eq_self_iff_true, Nat.zero_le, not_true_eq_false, not_false_eq_true, forall_const, false_implies, implies_true, forall_false]
  unfold k_Mdl_findWays_2
  refine w_loop (fun mm A' st G' => ∃ i, i ≤ 8 ∧ mm = 8 - i ∧ A' = [some (.ref 70), some (.int (nI s)), some (.int (nI i)), none, none, none] ∧ st = [] ∧ ∃ f, G' = stA G 91 f ∧ ∀ t, t < i → f t = if t = 0 then 0 else FARc) ?_ NF 8 _ _ _ (by decide) ⟨0, by omega, rfl, rfl, rfl, hpI G 91, stA_same.symm, fun t ht => absurd ht (by omega)⟩
  rintro mm A' st G' K ⟨i, hi, rfl, rfl, rfl, f, rfl, hf⟩ ih
  obtain ⟨c, hc, hk⟩ : ∃ c : Int32, c = FARc ∧ f_Mdl_findWays_2 K = (xIld 2 (xI 8 (xicmp_ge (xI 1 (xIst 2 k_Mdl_findWays_33)) (xAld 0 (xGetR 11 44 (xIld 2 (xIld 2 (xif_ne (xI c (k_Mdl_findWays_24 K)) (xI 0 (k_Mdl_findWays_24 K)))))))))) := ⟨_, rfl, rfl⟩
  rw [hk]
  simp only [k_Mdl_findWays_24, w_iadd, w_isub, w_imul, w_iand, w_ior, w_ixor, w_ishl, w_ishr, w_iushr, w_idiv, w_irem, w_ineg, w_ladd, w_lsub, w_lmul, w_ldiv, w_lrem, w_i2l, w_l2i, w_i2c, w_lcmp, w_dup_int, w_pop_int, w_dup_ref, w_pop_ref, w_dup_retAddr, w_pop_retAddr, w_dup2, w_I, w_L, w_Null, w_Ild, w_Lld, w_Ald, w_Ist, w_Lst, w_Ast, w_Iinc, w_if_eq, w_icmp_eq, w_if_ne, w_icmp_ne, w_if_lt, w_icmp_lt, w_if_ge, w_icmp_ge, w_if_gt, w_icmp_gt, w_if_le, w_icmp_le, w_GetI, w_GetL, w_GetR, w_PutI, w_PutZ, w_PutL, w_PutR, w_PutN, w_Iald, w_Zald, w_Lald, w_Aald, w_Iast, w_Zast, w_Last, w_AastR, w_AastN, w_Alen, w_New, w_NewA, w_Mna, w_Iret, w_Zret, w_Cret, w_Bret, w_Lret, w_AretR, w_AretN, w_Vret, w_Obj, w_IfNN, w_IfNR, w_Copy, w_Cln, w_Cast, w_SfA, w_SfI, w_SfQ, w_Str, w_ScLd, w_ScLen, w_CV0, w_CS0, w_CV1, w_CS1, w_CV2, w_CS2, w_CV3, w_CS3, w_CV4, w_CS4, w_CV5, w_CS5, List.getElem?_cons_zero, List.getElem?_cons_succ, List.set_cons_zero, List.set_cons_succ, List.length_cons, List.length_nil, List.map_cons, List.map_nil, List.sum_cons, List.sum_nil, List.nil_append, List.cons_append, Option.toList_some, Option.toList_none, Value.category, xok, va_rf, true_and, and_true, and_self, Nat.reduceAdd, Nat.reduceLT, Nat.reduceLeDiff, Nat.reduceEqDiff, Nat.reduceMul, beq_self_eq_true, decide_true, ite_true, ite_false, if_true, if_false, reduceIte, Bool.true_eq_false, Bool.false_eq_true, eq_self_iff_true, Nat.zero_le, not_true_eq_false, not_false_eq_true, forall_const, false_implies, implies_true, forall_false, stI_C, stI_N, stI_Z, stI_S, stI_L, stI_R, stL_C, stL_N, stL_Z, stL_S, stL_I, stL_R, stR_C, stR_N, stR_Z, stR_S, stR_I, stR_L, stA_C, stA_N, stA_Z, stA_S, stA_L, stA_R, stI_I, stL_L, stR_R, stA_I, stN_C, stN_N, stN_Z, stN_S, stN_I, stN_L, stN_R, stI_ne, stL_ne, stR_ne, hM.all]
  refine ⟨fun g => ?_, fun g => ?_⟩
  · have i8 : i = 8 := by
      have := (nI_leI (a := 8) (by decide) (by omega)).mp g
      omega
    subst i8
    have hf0 : ∀ t, t < 8 → f t = fwP A B (fun j => s.testBit j) n 1 t := by
      intro t ht
      rw [hf t ht]
      have : ∀ t, t < 8 → (1 : Nat).testBit t = decide (t = 0) := by decide
      have e : dN A B (fun j => s.testBit j) n 1 t = if (1 : Nat).testBit t then some 0 else none := rfl
      unfold fwP
      rw [e, this t ht]
      by_cases q : t = 0
      · simp [q]
        rfl
      · simp [q]
    clear hf ih hk
    unfold k_Mdl_findWays_33
    refine w_loop (fun mm A' st G' => ∃ q o3 o4 o5, q ≤ 7 ∧ mm = 7 - q ∧ A' = [some (.ref 70), some (.int (nI s)), some (.int (nI (q + 1))), o3, o4, o5] ∧ st = [] ∧ ∃ f, G' = stA G 91 f ∧ ∀ t, t < 8 → f t = fwP A B (fun j => s.testBit j) n (q + 1) t) ?_ NF 7 _ _ _ (by decide) ⟨0, none, none, none, by omega, rfl, rfl, rfl, f, rfl, hf0⟩
    rintro mm A' st G' K33 ⟨q, o3, o4, o5, hq, rfl, rfl, rfl, f, rfl, hf⟩ ih
    simp only [f_Mdl_findWays_33, w_iadd, w_isub, w_imul, w_iand, w_ior, w_ixor, w_ishl, w_ishr, w_iushr, w_idiv, w_irem, w_ineg, w_ladd, w_lsub, w_lmul, w_ldiv, w_lrem, w_i2l, w_l2i, w_i2c, w_lcmp, w_dup_int, w_pop_int, w_dup_ref, w_pop_ref, w_dup_retAddr, w_pop_retAddr, w_dup2, w_I, w_L, w_Null, w_Ild, w_Lld, w_Ald, w_Ist, w_Lst, w_Ast, w_Iinc, w_if_eq, w_icmp_eq, w_if_ne, w_icmp_ne, w_if_lt, w_icmp_lt, w_if_ge, w_icmp_ge, w_if_gt, w_icmp_gt, w_if_le, w_icmp_le, w_GetI, w_GetL, w_GetR, w_PutI, w_PutZ, w_PutL, w_PutR, w_PutN, w_Iald, w_Zald, w_Lald, w_Aald, w_Iast, w_Zast, w_Last, w_AastR, w_AastN, w_Alen, w_New, w_NewA, w_Mna, w_Iret, w_Zret, w_Cret, w_Bret, w_Lret, w_AretR, w_AretN, w_Vret, w_Obj, w_IfNN, w_IfNR, w_Copy, w_Cln, w_Cast, w_SfA, w_SfI, w_SfQ, w_Str, w_ScLd, w_ScLen, w_CV0, w_CS0, w_CV1, w_CS1, w_CV2, w_CS2, w_CV3, w_CS3, w_CV4, w_CS4, w_CV5, w_CS5, List.getElem?_cons_zero, List.getElem?_cons_succ, List.set_cons_zero, List.set_cons_succ, List.length_cons, List.length_nil, List.map_cons, List.map_nil, List.sum_cons, List.sum_nil, List.nil_append, List.cons_append, Option.toList_some, Option.toList_none, Value.category, xok, va_rf, true_and, and_true, and_self, Nat.reduceAdd, Nat.reduceLT, Nat.reduceLeDiff, Nat.reduceEqDiff, Nat.reduceMul, beq_self_eq_true, decide_true, ite_true, ite_false, if_true, if_false, reduceIte, Bool.true_eq_false, Bool.false_eq_true, eq_self_iff_true, Nat.zero_le, not_true_eq_false, not_false_eq_true, forall_const, false_implies, implies_true, forall_false, stI_C, stI_N, stI_Z, stI_S, stI_L, stI_R, stL_C, stL_N, stL_Z, stL_S, stL_I, stL_R, stR_C, stR_N, stR_Z, stR_S, stR_I, stR_L, stA_C, stA_N, stA_Z, stA_S, stA_L, stA_R, stI_I, stL_L, stR_R, stA_I, stN_C, stN_N, stN_Z, stN_S, stN_I, stN_L, stN_R, stI_ne, stL_ne, stR_ne, hM.all]
    refine ⟨fun g => ?_, fun g => ?_⟩
    · have := (nI_leI (a := 8) (by decide) (by omega)).mp g
      rw [show q + 1 = 8 by omega] at hf
      exact ⟨f, rfl, hf⟩
    · have h7 : q < 7 := by
        rcases Nat.lt_or_ge q 7 with z | z
        · exact z
        · exact absurd (nI_le (a := 8) (b := q + 1) (by omega) (by omega)) g
      unfold k_Mdl_findWays_41
      refine w_loop (fun mm A' st G' => ∃ r o4 o5, r ≤ n ∧ mm = n - r ∧ A' = [some (.ref 70), some (.int (nI s)), some (.int (nI (q + 1))), some (.int (nI r)), o4, o5] ∧ st = [] ∧ ∃ f, G' = stA G 91 f ∧ ∀ t, t < 8 → f t = fwF A B (fun j => s.testBit j) n q r t) ?_ NF n _ _ _ (by unfold NF; omega) ⟨0, o4, o5, by omega, rfl, rfl, rfl, f, rfl, fun t ht => by rw [fw_0]; exact hf t ht⟩
      rintro mm A' st G' K41 ⟨r, o4, o5, hr, rfl, rfl, rfl, f, rfl, hf⟩ ih2
      have hs31 : s < 2147483648 := by omega
      simp only [f_Mdl_findWays_41, w_iadd, w_isub, w_imul, w_iand, w_ior, w_ixor, w_ishl, w_ishr, w_iushr, w_idiv, w_irem, w_ineg, w_ladd, w_lsub, w_lmul, w_ldiv, w_lrem, w_i2l, w_l2i, w_i2c, w_lcmp, w_dup_int, w_pop_int, w_dup_ref, w_pop_ref, w_dup_retAddr, w_pop_retAddr, w_dup2, w_I, w_L, w_Null, w_Ild, w_Lld, w_Ald, w_Ist, w_Lst, w_Ast, w_Iinc, w_if_eq, w_icmp_eq, w_if_ne, w_icmp_ne, w_if_lt, w_icmp_lt, w_if_ge, w_icmp_ge, w_if_gt, w_icmp_gt, w_if_le, w_icmp_le, w_GetI, w_GetL, w_GetR, w_PutI, w_PutZ, w_PutL, w_PutR, w_PutN, w_Iald, w_Zald, w_Lald, w_Aald, w_Iast, w_Zast, w_Last, w_AastR, w_AastN, w_Alen, w_New, w_NewA, w_Mna, w_Iret, w_Zret, w_Cret, w_Bret, w_Lret, w_AretR, w_AretN, w_Vret, w_Obj, w_IfNN, w_IfNR, w_Copy, w_Cln, w_Cast, w_SfA, w_SfI, w_SfQ, w_Str, w_ScLd, w_ScLen, w_CV0, w_CS0, w_CV1, w_CS1, w_CV2, w_CS2, w_CV3, w_CS3, w_CV4, w_CS4, w_CV5, w_CS5, List.getElem?_cons_zero, List.getElem?_cons_succ, List.set_cons_zero, List.set_cons_succ, List.length_cons, List.length_nil, List.map_cons, List.map_nil, List.sum_cons, List.sum_nil, List.nil_append, List.cons_append, Option.toList_some, Option.toList_none, Value.category, xok, va_rf, true_and, and_true, and_self, Nat.reduceAdd, Nat.reduceLT, Nat.reduceLeDiff, Nat.reduceEqDiff, Nat.reduceMul, beq_self_eq_true, decide_true, ite_true, ite_false, if_true, if_false, reduceIte, Bool.true_eq_false, Bool.false_eq_true, eq_self_iff_true, Nat.zero_le, not_true_eq_false, not_false_eq_true, forall_const, false_implies, implies_true, forall_false, stI_C, stI_N, stI_Z, stI_S, stI_L, stI_R, stL_C, stL_N, stL_Z, stL_S, stL_I, stL_R, stR_C, stR_N, stR_Z, stR_S, stR_I, stR_L, stA_C, stA_N, stA_Z, stA_S, stA_L, stA_R, stI_I, stL_L, stR_R, stA_I, stN_C, stN_N, stN_Z, stN_S, stN_I, stN_L, stN_R, stI_ne, stL_ne, stR_ne, tn_0, tn_1, tn_2, tn_3, tn_4, tn_5, tn_6, tn_7, tn_8, tn_9, tn_10, tn_11, tn_12, tn_13, tn_14, tn_15, tn_16, tn_17, tn_18, tn_19, tn_20, tn_21, tn_22, tn_23, tn_24, tn_25, tn_26, tn_27, tn_28, tn_29, tn_30, tn_31, tn_32, tn_33, tn_34, tn_35, tn_36, tn_37, tn_38, tn_39, tn_40, tn_41, tn_42, tn_43, tn_44, tn_45, tn_46, tn_47, tn_48, tn_49, tn_50, tn_51, tn_52, tn_53, tn_54, tn_55, tn_56, tn_57, tn_58, tn_59, tn_60, tn_61, tn_62, tn_63, tn_64, tn_65, tn_66, tn_67, tn_68, tn_69, tn_70, tn_71, tn_72, tn_73, tn_74, tn_75, tn_76, tn_77, tn_78, tn_79, tn_80, tn_81, tn_82, tn_83, tn_84, tn_85, tn_86, tn_87, tn_88, tn_89, tn_90, tn_91, tn_92, tn_93, tn_94, tn_95, tn_96, tn_97, tn_98, tn_99, tn_100, tn_101, tn_102, tn_103, tn_104, tn_105, tn_106, tn_107, tn_108, tn_109, tn_110, tn_111, tn_112, tn_113, tn_114, tn_115, tn_116, tn_117, tn_118, tn_119, tn_120, tn_121, tn_122, tn_123, tn_124, tn_125, tn_126, tn_127, tn_128, tn_129, tn_130, tn_131, tn_132, tn_133, tn_134, tn_135, tn_136, tn_137, tn_138, tn_139, tn_140, tn_141, tn_142, tn_143, tn_144, tn_145, tn_146, tn_147, tn_148, tn_149, tn_150, tn_151, tn_152, tn_153, tn_154, tn_155, tn_156, tn_157, tn_158, tn_159, tn_160, tn_161, tn_162, tn_163, tn_164, tn_165, tn_166, tn_167, tn_168, tn_169, tn_170, tn_171, tn_172, tn_173, tn_174, tn_175, tn_176, tn_177, tn_178, tn_179, tn_180, tn_181, tn_182, tn_183, tn_184, tn_185, tn_186, tn_187, tn_188, tn_189, tn_190, tn_191, tn_192, tn_193, tn_194, tn_195, tn_196, tn_197, tn_198, tn_199, tn_255, tn_256, tn_300, tn_399, tn_400, tn_500, tn_900, tn_999, tn_1000, tn_1001, tn_1024, tn_2048, tn_2176, tn_3536, tn_4095, tn_4096, tn_5580, tn_11160, tn_12345, tn_1103, tn_99999, tn_1000000, tn_1000003, tn_100000000, tn_1000000000, ge0_0, ge0_1, ge0_2, ge0_3, ge0_4, ge0_5, ge0_6, ge0_7, ge0_8, ge0_9, ge0_10, ge0_11, ge0_12, ge0_13, ge0_14, ge0_15, ge0_16, ge0_17, ge0_18, ge0_19, ge0_20, ge0_21, ge0_22, ge0_23, ge0_24, ge0_25, ge0_26, ge0_27, ge0_28, ge0_29, ge0_30, ge0_31, ge0_32, ge0_33, ge0_34, ge0_35, ge0_36, ge0_37, ge0_38, ge0_39, ge0_40, ge0_41, ge0_42, ge0_43, ge0_44, ge0_45, ge0_46, ge0_47, ge0_48, ge0_49, ge0_50, ge0_51, ge0_52, ge0_53, ge0_54, ge0_55, ge0_56, ge0_57, ge0_58, ge0_59, ge0_60, ge0_61, ge0_62, ge0_63, ge0_64, ge0_65, ge0_66, ge0_67, ge0_68, ge0_69, ge0_70, ge0_71, ge0_72, ge0_73, ge0_74, ge0_75, ge0_76, ge0_77, ge0_78, ge0_79, ge0_80, ge0_81, ge0_82, ge0_83, ge0_84, ge0_85, ge0_86, ge0_87, ge0_88, ge0_89, ge0_90, ge0_91, ge0_92, ge0_93, ge0_94, ge0_95, ge0_96, ge0_97, ge0_98, ge0_99, ge0_100, ge0_101, ge0_102, ge0_103, ge0_104, ge0_105, ge0_106, ge0_107, ge0_108, ge0_109, ge0_110, ge0_111, ge0_112, ge0_113, ge0_114, ge0_115, ge0_116, ge0_117, ge0_118, ge0_119, ge0_120, ge0_121, ge0_122, ge0_123, ge0_124, ge0_125, ge0_126, ge0_127, ge0_128, ge0_129, ge0_130, ge0_131, ge0_132, ge0_133, ge0_134, ge0_135, ge0_136, ge0_137, ge0_138, ge0_139, ge0_140, ge0_141, ge0_142, ge0_143, ge0_144, ge0_145, ge0_146, ge0_147, ge0_148, ge0_149, ge0_150, ge0_151, ge0_152, ge0_153, ge0_154, ge0_155, ge0_156, ge0_157, ge0_158, ge0_159, ge0_160, ge0_161, ge0_162, ge0_163, ge0_164, ge0_165, ge0_166, ge0_167, ge0_168, ge0_169, ge0_170, ge0_171, ge0_172, ge0_173, ge0_174, ge0_175, ge0_176, ge0_177, ge0_178, ge0_179, ge0_180, ge0_181, ge0_182, ge0_183, ge0_184, ge0_185, ge0_186, ge0_187, ge0_188, ge0_189, ge0_190, ge0_191, ge0_192, ge0_193, ge0_194, ge0_195, ge0_196, ge0_197, ge0_198, ge0_199, ge0_255, ge0_256, ge0_300, ge0_399, ge0_400, ge0_500, ge0_900, ge0_999, ge0_1000, ge0_1001, ge0_1024, ge0_2048, ge0_2176, ge0_3536, ge0_4095, ge0_4096, ge0_5580, ge0_11160, ge0_12345, ge0_1103, ge0_99999, ge0_1000000, ge0_1000003, ge0_100000000, ge0_1000000000, hM.all, hpI_stA_ne, xin, r0, ne10, ne10L, ne01, ne01L, tt_imp, nt_imp, ff_imp, nf_imp, true_and, and_true, true_or, or_true, reduceIte]
      refine ⟨fun g2 => ?_, fun g2 => ?_⟩
      · have : r = n := by
          have := (nI_leI (by omega) (by omega)).mp g2
          omega
        subst this
        exact ih (7 - (q + 1)) _ _ _ (by omega) ⟨q + 1, some (.int (nI r)), o4, o5, by omega, rfl, by rw [show nI (q + 1) + Int32.ofInt 1 = nI (q + 1 + 1) from nI_1 (q + 1)], rfl, f, rfl, fun t ht => by rw [hf t ht, fw_n]⟩
      · have hlt : r < n := by
          rcases Nat.lt_or_ge r n with z | z
          · exact z
          · exact absurd (nI_le z (by omega)) g2
        rw [s_is s r hs31 (by omega)]
        have hnext : ∀ {f' : Nat → Int32} {o4 o5 : Option Value}, (∀ t, t < 8 → f' t = fwF A B (fun j => s.testBit j) n q (r + 1) t) → WP K41 [some (.ref 70), some (.int (nI s)), some (.int (nI (q + 1))), some (.int (nI r + Int32.ofInt 1)), o4, o5] [] (stA G 91 f') (fun r => r.1 = none ∧ ∃ f, r.2 = stA G 91 f ∧ ∀ t, t < 8 → f t = fwP A B (fun j => s.testBit j) n 8 t) := by
          intro f' o4 o5 hf'
          exact ih2 (n - (r + 1)) _ _ _ (by omega) ⟨r + 1, o4, o5, by omega, rfl, by rw [show nI r + Int32.ofInt 1 = nI (r + 1) from nI_1 r], rfl, f', rfl, hf'⟩
        cases hsb : s.testBit r with
        | true =>
          simp only [k_Mdl_findWays_177, w_iadd, w_isub, w_imul, w_iand, w_ior, w_ixor, w_ishl, w_ishr, w_iushr, w_idiv, w_irem, w_ineg, w_ladd, w_lsub, w_lmul, w_ldiv, w_lrem, w_i2l, w_l2i, w_i2c, w_lcmp, w_dup_int, w_pop_int, w_dup_ref, w_pop_ref, w_dup_retAddr, w_pop_retAddr, w_dup2, w_I, w_L, w_Null, w_Ild, w_Lld, w_Ald, w_Ist, w_Lst, w_Ast, w_Iinc, w_if_eq, w_icmp_eq, w_if_ne, w_icmp_ne, w_if_lt, w_icmp_lt, w_if_ge, w_icmp_ge, w_if_gt, w_icmp_gt, w_if_le, w_icmp_le, w_GetI, w_GetL, w_GetR, w_PutI, w_PutZ, w_PutL, w_PutR, w_PutN, w_Iald, w_Zald, w_Lald, w_Aald, w_Iast, w_Zast, w_Last, w_AastR, w_AastN, w_Alen, w_New, w_NewA, w_Mna, w_Iret, w_Zret, w_Cret, w_Bret, w_Lret, w_AretR, w_AretN, w_Vret, w_Obj, w_IfNN, w_IfNR, w_Copy, w_Cln, w_Cast, w_SfA, w_SfI, w_SfQ, w_Str, w_ScLd, w_ScLen, w_CV0, w_CS0, w_CV1, w_CS1, w_CV2, w_CS2, w_CV3, w_CS3, w_CV4, w_CS4, w_CV5, w_CS5, List.getElem?_cons_zero, List.getElem?_cons_succ, List.set_cons_zero, List.set_cons_succ, List.length_cons, List.length_nil, List.map_cons, List.map_nil, List.sum_cons, List.sum_nil, List.nil_append, List.cons_append, Option.toList_some, Option.toList_none, Value.category, xok, va_rf, true_and, and_true, and_self, Nat.reduceAdd, Nat.reduceLT, Nat.reduceLeDiff, Nat.reduceEqDiff, Nat.reduceMul, beq_self_eq_true, decide_true, ite_true, ite_false, if_true, if_false, reduceIte, Bool.true_eq_false, Bool.false_eq_true, eq_self_iff_true, Nat.zero_le, not_true_eq_false, not_false_eq_true, forall_const, false_implies, implies_true, forall_false, ne10, ne10L, ne01, ne01L, tt_imp, nt_imp, ff_imp, nf_imp, true_and, and_true, true_or, or_true, reduceIte]
          exact hnext (fun t ht => by rw [fw_skip (r := r) hsb]; exact hf t ht)
        | false =>
          obtain ⟨a8, b8, hab, ra, rb⟩ := r1 r hlt
          have ea : 141 + 2 * nI r = nI (141 + 2 * r) := by rw [cI_141, cI_2, nI_mul, nI_add]
          have eb : nI (141 + 2 * r) + 1 = nI (141 + 2 * r + 1) := nI_1 _
          have p1 : 0 ≤ nI (141 + 2 * r) := nI_pos' (by omega)
          have c1 : (nI (141 + 2 * r)).toNatClampNeg = 141 + 2 * r := nI_clamp (by omega)
          have l1 : 141 + 2 * r < 5580 := by omega
          have p2 : 0 ≤ nI (141 + 2 * r + 1) := nI_pos' (by omega)
          have c2 : (nI (141 + 2 * r + 1)).toNatClampNeg = 141 + 2 * r + 1 := nI_clamp (by omega)
          have l2 : 141 + 2 * r + 1 < 5580 := by omega
          have p3 : 0 ≤ nI (A r) := nI_pos' (by omega)
          have c3 : (nI (A r)).toNatClampNeg = A r := nI_clamp (by omega)
          have l3 : A r < 8 := by omega
          have p4 : 0 ≤ nI (B r) := nI_pos' (by omega)
          have c4 : (nI (B r)).toNatClampNeg = B r := nI_clamp (by omega)
          have l4 : B r < 8 := by omega
          have e1 : nI (q + 1) - 1 = nI q := nI_sub (a := q + 1) (b := 1) (by omega)
          obtain ⟨c, hc, hk1⟩ : ∃ c : Int32, c = FARc ∧ k_Mdl_findWays_105 K33 K41 = (xicmp_ne (k_Mdl_findWays_125 K33 K41) (xAld 0 (xGetR 11 44 (xIld 5 (xIaldh (xI c (xicmp_ne (k_Mdl_findWays_125 K33 K41) (xIld 2 (k_Mdl_findWays_132 K33 K41))))))))) ∧ k_Mdl_findWays_132 K33 K41 = (xIasth (xAld 0 (xGetR 11 44 (xIld 4 (xAld 0 (xGetR 11 44 (xIld 5 (xIaldh (xIld 2 (xI 1 (xisub (xicmp_ne (k_Mdl_findWays_169 K33 K41) (xAld 0 (xGetR 11 44 (xIld 4 (xIaldh (xI c (xicmp_ne (k_Mdl_findWays_169 K33 K41) (xIld 2 (k_Mdl_findWays_176 K33 K41)))))))))))))))))))) := ⟨_, rfl, rfl, rfl⟩
          have hst := fw_step (f := f) hlt (show q ≤ 6 by omega) (ct := fun j => s.testBit j) hsb hab hf a8 b8 rfl
          have h132 : ∀ v, v = (if f (A r) = nI q ∧ f (B r) = FARc then nI (q + 1) else f (B r)) → WP (k_Mdl_findWays_132 K33 K41) [some (.ref 70), some (.int (nI s)), some (.int (nI (q + 1))), some (.int (nI r)), some (.int (nI (A r))), some (.int (nI (B r)))] [.int v, .int (nI (B r)), .ref 91] (stA G 91 f) (fun r => r.1 = none ∧ ∃ f, r.2 = stA G 91 f ∧ ∀ t, t < 8 → f t = fwP A B (fun j => s.testBit j) n 8 t) := by
            intro v hv
            rw [← hv] at hst
            obtain ⟨f1, hf1⟩ : ∃ f1, f1 = up f (B r) v := ⟨_, rfl⟩
            rw [← hf1] at hst
            simp only [hk1.2, k_Mdl_findWays_169, k_Mdl_findWays_176, k_Mdl_findWays_177, w_iadd, w_isub, w_imul, w_iand, w_ior, w_ixor, w_ishl, w_ishr, w_iushr, w_idiv, w_irem, w_ineg, w_ladd, w_lsub, w_lmul, w_ldiv, w_lrem, w_i2l, w_l2i, w_i2c, w_lcmp, w_dup_int, w_pop_int, w_dup_ref, w_pop_ref, w_dup_retAddr, w_pop_retAddr, w_dup2, w_I, w_L, w_Null, w_Ild, w_Lld, w_Ald, w_Ist, w_Lst, w_Ast, w_Iinc, w_if_eq, w_icmp_eq, w_if_ne, w_icmp_ne, w_if_lt, w_icmp_lt, w_if_ge, w_icmp_ge, w_if_gt, w_icmp_gt, w_if_le, w_icmp_le, w_GetI, w_GetL, w_GetR, w_PutI, w_PutZ, w_PutL, w_PutR, w_PutN, w_Iald, w_Zald, w_Lald, w_Aald, w_Iast, w_Zast, w_Last, w_AastR, w_AastN, w_Alen, w_New, w_NewA, w_Mna, w_Iret, w_Zret, w_Cret, w_Bret, w_Lret, w_AretR, w_AretN, w_Vret, w_Obj, w_IfNN, w_IfNR, w_Copy, w_Cln, w_Cast, w_SfA, w_SfI, w_SfQ, w_Str, w_ScLd, w_ScLen, w_CV0, w_CS0, w_CV1, w_CS1, w_CV2, w_CS2, w_CV3, w_CS3, w_CV4, w_CS4, w_CV5, w_CS5, List.getElem?_cons_zero, List.getElem?_cons_succ, List.set_cons_zero, List.set_cons_succ, List.length_cons, List.length_nil, List.map_cons, List.map_nil, List.sum_cons, List.sum_nil, List.nil_append, List.cons_append, Option.toList_some, Option.toList_none, Value.category, xok, va_rf, true_and, and_true, and_self, Nat.reduceAdd, Nat.reduceLT, Nat.reduceLeDiff, Nat.reduceEqDiff, Nat.reduceMul, beq_self_eq_true, decide_true, ite_true, ite_false, if_true, if_false, reduceIte, Bool.true_eq_false, Bool.false_eq_true, eq_self_iff_true, Nat.zero_le, not_true_eq_false, not_false_eq_true, forall_const, false_implies, implies_true, forall_false, stI_C, stI_N, stI_Z, stI_S, stI_L, stI_R, stL_C, stL_N, stL_Z, stL_S, stL_I, stL_R, stR_C, stR_N, stR_Z, stR_S, stR_I, stR_L, stA_C, stA_N, stA_Z, stA_S, stA_L, stA_R, stI_I, stL_L, stR_R, stA_I, stN_C, stN_N, stN_Z, stN_S, stN_I, stN_L, stN_R, stI_ne, stL_ne, stR_ne, hM.all, hpI_stA, xin, p3, c3, l3, p4, c4, l4, e1, stI_stU, ← hf1, ne10, ne10L, ne01, ne01L, tt_imp, nt_imp, ff_imp, nf_imp, true_and, and_true, true_or, or_true, reduceIte]
            refine ⟨fun g3 => ⟨fun g4 => ?_, fun g4 => ?_⟩, fun g3 => ?_⟩
            · rw [if_pos ⟨g3, g4.trans hc⟩] at hst
              exact hnext hst
            · rw [if_neg (fun z => g4 (z.2.trans hc.symm))] at hst
              exact hnext hst
            · rw [if_neg (fun z => g3 z.1)] at hst
              exact hnext hst
          simp only [w_iadd, w_isub, w_imul, w_iand, w_ior, w_ixor, w_ishl, w_ishr, w_iushr, w_idiv, w_irem, w_ineg, w_ladd, w_lsub, w_lmul, w_ldiv, w_lrem, w_i2l, w_l2i, w_i2c, w_lcmp, w_dup_int, w_pop_int, w_dup_ref, w_pop_ref, w_dup_retAddr, w_pop_retAddr, w_dup2, w_I, w_L, w_Null, w_Ild, w_Lld, w_Ald, w_Ist, w_Lst, w_Ast, w_Iinc, w_if_eq, w_icmp_eq, w_if_ne, w_icmp_ne, w_if_lt, w_icmp_lt, w_if_ge, w_icmp_ge, w_if_gt, w_icmp_gt, w_if_le, w_icmp_le, w_GetI, w_GetL, w_GetR, w_PutI, w_PutZ, w_PutL, w_PutR, w_PutN, w_Iald, w_Zald, w_Lald, w_Aald, w_Iast, w_Zast, w_Last, w_AastR, w_AastN, w_Alen, w_New, w_NewA, w_Mna, w_Iret, w_Zret, w_Cret, w_Bret, w_Lret, w_AretR, w_AretN, w_Vret, w_Obj, w_IfNN, w_IfNR, w_Copy, w_Cln, w_Cast, w_SfA, w_SfI, w_SfQ, w_Str, w_ScLd, w_ScLen, w_CV0, w_CS0, w_CV1, w_CS1, w_CV2, w_CS2, w_CV3, w_CS3, w_CV4, w_CS4, w_CV5, w_CS5, List.getElem?_cons_zero, List.getElem?_cons_succ, List.set_cons_zero, List.set_cons_succ, List.length_cons, List.length_nil, List.map_cons, List.map_nil, List.sum_cons, List.sum_nil, List.nil_append, List.cons_append, Option.toList_some, Option.toList_none, Value.category, xok, va_rf, true_and, and_true, and_self, Nat.reduceAdd, Nat.reduceLT, Nat.reduceLeDiff, Nat.reduceEqDiff, Nat.reduceMul, beq_self_eq_true, decide_true, ite_true, ite_false, if_true, if_false, reduceIte, Bool.true_eq_false, Bool.false_eq_true, eq_self_iff_true, Nat.zero_le, not_true_eq_false, not_false_eq_true, forall_const, false_implies, implies_true, forall_false, stI_C, stI_N, stI_Z, stI_S, stI_L, stI_R, stL_C, stL_N, stL_Z, stL_S, stL_I, stL_R, stR_C, stR_N, stR_Z, stR_S, stR_I, stR_L, stA_C, stA_N, stA_Z, stA_S, stA_L, stA_R, stI_I, stL_L, stR_R, stA_I, stN_C, stN_N, stN_Z, stN_S, stN_I, stN_L, stN_R, stI_ne, stL_ne, stR_ne, tn_0, tn_1, tn_2, tn_3, tn_4, tn_5, tn_6, tn_7, tn_8, tn_9, tn_10, tn_11, tn_12, tn_13, tn_14, tn_15, tn_16, tn_17, tn_18, tn_19, tn_20, tn_21, tn_22, tn_23, tn_24, tn_25, tn_26, tn_27, tn_28, tn_29, tn_30, tn_31, tn_32, tn_33, tn_34, tn_35, tn_36, tn_37, tn_38, tn_39, tn_40, tn_41, tn_42, tn_43, tn_44, tn_45, tn_46, tn_47, tn_48, tn_49, tn_50, tn_51, tn_52, tn_53, tn_54, tn_55, tn_56, tn_57, tn_58, tn_59, tn_60, tn_61, tn_62, tn_63, tn_64, tn_65, tn_66, tn_67, tn_68, tn_69, tn_70, tn_71, tn_72, tn_73, tn_74, tn_75, tn_76, tn_77, tn_78, tn_79, tn_80, tn_81, tn_82, tn_83, tn_84, tn_85, tn_86, tn_87, tn_88, tn_89, tn_90, tn_91, tn_92, tn_93, tn_94, tn_95, tn_96, tn_97, tn_98, tn_99, tn_100, tn_101, tn_102, tn_103, tn_104, tn_105, tn_106, tn_107, tn_108, tn_109, tn_110, tn_111, tn_112, tn_113, tn_114, tn_115, tn_116, tn_117, tn_118, tn_119, tn_120, tn_121, tn_122, tn_123, tn_124, tn_125, tn_126, tn_127, tn_128, tn_129, tn_130, tn_131, tn_132, tn_133, tn_134, tn_135, tn_136, tn_137, tn_138, tn_139, tn_140, tn_141, tn_142, tn_143, tn_144, tn_145, tn_146, tn_147, tn_148, tn_149, tn_150, tn_151, tn_152, tn_153, tn_154, tn_155, tn_156, tn_157, tn_158, tn_159, tn_160, tn_161, tn_162, tn_163, tn_164, tn_165, tn_166, tn_167, tn_168, tn_169, tn_170, tn_171, tn_172, tn_173, tn_174, tn_175, tn_176, tn_177, tn_178, tn_179, tn_180, tn_181, tn_182, tn_183, tn_184, tn_185, tn_186, tn_187, tn_188, tn_189, tn_190, tn_191, tn_192, tn_193, tn_194, tn_195, tn_196, tn_197, tn_198, tn_199, tn_255, tn_256, tn_300, tn_399, tn_400, tn_500, tn_900, tn_999, tn_1000, tn_1001, tn_1024, tn_2048, tn_2176, tn_3536, tn_4095, tn_4096, tn_5580, tn_11160, tn_12345, tn_1103, tn_99999, tn_1000000, tn_1000003, tn_100000000, tn_1000000000, ge0_0, ge0_1, ge0_2, ge0_3, ge0_4, ge0_5, ge0_6, ge0_7, ge0_8, ge0_9, ge0_10, ge0_11, ge0_12, ge0_13, ge0_14, ge0_15, ge0_16, ge0_17, ge0_18, ge0_19, ge0_20, ge0_21, ge0_22, ge0_23, ge0_24, ge0_25, ge0_26, ge0_27, ge0_28, ge0_29, ge0_30, ge0_31, ge0_32, ge0_33, ge0_34, ge0_35, ge0_36, ge0_37, ge0_38, ge0_39, ge0_40, ge0_41, ge0_42, ge0_43, ge0_44, ge0_45, ge0_46, ge0_47, ge0_48, ge0_49, ge0_50, ge0_51, ge0_52, ge0_53, ge0_54, ge0_55, ge0_56, ge0_57, ge0_58, ge0_59, ge0_60, ge0_61, ge0_62, ge0_63, ge0_64, ge0_65, ge0_66, ge0_67, ge0_68, ge0_69, ge0_70, ge0_71, ge0_72, ge0_73, ge0_74, ge0_75, ge0_76, ge0_77, ge0_78, ge0_79, ge0_80, ge0_81, ge0_82, ge0_83, ge0_84, ge0_85, ge0_86, ge0_87, ge0_88, ge0_89, ge0_90, ge0_91, ge0_92, ge0_93, ge0_94, ge0_95, ge0_96, ge0_97, ge0_98, ge0_99, ge0_100, ge0_101, ge0_102, ge0_103, ge0_104, ge0_105, ge0_106, ge0_107, ge0_108, ge0_109, ge0_110, ge0_111, ge0_112, ge0_113, ge0_114, ge0_115, ge0_116, ge0_117, ge0_118, ge0_119, ge0_120, ge0_121, ge0_122, ge0_123, ge0_124, ge0_125, ge0_126, ge0_127, ge0_128, ge0_129, ge0_130, ge0_131, ge0_132, ge0_133, ge0_134, ge0_135, ge0_136, ge0_137, ge0_138, ge0_139, ge0_140, ge0_141, ge0_142, ge0_143, ge0_144, ge0_145, ge0_146, ge0_147, ge0_148, ge0_149, ge0_150, ge0_151, ge0_152, ge0_153, ge0_154, ge0_155, ge0_156, ge0_157, ge0_158, ge0_159, ge0_160, ge0_161, ge0_162, ge0_163, ge0_164, ge0_165, ge0_166, ge0_167, ge0_168, ge0_169, ge0_170, ge0_171, ge0_172, ge0_173, ge0_174, ge0_175, ge0_176, ge0_177, ge0_178, ge0_179, ge0_180, ge0_181, ge0_182, ge0_183, ge0_184, ge0_185, ge0_186, ge0_187, ge0_188, ge0_189, ge0_190, ge0_191, ge0_192, ge0_193, ge0_194, ge0_195, ge0_196, ge0_197, ge0_198, ge0_199, ge0_255, ge0_256, ge0_300, ge0_399, ge0_400, ge0_500, ge0_900, ge0_999, ge0_1000, ge0_1001, ge0_1024, ge0_2048, ge0_2176, ge0_3536, ge0_4095, ge0_4096, ge0_5580, ge0_11160, ge0_12345, ge0_1103, ge0_99999, ge0_1000000, ge0_1000003, ge0_100000000, ge0_1000000000, hM.all, hpI_stA_ne, hpI_stA, xin, ea, eb, ra, rb, p1, c1, l1, p2, c2, l2, p3, c3, l3, p4, c4, l4, e1, hk1.1, k_Mdl_findWays_125, ne10, ne10L, ne01, ne01L, tt_imp, nt_imp, ff_imp, nf_imp, true_and, and_true, true_or, or_true, reduceIte]
          refine ⟨fun g3 => ⟨fun g4 => h132 _ ?_, fun g4 => h132 _ ?_⟩, fun g3 => h132 _ ?_⟩
          · rw [if_pos ⟨g3, g4.trans hc⟩]
          · rw [if_neg (fun z => g4 (z.2.trans hc.symm))]
          · rw [if_neg (fun z => g3 z.1)]
  · have h8 : i < 8 := by
      rcases Nat.lt_or_ge i 8 with z | z
      · exact z
      · exact absurd (nI_le (a := 8) (b := i) (by omega) (by omega)) g
    have p1 : 0 ≤ nI (i) := nI_pos' (by omega)
    have c1 : (nI (i)).toNatClampNeg = i := nI_clamp (by omega)
    have l1 : i < 8 := by omega
    have hnext : ∀ v, v = (if i = 0 then 0 else FARc) → WP K [some (.ref 70), some (.int (nI s)), some (.int (nI i + Int32.ofInt 1)), none, none, none] [] (stA G 91 (up f i v)) (fun r => r.1 = none ∧ ∃ f, r.2 = stA G 91 f ∧ ∀ t, t < 8 → f t = fwP A B (fun j => s.testBit j) n 8 t) := by
      intro v hv
      refine ih (8 - (i + 1)) _ _ _ (by omega) ⟨i + 1, by omega, rfl, by rw [show nI i + Int32.ofInt 1 = nI (i + 1) from nI_1 i], rfl, _, rfl, fun t ht => ?_⟩
      by_cases q : t = i
      · rw [q, up_eq, hv]
      · rw [up_ne q]
        exact hf t (by omega)
    have e0 : (nI i = 0) = (i = 0) := nI8 (j := 0) (by omega) (by omega)
    simp only [xin, p1, c1, l1, stI_stU, e0, ne10, ne10L, ne01, ne01L, tt_imp, nt_imp, ff_imp, nf_imp, true_and, and_true, true_or, or_true, reduceIte]
    refine ⟨fun q => hnext _ (by rw [if_pos q]), fun q => hnext _ (by rw [if_neg q]; exact hc)⟩
