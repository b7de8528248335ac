/-- one answer: the answer of all -/
theorem sp_of {F : XD} {av : List Value} {G : XH} {res : XR} (h : SP F av G (fun r => r = res)) (Q : XR → Prop) : SP F av G Q = Q res := by
  obtain ⟨r, h1, h2⟩ := h
  subst h2
  apply propext
  constructor
  · rintro ⟨r', h3, h4⟩
    rw [h1] at h3
    cases h3
    exact h4
  · exact fun q => ⟨r, h1, q⟩
theorem nI_mul (a b : Nat) : nI a * nI b = nI (a * b) := by
  unfold nI
  exact (Int32.ofNat_mul a b).symm
theorem nI_sub {a b : Nat} (h : b ≤ a) : nI a - nI b = nI (a - b) := by
  unfold nI
  exact (Int32.ofNat_sub a b h).symm
theorem xin_nI {n m : Nat} (h : n < m) (hm : m < 2 ^ 31) : xin (nI n) m := by
  refine ⟨nI_pos' (by omega), ?_⟩
  rw [nI_clamp (by omega)]
  exact h
theorem cpy_0 {α : Type} {f g : Nat → α} {s d : Nat} : va_cpy f g s d 0 = g := by
  funext k
  unfold va_cpy
  rw [if_neg (by omega)]
theorem stA_same {G : XH} {a : Nat} : stA G a (hpI G a) = G := by
  unfold stA
  have : up1 G.2.2.1 a (hpI G a) = G.2.2.1 := by
    funext x
    unfold up1
    split
    · next h => rw [h]
    · rfl
  rw [this]
theorem stI_stA {G : XH} {a k : Nat} {f : Nat → Int32} {v : Int32} : stI (stA G a f) a k v = stA G a (fun j => if j = k then v else f j) := by
  unfold stI stA
  have : up2 (up1 G.2.2.1 a f) a k v = up1 G.2.2.1 a (fun j => if j = k then v else f j) := by
    funext x y
    unfold up1 up2
    by_cases h : x = a <;> simp [h]
  rw [this]
theorem cpy_succ {f g : Nat → Int32} {s d i : Nat} : (fun j => if j = d + i then f (s + i) else va_cpy f g s d i j) = va_cpy f g s d (i + 1) := by
  funext j
  unfold va_cpy
  by_cases h1 : j = d + i
  · subst h1
    rw [if_pos rfl, if_pos (by omega)]
    congr 1
    omega
  · rw [if_neg h1]
    by_cases h2 : d ≤ j ∧ j < d + i
    · rw [if_pos h2, if_pos (by omega)]
    · rw [if_neg h2, if_neg (by omega)]
theorem s_keepAll {G : XH} (hM : MS G) (Q : XR → Prop) (k : Nat) (hk : k ≤ 25) : SP D_Mdl_keepAll [.ref 70, .int (nI k)] G Q = Q (none, stA G 75 (va_cpy (hpI G 72) (hpI G 75) 5 (136 * k) 136)) := by
  refine sp_of ?_ Q
  rw [e_Mdl_keepAll]
  simp only [k_Mdl_keepAll_0, w_iadd, w_isub, w_imul, w_iand, w_ior, w_ixor, w_ishl, w_ishr, w_iushr, w_idiv, w_irem, w_ineg, w_ladd, w_lsub, w_lmul, w_ldiv, w_lrem, w_i2l, w_l2i, w_i2c, w_lcmp, w_dup_int, w_pop_int, w_dup_ref, w_pop_ref, w_dup_retAddr, w_pop_retAddr, w_dup2, w_I, w_L, w_Null, w_Ild, w_Lld, w_Ald, w_Ist, w_Lst, w_Ast, w_Iinc, w_if_eq, w_icmp_eq, w_if_ne, w_icmp_ne, w_if_lt, w_icmp_lt, w_if_ge, w_icmp_ge, w_if_gt, w_icmp_gt, w_if_le, w_icmp_le, w_GetI, w_GetL, w_GetR, w_PutI, w_PutZ, w_PutL, w_PutR, w_PutN, w_Iald, w_Zald, w_Lald, w_Aald, w_Iast, w_Zast, w_Last, w_AastR, w_AastN, w_Alen, w_New, w_NewA, w_Mna, w_Iret, w_Zret, w_Cret, w_Bret, w_Lret, w_AretR, w_AretN, w_Vret, w_Obj, w_IfNN, w_IfNR, w_Copy, w_Cln, w_Cast, w_SfA, w_SfI, w_SfQ, w_Str, w_ScLd, w_ScLen, w_CV0, w_CS0, w_CV1, w_CS1, w_CV2, w_CS2, w_CV3, w_CS3, w_CV4, w_CS4, w_CV5, w_CS5, List.getElem?_cons_zero, List.getElem?_cons_succ, List.set_cons_zero, List.set_cons_succ, List.length_cons, List.length_nil, List.map_cons, List.map_nil, List.sum_cons, List.sum_nil, List.nil_append, List.cons_append, Option.toList_some, Option.toList_none, Value.category, xok, va_rf, true_and, and_true, and_self, Nat.reduceAdd, Nat.reduceLT, Nat.reduceLeDiff, Nat.reduceEqDiff, Nat.reduceMul, beq_self_eq_true, decide_true, ite_true, ite_false, if_true, if_false, reduceIte, Bool.true_eq_false, Bool.false_eq_true, eq_self_iff_true, Nat.zero_le, not_true_eq_false, not_false_eq_true, forall_const, false_implies, implies_true, forall_false]
  unfold k_Mdl_keepAll_2
  refine w_loop (fun m A st G' => ∃ i, i ≤ 136 ∧ m = 136 - i ∧ A = [some (.ref 70), some (.int (nI k)), some (.int (nI i))] ∧ st = [] ∧ G' = stA G 75 (va_cpy (hpI G 72) (hpI G 75) 5 (136 * k) i)) ?_ NF 136 _ _ _ (by decide) ⟨0, by omega, rfl, rfl, rfl, by rw [cpy_0, stA_same]⟩
  rintro m A st G' K ⟨i, hi, rfl, rfl, rfl, rfl⟩ ih
  simp only [f_Mdl_keepAll_2, w_iadd, w_isub, w_imul, w_iand, w_ior, w_ixor, w_ishl, w_ishr, w_iushr, w_idiv, w_irem, w_ineg, w_ladd, w_lsub, w_lmul, w_ldiv, w_lrem, w_i2l, w_l2i, w_i2c, w_lcmp, w_dup_int, w_pop_int, w_dup_ref, w_pop_ref, w_dup_retAddr, w_pop_retAddr, w_dup2, w_I, w_L, w_Null, w_Ild, w_Lld, w_Ald, w_Ist, w_Lst, w_Ast, w_Iinc, w_if_eq, w_icmp_eq, w_if_ne, w_icmp_ne, w_if_lt, w_icmp_lt, w_if_ge, w_icmp_ge, w_if_gt, w_icmp_gt, w_if_le, w_icmp_le, w_GetI, w_GetL, w_GetR, w_PutI, w_PutZ, w_PutL, w_PutR, w_PutN, w_Iald, w_Zald, w_Lald, w_Aald, w_Iast, w_Zast, w_Last, w_AastR, w_AastN, w_Alen, w_New, w_NewA, w_Mna, w_Iret, w_Zret, w_Cret, w_Bret, w_Lret, w_AretR, w_AretN, w_Vret, w_Obj, w_IfNN, w_IfNR, w_Copy, w_Cln, w_Cast, w_SfA, w_SfI, w_SfQ, w_Str, w_ScLd, w_ScLen, w_CV0, w_CS0, w_CV1, w_CS1, w_CV2, w_CS2, w_CV3, w_CS3, w_CV4, w_CS4, w_CV5, w_CS5, List.getElem?_cons_zero, List.getElem?_cons_succ, List.set_cons_zero, List.set_cons_succ, List.length_cons, List.length_nil, List.map_cons, List.map_nil, List.sum_cons, List.sum_nil, List.nil_append, List.cons_append, Option.toList_some, Option.toList_none, Value.category, xok, va_rf, true_and, and_true, and_self, Nat.reduceAdd, Nat.reduceLT, Nat.reduceLeDiff, Nat.reduceEqDiff, Nat.reduceMul, beq_self_eq_true, decide_true, ite_true, ite_false, if_true, if_false, reduceIte, Bool.true_eq_false, Bool.false_eq_true, eq_self_iff_true, Nat.zero_le, not_true_eq_false, not_false_eq_true, forall_const, false_implies, implies_true, forall_false, stI_C, stI_N, stI_Z, stI_S, stI_L, stI_R, stL_C, stL_N, stL_Z, stL_S, stL_I, stL_R, stR_C, stR_N, stR_Z, stR_S, stR_I, stR_L, stA_C, stA_N, stA_Z, stA_S, stA_L, stA_R, stI_I, stL_L, stR_R, stA_I, stN_C, stN_N, stN_Z, stN_S, stN_I, stN_L, stN_R, stI_ne, stL_ne, stR_ne, hM.all, cI_136, cI_5, nI_mul, nI_add]
  refine ⟨fun hc => ?_, fun hc => ?_⟩
  · have : i = 136 := by
      have := (nI_leI (by decide) (by omega)).mp hc
      omega
    rw [this]
  · have hlt : i < 136 := by
      rcases Nat.lt_or_ge i 136 with q | q
      · exact q
      · exact absurd (nI_le q (by omega)) hc
    rw [nI_clamp (by omega), nI_clamp (by omega)]
    refine ⟨xin_nI (by omega) (by decide), xin_nI (by omega) (by decide), ?_⟩
    refine ih (136 - (i + 1)) _ _ _ (by omega) ⟨i + 1, by omega, rfl, ?_, rfl, ?_⟩
    · rw [show nI i + Int32.ofInt 1 = nI (i + 1) from nI_1 i]
    · rw [stI_stA]
      trace_state
      exact congrArg (stA G 75) cpy_succ
