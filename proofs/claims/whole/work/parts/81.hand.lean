/-- can the two be handed together -/
def twF (R : Nat → Int32) (one : Nat) (o : Option Nat) : Bool := match o with
  | none => true
  | some k => !(k == one) && decide (R (60 + 7 * one) = R (60 + 7 * k))
def heF (R : Nat → Int32) (one : Nat) (o : Option Nat) : Bool := decide (R (62 + 7 * one) = 0) && (match o with
  | none => true
  | some k => decide (R (62 + 7 * k) = 0))
theorem oI_L {R : Nat → Int32} {nl : Nat} {o : Option Nat} (hnl : nl ≤ 12) (h : ∀ k, o = some k → k < nl) : o = none ∨ ∃ k, o = some k ∧ k < nl ∧ (0 ≤ nI k ∧ nI k < nI nl) ∧ (nI k = -1) = False := by
  cases o with
  | none => exact Or.inl rfl
  | some k => exact Or.inr ⟨k, rfl, h k rfl, nI_rg (h k rfl) (by omega), oI_ne (Nat.lt_of_lt_of_le (h k rfl) hnl)⟩
theorem s_areTwo {G : XH} (hM : MS G) (Q : XR → Prop) (one nl : Nat) (o : Option Nat) (hnl : nl ≤ 12) (hl : hpI G 72 2 = nI nl) (h1 : one < nl) (h2 : ∀ k, o = some k → k < nl) : SP D_Mdl_areTwo [.ref 70, .int (nI one), .int (oI o)] G Q = Q (some (.int (if twF (hpI G 72) one o then 1 else 0)), G) := by
  have hin := nI_rg h1 (show nl < 2147483648 by omega)
  have hil := fun Q => s_isLetter hM Q (nI one)
  have e1 : 57 + 7 * nI one + 3 = nI (60 + 7 * one) := by rw [cI_57, cI_7, cI_3, nI_mul, nI_add, nI_add]; congr 1; omega
  have p1 : 0 ≤ nI (60 + 7 * one) := nI_pos' (by omega)
  have c1 : (nI (60 + 7 * one)).toNatClampNeg = 60 + 7 * one := nI_clamp (by omega)
  have l1 : 60 + 7 * one < 5580 := by omega
  rw [e_Mdl_areTwo]
  cases o with
  | none =>
    simp only [k_Mdl_areTwo_46, k_Mdl_areTwo_45, k_Mdl_areTwo_41, k_Mdl_areTwo_0, oI, twF, w_iadd, w_isub, w_imul, w_iand, w_ior, w_ixor, w_ishl, w_ishr, w_iushr, w_idiv, w_irem, w_ineg, w_ladd, w_lsub, w_lmul, w_ldiv, w_lrem, w_i2l, w_l2i, w_i2c, w_lcmp, w_dup_int, w_pop_int, w_dup_ref, w_pop_ref, w_dup_retAddr, w_pop_retAddr, w_dup2, w_I, w_L, w_Null, w_Ild, w_Lld, w_Ald, w_Ist, w_Lst, w_Ast, w_Iinc, w_if_eq, w_icmp_eq, w_if_ne, w_icmp_ne, w_if_lt, w_icmp_lt, w_if_ge, w_icmp_ge, w_if_gt, w_icmp_gt, w_if_le, w_icmp_le, w_GetI, w_GetL, w_GetR, w_PutI, w_PutZ, w_PutL, w_PutR, w_PutN, w_Iald, w_Zald, w_Lald, w_Aald, w_Iast, w_Zast, w_Last, w_AastR, w_AastN, w_Alen, w_New, w_NewA, w_Mna, w_Iret, w_Zret, w_Cret, w_Bret, w_Lret, w_AretR, w_AretN, w_Vret, w_Obj, w_IfNN, w_IfNR, w_Copy, w_Cln, w_Cast, w_SfA, w_SfI, w_SfQ, w_Str, w_ScLd, w_ScLen, w_CV0, w_CS0, w_CV1, w_CS1, w_CV2, w_CS2, w_CV3, w_CS3, w_CV4, w_CS4, w_CV5, w_CS5, List.getElem?_cons_zero, List.getElem?_cons_succ, List.set_cons_zero, List.set_cons_succ, List.length_cons, List.length_nil, List.map_cons, List.map_nil, List.sum_cons, List.sum_nil, List.nil_append, List.cons_append, Option.toList_some, Option.toList_none, Value.category, xok, va_rf, true_and, and_true, and_self, Nat.reduceAdd, Nat.reduceLT, Nat.reduceLeDiff, Nat.reduceEqDiff, Nat.reduceMul, beq_self_eq_true, decide_true, ite_true, ite_false, if_true, if_false, reduceIte, Bool.true_eq_false, Bool.false_eq_true, eq_self_iff_true, Nat.zero_le, not_true_eq_false, not_false_eq_true, forall_const, false_implies, implies_true, forall_false, hM.all, hil, hl, hin, ne10, ne10L, ne01, ne01L, tt_imp, nt_imp, ff_imp, nf_imp, true_and, and_true, true_or, or_true, reduceIte]
  | some k =>
    have hk := h2 k rfl
    have hik := nI_rg hk (show nl < 2147483648 by omega)
    have hil2 := fun Q => s_isLetter hM Q (nI k)
    have e2 : 57 + 7 * nI k + 3 = nI (60 + 7 * k) := by rw [cI_57, cI_7, cI_3, nI_mul, nI_add, nI_add]; congr 1; omega
    have p2 : 0 ≤ nI (60 + 7 * k) := nI_pos' (by omega)
    have c2 : (nI (60 + 7 * k)).toNatClampNeg = 60 + 7 * k := nI_clamp (by omega)
    have l2 : 60 + 7 * k < 5580 := by omega
    have ek : (nI k = nI one) = (k = one) := propext ⟨fun q => (nI_eq (by omega) (by omega)).mp q, fun q => by rw [q]⟩
    simp only [k_Mdl_areTwo_46, k_Mdl_areTwo_45, k_Mdl_areTwo_41, k_Mdl_areTwo_0, e_Mdl_ofLetter, k_Mdl_ofLetter_0, oI, oI_ne (show k < 12 by omega), twF, w_iadd, w_isub, w_imul, w_iand, w_ior, w_ixor, w_ishl, w_ishr, w_iushr, w_idiv, w_irem, w_ineg, w_ladd, w_lsub, w_lmul, w_ldiv, w_lrem, w_i2l, w_l2i, w_i2c, w_lcmp, w_dup_int, w_pop_int, w_dup_ref, w_pop_ref, w_dup_retAddr, w_pop_retAddr, w_dup2, w_I, w_L, w_Null, w_Ild, w_Lld, w_Ald, w_Ist, w_Lst, w_Ast, w_Iinc, w_if_eq, w_icmp_eq, w_if_ne, w_icmp_ne, w_if_lt, w_icmp_lt, w_if_ge, w_icmp_ge, w_if_gt, w_icmp_gt, w_if_le, w_icmp_le, w_GetI, w_GetL, w_GetR, w_PutI, w_PutZ, w_PutL, w_PutR, w_PutN, w_Iald, w_Zald, w_Lald, w_Aald, w_Iast, w_Zast, w_Last, w_AastR, w_AastN, w_Alen, w_New, w_NewA, w_Mna, w_Iret, w_Zret, w_Cret, w_Bret, w_Lret, w_AretR, w_AretN, w_Vret, w_Obj, w_IfNN, w_IfNR, w_Copy, w_Cln, w_Cast, w_SfA, w_SfI, w_SfQ, w_Str, w_ScLd, w_ScLen, w_CV0, w_CS0, w_CV1, w_CS1, w_CV2, w_CS2, w_CV3, w_CS3, w_CV4, w_CS4, w_CV5, w_CS5, List.getElem?_cons_zero, List.getElem?_cons_succ, List.set_cons_zero, List.set_cons_succ, List.length_cons, List.length_nil, List.map_cons, List.map_nil, List.sum_cons, List.sum_nil, List.nil_append, List.cons_append, Option.toList_some, Option.toList_none, Value.category, xok, va_rf, true_and, and_true, and_self, Nat.reduceAdd, Nat.reduceLT, Nat.reduceLeDiff, Nat.reduceEqDiff, Nat.reduceMul, beq_self_eq_true, decide_true, ite_true, ite_false, if_true, if_false, reduceIte, Bool.true_eq_false, Bool.false_eq_true, eq_self_iff_true, Nat.zero_le, not_true_eq_false, not_false_eq_true, forall_const, false_implies, implies_true, forall_false, stI_C, stI_N, stI_Z, stI_S, stI_L, stI_R, stL_C, stL_N, stL_Z, stL_S, stL_I, stL_R, stR_C, stR_N, stR_Z, stR_S, stR_I, stR_L, stA_C, stA_N, stA_Z, stA_S, stA_L, stA_R, stI_I, stL_L, stR_R, stA_I, stN_C, stN_N, stN_Z, stN_S, stN_I, stN_L, stN_R, stI_ne, stL_ne, stR_ne, hM.all, hil, hil2, hl, hin, hik, xin, e1, e2, p1, c1, l1, p2, c2, l2, ek, ne10, ne10L, ne01, ne01L, tt_imp, nt_imp, ff_imp, nf_imp, true_and, and_true, true_or, or_true, reduceIte]
    by_cases q1 : k = one
    · simp [q1]
    · by_cases q2 : hpI G 72 (60 + 7 * one) = hpI G 72 (60 + 7 * k)
      · simp [q1, q2]
      · simp [q1, q2]
theorem c_areTogether {G : XH} (hC : CS G) (Q : XR → Prop) {R : Nat → Int32} (hV : VW (hpI G 2) R) (one nl : Nat) (o : Option Nat) (hnl : nl ≤ 12) (hl : R 2 = nI nl) (h1 : one < nl) (h2 : ∀ k, o = some k → k < nl) : SP D_Post_areTogether [.ref 0, .int (nI one), .int (oI o)] G Q = Q (some (.int (if twF R one o then 1 else 0)), G) := by
  have e1 : 90 + nI one = nI (90 + one) := nI_add 90 one
  have p1 : 0 ≤ nI (90 + one) := nI_pos' (by omega)
  have c1 : (nI (90 + one)).toNatClampNeg = 90 + one := nI_clamp (by omega)
  have l1 : 90 + one < 138 := by omega
  rw [e_Post_areTogether]
  cases o with
  | none =>
    simp only [k_Post_areTogether_44, k_Post_areTogether_39, k_Post_areTogether_43, k_Post_areTogether_0, oI, twF, w_iadd, w_isub, w_imul, w_iand, w_ior, w_ixor, w_ishl, w_ishr, w_iushr, w_idiv, w_irem, w_ineg, w_ladd, w_lsub, w_lmul, w_ldiv, w_lrem, w_i2l, w_l2i, w_i2c, w_lcmp, w_dup_int, w_pop_int, w_dup_ref, w_pop_ref, w_dup_retAddr, w_pop_retAddr, w_dup2, w_I, w_L, w_Null, w_Ild, w_Lld, w_Ald, w_Ist, w_Lst, w_Ast, w_Iinc, w_if_eq, w_icmp_eq, w_if_ne, w_icmp_ne, w_if_lt, w_icmp_lt, w_if_ge, w_icmp_ge, w_if_gt, w_icmp_gt, w_if_le, w_icmp_le, w_GetI, w_GetL, w_GetR, w_PutI, w_PutZ, w_PutL, w_PutR, w_PutN, w_Iald, w_Zald, w_Lald, w_Aald, w_Iast, w_Zast, w_Last, w_AastR, w_AastN, w_Alen, w_New, w_NewA, w_Mna, w_Iret, w_Zret, w_Cret, w_Bret, w_Lret, w_AretR, w_AretN, w_Vret, w_Obj, w_IfNN, w_IfNR, w_Copy, w_Cln, w_Cast, w_SfA, w_SfI, w_SfQ, w_Str, w_ScLd, w_ScLen, w_CV0, w_CS0, w_CV1, w_CS1, w_CV2, w_CS2, w_CV3, w_CS3, w_CV4, w_CS4, w_CV5, w_CS5, List.getElem?_cons_zero, List.getElem?_cons_succ, List.set_cons_zero, List.set_cons_succ, List.length_cons, List.length_nil, List.map_cons, List.map_nil, List.sum_cons, List.sum_nil, List.nil_append, List.cons_append, Option.toList_some, Option.toList_none, Value.category, xok, va_rf, true_and, and_true, and_self, Nat.reduceAdd, Nat.reduceLT, Nat.reduceLeDiff, Nat.reduceEqDiff, Nat.reduceMul, beq_self_eq_true, decide_true, ite_true, ite_false, if_true, if_false, reduceIte, Bool.true_eq_false, Bool.false_eq_true, eq_self_iff_true, Nat.zero_le, not_true_eq_false, not_false_eq_true, forall_const, false_implies, implies_true, forall_false, hC.all, ne10, ne10L, ne01, ne01L, tt_imp, nt_imp, ff_imp, nf_imp, true_and, and_true, true_or, or_true, reduceIte]
  | some k =>
    have hk := h2 k rfl
    have hik := nI_rg hk (show nl < 2147483648 by omega)
    have hil2 := fun Q => c_isLetter hC Q (nI k)
    have e2 : 90 + nI k = nI (90 + k) := nI_add 90 k
    have p2 : 0 ≤ nI (90 + k) := nI_pos' (by omega)
    have c2 : (nI (90 + k)).toNatClampNeg = 90 + k := nI_clamp (by omega)
    have l2 : 90 + k < 138 := by omega
    have ek : (nI k = nI one) = (k = one) := propext ⟨fun q => (nI_eq (by omega) (by omega)).mp q, fun q => by rw [q]⟩
    have g : ∀ l, l < 12 → hpI G 2 (90 + l) = R (60 + 7 * l) := fun l hl => by
      rw [show 90 + l = 54 + 12 * 3 + l by omega, hV.2.2.2.2 l 3 hl (by omega)]
      congr 1
      omega
    have h5 : hpI G 2 5 = nI nl := hV.2.2.1.trans hl
    simp only [k_Post_areTogether_44, k_Post_areTogether_39, k_Post_areTogether_43, k_Post_areTogether_0, oI, oI_ne (show k < 12 by omega), twF, w_iadd, w_isub, w_imul, w_iand, w_ior, w_ixor, w_ishl, w_ishr, w_iushr, w_idiv, w_irem, w_ineg, w_ladd, w_lsub, w_lmul, w_ldiv, w_lrem, w_i2l, w_l2i, w_i2c, w_lcmp, w_dup_int, w_pop_int, w_dup_ref, w_pop_ref, w_dup_retAddr, w_pop_retAddr, w_dup2, w_I, w_L, w_Null, w_Ild, w_Lld, w_Ald, w_Ist, w_Lst, w_Ast, w_Iinc, w_if_eq, w_icmp_eq, w_if_ne, w_icmp_ne, w_if_lt, w_icmp_lt, w_if_ge, w_icmp_ge, w_if_gt, w_icmp_gt, w_if_le, w_icmp_le, w_GetI, w_GetL, w_GetR, w_PutI, w_PutZ, w_PutL, w_PutR, w_PutN, w_Iald, w_Zald, w_Lald, w_Aald, w_Iast, w_Zast, w_Last, w_AastR, w_AastN, w_Alen, w_New, w_NewA, w_Mna, w_Iret, w_Zret, w_Cret, w_Bret, w_Lret, w_AretR, w_AretN, w_Vret, w_Obj, w_IfNN, w_IfNR, w_Copy, w_Cln, w_Cast, w_SfA, w_SfI, w_SfQ, w_Str, w_ScLd, w_ScLen, w_CV0, w_CS0, w_CV1, w_CS1, w_CV2, w_CS2, w_CV3, w_CS3, w_CV4, w_CS4, w_CV5, w_CS5, List.getElem?_cons_zero, List.getElem?_cons_succ, List.set_cons_zero, List.set_cons_succ, List.length_cons, List.length_nil, List.map_cons, List.map_nil, List.sum_cons, List.sum_nil, List.nil_append, List.cons_append, Option.toList_some, Option.toList_none, Value.category, xok, va_rf, true_and, and_true, and_self, Nat.reduceAdd, Nat.reduceLT, Nat.reduceLeDiff, Nat.reduceEqDiff, Nat.reduceMul, beq_self_eq_true, decide_true, ite_true, ite_false, if_true, if_false, reduceIte, Bool.true_eq_false, Bool.false_eq_true, eq_self_iff_true, Nat.zero_le, not_true_eq_false, not_false_eq_true, forall_const, false_implies, implies_true, forall_false, stI_C, stI_N, stI_Z, stI_S, stI_L, stI_R, stL_C, stL_N, stL_Z, stL_S, stL_I, stL_R, stR_C, stR_N, stR_Z, stR_S, stR_I, stR_L, stA_C, stA_N, stA_Z, stA_S, stA_L, stA_R, stI_I, stL_L, stR_R, stA_I, stN_C, stN_N, stN_Z, stN_S, stN_I, stN_L, stN_R, stI_ne, stL_ne, stR_ne, hC.all, hil2, h5, hik, xin, e1, e2, p1, c1, l1, p2, c2, l2, ek, g one (by omega), g k (by omega), ne10, ne10L, ne01, ne01L, tt_imp, nt_imp, ff_imp, nf_imp, true_and, and_true, true_or, or_true, reduceIte]
    by_cases q1 : k = one
    · simp [q1]
    · by_cases q2 : R (60 + 7 * one) = R (60 + 7 * k)
      · simp [q1, q2]
      · have q3 : ¬ R (60 + 7 * k) = R (60 + 7 * one) := fun z => q2 z.symm
        simp [q1, q2, q3]
