theorem rx_1 {K : XK} {G : XH} {Q : XR → Prop} (hM : MS G) (hb : hpI G 70 19 = 0) {ts : Int32} (h : SP D_Mdl_readPart [.ref 70] G (fun z => ∃ v : Int32, z.1 = some (.int v) ∧ WP K [some (.ref 70), some (.int ts), some (.int v)] [] z.2 Q)) : WP (f_Mdl_readExpression_20 K) [some (.ref 70), some (.int ts), some (.int 1)] [] G Q := by
  have n1 : ((1 : Int32) = 4) = False := eq_false (by decide)
  simp only [f_Mdl_readExpression_20, k_Mdl_readExpression_72, w_iadd, w_isub, w_imul, w_iand, w_ior, w_ixor, w_ishl, w_ishr, w_iushr, w_idiv, w_irem, w_ineg, w_ladd, w_lsub, w_lmul, w_ldiv, w_lrem, w_i2l, w_l2i, w_i2c, w_lcmp, w_dup_int, w_pop_int, w_dup_ref, w_pop_ref, w_dup_retAddr, w_pop_retAddr, w_dup2, w_I, w_L, w_Null, w_Ild, w_Lld, w_Ald, w_Ist, w_Lst, w_Ast, w_Iinc, w_if_eq, w_icmp_eq, w_if_ne, w_icmp_ne, w_if_lt, w_icmp_lt, w_if_ge, w_icmp_ge, w_if_gt, w_icmp_gt, w_if_le, w_icmp_le, w_GetI, w_GetL, w_GetR, w_PutI, w_PutZ, w_PutL, w_PutR, w_PutN, w_Iald, w_Zald, w_Lald, w_Aald, w_Iast, w_Zast, w_Last, w_AastR, w_AastN, w_Alen, w_New, w_NewA, w_Mna, w_Iret, w_Zret, w_Cret, w_Bret, w_Lret, w_AretR, w_AretN, w_Vret, w_Obj, w_IfNN, w_IfNR, w_Copy, w_Cln, w_Cast, w_SfA, w_SfI, w_SfQ, w_Str, w_ScLd, w_ScLen, w_CV0, w_CS0, w_CV1, w_CS1, w_CV2, w_CS2, w_CV3, w_CS3, w_CV4, w_CS4, w_CV5, w_CS5, List.getElem?_cons_zero, List.getElem?_cons_succ, List.set_cons_zero, List.set_cons_succ, List.length_cons, List.length_nil, List.map_cons, List.map_nil, List.sum_cons, List.sum_nil, List.nil_append, List.cons_append, Option.toList_some, Option.toList_none, Value.category, xok, va_rf, true_and, and_true, and_self, Nat.reduceAdd, Nat.reduceLT, Nat.reduceLeDiff, Nat.reduceEqDiff, Nat.reduceMul, beq_self_eq_true, decide_true, ite_true, ite_false, if_true, if_false, reduceIte, Bool.true_eq_false, Bool.false_eq_true, eq_self_iff_true, Nat.zero_le, not_true_eq_false, not_false_eq_true, forall_const, false_implies, implies_true, forall_false, hM.all, hb, n1, ne10, ne10L, ne01, ne01L, tt_imp, nt_imp, ff_imp, nf_imp, true_and, and_true, true_or, or_true, reduceIte]
  refine SP.mono h ?_
  rintro ⟨z1, z2⟩ ⟨v, rfl, hv⟩
  simp only [Option.toList_some, List.cons_append, List.nil_append, w_iadd, w_isub, w_imul, w_iand, w_ior, w_ixor, w_ishl, w_ishr, w_iushr, w_idiv, w_irem, w_ineg, w_ladd, w_lsub, w_lmul, w_ldiv, w_lrem, w_i2l, w_l2i, w_i2c, w_lcmp, w_dup_int, w_pop_int, w_dup_ref, w_pop_ref, w_dup_retAddr, w_pop_retAddr, w_dup2, w_I, w_L, w_Null, w_Ild, w_Lld, w_Ald, w_Ist, w_Lst, w_Ast, w_Iinc, w_if_eq, w_icmp_eq, w_if_ne, w_icmp_ne, w_if_lt, w_icmp_lt, w_if_ge, w_icmp_ge, w_if_gt, w_icmp_gt, w_if_le, w_icmp_le, w_GetI, w_GetL, w_GetR, w_PutI, w_PutZ, w_PutL, w_PutR, w_PutN, w_Iald, w_Zald, w_Lald, w_Aald, w_Iast, w_Zast, w_Last, w_AastR, w_AastN, w_Alen, w_New, w_NewA, w_Mna, w_Iret, w_Zret, w_Cret, w_Bret, w_Lret, w_AretR, w_AretN, w_Vret, w_Obj, w_IfNN, w_IfNR, w_Copy, w_Cln, w_Cast, w_SfA, w_SfI, w_SfQ, w_Str, w_ScLd, w_ScLen, w_CV0, w_CS0, w_CV1, w_CS1, w_CV2, w_CS2, w_CV3, w_CS3, w_CV4, w_CS4, w_CV5, w_CS5, List.getElem?_cons_zero, List.getElem?_cons_succ, List.set_cons_zero, List.set_cons_succ, List.length_cons, List.length_nil, List.map_cons, List.map_nil, List.sum_cons, List.sum_nil, List.nil_append, List.cons_append, Option.toList_some, Option.toList_none, Value.category, xok, va_rf, true_and, and_true, and_self, Nat.reduceAdd, Nat.reduceLT, Nat.reduceLeDiff, Nat.reduceEqDiff, Nat.reduceMul, beq_self_eq_true, decide_true, ite_true, ite_false, if_true, if_false, reduceIte, Bool.true_eq_false, Bool.false_eq_true, eq_self_iff_true, Nat.zero_le, not_true_eq_false, not_false_eq_true, forall_const, false_implies, implies_true, forall_false, ne10, ne10L, ne01, ne01L, tt_imp, nt_imp, ff_imp, nf_imp, true_and, and_true, true_or, or_true, reduceIte]
  exact hv
theorem rx_0 {K : XK} {G : XH} {Q : XR → Prop} (hM : MS G) (hb : hpI G 70 19 = 0) {ts : Int32} (h : SP D_Mdl_readPlain [.ref 70] G (fun z => ∃ v : Int32, z.1 = some (.int v) ∧ WP K [some (.ref 70), some (.int ts), some (.int v)] [] z.2 Q)) : WP (f_Mdl_readExpression_20 K) [some (.ref 70), some (.int ts), some (.int 0)] [] G Q := by
  have n1 : ((0 : Int32) = 4) = False := eq_false (by decide)
  simp only [f_Mdl_readExpression_20, k_Mdl_readExpression_72, w_iadd, w_isub, w_imul, w_iand, w_ior, w_ixor, w_ishl, w_ishr, w_iushr, w_idiv, w_irem, w_ineg, w_ladd, w_lsub, w_lmul, w_ldiv, w_lrem, w_i2l, w_l2i, w_i2c, w_lcmp, w_dup_int, w_pop_int, w_dup_ref, w_pop_ref, w_dup_retAddr, w_pop_retAddr, w_dup2, w_I, w_L, w_Null, w_Ild, w_Lld, w_Ald, w_Ist, w_Lst, w_Ast, w_Iinc, w_if_eq, w_icmp_eq, w_if_ne, w_icmp_ne, w_if_lt, w_icmp_lt, w_if_ge, w_icmp_ge, w_if_gt, w_icmp_gt, w_if_le, w_icmp_le, w_GetI, w_GetL, w_GetR, w_PutI, w_PutZ, w_PutL, w_PutR, w_PutN, w_Iald, w_Zald, w_Lald, w_Aald, w_Iast, w_Zast, w_Last, w_AastR, w_AastN, w_Alen, w_New, w_NewA, w_Mna, w_Iret, w_Zret, w_Cret, w_Bret, w_Lret, w_AretR, w_AretN, w_Vret, w_Obj, w_IfNN, w_IfNR, w_Copy, w_Cln, w_Cast, w_SfA, w_SfI, w_SfQ, w_Str, w_ScLd, w_ScLen, w_CV0, w_CS0, w_CV1, w_CS1, w_CV2, w_CS2, w_CV3, w_CS3, w_CV4, w_CS4, w_CV5, w_CS5, List.getElem?_cons_zero, List.getElem?_cons_succ, List.set_cons_zero, List.set_cons_succ, List.length_cons, List.length_nil, List.map_cons, List.map_nil, List.sum_cons, List.sum_nil, List.nil_append, List.cons_append, Option.toList_some, Option.toList_none, Value.category, xok, va_rf, true_and, and_true, and_self, Nat.reduceAdd, Nat.reduceLT, Nat.reduceLeDiff, Nat.reduceEqDiff, Nat.reduceMul, beq_self_eq_true, decide_true, ite_true, ite_false, if_true, if_false, reduceIte, Bool.true_eq_false, Bool.false_eq_true, eq_self_iff_true, Nat.zero_le, not_true_eq_false, not_false_eq_true, forall_const, false_implies, implies_true, forall_false, hM.all, hb, n1, ne10, ne10L, ne01, ne01L, tt_imp, nt_imp, ff_imp, nf_imp, true_and, and_true, true_or, or_true, reduceIte]
  refine SP.mono h ?_
  rintro ⟨z1, z2⟩ ⟨v, rfl, hv⟩
  simp only [Option.toList_some, List.cons_append, List.nil_append, w_iadd, w_isub, w_imul, w_iand, w_ior, w_ixor, w_ishl, w_ishr, w_iushr, w_idiv, w_irem, w_ineg, w_ladd, w_lsub, w_lmul, w_ldiv, w_lrem, w_i2l, w_l2i, w_i2c, w_lcmp, w_dup_int, w_pop_int, w_dup_ref, w_pop_ref, w_dup_retAddr, w_pop_retAddr, w_dup2, w_I, w_L, w_Null, w_Ild, w_Lld, w_Ald, w_Ist, w_Lst, w_Ast, w_Iinc, w_if_eq, w_icmp_eq, w_if_ne, w_icmp_ne, w_if_lt, w_icmp_lt, w_if_ge, w_icmp_ge, w_if_gt, w_icmp_gt, w_if_le, w_icmp_le, w_GetI, w_GetL, w_GetR, w_PutI, w_PutZ, w_PutL, w_PutR, w_PutN, w_Iald, w_Zald, w_Lald, w_Aald, w_Iast, w_Zast, w_Last, w_AastR, w_AastN, w_Alen, w_New, w_NewA, w_Mna, w_Iret, w_Zret, w_Cret, w_Bret, w_Lret, w_AretR, w_AretN, w_Vret, w_Obj, w_IfNN, w_IfNR, w_Copy, w_Cln, w_Cast, w_SfA, w_SfI, w_SfQ, w_Str, w_ScLd, w_ScLen, w_CV0, w_CS0, w_CV1, w_CS1, w_CV2, w_CS2, w_CV3, w_CS3, w_CV4, w_CS4, w_CV5, w_CS5, List.getElem?_cons_zero, List.getElem?_cons_succ, List.set_cons_zero, List.set_cons_succ, List.length_cons, List.length_nil, List.map_cons, List.map_nil, List.sum_cons, List.sum_nil, List.nil_append, List.cons_append, Option.toList_some, Option.toList_none, Value.category, xok, va_rf, true_and, and_true, and_self, Nat.reduceAdd, Nat.reduceLT, Nat.reduceLeDiff, Nat.reduceEqDiff, Nat.reduceMul, beq_self_eq_true, decide_true, ite_true, ite_false, if_true, if_false, reduceIte, Bool.true_eq_false, Bool.false_eq_true, eq_self_iff_true, Nat.zero_le, not_true_eq_false, not_false_eq_true, forall_const, false_implies, implies_true, forall_false, ne10, ne10L, ne01, ne01L, tt_imp, nt_imp, ff_imp, nf_imp, true_and, and_true, true_or, or_true, reduceIte]
  exact hv
theorem rx_3 {K : XK} {G : XH} {Q : XR → Prop} (hM : MS G) (hb : hpI G 70 19 = 0) {ts : Int32} (h : SP D_Mdl_behindSum [.ref 70, .int ts] G (fun z => ∃ v : Int32, z.1 = some (.int v) ∧ WP K [some (.ref 70), some (.int ts), some (.int v)] [] z.2 Q)) : WP (f_Mdl_readExpression_20 K) [some (.ref 70), some (.int ts), some (.int 3)] [] G Q := by
  have n1 : ((3 : Int32) = 4) = False := eq_false (by decide)
  have n2 : ((3 : Int32) = 0) = False := eq_false (by decide)
  have n3 : ((3 : Int32) = 1) = False := eq_false (by decide)
  simp only [f_Mdl_readExpression_20, k_Mdl_readExpression_72, w_iadd, w_isub, w_imul, w_iand, w_ior, w_ixor, w_ishl, w_ishr, w_iushr, w_idiv, w_irem, w_ineg, w_ladd, w_lsub, w_lmul, w_ldiv, w_lrem, w_i2l, w_l2i, w_i2c, w_lcmp, w_dup_int, w_pop_int, w_dup_ref, w_pop_ref, w_dup_retAddr, w_pop_retAddr, w_dup2, w_I, w_L, w_Null, w_Ild, w_Lld, w_Ald, w_Ist, w_Lst, w_Ast, w_Iinc, w_if_eq, w_icmp_eq, w_if_ne, w_icmp_ne, w_if_lt, w_icmp_lt, w_if_ge, w_icmp_ge, w_if_gt, w_icmp_gt, w_if_le, w_icmp_le, w_GetI, w_GetL, w_GetR, w_PutI, w_PutZ, w_PutL, w_PutR, w_PutN, w_Iald, w_Zald, w_Lald, w_Aald, w_Iast, w_Zast, w_Last, w_AastR, w_AastN, w_Alen, w_New, w_NewA, w_Mna, w_Iret, w_Zret, w_Cret, w_Bret, w_Lret, w_AretR, w_AretN, w_Vret, w_Obj, w_IfNN, w_IfNR, w_Copy, w_Cln, w_Cast, w_SfA, w_SfI, w_SfQ, w_Str, w_ScLd, w_ScLen, w_CV0, w_CS0, w_CV1, w_CS1, w_CV2, w_CS2, w_CV3, w_CS3, w_CV4, w_CS4, w_CV5, w_CS5, List.getElem?_cons_zero, List.getElem?_cons_succ, List.set_cons_zero, List.set_cons_succ, List.length_cons, List.length_nil, List.map_cons, List.map_nil, List.sum_cons, List.sum_nil, List.nil_append, List.cons_append, Option.toList_some, Option.toList_none, Value.category, xok, va_rf, true_and, and_true, and_self, Nat.reduceAdd, Nat.reduceLT, Nat.reduceLeDiff, Nat.reduceEqDiff, Nat.reduceMul, beq_self_eq_true, decide_true, ite_true, ite_false, if_true, if_false, reduceIte, Bool.true_eq_false, Bool.false_eq_true, eq_self_iff_true, Nat.zero_le, not_true_eq_false, not_false_eq_true, forall_const, false_implies, implies_true, forall_false, hM.all, hb, n1, n2, n3, ne10, ne10L, ne01, ne01L, tt_imp, nt_imp, ff_imp, nf_imp, true_and, and_true, true_or, or_true, reduceIte]
  refine SP.mono h ?_
  rintro ⟨z1, z2⟩ ⟨v, rfl, hv⟩
  simp only [Option.toList_some, List.cons_append, List.nil_append, w_iadd, w_isub, w_imul, w_iand, w_ior, w_ixor, w_ishl, w_ishr, w_iushr, w_idiv, w_irem, w_ineg, w_ladd, w_lsub, w_lmul, w_ldiv, w_lrem, w_i2l, w_l2i, w_i2c, w_lcmp, w_dup_int, w_pop_int, w_dup_ref, w_pop_ref, w_dup_retAddr, w_pop_retAddr, w_dup2, w_I, w_L, w_Null, w_Ild, w_Lld, w_Ald, w_Ist, w_Lst, w_Ast, w_Iinc, w_if_eq, w_icmp_eq, w_if_ne, w_icmp_ne, w_if_lt, w_icmp_lt, w_if_ge, w_icmp_ge, w_if_gt, w_icmp_gt, w_if_le, w_icmp_le, w_GetI, w_GetL, w_GetR, w_PutI, w_PutZ, w_PutL, w_PutR, w_PutN, w_Iald, w_Zald, w_Lald, w_Aald, w_Iast, w_Zast, w_Last, w_AastR, w_AastN, w_Alen, w_New, w_NewA, w_Mna, w_Iret, w_Zret, w_Cret, w_Bret, w_Lret, w_AretR, w_AretN, w_Vret, w_Obj, w_IfNN, w_IfNR, w_Copy, w_Cln, w_Cast, w_SfA, w_SfI, w_SfQ, w_Str, w_ScLd, w_ScLen, w_CV0, w_CS0, w_CV1, w_CS1, w_CV2, w_CS2, w_CV3, w_CS3, w_CV4, w_CS4, w_CV5, w_CS5, List.getElem?_cons_zero, List.getElem?_cons_succ, List.set_cons_zero, List.set_cons_succ, List.length_cons, List.length_nil, List.map_cons, List.map_nil, List.sum_cons, List.sum_nil, List.nil_append, List.cons_append, Option.toList_some, Option.toList_none, Value.category, xok, va_rf, true_and, and_true, and_self, Nat.reduceAdd, Nat.reduceLT, Nat.reduceLeDiff, Nat.reduceEqDiff, Nat.reduceMul, beq_self_eq_true, decide_true, ite_true, ite_false, if_true, if_false, reduceIte, Bool.true_eq_false, Bool.false_eq_true, eq_self_iff_true, Nat.zero_le, not_true_eq_false, not_false_eq_true, forall_const, false_implies, implies_true, forall_false, ne10, ne10L, ne01, ne01L, tt_imp, nt_imp, ff_imp, nf_imp, true_and, and_true, true_or, or_true, reduceIte]
  exact hv
theorem rx_2 {K : XK} {G : XH} {Q : XR → Prop} (hM : MS G) (hb : hpI G 70 19 = 0) {ts : Int32} (h : SP D_Mdl_behindTest [.ref 70] G (fun z => ∃ v : Int32, z.1 = some (.int v) ∧ WP K [some (.ref 70), some (.int ts), some (.int v)] [] z.2 Q)) : WP (f_Mdl_readExpression_20 K) [some (.ref 70), some (.int ts), some (.int 2)] [] G Q := by
  have n1 : ((2 : Int32) = 4) = False := eq_false (by decide)
  have n2 : ((2 : Int32) = 0) = False := eq_false (by decide)
  have n3 : ((2 : Int32) = 1) = False := eq_false (by decide)
  have n4 : ((2 : Int32) = 3) = False := eq_false (by decide)
  simp only [f_Mdl_readExpression_20, k_Mdl_readExpression_72, w_iadd, w_isub, w_imul, w_iand, w_ior, w_ixor, w_ishl, w_ishr, w_iushr, w_idiv, w_irem, w_ineg, w_ladd, w_lsub, w_lmul, w_ldiv, w_lrem, w_i2l, w_l2i, w_i2c, w_lcmp, w_dup_int, w_pop_int, w_dup_ref, w_pop_ref, w_dup_retAddr, w_pop_retAddr, w_dup2, w_I, w_L, w_Null, w_Ild, w_Lld, w_Ald, w_Ist, w_Lst, w_Ast, w_Iinc, w_if_eq, w_icmp_eq, w_if_ne, w_icmp_ne, w_if_lt, w_icmp_lt, w_if_ge, w_icmp_ge, w_if_gt, w_icmp_gt, w_if_le, w_icmp_le, w_GetI, w_GetL, w_GetR, w_PutI, w_PutZ, w_PutL, w_PutR, w_PutN, w_Iald, w_Zald, w_Lald, w_Aald, w_Iast, w_Zast, w_Last, w_AastR, w_AastN, w_Alen, w_New, w_NewA, w_Mna, w_Iret, w_Zret, w_Cret, w_Bret, w_Lret, w_AretR, w_AretN, w_Vret, w_Obj, w_IfNN, w_IfNR, w_Copy, w_Cln, w_Cast, w_SfA, w_SfI, w_SfQ, w_Str, w_ScLd, w_ScLen, w_CV0, w_CS0, w_CV1, w_CS1, w_CV2, w_CS2, w_CV3, w_CS3, w_CV4, w_CS4, w_CV5, w_CS5, List.getElem?_cons_zero, List.getElem?_cons_succ, List.set_cons_zero, List.set_cons_succ, List.length_cons, List.length_nil, List.map_cons, List.map_nil, List.sum_cons, List.sum_nil, List.nil_append, List.cons_append, Option.toList_some, Option.toList_none, Value.category, xok, va_rf, true_and, and_true, and_self, Nat.reduceAdd, Nat.reduceLT, Nat.reduceLeDiff, Nat.reduceEqDiff, Nat.reduceMul, beq_self_eq_true, decide_true, ite_true, ite_false, if_true, if_false, reduceIte, Bool.true_eq_false, Bool.false_eq_true, eq_self_iff_true, Nat.zero_le, not_true_eq_false, not_false_eq_true, forall_const, false_implies, implies_true, forall_false, hM.all, hb, n1, n2, n3, n4, ne10, ne10L, ne01, ne01L, tt_imp, nt_imp, ff_imp, nf_imp, true_and, and_true, true_or, or_true, reduceIte]
  refine SP.mono h ?_
  rintro ⟨z1, z2⟩ ⟨v, rfl, hv⟩
  simp only [Option.toList_some, List.cons_append, List.nil_append, w_iadd, w_isub, w_imul, w_iand, w_ior, w_ixor, w_ishl, w_ishr, w_iushr, w_idiv, w_irem, w_ineg, w_ladd, w_lsub, w_lmul, w_ldiv, w_lrem, w_i2l, w_l2i, w_i2c, w_lcmp, w_dup_int, w_pop_int, w_dup_ref, w_pop_ref, w_dup_retAddr, w_pop_retAddr, w_dup2, w_I, w_L, w_Null, w_Ild, w_Lld, w_Ald, w_Ist, w_Lst, w_Ast, w_Iinc, w_if_eq, w_icmp_eq, w_if_ne, w_icmp_ne, w_if_lt, w_icmp_lt, w_if_ge, w_icmp_ge, w_if_gt, w_icmp_gt, w_if_le, w_icmp_le, w_GetI, w_GetL, w_GetR, w_PutI, w_PutZ, w_PutL, w_PutR, w_PutN, w_Iald, w_Zald, w_Lald, w_Aald, w_Iast, w_Zast, w_Last, w_AastR, w_AastN, w_Alen, w_New, w_NewA, w_Mna, w_Iret, w_Zret, w_Cret, w_Bret, w_Lret, w_AretR, w_AretN, w_Vret, w_Obj, w_IfNN, w_IfNR, w_Copy, w_Cln, w_Cast, w_SfA, w_SfI, w_SfQ, w_Str, w_ScLd, w_ScLen, w_CV0, w_CS0, w_CV1, w_CS1, w_CV2, w_CS2, w_CV3, w_CS3, w_CV4, w_CS4, w_CV5, w_CS5, List.getElem?_cons_zero, List.getElem?_cons_succ, List.set_cons_zero, List.set_cons_succ, List.length_cons, List.length_nil, List.map_cons, List.map_nil, List.sum_cons, List.sum_nil, List.nil_append, List.cons_append, Option.toList_some, Option.toList_none, Value.category, xok, va_rf, true_and, and_true, and_self, Nat.reduceAdd, Nat.reduceLT, Nat.reduceLeDiff, Nat.reduceEqDiff, Nat.reduceMul, beq_self_eq_true, decide_true, ite_true, ite_false, if_true, if_false, reduceIte, Bool.true_eq_false, Bool.false_eq_true, eq_self_iff_true, Nat.zero_le, not_true_eq_false, not_false_eq_true, forall_const, false_implies, implies_true, forall_false, ne10, ne10L, ne01, ne01L, tt_imp, nt_imp, ff_imp, nf_imp, true_and, and_true, true_or, or_true, reduceIte]
  exact hv
/-- a fault -/
def ERm (b : Nat → Nat) (len : Nat) (od : Bool) (ts : Int32) (G : XH) (e : Nat) (Q : XR → Prop) : Prop := ∀ (N' : Nat) (G' : XH) (turn : Int32), 1 ≤ N' → Fr WMx G G' → (∃ c J q r, MST G' true b len od e c J q r) → WP (xloop f_Mdl_readExpression_20 N') [some (.ref 70), some (.int ts), some (.int turn)] [] G' Q
/-- a reading of the model goes on -/
def OKk (b : Nat → Nat) (len : Nat) (od : Bool) (ts tout : Int32) (slack lev : Nat) (E : Nat → Prop) (G : XH) (J : Nat → Nat × Nat) (q c : Nat) (t : List (Nat × Nat)) (s : Nat × Nat × SF) (Q : XR → Prop) : Prop := ∀ (N' : Nat) (G' : XH) (J' : Nat → Nat × Nat) (q' : Nat) (r : List (Nat × Nat)), 1210 + slack ≤ N' + 3 * s.1 → Fr WMx G G' → MST G' false b len od s.1 s.2.1 J' q' (r ++ t) → (∀ j, j < q → J' j = J j) → q ≤ q' → LvA lev r → JAt q q' r → Pnd (if od then 21 else 10) od r J' q q' (s.2.1 - c) s.2.2 → E s.1 → WP (xloop f_Mdl_readExpression_20 N') [some (.ref 70), some (.int ts), some (.int tout)] [] G' Q
def MSp (b : Nat → Nat) (len : Nat) (od : Bool) (ts : Int32) (tin : Int32 → Nat → Prop) (tout : Int32) (slack lev k : Nat) (tst : Bool) (E : Nat → Prop) (g : Nat → Nat → GR) : Prop := ∀ (G : XH) (J : Nat → Nat × Nat) (p c q : Nat) (t : List (Nat × Nat)) (N : Nat) (turn : Int32) (Q : XR → Prop), MST G false b len od p c J q t → LvB lev t → (tst = true → ¬ inB t = nI 32) → nBr t + k = 8 → tin turn p → 1210 ≤ N + 3 * p → (∀ e, g p c = .error e → ERm b len od ts G e Q) → (∀ s, g p c = .ok s → OKk b len od ts tout slack lev E G J q c t s Q) → WP (xloop f_Mdl_readExpression_20 N) [some (.ref 70), some (.int ts), some (.int turn)] [] G Q
/-- a sum may begin -/
def tnP (b : Nat → Nat) (len : Nat) (turn : Int32) (p : Nat) : Prop := turn = 1 ∨ (turn = 0 ∧ isW b len wNot p = false ∧ isS b len 40 p = false)
theorem LvA_7 {r : List (Nat × Nat)} (h : LvA 7 r) : r = [] := by
  cases r with
  | nil => rfl
  | cons x r =>
    have := (h x (List.mem_cons_self ..)).1
    have := bnd_le x.1
    omega
theorem JAt_nil {p q : Nat} : JAt p q [] := fun x hx => by cases hx
theorem LvA_nil {lev : Nat} : LvA lev [] := fun x hx => by cases hx
theorem MSp_part {b : Nat → Nat} {len : Nat} {od : Bool} {ts : Int32} {k : Nat} {gs : Option (Nat → Nat → GR)} {E : Nat → Prop} (hE : ∀ p, E p → opB b len p = none) (hg : ∀ g, gs = some g → ∃ k', k = k' + 1 ∧ MSp b len od ts (tnP b len) 3 2 5 k' false E g ∧ GOK len g (VB (if od then 21 else 10))) (hN : gs = none → k = 0) : MSp b len od ts (tnP b len) 3 2 7 k false (fun _ => True) (gPart b len od gs) := by
  intro G J p c q t N turn Q h hB hT hk htn hNp hErr hOk
  have hp := h.1.2.2.2.2.2.2.2
  have l400 := h.1.2.1.1
  obtain ⟨N1, rfl⟩ : ∃ N1, N = N1 + 1 := ⟨N - 1, by omega⟩
  have hM := h.M
  have b19 : hpI G 70 19 = 0 := h.2.2.2.1
  rw [xloop_s]
  have hrp : SP D_Mdl_readPart [.ref 70] G (fun z => ∃ v : Int32, z.1 = some (.int v) ∧ WP (xloop f_Mdl_readExpression_20 N1) [some (.ref 70), some (.int ts), some (.int v)] [] z.2 Q) := by
    refine SP.mono (s_readPart h) ?_
    rintro ⟨v, G1⟩ ⟨fr1, hz⟩
    dsimp only at fr1 hz
    rcases hz with ⟨q91, rfl, hz⟩ | ⟨q91, rfl, hz⟩
    · refine ⟨1, rfl, ?_⟩
      have hpl := isS_lt q91
      have npl := (nxB_le (b := b) (len := len) (p := p)).2 hpl
      rcases hz with ⟨q8, h1⟩ | ⟨q8, h1⟩
      · cases hgs : gs with
        | none => have := hN hgs; omega
        | some g =>
          obtain ⟨k', ek, hsp, hok⟩ := hg g hgs
          have hk1 := hok (nxB b len p) c nxB_le.1
          refine hsp G1 J (nxB b len p) c q ((32, 0) :: t) N1 1 Q h1 (fun x t' e => by cases e; decide) (fun z => by cases z) (by rw [nBr, if_pos (by decide)]; omega) (Or.inl rfl) (by omega) ?_ ?_
          · intro e he
            have ee : gPart b len od gs p c = .error e := by unfold gPart; rw [if_pos q91, hgs]; dsimp only; rw [he]
            intro N' G' turn' z1 z2 z3
            exact hErr e ee N' G' turn' z1 (fr1.trans z2) z3
          · intro s hs N' G' J' q' r z1 z2 z3 z4 z5 z6 z7 z8 z9
            rw [hs] at hk1
            dsimp only at hk1
            obtain ⟨N2, rfl⟩ : ∃ N2, N' = N2 + 1 := ⟨N' - 1, by omega⟩
            have hM' := z3.M
            have c19 : hpI G' 70 19 = 0 := z3.2.2.2.1
            rw [xloop_s]
            refine rx_3 hM' c19 (SP.mono (s_bsSq z3 (hE _ z9) z6 ts) ?_)
            rintro ⟨v2, G2⟩ ⟨rfl, fr2, hy⟩
            dsimp only at fr2 hy
            refine ⟨3, rfl, ?_⟩
            rcases hy with ⟨q93, h2⟩ | ⟨q93, h2⟩
            · have ee : gPart b len od gs p c = .ok (nxB b len s.1, s.2.1, s.2.2) := by unfold gPart; rw [if_pos q91, hgs]; dsimp only; rw [hs]; dsimp only; rw [if_pos q93]
              have n3 := (nxB_le (b := b) (len := len) (p := s.1)).2 (isS_lt q93)
              have hlo := stF_low r J' q' q q' z5 z7
              refine hOk _ ee N2 G2 _ _ [] (by show 1210 + 2 ≤ N2 + 3 * nxB b len s.1; omega) (fr1.trans (z2.trans fr2)) h2 (fun j hj => by rw [hlo.1 j hj]; exact z4 j hj) (by omega) LvA_nil JAt_nil z8 trivial
            · have ee : gPart b len od gs p c = .error s.1 := by unfold gPart; rw [if_pos q91, hgs]; dsimp only; rw [hs]; dsimp only; rw [if_neg (by rw [q93]; exact Bool.false_ne_true)]
              exact hErr _ ee N2 G2 3 (by omega) (fr1.trans (z2.trans fr2)) ⟨_, _, _, _, h2⟩
      · have k0 : k = 0 := by omega
        have egs : gs = none := by
          cases hgs : gs with
          | none => rfl
          | some g => obtain ⟨k', ek, _⟩ := hg g hgs; omega
        have ee : gPart b len od gs p c = .error p := by unfold gPart; rw [if_pos q91, egs]
        exact hErr _ ee N1 G1 1 (by omega) fr1 ⟨_, _, _, _, h1⟩
    · refine ⟨3, rfl, ?_⟩
      have eg : gPart b len od gs p c = gPart b len od none p c := by
        have n91 : ¬ isS b len 91 p = true := by rw [q91]; exact Bool.false_ne_true
        unfold gPart
        rw [if_neg n91, if_neg n91]
      cases hgp : gPart b len od none p c with
      | error e =>
        rw [hgp] at hz
        obtain ⟨c', J', q', hz⟩ := hz
        exact hErr e (eg.trans hgp) N1 G1 3 (by omega) fr1 ⟨_, _, _, _, hz⟩
      | ok s =>
        rw [hgp] at hz
        obtain ⟨J', z1, z2, z3, z4, z5⟩ := hz
        refine hOk s (eg.trans hgp) N1 G1 J' (q + 1) [] (by omega) fr1 z1 z2 (by omega) LvA_nil JAt_nil ?_ trivial
        rw [show s.2.1 - c = 1 by omega]
        exact z3
  rcases htn with rfl | ⟨rfl, y1, y2⟩
  · exact rx_1 hM b19 hrp
  · exact rx_0 hM b19 (s_plPart h y1 y2 hrp (fun z hz => by obtain ⟨v, e, _⟩ := hz; exact ⟨v, e⟩))
/-- a row of parts of a sum -/
theorem MSp_seq {b : Nat → Nat} {len : Nat} {od : Bool} {ts : Int32} {k lev : Nat} {E1 : Nat → Prop} {ops : Nat → Option Nat} {sub : Nat → Nat → GR} {V : SF → Prop} (hl : 5 ≤ lev ∧ lev ≤ 6) (hops : ∀ p o, ops p = some o → E1 p → opB b len p = some (o + 18) ∧ bnd (o + 18) = lev) (hsub : MSp b len od ts (tnP b len) 3 2 (lev + 1) k false E1 sub) (hok : GOK len sub V) : MSp b len od ts (tnP b len) 3 2 lev k false (fun p => E1 p ∧ ops p = none) (gSeq b len ops sub) := by
  intro G J p c q t N turn Q h hB hT hk htn hNp hErr hOk
  have hp := h.1.2.2.2.2.2.2.2
  have l400 := h.1.2.1.1
  have hk0 := hok p c hp
  refine hsub G J p c q t N turn Q h (fun x t' e => by have := hB x t' e; omega) hT hk htn hNp (fun e he => hErr e (gSeq_e he)) (fun s hs => ?_)
  rw [hs] at hk0
  dsimp only at hk0
  rw [gSeq_s hs] at hErr hOk
  have hloop : ∀ (n p1 c1 : Nat) (f : SF) (N' : Nat) (G' : XH) (J' : Nat → Nat × Nat) (q' : Nat) (r : List (Nat × Nat)), len ≤ p1 + n → (∀ e, gRep b len ops sub n p1 c1 f = .error e → ERm b len od ts G e Q) → (∀ s, gRep b len ops sub n p1 c1 f = .ok s → OKk b len od ts 3 2 lev (fun p => E1 p ∧ ops p = none) G J q c t s Q) → 1212 ≤ N' + 3 * p1 → c < c1 → Fr WMx G G' → MST G' false b len od p1 c1 J' q' (r ++ t) → (∀ j, j < q → J' j = J j) → q ≤ q' → LvA lev r → JAt q q' r → Pnd (if od then 21 else 10) od r J' q q' (c1 - c) f → E1 p1 → WP (xloop f_Mdl_readExpression_20 N') [some (.ref 70), some (.int ts), some (.int 3)] [] G' Q := by
    intro n
    induction n with
    | zero =>
      intro p1 c1 f N' G' J' q' r hn he ho hN' hc fr hm hlow hq hA hJ hP hE
      have hno : ops p1 = none := by
        cases hx : ops p1 with
        | none => rfl
        | some o =>
          have := (opB_lt (hops p1 o hx hE).1).1
          omega
      exact ho (p1, c1, f) rfl N' G' J' q' r hN' fr hm hlow hq hA hJ hP ⟨hE, hno⟩
    | succ n ih =>
      intro p1 c1 f N' G' J' q' r hn he ho hN' hc fr hm hlow hq hA hJ hP hE
      cases hx : ops p1 with
      | none => exact ho (p1, c1, f) (gRep_n hx) N' G' J' q' r hN' fr hm hlow hq hA hJ hP ⟨hE, hx⟩
      | some o =>
        obtain ⟨hop, hbo⟩ := hops p1 o hx hE
        obtain ⟨hpl, ho1, ho2⟩ := opB_lt hop
        have npl := (nxB_le (b := b) (len := len) (p := p1)).2 hpl
        obtain ⟨N2, rfl⟩ : ∃ N2, N' = N2 + 1 := ⟨N' - 1, by omega⟩
        have hM' := hm.M
        have c19 : hpI G' 70 19 = 0 := hm.2.2.2.1
        have hlo := stF_low r J' q' q q' hq hJ
        rw [xloop_s]
        refine rx_3 hM' c19 (SP.mono (s_bsOp hm hop (by rw [hbo]; exact hA) (by rw [hbo]; exact hB) ts) ?_)
        rintro ⟨v2, G2⟩ ⟨rfl, fr2, h2⟩
        dsimp only at fr2 h2
        refine ⟨1, rfl, ?_⟩
        have hk2 := hok (nxB b len p1) c1 nxB_le.1
        refine hsub G2 _ (nxB b len p1) c1 _ ((o + 18, 0) :: t) N2 1 Q h2 (fun x t' e => by cases e; show bnd (o + 18) < lev + 1; omega) (fun z => by cases z) (by rw [nBr, if_neg (by show ¬ 31 ≤ o + 18; omega), Nat.zero_add]; exact hk) (Or.inl rfl) (by omega) ?_ ?_
        · intro e hs'
          have := he e (gRep_e hx hs')
          intro N3 G3 turn3 z1 z2 z3
          exact this N3 G3 turn3 z1 (fr.trans (fr2.trans z2)) z3
        · intro s' hs' N3 G3 J3 q3 r3 z1 z2 z3 z4 z5 z6 z7 z8 z9
          rw [hs'] at hk2
          dsimp only at hk2
          rw [gRep_s hx hs'] at he ho
          have hco : gCo o f s'.2.2 = fbin (o + 18 - 18) f s'.2.2 := by unfold gCo; rw [if_neg (by omega), if_neg (by omega), Nat.add_sub_cancel]
          rw [hco] at he ho
          refine ih s'.1 s'.2.1 _ N3 G3 J3 q3 (r3 ++ [(o + 18, 0)]) (by omega) he ho (by omega) (by omega) (fr.trans (fr2.trans z2)) (by rw [List.append_assoc]; exact z3) (fun j hj => by rw [z4 j (by omega), hlo.1 j hj]; exact hlow j hj) (by omega) ((z6.le (by omega)).app (fun x hx' => ?_)) ((z7.le (by omega) (Nat.le_refl _)).app (JAt.no (fun x hx' => ?_))) ?_ z9
          · rw [List.mem_singleton.mp hx']
            exact ⟨by show lev ≤ bnd (o + 18); omega, by show 20 ≤ o + 18; omega, by show o + 18 < 31; omega⟩
          · rw [List.mem_singleton.mp hx']
            show ¬ (o + 18 = 29 ∨ o + 18 = 30)
            omega
          · have := Pnd.bin (o := o + 18) hP z8 z4 z7 z5 (by omega)
            rw [show c1 - c + (s'.2.1 - c1) = s'.2.1 - c by omega] at this
            exact this
  intro N' G' J' q' r z1 z2 z3 z4 z5 z6 z7 z8 z9
  exact hloop 400 s.1 s.2.1 s.2.2 N' G' J' q' r (by omega) hErr hOk z1 (by omega) z2 z3 z4 z5 (z6.le (by omega)) z7 z8 z9
theorem isS_ne {b : Nat → Nat} {len p c c' : Nat} (h : isS b len c p = true) (hc : ¬ c = c') : isS b len c' p = false := by
  unfold isS at h ⊢
  rw [Bool.and_eq_true, decide_eq_true_eq, decide_eq_true_eq] at h
  rw [Bool.and_eq_false_iff]
  exact Or.inr (decide_eq_false (by rw [h.2]; exact hc))
theorem mul_op {b : Nat → Nat} {len p o : Nat} (h : mulO b len p = some o) : opB b len p = some (o + 18) ∧ bnd (o + 18) = 6 := by
  unfold mulO at h
  unfold opB
  split at h
  · next z => cases h; rw [isS_ne z (by decide), isS_ne z (by decide), z]; exact ⟨rfl, rfl⟩
  · split at h
    · next z => cases h; rw [isS_ne z (by decide), isS_ne z (by decide), isS_ne z (by decide), z]; exact ⟨rfl, rfl⟩
    · split at h
      · next z => cases h; rw [isS_ne z (by decide), isS_ne z (by decide), isS_ne z (by decide), isS_ne z (by decide), z]; exact ⟨rfl, rfl⟩
      · cases h
theorem add_op {b : Nat → Nat} {len p o : Nat} (h : addO b len p = some o) : opB b len p = some (o + 18) ∧ bnd (o + 18) = 5 := by
  unfold addO at h
  unfold opB
  split at h
  · next z => cases h; rw [z]; exact ⟨rfl, rfl⟩
  · split at h
    · next z => cases h; rw [isS_ne z (by decide), z]; exact ⟨rfl, rfl⟩
    · cases h
/-- where a sum ends -/
def Esm (b : Nat → Nat) (len p : Nat) : Prop := (True ∧ mulO b len p = none) ∧ addO b len p = none
theorem Esm_op {b : Nat → Nat} {len p : Nat} (h : Esm b len p) : opB b len p = none := by
  obtain ⟨⟨_, h1⟩, h2⟩ := h
  unfold mulO at h1
  unfold addO at h2
  unfold opB
  split at h2
  · cases h2
  · next z1 =>
    split at h2
    · cases h2
    · next z2 =>
      split at h1
      · cases h1
      · next z3 =>
        split at h1
        · cases h1
        · next z4 =>
          split at h1
          · cases h1
          · next z5 => rw [if_neg z1, if_neg z2, if_neg z3, if_neg z4, if_neg z5]
theorem MSp_sum {b : Nat → Nat} {len : Nat} {od : Bool} {ts : Int32} : ∀ k, MSp b len od ts (tnP b len) 3 2 5 k false (Esm b len) (gSum b len od k)
  | 0 => MSp_seq (lev := 5) (by omega) (fun p o h _ => add_op h) (MSp_seq (lev := 6) (by omega) (fun p o h _ => mul_op h) (MSp_part (E := Esm b len) (fun p hp => Esm_op hp) (fun g hg => by cases hg) (fun _ => rfl)) (gPart_ok rfl (fun g hg => by cases hg))) (gTerm_ok rfl (fun g hg => by cases hg))
  | k + 1 => MSp_seq (lev := 5) (by omega) (fun p o h _ => add_op h) (MSp_seq (lev := 6) (by omega) (fun p o h _ => mul_op h) (MSp_part (E := Esm b len) (fun p hp => Esm_op hp) (fun g hg => by cases hg; exact ⟨k, rfl, MSp_sum k, gSum_ok rfl k⟩) (fun hg => by cases hg)) (gPart_ok rfl (fun g hg => by cases hg; exact gSum_ok rfl k))) (gTerm_ok rfl (fun g hg => by cases hg; exact gSum_ok rfl k))
