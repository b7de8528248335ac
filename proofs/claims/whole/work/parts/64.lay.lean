/-- one letter or two -/
def oI (o : Option Nat) : Int32 := match o with
  | none => -1
  | some k => nI k
def oC (o : Option Nat) : Int32 := match o with
  | none => 1
  | some _ => 2
def ltS (R : Nat → Int32) (one : Nat) (o : Option Nat) (f : Nat) : Int32 := match o with
  | none => R (57 + 7 * one + f)
  | some k => R (57 + 7 * one + f) + R (57 + 7 * k + f)
def hdF (R : Nat → Int32) (w one : Nat) (o : Option Nat) : Nat → Int32 := wdF R w (ltS R one o 0) (ltS R one o 1) (ltS R one o 2) (oC o)
/-- behind layHanded -/
def LH (G : XH) (R : Nat → Int32) (w one : Nat) (o : Option Nat) : Prop := HS G (hdF R w one o) ∧ hpI G 70 41 = nI w ∧ hpI G 70 42 = ltS R one o 0 ∧ hpI G 70 43 = ltS R one o 1
theorem LH.fr {G G' : XH} {R : Nat → Int32} {w one : Nat} {o : Option Nat} (h : LH G R w one o) (hf : Fr WL G G') : LH G' R w one o := ⟨h.1.fr hf, (hf.I rfl).trans h.2.1, (hf.I rfl).trans h.2.2.1, (hf.I rfl).trans h.2.2.2⟩
theorem WS_WH (a k : Nat) (q : WH a k = false) : WS a k = false := by
  unfold WH at q
  unfold WS
  simp only [Bool.or_eq_false_iff] at q
  exact q.1.1.1.2
theorem oI_ne {k : Nat} (h : k < 12) : (nI k = -1) = False := by
  apply eq_false
  have : ∀ k, k < 12 → ¬ nI k = -1 := by decide
  exact this k h
theorem s_layHanded {G : XH} (hM : MS G) (one : Nat) (h1 : one < 12) (o : Option Nat) (h2 : ∀ k, o = some k → k < 12) (w : Nat) (hw : w < 8) (hwo : hpI G 72 (60 + 7 * one) = nI w) : SP D_Mdl_layHanded [.ref 70, .int (nI one), .int (oI o)] G (fun r => r.1 = none ∧ Fr WH G r.2 ∧ LH r.2 (hpI G 72) w one o) := by
  rw [e_Mdl_layHanded]
  have e0 : 57 + 7 * nI one + 0 = nI (57 + 7 * one) := by rw [cI_57, cI_7, cI_0, nI_mul, nI_add, nI_add]; rfl
  have e1 : 57 + 7 * nI one + 1 = nI (57 + 7 * one + 1) := by rw [cI_57, cI_7, cI_1, nI_mul, nI_add, nI_add]
  have e2 : 57 + 7 * nI one + 2 = nI (57 + 7 * one + 2) := by rw [cI_57, cI_7, cI_2, nI_mul, nI_add, nI_add]
  have e3 : 57 + 7 * nI one + 3 = nI (60 + 7 * one) := by rw [cI_57, cI_7, cI_3, nI_mul, nI_add, nI_add]; congr 1; omega
  have p0 : 0 ≤ nI (57 + 7 * one) := nI_pos' (by omega)
  have c0 : (nI (57 + 7 * one)).toNatClampNeg = 57 + 7 * one := nI_clamp (by omega)
  have l0 : 57 + 7 * one < 5580 := by omega
  have p1 : 0 ≤ nI (57 + 7 * one + 1) := nI_pos' (by omega)
  have c1 : (nI (57 + 7 * one + 1)).toNatClampNeg = 57 + 7 * one + 1 := nI_clamp (by omega)
  have l1 : 57 + 7 * one + 1 < 5580 := by omega
  have p2 : 0 ≤ nI (57 + 7 * one + 2) := nI_pos' (by omega)
  have c2 : (nI (57 + 7 * one + 2)).toNatClampNeg = 57 + 7 * one + 2 := nI_clamp (by omega)
  have l2 : 57 + 7 * one + 2 < 5580 := by omega
  have p3 : 0 ≤ nI (60 + 7 * one) := nI_pos' (by omega)
  have c3 : (nI (60 + 7 * one)).toNatClampNeg = 60 + 7 * one := nI_clamp (by omega)
  have l3 : 60 + 7 * one < 5580 := by omega
  cases o with
  | none =>
    simp only [k_Mdl_layHanded_107, k_Mdl_layHanded_96, k_Mdl_layHanded_58, k_Mdl_layHanded_32, k_Mdl_layHanded_0, e_Mdl_ofLetter, k_Mdl_ofLetter_0, oI, w_iadd, w_isub, w_imul, w_iand, w_ior, w_ixor, w_ishl, w_ishr, w_iushr, w_idiv, w_irem, w_ineg, w_ladd, w_lsub, w_lmul, w_ldiv, w_lrem, w_i2l, w_l2i, w_i2c, w_lcmp, w_dup_int, w_pop_int, w_dup_ref, w_pop_ref, w_dup_retAddr, w_pop_retAddr, w_dup2, w_I, w_L, w_Null, w_Ild, w_Lld, w_Ald, w_Ist, w_Lst, w_Ast, w_Iinc, w_if_eq, w_icmp_eq, w_if_ne, w_icmp_ne, w_if_lt, w_icmp_lt, w_if_ge, w_icmp_ge, w_if_gt, w_icmp_gt, w_if_le, w_icmp_le, w_GetI, w_GetL, w_GetR, w_PutI, w_PutZ, w_PutL, w_PutR, w_PutN, w_Iald, w_Zald, w_Lald, w_Aald, w_Iast, w_Zast, w_Last, w_AastR, w_AastN, w_Alen, w_New, w_NewA, w_Mna, w_Iret, w_Zret, w_Cret, w_Bret, w_Lret, w_AretR, w_AretN, w_Vret, w_Obj, w_IfNN, w_IfNR, w_Copy, w_Cln, w_Cast, w_SfA, w_SfI, w_SfQ, w_Str, w_ScLd, w_ScLen, w_CV0, w_CS0, w_CV1, w_CS1, w_CV2, w_CS2, w_CV3, w_CS3, w_CV4, w_CS4, w_CV5, w_CS5, List.getElem?_cons_zero, List.getElem?_cons_succ, List.set_cons_zero, List.set_cons_succ, List.length_cons, List.length_nil, List.map_cons, List.map_nil, List.sum_cons, List.sum_nil, List.nil_append, List.cons_append, Option.toList_some, Option.toList_none, Value.category, xok, va_rf, true_and, and_true, and_self, Nat.reduceAdd, Nat.reduceLT, Nat.reduceLeDiff, Nat.reduceEqDiff, Nat.reduceMul, beq_self_eq_true, decide_true, ite_true, ite_false, if_true, if_false, reduceIte, Bool.true_eq_false, Bool.false_eq_true, eq_self_iff_true, Nat.zero_le, not_true_eq_false, not_false_eq_true, forall_const, false_implies, implies_true, forall_false, stI_C, stI_N, stI_Z, stI_S, stI_L, stI_R, stL_C, stL_N, stL_Z, stL_S, stL_I, stL_R, stR_C, stR_N, stR_Z, stR_S, stR_I, stR_L, stA_C, stA_N, stA_Z, stA_S, stA_L, stA_R, stI_I, stL_L, stR_R, stA_I, stN_C, stN_N, stN_Z, stN_S, stN_I, stN_L, stN_R, stI_ne, stL_ne, stR_ne, hM.all, xin, e0, e1, e2, e3, p0, c0, l0, p1, c1, l1, p2, c2, l2, p3, c3, l3, hwo, ne10, ne10L, ne01, ne01L, tt_imp, nt_imp, ff_imp, nf_imp, true_and, and_true, true_or, or_true, reduceIte, Int32.add_zero]
    refine SP.mono (s_setHanded (G := stI (stI (stI G 70 41 (nI w)) 70 42 (hpI G 72 (57 + 7 * one))) 70 43 (hpI G 72 (57 + 7 * one + 1))) hM w hw _ _ _ _) ?_
    rintro ⟨v, G1⟩ ⟨rfl, hf, hs⟩
    dsimp only at hf hs
    simp only [w_iadd, w_isub, w_imul, w_iand, w_ior, w_ixor, w_ishl, w_ishr, w_iushr, w_idiv, w_irem, w_ineg, w_ladd, w_lsub, w_lmul, w_ldiv, w_lrem, w_i2l, w_l2i, w_i2c, w_lcmp, w_dup_int, w_pop_int, w_dup_ref, w_pop_ref, w_dup_retAddr, w_pop_retAddr, w_dup2, w_I, w_L, w_Null, w_Ild, w_Lld, w_Ald, w_Ist, w_Lst, w_Ast, w_Iinc, w_if_eq, w_icmp_eq, w_if_ne, w_icmp_ne, w_if_lt, w_icmp_lt, w_if_ge, w_icmp_ge, w_if_gt, w_icmp_gt, w_if_le, w_icmp_le, w_GetI, w_GetL, w_GetR, w_PutI, w_PutZ, w_PutL, w_PutR, w_PutN, w_Iald, w_Zald, w_Lald, w_Aald, w_Iast, w_Zast, w_Last, w_AastR, w_AastN, w_Alen, w_New, w_NewA, w_Mna, w_Iret, w_Zret, w_Cret, w_Bret, w_Lret, w_AretR, w_AretN, w_Vret, w_Obj, w_IfNN, w_IfNR, w_Copy, w_Cln, w_Cast, w_SfA, w_SfI, w_SfQ, w_Str, w_ScLd, w_ScLen, w_CV0, w_CS0, w_CV1, w_CS1, w_CV2, w_CS2, w_CV3, w_CS3, w_CV4, w_CS4, w_CV5, w_CS5, List.getElem?_cons_zero, List.getElem?_cons_succ, List.set_cons_zero, List.set_cons_succ, List.length_cons, List.length_nil, List.map_cons, List.map_nil, List.sum_cons, List.sum_nil, List.nil_append, List.cons_append, Option.toList_some, Option.toList_none, Value.category, xok, va_rf, true_and, and_true, and_self, Nat.reduceAdd, Nat.reduceLT, Nat.reduceLeDiff, Nat.reduceEqDiff, Nat.reduceMul, beq_self_eq_true, decide_true, ite_true, ite_false, if_true, if_false, reduceIte, Bool.true_eq_false, Bool.false_eq_true, eq_self_iff_true, Nat.zero_le, not_true_eq_false, not_false_eq_true, forall_const, false_implies, implies_true, forall_false]
    refine ⟨(((Fr.refl.wI rfl).wI rfl).wI rfl).trans (hf.mono WS_WH), hs, ?_, ?_, ?_⟩
    all_goals (rw [hf.I rfl]; simp only [stI_C, stI_N, stI_Z, stI_S, stI_L, stI_R, stL_C, stL_N, stL_Z, stL_S, stL_I, stL_R, stR_C, stR_N, stR_Z, stR_S, stR_I, stR_L, stA_C, stA_N, stA_Z, stA_S, stA_L, stA_R, stI_I, stL_L, stR_R, stA_I, stN_C, stN_N, stN_Z, stN_S, stN_I, stN_L, stN_R, stI_ne, stL_ne, stR_ne, List.getElem?_cons_zero, List.getElem?_cons_succ, List.set_cons_zero, List.set_cons_succ, List.length_cons, List.length_nil, List.map_cons, List.map_nil, List.sum_cons, List.sum_nil, List.nil_append, List.cons_append, Option.toList_some, Option.toList_none, Value.category, xok, va_rf, true_and, and_true, and_self, Nat.reduceAdd, Nat.reduceLT, Nat.reduceLeDiff, Nat.reduceEqDiff, Nat.reduceMul, beq_self_eq_true, decide_true, ite_true, ite_false, if_true, if_false, reduceIte, Bool.true_eq_false, Bool.false_eq_true, eq_self_iff_true, Nat.zero_le, not_true_eq_false, not_false_eq_true, forall_const, false_implies, implies_true, forall_false]; try rfl)
  | some k =>
    have hk := h2 k rfl
    have g0 : 57 + 7 * nI k + 0 = nI (57 + 7 * k) := by rw [cI_57, cI_7, cI_0, nI_mul, nI_add, nI_add]; rfl
    have g1 : 57 + 7 * nI k + 1 = nI (57 + 7 * k + 1) := by rw [cI_57, cI_7, cI_1, nI_mul, nI_add, nI_add]
    have g2 : 57 + 7 * nI k + 2 = nI (57 + 7 * k + 2) := by rw [cI_57, cI_7, cI_2, nI_mul, nI_add, nI_add]
    have p4 : 0 ≤ nI (57 + 7 * k) := nI_pos' (by omega)
    have c4 : (nI (57 + 7 * k)).toNatClampNeg = 57 + 7 * k := nI_clamp (by omega)
    have l4 : 57 + 7 * k < 5580 := by omega
    have p5 : 0 ≤ nI (57 + 7 * k + 1) := nI_pos' (by omega)
    have c5 : (nI (57 + 7 * k + 1)).toNatClampNeg = 57 + 7 * k + 1 := nI_clamp (by omega)
    have l5 : 57 + 7 * k + 1 < 5580 := by omega
    have p6 : 0 ≤ nI (57 + 7 * k + 2) := nI_pos' (by omega)
    have c6 : (nI (57 + 7 * k + 2)).toNatClampNeg = 57 + 7 * k + 2 := nI_clamp (by omega)
    have l6 : 57 + 7 * k + 2 < 5580 := by omega
    simp only [k_Mdl_layHanded_107, k_Mdl_layHanded_96, k_Mdl_layHanded_58, k_Mdl_layHanded_32, k_Mdl_layHanded_0, e_Mdl_ofLetter, k_Mdl_ofLetter_0, oI, w_iadd, w_isub, w_imul, w_iand, w_ior, w_ixor, w_ishl, w_ishr, w_iushr, w_idiv, w_irem, w_ineg, w_ladd, w_lsub, w_lmul, w_ldiv, w_lrem, w_i2l, w_l2i, w_i2c, w_lcmp, w_dup_int, w_pop_int, w_dup_ref, w_pop_ref, w_dup_retAddr, w_pop_retAddr, w_dup2, w_I, w_L, w_Null, w_Ild, w_Lld, w_Ald, w_Ist, w_Lst, w_Ast, w_Iinc, w_if_eq, w_icmp_eq, w_if_ne, w_icmp_ne, w_if_lt, w_icmp_lt, w_if_ge, w_icmp_ge, w_if_gt, w_icmp_gt, w_if_le, w_icmp_le, w_GetI, w_GetL, w_GetR, w_PutI, w_PutZ, w_PutL, w_PutR, w_PutN, w_Iald, w_Zald, w_Lald, w_Aald, w_Iast, w_Zast, w_Last, w_AastR, w_AastN, w_Alen, w_New, w_NewA, w_Mna, w_Iret, w_Zret, w_Cret, w_Bret, w_Lret, w_AretR, w_AretN, w_Vret, w_Obj, w_IfNN, w_IfNR, w_Copy, w_Cln, w_Cast, w_SfA, w_SfI, w_SfQ, w_Str, w_ScLd, w_ScLen, w_CV0, w_CS0, w_CV1, w_CS1, w_CV2, w_CS2, w_CV3, w_CS3, w_CV4, w_CS4, w_CV5, w_CS5, List.getElem?_cons_zero, List.getElem?_cons_succ, List.set_cons_zero, List.set_cons_succ, List.length_cons, List.length_nil, List.map_cons, List.map_nil, List.sum_cons, List.sum_nil, List.nil_append, List.cons_append, Option.toList_some, Option.toList_none, Value.category, xok, va_rf, true_and, and_true, and_self, Nat.reduceAdd, Nat.reduceLT, Nat.reduceLeDiff, Nat.reduceEqDiff, Nat.reduceMul, beq_self_eq_true, decide_true, ite_true, ite_false, if_true, if_false, reduceIte, Bool.true_eq_false, Bool.false_eq_true, eq_self_iff_true, Nat.zero_le, not_true_eq_false, not_false_eq_true, forall_const, false_implies, implies_true, forall_false, stI_C, stI_N, stI_Z, stI_S, stI_L, stI_R, stL_C, stL_N, stL_Z, stL_S, stL_I, stL_R, stR_C, stR_N, stR_Z, stR_S, stR_I, stR_L, stA_C, stA_N, stA_Z, stA_S, stA_L, stA_R, stI_I, stL_L, stR_R, stA_I, stN_C, stN_N, stN_Z, stN_S, stN_I, stN_L, stN_R, stI_ne, stL_ne, stR_ne, hM.all, xin, e0, e1, e2, e3, g0, g1, g2, p0, c0, l0, p1, c1, l1, p2, c2, l2, p3, c3, l3, p4, c4, l4, p5, c5, l5, p6, c6, l6, hwo, oI_ne hk, ne10, ne10L, ne01, ne01L, tt_imp, nt_imp, ff_imp, nf_imp, true_and, and_true, true_or, or_true, reduceIte]
    refine SP.mono (s_setHanded (G := stI (stI (stI G 70 41 (nI w)) 70 42 (hpI G 72 (57 + 7 * one) + hpI G 72 (57 + 7 * k))) 70 43 (hpI G 72 (57 + 7 * one + 1) + hpI G 72 (57 + 7 * k + 1))) hM w hw _ _ _ _) ?_
    rintro ⟨v, G1⟩ ⟨rfl, hf, hs⟩
    dsimp only at hf hs
    simp only [w_iadd, w_isub, w_imul, w_iand, w_ior, w_ixor, w_ishl, w_ishr, w_iushr, w_idiv, w_irem, w_ineg, w_ladd, w_lsub, w_lmul, w_ldiv, w_lrem, w_i2l, w_l2i, w_i2c, w_lcmp, w_dup_int, w_pop_int, w_dup_ref, w_pop_ref, w_dup_retAddr, w_pop_retAddr, w_dup2, w_I, w_L, w_Null, w_Ild, w_Lld, w_Ald, w_Ist, w_Lst, w_Ast, w_Iinc, w_if_eq, w_icmp_eq, w_if_ne, w_icmp_ne, w_if_lt, w_icmp_lt, w_if_ge, w_icmp_ge, w_if_gt, w_icmp_gt, w_if_le, w_icmp_le, w_GetI, w_GetL, w_GetR, w_PutI, w_PutZ, w_PutL, w_PutR, w_PutN, w_Iald, w_Zald, w_Lald, w_Aald, w_Iast, w_Zast, w_Last, w_AastR, w_AastN, w_Alen, w_New, w_NewA, w_Mna, w_Iret, w_Zret, w_Cret, w_Bret, w_Lret, w_AretR, w_AretN, w_Vret, w_Obj, w_IfNN, w_IfNR, w_Copy, w_Cln, w_Cast, w_SfA, w_SfI, w_SfQ, w_Str, w_ScLd, w_ScLen, w_CV0, w_CS0, w_CV1, w_CS1, w_CV2, w_CS2, w_CV3, w_CS3, w_CV4, w_CS4, w_CV5, w_CS5, List.getElem?_cons_zero, List.getElem?_cons_succ, List.set_cons_zero, List.set_cons_succ, List.length_cons, List.length_nil, List.map_cons, List.map_nil, List.sum_cons, List.sum_nil, List.nil_append, List.cons_append, Option.toList_some, Option.toList_none, Value.category, xok, va_rf, true_and, and_true, and_self, Nat.reduceAdd, Nat.reduceLT, Nat.reduceLeDiff, Nat.reduceEqDiff, Nat.reduceMul, beq_self_eq_true, decide_true, ite_true, ite_false, if_true, if_false, reduceIte, Bool.true_eq_false, Bool.false_eq_true, eq_self_iff_true, Nat.zero_le, not_true_eq_false, not_false_eq_true, forall_const, false_implies, implies_true, forall_false]
    refine ⟨(((Fr.refl.wI rfl).wI rfl).wI rfl).trans (hf.mono WS_WH), hs, ?_, ?_, ?_⟩
    all_goals (rw [hf.I rfl]; simp only [stI_C, stI_N, stI_Z, stI_S, stI_L, stI_R, stL_C, stL_N, stL_Z, stL_S, stL_I, stL_R, stR_C, stR_N, stR_Z, stR_S, stR_I, stR_L, stA_C, stA_N, stA_Z, stA_S, stA_L, stA_R, stI_I, stL_L, stR_R, stA_I, stN_C, stN_N, stN_Z, stN_S, stN_I, stN_L, stN_R, stI_ne, stL_ne, stR_ne, List.getElem?_cons_zero, List.getElem?_cons_succ, List.set_cons_zero, List.set_cons_succ, List.length_cons, List.length_nil, List.map_cons, List.map_nil, List.sum_cons, List.sum_nil, List.nil_append, List.cons_append, Option.toList_some, Option.toList_none, Value.category, xok, va_rf, true_and, and_true, and_self, Nat.reduceAdd, Nat.reduceLT, Nat.reduceLeDiff, Nat.reduceEqDiff, Nat.reduceMul, beq_self_eq_true, decide_true, ite_true, ite_false, if_true, if_false, reduceIte, Bool.true_eq_false, Bool.false_eq_true, eq_self_iff_true, Nat.zero_le, not_true_eq_false, not_false_eq_true, forall_const, false_implies, implies_true, forall_false]; try rfl)
/-- a number of 0 .. b -/
def In (v : Int32) (b : Nat) : Prop := ∃ n, n ≤ b ∧ v = nI n
/-- the rows of readers and letters are as they must be; c letters were read -/
def RW (R : Nat → Int32) (nr nl c : Nat) : Prop := R 1 = nI nr ∧ nr ≤ 8 ∧ R 2 = nI nl ∧ nl ≤ 12 ∧ In (R 5) 999 ∧ In (R 6) 99 ∧ In (R 7) 9 ∧ In (R 8) (999 * c) ∧
  (∀ r, r < nr → In (R (9 + 6 * r)) 9 ∧ In (R (10 + 6 * r)) 7 ∧ In (R (11 + 6 * r)) 999 ∧ In (R (12 + 6 * r)) (2 * c) ∧ In (R (13 + 6 * r)) c ∧ In (R (14 + 6 * r)) (999 * c)) ∧
  (∀ l, l < nl → In (R (57 + 7 * l)) 30 ∧ In (R (58 + 7 * l)) 30 ∧ (In (R (59 + 7 * l)) 9 ∧ ¬ R (59 + 7 * l) = 0) ∧ (∃ w, w < nr ∧ R (60 + 7 * l) = nI w) ∧ In (R (61 + 7 * l)) 1 ∧ In (R (62 + 7 * l)) 1 ∧ In (R (63 + 7 * l)) 999)
/-- the class's stand, as the model's rows have it -/
def VW (s R : Nat → Int32) : Prop := (∀ k, k < 4 → s k = R (5 + k)) ∧ s 4 = R 1 ∧ s 5 = R 2 ∧ (∀ r f, r < 8 → f < 6 → s (6 + 8 * f + r) = R (9 + 6 * r + f)) ∧ (∀ l f, l < 12 → f < 7 → s (54 + 12 * f + l) = R (57 + 7 * l + f))
/-- one place anew -/
def up (f : Nat → Int32) (k : Nat) (v : Int32) : Nat → Int32 := fun j => if j = k then v else f j
theorem up_eq {f : Nat → Int32} {k : Nat} {v : Int32} : up f k v k = v := by unfold up; rw [if_pos rfl]
theorem up_ne {f : Nat → Int32} {k j : Nat} {v : Int32} (h : ¬ j = k) : up f k v j = f j := by unfold up; rw [if_neg h]
theorem up_up {f : Nat → Int32} {k : Nat} {v w : Int32} : up (up f k v) k w = up f k w := by
  funext j
  unfold up
  split <;> rfl
theorem up_comm {f : Nat → Int32} {k j : Nat} {v w : Int32} (h : ¬ k = j) : up (up f k v) j w = up (up f j w) k v := by
  funext i
  unfold up
  by_cases h1 : i = k
  · subst h1
    simp [h]
  · simp [h1]
theorem stI_up {G : XH} {a k : Nat} {v : Int32} : stI G a k v = stA G a (up (hpI G a) k v) := stI_A
theorem VW.g {s R : Nat → Int32} (h : VW s R) {k : Nat} (hk : k < 4) (v : Int32) : VW (up s k v) (up R (5 + k) v) := by
  obtain ⟨h1, h2, h3, h4, h5⟩ := h
  refine ⟨fun j hj => ?_, ?_, ?_, fun r f hr hf => ?_, fun l f hl hf => ?_⟩
  · unfold up
    by_cases q : j = k
    · rw [if_pos q, if_pos (by omega)]
    · rw [if_neg q, if_neg (by omega)]
      exact h1 j hj
  · rw [up_ne (by omega), up_ne (by omega)]
    exact h2
  · rw [up_ne (by omega), up_ne (by omega)]
    exact h3
  · rw [up_ne (by omega), up_ne (by omega)]
    exact h4 r f hr hf
  · rw [up_ne (by omega), up_ne (by omega)]
    exact h5 l f hl hf
theorem VW.r {s R : Nat → Int32} (h : VW s R) {r f : Nat} (hr : r < 8) (hf : f < 6) (v : Int32) {i j : Nat} (hi : i = 6 + 8 * f + r) (hj : j = 9 + 6 * r + f) : VW (up s i v) (up R j v) := by
  subst hi hj
  obtain ⟨h1, h2, h3, h4, h5⟩ := h
  refine ⟨fun j hj => ?_, ?_, ?_, fun r' f' hr' hf' => ?_, fun l f' hl hf' => ?_⟩
  · rw [up_ne (by omega), up_ne (by omega)]
    exact h1 j hj
  · rw [up_ne (by omega), up_ne (by omega)]
    exact h2
  · rw [up_ne (by omega), up_ne (by omega)]
    exact h3
  · unfold up
    by_cases q : f' = f ∧ r' = r
    · rw [if_pos (by omega), if_pos (by omega)]
    · rw [if_neg (by omega), if_neg (by omega)]
      exact h4 r' f' hr' hf'
  · rw [up_ne (by omega), up_ne (by omega)]
    exact h5 l f' hl hf'
theorem VW.l {s R : Nat → Int32} (h : VW s R) {l f : Nat} (hl : l < 12) (hf : f < 7) (v : Int32) {i j : Nat} (hi : i = 54 + 12 * f + l) (hj : j = 57 + 7 * l + f) : VW (up s i v) (up R j v) := by
  subst hi hj
  obtain ⟨h1, h2, h3, h4, h5⟩ := h
  refine ⟨fun j hj => ?_, ?_, ?_, fun r' f' hr' hf' => ?_, fun l' f' hl' hf' => ?_⟩
  · rw [up_ne (by omega), up_ne (by omega)]
    exact h1 j hj
  · rw [up_ne (by omega), up_ne (by omega)]
    exact h2
  · rw [up_ne (by omega), up_ne (by omega)]
    exact h3
  · rw [up_ne (by omega), up_ne (by omega)]
    exact h4 r' f' hr' hf'
  · unfold up
    by_cases q : f' = f ∧ l' = l
    · rw [if_pos (by omega), if_pos (by omega)]
    · rw [if_neg (by omega), if_neg (by omega)]
      exact h5 l' f' hl' hf'
