theorem or_77 {Q : XR → Prop} {X : XK} {G0 : XH} {y : Int32} {x3 : Option Value} (hM0 : MS G0) (hX : ∀ K, f_Mdl_orders_77 K = (xIld 2 (xI 2176 (xicmp_ge X (xAld 0 (xGetR 11 9 (xIld 2 (xAld 0 (xGetR 11 6 (xIld 2 (xIaldh (xIasth (xIinc 2 1 K)))))))))))) ) (hK : ∀ G', Fr (fun a _ => a == 77) G0 G' → (∀ j, j < 2176 → hpI G' 77 j = hpI G0 75 j) → (∀ j, 2176 ≤ j → hpI G' 77 j = hpI G0 77 j) → WP X [some (.ref 70), some (.int y), some (.int (nI 2176)), x3] [] G' Q) : ∀ (m k : Nat) (G : XH) (N : Nat), k + m = 2176 → Fr (fun a _ => a == 77) G0 G → (∀ j, j < k → hpI G 77 j = hpI G0 75 j) → (∀ j, k ≤ j → hpI G 77 j = hpI G0 77 j) → m < N → WP (xloop f_Mdl_orders_77 N) [some (.ref 70), some (.int y), some (.int (nI k)), x3] [] G Q := by
  intro m
  induction m with
  | zero =>
    intro k G N hk f h1 h2 hN
    obtain ⟨N1, rfl⟩ : ∃ N1, N = N1 + 1 := ⟨N - 1, by omega⟩
    have e : k = 2176 := by omega
    subst e
    have g : (2176 ≤ nI 2176) = True := eq_true (by decide)
    rw [xloop_s, hX]
    simp only [w_iadd, w_isub, w_imul, w_iand, w_ior, w_ixor, w_ishl, w_ishr, w_iushr, w_idiv, w_irem, w_ineg, w_ladd, w_lsub, w_lmul, w_ldiv, w_lrem, w_i2l, w_l2i, w_i2c, w_lcmp, w_dup_int, w_pop_int, w_dup_ref, w_pop_ref, w_dup_retAddr, w_pop_retAddr, w_dup2, w_I, w_L, w_Null, w_Ild, w_Lld, w_Ald, w_Ist, w_Lst, w_Ast, w_Iinc, w_if_eq, w_icmp_eq, w_if_ne, w_icmp_ne, w_if_lt, w_icmp_lt, w_if_ge, w_icmp_ge, w_if_gt, w_icmp_gt, w_if_le, w_icmp_le, w_GetI, w_GetL, w_GetR, w_PutI, w_PutZ, w_PutL, w_PutR, w_PutN, w_Iald, w_Zald, w_Lald, w_Aald, w_Iast, w_Zast, w_Last, w_AastR, w_AastN, w_Alen, w_New, w_NewA, w_Mna, w_Iret, w_Zret, w_Cret, w_Bret, w_Lret, w_AretR, w_AretN, w_Vret, w_Obj, w_IfNN, w_IfNR, w_Copy, w_Cln, w_Cast, w_SfA, w_SfI, w_SfQ, w_Str, w_ScLd, w_ScLen, w_CV0, w_CS0, w_CV1, w_CS1, w_CV2, w_CS2, w_CV3, w_CS3, w_CV4, w_CS4, w_CV5, w_CS5, List.getElem?_cons_zero, List.getElem?_cons_succ, List.set_cons_zero, List.set_cons_succ, List.length_cons, List.length_nil, List.map_cons, List.map_nil, List.sum_cons, List.sum_nil, List.nil_append, List.cons_append, Option.toList_some, Option.toList_none, Value.category, xok, va_rf, true_and, and_true, and_self, Nat.reduceAdd, Nat.reduceLT, Nat.reduceLeDiff, Nat.reduceEqDiff, Nat.reduceMul, beq_self_eq_true, decide_true, ite_true, ite_false, if_true, if_false, reduceIte, Bool.true_eq_false, Bool.false_eq_true, eq_self_iff_true, Nat.zero_le, not_true_eq_false, not_false_eq_true, forall_const, false_implies, implies_true, forall_false, g, ne10, ne10L, ne01, ne01L, tt_imp, nt_imp, ff_imp, nf_imp, true_and, and_true, true_or, or_true, reduceIte]
    exact hK G f h1 h2
  | succ m ih =>
    intro k G N hk f h1 h2 hN
    obtain ⟨N1, rfl⟩ : ∃ N1, N = N1 + 1 := ⟨N - 1, by omega⟩
    have hM := f.ms hM0
    have g : (2176 ≤ nI k) = False := eq_false (by rw [show (2176 : Int32) = nI 2176 from rfl, nl_le (by omega) (by omega)]; omega)
    have ek : nI k + Int32.ofInt 1 = nI (k + 1) := nI_1 k
    have hv : hpI G 75 k = hpI G0 75 k := f.I rfl
    have p1 : 0 ≤ nI (k) := nI_pos' (by omega)
    have c1 : (nI (k)).toNatClampNeg = k := nI_clamp (by omega)
    have l1 : k < 2176 := by omega
    have p2 : 0 ≤ nI (k) := nI_pos' (by omega)
    have c2 : (nI (k)).toNatClampNeg = k := nI_clamp (by omega)
    have l2 : k < 3536 := by omega
    rw [xloop_s, hX]
    simp only [w_iadd, w_isub, w_imul, w_iand, w_ior, w_ixor, w_ishl, w_ishr, w_iushr, w_idiv, w_irem, w_ineg, w_ladd, w_lsub, w_lmul, w_ldiv, w_lrem, w_i2l, w_l2i, w_i2c, w_lcmp, w_dup_int, w_pop_int, w_dup_ref, w_pop_ref, w_dup_retAddr, w_pop_retAddr, w_dup2, w_I, w_L, w_Null, w_Ild, w_Lld, w_Ald, w_Ist, w_Lst, w_Ast, w_Iinc, w_if_eq, w_icmp_eq, w_if_ne, w_icmp_ne, w_if_lt, w_icmp_lt, w_if_ge, w_icmp_ge, w_if_gt, w_icmp_gt, w_if_le, w_icmp_le, w_GetI, w_GetL, w_GetR, w_PutI, w_PutZ, w_PutL, w_PutR, w_PutN, w_Iald, w_Zald, w_Lald, w_Aald, w_Iast, w_Zast, w_Last, w_AastR, w_AastN, w_Alen, w_New, w_NewA, w_Mna, w_Iret, w_Zret, w_Cret, w_Bret, w_Lret, w_AretR, w_AretN, w_Vret, w_Obj, w_IfNN, w_IfNR, w_Copy, w_Cln, w_Cast, w_SfA, w_SfI, w_SfQ, w_Str, w_ScLd, w_ScLen, w_CV0, w_CS0, w_CV1, w_CS1, w_CV2, w_CS2, w_CV3, w_CS3, w_CV4, w_CS4, w_CV5, w_CS5, List.getElem?_cons_zero, List.getElem?_cons_succ, List.set_cons_zero, List.set_cons_succ, List.length_cons, List.length_nil, List.map_cons, List.map_nil, List.sum_cons, List.sum_nil, List.nil_append, List.cons_append, Option.toList_some, Option.toList_none, Value.category, xok, va_rf, true_and, and_true, and_self, Nat.reduceAdd, Nat.reduceLT, Nat.reduceLeDiff, Nat.reduceEqDiff, Nat.reduceMul, beq_self_eq_true, decide_true, ite_true, ite_false, if_true, if_false, reduceIte, Bool.true_eq_false, Bool.false_eq_true, eq_self_iff_true, Nat.zero_le, not_true_eq_false, not_false_eq_true, forall_const, false_implies, implies_true, forall_false, stI_C, stI_N, stI_Z, stI_S, stI_L, stI_R, stL_C, stL_N, stL_Z, stL_S, stL_I, stL_R, stR_C, stR_N, stR_Z, stR_S, stR_I, stR_L, stA_C, stA_N, stA_Z, stA_S, stA_L, stA_R, stI_I, stL_L, stR_R, stA_I, stN_C, stN_N, stN_Z, stN_S, stN_I, stN_L, stN_R, stI_ne, stL_ne, stR_ne, hM.all, g, xin, p1, c1, l1, p2, c2, l2, ek, ne10, ne10L, ne01, ne01L, tt_imp, nt_imp, ff_imp, nf_imp, true_and, and_true, true_or, or_true, reduceIte]
    refine ih (k + 1) _ N1 (by omega) (f.wI (by simp)) (fun j hj => ?_) (fun j hj => ?_) (by omega)
    · rw [stI_up, hpI_stA]
      rcases (show j < k ∨ j = k by omega) with z | z
      · rw [up_ne (by omega)]; exact h1 j z
      · rw [z, up_eq]; exact hv
    · rw [stI_up, hpI_stA, up_ne (by omega)]
      exact h2 j (by omega)
theorem or_104 {Q : XR → Prop} {X : XK} {G0 : XH} {y : Int32} {x3 : Option Value} (hM0 : MS G0) (hX : ∀ K, f_Mdl_orders_104 K = (xIld 2 (xI 16 (xicmp_ge X (xAld 0 (xGetR 11 10 (xIld 2 (xAld 0 (xGetR 11 7 (xIld 2 (xIaldh (xIasth (xIinc 2 1 K)))))))))))) ) (hK : ∀ G', Fr (fun a _ => a == 78) G0 G' → (∀ j, j < 16 → hpI G' 78 j = hpI G0 76 j) → (∀ j, 16 ≤ j → hpI G' 78 j = hpI G0 78 j) → WP X [some (.ref 70), some (.int y), some (.int (nI 16)), x3] [] G' Q) : ∀ (m k : Nat) (G : XH) (N : Nat), k + m = 16 → Fr (fun a _ => a == 78) G0 G → (∀ j, j < k → hpI G 78 j = hpI G0 76 j) → (∀ j, k ≤ j → hpI G 78 j = hpI G0 78 j) → m < N → WP (xloop f_Mdl_orders_104 N) [some (.ref 70), some (.int y), some (.int (nI k)), x3] [] G Q := by
  intro m
  induction m with
  | zero =>
    intro k G N hk f h1 h2 hN
    obtain ⟨N1, rfl⟩ : ∃ N1, N = N1 + 1 := ⟨N - 1, by omega⟩
    have e : k = 16 := by omega
    subst e
    have g : (16 ≤ nI 16) = True := eq_true (by decide)
    rw [xloop_s, hX]
    simp only [w_iadd, w_isub, w_imul, w_iand, w_ior, w_ixor, w_ishl, w_ishr, w_iushr, w_idiv, w_irem, w_ineg, w_ladd, w_lsub, w_lmul, w_ldiv, w_lrem, w_i2l, w_l2i, w_i2c, w_lcmp, w_dup_int, w_pop_int, w_dup_ref, w_pop_ref, w_dup_retAddr, w_pop_retAddr, w_dup2, w_I, w_L, w_Null, w_Ild, w_Lld, w_Ald, w_Ist, w_Lst, w_Ast, w_Iinc, w_if_eq, w_icmp_eq, w_if_ne, w_icmp_ne, w_if_lt, w_icmp_lt, w_if_ge, w_icmp_ge, w_if_gt, w_icmp_gt, w_if_le, w_icmp_le, w_GetI, w_GetL, w_GetR, w_PutI, w_PutZ, w_PutL, w_PutR, w_PutN, w_Iald, w_Zald, w_Lald, w_Aald, w_Iast, w_Zast, w_Last, w_AastR, w_AastN, w_Alen, w_New, w_NewA, w_Mna, w_Iret, w_Zret, w_Cret, w_Bret, w_Lret, w_AretR, w_AretN, w_Vret, w_Obj, w_IfNN, w_IfNR, w_Copy, w_Cln, w_Cast, w_SfA, w_SfI, w_SfQ, w_Str, w_ScLd, w_ScLen, w_CV0, w_CS0, w_CV1, w_CS1, w_CV2, w_CS2, w_CV3, w_CS3, w_CV4, w_CS4, w_CV5, w_CS5, List.getElem?_cons_zero, List.getElem?_cons_succ, List.set_cons_zero, List.set_cons_succ, List.length_cons, List.length_nil, List.map_cons, List.map_nil, List.sum_cons, List.sum_nil, List.nil_append, List.cons_append, Option.toList_some, Option.toList_none, Value.category, xok, va_rf, true_and, and_true, and_self, Nat.reduceAdd, Nat.reduceLT, Nat.reduceLeDiff, Nat.reduceEqDiff, Nat.reduceMul, beq_self_eq_true, decide_true, ite_true, ite_false, if_true, if_false, reduceIte, Bool.true_eq_false, Bool.false_eq_true, eq_self_iff_true, Nat.zero_le, not_true_eq_false, not_false_eq_true, forall_const, false_implies, implies_true, forall_false, g, ne10, ne10L, ne01, ne01L, tt_imp, nt_imp, ff_imp, nf_imp, true_and, and_true, true_or, or_true, reduceIte]
    exact hK G f h1 h2
  | succ m ih =>
    intro k G N hk f h1 h2 hN
    obtain ⟨N1, rfl⟩ : ∃ N1, N = N1 + 1 := ⟨N - 1, by omega⟩
    have hM := f.ms hM0
    have g : (16 ≤ nI k) = False := eq_false (by rw [show (16 : Int32) = nI 16 from rfl, nl_le (by omega) (by omega)]; omega)
    have ek : nI k + Int32.ofInt 1 = nI (k + 1) := nI_1 k
    have hv : hpI G 76 k = hpI G0 76 k := f.I rfl
    have p1 : 0 ≤ nI (k) := nI_pos' (by omega)
    have c1 : (nI (k)).toNatClampNeg = k := nI_clamp (by omega)
    have l1 : k < 16 := by omega
    have p2 : 0 ≤ nI (k) := nI_pos' (by omega)
    have c2 : (nI (k)).toNatClampNeg = k := nI_clamp (by omega)
    have l2 : k < 16 := by omega
    rw [xloop_s, hX]
    simp only [w_iadd, w_isub, w_imul, w_iand, w_ior, w_ixor, w_ishl, w_ishr, w_iushr, w_idiv, w_irem, w_ineg, w_ladd, w_lsub, w_lmul, w_ldiv, w_lrem, w_i2l, w_l2i, w_i2c, w_lcmp, w_dup_int, w_pop_int, w_dup_ref, w_pop_ref, w_dup_retAddr, w_pop_retAddr, w_dup2, w_I, w_L, w_Null, w_Ild, w_Lld, w_Ald, w_Ist, w_Lst, w_Ast, w_Iinc, w_if_eq, w_icmp_eq, w_if_ne, w_icmp_ne, w_if_lt, w_icmp_lt, w_if_ge, w_icmp_ge, w_if_gt, w_icmp_gt, w_if_le, w_icmp_le, w_GetI, w_GetL, w_GetR, w_PutI, w_PutZ, w_PutL, w_PutR, w_PutN, w_Iald, w_Zald, w_Lald, w_Aald, w_Iast, w_Zast, w_Last, w_AastR, w_AastN, w_Alen, w_New, w_NewA, w_Mna, w_Iret, w_Zret, w_Cret, w_Bret, w_Lret, w_AretR, w_AretN, w_Vret, w_Obj, w_IfNN, w_IfNR, w_Copy, w_Cln, w_Cast, w_SfA, w_SfI, w_SfQ, w_Str, w_ScLd, w_ScLen, w_CV0, w_CS0, w_CV1, w_CS1, w_CV2, w_CS2, w_CV3, w_CS3, w_CV4, w_CS4, w_CV5, w_CS5, List.getElem?_cons_zero, List.getElem?_cons_succ, List.set_cons_zero, List.set_cons_succ, List.length_cons, List.length_nil, List.map_cons, List.map_nil, List.sum_cons, List.sum_nil, List.nil_append, List.cons_append, Option.toList_some, Option.toList_none, Value.category, xok, va_rf, true_and, and_true, and_self, Nat.reduceAdd, Nat.reduceLT, Nat.reduceLeDiff, Nat.reduceEqDiff, Nat.reduceMul, beq_self_eq_true, decide_true, ite_true, ite_false, if_true, if_false, reduceIte, Bool.true_eq_false, Bool.false_eq_true, eq_self_iff_true, Nat.zero_le, not_true_eq_false, not_false_eq_true, forall_const, false_implies, implies_true, forall_false, stI_C, stI_N, stI_Z, stI_S, stI_L, stI_R, stL_C, stL_N, stL_Z, stL_S, stL_I, stL_R, stR_C, stR_N, stR_Z, stR_S, stR_I, stR_L, stA_C, stA_N, stA_Z, stA_S, stA_L, stA_R, stI_I, stL_L, stR_R, stA_I, stN_C, stN_N, stN_Z, stN_S, stN_I, stN_L, stN_R, stI_ne, stL_ne, stR_ne, hM.all, g, xin, p1, c1, l1, p2, c2, l2, ek, ne10, ne10L, ne01, ne01L, tt_imp, nt_imp, ff_imp, nf_imp, true_and, and_true, true_or, or_true, reduceIte]
    refine ih (k + 1) _ N1 (by omega) (f.wI (by simp)) (fun j hj => ?_) (fun j hj => ?_) (by omega)
    · rw [stI_up, hpI_stA]
      rcases (show j < k ∨ j = k by omega) with z | z
      · rw [up_ne (by omega)]; exact h1 j z
      · rw [z, up_eq]; exact hv
    · rw [stI_up, hpI_stA, up_ne (by omega)]
      exact h2 j (by omega)
theorem gb_8 {Q : XR → Prop} {X : XK} {G0 : XH} {y : Int32} (hM0 : MS G0) (hX : ∀ K, f_Mdl_giveBack_8 K = (xIld 2 (xI 2176 (xicmp_ge X (xAld 0 (xGetR 11 6 (xIld 2 (xAld 0 (xGetR 11 9 (xIld 2 (xIaldh (xIasth (xIinc 2 1 K)))))))))))) ) (hK : ∀ G', Fr (fun a _ => a == 75) G0 G' → (∀ j, j < 2176 → hpI G' 75 j = hpI G0 77 j) → (∀ j, 2176 ≤ j → hpI G' 75 j = hpI G0 75 j) → WP X [some (.ref 70), some (.int y), some (.int (nI 2176))] [] G' Q) : ∀ (m k : Nat) (G : XH) (N : Nat), k + m = 2176 → Fr (fun a _ => a == 75) G0 G → (∀ j, j < k → hpI G 75 j = hpI G0 77 j) → (∀ j, k ≤ j → hpI G 75 j = hpI G0 75 j) → m < N → WP (xloop f_Mdl_giveBack_8 N) [some (.ref 70), some (.int y), some (.int (nI k))] [] G Q := by
  intro m
  induction m with
  | zero =>
    intro k G N hk f h1 h2 hN
    obtain ⟨N1, rfl⟩ : ∃ N1, N = N1 + 1 := ⟨N - 1, by omega⟩
    have e : k = 2176 := by omega
    subst e
    have g : (2176 ≤ nI 2176) = True := eq_true (by decide)
    rw [xloop_s, hX]
    simp only [w_iadd, w_isub, w_imul, w_iand, w_ior, w_ixor, w_ishl, w_ishr, w_iushr, w_idiv, w_irem, w_ineg, w_ladd, w_lsub, w_lmul, w_ldiv, w_lrem, w_i2l, w_l2i, w_i2c, w_lcmp, w_dup_int, w_pop_int, w_dup_ref, w_pop_ref, w_dup_retAddr, w_pop_retAddr, w_dup2, w_I, w_L, w_Null, w_Ild, w_Lld, w_Ald, w_Ist, w_Lst, w_Ast, w_Iinc, w_if_eq, w_icmp_eq, w_if_ne, w_icmp_ne, w_if_lt, w_icmp_lt, w_if_ge, w_icmp_ge, w_if_gt, w_icmp_gt, w_if_le, w_icmp_le, w_GetI, w_GetL, w_GetR, w_PutI, w_PutZ, w_PutL, w_PutR, w_PutN, w_Iald, w_Zald, w_Lald, w_Aald, w_Iast, w_Zast, w_Last, w_AastR, w_AastN, w_Alen, w_New, w_NewA, w_Mna, w_Iret, w_Zret, w_Cret, w_Bret, w_Lret, w_AretR, w_AretN, w_Vret, w_Obj, w_IfNN, w_IfNR, w_Copy, w_Cln, w_Cast, w_SfA, w_SfI, w_SfQ, w_Str, w_ScLd, w_ScLen, w_CV0, w_CS0, w_CV1, w_CS1, w_CV2, w_CS2, w_CV3, w_CS3, w_CV4, w_CS4, w_CV5, w_CS5, List.getElem?_cons_zero, List.getElem?_cons_succ, List.set_cons_zero, List.set_cons_succ, List.length_cons, List.length_nil, List.map_cons, List.map_nil, List.sum_cons, List.sum_nil, List.nil_append, List.cons_append, Option.toList_some, Option.toList_none, Value.category, xok, va_rf, true_and, and_true, and_self, Nat.reduceAdd, Nat.reduceLT, Nat.reduceLeDiff, Nat.reduceEqDiff, Nat.reduceMul, beq_self_eq_true, decide_true, ite_true, ite_false, if_true, if_false, reduceIte, Bool.true_eq_false, Bool.false_eq_true, eq_self_iff_true, Nat.zero_le, not_true_eq_false, not_false_eq_true, forall_const, false_implies, implies_true, forall_false, g, ne10, ne10L, ne01, ne01L, tt_imp, nt_imp, ff_imp, nf_imp, true_and, and_true, true_or, or_true, reduceIte]
    exact hK G f h1 h2
  | succ m ih =>
    intro k G N hk f h1 h2 hN
    obtain ⟨N1, rfl⟩ : ∃ N1, N = N1 + 1 := ⟨N - 1, by omega⟩
    have hM := f.ms hM0
    have g : (2176 ≤ nI k) = False := eq_false (by rw [show (2176 : Int32) = nI 2176 from rfl, nl_le (by omega) (by omega)]; omega)
    have ek : nI k + Int32.ofInt 1 = nI (k + 1) := nI_1 k
    have hv : hpI G 77 k = hpI G0 77 k := f.I rfl
    have p1 : 0 ≤ nI (k) := nI_pos' (by omega)
    have c1 : (nI (k)).toNatClampNeg = k := nI_clamp (by omega)
    have l1 : k < 3536 := by omega
    have p2 : 0 ≤ nI (k) := nI_pos' (by omega)
    have c2 : (nI (k)).toNatClampNeg = k := nI_clamp (by omega)
    have l2 : k < 2176 := by omega
    rw [xloop_s, hX]
    simp only [w_iadd, w_isub, w_imul, w_iand, w_ior, w_ixor, w_ishl, w_ishr, w_iushr, w_idiv, w_irem, w_ineg, w_ladd, w_lsub, w_lmul, w_ldiv, w_lrem, w_i2l, w_l2i, w_i2c, w_lcmp, w_dup_int, w_pop_int, w_dup_ref, w_pop_ref, w_dup_retAddr, w_pop_retAddr, w_dup2, w_I, w_L, w_Null, w_Ild, w_Lld, w_Ald, w_Ist, w_Lst, w_Ast, w_Iinc, w_if_eq, w_icmp_eq, w_if_ne, w_icmp_ne, w_if_lt, w_icmp_lt, w_if_ge, w_icmp_ge, w_if_gt, w_icmp_gt, w_if_le, w_icmp_le, w_GetI, w_GetL, w_GetR, w_PutI, w_PutZ, w_PutL, w_PutR, w_PutN, w_Iald, w_Zald, w_Lald, w_Aald, w_Iast, w_Zast, w_Last, w_AastR, w_AastN, w_Alen, w_New, w_NewA, w_Mna, w_Iret, w_Zret, w_Cret, w_Bret, w_Lret, w_AretR, w_AretN, w_Vret, w_Obj, w_IfNN, w_IfNR, w_Copy, w_Cln, w_Cast, w_SfA, w_SfI, w_SfQ, w_Str, w_ScLd, w_ScLen, w_CV0, w_CS0, w_CV1, w_CS1, w_CV2, w_CS2, w_CV3, w_CS3, w_CV4, w_CS4, w_CV5, w_CS5, List.getElem?_cons_zero, List.getElem?_cons_succ, List.set_cons_zero, List.set_cons_succ, List.length_cons, List.length_nil, List.map_cons, List.map_nil, List.sum_cons, List.sum_nil, List.nil_append, List.cons_append, Option.toList_some, Option.toList_none, Value.category, xok, va_rf, true_and, and_true, and_self, Nat.reduceAdd, Nat.reduceLT, Nat.reduceLeDiff, Nat.reduceEqDiff, Nat.reduceMul, beq_self_eq_true, decide_true, ite_true, ite_false, if_true, if_false, reduceIte, Bool.true_eq_false, Bool.false_eq_true, eq_self_iff_true, Nat.zero_le, not_true_eq_false, not_false_eq_true, forall_const, false_implies, implies_true, forall_false, stI_C, stI_N, stI_Z, stI_S, stI_L, stI_R, stL_C, stL_N, stL_Z, stL_S, stL_I, stL_R, stR_C, stR_N, stR_Z, stR_S, stR_I, stR_L, stA_C, stA_N, stA_Z, stA_S, stA_L, stA_R, stI_I, stL_L, stR_R, stA_I, stN_C, stN_N, stN_Z, stN_S, stN_I, stN_L, stN_R, stI_ne, stL_ne, stR_ne, hM.all, g, xin, p1, c1, l1, p2, c2, l2, ek, ne10, ne10L, ne01, ne01L, tt_imp, nt_imp, ff_imp, nf_imp, true_and, and_true, true_or, or_true, reduceIte]
    refine ih (k + 1) _ N1 (by omega) (f.wI (by simp)) (fun j hj => ?_) (fun j hj => ?_) (by omega)
    · rw [stI_up, hpI_stA]
      rcases (show j < k ∨ j = k by omega) with z | z
      · rw [up_ne (by omega)]; exact h1 j z
      · rw [z, up_eq]; exact hv
    · rw [stI_up, hpI_stA, up_ne (by omega)]
      exact h2 j (by omega)
theorem gb_35 {Q : XR → Prop} {X : XK} {G0 : XH} {y : Int32} (hM0 : MS G0) (hX : ∀ K, f_Mdl_giveBack_35 K = (xIld 2 (xI 16 (xicmp_ge X (xAld 0 (xGetR 11 7 (xIld 2 (xAld 0 (xGetR 11 10 (xIld 2 (xIaldh (xIasth (xIinc 2 1 K)))))))))))) ) (hK : ∀ G', Fr (fun a _ => a == 76) G0 G' → (∀ j, j < 16 → hpI G' 76 j = hpI G0 78 j) → (∀ j, 16 ≤ j → hpI G' 76 j = hpI G0 76 j) → WP X [some (.ref 70), some (.int y), some (.int (nI 16))] [] G' Q) : ∀ (m k : Nat) (G : XH) (N : Nat), k + m = 16 → Fr (fun a _ => a == 76) G0 G → (∀ j, j < k → hpI G 76 j = hpI G0 78 j) → (∀ j, k ≤ j → hpI G 76 j = hpI G0 76 j) → m < N → WP (xloop f_Mdl_giveBack_35 N) [some (.ref 70), some (.int y), some (.int (nI k))] [] G Q := by
  intro m
  induction m with
  | zero =>
    intro k G N hk f h1 h2 hN
    obtain ⟨N1, rfl⟩ : ∃ N1, N = N1 + 1 := ⟨N - 1, by omega⟩
    have e : k = 16 := by omega
    subst e
    have g : (16 ≤ nI 16) = True := eq_true (by decide)
    rw [xloop_s, hX]
    simp only [w_iadd, w_isub, w_imul, w_iand, w_ior, w_ixor, w_ishl, w_ishr, w_iushr, w_idiv, w_irem, w_ineg, w_ladd, w_lsub, w_lmul, w_ldiv, w_lrem, w_i2l, w_l2i, w_i2c, w_lcmp, w_dup_int, w_pop_int, w_dup_ref, w_pop_ref, w_dup_retAddr, w_pop_retAddr, w_dup2, w_I, w_L, w_Null, w_Ild, w_Lld, w_Ald, w_Ist, w_Lst, w_Ast, w_Iinc, w_if_eq, w_icmp_eq, w_if_ne, w_icmp_ne, w_if_lt, w_icmp_lt, w_if_ge, w_icmp_ge, w_if_gt, w_icmp_gt, w_if_le, w_icmp_le, w_GetI, w_GetL, w_GetR, w_PutI, w_PutZ, w_PutL, w_PutR, w_PutN, w_Iald, w_Zald, w_Lald, w_Aald, w_Iast, w_Zast, w_Last, w_AastR, w_AastN, w_Alen, w_New, w_NewA, w_Mna, w_Iret, w_Zret, w_Cret, w_Bret, w_Lret, w_AretR, w_AretN, w_Vret, w_Obj, w_IfNN, w_IfNR, w_Copy, w_Cln, w_Cast, w_SfA, w_SfI, w_SfQ, w_Str, w_ScLd, w_ScLen, w_CV0, w_CS0, w_CV1, w_CS1, w_CV2, w_CS2, w_CV3, w_CS3, w_CV4, w_CS4, w_CV5, w_CS5, List.getElem?_cons_zero, List.getElem?_cons_succ, List.set_cons_zero, List.set_cons_succ, List.length_cons, List.length_nil, List.map_cons, List.map_nil, List.sum_cons, List.sum_nil, List.nil_append, List.cons_append, Option.toList_some, Option.toList_none, Value.category, xok, va_rf, true_and, and_true, and_self, Nat.reduceAdd, Nat.reduceLT, Nat.reduceLeDiff, Nat.reduceEqDiff, Nat.reduceMul, beq_self_eq_true, decide_true, ite_true, ite_false, if_true, if_false, reduceIte, Bool.true_eq_false, Bool.false_eq_true, eq_self_iff_true, Nat.zero_le, not_true_eq_false, not_false_eq_true, forall_const, false_implies, implies_true, forall_false, g, ne10, ne10L, ne01, ne01L, tt_imp, nt_imp, ff_imp, nf_imp, true_and, and_true, true_or, or_true, reduceIte]
    exact hK G f h1 h2
  | succ m ih =>
    intro k G N hk f h1 h2 hN
    obtain ⟨N1, rfl⟩ : ∃ N1, N = N1 + 1 := ⟨N - 1, by omega⟩
    have hM := f.ms hM0
    have g : (16 ≤ nI k) = False := eq_false (by rw [show (16 : Int32) = nI 16 from rfl, nl_le (by omega) (by omega)]; omega)
    have ek : nI k + Int32.ofInt 1 = nI (k + 1) := nI_1 k
    have hv : hpI G 78 k = hpI G0 78 k := f.I rfl
    have p1 : 0 ≤ nI (k) := nI_pos' (by omega)
    have c1 : (nI (k)).toNatClampNeg = k := nI_clamp (by omega)
    have l1 : k < 16 := by omega
    have p2 : 0 ≤ nI (k) := nI_pos' (by omega)
    have c2 : (nI (k)).toNatClampNeg = k := nI_clamp (by omega)
    have l2 : k < 16 := by omega
    rw [xloop_s, hX]
    simp only [w_iadd, w_isub, w_imul, w_iand, w_ior, w_ixor, w_ishl, w_ishr, w_iushr, w_idiv, w_irem, w_ineg, w_ladd, w_lsub, w_lmul, w_ldiv, w_lrem, w_i2l, w_l2i, w_i2c, w_lcmp, w_dup_int, w_pop_int, w_dup_ref, w_pop_ref, w_dup_retAddr, w_pop_retAddr, w_dup2, w_I, w_L, w_Null, w_Ild, w_Lld, w_Ald, w_Ist, w_Lst, w_Ast, w_Iinc, w_if_eq, w_icmp_eq, w_if_ne, w_icmp_ne, w_if_lt, w_icmp_lt, w_if_ge, w_icmp_ge, w_if_gt, w_icmp_gt, w_if_le, w_icmp_le, w_GetI, w_GetL, w_GetR, w_PutI, w_PutZ, w_PutL, w_PutR, w_PutN, w_Iald, w_Zald, w_Lald, w_Aald, w_Iast, w_Zast, w_Last, w_AastR, w_AastN, w_Alen, w_New, w_NewA, w_Mna, w_Iret, w_Zret, w_Cret, w_Bret, w_Lret, w_AretR, w_AretN, w_Vret, w_Obj, w_IfNN, w_IfNR, w_Copy, w_Cln, w_Cast, w_SfA, w_SfI, w_SfQ, w_Str, w_ScLd, w_ScLen, w_CV0, w_CS0, w_CV1, w_CS1, w_CV2, w_CS2, w_CV3, w_CS3, w_CV4, w_CS4, w_CV5, w_CS5, List.getElem?_cons_zero, List.getElem?_cons_succ, List.set_cons_zero, List.set_cons_succ, List.length_cons, List.length_nil, List.map_cons, List.map_nil, List.sum_cons, List.sum_nil, List.nil_append, List.cons_append, Option.toList_some, Option.toList_none, Value.category, xok, va_rf, true_and, and_true, and_self, Nat.reduceAdd, Nat.reduceLT, Nat.reduceLeDiff, Nat.reduceEqDiff, Nat.reduceMul, beq_self_eq_true, decide_true, ite_true, ite_false, if_true, if_false, reduceIte, Bool.true_eq_false, Bool.false_eq_true, eq_self_iff_true, Nat.zero_le, not_true_eq_false, not_false_eq_true, forall_const, false_implies, implies_true, forall_false, stI_C, stI_N, stI_Z, stI_S, stI_L, stI_R, stL_C, stL_N, stL_Z, stL_S, stL_I, stL_R, stR_C, stR_N, stR_Z, stR_S, stR_I, stR_L, stA_C, stA_N, stA_Z, stA_S, stA_L, stA_R, stI_I, stL_L, stR_R, stA_I, stN_C, stN_N, stN_Z, stN_S, stN_I, stN_L, stN_R, stI_ne, stL_ne, stR_ne, hM.all, g, xin, p1, c1, l1, p2, c2, l2, ek, ne10, ne10L, ne01, ne01L, tt_imp, nt_imp, ff_imp, nf_imp, true_and, and_true, true_or, or_true, reduceIte]
    refine ih (k + 1) _ N1 (by omega) (f.wI (by simp)) (fun j hj => ?_) (fun j hj => ?_) (by omega)
    · rw [stI_up, hpI_stA]
      rcases (show j < k ∨ j = k by omega) with z | z
      · rw [up_ne (by omega)]; exact h1 j z
      · rw [z, up_eq]; exact hv
    · rw [stI_up, hpI_stA, up_ne (by omega)]
      exact h2 j (by omega)
theorem sL_eq {G : XH} {a k : Nat} {v : Int64} : hpL (stL G a k v) a k = v := by
  show up2 (hpL G) a k v a k = v
  unfold up2
  rw [if_pos rfl, if_pos rfl]
theorem sL_ne {G : XH} {a k x y : Nat} {v : Int64} (h : ¬ (x = a ∧ y = k)) : hpL (stL G a k v) x y = hpL G x y := by
  show up2 (hpL G) a k v x y = _
  unfold up2
  by_cases h1 : x = a
  · rw [if_pos h1, if_neg (fun g => h ⟨h1, g⟩)]
  · rw [if_neg h1]
theorem s_run {T : Nat → (Nat → Int64) → Option Int64} {hl : Bool} {A B : Nat → Nat} {n nr nl c : Nat} {R0 u0 : Nat → Int32} {G : XH} {S : OS} (h : MRn T hl u0 G S) (hI : OI R0 nr nl c S) (hc : c + S.2.1 ≤ 500000) (hd : S.2.1 ≤ 1000) (hRd : MRd S.1 n A B) {J : Nat → Nat × Nat} {qf : Nat} (hcd : CDo G J qf) {i : Nat} {cl : CLd} (hi : i < 12) (hcl : CMo (hpI G 103) J i cl qf) (hk : CLk true cl) : SP D_Mdl_run [.ref 70, .int (nI (8 * i))] G (RnQ T hl u0 G S (oOne T hl A B n nr nl cl S)) := by
  have hM := h.1.1
  have hrow := h.1.2.2.1
  have hdn := h.2.1
  have hpd := h.2.2.1
  have e5 : nI (8 * i) + 5 = nI (8 * i + 5) := nI_add _ 5
  have e6 : nI (8 * i) + 6 = nI (8 * i + 6) := nI_add _ 6
  have p25 : 0 ≤ nI (8 * i + 5) := nI_pos' (by omega)
  have c25 : (nI (8 * i + 5)).toNatClampNeg = 8 * i + 5 := nI_clamp (by omega)
  have l25 : 8 * i + 5 < 96 := by omega
  have p26 : 0 ≤ nI (8 * i + 6) := nI_pos' (by omega)
  have c26 : (nI (8 * i + 6)).toNatClampNeg = 8 * i + 6 := nI_clamp (by omega)
  have l26 : 8 * i + 6 < 96 := by omega
  obtain ⟨G1, hG1⟩ : ∃ G1, G1 = stL (stL (stL (stL (stL G 89 1 (S.1 5).toInt64) 89 2 (S.1 2).toInt64) 89 3 (S.1 8).toInt64) 89 4 (nI S.2.1).toInt64) 89 5 S.2.2.1.toInt64 := ⟨_, rfl⟩
  have W1 : Fr (fun a k => a == 89 || (a == 70 && k == 61)) G G1 := by rw [hG1]; exact ((((Fr.refl.wL rfl).wL rfl).wL rfl).wL rfl).wL rfl
  have hM1 := W1.ms hM
  obtain ⟨G2, hG2⟩ : ∃ G2, G2 = stI G1 70 61 0 := ⟨_, rfl⟩
  have W2 : Fr (fun a k => a == 89 || (a == 70 && k == 61)) G G2 := by rw [hG2]; exact W1.wI rfl
  have hM2 := W2.ms hM
  have hoff : hpI G2 70 61 = 0 := by rw [hG2, stI_up, hpI_stA, up_eq]
  have hrow2 : hpI G2 72 = S.1 := (W2.IA _ (fun _ => rfl)).trans hrow
  have hL2 : hpL G2 = hpL G1 := by rw [hG2]; rfl
  have hen : menv true G2 = owE S.1 S.2.1 S.2.2.1 := by
    funext w
    unfold menv owE
    rw [if_pos rfl, hL2, hrow2]
    by_cases w5 : w < 5
    · rw [if_pos w5, if_pos w5, hG1]
      rcases (show w = 0 ∨ w = 1 ∨ w = 2 ∨ w = 3 ∨ w = 4 by omega) with rfl | rfl | rfl | rfl | rfl
      · rw [sL_ne (by omega), sL_ne (by omega), sL_ne (by omega), sL_ne (by omega), sL_eq]; rfl
      · rw [sL_ne (by omega), sL_ne (by omega), sL_ne (by omega), sL_eq]; rfl
      · rw [sL_ne (by omega), sL_ne (by omega), sL_eq]; rfl
      · rw [sL_ne (by omega), sL_eq]; rfl
      · rw [sL_eq]; rfl
    · rw [if_neg w5, if_neg w5]
  have h2 : MRn T hl u0 G2 S := h.fr W2 ((W2.I rfl).trans h.1.2.1) rfl rfl rfl (fun _ => rfl) (fun _ => rfl) (fun _ => rfl)
  have fR : Fr WRun G G2 := W2.mono (fun a k z => by
    unfold WRun at z
    simp only [Bool.or_eq_false_iff, Bool.and_eq_false_iff] at z ⊢
    refine ⟨z.1.2, ?_⟩
    rcases z.2 with y | y
    · exact Or.inl y
    · exact Or.inr y.1.1.2)
  have hcd2 := hcd.fr W2 (fun _ => rfl) (fun _ => rfl)
  have hcl2 : CMo (hpI G2 103) J i cl qf := by rw [W2.IA 103 (fun _ => rfl)]; exact hcl
  have h108 := fun x2 x3 x4 x5 => (run_108 (x2 := x2) (x3 := x3) (x4 := x4) (x5 := x5) h2 hI hc hd hRd hcd2 hi hcl2 hk hoff hen).mono (fun z hz => hz.fr fR)
  obtain ⟨p0, p2, p3, hsw, c5, c6, c7, c8, c9⟩ := hcl2
  have l7 := c7.le
  have qf4 := hcd.2.2
  obtain ⟨P, hP⟩ : ∃ P : XR → Prop, P = RnQ T hl u0 G S (oOne T hl A B n nr nl cl S) := ⟨_, rfl⟩
  have h61 : WP k_Mdl_run_61 [some (.ref 70), some (.int (nI (8 * i))), none, none, none, none] [.ref 70] G1 P := by
    rcases c7 with ⟨hlt, hh, hh1, hok⟩ | ⟨he, hf⟩
    · have gle : (nI p3 ≤ nI p2) = False := eq_false (by rw [nl_le (by omega) (by omega)]; omega)
      simp only [k_Mdl_run_61, w_iadd, w_isub, w_imul, w_iand, w_ior, w_ixor, w_ishl, w_ishr, w_iushr, w_idiv, w_irem, w_ineg, w_ladd, w_lsub, w_lmul, w_ldiv, w_lrem, w_i2l, w_l2i, w_i2c, w_lcmp, w_dup_int, w_pop_int, w_dup_ref, w_pop_ref, w_dup_retAddr, w_pop_retAddr, w_dup2, w_I, w_L, w_Null, w_Ild, w_Lld, w_Ald, w_Ist, w_Lst, w_Ast, w_Iinc, w_if_eq, w_icmp_eq, w_if_ne, w_icmp_ne, w_if_lt, w_icmp_lt, w_if_ge, w_icmp_ge, w_if_gt, w_icmp_gt, w_if_le, w_icmp_le, w_GetI, w_GetL, w_GetR, w_PutI, w_PutZ, w_PutL, w_PutR, w_PutN, w_Iald, w_Zald, w_Lald, w_Aald, w_Iast, w_Zast, w_Last, w_AastR, w_AastN, w_Alen, w_New, w_NewA, w_Mna, w_Iret, w_Zret, w_Cret, w_Bret, w_Lret, w_AretR, w_AretN, w_Vret, w_Obj, w_IfNN, w_IfNR, w_Copy, w_Cln, w_Cast, w_SfA, w_SfI, w_SfQ, w_Str, w_ScLd, w_ScLen, w_CV0, w_CS0, w_CV1, w_CS1, w_CV2, w_CS2, w_CV3, w_CS3, w_CV4, w_CS4, w_CV5, w_CS5, List.getElem?_cons_zero, List.getElem?_cons_succ, List.set_cons_zero, List.set_cons_succ, List.length_cons, List.length_nil, List.map_cons, List.map_nil, List.sum_cons, List.sum_nil, List.nil_append, List.cons_append, Option.toList_some, Option.toList_none, Value.category, xok, va_rf, true_and, and_true, and_self, Nat.reduceAdd, Nat.reduceLT, Nat.reduceLeDiff, Nat.reduceEqDiff, Nat.reduceMul, beq_self_eq_true, decide_true, ite_true, ite_false, if_true, if_false, reduceIte, Bool.true_eq_false, Bool.false_eq_true, eq_self_iff_true, Nat.zero_le, not_true_eq_false, not_false_eq_true, forall_const, false_implies, implies_true, forall_false, stI_C, stI_N, stI_Z, stI_S, stI_L, stI_R, stL_C, stL_N, stL_Z, stL_S, stL_I, stL_R, stR_C, stR_N, stR_Z, stR_S, stR_I, stR_L, stA_C, stA_N, stA_Z, stA_S, stA_L, stA_R, stI_I, stL_L, stR_R, stA_I, stN_C, stN_N, stN_Z, stN_S, stN_I, stN_L, stN_R, stI_ne, stL_ne, stR_ne, hM1.all, or_true, true_or, ← hG2, hM2.all, e5, e6, xin, p25, c25, l25, p26, c26, l26, c5, c6, gle, ne10, ne10L, ne01, ne01L, tt_imp, nt_imp, ff_imp, nf_imp, true_and, and_true, true_or, or_true, reduceIte]
      refine SP.mono (s_sumOf hM2 hcd2 (a := 8 * i + 5) (by omega) c5 c6 hlt c8 hh1 hok hoff) ?_
      rintro ⟨v, G3⟩ ⟨f3, o3, h3⟩
      dsimp only at f3 o3 h3
      rw [hen] at h3
      have hM3 := f3.ms hM2
      have h3' : MRn T hl u0 G3 S := h2.fr f3 o3 rfl rfl rfl (fun _ => rfl) (fun _ => rfl) (fun _ => rfl)
      have fR3 : Fr WRun G G3 := fR.trans (f3.mono WSm_WRun)
      have h106 : ∀ {LO : List (Option Value)}, oOne T hl A B n nr nl cl S = some S → WP k_Mdl_run_106 LO [] G3 P := by
        intro LO e
        simp only [k_Mdl_run_106, w_iadd, w_isub, w_imul, w_iand, w_ior, w_ixor, w_ishl, w_ishr, w_iushr, w_idiv, w_irem, w_ineg, w_ladd, w_lsub, w_lmul, w_ldiv, w_lrem, w_i2l, w_l2i, w_i2c, w_lcmp, w_dup_int, w_pop_int, w_dup_ref, w_pop_ref, w_dup_retAddr, w_pop_retAddr, w_dup2, w_I, w_L, w_Null, w_Ild, w_Lld, w_Ald, w_Ist, w_Lst, w_Ast, w_Iinc, w_if_eq, w_icmp_eq, w_if_ne, w_icmp_ne, w_if_lt, w_icmp_lt, w_if_ge, w_icmp_ge, w_if_gt, w_icmp_gt, w_if_le, w_icmp_le, w_GetI, w_GetL, w_GetR, w_PutI, w_PutZ, w_PutL, w_PutR, w_PutN, w_Iald, w_Zald, w_Lald, w_Aald, w_Iast, w_Zast, w_Last, w_AastR, w_AastN, w_Alen, w_New, w_NewA, w_Mna, w_Iret, w_Zret, w_Cret, w_Bret, w_Lret, w_AretR, w_AretN, w_Vret, w_Obj, w_IfNN, w_IfNR, w_Copy, w_Cln, w_Cast, w_SfA, w_SfI, w_SfQ, w_Str, w_ScLd, w_ScLen, w_CV0, w_CS0, w_CV1, w_CS1, w_CV2, w_CS2, w_CV3, w_CS3, w_CV4, w_CS4, w_CV5, w_CS5]
        rw [hP, e]
        exact ⟨fR3, rfl, h3'⟩
      cases hs : cl.2.2.2.2 (owE S.1 S.2.1 S.2.2.1) with
      | none =>
        rw [hs] at h3
        obtain ⟨⟨v, rfl⟩, of1⟩ := h3
        have eo : oOne T hl A B n nr nl cl S = some S := by unfold oOne; rw [hs, if_neg (fun z => by cases z)]
        simp only [Option.toList_some, List.cons_append, List.nil_append, w_iadd, w_isub, w_imul, w_iand, w_ior, w_ixor, w_ishl, w_ishr, w_iushr, w_idiv, w_irem, w_ineg, w_ladd, w_lsub, w_lmul, w_ldiv, w_lrem, w_i2l, w_l2i, w_i2c, w_lcmp, w_dup_int, w_pop_int, w_dup_ref, w_pop_ref, w_dup_retAddr, w_pop_retAddr, w_dup2, w_I, w_L, w_Null, w_Ild, w_Lld, w_Ald, w_Ist, w_Lst, w_Ast, w_Iinc, w_if_eq, w_icmp_eq, w_if_ne, w_icmp_ne, w_if_lt, w_icmp_lt, w_if_ge, w_icmp_ge, w_if_gt, w_icmp_gt, w_if_le, w_icmp_le, w_GetI, w_GetL, w_GetR, w_PutI, w_PutZ, w_PutL, w_PutR, w_PutN, w_Iald, w_Zald, w_Lald, w_Aald, w_Iast, w_Zast, w_Last, w_AastR, w_AastN, w_Alen, w_New, w_NewA, w_Mna, w_Iret, w_Zret, w_Cret, w_Bret, w_Lret, w_AretR, w_AretN, w_Vret, w_Obj, w_IfNN, w_IfNR, w_Copy, w_Cln, w_Cast, w_SfA, w_SfI, w_SfQ, w_Str, w_ScLd, w_ScLen, w_CV0, w_CS0, w_CV1, w_CS1, w_CV2, w_CS2, w_CV3, w_CS3, w_CV4, w_CS4, w_CV5, w_CS5, List.getElem?_cons_zero, List.getElem?_cons_succ, List.set_cons_zero, List.set_cons_succ, List.length_cons, List.length_nil, List.map_cons, List.map_nil, List.sum_cons, List.sum_nil, List.nil_append, List.cons_append, Option.toList_some, Option.toList_none, Value.category, xok, va_rf, true_and, and_true, and_self, Nat.reduceAdd, Nat.reduceLT, Nat.reduceLeDiff, Nat.reduceEqDiff, Nat.reduceMul, beq_self_eq_true, decide_true, ite_true, ite_false, if_true, if_false, reduceIte, Bool.true_eq_false, Bool.false_eq_true, eq_self_iff_true, Nat.zero_le, not_true_eq_false, not_false_eq_true, forall_const, false_implies, implies_true, forall_false, hM3.all, of1, ne10, ne10L, ne01, ne01L, tt_imp, nt_imp, ff_imp, nf_imp, true_and, and_true, true_or, or_true, reduceIte]
        exact h106 eo
      | some x =>
        rw [hs] at h3
        obtain ⟨rfl, of1⟩ := h3
        rcases hk.2.1 (owE S.1 S.2.1 S.2.2.1) with z | z | z
        · rw [hs] at z; cases z
        · rw [hs] at z
          injection z with z
          subst z
          have eo : oOne T hl A B n nr nl cl S = some S := by unfold oOne; rw [hs, if_neg (fun z => by injection z with z; exact absurd z (by decide))]
          have gz : (lg_cmp 0 0 = 0) = True := eq_true (by decide)
          simp only [Option.toList_some, List.cons_append, List.nil_append, w_iadd, w_isub, w_imul, w_iand, w_ior, w_ixor, w_ishl, w_ishr, w_iushr, w_idiv, w_irem, w_ineg, w_ladd, w_lsub, w_lmul, w_ldiv, w_lrem, w_i2l, w_l2i, w_i2c, w_lcmp, w_dup_int, w_pop_int, w_dup_ref, w_pop_ref, w_dup_retAddr, w_pop_retAddr, w_dup2, w_I, w_L, w_Null, w_Ild, w_Lld, w_Ald, w_Ist, w_Lst, w_Ast, w_Iinc, w_if_eq, w_icmp_eq, w_if_ne, w_icmp_ne, w_if_lt, w_icmp_lt, w_if_ge, w_icmp_ge, w_if_gt, w_icmp_gt, w_if_le, w_icmp_le, w_GetI, w_GetL, w_GetR, w_PutI, w_PutZ, w_PutL, w_PutR, w_PutN, w_Iald, w_Zald, w_Lald, w_Aald, w_Iast, w_Zast, w_Last, w_AastR, w_AastN, w_Alen, w_New, w_NewA, w_Mna, w_Iret, w_Zret, w_Cret, w_Bret, w_Lret, w_AretR, w_AretN, w_Vret, w_Obj, w_IfNN, w_IfNR, w_Copy, w_Cln, w_Cast, w_SfA, w_SfI, w_SfQ, w_Str, w_ScLd, w_ScLen, w_CV0, w_CS0, w_CV1, w_CS1, w_CV2, w_CS2, w_CV3, w_CS3, w_CV4, w_CS4, w_CV5, w_CS5, List.getElem?_cons_zero, List.getElem?_cons_succ, List.set_cons_zero, List.set_cons_succ, List.length_cons, List.length_nil, List.map_cons, List.map_nil, List.sum_cons, List.sum_nil, List.nil_append, List.cons_append, Option.toList_some, Option.toList_none, Value.category, xok, va_rf, true_and, and_true, and_self, Nat.reduceAdd, Nat.reduceLT, Nat.reduceLeDiff, Nat.reduceEqDiff, Nat.reduceMul, beq_self_eq_true, decide_true, ite_true, ite_false, if_true, if_false, reduceIte, Bool.true_eq_false, Bool.false_eq_true, eq_self_iff_true, Nat.zero_le, not_true_eq_false, not_false_eq_true, forall_const, false_implies, implies_true, forall_false, hM3.all, of1, gz, ne10, ne10L, ne01, ne01L, tt_imp, nt_imp, ff_imp, nf_imp, true_and, and_true, true_or, or_true, reduceIte]
          exact h106 eo
        · rw [hs] at z
          injection z with z
          subst z
          have eo : oOne T hl A B n nr nl cl S = oAct T hl A B n nr nl cl S := by unfold oOne; rw [hs, if_pos rfl]
          have gz : (lg_cmp 1 0 = 0) = False := eq_false (by decide)
          have hcd3 := hcd2.fr f3 (fun _ => rfl) (fun _ => rfl)
          have hcl3 : CMo (hpI G3 103) J i cl qf := by rw [f3.IA 103 (fun _ => rfl)]; exact ⟨p0, p2, p3, hsw, c5, c6, Or.inl ⟨hlt, hh, hh1, hok⟩, c8, c9⟩
          have hen3 : menv true G3 = owE S.1 S.2.1 S.2.2.1 := by rw [← hen]; exact menv_congr (f3.LA _ (fun _ => rfl)) (f3.IA _ (fun _ => rfl))
          have := fun x2 x3 x4 x5 => (run_108 (x2 := x2) (x3 := x3) (x4 := x4) (x5 := x5) h3' hI hc hd hRd hcd3 hi hcl3 hk of1 hen3).mono (fun z hz => hz.fr fR3)
          simp only [Option.toList_some, List.cons_append, List.nil_append, w_iadd, w_isub, w_imul, w_iand, w_ior, w_ixor, w_ishl, w_ishr, w_iushr, w_idiv, w_irem, w_ineg, w_ladd, w_lsub, w_lmul, w_ldiv, w_lrem, w_i2l, w_l2i, w_i2c, w_lcmp, w_dup_int, w_pop_int, w_dup_ref, w_pop_ref, w_dup_retAddr, w_pop_retAddr, w_dup2, w_I, w_L, w_Null, w_Ild, w_Lld, w_Ald, w_Ist, w_Lst, w_Ast, w_Iinc, w_if_eq, w_icmp_eq, w_if_ne, w_icmp_ne, w_if_lt, w_icmp_lt, w_if_ge, w_icmp_ge, w_if_gt, w_icmp_gt, w_if_le, w_icmp_le, w_GetI, w_GetL, w_GetR, w_PutI, w_PutZ, w_PutL, w_PutR, w_PutN, w_Iald, w_Zald, w_Lald, w_Aald, w_Iast, w_Zast, w_Last, w_AastR, w_AastN, w_Alen, w_New, w_NewA, w_Mna, w_Iret, w_Zret, w_Cret, w_Bret, w_Lret, w_AretR, w_AretN, w_Vret, w_Obj, w_IfNN, w_IfNR, w_Copy, w_Cln, w_Cast, w_SfA, w_SfI, w_SfQ, w_Str, w_ScLd, w_ScLen, w_CV0, w_CS0, w_CV1, w_CS1, w_CV2, w_CS2, w_CV3, w_CS3, w_CV4, w_CS4, w_CV5, w_CS5, List.getElem?_cons_zero, List.getElem?_cons_succ, List.set_cons_zero, List.set_cons_succ, List.length_cons, List.length_nil, List.map_cons, List.map_nil, List.sum_cons, List.sum_nil, List.nil_append, List.cons_append, Option.toList_some, Option.toList_none, Value.category, xok, va_rf, true_and, and_true, and_self, Nat.reduceAdd, Nat.reduceLT, Nat.reduceLeDiff, Nat.reduceEqDiff, Nat.reduceMul, beq_self_eq_true, decide_true, ite_true, ite_false, if_true, if_false, reduceIte, Bool.true_eq_false, Bool.false_eq_true, eq_self_iff_true, Nat.zero_le, not_true_eq_false, not_false_eq_true, forall_const, false_implies, implies_true, forall_false, hM3.all, of1, gz, ne10, ne10L, ne01, ne01L, tt_imp, nt_imp, ff_imp, nf_imp, true_and, and_true, true_or, or_true, reduceIte]
          rw [hP, eo]
          exact this _ _ _ _
    · subst he
      have gle : (nI p2 ≤ nI p2) = True := eq_true (Int32.le_refl _)
      have eo : oOne T hl A B n nr nl cl S = oAct T hl A B n nr nl cl S := by unfold oOne; rw [hf]; exact if_pos rfl
      simp only [k_Mdl_run_61, w_iadd, w_isub, w_imul, w_iand, w_ior, w_ixor, w_ishl, w_ishr, w_iushr, w_idiv, w_irem, w_ineg, w_ladd, w_lsub, w_lmul, w_ldiv, w_lrem, w_i2l, w_l2i, w_i2c, w_lcmp, w_dup_int, w_pop_int, w_dup_ref, w_pop_ref, w_dup_retAddr, w_pop_retAddr, w_dup2, w_I, w_L, w_Null, w_Ild, w_Lld, w_Ald, w_Ist, w_Lst, w_Ast, w_Iinc, w_if_eq, w_icmp_eq, w_if_ne, w_icmp_ne, w_if_lt, w_icmp_lt, w_if_ge, w_icmp_ge, w_if_gt, w_icmp_gt, w_if_le, w_icmp_le, w_GetI, w_GetL, w_GetR, w_PutI, w_PutZ, w_PutL, w_PutR, w_PutN, w_Iald, w_Zald, w_Lald, w_Aald, w_Iast, w_Zast, w_Last, w_AastR, w_AastN, w_Alen, w_New, w_NewA, w_Mna, w_Iret, w_Zret, w_Cret, w_Bret, w_Lret, w_AretR, w_AretN, w_Vret, w_Obj, w_IfNN, w_IfNR, w_Copy, w_Cln, w_Cast, w_SfA, w_SfI, w_SfQ, w_Str, w_ScLd, w_ScLen, w_CV0, w_CS0, w_CV1, w_CS1, w_CV2, w_CS2, w_CV3, w_CS3, w_CV4, w_CS4, w_CV5, w_CS5, List.getElem?_cons_zero, List.getElem?_cons_succ, List.set_cons_zero, List.set_cons_succ, List.length_cons, List.length_nil, List.map_cons, List.map_nil, List.sum_cons, List.sum_nil, List.nil_append, List.cons_append, Option.toList_some, Option.toList_none, Value.category, xok, va_rf, true_and, and_true, and_self, Nat.reduceAdd, Nat.reduceLT, Nat.reduceLeDiff, Nat.reduceEqDiff, Nat.reduceMul, beq_self_eq_true, decide_true, ite_true, ite_false, if_true, if_false, reduceIte, Bool.true_eq_false, Bool.false_eq_true, eq_self_iff_true, Nat.zero_le, not_true_eq_false, not_false_eq_true, forall_const, false_implies, implies_true, forall_false, stI_C, stI_N, stI_Z, stI_S, stI_L, stI_R, stL_C, stL_N, stL_Z, stL_S, stL_I, stL_R, stR_C, stR_N, stR_Z, stR_S, stR_I, stR_L, stA_C, stA_N, stA_Z, stA_S, stA_L, stA_R, stI_I, stL_L, stR_R, stA_I, stN_C, stN_N, stN_Z, stN_S, stN_I, stN_L, stN_R, stI_ne, stL_ne, stR_ne, hM1.all, or_true, true_or, ← hG2, hM2.all, e5, e6, xin, p25, c25, l25, p26, c26, l26, c5, c6, gle, ne10, ne10L, ne01, ne01L, tt_imp, nt_imp, ff_imp, nf_imp, true_and, and_true, true_or, or_true, reduceIte]
      rw [hP, eo]
      exact h108 _ _ _ _
  rw [e_Mdl_run, ← hP]
  simp only [k_Mdl_run_0, e_Mdl_day, k_Mdl_day_0, w_iadd, w_isub, w_imul, w_iand, w_ior, w_ixor, w_ishl, w_ishr, w_iushr, w_idiv, w_irem, w_ineg, w_ladd, w_lsub, w_lmul, w_ldiv, w_lrem, w_i2l, w_l2i, w_i2c, w_lcmp, w_dup_int, w_pop_int, w_dup_ref, w_pop_ref, w_dup_retAddr, w_pop_retAddr, w_dup2, w_I, w_L, w_Null, w_Ild, w_Lld, w_Ald, w_Ist, w_Lst, w_Ast, w_Iinc, w_if_eq, w_icmp_eq, w_if_ne, w_icmp_ne, w_if_lt, w_icmp_lt, w_if_ge, w_icmp_ge, w_if_gt, w_icmp_gt, w_if_le, w_icmp_le, w_GetI, w_GetL, w_GetR, w_PutI, w_PutZ, w_PutL, w_PutR, w_PutN, w_Iald, w_Zald, w_Lald, w_Aald, w_Iast, w_Zast, w_Last, w_AastR, w_AastN, w_Alen, w_New, w_NewA, w_Mna, w_Iret, w_Zret, w_Cret, w_Bret, w_Lret, w_AretR, w_AretN, w_Vret, w_Obj, w_IfNN, w_IfNR, w_Copy, w_Cln, w_Cast, w_SfA, w_SfI, w_SfQ, w_Str, w_ScLd, w_ScLen, w_CV0, w_CS0, w_CV1, w_CS1, w_CV2, w_CS2, w_CV3, w_CS3, w_CV4, w_CS4, w_CV5, w_CS5, List.getElem?_cons_zero, List.getElem?_cons_succ, List.set_cons_zero, List.set_cons_succ, List.length_cons, List.length_nil, List.map_cons, List.map_nil, List.sum_cons, List.sum_nil, List.nil_append, List.cons_append, Option.toList_some, Option.toList_none, Value.category, xok, va_rf, true_and, and_true, and_self, Nat.reduceAdd, Nat.reduceLT, Nat.reduceLeDiff, Nat.reduceEqDiff, Nat.reduceMul, beq_self_eq_true, decide_true, ite_true, ite_false, if_true, if_false, reduceIte, Bool.true_eq_false, Bool.false_eq_true, eq_self_iff_true, Nat.zero_le, not_true_eq_false, not_false_eq_true, forall_const, false_implies, implies_true, forall_false, stI_C, stI_N, stI_Z, stI_S, stI_L, stI_R, stL_C, stL_N, stL_Z, stL_S, stL_I, stL_R, stR_C, stR_N, stR_Z, stR_S, stR_I, stR_L, stA_C, stA_N, stA_Z, stA_S, stA_L, stA_R, stI_I, stL_L, stR_R, stA_I, stN_C, stN_N, stN_Z, stN_S, stN_I, stN_L, stN_R, stI_ne, stL_ne, stR_ne, tn_0, tn_1, tn_2, tn_3, tn_4, tn_5, tn_6, tn_7, tn_8, tn_9, tn_10, tn_11, tn_12, tn_13, tn_14, tn_15, tn_16, tn_17, tn_18, tn_19, tn_20, tn_21, tn_22, tn_23, tn_24, tn_25, tn_26, tn_27, tn_28, tn_29, tn_30, tn_31, tn_32, tn_33, tn_34, tn_35, tn_36, tn_37, tn_38, tn_39, tn_40, tn_41, tn_42, tn_43, tn_44, tn_45, tn_46, tn_47, tn_48, tn_49, tn_50, tn_51, tn_52, tn_53, tn_54, tn_55, tn_56, tn_57, tn_58, tn_59, tn_60, tn_61, tn_62, tn_63, tn_64, tn_65, tn_66, tn_67, tn_68, tn_69, tn_70, tn_71, tn_72, tn_73, tn_74, tn_75, tn_76, tn_77, tn_78, tn_79, tn_80, tn_81, tn_82, tn_83, tn_84, tn_85, tn_86, tn_87, tn_88, tn_89, tn_90, tn_91, tn_92, tn_93, tn_94, tn_95, tn_96, tn_97, tn_98, tn_99, tn_100, tn_101, tn_102, tn_103, tn_104, tn_105, tn_106, tn_107, tn_108, tn_109, tn_110, tn_111, tn_112, tn_113, tn_114, tn_115, tn_116, tn_117, tn_118, tn_119, tn_120, tn_121, tn_122, tn_123, tn_124, tn_125, tn_126, tn_127, tn_128, tn_129, tn_130, tn_131, tn_132, tn_133, tn_134, tn_135, tn_136, tn_137, tn_138, tn_139, tn_140, tn_141, tn_142, tn_143, tn_144, tn_145, tn_146, tn_147, tn_148, tn_149, tn_150, tn_151, tn_152, tn_153, tn_154, tn_155, tn_156, tn_157, tn_158, tn_159, tn_160, tn_161, tn_162, tn_163, tn_164, tn_165, tn_166, tn_167, tn_168, tn_169, tn_170, tn_171, tn_172, tn_173, tn_174, tn_175, tn_176, tn_177, tn_178, tn_179, tn_180, tn_181, tn_182, tn_183, tn_184, tn_185, tn_186, tn_187, tn_188, tn_189, tn_190, tn_191, tn_192, tn_193, tn_194, tn_195, tn_196, tn_197, tn_198, tn_199, tn_255, tn_256, tn_300, tn_399, tn_400, tn_500, tn_900, tn_999, tn_1000, tn_1001, tn_1024, tn_2048, tn_2176, tn_3536, tn_4095, tn_4096, tn_5580, tn_11160, tn_12345, tn_1103, tn_99999, tn_1000000, tn_1000003, tn_100000000, tn_1000000000, ge0_0, ge0_1, ge0_2, ge0_3, ge0_4, ge0_5, ge0_6, ge0_7, ge0_8, ge0_9, ge0_10, ge0_11, ge0_12, ge0_13, ge0_14, ge0_15, ge0_16, ge0_17, ge0_18, ge0_19, ge0_20, ge0_21, ge0_22, ge0_23, ge0_24, ge0_25, ge0_26, ge0_27, ge0_28, ge0_29, ge0_30, ge0_31, ge0_32, ge0_33, ge0_34, ge0_35, ge0_36, ge0_37, ge0_38, ge0_39, ge0_40, ge0_41, ge0_42, ge0_43, ge0_44, ge0_45, ge0_46, ge0_47, ge0_48, ge0_49, ge0_50, ge0_51, ge0_52, ge0_53, ge0_54, ge0_55, ge0_56, ge0_57, ge0_58, ge0_59, ge0_60, ge0_61, ge0_62, ge0_63, ge0_64, ge0_65, ge0_66, ge0_67, ge0_68, ge0_69, ge0_70, ge0_71, ge0_72, ge0_73, ge0_74, ge0_75, ge0_76, ge0_77, ge0_78, ge0_79, ge0_80, ge0_81, ge0_82, ge0_83, ge0_84, ge0_85, ge0_86, ge0_87, ge0_88, ge0_89, ge0_90, ge0_91, ge0_92, ge0_93, ge0_94, ge0_95, ge0_96, ge0_97, ge0_98, ge0_99, ge0_100, ge0_101, ge0_102, ge0_103, ge0_104, ge0_105, ge0_106, ge0_107, ge0_108, ge0_109, ge0_110, ge0_111, ge0_112, ge0_113, ge0_114, ge0_115, ge0_116, ge0_117, ge0_118, ge0_119, ge0_120, ge0_121, ge0_122, ge0_123, ge0_124, ge0_125, ge0_126, ge0_127, ge0_128, ge0_129, ge0_130, ge0_131, ge0_132, ge0_133, ge0_134, ge0_135, ge0_136, ge0_137, ge0_138, ge0_139, ge0_140, ge0_141, ge0_142, ge0_143, ge0_144, ge0_145, ge0_146, ge0_147, ge0_148, ge0_149, ge0_150, ge0_151, ge0_152, ge0_153, ge0_154, ge0_155, ge0_156, ge0_157, ge0_158, ge0_159, ge0_160, ge0_161, ge0_162, ge0_163, ge0_164, ge0_165, ge0_166, ge0_167, ge0_168, ge0_169, ge0_170, ge0_171, ge0_172, ge0_173, ge0_174, ge0_175, ge0_176, ge0_177, ge0_178, ge0_179, ge0_180, ge0_181, ge0_182, ge0_183, ge0_184, ge0_185, ge0_186, ge0_187, ge0_188, ge0_189, ge0_190, ge0_191, ge0_192, ge0_193, ge0_194, ge0_195, ge0_196, ge0_197, ge0_198, ge0_199, ge0_255, ge0_256, ge0_300, ge0_399, ge0_400, ge0_500, ge0_900, ge0_999, ge0_1000, ge0_1001, ge0_1024, ge0_2048, ge0_2176, ge0_3536, ge0_4095, ge0_4096, ge0_5580, ge0_11160, ge0_12345, ge0_1103, ge0_99999, ge0_1000000, ge0_1000003, ge0_100000000, ge0_1000000000, hM.all, xin, hrow, hdn, hpd, ← hG1, ne10, ne10L, ne01, ne01L, tt_imp, nt_imp, ff_imp, nf_imp, true_and, and_true, true_or, or_true, reduceIte]
  exact h61
