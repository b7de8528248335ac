theorem s_readOrder {b : Nat → Nat} {len : Nat} {p c n : Nat} {J : Nat → Nat × Nat} {q : Nat} {G : XH} (h : MSC G false b len true p c J q) (hn : n ≤ 12) (hnc : hpI G 70 21 = nI n) : SP D_Mdl_readOrder [.ref 70] G (fun z => z.1 = none ∧ Fr WRq G z.2 ∧ ROr b len n J q (hpI G 103) (if n < 12 then gClause b len true p c else .error p) z.2) := by
  have hM := h.1.1
  have l400 := h.1.2.1.1
  have hp := h.1.2.2.2.2.2.2.2
  obtain ⟨R, hR⟩ : ∃ R, R = (if n < 12 then gClause b len true p c else .error p) := ⟨_, rfl⟩
  rw [← hR]
  obtain ⟨P, hP⟩ : ∃ P : XR → Prop, P = (fun z => z.1 = none ∧ Fr WRq G z.2 ∧ ROr b len n J q (hpI G 103) R z.2) := ⟨_, rfl⟩
  rw [← hP]
  have hbad : ∀ (x1 : Int32), R = .error p → WP k_Mdl_readOrder_50 [some (.ref 70), some (.int x1), none, none] [.int 0, .ref 70] G P := by
    intro x1 e
    simp only [k_Mdl_readOrder_50, w_iadd, w_isub, w_imul, w_iand, w_ior, w_ixor, w_ishl, w_ishr, w_iushr, w_idiv, w_irem, w_ineg, w_ladd, w_lsub, w_lmul, w_ldiv, w_lrem, w_i2l, w_l2i, w_i2c, w_lcmp, w_dup_int, w_pop_int, w_dup_ref, w_pop_ref, w_dup_retAddr, w_pop_retAddr, w_dup2, w_I, w_L, w_Null, w_Ild, w_Lld, w_Ald, w_Ist, w_Lst, w_Ast, w_Iinc, w_if_eq, w_icmp_eq, w_if_ne, w_icmp_ne, w_if_lt, w_icmp_lt, w_if_ge, w_icmp_ge, w_if_gt, w_icmp_gt, w_if_le, w_icmp_le, w_GetI, w_GetL, w_GetR, w_PutI, w_PutZ, w_PutL, w_PutR, w_PutN, w_Iald, w_Zald, w_Lald, w_Aald, w_Iast, w_Zast, w_Last, w_AastR, w_AastN, w_Alen, w_New, w_NewA, w_Mna, w_Iret, w_Zret, w_Cret, w_Bret, w_Lret, w_AretR, w_AretN, w_Vret, w_Obj, w_IfNN, w_IfNR, w_Copy, w_Cln, w_Cast, w_SfA, w_SfI, w_SfQ, w_Str, w_ScLd, w_ScLen, w_CV0, w_CS0, w_CV1, w_CS1, w_CV2, w_CS2, w_CV3, w_CS3, w_CV4, w_CS4, w_CV5, w_CS5, List.getElem?_cons_zero, List.getElem?_cons_succ, List.set_cons_zero, List.set_cons_succ, List.length_cons, List.length_nil, List.map_cons, List.map_nil, List.sum_cons, List.sum_nil, List.nil_append, List.cons_append, Option.toList_some, Option.toList_none, Value.category, xok, va_rf, true_and, and_true, and_self, Nat.reduceAdd, Nat.reduceLT, Nat.reduceLeDiff, Nat.reduceEqDiff, Nat.reduceMul, beq_self_eq_true, decide_true, ite_true, ite_false, if_true, if_false, reduceIte, Bool.true_eq_false, Bool.false_eq_true, eq_self_iff_true, Nat.zero_le, not_true_eq_false, not_false_eq_true, forall_const, false_implies, implies_true, forall_false, hM.all, ne10, ne10L, ne01, ne01L, tt_imp, nt_imp, ff_imp, nf_imp, true_and, and_true, true_or, or_true, reduceIte]
    refine SP.mono (s_mustC h false) ?_
    rintro ⟨v, G1⟩ ⟨rfl, fr1, h1⟩
    dsimp only at fr1 h1
    rw [if_neg Bool.false_ne_true] at h1
    have hM1 := h1.1.1
    have b19 : hpI G1 70 19 = 1 := h1.2.2.2.1
    simp only [Option.toList_none, List.nil_append, w_iadd, w_isub, w_imul, w_iand, w_ior, w_ixor, w_ishl, w_ishr, w_iushr, w_idiv, w_irem, w_ineg, w_ladd, w_lsub, w_lmul, w_ldiv, w_lrem, w_i2l, w_l2i, w_i2c, w_lcmp, w_dup_int, w_pop_int, w_dup_ref, w_pop_ref, w_dup_retAddr, w_pop_retAddr, w_dup2, w_I, w_L, w_Null, w_Ild, w_Lld, w_Ald, w_Ist, w_Lst, w_Ast, w_Iinc, w_if_eq, w_icmp_eq, w_if_ne, w_icmp_ne, w_if_lt, w_icmp_lt, w_if_ge, w_icmp_ge, w_if_gt, w_icmp_gt, w_if_le, w_icmp_le, w_GetI, w_GetL, w_GetR, w_PutI, w_PutZ, w_PutL, w_PutR, w_PutN, w_Iald, w_Zald, w_Lald, w_Aald, w_Iast, w_Zast, w_Last, w_AastR, w_AastN, w_Alen, w_New, w_NewA, w_Mna, w_Iret, w_Zret, w_Cret, w_Bret, w_Lret, w_AretR, w_AretN, w_Vret, w_Obj, w_IfNN, w_IfNR, w_Copy, w_Cln, w_Cast, w_SfA, w_SfI, w_SfQ, w_Str, w_ScLd, w_ScLen, w_CV0, w_CS0, w_CV1, w_CS1, w_CV2, w_CS2, w_CV3, w_CS3, w_CV4, w_CS4, w_CV5, w_CS5, List.getElem?_cons_zero, List.getElem?_cons_succ, List.set_cons_zero, List.set_cons_succ, List.length_cons, List.length_nil, List.map_cons, List.map_nil, List.sum_cons, List.sum_nil, List.nil_append, List.cons_append, Option.toList_some, Option.toList_none, Value.category, xok, va_rf, true_and, and_true, and_self, Nat.reduceAdd, Nat.reduceLT, Nat.reduceLeDiff, Nat.reduceEqDiff, Nat.reduceMul, beq_self_eq_true, decide_true, ite_true, ite_false, if_true, if_false, reduceIte, Bool.true_eq_false, Bool.false_eq_true, eq_self_iff_true, Nat.zero_le, not_true_eq_false, not_false_eq_true, forall_const, false_implies, implies_true, forall_false, hM1.all, b19, ne10, ne10L, ne01, ne01L, tt_imp, nt_imp, ff_imp, nf_imp, true_and, and_true, true_or, or_true, reduceIte]
    rw [hP]
    refine ⟨rfl, fr1.mono WMx_WRo, ?_⟩
    rw [e]
    exact ⟨_, _, _, h1⟩
  have hgood : ∀ (hd : Bool), n < 12 → p < len → R = gTail b len true (if hd then (match gSum b len true 8 (nxB b len p) c with
      | .error e => .error e
      | .ok s => gHandB b len s.1 s.2.1 s.2.2) else gTimes b len (nxB b len p) c 6 f1 none) → WP k_Mdl_readOrder_50 [some (.ref 70), some (.int (if hd then 0 else 1)), none, none] [.int 1, .ref 70] G P := by
    intro hd n12 hpl hR'
    have npl := (nxB_le (b := b) (len := len) (p := p)).2 hpl
    obtain ⟨av, hav⟩ : ∃ av : Int32, av = (if hd then 0 else 1) := ⟨_, rfl⟩
    rw [← hav]
    simp only [k_Mdl_readOrder_50, w_iadd, w_isub, w_imul, w_iand, w_ior, w_ixor, w_ishl, w_ishr, w_iushr, w_idiv, w_irem, w_ineg, w_ladd, w_lsub, w_lmul, w_ldiv, w_lrem, w_i2l, w_l2i, w_i2c, w_lcmp, w_dup_int, w_pop_int, w_dup_ref, w_pop_ref, w_dup_retAddr, w_pop_retAddr, w_dup2, w_I, w_L, w_Null, w_Ild, w_Lld, w_Ald, w_Ist, w_Lst, w_Ast, w_Iinc, w_if_eq, w_icmp_eq, w_if_ne, w_icmp_ne, w_if_lt, w_icmp_lt, w_if_ge, w_icmp_ge, w_if_gt, w_icmp_gt, w_if_le, w_icmp_le, w_GetI, w_GetL, w_GetR, w_PutI, w_PutZ, w_PutL, w_PutR, w_PutN, w_Iald, w_Zald, w_Lald, w_Aald, w_Iast, w_Zast, w_Last, w_AastR, w_AastN, w_Alen, w_New, w_NewA, w_Mna, w_Iret, w_Zret, w_Cret, w_Bret, w_Lret, w_AretR, w_AretN, w_Vret, w_Obj, w_IfNN, w_IfNR, w_Copy, w_Cln, w_Cast, w_SfA, w_SfI, w_SfQ, w_Str, w_ScLd, w_ScLen, w_CV0, w_CS0, w_CV1, w_CS1, w_CV2, w_CS2, w_CV3, w_CS3, w_CV4, w_CS4, w_CV5, w_CS5, List.getElem?_cons_zero, List.getElem?_cons_succ, List.set_cons_zero, List.set_cons_succ, List.length_cons, List.length_nil, List.map_cons, List.map_nil, List.sum_cons, List.sum_nil, List.nil_append, List.cons_append, Option.toList_some, Option.toList_none, Value.category, xok, va_rf, true_and, and_true, and_self, Nat.reduceAdd, Nat.reduceLT, Nat.reduceLeDiff, Nat.reduceEqDiff, Nat.reduceMul, beq_self_eq_true, decide_true, ite_true, ite_false, if_true, if_false, reduceIte, Bool.true_eq_false, Bool.false_eq_true, eq_self_iff_true, Nat.zero_le, not_true_eq_false, not_false_eq_true, forall_const, false_implies, implies_true, forall_false, hM.all, ne10, ne10L, ne01, ne01L, tt_imp, nt_imp, ff_imp, nf_imp, true_and, and_true, true_or, or_true, reduceIte]
    refine SP.mono (s_mustC h true) ?_
    rintro ⟨v, G1⟩ ⟨rfl, fr1, h1⟩
    dsimp only at fr1 h1
    rw [if_pos rfl] at h1
    have hM1 := h1.1.1
    have b19 : hpI G1 70 19 = 0 := h1.2.2.2.1
    have b21 : hpI G1 70 21 = nI n := (fr1.I rfl).trans hnc
    have A1 : ∀ j, hpI G1 103 j = hpI G 103 j := fun j => fr1.I rfl
    have e8 : 8 * nI n = nI (8 * n) := nI_mul 8 n
    have e1 : nI n + 1 = nI (n + 1) := nI_add n 1
    obtain ⟨G2, hG2⟩ : ∃ G2, G2 = stI G1 70 21 (nI (n + 1)) := ⟨_, rfl⟩
    have f2 : Fr WNq G1 G2 := by rw [hG2]; exact Fr.refl.wI rfl
    have h2 := h1.no f2
    have hM2 := h2.1.1
    have d21 : hpI G2 70 21 = nI (n + 1) := by rw [hG2, stI_up, hpI_stA, up_eq]
    have A2 : ∀ j, hpI G2 103 j = hpI G 103 j := fun j => by rw [hG2, stI_up, hpI_stA_ne (by decide)]; exact A1 j
    have f02 : Fr WRq G G2 := (fr1.mono WMx_WRo).trans (f2.mono WNo_WRo)
    simp only [Option.toList_none, List.nil_append, w_iadd, w_isub, w_imul, w_iand, w_ior, w_ixor, w_ishl, w_ishr, w_iushr, w_idiv, w_irem, w_ineg, w_ladd, w_lsub, w_lmul, w_ldiv, w_lrem, w_i2l, w_l2i, w_i2c, w_lcmp, w_dup_int, w_pop_int, w_dup_ref, w_pop_ref, w_dup_retAddr, w_pop_retAddr, w_dup2, w_I, w_L, w_Null, w_Ild, w_Lld, w_Ald, w_Ist, w_Lst, w_Ast, w_Iinc, w_if_eq, w_icmp_eq, w_if_ne, w_icmp_ne, w_if_lt, w_icmp_lt, w_if_ge, w_icmp_ge, w_if_gt, w_icmp_gt, w_if_le, w_icmp_le, w_GetI, w_GetL, w_GetR, w_PutI, w_PutZ, w_PutL, w_PutR, w_PutN, w_Iald, w_Zald, w_Lald, w_Aald, w_Iast, w_Zast, w_Last, w_AastR, w_AastN, w_Alen, w_New, w_NewA, w_Mna, w_Iret, w_Zret, w_Cret, w_Bret, w_Lret, w_AretR, w_AretN, w_Vret, w_Obj, w_IfNN, w_IfNR, w_Copy, w_Cln, w_Cast, w_SfA, w_SfI, w_SfQ, w_Str, w_ScLd, w_ScLen, w_CV0, w_CS0, w_CV1, w_CS1, w_CV2, w_CS2, w_CV3, w_CS3, w_CV4, w_CS4, w_CV5, w_CS5, List.getElem?_cons_zero, List.getElem?_cons_succ, List.set_cons_zero, List.set_cons_succ, List.length_cons, List.length_nil, List.map_cons, List.map_nil, List.sum_cons, List.sum_nil, List.nil_append, List.cons_append, Option.toList_some, Option.toList_none, Value.category, xok, va_rf, true_and, and_true, and_self, Nat.reduceAdd, Nat.reduceLT, Nat.reduceLeDiff, Nat.reduceEqDiff, Nat.reduceMul, beq_self_eq_true, decide_true, ite_true, ite_false, if_true, if_false, reduceIte, Bool.true_eq_false, Bool.false_eq_true, eq_self_iff_true, Nat.zero_le, not_true_eq_false, not_false_eq_true, forall_const, false_implies, implies_true, forall_false, stI_C, stI_N, stI_Z, stI_S, stI_L, stI_R, stL_C, stL_N, stL_Z, stL_S, stL_I, stL_R, stR_C, stR_N, stR_Z, stR_S, stR_I, stR_L, stA_C, stA_N, stA_Z, stA_S, stA_L, stA_R, stI_I, stL_L, stR_R, stA_I, stN_C, stN_N, stN_Z, stN_S, stN_I, stN_L, stN_R, stI_ne, stL_ne, stR_ne, hM1.all, b19, b21, e8, e1, ← hG2, ne10, ne10L, ne01, ne01L, tt_imp, nt_imp, ff_imp, nf_imp, true_and, and_true, true_or, or_true, reduceIte]
    unfold k_Mdl_readOrder_81
    obtain ⟨Y, hY⟩ : ∃ Y : XK, Y = (xAld 0 (xGetI 11 19 (xif_ne k_Mdl_readOrder_148 (xAld 0 (xL 763528 (xCallV 11 1 D_Mdl_isWord (xif_eq k_Mdl_readOrder_148 (xAld 0 (xCallV 11 0 D_Mdl_next (xAld 0 (xIld 2 (xI 3 (xiadd (xCallV 11 1 D_Mdl_readSum k_Mdl_readOrder_148)))))))))))))) := ⟨_, rfl⟩
    obtain ⟨X, hX⟩ : ∃ X : XK, X = (xAld 0 (xGetR 11 57 (xIld 2 (xIld 1 (xIasth (xIld 1 (xif_ne k_Mdl_readOrder_148 (xAld 0 (xIld 2 (xI 1 (xiadd (xCallV 11 1 D_Mdl_readSum Y)))))))))))) := ⟨_, rfl⟩
    have hf : ∀ K, f_Mdl_readOrder_81 K = (xIld 3 (xI 8 (xicmp_ge X (xAld 0 (xGetR 11 57 (xIld 2 (xIld 3 (xiadd (xI 0 (xIasth (xIinc 3 1 K))))))))))) := fun K => by rw [hX, hY]; rfl
    have hz : ∀ (m j : Nat) (G3 : XH) (N : Nat), j + m = 8 → Fr (WOz n) G2 G3 → (∀ i, i < j → hpI G3 103 (8 * n + i) = 0) → m < N → (∀ G4, Fr (WOz n) G2 G4 → (∀ i, i < 8 → hpI G4 103 (8 * n + i) = 0) → WP X [some (.ref 70), some (.int av), some (.int (nI (8 * n))), some (.int (nI 8))] [] G4 P) → WP (xloop f_Mdl_readOrder_81 N) [some (.ref 70), some (.int av), some (.int (nI (8 * n))), some (.int (nI j))] [] G3 P := by
      intro m
      induction m with
      | zero =>
        intro j G3 N hj f3 h0 hN hgo
        obtain ⟨N1, rfl⟩ : ∃ N1, N = N1 + 1 := ⟨N - 1, by omega⟩
        have e : j = 8 := by omega
        subst e
        have g : (8 ≤ nI 8) = True := eq_true (by decide)
        rw [xloop_s, hf]
        simp only [w_iadd, w_isub, w_imul, w_iand, w_ior, w_ixor, w_ishl, w_ishr, w_iushr, w_idiv, w_irem, w_ineg, w_ladd, w_lsub, w_lmul, w_ldiv, w_lrem, w_i2l, w_l2i, w_i2c, w_lcmp, w_dup_int, w_pop_int, w_dup_ref, w_pop_ref, w_dup_retAddr, w_pop_retAddr, w_dup2, w_I, w_L, w_Null, w_Ild, w_Lld, w_Ald, w_Ist, w_Lst, w_Ast, w_Iinc, w_if_eq, w_icmp_eq, w_if_ne, w_icmp_ne, w_if_lt, w_icmp_lt, w_if_ge, w_icmp_ge, w_if_gt, w_icmp_gt, w_if_le, w_icmp_le, w_GetI, w_GetL, w_GetR, w_PutI, w_PutZ, w_PutL, w_PutR, w_PutN, w_Iald, w_Zald, w_Lald, w_Aald, w_Iast, w_Zast, w_Last, w_AastR, w_AastN, w_Alen, w_New, w_NewA, w_Mna, w_Iret, w_Zret, w_Cret, w_Bret, w_Lret, w_AretR, w_AretN, w_Vret, w_Obj, w_IfNN, w_IfNR, w_Copy, w_Cln, w_Cast, w_SfA, w_SfI, w_SfQ, w_Str, w_ScLd, w_ScLen, w_CV0, w_CS0, w_CV1, w_CS1, w_CV2, w_CS2, w_CV3, w_CS3, w_CV4, w_CS4, w_CV5, w_CS5, List.getElem?_cons_zero, List.getElem?_cons_succ, List.set_cons_zero, List.set_cons_succ, List.length_cons, List.length_nil, List.map_cons, List.map_nil, List.sum_cons, List.sum_nil, List.nil_append, List.cons_append, Option.toList_some, Option.toList_none, Value.category, xok, va_rf, true_and, and_true, and_self, Nat.reduceAdd, Nat.reduceLT, Nat.reduceLeDiff, Nat.reduceEqDiff, Nat.reduceMul, beq_self_eq_true, decide_true, ite_true, ite_false, if_true, if_false, reduceIte, Bool.true_eq_false, Bool.false_eq_true, eq_self_iff_true, Nat.zero_le, not_true_eq_false, not_false_eq_true, forall_const, false_implies, implies_true, forall_false, g, ne10, ne10L, ne01, ne01L, tt_imp, nt_imp, ff_imp, nf_imp, true_and, and_true, true_or, or_true, reduceIte]
        exact hgo G3 f3 h0
      | succ m ih =>
        intro j G3 N hj f3 h0 hN hgo
        obtain ⟨N1, rfl⟩ : ∃ N1, N = N1 + 1 := ⟨N - 1, by omega⟩
        have hM3 := f3.ms hM2
        have g : (8 ≤ nI j) = False := eq_false (by rw [show (8 : Int32) = nI 8 from rfl, nl_le (by omega) (by omega)]; omega)
        have ej : nI (8 * n) + nI j = nI (8 * n + j) := nI_add _ _
        have ek : nI j + Int32.ofInt 1 = nI (j + 1) := nI_1 j
        have p1 : 0 ≤ nI (8 * n + j) := nI_pos' (by omega)
        have c1 : (nI (8 * n + j)).toNatClampNeg = 8 * n + j := nI_clamp (by omega)
        have l1 : 8 * n + j < 96 := by omega
        rw [xloop_s, hf]
        simp only [w_iadd, w_isub, w_imul, w_iand, w_ior, w_ixor, w_ishl, w_ishr, w_iushr, w_idiv, w_irem, w_ineg, w_ladd, w_lsub, w_lmul, w_ldiv, w_lrem, w_i2l, w_l2i, w_i2c, w_lcmp, w_dup_int, w_pop_int, w_dup_ref, w_pop_ref, w_dup_retAddr, w_pop_retAddr, w_dup2, w_I, w_L, w_Null, w_Ild, w_Lld, w_Ald, w_Ist, w_Lst, w_Ast, w_Iinc, w_if_eq, w_icmp_eq, w_if_ne, w_icmp_ne, w_if_lt, w_icmp_lt, w_if_ge, w_icmp_ge, w_if_gt, w_icmp_gt, w_if_le, w_icmp_le, w_GetI, w_GetL, w_GetR, w_PutI, w_PutZ, w_PutL, w_PutR, w_PutN, w_Iald, w_Zald, w_Lald, w_Aald, w_Iast, w_Zast, w_Last, w_AastR, w_AastN, w_Alen, w_New, w_NewA, w_Mna, w_Iret, w_Zret, w_Cret, w_Bret, w_Lret, w_AretR, w_AretN, w_Vret, w_Obj, w_IfNN, w_IfNR, w_Copy, w_Cln, w_Cast, w_SfA, w_SfI, w_SfQ, w_Str, w_ScLd, w_ScLen, w_CV0, w_CS0, w_CV1, w_CS1, w_CV2, w_CS2, w_CV3, w_CS3, w_CV4, w_CS4, w_CV5, w_CS5, List.getElem?_cons_zero, List.getElem?_cons_succ, List.set_cons_zero, List.set_cons_succ, List.length_cons, List.length_nil, List.map_cons, List.map_nil, List.sum_cons, List.sum_nil, List.nil_append, List.cons_append, Option.toList_some, Option.toList_none, Value.category, xok, va_rf, true_and, and_true, and_self, Nat.reduceAdd, Nat.reduceLT, Nat.reduceLeDiff, Nat.reduceEqDiff, Nat.reduceMul, beq_self_eq_true, decide_true, ite_true, ite_false, if_true, if_false, reduceIte, Bool.true_eq_false, Bool.false_eq_true, eq_self_iff_true, Nat.zero_le, not_true_eq_false, not_false_eq_true, forall_const, false_implies, implies_true, forall_false, stI_C, stI_N, stI_Z, stI_S, stI_L, stI_R, stL_C, stL_N, stL_Z, stL_S, stL_I, stL_R, stR_C, stR_N, stR_Z, stR_S, stR_I, stR_L, stA_C, stA_N, stA_Z, stA_S, stA_L, stA_R, stI_I, stL_L, stR_R, stA_I, stN_C, stN_N, stN_Z, stN_S, stN_I, stN_L, stN_R, stI_ne, stL_ne, stR_ne, hM3.all, g, ej, xin, p1, c1, l1, ek, ne10, ne10L, ne01, ne01L, tt_imp, nt_imp, ff_imp, nf_imp, true_and, and_true, true_or, or_true, reduceIte]
        refine ih (j + 1) _ N1 (by omega) (f3.wI (by unfold WOz; simp)) (fun i hi => ?_) (by omega) hgo
        rw [stI_up, hpI_stA]
        rcases (show i = j ∨ i < j by omega) with y | y
        · rw [y, up_eq]
        · rw [up_ne (by omega)]; exact h0 i y
    refine hz 8 0 G2 NF rfl Fr.refl (fun i hi => absurd hi (by omega)) (by unfold NF; omega) (fun G4 f4 z4 => ?_)
    have h4 := h2.od (f4.mono WOz_WOd)
    have hM4 := h4.1.1
    have e1' : nI (8 * n) + 1 = nI (8 * n + 1) := nI_add _ 1
    have p1 : 0 ≤ nI (8 * n) := nI_pos' (by omega)
    have c1 : (nI (8 * n)).toNatClampNeg = 8 * n := nI_clamp (by omega)
    have l1 : 8 * n < 96 := by omega
    obtain ⟨G5, hG5⟩ : ∃ G5, G5 = stI G4 103 (8 * n) av := ⟨_, rfl⟩
    have f5 : Fr WOd G4 G5 := by rw [hG5]; exact Fr.refl.wI rfl
    have h5 := h4.od f5
    have hM5 := h5.1.1
    have A5 : hpI G5 103 = up (hpI G4 103) (8 * n) av := by rw [hG5, stI_up, hpI_stA]
    have d5 : hpI G5 70 21 = nI (n + 1) := (f5.I rfl).trans ((f4.I rfl).trans d21)
    have f05 : Fr WRq G G5 := f02.trans (((f4.mono WOz_WOd).trans f5).mono (fun a k z => WOd_WNo a k (WNo_WRo a k z)))
    have hlo : ∀ j, j < 8 * n → hpI G5 103 j = hpI G 103 j := fun j hj => by
      rw [A5, up_ne (by omega), f4.I (by unfold WOz; simp; omega)]
      exact A2 j
    have hb148 := ro_148 (b := b) (len := len) (n := n) (J0 := J) (q0 := q) (A := hpI G 103) (G0 := G) (R := R) n12 f05 (x1 := av) (x3 := nI 8)
    rw [← hP] at hb148
    cases hd with
    | false =>
      have ev : av = 1 := hav
      have g1 : (av = 0) = False := eq_false (by rw [ev]; decide)
      have := hb148 (Or.inr ⟨nxB b len p, c, J, q, 6, f1, none, ⟨h5, fun _ _ => rfl, hlo, ⟨q, by rw [A5, up_eq, ev]; rfl, Or.inr rfl, Or.inr ⟨rfl, rfl⟩, fun z => by omega, rfl, fun f z => (by cases z), fun _ => ⟨?_, ?_⟩, fun _ => ⟨rfl, rfl⟩⟩, d5⟩, hR'⟩)
      · rw [hX]
        simp only [w_iadd, w_isub, w_imul, w_iand, w_ior, w_ixor, w_ishl, w_ishr, w_iushr, w_idiv, w_irem, w_ineg, w_ladd, w_lsub, w_lmul, w_ldiv, w_lrem, w_i2l, w_l2i, w_i2c, w_lcmp, w_dup_int, w_pop_int, w_dup_ref, w_pop_ref, w_dup_retAddr, w_pop_retAddr, w_dup2, w_I, w_L, w_Null, w_Ild, w_Lld, w_Ald, w_Ist, w_Lst, w_Ast, w_Iinc, w_if_eq, w_icmp_eq, w_if_ne, w_icmp_ne, w_if_lt, w_icmp_lt, w_if_ge, w_icmp_ge, w_if_gt, w_icmp_gt, w_if_le, w_icmp_le, w_GetI, w_GetL, w_GetR, w_PutI, w_PutZ, w_PutL, w_PutR, w_PutN, w_Iald, w_Zald, w_Lald, w_Aald, w_Iast, w_Zast, w_Last, w_AastR, w_AastN, w_Alen, w_New, w_NewA, w_Mna, w_Iret, w_Zret, w_Cret, w_Bret, w_Lret, w_AretR, w_AretN, w_Vret, w_Obj, w_IfNN, w_IfNR, w_Copy, w_Cln, w_Cast, w_SfA, w_SfI, w_SfQ, w_Str, w_ScLd, w_ScLen, w_CV0, w_CS0, w_CV1, w_CS1, w_CV2, w_CS2, w_CV3, w_CS3, w_CV4, w_CS4, w_CV5, w_CS5, List.getElem?_cons_zero, List.getElem?_cons_succ, List.set_cons_zero, List.set_cons_succ, List.length_cons, List.length_nil, List.map_cons, List.map_nil, List.sum_cons, List.sum_nil, List.nil_append, List.cons_append, Option.toList_some, Option.toList_none, Value.category, xok, va_rf, true_and, and_true, and_self, Nat.reduceAdd, Nat.reduceLT, Nat.reduceLeDiff, Nat.reduceEqDiff, Nat.reduceMul, beq_self_eq_true, decide_true, ite_true, ite_false, if_true, if_false, reduceIte, Bool.true_eq_false, Bool.false_eq_true, eq_self_iff_true, Nat.zero_le, not_true_eq_false, not_false_eq_true, forall_const, false_implies, implies_true, forall_false, stI_C, stI_N, stI_Z, stI_S, stI_L, stI_R, stL_C, stL_N, stL_Z, stL_S, stL_I, stL_R, stR_C, stR_N, stR_Z, stR_S, stR_I, stR_L, stA_C, stA_N, stA_Z, stA_S, stA_L, stA_R, stI_I, stL_L, stR_R, stA_I, stN_C, stN_N, stN_Z, stN_S, stN_I, stN_L, stN_R, stI_ne, stL_ne, stR_ne, hM4.all, xin, p1, c1, l1, ← hG5, g1, ne10, ne10L, ne01, ne01L, tt_imp, nt_imp, ff_imp, nf_imp, true_and, and_true, true_or, or_true, reduceIte]
        exact this
      · rw [A5, up_ne (by omega)]; exact z4 3 (by omega)
      · rw [A5, up_ne (by omega)]; exact z4 4 (by omega)
    | true =>
      have ev : av = 0 := hav
      have g1 : (av = 0) = True := eq_true ev
      rw [if_pos rfl] at hR'
      rw [hX]
      simp only [w_iadd, w_isub, w_imul, w_iand, w_ior, w_ixor, w_ishl, w_ishr, w_iushr, w_idiv, w_irem, w_ineg, w_ladd, w_lsub, w_lmul, w_ldiv, w_lrem, w_i2l, w_l2i, w_i2c, w_lcmp, w_dup_int, w_pop_int, w_dup_ref, w_pop_ref, w_dup_retAddr, w_pop_retAddr, w_dup2, w_I, w_L, w_Null, w_Ild, w_Lld, w_Ald, w_Ist, w_Lst, w_Ast, w_Iinc, w_if_eq, w_icmp_eq, w_if_ne, w_icmp_ne, w_if_lt, w_icmp_lt, w_if_ge, w_icmp_ge, w_if_gt, w_icmp_gt, w_if_le, w_icmp_le, w_GetI, w_GetL, w_GetR, w_PutI, w_PutZ, w_PutL, w_PutR, w_PutN, w_Iald, w_Zald, w_Lald, w_Aald, w_Iast, w_Zast, w_Last, w_AastR, w_AastN, w_Alen, w_New, w_NewA, w_Mna, w_Iret, w_Zret, w_Cret, w_Bret, w_Lret, w_AretR, w_AretN, w_Vret, w_Obj, w_IfNN, w_IfNR, w_Copy, w_Cln, w_Cast, w_SfA, w_SfI, w_SfQ, w_Str, w_ScLd, w_ScLen, w_CV0, w_CS0, w_CV1, w_CS1, w_CV2, w_CS2, w_CV3, w_CS3, w_CV4, w_CS4, w_CV5, w_CS5, List.getElem?_cons_zero, List.getElem?_cons_succ, List.set_cons_zero, List.set_cons_succ, List.length_cons, List.length_nil, List.map_cons, List.map_nil, List.sum_cons, List.sum_nil, List.nil_append, List.cons_append, Option.toList_some, Option.toList_none, Value.category, xok, va_rf, true_and, and_true, and_self, Nat.reduceAdd, Nat.reduceLT, Nat.reduceLeDiff, Nat.reduceEqDiff, Nat.reduceMul, beq_self_eq_true, decide_true, ite_true, ite_false, if_true, if_false, reduceIte, Bool.true_eq_false, Bool.false_eq_true, eq_self_iff_true, Nat.zero_le, not_true_eq_false, not_false_eq_true, forall_const, false_implies, implies_true, forall_false, stI_C, stI_N, stI_Z, stI_S, stI_L, stI_R, stL_C, stL_N, stL_Z, stL_S, stL_I, stL_R, stR_C, stR_N, stR_Z, stR_S, stR_I, stR_L, stA_C, stA_N, stA_Z, stA_S, stA_L, stA_R, stI_I, stL_L, stR_R, stA_I, stN_C, stN_N, stN_Z, stN_S, stN_I, stN_L, stN_R, stI_ne, stL_ne, stR_ne, hM4.all, xin, p1, c1, l1, ← hG5, hM5.all, e1', g1, ne10, ne10L, ne01, ne01L, tt_imp, nt_imp, ff_imp, nf_imp, true_and, and_true, true_or, or_true, reduceIte]
      refine SP.mono (s_sumAt h5 (8 * n + 1) (by omega)) ?_
      rintro ⟨v6, G6⟩ ⟨rfl, f6, hx⟩
      dsimp only at f6 hx
      simp only [Option.toList_none, List.nil_append]
      have f06 : Fr WRq G G6 := f05.trans (f6.mono WSo_WRo)
      have d6 : hpI G6 70 21 = nI (n + 1) := (f6.I rfl).trans d5
      unfold MXo at hx
      have hk2 := gSum_ok (b := b) (len := len) (od := true) rfl 8 (nxB b len p) c nxB_le.1
      cases hgt : gSum b len true 8 (nxB b len p) c with
      | error e =>
        rw [hgt] at hx hR'
        obtain ⟨c', J', q', hx⟩ := hx
        have b6 : hpI G6 70 19 = 1 := hx.2.2.2.1
        have hM6 := hx.1.1
        have := ro_148 (b := b) (len := len) (n := n) (J0 := J) (q0 := q) (A := hpI G 103) (G0 := G) (R := R) n12 f06 (x1 := av) (x3 := nI 8) (Or.inl ⟨e, c', J', q', hR', hx⟩)
        rw [← hP] at this
        rw [hY]
        simp only [w_iadd, w_isub, w_imul, w_iand, w_ior, w_ixor, w_ishl, w_ishr, w_iushr, w_idiv, w_irem, w_ineg, w_ladd, w_lsub, w_lmul, w_ldiv, w_lrem, w_i2l, w_l2i, w_i2c, w_lcmp, w_dup_int, w_pop_int, w_dup_ref, w_pop_ref, w_dup_retAddr, w_pop_retAddr, w_dup2, w_I, w_L, w_Null, w_Ild, w_Lld, w_Ald, w_Ist, w_Lst, w_Ast, w_Iinc, w_if_eq, w_icmp_eq, w_if_ne, w_icmp_ne, w_if_lt, w_icmp_lt, w_if_ge, w_icmp_ge, w_if_gt, w_icmp_gt, w_if_le, w_icmp_le, w_GetI, w_GetL, w_GetR, w_PutI, w_PutZ, w_PutL, w_PutR, w_PutN, w_Iald, w_Zald, w_Lald, w_Aald, w_Iast, w_Zast, w_Last, w_AastR, w_AastN, w_Alen, w_New, w_NewA, w_Mna, w_Iret, w_Zret, w_Cret, w_Bret, w_Lret, w_AretR, w_AretN, w_Vret, w_Obj, w_IfNN, w_IfNR, w_Copy, w_Cln, w_Cast, w_SfA, w_SfI, w_SfQ, w_Str, w_ScLd, w_ScLen, w_CV0, w_CS0, w_CV1, w_CS1, w_CV2, w_CS2, w_CV3, w_CS3, w_CV4, w_CS4, w_CV5, w_CS5, List.getElem?_cons_zero, List.getElem?_cons_succ, List.set_cons_zero, List.set_cons_succ, List.length_cons, List.length_nil, List.map_cons, List.map_nil, List.sum_cons, List.sum_nil, List.nil_append, List.cons_append, Option.toList_some, Option.toList_none, Value.category, xok, va_rf, true_and, and_true, and_self, Nat.reduceAdd, Nat.reduceLT, Nat.reduceLeDiff, Nat.reduceEqDiff, Nat.reduceMul, beq_self_eq_true, decide_true, ite_true, ite_false, if_true, if_false, reduceIte, Bool.true_eq_false, Bool.false_eq_true, eq_self_iff_true, Nat.zero_le, not_true_eq_false, not_false_eq_true, forall_const, false_implies, implies_true, forall_false, hM6.all, b6, ne10, ne10L, ne01, ne01L, tt_imp, nt_imp, ff_imp, nf_imp, true_and, and_true, true_or, or_true, reduceIte]
        exact this
      | ok s =>
        rw [hgt] at hx hR' hk2
        dsimp only at hk2
        obtain ⟨J', q', hx, hlx, hok, hA6⟩ := hx
        have hqq := hok.1.1
        have := ro_130 (b := b) (len := len) (n := n) (p := s.1) (c := s.2.1) (q := q') (J := J') (J0 := J) (q0 := q) (p1 := 0) (A := hpI G 103) (G0 := G) (G := G6) n12 f06 (sm := s.2.2) (x1 := av) (x3 := nI 8) hY ⟨hx, fun j hj => hlx j hj, fun j hj => by rw [hA6, up_ne (by omega), up_ne (by omega)]; exact hlo j hj, ⟨q', ?_, Or.inl rfl, Or.inl ⟨hqq, _, by omega, hok⟩, fun _ => ⟨hqq, ?_, ?_⟩, rfl, fun f z => (by cases z), fun _ => ⟨?_, ?_⟩, fun z => by omega⟩, d6⟩ hR'
        · rw [← hP] at this
          exact this
        · rw [hA6, up_ne (by omega), up_ne (by omega), A5, up_eq, ev]; rfl
        · rw [hA6, up_ne (by omega), up_eq]
        · rw [hA6, up_eq]
        · rw [hA6, up_ne (by omega), up_ne (by omega), A5, up_ne (by omega)]; exact z4 3 (by omega)
        · rw [hA6, up_ne (by omega), up_ne (by omega), A5, up_ne (by omega)]; exact z4 4 (by omega)
  have s1 : ∀ Q, SP D_Mdl_isWord [.ref 70, .long 263620] G Q = Q (some (.int (if isW b len wHand p then 1 else 0)), G) := fun Q => s_isWord h.1 wk_hand (by decide) Q
  have s2 : ∀ Q, SP D_Mdl_isWord [.ref 70, .long 525939] G Q = Q (some (.int (if isW b len wPass p then 1 else 0)), G) := fun Q => s_isWord h.1 wk_pass (by decide) Q
  have e0 : gClause b len true p c = gTail b len true (gOrdH b len p c) := rfl
  rw [e_Mdl_readOrder]
  obtain ⟨m, hm, hk⟩ : ∃ m : Int32, m = -1 ∧ k_Mdl_readOrder_0 = (xAld 0 (xL 263620 (xCallV 11 1 D_Mdl_isWord (xif_eq (xAld 0 (xL 525939 (xCallV 11 1 D_Mdl_isWord (xif_eq (xI m k_Mdl_readOrder_29) (xI 1 k_Mdl_readOrder_29))))) (xI 0 k_Mdl_readOrder_29))))) := ⟨_, rfl, rfl⟩
  rw [hk]
  have gm : (m = -1) = True := eq_true hm
  have g0 : ((0 : Int32) = -1) = False := eq_false (by decide)
  have g1 : ((1 : Int32) = -1) = False := eq_false (by decide)
  clear hk hm
  have hg12 : n < 12 → ((12 : Int32) ≤ nI n) = False := fun n12 => eq_false (by rw [show (12 : Int32) = nI 12 from rfl, nl_le (by omega) (by omega)]; omega)
  have hg12' : ¬ n < 12 → ((12 : Int32) ≤ nI n) = True := fun n12 => eq_true (by rw [show (12 : Int32) = nI 12 from rfl, nl_le (by omega) (by omega)]; omega)
  cases q1 : isW b len wHand p with
  | true =>
    rw [q1] at s1
    by_cases n12 : n < 12
    · have := hgood true n12 (isW_lt q1) (by rw [hR, if_pos n12, e0]; unfold gOrdH; rw [q1, if_pos rfl, if_pos rfl]; cases gSum b len true 8 (nxB b len p) c <;> rfl)
      have g12 := hg12 n12
      simp only [reduceIte] at this
      simp only [k_Mdl_readOrder_29, w_iadd, w_isub, w_imul, w_iand, w_ior, w_ixor, w_ishl, w_ishr, w_iushr, w_idiv, w_irem, w_ineg, w_ladd, w_lsub, w_lmul, w_ldiv, w_lrem, w_i2l, w_l2i, w_i2c, w_lcmp, w_dup_int, w_pop_int, w_dup_ref, w_pop_ref, w_dup_retAddr, w_pop_retAddr, w_dup2, w_I, w_L, w_Null, w_Ild, w_Lld, w_Ald, w_Ist, w_Lst, w_Ast, w_Iinc, w_if_eq, w_icmp_eq, w_if_ne, w_icmp_ne, w_if_lt, w_icmp_lt, w_if_ge, w_icmp_ge, w_if_gt, w_icmp_gt, w_if_le, w_icmp_le, w_GetI, w_GetL, w_GetR, w_PutI, w_PutZ, w_PutL, w_PutR, w_PutN, w_Iald, w_Zald, w_Lald, w_Aald, w_Iast, w_Zast, w_Last, w_AastR, w_AastN, w_Alen, w_New, w_NewA, w_Mna, w_Iret, w_Zret, w_Cret, w_Bret, w_Lret, w_AretR, w_AretN, w_Vret, w_Obj, w_IfNN, w_IfNR, w_Copy, w_Cln, w_Cast, w_SfA, w_SfI, w_SfQ, w_Str, w_ScLd, w_ScLen, w_CV0, w_CS0, w_CV1, w_CS1, w_CV2, w_CS2, w_CV3, w_CS3, w_CV4, w_CS4, w_CV5, w_CS5, List.getElem?_cons_zero, List.getElem?_cons_succ, List.set_cons_zero, List.set_cons_succ, List.length_cons, List.length_nil, List.map_cons, List.map_nil, List.sum_cons, List.sum_nil, List.nil_append, List.cons_append, Option.toList_some, Option.toList_none, Value.category, xok, va_rf, true_and, and_true, and_self, Nat.reduceAdd, Nat.reduceLT, Nat.reduceLeDiff, Nat.reduceEqDiff, Nat.reduceMul, beq_self_eq_true, decide_true, ite_true, ite_false, if_true, if_false, reduceIte, Bool.true_eq_false, Bool.false_eq_true, eq_self_iff_true, Nat.zero_le, not_true_eq_false, not_false_eq_true, forall_const, false_implies, implies_true, forall_false, hM.all, s1, g0, hnc, g12, reduceIte, ne10, ne10L, ne01, ne01L, tt_imp, nt_imp, ff_imp, nf_imp, true_and, and_true, true_or, or_true, reduceIte]
      exact this
    · have := hbad 0 (by rw [hR, if_neg n12])
      have g12 := hg12' n12
      simp only [k_Mdl_readOrder_29, k_Mdl_readOrder_49, w_iadd, w_isub, w_imul, w_iand, w_ior, w_ixor, w_ishl, w_ishr, w_iushr, w_idiv, w_irem, w_ineg, w_ladd, w_lsub, w_lmul, w_ldiv, w_lrem, w_i2l, w_l2i, w_i2c, w_lcmp, w_dup_int, w_pop_int, w_dup_ref, w_pop_ref, w_dup_retAddr, w_pop_retAddr, w_dup2, w_I, w_L, w_Null, w_Ild, w_Lld, w_Ald, w_Ist, w_Lst, w_Ast, w_Iinc, w_if_eq, w_icmp_eq, w_if_ne, w_icmp_ne, w_if_lt, w_icmp_lt, w_if_ge, w_icmp_ge, w_if_gt, w_icmp_gt, w_if_le, w_icmp_le, w_GetI, w_GetL, w_GetR, w_PutI, w_PutZ, w_PutL, w_PutR, w_PutN, w_Iald, w_Zald, w_Lald, w_Aald, w_Iast, w_Zast, w_Last, w_AastR, w_AastN, w_Alen, w_New, w_NewA, w_Mna, w_Iret, w_Zret, w_Cret, w_Bret, w_Lret, w_AretR, w_AretN, w_Vret, w_Obj, w_IfNN, w_IfNR, w_Copy, w_Cln, w_Cast, w_SfA, w_SfI, w_SfQ, w_Str, w_ScLd, w_ScLen, w_CV0, w_CS0, w_CV1, w_CS1, w_CV2, w_CS2, w_CV3, w_CS3, w_CV4, w_CS4, w_CV5, w_CS5, List.getElem?_cons_zero, List.getElem?_cons_succ, List.set_cons_zero, List.set_cons_succ, List.length_cons, List.length_nil, List.map_cons, List.map_nil, List.sum_cons, List.sum_nil, List.nil_append, List.cons_append, Option.toList_some, Option.toList_none, Value.category, xok, va_rf, true_and, and_true, and_self, Nat.reduceAdd, Nat.reduceLT, Nat.reduceLeDiff, Nat.reduceEqDiff, Nat.reduceMul, beq_self_eq_true, decide_true, ite_true, ite_false, if_true, if_false, reduceIte, Bool.true_eq_false, Bool.false_eq_true, eq_self_iff_true, Nat.zero_le, not_true_eq_false, not_false_eq_true, forall_const, false_implies, implies_true, forall_false, hM.all, s1, g0, hnc, g12, reduceIte, ne10, ne10L, ne01, ne01L, tt_imp, nt_imp, ff_imp, nf_imp, true_and, and_true, true_or, or_true, reduceIte]
      exact this
  | false =>
    rw [q1] at s1
    cases q2 : isW b len wPass p with
    | true =>
      rw [q2] at s2
      by_cases n12 : n < 12
      · have := hgood false n12 (isW_lt q2) (by rw [hR, if_pos n12, e0]; unfold gOrdH; rw [q1, if_neg Bool.false_ne_true, q2, if_pos rfl, if_neg Bool.false_ne_true])
        have g12 := hg12 n12
        simp only [reduceIte, Bool.false_eq_true] at this
        simp only [k_Mdl_readOrder_29, w_iadd, w_isub, w_imul, w_iand, w_ior, w_ixor, w_ishl, w_ishr, w_iushr, w_idiv, w_irem, w_ineg, w_ladd, w_lsub, w_lmul, w_ldiv, w_lrem, w_i2l, w_l2i, w_i2c, w_lcmp, w_dup_int, w_pop_int, w_dup_ref, w_pop_ref, w_dup_retAddr, w_pop_retAddr, w_dup2, w_I, w_L, w_Null, w_Ild, w_Lld, w_Ald, w_Ist, w_Lst, w_Ast, w_Iinc, w_if_eq, w_icmp_eq, w_if_ne, w_icmp_ne, w_if_lt, w_icmp_lt, w_if_ge, w_icmp_ge, w_if_gt, w_icmp_gt, w_if_le, w_icmp_le, w_GetI, w_GetL, w_GetR, w_PutI, w_PutZ, w_PutL, w_PutR, w_PutN, w_Iald, w_Zald, w_Lald, w_Aald, w_Iast, w_Zast, w_Last, w_AastR, w_AastN, w_Alen, w_New, w_NewA, w_Mna, w_Iret, w_Zret, w_Cret, w_Bret, w_Lret, w_AretR, w_AretN, w_Vret, w_Obj, w_IfNN, w_IfNR, w_Copy, w_Cln, w_Cast, w_SfA, w_SfI, w_SfQ, w_Str, w_ScLd, w_ScLen, w_CV0, w_CS0, w_CV1, w_CS1, w_CV2, w_CS2, w_CV3, w_CS3, w_CV4, w_CS4, w_CV5, w_CS5, List.getElem?_cons_zero, List.getElem?_cons_succ, List.set_cons_zero, List.set_cons_succ, List.length_cons, List.length_nil, List.map_cons, List.map_nil, List.sum_cons, List.sum_nil, List.nil_append, List.cons_append, Option.toList_some, Option.toList_none, Value.category, xok, va_rf, true_and, and_true, and_self, Nat.reduceAdd, Nat.reduceLT, Nat.reduceLeDiff, Nat.reduceEqDiff, Nat.reduceMul, beq_self_eq_true, decide_true, ite_true, ite_false, if_true, if_false, reduceIte, Bool.true_eq_false, Bool.false_eq_true, eq_self_iff_true, Nat.zero_le, not_true_eq_false, not_false_eq_true, forall_const, false_implies, implies_true, forall_false, hM.all, s1, s2, g1, hnc, g12, reduceIte, Bool.false_eq_true, ne10, ne10L, ne01, ne01L, tt_imp, nt_imp, ff_imp, nf_imp, true_and, and_true, true_or, or_true, reduceIte]
        exact this
      · have := hbad 1 (by rw [hR, if_neg n12])
        have g12 := hg12' n12
        simp only [k_Mdl_readOrder_29, k_Mdl_readOrder_49, w_iadd, w_isub, w_imul, w_iand, w_ior, w_ixor, w_ishl, w_ishr, w_iushr, w_idiv, w_irem, w_ineg, w_ladd, w_lsub, w_lmul, w_ldiv, w_lrem, w_i2l, w_l2i, w_i2c, w_lcmp, w_dup_int, w_pop_int, w_dup_ref, w_pop_ref, w_dup_retAddr, w_pop_retAddr, w_dup2, w_I, w_L, w_Null, w_Ild, w_Lld, w_Ald, w_Ist, w_Lst, w_Ast, w_Iinc, w_if_eq, w_icmp_eq, w_if_ne, w_icmp_ne, w_if_lt, w_icmp_lt, w_if_ge, w_icmp_ge, w_if_gt, w_icmp_gt, w_if_le, w_icmp_le, w_GetI, w_GetL, w_GetR, w_PutI, w_PutZ, w_PutL, w_PutR, w_PutN, w_Iald, w_Zald, w_Lald, w_Aald, w_Iast, w_Zast, w_Last, w_AastR, w_AastN, w_Alen, w_New, w_NewA, w_Mna, w_Iret, w_Zret, w_Cret, w_Bret, w_Lret, w_AretR, w_AretN, w_Vret, w_Obj, w_IfNN, w_IfNR, w_Copy, w_Cln, w_Cast, w_SfA, w_SfI, w_SfQ, w_Str, w_ScLd, w_ScLen, w_CV0, w_CS0, w_CV1, w_CS1, w_CV2, w_CS2, w_CV3, w_CS3, w_CV4, w_CS4, w_CV5, w_CS5, List.getElem?_cons_zero, List.getElem?_cons_succ, List.set_cons_zero, List.set_cons_succ, List.length_cons, List.length_nil, List.map_cons, List.map_nil, List.sum_cons, List.sum_nil, List.nil_append, List.cons_append, Option.toList_some, Option.toList_none, Value.category, xok, va_rf, true_and, and_true, and_self, Nat.reduceAdd, Nat.reduceLT, Nat.reduceLeDiff, Nat.reduceEqDiff, Nat.reduceMul, beq_self_eq_true, decide_true, ite_true, ite_false, if_true, if_false, reduceIte, Bool.true_eq_false, Bool.false_eq_true, eq_self_iff_true, Nat.zero_le, not_true_eq_false, not_false_eq_true, forall_const, false_implies, implies_true, forall_false, hM.all, s1, s2, g1, hnc, g12, reduceIte, Bool.false_eq_true, ne10, ne10L, ne01, ne01L, tt_imp, nt_imp, ff_imp, nf_imp, true_and, and_true, true_or, or_true, reduceIte]
        exact this
    | false =>
      rw [q2] at s2
      have eR : R = .error p := by
        rw [hR]
        split
        · rw [e0]
          unfold gOrdH
          rw [q1, if_neg Bool.false_ne_true, q2, if_neg Bool.false_ne_true]
          rfl
        · rfl
      have := hbad m eR
      simp only [k_Mdl_readOrder_29, k_Mdl_readOrder_49, w_iadd, w_isub, w_imul, w_iand, w_ior, w_ixor, w_ishl, w_ishr, w_iushr, w_idiv, w_irem, w_ineg, w_ladd, w_lsub, w_lmul, w_ldiv, w_lrem, w_i2l, w_l2i, w_i2c, w_lcmp, w_dup_int, w_pop_int, w_dup_ref, w_pop_ref, w_dup_retAddr, w_pop_retAddr, w_dup2, w_I, w_L, w_Null, w_Ild, w_Lld, w_Ald, w_Ist, w_Lst, w_Ast, w_Iinc, w_if_eq, w_icmp_eq, w_if_ne, w_icmp_ne, w_if_lt, w_icmp_lt, w_if_ge, w_icmp_ge, w_if_gt, w_icmp_gt, w_if_le, w_icmp_le, w_GetI, w_GetL, w_GetR, w_PutI, w_PutZ, w_PutL, w_PutR, w_PutN, w_Iald, w_Zald, w_Lald, w_Aald, w_Iast, w_Zast, w_Last, w_AastR, w_AastN, w_Alen, w_New, w_NewA, w_Mna, w_Iret, w_Zret, w_Cret, w_Bret, w_Lret, w_AretR, w_AretN, w_Vret, w_Obj, w_IfNN, w_IfNR, w_Copy, w_Cln, w_Cast, w_SfA, w_SfI, w_SfQ, w_Str, w_ScLd, w_ScLen, w_CV0, w_CS0, w_CV1, w_CS1, w_CV2, w_CS2, w_CV3, w_CS3, w_CV4, w_CS4, w_CV5, w_CS5, List.getElem?_cons_zero, List.getElem?_cons_succ, List.set_cons_zero, List.set_cons_succ, List.length_cons, List.length_nil, List.map_cons, List.map_nil, List.sum_cons, List.sum_nil, List.nil_append, List.cons_append, Option.toList_some, Option.toList_none, Value.category, xok, va_rf, true_and, and_true, and_self, Nat.reduceAdd, Nat.reduceLT, Nat.reduceLeDiff, Nat.reduceEqDiff, Nat.reduceMul, beq_self_eq_true, decide_true, ite_true, ite_false, if_true, if_false, reduceIte, Bool.true_eq_false, Bool.false_eq_true, eq_self_iff_true, Nat.zero_le, not_true_eq_false, not_false_eq_true, forall_const, false_implies, implies_true, forall_false, hM.all, s1, s2, gm, reduceIte, Bool.false_eq_true, ne10, ne10L, ne01, ne01L, tt_imp, nt_imp, ff_imp, nf_imp, true_and, and_true, true_or, or_true, reduceIte]
      exact this
