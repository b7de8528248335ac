def WNz (n : Nat) : Nat → Nat → Bool := fun a k => a == 80 && decide (8 * n ≤ k)
theorem WNz_WNc {n : Nat} (a k : Nat) (h : WNc a k = false) : WNz n a k = false := by
  unfold WNc at h
  unfold WNz
  simp only [Bool.or_eq_false_iff] at h
  rw [h.1]
  rfl
theorem s_readLaw {b : Nat → Nat} {len : Nat} {p c n : Nat} {J : Nat → Nat × Nat} {q : Nat} {G : XH} (h : MSC G false b len false p c J q) (hn : n ≤ 12) (hnc : hpI G 70 21 = nI n) : SP D_Mdl_readLaw [.ref 70] G (fun z => z.1 = none ∧ Fr WRl G z.2 ∧ RLr b len n c J q (hpI G 80) (if n < 12 then gClause b len false p c else .error p) z.2) := by
  have hM := h.1.1
  have l400 := h.1.2.1.1
  have hp := h.1.2.2.2.2.2.2.2
  obtain ⟨R, hR⟩ : ∃ R, R = (if n < 12 then gClause b len false p c else .error p) := ⟨_, rfl⟩
  rw [← hR]
  obtain ⟨P, hP⟩ : ∃ P : XR → Prop, P = (fun z => z.1 = none ∧ Fr WRl G z.2 ∧ RLr b len n c J q (hpI G 80) R z.2) := ⟨_, rfl⟩
  rw [← hP]
  have hbad : ∀ (x1 x2 : Int32), R = .error p → WP k_Mdl_readLaw_54 [some (.ref 70), some (.int x1), some (.int x2), none] [.int 0, .ref 70] G P := by
    intro x1 x2 e
    simp only [k_Mdl_readLaw_54, w_iadd, w_isub, w_imul, w_iand, w_ior, w_ixor, w_ishl, w_ishr, w_iushr, w_idiv, w_irem, w_ineg, w_ladd, w_lsub, w_lmul, w_ldiv, w_lrem, w_i2l, w_l2i, w_i2c, w_lcmp, w_dup_int, w_pop_int, w_dup_ref, w_pop_ref, w_dup_retAddr, w_pop_retAddr, w_dup2, w_I, w_L, w_Null, w_Ild, w_Lld, w_Ald, w_Ist, w_Lst, w_Ast, w_Iinc, w_if_eq, w_icmp_eq, w_if_ne, w_icmp_ne, w_if_lt, w_icmp_lt, w_if_ge, w_icmp_ge, w_if_gt, w_icmp_gt, w_if_le, w_icmp_le, w_GetI, w_GetL, w_GetR, w_PutI, w_PutZ, w_PutL, w_PutR, w_PutN, w_Iald, w_Zald, w_Lald, w_Aald, w_Iast, w_Zast, w_Last, w_AastR, w_AastN, w_Alen, w_New, w_NewA, w_Mna, w_Iret, w_Zret, w_Cret, w_Bret, w_Lret, w_AretR, w_AretN, w_Vret, w_Obj, w_IfNN, w_IfNR, w_Copy, w_Cln, w_Cast, w_SfA, w_SfI, w_SfQ, w_Str, w_ScLd, w_ScLen, w_CV0, w_CS0, w_CV1, w_CS1, w_CV2, w_CS2, w_CV3, w_CS3, w_CV4, w_CS4, w_CV5, w_CS5, List.getElem?_cons_zero, List.getElem?_cons_succ, List.set_cons_zero, List.set_cons_succ, List.length_cons, List.length_nil, List.map_cons, List.map_nil, List.sum_cons, List.sum_nil, List.nil_append, List.cons_append, Option.toList_some, Option.toList_none, Value.category, xok, va_rf, true_and, and_true, and_self, Nat.reduceAdd, Nat.reduceLT, Nat.reduceLeDiff, Nat.reduceEqDiff, Nat.reduceMul, beq_self_eq_true, decide_true, ite_true, ite_false, if_true, if_false, reduceIte, Bool.true_eq_false, Bool.false_eq_true, eq_self_iff_true, Nat.zero_le, not_true_eq_false, not_false_eq_true, forall_const, false_implies, implies_true, forall_false, hM.all, ne10, ne10L, ne01, ne01L, tt_imp, nt_imp, ff_imp, nf_imp, true_and, and_true, true_or, or_true, reduceIte]
    refine SP.mono (s_mustC h false) ?_
    rintro ⟨v, G1⟩ ⟨rfl, fr1, h1⟩
    dsimp only at fr1 h1
    rw [if_neg Bool.false_ne_true] at h1
    have hM1 := h1.1.1
    have b19 : hpI G1 70 19 = 1 := h1.2.2.2.1
    simp only [Option.toList_none, List.nil_append, w_iadd, w_isub, w_imul, w_iand, w_ior, w_ixor, w_ishl, w_ishr, w_iushr, w_idiv, w_irem, w_ineg, w_ladd, w_lsub, w_lmul, w_ldiv, w_lrem, w_i2l, w_l2i, w_i2c, w_lcmp, w_dup_int, w_pop_int, w_dup_ref, w_pop_ref, w_dup_retAddr, w_pop_retAddr, w_dup2, w_I, w_L, w_Null, w_Ild, w_Lld, w_Ald, w_Ist, w_Lst, w_Ast, w_Iinc, w_if_eq, w_icmp_eq, w_if_ne, w_icmp_ne, w_if_lt, w_icmp_lt, w_if_ge, w_icmp_ge, w_if_gt, w_icmp_gt, w_if_le, w_icmp_le, w_GetI, w_GetL, w_GetR, w_PutI, w_PutZ, w_PutL, w_PutR, w_PutN, w_Iald, w_Zald, w_Lald, w_Aald, w_Iast, w_Zast, w_Last, w_AastR, w_AastN, w_Alen, w_New, w_NewA, w_Mna, w_Iret, w_Zret, w_Cret, w_Bret, w_Lret, w_AretR, w_AretN, w_Vret, w_Obj, w_IfNN, w_IfNR, w_Copy, w_Cln, w_Cast, w_SfA, w_SfI, w_SfQ, w_Str, w_ScLd, w_ScLen, w_CV0, w_CS0, w_CV1, w_CS1, w_CV2, w_CS2, w_CV3, w_CS3, w_CV4, w_CS4, w_CV5, w_CS5, List.getElem?_cons_zero, List.getElem?_cons_succ, List.set_cons_zero, List.set_cons_succ, List.length_cons, List.length_nil, List.map_cons, List.map_nil, List.sum_cons, List.sum_nil, List.nil_append, List.cons_append, Option.toList_some, Option.toList_none, Value.category, xok, va_rf, true_and, and_true, and_self, Nat.reduceAdd, Nat.reduceLT, Nat.reduceLeDiff, Nat.reduceEqDiff, Nat.reduceMul, beq_self_eq_true, decide_true, ite_true, ite_false, if_true, if_false, reduceIte, Bool.true_eq_false, Bool.false_eq_true, eq_self_iff_true, Nat.zero_le, not_true_eq_false, not_false_eq_true, forall_const, false_implies, implies_true, forall_false, hM1.all, b19, ne10, ne10L, ne01, ne01L, tt_imp, nt_imp, ff_imp, nf_imp, true_and, and_true, true_or, or_true, reduceIte]
    rw [hP]
    refine ⟨rfl, fr1.mono WMx_WRl, ?_⟩
    rw [e]
    exact ⟨_, _, _, h1⟩
  have hgood : ∀ (hd : Nat) (x2 : Int32), n < 12 → wIx b len p hdsW 0 = some hd → WP k_Mdl_readLaw_54 [some (.ref 70), some (.int (nI hd)), some (.int x2), none] [.int 1, .ref 70] G P := by
    intro hd x2 n12 hw
    have hk := wIx_lt _ 0 hd (by decide) hw
    have hd5 : hd < 5 := by simpa [hdsW] using hk.2.2
    have npl := (nxB_le (b := b) (len := len) (p := p)).2 hk.1
    simp only [k_Mdl_readLaw_54, w_iadd, w_isub, w_imul, w_iand, w_ior, w_ixor, w_ishl, w_ishr, w_iushr, w_idiv, w_irem, w_ineg, w_ladd, w_lsub, w_lmul, w_ldiv, w_lrem, w_i2l, w_l2i, w_i2c, w_lcmp, w_dup_int, w_pop_int, w_dup_ref, w_pop_ref, w_dup_retAddr, w_pop_retAddr, w_dup2, w_I, w_L, w_Null, w_Ild, w_Lld, w_Ald, w_Ist, w_Lst, w_Ast, w_Iinc, w_if_eq, w_icmp_eq, w_if_ne, w_icmp_ne, w_if_lt, w_icmp_lt, w_if_ge, w_icmp_ge, w_if_gt, w_icmp_gt, w_if_le, w_icmp_le, w_GetI, w_GetL, w_GetR, w_PutI, w_PutZ, w_PutL, w_PutR, w_PutN, w_Iald, w_Zald, w_Lald, w_Aald, w_Iast, w_Zast, w_Last, w_AastR, w_AastN, w_Alen, w_New, w_NewA, w_Mna, w_Iret, w_Zret, w_Cret, w_Bret, w_Lret, w_AretR, w_AretN, w_Vret, w_Obj, w_IfNN, w_IfNR, w_Copy, w_Cln, w_Cast, w_SfA, w_SfI, w_SfQ, w_Str, w_ScLd, w_ScLen, w_CV0, w_CS0, w_CV1, w_CS1, w_CV2, w_CS2, w_CV3, w_CS3, w_CV4, w_CS4, w_CV5, w_CS5, List.getElem?_cons_zero, List.getElem?_cons_succ, List.set_cons_zero, List.set_cons_succ, List.length_cons, List.length_nil, List.map_cons, List.map_nil, List.sum_cons, List.sum_nil, List.nil_append, List.cons_append, Option.toList_some, Option.toList_none, Value.category, xok, va_rf, true_and, and_true, and_self, Nat.reduceAdd, Nat.reduceLT, Nat.reduceLeDiff, Nat.reduceEqDiff, Nat.reduceMul, beq_self_eq_true, decide_true, ite_true, ite_false, if_true, if_false, reduceIte, Bool.true_eq_false, Bool.false_eq_true, eq_self_iff_true, Nat.zero_le, not_true_eq_false, not_false_eq_true, forall_const, false_implies, implies_true, forall_false, hM.all, ne10, ne10L, ne01, ne01L, tt_imp, nt_imp, ff_imp, nf_imp, true_and, and_true, true_or, or_true, reduceIte]
    refine SP.mono (s_mustC h true) ?_
    rintro ⟨v, G1⟩ ⟨rfl, fr1, h1⟩
    dsimp only at fr1 h1
    rw [if_pos rfl] at h1
    have hM1 := h1.1.1
    have b19 : hpI G1 70 19 = 0 := h1.2.2.2.1
    have b21 : hpI G1 70 21 = nI n := (fr1.I rfl).trans hnc
    have A1 : ∀ j, hpI G1 80 j = hpI G 80 j := fun j => fr1.I rfl
    have e8 : 8 * nI n = nI (8 * n) := nI_mul 8 n
    simp only [Option.toList_none, List.nil_append, w_iadd, w_isub, w_imul, w_iand, w_ior, w_ixor, w_ishl, w_ishr, w_iushr, w_idiv, w_irem, w_ineg, w_ladd, w_lsub, w_lmul, w_ldiv, w_lrem, w_i2l, w_l2i, w_i2c, w_lcmp, w_dup_int, w_pop_int, w_dup_ref, w_pop_ref, w_dup_retAddr, w_pop_retAddr, w_dup2, w_I, w_L, w_Null, w_Ild, w_Lld, w_Ald, w_Ist, w_Lst, w_Ast, w_Iinc, w_if_eq, w_icmp_eq, w_if_ne, w_icmp_ne, w_if_lt, w_icmp_lt, w_if_ge, w_icmp_ge, w_if_gt, w_icmp_gt, w_if_le, w_icmp_le, w_GetI, w_GetL, w_GetR, w_PutI, w_PutZ, w_PutL, w_PutR, w_PutN, w_Iald, w_Zald, w_Lald, w_Aald, w_Iast, w_Zast, w_Last, w_AastR, w_AastN, w_Alen, w_New, w_NewA, w_Mna, w_Iret, w_Zret, w_Cret, w_Bret, w_Lret, w_AretR, w_AretN, w_Vret, w_Obj, w_IfNN, w_IfNR, w_Copy, w_Cln, w_Cast, w_SfA, w_SfI, w_SfQ, w_Str, w_ScLd, w_ScLen, w_CV0, w_CS0, w_CV1, w_CS1, w_CV2, w_CS2, w_CV3, w_CS3, w_CV4, w_CS4, w_CV5, w_CS5, List.getElem?_cons_zero, List.getElem?_cons_succ, List.set_cons_zero, List.set_cons_succ, List.length_cons, List.length_nil, List.map_cons, List.map_nil, List.sum_cons, List.sum_nil, List.nil_append, List.cons_append, Option.toList_some, Option.toList_none, Value.category, xok, va_rf, true_and, and_true, and_self, Nat.reduceAdd, Nat.reduceLT, Nat.reduceLeDiff, Nat.reduceEqDiff, Nat.reduceMul, beq_self_eq_true, decide_true, ite_true, ite_false, if_true, if_false, reduceIte, Bool.true_eq_false, Bool.false_eq_true, eq_self_iff_true, Nat.zero_le, not_true_eq_false, not_false_eq_true, forall_const, false_implies, implies_true, forall_false, hM1.all, b19, b21, e8, ne10, ne10L, ne01, ne01L, tt_imp, nt_imp, ff_imp, nf_imp, true_and, and_true, true_or, or_true, reduceIte]
    unfold k_Mdl_readLaw_75
    obtain ⟨X, hX⟩ : ∃ X : XK, X = (xAld 0 (xGetR 11 22 (xIld 2 (xIld 1 (xIasth (xAld 0 (xdup (xGetI 11 21 (xI 1 (xiadd (xPutI 11 21 (xAld 0 (xGetR 11 22 (xIld 2 (xI 3 (xiadd (xAld 0 (xGetI 11 23 (xIasth (xIld 1 (xI 3 (xicmp_ge k_Mdl_readLaw_135 (xAld 0 (xI 0 (xCallV 11 1 D_Mdl_readExpression k_Mdl_readLaw_135))))))))))))))))))))))))) := ⟨_, rfl⟩
    have hf : ∀ K, f_Mdl_readLaw_75 K = (xIld 3 (xI 8 (xicmp_ge X (xAld 0 (xGetR 11 22 (xIld 2 (xIld 3 (xiadd (xI 0 (xIasth (xIinc 3 1 K))))))))))) := fun K => by rw [hX]; rfl
    have hz : ∀ (m j : Nat) (G2 : XH) (N : Nat), j + m = 8 → Fr (WNz n) G1 G2 → m < N → (∀ G3, Fr (WNz n) G1 G3 → WP X [some (.ref 70), some (.int (nI hd)), some (.int (nI (8 * n))), some (.int (nI 8))] [] G3 P) → WP (xloop f_Mdl_readLaw_75 N) [some (.ref 70), some (.int (nI hd)), some (.int (nI (8 * n))), some (.int (nI j))] [] G2 P := by
      intro m
      induction m with
      | zero =>
        intro j G2 N hj f2 hN hgo
        obtain ⟨N1, rfl⟩ : ∃ N1, N = N1 + 1 := ⟨N - 1, by omega⟩
        have e : j = 8 := by omega
        subst e
        have g : (8 ≤ nI 8) = True := eq_true (by decide)
        rw [xloop_s, hf]
        simp only [w_iadd, w_isub, w_imul, w_iand, w_ior, w_ixor, w_ishl, w_ishr, w_iushr, w_idiv, w_irem, w_ineg, w_ladd, w_lsub, w_lmul, w_ldiv, w_lrem, w_i2l, w_l2i, w_i2c, w_lcmp, w_dup_int, w_pop_int, w_dup_ref, w_pop_ref, w_dup_retAddr, w_pop_retAddr, w_dup2, w_I, w_L, w_Null, w_Ild, w_Lld, w_Ald, w_Ist, w_Lst, w_Ast, w_Iinc, w_if_eq, w_icmp_eq, w_if_ne, w_icmp_ne, w_if_lt, w_icmp_lt, w_if_ge, w_icmp_ge, w_if_gt, w_icmp_gt, w_if_le, w_icmp_le, w_GetI, w_GetL, w_GetR, w_PutI, w_PutZ, w_PutL, w_PutR, w_PutN, w_Iald, w_Zald, w_Lald, w_Aald, w_Iast, w_Zast, w_Last, w_AastR, w_AastN, w_Alen, w_New, w_NewA, w_Mna, w_Iret, w_Zret, w_Cret, w_Bret, w_Lret, w_AretR, w_AretN, w_Vret, w_Obj, w_IfNN, w_IfNR, w_Copy, w_Cln, w_Cast, w_SfA, w_SfI, w_SfQ, w_Str, w_ScLd, w_ScLen, w_CV0, w_CS0, w_CV1, w_CS1, w_CV2, w_CS2, w_CV3, w_CS3, w_CV4, w_CS4, w_CV5, w_CS5, List.getElem?_cons_zero, List.getElem?_cons_succ, List.set_cons_zero, List.set_cons_succ, List.length_cons, List.length_nil, List.map_cons, List.map_nil, List.sum_cons, List.sum_nil, List.nil_append, List.cons_append, Option.toList_some, Option.toList_none, Value.category, xok, va_rf, true_and, and_true, and_self, Nat.reduceAdd, Nat.reduceLT, Nat.reduceLeDiff, Nat.reduceEqDiff, Nat.reduceMul, beq_self_eq_true, decide_true, ite_true, ite_false, if_true, if_false, reduceIte, Bool.true_eq_false, Bool.false_eq_true, eq_self_iff_true, Nat.zero_le, not_true_eq_false, not_false_eq_true, forall_const, false_implies, implies_true, forall_false, g, ne10, ne10L, ne01, ne01L, tt_imp, nt_imp, ff_imp, nf_imp, true_and, and_true, true_or, or_true, reduceIte]
        exact hgo G2 f2
      | succ m ih =>
        intro j G2 N hj f2 hN hgo
        obtain ⟨N1, rfl⟩ : ∃ N1, N = N1 + 1 := ⟨N - 1, by omega⟩
        have hM2 := f2.ms hM1
        have g : (8 ≤ nI j) = False := eq_false (by rw [show (8 : Int32) = nI 8 from rfl, nl_le (by omega) (by omega)]; omega)
        have ej : nI (8 * n) + nI j = nI (8 * n + j) := nI_add _ _
        have ek : nI j + Int32.ofInt 1 = nI (j + 1) := nI_1 j
        have p1 : 0 ≤ nI (8 * n + j) := nI_pos' (by omega)
        have c1 : (nI (8 * n + j)).toNatClampNeg = 8 * n + j := nI_clamp (by omega)
        have l1 : 8 * n + j < 96 := by omega
        rw [xloop_s, hf]
        simp only [w_iadd, w_isub, w_imul, w_iand, w_ior, w_ixor, w_ishl, w_ishr, w_iushr, w_idiv, w_irem, w_ineg, w_ladd, w_lsub, w_lmul, w_ldiv, w_lrem, w_i2l, w_l2i, w_i2c, w_lcmp, w_dup_int, w_pop_int, w_dup_ref, w_pop_ref, w_dup_retAddr, w_pop_retAddr, w_dup2, w_I, w_L, w_Null, w_Ild, w_Lld, w_Ald, w_Ist, w_Lst, w_Ast, w_Iinc, w_if_eq, w_icmp_eq, w_if_ne, w_icmp_ne, w_if_lt, w_icmp_lt, w_if_ge, w_icmp_ge, w_if_gt, w_icmp_gt, w_if_le, w_icmp_le, w_GetI, w_GetL, w_GetR, w_PutI, w_PutZ, w_PutL, w_PutR, w_PutN, w_Iald, w_Zald, w_Lald, w_Aald, w_Iast, w_Zast, w_Last, w_AastR, w_AastN, w_Alen, w_New, w_NewA, w_Mna, w_Iret, w_Zret, w_Cret, w_Bret, w_Lret, w_AretR, w_AretN, w_Vret, w_Obj, w_IfNN, w_IfNR, w_Copy, w_Cln, w_Cast, w_SfA, w_SfI, w_SfQ, w_Str, w_ScLd, w_ScLen, w_CV0, w_CS0, w_CV1, w_CS1, w_CV2, w_CS2, w_CV3, w_CS3, w_CV4, w_CS4, w_CV5, w_CS5, List.getElem?_cons_zero, List.getElem?_cons_succ, List.set_cons_zero, List.set_cons_succ, List.length_cons, List.length_nil, List.map_cons, List.map_nil, List.sum_cons, List.sum_nil, List.nil_append, List.cons_append, Option.toList_some, Option.toList_none, Value.category, xok, va_rf, true_and, and_true, and_self, Nat.reduceAdd, Nat.reduceLT, Nat.reduceLeDiff, Nat.reduceEqDiff, Nat.reduceMul, beq_self_eq_true, decide_true, ite_true, ite_false, if_true, if_false, reduceIte, Bool.true_eq_false, Bool.false_eq_true, eq_self_iff_true, Nat.zero_le, not_true_eq_false, not_false_eq_true, forall_const, false_implies, implies_true, forall_false, stI_C, stI_N, stI_Z, stI_S, stI_L, stI_R, stL_C, stL_N, stL_Z, stL_S, stL_I, stL_R, stR_C, stR_N, stR_Z, stR_S, stR_I, stR_L, stA_C, stA_N, stA_Z, stA_S, stA_L, stA_R, stI_I, stL_L, stR_R, stA_I, stN_C, stN_N, stN_Z, stN_S, stN_I, stN_L, stN_R, stI_ne, stL_ne, stR_ne, hM2.all, g, ej, xin, p1, c1, l1, ek, ne10, ne10L, ne01, ne01L, tt_imp, nt_imp, ff_imp, nf_imp, true_and, and_true, true_or, or_true, reduceIte]
        exact ih (j + 1) _ N1 (by omega) (f2.wI (by unfold WNz; simp)) (by omega) hgo
    refine hz 8 0 G1 NF rfl Fr.refl (by unfold NF; omega) (fun G3 f3 => ?_)
    have hm3 := h1.nc (f3.mono WNz_WNc)
    have hM3 := hm3.1.1
    have c21 : hpI G3 70 21 = nI n := (f3.I rfl).trans b21
    have c23 : hpI G3 70 23 = nI q := hm3.2.2.2.2.2.2.1
    have e1 : nI n + 1 = nI (n + 1) := nI_add n 1
    have e3 : nI (8 * n) + 3 = nI (8 * n + 3) := nI_add _ 3
    have p1 : 0 ≤ nI (8 * n) := nI_pos' (by omega)
    have c1 : (nI (8 * n)).toNatClampNeg = 8 * n := nI_clamp (by omega)
    have l1 : 8 * n < 96 := by omega
    have p3 : 0 ≤ nI (8 * n + 3) := nI_pos' (by omega)
    have c3 : (nI (8 * n + 3)).toNatClampNeg = 8 * n + 3 := nI_clamp (by omega)
    have l3 : 8 * n + 3 < 96 := by omega
    obtain ⟨G4, hG4⟩ : ∃ G4, G4 = stI (stI (stI G3 80 (8 * n) (nI hd)) 70 21 (nI (n + 1))) 80 (8 * n + 3) (nI q) := ⟨_, rfl⟩
    have f4 : Fr WNc G3 G4 := by rw [hG4]; exact ((Fr.refl.wI rfl).wI rfl).wI rfl
    have hm4 := hm3.nc f4
    have hM4 := hm4.1.1
    have A4 : hpI G4 80 = up (up (hpI G3 80) (8 * n) (nI hd)) (8 * n + 3) (nI q) := by rw [hG4, stI_up, hpI_stA, stI_up, hpI_stA_ne (by decide), stI_up, hpI_stA]
    have d21 : hpI G4 70 21 = nI (n + 1) := by rw [hG4, stI_up, hpI_stA_ne (by decide), stI_up, hpI_stA, up_eq]
    have f04 : Fr WRl G G4 := (fr1.mono WMx_WRl).trans ((f3.mono (fun a k z => WNz_WNc a k (WNc_WRl a k z))).trans (f4.mono WNc_WRl))
    have hA4 : ∀ j, j < 8 * n → hpI G4 80 j = hpI G 80 j := fun j hj => by
      rw [A4, up_ne (by omega), up_ne (by omega), f3.I (by unfold WNz; simp; omega)]
      exact A1 j
    have hgC : gClause b len false p c = match gLawH b len p c with
      | .error e => .error e
      | .ok h => if isW b len wIf h.1 then (match gTest b len false 8 (nxB b len h.1) h.2.1 with
          | .error e => .error e
          | .ok s => .ok (s.1, s.2.1, h.2.2.1, h.2.2.2.1, h.2.2.2.2.1, h.2.2.2.2.2, s.2.2)) else .ok (h.1, h.2.1, h.2.2.1, h.2.2.2.1, h.2.2.2.2.1, h.2.2.2.2.2, f1) := by
      unfold gClause gHead
      rw [if_neg Bool.false_ne_true]
      cases gLawH b len p c with
      | error e => rfl
      | ok hh =>
        dsimp only
        split
        · cases gTest b len false 8 (nxB b len hh.1) hh.2.1 <;> rfl
        · rfl
    rw [if_pos n12, hgC] at hR
    by_cases q3 : hd ≤ 2
    · have g3 : ((3 : Int32) ≤ nI hd) = False := eq_false (by rw [show (3 : Int32) = nI 3 from rfl, nl_le (by omega) (by omega)]; omega)
      have hks := gSum_ok (b := b) (len := len) (od := false) rfl 8 (nxB b len p) c nxB_le.1
      have hgo : SP D_Mdl_readExpression [.ref 70, .int 0] G4 (fun z => WP k_Mdl_readLaw_135 [some (.ref 70), some (.int (nI hd)), some (.int (nI (8 * n))), some (.int (nI 8))] (z.1.toList ++ []) z.2 P) := by
        refine SP.mono (s_readSum hm4) ?_
        rintro ⟨v5, G5⟩ ⟨rfl, f5, hx⟩
        dsimp only at f5 hx
        simp only [Option.toList_none, List.nil_append]
        rw [hP]
        have f05 := f04.trans (f5.mono WMx_WRl)
        have A5 : ∀ j, hpI G5 80 j = hpI G4 80 j := fun j => f5.I rfl
        refine rl_135 (hd := hd) n12 (by omega) f05 (fun j hj => (A5 j).trans (hA4 j hj)) (by rw [A5, A4, up_ne (by omega), up_eq]) (by rw [A5, A4, up_eq]) ((f5.I rfl).trans d21) (sm := match gSum b len false 8 (nxB b len p) c with
          | .error _ => f1
          | .ok s => s.2.2) ?_
        cases hgs : gSum b len false 8 (nxB b len p) c with
        | error e =>
          rw [hgs] at hx
          obtain ⟨c', J', q', hx⟩ := hx
          refine Or.inl ⟨e, c', J', q', ?_, hx⟩
          rw [hR]
          unfold gLawH
          rw [hw]
          dsimp only
          rw [if_pos q3, hgs]
        | ok s =>
          rw [hgs] at hx hks
          obtain ⟨J', q', hx, hlx, hok⟩ := hx
          dsimp only at hks
          refine Or.inr ⟨s.1, s.2.1, J', q', hx, hlx, Or.inl ⟨hok.1.1, _, by omega, hok⟩, by omega, fun _ => hok.1.1, fun z => absurd z (by omega), ?_⟩
          rw [hR]
          unfold gLawH
          rw [hw]
          dsimp only
          rw [if_pos q3, hgs]
          dsimp only
          split
          · cases gTest b len false 8 (nxB b len s.1) s.2.1 <;> rfl
          · rfl
      rw [hX]
      simp only [w_iadd, w_isub, w_imul, w_iand, w_ior, w_ixor, w_ishl, w_ishr, w_iushr, w_idiv, w_irem, w_ineg, w_ladd, w_lsub, w_lmul, w_ldiv, w_lrem, w_i2l, w_l2i, w_i2c, w_lcmp, w_dup_int, w_pop_int, w_dup_ref, w_pop_ref, w_dup_retAddr, w_pop_retAddr, w_dup2, w_I, w_L, w_Null, w_Ild, w_Lld, w_Ald, w_Ist, w_Lst, w_Ast, w_Iinc, w_if_eq, w_icmp_eq, w_if_ne, w_icmp_ne, w_if_lt, w_icmp_lt, w_if_ge, w_icmp_ge, w_if_gt, w_icmp_gt, w_if_le, w_icmp_le, w_GetI, w_GetL, w_GetR, w_PutI, w_PutZ, w_PutL, w_PutR, w_PutN, w_Iald, w_Zald, w_Lald, w_Aald, w_Iast, w_Zast, w_Last, w_AastR, w_AastN, w_Alen, w_New, w_NewA, w_Mna, w_Iret, w_Zret, w_Cret, w_Bret, w_Lret, w_AretR, w_AretN, w_Vret, w_Obj, w_IfNN, w_IfNR, w_Copy, w_Cln, w_Cast, w_SfA, w_SfI, w_SfQ, w_Str, w_ScLd, w_ScLen, w_CV0, w_CS0, w_CV1, w_CS1, w_CV2, w_CS2, w_CV3, w_CS3, w_CV4, w_CS4, w_CV5, w_CS5, List.getElem?_cons_zero, List.getElem?_cons_succ, List.set_cons_zero, List.set_cons_succ, List.length_cons, List.length_nil, List.map_cons, List.map_nil, List.sum_cons, List.sum_nil, List.nil_append, List.cons_append, Option.toList_some, Option.toList_none, Value.category, xok, va_rf, true_and, and_true, and_self, Nat.reduceAdd, Nat.reduceLT, Nat.reduceLeDiff, Nat.reduceEqDiff, Nat.reduceMul, beq_self_eq_true, decide_true, ite_true, ite_false, if_true, if_false, reduceIte, Bool.true_eq_false, Bool.false_eq_true, eq_self_iff_true, Nat.zero_le, not_true_eq_false, not_false_eq_true, forall_const, false_implies, implies_true, forall_false, stI_C, stI_N, stI_Z, stI_S, stI_L, stI_R, stL_C, stL_N, stL_Z, stL_S, stL_I, stL_R, stR_C, stR_N, stR_Z, stR_S, stR_I, stR_L, stA_C, stA_N, stA_Z, stA_S, stA_L, stA_R, stI_I, stL_L, stR_R, stA_I, stN_C, stN_N, stN_Z, stN_S, stN_I, stN_L, stN_R, stI_ne, stL_ne, stR_ne, hM3.all, xin, p1, c1, l1, p3, c3, l3, c21, e1, e3, c23, ← hG4, g3, hM4.all, ne10, ne10L, ne01, ne01L, tt_imp, nt_imp, ff_imp, nf_imp, true_and, and_true, true_or, or_true, reduceIte]
      exact hgo
    · have g3 : ((3 : Int32) ≤ nI hd) = True := eq_true (by rw [show (3 : Int32) = nI 3 from rfl, nl_le (by omega) (by omega)]; omega)
      have hgo : WP k_Mdl_readLaw_135 [some (.ref 70), some (.int (nI hd)), some (.int (nI (8 * n))), some (.int (nI 8))] [] G4 P := by
        rw [hP]
        refine rl_135 (hd := hd) n12 (by omega) f04 hA4 (by rw [A4, up_ne (by omega), up_eq]) (by rw [A4, up_eq]) d21 (sm := f1) (Or.inr ⟨nxB b len p, c, J, q, hm4, fun _ _ => rfl, Or.inr ⟨rfl, rfl⟩, Nat.le_refl _, fun z => absurd z (by omega), fun _ => rfl, ?_⟩)
        rw [hR]
        unfold gLawH
        rw [hw]
        dsimp only
        rw [if_neg q3]
        dsimp only
        split
        · cases gTest b len false 8 (nxB b len (nxB b len p)) c <;> rfl
        · rfl
      rw [hX]
      simp only [w_iadd, w_isub, w_imul, w_iand, w_ior, w_ixor, w_ishl, w_ishr, w_iushr, w_idiv, w_irem, w_ineg, w_ladd, w_lsub, w_lmul, w_ldiv, w_lrem, w_i2l, w_l2i, w_i2c, w_lcmp, w_dup_int, w_pop_int, w_dup_ref, w_pop_ref, w_dup_retAddr, w_pop_retAddr, w_dup2, w_I, w_L, w_Null, w_Ild, w_Lld, w_Ald, w_Ist, w_Lst, w_Ast, w_Iinc, w_if_eq, w_icmp_eq, w_if_ne, w_icmp_ne, w_if_lt, w_icmp_lt, w_if_ge, w_icmp_ge, w_if_gt, w_icmp_gt, w_if_le, w_icmp_le, w_GetI, w_GetL, w_GetR, w_PutI, w_PutZ, w_PutL, w_PutR, w_PutN, w_Iald, w_Zald, w_Lald, w_Aald, w_Iast, w_Zast, w_Last, w_AastR, w_AastN, w_Alen, w_New, w_NewA, w_Mna, w_Iret, w_Zret, w_Cret, w_Bret, w_Lret, w_AretR, w_AretN, w_Vret, w_Obj, w_IfNN, w_IfNR, w_Copy, w_Cln, w_Cast, w_SfA, w_SfI, w_SfQ, w_Str, w_ScLd, w_ScLen, w_CV0, w_CS0, w_CV1, w_CS1, w_CV2, w_CS2, w_CV3, w_CS3, w_CV4, w_CS4, w_CV5, w_CS5, List.getElem?_cons_zero, List.getElem?_cons_succ, List.set_cons_zero, List.set_cons_succ, List.length_cons, List.length_nil, List.map_cons, List.map_nil, List.sum_cons, List.sum_nil, List.nil_append, List.cons_append, Option.toList_some, Option.toList_none, Value.category, xok, va_rf, true_and, and_true, and_self, Nat.reduceAdd, Nat.reduceLT, Nat.reduceLeDiff, Nat.reduceEqDiff, Nat.reduceMul, beq_self_eq_true, decide_true, ite_true, ite_false, if_true, if_false, reduceIte, Bool.true_eq_false, Bool.false_eq_true, eq_self_iff_true, Nat.zero_le, not_true_eq_false, not_false_eq_true, forall_const, false_implies, implies_true, forall_false, stI_C, stI_N, stI_Z, stI_S, stI_L, stI_R, stL_C, stL_N, stL_Z, stL_S, stL_I, stL_R, stR_C, stR_N, stR_Z, stR_S, stR_I, stR_L, stA_C, stA_N, stA_Z, stA_S, stA_L, stA_R, stI_I, stL_L, stR_R, stA_I, stN_C, stN_N, stN_Z, stN_S, stN_I, stN_L, stN_R, stI_ne, stL_ne, stR_ne, hM3.all, xin, p1, c1, l1, p3, c3, l3, c21, e1, e3, c23, ← hG4, g3, hM4.all, ne10, ne10L, ne01, ne01L, tt_imp, nt_imp, ff_imp, nf_imp, true_and, and_true, true_or, or_true, reduceIte]
      exact hgo
  /- the head -/
  obtain ⟨X, hX⟩ : ∃ X : XK, X = (xAld 0 (xIld 1 (xI (-1) (xicmp_eq k_Mdl_readLaw_53 (xAld 0 (xGetI 11 21 (xI 12 (xicmp_ge k_Mdl_readLaw_53 (xI 1 k_Mdl_readLaw_54))))))))) := ⟨_, rfl⟩
  have hf : ∀ K, f_Mdl_readLaw_4 K = (xIld 2 (xI 5 (xicmp_ge X (xAld 0 (xAld 0 (xGetR 11 33 (xIld 2 (xLaldh (xCallV 11 1 D_Mdl_isWord (xif_eq (xIld 1 (k_Mdl_readLaw_27 K)) (xIld 2 (k_Mdl_readLaw_27 K)))))))))))) := fun K => by rw [hX]; rfl
  have hloop : ∀ (m k : Nat) (its : Int32) (N : Nat), k + m = 5 → m < N → WP (xloop f_Mdl_readLaw_4 N) [some (.ref 70), some (.int its), some (.int (nI k)), none] [] G P = WP X [some (.ref 70), some (.int (match wIx b len p (hdsW.drop k) k with
      | some j => nI j
      | none => its)), some (.int (nI 5)), none] [] G P := by
    intro m
    induction m with
    | zero =>
      intro k its N hk hN
      obtain ⟨N1, rfl⟩ : ∃ N1, N = N1 + 1 := ⟨N - 1, by omega⟩
      have e : k = 5 := by omega
      subst e
      have g : (5 ≤ nI 5) = True := eq_true (by decide)
      rw [xloop_s, hf]
      simp only [w_iadd, w_isub, w_imul, w_iand, w_ior, w_ixor, w_ishl, w_ishr, w_iushr, w_idiv, w_irem, w_ineg, w_ladd, w_lsub, w_lmul, w_ldiv, w_lrem, w_i2l, w_l2i, w_i2c, w_lcmp, w_dup_int, w_pop_int, w_dup_ref, w_pop_ref, w_dup_retAddr, w_pop_retAddr, w_dup2, w_I, w_L, w_Null, w_Ild, w_Lld, w_Ald, w_Ist, w_Lst, w_Ast, w_Iinc, w_if_eq, w_icmp_eq, w_if_ne, w_icmp_ne, w_if_lt, w_icmp_lt, w_if_ge, w_icmp_ge, w_if_gt, w_icmp_gt, w_if_le, w_icmp_le, w_GetI, w_GetL, w_GetR, w_PutI, w_PutZ, w_PutL, w_PutR, w_PutN, w_Iald, w_Zald, w_Lald, w_Aald, w_Iast, w_Zast, w_Last, w_AastR, w_AastN, w_Alen, w_New, w_NewA, w_Mna, w_Iret, w_Zret, w_Cret, w_Bret, w_Lret, w_AretR, w_AretN, w_Vret, w_Obj, w_IfNN, w_IfNR, w_Copy, w_Cln, w_Cast, w_SfA, w_SfI, w_SfQ, w_Str, w_ScLd, w_ScLen, w_CV0, w_CS0, w_CV1, w_CS1, w_CV2, w_CS2, w_CV3, w_CS3, w_CV4, w_CS4, w_CV5, w_CS5, List.getElem?_cons_zero, List.getElem?_cons_succ, List.set_cons_zero, List.set_cons_succ, List.length_cons, List.length_nil, List.map_cons, List.map_nil, List.sum_cons, List.sum_nil, List.nil_append, List.cons_append, Option.toList_some, Option.toList_none, Value.category, xok, va_rf, true_and, and_true, and_self, Nat.reduceAdd, Nat.reduceLT, Nat.reduceLeDiff, Nat.reduceEqDiff, Nat.reduceMul, beq_self_eq_true, decide_true, ite_true, ite_false, if_true, if_false, reduceIte, Bool.true_eq_false, Bool.false_eq_true, eq_self_iff_true, Nat.zero_le, not_true_eq_false, not_false_eq_true, forall_const, false_implies, implies_true, forall_false, g, ne10, ne10L, ne01, ne01L, tt_imp, nt_imp, ff_imp, nf_imp, true_and, and_true, true_or, or_true, reduceIte]
      rfl
    | succ m ih =>
      intro k its N hk hN
      obtain ⟨N1, rfl⟩ : ∃ N1, N = N1 + 1 := ⟨N - 1, by omega⟩
      have g : (5 ≤ nI k) = False := eq_false (by rw [show (5 : Int32) = nI 5 from rfl, nl_le (by omega) (by omega)]; omega)
      obtain ⟨v, hv⟩ : ∃ v, v = hpL G 87 k := ⟨_, rfl⟩
      have hv2 : v = Int64.ofNat (wcd (hdsW.getD k [])) := by rw [hv]; exact h.2.1.2.2 k (by omega)
      have hv' := hv.symm
      have hs := fun Q => s_isWord h.1 (hdsW_wd k (by omega)) hv2 Q
      have ek : nI k + Int32.ofInt 1 = nI (k + 1) := nI_1 k
      have p1 : 0 ≤ nI (k) := nI_pos' (by omega)
      have c1 : (nI (k)).toNatClampNeg = k := nI_clamp (by omega)
      have l1 : k < 5 := by omega
      rw [xloop_s, hf, drop_at (show k < hdsW.length by show k < 5; omega), wIx]
      cases qq : isW b len (hdsW.getD k []) p with
      | true =>
        rw [qq] at hs
        rw [if_pos rfl]
        have := ih (k + 1) (nI k) N1 (by omega) (by omega)
        rw [wIx_no qq _ _ (nd_hdsW k (by omega))] at this
        simp only [k_Mdl_readLaw_27, w_iadd, w_isub, w_imul, w_iand, w_ior, w_ixor, w_ishl, w_ishr, w_iushr, w_idiv, w_irem, w_ineg, w_ladd, w_lsub, w_lmul, w_ldiv, w_lrem, w_i2l, w_l2i, w_i2c, w_lcmp, w_dup_int, w_pop_int, w_dup_ref, w_pop_ref, w_dup_retAddr, w_pop_retAddr, w_dup2, w_I, w_L, w_Null, w_Ild, w_Lld, w_Ald, w_Ist, w_Lst, w_Ast, w_Iinc, w_if_eq, w_icmp_eq, w_if_ne, w_icmp_ne, w_if_lt, w_icmp_lt, w_if_ge, w_icmp_ge, w_if_gt, w_icmp_gt, w_if_le, w_icmp_le, w_GetI, w_GetL, w_GetR, w_PutI, w_PutZ, w_PutL, w_PutR, w_PutN, w_Iald, w_Zald, w_Lald, w_Aald, w_Iast, w_Zast, w_Last, w_AastR, w_AastN, w_Alen, w_New, w_NewA, w_Mna, w_Iret, w_Zret, w_Cret, w_Bret, w_Lret, w_AretR, w_AretN, w_Vret, w_Obj, w_IfNN, w_IfNR, w_Copy, w_Cln, w_Cast, w_SfA, w_SfI, w_SfQ, w_Str, w_ScLd, w_ScLen, w_CV0, w_CS0, w_CV1, w_CS1, w_CV2, w_CS2, w_CV3, w_CS3, w_CV4, w_CS4, w_CV5, w_CS5, List.getElem?_cons_zero, List.getElem?_cons_succ, List.set_cons_zero, List.set_cons_succ, List.length_cons, List.length_nil, List.map_cons, List.map_nil, List.sum_cons, List.sum_nil, List.nil_append, List.cons_append, Option.toList_some, Option.toList_none, Value.category, xok, va_rf, true_and, and_true, and_self, Nat.reduceAdd, Nat.reduceLT, Nat.reduceLeDiff, Nat.reduceEqDiff, Nat.reduceMul, beq_self_eq_true, decide_true, ite_true, ite_false, if_true, if_false, reduceIte, Bool.true_eq_false, Bool.false_eq_true, eq_self_iff_true, Nat.zero_le, not_true_eq_false, not_false_eq_true, forall_const, false_implies, implies_true, forall_false, stI_C, stI_N, stI_Z, stI_S, stI_L, stI_R, stL_C, stL_N, stL_Z, stL_S, stL_I, stL_R, stR_C, stR_N, stR_Z, stR_S, stR_I, stR_L, stA_C, stA_N, stA_Z, stA_S, stA_L, stA_R, stI_I, stL_L, stR_R, stA_I, stN_C, stN_N, stN_Z, stN_S, stN_I, stN_L, stN_R, stI_ne, stL_ne, stR_ne, hM.all, g, xin, p1, c1, l1, hv', hs, ek, reduceIte, ne10, ne10L, ne01, ne01L, tt_imp, nt_imp, ff_imp, nf_imp, true_and, and_true, true_or, or_true, reduceIte]
        exact this
      | false =>
        rw [qq] at hs
        rw [if_neg Bool.false_ne_true, ← ih (k + 1) its N1 (by omega) (by omega)]
        simp only [k_Mdl_readLaw_27, w_iadd, w_isub, w_imul, w_iand, w_ior, w_ixor, w_ishl, w_ishr, w_iushr, w_idiv, w_irem, w_ineg, w_ladd, w_lsub, w_lmul, w_ldiv, w_lrem, w_i2l, w_l2i, w_i2c, w_lcmp, w_dup_int, w_pop_int, w_dup_ref, w_pop_ref, w_dup_retAddr, w_pop_retAddr, w_dup2, w_I, w_L, w_Null, w_Ild, w_Lld, w_Ald, w_Ist, w_Lst, w_Ast, w_Iinc, w_if_eq, w_icmp_eq, w_if_ne, w_icmp_ne, w_if_lt, w_icmp_lt, w_if_ge, w_icmp_ge, w_if_gt, w_icmp_gt, w_if_le, w_icmp_le, w_GetI, w_GetL, w_GetR, w_PutI, w_PutZ, w_PutL, w_PutR, w_PutN, w_Iald, w_Zald, w_Lald, w_Aald, w_Iast, w_Zast, w_Last, w_AastR, w_AastN, w_Alen, w_New, w_NewA, w_Mna, w_Iret, w_Zret, w_Cret, w_Bret, w_Lret, w_AretR, w_AretN, w_Vret, w_Obj, w_IfNN, w_IfNR, w_Copy, w_Cln, w_Cast, w_SfA, w_SfI, w_SfQ, w_Str, w_ScLd, w_ScLen, w_CV0, w_CS0, w_CV1, w_CS1, w_CV2, w_CS2, w_CV3, w_CS3, w_CV4, w_CS4, w_CV5, w_CS5, List.getElem?_cons_zero, List.getElem?_cons_succ, List.set_cons_zero, List.set_cons_succ, List.length_cons, List.length_nil, List.map_cons, List.map_nil, List.sum_cons, List.sum_nil, List.nil_append, List.cons_append, Option.toList_some, Option.toList_none, Value.category, xok, va_rf, true_and, and_true, and_self, Nat.reduceAdd, Nat.reduceLT, Nat.reduceLeDiff, Nat.reduceEqDiff, Nat.reduceMul, beq_self_eq_true, decide_true, ite_true, ite_false, if_true, if_false, reduceIte, Bool.true_eq_false, Bool.false_eq_true, eq_self_iff_true, Nat.zero_le, not_true_eq_false, not_false_eq_true, forall_const, false_implies, implies_true, forall_false, stI_C, stI_N, stI_Z, stI_S, stI_L, stI_R, stL_C, stL_N, stL_Z, stL_S, stL_I, stL_R, stR_C, stR_N, stR_Z, stR_S, stR_I, stR_L, stA_C, stA_N, stA_Z, stA_S, stA_L, stA_R, stI_I, stL_L, stR_R, stA_I, stN_C, stN_N, stN_Z, stN_S, stN_I, stN_L, stN_R, stI_ne, stL_ne, stR_ne, hM.all, g, xin, p1, c1, l1, hv', hs, ek, reduceIte, Bool.false_eq_true, ne10, ne10L, ne01, ne01L, tt_imp, nt_imp, ff_imp, nf_imp, true_and, and_true, true_or, or_true, reduceIte]
  rw [e_Mdl_readLaw]
  obtain ⟨m, hm, hk⟩ : ∃ m : Int32, m = -1 ∧ k_Mdl_readLaw_0 = (xI m (xIst 1 (xI 0 (xIst 2 k_Mdl_readLaw_4)))) := ⟨_, rfl, rfl⟩
  have hl := hloop 5 0 m NF rfl (by unfold NF; omega)
  rw [List.drop_zero, show (nI 0 : Int32) = 0 from rfl] at hl
  rw [hk]
  simp only [w_iadd, w_isub, w_imul, w_iand, w_ior, w_ixor, w_ishl, w_ishr, w_iushr, w_idiv, w_irem, w_ineg, w_ladd, w_lsub, w_lmul, w_ldiv, w_lrem, w_i2l, w_l2i, w_i2c, w_lcmp, w_dup_int, w_pop_int, w_dup_ref, w_pop_ref, w_dup_retAddr, w_pop_retAddr, w_dup2, w_I, w_L, w_Null, w_Ild, w_Lld, w_Ald, w_Ist, w_Lst, w_Ast, w_Iinc, w_if_eq, w_icmp_eq, w_if_ne, w_icmp_ne, w_if_lt, w_icmp_lt, w_if_ge, w_icmp_ge, w_if_gt, w_icmp_gt, w_if_le, w_icmp_le, w_GetI, w_GetL, w_GetR, w_PutI, w_PutZ, w_PutL, w_PutR, w_PutN, w_Iald, w_Zald, w_Lald, w_Aald, w_Iast, w_Zast, w_Last, w_AastR, w_AastN, w_Alen, w_New, w_NewA, w_Mna, w_Iret, w_Zret, w_Cret, w_Bret, w_Lret, w_AretR, w_AretN, w_Vret, w_Obj, w_IfNN, w_IfNR, w_Copy, w_Cln, w_Cast, w_SfA, w_SfI, w_SfQ, w_Str, w_ScLd, w_ScLen, w_CV0, w_CS0, w_CV1, w_CS1, w_CV2, w_CS2, w_CV3, w_CS3, w_CV4, w_CS4, w_CV5, w_CS5, List.getElem?_cons_zero, List.getElem?_cons_succ, List.set_cons_zero, List.set_cons_succ, List.length_cons, List.length_nil, List.map_cons, List.map_nil, List.sum_cons, List.sum_nil, List.nil_append, List.cons_append, Option.toList_some, Option.toList_none, Value.category, xok, va_rf, true_and, and_true, and_self, Nat.reduceAdd, Nat.reduceLT, Nat.reduceLeDiff, Nat.reduceEqDiff, Nat.reduceMul, beq_self_eq_true, decide_true, ite_true, ite_false, if_true, if_false, reduceIte, Bool.true_eq_false, Bool.false_eq_true, eq_self_iff_true, Nat.zero_le, not_true_eq_false, not_false_eq_true, forall_const, false_implies, implies_true, forall_false, ne10, ne10L, ne01, ne01L, tt_imp, nt_imp, ff_imp, nf_imp, true_and, and_true, true_or, or_true, reduceIte]
  unfold k_Mdl_readLaw_4
  rw [hl, hX]
  have gm : (m = -1) = True := eq_true hm
  clear hl hk hm
  cases hw : wIx b len p hdsW 0 with
  | none =>
    have e : R = .error p := by
      rw [hR]
      split
      · unfold gClause gHead
        rw [if_neg Bool.false_ne_true]
        unfold gLawH
        rw [hw]
      · rfl
    have := hbad m (nI 5) e
    simp only [k_Mdl_readLaw_53, w_iadd, w_isub, w_imul, w_iand, w_ior, w_ixor, w_ishl, w_ishr, w_iushr, w_idiv, w_irem, w_ineg, w_ladd, w_lsub, w_lmul, w_ldiv, w_lrem, w_i2l, w_l2i, w_i2c, w_lcmp, w_dup_int, w_pop_int, w_dup_ref, w_pop_ref, w_dup_retAddr, w_pop_retAddr, w_dup2, w_I, w_L, w_Null, w_Ild, w_Lld, w_Ald, w_Ist, w_Lst, w_Ast, w_Iinc, w_if_eq, w_icmp_eq, w_if_ne, w_icmp_ne, w_if_lt, w_icmp_lt, w_if_ge, w_icmp_ge, w_if_gt, w_icmp_gt, w_if_le, w_icmp_le, w_GetI, w_GetL, w_GetR, w_PutI, w_PutZ, w_PutL, w_PutR, w_PutN, w_Iald, w_Zald, w_Lald, w_Aald, w_Iast, w_Zast, w_Last, w_AastR, w_AastN, w_Alen, w_New, w_NewA, w_Mna, w_Iret, w_Zret, w_Cret, w_Bret, w_Lret, w_AretR, w_AretN, w_Vret, w_Obj, w_IfNN, w_IfNR, w_Copy, w_Cln, w_Cast, w_SfA, w_SfI, w_SfQ, w_Str, w_ScLd, w_ScLen, w_CV0, w_CS0, w_CV1, w_CS1, w_CV2, w_CS2, w_CV3, w_CS3, w_CV4, w_CS4, w_CV5, w_CS5, List.getElem?_cons_zero, List.getElem?_cons_succ, List.set_cons_zero, List.set_cons_succ, List.length_cons, List.length_nil, List.map_cons, List.map_nil, List.sum_cons, List.sum_nil, List.nil_append, List.cons_append, Option.toList_some, Option.toList_none, Value.category, xok, va_rf, true_and, and_true, and_self, Nat.reduceAdd, Nat.reduceLT, Nat.reduceLeDiff, Nat.reduceEqDiff, Nat.reduceMul, beq_self_eq_true, decide_true, ite_true, ite_false, if_true, if_false, reduceIte, Bool.true_eq_false, Bool.false_eq_true, eq_self_iff_true, Nat.zero_le, not_true_eq_false, not_false_eq_true, forall_const, false_implies, implies_true, forall_false, gm, ne10, ne10L, ne01, ne01L, tt_imp, nt_imp, ff_imp, nf_imp, true_and, and_true, true_or, or_true, reduceIte]
    exact this
  | some hd =>
    have hk := wIx_lt _ 0 hd (by decide) hw
    have hd5 : hd < 5 := by simpa [hdsW] using hk.2.2
    have gn : (nI hd = -1) = False := eq_false (nI_ne (by omega))
    by_cases n12 : n < 12
    · have g12 : ((12 : Int32) ≤ nI n) = False := eq_false (by rw [show (12 : Int32) = nI 12 from rfl, nl_le (by omega) (by omega)]; omega)
      have := hgood hd (nI 5) n12 hw
      simp only [w_iadd, w_isub, w_imul, w_iand, w_ior, w_ixor, w_ishl, w_ishr, w_iushr, w_idiv, w_irem, w_ineg, w_ladd, w_lsub, w_lmul, w_ldiv, w_lrem, w_i2l, w_l2i, w_i2c, w_lcmp, w_dup_int, w_pop_int, w_dup_ref, w_pop_ref, w_dup_retAddr, w_pop_retAddr, w_dup2, w_I, w_L, w_Null, w_Ild, w_Lld, w_Ald, w_Ist, w_Lst, w_Ast, w_Iinc, w_if_eq, w_icmp_eq, w_if_ne, w_icmp_ne, w_if_lt, w_icmp_lt, w_if_ge, w_icmp_ge, w_if_gt, w_icmp_gt, w_if_le, w_icmp_le, w_GetI, w_GetL, w_GetR, w_PutI, w_PutZ, w_PutL, w_PutR, w_PutN, w_Iald, w_Zald, w_Lald, w_Aald, w_Iast, w_Zast, w_Last, w_AastR, w_AastN, w_Alen, w_New, w_NewA, w_Mna, w_Iret, w_Zret, w_Cret, w_Bret, w_Lret, w_AretR, w_AretN, w_Vret, w_Obj, w_IfNN, w_IfNR, w_Copy, w_Cln, w_Cast, w_SfA, w_SfI, w_SfQ, w_Str, w_ScLd, w_ScLen, w_CV0, w_CS0, w_CV1, w_CS1, w_CV2, w_CS2, w_CV3, w_CS3, w_CV4, w_CS4, w_CV5, w_CS5, List.getElem?_cons_zero, List.getElem?_cons_succ, List.set_cons_zero, List.set_cons_succ, List.length_cons, List.length_nil, List.map_cons, List.map_nil, List.sum_cons, List.sum_nil, List.nil_append, List.cons_append, Option.toList_some, Option.toList_none, Value.category, xok, va_rf, true_and, and_true, and_self, Nat.reduceAdd, Nat.reduceLT, Nat.reduceLeDiff, Nat.reduceEqDiff, Nat.reduceMul, beq_self_eq_true, decide_true, ite_true, ite_false, if_true, if_false, reduceIte, Bool.true_eq_false, Bool.false_eq_true, eq_self_iff_true, Nat.zero_le, not_true_eq_false, not_false_eq_true, forall_const, false_implies, implies_true, forall_false, hM.all, gn, hnc, g12, ne10, ne10L, ne01, ne01L, tt_imp, nt_imp, ff_imp, nf_imp, true_and, and_true, true_or, or_true, reduceIte]
      exact this
    · have g12 : ((12 : Int32) ≤ nI n) = True := eq_true (by rw [show (12 : Int32) = nI 12 from rfl, nl_le (by omega) (by omega)]; omega)
      have := hbad (nI hd) (nI 5) (by rw [hR, if_neg n12])
      simp only [k_Mdl_readLaw_53, w_iadd, w_isub, w_imul, w_iand, w_ior, w_ixor, w_ishl, w_ishr, w_iushr, w_idiv, w_irem, w_ineg, w_ladd, w_lsub, w_lmul, w_ldiv, w_lrem, w_i2l, w_l2i, w_i2c, w_lcmp, w_dup_int, w_pop_int, w_dup_ref, w_pop_ref, w_dup_retAddr, w_pop_retAddr, w_dup2, w_I, w_L, w_Null, w_Ild, w_Lld, w_Ald, w_Ist, w_Lst, w_Ast, w_Iinc, w_if_eq, w_icmp_eq, w_if_ne, w_icmp_ne, w_if_lt, w_icmp_lt, w_if_ge, w_icmp_ge, w_if_gt, w_icmp_gt, w_if_le, w_icmp_le, w_GetI, w_GetL, w_GetR, w_PutI, w_PutZ, w_PutL, w_PutR, w_PutN, w_Iald, w_Zald, w_Lald, w_Aald, w_Iast, w_Zast, w_Last, w_AastR, w_AastN, w_Alen, w_New, w_NewA, w_Mna, w_Iret, w_Zret, w_Cret, w_Bret, w_Lret, w_AretR, w_AretN, w_Vret, w_Obj, w_IfNN, w_IfNR, w_Copy, w_Cln, w_Cast, w_SfA, w_SfI, w_SfQ, w_Str, w_ScLd, w_ScLen, w_CV0, w_CS0, w_CV1, w_CS1, w_CV2, w_CS2, w_CV3, w_CS3, w_CV4, w_CS4, w_CV5, w_CS5, List.getElem?_cons_zero, List.getElem?_cons_succ, List.set_cons_zero, List.set_cons_succ, List.length_cons, List.length_nil, List.map_cons, List.map_nil, List.sum_cons, List.sum_nil, List.nil_append, List.cons_append, Option.toList_some, Option.toList_none, Value.category, xok, va_rf, true_and, and_true, and_self, Nat.reduceAdd, Nat.reduceLT, Nat.reduceLeDiff, Nat.reduceEqDiff, Nat.reduceMul, beq_self_eq_true, decide_true, ite_true, ite_false, if_true, if_false, reduceIte, Bool.true_eq_false, Bool.false_eq_true, eq_self_iff_true, Nat.zero_le, not_true_eq_false, not_false_eq_true, forall_const, false_implies, implies_true, forall_false, hM.all, gn, hnc, g12, ne10, ne10L, ne01, ne01L, tt_imp, nt_imp, ff_imp, nf_imp, true_and, and_true, true_or, or_true, reduceIte]
      exact this
