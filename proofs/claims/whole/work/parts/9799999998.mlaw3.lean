def WRw : Nat → Nat → Bool := fun a _ => a == 72
theorem law_111 {K : XK} {Q : XR → Prop} {lw n : Nat} (hn : n ≤ 12) (hlw : lw ≤ 4680) {G0 : XH} (hM0 : MS G0) (h21 : hpI G0 70 21 = nI n) (hK : ∀ G', Fr WRw G0 G' → (∀ j, j < 8 * n → hpI G' 72 (lw + 2 + j) = hpI G0 80 j) → (∀ j, j < lw + 2 ∨ lw + 2 + 8 * n ≤ j → hpI G' 72 j = hpI G0 72 j) → WP k_Mdl_law_146 [some (.ref 70), some (.int (nI lw)), some (.int 0)] [] G' Q) : ∀ (m k : Nat) (G : XH) (N : Nat), k + m = 8 * n → Fr WRw G0 G → (∀ j, j < k → hpI G 72 (lw + 2 + j) = hpI G0 80 j) → (∀ j, j < lw + 2 ∨ lw + 2 + k ≤ j → hpI G 72 j = hpI G0 72 j) → m < N → WP (xloop f_Mdl_law_111 N) [some (.ref 70), some (.int (nI lw)), some (.int (nI k))] [] G Q := by
  have e8 : 8 * nI n = nI (8 * n) := nI_mul 8 n
  intro m
  induction m with
  | zero =>
    intro k G N hk f h1 h2 hN
    obtain ⟨N1, rfl⟩ : ∃ N1, N = N1 + 1 := ⟨N - 1, by omega⟩
    have hM := f.ms hM0
    have e : k = 8 * n := by omega
    subst e
    have g : (nI (8 * n) ≤ nI (8 * n)) = True := eq_true (Int32.le_refl _)
    have c21 : hpI G 70 21 = nI n := (f.I rfl).trans h21
    rw [xloop_s]
    simp only [f_Mdl_law_111, w_iadd, w_isub, w_imul, w_iand, w_ior, w_ixor, w_ishl, w_ishr, w_iushr, w_idiv, w_irem, w_ineg, w_ladd, w_lsub, w_lmul, w_ldiv, w_lrem, w_i2l, w_l2i, w_i2c, w_lcmp, w_dup_int, w_pop_int, w_dup_ref, w_pop_ref, w_dup_retAddr, w_pop_retAddr, w_dup2, w_I, w_L, w_Null, w_Ild, w_Lld, w_Ald, w_Ist, w_Lst, w_Ast, w_Iinc, w_if_eq, w_icmp_eq, w_if_ne, w_icmp_ne, w_if_lt, w_icmp_lt, w_if_ge, w_icmp_ge, w_if_gt, w_icmp_gt, w_if_le, w_icmp_le, w_GetI, w_GetL, w_GetR, w_PutI, w_PutZ, w_PutL, w_PutR, w_PutN, w_Iald, w_Zald, w_Lald, w_Aald, w_Iast, w_Zast, w_Last, w_AastR, w_AastN, w_Alen, w_New, w_NewA, w_Mna, w_Iret, w_Zret, w_Cret, w_Bret, w_Lret, w_AretR, w_AretN, w_Vret, w_Obj, w_IfNN, w_IfNR, w_Copy, w_Cln, w_Cast, w_SfA, w_SfI, w_SfQ, w_Str, w_ScLd, w_ScLen, w_CV0, w_CS0, w_CV1, w_CS1, w_CV2, w_CS2, w_CV3, w_CS3, w_CV4, w_CS4, w_CV5, w_CS5, List.getElem?_cons_zero, List.getElem?_cons_succ, List.set_cons_zero, List.set_cons_succ, List.length_cons, List.length_nil, List.map_cons, List.map_nil, List.sum_cons, List.sum_nil, List.nil_append, List.cons_append, Option.toList_some, Option.toList_none, Value.category, xok, va_rf, true_and, and_true, and_self, Nat.reduceAdd, Nat.reduceLT, Nat.reduceLeDiff, Nat.reduceEqDiff, Nat.reduceMul, beq_self_eq_true, decide_true, ite_true, ite_false, if_true, if_false, reduceIte, Bool.true_eq_false, Bool.false_eq_true, eq_self_iff_true, Nat.zero_le, not_true_eq_false, not_false_eq_true, forall_const, false_implies, implies_true, forall_false, stI_C, stI_N, stI_Z, stI_S, stI_L, stI_R, stL_C, stL_N, stL_Z, stL_S, stL_I, stL_R, stR_C, stR_N, stR_Z, stR_S, stR_I, stR_L, stA_C, stA_N, stA_Z, stA_S, stA_L, stA_R, stI_I, stL_L, stR_R, stA_I, stN_C, stN_N, stN_Z, stN_S, stN_I, stN_L, stN_R, stI_ne, stL_ne, stR_ne, hM.all, c21, e8, g, ne10, ne10L, ne01, ne01L, tt_imp, nt_imp, ff_imp, nf_imp, true_and, and_true, true_or, or_true, reduceIte]
    exact hK G f h1 h2
  | succ m ih =>
    intro k G N hk f h1 h2 hN
    obtain ⟨N1, rfl⟩ : ∃ N1, N = N1 + 1 := ⟨N - 1, by omega⟩
    have hM := f.ms hM0
    have g : (nI (8 * n) ≤ nI k) = False := eq_false (by rw [nl_le (by omega) (by omega)]; omega)
    have c21 : hpI G 70 21 = nI n := (f.I rfl).trans h21
    have ea : nI lw + 2 + nI k = nI (lw + 2 + k) := by rw [show (2 : Int32) = nI 2 from rfl, nI_add, nI_add]
    have ek : nI k + Int32.ofInt 1 = nI (k + 1) := nI_1 k
    have hv : hpI G 80 k = hpI G0 80 k := f.I rfl
    have p1 : 0 ≤ nI (lw + 2 + k) := nI_pos' (by omega)
    have c1 : (nI (lw + 2 + k)).toNatClampNeg = lw + 2 + k := nI_clamp (by omega)
    have l1 : lw + 2 + k < 5580 := by omega
    have p2 : 0 ≤ nI (k) := nI_pos' (by omega)
    have c2 : (nI (k)).toNatClampNeg = k := nI_clamp (by omega)
    have l2 : k < 96 := by omega
    rw [xloop_s]
    simp only [f_Mdl_law_111, w_iadd, w_isub, w_imul, w_iand, w_ior, w_ixor, w_ishl, w_ishr, w_iushr, w_idiv, w_irem, w_ineg, w_ladd, w_lsub, w_lmul, w_ldiv, w_lrem, w_i2l, w_l2i, w_i2c, w_lcmp, w_dup_int, w_pop_int, w_dup_ref, w_pop_ref, w_dup_retAddr, w_pop_retAddr, w_dup2, w_I, w_L, w_Null, w_Ild, w_Lld, w_Ald, w_Ist, w_Lst, w_Ast, w_Iinc, w_if_eq, w_icmp_eq, w_if_ne, w_icmp_ne, w_if_lt, w_icmp_lt, w_if_ge, w_icmp_ge, w_if_gt, w_icmp_gt, w_if_le, w_icmp_le, w_GetI, w_GetL, w_GetR, w_PutI, w_PutZ, w_PutL, w_PutR, w_PutN, w_Iald, w_Zald, w_Lald, w_Aald, w_Iast, w_Zast, w_Last, w_AastR, w_AastN, w_Alen, w_New, w_NewA, w_Mna, w_Iret, w_Zret, w_Cret, w_Bret, w_Lret, w_AretR, w_AretN, w_Vret, w_Obj, w_IfNN, w_IfNR, w_Copy, w_Cln, w_Cast, w_SfA, w_SfI, w_SfQ, w_Str, w_ScLd, w_ScLen, w_CV0, w_CS0, w_CV1, w_CS1, w_CV2, w_CS2, w_CV3, w_CS3, w_CV4, w_CS4, w_CV5, w_CS5, List.getElem?_cons_zero, List.getElem?_cons_succ, List.set_cons_zero, List.set_cons_succ, List.length_cons, List.length_nil, List.map_cons, List.map_nil, List.sum_cons, List.sum_nil, List.nil_append, List.cons_append, Option.toList_some, Option.toList_none, Value.category, xok, va_rf, true_and, and_true, and_self, Nat.reduceAdd, Nat.reduceLT, Nat.reduceLeDiff, Nat.reduceEqDiff, Nat.reduceMul, beq_self_eq_true, decide_true, ite_true, ite_false, if_true, if_false, reduceIte, Bool.true_eq_false, Bool.false_eq_true, eq_self_iff_true, Nat.zero_le, not_true_eq_false, not_false_eq_true, forall_const, false_implies, implies_true, forall_false, stI_C, stI_N, stI_Z, stI_S, stI_L, stI_R, stL_C, stL_N, stL_Z, stL_S, stL_I, stL_R, stR_C, stR_N, stR_Z, stR_S, stR_I, stR_L, stA_C, stA_N, stA_Z, stA_S, stA_L, stA_R, stI_I, stL_L, stR_R, stA_I, stN_C, stN_N, stN_Z, stN_S, stN_I, stN_L, stN_R, stI_ne, stL_ne, stR_ne, hM.all, c21, e8, g, ea, xin, p1, c1, l1, p2, c2, l2, ek, ne10, ne10L, ne01, ne01L, tt_imp, nt_imp, ff_imp, nf_imp, true_and, and_true, true_or, or_true, reduceIte]
    refine ih (k + 1) _ N1 (by omega) (f.wI rfl) (fun j hj => ?_) (fun j hj => ?_) (by omega)
    · rw [stI_up, hpI_stA]
      rcases (show j < k ∨ j = k by omega) with y | y
      · rw [up_ne (by omega)]; exact h1 j y
      · rw [y, up_eq]; exact hv
    · rw [stI_up, hpI_stA, up_ne (by omega)]
      exact h2 j (by omega)
theorem law_146 {K : XK} {Q : XR → Prop} {lw q : Nat} (hq : q ≤ 400) (hlw : lw ≤ 4680) {G0 : XH} (hM0 : MS G0) (h23 : hpI G0 70 23 = nI q) {X : XK} (hX : ∀ K, f_Mdl_law_146 K = (xIld 2 (xAld 0 (xGetI 11 23 (xicmp_ge X (xAld 0 (xGetR 11 3 (xIld 1 (xI 98 (xiadd (xI 2 (xIld 2 (ximul (xiadd (xAld 0 (xGetR 11 24 (xIld 2 (xIaldh (xIasth (xAld 0 (xGetR 11 3 (xIld 1 (xI 98 (xiadd (xI 2 (xIld 2 (ximul (xiadd (xI 1 (xiadd (xAld 0 (xGetR 11 25 (xIld 2 (xIaldh (xIasth (xIinc 2 1 K)))))))))))))))))))))))))))))))))))) (hK : ∀ G', Fr WRw G0 G' → (∀ j, j < q → hpI G' 72 (lw + 98 + 2 * j) = hpI G0 81 j ∧ hpI G' 72 (lw + 98 + 2 * j + 1) = hpI G0 82 j) → (∀ j, j < lw + 98 ∨ lw + 98 + 2 * q ≤ j → hpI G' 72 j = hpI G0 72 j) → WP X [some (.ref 70), some (.int (nI lw)), some (.int (nI q))] [] G' Q) : ∀ (m k : Nat) (G : XH) (N : Nat), k + m = q → Fr WRw G0 G → (∀ j, j < k → hpI G 72 (lw + 98 + 2 * j) = hpI G0 81 j ∧ hpI G 72 (lw + 98 + 2 * j + 1) = hpI G0 82 j) → (∀ j, j < lw + 98 ∨ lw + 98 + 2 * k ≤ j → hpI G 72 j = hpI G0 72 j) → m < N → WP (xloop f_Mdl_law_146 N) [some (.ref 70), some (.int (nI lw)), some (.int (nI k))] [] G Q := by
  intro m
  induction m with
  | zero =>
    intro k G N hk f h1 h2 hN
    obtain ⟨N1, rfl⟩ : ∃ N1, N = N1 + 1 := ⟨N - 1, by omega⟩
    have hM := f.ms hM0
    have e : k = q := by omega
    subst e
    have g : (nI k ≤ nI k) = True := eq_true (Int32.le_refl _)
    have c23 : hpI G 70 23 = nI k := (f.I rfl).trans h23
    rw [xloop_s, hX]
    simp only [w_iadd, w_isub, w_imul, w_iand, w_ior, w_ixor, w_ishl, w_ishr, w_iushr, w_idiv, w_irem, w_ineg, w_ladd, w_lsub, w_lmul, w_ldiv, w_lrem, w_i2l, w_l2i, w_i2c, w_lcmp, w_dup_int, w_pop_int, w_dup_ref, w_pop_ref, w_dup_retAddr, w_pop_retAddr, w_dup2, w_I, w_L, w_Null, w_Ild, w_Lld, w_Ald, w_Ist, w_Lst, w_Ast, w_Iinc, w_if_eq, w_icmp_eq, w_if_ne, w_icmp_ne, w_if_lt, w_icmp_lt, w_if_ge, w_icmp_ge, w_if_gt, w_icmp_gt, w_if_le, w_icmp_le, w_GetI, w_GetL, w_GetR, w_PutI, w_PutZ, w_PutL, w_PutR, w_PutN, w_Iald, w_Zald, w_Lald, w_Aald, w_Iast, w_Zast, w_Last, w_AastR, w_AastN, w_Alen, w_New, w_NewA, w_Mna, w_Iret, w_Zret, w_Cret, w_Bret, w_Lret, w_AretR, w_AretN, w_Vret, w_Obj, w_IfNN, w_IfNR, w_Copy, w_Cln, w_Cast, w_SfA, w_SfI, w_SfQ, w_Str, w_ScLd, w_ScLen, w_CV0, w_CS0, w_CV1, w_CS1, w_CV2, w_CS2, w_CV3, w_CS3, w_CV4, w_CS4, w_CV5, w_CS5, List.getElem?_cons_zero, List.getElem?_cons_succ, List.set_cons_zero, List.set_cons_succ, List.length_cons, List.length_nil, List.map_cons, List.map_nil, List.sum_cons, List.sum_nil, List.nil_append, List.cons_append, Option.toList_some, Option.toList_none, Value.category, xok, va_rf, true_and, and_true, and_self, Nat.reduceAdd, Nat.reduceLT, Nat.reduceLeDiff, Nat.reduceEqDiff, Nat.reduceMul, beq_self_eq_true, decide_true, ite_true, ite_false, if_true, if_false, reduceIte, Bool.true_eq_false, Bool.false_eq_true, eq_self_iff_true, Nat.zero_le, not_true_eq_false, not_false_eq_true, forall_const, false_implies, implies_true, forall_false, stI_C, stI_N, stI_Z, stI_S, stI_L, stI_R, stL_C, stL_N, stL_Z, stL_S, stL_I, stL_R, stR_C, stR_N, stR_Z, stR_S, stR_I, stR_L, stA_C, stA_N, stA_Z, stA_S, stA_L, stA_R, stI_I, stL_L, stR_R, stA_I, stN_C, stN_N, stN_Z, stN_S, stN_I, stN_L, stN_R, stI_ne, stL_ne, stR_ne, hM.all, c23, g, ne10, ne10L, ne01, ne01L, tt_imp, nt_imp, ff_imp, nf_imp, true_and, and_true, true_or, or_true, reduceIte]
    exact hK G f h1 h2
  | succ m ih =>
    intro k G N hk f h1 h2 hN
    obtain ⟨N1, rfl⟩ : ∃ N1, N = N1 + 1 := ⟨N - 1, by omega⟩
    have hM := f.ms hM0
    have g : (nI q ≤ nI k) = False := eq_false (by rw [nl_le (by omega) (by omega)]; omega)
    have c23 : hpI G 70 23 = nI q := (f.I rfl).trans h23
    have ea : nI lw + 98 + 2 * nI k = nI (lw + 98 + 2 * k) := by rw [show (2 : Int32) = nI 2 from rfl, show (98 : Int32) = nI 98 from rfl, nI_add, nI_mul, nI_add]
    have eb : nI (lw + 98 + 2 * k) + 1 = nI (lw + 98 + 2 * k + 1) := nI_add _ 1
    have ek : nI k + Int32.ofInt 1 = nI (k + 1) := nI_1 k
    have hv : hpI G 81 k = hpI G0 81 k := f.I rfl
    have hv2 : hpI G 82 k = hpI G0 82 k := f.I rfl
    have p1 : 0 ≤ nI (lw + 98 + 2 * k) := nI_pos' (by omega)
    have c1 : (nI (lw + 98 + 2 * k)).toNatClampNeg = lw + 98 + 2 * k := nI_clamp (by omega)
    have l1 : lw + 98 + 2 * k < 5580 := by omega
    have p2 : 0 ≤ nI (k) := nI_pos' (by omega)
    have c2 : (nI (k)).toNatClampNeg = k := nI_clamp (by omega)
    have l2 : k < 400 := by omega
    have p3 : 0 ≤ nI (lw + 98 + 2 * k + 1) := nI_pos' (by omega)
    have c3 : (nI (lw + 98 + 2 * k + 1)).toNatClampNeg = lw + 98 + 2 * k + 1 := nI_clamp (by omega)
    have l3 : lw + 98 + 2 * k + 1 < 5580 := by omega
    obtain ⟨G1, hG1⟩ : ∃ G1, G1 = stI G 72 (lw + 98 + 2 * k) (hpI G 81 k) := ⟨_, rfl⟩
    have fr1 : Fr WRw G G1 := by rw [hG1]; exact Fr.refl.wI rfl
    have hM1 := fr1.ms hM
    have hv3 : hpI G1 82 k = hpI G 82 k := fr1.I rfl
    rw [xloop_s, hX]
    simp only [w_iadd, w_isub, w_imul, w_iand, w_ior, w_ixor, w_ishl, w_ishr, w_iushr, w_idiv, w_irem, w_ineg, w_ladd, w_lsub, w_lmul, w_ldiv, w_lrem, w_i2l, w_l2i, w_i2c, w_lcmp, w_dup_int, w_pop_int, w_dup_ref, w_pop_ref, w_dup_retAddr, w_pop_retAddr, w_dup2, w_I, w_L, w_Null, w_Ild, w_Lld, w_Ald, w_Ist, w_Lst, w_Ast, w_Iinc, w_if_eq, w_icmp_eq, w_if_ne, w_icmp_ne, w_if_lt, w_icmp_lt, w_if_ge, w_icmp_ge, w_if_gt, w_icmp_gt, w_if_le, w_icmp_le, w_GetI, w_GetL, w_GetR, w_PutI, w_PutZ, w_PutL, w_PutR, w_PutN, w_Iald, w_Zald, w_Lald, w_Aald, w_Iast, w_Zast, w_Last, w_AastR, w_AastN, w_Alen, w_New, w_NewA, w_Mna, w_Iret, w_Zret, w_Cret, w_Bret, w_Lret, w_AretR, w_AretN, w_Vret, w_Obj, w_IfNN, w_IfNR, w_Copy, w_Cln, w_Cast, w_SfA, w_SfI, w_SfQ, w_Str, w_ScLd, w_ScLen, w_CV0, w_CS0, w_CV1, w_CS1, w_CV2, w_CS2, w_CV3, w_CS3, w_CV4, w_CS4, w_CV5, w_CS5, List.getElem?_cons_zero, List.getElem?_cons_succ, List.set_cons_zero, List.set_cons_succ, List.length_cons, List.length_nil, List.map_cons, List.map_nil, List.sum_cons, List.sum_nil, List.nil_append, List.cons_append, Option.toList_some, Option.toList_none, Value.category, xok, va_rf, true_and, and_true, and_self, Nat.reduceAdd, Nat.reduceLT, Nat.reduceLeDiff, Nat.reduceEqDiff, Nat.reduceMul, beq_self_eq_true, decide_true, ite_true, ite_false, if_true, if_false, reduceIte, Bool.true_eq_false, Bool.false_eq_true, eq_self_iff_true, Nat.zero_le, not_true_eq_false, not_false_eq_true, forall_const, false_implies, implies_true, forall_false, stI_C, stI_N, stI_Z, stI_S, stI_L, stI_R, stL_C, stL_N, stL_Z, stL_S, stL_I, stL_R, stR_C, stR_N, stR_Z, stR_S, stR_I, stR_L, stA_C, stA_N, stA_Z, stA_S, stA_L, stA_R, stI_I, stL_L, stR_R, stA_I, stN_C, stN_N, stN_Z, stN_S, stN_I, stN_L, stN_R, stI_ne, stL_ne, stR_ne, hM.all, c23, g, ea, eb, xin, p1, c1, l1, p2, c2, l2, p3, c3, l3, ek, ← hG1, hM1.all, ne10, ne10L, ne01, ne01L, tt_imp, nt_imp, ff_imp, nf_imp, true_and, and_true, true_or, or_true, reduceIte]
    refine ih (k + 1) _ N1 (by omega) ((f.trans fr1).wI rfl) (fun j hj => ?_) (fun j hj => ?_) (by omega)
    · rw [stI_up, hpI_stA, hG1, stI_up, hpI_stA]
      rcases (show j < k ∨ j = k by omega) with y | y
      · rw [up_ne (by omega), up_ne (by omega), up_ne (by omega), up_ne (by omega)]
        exact h1 j y
      · rw [y, up_ne (by omega), up_eq, up_eq]
        refine ⟨hv, ?_⟩
        rw [← hv2]
        rw [hpI_stA_ne (by decide)]
    · rw [stI_up, hpI_stA, up_ne (by omega), hG1, stI_up, hpI_stA, up_ne (by omega)]
      exact h2 j (by omega)
/-- what every text's clauses are -/
def CLk (od : Bool) (cl : CLd) : Prop := VB (if od then 21 else 10) cl.2.1 ∧ VT cl.2.2.2.2 ∧ (∀ f, cl.2.2.1 = some f → VB (if od then 21 else 10) f)
theorem VB_f1 {n : Nat} : VB n f1 := by
  intro e v _ h
  injection h with h
  rw [← h, BIG_64]
  decide
theorem VT_f1 : VT f1 := fun _ => Or.inr (Or.inr rfl)
theorem gTimes_ok {b : Nat → Nat} {len q c kd : Nat} {sm : SF} {wt : Option SF} {h : Nat × Nat × Nat × SF × Option SF × Nat} (e : gTimes b len q c kd sm wt = .ok h) : h.2.2.2.1 = sm ∧ h.2.2.2.2.1 = wt ∧ h.2.2.1 = kd ∧ 1 ≤ h.2.2.2.2.2 ∧ h.2.2.2.2.2 ≤ 20 := by
  unfold gTimes at e
  split at e
  · cases hn : nuO b len (nxB b len q) with
    | none => rw [hn] at e; cases e
    | some v =>
      rw [hn] at e
      dsimp only at e
      split at e
      · next z => cases e; exact ⟨rfl, rfl, rfl, z.1, z.2⟩
      · cases e
  · cases e
    exact ⟨rfl, rfl, rfl, by show 1 ≤ 1; omega, by show 1 ≤ 20; omega⟩
theorem gHead_ok {b : Nat → Nat} {len p c : Nat} {od : Bool} (hp : p ≤ len) {h : Nat × Nat × Nat × SF × Option SF × Nat} (e : gHead b len od p c = .ok h) : VB (if od then 21 else 10) h.2.2.2.1 ∧ (∀ f, h.2.2.2.2.1 = some f → VB (if od then 21 else 10) f) := by
  unfold gHead at e
  have hs : ∀ p c s, p ≤ len → gSum b len od 8 p c = .ok s → VB (if od then 21 else 10) s.2.2 := by
    intro p c s hp e
    have := gSum_ok (b := b) (len := len) (od := od) rfl 8 p c hp
    rw [e] at this
    exact this.2.2.2.2
  cases od with
  | false =>
    rw [if_neg Bool.false_ne_true] at e
    unfold gLawH at e
    cases hw : wIx b len p hdsW 0 with
    | none => rw [hw] at e; cases e
    | some k =>
      rw [hw] at e
      dsimp only at e
      split at e
      · cases hg : gSum b len false 8 (nxB b len p) c with
        | error x => rw [hg] at e; cases e
        | ok s =>
          rw [hg] at e
          cases e
          exact ⟨hs _ _ s nxB_le.1 hg, fun f hf => by cases hf⟩
      · cases e
        exact ⟨VB_f1, fun f hf => by cases hf⟩
  | true =>
    rw [if_pos rfl] at e
    unfold gOrdH at e
    split at e
    · cases hg : gSum b len true 8 (nxB b len p) c with
      | error x => rw [hg] at e; cases e
      | ok s =>
        rw [hg] at e
        dsimp only at e
        have h1 := hs _ _ s nxB_le.1 hg
        unfold gHandB at e
        split at e
        · cases hg2 : gSum b len true 8 (nxB b len s.1) s.2.1 with
          | error x => rw [hg2] at e; cases e
          | ok s2 =>
            rw [hg2] at e
            dsimp only at e
            have h2 := hs _ _ s2 nxB_le.1 hg2
            obtain ⟨z1, z2, _⟩ := gTimes_ok e
            rw [z1, z2]
            exact ⟨h1, fun f hf => by cases hf; exact h2⟩
        · obtain ⟨z1, z2, _⟩ := gTimes_ok e
          rw [z1, z2]
          exact ⟨h1, fun f hf => by cases hf⟩
    · split at e
      · obtain ⟨z1, z2, _⟩ := gTimes_ok e
        rw [z1, z2]
        exact ⟨VB_f1, fun f hf => by cases hf⟩
      · cases e
theorem gClause_ok {b : Nat → Nat} {len p c : Nat} {od : Bool} (hp : p ≤ len) {r : Nat × Nat × CLd} (e : gClause b len od p c = .ok r) : CLk od r.2.2 := by
  unfold gClause at e
  cases hg : gHead b len od p c with
  | error x => rw [hg] at e; cases e
  | ok h =>
    rw [hg] at e
    dsimp only at e
    obtain ⟨z1, z2⟩ := gHead_ok hp hg
    split at e
    · cases ht : gTest b len od 8 (nxB b len h.1) h.2.1 with
      | error x => rw [ht] at e; cases e
      | ok s =>
        rw [ht] at e
        cases e
        have := gTest_ok (b := b) (len := len) (od := od) 8 (nxB b len h.1) h.2.1 nxB_le.1
        rw [ht] at this
        exact ⟨z1, this.2.2.2.2, z2⟩
    · cases e
      exact ⟨z1, VT_f1, z2⟩
theorem gTx_ok {b : Nat → Nat} {len : Nat} {od : Bool} : ∀ m p c (L : List CLd) (L' : List CLd), p ≤ len → (∀ i, i < L.length → CLk od (L.getD i clD)) → gTx b len od m p c L = .ok L' → ∀ i, i < L'.length → CLk od (L'.getD i clD)
  | 0, _, _, _, _, _, _, e => by rw [gTx] at e; cases e
  | m + 1, p, c, L, L', hp, hL, e => by
    rw [gTx] at e
    cases hg : gClause b len od p c with
    | error x => rw [hg] at e; cases e
    | ok r =>
      rw [hg] at e
      dsimp only at e
      have h1 := gClause_ok hp hg
      have h2 : ∀ i, i < (L ++ [r.2.2]).length → CLk od ((L ++ [r.2.2]).getD i clD) := by
        intro i hi
        rw [List.length_append, List.length_singleton] at hi
        rcases (show i < L.length ∨ i = L.length by omega) with y | y
        · rw [getD_app y]; exact hL i y
        · rw [y, getD_last]; exact h1
      split at e
      · cases e; exact h2
      · split at e
        · exact gTx_ok m _ _ _ L' nxB_le.1 h2 e
        · cases e
theorem gText_ok {b : Nat → Nat} {len : Nat} {od : Bool} {L : List CLd} (e : gText b len od = .ok L) : ∀ i, i < L.length → CLk od (L.getD i clD) := gTx_ok 12 _ 0 [] L (skB_le (Nat.zero_le _)).2 (fun i hi => absurd hi (by simp)) e
