theorem mc_109 {G : XH} (hC : CS G) {Q : XR → Prop} {K : XK} {x1 x2 x3 x4 x5 x9 x10 x11 x13 : Option Value} {x6 x8 : Int32} {x : Int64} {r : List Int64} {R : Nat → Int64} (hl : r.length < 64) (hR : R r.length = x) : WP (k_Machine_run_109 K) [some (.ref 54), x1, x2, x3, x4, x5, some (.int x6), some (.int (nI (r.length + 1))), some (.int x8), x9, x10, x11, none, x13, none] [] (stM G 55 R) Q = WP (k_Machine_run_127 K) [some (.ref 54), x1, x2, x3, x4, x5, some (.int x6), some (.int (nI (r.length + 1))), some (.int x8), x9, x10, x11, none, x13, none] [.long x] (stM G 55 R) Q := by
  have eP : nI (r.length + 1) - 1 = nI r.length := nI_sub (a := r.length + 1) (b := 1) (by omega)
  have g : ¬ nI (r.length + 1) ≤ 0 := fun q => absurd ((nI_leI (b := 0) (by omega) (by decide)).mp q) (by omega)
  have p1 : 0 ≤ nI (r.length) := nI_pos' (by omega)
  have c1 : (nI (r.length)).toNatClampNeg = r.length := nI_clamp (by omega)
  have l1 : r.length < 64 := by omega
  simp only [k_Machine_run_109, w_iadd, w_isub, w_imul, w_iand, w_ior, w_ixor, w_ishl, w_ishr, w_iushr, w_idiv, w_irem, w_ineg, w_ladd, w_lsub, w_lmul, w_ldiv, w_lrem, w_i2l, w_l2i, w_i2c, w_lcmp, w_dup_int, w_pop_int, w_dup_ref, w_pop_ref, w_dup_retAddr, w_pop_retAddr, w_dup2, w_I, w_L, w_Null, w_Ild, w_Lld, w_Ald, w_Ist, w_Lst, w_Ast, w_Iinc, w_if_eq, w_icmp_eq, w_if_ne, w_icmp_ne, w_if_lt, w_icmp_lt, w_if_ge, w_icmp_ge, w_if_gt, w_icmp_gt, w_if_le, w_icmp_le, w_GetI, w_GetL, w_GetR, w_PutI, w_PutZ, w_PutL, w_PutR, w_PutN, w_Iald, w_Zald, w_Lald, w_Aald, w_Iast, w_Zast, w_Last, w_AastR, w_AastN, w_Alen, w_New, w_NewA, w_Mna, w_Iret, w_Zret, w_Cret, w_Bret, w_Lret, w_AretR, w_AretN, w_Vret, w_Obj, w_IfNN, w_IfNR, w_Copy, w_Cln, w_Cast, w_SfA, w_SfI, w_SfQ, w_Str, w_ScLd, w_ScLen, w_CV0, w_CS0, w_CV1, w_CS1, w_CV2, w_CS2, w_CV3, w_CS3, w_CV4, w_CS4, w_CV5, w_CS5, List.getElem?_cons_zero, List.getElem?_cons_succ, List.set_cons_zero, List.set_cons_succ, List.length_cons, List.length_nil, List.map_cons, List.map_nil, List.sum_cons, List.sum_nil, List.nil_append, List.cons_append, Option.toList_some, Option.toList_none, Value.category, xok, va_rf, true_and, and_true, and_self, Nat.reduceAdd, Nat.reduceLT, Nat.reduceLeDiff, Nat.reduceEqDiff, Nat.reduceMul, beq_self_eq_true, decide_true, ite_true, ite_false, if_true, if_false, reduceIte, Bool.true_eq_false, Bool.false_eq_true, eq_self_iff_true, Nat.zero_le, not_true_eq_false, not_false_eq_true, forall_const, false_implies, implies_true, forall_false, stM_C, stM_N, stM_R, hC.all, eP, xin, p1, c1, l1, g, hpL_stM, hR]
theorem mc_not {G : XH} (hC : CS G) {Q : XR → Prop} {K : XK} {I : Nat → Nat × Nat} {env : Nat → Int64} {k : Nat} {st : List Int64} {R : Nat → Int64} {x1 x2 x3 x11 x13 : Option Value} {wa : Nat} {x6 x8 : Int32} (i0 : (I k).1 = 10) (hR : RS R st) {y : Option (Nat × List Int64)} (hy : mst I env k st = some y)
    (h : mK G Q K (some (.ref 54)) x1 x2 x3 (some (.ref wa)) x6 x8 (some (.int (nI (I k).1))) (some (.int (nI (I k).2))) y) :
    WP (k_Machine_run_109 K) [some (.ref 54), x1, x2, x3, some (.ref wa), some (.int (nI (k + 1))), some (.int x6), some (.int (nI st.length)), some (.int x8), some (.int (nI (I k).1)), some (.int (nI (I k).2)), x11, none, x13, none] [] (stM G 55 R) Q := by
  have hl := mc_len hy
  have hl' : ¬ 64 ≤ st.length := by omega
  cases st with
  | nil =>
    unfold mst at hy
    rw [if_neg hl', if_neg (by omega), if_neg (by omega)] at hy
    cases hy
  | cons x r =>
    simp only [List.length_cons] at hl hl'
    rw [List.length_cons, mc_109 hC (by omega) hR.1]
    have eP : nI (r.length + 1) - 1 = nI r.length := nI_sub (a := r.length + 1) (b := 1) (by omega)
    have p1 : 0 ≤ nI (r.length) := nI_pos' (by omega)
    have c1 : (nI (r.length)).toNatClampNeg = r.length := nI_clamp (by omega)
    have l1 : r.length < 64 := by omega
    have hy' : y = some (k + 1, (1 - x) :: r) := by
      unfold mst at hy
      simp only [List.length_cons, hl', if_false, i0, if_true, show ¬ 10 = 0 by decide, show ¬ 10 = 1 by decide] at hy
      exact (Option.some.inj hy).symm
    have h1 := h.2 _ hy' (fun j => if j = r.length then 1 - x else R j)
    have c0 : nI 10 = 10 := rfl
    have g1 : (1 : Int32) < 10 := by decide
    have g2 : ((10 : Int32) = 10) = True := by decide
    simp only [i0, c0] at h1 ⊢
    simp only [k_Machine_run_127, w_iadd, w_isub, w_imul, w_iand, w_ior, w_ixor, w_ishl, w_ishr, w_iushr, w_idiv, w_irem, w_ineg, w_ladd, w_lsub, w_lmul, w_ldiv, w_lrem, w_i2l, w_l2i, w_i2c, w_lcmp, w_dup_int, w_pop_int, w_dup_ref, w_pop_ref, w_dup_retAddr, w_pop_retAddr, w_dup2, w_I, w_L, w_Null, w_Ild, w_Lld, w_Ald, w_Ist, w_Lst, w_Ast, w_Iinc, w_if_eq, w_icmp_eq, w_if_ne, w_icmp_ne, w_if_lt, w_icmp_lt, w_if_ge, w_icmp_ge, w_if_gt, w_icmp_gt, w_if_le, w_icmp_le, w_GetI, w_GetL, w_GetR, w_PutI, w_PutZ, w_PutL, w_PutR, w_PutN, w_Iald, w_Zald, w_Lald, w_Aald, w_Iast, w_Zast, w_Last, w_AastR, w_AastN, w_Alen, w_New, w_NewA, w_Mna, w_Iret, w_Zret, w_Cret, w_Bret, w_Lret, w_AretR, w_AretN, w_Vret, w_Obj, w_IfNN, w_IfNR, w_Copy, w_Cln, w_Cast, w_SfA, w_SfI, w_SfQ, w_Str, w_ScLd, w_ScLen, w_CV0, w_CS0, w_CV1, w_CS1, w_CV2, w_CS2, w_CV3, w_CS3, w_CV4, w_CS4, w_CV5, w_CS5, List.getElem?_cons_zero, List.getElem?_cons_succ, List.set_cons_zero, List.set_cons_succ, List.length_cons, List.length_nil, List.map_cons, List.map_nil, List.sum_cons, List.sum_nil, List.nil_append, List.cons_append, Option.toList_some, Option.toList_none, Value.category, xok, va_rf, true_and, and_true, and_self, Nat.reduceAdd, Nat.reduceLT, Nat.reduceLeDiff, Nat.reduceEqDiff, Nat.reduceMul, beq_self_eq_true, decide_true, ite_true, ite_false, if_true, if_false, reduceIte, Bool.true_eq_false, Bool.false_eq_true, eq_self_iff_true, Nat.zero_le, not_true_eq_false, not_false_eq_true, forall_const, false_implies, implies_true, forall_false, stM_C, stM_N, stM_R, stM_I, hC.all, g1, g2, xin, p1, c1, l1, stL_stM, eP]
    exact h1 _ _ ⟨by simp, RS_up r (Nat.le_refl _) hR.2⟩
theorem mc_orr {G : XH} (hC : CS G) {Q : XR → Prop} {K : XK} {I : Nat → Nat × Nat} {env : Nat → Int64} {k : Nat} {st : List Int64} {R : Nat → Int64} {x1 x2 x3 x11 x13 : Option Value} {wa : Nat} {x6 x8 : Int32} (i0 : (I k).1 = 11) (hR : RS R st) {y : Option (Nat × List Int64)} (hy : mst I env k st = some y)
    (h : mK G Q K (some (.ref 54)) x1 x2 x3 (some (.ref wa)) x6 x8 (some (.int (nI (I k).1))) (some (.int (nI (I k).2))) y) :
    WP (k_Machine_run_109 K) [some (.ref 54), x1, x2, x3, some (.ref wa), some (.int (nI (k + 1))), some (.int x6), some (.int (nI st.length)), some (.int x8), some (.int (nI (I k).1)), some (.int (nI (I k).2)), x11, none, x13, none] [] (stM G 55 R) Q := by
  have hl := mc_len hy
  have hl' : ¬ 64 ≤ st.length := by omega
  cases st with
  | nil =>
    unfold mst at hy
    rw [if_neg hl', if_neg (by omega), if_neg (by omega)] at hy
    cases hy
  | cons x r =>
    simp only [List.length_cons] at hl hl'
    rw [List.length_cons, mc_109 hC (by omega) hR.1]
    have eP : nI (r.length + 1) - 1 = nI r.length := nI_sub (a := r.length + 1) (b := 1) (by omega)
    have p1 : 0 ≤ nI (r.length) := nI_pos' (by omega)
    have c1 : (nI (r.length)).toNatClampNeg = r.length := nI_clamp (by omega)
    have l1 : r.length < 64 := by omega
    obtain ⟨B, B2, B3, hB⟩ : ∃ B B2 B3, k_Machine_run_127 K = (xLst 11 (xIld 9 (xI 1 (xicmp_gt (xIld 9 (xI 10 (xicmp_ne (xIld 9 (xI 11 (xicmp_lt B (xLld 11 (xIld 9 (xI 11 (xicmp_ne (xI 0 (k_Machine_run_209 K)) (xI 1 (k_Machine_run_209 K))))))))) B2))) B3)))) := ⟨_, _, _, rfl⟩
    have hy' : y = if x = 1 then some ((I k).2, x :: r) else some (k + 1, r) := by
      unfold mst at hy
      simp only [List.length_cons, hl', if_false, i0, if_true, show ¬ 11 = 0 by decide, show ¬ 11 = 1 by decide, show ¬ 11 = 10 by decide] at hy
      split at hy
      · rename_i g
        rw [if_pos g]
        exact (Option.some.inj hy).symm
      · rename_i g
        rw [if_neg g]
        exact (Option.some.inj hy).symm
    have c0 : nI 11 = 11 := rfl
    have g1 : (1 : Int32) < 11 := by decide
    have g2 : ((11 : Int32) = 10) = False := by decide
    have g3 : ¬ (11 : Int32) < 11 := by decide
    have g4 : ((11 : Int32) = 11) = True := by decide
    have t1 : (1 : Int32).toInt64 = 1 := by decide
    have n10 : ((1 : Int32) = 0) = False := by decide
    by_cases hx1 : x = 1
    · rw [if_pos hx1] at hy'
      have h1 := h.2 _ hy' R
      simp only [i0, c0] at h1 ⊢
      simp only [hB, k_Machine_run_209, k_Machine_run_219, k_Machine_run_233, k_Machine_run_249, w_iadd, w_isub, w_imul, w_iand, w_ior, w_ixor, w_ishl, w_ishr, w_iushr, w_idiv, w_irem, w_ineg, w_ladd, w_lsub, w_lmul, w_ldiv, w_lrem, w_i2l, w_l2i, w_i2c, w_lcmp, w_dup_int, w_pop_int, w_dup_ref, w_pop_ref, w_dup_retAddr, w_pop_retAddr, w_dup2, w_I, w_L, w_Null, w_Ild, w_Lld, w_Ald, w_Ist, w_Lst, w_Ast, w_Iinc, w_if_eq, w_icmp_eq, w_if_ne, w_icmp_ne, w_if_lt, w_icmp_lt, w_if_ge, w_icmp_ge, w_if_gt, w_icmp_gt, w_if_le, w_icmp_le, w_GetI, w_GetL, w_GetR, w_PutI, w_PutZ, w_PutL, w_PutR, w_PutN, w_Iald, w_Zald, w_Lald, w_Aald, w_Iast, w_Zast, w_Last, w_AastR, w_AastN, w_Alen, w_New, w_NewA, w_Mna, w_Iret, w_Zret, w_Cret, w_Bret, w_Lret, w_AretR, w_AretN, w_Vret, w_Obj, w_IfNN, w_IfNR, w_Copy, w_Cln, w_Cast, w_SfA, w_SfI, w_SfQ, w_Str, w_ScLd, w_ScLen, w_CV0, w_CS0, w_CV1, w_CS1, w_CV2, w_CS2, w_CV3, w_CS3, w_CV4, w_CS4, w_CV5, w_CS5, List.getElem?_cons_zero, List.getElem?_cons_succ, List.set_cons_zero, List.set_cons_succ, List.length_cons, List.length_nil, List.map_cons, List.map_nil, List.sum_cons, List.sum_nil, List.nil_append, List.cons_append, Option.toList_some, Option.toList_none, Value.category, xok, va_rf, true_and, and_true, and_self, Nat.reduceAdd, Nat.reduceLT, Nat.reduceLeDiff, Nat.reduceEqDiff, Nat.reduceMul, beq_self_eq_true, decide_true, ite_true, ite_false, if_true, if_false, reduceIte, Bool.true_eq_false, Bool.false_eq_true, eq_self_iff_true, Nat.zero_le, not_true_eq_false, not_false_eq_true, forall_const, false_implies, implies_true, forall_false, g1, g2, g3, g4, t1, lg_eq, hx1, n10]
      exact h1 _ _ hR
    · rw [if_neg hx1] at hy'
      have h1 := h.2 _ hy' R
      simp only [i0, c0] at h1 ⊢
      simp only [hB, k_Machine_run_209, k_Machine_run_219, k_Machine_run_233, k_Machine_run_249, w_iadd, w_isub, w_imul, w_iand, w_ior, w_ixor, w_ishl, w_ishr, w_iushr, w_idiv, w_irem, w_ineg, w_ladd, w_lsub, w_lmul, w_ldiv, w_lrem, w_i2l, w_l2i, w_i2c, w_lcmp, w_dup_int, w_pop_int, w_dup_ref, w_pop_ref, w_dup_retAddr, w_pop_retAddr, w_dup2, w_I, w_L, w_Null, w_Ild, w_Lld, w_Ald, w_Ist, w_Lst, w_Ast, w_Iinc, w_if_eq, w_icmp_eq, w_if_ne, w_icmp_ne, w_if_lt, w_icmp_lt, w_if_ge, w_icmp_ge, w_if_gt, w_icmp_gt, w_if_le, w_icmp_le, w_GetI, w_GetL, w_GetR, w_PutI, w_PutZ, w_PutL, w_PutR, w_PutN, w_Iald, w_Zald, w_Lald, w_Aald, w_Iast, w_Zast, w_Last, w_AastR, w_AastN, w_Alen, w_New, w_NewA, w_Mna, w_Iret, w_Zret, w_Cret, w_Bret, w_Lret, w_AretR, w_AretN, w_Vret, w_Obj, w_IfNN, w_IfNR, w_Copy, w_Cln, w_Cast, w_SfA, w_SfI, w_SfQ, w_Str, w_ScLd, w_ScLen, w_CV0, w_CS0, w_CV1, w_CS1, w_CV2, w_CS2, w_CV3, w_CS3, w_CV4, w_CS4, w_CV5, w_CS5, List.getElem?_cons_zero, List.getElem?_cons_succ, List.set_cons_zero, List.set_cons_succ, List.length_cons, List.length_nil, List.map_cons, List.map_nil, List.sum_cons, List.sum_nil, List.nil_append, List.cons_append, Option.toList_some, Option.toList_none, Value.category, xok, va_rf, true_and, and_true, and_self, Nat.reduceAdd, Nat.reduceLT, Nat.reduceLeDiff, Nat.reduceEqDiff, Nat.reduceMul, beq_self_eq_true, decide_true, ite_true, ite_false, if_true, if_false, reduceIte, Bool.true_eq_false, Bool.false_eq_true, eq_self_iff_true, Nat.zero_le, not_true_eq_false, not_false_eq_true, forall_const, false_implies, implies_true, forall_false, g1, g2, g3, g4, t1, lg_eq, hx1, n10, eP]
      exact h1 _ _ hR.2
theorem mc_and {G : XH} (hC : CS G) {Q : XR → Prop} {K : XK} {I : Nat → Nat × Nat} {env : Nat → Int64} {k : Nat} {st : List Int64} {R : Nat → Int64} {x1 x2 x3 x11 x13 : Option Value} {wa : Nat} {x6 x8 : Int32} (i0 : (I k).1 = 12) (hR : RS R st) {y : Option (Nat × List Int64)} (hy : mst I env k st = some y)
    (h : mK G Q K (some (.ref 54)) x1 x2 x3 (some (.ref wa)) x6 x8 (some (.int (nI (I k).1))) (some (.int (nI (I k).2))) y) :
    WP (k_Machine_run_109 K) [some (.ref 54), x1, x2, x3, some (.ref wa), some (.int (nI (k + 1))), some (.int x6), some (.int (nI st.length)), some (.int x8), some (.int (nI (I k).1)), some (.int (nI (I k).2)), x11, none, x13, none] [] (stM G 55 R) Q := by
  have hl := mc_len hy
  have hl' : ¬ 64 ≤ st.length := by omega
  cases st with
  | nil =>
    unfold mst at hy
    rw [if_neg hl', if_neg (by omega), if_neg (by omega)] at hy
    cases hy
  | cons x r =>
    simp only [List.length_cons] at hl hl'
    rw [List.length_cons, mc_109 hC (by omega) hR.1]
    have eP : nI (r.length + 1) - 1 = nI r.length := nI_sub (a := r.length + 1) (b := 1) (by omega)
    have p1 : 0 ≤ nI (r.length) := nI_pos' (by omega)
    have c1 : (nI (r.length)).toNatClampNeg = r.length := nI_clamp (by omega)
    have l1 : r.length < 64 := by omega
    obtain ⟨B, B2, B3, hB⟩ : ∃ B B2 B3, k_Machine_run_127 K = (xLst 11 (xIld 9 (xI 1 (xicmp_gt (xIld 9 (xI 10 (xicmp_ne (xIld 9 (xI 11 (xicmp_lt B (xLld 11 (xIld 9 (xI 11 (xicmp_ne (xI 0 (k_Machine_run_209 K)) (xI 1 (k_Machine_run_209 K))))))))) B2))) B3)))) := ⟨_, _, _, rfl⟩
    have hy' : y = if x = 0 then some ((I k).2, x :: r) else some (k + 1, r) := by
      unfold mst at hy
      simp only [List.length_cons, hl', if_false, i0, if_true, show ¬ 12 = 0 by decide, show ¬ 12 = 1 by decide, show ¬ 12 = 10 by decide, show ¬ 12 = 11 by decide] at hy
      split at hy
      · rename_i g
        rw [if_pos g]
        exact (Option.some.inj hy).symm
      · rename_i g
        rw [if_neg g]
        exact (Option.some.inj hy).symm
    have c0 : nI 12 = 12 := rfl
    have g1 : (1 : Int32) < 12 := by decide
    have g2 : ((12 : Int32) = 10) = False := by decide
    have g3 : ¬ (12 : Int32) < 11 := by decide
    have g4 : ((12 : Int32) = 11) = False := by decide
    have t1 : (0 : Int32).toInt64 = 0 := by decide
    have n10 : ((1 : Int32) = 0) = False := by decide
    by_cases hx1 : x = 0
    · rw [if_pos hx1] at hy'
      have h1 := h.2 _ hy' R
      simp only [i0, c0] at h1 ⊢
      simp only [hB, k_Machine_run_209, k_Machine_run_219, k_Machine_run_233, k_Machine_run_249, w_iadd, w_isub, w_imul, w_iand, w_ior, w_ixor, w_ishl, w_ishr, w_iushr, w_idiv, w_irem, w_ineg, w_ladd, w_lsub, w_lmul, w_ldiv, w_lrem, w_i2l, w_l2i, w_i2c, w_lcmp, w_dup_int, w_pop_int, w_dup_ref, w_pop_ref, w_dup_retAddr, w_pop_retAddr, w_dup2, w_I, w_L, w_Null, w_Ild, w_Lld, w_Ald, w_Ist, w_Lst, w_Ast, w_Iinc, w_if_eq, w_icmp_eq, w_if_ne, w_icmp_ne, w_if_lt, w_icmp_lt, w_if_ge, w_icmp_ge, w_if_gt, w_icmp_gt, w_if_le, w_icmp_le, w_GetI, w_GetL, w_GetR, w_PutI, w_PutZ, w_PutL, w_PutR, w_PutN, w_Iald, w_Zald, w_Lald, w_Aald, w_Iast, w_Zast, w_Last, w_AastR, w_AastN, w_Alen, w_New, w_NewA, w_Mna, w_Iret, w_Zret, w_Cret, w_Bret, w_Lret, w_AretR, w_AretN, w_Vret, w_Obj, w_IfNN, w_IfNR, w_Copy, w_Cln, w_Cast, w_SfA, w_SfI, w_SfQ, w_Str, w_ScLd, w_ScLen, w_CV0, w_CS0, w_CV1, w_CS1, w_CV2, w_CS2, w_CV3, w_CS3, w_CV4, w_CS4, w_CV5, w_CS5, List.getElem?_cons_zero, List.getElem?_cons_succ, List.set_cons_zero, List.set_cons_succ, List.length_cons, List.length_nil, List.map_cons, List.map_nil, List.sum_cons, List.sum_nil, List.nil_append, List.cons_append, Option.toList_some, Option.toList_none, Value.category, xok, va_rf, true_and, and_true, and_self, Nat.reduceAdd, Nat.reduceLT, Nat.reduceLeDiff, Nat.reduceEqDiff, Nat.reduceMul, beq_self_eq_true, decide_true, ite_true, ite_false, if_true, if_false, reduceIte, Bool.true_eq_false, Bool.false_eq_true, eq_self_iff_true, Nat.zero_le, not_true_eq_false, not_false_eq_true, forall_const, false_implies, implies_true, forall_false, g1, g2, g3, g4, t1, lg_eq, hx1, n10]
      exact h1 _ _ hR
    · rw [if_neg hx1] at hy'
      have h1 := h.2 _ hy' R
      simp only [i0, c0] at h1 ⊢
      simp only [hB, k_Machine_run_209, k_Machine_run_219, k_Machine_run_233, k_Machine_run_249, w_iadd, w_isub, w_imul, w_iand, w_ior, w_ixor, w_ishl, w_ishr, w_iushr, w_idiv, w_irem, w_ineg, w_ladd, w_lsub, w_lmul, w_ldiv, w_lrem, w_i2l, w_l2i, w_i2c, w_lcmp, w_dup_int, w_pop_int, w_dup_ref, w_pop_ref, w_dup_retAddr, w_pop_retAddr, w_dup2, w_I, w_L, w_Null, w_Ild, w_Lld, w_Ald, w_Ist, w_Lst, w_Ast, w_Iinc, w_if_eq, w_icmp_eq, w_if_ne, w_icmp_ne, w_if_lt, w_icmp_lt, w_if_ge, w_icmp_ge, w_if_gt, w_icmp_gt, w_if_le, w_icmp_le, w_GetI, w_GetL, w_GetR, w_PutI, w_PutZ, w_PutL, w_PutR, w_PutN, w_Iald, w_Zald, w_Lald, w_Aald, w_Iast, w_Zast, w_Last, w_AastR, w_AastN, w_Alen, w_New, w_NewA, w_Mna, w_Iret, w_Zret, w_Cret, w_Bret, w_Lret, w_AretR, w_AretN, w_Vret, w_Obj, w_IfNN, w_IfNR, w_Copy, w_Cln, w_Cast, w_SfA, w_SfI, w_SfQ, w_Str, w_ScLd, w_ScLen, w_CV0, w_CS0, w_CV1, w_CS1, w_CV2, w_CS2, w_CV3, w_CS3, w_CV4, w_CS4, w_CV5, w_CS5, List.getElem?_cons_zero, List.getElem?_cons_succ, List.set_cons_zero, List.set_cons_succ, List.length_cons, List.length_nil, List.map_cons, List.map_nil, List.sum_cons, List.sum_nil, List.nil_append, List.cons_append, Option.toList_some, Option.toList_none, Value.category, xok, va_rf, true_and, and_true, and_self, Nat.reduceAdd, Nat.reduceLT, Nat.reduceLeDiff, Nat.reduceEqDiff, Nat.reduceMul, beq_self_eq_true, decide_true, ite_true, ite_false, if_true, if_false, reduceIte, Bool.true_eq_false, Bool.false_eq_true, eq_self_iff_true, Nat.zero_le, not_true_eq_false, not_false_eq_true, forall_const, false_implies, implies_true, forall_false, g1, g2, g3, g4, t1, lg_eq, hx1, n10, eP]
      exact h1 _ _ hR.2
/-- two values to one -/
theorem mc_tab {G : XH} (hC : CS G) {Q : XR → Prop} {K : XK} {x1 x2 x3 x4 x5 x10 x13 : Option Value} {x6 x8 : Int32} {z x : Int64} {r : List Int64} {R : Nat → Int64} {o : Nat} (h1 : 2 ≤ o) (h2 : o ≤ 9) (hb : ¬ ((o = 5 ∨ o = 6) ∧ x = 0)) (hl : r.length + 1 < 64) (hR : R r.length = z) : WP (k_Machine_run_277 K) [some (.ref 54), x1, x2, x3, x4, x5, some (.int x6), some (.int (nI (r.length + 1 + 1))), some (.int x8), some (.int (nI o)), x10, some (.long x), none, x13, none] [] (stM G 55 R) Q = WP (k_Machine_run_437 K) [some (.ref 54), x1, x2, x3, x4, x5, some (.int x6), some (.int (nI (r.length + 1))), some (.int x8), some (.int (nI o)), x10, some (.long x), none, some (.long (mop o z x)), none] [] (stM G 55 R) Q := by
  have eP : nI (r.length + 1) - 1 = nI r.length := nI_sub (a := r.length + 1) (b := 1) (by omega)
  have eQ : nI (r.length + 1 + 1) + Int32.ofInt (-1) = nI (r.length + 1) := by rw [show Int32.ofInt (-1) = -1 by decide, ← Int32.sub_eq_add_neg]; exact nI_sub (a := r.length + 1 + 1) (b := 1) (by omega)
  have p1 : 0 ≤ nI (r.length) := nI_pos' (by omega)
  have c1 : (nI (r.length)).toNatClampNeg = r.length := nI_clamp (by omega)
  have l1 : r.length < 64 := by omega
  have hto : (nI o).toInt = (o : Int) := Int32.toInt_ofNat_of_lt (by omega)
  simp only [k_Machine_run_277, w_iadd, w_isub, w_imul, w_iand, w_ior, w_ixor, w_ishl, w_ishr, w_iushr, w_idiv, w_irem, w_ineg, w_ladd, w_lsub, w_lmul, w_ldiv, w_lrem, w_i2l, w_l2i, w_i2c, w_lcmp, w_dup_int, w_pop_int, w_dup_ref, w_pop_ref, w_dup_retAddr, w_pop_retAddr, w_dup2, w_I, w_L, w_Null, w_Ild, w_Lld, w_Ald, w_Ist, w_Lst, w_Ast, w_Iinc, w_if_eq, w_icmp_eq, w_if_ne, w_icmp_ne, w_if_lt, w_icmp_lt, w_if_ge, w_icmp_ge, w_if_gt, w_icmp_gt, w_if_le, w_icmp_le, w_GetI, w_GetL, w_GetR, w_PutI, w_PutZ, w_PutL, w_PutR, w_PutN, w_Iald, w_Zald, w_Lald, w_Aald, w_Iast, w_Zast, w_Last, w_AastR, w_AastN, w_Alen, w_New, w_NewA, w_Mna, w_Iret, w_Zret, w_Cret, w_Bret, w_Lret, w_AretR, w_AretN, w_Vret, w_Obj, w_IfNN, w_IfNR, w_Copy, w_Cln, w_Cast, w_SfA, w_SfI, w_SfQ, w_Str, w_ScLd, w_ScLen, w_CV0, w_CS0, w_CV1, w_CS1, w_CV2, w_CS2, w_CV3, w_CS3, w_CV4, w_CS4, w_CV5, w_CS5, List.getElem?_cons_zero, List.getElem?_cons_succ, List.set_cons_zero, List.set_cons_succ, List.length_cons, List.length_nil, List.map_cons, List.map_nil, List.sum_cons, List.sum_nil, List.nil_append, List.cons_append, Option.toList_some, Option.toList_none, Value.category, xok, va_rf, true_and, and_true, and_self, Nat.reduceAdd, Nat.reduceLT, Nat.reduceLeDiff, Nat.reduceEqDiff, Nat.reduceMul, beq_self_eq_true, decide_true, ite_true, ite_false, if_true, if_false, reduceIte, Bool.true_eq_false, Bool.false_eq_true, eq_self_iff_true, Nat.zero_le, not_true_eq_false, not_false_eq_true, forall_const, false_implies, implies_true, forall_false, stM_C, stM_N, stM_R, hC.all, eP, eQ, xin, p1, c1, l1, hpL_stM, hR, w_tab, hto]
  rcases (by omega : o = 2 ∨ o = 3 ∨ o = 4 ∨ o = 5 ∨ o = 6 ∨ o = 7 ∨ o = 8 ∨ o = 9) with rfl | rfl | rfl | rfl | rfl | rfl | rfl | rfl
  · simp only [show ¬ (((2 : Nat) : Int) < 2 ∨ 8 < ((2 : Nat) : Int)) by decide, if_false, show (((2 : Nat) : Int) - 2).toNat = 0 from rfl, k_Machine_run_336, w_iadd, w_isub, w_imul, w_iand, w_ior, w_ixor, w_ishl, w_ishr, w_iushr, w_idiv, w_irem, w_ineg, w_ladd, w_lsub, w_lmul, w_ldiv, w_lrem, w_i2l, w_l2i, w_i2c, w_lcmp, w_dup_int, w_pop_int, w_dup_ref, w_pop_ref, w_dup_retAddr, w_pop_retAddr, w_dup2, w_I, w_L, w_Null, w_Ild, w_Lld, w_Ald, w_Ist, w_Lst, w_Ast, w_Iinc, w_if_eq, w_icmp_eq, w_if_ne, w_icmp_ne, w_if_lt, w_icmp_lt, w_if_ge, w_icmp_ge, w_if_gt, w_icmp_gt, w_if_le, w_icmp_le, w_GetI, w_GetL, w_GetR, w_PutI, w_PutZ, w_PutL, w_PutR, w_PutN, w_Iald, w_Zald, w_Lald, w_Aald, w_Iast, w_Zast, w_Last, w_AastR, w_AastN, w_Alen, w_New, w_NewA, w_Mna, w_Iret, w_Zret, w_Cret, w_Bret, w_Lret, w_AretR, w_AretN, w_Vret, w_Obj, w_IfNN, w_IfNR, w_Copy, w_Cln, w_Cast, w_SfA, w_SfI, w_SfQ, w_Str, w_ScLd, w_ScLen, w_CV0, w_CS0, w_CV1, w_CS1, w_CV2, w_CS2, w_CV3, w_CS3, w_CV4, w_CS4, w_CV5, w_CS5, List.getElem?_cons_zero, List.getElem?_cons_succ, List.set_cons_zero, List.set_cons_succ, List.length_cons, List.length_nil, List.map_cons, List.map_nil, List.sum_cons, List.sum_nil, List.nil_append, List.cons_append, Option.toList_some, Option.toList_none, Value.category, xok, va_rf, true_and, and_true, and_self, Nat.reduceAdd, Nat.reduceLT, Nat.reduceLeDiff, Nat.reduceEqDiff, Nat.reduceMul, beq_self_eq_true, decide_true, ite_true, ite_false, if_true, if_false, reduceIte, Bool.true_eq_false, Bool.false_eq_true, eq_self_iff_true, Nat.zero_le, not_true_eq_false, not_false_eq_true, forall_const, false_implies, implies_true, forall_false]
    rfl
  · simp only [show ¬ (((3 : Nat) : Int) < 2 ∨ 8 < ((3 : Nat) : Int)) by decide, if_false, show (((3 : Nat) : Int) - 2).toNat = 1 from rfl, k_Machine_run_346, w_iadd, w_isub, w_imul, w_iand, w_ior, w_ixor, w_ishl, w_ishr, w_iushr, w_idiv, w_irem, w_ineg, w_ladd, w_lsub, w_lmul, w_ldiv, w_lrem, w_i2l, w_l2i, w_i2c, w_lcmp, w_dup_int, w_pop_int, w_dup_ref, w_pop_ref, w_dup_retAddr, w_pop_retAddr, w_dup2, w_I, w_L, w_Null, w_Ild, w_Lld, w_Ald, w_Ist, w_Lst, w_Ast, w_Iinc, w_if_eq, w_icmp_eq, w_if_ne, w_icmp_ne, w_if_lt, w_icmp_lt, w_if_ge, w_icmp_ge, w_if_gt, w_icmp_gt, w_if_le, w_icmp_le, w_GetI, w_GetL, w_GetR, w_PutI, w_PutZ, w_PutL, w_PutR, w_PutN, w_Iald, w_Zald, w_Lald, w_Aald, w_Iast, w_Zast, w_Last, w_AastR, w_AastN, w_Alen, w_New, w_NewA, w_Mna, w_Iret, w_Zret, w_Cret, w_Bret, w_Lret, w_AretR, w_AretN, w_Vret, w_Obj, w_IfNN, w_IfNR, w_Copy, w_Cln, w_Cast, w_SfA, w_SfI, w_SfQ, w_Str, w_ScLd, w_ScLen, w_CV0, w_CS0, w_CV1, w_CS1, w_CV2, w_CS2, w_CV3, w_CS3, w_CV4, w_CS4, w_CV5, w_CS5, List.getElem?_cons_zero, List.getElem?_cons_succ, List.set_cons_zero, List.set_cons_succ, List.length_cons, List.length_nil, List.map_cons, List.map_nil, List.sum_cons, List.sum_nil, List.nil_append, List.cons_append, Option.toList_some, Option.toList_none, Value.category, xok, va_rf, true_and, and_true, and_self, Nat.reduceAdd, Nat.reduceLT, Nat.reduceLeDiff, Nat.reduceEqDiff, Nat.reduceMul, beq_self_eq_true, decide_true, ite_true, ite_false, if_true, if_false, reduceIte, Bool.true_eq_false, Bool.false_eq_true, eq_self_iff_true, Nat.zero_le, not_true_eq_false, not_false_eq_true, forall_const, false_implies, implies_true, forall_false]
    rfl
  · simp only [show ¬ (((4 : Nat) : Int) < 2 ∨ 8 < ((4 : Nat) : Int)) by decide, if_false, show (((4 : Nat) : Int) - 2).toNat = 2 from rfl, k_Machine_run_356, w_iadd, w_isub, w_imul, w_iand, w_ior, w_ixor, w_ishl, w_ishr, w_iushr, w_idiv, w_irem, w_ineg, w_ladd, w_lsub, w_lmul, w_ldiv, w_lrem, w_i2l, w_l2i, w_i2c, w_lcmp, w_dup_int, w_pop_int, w_dup_ref, w_pop_ref, w_dup_retAddr, w_pop_retAddr, w_dup2, w_I, w_L, w_Null, w_Ild, w_Lld, w_Ald, w_Ist, w_Lst, w_Ast, w_Iinc, w_if_eq, w_icmp_eq, w_if_ne, w_icmp_ne, w_if_lt, w_icmp_lt, w_if_ge, w_icmp_ge, w_if_gt, w_icmp_gt, w_if_le, w_icmp_le, w_GetI, w_GetL, w_GetR, w_PutI, w_PutZ, w_PutL, w_PutR, w_PutN, w_Iald, w_Zald, w_Lald, w_Aald, w_Iast, w_Zast, w_Last, w_AastR, w_AastN, w_Alen, w_New, w_NewA, w_Mna, w_Iret, w_Zret, w_Cret, w_Bret, w_Lret, w_AretR, w_AretN, w_Vret, w_Obj, w_IfNN, w_IfNR, w_Copy, w_Cln, w_Cast, w_SfA, w_SfI, w_SfQ, w_Str, w_ScLd, w_ScLen, w_CV0, w_CS0, w_CV1, w_CS1, w_CV2, w_CS2, w_CV3, w_CS3, w_CV4, w_CS4, w_CV5, w_CS5, List.getElem?_cons_zero, List.getElem?_cons_succ, List.set_cons_zero, List.set_cons_succ, List.length_cons, List.length_nil, List.map_cons, List.map_nil, List.sum_cons, List.sum_nil, List.nil_append, List.cons_append, Option.toList_some, Option.toList_none, Value.category, xok, va_rf, true_and, and_true, and_self, Nat.reduceAdd, Nat.reduceLT, Nat.reduceLeDiff, Nat.reduceEqDiff, Nat.reduceMul, beq_self_eq_true, decide_true, ite_true, ite_false, if_true, if_false, reduceIte, Bool.true_eq_false, Bool.false_eq_true, eq_self_iff_true, Nat.zero_le, not_true_eq_false, not_false_eq_true, forall_const, false_implies, implies_true, forall_false]
    rfl
  · have hx0 : ¬ x = 0 := fun q => hb ⟨Or.inl rfl, q⟩
    simp only [show ¬ (((5 : Nat) : Int) < 2 ∨ 8 < ((5 : Nat) : Int)) by decide, if_false, show (((5 : Nat) : Int) - 2).toNat = 3 from rfl, k_Machine_run_366, w_iadd, w_isub, w_imul, w_iand, w_ior, w_ixor, w_ishl, w_ishr, w_iushr, w_idiv, w_irem, w_ineg, w_ladd, w_lsub, w_lmul, w_ldiv, w_lrem, w_i2l, w_l2i, w_i2c, w_lcmp, w_dup_int, w_pop_int, w_dup_ref, w_pop_ref, w_dup_retAddr, w_pop_retAddr, w_dup2, w_I, w_L, w_Null, w_Ild, w_Lld, w_Ald, w_Ist, w_Lst, w_Ast, w_Iinc, w_if_eq, w_icmp_eq, w_if_ne, w_icmp_ne, w_if_lt, w_icmp_lt, w_if_ge, w_icmp_ge, w_if_gt, w_icmp_gt, w_if_le, w_icmp_le, w_GetI, w_GetL, w_GetR, w_PutI, w_PutZ, w_PutL, w_PutR, w_PutN, w_Iald, w_Zald, w_Lald, w_Aald, w_Iast, w_Zast, w_Last, w_AastR, w_AastN, w_Alen, w_New, w_NewA, w_Mna, w_Iret, w_Zret, w_Cret, w_Bret, w_Lret, w_AretR, w_AretN, w_Vret, w_Obj, w_IfNN, w_IfNR, w_Copy, w_Cln, w_Cast, w_SfA, w_SfI, w_SfQ, w_Str, w_ScLd, w_ScLen, w_CV0, w_CS0, w_CV1, w_CS1, w_CV2, w_CS2, w_CV3, w_CS3, w_CV4, w_CS4, w_CV5, w_CS5, List.getElem?_cons_zero, List.getElem?_cons_succ, List.set_cons_zero, List.set_cons_succ, List.length_cons, List.length_nil, List.map_cons, List.map_nil, List.sum_cons, List.sum_nil, List.nil_append, List.cons_append, Option.toList_some, Option.toList_none, Value.category, xok, va_rf, true_and, and_true, and_self, Nat.reduceAdd, Nat.reduceLT, Nat.reduceLeDiff, Nat.reduceEqDiff, Nat.reduceMul, beq_self_eq_true, decide_true, ite_true, ite_false, if_true, if_false, reduceIte, Bool.true_eq_false, Bool.false_eq_true, eq_self_iff_true, Nat.zero_le, not_true_eq_false, not_false_eq_true, forall_const, false_implies, implies_true, forall_false, hx0]
    rfl
  · have hx0 : ¬ x = 0 := fun q => hb ⟨Or.inr rfl, q⟩
    simp only [show ¬ (((6 : Nat) : Int) < 2 ∨ 8 < ((6 : Nat) : Int)) by decide, if_false, show (((6 : Nat) : Int) - 2).toNat = 4 from rfl, k_Machine_run_376, w_iadd, w_isub, w_imul, w_iand, w_ior, w_ixor, w_ishl, w_ishr, w_iushr, w_idiv, w_irem, w_ineg, w_ladd, w_lsub, w_lmul, w_ldiv, w_lrem, w_i2l, w_l2i, w_i2c, w_lcmp, w_dup_int, w_pop_int, w_dup_ref, w_pop_ref, w_dup_retAddr, w_pop_retAddr, w_dup2, w_I, w_L, w_Null, w_Ild, w_Lld, w_Ald, w_Ist, w_Lst, w_Ast, w_Iinc, w_if_eq, w_icmp_eq, w_if_ne, w_icmp_ne, w_if_lt, w_icmp_lt, w_if_ge, w_icmp_ge, w_if_gt, w_icmp_gt, w_if_le, w_icmp_le, w_GetI, w_GetL, w_GetR, w_PutI, w_PutZ, w_PutL, w_PutR, w_PutN, w_Iald, w_Zald, w_Lald, w_Aald, w_Iast, w_Zast, w_Last, w_AastR, w_AastN, w_Alen, w_New, w_NewA, w_Mna, w_Iret, w_Zret, w_Cret, w_Bret, w_Lret, w_AretR, w_AretN, w_Vret, w_Obj, w_IfNN, w_IfNR, w_Copy, w_Cln, w_Cast, w_SfA, w_SfI, w_SfQ, w_Str, w_ScLd, w_ScLen, w_CV0, w_CS0, w_CV1, w_CS1, w_CV2, w_CS2, w_CV3, w_CS3, w_CV4, w_CS4, w_CV5, w_CS5, List.getElem?_cons_zero, List.getElem?_cons_succ, List.set_cons_zero, List.set_cons_succ, List.length_cons, List.length_nil, List.map_cons, List.map_nil, List.sum_cons, List.sum_nil, List.nil_append, List.cons_append, Option.toList_some, Option.toList_none, Value.category, xok, va_rf, true_and, and_true, and_self, Nat.reduceAdd, Nat.reduceLT, Nat.reduceLeDiff, Nat.reduceEqDiff, Nat.reduceMul, beq_self_eq_true, decide_true, ite_true, ite_false, if_true, if_false, reduceIte, Bool.true_eq_false, Bool.false_eq_true, eq_self_iff_true, Nat.zero_le, not_true_eq_false, not_false_eq_true, forall_const, false_implies, implies_true, forall_false, hx0]
    rfl
  · simp only [show ¬ (((7 : Nat) : Int) < 2 ∨ 8 < ((7 : Nat) : Int)) by decide, if_false, show (((7 : Nat) : Int) - 2).toNat = 5 from rfl, k_Machine_run_386, k_Machine_run_399, w_iadd, w_isub, w_imul, w_iand, w_ior, w_ixor, w_ishl, w_ishr, w_iushr, w_idiv, w_irem, w_ineg, w_ladd, w_lsub, w_lmul, w_ldiv, w_lrem, w_i2l, w_l2i, w_i2c, w_lcmp, w_dup_int, w_pop_int, w_dup_ref, w_pop_ref, w_dup_retAddr, w_pop_retAddr, w_dup2, w_I, w_L, w_Null, w_Ild, w_Lld, w_Ald, w_Ist, w_Lst, w_Ast, w_Iinc, w_if_eq, w_icmp_eq, w_if_ne, w_icmp_ne, w_if_lt, w_icmp_lt, w_if_ge, w_icmp_ge, w_if_gt, w_icmp_gt, w_if_le, w_icmp_le, w_GetI, w_GetL, w_GetR, w_PutI, w_PutZ, w_PutL, w_PutR, w_PutN, w_Iald, w_Zald, w_Lald, w_Aald, w_Iast, w_Zast, w_Last, w_AastR, w_AastN, w_Alen, w_New, w_NewA, w_Mna, w_Iret, w_Zret, w_Cret, w_Bret, w_Lret, w_AretR, w_AretN, w_Vret, w_Obj, w_IfNN, w_IfNR, w_Copy, w_Cln, w_Cast, w_SfA, w_SfI, w_SfQ, w_Str, w_ScLd, w_ScLen, w_CV0, w_CS0, w_CV1, w_CS1, w_CV2, w_CS2, w_CV3, w_CS3, w_CV4, w_CS4, w_CV5, w_CS5, List.getElem?_cons_zero, List.getElem?_cons_succ, List.set_cons_zero, List.set_cons_succ, List.length_cons, List.length_nil, List.map_cons, List.map_nil, List.sum_cons, List.sum_nil, List.nil_append, List.cons_append, Option.toList_some, Option.toList_none, Value.category, xok, va_rf, true_and, and_true, and_self, Nat.reduceAdd, Nat.reduceLT, Nat.reduceLeDiff, Nat.reduceEqDiff, Nat.reduceMul, beq_self_eq_true, decide_true, ite_true, ite_false, if_true, if_false, reduceIte, Bool.true_eq_false, Bool.false_eq_true, eq_self_iff_true, Nat.zero_le, not_true_eq_false, not_false_eq_true, forall_const, false_implies, implies_true, forall_false, lg_ge]
    have : mop 7 z x = if z < x then 1 else 0 := rfl
    rw [this]
    by_cases g : z < x
    · have g' : ¬ x ≤ z := Int64.not_le.mpr g
      simp [g, g']
    · have g' : x ≤ z := Int64.not_lt.mp g
      simp [g, g']
  · simp only [show ¬ (((8 : Nat) : Int) < 2 ∨ 8 < ((8 : Nat) : Int)) by decide, if_false, show (((8 : Nat) : Int) - 2).toNat = 6 from rfl, k_Machine_run_404, k_Machine_run_417, w_iadd, w_isub, w_imul, w_iand, w_ior, w_ixor, w_ishl, w_ishr, w_iushr, w_idiv, w_irem, w_ineg, w_ladd, w_lsub, w_lmul, w_ldiv, w_lrem, w_i2l, w_l2i, w_i2c, w_lcmp, w_dup_int, w_pop_int, w_dup_ref, w_pop_ref, w_dup_retAddr, w_pop_retAddr, w_dup2, w_I, w_L, w_Null, w_Ild, w_Lld, w_Ald, w_Ist, w_Lst, w_Ast, w_Iinc, w_if_eq, w_icmp_eq, w_if_ne, w_icmp_ne, w_if_lt, w_icmp_lt, w_if_ge, w_icmp_ge, w_if_gt, w_icmp_gt, w_if_le, w_icmp_le, w_GetI, w_GetL, w_GetR, w_PutI, w_PutZ, w_PutL, w_PutR, w_PutN, w_Iald, w_Zald, w_Lald, w_Aald, w_Iast, w_Zast, w_Last, w_AastR, w_AastN, w_Alen, w_New, w_NewA, w_Mna, w_Iret, w_Zret, w_Cret, w_Bret, w_Lret, w_AretR, w_AretN, w_Vret, w_Obj, w_IfNN, w_IfNR, w_Copy, w_Cln, w_Cast, w_SfA, w_SfI, w_SfQ, w_Str, w_ScLd, w_ScLen, w_CV0, w_CS0, w_CV1, w_CS1, w_CV2, w_CS2, w_CV3, w_CS3, w_CV4, w_CS4, w_CV5, w_CS5, List.getElem?_cons_zero, List.getElem?_cons_succ, List.set_cons_zero, List.set_cons_succ, List.length_cons, List.length_nil, List.map_cons, List.map_nil, List.sum_cons, List.sum_nil, List.nil_append, List.cons_append, Option.toList_some, Option.toList_none, Value.category, xok, va_rf, true_and, and_true, and_self, Nat.reduceAdd, Nat.reduceLT, Nat.reduceLeDiff, Nat.reduceEqDiff, Nat.reduceMul, beq_self_eq_true, decide_true, ite_true, ite_false, if_true, if_false, reduceIte, Bool.true_eq_false, Bool.false_eq_true, eq_self_iff_true, Nat.zero_le, not_true_eq_false, not_false_eq_true, forall_const, false_implies, implies_true, forall_false, lg_le]
    have : mop 8 z x = if x < z then 1 else 0 := rfl
    rw [this]
    by_cases g : x < z
    · have g' : ¬ z ≤ x := Int64.not_le.mpr g
      simp [g, g']
    · have g' : z ≤ x := Int64.not_lt.mp g
      simp [g, g']
  · simp only [show (((9 : Nat) : Int) < 2 ∨ 8 < ((9 : Nat) : Int)) by decide, if_true, k_Machine_run_422, k_Machine_run_435, w_iadd, w_isub, w_imul, w_iand, w_ior, w_ixor, w_ishl, w_ishr, w_iushr, w_idiv, w_irem, w_ineg, w_ladd, w_lsub, w_lmul, w_ldiv, w_lrem, w_i2l, w_l2i, w_i2c, w_lcmp, w_dup_int, w_pop_int, w_dup_ref, w_pop_ref, w_dup_retAddr, w_pop_retAddr, w_dup2, w_I, w_L, w_Null, w_Ild, w_Lld, w_Ald, w_Ist, w_Lst, w_Ast, w_Iinc, w_if_eq, w_icmp_eq, w_if_ne, w_icmp_ne, w_if_lt, w_icmp_lt, w_if_ge, w_icmp_ge, w_if_gt, w_icmp_gt, w_if_le, w_icmp_le, w_GetI, w_GetL, w_GetR, w_PutI, w_PutZ, w_PutL, w_PutR, w_PutN, w_Iald, w_Zald, w_Lald, w_Aald, w_Iast, w_Zast, w_Last, w_AastR, w_AastN, w_Alen, w_New, w_NewA, w_Mna, w_Iret, w_Zret, w_Cret, w_Bret, w_Lret, w_AretR, w_AretN, w_Vret, w_Obj, w_IfNN, w_IfNR, w_Copy, w_Cln, w_Cast, w_SfA, w_SfI, w_SfQ, w_Str, w_ScLd, w_ScLen, w_CV0, w_CS0, w_CV1, w_CS1, w_CV2, w_CS2, w_CV3, w_CS3, w_CV4, w_CS4, w_CV5, w_CS5, List.getElem?_cons_zero, List.getElem?_cons_succ, List.set_cons_zero, List.set_cons_succ, List.length_cons, List.length_nil, List.map_cons, List.map_nil, List.sum_cons, List.sum_nil, List.nil_append, List.cons_append, Option.toList_some, Option.toList_none, Value.category, xok, va_rf, true_and, and_true, and_self, Nat.reduceAdd, Nat.reduceLT, Nat.reduceLeDiff, Nat.reduceEqDiff, Nat.reduceMul, beq_self_eq_true, decide_true, ite_true, ite_false, if_true, if_false, reduceIte, Bool.true_eq_false, Bool.false_eq_true, eq_self_iff_true, Nat.zero_le, not_true_eq_false, not_false_eq_true, forall_const, false_implies, implies_true, forall_false, lg_eq]
    have : mop 9 z x = if z = x then 1 else 0 := rfl
    rw [this]
    by_cases g : z = x <;> simp [g]
theorem mc_bin {G : XH} (hC : CS G) {Q : XR → Prop} {K : XK} {I : Nat → Nat × Nat} {env : Nat → Int64} {k : Nat} {st : List Int64} {R : Nat → Int64} {x1 x2 x3 x11 x13 : Option Value} {wa : Nat} {x6 x8 : Int32} (h2 : 2 ≤ (I k).1) (h9 : (I k).1 ≤ 9) (hR : RS R st) {y : Option (Nat × List Int64)} (hy : mst I env k st = some y)
    (h : mK G Q K (some (.ref 54)) x1 x2 x3 (some (.ref wa)) x6 x8 (some (.int (nI (I k).1))) (some (.int (nI (I k).2))) y) :
    WP (k_Machine_run_109 K) [some (.ref 54), x1, x2, x3, some (.ref wa), some (.int (nI (k + 1))), some (.int x6), some (.int (nI st.length)), some (.int x8), some (.int (nI (I k).1)), some (.int (nI (I k).2)), x11, none, x13, none] [] (stM G 55 R) Q := by
  have hl := mc_len hy
  have hl' : ¬ 64 ≤ st.length := by omega
  have o0 : ¬ (I k).1 = 0 := by omega
  have o1 : ¬ (I k).1 = 1 := by omega
  have o10 : ¬ (I k).1 = 10 := by omega
  have o11 : ¬ (I k).1 = 11 := by omega
  have o12 : ¬ (I k).1 = 12 := by omega
  cases st with
  | nil =>
    unfold mst at hy
    rw [if_neg hl', if_neg (by omega), if_neg (by omega)] at hy
    cases hy
  | cons x r =>
    cases r with
    | nil =>
      unfold mst at hy
      simp only [hl', if_false, o0, o1, o10, o11, o12] at hy
      cases hy
    | cons z r =>
      simp only [List.length_cons] at hl hl'
      have q1 : R (r.length + 1) = x := hR.1
      have q2 : R r.length = z := hR.2.1
      rw [List.length_cons, mc_109 hC (by simp only [List.length_cons]; omega) hR.1, List.length_cons]
      have g1 : ¬ nI (I k).1 ≤ 1 := fun q => absurd ((nI_leI (b := 1) (by omega) (by decide)).mp q) (by omega)
      have g1' : (1 : Int32) < nI (I k).1 := Int32.not_le.mp g1
      have g2 : ¬ nI (I k).1 = 10 := fun q => absurd ((nI_eq (b := 10) (by omega) (by decide)).mp q) (by omega)
      have g3 : nI (I k).1 < 11 := Int32.not_le.mp fun q => absurd ((nI_leI (a := 11) (by decide) (by omega)).mp q) (by omega)
      have g5 : (nI (I k).1 = 5) = ((I k).1 = 5) := propext ⟨fun q => (nI_eq (b := 5) (by omega) (by decide)).mp q, fun q => by rw [q]; rfl⟩
      have g6 : (nI (I k).1 = 6) = ((I k).1 = 6) := propext ⟨fun q => (nI_eq (b := 6) (by omega) (by decide)).mp q, fun q => by rw [q]; rfl⟩
      by_cases hb : ((I k).1 = 5 ∨ (I k).1 = 6) ∧ x = 0
      · have hy' : y = none := by
          unfold mst at hy
          have hn : mbin (I k).1 z x = none := by unfold mbin; rw [if_pos hb]
          simp only [List.length_cons, hl', if_false, o0, o1, o10, o11, o12, hn] at hy
          exact (Option.some.inj hy).symm
        have h0 := h.1 hy' R
        simp only [k_Machine_run_127, w_iadd, w_isub, w_imul, w_iand, w_ior, w_ixor, w_ishl, w_ishr, w_iushr, w_idiv, w_irem, w_ineg, w_ladd, w_lsub, w_lmul, w_ldiv, w_lrem, w_i2l, w_l2i, w_i2c, w_lcmp, w_dup_int, w_pop_int, w_dup_ref, w_pop_ref, w_dup_retAddr, w_pop_retAddr, w_dup2, w_I, w_L, w_Null, w_Ild, w_Lld, w_Ald, w_Ist, w_Lst, w_Ast, w_Iinc, w_if_eq, w_icmp_eq, w_if_ne, w_icmp_ne, w_if_lt, w_icmp_lt, w_if_ge, w_icmp_ge, w_if_gt, w_icmp_gt, w_if_le, w_icmp_le, w_GetI, w_GetL, w_GetR, w_PutI, w_PutZ, w_PutL, w_PutR, w_PutN, w_Iald, w_Zald, w_Lald, w_Aald, w_Iast, w_Zast, w_Last, w_AastR, w_AastN, w_Alen, w_New, w_NewA, w_Mna, w_Iret, w_Zret, w_Cret, w_Bret, w_Lret, w_AretR, w_AretN, w_Vret, w_Obj, w_IfNN, w_IfNR, w_Copy, w_Cln, w_Cast, w_SfA, w_SfI, w_SfQ, w_Str, w_ScLd, w_ScLen, w_CV0, w_CS0, w_CV1, w_CS1, w_CV2, w_CS2, w_CV3, w_CS3, w_CV4, w_CS4, w_CV5, w_CS5, List.getElem?_cons_zero, List.getElem?_cons_succ, List.set_cons_zero, List.set_cons_succ, List.length_cons, List.length_nil, List.map_cons, List.map_nil, List.sum_cons, List.sum_nil, List.nil_append, List.cons_append, Option.toList_some, Option.toList_none, Value.category, xok, va_rf, true_and, and_true, and_self, Nat.reduceAdd, Nat.reduceLT, Nat.reduceLeDiff, Nat.reduceEqDiff, Nat.reduceMul, beq_self_eq_true, decide_true, ite_true, ite_false, if_true, if_false, reduceIte, Bool.true_eq_false, Bool.false_eq_true, eq_self_iff_true, Nat.zero_le, not_true_eq_false, not_false_eq_true, forall_const, false_implies, implies_true, forall_false, g1', g2, g3, g5, g6, mb_274, lg_eq]
        rcases hb with ⟨q5, qx⟩
        refine ⟨fun _ => ⟨fun _ => h0, fun n5 => ⟨fun _ => h0, fun n6 => ?_⟩⟩, fun n => absurd qx n⟩
        rcases q5 with q | q
        · exact absurd q n5
        · exact absurd q n6
      · have hm : mbin (I k).1 z x = if mop (I k).1 z x < -BIG ∨ BIG < mop (I k).1 z x then none else some (mop (I k).1 z x) := by
          unfold mbin
          rw [if_neg hb]
          rfl
        have ht : ∀ {x13 : Option Value}, WP (k_Machine_run_277 K) [some (.ref 54), x1, x2, x3, some (.ref wa), some (.int (nI (k + 1))), some (.int x6), some (.int (nI (r.length + 1 + 1))), some (.int x8), some (.int (nI (I k).1)), some (.int (nI (I k).2)), some (.long x), none, x13, none] [] (stM G 55 R) Q := by
          intro x13
          rw [mc_tab hC h2 h9 hb (by omega) q2, mc_437 hC (by omega) rfl]
          unfold mst at hy
          simp only [List.length_cons, hl', if_false, o0, o1, o10, o11, o12, hm] at hy
          by_cases g : mop (I k).1 z x < -BIG ∨ BIG < mop (I k).1 z x
          · rw [if_pos g] at hy ⊢
            exact h.1 (Option.some.inj hy).symm R
          · rw [if_neg g] at hy ⊢
            exact h.2 _ (Option.some.inj hy).symm _ _ _ ⟨by simp, RS_up r (Nat.le_refl _) hR.2.2⟩
        simp only [k_Machine_run_127, w_iadd, w_isub, w_imul, w_iand, w_ior, w_ixor, w_ishl, w_ishr, w_iushr, w_idiv, w_irem, w_ineg, w_ladd, w_lsub, w_lmul, w_ldiv, w_lrem, w_i2l, w_l2i, w_i2c, w_lcmp, w_dup_int, w_pop_int, w_dup_ref, w_pop_ref, w_dup_retAddr, w_pop_retAddr, w_dup2, w_I, w_L, w_Null, w_Ild, w_Lld, w_Ald, w_Ist, w_Lst, w_Ast, w_Iinc, w_if_eq, w_icmp_eq, w_if_ne, w_icmp_ne, w_if_lt, w_icmp_lt, w_if_ge, w_icmp_ge, w_if_gt, w_icmp_gt, w_if_le, w_icmp_le, w_GetI, w_GetL, w_GetR, w_PutI, w_PutZ, w_PutL, w_PutR, w_PutN, w_Iald, w_Zald, w_Lald, w_Aald, w_Iast, w_Zast, w_Last, w_AastR, w_AastN, w_Alen, w_New, w_NewA, w_Mna, w_Iret, w_Zret, w_Cret, w_Bret, w_Lret, w_AretR, w_AretN, w_Vret, w_Obj, w_IfNN, w_IfNR, w_Copy, w_Cln, w_Cast, w_SfA, w_SfI, w_SfQ, w_Str, w_ScLd, w_ScLen, w_CV0, w_CS0, w_CV1, w_CS1, w_CV2, w_CS2, w_CV3, w_CS3, w_CV4, w_CS4, w_CV5, w_CS5, List.getElem?_cons_zero, List.getElem?_cons_succ, List.set_cons_zero, List.set_cons_succ, List.length_cons, List.length_nil, List.map_cons, List.map_nil, List.sum_cons, List.sum_nil, List.nil_append, List.cons_append, Option.toList_some, Option.toList_none, Value.category, xok, va_rf, true_and, and_true, and_self, Nat.reduceAdd, Nat.reduceLT, Nat.reduceLeDiff, Nat.reduceEqDiff, Nat.reduceMul, beq_self_eq_true, decide_true, ite_true, ite_false, if_true, if_false, reduceIte, Bool.true_eq_false, Bool.false_eq_true, eq_self_iff_true, Nat.zero_le, not_true_eq_false, not_false_eq_true, forall_const, false_implies, implies_true, forall_false, g1', g2, g3, g5, g6, mb_274, lg_eq]
        refine ⟨fun qx => ⟨fun q5 => absurd ⟨Or.inl q5, qx⟩ hb, fun n5 => ⟨fun q6 => absurd ⟨Or.inr q6, qx⟩ hb, fun n6 => ht⟩⟩, fun n => ht⟩
