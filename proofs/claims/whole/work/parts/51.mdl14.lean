theorem ra_not {G : XH} (hM : MS G) (Q : XR → Prop) (od : Bool) (ho : hpI G 70 20 = if od then 1 else 0) (I : Nat → Nat × Nat) (k : Nat) (hk : k < 400) (p q op arg : Int32) (o6 : Option Value) (i1 : (I k).1 = 10) (i2 : op = 28) (st : List Int64) (R : Nat → Int64) (hR : RS R st) (K : XK) (y : Option (Nat × List Int64)) (hy : mst I (menv od G) k st = some y)
    (h0 : y = none → ∀ (R' : Nat → Int64) (n' : Nat), WP K [some (.ref 70), some (.int p), some (.int q), some (.int (nI n')), some (.int (nI (k + 1))), some (.int op), some (.int arg)] [] (evG R' 1 G) Q)
    (h1 : ∀ x, y = some x → ∀ (R' : Nat → Int64), RS R' x.2 → WP K [some (.ref 70), some (.int p), some (.int q), some (.int (nI x.2.length)), some (.int (nI x.1)), some (.int op), some (.int arg)] [] (evG R' 0 G) Q) :
    WP (k_Mdl_reckonAll_95 K) [some (.ref 70), some (.int p), some (.int q), some (.int (nI st.length)), some (.int (nI k)), some (.int op), o6] [.int arg] (evG R 0 G) Q := by
  have hM' : MS (evG R 0 G) := hM
  have hl : st.length < 64 := by
    rcases Nat.lt_or_ge st.length 64 with q | q
    · exact q
    · unfold mst at hy
      rw [if_pos q] at hy
      cases hy
  have hx := xin_nI (n := st.length) (m := 400) (by omega) (by decide)
  have hc : (nI st.length).toNatClampNeg = st.length := nI_clamp (by omega)
  have e1 : nI k + Int32.ofInt 1 = nI (k + 1) := nI_1 k
  have hl' : ¬ 64 ≤ st.length := by omega
  obtain ⟨B, C, hB⟩ : ∃ B C, k_Mdl_reckonAll_95 K = (xIst 6 (xIinc 4 1 (xIld 5 (xI 20 (xicmp_ge (xIld 5 (xI 28 (xicmp_ge (xIld 5 (xI 28 (xicmp_ne (xAld 0 (xGetR 11 37 (xIld 3 (xI 1 (xisub (xLaldh (xIld 5 (xI 29 (xicmp_ne (xL 1 (k_Mdl_reckonAll_323 K)) (xL 0 (k_Mdl_reckonAll_323 K))))))))))) (xAld 0 (xGetR 11 37 (xIld 3 (xI 1 (xisub (xL 1 (xAld 0 (xGetR 11 37 (xIld 3 (xI 1 (xisub (xLaldh (xlsub (xLasth (k_Mdl_reckonAll_337 K)))))))))))))))))) B))) C))))) := ⟨_, _, rfl⟩
  have c1 : (20 : Int32) ≤ 28 := by decide
  have c2 : (28 : Int32) ≤ 28 := by decide
  subst i2
  cases st with
  | nil =>
    unfold mst at hy
    simp only [List.length_nil, i1, show ¬ 64 ≤ 0 by decide, if_false, show ¬ 10 = 0 by decide, show ¬ 10 = 1 by decide, reduceIte] at hy
    cases hy
  | cons x r =>
    simp only [List.length_cons] at hl hl' hx hc
    have eP : nI (r.length + 1) - 1 = nI r.length := nI_sub (a := r.length + 1) (b := 1) (by omega)
    have eQ : nI (r.length + 1) + Int32.ofInt (-1) = nI r.length := by rw [← eP, Int32.sub_eq_add_neg, show Int32.ofInt (-1) = -1 by decide]
    have hx1 := xin_nI (n := r.length) (m := 400) (by omega) (by decide)
    have hc1 : (nI r.length).toNatClampNeg = r.length := nI_clamp (by omega)
    have hy' : y = some (k + 1, (1 - x) :: r) := by
      unfold mst at hy
      simp only [List.length_cons, i1, hl', if_false, show ¬ 10 = 0 by decide, show ¬ 10 = 1 by decide, reduceIte] at hy
      exact (Option.some.inj hy).symm
    have hz := h1 _ hy' (fun j => if j = r.length then 1 - x else R j) ⟨by simp, RS_up r (Nat.le_refl _) hR.2⟩
    have c3 : ((28 : Int32) = 28) = True := by decide
    simp only [hB, k_Mdl_reckonAll_337, w_iadd, w_isub, w_imul, w_iand, w_ior, w_ixor, w_ishl, w_ishr, w_iushr, w_idiv, w_irem, w_ineg, w_ladd, w_lsub, w_lmul, w_ldiv, w_lrem, w_i2l, w_l2i, w_i2c, w_lcmp, w_dup_int, w_pop_int, w_dup_ref, w_pop_ref, w_dup_retAddr, w_pop_retAddr, w_dup2, w_I, w_L, w_Null, w_Ild, w_Lld, w_Ald, w_Ist, w_Lst, w_Ast, w_Iinc, w_if_eq, w_icmp_eq, w_if_ne, w_icmp_ne, w_if_lt, w_icmp_lt, w_if_ge, w_icmp_ge, w_if_gt, w_icmp_gt, w_if_le, w_icmp_le, w_GetI, w_GetL, w_GetR, w_PutI, w_PutZ, w_PutL, w_PutR, w_PutN, w_Iald, w_Zald, w_Lald, w_Aald, w_Iast, w_Zast, w_Last, w_AastR, w_AastN, w_Alen, w_New, w_NewA, w_Mna, w_Iret, w_Zret, w_Cret, w_Bret, w_Lret, w_AretR, w_AretN, w_Vret, w_Obj, w_IfNN, w_IfNR, w_Copy, w_Cln, w_Cast, w_SfA, w_SfI, w_SfQ, w_Str, w_ScLd, w_ScLen, w_CV0, w_CS0, w_CV1, w_CS1, w_CV2, w_CS2, w_CV3, w_CS3, w_CV4, w_CS4, w_CV5, w_CS5, List.getElem?_cons_zero, List.getElem?_cons_succ, List.set_cons_zero, List.set_cons_succ, List.length_cons, List.length_nil, List.map_cons, List.map_nil, List.sum_cons, List.sum_nil, List.nil_append, List.cons_append, Option.toList_some, Option.toList_none, Value.category, xok, va_rf, true_and, and_true, and_self, Nat.reduceAdd, Nat.reduceLT, Nat.reduceLeDiff, Nat.reduceEqDiff, Nat.reduceMul, beq_self_eq_true, decide_true, ite_true, ite_false, if_true, if_false, reduceIte, Bool.true_eq_false, Bool.false_eq_true, eq_self_iff_true, Nat.zero_le, not_true_eq_false, not_false_eq_true, forall_const, false_implies, implies_true, forall_false, hM'.all, e1, c1, c2, c3, eP, hx1, hc1, ev_st, ev_R, hR.1]
    exact ⟨hx1, hx1, hz⟩
theorem ra_and {G : XH} (hM : MS G) (Q : XR → Prop) (od : Bool) (ho : hpI G 70 20 = if od then 1 else 0) (I : Nat → Nat × Nat) (k : Nat) (hk : k < 400) (p q op arg : Int32) (o6 : Option Value) (i1 : (I k).1 = 12) (i2 : op = 29) (i3 : arg = nI (I k).2) (st : List Int64) (R : Nat → Int64) (hR : RS R st) (K : XK) (y : Option (Nat × List Int64)) (hy : mst I (menv od G) k st = some y)
    (h0 : y = none → ∀ (R' : Nat → Int64) (n' : Nat), WP K [some (.ref 70), some (.int p), some (.int q), some (.int (nI n')), some (.int (nI (k + 1))), some (.int op), some (.int arg)] [] (evG R' 1 G) Q)
    (h1 : ∀ x, y = some x → ∀ (R' : Nat → Int64), RS R' x.2 → WP K [some (.ref 70), some (.int p), some (.int q), some (.int (nI x.2.length)), some (.int (nI x.1)), some (.int op), some (.int arg)] [] (evG R' 0 G) Q) :
    WP (k_Mdl_reckonAll_95 K) [some (.ref 70), some (.int p), some (.int q), some (.int (nI st.length)), some (.int (nI k)), some (.int op), o6] [.int arg] (evG R 0 G) Q := by
  have hM' : MS (evG R 0 G) := hM
  have hl : st.length < 64 := by
    rcases Nat.lt_or_ge st.length 64 with q | q
    · exact q
    · unfold mst at hy
      rw [if_pos q] at hy
      cases hy
  have hx := xin_nI (n := st.length) (m := 400) (by omega) (by decide)
  have hc : (nI st.length).toNatClampNeg = st.length := nI_clamp (by omega)
  have e1 : nI k + Int32.ofInt 1 = nI (k + 1) := nI_1 k
  have hl' : ¬ 64 ≤ st.length := by omega
  obtain ⟨B, C, hB⟩ : ∃ B C, k_Mdl_reckonAll_95 K = (xIst 6 (xIinc 4 1 (xIld 5 (xI 20 (xicmp_ge (xIld 5 (xI 28 (xicmp_ge (xIld 5 (xI 28 (xicmp_ne (xAld 0 (xGetR 11 37 (xIld 3 (xI 1 (xisub (xLaldh (xIld 5 (xI 29 (xicmp_ne (xL 1 (k_Mdl_reckonAll_323 K)) (xL 0 (k_Mdl_reckonAll_323 K))))))))))) (xAld 0 (xGetR 11 37 (xIld 3 (xI 1 (xisub (xL 1 (xAld 0 (xGetR 11 37 (xIld 3 (xI 1 (xisub (xLaldh (xlsub (xLasth (k_Mdl_reckonAll_337 K)))))))))))))))))) B))) C))))) := ⟨_, _, rfl⟩
  have c1 : (20 : Int32) ≤ 29 := by decide
  have c2 : (28 : Int32) ≤ 29 := by decide
  subst i2
  cases st with
  | nil =>
    unfold mst at hy
    simp only [List.length_nil, i1, show ¬ 64 ≤ 0 by decide, if_false, show ¬ 12 = 0 by decide, show ¬ 12 = 1 by decide, reduceIte] at hy
    cases hy
  | cons x r =>
    simp only [List.length_cons] at hl hl' hx hc
    have eP : nI (r.length + 1) - 1 = nI r.length := nI_sub (a := r.length + 1) (b := 1) (by omega)
    have eQ : nI (r.length + 1) + Int32.ofInt (-1) = nI r.length := by rw [← eP, Int32.sub_eq_add_neg, show Int32.ofInt (-1) = -1 by decide]
    have hx1 := xin_nI (n := r.length) (m := 400) (by omega) (by decide)
    have hc1 : (nI r.length).toNatClampNeg = r.length := nI_clamp (by omega)
    have hy' : y = if x = 0 then some ((I k).2, x :: r) else some (k + 1, r) := by
      unfold mst at hy
      simp only [List.length_cons, i1, hl', if_false, show ¬ 12 = 0 by decide, show ¬ 12 = 1 by decide, show ¬ 12 = 10 by decide, show ¬ 12 = 11 by decide, reduceIte] at hy
      split at hy
      · rename_i g
        rw [if_pos g]
        exact (Option.some.inj hy).symm
      · rename_i g
        rw [if_neg g]
        exact (Option.some.inj hy).symm
    have c3 : ((29 : Int32) = 28) = False := by decide
    have c4 : ((29 : Int32) = 29) = True := by decide
    subst i3
    simp only [hB, k_Mdl_reckonAll_323, k_Mdl_reckonAll_337, w_iadd, w_isub, w_imul, w_iand, w_ior, w_ixor, w_ishl, w_ishr, w_iushr, w_idiv, w_irem, w_ineg, w_ladd, w_lsub, w_lmul, w_ldiv, w_lrem, w_i2l, w_l2i, w_i2c, w_lcmp, w_dup_int, w_pop_int, w_dup_ref, w_pop_ref, w_dup_retAddr, w_pop_retAddr, w_dup2, w_I, w_L, w_Null, w_Ild, w_Lld, w_Ald, w_Ist, w_Lst, w_Ast, w_Iinc, w_if_eq, w_icmp_eq, w_if_ne, w_icmp_ne, w_if_lt, w_icmp_lt, w_if_ge, w_icmp_ge, w_if_gt, w_icmp_gt, w_if_le, w_icmp_le, w_GetI, w_GetL, w_GetR, w_PutI, w_PutZ, w_PutL, w_PutR, w_PutN, w_Iald, w_Zald, w_Lald, w_Aald, w_Iast, w_Zast, w_Last, w_AastR, w_AastN, w_Alen, w_New, w_NewA, w_Mna, w_Iret, w_Zret, w_Cret, w_Bret, w_Lret, w_AretR, w_AretN, w_Vret, w_Obj, w_IfNN, w_IfNR, w_Copy, w_Cln, w_Cast, w_SfA, w_SfI, w_SfQ, w_Str, w_ScLd, w_ScLen, w_CV0, w_CS0, w_CV1, w_CS1, w_CV2, w_CS2, w_CV3, w_CS3, w_CV4, w_CS4, w_CV5, w_CS5, List.getElem?_cons_zero, List.getElem?_cons_succ, List.set_cons_zero, List.set_cons_succ, List.length_cons, List.length_nil, List.map_cons, List.map_nil, List.sum_cons, List.sum_nil, List.nil_append, List.cons_append, Option.toList_some, Option.toList_none, Value.category, xok, va_rf, true_and, and_true, and_self, Nat.reduceAdd, Nat.reduceLT, Nat.reduceLeDiff, Nat.reduceEqDiff, Nat.reduceMul, beq_self_eq_true, decide_true, ite_true, ite_false, if_true, if_false, reduceIte, Bool.true_eq_false, Bool.false_eq_true, eq_self_iff_true, Nat.zero_le, not_true_eq_false, not_false_eq_true, forall_const, false_implies, implies_true, forall_false, hM'.all, e1, c1, c2, c3, c4, eP, eQ, hx1, hc1, ev_R, hR.1, lg_eq]
    refine ⟨hx1, fun g => ?_, fun g => ?_⟩
    · rw [if_pos g] at hy'
      exact h1 _ hy' R hR
    · rw [if_neg g] at hy'
      exact h1 _ hy' R hR.2
theorem ra_or {G : XH} (hM : MS G) (Q : XR → Prop) (od : Bool) (ho : hpI G 70 20 = if od then 1 else 0) (I : Nat → Nat × Nat) (k : Nat) (hk : k < 400) (p q op arg : Int32) (o6 : Option Value) (i1 : (I k).1 = 11) (i2 : op = 30) (i3 : arg = nI (I k).2) (st : List Int64) (R : Nat → Int64) (hR : RS R st) (K : XK) (y : Option (Nat × List Int64)) (hy : mst I (menv od G) k st = some y)
    (h0 : y = none → ∀ (R' : Nat → Int64) (n' : Nat), WP K [some (.ref 70), some (.int p), some (.int q), some (.int (nI n')), some (.int (nI (k + 1))), some (.int op), some (.int arg)] [] (evG R' 1 G) Q)
    (h1 : ∀ x, y = some x → ∀ (R' : Nat → Int64), RS R' x.2 → WP K [some (.ref 70), some (.int p), some (.int q), some (.int (nI x.2.length)), some (.int (nI x.1)), some (.int op), some (.int arg)] [] (evG R' 0 G) Q) :
    WP (k_Mdl_reckonAll_95 K) [some (.ref 70), some (.int p), some (.int q), some (.int (nI st.length)), some (.int (nI k)), some (.int op), o6] [.int arg] (evG R 0 G) Q := by
  have hM' : MS (evG R 0 G) := hM
  have hl : st.length < 64 := by
    rcases Nat.lt_or_ge st.length 64 with q | q
    · exact q
    · unfold mst at hy
      rw [if_pos q] at hy
      cases hy
  have hx := xin_nI (n := st.length) (m := 400) (by omega) (by decide)
  have hc : (nI st.length).toNatClampNeg = st.length := nI_clamp (by omega)
  have e1 : nI k + Int32.ofInt 1 = nI (k + 1) := nI_1 k
  have hl' : ¬ 64 ≤ st.length := by omega
  obtain ⟨B, C, hB⟩ : ∃ B C, k_Mdl_reckonAll_95 K = (xIst 6 (xIinc 4 1 (xIld 5 (xI 20 (xicmp_ge (xIld 5 (xI 28 (xicmp_ge (xIld 5 (xI 28 (xicmp_ne (xAld 0 (xGetR 11 37 (xIld 3 (xI 1 (xisub (xLaldh (xIld 5 (xI 29 (xicmp_ne (xL 1 (k_Mdl_reckonAll_323 K)) (xL 0 (k_Mdl_reckonAll_323 K))))))))))) (xAld 0 (xGetR 11 37 (xIld 3 (xI 1 (xisub (xL 1 (xAld 0 (xGetR 11 37 (xIld 3 (xI 1 (xisub (xLaldh (xlsub (xLasth (k_Mdl_reckonAll_337 K)))))))))))))))))) B))) C))))) := ⟨_, _, rfl⟩
  have c1 : (20 : Int32) ≤ 30 := by decide
  have c2 : (28 : Int32) ≤ 30 := by decide
  subst i2
  cases st with
  | nil =>
    unfold mst at hy
    simp only [List.length_nil, i1, show ¬ 64 ≤ 0 by decide, if_false, show ¬ 11 = 0 by decide, show ¬ 11 = 1 by decide, reduceIte] at hy
    cases hy
  | cons x r =>
    simp only [List.length_cons] at hl hl' hx hc
    have eP : nI (r.length + 1) - 1 = nI r.length := nI_sub (a := r.length + 1) (b := 1) (by omega)
    have eQ : nI (r.length + 1) + Int32.ofInt (-1) = nI r.length := by rw [← eP, Int32.sub_eq_add_neg, show Int32.ofInt (-1) = -1 by decide]
    have hx1 := xin_nI (n := r.length) (m := 400) (by omega) (by decide)
    have hc1 : (nI r.length).toNatClampNeg = r.length := nI_clamp (by omega)
    have hy' : y = if x = 1 then some ((I k).2, x :: r) else some (k + 1, r) := by
      unfold mst at hy
      simp only [List.length_cons, i1, hl', if_false, show ¬ 11 = 0 by decide, show ¬ 11 = 1 by decide, show ¬ 11 = 10 by decide,  reduceIte] at hy
      split at hy
      · rename_i g
        rw [if_pos g]
        exact (Option.some.inj hy).symm
      · rename_i g
        rw [if_neg g]
        exact (Option.some.inj hy).symm
    have c3 : ((30 : Int32) = 28) = False := by decide
    have c4 : ((30 : Int32) = 29) = False := by decide
    subst i3
    simp only [hB, k_Mdl_reckonAll_323, k_Mdl_reckonAll_337, w_iadd, w_isub, w_imul, w_iand, w_ior, w_ixor, w_ishl, w_ishr, w_iushr, w_idiv, w_irem, w_ineg, w_ladd, w_lsub, w_lmul, w_ldiv, w_lrem, w_i2l, w_l2i, w_i2c, w_lcmp, w_dup_int, w_pop_int, w_dup_ref, w_pop_ref, w_dup_retAddr, w_pop_retAddr, w_dup2, w_I, w_L, w_Null, w_Ild, w_Lld, w_Ald, w_Ist, w_Lst, w_Ast, w_Iinc, w_if_eq, w_icmp_eq, w_if_ne, w_icmp_ne, w_if_lt, w_icmp_lt, w_if_ge, w_icmp_ge, w_if_gt, w_icmp_gt, w_if_le, w_icmp_le, w_GetI, w_GetL, w_GetR, w_PutI, w_PutZ, w_PutL, w_PutR, w_PutN, w_Iald, w_Zald, w_Lald, w_Aald, w_Iast, w_Zast, w_Last, w_AastR, w_AastN, w_Alen, w_New, w_NewA, w_Mna, w_Iret, w_Zret, w_Cret, w_Bret, w_Lret, w_AretR, w_AretN, w_Vret, w_Obj, w_IfNN, w_IfNR, w_Copy, w_Cln, w_Cast, w_SfA, w_SfI, w_SfQ, w_Str, w_ScLd, w_ScLen, w_CV0, w_CS0, w_CV1, w_CS1, w_CV2, w_CS2, w_CV3, w_CS3, w_CV4, w_CS4, w_CV5, w_CS5, List.getElem?_cons_zero, List.getElem?_cons_succ, List.set_cons_zero, List.set_cons_succ, List.length_cons, List.length_nil, List.map_cons, List.map_nil, List.sum_cons, List.sum_nil, List.nil_append, List.cons_append, Option.toList_some, Option.toList_none, Value.category, xok, va_rf, true_and, and_true, and_self, Nat.reduceAdd, Nat.reduceLT, Nat.reduceLeDiff, Nat.reduceEqDiff, Nat.reduceMul, beq_self_eq_true, decide_true, ite_true, ite_false, if_true, if_false, reduceIte, Bool.true_eq_false, Bool.false_eq_true, eq_self_iff_true, Nat.zero_le, not_true_eq_false, not_false_eq_true, forall_const, false_implies, implies_true, forall_false, hM'.all, e1, c1, c2, c3, c4, eP, eQ, hx1, hc1, ev_R, hR.1, lg_eq]
    refine ⟨hx1, fun g => ?_, fun g => ?_⟩
    · rw [if_pos g] at hy'
      exact h1 _ hy' R hR
    · rw [if_neg g] at hy'
      exact h1 _ hy' R hR.2
