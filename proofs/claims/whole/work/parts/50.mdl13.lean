theorem ra_num {G : XH} (hM : MS G) (Q : XR → Prop) (od : Bool) (ho : hpI G 70 20 = if od then 1 else 0) (I : Nat → Nat × Nat) (k : Nat) (hk : k < 400) (p q op arg : Int32) (o6 : Option Value) (i1 : op = 0) (i2 : (I k).1 = 0) (i3 : arg = nI (I k).2) (i4 : (I k).2 ≤ 1000) (st : List Int64) (R : Nat → Int64) (hR : RS R st) (K : XK) (y : Option (Nat × List Int64)) (hy : mst I (menv od G) k st = some y)
    (h0 : y = none → ∀ (R' : Nat → Int64) (n' : Nat), WP K [some (.ref 70), some (.int p), some (.int q), some (.int (nI n')), some (.int (nI (k + 1))), some (.int op), some (.int arg)] [] (evG R' 1 G) Q)
    (h1 : ∀ x, y = some x → ∀ (R' : Nat → Int64), RS R' x.2 → WP K [some (.ref 70), some (.int p), some (.int q), some (.int (nI x.2.length)), some (.int (nI x.1)), some (.int op), some (.int arg)] [] (evG R' 0 G) Q) :
    WP (k_Mdl_reckonAll_95 K) [some (.ref 70), some (.int p), some (.int q), some (.int (nI st.length)), some (.int (nI k)), some (.int op), o6] [.int arg] (evG R 0 G) Q := by
  have hM' : MS (evG R 0 G) := hM
  have hl : st.length < 64 := by
    rcases Nat.lt_or_ge st.length 64 with q | q
    · exact q
    · unfold mst at hy
      rw [if_pos q] at hy
      cases hy
  have hx := xin_nI (n := st.length) (m := 400) (by omega) (by decide)
  have hc : (nI st.length).toNatClampNeg = st.length := nI_clamp (by omega)
  have e1 : nI k + Int32.ofInt 1 = nI (k + 1) := nI_1 k
  have hl' : ¬ 64 ≤ st.length := by omega
  have hy' : y = some (k + 1, Int64.ofNat (I k).2 :: st) := by
    unfold mst at hy
    rw [if_neg hl', if_pos i2] at hy
    exact (Option.some.inj hy).symm
  have hz := h1 _ hy' (fun j => if j = st.length then Int64.ofNat (I k).2 else R j) ⟨by simp, RS_up st (Nat.le_refl _) hR⟩
  subst i1
  have c1 : ¬ (20 : Int32) ≤ 0 := by decide
  have eA : Int32.toInt64 arg = Int64.ofNat (I k).2 := by rw [i3]; exact nI_64 (by omega)
  obtain ⟨B, C, hB⟩ : ∃ B C, k_Mdl_reckonAll_95 K = xIst 6 (xIinc 4 1 (xIld 5 (xI 20 (xicmp_ge B (xAld 0 (xGetR 11 37 (xIld 3 (xIld 5 (xif_ne C (xIld 6 (xi2l (k_Mdl_reckonAll_191 K)))))))))))) := ⟨_, _, rfl⟩
  rw [hB]
  simp only [k_Mdl_reckonAll_191, k_Mdl_reckonAll_337, w_iadd, w_isub, w_imul, w_iand, w_ior, w_ixor, w_ishl, w_ishr, w_iushr, w_idiv, w_irem, w_ineg, w_ladd, w_lsub, w_lmul, w_ldiv, w_lrem, w_i2l, w_l2i, w_i2c, w_lcmp, w_dup_int, w_pop_int, w_dup_ref, w_pop_ref, w_dup_retAddr, w_pop_retAddr, w_dup2, w_I, w_L, w_Null, w_Ild, w_Lld, w_Ald, w_Ist, w_Lst, w_Ast, w_Iinc, w_if_eq, w_icmp_eq, w_if_ne, w_icmp_ne, w_if_lt, w_icmp_lt, w_if_ge, w_icmp_ge, w_if_gt, w_icmp_gt, w_if_le, w_icmp_le, w_GetI, w_GetL, w_GetR, w_PutI, w_PutZ, w_PutL, w_PutR, w_PutN, w_Iald, w_Zald, w_Lald, w_Aald, w_Iast, w_Zast, w_Last, w_AastR, w_AastN, w_Alen, w_New, w_NewA, w_Mna, w_Iret, w_Zret, w_Cret, w_Bret, w_Lret, w_AretR, w_AretN, w_Vret, w_Obj, w_IfNN, w_IfNR, w_Copy, w_Cln, w_Cast, w_SfA, w_SfI, w_SfQ, w_Str, w_ScLd, w_ScLen, w_CV0, w_CS0, w_CV1, w_CS1, w_CV2, w_CS2, w_CV3, w_CS3, w_CV4, w_CS4, w_CV5, w_CS5, List.getElem?_cons_zero, List.getElem?_cons_succ, List.set_cons_zero, List.set_cons_succ, List.length_cons, List.length_nil, List.map_cons, List.map_nil, List.sum_cons, List.sum_nil, List.nil_append, List.cons_append, Option.toList_some, Option.toList_none, Value.category, xok, va_rf, true_and, and_true, and_self, Nat.reduceAdd, Nat.reduceLT, Nat.reduceLeDiff, Nat.reduceEqDiff, Nat.reduceMul, beq_self_eq_true, decide_true, ite_true, ite_false, if_true, if_false, reduceIte, Bool.true_eq_false, Bool.false_eq_true, eq_self_iff_true, Nat.zero_le, not_true_eq_false, not_false_eq_true, forall_const, false_implies, implies_true, forall_false, hM'.all, e1, c1, hx, hc, ev_st, eA, show nI st.length + Int32.ofInt 1 = nI (st.length + 1) from nI_1 _]
  exact ⟨hx, hz⟩
theorem ra_word {G : XH} (hM : MS G) (Q : XR → Prop) (od : Bool) (ho : hpI G 70 20 = if od then 1 else 0) (I : Nat → Nat × Nat) (k : Nat) (hk : k < 400) (p q op arg : Int32) (o6 : Option Value) (w : Nat) (i1 : w < (if od then 5 else 10)) (i2 : op = nI (w + 1)) (i3 : I k = (1, w)) (st : List Int64) (R : Nat → Int64) (hR : RS R st) (K : XK) (y : Option (Nat × List Int64)) (hy : mst I (menv od G) k st = some y)
    (h0 : y = none → ∀ (R' : Nat → Int64) (n' : Nat), WP K [some (.ref 70), some (.int p), some (.int q), some (.int (nI n')), some (.int (nI (k + 1))), some (.int op), some (.int arg)] [] (evG R' 1 G) Q)
    (h1 : ∀ x, y = some x → ∀ (R' : Nat → Int64), RS R' x.2 → WP K [some (.ref 70), some (.int p), some (.int q), some (.int (nI x.2.length)), some (.int (nI x.1)), some (.int op), some (.int arg)] [] (evG R' 0 G) Q) :
    WP (k_Mdl_reckonAll_95 K) [some (.ref 70), some (.int p), some (.int q), some (.int (nI st.length)), some (.int (nI k)), some (.int op), o6] [.int arg] (evG R 0 G) Q := by
  have hM' : MS (evG R 0 G) := hM
  have hl : st.length < 64 := by
    rcases Nat.lt_or_ge st.length 64 with q | q
    · exact q
    · unfold mst at hy
      rw [if_pos q] at hy
      cases hy
  have hx := xin_nI (n := st.length) (m := 400) (by omega) (by decide)
  have hc : (nI st.length).toNatClampNeg = st.length := nI_clamp (by omega)
  have e1 : nI k + Int32.ofInt 1 = nI (k + 1) := nI_1 k
  have hl' : ¬ 64 ≤ st.length := by omega
  obtain ⟨B, hB⟩ : ∃ B, k_Mdl_reckonAll_95 K = (xIst 6 (xIinc 4 1 (xIld 5 (xI 20 (xicmp_ge B (xAld 0 (xGetR 11 37 (xIld 3 (xIld 5 (xif_ne (xAld 0 (xGetI 11 20 (xif_ne (xIld 5 (xI 6 (xicmp_ge (xAld 0 (xIld 6 (xCallV 11 1 D_Mdl_isReader (xif_ne (xAld 0 (xIld 6 (xIld 5 (xI 6 (xicmp_ne (xI 4 (k_Mdl_reckonAll_187 K)) (xI 2 (k_Mdl_reckonAll_187 K))))))) (xL (-1) (k_Mdl_reckonAll_191 K)))))) (xAld 0 (xGetR 11 36 (xIld 5 (xLaldh (k_Mdl_reckonAll_191 K)))))))) (xAld 0 (xGetR 11 35 (xIld 5 (xLaldh (k_Mdl_reckonAll_191 K)))))))) (xIld 6 (xi2l (k_Mdl_reckonAll_191 K))))))))))))) := ⟨_, rfl⟩
  have hy' : y = some (k + 1, menv od G w :: st) := by
    unfold mst at hy
    rw [if_neg hl', i3, if_neg (show ¬ 1 = 0 by decide), if_pos rfl] at hy
    exact (Option.some.inj hy).symm
  have hz := h1 _ hy' (fun j => if j = st.length then menv od G w else R j) ⟨by simp, RS_up st (Nat.le_refl _) hR⟩
  have hw : w < 10 := by cases od <;> simp at i1 <;> omega
  have c1 : ¬ (20 : Int32) ≤ op := by rw [i2]; exact fun q => absurd ((nI_leI (a := 20) (by decide) (by omega)).mp q) (by omega)
  have c2 : ¬ op = 0 := by rw [i2]; exact fun q => absurd ((nI_eq (b := 0) (by omega) (by decide)).mp q) (by omega)
  have hb : xin op 13 := by rw [i2]; exact xin_nI (by omega) (by decide)
  have hc2 : op.toNatClampNeg = w + 1 := by rw [i2]; exact nI_clamp (by omega)
  cases od with
  | false =>
    have ho' : hpI (evG R 0 G) 70 20 = 0 := by rw [ev_m (by decide), ho]; rfl
    have eE : hpL (evG R 0 G) 88 (w + 1) = menv false G w := by rw [ev_L (by decide)]; rfl
    simp only [hB, k_Mdl_reckonAll_191, k_Mdl_reckonAll_337, k_Mdl_reckonAll_187, w_iadd, w_isub, w_imul, w_iand, w_ior, w_ixor, w_ishl, w_ishr, w_iushr, w_idiv, w_irem, w_ineg, w_ladd, w_lsub, w_lmul, w_ldiv, w_lrem, w_i2l, w_l2i, w_i2c, w_lcmp, w_dup_int, w_pop_int, w_dup_ref, w_pop_ref, w_dup_retAddr, w_pop_retAddr, w_dup2, w_I, w_L, w_Null, w_Ild, w_Lld, w_Ald, w_Ist, w_Lst, w_Ast, w_Iinc, w_if_eq, w_icmp_eq, w_if_ne, w_icmp_ne, w_if_lt, w_icmp_lt, w_if_ge, w_icmp_ge, w_if_gt, w_icmp_gt, w_if_le, w_icmp_le, w_GetI, w_GetL, w_GetR, w_PutI, w_PutZ, w_PutL, w_PutR, w_PutN, w_Iald, w_Zald, w_Lald, w_Aald, w_Iast, w_Zast, w_Last, w_AastR, w_AastN, w_Alen, w_New, w_NewA, w_Mna, w_Iret, w_Zret, w_Cret, w_Bret, w_Lret, w_AretR, w_AretN, w_Vret, w_Obj, w_IfNN, w_IfNR, w_Copy, w_Cln, w_Cast, w_SfA, w_SfI, w_SfQ, w_Str, w_ScLd, w_ScLen, w_CV0, w_CS0, w_CV1, w_CS1, w_CV2, w_CS2, w_CV3, w_CS3, w_CV4, w_CS4, w_CV5, w_CS5, List.getElem?_cons_zero, List.getElem?_cons_succ, List.set_cons_zero, List.set_cons_succ, List.length_cons, List.length_nil, List.map_cons, List.map_nil, List.sum_cons, List.sum_nil, List.nil_append, List.cons_append, Option.toList_some, Option.toList_none, Value.category, xok, va_rf, true_and, and_true, and_self, Nat.reduceAdd, Nat.reduceLT, Nat.reduceLeDiff, Nat.reduceEqDiff, Nat.reduceMul, beq_self_eq_true, decide_true, ite_true, ite_false, if_true, if_false, reduceIte, Bool.true_eq_false, Bool.false_eq_true, eq_self_iff_true, Nat.zero_le, not_true_eq_false, not_false_eq_true, forall_const, false_implies, implies_true, forall_false, hM'.all, e1, c1, c2, hx, hc, hb, hc2, ev_st, ho', eE, show nI st.length + Int32.ofInt 1 = nI (st.length + 1) from nI_1 _]
    exact ⟨hb, hx, hz⟩
  | true =>
    have ho' : hpI (evG R 0 G) 70 20 = 1 := by rw [ev_m (by decide), ho]; rfl
    have n1 : ¬ (1 : Int32) = 0 := by decide
    have hw5 : w < 5 := by simpa using i1
    have c6 : ¬ (6 : Int32) ≤ op := by rw [i2]; exact fun q => absurd ((nI_leI (a := 6) (by decide) (by omega)).mp q) (by omega)
    have eE : hpL (evG R 0 G) 89 (w + 1) = menv true G w := by rw [ev_L (by decide)]; simp [menv, hw5]
    simp only [hB, k_Mdl_reckonAll_191, k_Mdl_reckonAll_337, k_Mdl_reckonAll_187, w_iadd, w_isub, w_imul, w_iand, w_ior, w_ixor, w_ishl, w_ishr, w_iushr, w_idiv, w_irem, w_ineg, w_ladd, w_lsub, w_lmul, w_ldiv, w_lrem, w_i2l, w_l2i, w_i2c, w_lcmp, w_dup_int, w_pop_int, w_dup_ref, w_pop_ref, w_dup_retAddr, w_pop_retAddr, w_dup2, w_I, w_L, w_Null, w_Ild, w_Lld, w_Ald, w_Ist, w_Lst, w_Ast, w_Iinc, w_if_eq, w_icmp_eq, w_if_ne, w_icmp_ne, w_if_lt, w_icmp_lt, w_if_ge, w_icmp_ge, w_if_gt, w_icmp_gt, w_if_le, w_icmp_le, w_GetI, w_GetL, w_GetR, w_PutI, w_PutZ, w_PutL, w_PutR, w_PutN, w_Iald, w_Zald, w_Lald, w_Aald, w_Iast, w_Zast, w_Last, w_AastR, w_AastN, w_Alen, w_New, w_NewA, w_Mna, w_Iret, w_Zret, w_Cret, w_Bret, w_Lret, w_AretR, w_AretN, w_Vret, w_Obj, w_IfNN, w_IfNR, w_Copy, w_Cln, w_Cast, w_SfA, w_SfI, w_SfQ, w_Str, w_ScLd, w_ScLen, w_CV0, w_CS0, w_CV1, w_CS1, w_CV2, w_CS2, w_CV3, w_CS3, w_CV4, w_CS4, w_CV5, w_CS5, List.getElem?_cons_zero, List.getElem?_cons_succ, List.set_cons_zero, List.set_cons_succ, List.length_cons, List.length_nil, List.map_cons, List.map_nil, List.sum_cons, List.sum_nil, List.nil_append, List.cons_append, Option.toList_some, Option.toList_none, Value.category, xok, va_rf, true_and, and_true, and_self, Nat.reduceAdd, Nat.reduceLT, Nat.reduceLeDiff, Nat.reduceEqDiff, Nat.reduceMul, beq_self_eq_true, decide_true, ite_true, ite_false, if_true, if_false, reduceIte, Bool.true_eq_false, Bool.false_eq_true, eq_self_iff_true, Nat.zero_le, not_true_eq_false, not_false_eq_true, forall_const, false_implies, implies_true, forall_false, hM'.all, e1, c1, c2, c6, n1, hx, hc, hb, hc2, ev_st, ho', eE, show nI st.length + Int32.ofInt 1 = nI (st.length + 1) from nI_1 _]
    exact ⟨hb, hx, hz⟩
theorem ra_tired {G : XH} (hM : MS G) (Q : XR → Prop) (od : Bool) (ho : hpI G 70 20 = if od then 1 else 0) (I : Nat → Nat × Nat) (k : Nat) (hk : k < 400) (p q op arg : Int32) (o6 : Option Value) (d : od = true) (r : Nat) (i1 : r < 8) (i2 : op = 6) (i3 : arg = nI r) (i4 : I k = (1, 5 + r)) (st : List Int64) (R : Nat → Int64) (hR : RS R st) (K : XK) (y : Option (Nat × List Int64)) (hy : mst I (menv od G) k st = some y)
    (h0 : y = none → ∀ (R' : Nat → Int64) (n' : Nat), WP K [some (.ref 70), some (.int p), some (.int q), some (.int (nI n')), some (.int (nI (k + 1))), some (.int op), some (.int arg)] [] (evG R' 1 G) Q)
    (h1 : ∀ x, y = some x → ∀ (R' : Nat → Int64), RS R' x.2 → WP K [some (.ref 70), some (.int p), some (.int q), some (.int (nI x.2.length)), some (.int (nI x.1)), some (.int op), some (.int arg)] [] (evG R' 0 G) Q) :
    WP (k_Mdl_reckonAll_95 K) [some (.ref 70), some (.int p), some (.int q), some (.int (nI st.length)), some (.int (nI k)), some (.int op), o6] [.int arg] (evG R 0 G) Q := by
  have hM' : MS (evG R 0 G) := hM
  have hl : st.length < 64 := by
    rcases Nat.lt_or_ge st.length 64 with q | q
    · exact q
    · unfold mst at hy
      rw [if_pos q] at hy
      cases hy
  have hx := xin_nI (n := st.length) (m := 400) (by omega) (by decide)
  have hc : (nI st.length).toNatClampNeg = st.length := nI_clamp (by omega)
  have e1 : nI k + Int32.ofInt 1 = nI (k + 1) := nI_1 k
  have hl' : ¬ 64 ≤ st.length := by omega
  obtain ⟨B, hB⟩ : ∃ B, k_Mdl_reckonAll_95 K = (xIst 6 (xIinc 4 1 (xIld 5 (xI 20 (xicmp_ge B (xAld 0 (xGetR 11 37 (xIld 3 (xIld 5 (xif_ne (xAld 0 (xGetI 11 20 (xif_ne (xIld 5 (xI 6 (xicmp_ge (xAld 0 (xIld 6 (xCallV 11 1 D_Mdl_isReader (xif_ne (xAld 0 (xIld 6 (xIld 5 (xI 6 (xicmp_ne (xI 4 (k_Mdl_reckonAll_187 K)) (xI 2 (k_Mdl_reckonAll_187 K))))))) (xL (-1) (k_Mdl_reckonAll_191 K)))))) (xAld 0 (xGetR 11 36 (xIld 5 (xLaldh (k_Mdl_reckonAll_191 K)))))))) (xAld 0 (xGetR 11 35 (xIld 5 (xLaldh (k_Mdl_reckonAll_191 K)))))))) (xIld 6 (xi2l (k_Mdl_reckonAll_191 K))))))))))))) := ⟨_, rfl⟩
  subst i2
  subst i3
  subst d
  have hy' : y = some (k + 1, menv true G (5 + r) :: st) := by
    unfold mst at hy
    rw [if_neg hl', i4, if_neg (show ¬ 1 = 0 by decide), if_pos rfl] at hy
    exact (Option.some.inj hy).symm
  have hz := h1 _ hy' (fun j => if j = st.length then menv true G (5 + r) else R j) ⟨by simp, RS_up st (Nat.le_refl _) hR⟩
  have c1 : ¬ (20 : Int32) ≤ 6 := by decide
  have c2 : ¬ (6 : Int32) = 0 := by decide
  have c6 : (6 : Int32) ≤ 6 := by decide
  have c7 : ((6 : Int32) = 6) = True := by decide
  have n1 : ¬ (1 : Int32) = 0 := by decide
  have ho' : hpI (evG R 0 G) 70 20 = 1 := by rw [ev_m (by decide), ho]; rfl
  have x5 : 9 + 6 * nI r + 2 = nI (9 + 6 * r + 2) := by rw [cI_9, cI_6, nI_mul, nI_add, show (2 : Int32) = nI 2 from rfl, nI_add]
  have hrd := fun Q => s_isReader hM' Q (nI r)
  have hof := fun Q => s_ofReader hM' Q (nI r) 2 (by rw [x5]; exact xin_nI (by omega) (by decide))
  have hcl : (nI (9 + 6 * r + 2)).toNatClampNeg = 9 + 6 * r + 2 := nI_clamp (by omega)
  have hp : 0 ≤ nI r := nI_pos' (by omega)
  simp only [hB, k_Mdl_reckonAll_191, k_Mdl_reckonAll_337, k_Mdl_reckonAll_187, w_iadd, w_isub, w_imul, w_iand, w_ior, w_ixor, w_ishl, w_ishr, w_iushr, w_idiv, w_irem, w_ineg, w_ladd, w_lsub, w_lmul, w_ldiv, w_lrem, w_i2l, w_l2i, w_i2c, w_lcmp, w_dup_int, w_pop_int, w_dup_ref, w_pop_ref, w_dup_retAddr, w_pop_retAddr, w_dup2, w_I, w_L, w_Null, w_Ild, w_Lld, w_Ald, w_Ist, w_Lst, w_Ast, w_Iinc, w_if_eq, w_icmp_eq, w_if_ne, w_icmp_ne, w_if_lt, w_icmp_lt, w_if_ge, w_icmp_ge, w_if_gt, w_icmp_gt, w_if_le, w_icmp_le, w_GetI, w_GetL, w_GetR, w_PutI, w_PutZ, w_PutL, w_PutR, w_PutN, w_Iald, w_Zald, w_Lald, w_Aald, w_Iast, w_Zast, w_Last, w_AastR, w_AastN, w_Alen, w_New, w_NewA, w_Mna, w_Iret, w_Zret, w_Cret, w_Bret, w_Lret, w_AretR, w_AretN, w_Vret, w_Obj, w_IfNN, w_IfNR, w_Copy, w_Cln, w_Cast, w_SfA, w_SfI, w_SfQ, w_Str, w_ScLd, w_ScLen, w_CV0, w_CS0, w_CV1, w_CS1, w_CV2, w_CS2, w_CV3, w_CS3, w_CV4, w_CS4, w_CV5, w_CS5, List.getElem?_cons_zero, List.getElem?_cons_succ, List.set_cons_zero, List.set_cons_succ, List.length_cons, List.length_nil, List.map_cons, List.map_nil, List.sum_cons, List.sum_nil, List.nil_append, List.cons_append, Option.toList_some, Option.toList_none, Value.category, xok, va_rf, true_and, and_true, and_self, Nat.reduceAdd, Nat.reduceLT, Nat.reduceLeDiff, Nat.reduceEqDiff, Nat.reduceMul, beq_self_eq_true, decide_true, ite_true, ite_false, if_true, if_false, reduceIte, Bool.true_eq_false, Bool.false_eq_true, eq_self_iff_true, Nat.zero_le, not_true_eq_false, not_false_eq_true, forall_const, false_implies, implies_true, forall_false, hM'.all, e1, c1, c2, c6, c7, n1, hx, hc, ho', hrd, hof, ev_st, x5, hcl, hp, ev_I (x := 72) (G := G) (R := R) (b := 0) (by decide), show nI st.length + Int32.ofInt 1 = nI (st.length + 1) from nI_1 _]
  by_cases g : nI r < hpI G 72 1
  · have hE : menv true G (5 + r) = (hpI G 72 (9 + 6 * r + 2)).toInt64 := by
      unfold menv
      simp only [if_true, show ¬ 5 + r < 5 by omega, if_false, show 5 + r < 13 by omega, Nat.add_sub_cancel_left, g, reduceIte]
    rw [hE] at hz
    simp only [g, if_true, reduceIte]
    exact ⟨fun q => absurd q (by decide), fun _ => ⟨hx, hz⟩⟩
  · have hE : menv true G (5 + r) = -1 := by
      unfold menv
      simp only [if_true, show ¬ 5 + r < 5 by omega, if_false, show 5 + r < 13 by omega, Nat.add_sub_cancel_left, g, reduceIte]
    rw [hE] at hz
    simp only [g, if_false, reduceIte]
    exact ⟨fun _ => ⟨hx, hz⟩, fun q => absurd trivial q⟩
theorem ra_owed {G : XH} (hM : MS G) (Q : XR → Prop) (od : Bool) (ho : hpI G 70 20 = if od then 1 else 0) (I : Nat → Nat × Nat) (k : Nat) (hk : k < 400) (p q op arg : Int32) (o6 : Option Value) (d : od = true) (r : Nat) (i1 : r < 8) (i2 : op = 7) (i3 : arg = nI r) (i4 : I k = (1, 13 + r)) (st : List Int64) (R : Nat → Int64) (hR : RS R st) (K : XK) (y : Option (Nat × List Int64)) (hy : mst I (menv od G) k st = some y)
    (h0 : y = none → ∀ (R' : Nat → Int64) (n' : Nat), WP K [some (.ref 70), some (.int p), some (.int q), some (.int (nI n')), some (.int (nI (k + 1))), some (.int op), some (.int arg)] [] (evG R' 1 G) Q)
    (h1 : ∀ x, y = some x → ∀ (R' : Nat → Int64), RS R' x.2 → WP K [some (.ref 70), some (.int p), some (.int q), some (.int (nI x.2.length)), some (.int (nI x.1)), some (.int op), some (.int arg)] [] (evG R' 0 G) Q) :
    WP (k_Mdl_reckonAll_95 K) [some (.ref 70), some (.int p), some (.int q), some (.int (nI st.length)), some (.int (nI k)), some (.int op), o6] [.int arg] (evG R 0 G) Q := by
  have hM' : MS (evG R 0 G) := hM
  have hl : st.length < 64 := by
    rcases Nat.lt_or_ge st.length 64 with q | q
    · exact q
    · unfold mst at hy
      rw [if_pos q] at hy
      cases hy
  have hx := xin_nI (n := st.length) (m := 400) (by omega) (by decide)
  have hc : (nI st.length).toNatClampNeg = st.length := nI_clamp (by omega)
  have e1 : nI k + Int32.ofInt 1 = nI (k + 1) := nI_1 k
  have hl' : ¬ 64 ≤ st.length := by omega
  obtain ⟨B, hB⟩ : ∃ B, k_Mdl_reckonAll_95 K = (xIst 6 (xIinc 4 1 (xIld 5 (xI 20 (xicmp_ge B (xAld 0 (xGetR 11 37 (xIld 3 (xIld 5 (xif_ne (xAld 0 (xGetI 11 20 (xif_ne (xIld 5 (xI 6 (xicmp_ge (xAld 0 (xIld 6 (xCallV 11 1 D_Mdl_isReader (xif_ne (xAld 0 (xIld 6 (xIld 5 (xI 6 (xicmp_ne (xI 4 (k_Mdl_reckonAll_187 K)) (xI 2 (k_Mdl_reckonAll_187 K))))))) (xL (-1) (k_Mdl_reckonAll_191 K)))))) (xAld 0 (xGetR 11 36 (xIld 5 (xLaldh (k_Mdl_reckonAll_191 K)))))))) (xAld 0 (xGetR 11 35 (xIld 5 (xLaldh (k_Mdl_reckonAll_191 K)))))))) (xIld 6 (xi2l (k_Mdl_reckonAll_191 K))))))))))))) := ⟨_, rfl⟩
  subst i2
  subst i3
  subst d
  have hy' : y = some (k + 1, menv true G (13 + r) :: st) := by
    unfold mst at hy
    rw [if_neg hl', i4, if_neg (show ¬ 1 = 0 by decide), if_pos rfl] at hy
    exact (Option.some.inj hy).symm
  have hz := h1 _ hy' (fun j => if j = st.length then menv true G (13 + r) else R j) ⟨by simp, RS_up st (Nat.le_refl _) hR⟩
  have c1 : ¬ (20 : Int32) ≤ 7 := by decide
  have c2 : ¬ (7 : Int32) = 0 := by decide
  have c6 : (6 : Int32) ≤ 7 := by decide
  have c7 : ((7 : Int32) = 6) = False := by decide
  have n1 : ¬ (1 : Int32) = 0 := by decide
  have ho' : hpI (evG R 0 G) 70 20 = 1 := by rw [ev_m (by decide), ho]; rfl
  have x5 : 9 + 6 * nI r + 4 = nI (9 + 6 * r + 4) := by rw [cI_9, cI_6, nI_mul, nI_add, show (4 : Int32) = nI 4 from rfl, nI_add]
  have hrd := fun Q => s_isReader hM' Q (nI r)
  have hof := fun Q => s_ofReader hM' Q (nI r) 4 (by rw [x5]; exact xin_nI (by omega) (by decide))
  have hcl : (nI (9 + 6 * r + 4)).toNatClampNeg = 9 + 6 * r + 4 := nI_clamp (by omega)
  have hp : 0 ≤ nI r := nI_pos' (by omega)
  simp only [hB, k_Mdl_reckonAll_191, k_Mdl_reckonAll_337, k_Mdl_reckonAll_187, w_iadd, w_isub, w_imul, w_iand, w_ior, w_ixor, w_ishl, w_ishr, w_iushr, w_idiv, w_irem, w_ineg, w_ladd, w_lsub, w_lmul, w_ldiv, w_lrem, w_i2l, w_l2i, w_i2c, w_lcmp, w_dup_int, w_pop_int, w_dup_ref, w_pop_ref, w_dup_retAddr, w_pop_retAddr, w_dup2, w_I, w_L, w_Null, w_Ild, w_Lld, w_Ald, w_Ist, w_Lst, w_Ast, w_Iinc, w_if_eq, w_icmp_eq, w_if_ne, w_icmp_ne, w_if_lt, w_icmp_lt, w_if_ge, w_icmp_ge, w_if_gt, w_icmp_gt, w_if_le, w_icmp_le, w_GetI, w_GetL, w_GetR, w_PutI, w_PutZ, w_PutL, w_PutR, w_PutN, w_Iald, w_Zald, w_Lald, w_Aald, w_Iast, w_Zast, w_Last, w_AastR, w_AastN, w_Alen, w_New, w_NewA, w_Mna, w_Iret, w_Zret, w_Cret, w_Bret, w_Lret, w_AretR, w_AretN, w_Vret, w_Obj, w_IfNN, w_IfNR, w_Copy, w_Cln, w_Cast, w_SfA, w_SfI, w_SfQ, w_Str, w_ScLd, w_ScLen, w_CV0, w_CS0, w_CV1, w_CS1, w_CV2, w_CS2, w_CV3, w_CS3, w_CV4, w_CS4, w_CV5, w_CS5, List.getElem?_cons_zero, List.getElem?_cons_succ, List.set_cons_zero, List.set_cons_succ, List.length_cons, List.length_nil, List.map_cons, List.map_nil, List.sum_cons, List.sum_nil, List.nil_append, List.cons_append, Option.toList_some, Option.toList_none, Value.category, xok, va_rf, true_and, and_true, and_self, Nat.reduceAdd, Nat.reduceLT, Nat.reduceLeDiff, Nat.reduceEqDiff, Nat.reduceMul, beq_self_eq_true, decide_true, ite_true, ite_false, if_true, if_false, reduceIte, Bool.true_eq_false, Bool.false_eq_true, eq_self_iff_true, Nat.zero_le, not_true_eq_false, not_false_eq_true, forall_const, false_implies, implies_true, forall_false, hM'.all, e1, c1, c2, c6, c7, n1, hx, hc, ho', hrd, hof, ev_st, x5, hcl, hp, ev_I (x := 72) (G := G) (R := R) (b := 0) (by decide), show nI st.length + Int32.ofInt 1 = nI (st.length + 1) from nI_1 _]
  by_cases g : nI r < hpI G 72 1
  · have hE : menv true G (13 + r) = (hpI G 72 (9 + 6 * r + 4)).toInt64 := by
      unfold menv
      simp only [if_true, show ¬ 13 + r < 5 by omega, if_false, show ¬ 13 + r < 13 by omega, Nat.add_sub_cancel_left, g, reduceIte]
    rw [hE] at hz
    simp only [g, if_true, reduceIte]
    exact ⟨fun q => absurd q (by decide), fun _ => ⟨hx, hz⟩⟩
  · have hE : menv true G (13 + r) = -1 := by
      unfold menv
      simp only [if_true, show ¬ 13 + r < 5 by omega, if_false, show ¬ 13 + r < 13 by omega, Nat.add_sub_cancel_left, g, reduceIte]
    rw [hE] at hz
    simp only [g, if_false, reduceIte]
    exact ⟨fun _ => ⟨hx, hz⟩, fun q => absurd trivial q⟩
