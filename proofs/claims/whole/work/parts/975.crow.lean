theorem rl_0 {nr nl : Nat} {a b c d e : Int32} : (rlF nr nl a b c d e = 0) = (okL nr a b c d e ∧ ¬ nl = 12) := by
  unfold rlF
  apply propext
  by_cases h1 : (0 ≤ a ∧ a ≤ 30) ∧ (0 ≤ b ∧ b ≤ 30) ∧ (1 ≤ c ∧ c ≤ 9) ∧ (0 ≤ e ∧ e ≤ 1)
  · rw [if_pos h1]
    by_cases h2 : 0 ≤ d ∧ d < nI nr
    · rw [if_pos h2]
      by_cases h3 : nl = 12
      · rw [if_pos h3]
        exact ⟨fun z => absurd z (by decide), fun z => absurd h3 z.2⟩
      · rw [if_neg h3]
        exact ⟨fun _ => ⟨⟨h1, h2⟩, h3⟩, fun _ => rfl⟩
    · rw [if_neg h2]
      exact ⟨fun z => absurd z (by decide), fun z => absurd z.1.2 h2⟩
  · rw [if_neg h1]
    exact ⟨fun z => absurd z (by decide), fun z => absurd z.1.1 h1⟩
/-- what the class's row has laid after i fives -/
def rwS (t : Nat → Int32) (n nr nl : Nat) (s : Nat → Int32) : Nat → (Nat → Int32) × Nat × Nat
  | 0 => (s, 0, 0)
  | i + 1 => if 5 * i + 4 < n ∧ okL nr (t (5 * i)) (t (5 * i + 1)) (t (5 * i + 2)) (t (5 * i + 3)) (t (5 * i + 4)) ∧ nl + (rwS t n nr nl s i).2.1 < 12 then (nlC (rwS t n nr nl s i).1 (nl + (rwS t n nr nl s i).2.1) (t (5 * i)) (t (5 * i + 1)) (t (5 * i + 2)) (t (5 * i + 3)) (t (5 * i + 4)), (rwS t n nr nl s i).2.1 + 1, (rwS t n nr nl s i).2.2) else ((rwS t n nr nl s i).1, (rwS t n nr nl s i).2.1, (rwS t n nr nl s i).2.2 + 1)
theorem rwS_le {t : Nat → Int32} {n nr nl : Nat} {s : Nat → Int32} (h : nl ≤ 12) : ∀ i, nl + (rwS t n nr nl s i).2.1 ≤ 12 ∧ (rwS t n nr nl s i).2.2 ≤ i
  | 0 => ⟨h, Nat.le_refl _⟩
  | i + 1 => by
    have := rwS_le (t := t) (n := n) (nr := nr) (s := s) h i
    unfold rwS
    split
    · simp only; omega
    · simp only; omega
theorem rwS_45 {t : Nat → Int32} {n nr nl : Nat} {s : Nat → Int32} (h4 : s 4 = nI nr) (h5 : s 5 = nI nl) : ∀ i, (rwS t n nr nl s i).1 4 = nI nr ∧ (rwS t n nr nl s i).1 5 = nI (nl + (rwS t n nr nl s i).2.1)
  | 0 => ⟨h4, h5⟩
  | i + 1 => by
    have := rwS_45 (t := t) (n := n) (nr := nr) (s := s) h4 h5 i
    unfold rwS
    split
    · simp only
      unfold nlC
      rw [up_ne (by omega), up_ne (by omega), up_ne (by omega), up_ne (by omega), up_ne (by omega), up_ne (by omega), up_ne (by omega), up_ne (by omega), up_eq]
      exact ⟨this.1, rfl⟩
    · exact this
theorem c_addFromTape {G : XH} (hC : CS G) (Q : XR → Prop) (i n nr m : Nat) (hn : n ≤ 400) (hi : 5 * i < n) (hm : m ≤ 12) (hnr : nr ≤ 8) (h4 : hpI G 2 4 = nI nr) (h5 : hpI G 2 5 = nI m) (hl : hpI G 47 1 = nI n) : SP D_Post_addFromTape [.ref 0, .int (nI (5 * i))] G Q = if 5 * i + 4 < n ∧ okL nr (hpI G 48 (5 * i)) (hpI G 48 (5 * i + 1)) (hpI G 48 (5 * i + 2)) (hpI G 48 (5 * i + 3)) (hpI G 48 (5 * i + 4)) ∧ m < 12 then Q (some (.int 1), stA G 2 (nlC (hpI G 2) m (hpI G 48 (5 * i)) (hpI G 48 (5 * i + 1)) (hpI G 48 (5 * i + 2)) (hpI G 48 (5 * i + 3)) (hpI G 48 (5 * i + 4)))) else Q (some (.int 0), G) := by
  have e5 : nI (5 * i) + 5 = nI (5 * i + 5) := nI_add (5 * i) 5
  rw [e_Post_addFromTape]
  by_cases h : 5 * i + 4 < n
  · have g : nI (5 * i + 5) ≤ nI n := nI_le (by omega) (by omega)
    have e1 : nI (5 * i) + 1 = nI (5 * i + 1) := nI_1 _
    have e2 : nI (5 * i) + 2 = nI (5 * i + 2) := nI_add (5 * i) 2
    have e3 : nI (5 * i) + 3 = nI (5 * i + 3) := nI_add (5 * i) 3
    have e4 : nI (5 * i) + 4 = nI (5 * i + 4) := nI_add (5 * i) 4
    have p0 : 0 ≤ nI (5 * i) := nI_pos' (by omega)
    have c0 : (nI (5 * i)).toNatClampNeg = 5 * i := nI_clamp (by omega)
    have l0 : 5 * i < 400 := by omega
    have p1 : 0 ≤ nI (5 * i + 1) := nI_pos' (by omega)
    have c1 : (nI (5 * i + 1)).toNatClampNeg = 5 * i + 1 := nI_clamp (by omega)
    have l1 : 5 * i + 1 < 400 := by omega
    have p2 : 0 ≤ nI (5 * i + 2) := nI_pos' (by omega)
    have c2 : (nI (5 * i + 2)).toNatClampNeg = 5 * i + 2 := nI_clamp (by omega)
    have l2 : 5 * i + 2 < 400 := by omega
    have p3 : 0 ≤ nI (5 * i + 3) := nI_pos' (by omega)
    have c3 : (nI (5 * i + 3)).toNatClampNeg = 5 * i + 3 := nI_clamp (by omega)
    have l3 : 5 * i + 3 < 400 := by omega
    have p4 : 0 ≤ nI (5 * i + 4) := nI_pos' (by omega)
    have c4 : (nI (5 * i + 4)).toNatClampNeg = 5 * i + 4 := nI_clamp (by omega)
    have l4 : 5 * i + 4 < 400 := by omega
    have hre := fun a b c d e Q => c_refusal hC Q a b c d e nr m hnr hm h4 h5
    obtain ⟨B, hB⟩ : ∃ B, B = k_Post_addFromTape_56 := ⟨_, rfl⟩
    have hk : k_Post_addFromTape_0 = (xIld 1 (xI 5 (xiadd (xAld 0 (xGetR 10 6 (xGetI 2 1 (xicmp_le (xAld 0 (xGetR 10 6 (xGetR 2 0 (xAst 2 (xAld 2 (xIld 1 (xIaldh (xIst 3 (xAld 2 (xIld 1 (xI 1 (xiadd (xIaldh (xIst 4 (xAld 2 (xIld 1 (xI 2 (xiadd (xIaldh (xIst 5 (xAld 2 (xIld 1 (xI 3 (xiadd (xIaldh (xIst 6 (xAld 2 (xIld 1 (xI 4 (xiadd (xIaldh (xIst 7 (xAld 0 B))))))))))))))))))))))))))))))))) (xI 0 (xZret ()))))))))) := by rw [hB]; rfl
    rw [hk]
    simp only [w_iadd, w_isub, w_imul, w_iand, w_ior, w_ixor, w_ishl, w_ishr, w_iushr, w_idiv, w_irem, w_ineg, w_ladd, w_lsub, w_lmul, w_ldiv, w_lrem, w_i2l, w_l2i, w_i2c, w_lcmp, w_dup_int, w_pop_int, w_dup_ref, w_pop_ref, w_dup_retAddr, w_pop_retAddr, w_dup2, w_I, w_L, w_Null, w_Ild, w_Lld, w_Ald, w_Ist, w_Lst, w_Ast, w_Iinc, w_if_eq, w_icmp_eq, w_if_ne, w_icmp_ne, w_if_lt, w_icmp_lt, w_if_ge, w_icmp_ge, w_if_gt, w_icmp_gt, w_if_le, w_icmp_le, w_GetI, w_GetL, w_GetR, w_PutI, w_PutZ, w_PutL, w_PutR, w_PutN, w_Iald, w_Zald, w_Lald, w_Aald, w_Iast, w_Zast, w_Last, w_AastR, w_AastN, w_Alen, w_New, w_NewA, w_Mna, w_Iret, w_Zret, w_Cret, w_Bret, w_Lret, w_AretR, w_AretN, w_Vret, w_Obj, w_IfNN, w_IfNR, w_Copy, w_Cln, w_Cast, w_SfA, w_SfI, w_SfQ, w_Str, w_ScLd, w_ScLen, w_CV0, w_CS0, w_CV1, w_CS1, w_CV2, w_CS2, w_CV3, w_CS3, w_CV4, w_CS4, w_CV5, w_CS5, List.getElem?_cons_zero, List.getElem?_cons_succ, List.set_cons_zero, List.set_cons_succ, List.length_cons, List.length_nil, List.map_cons, List.map_nil, List.sum_cons, List.sum_nil, List.nil_append, List.cons_append, Option.toList_some, Option.toList_none, Value.category, xok, va_rf, true_and, and_true, and_self, Nat.reduceAdd, Nat.reduceLT, Nat.reduceLeDiff, Nat.reduceEqDiff, Nat.reduceMul, beq_self_eq_true, decide_true, ite_true, ite_false, if_true, if_false, reduceIte, Bool.true_eq_false, Bool.false_eq_true, eq_self_iff_true, Nat.zero_le, not_true_eq_false, not_false_eq_true, forall_const, false_implies, implies_true, forall_false, stI_C, stI_N, stI_Z, stI_S, stI_L, stI_R, stL_C, stL_N, stL_Z, stL_S, stL_I, stL_R, stR_C, stR_N, stR_Z, stR_S, stR_I, stR_L, stA_C, stA_N, stA_Z, stA_S, stA_L, stA_R, stI_I, stL_L, stR_R, stA_I, stN_C, stN_N, stN_Z, stN_S, stN_I, stN_L, stN_R, stI_ne, stL_ne, stR_ne, hC.all, hl, e5, g, e1, e2, e3, e4, xin, p0, c0, l0, p1, c1, l1, p2, c2, l2, p3, c3, l3, p4, c4, l4, ne10, ne10L, ne01, ne01L, tt_imp, nt_imp, ff_imp, nf_imp, true_and, and_true, true_or, or_true, reduceIte]
    rw [hB]
    clear hk hB
    generalize hpI G 48 (5 * i) = t0
    generalize hpI G 48 (5 * i + 1) = t1
    generalize hpI G 48 (5 * i + 2) = t2
    generalize hpI G 48 (5 * i + 3) = t3
    generalize hpI G 48 (5 * i + 4) = t4
    by_cases h0 : rlF nr m t0 t1 t2 t3 t4 = 0
    · have h0' := rl_0.mp h0
      rw [if_pos ⟨h, h0'.1, by omega⟩]
      have hal := fun Q => c_addLetter hC Q t0 t1 t2 t3 t4 m (by omega) h5
      simp only [k_Post_addFromTape_56, w_iadd, w_isub, w_imul, w_iand, w_ior, w_ixor, w_ishl, w_ishr, w_iushr, w_idiv, w_irem, w_ineg, w_ladd, w_lsub, w_lmul, w_ldiv, w_lrem, w_i2l, w_l2i, w_i2c, w_lcmp, w_dup_int, w_pop_int, w_dup_ref, w_pop_ref, w_dup_retAddr, w_pop_retAddr, w_dup2, w_I, w_L, w_Null, w_Ild, w_Lld, w_Ald, w_Ist, w_Lst, w_Ast, w_Iinc, w_if_eq, w_icmp_eq, w_if_ne, w_icmp_ne, w_if_lt, w_icmp_lt, w_if_ge, w_icmp_ge, w_if_gt, w_icmp_gt, w_if_le, w_icmp_le, w_GetI, w_GetL, w_GetR, w_PutI, w_PutZ, w_PutL, w_PutR, w_PutN, w_Iald, w_Zald, w_Lald, w_Aald, w_Iast, w_Zast, w_Last, w_AastR, w_AastN, w_Alen, w_New, w_NewA, w_Mna, w_Iret, w_Zret, w_Cret, w_Bret, w_Lret, w_AretR, w_AretN, w_Vret, w_Obj, w_IfNN, w_IfNR, w_Copy, w_Cln, w_Cast, w_SfA, w_SfI, w_SfQ, w_Str, w_ScLd, w_ScLen, w_CV0, w_CS0, w_CV1, w_CS1, w_CV2, w_CS2, w_CV3, w_CS3, w_CV4, w_CS4, w_CV5, w_CS5, List.getElem?_cons_zero, List.getElem?_cons_succ, List.set_cons_zero, List.set_cons_succ, List.length_cons, List.length_nil, List.map_cons, List.map_nil, List.sum_cons, List.sum_nil, List.nil_append, List.cons_append, Option.toList_some, Option.toList_none, Value.category, xok, va_rf, true_and, and_true, and_self, Nat.reduceAdd, Nat.reduceLT, Nat.reduceLeDiff, Nat.reduceEqDiff, Nat.reduceMul, beq_self_eq_true, decide_true, ite_true, ite_false, if_true, if_false, reduceIte, Bool.true_eq_false, Bool.false_eq_true, eq_self_iff_true, Nat.zero_le, not_true_eq_false, not_false_eq_true, forall_const, false_implies, implies_true, forall_false, hC.all, hre, h0, hal, ne10, ne10L, ne01, ne01L, tt_imp, nt_imp, ff_imp, nf_imp, true_and, and_true, true_or, or_true, reduceIte]
    · rw [if_neg (fun z => h0 (rl_0.mpr ⟨z.2.1, by omega⟩))]
      simp only [k_Post_addFromTape_56, w_iadd, w_isub, w_imul, w_iand, w_ior, w_ixor, w_ishl, w_ishr, w_iushr, w_idiv, w_irem, w_ineg, w_ladd, w_lsub, w_lmul, w_ldiv, w_lrem, w_i2l, w_l2i, w_i2c, w_lcmp, w_dup_int, w_pop_int, w_dup_ref, w_pop_ref, w_dup_retAddr, w_pop_retAddr, w_dup2, w_I, w_L, w_Null, w_Ild, w_Lld, w_Ald, w_Ist, w_Lst, w_Ast, w_Iinc, w_if_eq, w_icmp_eq, w_if_ne, w_icmp_ne, w_if_lt, w_icmp_lt, w_if_ge, w_icmp_ge, w_if_gt, w_icmp_gt, w_if_le, w_icmp_le, w_GetI, w_GetL, w_GetR, w_PutI, w_PutZ, w_PutL, w_PutR, w_PutN, w_Iald, w_Zald, w_Lald, w_Aald, w_Iast, w_Zast, w_Last, w_AastR, w_AastN, w_Alen, w_New, w_NewA, w_Mna, w_Iret, w_Zret, w_Cret, w_Bret, w_Lret, w_AretR, w_AretN, w_Vret, w_Obj, w_IfNN, w_IfNR, w_Copy, w_Cln, w_Cast, w_SfA, w_SfI, w_SfQ, w_Str, w_ScLd, w_ScLen, w_CV0, w_CS0, w_CV1, w_CS1, w_CV2, w_CS2, w_CV3, w_CS3, w_CV4, w_CS4, w_CV5, w_CS5, List.getElem?_cons_zero, List.getElem?_cons_succ, List.set_cons_zero, List.set_cons_succ, List.length_cons, List.length_nil, List.map_cons, List.map_nil, List.sum_cons, List.sum_nil, List.nil_append, List.cons_append, Option.toList_some, Option.toList_none, Value.category, xok, va_rf, true_and, and_true, and_self, Nat.reduceAdd, Nat.reduceLT, Nat.reduceLeDiff, Nat.reduceEqDiff, Nat.reduceMul, beq_self_eq_true, decide_true, ite_true, ite_false, if_true, if_false, reduceIte, Bool.true_eq_false, Bool.false_eq_true, eq_self_iff_true, Nat.zero_le, not_true_eq_false, not_false_eq_true, forall_const, false_implies, implies_true, forall_false, hC.all, hre, h0, ne10, ne10L, ne01, ne01L, tt_imp, nt_imp, ff_imp, nf_imp, true_and, and_true, true_or, or_true, reduceIte]
  · have g : ¬ nI (5 * i + 5) ≤ nI n := fun q => absurd ((nI_leI (by omega) (by omega)).mp q) (by omega)
    rw [if_neg (fun z => h z.1)]
    simp only [k_Post_addFromTape_0, w_iadd, w_isub, w_imul, w_iand, w_ior, w_ixor, w_ishl, w_ishr, w_iushr, w_idiv, w_irem, w_ineg, w_ladd, w_lsub, w_lmul, w_ldiv, w_lrem, w_i2l, w_l2i, w_i2c, w_lcmp, w_dup_int, w_pop_int, w_dup_ref, w_pop_ref, w_dup_retAddr, w_pop_retAddr, w_dup2, w_I, w_L, w_Null, w_Ild, w_Lld, w_Ald, w_Ist, w_Lst, w_Ast, w_Iinc, w_if_eq, w_icmp_eq, w_if_ne, w_icmp_ne, w_if_lt, w_icmp_lt, w_if_ge, w_icmp_ge, w_if_gt, w_icmp_gt, w_if_le, w_icmp_le, w_GetI, w_GetL, w_GetR, w_PutI, w_PutZ, w_PutL, w_PutR, w_PutN, w_Iald, w_Zald, w_Lald, w_Aald, w_Iast, w_Zast, w_Last, w_AastR, w_AastN, w_Alen, w_New, w_NewA, w_Mna, w_Iret, w_Zret, w_Cret, w_Bret, w_Lret, w_AretR, w_AretN, w_Vret, w_Obj, w_IfNN, w_IfNR, w_Copy, w_Cln, w_Cast, w_SfA, w_SfI, w_SfQ, w_Str, w_ScLd, w_ScLen, w_CV0, w_CS0, w_CV1, w_CS1, w_CV2, w_CS2, w_CV3, w_CS3, w_CV4, w_CS4, w_CV5, w_CS5, List.getElem?_cons_zero, List.getElem?_cons_succ, List.set_cons_zero, List.set_cons_succ, List.length_cons, List.length_nil, List.map_cons, List.map_nil, List.sum_cons, List.sum_nil, List.nil_append, List.cons_append, Option.toList_some, Option.toList_none, Value.category, xok, va_rf, true_and, and_true, and_self, Nat.reduceAdd, Nat.reduceLT, Nat.reduceLeDiff, Nat.reduceEqDiff, Nat.reduceMul, beq_self_eq_true, decide_true, ite_true, ite_false, if_true, if_false, reduceIte, Bool.true_eq_false, Bool.false_eq_true, eq_self_iff_true, Nat.zero_le, not_true_eq_false, not_false_eq_true, forall_const, false_implies, implies_true, forall_false, stI_C, stI_N, stI_Z, stI_S, stI_L, stI_R, stL_C, stL_N, stL_Z, stL_S, stL_I, stL_R, stR_C, stR_N, stR_Z, stR_S, stR_I, stR_L, stA_C, stA_N, stA_Z, stA_S, stA_L, stA_R, stI_I, stL_L, stR_R, stA_I, stN_C, stN_N, stN_Z, stN_S, stN_I, stN_L, stN_R, stI_ne, stL_ne, stR_ne, hC.all, hl, e5, g, ne10, ne10L, ne01, ne01L, tt_imp, nt_imp, ff_imp, nf_imp, true_and, and_true, true_or, or_true, reduceIte]
