theorem ex_mn (f : Nat → Nat) (P : Nat → Prop) : ∀ n k, f k ≤ n → P k → ∃ k, P k ∧ ∀ j, P j → f k ≤ f j
  | 0, k, h, hk => ⟨k, hk, fun j _ => by omega⟩
  | n + 1, k, h, hk => by
    by_cases q : ∃ j, P j ∧ f j < f k
    · obtain ⟨j, j1, j2⟩ := q
      exact ex_mn f P n j (by omega) j1
    · exact ⟨k, hk, fun j hj => by
        rcases Nat.lt_or_ge (f j) (f k) with z | z
        · exact absurd ⟨j, hj, z⟩ q
        · exact z⟩
theorem ex_L {n lim : Nat} {W : Nat → Nat} (hl : lim ≤ 99) (hW : ∀ k, k < n → W k ≤ 9) : ∀ m, m < 2 ^ n → ∃ L, LSp n lim W L (m + 1)
  | 0, _ => ⟨fun _ => 0, rfl, fun s hs => by
      have e : s = 0 := by omega
      subst e
      exact ⟨Nat.zero_le _, fun k _ hb => absurd hb (by simp), fun z => absurd rfl z⟩⟩
  | m + 1, hm => by
    obtain ⟨L, hL⟩ := ex_L hl hW m (by omega)
    have hb : ∃ k, k < n ∧ (m + 1).testBit k = true := by
      obtain ⟨k, hk⟩ := Nat.exists_testBit_of_ne_zero (x := m + 1) (by omega)
      refine ⟨k, ?_, hk⟩
      rcases Nat.lt_or_ge k n with z | z
      · exact z
      · have := Nat.testBit_lt_two_pow (Nat.lt_of_lt_of_le hm (Nat.pow_le_pow_right (n := 2) (by decide) z))
        rw [this] at hk
        cases hk
    obtain ⟨k0, hk0⟩ := hb
    obtain ⟨k, ⟨k1, k2⟩, k3⟩ := ex_mn (fun k => oaN lim (L ((m + 1) ^^^ 2 ^ k)) (W k)) (fun k => k < n ∧ (m + 1).testBit k = true) _ k0 (Nat.le_refl _) hk0
    exact ⟨_, hL.next (v := oaN lim (L ((m + 1) ^^^ 2 ^ k)) (W k)) (by omega) hl hW (fun j j1 j2 => k3 j ⟨j1, j2⟩) ⟨k, k1, k2, rfl⟩⟩
theorem ex_F {n lim u : Nat} {W : Nat → Nat} : ∀ m, ∃ F, MBp n lim u W F m
  | 0 => ⟨fun _ => 0, fun z => absurd z (by omega), fun s hs => absurd hs (by omega)⟩
  | m + 1 => by
    obtain ⟨F, hF⟩ := ex_F (n := n) (lim := lim) (u := u) (W := W) m
    by_cases e : m = 0
    · exact ⟨_, hF.next (v := 0) (fun _ => rfl) (by omega) (fun b _ _ _ => by omega) (fun z => absurd e z)⟩
    · by_cases q : ∃ b, (¬ b = 0 ∧ b &&& m = b ∧ sW W b n ≤ lim) ∧ 1 + F (m ^^^ b) ≤ u
      · obtain ⟨b0, hb0, hb1⟩ := q
        obtain ⟨b, ⟨b1, b2, b3⟩, b4⟩ := ex_mn (fun b => 1 + F (m ^^^ b)) (fun b => ¬ b = 0 ∧ b &&& m = b ∧ sW W b n ≤ lim) _ b0 (Nat.le_refl _) hb0
        have := b4 b0 hb0
        exact ⟨_, hF.next (v := 1 + F (m ^^^ b)) (fun z => absurd z e) (by omega) (fun b' h1 h2 h3 => b4 b' ⟨h1, h2, h3⟩) (fun _ => Or.inr ⟨b, b1, b2, b3, rfl⟩)⟩
      · exact ⟨_, hF.next (v := u) (fun z => absurd z e) (Nat.le_refl _) (fun b h1 h2 h3 => by
          rcases Nat.lt_or_ge u (1 + F (m ^^^ b)) with z | z
          · omega
          · exact absurd ⟨b, ⟨h1, h2, h3⟩, z⟩ q) (fun _ => Or.inl rfl)⟩
theorem c_bags_no {G : XH} (hC : CS G) (Q : XR → Prop) (a w : Int32) (h : ¬ ((1 ≤ a ∧ a ≤ 99) ∧ (0 ≤ w ∧ w ≤ 1))) : SP D_Post_bags [.ref 0, .int a, .int w] G Q = Q (some (.int (-1)), G) := by
  rw [e_Post_bags]
  by_cases h1 : 1 ≤ a ∧ a ≤ 99
  · have a1 : ¬ a < 1 := Int32.not_lt.mpr h1.1
    have a2 : ¬ (99 : Int32) < a := Int32.not_lt.mpr h1.2
    have h2 : ¬ (0 ≤ w ∧ w ≤ 1) := fun z => h ⟨h1, z⟩
    rcases rg0 h2 with q | ⟨q1, q2⟩
    · simp only [k_Post_bags_0, k_Post_bags_35, w_iadd, w_isub, w_imul, w_iand, w_ior, w_ixor, w_ishl, w_ishr, w_iushr, w_idiv, w_irem, w_ineg, w_ladd, w_lsub, w_lmul, w_ldiv, w_lrem, w_i2l, w_l2i, w_i2c, w_lcmp, w_dup_int, w_pop_int, w_dup_ref, w_pop_ref, w_dup_retAddr, w_pop_retAddr, w_dup2, w_I, w_L, w_Null, w_Ild, w_Lld, w_Ald, w_Ist, w_Lst, w_Ast, w_Iinc, w_if_eq, w_icmp_eq, w_if_ne, w_icmp_ne, w_if_lt, w_icmp_lt, w_if_ge, w_icmp_ge, w_if_gt, w_icmp_gt, w_if_le, w_icmp_le, w_GetI, w_GetL, w_GetR, w_PutI, w_PutZ, w_PutL, w_PutR, w_PutN, w_Iald, w_Zald, w_Lald, w_Aald, w_Iast, w_Zast, w_Last, w_AastR, w_AastN, w_Alen, w_New, w_NewA, w_Mna, w_Iret, w_Zret, w_Cret, w_Bret, w_Lret, w_AretR, w_AretN, w_Vret, w_Obj, w_IfNN, w_IfNR, w_Copy, w_Cln, w_Cast, w_SfA, w_SfI, w_SfQ, w_Str, w_ScLd, w_ScLen, w_CV0, w_CS0, w_CV1, w_CS1, w_CV2, w_CS2, w_CV3, w_CS3, w_CV4, w_CS4, w_CV5, w_CS5, List.getElem?_cons_zero, List.getElem?_cons_succ, List.set_cons_zero, List.set_cons_succ, List.length_cons, List.length_nil, List.map_cons, List.map_nil, List.sum_cons, List.sum_nil, List.nil_append, List.cons_append, Option.toList_some, Option.toList_none, Value.category, xok, va_rf, true_and, and_true, and_self, Nat.reduceAdd, Nat.reduceLT, Nat.reduceLeDiff, Nat.reduceEqDiff, Nat.reduceMul, beq_self_eq_true, decide_true, ite_true, ite_false, if_true, if_false, reduceIte, Bool.true_eq_false, Bool.false_eq_true, eq_self_iff_true, Nat.zero_le, not_true_eq_false, not_false_eq_true, forall_const, false_implies, implies_true, forall_false, hC.all, a1, a2, q, ne10, ne10L, ne01, ne01L, tt_imp, nt_imp, ff_imp, nf_imp, true_and, and_true, true_or, or_true, reduceIte]
    · simp only [k_Post_bags_0, k_Post_bags_35, w_iadd, w_isub, w_imul, w_iand, w_ior, w_ixor, w_ishl, w_ishr, w_iushr, w_idiv, w_irem, w_ineg, w_ladd, w_lsub, w_lmul, w_ldiv, w_lrem, w_i2l, w_l2i, w_i2c, w_lcmp, w_dup_int, w_pop_int, w_dup_ref, w_pop_ref, w_dup_retAddr, w_pop_retAddr, w_dup2, w_I, w_L, w_Null, w_Ild, w_Lld, w_Ald, w_Ist, w_Lst, w_Ast, w_Iinc, w_if_eq, w_icmp_eq, w_if_ne, w_icmp_ne, w_if_lt, w_icmp_lt, w_if_ge, w_icmp_ge, w_if_gt, w_icmp_gt, w_if_le, w_icmp_le, w_GetI, w_GetL, w_GetR, w_PutI, w_PutZ, w_PutL, w_PutR, w_PutN, w_Iald, w_Zald, w_Lald, w_Aald, w_Iast, w_Zast, w_Last, w_AastR, w_AastN, w_Alen, w_New, w_NewA, w_Mna, w_Iret, w_Zret, w_Cret, w_Bret, w_Lret, w_AretR, w_AretN, w_Vret, w_Obj, w_IfNN, w_IfNR, w_Copy, w_Cln, w_Cast, w_SfA, w_SfI, w_SfQ, w_Str, w_ScLd, w_ScLen, w_CV0, w_CS0, w_CV1, w_CS1, w_CV2, w_CS2, w_CV3, w_CS3, w_CV4, w_CS4, w_CV5, w_CS5, List.getElem?_cons_zero, List.getElem?_cons_succ, List.set_cons_zero, List.set_cons_succ, List.length_cons, List.length_nil, List.map_cons, List.map_nil, List.sum_cons, List.sum_nil, List.nil_append, List.cons_append, Option.toList_some, Option.toList_none, Value.category, xok, va_rf, true_and, and_true, and_self, Nat.reduceAdd, Nat.reduceLT, Nat.reduceLeDiff, Nat.reduceEqDiff, Nat.reduceMul, beq_self_eq_true, decide_true, ite_true, ite_false, if_true, if_false, reduceIte, Bool.true_eq_false, Bool.false_eq_true, eq_self_iff_true, Nat.zero_le, not_true_eq_false, not_false_eq_true, forall_const, false_implies, implies_true, forall_false, hC.all, a1, a2, q1, q2, ne10, ne10L, ne01, ne01L, tt_imp, nt_imp, ff_imp, nf_imp, true_and, and_true, true_or, or_true, reduceIte]
  · rcases rg1 h1 with q | ⟨q1, q2⟩
    · simp only [k_Post_bags_0, k_Post_bags_35, w_iadd, w_isub, w_imul, w_iand, w_ior, w_ixor, w_ishl, w_ishr, w_iushr, w_idiv, w_irem, w_ineg, w_ladd, w_lsub, w_lmul, w_ldiv, w_lrem, w_i2l, w_l2i, w_i2c, w_lcmp, w_dup_int, w_pop_int, w_dup_ref, w_pop_ref, w_dup_retAddr, w_pop_retAddr, w_dup2, w_I, w_L, w_Null, w_Ild, w_Lld, w_Ald, w_Ist, w_Lst, w_Ast, w_Iinc, w_if_eq, w_icmp_eq, w_if_ne, w_icmp_ne, w_if_lt, w_icmp_lt, w_if_ge, w_icmp_ge, w_if_gt, w_icmp_gt, w_if_le, w_icmp_le, w_GetI, w_GetL, w_GetR, w_PutI, w_PutZ, w_PutL, w_PutR, w_PutN, w_Iald, w_Zald, w_Lald, w_Aald, w_Iast, w_Zast, w_Last, w_AastR, w_AastN, w_Alen, w_New, w_NewA, w_Mna, w_Iret, w_Zret, w_Cret, w_Bret, w_Lret, w_AretR, w_AretN, w_Vret, w_Obj, w_IfNN, w_IfNR, w_Copy, w_Cln, w_Cast, w_SfA, w_SfI, w_SfQ, w_Str, w_ScLd, w_ScLen, w_CV0, w_CS0, w_CV1, w_CS1, w_CV2, w_CS2, w_CV3, w_CS3, w_CV4, w_CS4, w_CV5, w_CS5, List.getElem?_cons_zero, List.getElem?_cons_succ, List.set_cons_zero, List.set_cons_succ, List.length_cons, List.length_nil, List.map_cons, List.map_nil, List.sum_cons, List.sum_nil, List.nil_append, List.cons_append, Option.toList_some, Option.toList_none, Value.category, xok, va_rf, true_and, and_true, and_self, Nat.reduceAdd, Nat.reduceLT, Nat.reduceLeDiff, Nat.reduceEqDiff, Nat.reduceMul, beq_self_eq_true, decide_true, ite_true, ite_false, if_true, if_false, reduceIte, Bool.true_eq_false, Bool.false_eq_true, eq_self_iff_true, Nat.zero_le, not_true_eq_false, not_false_eq_true, forall_const, false_implies, implies_true, forall_false, hC.all, q, ne10, ne10L, ne01, ne01L, tt_imp, nt_imp, ff_imp, nf_imp, true_and, and_true, true_or, or_true, reduceIte]
    · simp only [k_Post_bags_0, k_Post_bags_35, w_iadd, w_isub, w_imul, w_iand, w_ior, w_ixor, w_ishl, w_ishr, w_iushr, w_idiv, w_irem, w_ineg, w_ladd, w_lsub, w_lmul, w_ldiv, w_lrem, w_i2l, w_l2i, w_i2c, w_lcmp, w_dup_int, w_pop_int, w_dup_ref, w_pop_ref, w_dup_retAddr, w_pop_retAddr, w_dup2, w_I, w_L, w_Null, w_Ild, w_Lld, w_Ald, w_Ist, w_Lst, w_Ast, w_Iinc, w_if_eq, w_icmp_eq, w_if_ne, w_icmp_ne, w_if_lt, w_icmp_lt, w_if_ge, w_icmp_ge, w_if_gt, w_icmp_gt, w_if_le, w_icmp_le, w_GetI, w_GetL, w_GetR, w_PutI, w_PutZ, w_PutL, w_PutR, w_PutN, w_Iald, w_Zald, w_Lald, w_Aald, w_Iast, w_Zast, w_Last, w_AastR, w_AastN, w_Alen, w_New, w_NewA, w_Mna, w_Iret, w_Zret, w_Cret, w_Bret, w_Lret, w_AretR, w_AretN, w_Vret, w_Obj, w_IfNN, w_IfNR, w_Copy, w_Cln, w_Cast, w_SfA, w_SfI, w_SfQ, w_Str, w_ScLd, w_ScLen, w_CV0, w_CS0, w_CV1, w_CS1, w_CV2, w_CS2, w_CV3, w_CS3, w_CV4, w_CS4, w_CV5, w_CS5, List.getElem?_cons_zero, List.getElem?_cons_succ, List.set_cons_zero, List.set_cons_succ, List.length_cons, List.length_nil, List.map_cons, List.map_nil, List.sum_cons, List.sum_nil, List.nil_append, List.cons_append, Option.toList_some, Option.toList_none, Value.category, xok, va_rf, true_and, and_true, and_self, Nat.reduceAdd, Nat.reduceLT, Nat.reduceLeDiff, Nat.reduceEqDiff, Nat.reduceMul, beq_self_eq_true, decide_true, ite_true, ite_false, if_true, if_false, reduceIte, Bool.true_eq_false, Bool.false_eq_true, eq_self_iff_true, Nat.zero_le, not_true_eq_false, not_false_eq_true, forall_const, false_implies, implies_true, forall_false, hC.all, q1, q2, ne10, ne10L, ne01, ne01L, tt_imp, nt_imp, ff_imp, nf_imp, true_and, and_true, true_or, or_true, reduceIte]
theorem s_bags_no {G : XH} (hM : MS G) (Q : XR → Prop) (a w : Int32) (h : ¬ ((1 ≤ a ∧ a ≤ 99) ∧ (0 ≤ w ∧ w ≤ 1))) : SP D_Mdl_bags [.ref 70, .int a, .int w] G Q = Q (some (.int (-1)), stI G 70 0 0) := by
  rw [e_Mdl_bags]
  by_cases h1 : 1 ≤ a ∧ a ≤ 99
  · have h2 : ¬ (0 ≤ w ∧ w ≤ 1) := fun z => h ⟨h1, z⟩
    simp only [k_Mdl_bags_0, k_Mdl_bags_27, w_iadd, w_isub, w_imul, w_iand, w_ior, w_ixor, w_ishl, w_ishr, w_iushr, w_idiv, w_irem, w_ineg, w_ladd, w_lsub, w_lmul, w_ldiv, w_lrem, w_i2l, w_l2i, w_i2c, w_lcmp, w_dup_int, w_pop_int, w_dup_ref, w_pop_ref, w_dup_retAddr, w_pop_retAddr, w_dup2, w_I, w_L, w_Null, w_Ild, w_Lld, w_Ald, w_Ist, w_Lst, w_Ast, w_Iinc, w_if_eq, w_icmp_eq, w_if_ne, w_icmp_ne, w_if_lt, w_icmp_lt, w_if_ge, w_icmp_ge, w_if_gt, w_icmp_gt, w_if_le, w_icmp_le, w_GetI, w_GetL, w_GetR, w_PutI, w_PutZ, w_PutL, w_PutR, w_PutN, w_Iald, w_Zald, w_Lald, w_Aald, w_Iast, w_Zast, w_Last, w_AastR, w_AastN, w_Alen, w_New, w_NewA, w_Mna, w_Iret, w_Zret, w_Cret, w_Bret, w_Lret, w_AretR, w_AretN, w_Vret, w_Obj, w_IfNN, w_IfNR, w_Copy, w_Cln, w_Cast, w_SfA, w_SfI, w_SfQ, w_Str, w_ScLd, w_ScLen, w_CV0, w_CS0, w_CV1, w_CS1, w_CV2, w_CS2, w_CV3, w_CS3, w_CV4, w_CS4, w_CV5, w_CS5, List.getElem?_cons_zero, List.getElem?_cons_succ, List.set_cons_zero, List.set_cons_succ, List.length_cons, List.length_nil, List.map_cons, List.map_nil, List.sum_cons, List.sum_nil, List.nil_append, List.cons_append, Option.toList_some, Option.toList_none, Value.category, xok, va_rf, true_and, and_true, and_self, Nat.reduceAdd, Nat.reduceLT, Nat.reduceLeDiff, Nat.reduceEqDiff, Nat.reduceMul, beq_self_eq_true, decide_true, ite_true, ite_false, if_true, if_false, reduceIte, Bool.true_eq_false, Bool.false_eq_true, eq_self_iff_true, Nat.zero_le, not_true_eq_false, not_false_eq_true, forall_const, false_implies, implies_true, forall_false, stI_C, stI_N, stI_Z, stI_S, stI_L, stI_R, stL_C, stL_N, stL_Z, stL_S, stL_I, stL_R, stR_C, stR_N, stR_Z, stR_S, stR_I, stR_L, stA_C, stA_N, stA_Z, stA_S, stA_L, stA_R, stI_I, stL_L, stR_R, stA_I, stN_C, stN_N, stN_Z, stN_S, stN_I, stN_L, stN_R, stI_ne, stL_ne, stR_ne, l64_0, g64_0, l64_1, g64_1, l64_2, g64_2, l64_3, g64_3, l64_6, g64_6, l64_7, g64_7, l64_9, g64_9, l64_11, g64_11, l64_12, g64_12, l64_20, g64_20, l64_30, g64_30, l64_50, g64_50, l64_60, g64_60, l64_99, g64_99, l64_999, g64_999, l64_1000, g64_1000, l64_99999, g64_99999, l64_1000000, g64_1000000, l64_1000000000, g64_1000000000, g64_m1, t64_le, t64_lt, t64_eq, t64_pred, ite10, ite11, em01, hM.all, s_in, h1, h2, ne10, ne10L, ne01, ne01L, tt_imp, nt_imp, ff_imp, nf_imp, true_and, and_true, true_or, or_true, reduceIte]
  · simp only [k_Mdl_bags_0, k_Mdl_bags_27, w_iadd, w_isub, w_imul, w_iand, w_ior, w_ixor, w_ishl, w_ishr, w_iushr, w_idiv, w_irem, w_ineg, w_ladd, w_lsub, w_lmul, w_ldiv, w_lrem, w_i2l, w_l2i, w_i2c, w_lcmp, w_dup_int, w_pop_int, w_dup_ref, w_pop_ref, w_dup_retAddr, w_pop_retAddr, w_dup2, w_I, w_L, w_Null, w_Ild, w_Lld, w_Ald, w_Ist, w_Lst, w_Ast, w_Iinc, w_if_eq, w_icmp_eq, w_if_ne, w_icmp_ne, w_if_lt, w_icmp_lt, w_if_ge, w_icmp_ge, w_if_gt, w_icmp_gt, w_if_le, w_icmp_le, w_GetI, w_GetL, w_GetR, w_PutI, w_PutZ, w_PutL, w_PutR, w_PutN, w_Iald, w_Zald, w_Lald, w_Aald, w_Iast, w_Zast, w_Last, w_AastR, w_AastN, w_Alen, w_New, w_NewA, w_Mna, w_Iret, w_Zret, w_Cret, w_Bret, w_Lret, w_AretR, w_AretN, w_Vret, w_Obj, w_IfNN, w_IfNR, w_Copy, w_Cln, w_Cast, w_SfA, w_SfI, w_SfQ, w_Str, w_ScLd, w_ScLen, w_CV0, w_CS0, w_CV1, w_CS1, w_CV2, w_CS2, w_CV3, w_CS3, w_CV4, w_CS4, w_CV5, w_CS5, List.getElem?_cons_zero, List.getElem?_cons_succ, List.set_cons_zero, List.set_cons_succ, List.length_cons, List.length_nil, List.map_cons, List.map_nil, List.sum_cons, List.sum_nil, List.nil_append, List.cons_append, Option.toList_some, Option.toList_none, Value.category, xok, va_rf, true_and, and_true, and_self, Nat.reduceAdd, Nat.reduceLT, Nat.reduceLeDiff, Nat.reduceEqDiff, Nat.reduceMul, beq_self_eq_true, decide_true, ite_true, ite_false, if_true, if_false, reduceIte, Bool.true_eq_false, Bool.false_eq_true, eq_self_iff_true, Nat.zero_le, not_true_eq_false, not_false_eq_true, forall_const, false_implies, implies_true, forall_false, stI_C, stI_N, stI_Z, stI_S, stI_L, stI_R, stL_C, stL_N, stL_Z, stL_S, stL_I, stL_R, stR_C, stR_N, stR_Z, stR_S, stR_I, stR_L, stA_C, stA_N, stA_Z, stA_S, stA_L, stA_R, stI_I, stL_L, stR_R, stA_I, stN_C, stN_N, stN_Z, stN_S, stN_I, stN_L, stN_R, stI_ne, stL_ne, stR_ne, l64_0, g64_0, l64_1, g64_1, l64_2, g64_2, l64_3, g64_3, l64_6, g64_6, l64_7, g64_7, l64_9, g64_9, l64_11, g64_11, l64_12, g64_12, l64_20, g64_20, l64_30, g64_30, l64_50, g64_50, l64_60, g64_60, l64_99, g64_99, l64_999, g64_999, l64_1000, g64_1000, l64_99999, g64_99999, l64_1000000, g64_1000000, l64_1000000000, g64_1000000000, g64_m1, t64_le, t64_lt, t64_eq, t64_pred, ite10, ite11, em01, hM.all, s_in, h1, ne10, ne10L, ne01, ne01L, tt_imp, nt_imp, ff_imp, nf_imp, true_and, and_true, true_or, or_true, reduceIte]
theorem st_bags {X : XDt} {c : Nat} (h : VXe X c) (a w : Int32) : StX D_Post_bags D_Mdl_bags [.int a, .int w] X c := by
  have h0 := h
  obtain ⟨nr, nl, n, m, A, B, hV⟩ := h
  have n12 := hV.1.1.2.2.2.1
  by_cases q : (1 ≤ a ∧ a ≤ 99) ∧ (0 ≤ w ∧ w ≤ 1)
  · obtain ⟨lim, l99, rfl⟩ := ex_le (a := a) (n := 99) (by omega) ⟨Int32.le_trans (by decide) q.1.1, q.1.2⟩
    have l1 : 1 ≤ lim := (nI_leI (a := 1) (by omega) (by omega)).mp q.1.1
    have hn := hc_le (R := X.1.1) nl
    obtain ⟨k, hk⟩ : ∃ k, k = hcN X.1.1 nl := ⟨_, rfl⟩
    have hk12 : k ≤ 12 := by omega
    have h2k := Nat.one_le_two_pow (n := k)
    by_cases hv : ∃ l, l < nl ∧ X.1.1 (62 + 7 * l) = 0 ∧ lim < wtN X.1.1 l
    · obtain ⟨l, v1, v2, v3⟩ := hv
      obtain ⟨j, j1, j2⟩ := hl_of v2 v1
      refine st_q h0 (-1) (fun G hG => ?_) (fun G hG => ?_)
      · refine SP.mono (c_bags hG.1.1 hG.2.1.1 hV.1.1 l1 l99 q.2) ?_
        rintro ⟨x, G'⟩ ⟨hf, ⟨hx, _⟩ | ⟨z, _⟩⟩
        · exact ⟨hx, WPk, hf.fc, Scr_WPk⟩
        · have := z l v1 v2
          omega
      · refine SP.mono (s_bags hG.1.1 hG.2.1 hV.1.1 l1 l99 q.2) ?_
        rintro ⟨x, G'⟩ ⟨hf, u, F, u1, hF, hx⟩
        have e := bags_hv hF (k := j) j1 (by show lim < wtN X.1.1 (hlF X.1.1 nl j); rw [j2]; exact v3)
        dsimp only at hx
        rw [if_pos (Nat.le_of_eq e.symm)] at hx
        exact ⟨hx, (hf.IA _ (fun _ => rfl)).trans hG.2.1, WBg, _, Or.inl rfl, hf, QM_WBg⟩
    · have hw9 : ∀ j, j < k → (fun j => wtN X.1.1 (hlF X.1.1 nl j)) j ≤ 9 := fun j hj => (hV.1.1.wt (hl_lt (hk ▸ hj)).1).2.1
      have hwl : ∀ j, j < k → (fun j => wtN X.1.1 (hlF X.1.1 nl j)) j ≤ lim := fun j hj => by
        obtain ⟨y1, y2⟩ := hl_lt (R := X.1.1) (l := nl) (hk ▸ hj)
        rcases Nat.lt_or_ge lim (wtN X.1.1 (hlF X.1.1 nl j)) with z | z
        · exact absurd ⟨_, y1, y2, z⟩ hv
        · exact z
      obtain ⟨L0, hL0⟩ := ex_L (n := k) (lim := lim) (W := fun j => wtN X.1.1 (hlF X.1.1 nl j)) l99 hw9 (2 ^ k - 1) (by omega)
      rw [show 2 ^ k - 1 + 1 = 2 ^ k by omega] at hL0
      obtain ⟨F0, hF0⟩ := ex_F (n := k) (lim := lim) (u := 1000000) (W := fun j => wtN X.1.1 (hlF X.1.1 nl j)) (2 ^ k)
      have e0 := bags_eq (lt := hlF X.1.1 nl) (w := w) hF0 hL0 hk12 l99 (Nat.le_refl _) hwl
      refine st_q h0 (if w = 0 then nI (L0 (2 ^ k - 1) / 128) else nI (alF (hlF X.1.1 nl) (loS (fun s => decide (L0 s / 128 = 1) && decide (L0 ((2 ^ k - 1) ^^^ s) / 128 + 1 = L0 (2 ^ k - 1) / 128)) 1 (2 ^ k - 1)) k)) (fun G hG => ?_) (fun G hG => ?_)
      · refine SP.mono (c_bags hG.1.1 hG.2.1.1 hV.1.1 l1 l99 q.2) ?_
        rintro ⟨x, G'⟩ ⟨hf, ⟨_, z⟩ | ⟨_, L, hL, hx⟩⟩
        · exact absurd z hv
        · rw [← hk] at hL hx
          refine ⟨hx.trans ?_, WPk, hf.fc, Scr_WPk⟩
          rw [← e0, bags_eq (lt := hlF X.1.1 nl) (w := w) hF0 hL hk12 l99 (Nat.le_refl _) hwl]
      · refine SP.mono (s_bags hG.1.1 hG.2.1 hV.1.1 l1 l99 q.2) ?_
        rintro ⟨x, G'⟩ ⟨hf, u, F, u1, hF, hx⟩
        rw [← hk] at hF hx
        refine ⟨hx.trans ?_, (hf.IA _ (fun _ => rfl)).trans hG.2.1, WBg, _, Or.inl rfl, hf, QM_WBg⟩
        rw [bags_eq (lt := hlF X.1.1 nl) (w := w) hF hL0 hk12 l99 u1 hwl]
  · exact st_ans h0 (v := -1) (fun G hG Q => c_bags_no hG.1.1 Q a w q) (fun G hG Q => s_bags_no hG.1.1 Q a w q)
theorem st_game {X : XDt} {c : Nat} (h : VXe X c) (hc : c ≤ 400000) (a i : Int32) : StX D_Post_game D_Mdl_game [.int a, .int i] X c := by
  have h0 := h
  obtain ⟨nr, nl, n, m, A, B, hV⟩ := h
  have n8 := hV.1.1.2.1
  obtain ⟨NT, sc, FA, FB, g1, g2, g3, g4, g5, g6, g7, g8, g9, g10, g11⟩ : ∃ NT sc FA FB : Int32, (k_Search_lead_0 = fun Q => (xIld 4 (xAld 0 (xGetI 7 5 (xicmp_lt (xIld 1 (xI 1000 (ximul (xIld 2 (xiadd (xI 2 (ximul (xIld 3 (xiadd (xIst 5 (xIld 5 (xI sc (ximul (xI 22 (xiushr (xIst 6 (xAld 0 (xGetR 7 3 (xIld 6 (xIaldh (xIld 5 (xicmp_ne (xAld 0 (xIld 1 (xIld 2 (xIld 3 (xIld 4 (xCallV 7 4 (Q 1) (xIst 7 (xIld 7 (xI NT (xicmp_ne (k_Search_lead_85 Q) (xAld 0 (xIld 1 (xIld 2 (xI 1 (k_Search_lead_76 Q))))))))))))))) (xAld 0 (xGetR 7 4 (xIld 6 (xIaldh (xIret ()))))))))))))))))))))))))))) (xI 0 (xIret ()))))))) ∧ (k_Search_lead_85 = fun Q => (xIld 7 (xI NT (xicmp_ne (k_Search_lead_95 Q) (xI 0 (xIst 7 (k_Search_lead_95 Q))))))) ∧ (k_Search_leadOfMoves_107 = fun Q K7 => (xIst 9 (xIld 5 (xI NT (xicmp_eq (k_Search_leadOfMoves_137 Q K7) (xIld 3 (xif_ne (xIld 9 (xIld 5 (xicmp_ge (k_Search_leadOfMoves_164 Q K7) (k_Search_leadOfMoves_137 Q K7)))) (xIld 9 (xIld 5 (xicmp_le (k_Search_leadOfMoves_164 Q K7) (k_Search_leadOfMoves_137 Q K7))))))))))) ∧ (k_Search_leadOfMoves_0 = fun Q => (xI NT (xIst 5 (xI 0 (xIst 6 (k_Search_leadOfMoves_7 Q)))))) ∧ (k_Post_game_35 = (xI NT (xIret ()))) ∧ NT = -1000000 ∧ (k_Mdl_openLevel_0 = (xAld 0 (xGetR 11 50 (xIld 1 (xAld 0 (xIld 2 (xCallV 11 1 D_Mdl_moverAt (xIasth (xAld 0 (xGetR 11 51 (xIld 1 (xI (-1) (xIasth (xAld 0 (xGetR 11 52 (xIld 1 (xAld 0 (xGetR 11 50 (xIld 1 (xIaldh (xI (-1) (xicmp_ne (xAld 0 (xGetR 11 50 (xIld 1 (xIaldh (xif_ne (xI FA k_Mdl_openLevel_55) (xI FB k_Mdl_openLevel_55)))))) (xIld 3 k_Mdl_openLevel_55))))))))))))))))))))))) ∧ FA = zI 100000000 ∧ FB = zI (-100000000) ∧ (k_Mdl_game_0 = (xAld 0 (xI 0 (xPutI 11 0 (xAld 0 (xIld 1 (xCallV 11 1 D_Mdl_isReader (xif_eq k_Mdl_game_23 (xIld 2 (xi2l (xL 0 (xL 1 (xCallS 3 D_Mdl_in (xif_ne (xAld 0 (xIld 1 (xCallV 11 1 D_Mdl_findMine (xAld 0 (xGetI 11 47 (xI 8 (xicmp_le (xAld 0 (xCallV 11 0 D_Mdl_play (xIld 2 (xif_ne (xAld 0 (xGetR 11 53 (xI 0 (xIaldh (xI (-1) (xicmp_ne (xAld 0 (xGetR 11 46 (xAld 0 (xGetR 11 53 (xI 0 (xIaldh (xIaldh k_Mdl_game_87))))))) (xI (-1) k_Mdl_game_87))))))) (xAld 0 (xGetR 11 52 (xI 0 (xIaldh k_Mdl_game_87)))))))) (xI NT (xIret ()))))))))) k_Mdl_game_23)))))))))))))) ∧ (k_Mdl_game_23 = (xI NT (xIret ()))) := ⟨-1000000, -1640531535, 100000000, -100000000, rfl, rfl, rfl, rfl, rfl, rfl, rfl, by decide, by decide, rfl, rfl⟩
  have hNT : ∀ z : Int, -100000 ≤ z → z ≤ 100000 → (zI z = NT) = False := fun z z1 z2 => eq_false (fun e => by
    have e1 := congrArg Int32.toInt e
    rw [zI_toInt (by omega) (by omega), g6, show (-1000000 : Int32).toInt = -1000000 by decide] at e1
    omega)
  clear g6
  by_cases q : (0 ≤ a ∧ a < nI nr) ∧ 0 ≤ i ∧ i ≤ 1
  · obtain ⟨w, w1, rfl⟩ := ex_nI (by omega) q.1
    obtain ⟨k, k1, rfl⟩ := ex_le (a := i) (n := 1) (by omega) q.2
    obtain ⟨_, _, ⟨t, t1, t2⟩, _⟩ := hV.1.1.2.2.2.2.2.2.2.2.1 w w1
    refine st_q h0 (gaI NT (GVo (TW X.1) (lW X.1) X.1.1 w (mnN X.1.1 w nl) (mlF X.1.1 w nl)) (GMo (TW X.1) (lW X.1) X.1.1 w (mnN X.1.1 w nl) (mlF X.1.1 w nl)) (mnN X.1.1 w nl) t (mlF X.1.1 w nl) (nI k)) (fun G hG => ?_) (fun G hG => ?_)
    · refine SP.mono (c_game g1 g2 g3 g4 g5 hNT (hG.cx hV.1) hV.1.1 (by omega) w1 t1 t2 k (by omega)) ?_
      rintro ⟨x, G'⟩ ⟨hf, hx⟩
      exact ⟨hx, WGa, hf, Scr_WGa⟩
    · refine SP.mono (s_game g7 g8 g9 g10 (hG.mx hV.1) hV.1.1 hc w1 t1 t2 k (by omega)) ?_
      rintro ⟨x, G'⟩ ⟨hf, hr, hx⟩
      exact ⟨hx, hr, WGo, _, Or.inl rfl, hf, QM_WGo⟩
  · have q2 : ¬ (0 ≤ a ∧ a < nI nr) ∨ i < 0 ∨ 1 < i := by
      by_cases z : 0 ≤ a ∧ a < nI nr
      · rcases rg0 (a := i) (b := 1) (fun y => q ⟨z, y⟩) with y | y
        · exact Or.inr (Or.inl y)
        · exact Or.inr (Or.inr y.2)
      · exact Or.inl z
    exact st_ans h0 (v := NT) (fun G hG Q => c_game_no g5 hG.1.1 Q a i (c4 hG hV).1 q2) (fun G hG Q => s_game_no g10 g11 hG.1.1 Q a i (s1 hG hV).1 q)
