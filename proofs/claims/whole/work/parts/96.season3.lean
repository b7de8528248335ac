def WD : Nat → Nat → Bool := fun a _ => a == 104
theorem neg_add_c {a b : Int32} : -a + b = b - a := by rw [Int32.add_comm, ← Int32.sub_eq_add_neg]
/-- the first writing of what was drawn -/
theorem se_84 {G : XH} (hM : MS G) {R : Nat → Int32} (hrow : hpI G 72 = R) {nr : Nat} (hn : nr ≤ 8) (hd : hpI G 70 64 = nI nr) {Q : XR → Prop} {sd nn bf : Int32} (hex : ∀ {G' : XH}, Fr WD G G' → (∀ r, r < nr → hpI G' 104 (3 * r) = -R (14 + 6 * r) ∧ hpI G' 104 (3 * r + 1) = -R (12 + 6 * r)) → WP k_Mdl_season_141 [some (.ref 70), some (.int sd), some (.int nn), some (.int bf), some (.int 1), some (.int 0), none] [] G' Q) : WP k_Mdl_season_84 [some (.ref 70), some (.int sd), some (.int nn), some (.int bf), some (.int 0), none, none] [] G Q := by
  unfold k_Mdl_season_84
  refine w_loop (fun mm A' st G' => ∃ r, r ≤ nr ∧ mm = nr - r ∧ A' = [some (.ref 70), some (.int sd), some (.int nn), some (.int bf), some (.int (nI r)), none, none] ∧ st = [] ∧ ∃ f, G' = stA G 104 f ∧ ∀ k, k < r → f (3 * k) = -R (14 + 6 * k) ∧ f (3 * k + 1) = -R (12 + 6 * k)) ?_ NF nr _ _ _ (by unfold NF; omega) ⟨0, by omega, rfl, rfl, rfl, hpI G 104, stA_same.symm, fun k hk => absurd hk (by omega)⟩
  rintro mm A' st G' K ⟨r, hr, rfl, rfl, rfl, f, rfl, hf⟩ ih
  by_cases h : r < nr
  · have g : ¬ nI nr ≤ nI r := fun q => absurd ((nI_leI (by omega) (by omega)).mp q) (by omega)
    have e1 : 3 * nI r = nI (3 * r) := by rw [cI_3, nI_mul]
    have e2 : nI (3 * r) + 1 = nI (3 * r + 1) := nI_1 _
    have e5 : 9 + 6 * nI r + 5 = nI (14 + 6 * r) := by rw [cI_9, cI_6, cI_5, nI_mul, nI_add, nI_add]; congr 1; omega
    have e3 : 9 + 6 * nI r + 3 = nI (12 + 6 * r) := by rw [cI_9, cI_6, cI_3, nI_mul, nI_add, nI_add]; congr 1; omega
    have p1 : 0 ≤ nI (3 * r) := nI_pos' (by omega)
    have c1 : (nI (3 * r)).toNatClampNeg = 3 * r := nI_clamp (by omega)
    have l1 : 3 * r < 24 := by omega
    have p2 : 0 ≤ nI (3 * r + 1) := nI_pos' (by omega)
    have c2 : (nI (3 * r + 1)).toNatClampNeg = 3 * r + 1 := nI_clamp (by omega)
    have l2 : 3 * r + 1 < 24 := by omega
    have p5 : 0 ≤ nI (14 + 6 * r) := nI_pos' (by omega)
    have c5 : (nI (14 + 6 * r)).toNatClampNeg = 14 + 6 * r := nI_clamp (by omega)
    have l5 : 14 + 6 * r < 5580 := by omega
    have p3 : 0 ≤ nI (12 + 6 * r) := nI_pos' (by omega)
    have c3 : (nI (12 + 6 * r)).toNatClampNeg = 12 + 6 * r := nI_clamp (by omega)
    have l3 : 12 + 6 * r < 5580 := by omega
    simp only [f_Mdl_season_84, e_Mdl_ofReader, k_Mdl_ofReader_0, w_iadd, w_isub, w_imul, w_iand, w_ior, w_ixor, w_ishl, w_ishr, w_iushr, w_idiv, w_irem, w_ineg, w_ladd, w_lsub, w_lmul, w_ldiv, w_lrem, w_i2l, w_l2i, w_i2c, w_lcmp, w_dup_int, w_pop_int, w_dup_ref, w_pop_ref, w_dup_retAddr, w_pop_retAddr, w_dup2, w_I, w_L, w_Null, w_Ild, w_Lld, w_Ald, w_Ist, w_Lst, w_Ast, w_Iinc, w_if_eq, w_icmp_eq, w_if_ne, w_icmp_ne, w_if_lt, w_icmp_lt, w_if_ge, w_icmp_ge, w_if_gt, w_icmp_gt, w_if_le, w_icmp_le, w_GetI, w_GetL, w_GetR, w_PutI, w_PutZ, w_PutL, w_PutR, w_PutN, w_Iald, w_Zald, w_Lald, w_Aald, w_Iast, w_Zast, w_Last, w_AastR, w_AastN, w_Alen, w_New, w_NewA, w_Mna, w_Iret, w_Zret, w_Cret, w_Bret, w_Lret, w_AretR, w_AretN, w_Vret, w_Obj, w_IfNN, w_IfNR, w_Copy, w_Cln, w_Cast, w_SfA, w_SfI, w_SfQ, w_Str, w_ScLd, w_ScLen, w_CV0, w_CS0, w_CV1, w_CS1, w_CV2, w_CS2, w_CV3, w_CS3, w_CV4, w_CS4, w_CV5, w_CS5, List.getElem?_cons_zero, List.getElem?_cons_succ, List.set_cons_zero, List.set_cons_succ, List.length_cons, List.length_nil, List.map_cons, List.map_nil, List.sum_cons, List.sum_nil, List.nil_append, List.cons_append, Option.toList_some, Option.toList_none, Value.category, xok, va_rf, true_and, and_true, and_self, Nat.reduceAdd, Nat.reduceLT, Nat.reduceLeDiff, Nat.reduceEqDiff, Nat.reduceMul, beq_self_eq_true, decide_true, ite_true, ite_false, if_true, if_false, reduceIte, Bool.true_eq_false, Bool.false_eq_true, eq_self_iff_true, Nat.zero_le, not_true_eq_false, not_false_eq_true, forall_const, false_implies, implies_true, forall_false, stI_C, stI_N, stI_Z, stI_S, stI_L, stI_R, stL_C, stL_N, stL_Z, stL_S, stL_I, stL_R, stR_C, stR_N, stR_Z, stR_S, stR_I, stR_L, stA_C, stA_N, stA_Z, stA_S, stA_L, stA_R, stI_I, stL_L, stR_R, stA_I, stN_C, stN_N, stN_Z, stN_S, stN_I, stN_L, stN_R, stI_ne, stL_ne, stR_ne, hM.all, hpI_stA_ne, hd, g, xin, e1, e2, e5, e3, p1, c1, l1, p2, c2, l2, p5, c5, l5, p3, c3, l3, hrow, stI_stU, ne10, ne10L, ne01, ne01L, tt_imp, nt_imp, ff_imp, nf_imp, true_and, and_true, true_or, or_true, reduceIte]
    refine ih (nr - (r + 1)) _ _ _ (by omega) ⟨r + 1, by omega, rfl, by rw [show nI r + Int32.ofInt 1 = nI (r + 1) from nI_1 r], rfl, _, rfl, fun k hk => ?_⟩
    by_cases z : k = r
    · subst z
      rw [up_ne (by omega), up_eq, up_eq]
      exact ⟨rfl, rfl⟩
    · rw [up_ne (by omega), up_ne (by omega), up_ne (by omega), up_ne (by omega)]
      exact hf k (by omega)
  · have e : r = nr := by omega
    subst e
    have g : nI r ≤ nI r := Int32.le_refl _
    simp only [f_Mdl_season_84, w_iadd, w_isub, w_imul, w_iand, w_ior, w_ixor, w_ishl, w_ishr, w_iushr, w_idiv, w_irem, w_ineg, w_ladd, w_lsub, w_lmul, w_ldiv, w_lrem, w_i2l, w_l2i, w_i2c, w_lcmp, w_dup_int, w_pop_int, w_dup_ref, w_pop_ref, w_dup_retAddr, w_pop_retAddr, w_dup2, w_I, w_L, w_Null, w_Ild, w_Lld, w_Ald, w_Ist, w_Lst, w_Ast, w_Iinc, w_if_eq, w_icmp_eq, w_if_ne, w_icmp_ne, w_if_lt, w_icmp_lt, w_if_ge, w_icmp_ge, w_if_gt, w_icmp_gt, w_if_le, w_icmp_le, w_GetI, w_GetL, w_GetR, w_PutI, w_PutZ, w_PutL, w_PutR, w_PutN, w_Iald, w_Zald, w_Lald, w_Aald, w_Iast, w_Zast, w_Last, w_AastR, w_AastN, w_Alen, w_New, w_NewA, w_Mna, w_Iret, w_Zret, w_Cret, w_Bret, w_Lret, w_AretR, w_AretN, w_Vret, w_Obj, w_IfNN, w_IfNR, w_Copy, w_Cln, w_Cast, w_SfA, w_SfI, w_SfQ, w_Str, w_ScLd, w_ScLen, w_CV0, w_CS0, w_CV1, w_CS1, w_CV2, w_CS2, w_CV3, w_CS3, w_CV4, w_CS4, w_CV5, w_CS5, List.getElem?_cons_zero, List.getElem?_cons_succ, List.set_cons_zero, List.set_cons_succ, List.length_cons, List.length_nil, List.map_cons, List.map_nil, List.sum_cons, List.sum_nil, List.nil_append, List.cons_append, Option.toList_some, Option.toList_none, Value.category, xok, va_rf, true_and, and_true, and_self, Nat.reduceAdd, Nat.reduceLT, Nat.reduceLeDiff, Nat.reduceEqDiff, Nat.reduceMul, beq_self_eq_true, decide_true, ite_true, ite_false, if_true, if_false, reduceIte, Bool.true_eq_false, Bool.false_eq_true, eq_self_iff_true, Nat.zero_le, not_true_eq_false, not_false_eq_true, forall_const, false_implies, implies_true, forall_false, stI_C, stI_N, stI_Z, stI_S, stI_L, stI_R, stL_C, stL_N, stL_Z, stL_S, stL_I, stL_R, stR_C, stR_N, stR_Z, stR_S, stR_I, stR_L, stA_C, stA_N, stA_Z, stA_S, stA_L, stA_R, stI_I, stL_L, stR_R, stA_I, stN_C, stN_N, stN_Z, stN_S, stN_I, stN_L, stN_R, stI_ne, stL_ne, stR_ne, hM.all, hpI_stA_ne, hd, g, ne10, ne10L, ne01, ne01L, tt_imp, nt_imp, ff_imp, nf_imp, true_and, and_true, true_or, or_true, reduceIte]
    refine hex (Fr.refl.wA (fun k q => absurd q (by simp [WD]))) ?_
    rw [hpI_stA]
    exact hf
/-- what was drawn of a reader -/
def drV (R R' : Nat → Int32) (r f : Nat) : Int32 := if f = 0 then R' (14 + 6 * r) - R (14 + 6 * r) else if f = 1 then R' (12 + 6 * r) - R (12 + 6 * r) else R' (11 + 6 * r)
theorem se_232 {G : XH} (hM : MS G) {R R' : Nat → Int32} (hrow : hpI G 72 = R') (hHi : Hi R R') {nr : Nat} (hn : nr ≤ 8) (hd : hpI G 70 64 = nI nr) (hun : ∀ i, i < 136 → hpI G 75 (2176 + i) = R (5 + i)) (hdr : ∀ r, r < nr → hpI G 104 (3 * r) = -R (14 + 6 * r) ∧ hpI G 104 (3 * r + 1) = -R (12 + 6 * r)) {bf sd nn x4 x5 : Int32} {o6 : Option Value} (hp7 : -7 < R' 8 - bf) : WP k_Mdl_season_229 [some (.ref 70), some (.int sd), some (.int nn), some (.int bf), some (.int x4), some (.int x5), o6] [] G (fun r => r.1 = some (.int (R' 8 - bf)) ∧ ∃ f, r.2 = tellH (R' 8 - bf) (stA (stA G 104 f) 72 R) ∧ ∀ k g, k < nr → g < 3 → f (3 * k + g) = drV R R' k g) := by
  simp only [k_Mdl_season_229, w_iadd, w_isub, w_imul, w_iand, w_ior, w_ixor, w_ishl, w_ishr, w_iushr, w_idiv, w_irem, w_ineg, w_ladd, w_lsub, w_lmul, w_ldiv, w_lrem, w_i2l, w_l2i, w_i2c, w_lcmp, w_dup_int, w_pop_int, w_dup_ref, w_pop_ref, w_dup_retAddr, w_pop_retAddr, w_dup2, w_I, w_L, w_Null, w_Ild, w_Lld, w_Ald, w_Ist, w_Lst, w_Ast, w_Iinc, w_if_eq, w_icmp_eq, w_if_ne, w_icmp_ne, w_if_lt, w_icmp_lt, w_if_ge, w_icmp_ge, w_if_gt, w_icmp_gt, w_if_le, w_icmp_le, w_GetI, w_GetL, w_GetR, w_PutI, w_PutZ, w_PutL, w_PutR, w_PutN, w_Iald, w_Zald, w_Lald, w_Aald, w_Iast, w_Zast, w_Last, w_AastR, w_AastN, w_Alen, w_New, w_NewA, w_Mna, w_Iret, w_Zret, w_Cret, w_Bret, w_Lret, w_AretR, w_AretN, w_Vret, w_Obj, w_IfNN, w_IfNR, w_Copy, w_Cln, w_Cast, w_SfA, w_SfI, w_SfQ, w_Str, w_ScLd, w_ScLen, w_CV0, w_CS0, w_CV1, w_CS1, w_CV2, w_CS2, w_CV3, w_CS3, w_CV4, w_CS4, w_CV5, w_CS5, List.getElem?_cons_zero, List.getElem?_cons_succ, List.set_cons_zero, List.set_cons_succ, List.length_cons, List.length_nil, List.map_cons, List.map_nil, List.sum_cons, List.sum_nil, List.nil_append, List.cons_append, Option.toList_some, Option.toList_none, Value.category, xok, va_rf, true_and, and_true, and_self, Nat.reduceAdd, Nat.reduceLT, Nat.reduceLeDiff, Nat.reduceEqDiff, Nat.reduceMul, beq_self_eq_true, decide_true, ite_true, ite_false, if_true, if_false, reduceIte, Bool.true_eq_false, Bool.false_eq_true, eq_self_iff_true, Nat.zero_le, not_true_eq_false, not_false_eq_true, forall_const, false_implies, implies_true, forall_false]
  unfold k_Mdl_season_232
  refine w_loop (fun mm A' st G' => ∃ r, r ≤ nr ∧ mm = nr - r ∧ A' = [some (.ref 70), some (.int sd), some (.int nn), some (.int bf), some (.int x4), some (.int (nI r)), o6] ∧ st = [] ∧ ∃ f, G' = stA G 104 f ∧ (∀ k g, k < r → g < 3 → f (3 * k + g) = drV R R' k g) ∧ ∀ k, r ≤ k → k < nr → f (3 * k) = -R (14 + 6 * k) ∧ f (3 * k + 1) = -R (12 + 6 * k)) ?_ NF nr _ _ _ (by unfold NF; omega) ⟨0, by omega, rfl, rfl, rfl, hpI G 104, stA_same.symm, fun k g hk => absurd hk (by omega), fun k _ hk => hdr k hk⟩
  rintro mm A' st G' K ⟨r, hr, rfl, rfl, rfl, f, rfl, hf, hf2⟩ ih
  by_cases h : r < nr
  · have g : ¬ nI nr ≤ nI r := fun q => absurd ((nI_leI (by omega) (by omega)).mp q) (by omega)
    obtain ⟨d1, d2⟩ := hf2 r (Nat.le_refl _) h
    have e1 : 3 * nI r = nI (3 * r) := by rw [cI_3, nI_mul]
    have e2 : nI (3 * r) + 1 = nI (3 * r + 1) := nI_1 _
    have e2' : nI (3 * r) + 2 = nI (3 * r + 2) := nI_add (3 * r) 2
    have e5 : 9 + 6 * nI r + 5 = nI (14 + 6 * r) := by rw [cI_9, cI_6, cI_5, nI_mul, nI_add, nI_add]; congr 1; omega
    have e3 : 9 + 6 * nI r + 3 = nI (12 + 6 * r) := by rw [cI_9, cI_6, cI_3, nI_mul, nI_add, nI_add]; congr 1; omega
    have e4 : 9 + 6 * nI r + 2 = nI (11 + 6 * r) := by rw [cI_9, cI_6, cI_2, nI_mul, nI_add, nI_add]; congr 1; omega
    have p1 : 0 ≤ nI (3 * r) := nI_pos' (by omega)
    have c1 : (nI (3 * r)).toNatClampNeg = 3 * r := nI_clamp (by omega)
    have l1 : 3 * r < 24 := by omega
    have p2 : 0 ≤ nI (3 * r + 1) := nI_pos' (by omega)
    have c2 : (nI (3 * r + 1)).toNatClampNeg = 3 * r + 1 := nI_clamp (by omega)
    have l2 : 3 * r + 1 < 24 := by omega
    have p6 : 0 ≤ nI (3 * r + 2) := nI_pos' (by omega)
    have c6 : (nI (3 * r + 2)).toNatClampNeg = 3 * r + 2 := nI_clamp (by omega)
    have l6 : 3 * r + 2 < 24 := by omega
    have p5 : 0 ≤ nI (14 + 6 * r) := nI_pos' (by omega)
    have c5 : (nI (14 + 6 * r)).toNatClampNeg = 14 + 6 * r := nI_clamp (by omega)
    have l5 : 14 + 6 * r < 5580 := by omega
    have p3 : 0 ≤ nI (12 + 6 * r) := nI_pos' (by omega)
    have c3 : (nI (12 + 6 * r)).toNatClampNeg = 12 + 6 * r := nI_clamp (by omega)
    have l3 : 12 + 6 * r < 5580 := by omega
    have p4 : 0 ≤ nI (11 + 6 * r) := nI_pos' (by omega)
    have c4 : (nI (11 + 6 * r)).toNatClampNeg = 11 + 6 * r := nI_clamp (by omega)
    have l4 : 11 + 6 * r < 5580 := by omega
    have n1 : (3 * r + 1 = 3 * r) = False := eq_false (by omega)
    simp only [f_Mdl_season_232, k_Mdl_season_292, e_Mdl_ofReader, k_Mdl_ofReader_0, w_iadd, w_isub, w_imul, w_iand, w_ior, w_ixor, w_ishl, w_ishr, w_iushr, w_idiv, w_irem, w_ineg, w_ladd, w_lsub, w_lmul, w_ldiv, w_lrem, w_i2l, w_l2i, w_i2c, w_lcmp, w_dup_int, w_pop_int, w_dup_ref, w_pop_ref, w_dup_retAddr, w_pop_retAddr, w_dup2, w_I, w_L, w_Null, w_Ild, w_Lld, w_Ald, w_Ist, w_Lst, w_Ast, w_Iinc, w_if_eq, w_icmp_eq, w_if_ne, w_icmp_ne, w_if_lt, w_icmp_lt, w_if_ge, w_icmp_ge, w_if_gt, w_icmp_gt, w_if_le, w_icmp_le, w_GetI, w_GetL, w_GetR, w_PutI, w_PutZ, w_PutL, w_PutR, w_PutN, w_Iald, w_Zald, w_Lald, w_Aald, w_Iast, w_Zast, w_Last, w_AastR, w_AastN, w_Alen, w_New, w_NewA, w_Mna, w_Iret, w_Zret, w_Cret, w_Bret, w_Lret, w_AretR, w_AretN, w_Vret, w_Obj, w_IfNN, w_IfNR, w_Copy, w_Cln, w_Cast, w_SfA, w_SfI, w_SfQ, w_Str, w_ScLd, w_ScLen, w_CV0, w_CS0, w_CV1, w_CS1, w_CV2, w_CS2, w_CV3, w_CS3, w_CV4, w_CS4, w_CV5, w_CS5, List.getElem?_cons_zero, List.getElem?_cons_succ, List.set_cons_zero, List.set_cons_succ, List.length_cons, List.length_nil, List.map_cons, List.map_nil, List.sum_cons, List.sum_nil, List.nil_append, List.cons_append, Option.toList_some, Option.toList_none, Value.category, xok, va_rf, true_and, and_true, and_self, Nat.reduceAdd, Nat.reduceLT, Nat.reduceLeDiff, Nat.reduceEqDiff, Nat.reduceMul, beq_self_eq_true, decide_true, ite_true, ite_false, if_true, if_false, reduceIte, Bool.true_eq_false, Bool.false_eq_true, eq_self_iff_true, Nat.zero_le, not_true_eq_false, not_false_eq_true, forall_const, false_implies, implies_true, forall_false, stI_C, stI_N, stI_Z, stI_S, stI_L, stI_R, stL_C, stL_N, stL_Z, stL_S, stL_I, stL_R, stR_C, stR_N, stR_Z, stR_S, stR_I, stR_L, stA_C, stA_N, stA_Z, stA_S, stA_L, stA_R, stI_I, stL_L, stR_R, stA_I, stN_C, stN_N, stN_Z, stN_S, stN_I, stN_L, stN_R, stI_ne, stL_ne, stR_ne, hM.all, hpI_stA, hpI_stA_ne, hd, g, xin, e1, e2, e2', e5, e3, e4, p1, c1, l1, p2, c2, l2, p6, c6, l6, p5, c5, l5, p3, c3, l3, p4, c4, l4, hrow, stI_stU, up_ne, n1, d1, d2, neg_add_c, ne10, ne10L, ne01, ne01L, tt_imp, nt_imp, ff_imp, nf_imp, true_and, and_true, true_or, or_true, reduceIte]
    refine ih (nr - (r + 1)) _ _ _ (by omega) ⟨r + 1, by omega, rfl, by rw [show nI r + Int32.ofInt 1 = nI (r + 1) from nI_1 r], rfl, _, rfl, fun k q9 hk hg => ?_, fun k h1 h2 => ?_⟩
    · by_cases z : k = r
      · subst z
        rcases (by omega : q9 = 0 ∨ q9 = 1 ∨ q9 = 2) with rfl | rfl | rfl
        · rw [up_ne (by omega), up_ne (by omega), Nat.add_zero, up_eq]
          rfl
        · rw [up_ne (by omega), up_eq]
          rfl
        · rw [up_eq]
          rfl
      · rw [up_ne (by omega), up_ne (by omega), up_ne (by omega)]
        exact hf k q9 (by omega) hg
    · rw [up_ne (by omega), up_ne (by omega), up_ne (by omega), up_ne (by omega), up_ne (by omega), up_ne (by omega)]
      exact hf2 k (by omega) h2
  · have e : r = nr := by omega
    subst e
    have g : nI r ≤ nI r := Int32.le_refl _
    have hMd : MS (stA G 104 f) := MS_stA.mpr hM
    have hpb : ∀ Q, SP D_Mdl_putBack [.ref 70, .int 16] (stA G 104 f) Q = Q (none, stA (stA G 104 f) 72 R) := by
      intro Q
      have := s_putBack hMd Q 16 (by omega)
      rw [hpI_stA_ne (by decide), hpI_stA_ne (by decide), hrow] at this
      have e : va_cpy (hpI G 75) R' (136 * 16) 5 136 = R := by
        funext j
        by_cases q : 5 ≤ j ∧ j < 5 + 136
        · rw [cpy_in q, show 136 * 16 + (j - 5) = 2176 + (j - 5) from rfl, hun (j - 5) (by omega)]
          exact congrArg R (by omega)
        · rw [cpy_out q]
          exact hHi j (by omega)
      rw [e] at this
      exact this
    have hMp : MS (stA (stA G 104 f) 72 R) := MS_stA.mpr hMd
    have hto := fun Q => s_tell hMp Q _ hp7
    simp only [f_Mdl_season_232, w_iadd, w_isub, w_imul, w_iand, w_ior, w_ixor, w_ishl, w_ishr, w_iushr, w_idiv, w_irem, w_ineg, w_ladd, w_lsub, w_lmul, w_ldiv, w_lrem, w_i2l, w_l2i, w_i2c, w_lcmp, w_dup_int, w_pop_int, w_dup_ref, w_pop_ref, w_dup_retAddr, w_pop_retAddr, w_dup2, w_I, w_L, w_Null, w_Ild, w_Lld, w_Ald, w_Ist, w_Lst, w_Ast, w_Iinc, w_if_eq, w_icmp_eq, w_if_ne, w_icmp_ne, w_if_lt, w_icmp_lt, w_if_ge, w_icmp_ge, w_if_gt, w_icmp_gt, w_if_le, w_icmp_le, w_GetI, w_GetL, w_GetR, w_PutI, w_PutZ, w_PutL, w_PutR, w_PutN, w_Iald, w_Zald, w_Lald, w_Aald, w_Iast, w_Zast, w_Last, w_AastR, w_AastN, w_Alen, w_New, w_NewA, w_Mna, w_Iret, w_Zret, w_Cret, w_Bret, w_Lret, w_AretR, w_AretN, w_Vret, w_Obj, w_IfNN, w_IfNR, w_Copy, w_Cln, w_Cast, w_SfA, w_SfI, w_SfQ, w_Str, w_ScLd, w_ScLen, w_CV0, w_CS0, w_CV1, w_CS1, w_CV2, w_CS2, w_CV3, w_CS3, w_CV4, w_CS4, w_CV5, w_CS5, List.getElem?_cons_zero, List.getElem?_cons_succ, List.set_cons_zero, List.set_cons_succ, List.length_cons, List.length_nil, List.map_cons, List.map_nil, List.sum_cons, List.sum_nil, List.nil_append, List.cons_append, Option.toList_some, Option.toList_none, Value.category, xok, va_rf, true_and, and_true, and_self, Nat.reduceAdd, Nat.reduceLT, Nat.reduceLeDiff, Nat.reduceEqDiff, Nat.reduceMul, beq_self_eq_true, decide_true, ite_true, ite_false, if_true, if_false, reduceIte, Bool.true_eq_false, Bool.false_eq_true, eq_self_iff_true, Nat.zero_le, not_true_eq_false, not_false_eq_true, forall_const, false_implies, implies_true, forall_false, stI_C, stI_N, stI_Z, stI_S, stI_L, stI_R, stL_C, stL_N, stL_Z, stL_S, stL_I, stL_R, stR_C, stR_N, stR_Z, stR_S, stR_I, stR_L, stA_C, stA_N, stA_Z, stA_S, stA_L, stA_R, stI_I, stL_L, stR_R, stA_I, stN_C, stN_N, stN_Z, stN_S, stN_I, stN_L, stN_R, stI_ne, stL_ne, stR_ne, tn_0, tn_1, tn_2, tn_3, tn_4, tn_5, tn_6, tn_7, tn_8, tn_9, tn_10, tn_11, tn_12, tn_13, tn_14, tn_15, tn_16, tn_17, tn_18, tn_19, tn_20, tn_21, tn_22, tn_23, tn_24, tn_25, tn_26, tn_27, tn_28, tn_29, tn_30, tn_31, tn_32, tn_33, tn_34, tn_35, tn_36, tn_37, tn_38, tn_39, tn_40, tn_41, tn_42, tn_43, tn_44, tn_45, tn_46, tn_47, tn_48, tn_49, tn_50, tn_51, tn_52, tn_53, tn_54, tn_55, tn_56, tn_57, tn_58, tn_59, tn_60, tn_61, tn_62, tn_63, tn_64, tn_65, tn_66, tn_67, tn_68, tn_69, tn_70, tn_71, tn_72, tn_73, tn_74, tn_75, tn_76, tn_77, tn_78, tn_79, tn_80, tn_81, tn_82, tn_83, tn_84, tn_85, tn_86, tn_87, tn_88, tn_89, tn_90, tn_91, tn_92, tn_93, tn_94, tn_95, tn_96, tn_97, tn_98, tn_99, tn_100, tn_101, tn_102, tn_103, tn_104, tn_105, tn_106, tn_107, tn_108, tn_109, tn_110, tn_111, tn_112, tn_113, tn_114, tn_115, tn_116, tn_117, tn_118, tn_119, tn_120, tn_121, tn_122, tn_123, tn_124, tn_125, tn_126, tn_127, tn_128, tn_129, tn_130, tn_131, tn_132, tn_133, tn_134, tn_135, tn_136, tn_137, tn_138, tn_139, tn_140, tn_141, tn_142, tn_143, tn_144, tn_145, tn_146, tn_147, tn_148, tn_149, tn_150, tn_151, tn_152, tn_153, tn_154, tn_155, tn_156, tn_157, tn_158, tn_159, tn_160, tn_161, tn_162, tn_163, tn_164, tn_165, tn_166, tn_167, tn_168, tn_169, tn_170, tn_171, tn_172, tn_173, tn_174, tn_175, tn_176, tn_177, tn_178, tn_179, tn_180, tn_181, tn_182, tn_183, tn_184, tn_185, tn_186, tn_187, tn_188, tn_189, tn_190, tn_191, tn_192, tn_193, tn_194, tn_195, tn_196, tn_197, tn_198, tn_199, tn_255, tn_256, tn_300, tn_399, tn_400, tn_500, tn_900, tn_999, tn_1000, tn_1001, tn_1024, tn_2048, tn_2176, tn_3536, tn_4095, tn_4096, tn_5580, tn_11160, tn_12345, tn_1103, tn_99999, tn_1000000, tn_1000003, tn_100000000, tn_1000000000, ge0_0, ge0_1, ge0_2, ge0_3, ge0_4, ge0_5, ge0_6, ge0_7, ge0_8, ge0_9, ge0_10, ge0_11, ge0_12, ge0_13, ge0_14, ge0_15, ge0_16, ge0_17, ge0_18, ge0_19, ge0_20, ge0_21, ge0_22, ge0_23, ge0_24, ge0_25, ge0_26, ge0_27, ge0_28, ge0_29, ge0_30, ge0_31, ge0_32, ge0_33, ge0_34, ge0_35, ge0_36, ge0_37, ge0_38, ge0_39, ge0_40, ge0_41, ge0_42, ge0_43, ge0_44, ge0_45, ge0_46, ge0_47, ge0_48, ge0_49, ge0_50, ge0_51, ge0_52, ge0_53, ge0_54, ge0_55, ge0_56, ge0_57, ge0_58, ge0_59, ge0_60, ge0_61, ge0_62, ge0_63, ge0_64, ge0_65, ge0_66, ge0_67, ge0_68, ge0_69, ge0_70, ge0_71, ge0_72, ge0_73, ge0_74, ge0_75, ge0_76, ge0_77, ge0_78, ge0_79, ge0_80, ge0_81, ge0_82, ge0_83, ge0_84, ge0_85, ge0_86, ge0_87, ge0_88, ge0_89, ge0_90, ge0_91, ge0_92, ge0_93, ge0_94, ge0_95, ge0_96, ge0_97, ge0_98, ge0_99, ge0_100, ge0_101, ge0_102, ge0_103, ge0_104, ge0_105, ge0_106, ge0_107, ge0_108, ge0_109, ge0_110, ge0_111, ge0_112, ge0_113, ge0_114, ge0_115, ge0_116, ge0_117, ge0_118, ge0_119, ge0_120, ge0_121, ge0_122, ge0_123, ge0_124, ge0_125, ge0_126, ge0_127, ge0_128, ge0_129, ge0_130, ge0_131, ge0_132, ge0_133, ge0_134, ge0_135, ge0_136, ge0_137, ge0_138, ge0_139, ge0_140, ge0_141, ge0_142, ge0_143, ge0_144, ge0_145, ge0_146, ge0_147, ge0_148, ge0_149, ge0_150, ge0_151, ge0_152, ge0_153, ge0_154, ge0_155, ge0_156, ge0_157, ge0_158, ge0_159, ge0_160, ge0_161, ge0_162, ge0_163, ge0_164, ge0_165, ge0_166, ge0_167, ge0_168, ge0_169, ge0_170, ge0_171, ge0_172, ge0_173, ge0_174, ge0_175, ge0_176, ge0_177, ge0_178, ge0_179, ge0_180, ge0_181, ge0_182, ge0_183, ge0_184, ge0_185, ge0_186, ge0_187, ge0_188, ge0_189, ge0_190, ge0_191, ge0_192, ge0_193, ge0_194, ge0_195, ge0_196, ge0_197, ge0_198, ge0_199, ge0_255, ge0_256, ge0_300, ge0_399, ge0_400, ge0_500, ge0_900, ge0_999, ge0_1000, ge0_1001, ge0_1024, ge0_2048, ge0_2176, ge0_3536, ge0_4095, ge0_4096, ge0_5580, ge0_11160, ge0_12345, ge0_1103, ge0_99999, ge0_1000000, ge0_1000003, ge0_100000000, ge0_1000000000, hM.all, hpI_stA_ne, hd, g, xin, hrow, hpb, hto, ne10, ne10L, ne01, ne01L, tt_imp, nt_imp, ff_imp, nf_imp, true_and, and_true, true_or, or_true, reduceIte]
    exact ⟨f, rfl, hf⟩
/-- what a season's call writes -/
def WX : Nat → Nat → Bool := fun a k => WB a k || a == 104 || (a == 70 && (k == 62 || k == 64))
theorem WB_WX (a k : Nat) (h : WX a k = false) : WB a k = false := by
  unfold WX at h
  simp only [Bool.or_eq_false_iff] at h
  exact h.1.1
theorem WD_WX (a k : Nat) (h : WX a k = false) : WD a k = false := by
  unfold WX at h
  unfold WD
  simp only [Bool.or_eq_false_iff] at h
  exact h.1.2
theorem WN_WX (a k : Nat) (h : WX a k = false) : WN a k = false := by
  unfold WX WB WHM at h
  unfold WN
  simp only [Bool.or_eq_false_iff, Bool.and_eq_false_iff] at h ⊢
  grind
theorem s_season {G : XH} {R : Nat → Int32} {T : Nat → (Nat → Int64) → Option Int64} {hl : Bool} (h : MX G R T hl) {n nr nl c s0 N : Nat} {A B : Nat → Nat} (hR : RW R nr nl c) (hc : c + 61 ≤ 500000) (h0 : 0 < nl) (hRd : MRd R n A B) (hs : s0 ≤ 1000000) (h1N : 1 ≤ N) (hN : N ≤ 60) (hoff : -7 < (seS T hl A B n nr nl s0 R N).2.1 8 - R 8) : SP D_Mdl_season [.ref 70, .int (nI s0), .int (nI N)] G (fun r => r.1 = some (.int ((seS T hl A B n nr nl s0 R N).2.1 8 - R 8)) ∧ hpI r.2 72 = R ∧ Fr WX G r.2 ∧ hpI r.2 70 1 = stM1 ((seS T hl A B n nr nl s0 R N).2.1 8 - R 8) ∧ hpI r.2 71 = rfM (hpI G 71) ((seS T hl A B n nr nl s0 R N).2.1 8 - R 8) ∧ hpI r.2 70 64 = nI nr ∧ (∀ k g, k < nr → g < 3 → hpI r.2 104 (3 * k + g) = drV R (seS T hl A B n nr nl s0 R N).2.1 k g) ∧ (∀ j, j < 2176 → hpI r.2 75 j = hpI G 75 j) ∧ hpI r.2 70 8 = hpI G 70 8 ∧ hpI r.2 76 = hpI G 76) := by
  have hM := h.1
  have hz := h.t0
  have hMz := hz.1
  have hrow := hz.2.2.1
  have nl12 := hR.2.2.2.1
  have nr8 := hR.2.1
  obtain ⟨u, hu, hk⟩ : ∃ u : Int64, (nI s0).toInt64 ≤ u ∧ k_Mdl_season_0 = (xAld 0 (xI 0 (xPutI 11 0 (xIld 1 (xi2l (xL 0 (xL u (xCallS 3 D_Mdl_in (xif_eq k_Mdl_season_29 (xIld 2 (xi2l (xL 1 (xL 60 (xCallS 3 D_Mdl_in (xif_ne (xAld 0 (xGetR 11 3 (xI 2 (xIaldh (xif_ne (xAld 0 (xI 16 (xCallV 11 1 D_Mdl_keepAll (xAld 0 (xIld 1 (xi2l (xPutL 11 62 (xAld 0 (xAld 0 (xGetR 11 3 (xI 1 (xIaldh (xPutI 11 64 (xAld 0 (xGetR 11 3 (xI 8 (xIaldh (xIst 3 (xI 0 (xIst 4 k_Mdl_season_84)))))))))))))))))))) (xAld 0 (xI (-3) (xCallV 11 1 D_Mdl_tell (xIret ()))))))))) k_Mdl_season_29))))))))))))))) := ⟨_, by rw [l64_1000000]; exact nI_le (b := 1000000) (by omega) (by omega), rfl⟩
  have gN : (1 : Int32) ≤ nI N ∧ nI N ≤ 60 := ⟨nI_le (a := 1) (by omega) (by omega), nI_le (b := 60) (by omega) (by omega)⟩
  have gs : (0 : Int32) ≤ nI s0 := nI_pos' (by omega)
  have gl : (nI nl = 0) = False := eq_false (fun q => absurd ((nI_eq (b := 0) (by omega) (by decide)).mp q) (by omega))
  have hka : ∀ Q, SP D_Mdl_keepAll [.ref 70, .int 16] (stI G 70 0 0) Q = Q (none, stA (stI G 70 0 0) 75 (va_cpy R (hpI G 75) 5 2176 136)) := by
    intro Q
    have := s_keepAll hMz Q 16 (by omega)
    rw [hrow] at this
    exact this
  rw [e_Mdl_season, hk]
  simp only [w_iadd, w_isub, w_imul, w_iand, w_ior, w_ixor, w_ishl, w_ishr, w_iushr, w_idiv, w_irem, w_ineg, w_ladd, w_lsub, w_lmul, w_ldiv, w_lrem, w_i2l, w_l2i, w_i2c, w_lcmp, w_dup_int, w_pop_int, w_dup_ref, w_pop_ref, w_dup_retAddr, w_pop_retAddr, w_dup2, w_I, w_L, w_Null, w_Ild, w_Lld, w_Ald, w_Ist, w_Lst, w_Ast, w_Iinc, w_if_eq, w_icmp_eq, w_if_ne, w_icmp_ne, w_if_lt, w_icmp_lt, w_if_ge, w_icmp_ge, w_if_gt, w_icmp_gt, w_if_le, w_icmp_le, w_GetI, w_GetL, w_GetR, w_PutI, w_PutZ, w_PutL, w_PutR, w_PutN, w_Iald, w_Zald, w_Lald, w_Aald, w_Iast, w_Zast, w_Last, w_AastR, w_AastN, w_Alen, w_New, w_NewA, w_Mna, w_Iret, w_Zret, w_Cret, w_Bret, w_Lret, w_AretR, w_AretN, w_Vret, w_Obj, w_IfNN, w_IfNR, w_Copy, w_Cln, w_Cast, w_SfA, w_SfI, w_SfQ, w_Str, w_ScLd, w_ScLen, w_CV0, w_CS0, w_CV1, w_CS1, w_CV2, w_CS2, w_CV3, w_CS3, w_CV4, w_CS4, w_CV5, w_CS5, List.getElem?_cons_zero, List.getElem?_cons_succ, List.set_cons_zero, List.set_cons_succ, List.length_cons, List.length_nil, List.map_cons, List.map_nil, List.sum_cons, List.sum_nil, List.nil_append, List.cons_append, Option.toList_some, Option.toList_none, Value.category, xok, va_rf, true_and, and_true, and_self, Nat.reduceAdd, Nat.reduceLT, Nat.reduceLeDiff, Nat.reduceEqDiff, Nat.reduceMul, beq_self_eq_true, decide_true, ite_true, ite_false, if_true, if_false, reduceIte, Bool.true_eq_false, Bool.false_eq_true, eq_self_iff_true, Nat.zero_le, not_true_eq_false, not_false_eq_true, forall_const, false_implies, implies_true, forall_false, stI_C, stI_N, stI_Z, stI_S, stI_L, stI_R, stL_C, stL_N, stL_Z, stL_S, stL_I, stL_R, stR_C, stR_N, stR_Z, stR_S, stR_I, stR_L, stA_C, stA_N, stA_Z, stA_S, stA_L, stA_R, stI_I, stL_L, stR_R, stA_I, stN_C, stN_N, stN_Z, stN_S, stN_I, stN_L, stN_R, stI_ne, stL_ne, stR_ne, tn_0, tn_1, tn_2, tn_3, tn_4, tn_5, tn_6, tn_7, tn_8, tn_9, tn_10, tn_11, tn_12, tn_13, tn_14, tn_15, tn_16, tn_17, tn_18, tn_19, tn_20, tn_21, tn_22, tn_23, tn_24, tn_25, tn_26, tn_27, tn_28, tn_29, tn_30, tn_31, tn_32, tn_33, tn_34, tn_35, tn_36, tn_37, tn_38, tn_39, tn_40, tn_41, tn_42, tn_43, tn_44, tn_45, tn_46, tn_47, tn_48, tn_49, tn_50, tn_51, tn_52, tn_53, tn_54, tn_55, tn_56, tn_57, tn_58, tn_59, tn_60, tn_61, tn_62, tn_63, tn_64, tn_65, tn_66, tn_67, tn_68, tn_69, tn_70, tn_71, tn_72, tn_73, tn_74, tn_75, tn_76, tn_77, tn_78, tn_79, tn_80, tn_81, tn_82, tn_83, tn_84, tn_85, tn_86, tn_87, tn_88, tn_89, tn_90, tn_91, tn_92, tn_93, tn_94, tn_95, tn_96, tn_97, tn_98, tn_99, tn_100, tn_101, tn_102, tn_103, tn_104, tn_105, tn_106, tn_107, tn_108, tn_109, tn_110, tn_111, tn_112, tn_113, tn_114, tn_115, tn_116, tn_117, tn_118, tn_119, tn_120, tn_121, tn_122, tn_123, tn_124, tn_125, tn_126, tn_127, tn_128, tn_129, tn_130, tn_131, tn_132, tn_133, tn_134, tn_135, tn_136, tn_137, tn_138, tn_139, tn_140, tn_141, tn_142, tn_143, tn_144, tn_145, tn_146, tn_147, tn_148, tn_149, tn_150, tn_151, tn_152, tn_153, tn_154, tn_155, tn_156, tn_157, tn_158, tn_159, tn_160, tn_161, tn_162, tn_163, tn_164, tn_165, tn_166, tn_167, tn_168, tn_169, tn_170, tn_171, tn_172, tn_173, tn_174, tn_175, tn_176, tn_177, tn_178, tn_179, tn_180, tn_181, tn_182, tn_183, tn_184, tn_185, tn_186, tn_187, tn_188, tn_189, tn_190, tn_191, tn_192, tn_193, tn_194, tn_195, tn_196, tn_197, tn_198, tn_199, tn_255, tn_256, tn_300, tn_399, tn_400, tn_500, tn_900, tn_999, tn_1000, tn_1001, tn_1024, tn_2048, tn_2176, tn_3536, tn_4095, tn_4096, tn_5580, tn_11160, tn_12345, tn_1103, tn_99999, tn_1000000, tn_1000003, tn_100000000, tn_1000000000, ge0_0, ge0_1, ge0_2, ge0_3, ge0_4, ge0_5, ge0_6, ge0_7, ge0_8, ge0_9, ge0_10, ge0_11, ge0_12, ge0_13, ge0_14, ge0_15, ge0_16, ge0_17, ge0_18, ge0_19, ge0_20, ge0_21, ge0_22, ge0_23, ge0_24, ge0_25, ge0_26, ge0_27, ge0_28, ge0_29, ge0_30, ge0_31, ge0_32, ge0_33, ge0_34, ge0_35, ge0_36, ge0_37, ge0_38, ge0_39, ge0_40, ge0_41, ge0_42, ge0_43, ge0_44, ge0_45, ge0_46, ge0_47, ge0_48, ge0_49, ge0_50, ge0_51, ge0_52, ge0_53, ge0_54, ge0_55, ge0_56, ge0_57, ge0_58, ge0_59, ge0_60, ge0_61, ge0_62, ge0_63, ge0_64, ge0_65, ge0_66, ge0_67, ge0_68, ge0_69, ge0_70, ge0_71, ge0_72, ge0_73, ge0_74, ge0_75, ge0_76, ge0_77, ge0_78, ge0_79, ge0_80, ge0_81, ge0_82, ge0_83, ge0_84, ge0_85, ge0_86, ge0_87, ge0_88, ge0_89, ge0_90, ge0_91, ge0_92, ge0_93, ge0_94, ge0_95, ge0_96, ge0_97, ge0_98, ge0_99, ge0_100, ge0_101, ge0_102, ge0_103, ge0_104, ge0_105, ge0_106, ge0_107, ge0_108, ge0_109, ge0_110, ge0_111, ge0_112, ge0_113, ge0_114, ge0_115, ge0_116, ge0_117, ge0_118, ge0_119, ge0_120, ge0_121, ge0_122, ge0_123, ge0_124, ge0_125, ge0_126, ge0_127, ge0_128, ge0_129, ge0_130, ge0_131, ge0_132, ge0_133, ge0_134, ge0_135, ge0_136, ge0_137, ge0_138, ge0_139, ge0_140, ge0_141, ge0_142, ge0_143, ge0_144, ge0_145, ge0_146, ge0_147, ge0_148, ge0_149, ge0_150, ge0_151, ge0_152, ge0_153, ge0_154, ge0_155, ge0_156, ge0_157, ge0_158, ge0_159, ge0_160, ge0_161, ge0_162, ge0_163, ge0_164, ge0_165, ge0_166, ge0_167, ge0_168, ge0_169, ge0_170, ge0_171, ge0_172, ge0_173, ge0_174, ge0_175, ge0_176, ge0_177, ge0_178, ge0_179, ge0_180, ge0_181, ge0_182, ge0_183, ge0_184, ge0_185, ge0_186, ge0_187, ge0_188, ge0_189, ge0_190, ge0_191, ge0_192, ge0_193, ge0_194, ge0_195, ge0_196, ge0_197, ge0_198, ge0_199, ge0_255, ge0_256, ge0_300, ge0_399, ge0_400, ge0_500, ge0_900, ge0_999, ge0_1000, ge0_1001, ge0_1024, ge0_2048, ge0_2176, ge0_3536, ge0_4095, ge0_4096, ge0_5580, ge0_11160, ge0_12345, ge0_1103, ge0_99999, ge0_1000000, ge0_1000003, ge0_100000000, ge0_1000000000, l64_0, g64_0, l64_1, g64_1, l64_2, g64_2, l64_3, g64_3, l64_6, g64_6, l64_7, g64_7, l64_9, g64_9, l64_11, g64_11, l64_12, g64_12, l64_20, g64_20, l64_30, g64_30, l64_50, g64_50, l64_60, g64_60, l64_99, g64_99, l64_999, g64_999, l64_1000, g64_1000, l64_99999, g64_99999, l64_1000000, g64_1000000, l64_1000000000, g64_1000000000, g64_m1, t64_le, t64_lt, t64_eq, t64_pred, ite10, ite11, em01, hM.all, s_in, gs, hu, gN, xin, h.2.2.1, hR.2.2.1, gl, hka, hR.1, ne10, ne10L, ne01, ne01L, tt_imp, nt_imp, ff_imp, nf_imp, true_and, and_true, true_or, or_true, reduceIte]
  obtain ⟨G1, hG1⟩ : ∃ G1, G1 = stI (stL (stA (stI G 70 0 0) 75 (va_cpy R (hpI G 75) 5 2176 136)) 70 62 (nI s0).toInt64) 70 64 (nI nr) := ⟨_, rfl⟩
  rw [← hG1]
  have hf1 : Fr WX G G1 := by
    rw [hG1]
    exact (((Fr.refl.wI rfl).wA (fun k q => absurd q (by unfold WX WB WHM WM; simp))).wL rfl).wI rfl
  have hM1 := hf1.ms hM
  have i72 : hpI G1 72 = R := by
    rw [hG1, stI_up, hpI_stA_ne (by decide)]
    show hpI (stA (stI G 70 0 0) 75 (va_cpy R (hpI G 75) 5 2176 136)) 72 = R
    rw [hpI_stA_ne (by decide)]
    exact hrow
  have i75 : hpI G1 75 = va_cpy R (hpI G 75) 5 2176 136 := by
    rw [hG1, stI_up, hpI_stA_ne (by decide)]
    show hpI (stA (stI G 70 0 0) 75 (va_cpy R (hpI G 75) 5 2176 136)) 75 = _
    rw [hpI_stA]
  have i64 : hpI G1 70 64 = nI nr := by rw [hG1]; simp only [stI_C, stI_N, stI_Z, stI_S, stI_L, stI_R, stL_C, stL_N, stL_Z, stL_S, stL_I, stL_R, stR_C, stR_N, stR_Z, stR_S, stR_I, stR_L, stA_C, stA_N, stA_Z, stA_S, stA_L, stA_R, stI_I, stL_L, stR_R, stA_I, stN_C, stN_N, stN_Z, stN_S, stN_I, stN_L, stN_R, stI_ne, stL_ne, stR_ne, List.getElem?_cons_zero, List.getElem?_cons_succ, List.set_cons_zero, List.set_cons_succ, List.length_cons, List.length_nil, List.map_cons, List.map_nil, List.sum_cons, List.sum_nil, List.nil_append, List.cons_append, Option.toList_some, Option.toList_none, Value.category, xok, va_rf, true_and, and_true, and_self, Nat.reduceAdd, Nat.reduceLT, Nat.reduceLeDiff, Nat.reduceEqDiff, Nat.reduceMul, beq_self_eq_true, decide_true, ite_true, ite_false, if_true, if_false, reduceIte, Bool.true_eq_false, Bool.false_eq_true, eq_self_iff_true, Nat.zero_le, not_true_eq_false, not_false_eq_true, forall_const, false_implies, implies_true, forall_false]
  have iord : hpI G1 70 20 = 0 := (hf1.I rfl).trans h.2.1
  have i62 : hpL G1 70 62 = Int64.ofNat s0 := by
    rw [hG1]
    simp only [stI_C, stI_N, stI_Z, stI_S, stI_L, stI_R, stL_C, stL_N, stL_Z, stL_S, stL_I, stL_R, stR_C, stR_N, stR_Z, stR_S, stR_I, stR_L, stA_C, stA_N, stA_Z, stA_S, stA_L, stA_R, stI_I, stL_L, stR_R, stA_I, stN_C, stN_N, stN_Z, stN_S, stN_I, stN_L, stN_R, stI_ne, stL_ne, stR_ne, List.getElem?_cons_zero, List.getElem?_cons_succ, List.set_cons_zero, List.set_cons_succ, List.length_cons, List.length_nil, List.map_cons, List.map_nil, List.sum_cons, List.sum_nil, List.nil_append, List.cons_append, Option.toList_some, Option.toList_none, Value.category, xok, va_rf, true_and, and_true, and_self, Nat.reduceAdd, Nat.reduceLT, Nat.reduceLeDiff, Nat.reduceEqDiff, Nat.reduceMul, beq_self_eq_true, decide_true, ite_true, ite_false, if_true, if_false, reduceIte, Bool.true_eq_false, Bool.false_eq_true, eq_self_iff_true, Nat.zero_le, not_true_eq_false, not_false_eq_true, forall_const, false_implies, implies_true, forall_false]
    exact nI_64 (by omega)
  have hX1 : MX G1 R T hl := ⟨hM1, iord, i72, h.2.2.2⟩
  have i71 : hpI G1 71 = hpI G 71 := by
    rw [hG1, stI_up, hpI_stA_ne (by decide)]
    show hpI (stA (stI G 70 0 0) 75 (va_cpy R (hpI G 75) 5 2176 136)) 71 = _
    rw [hpI_stA_ne (by decide), stI_up, hpI_stA_ne (by decide)]
  have i76 : hpI G1 76 = hpI G 76 := by
    rw [hG1, stI_up, hpI_stA_ne (by decide)]
    show hpI (stA (stI G 70 0 0) 75 (va_cpy R (hpI G 75) 5 2176 136)) 76 = _
    rw [hpI_stA_ne (by decide), stI_up, hpI_stA_ne (by decide)]
  have i8 : hpI G1 70 8 = hpI G 70 8 := by rw [hG1]; simp only [stI_C, stI_N, stI_Z, stI_S, stI_L, stI_R, stL_C, stL_N, stL_Z, stL_S, stL_I, stL_R, stR_C, stR_N, stR_Z, stR_S, stR_I, stR_L, stA_C, stA_N, stA_Z, stA_S, stA_L, stA_R, stI_I, stL_L, stR_R, stA_I, stN_C, stN_N, stN_Z, stN_S, stN_I, stN_L, stN_R, stI_ne, stL_ne, stR_ne, List.getElem?_cons_zero, List.getElem?_cons_succ, List.set_cons_zero, List.set_cons_succ, List.length_cons, List.length_nil, List.map_cons, List.map_nil, List.sum_cons, List.sum_nil, List.nil_append, List.cons_append, Option.toList_some, Option.toList_none, Value.category, xok, va_rf, true_and, and_true, and_self, Nat.reduceAdd, Nat.reduceLT, Nat.reduceLeDiff, Nat.reduceEqDiff, Nat.reduceMul, beq_self_eq_true, decide_true, ite_true, ite_false, if_true, if_false, reduceIte, Bool.true_eq_false, Bool.false_eq_true, eq_self_iff_true, Nat.zero_le, not_true_eq_false, not_false_eq_true, forall_const, false_implies, implies_true, forall_false]
  clear hG1
  refine se_84 hM1 i72 nr8 i64 (fun {G2} hf2 hdr => ?_)
  have hX2 : MX G2 R T hl := hX1.fr hf2 rfl (fun _ => rfl)
  refine se_141 hX2 hR hc h0 hRd (by omega) hN ((hf2.L rfl).trans i62) (fun {G3 x4 x5 o6} hX3 hf3 => ?_)
  have hHi := Hi.ses (T := T) (hl := hl) (A := A) (B := B) (n := n) (s0 := s0) hR h0 N (by omega)
  have u3 : hpI G3 75 = va_cpy R (hpI G 75) 5 2176 136 := by rw [hf3.IA _ (fun _ => rfl), hf2.IA _ (fun _ => rfl)]; exact i75
  have hun : ∀ i, i < 136 → hpI G3 75 (2176 + i) = R (5 + i) := by
    intro i hi
    rw [u3, cpy_in (by omega)]
    exact congrArg R (by omega)
  have hd3 : hpI G3 70 64 = nI nr := by rw [hf3.I rfl, hf2.I rfl]; exact i64
  have hdr3 : ∀ r, r < nr → hpI G3 104 (3 * r) = -R (14 + 6 * r) ∧ hpI G3 104 (3 * r + 1) = -R (12 + 6 * r) := by
    rw [hf3.IA 104 (fun _ => rfl)]
    exact hdr
  have hff : Fr WX G G3 := (hf1.trans (hf2.mono WD_WX)).trans (hf3.mono WN_WX)
  refine (se_232 hX3.1 hX3.2.2.1 hHi nr8 hd3 hun hdr3 hoff).mono ?_
  rintro ⟨v, G4⟩ ⟨rfl, f, rfl, hfd⟩
  have hfr : Fr WX G (stA (stA G3 104 f) 72 R) := (hff.wA (fun k q => absurd q (by unfold WX; simp))).wA (fun k q => absurd q (by unfold WX WB WHM WR; simp))
  refine ⟨rfl, ?_, ?_, tH_s, ?_, ?_, ?_, ?_, ?_, ?_⟩
  · dsimp only
    rw [tH_f (by decide) (by decide), hpI_stA]
  · dsimp only
    unfold tellH
    split
    · refine (hfr.wI rfl).wI ?_
      unfold WX WB
      simp
    · exact hfr.wI rfl
  · dsimp only
    rw [tH_r, hpI_stA_ne (by decide), hpI_stA_ne (by decide), hf3.IA _ (fun _ => rfl), hf2.IA _ (fun _ => rfl), i71]
  · dsimp only
    rw [tH_m (by decide), hpI_stA_ne (by decide), hpI_stA_ne (by decide)]
    exact hd3
  · intro k g hk hg
    dsimp only
    rw [tH_f (by decide) (by decide), hpI_stA_ne (by decide), hpI_stA]
    exact hfd k g hk hg
  · intro j hj
    dsimp only
    rw [tH_f (by decide) (by decide), hpI_stA_ne (by decide), hpI_stA_ne (by decide), u3, cpy_out (by omega)]
  · dsimp only
    rw [tH_m (by decide), hpI_stA_ne (by decide), hpI_stA_ne (by decide), hf3.I rfl, hf2.I rfl, i8]
  · dsimp only
    rw [tH_f (by decide) (by decide), hpI_stA_ne (by decide), hpI_stA_ne (by decide), hf3.IA _ (fun _ => rfl), hf2.IA _ (fun _ => rfl), i76]
