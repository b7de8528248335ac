/-- the class reads, from OWED on -/
theorem rl_56 {G : XH} {arr : Nat} {R : Nat → Int32} {T : Nat → (Nat → Int64) → Option Int64} {hl : Bool} (h : CX G arr R T hl) {w one : Nat} {o : Option Nat} (hk : CK G T hl (hdF R w one o)) (hH : HC R w one o) (hp : ∀ k, o = some k → ¬ R (57 + 7 * one + 2) + R (57 + 7 * k + 2) ≤ 0) (hti : In (R (11 + 6 * w)) 999) (lg : Bool) (d : Int32) (hd : (if lg = false ∧ rdP T R w one o lg = 0 then (1 : Int32) else 0) = d) : WP k_Post_readLetters_56 [some (.ref 0), some (.ref arr), some (.int (nI one)), some (.int (oI o)), some (.int (nI w)), some (.int (if lg then 1 else 0)), some (.int (rdP T R w one o lg)), none, none] [] (stA G arr (up (hpI G arr) (38 + w) (R (13 + 6 * w) + d))) (fun r => r.1 = some (.int (rdP T R w one o lg)) ∧ VW (hpI r.2 arr) (rdR T R w one o lg) ∧ FC (WA arr) G r.2) := by
  obtain ⟨hC, ⟨a1, a2, a3⟩, hV, -, hT⟩ := h
  obtain ⟨w8, one12, ho, hwo, hB, hg⟩ := hH
  have e22 : 22 + nI w = nI (22 + w) := nI_add 22 w
  have p22 : 0 ≤ nI (22 + w) := nI_pos' (by omega)
  have c22 : (nI (22 + w)).toNatClampNeg = 22 + w := nI_clamp (by omega)
  have l22 : 22 + w < 138 := by omega
  have v22 : hpI G arr (22 + w) = R (11 + 6 * w) := by rw [show 22 + w = 6 + 8 * 2 + w by omega, hV.2.2.2.1 w 2 w8 (by omega)]; congr 1; omega
  have x4 : 0 ≤ hdF R w one o 4 ∧ hdF R w one o 4 ≤ 60 := by
    obtain ⟨n, hn, e⟩ := hg
    show 0 ≤ ltS R one o 0 ∧ ltS R one o 0 ≤ 60
    rw [e]
    exact ⟨nI_pos' (by omega), nI_le (b := 60) (by omega) (by omega)⟩
  have f0 : Fr (WA arr) G (stA G arr (up (hpI G arr) (38 + w) (R (13 + 6 * w) + d))) := Fr.refl.wA (fun k q => absurd q (by simp [WA]))
  have hk' : CK (stA G arr (up (hpI G arr) (38 + w) (R (13 + 6 * w) + d))) T hl (hdF R w one o) := by
    obtain ⟨k1, k2, k3, k4, k5⟩ := hk
    have hlo : Lo (WA arr) := by
      intro a k q
      unfold WA
      simp only [Bool.or_eq_false_iff, beq_eq_false_iff_ne]
      refine ⟨by omega, WW_Lo a k q⟩
    refine ⟨f0.cs k1, ?_, k3, ?_, k5⟩
    · rw [stA_R]
      exact k2.fc f0.fc hlo
    · rw [hpI_stA_ne (by omega)]
      exact k4
  have hCa : CS (stA G arr (up (hpI G arr) (38 + w) (R (13 + 6 * w) + d))) := f0.cs hC
  have n1 : (22 + w = 38 + w) = False := eq_false (by omega)
  obtain ⟨B, hB2⟩ : ∃ B, k_Post_readLetters_56 = (xAld 1 (xI 22 (xIld 4 (xiadd (xI 999 (xAld 1 (xI 22 (xIld 4 (xiadd (xIaldh (xAld 0 (xGetR 10 8 (xCallV 6 0 D_Heart_tiring (xiadd (xCallS 2 D_Math_min (xIasth (xAld 1 (xI 46 (xIld 4 (xiadd (xdup2 (xIaldh (xIld 6 (xiadd (xIasth (xAld 1 (xI 3 (xdup2 (xIaldh (xIld 6 (xiadd (xIasth (xAld 1 (xI 30 (xIld 4 (xiadd (xdup2 (xIaldh (xI 1 (xiadd (xIasth B))))))))))))))))))))))))))))))))))))))))) ∧ B = (xAld 1 (xI 114 (xIld 2 (xiadd (xI 1 (xIasth (xAld 1 (xI 126 (xIld 2 (xiadd (xIld 6 (xIasth (xIld 3 (xI (-1) (xicmp_eq k_Post_readLetters_210 (xAld 1 (xI 78 (xIld 2 (xiadd (xIaldh (xAld 1 (xI 78 (xIld 3 (xiadd (xIaldh (xiadd (xIst 7 (xIld 7 (xif_le (xI 0 k_Post_readLetters_171) (xIld 6 (xAld 1 (xI 78 (xIld 2 (xiadd (xIaldh (ximul (xIld 7 (xidiv k_Post_readLetters_171)))))))))))))))))))))))))))))))))))))) := ⟨_, rfl, rfl⟩
  obtain ⟨hB2, hB3⟩ := hB2
  obtain ⟨B1, hB1⟩ : ∃ B1, B1 = (xAld 1 (xI 46 (xIld 4 (xiadd (xdup2 (xIaldh (xIld 6 (xiadd (xIasth (xAld 1 (xI 3 (xdup2 (xIaldh (xIld 6 (xiadd (xIasth (xAld 1 (xI 30 (xIld 4 (xiadd (xdup2 (xIaldh (xI 1 (xiadd (xIasth B))))))))))))))))))))))))) := ⟨_, rfl⟩
  rw [hB2, ← hB1]
  simp only [w_iadd, w_isub, w_imul, w_iand, w_ior, w_ixor, w_ishl, w_ishr, w_iushr, w_idiv, w_irem, w_ineg, w_ladd, w_lsub, w_lmul, w_ldiv, w_lrem, w_i2l, w_l2i, w_i2c, w_lcmp, w_dup_int, w_pop_int, w_dup_ref, w_pop_ref, w_dup_retAddr, w_pop_retAddr, w_dup2, w_I, w_L, w_Null, w_Ild, w_Lld, w_Ald, w_Ist, w_Lst, w_Ast, w_Iinc, w_if_eq, w_icmp_eq, w_if_ne, w_icmp_ne, w_if_lt, w_icmp_lt, w_if_ge, w_icmp_ge, w_if_gt, w_icmp_gt, w_if_le, w_icmp_le, w_GetI, w_GetL, w_GetR, w_PutI, w_PutZ, w_PutL, w_PutR, w_PutN, w_Iald, w_Zald, w_Lald, w_Aald, w_Iast, w_Zast, w_Last, w_AastR, w_AastN, w_Alen, w_New, w_NewA, w_Mna, w_Iret, w_Zret, w_Cret, w_Bret, w_Lret, w_AretR, w_AretN, w_Vret, w_Obj, w_IfNN, w_IfNR, w_Copy, w_Cln, w_Cast, w_SfA, w_SfI, w_SfQ, w_Str, w_ScLd, w_ScLen, w_CV0, w_CS0, w_CV1, w_CS1, w_CV2, w_CS2, w_CV3, w_CS3, w_CV4, w_CS4, w_CV5, w_CS5, List.getElem?_cons_zero, List.getElem?_cons_succ, List.set_cons_zero, List.set_cons_succ, List.length_cons, List.length_nil, List.map_cons, List.map_nil, List.sum_cons, List.sum_nil, List.nil_append, List.cons_append, Option.toList_some, Option.toList_none, Value.category, xok, va_rf, true_and, and_true, and_self, Nat.reduceAdd, Nat.reduceLT, Nat.reduceLeDiff, Nat.reduceEqDiff, Nat.reduceMul, beq_self_eq_true, decide_true, ite_true, ite_false, if_true, if_false, reduceIte, Bool.true_eq_false, Bool.false_eq_true, eq_self_iff_true, Nat.zero_le, not_true_eq_false, not_false_eq_true, forall_const, false_implies, implies_true, forall_false, stI_C, stI_N, stI_Z, stI_S, stI_L, stI_R, stL_C, stL_N, stL_Z, stL_S, stL_I, stL_R, stR_C, stR_N, stR_Z, stR_S, stR_I, stR_L, stA_C, stA_N, stA_Z, stA_S, stA_L, stA_R, stI_I, stL_L, stR_R, stA_I, stN_C, stN_N, stN_Z, stN_S, stN_I, stN_L, stN_R, stI_ne, stL_ne, stR_ne, hC.all, a1, a2, xin, e22, p22, c22, l22, hpI_stA, up_ne, n1, v22, ne10, ne10L, ne01, ne01L, tt_imp, nt_imp, ff_imp, nf_imp, true_and, and_true, true_or, or_true, reduceIte]
  refine SP.mono (c_tiring hk' x4.1 x4.2) ?_
  rintro ⟨v, G1⟩ ⟨rfl, hf⟩
  dsimp only at hf
  have c1 : hpC G1 arr = 20 := by rw [hf.C]; exact a1
  have l1 : hpN G1 arr = 138 := by rw [hf.N]; exact a2
  have r1 : hpI G1 arr = up (hpI G arr) (38 + w) (R (13 + 6 * w) + d) := by
    rw [hf.IA arr (fun k => by unfold WK; simp only [beq_eq_false_iff_ne]; omega), hpI_stA]
  have hfr : ∀ f, FC (WA arr) G (stA G1 arr f) := fun f => ((f0.trans (hf.mono (fun a k q => WK_WW a k (WW_WA a k q)))).wA (fun k q => absurd q (by simp [WA]))).fc
  simp only [List.getElem?_cons_zero, List.getElem?_cons_succ, List.set_cons_zero, List.set_cons_succ, List.length_cons, List.length_nil, List.map_cons, List.map_nil, List.sum_cons, List.sum_nil, List.nil_append, List.cons_append, Option.toList_some, Option.toList_none, Value.category, xok, va_rf, true_and, and_true, and_self, Nat.reduceAdd, Nat.reduceLT, Nat.reduceLeDiff, Nat.reduceEqDiff, Nat.reduceMul, beq_self_eq_true, decide_true, ite_true, ite_false, if_true, if_false, reduceIte, Bool.true_eq_false, Bool.false_eq_true, eq_self_iff_true, Nat.zero_le, not_true_eq_false, not_false_eq_true, forall_const, false_implies, implies_true, forall_false]
  rw [show G1 = stA G1 arr (up (hpI G arr) (38 + w) (R (13 + 6 * w) + d)) by rw [← r1]; exact stA_same.symm]
  have v46 : hpI G arr (46 + w) = R (14 + 6 * w) := by rw [show 46 + w = 6 + 8 * 5 + w by omega, hV.2.2.2.1 w 5 w8 (by omega)]; congr 1; omega
  have v30 : hpI G arr (30 + w) = R (12 + 6 * w) := by rw [show 30 + w = 6 + 8 * 3 + w by omega, hV.2.2.2.1 w 3 w8 (by omega)]; congr 1; omega
  have v3 : hpI G arr 3 = R 8 := hV.1 3 (by omega)
  have v78 : ∀ l, l < 12 → hpI G arr (78 + l) = R (57 + 7 * l + 2) := fun l hl => by rw [show 78 + l = 54 + 12 * 2 + l by omega]; exact hV.2.2.2.2 l 2 hl (by omega)
  have n2 : (46 + w = 38 + w) = False := eq_false (by omega)
  have n3 : (46 + w = 22 + w) = False := eq_false (by omega)
  have n4 : (3 = 38 + w) = False := eq_false (by omega)
  have n5 : (3 = 22 + w) = False := eq_false (by omega)
  have n6 : (3 = 46 + w) = False := eq_false (by omega)
  have n7 : (30 + w = 38 + w) = False := eq_false (by omega)
  have n8 : (30 + w = 22 + w) = False := eq_false (by omega)
  have n9 : (30 + w = 46 + w) = False := eq_false (by omega)
  have n10 : (30 + w = 3) = False := eq_false (by omega)
  rw [pc_min (v := 0) c1 l1 w8 one12 (k := 0) (by omega), hB1, pc_paid (v := 0) (u := 0) (t := 0) c1 l1 w8 one12 (k := 0) (by omega), pc_off (v := 0) (u := 0) (t := 0) c1 l1 w8 one12 (k := 0) (by omega), pc_had (v := 0) (u := 0) (t := 0) c1 l1 w8 one12 (k := 0) (by omega), td_c hti tirF_In]
  simp only [up_ne, n2, n3, n4, n5, n6, n7, n8, n9, n10, v46, v30, v3, not_false_eq_true]
  obtain ⟨f4, hf4⟩ : ∃ f4, f4 = up (up (up (up (up (hpI G arr) (38 + w) (R (13 + 6 * w) + d)) (22 + w) (wtF (R (11 + 6 * w) + tirF T (hdF R w one o)).toInt64 0 999)) (46 + w) (R (14 + 6 * w) + rdP T R w one o lg)) 3 (R 8 + rdP T R w one o lg)) (30 + w) (R (12 + 6 * w) + 1) := ⟨_, rfl⟩
  have q78 : ∀ l, l < 12 → f4 (78 + l) = R (57 + 7 * l + 2) := fun l hl => by rw [hf4, up_ne (by omega), up_ne (by omega), up_ne (by omega), up_ne (by omega), up_ne (by omega)]; exact v78 l hl
  have q30 : f4 (30 + w) = R (12 + 6 * w) + 1 := by rw [hf4, up_eq]
  have hvn : ∀ ho : o = none, VW (up (up f4 (114 + one) 1) (126 + one) (rdP T R w one o lg)) (rdR T R w one o lg) := fun ho => by subst ho; rw [hf4]; exact rl_vn hV w8 one12 hd
  have hvs : ∀ k (ho : o = some k), k < 12 → VW (up (up (up (up (up (up f4 (114 + one) 1) (126 + one) (rdP T R w one o lg)) (30 + w) (R (12 + 6 * w) + 2)) (114 + k) 1) (126 + one) (rdP T R w one o lg * R (57 + 7 * one + 2) / (R (57 + 7 * one + 2) + R (57 + 7 * k + 2)))) (126 + k) (rdP T R w one o lg - rdP T R w one o lg * R (57 + 7 * one + 2) / (R (57 + 7 * one + 2) + R (57 + 7 * k + 2)))) (rdR T R w one o lg) := fun k ho hk9 => by subst ho; rw [hf4]; exact rl_vs hk9 hV w8 one12 hd
  rw [← hf4]
  clear hf4
  rw [hB3, pc_rd1 (v := 0) (u := 0) (t := 0) c1 l1 w8 one12 (k := 0) (by omega), pc_pr1 (v := 0) (u := 0) (t := 0) c1 l1 w8 one12 (k := 0) (by omega)]
  cases o with
  | none =>
    simp only [k_Post_readLetters_210, oI, w_iadd, w_isub, w_imul, w_iand, w_ior, w_ixor, w_ishl, w_ishr, w_iushr, w_idiv, w_irem, w_ineg, w_ladd, w_lsub, w_lmul, w_ldiv, w_lrem, w_i2l, w_l2i, w_i2c, w_lcmp, w_dup_int, w_pop_int, w_dup_ref, w_pop_ref, w_dup_retAddr, w_pop_retAddr, w_dup2, w_I, w_L, w_Null, w_Ild, w_Lld, w_Ald, w_Ist, w_Lst, w_Ast, w_Iinc, w_if_eq, w_icmp_eq, w_if_ne, w_icmp_ne, w_if_lt, w_icmp_lt, w_if_ge, w_icmp_ge, w_if_gt, w_icmp_gt, w_if_le, w_icmp_le, w_GetI, w_GetL, w_GetR, w_PutI, w_PutZ, w_PutL, w_PutR, w_PutN, w_Iald, w_Zald, w_Lald, w_Aald, w_Iast, w_Zast, w_Last, w_AastR, w_AastN, w_Alen, w_New, w_NewA, w_Mna, w_Iret, w_Zret, w_Cret, w_Bret, w_Lret, w_AretR, w_AretN, w_Vret, w_Obj, w_IfNN, w_IfNR, w_Copy, w_Cln, w_Cast, w_SfA, w_SfI, w_SfQ, w_Str, w_ScLd, w_ScLen, w_CV0, w_CS0, w_CV1, w_CS1, w_CV2, w_CS2, w_CV3, w_CS3, w_CV4, w_CS4, w_CV5, w_CS5, List.getElem?_cons_zero, List.getElem?_cons_succ, List.set_cons_zero, List.set_cons_succ, List.length_cons, List.length_nil, List.map_cons, List.map_nil, List.sum_cons, List.sum_nil, List.nil_append, List.cons_append, Option.toList_some, Option.toList_none, Value.category, xok, va_rf, true_and, and_true, and_self, Nat.reduceAdd, Nat.reduceLT, Nat.reduceLeDiff, Nat.reduceEqDiff, Nat.reduceMul, beq_self_eq_true, decide_true, ite_true, ite_false, if_true, if_false, reduceIte, Bool.true_eq_false, Bool.false_eq_true, eq_self_iff_true, Nat.zero_le, not_true_eq_false, not_false_eq_true, forall_const, false_implies, implies_true, forall_false, hpI_stA, ne10, ne10L, ne01, ne01L, tt_imp, nt_imp, ff_imp, nf_imp, true_and, and_true, true_or, or_true, reduceIte]
    exact ⟨hvn rfl, hfr _⟩
  | some k =>
    obtain ⟨hk12, hz⟩ := ho k rfl
    have hz2 := hp k rfl
    have e78 : 78 + nI one = nI (78 + one) := nI_add 78 one
    have f78 : 78 + nI k = nI (78 + k) := nI_add 78 k
    have p7 : 0 ≤ nI (78 + one) := nI_pos' (by omega)
    have c7 : (nI (78 + one)).toNatClampNeg = 78 + one := nI_clamp (by omega)
    have l7 : 78 + one < 138 := by omega
    have p9 : 0 ≤ nI (78 + k) := nI_pos' (by omega)
    have c9 : (nI (78 + k)).toNatClampNeg = 78 + k := nI_clamp (by omega)
    have l9 : 78 + k < 138 := by omega
    have m1 : (78 + one = 126 + one) = False := eq_false (by omega)
    have m2 : (78 + one = 114 + one) = False := eq_false (by omega)
    have m3 : (78 + k = 126 + one) = False := eq_false (by omega)
    have m4 : (78 + k = 114 + one) = False := eq_false (by omega)
    have m5 : (30 + w = 126 + one) = False := eq_false (by omega)
    have m6 : (30 + w = 114 + one) = False := eq_false (by omega)
    have eh : R (12 + 6 * w) + 1 + 1 = R (12 + 6 * w) + 2 := by rw [Int32.add_assoc]; rfl
    obtain ⟨Z, hZ⟩ : ∃ Z, k_Post_readLetters_171 = xIst 8 Z ∧ Z = (xAld 1 (xI 30 (xIld 4 (xiadd (xdup2 (xIaldh (xI 1 (xiadd (xIasth (xAld 1 (xI 114 (xIld 3 (xiadd (xI 1 (xIasth (xAld 1 (xI 126 (xIld 2 (xiadd (xIld 8 (xIasth (xAld 1 (xI 126 (xIld 3 (xiadd (xIld 6 (xIld 8 (xisub (xIasth k_Post_readLetters_210))))))))))))))))))))))))))))) := ⟨_, rfl, rfl⟩
    rw [hZ.1]
    simp only [oI, oI_ne hk12, w_iadd, w_isub, w_imul, w_iand, w_ior, w_ixor, w_ishl, w_ishr, w_iushr, w_idiv, w_irem, w_ineg, w_ladd, w_lsub, w_lmul, w_ldiv, w_lrem, w_i2l, w_l2i, w_i2c, w_lcmp, w_dup_int, w_pop_int, w_dup_ref, w_pop_ref, w_dup_retAddr, w_pop_retAddr, w_dup2, w_I, w_L, w_Null, w_Ild, w_Lld, w_Ald, w_Ist, w_Lst, w_Ast, w_Iinc, w_if_eq, w_icmp_eq, w_if_ne, w_icmp_ne, w_if_lt, w_icmp_lt, w_if_ge, w_icmp_ge, w_if_gt, w_icmp_gt, w_if_le, w_icmp_le, w_GetI, w_GetL, w_GetR, w_PutI, w_PutZ, w_PutL, w_PutR, w_PutN, w_Iald, w_Zald, w_Lald, w_Aald, w_Iast, w_Zast, w_Last, w_AastR, w_AastN, w_Alen, w_New, w_NewA, w_Mna, w_Iret, w_Zret, w_Cret, w_Bret, w_Lret, w_AretR, w_AretN, w_Vret, w_Obj, w_IfNN, w_IfNR, w_Copy, w_Cln, w_Cast, w_SfA, w_SfI, w_SfQ, w_Str, w_ScLd, w_ScLen, w_CV0, w_CS0, w_CV1, w_CS1, w_CV2, w_CS2, w_CV3, w_CS3, w_CV4, w_CS4, w_CV5, w_CS5, List.getElem?_cons_zero, List.getElem?_cons_succ, List.set_cons_zero, List.set_cons_succ, List.length_cons, List.length_nil, List.map_cons, List.map_nil, List.sum_cons, List.sum_nil, List.nil_append, List.cons_append, Option.toList_some, Option.toList_none, Value.category, xok, va_rf, true_and, and_true, and_self, Nat.reduceAdd, Nat.reduceLT, Nat.reduceLeDiff, Nat.reduceEqDiff, Nat.reduceMul, beq_self_eq_true, decide_true, ite_true, ite_false, if_true, if_false, reduceIte, Bool.true_eq_false, Bool.false_eq_true, eq_self_iff_true, Nat.zero_le, not_true_eq_false, not_false_eq_true, forall_const, false_implies, implies_true, forall_false, stI_C, stI_N, stI_Z, stI_S, stI_L, stI_R, stL_C, stL_N, stL_Z, stL_S, stL_I, stL_R, stR_C, stR_N, stR_Z, stR_S, stR_I, stR_L, stA_C, stA_N, stA_Z, stA_S, stA_L, stA_R, stI_I, stL_L, stR_R, stA_I, stN_C, stN_N, stN_Z, stN_S, stN_I, stN_L, stN_R, stI_ne, stL_ne, stR_ne, c1, l1, xin, e78, f78, p7, c7, l7, p9, c9, l9, hpI_stA, up_ne, m1, m2, m3, m4, q78 one one12, q78 k hk12, hz, hz2, ne10, ne10L, ne01, ne01L, tt_imp, nt_imp, ff_imp, nf_imp, true_and, and_true, true_or, or_true, reduceIte]
    rw [hZ.2, pc_had (v := 0) (u := 0) (t := 0) c1 l1 w8 one12 hk12, pc_rd2 (x3 := 0) (v := 0) (u := 0) (t := 0) c1 l1 w8 one12 hk12, pc_pr2 (x3 := 0) (t := 0) (x7 := none) (x8 := none) c1 l1 w8 one12 hk12, pc_pr3 (x3 := 0) (t := 0) (x7 := none) (x8 := none) c1 l1 w8 one12 hk12]
    simp only [k_Post_readLetters_210, w_iadd, w_isub, w_imul, w_iand, w_ior, w_ixor, w_ishl, w_ishr, w_iushr, w_idiv, w_irem, w_ineg, w_ladd, w_lsub, w_lmul, w_ldiv, w_lrem, w_i2l, w_l2i, w_i2c, w_lcmp, w_dup_int, w_pop_int, w_dup_ref, w_pop_ref, w_dup_retAddr, w_pop_retAddr, w_dup2, w_I, w_L, w_Null, w_Ild, w_Lld, w_Ald, w_Ist, w_Lst, w_Ast, w_Iinc, w_if_eq, w_icmp_eq, w_if_ne, w_icmp_ne, w_if_lt, w_icmp_lt, w_if_ge, w_icmp_ge, w_if_gt, w_icmp_gt, w_if_le, w_icmp_le, w_GetI, w_GetL, w_GetR, w_PutI, w_PutZ, w_PutL, w_PutR, w_PutN, w_Iald, w_Zald, w_Lald, w_Aald, w_Iast, w_Zast, w_Last, w_AastR, w_AastN, w_Alen, w_New, w_NewA, w_Mna, w_Iret, w_Zret, w_Cret, w_Bret, w_Lret, w_AretR, w_AretN, w_Vret, w_Obj, w_IfNN, w_IfNR, w_Copy, w_Cln, w_Cast, w_SfA, w_SfI, w_SfQ, w_Str, w_ScLd, w_ScLen, w_CV0, w_CS0, w_CV1, w_CS1, w_CV2, w_CS2, w_CV3, w_CS3, w_CV4, w_CS4, w_CV5, w_CS5, List.getElem?_cons_zero, List.getElem?_cons_succ, List.set_cons_zero, List.set_cons_succ, List.length_cons, List.length_nil, List.map_cons, List.map_nil, List.sum_cons, List.sum_nil, List.nil_append, List.cons_append, Option.toList_some, Option.toList_none, Value.category, xok, va_rf, true_and, and_true, and_self, Nat.reduceAdd, Nat.reduceLT, Nat.reduceLeDiff, Nat.reduceEqDiff, Nat.reduceMul, beq_self_eq_true, decide_true, ite_true, ite_false, if_true, if_false, reduceIte, Bool.true_eq_false, Bool.false_eq_true, eq_self_iff_true, Nat.zero_le, not_true_eq_false, not_false_eq_true, forall_const, false_implies, implies_true, forall_false, hpI_stA, up_ne, m5, m6, q30, eh, ne10, ne10L, ne01, ne01L, tt_imp, nt_imp, ff_imp, nf_imp, true_and, and_true, true_or, or_true, reduceIte]
    exact ⟨hvs k rfl hk12, hfr _⟩
