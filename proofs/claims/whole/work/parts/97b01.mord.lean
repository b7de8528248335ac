theorem s_numberC {G : XH} {b : Nat → Nat} {len : Nat} {od : Bool} {p c : Nat} {J : Nat → Nat × Nat} {q : Nat} (h : MSC G false b len od p c J q) (lo hi : Nat) (hlh : hi ≤ 1000) (hll : lo ≤ 1000) : SP D_Mdl_number [.ref 70, .long (Int64.ofNat lo), .long (Int64.ofNat hi)] G (fun z => (∃ v : Int32, z.1 = some (.int v) ∧ (nuB (nuO b len p) lo hi = true → ∃ n, nuO b len p = some n ∧ v = nI n)) ∧ Fr WMx G z.2 ∧ MSC z.2 (!nuB (nuO b len p) lo hi) b len od (if nuB (nuO b len p) lo hi then nxB b len p else p) c J q) := by
  have hM := h.1.1
  have h16 := h.1.2.2.2.2.2.1
  obtain ⟨w1, w2⟩ := wo_num h.1
  have so4 : soB b len p < 4 := by
    unfold soB
    split
    · omega
    · split
      · omega
      · split <;> omega
  have g2 : (nI (soB b len p) = 2) = (soB b len p = 2) := nl_eq (b := 2) (by omega) (by omega)
  obtain ⟨w, hw⟩ : ∃ w, w = hpL G 70 17 := ⟨_, rfl⟩
  have hw' := hw.symm
  obtain ⟨B, hB⟩ : ∃ B, B = nuB (nuO b len p) lo hi := ⟨_, rfl⟩
  rw [← hB]
  have hval : B = true → ∃ n, nuO b len p = some n ∧ w.toInt32 = nI n := by
    intro hb
    rw [hB] at hb
    cases hn : nuO b len p with
    | none => rw [hn] at hb; cases hb
    | some n =>
      rw [hn] at hb
      have hb' : lo ≤ n ∧ n ≤ hi := of_decide_eq_true hb
      obtain ⟨_, x, x1, x2, x3⟩ := w1 n hn
      refine ⟨n, rfl, ?_⟩
      rw [hw, x1]
      have : x = n := by omega
      rw [this]
      have e : Int64.ofNat n = (nI n).toInt64 := (nI_64 (by omega)).symm
      rw [e]
      exact Int32.toInt32_toInt64 _
  obtain ⟨P, hP⟩ : ∃ P : XR → Prop, P = (fun z => (∃ v : Int32, z.1 = some (.int v) ∧ (B = true → ∃ n, nuO b len p = some n ∧ v = nI n)) ∧ Fr WMx G z.2 ∧ MSC z.2 (!B) b len od (if B then nxB b len p else p) c J q) := ⟨_, rfl⟩
  have h33 : WP k_Mdl_number_33 [some (.ref 70), some (.long (Int64.ofNat lo)), none, some (.long (Int64.ofNat hi)), none, some (.int w.toInt32)] [.int (if B then 1 else 0), .ref 70] G P := by
    rw [hP]
    simp only [k_Mdl_number_33, w_iadd, w_isub, w_imul, w_iand, w_ior, w_ixor, w_ishl, w_ishr, w_iushr, w_idiv, w_irem, w_ineg, w_ladd, w_lsub, w_lmul, w_ldiv, w_lrem, w_i2l, w_l2i, w_i2c, w_lcmp, w_dup_int, w_pop_int, w_dup_ref, w_pop_ref, w_dup_retAddr, w_pop_retAddr, w_dup2, w_I, w_L, w_Null, w_Ild, w_Lld, w_Ald, w_Ist, w_Lst, w_Ast, w_Iinc, w_if_eq, w_icmp_eq, w_if_ne, w_icmp_ne, w_if_lt, w_icmp_lt, w_if_ge, w_icmp_ge, w_if_gt, w_icmp_gt, w_if_le, w_icmp_le, w_GetI, w_GetL, w_GetR, w_PutI, w_PutZ, w_PutL, w_PutR, w_PutN, w_Iald, w_Zald, w_Lald, w_Aald, w_Iast, w_Zast, w_Last, w_AastR, w_AastN, w_Alen, w_New, w_NewA, w_Mna, w_Iret, w_Zret, w_Cret, w_Bret, w_Lret, w_AretR, w_AretN, w_Vret, w_Obj, w_IfNN, w_IfNR, w_Copy, w_Cln, w_Cast, w_SfA, w_SfI, w_SfQ, w_Str, w_ScLd, w_ScLen, w_CV0, w_CS0, w_CV1, w_CS1, w_CV2, w_CS2, w_CV3, w_CS3, w_CV4, w_CS4, w_CV5, w_CS5, List.getElem?_cons_zero, List.getElem?_cons_succ, List.set_cons_zero, List.set_cons_succ, List.length_cons, List.length_nil, List.map_cons, List.map_nil, List.sum_cons, List.sum_nil, List.nil_append, List.cons_append, Option.toList_some, Option.toList_none, Value.category, xok, va_rf, true_and, and_true, and_self, Nat.reduceAdd, Nat.reduceLT, Nat.reduceLeDiff, Nat.reduceEqDiff, Nat.reduceMul, beq_self_eq_true, decide_true, ite_true, ite_false, if_true, if_false, reduceIte, Bool.true_eq_false, Bool.false_eq_true, eq_self_iff_true, Nat.zero_le, not_true_eq_false, not_false_eq_true, forall_const, false_implies, implies_true, forall_false, hM.all, ne10, ne10L, ne01, ne01L, tt_imp, nt_imp, ff_imp, nf_imp, true_and, and_true, true_or, or_true, reduceIte]
    refine SP.mono (s_mustC h B) ?_
    rintro ⟨v, G1⟩ ⟨rfl, fr1, h1⟩
    dsimp only at fr1 h1
    simp only [Option.toList_none, List.nil_append, w_iadd, w_isub, w_imul, w_iand, w_ior, w_ixor, w_ishl, w_ishr, w_iushr, w_idiv, w_irem, w_ineg, w_ladd, w_lsub, w_lmul, w_ldiv, w_lrem, w_i2l, w_l2i, w_i2c, w_lcmp, w_dup_int, w_pop_int, w_dup_ref, w_pop_ref, w_dup_retAddr, w_pop_retAddr, w_dup2, w_I, w_L, w_Null, w_Ild, w_Lld, w_Ald, w_Ist, w_Lst, w_Ast, w_Iinc, w_if_eq, w_icmp_eq, w_if_ne, w_icmp_ne, w_if_lt, w_icmp_lt, w_if_ge, w_icmp_ge, w_if_gt, w_icmp_gt, w_if_le, w_icmp_le, w_GetI, w_GetL, w_GetR, w_PutI, w_PutZ, w_PutL, w_PutR, w_PutN, w_Iald, w_Zald, w_Lald, w_Aald, w_Iast, w_Zast, w_Last, w_AastR, w_AastN, w_Alen, w_New, w_NewA, w_Mna, w_Iret, w_Zret, w_Cret, w_Bret, w_Lret, w_AretR, w_AretN, w_Vret, w_Obj, w_IfNN, w_IfNR, w_Copy, w_Cln, w_Cast, w_SfA, w_SfI, w_SfQ, w_Str, w_ScLd, w_ScLen, w_CV0, w_CS0, w_CV1, w_CS1, w_CV2, w_CS2, w_CV3, w_CS3, w_CV4, w_CS4, w_CV5, w_CS5, List.getElem?_cons_zero, List.getElem?_cons_succ, List.set_cons_zero, List.set_cons_succ, List.length_cons, List.length_nil, List.map_cons, List.map_nil, List.sum_cons, List.sum_nil, List.nil_append, List.cons_append, Option.toList_some, Option.toList_none, Value.category, xok, va_rf, true_and, and_true, and_self, Nat.reduceAdd, Nat.reduceLT, Nat.reduceLeDiff, Nat.reduceEqDiff, Nat.reduceMul, beq_self_eq_true, decide_true, ite_true, ite_false, if_true, if_false, reduceIte, Bool.true_eq_false, Bool.false_eq_true, eq_self_iff_true, Nat.zero_le, not_true_eq_false, not_false_eq_true, forall_const, false_implies, implies_true, forall_false, ne10, ne10L, ne01, ne01L, tt_imp, nt_imp, ff_imp, nf_imp, true_and, and_true, true_or, or_true, reduceIte]
    exact ⟨⟨w.toInt32, rfl, hval⟩, fr1, h1⟩
  rw [e_Mdl_number, ← hP]
  by_cases q2 : soB b len p = 2
  · have q2' : (soB b len p = 2) = True := eq_true q2
    have hin : (Int64.ofNat lo ≤ w ∧ w ≤ Int64.ofNat hi) = (B = true) := by
      cases hn : nuO b len p with
      | none => exact absurd q2 (w2 hn)
      | some n =>
        obtain ⟨_, x, x1, x2, x3⟩ := w1 n hn
        rw [hw, x1, nL_le (by omega) (by omega), nL_le (by omega) (by omega), hB, hn]
        unfold nuB
        dsimp only
        rw [decide_eq_true_eq]
        exact propext ⟨fun z => by omega, fun z => by omega⟩
    by_cases qb : B = true
    · rw [qb] at h33
      simp only [reduceIte] at h33
      have hin' : (Int64.ofNat lo ≤ w ∧ w ≤ Int64.ofNat hi) = True := by rw [hin]; exact eq_true qb
      simp only [k_Mdl_number_0, w_iadd, w_isub, w_imul, w_iand, w_ior, w_ixor, w_ishl, w_ishr, w_iushr, w_idiv, w_irem, w_ineg, w_ladd, w_lsub, w_lmul, w_ldiv, w_lrem, w_i2l, w_l2i, w_i2c, w_lcmp, w_dup_int, w_pop_int, w_dup_ref, w_pop_ref, w_dup_retAddr, w_pop_retAddr, w_dup2, w_I, w_L, w_Null, w_Ild, w_Lld, w_Ald, w_Ist, w_Lst, w_Ast, w_Iinc, w_if_eq, w_icmp_eq, w_if_ne, w_icmp_ne, w_if_lt, w_icmp_lt, w_if_ge, w_icmp_ge, w_if_gt, w_icmp_gt, w_if_le, w_icmp_le, w_GetI, w_GetL, w_GetR, w_PutI, w_PutZ, w_PutL, w_PutR, w_PutN, w_Iald, w_Zald, w_Lald, w_Aald, w_Iast, w_Zast, w_Last, w_AastR, w_AastN, w_Alen, w_New, w_NewA, w_Mna, w_Iret, w_Zret, w_Cret, w_Bret, w_Lret, w_AretR, w_AretN, w_Vret, w_Obj, w_IfNN, w_IfNR, w_Copy, w_Cln, w_Cast, w_SfA, w_SfI, w_SfQ, w_Str, w_ScLd, w_ScLen, w_CV0, w_CS0, w_CV1, w_CS1, w_CV2, w_CS2, w_CV3, w_CS3, w_CV4, w_CS4, w_CV5, w_CS5, List.getElem?_cons_zero, List.getElem?_cons_succ, List.set_cons_zero, List.set_cons_succ, List.length_cons, List.length_nil, List.map_cons, List.map_nil, List.sum_cons, List.sum_nil, List.nil_append, List.cons_append, Option.toList_some, Option.toList_none, Value.category, xok, va_rf, true_and, and_true, and_self, Nat.reduceAdd, Nat.reduceLT, Nat.reduceLeDiff, Nat.reduceEqDiff, Nat.reduceMul, beq_self_eq_true, decide_true, ite_true, ite_false, if_true, if_false, reduceIte, Bool.true_eq_false, Bool.false_eq_true, eq_self_iff_true, Nat.zero_le, not_true_eq_false, not_false_eq_true, forall_const, false_implies, implies_true, forall_false, stI_C, stI_N, stI_Z, stI_S, stI_L, stI_R, stL_C, stL_N, stL_Z, stL_S, stL_I, stL_R, stR_C, stR_N, stR_Z, stR_S, stR_I, stR_L, stA_C, stA_N, stA_Z, stA_S, stA_L, stA_R, stI_I, stL_L, stR_R, stA_I, stN_C, stN_N, stN_Z, stN_S, stN_I, stN_L, stN_R, stI_ne, stL_ne, stR_ne, tn_0, tn_1, tn_2, tn_3, tn_4, tn_5, tn_6, tn_7, tn_8, tn_9, tn_10, tn_11, tn_12, tn_13, tn_14, tn_15, tn_16, tn_17, tn_18, tn_19, tn_20, tn_21, tn_22, tn_23, tn_24, tn_25, tn_26, tn_27, tn_28, tn_29, tn_30, tn_31, tn_32, tn_33, tn_34, tn_35, tn_36, tn_37, tn_38, tn_39, tn_40, tn_41, tn_42, tn_43, tn_44, tn_45, tn_46, tn_47, tn_48, tn_49, tn_50, tn_51, tn_52, tn_53, tn_54, tn_55, tn_56, tn_57, tn_58, tn_59, tn_60, tn_61, tn_62, tn_63, tn_64, tn_65, tn_66, tn_67, tn_68, tn_69, tn_70, tn_71, tn_72, tn_73, tn_74, tn_75, tn_76, tn_77, tn_78, tn_79, tn_80, tn_81, tn_82, tn_83, tn_84, tn_85, tn_86, tn_87, tn_88, tn_89, tn_90, tn_91, tn_92, tn_93, tn_94, tn_95, tn_96, tn_97, tn_98, tn_99, tn_100, tn_101, tn_102, tn_103, tn_104, tn_105, tn_106, tn_107, tn_108, tn_109, tn_110, tn_111, tn_112, tn_113, tn_114, tn_115, tn_116, tn_117, tn_118, tn_119, tn_120, tn_121, tn_122, tn_123, tn_124, tn_125, tn_126, tn_127, tn_128, tn_129, tn_130, tn_131, tn_132, tn_133, tn_134, tn_135, tn_136, tn_137, tn_138, tn_139, tn_140, tn_141, tn_142, tn_143, tn_144, tn_145, tn_146, tn_147, tn_148, tn_149, tn_150, tn_151, tn_152, tn_153, tn_154, tn_155, tn_156, tn_157, tn_158, tn_159, tn_160, tn_161, tn_162, tn_163, tn_164, tn_165, tn_166, tn_167, tn_168, tn_169, tn_170, tn_171, tn_172, tn_173, tn_174, tn_175, tn_176, tn_177, tn_178, tn_179, tn_180, tn_181, tn_182, tn_183, tn_184, tn_185, tn_186, tn_187, tn_188, tn_189, tn_190, tn_191, tn_192, tn_193, tn_194, tn_195, tn_196, tn_197, tn_198, tn_199, tn_255, tn_256, tn_300, tn_399, tn_400, tn_500, tn_900, tn_999, tn_1000, tn_1001, tn_1024, tn_2048, tn_2176, tn_3536, tn_4095, tn_4096, tn_5580, tn_11160, tn_12345, tn_1103, tn_99999, tn_1000000, tn_1000003, tn_100000000, tn_1000000000, ge0_0, ge0_1, ge0_2, ge0_3, ge0_4, ge0_5, ge0_6, ge0_7, ge0_8, ge0_9, ge0_10, ge0_11, ge0_12, ge0_13, ge0_14, ge0_15, ge0_16, ge0_17, ge0_18, ge0_19, ge0_20, ge0_21, ge0_22, ge0_23, ge0_24, ge0_25, ge0_26, ge0_27, ge0_28, ge0_29, ge0_30, ge0_31, ge0_32, ge0_33, ge0_34, ge0_35, ge0_36, ge0_37, ge0_38, ge0_39, ge0_40, ge0_41, ge0_42, ge0_43, ge0_44, ge0_45, ge0_46, ge0_47, ge0_48, ge0_49, ge0_50, ge0_51, ge0_52, ge0_53, ge0_54, ge0_55, ge0_56, ge0_57, ge0_58, ge0_59, ge0_60, ge0_61, ge0_62, ge0_63, ge0_64, ge0_65, ge0_66, ge0_67, ge0_68, ge0_69, ge0_70, ge0_71, ge0_72, ge0_73, ge0_74, ge0_75, ge0_76, ge0_77, ge0_78, ge0_79, ge0_80, ge0_81, ge0_82, ge0_83, ge0_84, ge0_85, ge0_86, ge0_87, ge0_88, ge0_89, ge0_90, ge0_91, ge0_92, ge0_93, ge0_94, ge0_95, ge0_96, ge0_97, ge0_98, ge0_99, ge0_100, ge0_101, ge0_102, ge0_103, ge0_104, ge0_105, ge0_106, ge0_107, ge0_108, ge0_109, ge0_110, ge0_111, ge0_112, ge0_113, ge0_114, ge0_115, ge0_116, ge0_117, ge0_118, ge0_119, ge0_120, ge0_121, ge0_122, ge0_123, ge0_124, ge0_125, ge0_126, ge0_127, ge0_128, ge0_129, ge0_130, ge0_131, ge0_132, ge0_133, ge0_134, ge0_135, ge0_136, ge0_137, ge0_138, ge0_139, ge0_140, ge0_141, ge0_142, ge0_143, ge0_144, ge0_145, ge0_146, ge0_147, ge0_148, ge0_149, ge0_150, ge0_151, ge0_152, ge0_153, ge0_154, ge0_155, ge0_156, ge0_157, ge0_158, ge0_159, ge0_160, ge0_161, ge0_162, ge0_163, ge0_164, ge0_165, ge0_166, ge0_167, ge0_168, ge0_169, ge0_170, ge0_171, ge0_172, ge0_173, ge0_174, ge0_175, ge0_176, ge0_177, ge0_178, ge0_179, ge0_180, ge0_181, ge0_182, ge0_183, ge0_184, ge0_185, ge0_186, ge0_187, ge0_188, ge0_189, ge0_190, ge0_191, ge0_192, ge0_193, ge0_194, ge0_195, ge0_196, ge0_197, ge0_198, ge0_199, ge0_255, ge0_256, ge0_300, ge0_399, ge0_400, ge0_500, ge0_900, ge0_999, ge0_1000, ge0_1001, ge0_1024, ge0_2048, ge0_2176, ge0_3536, ge0_4095, ge0_4096, ge0_5580, ge0_11160, ge0_12345, ge0_1103, ge0_99999, ge0_1000000, ge0_1000003, ge0_100000000, ge0_1000000000, hM.all, hw', h16, g2, q2', s_in, hin', ne10, ne10L, ne01, ne01L, tt_imp, nt_imp, ff_imp, nf_imp, true_and, and_true, true_or, or_true, reduceIte]
      exact h33
    · have qb' : B = false := Bool.eq_false_iff.mpr qb
      rw [qb'] at h33
      simp only [reduceIte, Bool.false_eq_true] at h33
      have hin' : (Int64.ofNat lo ≤ w ∧ w ≤ Int64.ofNat hi) = False := by rw [hin]; exact eq_false qb
      simp only [k_Mdl_number_0, k_Mdl_number_32, w_iadd, w_isub, w_imul, w_iand, w_ior, w_ixor, w_ishl, w_ishr, w_iushr, w_idiv, w_irem, w_ineg, w_ladd, w_lsub, w_lmul, w_ldiv, w_lrem, w_i2l, w_l2i, w_i2c, w_lcmp, w_dup_int, w_pop_int, w_dup_ref, w_pop_ref, w_dup_retAddr, w_pop_retAddr, w_dup2, w_I, w_L, w_Null, w_Ild, w_Lld, w_Ald, w_Ist, w_Lst, w_Ast, w_Iinc, w_if_eq, w_icmp_eq, w_if_ne, w_icmp_ne, w_if_lt, w_icmp_lt, w_if_ge, w_icmp_ge, w_if_gt, w_icmp_gt, w_if_le, w_icmp_le, w_GetI, w_GetL, w_GetR, w_PutI, w_PutZ, w_PutL, w_PutR, w_PutN, w_Iald, w_Zald, w_Lald, w_Aald, w_Iast, w_Zast, w_Last, w_AastR, w_AastN, w_Alen, w_New, w_NewA, w_Mna, w_Iret, w_Zret, w_Cret, w_Bret, w_Lret, w_AretR, w_AretN, w_Vret, w_Obj, w_IfNN, w_IfNR, w_Copy, w_Cln, w_Cast, w_SfA, w_SfI, w_SfQ, w_Str, w_ScLd, w_ScLen, w_CV0, w_CS0, w_CV1, w_CS1, w_CV2, w_CS2, w_CV3, w_CS3, w_CV4, w_CS4, w_CV5, w_CS5, List.getElem?_cons_zero, List.getElem?_cons_succ, List.set_cons_zero, List.set_cons_succ, List.length_cons, List.length_nil, List.map_cons, List.map_nil, List.sum_cons, List.sum_nil, List.nil_append, List.cons_append, Option.toList_some, Option.toList_none, Value.category, xok, va_rf, true_and, and_true, and_self, Nat.reduceAdd, Nat.reduceLT, Nat.reduceLeDiff, Nat.reduceEqDiff, Nat.reduceMul, beq_self_eq_true, decide_true, ite_true, ite_false, if_true, if_false, reduceIte, Bool.true_eq_false, Bool.false_eq_true, eq_self_iff_true, Nat.zero_le, not_true_eq_false, not_false_eq_true, forall_const, false_implies, implies_true, forall_false, stI_C, stI_N, stI_Z, stI_S, stI_L, stI_R, stL_C, stL_N, stL_Z, stL_S, stL_I, stL_R, stR_C, stR_N, stR_Z, stR_S, stR_I, stR_L, stA_C, stA_N, stA_Z, stA_S, stA_L, stA_R, stI_I, stL_L, stR_R, stA_I, stN_C, stN_N, stN_Z, stN_S, stN_I, stN_L, stN_R, stI_ne, stL_ne, stR_ne, tn_0, tn_1, tn_2, tn_3, tn_4, tn_5, tn_6, tn_7, tn_8, tn_9, tn_10, tn_11, tn_12, tn_13, tn_14, tn_15, tn_16, tn_17, tn_18, tn_19, tn_20, tn_21, tn_22, tn_23, tn_24, tn_25, tn_26, tn_27, tn_28, tn_29, tn_30, tn_31, tn_32, tn_33, tn_34, tn_35, tn_36, tn_37, tn_38, tn_39, tn_40, tn_41, tn_42, tn_43, tn_44, tn_45, tn_46, tn_47, tn_48, tn_49, tn_50, tn_51, tn_52, tn_53, tn_54, tn_55, tn_56, tn_57, tn_58, tn_59, tn_60, tn_61, tn_62, tn_63, tn_64, tn_65, tn_66, tn_67, tn_68, tn_69, tn_70, tn_71, tn_72, tn_73, tn_74, tn_75, tn_76, tn_77, tn_78, tn_79, tn_80, tn_81, tn_82, tn_83, tn_84, tn_85, tn_86, tn_87, tn_88, tn_89, tn_90, tn_91, tn_92, tn_93, tn_94, tn_95, tn_96, tn_97, tn_98, tn_99, tn_100, tn_101, tn_102, tn_103, tn_104, tn_105, tn_106, tn_107, tn_108, tn_109, tn_110, tn_111, tn_112, tn_113, tn_114, tn_115, tn_116, tn_117, tn_118, tn_119, tn_120, tn_121, tn_122, tn_123, tn_124, tn_125, tn_126, tn_127, tn_128, tn_129, tn_130, tn_131, tn_132, tn_133, tn_134, tn_135, tn_136, tn_137, tn_138, tn_139, tn_140, tn_141, tn_142, tn_143, tn_144, tn_145, tn_146, tn_147, tn_148, tn_149, tn_150, tn_151, tn_152, tn_153, tn_154, tn_155, tn_156, tn_157, tn_158, tn_159, tn_160, tn_161, tn_162, tn_163, tn_164, tn_165, tn_166, tn_167, tn_168, tn_169, tn_170, tn_171, tn_172, tn_173, tn_174, tn_175, tn_176, tn_177, tn_178, tn_179, tn_180, tn_181, tn_182, tn_183, tn_184, tn_185, tn_186, tn_187, tn_188, tn_189, tn_190, tn_191, tn_192, tn_193, tn_194, tn_195, tn_196, tn_197, tn_198, tn_199, tn_255, tn_256, tn_300, tn_399, tn_400, tn_500, tn_900, tn_999, tn_1000, tn_1001, tn_1024, tn_2048, tn_2176, tn_3536, tn_4095, tn_4096, tn_5580, tn_11160, tn_12345, tn_1103, tn_99999, tn_1000000, tn_1000003, tn_100000000, tn_1000000000, ge0_0, ge0_1, ge0_2, ge0_3, ge0_4, ge0_5, ge0_6, ge0_7, ge0_8, ge0_9, ge0_10, ge0_11, ge0_12, ge0_13, ge0_14, ge0_15, ge0_16, ge0_17, ge0_18, ge0_19, ge0_20, ge0_21, ge0_22, ge0_23, ge0_24, ge0_25, ge0_26, ge0_27, ge0_28, ge0_29, ge0_30, ge0_31, ge0_32, ge0_33, ge0_34, ge0_35, ge0_36, ge0_37, ge0_38, ge0_39, ge0_40, ge0_41, ge0_42, ge0_43, ge0_44, ge0_45, ge0_46, ge0_47, ge0_48, ge0_49, ge0_50, ge0_51, ge0_52, ge0_53, ge0_54, ge0_55, ge0_56, ge0_57, ge0_58, ge0_59, ge0_60, ge0_61, ge0_62, ge0_63, ge0_64, ge0_65, ge0_66, ge0_67, ge0_68, ge0_69, ge0_70, ge0_71, ge0_72, ge0_73, ge0_74, ge0_75, ge0_76, ge0_77, ge0_78, ge0_79, ge0_80, ge0_81, ge0_82, ge0_83, ge0_84, ge0_85, ge0_86, ge0_87, ge0_88, ge0_89, ge0_90, ge0_91, ge0_92, ge0_93, ge0_94, ge0_95, ge0_96, ge0_97, ge0_98, ge0_99, ge0_100, ge0_101, ge0_102, ge0_103, ge0_104, ge0_105, ge0_106, ge0_107, ge0_108, ge0_109, ge0_110, ge0_111, ge0_112, ge0_113, ge0_114, ge0_115, ge0_116, ge0_117, ge0_118, ge0_119, ge0_120, ge0_121, ge0_122, ge0_123, ge0_124, ge0_125, ge0_126, ge0_127, ge0_128, ge0_129, ge0_130, ge0_131, ge0_132, ge0_133, ge0_134, ge0_135, ge0_136, ge0_137, ge0_138, ge0_139, ge0_140, ge0_141, ge0_142, ge0_143, ge0_144, ge0_145, ge0_146, ge0_147, ge0_148, ge0_149, ge0_150, ge0_151, ge0_152, ge0_153, ge0_154, ge0_155, ge0_156, ge0_157, ge0_158, ge0_159, ge0_160, ge0_161, ge0_162, ge0_163, ge0_164, ge0_165, ge0_166, ge0_167, ge0_168, ge0_169, ge0_170, ge0_171, ge0_172, ge0_173, ge0_174, ge0_175, ge0_176, ge0_177, ge0_178, ge0_179, ge0_180, ge0_181, ge0_182, ge0_183, ge0_184, ge0_185, ge0_186, ge0_187, ge0_188, ge0_189, ge0_190, ge0_191, ge0_192, ge0_193, ge0_194, ge0_195, ge0_196, ge0_197, ge0_198, ge0_199, ge0_255, ge0_256, ge0_300, ge0_399, ge0_400, ge0_500, ge0_900, ge0_999, ge0_1000, ge0_1001, ge0_1024, ge0_2048, ge0_2176, ge0_3536, ge0_4095, ge0_4096, ge0_5580, ge0_11160, ge0_12345, ge0_1103, ge0_99999, ge0_1000000, ge0_1000003, ge0_100000000, ge0_1000000000, hM.all, hw', h16, g2, q2', s_in, hin', ne10, ne10L, ne01, ne01L, tt_imp, nt_imp, ff_imp, nf_imp, true_and, and_true, true_or, or_true, reduceIte]
      exact h33
  · have q2' : (soB b len p = 2) = False := eq_false q2
    have qb' : B = false := by
      rw [hB]
      cases hn : nuO b len p with
      | none => rfl
      | some n => exact absurd (w1 n hn).1 q2
    rw [qb'] at h33
    simp only [reduceIte, Bool.false_eq_true] at h33
    simp only [k_Mdl_number_0, k_Mdl_number_32, w_iadd, w_isub, w_imul, w_iand, w_ior, w_ixor, w_ishl, w_ishr, w_iushr, w_idiv, w_irem, w_ineg, w_ladd, w_lsub, w_lmul, w_ldiv, w_lrem, w_i2l, w_l2i, w_i2c, w_lcmp, w_dup_int, w_pop_int, w_dup_ref, w_pop_ref, w_dup_retAddr, w_pop_retAddr, w_dup2, w_I, w_L, w_Null, w_Ild, w_Lld, w_Ald, w_Ist, w_Lst, w_Ast, w_Iinc, w_if_eq, w_icmp_eq, w_if_ne, w_icmp_ne, w_if_lt, w_icmp_lt, w_if_ge, w_icmp_ge, w_if_gt, w_icmp_gt, w_if_le, w_icmp_le, w_GetI, w_GetL, w_GetR, w_PutI, w_PutZ, w_PutL, w_PutR, w_PutN, w_Iald, w_Zald, w_Lald, w_Aald, w_Iast, w_Zast, w_Last, w_AastR, w_AastN, w_Alen, w_New, w_NewA, w_Mna, w_Iret, w_Zret, w_Cret, w_Bret, w_Lret, w_AretR, w_AretN, w_Vret, w_Obj, w_IfNN, w_IfNR, w_Copy, w_Cln, w_Cast, w_SfA, w_SfI, w_SfQ, w_Str, w_ScLd, w_ScLen, w_CV0, w_CS0, w_CV1, w_CS1, w_CV2, w_CS2, w_CV3, w_CS3, w_CV4, w_CS4, w_CV5, w_CS5, List.getElem?_cons_zero, List.getElem?_cons_succ, List.set_cons_zero, List.set_cons_succ, List.length_cons, List.length_nil, List.map_cons, List.map_nil, List.sum_cons, List.sum_nil, List.nil_append, List.cons_append, Option.toList_some, Option.toList_none, Value.category, xok, va_rf, true_and, and_true, and_self, Nat.reduceAdd, Nat.reduceLT, Nat.reduceLeDiff, Nat.reduceEqDiff, Nat.reduceMul, beq_self_eq_true, decide_true, ite_true, ite_false, if_true, if_false, reduceIte, Bool.true_eq_false, Bool.false_eq_true, eq_self_iff_true, Nat.zero_le, not_true_eq_false, not_false_eq_true, forall_const, false_implies, implies_true, forall_false, stI_C, stI_N, stI_Z, stI_S, stI_L, stI_R, stL_C, stL_N, stL_Z, stL_S, stL_I, stL_R, stR_C, stR_N, stR_Z, stR_S, stR_I, stR_L, stA_C, stA_N, stA_Z, stA_S, stA_L, stA_R, stI_I, stL_L, stR_R, stA_I, stN_C, stN_N, stN_Z, stN_S, stN_I, stN_L, stN_R, stI_ne, stL_ne, stR_ne, tn_0, tn_1, tn_2, tn_3, tn_4, tn_5, tn_6, tn_7, tn_8, tn_9, tn_10, tn_11, tn_12, tn_13, tn_14, tn_15, tn_16, tn_17, tn_18, tn_19, tn_20, tn_21, tn_22, tn_23, tn_24, tn_25, tn_26, tn_27, tn_28, tn_29, tn_30, tn_31, tn_32, tn_33, tn_34, tn_35, tn_36, tn_37, tn_38, tn_39, tn_40, tn_41, tn_42, tn_43, tn_44, tn_45, tn_46, tn_47, tn_48, tn_49, tn_50, tn_51, tn_52, tn_53, tn_54, tn_55, tn_56, tn_57, tn_58, tn_59, tn_60, tn_61, tn_62, tn_63, tn_64, tn_65, tn_66, tn_67, tn_68, tn_69, tn_70, tn_71, tn_72, tn_73, tn_74, tn_75, tn_76, tn_77, tn_78, tn_79, tn_80, tn_81, tn_82, tn_83, tn_84, tn_85, tn_86, tn_87, tn_88, tn_89, tn_90, tn_91, tn_92, tn_93, tn_94, tn_95, tn_96, tn_97, tn_98, tn_99, tn_100, tn_101, tn_102, tn_103, tn_104, tn_105, tn_106, tn_107, tn_108, tn_109, tn_110, tn_111, tn_112, tn_113, tn_114, tn_115, tn_116, tn_117, tn_118, tn_119, tn_120, tn_121, tn_122, tn_123, tn_124, tn_125, tn_126, tn_127, tn_128, tn_129, tn_130, tn_131, tn_132, tn_133, tn_134, tn_135, tn_136, tn_137, tn_138, tn_139, tn_140, tn_141, tn_142, tn_143, tn_144, tn_145, tn_146, tn_147, tn_148, tn_149, tn_150, tn_151, tn_152, tn_153, tn_154, tn_155, tn_156, tn_157, tn_158, tn_159, tn_160, tn_161, tn_162, tn_163, tn_164, tn_165, tn_166, tn_167, tn_168, tn_169, tn_170, tn_171, tn_172, tn_173, tn_174, tn_175, tn_176, tn_177, tn_178, tn_179, tn_180, tn_181, tn_182, tn_183, tn_184, tn_185, tn_186, tn_187, tn_188, tn_189, tn_190, tn_191, tn_192, tn_193, tn_194, tn_195, tn_196, tn_197, tn_198, tn_199, tn_255, tn_256, tn_300, tn_399, tn_400, tn_500, tn_900, tn_999, tn_1000, tn_1001, tn_1024, tn_2048, tn_2176, tn_3536, tn_4095, tn_4096, tn_5580, tn_11160, tn_12345, tn_1103, tn_99999, tn_1000000, tn_1000003, tn_100000000, tn_1000000000, ge0_0, ge0_1, ge0_2, ge0_3, ge0_4, ge0_5, ge0_6, ge0_7, ge0_8, ge0_9, ge0_10, ge0_11, ge0_12, ge0_13, ge0_14, ge0_15, ge0_16, ge0_17, ge0_18, ge0_19, ge0_20, ge0_21, ge0_22, ge0_23, ge0_24, ge0_25, ge0_26, ge0_27, ge0_28, ge0_29, ge0_30, ge0_31, ge0_32, ge0_33, ge0_34, ge0_35, ge0_36, ge0_37, ge0_38, ge0_39, ge0_40, ge0_41, ge0_42, ge0_43, ge0_44, ge0_45, ge0_46, ge0_47, ge0_48, ge0_49, ge0_50, ge0_51, ge0_52, ge0_53, ge0_54, ge0_55, ge0_56, ge0_57, ge0_58, ge0_59, ge0_60, ge0_61, ge0_62, ge0_63, ge0_64, ge0_65, ge0_66, ge0_67, ge0_68, ge0_69, ge0_70, ge0_71, ge0_72, ge0_73, ge0_74, ge0_75, ge0_76, ge0_77, ge0_78, ge0_79, ge0_80, ge0_81, ge0_82, ge0_83, ge0_84, ge0_85, ge0_86, ge0_87, ge0_88, ge0_89, ge0_90, ge0_91, ge0_92, ge0_93, ge0_94, ge0_95, ge0_96, ge0_97, ge0_98, ge0_99, ge0_100, ge0_101, ge0_102, ge0_103, ge0_104, ge0_105, ge0_106, ge0_107, ge0_108, ge0_109, ge0_110, ge0_111, ge0_112, ge0_113, ge0_114, ge0_115, ge0_116, ge0_117, ge0_118, ge0_119, ge0_120, ge0_121, ge0_122, ge0_123, ge0_124, ge0_125, ge0_126, ge0_127, ge0_128, ge0_129, ge0_130, ge0_131, ge0_132, ge0_133, ge0_134, ge0_135, ge0_136, ge0_137, ge0_138, ge0_139, ge0_140, ge0_141, ge0_142, ge0_143, ge0_144, ge0_145, ge0_146, ge0_147, ge0_148, ge0_149, ge0_150, ge0_151, ge0_152, ge0_153, ge0_154, ge0_155, ge0_156, ge0_157, ge0_158, ge0_159, ge0_160, ge0_161, ge0_162, ge0_163, ge0_164, ge0_165, ge0_166, ge0_167, ge0_168, ge0_169, ge0_170, ge0_171, ge0_172, ge0_173, ge0_174, ge0_175, ge0_176, ge0_177, ge0_178, ge0_179, ge0_180, ge0_181, ge0_182, ge0_183, ge0_184, ge0_185, ge0_186, ge0_187, ge0_188, ge0_189, ge0_190, ge0_191, ge0_192, ge0_193, ge0_194, ge0_195, ge0_196, ge0_197, ge0_198, ge0_199, ge0_255, ge0_256, ge0_300, ge0_399, ge0_400, ge0_500, ge0_900, ge0_999, ge0_1000, ge0_1001, ge0_1024, ge0_2048, ge0_2176, ge0_3536, ge0_4095, ge0_4096, ge0_5580, ge0_11160, ge0_12345, ge0_1103, ge0_99999, ge0_1000000, ge0_1000003, ge0_100000000, ge0_1000000000, hM.all, hw', h16, g2, q2', ne10, ne10L, ne01, ne01L, tt_imp, nt_imp, ff_imp, nf_imp, true_and, and_true, true_or, or_true, reduceIte]
    exact h33
def WNq : Nat → Nat → Bool := fun a k => a == 103 || (a == 70 && k == 21)
def WRq : Nat → Nat → Bool := fun a k => WMx a k || a == 103 || (a == 70 && k == 21)
theorem WMx_WRo (a k : Nat) (h : WRq a k = false) : WMx a k = false := by
  unfold WRq at h
  simp only [Bool.or_eq_false_iff] at h
  exact h.1.1
theorem WNo_WRo (a k : Nat) (h : WRq a k = false) : WNq a k = false := by
  unfold WRq at h
  unfold WNq
  simp only [Bool.or_eq_false_iff] at h ⊢
  exact ⟨h.1.2, h.2⟩
def WSo : Nat → Nat → Bool := fun a k => WMx a k || a == 103
theorem WMx_WSo (a k : Nat) (h : WSo a k = false) : WMx a k = false := by
  unfold WSo at h
  simp only [Bool.or_eq_false_iff] at h
  exact h.1
theorem WSo_WRo (a k : Nat) (h : WRq a k = false) : WSo a k = false := by
  unfold WRq at h
  unfold WSo
  simp only [Bool.or_eq_false_iff] at h ⊢
  exact h.1
theorem MSC.no {G G' : XH} {bd : Bool} {b : Nat → Nat} {len : Nat} {od : Bool} {p c : Nat} {J : Nat → Nat × Nat} {q : Nat} (h : MSC G bd b len od p c J q) (hf : Fr WNq G G') : MSC G' bd b len od p c J q := h.fr hf (fun k hk => by unfold WNq; simp; exact hk) (fun a k ha => by unfold WNq; rcases ha with rfl | rfl | rfl | rfl | rfl | rfl <;> simp)
def WOd : Nat → Nat → Bool := fun a _ => a == 103
theorem WOd_WNo (a k : Nat) (h : WNq a k = false) : WOd a k = false := by
  unfold WNq at h
  unfold WOd
  simp only [Bool.or_eq_false_iff] at h
  exact h.1
theorem WOd_WSo (a k : Nat) (h : WSo a k = false) : WOd a k = false := by
  unfold WSo at h
  unfold WOd
  simp only [Bool.or_eq_false_iff] at h
  exact h.2
theorem MSC.od {G G' : XH} {bd : Bool} {b : Nat → Nat} {len : Nat} {od : Bool} {p c : Nat} {J : Nat → Nat × Nat} {q : Nat} (h : MSC G bd b len od p c J q) (hf : Fr WOd G G') : MSC G' bd b len od p c J q := h.no (hf.mono WOd_WNo)
/-- a sum of a clause of orders -/
def MXo (b : Nat → Nat) (len : Nat) (p c : Nat) (J : Nat → Nat × Nat) (q a : Nat) (A : Nat → Int32) (G' : XH) : Prop := match gSum b len true 8 p c with
  | .error e => ∃ c' J' q', MSC G' true b len true e c' J' q'
  | .ok s => ∃ J' q', MSC G' false b len true s.1 s.2.1 J' q' ∧ (∀ j, j < q → J' j = J j) ∧ OKJ 21 true J' q q' (s.2.1 - c) s.2.2 ∧ hpI G' 103 = up (up A a (nI q)) (a + 1) (nI q')
theorem s_sumAt {G : XH} {b : Nat → Nat} {len : Nat} {p c : Nat} {J : Nat → Nat × Nat} {q : Nat} (h : MSC G false b len true p c J q) (a : Nat) (ha : a + 1 < 96) : SP D_Mdl_readSum [.ref 70, .int (nI a)] G (fun z => z.1 = none ∧ Fr WSo G z.2 ∧ MXo b len p c J q a (hpI G 103) z.2) := by
  have hM := h.1.1
  have c23 : hpI G 70 23 = nI q := h.2.2.2.2.2.2.1
  have e1 : nI a + 1 = nI (a + 1) := nI_add a 1
  have p1 : 0 ≤ nI (a) := nI_pos' (by omega)
  have c1 : (nI (a)).toNatClampNeg = a := nI_clamp (by omega)
  have l1 : a < 96 := by omega
  have p2 : 0 ≤ nI (a + 1) := nI_pos' (by omega)
  have c2 : (nI (a + 1)).toNatClampNeg = a + 1 := nI_clamp (by omega)
  have l2 : a + 1 < 96 := by omega
  obtain ⟨G1, hG1⟩ : ∃ G1, G1 = stI G 103 a (nI q) := ⟨_, rfl⟩
  have f1' : Fr WOd G G1 := by rw [hG1]; exact Fr.refl.wI rfl
  have h1 := h.od f1'
  have hM1 := h1.1.1
  have b191 : hpI G1 70 19 = 0 := h1.2.2.2.1
  have A1 : hpI G1 103 = up (hpI G 103) a (nI q) := by rw [hG1, stI_up, hpI_stA]
  rw [e_Mdl_readSum]
  simp only [k_Mdl_readSum_0, w_iadd, w_isub, w_imul, w_iand, w_ior, w_ixor, w_ishl, w_ishr, w_iushr, w_idiv, w_irem, w_ineg, w_ladd, w_lsub, w_lmul, w_ldiv, w_lrem, w_i2l, w_l2i, w_i2c, w_lcmp, w_dup_int, w_pop_int, w_dup_ref, w_pop_ref, w_dup_retAddr, w_pop_retAddr, w_dup2, w_I, w_L, w_Null, w_Ild, w_Lld, w_Ald, w_Ist, w_Lst, w_Ast, w_Iinc, w_if_eq, w_icmp_eq, w_if_ne, w_icmp_ne, w_if_lt, w_icmp_lt, w_if_ge, w_icmp_ge, w_if_gt, w_icmp_gt, w_if_le, w_icmp_le, w_GetI, w_GetL, w_GetR, w_PutI, w_PutZ, w_PutL, w_PutR, w_PutN, w_Iald, w_Zald, w_Lald, w_Aald, w_Iast, w_Zast, w_Last, w_AastR, w_AastN, w_Alen, w_New, w_NewA, w_Mna, w_Iret, w_Zret, w_Cret, w_Bret, w_Lret, w_AretR, w_AretN, w_Vret, w_Obj, w_IfNN, w_IfNR, w_Copy, w_Cln, w_Cast, w_SfA, w_SfI, w_SfQ, w_Str, w_ScLd, w_ScLen, w_CV0, w_CS0, w_CV1, w_CS1, w_CV2, w_CS2, w_CV3, w_CS3, w_CV4, w_CS4, w_CV5, w_CS5, List.getElem?_cons_zero, List.getElem?_cons_succ, List.set_cons_zero, List.set_cons_succ, List.length_cons, List.length_nil, List.map_cons, List.map_nil, List.sum_cons, List.sum_nil, List.nil_append, List.cons_append, Option.toList_some, Option.toList_none, Value.category, xok, va_rf, true_and, and_true, and_self, Nat.reduceAdd, Nat.reduceLT, Nat.reduceLeDiff, Nat.reduceEqDiff, Nat.reduceMul, beq_self_eq_true, decide_true, ite_true, ite_false, if_true, if_false, reduceIte, Bool.true_eq_false, Bool.false_eq_true, eq_self_iff_true, Nat.zero_le, not_true_eq_false, not_false_eq_true, forall_const, false_implies, implies_true, forall_false, stI_C, stI_N, stI_Z, stI_S, stI_L, stI_R, stL_C, stL_N, stL_Z, stL_S, stL_I, stL_R, stR_C, stR_N, stR_Z, stR_S, stR_I, stR_L, stA_C, stA_N, stA_Z, stA_S, stA_L, stA_R, stI_I, stL_L, stR_R, stA_I, stN_C, stN_N, stN_Z, stN_S, stN_I, stN_L, stN_R, stI_ne, stL_ne, stR_ne, hM.all, c23, xin, p1, c1, l1, ← hG1, hM1.all, b191, ne10, ne10L, ne01, ne01L, tt_imp, nt_imp, ff_imp, nf_imp, true_and, and_true, true_or, or_true, reduceIte]
  refine SP.mono (s_readSum h1) ?_
  rintro ⟨v, G2⟩ ⟨rfl, f2, hx⟩
  dsimp only at f2 hx
  have hM2 := f2.ms hM1
  have A2 : hpI G2 103 = up (hpI G 103) a (nI q) := by rw [f2.IA _ (fun _ => rfl), A1]
  obtain ⟨z, hz⟩ : ∃ z, z = hpI G2 70 23 := ⟨_, rfl⟩
  have hz' := hz.symm
  obtain ⟨G3, hG3⟩ : ∃ G3, G3 = stI G2 103 (a + 1) z := ⟨_, rfl⟩
  have f3 : Fr WOd G2 G3 := by rw [hG3]; exact Fr.refl.wI rfl
  simp only [Option.toList_none, List.nil_append, k_Mdl_readSum_22, w_iadd, w_isub, w_imul, w_iand, w_ior, w_ixor, w_ishl, w_ishr, w_iushr, w_idiv, w_irem, w_ineg, w_ladd, w_lsub, w_lmul, w_ldiv, w_lrem, w_i2l, w_l2i, w_i2c, w_lcmp, w_dup_int, w_pop_int, w_dup_ref, w_pop_ref, w_dup_retAddr, w_pop_retAddr, w_dup2, w_I, w_L, w_Null, w_Ild, w_Lld, w_Ald, w_Ist, w_Lst, w_Ast, w_Iinc, w_if_eq, w_icmp_eq, w_if_ne, w_icmp_ne, w_if_lt, w_icmp_lt, w_if_ge, w_icmp_ge, w_if_gt, w_icmp_gt, w_if_le, w_icmp_le, w_GetI, w_GetL, w_GetR, w_PutI, w_PutZ, w_PutL, w_PutR, w_PutN, w_Iald, w_Zald, w_Lald, w_Aald, w_Iast, w_Zast, w_Last, w_AastR, w_AastN, w_Alen, w_New, w_NewA, w_Mna, w_Iret, w_Zret, w_Cret, w_Bret, w_Lret, w_AretR, w_AretN, w_Vret, w_Obj, w_IfNN, w_IfNR, w_Copy, w_Cln, w_Cast, w_SfA, w_SfI, w_SfQ, w_Str, w_ScLd, w_ScLen, w_CV0, w_CS0, w_CV1, w_CS1, w_CV2, w_CS2, w_CV3, w_CS3, w_CV4, w_CS4, w_CV5, w_CS5, List.getElem?_cons_zero, List.getElem?_cons_succ, List.set_cons_zero, List.set_cons_succ, List.length_cons, List.length_nil, List.map_cons, List.map_nil, List.sum_cons, List.sum_nil, List.nil_append, List.cons_append, Option.toList_some, Option.toList_none, Value.category, xok, va_rf, true_and, and_true, and_self, Nat.reduceAdd, Nat.reduceLT, Nat.reduceLeDiff, Nat.reduceEqDiff, Nat.reduceMul, beq_self_eq_true, decide_true, ite_true, ite_false, if_true, if_false, reduceIte, Bool.true_eq_false, Bool.false_eq_true, eq_self_iff_true, Nat.zero_le, not_true_eq_false, not_false_eq_true, forall_const, false_implies, implies_true, forall_false, stI_C, stI_N, stI_Z, stI_S, stI_L, stI_R, stL_C, stL_N, stL_Z, stL_S, stL_I, stL_R, stR_C, stR_N, stR_Z, stR_S, stR_I, stR_L, stA_C, stA_N, stA_Z, stA_S, stA_L, stA_R, stI_I, stL_L, stR_R, stA_I, stN_C, stN_N, stN_Z, stN_S, stN_I, stN_L, stN_R, stI_ne, stL_ne, stR_ne, hM2.all, hz', e1, xin, p2, c2, l2, ← hG3, ne10, ne10L, ne01, ne01L, tt_imp, nt_imp, ff_imp, nf_imp, true_and, and_true, true_or, or_true, reduceIte]
  refine ⟨((f1'.mono WOd_WSo).trans (f2.mono WMx_WSo)).trans (f3.mono WOd_WSo), ?_⟩
  unfold MXo
  cases hg : gSum b len true 8 p c with
  | error e =>
    rw [hg] at hx
    obtain ⟨c', J', q', hx⟩ := hx
    exact ⟨c', J', q', hx.od f3⟩
  | ok s =>
    rw [hg] at hx
    obtain ⟨J', q', hx, hl, hok⟩ := hx
    have ez : z = nI q' := by rw [hz]; exact hx.2.2.2.2.2.2.1
    exact ⟨J', q', hx.od f3, hl, hok, by rw [hG3, stI_up, hpI_stA, A2, ez]⟩
def WTj (nw : Nat) (od : Bool) (J : Nat → Nat × Nat) (p q : Nat) (o : Option SF) : Prop := match o with
  | none => p = q
  | some f => p < q ∧ ∃ h, h < 64 ∧ OKJ nw od J p q h f
theorem WTj.le {nw : Nat} {od : Bool} {J : Nat → Nat × Nat} {p q : Nat} {o : Option SF} (h : WTj nw od J p q o) : p ≤ q := by
  cases o with
  | none => exact Nat.le_of_eq h
  | some f => exact Nat.le_of_lt h.1
theorem WTj.congr {nw : Nat} {od : Bool} {J J' : Nat → Nat × Nat} {p q : Nat} {o : Option SF} (k : WTj nw od J p q o) (e : ∀ k, p ≤ k → k < q → J' k = J k) : WTj nw od J' p q o := by
  cases o with
  | none => exact k
  | some f =>
    obtain ⟨a, h, b, c⟩ := k
    exact ⟨a, h, b, c.congr e⟩
theorem WTj.pw {nw : Nat} {od : Bool} {J : Nat → Nat × Nat} {p q : Nat} {o : Option SF} (k : WTj nw od J p q o) : PWj nw od J p q := by
  cases o with
  | none =>
    have e : p = q := k
    subst e
    exact PWj.nil
  | some f =>
    obtain ⟨a, h, b, c⟩ := k
    exact ⟨c.1.2.2.2, c.2⟩
/-- a clause's sums, as the model has read them -/
def SWo (A : Nat → Int32) (J : Nat → Nat × Nat) (i kd : Nat) (sm : SF) (wt : Option SF) (q0 q2 : Nat) : Prop := ∃ p1, A (8 * i) = nI (kd - 5) ∧ (kd = 5 ∨ kd = 6) ∧ SMj 21 true J q0 p1 sm ∧ (kd = 5 → q0 < p1 ∧ A (8 * i + 1) = nI q0 ∧ A (8 * i + 2) = nI p1) ∧ WTj 21 true J p1 q2 wt ∧ (∀ f, wt = some f → A (8 * i + 3) = nI p1 ∧ A (8 * i + 4) = nI q2) ∧ (wt = none → A (8 * i + 3) = 0 ∧ A (8 * i + 4) = 0) ∧ (kd = 6 → sm = f1 ∧ wt = none)
theorem SWo.congr {A A' : Nat → Int32} {J J' : Nat → Nat × Nat} {i kd : Nat} {sm : SF} {wt : Option SF} {q0 q2 : Nat} (h : SWo A J i kd sm wt q0 q2) (hA : ∀ j, j < 5 → A' (8 * i + j) = A (8 * i + j)) (hJ : ∀ j, j < q2 → J' j = J j) : SWo A' J' i kd sm wt q0 q2 := by
  obtain ⟨p1, a1, a2, a3, a4, a5, a6, a7, a8⟩ := h
  have l1 := a3.le
  have l2 := a5.le
  refine ⟨p1, (hA 0 (by omega)).trans a1, a2, a3.congr (fun k _ y => hJ k (by omega)), fun z => ⟨(a4 z).1, (hA 1 (by omega)).trans (a4 z).2.1, (hA 2 (by omega)).trans (a4 z).2.2⟩, a5.congr (fun k _ y => hJ k (by omega)), fun f z => ⟨(hA 3 (by omega)).trans (a6 f z).1, (hA 4 (by omega)).trans (a6 f z).2⟩, fun z => ⟨(hA 3 (by omega)).trans (a7 z).1, (hA 4 (by omega)).trans (a7 z).2⟩, a8⟩
theorem SWo.pw {A : Nat → Int32} {J : Nat → Nat × Nat} {i kd : Nat} {sm : SF} {wt : Option SF} {q0 q2 : Nat} (h : SWo A J i kd sm wt q0 q2) : PWj 21 true J q0 q2 ∧ q0 ≤ q2 := by
  obtain ⟨p1, a1, a2, a3, a4, a5, a6, a7, a8⟩ := h
  exact ⟨a3.pw.app a5.pw a5.le, Nat.le_trans a3.le a5.le⟩
/-- a clause of orders, as the model has read it -/
def CMo (A : Nat → Int32) (J : Nat → Nat × Nat) (i : Nat) (cl : CLd) (lim : Nat) : Prop := ∃ p0 p2 p3, SWo A J i cl.1 cl.2.1 cl.2.2.1 p0 p2 ∧ A (8 * i + 5) = nI p2 ∧ A (8 * i + 6) = nI p3 ∧ SMj 21 true J p2 p3 cl.2.2.2.2 ∧ p3 ≤ lim ∧ A (8 * i + 7) = nI cl.2.2.2.1 ∧ 1 ≤ cl.2.2.2.1 ∧ cl.2.2.2.1 ≤ 20
theorem CMo.congr {A A' : Nat → Int32} {J J' : Nat → Nat × Nat} {i n : Nat} {cl : CLd} {lim lim' : Nat} (h : CMo A J i cl lim) (hi : i < n) (hA : ∀ j, j < 8 * n → A' j = A j) (hJ : ∀ j, j < lim → J' j = J j) (hl : lim ≤ lim') : CMo A' J' i cl lim' := by
  obtain ⟨p0, p2, p3, s1, a5, a6, s2, s3, a7, t⟩ := h
  have l2 := s2.le
  exact ⟨p0, p2, p3, s1.congr (fun j hj => hA _ (by omega)) (fun j hj => hJ j (by omega)), (hA _ (by omega)).trans a5, (hA _ (by omega)).trans a6, s2.congr (fun k _ y => hJ k (by omega)), by omega, (hA _ (by omega)).trans a7, t⟩
/-- what a clause of orders leaves -/
def ROr (b : Nat → Nat) (len n : Nat) (J : Nat → Nat × Nat) (q : Nat) (A : Nat → Int32) (o : Except Nat (Nat × Nat × CLd)) (G' : XH) : Prop := match o with
  | .error e => ∃ c' J' q', MSC G' true b len true e c' J' q'
  | .ok s => ∃ J' q', MSC G' false b len true s.1 s.2.1 J' q' ∧ (∀ j, j < q → J' j = J j) ∧ q ≤ q' ∧ hpI G' 70 21 = nI (n + 1) ∧ (∀ j, j < 8 * n → hpI G' 103 j = A j) ∧ CMo (hpI G' 103) J' n s.2.2 q' ∧ PWj 21 true J' q q'
/-- a clause behind its head -/
def gTail (b : Nat → Nat) (len : Nat) (od : Bool) (o : GH) : Except Nat (Nat × Nat × CLd) := match o with
  | .error e => .error e
  | .ok h => if isW b len wIf h.1 then (match gTest b len od 8 (nxB b len h.1) h.2.1 with
      | .error e => .error e
      | .ok s => .ok (s.1, s.2.1, h.2.2.1, h.2.2.2.1, h.2.2.2.2.1, h.2.2.2.2.2, s.2.2)) else .ok (h.1, h.2.1, h.2.2.1, h.2.2.2.1, h.2.2.2.2.1, h.2.2.2.2.2, f1)
theorem gClause_tail {b : Nat → Nat} {len : Nat} {od : Bool} {p c : Nat} : gClause b len od p c = gTail b len od (gHead b len od p c) := rfl
/-- a clause of orders in the making -/
def OSm (b : Nat → Nat) (len n : Nat) (J0 : Nat → Nat × Nat) (q0 : Nat) (A : Nat → Int32) (G : XH) (p c : Nat) (J : Nat → Nat × Nat) (q kd : Nat) (sm : SF) (wt : Option SF) : Prop := MSC G false b len true p c J q ∧ (∀ j, j < q0 → J j = J0 j) ∧ (∀ j, j < 8 * n → hpI G 103 j = A j) ∧ SWo (hpI G 103) J n kd sm wt q0 q ∧ hpI G 70 21 = nI (n + 1)
theorem ro_234 {b : Nat → Nat} {len n : Nat} {J0 : Nat → Nat × Nat} {q0 : Nat} {A : Nat → Int32} {G0 G : XH} (hn : n < 12) (fr : Fr WRq G0 G) (hM : MS G) {R : Except Nat (Nat × Nat × CLd)} {v x1 x3 : Int32} (hv : hpI G 70 23 = v) (hR : ∀ G', G' = stI G 103 (8 * n + 6) v → Fr WOd G G' → ROr b len n J0 q0 A R G') : WP k_Mdl_readOrder_234 [some (.ref 70), some (.int x1), some (.int (nI (8 * n))), some (.int x3)] [] G (fun z => z.1 = none ∧ Fr WRq G0 z.2 ∧ ROr b len n J0 q0 A R z.2) := by
  have e6 : nI (8 * n) + 6 = nI (8 * n + 6) := nI_add _ 6
  have p6 : 0 ≤ nI (8 * n + 6) := nI_pos' (by omega)
  have c6 : (nI (8 * n + 6)).toNatClampNeg = 8 * n + 6 := nI_clamp (by omega)
  have l6 : 8 * n + 6 < 96 := by omega
  have fr3 : Fr WOd G (stI G 103 (8 * n + 6) v) := Fr.refl.wI rfl
  simp only [k_Mdl_readOrder_234, w_iadd, w_isub, w_imul, w_iand, w_ior, w_ixor, w_ishl, w_ishr, w_iushr, w_idiv, w_irem, w_ineg, w_ladd, w_lsub, w_lmul, w_ldiv, w_lrem, w_i2l, w_l2i, w_i2c, w_lcmp, w_dup_int, w_pop_int, w_dup_ref, w_pop_ref, w_dup_retAddr, w_pop_retAddr, w_dup2, w_I, w_L, w_Null, w_Ild, w_Lld, w_Ald, w_Ist, w_Lst, w_Ast, w_Iinc, w_if_eq, w_icmp_eq, w_if_ne, w_icmp_ne, w_if_lt, w_icmp_lt, w_if_ge, w_icmp_ge, w_if_gt, w_icmp_gt, w_if_le, w_icmp_le, w_GetI, w_GetL, w_GetR, w_PutI, w_PutZ, w_PutL, w_PutR, w_PutN, w_Iald, w_Zald, w_Lald, w_Aald, w_Iast, w_Zast, w_Last, w_AastR, w_AastN, w_Alen, w_New, w_NewA, w_Mna, w_Iret, w_Zret, w_Cret, w_Bret, w_Lret, w_AretR, w_AretN, w_Vret, w_Obj, w_IfNN, w_IfNR, w_Copy, w_Cln, w_Cast, w_SfA, w_SfI, w_SfQ, w_Str, w_ScLd, w_ScLen, w_CV0, w_CS0, w_CV1, w_CS1, w_CV2, w_CS2, w_CV3, w_CS3, w_CV4, w_CS4, w_CV5, w_CS5, List.getElem?_cons_zero, List.getElem?_cons_succ, List.set_cons_zero, List.set_cons_succ, List.length_cons, List.length_nil, List.map_cons, List.map_nil, List.sum_cons, List.sum_nil, List.nil_append, List.cons_append, Option.toList_some, Option.toList_none, Value.category, xok, va_rf, true_and, and_true, and_self, Nat.reduceAdd, Nat.reduceLT, Nat.reduceLeDiff, Nat.reduceEqDiff, Nat.reduceMul, beq_self_eq_true, decide_true, ite_true, ite_false, if_true, if_false, reduceIte, Bool.true_eq_false, Bool.false_eq_true, eq_self_iff_true, Nat.zero_le, not_true_eq_false, not_false_eq_true, forall_const, false_implies, implies_true, forall_false, stI_C, stI_N, stI_Z, stI_S, stI_L, stI_R, stL_C, stL_N, stL_Z, stL_S, stL_I, stL_R, stR_C, stR_N, stR_Z, stR_S, stR_I, stR_L, stA_C, stA_N, stA_Z, stA_S, stA_L, stA_R, stI_I, stL_L, stR_R, stA_I, stN_C, stN_N, stN_Z, stN_S, stN_I, stN_L, stN_R, stI_ne, stL_ne, stR_ne, hM.all, hv, e6, xin, p6, c6, l6, ne10, ne10L, ne01, ne01L, tt_imp, nt_imp, ff_imp, nf_imp, true_and, and_true, true_or, or_true, reduceIte]
  exact ⟨fr.trans (fr3.mono (fun a k z => WOd_WNo a k (WNo_WRo a k z))), hR _ rfl fr3⟩
theorem ro_196 {b : Nat → Nat} {len n : Nat} {J0 : Nat → Nat × Nat} {q0 : Nat} {A : Nat → Int32} {G0 G : XH} (hn : n < 12) (fr : Fr WRq G0 G) {R : Except Nat (Nat × Nat × CLd)} {x1 x3 : Int32} (hst : (∃ e c' J' q', R = .error e ∧ MSC G true b len true e c' J' q') ∨ (∃ p c J q kd sm wt tm, OSm b len n J0 q0 A G p c J q kd sm wt ∧ hpI G 103 (8 * n + 7) = nI tm ∧ 1 ≤ tm ∧ tm ≤ 20 ∧ R = gTail b len true (.ok (p, c, kd, sm, wt, tm)))) : WP k_Mdl_readOrder_196 [some (.ref 70), some (.int x1), some (.int (nI (8 * n))), some (.int x3)] [] G (fun z => z.1 = none ∧ Fr WRq G0 z.2 ∧ ROr b len n J0 q0 A R z.2) := by
  have e5 : nI (8 * n) + 5 = nI (8 * n + 5) := nI_add _ 5
  have p5 : 0 ≤ nI (8 * n + 5) := nI_pos' (by omega)
  have c5 : (nI (8 * n + 5)).toNatClampNeg = 8 * n + 5 := nI_clamp (by omega)
  have l5 : 8 * n + 5 < 96 := by omega
  have hM : MS G := by
    rcases hst with ⟨e, c', J', q', _, z⟩ | ⟨p, c, J, q, kd, sm, wt, tm, z, _⟩
    · exact z.1.1
    · exact z.1.1.1
  obtain ⟨z, hz⟩ : ∃ z, z = hpI G 70 23 := ⟨_, rfl⟩
  have hz' := hz.symm
  obtain ⟨G1, hG1⟩ : ∃ G1, G1 = stI G 103 (8 * n + 5) z := ⟨_, rfl⟩
  have fr1 : Fr WOd G G1 := by rw [hG1]; exact Fr.refl.wI rfl
  have hM1 := fr1.ms hM
  have A1 : hpI G1 103 = up (hpI G 103) (8 * n + 5) z := by rw [hG1, stI_up, hpI_stA]
  have f01 : Fr WRq G0 G1 := fr.trans (fr1.mono (fun a k z => WOd_WNo a k (WNo_WRo a k z)))
  rcases hst with ⟨e, c', J', q', rfl, hb⟩ | ⟨p, c, J, q, kd, sm, wt, tm, ⟨hm, hlow, hA, hsw, hnc⟩, h7, t1, t2, rfl⟩
  · have b19 : hpI G1 70 19 = 1 := (hb.od fr1).2.2.2.1
    have := ro_234 (b := b) (len := len) (J0 := J0) (q0 := q0) (A := A) (R := .error e) (x1 := x1) (x3 := x3) hn f01 hM1 rfl (fun G3 e3 fr3 => ⟨_, _, _, (hb.od fr1).od fr3⟩)
    simp only [k_Mdl_readOrder_196, w_iadd, w_isub, w_imul, w_iand, w_ior, w_ixor, w_ishl, w_ishr, w_iushr, w_idiv, w_irem, w_ineg, w_ladd, w_lsub, w_lmul, w_ldiv, w_lrem, w_i2l, w_l2i, w_i2c, w_lcmp, w_dup_int, w_pop_int, w_dup_ref, w_pop_ref, w_dup_retAddr, w_pop_retAddr, w_dup2, w_I, w_L, w_Null, w_Ild, w_Lld, w_Ald, w_Ist, w_Lst, w_Ast, w_Iinc, w_if_eq, w_icmp_eq, w_if_ne, w_icmp_ne, w_if_lt, w_icmp_lt, w_if_ge, w_icmp_ge, w_if_gt, w_icmp_gt, w_if_le, w_icmp_le, w_GetI, w_GetL, w_GetR, w_PutI, w_PutZ, w_PutL, w_PutR, w_PutN, w_Iald, w_Zald, w_Lald, w_Aald, w_Iast, w_Zast, w_Last, w_AastR, w_AastN, w_Alen, w_New, w_NewA, w_Mna, w_Iret, w_Zret, w_Cret, w_Bret, w_Lret, w_AretR, w_AretN, w_Vret, w_Obj, w_IfNN, w_IfNR, w_Copy, w_Cln, w_Cast, w_SfA, w_SfI, w_SfQ, w_Str, w_ScLd, w_ScLen, w_CV0, w_CS0, w_CV1, w_CS1, w_CV2, w_CS2, w_CV3, w_CS3, w_CV4, w_CS4, w_CV5, w_CS5, List.getElem?_cons_zero, List.getElem?_cons_succ, List.set_cons_zero, List.set_cons_succ, List.length_cons, List.length_nil, List.map_cons, List.map_nil, List.sum_cons, List.sum_nil, List.nil_append, List.cons_append, Option.toList_some, Option.toList_none, Value.category, xok, va_rf, true_and, and_true, and_self, Nat.reduceAdd, Nat.reduceLT, Nat.reduceLeDiff, Nat.reduceEqDiff, Nat.reduceMul, beq_self_eq_true, decide_true, ite_true, ite_false, if_true, if_false, reduceIte, Bool.true_eq_false, Bool.false_eq_true, eq_self_iff_true, Nat.zero_le, not_true_eq_false, not_false_eq_true, forall_const, false_implies, implies_true, forall_false, stI_C, stI_N, stI_Z, stI_S, stI_L, stI_R, stL_C, stL_N, stL_Z, stL_S, stL_I, stL_R, stR_C, stR_N, stR_Z, stR_S, stR_I, stR_L, stA_C, stA_N, stA_Z, stA_S, stA_L, stA_R, stI_I, stL_L, stR_R, stA_I, stN_C, stN_N, stN_Z, stN_S, stN_I, stN_L, stN_R, stI_ne, stL_ne, stR_ne, hM.all, hz', e5, xin, p5, c5, l5, ← hG1, hM1.all, b19, ne10, ne10L, ne01, ne01L, tt_imp, nt_imp, ff_imp, nf_imp, true_and, and_true, true_or, or_true, reduceIte]
    exact this
  · have hm1 := hm.od fr1
    have b19 : hpI G1 70 19 = 0 := hm1.2.2.2.1
    have ez : z = nI q := by rw [hz]; exact hm.2.2.2.2.2.2.1
    have si : ∀ Q, SP D_Mdl_isWord [.ref 70, .long 294] G1 Q = Q (some (.int (if isW b len wIf p then 1 else 0)), G1) := fun Q => s_isWord hm1.1 wk_if (by decide) Q
    obtain ⟨hpw, hq0⟩ := hsw.pw
    have m1 : hpI G1 70 21 = nI (n + 1) := (fr1.I rfl).trans hnc
    cases qi : isW b len wIf p with
    | false =>
      have eR : gTail b len true (.ok (p, c, kd, sm, wt, tm)) = .ok (p, c, kd, sm, wt, tm, f1) := by unfold gTail; dsimp only; rw [qi]; rfl
      rw [eR]
      have := ro_234 (b := b) (len := len) (J0 := J0) (q0 := q0) (A := A) (R := .ok (p, c, kd, sm, wt, tm, f1)) (x1 := x1) (x3 := x3) hn f01 hM1 hm1.2.2.2.2.2.2.1 (fun G3 e3 fr3 => by
        have A3 : hpI G3 103 = up (hpI G1 103) (8 * n + 6) (nI q) := by rw [e3, stI_up, hpI_stA]
        refine ⟨J, q, hm1.od fr3, hlow, hq0, (fr3.I rfl).trans m1, fun j hj => by rw [A3, A1, up_ne (by omega), up_ne (by omega)]; exact hA j hj, ⟨q0, q, q, hsw.congr (fun j hj => by rw [A3, A1, up_ne (by omega), up_ne (by omega)]) (fun _ _ => rfl), ?_, ?_, Or.inr ⟨rfl, rfl⟩, Nat.le_refl _, ?_, t1, t2⟩, hpw⟩
        · rw [A3, A1, up_ne (by omega), up_eq, ez]
        · rw [A3, up_eq]
        · rw [A3, A1, up_ne (by omega), up_ne (by omega)]; exact h7)
      simp only [k_Mdl_readOrder_196, w_iadd, w_isub, w_imul, w_iand, w_ior, w_ixor, w_ishl, w_ishr, w_iushr, w_idiv, w_irem, w_ineg, w_ladd, w_lsub, w_lmul, w_ldiv, w_lrem, w_i2l, w_l2i, w_i2c, w_lcmp, w_dup_int, w_pop_int, w_dup_ref, w_pop_ref, w_dup_retAddr, w_pop_retAddr, w_dup2, w_I, w_L, w_Null, w_Ild, w_Lld, w_Ald, w_Ist, w_Lst, w_Ast, w_Iinc, w_if_eq, w_icmp_eq, w_if_ne, w_icmp_ne, w_if_lt, w_icmp_lt, w_if_ge, w_icmp_ge, w_if_gt, w_icmp_gt, w_if_le, w_icmp_le, w_GetI, w_GetL, w_GetR, w_PutI, w_PutZ, w_PutL, w_PutR, w_PutN, w_Iald, w_Zald, w_Lald, w_Aald, w_Iast, w_Zast, w_Last, w_AastR, w_AastN, w_Alen, w_New, w_NewA, w_Mna, w_Iret, w_Zret, w_Cret, w_Bret, w_Lret, w_AretR, w_AretN, w_Vret, w_Obj, w_IfNN, w_IfNR, w_Copy, w_Cln, w_Cast, w_SfA, w_SfI, w_SfQ, w_Str, w_ScLd, w_ScLen, w_CV0, w_CS0, w_CV1, w_CS1, w_CV2, w_CS2, w_CV3, w_CS3, w_CV4, w_CS4, w_CV5, w_CS5, List.getElem?_cons_zero, List.getElem?_cons_succ, List.set_cons_zero, List.set_cons_succ, List.length_cons, List.length_nil, List.map_cons, List.map_nil, List.sum_cons, List.sum_nil, List.nil_append, List.cons_append, Option.toList_some, Option.toList_none, Value.category, xok, va_rf, true_and, and_true, and_self, Nat.reduceAdd, Nat.reduceLT, Nat.reduceLeDiff, Nat.reduceEqDiff, Nat.reduceMul, beq_self_eq_true, decide_true, ite_true, ite_false, if_true, if_false, reduceIte, Bool.true_eq_false, Bool.false_eq_true, eq_self_iff_true, Nat.zero_le, not_true_eq_false, not_false_eq_true, forall_const, false_implies, implies_true, forall_false, stI_C, stI_N, stI_Z, stI_S, stI_L, stI_R, stL_C, stL_N, stL_Z, stL_S, stL_I, stL_R, stR_C, stR_N, stR_Z, stR_S, stR_I, stR_L, stA_C, stA_N, stA_Z, stA_S, stA_L, stA_R, stI_I, stL_L, stR_R, stA_I, stN_C, stN_N, stN_Z, stN_S, stN_I, stN_L, stN_R, stI_ne, stL_ne, stR_ne, hM.all, hz', e5, xin, p5, c5, l5, ← hG1, hM1.all, b19, si, qi, reduceIte, Bool.false_eq_true, ne10, ne10L, ne01, ne01L, tt_imp, nt_imp, ff_imp, nf_imp, true_and, and_true, true_or, or_true, reduceIte]
      exact this
    | true =>
      have hpl : p < len := isW_lt qi
      have npl := (nxB_le (b := b) (len := len) (p := p)).2 hpl
      have hk2 := gTest_ok (b := b) (len := len) (od := true) 8 (nxB b len p) c nxB_le.1
      have eR : gTail b len true (.ok (p, c, kd, sm, wt, tm)) = match gTest b len true 8 (nxB b len p) c with
        | .error e => .error e
        | .ok s => .ok (s.1, s.2.1, kd, sm, wt, tm, s.2.2) := by unfold gTail; dsimp only; rw [qi]; rfl
      rw [eR]
      obtain ⟨R', hR'⟩ : ∃ R' : Except Nat (Nat × Nat × CLd), R' = (match gTest b len true 8 (nxB b len p) c with
        | .error e => .error e
        | .ok s => .ok (s.1, s.2.1, kd, sm, wt, tm, s.2.2)) := ⟨_, rfl⟩
      rw [← hR']
      simp only [k_Mdl_readOrder_196, w_iadd, w_isub, w_imul, w_iand, w_ior, w_ixor, w_ishl, w_ishr, w_iushr, w_idiv, w_irem, w_ineg, w_ladd, w_lsub, w_lmul, w_ldiv, w_lrem, w_i2l, w_l2i, w_i2c, w_lcmp, w_dup_int, w_pop_int, w_dup_ref, w_pop_ref, w_dup_retAddr, w_pop_retAddr, w_dup2, w_I, w_L, w_Null, w_Ild, w_Lld, w_Ald, w_Ist, w_Lst, w_Ast, w_Iinc, w_if_eq, w_icmp_eq, w_if_ne, w_icmp_ne, w_if_lt, w_icmp_lt, w_if_ge, w_icmp_ge, w_if_gt, w_icmp_gt, w_if_le, w_icmp_le, w_GetI, w_GetL, w_GetR, w_PutI, w_PutZ, w_PutL, w_PutR, w_PutN, w_Iald, w_Zald, w_Lald, w_Aald, w_Iast, w_Zast, w_Last, w_AastR, w_AastN, w_Alen, w_New, w_NewA, w_Mna, w_Iret, w_Zret, w_Cret, w_Bret, w_Lret, w_AretR, w_AretN, w_Vret, w_Obj, w_IfNN, w_IfNR, w_Copy, w_Cln, w_Cast, w_SfA, w_SfI, w_SfQ, w_Str, w_ScLd, w_ScLen, w_CV0, w_CS0, w_CV1, w_CS1, w_CV2, w_CS2, w_CV3, w_CS3, w_CV4, w_CS4, w_CV5, w_CS5, List.getElem?_cons_zero, List.getElem?_cons_succ, List.set_cons_zero, List.set_cons_succ, List.length_cons, List.length_nil, List.map_cons, List.map_nil, List.sum_cons, List.sum_nil, List.nil_append, List.cons_append, Option.toList_some, Option.toList_none, Value.category, xok, va_rf, true_and, and_true, and_self, Nat.reduceAdd, Nat.reduceLT, Nat.reduceLeDiff, Nat.reduceEqDiff, Nat.reduceMul, beq_self_eq_true, decide_true, ite_true, ite_false, if_true, if_false, reduceIte, Bool.true_eq_false, Bool.false_eq_true, eq_self_iff_true, Nat.zero_le, not_true_eq_false, not_false_eq_true, forall_const, false_implies, implies_true, forall_false, stI_C, stI_N, stI_Z, stI_S, stI_L, stI_R, stL_C, stL_N, stL_Z, stL_S, stL_I, stL_R, stR_C, stR_N, stR_Z, stR_S, stR_I, stR_L, stA_C, stA_N, stA_Z, stA_S, stA_L, stA_R, stI_I, stL_L, stR_R, stA_I, stN_C, stN_N, stN_Z, stN_S, stN_I, stN_L, stN_R, stI_ne, stL_ne, stR_ne, hM.all, hz', e5, xin, p5, c5, l5, ← hG1, hM1.all, b19, si, qi, reduceIte, ne10, ne10L, ne01, ne01L, tt_imp, nt_imp, ff_imp, nf_imp, true_and, and_true, true_or, or_true, reduceIte]
      refine SP.mono (s_next hm1.1) ?_
      rintro ⟨v2, G2⟩ ⟨rfl, fr2, hl2⟩
      dsimp only at fr2 hl2
      have hm2 := hm1.nx fr2 hl2 (by omega)
      have hM2 := hl2.1
      simp only [Option.toList_none, List.nil_append, w_iadd, w_isub, w_imul, w_iand, w_ior, w_ixor, w_ishl, w_ishr, w_iushr, w_idiv, w_irem, w_ineg, w_ladd, w_lsub, w_lmul, w_ldiv, w_lrem, w_i2l, w_l2i, w_i2c, w_lcmp, w_dup_int, w_pop_int, w_dup_ref, w_pop_ref, w_dup_retAddr, w_pop_retAddr, w_dup2, w_I, w_L, w_Null, w_Ild, w_Lld, w_Ald, w_Ist, w_Lst, w_Ast, w_Iinc, w_if_eq, w_icmp_eq, w_if_ne, w_icmp_ne, w_if_lt, w_icmp_lt, w_if_ge, w_icmp_ge, w_if_gt, w_icmp_gt, w_if_le, w_icmp_le, w_GetI, w_GetL, w_GetR, w_PutI, w_PutZ, w_PutL, w_PutR, w_PutN, w_Iald, w_Zald, w_Lald, w_Aald, w_Iast, w_Zast, w_Last, w_AastR, w_AastN, w_Alen, w_New, w_NewA, w_Mna, w_Iret, w_Zret, w_Cret, w_Bret, w_Lret, w_AretR, w_AretN, w_Vret, w_Obj, w_IfNN, w_IfNR, w_Copy, w_Cln, w_Cast, w_SfA, w_SfI, w_SfQ, w_Str, w_ScLd, w_ScLen, w_CV0, w_CS0, w_CV1, w_CS1, w_CV2, w_CS2, w_CV3, w_CS3, w_CV4, w_CS4, w_CV5, w_CS5, List.getElem?_cons_zero, List.getElem?_cons_succ, List.set_cons_zero, List.set_cons_succ, List.length_cons, List.length_nil, List.map_cons, List.map_nil, List.sum_cons, List.sum_nil, List.nil_append, List.cons_append, Option.toList_some, Option.toList_none, Value.category, xok, va_rf, true_and, and_true, and_self, Nat.reduceAdd, Nat.reduceLT, Nat.reduceLeDiff, Nat.reduceEqDiff, Nat.reduceMul, beq_self_eq_true, decide_true, ite_true, ite_false, if_true, if_false, reduceIte, Bool.true_eq_false, Bool.false_eq_true, eq_self_iff_true, Nat.zero_le, not_true_eq_false, not_false_eq_true, forall_const, false_implies, implies_true, forall_false, hM2.all, ne10, ne10L, ne01, ne01L, tt_imp, nt_imp, ff_imp, nf_imp, true_and, and_true, true_or, or_true, reduceIte]
      refine SP.mono (s_readTest hm2) ?_
      rintro ⟨v4, G4⟩ ⟨rfl, fr4, hx⟩
      dsimp only at fr4 hx
      simp only [Option.toList_none, List.nil_append]
      have f04 : Fr WRq G0 G4 := f01.trans ((fr2.mono (fun a k y => WNx_WMx a k (WMx_WRo a k y))).trans (fr4.mono WMx_WRo))
      have A4 : hpI G4 103 = hpI G1 103 := (fr4.IA _ (fun _ => rfl)).trans (fr2.IA _ (fun _ => rfl))
      have m4 : hpI G4 70 21 = nI (n + 1) := (fr4.I rfl).trans ((fr2.I rfl).trans m1)
      cases hgt : gTest b len true 8 (nxB b len p) c with
      | error e =>
        rw [hgt] at hx hR'
        obtain ⟨c', J', q', hx⟩ := hx
        rw [hR']
        exact ro_234 (b := b) (len := len) (J0 := J0) (q0 := q0) (A := A) (R := .error e) (x1 := x1) (x3 := x3) hn f04 hx.1.1 rfl (fun G3 e3 fr3 => ⟨_, _, _, hx.od fr3⟩)
      | ok s =>
        rw [hgt] at hx hR' hk2
        obtain ⟨J', q', hx, hlx, hok⟩ := hx
        dsimp only at hk2
        have hqq := hok.1.1
        rw [hR']
        refine ro_234 (b := b) (len := len) (J0 := J0) (q0 := q0) (A := A) (R := .ok (s.1, s.2.1, kd, sm, wt, tm, s.2.2)) (x1 := x1) (x3 := x3) hn f04 hx.1.1 hx.2.2.2.2.2.2.1 (fun G3 e3 fr3 => ?_)
        have A3 : hpI G3 103 = up (up (hpI G 103) (8 * n + 5) z) (8 * n + 6) (nI q') := by rw [e3, stI_up, hpI_stA, A4, A1]
        have hsw' : SWo (hpI G3 103) J' n kd sm wt q0 q := hsw.congr (fun j hj => by rw [A3, up_ne (by omega), up_ne (by omega)]) (fun j hj => hlx j hj)
        have hts : SMj 21 true J' q q' s.2.2 := Or.inl ⟨hqq, _, by omega, hok⟩
        refine ⟨J', q', hx.od fr3, fun j hj => (hlx j (by omega)).trans (hlow j hj), by omega, (fr3.I rfl).trans m4, fun j hj => by rw [A3, up_ne (by omega), up_ne (by omega)]; exact hA j hj, ⟨q0, q, q', hsw', ?_, ?_, hts, Nat.le_refl _, ?_, t1, t2⟩, hsw'.pw.1.app hts.pw hts.le⟩
        · rw [A3, up_ne (by omega), up_eq, ez]
        · rw [A3, up_eq]
        · rw [A3, up_ne (by omega), up_ne (by omega)]; exact h7
theorem wk_times : wdk wTimes := ⟨by decide, by decide, by decide⟩
theorem wk_with : wdk wWith := ⟨by decide, by decide, by decide⟩
theorem wk_hand : wdk wHand := ⟨by decide, by decide, by decide⟩
theorem wk_pass : wdk wPass := ⟨by decide, by decide, by decide⟩
theorem ro_148 {b : Nat → Nat} {len n : Nat} {J0 : Nat → Nat × Nat} {q0 : Nat} {A : Nat → Int32} {G0 G : XH} (hn : n < 12) (fr : Fr WRq G0 G) {R : Except Nat (Nat × Nat × CLd)} {x1 x3 : Int32} (hst : (∃ e c' J' q', R = .error e ∧ MSC G true b len true e c' J' q') ∨ (∃ p c J q kd sm wt, OSm b len n J0 q0 A G p c J q kd sm wt ∧ R = gTail b len true (gTimes b len p c kd sm wt))) : WP k_Mdl_readOrder_148 [some (.ref 70), some (.int x1), some (.int (nI (8 * n))), some (.int x3)] [] G (fun z => z.1 = none ∧ Fr WRq G0 z.2 ∧ ROr b len n J0 q0 A R z.2) := by
  have e7 : nI (8 * n) + 7 = nI (8 * n + 7) := nI_add _ 7
  have p7 : 0 ≤ nI (8 * n + 7) := nI_pos' (by omega)
  have c7 : (nI (8 * n + 7)).toNatClampNeg = 8 * n + 7 := nI_clamp (by omega)
  have l7 : 8 * n + 7 < 96 := by omega
  have hM : MS G := by
    rcases hst with ⟨e, c', J', q', _, z⟩ | ⟨p, c, J, q, kd, sm, wt, z, _⟩
    · exact z.1.1
    · exact z.1.1.1
  obtain ⟨G1, hG1⟩ : ∃ G1, G1 = stI G 103 (8 * n + 7) 1 := ⟨_, rfl⟩
  have fr1 : Fr WOd G G1 := by rw [hG1]; exact Fr.refl.wI rfl
  have hM1 := fr1.ms hM
  have A1 : hpI G1 103 = up (hpI G 103) (8 * n + 7) 1 := by rw [hG1, stI_up, hpI_stA]
  have f01 : Fr WRq G0 G1 := fr.trans (fr1.mono (fun a k z => WOd_WNo a k (WNo_WRo a k z)))
  rcases hst with ⟨e, c', J', q', rfl, hb⟩ | ⟨p, c, J, q, kd, sm, wt, ⟨hm, hlow, hA, hsw, hnc⟩, rfl⟩
  · have b19 : hpI G1 70 19 = 1 := (hb.od fr1).2.2.2.1
    have := ro_196 (b := b) (len := len) (J0 := J0) (q0 := q0) (A := A) (R := .error e) (x1 := x1) (x3 := x3) hn f01 (Or.inl ⟨e, _, _, _, rfl, hb.od fr1⟩)
    simp only [k_Mdl_readOrder_148, w_iadd, w_isub, w_imul, w_iand, w_ior, w_ixor, w_ishl, w_ishr, w_iushr, w_idiv, w_irem, w_ineg, w_ladd, w_lsub, w_lmul, w_ldiv, w_lrem, w_i2l, w_l2i, w_i2c, w_lcmp, w_dup_int, w_pop_int, w_dup_ref, w_pop_ref, w_dup_retAddr, w_pop_retAddr, w_dup2, w_I, w_L, w_Null, w_Ild, w_Lld, w_Ald, w_Ist, w_Lst, w_Ast, w_Iinc, w_if_eq, w_icmp_eq, w_if_ne, w_icmp_ne, w_if_lt, w_icmp_lt, w_if_ge, w_icmp_ge, w_if_gt, w_icmp_gt, w_if_le, w_icmp_le, w_GetI, w_GetL, w_GetR, w_PutI, w_PutZ, w_PutL, w_PutR, w_PutN, w_Iald, w_Zald, w_Lald, w_Aald, w_Iast, w_Zast, w_Last, w_AastR, w_AastN, w_Alen, w_New, w_NewA, w_Mna, w_Iret, w_Zret, w_Cret, w_Bret, w_Lret, w_AretR, w_AretN, w_Vret, w_Obj, w_IfNN, w_IfNR, w_Copy, w_Cln, w_Cast, w_SfA, w_SfI, w_SfQ, w_Str, w_ScLd, w_ScLen, w_CV0, w_CS0, w_CV1, w_CS1, w_CV2, w_CS2, w_CV3, w_CS3, w_CV4, w_CS4, w_CV5, w_CS5, List.getElem?_cons_zero, List.getElem?_cons_succ, List.set_cons_zero, List.set_cons_succ, List.length_cons, List.length_nil, List.map_cons, List.map_nil, List.sum_cons, List.sum_nil, List.nil_append, List.cons_append, Option.toList_some, Option.toList_none, Value.category, xok, va_rf, true_and, and_true, and_self, Nat.reduceAdd, Nat.reduceLT, Nat.reduceLeDiff, Nat.reduceEqDiff, Nat.reduceMul, beq_self_eq_true, decide_true, ite_true, ite_false, if_true, if_false, reduceIte, Bool.true_eq_false, Bool.false_eq_true, eq_self_iff_true, Nat.zero_le, not_true_eq_false, not_false_eq_true, forall_const, false_implies, implies_true, forall_false, stI_C, stI_N, stI_Z, stI_S, stI_L, stI_R, stL_C, stL_N, stL_Z, stL_S, stL_I, stL_R, stR_C, stR_N, stR_Z, stR_S, stR_I, stR_L, stA_C, stA_N, stA_Z, stA_S, stA_L, stA_R, stI_I, stL_L, stR_R, stA_I, stN_C, stN_N, stN_Z, stN_S, stN_I, stN_L, stN_R, stI_ne, stL_ne, stR_ne, hM.all, e7, xin, p7, c7, l7, ← hG1, hM1.all, b19, ne10, ne10L, ne01, ne01L, tt_imp, nt_imp, ff_imp, nf_imp, true_and, and_true, true_or, or_true, reduceIte]
    exact this
  · have hm1 := hm.od fr1
    have b19 : hpI G1 70 19 = 0 := hm1.2.2.2.1
    have si : ∀ Q, SP D_Mdl_isWord [.ref 70, .long 21279923] G1 Q = Q (some (.int (if isW b len wTimes p then 1 else 0)), G1) := fun Q => s_isWord hm1.1 wk_times (by decide) Q
    have m1 : hpI G1 70 21 = nI (n + 1) := (fr1.I rfl).trans hnc
    have hOS : ∀ G2 p2, (∀ j, j < 8 * n + 7 → hpI G2 103 j = hpI G 103 j) → hpI G2 70 21 = nI (n + 1) → MSC G2 false b len true p2 c J q → OSm b len n J0 q0 A G2 p2 c J q kd sm wt := fun G2 p2 z1 z2 z3 => ⟨z3, hlow, fun j hj => (z1 j (by omega)).trans (hA j hj), hsw.congr (fun j hj => z1 _ (by omega)) (fun _ _ => rfl), z2⟩
    cases qi : isW b len wTimes p with
    | false =>
      have eR : gTimes b len p c kd sm wt = .ok (p, c, kd, sm, wt, 1) := by unfold gTimes; rw [qi]; rfl
      rw [eR]
      have := ro_196 (b := b) (len := len) (J0 := J0) (q0 := q0) (A := A) (R := gTail b len true (.ok (p, c, kd, sm, wt, 1))) (x1 := x1) (x3 := x3) hn f01 (Or.inr ⟨p, c, J, q, kd, sm, wt, 1, hOS G1 p (fun j hj => by rw [A1, up_ne (by omega)]) m1 hm1, by rw [A1, up_eq]; rfl, by omega, by omega, rfl⟩)
      simp only [k_Mdl_readOrder_148, w_iadd, w_isub, w_imul, w_iand, w_ior, w_ixor, w_ishl, w_ishr, w_iushr, w_idiv, w_irem, w_ineg, w_ladd, w_lsub, w_lmul, w_ldiv, w_lrem, w_i2l, w_l2i, w_i2c, w_lcmp, w_dup_int, w_pop_int, w_dup_ref, w_pop_ref, w_dup_retAddr, w_pop_retAddr, w_dup2, w_I, w_L, w_Null, w_Ild, w_Lld, w_Ald, w_Ist, w_Lst, w_Ast, w_Iinc, w_if_eq, w_icmp_eq, w_if_ne, w_icmp_ne, w_if_lt, w_icmp_lt, w_if_ge, w_icmp_ge, w_if_gt, w_icmp_gt, w_if_le, w_icmp_le, w_GetI, w_GetL, w_GetR, w_PutI, w_PutZ, w_PutL, w_PutR, w_PutN, w_Iald, w_Zald, w_Lald, w_Aald, w_Iast, w_Zast, w_Last, w_AastR, w_AastN, w_Alen, w_New, w_NewA, w_Mna, w_Iret, w_Zret, w_Cret, w_Bret, w_Lret, w_AretR, w_AretN, w_Vret, w_Obj, w_IfNN, w_IfNR, w_Copy, w_Cln, w_Cast, w_SfA, w_SfI, w_SfQ, w_Str, w_ScLd, w_ScLen, w_CV0, w_CS0, w_CV1, w_CS1, w_CV2, w_CS2, w_CV3, w_CS3, w_CV4, w_CS4, w_CV5, w_CS5, List.getElem?_cons_zero, List.getElem?_cons_succ, List.set_cons_zero, List.set_cons_succ, List.length_cons, List.length_nil, List.map_cons, List.map_nil, List.sum_cons, List.sum_nil, List.nil_append, List.cons_append, Option.toList_some, Option.toList_none, Value.category, xok, va_rf, true_and, and_true, and_self, Nat.reduceAdd, Nat.reduceLT, Nat.reduceLeDiff, Nat.reduceEqDiff, Nat.reduceMul, beq_self_eq_true, decide_true, ite_true, ite_false, if_true, if_false, reduceIte, Bool.true_eq_false, Bool.false_eq_true, eq_self_iff_true, Nat.zero_le, not_true_eq_false, not_false_eq_true, forall_const, false_implies, implies_true, forall_false, stI_C, stI_N, stI_Z, stI_S, stI_L, stI_R, stL_C, stL_N, stL_Z, stL_S, stL_I, stL_R, stR_C, stR_N, stR_Z, stR_S, stR_I, stR_L, stA_C, stA_N, stA_Z, stA_S, stA_L, stA_R, stI_I, stL_L, stR_R, stA_I, stN_C, stN_N, stN_Z, stN_S, stN_I, stN_L, stN_R, stI_ne, stL_ne, stR_ne, hM.all, e7, xin, p7, c7, l7, ← hG1, hM1.all, b19, si, qi, reduceIte, Bool.false_eq_true, ne10, ne10L, ne01, ne01L, tt_imp, nt_imp, ff_imp, nf_imp, true_and, and_true, true_or, or_true, reduceIte]
      exact this
    | true =>
      have hpl : p < len := isW_lt qi
      have npl := (nxB_le (b := b) (len := len) (p := p)).2 hpl
      have eR : gTimes b len p c kd sm wt = (match nuO b len (nxB b len p) with
        | none => .error (nxB b len p)
        | some v => if 1 ≤ v ∧ v ≤ 20 then .ok (nxB b len (nxB b len p), c, kd, sm, wt, v) else .error (nxB b len p)) := by unfold gTimes; rw [qi]; rfl
      simp only [k_Mdl_readOrder_148, w_iadd, w_isub, w_imul, w_iand, w_ior, w_ixor, w_ishl, w_ishr, w_iushr, w_idiv, w_irem, w_ineg, w_ladd, w_lsub, w_lmul, w_ldiv, w_lrem, w_i2l, w_l2i, w_i2c, w_lcmp, w_dup_int, w_pop_int, w_dup_ref, w_pop_ref, w_dup_retAddr, w_pop_retAddr, w_dup2, w_I, w_L, w_Null, w_Ild, w_Lld, w_Ald, w_Ist, w_Lst, w_Ast, w_Iinc, w_if_eq, w_icmp_eq, w_if_ne, w_icmp_ne, w_if_lt, w_icmp_lt, w_if_ge, w_icmp_ge, w_if_gt, w_icmp_gt, w_if_le, w_icmp_le, w_GetI, w_GetL, w_GetR, w_PutI, w_PutZ, w_PutL, w_PutR, w_PutN, w_Iald, w_Zald, w_Lald, w_Aald, w_Iast, w_Zast, w_Last, w_AastR, w_AastN, w_Alen, w_New, w_NewA, w_Mna, w_Iret, w_Zret, w_Cret, w_Bret, w_Lret, w_AretR, w_AretN, w_Vret, w_Obj, w_IfNN, w_IfNR, w_Copy, w_Cln, w_Cast, w_SfA, w_SfI, w_SfQ, w_Str, w_ScLd, w_ScLen, w_CV0, w_CS0, w_CV1, w_CS1, w_CV2, w_CS2, w_CV3, w_CS3, w_CV4, w_CS4, w_CV5, w_CS5, List.getElem?_cons_zero, List.getElem?_cons_succ, List.set_cons_zero, List.set_cons_succ, List.length_cons, List.length_nil, List.map_cons, List.map_nil, List.sum_cons, List.sum_nil, List.nil_append, List.cons_append, Option.toList_some, Option.toList_none, Value.category, xok, va_rf, true_and, and_true, and_self, Nat.reduceAdd, Nat.reduceLT, Nat.reduceLeDiff, Nat.reduceEqDiff, Nat.reduceMul, beq_self_eq_true, decide_true, ite_true, ite_false, if_true, if_false, reduceIte, Bool.true_eq_false, Bool.false_eq_true, eq_self_iff_true, Nat.zero_le, not_true_eq_false, not_false_eq_true, forall_const, false_implies, implies_true, forall_false, stI_C, stI_N, stI_Z, stI_S, stI_L, stI_R, stL_C, stL_N, stL_Z, stL_S, stL_I, stL_R, stR_C, stR_N, stR_Z, stR_S, stR_I, stR_L, stA_C, stA_N, stA_Z, stA_S, stA_L, stA_R, stI_I, stL_L, stR_R, stA_I, stN_C, stN_N, stN_Z, stN_S, stN_I, stN_L, stN_R, stI_ne, stL_ne, stR_ne, hM.all, e7, xin, p7, c7, l7, ← hG1, hM1.all, b19, si, qi, reduceIte, ne10, ne10L, ne01, ne01L, tt_imp, nt_imp, ff_imp, nf_imp, true_and, and_true, true_or, or_true, reduceIte]
      refine SP.mono (s_next hm1.1) ?_
      rintro ⟨v2, G2⟩ ⟨rfl, fr2, hl2⟩
      dsimp only at fr2 hl2
      have hm2 := hm1.nx fr2 hl2 (by omega)
      have hM2 := hl2.1
      simp only [Option.toList_none, List.nil_append, w_iadd, w_isub, w_imul, w_iand, w_ior, w_ixor, w_ishl, w_ishr, w_iushr, w_idiv, w_irem, w_ineg, w_ladd, w_lsub, w_lmul, w_ldiv, w_lrem, w_i2l, w_l2i, w_i2c, w_lcmp, w_dup_int, w_pop_int, w_dup_ref, w_pop_ref, w_dup_retAddr, w_pop_retAddr, w_dup2, w_I, w_L, w_Null, w_Ild, w_Lld, w_Ald, w_Ist, w_Lst, w_Ast, w_Iinc, w_if_eq, w_icmp_eq, w_if_ne, w_icmp_ne, w_if_lt, w_icmp_lt, w_if_ge, w_icmp_ge, w_if_gt, w_icmp_gt, w_if_le, w_icmp_le, w_GetI, w_GetL, w_GetR, w_PutI, w_PutZ, w_PutL, w_PutR, w_PutN, w_Iald, w_Zald, w_Lald, w_Aald, w_Iast, w_Zast, w_Last, w_AastR, w_AastN, w_Alen, w_New, w_NewA, w_Mna, w_Iret, w_Zret, w_Cret, w_Bret, w_Lret, w_AretR, w_AretN, w_Vret, w_Obj, w_IfNN, w_IfNR, w_Copy, w_Cln, w_Cast, w_SfA, w_SfI, w_SfQ, w_Str, w_ScLd, w_ScLen, w_CV0, w_CS0, w_CV1, w_CS1, w_CV2, w_CS2, w_CV3, w_CS3, w_CV4, w_CS4, w_CV5, w_CS5, List.getElem?_cons_zero, List.getElem?_cons_succ, List.set_cons_zero, List.set_cons_succ, List.length_cons, List.length_nil, List.map_cons, List.map_nil, List.sum_cons, List.sum_nil, List.nil_append, List.cons_append, Option.toList_some, Option.toList_none, Value.category, xok, va_rf, true_and, and_true, and_self, Nat.reduceAdd, Nat.reduceLT, Nat.reduceLeDiff, Nat.reduceEqDiff, Nat.reduceMul, beq_self_eq_true, decide_true, ite_true, ite_false, if_true, if_false, reduceIte, Bool.true_eq_false, Bool.false_eq_true, eq_self_iff_true, Nat.zero_le, not_true_eq_false, not_false_eq_true, forall_const, false_implies, implies_true, forall_false, hM2.all, e7, ne10, ne10L, ne01, ne01L, tt_imp, nt_imp, ff_imp, nf_imp, true_and, and_true, true_or, or_true, reduceIte]
      refine SP.mono (s_numberC hm2 1 20 (by omega) (by omega)) ?_
      rintro ⟨v4, G4⟩ ⟨⟨v, rfl, hv⟩, fr4, hx⟩
      dsimp only at fr4 hx
      have hM4 := fr4.ms hM2
      obtain ⟨G5, hG5⟩ : ∃ G5, G5 = stI G4 103 (8 * n + 7) v := ⟨_, rfl⟩
      have fr5 : Fr WOd G4 G5 := by rw [hG5]; exact Fr.refl.wI rfl
      have A5 : hpI G5 103 = up (up (hpI G 103) (8 * n + 7) 1) (8 * n + 7) v := by rw [hG5, stI_up, hpI_stA, fr4.IA 103 (fun _ => rfl), fr2.IA 103 (fun _ => rfl), A1]
      have f05 : Fr WRq G0 G5 := (f01.trans ((fr2.mono (fun a k y => WNx_WMx a k (WMx_WRo a k y))).trans (fr4.mono WMx_WRo))).trans (fr5.mono (fun a k z => WOd_WNo a k (WNo_WRo a k z)))
      have m5 : hpI G5 70 21 = nI (n + 1) := (fr5.I rfl).trans ((fr4.I rfl).trans ((fr2.I rfl).trans m1))
      have hx5 := hx.od fr5
      simp only [Option.toList_some, List.cons_append, List.nil_append, w_iadd, w_isub, w_imul, w_iand, w_ior, w_ixor, w_ishl, w_ishr, w_iushr, w_idiv, w_irem, w_ineg, w_ladd, w_lsub, w_lmul, w_ldiv, w_lrem, w_i2l, w_l2i, w_i2c, w_lcmp, w_dup_int, w_pop_int, w_dup_ref, w_pop_ref, w_dup_retAddr, w_pop_retAddr, w_dup2, w_I, w_L, w_Null, w_Ild, w_Lld, w_Ald, w_Ist, w_Lst, w_Ast, w_Iinc, w_if_eq, w_icmp_eq, w_if_ne, w_icmp_ne, w_if_lt, w_icmp_lt, w_if_ge, w_icmp_ge, w_if_gt, w_icmp_gt, w_if_le, w_icmp_le, w_GetI, w_GetL, w_GetR, w_PutI, w_PutZ, w_PutL, w_PutR, w_PutN, w_Iald, w_Zald, w_Lald, w_Aald, w_Iast, w_Zast, w_Last, w_AastR, w_AastN, w_Alen, w_New, w_NewA, w_Mna, w_Iret, w_Zret, w_Cret, w_Bret, w_Lret, w_AretR, w_AretN, w_Vret, w_Obj, w_IfNN, w_IfNR, w_Copy, w_Cln, w_Cast, w_SfA, w_SfI, w_SfQ, w_Str, w_ScLd, w_ScLen, w_CV0, w_CS0, w_CV1, w_CS1, w_CV2, w_CS2, w_CV3, w_CS3, w_CV4, w_CS4, w_CV5, w_CS5, List.getElem?_cons_zero, List.getElem?_cons_succ, List.set_cons_zero, List.set_cons_succ, List.length_cons, List.length_nil, List.map_cons, List.map_nil, List.sum_cons, List.sum_nil, List.nil_append, List.cons_append, Option.toList_some, Option.toList_none, Value.category, xok, va_rf, true_and, and_true, and_self, Nat.reduceAdd, Nat.reduceLT, Nat.reduceLeDiff, Nat.reduceEqDiff, Nat.reduceMul, beq_self_eq_true, decide_true, ite_true, ite_false, if_true, if_false, reduceIte, Bool.true_eq_false, Bool.false_eq_true, eq_self_iff_true, Nat.zero_le, not_true_eq_false, not_false_eq_true, forall_const, false_implies, implies_true, forall_false, stI_C, stI_N, stI_Z, stI_S, stI_L, stI_R, stL_C, stL_N, stL_Z, stL_S, stL_I, stL_R, stR_C, stR_N, stR_Z, stR_S, stR_I, stR_L, stA_C, stA_N, stA_Z, stA_S, stA_L, stA_R, stI_I, stL_L, stR_R, stA_I, stN_C, stN_N, stN_Z, stN_S, stN_I, stN_L, stN_R, stI_ne, stL_ne, stR_ne, hM4.all, xin, p7, c7, l7, ← hG5, ne10, ne10L, ne01, ne01L, tt_imp, nt_imp, ff_imp, nf_imp, true_and, and_true, true_or, or_true, reduceIte]
      refine ro_196 (b := b) (len := len) (J0 := J0) (q0 := q0) (A := A) hn f05 ?_
      rw [eR]
      cases hn0 : nuO b len (nxB b len p) with
      | none =>
        rw [hn0] at hx5
        refine Or.inl ⟨nxB b len p, _, _, _, rfl, hx5⟩
      | some w =>
        rw [hn0] at hx5 hv
        dsimp only
        by_cases qw : 1 ≤ w ∧ w ≤ 20
        · have eb : nuB (some w) 1 20 = true := decide_eq_true qw
          rw [eb] at hx5 hv
          obtain ⟨n', hn', hv⟩ := hv rfl
          cases hn'
          rw [if_pos qw]
          exact Or.inr ⟨nxB b len (nxB b len p), c, J, q, kd, sm, wt, w, hOS G5 _ (fun j hj => by rw [A5, up_ne (by omega), up_ne (by omega)]) m5 hx5, by rw [A5, up_eq, hv], qw.1, qw.2, rfl⟩
        · have eb : nuB (some w) 1 20 = false := decide_eq_false qw
          rw [eb] at hx5
          rw [if_neg qw]
          exact Or.inl ⟨nxB b len p, _, _, _, rfl, hx5⟩
def WOz (n : Nat) : Nat → Nat → Bool := fun a k => a == 103 && decide (8 * n ≤ k)
theorem WOz_WOd {n : Nat} (a k : Nat) (h : WOd a k = false) : WOz n a k = false := by
  unfold WOd at h
  unfold WOz
  rw [h]
  rfl
theorem ro_130 {b : Nat → Nat} {len n p c q : Nat} {J : Nat → Nat × Nat} {A : Nat → Int32} {G0 G : XH} (hn : n < 12) (fr : Fr WRq G0 G) {sm : SF} {x1 x3 : Int32} {J0 : Nat → Nat × Nat} {q0 p1 : Nat} {X : XK} (hX : X = (xAld 0 (xGetI 11 19 (xif_ne k_Mdl_readOrder_148 (xAld 0 (xL 763528 (xCallV 11 1 D_Mdl_isWord (xif_eq k_Mdl_readOrder_148 (xAld 0 (xCallV 11 0 D_Mdl_next (xAld 0 (xIld 2 (xI 3 (xiadd (xCallV 11 1 D_Mdl_readSum k_Mdl_readOrder_148))))))))))))))) (hm : OSm b len n J0 q0 A G p c J q 5 sm none) {R : Except Nat (Nat × Nat × CLd)} (hR : R = gTail b len true (gHandB b len p c sm)) : WP X [some (.ref 70), some (.int x1), some (.int (nI (8 * n))), some (.int x3)] [] G (fun z => z.1 = none ∧ Fr WRq G0 z.2 ∧ ROr b len n J0 q0 A R z.2) := by
  have hmm := hm.1
  have hM := hmm.1.1
  have e3 : nI (8 * n) + 3 = nI (8 * n + 3) := nI_add _ 3
  have b19 : hpI G 70 19 = 0 := hmm.2.2.2.1
  have si : ∀ Q, SP D_Mdl_isWord [.ref 70, .long 763528] G Q = Q (some (.int (if isW b len wWith p then 1 else 0)), G) := fun Q => s_isWord hmm.1 wk_with (by decide) Q
  have eR : gHandB b len p c sm = if isW b len wWith p then (match gSum b len true 8 (nxB b len p) c with
    | .error e => .error e
    | .ok s => gTimes b len s.1 s.2.1 5 sm (some s.2.2)) else gTimes b len p c 5 sm none := rfl
  rw [hX]
  cases qi : isW b len wWith p with
  | false =>
    rw [qi] at eR
    have := ro_148 (b := b) (len := len) (J0 := J0) (q0 := q0) (A := A) (R := R) (x1 := x1) (x3 := x3) hn fr (Or.inr ⟨p, c, J, q, 5, sm, none, hm, by rw [hR, eR]; rfl⟩)
    simp only [w_iadd, w_isub, w_imul, w_iand, w_ior, w_ixor, w_ishl, w_ishr, w_iushr, w_idiv, w_irem, w_ineg, w_ladd, w_lsub, w_lmul, w_ldiv, w_lrem, w_i2l, w_l2i, w_i2c, w_lcmp, w_dup_int, w_pop_int, w_dup_ref, w_pop_ref, w_dup_retAddr, w_pop_retAddr, w_dup2, w_I, w_L, w_Null, w_Ild, w_Lld, w_Ald, w_Ist, w_Lst, w_Ast, w_Iinc, w_if_eq, w_icmp_eq, w_if_ne, w_icmp_ne, w_if_lt, w_icmp_lt, w_if_ge, w_icmp_ge, w_if_gt, w_icmp_gt, w_if_le, w_icmp_le, w_GetI, w_GetL, w_GetR, w_PutI, w_PutZ, w_PutL, w_PutR, w_PutN, w_Iald, w_Zald, w_Lald, w_Aald, w_Iast, w_Zast, w_Last, w_AastR, w_AastN, w_Alen, w_New, w_NewA, w_Mna, w_Iret, w_Zret, w_Cret, w_Bret, w_Lret, w_AretR, w_AretN, w_Vret, w_Obj, w_IfNN, w_IfNR, w_Copy, w_Cln, w_Cast, w_SfA, w_SfI, w_SfQ, w_Str, w_ScLd, w_ScLen, w_CV0, w_CS0, w_CV1, w_CS1, w_CV2, w_CS2, w_CV3, w_CS3, w_CV4, w_CS4, w_CV5, w_CS5, List.getElem?_cons_zero, List.getElem?_cons_succ, List.set_cons_zero, List.set_cons_succ, List.length_cons, List.length_nil, List.map_cons, List.map_nil, List.sum_cons, List.sum_nil, List.nil_append, List.cons_append, Option.toList_some, Option.toList_none, Value.category, xok, va_rf, true_and, and_true, and_self, Nat.reduceAdd, Nat.reduceLT, Nat.reduceLeDiff, Nat.reduceEqDiff, Nat.reduceMul, beq_self_eq_true, decide_true, ite_true, ite_false, if_true, if_false, reduceIte, Bool.true_eq_false, Bool.false_eq_true, eq_self_iff_true, Nat.zero_le, not_true_eq_false, not_false_eq_true, forall_const, false_implies, implies_true, forall_false, hM.all, b19, si, qi, reduceIte, Bool.false_eq_true, ne10, ne10L, ne01, ne01L, tt_imp, nt_imp, ff_imp, nf_imp, true_and, and_true, true_or, or_true, reduceIte]
    exact this
  | true =>
    rw [qi, if_pos rfl] at eR
    have hpl : p < len := isW_lt qi
    have npl := (nxB_le (b := b) (len := len) (p := p)).2 hpl
    simp only [w_iadd, w_isub, w_imul, w_iand, w_ior, w_ixor, w_ishl, w_ishr, w_iushr, w_idiv, w_irem, w_ineg, w_ladd, w_lsub, w_lmul, w_ldiv, w_lrem, w_i2l, w_l2i, w_i2c, w_lcmp, w_dup_int, w_pop_int, w_dup_ref, w_pop_ref, w_dup_retAddr, w_pop_retAddr, w_dup2, w_I, w_L, w_Null, w_Ild, w_Lld, w_Ald, w_Ist, w_Lst, w_Ast, w_Iinc, w_if_eq, w_icmp_eq, w_if_ne, w_icmp_ne, w_if_lt, w_icmp_lt, w_if_ge, w_icmp_ge, w_if_gt, w_icmp_gt, w_if_le, w_icmp_le, w_GetI, w_GetL, w_GetR, w_PutI, w_PutZ, w_PutL, w_PutR, w_PutN, w_Iald, w_Zald, w_Lald, w_Aald, w_Iast, w_Zast, w_Last, w_AastR, w_AastN, w_Alen, w_New, w_NewA, w_Mna, w_Iret, w_Zret, w_Cret, w_Bret, w_Lret, w_AretR, w_AretN, w_Vret, w_Obj, w_IfNN, w_IfNR, w_Copy, w_Cln, w_Cast, w_SfA, w_SfI, w_SfQ, w_Str, w_ScLd, w_ScLen, w_CV0, w_CS0, w_CV1, w_CS1, w_CV2, w_CS2, w_CV3, w_CS3, w_CV4, w_CS4, w_CV5, w_CS5, List.getElem?_cons_zero, List.getElem?_cons_succ, List.set_cons_zero, List.set_cons_succ, List.length_cons, List.length_nil, List.map_cons, List.map_nil, List.sum_cons, List.sum_nil, List.nil_append, List.cons_append, Option.toList_some, Option.toList_none, Value.category, xok, va_rf, true_and, and_true, and_self, Nat.reduceAdd, Nat.reduceLT, Nat.reduceLeDiff, Nat.reduceEqDiff, Nat.reduceMul, beq_self_eq_true, decide_true, ite_true, ite_false, if_true, if_false, reduceIte, Bool.true_eq_false, Bool.false_eq_true, eq_self_iff_true, Nat.zero_le, not_true_eq_false, not_false_eq_true, forall_const, false_implies, implies_true, forall_false, hM.all, b19, si, qi, reduceIte, ne10, ne10L, ne01, ne01L, tt_imp, nt_imp, ff_imp, nf_imp, true_and, and_true, true_or, or_true, reduceIte]
    refine SP.mono (s_next hmm.1) ?_
    rintro ⟨v2, G2⟩ ⟨rfl, fr2, hl2⟩
    dsimp only at fr2 hl2
    have hm2 := hmm.nx fr2 hl2 (by omega)
    have hM2 := hl2.1
    simp only [Option.toList_none, List.nil_append, w_iadd, w_isub, w_imul, w_iand, w_ior, w_ixor, w_ishl, w_ishr, w_iushr, w_idiv, w_irem, w_ineg, w_ladd, w_lsub, w_lmul, w_ldiv, w_lrem, w_i2l, w_l2i, w_i2c, w_lcmp, w_dup_int, w_pop_int, w_dup_ref, w_pop_ref, w_dup_retAddr, w_pop_retAddr, w_dup2, w_I, w_L, w_Null, w_Ild, w_Lld, w_Ald, w_Ist, w_Lst, w_Ast, w_Iinc, w_if_eq, w_icmp_eq, w_if_ne, w_icmp_ne, w_if_lt, w_icmp_lt, w_if_ge, w_icmp_ge, w_if_gt, w_icmp_gt, w_if_le, w_icmp_le, w_GetI, w_GetL, w_GetR, w_PutI, w_PutZ, w_PutL, w_PutR, w_PutN, w_Iald, w_Zald, w_Lald, w_Aald, w_Iast, w_Zast, w_Last, w_AastR, w_AastN, w_Alen, w_New, w_NewA, w_Mna, w_Iret, w_Zret, w_Cret, w_Bret, w_Lret, w_AretR, w_AretN, w_Vret, w_Obj, w_IfNN, w_IfNR, w_Copy, w_Cln, w_Cast, w_SfA, w_SfI, w_SfQ, w_Str, w_ScLd, w_ScLen, w_CV0, w_CS0, w_CV1, w_CS1, w_CV2, w_CS2, w_CV3, w_CS3, w_CV4, w_CS4, w_CV5, w_CS5, List.getElem?_cons_zero, List.getElem?_cons_succ, List.set_cons_zero, List.set_cons_succ, List.length_cons, List.length_nil, List.map_cons, List.map_nil, List.sum_cons, List.sum_nil, List.nil_append, List.cons_append, Option.toList_some, Option.toList_none, Value.category, xok, va_rf, true_and, and_true, and_self, Nat.reduceAdd, Nat.reduceLT, Nat.reduceLeDiff, Nat.reduceEqDiff, Nat.reduceMul, beq_self_eq_true, decide_true, ite_true, ite_false, if_true, if_false, reduceIte, Bool.true_eq_false, Bool.false_eq_true, eq_self_iff_true, Nat.zero_le, not_true_eq_false, not_false_eq_true, forall_const, false_implies, implies_true, forall_false, hM2.all, e3, ne10, ne10L, ne01, ne01L, tt_imp, nt_imp, ff_imp, nf_imp, true_and, and_true, true_or, or_true, reduceIte]
    refine SP.mono (s_sumAt hm2 (8 * n + 3) (by omega)) ?_
    rintro ⟨v4, G4⟩ ⟨rfl, fr4, hx⟩
    dsimp only at fr4 hx
    simp only [Option.toList_none, List.nil_append]
    have f04 : Fr WRq G0 G4 := fr.trans ((fr2.mono (fun a k y => WNx_WMx a k (WMx_WRo a k y))).trans (fr4.mono WSo_WRo))
    refine ro_148 hn f04 ?_
    unfold MXo at hx
    have hk2 := gSum_ok (b := b) (len := len) (od := true) rfl 8 (nxB b len p) c nxB_le.1
    cases hgt : gSum b len true 8 (nxB b len p) c with
    | error e =>
      rw [hgt] at hx eR
      obtain ⟨c', J', q', hx⟩ := hx
      refine Or.inl ⟨e, c', J', q', by rw [hR, eR]; rfl, hx⟩
    | ok s =>
      rw [hgt] at hx eR hk2
      dsimp only at hk2
      obtain ⟨J', q', hx, hlx, hok, hA4⟩ := hx
      obtain ⟨hmc, hlow, hA, hsw, hnc⟩ := hm
      have A2 : hpI G2 103 = hpI G 103 := fr2.IA _ (fun _ => rfl)
      rw [A2] at hA4
      have hqq := hok.1.1
      obtain ⟨pp1, a1, a2, a3, a4, a5, a6, a7, a8⟩ := hsw
      have e5 : pp1 = q := a5
      subst e5
      have h0 := a3.le
      refine Or.inr ⟨s.1, s.2.1, J', q', 5, sm, some s.2.2, ⟨hx, fun j hj => (hlx j (by omega)).trans (hlow j hj), fun j hj => by rw [hA4, up_ne (by omega), up_ne (by omega)]; exact hA j hj, ⟨pp1, ?_, Or.inl rfl, a3.congr (fun k _ y => hlx k y), fun z => ⟨(a4 z).1, ?_, ?_⟩, ⟨hqq, _, by omega, hok⟩, fun f _ => ⟨?_, ?_⟩, fun z => (by cases z), fun z => by omega⟩, (fr4.I rfl).trans ((fr2.I rfl).trans hnc)⟩, by rw [hR, eR]⟩
      · rw [hA4, up_ne (by omega), up_ne (by omega)]; exact a1
      · rw [hA4, up_ne (by omega), up_ne (by omega)]; exact (a4 z).2.1
      · rw [hA4, up_ne (by omega), up_ne (by omega)]; exact (a4 z).2.2
      · rw [hA4, up_ne (by omega), up_eq]
      · rw [hA4, up_eq]
