/-- what remembering writes -/
def WM : Nat → Nat → Bool := fun a k => a == 75 || a == 76 || (a == 70 && k == 8)
theorem s_rem {G : XH} (hM : MS G) (v : Int32) (n : Nat) (hn : n ≤ 16) (hu : hpI G 70 8 = nI n) : SP D_Mdl_remember [.ref 70, .int v] G (fun r => r.1 = none ∧ Fr WM G r.2 ∧ ((n < 16 ∧ hpI r.2 70 8 = nI (n + 1) ∧ hpI r.2 75 = va_cpy (hpI G 72) (hpI G 75) 5 (136 * n) 136 ∧ hpI r.2 76 = up (hpI G 76) n v) ∨ (n = 16 ∧ hpI r.2 70 8 = nI 16 ∧ hpI r.2 75 = va_cpy (hpI G 72) (xsh (hpI G 75) 136 2040) 5 (136 * 15) 136 ∧ hpI r.2 76 = up (xsh (hpI G 76) 1 15) 15 v))) := by
  rw [s_remember hM _ v n hn hu]
  have hw : ∀ k, WM 75 k = true := fun _ => rfl
  have hw2 : ∀ k, WM 76 k = true := fun _ => rfl
  by_cases h : n = 16
  · rw [if_pos h]
    unfold remH
    refine ⟨rfl, ?_, Or.inr ⟨h, ?_, ?_, ?_⟩⟩
    · exact ((((((Fr.refl.wA (a := 75) (fun k q => absurd q (by rw [hw]; simp))).wA (a := 76) (fun k q => absurd q (by rw [hw2]; simp))).wI rfl).wA (a := 75) (fun k q => absurd q (by rw [hw]; simp))).wI rfl).wI rfl)
    · simp only [stI_C, stI_N, stI_Z, stI_S, stI_L, stI_R, stL_C, stL_N, stL_Z, stL_S, stL_I, stL_R, stR_C, stR_N, stR_Z, stR_S, stR_I, stR_L, stA_C, stA_N, stA_Z, stA_S, stA_L, stA_R, stI_I, stL_L, stR_R, stA_I, stN_C, stN_N, stN_Z, stN_S, stN_I, stN_L, stN_R, stI_ne, stL_ne, stR_ne, List.getElem?_cons_zero, List.getElem?_cons_succ, List.set_cons_zero, List.set_cons_succ, List.length_cons, List.length_nil, List.map_cons, List.map_nil, List.sum_cons, List.sum_nil, List.nil_append, List.cons_append, Option.toList_some, Option.toList_none, Value.category, xok, va_rf, true_and, and_true, and_self, Nat.reduceAdd, Nat.reduceLT, Nat.reduceLeDiff, Nat.reduceEqDiff, Nat.reduceMul, beq_self_eq_true, decide_true, ite_true, ite_false, if_true, if_false, reduceIte, Bool.true_eq_false, Bool.false_eq_true, eq_self_iff_true, Nat.zero_le, not_true_eq_false, not_false_eq_true, forall_const, false_implies, implies_true, forall_false]
    · dsimp only
      rw [stI_up (a := 70), hpI_stA_ne (by decide), stI_up (a := 76), hpI_stA_ne (by decide), hpI_stA]
      rw [stI_up (a := 70), hpI_stA_ne (by decide), hpI_stA_ne (by decide), hpI_stA_ne (by decide), hpI_stA_ne (by decide), hpI_stA_ne (by decide), hpI_stA]
    · dsimp only
      rw [stI_up (a := 70), hpI_stA_ne (by decide), stI_up (a := 76), hpI_stA, hpI_stA_ne (by decide)]
      rw [stI_up (a := 70), hpI_stA_ne (by decide), hpI_stA]
  · rw [if_neg h]
    unfold remH
    refine ⟨rfl, ?_, Or.inl ⟨by omega, ?_, ?_, ?_⟩⟩
    · exact (((Fr.refl.wA (a := 75) (fun k q => absurd q (by rw [hw]; simp))).wI rfl).wI rfl)
    · simp only [stI_C, stI_N, stI_Z, stI_S, stI_L, stI_R, stL_C, stL_N, stL_Z, stL_S, stL_I, stL_R, stR_C, stR_N, stR_Z, stR_S, stR_I, stR_L, stA_C, stA_N, stA_Z, stA_S, stA_L, stA_R, stI_I, stL_L, stR_R, stA_I, stN_C, stN_N, stN_Z, stN_S, stN_I, stN_L, stN_R, stI_ne, stL_ne, stR_ne, List.getElem?_cons_zero, List.getElem?_cons_succ, List.set_cons_zero, List.set_cons_succ, List.length_cons, List.length_nil, List.map_cons, List.map_nil, List.sum_cons, List.sum_nil, List.nil_append, List.cons_append, Option.toList_some, Option.toList_none, Value.category, xok, va_rf, true_and, and_true, and_self, Nat.reduceAdd, Nat.reduceLT, Nat.reduceLeDiff, Nat.reduceEqDiff, Nat.reduceMul, beq_self_eq_true, decide_true, ite_true, ite_false, if_true, if_false, reduceIte, Bool.true_eq_false, Bool.false_eq_true, eq_self_iff_true, Nat.zero_le, not_true_eq_false, not_false_eq_true, forall_const, false_implies, implies_true, forall_false]
    · dsimp only
      rw [stI_up (a := 70), hpI_stA_ne (by decide), stI_up (a := 76), hpI_stA_ne (by decide), hpI_stA]
    · dsimp only
      rw [stI_up (a := 70), hpI_stA_ne (by decide), stI_up (a := 76), hpI_stA, hpI_stA_ne (by decide)]
/-- what keeping writes in the class -/
def WU : Nat → Nat → Bool := fun a _ => a == 8 || (decide (10 ≤ a) && decide (a ≤ 26))
theorem c_keep {G : XH} (hC : CS G) (hU : CU G) {arr : Nat} (hA : SA G arr) (v : Int32) (n p : Nat) (hn : n ≤ 16) (hp : p < 16) (h1 : hpI G 8 3 = nI n) (h2 : hpI G 8 2 = nI p) : SP D_Undo_keep [.ref 8, .int v, .ref arr] G (fun r => r.1 = none ∧ Fr WU G r.2 ∧ hpI r.2 (10 + p) = va_cpy (hpI G arr) (hpI G (10 + p)) 0 0 138 ∧ (∀ i, i < 16 → ¬ i = p → hpI r.2 (10 + i) = hpI G (10 + i)) ∧ hpI r.2 26 = up (hpI G 26) p v ∧ hpI r.2 8 2 = nI ((p + 1) % 16) ∧ hpI r.2 8 3 = nI (if n < 16 then n + 1 else 16)) := by
  obtain ⟨a1, a2, a3⟩ := hA
  obtain ⟨u1, u2, u3⟩ := hU.1 p hp
  have p1 : 0 ≤ nI (p) := nI_pos' (by omega)
  have c1 : (nI (p)).toNatClampNeg = p := nI_clamp (by omega)
  have l1 : p < 16 := by omega
  have q1 : (8 = 10 + p) = False := eq_false (by omega)
  have q2 : (26 = 10 + p) = False := eq_false (by omega)
  have e1 : nI p + 1 = nI (p + 1) := nI_1 p
  have er : nI (p + 1) - nI (p + 1) / 16 * 16 = nI ((p + 1) % 16) := by
    have : ∀ p, p < 16 → nI (p + 1) - nI (p + 1) / 16 * 16 = nI ((p + 1) % 16) := by decide +kernel
    exact this p hp
  have e2 : nI n + 1 = nI (n + 1) := nI_1 n
  have em : (if (16 : Int32) ≤ nI (n + 1) then 16 else nI (n + 1)) = nI (if n < 16 then n + 1 else 16) := by
    have : ∀ n, n ≤ 16 → (if (16 : Int32) ≤ nI (n + 1) then 16 else nI (n + 1)) = nI (if n < 16 then n + 1 else 16) := by decide +kernel
    exact this n hn
  have n16 : ((16 : Int32) = 0) = False := by decide
  rw [e_Undo_keep]
  simp only [k_Undo_keep_0, w_iadd, w_isub, w_imul, w_iand, w_ior, w_ixor, w_ishl, w_ishr, w_iushr, w_idiv, w_irem, w_ineg, w_ladd, w_lsub, w_lmul, w_ldiv, w_lrem, w_i2l, w_l2i, w_i2c, w_lcmp, w_dup_int, w_pop_int, w_dup_ref, w_pop_ref, w_dup_retAddr, w_pop_retAddr, w_dup2, w_I, w_L, w_Null, w_Ild, w_Lld, w_Ald, w_Ist, w_Lst, w_Ast, w_Iinc, w_if_eq, w_icmp_eq, w_if_ne, w_icmp_ne, w_if_lt, w_icmp_lt, w_if_ge, w_icmp_ge, w_if_gt, w_icmp_gt, w_if_le, w_icmp_le, w_GetI, w_GetL, w_GetR, w_PutI, w_PutZ, w_PutL, w_PutR, w_PutN, w_Iald, w_Zald, w_Lald, w_Aald, w_Iast, w_Zast, w_Last, w_AastR, w_AastN, w_Alen, w_New, w_NewA, w_Mna, w_Iret, w_Zret, w_Cret, w_Bret, w_Lret, w_AretR, w_AretN, w_Vret, w_Obj, w_IfNN, w_IfNR, w_Copy, w_Cln, w_Cast, w_SfA, w_SfI, w_SfQ, w_Str, w_ScLd, w_ScLen, w_CV0, w_CS0, w_CV1, w_CS1, w_CV2, w_CS2, w_CV3, w_CS3, w_CV4, w_CS4, w_CV5, w_CS5, List.getElem?_cons_zero, List.getElem?_cons_succ, List.set_cons_zero, List.set_cons_succ, List.length_cons, List.length_nil, List.map_cons, List.map_nil, List.sum_cons, List.sum_nil, List.nil_append, List.cons_append, Option.toList_some, Option.toList_none, Value.category, xok, va_rf, true_and, and_true, and_self, Nat.reduceAdd, Nat.reduceLT, Nat.reduceLeDiff, Nat.reduceEqDiff, Nat.reduceMul, beq_self_eq_true, decide_true, ite_true, ite_false, if_true, if_false, reduceIte, Bool.true_eq_false, Bool.false_eq_true, eq_self_iff_true, Nat.zero_le, not_true_eq_false, not_false_eq_true, forall_const, false_implies, implies_true, forall_false, stI_C, stI_N, stI_Z, stI_S, stI_L, stI_R, stL_C, stL_N, stL_Z, stL_S, stL_I, stL_R, stR_C, stR_N, stR_Z, stR_S, stR_I, stR_L, stA_C, stA_N, stA_Z, stA_S, stA_L, stA_R, stI_I, stL_L, stR_R, stA_I, stN_C, stN_N, stN_Z, stN_S, stN_I, stN_L, stN_R, stI_ne, stL_ne, stR_ne, tn_0, tn_1, tn_2, tn_3, tn_4, tn_5, tn_6, tn_7, tn_8, tn_9, tn_10, tn_11, tn_12, tn_13, tn_14, tn_15, tn_16, tn_17, tn_18, tn_19, tn_20, tn_21, tn_22, tn_23, tn_24, tn_25, tn_26, tn_27, tn_28, tn_29, tn_30, tn_31, tn_32, tn_33, tn_34, tn_35, tn_36, tn_37, tn_38, tn_39, tn_40, tn_41, tn_42, tn_43, tn_44, tn_45, tn_46, tn_47, tn_48, tn_49, tn_50, tn_51, tn_52, tn_53, tn_54, tn_55, tn_56, tn_57, tn_58, tn_59, tn_60, tn_61, tn_62, tn_63, tn_64, tn_65, tn_66, tn_67, tn_68, tn_69, tn_70, tn_71, tn_72, tn_73, tn_74, tn_75, tn_76, tn_77, tn_78, tn_79, tn_80, tn_81, tn_82, tn_83, tn_84, tn_85, tn_86, tn_87, tn_88, tn_89, tn_90, tn_91, tn_92, tn_93, tn_94, tn_95, tn_96, tn_97, tn_98, tn_99, tn_100, tn_101, tn_102, tn_103, tn_104, tn_105, tn_106, tn_107, tn_108, tn_109, tn_110, tn_111, tn_112, tn_113, tn_114, tn_115, tn_116, tn_117, tn_118, tn_119, tn_120, tn_121, tn_122, tn_123, tn_124, tn_125, tn_126, tn_127, tn_128, tn_129, tn_130, tn_131, tn_132, tn_133, tn_134, tn_135, tn_136, tn_137, tn_138, tn_139, tn_140, tn_141, tn_142, tn_143, tn_144, tn_145, tn_146, tn_147, tn_148, tn_149, tn_150, tn_151, tn_152, tn_153, tn_154, tn_155, tn_156, tn_157, tn_158, tn_159, tn_160, tn_161, tn_162, tn_163, tn_164, tn_165, tn_166, tn_167, tn_168, tn_169, tn_170, tn_171, tn_172, tn_173, tn_174, tn_175, tn_176, tn_177, tn_178, tn_179, tn_180, tn_181, tn_182, tn_183, tn_184, tn_185, tn_186, tn_187, tn_188, tn_189, tn_190, tn_191, tn_192, tn_193, tn_194, tn_195, tn_196, tn_197, tn_198, tn_199, tn_255, tn_256, tn_300, tn_399, tn_400, tn_500, tn_900, tn_999, tn_1000, tn_1001, tn_1024, tn_2048, tn_2176, tn_3536, tn_4095, tn_4096, tn_5580, tn_11160, tn_12345, tn_1103, tn_99999, tn_1000000, tn_1000003, tn_100000000, tn_1000000000, ge0_0, ge0_1, ge0_2, ge0_3, ge0_4, ge0_5, ge0_6, ge0_7, ge0_8, ge0_9, ge0_10, ge0_11, ge0_12, ge0_13, ge0_14, ge0_15, ge0_16, ge0_17, ge0_18, ge0_19, ge0_20, ge0_21, ge0_22, ge0_23, ge0_24, ge0_25, ge0_26, ge0_27, ge0_28, ge0_29, ge0_30, ge0_31, ge0_32, ge0_33, ge0_34, ge0_35, ge0_36, ge0_37, ge0_38, ge0_39, ge0_40, ge0_41, ge0_42, ge0_43, ge0_44, ge0_45, ge0_46, ge0_47, ge0_48, ge0_49, ge0_50, ge0_51, ge0_52, ge0_53, ge0_54, ge0_55, ge0_56, ge0_57, ge0_58, ge0_59, ge0_60, ge0_61, ge0_62, ge0_63, ge0_64, ge0_65, ge0_66, ge0_67, ge0_68, ge0_69, ge0_70, ge0_71, ge0_72, ge0_73, ge0_74, ge0_75, ge0_76, ge0_77, ge0_78, ge0_79, ge0_80, ge0_81, ge0_82, ge0_83, ge0_84, ge0_85, ge0_86, ge0_87, ge0_88, ge0_89, ge0_90, ge0_91, ge0_92, ge0_93, ge0_94, ge0_95, ge0_96, ge0_97, ge0_98, ge0_99, ge0_100, ge0_101, ge0_102, ge0_103, ge0_104, ge0_105, ge0_106, ge0_107, ge0_108, ge0_109, ge0_110, ge0_111, ge0_112, ge0_113, ge0_114, ge0_115, ge0_116, ge0_117, ge0_118, ge0_119, ge0_120, ge0_121, ge0_122, ge0_123, ge0_124, ge0_125, ge0_126, ge0_127, ge0_128, ge0_129, ge0_130, ge0_131, ge0_132, ge0_133, ge0_134, ge0_135, ge0_136, ge0_137, ge0_138, ge0_139, ge0_140, ge0_141, ge0_142, ge0_143, ge0_144, ge0_145, ge0_146, ge0_147, ge0_148, ge0_149, ge0_150, ge0_151, ge0_152, ge0_153, ge0_154, ge0_155, ge0_156, ge0_157, ge0_158, ge0_159, ge0_160, ge0_161, ge0_162, ge0_163, ge0_164, ge0_165, ge0_166, ge0_167, ge0_168, ge0_169, ge0_170, ge0_171, ge0_172, ge0_173, ge0_174, ge0_175, ge0_176, ge0_177, ge0_178, ge0_179, ge0_180, ge0_181, ge0_182, ge0_183, ge0_184, ge0_185, ge0_186, ge0_187, ge0_188, ge0_189, ge0_190, ge0_191, ge0_192, ge0_193, ge0_194, ge0_195, ge0_196, ge0_197, ge0_198, ge0_199, ge0_255, ge0_256, ge0_300, ge0_399, ge0_400, ge0_500, ge0_900, ge0_999, ge0_1000, ge0_1001, ge0_1024, ge0_2048, ge0_2176, ge0_3536, ge0_4095, ge0_4096, ge0_5580, ge0_11160, ge0_12345, ge0_1103, ge0_99999, ge0_1000000, ge0_1000003, ge0_100000000, ge0_1000000000, hC.all, h1, h2, a1, a2, u1, u2, u3, xin, p1, c1, l1, hpI_stA_ne, q1, q2, stI_stA_ne, e1, er, e2, n16, c_min, em, or_true, true_or, ne10, ne10L, ne01, ne01L, tt_imp, nt_imp, ff_imp, nf_imp, true_and, and_true, true_or, or_true, reduceIte, Nat.le_refl]
  have w10 : ∀ k, WU (10 + p) k = true := by
    intro k
    unfold WU
    simp only [Bool.or_eq_true, Bool.and_eq_true, decide_eq_true_eq]
    right
    omega
  refine ⟨?_, ?_, ?_⟩
  · exact (((Fr.refl.wI rfl).wI rfl).wI rfl).wA (fun k q => absurd q (by rw [w10]; simp))
  · intro i hi hip
    rw [if_neg (by omega), stI_up (a := 8), hpI_stA_ne (by omega), stI_up (a := 8), hpI_stA_ne (by omega), stI_up (a := 26), hpI_stA_ne (by omega)]
  · rw [stI_up (a := 26), hpI_stA]
