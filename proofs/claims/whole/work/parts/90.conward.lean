theorem on_c {g : Int32} (h : In g 30) : (if g - 1 ≤ 0 then 0 else g - 1) = onG g := by
  obtain ⟨n, h1, rfl⟩ := h
  have : ∀ n, n ≤ 30 → (if nI n - 1 ≤ 0 then 0 else nI n - 1) = onG (nI n) := by decide +kernel
  exact this n h1
theorem WU_2 : ∀ k, WU 2 k = false := fun _ => rfl
theorem c_onward {G : XH} {R : Nat → Int32} {T : Nat → (Nat → Int64) → Option Int64} {hl : Bool} (h : CX G 2 R T hl) (hU : CU G) {nr nl c l r : Nat} (hR : RW R nr nl c) (hl1 : l < nl) (hr1 : r < nr) (nu p : Nat) (hnu : nu ≤ 16) (hp16 : p < 16) (hu : hpI G 8 3 = nI nu) (hup : hpI G 8 2 = nI p) : SP D_Post_onward [.ref 0, .int (nI l), .int (nI r)] G (fun q => (¬ onOk R l r → CO G (-3) R q ∧ UnC G q.2) ∧ (onOk R l r → CO G (onG (R (57 + 7 * l))) (onF R l r) q ∧ UKc G q.2 nu p 1)) := by
  have hC := h.1
  have hV := h.2.2.1
  have nr8 := hR.2.1
  have nl12 := hR.2.2.2.1
  have hil := fun Q => c_isLetter hC Q (nI l)
  have hir := fun Q => c_isReader hC Q (nI r)
  have h4 : hpI G 2 4 = nI nr := hV.2.1.trans hR.1
  have h5 : hpI G 2 5 = nI nl := hV.2.2.1.trans hR.2.2.1
  have hin := nI_rg hl1 (show nl < 2147483648 by omega)
  have hin2 := nI_rg hr1 (show nr < 2147483648 by omega)
  have e54 : 54 + nI l = nI (54 + l) := nI_add 54 l
  have e90 : 90 + nI l = nI (90 + l) := nI_add 90 l
  have e114 : 114 + nI l = nI (114 + l) := nI_add 114 l
  have e126 : 126 + nI l = nI (126 + l) := nI_add 126 l
  have p54 : 0 ≤ nI (54 + l) := nI_pos' (by omega)
  have c54 : (nI (54 + l)).toNatClampNeg = 54 + l := nI_clamp (by omega)
  have l54 : 54 + l < 138 := by omega
  have p90 : 0 ≤ nI (90 + l) := nI_pos' (by omega)
  have c90 : (nI (90 + l)).toNatClampNeg = 90 + l := nI_clamp (by omega)
  have l90 : 90 + l < 138 := by omega
  have p114 : 0 ≤ nI (114 + l) := nI_pos' (by omega)
  have c114 : (nI (114 + l)).toNatClampNeg = 114 + l := nI_clamp (by omega)
  have l114 : 114 + l < 138 := by omega
  have p126 : 0 ≤ nI (126 + l) := nI_pos' (by omega)
  have c126 : (nI (126 + l)).toNatClampNeg = 126 + l := nI_clamp (by omega)
  have l126 : 126 + l < 138 := by omega
  have v54 : hpI G 2 (54 + l) = R (57 + 7 * l) := hV.2.2.2.2 l 0 (by omega) (by omega)
  have v90 : hpI G 2 (90 + l) = R (57 + 7 * l + 3) := by rw [show 90 + l = 54 + 12 * 3 + l by omega]; exact hV.2.2.2.2 l 3 (by omega) (by omega)
  have v114 : hpI G 2 (114 + l) = R (57 + 7 * l + 5) := by rw [show 114 + l = 54 + 12 * 5 + l by omega]; exact hV.2.2.2.2 l 5 (by omega) (by omega)
  have v126 : hpI G 2 (126 + l) = R (57 + 7 * l + 6) := by rw [show 126 + l = 54 + 12 * 6 + l by omega]; exact hV.2.2.2.2 l 6 (by omega) (by omega)
  have v1 : hpI G 2 1 = R 6 := hV.1 1 (by omega)
  have hno : ∀ {A : List (Option Value)}, WP k_Post_onward_66 (some (.ref 0) :: A) [] G (fun q => CO G (-3) R q ∧ UnC G q.2) := by
    intro A
    simp only [k_Post_onward_66, w_iadd, w_isub, w_imul, w_iand, w_ior, w_ixor, w_ishl, w_ishr, w_iushr, w_idiv, w_irem, w_ineg, w_ladd, w_lsub, w_lmul, w_ldiv, w_lrem, w_i2l, w_l2i, w_i2c, w_lcmp, w_dup_int, w_pop_int, w_dup_ref, w_pop_ref, w_dup_retAddr, w_pop_retAddr, w_dup2, w_I, w_L, w_Null, w_Ild, w_Lld, w_Ald, w_Ist, w_Lst, w_Ast, w_Iinc, w_if_eq, w_icmp_eq, w_if_ne, w_icmp_ne, w_if_lt, w_icmp_lt, w_if_ge, w_icmp_ge, w_if_gt, w_icmp_gt, w_if_le, w_icmp_le, w_GetI, w_GetL, w_GetR, w_PutI, w_PutZ, w_PutL, w_PutR, w_PutN, w_Iald, w_Zald, w_Lald, w_Aald, w_Iast, w_Zast, w_Last, w_AastR, w_AastN, w_Alen, w_New, w_NewA, w_Mna, w_Iret, w_Zret, w_Cret, w_Bret, w_Lret, w_AretR, w_AretN, w_Vret, w_Obj, w_IfNN, w_IfNR, w_Copy, w_Cln, w_Cast, w_SfA, w_SfI, w_SfQ, w_Str, w_ScLd, w_ScLen, w_CV0, w_CS0, w_CV1, w_CS1, w_CV2, w_CS2, w_CV3, w_CS3, w_CV4, w_CS4, w_CV5, w_CS5, List.getElem?_cons_zero, List.getElem?_cons_succ, List.set_cons_zero, List.set_cons_succ, List.length_cons, List.length_nil, List.map_cons, List.map_nil, List.sum_cons, List.sum_nil, List.nil_append, List.cons_append, Option.toList_some, Option.toList_none, Value.category, xok, va_rf, true_and, and_true, and_self, Nat.reduceAdd, Nat.reduceLT, Nat.reduceLeDiff, Nat.reduceEqDiff, Nat.reduceMul, beq_self_eq_true, decide_true, ite_true, ite_false, if_true, if_false, reduceIte, Bool.true_eq_false, Bool.false_eq_true, eq_self_iff_true, Nat.zero_le, not_true_eq_false, not_false_eq_true, forall_const, false_implies, implies_true, forall_false, hC.all, fun Q => c_refuse_3 hC Q]
    exact ⟨ref_CO (by decide) (by decide) FC.refl hV, unc_r (unc_ww FC.refl)⟩
  obtain ⟨B, hB⟩ : ∃ B, B = k_Post_onward_66 := ⟨_, rfl⟩
  rw [← hB] at hno
  rw [e_Post_onward]
  rw [show k_Post_onward_0 = (xAld 0 (xIld 1 (xCallV 10 1 D_Post_isLetter (xif_eq k_Post_onward_16 (xAld 0 (xIld 2 (xCallV 10 1 D_Post_isReader (xif_ne (xAld 0 (xGetR 10 1 (xI 114 (xIld 1 (xiadd (xIaldh (xif_eq B (xAld 0 (xGetR 10 1 (xI 126 (xIld 1 (xiadd (xIaldh (xAld 0 (xGetR 10 1 (xI 1 (xIaldh (xicmp_lt B (xAld 0 (xGetR 10 1 (xI 90 (xIld 1 (xiadd (xIaldh (xIld 2 (xicmp_ne (xAld 0 (xGetR 10 3 (xI 1 (xAld 0 (xGetR 10 1 (xCallV 1 2 D_Undo_keep k_Post_onward_85)))))) B)))))))))))))))))))))))))) k_Post_onward_16)))))))) by rw [hB]; rfl]
  simp only [w_iadd, w_isub, w_imul, w_iand, w_ior, w_ixor, w_ishl, w_ishr, w_iushr, w_idiv, w_irem, w_ineg, w_ladd, w_lsub, w_lmul, w_ldiv, w_lrem, w_i2l, w_l2i, w_i2c, w_lcmp, w_dup_int, w_pop_int, w_dup_ref, w_pop_ref, w_dup_retAddr, w_pop_retAddr, w_dup2, w_I, w_L, w_Null, w_Ild, w_Lld, w_Ald, w_Ist, w_Lst, w_Ast, w_Iinc, w_if_eq, w_icmp_eq, w_if_ne, w_icmp_ne, w_if_lt, w_icmp_lt, w_if_ge, w_icmp_ge, w_if_gt, w_icmp_gt, w_if_le, w_icmp_le, w_GetI, w_GetL, w_GetR, w_PutI, w_PutZ, w_PutL, w_PutR, w_PutN, w_Iald, w_Zald, w_Lald, w_Aald, w_Iast, w_Zast, w_Last, w_AastR, w_AastN, w_Alen, w_New, w_NewA, w_Mna, w_Iret, w_Zret, w_Cret, w_Bret, w_Lret, w_AretR, w_AretN, w_Vret, w_Obj, w_IfNN, w_IfNR, w_Copy, w_Cln, w_Cast, w_SfA, w_SfI, w_SfQ, w_Str, w_ScLd, w_ScLen, w_CV0, w_CS0, w_CV1, w_CS1, w_CV2, w_CS2, w_CV3, w_CS3, w_CV4, w_CS4, w_CV5, w_CS5, List.getElem?_cons_zero, List.getElem?_cons_succ, List.set_cons_zero, List.set_cons_succ, List.length_cons, List.length_nil, List.map_cons, List.map_nil, List.sum_cons, List.sum_nil, List.nil_append, List.cons_append, Option.toList_some, Option.toList_none, Value.category, xok, va_rf, true_and, and_true, and_self, Nat.reduceAdd, Nat.reduceLT, Nat.reduceLeDiff, Nat.reduceEqDiff, Nat.reduceMul, beq_self_eq_true, decide_true, ite_true, ite_false, if_true, if_false, reduceIte, Bool.true_eq_false, Bool.false_eq_true, eq_self_iff_true, Nat.zero_le, not_true_eq_false, not_false_eq_true, forall_const, false_implies, implies_true, forall_false, stI_C, stI_N, stI_Z, stI_S, stI_L, stI_R, stL_C, stL_N, stL_Z, stL_S, stL_I, stL_R, stR_C, stR_N, stR_Z, stR_S, stR_I, stR_L, stA_C, stA_N, stA_Z, stA_S, stA_L, stA_R, stI_I, stL_L, stR_R, stA_I, stN_C, stN_N, stN_Z, stN_S, stN_I, stN_L, stN_R, stI_ne, stL_ne, stR_ne, tn_0, tn_1, tn_2, tn_3, tn_4, tn_5, tn_6, tn_7, tn_8, tn_9, tn_10, tn_11, tn_12, tn_13, tn_14, tn_15, tn_16, tn_17, tn_18, tn_19, tn_20, tn_21, tn_22, tn_23, tn_24, tn_25, tn_26, tn_27, tn_28, tn_29, tn_30, tn_31, tn_32, tn_33, tn_34, tn_35, tn_36, tn_37, tn_38, tn_39, tn_40, tn_41, tn_42, tn_43, tn_44, tn_45, tn_46, tn_47, tn_48, tn_49, tn_50, tn_51, tn_52, tn_53, tn_54, tn_55, tn_56, tn_57, tn_58, tn_59, tn_60, tn_61, tn_62, tn_63, tn_64, tn_65, tn_66, tn_67, tn_68, tn_69, tn_70, tn_71, tn_72, tn_73, tn_74, tn_75, tn_76, tn_77, tn_78, tn_79, tn_80, tn_81, tn_82, tn_83, tn_84, tn_85, tn_86, tn_87, tn_88, tn_89, tn_90, tn_91, tn_92, tn_93, tn_94, tn_95, tn_96, tn_97, tn_98, tn_99, tn_100, tn_101, tn_102, tn_103, tn_104, tn_105, tn_106, tn_107, tn_108, tn_109, tn_110, tn_111, tn_112, tn_113, tn_114, tn_115, tn_116, tn_117, tn_118, tn_119, tn_120, tn_121, tn_122, tn_123, tn_124, tn_125, tn_126, tn_127, tn_128, tn_129, tn_130, tn_131, tn_132, tn_133, tn_134, tn_135, tn_136, tn_137, tn_138, tn_139, tn_140, tn_141, tn_142, tn_143, tn_144, tn_145, tn_146, tn_147, tn_148, tn_149, tn_150, tn_151, tn_152, tn_153, tn_154, tn_155, tn_156, tn_157, tn_158, tn_159, tn_160, tn_161, tn_162, tn_163, tn_164, tn_165, tn_166, tn_167, tn_168, tn_169, tn_170, tn_171, tn_172, tn_173, tn_174, tn_175, tn_176, tn_177, tn_178, tn_179, tn_180, tn_181, tn_182, tn_183, tn_184, tn_185, tn_186, tn_187, tn_188, tn_189, tn_190, tn_191, tn_192, tn_193, tn_194, tn_195, tn_196, tn_197, tn_198, tn_199, tn_255, tn_256, tn_300, tn_399, tn_400, tn_500, tn_900, tn_999, tn_1000, tn_1001, tn_1024, tn_2048, tn_2176, tn_3536, tn_4095, tn_4096, tn_5580, tn_11160, tn_12345, tn_1103, tn_99999, tn_1000000, tn_1000003, tn_100000000, tn_1000000000, ge0_0, ge0_1, ge0_2, ge0_3, ge0_4, ge0_5, ge0_6, ge0_7, ge0_8, ge0_9, ge0_10, ge0_11, ge0_12, ge0_13, ge0_14, ge0_15, ge0_16, ge0_17, ge0_18, ge0_19, ge0_20, ge0_21, ge0_22, ge0_23, ge0_24, ge0_25, ge0_26, ge0_27, ge0_28, ge0_29, ge0_30, ge0_31, ge0_32, ge0_33, ge0_34, ge0_35, ge0_36, ge0_37, ge0_38, ge0_39, ge0_40, ge0_41, ge0_42, ge0_43, ge0_44, ge0_45, ge0_46, ge0_47, ge0_48, ge0_49, ge0_50, ge0_51, ge0_52, ge0_53, ge0_54, ge0_55, ge0_56, ge0_57, ge0_58, ge0_59, ge0_60, ge0_61, ge0_62, ge0_63, ge0_64, ge0_65, ge0_66, ge0_67, ge0_68, ge0_69, ge0_70, ge0_71, ge0_72, ge0_73, ge0_74, ge0_75, ge0_76, ge0_77, ge0_78, ge0_79, ge0_80, ge0_81, ge0_82, ge0_83, ge0_84, ge0_85, ge0_86, ge0_87, ge0_88, ge0_89, ge0_90, ge0_91, ge0_92, ge0_93, ge0_94, ge0_95, ge0_96, ge0_97, ge0_98, ge0_99, ge0_100, ge0_101, ge0_102, ge0_103, ge0_104, ge0_105, ge0_106, ge0_107, ge0_108, ge0_109, ge0_110, ge0_111, ge0_112, ge0_113, ge0_114, ge0_115, ge0_116, ge0_117, ge0_118, ge0_119, ge0_120, ge0_121, ge0_122, ge0_123, ge0_124, ge0_125, ge0_126, ge0_127, ge0_128, ge0_129, ge0_130, ge0_131, ge0_132, ge0_133, ge0_134, ge0_135, ge0_136, ge0_137, ge0_138, ge0_139, ge0_140, ge0_141, ge0_142, ge0_143, ge0_144, ge0_145, ge0_146, ge0_147, ge0_148, ge0_149, ge0_150, ge0_151, ge0_152, ge0_153, ge0_154, ge0_155, ge0_156, ge0_157, ge0_158, ge0_159, ge0_160, ge0_161, ge0_162, ge0_163, ge0_164, ge0_165, ge0_166, ge0_167, ge0_168, ge0_169, ge0_170, ge0_171, ge0_172, ge0_173, ge0_174, ge0_175, ge0_176, ge0_177, ge0_178, ge0_179, ge0_180, ge0_181, ge0_182, ge0_183, ge0_184, ge0_185, ge0_186, ge0_187, ge0_188, ge0_189, ge0_190, ge0_191, ge0_192, ge0_193, ge0_194, ge0_195, ge0_196, ge0_197, ge0_198, ge0_199, ge0_255, ge0_256, ge0_300, ge0_399, ge0_400, ge0_500, ge0_900, ge0_999, ge0_1000, ge0_1001, ge0_1024, ge0_2048, ge0_2176, ge0_3536, ge0_4095, ge0_4096, ge0_5580, ge0_11160, ge0_12345, ge0_1103, ge0_99999, ge0_1000000, ge0_1000003, ge0_100000000, ge0_1000000000, hC.all, hil, hir, h4, h5, hin, hin2, xin, e90, e114, e126, p90, c90, l90, p114, c114, l114, p126, c126, l126, v90, v114, v126, v1, ne10, ne10L, ne01, ne01L, tt_imp, nt_imp, ff_imp, nf_imp, true_and, and_true, true_or, or_true, reduceIte]
  have hnoX : ∀ {A : List (Option Value)}, ¬ onOk R l r → WP B (some (.ref 0) :: A) [] G (fun q => (¬ onOk R l r → CO G (-3) R q ∧ UnC G q.2) ∧ (onOk R l r → CO G (onG (R (57 + 7 * l))) (onF R l r) q ∧ UKc G q.2 nu p 1)) := fun z => hno.mono (fun q hq => ⟨fun _ => hq, fun z2 => absurd z2 z⟩)
  refine ⟨fun g => hnoX (fun z => z.1 g), fun g1 => ⟨fun g => hnoX (fun z => z.2.1 g), fun g2 => ⟨fun g => hnoX (fun z => z.2.2 g), fun g3 => ?_⟩⟩⟩
  have hok : onOk R l r := ⟨g1, g2, g3⟩
  refine SP.mono (c_keep hC hU h.2.1 1 nu p hnu hp16 hu hup) ?_
  rintro ⟨v, G1⟩ ⟨rfl, hf1, k1, k2, k3, k4, k5⟩
  dsimp only at hf1 k1 k2 k3 k4 k5
  have hC1 := hf1.cs hC
  have r1 : hpI G1 2 = hpI G 2 := hf1.IA _ WU_2
  rw [show G1 = stA G1 2 (hpI G 2) by rw [← r1]; exact stA_same.symm]
  have n1 : (54 + l = 126 + l) = False := eq_false (by omega)
  have n2 : (54 + l = 114 + l) = False := eq_false (by omega)
  have n3 : (54 + l = 90 + l) = False := eq_false (by omega)
  have hgI := (hR.2.2.2.2.2.2.2.2.2 l hl1).1
  have hVf : VW (up (up (up (up (hpI G 2) (54 + l) (onG (R (57 + 7 * l)))) (90 + l) (nI r)) (114 + l) 0) (126 + l) 0) (onF R l r) := (((hV.l (l := l) (f := 0) (by omega) (by omega) _ (by omega) (by omega)).l (l := l) (f := 3) (by omega) (by omega) _ (by omega) (by omega)).l (l := l) (f := 5) (by omega) (by omega) _ (by omega) (by omega)).l (l := l) (f := 6) (by omega) (by omega) _ (by omega) (by omega)
  have hge : 0 ≤ onG (R (57 + 7 * l)) := by
    obtain ⟨m, m1, m2⟩ := onG_In hgI
    rw [m2]
    exact nI_pos' (by omega)
  have hCf : ∀ f, CS (stA G1 2 f) := fun f => CS_stA.mpr hC1
  have hacc := fun f Q => c_accept (hCf f) Q (onG (R (57 + 7 * l)))
  have hff : ∀ f, FC WC G (stA G1 2 f) := fun f => ((hf1.mono WU_WC).wA (fun k q => absurd q (by unfold WC WA; simp))).fc
  simp only [k_Post_onward_85, k_Post_onward_144, w_iadd, w_isub, w_imul, w_iand, w_ior, w_ixor, w_ishl, w_ishr, w_iushr, w_idiv, w_irem, w_ineg, w_ladd, w_lsub, w_lmul, w_ldiv, w_lrem, w_i2l, w_l2i, w_i2c, w_lcmp, w_dup_int, w_pop_int, w_dup_ref, w_pop_ref, w_dup_retAddr, w_pop_retAddr, w_dup2, w_I, w_L, w_Null, w_Ild, w_Lld, w_Ald, w_Ist, w_Lst, w_Ast, w_Iinc, w_if_eq, w_icmp_eq, w_if_ne, w_icmp_ne, w_if_lt, w_icmp_lt, w_if_ge, w_icmp_ge, w_if_gt, w_icmp_gt, w_if_le, w_icmp_le, w_GetI, w_GetL, w_GetR, w_PutI, w_PutZ, w_PutL, w_PutR, w_PutN, w_Iald, w_Zald, w_Lald, w_Aald, w_Iast, w_Zast, w_Last, w_AastR, w_AastN, w_Alen, w_New, w_NewA, w_Mna, w_Iret, w_Zret, w_Cret, w_Bret, w_Lret, w_AretR, w_AretN, w_Vret, w_Obj, w_IfNN, w_IfNR, w_Copy, w_Cln, w_Cast, w_SfA, w_SfI, w_SfQ, w_Str, w_ScLd, w_ScLen, w_CV0, w_CS0, w_CV1, w_CS1, w_CV2, w_CS2, w_CV3, w_CS3, w_CV4, w_CS4, w_CV5, w_CS5, List.getElem?_cons_zero, List.getElem?_cons_succ, List.set_cons_zero, List.set_cons_succ, List.length_cons, List.length_nil, List.map_cons, List.map_nil, List.sum_cons, List.sum_nil, List.nil_append, List.cons_append, Option.toList_some, Option.toList_none, Value.category, xok, va_rf, true_and, and_true, and_self, Nat.reduceAdd, Nat.reduceLT, Nat.reduceLeDiff, Nat.reduceEqDiff, Nat.reduceMul, beq_self_eq_true, decide_true, ite_true, ite_false, if_true, if_false, reduceIte, Bool.true_eq_false, Bool.false_eq_true, eq_self_iff_true, Nat.zero_le, not_true_eq_false, not_false_eq_true, forall_const, false_implies, implies_true, forall_false, stI_C, stI_N, stI_Z, stI_S, stI_L, stI_R, stL_C, stL_N, stL_Z, stL_S, stL_I, stL_R, stR_C, stR_N, stR_Z, stR_S, stR_I, stR_L, stA_C, stA_N, stA_Z, stA_S, stA_L, stA_R, stI_I, stL_L, stR_R, stA_I, stN_C, stN_N, stN_Z, stN_S, stN_I, stN_L, stN_R, stI_ne, stL_ne, stR_ne, tn_0, tn_1, tn_2, tn_3, tn_4, tn_5, tn_6, tn_7, tn_8, tn_9, tn_10, tn_11, tn_12, tn_13, tn_14, tn_15, tn_16, tn_17, tn_18, tn_19, tn_20, tn_21, tn_22, tn_23, tn_24, tn_25, tn_26, tn_27, tn_28, tn_29, tn_30, tn_31, tn_32, tn_33, tn_34, tn_35, tn_36, tn_37, tn_38, tn_39, tn_40, tn_41, tn_42, tn_43, tn_44, tn_45, tn_46, tn_47, tn_48, tn_49, tn_50, tn_51, tn_52, tn_53, tn_54, tn_55, tn_56, tn_57, tn_58, tn_59, tn_60, tn_61, tn_62, tn_63, tn_64, tn_65, tn_66, tn_67, tn_68, tn_69, tn_70, tn_71, tn_72, tn_73, tn_74, tn_75, tn_76, tn_77, tn_78, tn_79, tn_80, tn_81, tn_82, tn_83, tn_84, tn_85, tn_86, tn_87, tn_88, tn_89, tn_90, tn_91, tn_92, tn_93, tn_94, tn_95, tn_96, tn_97, tn_98, tn_99, tn_100, tn_101, tn_102, tn_103, tn_104, tn_105, tn_106, tn_107, tn_108, tn_109, tn_110, tn_111, tn_112, tn_113, tn_114, tn_115, tn_116, tn_117, tn_118, tn_119, tn_120, tn_121, tn_122, tn_123, tn_124, tn_125, tn_126, tn_127, tn_128, tn_129, tn_130, tn_131, tn_132, tn_133, tn_134, tn_135, tn_136, tn_137, tn_138, tn_139, tn_140, tn_141, tn_142, tn_143, tn_144, tn_145, tn_146, tn_147, tn_148, tn_149, tn_150, tn_151, tn_152, tn_153, tn_154, tn_155, tn_156, tn_157, tn_158, tn_159, tn_160, tn_161, tn_162, tn_163, tn_164, tn_165, tn_166, tn_167, tn_168, tn_169, tn_170, tn_171, tn_172, tn_173, tn_174, tn_175, tn_176, tn_177, tn_178, tn_179, tn_180, tn_181, tn_182, tn_183, tn_184, tn_185, tn_186, tn_187, tn_188, tn_189, tn_190, tn_191, tn_192, tn_193, tn_194, tn_195, tn_196, tn_197, tn_198, tn_199, tn_255, tn_256, tn_300, tn_399, tn_400, tn_500, tn_900, tn_999, tn_1000, tn_1001, tn_1024, tn_2048, tn_2176, tn_3536, tn_4095, tn_4096, tn_5580, tn_11160, tn_12345, tn_1103, tn_99999, tn_1000000, tn_1000003, tn_100000000, tn_1000000000, ge0_0, ge0_1, ge0_2, ge0_3, ge0_4, ge0_5, ge0_6, ge0_7, ge0_8, ge0_9, ge0_10, ge0_11, ge0_12, ge0_13, ge0_14, ge0_15, ge0_16, ge0_17, ge0_18, ge0_19, ge0_20, ge0_21, ge0_22, ge0_23, ge0_24, ge0_25, ge0_26, ge0_27, ge0_28, ge0_29, ge0_30, ge0_31, ge0_32, ge0_33, ge0_34, ge0_35, ge0_36, ge0_37, ge0_38, ge0_39, ge0_40, ge0_41, ge0_42, ge0_43, ge0_44, ge0_45, ge0_46, ge0_47, ge0_48, ge0_49, ge0_50, ge0_51, ge0_52, ge0_53, ge0_54, ge0_55, ge0_56, ge0_57, ge0_58, ge0_59, ge0_60, ge0_61, ge0_62, ge0_63, ge0_64, ge0_65, ge0_66, ge0_67, ge0_68, ge0_69, ge0_70, ge0_71, ge0_72, ge0_73, ge0_74, ge0_75, ge0_76, ge0_77, ge0_78, ge0_79, ge0_80, ge0_81, ge0_82, ge0_83, ge0_84, ge0_85, ge0_86, ge0_87, ge0_88, ge0_89, ge0_90, ge0_91, ge0_92, ge0_93, ge0_94, ge0_95, ge0_96, ge0_97, ge0_98, ge0_99, ge0_100, ge0_101, ge0_102, ge0_103, ge0_104, ge0_105, ge0_106, ge0_107, ge0_108, ge0_109, ge0_110, ge0_111, ge0_112, ge0_113, ge0_114, ge0_115, ge0_116, ge0_117, ge0_118, ge0_119, ge0_120, ge0_121, ge0_122, ge0_123, ge0_124, ge0_125, ge0_126, ge0_127, ge0_128, ge0_129, ge0_130, ge0_131, ge0_132, ge0_133, ge0_134, ge0_135, ge0_136, ge0_137, ge0_138, ge0_139, ge0_140, ge0_141, ge0_142, ge0_143, ge0_144, ge0_145, ge0_146, ge0_147, ge0_148, ge0_149, ge0_150, ge0_151, ge0_152, ge0_153, ge0_154, ge0_155, ge0_156, ge0_157, ge0_158, ge0_159, ge0_160, ge0_161, ge0_162, ge0_163, ge0_164, ge0_165, ge0_166, ge0_167, ge0_168, ge0_169, ge0_170, ge0_171, ge0_172, ge0_173, ge0_174, ge0_175, ge0_176, ge0_177, ge0_178, ge0_179, ge0_180, ge0_181, ge0_182, ge0_183, ge0_184, ge0_185, ge0_186, ge0_187, ge0_188, ge0_189, ge0_190, ge0_191, ge0_192, ge0_193, ge0_194, ge0_195, ge0_196, ge0_197, ge0_198, ge0_199, ge0_255, ge0_256, ge0_300, ge0_399, ge0_400, ge0_500, ge0_900, ge0_999, ge0_1000, ge0_1001, ge0_1024, ge0_2048, ge0_2176, ge0_3536, ge0_4095, ge0_4096, ge0_5580, ge0_11160, ge0_12345, ge0_1103, ge0_99999, ge0_1000000, ge0_1000003, ge0_100000000, ge0_1000000000, hC1.all, hpI_stA, stI_stU, xin, e54, e90, e114, e126, p54, c54, l54, p90, c90, l90, p114, c114, l114, p126, c126, l126, v54, c_max, on_c hgI, up_ne, up_eq, n1, n2, n3, hacc, ne10, ne10L, ne01, ne01L, tt_imp, nt_imp, ff_imp, nf_imp, true_and, and_true, true_or, or_true, reduceIte]
  refine ⟨fun z => absurd hok z, fun _ => ⟨acc_CO hge (hff _) (by rw [hpI_stA]; exact hVf), ukc_s ?_ hp16⟩⟩
  refine ⟨fun j hj => ?_, fun i hi hip => ?_, ?_, ?_, ?_⟩
  · rw [hpI_stA_ne (by omega), k1, cpy_in (by omega)]
    exact congrArg _ (by omega)
  · rw [hpI_stA_ne (by omega)]; exact k2 i hi hip
  · rw [hpI_stA_ne (by decide)]; exact k3
  · rw [hpI_stA_ne (by decide)]; exact k4
  · rw [hpI_stA_ne (by decide)]; exact k5
theorem RW.on {R : Nat → Int32} {nr nl c l r : Nat} (h : RW R nr nl c) (hl1 : l < nl) (hr1 : r < nr) : RW (onF R l r) nr nl c := by
  obtain ⟨a1, a2, a3, a4, a5, a6, a7, a8, a9, a10⟩ := h
  have ot : ∀ j, ¬ (57 + 7 * l ≤ j ∧ j < 64 + 7 * l) → onF R l r j = R j := by
    intro j hj
    unfold onF
    rw [up_ne (by omega), up_ne (by omega), up_ne (by omega), up_ne (by omega)]
  refine ⟨?_, a2, ?_, a4, ?_, ?_, ?_, ?_, fun q hq => ?_, fun q hq => ?_⟩
  · rw [ot 1 (by omega)]; exact a1
  · rw [ot 2 (by omega)]; exact a3
  · rw [ot 5 (by omega)]; exact a5
  · rw [ot 6 (by omega)]; exact a6
  · rw [ot 7 (by omega)]; exact a7
  · rw [ot 8 (by omega)]; exact a8
  · rw [ot (9 + 6 * q) (by omega), ot (10 + 6 * q) (by omega), ot (11 + 6 * q) (by omega), ot (12 + 6 * q) (by omega), ot (13 + 6 * q) (by omega), ot (14 + 6 * q) (by omega)]
    exact a9 q hq
  · by_cases z : q = l
    · subst z
      obtain ⟨b1, b2, b3, b4, b5, b6, b7⟩ := a10 q hq
      have f0 : onF R q r (57 + 7 * q) = onG (R (57 + 7 * q)) := by unfold onF; rw [up_ne (by omega), up_ne (by omega), up_ne (by omega), up_eq]
      have f1 : onF R q r (58 + 7 * q) = R (58 + 7 * q) := by unfold onF; rw [up_ne (by omega), up_ne (by omega), up_ne (by omega), up_ne (by omega)]
      have f2 : onF R q r (59 + 7 * q) = R (59 + 7 * q) := by unfold onF; rw [up_ne (by omega), up_ne (by omega), up_ne (by omega), up_ne (by omega)]
      have f3 : onF R q r (60 + 7 * q) = nI r := by rw [show 60 + 7 * q = 57 + 7 * q + 3 by omega]; unfold onF; rw [up_ne (by omega), up_ne (by omega), up_eq]
      have f4 : onF R q r (61 + 7 * q) = R (61 + 7 * q) := by unfold onF; rw [up_ne (by omega), up_ne (by omega), up_ne (by omega), up_ne (by omega)]
      have f5 : onF R q r (62 + 7 * q) = 0 := by rw [show 62 + 7 * q = 57 + 7 * q + 5 by omega]; unfold onF; rw [up_ne (by omega), up_eq]
      have f6 : onF R q r (63 + 7 * q) = 0 := by rw [show 63 + 7 * q = 57 + 7 * q + 6 by omega]; unfold onF; rw [up_eq]
      rw [f0, f1, f2, f3, f4, f5, f6]
      exact ⟨onG_In b1, b2, b3, ⟨r, hr1, rfl⟩, b5, In_0, In_0⟩
    · rw [ot (57 + 7 * q) (by omega), ot (58 + 7 * q) (by omega), ot (59 + 7 * q) (by omega), ot (60 + 7 * q) (by omega), ot (61 + 7 * q) (by omega), ot (62 + 7 * q) (by omega), ot (63 + 7 * q) (by omega)]
      exact a10 q hq
theorem onF_SL {R : Nat → Int32} {l r : Nat} (h : l < 12) : SL R (onF R l r) := (((SL.refl.up (by omega)).up (by omega)).up (by omega)).up (by omega)
