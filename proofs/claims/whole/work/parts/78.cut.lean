/-- a set that parts a town from town 0 -/
def uN (A B : Nat → Nat) (n t s : Nat) : Bool := !(lvN A B (fun j => s.testBit j) n 7).testBit t
/-- the fewest so far -/
def mcN (A B : Nat → Nat) (n t : Nat) : Nat → Option Nat
  | 0 => none
  | s + 1 => if uN A B n t s = true ∧ (∀ b, mcN A B n t s = some b → popN s 12 < popN b 12) then some s else mcN A B n t s
theorem mcN_lt {A B : Nat → Nat} {n t b : Nat} : ∀ s, mcN A B n t s = some b → b < s
  | 0, h => by cases h
  | s + 1, h => by
    rw [mcN] at h
    split at h
    · cases h; omega
    · have := mcN_lt s h; omega
def fewI (o : Option Nat) : Int32 := match o with
  | none => FARc
  | some b => nI (popN b 12)
def setI (o : Option Nat) : Int32 := match o with
  | none => 0
  | some b => nI b
theorem few_le {o : Option Nat} {s : Nat} : (fewI o ≤ nI (popN s 12)) = ¬ (∀ b, o = some b → popN s 12 < popN b 12) := by
  have hs := popN_le s 12
  apply propext
  cases o with
  | none =>
    have k : ∀ j, j ≤ 12 → ¬ FARc ≤ nI j := by decide +kernel
    constructor
    · exact fun h => absurd h (k _ hs)
    · exact fun h => absurd (fun b hb => by cases hb) h
  | some b =>
    have hb := popN_le b 12
    constructor
    · intro h q
      have := (nI_leI (by omega) (by omega)).mp h
      have := q b rfl
      omega
    · intro h
      refine nI_le ?_ (by omega)
      rcases Nat.lt_or_ge (popN s 12) (popN b 12) with z | z
      · exact absurd (fun b' hb' => by cases hb'; exact z) h
      · exact z
theorem fwP_u {A B : Nat → Nat} {n t s : Nat} : (fwP A B (fun j => s.testBit j) n 8 t = FARc) = (uN A B n t s = true) := by
  unfold uN
  rw [← dN_lv]
  unfold fwP
  cases h : dN A B (fun j => s.testBit j) n 8 t with
  | none => simp
  | some j =>
    have := (dsN_some 8 h).1
    simp [FAR_ne (show j ≤ 8 by omega)]
theorem s_cut {G : XH} (hM : MS G) {n nr : Nat} {A B : Nat → Nat} (hR : MRd (hpI G 72) n A B) (r tn : Nat) (hr : r < nr) (hnr : nr ≤ 8) (h1 : hpI G 72 1 = nI nr) (ht : tn < 8) (ht0 : ¬ tn = 0) (h2 : hpI G 72 (10 + 6 * r) = nI tn) (w : Int32) (hw : 0 ≤ w ∧ w ≤ 1) : SP D_Mdl_cut [.ref 70, .int (nI r), .int w] G (fun q => q.1 = some (.int (if w = 0 then fewI (mcN A B n tn (2 ^ n)) else setI (mcN A B n tn (2 ^ n)))) ∧ Fr WF (stI G 70 0 0) q.2) := by
  rw [e_Mdl_cut]
  have n12 := hR.1
  have hM0 : MS (stI G 70 0 0) := hM
  have hir := fun Q => s_isReader (G := stI G 70 0 0) hM0 Q (nI r)
  have hin := nI_rg hr (by omega)
  have e1 : 9 + 6 * nI r + 1 = nI (10 + 6 * r) := by rw [cI_9, cI_6, cI_1, nI_mul, nI_add, nI_add]; congr 1; omega
  have p1 : 0 ≤ nI (10 + 6 * r) := nI_pos' (by omega)
  have c1 : (nI (10 + 6 * r)).toNatClampNeg = 10 + 6 * r := nI_clamp (by omega)
  have l1 : 10 + 6 * r < 5580 := by omega
  have p2 : 0 ≤ nI (tn) := nI_pos' (by omega)
  have c2 : (nI (tn)).toNatClampNeg = tn := nI_clamp (by omega)
  have l2 : tn < 8 := by omega
  have e0 : (nI tn = 0) = False := by rw [show (0 : Int32) = nI 0 from rfl, nI8 (by omega) (by omega)]; exact eq_false ht0
  obtain ⟨c, hc, hk⟩ : ∃ c : Int32, c = FARc ∧ k_Mdl_cut_0 = (xAld 0 (xI 0 (xPutI 11 0 (xAld 0 (xIld 1 (xCallV 11 1 D_Mdl_isReader (xif_eq k_Mdl_cut_32 (xAld 0 (xIld 1 (xI 1 (xCallV 11 2 D_Mdl_ofReader (xif_eq k_Mdl_cut_32 (xIld 2 (xi2l (xL 0 (xL 1 (xCallS 3 D_Mdl_in (xif_ne (xI c (xIst 3 (xI 0 (xIst 4 (xI 0 (xIst 5 k_Mdl_cut_44)))))) k_Mdl_cut_32)))))))))))))))))) := ⟨_, rfl, rfl⟩
  rw [hk]
  simp only [e_Mdl_ofReader, k_Mdl_ofReader_0, w_iadd, w_isub, w_imul, w_iand, w_ior, w_ixor, w_ishl, w_ishr, w_iushr, w_idiv, w_irem, w_ineg, w_ladd, w_lsub, w_lmul, w_ldiv, w_lrem, w_i2l, w_l2i, w_i2c, w_lcmp, w_dup_int, w_pop_int, w_dup_ref, w_pop_ref, w_dup_retAddr, w_pop_retAddr, w_dup2, w_I, w_L, w_Null, w_Ild, w_Lld, w_Ald, w_Ist, w_Lst, w_Ast, w_Iinc, w_if_eq, w_icmp_eq, w_if_ne, w_icmp_ne, w_if_lt, w_icmp_lt, w_if_ge, w_icmp_ge, w_if_gt, w_icmp_gt, w_if_le, w_icmp_le, w_GetI, w_GetL, w_GetR, w_PutI, w_PutZ, w_PutL, w_PutR, w_PutN, w_Iald, w_Zald, w_Lald, w_Aald, w_Iast, w_Zast, w_Last, w_AastR, w_AastN, w_Alen, w_New, w_NewA, w_Mna, w_Iret, w_Zret, w_Cret, w_Bret, w_Lret, w_AretR, w_AretN, w_Vret, w_Obj, w_IfNN, w_IfNR, w_Copy, w_Cln, w_Cast, w_SfA, w_SfI, w_SfQ, w_Str, w_ScLd, w_ScLen, w_CV0, w_CS0, w_CV1, w_CS1, w_CV2, w_CS2, w_CV3, w_CS3, w_CV4, w_CS4, w_CV5, w_CS5, List.getElem?_cons_zero, List.getElem?_cons_succ, List.set_cons_zero, List.set_cons_succ, List.length_cons, List.length_nil, List.map_cons, List.map_nil, List.sum_cons, List.sum_nil, List.nil_append, List.cons_append, Option.toList_some, Option.toList_none, Value.category, xok, va_rf, true_and, and_true, and_self, Nat.reduceAdd, Nat.reduceLT, Nat.reduceLeDiff, Nat.reduceEqDiff, Nat.reduceMul, beq_self_eq_true, decide_true, ite_true, ite_false, if_true, if_false, reduceIte, Bool.true_eq_false, Bool.false_eq_true, eq_self_iff_true, Nat.zero_le, not_true_eq_false, not_false_eq_true, forall_const, false_implies, implies_true, forall_false, stI_C, stI_N, stI_Z, stI_S, stI_L, stI_R, stL_C, stL_N, stL_Z, stL_S, stL_I, stL_R, stR_C, stR_N, stR_Z, stR_S, stR_I, stR_L, stA_C, stA_N, stA_Z, stA_S, stA_L, stA_R, stI_I, stL_L, stR_R, stA_I, stN_C, stN_N, stN_Z, stN_S, stN_I, stN_L, stN_R, stI_ne, stL_ne, stR_ne, l64_0, g64_0, l64_1, g64_1, l64_2, g64_2, l64_3, g64_3, l64_6, g64_6, l64_7, g64_7, l64_9, g64_9, l64_11, g64_11, l64_12, g64_12, l64_20, g64_20, l64_30, g64_30, l64_50, g64_50, l64_60, g64_60, l64_99, g64_99, l64_999, g64_999, l64_1000, g64_1000, l64_99999, g64_99999, l64_1000000, g64_1000000, l64_1000000000, g64_1000000000, g64_m1, t64_le, t64_lt, t64_eq, t64_pred, ite10, ite11, em01, hM.all, hir, h1, hin, xin, e1, p1, c1, l1, p2, c2, l2, h2, e0, s_in, hw, ne10, ne10L, ne01, ne01L, tt_imp, nt_imp, ff_imp, nf_imp, true_and, and_true, true_or, or_true, reduceIte]
  unfold k_Mdl_cut_44
  have p12 : 2 ^ n ≤ 4096 := Nat.pow_le_pow_right (n := 2) (by decide) n12
  refine w_loop (fun mm A' st G' => ∃ s, s ≤ 2 ^ n ∧ mm = 2 ^ n - s ∧ A' = [some (.ref 70), some (.int (nI r)), some (.int w), some (.int (fewI (mcN A B n tn s))), some (.int (setI (mcN A B n tn s))), some (.int (nI s))] ∧ st = [] ∧ ∃ f, G' = stA (stI G 70 0 0) 91 f) ?_ NF (2 ^ n) _ _ _ (Nat.lt_of_le_of_lt p12 (by decide)) ⟨0, Nat.zero_le _, rfl, by rw [hc]; rfl, rfl, hpI (stI G 70 0 0) 91, stA_same.symm⟩
  rintro mm A' st G' K ⟨s, hs, rfl, rfl, rfl, f, rfl⟩ ih
  have hfr : ∀ f, Fr WF (stI G 70 0 0) (stA (stI G 70 0 0) 91 f) := fun f => Fr.refl.wA (fun k q => absurd q (by simp [WF]))
  obtain ⟨c', hc', hk'⟩ : ∃ c : Int32, c = FARc ∧ f_Mdl_cut_44 K = (xIld 5 (xI 1 (xAld 0 (xGetR 11 3 (xI 0 (xIaldh (xishl (xicmp_ge (xIld 2 (xif_ne (xIld 4 k_Mdl_cut_115) (xIld 3 k_Mdl_cut_115))) (xIld 5 (xCallS 1 D_Mdl_ones (xIld 3 (xicmp_ge (k_Mdl_cut_99 K) (xAld 0 (xIld 5 (xCallV 11 1 D_Mdl_findWays (xAld 0 (xGetR 11 44 (xAld 0 (xIld 1 (xI 1 (xCallV 11 2 D_Mdl_ofReader (xIaldh (xI c (xicmp_ne (k_Mdl_cut_99 K) (xIld 5 (xCallS 1 D_Mdl_ones (xIst 3 (xIld 5 (xIst 4 (k_Mdl_cut_99 K)))))))))))))))))))))))))))))) := ⟨_, rfl, rfl⟩
  rw [hk']
  have r0 := hR.2.1
  simp only [k_Mdl_cut_115, w_iadd, w_isub, w_imul, w_iand, w_ior, w_ixor, w_ishl, w_ishr, w_iushr, w_idiv, w_irem, w_ineg, w_ladd, w_lsub, w_lmul, w_ldiv, w_lrem, w_i2l, w_l2i, w_i2c, w_lcmp, w_dup_int, w_pop_int, w_dup_ref, w_pop_ref, w_dup_retAddr, w_pop_retAddr, w_dup2, w_I, w_L, w_Null, w_Ild, w_Lld, w_Ald, w_Ist, w_Lst, w_Ast, w_Iinc, w_if_eq, w_icmp_eq, w_if_ne, w_icmp_ne, w_if_lt, w_icmp_lt, w_if_ge, w_icmp_ge, w_if_gt, w_icmp_gt, w_if_le, w_icmp_le, w_GetI, w_GetL, w_GetR, w_PutI, w_PutZ, w_PutL, w_PutR, w_PutN, w_Iald, w_Zald, w_Lald, w_Aald, w_Iast, w_Zast, w_Last, w_AastR, w_AastN, w_Alen, w_New, w_NewA, w_Mna, w_Iret, w_Zret, w_Cret, w_Bret, w_Lret, w_AretR, w_AretN, w_Vret, w_Obj, w_IfNN, w_IfNR, w_Copy, w_Cln, w_Cast, w_SfA, w_SfI, w_SfQ, w_Str, w_ScLd, w_ScLen, w_CV0, w_CS0, w_CV1, w_CS1, w_CV2, w_CS2, w_CV3, w_CS3, w_CV4, w_CS4, w_CV5, w_CS5, List.getElem?_cons_zero, List.getElem?_cons_succ, List.set_cons_zero, List.set_cons_succ, List.length_cons, List.length_nil, List.map_cons, List.map_nil, List.sum_cons, List.sum_nil, List.nil_append, List.cons_append, Option.toList_some, Option.toList_none, Value.category, xok, va_rf, true_and, and_true, and_self, Nat.reduceAdd, Nat.reduceLT, Nat.reduceLeDiff, Nat.reduceEqDiff, Nat.reduceMul, beq_self_eq_true, decide_true, ite_true, ite_false, if_true, if_false, reduceIte, Bool.true_eq_false, Bool.false_eq_true, eq_self_iff_true, Nat.zero_le, not_true_eq_false, not_false_eq_true, forall_const, false_implies, implies_true, forall_false, stI_C, stI_N, stI_Z, stI_S, stI_L, stI_R, stL_C, stL_N, stL_Z, stL_S, stL_I, stL_R, stR_C, stR_N, stR_Z, stR_S, stR_I, stR_L, stA_C, stA_N, stA_Z, stA_S, stA_L, stA_R, stI_I, stL_L, stR_R, stA_I, stN_C, stN_N, stN_Z, stN_S, stN_I, stN_L, stN_R, stI_ne, stL_ne, stR_ne, tn_0, tn_1, tn_2, tn_3, tn_4, tn_5, tn_6, tn_7, tn_8, tn_9, tn_10, tn_11, tn_12, tn_13, tn_14, tn_15, tn_16, tn_17, tn_18, tn_19, tn_20, tn_21, tn_22, tn_23, tn_24, tn_25, tn_26, tn_27, tn_28, tn_29, tn_30, tn_31, tn_32, tn_33, tn_34, tn_35, tn_36, tn_37, tn_38, tn_39, tn_40, tn_41, tn_42, tn_43, tn_44, tn_45, tn_46, tn_47, tn_48, tn_49, tn_50, tn_51, tn_52, tn_53, tn_54, tn_55, tn_56, tn_57, tn_58, tn_59, tn_60, tn_61, tn_62, tn_63, tn_64, tn_65, tn_66, tn_67, tn_68, tn_69, tn_70, tn_71, tn_72, tn_73, tn_74, tn_75, tn_76, tn_77, tn_78, tn_79, tn_80, tn_81, tn_82, tn_83, tn_84, tn_85, tn_86, tn_87, tn_88, tn_89, tn_90, tn_91, tn_92, tn_93, tn_94, tn_95, tn_96, tn_97, tn_98, tn_99, tn_100, tn_101, tn_102, tn_103, tn_104, tn_105, tn_106, tn_107, tn_108, tn_109, tn_110, tn_111, tn_112, tn_113, tn_114, tn_115, tn_116, tn_117, tn_118, tn_119, tn_120, tn_121, tn_122, tn_123, tn_124, tn_125, tn_126, tn_127, tn_128, tn_129, tn_130, tn_131, tn_132, tn_133, tn_134, tn_135, tn_136, tn_137, tn_138, tn_139, tn_140, tn_141, tn_142, tn_143, tn_144, tn_145, tn_146, tn_147, tn_148, tn_149, tn_150, tn_151, tn_152, tn_153, tn_154, tn_155, tn_156, tn_157, tn_158, tn_159, tn_160, tn_161, tn_162, tn_163, tn_164, tn_165, tn_166, tn_167, tn_168, tn_169, tn_170, tn_171, tn_172, tn_173, tn_174, tn_175, tn_176, tn_177, tn_178, tn_179, tn_180, tn_181, tn_182, tn_183, tn_184, tn_185, tn_186, tn_187, tn_188, tn_189, tn_190, tn_191, tn_192, tn_193, tn_194, tn_195, tn_196, tn_197, tn_198, tn_199, tn_255, tn_256, tn_300, tn_399, tn_400, tn_500, tn_900, tn_999, tn_1000, tn_1001, tn_1024, tn_2048, tn_2176, tn_3536, tn_4095, tn_4096, tn_5580, tn_11160, tn_12345, tn_1103, tn_99999, tn_1000000, tn_1000003, tn_100000000, tn_1000000000, ge0_0, ge0_1, ge0_2, ge0_3, ge0_4, ge0_5, ge0_6, ge0_7, ge0_8, ge0_9, ge0_10, ge0_11, ge0_12, ge0_13, ge0_14, ge0_15, ge0_16, ge0_17, ge0_18, ge0_19, ge0_20, ge0_21, ge0_22, ge0_23, ge0_24, ge0_25, ge0_26, ge0_27, ge0_28, ge0_29, ge0_30, ge0_31, ge0_32, ge0_33, ge0_34, ge0_35, ge0_36, ge0_37, ge0_38, ge0_39, ge0_40, ge0_41, ge0_42, ge0_43, ge0_44, ge0_45, ge0_46, ge0_47, ge0_48, ge0_49, ge0_50, ge0_51, ge0_52, ge0_53, ge0_54, ge0_55, ge0_56, ge0_57, ge0_58, ge0_59, ge0_60, ge0_61, ge0_62, ge0_63, ge0_64, ge0_65, ge0_66, ge0_67, ge0_68, ge0_69, ge0_70, ge0_71, ge0_72, ge0_73, ge0_74, ge0_75, ge0_76, ge0_77, ge0_78, ge0_79, ge0_80, ge0_81, ge0_82, ge0_83, ge0_84, ge0_85, ge0_86, ge0_87, ge0_88, ge0_89, ge0_90, ge0_91, ge0_92, ge0_93, ge0_94, ge0_95, ge0_96, ge0_97, ge0_98, ge0_99, ge0_100, ge0_101, ge0_102, ge0_103, ge0_104, ge0_105, ge0_106, ge0_107, ge0_108, ge0_109, ge0_110, ge0_111, ge0_112, ge0_113, ge0_114, ge0_115, ge0_116, ge0_117, ge0_118, ge0_119, ge0_120, ge0_121, ge0_122, ge0_123, ge0_124, ge0_125, ge0_126, ge0_127, ge0_128, ge0_129, ge0_130, ge0_131, ge0_132, ge0_133, ge0_134, ge0_135, ge0_136, ge0_137, ge0_138, ge0_139, ge0_140, ge0_141, ge0_142, ge0_143, ge0_144, ge0_145, ge0_146, ge0_147, ge0_148, ge0_149, ge0_150, ge0_151, ge0_152, ge0_153, ge0_154, ge0_155, ge0_156, ge0_157, ge0_158, ge0_159, ge0_160, ge0_161, ge0_162, ge0_163, ge0_164, ge0_165, ge0_166, ge0_167, ge0_168, ge0_169, ge0_170, ge0_171, ge0_172, ge0_173, ge0_174, ge0_175, ge0_176, ge0_177, ge0_178, ge0_179, ge0_180, ge0_181, ge0_182, ge0_183, ge0_184, ge0_185, ge0_186, ge0_187, ge0_188, ge0_189, ge0_190, ge0_191, ge0_192, ge0_193, ge0_194, ge0_195, ge0_196, ge0_197, ge0_198, ge0_199, ge0_255, ge0_256, ge0_300, ge0_399, ge0_400, ge0_500, ge0_900, ge0_999, ge0_1000, ge0_1001, ge0_1024, ge0_2048, ge0_2176, ge0_3536, ge0_4095, ge0_4096, ge0_5580, ge0_11160, ge0_12345, ge0_1103, ge0_99999, ge0_1000000, ge0_1000003, ge0_100000000, ge0_1000000000, hM.all, hpI_stA_ne, xin, r0, nx_shl (show n < 31 by omega), ne10, ne10L, ne01, ne01L, tt_imp, nt_imp, ff_imp, nf_imp, true_and, and_true, true_or, or_true, reduceIte]
  refine ⟨fun g => ?_, fun g => ?_⟩
  · have : s = 2 ^ n := by
      have := (nI_leI (by omega) (by omega)).mp g
      omega
    subst this
    by_cases q : w = 0
    · simp only [q, List.getElem?_cons_zero, List.getElem?_cons_succ, List.set_cons_zero, List.set_cons_succ, List.length_cons, List.length_nil, List.map_cons, List.map_nil, List.sum_cons, List.sum_nil, List.nil_append, List.cons_append, Option.toList_some, Option.toList_none, Value.category, xok, va_rf, true_and, and_true, and_self, Nat.reduceAdd, Nat.reduceLT, Nat.reduceLeDiff, Nat.reduceEqDiff, Nat.reduceMul, beq_self_eq_true, decide_true, ite_true, ite_false, if_true, if_false, reduceIte, Bool.true_eq_false, Bool.false_eq_true, eq_self_iff_true, Nat.zero_le, not_true_eq_false, not_false_eq_true, forall_const, false_implies, implies_true, forall_false, ne10, ne10L, ne01, ne01L, tt_imp, nt_imp, ff_imp, nf_imp, true_and, and_true, true_or, or_true, reduceIte]
      exact hfr f
    · simp only [q, List.getElem?_cons_zero, List.getElem?_cons_succ, List.set_cons_zero, List.set_cons_succ, List.length_cons, List.length_nil, List.map_cons, List.map_nil, List.sum_cons, List.sum_nil, List.nil_append, List.cons_append, Option.toList_some, Option.toList_none, Value.category, xok, va_rf, true_and, and_true, and_self, Nat.reduceAdd, Nat.reduceLT, Nat.reduceLeDiff, Nat.reduceEqDiff, Nat.reduceMul, beq_self_eq_true, decide_true, ite_true, ite_false, if_true, if_false, reduceIte, Bool.true_eq_false, Bool.false_eq_true, eq_self_iff_true, Nat.zero_le, not_true_eq_false, not_false_eq_true, forall_const, false_implies, implies_true, forall_false, ne10, ne10L, ne01, ne01L, tt_imp, nt_imp, ff_imp, nf_imp, true_and, and_true, true_or, or_true, reduceIte]
      exact hfr f
  · have hlt : s < 2 ^ n := by
      rcases Nat.lt_or_ge s (2 ^ n) with z | z
      · exact z
      · exact absurd (nI_le z (by omega)) g
    have hnext : ∀ {f' : Nat → Int32} {v3 v4 : Int32}, v3 = fewI (mcN A B n tn (s + 1)) → v4 = setI (mcN A B n tn (s + 1)) → WP K [some (.ref 70), some (.int (nI r)), some (.int w), some (.int v3), some (.int v4), some (.int (nI s + Int32.ofInt 1))] [] (stA (stI G 70 0 0) 91 f') (fun q => q.1 = some (.int (if w = 0 then fewI (mcN A B n tn (2 ^ n)) else setI (mcN A B n tn (2 ^ n)))) ∧ Fr WF (stI G 70 0 0) q.2) := by
      intro f' v3 v4 hv3 hv4
      exact ih (2 ^ n - (s + 1)) _ _ _ (by omega) ⟨s + 1, by omega, rfl, by rw [show nI s + Int32.ofInt 1 = nI (s + 1) from nI_1 s, hv3, hv4], rfl, f', rfl⟩
    have ho := fun G Q => s_ones s (by omega) G Q
    simp only [ho, w_iadd, w_isub, w_imul, w_iand, w_ior, w_ixor, w_ishl, w_ishr, w_iushr, w_idiv, w_irem, w_ineg, w_ladd, w_lsub, w_lmul, w_ldiv, w_lrem, w_i2l, w_l2i, w_i2c, w_lcmp, w_dup_int, w_pop_int, w_dup_ref, w_pop_ref, w_dup_retAddr, w_pop_retAddr, w_dup2, w_I, w_L, w_Null, w_Ild, w_Lld, w_Ald, w_Ist, w_Lst, w_Ast, w_Iinc, w_if_eq, w_icmp_eq, w_if_ne, w_icmp_ne, w_if_lt, w_icmp_lt, w_if_ge, w_icmp_ge, w_if_gt, w_icmp_gt, w_if_le, w_icmp_le, w_GetI, w_GetL, w_GetR, w_PutI, w_PutZ, w_PutL, w_PutR, w_PutN, w_Iald, w_Zald, w_Lald, w_Aald, w_Iast, w_Zast, w_Last, w_AastR, w_AastN, w_Alen, w_New, w_NewA, w_Mna, w_Iret, w_Zret, w_Cret, w_Bret, w_Lret, w_AretR, w_AretN, w_Vret, w_Obj, w_IfNN, w_IfNR, w_Copy, w_Cln, w_Cast, w_SfA, w_SfI, w_SfQ, w_Str, w_ScLd, w_ScLen, w_CV0, w_CS0, w_CV1, w_CS1, w_CV2, w_CS2, w_CV3, w_CS3, w_CV4, w_CS4, w_CV5, w_CS5, List.getElem?_cons_zero, List.getElem?_cons_succ, List.set_cons_zero, List.set_cons_succ, List.length_cons, List.length_nil, List.map_cons, List.map_nil, List.sum_cons, List.sum_nil, List.nil_append, List.cons_append, Option.toList_some, Option.toList_none, Value.category, xok, va_rf, true_and, and_true, and_self, Nat.reduceAdd, Nat.reduceLT, Nat.reduceLeDiff, Nat.reduceEqDiff, Nat.reduceMul, beq_self_eq_true, decide_true, ite_true, ite_false, if_true, if_false, reduceIte, Bool.true_eq_false, Bool.false_eq_true, eq_self_iff_true, Nat.zero_le, not_true_eq_false, not_false_eq_true, forall_const, false_implies, implies_true, forall_false, few_le, k_Mdl_cut_99]
    refine ⟨fun g2 => ?_, fun g2 => ?_⟩
    · exact hnext (by rw [mcN, if_neg (fun z => g2 z.2)]) (by rw [mcN, if_neg (fun z => g2 z.2)])
    · have g2' := Decidable.not_not.mp g2
      have hM3 : MS (stA (stI G 70 0 0) 91 f) := hM
      refine ⟨by simp only [hM3.all], SP.mono (s_findWays hM3 hR s (by omega)) ?_⟩
      rintro ⟨v, G1⟩ ⟨rfl, f', rfl, hf'⟩
      have hft := hf' tn ht
      have hu := fwP_u (A := A) (B := B) (n := n) (t := tn) (s := s)
      rw [← hc'] at hu
      simp only [stA_stA, e_Mdl_ofReader, k_Mdl_ofReader_0, ho, w_iadd, w_isub, w_imul, w_iand, w_ior, w_ixor, w_ishl, w_ishr, w_iushr, w_idiv, w_irem, w_ineg, w_ladd, w_lsub, w_lmul, w_ldiv, w_lrem, w_i2l, w_l2i, w_i2c, w_lcmp, w_dup_int, w_pop_int, w_dup_ref, w_pop_ref, w_dup_retAddr, w_pop_retAddr, w_dup2, w_I, w_L, w_Null, w_Ild, w_Lld, w_Ald, w_Ist, w_Lst, w_Ast, w_Iinc, w_if_eq, w_icmp_eq, w_if_ne, w_icmp_ne, w_if_lt, w_icmp_lt, w_if_ge, w_icmp_ge, w_if_gt, w_icmp_gt, w_if_le, w_icmp_le, w_GetI, w_GetL, w_GetR, w_PutI, w_PutZ, w_PutL, w_PutR, w_PutN, w_Iald, w_Zald, w_Lald, w_Aald, w_Iast, w_Zast, w_Last, w_AastR, w_AastN, w_Alen, w_New, w_NewA, w_Mna, w_Iret, w_Zret, w_Cret, w_Bret, w_Lret, w_AretR, w_AretN, w_Vret, w_Obj, w_IfNN, w_IfNR, w_Copy, w_Cln, w_Cast, w_SfA, w_SfI, w_SfQ, w_Str, w_ScLd, w_ScLen, w_CV0, w_CS0, w_CV1, w_CS1, w_CV2, w_CS2, w_CV3, w_CS3, w_CV4, w_CS4, w_CV5, w_CS5, List.getElem?_cons_zero, List.getElem?_cons_succ, List.set_cons_zero, List.set_cons_succ, List.length_cons, List.length_nil, List.map_cons, List.map_nil, List.sum_cons, List.sum_nil, List.nil_append, List.cons_append, Option.toList_some, Option.toList_none, Value.category, xok, va_rf, true_and, and_true, and_self, Nat.reduceAdd, Nat.reduceLT, Nat.reduceLeDiff, Nat.reduceEqDiff, Nat.reduceMul, beq_self_eq_true, decide_true, ite_true, ite_false, if_true, if_false, reduceIte, Bool.true_eq_false, Bool.false_eq_true, eq_self_iff_true, Nat.zero_le, not_true_eq_false, not_false_eq_true, forall_const, false_implies, implies_true, forall_false, stI_C, stI_N, stI_Z, stI_S, stI_L, stI_R, stL_C, stL_N, stL_Z, stL_S, stL_I, stL_R, stR_C, stR_N, stR_Z, stR_S, stR_I, stR_L, stA_C, stA_N, stA_Z, stA_S, stA_L, stA_R, stI_I, stL_L, stR_R, stA_I, stN_C, stN_N, stN_Z, stN_S, stN_I, stN_L, stN_R, stI_ne, stL_ne, stR_ne, hM.all, hpI_stA_ne, hpI_stA, xin, e1, p1, c1, l1, p2, c2, l2, h2, hft, hu, ne10, ne10L, ne01, ne01L, tt_imp, nt_imp, ff_imp, nf_imp, true_and, and_true, true_or, or_true, reduceIte]
      refine ⟨fun q => ?_, fun q => ?_⟩
      · exact hnext (by rw [mcN, if_pos ⟨q, g2'⟩]; rfl) (by rw [mcN, if_pos ⟨q, g2'⟩]; rfl)
      · exact hnext (by rw [mcN, if_neg (fun z => q z.1)]) (by rw [mcN, if_neg (fun z => q z.1)])
theorem pop_all : ∀ n, n ≤ 12 → popN (2 ^ n - 1) 12 = n := by decide +kernel
theorem tb_hi {s n k : Nat} (hs : s < 2 ^ n) (hk : n ≤ k) : s.testBit k = false := Nat.testBit_lt_two_pow (Nat.lt_of_lt_of_le hs (Nat.pow_le_pow_right (by decide) hk))
theorem pop_hi {s n : Nat} (hs : s < 2 ^ n) : ∀ d, popN s (n + d) = popN s n
  | 0 => rfl
  | d + 1 => by
    rw [← Nat.add_assoc, popN, tb_hi hs (by omega), pop_hi hs d]
    rfl
theorem pop_full {s : Nat} : ∀ n, popN s n = n → ∀ k, k < n → s.testBit k = true
  | 0, _, k, hk => by omega
  | n + 1, h, k, hk => by
    rw [popN] at h
    have hle := popN_le s n
    have hb : s.testBit n = true := by
      cases hb : s.testBit n
      · rw [hb] at h
        simp at h
        omega
      · rfl
    rw [hb] at h
    simp at h
    rcases Nat.lt_or_ge k n with z | z
    · exact pop_full n h k z
    · rw [show k = n by omega]
      exact hb
theorem pop_lt {s n : Nat} (hn : n ≤ 12) (hs : s < 2 ^ n) : popN s 12 < n ∨ s = 2 ^ n - 1 := by
  have e := pop_hi hs (12 - n)
  rw [show n + (12 - n) = 12 by omega] at e
  rw [e]
  have hle := popN_le s n
  rcases Nat.lt_or_ge (popN s n) n with z | z
  · exact Or.inl z
  · refine Or.inr (Nat.eq_of_testBit_eq fun k => ?_)
    rw [Nat.testBit_two_pow_sub_one]
    rcases Nat.lt_or_ge k n with q | q
    · rw [pop_full n (by omega) k q]
      simp [q]
    · rw [tb_hi hs q]
      simp
      omega
/-- the class's fewest so far -/
def ccN (A B : Nat → Nat) (n t : Nat) : Nat → Nat
  | 0 => 2 ^ n - 1
  | s + 1 => if popN s 12 < popN (ccN A B n t s) 12 ∧ uN A B n t s = true then s else ccN A B n t s
theorem cc_mc {A B : Nat → Nat} {n t : Nat} (hn : n ≤ 12) : ∀ s, s ≤ 2 ^ n → (mcN A B n t s = none ∧ ccN A B n t s = 2 ^ n - 1) ∨ mcN A B n t s = some (ccN A B n t s)
  | 0, _ => Or.inl ⟨rfl, rfl⟩
  | s + 1, h => by
    rcases cc_mc (A := A) (B := B) (t := t) hn s (by omega) with ⟨h1, h2⟩ | h1
    · rw [mcN, ccN, h1, h2, pop_all n hn]
      by_cases hu : uN A B n t s = true
      · rw [if_pos ⟨hu, fun b hb => by cases hb⟩]
        rcases pop_lt hn (show s < 2 ^ n by omega) with z | z
        · rw [if_pos ⟨z, hu⟩]
          exact Or.inr rfl
        · refine Or.inr ?_
          split
          · rfl
          · rw [z]
      · rw [if_neg (fun z => hu z.1), if_neg (fun z => hu z.2)]
        exact Or.inl ⟨rfl, rfl⟩
    · rw [mcN, ccN, h1]
      by_cases hg : popN s 12 < popN (ccN A B n t s) 12 ∧ uN A B n t s = true
      · rw [if_pos ⟨hg.2, fun b hb => by cases hb; exact hg.1⟩, if_pos hg]
        exact Or.inr rfl
      · rw [if_neg (fun z => hg ⟨z.2 _ rfl, z.1⟩), if_neg hg]
        exact Or.inr rfl
theorem u_all {A B : Nat → Nat} {n t : Nat} (ht : t < 8) (h0 : ¬ t = 0) : uN A B n t (2 ^ n - 1) = true := by
  have hsp : ∀ m i, i ≤ n → spN A B (fun j => (2 ^ n - 1).testBit j) m i = m := by
    intro m i
    induction i with
    | zero => intro _; rfl
    | succ i ih =>
      intro hi
      rw [spN, if_neg, ih (by omega)]
      rintro ⟨z, -⟩
      rw [Nat.testBit_two_pow_sub_one] at z
      simp at z
      omega
  have hl : ∀ k, lvN A B (fun j => (2 ^ n - 1).testBit j) n k = 1 := by
    intro k
    induction k with
    | zero => rfl
    | succ k ih => rw [lvN, hsp _ n (Nat.le_refl _), ih]
  unfold uN
  rw [hl]
  have : ∀ t, t < 8 → ¬ t = 0 → (!(1 : Nat).testBit t) = true := by decide
  exact this t ht h0
/-- both find the same -/
theorem cut_same {A B : Nat → Nat} {n t : Nat} (hn : n ≤ 12) (ht : t < 8) (h0 : ¬ t = 0) : mcN A B n t (2 ^ n) = some (ccN A B n t (2 ^ n)) := by
  rcases cc_mc (A := A) (B := B) (t := t) hn (2 ^ n) (Nat.le_refl _) with ⟨h1, h2⟩ | h1
  · exfalso
    have hp : 2 ^ n = (2 ^ n - 1) + 1 := by
      have := Nat.one_le_two_pow (n := n)
      omega
    rw [hp, mcN] at h1
    split at h1
    · cases h1
    · rename_i q
      rw [h1] at q
      exact q ⟨u_all ht h0, fun b hb => by cases hb⟩
  · exact h1
theorem ccN_lt {A B : Nat → Nat} {n t : Nat} : ∀ s, s ≤ 2 ^ n → ccN A B n t s < 2 ^ n
  | 0, _ => by
    have := Nat.one_le_two_pow (n := n)
    show 2 ^ n - 1 < 2 ^ n
    omega
  | s + 1, h => by
    rw [ccN]
    split
    · omega
    · exact ccN_lt s (by omega)
theorem c_fewest {G : XH} (hC : CS G) (Q : XR → Prop) {n : Nat} {A B : Nat → Nat} (hR : CRd G n A B) (t : Nat) (ht : t < 8) : SP D_World_fewestToCut [.ref 1, .int (nI t)] G Q = Q (some (.int (nI (ccN A B n t (2 ^ n)))), G) := by
  refine sp_of ?_ Q
  have n12 := hR.1
  have r1 := hR.2.1
  have p12 : 2 ^ n ≤ 4096 := Nat.pow_le_pow_right (n := 2) (by decide) n12
  have p1 := Nat.one_le_two_pow (n := n)
  rw [e_World_fewestToCut]
  simp only [k_World_fewestToCut_0, w_iadd, w_isub, w_imul, w_iand, w_ior, w_ixor, w_ishl, w_ishr, w_iushr, w_idiv, w_irem, w_ineg, w_ladd, w_lsub, w_lmul, w_ldiv, w_lrem, w_i2l, w_l2i, w_i2c, w_lcmp, w_dup_int, w_pop_int, w_dup_ref, w_pop_ref, w_dup_retAddr, w_pop_retAddr, w_dup2, w_I, w_L, w_Null, w_Ild, w_Lld, w_Ald, w_Ist, w_Lst, w_Ast, w_Iinc, w_if_eq, w_icmp_eq, w_if_ne, w_icmp_ne, w_if_lt, w_icmp_lt, w_if_ge, w_icmp_ge, w_if_gt, w_icmp_gt, w_if_le, w_icmp_le, w_GetI, w_GetL, w_GetR, w_PutI, w_PutZ, w_PutL, w_PutR, w_PutN, w_Iald, w_Zald, w_Lald, w_Aald, w_Iast, w_Zast, w_Last, w_AastR, w_AastN, w_Alen, w_New, w_NewA, w_Mna, w_Iret, w_Zret, w_Cret, w_Bret, w_Lret, w_AretR, w_AretN, w_Vret, w_Obj, w_IfNN, w_IfNR, w_Copy, w_Cln, w_Cast, w_SfA, w_SfI, w_SfQ, w_Str, w_ScLd, w_ScLen, w_CV0, w_CS0, w_CV1, w_CS1, w_CV2, w_CS2, w_CV3, w_CS3, w_CV4, w_CS4, w_CV5, w_CS5, List.getElem?_cons_zero, List.getElem?_cons_succ, List.set_cons_zero, List.set_cons_succ, List.length_cons, List.length_nil, List.map_cons, List.map_nil, List.sum_cons, List.sum_nil, List.nil_append, List.cons_append, Option.toList_some, Option.toList_none, Value.category, xok, va_rf, true_and, and_true, and_self, Nat.reduceAdd, Nat.reduceLT, Nat.reduceLeDiff, Nat.reduceEqDiff, Nat.reduceMul, beq_self_eq_true, decide_true, ite_true, ite_false, if_true, if_false, reduceIte, Bool.true_eq_false, Bool.false_eq_true, eq_self_iff_true, Nat.zero_le, not_true_eq_false, not_false_eq_true, forall_const, false_implies, implies_true, forall_false, hC.all, r1, nx_shl (show n < 31 by omega)]
  rw [show nI (2 ^ n) - 1 = nI (2 ^ n - 1) from nI_sub (a := 2 ^ n) (b := 1) p1]
  unfold k_World_fewestToCut_11
  refine w_loop (fun mm A' st G' => ∃ s, s ≤ 2 ^ n ∧ mm = 2 ^ n - s ∧ A' = [some (.ref 1), some (.int (nI t)), some (.int (nI (ccN A B n t s))), some (.int (nI s))] ∧ st = [] ∧ G' = G) ?_ NF (2 ^ n) _ _ _ (Nat.lt_of_le_of_lt p12 (by decide)) ⟨0, Nat.zero_le _, rfl, rfl, rfl, rfl⟩
  rintro mm A' st G' K ⟨s, hs, rfl, rfl, rfl, rfl⟩ ih
  have hcc := ccN_lt (A := A) (B := B) (n := n) (t := t) s hs
  simp only [f_World_fewestToCut_11, w_iadd, w_isub, w_imul, w_iand, w_ior, w_ixor, w_ishl, w_ishr, w_iushr, w_idiv, w_irem, w_ineg, w_ladd, w_lsub, w_lmul, w_ldiv, w_lrem, w_i2l, w_l2i, w_i2c, w_lcmp, w_dup_int, w_pop_int, w_dup_ref, w_pop_ref, w_dup_retAddr, w_pop_retAddr, w_dup2, w_I, w_L, w_Null, w_Ild, w_Lld, w_Ald, w_Ist, w_Lst, w_Ast, w_Iinc, w_if_eq, w_icmp_eq, w_if_ne, w_icmp_ne, w_if_lt, w_icmp_lt, w_if_ge, w_icmp_ge, w_if_gt, w_icmp_gt, w_if_le, w_icmp_le, w_GetI, w_GetL, w_GetR, w_PutI, w_PutZ, w_PutL, w_PutR, w_PutN, w_Iald, w_Zald, w_Lald, w_Aald, w_Iast, w_Zast, w_Last, w_AastR, w_AastN, w_Alen, w_New, w_NewA, w_Mna, w_Iret, w_Zret, w_Cret, w_Bret, w_Lret, w_AretR, w_AretN, w_Vret, w_Obj, w_IfNN, w_IfNR, w_Copy, w_Cln, w_Cast, w_SfA, w_SfI, w_SfQ, w_Str, w_ScLd, w_ScLen, w_CV0, w_CS0, w_CV1, w_CS1, w_CV2, w_CS2, w_CV3, w_CS3, w_CV4, w_CS4, w_CV5, w_CS5, List.getElem?_cons_zero, List.getElem?_cons_succ, List.set_cons_zero, List.set_cons_succ, List.length_cons, List.length_nil, List.map_cons, List.map_nil, List.sum_cons, List.sum_nil, List.nil_append, List.cons_append, Option.toList_some, Option.toList_none, Value.category, xok, va_rf, true_and, and_true, and_self, Nat.reduceAdd, Nat.reduceLT, Nat.reduceLeDiff, Nat.reduceEqDiff, Nat.reduceMul, beq_self_eq_true, decide_true, ite_true, ite_false, if_true, if_false, reduceIte, Bool.true_eq_false, Bool.false_eq_true, eq_self_iff_true, Nat.zero_le, not_true_eq_false, not_false_eq_true, forall_const, false_implies, implies_true, forall_false, hC.all, r1, nx_shl (show n < 31 by omega)]
  refine ⟨fun g => ?_, fun g => ?_⟩
  · have : s = 2 ^ n := by
      have := (nI_leI (by omega) (by omega)).mp g
      omega
    subst this
    rfl
  · have hlt : s < 2 ^ n := by
      rcases Nat.lt_or_ge s (2 ^ n) with z | z
      · exact z
      · exact absurd (nI_le z (by omega)) g
    have hb1 := fun G Q => c_bitCount s (by omega) G Q
    have hb2 := fun G Q => c_bitCount (ccN A B n t s) (by omega) G Q
    have hre := fun Q => c_reached hC Q hR s (by omega)
    have hl7 := lvN_lt (A := A) (B := B) (ct := fun j => s.testBit j) (n := n) (fun j hj => ⟨(hR.2.2 j hj).1, (hR.2.2 j hj).2.1⟩) 7
    have hnext : ∀ {v : Nat}, v = ccN A B n t (s + 1) → WP K [some (.ref 1), some (.int (nI t)), some (.int (nI v)), some (.int (nI s + Int32.ofInt 1))] [] G' (fun r => r = (some (.int (nI (ccN A B n t (2 ^ n)))), G')) := by
      intro v hv
      subst hv
      exact ih (2 ^ n - (s + 1)) _ _ _ (by omega) ⟨s + 1, by omega, rfl, by rw [show nI s + Int32.ofInt 1 = nI (s + 1) from nI_1 s], rfl, rfl⟩
    have hps := popN_le s 12
    have hpc := popN_le (ccN A B n t s) 12
    have hle : (nI (popN (ccN A B n t s) 12) ≤ nI (popN s 12)) = ¬ popN s 12 < popN (ccN A B n t s) 12 := propext ⟨fun q => by have := (nI_leI (by omega) (by omega)).mp q; omega, fun q => nI_le (by omega) (by omega)⟩
    simp only [hb1, hb2, hre, k_World_fewestToCut_46, w_iadd, w_isub, w_imul, w_iand, w_ior, w_ixor, w_ishl, w_ishr, w_iushr, w_idiv, w_irem, w_ineg, w_ladd, w_lsub, w_lmul, w_ldiv, w_lrem, w_i2l, w_l2i, w_i2c, w_lcmp, w_dup_int, w_pop_int, w_dup_ref, w_pop_ref, w_dup_retAddr, w_pop_retAddr, w_dup2, w_I, w_L, w_Null, w_Ild, w_Lld, w_Ald, w_Ist, w_Lst, w_Ast, w_Iinc, w_if_eq, w_icmp_eq, w_if_ne, w_icmp_ne, w_if_lt, w_icmp_lt, w_if_ge, w_icmp_ge, w_if_gt, w_icmp_gt, w_if_le, w_icmp_le, w_GetI, w_GetL, w_GetR, w_PutI, w_PutZ, w_PutL, w_PutR, w_PutN, w_Iald, w_Zald, w_Lald, w_Aald, w_Iast, w_Zast, w_Last, w_AastR, w_AastN, w_Alen, w_New, w_NewA, w_Mna, w_Iret, w_Zret, w_Cret, w_Bret, w_Lret, w_AretR, w_AretN, w_Vret, w_Obj, w_IfNN, w_IfNR, w_Copy, w_Cln, w_Cast, w_SfA, w_SfI, w_SfQ, w_Str, w_ScLd, w_ScLen, w_CV0, w_CS0, w_CV1, w_CS1, w_CV2, w_CS2, w_CV3, w_CS3, w_CV4, w_CS4, w_CV5, w_CS5, List.getElem?_cons_zero, List.getElem?_cons_succ, List.set_cons_zero, List.set_cons_succ, List.length_cons, List.length_nil, List.map_cons, List.map_nil, List.sum_cons, List.sum_nil, List.nil_append, List.cons_append, Option.toList_some, Option.toList_none, Value.category, xok, va_rf, true_and, and_true, and_self, Nat.reduceAdd, Nat.reduceLT, Nat.reduceLeDiff, Nat.reduceEqDiff, Nat.reduceMul, beq_self_eq_true, decide_true, ite_true, ite_false, if_true, if_false, reduceIte, Bool.true_eq_false, Bool.false_eq_true, eq_self_iff_true, Nat.zero_le, not_true_eq_false, not_false_eq_true, forall_const, false_implies, implies_true, forall_false, hC.all, hle, nx_b1 (Nat.lt_of_lt_of_le hl7 (show 256 ≤ 2147483648 by decide)) (show t < 32 by omega), ite10]
    refine ⟨fun q => hnext (by rw [ccN, if_neg (fun z => q z.1)]), fun q => ⟨fun q2 => hnext ?_, fun q2 => hnext ?_⟩⟩
    · rw [ccN, if_pos ⟨Decidable.not_not.mp q, by unfold uN; simp [q2]⟩]
    · rw [ccN, if_neg]
      rintro ⟨-, z⟩
      unfold uN at z
      simp at z
      exact q2 (by rw [z]; simp)
