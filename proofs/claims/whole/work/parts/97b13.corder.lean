/-- WTa: what copying of what can be undone writes -/
def WTa : Nat → Nat → Bool := fun a _ => a == 27 || (decide (29 ≤ a) && decide (a ≤ 45))
theorem c_takeA {G : XH} (hC : CS G) (hU : CU G) : SP D_Undo_take [.ref 27, .ref 8] G (fun z => z.1 = none ∧ Fr WTa G z.2 ∧ (∀ i, i < 16 → ∀ j, j < 138 → hpI z.2 (29 + i) j = hpI G (10 + i) j) ∧ (∀ i, i < 16 → hpI z.2 45 i = hpI G 26 i) ∧ hpI z.2 27 2 = hpI G 8 2 ∧ hpI z.2 27 3 = hpI G 8 3) := by
  obtain ⟨P, hP⟩ : ∃ P : XR → Prop, P = (fun z => z.1 = none ∧ Fr WTa G z.2 ∧ (∀ i, i < 16 → ∀ j, j < 138 → hpI z.2 (29 + i) j = hpI G (10 + i) j) ∧ (∀ i, i < 16 → hpI z.2 45 i = hpI G 26 i) ∧ hpI z.2 27 2 = hpI G 8 2 ∧ hpI z.2 27 3 = hpI G 8 3) := ⟨_, rfl⟩
  have wb : ∀ i k, i < 16 → WTa (29 + i) k = true := fun i k hi => by
    unfold WTa
    simp only [Bool.or_eq_true, Bool.and_eq_true, decide_eq_true_eq]
    right
    omega
  have ws : ∀ i k, i < 16 → WTa (10 + i) k = false := fun i k hi => by
    unfold WTa
    simp only [Bool.or_eq_false_iff, Bool.and_eq_false_iff, decide_eq_false_iff_not, beq_eq_false_iff_ne]
    omega
  have hl : ∀ (m k : Nat) (G1 : XH) (N : Nat), k + m = 16 → Fr WTa G G1 → (∀ i, i < k → ∀ j, j < 138 → hpI G1 (29 + i) j = hpI G (10 + i) j) → (∀ i, i < k → hpI G1 45 i = hpI G 26 i) → hpI G1 27 = hpI G 27 → m < N → WP (xloop f_Undo_take_2 N) [some (.ref 27), some (.ref 8), some (.int (nI k))] [] G1 P := by
    intro m
    induction m with
    | zero =>
      intro k G1 N hk f h1 h2 h3 hN
      obtain ⟨N1, rfl⟩ : ∃ N1, N = N1 + 1 := ⟨N - 1, by omega⟩
      have hC1 := f.cs hC
      have e : k = 16 := by omega
      subst e
      have g : (16 ≤ nI 16) = True := eq_true (by decide)
      have q1 : (8 = 27) = False := eq_false (by decide)
      have q2 : (27 = 8) = False := eq_false (by decide)
      have i1 : hpI G1 8 = hpI G 8 := f.IA _ (fun _ => rfl)
      obtain ⟨v2, hv2⟩ : ∃ v2, v2 = hpI G 8 2 := ⟨_, rfl⟩
      obtain ⟨v3, hv3⟩ : ∃ v3, v3 = hpI G 8 3 := ⟨_, rfl⟩
      obtain ⟨G2, hG2⟩ : ∃ G2, G2 = stI G1 27 2 v2 := ⟨_, rfl⟩
      have f2 : Fr WTa G1 G2 := by rw [hG2]; exact Fr.refl.wI rfl
      have hC2 := f2.cs hC1
      have i2 : hpI G2 8 = hpI G 8 := (f2.IA _ (fun _ => rfl)).trans i1
      rw [xloop_s]
      simp only [f_Undo_take_2, w_iadd, w_isub, w_imul, w_iand, w_ior, w_ixor, w_ishl, w_ishr, w_iushr, w_idiv, w_irem, w_ineg, w_ladd, w_lsub, w_lmul, w_ldiv, w_lrem, w_i2l, w_l2i, w_i2c, w_lcmp, w_dup_int, w_pop_int, w_dup_ref, w_pop_ref, w_dup_retAddr, w_pop_retAddr, w_dup2, w_I, w_L, w_Null, w_Ild, w_Lld, w_Ald, w_Ist, w_Lst, w_Ast, w_Iinc, w_if_eq, w_icmp_eq, w_if_ne, w_icmp_ne, w_if_lt, w_icmp_lt, w_if_ge, w_icmp_ge, w_if_gt, w_icmp_gt, w_if_le, w_icmp_le, w_GetI, w_GetL, w_GetR, w_PutI, w_PutZ, w_PutL, w_PutR, w_PutN, w_Iald, w_Zald, w_Lald, w_Aald, w_Iast, w_Zast, w_Last, w_AastR, w_AastN, w_Alen, w_New, w_NewA, w_Mna, w_Iret, w_Zret, w_Cret, w_Bret, w_Lret, w_AretR, w_AretN, w_Vret, w_Obj, w_IfNN, w_IfNR, w_Copy, w_Cln, w_Cast, w_SfA, w_SfI, w_SfQ, w_Str, w_ScLd, w_ScLen, w_CV0, w_CS0, w_CV1, w_CS1, w_CV2, w_CS2, w_CV3, w_CS3, w_CV4, w_CS4, w_CV5, w_CS5, List.getElem?_cons_zero, List.getElem?_cons_succ, List.set_cons_zero, List.set_cons_succ, List.length_cons, List.length_nil, List.map_cons, List.map_nil, List.sum_cons, List.sum_nil, List.nil_append, List.cons_append, Option.toList_some, Option.toList_none, Value.category, xok, va_rf, true_and, and_true, and_self, Nat.reduceAdd, Nat.reduceLT, Nat.reduceLeDiff, Nat.reduceEqDiff, Nat.reduceMul, beq_self_eq_true, decide_true, ite_true, ite_false, if_true, if_false, reduceIte, Bool.true_eq_false, Bool.false_eq_true, eq_self_iff_true, Nat.zero_le, not_true_eq_false, not_false_eq_true, forall_const, false_implies, implies_true, forall_false, hC1.all, g, i1, ← hv2, ← hG2, hC2.all, i2, ← hv3, ne10, ne10L, ne01, ne01L, tt_imp, nt_imp, ff_imp, nf_imp, true_and, and_true, true_or, or_true, reduceIte]
      rw [hP]
      refine ⟨rfl, (f.trans f2).wI rfl, fun i hi j hj => ?_, fun i hi => ?_, ?_, ?_⟩
      · rw [stI_up, hpI_stA_ne (by omega), hG2, stI_up, hpI_stA_ne (by omega)]
        exact h1 i hi j hj
      · rw [stI_up, hpI_stA_ne (by omega), hG2, stI_up, hpI_stA_ne (by omega)]
        exact h2 i hi
      · rw [stI_up, hpI_stA, up_ne (by omega), hG2, stI_up, hpI_stA, up_eq, hv2]
      · rw [stI_up, hpI_stA, up_eq, hv3]
    | succ m ih =>
      intro k G1 N hk f h1 h2 h3 hN
      obtain ⟨N1, rfl⟩ : ∃ N1, N = N1 + 1 := ⟨N - 1, by omega⟩
      have hC1 := f.cs hC
      have g : (16 ≤ nI k) = False := eq_false (by rw [show (16 : Int32) = nI 16 from rfl, nl_le (by omega) (by omega)]; omega)
      have ek : nI k + Int32.ofInt 1 = nI (k + 1) := nI_1 k
      have p1 : 0 ≤ nI (k) := nI_pos' (by omega)
      have c1 : (nI (k)).toNatClampNeg = k := nI_clamp (by omega)
      have l1 : k < 16 := by omega
      have hU1 := CU_fc hU f.fc
      obtain ⟨u1, u2, u3⟩ := hU1.2 k (by omega)
      obtain ⟨s1, s2, s3⟩ := hU1.1 k (by omega)
      obtain ⟨G2, hG2⟩ : ∃ G2, G2 = stA G1 (29 + k) (va_cpy (hpI G1 (10 + k)) (hpI G1 (29 + k)) 0 0 138) := ⟨_, rfl⟩
      have f2 : Fr WTa G1 G2 := by rw [hG2]; exact Fr.refl.wA (fun j q => absurd q (by rw [wb k j (by omega)]; simp))
      have hC2 := f2.cs hC1
      have ik : hpI G2 26 k = hpI G 26 k := (f2.I rfl).trans (f.I rfl)
      obtain ⟨v, hv⟩ : ∃ v, v = hpI G 26 k := ⟨_, rfl⟩
      rw [xloop_s]
      simp only [f_Undo_take_2, w_iadd, w_isub, w_imul, w_iand, w_ior, w_ixor, w_ishl, w_ishr, w_iushr, w_idiv, w_irem, w_ineg, w_ladd, w_lsub, w_lmul, w_ldiv, w_lrem, w_i2l, w_l2i, w_i2c, w_lcmp, w_dup_int, w_pop_int, w_dup_ref, w_pop_ref, w_dup_retAddr, w_pop_retAddr, w_dup2, w_I, w_L, w_Null, w_Ild, w_Lld, w_Ald, w_Ist, w_Lst, w_Ast, w_Iinc, w_if_eq, w_icmp_eq, w_if_ne, w_icmp_ne, w_if_lt, w_icmp_lt, w_if_ge, w_icmp_ge, w_if_gt, w_icmp_gt, w_if_le, w_icmp_le, w_GetI, w_GetL, w_GetR, w_PutI, w_PutZ, w_PutL, w_PutR, w_PutN, w_Iald, w_Zald, w_Lald, w_Aald, w_Iast, w_Zast, w_Last, w_AastR, w_AastN, w_Alen, w_New, w_NewA, w_Mna, w_Iret, w_Zret, w_Cret, w_Bret, w_Lret, w_AretR, w_AretN, w_Vret, w_Obj, w_IfNN, w_IfNR, w_Copy, w_Cln, w_Cast, w_SfA, w_SfI, w_SfQ, w_Str, w_ScLd, w_ScLen, w_CV0, w_CS0, w_CV1, w_CS1, w_CV2, w_CS2, w_CV3, w_CS3, w_CV4, w_CS4, w_CV5, w_CS5, List.getElem?_cons_zero, List.getElem?_cons_succ, List.set_cons_zero, List.set_cons_succ, List.length_cons, List.length_nil, List.map_cons, List.map_nil, List.sum_cons, List.sum_nil, List.nil_append, List.cons_append, Option.toList_some, Option.toList_none, Value.category, xok, va_rf, true_and, and_true, and_self, Nat.reduceAdd, Nat.reduceLT, Nat.reduceLeDiff, Nat.reduceEqDiff, Nat.reduceMul, beq_self_eq_true, decide_true, ite_true, ite_false, if_true, if_false, reduceIte, Bool.true_eq_false, Bool.false_eq_true, eq_self_iff_true, Nat.zero_le, not_true_eq_false, not_false_eq_true, forall_const, false_implies, implies_true, forall_false, tn_0, tn_1, tn_2, tn_3, tn_4, tn_5, tn_6, tn_7, tn_8, tn_9, tn_10, tn_11, tn_12, tn_13, tn_14, tn_15, tn_16, tn_17, tn_18, tn_19, tn_20, tn_21, tn_22, tn_23, tn_24, tn_25, tn_26, tn_27, tn_28, tn_29, tn_30, tn_31, tn_32, tn_33, tn_34, tn_35, tn_36, tn_37, tn_38, tn_39, tn_40, tn_41, tn_42, tn_43, tn_44, tn_45, tn_46, tn_47, tn_48, tn_49, tn_50, tn_51, tn_52, tn_53, tn_54, tn_55, tn_56, tn_57, tn_58, tn_59, tn_60, tn_61, tn_62, tn_63, tn_64, tn_65, tn_66, tn_67, tn_68, tn_69, tn_70, tn_71, tn_72, tn_73, tn_74, tn_75, tn_76, tn_77, tn_78, tn_79, tn_80, tn_81, tn_82, tn_83, tn_84, tn_85, tn_86, tn_87, tn_88, tn_89, tn_90, tn_91, tn_92, tn_93, tn_94, tn_95, tn_96, tn_97, tn_98, tn_99, tn_100, tn_101, tn_102, tn_103, tn_104, tn_105, tn_106, tn_107, tn_108, tn_109, tn_110, tn_111, tn_112, tn_113, tn_114, tn_115, tn_116, tn_117, tn_118, tn_119, tn_120, tn_121, tn_122, tn_123, tn_124, tn_125, tn_126, tn_127, tn_128, tn_129, tn_130, tn_131, tn_132, tn_133, tn_134, tn_135, tn_136, tn_137, tn_138, tn_139, tn_140, tn_141, tn_142, tn_143, tn_144, tn_145, tn_146, tn_147, tn_148, tn_149, tn_150, tn_151, tn_152, tn_153, tn_154, tn_155, tn_156, tn_157, tn_158, tn_159, tn_160, tn_161, tn_162, tn_163, tn_164, tn_165, tn_166, tn_167, tn_168, tn_169, tn_170, tn_171, tn_172, tn_173, tn_174, tn_175, tn_176, tn_177, tn_178, tn_179, tn_180, tn_181, tn_182, tn_183, tn_184, tn_185, tn_186, tn_187, tn_188, tn_189, tn_190, tn_191, tn_192, tn_193, tn_194, tn_195, tn_196, tn_197, tn_198, tn_199, tn_255, tn_256, tn_300, tn_399, tn_400, tn_500, tn_900, tn_999, tn_1000, tn_1001, tn_1024, tn_2048, tn_2176, tn_3536, tn_4095, tn_4096, tn_5580, tn_11160, tn_12345, tn_1103, tn_99999, tn_1000000, tn_1000003, tn_100000000, tn_1000000000, ge0_0, ge0_1, ge0_2, ge0_3, ge0_4, ge0_5, ge0_6, ge0_7, ge0_8, ge0_9, ge0_10, ge0_11, ge0_12, ge0_13, ge0_14, ge0_15, ge0_16, ge0_17, ge0_18, ge0_19, ge0_20, ge0_21, ge0_22, ge0_23, ge0_24, ge0_25, ge0_26, ge0_27, ge0_28, ge0_29, ge0_30, ge0_31, ge0_32, ge0_33, ge0_34, ge0_35, ge0_36, ge0_37, ge0_38, ge0_39, ge0_40, ge0_41, ge0_42, ge0_43, ge0_44, ge0_45, ge0_46, ge0_47, ge0_48, ge0_49, ge0_50, ge0_51, ge0_52, ge0_53, ge0_54, ge0_55, ge0_56, ge0_57, ge0_58, ge0_59, ge0_60, ge0_61, ge0_62, ge0_63, ge0_64, ge0_65, ge0_66, ge0_67, ge0_68, ge0_69, ge0_70, ge0_71, ge0_72, ge0_73, ge0_74, ge0_75, ge0_76, ge0_77, ge0_78, ge0_79, ge0_80, ge0_81, ge0_82, ge0_83, ge0_84, ge0_85, ge0_86, ge0_87, ge0_88, ge0_89, ge0_90, ge0_91, ge0_92, ge0_93, ge0_94, ge0_95, ge0_96, ge0_97, ge0_98, ge0_99, ge0_100, ge0_101, ge0_102, ge0_103, ge0_104, ge0_105, ge0_106, ge0_107, ge0_108, ge0_109, ge0_110, ge0_111, ge0_112, ge0_113, ge0_114, ge0_115, ge0_116, ge0_117, ge0_118, ge0_119, ge0_120, ge0_121, ge0_122, ge0_123, ge0_124, ge0_125, ge0_126, ge0_127, ge0_128, ge0_129, ge0_130, ge0_131, ge0_132, ge0_133, ge0_134, ge0_135, ge0_136, ge0_137, ge0_138, ge0_139, ge0_140, ge0_141, ge0_142, ge0_143, ge0_144, ge0_145, ge0_146, ge0_147, ge0_148, ge0_149, ge0_150, ge0_151, ge0_152, ge0_153, ge0_154, ge0_155, ge0_156, ge0_157, ge0_158, ge0_159, ge0_160, ge0_161, ge0_162, ge0_163, ge0_164, ge0_165, ge0_166, ge0_167, ge0_168, ge0_169, ge0_170, ge0_171, ge0_172, ge0_173, ge0_174, ge0_175, ge0_176, ge0_177, ge0_178, ge0_179, ge0_180, ge0_181, ge0_182, ge0_183, ge0_184, ge0_185, ge0_186, ge0_187, ge0_188, ge0_189, ge0_190, ge0_191, ge0_192, ge0_193, ge0_194, ge0_195, ge0_196, ge0_197, ge0_198, ge0_199, ge0_255, ge0_256, ge0_300, ge0_399, ge0_400, ge0_500, ge0_900, ge0_999, ge0_1000, ge0_1001, ge0_1024, ge0_2048, ge0_2176, ge0_3536, ge0_4095, ge0_4096, ge0_5580, ge0_11160, ge0_12345, ge0_1103, ge0_99999, ge0_1000000, ge0_1000003, ge0_100000000, ge0_1000000000, hC1.all, g, xin, p1, c1, l1, u1, u2, u3, s1, s2, s3, ← hG2, hC2.all, ik, ← hv, ek, or_true, true_or, Nat.le_refl, Nat.zero_add, ne10, ne10L, ne01, ne01L, tt_imp, nt_imp, ff_imp, nf_imp, true_and, and_true, true_or, or_true, reduceIte]
      refine ih (k + 1) _ N1 (by omega) ((f.trans f2).wI rfl) (fun i hi j hj => ?_) (fun i hi => ?_) ?_ (by omega)
      · rw [stI_up, hpI_stA_ne (by omega), hG2]
        rcases (show i < k ∨ i = k by omega) with z | z
        · rw [hpI_stA_ne (by omega)]; exact h1 i z j hj
        · rw [z, hpI_stA, cpy_in (by omega), f.I (ws k _ (by omega))]
          exact congrArg (hpI G (10 + k)) (by omega)
      · rw [stI_up, hpI_stA]
        rcases (show i < k ∨ i = k by omega) with z | z
        · rw [up_ne (by omega), hG2, hpI_stA_ne (by omega)]; exact h2 i z
        · rw [z, up_eq, hv]
      · rw [stI_up, hpI_stA_ne (by omega), hG2, hpI_stA_ne (by omega)]
        exact h3
  rw [e_Undo_take, ← hP]
  simp only [k_Undo_take_0, w_iadd, w_isub, w_imul, w_iand, w_ior, w_ixor, w_ishl, w_ishr, w_iushr, w_idiv, w_irem, w_ineg, w_ladd, w_lsub, w_lmul, w_ldiv, w_lrem, w_i2l, w_l2i, w_i2c, w_lcmp, w_dup_int, w_pop_int, w_dup_ref, w_pop_ref, w_dup_retAddr, w_pop_retAddr, w_dup2, w_I, w_L, w_Null, w_Ild, w_Lld, w_Ald, w_Ist, w_Lst, w_Ast, w_Iinc, w_if_eq, w_icmp_eq, w_if_ne, w_icmp_ne, w_if_lt, w_icmp_lt, w_if_ge, w_icmp_ge, w_if_gt, w_icmp_gt, w_if_le, w_icmp_le, w_GetI, w_GetL, w_GetR, w_PutI, w_PutZ, w_PutL, w_PutR, w_PutN, w_Iald, w_Zald, w_Lald, w_Aald, w_Iast, w_Zast, w_Last, w_AastR, w_AastN, w_Alen, w_New, w_NewA, w_Mna, w_Iret, w_Zret, w_Cret, w_Bret, w_Lret, w_AretR, w_AretN, w_Vret, w_Obj, w_IfNN, w_IfNR, w_Copy, w_Cln, w_Cast, w_SfA, w_SfI, w_SfQ, w_Str, w_ScLd, w_ScLen, w_CV0, w_CS0, w_CV1, w_CS1, w_CV2, w_CS2, w_CV3, w_CS3, w_CV4, w_CS4, w_CV5, w_CS5, List.getElem?_cons_zero, List.getElem?_cons_succ, List.set_cons_zero, List.set_cons_succ, List.length_cons, List.length_nil, List.map_cons, List.map_nil, List.sum_cons, List.sum_nil, List.nil_append, List.cons_append, Option.toList_some, Option.toList_none, Value.category, xok, va_rf, true_and, and_true, and_self, Nat.reduceAdd, Nat.reduceLT, Nat.reduceLeDiff, Nat.reduceEqDiff, Nat.reduceMul, beq_self_eq_true, decide_true, ite_true, ite_false, if_true, if_false, reduceIte, Bool.true_eq_false, Bool.false_eq_true, eq_self_iff_true, Nat.zero_le, not_true_eq_false, not_false_eq_true, forall_const, false_implies, implies_true, forall_false, ne10, ne10L, ne01, ne01L, tt_imp, nt_imp, ff_imp, nf_imp, true_and, and_true, true_or, or_true, reduceIte]
  unfold k_Undo_take_2
  exact hl 16 0 G NF rfl Fr.refl (fun i hi => absurd hi (by omega)) (fun i hi => absurd hi (by omega)) rfl (by unfold NF; omega)
/-- WTb: what copying of what can be undone writes -/
def WTb : Nat → Nat → Bool := fun a _ => a == 8 || (decide (10 ≤ a) && decide (a ≤ 26))
theorem c_takeB {G : XH} (hC : CS G) (hU : CU G) : SP D_Undo_take [.ref 8, .ref 27] G (fun z => z.1 = none ∧ Fr WTb G z.2 ∧ (∀ i, i < 16 → ∀ j, j < 138 → hpI z.2 (10 + i) j = hpI G (29 + i) j) ∧ (∀ i, i < 16 → hpI z.2 26 i = hpI G 45 i) ∧ hpI z.2 8 2 = hpI G 27 2 ∧ hpI z.2 8 3 = hpI G 27 3) := by
  obtain ⟨P, hP⟩ : ∃ P : XR → Prop, P = (fun z => z.1 = none ∧ Fr WTb G z.2 ∧ (∀ i, i < 16 → ∀ j, j < 138 → hpI z.2 (10 + i) j = hpI G (29 + i) j) ∧ (∀ i, i < 16 → hpI z.2 26 i = hpI G 45 i) ∧ hpI z.2 8 2 = hpI G 27 2 ∧ hpI z.2 8 3 = hpI G 27 3) := ⟨_, rfl⟩
  have wb : ∀ i k, i < 16 → WTb (10 + i) k = true := fun i k hi => by
    unfold WTb
    simp only [Bool.or_eq_true, Bool.and_eq_true, decide_eq_true_eq]
    right
    omega
  have ws : ∀ i k, i < 16 → WTb (29 + i) k = false := fun i k hi => by
    unfold WTb
    simp only [Bool.or_eq_false_iff, Bool.and_eq_false_iff, decide_eq_false_iff_not, beq_eq_false_iff_ne]
    omega
  have hl : ∀ (m k : Nat) (G1 : XH) (N : Nat), k + m = 16 → Fr WTb G G1 → (∀ i, i < k → ∀ j, j < 138 → hpI G1 (10 + i) j = hpI G (29 + i) j) → (∀ i, i < k → hpI G1 26 i = hpI G 45 i) → hpI G1 8 = hpI G 8 → m < N → WP (xloop f_Undo_take_2 N) [some (.ref 8), some (.ref 27), some (.int (nI k))] [] G1 P := by
    intro m
    induction m with
    | zero =>
      intro k G1 N hk f h1 h2 h3 hN
      obtain ⟨N1, rfl⟩ : ∃ N1, N = N1 + 1 := ⟨N - 1, by omega⟩
      have hC1 := f.cs hC
      have e : k = 16 := by omega
      subst e
      have g : (16 ≤ nI 16) = True := eq_true (by decide)
      have q1 : (27 = 8) = False := eq_false (by decide)
      have q2 : (8 = 27) = False := eq_false (by decide)
      have i1 : hpI G1 27 = hpI G 27 := f.IA _ (fun _ => rfl)
      obtain ⟨v2, hv2⟩ : ∃ v2, v2 = hpI G 27 2 := ⟨_, rfl⟩
      obtain ⟨v3, hv3⟩ : ∃ v3, v3 = hpI G 27 3 := ⟨_, rfl⟩
      obtain ⟨G2, hG2⟩ : ∃ G2, G2 = stI G1 8 2 v2 := ⟨_, rfl⟩
      have f2 : Fr WTb G1 G2 := by rw [hG2]; exact Fr.refl.wI rfl
      have hC2 := f2.cs hC1
      have i2 : hpI G2 27 = hpI G 27 := (f2.IA _ (fun _ => rfl)).trans i1
      rw [xloop_s]
      simp only [f_Undo_take_2, w_iadd, w_isub, w_imul, w_iand, w_ior, w_ixor, w_ishl, w_ishr, w_iushr, w_idiv, w_irem, w_ineg, w_ladd, w_lsub, w_lmul, w_ldiv, w_lrem, w_i2l, w_l2i, w_i2c, w_lcmp, w_dup_int, w_pop_int, w_dup_ref, w_pop_ref, w_dup_retAddr, w_pop_retAddr, w_dup2, w_I, w_L, w_Null, w_Ild, w_Lld, w_Ald, w_Ist, w_Lst, w_Ast, w_Iinc, w_if_eq, w_icmp_eq, w_if_ne, w_icmp_ne, w_if_lt, w_icmp_lt, w_if_ge, w_icmp_ge, w_if_gt, w_icmp_gt, w_if_le, w_icmp_le, w_GetI, w_GetL, w_GetR, w_PutI, w_PutZ, w_PutL, w_PutR, w_PutN, w_Iald, w_Zald, w_Lald, w_Aald, w_Iast, w_Zast, w_Last, w_AastR, w_AastN, w_Alen, w_New, w_NewA, w_Mna, w_Iret, w_Zret, w_Cret, w_Bret, w_Lret, w_AretR, w_AretN, w_Vret, w_Obj, w_IfNN, w_IfNR, w_Copy, w_Cln, w_Cast, w_SfA, w_SfI, w_SfQ, w_Str, w_ScLd, w_ScLen, w_CV0, w_CS0, w_CV1, w_CS1, w_CV2, w_CS2, w_CV3, w_CS3, w_CV4, w_CS4, w_CV5, w_CS5, List.getElem?_cons_zero, List.getElem?_cons_succ, List.set_cons_zero, List.set_cons_succ, List.length_cons, List.length_nil, List.map_cons, List.map_nil, List.sum_cons, List.sum_nil, List.nil_append, List.cons_append, Option.toList_some, Option.toList_none, Value.category, xok, va_rf, true_and, and_true, and_self, Nat.reduceAdd, Nat.reduceLT, Nat.reduceLeDiff, Nat.reduceEqDiff, Nat.reduceMul, beq_self_eq_true, decide_true, ite_true, ite_false, if_true, if_false, reduceIte, Bool.true_eq_false, Bool.false_eq_true, eq_self_iff_true, Nat.zero_le, not_true_eq_false, not_false_eq_true, forall_const, false_implies, implies_true, forall_false, hC1.all, g, i1, ← hv2, ← hG2, hC2.all, i2, ← hv3, ne10, ne10L, ne01, ne01L, tt_imp, nt_imp, ff_imp, nf_imp, true_and, and_true, true_or, or_true, reduceIte]
      rw [hP]
      refine ⟨rfl, (f.trans f2).wI rfl, fun i hi j hj => ?_, fun i hi => ?_, ?_, ?_⟩
      · rw [stI_up, hpI_stA_ne (by omega), hG2, stI_up, hpI_stA_ne (by omega)]
        exact h1 i hi j hj
      · rw [stI_up, hpI_stA_ne (by omega), hG2, stI_up, hpI_stA_ne (by omega)]
        exact h2 i hi
      · rw [stI_up, hpI_stA, up_ne (by omega), hG2, stI_up, hpI_stA, up_eq, hv2]
      · rw [stI_up, hpI_stA, up_eq, hv3]
    | succ m ih =>
      intro k G1 N hk f h1 h2 h3 hN
      obtain ⟨N1, rfl⟩ : ∃ N1, N = N1 + 1 := ⟨N - 1, by omega⟩
      have hC1 := f.cs hC
      have g : (16 ≤ nI k) = False := eq_false (by rw [show (16 : Int32) = nI 16 from rfl, nl_le (by omega) (by omega)]; omega)
      have ek : nI k + Int32.ofInt 1 = nI (k + 1) := nI_1 k
      have p1 : 0 ≤ nI (k) := nI_pos' (by omega)
      have c1 : (nI (k)).toNatClampNeg = k := nI_clamp (by omega)
      have l1 : k < 16 := by omega
      have hU1 := CU_fc hU f.fc
      obtain ⟨u1, u2, u3⟩ := hU1.1 k (by omega)
      obtain ⟨s1, s2, s3⟩ := hU1.2 k (by omega)
      obtain ⟨G2, hG2⟩ : ∃ G2, G2 = stA G1 (10 + k) (va_cpy (hpI G1 (29 + k)) (hpI G1 (10 + k)) 0 0 138) := ⟨_, rfl⟩
      have f2 : Fr WTb G1 G2 := by rw [hG2]; exact Fr.refl.wA (fun j q => absurd q (by rw [wb k j (by omega)]; simp))
      have hC2 := f2.cs hC1
      have ik : hpI G2 45 k = hpI G 45 k := (f2.I rfl).trans (f.I rfl)
      obtain ⟨v, hv⟩ : ∃ v, v = hpI G 45 k := ⟨_, rfl⟩
      rw [xloop_s]
      simp only [f_Undo_take_2, w_iadd, w_isub, w_imul, w_iand, w_ior, w_ixor, w_ishl, w_ishr, w_iushr, w_idiv, w_irem, w_ineg, w_ladd, w_lsub, w_lmul, w_ldiv, w_lrem, w_i2l, w_l2i, w_i2c, w_lcmp, w_dup_int, w_pop_int, w_dup_ref, w_pop_ref, w_dup_retAddr, w_pop_retAddr, w_dup2, w_I, w_L, w_Null, w_Ild, w_Lld, w_Ald, w_Ist, w_Lst, w_Ast, w_Iinc, w_if_eq, w_icmp_eq, w_if_ne, w_icmp_ne, w_if_lt, w_icmp_lt, w_if_ge, w_icmp_ge, w_if_gt, w_icmp_gt, w_if_le, w_icmp_le, w_GetI, w_GetL, w_GetR, w_PutI, w_PutZ, w_PutL, w_PutR, w_PutN, w_Iald, w_Zald, w_Lald, w_Aald, w_Iast, w_Zast, w_Last, w_AastR, w_AastN, w_Alen, w_New, w_NewA, w_Mna, w_Iret, w_Zret, w_Cret, w_Bret, w_Lret, w_AretR, w_AretN, w_Vret, w_Obj, w_IfNN, w_IfNR, w_Copy, w_Cln, w_Cast, w_SfA, w_SfI, w_SfQ, w_Str, w_ScLd, w_ScLen, w_CV0, w_CS0, w_CV1, w_CS1, w_CV2, w_CS2, w_CV3, w_CS3, w_CV4, w_CS4, w_CV5, w_CS5, List.getElem?_cons_zero, List.getElem?_cons_succ, List.set_cons_zero, List.set_cons_succ, List.length_cons, List.length_nil, List.map_cons, List.map_nil, List.sum_cons, List.sum_nil, List.nil_append, List.cons_append, Option.toList_some, Option.toList_none, Value.category, xok, va_rf, true_and, and_true, and_self, Nat.reduceAdd, Nat.reduceLT, Nat.reduceLeDiff, Nat.reduceEqDiff, Nat.reduceMul, beq_self_eq_true, decide_true, ite_true, ite_false, if_true, if_false, reduceIte, Bool.true_eq_false, Bool.false_eq_true, eq_self_iff_true, Nat.zero_le, not_true_eq_false, not_false_eq_true, forall_const, false_implies, implies_true, forall_false, tn_0, tn_1, tn_2, tn_3, tn_4, tn_5, tn_6, tn_7, tn_8, tn_9, tn_10, tn_11, tn_12, tn_13, tn_14, tn_15, tn_16, tn_17, tn_18, tn_19, tn_20, tn_21, tn_22, tn_23, tn_24, tn_25, tn_26, tn_27, tn_28, tn_29, tn_30, tn_31, tn_32, tn_33, tn_34, tn_35, tn_36, tn_37, tn_38, tn_39, tn_40, tn_41, tn_42, tn_43, tn_44, tn_45, tn_46, tn_47, tn_48, tn_49, tn_50, tn_51, tn_52, tn_53, tn_54, tn_55, tn_56, tn_57, tn_58, tn_59, tn_60, tn_61, tn_62, tn_63, tn_64, tn_65, tn_66, tn_67, tn_68, tn_69, tn_70, tn_71, tn_72, tn_73, tn_74, tn_75, tn_76, tn_77, tn_78, tn_79, tn_80, tn_81, tn_82, tn_83, tn_84, tn_85, tn_86, tn_87, tn_88, tn_89, tn_90, tn_91, tn_92, tn_93, tn_94, tn_95, tn_96, tn_97, tn_98, tn_99, tn_100, tn_101, tn_102, tn_103, tn_104, tn_105, tn_106, tn_107, tn_108, tn_109, tn_110, tn_111, tn_112, tn_113, tn_114, tn_115, tn_116, tn_117, tn_118, tn_119, tn_120, tn_121, tn_122, tn_123, tn_124, tn_125, tn_126, tn_127, tn_128, tn_129, tn_130, tn_131, tn_132, tn_133, tn_134, tn_135, tn_136, tn_137, tn_138, tn_139, tn_140, tn_141, tn_142, tn_143, tn_144, tn_145, tn_146, tn_147, tn_148, tn_149, tn_150, tn_151, tn_152, tn_153, tn_154, tn_155, tn_156, tn_157, tn_158, tn_159, tn_160, tn_161, tn_162, tn_163, tn_164, tn_165, tn_166, tn_167, tn_168, tn_169, tn_170, tn_171, tn_172, tn_173, tn_174, tn_175, tn_176, tn_177, tn_178, tn_179, tn_180, tn_181, tn_182, tn_183, tn_184, tn_185, tn_186, tn_187, tn_188, tn_189, tn_190, tn_191, tn_192, tn_193, tn_194, tn_195, tn_196, tn_197, tn_198, tn_199, tn_255, tn_256, tn_300, tn_399, tn_400, tn_500, tn_900, tn_999, tn_1000, tn_1001, tn_1024, tn_2048, tn_2176, tn_3536, tn_4095, tn_4096, tn_5580, tn_11160, tn_12345, tn_1103, tn_99999, tn_1000000, tn_1000003, tn_100000000, tn_1000000000, ge0_0, ge0_1, ge0_2, ge0_3, ge0_4, ge0_5, ge0_6, ge0_7, ge0_8, ge0_9, ge0_10, ge0_11, ge0_12, ge0_13, ge0_14, ge0_15, ge0_16, ge0_17, ge0_18, ge0_19, ge0_20, ge0_21, ge0_22, ge0_23, ge0_24, ge0_25, ge0_26, ge0_27, ge0_28, ge0_29, ge0_30, ge0_31, ge0_32, ge0_33, ge0_34, ge0_35, ge0_36, ge0_37, ge0_38, ge0_39, ge0_40, ge0_41, ge0_42, ge0_43, ge0_44, ge0_45, ge0_46, ge0_47, ge0_48, ge0_49, ge0_50, ge0_51, ge0_52, ge0_53, ge0_54, ge0_55, ge0_56, ge0_57, ge0_58, ge0_59, ge0_60, ge0_61, ge0_62, ge0_63, ge0_64, ge0_65, ge0_66, ge0_67, ge0_68, ge0_69, ge0_70, ge0_71, ge0_72, ge0_73, ge0_74, ge0_75, ge0_76, ge0_77, ge0_78, ge0_79, ge0_80, ge0_81, ge0_82, ge0_83, ge0_84, ge0_85, ge0_86, ge0_87, ge0_88, ge0_89, ge0_90, ge0_91, ge0_92, ge0_93, ge0_94, ge0_95, ge0_96, ge0_97, ge0_98, ge0_99, ge0_100, ge0_101, ge0_102, ge0_103, ge0_104, ge0_105, ge0_106, ge0_107, ge0_108, ge0_109, ge0_110, ge0_111, ge0_112, ge0_113, ge0_114, ge0_115, ge0_116, ge0_117, ge0_118, ge0_119, ge0_120, ge0_121, ge0_122, ge0_123, ge0_124, ge0_125, ge0_126, ge0_127, ge0_128, ge0_129, ge0_130, ge0_131, ge0_132, ge0_133, ge0_134, ge0_135, ge0_136, ge0_137, ge0_138, ge0_139, ge0_140, ge0_141, ge0_142, ge0_143, ge0_144, ge0_145, ge0_146, ge0_147, ge0_148, ge0_149, ge0_150, ge0_151, ge0_152, ge0_153, ge0_154, ge0_155, ge0_156, ge0_157, ge0_158, ge0_159, ge0_160, ge0_161, ge0_162, ge0_163, ge0_164, ge0_165, ge0_166, ge0_167, ge0_168, ge0_169, ge0_170, ge0_171, ge0_172, ge0_173, ge0_174, ge0_175, ge0_176, ge0_177, ge0_178, ge0_179, ge0_180, ge0_181, ge0_182, ge0_183, ge0_184, ge0_185, ge0_186, ge0_187, ge0_188, ge0_189, ge0_190, ge0_191, ge0_192, ge0_193, ge0_194, ge0_195, ge0_196, ge0_197, ge0_198, ge0_199, ge0_255, ge0_256, ge0_300, ge0_399, ge0_400, ge0_500, ge0_900, ge0_999, ge0_1000, ge0_1001, ge0_1024, ge0_2048, ge0_2176, ge0_3536, ge0_4095, ge0_4096, ge0_5580, ge0_11160, ge0_12345, ge0_1103, ge0_99999, ge0_1000000, ge0_1000003, ge0_100000000, ge0_1000000000, hC1.all, g, xin, p1, c1, l1, u1, u2, u3, s1, s2, s3, ← hG2, hC2.all, ik, ← hv, ek, or_true, true_or, Nat.le_refl, Nat.zero_add, ne10, ne10L, ne01, ne01L, tt_imp, nt_imp, ff_imp, nf_imp, true_and, and_true, true_or, or_true, reduceIte]
      refine ih (k + 1) _ N1 (by omega) ((f.trans f2).wI rfl) (fun i hi j hj => ?_) (fun i hi => ?_) ?_ (by omega)
      · rw [stI_up, hpI_stA_ne (by omega), hG2]
        rcases (show i < k ∨ i = k by omega) with z | z
        · rw [hpI_stA_ne (by omega)]; exact h1 i z j hj
        · rw [z, hpI_stA, cpy_in (by omega), f.I (ws k _ (by omega))]
          exact congrArg (hpI G (29 + k)) (by omega)
      · rw [stI_up, hpI_stA]
        rcases (show i < k ∨ i = k by omega) with z | z
        · rw [up_ne (by omega), hG2, hpI_stA_ne (by omega)]; exact h2 i z
        · rw [z, up_eq, hv]
      · rw [stI_up, hpI_stA_ne (by omega), hG2, hpI_stA_ne (by omega)]
        exact h3
  rw [e_Undo_take, ← hP]
  simp only [k_Undo_take_0, w_iadd, w_isub, w_imul, w_iand, w_ior, w_ixor, w_ishl, w_ishr, w_iushr, w_idiv, w_irem, w_ineg, w_ladd, w_lsub, w_lmul, w_ldiv, w_lrem, w_i2l, w_l2i, w_i2c, w_lcmp, w_dup_int, w_pop_int, w_dup_ref, w_pop_ref, w_dup_retAddr, w_pop_retAddr, w_dup2, w_I, w_L, w_Null, w_Ild, w_Lld, w_Ald, w_Ist, w_Lst, w_Ast, w_Iinc, w_if_eq, w_icmp_eq, w_if_ne, w_icmp_ne, w_if_lt, w_icmp_lt, w_if_ge, w_icmp_ge, w_if_gt, w_icmp_gt, w_if_le, w_icmp_le, w_GetI, w_GetL, w_GetR, w_PutI, w_PutZ, w_PutL, w_PutR, w_PutN, w_Iald, w_Zald, w_Lald, w_Aald, w_Iast, w_Zast, w_Last, w_AastR, w_AastN, w_Alen, w_New, w_NewA, w_Mna, w_Iret, w_Zret, w_Cret, w_Bret, w_Lret, w_AretR, w_AretN, w_Vret, w_Obj, w_IfNN, w_IfNR, w_Copy, w_Cln, w_Cast, w_SfA, w_SfI, w_SfQ, w_Str, w_ScLd, w_ScLen, w_CV0, w_CS0, w_CV1, w_CS1, w_CV2, w_CS2, w_CV3, w_CS3, w_CV4, w_CS4, w_CV5, w_CS5, List.getElem?_cons_zero, List.getElem?_cons_succ, List.set_cons_zero, List.set_cons_succ, List.length_cons, List.length_nil, List.map_cons, List.map_nil, List.sum_cons, List.sum_nil, List.nil_append, List.cons_append, Option.toList_some, Option.toList_none, Value.category, xok, va_rf, true_and, and_true, and_self, Nat.reduceAdd, Nat.reduceLT, Nat.reduceLeDiff, Nat.reduceEqDiff, Nat.reduceMul, beq_self_eq_true, decide_true, ite_true, ite_false, if_true, if_false, reduceIte, Bool.true_eq_false, Bool.false_eq_true, eq_self_iff_true, Nat.zero_le, not_true_eq_false, not_false_eq_true, forall_const, false_implies, implies_true, forall_false, ne10, ne10L, ne01, ne01L, tt_imp, nt_imp, ff_imp, nf_imp, true_and, and_true, true_or, or_true, reduceIte]
  unfold k_Undo_take_2
  exact hl 16 0 G NF rfl Fr.refl (fun i hi => absurd hi (by omega)) (fun i hi => absurd hi (by omega)) rfl (by unfold NF; omega)
def WOw : Nat → Nat → Bool := fun a _ => a == 57
theorem c_tellWords {G : XH} (hC : CS G) {R : Nat → Int32} (hV : VW (hpI G 2) R) {nr : Nat} (hnr : nr ≤ 8) (h1 : R 1 = nI nr) {done : Nat} {paid : Int32} (hd : hpI G 57 3 = nI done) (hp : hpI G 57 4 = paid) : SP D_Post_tellOrderWords [.ref 0] G (fun z => z.1 = none ∧ Fr WOw G z.2 ∧ hpI z.2 57 3 = nI done ∧ hpI z.2 57 4 = paid ∧ ∀ w, w < 21 → owE R done paid w = (hpI z.2 57 w).toInt64) := by
  obtain ⟨P, hP⟩ : ∃ P : XR → Prop, P = (fun z => z.1 = none ∧ Fr WOw G z.2 ∧ hpI z.2 57 3 = nI done ∧ hpI z.2 57 4 = paid ∧ ∀ w, w < 21 → owE R done paid w = (hpI z.2 57 w).toInt64) := ⟨_, rfl⟩
  have v0 : hpI G 2 0 = R 5 := hV.1 0 (by omega)
  have v3 : hpI G 2 3 = R 8 := hV.1 3 (by omega)
  have v5 : hpI G 2 5 = R 2 := hV.2.2.1
  have v4 : hpI G 2 4 = nI nr := hV.2.1.trans h1
  have hl : ∀ (m r : Nat) (G1 : XH) (N : Nat) (a2 : Option Value), r + m = 8 → Fr WOw G G1 → hpI G1 57 3 = nI done → hpI G1 57 4 = paid → (∀ w, w < 3 → owE R done paid w = (hpI G1 57 w).toInt64) → (∀ q, q < r → owE R done paid (5 + q) = (hpI G1 57 (5 + q)).toInt64 ∧ owE R done paid (13 + q) = (hpI G1 57 (13 + q)).toInt64) → m < N → WP (xloop f_Post_tellOrderWords_38 N) [some (.ref 0), some (.int (nI r)), a2] [] G1 P := by
    intro m
    induction m with
    | zero =>
      intro r G1 N a2 hr f d3 d4 hw hq hN
      obtain ⟨N1, rfl⟩ : ∃ N1, N = N1 + 1 := ⟨N - 1, by omega⟩
      have e : r = 8 := by omega
      subst e
      have g : (8 ≤ nI 8) = True := eq_true (by decide)
      rw [xloop_s]
      simp only [f_Post_tellOrderWords_38, w_iadd, w_isub, w_imul, w_iand, w_ior, w_ixor, w_ishl, w_ishr, w_iushr, w_idiv, w_irem, w_ineg, w_ladd, w_lsub, w_lmul, w_ldiv, w_lrem, w_i2l, w_l2i, w_i2c, w_lcmp, w_dup_int, w_pop_int, w_dup_ref, w_pop_ref, w_dup_retAddr, w_pop_retAddr, w_dup2, w_I, w_L, w_Null, w_Ild, w_Lld, w_Ald, w_Ist, w_Lst, w_Ast, w_Iinc, w_if_eq, w_icmp_eq, w_if_ne, w_icmp_ne, w_if_lt, w_icmp_lt, w_if_ge, w_icmp_ge, w_if_gt, w_icmp_gt, w_if_le, w_icmp_le, w_GetI, w_GetL, w_GetR, w_PutI, w_PutZ, w_PutL, w_PutR, w_PutN, w_Iald, w_Zald, w_Lald, w_Aald, w_Iast, w_Zast, w_Last, w_AastR, w_AastN, w_Alen, w_New, w_NewA, w_Mna, w_Iret, w_Zret, w_Cret, w_Bret, w_Lret, w_AretR, w_AretN, w_Vret, w_Obj, w_IfNN, w_IfNR, w_Copy, w_Cln, w_Cast, w_SfA, w_SfI, w_SfQ, w_Str, w_ScLd, w_ScLen, w_CV0, w_CS0, w_CV1, w_CS1, w_CV2, w_CS2, w_CV3, w_CS3, w_CV4, w_CS4, w_CV5, w_CS5, List.getElem?_cons_zero, List.getElem?_cons_succ, List.set_cons_zero, List.set_cons_succ, List.length_cons, List.length_nil, List.map_cons, List.map_nil, List.sum_cons, List.sum_nil, List.nil_append, List.cons_append, Option.toList_some, Option.toList_none, Value.category, xok, va_rf, true_and, and_true, and_self, Nat.reduceAdd, Nat.reduceLT, Nat.reduceLeDiff, Nat.reduceEqDiff, Nat.reduceMul, beq_self_eq_true, decide_true, ite_true, ite_false, if_true, if_false, reduceIte, Bool.true_eq_false, Bool.false_eq_true, eq_self_iff_true, Nat.zero_le, not_true_eq_false, not_false_eq_true, forall_const, false_implies, implies_true, forall_false, g, ne10, ne10L, ne01, ne01L, tt_imp, nt_imp, ff_imp, nf_imp, true_and, and_true, true_or, or_true, reduceIte]
      rw [hP]
      refine ⟨rfl, f, d3, d4, fun w hw' => ?_⟩
      rcases (show w < 3 ∨ w = 3 ∨ w = 4 ∨ (5 ≤ w ∧ w < 13) ∨ (13 ≤ w ∧ w < 21) by omega) with z | z | z | z | z
      · exact hw w z
      · rw [z, d3]; rfl
      · rw [z, d4]; rfl
      · have := (hq (w - 5) (by omega)).1
        rw [show 5 + (w - 5) = w by omega] at this
        exact this
      · have := (hq (w - 13) (by omega)).2
        rw [show 13 + (w - 13) = w by omega] at this
        exact this
    | succ m ih =>
      intro r G1 N a2 hr f d3 d4 hw hq hN
      obtain ⟨N1, rfl⟩ : ∃ N1, N = N1 + 1 := ⟨N - 1, by omega⟩
      have hC1 := f.cs hC
      have g : (8 ≤ nI r) = False := eq_false (by rw [show (8 : Int32) = nI 8 from rfl, nl_le (by omega) (by omega)]; omega)
      have er : nI r + Int32.ofInt 1 = nI (r + 1) := nI_1 r
      have st1 : hpI G1 2 = hpI G 2 := f.IA _ (fun _ => rfl)
      have hir := fun Q => c_isReader hC1 Q (nI r)
      rw [st1, v4] at hir
      have e5 : 5 + nI r = nI (5 + r) := nI_add 5 r
      have e13 : 13 + nI r = nI (13 + r) := nI_add 13 r
      have e22 : 22 + nI r = nI (22 + r) := nI_add 22 r
      have e38 : 38 + nI r = nI (38 + r) := nI_add 38 r
      have p5 : 0 ≤ nI (5 + r) := nI_pos' (by omega)
      have c5 : (nI (5 + r)).toNatClampNeg = 5 + r := nI_clamp (by omega)
      have l5 : 5 + r < 21 := by omega
      have p6 : 0 ≤ nI (13 + r) := nI_pos' (by omega)
      have c6 : (nI (13 + r)).toNatClampNeg = 13 + r := nI_clamp (by omega)
      have l6 : 13 + r < 21 := by omega
      have p7 : 0 ≤ nI (22 + r) := nI_pos' (by omega)
      have c7 : (nI (22 + r)).toNatClampNeg = 22 + r := nI_clamp (by omega)
      have l7 : 22 + r < 138 := by omega
      have p8 : 0 ≤ nI (38 + r) := nI_pos' (by omega)
      have c8 : (nI (38 + r)).toNatClampNeg = 38 + r := nI_clamp (by omega)
      have l8 : 38 + r < 138 := by omega
      have w22 : hpI G 2 (22 + r) = R (11 + 6 * r) := by rw [show 22 + r = 6 + 8 * 2 + r by omega, hV.2.2.2.1 r 2 (by omega) (by omega)]; congr 1; omega
      have w38 : hpI G 2 (38 + r) = R (13 + 6 * r) := by rw [show 38 + r = 6 + 8 * 4 + r by omega, hV.2.2.2.1 r 4 (by omega) (by omega)]; congr 1; omega
      obtain ⟨va, hva⟩ : ∃ va : Int32, va = (if r < nr then R (11 + 6 * r) else -1) := ⟨_, rfl⟩
      obtain ⟨vb, hvb⟩ : ∃ vb : Int32, vb = (if r < nr then R (13 + 6 * r) else -1) := ⟨_, rfl⟩
      have ea : owE R done paid (5 + r) = va.toInt64 := by
        unfold owE
        rw [if_neg (by omega), if_pos (by omega), h1, show 5 + r - 5 = r by omega, hva]
        have hlt := nl_lt (a := r) (b := nr) (by omega) (by omega)
        by_cases q : r < nr
        · rw [if_pos q, if_pos (by rw [hlt]; exact q), show 9 + 6 * r + 2 = 11 + 6 * r by omega]
        · rw [if_neg q, if_neg (by rw [hlt]; exact q)]; rfl
      have eb : owE R done paid (13 + r) = vb.toInt64 := by
        unfold owE
        rw [if_neg (by omega), if_neg (by omega), h1, show 13 + r - 13 = r by omega, hvb]
        have hlt := nl_lt (a := r) (b := nr) (by omega) (by omega)
        by_cases q : r < nr
        · rw [if_pos q, if_pos (by rw [hlt]; exact q), show 9 + 6 * r + 4 = 13 + 6 * r by omega]
        · rw [if_neg q, if_neg (by rw [hlt]; exact q)]; rfl
      obtain ⟨G2, hG2⟩ : ∃ G2, G2 = stI G1 57 (5 + r) va := ⟨_, rfl⟩
      have f2 : Fr WOw G1 G2 := by rw [hG2]; exact Fr.refl.wI rfl
      have hC2 := f2.cs hC1
      have st2 : hpI G2 2 = hpI G 2 := (f2.IA _ (fun _ => rfl)).trans st1
      obtain ⟨G3, hG3⟩ : ∃ G3, G3 = stI G2 57 (13 + r) vb := ⟨_, rfl⟩
      have f3 : Fr WOw G2 G3 := by rw [hG3]; exact Fr.refl.wI rfl
      have A3 : hpI G3 57 = up (up (hpI G1 57) (5 + r) va) (13 + r) vb := by rw [hG3, stI_up, hpI_stA, hG2, stI_up, hpI_stA]
      have hgo := fun a2 => ih (r + 1) G3 N1 a2 (by omega) ((f.trans f2).trans f3) (by rw [A3, up_ne (by omega), up_ne (by omega)]; exact d3) (by rw [A3, up_ne (by omega), up_ne (by omega)]; exact d4) (fun w hw' => by rw [A3, up_ne (by omega), up_ne (by omega)]; exact hw w hw') (fun q hq' => by
        rcases (show q < r ∨ q = r by omega) with z | z
        · rw [A3, up_ne (by omega), up_ne (by omega), up_ne (by omega), up_ne (by omega)]
          exact hq q z
        · rw [z, A3, up_ne (by omega), up_eq, up_eq]
          exact ⟨ea, eb⟩) (by omega)
      rw [xloop_s]
      by_cases q : r < nr
      · have gi : (0 ≤ nI r ∧ nI r < nI nr) = True := eq_true (nI_rg q (by omega))
        rw [if_pos q] at hva hvb
        rw [← hva] at w22
        rw [← hvb] at w38
        simp only [f_Post_tellOrderWords_38, k_Post_tellOrderWords_74, k_Post_tellOrderWords_100, w_iadd, w_isub, w_imul, w_iand, w_ior, w_ixor, w_ishl, w_ishr, w_iushr, w_idiv, w_irem, w_ineg, w_ladd, w_lsub, w_lmul, w_ldiv, w_lrem, w_i2l, w_l2i, w_i2c, w_lcmp, w_dup_int, w_pop_int, w_dup_ref, w_pop_ref, w_dup_retAddr, w_pop_retAddr, w_dup2, w_I, w_L, w_Null, w_Ild, w_Lld, w_Ald, w_Ist, w_Lst, w_Ast, w_Iinc, w_if_eq, w_icmp_eq, w_if_ne, w_icmp_ne, w_if_lt, w_icmp_lt, w_if_ge, w_icmp_ge, w_if_gt, w_icmp_gt, w_if_le, w_icmp_le, w_GetI, w_GetL, w_GetR, w_PutI, w_PutZ, w_PutL, w_PutR, w_PutN, w_Iald, w_Zald, w_Lald, w_Aald, w_Iast, w_Zast, w_Last, w_AastR, w_AastN, w_Alen, w_New, w_NewA, w_Mna, w_Iret, w_Zret, w_Cret, w_Bret, w_Lret, w_AretR, w_AretN, w_Vret, w_Obj, w_IfNN, w_IfNR, w_Copy, w_Cln, w_Cast, w_SfA, w_SfI, w_SfQ, w_Str, w_ScLd, w_ScLen, w_CV0, w_CS0, w_CV1, w_CS1, w_CV2, w_CS2, w_CV3, w_CS3, w_CV4, w_CS4, w_CV5, w_CS5, List.getElem?_cons_zero, List.getElem?_cons_succ, List.set_cons_zero, List.set_cons_succ, List.length_cons, List.length_nil, List.map_cons, List.map_nil, List.sum_cons, List.sum_nil, List.nil_append, List.cons_append, Option.toList_some, Option.toList_none, Value.category, xok, va_rf, true_and, and_true, and_self, Nat.reduceAdd, Nat.reduceLT, Nat.reduceLeDiff, Nat.reduceEqDiff, Nat.reduceMul, beq_self_eq_true, decide_true, ite_true, ite_false, if_true, if_false, reduceIte, Bool.true_eq_false, Bool.false_eq_true, eq_self_iff_true, Nat.zero_le, not_true_eq_false, not_false_eq_true, forall_const, false_implies, implies_true, forall_false, stI_C, stI_N, stI_Z, stI_S, stI_L, stI_R, stL_C, stL_N, stL_Z, stL_S, stL_I, stL_R, stR_C, stR_N, stR_Z, stR_S, stR_I, stR_L, stA_C, stA_N, stA_Z, stA_S, stA_L, stA_R, stI_I, stL_L, stR_R, stA_I, stN_C, stN_N, stN_Z, stN_S, stN_I, stN_L, stN_R, stI_ne, stL_ne, stR_ne, hC1.all, g, hir, gi, e5, e13, e22, e38, xin, p5, c5, l5, p6, c6, l6, p7, c7, l7, p8, c8, l8, st1, w22, ← hG2, hC2.all, st2, w38, ← hG3, er, ne10, ne10L, ne01, ne01L, tt_imp, nt_imp, ff_imp, nf_imp, true_and, and_true, true_or, or_true, reduceIte]
        exact hgo _
      · have gi : (0 ≤ nI r ∧ nI r < nI nr) = False := eq_false (fun z => q (by have := z.2; rw [nl_lt (by omega) (by omega)] at this; exact this))
        rw [if_neg q] at hva hvb
        have hG2' : G2 = stI G1 57 (5 + r) (-1) := by rw [hG2, hva]
        have hG3' : G3 = stI G2 57 (13 + r) (-1) := by rw [hG3, hvb]
        simp only [f_Post_tellOrderWords_38, k_Post_tellOrderWords_74, k_Post_tellOrderWords_100, w_iadd, w_isub, w_imul, w_iand, w_ior, w_ixor, w_ishl, w_ishr, w_iushr, w_idiv, w_irem, w_ineg, w_ladd, w_lsub, w_lmul, w_ldiv, w_lrem, w_i2l, w_l2i, w_i2c, w_lcmp, w_dup_int, w_pop_int, w_dup_ref, w_pop_ref, w_dup_retAddr, w_pop_retAddr, w_dup2, w_I, w_L, w_Null, w_Ild, w_Lld, w_Ald, w_Ist, w_Lst, w_Ast, w_Iinc, w_if_eq, w_icmp_eq, w_if_ne, w_icmp_ne, w_if_lt, w_icmp_lt, w_if_ge, w_icmp_ge, w_if_gt, w_icmp_gt, w_if_le, w_icmp_le, w_GetI, w_GetL, w_GetR, w_PutI, w_PutZ, w_PutL, w_PutR, w_PutN, w_Iald, w_Zald, w_Lald, w_Aald, w_Iast, w_Zast, w_Last, w_AastR, w_AastN, w_Alen, w_New, w_NewA, w_Mna, w_Iret, w_Zret, w_Cret, w_Bret, w_Lret, w_AretR, w_AretN, w_Vret, w_Obj, w_IfNN, w_IfNR, w_Copy, w_Cln, w_Cast, w_SfA, w_SfI, w_SfQ, w_Str, w_ScLd, w_ScLen, w_CV0, w_CS0, w_CV1, w_CS1, w_CV2, w_CS2, w_CV3, w_CS3, w_CV4, w_CS4, w_CV5, w_CS5, List.getElem?_cons_zero, List.getElem?_cons_succ, List.set_cons_zero, List.set_cons_succ, List.length_cons, List.length_nil, List.map_cons, List.map_nil, List.sum_cons, List.sum_nil, List.nil_append, List.cons_append, Option.toList_some, Option.toList_none, Value.category, xok, va_rf, true_and, and_true, and_self, Nat.reduceAdd, Nat.reduceLT, Nat.reduceLeDiff, Nat.reduceEqDiff, Nat.reduceMul, beq_self_eq_true, decide_true, ite_true, ite_false, if_true, if_false, reduceIte, Bool.true_eq_false, Bool.false_eq_true, eq_self_iff_true, Nat.zero_le, not_true_eq_false, not_false_eq_true, forall_const, false_implies, implies_true, forall_false, stI_C, stI_N, stI_Z, stI_S, stI_L, stI_R, stL_C, stL_N, stL_Z, stL_S, stL_I, stL_R, stR_C, stR_N, stR_Z, stR_S, stR_I, stR_L, stA_C, stA_N, stA_Z, stA_S, stA_L, stA_R, stI_I, stL_L, stR_R, stA_I, stN_C, stN_N, stN_Z, stN_S, stN_I, stN_L, stN_R, stI_ne, stL_ne, stR_ne, hC1.all, g, hir, gi, e5, e13, e22, e38, xin, p5, c5, l5, p6, c6, l6, p7, c7, l7, p8, c8, l8, ← hG2', hC2.all, ← hG3', er, ne10, ne10L, ne01, ne01L, tt_imp, nt_imp, ff_imp, nf_imp, true_and, and_true, true_or, or_true, reduceIte]
        exact hgo _
  obtain ⟨G1, hG1⟩ : ∃ G1, G1 = stI (stI (stI G 57 0 (R 5)) 57 1 (R 2)) 57 2 (R 8) := ⟨_, rfl⟩
  have f1' : Fr WOw G G1 := by rw [hG1]; exact ((Fr.refl.wI rfl).wI rfl).wI rfl
  have A1 : hpI G1 57 = up (up (up (hpI G 57) 0 (R 5)) 1 (R 2)) 2 (R 8) := by rw [hG1, stI_up, hpI_stA, stI_up, hpI_stA, stI_up, hpI_stA]
  have q2 : (2 = 57) = False := eq_false (by decide)
  have hgo : WP k_Post_tellOrderWords_38 [some (.ref 0), some (.int (nI 0)), none] [] G1 P := by
    unfold k_Post_tellOrderWords_38
    refine hl 8 0 G1 NF none rfl f1' (by rw [A1, up_ne (by omega), up_ne (by omega), up_ne (by omega)]; exact hd) (by rw [A1, up_ne (by omega), up_ne (by omega), up_ne (by omega)]; exact hp) (fun w hw => ?_) (fun q hq => absurd hq (by omega)) (by unfold NF; omega)
    rcases (show w = 0 ∨ w = 1 ∨ w = 2 by omega) with rfl | rfl | rfl
    · rw [A1, up_ne (by omega), up_ne (by omega), up_eq]; rfl
    · rw [A1, up_ne (by omega), up_eq]; rfl
    · rw [A1, up_eq]; rfl
  rw [e_Post_tellOrderWords, ← hP]
  simp only [k_Post_tellOrderWords_0, w_iadd, w_isub, w_imul, w_iand, w_ior, w_ixor, w_ishl, w_ishr, w_iushr, w_idiv, w_irem, w_ineg, w_ladd, w_lsub, w_lmul, w_ldiv, w_lrem, w_i2l, w_l2i, w_i2c, w_lcmp, w_dup_int, w_pop_int, w_dup_ref, w_pop_ref, w_dup_retAddr, w_pop_retAddr, w_dup2, w_I, w_L, w_Null, w_Ild, w_Lld, w_Ald, w_Ist, w_Lst, w_Ast, w_Iinc, w_if_eq, w_icmp_eq, w_if_ne, w_icmp_ne, w_if_lt, w_icmp_lt, w_if_ge, w_icmp_ge, w_if_gt, w_icmp_gt, w_if_le, w_icmp_le, w_GetI, w_GetL, w_GetR, w_PutI, w_PutZ, w_PutL, w_PutR, w_PutN, w_Iald, w_Zald, w_Lald, w_Aald, w_Iast, w_Zast, w_Last, w_AastR, w_AastN, w_Alen, w_New, w_NewA, w_Mna, w_Iret, w_Zret, w_Cret, w_Bret, w_Lret, w_AretR, w_AretN, w_Vret, w_Obj, w_IfNN, w_IfNR, w_Copy, w_Cln, w_Cast, w_SfA, w_SfI, w_SfQ, w_Str, w_ScLd, w_ScLen, w_CV0, w_CS0, w_CV1, w_CS1, w_CV2, w_CS2, w_CV3, w_CS3, w_CV4, w_CS4, w_CV5, w_CS5, List.getElem?_cons_zero, List.getElem?_cons_succ, List.set_cons_zero, List.set_cons_succ, List.length_cons, List.length_nil, List.map_cons, List.map_nil, List.sum_cons, List.sum_nil, List.nil_append, List.cons_append, Option.toList_some, Option.toList_none, Value.category, xok, va_rf, true_and, and_true, and_self, Nat.reduceAdd, Nat.reduceLT, Nat.reduceLeDiff, Nat.reduceEqDiff, Nat.reduceMul, beq_self_eq_true, decide_true, ite_true, ite_false, if_true, if_false, reduceIte, Bool.true_eq_false, Bool.false_eq_true, eq_self_iff_true, Nat.zero_le, not_true_eq_false, not_false_eq_true, forall_const, false_implies, implies_true, forall_false, stI_C, stI_N, stI_Z, stI_S, stI_L, stI_R, stL_C, stL_N, stL_Z, stL_S, stL_I, stL_R, stR_C, stR_N, stR_Z, stR_S, stR_I, stR_L, stA_C, stA_N, stA_Z, stA_S, stA_L, stA_R, stI_I, stL_L, stR_R, stA_I, stN_C, stN_N, stN_Z, stN_S, stN_I, stN_L, stN_R, stI_ne, stL_ne, stR_ne, tn_0, tn_1, tn_2, tn_3, tn_4, tn_5, tn_6, tn_7, tn_8, tn_9, tn_10, tn_11, tn_12, tn_13, tn_14, tn_15, tn_16, tn_17, tn_18, tn_19, tn_20, tn_21, tn_22, tn_23, tn_24, tn_25, tn_26, tn_27, tn_28, tn_29, tn_30, tn_31, tn_32, tn_33, tn_34, tn_35, tn_36, tn_37, tn_38, tn_39, tn_40, tn_41, tn_42, tn_43, tn_44, tn_45, tn_46, tn_47, tn_48, tn_49, tn_50, tn_51, tn_52, tn_53, tn_54, tn_55, tn_56, tn_57, tn_58, tn_59, tn_60, tn_61, tn_62, tn_63, tn_64, tn_65, tn_66, tn_67, tn_68, tn_69, tn_70, tn_71, tn_72, tn_73, tn_74, tn_75, tn_76, tn_77, tn_78, tn_79, tn_80, tn_81, tn_82, tn_83, tn_84, tn_85, tn_86, tn_87, tn_88, tn_89, tn_90, tn_91, tn_92, tn_93, tn_94, tn_95, tn_96, tn_97, tn_98, tn_99, tn_100, tn_101, tn_102, tn_103, tn_104, tn_105, tn_106, tn_107, tn_108, tn_109, tn_110, tn_111, tn_112, tn_113, tn_114, tn_115, tn_116, tn_117, tn_118, tn_119, tn_120, tn_121, tn_122, tn_123, tn_124, tn_125, tn_126, tn_127, tn_128, tn_129, tn_130, tn_131, tn_132, tn_133, tn_134, tn_135, tn_136, tn_137, tn_138, tn_139, tn_140, tn_141, tn_142, tn_143, tn_144, tn_145, tn_146, tn_147, tn_148, tn_149, tn_150, tn_151, tn_152, tn_153, tn_154, tn_155, tn_156, tn_157, tn_158, tn_159, tn_160, tn_161, tn_162, tn_163, tn_164, tn_165, tn_166, tn_167, tn_168, tn_169, tn_170, tn_171, tn_172, tn_173, tn_174, tn_175, tn_176, tn_177, tn_178, tn_179, tn_180, tn_181, tn_182, tn_183, tn_184, tn_185, tn_186, tn_187, tn_188, tn_189, tn_190, tn_191, tn_192, tn_193, tn_194, tn_195, tn_196, tn_197, tn_198, tn_199, tn_255, tn_256, tn_300, tn_399, tn_400, tn_500, tn_900, tn_999, tn_1000, tn_1001, tn_1024, tn_2048, tn_2176, tn_3536, tn_4095, tn_4096, tn_5580, tn_11160, tn_12345, tn_1103, tn_99999, tn_1000000, tn_1000003, tn_100000000, tn_1000000000, ge0_0, ge0_1, ge0_2, ge0_3, ge0_4, ge0_5, ge0_6, ge0_7, ge0_8, ge0_9, ge0_10, ge0_11, ge0_12, ge0_13, ge0_14, ge0_15, ge0_16, ge0_17, ge0_18, ge0_19, ge0_20, ge0_21, ge0_22, ge0_23, ge0_24, ge0_25, ge0_26, ge0_27, ge0_28, ge0_29, ge0_30, ge0_31, ge0_32, ge0_33, ge0_34, ge0_35, ge0_36, ge0_37, ge0_38, ge0_39, ge0_40, ge0_41, ge0_42, ge0_43, ge0_44, ge0_45, ge0_46, ge0_47, ge0_48, ge0_49, ge0_50, ge0_51, ge0_52, ge0_53, ge0_54, ge0_55, ge0_56, ge0_57, ge0_58, ge0_59, ge0_60, ge0_61, ge0_62, ge0_63, ge0_64, ge0_65, ge0_66, ge0_67, ge0_68, ge0_69, ge0_70, ge0_71, ge0_72, ge0_73, ge0_74, ge0_75, ge0_76, ge0_77, ge0_78, ge0_79, ge0_80, ge0_81, ge0_82, ge0_83, ge0_84, ge0_85, ge0_86, ge0_87, ge0_88, ge0_89, ge0_90, ge0_91, ge0_92, ge0_93, ge0_94, ge0_95, ge0_96, ge0_97, ge0_98, ge0_99, ge0_100, ge0_101, ge0_102, ge0_103, ge0_104, ge0_105, ge0_106, ge0_107, ge0_108, ge0_109, ge0_110, ge0_111, ge0_112, ge0_113, ge0_114, ge0_115, ge0_116, ge0_117, ge0_118, ge0_119, ge0_120, ge0_121, ge0_122, ge0_123, ge0_124, ge0_125, ge0_126, ge0_127, ge0_128, ge0_129, ge0_130, ge0_131, ge0_132, ge0_133, ge0_134, ge0_135, ge0_136, ge0_137, ge0_138, ge0_139, ge0_140, ge0_141, ge0_142, ge0_143, ge0_144, ge0_145, ge0_146, ge0_147, ge0_148, ge0_149, ge0_150, ge0_151, ge0_152, ge0_153, ge0_154, ge0_155, ge0_156, ge0_157, ge0_158, ge0_159, ge0_160, ge0_161, ge0_162, ge0_163, ge0_164, ge0_165, ge0_166, ge0_167, ge0_168, ge0_169, ge0_170, ge0_171, ge0_172, ge0_173, ge0_174, ge0_175, ge0_176, ge0_177, ge0_178, ge0_179, ge0_180, ge0_181, ge0_182, ge0_183, ge0_184, ge0_185, ge0_186, ge0_187, ge0_188, ge0_189, ge0_190, ge0_191, ge0_192, ge0_193, ge0_194, ge0_195, ge0_196, ge0_197, ge0_198, ge0_199, ge0_255, ge0_256, ge0_300, ge0_399, ge0_400, ge0_500, ge0_900, ge0_999, ge0_1000, ge0_1001, ge0_1024, ge0_2048, ge0_2176, ge0_3536, ge0_4095, ge0_4096, ge0_5580, ge0_11160, ge0_12345, ge0_1103, ge0_99999, ge0_1000000, ge0_1000003, ge0_100000000, ge0_1000000000, hC.all, xin, v0, v3, v5, q2, ← hG1, ne10, ne10L, ne01, ne01L, tt_imp, nt_imp, ff_imp, nf_imp, true_and, and_true, true_or, or_true, reduceIte]
  exact hgo
