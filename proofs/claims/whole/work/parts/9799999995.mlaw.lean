theorem MSC.fr {W : Nat → Nat → Bool} {G G' : XH} {bd : Bool} {b : Nat → Nat} {len : Nat} {od : Bool} {p c : Nat} {J : Nat → Nat × Nat} {q : Nat} (h : MSC G bd b len od p c J q) (hf : Fr W G G') (h1 : ∀ k, ¬ k = 21 → W 70 k = false) (h2 : ∀ a k, a = 79 ∨ a = 81 ∨ a = 82 ∨ a = 85 ∨ a = 86 ∨ a = 87 → W a k = false) : MSC G' bd b len od p c J q := by
  obtain ⟨⟨m1, m2, m3, m4, m5, m6, m7, m8⟩, a2, a3, a4, a5, a6, a7, a8, a9, a10⟩ := h
  have i := fun k hk => hf.I (h1 k hk)
  have hwo : hpL G' 70 17 = hpL G 70 17 := hf.L (h1 _ (by decide))
  exact ⟨⟨hf.ms m1, m2.fr hf (fun k => h2 _ k (by simp)), (i _ (by decide)).trans m3, (i _ (by decide)).trans m4, (i _ (by decide)).trans m5, (i _ (by decide)).trans m6, by rw [hwo]; exact m7, m8⟩, a2.fr hf (fun k => h2 _ k (by simp)) (fun k => h2 _ k (by simp)) (fun k => h2 _ k (by simp)), (i _ (by decide)).trans a3, (i _ (by decide)).trans a4, (i _ (by decide)).trans a5, (i _ (by decide)).trans a6, (i _ (by decide)).trans a7, a8, fun k hk => ⟨(hf.I (h2 _ k (by simp))).trans (a9 k hk).1, (hf.I (h2 _ k (by simp))).trans (a9 k hk).2⟩, a10⟩
theorem MSC.nx {G G' : XH} {b : Nat → Nat} {len : Nat} {od : Bool} {p p' c : Nat} {J : Nat → Nat × Nat} {q : Nat} (h : MSC G false b len od p c J q) (hf : Fr WNx G G') (hg : MLx G' b len p') (hp : p ≤ p') : MSC G' false b len od p' c J q := by
  obtain ⟨a1, a2, a3, a4, a5, a6, a7, a8, a9, a10⟩ := h
  exact ⟨hg, a2.mx (hf.mono WNx_WMx), (hf.I rfl).trans a3, (hf.I rfl).trans a4, (hf.I rfl).trans a5, (hf.I rfl).trans a6, (hf.I rfl).trans a7, by omega, fun k hk => ⟨(hf.I rfl).trans (a9 k hk).1, (hf.I rfl).trans (a9 k hk).2⟩, a10⟩
theorem s_mustC {G : XH} {b : Nat → Nat} {len : Nat} {od : Bool} {p c : Nat} {J : Nat → Nat × Nat} {q : Nat} (h : MSC G false b len od p c J q) (x : Bool) : SP D_Mdl_must [.ref 70, .int (if x then 1 else 0)] G (fun z => z.1 = none ∧ Fr WMx G z.2 ∧ MSC z.2 (!x) b len od (if x then nxB b len p else p) c J q) := by
  have hM := h.1.1
  have h19 : hpI G 70 19 = 0 := h.2.2.2.1
  have h14 := h.1.2.2.2.1
  have hp := h.1.2.2.2.2.2.2.2
  rw [e_Mdl_must]
  cases x with
  | true =>
    simp only [k_Mdl_must_0, k_Mdl_must_24, w_iadd, w_isub, w_imul, w_iand, w_ior, w_ixor, w_ishl, w_ishr, w_iushr, w_idiv, w_irem, w_ineg, w_ladd, w_lsub, w_lmul, w_ldiv, w_lrem, w_i2l, w_l2i, w_i2c, w_lcmp, w_dup_int, w_pop_int, w_dup_ref, w_pop_ref, w_dup_retAddr, w_pop_retAddr, w_dup2, w_I, w_L, w_Null, w_Ild, w_Lld, w_Ald, w_Ist, w_Lst, w_Ast, w_Iinc, w_if_eq, w_icmp_eq, w_if_ne, w_icmp_ne, w_if_lt, w_icmp_lt, w_if_ge, w_icmp_ge, w_if_gt, w_icmp_gt, w_if_le, w_icmp_le, w_GetI, w_GetL, w_GetR, w_PutI, w_PutZ, w_PutL, w_PutR, w_PutN, w_Iald, w_Zald, w_Lald, w_Aald, w_Iast, w_Zast, w_Last, w_AastR, w_AastN, w_Alen, w_New, w_NewA, w_Mna, w_Iret, w_Zret, w_Cret, w_Bret, w_Lret, w_AretR, w_AretN, w_Vret, w_Obj, w_IfNN, w_IfNR, w_Copy, w_Cln, w_Cast, w_SfA, w_SfI, w_SfQ, w_Str, w_ScLd, w_ScLen, w_CV0, w_CS0, w_CV1, w_CS1, w_CV2, w_CS2, w_CV3, w_CS3, w_CV4, w_CS4, w_CV5, w_CS5, List.getElem?_cons_zero, List.getElem?_cons_succ, List.set_cons_zero, List.set_cons_succ, List.length_cons, List.length_nil, List.map_cons, List.map_nil, List.sum_cons, List.sum_nil, List.nil_append, List.cons_append, Option.toList_some, Option.toList_none, Value.category, xok, va_rf, true_and, and_true, and_self, Nat.reduceAdd, Nat.reduceLT, Nat.reduceLeDiff, Nat.reduceEqDiff, Nat.reduceMul, beq_self_eq_true, decide_true, ite_true, ite_false, if_true, if_false, reduceIte, Bool.true_eq_false, Bool.false_eq_true, eq_self_iff_true, Nat.zero_le, not_true_eq_false, not_false_eq_true, forall_const, false_implies, implies_true, forall_false, hM.all, h19, reduceIte, ne10, ne10L, ne01, ne01L, tt_imp, nt_imp, ff_imp, nf_imp, true_and, and_true, true_or, or_true, reduceIte]
    refine SP.mono (s_next h.1) ?_
    rintro ⟨v, G2⟩ ⟨rfl, f2, h2⟩
    dsimp only at f2 h2
    simp only [Option.toList_none, List.nil_append, k_Mdl_must_35, w_iadd, w_isub, w_imul, w_iand, w_ior, w_ixor, w_ishl, w_ishr, w_iushr, w_idiv, w_irem, w_ineg, w_ladd, w_lsub, w_lmul, w_ldiv, w_lrem, w_i2l, w_l2i, w_i2c, w_lcmp, w_dup_int, w_pop_int, w_dup_ref, w_pop_ref, w_dup_retAddr, w_pop_retAddr, w_dup2, w_I, w_L, w_Null, w_Ild, w_Lld, w_Ald, w_Ist, w_Lst, w_Ast, w_Iinc, w_if_eq, w_icmp_eq, w_if_ne, w_icmp_ne, w_if_lt, w_icmp_lt, w_if_ge, w_icmp_ge, w_if_gt, w_icmp_gt, w_if_le, w_icmp_le, w_GetI, w_GetL, w_GetR, w_PutI, w_PutZ, w_PutL, w_PutR, w_PutN, w_Iald, w_Zald, w_Lald, w_Aald, w_Iast, w_Zast, w_Last, w_AastR, w_AastN, w_Alen, w_New, w_NewA, w_Mna, w_Iret, w_Zret, w_Cret, w_Bret, w_Lret, w_AretR, w_AretN, w_Vret, w_Obj, w_IfNN, w_IfNR, w_Copy, w_Cln, w_Cast, w_SfA, w_SfI, w_SfQ, w_Str, w_ScLd, w_ScLen, w_CV0, w_CS0, w_CV1, w_CS1, w_CV2, w_CS2, w_CV3, w_CS3, w_CV4, w_CS4, w_CV5, w_CS5, List.getElem?_cons_zero, List.getElem?_cons_succ, List.set_cons_zero, List.set_cons_succ, List.length_cons, List.length_nil, List.map_cons, List.map_nil, List.sum_cons, List.sum_nil, List.nil_append, List.cons_append, Option.toList_some, Option.toList_none, Value.category, xok, va_rf, true_and, and_true, and_self, Nat.reduceAdd, Nat.reduceLT, Nat.reduceLeDiff, Nat.reduceEqDiff, Nat.reduceMul, beq_self_eq_true, decide_true, ite_true, ite_false, if_true, if_false, reduceIte, Bool.true_eq_false, Bool.false_eq_true, eq_self_iff_true, Nat.zero_le, not_true_eq_false, not_false_eq_true, forall_const, false_implies, implies_true, forall_false, ne10, ne10L, ne01, ne01L, tt_imp, nt_imp, ff_imp, nf_imp, true_and, and_true, true_or, or_true, reduceIte]
    exact ⟨f2.mono WNx_WMx, h.nx f2 h2 (nx_ge hp)⟩
  | false =>
    obtain ⟨G2, hG2⟩ : ∃ G2, G2 = stI (stI G 70 19 1) 70 18 (nI p) := ⟨_, rfl⟩
    have f2 : Fr WMx G G2 := by rw [hG2]; exact (Fr.refl.wI rfl).wI rfl
    have i2 : ∀ a, ¬ a = 70 → hpI G2 a = hpI G a := fun a ha => by rw [hG2, stI_up, hpI_stA_ne ha, stI_up, hpI_stA_ne ha]
    have j2 : ∀ k, ¬ k = 19 → ¬ k = 18 → hpI G2 70 k = hpI G 70 k := fun k h1 h2 => by rw [hG2, stI_up, hpI_stA, up_ne h2, stI_up, hpI_stA, up_ne h1]
    have b19 : hpI G2 70 19 = 1 := by rw [hG2, stI_up, hpI_stA, up_ne (by decide), stI_up, hpI_stA, up_eq]
    have b18 : hpI G2 70 18 = nI p := by rw [hG2, stI_up, hpI_stA, up_eq]
    have hM2 := f2.ms hM
    simp only [k_Mdl_must_0, k_Mdl_must_24, k_Mdl_must_35, w_iadd, w_isub, w_imul, w_iand, w_ior, w_ixor, w_ishl, w_ishr, w_iushr, w_idiv, w_irem, w_ineg, w_ladd, w_lsub, w_lmul, w_ldiv, w_lrem, w_i2l, w_l2i, w_i2c, w_lcmp, w_dup_int, w_pop_int, w_dup_ref, w_pop_ref, w_dup_retAddr, w_pop_retAddr, w_dup2, w_I, w_L, w_Null, w_Ild, w_Lld, w_Ald, w_Ist, w_Lst, w_Ast, w_Iinc, w_if_eq, w_icmp_eq, w_if_ne, w_icmp_ne, w_if_lt, w_icmp_lt, w_if_ge, w_icmp_ge, w_if_gt, w_icmp_gt, w_if_le, w_icmp_le, w_GetI, w_GetL, w_GetR, w_PutI, w_PutZ, w_PutL, w_PutR, w_PutN, w_Iald, w_Zald, w_Lald, w_Aald, w_Iast, w_Zast, w_Last, w_AastR, w_AastN, w_Alen, w_New, w_NewA, w_Mna, w_Iret, w_Zret, w_Cret, w_Bret, w_Lret, w_AretR, w_AretN, w_Vret, w_Obj, w_IfNN, w_IfNR, w_Copy, w_Cln, w_Cast, w_SfA, w_SfI, w_SfQ, w_Str, w_ScLd, w_ScLen, w_CV0, w_CS0, w_CV1, w_CS1, w_CV2, w_CS2, w_CV3, w_CS3, w_CV4, w_CS4, w_CV5, w_CS5, List.getElem?_cons_zero, List.getElem?_cons_succ, List.set_cons_zero, List.set_cons_succ, List.length_cons, List.length_nil, List.map_cons, List.map_nil, List.sum_cons, List.sum_nil, List.nil_append, List.cons_append, Option.toList_some, Option.toList_none, Value.category, xok, va_rf, true_and, and_true, and_self, Nat.reduceAdd, Nat.reduceLT, Nat.reduceLeDiff, Nat.reduceEqDiff, Nat.reduceMul, beq_self_eq_true, decide_true, ite_true, ite_false, if_true, if_false, reduceIte, Bool.true_eq_false, Bool.false_eq_true, eq_self_iff_true, Nat.zero_le, not_true_eq_false, not_false_eq_true, forall_const, false_implies, implies_true, forall_false, stI_C, stI_N, stI_Z, stI_S, stI_L, stI_R, stL_C, stL_N, stL_Z, stL_S, stL_I, stL_R, stR_C, stR_N, stR_Z, stR_S, stR_I, stR_L, stA_C, stA_N, stA_Z, stA_S, stA_L, stA_R, stI_I, stL_L, stR_R, stA_I, stN_C, stN_N, stN_Z, stN_S, stN_I, stN_L, stN_R, stI_ne, stL_ne, stR_ne, tn_0, tn_1, tn_2, tn_3, tn_4, tn_5, tn_6, tn_7, tn_8, tn_9, tn_10, tn_11, tn_12, tn_13, tn_14, tn_15, tn_16, tn_17, tn_18, tn_19, tn_20, tn_21, tn_22, tn_23, tn_24, tn_25, tn_26, tn_27, tn_28, tn_29, tn_30, tn_31, tn_32, tn_33, tn_34, tn_35, tn_36, tn_37, tn_38, tn_39, tn_40, tn_41, tn_42, tn_43, tn_44, tn_45, tn_46, tn_47, tn_48, tn_49, tn_50, tn_51, tn_52, tn_53, tn_54, tn_55, tn_56, tn_57, tn_58, tn_59, tn_60, tn_61, tn_62, tn_63, tn_64, tn_65, tn_66, tn_67, tn_68, tn_69, tn_70, tn_71, tn_72, tn_73, tn_74, tn_75, tn_76, tn_77, tn_78, tn_79, tn_80, tn_81, tn_82, tn_83, tn_84, tn_85, tn_86, tn_87, tn_88, tn_89, tn_90, tn_91, tn_92, tn_93, tn_94, tn_95, tn_96, tn_97, tn_98, tn_99, tn_100, tn_101, tn_102, tn_103, tn_104, tn_105, tn_106, tn_107, tn_108, tn_109, tn_110, tn_111, tn_112, tn_113, tn_114, tn_115, tn_116, tn_117, tn_118, tn_119, tn_120, tn_121, tn_122, tn_123, tn_124, tn_125, tn_126, tn_127, tn_128, tn_129, tn_130, tn_131, tn_132, tn_133, tn_134, tn_135, tn_136, tn_137, tn_138, tn_139, tn_140, tn_141, tn_142, tn_143, tn_144, tn_145, tn_146, tn_147, tn_148, tn_149, tn_150, tn_151, tn_152, tn_153, tn_154, tn_155, tn_156, tn_157, tn_158, tn_159, tn_160, tn_161, tn_162, tn_163, tn_164, tn_165, tn_166, tn_167, tn_168, tn_169, tn_170, tn_171, tn_172, tn_173, tn_174, tn_175, tn_176, tn_177, tn_178, tn_179, tn_180, tn_181, tn_182, tn_183, tn_184, tn_185, tn_186, tn_187, tn_188, tn_189, tn_190, tn_191, tn_192, tn_193, tn_194, tn_195, tn_196, tn_197, tn_198, tn_199, tn_255, tn_256, tn_300, tn_399, tn_400, tn_500, tn_900, tn_999, tn_1000, tn_1001, tn_1024, tn_2048, tn_2176, tn_3536, tn_4095, tn_4096, tn_5580, tn_11160, tn_12345, tn_1103, tn_99999, tn_1000000, tn_1000003, tn_100000000, tn_1000000000, ge0_0, ge0_1, ge0_2, ge0_3, ge0_4, ge0_5, ge0_6, ge0_7, ge0_8, ge0_9, ge0_10, ge0_11, ge0_12, ge0_13, ge0_14, ge0_15, ge0_16, ge0_17, ge0_18, ge0_19, ge0_20, ge0_21, ge0_22, ge0_23, ge0_24, ge0_25, ge0_26, ge0_27, ge0_28, ge0_29, ge0_30, ge0_31, ge0_32, ge0_33, ge0_34, ge0_35, ge0_36, ge0_37, ge0_38, ge0_39, ge0_40, ge0_41, ge0_42, ge0_43, ge0_44, ge0_45, ge0_46, ge0_47, ge0_48, ge0_49, ge0_50, ge0_51, ge0_52, ge0_53, ge0_54, ge0_55, ge0_56, ge0_57, ge0_58, ge0_59, ge0_60, ge0_61, ge0_62, ge0_63, ge0_64, ge0_65, ge0_66, ge0_67, ge0_68, ge0_69, ge0_70, ge0_71, ge0_72, ge0_73, ge0_74, ge0_75, ge0_76, ge0_77, ge0_78, ge0_79, ge0_80, ge0_81, ge0_82, ge0_83, ge0_84, ge0_85, ge0_86, ge0_87, ge0_88, ge0_89, ge0_90, ge0_91, ge0_92, ge0_93, ge0_94, ge0_95, ge0_96, ge0_97, ge0_98, ge0_99, ge0_100, ge0_101, ge0_102, ge0_103, ge0_104, ge0_105, ge0_106, ge0_107, ge0_108, ge0_109, ge0_110, ge0_111, ge0_112, ge0_113, ge0_114, ge0_115, ge0_116, ge0_117, ge0_118, ge0_119, ge0_120, ge0_121, ge0_122, ge0_123, ge0_124, ge0_125, ge0_126, ge0_127, ge0_128, ge0_129, ge0_130, ge0_131, ge0_132, ge0_133, ge0_134, ge0_135, ge0_136, ge0_137, ge0_138, ge0_139, ge0_140, ge0_141, ge0_142, ge0_143, ge0_144, ge0_145, ge0_146, ge0_147, ge0_148, ge0_149, ge0_150, ge0_151, ge0_152, ge0_153, ge0_154, ge0_155, ge0_156, ge0_157, ge0_158, ge0_159, ge0_160, ge0_161, ge0_162, ge0_163, ge0_164, ge0_165, ge0_166, ge0_167, ge0_168, ge0_169, ge0_170, ge0_171, ge0_172, ge0_173, ge0_174, ge0_175, ge0_176, ge0_177, ge0_178, ge0_179, ge0_180, ge0_181, ge0_182, ge0_183, ge0_184, ge0_185, ge0_186, ge0_187, ge0_188, ge0_189, ge0_190, ge0_191, ge0_192, ge0_193, ge0_194, ge0_195, ge0_196, ge0_197, ge0_198, ge0_199, ge0_255, ge0_256, ge0_300, ge0_399, ge0_400, ge0_500, ge0_900, ge0_999, ge0_1000, ge0_1001, ge0_1024, ge0_2048, ge0_2176, ge0_3536, ge0_4095, ge0_4096, ge0_5580, ge0_11160, ge0_12345, ge0_1103, ge0_99999, ge0_1000000, ge0_1000003, ge0_100000000, ge0_1000000000, hM.all, h19, h14, ← hG2, hM2.all, b19, reduceIte, Bool.false_eq_true, ne10, ne10L, ne01, ne01L, tt_imp, nt_imp, ff_imp, nf_imp, true_and, and_true, true_or, or_true, reduceIte]
    obtain ⟨⟨m1, m2, m3, m4, m5, m6, m7, m8⟩, a2, a3, a4, a5, a6, a7, a8, a9, a10⟩ := h
    have hL : hpL G2 = hpL G := by rw [hG2]; rfl
    exact ⟨f2, ⟨hM2, m2.fr f2 (fun _ => rfl), (j2 _ (by decide) (by decide)).trans m3, (j2 _ (by decide) (by decide)).trans m4, (j2 _ (by decide) (by decide)).trans m5, (j2 _ (by decide) (by decide)).trans m6, by rw [hL]; exact m7, m8⟩, a2.mx f2, (j2 _ (by decide) (by decide)).trans a3, b19, b18, (j2 _ (by decide) (by decide)).trans a6, (j2 _ (by decide) (by decide)).trans a7, a8, fun k hk => by rw [i2 _ (by decide), i2 _ (by decide)]; exact a9 k hk, a10⟩
/-- a sum's code, or none -/
def SMj (nw : Nat) (od : Bool) (J : Nat → Nat × Nat) (p q : Nat) (f : SF) : Prop := (p < q ∧ ∃ h, h < 64 ∧ OKJ nw od J p q h f) ∨ (p = q ∧ f = f1)
theorem SMj.le {nw : Nat} {od : Bool} {J : Nat → Nat × Nat} {p q : Nat} {f : SF} (h : SMj nw od J p q f) : p ≤ q := by
  rcases h with z | z <;> omega
theorem SMj.congr {nw : Nat} {od : Bool} {J J' : Nat → Nat × Nat} {p q : Nat} {f : SF} (k : SMj nw od J p q f) (e : ∀ k, p ≤ k → k < q → J' k = J k) : SMj nw od J' p q f := by
  rcases k with ⟨h, h', hh, k⟩ | k
  · exact Or.inl ⟨h, h', hh, k.congr e⟩
  · exact Or.inr k
def PWj (nw : Nat) (od : Bool) (J : Nat → Nat × Nat) (p q : Nat) : Prop := RG nw (dI od J) p q ∧ ∀ k, p ≤ k → k < q → MIJ od (J k)
theorem SMj.pw {nw : Nat} {od : Bool} {J : Nat → Nat × Nat} {p q : Nat} {f : SF} (k : SMj nw od J p q f) : PWj nw od J p q := by
  rcases k with ⟨h, h', _, k⟩ | ⟨rfl, _⟩
  · exact ⟨k.1.2.2.2, k.2⟩
  · exact ⟨fun k z1 z2 => absurd z2 (by omega), fun k z1 z2 => absurd z2 (by omega)⟩
theorem PWj.app {nw : Nat} {od : Bool} {J : Nat → Nat × Nat} {p q r : Nat} (h1 : PWj nw od J p q) (h2 : PWj nw od J q r) (hq : q ≤ r) : PWj nw od J p r := ⟨fun k z1 z2 => by
  rcases (show k < q ∨ q ≤ k by omega) with y | y
  · exact h1.1.le hq k z1 y
  · exact h2.1 k y z2, fun k z1 z2 => by
  rcases (show k < q ∨ q ≤ k by omega) with y | y
  · exact h1.2 k z1 y
  · exact h2.2 k y z2⟩
theorem PWj.congr {nw : Nat} {od : Bool} {J J' : Nat → Nat × Nat} {p q : Nat} (k : PWj nw od J p q) (e : ∀ k, p ≤ k → k < q → J' k = J k) : PWj nw od J' p q := ⟨fun j h1 h2 => by unfold dI; rw [e j h1 h2]; exact k.1 j h1 h2, fun j h1 h2 => by rw [e j h1 h2]; exact k.2 j h1 h2⟩
theorem PWj.nil {nw : Nat} {od : Bool} {J : Nat → Nat × Nat} {p : Nat} : PWj nw od J p p := ⟨fun k z1 z2 => absurd z2 (by omega), fun k z1 z2 => absurd z2 (by omega)⟩
/-- a clause of a law, as the model has read it -/
def CMl (A : Nat → Int32) (J : Nat → Nat × Nat) (i : Nat) (cl : CLd) (lim : Nat) : Prop := ∃ p0 p1 p3, A (8 * i) = nI cl.1 ∧ A (8 * i + 3) = nI p0 ∧ A (8 * i + 4) = nI p1 ∧ A (8 * i + 5) = nI p1 ∧ A (8 * i + 6) = nI p3 ∧ SMj 10 false J p0 p1 cl.2.1 ∧ SMj 10 false J p1 p3 cl.2.2.2.2 ∧ p3 ≤ lim ∧ cl.1 ≤ 4 ∧ (cl.1 < 3 → p0 < p1) ∧ (3 ≤ cl.1 → cl.2.1 = f1)
def WRl : Nat → Nat → Bool := fun a k => WMx a k || a == 80 || (a == 70 && k == 21)
theorem WMx_WRl (a k : Nat) (h : WRl a k = false) : WMx a k = false := by
  unfold WRl at h
  simp only [Bool.or_eq_false_iff] at h
  exact h.1.1
def WNc : Nat → Nat → Bool := fun a k => a == 80 || (a == 70 && k == 21)
theorem WNc_WRl (a k : Nat) (h : WRl a k = false) : WNc a k = false := by
  unfold WRl at h
  unfold WNc
  simp only [Bool.or_eq_false_iff] at h ⊢
  exact ⟨h.1.2, h.2⟩
theorem MSC.nc {G G' : XH} {bd : Bool} {b : Nat → Nat} {len : Nat} {od : Bool} {p c : Nat} {J : Nat → Nat × Nat} {q : Nat} (h : MSC G bd b len od p c J q) (hf : Fr WNc G G') : MSC G' bd b len od p c J q := h.fr hf (fun k hk => by unfold WNc; simp; exact hk) (fun a k ha => by unfold WNc; rcases ha with rfl | rfl | rfl | rfl | rfl | rfl <;> simp)
/-- what a law's clause leaves -/
def RLr (b : Nat → Nat) (len n c : Nat) (J : Nat → Nat × Nat) (q : Nat) (A : Nat → Int32) (o : Except Nat (Nat × Nat × CLd)) (G' : XH) : Prop := match o with
  | .error e => ∃ c' J' q', MSC G' true b len false e c' J' q'
  | .ok s => ∃ J' q', MSC G' false b len false s.1 s.2.1 J' q' ∧ (∀ j, j < q → J' j = J j) ∧ q ≤ q' ∧ hpI G' 70 21 = nI (n + 1) ∧ (∀ j, j < 8 * n → hpI G' 80 j = A j) ∧ CMl (hpI G' 80) J' n s.2.2 q' ∧ PWj 10 false J' q q'
theorem wk_if : wdk wIf := ⟨by decide, by decide, by decide⟩
/-- behind a clause's sum -/
theorem rl_135 {b : Nat → Nat} {len : Nat} {n c0 : Nat} {J0 : Nat → Nat × Nat} {q0 : Nat} {A : Nat → Int32} {G0 G : XH} {hd : Nat} {sm : SF} (hn : n < 12) (hhd : hd ≤ 4) (fr : Fr WRl G0 G) (hA : ∀ j, j < 8 * n → hpI G 80 j = A j) (h0 : hpI G 80 (8 * n) = nI hd) (h3 : hpI G 80 (8 * n + 3) = nI q0) (hnc : hpI G 70 21 = nI (n + 1)) {R : Except Nat (Nat × Nat × CLd)} {x1 x3 : Int32} (hst : (∃ e c' J' q', R = .error e ∧ MSC G true b len false e c' J' q') ∨ (∃ p c J q, MSC G false b len false p c J q ∧ (∀ j, j < q0 → J j = J0 j) ∧ SMj 10 false J q0 q sm ∧ c0 ≤ c ∧ (hd < 3 → q0 < q) ∧ (3 ≤ hd → sm = f1) ∧ R = (if isW b len wIf p then (match gTest b len false 8 (nxB b len p) c with
      | .error e => .error e
      | .ok s => .ok (s.1, s.2.1, hd, sm, none, 1, s.2.2)) else .ok (p, c, hd, sm, none, 1, f1)))) : WP k_Mdl_readLaw_135 [some (.ref 70), some (.int x1), some (.int (nI (8 * n))), some (.int x3)] [] G (fun z => z.1 = none ∧ Fr WRl G0 z.2 ∧ RLr b len n c0 J0 q0 A R z.2) := by
  have e4 : nI (8 * n) + 4 = nI (8 * n + 4) := nI_add _ 4
  have e5 : nI (8 * n) + 5 = nI (8 * n + 5) := nI_add _ 5
  have e6 : nI (8 * n) + 6 = nI (8 * n + 6) := nI_add _ 6
  have p4 : 0 ≤ nI (8 * n + 4) := nI_pos' (by omega)
  have c4 : (nI (8 * n + 4)).toNatClampNeg = 8 * n + 4 := nI_clamp (by omega)
  have l4 : 8 * n + 4 < 96 := by omega
  have p5 : 0 ≤ nI (8 * n + 5) := nI_pos' (by omega)
  have c5 : (nI (8 * n + 5)).toNatClampNeg = 8 * n + 5 := nI_clamp (by omega)
  have l5 : 8 * n + 5 < 96 := by omega
  have p6 : 0 ≤ nI (8 * n + 6) := nI_pos' (by omega)
  have c6 : (nI (8 * n + 6)).toNatClampNeg = 8 * n + 6 := nI_clamp (by omega)
  have l6 : 8 * n + 6 < 96 := by omega
  have hM : MS G := by
    rcases hst with ⟨e, c', J', q', _, z⟩ | ⟨p, c, J, q, z, _⟩
    · exact z.1.1
    · exact z.1.1
  obtain ⟨z, hz⟩ : ∃ z, z = hpI G 70 23 := ⟨_, rfl⟩
  have hz' := hz.symm
  obtain ⟨G1, hG1⟩ : ∃ G1, G1 = stI (stI G 80 (8 * n + 4) z) 80 (8 * n + 5) z := ⟨_, rfl⟩
  have fr1 : Fr WNc G G1 := by rw [hG1]; exact (Fr.refl.wI rfl).wI rfl
  have hM1 := fr1.ms hM
  have A1 : hpI G1 80 = up (up (hpI G 80) (8 * n + 4) z) (8 * n + 5) z := by rw [hG1, stI_up, hpI_stA, stI_up, hpI_stA]
  have m1 : ∀ k, hpI G1 70 k = hpI G 70 k := fun k => by rw [hG1, stI_up, hpI_stA_ne (by decide), stI_up, hpI_stA_ne (by decide)]
  have f01 : Fr WRl G0 G1 := fr.trans (fr1.mono WNc_WRl)
  have h185 : ∀ (G2 : XH) (v : Int32), MS G2 → hpI G2 70 23 = v → Fr WRl G0 G2 → (∀ G3, G3 = stI G2 80 (8 * n + 6) v → Fr WNc G2 G3 → RLr b len n c0 J0 q0 A R G3) → WP k_Mdl_readLaw_185 [some (.ref 70), some (.int x1), some (.int (nI (8 * n))), some (.int x3)] [] G2 (fun z => z.1 = none ∧ Fr WRl G0 z.2 ∧ RLr b len n c0 J0 q0 A R z.2) := by
    intro G2 v hM2 hv f02 hR
    have fr3 : Fr WNc G2 (stI G2 80 (8 * n + 6) v) := Fr.refl.wI rfl
    simp only [k_Mdl_readLaw_185, w_iadd, w_isub, w_imul, w_iand, w_ior, w_ixor, w_ishl, w_ishr, w_iushr, w_idiv, w_irem, w_ineg, w_ladd, w_lsub, w_lmul, w_ldiv, w_lrem, w_i2l, w_l2i, w_i2c, w_lcmp, w_dup_int, w_pop_int, w_dup_ref, w_pop_ref, w_dup_retAddr, w_pop_retAddr, w_dup2, w_I, w_L, w_Null, w_Ild, w_Lld, w_Ald, w_Ist, w_Lst, w_Ast, w_Iinc, w_if_eq, w_icmp_eq, w_if_ne, w_icmp_ne, w_if_lt, w_icmp_lt, w_if_ge, w_icmp_ge, w_if_gt, w_icmp_gt, w_if_le, w_icmp_le, w_GetI, w_GetL, w_GetR, w_PutI, w_PutZ, w_PutL, w_PutR, w_PutN, w_Iald, w_Zald, w_Lald, w_Aald, w_Iast, w_Zast, w_Last, w_AastR, w_AastN, w_Alen, w_New, w_NewA, w_Mna, w_Iret, w_Zret, w_Cret, w_Bret, w_Lret, w_AretR, w_AretN, w_Vret, w_Obj, w_IfNN, w_IfNR, w_Copy, w_Cln, w_Cast, w_SfA, w_SfI, w_SfQ, w_Str, w_ScLd, w_ScLen, w_CV0, w_CS0, w_CV1, w_CS1, w_CV2, w_CS2, w_CV3, w_CS3, w_CV4, w_CS4, w_CV5, w_CS5, List.getElem?_cons_zero, List.getElem?_cons_succ, List.set_cons_zero, List.set_cons_succ, List.length_cons, List.length_nil, List.map_cons, List.map_nil, List.sum_cons, List.sum_nil, List.nil_append, List.cons_append, Option.toList_some, Option.toList_none, Value.category, xok, va_rf, true_and, and_true, and_self, Nat.reduceAdd, Nat.reduceLT, Nat.reduceLeDiff, Nat.reduceEqDiff, Nat.reduceMul, beq_self_eq_true, decide_true, ite_true, ite_false, if_true, if_false, reduceIte, Bool.true_eq_false, Bool.false_eq_true, eq_self_iff_true, Nat.zero_le, not_true_eq_false, not_false_eq_true, forall_const, false_implies, implies_true, forall_false, stI_C, stI_N, stI_Z, stI_S, stI_L, stI_R, stL_C, stL_N, stL_Z, stL_S, stL_I, stL_R, stR_C, stR_N, stR_Z, stR_S, stR_I, stR_L, stA_C, stA_N, stA_Z, stA_S, stA_L, stA_R, stI_I, stL_L, stR_R, stA_I, stN_C, stN_N, stN_Z, stN_S, stN_I, stN_L, stN_R, stI_ne, stL_ne, stR_ne, hM2.all, hv, e6, xin, p6, c6, l6, ne10, ne10L, ne01, ne01L, tt_imp, nt_imp, ff_imp, nf_imp, true_and, and_true, true_or, or_true, reduceIte]
    exact ⟨f02.trans (fr3.mono WNc_WRl), hR _ rfl fr3⟩
  rcases hst with ⟨e, c', J', q', rfl, hb⟩ | ⟨p, c, J, q, hm, hlow, hsm, hcc, hlt, hf1, rfl⟩
  · have b19 : hpI G1 70 19 = 1 := by rw [m1]; exact hb.2.2.2.1
    have := h185 G1 _ hM1 rfl f01 (fun G3 e3 fr3 => ⟨_, _, _, (hb.nc fr1).nc fr3⟩)
    simp only [k_Mdl_readLaw_135, w_iadd, w_isub, w_imul, w_iand, w_ior, w_ixor, w_ishl, w_ishr, w_iushr, w_idiv, w_irem, w_ineg, w_ladd, w_lsub, w_lmul, w_ldiv, w_lrem, w_i2l, w_l2i, w_i2c, w_lcmp, w_dup_int, w_pop_int, w_dup_ref, w_pop_ref, w_dup_retAddr, w_pop_retAddr, w_dup2, w_I, w_L, w_Null, w_Ild, w_Lld, w_Ald, w_Ist, w_Lst, w_Ast, w_Iinc, w_if_eq, w_icmp_eq, w_if_ne, w_icmp_ne, w_if_lt, w_icmp_lt, w_if_ge, w_icmp_ge, w_if_gt, w_icmp_gt, w_if_le, w_icmp_le, w_GetI, w_GetL, w_GetR, w_PutI, w_PutZ, w_PutL, w_PutR, w_PutN, w_Iald, w_Zald, w_Lald, w_Aald, w_Iast, w_Zast, w_Last, w_AastR, w_AastN, w_Alen, w_New, w_NewA, w_Mna, w_Iret, w_Zret, w_Cret, w_Bret, w_Lret, w_AretR, w_AretN, w_Vret, w_Obj, w_IfNN, w_IfNR, w_Copy, w_Cln, w_Cast, w_SfA, w_SfI, w_SfQ, w_Str, w_ScLd, w_ScLen, w_CV0, w_CS0, w_CV1, w_CS1, w_CV2, w_CS2, w_CV3, w_CS3, w_CV4, w_CS4, w_CV5, w_CS5, List.getElem?_cons_zero, List.getElem?_cons_succ, List.set_cons_zero, List.set_cons_succ, List.length_cons, List.length_nil, List.map_cons, List.map_nil, List.sum_cons, List.sum_nil, List.nil_append, List.cons_append, Option.toList_some, Option.toList_none, Value.category, xok, va_rf, true_and, and_true, and_self, Nat.reduceAdd, Nat.reduceLT, Nat.reduceLeDiff, Nat.reduceEqDiff, Nat.reduceMul, beq_self_eq_true, decide_true, ite_true, ite_false, if_true, if_false, reduceIte, Bool.true_eq_false, Bool.false_eq_true, eq_self_iff_true, Nat.zero_le, not_true_eq_false, not_false_eq_true, forall_const, false_implies, implies_true, forall_false, stI_C, stI_N, stI_Z, stI_S, stI_L, stI_R, stL_C, stL_N, stL_Z, stL_S, stL_I, stL_R, stR_C, stR_N, stR_Z, stR_S, stR_I, stR_L, stA_C, stA_N, stA_Z, stA_S, stA_L, stA_R, stI_I, stL_L, stR_R, stA_I, stN_C, stN_N, stN_Z, stN_S, stN_I, stN_L, stN_R, stI_ne, stL_ne, stR_ne, hM.all, hz', e4, e5, xin, p4, c4, l4, p5, c5, l5, ← hG1, hM1.all, b19, ne10, ne10L, ne01, ne01L, tt_imp, nt_imp, ff_imp, nf_imp, true_and, and_true, true_or, or_true, reduceIte]
    exact this
  · have b19 : hpI G1 70 19 = 0 := by rw [m1]; exact hm.2.2.2.1
    have ez : z = nI q := by rw [hz]; exact hm.2.2.2.2.2.2.1
    have hm1 := hm.nc fr1
    have si : ∀ Q, SP D_Mdl_isWord [.ref 70, .long 294] G1 Q = Q (some (.int (if isW b len wIf p then 1 else 0)), G1) := fun Q => s_isWord hm1.1 wk_if (by decide) Q
    have hq0 := hsm.le
    cases qi : isW b len wIf p with
    | false =>
      rw [if_neg Bool.false_ne_true]
      have hfin : WP k_Mdl_readLaw_185 [some (.ref 70), some (.int x1), some (.int (nI (8 * n))), some (.int x3)] [] G1 (fun z => z.1 = none ∧ Fr WRl G0 z.2 ∧ RLr b len n c0 J0 q0 A (.ok (p, c, hd, sm, none, 1, f1)) z.2) := by
        have e0 : (if isW b len wIf p then (match gTest b len false 8 (nxB b len p) c with
          | .error e => .error e
          | .ok s => .ok (s.1, s.2.1, hd, sm, none, 1, s.2.2)) else .ok (p, c, hd, sm, none, 1, f1) : Except Nat (Nat × Nat × CLd)) = .ok (p, c, hd, sm, none, 1, f1) := by rw [qi]; rfl
        rw [e0] at h185
        refine h185 G1 (nI q) hM1 hm1.2.2.2.2.2.2.1 f01 (fun G3 e3 fr3 => ?_)
        have A3 : hpI G3 80 = up (hpI G1 80) (8 * n + 6) (nI q) := by rw [e3, stI_up, hpI_stA]
        have m3 : ∀ k, hpI G3 70 k = hpI G1 70 k := fun k => by rw [e3, stI_up, hpI_stA_ne (by decide)]
        refine ⟨J, q, hm1.nc fr3, hlow, hq0, by rw [m3, m1]; exact hnc, fun j hj => by rw [A3, A1, up_ne (by omega), up_ne (by omega), up_ne (by omega)]; exact hA j hj, ⟨q0, q, q, ?_, ?_, ?_, ?_, ?_, hsm, Or.inr ⟨rfl, rfl⟩, Nat.le_refl _, hhd, hlt, hf1⟩, hsm.pw⟩
        · rw [A3, A1, up_ne (by omega), up_ne (by omega), up_ne (by omega)]; exact h0
        · rw [A3, A1, up_ne (by omega), up_ne (by omega), up_ne (by omega)]; exact h3
        · rw [A3, A1, up_ne (by omega), up_ne (by omega), up_eq]; exact ez
        · rw [A3, A1, up_ne (by omega), up_eq]; exact ez
        · rw [A3, up_eq]
      simp only [k_Mdl_readLaw_135, w_iadd, w_isub, w_imul, w_iand, w_ior, w_ixor, w_ishl, w_ishr, w_iushr, w_idiv, w_irem, w_ineg, w_ladd, w_lsub, w_lmul, w_ldiv, w_lrem, w_i2l, w_l2i, w_i2c, w_lcmp, w_dup_int, w_pop_int, w_dup_ref, w_pop_ref, w_dup_retAddr, w_pop_retAddr, w_dup2, w_I, w_L, w_Null, w_Ild, w_Lld, w_Ald, w_Ist, w_Lst, w_Ast, w_Iinc, w_if_eq, w_icmp_eq, w_if_ne, w_icmp_ne, w_if_lt, w_icmp_lt, w_if_ge, w_icmp_ge, w_if_gt, w_icmp_gt, w_if_le, w_icmp_le, w_GetI, w_GetL, w_GetR, w_PutI, w_PutZ, w_PutL, w_PutR, w_PutN, w_Iald, w_Zald, w_Lald, w_Aald, w_Iast, w_Zast, w_Last, w_AastR, w_AastN, w_Alen, w_New, w_NewA, w_Mna, w_Iret, w_Zret, w_Cret, w_Bret, w_Lret, w_AretR, w_AretN, w_Vret, w_Obj, w_IfNN, w_IfNR, w_Copy, w_Cln, w_Cast, w_SfA, w_SfI, w_SfQ, w_Str, w_ScLd, w_ScLen, w_CV0, w_CS0, w_CV1, w_CS1, w_CV2, w_CS2, w_CV3, w_CS3, w_CV4, w_CS4, w_CV5, w_CS5, List.getElem?_cons_zero, List.getElem?_cons_succ, List.set_cons_zero, List.set_cons_succ, List.length_cons, List.length_nil, List.map_cons, List.map_nil, List.sum_cons, List.sum_nil, List.nil_append, List.cons_append, Option.toList_some, Option.toList_none, Value.category, xok, va_rf, true_and, and_true, and_self, Nat.reduceAdd, Nat.reduceLT, Nat.reduceLeDiff, Nat.reduceEqDiff, Nat.reduceMul, beq_self_eq_true, decide_true, ite_true, ite_false, if_true, if_false, reduceIte, Bool.true_eq_false, Bool.false_eq_true, eq_self_iff_true, Nat.zero_le, not_true_eq_false, not_false_eq_true, forall_const, false_implies, implies_true, forall_false, stI_C, stI_N, stI_Z, stI_S, stI_L, stI_R, stL_C, stL_N, stL_Z, stL_S, stL_I, stL_R, stR_C, stR_N, stR_Z, stR_S, stR_I, stR_L, stA_C, stA_N, stA_Z, stA_S, stA_L, stA_R, stI_I, stL_L, stR_R, stA_I, stN_C, stN_N, stN_Z, stN_S, stN_I, stN_L, stN_R, stI_ne, stL_ne, stR_ne, hM.all, hz', e4, e5, xin, p4, c4, l4, p5, c5, l5, ← hG1, hM1.all, b19, si, qi, reduceIte, Bool.false_eq_true, ne10, ne10L, ne01, ne01L, tt_imp, nt_imp, ff_imp, nf_imp, true_and, and_true, true_or, or_true, reduceIte]
      exact hfin
    | true =>
      rw [if_pos rfl]
      have hpl : p < len := isW_lt qi
      have npl := (nxB_le (b := b) (len := len) (p := p)).2 hpl
      have hk2 := gTest_ok (b := b) (len := len) (od := false) 8 (nxB b len p) c nxB_le.1
      obtain ⟨R', hR'⟩ : ∃ R' : Except Nat (Nat × Nat × CLd), R' = (match gTest b len false 8 (nxB b len p) c with
        | .error e => .error e
        | .ok s => .ok (s.1, s.2.1, hd, sm, none, 1, s.2.2)) := ⟨_, rfl⟩
      have e0 : (if isW b len wIf p then (match gTest b len false 8 (nxB b len p) c with
          | .error e => .error e
          | .ok s => .ok (s.1, s.2.1, hd, sm, none, 1, s.2.2)) else .ok (p, c, hd, sm, none, 1, f1) : Except Nat (Nat × Nat × CLd)) = R' := by rw [qi, hR']; rfl
      rw [e0] at h185
      have hgoal : SP D_Mdl_next [.ref 70] G1 (fun z => WP (xAld 0 (xI 1 (xCallV 11 1 D_Mdl_readExpression k_Mdl_readLaw_185))) [some (.ref 70), some (.int x1), some (.int (nI (8 * n))), some (.int x3)] (z.1.toList ++ []) z.2 (fun z => z.1 = none ∧ Fr WRl G0 z.2 ∧ RLr b len n c0 J0 q0 A R' z.2)) := by
        refine SP.mono (s_next hm1.1) ?_
        rintro ⟨v2, G2⟩ ⟨rfl, fr2, hl2⟩
        dsimp only at fr2 hl2
        have hm2 := hm1.nx fr2 hl2 (by omega)
        have hM2 := hl2.1
        simp only [Option.toList_none, List.nil_append, w_iadd, w_isub, w_imul, w_iand, w_ior, w_ixor, w_ishl, w_ishr, w_iushr, w_idiv, w_irem, w_ineg, w_ladd, w_lsub, w_lmul, w_ldiv, w_lrem, w_i2l, w_l2i, w_i2c, w_lcmp, w_dup_int, w_pop_int, w_dup_ref, w_pop_ref, w_dup_retAddr, w_pop_retAddr, w_dup2, w_I, w_L, w_Null, w_Ild, w_Lld, w_Ald, w_Ist, w_Lst, w_Ast, w_Iinc, w_if_eq, w_icmp_eq, w_if_ne, w_icmp_ne, w_if_lt, w_icmp_lt, w_if_ge, w_icmp_ge, w_if_gt, w_icmp_gt, w_if_le, w_icmp_le, w_GetI, w_GetL, w_GetR, w_PutI, w_PutZ, w_PutL, w_PutR, w_PutN, w_Iald, w_Zald, w_Lald, w_Aald, w_Iast, w_Zast, w_Last, w_AastR, w_AastN, w_Alen, w_New, w_NewA, w_Mna, w_Iret, w_Zret, w_Cret, w_Bret, w_Lret, w_AretR, w_AretN, w_Vret, w_Obj, w_IfNN, w_IfNR, w_Copy, w_Cln, w_Cast, w_SfA, w_SfI, w_SfQ, w_Str, w_ScLd, w_ScLen, w_CV0, w_CS0, w_CV1, w_CS1, w_CV2, w_CS2, w_CV3, w_CS3, w_CV4, w_CS4, w_CV5, w_CS5, List.getElem?_cons_zero, List.getElem?_cons_succ, List.set_cons_zero, List.set_cons_succ, List.length_cons, List.length_nil, List.map_cons, List.map_nil, List.sum_cons, List.sum_nil, List.nil_append, List.cons_append, Option.toList_some, Option.toList_none, Value.category, xok, va_rf, true_and, and_true, and_self, Nat.reduceAdd, Nat.reduceLT, Nat.reduceLeDiff, Nat.reduceEqDiff, Nat.reduceMul, beq_self_eq_true, decide_true, ite_true, ite_false, if_true, if_false, reduceIte, Bool.true_eq_false, Bool.false_eq_true, eq_self_iff_true, Nat.zero_le, not_true_eq_false, not_false_eq_true, forall_const, false_implies, implies_true, forall_false, hM2.all, ne10, ne10L, ne01, ne01L, tt_imp, nt_imp, ff_imp, nf_imp, true_and, and_true, true_or, or_true, reduceIte]
        refine SP.mono (s_readTest hm2) ?_
        rintro ⟨v4, G4⟩ ⟨rfl, fr4, hx⟩
        dsimp only at fr4 hx
        simp only [Option.toList_none, List.nil_append]
        have f04 : Fr WRl G0 G4 := f01.trans ((fr2.mono (fun a k y => WNx_WMx a k (WMx_WRl a k y))).trans (fr4.mono WMx_WRl))
        have A4 : ∀ j, hpI G4 80 j = hpI G1 80 j := fun j => (fr4.I rfl).trans (fr2.I rfl)
        have m4 : hpI G4 70 21 = nI (n + 1) := (fr4.I rfl).trans ((fr2.I rfl).trans ((m1 _).trans hnc))
        cases hgt : gTest b len false 8 (nxB b len p) c with
        | error e =>
          rw [hgt] at hx hR'
          obtain ⟨c', J', q', hx⟩ := hx
          refine h185 G4 _ hx.1.1 rfl f04 (fun G3 e3 fr3 => ?_)
          rw [hR']
          exact ⟨_, _, _, hx.nc fr3⟩
        | ok s =>
          rw [hgt] at hx hR' hk2
          obtain ⟨J', q', hx, hlx, hok⟩ := hx
          dsimp only at hk2
          have hqq := hok.1.1
          refine h185 G4 (nI q') hx.1.1 hx.2.2.2.2.2.2.1 f04 (fun G3 e3 fr3 => ?_)
          rw [hR']
          have A3 : hpI G3 80 = up (hpI G4 80) (8 * n + 6) (nI q') := by rw [e3, stI_up, hpI_stA]
          have m3 : ∀ k, hpI G3 70 k = hpI G4 70 k := fun k => by rw [e3, stI_up, hpI_stA_ne (by decide)]
          have hsm' := hsm.congr (J' := J') (fun k _ y => hlx k y)
          have hts : SMj 10 false J' q q' s.2.2 := Or.inl ⟨hqq, _, by omega, hok⟩
          refine ⟨J', q', hx.nc fr3, fun j hj => (hlx j (by omega)).trans (hlow j hj), by omega, by rw [m3]; exact m4, fun j hj => by rw [A3, up_ne (by omega), A4, A1, up_ne (by omega), up_ne (by omega)]; exact hA j hj, ⟨q0, q, q', ?_, ?_, ?_, ?_, ?_, hsm', hts, Nat.le_refl _, hhd, hlt, hf1⟩, hsm'.pw.app hts.pw hts.le⟩
          · rw [A3, up_ne (by omega), A4, A1, up_ne (by omega), up_ne (by omega)]; exact h0
          · rw [A3, up_ne (by omega), A4, A1, up_ne (by omega), up_ne (by omega)]; exact h3
          · rw [A3, up_ne (by omega), A4, A1, up_ne (by omega), up_eq]; exact ez
          · rw [A3, up_ne (by omega), A4, A1, up_eq]; exact ez
          · rw [A3, up_eq]
      rw [hR'] at hgoal
      simp only [k_Mdl_readLaw_135, w_iadd, w_isub, w_imul, w_iand, w_ior, w_ixor, w_ishl, w_ishr, w_iushr, w_idiv, w_irem, w_ineg, w_ladd, w_lsub, w_lmul, w_ldiv, w_lrem, w_i2l, w_l2i, w_i2c, w_lcmp, w_dup_int, w_pop_int, w_dup_ref, w_pop_ref, w_dup_retAddr, w_pop_retAddr, w_dup2, w_I, w_L, w_Null, w_Ild, w_Lld, w_Ald, w_Ist, w_Lst, w_Ast, w_Iinc, w_if_eq, w_icmp_eq, w_if_ne, w_icmp_ne, w_if_lt, w_icmp_lt, w_if_ge, w_icmp_ge, w_if_gt, w_icmp_gt, w_if_le, w_icmp_le, w_GetI, w_GetL, w_GetR, w_PutI, w_PutZ, w_PutL, w_PutR, w_PutN, w_Iald, w_Zald, w_Lald, w_Aald, w_Iast, w_Zast, w_Last, w_AastR, w_AastN, w_Alen, w_New, w_NewA, w_Mna, w_Iret, w_Zret, w_Cret, w_Bret, w_Lret, w_AretR, w_AretN, w_Vret, w_Obj, w_IfNN, w_IfNR, w_Copy, w_Cln, w_Cast, w_SfA, w_SfI, w_SfQ, w_Str, w_ScLd, w_ScLen, w_CV0, w_CS0, w_CV1, w_CS1, w_CV2, w_CS2, w_CV3, w_CS3, w_CV4, w_CS4, w_CV5, w_CS5, List.getElem?_cons_zero, List.getElem?_cons_succ, List.set_cons_zero, List.set_cons_succ, List.length_cons, List.length_nil, List.map_cons, List.map_nil, List.sum_cons, List.sum_nil, List.nil_append, List.cons_append, Option.toList_some, Option.toList_none, Value.category, xok, va_rf, true_and, and_true, and_self, Nat.reduceAdd, Nat.reduceLT, Nat.reduceLeDiff, Nat.reduceEqDiff, Nat.reduceMul, beq_self_eq_true, decide_true, ite_true, ite_false, if_true, if_false, reduceIte, Bool.true_eq_false, Bool.false_eq_true, eq_self_iff_true, Nat.zero_le, not_true_eq_false, not_false_eq_true, forall_const, false_implies, implies_true, forall_false, stI_C, stI_N, stI_Z, stI_S, stI_L, stI_R, stL_C, stL_N, stL_Z, stL_S, stL_I, stL_R, stR_C, stR_N, stR_Z, stR_S, stR_I, stR_L, stA_C, stA_N, stA_Z, stA_S, stA_L, stA_R, stI_I, stL_L, stR_R, stA_I, stN_C, stN_N, stN_Z, stN_S, stN_I, stN_L, stN_R, stI_ne, stL_ne, stR_ne, hM.all, hz', e4, e5, xin, p4, c4, l4, p5, c5, l5, ← hG1, hM1.all, b19, si, qi, reduceIte, ne10, ne10L, ne01, ne01L, tt_imp, nt_imp, ff_imp, nf_imp, true_and, and_true, true_or, or_true, reduceIte]
      first | exact hgoal | (simp only [w_iadd, w_isub, w_imul, w_iand, w_ior, w_ixor, w_ishl, w_ishr, w_iushr, w_idiv, w_irem, w_ineg, w_ladd, w_lsub, w_lmul, w_ldiv, w_lrem, w_i2l, w_l2i, w_i2c, w_lcmp, w_dup_int, w_pop_int, w_dup_ref, w_pop_ref, w_dup_retAddr, w_pop_retAddr, w_dup2, w_I, w_L, w_Null, w_Ild, w_Lld, w_Ald, w_Ist, w_Lst, w_Ast, w_Iinc, w_if_eq, w_icmp_eq, w_if_ne, w_icmp_ne, w_if_lt, w_icmp_lt, w_if_ge, w_icmp_ge, w_if_gt, w_icmp_gt, w_if_le, w_icmp_le, w_GetI, w_GetL, w_GetR, w_PutI, w_PutZ, w_PutL, w_PutR, w_PutN, w_Iald, w_Zald, w_Lald, w_Aald, w_Iast, w_Zast, w_Last, w_AastR, w_AastN, w_Alen, w_New, w_NewA, w_Mna, w_Iret, w_Zret, w_Cret, w_Bret, w_Lret, w_AretR, w_AretN, w_Vret, w_Obj, w_IfNN, w_IfNR, w_Copy, w_Cln, w_Cast, w_SfA, w_SfI, w_SfQ, w_Str, w_ScLd, w_ScLen, w_CV0, w_CS0, w_CV1, w_CS1, w_CV2, w_CS2, w_CV3, w_CS3, w_CV4, w_CS4, w_CV5, w_CS5, List.getElem?_cons_zero, List.getElem?_cons_succ, List.set_cons_zero, List.set_cons_succ, List.length_cons, List.length_nil, List.map_cons, List.map_nil, List.sum_cons, List.sum_nil, List.nil_append, List.cons_append, Option.toList_some, Option.toList_none, Value.category, xok, va_rf, true_and, and_true, and_self, Nat.reduceAdd, Nat.reduceLT, Nat.reduceLeDiff, Nat.reduceEqDiff, Nat.reduceMul, beq_self_eq_true, decide_true, ite_true, ite_false, if_true, if_false, reduceIte, Bool.true_eq_false, Bool.false_eq_true, eq_self_iff_true, Nat.zero_le, not_true_eq_false, not_false_eq_true, forall_const, false_implies, implies_true, forall_false, ne10, ne10L, ne01, ne01L, tt_imp, nt_imp, ff_imp, nf_imp, true_and, and_true, true_or, or_true, reduceIte] at hgoal; exact hgoal)
