theorem o_node {T : Nat → (Nat → Int64) → Option Int64} {hl : Bool} {R : Nat → Int32} {w n : Nat} {lt : Nat → Nat} {nr nl c : Nat} {M : Nat → Nat → Nat → Nat → Option (Nat × Nat)} {af : Nat → Nat → Nat → Nat} (hMM : M = MPo T hl R w n lt) (haf : af = fun d t k => afO T R w true d t (lt k)) (hR : RW R nr nl c) (hc : c ≤ 400000) (hw : w < nr) (hn : n ≤ 8) (hlt : ∀ k, k < n → lt k < nl ∧ R (60 + 7 * lt k) = nI w ∧ R (62 + 7 * lt k) = 0) (hinj : ∀ j k, j < n → k < n → lt j = lt k → j = k) : ∀ f, NSp T hl R w n lt nr nl c M af (f + 1) := by
  intro f
  have hall : f = 0 ∨ NSp T hl R w n lt nr nl c M af f → NSp T hl R w n lt nr nl c M af (f + 1) := by
    intro hch d done t o pre S Sp m G N X Q a4 a5 h1 h2 h3 h4 h5 h6 h7 h8 h9 h10
    have := o_mid hMM haf hR hc hw hn hlt hinj hch h1 h2 h3 h4 h5 h6 h7 h10 (P := _) rfl n 0 N G a4 a5 (by omega) (by rw [coN] at h9; omega) Fr.refl h6.1.2.2.1 (by rw [h8]; decide) (fun i hi => rfl)
    exact this
  induction f with
  | zero => exact hall (Or.inl rfl)
  | succ f ih =>
    refine hall (Or.inr (ih ?_))
    intro hch d done t o pre S Sp m G N X Q a4 a5 h1 h2 h3 h4 h5 h6 h7 h8 h9 h10
    have := o_mid hMM haf hR hc hw hn hlt hinj hch h1 h2 h3 h4 h5 h6 h7 h10 (P := _) rfl n 0 N G a4 a5 (by omega) (by rw [coN] at h9; omega) Fr.refl h6.1.2.2.1 (by rw [h8]; decide) (fun i hi => rfl)
    exact this
/-- what the search for an order writes in the model -/
def WFq : Nat → Nat → Bool := fun a k => WR a k || (a == 75 && decide (2176 ≤ k)) || a == 94 || a == 95
def WFo : Nat → Nat → Bool := fun a k => WFq a k || a == 93 || (a == 70 && (k == 0 || k == 47))
theorem WFq_WFo (a k : Nat) (h : WFo a k = false) : WFq a k = false := by
  unfold WFo at h
  simp only [Bool.or_eq_false_iff] at h
  exact h.1.1
theorem WNo_WFq (a k : Nat) (h : WFq a k = false) : WNo 0 a k = false := by
  unfold WFq at h
  unfold WNo
  simp only [Bool.or_eq_false_iff, Bool.and_eq_false_iff, decide_eq_false_iff_not] at h ⊢
  obtain ⟨⟨⟨h1, h2⟩, h3⟩, h4⟩ := h
  refine ⟨⟨⟨h1, ?_⟩, Or.inl h3⟩, h4⟩
  rcases h2 with h2 | h2
  · exact Or.inl h2
  · exact Or.inr (by omega)
theorem s_findOrder {G : XH} {T : Nat → (Nat → Int64) → Option Int64} {hl : Bool} {R : Nat → Int32} {w n t : Nat} {lt : Nat → Nat} {nr nl c : Nat} {M : Nat → Nat → Nat → Nat → Option (Nat × Nat)} {af : Nat → Nat → Nat → Nat} (hMM : M = MPo T hl R w n lt) (haf : af = fun d t k => afO T R w true d t (lt k)) (hX : MX G R T hl) (hML : MLt G n lt) (hR : RW R nr nl c) (hc : c ≤ 400000) (hw : w < nr) (hn : n ≤ 8) (hlt : ∀ k, k < n → lt k < nl ∧ R (60 + 7 * lt k) = nI w ∧ R (62 + 7 * lt k) = 0) (hinj : ∀ j k, j < n → k < n → lt j = lt k → j = k) (ht : t ≤ 999) (h11 : R (11 + 6 * w) = nI t) : SP D_Mdl_findOrder [.ref 70] G (fun q => q.1 = some (.int (ansI (M n 0 0 t))) ∧ Fr WFq G q.2 ∧ hpI q.2 72 = R ∧ (¬ M n 0 0 t = none → ∀ i, i < n → hpI q.2 95 i = nI (pthN M af n 0 0 t i))) := by
  have hM := hX.1
  have hrow := hX.2.2.1
  have v8 : hpI G 72 8 = R 8 := by rw [hrow]
  have hka : ∀ Q, SP D_Mdl_keepAll [.ref 70, .int 16] G Q = Q (none, stA G 75 (va_cpy R (hpI G 75) 5 2176 136)) := by
    intro Q
    have := s_keepAll hM Q 16 (by omega)
    rw [hrow] at this
    exact this
  obtain ⟨G1, hG1⟩ : ∃ G1, G1 = stA G 75 (va_cpy R (hpI G 75) 5 2176 136) := ⟨_, rfl⟩
  rw [← hG1] at hka
  have f1 : Fr (fun a k => a == 75 && decide (2176 ≤ k)) G G1 := by
    rw [hG1]
    refine Fr.refl.wA (fun j q => cpy_out (fun z => ?_))
    simp only [beq_self_eq_true, Bool.true_and, decide_eq_false_iff_not] at q
    omega
  have fw1 : Fr WFq G G1 := f1.mono (fun a k q => by
    unfold WFq at q
    simp only [Bool.or_eq_false_iff] at q
    exact q.1.1.2)
  have h1 : MX G1 R T hl := hX.fr f1 rfl (fun _ => rfl)
  have hu1 : ∀ i, i < 136 → hpI G1 75 (2176 + i) = R (5 + i) := by
    intro j hj
    rw [hG1, hpI_stA, cpy_in (by omega)]
    exact congrArg R (by omega)
  have hM1 := h1.1
  have hML1 : MLt G1 n lt := ⟨(f1.I rfl).trans hML.1, fun k hk => (f1.I rfl).trans (hML.2 k hk)⟩
  have h47 := hML1.1
  clear hG1
  rw [e_Mdl_findOrder]
  by_cases hn0 : n = 0
  · subst hn0
    have e0 : (nI 0 = 0) = True := eq_true rfl
    obtain ⟨B, hB⟩ : ∃ B : XK, k_Mdl_findOrder_0 = (xAld 0 (xGetR 11 3 (xI 8 (xIaldh (xIst 1 (xI (-1) (xIst 2 (xI 0 (xIst 3 (xAld 0 (xI 16 (xCallV 11 1 D_Mdl_keepAll (xAld 0 (xGetI 11 47 (xif_ne B (xI 0 (xIret ())))))))))))))))))  := ⟨_, rfl⟩
    rw [hB]
    simp only [w_iadd, w_isub, w_imul, w_iand, w_ior, w_ixor, w_ishl, w_ishr, w_iushr, w_idiv, w_irem, w_ineg, w_ladd, w_lsub, w_lmul, w_ldiv, w_lrem, w_i2l, w_l2i, w_i2c, w_lcmp, w_dup_int, w_pop_int, w_dup_ref, w_pop_ref, w_dup_retAddr, w_pop_retAddr, w_dup2, w_I, w_L, w_Null, w_Ild, w_Lld, w_Ald, w_Ist, w_Lst, w_Ast, w_Iinc, w_if_eq, w_icmp_eq, w_if_ne, w_icmp_ne, w_if_lt, w_icmp_lt, w_if_ge, w_icmp_ge, w_if_gt, w_icmp_gt, w_if_le, w_icmp_le, w_GetI, w_GetL, w_GetR, w_PutI, w_PutZ, w_PutL, w_PutR, w_PutN, w_Iald, w_Zald, w_Lald, w_Aald, w_Iast, w_Zast, w_Last, w_AastR, w_AastN, w_Alen, w_New, w_NewA, w_Mna, w_Iret, w_Zret, w_Cret, w_Bret, w_Lret, w_AretR, w_AretN, w_Vret, w_Obj, w_IfNN, w_IfNR, w_Copy, w_Cln, w_Cast, w_SfA, w_SfI, w_SfQ, w_Str, w_ScLd, w_ScLen, w_CV0, w_CS0, w_CV1, w_CS1, w_CV2, w_CS2, w_CV3, w_CS3, w_CV4, w_CS4, w_CV5, w_CS5, List.getElem?_cons_zero, List.getElem?_cons_succ, List.set_cons_zero, List.set_cons_succ, List.length_cons, List.length_nil, List.map_cons, List.map_nil, List.sum_cons, List.sum_nil, List.nil_append, List.cons_append, Option.toList_some, Option.toList_none, Value.category, xok, va_rf, true_and, and_true, and_self, Nat.reduceAdd, Nat.reduceLT, Nat.reduceLeDiff, Nat.reduceEqDiff, Nat.reduceMul, beq_self_eq_true, decide_true, ite_true, ite_false, if_true, if_false, reduceIte, Bool.true_eq_false, Bool.false_eq_true, eq_self_iff_true, Nat.zero_le, not_true_eq_false, not_false_eq_true, forall_const, false_implies, implies_true, forall_false, stI_C, stI_N, stI_Z, stI_S, stI_L, stI_R, stL_C, stL_N, stL_Z, stL_S, stL_I, stL_R, stR_C, stR_N, stR_Z, stR_S, stR_I, stR_L, stA_C, stA_N, stA_Z, stA_S, stA_L, stA_R, stI_I, stL_L, stR_R, stA_I, stN_C, stN_N, stN_Z, stN_S, stN_I, stN_L, stN_R, stI_ne, stL_ne, stR_ne, tn_0, tn_1, tn_2, tn_3, tn_4, tn_5, tn_6, tn_7, tn_8, tn_9, tn_10, tn_11, tn_12, tn_13, tn_14, tn_15, tn_16, tn_17, tn_18, tn_19, tn_20, tn_21, tn_22, tn_23, tn_24, tn_25, tn_26, tn_27, tn_28, tn_29, tn_30, tn_31, tn_32, tn_33, tn_34, tn_35, tn_36, tn_37, tn_38, tn_39, tn_40, tn_41, tn_42, tn_43, tn_44, tn_45, tn_46, tn_47, tn_48, tn_49, tn_50, tn_51, tn_52, tn_53, tn_54, tn_55, tn_56, tn_57, tn_58, tn_59, tn_60, tn_61, tn_62, tn_63, tn_64, tn_65, tn_66, tn_67, tn_68, tn_69, tn_70, tn_71, tn_72, tn_73, tn_74, tn_75, tn_76, tn_77, tn_78, tn_79, tn_80, tn_81, tn_82, tn_83, tn_84, tn_85, tn_86, tn_87, tn_88, tn_89, tn_90, tn_91, tn_92, tn_93, tn_94, tn_95, tn_96, tn_97, tn_98, tn_99, tn_100, tn_101, tn_102, tn_103, tn_104, tn_105, tn_106, tn_107, tn_108, tn_109, tn_110, tn_111, tn_112, tn_113, tn_114, tn_115, tn_116, tn_117, tn_118, tn_119, tn_120, tn_121, tn_122, tn_123, tn_124, tn_125, tn_126, tn_127, tn_128, tn_129, tn_130, tn_131, tn_132, tn_133, tn_134, tn_135, tn_136, tn_137, tn_138, tn_139, tn_140, tn_141, tn_142, tn_143, tn_144, tn_145, tn_146, tn_147, tn_148, tn_149, tn_150, tn_151, tn_152, tn_153, tn_154, tn_155, tn_156, tn_157, tn_158, tn_159, tn_160, tn_161, tn_162, tn_163, tn_164, tn_165, tn_166, tn_167, tn_168, tn_169, tn_170, tn_171, tn_172, tn_173, tn_174, tn_175, tn_176, tn_177, tn_178, tn_179, tn_180, tn_181, tn_182, tn_183, tn_184, tn_185, tn_186, tn_187, tn_188, tn_189, tn_190, tn_191, tn_192, tn_193, tn_194, tn_195, tn_196, tn_197, tn_198, tn_199, tn_255, tn_256, tn_300, tn_399, tn_400, tn_500, tn_900, tn_999, tn_1000, tn_1001, tn_1024, tn_2048, tn_2176, tn_3536, tn_4095, tn_4096, tn_5580, tn_11160, tn_12345, tn_1103, tn_99999, tn_1000000, tn_1000003, tn_100000000, tn_1000000000, ge0_0, ge0_1, ge0_2, ge0_3, ge0_4, ge0_5, ge0_6, ge0_7, ge0_8, ge0_9, ge0_10, ge0_11, ge0_12, ge0_13, ge0_14, ge0_15, ge0_16, ge0_17, ge0_18, ge0_19, ge0_20, ge0_21, ge0_22, ge0_23, ge0_24, ge0_25, ge0_26, ge0_27, ge0_28, ge0_29, ge0_30, ge0_31, ge0_32, ge0_33, ge0_34, ge0_35, ge0_36, ge0_37, ge0_38, ge0_39, ge0_40, ge0_41, ge0_42, ge0_43, ge0_44, ge0_45, ge0_46, ge0_47, ge0_48, ge0_49, ge0_50, ge0_51, ge0_52, ge0_53, ge0_54, ge0_55, ge0_56, ge0_57, ge0_58, ge0_59, ge0_60, ge0_61, ge0_62, ge0_63, ge0_64, ge0_65, ge0_66, ge0_67, ge0_68, ge0_69, ge0_70, ge0_71, ge0_72, ge0_73, ge0_74, ge0_75, ge0_76, ge0_77, ge0_78, ge0_79, ge0_80, ge0_81, ge0_82, ge0_83, ge0_84, ge0_85, ge0_86, ge0_87, ge0_88, ge0_89, ge0_90, ge0_91, ge0_92, ge0_93, ge0_94, ge0_95, ge0_96, ge0_97, ge0_98, ge0_99, ge0_100, ge0_101, ge0_102, ge0_103, ge0_104, ge0_105, ge0_106, ge0_107, ge0_108, ge0_109, ge0_110, ge0_111, ge0_112, ge0_113, ge0_114, ge0_115, ge0_116, ge0_117, ge0_118, ge0_119, ge0_120, ge0_121, ge0_122, ge0_123, ge0_124, ge0_125, ge0_126, ge0_127, ge0_128, ge0_129, ge0_130, ge0_131, ge0_132, ge0_133, ge0_134, ge0_135, ge0_136, ge0_137, ge0_138, ge0_139, ge0_140, ge0_141, ge0_142, ge0_143, ge0_144, ge0_145, ge0_146, ge0_147, ge0_148, ge0_149, ge0_150, ge0_151, ge0_152, ge0_153, ge0_154, ge0_155, ge0_156, ge0_157, ge0_158, ge0_159, ge0_160, ge0_161, ge0_162, ge0_163, ge0_164, ge0_165, ge0_166, ge0_167, ge0_168, ge0_169, ge0_170, ge0_171, ge0_172, ge0_173, ge0_174, ge0_175, ge0_176, ge0_177, ge0_178, ge0_179, ge0_180, ge0_181, ge0_182, ge0_183, ge0_184, ge0_185, ge0_186, ge0_187, ge0_188, ge0_189, ge0_190, ge0_191, ge0_192, ge0_193, ge0_194, ge0_195, ge0_196, ge0_197, ge0_198, ge0_199, ge0_255, ge0_256, ge0_300, ge0_399, ge0_400, ge0_500, ge0_900, ge0_999, ge0_1000, ge0_1001, ge0_1024, ge0_2048, ge0_2176, ge0_3536, ge0_4095, ge0_4096, ge0_5580, ge0_11160, ge0_12345, ge0_1103, ge0_99999, ge0_1000000, ge0_1000003, ge0_100000000, ge0_1000000000, hM.all, xin, v8, hka, hM1.all, h47, e0, ne10, ne10L, ne01, ne01L, tt_imp, nt_imp, ff_imp, nf_imp, true_and, and_true, true_or, or_true, reduceIte]
    refine ⟨?_, fw1, h1.2.2.1, fun _ i hi => absurd hi (by omega)⟩
    rw [hMM]
    rfl
  · have e0 : (nI n = 0) = False := eq_false (fun z => hn0 ((nI_eq (b := 0) (by omega) (by omega)).mp z))
    have hgo : WP k_Mdl_findOrder_34 [some (.ref 70), some (.int (R 8)), some (.int (moI none)), some (.int (nI 0)), none, none] [] (stI G1 94 0 (-1)) (fun q => q.1 = some (.int (ansI (M n 0 0 t))) ∧ Fr WFq G q.2 ∧ hpI q.2 72 = R ∧ (¬ M n 0 0 t = none → ∀ i, i < n → hpI q.2 95 i = nI (pthN M af n 0 0 t i))) := by
      obtain ⟨f, rfl⟩ : ∃ f, n = f + 1 := ⟨n - 1, by omega⟩
      obtain ⟨G2, hG2⟩ : ∃ G2, G2 = stI G1 94 0 (-1) := ⟨_, rfl⟩
      have f2 : Fr (fun a _ => a == 94) G1 G2 := by
        rw [hG2]
        exact Fr.refl.wI rfl
      have fw2 : Fr WFq G G2 := fw1.trans (f2.mono (fun a k q => by
        unfold WFq at q
        simp only [Bool.or_eq_false_iff] at q
        exact q.1.2))
      have o2 : hpI G2 94 0 = -1 := by rw [hG2, stI_up, hpI_stA, up_eq]
      rw [← hG2]
      have hX2 : MX G2 R T hl := h1.fr f2 rfl (fun _ => rfl)
      have hML2 : MLt G2 (f + 1) lt := ⟨(f2.I rfl).trans hML1.1, fun k hk => (f2.I rfl).trans (hML1.2 k hk)⟩
      have hN := co_le (n := f + 1) hn (f + 1)
      have hp : 10 ^ (f + 1) ≤ 10 ^ 8 := Nat.pow_le_pow_right (by omega) hn
      have hp8 : 10 ^ 8 = NF := rfl
      have hO : OSt R R w true nr nl c 0 t 0 (rdB (f + 1) 0 lt) := by
        rw [rdB_0]
        exact OSt.zero hR h11
      refine o_node hMM haf hR hc hw hn hlt hinj f 0 0 t 0 (fun _ => 0) R R none G2 NF 1 _ none none (by omega) ht (by omega) (fun v hv => by cases hv) hO ⟨hX2, hML2, fun i hi => (f2.I rfl).trans (hu1 i hi), fun i hi => absurd hi (by omega)⟩ (Or.inl ⟨rfl, rfl⟩) o2 (by omega) ?_
      rintro N' G3 a4 a5 hN' ⟨r1, r2, r3⟩
      obtain ⟨N1, rfl⟩ : ∃ N1, N' = N1 + 1 := ⟨N' - 1, by omega⟩
      rw [xloop_s]
      generalize xloop f_Mdl_findOrder_34 N1 = K
      obtain ⟨B, hB⟩ : ∃ B : XK, f_Mdl_findOrder_34 K = (xIld 3 (xif_lt (xIld 2 (xIret ())) B)) := ⟨_, rfl⟩
      rw [hB]
      obtain ⟨dm, hdm⟩ : ∃ dm, dm = nI 0 + Int32.ofInt (-1) := ⟨_, rfl⟩
      have gl : (dm < 0) = True := eq_true (by rw [hdm]; decide)
      rw [← hdm]
      simp only [w_iadd, w_isub, w_imul, w_iand, w_ior, w_ixor, w_ishl, w_ishr, w_iushr, w_idiv, w_irem, w_ineg, w_ladd, w_lsub, w_lmul, w_ldiv, w_lrem, w_i2l, w_l2i, w_i2c, w_lcmp, w_dup_int, w_pop_int, w_dup_ref, w_pop_ref, w_dup_retAddr, w_pop_retAddr, w_dup2, w_I, w_L, w_Null, w_Ild, w_Lld, w_Ald, w_Ist, w_Lst, w_Ast, w_Iinc, w_if_eq, w_icmp_eq, w_if_ne, w_icmp_ne, w_if_lt, w_icmp_lt, w_if_ge, w_icmp_ge, w_if_gt, w_icmp_gt, w_if_le, w_icmp_le, w_GetI, w_GetL, w_GetR, w_PutI, w_PutZ, w_PutL, w_PutR, w_PutN, w_Iald, w_Zald, w_Lald, w_Aald, w_Iast, w_Zast, w_Last, w_AastR, w_AastN, w_Alen, w_New, w_NewA, w_Mna, w_Iret, w_Zret, w_Cret, w_Bret, w_Lret, w_AretR, w_AretN, w_Vret, w_Obj, w_IfNN, w_IfNR, w_Copy, w_Cln, w_Cast, w_SfA, w_SfI, w_SfQ, w_Str, w_ScLd, w_ScLen, w_CV0, w_CS0, w_CV1, w_CS1, w_CV2, w_CS2, w_CV3, w_CS3, w_CV4, w_CS4, w_CV5, w_CS5, List.getElem?_cons_zero, List.getElem?_cons_succ, List.set_cons_zero, List.set_cons_succ, List.length_cons, List.length_nil, List.map_cons, List.map_nil, List.sum_cons, List.sum_nil, List.nil_append, List.cons_append, Option.toList_some, Option.toList_none, Value.category, xok, va_rf, true_and, and_true, and_self, Nat.reduceAdd, Nat.reduceLT, Nat.reduceLeDiff, Nat.reduceEqDiff, Nat.reduceMul, beq_self_eq_true, decide_true, ite_true, ite_false, if_true, if_false, reduceIte, Bool.true_eq_false, Bool.false_eq_true, eq_self_iff_true, Nat.zero_le, not_true_eq_false, not_false_eq_true, forall_const, false_implies, implies_true, forall_false, gl, ne10, ne10L, ne01, ne01L, tt_imp, nt_imp, ff_imp, nf_imp, true_and, and_true, true_or, or_true, reduceIte]
      refine ⟨?_, fw2.trans (r1.mono WNo_WFq), r2, fun hne i hi => ?_⟩
      · cases M (f + 1) 0 0 t with
        | none => rfl
        | some q =>
          show some (Value.int (nI (0 + q.1))) = some (Value.int (nI q.1))
          rw [Nat.zero_add]
      · rw [r3 i hi]
        cases hq : M (f + 1) 0 0 t with
        | none => exact absurd hq hne
        | some q =>
          rw [if_pos (show beB none 0 (some q) = true from rfl)]
          unfold paE
          rw [if_neg (by omega)]
          rfl
    simp only [k_Mdl_findOrder_0, w_iadd, w_isub, w_imul, w_iand, w_ior, w_ixor, w_ishl, w_ishr, w_iushr, w_idiv, w_irem, w_ineg, w_ladd, w_lsub, w_lmul, w_ldiv, w_lrem, w_i2l, w_l2i, w_i2c, w_lcmp, w_dup_int, w_pop_int, w_dup_ref, w_pop_ref, w_dup_retAddr, w_pop_retAddr, w_dup2, w_I, w_L, w_Null, w_Ild, w_Lld, w_Ald, w_Ist, w_Lst, w_Ast, w_Iinc, w_if_eq, w_icmp_eq, w_if_ne, w_icmp_ne, w_if_lt, w_icmp_lt, w_if_ge, w_icmp_ge, w_if_gt, w_icmp_gt, w_if_le, w_icmp_le, w_GetI, w_GetL, w_GetR, w_PutI, w_PutZ, w_PutL, w_PutR, w_PutN, w_Iald, w_Zald, w_Lald, w_Aald, w_Iast, w_Zast, w_Last, w_AastR, w_AastN, w_Alen, w_New, w_NewA, w_Mna, w_Iret, w_Zret, w_Cret, w_Bret, w_Lret, w_AretR, w_AretN, w_Vret, w_Obj, w_IfNN, w_IfNR, w_Copy, w_Cln, w_Cast, w_SfA, w_SfI, w_SfQ, w_Str, w_ScLd, w_ScLen, w_CV0, w_CS0, w_CV1, w_CS1, w_CV2, w_CS2, w_CV3, w_CS3, w_CV4, w_CS4, w_CV5, w_CS5, List.getElem?_cons_zero, List.getElem?_cons_succ, List.set_cons_zero, List.set_cons_succ, List.length_cons, List.length_nil, List.map_cons, List.map_nil, List.sum_cons, List.sum_nil, List.nil_append, List.cons_append, Option.toList_some, Option.toList_none, Value.category, xok, va_rf, true_and, and_true, and_self, Nat.reduceAdd, Nat.reduceLT, Nat.reduceLeDiff, Nat.reduceEqDiff, Nat.reduceMul, beq_self_eq_true, decide_true, ite_true, ite_false, if_true, if_false, reduceIte, Bool.true_eq_false, Bool.false_eq_true, eq_self_iff_true, Nat.zero_le, not_true_eq_false, not_false_eq_true, forall_const, false_implies, implies_true, forall_false, stI_C, stI_N, stI_Z, stI_S, stI_L, stI_R, stL_C, stL_N, stL_Z, stL_S, stL_I, stL_R, stR_C, stR_N, stR_Z, stR_S, stR_I, stR_L, stA_C, stA_N, stA_Z, stA_S, stA_L, stA_R, stI_I, stL_L, stR_R, stA_I, stN_C, stN_N, stN_Z, stN_S, stN_I, stN_L, stN_R, stI_ne, stL_ne, stR_ne, tn_0, tn_1, tn_2, tn_3, tn_4, tn_5, tn_6, tn_7, tn_8, tn_9, tn_10, tn_11, tn_12, tn_13, tn_14, tn_15, tn_16, tn_17, tn_18, tn_19, tn_20, tn_21, tn_22, tn_23, tn_24, tn_25, tn_26, tn_27, tn_28, tn_29, tn_30, tn_31, tn_32, tn_33, tn_34, tn_35, tn_36, tn_37, tn_38, tn_39, tn_40, tn_41, tn_42, tn_43, tn_44, tn_45, tn_46, tn_47, tn_48, tn_49, tn_50, tn_51, tn_52, tn_53, tn_54, tn_55, tn_56, tn_57, tn_58, tn_59, tn_60, tn_61, tn_62, tn_63, tn_64, tn_65, tn_66, tn_67, tn_68, tn_69, tn_70, tn_71, tn_72, tn_73, tn_74, tn_75, tn_76, tn_77, tn_78, tn_79, tn_80, tn_81, tn_82, tn_83, tn_84, tn_85, tn_86, tn_87, tn_88, tn_89, tn_90, tn_91, tn_92, tn_93, tn_94, tn_95, tn_96, tn_97, tn_98, tn_99, tn_100, tn_101, tn_102, tn_103, tn_104, tn_105, tn_106, tn_107, tn_108, tn_109, tn_110, tn_111, tn_112, tn_113, tn_114, tn_115, tn_116, tn_117, tn_118, tn_119, tn_120, tn_121, tn_122, tn_123, tn_124, tn_125, tn_126, tn_127, tn_128, tn_129, tn_130, tn_131, tn_132, tn_133, tn_134, tn_135, tn_136, tn_137, tn_138, tn_139, tn_140, tn_141, tn_142, tn_143, tn_144, tn_145, tn_146, tn_147, tn_148, tn_149, tn_150, tn_151, tn_152, tn_153, tn_154, tn_155, tn_156, tn_157, tn_158, tn_159, tn_160, tn_161, tn_162, tn_163, tn_164, tn_165, tn_166, tn_167, tn_168, tn_169, tn_170, tn_171, tn_172, tn_173, tn_174, tn_175, tn_176, tn_177, tn_178, tn_179, tn_180, tn_181, tn_182, tn_183, tn_184, tn_185, tn_186, tn_187, tn_188, tn_189, tn_190, tn_191, tn_192, tn_193, tn_194, tn_195, tn_196, tn_197, tn_198, tn_199, tn_255, tn_256, tn_300, tn_399, tn_400, tn_500, tn_900, tn_999, tn_1000, tn_1001, tn_1024, tn_2048, tn_2176, tn_3536, tn_4095, tn_4096, tn_5580, tn_11160, tn_12345, tn_1103, tn_99999, tn_1000000, tn_1000003, tn_100000000, tn_1000000000, ge0_0, ge0_1, ge0_2, ge0_3, ge0_4, ge0_5, ge0_6, ge0_7, ge0_8, ge0_9, ge0_10, ge0_11, ge0_12, ge0_13, ge0_14, ge0_15, ge0_16, ge0_17, ge0_18, ge0_19, ge0_20, ge0_21, ge0_22, ge0_23, ge0_24, ge0_25, ge0_26, ge0_27, ge0_28, ge0_29, ge0_30, ge0_31, ge0_32, ge0_33, ge0_34, ge0_35, ge0_36, ge0_37, ge0_38, ge0_39, ge0_40, ge0_41, ge0_42, ge0_43, ge0_44, ge0_45, ge0_46, ge0_47, ge0_48, ge0_49, ge0_50, ge0_51, ge0_52, ge0_53, ge0_54, ge0_55, ge0_56, ge0_57, ge0_58, ge0_59, ge0_60, ge0_61, ge0_62, ge0_63, ge0_64, ge0_65, ge0_66, ge0_67, ge0_68, ge0_69, ge0_70, ge0_71, ge0_72, ge0_73, ge0_74, ge0_75, ge0_76, ge0_77, ge0_78, ge0_79, ge0_80, ge0_81, ge0_82, ge0_83, ge0_84, ge0_85, ge0_86, ge0_87, ge0_88, ge0_89, ge0_90, ge0_91, ge0_92, ge0_93, ge0_94, ge0_95, ge0_96, ge0_97, ge0_98, ge0_99, ge0_100, ge0_101, ge0_102, ge0_103, ge0_104, ge0_105, ge0_106, ge0_107, ge0_108, ge0_109, ge0_110, ge0_111, ge0_112, ge0_113, ge0_114, ge0_115, ge0_116, ge0_117, ge0_118, ge0_119, ge0_120, ge0_121, ge0_122, ge0_123, ge0_124, ge0_125, ge0_126, ge0_127, ge0_128, ge0_129, ge0_130, ge0_131, ge0_132, ge0_133, ge0_134, ge0_135, ge0_136, ge0_137, ge0_138, ge0_139, ge0_140, ge0_141, ge0_142, ge0_143, ge0_144, ge0_145, ge0_146, ge0_147, ge0_148, ge0_149, ge0_150, ge0_151, ge0_152, ge0_153, ge0_154, ge0_155, ge0_156, ge0_157, ge0_158, ge0_159, ge0_160, ge0_161, ge0_162, ge0_163, ge0_164, ge0_165, ge0_166, ge0_167, ge0_168, ge0_169, ge0_170, ge0_171, ge0_172, ge0_173, ge0_174, ge0_175, ge0_176, ge0_177, ge0_178, ge0_179, ge0_180, ge0_181, ge0_182, ge0_183, ge0_184, ge0_185, ge0_186, ge0_187, ge0_188, ge0_189, ge0_190, ge0_191, ge0_192, ge0_193, ge0_194, ge0_195, ge0_196, ge0_197, ge0_198, ge0_199, ge0_255, ge0_256, ge0_300, ge0_399, ge0_400, ge0_500, ge0_900, ge0_999, ge0_1000, ge0_1001, ge0_1024, ge0_2048, ge0_2176, ge0_3536, ge0_4095, ge0_4096, ge0_5580, ge0_11160, ge0_12345, ge0_1103, ge0_99999, ge0_1000000, ge0_1000003, ge0_100000000, ge0_1000000000, hM.all, xin, v8, hka, hM1.all, h47, e0, ne10, ne10L, ne01, ne01L, tt_imp, nt_imp, ff_imp, nf_imp, true_and, and_true, true_or, or_true, reduceIte]
    exact hgo
