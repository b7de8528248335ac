def WOc : Nat → Nat → Bool := fun a k => WRe a k || WRc a k || WTa a k || WTb a k || a == 46 || a == 69 || (a == 0 && (k == 16 || k == 17 || k == 18))
theorem WRe_WOc (a k : Nat) (h : WOc a k = false) : WRe a k = false := by
  unfold WOc at h
  simp only [Bool.or_eq_false_iff] at h
  exact h.1.1.1.1.1.1
theorem WRc_WOc (a k : Nat) (h : WOc a k = false) : WRc a k = false := by
  unfold WOc at h
  simp only [Bool.or_eq_false_iff] at h
  exact h.1.1.1.1.1.2
theorem WTa_WOc (a k : Nat) (h : WOc a k = false) : WTa a k = false := by
  unfold WOc at h
  simp only [Bool.or_eq_false_iff] at h
  exact h.1.1.1.1.2
theorem WTb_WOc (a k : Nat) (h : WOc a k = false) : WTb a k = false := by
  unfold WOc at h
  simp only [Bool.or_eq_false_iff] at h
  exact h.1.1.1.2
/-- what can be undone, in the class -/
def UCx (G : XH) (U : US) : Prop := ∃ p, p < 16 ∧ hpI G 8 3 = nI U.1 ∧ hpI G 8 2 = nI p ∧ CUr (fun i => hpI G (10 + i)) (hpI G 26) p U
/-- what orders leave in the class -/
def OcQ (T : Nat → (Nat → Int64) → Option Int64) (hl : Bool) (A B : Nat → Nat) (n nr nl : Nat) (b : Nat → Nat) (len : Nat) (R : Nat → Int32) (U : US) (G : XH) (z : XR) : Prop := FC WOc G z.2 ∧ hpI z.2 47 1 = 0 ∧ ∃ v, z.1 = some (.int v) ∧ hpI z.2 0 16 = stM1 v ∧ hpI z.2 69 = rfC (hpI G 69) v ∧ match gText b len true with
  | .error e => v = -6 ∧ hpI z.2 0 17 = nI e ∧ hpI z.2 0 18 = -1 ∧ hpI z.2 2 = hpI G 2 ∧ UnC G z.2
  | .ok L => hpI z.2 0 17 = -1 ∧ match oGo T hl A B n nr nl L L.length 0 (R, 0, -1, U) with
    | .error k => v = -3 ∧ hpI z.2 0 18 = nI k ∧ VW (hpI z.2 2) R ∧ UCx z.2 U
    | .ok S => v = nI S.2.1 ∧ hpI z.2 0 18 = -1 ∧ VW (hpI z.2 2) S.1 ∧ UCx z.2 S.2.2.2
section CRUN
variable {T : Nat → (Nat → Int64) → Option Int64} {hl : Bool} {A B : Nat → Nat} {n nr nl c : Nat} {R : Nat → Int32} {U : US} {L : List CLd} {sz : Nat} {G6 : XH} {Q : XR → Prop}
/-- what stands when the clauses begin to run -/
def C6 (T : Nat → (Nat → Int64) → Option Int64) (hl : Bool) (A B : Nat → Nat) (n nr nl c : Nat) (R : Nat → Int32) (U : US) (L : List CLd) (sz : Nat) (G6 : XH) : Prop := CRn T hl A B n G6 (R, 0, -1, U) ∧ RW R nr nl c ∧ c + 300 ≤ 500000 ∧ UOK U nr nl c ∧ TXo G6 L sz ∧ VW (hpI G6 46) R ∧ ∃ p, p < 16 ∧ hpI G6 27 3 = nI U.1 ∧ hpI G6 27 2 = nI p ∧ CUr (fun i => hpI G6 (29 + i)) (hpI G6 45) p U
def WFc : Nat → Nat → Bool := fun a k => WRc a k || WTb a k || (a == 0 && k == 18)
theorem WRc_WFc (a k : Nat) (h : WFc a k = false) : WRc a k = false := by
  unfold WFc at h
  simp only [Bool.or_eq_false_iff] at h
  exact h.1.1
theorem WFc_WOc (a k : Nat) (h : WOc a k = false) : WFc a k = false := by
  have h1 := WRc_WOc a k h
  have h2 := WTb_WOc a k h
  unfold WOc at h
  unfold WFc
  simp only [Bool.or_eq_false_iff, Bool.and_eq_false_iff] at h ⊢
  refine ⟨⟨h1, h2⟩, ?_⟩
  rcases h.2 with z | z
  · exact Or.inl z
  · exact Or.inr z.2
theorem cr_fail (h6 : C6 T hl A B n nr nl c R U L sz G6) {G : XH} {k : Nat} {x2 x3 : Option Value} (hf : FC WRc G6 G) (hQ : ∀ G', FC WFc G6 G' → hpI G' 0 18 = nI k → VW (hpI G' 2) R → UCx G' U → Q (some (.int (-3)), refH (-3) 2 G')) : WP (xAld 0 (xGetR 10 5 (xI 0 (xAld 0 (xGetR 10 1 (xI 0 (xI 138 (xCopy (xAld 0 (xGetR 10 3 (xAld 0 (xGetR 10 4 (xCallV 1 1 D_Undo_take (xAld 0 (xIld 1 (xPutI 10 18 (xAld 0 (xI (-3) (xCallV 10 1 D_Post_refuse (xIret ())))))))))))))))))))) [some (.ref 0), some (.int (nI k)), x2, x3] [] G Q := by
  obtain ⟨⟨_, _, hX6, hU6, _⟩, b1, b2, b3, b4, b5, p, p16, b6, b7, b8⟩ := h6
  have hC := hf.cs hX6.1
  have hU := CU_fc hU6 hf
  have sh : hpI G 46 = hpI G6 46 := hf.IA _ (fun _ => rfl)
  obtain ⟨G1, hG1⟩ : ∃ G1, G1 = stA G 2 (va_cpy (hpI G 46) (hpI G 2) 0 0 138) := ⟨_, rfl⟩
  have f1' : Fr WRc G G1 := by rw [hG1]; exact Fr.refl.wA (fun k q => absurd q (by unfold WRc WC WA; simp))
  have hC1 := f1'.cs hC
  have hU1 := CU_fc hU f1'.fc
  have ic : ∀ i, i < 16 → ∀ j, hpI G1 (29 + i) j = hpI G6 (29 + i) j := fun i hi j => by
    rw [hG1, hpI_stA_ne (by omega)]
    exact hf.I (by unfold WRc WC WA WW WU; simp only [Bool.or_eq_false_iff, Bool.and_eq_false_iff, beq_eq_false_iff_ne, decide_eq_false_iff_not]; omega)
  simp only [w_iadd, w_isub, w_imul, w_iand, w_ior, w_ixor, w_ishl, w_ishr, w_iushr, w_idiv, w_irem, w_ineg, w_ladd, w_lsub, w_lmul, w_ldiv, w_lrem, w_i2l, w_l2i, w_i2c, w_lcmp, w_dup_int, w_pop_int, w_dup_ref, w_pop_ref, w_dup_retAddr, w_pop_retAddr, w_dup2, w_I, w_L, w_Null, w_Ild, w_Lld, w_Ald, w_Ist, w_Lst, w_Ast, w_Iinc, w_if_eq, w_icmp_eq, w_if_ne, w_icmp_ne, w_if_lt, w_icmp_lt, w_if_ge, w_icmp_ge, w_if_gt, w_icmp_gt, w_if_le, w_icmp_le, w_GetI, w_GetL, w_GetR, w_PutI, w_PutZ, w_PutL, w_PutR, w_PutN, w_Iald, w_Zald, w_Lald, w_Aald, w_Iast, w_Zast, w_Last, w_AastR, w_AastN, w_Alen, w_New, w_NewA, w_Mna, w_Iret, w_Zret, w_Cret, w_Bret, w_Lret, w_AretR, w_AretN, w_Vret, w_Obj, w_IfNN, w_IfNR, w_Copy, w_Cln, w_Cast, w_SfA, w_SfI, w_SfQ, w_Str, w_ScLd, w_ScLen, w_CV0, w_CS0, w_CV1, w_CS1, w_CV2, w_CS2, w_CV3, w_CS3, w_CV4, w_CS4, w_CV5, w_CS5, List.getElem?_cons_zero, List.getElem?_cons_succ, List.set_cons_zero, List.set_cons_succ, List.length_cons, List.length_nil, List.map_cons, List.map_nil, List.sum_cons, List.sum_nil, List.nil_append, List.cons_append, Option.toList_some, Option.toList_none, Value.category, xok, va_rf, true_and, and_true, and_self, Nat.reduceAdd, Nat.reduceLT, Nat.reduceLeDiff, Nat.reduceEqDiff, Nat.reduceMul, beq_self_eq_true, decide_true, ite_true, ite_false, if_true, if_false, reduceIte, Bool.true_eq_false, Bool.false_eq_true, eq_self_iff_true, Nat.zero_le, not_true_eq_false, not_false_eq_true, forall_const, false_implies, implies_true, forall_false, tn_0, tn_1, tn_2, tn_3, tn_4, tn_5, tn_6, tn_7, tn_8, tn_9, tn_10, tn_11, tn_12, tn_13, tn_14, tn_15, tn_16, tn_17, tn_18, tn_19, tn_20, tn_21, tn_22, tn_23, tn_24, tn_25, tn_26, tn_27, tn_28, tn_29, tn_30, tn_31, tn_32, tn_33, tn_34, tn_35, tn_36, tn_37, tn_38, tn_39, tn_40, tn_41, tn_42, tn_43, tn_44, tn_45, tn_46, tn_47, tn_48, tn_49, tn_50, tn_51, tn_52, tn_53, tn_54, tn_55, tn_56, tn_57, tn_58, tn_59, tn_60, tn_61, tn_62, tn_63, tn_64, tn_65, tn_66, tn_67, tn_68, tn_69, tn_70, tn_71, tn_72, tn_73, tn_74, tn_75, tn_76, tn_77, tn_78, tn_79, tn_80, tn_81, tn_82, tn_83, tn_84, tn_85, tn_86, tn_87, tn_88, tn_89, tn_90, tn_91, tn_92, tn_93, tn_94, tn_95, tn_96, tn_97, tn_98, tn_99, tn_100, tn_101, tn_102, tn_103, tn_104, tn_105, tn_106, tn_107, tn_108, tn_109, tn_110, tn_111, tn_112, tn_113, tn_114, tn_115, tn_116, tn_117, tn_118, tn_119, tn_120, tn_121, tn_122, tn_123, tn_124, tn_125, tn_126, tn_127, tn_128, tn_129, tn_130, tn_131, tn_132, tn_133, tn_134, tn_135, tn_136, tn_137, tn_138, tn_139, tn_140, tn_141, tn_142, tn_143, tn_144, tn_145, tn_146, tn_147, tn_148, tn_149, tn_150, tn_151, tn_152, tn_153, tn_154, tn_155, tn_156, tn_157, tn_158, tn_159, tn_160, tn_161, tn_162, tn_163, tn_164, tn_165, tn_166, tn_167, tn_168, tn_169, tn_170, tn_171, tn_172, tn_173, tn_174, tn_175, tn_176, tn_177, tn_178, tn_179, tn_180, tn_181, tn_182, tn_183, tn_184, tn_185, tn_186, tn_187, tn_188, tn_189, tn_190, tn_191, tn_192, tn_193, tn_194, tn_195, tn_196, tn_197, tn_198, tn_199, tn_255, tn_256, tn_300, tn_399, tn_400, tn_500, tn_900, tn_999, tn_1000, tn_1001, tn_1024, tn_2048, tn_2176, tn_3536, tn_4095, tn_4096, tn_5580, tn_11160, tn_12345, tn_1103, tn_99999, tn_1000000, tn_1000003, tn_100000000, tn_1000000000, ge0_0, ge0_1, ge0_2, ge0_3, ge0_4, ge0_5, ge0_6, ge0_7, ge0_8, ge0_9, ge0_10, ge0_11, ge0_12, ge0_13, ge0_14, ge0_15, ge0_16, ge0_17, ge0_18, ge0_19, ge0_20, ge0_21, ge0_22, ge0_23, ge0_24, ge0_25, ge0_26, ge0_27, ge0_28, ge0_29, ge0_30, ge0_31, ge0_32, ge0_33, ge0_34, ge0_35, ge0_36, ge0_37, ge0_38, ge0_39, ge0_40, ge0_41, ge0_42, ge0_43, ge0_44, ge0_45, ge0_46, ge0_47, ge0_48, ge0_49, ge0_50, ge0_51, ge0_52, ge0_53, ge0_54, ge0_55, ge0_56, ge0_57, ge0_58, ge0_59, ge0_60, ge0_61, ge0_62, ge0_63, ge0_64, ge0_65, ge0_66, ge0_67, ge0_68, ge0_69, ge0_70, ge0_71, ge0_72, ge0_73, ge0_74, ge0_75, ge0_76, ge0_77, ge0_78, ge0_79, ge0_80, ge0_81, ge0_82, ge0_83, ge0_84, ge0_85, ge0_86, ge0_87, ge0_88, ge0_89, ge0_90, ge0_91, ge0_92, ge0_93, ge0_94, ge0_95, ge0_96, ge0_97, ge0_98, ge0_99, ge0_100, ge0_101, ge0_102, ge0_103, ge0_104, ge0_105, ge0_106, ge0_107, ge0_108, ge0_109, ge0_110, ge0_111, ge0_112, ge0_113, ge0_114, ge0_115, ge0_116, ge0_117, ge0_118, ge0_119, ge0_120, ge0_121, ge0_122, ge0_123, ge0_124, ge0_125, ge0_126, ge0_127, ge0_128, ge0_129, ge0_130, ge0_131, ge0_132, ge0_133, ge0_134, ge0_135, ge0_136, ge0_137, ge0_138, ge0_139, ge0_140, ge0_141, ge0_142, ge0_143, ge0_144, ge0_145, ge0_146, ge0_147, ge0_148, ge0_149, ge0_150, ge0_151, ge0_152, ge0_153, ge0_154, ge0_155, ge0_156, ge0_157, ge0_158, ge0_159, ge0_160, ge0_161, ge0_162, ge0_163, ge0_164, ge0_165, ge0_166, ge0_167, ge0_168, ge0_169, ge0_170, ge0_171, ge0_172, ge0_173, ge0_174, ge0_175, ge0_176, ge0_177, ge0_178, ge0_179, ge0_180, ge0_181, ge0_182, ge0_183, ge0_184, ge0_185, ge0_186, ge0_187, ge0_188, ge0_189, ge0_190, ge0_191, ge0_192, ge0_193, ge0_194, ge0_195, ge0_196, ge0_197, ge0_198, ge0_199, ge0_255, ge0_256, ge0_300, ge0_399, ge0_400, ge0_500, ge0_900, ge0_999, ge0_1000, ge0_1001, ge0_1024, ge0_2048, ge0_2176, ge0_3536, ge0_4095, ge0_4096, ge0_5580, ge0_11160, ge0_12345, ge0_1103, ge0_99999, ge0_1000000, ge0_1000003, ge0_100000000, ge0_1000000000, hC.all, Nat.le_refl, Nat.zero_add, ← hG1, hC1.all, or_true, true_or, ne10, ne10L, ne01, ne01L, tt_imp, nt_imp, ff_imp, nf_imp, true_and, and_true, true_or, or_true, reduceIte]
  refine SP.mono (c_takeB hC1 hU1) ?_
  rintro ⟨v, G2⟩ ⟨rfl, f2, t1, t2, t3, t4⟩
  dsimp only at f2 t1 t2 t3 t4
  have hC2 := f2.cs hC1
  obtain ⟨G3, hG3⟩ : ∃ G3, G3 = stI G2 0 18 (nI k) := ⟨_, rfl⟩
  have f3 : Fr (fun a k => a == 0 && k == 18) G2 G3 := by rw [hG3]; exact Fr.refl.wI rfl
  have hC3 := f3.cs hC2
  have hrf := fun Q => c_refuse_3 hC3 Q
  simp only [Option.toList_none, List.nil_append, w_iadd, w_isub, w_imul, w_iand, w_ior, w_ixor, w_ishl, w_ishr, w_iushr, w_idiv, w_irem, w_ineg, w_ladd, w_lsub, w_lmul, w_ldiv, w_lrem, w_i2l, w_l2i, w_i2c, w_lcmp, w_dup_int, w_pop_int, w_dup_ref, w_pop_ref, w_dup_retAddr, w_pop_retAddr, w_dup2, w_I, w_L, w_Null, w_Ild, w_Lld, w_Ald, w_Ist, w_Lst, w_Ast, w_Iinc, w_if_eq, w_icmp_eq, w_if_ne, w_icmp_ne, w_if_lt, w_icmp_lt, w_if_ge, w_icmp_ge, w_if_gt, w_icmp_gt, w_if_le, w_icmp_le, w_GetI, w_GetL, w_GetR, w_PutI, w_PutZ, w_PutL, w_PutR, w_PutN, w_Iald, w_Zald, w_Lald, w_Aald, w_Iast, w_Zast, w_Last, w_AastR, w_AastN, w_Alen, w_New, w_NewA, w_Mna, w_Iret, w_Zret, w_Cret, w_Bret, w_Lret, w_AretR, w_AretN, w_Vret, w_Obj, w_IfNN, w_IfNR, w_Copy, w_Cln, w_Cast, w_SfA, w_SfI, w_SfQ, w_Str, w_ScLd, w_ScLen, w_CV0, w_CS0, w_CV1, w_CS1, w_CV2, w_CS2, w_CV3, w_CS3, w_CV4, w_CS4, w_CV5, w_CS5, List.getElem?_cons_zero, List.getElem?_cons_succ, List.set_cons_zero, List.set_cons_succ, List.length_cons, List.length_nil, List.map_cons, List.map_nil, List.sum_cons, List.sum_nil, List.nil_append, List.cons_append, Option.toList_some, Option.toList_none, Value.category, xok, va_rf, true_and, and_true, and_self, Nat.reduceAdd, Nat.reduceLT, Nat.reduceLeDiff, Nat.reduceEqDiff, Nat.reduceMul, beq_self_eq_true, decide_true, ite_true, ite_false, if_true, if_false, reduceIte, Bool.true_eq_false, Bool.false_eq_true, eq_self_iff_true, Nat.zero_le, not_true_eq_false, not_false_eq_true, forall_const, false_implies, implies_true, forall_false, hC2.all, ← hG3, hC3.all, hrf, ne10, ne10L, ne01, ne01L, tt_imp, nt_imp, ff_imp, nf_imp, true_and, and_true, true_or, or_true, reduceIte]
  have I3 : ∀ a, ¬ a = 0 → hpI G3 a = hpI G2 a := fun a ha => by rw [hG3, stI_up, hpI_stA_ne ha]
  refine hQ G3 ((hf.trans f1'.fc).mono WRc_WFc |>.trans ((f2.mono (fun a k z => by unfold WFc at z; simp only [Bool.or_eq_false_iff] at z; exact z.1.2)).trans (f3.mono (fun a k z => by unfold WFc at z; simp only [Bool.or_eq_false_iff] at z; exact z.2))).fc) (by rw [hG3, stI_up, hpI_stA, up_eq]) ?_ ⟨p, p16, ?_, ?_, fun q hq => ?_⟩
  · rw [I3 _ (by decide), f2.IA _ (fun _ => rfl), hG1, hpI_stA]
    refine b5.eqc (fun j hj => ?_)
    rw [cpy_in (by omega), sh]
    exact congrArg _ (by omega)
  · rw [I3 _ (by decide), t4, f1'.I rfl, hf.I rfl]; exact b6
  · rw [I3 _ (by decide), t3, f1'.I rfl, hf.I rfl]; exact b7
  · have hm : (p + 16 - U.1 + q) % 16 < 16 := Nat.mod_lt _ (by omega)
    obtain ⟨z1, z2⟩ := b8 q hq
    dsimp only
    rw [I3 _ (by decide), I3 _ (by omega), t2 _ hm, f1'.I rfl, hf.I rfl]
    exact ⟨z1, z2.eqc (fun j hj => by rw [t1 _ hm j hj, ic _ hm])⟩
/-- a clause, some times -/
theorem cr_104 (h6 : C6 T hl A B n nr nl c R U L sz G6) {K75 : XK} {k : Nat} (hk : k < L.length) (hbad : ∀ G', FC WFc G6 G' → hpI G' 0 18 = nI k → VW (hpI G' 2) R → UCx G' U → oGo T hl A B n nr nl L L.length 0 (R, 0, -1, U) = .error k → Q (some (.int (-3)), refH (-3) 2 G')) (hgo : ∀ S G a2 a3, FC WRc G6 G → CRn T hl A B n G S → OI R nr nl c S → S.2.1 ≤ 20 * (k + 1) → oGo T hl A B n nr nl L L.length 0 (R, 0, -1, U) = oGo T hl A B n nr nl L (L.length - (k + 1)) (k + 1) S → WP K75 [some (.ref 0), some (.int (nI (k + 1))), a2, a3] [] G Q) : ∀ (m t : Nat) (S : OS) (G : XH) (N : Nat), t + m = (L.getD k clD).2.2.2.1 → FC WRc G6 G → CRn T hl A B n G S → OI R nr nl c S → S.2.1 ≤ 20 * k + t → oGo T hl A B n nr nl L L.length 0 (R, 0, -1, U) = (match oTms T hl A B n nr nl (L.getD k clD) m S with
    | none => .error k
    | some S' => oGo T hl A B n nr nl L (L.length - (k + 1)) (k + 1) S') → m < N → WP (xloop (f_Post_orders_104 K75) N) [some (.ref 0), some (.int (nI k)), some (.int (nI (L.getD k clD).2.2.2.1)), some (.int (nI t))] [] G Q := by
  have h60 := h6
  obtain ⟨b0, b1, b2, b3, b4, b5, b6⟩ := h6
  obtain ⟨_, tm1, tm2⟩ := (b4.2.2.2.2.2.2 k hk).2
  have l12 := b4.1
  have ek : nI k + Int32.ofInt 1 = nI (k + 1) := nI_1 k
  intro m
  induction m with
  | zero =>
    intro t S G N ht hf h hI hd he hN
    obtain ⟨N1, rfl⟩ : ∃ N1, N = N1 + 1 := ⟨N - 1, by omega⟩
    have g : (nI (L.getD k clD).2.2.2.1 ≤ nI t) = True := eq_true (by rw [nl_le (by omega) (by omega)]; omega)
    rw [xloop_s]
    simp only [f_Post_orders_104, w_iadd, w_isub, w_imul, w_iand, w_ior, w_ixor, w_ishl, w_ishr, w_iushr, w_idiv, w_irem, w_ineg, w_ladd, w_lsub, w_lmul, w_ldiv, w_lrem, w_i2l, w_l2i, w_i2c, w_lcmp, w_dup_int, w_pop_int, w_dup_ref, w_pop_ref, w_dup_retAddr, w_pop_retAddr, w_dup2, w_I, w_L, w_Null, w_Ild, w_Lld, w_Ald, w_Ist, w_Lst, w_Ast, w_Iinc, w_if_eq, w_icmp_eq, w_if_ne, w_icmp_ne, w_if_lt, w_icmp_lt, w_if_ge, w_icmp_ge, w_if_gt, w_icmp_gt, w_if_le, w_icmp_le, w_GetI, w_GetL, w_GetR, w_PutI, w_PutZ, w_PutL, w_PutR, w_PutN, w_Iald, w_Zald, w_Lald, w_Aald, w_Iast, w_Zast, w_Last, w_AastR, w_AastN, w_Alen, w_New, w_NewA, w_Mna, w_Iret, w_Zret, w_Cret, w_Bret, w_Lret, w_AretR, w_AretN, w_Vret, w_Obj, w_IfNN, w_IfNR, w_Copy, w_Cln, w_Cast, w_SfA, w_SfI, w_SfQ, w_Str, w_ScLd, w_ScLen, w_CV0, w_CS0, w_CV1, w_CS1, w_CV2, w_CS2, w_CV3, w_CS3, w_CV4, w_CS4, w_CV5, w_CS5, List.getElem?_cons_zero, List.getElem?_cons_succ, List.set_cons_zero, List.set_cons_succ, List.length_cons, List.length_nil, List.map_cons, List.map_nil, List.sum_cons, List.sum_nil, List.nil_append, List.cons_append, Option.toList_some, Option.toList_none, Value.category, xok, va_rf, true_and, and_true, and_self, Nat.reduceAdd, Nat.reduceLT, Nat.reduceLeDiff, Nat.reduceEqDiff, Nat.reduceMul, beq_self_eq_true, decide_true, ite_true, ite_false, if_true, if_false, reduceIte, Bool.true_eq_false, Bool.false_eq_true, eq_self_iff_true, Nat.zero_le, not_true_eq_false, not_false_eq_true, forall_const, false_implies, implies_true, forall_false, g, ek, ne10, ne10L, ne01, ne01L, tt_imp, nt_imp, ff_imp, nf_imp, true_and, and_true, true_or, or_true, reduceIte]
    exact hgo S G _ _ hf h hI (by omega) he
  | succ m ih =>
    intro t S G N ht hf h hI hd he hN
    obtain ⟨N1, rfl⟩ : ∃ N1, N = N1 + 1 := ⟨N - 1, by omega⟩
    have hC : CS G := by obtain ⟨_, _, hX, _⟩ := h; exact hX.1
    have g : (nI (L.getD k clD).2.2.2.1 ≤ nI t) = False := eq_false (by rw [nl_le (by omega) (by omega)]; omega)
    have et : nI t + Int32.ofInt 1 = nI (t + 1) := nI_1 t
    obtain ⟨B1, hB1⟩ : ∃ B1 : XK, B1 = (xAld 0 (xGetR 10 5 (xI 0 (xAld 0 (xGetR 10 1 (xI 0 (xI 138 (xCopy (xAld 0 (xGetR 10 3 (xAld 0 (xGetR 10 4 (xCallV 1 1 D_Undo_take (xAld 0 (xIld 1 (xPutI 10 18 (xAld 0 (xI (-3) (xCallV 10 1 D_Post_refuse (xIret ())))))))))))))))))))) := ⟨_, rfl⟩
    obtain ⟨K1, hK1⟩ : ∃ K1, K1 = xloop (f_Post_orders_104 K75) N1 := ⟨_, rfl⟩
    rw [xloop_s, ← hK1, show f_Post_orders_104 K75 K1 = (xIld 3 (xIld 2 (xicmp_ge (xIinc 1 1 K75) (xAld 0 (xIld 1 (xCallV 10 1 D_Post_runOrder (xif_ne (xIinc 3 1 K1) B1))))))) by rw [hB1]; rfl]
    simp only [w_iadd, w_isub, w_imul, w_iand, w_ior, w_ixor, w_ishl, w_ishr, w_iushr, w_idiv, w_irem, w_ineg, w_ladd, w_lsub, w_lmul, w_ldiv, w_lrem, w_i2l, w_l2i, w_i2c, w_lcmp, w_dup_int, w_pop_int, w_dup_ref, w_pop_ref, w_dup_retAddr, w_pop_retAddr, w_dup2, w_I, w_L, w_Null, w_Ild, w_Lld, w_Ald, w_Ist, w_Lst, w_Ast, w_Iinc, w_if_eq, w_icmp_eq, w_if_ne, w_icmp_ne, w_if_lt, w_icmp_lt, w_if_ge, w_icmp_ge, w_if_gt, w_icmp_gt, w_if_le, w_icmp_le, w_GetI, w_GetL, w_GetR, w_PutI, w_PutZ, w_PutL, w_PutR, w_PutN, w_Iald, w_Zald, w_Lald, w_Aald, w_Iast, w_Zast, w_Last, w_AastR, w_AastN, w_Alen, w_New, w_NewA, w_Mna, w_Iret, w_Zret, w_Cret, w_Bret, w_Lret, w_AretR, w_AretN, w_Vret, w_Obj, w_IfNN, w_IfNR, w_Copy, w_Cln, w_Cast, w_SfA, w_SfI, w_SfQ, w_Str, w_ScLd, w_ScLen, w_CV0, w_CS0, w_CV1, w_CS1, w_CV2, w_CS2, w_CV3, w_CS3, w_CV4, w_CS4, w_CV5, w_CS5, List.getElem?_cons_zero, List.getElem?_cons_succ, List.set_cons_zero, List.set_cons_succ, List.length_cons, List.length_nil, List.map_cons, List.map_nil, List.sum_cons, List.sum_nil, List.nil_append, List.cons_append, Option.toList_some, Option.toList_none, Value.category, xok, va_rf, true_and, and_true, and_self, Nat.reduceAdd, Nat.reduceLT, Nat.reduceLeDiff, Nat.reduceEqDiff, Nat.reduceMul, beq_self_eq_true, decide_true, ite_true, ite_false, if_true, if_false, reduceIte, Bool.true_eq_false, Bool.false_eq_true, eq_self_iff_true, Nat.zero_le, not_true_eq_false, not_false_eq_true, forall_const, false_implies, implies_true, forall_false, hC.all, g, ne10, ne10L, ne01, ne01L, tt_imp, nt_imp, ff_imp, nf_imp, true_and, and_true, true_or, or_true, reduceIte]
    have hdd : S.2.1 ≤ 260 := by omega
    refine SP.mono (c_runOrder h hI (by omega) (by omega) (b4.fc hf (fun _ => rfl) (fun _ => rfl) (fun _ => rfl)) hk) ?_
    rintro ⟨v, G1⟩ ⟨f1', hr⟩
    dsimp only at f1'
    cases ho : oOne T hl A B n nr nl (L.getD k clD) S with
    | none =>
      rw [ho] at hr
      obtain rfl : v = some (.int 0) := hr
      have heb : oGo T hl A B n nr nl L L.length 0 (R, 0, -1, U) = .error k := by rw [he, oTms, ho]
      have := cr_fail (k := k) (x2 := some (.int (nI (L.getD k clD).2.2.2.1))) (x3 := some (.int (nI t))) (Q := Q) h60 (hf.trans f1') (fun G' z1 z2 z3 z4 => hbad G' z1 z2 z3 z4 heb)
      rw [← hB1] at this
      simp only [Option.toList_some, List.cons_append, List.nil_append, w_iadd, w_isub, w_imul, w_iand, w_ior, w_ixor, w_ishl, w_ishr, w_iushr, w_idiv, w_irem, w_ineg, w_ladd, w_lsub, w_lmul, w_ldiv, w_lrem, w_i2l, w_l2i, w_i2c, w_lcmp, w_dup_int, w_pop_int, w_dup_ref, w_pop_ref, w_dup_retAddr, w_pop_retAddr, w_dup2, w_I, w_L, w_Null, w_Ild, w_Lld, w_Ald, w_Ist, w_Lst, w_Ast, w_Iinc, w_if_eq, w_icmp_eq, w_if_ne, w_icmp_ne, w_if_lt, w_icmp_lt, w_if_ge, w_icmp_ge, w_if_gt, w_icmp_gt, w_if_le, w_icmp_le, w_GetI, w_GetL, w_GetR, w_PutI, w_PutZ, w_PutL, w_PutR, w_PutN, w_Iald, w_Zald, w_Lald, w_Aald, w_Iast, w_Zast, w_Last, w_AastR, w_AastN, w_Alen, w_New, w_NewA, w_Mna, w_Iret, w_Zret, w_Cret, w_Bret, w_Lret, w_AretR, w_AretN, w_Vret, w_Obj, w_IfNN, w_IfNR, w_Copy, w_Cln, w_Cast, w_SfA, w_SfI, w_SfQ, w_Str, w_ScLd, w_ScLen, w_CV0, w_CS0, w_CV1, w_CS1, w_CV2, w_CS2, w_CV3, w_CS3, w_CV4, w_CS4, w_CV5, w_CS5, List.getElem?_cons_zero, List.getElem?_cons_succ, List.set_cons_zero, List.set_cons_succ, List.length_cons, List.length_nil, List.map_cons, List.map_nil, List.sum_cons, List.sum_nil, List.nil_append, List.cons_append, Option.toList_some, Option.toList_none, Value.category, xok, va_rf, true_and, and_true, and_self, Nat.reduceAdd, Nat.reduceLT, Nat.reduceLeDiff, Nat.reduceEqDiff, Nat.reduceMul, beq_self_eq_true, decide_true, ite_true, ite_false, if_true, if_false, reduceIte, Bool.true_eq_false, Bool.false_eq_true, eq_self_iff_true, Nat.zero_le, not_true_eq_false, not_false_eq_true, forall_const, false_implies, implies_true, forall_false, ne10, ne10L, ne01, ne01L, tt_imp, nt_imp, ff_imp, nf_imp, true_and, and_true, true_or, or_true, reduceIte]
      exact this
    | some S' =>
      rw [ho] at hr
      obtain ⟨rfl, hr⟩ := hr
      dsimp only at hr
      obtain ⟨hI', d1, d2⟩ := oOne_OI hI (by omega) ho
      have := ih (t + 1) S' G1 N1 (by omega) (hf.trans f1') hr hI' (by omega) (by rw [he, oTms, ho]) (by omega)
      rw [← hK1] at this
      simp only [Option.toList_some, List.cons_append, List.nil_append, w_iadd, w_isub, w_imul, w_iand, w_ior, w_ixor, w_ishl, w_ishr, w_iushr, w_idiv, w_irem, w_ineg, w_ladd, w_lsub, w_lmul, w_ldiv, w_lrem, w_i2l, w_l2i, w_i2c, w_lcmp, w_dup_int, w_pop_int, w_dup_ref, w_pop_ref, w_dup_retAddr, w_pop_retAddr, w_dup2, w_I, w_L, w_Null, w_Ild, w_Lld, w_Ald, w_Ist, w_Lst, w_Ast, w_Iinc, w_if_eq, w_icmp_eq, w_if_ne, w_icmp_ne, w_if_lt, w_icmp_lt, w_if_ge, w_icmp_ge, w_if_gt, w_icmp_gt, w_if_le, w_icmp_le, w_GetI, w_GetL, w_GetR, w_PutI, w_PutZ, w_PutL, w_PutR, w_PutN, w_Iald, w_Zald, w_Lald, w_Aald, w_Iast, w_Zast, w_Last, w_AastR, w_AastN, w_Alen, w_New, w_NewA, w_Mna, w_Iret, w_Zret, w_Cret, w_Bret, w_Lret, w_AretR, w_AretN, w_Vret, w_Obj, w_IfNN, w_IfNR, w_Copy, w_Cln, w_Cast, w_SfA, w_SfI, w_SfQ, w_Str, w_ScLd, w_ScLen, w_CV0, w_CS0, w_CV1, w_CS1, w_CV2, w_CS2, w_CV3, w_CS3, w_CV4, w_CS4, w_CV5, w_CS5, List.getElem?_cons_zero, List.getElem?_cons_succ, List.set_cons_zero, List.set_cons_succ, List.length_cons, List.length_nil, List.map_cons, List.map_nil, List.sum_cons, List.sum_nil, List.nil_append, List.cons_append, Option.toList_some, Option.toList_none, Value.category, xok, va_rf, true_and, and_true, and_self, Nat.reduceAdd, Nat.reduceLT, Nat.reduceLeDiff, Nat.reduceEqDiff, Nat.reduceMul, beq_self_eq_true, decide_true, ite_true, ite_false, if_true, if_false, reduceIte, Bool.true_eq_false, Bool.false_eq_true, eq_self_iff_true, Nat.zero_le, not_true_eq_false, not_false_eq_true, forall_const, false_implies, implies_true, forall_false, et, ne10, ne10L, ne01, ne01L, tt_imp, nt_imp, ff_imp, nf_imp, true_and, and_true, true_or, or_true, reduceIte]
      exact this
/-- all clauses -/
theorem cr_75 (h6 : C6 T hl A B n nr nl c R U L sz G6) (hbad : ∀ k G', FC WFc G6 G' → hpI G' 0 18 = nI k → VW (hpI G' 2) R → UCx G' U → oGo T hl A B n nr nl L L.length 0 (R, 0, -1, U) = .error k → Q (some (.int (-3)), refH (-3) 2 G')) (hok : ∀ G' S, FC WRc G6 G' → CRn T hl A B n G' S → S.2.1 ≤ 240 → oGo T hl A B n nr nl L L.length 0 (R, 0, -1, U) = .ok S → Q (some (.int (nI S.2.1)), stI G' 0 16 0)) : ∀ (m k : Nat) (S : OS) (G : XH) (N : Nat) (a2 a3 : Option Value), k + m = L.length → FC WRc G6 G → CRn T hl A B n G S → OI R nr nl c S → S.2.1 ≤ 20 * k → oGo T hl A B n nr nl L L.length 0 (R, 0, -1, U) = oGo T hl A B n nr nl L m k S → m < N → WP (xloop f_Post_orders_75 N) [some (.ref 0), some (.int (nI k)), a2, a3] [] G Q := by
  have h60 := h6
  obtain ⟨b0, b1, b2, b3, b4, b5, b6⟩ := h6
  have l12 := b4.1
  intro m
  induction m with
  | zero =>
    intro k S G N a2 a3 hk hf h hI hd he hN
    obtain ⟨N1, rfl⟩ : ∃ N1, N = N1 + 1 := ⟨N - 1, by omega⟩
    have h0 := h
    obtain ⟨_, _, hX, _, _, _, _, _, o3, _⟩ := h
    have hC := hX.1
    have ek : k = L.length := by omega
    subst ek
    have c3 : hpI G 50 3 = nI L.length := (hf.I rfl).trans b4.2.2.2.1
    have g : (nI L.length ≤ nI L.length) = True := eq_true (Int32.le_refl _)
    have hac := fun Q => c_accept hC Q (nI S.2.1)
    rw [xloop_s]
    simp only [f_Post_orders_75, w_iadd, w_isub, w_imul, w_iand, w_ior, w_ixor, w_ishl, w_ishr, w_iushr, w_idiv, w_irem, w_ineg, w_ladd, w_lsub, w_lmul, w_ldiv, w_lrem, w_i2l, w_l2i, w_i2c, w_lcmp, w_dup_int, w_pop_int, w_dup_ref, w_pop_ref, w_dup_retAddr, w_pop_retAddr, w_dup2, w_I, w_L, w_Null, w_Ild, w_Lld, w_Ald, w_Ist, w_Lst, w_Ast, w_Iinc, w_if_eq, w_icmp_eq, w_if_ne, w_icmp_ne, w_if_lt, w_icmp_lt, w_if_ge, w_icmp_ge, w_if_gt, w_icmp_gt, w_if_le, w_icmp_le, w_GetI, w_GetL, w_GetR, w_PutI, w_PutZ, w_PutL, w_PutR, w_PutN, w_Iald, w_Zald, w_Lald, w_Aald, w_Iast, w_Zast, w_Last, w_AastR, w_AastN, w_Alen, w_New, w_NewA, w_Mna, w_Iret, w_Zret, w_Cret, w_Bret, w_Lret, w_AretR, w_AretN, w_Vret, w_Obj, w_IfNN, w_IfNR, w_Copy, w_Cln, w_Cast, w_SfA, w_SfI, w_SfQ, w_Str, w_ScLd, w_ScLen, w_CV0, w_CS0, w_CV1, w_CS1, w_CV2, w_CS2, w_CV3, w_CS3, w_CV4, w_CS4, w_CV5, w_CS5, List.getElem?_cons_zero, List.getElem?_cons_succ, List.set_cons_zero, List.set_cons_succ, List.length_cons, List.length_nil, List.map_cons, List.map_nil, List.sum_cons, List.sum_nil, List.nil_append, List.cons_append, Option.toList_some, Option.toList_none, Value.category, xok, va_rf, true_and, and_true, and_self, Nat.reduceAdd, Nat.reduceLT, Nat.reduceLeDiff, Nat.reduceEqDiff, Nat.reduceMul, beq_self_eq_true, decide_true, ite_true, ite_false, if_true, if_false, reduceIte, Bool.true_eq_false, Bool.false_eq_true, eq_self_iff_true, Nat.zero_le, not_true_eq_false, not_false_eq_true, forall_const, false_implies, implies_true, forall_false, tn_0, tn_1, tn_2, tn_3, tn_4, tn_5, tn_6, tn_7, tn_8, tn_9, tn_10, tn_11, tn_12, tn_13, tn_14, tn_15, tn_16, tn_17, tn_18, tn_19, tn_20, tn_21, tn_22, tn_23, tn_24, tn_25, tn_26, tn_27, tn_28, tn_29, tn_30, tn_31, tn_32, tn_33, tn_34, tn_35, tn_36, tn_37, tn_38, tn_39, tn_40, tn_41, tn_42, tn_43, tn_44, tn_45, tn_46, tn_47, tn_48, tn_49, tn_50, tn_51, tn_52, tn_53, tn_54, tn_55, tn_56, tn_57, tn_58, tn_59, tn_60, tn_61, tn_62, tn_63, tn_64, tn_65, tn_66, tn_67, tn_68, tn_69, tn_70, tn_71, tn_72, tn_73, tn_74, tn_75, tn_76, tn_77, tn_78, tn_79, tn_80, tn_81, tn_82, tn_83, tn_84, tn_85, tn_86, tn_87, tn_88, tn_89, tn_90, tn_91, tn_92, tn_93, tn_94, tn_95, tn_96, tn_97, tn_98, tn_99, tn_100, tn_101, tn_102, tn_103, tn_104, tn_105, tn_106, tn_107, tn_108, tn_109, tn_110, tn_111, tn_112, tn_113, tn_114, tn_115, tn_116, tn_117, tn_118, tn_119, tn_120, tn_121, tn_122, tn_123, tn_124, tn_125, tn_126, tn_127, tn_128, tn_129, tn_130, tn_131, tn_132, tn_133, tn_134, tn_135, tn_136, tn_137, tn_138, tn_139, tn_140, tn_141, tn_142, tn_143, tn_144, tn_145, tn_146, tn_147, tn_148, tn_149, tn_150, tn_151, tn_152, tn_153, tn_154, tn_155, tn_156, tn_157, tn_158, tn_159, tn_160, tn_161, tn_162, tn_163, tn_164, tn_165, tn_166, tn_167, tn_168, tn_169, tn_170, tn_171, tn_172, tn_173, tn_174, tn_175, tn_176, tn_177, tn_178, tn_179, tn_180, tn_181, tn_182, tn_183, tn_184, tn_185, tn_186, tn_187, tn_188, tn_189, tn_190, tn_191, tn_192, tn_193, tn_194, tn_195, tn_196, tn_197, tn_198, tn_199, tn_255, tn_256, tn_300, tn_399, tn_400, tn_500, tn_900, tn_999, tn_1000, tn_1001, tn_1024, tn_2048, tn_2176, tn_3536, tn_4095, tn_4096, tn_5580, tn_11160, tn_12345, tn_1103, tn_99999, tn_1000000, tn_1000003, tn_100000000, tn_1000000000, ge0_0, ge0_1, ge0_2, ge0_3, ge0_4, ge0_5, ge0_6, ge0_7, ge0_8, ge0_9, ge0_10, ge0_11, ge0_12, ge0_13, ge0_14, ge0_15, ge0_16, ge0_17, ge0_18, ge0_19, ge0_20, ge0_21, ge0_22, ge0_23, ge0_24, ge0_25, ge0_26, ge0_27, ge0_28, ge0_29, ge0_30, ge0_31, ge0_32, ge0_33, ge0_34, ge0_35, ge0_36, ge0_37, ge0_38, ge0_39, ge0_40, ge0_41, ge0_42, ge0_43, ge0_44, ge0_45, ge0_46, ge0_47, ge0_48, ge0_49, ge0_50, ge0_51, ge0_52, ge0_53, ge0_54, ge0_55, ge0_56, ge0_57, ge0_58, ge0_59, ge0_60, ge0_61, ge0_62, ge0_63, ge0_64, ge0_65, ge0_66, ge0_67, ge0_68, ge0_69, ge0_70, ge0_71, ge0_72, ge0_73, ge0_74, ge0_75, ge0_76, ge0_77, ge0_78, ge0_79, ge0_80, ge0_81, ge0_82, ge0_83, ge0_84, ge0_85, ge0_86, ge0_87, ge0_88, ge0_89, ge0_90, ge0_91, ge0_92, ge0_93, ge0_94, ge0_95, ge0_96, ge0_97, ge0_98, ge0_99, ge0_100, ge0_101, ge0_102, ge0_103, ge0_104, ge0_105, ge0_106, ge0_107, ge0_108, ge0_109, ge0_110, ge0_111, ge0_112, ge0_113, ge0_114, ge0_115, ge0_116, ge0_117, ge0_118, ge0_119, ge0_120, ge0_121, ge0_122, ge0_123, ge0_124, ge0_125, ge0_126, ge0_127, ge0_128, ge0_129, ge0_130, ge0_131, ge0_132, ge0_133, ge0_134, ge0_135, ge0_136, ge0_137, ge0_138, ge0_139, ge0_140, ge0_141, ge0_142, ge0_143, ge0_144, ge0_145, ge0_146, ge0_147, ge0_148, ge0_149, ge0_150, ge0_151, ge0_152, ge0_153, ge0_154, ge0_155, ge0_156, ge0_157, ge0_158, ge0_159, ge0_160, ge0_161, ge0_162, ge0_163, ge0_164, ge0_165, ge0_166, ge0_167, ge0_168, ge0_169, ge0_170, ge0_171, ge0_172, ge0_173, ge0_174, ge0_175, ge0_176, ge0_177, ge0_178, ge0_179, ge0_180, ge0_181, ge0_182, ge0_183, ge0_184, ge0_185, ge0_186, ge0_187, ge0_188, ge0_189, ge0_190, ge0_191, ge0_192, ge0_193, ge0_194, ge0_195, ge0_196, ge0_197, ge0_198, ge0_199, ge0_255, ge0_256, ge0_300, ge0_399, ge0_400, ge0_500, ge0_900, ge0_999, ge0_1000, ge0_1001, ge0_1024, ge0_2048, ge0_2176, ge0_3536, ge0_4095, ge0_4096, ge0_5580, ge0_11160, ge0_12345, ge0_1103, ge0_99999, ge0_1000000, ge0_1000003, ge0_100000000, ge0_1000000000, hC.all, c3, g, xin, o3, hac, ne10, ne10L, ne01, ne01L, tt_imp, nt_imp, ff_imp, nf_imp, true_and, and_true, true_or, or_true, reduceIte]
    exact hok G S hf h0 (by omega) he
  | succ m ih =>
    intro k S G N a2 a3 hk hf h hI hd he hN
    obtain ⟨N1, rfl⟩ : ∃ N1, N = N1 + 1 := ⟨N - 1, by omega⟩
    have hC : CS G := by obtain ⟨_, _, hX, _⟩ := h; exact hX.1
    have c3 : hpI G 50 3 = nI L.length := (hf.I rfl).trans b4.2.2.2.1
    have g : (nI L.length ≤ nI k) = False := eq_false (by rw [nl_le (by omega) (by omega)]; omega)
    have em : m = L.length - (k + 1) := by omega
    obtain ⟨t1, t2, t3, t4, t5, t6, t7⟩ := b4.fc hf (fun _ => rfl) (fun _ => rfl) (fun _ => rfl)
    obtain ⟨_, _, _, _, _, _, _, _, _, r5, _⟩ := t6 k (by omega)
    have hTX : TX G 50 51 52 sz L.length := by
      refine ⟨?_, ?_, ?_, ?_, ?_, ?_, ?_, ?_, ?_, t3, t4⟩
      all_goals (simp only [hC.all])
      all_goals omega
    have td5 : ∀ Q, SP D_Text_told [.ref 50, .int (nI k), .int 5] G Q = Q (some (.int (nI (L.getD k clD).2.2.2.1)), G) := fun Q => by rw [← r5]; exact c_told hTX k 5 (by omega) (by omega) Q
    obtain ⟨_, tm1, tm2⟩ := (t7 k (by omega)).2
    obtain ⟨K1, hK1⟩ : ∃ K1, K1 = xloop f_Post_orders_75 N1 := ⟨_, rfl⟩
    rw [xloop_s, ← hK1]
    have := cr_104 (Q := Q) (K75 := K1) h60 (k := k) (by omega) (fun G' z1 z2 z3 z4 z5 => hbad k G' z1 z2 z3 z4 z5) (fun S' G' a2 a3 z1 z2 z3 z4 z5 => by
      rw [hK1]
      exact ih (k + 1) S' G' N1 a2 a3 (by omega) z1 z2 z3 z4 (by rw [z5, em]) (by omega)) (L.getD k clD).2.2.2.1 0 S G NF (by omega) hf h hI (by omega) (by rw [he, oGo, em]; rfl) (by unfold NF; omega)
    simp only [f_Post_orders_75, k_Post_orders_104, w_iadd, w_isub, w_imul, w_iand, w_ior, w_ixor, w_ishl, w_ishr, w_iushr, w_idiv, w_irem, w_ineg, w_ladd, w_lsub, w_lmul, w_ldiv, w_lrem, w_i2l, w_l2i, w_i2c, w_lcmp, w_dup_int, w_pop_int, w_dup_ref, w_pop_ref, w_dup_retAddr, w_pop_retAddr, w_dup2, w_I, w_L, w_Null, w_Ild, w_Lld, w_Ald, w_Ist, w_Lst, w_Ast, w_Iinc, w_if_eq, w_icmp_eq, w_if_ne, w_icmp_ne, w_if_lt, w_icmp_lt, w_if_ge, w_icmp_ge, w_if_gt, w_icmp_gt, w_if_le, w_icmp_le, w_GetI, w_GetL, w_GetR, w_PutI, w_PutZ, w_PutL, w_PutR, w_PutN, w_Iald, w_Zald, w_Lald, w_Aald, w_Iast, w_Zast, w_Last, w_AastR, w_AastN, w_Alen, w_New, w_NewA, w_Mna, w_Iret, w_Zret, w_Cret, w_Bret, w_Lret, w_AretR, w_AretN, w_Vret, w_Obj, w_IfNN, w_IfNR, w_Copy, w_Cln, w_Cast, w_SfA, w_SfI, w_SfQ, w_Str, w_ScLd, w_ScLen, w_CV0, w_CS0, w_CV1, w_CS1, w_CV2, w_CS2, w_CV3, w_CS3, w_CV4, w_CS4, w_CV5, w_CS5, List.getElem?_cons_zero, List.getElem?_cons_succ, List.set_cons_zero, List.set_cons_succ, List.length_cons, List.length_nil, List.map_cons, List.map_nil, List.sum_cons, List.sum_nil, List.nil_append, List.cons_append, Option.toList_some, Option.toList_none, Value.category, xok, va_rf, true_and, and_true, and_self, Nat.reduceAdd, Nat.reduceLT, Nat.reduceLeDiff, Nat.reduceEqDiff, Nat.reduceMul, beq_self_eq_true, decide_true, ite_true, ite_false, if_true, if_false, reduceIte, Bool.true_eq_false, Bool.false_eq_true, eq_self_iff_true, Nat.zero_le, not_true_eq_false, not_false_eq_true, forall_const, false_implies, implies_true, forall_false, hC.all, c3, g, td5, ne10, ne10L, ne01, ne01L, tt_imp, nt_imp, ff_imp, nf_imp, true_and, and_true, true_or, or_true, reduceIte]
    exact this
end CRUN
