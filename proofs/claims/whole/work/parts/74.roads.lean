/-- towns within one road more -/
def spN (A B : Nat → Nat) (ct : Nat → Bool) (m : Nat) : Nat → Nat
  | 0 => m
  | i + 1 => if ct i = false ∧ (m.testBit (A i) = true ∨ m.testBit (B i) = true) then spN A B ct m i ||| (2 ^ A i ||| 2 ^ B i) else spN A B ct m i
def lvN (A B : Nat → Nat) (ct : Nat → Bool) (n : Nat) : Nat → Nat
  | 0 => 1
  | k + 1 => spN A B ct (lvN A B ct n k) n
theorem spN_tb {A B : Nat → Nat} {ct : Nat → Bool} {m t : Nat} : ∀ i, (spN A B ct m i).testBit t = true ↔ m.testBit t = true ∨ ∃ j, j < i ∧ ct j = false ∧ (m.testBit (A j) = true ∨ m.testBit (B j) = true) ∧ (A j = t ∨ B j = t)
  | 0 => by
    constructor
    · exact fun h => Or.inl h
    · rintro (h | ⟨j, hj, -⟩)
      · exact h
      · omega
  | i + 1 => by
    have ih := spN_tb (A := A) (B := B) (ct := ct) (m := m) (t := t) i
    rw [spN]
    split
    · rename_i g
      rw [Nat.testBit_or, Nat.testBit_or, Nat.testBit_two_pow, Nat.testBit_two_pow]
      simp only [Bool.or_eq_true, decide_eq_true_eq, ih]
      constructor
      · rintro ((h | ⟨j, h1, h2⟩) | h)
        · exact Or.inl h
        · exact Or.inr ⟨j, by omega, h2⟩
        · exact Or.inr ⟨i, by omega, g.1, g.2, h⟩
      · rintro (h | ⟨j, h1, h2, h3, h4⟩)
        · exact Or.inl (Or.inl h)
        · rcases Nat.lt_or_ge j i with q | q
          · exact Or.inl (Or.inr ⟨j, q, h2, h3, h4⟩)
          · have : j = i := by omega
            subst this
            exact Or.inr h4
    · rename_i g
      rw [ih]
      constructor
      · rintro (h | ⟨j, h1, h2⟩)
        · exact Or.inl h
        · exact Or.inr ⟨j, by omega, h2⟩
      · rintro (h | ⟨j, h1, h2, h3, h4⟩)
        · exact Or.inl h
        · rcases Nat.lt_or_ge j i with q | q
          · exact Or.inr ⟨j, q, h2, h3, h4⟩
          · have : j = i := by omega
            subst this
            exact absurd ⟨h2, h3⟩ g
theorem spN_lt {A B : Nat → Nat} {ct : Nat → Bool} {m : Nat} (hm : m < 256) : ∀ i, (∀ j, j < i → A j < 8 ∧ B j < 8) → spN A B ct m i < 256
  | 0, _ => hm
  | i + 1, h => by
    have ih := spN_lt (A := A) (B := B) (ct := ct) hm i (fun j hj => h j (by omega))
    have ⟨h1, h2⟩ := h i (by omega)
    have p : ∀ a, a < 8 → 2 ^ a < 2 ^ 8 := fun a ha => Nat.pow_lt_pow_right (by decide) ha
    rw [spN]
    split
    · exact Nat.or_lt_two_pow (n := 8) ih (Nat.or_lt_two_pow (n := 8) (p _ h1) (p _ h2))
    · exact ih
theorem lvN_lt {A B : Nat → Nat} {ct : Nat → Bool} {n : Nat} (h : ∀ j, j < n → A j < 8 ∧ B j < 8) : ∀ k, lvN A B ct n k < 256
  | 0 => by show 1 < 256; omega
  | k + 1 => spN_lt (lvN_lt h k) n h
theorem lvN_mono {A B : Nat → Nat} {ct : Nat → Bool} {n k t : Nat} (h : (lvN A B ct n k).testBit t = true) : ∀ d, (lvN A B ct n (k + d)).testBit t = true
  | 0 => h
  | d + 1 => by
    rw [← Nat.add_assoc, lvN]
    exact (spN_tb n).mpr (Or.inl (lvN_mono h d))
/-- the roads of the class -/
def CRd (G : XH) (n : Nat) (A B : Nat → Nat) : Prop := n ≤ 12 ∧ hpI G 1 5 = nI n ∧ ∀ j, j < n → A j < 8 ∧ B j < 8 ∧ hpI G 3 j = nI (A j) ∧ hpI G 4 j = nI (B j)
theorem and_ne {m a b : Nat} : (m &&& (2 ^ a ||| 2 ^ b) = 0) ↔ ¬ (m.testBit a = true ∨ m.testBit b = true) := by
  constructor
  · rintro h (q | q)
    · have := congrArg (fun x => x.testBit a) h
      simp [Nat.testBit_and, Nat.testBit_or, q] at this
    · have := congrArg (fun x => x.testBit b) h
      simp [Nat.testBit_and, Nat.testBit_or, q] at this
  · intro h
    apply Nat.eq_of_testBit_eq
    intro i
    rw [Nat.testBit_and, Nat.testBit_or, Nat.testBit_two_pow, Nat.testBit_two_pow, Nat.zero_testBit]
    by_cases q1 : a = i
    · subst q1
      have : m.testBit a = false := by
        cases hh : m.testBit a
        · rfl
        · exact absurd (Or.inl hh) h
      simp [this]
    · by_cases q2 : b = i
      · subst q2
        have : m.testBit b = false := by
          cases hh : m.testBit b
          · rfl
          · exact absurd (Or.inr hh) h
        simp [this]
      · simp [q1, q2]
theorem c_spread {G : XH} (hC : CS G) (Q : XR → Prop) {n : Nat} {A B : Nat → Nat} (hR : CRd G n A B) (m s : Nat) (hm : m < 256) (hs : s < 4096) : SP D_World_spread [.ref 1, .int (nI m), .int (nI s)] G Q = Q (some (.int (nI (spN A B (fun j => s.testBit j) m n))), G) := by
  refine sp_of ?_ Q
  obtain ⟨n12, r1, r2⟩ := hR
  rw [e_World_spread]
  simp only [k_World_spread_0, w_iadd, w_isub, w_imul, w_iand, w_ior, w_ixor, w_ishl, w_ishr, w_iushr, w_idiv, w_irem, w_ineg, w_ladd, w_lsub, w_lmul, w_ldiv, w_lrem, w_i2l, w_l2i, w_i2c, w_lcmp, w_dup_int, w_pop_int, w_dup_ref, w_pop_ref, w_dup_retAddr, w_pop_retAddr, w_dup2, w_I, w_L, w_Null, w_Ild, w_Lld, w_Ald, w_Ist, w_Lst, w_Ast, w_Iinc, w_if_eq, w_icmp_eq, w_if_ne, w_icmp_ne, w_if_lt, w_icmp_lt, w_if_ge, w_icmp_ge, w_if_gt, w_icmp_gt, w_if_le, w_icmp_le, w_GetI, w_GetL, w_GetR, w_PutI, w_PutZ, w_PutL, w_PutR, w_PutN, w_Iald, w_Zald, w_Lald, w_Aald, w_Iast, w_Zast, w_Last, w_AastR, w_AastN, w_Alen, w_New, w_NewA, w_Mna, w_Iret, w_Zret, w_Cret, w_Bret, w_Lret, w_AretR, w_AretN, w_Vret, w_Obj, w_IfNN, w_IfNR, w_Copy, w_Cln, w_Cast, w_SfA, w_SfI, w_SfQ, w_Str, w_ScLd, w_ScLen, w_CV0, w_CS0, w_CV1, w_CS1, w_CV2, w_CS2, w_CV3, w_CS3, w_CV4, w_CS4, w_CV5, w_CS5, List.getElem?_cons_zero, List.getElem?_cons_succ, List.set_cons_zero, List.set_cons_succ, List.length_cons, List.length_nil, List.map_cons, List.map_nil, List.sum_cons, List.sum_nil, List.nil_append, List.cons_append, Option.toList_some, Option.toList_none, Value.category, xok, va_rf, true_and, and_true, and_self, Nat.reduceAdd, Nat.reduceLT, Nat.reduceLeDiff, Nat.reduceEqDiff, Nat.reduceMul, beq_self_eq_true, decide_true, ite_true, ite_false, if_true, if_false, reduceIte, Bool.true_eq_false, Bool.false_eq_true, eq_self_iff_true, Nat.zero_le, not_true_eq_false, not_false_eq_true, forall_const, false_implies, implies_true, forall_false]
  unfold k_World_spread_5
  refine w_loop (fun mm A' st G' => ∃ i o5, i ≤ n ∧ mm = n - i ∧ A' = [some (.ref 1), some (.int (nI m)), some (.int (nI s)), some (.int (nI (spN A B (fun j => s.testBit j) m i))), some (.int (nI i)), o5] ∧ st = [] ∧ G' = G) ?_ NF n _ _ _ (by unfold NF; omega) ⟨0, none, by omega, rfl, rfl, rfl, rfl⟩
  rintro mm A' st G' K ⟨i, o5, hi, rfl, rfl, rfl, rfl⟩ ih
  simp only [f_World_spread_5, w_iadd, w_isub, w_imul, w_iand, w_ior, w_ixor, w_ishl, w_ishr, w_iushr, w_idiv, w_irem, w_ineg, w_ladd, w_lsub, w_lmul, w_ldiv, w_lrem, w_i2l, w_l2i, w_i2c, w_lcmp, w_dup_int, w_pop_int, w_dup_ref, w_pop_ref, w_dup_retAddr, w_pop_retAddr, w_dup2, w_I, w_L, w_Null, w_Ild, w_Lld, w_Ald, w_Ist, w_Lst, w_Ast, w_Iinc, w_if_eq, w_icmp_eq, w_if_ne, w_icmp_ne, w_if_lt, w_icmp_lt, w_if_ge, w_icmp_ge, w_if_gt, w_icmp_gt, w_if_le, w_icmp_le, w_GetI, w_GetL, w_GetR, w_PutI, w_PutZ, w_PutL, w_PutR, w_PutN, w_Iald, w_Zald, w_Lald, w_Aald, w_Iast, w_Zast, w_Last, w_AastR, w_AastN, w_Alen, w_New, w_NewA, w_Mna, w_Iret, w_Zret, w_Cret, w_Bret, w_Lret, w_AretR, w_AretN, w_Vret, w_Obj, w_IfNN, w_IfNR, w_Copy, w_Cln, w_Cast, w_SfA, w_SfI, w_SfQ, w_Str, w_ScLd, w_ScLen, w_CV0, w_CS0, w_CV1, w_CS1, w_CV2, w_CS2, w_CV3, w_CS3, w_CV4, w_CS4, w_CV5, w_CS5, List.getElem?_cons_zero, List.getElem?_cons_succ, List.set_cons_zero, List.set_cons_succ, List.length_cons, List.length_nil, List.map_cons, List.map_nil, List.sum_cons, List.sum_nil, List.nil_append, List.cons_append, Option.toList_some, Option.toList_none, Value.category, xok, va_rf, true_and, and_true, and_self, Nat.reduceAdd, Nat.reduceLT, Nat.reduceLeDiff, Nat.reduceEqDiff, Nat.reduceMul, beq_self_eq_true, decide_true, ite_true, ite_false, if_true, if_false, reduceIte, Bool.true_eq_false, Bool.false_eq_true, eq_self_iff_true, Nat.zero_le, not_true_eq_false, not_false_eq_true, forall_const, false_implies, implies_true, forall_false, hC.all, r1]
  refine ⟨fun g => ?_, fun g => ?_⟩
  · have : i = n := by
      have := (nI_leI (by omega) (by omega)).mp g
      omega
    subst this
    rfl
  · have hlt : i < n := by
      rcases Nat.lt_or_ge i n with z | z
      · exact z
      · exact absurd (nI_le z (by omega)) g
    obtain ⟨a8, b8, ra, rb⟩ := r2 i hlt
    have p1 : 0 ≤ nI (i) := nI_pos' (by omega)
    have c1 : (nI (i)).toNatClampNeg = i := nI_clamp (by omega)
    have l1 : i < 12 := by omega
    have hb := spN_lt (A := A) (B := B) (ct := fun j => s.testBit j) hm i (fun j hj => ⟨(r2 j (by omega)).1, (r2 j (by omega)).2.1⟩)
    have hnext : ∀ {v : Nat} {o5 : Option Value}, v = spN A B (fun j => s.testBit j) m (i + 1) → WP K [some (.ref 1), some (.int (nI m)), some (.int (nI s)), some (.int (nI v)), some (.int (nI i + Int32.ofInt 1)), o5] [] G' (fun r => r = (some (.int (nI (spN A B (fun j => s.testBit j) m n))), G')) := by
      intro v o5 hv
      subst hv
      exact ih (n - (i + 1)) _ _ _ (by omega) ⟨i + 1, o5, by omega, rfl, by rw [show nI i + Int32.ofInt 1 = nI (i + 1) from nI_1 i], rfl, rfl⟩
    have z0 : (nI (m &&& (2 ^ A i ||| 2 ^ B i)) = 0) = (¬ (m.testBit (A i) = true ∨ m.testBit (B i) = true)) := by
      rw [← and_ne]
      apply propext
      constructor
      · intro q
        exact (nI_eq (b := 0) (Nat.lt_of_le_of_lt Nat.and_le_left (by omega)) (by decide)).mp q
      · intro q
        rw [q]
        rfl
    simp only [w_iadd, w_isub, w_imul, w_iand, w_ior, w_ixor, w_ishl, w_ishr, w_iushr, w_idiv, w_irem, w_ineg, w_ladd, w_lsub, w_lmul, w_ldiv, w_lrem, w_i2l, w_l2i, w_i2c, w_lcmp, w_dup_int, w_pop_int, w_dup_ref, w_pop_ref, w_dup_retAddr, w_pop_retAddr, w_dup2, w_I, w_L, w_Null, w_Ild, w_Lld, w_Ald, w_Ist, w_Lst, w_Ast, w_Iinc, w_if_eq, w_icmp_eq, w_if_ne, w_icmp_ne, w_if_lt, w_icmp_lt, w_if_ge, w_icmp_ge, w_if_gt, w_icmp_gt, w_if_le, w_icmp_le, w_GetI, w_GetL, w_GetR, w_PutI, w_PutZ, w_PutL, w_PutR, w_PutN, w_Iald, w_Zald, w_Lald, w_Aald, w_Iast, w_Zast, w_Last, w_AastR, w_AastN, w_Alen, w_New, w_NewA, w_Mna, w_Iret, w_Zret, w_Cret, w_Bret, w_Lret, w_AretR, w_AretN, w_Vret, w_Obj, w_IfNN, w_IfNR, w_Copy, w_Cln, w_Cast, w_SfA, w_SfI, w_SfQ, w_Str, w_ScLd, w_ScLen, w_CV0, w_CS0, w_CV1, w_CS1, w_CV2, w_CS2, w_CV3, w_CS3, w_CV4, w_CS4, w_CV5, w_CS5, List.getElem?_cons_zero, List.getElem?_cons_succ, List.set_cons_zero, List.set_cons_succ, List.length_cons, List.length_nil, List.map_cons, List.map_nil, List.sum_cons, List.sum_nil, List.nil_append, List.cons_append, Option.toList_some, Option.toList_none, Value.category, xok, va_rf, true_and, and_true, and_self, Nat.reduceAdd, Nat.reduceLT, Nat.reduceLeDiff, Nat.reduceEqDiff, Nat.reduceMul, beq_self_eq_true, decide_true, ite_true, ite_false, if_true, if_false, reduceIte, Bool.true_eq_false, Bool.false_eq_true, eq_self_iff_true, Nat.zero_le, not_true_eq_false, not_false_eq_true, forall_const, false_implies, implies_true, forall_false, tn_0, tn_1, tn_2, tn_3, tn_4, tn_5, tn_6, tn_7, tn_8, tn_9, tn_10, tn_11, tn_12, tn_13, tn_14, tn_15, tn_16, tn_17, tn_18, tn_19, tn_20, tn_21, tn_22, tn_23, tn_24, tn_25, tn_26, tn_27, tn_28, tn_29, tn_30, tn_31, tn_32, tn_33, tn_34, tn_35, tn_36, tn_37, tn_38, tn_39, tn_40, tn_41, tn_42, tn_43, tn_44, tn_45, tn_46, tn_47, tn_48, tn_49, tn_50, tn_51, tn_52, tn_53, tn_54, tn_55, tn_56, tn_57, tn_58, tn_59, tn_60, tn_61, tn_62, tn_63, tn_64, tn_65, tn_66, tn_67, tn_68, tn_69, tn_70, tn_71, tn_72, tn_73, tn_74, tn_75, tn_76, tn_77, tn_78, tn_79, tn_80, tn_81, tn_82, tn_83, tn_84, tn_85, tn_86, tn_87, tn_88, tn_89, tn_90, tn_91, tn_92, tn_93, tn_94, tn_95, tn_96, tn_97, tn_98, tn_99, tn_100, tn_101, tn_102, tn_103, tn_104, tn_105, tn_106, tn_107, tn_108, tn_109, tn_110, tn_111, tn_112, tn_113, tn_114, tn_115, tn_116, tn_117, tn_118, tn_119, tn_120, tn_121, tn_122, tn_123, tn_124, tn_125, tn_126, tn_127, tn_128, tn_129, tn_130, tn_131, tn_132, tn_133, tn_134, tn_135, tn_136, tn_137, tn_138, tn_139, tn_140, tn_141, tn_142, tn_143, tn_144, tn_145, tn_146, tn_147, tn_148, tn_149, tn_150, tn_151, tn_152, tn_153, tn_154, tn_155, tn_156, tn_157, tn_158, tn_159, tn_160, tn_161, tn_162, tn_163, tn_164, tn_165, tn_166, tn_167, tn_168, tn_169, tn_170, tn_171, tn_172, tn_173, tn_174, tn_175, tn_176, tn_177, tn_178, tn_179, tn_180, tn_181, tn_182, tn_183, tn_184, tn_185, tn_186, tn_187, tn_188, tn_189, tn_190, tn_191, tn_192, tn_193, tn_194, tn_195, tn_196, tn_197, tn_198, tn_199, tn_255, tn_256, tn_300, tn_399, tn_400, tn_500, tn_900, tn_999, tn_1000, tn_1001, tn_1024, tn_2048, tn_2176, tn_3536, tn_4095, tn_4096, tn_5580, tn_11160, tn_12345, tn_1103, tn_99999, tn_1000000, tn_1000003, tn_100000000, tn_1000000000, ge0_0, ge0_1, ge0_2, ge0_3, ge0_4, ge0_5, ge0_6, ge0_7, ge0_8, ge0_9, ge0_10, ge0_11, ge0_12, ge0_13, ge0_14, ge0_15, ge0_16, ge0_17, ge0_18, ge0_19, ge0_20, ge0_21, ge0_22, ge0_23, ge0_24, ge0_25, ge0_26, ge0_27, ge0_28, ge0_29, ge0_30, ge0_31, ge0_32, ge0_33, ge0_34, ge0_35, ge0_36, ge0_37, ge0_38, ge0_39, ge0_40, ge0_41, ge0_42, ge0_43, ge0_44, ge0_45, ge0_46, ge0_47, ge0_48, ge0_49, ge0_50, ge0_51, ge0_52, ge0_53, ge0_54, ge0_55, ge0_56, ge0_57, ge0_58, ge0_59, ge0_60, ge0_61, ge0_62, ge0_63, ge0_64, ge0_65, ge0_66, ge0_67, ge0_68, ge0_69, ge0_70, ge0_71, ge0_72, ge0_73, ge0_74, ge0_75, ge0_76, ge0_77, ge0_78, ge0_79, ge0_80, ge0_81, ge0_82, ge0_83, ge0_84, ge0_85, ge0_86, ge0_87, ge0_88, ge0_89, ge0_90, ge0_91, ge0_92, ge0_93, ge0_94, ge0_95, ge0_96, ge0_97, ge0_98, ge0_99, ge0_100, ge0_101, ge0_102, ge0_103, ge0_104, ge0_105, ge0_106, ge0_107, ge0_108, ge0_109, ge0_110, ge0_111, ge0_112, ge0_113, ge0_114, ge0_115, ge0_116, ge0_117, ge0_118, ge0_119, ge0_120, ge0_121, ge0_122, ge0_123, ge0_124, ge0_125, ge0_126, ge0_127, ge0_128, ge0_129, ge0_130, ge0_131, ge0_132, ge0_133, ge0_134, ge0_135, ge0_136, ge0_137, ge0_138, ge0_139, ge0_140, ge0_141, ge0_142, ge0_143, ge0_144, ge0_145, ge0_146, ge0_147, ge0_148, ge0_149, ge0_150, ge0_151, ge0_152, ge0_153, ge0_154, ge0_155, ge0_156, ge0_157, ge0_158, ge0_159, ge0_160, ge0_161, ge0_162, ge0_163, ge0_164, ge0_165, ge0_166, ge0_167, ge0_168, ge0_169, ge0_170, ge0_171, ge0_172, ge0_173, ge0_174, ge0_175, ge0_176, ge0_177, ge0_178, ge0_179, ge0_180, ge0_181, ge0_182, ge0_183, ge0_184, ge0_185, ge0_186, ge0_187, ge0_188, ge0_189, ge0_190, ge0_191, ge0_192, ge0_193, ge0_194, ge0_195, ge0_196, ge0_197, ge0_198, ge0_199, ge0_255, ge0_256, ge0_300, ge0_399, ge0_400, ge0_500, ge0_900, ge0_999, ge0_1000, ge0_1001, ge0_1024, ge0_2048, ge0_2176, ge0_3536, ge0_4095, ge0_4096, ge0_5580, ge0_11160, ge0_12345, ge0_1103, ge0_99999, ge0_1000000, ge0_1000003, ge0_100000000, ge0_1000000000, hC.all, ra, rb, xin, p1, c1, l1, nx_shl (show A i < 31 by omega), nx_shl (show B i < 31 by omega), nx_or, nx_b1 (show s < 2147483648 by omega) (show i < 32 by omega), nx_and, z0, k_World_spread_56, ne10, ne10L, ne01, ne01L, tt_imp, nt_imp, ff_imp, nf_imp, true_and, and_true, true_or, or_true, reduceIte]
    cases hsb : s.testBit i with
    | true =>
      simp only [List.getElem?_cons_zero, List.getElem?_cons_succ, List.set_cons_zero, List.set_cons_succ, List.length_cons, List.length_nil, List.map_cons, List.map_nil, List.sum_cons, List.sum_nil, List.nil_append, List.cons_append, Option.toList_some, Option.toList_none, Value.category, xok, va_rf, true_and, and_true, and_self, Nat.reduceAdd, Nat.reduceLT, Nat.reduceLeDiff, Nat.reduceEqDiff, Nat.reduceMul, beq_self_eq_true, decide_true, ite_true, ite_false, if_true, if_false, reduceIte, Bool.true_eq_false, Bool.false_eq_true, eq_self_iff_true, Nat.zero_le, not_true_eq_false, not_false_eq_true, forall_const, false_implies, implies_true, forall_false, ne10, ne10L, ne01, ne01L, tt_imp, nt_imp, ff_imp, nf_imp, true_and, and_true, true_or, or_true, reduceIte]
      exact hnext (by rw [spN, hsb, if_neg (by simp)])
    | false =>
      simp only [List.getElem?_cons_zero, List.getElem?_cons_succ, List.set_cons_zero, List.set_cons_succ, List.length_cons, List.length_nil, List.map_cons, List.map_nil, List.sum_cons, List.sum_nil, List.nil_append, List.cons_append, Option.toList_some, Option.toList_none, Value.category, xok, va_rf, true_and, and_true, and_self, Nat.reduceAdd, Nat.reduceLT, Nat.reduceLeDiff, Nat.reduceEqDiff, Nat.reduceMul, beq_self_eq_true, decide_true, ite_true, ite_false, if_true, if_false, reduceIte, Bool.true_eq_false, Bool.false_eq_true, eq_self_iff_true, Nat.zero_le, not_true_eq_false, not_false_eq_true, forall_const, false_implies, implies_true, forall_false, ne10, ne10L, ne01, ne01L, tt_imp, nt_imp, ff_imp, nf_imp, true_and, and_true, true_or, or_true, reduceIte]
      refine ⟨fun q => hnext (by rw [spN, if_neg (fun z => q z.2)]), fun q => hnext (by rw [spN, if_pos ⟨hsb, Decidable.not_not.mp q⟩])⟩
theorem lvN_fix {A B : Nat → Nat} {ct : Nat → Bool} {n k : Nat} (h : lvN A B ct n (k + 1) = lvN A B ct n k) : ∀ d, lvN A B ct n (k + d) = lvN A B ct n k
  | 0 => rfl
  | d + 1 => by
    have ih := lvN_fix h d
    rw [← Nat.add_assoc, lvN, ih]
    exact h
theorem c_reached {G : XH} (hC : CS G) (Q : XR → Prop) {n : Nat} {A B : Nat → Nat} (hR : CRd G n A B) (s : Nat) (hs : s < 4096) : SP D_World_reached [.ref 1, .int (nI s)] G Q = Q (some (.int (nI (lvN A B (fun j => s.testBit j) n 7))), G) := by
  refine sp_of ?_ Q
  have hlt := lvN_lt (A := A) (B := B) (ct := fun j => s.testBit j) (n := n) (fun j hj => ⟨(hR.2.2 j hj).1, (hR.2.2 j hj).2.1⟩)
  rw [e_World_reached]
  simp only [k_World_reached_0, w_iadd, w_isub, w_imul, w_iand, w_ior, w_ixor, w_ishl, w_ishr, w_iushr, w_idiv, w_irem, w_ineg, w_ladd, w_lsub, w_lmul, w_ldiv, w_lrem, w_i2l, w_l2i, w_i2c, w_lcmp, w_dup_int, w_pop_int, w_dup_ref, w_pop_ref, w_dup_retAddr, w_pop_retAddr, w_dup2, w_I, w_L, w_Null, w_Ild, w_Lld, w_Ald, w_Ist, w_Lst, w_Ast, w_Iinc, w_if_eq, w_icmp_eq, w_if_ne, w_icmp_ne, w_if_lt, w_icmp_lt, w_if_ge, w_icmp_ge, w_if_gt, w_icmp_gt, w_if_le, w_icmp_le, w_GetI, w_GetL, w_GetR, w_PutI, w_PutZ, w_PutL, w_PutR, w_PutN, w_Iald, w_Zald, w_Lald, w_Aald, w_Iast, w_Zast, w_Last, w_AastR, w_AastN, w_Alen, w_New, w_NewA, w_Mna, w_Iret, w_Zret, w_Cret, w_Bret, w_Lret, w_AretR, w_AretN, w_Vret, w_Obj, w_IfNN, w_IfNR, w_Copy, w_Cln, w_Cast, w_SfA, w_SfI, w_SfQ, w_Str, w_ScLd, w_ScLen, w_CV0, w_CS0, w_CV1, w_CS1, w_CV2, w_CS2, w_CV3, w_CS3, w_CV4, w_CS4, w_CV5, w_CS5, List.getElem?_cons_zero, List.getElem?_cons_succ, List.set_cons_zero, List.set_cons_succ, List.length_cons, List.length_nil, List.map_cons, List.map_nil, List.sum_cons, List.sum_nil, List.nil_append, List.cons_append, Option.toList_some, Option.toList_none, Value.category, xok, va_rf, true_and, and_true, and_self, Nat.reduceAdd, Nat.reduceLT, Nat.reduceLeDiff, Nat.reduceEqDiff, Nat.reduceMul, beq_self_eq_true, decide_true, ite_true, ite_false, if_true, if_false, reduceIte, Bool.true_eq_false, Bool.false_eq_true, eq_self_iff_true, Nat.zero_le, not_true_eq_false, not_false_eq_true, forall_const, false_implies, implies_true, forall_false]
  unfold k_World_reached_4
  refine w_loop (fun mm A' st G' => ∃ k o4, k ≤ 7 ∧ mm = 7 - k ∧ A' = [some (.ref 1), some (.int (nI s)), some (.int (nI (lvN A B (fun j => s.testBit j) n k))), some (.int (nI (k + 1))), o4] ∧ st = [] ∧ G' = G) ?_ NF 7 _ _ _ (by decide) ⟨0, none, by omega, rfl, rfl, rfl, rfl⟩
  rintro mm A' st G' K ⟨k, o4, hk, rfl, rfl, rfl, rfl⟩ ih
  have hsp := fun Q => c_spread hC Q hR (lvN A B (fun j => s.testBit j) n k) s (hlt k) hs
  simp only [f_World_reached_4, w_iadd, w_isub, w_imul, w_iand, w_ior, w_ixor, w_ishl, w_ishr, w_iushr, w_idiv, w_irem, w_ineg, w_ladd, w_lsub, w_lmul, w_ldiv, w_lrem, w_i2l, w_l2i, w_i2c, w_lcmp, w_dup_int, w_pop_int, w_dup_ref, w_pop_ref, w_dup_retAddr, w_pop_retAddr, w_dup2, w_I, w_L, w_Null, w_Ild, w_Lld, w_Ald, w_Ist, w_Lst, w_Ast, w_Iinc, w_if_eq, w_icmp_eq, w_if_ne, w_icmp_ne, w_if_lt, w_icmp_lt, w_if_ge, w_icmp_ge, w_if_gt, w_icmp_gt, w_if_le, w_icmp_le, w_GetI, w_GetL, w_GetR, w_PutI, w_PutZ, w_PutL, w_PutR, w_PutN, w_Iald, w_Zald, w_Lald, w_Aald, w_Iast, w_Zast, w_Last, w_AastR, w_AastN, w_Alen, w_New, w_NewA, w_Mna, w_Iret, w_Zret, w_Cret, w_Bret, w_Lret, w_AretR, w_AretN, w_Vret, w_Obj, w_IfNN, w_IfNR, w_Copy, w_Cln, w_Cast, w_SfA, w_SfI, w_SfQ, w_Str, w_ScLd, w_ScLen, w_CV0, w_CS0, w_CV1, w_CS1, w_CV2, w_CS2, w_CV3, w_CS3, w_CV4, w_CS4, w_CV5, w_CS5, List.getElem?_cons_zero, List.getElem?_cons_succ, List.set_cons_zero, List.set_cons_succ, List.length_cons, List.length_nil, List.map_cons, List.map_nil, List.sum_cons, List.sum_nil, List.nil_append, List.cons_append, Option.toList_some, Option.toList_none, Value.category, xok, va_rf, true_and, and_true, and_self, Nat.reduceAdd, Nat.reduceLT, Nat.reduceLeDiff, Nat.reduceEqDiff, Nat.reduceMul, beq_self_eq_true, decide_true, ite_true, ite_false, if_true, if_false, reduceIte, Bool.true_eq_false, Bool.false_eq_true, eq_self_iff_true, Nat.zero_le, not_true_eq_false, not_false_eq_true, forall_const, false_implies, implies_true, forall_false, hC.all, hsp]
  refine ⟨fun g => ?_, fun g => ⟨fun q => ?_, fun q => ?_⟩⟩
  · have := (nI_leI (a := 8) (by decide) (by omega)).mp g
    rw [show k = 7 by omega]
  · have h1 : lvN A B (fun j => s.testBit j) n (k + 1) = lvN A B (fun j => s.testBit j) n k := (nI_eq (Nat.lt_of_lt_of_le (hlt (k + 1)) (by decide)) (Nat.lt_of_lt_of_le (hlt k) (by decide))).mp q
    have := lvN_fix h1 (7 - k)
    rw [show k + (7 - k) = 7 by omega] at this
    rw [this]
  · have : k < 7 := by
      rcases Nat.lt_or_ge k 7 with z | z
      · exact z
      · exact absurd (nI_le (a := 8) (b := k + 1) (by omega) (by omega)) g
    exact ih (7 - (k + 1)) _ _ _ (by omega) ⟨k + 1, _, by omega, rfl, by rw [show nI (k + 1) + Int32.ofInt 1 = nI (k + 1 + 1) from nI_1 (k + 1)]; rfl, rfl, rfl⟩
/-- the first of them -/
def dsN (p : Nat → Bool) : Nat → Option Nat
  | 0 => none
  | k + 1 => match dsN p k with
    | some j => some j
    | none => if p k then some k else none
theorem dsN_some {p : Nat → Bool} {j : Nat} : ∀ k, dsN p k = some j → j < k ∧ p j = true
  | 0, h => by cases h
  | k + 1, h => by
    rw [dsN] at h
    split at h
    · rename_i q
      have := dsN_some k (q.trans h)
      exact ⟨by omega, this.2⟩
    · split at h
      · rename_i q
        cases h
        exact ⟨by omega, q⟩
      · cases h
theorem dsN_none {p : Nat → Bool} : ∀ k, dsN p k = none → ∀ j, j < k → p j = false
  | 0, _, j, hj => by omega
  | k + 1, h, j, hj => by
    rw [dsN] at h
    split at h
    · cases h
    · rename_i q
      split at h
      · cases h
      · rename_i q2
        rcases Nat.lt_or_ge j k with z | z
        · exact dsN_none k q j z
        · rw [show j = k by omega]
          cases hp : p k
          · rfl
          · exact absurd hp q2
theorem dsN_up {p : Nat → Bool} {k j : Nat} (h : dsN p k = some j) : ∀ d, dsN p (k + d) = some j
  | 0 => h
  | d + 1 => by rw [← Nat.add_assoc, dsN, dsN_up h d]
theorem c_wayTo {G : XH} (hC : CS G) (Q : XR → Prop) {n : Nat} {A B : Nat → Nat} (hR : CRd G n A B) (t : Nat) (ht : t < 8) : SP D_World_wayTo [.ref 1, .int (nI t)] G Q = Q (some (.int (oI (dsN (fun k => (lvN A B (fun j => (0 : Nat).testBit j) n k).testBit t) 8))), G) := by
  refine sp_of ?_ Q
  have hlt := lvN_lt (A := A) (B := B) (ct := fun j => (0 : Nat).testBit j) (n := n) (fun j hj => ⟨(hR.2.2 j hj).1, (hR.2.2 j hj).2.1⟩)
  rw [e_World_wayTo]
  simp only [k_World_wayTo_0, w_iadd, w_isub, w_imul, w_iand, w_ior, w_ixor, w_ishl, w_ishr, w_iushr, w_idiv, w_irem, w_ineg, w_ladd, w_lsub, w_lmul, w_ldiv, w_lrem, w_i2l, w_l2i, w_i2c, w_lcmp, w_dup_int, w_pop_int, w_dup_ref, w_pop_ref, w_dup_retAddr, w_pop_retAddr, w_dup2, w_I, w_L, w_Null, w_Ild, w_Lld, w_Ald, w_Ist, w_Lst, w_Ast, w_Iinc, w_if_eq, w_icmp_eq, w_if_ne, w_icmp_ne, w_if_lt, w_icmp_lt, w_if_ge, w_icmp_ge, w_if_gt, w_icmp_gt, w_if_le, w_icmp_le, w_GetI, w_GetL, w_GetR, w_PutI, w_PutZ, w_PutL, w_PutR, w_PutN, w_Iald, w_Zald, w_Lald, w_Aald, w_Iast, w_Zast, w_Last, w_AastR, w_AastN, w_Alen, w_New, w_NewA, w_Mna, w_Iret, w_Zret, w_Cret, w_Bret, w_Lret, w_AretR, w_AretN, w_Vret, w_Obj, w_IfNN, w_IfNR, w_Copy, w_Cln, w_Cast, w_SfA, w_SfI, w_SfQ, w_Str, w_ScLd, w_ScLen, w_CV0, w_CS0, w_CV1, w_CS1, w_CV2, w_CS2, w_CV3, w_CS3, w_CV4, w_CS4, w_CV5, w_CS5, List.getElem?_cons_zero, List.getElem?_cons_succ, List.set_cons_zero, List.set_cons_succ, List.length_cons, List.length_nil, List.map_cons, List.map_nil, List.sum_cons, List.sum_nil, List.nil_append, List.cons_append, Option.toList_some, Option.toList_none, Value.category, xok, va_rf, true_and, and_true, and_self, Nat.reduceAdd, Nat.reduceLT, Nat.reduceLeDiff, Nat.reduceEqDiff, Nat.reduceMul, beq_self_eq_true, decide_true, ite_true, ite_false, if_true, if_false, reduceIte, Bool.true_eq_false, Bool.false_eq_true, eq_self_iff_true, Nat.zero_le, not_true_eq_false, not_false_eq_true, forall_const, false_implies, implies_true, forall_false]
  unfold k_World_wayTo_4
  refine w_loop (fun mm A' st G' => ∃ k, k ≤ 8 ∧ mm = 8 - k ∧ A' = [some (.ref 1), some (.int (nI t)), some (.int (nI (lvN A B (fun j => (0 : Nat).testBit j) n k))), some (.int (nI k))] ∧ st = [] ∧ G' = G ∧ dsN (fun k => (lvN A B (fun j => (0 : Nat).testBit j) n k).testBit t) k = none) ?_ NF 8 _ _ _ (by decide) ⟨0, by omega, rfl, rfl, rfl, rfl, rfl⟩
  rintro mm A' st G' K ⟨k, hk, rfl, rfl, rfl, rfl, hn⟩ ih
  have hsp : ∀ Q, SP D_World_spread [.ref 1, .int (nI (lvN A B (fun j => (0 : Nat).testBit j) n k)), .int 0] G' Q = Q (some (.int (nI (lvN A B (fun j => (0 : Nat).testBit j) n (k + 1)))), G') := fun Q => c_spread hC Q hR (lvN A B (fun j => (0 : Nat).testBit j) n k) 0 (hlt k) (by omega)
  simp only [f_World_wayTo_4, w_iadd, w_isub, w_imul, w_iand, w_ior, w_ixor, w_ishl, w_ishr, w_iushr, w_idiv, w_irem, w_ineg, w_ladd, w_lsub, w_lmul, w_ldiv, w_lrem, w_i2l, w_l2i, w_i2c, w_lcmp, w_dup_int, w_pop_int, w_dup_ref, w_pop_ref, w_dup_retAddr, w_pop_retAddr, w_dup2, w_I, w_L, w_Null, w_Ild, w_Lld, w_Ald, w_Ist, w_Lst, w_Ast, w_Iinc, w_if_eq, w_icmp_eq, w_if_ne, w_icmp_ne, w_if_lt, w_icmp_lt, w_if_ge, w_icmp_ge, w_if_gt, w_icmp_gt, w_if_le, w_icmp_le, w_GetI, w_GetL, w_GetR, w_PutI, w_PutZ, w_PutL, w_PutR, w_PutN, w_Iald, w_Zald, w_Lald, w_Aald, w_Iast, w_Zast, w_Last, w_AastR, w_AastN, w_Alen, w_New, w_NewA, w_Mna, w_Iret, w_Zret, w_Cret, w_Bret, w_Lret, w_AretR, w_AretN, w_Vret, w_Obj, w_IfNN, w_IfNR, w_Copy, w_Cln, w_Cast, w_SfA, w_SfI, w_SfQ, w_Str, w_ScLd, w_ScLen, w_CV0, w_CS0, w_CV1, w_CS1, w_CV2, w_CS2, w_CV3, w_CS3, w_CV4, w_CS4, w_CV5, w_CS5, List.getElem?_cons_zero, List.getElem?_cons_succ, List.set_cons_zero, List.set_cons_succ, List.length_cons, List.length_nil, List.map_cons, List.map_nil, List.sum_cons, List.sum_nil, List.nil_append, List.cons_append, Option.toList_some, Option.toList_none, Value.category, xok, va_rf, true_and, and_true, and_self, Nat.reduceAdd, Nat.reduceLT, Nat.reduceLeDiff, Nat.reduceEqDiff, Nat.reduceMul, beq_self_eq_true, decide_true, ite_true, ite_false, if_true, if_false, reduceIte, Bool.true_eq_false, Bool.false_eq_true, eq_self_iff_true, Nat.zero_le, not_true_eq_false, not_false_eq_true, forall_const, false_implies, implies_true, forall_false, hC.all, hsp, nx_b1 (Nat.lt_of_lt_of_le (hlt k) (show 256 ≤ 2147483648 by decide)) (show t < 32 by omega), ite11]
  refine ⟨fun g => ?_, fun g => ⟨fun q => ?_, fun q => ?_⟩⟩
  · have := (nI_leI (a := 8) (by decide) (by omega)).mp g
    rw [show k = 8 by omega] at hn
    rw [hn]
    rfl
  · have h1 : dsN (fun k => (lvN A B (fun j => (0 : Nat).testBit j) n k).testBit t) (k + 1) = some k := by rw [dsN, hn]; simp only [q, if_true]
    have h8 : k < 8 := by
      rcases Nat.lt_or_ge k 8 with z | z
      · exact z
      · exact absurd (nI_le (a := 8) (b := k) (by omega) (by omega)) g
    have := dsN_up h1 (8 - (k + 1))
    rw [show k + 1 + (8 - (k + 1)) = 8 by omega] at this
    rw [this]
    rfl
  · have h8 : k < 8 := by
      rcases Nat.lt_or_ge k 8 with z | z
      · exact z
      · exact absurd (nI_le (a := 8) (b := k) (by omega) (by omega)) g
    refine ih (8 - (k + 1)) _ _ _ (by omega) ⟨k + 1, by omega, rfl, by rw [show nI k + Int32.ofInt 1 = nI (k + 1) from nI_1 k], rfl, rfl, ?_⟩
    rw [dsN, hn]
    simp only [q, if_false]
    rfl
