theorem nx_sh7 (x : Nat) : nI x <<< ((7 : Int32) &&& 31) = nI (128 * x) := by
  refine b_ext (fun i hi => ?_)
  rw [show (7 : Int32) = nI 7 from rfl, b_shl 7 (by omega) _ hi, bt_nI _ _ hi, Nat.mul_comm, show x * 128 = x * 2 ^ 7 from rfl, Nat.testBit_mul_two_pow]
  by_cases h : 7 ≤ i
  · rw [bt_nI _ _ (by omega)]
  · simp [h]
theorem nx_s7 {p : Nat} (h : p < 2147483648) : nI p >>> ((7 : Int32) &&& 31) = nI (p / 128) := by
  rw [show (7 : Int32) = nI 7 from rfl, nx_shr h (by omega), Nat.shiftRight_eq_div_pow]
theorem nx_127 (p : Nat) : nI p &&& 127 = nI (p % 128) := by
  rw [show (127 : Int32) = nI 127 from rfl, nx_and, show (127 : Nat) = 2 ^ 7 - 1 from rfl, Nat.and_two_pow_sub_one_eq_mod]
theorem c_woM {p w lim : Nat} (hp : p < 1000000) (hw : w ≤ 99) (hl : lim ≤ 99) (G : XH) (Q : XR → Prop) : SP D_Bags_withOneMore [.int (nI p), .int (nI w), .int (nI lim)] G Q = Q (some (.int (nI (oaN lim p w))), G) := by
  rw [e_Bags_withOneMore]
  have e1 : nI (p / 128) + 1 = nI (p / 128 + 1) := nI_1 _
  have g0 : (nI p ≤ 0) = (p ≤ 0) := propext (by rw [show (0 : Int32) = nI 0 from rfl]; exact nI_leI (by omega) (by omega))
  have g1 : (nI lim < nI (p % 128 + w)) = (lim < p % 128 + w) := by
    rw [Int32.lt_iff_toInt_lt, nI_toInt (by omega), nI_toInt (by omega)]
    apply propext
    omega
  simp only [k_Bags_withOneMore_20, k_Bags_withOneMore_0, w_iadd, w_isub, w_imul, w_iand, w_ior, w_ixor, w_ishl, w_ishr, w_iushr, w_idiv, w_irem, w_ineg, w_ladd, w_lsub, w_lmul, w_ldiv, w_lrem, w_i2l, w_l2i, w_i2c, w_lcmp, w_dup_int, w_pop_int, w_dup_ref, w_pop_ref, w_dup_retAddr, w_pop_retAddr, w_dup2, w_I, w_L, w_Null, w_Ild, w_Lld, w_Ald, w_Ist, w_Lst, w_Ast, w_Iinc, w_if_eq, w_icmp_eq, w_if_ne, w_icmp_ne, w_if_lt, w_icmp_lt, w_if_ge, w_icmp_ge, w_if_gt, w_icmp_gt, w_if_le, w_icmp_le, w_GetI, w_GetL, w_GetR, w_PutI, w_PutZ, w_PutL, w_PutR, w_PutN, w_Iald, w_Zald, w_Lald, w_Aald, w_Iast, w_Zast, w_Last, w_AastR, w_AastN, w_Alen, w_New, w_NewA, w_Mna, w_Iret, w_Zret, w_Cret, w_Bret, w_Lret, w_AretR, w_AretN, w_Vret, w_Obj, w_IfNN, w_IfNR, w_Copy, w_Cln, w_Cast, w_SfA, w_SfI, w_SfQ, w_Str, w_ScLd, w_ScLen, w_CV0, w_CS0, w_CV1, w_CS1, w_CV2, w_CS2, w_CV3, w_CS3, w_CV4, w_CS4, w_CV5, w_CS5, List.getElem?_cons_zero, List.getElem?_cons_succ, List.set_cons_zero, List.set_cons_succ, List.length_cons, List.length_nil, List.map_cons, List.map_nil, List.sum_cons, List.sum_nil, List.nil_append, List.cons_append, Option.toList_some, Option.toList_none, Value.category, xok, va_rf, true_and, and_true, and_self, Nat.reduceAdd, Nat.reduceLT, Nat.reduceLeDiff, Nat.reduceEqDiff, Nat.reduceMul, beq_self_eq_true, decide_true, ite_true, ite_false, if_true, if_false, reduceIte, Bool.true_eq_false, Bool.false_eq_true, eq_self_iff_true, Nat.zero_le, not_true_eq_false, not_false_eq_true, forall_const, false_implies, implies_true, forall_false, ne10, ne10L, ne01, ne01L, tt_imp, nt_imp, ff_imp, nf_imp, true_and, and_true, true_or, or_true, reduceIte, nx_127, nI_add, g0, g1, nx_s7 (show p < 2147483648 by omega), nx_sh7, e1]
  unfold oaN
  rw [Nat.mul_comm 128]
  by_cases q1 : p ≤ 0
  · rw [if_neg (by omega)]
    simp [q1]
  · by_cases q2 : lim < p % 128 + w
    · rw [if_neg (by omega)]
      simp [q1, q2]
    · rw [if_pos (by omega)]
      simp [q1, q2]
/-- how many letters are held, and which -/
def hcN (R : Nat → Int32) : Nat → Nat
  | 0 => 0
  | l + 1 => hcN R l + (if R (62 + 7 * l) = 0 then 1 else 0)
def hlF (R : Nat → Int32) : Nat → Nat → Nat
  | 0 => fun _ => 0
  | l + 1 => if R (62 + 7 * l) = 0 then (fun j => if j = hcN R l then l else hlF R l j) else hlF R l
def wtN (R : Nat → Int32) (l : Nat) : Nat := (R (59 + 7 * l)).toNatClampNeg
theorem RW.wt {R : Nat → Int32} {nr nl c : Nat} (h : RW R nr nl c) {l : Nat} (hl : l < nl) : 1 ≤ wtN R l ∧ wtN R l ≤ 9 ∧ R (59 + 7 * l) = nI (wtN R l) := by
  obtain ⟨-, -, ⟨⟨w, w1, w2⟩, w3⟩, -⟩ := h.2.2.2.2.2.2.2.2.2 l hl
  unfold wtN
  rw [w2, nI_clamp (by omega)]
  refine ⟨?_, w1, rfl⟩
  rcases Nat.eq_zero_or_pos w with z | z
  · rw [z] at w2
    exact absurd w2 w3
  · exact z
theorem hc_le {R : Nat → Int32} : ∀ l, hcN R l ≤ l
  | 0 => Nat.le_refl _
  | l + 1 => by
    have := hc_le (R := R) l
    rw [hcN]
    split <;> omega
theorem hl_lt {R : Nat → Int32} {j : Nat} : ∀ {l}, j < hcN R l → hlF R l j < l ∧ R (62 + 7 * hlF R l j) = 0
  | 0, h => absurd h (by rw [hcN]; omega)
  | l + 1, h => by
    rw [hcN] at h
    rw [hlF]
    split
    · rename_i q
      rw [if_pos q] at h
      dsimp only
      split
      · exact ⟨by omega, q⟩
      · have := hl_lt (R := R) (j := j) (l := l) (by omega)
        exact ⟨by omega, this.2⟩
    · rename_i q
      rw [if_neg q] at h
      have := hl_lt (R := R) (j := j) (l := l) (by omega)
      exact ⟨by omega, this.2⟩
theorem hl_of {R : Nat → Int32} {k : Nat} (hk : R (62 + 7 * k) = 0) : ∀ {l}, k < l → ∃ j, j < hcN R l ∧ hlF R l j = k
  | 0, h => absurd h (by omega)
  | l + 1, h => by
    rw [hcN, hlF]
    by_cases e : k = l
    · subst e
      rw [if_pos hk, if_pos hk]
      exact ⟨hcN R k, by omega, by rw [if_pos rfl]⟩
    · obtain ⟨j, j1, j2⟩ := hl_of hk (l := l) (by omega)
      refine ⟨j, by omega, ?_⟩
      split
      · dsimp only
        rw [if_neg (by omega)]
        exact j2
      · exact j2
/-- what packing writes -/
def WP1 : Nat → Nat → Bool := fun a k => a == 66 || (a == 65 && k == 2)
def WPk : Nat → Nat → Bool := fun a k => WP1 a k || a == 67
theorem WP1_WPk (a k : Nat) (h : WPk a k = false) : WP1 a k = false := by
  unfold WPk at h
  simp only [Bool.or_eq_false_iff] at h
  exact h.1
theorem pk_7 {G : XH} (hC : CS G) {R : Nat → Int32} (hV : VW (hpI G 2) R) {nr nl c lim : Nat} (hR : RW R nr nl c) (hl : lim ≤ 99) (Q : XR → Prop) (hno : ∀ G', Fr WP1 G G' → (∃ l, l < nl ∧ R (62 + 7 * l) = 0 ∧ lim < wtN R l) → Q (some (.int 0), G')) (hyes : ∀ G', Fr WP1 G G' → (∀ l, l < nl → R (62 + 7 * l) = 0 → wtN R l ≤ lim) → hpI G' 65 2 = nI (hcN R nl) → (∀ j, j < hcN R nl → hpI G' 66 j = nI (hlF R nl j)) → WP k_Bags_pack_70 [some (.ref 65), some (.ref 2), some (.int (nI lim)), some (.int 1), none, none] [] (stI G' 67 0 0) Q) : WP k_Bags_pack_0 [some (.ref 65), some (.ref 2), some (.int (nI lim)), none, none, none] [] G Q := by
  have nl12 := hR.2.2.2.1
  simp only [k_Bags_pack_0, w_iadd, w_isub, w_imul, w_iand, w_ior, w_ixor, w_ishl, w_ishr, w_iushr, w_idiv, w_irem, w_ineg, w_ladd, w_lsub, w_lmul, w_ldiv, w_lrem, w_i2l, w_l2i, w_i2c, w_lcmp, w_dup_int, w_pop_int, w_dup_ref, w_pop_ref, w_dup_retAddr, w_pop_retAddr, w_dup2, w_I, w_L, w_Null, w_Ild, w_Lld, w_Ald, w_Ist, w_Lst, w_Ast, w_Iinc, w_if_eq, w_icmp_eq, w_if_ne, w_icmp_ne, w_if_lt, w_icmp_lt, w_if_ge, w_icmp_ge, w_if_gt, w_icmp_gt, w_if_le, w_icmp_le, w_GetI, w_GetL, w_GetR, w_PutI, w_PutZ, w_PutL, w_PutR, w_PutN, w_Iald, w_Zald, w_Lald, w_Aald, w_Iast, w_Zast, w_Last, w_AastR, w_AastN, w_Alen, w_New, w_NewA, w_Mna, w_Iret, w_Zret, w_Cret, w_Bret, w_Lret, w_AretR, w_AretN, w_Vret, w_Obj, w_IfNN, w_IfNR, w_Copy, w_Cln, w_Cast, w_SfA, w_SfI, w_SfQ, w_Str, w_ScLd, w_ScLen, w_CV0, w_CS0, w_CV1, w_CS1, w_CV2, w_CS2, w_CV3, w_CS3, w_CV4, w_CS4, w_CV5, w_CS5, List.getElem?_cons_zero, List.getElem?_cons_succ, List.set_cons_zero, List.set_cons_succ, List.length_cons, List.length_nil, List.map_cons, List.map_nil, List.sum_cons, List.sum_nil, List.nil_append, List.cons_append, Option.toList_some, Option.toList_none, Value.category, xok, va_rf, true_and, and_true, and_self, Nat.reduceAdd, Nat.reduceLT, Nat.reduceLeDiff, Nat.reduceEqDiff, Nat.reduceMul, beq_self_eq_true, decide_true, ite_true, ite_false, if_true, if_false, reduceIte, Bool.true_eq_false, Bool.false_eq_true, eq_self_iff_true, Nat.zero_le, not_true_eq_false, not_false_eq_true, forall_const, false_implies, implies_true, forall_false, hC.all]
  unfold k_Bags_pack_7
  refine w_loop (fun mm A' st G' => ∃ l, l ≤ nl ∧ mm = nl - l ∧ A' = [some (.ref 65), some (.ref 2), some (.int (nI lim)), some (.int (nI l)), none, none] ∧ st = [] ∧ Fr WP1 G G' ∧ (∀ k, k < l → R (62 + 7 * k) = 0 → wtN R k ≤ lim) ∧ hpI G' 65 2 = nI (hcN R l) ∧ (∀ j, j < hcN R l → hpI G' 66 j = nI (hlF R l j))) ?_ NF nl _ _ _ (by unfold NF; omega) ⟨0, by omega, rfl, rfl, rfl, Fr.refl.wI rfl, fun k hk => absurd hk (by omega), ?_, fun j hj => absurd hj (by rw [hcN]; omega)⟩
  · rintro mm A' st G' K ⟨l, hl1, rfl, rfl, rfl, hf, hw, hn, hlt⟩ ih
    have hC' := hf.cs hC
    have sG : hpI G' 2 = hpI G 2 := hf.IA _ (fun _ => rfl)
    have v5 : hpI G' 2 5 = nI nl := by rw [sG]; exact hV.2.2.1.trans hR.2.2.1
    have el : nI l + Int32.ofInt 1 = nI (l + 1) := nI_1 l
    by_cases hln : l < nl
    · have g : ¬ nI nl ≤ nI l := fun q => absurd ((nI_leI (by omega) (by omega)).mp q) (by omega)
      have e114 : 114 + nI l = nI (114 + l) := nI_add 114 l
      have e78 : 78 + nI l = nI (78 + l) := nI_add 78 l
      have hc := hc_le (R := R) l
      have p114 : 0 ≤ nI (114 + l) := nI_pos' (by omega)
      have c114 : (nI (114 + l)).toNatClampNeg = 114 + l := nI_clamp (by omega)
      have l114 : 114 + l < 138 := by omega
      have p78 : 0 ≤ nI (78 + l) := nI_pos' (by omega)
      have c78 : (nI (78 + l)).toNatClampNeg = 78 + l := nI_clamp (by omega)
      have l78 : 78 + l < 138 := by omega
      have p1 : 0 ≤ nI (hcN R l) := nI_pos' (by omega)
      have c1 : (nI (hcN R l)).toNatClampNeg = hcN R l := nI_clamp (by omega)
      have l1 : hcN R l < 12 := by omega
      obtain ⟨w1, w2, w3⟩ := hR.wt hln
      have v114 : hpI G' 2 (114 + l) = R (62 + 7 * l) := by rw [sG, show 114 + l = 54 + 12 * 5 + l by omega, hV.2.2.2.2 l 5 (by omega) (by omega), show 57 + 7 * l + 5 = 62 + 7 * l by omega]
      have v78 : hpI G' 2 (78 + l) = nI (wtN R l) := by rw [sG, show 78 + l = 54 + 12 * 2 + l by omega, hV.2.2.2.2 l 2 (by omega) (by omega), show 57 + 7 * l + 2 = 59 + 7 * l by omega]; exact w3
      have gw : (nI (wtN R l) ≤ nI lim) = (wtN R l ≤ lim) := propext (nI_leI (by omega) (by omega))
      have eh : nI (hcN R l) + 1 = nI (hcN R l + 1) := nI_1 _
      simp only [f_Bags_pack_7, k_Bags_pack_55, w_iadd, w_isub, w_imul, w_iand, w_ior, w_ixor, w_ishl, w_ishr, w_iushr, w_idiv, w_irem, w_ineg, w_ladd, w_lsub, w_lmul, w_ldiv, w_lrem, w_i2l, w_l2i, w_i2c, w_lcmp, w_dup_int, w_pop_int, w_dup_ref, w_pop_ref, w_dup_retAddr, w_pop_retAddr, w_dup2, w_I, w_L, w_Null, w_Ild, w_Lld, w_Ald, w_Ist, w_Lst, w_Ast, w_Iinc, w_if_eq, w_icmp_eq, w_if_ne, w_icmp_ne, w_if_lt, w_icmp_lt, w_if_ge, w_icmp_ge, w_if_gt, w_icmp_gt, w_if_le, w_icmp_le, w_GetI, w_GetL, w_GetR, w_PutI, w_PutZ, w_PutL, w_PutR, w_PutN, w_Iald, w_Zald, w_Lald, w_Aald, w_Iast, w_Zast, w_Last, w_AastR, w_AastN, w_Alen, w_New, w_NewA, w_Mna, w_Iret, w_Zret, w_Cret, w_Bret, w_Lret, w_AretR, w_AretN, w_Vret, w_Obj, w_IfNN, w_IfNR, w_Copy, w_Cln, w_Cast, w_SfA, w_SfI, w_SfQ, w_Str, w_ScLd, w_ScLen, w_CV0, w_CS0, w_CV1, w_CS1, w_CV2, w_CS2, w_CV3, w_CS3, w_CV4, w_CS4, w_CV5, w_CS5, List.getElem?_cons_zero, List.getElem?_cons_succ, List.set_cons_zero, List.set_cons_succ, List.length_cons, List.length_nil, List.map_cons, List.map_nil, List.sum_cons, List.sum_nil, List.nil_append, List.cons_append, Option.toList_some, Option.toList_none, Value.category, xok, va_rf, true_and, and_true, and_self, Nat.reduceAdd, Nat.reduceLT, Nat.reduceLeDiff, Nat.reduceEqDiff, Nat.reduceMul, beq_self_eq_true, decide_true, ite_true, ite_false, if_true, if_false, reduceIte, Bool.true_eq_false, Bool.false_eq_true, eq_self_iff_true, Nat.zero_le, not_true_eq_false, not_false_eq_true, forall_const, false_implies, implies_true, forall_false, stI_C, stI_N, stI_Z, stI_S, stI_L, stI_R, stL_C, stL_N, stL_Z, stL_S, stL_I, stL_R, stR_C, stR_N, stR_Z, stR_S, stR_I, stR_L, stA_C, stA_N, stA_Z, stA_S, stA_L, stA_R, stI_I, stL_L, stR_R, stA_I, stN_C, stN_N, stN_Z, stN_S, stN_I, stN_L, stN_R, stI_ne, stL_ne, stR_ne, tn_0, tn_1, tn_2, tn_3, tn_4, tn_5, tn_6, tn_7, tn_8, tn_9, tn_10, tn_11, tn_12, tn_13, tn_14, tn_15, tn_16, tn_17, tn_18, tn_19, tn_20, tn_21, tn_22, tn_23, tn_24, tn_25, tn_26, tn_27, tn_28, tn_29, tn_30, tn_31, tn_32, tn_33, tn_34, tn_35, tn_36, tn_37, tn_38, tn_39, tn_40, tn_41, tn_42, tn_43, tn_44, tn_45, tn_46, tn_47, tn_48, tn_49, tn_50, tn_51, tn_52, tn_53, tn_54, tn_55, tn_56, tn_57, tn_58, tn_59, tn_60, tn_61, tn_62, tn_63, tn_64, tn_65, tn_66, tn_67, tn_68, tn_69, tn_70, tn_71, tn_72, tn_73, tn_74, tn_75, tn_76, tn_77, tn_78, tn_79, tn_80, tn_81, tn_82, tn_83, tn_84, tn_85, tn_86, tn_87, tn_88, tn_89, tn_90, tn_91, tn_92, tn_93, tn_94, tn_95, tn_96, tn_97, tn_98, tn_99, tn_100, tn_101, tn_102, tn_103, tn_104, tn_105, tn_106, tn_107, tn_108, tn_109, tn_110, tn_111, tn_112, tn_113, tn_114, tn_115, tn_116, tn_117, tn_118, tn_119, tn_120, tn_121, tn_122, tn_123, tn_124, tn_125, tn_126, tn_127, tn_128, tn_129, tn_130, tn_131, tn_132, tn_133, tn_134, tn_135, tn_136, tn_137, tn_138, tn_139, tn_140, tn_141, tn_142, tn_143, tn_144, tn_145, tn_146, tn_147, tn_148, tn_149, tn_150, tn_151, tn_152, tn_153, tn_154, tn_155, tn_156, tn_157, tn_158, tn_159, tn_160, tn_161, tn_162, tn_163, tn_164, tn_165, tn_166, tn_167, tn_168, tn_169, tn_170, tn_171, tn_172, tn_173, tn_174, tn_175, tn_176, tn_177, tn_178, tn_179, tn_180, tn_181, tn_182, tn_183, tn_184, tn_185, tn_186, tn_187, tn_188, tn_189, tn_190, tn_191, tn_192, tn_193, tn_194, tn_195, tn_196, tn_197, tn_198, tn_199, tn_255, tn_256, tn_300, tn_399, tn_400, tn_500, tn_900, tn_999, tn_1000, tn_1001, tn_1024, tn_2048, tn_2176, tn_3536, tn_4095, tn_4096, tn_5580, tn_11160, tn_12345, tn_1103, tn_99999, tn_1000000, tn_1000003, tn_100000000, tn_1000000000, ge0_0, ge0_1, ge0_2, ge0_3, ge0_4, ge0_5, ge0_6, ge0_7, ge0_8, ge0_9, ge0_10, ge0_11, ge0_12, ge0_13, ge0_14, ge0_15, ge0_16, ge0_17, ge0_18, ge0_19, ge0_20, ge0_21, ge0_22, ge0_23, ge0_24, ge0_25, ge0_26, ge0_27, ge0_28, ge0_29, ge0_30, ge0_31, ge0_32, ge0_33, ge0_34, ge0_35, ge0_36, ge0_37, ge0_38, ge0_39, ge0_40, ge0_41, ge0_42, ge0_43, ge0_44, ge0_45, ge0_46, ge0_47, ge0_48, ge0_49, ge0_50, ge0_51, ge0_52, ge0_53, ge0_54, ge0_55, ge0_56, ge0_57, ge0_58, ge0_59, ge0_60, ge0_61, ge0_62, ge0_63, ge0_64, ge0_65, ge0_66, ge0_67, ge0_68, ge0_69, ge0_70, ge0_71, ge0_72, ge0_73, ge0_74, ge0_75, ge0_76, ge0_77, ge0_78, ge0_79, ge0_80, ge0_81, ge0_82, ge0_83, ge0_84, ge0_85, ge0_86, ge0_87, ge0_88, ge0_89, ge0_90, ge0_91, ge0_92, ge0_93, ge0_94, ge0_95, ge0_96, ge0_97, ge0_98, ge0_99, ge0_100, ge0_101, ge0_102, ge0_103, ge0_104, ge0_105, ge0_106, ge0_107, ge0_108, ge0_109, ge0_110, ge0_111, ge0_112, ge0_113, ge0_114, ge0_115, ge0_116, ge0_117, ge0_118, ge0_119, ge0_120, ge0_121, ge0_122, ge0_123, ge0_124, ge0_125, ge0_126, ge0_127, ge0_128, ge0_129, ge0_130, ge0_131, ge0_132, ge0_133, ge0_134, ge0_135, ge0_136, ge0_137, ge0_138, ge0_139, ge0_140, ge0_141, ge0_142, ge0_143, ge0_144, ge0_145, ge0_146, ge0_147, ge0_148, ge0_149, ge0_150, ge0_151, ge0_152, ge0_153, ge0_154, ge0_155, ge0_156, ge0_157, ge0_158, ge0_159, ge0_160, ge0_161, ge0_162, ge0_163, ge0_164, ge0_165, ge0_166, ge0_167, ge0_168, ge0_169, ge0_170, ge0_171, ge0_172, ge0_173, ge0_174, ge0_175, ge0_176, ge0_177, ge0_178, ge0_179, ge0_180, ge0_181, ge0_182, ge0_183, ge0_184, ge0_185, ge0_186, ge0_187, ge0_188, ge0_189, ge0_190, ge0_191, ge0_192, ge0_193, ge0_194, ge0_195, ge0_196, ge0_197, ge0_198, ge0_199, ge0_255, ge0_256, ge0_300, ge0_399, ge0_400, ge0_500, ge0_900, ge0_999, ge0_1000, ge0_1001, ge0_1024, ge0_2048, ge0_2176, ge0_3536, ge0_4095, ge0_4096, ge0_5580, ge0_11160, ge0_12345, ge0_1103, ge0_99999, ge0_1000000, ge0_1000003, ge0_100000000, ge0_1000000000, hC'.all, xin, v5, g, e114, e78, p114, c114, l114, p78, c78, l78, p1, c1, l1, v114, v78, gw, hn, eh, el, ne10, ne10L, ne01, ne01L, tt_imp, nt_imp, ff_imp, nf_imp, true_and, and_true, true_or, or_true, reduceIte]
      refine ⟨fun q => ⟨fun q2 => ?_, fun q2 => ?_⟩, fun q => ?_⟩
      · refine ih (nl - (l + 1)) _ _ _ (by omega) ⟨l + 1, by omega, rfl, rfl, rfl, (hf.wI (by unfold WP1; simp)).wI rfl, fun k hk z => ?_, ?_, fun j hj => ?_⟩
        · by_cases e : k = l
          · rw [e]
            exact q2
          · exact hw k (by omega) z
        · rw [stI_up, hpI_stA, up_eq, hcN, if_pos q]
        · rw [hcN, if_pos q] at hj
          rw [stI_up, hpI_stA_ne (by decide), stI_up, hpI_stA, hlF, if_pos q]
          by_cases e : j = hcN R l
          · rw [e, up_eq, if_pos rfl]
          · rw [up_ne e, if_neg e]
            exact hlt j (by omega)
      · exact hno G' hf ⟨l, hln, q, by omega⟩
      · refine ih (nl - (l + 1)) _ _ _ (by omega) ⟨l + 1, by omega, rfl, rfl, rfl, hf, fun k hk z => ?_, ?_, fun j hj => ?_⟩
        · by_cases e : k = l
          · subst e
            exact absurd z q
          · exact hw k (by omega) z
        · rw [hn, hcN, if_neg q, Nat.add_zero]
        · rw [hcN, if_neg q, Nat.add_zero] at hj
          rw [hlF, if_neg q]
          exact hlt j hj
    · have e : l = nl := by omega
      subst e
      have g : nI l ≤ nI l := Int32.le_refl _
      simp only [f_Bags_pack_7, w_iadd, w_isub, w_imul, w_iand, w_ior, w_ixor, w_ishl, w_ishr, w_iushr, w_idiv, w_irem, w_ineg, w_ladd, w_lsub, w_lmul, w_ldiv, w_lrem, w_i2l, w_l2i, w_i2c, w_lcmp, w_dup_int, w_pop_int, w_dup_ref, w_pop_ref, w_dup_retAddr, w_pop_retAddr, w_dup2, w_I, w_L, w_Null, w_Ild, w_Lld, w_Ald, w_Ist, w_Lst, w_Ast, w_Iinc, w_if_eq, w_icmp_eq, w_if_ne, w_icmp_ne, w_if_lt, w_icmp_lt, w_if_ge, w_icmp_ge, w_if_gt, w_icmp_gt, w_if_le, w_icmp_le, w_GetI, w_GetL, w_GetR, w_PutI, w_PutZ, w_PutL, w_PutR, w_PutN, w_Iald, w_Zald, w_Lald, w_Aald, w_Iast, w_Zast, w_Last, w_AastR, w_AastN, w_Alen, w_New, w_NewA, w_Mna, w_Iret, w_Zret, w_Cret, w_Bret, w_Lret, w_AretR, w_AretN, w_Vret, w_Obj, w_IfNN, w_IfNR, w_Copy, w_Cln, w_Cast, w_SfA, w_SfI, w_SfQ, w_Str, w_ScLd, w_ScLen, w_CV0, w_CS0, w_CV1, w_CS1, w_CV2, w_CS2, w_CV3, w_CS3, w_CV4, w_CS4, w_CV5, w_CS5, List.getElem?_cons_zero, List.getElem?_cons_succ, List.set_cons_zero, List.set_cons_succ, List.length_cons, List.length_nil, List.map_cons, List.map_nil, List.sum_cons, List.sum_nil, List.nil_append, List.cons_append, Option.toList_some, Option.toList_none, Value.category, xok, va_rf, true_and, and_true, and_self, Nat.reduceAdd, Nat.reduceLT, Nat.reduceLeDiff, Nat.reduceEqDiff, Nat.reduceMul, beq_self_eq_true, decide_true, ite_true, ite_false, if_true, if_false, reduceIte, Bool.true_eq_false, Bool.false_eq_true, eq_self_iff_true, Nat.zero_le, not_true_eq_false, not_false_eq_true, forall_const, false_implies, implies_true, forall_false, stI_C, stI_N, stI_Z, stI_S, stI_L, stI_R, stL_C, stL_N, stL_Z, stL_S, stL_I, stL_R, stR_C, stR_N, stR_Z, stR_S, stR_I, stR_L, stA_C, stA_N, stA_Z, stA_S, stA_L, stA_R, stI_I, stL_L, stR_R, stA_I, stN_C, stN_N, stN_Z, stN_S, stN_I, stN_L, stN_R, stI_ne, stL_ne, stR_ne, tn_0, tn_1, tn_2, tn_3, tn_4, tn_5, tn_6, tn_7, tn_8, tn_9, tn_10, tn_11, tn_12, tn_13, tn_14, tn_15, tn_16, tn_17, tn_18, tn_19, tn_20, tn_21, tn_22, tn_23, tn_24, tn_25, tn_26, tn_27, tn_28, tn_29, tn_30, tn_31, tn_32, tn_33, tn_34, tn_35, tn_36, tn_37, tn_38, tn_39, tn_40, tn_41, tn_42, tn_43, tn_44, tn_45, tn_46, tn_47, tn_48, tn_49, tn_50, tn_51, tn_52, tn_53, tn_54, tn_55, tn_56, tn_57, tn_58, tn_59, tn_60, tn_61, tn_62, tn_63, tn_64, tn_65, tn_66, tn_67, tn_68, tn_69, tn_70, tn_71, tn_72, tn_73, tn_74, tn_75, tn_76, tn_77, tn_78, tn_79, tn_80, tn_81, tn_82, tn_83, tn_84, tn_85, tn_86, tn_87, tn_88, tn_89, tn_90, tn_91, tn_92, tn_93, tn_94, tn_95, tn_96, tn_97, tn_98, tn_99, tn_100, tn_101, tn_102, tn_103, tn_104, tn_105, tn_106, tn_107, tn_108, tn_109, tn_110, tn_111, tn_112, tn_113, tn_114, tn_115, tn_116, tn_117, tn_118, tn_119, tn_120, tn_121, tn_122, tn_123, tn_124, tn_125, tn_126, tn_127, tn_128, tn_129, tn_130, tn_131, tn_132, tn_133, tn_134, tn_135, tn_136, tn_137, tn_138, tn_139, tn_140, tn_141, tn_142, tn_143, tn_144, tn_145, tn_146, tn_147, tn_148, tn_149, tn_150, tn_151, tn_152, tn_153, tn_154, tn_155, tn_156, tn_157, tn_158, tn_159, tn_160, tn_161, tn_162, tn_163, tn_164, tn_165, tn_166, tn_167, tn_168, tn_169, tn_170, tn_171, tn_172, tn_173, tn_174, tn_175, tn_176, tn_177, tn_178, tn_179, tn_180, tn_181, tn_182, tn_183, tn_184, tn_185, tn_186, tn_187, tn_188, tn_189, tn_190, tn_191, tn_192, tn_193, tn_194, tn_195, tn_196, tn_197, tn_198, tn_199, tn_255, tn_256, tn_300, tn_399, tn_400, tn_500, tn_900, tn_999, tn_1000, tn_1001, tn_1024, tn_2048, tn_2176, tn_3536, tn_4095, tn_4096, tn_5580, tn_11160, tn_12345, tn_1103, tn_99999, tn_1000000, tn_1000003, tn_100000000, tn_1000000000, ge0_0, ge0_1, ge0_2, ge0_3, ge0_4, ge0_5, ge0_6, ge0_7, ge0_8, ge0_9, ge0_10, ge0_11, ge0_12, ge0_13, ge0_14, ge0_15, ge0_16, ge0_17, ge0_18, ge0_19, ge0_20, ge0_21, ge0_22, ge0_23, ge0_24, ge0_25, ge0_26, ge0_27, ge0_28, ge0_29, ge0_30, ge0_31, ge0_32, ge0_33, ge0_34, ge0_35, ge0_36, ge0_37, ge0_38, ge0_39, ge0_40, ge0_41, ge0_42, ge0_43, ge0_44, ge0_45, ge0_46, ge0_47, ge0_48, ge0_49, ge0_50, ge0_51, ge0_52, ge0_53, ge0_54, ge0_55, ge0_56, ge0_57, ge0_58, ge0_59, ge0_60, ge0_61, ge0_62, ge0_63, ge0_64, ge0_65, ge0_66, ge0_67, ge0_68, ge0_69, ge0_70, ge0_71, ge0_72, ge0_73, ge0_74, ge0_75, ge0_76, ge0_77, ge0_78, ge0_79, ge0_80, ge0_81, ge0_82, ge0_83, ge0_84, ge0_85, ge0_86, ge0_87, ge0_88, ge0_89, ge0_90, ge0_91, ge0_92, ge0_93, ge0_94, ge0_95, ge0_96, ge0_97, ge0_98, ge0_99, ge0_100, ge0_101, ge0_102, ge0_103, ge0_104, ge0_105, ge0_106, ge0_107, ge0_108, ge0_109, ge0_110, ge0_111, ge0_112, ge0_113, ge0_114, ge0_115, ge0_116, ge0_117, ge0_118, ge0_119, ge0_120, ge0_121, ge0_122, ge0_123, ge0_124, ge0_125, ge0_126, ge0_127, ge0_128, ge0_129, ge0_130, ge0_131, ge0_132, ge0_133, ge0_134, ge0_135, ge0_136, ge0_137, ge0_138, ge0_139, ge0_140, ge0_141, ge0_142, ge0_143, ge0_144, ge0_145, ge0_146, ge0_147, ge0_148, ge0_149, ge0_150, ge0_151, ge0_152, ge0_153, ge0_154, ge0_155, ge0_156, ge0_157, ge0_158, ge0_159, ge0_160, ge0_161, ge0_162, ge0_163, ge0_164, ge0_165, ge0_166, ge0_167, ge0_168, ge0_169, ge0_170, ge0_171, ge0_172, ge0_173, ge0_174, ge0_175, ge0_176, ge0_177, ge0_178, ge0_179, ge0_180, ge0_181, ge0_182, ge0_183, ge0_184, ge0_185, ge0_186, ge0_187, ge0_188, ge0_189, ge0_190, ge0_191, ge0_192, ge0_193, ge0_194, ge0_195, ge0_196, ge0_197, ge0_198, ge0_199, ge0_255, ge0_256, ge0_300, ge0_399, ge0_400, ge0_500, ge0_900, ge0_999, ge0_1000, ge0_1001, ge0_1024, ge0_2048, ge0_2176, ge0_3536, ge0_4095, ge0_4096, ge0_5580, ge0_11160, ge0_12345, ge0_1103, ge0_99999, ge0_1000000, ge0_1000003, ge0_100000000, ge0_1000000000, hC'.all, xin, v5, g, ne10, ne10L, ne01, ne01L, tt_imp, nt_imp, ff_imp, nf_imp, true_and, and_true, true_or, or_true, reduceIte]
      exact hyes G' hf hw hn hlt
  · rw [stI_up, hpI_stA, up_eq]
    rfl
theorem pk_91 {G : XH} (hC : CS G) {n lim s : Nat} {W lt L : Nat → Nat} (hn : n ≤ 12) (hl : lim ≤ 99) (hs : s < 2 ^ n) (hs0 : ¬ s = 0) (hh : hpI G 65 2 = nI n) (hlt : ∀ k, k < n → lt k < 12 ∧ hpI G 66 k = nI (lt k)) (hW : ∀ k, k < n → W k ≤ 9 ∧ hpI G 2 (78 + lt k) = nI (W k)) (hL : ∀ s', s' < s → L s' ≤ 128 * s' + 99) {u : Nat} (hu1 : 1000000 ≤ u) (hu2 : u < 2147483648) {f : Nat → Int32} (hf : ∀ s', s' < s → f s' = nI (L s')) (hfs : f s = nI u) (K : XK) (Q : XR → Prop) (hK : ∀ f' v lo4 lo5, (∀ j, ¬ j = s → f' j = f j) → f' s = nI v → (∀ k, k < n → s.testBit k = true → v ≤ oaN lim (L (s ^^^ 2 ^ k)) (W k)) → (∃ k, k < n ∧ s.testBit k = true ∧ v = oaN lim (L (s ^^^ 2 ^ k)) (W k)) → WP K [some (.ref 65), some (.ref 2), some (.int (nI lim)), some (.int (nI (s + 1))), lo4, lo5] [] (stA G 67 f') Q) (lo : Option Value) : WP (k_Bags_pack_91 K) [some (.ref 65), some (.ref 2), some (.int (nI lim)), some (.int (nI s)), some (.int 0), lo] [] (stA G 67 f) Q := by
  have h2n : 2 ^ n ≤ 4096 := Nat.pow_le_pow_right (n := 2) (by decide) hn
  have es : nI s + Int32.ofInt 1 = nI (s + 1) := nI_1 s
  unfold k_Bags_pack_91
  refine w_loop (fun mm A' st G' => ∃ k, k ≤ n ∧ mm = n - k ∧ (∃ lo, A' = [some (.ref 65), some (.ref 2), some (.int (nI lim)), some (.int (nI s)), some (.int (nI k)), lo]) ∧ st = [] ∧ ∃ f' v, G' = stA G 67 f' ∧ (∀ j, ¬ j = s → f' j = f j) ∧ f' s = nI v ∧ v ≤ u ∧ (∀ j, j < k → s.testBit j = true → v ≤ oaN lim (L (s ^^^ 2 ^ j)) (W j)) ∧ (v = u ∨ ∃ j, j < k ∧ s.testBit j = true ∧ v = oaN lim (L (s ^^^ 2 ^ j)) (W j))) ?_ NF n _ _ _ (by unfold NF; omega) ⟨0, by omega, rfl, ⟨lo, rfl⟩, rfl, f, u, rfl, fun _ _ => rfl, hfs, Nat.le_refl _, fun j hj => absurd hj (by omega), Or.inl rfl⟩
  rintro mm A' st G' K2 ⟨k, hk, rfl, ⟨lo', rfl⟩, rfl, f', v, rfl, hf1, hf2, hv, hv1, hv2⟩ ih
  have ek : nI k + Int32.ofInt 1 = nI (k + 1) := nI_1 k
  by_cases hkn : k < n
  · have g : ¬ nI n ≤ nI k := fun q => absurd ((nI_leI (by omega) (by omega)).mp q) (by omega)
    obtain ⟨a1, a2⟩ := hlt k hkn
    obtain ⟨b1, b2⟩ := hW k hkn
    cases hb : s.testBit k with
    | false =>
      simp only [f_Bags_pack_91, k_Bags_pack_156, w_iadd, w_isub, w_imul, w_iand, w_ior, w_ixor, w_ishl, w_ishr, w_iushr, w_idiv, w_irem, w_ineg, w_ladd, w_lsub, w_lmul, w_ldiv, w_lrem, w_i2l, w_l2i, w_i2c, w_lcmp, w_dup_int, w_pop_int, w_dup_ref, w_pop_ref, w_dup_retAddr, w_pop_retAddr, w_dup2, w_I, w_L, w_Null, w_Ild, w_Lld, w_Ald, w_Ist, w_Lst, w_Ast, w_Iinc, w_if_eq, w_icmp_eq, w_if_ne, w_icmp_ne, w_if_lt, w_icmp_lt, w_if_ge, w_icmp_ge, w_if_gt, w_icmp_gt, w_if_le, w_icmp_le, w_GetI, w_GetL, w_GetR, w_PutI, w_PutZ, w_PutL, w_PutR, w_PutN, w_Iald, w_Zald, w_Lald, w_Aald, w_Iast, w_Zast, w_Last, w_AastR, w_AastN, w_Alen, w_New, w_NewA, w_Mna, w_Iret, w_Zret, w_Cret, w_Bret, w_Lret, w_AretR, w_AretN, w_Vret, w_Obj, w_IfNN, w_IfNR, w_Copy, w_Cln, w_Cast, w_SfA, w_SfI, w_SfQ, w_Str, w_ScLd, w_ScLen, w_CV0, w_CS0, w_CV1, w_CS1, w_CV2, w_CS2, w_CV3, w_CS3, w_CV4, w_CS4, w_CV5, w_CS5, List.getElem?_cons_zero, List.getElem?_cons_succ, List.set_cons_zero, List.set_cons_succ, List.length_cons, List.length_nil, List.map_cons, List.map_nil, List.sum_cons, List.sum_nil, List.nil_append, List.cons_append, Option.toList_some, Option.toList_none, Value.category, xok, va_rf, true_and, and_true, and_self, Nat.reduceAdd, Nat.reduceLT, Nat.reduceLeDiff, Nat.reduceEqDiff, Nat.reduceMul, beq_self_eq_true, decide_true, ite_true, ite_false, if_true, if_false, reduceIte, Bool.true_eq_false, Bool.false_eq_true, eq_self_iff_true, Nat.zero_le, not_true_eq_false, not_false_eq_true, forall_const, false_implies, implies_true, forall_false, stI_C, stI_N, stI_Z, stI_S, stI_L, stI_R, stL_C, stL_N, stL_Z, stL_S, stL_I, stL_R, stR_C, stR_N, stR_Z, stR_S, stR_I, stR_L, stA_C, stA_N, stA_Z, stA_S, stA_L, stA_R, stI_I, stL_L, stR_R, stA_I, stN_C, stN_N, stN_Z, stN_S, stN_I, stN_L, stN_R, stI_ne, stL_ne, stR_ne, tn_0, tn_1, tn_2, tn_3, tn_4, tn_5, tn_6, tn_7, tn_8, tn_9, tn_10, tn_11, tn_12, tn_13, tn_14, tn_15, tn_16, tn_17, tn_18, tn_19, tn_20, tn_21, tn_22, tn_23, tn_24, tn_25, tn_26, tn_27, tn_28, tn_29, tn_30, tn_31, tn_32, tn_33, tn_34, tn_35, tn_36, tn_37, tn_38, tn_39, tn_40, tn_41, tn_42, tn_43, tn_44, tn_45, tn_46, tn_47, tn_48, tn_49, tn_50, tn_51, tn_52, tn_53, tn_54, tn_55, tn_56, tn_57, tn_58, tn_59, tn_60, tn_61, tn_62, tn_63, tn_64, tn_65, tn_66, tn_67, tn_68, tn_69, tn_70, tn_71, tn_72, tn_73, tn_74, tn_75, tn_76, tn_77, tn_78, tn_79, tn_80, tn_81, tn_82, tn_83, tn_84, tn_85, tn_86, tn_87, tn_88, tn_89, tn_90, tn_91, tn_92, tn_93, tn_94, tn_95, tn_96, tn_97, tn_98, tn_99, tn_100, tn_101, tn_102, tn_103, tn_104, tn_105, tn_106, tn_107, tn_108, tn_109, tn_110, tn_111, tn_112, tn_113, tn_114, tn_115, tn_116, tn_117, tn_118, tn_119, tn_120, tn_121, tn_122, tn_123, tn_124, tn_125, tn_126, tn_127, tn_128, tn_129, tn_130, tn_131, tn_132, tn_133, tn_134, tn_135, tn_136, tn_137, tn_138, tn_139, tn_140, tn_141, tn_142, tn_143, tn_144, tn_145, tn_146, tn_147, tn_148, tn_149, tn_150, tn_151, tn_152, tn_153, tn_154, tn_155, tn_156, tn_157, tn_158, tn_159, tn_160, tn_161, tn_162, tn_163, tn_164, tn_165, tn_166, tn_167, tn_168, tn_169, tn_170, tn_171, tn_172, tn_173, tn_174, tn_175, tn_176, tn_177, tn_178, tn_179, tn_180, tn_181, tn_182, tn_183, tn_184, tn_185, tn_186, tn_187, tn_188, tn_189, tn_190, tn_191, tn_192, tn_193, tn_194, tn_195, tn_196, tn_197, tn_198, tn_199, tn_255, tn_256, tn_300, tn_399, tn_400, tn_500, tn_900, tn_999, tn_1000, tn_1001, tn_1024, tn_2048, tn_2176, tn_3536, tn_4095, tn_4096, tn_5580, tn_11160, tn_12345, tn_1103, tn_99999, tn_1000000, tn_1000003, tn_100000000, tn_1000000000, ge0_0, ge0_1, ge0_2, ge0_3, ge0_4, ge0_5, ge0_6, ge0_7, ge0_8, ge0_9, ge0_10, ge0_11, ge0_12, ge0_13, ge0_14, ge0_15, ge0_16, ge0_17, ge0_18, ge0_19, ge0_20, ge0_21, ge0_22, ge0_23, ge0_24, ge0_25, ge0_26, ge0_27, ge0_28, ge0_29, ge0_30, ge0_31, ge0_32, ge0_33, ge0_34, ge0_35, ge0_36, ge0_37, ge0_38, ge0_39, ge0_40, ge0_41, ge0_42, ge0_43, ge0_44, ge0_45, ge0_46, ge0_47, ge0_48, ge0_49, ge0_50, ge0_51, ge0_52, ge0_53, ge0_54, ge0_55, ge0_56, ge0_57, ge0_58, ge0_59, ge0_60, ge0_61, ge0_62, ge0_63, ge0_64, ge0_65, ge0_66, ge0_67, ge0_68, ge0_69, ge0_70, ge0_71, ge0_72, ge0_73, ge0_74, ge0_75, ge0_76, ge0_77, ge0_78, ge0_79, ge0_80, ge0_81, ge0_82, ge0_83, ge0_84, ge0_85, ge0_86, ge0_87, ge0_88, ge0_89, ge0_90, ge0_91, ge0_92, ge0_93, ge0_94, ge0_95, ge0_96, ge0_97, ge0_98, ge0_99, ge0_100, ge0_101, ge0_102, ge0_103, ge0_104, ge0_105, ge0_106, ge0_107, ge0_108, ge0_109, ge0_110, ge0_111, ge0_112, ge0_113, ge0_114, ge0_115, ge0_116, ge0_117, ge0_118, ge0_119, ge0_120, ge0_121, ge0_122, ge0_123, ge0_124, ge0_125, ge0_126, ge0_127, ge0_128, ge0_129, ge0_130, ge0_131, ge0_132, ge0_133, ge0_134, ge0_135, ge0_136, ge0_137, ge0_138, ge0_139, ge0_140, ge0_141, ge0_142, ge0_143, ge0_144, ge0_145, ge0_146, ge0_147, ge0_148, ge0_149, ge0_150, ge0_151, ge0_152, ge0_153, ge0_154, ge0_155, ge0_156, ge0_157, ge0_158, ge0_159, ge0_160, ge0_161, ge0_162, ge0_163, ge0_164, ge0_165, ge0_166, ge0_167, ge0_168, ge0_169, ge0_170, ge0_171, ge0_172, ge0_173, ge0_174, ge0_175, ge0_176, ge0_177, ge0_178, ge0_179, ge0_180, ge0_181, ge0_182, ge0_183, ge0_184, ge0_185, ge0_186, ge0_187, ge0_188, ge0_189, ge0_190, ge0_191, ge0_192, ge0_193, ge0_194, ge0_195, ge0_196, ge0_197, ge0_198, ge0_199, ge0_255, ge0_256, ge0_300, ge0_399, ge0_400, ge0_500, ge0_900, ge0_999, ge0_1000, ge0_1001, ge0_1024, ge0_2048, ge0_2176, ge0_3536, ge0_4095, ge0_4096, ge0_5580, ge0_11160, ge0_12345, ge0_1103, ge0_99999, ge0_1000000, ge0_1000003, ge0_100000000, ge0_1000000000, hC.all, hpI_stA_ne, hh, g, nx_b1 (show s < 2147483648 by omega) (show k < 32 by omega), hb, ek, ne10, ne10L, ne01, ne01L, tt_imp, nt_imp, ff_imp, nf_imp, true_and, and_true, true_or, or_true, reduceIte]
      refine ih (n - (k + 1)) _ _ _ (by omega) ⟨k + 1, by omega, rfl, ⟨lo', rfl⟩, rfl, f', v, rfl, hf1, hf2, hv, fun j hj z => ?_, ?_⟩
      · by_cases e : j = k
        · rw [e, hb] at z
          cases z
        · exact hv1 j (by omega) z
      · rcases hv2 with z | ⟨j, j1, j2⟩
        · exact Or.inl z
        · exact Or.inr ⟨j, by omega, j2⟩
    | true =>
      have hx := xor_lt hb
      have e78 : 78 + nI (lt k) = nI (78 + lt k) := nI_add 78 _
      have p78 : 0 ≤ nI (78 + lt k) := nI_pos' (by omega)
      have c78 : (nI (78 + lt k)).toNatClampNeg = 78 + lt k := nI_clamp (by omega)
      have l78 : 78 + lt k < 138 := by omega
      have p1 : 0 ≤ nI (k) := nI_pos' (by omega)
      have c1 : (nI (k)).toNatClampNeg = k := nI_clamp (by omega)
      have l1 : k < 12 := by omega
      have p2 : 0 ≤ nI (s) := nI_pos' (by omega)
      have c2 : (nI (s)).toNatClampNeg = s := nI_clamp (by omega)
      have l2 : s < 4096 := by omega
      have p3 : 0 ≤ nI (s ^^^ 2 ^ k) := nI_pos' (by omega)
      have c3 : (nI (s ^^^ 2 ^ k)).toNatClampNeg = s ^^^ 2 ^ k := nI_clamp (by omega)
      have l3 : s ^^^ 2 ^ k < 4096 := by omega
      have hLx := hL _ hx
      have fx : f' (s ^^^ 2 ^ k) = nI (L (s ^^^ 2 ^ k)) := by rw [hf1 _ (by omega)]; exact hf _ hx
      have ho := oaN_le (lim := lim) (p := L (s ^^^ 2 ^ k)) (w := W k) hl
      have gm : (nI v ≤ nI (oaN lim (L (s ^^^ 2 ^ k)) (W k))) = (v ≤ oaN lim (L (s ^^^ 2 ^ k)) (W k)) := propext (nI_leI (by omega) (by omega))
      simp only [f_Bags_pack_91, k_Bags_pack_156, w_iadd, w_isub, w_imul, w_iand, w_ior, w_ixor, w_ishl, w_ishr, w_iushr, w_idiv, w_irem, w_ineg, w_ladd, w_lsub, w_lmul, w_ldiv, w_lrem, w_i2l, w_l2i, w_i2c, w_lcmp, w_dup_int, w_pop_int, w_dup_ref, w_pop_ref, w_dup_retAddr, w_pop_retAddr, w_dup2, w_I, w_L, w_Null, w_Ild, w_Lld, w_Ald, w_Ist, w_Lst, w_Ast, w_Iinc, w_if_eq, w_icmp_eq, w_if_ne, w_icmp_ne, w_if_lt, w_icmp_lt, w_if_ge, w_icmp_ge, w_if_gt, w_icmp_gt, w_if_le, w_icmp_le, w_GetI, w_GetL, w_GetR, w_PutI, w_PutZ, w_PutL, w_PutR, w_PutN, w_Iald, w_Zald, w_Lald, w_Aald, w_Iast, w_Zast, w_Last, w_AastR, w_AastN, w_Alen, w_New, w_NewA, w_Mna, w_Iret, w_Zret, w_Cret, w_Bret, w_Lret, w_AretR, w_AretN, w_Vret, w_Obj, w_IfNN, w_IfNR, w_Copy, w_Cln, w_Cast, w_SfA, w_SfI, w_SfQ, w_Str, w_ScLd, w_ScLen, w_CV0, w_CS0, w_CV1, w_CS1, w_CV2, w_CS2, w_CV3, w_CS3, w_CV4, w_CS4, w_CV5, w_CS5, List.getElem?_cons_zero, List.getElem?_cons_succ, List.set_cons_zero, List.set_cons_succ, List.length_cons, List.length_nil, List.map_cons, List.map_nil, List.sum_cons, List.sum_nil, List.nil_append, List.cons_append, Option.toList_some, Option.toList_none, Value.category, xok, va_rf, true_and, and_true, and_self, Nat.reduceAdd, Nat.reduceLT, Nat.reduceLeDiff, Nat.reduceEqDiff, Nat.reduceMul, beq_self_eq_true, decide_true, ite_true, ite_false, if_true, if_false, reduceIte, Bool.true_eq_false, Bool.false_eq_true, eq_self_iff_true, Nat.zero_le, not_true_eq_false, not_false_eq_true, forall_const, false_implies, implies_true, forall_false, stI_C, stI_N, stI_Z, stI_S, stI_L, stI_R, stL_C, stL_N, stL_Z, stL_S, stL_I, stL_R, stR_C, stR_N, stR_Z, stR_S, stR_I, stR_L, stA_C, stA_N, stA_Z, stA_S, stA_L, stA_R, stI_I, stL_L, stR_R, stA_I, stN_C, stN_N, stN_Z, stN_S, stN_I, stN_L, stN_R, stI_ne, stL_ne, stR_ne, tn_0, tn_1, tn_2, tn_3, tn_4, tn_5, tn_6, tn_7, tn_8, tn_9, tn_10, tn_11, tn_12, tn_13, tn_14, tn_15, tn_16, tn_17, tn_18, tn_19, tn_20, tn_21, tn_22, tn_23, tn_24, tn_25, tn_26, tn_27, tn_28, tn_29, tn_30, tn_31, tn_32, tn_33, tn_34, tn_35, tn_36, tn_37, tn_38, tn_39, tn_40, tn_41, tn_42, tn_43, tn_44, tn_45, tn_46, tn_47, tn_48, tn_49, tn_50, tn_51, tn_52, tn_53, tn_54, tn_55, tn_56, tn_57, tn_58, tn_59, tn_60, tn_61, tn_62, tn_63, tn_64, tn_65, tn_66, tn_67, tn_68, tn_69, tn_70, tn_71, tn_72, tn_73, tn_74, tn_75, tn_76, tn_77, tn_78, tn_79, tn_80, tn_81, tn_82, tn_83, tn_84, tn_85, tn_86, tn_87, tn_88, tn_89, tn_90, tn_91, tn_92, tn_93, tn_94, tn_95, tn_96, tn_97, tn_98, tn_99, tn_100, tn_101, tn_102, tn_103, tn_104, tn_105, tn_106, tn_107, tn_108, tn_109, tn_110, tn_111, tn_112, tn_113, tn_114, tn_115, tn_116, tn_117, tn_118, tn_119, tn_120, tn_121, tn_122, tn_123, tn_124, tn_125, tn_126, tn_127, tn_128, tn_129, tn_130, tn_131, tn_132, tn_133, tn_134, tn_135, tn_136, tn_137, tn_138, tn_139, tn_140, tn_141, tn_142, tn_143, tn_144, tn_145, tn_146, tn_147, tn_148, tn_149, tn_150, tn_151, tn_152, tn_153, tn_154, tn_155, tn_156, tn_157, tn_158, tn_159, tn_160, tn_161, tn_162, tn_163, tn_164, tn_165, tn_166, tn_167, tn_168, tn_169, tn_170, tn_171, tn_172, tn_173, tn_174, tn_175, tn_176, tn_177, tn_178, tn_179, tn_180, tn_181, tn_182, tn_183, tn_184, tn_185, tn_186, tn_187, tn_188, tn_189, tn_190, tn_191, tn_192, tn_193, tn_194, tn_195, tn_196, tn_197, tn_198, tn_199, tn_255, tn_256, tn_300, tn_399, tn_400, tn_500, tn_900, tn_999, tn_1000, tn_1001, tn_1024, tn_2048, tn_2176, tn_3536, tn_4095, tn_4096, tn_5580, tn_11160, tn_12345, tn_1103, tn_99999, tn_1000000, tn_1000003, tn_100000000, tn_1000000000, ge0_0, ge0_1, ge0_2, ge0_3, ge0_4, ge0_5, ge0_6, ge0_7, ge0_8, ge0_9, ge0_10, ge0_11, ge0_12, ge0_13, ge0_14, ge0_15, ge0_16, ge0_17, ge0_18, ge0_19, ge0_20, ge0_21, ge0_22, ge0_23, ge0_24, ge0_25, ge0_26, ge0_27, ge0_28, ge0_29, ge0_30, ge0_31, ge0_32, ge0_33, ge0_34, ge0_35, ge0_36, ge0_37, ge0_38, ge0_39, ge0_40, ge0_41, ge0_42, ge0_43, ge0_44, ge0_45, ge0_46, ge0_47, ge0_48, ge0_49, ge0_50, ge0_51, ge0_52, ge0_53, ge0_54, ge0_55, ge0_56, ge0_57, ge0_58, ge0_59, ge0_60, ge0_61, ge0_62, ge0_63, ge0_64, ge0_65, ge0_66, ge0_67, ge0_68, ge0_69, ge0_70, ge0_71, ge0_72, ge0_73, ge0_74, ge0_75, ge0_76, ge0_77, ge0_78, ge0_79, ge0_80, ge0_81, ge0_82, ge0_83, ge0_84, ge0_85, ge0_86, ge0_87, ge0_88, ge0_89, ge0_90, ge0_91, ge0_92, ge0_93, ge0_94, ge0_95, ge0_96, ge0_97, ge0_98, ge0_99, ge0_100, ge0_101, ge0_102, ge0_103, ge0_104, ge0_105, ge0_106, ge0_107, ge0_108, ge0_109, ge0_110, ge0_111, ge0_112, ge0_113, ge0_114, ge0_115, ge0_116, ge0_117, ge0_118, ge0_119, ge0_120, ge0_121, ge0_122, ge0_123, ge0_124, ge0_125, ge0_126, ge0_127, ge0_128, ge0_129, ge0_130, ge0_131, ge0_132, ge0_133, ge0_134, ge0_135, ge0_136, ge0_137, ge0_138, ge0_139, ge0_140, ge0_141, ge0_142, ge0_143, ge0_144, ge0_145, ge0_146, ge0_147, ge0_148, ge0_149, ge0_150, ge0_151, ge0_152, ge0_153, ge0_154, ge0_155, ge0_156, ge0_157, ge0_158, ge0_159, ge0_160, ge0_161, ge0_162, ge0_163, ge0_164, ge0_165, ge0_166, ge0_167, ge0_168, ge0_169, ge0_170, ge0_171, ge0_172, ge0_173, ge0_174, ge0_175, ge0_176, ge0_177, ge0_178, ge0_179, ge0_180, ge0_181, ge0_182, ge0_183, ge0_184, ge0_185, ge0_186, ge0_187, ge0_188, ge0_189, ge0_190, ge0_191, ge0_192, ge0_193, ge0_194, ge0_195, ge0_196, ge0_197, ge0_198, ge0_199, ge0_255, ge0_256, ge0_300, ge0_399, ge0_400, ge0_500, ge0_900, ge0_999, ge0_1000, ge0_1001, ge0_1024, ge0_2048, ge0_2176, ge0_3536, ge0_4095, ge0_4096, ge0_5580, ge0_11160, ge0_12345, ge0_1103, ge0_99999, ge0_1000000, ge0_1000003, ge0_100000000, ge0_1000000000, hC.all, hpI_stA, hpI_stA_ne, hh, g, nx_b1 (show s < 2147483648 by omega) (show k < 32 by omega), hb, ek, nx_shl (show k < 31 by omega), nx_xor, xin, p78, c78, l78, p1, c1, l1, p2, c2, l2, p3, c3, l3, e78, a2, b2, fx, hf2, c_woM (show L (s ^^^ 2 ^ k) < 1000000 by omega) (show W k ≤ 99 by omega) hl, c_min, stI_stU, gm, ne10, ne10L, ne01, ne01L, tt_imp, nt_imp, ff_imp, nf_imp, true_and, and_true, true_or, or_true, reduceIte]
      generalize ev : oaN lim (L (s ^^^ 2 ^ k)) (W k) = o at ho
      refine ih (n - (k + 1)) _ _ _ (by omega) ⟨k + 1, by omega, rfl, ⟨_, rfl⟩, rfl, _, if v ≤ o then v else o, rfl, fun j hj => by rw [up_ne hj]; exact hf1 j hj, by rw [up_eq]; split <;> rfl, by split <;> omega, fun j hj z => ?_, ?_⟩
      · by_cases e : j = k
        · rw [e, ev]
          split <;> omega
        · have := hv1 j (by omega) z
          split <;> omega
      · by_cases q : v ≤ o
        · rw [if_pos q]
          rcases hv2 with z | ⟨j, j1, j2⟩
          · exact Or.inl z
          · exact Or.inr ⟨j, by omega, j2⟩
        · rw [if_neg q]
          exact Or.inr ⟨k, by omega, hb, ev.symm⟩
  · have e : k = n := by omega
    subst e
    have g : nI k ≤ nI k := Int32.le_refl _
    simp only [f_Bags_pack_91, w_iadd, w_isub, w_imul, w_iand, w_ior, w_ixor, w_ishl, w_ishr, w_iushr, w_idiv, w_irem, w_ineg, w_ladd, w_lsub, w_lmul, w_ldiv, w_lrem, w_i2l, w_l2i, w_i2c, w_lcmp, w_dup_int, w_pop_int, w_dup_ref, w_pop_ref, w_dup_retAddr, w_pop_retAddr, w_dup2, w_I, w_L, w_Null, w_Ild, w_Lld, w_Ald, w_Ist, w_Lst, w_Ast, w_Iinc, w_if_eq, w_icmp_eq, w_if_ne, w_icmp_ne, w_if_lt, w_icmp_lt, w_if_ge, w_icmp_ge, w_if_gt, w_icmp_gt, w_if_le, w_icmp_le, w_GetI, w_GetL, w_GetR, w_PutI, w_PutZ, w_PutL, w_PutR, w_PutN, w_Iald, w_Zald, w_Lald, w_Aald, w_Iast, w_Zast, w_Last, w_AastR, w_AastN, w_Alen, w_New, w_NewA, w_Mna, w_Iret, w_Zret, w_Cret, w_Bret, w_Lret, w_AretR, w_AretN, w_Vret, w_Obj, w_IfNN, w_IfNR, w_Copy, w_Cln, w_Cast, w_SfA, w_SfI, w_SfQ, w_Str, w_ScLd, w_ScLen, w_CV0, w_CS0, w_CV1, w_CS1, w_CV2, w_CS2, w_CV3, w_CS3, w_CV4, w_CS4, w_CV5, w_CS5, List.getElem?_cons_zero, List.getElem?_cons_succ, List.set_cons_zero, List.set_cons_succ, List.length_cons, List.length_nil, List.map_cons, List.map_nil, List.sum_cons, List.sum_nil, List.nil_append, List.cons_append, Option.toList_some, Option.toList_none, Value.category, xok, va_rf, true_and, and_true, and_self, Nat.reduceAdd, Nat.reduceLT, Nat.reduceLeDiff, Nat.reduceEqDiff, Nat.reduceMul, beq_self_eq_true, decide_true, ite_true, ite_false, if_true, if_false, reduceIte, Bool.true_eq_false, Bool.false_eq_true, eq_self_iff_true, Nat.zero_le, not_true_eq_false, not_false_eq_true, forall_const, false_implies, implies_true, forall_false, stI_C, stI_N, stI_Z, stI_S, stI_L, stI_R, stL_C, stL_N, stL_Z, stL_S, stL_I, stL_R, stR_C, stR_N, stR_Z, stR_S, stR_I, stR_L, stA_C, stA_N, stA_Z, stA_S, stA_L, stA_R, stI_I, stL_L, stR_R, stA_I, stN_C, stN_N, stN_Z, stN_S, stN_I, stN_L, stN_R, stI_ne, stL_ne, stR_ne, tn_0, tn_1, tn_2, tn_3, tn_4, tn_5, tn_6, tn_7, tn_8, tn_9, tn_10, tn_11, tn_12, tn_13, tn_14, tn_15, tn_16, tn_17, tn_18, tn_19, tn_20, tn_21, tn_22, tn_23, tn_24, tn_25, tn_26, tn_27, tn_28, tn_29, tn_30, tn_31, tn_32, tn_33, tn_34, tn_35, tn_36, tn_37, tn_38, tn_39, tn_40, tn_41, tn_42, tn_43, tn_44, tn_45, tn_46, tn_47, tn_48, tn_49, tn_50, tn_51, tn_52, tn_53, tn_54, tn_55, tn_56, tn_57, tn_58, tn_59, tn_60, tn_61, tn_62, tn_63, tn_64, tn_65, tn_66, tn_67, tn_68, tn_69, tn_70, tn_71, tn_72, tn_73, tn_74, tn_75, tn_76, tn_77, tn_78, tn_79, tn_80, tn_81, tn_82, tn_83, tn_84, tn_85, tn_86, tn_87, tn_88, tn_89, tn_90, tn_91, tn_92, tn_93, tn_94, tn_95, tn_96, tn_97, tn_98, tn_99, tn_100, tn_101, tn_102, tn_103, tn_104, tn_105, tn_106, tn_107, tn_108, tn_109, tn_110, tn_111, tn_112, tn_113, tn_114, tn_115, tn_116, tn_117, tn_118, tn_119, tn_120, tn_121, tn_122, tn_123, tn_124, tn_125, tn_126, tn_127, tn_128, tn_129, tn_130, tn_131, tn_132, tn_133, tn_134, tn_135, tn_136, tn_137, tn_138, tn_139, tn_140, tn_141, tn_142, tn_143, tn_144, tn_145, tn_146, tn_147, tn_148, tn_149, tn_150, tn_151, tn_152, tn_153, tn_154, tn_155, tn_156, tn_157, tn_158, tn_159, tn_160, tn_161, tn_162, tn_163, tn_164, tn_165, tn_166, tn_167, tn_168, tn_169, tn_170, tn_171, tn_172, tn_173, tn_174, tn_175, tn_176, tn_177, tn_178, tn_179, tn_180, tn_181, tn_182, tn_183, tn_184, tn_185, tn_186, tn_187, tn_188, tn_189, tn_190, tn_191, tn_192, tn_193, tn_194, tn_195, tn_196, tn_197, tn_198, tn_199, tn_255, tn_256, tn_300, tn_399, tn_400, tn_500, tn_900, tn_999, tn_1000, tn_1001, tn_1024, tn_2048, tn_2176, tn_3536, tn_4095, tn_4096, tn_5580, tn_11160, tn_12345, tn_1103, tn_99999, tn_1000000, tn_1000003, tn_100000000, tn_1000000000, ge0_0, ge0_1, ge0_2, ge0_3, ge0_4, ge0_5, ge0_6, ge0_7, ge0_8, ge0_9, ge0_10, ge0_11, ge0_12, ge0_13, ge0_14, ge0_15, ge0_16, ge0_17, ge0_18, ge0_19, ge0_20, ge0_21, ge0_22, ge0_23, ge0_24, ge0_25, ge0_26, ge0_27, ge0_28, ge0_29, ge0_30, ge0_31, ge0_32, ge0_33, ge0_34, ge0_35, ge0_36, ge0_37, ge0_38, ge0_39, ge0_40, ge0_41, ge0_42, ge0_43, ge0_44, ge0_45, ge0_46, ge0_47, ge0_48, ge0_49, ge0_50, ge0_51, ge0_52, ge0_53, ge0_54, ge0_55, ge0_56, ge0_57, ge0_58, ge0_59, ge0_60, ge0_61, ge0_62, ge0_63, ge0_64, ge0_65, ge0_66, ge0_67, ge0_68, ge0_69, ge0_70, ge0_71, ge0_72, ge0_73, ge0_74, ge0_75, ge0_76, ge0_77, ge0_78, ge0_79, ge0_80, ge0_81, ge0_82, ge0_83, ge0_84, ge0_85, ge0_86, ge0_87, ge0_88, ge0_89, ge0_90, ge0_91, ge0_92, ge0_93, ge0_94, ge0_95, ge0_96, ge0_97, ge0_98, ge0_99, ge0_100, ge0_101, ge0_102, ge0_103, ge0_104, ge0_105, ge0_106, ge0_107, ge0_108, ge0_109, ge0_110, ge0_111, ge0_112, ge0_113, ge0_114, ge0_115, ge0_116, ge0_117, ge0_118, ge0_119, ge0_120, ge0_121, ge0_122, ge0_123, ge0_124, ge0_125, ge0_126, ge0_127, ge0_128, ge0_129, ge0_130, ge0_131, ge0_132, ge0_133, ge0_134, ge0_135, ge0_136, ge0_137, ge0_138, ge0_139, ge0_140, ge0_141, ge0_142, ge0_143, ge0_144, ge0_145, ge0_146, ge0_147, ge0_148, ge0_149, ge0_150, ge0_151, ge0_152, ge0_153, ge0_154, ge0_155, ge0_156, ge0_157, ge0_158, ge0_159, ge0_160, ge0_161, ge0_162, ge0_163, ge0_164, ge0_165, ge0_166, ge0_167, ge0_168, ge0_169, ge0_170, ge0_171, ge0_172, ge0_173, ge0_174, ge0_175, ge0_176, ge0_177, ge0_178, ge0_179, ge0_180, ge0_181, ge0_182, ge0_183, ge0_184, ge0_185, ge0_186, ge0_187, ge0_188, ge0_189, ge0_190, ge0_191, ge0_192, ge0_193, ge0_194, ge0_195, ge0_196, ge0_197, ge0_198, ge0_199, ge0_255, ge0_256, ge0_300, ge0_399, ge0_400, ge0_500, ge0_900, ge0_999, ge0_1000, ge0_1001, ge0_1024, ge0_2048, ge0_2176, ge0_3536, ge0_4095, ge0_4096, ge0_5580, ge0_11160, ge0_12345, ge0_1103, ge0_99999, ge0_1000000, ge0_1000003, ge0_100000000, ge0_1000000000, hC.all, hpI_stA_ne, hh, g, es, ne10, ne10L, ne01, ne01L, tt_imp, nt_imp, ff_imp, nf_imp, true_and, and_true, true_or, or_true, reduceIte]
    refine hK f' v _ _ hf1 hf2 hv1 ?_
    rcases hv2 with z | z
    · exfalso
      obtain ⟨j, hj⟩ := Nat.exists_testBit_of_ne_zero hs0
      have hjn := tb_n hs hj
      have := hv1 j hjn hj
      have ho := oaN_le (lim := lim) (p := L (s ^^^ 2 ^ j)) (w := W j) hl
      have := hL _ (xor_lt hj)
      have := xor_lt hj
      have := (hW j hjn).1
      omega
    · exact z
/-- the class's table of sets -/
def LSp (n lim : Nat) (W L : Nat → Nat) (m : Nat) : Prop := L 0 = 0 ∧ ∀ s, s < m → L s ≤ 128 * s + 99 ∧ (∀ k, k < n → s.testBit k = true → L s ≤ oaN lim (L (s ^^^ 2 ^ k)) (W k)) ∧ (¬ s = 0 → ∃ k, k < n ∧ s.testBit k = true ∧ L s = oaN lim (L (s ^^^ 2 ^ k)) (W k))
theorem LSp.next {n lim m v : Nat} {W L : Nat → Nat} (h : LSp n lim W L m) (hm : ¬ m = 0) (hl : lim ≤ 99) (hW : ∀ k, k < n → W k ≤ 9) (h1 : ∀ k, k < n → m.testBit k = true → v ≤ oaN lim (L (m ^^^ 2 ^ k)) (W k)) (h2 : ∃ k, k < n ∧ m.testBit k = true ∧ v = oaN lim (L (m ^^^ 2 ^ k)) (W k)) : LSp n lim W (fun s => if s = m then v else L s) (m + 1) := by
  refine ⟨?_, fun s hs => ?_⟩
  · show (if 0 = m then v else L 0) = 0
    rw [if_neg (by omega)]
    exact h.1
  · by_cases e : s = m
    · subst e
      simp only [if_true]
      have hx : ∀ k, s.testBit k = true → (if s ^^^ 2 ^ k = s then v else L (s ^^^ 2 ^ k)) = L (s ^^^ 2 ^ k) := fun k hk => by
        have := xor_lt hk
        rw [if_neg (by omega)]
      refine ⟨?_, fun k hk hb => ?_, fun _ => ?_⟩
      · obtain ⟨k, k1, k2, k3⟩ := h2
        have ho := oaN_le (lim := lim) (p := L (s ^^^ 2 ^ k)) (w := W k) hl
        have := xor_lt k2
        have := (h.2 _ this).1
        have := hW k k1
        omega
      · rw [hx k hb]
        exact h1 k hk hb
      · obtain ⟨k, k1, k2, k3⟩ := h2
        exact ⟨k, k1, k2, by rw [hx k k2]; exact k3⟩
    · obtain ⟨a1, a2, a3⟩ := h.2 s (by omega)
      have hx : ∀ k, s.testBit k = true → (if s ^^^ 2 ^ k = m then v else L (s ^^^ 2 ^ k)) = L (s ^^^ 2 ^ k) := fun k hk => by
        have := xor_lt hk
        rw [if_neg (by omega)]
      simp only [if_neg e]
      refine ⟨a1, fun k hk hb => ?_, fun z => ?_⟩
      · rw [hx k hb]
        exact a2 k hk hb
      · obtain ⟨k, k1, k2, k3⟩ := a3 z
        exact ⟨k, k1, k2, by rw [hx k k2]; exact k3⟩
theorem pk_70 {G : XH} (hC : CS G) {n lim : Nat} {W lt : Nat → Nat} (hn : n ≤ 12) (hl : lim ≤ 99) (hh : hpI G 65 2 = nI n) (hlt : ∀ k, k < n → lt k < 12 ∧ hpI G 66 k = nI (lt k)) (hW : ∀ k, k < n → W k ≤ 9 ∧ hpI G 2 (78 + lt k) = nI (W k)) (Q : XR → Prop) (hQ : ∀ f L, LSp n lim W L (2 ^ n) → (∀ s, s < 2 ^ n → f s = nI (L s)) → Q (some (.int 1), stA G 67 f)) : WP k_Bags_pack_70 [some (.ref 65), some (.ref 2), some (.int (nI lim)), some (.int 1), none, none] [] (stI G 67 0 0) Q := by
  have h2n : 2 ^ n ≤ 4096 := Nat.pow_le_pow_right (n := 2) (by decide) hn
  have h1n := Nat.one_le_two_pow (n := n)
  obtain ⟨u, hu1, hu2, hk⟩ : ∃ u : Nat, 1000000 ≤ u ∧ u < 2147483648 ∧ f_Bags_pack_70 = fun K70 => (xIld 3 (xI 1 (xAld 0 (xGetI 9 2 (xishl (xicmp_ge (xI 1 (xZret ())) (xAld 0 (xGetR 9 1 (xIld 3 (xI (nI u) (xIasth (xI 0 (xIst 4 (k_Bags_pack_91 K70)))))))))))))) := ⟨1073741824, by omega, by omega, rfl⟩
  unfold k_Bags_pack_70
  rw [hk]
  refine w_loop (fun mm A' st G' => ∃ s, 1 ≤ s ∧ s ≤ 2 ^ n ∧ mm = 2 ^ n - s ∧ (∃ lo4 lo5, A' = [some (.ref 65), some (.ref 2), some (.int (nI lim)), some (.int (nI s)), lo4, lo5]) ∧ st = [] ∧ ∃ f L, G' = stA G 67 f ∧ LSp n lim W L s ∧ ∀ j, j < s → f j = nI (L j)) ?_ NF (2 ^ n - 1) _ _ _ (by unfold NF; omega) ⟨1, by omega, by omega, rfl, ⟨none, none, rfl⟩, rfl, _, fun _ => 0, stI_up, ⟨rfl, fun s hs => ?_⟩, fun j hj => ?_⟩
  · rintro mm A' st G' K ⟨s, hs1, hs2, rfl, ⟨lo4, lo5, rfl⟩, rfl, f, L, rfl, hL, hf⟩ ih
    by_cases hsn : s < 2 ^ n
    · have g : ¬ nI (2 ^ n) ≤ nI s := fun q => absurd ((nI_leI (by omega) (by omega)).mp q) (by omega)
      have p1 : 0 ≤ nI (s) := nI_pos' (by omega)
      have c1 : (nI (s)).toNatClampNeg = s := nI_clamp (by omega)
      have l1 : s < 4096 := by omega
      simp only [w_iadd, w_isub, w_imul, w_iand, w_ior, w_ixor, w_ishl, w_ishr, w_iushr, w_idiv, w_irem, w_ineg, w_ladd, w_lsub, w_lmul, w_ldiv, w_lrem, w_i2l, w_l2i, w_i2c, w_lcmp, w_dup_int, w_pop_int, w_dup_ref, w_pop_ref, w_dup_retAddr, w_pop_retAddr, w_dup2, w_I, w_L, w_Null, w_Ild, w_Lld, w_Ald, w_Ist, w_Lst, w_Ast, w_Iinc, w_if_eq, w_icmp_eq, w_if_ne, w_icmp_ne, w_if_lt, w_icmp_lt, w_if_ge, w_icmp_ge, w_if_gt, w_icmp_gt, w_if_le, w_icmp_le, w_GetI, w_GetL, w_GetR, w_PutI, w_PutZ, w_PutL, w_PutR, w_PutN, w_Iald, w_Zald, w_Lald, w_Aald, w_Iast, w_Zast, w_Last, w_AastR, w_AastN, w_Alen, w_New, w_NewA, w_Mna, w_Iret, w_Zret, w_Cret, w_Bret, w_Lret, w_AretR, w_AretN, w_Vret, w_Obj, w_IfNN, w_IfNR, w_Copy, w_Cln, w_Cast, w_SfA, w_SfI, w_SfQ, w_Str, w_ScLd, w_ScLen, w_CV0, w_CS0, w_CV1, w_CS1, w_CV2, w_CS2, w_CV3, w_CS3, w_CV4, w_CS4, w_CV5, w_CS5, List.getElem?_cons_zero, List.getElem?_cons_succ, List.set_cons_zero, List.set_cons_succ, List.length_cons, List.length_nil, List.map_cons, List.map_nil, List.sum_cons, List.sum_nil, List.nil_append, List.cons_append, Option.toList_some, Option.toList_none, Value.category, xok, va_rf, true_and, and_true, and_self, Nat.reduceAdd, Nat.reduceLT, Nat.reduceLeDiff, Nat.reduceEqDiff, Nat.reduceMul, beq_self_eq_true, decide_true, ite_true, ite_false, if_true, if_false, reduceIte, Bool.true_eq_false, Bool.false_eq_true, eq_self_iff_true, Nat.zero_le, not_true_eq_false, not_false_eq_true, forall_const, false_implies, implies_true, forall_false, stI_C, stI_N, stI_Z, stI_S, stI_L, stI_R, stL_C, stL_N, stL_Z, stL_S, stL_I, stL_R, stR_C, stR_N, stR_Z, stR_S, stR_I, stR_L, stA_C, stA_N, stA_Z, stA_S, stA_L, stA_R, stI_I, stL_L, stR_R, stA_I, stN_C, stN_N, stN_Z, stN_S, stN_I, stN_L, stN_R, stI_ne, stL_ne, stR_ne, tn_0, tn_1, tn_2, tn_3, tn_4, tn_5, tn_6, tn_7, tn_8, tn_9, tn_10, tn_11, tn_12, tn_13, tn_14, tn_15, tn_16, tn_17, tn_18, tn_19, tn_20, tn_21, tn_22, tn_23, tn_24, tn_25, tn_26, tn_27, tn_28, tn_29, tn_30, tn_31, tn_32, tn_33, tn_34, tn_35, tn_36, tn_37, tn_38, tn_39, tn_40, tn_41, tn_42, tn_43, tn_44, tn_45, tn_46, tn_47, tn_48, tn_49, tn_50, tn_51, tn_52, tn_53, tn_54, tn_55, tn_56, tn_57, tn_58, tn_59, tn_60, tn_61, tn_62, tn_63, tn_64, tn_65, tn_66, tn_67, tn_68, tn_69, tn_70, tn_71, tn_72, tn_73, tn_74, tn_75, tn_76, tn_77, tn_78, tn_79, tn_80, tn_81, tn_82, tn_83, tn_84, tn_85, tn_86, tn_87, tn_88, tn_89, tn_90, tn_91, tn_92, tn_93, tn_94, tn_95, tn_96, tn_97, tn_98, tn_99, tn_100, tn_101, tn_102, tn_103, tn_104, tn_105, tn_106, tn_107, tn_108, tn_109, tn_110, tn_111, tn_112, tn_113, tn_114, tn_115, tn_116, tn_117, tn_118, tn_119, tn_120, tn_121, tn_122, tn_123, tn_124, tn_125, tn_126, tn_127, tn_128, tn_129, tn_130, tn_131, tn_132, tn_133, tn_134, tn_135, tn_136, tn_137, tn_138, tn_139, tn_140, tn_141, tn_142, tn_143, tn_144, tn_145, tn_146, tn_147, tn_148, tn_149, tn_150, tn_151, tn_152, tn_153, tn_154, tn_155, tn_156, tn_157, tn_158, tn_159, tn_160, tn_161, tn_162, tn_163, tn_164, tn_165, tn_166, tn_167, tn_168, tn_169, tn_170, tn_171, tn_172, tn_173, tn_174, tn_175, tn_176, tn_177, tn_178, tn_179, tn_180, tn_181, tn_182, tn_183, tn_184, tn_185, tn_186, tn_187, tn_188, tn_189, tn_190, tn_191, tn_192, tn_193, tn_194, tn_195, tn_196, tn_197, tn_198, tn_199, tn_255, tn_256, tn_300, tn_399, tn_400, tn_500, tn_900, tn_999, tn_1000, tn_1001, tn_1024, tn_2048, tn_2176, tn_3536, tn_4095, tn_4096, tn_5580, tn_11160, tn_12345, tn_1103, tn_99999, tn_1000000, tn_1000003, tn_100000000, tn_1000000000, ge0_0, ge0_1, ge0_2, ge0_3, ge0_4, ge0_5, ge0_6, ge0_7, ge0_8, ge0_9, ge0_10, ge0_11, ge0_12, ge0_13, ge0_14, ge0_15, ge0_16, ge0_17, ge0_18, ge0_19, ge0_20, ge0_21, ge0_22, ge0_23, ge0_24, ge0_25, ge0_26, ge0_27, ge0_28, ge0_29, ge0_30, ge0_31, ge0_32, ge0_33, ge0_34, ge0_35, ge0_36, ge0_37, ge0_38, ge0_39, ge0_40, ge0_41, ge0_42, ge0_43, ge0_44, ge0_45, ge0_46, ge0_47, ge0_48, ge0_49, ge0_50, ge0_51, ge0_52, ge0_53, ge0_54, ge0_55, ge0_56, ge0_57, ge0_58, ge0_59, ge0_60, ge0_61, ge0_62, ge0_63, ge0_64, ge0_65, ge0_66, ge0_67, ge0_68, ge0_69, ge0_70, ge0_71, ge0_72, ge0_73, ge0_74, ge0_75, ge0_76, ge0_77, ge0_78, ge0_79, ge0_80, ge0_81, ge0_82, ge0_83, ge0_84, ge0_85, ge0_86, ge0_87, ge0_88, ge0_89, ge0_90, ge0_91, ge0_92, ge0_93, ge0_94, ge0_95, ge0_96, ge0_97, ge0_98, ge0_99, ge0_100, ge0_101, ge0_102, ge0_103, ge0_104, ge0_105, ge0_106, ge0_107, ge0_108, ge0_109, ge0_110, ge0_111, ge0_112, ge0_113, ge0_114, ge0_115, ge0_116, ge0_117, ge0_118, ge0_119, ge0_120, ge0_121, ge0_122, ge0_123, ge0_124, ge0_125, ge0_126, ge0_127, ge0_128, ge0_129, ge0_130, ge0_131, ge0_132, ge0_133, ge0_134, ge0_135, ge0_136, ge0_137, ge0_138, ge0_139, ge0_140, ge0_141, ge0_142, ge0_143, ge0_144, ge0_145, ge0_146, ge0_147, ge0_148, ge0_149, ge0_150, ge0_151, ge0_152, ge0_153, ge0_154, ge0_155, ge0_156, ge0_157, ge0_158, ge0_159, ge0_160, ge0_161, ge0_162, ge0_163, ge0_164, ge0_165, ge0_166, ge0_167, ge0_168, ge0_169, ge0_170, ge0_171, ge0_172, ge0_173, ge0_174, ge0_175, ge0_176, ge0_177, ge0_178, ge0_179, ge0_180, ge0_181, ge0_182, ge0_183, ge0_184, ge0_185, ge0_186, ge0_187, ge0_188, ge0_189, ge0_190, ge0_191, ge0_192, ge0_193, ge0_194, ge0_195, ge0_196, ge0_197, ge0_198, ge0_199, ge0_255, ge0_256, ge0_300, ge0_399, ge0_400, ge0_500, ge0_900, ge0_999, ge0_1000, ge0_1001, ge0_1024, ge0_2048, ge0_2176, ge0_3536, ge0_4095, ge0_4096, ge0_5580, ge0_11160, ge0_12345, ge0_1103, ge0_99999, ge0_1000000, ge0_1000003, ge0_100000000, ge0_1000000000, hC.all, hpI_stA_ne, hpI_stA, hh, g, nx_shl (show n < 31 by omega), xin, p1, c1, l1, stI_stU, ne10, ne10L, ne01, ne01L, tt_imp, nt_imp, ff_imp, nf_imp, true_and, and_true, true_or, or_true, reduceIte]
      refine pk_91 hC hn hl hsn (by omega) hh hlt hW (fun s' z => (hL.2 s' z).1) hu1 hu2 (f := up f s (nI u)) (fun s' z => by rw [up_ne (by omega)]; exact hf s' z) up_eq K Q ?_ _
      intro f' v lo4 lo5 hf1 hf2 hv1 hv2
      refine ih (2 ^ n - (s + 1)) _ _ _ (by omega) ⟨s + 1, by omega, by omega, rfl, ⟨_, _, rfl⟩, rfl, f', _, rfl, hL.next (v := v) (by omega) hl (fun k hk => (hW k hk).1) hv1 hv2, fun j hj => ?_⟩
      by_cases e : j = s
      · rw [e, hf2, if_pos rfl]
      · rw [hf1 j e, up_ne e, if_neg e]
        exact hf j (by omega)
    · have e : s = 2 ^ n := by omega
      subst e
      have g : nI (2 ^ n) ≤ nI (2 ^ n) := Int32.le_refl _
      simp only [w_iadd, w_isub, w_imul, w_iand, w_ior, w_ixor, w_ishl, w_ishr, w_iushr, w_idiv, w_irem, w_ineg, w_ladd, w_lsub, w_lmul, w_ldiv, w_lrem, w_i2l, w_l2i, w_i2c, w_lcmp, w_dup_int, w_pop_int, w_dup_ref, w_pop_ref, w_dup_retAddr, w_pop_retAddr, w_dup2, w_I, w_L, w_Null, w_Ild, w_Lld, w_Ald, w_Ist, w_Lst, w_Ast, w_Iinc, w_if_eq, w_icmp_eq, w_if_ne, w_icmp_ne, w_if_lt, w_icmp_lt, w_if_ge, w_icmp_ge, w_if_gt, w_icmp_gt, w_if_le, w_icmp_le, w_GetI, w_GetL, w_GetR, w_PutI, w_PutZ, w_PutL, w_PutR, w_PutN, w_Iald, w_Zald, w_Lald, w_Aald, w_Iast, w_Zast, w_Last, w_AastR, w_AastN, w_Alen, w_New, w_NewA, w_Mna, w_Iret, w_Zret, w_Cret, w_Bret, w_Lret, w_AretR, w_AretN, w_Vret, w_Obj, w_IfNN, w_IfNR, w_Copy, w_Cln, w_Cast, w_SfA, w_SfI, w_SfQ, w_Str, w_ScLd, w_ScLen, w_CV0, w_CS0, w_CV1, w_CS1, w_CV2, w_CS2, w_CV3, w_CS3, w_CV4, w_CS4, w_CV5, w_CS5, List.getElem?_cons_zero, List.getElem?_cons_succ, List.set_cons_zero, List.set_cons_succ, List.length_cons, List.length_nil, List.map_cons, List.map_nil, List.sum_cons, List.sum_nil, List.nil_append, List.cons_append, Option.toList_some, Option.toList_none, Value.category, xok, va_rf, true_and, and_true, and_self, Nat.reduceAdd, Nat.reduceLT, Nat.reduceLeDiff, Nat.reduceEqDiff, Nat.reduceMul, beq_self_eq_true, decide_true, ite_true, ite_false, if_true, if_false, reduceIte, Bool.true_eq_false, Bool.false_eq_true, eq_self_iff_true, Nat.zero_le, not_true_eq_false, not_false_eq_true, forall_const, false_implies, implies_true, forall_false, stI_C, stI_N, stI_Z, stI_S, stI_L, stI_R, stL_C, stL_N, stL_Z, stL_S, stL_I, stL_R, stR_C, stR_N, stR_Z, stR_S, stR_I, stR_L, stA_C, stA_N, stA_Z, stA_S, stA_L, stA_R, stI_I, stL_L, stR_R, stA_I, stN_C, stN_N, stN_Z, stN_S, stN_I, stN_L, stN_R, stI_ne, stL_ne, stR_ne, tn_0, tn_1, tn_2, tn_3, tn_4, tn_5, tn_6, tn_7, tn_8, tn_9, tn_10, tn_11, tn_12, tn_13, tn_14, tn_15, tn_16, tn_17, tn_18, tn_19, tn_20, tn_21, tn_22, tn_23, tn_24, tn_25, tn_26, tn_27, tn_28, tn_29, tn_30, tn_31, tn_32, tn_33, tn_34, tn_35, tn_36, tn_37, tn_38, tn_39, tn_40, tn_41, tn_42, tn_43, tn_44, tn_45, tn_46, tn_47, tn_48, tn_49, tn_50, tn_51, tn_52, tn_53, tn_54, tn_55, tn_56, tn_57, tn_58, tn_59, tn_60, tn_61, tn_62, tn_63, tn_64, tn_65, tn_66, tn_67, tn_68, tn_69, tn_70, tn_71, tn_72, tn_73, tn_74, tn_75, tn_76, tn_77, tn_78, tn_79, tn_80, tn_81, tn_82, tn_83, tn_84, tn_85, tn_86, tn_87, tn_88, tn_89, tn_90, tn_91, tn_92, tn_93, tn_94, tn_95, tn_96, tn_97, tn_98, tn_99, tn_100, tn_101, tn_102, tn_103, tn_104, tn_105, tn_106, tn_107, tn_108, tn_109, tn_110, tn_111, tn_112, tn_113, tn_114, tn_115, tn_116, tn_117, tn_118, tn_119, tn_120, tn_121, tn_122, tn_123, tn_124, tn_125, tn_126, tn_127, tn_128, tn_129, tn_130, tn_131, tn_132, tn_133, tn_134, tn_135, tn_136, tn_137, tn_138, tn_139, tn_140, tn_141, tn_142, tn_143, tn_144, tn_145, tn_146, tn_147, tn_148, tn_149, tn_150, tn_151, tn_152, tn_153, tn_154, tn_155, tn_156, tn_157, tn_158, tn_159, tn_160, tn_161, tn_162, tn_163, tn_164, tn_165, tn_166, tn_167, tn_168, tn_169, tn_170, tn_171, tn_172, tn_173, tn_174, tn_175, tn_176, tn_177, tn_178, tn_179, tn_180, tn_181, tn_182, tn_183, tn_184, tn_185, tn_186, tn_187, tn_188, tn_189, tn_190, tn_191, tn_192, tn_193, tn_194, tn_195, tn_196, tn_197, tn_198, tn_199, tn_255, tn_256, tn_300, tn_399, tn_400, tn_500, tn_900, tn_999, tn_1000, tn_1001, tn_1024, tn_2048, tn_2176, tn_3536, tn_4095, tn_4096, tn_5580, tn_11160, tn_12345, tn_1103, tn_99999, tn_1000000, tn_1000003, tn_100000000, tn_1000000000, ge0_0, ge0_1, ge0_2, ge0_3, ge0_4, ge0_5, ge0_6, ge0_7, ge0_8, ge0_9, ge0_10, ge0_11, ge0_12, ge0_13, ge0_14, ge0_15, ge0_16, ge0_17, ge0_18, ge0_19, ge0_20, ge0_21, ge0_22, ge0_23, ge0_24, ge0_25, ge0_26, ge0_27, ge0_28, ge0_29, ge0_30, ge0_31, ge0_32, ge0_33, ge0_34, ge0_35, ge0_36, ge0_37, ge0_38, ge0_39, ge0_40, ge0_41, ge0_42, ge0_43, ge0_44, ge0_45, ge0_46, ge0_47, ge0_48, ge0_49, ge0_50, ge0_51, ge0_52, ge0_53, ge0_54, ge0_55, ge0_56, ge0_57, ge0_58, ge0_59, ge0_60, ge0_61, ge0_62, ge0_63, ge0_64, ge0_65, ge0_66, ge0_67, ge0_68, ge0_69, ge0_70, ge0_71, ge0_72, ge0_73, ge0_74, ge0_75, ge0_76, ge0_77, ge0_78, ge0_79, ge0_80, ge0_81, ge0_82, ge0_83, ge0_84, ge0_85, ge0_86, ge0_87, ge0_88, ge0_89, ge0_90, ge0_91, ge0_92, ge0_93, ge0_94, ge0_95, ge0_96, ge0_97, ge0_98, ge0_99, ge0_100, ge0_101, ge0_102, ge0_103, ge0_104, ge0_105, ge0_106, ge0_107, ge0_108, ge0_109, ge0_110, ge0_111, ge0_112, ge0_113, ge0_114, ge0_115, ge0_116, ge0_117, ge0_118, ge0_119, ge0_120, ge0_121, ge0_122, ge0_123, ge0_124, ge0_125, ge0_126, ge0_127, ge0_128, ge0_129, ge0_130, ge0_131, ge0_132, ge0_133, ge0_134, ge0_135, ge0_136, ge0_137, ge0_138, ge0_139, ge0_140, ge0_141, ge0_142, ge0_143, ge0_144, ge0_145, ge0_146, ge0_147, ge0_148, ge0_149, ge0_150, ge0_151, ge0_152, ge0_153, ge0_154, ge0_155, ge0_156, ge0_157, ge0_158, ge0_159, ge0_160, ge0_161, ge0_162, ge0_163, ge0_164, ge0_165, ge0_166, ge0_167, ge0_168, ge0_169, ge0_170, ge0_171, ge0_172, ge0_173, ge0_174, ge0_175, ge0_176, ge0_177, ge0_178, ge0_179, ge0_180, ge0_181, ge0_182, ge0_183, ge0_184, ge0_185, ge0_186, ge0_187, ge0_188, ge0_189, ge0_190, ge0_191, ge0_192, ge0_193, ge0_194, ge0_195, ge0_196, ge0_197, ge0_198, ge0_199, ge0_255, ge0_256, ge0_300, ge0_399, ge0_400, ge0_500, ge0_900, ge0_999, ge0_1000, ge0_1001, ge0_1024, ge0_2048, ge0_2176, ge0_3536, ge0_4095, ge0_4096, ge0_5580, ge0_11160, ge0_12345, ge0_1103, ge0_99999, ge0_1000000, ge0_1000003, ge0_100000000, ge0_1000000000, hC.all, hpI_stA_ne, hpI_stA, hh, g, nx_shl (show n < 31 by omega), ne10, ne10L, ne01, ne01L, tt_imp, nt_imp, ff_imp, nf_imp, true_and, and_true, true_or, or_true, reduceIte]
      exact hQ f L hL hf
  · have : s = 0 := by omega
    subst this
    refine ⟨Nat.zero_le _, fun k _ hb => ?_, fun z => absurd rfl z⟩
    rw [Nat.zero_testBit] at hb
    cases hb
  · have : j = 0 := by omega
    subst this
    rw [up_eq]
    rfl
theorem c_pack {G : XH} (hC : CS G) {R : Nat → Int32} (hV : VW (hpI G 2) R) {nr nl c lim : Nat} (hR : RW R nr nl c) (hl : lim ≤ 99) : SP D_Bags_pack [.ref 65, .ref 2, .int (nI lim)] G (fun q => Fr WPk G q.2 ∧ ((q.1 = some (.int 0) ∧ ∃ l, l < nl ∧ R (62 + 7 * l) = 0 ∧ lim < wtN R l) ∨ (q.1 = some (.int 1) ∧ (∀ l, l < nl → R (62 + 7 * l) = 0 → wtN R l ≤ lim) ∧ hpI q.2 65 2 = nI (hcN R nl) ∧ (∀ j, j < hcN R nl → hpI q.2 66 j = nI (hlF R nl j)) ∧ ∃ L, LSp (hcN R nl) lim (fun j => wtN R (hlF R nl j)) L (2 ^ hcN R nl) ∧ ∀ s, s < 2 ^ hcN R nl → hpI q.2 67 s = nI (L s)))) := by
  have nl12 := hR.2.2.2.1
  have hn := hc_le (R := R) nl
  rw [e_Bags_pack]
  refine pk_7 hC hV hR hl _ (fun G' hf h => ⟨hf.mono WP1_WPk, Or.inl ⟨rfl, h⟩⟩) ?_
  intro G' hf hw hh hlt
  have sG : hpI G' 2 = hpI G 2 := hf.IA _ (fun _ => rfl)
  refine pk_70 (hf.cs hC) (n := hcN R nl) (W := fun j => wtN R (hlF R nl j)) (lt := hlF R nl) (by omega) hl hh (fun k hk => ⟨?_, hlt k hk⟩) (fun k hk => ?_) _ ?_
  · have := (hl_lt hk).1
    omega
  · have h1 := (hl_lt hk).1
    obtain ⟨w1, w2, w3⟩ := hR.wt h1
    refine ⟨w2, ?_⟩
    rw [sG, show 78 + hlF R nl k = 54 + 12 * 2 + hlF R nl k by omega, hV.2.2.2.2 _ 2 (by omega) (by omega), show 57 + 7 * hlF R nl k + 2 = 59 + 7 * hlF R nl k by omega]
    exact w3
  · intro f L hL hf2
    refine ⟨(hf.mono WP1_WPk).wA (fun k q => absurd q (by unfold WPk; simp)), Or.inr ⟨rfl, hw, ?_, ?_, L, hL, ?_⟩⟩
    · rw [hpI_stA_ne (by decide)]
      exact hh
    · intro j hj
      rw [hpI_stA_ne (by decide)]
      exact hlt j hj
    · intro s hs
      rw [hpI_stA]
      exact hf2 s hs
