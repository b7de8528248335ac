theorem w_Iald64 {K : XK} {A : List (Option Value)} {x : Int32} {r : List Value} {G : XH} {Q : XR → Prop} : WP (xIaldh K) A (.int x :: .retAddr 64 :: r) G Q = (xin x 3 ∧ WP K A (.int (([0, 1, 0] : List Int32).getD x.toNatClampNeg 0) :: r) G Q) := by
  unfold WP
  exact wp_chk
theorem w_Iald65 {K : XK} {A : List (Option Value)} {x : Int32} {r : List Value} {G : XH} {Q : XR → Prop} : WP (xIaldh K) A (.int x :: .retAddr 65 :: r) G Q = (xin x 3 ∧ WP K A (.int (([999, 99, 9] : List Int32).getD x.toNatClampNeg 0) :: r) G Q) := by
  unfold WP
  exact wp_chk
theorem w_Iald66 {K : XK} {A : List (Option Value)} {x : Int32} {r : List Value} {G : XH} {Q : XR → Prop} : WP (xIaldh K) A (.int x :: .retAddr 66 :: r) G Q = (xin x 16 ∧ WP K A (.int (([0, 0, 2, 2, 2, 2, 2, 2, 2, 2, 1, 1, 1, 1, 1, 1] : List Int32).getD x.toNatClampNeg 0) :: r) G Q) := by
  unfold WP
  exact wp_chk
/-- an instruction of the class's machine -/
def CI (v : Int32) (x : Nat × Nat) : Prop := v &&& 15 = nI x.1 ∧ v >>> 4 = nI x.2 ∧ x.1 ≤ 12 ∧ x.2 ≤ 1001
/-- a text of the class: its code and its rows -/
def TX (G : XH) (t cd rw lim n : Nat) : Prop := hpC G t = 3 ∧ hpR G t 0 = some cd ∧ hpR G t 1 = some rw ∧ hpC G cd = 20 ∧ hpC G rw = 20 ∧ lim ≤ hpN G cd ∧ hpN G cd ≤ 400 ∧ 6 * n ≤ hpN G rw ∧ hpN G rw ≤ 72 ∧ hpI G t 2 = nI lim ∧ hpI G t 3 = nI n
def WK : Nat → Nat → Bool := fun a _ => a == 55
theorem c_told {G : XH} {t cd rw lim n : Nat} (h : TX G t cd rw lim n) (c w : Nat) (hc : c < n) (hw : w < 6) (Q : XR → Prop) : SP D_Text_told [.ref t, .int (nI c), .int (nI w)] G Q = Q (some (.int (hpI G rw (6 * c + w))), G) := by
  obtain ⟨h1, h2, h3, h4, h5, h6, h7, h8, h9, h10, h11⟩ := h
  have e1 : nI c * 6 + nI w = nI (6 * c + w) := by rw [cI_6, nI_mul, nI_add]; congr 1; omega
  have hx : xin (nI (6 * c + w)) (hpN G rw) := xin_nI (by omega) (by omega)
  have hcl : (nI (6 * c + w)).toNatClampNeg = 6 * c + w := nI_clamp (by omega)
  rw [e_Text_told]
  simp only [k_Text_told_0, w_iadd, w_isub, w_imul, w_iand, w_ior, w_ixor, w_ishl, w_ishr, w_iushr, w_idiv, w_irem, w_ineg, w_ladd, w_lsub, w_lmul, w_ldiv, w_lrem, w_i2l, w_l2i, w_i2c, w_lcmp, w_dup_int, w_pop_int, w_dup_ref, w_pop_ref, w_dup_retAddr, w_pop_retAddr, w_dup2, w_I, w_L, w_Null, w_Ild, w_Lld, w_Ald, w_Ist, w_Lst, w_Ast, w_Iinc, w_if_eq, w_icmp_eq, w_if_ne, w_icmp_ne, w_if_lt, w_icmp_lt, w_if_ge, w_icmp_ge, w_if_gt, w_icmp_gt, w_if_le, w_icmp_le, w_GetI, w_GetL, w_GetR, w_PutI, w_PutZ, w_PutL, w_PutR, w_PutN, w_Iald, w_Zald, w_Lald, w_Aald, w_Iast, w_Zast, w_Last, w_AastR, w_AastN, w_Alen, w_New, w_NewA, w_Mna, w_Iret, w_Zret, w_Cret, w_Bret, w_Lret, w_AretR, w_AretN, w_Vret, w_Obj, w_IfNN, w_IfNR, w_Copy, w_Cln, w_Cast, w_SfA, w_SfI, w_SfQ, w_Str, w_ScLd, w_ScLen, w_CV0, w_CS0, w_CV1, w_CS1, w_CV2, w_CS2, w_CV3, w_CS3, w_CV4, w_CS4, w_CV5, w_CS5, List.getElem?_cons_zero, List.getElem?_cons_succ, List.set_cons_zero, List.set_cons_succ, List.length_cons, List.length_nil, List.map_cons, List.map_nil, List.sum_cons, List.sum_nil, List.nil_append, List.cons_append, Option.toList_some, Option.toList_none, Value.category, xok, va_rf, true_and, and_true, and_self, Nat.reduceAdd, Nat.reduceLT, Nat.reduceLeDiff, Nat.reduceEqDiff, Nat.reduceMul, beq_self_eq_true, decide_true, ite_true, ite_false, if_true, if_false, reduceIte, Bool.true_eq_false, Bool.false_eq_true, eq_self_iff_true, Nat.zero_le, not_true_eq_false, not_false_eq_true, forall_const, false_implies, implies_true, forall_false, h1, h3, h5, e1, eq_true hx, hcl]
theorem mr_exit {G : XH} (hC : CS G) {t : Nat} {a2 a3 : Int32} {o4 o5 o6 o8 o9 o10 o11 o13 : Option Value} {R : Nat → Int64} {v : Int64} {Q : XR → Prop} (hR : R 0 = v) : WP k_Machine_run_475 [some (.ref 54), some (.ref t), some (.int a2), some (.int a3), o4, o5, o6, some (.int (nI 1)), o8, o9, o10, o11, none, o13, none] [] (stM G 55 R) Q = Q (some (.int v.toInt32), stM G 55 R) := by
  have e : nI 1 - 1 = 0 := by decide
  have g : ¬ nI 1 ≤ 0 := by decide
  simp only [k_Machine_run_475, k_Machine_run_494, w_iadd, w_isub, w_imul, w_iand, w_ior, w_ixor, w_ishl, w_ishr, w_iushr, w_idiv, w_irem, w_ineg, w_ladd, w_lsub, w_lmul, w_ldiv, w_lrem, w_i2l, w_l2i, w_i2c, w_lcmp, w_dup_int, w_pop_int, w_dup_ref, w_pop_ref, w_dup_retAddr, w_pop_retAddr, w_dup2, w_I, w_L, w_Null, w_Ild, w_Lld, w_Ald, w_Ist, w_Lst, w_Ast, w_Iinc, w_if_eq, w_icmp_eq, w_if_ne, w_icmp_ne, w_if_lt, w_icmp_lt, w_if_ge, w_icmp_ge, w_if_gt, w_icmp_gt, w_if_le, w_icmp_le, w_GetI, w_GetL, w_GetR, w_PutI, w_PutZ, w_PutL, w_PutR, w_PutN, w_Iald, w_Zald, w_Lald, w_Aald, w_Iast, w_Zast, w_Last, w_AastR, w_AastN, w_Alen, w_New, w_NewA, w_Mna, w_Iret, w_Zret, w_Cret, w_Bret, w_Lret, w_AretR, w_AretN, w_Vret, w_Obj, w_IfNN, w_IfNR, w_Copy, w_Cln, w_Cast, w_SfA, w_SfI, w_SfQ, w_Str, w_ScLd, w_ScLen, w_CV0, w_CS0, w_CV1, w_CS1, w_CV2, w_CS2, w_CV3, w_CS3, w_CV4, w_CS4, w_CV5, w_CS5, List.getElem?_cons_zero, List.getElem?_cons_succ, List.set_cons_zero, List.set_cons_succ, List.length_cons, List.length_nil, List.map_cons, List.map_nil, List.sum_cons, List.sum_nil, List.nil_append, List.cons_append, Option.toList_some, Option.toList_none, Value.category, xok, va_rf, true_and, and_true, and_self, Nat.reduceAdd, Nat.reduceLT, Nat.reduceLeDiff, Nat.reduceEqDiff, Nat.reduceMul, beq_self_eq_true, decide_true, ite_true, ite_false, if_true, if_false, reduceIte, Bool.true_eq_false, Bool.false_eq_true, eq_self_iff_true, Nat.zero_le, not_true_eq_false, not_false_eq_true, forall_const, false_implies, implies_true, forall_false, tn_0, tn_1, tn_2, tn_3, tn_4, tn_5, tn_6, tn_7, tn_8, tn_9, tn_10, tn_11, tn_12, tn_13, tn_14, tn_15, tn_16, tn_17, tn_18, tn_19, tn_20, tn_21, tn_22, tn_23, tn_24, tn_25, tn_26, tn_27, tn_28, tn_29, tn_30, tn_31, tn_32, tn_33, tn_34, tn_35, tn_36, tn_37, tn_38, tn_39, tn_40, tn_41, tn_42, tn_43, tn_44, tn_45, tn_46, tn_47, tn_48, tn_49, tn_50, tn_51, tn_52, tn_53, tn_54, tn_55, tn_56, tn_57, tn_58, tn_59, tn_60, tn_61, tn_62, tn_63, tn_64, tn_65, tn_66, tn_67, tn_68, tn_69, tn_70, tn_71, tn_72, tn_73, tn_74, tn_75, tn_76, tn_77, tn_78, tn_79, tn_80, tn_81, tn_82, tn_83, tn_84, tn_85, tn_86, tn_87, tn_88, tn_89, tn_90, tn_91, tn_92, tn_93, tn_94, tn_95, tn_96, tn_97, tn_98, tn_99, tn_100, tn_101, tn_102, tn_103, tn_104, tn_105, tn_106, tn_107, tn_108, tn_109, tn_110, tn_111, tn_112, tn_113, tn_114, tn_115, tn_116, tn_117, tn_118, tn_119, tn_120, tn_121, tn_122, tn_123, tn_124, tn_125, tn_126, tn_127, tn_128, tn_129, tn_130, tn_131, tn_132, tn_133, tn_134, tn_135, tn_136, tn_137, tn_138, tn_139, tn_140, tn_141, tn_142, tn_143, tn_144, tn_145, tn_146, tn_147, tn_148, tn_149, tn_150, tn_151, tn_152, tn_153, tn_154, tn_155, tn_156, tn_157, tn_158, tn_159, tn_160, tn_161, tn_162, tn_163, tn_164, tn_165, tn_166, tn_167, tn_168, tn_169, tn_170, tn_171, tn_172, tn_173, tn_174, tn_175, tn_176, tn_177, tn_178, tn_179, tn_180, tn_181, tn_182, tn_183, tn_184, tn_185, tn_186, tn_187, tn_188, tn_189, tn_190, tn_191, tn_192, tn_193, tn_194, tn_195, tn_196, tn_197, tn_198, tn_199, tn_255, tn_256, tn_300, tn_399, tn_400, tn_500, tn_900, tn_999, tn_1000, tn_1001, tn_1024, tn_2048, tn_2176, tn_3536, tn_4095, tn_4096, tn_5580, tn_11160, tn_12345, tn_1103, tn_99999, tn_1000000, tn_1000003, tn_100000000, tn_1000000000, ge0_0, ge0_1, ge0_2, ge0_3, ge0_4, ge0_5, ge0_6, ge0_7, ge0_8, ge0_9, ge0_10, ge0_11, ge0_12, ge0_13, ge0_14, ge0_15, ge0_16, ge0_17, ge0_18, ge0_19, ge0_20, ge0_21, ge0_22, ge0_23, ge0_24, ge0_25, ge0_26, ge0_27, ge0_28, ge0_29, ge0_30, ge0_31, ge0_32, ge0_33, ge0_34, ge0_35, ge0_36, ge0_37, ge0_38, ge0_39, ge0_40, ge0_41, ge0_42, ge0_43, ge0_44, ge0_45, ge0_46, ge0_47, ge0_48, ge0_49, ge0_50, ge0_51, ge0_52, ge0_53, ge0_54, ge0_55, ge0_56, ge0_57, ge0_58, ge0_59, ge0_60, ge0_61, ge0_62, ge0_63, ge0_64, ge0_65, ge0_66, ge0_67, ge0_68, ge0_69, ge0_70, ge0_71, ge0_72, ge0_73, ge0_74, ge0_75, ge0_76, ge0_77, ge0_78, ge0_79, ge0_80, ge0_81, ge0_82, ge0_83, ge0_84, ge0_85, ge0_86, ge0_87, ge0_88, ge0_89, ge0_90, ge0_91, ge0_92, ge0_93, ge0_94, ge0_95, ge0_96, ge0_97, ge0_98, ge0_99, ge0_100, ge0_101, ge0_102, ge0_103, ge0_104, ge0_105, ge0_106, ge0_107, ge0_108, ge0_109, ge0_110, ge0_111, ge0_112, ge0_113, ge0_114, ge0_115, ge0_116, ge0_117, ge0_118, ge0_119, ge0_120, ge0_121, ge0_122, ge0_123, ge0_124, ge0_125, ge0_126, ge0_127, ge0_128, ge0_129, ge0_130, ge0_131, ge0_132, ge0_133, ge0_134, ge0_135, ge0_136, ge0_137, ge0_138, ge0_139, ge0_140, ge0_141, ge0_142, ge0_143, ge0_144, ge0_145, ge0_146, ge0_147, ge0_148, ge0_149, ge0_150, ge0_151, ge0_152, ge0_153, ge0_154, ge0_155, ge0_156, ge0_157, ge0_158, ge0_159, ge0_160, ge0_161, ge0_162, ge0_163, ge0_164, ge0_165, ge0_166, ge0_167, ge0_168, ge0_169, ge0_170, ge0_171, ge0_172, ge0_173, ge0_174, ge0_175, ge0_176, ge0_177, ge0_178, ge0_179, ge0_180, ge0_181, ge0_182, ge0_183, ge0_184, ge0_185, ge0_186, ge0_187, ge0_188, ge0_189, ge0_190, ge0_191, ge0_192, ge0_193, ge0_194, ge0_195, ge0_196, ge0_197, ge0_198, ge0_199, ge0_255, ge0_256, ge0_300, ge0_399, ge0_400, ge0_500, ge0_900, ge0_999, ge0_1000, ge0_1001, ge0_1024, ge0_2048, ge0_2176, ge0_3536, ge0_4095, ge0_4096, ge0_5580, ge0_11160, ge0_12345, ge0_1103, ge0_99999, ge0_1000000, ge0_1000003, ge0_100000000, ge0_1000000000, stM_C, stM_N, stM_R, hC.all, e, g, xin, hpL_stM, hR]
theorem mst_top {I : Nat → Nat × Nat} {env : Nat → Int64} {k : Nat} {st : List Int64} {y : Option (Nat × List Int64)} (h : (I k).1 ≤ 12) (hy : mst I env k st = some y) : ¬ (nI st.length < ([0, 0, 2, 2, 2, 2, 2, 2, 2, 2, 1, 1, 1, 1, 1, 1] : List Int32).getD (I k).1 0) := by
  have hl := mc_len hy
  have hl' : ¬ 64 ≤ st.length := by omega
  have n0 : ∀ n : Nat, n < 64 → ¬ nI n < 0 := by decide
  have n1 : ∀ n : Nat, n < 64 → 1 ≤ n → ¬ nI n < 1 := by decide
  have n2 : ∀ n : Nat, n < 64 → 2 ≤ n → ¬ nI n < 2 := by decide
  unfold mst at hy
  rw [if_neg hl'] at hy
  by_cases h0 : (I k).1 = 0
  · rw [h0]
    exact n0 _ hl
  · rw [if_neg h0] at hy
    by_cases h1 : (I k).1 = 1
    · rw [h1]
      exact n0 _ hl
    · rw [if_neg h1] at hy
      cases st with
      | nil => cases hy
      | cons x r =>
        by_cases g : 10 ≤ (I k).1
        · rcases (by omega : (I k).1 = 10 ∨ (I k).1 = 11 ∨ (I k).1 = 12) with q | q | q
          · rw [q]
            exact n1 _ hl (by simp)
          · rw [q]
            exact n1 _ hl (by simp)
          · rw [q]
            exact n1 _ hl (by simp)
        · cases r with
          | nil =>
            simp only [show ¬ (I k).1 = 10 by omega, show ¬ (I k).1 = 11 by omega, show ¬ (I k).1 = 12 by omega, if_false] at hy
            cases hy
          | cons z r =>
            rcases (by omega : (I k).1 = 2 ∨ (I k).1 = 3 ∨ (I k).1 = 4 ∨ (I k).1 = 5 ∨ (I k).1 = 6 ∨ (I k).1 = 7 ∨ (I k).1 = 8 ∨ (I k).1 = 9) with q | q | q | q | q | q | q | q
            all_goals (rw [q]; exact n2 _ hl (by simp))
theorem c_run {G : XH} (hC : CS G) {t cd rw lim n wa nw : Nat} (hX : TX G t cd rw lim n) (c w p q : Nat) (hc : c < n) (hw : w < 5) (hp : hpI G rw (6 * c + w) = nI p) (hq : hpI G rw (6 * c + w + 1) = nI q) (I : Nat → Nat × Nat) (hql : q ≤ lim) (hpq : p ≤ q) (hF : FW I q) (hI : ∀ k, k < q → CI (hpI G cd k) (I k) ∧ ((I k).1 = 1 → (I k).2 < nw) ∧ ((I k).1 = 11 ∨ (I k).1 = 12 → (I k).2 ≤ 400)) (hwa : hpC G wa = 20) (hnw : hpN G wa = nw) (hn4 : nw < 400) (h : Nat) (f : (Nat → Int64) → Option Int64) (hS : Sem I p q h f) (hh : h < 64) (env : Nat → Int64) (henv : ∀ w, w < nw → env w = (hpI G wa w).toInt64) : SP D_Machine_run [.ref 54, .ref t, .int (nI c), .int (nI w), .ref wa] G (fun r => r.1 = some (.int (match f env with
    | none => BRK
    | some v => v.toInt32)) ∧ Fr WK G r.2) := by
  have hrun := sem_run hS hh hF env
  have hX0 := hX
  obtain ⟨h1, h2, h3, h4, h5, h6, h7, h8, h9, h10, h11⟩ := hX
  have t1 := fun Q => c_told hX0 c w hc (by omega) Q
  have t2 := fun Q => c_told hX0 c (w + 1) hc (by omega) Q
  have ew : nI w + 1 = nI (w + 1) := nI_1 w
  rw [e_Machine_run]
  simp only [k_Machine_run_0, w_iadd, w_isub, w_imul, w_iand, w_ior, w_ixor, w_ishl, w_ishr, w_iushr, w_idiv, w_irem, w_ineg, w_ladd, w_lsub, w_lmul, w_ldiv, w_lrem, w_i2l, w_l2i, w_i2c, w_lcmp, w_dup_int, w_pop_int, w_dup_ref, w_pop_ref, w_dup_retAddr, w_pop_retAddr, w_dup2, w_I, w_L, w_Null, w_Ild, w_Lld, w_Ald, w_Ist, w_Lst, w_Ast, w_Iinc, w_if_eq, w_icmp_eq, w_if_ne, w_icmp_ne, w_if_lt, w_icmp_lt, w_if_ge, w_icmp_ge, w_if_gt, w_icmp_gt, w_if_le, w_icmp_le, w_GetI, w_GetL, w_GetR, w_PutI, w_PutZ, w_PutL, w_PutR, w_PutN, w_Iald, w_Zald, w_Lald, w_Aald, w_Iast, w_Zast, w_Last, w_AastR, w_AastN, w_Alen, w_New, w_NewA, w_Mna, w_Iret, w_Zret, w_Cret, w_Bret, w_Lret, w_AretR, w_AretN, w_Vret, w_Obj, w_IfNN, w_IfNR, w_Copy, w_Cln, w_Cast, w_SfA, w_SfI, w_SfQ, w_Str, w_ScLd, w_ScLen, w_CV0, w_CS0, w_CV1, w_CS1, w_CV2, w_CS2, w_CV3, w_CS3, w_CV4, w_CS4, w_CV5, w_CS5, List.getElem?_cons_zero, List.getElem?_cons_succ, List.set_cons_zero, List.set_cons_succ, List.length_cons, List.length_nil, List.map_cons, List.map_nil, List.sum_cons, List.sum_nil, List.nil_append, List.cons_append, Option.toList_some, Option.toList_none, Value.category, xok, va_rf, true_and, and_true, and_self, Nat.reduceAdd, Nat.reduceLT, Nat.reduceLeDiff, Nat.reduceEqDiff, Nat.reduceMul, beq_self_eq_true, decide_true, ite_true, ite_false, if_true, if_false, reduceIte, Bool.true_eq_false, Bool.false_eq_true, eq_self_iff_true, Nat.zero_le, not_true_eq_false, not_false_eq_true, forall_const, false_implies, implies_true, forall_false, h1, t1, t2, ew, hp, show 6 * c + (w + 1) = 6 * c + w + 1 from rfl, hq]
  unfold k_Machine_run_24
  refine w_loop (fun m A st' G' => st' = [] ∧ ∃ k st R j o9 o10 o11 o13, k ≤ 400 ∧ j ≤ k ∧ m = q - k ∧ A = [some (.ref 54), some (.ref t), some (.int (nI c)), some (.int (nI w)), some (.ref wa), some (.int (nI k)), some (.int (nI q)), some (.int (nI st.length)), some (.int (nI j)), o9, o10, o11, none, o13, none] ∧ G' = stM G 55 R ∧ RS R st ∧ mr I env q k st = mr I env q p []) ?_ NF (q - p) _ _ _ (by unfold NF; omega) ⟨rfl, p, [], hpL G 55, 0, none, none, none, none, by omega, by omega, rfl, rfl, ?_, trivial, rfl⟩
  · rintro m A st' G' K ⟨rfl, k, st, R, j, o9, o10, o11, o13, hk, hj, rfl, rfl, rfl, hR, hm⟩ ih
    have hC' : CS (stM G 55 R) := hC
    have hlr : mr I env q k st ≠ none := by
      rw [hm, hrun]
      cases f env <;> simp
    have hexit : q ≤ k → ∀ {o9 o10 o11 o13 : Option Value}, WP k_Machine_run_475 [some (.ref 54), some (.ref t), some (.int (nI c)), some (.int (nI w)), some (.ref wa), some (.int (nI k)), some (.int (nI q)), some (.int (nI st.length)), some (.int (nI j)), o9, o10, o11, none, o13, none] [] (stM G 55 R) (fun r => r.1 = some (.int (match f env with
        | none => BRK
        | some v => v.toInt32)) ∧ Fr WK G r.2) := by
      intro hqk o9 o10 o11 o13
      rw [mr_end hqk, hrun] at hm
      cases hf : f env with
      | none => rw [hf] at hm; simp at hm
      | some x =>
        rw [hf] at hm
        simp only [Option.some.injEq] at hm
        subst hm
        rw [show [x].length = 1 from rfl, mr_exit hC hR.1]
        exact ⟨rfl, Fr.refl.wM (fun _ => rfl)⟩
    simp only [f_Machine_run_24, w_iadd, w_isub, w_imul, w_iand, w_ior, w_ixor, w_ishl, w_ishr, w_iushr, w_idiv, w_irem, w_ineg, w_ladd, w_lsub, w_lmul, w_ldiv, w_lrem, w_i2l, w_l2i, w_i2c, w_lcmp, w_dup_int, w_pop_int, w_dup_ref, w_pop_ref, w_dup_retAddr, w_pop_retAddr, w_dup2, w_I, w_L, w_Null, w_Ild, w_Lld, w_Ald, w_Ist, w_Lst, w_Ast, w_Iinc, w_if_eq, w_icmp_eq, w_if_ne, w_icmp_ne, w_if_lt, w_icmp_lt, w_if_ge, w_icmp_ge, w_if_gt, w_icmp_gt, w_if_le, w_icmp_le, w_GetI, w_GetL, w_GetR, w_PutI, w_PutZ, w_PutL, w_PutR, w_PutN, w_Iald, w_Zald, w_Lald, w_Aald, w_Iast, w_Zast, w_Last, w_AastR, w_AastN, w_Alen, w_New, w_NewA, w_Mna, w_Iret, w_Zret, w_Cret, w_Bret, w_Lret, w_AretR, w_AretN, w_Vret, w_Obj, w_IfNN, w_IfNR, w_Copy, w_Cln, w_Cast, w_SfA, w_SfI, w_SfQ, w_Str, w_ScLd, w_ScLen, w_CV0, w_CS0, w_CV1, w_CS1, w_CV2, w_CS2, w_CV3, w_CS3, w_CV4, w_CS4, w_CV5, w_CS5, List.getElem?_cons_zero, List.getElem?_cons_succ, List.set_cons_zero, List.set_cons_succ, List.length_cons, List.length_nil, List.map_cons, List.map_nil, List.sum_cons, List.sum_nil, List.nil_append, List.cons_append, Option.toList_some, Option.toList_none, Value.category, xok, va_rf, true_and, and_true, and_self, Nat.reduceAdd, Nat.reduceLT, Nat.reduceLeDiff, Nat.reduceEqDiff, Nat.reduceMul, beq_self_eq_true, decide_true, ite_true, ite_false, if_true, if_false, reduceIte, Bool.true_eq_false, Bool.false_eq_true, eq_self_iff_true, Nat.zero_le, not_true_eq_false, not_false_eq_true, forall_const, false_implies, implies_true, forall_false, stM_C, stM_N, stM_R, stM_I, h1, h2, h4, h10, w_Iald66]
    refine ⟨fun g => hexit ?_, fun g => ⟨fun g2 => hexit ?_, fun g2 => ⟨fun g3 => hexit ?_, fun g3 => ?_⟩⟩⟩
    · have := (nI_leI (a := 400) (by decide) (by omega)).mp g
      omega
    · exact (nI_leI (by omega) (by omega)).mp g2
    · have := (nI_leI (by omega) (by omega)).mp g3
      omega
    · have hkq : k < q := by
        rcases Nat.lt_or_ge k q with z | z
        · exact z
        · exact absurd (nI_le z (by omega)) g2
      obtain ⟨⟨i1, i2, i3, i4⟩, i5, i6⟩ := hI k hkq
      have hlim := h6
      have hxk : xin (nI k) (hpN G cd) := xin_nI (by omega) (by omega)
      have ck : (nI k).toNatClampNeg = k := nI_clamp (by omega)
      have co : (nI (I k).1).toNatClampNeg = (I k).1 := nI_clamp (by omega)
      have e4 : (4 &&& 31 : Int32) = 4 := by decide
      have ek : nI k + Int32.ofInt 1 = nI (k + 1) := nI_1 k
      have hx16 : xin (nI (I k).1) 16 := xin_nI (by omega) (by decide)
      have eL : Int32.ofNat nw = nI nw := rfl
      cases hy : mst I env k st with
      | none => exact absurd (mr_stuck hkq hy) hlr
      | some y =>
        have hst := mc_len hy
        have htop := mst_top i3 hy
        have h64 : ¬ (64 : Int32) ≤ nI st.length := fun z => absurd ((nI_leI (a := 64) (by decide) (by omega)).mp z) (by omega)
        have h1w : nI (I k).1 = 1 → ¬ ¬ nI (I k).2 < nI nw := by
          intro z z2
          have := i5 ((nI_eq (b := 1) (by omega) (by decide)).mp z)
          exact absurd ((nI_leI (by omega) (by omega)).mp (Int32.not_lt.mp z2)) (by omega)
        have hmK : mK G (fun r => r.1 = some (.int (match f env with
            | none => BRK
            | some v => v.toInt32)) ∧ Fr WK G r.2) K (some (.ref 54)) (some (.ref t)) (some (.int (nI c))) (some (.int (nI w))) (some (.ref wa)) (nI q) (nI j) (some (.int (nI (I k).1))) (some (.int (nI (I k).2))) y := by
          refine ⟨fun hy0 R' => ?_, fun x hx R' x11 x13 hR' => ?_⟩
          · subst hy0
            rw [mr_no hkq hy, hrun] at hm
            cases hf : f env with
            | none => exact ⟨rfl, Fr.refl.wM (fun _ => rfl)⟩
            | some x => rw [hf] at hm; simp at hm
          · subst hx
            have hlt := mst_lt hF hkq hy
            simp only [k_Machine_run_469, w_iadd, w_isub, w_imul, w_iand, w_ior, w_ixor, w_ishl, w_ishr, w_iushr, w_idiv, w_irem, w_ineg, w_ladd, w_lsub, w_lmul, w_ldiv, w_lrem, w_i2l, w_l2i, w_i2c, w_lcmp, w_dup_int, w_pop_int, w_dup_ref, w_pop_ref, w_dup_retAddr, w_pop_retAddr, w_dup2, w_I, w_L, w_Null, w_Ild, w_Lld, w_Ald, w_Ist, w_Lst, w_Ast, w_Iinc, w_if_eq, w_icmp_eq, w_if_ne, w_icmp_ne, w_if_lt, w_icmp_lt, w_if_ge, w_icmp_ge, w_if_gt, w_icmp_gt, w_if_le, w_icmp_le, w_GetI, w_GetL, w_GetR, w_PutI, w_PutZ, w_PutL, w_PutR, w_PutN, w_Iald, w_Zald, w_Lald, w_Aald, w_Iast, w_Zast, w_Last, w_AastR, w_AastN, w_Alen, w_New, w_NewA, w_Mna, w_Iret, w_Zret, w_Cret, w_Bret, w_Lret, w_AretR, w_AretN, w_Vret, w_Obj, w_IfNN, w_IfNR, w_Copy, w_Cln, w_Cast, w_SfA, w_SfI, w_SfQ, w_Str, w_ScLd, w_ScLen, w_CV0, w_CS0, w_CV1, w_CS1, w_CV2, w_CS2, w_CV3, w_CS3, w_CV4, w_CS4, w_CV5, w_CS5, List.getElem?_cons_zero, List.getElem?_cons_succ, List.set_cons_zero, List.set_cons_succ, List.length_cons, List.length_nil, List.map_cons, List.map_nil, List.sum_cons, List.sum_nil, List.nil_append, List.cons_append, Option.toList_some, Option.toList_none, Value.category, xok, va_rf, true_and, and_true, and_self, Nat.reduceAdd, Nat.reduceLT, Nat.reduceLeDiff, Nat.reduceEqDiff, Nat.reduceMul, beq_self_eq_true, decide_true, ite_true, ite_false, if_true, if_false, reduceIte, Bool.true_eq_false, Bool.false_eq_true, eq_self_iff_true, Nat.zero_le, not_true_eq_false, not_false_eq_true, forall_const, false_implies, implies_true, forall_false]
            refine ih (q - x.1) _ _ _ (by omega) ⟨rfl, x.1, x.2, R', j + 1, some (.int (nI (I k).1)), some (.int (nI (I k).2)), x11, x13, ?_, by omega, rfl, ?_, rfl, hR', ?_⟩
            · exact mst_P (P := fun n => n ≤ 400) (by omega) i6 hy
            · rw [show nI j + Int32.ofInt 1 = nI (j + 1) from nI_1 j]
            · rw [← mr_so hF hkq hy, hm]
        have hfin : ∀ {x11 x13 : Option Value}, WP (k_Machine_run_109 K) [some (.ref 54), some (.ref t), some (.int (nI c)), some (.int (nI w)), some (.ref wa), some (.int (nI (k + 1))), some (.int (nI q)), some (.int (nI st.length)), some (.int (nI j)), some (.int (nI (I k).1)), some (.int (nI (I k).2)), x11, none, x13, none] [] (stM G 55 R) (fun r => r.1 = some (.int (match f env with
            | none => BRK
            | some v => v.toInt32)) ∧ Fr WK G r.2) := by
          intro x11 x13
          rcases (by omega : ((I k).1 = 0 ∨ (I k).1 = 1) ∨ (2 ≤ (I k).1 ∧ (I k).1 ≤ 9) ∨ (I k).1 = 10 ∨ (I k).1 = 11 ∨ (I k).1 = 12) with z | ⟨z1, z2⟩ | z | z | z
          · exact mc_leaf hC z hwa hnw (by omega) i5 (by omega) henv hR hy hmK
          · exact mc_bin hC z1 z2 hR hy hmK
          · exact mc_not hC z hR hy hmK
          · exact mc_orr hC z hR hy hmK
          · exact mc_and hC z hR hy hmK
        simp only [ck, e4, ek, i1, i2, eq_true hxk, eq_true hx16, co, h64, htop, hwa, hnw, eL, List.getElem?_cons_zero, List.getElem?_cons_succ, List.set_cons_zero, List.set_cons_succ, List.length_cons, List.length_nil, List.map_cons, List.map_nil, List.sum_cons, List.sum_nil, List.nil_append, List.cons_append, Option.toList_some, Option.toList_none, Value.category, xok, va_rf, true_and, and_true, and_self, Nat.reduceAdd, Nat.reduceLT, Nat.reduceLeDiff, Nat.reduceEqDiff, Nat.reduceMul, beq_self_eq_true, decide_true, ite_true, ite_false, if_true, if_false, reduceIte, Bool.true_eq_false, Bool.false_eq_true, eq_self_iff_true, Nat.zero_le, not_true_eq_false, not_false_eq_true, forall_const, false_implies, implies_true, forall_false, ne10, ne10L, ne01, ne01L, tt_imp, nt_imp, ff_imp, nf_imp, true_and, and_true, true_or, or_true, reduceIte]
        exact ⟨fun z => ⟨fun _ => hfin, fun z2 => absurd z2 (h1w z)⟩, fun _ => hfin⟩
  · rw [stM_same]
