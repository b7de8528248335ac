theorem stM_same {G : XH} {a : Nat} : stM G a (hpL G a) = G := by
  unfold stM
  have : up1 G.2.2.2.1 a (hpL G a) = G.2.2.2.1 := by
    funext x
    unfold up1
    split
    · next h => rw [h]
    · rfl
  rw [this]
theorem mst_P {I : Nat → Nat × Nat} {env : Nat → Int64} {k : Nat} {x : Nat × List Int64} {st : List Int64} {P : Nat → Prop} (h1 : P (k + 1)) (h2 : (I k).1 = 11 ∨ (I k).1 = 12 → P (I k).2) (h : mst I env k st = some (some x)) : P x.1 := by
  unfold mst at h
  split at h
  · cases h
  · split at h
    · injection h with h; injection h with h; subst h; exact h1
    · split at h
      · injection h with h; injection h with h; subst h; exact h1
      · split at h
        · cases h
        · split at h
          · injection h with h; injection h with h; subst h; exact h1
          · split at h
            · rename_i g
              have := h2 (Or.inl g)
              split at h
              · injection h with h; injection h with h; subst h; exact this
              · injection h with h; injection h with h; subst h; exact h1
            · split at h
              · rename_i g
                have := h2 (Or.inr g)
                split at h
                · injection h with h; injection h with h; subst h; exact this
                · injection h with h; injection h with h; subst h; exact h1
              · split at h
                · cases h
                · split at h
                  · injection h with h; cases h
                  · injection h with h; injection h with h; subst h; exact h1
theorem ra_step {G : XH} (hM : MS G) (Q : XR → Prop) (od : Bool) (ho : hpI G 70 20 = if od then 1 else 0) (I : Nat → Nat × Nat) (k : Nat) (hk : k < 400) (p q op arg : Int32) (o6 : Option Value) (hI : MI od op arg (I k)) (st : List Int64) (R : Nat → Int64) (hR : RS R st) (K : XK) (y : Option (Nat × List Int64)) (hy : mst I (menv od G) k st = some y)
    (h0 : y = none → ∀ (R' : Nat → Int64) (n' : Nat), WP K [some (.ref 70), some (.int p), some (.int q), some (.int (nI n')), some (.int (nI (k + 1))), some (.int op), some (.int arg)] [] (evG R' 1 G) Q)
    (h1 : ∀ x, y = some x → ∀ (R' : Nat → Int64), RS R' x.2 → WP K [some (.ref 70), some (.int p), some (.int q), some (.int (nI x.2.length)), some (.int (nI x.1)), some (.int op), some (.int arg)] [] (evG R' 0 G) Q) :
    WP (k_Mdl_reckonAll_95 K) [some (.ref 70), some (.int p), some (.int q), some (.int (nI st.length)), some (.int (nI k)), some (.int op), o6] [.int arg] (evG R 0 G) Q := by
  rcases hI with ⟨i1, i2, i3, i4⟩ | ⟨w, i1, i2, i3⟩ | ⟨d, r, i1, i2, i3, i4⟩ | ⟨d, r, i1, i2, i3, i4⟩ | ⟨i1, i2, i3⟩ | ⟨i1, i2⟩ | ⟨i1, i2, i3, i4⟩ | ⟨i1, i2, i3, i4⟩
  · exact ra_num hM Q od ho I k hk p q op arg o6 i1 i2 i3 i4 st R hR K y hy h0 h1
  · exact ra_word hM Q od ho I k hk p q op arg o6 w i1 i2 i3 st R hR K y hy h0 h1
  · exact ra_tired hM Q od ho I k hk p q op arg o6 d r i1 i2 i3 i4 st R hR K y hy h0 h1
  · exact ra_owed hM Q od ho I k hk p q op arg o6 d r i1 i2 i3 i4 st R hR K y hy h0 h1
  · exact ra_bin hM Q od ho I k hk p q op arg o6 i1 i2 i3 st R hR K y hy h0 h1
  · exact ra_not hM Q od ho I k hk p q op arg o6 i1 i2 st R hR K y hy h0 h1
  · exact ra_and hM Q od ho I k hk p q op arg o6 i1 i2 i3 st R hR K y hy h0 h1
  · exact ra_or hM Q od ho I k hk p q op arg o6 i1 i2 i3 st R hR K y hy h0 h1
/-- the model's code: its op and its arg -/
def mcO (od : Bool) (lw : Nat) (G : XH) (k : Nat) : Int32 := if od then hpI G 81 k else hpI G 72 (lw + 98 + 2 * k)
def mcA (od : Bool) (lw : Nat) (G : XH) (k : Nat) : Int32 := if od then hpI G 82 k else hpI G 72 (lw + 98 + 2 * k + 1)
/-- what stands behind a reckoning -/
def raQ (od : Bool) (G : XH) (f : (Nat → Int64) → Option Int64) (r : XR) : Prop := r.1 = none ∧ ∃ R b v, r.2 = stL (evG R b G) 70 39 v ∧ match f (menv od G) with
  | none => b = 1
  | some x => b = 0 ∧ v = x
theorem ra_exit {G : XH} (hM : MS G) {od : Bool} {f : (Nat → Int64) → Option Int64} {a1 a2 a4 : Int32} {n : Nat} {o5 o6 : Option Value} {R : Nat → Int64} {b : Int32} (h : match f (menv od G) with
  | none => b = 1
  | some x => b = 0 ∧ n = 1 ∧ R 0 = x) : WP k_Mdl_reckonAll_340 [some (.ref 70), some (.int a1), some (.int a2), some (.int (nI n)), some (.int a4), o5, o6] [] (evG R b G) (raQ od G f) := by
  have hM' : MS (evG R b G) := hM
  simp only [k_Mdl_reckonAll_340, k_Mdl_reckonAll_355, w_iadd, w_isub, w_imul, w_iand, w_ior, w_ixor, w_ishl, w_ishr, w_iushr, w_idiv, w_irem, w_ineg, w_ladd, w_lsub, w_lmul, w_ldiv, w_lrem, w_i2l, w_l2i, w_i2c, w_lcmp, w_dup_int, w_pop_int, w_dup_ref, w_pop_ref, w_dup_retAddr, w_pop_retAddr, w_dup2, w_I, w_L, w_Null, w_Ild, w_Lld, w_Ald, w_Ist, w_Lst, w_Ast, w_Iinc, w_if_eq, w_icmp_eq, w_if_ne, w_icmp_ne, w_if_lt, w_icmp_lt, w_if_ge, w_icmp_ge, w_if_gt, w_icmp_gt, w_if_le, w_icmp_le, w_GetI, w_GetL, w_GetR, w_PutI, w_PutZ, w_PutL, w_PutR, w_PutN, w_Iald, w_Zald, w_Lald, w_Aald, w_Iast, w_Zast, w_Last, w_AastR, w_AastN, w_Alen, w_New, w_NewA, w_Mna, w_Iret, w_Zret, w_Cret, w_Bret, w_Lret, w_AretR, w_AretN, w_Vret, w_Obj, w_IfNN, w_IfNR, w_Copy, w_Cln, w_Cast, w_SfA, w_SfI, w_SfQ, w_Str, w_ScLd, w_ScLen, w_CV0, w_CS0, w_CV1, w_CS1, w_CV2, w_CS2, w_CV3, w_CS3, w_CV4, w_CS4, w_CV5, w_CS5, List.getElem?_cons_zero, List.getElem?_cons_succ, List.set_cons_zero, List.set_cons_succ, List.length_cons, List.length_nil, List.map_cons, List.map_nil, List.sum_cons, List.sum_nil, List.nil_append, List.cons_append, Option.toList_some, Option.toList_none, Value.category, xok, va_rf, true_and, and_true, and_self, Nat.reduceAdd, Nat.reduceLT, Nat.reduceLeDiff, Nat.reduceEqDiff, Nat.reduceMul, beq_self_eq_true, decide_true, ite_true, ite_false, if_true, if_false, reduceIte, Bool.true_eq_false, Bool.false_eq_true, eq_self_iff_true, Nat.zero_le, not_true_eq_false, not_false_eq_true, forall_const, false_implies, implies_true, forall_false, stI_C, stI_N, stI_Z, stI_S, stI_L, stI_R, stL_C, stL_N, stL_Z, stL_S, stL_I, stL_R, stR_C, stR_N, stR_Z, stR_S, stR_I, stR_L, stA_C, stA_N, stA_Z, stA_S, stA_L, stA_R, stI_I, stL_L, stR_R, stA_I, stN_C, stN_N, stN_Z, stN_S, stN_I, stN_L, stN_R, stI_ne, stL_ne, stR_ne, tn_0, tn_1, tn_2, tn_3, tn_4, tn_5, tn_6, tn_7, tn_8, tn_9, tn_10, tn_11, tn_12, tn_13, tn_14, tn_15, tn_16, tn_17, tn_18, tn_19, tn_20, tn_21, tn_22, tn_23, tn_24, tn_25, tn_26, tn_27, tn_28, tn_29, tn_30, tn_31, tn_32, tn_33, tn_34, tn_35, tn_36, tn_37, tn_38, tn_39, tn_40, tn_41, tn_42, tn_43, tn_44, tn_45, tn_46, tn_47, tn_48, tn_49, tn_50, tn_51, tn_52, tn_53, tn_54, tn_55, tn_56, tn_57, tn_58, tn_59, tn_60, tn_61, tn_62, tn_63, tn_64, tn_65, tn_66, tn_67, tn_68, tn_69, tn_70, tn_71, tn_72, tn_73, tn_74, tn_75, tn_76, tn_77, tn_78, tn_79, tn_80, tn_81, tn_82, tn_83, tn_84, tn_85, tn_86, tn_87, tn_88, tn_89, tn_90, tn_91, tn_92, tn_93, tn_94, tn_95, tn_96, tn_97, tn_98, tn_99, tn_100, tn_101, tn_102, tn_103, tn_104, tn_105, tn_106, tn_107, tn_108, tn_109, tn_110, tn_111, tn_112, tn_113, tn_114, tn_115, tn_116, tn_117, tn_118, tn_119, tn_120, tn_121, tn_122, tn_123, tn_124, tn_125, tn_126, tn_127, tn_128, tn_129, tn_130, tn_131, tn_132, tn_133, tn_134, tn_135, tn_136, tn_137, tn_138, tn_139, tn_140, tn_141, tn_142, tn_143, tn_144, tn_145, tn_146, tn_147, tn_148, tn_149, tn_150, tn_151, tn_152, tn_153, tn_154, tn_155, tn_156, tn_157, tn_158, tn_159, tn_160, tn_161, tn_162, tn_163, tn_164, tn_165, tn_166, tn_167, tn_168, tn_169, tn_170, tn_171, tn_172, tn_173, tn_174, tn_175, tn_176, tn_177, tn_178, tn_179, tn_180, tn_181, tn_182, tn_183, tn_184, tn_185, tn_186, tn_187, tn_188, tn_189, tn_190, tn_191, tn_192, tn_193, tn_194, tn_195, tn_196, tn_197, tn_198, tn_199, tn_255, tn_256, tn_300, tn_399, tn_400, tn_500, tn_900, tn_999, tn_1000, tn_1001, tn_1024, tn_2048, tn_2176, tn_3536, tn_4095, tn_4096, tn_5580, tn_11160, tn_12345, tn_1103, tn_99999, tn_1000000, tn_1000003, tn_100000000, tn_1000000000, ge0_0, ge0_1, ge0_2, ge0_3, ge0_4, ge0_5, ge0_6, ge0_7, ge0_8, ge0_9, ge0_10, ge0_11, ge0_12, ge0_13, ge0_14, ge0_15, ge0_16, ge0_17, ge0_18, ge0_19, ge0_20, ge0_21, ge0_22, ge0_23, ge0_24, ge0_25, ge0_26, ge0_27, ge0_28, ge0_29, ge0_30, ge0_31, ge0_32, ge0_33, ge0_34, ge0_35, ge0_36, ge0_37, ge0_38, ge0_39, ge0_40, ge0_41, ge0_42, ge0_43, ge0_44, ge0_45, ge0_46, ge0_47, ge0_48, ge0_49, ge0_50, ge0_51, ge0_52, ge0_53, ge0_54, ge0_55, ge0_56, ge0_57, ge0_58, ge0_59, ge0_60, ge0_61, ge0_62, ge0_63, ge0_64, ge0_65, ge0_66, ge0_67, ge0_68, ge0_69, ge0_70, ge0_71, ge0_72, ge0_73, ge0_74, ge0_75, ge0_76, ge0_77, ge0_78, ge0_79, ge0_80, ge0_81, ge0_82, ge0_83, ge0_84, ge0_85, ge0_86, ge0_87, ge0_88, ge0_89, ge0_90, ge0_91, ge0_92, ge0_93, ge0_94, ge0_95, ge0_96, ge0_97, ge0_98, ge0_99, ge0_100, ge0_101, ge0_102, ge0_103, ge0_104, ge0_105, ge0_106, ge0_107, ge0_108, ge0_109, ge0_110, ge0_111, ge0_112, ge0_113, ge0_114, ge0_115, ge0_116, ge0_117, ge0_118, ge0_119, ge0_120, ge0_121, ge0_122, ge0_123, ge0_124, ge0_125, ge0_126, ge0_127, ge0_128, ge0_129, ge0_130, ge0_131, ge0_132, ge0_133, ge0_134, ge0_135, ge0_136, ge0_137, ge0_138, ge0_139, ge0_140, ge0_141, ge0_142, ge0_143, ge0_144, ge0_145, ge0_146, ge0_147, ge0_148, ge0_149, ge0_150, ge0_151, ge0_152, ge0_153, ge0_154, ge0_155, ge0_156, ge0_157, ge0_158, ge0_159, ge0_160, ge0_161, ge0_162, ge0_163, ge0_164, ge0_165, ge0_166, ge0_167, ge0_168, ge0_169, ge0_170, ge0_171, ge0_172, ge0_173, ge0_174, ge0_175, ge0_176, ge0_177, ge0_178, ge0_179, ge0_180, ge0_181, ge0_182, ge0_183, ge0_184, ge0_185, ge0_186, ge0_187, ge0_188, ge0_189, ge0_190, ge0_191, ge0_192, ge0_193, ge0_194, ge0_195, ge0_196, ge0_197, ge0_198, ge0_199, ge0_255, ge0_256, ge0_300, ge0_399, ge0_400, ge0_500, ge0_900, ge0_999, ge0_1000, ge0_1001, ge0_1024, ge0_2048, ge0_2176, ge0_3536, ge0_4095, ge0_4096, ge0_5580, ge0_11160, ge0_12345, ge0_1103, ge0_99999, ge0_1000000, ge0_1000003, ge0_100000000, ge0_1000000000, hM'.all, xin, ev_R]
  refine ⟨fun hc => ⟨rfl, R, b, _, rfl, ?_⟩, fun hc => ⟨rfl, R, b, _, rfl, ?_⟩⟩
  · cases hf : f (menv od G) with
    | none => rw [hf] at h; exact h
    | some x =>
      rw [hf] at h
      obtain ⟨-, h2, -⟩ := h
      subst h2
      exact absurd hc (by decide)
  · cases hf : f (menv od G) with
    | none => rw [hf] at h; exact h
    | some x =>
      rw [hf] at h
      exact ⟨h.1, h.2.2⟩
theorem s_reckonAll {G : XH} (hM : MS G) (od : Bool) (ho : hpI G 70 20 = if od then 1 else 0) (lw : Nat) (hlw : od = false → hpI G 70 34 = nI lw ∧ lw ≤ 4680) (I : Nat → Nat × Nat) (p q h : Nat) (hq : q ≤ 400) (hpq : p ≤ q) (hF : FW I q) (hI : ∀ k, k < q → MI od (mcO od lw G k) (mcA od lw G k) (I k)) (f : (Nat → Int64) → Option Int64) (hS : Sem I p q h f) (hh : h < 64) : SP D_Mdl_reckonAll [.ref 70, .int (nI p), .int (nI q)] G (raQ od G f) := by
  have hrun := sem_run hS hh hF (menv od G)
  rw [e_Mdl_reckonAll]
  simp only [k_Mdl_reckonAll_0, w_iadd, w_isub, w_imul, w_iand, w_ior, w_ixor, w_ishl, w_ishr, w_iushr, w_idiv, w_irem, w_ineg, w_ladd, w_lsub, w_lmul, w_ldiv, w_lrem, w_i2l, w_l2i, w_i2c, w_lcmp, w_dup_int, w_pop_int, w_dup_ref, w_pop_ref, w_dup_retAddr, w_pop_retAddr, w_dup2, w_I, w_L, w_Null, w_Ild, w_Lld, w_Ald, w_Ist, w_Lst, w_Ast, w_Iinc, w_if_eq, w_icmp_eq, w_if_ne, w_icmp_ne, w_if_lt, w_icmp_lt, w_if_ge, w_icmp_ge, w_if_gt, w_icmp_gt, w_if_le, w_icmp_le, w_GetI, w_GetL, w_GetR, w_PutI, w_PutZ, w_PutL, w_PutR, w_PutN, w_Iald, w_Zald, w_Lald, w_Aald, w_Iast, w_Zast, w_Last, w_AastR, w_AastN, w_Alen, w_New, w_NewA, w_Mna, w_Iret, w_Zret, w_Cret, w_Bret, w_Lret, w_AretR, w_AretN, w_Vret, w_Obj, w_IfNN, w_IfNR, w_Copy, w_Cln, w_Cast, w_SfA, w_SfI, w_SfQ, w_Str, w_ScLd, w_ScLen, w_CV0, w_CS0, w_CV1, w_CS1, w_CV2, w_CS2, w_CV3, w_CS3, w_CV4, w_CS4, w_CV5, w_CS5, List.getElem?_cons_zero, List.getElem?_cons_succ, List.set_cons_zero, List.set_cons_succ, List.length_cons, List.length_nil, List.map_cons, List.map_nil, List.sum_cons, List.sum_nil, List.nil_append, List.cons_append, Option.toList_some, Option.toList_none, Value.category, xok, va_rf, true_and, and_true, and_self, Nat.reduceAdd, Nat.reduceLT, Nat.reduceLeDiff, Nat.reduceEqDiff, Nat.reduceMul, beq_self_eq_true, decide_true, ite_true, ite_false, if_true, if_false, reduceIte, Bool.true_eq_false, Bool.false_eq_true, eq_self_iff_true, Nat.zero_le, not_true_eq_false, not_false_eq_true, forall_const, false_implies, implies_true, forall_false, stI_C, stI_N, stI_Z, stI_S, stI_L, stI_R, stL_C, stL_N, stL_Z, stL_S, stL_I, stL_R, stR_C, stR_N, stR_Z, stR_S, stR_I, stR_L, stA_C, stA_N, stA_Z, stA_S, stA_L, stA_R, stI_I, stL_L, stR_R, stA_I, stN_C, stN_N, stN_Z, stN_S, stN_I, stN_L, stN_R, stI_ne, stL_ne, stR_ne, hM.all]
  refine ⟨Or.inl trivial, ?_⟩
  unfold k_Mdl_reckonAll_10
  refine w_loop (fun m A st' G' => st' = [] ∧ ((∃ k st R o5 o6, k ≤ 400 ∧ m = q - k + 1 ∧ A = [some (.ref 70), some (.int (nI p)), some (.int (nI q)), some (.int (nI st.length)), some (.int (nI k)), o5, o6] ∧ G' = evG R 0 G ∧ RS R st ∧ mr I (menv od G) q k st = mr I (menv od G) q p []) ∨ (∃ a4 n R o5 o6, m = 0 ∧ A = [some (.ref 70), some (.int (nI p)), some (.int (nI q)), some (.int (nI n)), some (.int a4), o5, o6] ∧ G' = evG R 1 G ∧ f (menv od G) = none))) ?_ NF (q - p + 1) _ _ _ (by unfold NF; omega) ⟨rfl, Or.inl ⟨p, [], hpL G 90, none, none, by omega, rfl, rfl, ?_, trivial, rfl⟩⟩
  · rintro m A st' G' K ⟨rfl, ⟨k, st, R, o5, o6, hk, rfl, rfl, rfl, hR, hm⟩ | ⟨a4, n, R, o5, o6, rfl, rfl, rfl, hf⟩⟩ ih
    · have hM' : MS (evG R 0 G) := hM
      have hlr : mr I (menv od G) q k st ≠ none := by
        rw [hm, hrun]
        cases f (menv od G) <;> simp
      simp only [f_Mdl_reckonAll_10, w_iadd, w_isub, w_imul, w_iand, w_ior, w_ixor, w_ishl, w_ishr, w_iushr, w_idiv, w_irem, w_ineg, w_ladd, w_lsub, w_lmul, w_ldiv, w_lrem, w_i2l, w_l2i, w_i2c, w_lcmp, w_dup_int, w_pop_int, w_dup_ref, w_pop_ref, w_dup_retAddr, w_pop_retAddr, w_dup2, w_I, w_L, w_Null, w_Ild, w_Lld, w_Ald, w_Ist, w_Lst, w_Ast, w_Iinc, w_if_eq, w_icmp_eq, w_if_ne, w_icmp_ne, w_if_lt, w_icmp_lt, w_if_ge, w_icmp_ge, w_if_gt, w_icmp_gt, w_if_le, w_icmp_le, w_GetI, w_GetL, w_GetR, w_PutI, w_PutZ, w_PutL, w_PutR, w_PutN, w_Iald, w_Zald, w_Lald, w_Aald, w_Iast, w_Zast, w_Last, w_AastR, w_AastN, w_Alen, w_New, w_NewA, w_Mna, w_Iret, w_Zret, w_Cret, w_Bret, w_Lret, w_AretR, w_AretN, w_Vret, w_Obj, w_IfNN, w_IfNR, w_Copy, w_Cln, w_Cast, w_SfA, w_SfI, w_SfQ, w_Str, w_ScLd, w_ScLen, w_CV0, w_CS0, w_CV1, w_CS1, w_CV2, w_CS2, w_CV3, w_CS3, w_CV4, w_CS4, w_CV5, w_CS5, List.getElem?_cons_zero, List.getElem?_cons_succ, List.set_cons_zero, List.set_cons_succ, List.length_cons, List.length_nil, List.map_cons, List.map_nil, List.sum_cons, List.sum_nil, List.nil_append, List.cons_append, Option.toList_some, Option.toList_none, Value.category, xok, va_rf, true_and, and_true, and_self, Nat.reduceAdd, Nat.reduceLT, Nat.reduceLeDiff, Nat.reduceEqDiff, Nat.reduceMul, beq_self_eq_true, decide_true, ite_true, ite_false, if_true, if_false, reduceIte, Bool.true_eq_false, Bool.false_eq_true, eq_self_iff_true, Nat.zero_le, not_true_eq_false, not_false_eq_true, forall_const, false_implies, implies_true, forall_false, hM'.all, ev_b]
      refine ⟨fun hc => ?_, fun hc => ?_⟩
      · have hqk : q ≤ k := (nI_leI (by omega) (by omega)).mp hc
        rw [mr_end hqk, hrun] at hm
        refine ra_exit hM ?_
        cases hf : f (menv od G) with
        | none => rw [hf] at hm; simp at hm
        | some x =>
          rw [hf] at hm
          simp only [Option.some.injEq] at hm
          subst hm
          exact ⟨rfl, rfl, hR.1⟩
      · have hkq : k < q := by
          rcases Nat.lt_or_ge k q with g | g
          · exact g
          · exact absurd (nI_le g (by omega)) hc
        cases hy : mst I (menv od G) k st with
        | none => exact absurd (mr_stuck hkq hy) hlr
        | some y =>
          have hIk := hI k hkq
          have hst2 : st.length < 64 := by
            rcases Nat.lt_or_ge st.length 64 with g | g
            · exact g
            · unfold mst at hy
              rw [if_pos g] at hy
              cases hy
          have hfin : ∀ op arg o6', op = mcO od lw G k → arg = mcA od lw G k → WP (k_Mdl_reckonAll_95 K) [some (.ref 70), some (.int (nI p)), some (.int (nI q)), some (.int (nI st.length)), some (.int (nI k)), some (.int op), o6'] [.int arg] (evG R 0 G) (raQ od G f) := by
            intro op arg o6' e1 e2
            subst e1 e2
            refine ra_step hM _ od ho I k (by omega) _ _ _ _ _ hIk st R hR K y hy (fun hy0 R' n' => ?_) (fun x hx R' hR' => ?_)
            · subst hy0
              have hn0 : f (menv od G) = none := by
                rw [mr_no hkq hy, hrun] at hm
                cases hf : f (menv od G) with
                | none => rfl
                | some x => rw [hf] at hm; simp at hm
              exact ih 0 _ _ _ (by omega) ⟨rfl, Or.inr ⟨_, n', R', _, _, rfl, rfl, rfl, hn0⟩⟩
            · subst hx
              have hlt := mst_lt hF hkq hy
              refine ih (q - x.1 + 1) _ _ _ (by omega) ⟨rfl, Or.inl ⟨x.1, x.2, R', _, _, ?_, rfl, rfl, rfl, hR', ?_⟩⟩
              · refine mst_P (P := fun n => n ≤ 400) (by omega) (fun g => ?_) hy
                rcases hIk with ⟨i1, i2, i3, i4⟩ | ⟨w, i1, i2, i3⟩ | ⟨d, r, i1, i2, i3, i4⟩ | ⟨d, r, i1, i2, i3, i4⟩ | ⟨i1, i2, i3⟩ | ⟨i1, i2⟩ | ⟨i1, i2, i3, i4⟩ | ⟨i1, i2, i3, i4⟩
                · omega
                · rw [i3] at g; simp at g
                · rw [i4] at g; simp at g
                · rw [i4] at g; simp at g
                · omega
                · omega
                · exact i4
                · exact i4
              · rw [← mr_so hF hkq hy, hm]
          have hxk := xin_nI (n := k) (m := 400) (by omega) (by decide)
          have hck : (nI k).toNatClampNeg = k := nI_clamp (by omega)
          cases od with
          | true =>
            have ho' : hpI (evG R 0 G) 70 20 = 1 := by rw [ev_m (by decide)]; exact ho
            simp only [k_Mdl_reckonAll_57, w_iadd, w_isub, w_imul, w_iand, w_ior, w_ixor, w_ishl, w_ishr, w_iushr, w_idiv, w_irem, w_ineg, w_ladd, w_lsub, w_lmul, w_ldiv, w_lrem, w_i2l, w_l2i, w_i2c, w_lcmp, w_dup_int, w_pop_int, w_dup_ref, w_pop_ref, w_dup_retAddr, w_pop_retAddr, w_dup2, w_I, w_L, w_Null, w_Ild, w_Lld, w_Ald, w_Ist, w_Lst, w_Ast, w_Iinc, w_if_eq, w_icmp_eq, w_if_ne, w_icmp_ne, w_if_lt, w_icmp_lt, w_if_ge, w_icmp_ge, w_if_gt, w_icmp_gt, w_if_le, w_icmp_le, w_GetI, w_GetL, w_GetR, w_PutI, w_PutZ, w_PutL, w_PutR, w_PutN, w_Iald, w_Zald, w_Lald, w_Aald, w_Iast, w_Zast, w_Last, w_AastR, w_AastN, w_Alen, w_New, w_NewA, w_Mna, w_Iret, w_Zret, w_Cret, w_Bret, w_Lret, w_AretR, w_AretN, w_Vret, w_Obj, w_IfNN, w_IfNR, w_Copy, w_Cln, w_Cast, w_SfA, w_SfI, w_SfQ, w_Str, w_ScLd, w_ScLen, w_CV0, w_CS0, w_CV1, w_CS1, w_CV2, w_CS2, w_CV3, w_CS3, w_CV4, w_CS4, w_CV5, w_CS5, List.getElem?_cons_zero, List.getElem?_cons_succ, List.set_cons_zero, List.set_cons_succ, List.length_cons, List.length_nil, List.map_cons, List.map_nil, List.sum_cons, List.sum_nil, List.nil_append, List.cons_append, Option.toList_some, Option.toList_none, Value.category, xok, va_rf, true_and, and_true, and_self, Nat.reduceAdd, Nat.reduceLT, Nat.reduceLeDiff, Nat.reduceEqDiff, Nat.reduceMul, beq_self_eq_true, decide_true, ite_true, ite_false, if_true, if_false, reduceIte, Bool.true_eq_false, Bool.false_eq_true, eq_self_iff_true, Nat.zero_le, not_true_eq_false, not_false_eq_true, forall_const, false_implies, implies_true, forall_false, hM'.all, ho', ev_I (show ¬ 81 = 70 by decide), ev_I (show ¬ 82 = 70 by decide), hck, hxk, show ¬ (1 : Int32) = 0 by decide]
            exact ⟨hxk, hxk, hfin _ _ _ rfl rfl⟩
          | false =>
            obtain ⟨hl1, hl2⟩ := hlw rfl
            have ho' : hpI (evG R 0 G) 70 20 = 0 := by rw [ev_m (by decide)]; exact ho
            have hl' : hpI (evG R 0 G) 70 34 = nI lw := by rw [ev_m (by decide)]; exact hl1
            have e1 : nI lw + 98 + 2 * nI k = nI (lw + 98 + 2 * k) := by
              rw [show (98 : Int32) = nI 98 from rfl, show (2 : Int32) = nI 2 from rfl, nI_mul, nI_add, nI_add]
            have e2 : nI (lw + 98 + 2 * k) + 1 = nI (lw + 98 + 2 * k + 1) := nI_1 _
            have hx1 := xin_nI (n := lw + 98 + 2 * k) (m := 5580) (by omega) (by decide)
            have hx2 := xin_nI (n := lw + 98 + 2 * k + 1) (m := 5580) (by omega) (by decide)
            have hc1 : (nI (lw + 98 + 2 * k)).toNatClampNeg = lw + 98 + 2 * k := nI_clamp (by omega)
            have hc2 : (nI (lw + 98 + 2 * k + 1)).toNatClampNeg = lw + 98 + 2 * k + 1 := nI_clamp (by omega)
            simp only [k_Mdl_reckonAll_57, w_iadd, w_isub, w_imul, w_iand, w_ior, w_ixor, w_ishl, w_ishr, w_iushr, w_idiv, w_irem, w_ineg, w_ladd, w_lsub, w_lmul, w_ldiv, w_lrem, w_i2l, w_l2i, w_i2c, w_lcmp, w_dup_int, w_pop_int, w_dup_ref, w_pop_ref, w_dup_retAddr, w_pop_retAddr, w_dup2, w_I, w_L, w_Null, w_Ild, w_Lld, w_Ald, w_Ist, w_Lst, w_Ast, w_Iinc, w_if_eq, w_icmp_eq, w_if_ne, w_icmp_ne, w_if_lt, w_icmp_lt, w_if_ge, w_icmp_ge, w_if_gt, w_icmp_gt, w_if_le, w_icmp_le, w_GetI, w_GetL, w_GetR, w_PutI, w_PutZ, w_PutL, w_PutR, w_PutN, w_Iald, w_Zald, w_Lald, w_Aald, w_Iast, w_Zast, w_Last, w_AastR, w_AastN, w_Alen, w_New, w_NewA, w_Mna, w_Iret, w_Zret, w_Cret, w_Bret, w_Lret, w_AretR, w_AretN, w_Vret, w_Obj, w_IfNN, w_IfNR, w_Copy, w_Cln, w_Cast, w_SfA, w_SfI, w_SfQ, w_Str, w_ScLd, w_ScLen, w_CV0, w_CS0, w_CV1, w_CS1, w_CV2, w_CS2, w_CV3, w_CS3, w_CV4, w_CS4, w_CV5, w_CS5, List.getElem?_cons_zero, List.getElem?_cons_succ, List.set_cons_zero, List.set_cons_succ, List.length_cons, List.length_nil, List.map_cons, List.map_nil, List.sum_cons, List.sum_nil, List.nil_append, List.cons_append, Option.toList_some, Option.toList_none, Value.category, xok, va_rf, true_and, and_true, and_self, Nat.reduceAdd, Nat.reduceLT, Nat.reduceLeDiff, Nat.reduceEqDiff, Nat.reduceMul, beq_self_eq_true, decide_true, ite_true, ite_false, if_true, if_false, reduceIte, Bool.true_eq_false, Bool.false_eq_true, eq_self_iff_true, Nat.zero_le, not_true_eq_false, not_false_eq_true, forall_const, false_implies, implies_true, forall_false, hM'.all, ho', hl', ev_I (show ¬ 72 = 70 by decide), e1, e2, hx1, hx2, hc1, hc2]
            exact ⟨hx1, hx2, hfin _ _ _ rfl rfl⟩
    · have hM' : MS (evG R 1 G) := hM
      simp only [f_Mdl_reckonAll_10, w_iadd, w_isub, w_imul, w_iand, w_ior, w_ixor, w_ishl, w_ishr, w_iushr, w_idiv, w_irem, w_ineg, w_ladd, w_lsub, w_lmul, w_ldiv, w_lrem, w_i2l, w_l2i, w_i2c, w_lcmp, w_dup_int, w_pop_int, w_dup_ref, w_pop_ref, w_dup_retAddr, w_pop_retAddr, w_dup2, w_I, w_L, w_Null, w_Ild, w_Lld, w_Ald, w_Ist, w_Lst, w_Ast, w_Iinc, w_if_eq, w_icmp_eq, w_if_ne, w_icmp_ne, w_if_lt, w_icmp_lt, w_if_ge, w_icmp_ge, w_if_gt, w_icmp_gt, w_if_le, w_icmp_le, w_GetI, w_GetL, w_GetR, w_PutI, w_PutZ, w_PutL, w_PutR, w_PutN, w_Iald, w_Zald, w_Lald, w_Aald, w_Iast, w_Zast, w_Last, w_AastR, w_AastN, w_Alen, w_New, w_NewA, w_Mna, w_Iret, w_Zret, w_Cret, w_Bret, w_Lret, w_AretR, w_AretN, w_Vret, w_Obj, w_IfNN, w_IfNR, w_Copy, w_Cln, w_Cast, w_SfA, w_SfI, w_SfQ, w_Str, w_ScLd, w_ScLen, w_CV0, w_CS0, w_CV1, w_CS1, w_CV2, w_CS2, w_CV3, w_CS3, w_CV4, w_CS4, w_CV5, w_CS5, List.getElem?_cons_zero, List.getElem?_cons_succ, List.set_cons_zero, List.set_cons_succ, List.length_cons, List.length_nil, List.map_cons, List.map_nil, List.sum_cons, List.sum_nil, List.nil_append, List.cons_append, Option.toList_some, Option.toList_none, Value.category, xok, va_rf, true_and, and_true, and_self, Nat.reduceAdd, Nat.reduceLT, Nat.reduceLeDiff, Nat.reduceEqDiff, Nat.reduceMul, beq_self_eq_true, decide_true, ite_true, ite_false, if_true, if_false, reduceIte, Bool.true_eq_false, Bool.false_eq_true, eq_self_iff_true, Nat.zero_le, not_true_eq_false, not_false_eq_true, forall_const, false_implies, implies_true, forall_false, hM'.all, ev_b]
      have hx : ∀ {a1 a2}, WP k_Mdl_reckonAll_340 [some (.ref 70), some (.int a1), some (.int a2), some (.int (nI n)), some (.int a4), o5, o6] [] (evG R 1 G) (raQ od G f) := fun {a1 a2} => ra_exit hM (by rw [hf])
      exact ⟨fun _ => hx, fun _ => ⟨fun q => absurd q (by decide), fun _ => hx⟩⟩
  · unfold evG
    rw [stM_same]
