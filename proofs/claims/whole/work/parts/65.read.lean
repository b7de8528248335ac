/-- what is paid for letters, and the rows behind it -/
def rdP (T : Nat → (Nat → Int64) → Option Int64) (R : Nat → Int32) (w one : Nat) (o : Option Nat) (lg : Bool) : Int32 := if lg then 0 else wepF T (hdF R w one o)
def rdQ (R : Nat → Int32) (one : Nat) (o : Option Nat) (p : Int32) : Int32 := match o with
  | none => p
  | some k => p * R (57 + 7 * one + 2) / (R (57 + 7 * one + 2) + R (57 + 7 * k + 2))
def rdA (T : Nat → (Nat → Int64) → Option Int64) (R : Nat → Int32) (w one : Nat) (o : Option Nat) (lg : Bool) : Nat → Int32 := up (up (up (up (up R (13 + 6 * w) (R (13 + 6 * w) + (if lg = false ∧ rdP T R w one o lg = 0 then 1 else 0))) (14 + 6 * w) (R (14 + 6 * w) + rdP T R w one o lg)) (12 + 6 * w) (R (12 + 6 * w) + oC o)) (11 + 6 * w) (wtF (R (11 + 6 * w) + tirF T (hdF R w one o)).toInt64 0 999)) 8 (R 8 + rdP T R w one o lg)
def rdR (T : Nat → (Nat → Int64) → Option Int64) (R : Nat → Int32) (w one : Nat) (o : Option Nat) (lg : Bool) : Nat → Int32 := match o with
  | none => up (up (rdA T R w one o lg) (57 + 7 * one + 5) 1) (57 + 7 * one + 6) (rdQ R one o (rdP T R w one o lg))
  | some k => up (up (up (up (rdA T R w one o lg) (57 + 7 * one + 5) 1) (57 + 7 * one + 6) (rdQ R one o (rdP T R w one o lg))) (57 + 7 * k + 5) 1) (57 + 7 * k + 6) (rdP T R w one o lg - rdQ R one o (rdP T R w one o lg))
theorem stI_stU {G : XH} {a k : Nat} {f : Nat → Int32} {v : Int32} : stI (stA G a f) a k v = stA G a (up f k v) := stI_stA
/-- what reading writes -/
def WR : Nat → Nat → Bool := fun a k => a == 72 || WH a k
theorem WH_WR (a k : Nat) (h : WR a k = false) : WH a k = false := by
  unfold WR at h
  simp only [Bool.or_eq_false_iff] at h
  exact h.2
theorem WL_WR (a k : Nat) (h : WR a k = false) : WL a k = false := WL_WH a k (WH_WR a k h)
/-- the law's rows are the same -/
def SL (R R' : Nat → Int32) : Prop := R' 4 = R 4 ∧ ∀ j, 180 ≤ j → R' j = R j
theorem ClM.same {R R' : Nat → Int32} {I : Nat → Nat × Nat} {lim k kd : Nat} {sm ts : (Nat → Int64) → Option Int64} (h : ClM R I lim k kd sm ts) (hs : ∀ j, 180 ≤ j → R' j = R j) (hk : 180 ≤ k) : ClM R' I lim k kd sm ts := by
  obtain ⟨h1, h2, h3, h4, h5, h6⟩ := h
  refine ⟨?_, h2, ?_, ?_, h5, h6⟩
  · rw [hs k hk]; exact h1
  · rw [hs (k + 5) (by omega), hs (k + 6) (by omega)]; exact h3
  · rw [hs (k + 3) (by omega), hs (k + 4) (by omega)]; exact h4
theorem LawM.same {R R' : Nat → Int32} {lw n : Nat} {kd : Nat → Nat} {sm ts : Nat → (Nat → Int64) → Option Int64} (h : LawM R lw n kd sm ts) (hs : ∀ j, 180 ≤ j → R' j = R j) (hk : 180 ≤ lw) : LawM R' lw n kd sm ts := by
  obtain ⟨h1, h2, I, lim, h3, h4, h5, h6⟩ := h
  refine ⟨?_, h2, I, lim, h3, h4, ?_, ?_⟩
  · rw [hs _ (by omega)]; exact h1
  · intro j hj
    rw [hs _ (by omega), hs _ (by omega)]
    exact h5 j hj
  · intro c hc
    exact (h6 c hc).same hs (by omega)
theorem ML.same {R R' : Nat → Int32} {T : Nat → (Nat → Int64) → Option Int64} {hl : Bool} (h : ML R T hl) (hs : SL R R') : ML R' T hl := by
  rcases h with ⟨h1, h2, h3⟩ | ⟨f, n, kd, sm, ts, h1, h2, h3, h4, h5⟩
  · exact Or.inl ⟨by rw [hs.1]; exact h1, h2, h3⟩
  · exact Or.inr ⟨f, n, kd, sm, ts, h1, by rw [hs.1]; exact h2, h3.same hs.2 (by omega), h4, h5⟩
theorem SL.refl {R : Nat → Int32} : SL R R := ⟨rfl, fun _ _ => rfl⟩
theorem SL.up {R R' : Nat → Int32} (h : SL R R') {k : Nat} {v : Int32} (hk : ¬ k = 4 ∧ k < 180) : SL R (up R' k v) := ⟨by rw [up_ne (by omega)]; exact h.1, fun j hj => by rw [up_ne (by omega)]; exact h.2 j hj⟩
theorem rdR_SL {T : Nat → (Nat → Int64) → Option Int64} {R : Nat → Int32} {w one : Nat} {o : Option Nat} {lg : Bool} (hw : w < 8) (h1 : one < 12) (h2 : ∀ k, o = some k → k < 12) : SL R (rdR T R w one o lg) := by
  have hA : SL R (rdA T R w one o lg) := ((((SL.refl.up (by omega)).up (by omega)).up (by omega)).up (by omega)).up (by omega)
  cases o with
  | none => exact (hA.up (by omega)).up (by omega)
  | some k =>
    have := h2 k rfl
    exact (((hA.up (by omega)).up (by omega)).up (by omega)).up (by omega)
theorem s_within' (v : Int64) (lo hi : Int32) (G : XH) (Q : XR → Prop) : SP D_Mdl_within [.long v, .int lo, .int hi] G Q = Q (some (.int (wtF v lo hi)), G) := s_within v lo hi G Q
theorem rt_18 {G : XH} {T : Nat → (Nat → Int64) → Option Int64} {hl : Bool} {R : Nat → Int32} {w one : Nat} {o : Option Nat} (hk : AK G T hl (hdF R w one o)) (hR : hpI G 72 = R) (hH : LH G R w one o) (hw : w < 8) (h1 : one < 12) (h2 : ∀ k, o = some k → k < 12 ∧ ¬ R (57 + 7 * one + 2) + R (57 + 7 * k + 2) = 0) (lg : Bool) {o5 o6 o7 : Option Value} : WP k_Mdl_readThem_18 [some (.ref 70), some (.int (nI one)), some (.int (oI o)), some (.int (if lg then 1 else 0)), o5, none, none, none] [.int (rdP T R w one o lg)] G (fun r => r.1 = some (.int (rdP T R w one o lg)) ∧ hpI r.2 72 = rdR T R w one o lg ∧ Fr WR G r.2) := by
  have hM := hk.1
  simp only [k_Mdl_readThem_18, w_iadd, w_isub, w_imul, w_iand, w_ior, w_ixor, w_ishl, w_ishr, w_iushr, w_idiv, w_irem, w_ineg, w_ladd, w_lsub, w_lmul, w_ldiv, w_lrem, w_i2l, w_l2i, w_i2c, w_lcmp, w_dup_int, w_pop_int, w_dup_ref, w_pop_ref, w_dup_retAddr, w_pop_retAddr, w_dup2, w_I, w_L, w_Null, w_Ild, w_Lld, w_Ald, w_Ist, w_Lst, w_Ast, w_Iinc, w_if_eq, w_icmp_eq, w_if_ne, w_icmp_ne, w_if_lt, w_icmp_lt, w_if_ge, w_icmp_ge, w_if_gt, w_icmp_gt, w_if_le, w_icmp_le, w_GetI, w_GetL, w_GetR, w_PutI, w_PutZ, w_PutL, w_PutR, w_PutN, w_Iald, w_Zald, w_Lald, w_Aald, w_Iast, w_Zast, w_Last, w_AastR, w_AastN, w_Alen, w_New, w_NewA, w_Mna, w_Iret, w_Zret, w_Cret, w_Bret, w_Lret, w_AretR, w_AretN, w_Vret, w_Obj, w_IfNN, w_IfNR, w_Copy, w_Cln, w_Cast, w_SfA, w_SfI, w_SfQ, w_Str, w_ScLd, w_ScLen, w_CV0, w_CS0, w_CV1, w_CS1, w_CV2, w_CS2, w_CV3, w_CS3, w_CV4, w_CS4, w_CV5, w_CS5, List.getElem?_cons_zero, List.getElem?_cons_succ, List.set_cons_zero, List.set_cons_succ, List.length_cons, List.length_nil, List.map_cons, List.map_nil, List.sum_cons, List.sum_nil, List.nil_append, List.cons_append, Option.toList_some, Option.toList_none, Value.category, xok, va_rf, true_and, and_true, and_self, Nat.reduceAdd, Nat.reduceLT, Nat.reduceLeDiff, Nat.reduceEqDiff, Nat.reduceMul, beq_self_eq_true, decide_true, ite_true, ite_false, if_true, if_false, reduceIte, Bool.true_eq_false, Bool.false_eq_true, eq_self_iff_true, Nat.zero_le, not_true_eq_false, not_false_eq_true, forall_const, false_implies, implies_true, forall_false, hM.all]
  refine SP.mono (s_tires hk hH.2.2.1) ?_
  rintro ⟨v, G1⟩ ⟨rfl, hf⟩
  dsimp only at hf
  have hM1 := hf.ms hM
  have hR1 : hpI G1 72 = R := (hf.IA 72 (fun _ => rfl)).trans hR
  have hw1 : hpI G1 70 41 = nI w := (hH.fr hf).2.1
  rw [show G1 = stA G1 72 R by rw [← hR1]; exact stA_same.symm]
  have e0 : 9 + 6 * nI w = nI (9 + 6 * w) := by rw [cI_9, cI_6, nI_mul, nI_add]
  have e4 : nI (9 + 6 * w) + 4 = nI (13 + 6 * w) := by rw [cI_4, nI_add]; congr 1; omega
  have e5 : nI (9 + 6 * w) + 5 = nI (14 + 6 * w) := by rw [cI_5, nI_add]; congr 1; omega
  have e3 : nI (9 + 6 * w) + 3 = nI (12 + 6 * w) := by rw [cI_3, nI_add]; congr 1; omega
  have e2 : nI (9 + 6 * w) + 2 = nI (11 + 6 * w) := by rw [cI_2, nI_add]; congr 1; omega
  have a0 : 57 + 7 * nI one = nI (57 + 7 * one) := by rw [cI_57, cI_7, nI_mul, nI_add]
  have a2 : nI (57 + 7 * one) + 2 = nI (57 + 7 * one + 2) := by rw [cI_2, nI_add]
  have a5 : nI (57 + 7 * one) + 5 = nI (57 + 7 * one + 5) := by rw [cI_5, nI_add]
  have a6 : nI (57 + 7 * one) + 6 = nI (57 + 7 * one + 6) := by rw [cI_6, nI_add]
  have p4 : 0 ≤ nI (13 + 6 * w) := nI_pos' (by omega)
  have c4 : (nI (13 + 6 * w)).toNatClampNeg = 13 + 6 * w := nI_clamp (by omega)
  have l4 : 13 + 6 * w < 5580 := by omega
  have p5 : 0 ≤ nI (14 + 6 * w) := nI_pos' (by omega)
  have c5 : (nI (14 + 6 * w)).toNatClampNeg = 14 + 6 * w := nI_clamp (by omega)
  have l5 : 14 + 6 * w < 5580 := by omega
  have p3 : 0 ≤ nI (12 + 6 * w) := nI_pos' (by omega)
  have c3 : (nI (12 + 6 * w)).toNatClampNeg = 12 + 6 * w := nI_clamp (by omega)
  have l3 : 12 + 6 * w < 5580 := by omega
  have p2 : 0 ≤ nI (11 + 6 * w) := nI_pos' (by omega)
  have c2 : (nI (11 + 6 * w)).toNatClampNeg = 11 + 6 * w := nI_clamp (by omega)
  have l2 : 11 + 6 * w < 5580 := by omega
  have pw : 0 ≤ nI (57 + 7 * one + 2) := nI_pos' (by omega)
  have cw : (nI (57 + 7 * one + 2)).toNatClampNeg = 57 + 7 * one + 2 := nI_clamp (by omega)
  have lw : 57 + 7 * one + 2 < 5580 := by omega
  have pr : 0 ≤ nI (57 + 7 * one + 5) := nI_pos' (by omega)
  have cr : (nI (57 + 7 * one + 5)).toNatClampNeg = 57 + 7 * one + 5 := nI_clamp (by omega)
  have lr : 57 + 7 * one + 5 < 5580 := by omega
  have pq : 0 ≤ nI (57 + 7 * one + 6) := nI_pos' (by omega)
  have cq : (nI (57 + 7 * one + 6)).toNatClampNeg = 57 + 7 * one + 6 := nI_clamp (by omega)
  have lq : 57 + 7 * one + 6 < 5580 := by omega
  have n00 : (14 + 6 * w = 13 + 6 * w) = False := eq_false (by omega)
  have n02 : (14 + 6 * w = 12 + 6 * w) = False := eq_false (by omega)
  have n03 : (14 + 6 * w = 11 + 6 * w) = False := eq_false (by omega)
  have n04 : (14 + 6 * w = 8) = False := eq_false (by omega)
  have n10 : (12 + 6 * w = 13 + 6 * w) = False := eq_false (by omega)
  have n11 : (12 + 6 * w = 14 + 6 * w) = False := eq_false (by omega)
  have n13 : (12 + 6 * w = 11 + 6 * w) = False := eq_false (by omega)
  have n14 : (12 + 6 * w = 8) = False := eq_false (by omega)
  have n20 : (11 + 6 * w = 13 + 6 * w) = False := eq_false (by omega)
  have n21 : (11 + 6 * w = 14 + 6 * w) = False := eq_false (by omega)
  have n22 : (11 + 6 * w = 12 + 6 * w) = False := eq_false (by omega)
  have n24 : (11 + 6 * w = 8) = False := eq_false (by omega)
  have n30 : (8 = 13 + 6 * w) = False := eq_false (by omega)
  have n31 : (8 = 14 + 6 * w) = False := eq_false (by omega)
  have n32 : (8 = 12 + 6 * w) = False := eq_false (by omega)
  have n33 : (8 = 11 + 6 * w) = False := eq_false (by omega)
  have n40 : (57 + 7 * one + 2 = 13 + 6 * w) = False := eq_false (by omega)
  have n41 : (57 + 7 * one + 2 = 14 + 6 * w) = False := eq_false (by omega)
  have n42 : (57 + 7 * one + 2 = 12 + 6 * w) = False := eq_false (by omega)
  have n43 : (57 + 7 * one + 2 = 11 + 6 * w) = False := eq_false (by omega)
  have n44 : (57 + 7 * one + 2 = 8) = False := eq_false (by omega)
  have hd : (if lg = false ∧ rdP T R w one o lg = 0 then (1 : Int32) else 0) = if lg then 0 else if rdP T R w one o lg = 0 then 1 else 0 := by
    cases lg <;> simp
  have hfr : ∀ f, Fr WR G (stA G1 72 f) := fun f => (hf.mono WL_WR).wA (fun k q => absurd q (by simp [WR]))
  cases o with
  | none =>
    have hrd : rdR T R w one none lg = up (up (rdA T R w one none lg) (57 + 7 * one + 5) 1) (57 + 7 * one + 6) (rdP T R w one none lg) := rfl
    rw [hrd]
    unfold rdA
    rw [hd]
    simp only [k_Mdl_readThem_61, k_Mdl_readThem_62, k_Mdl_readThem_98, k_Mdl_readThem_174, k_Mdl_readThem_248, oI, oC, w_iadd, w_isub, w_imul, w_iand, w_ior, w_ixor, w_ishl, w_ishr, w_iushr, w_idiv, w_irem, w_ineg, w_ladd, w_lsub, w_lmul, w_ldiv, w_lrem, w_i2l, w_l2i, w_i2c, w_lcmp, w_dup_int, w_pop_int, w_dup_ref, w_pop_ref, w_dup_retAddr, w_pop_retAddr, w_dup2, w_I, w_L, w_Null, w_Ild, w_Lld, w_Ald, w_Ist, w_Lst, w_Ast, w_Iinc, w_if_eq, w_icmp_eq, w_if_ne, w_icmp_ne, w_if_lt, w_icmp_lt, w_if_ge, w_icmp_ge, w_if_gt, w_icmp_gt, w_if_le, w_icmp_le, w_GetI, w_GetL, w_GetR, w_PutI, w_PutZ, w_PutL, w_PutR, w_PutN, w_Iald, w_Zald, w_Lald, w_Aald, w_Iast, w_Zast, w_Last, w_AastR, w_AastN, w_Alen, w_New, w_NewA, w_Mna, w_Iret, w_Zret, w_Cret, w_Bret, w_Lret, w_AretR, w_AretN, w_Vret, w_Obj, w_IfNN, w_IfNR, w_Copy, w_Cln, w_Cast, w_SfA, w_SfI, w_SfQ, w_Str, w_ScLd, w_ScLen, w_CV0, w_CS0, w_CV1, w_CS1, w_CV2, w_CS2, w_CV3, w_CS3, w_CV4, w_CS4, w_CV5, w_CS5, List.getElem?_cons_zero, List.getElem?_cons_succ, List.set_cons_zero, List.set_cons_succ, List.length_cons, List.length_nil, List.map_cons, List.map_nil, List.sum_cons, List.sum_nil, List.nil_append, List.cons_append, Option.toList_some, Option.toList_none, Value.category, xok, va_rf, true_and, and_true, and_self, Nat.reduceAdd, Nat.reduceLT, Nat.reduceLeDiff, Nat.reduceEqDiff, Nat.reduceMul, beq_self_eq_true, decide_true, ite_true, ite_false, if_true, if_false, reduceIte, Bool.true_eq_false, Bool.false_eq_true, eq_self_iff_true, Nat.zero_le, not_true_eq_false, not_false_eq_true, forall_const, false_implies, implies_true, forall_false, stI_C, stI_N, stI_Z, stI_S, stI_L, stI_R, stL_C, stL_N, stL_Z, stL_S, stL_I, stL_R, stR_C, stR_N, stR_Z, stR_S, stR_I, stR_L, stA_C, stA_N, stA_Z, stA_S, stA_L, stA_R, stI_I, stL_L, stR_R, stA_I, stN_C, stN_N, stN_Z, stN_S, stN_I, stN_L, stN_R, stI_ne, stL_ne, stR_ne, tn_0, tn_1, tn_2, tn_3, tn_4, tn_5, tn_6, tn_7, tn_8, tn_9, tn_10, tn_11, tn_12, tn_13, tn_14, tn_15, tn_16, tn_17, tn_18, tn_19, tn_20, tn_21, tn_22, tn_23, tn_24, tn_25, tn_26, tn_27, tn_28, tn_29, tn_30, tn_31, tn_32, tn_33, tn_34, tn_35, tn_36, tn_37, tn_38, tn_39, tn_40, tn_41, tn_42, tn_43, tn_44, tn_45, tn_46, tn_47, tn_48, tn_49, tn_50, tn_51, tn_52, tn_53, tn_54, tn_55, tn_56, tn_57, tn_58, tn_59, tn_60, tn_61, tn_62, tn_63, tn_64, tn_65, tn_66, tn_67, tn_68, tn_69, tn_70, tn_71, tn_72, tn_73, tn_74, tn_75, tn_76, tn_77, tn_78, tn_79, tn_80, tn_81, tn_82, tn_83, tn_84, tn_85, tn_86, tn_87, tn_88, tn_89, tn_90, tn_91, tn_92, tn_93, tn_94, tn_95, tn_96, tn_97, tn_98, tn_99, tn_100, tn_101, tn_102, tn_103, tn_104, tn_105, tn_106, tn_107, tn_108, tn_109, tn_110, tn_111, tn_112, tn_113, tn_114, tn_115, tn_116, tn_117, tn_118, tn_119, tn_120, tn_121, tn_122, tn_123, tn_124, tn_125, tn_126, tn_127, tn_128, tn_129, tn_130, tn_131, tn_132, tn_133, tn_134, tn_135, tn_136, tn_137, tn_138, tn_139, tn_140, tn_141, tn_142, tn_143, tn_144, tn_145, tn_146, tn_147, tn_148, tn_149, tn_150, tn_151, tn_152, tn_153, tn_154, tn_155, tn_156, tn_157, tn_158, tn_159, tn_160, tn_161, tn_162, tn_163, tn_164, tn_165, tn_166, tn_167, tn_168, tn_169, tn_170, tn_171, tn_172, tn_173, tn_174, tn_175, tn_176, tn_177, tn_178, tn_179, tn_180, tn_181, tn_182, tn_183, tn_184, tn_185, tn_186, tn_187, tn_188, tn_189, tn_190, tn_191, tn_192, tn_193, tn_194, tn_195, tn_196, tn_197, tn_198, tn_199, tn_255, tn_256, tn_300, tn_399, tn_400, tn_500, tn_900, tn_999, tn_1000, tn_1001, tn_1024, tn_2048, tn_2176, tn_3536, tn_4095, tn_4096, tn_5580, tn_11160, tn_12345, tn_1103, tn_99999, tn_1000000, tn_1000003, tn_100000000, tn_1000000000, ge0_0, ge0_1, ge0_2, ge0_3, ge0_4, ge0_5, ge0_6, ge0_7, ge0_8, ge0_9, ge0_10, ge0_11, ge0_12, ge0_13, ge0_14, ge0_15, ge0_16, ge0_17, ge0_18, ge0_19, ge0_20, ge0_21, ge0_22, ge0_23, ge0_24, ge0_25, ge0_26, ge0_27, ge0_28, ge0_29, ge0_30, ge0_31, ge0_32, ge0_33, ge0_34, ge0_35, ge0_36, ge0_37, ge0_38, ge0_39, ge0_40, ge0_41, ge0_42, ge0_43, ge0_44, ge0_45, ge0_46, ge0_47, ge0_48, ge0_49, ge0_50, ge0_51, ge0_52, ge0_53, ge0_54, ge0_55, ge0_56, ge0_57, ge0_58, ge0_59, ge0_60, ge0_61, ge0_62, ge0_63, ge0_64, ge0_65, ge0_66, ge0_67, ge0_68, ge0_69, ge0_70, ge0_71, ge0_72, ge0_73, ge0_74, ge0_75, ge0_76, ge0_77, ge0_78, ge0_79, ge0_80, ge0_81, ge0_82, ge0_83, ge0_84, ge0_85, ge0_86, ge0_87, ge0_88, ge0_89, ge0_90, ge0_91, ge0_92, ge0_93, ge0_94, ge0_95, ge0_96, ge0_97, ge0_98, ge0_99, ge0_100, ge0_101, ge0_102, ge0_103, ge0_104, ge0_105, ge0_106, ge0_107, ge0_108, ge0_109, ge0_110, ge0_111, ge0_112, ge0_113, ge0_114, ge0_115, ge0_116, ge0_117, ge0_118, ge0_119, ge0_120, ge0_121, ge0_122, ge0_123, ge0_124, ge0_125, ge0_126, ge0_127, ge0_128, ge0_129, ge0_130, ge0_131, ge0_132, ge0_133, ge0_134, ge0_135, ge0_136, ge0_137, ge0_138, ge0_139, ge0_140, ge0_141, ge0_142, ge0_143, ge0_144, ge0_145, ge0_146, ge0_147, ge0_148, ge0_149, ge0_150, ge0_151, ge0_152, ge0_153, ge0_154, ge0_155, ge0_156, ge0_157, ge0_158, ge0_159, ge0_160, ge0_161, ge0_162, ge0_163, ge0_164, ge0_165, ge0_166, ge0_167, ge0_168, ge0_169, ge0_170, ge0_171, ge0_172, ge0_173, ge0_174, ge0_175, ge0_176, ge0_177, ge0_178, ge0_179, ge0_180, ge0_181, ge0_182, ge0_183, ge0_184, ge0_185, ge0_186, ge0_187, ge0_188, ge0_189, ge0_190, ge0_191, ge0_192, ge0_193, ge0_194, ge0_195, ge0_196, ge0_197, ge0_198, ge0_199, ge0_255, ge0_256, ge0_300, ge0_399, ge0_400, ge0_500, ge0_900, ge0_999, ge0_1000, ge0_1001, ge0_1024, ge0_2048, ge0_2176, ge0_3536, ge0_4095, ge0_4096, ge0_5580, ge0_11160, ge0_12345, ge0_1103, ge0_99999, ge0_1000000, ge0_1000003, ge0_100000000, ge0_1000000000, hM1.all, hw1, hpI_stA, hpI_stA_ne, stI_stU, xin, e0, e2, e3, e4, e5, a0, a2, a5, a6, p4, c4, l4, p5, c5, l5, p3, c3, l3, p2, c2, l2, pw, cw, lw, pr, cr, lr, pq, cq, lq, up_ne, s_within', n00, n02, n03, n04, n10, n11, n13, n14, n20, n21, n22, n24, n30, n31, n32, n33, n40, n41, n42, n43, n44, ne10, ne10L, ne01, ne01L, tt_imp, nt_imp, ff_imp, nf_imp, true_and, and_true, true_or, or_true, reduceIte]
    cases lg with
    | true =>
      simp only [List.getElem?_cons_zero, List.getElem?_cons_succ, List.set_cons_zero, List.set_cons_succ, List.length_cons, List.length_nil, List.map_cons, List.map_nil, List.sum_cons, List.sum_nil, List.nil_append, List.cons_append, Option.toList_some, Option.toList_none, Value.category, xok, va_rf, true_and, and_true, and_self, Nat.reduceAdd, Nat.reduceLT, Nat.reduceLeDiff, Nat.reduceEqDiff, Nat.reduceMul, beq_self_eq_true, decide_true, ite_true, ite_false, if_true, if_false, reduceIte, Bool.true_eq_false, Bool.false_eq_true, eq_self_iff_true, Nat.zero_le, not_true_eq_false, not_false_eq_true, forall_const, false_implies, implies_true, forall_false, ne10, ne10L, ne01, ne01L, tt_imp, nt_imp, ff_imp, nf_imp, true_and, and_true, true_or, or_true, reduceIte]
      exact hfr _
    | false =>
      simp only [List.getElem?_cons_zero, List.getElem?_cons_succ, List.set_cons_zero, List.set_cons_succ, List.length_cons, List.length_nil, List.map_cons, List.map_nil, List.sum_cons, List.sum_nil, List.nil_append, List.cons_append, Option.toList_some, Option.toList_none, Value.category, xok, va_rf, true_and, and_true, and_self, Nat.reduceAdd, Nat.reduceLT, Nat.reduceLeDiff, Nat.reduceEqDiff, Nat.reduceMul, beq_self_eq_true, decide_true, ite_true, ite_false, if_true, if_false, reduceIte, Bool.true_eq_false, Bool.false_eq_true, eq_self_iff_true, Nat.zero_le, not_true_eq_false, not_false_eq_true, forall_const, false_implies, implies_true, forall_false, ne10, ne10L, ne01, ne01L, tt_imp, nt_imp, ff_imp, nf_imp, true_and, and_true, true_or, or_true, reduceIte]
      by_cases hp : rdP T R w one none false = 0
      · simp only [hp, List.getElem?_cons_zero, List.getElem?_cons_succ, List.set_cons_zero, List.set_cons_succ, List.length_cons, List.length_nil, List.map_cons, List.map_nil, List.sum_cons, List.sum_nil, List.nil_append, List.cons_append, Option.toList_some, Option.toList_none, Value.category, xok, va_rf, true_and, and_true, and_self, Nat.reduceAdd, Nat.reduceLT, Nat.reduceLeDiff, Nat.reduceEqDiff, Nat.reduceMul, beq_self_eq_true, decide_true, ite_true, ite_false, if_true, if_false, reduceIte, Bool.true_eq_false, Bool.false_eq_true, eq_self_iff_true, Nat.zero_le, not_true_eq_false, not_false_eq_true, forall_const, false_implies, implies_true, forall_false, ne10, ne10L, ne01, ne01L, tt_imp, nt_imp, ff_imp, nf_imp, true_and, and_true, true_or, or_true, reduceIte]
        exact hfr _
      · simp only [hp, List.getElem?_cons_zero, List.getElem?_cons_succ, List.set_cons_zero, List.set_cons_succ, List.length_cons, List.length_nil, List.map_cons, List.map_nil, List.sum_cons, List.sum_nil, List.nil_append, List.cons_append, Option.toList_some, Option.toList_none, Value.category, xok, va_rf, true_and, and_true, and_self, Nat.reduceAdd, Nat.reduceLT, Nat.reduceLeDiff, Nat.reduceEqDiff, Nat.reduceMul, beq_self_eq_true, decide_true, ite_true, ite_false, if_true, if_false, reduceIte, Bool.true_eq_false, Bool.false_eq_true, eq_self_iff_true, Nat.zero_le, not_true_eq_false, not_false_eq_true, forall_const, false_implies, implies_true, forall_false, ne10, ne10L, ne01, ne01L, tt_imp, nt_imp, ff_imp, nf_imp, true_and, and_true, true_or, or_true, reduceIte]
        exact hfr _
  | some k =>
    obtain ⟨hk12, hz⟩ := h2 k rfl
    have b0 : 57 + 7 * nI k = nI (57 + 7 * k) := by rw [cI_57, cI_7, nI_mul, nI_add]
    have b2 : nI (57 + 7 * k) + 2 = nI (57 + 7 * k + 2) := by rw [cI_2, nI_add]
    have b5 : nI (57 + 7 * k) + 5 = nI (57 + 7 * k + 5) := by rw [cI_5, nI_add]
    have b6 : nI (57 + 7 * k) + 6 = nI (57 + 7 * k + 6) := by rw [cI_6, nI_add]
    have px : 0 ≤ nI (57 + 7 * k + 2) := nI_pos' (by omega)
    have cx : (nI (57 + 7 * k + 2)).toNatClampNeg = 57 + 7 * k + 2 := nI_clamp (by omega)
    have lx : 57 + 7 * k + 2 < 5580 := by omega
    have py : 0 ≤ nI (57 + 7 * k + 5) := nI_pos' (by omega)
    have cy : (nI (57 + 7 * k + 5)).toNatClampNeg = 57 + 7 * k + 5 := nI_clamp (by omega)
    have ly : 57 + 7 * k + 5 < 5580 := by omega
    have pz : 0 ≤ nI (57 + 7 * k + 6) := nI_pos' (by omega)
    have cz : (nI (57 + 7 * k + 6)).toNatClampNeg = 57 + 7 * k + 6 := nI_clamp (by omega)
    have lz : 57 + 7 * k + 6 < 5580 := by omega
    have k0 : (57 + 7 * k + 2 = 13 + 6 * w) = False := eq_false (by omega)
    have k1 : (57 + 7 * k + 2 = 14 + 6 * w) = False := eq_false (by omega)
    have k2 : (57 + 7 * k + 2 = 12 + 6 * w) = False := eq_false (by omega)
    have k3 : (57 + 7 * k + 2 = 11 + 6 * w) = False := eq_false (by omega)
    have k4 : (57 + 7 * k + 2 = 8) = False := eq_false (by omega)
    have hrd : rdR T R w one (some k) lg = up (up (up (up (rdA T R w one (some k) lg) (57 + 7 * one + 5) 1) (57 + 7 * one + 6) (rdP T R w one (some k) lg * R (57 + 7 * one + 2) / (R (57 + 7 * one + 2) + R (57 + 7 * k + 2)))) (57 + 7 * k + 5) 1) (57 + 7 * k + 6) (rdP T R w one (some k) lg - rdP T R w one (some k) lg * R (57 + 7 * one + 2) / (R (57 + 7 * one + 2) + R (57 + 7 * k + 2))) := rfl
    rw [hrd]
    unfold rdA
    rw [hd]
    simp only [k_Mdl_readThem_61, k_Mdl_readThem_62, k_Mdl_readThem_98, k_Mdl_readThem_163, k_Mdl_readThem_174, k_Mdl_readThem_234, k_Mdl_readThem_248, e_Mdl_ofLetter, k_Mdl_ofLetter_0, oI, oC, w_iadd, w_isub, w_imul, w_iand, w_ior, w_ixor, w_ishl, w_ishr, w_iushr, w_idiv, w_irem, w_ineg, w_ladd, w_lsub, w_lmul, w_ldiv, w_lrem, w_i2l, w_l2i, w_i2c, w_lcmp, w_dup_int, w_pop_int, w_dup_ref, w_pop_ref, w_dup_retAddr, w_pop_retAddr, w_dup2, w_I, w_L, w_Null, w_Ild, w_Lld, w_Ald, w_Ist, w_Lst, w_Ast, w_Iinc, w_if_eq, w_icmp_eq, w_if_ne, w_icmp_ne, w_if_lt, w_icmp_lt, w_if_ge, w_icmp_ge, w_if_gt, w_icmp_gt, w_if_le, w_icmp_le, w_GetI, w_GetL, w_GetR, w_PutI, w_PutZ, w_PutL, w_PutR, w_PutN, w_Iald, w_Zald, w_Lald, w_Aald, w_Iast, w_Zast, w_Last, w_AastR, w_AastN, w_Alen, w_New, w_NewA, w_Mna, w_Iret, w_Zret, w_Cret, w_Bret, w_Lret, w_AretR, w_AretN, w_Vret, w_Obj, w_IfNN, w_IfNR, w_Copy, w_Cln, w_Cast, w_SfA, w_SfI, w_SfQ, w_Str, w_ScLd, w_ScLen, w_CV0, w_CS0, w_CV1, w_CS1, w_CV2, w_CS2, w_CV3, w_CS3, w_CV4, w_CS4, w_CV5, w_CS5, List.getElem?_cons_zero, List.getElem?_cons_succ, List.set_cons_zero, List.set_cons_succ, List.length_cons, List.length_nil, List.map_cons, List.map_nil, List.sum_cons, List.sum_nil, List.nil_append, List.cons_append, Option.toList_some, Option.toList_none, Value.category, xok, va_rf, true_and, and_true, and_self, Nat.reduceAdd, Nat.reduceLT, Nat.reduceLeDiff, Nat.reduceEqDiff, Nat.reduceMul, beq_self_eq_true, decide_true, ite_true, ite_false, if_true, if_false, reduceIte, Bool.true_eq_false, Bool.false_eq_true, eq_self_iff_true, Nat.zero_le, not_true_eq_false, not_false_eq_true, forall_const, false_implies, implies_true, forall_false, stI_C, stI_N, stI_Z, stI_S, stI_L, stI_R, stL_C, stL_N, stL_Z, stL_S, stL_I, stL_R, stR_C, stR_N, stR_Z, stR_S, stR_I, stR_L, stA_C, stA_N, stA_Z, stA_S, stA_L, stA_R, stI_I, stL_L, stR_R, stA_I, stN_C, stN_N, stN_Z, stN_S, stN_I, stN_L, stN_R, stI_ne, stL_ne, stR_ne, tn_0, tn_1, tn_2, tn_3, tn_4, tn_5, tn_6, tn_7, tn_8, tn_9, tn_10, tn_11, tn_12, tn_13, tn_14, tn_15, tn_16, tn_17, tn_18, tn_19, tn_20, tn_21, tn_22, tn_23, tn_24, tn_25, tn_26, tn_27, tn_28, tn_29, tn_30, tn_31, tn_32, tn_33, tn_34, tn_35, tn_36, tn_37, tn_38, tn_39, tn_40, tn_41, tn_42, tn_43, tn_44, tn_45, tn_46, tn_47, tn_48, tn_49, tn_50, tn_51, tn_52, tn_53, tn_54, tn_55, tn_56, tn_57, tn_58, tn_59, tn_60, tn_61, tn_62, tn_63, tn_64, tn_65, tn_66, tn_67, tn_68, tn_69, tn_70, tn_71, tn_72, tn_73, tn_74, tn_75, tn_76, tn_77, tn_78, tn_79, tn_80, tn_81, tn_82, tn_83, tn_84, tn_85, tn_86, tn_87, tn_88, tn_89, tn_90, tn_91, tn_92, tn_93, tn_94, tn_95, tn_96, tn_97, tn_98, tn_99, tn_100, tn_101, tn_102, tn_103, tn_104, tn_105, tn_106, tn_107, tn_108, tn_109, tn_110, tn_111, tn_112, tn_113, tn_114, tn_115, tn_116, tn_117, tn_118, tn_119, tn_120, tn_121, tn_122, tn_123, tn_124, tn_125, tn_126, tn_127, tn_128, tn_129, tn_130, tn_131, tn_132, tn_133, tn_134, tn_135, tn_136, tn_137, tn_138, tn_139, tn_140, tn_141, tn_142, tn_143, tn_144, tn_145, tn_146, tn_147, tn_148, tn_149, tn_150, tn_151, tn_152, tn_153, tn_154, tn_155, tn_156, tn_157, tn_158, tn_159, tn_160, tn_161, tn_162, tn_163, tn_164, tn_165, tn_166, tn_167, tn_168, tn_169, tn_170, tn_171, tn_172, tn_173, tn_174, tn_175, tn_176, tn_177, tn_178, tn_179, tn_180, tn_181, tn_182, tn_183, tn_184, tn_185, tn_186, tn_187, tn_188, tn_189, tn_190, tn_191, tn_192, tn_193, tn_194, tn_195, tn_196, tn_197, tn_198, tn_199, tn_255, tn_256, tn_300, tn_399, tn_400, tn_500, tn_900, tn_999, tn_1000, tn_1001, tn_1024, tn_2048, tn_2176, tn_3536, tn_4095, tn_4096, tn_5580, tn_11160, tn_12345, tn_1103, tn_99999, tn_1000000, tn_1000003, tn_100000000, tn_1000000000, ge0_0, ge0_1, ge0_2, ge0_3, ge0_4, ge0_5, ge0_6, ge0_7, ge0_8, ge0_9, ge0_10, ge0_11, ge0_12, ge0_13, ge0_14, ge0_15, ge0_16, ge0_17, ge0_18, ge0_19, ge0_20, ge0_21, ge0_22, ge0_23, ge0_24, ge0_25, ge0_26, ge0_27, ge0_28, ge0_29, ge0_30, ge0_31, ge0_32, ge0_33, ge0_34, ge0_35, ge0_36, ge0_37, ge0_38, ge0_39, ge0_40, ge0_41, ge0_42, ge0_43, ge0_44, ge0_45, ge0_46, ge0_47, ge0_48, ge0_49, ge0_50, ge0_51, ge0_52, ge0_53, ge0_54, ge0_55, ge0_56, ge0_57, ge0_58, ge0_59, ge0_60, ge0_61, ge0_62, ge0_63, ge0_64, ge0_65, ge0_66, ge0_67, ge0_68, ge0_69, ge0_70, ge0_71, ge0_72, ge0_73, ge0_74, ge0_75, ge0_76, ge0_77, ge0_78, ge0_79, ge0_80, ge0_81, ge0_82, ge0_83, ge0_84, ge0_85, ge0_86, ge0_87, ge0_88, ge0_89, ge0_90, ge0_91, ge0_92, ge0_93, ge0_94, ge0_95, ge0_96, ge0_97, ge0_98, ge0_99, ge0_100, ge0_101, ge0_102, ge0_103, ge0_104, ge0_105, ge0_106, ge0_107, ge0_108, ge0_109, ge0_110, ge0_111, ge0_112, ge0_113, ge0_114, ge0_115, ge0_116, ge0_117, ge0_118, ge0_119, ge0_120, ge0_121, ge0_122, ge0_123, ge0_124, ge0_125, ge0_126, ge0_127, ge0_128, ge0_129, ge0_130, ge0_131, ge0_132, ge0_133, ge0_134, ge0_135, ge0_136, ge0_137, ge0_138, ge0_139, ge0_140, ge0_141, ge0_142, ge0_143, ge0_144, ge0_145, ge0_146, ge0_147, ge0_148, ge0_149, ge0_150, ge0_151, ge0_152, ge0_153, ge0_154, ge0_155, ge0_156, ge0_157, ge0_158, ge0_159, ge0_160, ge0_161, ge0_162, ge0_163, ge0_164, ge0_165, ge0_166, ge0_167, ge0_168, ge0_169, ge0_170, ge0_171, ge0_172, ge0_173, ge0_174, ge0_175, ge0_176, ge0_177, ge0_178, ge0_179, ge0_180, ge0_181, ge0_182, ge0_183, ge0_184, ge0_185, ge0_186, ge0_187, ge0_188, ge0_189, ge0_190, ge0_191, ge0_192, ge0_193, ge0_194, ge0_195, ge0_196, ge0_197, ge0_198, ge0_199, ge0_255, ge0_256, ge0_300, ge0_399, ge0_400, ge0_500, ge0_900, ge0_999, ge0_1000, ge0_1001, ge0_1024, ge0_2048, ge0_2176, ge0_3536, ge0_4095, ge0_4096, ge0_5580, ge0_11160, ge0_12345, ge0_1103, ge0_99999, ge0_1000000, ge0_1000003, ge0_100000000, ge0_1000000000, hM1.all, hw1, hpI_stA, hpI_stA_ne, stI_stU, xin, e0, e2, e3, e4, e5, a0, a2, a5, a6, b0, b2, b5, b6, p4, c4, l4, p5, c5, l5, p3, c3, l3, p2, c2, l2, pw, cw, lw, pr, cr, lr, pq, cq, lq, px, cx, lx, py, cy, ly, pz, cz, lz, up_ne, s_within', n00, n02, n03, n04, n10, n11, n13, n14, n20, n21, n22, n24, n30, n31, n32, n33, n40, n41, n42, n43, n44, k0, k1, k2, k3, k4, hz, oI_ne hk12, ne10, ne10L, ne01, ne01L, tt_imp, nt_imp, ff_imp, nf_imp, true_and, and_true, true_or, or_true, reduceIte]
    cases lg with
    | true =>
      simp only [List.getElem?_cons_zero, List.getElem?_cons_succ, List.set_cons_zero, List.set_cons_succ, List.length_cons, List.length_nil, List.map_cons, List.map_nil, List.sum_cons, List.sum_nil, List.nil_append, List.cons_append, Option.toList_some, Option.toList_none, Value.category, xok, va_rf, true_and, and_true, and_self, Nat.reduceAdd, Nat.reduceLT, Nat.reduceLeDiff, Nat.reduceEqDiff, Nat.reduceMul, beq_self_eq_true, decide_true, ite_true, ite_false, if_true, if_false, reduceIte, Bool.true_eq_false, Bool.false_eq_true, eq_self_iff_true, Nat.zero_le, not_true_eq_false, not_false_eq_true, forall_const, false_implies, implies_true, forall_false, ne10, ne10L, ne01, ne01L, tt_imp, nt_imp, ff_imp, nf_imp, true_and, and_true, true_or, or_true, reduceIte]
      exact hfr _
    | false =>
      simp only [List.getElem?_cons_zero, List.getElem?_cons_succ, List.set_cons_zero, List.set_cons_succ, List.length_cons, List.length_nil, List.map_cons, List.map_nil, List.sum_cons, List.sum_nil, List.nil_append, List.cons_append, Option.toList_some, Option.toList_none, Value.category, xok, va_rf, true_and, and_true, and_self, Nat.reduceAdd, Nat.reduceLT, Nat.reduceLeDiff, Nat.reduceEqDiff, Nat.reduceMul, beq_self_eq_true, decide_true, ite_true, ite_false, if_true, if_false, reduceIte, Bool.true_eq_false, Bool.false_eq_true, eq_self_iff_true, Nat.zero_le, not_true_eq_false, not_false_eq_true, forall_const, false_implies, implies_true, forall_false, ne10, ne10L, ne01, ne01L, tt_imp, nt_imp, ff_imp, nf_imp, true_and, and_true, true_or, or_true, reduceIte]
      by_cases hp : rdP T R w one (some k) false = 0
      · simp only [hp, List.getElem?_cons_zero, List.getElem?_cons_succ, List.set_cons_zero, List.set_cons_succ, List.length_cons, List.length_nil, List.map_cons, List.map_nil, List.sum_cons, List.sum_nil, List.nil_append, List.cons_append, Option.toList_some, Option.toList_none, Value.category, xok, va_rf, true_and, and_true, and_self, Nat.reduceAdd, Nat.reduceLT, Nat.reduceLeDiff, Nat.reduceEqDiff, Nat.reduceMul, beq_self_eq_true, decide_true, ite_true, ite_false, if_true, if_false, reduceIte, Bool.true_eq_false, Bool.false_eq_true, eq_self_iff_true, Nat.zero_le, not_true_eq_false, not_false_eq_true, forall_const, false_implies, implies_true, forall_false, ne10, ne10L, ne01, ne01L, tt_imp, nt_imp, ff_imp, nf_imp, true_and, and_true, true_or, or_true, reduceIte]
        exact hfr _
      · simp only [hp, List.getElem?_cons_zero, List.getElem?_cons_succ, List.set_cons_zero, List.set_cons_succ, List.length_cons, List.length_nil, List.map_cons, List.map_nil, List.sum_cons, List.sum_nil, List.nil_append, List.cons_append, Option.toList_some, Option.toList_none, Value.category, xok, va_rf, true_and, and_true, and_self, Nat.reduceAdd, Nat.reduceLT, Nat.reduceLeDiff, Nat.reduceEqDiff, Nat.reduceMul, beq_self_eq_true, decide_true, ite_true, ite_false, if_true, if_false, reduceIte, Bool.true_eq_false, Bool.false_eq_true, eq_self_iff_true, Nat.zero_le, not_true_eq_false, not_false_eq_true, forall_const, false_implies, implies_true, forall_false, ne10, ne10L, ne01, ne01L, tt_imp, nt_imp, ff_imp, nf_imp, true_and, and_true, true_or, or_true, reduceIte]
        exact hfr _
