def zI (z : Int) : Int32 := Int32.ofInt z
theorem zI_n {n : Nat} : zI (n : Int) = nI n := by
  apply Int32.toBitVec_inj.mp
  exact BitVec.ofInt_natCast 32 n
theorem zI_toInt {z : Int} (h1 : -2147483648 ≤ z) (h2 : z < 2147483648) : (zI z).toInt = z := by
  unfold zI
  rw [Int32.toInt_ofInt]
  have hs : Int32.size = 4294967296 := rfl
  apply Int.bmod_eq_of_le <;> omega
theorem zI_add {a b : Int} : zI a + zI b = zI (a + b) := by
  unfold zI
  rw [Int32.ofInt_add]
theorem zI_sub {a b : Int} : zI a - zI b = zI (a - b) := by
  unfold zI
  rw [Int32.ofInt_sub]
theorem zI_le {a b : Int} (h1 : -2147483648 ≤ a) (h2 : a < 2147483648) (h3 : -2147483648 ≤ b) (h4 : b < 2147483648) : (zI a ≤ zI b) = (a ≤ b) := by
  rw [Int32.le_iff_toInt_le, zI_toInt h1 h2, zI_toInt h3 h4]
/-- a move better than the best so far -/
def updG (who : Nat) (o : Option (Int × Nat)) (v : Int) (k : Nat) : Option (Int × Nat) := match o with
  | none => some (v, k)
  | some q => if (who = 0 ∧ q.1 < v) ∨ (¬ who = 0 ∧ v < q.1) then some (v, k) else some q
def gmF (done : Nat) (ok : Nat → Bool) (v : Nat → Int) (who : Nat) : Nat → Option (Int × Nat)
  | 0 => none
  | k + 1 => if !done.testBit k && ok k then updG who (gmF done ok v who k) (v k) k else gmF done ok v who k
def sgZ (who p : Nat) : Int := if who = 0 then (p : Int) else - (p : Int)
def gvZ (o o' : Option (Int × Nat)) : Int := match o with
  | some q => q.1
  | none => match o' with
    | some q => q.1
    | none => 0
/-- how much more sender 0 is paid from here on; sd: whose a letter is -/
def gmV (n : Nat) (br : Nat → Nat → Nat → Bool) (py af : Nat → Nat → Nat → Nat) (sd : Nat → Nat) : Nat → Nat → Nat → Nat → Nat → Int
  | 0, _, _, _, _ => 0
  | f + 1, d, done, t, turn => gvZ (gmF done (fun k => !br d t k && decide (sd k = turn)) (fun k => gmV n br py af sd f (d + 1) (done ||| 2 ^ k) (af d t k) (1 - turn) + sgZ turn (py d t k)) turn n) (gmF done (fun k => !br d t k && decide (sd k = 1 - turn)) (fun k => gmV n br py af sd f (d + 1) (done ||| 2 ^ k) (af d t k) (1 - (1 - turn)) + sgZ (1 - turn) (py d t k)) (1 - turn) n)
/-- the moves of one sender -/
def gmM (n : Nat) (br : Nat → Nat → Nat → Bool) (py af : Nat → Nat → Nat → Nat) (sd : Nat → Nat) (f d done t who : Nat) : Option (Int × Nat) := gmF done (fun k => !br d t k && decide (sd k = who)) (fun k => gmV n br py af sd f (d + 1) (done ||| 2 ^ k) (af d t k) (1 - who) + sgZ who (py d t k)) who n
theorem gmV_s {n : Nat} {br : Nat → Nat → Nat → Bool} {py af : Nat → Nat → Nat → Nat} {sd : Nat → Nat} {f d done t turn : Nat} : gmV n br py af sd (f + 1) d done t turn = gvZ (gmM n br py af sd f d done t turn) (gmM n br py af sd f d done t (1 - turn)) := rfl
theorem gmF_ok {done who n : Nat} {B : Int} {ok : Nat → Bool} {v : Nat → Int} (hv : ∀ k, k < n → -B ≤ v k ∧ v k ≤ B) : ∀ k, k ≤ n → ∀ q, gmF done ok v who k = some q → (-B ≤ q.1 ∧ q.1 ≤ B) ∧ q.2 < k
  | 0, _, q, h => by cases h
  | k + 1, hk, q, h => by
    have hvk := hv k (by omega)
    rw [gmF] at h
    split at h
    · unfold updG at h
      split at h
      · cases h
        exact ⟨hvk, by omega⟩
      · next p hp =>
        split at h
        · cases h
          exact ⟨hvk, by omega⟩
        · cases h
          have := gmF_ok hv k (by omega) q hp
          exact ⟨this.1, by omega⟩
    · have := gmF_ok hv k (by omega) q h
      exact ⟨this.1, by omega⟩
theorem gmV_ok {n : Nat} {br : Nat → Nat → Nat → Bool} {py af : Nat → Nat → Nat → Nat} {sd : Nat → Nat} (hpy : ∀ d t k, t ≤ 999 → k < n → py d t k ≤ 999) (haf : ∀ d t k, af d t k ≤ 999) : ∀ (f d done t turn : Nat), t ≤ 999 → -(999 * (f : Int)) ≤ gmV n br py af sd f d done t turn ∧ gmV n br py af sd f d done t turn ≤ 999 * (f : Int)
  | 0, d, done, t, turn, _ => by
    rw [gmV]
    omega
  | f + 1, d, done, t, turn, ht => by
    have hvk : ∀ who k, k < n → -(999 * ((f + 1 : Nat) : Int)) ≤ gmV n br py af sd f (d + 1) (done ||| 2 ^ k) (af d t k) (1 - who) + sgZ who (py d t k) ∧ gmV n br py af sd f (d + 1) (done ||| 2 ^ k) (af d t k) (1 - who) + sgZ who (py d t k) ≤ 999 * ((f + 1 : Nat) : Int) := by
      intro who k hk
      have h1 := gmV_ok (br := br) (sd := sd) hpy haf f (d + 1) (done ||| 2 ^ k) (af d t k) (1 - who) (haf d t k)
      have h2 := hpy d t k ht hk
      unfold sgZ
      split <;> omega
    rw [gmV_s]
    unfold gvZ
    split
    · next q hq => exact (gmF_ok (hvk turn) n (Nat.le_refl _) q hq).1
    · split
      · next q hq => exact (gmF_ok (hvk (1 - turn)) n (Nat.le_refl _) q hq).1
      · omega
def beI (NT : Int32) (o : Option (Int × Nat)) : Int32 := match o with
  | none => NT
  | some q => zI q.1
/-- which letter is told as the first -/
def fiI (d : Nat) (lt : Nat → Nat) (F0 : Int32) (o : Option (Int × Nat)) : Int32 := if d = 0 then (match o with
  | none => F0
  | some q => nI (lt q.2)) else F0
theorem lm_164 {D : Nat → XD} {G : XH} {K : XK} {Q : XR → Prop} {k : Nat} {a1 a2 a3 a4 a7 a8 a9 : Option Value} {a5 : Int32} (hK : WP K [some (.ref 58), a1, a2, a3, a4, some (.int a5), some (.int (nI (k + 1))), a7, a8, a9] [] G Q) : WP (k_Search_leadOfMoves_164 D K) [some (.ref 58), a1, a2, a3, a4, some (.int a5), some (.int (nI k)), a7, a8, a9] [] G Q := by
  have ek : nI k + Int32.ofInt 1 = nI (k + 1) := nI_1 k
  simp only [k_Search_leadOfMoves_164, w_iadd, w_isub, w_imul, w_iand, w_ior, w_ixor, w_ishl, w_ishr, w_iushr, w_idiv, w_irem, w_ineg, w_ladd, w_lsub, w_lmul, w_ldiv, w_lrem, w_i2l, w_l2i, w_i2c, w_lcmp, w_dup_int, w_pop_int, w_dup_ref, w_pop_ref, w_dup_retAddr, w_pop_retAddr, w_dup2, w_I, w_L, w_Null, w_Ild, w_Lld, w_Ald, w_Ist, w_Lst, w_Ast, w_Iinc, w_if_eq, w_icmp_eq, w_if_ne, w_icmp_ne, w_if_lt, w_icmp_lt, w_if_ge, w_icmp_ge, w_if_gt, w_icmp_gt, w_if_le, w_icmp_le, w_GetI, w_GetL, w_GetR, w_PutI, w_PutZ, w_PutL, w_PutR, w_PutN, w_Iald, w_Zald, w_Lald, w_Aald, w_Iast, w_Zast, w_Last, w_AastR, w_AastN, w_Alen, w_New, w_NewA, w_Mna, w_Iret, w_Zret, w_Cret, w_Bret, w_Lret, w_AretR, w_AretN, w_Vret, w_Obj, w_IfNN, w_IfNR, w_Copy, w_Cln, w_Cast, w_SfA, w_SfI, w_SfQ, w_Str, w_ScLd, w_ScLen, w_CV0, w_CS0, w_CV1, w_CS1, w_CV2, w_CS2, w_CV3, w_CS3, w_CV4, w_CS4, w_CV5, w_CS5, List.getElem?_cons_zero, List.getElem?_cons_succ, List.set_cons_zero, List.set_cons_succ, List.length_cons, List.length_nil, List.map_cons, List.map_nil, List.sum_cons, List.sum_nil, List.nil_append, List.cons_append, Option.toList_some, Option.toList_none, Value.category, xok, va_rf, true_and, and_true, and_self, Nat.reduceAdd, Nat.reduceLT, Nat.reduceLeDiff, Nat.reduceEqDiff, Nat.reduceMul, beq_self_eq_true, decide_true, ite_true, ite_false, if_true, if_false, reduceIte, Bool.true_eq_false, Bool.false_eq_true, eq_self_iff_true, Nat.zero_le, not_true_eq_false, not_false_eq_true, forall_const, false_implies, implies_true, forall_false, ek, ne10, ne10L, ne01, ne01L, tt_imp, nt_imp, ff_imp, nf_imp, true_and, and_true, true_or, or_true, reduceIte]
  exact hK
theorem lm_137 {D : Nat → XD} {G : XH} (hC : CS G) {K : XK} {Q : XR → Prop} {k d n : Nat} {lt : Nat → Nat} (hk : k < n) (hn : n ≤ 8) (hd : d ≤ 8) (hS : SLt G n lt) {a1 a2 : Option Value} {a3 a5 a7 a8 v : Int32} (hK : WP K [some (.ref 58), a1, a2, some (.int a3), some (.int (nI d)), some (.int v), some (.int (nI (k + 1))), some (.int a7), some (.int a8), some (.int v)] [] (stI G 58 9 (if d = 0 then nI (lt k) else hpI G 58 9)) Q) : WP (k_Search_leadOfMoves_137 D K) [some (.ref 58), a1, a2, some (.int a3), some (.int (nI d)), some (.int a5), some (.int (nI k)), some (.int a7), some (.int a8), some (.int v)] [] G Q := by
  have ek : nI k + Int32.ofInt 1 = nI (k + 1) := nI_1 k
  have hlk := hS.2 k hk
  have p1 : 0 ≤ nI (k) := nI_pos' (by omega)
  have c1 : (nI (k)).toNatClampNeg = k := nI_clamp (by omega)
  have l1 : k < 8 := by omega
  by_cases q : d = 0
  · rw [if_pos q] at hK
    have ed : (nI d = 0) = True := eq_true (by rw [q]; rfl)
    simp only [k_Search_leadOfMoves_137, k_Search_leadOfMoves_161, k_Search_leadOfMoves_164, w_iadd, w_isub, w_imul, w_iand, w_ior, w_ixor, w_ishl, w_ishr, w_iushr, w_idiv, w_irem, w_ineg, w_ladd, w_lsub, w_lmul, w_ldiv, w_lrem, w_i2l, w_l2i, w_i2c, w_lcmp, w_dup_int, w_pop_int, w_dup_ref, w_pop_ref, w_dup_retAddr, w_pop_retAddr, w_dup2, w_I, w_L, w_Null, w_Ild, w_Lld, w_Ald, w_Ist, w_Lst, w_Ast, w_Iinc, w_if_eq, w_icmp_eq, w_if_ne, w_icmp_ne, w_if_lt, w_icmp_lt, w_if_ge, w_icmp_ge, w_if_gt, w_icmp_gt, w_if_le, w_icmp_le, w_GetI, w_GetL, w_GetR, w_PutI, w_PutZ, w_PutL, w_PutR, w_PutN, w_Iald, w_Zald, w_Lald, w_Aald, w_Iast, w_Zast, w_Last, w_AastR, w_AastN, w_Alen, w_New, w_NewA, w_Mna, w_Iret, w_Zret, w_Cret, w_Bret, w_Lret, w_AretR, w_AretN, w_Vret, w_Obj, w_IfNN, w_IfNR, w_Copy, w_Cln, w_Cast, w_SfA, w_SfI, w_SfQ, w_Str, w_ScLd, w_ScLen, w_CV0, w_CS0, w_CV1, w_CS1, w_CV2, w_CS2, w_CV3, w_CS3, w_CV4, w_CS4, w_CV5, w_CS5, List.getElem?_cons_zero, List.getElem?_cons_succ, List.set_cons_zero, List.set_cons_succ, List.length_cons, List.length_nil, List.map_cons, List.map_nil, List.sum_cons, List.sum_nil, List.nil_append, List.cons_append, Option.toList_some, Option.toList_none, Value.category, xok, va_rf, true_and, and_true, and_self, Nat.reduceAdd, Nat.reduceLT, Nat.reduceLeDiff, Nat.reduceEqDiff, Nat.reduceMul, beq_self_eq_true, decide_true, ite_true, ite_false, if_true, if_false, reduceIte, Bool.true_eq_false, Bool.false_eq_true, eq_self_iff_true, Nat.zero_le, not_true_eq_false, not_false_eq_true, forall_const, false_implies, implies_true, forall_false, stI_C, stI_N, stI_Z, stI_S, stI_L, stI_R, stL_C, stL_N, stL_Z, stL_S, stL_I, stL_R, stR_C, stR_N, stR_Z, stR_S, stR_I, stR_L, stA_C, stA_N, stA_Z, stA_S, stA_L, stA_R, stI_I, stL_L, stR_R, stA_I, stN_C, stN_N, stN_Z, stN_S, stN_I, stN_L, stN_R, stI_ne, stL_ne, stR_ne, tn_0, tn_1, tn_2, tn_3, tn_4, tn_5, tn_6, tn_7, tn_8, tn_9, tn_10, tn_11, tn_12, tn_13, tn_14, tn_15, tn_16, tn_17, tn_18, tn_19, tn_20, tn_21, tn_22, tn_23, tn_24, tn_25, tn_26, tn_27, tn_28, tn_29, tn_30, tn_31, tn_32, tn_33, tn_34, tn_35, tn_36, tn_37, tn_38, tn_39, tn_40, tn_41, tn_42, tn_43, tn_44, tn_45, tn_46, tn_47, tn_48, tn_49, tn_50, tn_51, tn_52, tn_53, tn_54, tn_55, tn_56, tn_57, tn_58, tn_59, tn_60, tn_61, tn_62, tn_63, tn_64, tn_65, tn_66, tn_67, tn_68, tn_69, tn_70, tn_71, tn_72, tn_73, tn_74, tn_75, tn_76, tn_77, tn_78, tn_79, tn_80, tn_81, tn_82, tn_83, tn_84, tn_85, tn_86, tn_87, tn_88, tn_89, tn_90, tn_91, tn_92, tn_93, tn_94, tn_95, tn_96, tn_97, tn_98, tn_99, tn_100, tn_101, tn_102, tn_103, tn_104, tn_105, tn_106, tn_107, tn_108, tn_109, tn_110, tn_111, tn_112, tn_113, tn_114, tn_115, tn_116, tn_117, tn_118, tn_119, tn_120, tn_121, tn_122, tn_123, tn_124, tn_125, tn_126, tn_127, tn_128, tn_129, tn_130, tn_131, tn_132, tn_133, tn_134, tn_135, tn_136, tn_137, tn_138, tn_139, tn_140, tn_141, tn_142, tn_143, tn_144, tn_145, tn_146, tn_147, tn_148, tn_149, tn_150, tn_151, tn_152, tn_153, tn_154, tn_155, tn_156, tn_157, tn_158, tn_159, tn_160, tn_161, tn_162, tn_163, tn_164, tn_165, tn_166, tn_167, tn_168, tn_169, tn_170, tn_171, tn_172, tn_173, tn_174, tn_175, tn_176, tn_177, tn_178, tn_179, tn_180, tn_181, tn_182, tn_183, tn_184, tn_185, tn_186, tn_187, tn_188, tn_189, tn_190, tn_191, tn_192, tn_193, tn_194, tn_195, tn_196, tn_197, tn_198, tn_199, tn_255, tn_256, tn_300, tn_399, tn_400, tn_500, tn_900, tn_999, tn_1000, tn_1001, tn_1024, tn_2048, tn_2176, tn_3536, tn_4095, tn_4096, tn_5580, tn_11160, tn_12345, tn_1103, tn_99999, tn_1000000, tn_1000003, tn_100000000, tn_1000000000, ge0_0, ge0_1, ge0_2, ge0_3, ge0_4, ge0_5, ge0_6, ge0_7, ge0_8, ge0_9, ge0_10, ge0_11, ge0_12, ge0_13, ge0_14, ge0_15, ge0_16, ge0_17, ge0_18, ge0_19, ge0_20, ge0_21, ge0_22, ge0_23, ge0_24, ge0_25, ge0_26, ge0_27, ge0_28, ge0_29, ge0_30, ge0_31, ge0_32, ge0_33, ge0_34, ge0_35, ge0_36, ge0_37, ge0_38, ge0_39, ge0_40, ge0_41, ge0_42, ge0_43, ge0_44, ge0_45, ge0_46, ge0_47, ge0_48, ge0_49, ge0_50, ge0_51, ge0_52, ge0_53, ge0_54, ge0_55, ge0_56, ge0_57, ge0_58, ge0_59, ge0_60, ge0_61, ge0_62, ge0_63, ge0_64, ge0_65, ge0_66, ge0_67, ge0_68, ge0_69, ge0_70, ge0_71, ge0_72, ge0_73, ge0_74, ge0_75, ge0_76, ge0_77, ge0_78, ge0_79, ge0_80, ge0_81, ge0_82, ge0_83, ge0_84, ge0_85, ge0_86, ge0_87, ge0_88, ge0_89, ge0_90, ge0_91, ge0_92, ge0_93, ge0_94, ge0_95, ge0_96, ge0_97, ge0_98, ge0_99, ge0_100, ge0_101, ge0_102, ge0_103, ge0_104, ge0_105, ge0_106, ge0_107, ge0_108, ge0_109, ge0_110, ge0_111, ge0_112, ge0_113, ge0_114, ge0_115, ge0_116, ge0_117, ge0_118, ge0_119, ge0_120, ge0_121, ge0_122, ge0_123, ge0_124, ge0_125, ge0_126, ge0_127, ge0_128, ge0_129, ge0_130, ge0_131, ge0_132, ge0_133, ge0_134, ge0_135, ge0_136, ge0_137, ge0_138, ge0_139, ge0_140, ge0_141, ge0_142, ge0_143, ge0_144, ge0_145, ge0_146, ge0_147, ge0_148, ge0_149, ge0_150, ge0_151, ge0_152, ge0_153, ge0_154, ge0_155, ge0_156, ge0_157, ge0_158, ge0_159, ge0_160, ge0_161, ge0_162, ge0_163, ge0_164, ge0_165, ge0_166, ge0_167, ge0_168, ge0_169, ge0_170, ge0_171, ge0_172, ge0_173, ge0_174, ge0_175, ge0_176, ge0_177, ge0_178, ge0_179, ge0_180, ge0_181, ge0_182, ge0_183, ge0_184, ge0_185, ge0_186, ge0_187, ge0_188, ge0_189, ge0_190, ge0_191, ge0_192, ge0_193, ge0_194, ge0_195, ge0_196, ge0_197, ge0_198, ge0_199, ge0_255, ge0_256, ge0_300, ge0_399, ge0_400, ge0_500, ge0_900, ge0_999, ge0_1000, ge0_1001, ge0_1024, ge0_2048, ge0_2176, ge0_3536, ge0_4095, ge0_4096, ge0_5580, ge0_11160, ge0_12345, ge0_1103, ge0_99999, ge0_1000000, ge0_1000003, ge0_100000000, ge0_1000000000, hC.all, ed, xin, p1, c1, l1, hlk, ek, ne10, ne10L, ne01, ne01L, tt_imp, nt_imp, ff_imp, nf_imp, true_and, and_true, true_or, or_true, reduceIte]
    exact hK
  · rw [if_neg q] at hK
    have ed : (nI d = 0) = False := eq_false (fun z => q ((nI_eq (b := 0) (by omega) (by decide)).mp z))
    simp only [k_Search_leadOfMoves_137, k_Search_leadOfMoves_161, k_Search_leadOfMoves_164, w_iadd, w_isub, w_imul, w_iand, w_ior, w_ixor, w_ishl, w_ishr, w_iushr, w_idiv, w_irem, w_ineg, w_ladd, w_lsub, w_lmul, w_ldiv, w_lrem, w_i2l, w_l2i, w_i2c, w_lcmp, w_dup_int, w_pop_int, w_dup_ref, w_pop_ref, w_dup_retAddr, w_pop_retAddr, w_dup2, w_I, w_L, w_Null, w_Ild, w_Lld, w_Ald, w_Ist, w_Lst, w_Ast, w_Iinc, w_if_eq, w_icmp_eq, w_if_ne, w_icmp_ne, w_if_lt, w_icmp_lt, w_if_ge, w_icmp_ge, w_if_gt, w_icmp_gt, w_if_le, w_icmp_le, w_GetI, w_GetL, w_GetR, w_PutI, w_PutZ, w_PutL, w_PutR, w_PutN, w_Iald, w_Zald, w_Lald, w_Aald, w_Iast, w_Zast, w_Last, w_AastR, w_AastN, w_Alen, w_New, w_NewA, w_Mna, w_Iret, w_Zret, w_Cret, w_Bret, w_Lret, w_AretR, w_AretN, w_Vret, w_Obj, w_IfNN, w_IfNR, w_Copy, w_Cln, w_Cast, w_SfA, w_SfI, w_SfQ, w_Str, w_ScLd, w_ScLen, w_CV0, w_CS0, w_CV1, w_CS1, w_CV2, w_CS2, w_CV3, w_CS3, w_CV4, w_CS4, w_CV5, w_CS5, List.getElem?_cons_zero, List.getElem?_cons_succ, List.set_cons_zero, List.set_cons_succ, List.length_cons, List.length_nil, List.map_cons, List.map_nil, List.sum_cons, List.sum_nil, List.nil_append, List.cons_append, Option.toList_some, Option.toList_none, Value.category, xok, va_rf, true_and, and_true, and_self, Nat.reduceAdd, Nat.reduceLT, Nat.reduceLeDiff, Nat.reduceEqDiff, Nat.reduceMul, beq_self_eq_true, decide_true, ite_true, ite_false, if_true, if_false, reduceIte, Bool.true_eq_false, Bool.false_eq_true, eq_self_iff_true, Nat.zero_le, not_true_eq_false, not_false_eq_true, forall_const, false_implies, implies_true, forall_false, stI_C, stI_N, stI_Z, stI_S, stI_L, stI_R, stL_C, stL_N, stL_Z, stL_S, stL_I, stL_R, stR_C, stR_N, stR_Z, stR_S, stR_I, stR_L, stA_C, stA_N, stA_Z, stA_S, stA_L, stA_R, stI_I, stL_L, stR_R, stA_I, stN_C, stN_N, stN_Z, stN_S, stN_I, stN_L, stN_R, stI_ne, stL_ne, stR_ne, tn_0, tn_1, tn_2, tn_3, tn_4, tn_5, tn_6, tn_7, tn_8, tn_9, tn_10, tn_11, tn_12, tn_13, tn_14, tn_15, tn_16, tn_17, tn_18, tn_19, tn_20, tn_21, tn_22, tn_23, tn_24, tn_25, tn_26, tn_27, tn_28, tn_29, tn_30, tn_31, tn_32, tn_33, tn_34, tn_35, tn_36, tn_37, tn_38, tn_39, tn_40, tn_41, tn_42, tn_43, tn_44, tn_45, tn_46, tn_47, tn_48, tn_49, tn_50, tn_51, tn_52, tn_53, tn_54, tn_55, tn_56, tn_57, tn_58, tn_59, tn_60, tn_61, tn_62, tn_63, tn_64, tn_65, tn_66, tn_67, tn_68, tn_69, tn_70, tn_71, tn_72, tn_73, tn_74, tn_75, tn_76, tn_77, tn_78, tn_79, tn_80, tn_81, tn_82, tn_83, tn_84, tn_85, tn_86, tn_87, tn_88, tn_89, tn_90, tn_91, tn_92, tn_93, tn_94, tn_95, tn_96, tn_97, tn_98, tn_99, tn_100, tn_101, tn_102, tn_103, tn_104, tn_105, tn_106, tn_107, tn_108, tn_109, tn_110, tn_111, tn_112, tn_113, tn_114, tn_115, tn_116, tn_117, tn_118, tn_119, tn_120, tn_121, tn_122, tn_123, tn_124, tn_125, tn_126, tn_127, tn_128, tn_129, tn_130, tn_131, tn_132, tn_133, tn_134, tn_135, tn_136, tn_137, tn_138, tn_139, tn_140, tn_141, tn_142, tn_143, tn_144, tn_145, tn_146, tn_147, tn_148, tn_149, tn_150, tn_151, tn_152, tn_153, tn_154, tn_155, tn_156, tn_157, tn_158, tn_159, tn_160, tn_161, tn_162, tn_163, tn_164, tn_165, tn_166, tn_167, tn_168, tn_169, tn_170, tn_171, tn_172, tn_173, tn_174, tn_175, tn_176, tn_177, tn_178, tn_179, tn_180, tn_181, tn_182, tn_183, tn_184, tn_185, tn_186, tn_187, tn_188, tn_189, tn_190, tn_191, tn_192, tn_193, tn_194, tn_195, tn_196, tn_197, tn_198, tn_199, tn_255, tn_256, tn_300, tn_399, tn_400, tn_500, tn_900, tn_999, tn_1000, tn_1001, tn_1024, tn_2048, tn_2176, tn_3536, tn_4095, tn_4096, tn_5580, tn_11160, tn_12345, tn_1103, tn_99999, tn_1000000, tn_1000003, tn_100000000, tn_1000000000, ge0_0, ge0_1, ge0_2, ge0_3, ge0_4, ge0_5, ge0_6, ge0_7, ge0_8, ge0_9, ge0_10, ge0_11, ge0_12, ge0_13, ge0_14, ge0_15, ge0_16, ge0_17, ge0_18, ge0_19, ge0_20, ge0_21, ge0_22, ge0_23, ge0_24, ge0_25, ge0_26, ge0_27, ge0_28, ge0_29, ge0_30, ge0_31, ge0_32, ge0_33, ge0_34, ge0_35, ge0_36, ge0_37, ge0_38, ge0_39, ge0_40, ge0_41, ge0_42, ge0_43, ge0_44, ge0_45, ge0_46, ge0_47, ge0_48, ge0_49, ge0_50, ge0_51, ge0_52, ge0_53, ge0_54, ge0_55, ge0_56, ge0_57, ge0_58, ge0_59, ge0_60, ge0_61, ge0_62, ge0_63, ge0_64, ge0_65, ge0_66, ge0_67, ge0_68, ge0_69, ge0_70, ge0_71, ge0_72, ge0_73, ge0_74, ge0_75, ge0_76, ge0_77, ge0_78, ge0_79, ge0_80, ge0_81, ge0_82, ge0_83, ge0_84, ge0_85, ge0_86, ge0_87, ge0_88, ge0_89, ge0_90, ge0_91, ge0_92, ge0_93, ge0_94, ge0_95, ge0_96, ge0_97, ge0_98, ge0_99, ge0_100, ge0_101, ge0_102, ge0_103, ge0_104, ge0_105, ge0_106, ge0_107, ge0_108, ge0_109, ge0_110, ge0_111, ge0_112, ge0_113, ge0_114, ge0_115, ge0_116, ge0_117, ge0_118, ge0_119, ge0_120, ge0_121, ge0_122, ge0_123, ge0_124, ge0_125, ge0_126, ge0_127, ge0_128, ge0_129, ge0_130, ge0_131, ge0_132, ge0_133, ge0_134, ge0_135, ge0_136, ge0_137, ge0_138, ge0_139, ge0_140, ge0_141, ge0_142, ge0_143, ge0_144, ge0_145, ge0_146, ge0_147, ge0_148, ge0_149, ge0_150, ge0_151, ge0_152, ge0_153, ge0_154, ge0_155, ge0_156, ge0_157, ge0_158, ge0_159, ge0_160, ge0_161, ge0_162, ge0_163, ge0_164, ge0_165, ge0_166, ge0_167, ge0_168, ge0_169, ge0_170, ge0_171, ge0_172, ge0_173, ge0_174, ge0_175, ge0_176, ge0_177, ge0_178, ge0_179, ge0_180, ge0_181, ge0_182, ge0_183, ge0_184, ge0_185, ge0_186, ge0_187, ge0_188, ge0_189, ge0_190, ge0_191, ge0_192, ge0_193, ge0_194, ge0_195, ge0_196, ge0_197, ge0_198, ge0_199, ge0_255, ge0_256, ge0_300, ge0_399, ge0_400, ge0_500, ge0_900, ge0_999, ge0_1000, ge0_1001, ge0_1024, ge0_2048, ge0_2176, ge0_3536, ge0_4095, ge0_4096, ge0_5580, ge0_11160, ge0_12345, ge0_1103, ge0_99999, ge0_1000000, ge0_1000003, ge0_100000000, ge0_1000000000, hC.all, ed, ek, ne10, ne10L, ne01, ne01L, tt_imp, nt_imp, ff_imp, nf_imp, true_and, and_true, true_or, or_true, reduceIte]
    exact hK
theorem lm_107 {D : Nat → XD} {NT : Int32} (hk107 : k_Search_leadOfMoves_107 = fun Q K7 => (xIst 9 (xIld 5 (xI NT (xicmp_eq (k_Search_leadOfMoves_137 Q K7) (xIld 3 (xif_ne (xIld 9 (xIld 5 (xicmp_ge (k_Search_leadOfMoves_164 Q K7) (k_Search_leadOfMoves_137 Q K7)))) (xIld 9 (xIld 5 (xicmp_le (k_Search_leadOfMoves_164 Q K7) (k_Search_leadOfMoves_137 Q K7))))))))))) (hNT : ∀ z : Int, -100000 ≤ z → z ≤ 100000 → (zI z = NT) = False) {G : XH} (hC : CS G) {K : XK} {Q : XR → Prop} {k d n who : Nat} {lt : Nat → Nat} (hk : k < n) (hn : n ≤ 8) (hd : d ≤ 8) (hw2 : who < 2) (hS : SLt G n lt) {o : Option (Int × Nat)} (ho : ∀ q, o = some q → -100000 ≤ q.1 ∧ q.1 ≤ 100000) {v : Int} (hv1 : -100000 ≤ v) (hv2 : v ≤ 100000) {F0 : Int32} (h9 : hpI G 58 9 = fiI d lt F0 o) {a1 a2 a9 : Option Value} {a7 a8 : Int32} (hK : ∀ G', (G' = G ∨ ∃ x, G' = stI G 58 9 x) → hpI G' 58 9 = fiI d lt F0 (updG who o v k) → ∀ a9, WP K [some (.ref 58), a1, a2, some (.int (nI who)), some (.int (nI d)), some (.int (beI NT (updG who o v k))), some (.int (nI (k + 1))), some (.int a7), some (.int a8), a9] [] G' Q) : WP (k_Search_leadOfMoves_107 D K) [some (.ref 58), a1, a2, some (.int (nI who)), some (.int (nI d)), some (.int (beI NT o)), some (.int (nI k)), some (.int a7), some (.int a8), a9] [.int (zI v)] G Q := by
  rw [hk107]
  have hup : updG who o v k = some (v, k) → WP (k_Search_leadOfMoves_137 D K) [some (.ref 58), a1, a2, some (.int (nI who)), some (.int (nI d)), some (.int (beI NT o)), some (.int (nI k)), some (.int a7), some (.int a8), some (.int (zI v))] [] G Q := by
    intro hu
    refine lm_137 hC hk hn hd hS ?_
    have := hK (stI G 58 9 (if d = 0 then nI (lt k) else hpI G 58 9)) (Or.inr ⟨_, rfl⟩) (by
      rw [stI_up, hpI_stA, up_eq, hu]
      unfold fiI
      by_cases q : d = 0
      · rw [if_pos q, if_pos q]
      · rw [if_neg q, if_neg q, h9]
        unfold fiI
        rw [if_neg q]) (some (.int (zI v)))
    rw [hu] at this
    exact this
  have hno : updG who o v k = o → WP (k_Search_leadOfMoves_164 D K) [some (.ref 58), a1, a2, some (.int (nI who)), some (.int (nI d)), some (.int (beI NT o)), some (.int (nI k)), some (.int a7), some (.int a8), some (.int (zI v))] [] G Q := by
    intro hu
    refine lm_164 ?_
    have := hK G (Or.inl rfl) (by rw [hu]; exact h9) (some (.int (zI v)))
    rw [hu] at this
    exact this
  cases o with
  | none =>
    obtain ⟨B, hB⟩ : ∃ B, B = beI NT none := ⟨_, rfl⟩
    have e1 : (B = NT) = True := eq_true hB
    have := hup rfl
    rw [← hB] at this ⊢
    simp only [w_iadd, w_isub, w_imul, w_iand, w_ior, w_ixor, w_ishl, w_ishr, w_iushr, w_idiv, w_irem, w_ineg, w_ladd, w_lsub, w_lmul, w_ldiv, w_lrem, w_i2l, w_l2i, w_i2c, w_lcmp, w_dup_int, w_pop_int, w_dup_ref, w_pop_ref, w_dup_retAddr, w_pop_retAddr, w_dup2, w_I, w_L, w_Null, w_Ild, w_Lld, w_Ald, w_Ist, w_Lst, w_Ast, w_Iinc, w_if_eq, w_icmp_eq, w_if_ne, w_icmp_ne, w_if_lt, w_icmp_lt, w_if_ge, w_icmp_ge, w_if_gt, w_icmp_gt, w_if_le, w_icmp_le, w_GetI, w_GetL, w_GetR, w_PutI, w_PutZ, w_PutL, w_PutR, w_PutN, w_Iald, w_Zald, w_Lald, w_Aald, w_Iast, w_Zast, w_Last, w_AastR, w_AastN, w_Alen, w_New, w_NewA, w_Mna, w_Iret, w_Zret, w_Cret, w_Bret, w_Lret, w_AretR, w_AretN, w_Vret, w_Obj, w_IfNN, w_IfNR, w_Copy, w_Cln, w_Cast, w_SfA, w_SfI, w_SfQ, w_Str, w_ScLd, w_ScLen, w_CV0, w_CS0, w_CV1, w_CS1, w_CV2, w_CS2, w_CV3, w_CS3, w_CV4, w_CS4, w_CV5, w_CS5, List.getElem?_cons_zero, List.getElem?_cons_succ, List.set_cons_zero, List.set_cons_succ, List.length_cons, List.length_nil, List.map_cons, List.map_nil, List.sum_cons, List.sum_nil, List.nil_append, List.cons_append, Option.toList_some, Option.toList_none, Value.category, xok, va_rf, true_and, and_true, and_self, Nat.reduceAdd, Nat.reduceLT, Nat.reduceLeDiff, Nat.reduceEqDiff, Nat.reduceMul, beq_self_eq_true, decide_true, ite_true, ite_false, if_true, if_false, reduceIte, Bool.true_eq_false, Bool.false_eq_true, eq_self_iff_true, Nat.zero_le, not_true_eq_false, not_false_eq_true, forall_const, false_implies, implies_true, forall_false, e1, ne10, ne10L, ne01, ne01L, tt_imp, nt_imp, ff_imp, nf_imp, true_and, and_true, true_or, or_true, reduceIte]
    exact this
  | some q =>
    obtain ⟨q1, q2⟩ := ho q rfl
    have hB : beI NT (some q) = zI q.1 := rfl
    rw [hB] at hup hno ⊢
    have e1 := hNT q.1 q1 q2
    have l1 : (zI q.1 ≤ zI v) = (q.1 ≤ v) := zI_le (by omega) (by omega) (by omega) (by omega)
    have l2 : (zI v ≤ zI q.1) = (v ≤ q.1) := zI_le (by omega) (by omega) (by omega) (by omega)
    by_cases w0 : who = 0
    · have ew : (nI who = 0) = True := eq_true (by rw [w0]; rfl)
      simp only [w_iadd, w_isub, w_imul, w_iand, w_ior, w_ixor, w_ishl, w_ishr, w_iushr, w_idiv, w_irem, w_ineg, w_ladd, w_lsub, w_lmul, w_ldiv, w_lrem, w_i2l, w_l2i, w_i2c, w_lcmp, w_dup_int, w_pop_int, w_dup_ref, w_pop_ref, w_dup_retAddr, w_pop_retAddr, w_dup2, w_I, w_L, w_Null, w_Ild, w_Lld, w_Ald, w_Ist, w_Lst, w_Ast, w_Iinc, w_if_eq, w_icmp_eq, w_if_ne, w_icmp_ne, w_if_lt, w_icmp_lt, w_if_ge, w_icmp_ge, w_if_gt, w_icmp_gt, w_if_le, w_icmp_le, w_GetI, w_GetL, w_GetR, w_PutI, w_PutZ, w_PutL, w_PutR, w_PutN, w_Iald, w_Zald, w_Lald, w_Aald, w_Iast, w_Zast, w_Last, w_AastR, w_AastN, w_Alen, w_New, w_NewA, w_Mna, w_Iret, w_Zret, w_Cret, w_Bret, w_Lret, w_AretR, w_AretN, w_Vret, w_Obj, w_IfNN, w_IfNR, w_Copy, w_Cln, w_Cast, w_SfA, w_SfI, w_SfQ, w_Str, w_ScLd, w_ScLen, w_CV0, w_CS0, w_CV1, w_CS1, w_CV2, w_CS2, w_CV3, w_CS3, w_CV4, w_CS4, w_CV5, w_CS5, List.getElem?_cons_zero, List.getElem?_cons_succ, List.set_cons_zero, List.set_cons_succ, List.length_cons, List.length_nil, List.map_cons, List.map_nil, List.sum_cons, List.sum_nil, List.nil_append, List.cons_append, Option.toList_some, Option.toList_none, Value.category, xok, va_rf, true_and, and_true, and_self, Nat.reduceAdd, Nat.reduceLT, Nat.reduceLeDiff, Nat.reduceEqDiff, Nat.reduceMul, beq_self_eq_true, decide_true, ite_true, ite_false, if_true, if_false, reduceIte, Bool.true_eq_false, Bool.false_eq_true, eq_self_iff_true, Nat.zero_le, not_true_eq_false, not_false_eq_true, forall_const, false_implies, implies_true, forall_false, e1, ew, l2, ne10, ne10L, ne01, ne01L, tt_imp, nt_imp, ff_imp, nf_imp, true_and, and_true, true_or, or_true, reduceIte]
      refine ⟨fun z => hno (if_neg (by omega)), fun z => hup (if_pos (Or.inl ⟨w0, by omega⟩))⟩
    · have ew : (nI who = 0) = False := eq_false (fun z => w0 ((nI_eq (b := 0) (by omega) (by decide)).mp z))
      simp only [w_iadd, w_isub, w_imul, w_iand, w_ior, w_ixor, w_ishl, w_ishr, w_iushr, w_idiv, w_irem, w_ineg, w_ladd, w_lsub, w_lmul, w_ldiv, w_lrem, w_i2l, w_l2i, w_i2c, w_lcmp, w_dup_int, w_pop_int, w_dup_ref, w_pop_ref, w_dup_retAddr, w_pop_retAddr, w_dup2, w_I, w_L, w_Null, w_Ild, w_Lld, w_Ald, w_Ist, w_Lst, w_Ast, w_Iinc, w_if_eq, w_icmp_eq, w_if_ne, w_icmp_ne, w_if_lt, w_icmp_lt, w_if_ge, w_icmp_ge, w_if_gt, w_icmp_gt, w_if_le, w_icmp_le, w_GetI, w_GetL, w_GetR, w_PutI, w_PutZ, w_PutL, w_PutR, w_PutN, w_Iald, w_Zald, w_Lald, w_Aald, w_Iast, w_Zast, w_Last, w_AastR, w_AastN, w_Alen, w_New, w_NewA, w_Mna, w_Iret, w_Zret, w_Cret, w_Bret, w_Lret, w_AretR, w_AretN, w_Vret, w_Obj, w_IfNN, w_IfNR, w_Copy, w_Cln, w_Cast, w_SfA, w_SfI, w_SfQ, w_Str, w_ScLd, w_ScLen, w_CV0, w_CS0, w_CV1, w_CS1, w_CV2, w_CS2, w_CV3, w_CS3, w_CV4, w_CS4, w_CV5, w_CS5, List.getElem?_cons_zero, List.getElem?_cons_succ, List.set_cons_zero, List.set_cons_succ, List.length_cons, List.length_nil, List.map_cons, List.map_nil, List.sum_cons, List.sum_nil, List.nil_append, List.cons_append, Option.toList_some, Option.toList_none, Value.category, xok, va_rf, true_and, and_true, and_self, Nat.reduceAdd, Nat.reduceLT, Nat.reduceLeDiff, Nat.reduceEqDiff, Nat.reduceMul, beq_self_eq_true, decide_true, ite_true, ite_false, if_true, if_false, reduceIte, Bool.true_eq_false, Bool.false_eq_true, eq_self_iff_true, Nat.zero_le, not_true_eq_false, not_false_eq_true, forall_const, false_implies, implies_true, forall_false, e1, ew, l1, ne10, ne10L, ne01, ne01L, tt_imp, nt_imp, ff_imp, nf_imp, true_and, and_true, true_or, or_true, reduceIte]
      refine ⟨fun z => hno (if_neg (by omega)), fun z => hup (if_pos (Or.inr ⟨w0, by omega⟩))⟩
