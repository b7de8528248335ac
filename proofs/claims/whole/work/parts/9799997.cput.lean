/-- a code works out a function, whatever stands around it -/
def RSem (I : Nat → Nat × Nat) (p q h : Nat) (f : SF) : Prop := ∀ I' : Nat → Nat × Nat, (∀ k, p ≤ k → k < q → I' k = I k) → Sem I' p q h f
def RG (nw : Nat) (I : Nat → Nat × Nat) (p q : Nat) : Prop := ∀ k, p ≤ k → k < q → (I k).1 ≤ 12 ∧ (I k).2 ≤ 1001 ∧ ((I k).1 = 1 → (I k).2 < nw) ∧ ((I k).1 = 0 → (I k).2 ≤ 1000) ∧ ((I k).1 = 11 ∨ (I k).1 = 12 → k < (I k).2 ∧ (I k).2 ≤ q ∧ (I k).2 ≤ 400)
def OKc (nw : Nat) (I : Nat → Nat × Nat) (p q h : Nat) (f : SF) : Prop := p < q ∧ 1 ≤ h ∧ RSem I p q h f ∧ RG nw I p q
theorem OKc.congr {nw : Nat} {I I' : Nat → Nat × Nat} {p q h : Nat} {f : SF} (k : OKc nw I p q h f) (e : ∀ k, p ≤ k → k < q → I' k = I k) : OKc nw I' p q h f := ⟨k.1, k.2.1, fun J hJ => k.2.2.1 J (fun j h1 h2 => (hJ j h1 h2).trans (e j h1 h2)), fun j h1 h2 => by rw [e j h1 h2]; exact k.2.2.2 j h1 h2⟩
theorem RG.le {nw : Nat} {I : Nat → Nat × Nat} {p q q' : Nat} (h : RG nw I p q) (hq : q ≤ q') : ∀ k, p ≤ k → k < q → (I k).1 ≤ 12 ∧ (I k).2 ≤ 1001 ∧ ((I k).1 = 1 → (I k).2 < nw) ∧ ((I k).1 = 0 → (I k).2 ≤ 1000) ∧ ((I k).1 = 11 ∨ (I k).1 = 12 → k < (I k).2 ∧ (I k).2 ≤ q' ∧ (I k).2 ≤ 400) := fun k h1 h2 => by
  obtain ⟨a, b, c, d, e⟩ := h k h1 h2
  exact ⟨a, b, c, d, fun z => ⟨(e z).1, by have := (e z).2.1; omega, (e z).2.2⟩⟩
theorem OKc_num {nw : Nat} {I : Nat → Nat × Nat} {p n : Nat} (h : I p = (0, n)) (hn : n ≤ 1000) : OKc nw I p (p + 1) 1 (fun _ => some (Int64.ofNat n)) := ⟨by omega, by omega, fun I' e => sem_num (by rw [e p (by omega) (by omega)]; exact h), fun k h1 h2 => by
  have : k = p := by omega
  rw [this, h]
  exact ⟨by simp, by show n ≤ 1001; omega, fun z => absurd z (by simp), fun _ => hn, fun z => absurd z (by simp)⟩⟩
theorem OKc_word {nw : Nat} {I : Nat → Nat × Nat} {p n : Nat} (h : I p = (1, n)) (hn : n < nw) (hw : nw ≤ 1000) : OKc nw I p (p + 1) 1 (fun e => some (e n)) := ⟨by omega, by omega, fun I' e => sem_word (by rw [e p (by omega) (by omega)]; exact h), fun k h1 h2 => by
  have : k = p := by omega
  rw [this, h]
  exact ⟨by simp, by show n ≤ 1001; omega, fun _ => hn, fun z => absurd z (by simp), fun z => absurd z (by simp)⟩⟩
theorem OKc_bin {nw : Nat} {I : Nat → Nat × Nat} {p q r o h1 h2 : Nat} {f g : SF} (hf : OKc nw I p q h1 f) (hg : OKc nw I q r h2 g) (ho : 2 ≤ o ∧ o ≤ 9) (h : I r = (o, 0)) : OKc nw I p (r + 1) (h1 + h2) (fbin o f g) := by
  have a1 := hf.1
  have a2 := hg.1
  refine ⟨by omega, by have := hf.2.1; omega, fun I' e => ?_, fun k z1 z2 => ?_⟩
  · exact sem_bin (hf.2.2.1 I' (fun k y1 y2 => e k (by omega) (by omega))) (hg.2.2.1 I' (fun k y1 y2 => e k (by omega) (by omega))) hf.2.1 hg.2.1 (by omega) ho (by rw [e r (by omega) (by omega)]; exact h)
  · rcases (show k < q ∨ (q ≤ k ∧ k < r) ∨ k = r by omega) with y | y | y
    · exact hf.2.2.2.le (by omega) k z1 y
    · exact hg.2.2.2.le (by omega) k y.1 y.2
    · rw [y, h]
      exact ⟨by show o ≤ 12; omega, by show 0 ≤ 1001; omega, fun z => absurd z (by show ¬ o = 1; omega), fun z => absurd z (by show ¬ o = 0; omega), fun z => absurd z (by show ¬ (o = 11 ∨ o = 12); omega)⟩
theorem OKc_not {nw : Nat} {I : Nat → Nat × Nat} {p q h1 : Nat} {f : SF} (hf : OKc nw I p q h1 f) (h : I q = (10, 0)) : OKc nw I p (q + 1) h1 (fnot f) := by
  have a1 := hf.1
  refine ⟨by omega, hf.2.1, fun I' e => ?_, fun k z1 z2 => ?_⟩
  · exact sem_not (hf.2.2.1 I' (fun k y1 y2 => e k (by omega) (by omega))) hf.2.1 (by rw [e q (by omega) (by omega)]; exact h)
  · rcases (show k < q ∨ k = q by omega) with y | y
    · exact hf.2.2.2.le (by omega) k z1 y
    · rw [y, h]
      exact ⟨by simp, by simp, fun z => absurd z (by simp), fun z => absurd z (by simp), fun z => absurd z (by simp)⟩
theorem OKc_jmp {nw : Nat} {I : Nat → Nat × Nat} {p q r o h1 h2 : Nat} {f g : SF} (ho : o = 11 ∨ o = 12) (hf : OKc nw I p q h1 f) (hg : OKc nw I (q + 1) r h2 g) (h : I q = (o, r)) (hr : r ≤ 400) : OKc nw I p r (h1 + h2) (gCo o f g) := by
  have a1 := hf.1
  have a2 := hg.1
  refine ⟨by omega, by have := hf.2.1; omega, fun I' e => ?_, fun k z1 z2 => ?_⟩
  · have s1 := hf.2.2.1 I' (fun k y1 y2 => e k (by omega) (by omega))
    have s2 := hg.2.2.1 I' (fun k y1 y2 => e k (by omega) (by omega))
    have s3 : I' q = (o, r) := by rw [e q (by omega) (by omega)]; exact h
    unfold gCo
    rcases ho with rfl | rfl
    · rw [if_pos rfl]
      exact sem_or s1 s2 hf.2.1 (by omega) s3
    · rw [if_neg (by decide), if_pos rfl]
      exact sem_and s1 s2 hf.2.1 (by omega) s3
  · rcases (show k < q ∨ k = q ∨ (q + 1 ≤ k ∧ k < r) by omega) with y | y | y
    · exact hf.2.2.2.le (by omega) k z1 y
    · rw [y, h]
      exact ⟨by show o ≤ 12; omega, by show r ≤ 1001; omega, fun z => absurd z (by show ¬ o = 1; omega), fun z => absurd z (by show ¬ o = 0; omega), fun _ => ⟨by show q < r; omega, Nat.le_refl _, hr⟩⟩
    · exact hg.2.2.2 k y.1 y.2
/-- an instruction as the class writes it -/
def encC (o n : Nat) : Int32 := nI o ||| nI n <<< ((4 : Int32) &&& 31)
def dcC (v : Int32) : Nat × Nat := ((v &&& 15).toNatClampNeg, (v >>> 4).toNatClampNeg)
theorem enc_ok : ∀ o, o < 13 → ∀ n, n < 1002 → encC o n &&& 15 = nI o ∧ encC o n >>> 4 = nI n := by decide +kernel
theorem dc_enc {o n : Nat} (ho : o ≤ 12) (hn : n ≤ 1001) : dcC (encC o n) = (o, n) ∧ CI (encC o n) (dcC (encC o n)) := by
  obtain ⟨h1, h2⟩ := enc_ok o (by omega) n (by omega)
  have e : dcC (encC o n) = (o, n) := by
    unfold dcC
    rw [h1, h2, nI_clamp (by omega), nI_clamp (by omega)]
  exact ⟨e, by rw [e]; exact ⟨h1, h2, ho, hn⟩⟩
def cdC (G : XH) : Nat → Nat × Nat := fun k => dcC (hpI G 51 k)
/-- the class's reader of texts: at a token, so many parts, so long a code -/
def GST (G : XH) (b : Nat → Nat) (len : Nat) (od : Bool) (p c sz : Nat) : Prop := GLx G b len p ∧ hpI G 49 4 = (if od then 0 else 1) ∧ hpI G 49 5 = nI c ∧ hpI G 50 2 = nI sz ∧ sz ≤ p ∧ c ≤ 50
def WGx : Nat → Nat → Bool := fun a k => (a == 49 && (k == 5 || k == 6 || k == 7)) || (a == 50 && k == 2) || a == 51
theorem WSt_WGx (a k : Nat) (h : WGx a k = false) : WSt a k = false := by
  unfold WGx at h
  unfold WSt
  simp only [Bool.or_eq_false_iff, Bool.and_eq_false_iff] at h ⊢
  rcases h.1.1 with z | z
  · exact Or.inl z
  · exact Or.inr ⟨z.1.2, z.2⟩
def OKg (nw : Nat) (G : XH) (p q h : Nat) (f : SF) : Prop := OKc nw (cdC G) p q h f ∧ ∀ k, p ≤ k → k < q → CI (hpI G 51 k) (cdC G k)
theorem OKg.congr {nw : Nat} {G G' : XH} {p q h : Nat} {f : SF} (k : OKg nw G p q h f) (e : ∀ k, p ≤ k → k < q → hpI G' 51 k = hpI G 51 k) : OKg nw G' p q h f := ⟨k.1.congr (fun j h1 h2 => by unfold cdC; rw [e j h1 h2]), fun j h1 h2 => by unfold cdC; rw [e j h1 h2]; exact k.2 j h1 h2⟩
/-- what an answer of the class's reader says -/
def ERs (G : XH) (e : Nat) (r : XR) : Prop := r.1 = some (.int 0) ∧ Fr WGx G r.2 ∧ hpI r.2 49 6 = nI e
def OKs (b : Nat → Nat) (len : Nat) (od : Bool) (G : XH) (p c sz : Nat) (s : Nat × Nat × SF) (r : XR) : Prop := r.1 = some (.int 1) ∧ Fr WGx G r.2 ∧ (∀ j, j < sz → hpI r.2 51 j = hpI G 51 j) ∧ ∃ sz', sz' + p ≤ sz + s.1 ∧ GST r.2 b len od s.1 s.2.1 sz' ∧ OKg (if od then 21 else 10) r.2 sz sz' (s.2.1 - c) s.2.2
def GRs (b : Nat → Nat) (len : Nat) (od : Bool) (G : XH) (p c sz : Nat) (o : GR) (r : XR) : Prop := match o with
  | .error e => ERs G e r
  | .ok s => OKs b len od G p c sz s r
def GCS (b : Nat → Nat) (len : Nat) (od : Bool) (F : XD) (br : Nat) (g : Nat → Nat → GR) : Prop := ∀ G p c sz, GST G b len od p c sz → SP F [.ref 49, .int (nI br)] G (GRs b len od G p c sz (g p c))
theorem c_put {G : XH} (hC : CS G) {sz o n : Nat} (h2 : hpI G 50 2 = nI sz) (hs : sz < 400) (Q : XR → Prop) : SP D_Text_put [.ref 50, .int (nI o), .int (nI n)] G Q = Q (some (.int (nI sz)), stI (stI G 51 sz (encC o n)) 50 2 (nI (sz + 1))) := by
  have g : (Int32.ofNat 400 ≤ nI sz) = False := eq_false (by rw [show Int32.ofNat 400 = nI 400 from rfl, nl_le (by omega) (by omega)]; omega)
  have e1 : nI sz + 1 = nI (sz + 1) := nI_add sz 1
  have e2 : nI (sz + 1) - 1 = nI sz := nI_sub (a := sz + 1) (b := 1) (by omega)
  have ee : nI o ||| nI n <<< ((4 : Int32) &&& 31) = encC o n := rfl
  have p1 : 0 ≤ nI (sz) := nI_pos' (by omega)
  have c1 : (nI (sz)).toNatClampNeg = sz := nI_clamp (by omega)
  have l1 : sz < 400 := by omega
  rw [e_Text_put]
  simp only [k_Text_put_0, k_Text_put_36, w_iadd, w_isub, w_imul, w_iand, w_ior, w_ixor, w_ishl, w_ishr, w_iushr, w_idiv, w_irem, w_ineg, w_ladd, w_lsub, w_lmul, w_ldiv, w_lrem, w_i2l, w_l2i, w_i2c, w_lcmp, w_dup_int, w_pop_int, w_dup_ref, w_pop_ref, w_dup_retAddr, w_pop_retAddr, w_dup2, w_I, w_L, w_Null, w_Ild, w_Lld, w_Ald, w_Ist, w_Lst, w_Ast, w_Iinc, w_if_eq, w_icmp_eq, w_if_ne, w_icmp_ne, w_if_lt, w_icmp_lt, w_if_ge, w_icmp_ge, w_if_gt, w_icmp_gt, w_if_le, w_icmp_le, w_GetI, w_GetL, w_GetR, w_PutI, w_PutZ, w_PutL, w_PutR, w_PutN, w_Iald, w_Zald, w_Lald, w_Aald, w_Iast, w_Zast, w_Last, w_AastR, w_AastN, w_Alen, w_New, w_NewA, w_Mna, w_Iret, w_Zret, w_Cret, w_Bret, w_Lret, w_AretR, w_AretN, w_Vret, w_Obj, w_IfNN, w_IfNR, w_Copy, w_Cln, w_Cast, w_SfA, w_SfI, w_SfQ, w_Str, w_ScLd, w_ScLen, w_CV0, w_CS0, w_CV1, w_CS1, w_CV2, w_CS2, w_CV3, w_CS3, w_CV4, w_CS4, w_CV5, w_CS5, List.getElem?_cons_zero, List.getElem?_cons_succ, List.set_cons_zero, List.set_cons_succ, List.length_cons, List.length_nil, List.map_cons, List.map_nil, List.sum_cons, List.sum_nil, List.nil_append, List.cons_append, Option.toList_some, Option.toList_none, Value.category, xok, va_rf, true_and, and_true, and_self, Nat.reduceAdd, Nat.reduceLT, Nat.reduceLeDiff, Nat.reduceEqDiff, Nat.reduceMul, beq_self_eq_true, decide_true, ite_true, ite_false, if_true, if_false, reduceIte, Bool.true_eq_false, Bool.false_eq_true, eq_self_iff_true, Nat.zero_le, not_true_eq_false, not_false_eq_true, forall_const, false_implies, implies_true, forall_false, stI_C, stI_N, stI_Z, stI_S, stI_L, stI_R, stL_C, stL_N, stL_Z, stL_S, stL_I, stL_R, stR_C, stR_N, stR_Z, stR_S, stR_I, stR_L, stA_C, stA_N, stA_Z, stA_S, stA_L, stA_R, stI_I, stL_L, stR_R, stA_I, stN_C, stN_N, stN_Z, stN_S, stN_I, stN_L, stN_R, stI_ne, stL_ne, stR_ne, tn_0, tn_1, tn_2, tn_3, tn_4, tn_5, tn_6, tn_7, tn_8, tn_9, tn_10, tn_11, tn_12, tn_13, tn_14, tn_15, tn_16, tn_17, tn_18, tn_19, tn_20, tn_21, tn_22, tn_23, tn_24, tn_25, tn_26, tn_27, tn_28, tn_29, tn_30, tn_31, tn_32, tn_33, tn_34, tn_35, tn_36, tn_37, tn_38, tn_39, tn_40, tn_41, tn_42, tn_43, tn_44, tn_45, tn_46, tn_47, tn_48, tn_49, tn_50, tn_51, tn_52, tn_53, tn_54, tn_55, tn_56, tn_57, tn_58, tn_59, tn_60, tn_61, tn_62, tn_63, tn_64, tn_65, tn_66, tn_67, tn_68, tn_69, tn_70, tn_71, tn_72, tn_73, tn_74, tn_75, tn_76, tn_77, tn_78, tn_79, tn_80, tn_81, tn_82, tn_83, tn_84, tn_85, tn_86, tn_87, tn_88, tn_89, tn_90, tn_91, tn_92, tn_93, tn_94, tn_95, tn_96, tn_97, tn_98, tn_99, tn_100, tn_101, tn_102, tn_103, tn_104, tn_105, tn_106, tn_107, tn_108, tn_109, tn_110, tn_111, tn_112, tn_113, tn_114, tn_115, tn_116, tn_117, tn_118, tn_119, tn_120, tn_121, tn_122, tn_123, tn_124, tn_125, tn_126, tn_127, tn_128, tn_129, tn_130, tn_131, tn_132, tn_133, tn_134, tn_135, tn_136, tn_137, tn_138, tn_139, tn_140, tn_141, tn_142, tn_143, tn_144, tn_145, tn_146, tn_147, tn_148, tn_149, tn_150, tn_151, tn_152, tn_153, tn_154, tn_155, tn_156, tn_157, tn_158, tn_159, tn_160, tn_161, tn_162, tn_163, tn_164, tn_165, tn_166, tn_167, tn_168, tn_169, tn_170, tn_171, tn_172, tn_173, tn_174, tn_175, tn_176, tn_177, tn_178, tn_179, tn_180, tn_181, tn_182, tn_183, tn_184, tn_185, tn_186, tn_187, tn_188, tn_189, tn_190, tn_191, tn_192, tn_193, tn_194, tn_195, tn_196, tn_197, tn_198, tn_199, tn_255, tn_256, tn_300, tn_399, tn_400, tn_500, tn_900, tn_999, tn_1000, tn_1001, tn_1024, tn_2048, tn_2176, tn_3536, tn_4095, tn_4096, tn_5580, tn_11160, tn_12345, tn_1103, tn_99999, tn_1000000, tn_1000003, tn_100000000, tn_1000000000, ge0_0, ge0_1, ge0_2, ge0_3, ge0_4, ge0_5, ge0_6, ge0_7, ge0_8, ge0_9, ge0_10, ge0_11, ge0_12, ge0_13, ge0_14, ge0_15, ge0_16, ge0_17, ge0_18, ge0_19, ge0_20, ge0_21, ge0_22, ge0_23, ge0_24, ge0_25, ge0_26, ge0_27, ge0_28, ge0_29, ge0_30, ge0_31, ge0_32, ge0_33, ge0_34, ge0_35, ge0_36, ge0_37, ge0_38, ge0_39, ge0_40, ge0_41, ge0_42, ge0_43, ge0_44, ge0_45, ge0_46, ge0_47, ge0_48, ge0_49, ge0_50, ge0_51, ge0_52, ge0_53, ge0_54, ge0_55, ge0_56, ge0_57, ge0_58, ge0_59, ge0_60, ge0_61, ge0_62, ge0_63, ge0_64, ge0_65, ge0_66, ge0_67, ge0_68, ge0_69, ge0_70, ge0_71, ge0_72, ge0_73, ge0_74, ge0_75, ge0_76, ge0_77, ge0_78, ge0_79, ge0_80, ge0_81, ge0_82, ge0_83, ge0_84, ge0_85, ge0_86, ge0_87, ge0_88, ge0_89, ge0_90, ge0_91, ge0_92, ge0_93, ge0_94, ge0_95, ge0_96, ge0_97, ge0_98, ge0_99, ge0_100, ge0_101, ge0_102, ge0_103, ge0_104, ge0_105, ge0_106, ge0_107, ge0_108, ge0_109, ge0_110, ge0_111, ge0_112, ge0_113, ge0_114, ge0_115, ge0_116, ge0_117, ge0_118, ge0_119, ge0_120, ge0_121, ge0_122, ge0_123, ge0_124, ge0_125, ge0_126, ge0_127, ge0_128, ge0_129, ge0_130, ge0_131, ge0_132, ge0_133, ge0_134, ge0_135, ge0_136, ge0_137, ge0_138, ge0_139, ge0_140, ge0_141, ge0_142, ge0_143, ge0_144, ge0_145, ge0_146, ge0_147, ge0_148, ge0_149, ge0_150, ge0_151, ge0_152, ge0_153, ge0_154, ge0_155, ge0_156, ge0_157, ge0_158, ge0_159, ge0_160, ge0_161, ge0_162, ge0_163, ge0_164, ge0_165, ge0_166, ge0_167, ge0_168, ge0_169, ge0_170, ge0_171, ge0_172, ge0_173, ge0_174, ge0_175, ge0_176, ge0_177, ge0_178, ge0_179, ge0_180, ge0_181, ge0_182, ge0_183, ge0_184, ge0_185, ge0_186, ge0_187, ge0_188, ge0_189, ge0_190, ge0_191, ge0_192, ge0_193, ge0_194, ge0_195, ge0_196, ge0_197, ge0_198, ge0_199, ge0_255, ge0_256, ge0_300, ge0_399, ge0_400, ge0_500, ge0_900, ge0_999, ge0_1000, ge0_1001, ge0_1024, ge0_2048, ge0_2176, ge0_3536, ge0_4095, ge0_4096, ge0_5580, ge0_11160, ge0_12345, ge0_1103, ge0_99999, ge0_1000000, ge0_1000003, ge0_100000000, ge0_1000000000, hC.all, h2, g, xin, p1, c1, l1, ee, e1, e2, ne10, ne10L, ne01, ne01L, tt_imp, nt_imp, ff_imp, nf_imp, true_and, and_true, true_or, or_true, reduceIte]
/-- the heap behind a put -/
theorem put_fr {G : XH} {sz : Nat} {v : Int32} : Fr WGx G (stI (stI G 51 sz v) 50 2 (nI (sz + 1))) := (Fr.refl.wI rfl).wI rfl
theorem put_at {G : XH} {sz : Nat} {v w : Int32} : hpI (stI (stI G 51 sz v) 50 2 w) 51 = up (hpI G 51) sz v := by
  rw [stI_up, hpI_stA_ne (by decide), stI_up, hpI_stA]
theorem put_ne {G : XH} {sz : Nat} {v w : Int32} {a : Nat} (h1 : ¬ a = 51) (h2 : ¬ a = 50) : hpI (stI (stI G 51 sz v) 50 2 w) a = hpI G a := by
  rw [stI_up, hpI_stA_ne h2, stI_up, hpI_stA_ne h1]
theorem put_GST {G : XH} {b : Nat → Nat} {len : Nat} {od : Bool} {p c sz : Nat} {v : Int32} (h : GST G b len od p c sz) (hs : sz + 1 ≤ p) : GST (stI (stI G 51 sz v) 50 2 (nI (sz + 1))) b len od p c (sz + 1) := by
  have f := put_fr (G := G) (sz := sz) (v := v)
  obtain ⟨⟨a1, a2, a3, a4, a5, a6⟩, b1, b2, b3, b4, b5⟩ := h
  refine ⟨⟨f.cs a1, a2.fr f (fun _ => rfl), ?_, ?_, ?_, a6⟩, ?_, ?_, ?_, hs, b5⟩
  · rw [put_ne (by decide) (by decide)]; exact a3
  · rw [put_ne (by decide) (by decide)]; exact a4
  · rw [put_ne (by decide) (by decide)]; exact a5
  · rw [put_ne (by decide) (by decide)]; exact b1
  · rw [put_ne (by decide) (by decide)]; exact b2
  · rw [stI_up, hpI_stA, up_eq]
/-- a step keeps the rest -/
theorem GST.st {G G' : XH} {b : Nat → Nat} {len : Nat} {od : Bool} {p p' c sz : Nat} (h : GST G b len od p c sz) (hf : Fr WSt G G') (hg : GLx G' b len p') (hp : p ≤ p') : GST G' b len od p' c sz := ⟨hg, (hf.I rfl).trans h.2.1, (hf.I rfl).trans h.2.2.1, (hf.I rfl).trans h.2.2.2.1, by have := h.2.2.2.2.1; omega, h.2.2.2.2.2⟩
theorem nx_ge {b : Nat → Nat} {len p : Nat} (h : p ≤ len) : p ≤ nxB b len p := by
  by_cases q : p < len
  · have := (nxB_le (b := b) (len := len) (p := p)).2 q
    omega
  · have h1 : teB b len p = len := by unfold teB; rw [if_pos (by omega)]
    have := skB_le (b := b) (len := len) (p := len) (Nat.le_refl _)
    unfold nxB
    rw [h1]
    omega
theorem w_word {G : XH} {b : Nat → Nat} {len p : Nat} (h : GLx G b len p) {i : Nat} {w : List Nat} (hw : STR i w) {X Y : XK} {A : List (Option Value)} (hA : A[0]? = some (some (.ref 49))) {r : List Value} (hr : (r.map Value.category).sum ≤ 8) (Q : XR → Prop) : WP (xAld 0 (xStr i (xCallV 4 1 D_Grammar_isWord (xif_eq X Y)))) A r G Q = if isW b len w p then WP Y A r G Q else WP X A r G Q := by
  have hC := h.1
  have hs := fun Q => c_isWord h hw Q
  rw [w_Ald, hA]
  dsimp only
  rw [w_Str, w_CallV (n := 1) (st := .retAddr i :: .ref 49 :: r) (j := 49) (r := r) rfl ⟨by simp, hr⟩]
  have ht : (List.take 1 (Value.retAddr i :: .ref 49 :: r)).reverse = [Value.retAddr i] := rfl
  rw [ht, hs]
  simp only [hC.all, true_and]
  cases isW b len w p with
  | true =>
    simp only [Option.toList_some, List.cons_append, List.nil_append, w_iadd, w_isub, w_imul, w_iand, w_ior, w_ixor, w_ishl, w_ishr, w_iushr, w_idiv, w_irem, w_ineg, w_ladd, w_lsub, w_lmul, w_ldiv, w_lrem, w_i2l, w_l2i, w_i2c, w_lcmp, w_dup_int, w_pop_int, w_dup_ref, w_pop_ref, w_dup_retAddr, w_pop_retAddr, w_dup2, w_I, w_L, w_Null, w_Ild, w_Lld, w_Ald, w_Ist, w_Lst, w_Ast, w_Iinc, w_if_eq, w_icmp_eq, w_if_ne, w_icmp_ne, w_if_lt, w_icmp_lt, w_if_ge, w_icmp_ge, w_if_gt, w_icmp_gt, w_if_le, w_icmp_le, w_GetI, w_GetL, w_GetR, w_PutI, w_PutZ, w_PutL, w_PutR, w_PutN, w_Iald, w_Zald, w_Lald, w_Aald, w_Iast, w_Zast, w_Last, w_AastR, w_AastN, w_Alen, w_New, w_NewA, w_Mna, w_Iret, w_Zret, w_Cret, w_Bret, w_Lret, w_AretR, w_AretN, w_Vret, w_Obj, w_IfNN, w_IfNR, w_Copy, w_Cln, w_Cast, w_SfA, w_SfI, w_SfQ, w_Str, w_ScLd, w_ScLen, w_CV0, w_CS0, w_CV1, w_CS1, w_CV2, w_CS2, w_CV3, w_CS3, w_CV4, w_CS4, w_CV5, w_CS5, List.getElem?_cons_zero, List.getElem?_cons_succ, List.set_cons_zero, List.set_cons_succ, List.length_cons, List.length_nil, List.map_cons, List.map_nil, List.sum_cons, List.sum_nil, List.nil_append, List.cons_append, Option.toList_some, Option.toList_none, Value.category, xok, va_rf, true_and, and_true, and_self, Nat.reduceAdd, Nat.reduceLT, Nat.reduceLeDiff, Nat.reduceEqDiff, Nat.reduceMul, beq_self_eq_true, decide_true, ite_true, ite_false, if_true, if_false, reduceIte, Bool.true_eq_false, Bool.false_eq_true, eq_self_iff_true, Nat.zero_le, not_true_eq_false, not_false_eq_true, forall_const, false_implies, implies_true, forall_false, reduceIte, ne10, ne10L, ne01, ne01L, tt_imp, nt_imp, ff_imp, nf_imp, true_and, and_true, true_or, or_true, reduceIte]
  | false =>
    simp only [Option.toList_some, List.cons_append, List.nil_append, w_iadd, w_isub, w_imul, w_iand, w_ior, w_ixor, w_ishl, w_ishr, w_iushr, w_idiv, w_irem, w_ineg, w_ladd, w_lsub, w_lmul, w_ldiv, w_lrem, w_i2l, w_l2i, w_i2c, w_lcmp, w_dup_int, w_pop_int, w_dup_ref, w_pop_ref, w_dup_retAddr, w_pop_retAddr, w_dup2, w_I, w_L, w_Null, w_Ild, w_Lld, w_Ald, w_Ist, w_Lst, w_Ast, w_Iinc, w_if_eq, w_icmp_eq, w_if_ne, w_icmp_ne, w_if_lt, w_icmp_lt, w_if_ge, w_icmp_ge, w_if_gt, w_icmp_gt, w_if_le, w_icmp_le, w_GetI, w_GetL, w_GetR, w_PutI, w_PutZ, w_PutL, w_PutR, w_PutN, w_Iald, w_Zald, w_Lald, w_Aald, w_Iast, w_Zast, w_Last, w_AastR, w_AastN, w_Alen, w_New, w_NewA, w_Mna, w_Iret, w_Zret, w_Cret, w_Bret, w_Lret, w_AretR, w_AretN, w_Vret, w_Obj, w_IfNN, w_IfNR, w_Copy, w_Cln, w_Cast, w_SfA, w_SfI, w_SfQ, w_Str, w_ScLd, w_ScLen, w_CV0, w_CS0, w_CV1, w_CS1, w_CV2, w_CS2, w_CV3, w_CS3, w_CV4, w_CS4, w_CV5, w_CS5, List.getElem?_cons_zero, List.getElem?_cons_succ, List.set_cons_zero, List.set_cons_succ, List.length_cons, List.length_nil, List.map_cons, List.map_nil, List.sum_cons, List.sum_nil, List.nil_append, List.cons_append, Option.toList_some, Option.toList_none, Value.category, xok, va_rf, true_and, and_true, and_self, Nat.reduceAdd, Nat.reduceLT, Nat.reduceLeDiff, Nat.reduceEqDiff, Nat.reduceMul, beq_self_eq_true, decide_true, ite_true, ite_false, if_true, if_false, reduceIte, Bool.true_eq_false, Bool.false_eq_true, eq_self_iff_true, Nat.zero_le, not_true_eq_false, not_false_eq_true, forall_const, false_implies, implies_true, forall_false, reduceIte, Bool.false_eq_true, ne10, ne10L, ne01, ne01L, tt_imp, nt_imp, ff_imp, nf_imp, true_and, and_true, true_or, or_true, reduceIte]
theorem ite_Q {c : Bool} {P : Option Nat → Prop} {X Y : Prop} {a r : Option Nat} (h1 : X = P a) (h2 : Y = P r) : (if c = true then X else Y) = P (if c = true then a else r) := by
  cases c with
  | true => exact h1
  | false => exact h2
theorem c_lawKind {G : XH} {b : Nat → Nat} {len p : Nat} (h : GLx G b len p) (Q : XR → Prop) : SP D_Grammar_lawKind [.ref 49] G Q = Q (some (.int (nuI (wIx b len p hdsW 0))), G) := by
  have s0 : STR 0 [119, 101, 101, 112, 115] := ⟨⟨_, rfl, rfl⟩, by decide, by decide⟩
  have s1 : STR 1 [116, 105, 114, 101, 115] := ⟨⟨_, rfl, rfl⟩, by decide, by decide⟩
  have s2 : STR 2 [114, 101, 115, 116, 115] := ⟨⟨_, rfl, rfl⟩, by decide, by decide⟩
  have s3 : STR 3 [108, 97, 117, 103, 104, 115] := ⟨⟨_, rfl, rfl⟩, by decide, by decide⟩
  have s4 : STR 4 [98, 97, 114, 115] := ⟨⟨_, rfl, rfl⟩, by decide, by decide⟩
  rw [e_Grammar_lawKind, k_Grammar_lawKind_0, w_word h s0 rfl (by simp), w_word h s1 rfl (by simp), w_word h s2 rfl (by simp), w_word h s3 rfl (by simp), w_word h s4 rfl (by simp)]
  simp only [hdsW, wIx, k_Grammar_lawKind_58, w_iadd, w_isub, w_imul, w_iand, w_ior, w_ixor, w_ishl, w_ishr, w_iushr, w_idiv, w_irem, w_ineg, w_ladd, w_lsub, w_lmul, w_ldiv, w_lrem, w_i2l, w_l2i, w_i2c, w_lcmp, w_dup_int, w_pop_int, w_dup_ref, w_pop_ref, w_dup_retAddr, w_pop_retAddr, w_dup2, w_I, w_L, w_Null, w_Ild, w_Lld, w_Ald, w_Ist, w_Lst, w_Ast, w_Iinc, w_if_eq, w_icmp_eq, w_if_ne, w_icmp_ne, w_if_lt, w_icmp_lt, w_if_ge, w_icmp_ge, w_if_gt, w_icmp_gt, w_if_le, w_icmp_le, w_GetI, w_GetL, w_GetR, w_PutI, w_PutZ, w_PutL, w_PutR, w_PutN, w_Iald, w_Zald, w_Lald, w_Aald, w_Iast, w_Zast, w_Last, w_AastR, w_AastN, w_Alen, w_New, w_NewA, w_Mna, w_Iret, w_Zret, w_Cret, w_Bret, w_Lret, w_AretR, w_AretN, w_Vret, w_Obj, w_IfNN, w_IfNR, w_Copy, w_Cln, w_Cast, w_SfA, w_SfI, w_SfQ, w_Str, w_ScLd, w_ScLen, w_CV0, w_CS0, w_CV1, w_CS1, w_CV2, w_CS2, w_CV3, w_CS3, w_CV4, w_CS4, w_CV5, w_CS5, List.getElem?_cons_zero, List.getElem?_cons_succ, List.set_cons_zero, List.set_cons_succ, List.length_cons, List.length_nil, List.map_cons, List.map_nil, List.sum_cons, List.sum_nil, List.nil_append, List.cons_append, Option.toList_some, Option.toList_none, Value.category, xok, va_rf, true_and, and_true, and_self, Nat.reduceAdd, Nat.reduceLT, Nat.reduceLeDiff, Nat.reduceEqDiff, Nat.reduceMul, beq_self_eq_true, decide_true, ite_true, ite_false, if_true, if_false, reduceIte, Bool.true_eq_false, Bool.false_eq_true, eq_self_iff_true, Nat.zero_le, not_true_eq_false, not_false_eq_true, forall_const, false_implies, implies_true, forall_false]
  exact ite_Q (P := fun o => Q (some (.int (nuI o)), G)) rfl (ite_Q (P := fun o => Q (some (.int (nuI o)), G)) rfl (ite_Q (P := fun o => Q (some (.int (nuI o)), G)) rfl (ite_Q (P := fun o => Q (some (.int (nuI o)), G)) rfl (ite_Q (P := fun o => Q (some (.int (nuI o)), G)) rfl (rfl)))))
theorem c_lawWord {G : XH} {b : Nat → Nat} {len p : Nat} (h : GLx G b len p) (Q : XR → Prop) : SP D_Grammar_lawWordNumber [.ref 49] G Q = Q (some (.int (nuI (wIx b len p lawW 0))), G) := by
  have s0 : STR 5 [114, 101, 97, 100, 101, 114] := ⟨⟨_, rfl, rfl⟩, by decide, by decide⟩
  have s1 : STR 6 [115, 111, 102, 116] := ⟨⟨_, rfl, rfl⟩, by decide, by decide⟩
  have s2 : STR 7 [116, 105, 114, 101, 100] := ⟨⟨_, rfl, rfl⟩, by decide, by decide⟩
  have s3 : STR 8 [104, 97, 100] := ⟨⟨_, rfl, rfl⟩, by decide, by decide⟩
  have s4 : STR 9 [103, 114, 105, 101, 102] := ⟨⟨_, rfl, rfl⟩, by decide, by decide⟩
  have s5 : STR 10 [106, 111, 107, 101] := ⟨⟨_, rfl, rfl⟩, by decide, by decide⟩
  have s6 : STR 11 [119, 101, 105, 103, 104, 116] := ⟨⟨_, rfl, rfl⟩, by decide, by decide⟩
  have s7 : STR 12 [119, 105, 116, 104] := ⟨⟨_, rfl, rfl⟩, by decide, by decide⟩
  have s8 : STR 13 [100, 97, 121] := ⟨⟨_, rfl, rfl⟩, by decide, by decide⟩
  have s9 : STR 14 [109, 111, 111, 100] := ⟨⟨_, rfl, rfl⟩, by decide, by decide⟩
  rw [e_Grammar_lawWordNumber, k_Grammar_lawWordNumber_0, w_word h s0 rfl (by simp), w_word h s1 rfl (by simp), w_word h s2 rfl (by simp), w_word h s3 rfl (by simp), w_word h s4 rfl (by simp), w_word h s5 rfl (by simp), w_word h s6 rfl (by simp), w_word h s7 rfl (by simp), w_word h s8 rfl (by simp), w_word h s9 rfl (by simp)]
  simp only [lawW, wIx, k_Grammar_lawWordNumber_116, k_Grammar_lawWordNumber_111, k_Grammar_lawWordNumber_117, w_iadd, w_isub, w_imul, w_iand, w_ior, w_ixor, w_ishl, w_ishr, w_iushr, w_idiv, w_irem, w_ineg, w_ladd, w_lsub, w_lmul, w_ldiv, w_lrem, w_i2l, w_l2i, w_i2c, w_lcmp, w_dup_int, w_pop_int, w_dup_ref, w_pop_ref, w_dup_retAddr, w_pop_retAddr, w_dup2, w_I, w_L, w_Null, w_Ild, w_Lld, w_Ald, w_Ist, w_Lst, w_Ast, w_Iinc, w_if_eq, w_icmp_eq, w_if_ne, w_icmp_ne, w_if_lt, w_icmp_lt, w_if_ge, w_icmp_ge, w_if_gt, w_icmp_gt, w_if_le, w_icmp_le, w_GetI, w_GetL, w_GetR, w_PutI, w_PutZ, w_PutL, w_PutR, w_PutN, w_Iald, w_Zald, w_Lald, w_Aald, w_Iast, w_Zast, w_Last, w_AastR, w_AastN, w_Alen, w_New, w_NewA, w_Mna, w_Iret, w_Zret, w_Cret, w_Bret, w_Lret, w_AretR, w_AretN, w_Vret, w_Obj, w_IfNN, w_IfNR, w_Copy, w_Cln, w_Cast, w_SfA, w_SfI, w_SfQ, w_Str, w_ScLd, w_ScLen, w_CV0, w_CS0, w_CV1, w_CS1, w_CV2, w_CS2, w_CV3, w_CS3, w_CV4, w_CS4, w_CV5, w_CS5, List.getElem?_cons_zero, List.getElem?_cons_succ, List.set_cons_zero, List.set_cons_succ, List.length_cons, List.length_nil, List.map_cons, List.map_nil, List.sum_cons, List.sum_nil, List.nil_append, List.cons_append, Option.toList_some, Option.toList_none, Value.category, xok, va_rf, true_and, and_true, and_self, Nat.reduceAdd, Nat.reduceLT, Nat.reduceLeDiff, Nat.reduceEqDiff, Nat.reduceMul, beq_self_eq_true, decide_true, ite_true, ite_false, if_true, if_false, reduceIte, Bool.true_eq_false, Bool.false_eq_true, eq_self_iff_true, Nat.zero_le, not_true_eq_false, not_false_eq_true, forall_const, false_implies, implies_true, forall_false]
  exact ite_Q (P := fun o => Q (some (.int (nuI o)), G)) rfl (ite_Q (P := fun o => Q (some (.int (nuI o)), G)) rfl (ite_Q (P := fun o => Q (some (.int (nuI o)), G)) rfl (ite_Q (P := fun o => Q (some (.int (nuI o)), G)) rfl (ite_Q (P := fun o => Q (some (.int (nuI o)), G)) rfl (ite_Q (P := fun o => Q (some (.int (nuI o)), G)) rfl (ite_Q (P := fun o => Q (some (.int (nuI o)), G)) rfl (ite_Q (P := fun o => Q (some (.int (nuI o)), G)) rfl (ite_Q (P := fun o => Q (some (.int (nuI o)), G)) rfl (ite_Q (P := fun o => Q (some (.int (nuI o)), G)) rfl (rfl))))))))))
def woI (o : Option Nat) : Int32 := match o with
  | none => -1
  | some k => nI (if k = 6 then 13 else k)
theorem c_ordWord {G : XH} {b : Nat → Nat} {len p : Nat} (h : GLx G b len p) (Q : XR → Prop) : SP D_Grammar_orderWordNumber [.ref 49] G Q = Q (some (.int (woI (wIx b len p ordW 0))), G) := by
  have s0 : STR 13 [100, 97, 121] := ⟨⟨_, rfl, rfl⟩, by decide, by decide⟩
  have s1 : STR 15 [108, 101, 116, 116, 101, 114, 115] := ⟨⟨_, rfl, rfl⟩, by decide, by decide⟩
  have s2 : STR 16 [111, 102, 102, 105, 99, 101] := ⟨⟨_, rfl, rfl⟩, by decide, by decide⟩
  have s3 : STR 17 [100, 111, 110, 101] := ⟨⟨_, rfl, rfl⟩, by decide, by decide⟩
  have s4 : STR 18 [112, 97, 105, 100] := ⟨⟨_, rfl, rfl⟩, by decide, by decide⟩
  have s5 : STR 7 [116, 105, 114, 101, 100] := ⟨⟨_, rfl, rfl⟩, by decide, by decide⟩
  have s6 : STR 19 [111, 119, 101, 100] := ⟨⟨_, rfl, rfl⟩, by decide, by decide⟩
  rw [e_Grammar_orderWordNumber, k_Grammar_orderWordNumber_0, w_word h s0 rfl (by simp), w_word h s1 rfl (by simp), w_word h s2 rfl (by simp), w_word h s3 rfl (by simp), w_word h s4 rfl (by simp), w_word h s5 rfl (by simp), w_word h s6 rfl (by simp)]
  simp only [ordW, wIx, k_Grammar_orderWordNumber_81, w_iadd, w_isub, w_imul, w_iand, w_ior, w_ixor, w_ishl, w_ishr, w_iushr, w_idiv, w_irem, w_ineg, w_ladd, w_lsub, w_lmul, w_ldiv, w_lrem, w_i2l, w_l2i, w_i2c, w_lcmp, w_dup_int, w_pop_int, w_dup_ref, w_pop_ref, w_dup_retAddr, w_pop_retAddr, w_dup2, w_I, w_L, w_Null, w_Ild, w_Lld, w_Ald, w_Ist, w_Lst, w_Ast, w_Iinc, w_if_eq, w_icmp_eq, w_if_ne, w_icmp_ne, w_if_lt, w_icmp_lt, w_if_ge, w_icmp_ge, w_if_gt, w_icmp_gt, w_if_le, w_icmp_le, w_GetI, w_GetL, w_GetR, w_PutI, w_PutZ, w_PutL, w_PutR, w_PutN, w_Iald, w_Zald, w_Lald, w_Aald, w_Iast, w_Zast, w_Last, w_AastR, w_AastN, w_Alen, w_New, w_NewA, w_Mna, w_Iret, w_Zret, w_Cret, w_Bret, w_Lret, w_AretR, w_AretN, w_Vret, w_Obj, w_IfNN, w_IfNR, w_Copy, w_Cln, w_Cast, w_SfA, w_SfI, w_SfQ, w_Str, w_ScLd, w_ScLen, w_CV0, w_CS0, w_CV1, w_CS1, w_CV2, w_CS2, w_CV3, w_CS3, w_CV4, w_CS4, w_CV5, w_CS5, List.getElem?_cons_zero, List.getElem?_cons_succ, List.set_cons_zero, List.set_cons_succ, List.length_cons, List.length_nil, List.map_cons, List.map_nil, List.sum_cons, List.sum_nil, List.nil_append, List.cons_append, Option.toList_some, Option.toList_none, Value.category, xok, va_rf, true_and, and_true, and_self, Nat.reduceAdd, Nat.reduceLT, Nat.reduceLeDiff, Nat.reduceEqDiff, Nat.reduceMul, beq_self_eq_true, decide_true, ite_true, ite_false, if_true, if_false, reduceIte, Bool.true_eq_false, Bool.false_eq_true, eq_self_iff_true, Nat.zero_le, not_true_eq_false, not_false_eq_true, forall_const, false_implies, implies_true, forall_false]
  exact ite_Q (P := fun o => Q (some (.int (woI o)), G)) rfl (ite_Q (P := fun o => Q (some (.int (woI o)), G)) rfl (ite_Q (P := fun o => Q (some (.int (woI o)), G)) rfl (ite_Q (P := fun o => Q (some (.int (woI o)), G)) rfl (ite_Q (P := fun o => Q (some (.int (woI o)), G)) rfl (ite_Q (P := fun o => Q (some (.int (woI o)), G)) rfl (ite_Q (P := fun o => Q (some (.int (woI o)), G)) rfl (rfl)))))))
