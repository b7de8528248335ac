theorem nt_ne : ∃ NT : Int32, NT = -1000000 ∧ ∀ z : Int, -100000 ≤ z → z ≤ 100000 → (zI z = NT) = False := by
  refine ⟨_, rfl, fun z h1 h2 => eq_false (fun q => ?_)⟩
  have := congrArg Int32.toInt q
  rw [zI_toInt (by omega) (by omega), show (-1000000 : Int32).toInt = -1000000 by decide +kernel] at this
  omega
/-- the game at its start: the lead, and which letter is handed first -/
theorem c_lead0 {NT sc : Int32} (hk0 : k_Search_lead_0 = fun Q => (xIld 4 (xAld 0 (xGetI 7 5 (xicmp_lt (xIld 1 (xI 1000 (ximul (xIld 2 (xiadd (xI 2 (ximul (xIld 3 (xiadd (xIst 5 (xIld 5 (xI sc (ximul (xI 22 (xiushr (xIst 6 (xAld 0 (xGetR 7 3 (xIld 6 (xIaldh (xIld 5 (xicmp_ne (xAld 0 (xIld 1 (xIld 2 (xIld 3 (xIld 4 (xCallV 7 4 (Q 1) (xIst 7 (xIld 7 (xI NT (xicmp_ne (k_Search_lead_85 Q) (xAld 0 (xIld 1 (xIld 2 (xI 1 (k_Search_lead_76 Q))))))))))))))) (xAld 0 (xGetR 7 4 (xIld 6 (xIaldh (xIret ()))))))))))))))))))))))))))) (xI 0 (xIret ()))))))) (hk85 : k_Search_lead_85 = fun Q => (xIld 7 (xI NT (xicmp_ne (k_Search_lead_95 Q) (xI 0 (xIst 7 (k_Search_lead_95 Q))))))) (hk107 : k_Search_leadOfMoves_107 = fun Q K7 => (xIst 9 (xIld 5 (xI NT (xicmp_eq (k_Search_leadOfMoves_137 Q K7) (xIld 3 (xif_ne (xIld 9 (xIld 5 (xicmp_ge (k_Search_leadOfMoves_164 Q K7) (k_Search_leadOfMoves_137 Q K7)))) (xIld 9 (xIld 5 (xicmp_le (k_Search_leadOfMoves_164 Q K7) (k_Search_leadOfMoves_137 Q K7))))))))))) (hkm0 : k_Search_leadOfMoves_0 = fun Q => (xI NT (xIst 5 (xI 0 (xIst 6 (k_Search_leadOfMoves_7 Q)))))) (hNT : ∀ z : Int, -100000 ≤ z → z ≤ 100000 → (zI z = NT) = False) {R : Nat → Int32} {T : Nat → (Nat → Int64) → Option Int64} {hl : Bool} {w n : Nat} {lt : Nat → Nat} {nr nl c : Nat} (hR : RW R nr nl c) (hc : c ≤ 500000) (hw : w < nr) (hn : n ≤ 8) (hlt : ∀ k, k < n → lt k < nl) {G : XH} {t : Nat} (hX : SX G R T hl w) (hS : SLt G n lt) (hk : ∀ p, p < 1024 → hpI G 60 p = -1) (h9 : hpI G 58 9 = -1) (ht : t ≤ 999) : SP (D_g2 60 0) [.ref 58, .int (nI 0), .int (nI t), .int (nI 0), .int (nI 0)] G (fun r => r.1 = some (.int (zI (GVo T hl R w n lt n 0 0 t 0))) ∧ Fr WSe G r.2 ∧ hpI r.2 58 9 = gfI 0 lt (-1) (GMo T hl R w n lt (n - 1) 0 0 t 0) (GMo T hl R w n lt (n - 1) 0 0 t 1)) := by
  have hMe : MemG G n (GVo T hl R w n lt) := fun p hp => Or.inl (hk p hp)
  by_cases h0 : n = 0
  · subst h0
    rw [show D_g2 60 0 = D_Search_lead (D_g2 59) from rfl, e_Search_lead]
    have hC := hX.1
    have h5 := hS.1
    have g : ¬ nI 0 < nI 0 := Int32.not_lt.mpr (Int32.le_refl _)
    obtain ⟨B, hk⟩ : ∃ B : XK, k_Search_lead_0 (D_g2 59) = (xIld 4 (xAld 0 (xGetI 7 5 (xicmp_lt B (xI 0 (xIret ())))))) := ⟨_, rfl⟩
    rw [hk]
    simp only [w_iadd, w_isub, w_imul, w_iand, w_ior, w_ixor, w_ishl, w_ishr, w_iushr, w_idiv, w_irem, w_ineg, w_ladd, w_lsub, w_lmul, w_ldiv, w_lrem, w_i2l, w_l2i, w_i2c, w_lcmp, w_dup_int, w_pop_int, w_dup_ref, w_pop_ref, w_dup_retAddr, w_pop_retAddr, w_dup2, w_I, w_L, w_Null, w_Ild, w_Lld, w_Ald, w_Ist, w_Lst, w_Ast, w_Iinc, w_if_eq, w_icmp_eq, w_if_ne, w_icmp_ne, w_if_lt, w_icmp_lt, w_if_ge, w_icmp_ge, w_if_gt, w_icmp_gt, w_if_le, w_icmp_le, w_GetI, w_GetL, w_GetR, w_PutI, w_PutZ, w_PutL, w_PutR, w_PutN, w_Iald, w_Zald, w_Lald, w_Aald, w_Iast, w_Zast, w_Last, w_AastR, w_AastN, w_Alen, w_New, w_NewA, w_Mna, w_Iret, w_Zret, w_Cret, w_Bret, w_Lret, w_AretR, w_AretN, w_Vret, w_Obj, w_IfNN, w_IfNR, w_Copy, w_Cln, w_Cast, w_SfA, w_SfI, w_SfQ, w_Str, w_ScLd, w_ScLen, w_CV0, w_CS0, w_CV1, w_CS1, w_CV2, w_CS2, w_CV3, w_CS3, w_CV4, w_CS4, w_CV5, w_CS5, List.getElem?_cons_zero, List.getElem?_cons_succ, List.set_cons_zero, List.set_cons_succ, List.length_cons, List.length_nil, List.map_cons, List.map_nil, List.sum_cons, List.sum_nil, List.nil_append, List.cons_append, Option.toList_some, Option.toList_none, Value.category, xok, va_rf, true_and, and_true, and_self, Nat.reduceAdd, Nat.reduceLT, Nat.reduceLeDiff, Nat.reduceEqDiff, Nat.reduceMul, beq_self_eq_true, decide_true, ite_true, ite_false, if_true, if_false, reduceIte, Bool.true_eq_false, Bool.false_eq_true, eq_self_iff_true, Nat.zero_le, not_true_eq_false, not_false_eq_true, forall_const, false_implies, implies_true, forall_false, hC.all, h5, g, ne10, ne10L, ne01, ne01L, tt_imp, nt_imp, ff_imp, nf_imp, true_and, and_true, true_or, or_true, reduceIte]
    exact ⟨rfl, Fr.refl, h9⟩
  · rw [show D_g2 60 0 = D_Search_lead (D_g2 59) from rfl]
    have hm : GMS NT (D_g2 59 1) R T hl w n lt (GVo T hl R w n lt) (GMo T hl R w n lt) (n - 1) := c_moves hk107 hkm0 hNT hR hc hw hn hlt (D := D_g2 58) (c_lead hk0 hk85 hk107 hkm0 hNT hR hc hw hn hlt (n - 1) 58 (by omega))
    have e : n - 1 + 1 = n := by omega
    refine ld_go hk0 hk85 hNT hR hw hn hlt hm hX hS hMe (Nat.two_pow_pos n) (pop_0 n) (by omega) ht (by omega) _ (fun z => ?_) (fun G' h1 h2 h3 => ?_)
    · obtain ⟨p, hp, z⟩ := z
      rw [hk p hp] at z
      exact absurd z.symm (nI_ne (by omega))
    · rw [e]
      exact ⟨rfl, h1, by rw [h3, h9]⟩
