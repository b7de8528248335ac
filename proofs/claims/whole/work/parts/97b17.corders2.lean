theorem UnC.refl {G : XH} : UnC G G := ⟨rfl, rfl, fun _ _ => rfl⟩
theorem UnC.trans {G G' G'' : XH} (h : UnC G G') (g : UnC G' G'') : UnC G G'' := ⟨g.1.trans h.1, g.2.1.trans h.2.1, fun i hi => (g.2.2 i hi).trans (h.2.2 i hi)⟩
theorem UnC.fc {W : Nat → Nat → Bool} {G G' : XH} (hf : FC W G G') (h1 : ∀ k, W 8 k = false) (h2 : ∀ k, W 26 k = false) (h3 : ∀ i, i < 16 → ∀ k, W (10 + i) k = false) : UnC G G' := ⟨hf.IA _ h1, hf.IA _ h2, fun i hi => hf.IA _ (h3 i hi)⟩
theorem UCx.unc {G G' : XH} {U : US} (h : UCx G U) (hu : UnC G G') : UCx G' U := by
  obtain ⟨p, p16, u3, u2, hcu⟩ := h
  obtain ⟨e1, e2, e3⟩ := hu
  refine ⟨p, p16, by rw [e1]; exact u3, by rw [e1]; exact u2, fun k hk => ?_⟩
  have hm : (p + 16 - U.1 + k) % 16 < 16 := Nat.mod_lt _ (by omega)
  dsimp only
  rw [e2, e3 _ hm]
  exact hcu k hk
theorem WRe_un {i : Nat} (hi : i < 16) (k : Nat) : WRe (10 + i) k = false := by
  have h1 : ¬ 10 + i = 49 := by omega
  have h2 : ¬ 10 + i = 47 := by omega
  have h3 : ¬ 10 + i = 50 := by omega
  have h4 : ¬ 10 + i = 52 := by omega
  have h5 : ¬ 10 + i = 51 := by omega
  unfold WRe WRd WCl WGx
  simp [h1, h2, h3, h4, h5]
theorem WRe_Lo : Lo WRe := by
  intro a k h
  have h1 : ¬ a = 49 := by omega
  have h2 : ¬ a = 47 := by omega
  have h3 : ¬ a = 50 := by omega
  have h4 : ¬ a = 52 := by omega
  have h5 : ¬ a = 51 := by omega
  unfold WRe WRd WCl WGx
  simp [h1, h2, h3, h4, h5]
theorem WOc_Lo : Lo WOc := by
  intro a k h
  have h1 : ¬ a = 27 := by omega
  have h2 : ¬ a = 8 := by omega
  have h3 : ¬ a ≤ 45 := by omega
  have h4 : ¬ a ≤ 26 := by omega
  have h5 : ¬ a = 46 := by omega
  have h6 : ¬ a = 69 := by omega
  have h7 : ¬ a = 0 := by omega
  unfold WOc WTa WTb
  rw [WRe_Lo a k h, WRc_Lo a k h]
  simp [h1, h2, h3, h4, h5, h6, h7]
theorem c_orders {G : XH} {R : Nat → Int32} {T : Nat → (Nat → Int64) → Option Int64} {hl : Bool} (hX : CX G 2 R T hl) (hU : CU G) {n : Nat} {A B : Nat → Nat} (hRd : CRd G n A B) {nr nl c : Nat} (hR : RW R nr nl c) (hc : c + 300 ≤ 500000) {U : US} (hUo : UOK U nr nl c) (hux : UCx G U) {b : Nat → Nat} {len : Nat} (hT : TB G b len) (ht : hpI G 47 1 = nI len) : SP D_Post_orders [.ref 0] G (OcQ T hl A B n nr nl b len R U G) := by
  have hC := hX.1
  have l400 := hT.1
  obtain ⟨P, hP⟩ : ∃ P : XR → Prop, P = OcQ T hl A B n nr nl b len R U G := ⟨_, rfl⟩
  rw [← hP]
  obtain ⟨m, hm⟩ : ∃ m : Int32, m = -1 := ⟨_, rfl⟩
  obtain ⟨A1, hA1⟩ : ∃ A1 : XK, A1 = (xAld 0 (xGetR 10 1 (xI 0 (xAld 0 (xGetR 10 5 (xI 0 (xI 138 (xCopy (xAld 0 (xGetR 10 4 (xAld 0 (xGetR 10 3 (xCallV 1 1 D_Undo_take (xAld 0 (xGetR 10 9 (xI 3 (xI 0 (xIasth (xAld 0 (xGetR 10 9 (xI 4 (xI m (xIasth (xI 0 (xIst 1 k_Post_orders_75))))))))))))))))))))))))) := ⟨_, rfl⟩
  have hk0 : k_Post_orders_0 = (xAld 0 (xI m (xPutI 10 18 (xAld 0 (xAld 0 (xGetR 10 7 (xI 0 (xCallV 4 1 D_Grammar_reads (xPutI 10 17 (xAld 0 (xGetI 10 17 (xI m (xicmp_eq A1 (xAld 0 (xI (-6) (xCallV 10 1 D_Post_refuse (xIret ()))))))))))))))))) := by rw [hA1, hm]; rfl
  obtain ⟨G0, hG0⟩ : ∃ G0, G0 = stI G 0 18 m := ⟨_, rfl⟩
  have f0 : Fr WOc G G0 := by rw [hG0]; exact Fr.refl.wI rfl
  have hC0 := f0.cs hC
  have I0 : ∀ a, ¬ a = 0 → hpI G0 a = hpI G a := fun a ha => by rw [hG0, stI_up, hpI_stA_ne ha]
  have st0 : hpI G0 0 18 = m := by rw [hG0, stI_up, hpI_stA, up_eq]
  have hT0 : TB G0 b len := hT.fr f0 (fun _ => rfl)
  have ht0 : hpI G0 47 1 = nI len := by rw [I0 _ (by decide)]; exact ht
  rw [e_Post_orders, hk0]
  simp only [w_iadd, w_isub, w_imul, w_iand, w_ior, w_ixor, w_ishl, w_ishr, w_iushr, w_idiv, w_irem, w_ineg, w_ladd, w_lsub, w_lmul, w_ldiv, w_lrem, w_i2l, w_l2i, w_i2c, w_lcmp, w_dup_int, w_pop_int, w_dup_ref, w_pop_ref, w_dup_retAddr, w_pop_retAddr, w_dup2, w_I, w_L, w_Null, w_Ild, w_Lld, w_Ald, w_Ist, w_Lst, w_Ast, w_Iinc, w_if_eq, w_icmp_eq, w_if_ne, w_icmp_ne, w_if_lt, w_icmp_lt, w_if_ge, w_icmp_ge, w_if_gt, w_icmp_gt, w_if_le, w_icmp_le, w_GetI, w_GetL, w_GetR, w_PutI, w_PutZ, w_PutL, w_PutR, w_PutN, w_Iald, w_Zald, w_Lald, w_Aald, w_Iast, w_Zast, w_Last, w_AastR, w_AastN, w_Alen, w_New, w_NewA, w_Mna, w_Iret, w_Zret, w_Cret, w_Bret, w_Lret, w_AretR, w_AretN, w_Vret, w_Obj, w_IfNN, w_IfNR, w_Copy, w_Cln, w_Cast, w_SfA, w_SfI, w_SfQ, w_Str, w_ScLd, w_ScLen, w_CV0, w_CS0, w_CV1, w_CS1, w_CV2, w_CS2, w_CV3, w_CS3, w_CV4, w_CS4, w_CV5, w_CS5, List.getElem?_cons_zero, List.getElem?_cons_succ, List.set_cons_zero, List.set_cons_succ, List.length_cons, List.length_nil, List.map_cons, List.map_nil, List.sum_cons, List.sum_nil, List.nil_append, List.cons_append, Option.toList_some, Option.toList_none, Value.category, xok, va_rf, true_and, and_true, and_self, Nat.reduceAdd, Nat.reduceLT, Nat.reduceLeDiff, Nat.reduceEqDiff, Nat.reduceMul, beq_self_eq_true, decide_true, ite_true, ite_false, if_true, if_false, reduceIte, Bool.true_eq_false, Bool.false_eq_true, eq_self_iff_true, Nat.zero_le, not_true_eq_false, not_false_eq_true, forall_const, false_implies, implies_true, forall_false, hC.all, ← hG0, hC0.all, ne10, ne10L, ne01, ne01L, tt_imp, nt_imp, ff_imp, nf_imp, true_and, and_true, true_or, or_true, reduceIte]
  refine SP.mono (c_reads (od := true) hC0 hT0 ht0) ?_
  rintro ⟨v, G1⟩ ⟨f1', t0, G0', hr⟩
  dsimp only at f1' t0
  have hC1 := f1'.cs hC0
  have st1 : hpI G1 0 18 = m := (f1'.I rfl).trans st0
  have un1 : UnC G G1 := ⟨(f1'.IA _ (fun _ => rfl)).trans (I0 _ (by decide)), (f1'.IA _ (fun _ => rfl)).trans (I0 _ (by decide)), fun i hi => (f1'.IA _ (WRe_un hi)).trans (I0 _ (by omega))⟩
  have sd1 : hpI G1 2 = hpI G 2 := (f1'.IA _ (fun _ => rfl)).trans (I0 _ (by decide))
  have rf1 : hpI G1 69 = hpI G 69 := (f1'.IA _ (fun _ => rfl)).trans (I0 _ (by decide))
  have f01 : Fr WOc G G1 := f0.trans (f1'.mono WRe_WOc)
  cases hg : gText b len true with
  | error e =>
    rw [hg] at hr
    obtain ⟨rfl, _⟩ := hr
    have he := gText_er hg
    have gm : (nI e = m) = False := by rw [hm]; exact eq_false (nI_ne (by omega))
    obtain ⟨G2, hG2⟩ : ∃ G2, G2 = stI G1 0 17 (nI e) := ⟨_, rfl⟩
    have f2 : Fr WOc G G2 := by rw [hG2]; exact f01.wI rfl
    have hC2 := f2.cs hC
    have v17 : hpI G2 0 17 = nI e := by rw [hG2, stI_up, hpI_stA, up_eq]
    have v18 : hpI G2 0 18 = m := by rw [hG2, stI_up, hpI_stA, up_ne (by decide)]; exact st1
    have i2 : ∀ a, ¬ a = 0 → hpI G2 a = hpI G1 a := fun a ha => by rw [hG2, stI_up, hpI_stA_ne ha]
    have hrf := fun Q => c_refuse_6 hC2 Q
    simp only [Option.toList_some, List.cons_append, List.nil_append, w_iadd, w_isub, w_imul, w_iand, w_ior, w_ixor, w_ishl, w_ishr, w_iushr, w_idiv, w_irem, w_ineg, w_ladd, w_lsub, w_lmul, w_ldiv, w_lrem, w_i2l, w_l2i, w_i2c, w_lcmp, w_dup_int, w_pop_int, w_dup_ref, w_pop_ref, w_dup_retAddr, w_pop_retAddr, w_dup2, w_I, w_L, w_Null, w_Ild, w_Lld, w_Ald, w_Ist, w_Lst, w_Ast, w_Iinc, w_if_eq, w_icmp_eq, w_if_ne, w_icmp_ne, w_if_lt, w_icmp_lt, w_if_ge, w_icmp_ge, w_if_gt, w_icmp_gt, w_if_le, w_icmp_le, w_GetI, w_GetL, w_GetR, w_PutI, w_PutZ, w_PutL, w_PutR, w_PutN, w_Iald, w_Zald, w_Lald, w_Aald, w_Iast, w_Zast, w_Last, w_AastR, w_AastN, w_Alen, w_New, w_NewA, w_Mna, w_Iret, w_Zret, w_Cret, w_Bret, w_Lret, w_AretR, w_AretN, w_Vret, w_Obj, w_IfNN, w_IfNR, w_Copy, w_Cln, w_Cast, w_SfA, w_SfI, w_SfQ, w_Str, w_ScLd, w_ScLen, w_CV0, w_CS0, w_CV1, w_CS1, w_CV2, w_CS2, w_CV3, w_CS3, w_CV4, w_CS4, w_CV5, w_CS5, List.getElem?_cons_zero, List.getElem?_cons_succ, List.set_cons_zero, List.set_cons_succ, List.length_cons, List.length_nil, List.map_cons, List.map_nil, List.sum_cons, List.sum_nil, List.nil_append, List.cons_append, Option.toList_some, Option.toList_none, Value.category, xok, va_rf, true_and, and_true, and_self, Nat.reduceAdd, Nat.reduceLT, Nat.reduceLeDiff, Nat.reduceEqDiff, Nat.reduceMul, beq_self_eq_true, decide_true, ite_true, ite_false, if_true, if_false, reduceIte, Bool.true_eq_false, Bool.false_eq_true, eq_self_iff_true, Nat.zero_le, not_true_eq_false, not_false_eq_true, forall_const, false_implies, implies_true, forall_false, stI_C, stI_N, stI_Z, stI_S, stI_L, stI_R, stL_C, stL_N, stL_Z, stL_S, stL_I, stL_R, stR_C, stR_N, stR_Z, stR_S, stR_I, stR_L, stA_C, stA_N, stA_Z, stA_S, stA_L, stA_R, stI_I, stL_L, stR_R, stA_I, stN_C, stN_N, stN_Z, stN_S, stN_I, stN_L, stN_R, stI_ne, stL_ne, stR_ne, hC1.all, ← hG2, hC2.all, v17, gm, hrf, ne10, ne10L, ne01, ne01L, tt_imp, nt_imp, ff_imp, nf_imp, true_and, and_true, true_or, or_true, reduceIte]
    rw [hP]
    unfold OcQ refH
    rw [hg]
    have ir : ∀ a, ¬ a = 0 → ¬ a = 69 → hpI (stI (stI G2 0 16 (-6)) 69 4 (hpI G2 69 4 + 1)) a = hpI G1 a := fun a h1 h2 => by rw [stI_up (a := 69), hpI_stA_ne h2, stI_up (a := 0), hpI_stA_ne h1, i2 a h1]
    refine ⟨((f2.wI rfl).wI rfl).fc, ?_, -6, rfl, ?_, ?_, rfl, ?_, ?_, ?_, ?_⟩
    · rw [ir _ (by decide) (by decide)]; exact t0
    · rw [stI_up (a := 69), hpI_stA_ne (by decide), stI_up (a := 0), hpI_stA, up_eq]; rfl
    · have e1 : hpI G2 69 = hpI G 69 := by rw [i2 _ (by decide)]; exact rf1
      rw [stI_up (a := 69), hpI_stA, stI_up (a := 0), hpI_stA_ne (by decide), e1]
      unfold rfC
      rw [if_pos (by decide)]
      rfl
    · rw [stI_up (a := 69), hpI_stA_ne (by decide), stI_up (a := 0), hpI_stA, up_ne (by decide)]; exact v17
    · rw [stI_up (a := 69), hpI_stA_ne (by decide), stI_up (a := 0), hpI_stA, up_ne (by decide), v18, hm]
    · rw [ir _ (by decide) (by decide)]; exact sd1
    · exact un1.trans ⟨ir _ (by decide) (by decide), ir _ (by decide) (by decide), fun i hi => ir _ (by omega) (by omega)⟩
  | ok L =>
    rw [hg] at hr
    obtain ⟨hv, _, hL, sz, hsz, hs2, hn3, hPW, hCl⟩ := hr
    dsimp only at hv hs2 hn3 hPW hCl
    rw [← hm] at hv
    subst hv
    have gm : (m = m) = True := eq_true rfl
    obtain ⟨G2, hG2⟩ : ∃ G2, G2 = stI G1 0 17 m := ⟨_, rfl⟩
    have f2 : Fr WOc G G2 := by rw [hG2]; exact f01.wI rfl
    have hC2 := f2.cs hC
    have v17 : hpI G2 0 17 = m := by rw [hG2, stI_up, hpI_stA, up_eq]
    have v18 : hpI G2 0 18 = m := by rw [hG2, stI_up, hpI_stA, up_ne (by decide)]; exact st1
    have i2 : ∀ a, ¬ a = 0 → hpI G2 a = hpI G1 a := fun a ha => by rw [hG2, stI_up, hpI_stA_ne ha]
    obtain ⟨G3, hG3⟩ : ∃ G3, G3 = stA G2 46 (va_cpy (hpI G2 2) (hpI G2 46) 0 0 138) := ⟨_, rfl⟩
    have f3 : Fr (fun a _ => a == 46) G2 G3 := by rw [hG3]; exact Fr.refl.wA (fun k q => absurd q (by simp))
    have hC3 := f3.cs hC2
    have hU3 : CU G3 := CU_fc (CU_fc hU f2.fc) f3.fc
    simp only [Option.toList_some, List.cons_append, List.nil_append, w_iadd, w_isub, w_imul, w_iand, w_ior, w_ixor, w_ishl, w_ishr, w_iushr, w_idiv, w_irem, w_ineg, w_ladd, w_lsub, w_lmul, w_ldiv, w_lrem, w_i2l, w_l2i, w_i2c, w_lcmp, w_dup_int, w_pop_int, w_dup_ref, w_pop_ref, w_dup_retAddr, w_pop_retAddr, w_dup2, w_I, w_L, w_Null, w_Ild, w_Lld, w_Ald, w_Ist, w_Lst, w_Ast, w_Iinc, w_if_eq, w_icmp_eq, w_if_ne, w_icmp_ne, w_if_lt, w_icmp_lt, w_if_ge, w_icmp_ge, w_if_gt, w_icmp_gt, w_if_le, w_icmp_le, w_GetI, w_GetL, w_GetR, w_PutI, w_PutZ, w_PutL, w_PutR, w_PutN, w_Iald, w_Zald, w_Lald, w_Aald, w_Iast, w_Zast, w_Last, w_AastR, w_AastN, w_Alen, w_New, w_NewA, w_Mna, w_Iret, w_Zret, w_Cret, w_Bret, w_Lret, w_AretR, w_AretN, w_Vret, w_Obj, w_IfNN, w_IfNR, w_Copy, w_Cln, w_Cast, w_SfA, w_SfI, w_SfQ, w_Str, w_ScLd, w_ScLen, w_CV0, w_CS0, w_CV1, w_CS1, w_CV2, w_CS2, w_CV3, w_CS3, w_CV4, w_CS4, w_CV5, w_CS5, List.getElem?_cons_zero, List.getElem?_cons_succ, List.set_cons_zero, List.set_cons_succ, List.length_cons, List.length_nil, List.map_cons, List.map_nil, List.sum_cons, List.sum_nil, List.nil_append, List.cons_append, Option.toList_some, Option.toList_none, Value.category, xok, va_rf, true_and, and_true, and_self, Nat.reduceAdd, Nat.reduceLT, Nat.reduceLeDiff, Nat.reduceEqDiff, Nat.reduceMul, beq_self_eq_true, decide_true, ite_true, ite_false, if_true, if_false, reduceIte, Bool.true_eq_false, Bool.false_eq_true, eq_self_iff_true, Nat.zero_le, not_true_eq_false, not_false_eq_true, forall_const, false_implies, implies_true, forall_false, stI_C, stI_N, stI_Z, stI_S, stI_L, stI_R, stL_C, stL_N, stL_Z, stL_S, stL_I, stL_R, stR_C, stR_N, stR_Z, stR_S, stR_I, stR_L, stA_C, stA_N, stA_Z, stA_S, stA_L, stA_R, stI_I, stL_L, stR_R, stA_I, stN_C, stN_N, stN_Z, stN_S, stN_I, stN_L, stN_R, stI_ne, stL_ne, stR_ne, hC1.all, ← hG2, hC2.all, v17, gm, ne10, ne10L, ne01, ne01L, tt_imp, nt_imp, ff_imp, nf_imp, true_and, and_true, true_or, or_true, reduceIte]
    rw [hA1]
    simp only [w_iadd, w_isub, w_imul, w_iand, w_ior, w_ixor, w_ishl, w_ishr, w_iushr, w_idiv, w_irem, w_ineg, w_ladd, w_lsub, w_lmul, w_ldiv, w_lrem, w_i2l, w_l2i, w_i2c, w_lcmp, w_dup_int, w_pop_int, w_dup_ref, w_pop_ref, w_dup_retAddr, w_pop_retAddr, w_dup2, w_I, w_L, w_Null, w_Ild, w_Lld, w_Ald, w_Ist, w_Lst, w_Ast, w_Iinc, w_if_eq, w_icmp_eq, w_if_ne, w_icmp_ne, w_if_lt, w_icmp_lt, w_if_ge, w_icmp_ge, w_if_gt, w_icmp_gt, w_if_le, w_icmp_le, w_GetI, w_GetL, w_GetR, w_PutI, w_PutZ, w_PutL, w_PutR, w_PutN, w_Iald, w_Zald, w_Lald, w_Aald, w_Iast, w_Zast, w_Last, w_AastR, w_AastN, w_Alen, w_New, w_NewA, w_Mna, w_Iret, w_Zret, w_Cret, w_Bret, w_Lret, w_AretR, w_AretN, w_Vret, w_Obj, w_IfNN, w_IfNR, w_Copy, w_Cln, w_Cast, w_SfA, w_SfI, w_SfQ, w_Str, w_ScLd, w_ScLen, w_CV0, w_CS0, w_CV1, w_CS1, w_CV2, w_CS2, w_CV3, w_CS3, w_CV4, w_CS4, w_CV5, w_CS5, List.getElem?_cons_zero, List.getElem?_cons_succ, List.set_cons_zero, List.set_cons_succ, List.length_cons, List.length_nil, List.map_cons, List.map_nil, List.sum_cons, List.sum_nil, List.nil_append, List.cons_append, Option.toList_some, Option.toList_none, Value.category, xok, va_rf, true_and, and_true, and_self, Nat.reduceAdd, Nat.reduceLT, Nat.reduceLeDiff, Nat.reduceEqDiff, Nat.reduceMul, beq_self_eq_true, decide_true, ite_true, ite_false, if_true, if_false, reduceIte, Bool.true_eq_false, Bool.false_eq_true, eq_self_iff_true, Nat.zero_le, not_true_eq_false, not_false_eq_true, forall_const, false_implies, implies_true, forall_false, tn_0, tn_1, tn_2, tn_3, tn_4, tn_5, tn_6, tn_7, tn_8, tn_9, tn_10, tn_11, tn_12, tn_13, tn_14, tn_15, tn_16, tn_17, tn_18, tn_19, tn_20, tn_21, tn_22, tn_23, tn_24, tn_25, tn_26, tn_27, tn_28, tn_29, tn_30, tn_31, tn_32, tn_33, tn_34, tn_35, tn_36, tn_37, tn_38, tn_39, tn_40, tn_41, tn_42, tn_43, tn_44, tn_45, tn_46, tn_47, tn_48, tn_49, tn_50, tn_51, tn_52, tn_53, tn_54, tn_55, tn_56, tn_57, tn_58, tn_59, tn_60, tn_61, tn_62, tn_63, tn_64, tn_65, tn_66, tn_67, tn_68, tn_69, tn_70, tn_71, tn_72, tn_73, tn_74, tn_75, tn_76, tn_77, tn_78, tn_79, tn_80, tn_81, tn_82, tn_83, tn_84, tn_85, tn_86, tn_87, tn_88, tn_89, tn_90, tn_91, tn_92, tn_93, tn_94, tn_95, tn_96, tn_97, tn_98, tn_99, tn_100, tn_101, tn_102, tn_103, tn_104, tn_105, tn_106, tn_107, tn_108, tn_109, tn_110, tn_111, tn_112, tn_113, tn_114, tn_115, tn_116, tn_117, tn_118, tn_119, tn_120, tn_121, tn_122, tn_123, tn_124, tn_125, tn_126, tn_127, tn_128, tn_129, tn_130, tn_131, tn_132, tn_133, tn_134, tn_135, tn_136, tn_137, tn_138, tn_139, tn_140, tn_141, tn_142, tn_143, tn_144, tn_145, tn_146, tn_147, tn_148, tn_149, tn_150, tn_151, tn_152, tn_153, tn_154, tn_155, tn_156, tn_157, tn_158, tn_159, tn_160, tn_161, tn_162, tn_163, tn_164, tn_165, tn_166, tn_167, tn_168, tn_169, tn_170, tn_171, tn_172, tn_173, tn_174, tn_175, tn_176, tn_177, tn_178, tn_179, tn_180, tn_181, tn_182, tn_183, tn_184, tn_185, tn_186, tn_187, tn_188, tn_189, tn_190, tn_191, tn_192, tn_193, tn_194, tn_195, tn_196, tn_197, tn_198, tn_199, tn_255, tn_256, tn_300, tn_399, tn_400, tn_500, tn_900, tn_999, tn_1000, tn_1001, tn_1024, tn_2048, tn_2176, tn_3536, tn_4095, tn_4096, tn_5580, tn_11160, tn_12345, tn_1103, tn_99999, tn_1000000, tn_1000003, tn_100000000, tn_1000000000, ge0_0, ge0_1, ge0_2, ge0_3, ge0_4, ge0_5, ge0_6, ge0_7, ge0_8, ge0_9, ge0_10, ge0_11, ge0_12, ge0_13, ge0_14, ge0_15, ge0_16, ge0_17, ge0_18, ge0_19, ge0_20, ge0_21, ge0_22, ge0_23, ge0_24, ge0_25, ge0_26, ge0_27, ge0_28, ge0_29, ge0_30, ge0_31, ge0_32, ge0_33, ge0_34, ge0_35, ge0_36, ge0_37, ge0_38, ge0_39, ge0_40, ge0_41, ge0_42, ge0_43, ge0_44, ge0_45, ge0_46, ge0_47, ge0_48, ge0_49, ge0_50, ge0_51, ge0_52, ge0_53, ge0_54, ge0_55, ge0_56, ge0_57, ge0_58, ge0_59, ge0_60, ge0_61, ge0_62, ge0_63, ge0_64, ge0_65, ge0_66, ge0_67, ge0_68, ge0_69, ge0_70, ge0_71, ge0_72, ge0_73, ge0_74, ge0_75, ge0_76, ge0_77, ge0_78, ge0_79, ge0_80, ge0_81, ge0_82, ge0_83, ge0_84, ge0_85, ge0_86, ge0_87, ge0_88, ge0_89, ge0_90, ge0_91, ge0_92, ge0_93, ge0_94, ge0_95, ge0_96, ge0_97, ge0_98, ge0_99, ge0_100, ge0_101, ge0_102, ge0_103, ge0_104, ge0_105, ge0_106, ge0_107, ge0_108, ge0_109, ge0_110, ge0_111, ge0_112, ge0_113, ge0_114, ge0_115, ge0_116, ge0_117, ge0_118, ge0_119, ge0_120, ge0_121, ge0_122, ge0_123, ge0_124, ge0_125, ge0_126, ge0_127, ge0_128, ge0_129, ge0_130, ge0_131, ge0_132, ge0_133, ge0_134, ge0_135, ge0_136, ge0_137, ge0_138, ge0_139, ge0_140, ge0_141, ge0_142, ge0_143, ge0_144, ge0_145, ge0_146, ge0_147, ge0_148, ge0_149, ge0_150, ge0_151, ge0_152, ge0_153, ge0_154, ge0_155, ge0_156, ge0_157, ge0_158, ge0_159, ge0_160, ge0_161, ge0_162, ge0_163, ge0_164, ge0_165, ge0_166, ge0_167, ge0_168, ge0_169, ge0_170, ge0_171, ge0_172, ge0_173, ge0_174, ge0_175, ge0_176, ge0_177, ge0_178, ge0_179, ge0_180, ge0_181, ge0_182, ge0_183, ge0_184, ge0_185, ge0_186, ge0_187, ge0_188, ge0_189, ge0_190, ge0_191, ge0_192, ge0_193, ge0_194, ge0_195, ge0_196, ge0_197, ge0_198, ge0_199, ge0_255, ge0_256, ge0_300, ge0_399, ge0_400, ge0_500, ge0_900, ge0_999, ge0_1000, ge0_1001, ge0_1024, ge0_2048, ge0_2176, ge0_3536, ge0_4095, ge0_4096, ge0_5580, ge0_11160, ge0_12345, ge0_1103, ge0_99999, ge0_1000000, ge0_1000003, ge0_100000000, ge0_1000000000, hC2.all, Nat.le_refl, Nat.zero_add, ← hG3, hC3.all, or_true, true_or, ne10, ne10L, ne01, ne01L, tt_imp, nt_imp, ff_imp, nf_imp, true_and, and_true, true_or, or_true, reduceIte]
    refine SP.mono (c_takeA hC3 hU3) ?_
    rintro ⟨v4, G4⟩ ⟨rfl, f4, k1, k2, k3, k4⟩
    dsimp only at f4 k1 k2 k3 k4
    have hC4 := f4.cs hC3
    obtain ⟨G5, hG5⟩ : ∃ G5, G5 = stI G4 57 3 0 := ⟨_, rfl⟩
    have f5 : Fr WOw G4 G5 := by rw [hG5]; exact Fr.refl.wI rfl
    have hC5 := f5.cs hC4
    obtain ⟨G6, hG6⟩ : ∃ G6, G6 = stI G5 57 4 m := ⟨_, rfl⟩
    have f6 : Fr WOw G5 G6 := by rw [hG6]; exact Fr.refl.wI rfl
    have f46 : Fr WOw G4 G6 := f5.trans f6
    have hC6 := f6.cs hC5
    have A6 : hpI G6 57 = up (up (hpI G4 57) 3 0) 4 m := by rw [hG6, stI_up, hpI_stA, hG5, stI_up, hpI_stA]
    have f26 : Fr (fun a k => a == 46 || WTa a k || WOw a k) G2 G6 := ((f3.mono (fun a k z => by simp only [Bool.or_eq_false_iff] at z; exact z.1.1)).trans (f4.mono (fun a k z => by simp only [Bool.or_eq_false_iff] at z; exact z.1.2))).trans (f46.mono (fun a k z => by simp only [Bool.or_eq_false_iff] at z; exact z.2))
    have f06 : Fr WOc G G6 := f2.trans (f26.mono (fun a k z => by
      have z1 := WTa_WOc a k z
      have z2 := WOw_WRc a k (WRc_WOc a k z)
      unfold WOc at z
      simp only [Bool.or_eq_false_iff] at z ⊢
      exact ⟨⟨z.1.1.2, z1⟩, z2⟩))
    have un6 : UnC G G6 := un1.trans ⟨(f26.IA _ (fun _ => rfl)).trans (i2 _ (by decide)), (f26.IA _ (fun _ => rfl)).trans (i2 _ (by decide)), fun i hi => (f26.IA _ (fun k => by unfold WTa WOw; simp only [Bool.or_eq_false_iff, Bool.and_eq_false_iff, beq_eq_false_iff_ne, decide_eq_false_iff_not]; omega)).trans (i2 _ (by omega))⟩
    have hX6 : CX G6 2 R T hl := hX.wc f06.fc WOc_Lo (fun _ => rfl) (by rw [f26.IA _ (fun _ => rfl), i2 _ (by decide), sd1]; exact hX.2.2.1)
    have hu6 := hux.unc un6
    obtain ⟨p, p16, u3, u2, hcu⟩ := hu6
    have hTX : TXo G6 L sz := by
      have h1 : ∀ a, ¬ a = 0 → ¬ a = 46 → (∀ k, WTa a k = false) → (∀ k, WOw a k = false) → hpI G6 a = hpI G1 a := fun a h0 h2 h3 h4 => by
        rw [f26.IA a (fun k => by rw [h3, h4]; simp [h2]), i2 a h0]
      have e50 := h1 50 (by decide) (by decide) (fun _ => rfl) (fun _ => rfl)
      have e51 := h1 51 (by decide) (by decide) (fun _ => rfl) (fun _ => rfl)
      have e52 := h1 52 (by decide) (by decide) (fun _ => rfl) (fun _ => rfl)
      exact ⟨hL, hsz, by rw [e50]; exact hs2, by rw [e50]; exact hn3, hPW.congr (fun k _ _ => by rw [e51]), fun i hi => (hCl i hi).congr (n := 12) (by omega) (fun j _ => by rw [e52]) (fun j _ => by rw [e51]) (Nat.le_refl _), fun i hi => ⟨gText_ok hg i hi, gText_all (P := CLo) (fun p c r => gClause_ord) hg i hi⟩⟩
    have h6 : C6 T hl A B n nr nl c R U L sz G6 := by
      refine ⟨⟨p, p16, hX6, CU_fc hU f06.fc, hRd.fc f06.fc (fun _ => rfl) (fun _ => rfl) (fun _ => rfl), u3, u2, hcu, by rw [A6, up_ne (by decide), up_eq]; rfl, by rw [A6, up_eq]; exact hm⟩, hR, hc, hUo, hTX, ?_, p, p16, ?_, ?_, fun q hq => ?_⟩
      · rw [f46.IA _ (fun _ => rfl), f4.IA _ (fun _ => rfl), hG3, hpI_stA]
        refine hX.2.2.1.eqc (fun j hj => ?_)
        rw [cpy_in (by omega), i2 _ (by decide), sd1]
        exact congrArg _ (by omega)
      · have e1 : hpI G3 8 3 = hpI G6 8 3 := by rw [f46.I rfl, f4.I rfl]
        rw [f46.I rfl, k4, e1]; exact u3
      · have e1 : hpI G3 8 2 = hpI G6 8 2 := by rw [f46.I rfl, f4.I rfl]
        rw [f46.I rfl, k3, e1]; exact u2
      · have hm' : (p + 16 - U.1 + q) % 16 < 16 := Nat.mod_lt _ (by omega)
        obtain ⟨z1, z2⟩ := hcu q hq
        have e1 : ∀ i, i < 16 → hpI G3 26 i = hpI G6 26 i := fun i hi => by rw [f46.I rfl, f4.I rfl]
        have e2 : ∀ i, i < 16 → ∀ j, hpI G3 (10 + i) j = hpI G6 (10 + i) j := fun i hi j => by
          rw [f46.I (by unfold WOw; simp only [beq_eq_false_iff_ne]; omega), f4.I (by unfold WTa; simp only [Bool.or_eq_false_iff, Bool.and_eq_false_iff, beq_eq_false_iff_ne, decide_eq_false_iff_not]; omega)]
        dsimp only
        rw [f46.I rfl, k2 _ hm', e1 _ hm']
        refine ⟨z1, z2.eqc (fun j hj => ?_)⟩
        rw [f46.I (by unfold WOw; simp only [beq_eq_false_iff_ne]; omega), k1 _ hm' j hj, e2 _ hm']
    have tp6 : hpI G6 47 1 = 0 := by rw [f26.I rfl, i2 _ (by decide)]; exact t0
    have rf6 : hpI G6 69 = hpI G 69 := by rw [f26.IA _ (fun _ => rfl), i2 _ (by decide)]; exact rf1
    have w17 : hpI G6 0 17 = -1 := by rw [f26.I rfl, v17]; exact hm
    have w18 : hpI G6 0 18 = -1 := by rw [f26.I rfl, v18]; exact hm
    have h75 : WP k_Post_orders_75 [some (.ref 0), some (.int (nI 0)), none, none] [] G6 P := by
      unfold k_Post_orders_75
      refine cr_75 (Q := P) h6 (fun k G' z1 z2 z3 z4 z5 => ?_) (fun G' S z1 z2 z240 z3 => ?_) L.length 0 (R, 0, -1, U) G6 NF none none (by omega) FC.refl h6.1 ⟨hR, Hi.refl, hUo, Or.inl rfl⟩ (Nat.zero_le _) rfl (by unfold NF; omega)
      · rw [hP]
        unfold OcQ refH
        rw [hg]
        dsimp only
        rw [z5]
        have ir : ∀ a, ¬ a = 0 → ¬ a = 69 → hpI (stI (stI G' 0 16 (-3)) 69 2 (hpI G' 69 2 + 1)) a = hpI G' a := fun a h1 h2 => by rw [stI_up (a := 69), hpI_stA_ne h2, stI_up (a := 0), hpI_stA_ne h1]
        have i0 : ∀ k, ¬ k = 16 → hpI (stI (stI G' 0 16 (-3)) 69 2 (hpI G' 69 2 + 1)) 0 k = hpI G' 0 k := fun k hk => by rw [stI_up (a := 69), hpI_stA_ne (by decide), stI_up (a := 0), hpI_stA, up_ne hk]
        refine ⟨(f06.fc.trans (z1.mono WFc_WOc)).trans ((Fr.refl.wI rfl).wI rfl).fc, ?_, -3, rfl, ?_, ?_, ?_, rfl, ?_, ?_, ?_⟩
        · rw [ir _ (by decide) (by decide), z1.I rfl]; exact tp6
        · rw [stI_up (a := 69), hpI_stA_ne (by decide), stI_up (a := 0), hpI_stA, up_eq]; rfl
        · have e1 : hpI G' 69 = hpI G 69 := by rw [z1.IA _ (fun _ => rfl)]; exact rf6
          rw [stI_up (a := 69), hpI_stA, stI_up (a := 0), hpI_stA_ne (by decide), e1]
          unfold rfC
          rw [if_pos (by decide)]
          rfl
        · rw [i0 _ (by decide), z1.I rfl]; exact w17
        · rw [i0 _ (by decide)]; exact z2
        · rw [ir _ (by decide) (by decide)]; exact z3
        · exact z4.unc ⟨ir _ (by decide) (by decide), ir _ (by decide) (by decide), fun i hi => ir _ (by omega) (by omega)⟩
      · rw [hP]
        unfold OcQ
        rw [hg]
        dsimp only
        rw [z3]
        obtain ⟨q, q16, hX', _, _, y3, y2, ycu, _, _⟩ := z2
        have ir : ∀ a, ¬ a = 0 → hpI (stI G' 0 16 0) a = hpI G' a := fun a h1 => by rw [stI_up (a := 0), hpI_stA_ne h1]
        have i0 : ∀ k, ¬ k = 16 → hpI (stI G' 0 16 0) 0 k = hpI G' 0 k := fun k hk => by rw [stI_up (a := 0), hpI_stA, up_ne hk]
        have hnn : ¬ nI S.2.1 < 0 := Int32.not_lt.mpr (nI_pos' (by omega))
        refine ⟨(f06.fc.trans (z1.mono WRc_WOc)).trans (Fr.refl.wI rfl).fc, ?_, nI S.2.1, rfl, ?_, ?_, ?_, rfl, ?_, ?_, ?_⟩
        · rw [ir _ (by decide), z1.I rfl]; exact tp6
        · rw [stI_up (a := 0), hpI_stA, up_eq]; unfold stM1; rw [if_neg hnn]
        · rw [ir _ (by decide), z1.IA _ (fun _ => rfl), rf6]; unfold rfC; rw [if_neg hnn]
        · rw [i0 _ (by decide), z1.I rfl]; exact w17
        · rw [i0 _ (by decide), z1.I rfl]; exact w18
        · rw [ir _ (by decide)]; exact hX'.2.2.1
        · exact UCx.unc ⟨q, q16, y3, y2, ycu⟩ ⟨ir _ (by decide), ir _ (by decide), fun i hi => ir _ (by omega)⟩
    simp only [Option.toList_none, List.nil_append, w_iadd, w_isub, w_imul, w_iand, w_ior, w_ixor, w_ishl, w_ishr, w_iushr, w_idiv, w_irem, w_ineg, w_ladd, w_lsub, w_lmul, w_ldiv, w_lrem, w_i2l, w_l2i, w_i2c, w_lcmp, w_dup_int, w_pop_int, w_dup_ref, w_pop_ref, w_dup_retAddr, w_pop_retAddr, w_dup2, w_I, w_L, w_Null, w_Ild, w_Lld, w_Ald, w_Ist, w_Lst, w_Ast, w_Iinc, w_if_eq, w_icmp_eq, w_if_ne, w_icmp_ne, w_if_lt, w_icmp_lt, w_if_ge, w_icmp_ge, w_if_gt, w_icmp_gt, w_if_le, w_icmp_le, w_GetI, w_GetL, w_GetR, w_PutI, w_PutZ, w_PutL, w_PutR, w_PutN, w_Iald, w_Zald, w_Lald, w_Aald, w_Iast, w_Zast, w_Last, w_AastR, w_AastN, w_Alen, w_New, w_NewA, w_Mna, w_Iret, w_Zret, w_Cret, w_Bret, w_Lret, w_AretR, w_AretN, w_Vret, w_Obj, w_IfNN, w_IfNR, w_Copy, w_Cln, w_Cast, w_SfA, w_SfI, w_SfQ, w_Str, w_ScLd, w_ScLen, w_CV0, w_CS0, w_CV1, w_CS1, w_CV2, w_CS2, w_CV3, w_CS3, w_CV4, w_CS4, w_CV5, w_CS5, List.getElem?_cons_zero, List.getElem?_cons_succ, List.set_cons_zero, List.set_cons_succ, List.length_cons, List.length_nil, List.map_cons, List.map_nil, List.sum_cons, List.sum_nil, List.nil_append, List.cons_append, Option.toList_some, Option.toList_none, Value.category, xok, va_rf, true_and, and_true, and_self, Nat.reduceAdd, Nat.reduceLT, Nat.reduceLeDiff, Nat.reduceEqDiff, Nat.reduceMul, beq_self_eq_true, decide_true, ite_true, ite_false, if_true, if_false, reduceIte, Bool.true_eq_false, Bool.false_eq_true, eq_self_iff_true, Nat.zero_le, not_true_eq_false, not_false_eq_true, forall_const, false_implies, implies_true, forall_false, tn_0, tn_1, tn_2, tn_3, tn_4, tn_5, tn_6, tn_7, tn_8, tn_9, tn_10, tn_11, tn_12, tn_13, tn_14, tn_15, tn_16, tn_17, tn_18, tn_19, tn_20, tn_21, tn_22, tn_23, tn_24, tn_25, tn_26, tn_27, tn_28, tn_29, tn_30, tn_31, tn_32, tn_33, tn_34, tn_35, tn_36, tn_37, tn_38, tn_39, tn_40, tn_41, tn_42, tn_43, tn_44, tn_45, tn_46, tn_47, tn_48, tn_49, tn_50, tn_51, tn_52, tn_53, tn_54, tn_55, tn_56, tn_57, tn_58, tn_59, tn_60, tn_61, tn_62, tn_63, tn_64, tn_65, tn_66, tn_67, tn_68, tn_69, tn_70, tn_71, tn_72, tn_73, tn_74, tn_75, tn_76, tn_77, tn_78, tn_79, tn_80, tn_81, tn_82, tn_83, tn_84, tn_85, tn_86, tn_87, tn_88, tn_89, tn_90, tn_91, tn_92, tn_93, tn_94, tn_95, tn_96, tn_97, tn_98, tn_99, tn_100, tn_101, tn_102, tn_103, tn_104, tn_105, tn_106, tn_107, tn_108, tn_109, tn_110, tn_111, tn_112, tn_113, tn_114, tn_115, tn_116, tn_117, tn_118, tn_119, tn_120, tn_121, tn_122, tn_123, tn_124, tn_125, tn_126, tn_127, tn_128, tn_129, tn_130, tn_131, tn_132, tn_133, tn_134, tn_135, tn_136, tn_137, tn_138, tn_139, tn_140, tn_141, tn_142, tn_143, tn_144, tn_145, tn_146, tn_147, tn_148, tn_149, tn_150, tn_151, tn_152, tn_153, tn_154, tn_155, tn_156, tn_157, tn_158, tn_159, tn_160, tn_161, tn_162, tn_163, tn_164, tn_165, tn_166, tn_167, tn_168, tn_169, tn_170, tn_171, tn_172, tn_173, tn_174, tn_175, tn_176, tn_177, tn_178, tn_179, tn_180, tn_181, tn_182, tn_183, tn_184, tn_185, tn_186, tn_187, tn_188, tn_189, tn_190, tn_191, tn_192, tn_193, tn_194, tn_195, tn_196, tn_197, tn_198, tn_199, tn_255, tn_256, tn_300, tn_399, tn_400, tn_500, tn_900, tn_999, tn_1000, tn_1001, tn_1024, tn_2048, tn_2176, tn_3536, tn_4095, tn_4096, tn_5580, tn_11160, tn_12345, tn_1103, tn_99999, tn_1000000, tn_1000003, tn_100000000, tn_1000000000, ge0_0, ge0_1, ge0_2, ge0_3, ge0_4, ge0_5, ge0_6, ge0_7, ge0_8, ge0_9, ge0_10, ge0_11, ge0_12, ge0_13, ge0_14, ge0_15, ge0_16, ge0_17, ge0_18, ge0_19, ge0_20, ge0_21, ge0_22, ge0_23, ge0_24, ge0_25, ge0_26, ge0_27, ge0_28, ge0_29, ge0_30, ge0_31, ge0_32, ge0_33, ge0_34, ge0_35, ge0_36, ge0_37, ge0_38, ge0_39, ge0_40, ge0_41, ge0_42, ge0_43, ge0_44, ge0_45, ge0_46, ge0_47, ge0_48, ge0_49, ge0_50, ge0_51, ge0_52, ge0_53, ge0_54, ge0_55, ge0_56, ge0_57, ge0_58, ge0_59, ge0_60, ge0_61, ge0_62, ge0_63, ge0_64, ge0_65, ge0_66, ge0_67, ge0_68, ge0_69, ge0_70, ge0_71, ge0_72, ge0_73, ge0_74, ge0_75, ge0_76, ge0_77, ge0_78, ge0_79, ge0_80, ge0_81, ge0_82, ge0_83, ge0_84, ge0_85, ge0_86, ge0_87, ge0_88, ge0_89, ge0_90, ge0_91, ge0_92, ge0_93, ge0_94, ge0_95, ge0_96, ge0_97, ge0_98, ge0_99, ge0_100, ge0_101, ge0_102, ge0_103, ge0_104, ge0_105, ge0_106, ge0_107, ge0_108, ge0_109, ge0_110, ge0_111, ge0_112, ge0_113, ge0_114, ge0_115, ge0_116, ge0_117, ge0_118, ge0_119, ge0_120, ge0_121, ge0_122, ge0_123, ge0_124, ge0_125, ge0_126, ge0_127, ge0_128, ge0_129, ge0_130, ge0_131, ge0_132, ge0_133, ge0_134, ge0_135, ge0_136, ge0_137, ge0_138, ge0_139, ge0_140, ge0_141, ge0_142, ge0_143, ge0_144, ge0_145, ge0_146, ge0_147, ge0_148, ge0_149, ge0_150, ge0_151, ge0_152, ge0_153, ge0_154, ge0_155, ge0_156, ge0_157, ge0_158, ge0_159, ge0_160, ge0_161, ge0_162, ge0_163, ge0_164, ge0_165, ge0_166, ge0_167, ge0_168, ge0_169, ge0_170, ge0_171, ge0_172, ge0_173, ge0_174, ge0_175, ge0_176, ge0_177, ge0_178, ge0_179, ge0_180, ge0_181, ge0_182, ge0_183, ge0_184, ge0_185, ge0_186, ge0_187, ge0_188, ge0_189, ge0_190, ge0_191, ge0_192, ge0_193, ge0_194, ge0_195, ge0_196, ge0_197, ge0_198, ge0_199, ge0_255, ge0_256, ge0_300, ge0_399, ge0_400, ge0_500, ge0_900, ge0_999, ge0_1000, ge0_1001, ge0_1024, ge0_2048, ge0_2176, ge0_3536, ge0_4095, ge0_4096, ge0_5580, ge0_11160, ge0_12345, ge0_1103, ge0_99999, ge0_1000000, ge0_1000003, ge0_100000000, ge0_1000000000, hC4.all, xin, ← hG5, hC5.all, ← hG6, hC6.all, ne10, ne10L, ne01, ne01L, tt_imp, nt_imp, ff_imp, nf_imp, true_and, and_true, true_or, or_true, reduceIte]
    exact h75
