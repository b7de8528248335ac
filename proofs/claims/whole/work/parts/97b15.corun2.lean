def WOk : Nat → Nat → Bool := fun a k => WOw a k || WW a k
theorem WOw_WOk (a k : Nat) (h : WOk a k = false) : WOw a k = false := by
  unfold WOk at h
  simp only [Bool.or_eq_false_iff] at h
  exact h.1
theorem WK_WOk (a k : Nat) (h : WOk a k = false) : WK a k = false := by
  unfold WOk at h
  simp only [Bool.or_eq_false_iff] at h
  exact WK_WW a k h.2
theorem WOk_WRc (a k : Nat) (h : WRc a k = false) : WOk a k = false := by
  unfold WOk
  rw [WOw_WRc a k h, WW_WRc a k h]
  rfl
theorem WOk_Lo : Lo WOk := by
  intro a k h
  unfold WOk WOw WW
  simp only [Bool.or_eq_false_iff, beq_eq_false_iff_ne]
  omega
theorem CRn.ok {T : Nat → (Nat → Int64) → Option Int64} {hl : Bool} {A B : Nat → Nat} {n : Nat} {G G' : XH} {S : OS} (h : CRn T hl A B n G S) (hf : FC WOk G G') (h3 : hpI G' 57 3 = hpI G 57 3) (h4 : hpI G' 57 4 = hpI G 57 4) : CRn T hl A B n G' S := by
  obtain ⟨p, p16, hX, hU, hRd, u3, u2, hcu, o3, o4⟩ := h
  have i3 : ∀ i, i < 16 → hpI G' (10 + i) = hpI G (10 + i) := fun i hi => hf.IA _ (fun k => by unfold WOk WOw WW; simp only [Bool.or_eq_false_iff, beq_eq_false_iff_ne]; omega)
  refine ⟨p, p16, hX.wc hf WOk_Lo (fun _ => rfl) (by rw [hf.IA _ (fun _ => rfl)]; exact hX.2.2.1), CU_fc hU hf, hRd.fc hf (fun _ => rfl) (fun _ => rfl) (fun _ => rfl), (hf.I rfl).trans u3, (hf.I rfl).trans u2, fun k hk => ?_, h3.trans o3, h4.trans o4⟩
  have h16 : (p + 16 - S.2.2.2.1 + k) % 16 < 16 := Nat.mod_lt _ (by omega)
  dsimp only
  rw [hf.IA 26 (fun _ => rfl), i3 _ h16]
  exact hcu k hk
theorem c_runOrder {T : Nat → (Nat → Int64) → Option Int64} {hl : Bool} {A B : Nat → Nat} {n nr nl c : Nat} {R0 : Nat → Int32} {G : XH} {S : OS} (h : CRn T hl A B n G S) (hI : OI R0 nr nl c S) (hc : c + S.2.1 ≤ 500000) (hd : S.2.1 ≤ 1000) {L : List CLd} {sz : Nat} (hT : TXo G L sz) {i : Nat} (hi : i < L.length) : SP D_Post_runOrder [.ref 0, .int (nI i)] G (RcQ T hl A B n G (oOne T hl A B n nr nl (L.getD i clD) S)) := by
  have h0 := h
  obtain ⟨p, p16, hX, hU, hRd, u3, u2, hcu, o3, o4⟩ := h
  have hC := hX.1
  have a1 := hI.1
  have n8 := a1.2.1
  have n12 := a1.2.2.2.1
  have hB := owE_B a1 hc hd hI.2.2.2
  obtain ⟨hk, hlo⟩ := hT.2.2.2.2.2.2 i hi
  obtain ⟨cl, hcl⟩ : ∃ cl, cl = L.getD i clD := ⟨_, rfl⟩
  rw [← hcl] at hk hlo
  have hvb : ∀ v, cl.2.1 (owE S.1 S.2.1 S.2.2.1) = some v → -BIG ≤ v ∧ v ≤ BIG := fun v hv => hk.1 _ v hB hv
  rw [← hcl]
  obtain ⟨P, hP⟩ : ∃ P : XR → Prop, P = RcQ T hl A B n G (oOne T hl A B n nr nl cl S) := ⟨_, rfl⟩
  rw [← hP, e_Post_runOrder]
  simp only [k_Post_runOrder_0, w_iadd, w_isub, w_imul, w_iand, w_ior, w_ixor, w_ishl, w_ishr, w_iushr, w_idiv, w_irem, w_ineg, w_ladd, w_lsub, w_lmul, w_ldiv, w_lrem, w_i2l, w_l2i, w_i2c, w_lcmp, w_dup_int, w_pop_int, w_dup_ref, w_pop_ref, w_dup_retAddr, w_pop_retAddr, w_dup2, w_I, w_L, w_Null, w_Ild, w_Lld, w_Ald, w_Ist, w_Lst, w_Ast, w_Iinc, w_if_eq, w_icmp_eq, w_if_ne, w_icmp_ne, w_if_lt, w_icmp_lt, w_if_ge, w_icmp_ge, w_if_gt, w_icmp_gt, w_if_le, w_icmp_le, w_GetI, w_GetL, w_GetR, w_PutI, w_PutZ, w_PutL, w_PutR, w_PutN, w_Iald, w_Zald, w_Lald, w_Aald, w_Iast, w_Zast, w_Last, w_AastR, w_AastN, w_Alen, w_New, w_NewA, w_Mna, w_Iret, w_Zret, w_Cret, w_Bret, w_Lret, w_AretR, w_AretN, w_Vret, w_Obj, w_IfNN, w_IfNR, w_Copy, w_Cln, w_Cast, w_SfA, w_SfI, w_SfQ, w_Str, w_ScLd, w_ScLen, w_CV0, w_CS0, w_CV1, w_CS1, w_CV2, w_CS2, w_CV3, w_CS3, w_CV4, w_CS4, w_CV5, w_CS5, List.getElem?_cons_zero, List.getElem?_cons_succ, List.set_cons_zero, List.set_cons_succ, List.length_cons, List.length_nil, List.map_cons, List.map_nil, List.sum_cons, List.sum_nil, List.nil_append, List.cons_append, Option.toList_some, Option.toList_none, Value.category, xok, va_rf, true_and, and_true, and_self, Nat.reduceAdd, Nat.reduceLT, Nat.reduceLeDiff, Nat.reduceEqDiff, Nat.reduceMul, beq_self_eq_true, decide_true, ite_true, ite_false, if_true, if_false, reduceIte, Bool.true_eq_false, Bool.false_eq_true, eq_self_iff_true, Nat.zero_le, not_true_eq_false, not_false_eq_true, forall_const, false_implies, implies_true, forall_false, hC.all, ne10, ne10L, ne01, ne01L, tt_imp, nt_imp, ff_imp, nf_imp, true_and, and_true, true_or, or_true, reduceIte]
  refine SP.mono (c_tellWords hC hX.2.2.1 n8 a1.1 o3 o4) ?_
  rintro ⟨v1, G1⟩ ⟨rfl, f1', d3, d4, hen⟩
  dsimp only at f1' d3 d4 hen
  have hC1 := f1'.cs hC
  have hT1 := hT.fc f1'.fc (fun _ => rfl) (fun _ => rfl) (fun _ => rfl)
  have h1 : CRn T hl A B n G1 S := h0.ok (f1'.mono WOw_WOk).fc (d3.trans o3.symm) (d4.trans o4.symm)
  have hT1' := hT1
  obtain ⟨t1, t2, t3, t4, t5, t6, t7⟩ := hT1
  obtain ⟨p0, p1, p2, p3, r0, r1, r2, r3, r4, r5, s1, s2, s3, s4⟩ := t6 i hi
  rw [← hcl] at r0 r5 s1 s2 s3
  have l1 := s1.pw.2
  have l2 := s2.pw.2
  have l3 := s3.pw.2
  simp only [Option.toList_none, List.nil_append, w_iadd, w_isub, w_imul, w_iand, w_ior, w_ixor, w_ishl, w_ishr, w_iushr, w_idiv, w_irem, w_ineg, w_ladd, w_lsub, w_lmul, w_ldiv, w_lrem, w_i2l, w_l2i, w_i2c, w_lcmp, w_dup_int, w_pop_int, w_dup_ref, w_pop_ref, w_dup_retAddr, w_pop_retAddr, w_dup2, w_I, w_L, w_Null, w_Ild, w_Lld, w_Ald, w_Ist, w_Lst, w_Ast, w_Iinc, w_if_eq, w_icmp_eq, w_if_ne, w_icmp_ne, w_if_lt, w_icmp_lt, w_if_ge, w_icmp_ge, w_if_gt, w_icmp_gt, w_if_le, w_icmp_le, w_GetI, w_GetL, w_GetR, w_PutI, w_PutZ, w_PutL, w_PutR, w_PutN, w_Iald, w_Zald, w_Lald, w_Aald, w_Iast, w_Zast, w_Last, w_AastR, w_AastN, w_Alen, w_New, w_NewA, w_Mna, w_Iret, w_Zret, w_Cret, w_Bret, w_Lret, w_AretR, w_AretN, w_Vret, w_Obj, w_IfNN, w_IfNR, w_Copy, w_Cln, w_Cast, w_SfA, w_SfI, w_SfQ, w_Str, w_ScLd, w_ScLen, w_CV0, w_CS0, w_CV1, w_CS1, w_CV2, w_CS2, w_CV3, w_CS3, w_CV4, w_CS4, w_CV5, w_CS5, List.getElem?_cons_zero, List.getElem?_cons_succ, List.set_cons_zero, List.set_cons_succ, List.length_cons, List.length_nil, List.map_cons, List.map_nil, List.sum_cons, List.sum_nil, List.nil_append, List.cons_append, Option.toList_some, Option.toList_none, Value.category, xok, va_rf, true_and, and_true, and_self, Nat.reduceAdd, Nat.reduceLT, Nat.reduceLeDiff, Nat.reduceEqDiff, Nat.reduceMul, beq_self_eq_true, decide_true, ite_true, ite_false, if_true, if_false, reduceIte, Bool.true_eq_false, Bool.false_eq_true, eq_self_iff_true, Nat.zero_le, not_true_eq_false, not_false_eq_true, forall_const, false_implies, implies_true, forall_false, hC1.all, ne10, ne10L, ne01, ne01L, tt_imp, nt_imp, ff_imp, nf_imp, true_and, and_true, true_or, or_true, reduceIte]
  refine SP.mono (c_runC hC1 t2 t1 t3 t4 t5 (w := 3) hi (by omega) r3 r4 l3 s4 (fun z => by
    rcases s3 with ⟨_, y⟩ | ⟨y, _⟩
    · exact y
    · omega) (fun z => by
    rcases s3 with ⟨y, _⟩ | ⟨_, y⟩
    · omega
    · exact y) (owE S.1 S.2.1 S.2.2.1) hen) ?_
  rintro ⟨v2, G2⟩ ⟨hv2, f2⟩
  dsimp only at hv2 f2
  subst hv2
  have f02 : FC WOk G G2 := ((f1'.mono WOw_WOk).trans (f2.mono WK_WOk)).fc
  have fR2 : FC WRc G G2 := f02.mono WOk_WRc
  have hC2 := f2.cs hC1
  have e3 : hpI G2 57 3 = nI S.2.1 := (f2.I rfl).trans d3
  have e4 : hpI G2 57 4 = S.2.2.1 := (f2.I rfl).trans d4
  have h2 : CRn T hl A B n G2 S := h0.ok f02 (e3.trans o3.symm) (e4.trans o4.symm)
  have hT2 := hT1'.fc f2.fc (fun _ => rfl) (fun _ => rfl) (fun _ => rfl)
  have hen2 : ∀ w, w < 21 → owE S.1 S.2.1 S.2.2.1 w = (hpI G2 57 w).toInt64 := fun w hw => by rw [f2.I rfl]; exact hen w hw
  have hskip : ∀ {LO : List (Option Value)}, oOne T hl A B n nr nl cl S = some S → WP (xI 1 (xZret ())) LO [] G2 P := by
    intro LO e
    simp only [w_iadd, w_isub, w_imul, w_iand, w_ior, w_ixor, w_ishl, w_ishr, w_iushr, w_idiv, w_irem, w_ineg, w_ladd, w_lsub, w_lmul, w_ldiv, w_lrem, w_i2l, w_l2i, w_i2c, w_lcmp, w_dup_int, w_pop_int, w_dup_ref, w_pop_ref, w_dup_retAddr, w_pop_retAddr, w_dup2, w_I, w_L, w_Null, w_Ild, w_Lld, w_Ald, w_Ist, w_Lst, w_Ast, w_Iinc, w_if_eq, w_icmp_eq, w_if_ne, w_icmp_ne, w_if_lt, w_icmp_lt, w_if_ge, w_icmp_ge, w_if_gt, w_icmp_gt, w_if_le, w_icmp_le, w_GetI, w_GetL, w_GetR, w_PutI, w_PutZ, w_PutL, w_PutR, w_PutN, w_Iald, w_Zald, w_Lald, w_Aald, w_Iast, w_Zast, w_Last, w_AastR, w_AastN, w_Alen, w_New, w_NewA, w_Mna, w_Iret, w_Zret, w_Cret, w_Bret, w_Lret, w_AretR, w_AretN, w_Vret, w_Obj, w_IfNN, w_IfNR, w_Copy, w_Cln, w_Cast, w_SfA, w_SfI, w_SfQ, w_Str, w_ScLd, w_ScLen, w_CV0, w_CS0, w_CV1, w_CS1, w_CV2, w_CS2, w_CV3, w_CS3, w_CV4, w_CS4, w_CV5, w_CS5, or_true, true_or, ne10, ne10L, ne01, ne01L, tt_imp, nt_imp, ff_imp, nf_imp, true_and, and_true, true_or, or_true, reduceIte]
    rw [hP, e]
    exact ⟨fR2, rfl, h2⟩
  rcases hk.2.1 (owE S.1 S.2.1 S.2.2.1) with hv | hv | hv
  · rw [hv]
    have eo : oOne T hl A B n nr nl cl S = some S := by unfold oOne; rw [hv, if_neg (fun z => by cases z)]
    have := hskip (LO := [some (.ref 0), some (.int (nI i)), some (.ref 50), some (.ref 54), none, none, none, none]) eo
    simp only [w_iadd, w_isub, w_imul, w_iand, w_ior, w_ixor, w_ishl, w_ishr, w_iushr, w_idiv, w_irem, w_ineg, w_ladd, w_lsub, w_lmul, w_ldiv, w_lrem, w_i2l, w_l2i, w_i2c, w_lcmp, w_dup_int, w_pop_int, w_dup_ref, w_pop_ref, w_dup_retAddr, w_pop_retAddr, w_dup2, w_I, w_L, w_Null, w_Ild, w_Lld, w_Ald, w_Ist, w_Lst, w_Ast, w_Iinc, w_if_eq, w_icmp_eq, w_if_ne, w_icmp_ne, w_if_lt, w_icmp_lt, w_if_ge, w_icmp_ge, w_if_gt, w_icmp_gt, w_if_le, w_icmp_le, w_GetI, w_GetL, w_GetR, w_PutI, w_PutZ, w_PutL, w_PutR, w_PutN, w_Iald, w_Zald, w_Lald, w_Aald, w_Iast, w_Zast, w_Last, w_AastR, w_AastN, w_Alen, w_New, w_NewA, w_Mna, w_Iret, w_Zret, w_Cret, w_Bret, w_Lret, w_AretR, w_AretN, w_Vret, w_Obj, w_IfNN, w_IfNR, w_Copy, w_Cln, w_Cast, w_SfA, w_SfI, w_SfQ, w_Str, w_ScLd, w_ScLen, w_CV0, w_CS0, w_CV1, w_CS1, w_CV2, w_CS2, w_CV3, w_CS3, w_CV4, w_CS4, w_CV5, w_CS5, or_true, true_or, ne10, ne10L, ne01, ne01L, tt_imp, nt_imp, ff_imp, nf_imp, true_and, and_true, true_or, or_true, reduceIte] at this
    simp only [Option.toList_some, List.cons_append, List.nil_append, w_iadd, w_isub, w_imul, w_iand, w_ior, w_ixor, w_ishl, w_ishr, w_iushr, w_idiv, w_irem, w_ineg, w_ladd, w_lsub, w_lmul, w_ldiv, w_lrem, w_i2l, w_l2i, w_i2c, w_lcmp, w_dup_int, w_pop_int, w_dup_ref, w_pop_ref, w_dup_retAddr, w_pop_retAddr, w_dup2, w_I, w_L, w_Null, w_Ild, w_Lld, w_Ald, w_Ist, w_Lst, w_Ast, w_Iinc, w_if_eq, w_icmp_eq, w_if_ne, w_icmp_ne, w_if_lt, w_icmp_lt, w_if_ge, w_icmp_ge, w_if_gt, w_icmp_gt, w_if_le, w_icmp_le, w_GetI, w_GetL, w_GetR, w_PutI, w_PutZ, w_PutL, w_PutR, w_PutN, w_Iald, w_Zald, w_Lald, w_Aald, w_Iast, w_Zast, w_Last, w_AastR, w_AastN, w_Alen, w_New, w_NewA, w_Mna, w_Iret, w_Zret, w_Cret, w_Bret, w_Lret, w_AretR, w_AretN, w_Vret, w_Obj, w_IfNN, w_IfNR, w_Copy, w_Cln, w_Cast, w_SfA, w_SfI, w_SfQ, w_Str, w_ScLd, w_ScLen, w_CV0, w_CS0, w_CV1, w_CS1, w_CV2, w_CS2, w_CV3, w_CS3, w_CV4, w_CS4, w_CV5, w_CS5, List.getElem?_cons_zero, List.getElem?_cons_succ, List.set_cons_zero, List.set_cons_succ, List.length_cons, List.length_nil, List.map_cons, List.map_nil, List.sum_cons, List.sum_nil, List.nil_append, List.cons_append, Option.toList_some, Option.toList_none, Value.category, xok, va_rf, true_and, and_true, and_self, Nat.reduceAdd, Nat.reduceLT, Nat.reduceLeDiff, Nat.reduceEqDiff, Nat.reduceMul, beq_self_eq_true, decide_true, ite_true, ite_false, if_true, if_false, reduceIte, Bool.true_eq_false, Bool.false_eq_true, eq_self_iff_true, Nat.zero_le, not_true_eq_false, not_false_eq_true, forall_const, false_implies, implies_true, forall_false, BRK_1, or_true, true_or, ne10, ne10L, ne01, ne01L, tt_imp, nt_imp, ff_imp, nf_imp, true_and, and_true, true_or, or_true, reduceIte]
    exact this
  · rw [hv]
    have g0 : ((0 : Int64).toInt32 = 1) = False := eq_false (by decide)
    have eo : oOne T hl A B n nr nl cl S = some S := by unfold oOne; rw [hv, if_neg (fun z => by injection z with z; exact absurd z (by decide))]
    have := hskip (LO := [some (.ref 0), some (.int (nI i)), some (.ref 50), some (.ref 54), none, none, none, none]) eo
    simp only [w_iadd, w_isub, w_imul, w_iand, w_ior, w_ixor, w_ishl, w_ishr, w_iushr, w_idiv, w_irem, w_ineg, w_ladd, w_lsub, w_lmul, w_ldiv, w_lrem, w_i2l, w_l2i, w_i2c, w_lcmp, w_dup_int, w_pop_int, w_dup_ref, w_pop_ref, w_dup_retAddr, w_pop_retAddr, w_dup2, w_I, w_L, w_Null, w_Ild, w_Lld, w_Ald, w_Ist, w_Lst, w_Ast, w_Iinc, w_if_eq, w_icmp_eq, w_if_ne, w_icmp_ne, w_if_lt, w_icmp_lt, w_if_ge, w_icmp_ge, w_if_gt, w_icmp_gt, w_if_le, w_icmp_le, w_GetI, w_GetL, w_GetR, w_PutI, w_PutZ, w_PutL, w_PutR, w_PutN, w_Iald, w_Zald, w_Lald, w_Aald, w_Iast, w_Zast, w_Last, w_AastR, w_AastN, w_Alen, w_New, w_NewA, w_Mna, w_Iret, w_Zret, w_Cret, w_Bret, w_Lret, w_AretR, w_AretN, w_Vret, w_Obj, w_IfNN, w_IfNR, w_Copy, w_Cln, w_Cast, w_SfA, w_SfI, w_SfQ, w_Str, w_ScLd, w_ScLen, w_CV0, w_CS0, w_CV1, w_CS1, w_CV2, w_CS2, w_CV3, w_CS3, w_CV4, w_CS4, w_CV5, w_CS5, or_true, true_or, ne10, ne10L, ne01, ne01L, tt_imp, nt_imp, ff_imp, nf_imp, true_and, and_true, true_or, or_true, reduceIte] at this
    simp only [Option.toList_some, List.cons_append, List.nil_append, w_iadd, w_isub, w_imul, w_iand, w_ior, w_ixor, w_ishl, w_ishr, w_iushr, w_idiv, w_irem, w_ineg, w_ladd, w_lsub, w_lmul, w_ldiv, w_lrem, w_i2l, w_l2i, w_i2c, w_lcmp, w_dup_int, w_pop_int, w_dup_ref, w_pop_ref, w_dup_retAddr, w_pop_retAddr, w_dup2, w_I, w_L, w_Null, w_Ild, w_Lld, w_Ald, w_Ist, w_Lst, w_Ast, w_Iinc, w_if_eq, w_icmp_eq, w_if_ne, w_icmp_ne, w_if_lt, w_icmp_lt, w_if_ge, w_icmp_ge, w_if_gt, w_icmp_gt, w_if_le, w_icmp_le, w_GetI, w_GetL, w_GetR, w_PutI, w_PutZ, w_PutL, w_PutR, w_PutN, w_Iald, w_Zald, w_Lald, w_Aald, w_Iast, w_Zast, w_Last, w_AastR, w_AastN, w_Alen, w_New, w_NewA, w_Mna, w_Iret, w_Zret, w_Cret, w_Bret, w_Lret, w_AretR, w_AretN, w_Vret, w_Obj, w_IfNN, w_IfNR, w_Copy, w_Cln, w_Cast, w_SfA, w_SfI, w_SfQ, w_Str, w_ScLd, w_ScLen, w_CV0, w_CS0, w_CV1, w_CS1, w_CV2, w_CS2, w_CV3, w_CS3, w_CV4, w_CS4, w_CV5, w_CS5, List.getElem?_cons_zero, List.getElem?_cons_succ, List.set_cons_zero, List.set_cons_succ, List.length_cons, List.length_nil, List.map_cons, List.map_nil, List.sum_cons, List.sum_nil, List.nil_append, List.cons_append, Option.toList_some, Option.toList_none, Value.category, xok, va_rf, true_and, and_true, and_self, Nat.reduceAdd, Nat.reduceLT, Nat.reduceLeDiff, Nat.reduceEqDiff, Nat.reduceMul, beq_self_eq_true, decide_true, ite_true, ite_false, if_true, if_false, reduceIte, Bool.true_eq_false, Bool.false_eq_true, eq_self_iff_true, Nat.zero_le, not_true_eq_false, not_false_eq_true, forall_const, false_implies, implies_true, forall_false, g0, or_true, true_or, ne10, ne10L, ne01, ne01L, tt_imp, nt_imp, ff_imp, nf_imp, true_and, and_true, true_or, or_true, reduceIte]
    exact this
  · rw [hv]
    have g1 : ((1 : Int64).toInt32 = 1) = True := eq_true (by decide)
    have eo : oOne T hl A B n nr nl cl S = oAct T hl A B n nr nl cl S := by unfold oOne; rw [hv, if_pos rfl]
    rw [eo] at hP
    obtain ⟨t1, t2, t3, t4, t5, t6, t7⟩ := hT2
    obtain ⟨p0, p1, p2, p3, r0, r1, r2, r3, r4, r5, s1, s2, s3, s4⟩ := t6 i hi
    rw [← hcl] at r0 r5 s1 s2 s3
    have l1 := s1.pw.2
    have l2 := s2.pw.2
    have l3 := s3.pw.2
    have hTX : TX G2 50 51 52 sz L.length := by
      refine ⟨?_, ?_, ?_, ?_, ?_, ?_, ?_, ?_, ?_, t3, t4⟩
      all_goals (simp only [hC2.all])
      all_goals omega
    have td0 : ∀ Q, SP D_Text_told [.ref 50, .int (nI i), .int 0] G2 Q = Q (some (.int (nI cl.1)), G2) := fun Q => by rw [← r0]; exact c_told hTX i 0 hi (by omega) Q
    have td2 : ∀ Q, SP D_Text_told [.ref 50, .int (nI i), .int 2] G2 Q = Q (some (.int (nI p1)), G2) := fun Q => by rw [← r2]; exact c_told hTX i 2 hi (by omega) Q
    have td3 : ∀ Q, SP D_Text_told [.ref 50, .int (nI i), .int 3] G2 Q = Q (some (.int (nI p2)), G2) := fun Q => by rw [← r3]; exact c_told hTX i 3 hi (by omega) Q
    rcases hlo.1 with k5 | ⟨k6, _, _⟩
    · /- to hand -/
      have g6 : (nI cl.1 = 6) = False := eq_false (by rw [k5]; decide)
      have ea : oAct T hl A B n nr nl cl S = match oLt nl cl.2.1 (owE S.1 S.2.1 S.2.2.1) with
        | none => none
        | some one => match cl.2.2.1 with
          | none => oHd T hl A B n one none S
          | some f => match oLt nl f (owE S.1 S.2.1 S.2.2.1) with
            | none => none
            | some k => oHd T hl A B n one (some k) S := by unfold oAct; rw [if_neg (by omega)]; rfl
      rw [ea] at hP
      obtain ⟨tw, htw⟩ : ∃ tw : Int32, tw = (if cl.2.2.1.isSome then 1 else 0) := ⟨_, rfl⟩
      have h77 : WP k_Post_runOrder_77 [some (.ref 0), some (.int (nI i)), some (.ref 50), some (.ref 54), none, none, none, none] [.int tw] G2 P := by
        simp only [k_Post_runOrder_77, w_iadd, w_isub, w_imul, w_iand, w_ior, w_ixor, w_ishl, w_ishr, w_iushr, w_idiv, w_irem, w_ineg, w_ladd, w_lsub, w_lmul, w_ldiv, w_lrem, w_i2l, w_l2i, w_i2c, w_lcmp, w_dup_int, w_pop_int, w_dup_ref, w_pop_ref, w_dup_retAddr, w_pop_retAddr, w_dup2, w_I, w_L, w_Null, w_Ild, w_Lld, w_Ald, w_Ist, w_Lst, w_Ast, w_Iinc, w_if_eq, w_icmp_eq, w_if_ne, w_icmp_ne, w_if_lt, w_icmp_lt, w_if_ge, w_icmp_ge, w_if_gt, w_icmp_gt, w_if_le, w_icmp_le, w_GetI, w_GetL, w_GetR, w_PutI, w_PutZ, w_PutL, w_PutR, w_PutN, w_Iald, w_Zald, w_Lald, w_Aald, w_Iast, w_Zast, w_Last, w_AastR, w_AastN, w_Alen, w_New, w_NewA, w_Mna, w_Iret, w_Zret, w_Cret, w_Bret, w_Lret, w_AretR, w_AretN, w_Vret, w_Obj, w_IfNN, w_IfNR, w_Copy, w_Cln, w_Cast, w_SfA, w_SfI, w_SfQ, w_Str, w_ScLd, w_ScLen, w_CV0, w_CS0, w_CV1, w_CS1, w_CV2, w_CS2, w_CV3, w_CS3, w_CV4, w_CS4, w_CV5, w_CS5, List.getElem?_cons_zero, List.getElem?_cons_succ, List.set_cons_zero, List.set_cons_succ, List.length_cons, List.length_nil, List.map_cons, List.map_nil, List.sum_cons, List.sum_nil, List.nil_append, List.cons_append, Option.toList_some, Option.toList_none, Value.category, xok, va_rf, true_and, and_true, and_self, Nat.reduceAdd, Nat.reduceLT, Nat.reduceLeDiff, Nat.reduceEqDiff, Nat.reduceMul, beq_self_eq_true, decide_true, ite_true, ite_false, if_true, if_false, reduceIte, Bool.true_eq_false, Bool.false_eq_true, eq_self_iff_true, Nat.zero_le, not_true_eq_false, not_false_eq_true, forall_const, false_implies, implies_true, forall_false, hC2.all, ne10, ne10L, ne01, ne01L, tt_imp, nt_imp, ff_imp, nf_imp, true_and, and_true, true_or, or_true, reduceIte]
        refine SP.mono (c_runC hC2 t2 t1 t3 t4 t5 (w := 1) hi (by omega) r1 r2 l1 (by omega) (fun z => by
          rcases s1 with ⟨_, y⟩ | ⟨y, _⟩
          · exact y
          · omega) (fun z => by
          rcases s1 with ⟨y, _⟩ | ⟨_, y⟩
          · omega
          · exact y) (owE S.1 S.2.1 S.2.2.1) hen2) ?_
        rintro ⟨v3, G3⟩ ⟨hv3, f3⟩
        dsimp only at hv3 f3
        obtain ⟨x, rfl, hx⟩ : ∃ x : Int32, v3 = some (.int x) ∧ x = (match cl.2.1 (owE S.1 S.2.1 S.2.2.1) with
          | none => BRK
          | some v => v.toInt32) := ⟨_, hv3, rfl⟩
        have hC3 := f3.cs hC2
        have f03 : FC WOk G G3 := f02.trans (f3.mono WK_WOk).fc
        have fR3 : FC WRc G G3 := f03.mono WOk_WRc
        have d33 : hpI G3 57 3 = nI S.2.1 := (f3.I rfl).trans e3
        have d34 : hpI G3 57 4 = S.2.2.1 := (f3.I rfl).trans e4
        have h3 : CRn T hl A B n G3 S := h0.ok f03 (d33.trans o3.symm) (d34.trans o4.symm)
        have v35 : hpI G3 2 5 = nI nl := by
          obtain ⟨_, _, hX3, _⟩ := h3
          exact hX3.2.2.1.2.2.1.trans a1.2.2.1
        have hil := fun Q y => c_isLetter hC3 Q y
        have h137 : ∀ {LO : List (Option Value)}, (match oLt nl cl.2.1 (owE S.1 S.2.1 S.2.2.1) with
          | none => none
          | some one => match cl.2.2.1 with
            | none => oHd T hl A B n one none S
            | some f => match oLt nl f (owE S.1 S.2.1 S.2.2.1) with
              | none => none
              | some k => oHd T hl A B n one (some k) S) = none → WP k_Post_runOrder_137 LO [] G3 P := by
          intro LO e
          simp only [k_Post_runOrder_137, w_iadd, w_isub, w_imul, w_iand, w_ior, w_ixor, w_ishl, w_ishr, w_iushr, w_idiv, w_irem, w_ineg, w_ladd, w_lsub, w_lmul, w_ldiv, w_lrem, w_i2l, w_l2i, w_i2c, w_lcmp, w_dup_int, w_pop_int, w_dup_ref, w_pop_ref, w_dup_retAddr, w_pop_retAddr, w_dup2, w_I, w_L, w_Null, w_Ild, w_Lld, w_Ald, w_Ist, w_Lst, w_Ast, w_Iinc, w_if_eq, w_icmp_eq, w_if_ne, w_icmp_ne, w_if_lt, w_icmp_lt, w_if_ge, w_icmp_ge, w_if_gt, w_icmp_gt, w_if_le, w_icmp_le, w_GetI, w_GetL, w_GetR, w_PutI, w_PutZ, w_PutL, w_PutR, w_PutN, w_Iald, w_Zald, w_Lald, w_Aald, w_Iast, w_Zast, w_Last, w_AastR, w_AastN, w_Alen, w_New, w_NewA, w_Mna, w_Iret, w_Zret, w_Cret, w_Bret, w_Lret, w_AretR, w_AretN, w_Vret, w_Obj, w_IfNN, w_IfNR, w_Copy, w_Cln, w_Cast, w_SfA, w_SfI, w_SfQ, w_Str, w_ScLd, w_ScLen, w_CV0, w_CS0, w_CV1, w_CS1, w_CV2, w_CS2, w_CV3, w_CS3, w_CV4, w_CS4, w_CV5, w_CS5, or_true, true_or, ne10, ne10L, ne01, ne01L, tt_imp, nt_imp, ff_imp, nf_imp, true_and, and_true, true_or, or_true, reduceIte]
          rw [hP, e]
          exact ⟨fR3, rfl⟩
        have hxl := oLt_c n12 hvb hx
        cases hw : cl.2.2.1 with
        | none =>
          rw [hw] at htw hP h137
          have g0 : (tw = 0) = True := eq_true htw
          rcases hxl with ⟨one, ho, l, hxo⟩ | ⟨ho, hxo⟩
          · rw [ho] at hP
            subst hxo
            have gi : (0 ≤ nI one ∧ nI one < nI nl) = True := eq_true (nI_rg l (by omega))
            have := (ro_139 (x1 := nI i) (a2 := some (.ref 50)) (x3 := 54) (a4 := none) (a5 := some (.int tw)) h3 hI hc l (o := none) (fun k hk => by cases hk) rfl).mono (fun z hz => hz.fc fR3)
            dsimp only at hP
            rw [← hP] at this
            simp only [Option.toList_some, List.cons_append, List.nil_append, k_Post_runOrder_112, w_iadd, w_isub, w_imul, w_iand, w_ior, w_ixor, w_ishl, w_ishr, w_iushr, w_idiv, w_irem, w_ineg, w_ladd, w_lsub, w_lmul, w_ldiv, w_lrem, w_i2l, w_l2i, w_i2c, w_lcmp, w_dup_int, w_pop_int, w_dup_ref, w_pop_ref, w_dup_retAddr, w_pop_retAddr, w_dup2, w_I, w_L, w_Null, w_Ild, w_Lld, w_Ald, w_Ist, w_Lst, w_Ast, w_Iinc, w_if_eq, w_icmp_eq, w_if_ne, w_icmp_ne, w_if_lt, w_icmp_lt, w_if_ge, w_icmp_ge, w_if_gt, w_icmp_gt, w_if_le, w_icmp_le, w_GetI, w_GetL, w_GetR, w_PutI, w_PutZ, w_PutL, w_PutR, w_PutN, w_Iald, w_Zald, w_Lald, w_Aald, w_Iast, w_Zast, w_Last, w_AastR, w_AastN, w_Alen, w_New, w_NewA, w_Mna, w_Iret, w_Zret, w_Cret, w_Bret, w_Lret, w_AretR, w_AretN, w_Vret, w_Obj, w_IfNN, w_IfNR, w_Copy, w_Cln, w_Cast, w_SfA, w_SfI, w_SfQ, w_Str, w_ScLd, w_ScLen, w_CV0, w_CS0, w_CV1, w_CS1, w_CV2, w_CS2, w_CV3, w_CS3, w_CV4, w_CS4, w_CV5, w_CS5, List.getElem?_cons_zero, List.getElem?_cons_succ, List.set_cons_zero, List.set_cons_succ, List.length_cons, List.length_nil, List.map_cons, List.map_nil, List.sum_cons, List.sum_nil, List.nil_append, List.cons_append, Option.toList_some, Option.toList_none, Value.category, xok, va_rf, true_and, and_true, and_self, Nat.reduceAdd, Nat.reduceLT, Nat.reduceLeDiff, Nat.reduceEqDiff, Nat.reduceMul, beq_self_eq_true, decide_true, ite_true, ite_false, if_true, if_false, reduceIte, Bool.true_eq_false, Bool.false_eq_true, eq_self_iff_true, Nat.zero_le, not_true_eq_false, not_false_eq_true, forall_const, false_implies, implies_true, forall_false, hC3.all, g0, hil, v35, gi, ne10, ne10L, ne01, ne01L, tt_imp, nt_imp, ff_imp, nf_imp, true_and, and_true, true_or, or_true, reduceIte]
            exact this
          · have gi : (0 ≤ x ∧ x < nI nl) = False := eq_false hxo
            have := fun LO => h137 (LO := LO) (by rw [ho])
            simp only [Option.toList_some, List.cons_append, List.nil_append, k_Post_runOrder_112, w_iadd, w_isub, w_imul, w_iand, w_ior, w_ixor, w_ishl, w_ishr, w_iushr, w_idiv, w_irem, w_ineg, w_ladd, w_lsub, w_lmul, w_ldiv, w_lrem, w_i2l, w_l2i, w_i2c, w_lcmp, w_dup_int, w_pop_int, w_dup_ref, w_pop_ref, w_dup_retAddr, w_pop_retAddr, w_dup2, w_I, w_L, w_Null, w_Ild, w_Lld, w_Ald, w_Ist, w_Lst, w_Ast, w_Iinc, w_if_eq, w_icmp_eq, w_if_ne, w_icmp_ne, w_if_lt, w_icmp_lt, w_if_ge, w_icmp_ge, w_if_gt, w_icmp_gt, w_if_le, w_icmp_le, w_GetI, w_GetL, w_GetR, w_PutI, w_PutZ, w_PutL, w_PutR, w_PutN, w_Iald, w_Zald, w_Lald, w_Aald, w_Iast, w_Zast, w_Last, w_AastR, w_AastN, w_Alen, w_New, w_NewA, w_Mna, w_Iret, w_Zret, w_Cret, w_Bret, w_Lret, w_AretR, w_AretN, w_Vret, w_Obj, w_IfNN, w_IfNR, w_Copy, w_Cln, w_Cast, w_SfA, w_SfI, w_SfQ, w_Str, w_ScLd, w_ScLen, w_CV0, w_CS0, w_CV1, w_CS1, w_CV2, w_CS2, w_CV3, w_CS3, w_CV4, w_CS4, w_CV5, w_CS5, List.getElem?_cons_zero, List.getElem?_cons_succ, List.set_cons_zero, List.set_cons_succ, List.length_cons, List.length_nil, List.map_cons, List.map_nil, List.sum_cons, List.sum_nil, List.nil_append, List.cons_append, Option.toList_some, Option.toList_none, Value.category, xok, va_rf, true_and, and_true, and_self, Nat.reduceAdd, Nat.reduceLT, Nat.reduceLeDiff, Nat.reduceEqDiff, Nat.reduceMul, beq_self_eq_true, decide_true, ite_true, ite_false, if_true, if_false, reduceIte, Bool.true_eq_false, Bool.false_eq_true, eq_self_iff_true, Nat.zero_le, not_true_eq_false, not_false_eq_true, forall_const, false_implies, implies_true, forall_false, hC3.all, g0, hil, v35, gi, ne10, ne10L, ne01, ne01L, tt_imp, nt_imp, ff_imp, nf_imp, true_and, and_true, true_or, or_true, reduceIte]
            exact this _
        | some f =>
          rw [hw] at htw hP h137 s2
          have g0 : (tw = 0) = False := eq_false (by rw [show tw = 1 from htw]; decide)
          obtain ⟨w1, w2⟩ := s2
          have hen3 : ∀ w, w < 21 → owE S.1 S.2.1 S.2.2.1 w = (hpI G3 57 w).toInt64 := fun w hw => by rw [f3.I rfl]; exact hen2 w hw
          have hfvb : ∀ v, f (owE S.1 S.2.1 S.2.2.1) = some v → -BIG ≤ v ∧ v ≤ BIG := fun v hv => hk.2.2 f hw _ v hB hv
          have hTo3 : TXo G3 L sz := TXo.fc ⟨t1, t2, t3, t4, t5, t6, t7⟩ f3.fc (fun _ => rfl) (fun _ => rfl) (fun _ => rfl)
          obtain ⟨y1, y2, y3, y4, y5, y6, y7⟩ := hTo3
          simp only [Option.toList_some, List.cons_append, List.nil_append, w_iadd, w_isub, w_imul, w_iand, w_ior, w_ixor, w_ishl, w_ishr, w_iushr, w_idiv, w_irem, w_ineg, w_ladd, w_lsub, w_lmul, w_ldiv, w_lrem, w_i2l, w_l2i, w_i2c, w_lcmp, w_dup_int, w_pop_int, w_dup_ref, w_pop_ref, w_dup_retAddr, w_pop_retAddr, w_dup2, w_I, w_L, w_Null, w_Ild, w_Lld, w_Ald, w_Ist, w_Lst, w_Ast, w_Iinc, w_if_eq, w_icmp_eq, w_if_ne, w_icmp_ne, w_if_lt, w_icmp_lt, w_if_ge, w_icmp_ge, w_if_gt, w_icmp_gt, w_if_le, w_icmp_le, w_GetI, w_GetL, w_GetR, w_PutI, w_PutZ, w_PutL, w_PutR, w_PutN, w_Iald, w_Zald, w_Lald, w_Aald, w_Iast, w_Zast, w_Last, w_AastR, w_AastN, w_Alen, w_New, w_NewA, w_Mna, w_Iret, w_Zret, w_Cret, w_Bret, w_Lret, w_AretR, w_AretN, w_Vret, w_Obj, w_IfNN, w_IfNR, w_Copy, w_Cln, w_Cast, w_SfA, w_SfI, w_SfQ, w_Str, w_ScLd, w_ScLen, w_CV0, w_CS0, w_CV1, w_CS1, w_CV2, w_CS2, w_CV3, w_CS3, w_CV4, w_CS4, w_CV5, w_CS5, List.getElem?_cons_zero, List.getElem?_cons_succ, List.set_cons_zero, List.set_cons_succ, List.length_cons, List.length_nil, List.map_cons, List.map_nil, List.sum_cons, List.sum_nil, List.nil_append, List.cons_append, Option.toList_some, Option.toList_none, Value.category, xok, va_rf, true_and, and_true, and_self, Nat.reduceAdd, Nat.reduceLT, Nat.reduceLeDiff, Nat.reduceEqDiff, Nat.reduceMul, beq_self_eq_true, decide_true, ite_true, ite_false, if_true, if_false, reduceIte, Bool.true_eq_false, Bool.false_eq_true, eq_self_iff_true, Nat.zero_le, not_true_eq_false, not_false_eq_true, forall_const, false_implies, implies_true, forall_false, hC3.all, g0, ne10, ne10L, ne01, ne01L, tt_imp, nt_imp, ff_imp, nf_imp, true_and, and_true, true_or, or_true, reduceIte]
          refine SP.mono (c_runC hC3 y2 y1 y3 y4 y5 (w := 2) hi (by omega) ((f3.I rfl).trans r2) ((f3.I rfl).trans r3) l2 (by omega) (fun _ => by
            obtain ⟨hh, q1, q2⟩ := w2
            exact ⟨hh, q1, q2.congr (fun k _ _ => f3.I rfl)⟩) (fun z => by omega) (owE S.1 S.2.1 S.2.2.1) hen3) ?_
          rintro ⟨v4, G4⟩ ⟨hv4, f4⟩
          dsimp only at hv4 f4
          obtain ⟨y, rfl, hy⟩ : ∃ y : Int32, v4 = some (.int y) ∧ y = (match f (owE S.1 S.2.1 S.2.2.1) with
            | none => BRK
            | some v => v.toInt32) := ⟨_, hv4, rfl⟩
          have hC4 := f4.cs hC3
          have f04 : FC WOk G G4 := f03.trans (f4.mono WK_WOk).fc
          have fR4 : FC WRc G G4 := f04.mono WOk_WRc
          have d43 : hpI G4 57 3 = nI S.2.1 := (f4.I rfl).trans d33
          have d44 : hpI G4 57 4 = S.2.2.1 := (f4.I rfl).trans d34
          have h4 : CRn T hl A B n G4 S := h0.ok f04 (d43.trans o3.symm) (d44.trans o4.symm)
          have v45 : hpI G4 2 5 = nI nl := by
            obtain ⟨_, _, hX4, _⟩ := h4
            exact hX4.2.2.1.2.2.1.trans a1.2.2.1
          have hil4 := fun Q y => c_isLetter hC4 Q y
          have h137 : ∀ {LO : List (Option Value)}, (match oLt nl cl.2.1 (owE S.1 S.2.1 S.2.2.1) with
            | none => none
            | some one => match oLt nl f (owE S.1 S.2.1 S.2.2.1) with
              | none => none
              | some k => oHd T hl A B n one (some k) S) = none → WP k_Post_runOrder_137 LO [] G4 P := by
            intro LO e
            simp only [k_Post_runOrder_137, w_iadd, w_isub, w_imul, w_iand, w_ior, w_ixor, w_ishl, w_ishr, w_iushr, w_idiv, w_irem, w_ineg, w_ladd, w_lsub, w_lmul, w_ldiv, w_lrem, w_i2l, w_l2i, w_i2c, w_lcmp, w_dup_int, w_pop_int, w_dup_ref, w_pop_ref, w_dup_retAddr, w_pop_retAddr, w_dup2, w_I, w_L, w_Null, w_Ild, w_Lld, w_Ald, w_Ist, w_Lst, w_Ast, w_Iinc, w_if_eq, w_icmp_eq, w_if_ne, w_icmp_ne, w_if_lt, w_icmp_lt, w_if_ge, w_icmp_ge, w_if_gt, w_icmp_gt, w_if_le, w_icmp_le, w_GetI, w_GetL, w_GetR, w_PutI, w_PutZ, w_PutL, w_PutR, w_PutN, w_Iald, w_Zald, w_Lald, w_Aald, w_Iast, w_Zast, w_Last, w_AastR, w_AastN, w_Alen, w_New, w_NewA, w_Mna, w_Iret, w_Zret, w_Cret, w_Bret, w_Lret, w_AretR, w_AretN, w_Vret, w_Obj, w_IfNN, w_IfNR, w_Copy, w_Cln, w_Cast, w_SfA, w_SfI, w_SfQ, w_Str, w_ScLd, w_ScLen, w_CV0, w_CS0, w_CV1, w_CS1, w_CV2, w_CS2, w_CV3, w_CS3, w_CV4, w_CS4, w_CV5, w_CS5, or_true, true_or, ne10, ne10L, ne01, ne01L, tt_imp, nt_imp, ff_imp, nf_imp, true_and, and_true, true_or, or_true, reduceIte]
            rw [hP]
            dsimp only
            rw [e]
            exact ⟨fR4, rfl⟩
          rcases hxl with ⟨one, ho, l, hxo⟩ | ⟨ho, hxo⟩
          · subst hxo
            have gi : (0 ≤ nI one ∧ nI one < nI nl) = True := eq_true (nI_rg l (by omega))
            rcases oLt_c n12 hfvb hy with ⟨k, ho2, lk, hyk⟩ | ⟨ho2, hyk⟩
            · subst hyk
              have gi2 : (0 ≤ nI k ∧ nI k < nI nl) = True := eq_true (nI_rg lk (by omega))
              have := (ro_139 (x1 := nI i) (a2 := some (.ref 50)) (x3 := 54) (a4 := none) (a5 := some (.int tw)) h4 hI hc l (o := some k) (fun k' hk' => by cases hk'; exact lk) rfl).mono (fun z hz => hz.fc fR4)
              rw [ho] at hP
              dsimp only at hP
              rw [ho2] at hP
              dsimp only at hP
              rw [← hP] at this
              simp only [Option.toList_some, List.cons_append, List.nil_append, k_Post_runOrder_112, w_iadd, w_isub, w_imul, w_iand, w_ior, w_ixor, w_ishl, w_ishr, w_iushr, w_idiv, w_irem, w_ineg, w_ladd, w_lsub, w_lmul, w_ldiv, w_lrem, w_i2l, w_l2i, w_i2c, w_lcmp, w_dup_int, w_pop_int, w_dup_ref, w_pop_ref, w_dup_retAddr, w_pop_retAddr, w_dup2, w_I, w_L, w_Null, w_Ild, w_Lld, w_Ald, w_Ist, w_Lst, w_Ast, w_Iinc, w_if_eq, w_icmp_eq, w_if_ne, w_icmp_ne, w_if_lt, w_icmp_lt, w_if_ge, w_icmp_ge, w_if_gt, w_icmp_gt, w_if_le, w_icmp_le, w_GetI, w_GetL, w_GetR, w_PutI, w_PutZ, w_PutL, w_PutR, w_PutN, w_Iald, w_Zald, w_Lald, w_Aald, w_Iast, w_Zast, w_Last, w_AastR, w_AastN, w_Alen, w_New, w_NewA, w_Mna, w_Iret, w_Zret, w_Cret, w_Bret, w_Lret, w_AretR, w_AretN, w_Vret, w_Obj, w_IfNN, w_IfNR, w_Copy, w_Cln, w_Cast, w_SfA, w_SfI, w_SfQ, w_Str, w_ScLd, w_ScLen, w_CV0, w_CS0, w_CV1, w_CS1, w_CV2, w_CS2, w_CV3, w_CS3, w_CV4, w_CS4, w_CV5, w_CS5, List.getElem?_cons_zero, List.getElem?_cons_succ, List.set_cons_zero, List.set_cons_succ, List.length_cons, List.length_nil, List.map_cons, List.map_nil, List.sum_cons, List.sum_nil, List.nil_append, List.cons_append, Option.toList_some, Option.toList_none, Value.category, xok, va_rf, true_and, and_true, and_self, Nat.reduceAdd, Nat.reduceLT, Nat.reduceLeDiff, Nat.reduceEqDiff, Nat.reduceMul, beq_self_eq_true, decide_true, ite_true, ite_false, if_true, if_false, reduceIte, Bool.true_eq_false, Bool.false_eq_true, eq_self_iff_true, Nat.zero_le, not_true_eq_false, not_false_eq_true, forall_const, false_implies, implies_true, forall_false, hC4.all, g0, hil4, v45, gi, gi2, ne10, ne10L, ne01, ne01L, tt_imp, nt_imp, ff_imp, nf_imp, true_and, and_true, true_or, or_true, reduceIte]
              exact this
            · have gi2 : (0 ≤ y ∧ y < nI nl) = False := eq_false hyk
              have := fun LO => h137 (LO := LO) (by rw [ho]; dsimp only; rw [ho2])
              simp only [Option.toList_some, List.cons_append, List.nil_append, k_Post_runOrder_112, w_iadd, w_isub, w_imul, w_iand, w_ior, w_ixor, w_ishl, w_ishr, w_iushr, w_idiv, w_irem, w_ineg, w_ladd, w_lsub, w_lmul, w_ldiv, w_lrem, w_i2l, w_l2i, w_i2c, w_lcmp, w_dup_int, w_pop_int, w_dup_ref, w_pop_ref, w_dup_retAddr, w_pop_retAddr, w_dup2, w_I, w_L, w_Null, w_Ild, w_Lld, w_Ald, w_Ist, w_Lst, w_Ast, w_Iinc, w_if_eq, w_icmp_eq, w_if_ne, w_icmp_ne, w_if_lt, w_icmp_lt, w_if_ge, w_icmp_ge, w_if_gt, w_icmp_gt, w_if_le, w_icmp_le, w_GetI, w_GetL, w_GetR, w_PutI, w_PutZ, w_PutL, w_PutR, w_PutN, w_Iald, w_Zald, w_Lald, w_Aald, w_Iast, w_Zast, w_Last, w_AastR, w_AastN, w_Alen, w_New, w_NewA, w_Mna, w_Iret, w_Zret, w_Cret, w_Bret, w_Lret, w_AretR, w_AretN, w_Vret, w_Obj, w_IfNN, w_IfNR, w_Copy, w_Cln, w_Cast, w_SfA, w_SfI, w_SfQ, w_Str, w_ScLd, w_ScLen, w_CV0, w_CS0, w_CV1, w_CS1, w_CV2, w_CS2, w_CV3, w_CS3, w_CV4, w_CS4, w_CV5, w_CS5, List.getElem?_cons_zero, List.getElem?_cons_succ, List.set_cons_zero, List.set_cons_succ, List.length_cons, List.length_nil, List.map_cons, List.map_nil, List.sum_cons, List.sum_nil, List.nil_append, List.cons_append, Option.toList_some, Option.toList_none, Value.category, xok, va_rf, true_and, and_true, and_self, Nat.reduceAdd, Nat.reduceLT, Nat.reduceLeDiff, Nat.reduceEqDiff, Nat.reduceMul, beq_self_eq_true, decide_true, ite_true, ite_false, if_true, if_false, reduceIte, Bool.true_eq_false, Bool.false_eq_true, eq_self_iff_true, Nat.zero_le, not_true_eq_false, not_false_eq_true, forall_const, false_implies, implies_true, forall_false, hC4.all, g0, hil4, v45, gi, gi2, ne10, ne10L, ne01, ne01L, tt_imp, nt_imp, ff_imp, nf_imp, true_and, and_true, true_or, or_true, reduceIte]
              exact this _
          · have gi : (0 ≤ x ∧ x < nI nl) = False := eq_false hxo
            have := fun LO => h137 (LO := LO) (by rw [ho])
            simp only [Option.toList_some, List.cons_append, List.nil_append, k_Post_runOrder_112, w_iadd, w_isub, w_imul, w_iand, w_ior, w_ixor, w_ishl, w_ishr, w_iushr, w_idiv, w_irem, w_ineg, w_ladd, w_lsub, w_lmul, w_ldiv, w_lrem, w_i2l, w_l2i, w_i2c, w_lcmp, w_dup_int, w_pop_int, w_dup_ref, w_pop_ref, w_dup_retAddr, w_pop_retAddr, w_dup2, w_I, w_L, w_Null, w_Ild, w_Lld, w_Ald, w_Ist, w_Lst, w_Ast, w_Iinc, w_if_eq, w_icmp_eq, w_if_ne, w_icmp_ne, w_if_lt, w_icmp_lt, w_if_ge, w_icmp_ge, w_if_gt, w_icmp_gt, w_if_le, w_icmp_le, w_GetI, w_GetL, w_GetR, w_PutI, w_PutZ, w_PutL, w_PutR, w_PutN, w_Iald, w_Zald, w_Lald, w_Aald, w_Iast, w_Zast, w_Last, w_AastR, w_AastN, w_Alen, w_New, w_NewA, w_Mna, w_Iret, w_Zret, w_Cret, w_Bret, w_Lret, w_AretR, w_AretN, w_Vret, w_Obj, w_IfNN, w_IfNR, w_Copy, w_Cln, w_Cast, w_SfA, w_SfI, w_SfQ, w_Str, w_ScLd, w_ScLen, w_CV0, w_CS0, w_CV1, w_CS1, w_CV2, w_CS2, w_CV3, w_CS3, w_CV4, w_CS4, w_CV5, w_CS5, List.getElem?_cons_zero, List.getElem?_cons_succ, List.set_cons_zero, List.set_cons_succ, List.length_cons, List.length_nil, List.map_cons, List.map_nil, List.sum_cons, List.sum_nil, List.nil_append, List.cons_append, Option.toList_some, Option.toList_none, Value.category, xok, va_rf, true_and, and_true, and_self, Nat.reduceAdd, Nat.reduceLT, Nat.reduceLeDiff, Nat.reduceEqDiff, Nat.reduceMul, beq_self_eq_true, decide_true, ite_true, ite_false, if_true, if_false, reduceIte, Bool.true_eq_false, Bool.false_eq_true, eq_self_iff_true, Nat.zero_le, not_true_eq_false, not_false_eq_true, forall_const, false_implies, implies_true, forall_false, hC4.all, g0, hil4, v45, gi, ne10, ne10L, ne01, ne01L, tt_imp, nt_imp, ff_imp, nf_imp, true_and, and_true, true_or, or_true, reduceIte]
            exact this _
      cases hw : cl.2.2.1 with
      | none =>
        rw [hw] at htw s2
        have e12 : p1 = p2 := s2
        have gle : (nI p2 ≤ nI p1) = True := eq_true (by rw [e12]; exact Int32.le_refl _)
        have et : tw = 0 := htw
        rw [et] at h77
        simp only [Option.toList_some, List.cons_append, List.nil_append, w_iadd, w_isub, w_imul, w_iand, w_ior, w_ixor, w_ishl, w_ishr, w_iushr, w_idiv, w_irem, w_ineg, w_ladd, w_lsub, w_lmul, w_ldiv, w_lrem, w_i2l, w_l2i, w_i2c, w_lcmp, w_dup_int, w_pop_int, w_dup_ref, w_pop_ref, w_dup_retAddr, w_pop_retAddr, w_dup2, w_I, w_L, w_Null, w_Ild, w_Lld, w_Ald, w_Ist, w_Lst, w_Ast, w_Iinc, w_if_eq, w_icmp_eq, w_if_ne, w_icmp_ne, w_if_lt, w_icmp_lt, w_if_ge, w_icmp_ge, w_if_gt, w_icmp_gt, w_if_le, w_icmp_le, w_GetI, w_GetL, w_GetR, w_PutI, w_PutZ, w_PutL, w_PutR, w_PutN, w_Iald, w_Zald, w_Lald, w_Aald, w_Iast, w_Zast, w_Last, w_AastR, w_AastN, w_Alen, w_New, w_NewA, w_Mna, w_Iret, w_Zret, w_Cret, w_Bret, w_Lret, w_AretR, w_AretN, w_Vret, w_Obj, w_IfNN, w_IfNR, w_Copy, w_Cln, w_Cast, w_SfA, w_SfI, w_SfQ, w_Str, w_ScLd, w_ScLen, w_CV0, w_CS0, w_CV1, w_CS1, w_CV2, w_CS2, w_CV3, w_CS3, w_CV4, w_CS4, w_CV5, w_CS5, List.getElem?_cons_zero, List.getElem?_cons_succ, List.set_cons_zero, List.set_cons_succ, List.length_cons, List.length_nil, List.map_cons, List.map_nil, List.sum_cons, List.sum_nil, List.nil_append, List.cons_append, Option.toList_some, Option.toList_none, Value.category, xok, va_rf, true_and, and_true, and_self, Nat.reduceAdd, Nat.reduceLT, Nat.reduceLeDiff, Nat.reduceEqDiff, Nat.reduceMul, beq_self_eq_true, decide_true, ite_true, ite_false, if_true, if_false, reduceIte, Bool.true_eq_false, Bool.false_eq_true, eq_self_iff_true, Nat.zero_le, not_true_eq_false, not_false_eq_true, forall_const, false_implies, implies_true, forall_false, g1, hC2.all, td0, td2, td3, g6, gle, ne10, ne10L, ne01, ne01L, tt_imp, nt_imp, ff_imp, nf_imp, true_and, and_true, true_or, or_true, reduceIte]
        exact h77
      | some f =>
        rw [hw] at htw s2
        have gle : (nI p2 ≤ nI p1) = False := eq_false (by have := s2.1; rw [nl_le (by omega) (by omega)]; omega)
        have et : tw = 1 := htw
        rw [et] at h77
        simp only [Option.toList_some, List.cons_append, List.nil_append, w_iadd, w_isub, w_imul, w_iand, w_ior, w_ixor, w_ishl, w_ishr, w_iushr, w_idiv, w_irem, w_ineg, w_ladd, w_lsub, w_lmul, w_ldiv, w_lrem, w_i2l, w_l2i, w_i2c, w_lcmp, w_dup_int, w_pop_int, w_dup_ref, w_pop_ref, w_dup_retAddr, w_pop_retAddr, w_dup2, w_I, w_L, w_Null, w_Ild, w_Lld, w_Ald, w_Ist, w_Lst, w_Ast, w_Iinc, w_if_eq, w_icmp_eq, w_if_ne, w_icmp_ne, w_if_lt, w_icmp_lt, w_if_ge, w_icmp_ge, w_if_gt, w_icmp_gt, w_if_le, w_icmp_le, w_GetI, w_GetL, w_GetR, w_PutI, w_PutZ, w_PutL, w_PutR, w_PutN, w_Iald, w_Zald, w_Lald, w_Aald, w_Iast, w_Zast, w_Last, w_AastR, w_AastN, w_Alen, w_New, w_NewA, w_Mna, w_Iret, w_Zret, w_Cret, w_Bret, w_Lret, w_AretR, w_AretN, w_Vret, w_Obj, w_IfNN, w_IfNR, w_Copy, w_Cln, w_Cast, w_SfA, w_SfI, w_SfQ, w_Str, w_ScLd, w_ScLen, w_CV0, w_CS0, w_CV1, w_CS1, w_CV2, w_CS2, w_CV3, w_CS3, w_CV4, w_CS4, w_CV5, w_CS5, List.getElem?_cons_zero, List.getElem?_cons_succ, List.set_cons_zero, List.set_cons_succ, List.length_cons, List.length_nil, List.map_cons, List.map_nil, List.sum_cons, List.sum_nil, List.nil_append, List.cons_append, Option.toList_some, Option.toList_none, Value.category, xok, va_rf, true_and, and_true, and_self, Nat.reduceAdd, Nat.reduceLT, Nat.reduceLeDiff, Nat.reduceEqDiff, Nat.reduceMul, beq_self_eq_true, decide_true, ite_true, ite_false, if_true, if_false, reduceIte, Bool.true_eq_false, Bool.false_eq_true, eq_self_iff_true, Nat.zero_le, not_true_eq_false, not_false_eq_true, forall_const, false_implies, implies_true, forall_false, g1, hC2.all, td0, td2, td3, g6, gle, ne10, ne10L, ne01, ne01L, tt_imp, nt_imp, ff_imp, nf_imp, true_and, and_true, true_or, or_true, reduceIte]
        exact h77
    · /- a day -/
      have g6 : (nI cl.1 = 6) = True := eq_true (by rw [k6]; rfl)
      have ea : oAct T hl A B n nr nl cl S = if S.1 5 = 999 then none else some (gdF T S.1 nr, S.2.1 + 1, S.2.2.1, keepU S.2.2.2 2 S.1) := by unfold oAct; rw [if_pos k6]
      rw [ea] at hP
      obtain ⟨d, d1, d2⟩ := a1.2.2.2.2.1
      obtain ⟨pp, pp16, hX2, hU2, hRd2, uu3, uu2, hcu2, oo3, oo4⟩ := h2
      simp only [Option.toList_some, List.cons_append, List.nil_append, w_iadd, w_isub, w_imul, w_iand, w_ior, w_ixor, w_ishl, w_ishr, w_iushr, w_idiv, w_irem, w_ineg, w_ladd, w_lsub, w_lmul, w_ldiv, w_lrem, w_i2l, w_l2i, w_i2c, w_lcmp, w_dup_int, w_pop_int, w_dup_ref, w_pop_ref, w_dup_retAddr, w_pop_retAddr, w_dup2, w_I, w_L, w_Null, w_Ild, w_Lld, w_Ald, w_Ist, w_Lst, w_Ast, w_Iinc, w_if_eq, w_icmp_eq, w_if_ne, w_icmp_ne, w_if_lt, w_icmp_lt, w_if_ge, w_icmp_ge, w_if_gt, w_icmp_gt, w_if_le, w_icmp_le, w_GetI, w_GetL, w_GetR, w_PutI, w_PutZ, w_PutL, w_PutR, w_PutN, w_Iald, w_Zald, w_Lald, w_Aald, w_Iast, w_Zast, w_Last, w_AastR, w_AastN, w_Alen, w_New, w_NewA, w_Mna, w_Iret, w_Zret, w_Cret, w_Bret, w_Lret, w_AretR, w_AretN, w_Vret, w_Obj, w_IfNN, w_IfNR, w_Copy, w_Cln, w_Cast, w_SfA, w_SfI, w_SfQ, w_Str, w_ScLd, w_ScLen, w_CV0, w_CS0, w_CV1, w_CS1, w_CV2, w_CS2, w_CV3, w_CS3, w_CV4, w_CS4, w_CV5, w_CS5, List.getElem?_cons_zero, List.getElem?_cons_succ, List.set_cons_zero, List.set_cons_succ, List.length_cons, List.length_nil, List.map_cons, List.map_nil, List.sum_cons, List.sum_nil, List.nil_append, List.cons_append, Option.toList_some, Option.toList_none, Value.category, xok, va_rf, true_and, and_true, and_self, Nat.reduceAdd, Nat.reduceLT, Nat.reduceLeDiff, Nat.reduceEqDiff, Nat.reduceMul, beq_self_eq_true, decide_true, ite_true, ite_false, if_true, if_false, reduceIte, Bool.true_eq_false, Bool.false_eq_true, eq_self_iff_true, Nat.zero_le, not_true_eq_false, not_false_eq_true, forall_const, false_implies, implies_true, forall_false, g1, hC2.all, td0, g6, ne10, ne10L, ne01, ne01L, tt_imp, nt_imp, ff_imp, nf_imp, true_and, and_true, true_or, or_true, reduceIte]
      refine SP.mono (c_tryPassing hX2 hU2 a1 hc d1 d2 S.2.2.2.1 pp hI.2.2.1.1 pp16 uu3 uu2) ?_
      rintro ⟨v3, G3⟩ ⟨q1, q2⟩
      dsimp only at q1 q2
      by_cases h9 : d = 999
      · have e := q1 h9
        simp only [Prod.mk.injEq] at e
        obtain ⟨rfl, rfl⟩ := e
        have g9 : S.1 5 = 999 := by rw [d2, h9]; rfl
        rw [if_pos g9] at hP
        have := (ro_157 (T := T) (hl := hl) (A := A) (B := B) (n := n) (o := none) hC2 oo3 (v := -3) (x1 := nI i) (a2 := some (.ref 50)) (a3 := some (.ref 54)) (a5 := none) (a6 := none) (a7 := none) (fun _ => rfl) (fun z => absurd z (by decide))).mono (fun z hz => hz.fc fR2)
        rw [← hP] at this
        simp only [Option.toList_some, List.cons_append, List.nil_append, w_iadd, w_isub, w_imul, w_iand, w_ior, w_ixor, w_ishl, w_ishr, w_iushr, w_idiv, w_irem, w_ineg, w_ladd, w_lsub, w_lmul, w_ldiv, w_lrem, w_i2l, w_l2i, w_i2c, w_lcmp, w_dup_int, w_pop_int, w_dup_ref, w_pop_ref, w_dup_retAddr, w_pop_retAddr, w_dup2, w_I, w_L, w_Null, w_Ild, w_Lld, w_Ald, w_Ist, w_Lst, w_Ast, w_Iinc, w_if_eq, w_icmp_eq, w_if_ne, w_icmp_ne, w_if_lt, w_icmp_lt, w_if_ge, w_icmp_ge, w_if_gt, w_icmp_gt, w_if_le, w_icmp_le, w_GetI, w_GetL, w_GetR, w_PutI, w_PutZ, w_PutL, w_PutR, w_PutN, w_Iald, w_Zald, w_Lald, w_Aald, w_Iast, w_Zast, w_Last, w_AastR, w_AastN, w_Alen, w_New, w_NewA, w_Mna, w_Iret, w_Zret, w_Cret, w_Bret, w_Lret, w_AretR, w_AretN, w_Vret, w_Obj, w_IfNN, w_IfNR, w_Copy, w_Cln, w_Cast, w_SfA, w_SfI, w_SfQ, w_Str, w_ScLd, w_ScLen, w_CV0, w_CS0, w_CV1, w_CS1, w_CV2, w_CS2, w_CV3, w_CS3, w_CV4, w_CS4, w_CV5, w_CS5, List.getElem?_cons_zero, List.getElem?_cons_succ, List.set_cons_zero, List.set_cons_succ, List.length_cons, List.length_nil, List.map_cons, List.map_nil, List.sum_cons, List.sum_nil, List.nil_append, List.cons_append, Option.toList_some, Option.toList_none, Value.category, xok, va_rf, true_and, and_true, and_self, Nat.reduceAdd, Nat.reduceLT, Nat.reduceLeDiff, Nat.reduceEqDiff, Nat.reduceMul, beq_self_eq_true, decide_true, ite_true, ite_false, if_true, if_false, reduceIte, Bool.true_eq_false, Bool.false_eq_true, eq_self_iff_true, Nat.zero_le, not_true_eq_false, not_false_eq_true, forall_const, false_implies, implies_true, forall_false, ne10, ne10L, ne01, ne01L, tt_imp, nt_imp, ff_imp, nf_imp, true_and, and_true, true_or, or_true, reduceIte]
        exact this
      · obtain ⟨rfl, hV3, hf, hUK⟩ := q2 h9
        have g9 : ¬ S.1 5 = 999 := fun z => by
          rw [d2] at z
          exact h9 ((nI_eq (b := 999) (by omega) (by decide)).mp z)
        rw [if_neg g9] at hP
        have hC3 := hf.cs hC2
        obtain ⟨v, hv'⟩ : ∃ v, v = gdF T S.1 nr 5 := ⟨_, rfl⟩
        have hge : 0 ≤ v := by
          obtain ⟨m, m1, m2⟩ := (RW.gd (T := T) a1).2.2.2.2.1
          rw [hv', m2]
          exact nI_pos' (by omega)
        rw [← hv']
        have hf3 : FC WRc G2 G3 := hf.mono WC_WRc
        have o33 : hpI G3 57 3 = nI S.2.1 := (hf.I rfl).trans oo3
        obtain ⟨k1, k2, k3, k4, k5⟩ := hUK
        have := (ro_157 (T := T) (hl := hl) (A := A) (B := B) (n := n) (o := some (gdF T S.1 nr, S.2.1 + 1, S.2.2.1, keepU S.2.2.2 2 S.1)) hC3 o33 (v := v) (x1 := nI i) (a2 := some (.ref 50)) (a3 := some (.ref 54)) (a5 := none) (a6 := none) (a7 := none) (fun z => absurd hge (Int32.not_le.mpr z)) (fun _ => ⟨_, rfl, rfl, fun G' f4 d4' => ?_⟩)).mono (fun z hz => hz.fc (fR2.trans hf3))
        · rw [← hP] at this
          simp only [Option.toList_some, List.cons_append, List.nil_append, w_iadd, w_isub, w_imul, w_iand, w_ior, w_ixor, w_ishl, w_ishr, w_iushr, w_idiv, w_irem, w_ineg, w_ladd, w_lsub, w_lmul, w_ldiv, w_lrem, w_i2l, w_l2i, w_i2c, w_lcmp, w_dup_int, w_pop_int, w_dup_ref, w_pop_ref, w_dup_retAddr, w_pop_retAddr, w_dup2, w_I, w_L, w_Null, w_Ild, w_Lld, w_Ald, w_Ist, w_Lst, w_Ast, w_Iinc, w_if_eq, w_icmp_eq, w_if_ne, w_icmp_ne, w_if_lt, w_icmp_lt, w_if_ge, w_icmp_ge, w_if_gt, w_icmp_gt, w_if_le, w_icmp_le, w_GetI, w_GetL, w_GetR, w_PutI, w_PutZ, w_PutL, w_PutR, w_PutN, w_Iald, w_Zald, w_Lald, w_Aald, w_Iast, w_Zast, w_Last, w_AastR, w_AastN, w_Alen, w_New, w_NewA, w_Mna, w_Iret, w_Zret, w_Cret, w_Bret, w_Lret, w_AretR, w_AretN, w_Vret, w_Obj, w_IfNN, w_IfNR, w_Copy, w_Cln, w_Cast, w_SfA, w_SfI, w_SfQ, w_Str, w_ScLd, w_ScLen, w_CV0, w_CS0, w_CV1, w_CS1, w_CV2, w_CS2, w_CV3, w_CS3, w_CV4, w_CS4, w_CV5, w_CS5, List.getElem?_cons_zero, List.getElem?_cons_succ, List.set_cons_zero, List.set_cons_succ, List.length_cons, List.length_nil, List.map_cons, List.map_nil, List.sum_cons, List.sum_nil, List.nil_append, List.cons_append, Option.toList_some, Option.toList_none, Value.category, xok, va_rf, true_and, and_true, and_self, Nat.reduceAdd, Nat.reduceLT, Nat.reduceLeDiff, Nat.reduceEqDiff, Nat.reduceMul, beq_self_eq_true, decide_true, ite_true, ite_false, if_true, if_false, reduceIte, Bool.true_eq_false, Bool.false_eq_true, eq_self_iff_true, Nat.zero_le, not_true_eq_false, not_false_eq_true, forall_const, false_implies, implies_true, forall_false, ne10, ne10L, ne01, ne01L, tt_imp, nt_imp, ff_imp, nf_imp, true_and, and_true, true_or, or_true, reduceIte]
          exact this
        · have f4' : Fr WOw G3 G' := f4.mono (fun a k z => by unfold WOw at z; rw [z]; rfl)
          have hf4 : FC WRc G2 G' := hf3.trans (f4'.mono WOw_WRc).fc
          have i3 : ∀ i, i < 16 → hpI G' (10 + i) = hpI G3 (10 + i) := fun i hi => f4'.IA _ (fun k => by unfold WOw; simp only [beq_eq_false_iff_ne]; omega)
          refine ⟨(pp + 1) % 16, Nat.mod_lt _ (by omega), hX2.wc hf4 WRc_Lo (fun _ => rfl) (by rw [f4'.IA _ (fun _ => rfl)]; exact hV3), CU_fc hU2 hf4, hRd2.fc hf4 (fun _ => rfl) (fun _ => rfl) (fun _ => rfl), ?_, ?_, ?_, d4', ?_⟩
          · rw [f4'.I rfl, k5]
            unfold keepU
            dsimp only
            split <;> rfl
          · rw [f4'.I rfl]; exact k4
          · refine hcu2.keep hI.2.2.1.1 pp16 hX2.2.2.1 2 (fun i hi hip => ?_) (fun j hj => ?_) ?_
            · try dsimp only
              rw [i3 i hi, k2 i hi hip]
            · try dsimp only
              rw [i3 pp pp16]
              exact k1 j hj
            · rw [f4'.IA _ (fun _ => rfl)]; exact k3
          · dsimp only
            rw [f4.I rfl, hf.I rfl]; exact oo4
