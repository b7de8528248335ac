def WGb : Nat → Nat → Bool := fun a k => a == 72 || a == 75 || a == 76 || (a == 70 && k == 8)
theorem s_giveBack {G : XH} (hM : MS G) (had : Int32) : SP D_Mdl_giveBack [.ref 70, .int had] G (fun z => z.1 = none ∧ Fr WGb G z.2 ∧ hpI z.2 72 = va_cpy (hpI G 75) (hpI G 72) 3400 5 136 ∧ (∀ j, j < 2176 → hpI z.2 75 j = hpI G 77 j) ∧ (∀ j, j < 16 → hpI z.2 76 j = hpI G 78 j) ∧ hpI z.2 70 8 = had) := by
  have hp : ∀ Q, SP D_Mdl_putBack [.ref 70, .int 25] G Q = Q (none, stA G 72 (va_cpy (hpI G 75) (hpI G 72) 3400 5 136)) := fun Q => s_putBack hM Q 25 (by omega)
  obtain ⟨G1, hG1⟩ : ∃ G1, G1 = stA G 72 (va_cpy (hpI G 75) (hpI G 72) 3400 5 136) := ⟨_, rfl⟩
  have f1' : Fr WGb G G1 := by rw [hG1]; exact Fr.refl.wA (fun k q => absurd q (by unfold WGb; simp))
  have hM1 := f1'.ms hM
  obtain ⟨P, hP⟩ : ∃ P : XR → Prop, P = (fun z => z.1 = none ∧ Fr WGb G z.2 ∧ hpI z.2 72 = va_cpy (hpI G 75) (hpI G 72) 3400 5 136 ∧ (∀ j, j < 2176 → hpI z.2 75 j = hpI G 77 j) ∧ (∀ j, j < 16 → hpI z.2 76 j = hpI G 78 j) ∧ hpI z.2 70 8 = had) := ⟨_, rfl⟩
  have hend : ∀ G2 G3, Fr (fun a _ => a == 75) G1 G2 → (∀ j, j < 2176 → hpI G2 75 j = hpI G1 77 j) → Fr (fun a _ => a == 76) G2 G3 → (∀ j, j < 16 → hpI G3 76 j = hpI G2 78 j) → WP (xAld 0 (xIld 1 (xPutI 11 8 (xVret ())))) [some (.ref 70), some (.int had), some (.int (nI 16))] [] G3 P := by
    intro G2 G3 f2 h2 f3 h3
    have hM3 := f3.ms (f2.ms hM1)
    simp only [w_iadd, w_isub, w_imul, w_iand, w_ior, w_ixor, w_ishl, w_ishr, w_iushr, w_idiv, w_irem, w_ineg, w_ladd, w_lsub, w_lmul, w_ldiv, w_lrem, w_i2l, w_l2i, w_i2c, w_lcmp, w_dup_int, w_pop_int, w_dup_ref, w_pop_ref, w_dup_retAddr, w_pop_retAddr, w_dup2, w_I, w_L, w_Null, w_Ild, w_Lld, w_Ald, w_Ist, w_Lst, w_Ast, w_Iinc, w_if_eq, w_icmp_eq, w_if_ne, w_icmp_ne, w_if_lt, w_icmp_lt, w_if_ge, w_icmp_ge, w_if_gt, w_icmp_gt, w_if_le, w_icmp_le, w_GetI, w_GetL, w_GetR, w_PutI, w_PutZ, w_PutL, w_PutR, w_PutN, w_Iald, w_Zald, w_Lald, w_Aald, w_Iast, w_Zast, w_Last, w_AastR, w_AastN, w_Alen, w_New, w_NewA, w_Mna, w_Iret, w_Zret, w_Cret, w_Bret, w_Lret, w_AretR, w_AretN, w_Vret, w_Obj, w_IfNN, w_IfNR, w_Copy, w_Cln, w_Cast, w_SfA, w_SfI, w_SfQ, w_Str, w_ScLd, w_ScLen, w_CV0, w_CS0, w_CV1, w_CS1, w_CV2, w_CS2, w_CV3, w_CS3, w_CV4, w_CS4, w_CV5, w_CS5, List.getElem?_cons_zero, List.getElem?_cons_succ, List.set_cons_zero, List.set_cons_succ, List.length_cons, List.length_nil, List.map_cons, List.map_nil, List.sum_cons, List.sum_nil, List.nil_append, List.cons_append, Option.toList_some, Option.toList_none, Value.category, xok, va_rf, true_and, and_true, and_self, Nat.reduceAdd, Nat.reduceLT, Nat.reduceLeDiff, Nat.reduceEqDiff, Nat.reduceMul, beq_self_eq_true, decide_true, ite_true, ite_false, if_true, if_false, reduceIte, Bool.true_eq_false, Bool.false_eq_true, eq_self_iff_true, Nat.zero_le, not_true_eq_false, not_false_eq_true, forall_const, false_implies, implies_true, forall_false, hM3.all, ne10, ne10L, ne01, ne01L, tt_imp, nt_imp, ff_imp, nf_imp, true_and, and_true, true_or, or_true, reduceIte]
    rw [hP]
    have f23 : Fr WGb G1 G3 := (f2.mono (fun a k z => by unfold WGb at z; simp only [Bool.or_eq_false_iff] at z; exact z.1.1.2)).trans (f3.mono (fun a k z => by unfold WGb at z; simp only [Bool.or_eq_false_iff] at z; exact z.1.2))
    refine ⟨rfl, (f1'.trans f23).wI rfl, ?_, fun j hj => ?_, fun j hj => ?_, ?_⟩
    · rw [stI_up, hpI_stA_ne (by decide), f3.IA _ (fun _ => rfl), f2.IA _ (fun _ => rfl), hG1, hpI_stA]
    · rw [stI_up, hpI_stA_ne (by decide), f3.I rfl, h2 j hj, hG1, hpI_stA_ne (by decide)]
    · rw [stI_up, hpI_stA_ne (by decide), h3 j hj, f2.I rfl, hG1, hpI_stA_ne (by decide)]
    · rw [stI_up, hpI_stA, up_eq]
  have h8 : WP k_Mdl_giveBack_8 [some (.ref 70), some (.int had), some (.int (nI 0))] [] G1 P := by
    unfold k_Mdl_giveBack_8
    refine gb_8 (G0 := G1) (X := xI 0 (xIst 2 k_Mdl_giveBack_35)) hM1 (fun K => rfl) ?_ 2176 0 G1 NF rfl Fr.refl (fun j hj => absurd hj (by omega)) (fun _ _ => rfl) (by unfold NF; omega)
    intro G2 f2 h2 _
    have hM2 := f2.ms hM1
    have h35 : WP k_Mdl_giveBack_35 [some (.ref 70), some (.int had), some (.int (nI 0))] [] G2 P := by
      unfold k_Mdl_giveBack_35
      refine gb_35 (G0 := G2) (X := (xAld 0 (xIld 1 (xPutI 11 8 (xVret ()))))) hM2 (fun K => rfl) ?_ 16 0 G2 NF rfl Fr.refl (fun j hj => absurd hj (by omega)) (fun _ _ => rfl) (by unfold NF; omega)
      intro G3 f3 h3 _
      exact hend G2 G3 f2 h2 f3 h3
    simp only [w_iadd, w_isub, w_imul, w_iand, w_ior, w_ixor, w_ishl, w_ishr, w_iushr, w_idiv, w_irem, w_ineg, w_ladd, w_lsub, w_lmul, w_ldiv, w_lrem, w_i2l, w_l2i, w_i2c, w_lcmp, w_dup_int, w_pop_int, w_dup_ref, w_pop_ref, w_dup_retAddr, w_pop_retAddr, w_dup2, w_I, w_L, w_Null, w_Ild, w_Lld, w_Ald, w_Ist, w_Lst, w_Ast, w_Iinc, w_if_eq, w_icmp_eq, w_if_ne, w_icmp_ne, w_if_lt, w_icmp_lt, w_if_ge, w_icmp_ge, w_if_gt, w_icmp_gt, w_if_le, w_icmp_le, w_GetI, w_GetL, w_GetR, w_PutI, w_PutZ, w_PutL, w_PutR, w_PutN, w_Iald, w_Zald, w_Lald, w_Aald, w_Iast, w_Zast, w_Last, w_AastR, w_AastN, w_Alen, w_New, w_NewA, w_Mna, w_Iret, w_Zret, w_Cret, w_Bret, w_Lret, w_AretR, w_AretN, w_Vret, w_Obj, w_IfNN, w_IfNR, w_Copy, w_Cln, w_Cast, w_SfA, w_SfI, w_SfQ, w_Str, w_ScLd, w_ScLen, w_CV0, w_CS0, w_CV1, w_CS1, w_CV2, w_CS2, w_CV3, w_CS3, w_CV4, w_CS4, w_CV5, w_CS5, List.getElem?_cons_zero, List.getElem?_cons_succ, List.set_cons_zero, List.set_cons_succ, List.length_cons, List.length_nil, List.map_cons, List.map_nil, List.sum_cons, List.sum_nil, List.nil_append, List.cons_append, Option.toList_some, Option.toList_none, Value.category, xok, va_rf, true_and, and_true, and_self, Nat.reduceAdd, Nat.reduceLT, Nat.reduceLeDiff, Nat.reduceEqDiff, Nat.reduceMul, beq_self_eq_true, decide_true, ite_true, ite_false, if_true, if_false, reduceIte, Bool.true_eq_false, Bool.false_eq_true, eq_self_iff_true, Nat.zero_le, not_true_eq_false, not_false_eq_true, forall_const, false_implies, implies_true, forall_false, ne10, ne10L, ne01, ne01L, tt_imp, nt_imp, ff_imp, nf_imp, true_and, and_true, true_or, or_true, reduceIte]
    exact h35
  rw [e_Mdl_giveBack, ← hP]
  simp only [k_Mdl_giveBack_0, w_iadd, w_isub, w_imul, w_iand, w_ior, w_ixor, w_ishl, w_ishr, w_iushr, w_idiv, w_irem, w_ineg, w_ladd, w_lsub, w_lmul, w_ldiv, w_lrem, w_i2l, w_l2i, w_i2c, w_lcmp, w_dup_int, w_pop_int, w_dup_ref, w_pop_ref, w_dup_retAddr, w_pop_retAddr, w_dup2, w_I, w_L, w_Null, w_Ild, w_Lld, w_Ald, w_Ist, w_Lst, w_Ast, w_Iinc, w_if_eq, w_icmp_eq, w_if_ne, w_icmp_ne, w_if_lt, w_icmp_lt, w_if_ge, w_icmp_ge, w_if_gt, w_icmp_gt, w_if_le, w_icmp_le, w_GetI, w_GetL, w_GetR, w_PutI, w_PutZ, w_PutL, w_PutR, w_PutN, w_Iald, w_Zald, w_Lald, w_Aald, w_Iast, w_Zast, w_Last, w_AastR, w_AastN, w_Alen, w_New, w_NewA, w_Mna, w_Iret, w_Zret, w_Cret, w_Bret, w_Lret, w_AretR, w_AretN, w_Vret, w_Obj, w_IfNN, w_IfNR, w_Copy, w_Cln, w_Cast, w_SfA, w_SfI, w_SfQ, w_Str, w_ScLd, w_ScLen, w_CV0, w_CS0, w_CV1, w_CS1, w_CV2, w_CS2, w_CV3, w_CS3, w_CV4, w_CS4, w_CV5, w_CS5, List.getElem?_cons_zero, List.getElem?_cons_succ, List.set_cons_zero, List.set_cons_succ, List.length_cons, List.length_nil, List.map_cons, List.map_nil, List.sum_cons, List.sum_nil, List.nil_append, List.cons_append, Option.toList_some, Option.toList_none, Value.category, xok, va_rf, true_and, and_true, and_self, Nat.reduceAdd, Nat.reduceLT, Nat.reduceLeDiff, Nat.reduceEqDiff, Nat.reduceMul, beq_self_eq_true, decide_true, ite_true, ite_false, if_true, if_false, reduceIte, Bool.true_eq_false, Bool.false_eq_true, eq_self_iff_true, Nat.zero_le, not_true_eq_false, not_false_eq_true, forall_const, false_implies, implies_true, forall_false, hM.all, hp, ← hG1, ne10, ne10L, ne01, ne01L, tt_imp, nt_imp, ff_imp, nf_imp, true_and, and_true, true_or, or_true, reduceIte]
  exact h8
def WOq : Nat → Nat → Bool := fun a k => WBt a k || WBo a k || WB a k || WRun a k || a == 77 || a == 78 || (a == 70 && k == 60)
theorem WBt_WOr (a k : Nat) (h : WOq a k = false) : WBt a k = false := by
  unfold WOq at h
  simp only [Bool.or_eq_false_iff] at h
  exact h.1.1.1.1.1.1
theorem WBo_WOr (a k : Nat) (h : WOq a k = false) : WBo a k = false := by
  unfold WOq at h
  simp only [Bool.or_eq_false_iff] at h
  exact h.1.1.1.1.1.2
theorem WB_WOr (a k : Nat) (h : WOq a k = false) : WB a k = false := by
  unfold WOq at h
  simp only [Bool.or_eq_false_iff] at h
  exact h.1.1.1.1.2
theorem WRun_WOr (a k : Nat) (h : WOq a k = false) : WRun a k = false := by
  unfold WOq at h
  simp only [Bool.or_eq_false_iff] at h
  exact h.1.1.1.2
def WFl : Nat → Nat → Bool := fun a k => WRun a k || (a == 70 && k == 60)
theorem WRun_WFl (a k : Nat) (h : WFl a k = false) : WRun a k = false := by
  unfold WFl at h
  simp only [Bool.or_eq_false_iff] at h
  exact h.1
theorem WFl_WOr (a k : Nat) (h : WOq a k = false) : WFl a k = false := by
  have h1 := WRun_WOr a k h
  unfold WOq at h
  unfold WFl
  simp only [Bool.or_eq_false_iff] at h ⊢
  exact ⟨h1, h.2⟩
theorem WGb_WRun (a k : Nat) (h : WRun a k = false) : WGb a k = false := by
  have h1 := WHM_WRun a k h
  have h2 := WM_WHM a k h1
  have h3 := WR_WHM a k h1
  unfold WM at h2
  unfold WR at h3
  unfold WGb
  simp only [Bool.or_eq_false_iff] at h2 h3 ⊢
  exact ⟨⟨⟨h3.1, h2.1.1⟩, h2.1.2⟩, h2.2⟩
/-- what orders leave in the model -/
def OrQ (T : Nat → (Nat → Int64) → Option Int64) (hl : Bool) (A B : Nat → Nat) (n nr nl : Nat) (b : Nat → Nat) (len : Nat) (R : Nat → Int32) (U : US) (G : XH) (z : XR) : Prop := Fr WOq G z.2 ∧ hpI z.2 70 13 = 0 ∧ hpI z.2 70 20 = 0 ∧ ∃ v, z.1 = some (.int v) ∧ hpI z.2 70 1 = stM1 v ∧ hpI z.2 71 = rfM (hpI G 71) v ∧ match gText b len true with
  | .error e => v = -6 ∧ hpI z.2 70 18 = nI e ∧ hpI z.2 70 60 = -1 ∧ hpI z.2 72 = R ∧ UnS G z.2
  | .ok L => hpI z.2 70 18 = -1 ∧ match oGo T hl A B n nr nl L L.length 0 (R, 0, -1, U) with
    | .error k => v = -3 ∧ hpI z.2 70 60 = nI k ∧ hpI z.2 72 = R ∧ hpI z.2 70 8 = nI U.1 ∧ MU R (hpI z.2 75) (hpI z.2 76) U
    | .ok S => v = nI S.2.1 ∧ hpI z.2 70 60 = -1 ∧ hpI z.2 72 = S.1 ∧ hpI z.2 70 8 = nI S.2.2.2.1 ∧ MU S.1 (hpI z.2 75) (hpI z.2 76) S.2.2.2
section RUN
variable {T : Nat → (Nat → Int64) → Option Int64} {hl : Bool} {A B : Nat → Nat} {n nr nl c : Nat} {R : Nat → Int32} {U : US} {L : List CLd} {J : Nat → Nat × Nat} {qf : Nat} {G6 : XH} {Q : XR → Prop} {had : Int32}
/-- what stands when the clauses begin to run -/
def O6 (T : Nat → (Nat → Int64) → Option Int64) (hl : Bool) (A B : Nat → Nat) (n nr nl c : Nat) (R : Nat → Int32) (U : US) (L : List CLd) (J : Nat → Nat × Nat) (qf : Nat) (G6 : XH) : Prop := MRn T hl (hpI G6 75) G6 (R, 0, -1, U) ∧ RW R nr nl c ∧ c + 300 ≤ 500000 ∧ UOK U nr nl c ∧ MRd R n A B ∧ CDo G6 J qf ∧ L.length ≤ 12 ∧ hpI G6 70 21 = nI L.length ∧ (∀ i, i < L.length → CMo (hpI G6 103) J i (L.getD i clD) qf ∧ CLk true (L.getD i clD)) ∧ (∀ j, j < 136 → hpI G6 75 (3400 + j) = R (5 + j)) ∧ (∀ j, j < 2176 → hpI G6 77 j = hpI G6 75 j) ∧ (∀ j, j < 16 → hpI G6 78 j = hpI G6 76 j) ∧ hpI G6 70 60 = -1
theorem or_fail (h6 : O6 T hl A B n nr nl c R U L J qf G6) {G : XH} {S : OS} {k : Nat} {x3 : Option Value} (hf : Fr WRun G6 G) (h : MRn T hl (hpI G6 75) G S) (hI : OI R nr nl c S) (hQ : ∀ G', Fr WFl G6 G' → hpI G' 70 60 = nI k → hpI G' 72 = R → hpI G' 70 8 = had → MU R (hpI G' 75) (hpI G' 76) U → hpI G' 70 20 = 0 → Q (some (.int (-3)), tellH (-3) G')) : WP (xAld 0 (xIld 1 (xCallV 11 1 D_Mdl_giveBack (xAld 0 (xIld 2 (xPutI 11 60 (xAld 0 (xI (-3) (xCallV 11 1 D_Mdl_tell (xIret ())))))))))) [some (.ref 70), some (.int had), some (.int (nI k)), x3] [] G Q := by
  obtain ⟨b0, b1, b2, b3, b4, b5, b6, b7, b8, b9, b10, b11, b12⟩ := h6
  have hM := h.1.1
  simp only [w_iadd, w_isub, w_imul, w_iand, w_ior, w_ixor, w_ishl, w_ishr, w_iushr, w_idiv, w_irem, w_ineg, w_ladd, w_lsub, w_lmul, w_ldiv, w_lrem, w_i2l, w_l2i, w_i2c, w_lcmp, w_dup_int, w_pop_int, w_dup_ref, w_pop_ref, w_dup_retAddr, w_pop_retAddr, w_dup2, w_I, w_L, w_Null, w_Ild, w_Lld, w_Ald, w_Ist, w_Lst, w_Ast, w_Iinc, w_if_eq, w_icmp_eq, w_if_ne, w_icmp_ne, w_if_lt, w_icmp_lt, w_if_ge, w_icmp_ge, w_if_gt, w_icmp_gt, w_if_le, w_icmp_le, w_GetI, w_GetL, w_GetR, w_PutI, w_PutZ, w_PutL, w_PutR, w_PutN, w_Iald, w_Zald, w_Lald, w_Aald, w_Iast, w_Zast, w_Last, w_AastR, w_AastN, w_Alen, w_New, w_NewA, w_Mna, w_Iret, w_Zret, w_Cret, w_Bret, w_Lret, w_AretR, w_AretN, w_Vret, w_Obj, w_IfNN, w_IfNR, w_Copy, w_Cln, w_Cast, w_SfA, w_SfI, w_SfQ, w_Str, w_ScLd, w_ScLen, w_CV0, w_CS0, w_CV1, w_CS1, w_CV2, w_CS2, w_CV3, w_CS3, w_CV4, w_CS4, w_CV5, w_CS5, List.getElem?_cons_zero, List.getElem?_cons_succ, List.set_cons_zero, List.set_cons_succ, List.length_cons, List.length_nil, List.map_cons, List.map_nil, List.sum_cons, List.sum_nil, List.nil_append, List.cons_append, Option.toList_some, Option.toList_none, Value.category, xok, va_rf, true_and, and_true, and_self, Nat.reduceAdd, Nat.reduceLT, Nat.reduceLeDiff, Nat.reduceEqDiff, Nat.reduceMul, beq_self_eq_true, decide_true, ite_true, ite_false, if_true, if_false, reduceIte, Bool.true_eq_false, Bool.false_eq_true, eq_self_iff_true, Nat.zero_le, not_true_eq_false, not_false_eq_true, forall_const, false_implies, implies_true, forall_false, hM.all, ne10, ne10L, ne01, ne01L, tt_imp, nt_imp, ff_imp, nf_imp, true_and, and_true, true_or, or_true, reduceIte]
  refine SP.mono (s_giveBack hM had) ?_
  rintro ⟨v, G1⟩ ⟨rfl, f1', r1, u1, s1, n1⟩
  dsimp only at f1' r1 u1 s1 n1
  have hM1 := f1'.ms hM
  obtain ⟨G2, hG2⟩ : ∃ G2, G2 = stI G1 70 60 (nI k) := ⟨_, rfl⟩
  have f2 : Fr (fun a k => a == 70 && k == 60) G1 G2 := by rw [hG2]; exact Fr.refl.wI rfl
  have hM2 := f2.ms hM1
  have htl := fun Q => s_tell hM2 Q (-3) (by decide)
  simp only [Option.toList_none, List.nil_append, w_iadd, w_isub, w_imul, w_iand, w_ior, w_ixor, w_ishl, w_ishr, w_iushr, w_idiv, w_irem, w_ineg, w_ladd, w_lsub, w_lmul, w_ldiv, w_lrem, w_i2l, w_l2i, w_i2c, w_lcmp, w_dup_int, w_pop_int, w_dup_ref, w_pop_ref, w_dup_retAddr, w_pop_retAddr, w_dup2, w_I, w_L, w_Null, w_Ild, w_Lld, w_Ald, w_Ist, w_Lst, w_Ast, w_Iinc, w_if_eq, w_icmp_eq, w_if_ne, w_icmp_ne, w_if_lt, w_icmp_lt, w_if_ge, w_icmp_ge, w_if_gt, w_icmp_gt, w_if_le, w_icmp_le, w_GetI, w_GetL, w_GetR, w_PutI, w_PutZ, w_PutL, w_PutR, w_PutN, w_Iald, w_Zald, w_Lald, w_Aald, w_Iast, w_Zast, w_Last, w_AastR, w_AastN, w_Alen, w_New, w_NewA, w_Mna, w_Iret, w_Zret, w_Cret, w_Bret, w_Lret, w_AretR, w_AretN, w_Vret, w_Obj, w_IfNN, w_IfNR, w_Copy, w_Cln, w_Cast, w_SfA, w_SfI, w_SfQ, w_Str, w_ScLd, w_ScLen, w_CV0, w_CS0, w_CV1, w_CS1, w_CV2, w_CS2, w_CV3, w_CS3, w_CV4, w_CS4, w_CV5, w_CS5, List.getElem?_cons_zero, List.getElem?_cons_succ, List.set_cons_zero, List.set_cons_succ, List.length_cons, List.length_nil, List.map_cons, List.map_nil, List.sum_cons, List.sum_nil, List.nil_append, List.cons_append, Option.toList_some, Option.toList_none, Value.category, xok, va_rf, true_and, and_true, and_self, Nat.reduceAdd, Nat.reduceLT, Nat.reduceLeDiff, Nat.reduceEqDiff, Nat.reduceMul, beq_self_eq_true, decide_true, ite_true, ite_false, if_true, if_false, reduceIte, Bool.true_eq_false, Bool.false_eq_true, eq_self_iff_true, Nat.zero_le, not_true_eq_false, not_false_eq_true, forall_const, false_implies, implies_true, forall_false, hM1.all, ← hG2, hM2.all, htl, ne10, ne10L, ne01, ne01L, tt_imp, nt_imp, ff_imp, nf_imp, true_and, and_true, true_or, or_true, reduceIte]
  have I2 : ∀ a, ¬ a = 70 → hpI G2 a = hpI G1 a := fun a ha => by rw [hG2, stI_up, hpI_stA_ne ha]
  refine hQ G2 ((hf.mono WRun_WFl).trans ((f1'.mono (fun a k z => WGb_WRun a k (WRun_WFl a k z))).trans (f2.mono (fun a k z => ?_)))) (by rw [hG2, stI_up, hpI_stA, up_eq]) ?_ ((f2.I rfl).trans n1) ?_ ?_
  · unfold WFl at z
    simp only [Bool.or_eq_false_iff] at z
    exact z.2
  · rw [I2 _ (by decide), r1, h.1.2.2.1]
    funext j
    by_cases q : 5 ≤ j ∧ j < 5 + 136
    · rw [cpy_in q, h.2.2.2.2.2 _ (by omega), b9 _ (by omega)]
      exact congrArg R (by omega)
    · rw [cpy_out q]
      exact hI.2.1 j (by omega)
  · rw [I2 _ (by decide), I2 _ (by decide)]
    have hm0 : MU R (hpI G6 75) (hpI G6 76) U := b0.2.2.2.2.1
    have hm1 := hm0.rows b3.1 (R' := R) (u' := hpI G1 75) rfl rfl (fun j hj => by rw [u1 j hj, hf.I rfl]; exact b10 j hj)
    intro j hj
    obtain ⟨z1, z2⟩ := hm1 j hj
    have := b3.1
    have hj' : j < U.1 := hj
    exact ⟨by rw [s1 j (by omega), hf.I rfl, b11 j (by omega)]; exact z1, z2⟩
  · rw [f2.I rfl, f1'.I rfl]
    exact h.1.2.1
/-- a clause, some times -/
theorem or_150 (h6 : O6 T hl A B n nr nl c R U L J qf G6) {K140 : XK} {k : Nat} (hk : k < L.length) (hbad : ∀ G', Fr WFl G6 G' → hpI G' 70 60 = nI k → hpI G' 72 = R → hpI G' 70 8 = had → MU R (hpI G' 75) (hpI G' 76) U → hpI G' 70 20 = 0 → oGo T hl A B n nr nl L L.length 0 (R, 0, -1, U) = .error k → Q (some (.int (-3)), tellH (-3) G')) (hgo : ∀ S G a3, Fr WRun G6 G → MRn T hl (hpI G6 75) G S → OI R nr nl c S → S.2.1 ≤ 20 * (k + 1) → oGo T hl A B n nr nl L L.length 0 (R, 0, -1, U) = oGo T hl A B n nr nl L (L.length - (k + 1)) (k + 1) S → WP K140 [some (.ref 70), some (.int had), some (.int (nI (k + 1))), a3] [] G Q) : ∀ (m t : Nat) (S : OS) (G : XH) (N : Nat), t + m = (L.getD k clD).2.2.2.1 → Fr WRun G6 G → MRn T hl (hpI G6 75) G S → OI R nr nl c S → S.2.1 ≤ 20 * k + t → oGo T hl A B n nr nl L L.length 0 (R, 0, -1, U) = (match oTms T hl A B n nr nl (L.getD k clD) m S with
    | none => .error k
    | some S' => oGo T hl A B n nr nl L (L.length - (k + 1)) (k + 1) S') → m < N → WP (xloop (f_Mdl_orders_150 K140) N) [some (.ref 70), some (.int had), some (.int (nI k)), some (.int (nI t))] [] G Q := by
  have h60 := h6
  obtain ⟨b0, b1, b2, b3, b4, b5, b6, b7, b8, b9, b10, b11, b12⟩ := h6
  obtain ⟨hcm, hck⟩ := b8 k hk
  have e8 : 8 * nI k = nI (8 * k) := nI_mul 8 k
  have e7 : nI (8 * k) + 7 = nI (8 * k + 7) := nI_add _ 7
  have p27 : 0 ≤ nI (8 * k + 7) := nI_pos' (by omega)
  have c27 : (nI (8 * k + 7)).toNatClampNeg = 8 * k + 7 := nI_clamp (by omega)
  have l27 : 8 * k + 7 < 96 := by omega
  obtain ⟨_, _, _, _, _, _, _, _, htm, tm1, tm2⟩ := hcm
  have ek : nI k + Int32.ofInt 1 = nI (k + 1) := nI_1 k
  intro m
  induction m with
  | zero =>
    intro t S G N ht hf h hI hd he hN
    obtain ⟨N1, rfl⟩ : ∃ N1, N = N1 + 1 := ⟨N - 1, by omega⟩
    have hM := h.1.1
    have c7 : hpI G 103 (8 * k + 7) = nI (L.getD k clD).2.2.2.1 := (hf.I rfl).trans htm
    have g : (nI (L.getD k clD).2.2.2.1 ≤ nI t) = True := eq_true (by rw [nl_le (by omega) (by omega)]; omega)
    rw [xloop_s]
    simp only [f_Mdl_orders_150, w_iadd, w_isub, w_imul, w_iand, w_ior, w_ixor, w_ishl, w_ishr, w_iushr, w_idiv, w_irem, w_ineg, w_ladd, w_lsub, w_lmul, w_ldiv, w_lrem, w_i2l, w_l2i, w_i2c, w_lcmp, w_dup_int, w_pop_int, w_dup_ref, w_pop_ref, w_dup_retAddr, w_pop_retAddr, w_dup2, w_I, w_L, w_Null, w_Ild, w_Lld, w_Ald, w_Ist, w_Lst, w_Ast, w_Iinc, w_if_eq, w_icmp_eq, w_if_ne, w_icmp_ne, w_if_lt, w_icmp_lt, w_if_ge, w_icmp_ge, w_if_gt, w_icmp_gt, w_if_le, w_icmp_le, w_GetI, w_GetL, w_GetR, w_PutI, w_PutZ, w_PutL, w_PutR, w_PutN, w_Iald, w_Zald, w_Lald, w_Aald, w_Iast, w_Zast, w_Last, w_AastR, w_AastN, w_Alen, w_New, w_NewA, w_Mna, w_Iret, w_Zret, w_Cret, w_Bret, w_Lret, w_AretR, w_AretN, w_Vret, w_Obj, w_IfNN, w_IfNR, w_Copy, w_Cln, w_Cast, w_SfA, w_SfI, w_SfQ, w_Str, w_ScLd, w_ScLen, w_CV0, w_CS0, w_CV1, w_CS1, w_CV2, w_CS2, w_CV3, w_CS3, w_CV4, w_CS4, w_CV5, w_CS5, List.getElem?_cons_zero, List.getElem?_cons_succ, List.set_cons_zero, List.set_cons_succ, List.length_cons, List.length_nil, List.map_cons, List.map_nil, List.sum_cons, List.sum_nil, List.nil_append, List.cons_append, Option.toList_some, Option.toList_none, Value.category, xok, va_rf, true_and, and_true, and_self, Nat.reduceAdd, Nat.reduceLT, Nat.reduceLeDiff, Nat.reduceEqDiff, Nat.reduceMul, beq_self_eq_true, decide_true, ite_true, ite_false, if_true, if_false, reduceIte, Bool.true_eq_false, Bool.false_eq_true, eq_self_iff_true, Nat.zero_le, not_true_eq_false, not_false_eq_true, forall_const, false_implies, implies_true, forall_false, stI_C, stI_N, stI_Z, stI_S, stI_L, stI_R, stL_C, stL_N, stL_Z, stL_S, stL_I, stL_R, stR_C, stR_N, stR_Z, stR_S, stR_I, stR_L, stA_C, stA_N, stA_Z, stA_S, stA_L, stA_R, stI_I, stL_L, stR_R, stA_I, stN_C, stN_N, stN_Z, stN_S, stN_I, stN_L, stN_R, stI_ne, stL_ne, stR_ne, hM.all, e8, e7, xin, p27, c27, l27, c7, g, ek, ne10, ne10L, ne01, ne01L, tt_imp, nt_imp, ff_imp, nf_imp, true_and, and_true, true_or, or_true, reduceIte]
    exact hgo S G _ hf h hI (by omega) he
  | succ m ih =>
    intro t S G N ht hf h hI hd he hN
    obtain ⟨N1, rfl⟩ : ∃ N1, N = N1 + 1 := ⟨N - 1, by omega⟩
    have hM := h.1.1
    have c7 : hpI G 103 (8 * k + 7) = nI (L.getD k clD).2.2.2.1 := (hf.I rfl).trans htm
    have g : (nI (L.getD k clD).2.2.2.1 ≤ nI t) = False := eq_false (by rw [nl_le (by omega) (by omega)]; omega)
    have et : nI t + Int32.ofInt 1 = nI (t + 1) := nI_1 t
    obtain ⟨B1, hB1⟩ : ∃ B1 : XK, B1 = (xAld 0 (xIld 1 (xCallV 11 1 D_Mdl_giveBack (xAld 0 (xIld 2 (xPutI 11 60 (xAld 0 (xI (-3) (xCallV 11 1 D_Mdl_tell (xIret ())))))))))) := ⟨_, rfl⟩
    obtain ⟨K1, hK1⟩ : ∃ K1, K1 = xloop (f_Mdl_orders_150 K140) N1 := ⟨_, rfl⟩
    rw [xloop_s, ← hK1, show f_Mdl_orders_150 K140 K1 = (xIld 3 (xAld 0 (xGetR 11 57 (xI 8 (xIld 2 (ximul (xI 7 (xiadd (xIaldh (xicmp_ge (xIinc 2 1 K140) (xAld 0 (xI 8 (xIld 2 (ximul (xCallV 11 1 D_Mdl_run (xif_ge (xIinc 3 1 K1) B1)))))))))))))))) by rw [hB1]; rfl]
    simp only [w_iadd, w_isub, w_imul, w_iand, w_ior, w_ixor, w_ishl, w_ishr, w_iushr, w_idiv, w_irem, w_ineg, w_ladd, w_lsub, w_lmul, w_ldiv, w_lrem, w_i2l, w_l2i, w_i2c, w_lcmp, w_dup_int, w_pop_int, w_dup_ref, w_pop_ref, w_dup_retAddr, w_pop_retAddr, w_dup2, w_I, w_L, w_Null, w_Ild, w_Lld, w_Ald, w_Ist, w_Lst, w_Ast, w_Iinc, w_if_eq, w_icmp_eq, w_if_ne, w_icmp_ne, w_if_lt, w_icmp_lt, w_if_ge, w_icmp_ge, w_if_gt, w_icmp_gt, w_if_le, w_icmp_le, w_GetI, w_GetL, w_GetR, w_PutI, w_PutZ, w_PutL, w_PutR, w_PutN, w_Iald, w_Zald, w_Lald, w_Aald, w_Iast, w_Zast, w_Last, w_AastR, w_AastN, w_Alen, w_New, w_NewA, w_Mna, w_Iret, w_Zret, w_Cret, w_Bret, w_Lret, w_AretR, w_AretN, w_Vret, w_Obj, w_IfNN, w_IfNR, w_Copy, w_Cln, w_Cast, w_SfA, w_SfI, w_SfQ, w_Str, w_ScLd, w_ScLen, w_CV0, w_CS0, w_CV1, w_CS1, w_CV2, w_CS2, w_CV3, w_CS3, w_CV4, w_CS4, w_CV5, w_CS5, List.getElem?_cons_zero, List.getElem?_cons_succ, List.set_cons_zero, List.set_cons_succ, List.length_cons, List.length_nil, List.map_cons, List.map_nil, List.sum_cons, List.sum_nil, List.nil_append, List.cons_append, Option.toList_some, Option.toList_none, Value.category, xok, va_rf, true_and, and_true, and_self, Nat.reduceAdd, Nat.reduceLT, Nat.reduceLeDiff, Nat.reduceEqDiff, Nat.reduceMul, beq_self_eq_true, decide_true, ite_true, ite_false, if_true, if_false, reduceIte, Bool.true_eq_false, Bool.false_eq_true, eq_self_iff_true, Nat.zero_le, not_true_eq_false, not_false_eq_true, forall_const, false_implies, implies_true, forall_false, stI_C, stI_N, stI_Z, stI_S, stI_L, stI_R, stL_C, stL_N, stL_Z, stL_S, stL_I, stL_R, stR_C, stR_N, stR_Z, stR_S, stR_I, stR_L, stA_C, stA_N, stA_Z, stA_S, stA_L, stA_R, stI_I, stL_L, stR_R, stA_I, stN_C, stN_N, stN_Z, stN_S, stN_I, stN_L, stN_R, stI_ne, stL_ne, stR_ne, hM.all, e8, e7, xin, p27, c27, l27, c7, g, ne10, ne10L, ne01, ne01L, tt_imp, nt_imp, ff_imp, nf_imp, true_and, and_true, true_or, or_true, reduceIte]
    have hdd : S.2.1 ≤ 260 := by omega
    refine SP.mono (s_run (i := k) h hI (by omega) (by omega) (hI.2.1.rd b4) (b5.fr hf (fun _ => rfl) (fun _ => rfl)) (by omega) (by rw [hf.IA 103 (fun _ => rfl)]; exact (b8 k hk).1) hck) ?_
    rintro ⟨v, G1⟩ ⟨f1', hr⟩
    dsimp only at f1'
    cases ho : oOne T hl A B n nr nl (L.getD k clD) S with
    | none =>
      rw [ho] at hr
      obtain ⟨rfl, hr⟩ := hr
      dsimp only at hr
      have gn : ((0 : Int32) ≤ -3) = False := eq_false (by decide)
      have heb : oGo T hl A B n nr nl L L.length 0 (R, 0, -1, U) = .error k := by rw [he, oTms, ho]
      have := or_fail (had := had) (x3 := some (.int (nI t))) (Q := Q) h60 (hf.trans f1') hr hI (fun G' z1 z2 z3 z4 z5 z6 => hbad G' z1 z2 z3 z4 z5 z6 heb)
      rw [← hB1] at this
      simp only [Option.toList_some, List.cons_append, List.nil_append, w_iadd, w_isub, w_imul, w_iand, w_ior, w_ixor, w_ishl, w_ishr, w_iushr, w_idiv, w_irem, w_ineg, w_ladd, w_lsub, w_lmul, w_ldiv, w_lrem, w_i2l, w_l2i, w_i2c, w_lcmp, w_dup_int, w_pop_int, w_dup_ref, w_pop_ref, w_dup_retAddr, w_pop_retAddr, w_dup2, w_I, w_L, w_Null, w_Ild, w_Lld, w_Ald, w_Ist, w_Lst, w_Ast, w_Iinc, w_if_eq, w_icmp_eq, w_if_ne, w_icmp_ne, w_if_lt, w_icmp_lt, w_if_ge, w_icmp_ge, w_if_gt, w_icmp_gt, w_if_le, w_icmp_le, w_GetI, w_GetL, w_GetR, w_PutI, w_PutZ, w_PutL, w_PutR, w_PutN, w_Iald, w_Zald, w_Lald, w_Aald, w_Iast, w_Zast, w_Last, w_AastR, w_AastN, w_Alen, w_New, w_NewA, w_Mna, w_Iret, w_Zret, w_Cret, w_Bret, w_Lret, w_AretR, w_AretN, w_Vret, w_Obj, w_IfNN, w_IfNR, w_Copy, w_Cln, w_Cast, w_SfA, w_SfI, w_SfQ, w_Str, w_ScLd, w_ScLen, w_CV0, w_CS0, w_CV1, w_CS1, w_CV2, w_CS2, w_CV3, w_CS3, w_CV4, w_CS4, w_CV5, w_CS5, List.getElem?_cons_zero, List.getElem?_cons_succ, List.set_cons_zero, List.set_cons_succ, List.length_cons, List.length_nil, List.map_cons, List.map_nil, List.sum_cons, List.sum_nil, List.nil_append, List.cons_append, Option.toList_some, Option.toList_none, Value.category, xok, va_rf, true_and, and_true, and_self, Nat.reduceAdd, Nat.reduceLT, Nat.reduceLeDiff, Nat.reduceEqDiff, Nat.reduceMul, beq_self_eq_true, decide_true, ite_true, ite_false, if_true, if_false, reduceIte, Bool.true_eq_false, Bool.false_eq_true, eq_self_iff_true, Nat.zero_le, not_true_eq_false, not_false_eq_true, forall_const, false_implies, implies_true, forall_false, gn, ne10, ne10L, ne01, ne01L, tt_imp, nt_imp, ff_imp, nf_imp, true_and, and_true, true_or, or_true, reduceIte]
      exact this
    | some S' =>
      rw [ho] at hr
      obtain ⟨rfl, hr⟩ := hr
      dsimp only at hr
      have gn : ((0 : Int32) ≤ 0) = True := eq_true (by decide)
      obtain ⟨hI', d1, d2⟩ := oOne_OI hI (by omega) ho
      have := ih (t + 1) S' G1 N1 (by omega) (hf.trans f1') hr hI' (by omega) (by rw [he, oTms, ho]) (by omega)
      rw [← hK1] at this
      simp only [Option.toList_some, List.cons_append, List.nil_append, w_iadd, w_isub, w_imul, w_iand, w_ior, w_ixor, w_ishl, w_ishr, w_iushr, w_idiv, w_irem, w_ineg, w_ladd, w_lsub, w_lmul, w_ldiv, w_lrem, w_i2l, w_l2i, w_i2c, w_lcmp, w_dup_int, w_pop_int, w_dup_ref, w_pop_ref, w_dup_retAddr, w_pop_retAddr, w_dup2, w_I, w_L, w_Null, w_Ild, w_Lld, w_Ald, w_Ist, w_Lst, w_Ast, w_Iinc, w_if_eq, w_icmp_eq, w_if_ne, w_icmp_ne, w_if_lt, w_icmp_lt, w_if_ge, w_icmp_ge, w_if_gt, w_icmp_gt, w_if_le, w_icmp_le, w_GetI, w_GetL, w_GetR, w_PutI, w_PutZ, w_PutL, w_PutR, w_PutN, w_Iald, w_Zald, w_Lald, w_Aald, w_Iast, w_Zast, w_Last, w_AastR, w_AastN, w_Alen, w_New, w_NewA, w_Mna, w_Iret, w_Zret, w_Cret, w_Bret, w_Lret, w_AretR, w_AretN, w_Vret, w_Obj, w_IfNN, w_IfNR, w_Copy, w_Cln, w_Cast, w_SfA, w_SfI, w_SfQ, w_Str, w_ScLd, w_ScLen, w_CV0, w_CS0, w_CV1, w_CS1, w_CV2, w_CS2, w_CV3, w_CS3, w_CV4, w_CS4, w_CV5, w_CS5, List.getElem?_cons_zero, List.getElem?_cons_succ, List.set_cons_zero, List.set_cons_succ, List.length_cons, List.length_nil, List.map_cons, List.map_nil, List.sum_cons, List.sum_nil, List.nil_append, List.cons_append, Option.toList_some, Option.toList_none, Value.category, xok, va_rf, true_and, and_true, and_self, Nat.reduceAdd, Nat.reduceLT, Nat.reduceLeDiff, Nat.reduceEqDiff, Nat.reduceMul, beq_self_eq_true, decide_true, ite_true, ite_false, if_true, if_false, reduceIte, Bool.true_eq_false, Bool.false_eq_true, eq_self_iff_true, Nat.zero_le, not_true_eq_false, not_false_eq_true, forall_const, false_implies, implies_true, forall_false, gn, et, ne10, ne10L, ne01, ne01L, tt_imp, nt_imp, ff_imp, nf_imp, true_and, and_true, true_or, or_true, reduceIte]
      exact this
/-- all clauses -/
theorem or_140 (h6 : O6 T hl A B n nr nl c R U L J qf G6) (hbad : ∀ k G', Fr WFl G6 G' → hpI G' 70 60 = nI k → hpI G' 72 = R → hpI G' 70 8 = had → MU R (hpI G' 75) (hpI G' 76) U → hpI G' 70 20 = 0 → oGo T hl A B n nr nl L L.length 0 (R, 0, -1, U) = .error k → Q (some (.int (-3)), tellH (-3) G')) (hok : ∀ G' S, Fr WRun G6 G' → MRn T hl (hpI G6 75) G' S → oGo T hl A B n nr nl L L.length 0 (R, 0, -1, U) = .ok S → Q (some (.int (nI S.2.1)), tellH (nI S.2.1) G')) : ∀ (m k : Nat) (S : OS) (G : XH) (N : Nat) (a3 : Option Value), k + m = L.length → Fr WRun G6 G → MRn T hl (hpI G6 75) G S → OI R nr nl c S → S.2.1 ≤ 20 * k → oGo T hl A B n nr nl L L.length 0 (R, 0, -1, U) = oGo T hl A B n nr nl L m k S → m < N → WP (xloop f_Mdl_orders_140 N) [some (.ref 70), some (.int had), some (.int (nI k)), a3] [] G Q := by
  have h60 := h6
  obtain ⟨b0, b1, b2, b3, b4, b5, b6, b7, b8, b9, b10, b11, b12⟩ := h6
  intro m
  induction m with
  | zero =>
    intro k S G N a3 hk hf h hI hd he hN
    obtain ⟨N1, rfl⟩ : ∃ N1, N = N1 + 1 := ⟨N - 1, by omega⟩
    have hM := h.1.1
    have ek : k = L.length := by omega
    subst ek
    have c21 : hpI G 70 21 = nI L.length := (hf.I rfl).trans b7
    have g : (nI L.length ≤ nI L.length) = True := eq_true (Int32.le_refl _)
    have hdn := h.2.1
    have htl := fun Q => s_tell hM Q (nI S.2.1) (by
      have : (0 : Int32) ≤ nI S.2.1 := nI_pos' (by omega)
      exact Int32.lt_of_lt_of_le (by decide) this)
    rw [xloop_s]
    simp only [f_Mdl_orders_140, w_iadd, w_isub, w_imul, w_iand, w_ior, w_ixor, w_ishl, w_ishr, w_iushr, w_idiv, w_irem, w_ineg, w_ladd, w_lsub, w_lmul, w_ldiv, w_lrem, w_i2l, w_l2i, w_i2c, w_lcmp, w_dup_int, w_pop_int, w_dup_ref, w_pop_ref, w_dup_retAddr, w_pop_retAddr, w_dup2, w_I, w_L, w_Null, w_Ild, w_Lld, w_Ald, w_Ist, w_Lst, w_Ast, w_Iinc, w_if_eq, w_icmp_eq, w_if_ne, w_icmp_ne, w_if_lt, w_icmp_lt, w_if_ge, w_icmp_ge, w_if_gt, w_icmp_gt, w_if_le, w_icmp_le, w_GetI, w_GetL, w_GetR, w_PutI, w_PutZ, w_PutL, w_PutR, w_PutN, w_Iald, w_Zald, w_Lald, w_Aald, w_Iast, w_Zast, w_Last, w_AastR, w_AastN, w_Alen, w_New, w_NewA, w_Mna, w_Iret, w_Zret, w_Cret, w_Bret, w_Lret, w_AretR, w_AretN, w_Vret, w_Obj, w_IfNN, w_IfNR, w_Copy, w_Cln, w_Cast, w_SfA, w_SfI, w_SfQ, w_Str, w_ScLd, w_ScLen, w_CV0, w_CS0, w_CV1, w_CS1, w_CV2, w_CS2, w_CV3, w_CS3, w_CV4, w_CS4, w_CV5, w_CS5, List.getElem?_cons_zero, List.getElem?_cons_succ, List.set_cons_zero, List.set_cons_succ, List.length_cons, List.length_nil, List.map_cons, List.map_nil, List.sum_cons, List.sum_nil, List.nil_append, List.cons_append, Option.toList_some, Option.toList_none, Value.category, xok, va_rf, true_and, and_true, and_self, Nat.reduceAdd, Nat.reduceLT, Nat.reduceLeDiff, Nat.reduceEqDiff, Nat.reduceMul, beq_self_eq_true, decide_true, ite_true, ite_false, if_true, if_false, reduceIte, Bool.true_eq_false, Bool.false_eq_true, eq_self_iff_true, Nat.zero_le, not_true_eq_false, not_false_eq_true, forall_const, false_implies, implies_true, forall_false, stI_C, stI_N, stI_Z, stI_S, stI_L, stI_R, stL_C, stL_N, stL_Z, stL_S, stL_I, stL_R, stR_C, stR_N, stR_Z, stR_S, stR_I, stR_L, stA_C, stA_N, stA_Z, stA_S, stA_L, stA_R, stI_I, stL_L, stR_R, stA_I, stN_C, stN_N, stN_Z, stN_S, stN_I, stN_L, stN_R, stI_ne, stL_ne, stR_ne, hM.all, c21, g, hdn, htl, ne10, ne10L, ne01, ne01L, tt_imp, nt_imp, ff_imp, nf_imp, true_and, and_true, true_or, or_true, reduceIte]
    exact hok G S hf h he
  | succ m ih =>
    intro k S G N a3 hk hf h hI hd he hN
    obtain ⟨N1, rfl⟩ : ∃ N1, N = N1 + 1 := ⟨N - 1, by omega⟩
    have hM := h.1.1
    have c21 : hpI G 70 21 = nI L.length := (hf.I rfl).trans b7
    have g : (nI L.length ≤ nI k) = False := eq_false (by rw [nl_le (by omega) (by omega)]; omega)
    obtain ⟨_, _, _, _, _, _, _, _, htm, tm1, tm2⟩ := (b8 k (by omega)).1
    have em : m = L.length - (k + 1) := by omega
    obtain ⟨K1, hK1⟩ : ∃ K1, K1 = xloop f_Mdl_orders_140 N1 := ⟨_, rfl⟩
    rw [xloop_s, ← hK1]
    have := or_150 (had := had) (Q := Q) (K140 := K1) h60 (k := k) (by omega) (fun G' z1 z2 z3 z4 z5 z6 z7 => hbad k G' z1 z2 z3 z4 z5 z6 z7) (fun S' G' a3 z1 z2 z3 z4 z5 => by
      rw [hK1]
      exact ih (k + 1) S' G' N1 a3 (by omega) z1 z2 z3 z4 (by rw [z5, em]) (by omega)) (L.getD k clD).2.2.2.1 0 S G NF (by omega) hf h hI (by omega) (by rw [he, oGo, em]; rfl) (by unfold NF; omega)
    simp only [f_Mdl_orders_140, k_Mdl_orders_150, w_iadd, w_isub, w_imul, w_iand, w_ior, w_ixor, w_ishl, w_ishr, w_iushr, w_idiv, w_irem, w_ineg, w_ladd, w_lsub, w_lmul, w_ldiv, w_lrem, w_i2l, w_l2i, w_i2c, w_lcmp, w_dup_int, w_pop_int, w_dup_ref, w_pop_ref, w_dup_retAddr, w_pop_retAddr, w_dup2, w_I, w_L, w_Null, w_Ild, w_Lld, w_Ald, w_Ist, w_Lst, w_Ast, w_Iinc, w_if_eq, w_icmp_eq, w_if_ne, w_icmp_ne, w_if_lt, w_icmp_lt, w_if_ge, w_icmp_ge, w_if_gt, w_icmp_gt, w_if_le, w_icmp_le, w_GetI, w_GetL, w_GetR, w_PutI, w_PutZ, w_PutL, w_PutR, w_PutN, w_Iald, w_Zald, w_Lald, w_Aald, w_Iast, w_Zast, w_Last, w_AastR, w_AastN, w_Alen, w_New, w_NewA, w_Mna, w_Iret, w_Zret, w_Cret, w_Bret, w_Lret, w_AretR, w_AretN, w_Vret, w_Obj, w_IfNN, w_IfNR, w_Copy, w_Cln, w_Cast, w_SfA, w_SfI, w_SfQ, w_Str, w_ScLd, w_ScLen, w_CV0, w_CS0, w_CV1, w_CS1, w_CV2, w_CS2, w_CV3, w_CS3, w_CV4, w_CS4, w_CV5, w_CS5, List.getElem?_cons_zero, List.getElem?_cons_succ, List.set_cons_zero, List.set_cons_succ, List.length_cons, List.length_nil, List.map_cons, List.map_nil, List.sum_cons, List.sum_nil, List.nil_append, List.cons_append, Option.toList_some, Option.toList_none, Value.category, xok, va_rf, true_and, and_true, and_self, Nat.reduceAdd, Nat.reduceLT, Nat.reduceLeDiff, Nat.reduceEqDiff, Nat.reduceMul, beq_self_eq_true, decide_true, ite_true, ite_false, if_true, if_false, reduceIte, Bool.true_eq_false, Bool.false_eq_true, eq_self_iff_true, Nat.zero_le, not_true_eq_false, not_false_eq_true, forall_const, false_implies, implies_true, forall_false, stI_C, stI_N, stI_Z, stI_S, stI_L, stI_R, stL_C, stL_N, stL_Z, stL_S, stL_I, stL_R, stR_C, stR_N, stR_Z, stR_S, stR_I, stR_L, stA_C, stA_N, stA_Z, stA_S, stA_L, stA_R, stI_I, stL_L, stR_R, stA_I, stN_C, stN_N, stN_Z, stN_S, stN_I, stN_L, stN_R, stI_ne, stL_ne, stR_ne, hM.all, c21, g, ne10, ne10L, ne01, ne01L, tt_imp, nt_imp, ff_imp, nf_imp, true_and, and_true, true_or, or_true, reduceIte]
    exact this
end RUN
