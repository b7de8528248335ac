theorem menv_congr {G G' : XH} (h1 : hpL G' 89 = hpL G 89) (h2 : hpI G' 72 = hpI G 72) : menv true G' = menv true G := by
  unfold menv
  simp only [h1, h2, reduceIte]
/-- code of orders that was read -/
def CDo (G : XH) (J : Nat → Nat × Nat) (q : Nat) : Prop := CRj G J q ∧ PWj 21 true J 0 q ∧ q ≤ 400
def WSm : Nat → Nat → Bool := fun a k => WE a k || (a == 70 && (k == 20 || k == 61))
theorem WE_WSm (a k : Nat) (h : WSm a k = false) : WE a k = false := by
  unfold WSm at h
  simp only [Bool.or_eq_false_iff] at h
  exact h.1
theorem CDo.fr {W : Nat → Nat → Bool} {G G' : XH} {J : Nat → Nat × Nat} {q : Nat} (h : CDo G J q) (hf : Fr W G G') (h1 : ∀ k, W 81 k = false) (h2 : ∀ k, W 82 k = false) : CDo G' J q := ⟨fun k hk => ⟨(hf.I (h1 k)).trans (h.1 k hk).1, (hf.I (h2 k)).trans (h.1 k hk).2⟩, h.2⟩
theorem s_sumOf {G : XH} (hM : MS G) {J : Nat → Nat × Nat} {qf : Nat} (hc : CDo G J qf) {a p q : Nat} (ha : a + 1 < 96) (h0 : hpI G 103 a = nI p) (h1 : hpI G 103 (a + 1) = nI q) (hlt : p < q) (hq : q ≤ qf) {h : Nat} {f : SF} (hh : h < 64) (hok : OKJ 21 true J p q h f) (hoff : hpI G 70 61 = 0) : SP D_Mdl_sumOf [.ref 70, .int (nI a)] G (fun z => Fr WSm G z.2 ∧ hpI z.2 70 20 = 0 ∧ match f (menv true G) with
    | none => (∃ v : Int64, z.1 = some (.long v)) ∧ hpI z.2 70 61 = 1
    | some x => z.1 = some (.long x) ∧ hpI z.2 70 61 = 0) := by
  have q400 := hc.2.2
  have e1 : nI a + 1 = nI (a + 1) := nI_add a 1
  have p1 : 0 ≤ nI (a) := nI_pos' (by omega)
  have c1 : (nI (a)).toNatClampNeg = a := nI_clamp (by omega)
  have l1 : a < 96 := by omega
  have p2 : 0 ≤ nI (a + 1) := nI_pos' (by omega)
  have c2 : (nI (a + 1)).toNatClampNeg = a + 1 := nI_clamp (by omega)
  have l2 : a + 1 < 96 := by omega
  have g : (nI p = nI q) = False := eq_false (by rw [nl_eq (by omega) (by omega)]; omega)
  obtain ⟨G1, hG1⟩ : ∃ G1, G1 = stI G 70 20 1 := ⟨_, rfl⟩
  have f1' : Fr WSm G G1 := by rw [hG1]; exact Fr.refl.wI rfl
  have hM1 := f1'.ms hM
  have o1 : hpI G1 70 20 = 1 := by rw [hG1, stI_up, hpI_stA, up_eq]
  have j0 : hpI G1 103 a = nI p := (f1'.I rfl).trans h0
  have j1 : hpI G1 103 (a + 1) = nI q := (f1'.I rfl).trans h1
  have hc1 := hc.fr f1' (fun _ => rfl) (fun _ => rfl)
  have em : menv true G1 = menv true G := menv_congr (f1'.LA _ (fun _ => rfl)) (f1'.IA _ (fun _ => rfl))
  rw [e_Mdl_sumOf]
  simp only [k_Mdl_sumOf_0, w_iadd, w_isub, w_imul, w_iand, w_ior, w_ixor, w_ishl, w_ishr, w_iushr, w_idiv, w_irem, w_ineg, w_ladd, w_lsub, w_lmul, w_ldiv, w_lrem, w_i2l, w_l2i, w_i2c, w_lcmp, w_dup_int, w_pop_int, w_dup_ref, w_pop_ref, w_dup_retAddr, w_pop_retAddr, w_dup2, w_I, w_L, w_Null, w_Ild, w_Lld, w_Ald, w_Ist, w_Lst, w_Ast, w_Iinc, w_if_eq, w_icmp_eq, w_if_ne, w_icmp_ne, w_if_lt, w_icmp_lt, w_if_ge, w_icmp_ge, w_if_gt, w_icmp_gt, w_if_le, w_icmp_le, w_GetI, w_GetL, w_GetR, w_PutI, w_PutZ, w_PutL, w_PutR, w_PutN, w_Iald, w_Zald, w_Lald, w_Aald, w_Iast, w_Zast, w_Last, w_AastR, w_AastN, w_Alen, w_New, w_NewA, w_Mna, w_Iret, w_Zret, w_Cret, w_Bret, w_Lret, w_AretR, w_AretN, w_Vret, w_Obj, w_IfNN, w_IfNR, w_Copy, w_Cln, w_Cast, w_SfA, w_SfI, w_SfQ, w_Str, w_ScLd, w_ScLen, w_CV0, w_CS0, w_CV1, w_CS1, w_CV2, w_CS2, w_CV3, w_CS3, w_CV4, w_CS4, w_CV5, w_CS5, List.getElem?_cons_zero, List.getElem?_cons_succ, List.set_cons_zero, List.set_cons_succ, List.length_cons, List.length_nil, List.map_cons, List.map_nil, List.sum_cons, List.sum_nil, List.nil_append, List.cons_append, Option.toList_some, Option.toList_none, Value.category, xok, va_rf, true_and, and_true, and_self, Nat.reduceAdd, Nat.reduceLT, Nat.reduceLeDiff, Nat.reduceEqDiff, Nat.reduceMul, beq_self_eq_true, decide_true, ite_true, ite_false, if_true, if_false, reduceIte, Bool.true_eq_false, Bool.false_eq_true, eq_self_iff_true, Nat.zero_le, not_true_eq_false, not_false_eq_true, forall_const, false_implies, implies_true, forall_false, hM.all, hoff, e1, xin, p1, c1, l1, p2, c2, l2, h0, h1, g, or_true, ← hG1, hM1.all, j0, j1, ne10, ne10L, ne01, ne01L, tt_imp, nt_imp, ff_imp, nf_imp, true_and, and_true, true_or, or_true, reduceIte]
  refine SP.mono (s_reckonAll hM1 true o1 0 (fun z => by cases z) (dI true J) p q h (by omega) (by omega) (fun k hk hj => ((hc.2.1.1 k (by omega) (by omega)).2.2.2.2 hj).1) (fun k hk => ?_) f (hok.1.2.2.1 _ (fun _ _ _ => rfl)) hh) ?_
  · have z1 := hc1.1 k (by omega)
    have z2 := hc.2.1.2 k (by omega) (by omega)
    show MI true (hpI G1 81 k) (hpI G1 82 k) (dI true J k)
    rw [z1.1, z1.2]
    exact z2
  · rintro ⟨v, G2⟩ hr
    obtain ⟨rfl, f2, hb0, hb1⟩ := raQ_Fr hr
    dsimp only at f2 hb0 hb1
    rw [em] at hb0 hb1
    have hM2 := f2.ms hM1
    have hbb : hpI G2 70 38 = 0 ∨ hpI G2 70 38 = 1 := by
      cases hf : f (menv true G) with
      | none => exact Or.inr (hb0 hf)
      | some x => exact Or.inl (hb1 x hf).1
    obtain ⟨bv, hbv⟩ : ∃ bv, bv = hpI G2 70 38 := ⟨_, rfl⟩
    rw [← hbv] at hbb
    have hbv' := hbv.symm
    have hbT : (bv = 0 ∨ bv = 1) = True := eq_true hbb
    obtain ⟨G3, hG3⟩ : ∃ G3, G3 = stI G2 70 20 0 := ⟨_, rfl⟩
    have f3 : Fr WSm G2 G3 := by rw [hG3]; exact Fr.refl.wI rfl
    have hM3 := f3.ms hM2
    have b3 : hpI G3 70 38 = bv := by rw [hG3, stI_up, hpI_stA, up_ne (by decide)]; exact hbv'
    obtain ⟨G4, hG4⟩ : ∃ G4, G4 = stI G3 70 61 bv := ⟨_, rfl⟩
    have f4 : Fr WSm G3 G4 := by rw [hG4]; exact Fr.refl.wI rfl
    have hM4 := f4.ms hM3
    have o4 : hpI G4 70 20 = 0 := by rw [hG4, stI_up, hpI_stA, up_ne (by decide), hG3, stI_up, hpI_stA, up_eq]
    have v4 : hpI G4 70 61 = bv := by rw [hG4, stI_up, hpI_stA, up_eq]
    have l4 : hpL G4 = hpL G2 := by rw [hG4, hG3]; rfl
    simp only [Option.toList_none, List.nil_append, w_iadd, w_isub, w_imul, w_iand, w_ior, w_ixor, w_ishl, w_ishr, w_iushr, w_idiv, w_irem, w_ineg, w_ladd, w_lsub, w_lmul, w_ldiv, w_lrem, w_i2l, w_l2i, w_i2c, w_lcmp, w_dup_int, w_pop_int, w_dup_ref, w_pop_ref, w_dup_retAddr, w_pop_retAddr, w_dup2, w_I, w_L, w_Null, w_Ild, w_Lld, w_Ald, w_Ist, w_Lst, w_Ast, w_Iinc, w_if_eq, w_icmp_eq, w_if_ne, w_icmp_ne, w_if_lt, w_icmp_lt, w_if_ge, w_icmp_ge, w_if_gt, w_icmp_gt, w_if_le, w_icmp_le, w_GetI, w_GetL, w_GetR, w_PutI, w_PutZ, w_PutL, w_PutR, w_PutN, w_Iald, w_Zald, w_Lald, w_Aald, w_Iast, w_Zast, w_Last, w_AastR, w_AastN, w_Alen, w_New, w_NewA, w_Mna, w_Iret, w_Zret, w_Cret, w_Bret, w_Lret, w_AretR, w_AretN, w_Vret, w_Obj, w_IfNN, w_IfNR, w_Copy, w_Cln, w_Cast, w_SfA, w_SfI, w_SfQ, w_Str, w_ScLd, w_ScLen, w_CV0, w_CS0, w_CV1, w_CS1, w_CV2, w_CS2, w_CV3, w_CS3, w_CV4, w_CS4, w_CV5, w_CS5, List.getElem?_cons_zero, List.getElem?_cons_succ, List.set_cons_zero, List.set_cons_succ, List.length_cons, List.length_nil, List.map_cons, List.map_nil, List.sum_cons, List.sum_nil, List.nil_append, List.cons_append, Option.toList_some, Option.toList_none, Value.category, xok, va_rf, true_and, and_true, and_self, Nat.reduceAdd, Nat.reduceLT, Nat.reduceLeDiff, Nat.reduceEqDiff, Nat.reduceMul, beq_self_eq_true, decide_true, ite_true, ite_false, if_true, if_false, reduceIte, Bool.true_eq_false, Bool.false_eq_true, eq_self_iff_true, Nat.zero_le, not_true_eq_false, not_false_eq_true, forall_const, false_implies, implies_true, forall_false, hM2.all, or_true, true_or, ← hG3, hM3.all, b3, hbT, ← hG4, hM4.all, ne10, ne10L, ne01, ne01L, tt_imp, nt_imp, ff_imp, nf_imp, true_and, and_true, true_or, or_true, reduceIte]
    refine ⟨((f1'.trans (f2.mono WE_WSm)).trans f3).trans f4, o4, ?_⟩
    cases hf : f (menv true G) with
    | none =>
      dsimp only
      exact ⟨⟨_, rfl⟩, by rw [v4, hbv]; exact hb0 hf⟩
    | some x =>
      dsimp only
      rw [l4, (hb1 x hf).2]
      exact ⟨rfl, by rw [v4, hbv]; exact (hb1 x hf).1⟩
theorem s_sumOf_no {G : XH} (hM : MS G) {a : Nat} (ha : a + 1 < 96) (h : hpI G 70 61 = 1 ∨ (hpI G 70 61 = 0 ∧ hpI G 103 a = 0 ∧ hpI G 103 (a + 1) = 0)) (Q : XR → Prop) : SP D_Mdl_sumOf [.ref 70, .int (nI a)] G Q = Q (some (.long (-1)), G) := by
  have e1 : nI a + 1 = nI (a + 1) := nI_add a 1
  have p1 : 0 ≤ nI (a) := nI_pos' (by omega)
  have c1 : (nI (a)).toNatClampNeg = a := nI_clamp (by omega)
  have l1 : a < 96 := by omega
  have p2 : 0 ≤ nI (a + 1) := nI_pos' (by omega)
  have c2 : (nI (a + 1)).toNatClampNeg = a + 1 := nI_clamp (by omega)
  have l2 : a + 1 < 96 := by omega
  rw [e_Mdl_sumOf]
  rcases h with h | ⟨h, h0, h1⟩
  · simp only [k_Mdl_sumOf_0, k_Mdl_sumOf_24, w_iadd, w_isub, w_imul, w_iand, w_ior, w_ixor, w_ishl, w_ishr, w_iushr, w_idiv, w_irem, w_ineg, w_ladd, w_lsub, w_lmul, w_ldiv, w_lrem, w_i2l, w_l2i, w_i2c, w_lcmp, w_dup_int, w_pop_int, w_dup_ref, w_pop_ref, w_dup_retAddr, w_pop_retAddr, w_dup2, w_I, w_L, w_Null, w_Ild, w_Lld, w_Ald, w_Ist, w_Lst, w_Ast, w_Iinc, w_if_eq, w_icmp_eq, w_if_ne, w_icmp_ne, w_if_lt, w_icmp_lt, w_if_ge, w_icmp_ge, w_if_gt, w_icmp_gt, w_if_le, w_icmp_le, w_GetI, w_GetL, w_GetR, w_PutI, w_PutZ, w_PutL, w_PutR, w_PutN, w_Iald, w_Zald, w_Lald, w_Aald, w_Iast, w_Zast, w_Last, w_AastR, w_AastN, w_Alen, w_New, w_NewA, w_Mna, w_Iret, w_Zret, w_Cret, w_Bret, w_Lret, w_AretR, w_AretN, w_Vret, w_Obj, w_IfNN, w_IfNR, w_Copy, w_Cln, w_Cast, w_SfA, w_SfI, w_SfQ, w_Str, w_ScLd, w_ScLen, w_CV0, w_CS0, w_CV1, w_CS1, w_CV2, w_CS2, w_CV3, w_CS3, w_CV4, w_CS4, w_CV5, w_CS5, List.getElem?_cons_zero, List.getElem?_cons_succ, List.set_cons_zero, List.set_cons_succ, List.length_cons, List.length_nil, List.map_cons, List.map_nil, List.sum_cons, List.sum_nil, List.nil_append, List.cons_append, Option.toList_some, Option.toList_none, Value.category, xok, va_rf, true_and, and_true, and_self, Nat.reduceAdd, Nat.reduceLT, Nat.reduceLeDiff, Nat.reduceEqDiff, Nat.reduceMul, beq_self_eq_true, decide_true, ite_true, ite_false, if_true, if_false, reduceIte, Bool.true_eq_false, Bool.false_eq_true, eq_self_iff_true, Nat.zero_le, not_true_eq_false, not_false_eq_true, forall_const, false_implies, implies_true, forall_false, stI_C, stI_N, stI_Z, stI_S, stI_L, stI_R, stL_C, stL_N, stL_Z, stL_S, stL_I, stL_R, stR_C, stR_N, stR_Z, stR_S, stR_I, stR_L, stA_C, stA_N, stA_Z, stA_S, stA_L, stA_R, stI_I, stL_L, stR_R, stA_I, stN_C, stN_N, stN_Z, stN_S, stN_I, stN_L, stN_R, stI_ne, stL_ne, stR_ne, hM.all, h, ne10, ne10L, ne01, ne01L, tt_imp, nt_imp, ff_imp, nf_imp, true_and, and_true, true_or, or_true, reduceIte]
  · simp only [k_Mdl_sumOf_0, k_Mdl_sumOf_24, w_iadd, w_isub, w_imul, w_iand, w_ior, w_ixor, w_ishl, w_ishr, w_iushr, w_idiv, w_irem, w_ineg, w_ladd, w_lsub, w_lmul, w_ldiv, w_lrem, w_i2l, w_l2i, w_i2c, w_lcmp, w_dup_int, w_pop_int, w_dup_ref, w_pop_ref, w_dup_retAddr, w_pop_retAddr, w_dup2, w_I, w_L, w_Null, w_Ild, w_Lld, w_Ald, w_Ist, w_Lst, w_Ast, w_Iinc, w_if_eq, w_icmp_eq, w_if_ne, w_icmp_ne, w_if_lt, w_icmp_lt, w_if_ge, w_icmp_ge, w_if_gt, w_icmp_gt, w_if_le, w_icmp_le, w_GetI, w_GetL, w_GetR, w_PutI, w_PutZ, w_PutL, w_PutR, w_PutN, w_Iald, w_Zald, w_Lald, w_Aald, w_Iast, w_Zast, w_Last, w_AastR, w_AastN, w_Alen, w_New, w_NewA, w_Mna, w_Iret, w_Zret, w_Cret, w_Bret, w_Lret, w_AretR, w_AretN, w_Vret, w_Obj, w_IfNN, w_IfNR, w_Copy, w_Cln, w_Cast, w_SfA, w_SfI, w_SfQ, w_Str, w_ScLd, w_ScLen, w_CV0, w_CS0, w_CV1, w_CS1, w_CV2, w_CS2, w_CV3, w_CS3, w_CV4, w_CS4, w_CV5, w_CS5, List.getElem?_cons_zero, List.getElem?_cons_succ, List.set_cons_zero, List.set_cons_succ, List.length_cons, List.length_nil, List.map_cons, List.map_nil, List.sum_cons, List.sum_nil, List.nil_append, List.cons_append, Option.toList_some, Option.toList_none, Value.category, xok, va_rf, true_and, and_true, and_self, Nat.reduceAdd, Nat.reduceLT, Nat.reduceLeDiff, Nat.reduceEqDiff, Nat.reduceMul, beq_self_eq_true, decide_true, ite_true, ite_false, if_true, if_false, reduceIte, Bool.true_eq_false, Bool.false_eq_true, eq_self_iff_true, Nat.zero_le, not_true_eq_false, not_false_eq_true, forall_const, false_implies, implies_true, forall_false, stI_C, stI_N, stI_Z, stI_S, stI_L, stI_R, stL_C, stL_N, stL_Z, stL_S, stL_I, stL_R, stR_C, stR_N, stR_Z, stR_S, stR_I, stR_L, stA_C, stA_N, stA_Z, stA_S, stA_L, stA_R, stI_I, stL_L, stR_R, stA_I, stN_C, stN_N, stN_Z, stN_S, stN_I, stN_L, stN_R, stI_ne, stL_ne, stR_ne, hM.all, h, e1, xin, p1, c1, l1, p2, c2, l2, h0, h1, ne10, ne10L, ne01, ne01L, tt_imp, nt_imp, ff_imp, nf_imp, true_and, and_true, true_or, or_true, reduceIte]
def WRun : Nat → Nat → Bool := fun a k => WHM a k || a == 89 || (a == 70 && (k == 20 || k == 61 || k == 58 || k == 59))
theorem WHM_WRun (a k : Nat) (h : WRun a k = false) : WHM a k = false := by
  unfold WRun at h
  simp only [Bool.or_eq_false_iff] at h
  exact h.1.1
theorem WSm_WRun (a k : Nat) (h : WRun a k = false) : WSm a k = false := by
  have h1 := WE_WL a k (WL_WHM a k (WHM_WRun a k h))
  unfold WRun at h
  unfold WSm
  simp only [Bool.or_eq_false_iff, Bool.and_eq_false_iff] at h ⊢
  refine ⟨h1, ?_⟩
  rcases h.2 with z | z
  · exact Or.inl z
  · exact Or.inr z.1.1
/-- the model in a run of orders -/
def MRn (T : Nat → (Nat → Int64) → Option Int64) (hl : Bool) (u0 : Nat → Int32) (G : XH) (S : OS) : Prop := MX G S.1 T hl ∧ hpI G 70 58 = nI S.2.1 ∧ hpI G 70 59 = S.2.2.1 ∧ hpI G 70 8 = nI S.2.2.2.1 ∧ MU S.1 (hpI G 75) (hpI G 76) S.2.2.2 ∧ ∀ j, 2176 ≤ j → hpI G 75 j = u0 j
theorem MRn.fr {W : Nat → Nat → Bool} {T : Nat → (Nat → Int64) → Option Int64} {hl : Bool} {u0 : Nat → Int32} {G G' : XH} {S : OS} (h : MRn T hl u0 G S) (hf : Fr W G G') (ho : hpI G' 70 20 = 0) (h1 : W 70 58 = false) (h2 : W 70 59 = false) (h3 : W 70 8 = false) (h4 : ∀ k, W 75 k = false) (h5 : ∀ k, W 76 k = false) (h6 : ∀ k, W 72 k = false) : MRn T hl u0 G' S := by
  obtain ⟨a1, a2, a3, a4, a5, a6⟩ := h
  refine ⟨⟨hf.ms a1.1, ho, (hf.IA _ h6).trans a1.2.2.1, a1.2.2.2⟩, (hf.I h1).trans a2, (hf.I h2).trans a3, (hf.I h3).trans a4, ?_, ?_⟩
  · rw [hf.IA _ h4, hf.IA _ h5]; exact a5
  · rw [hf.IA _ h4]; exact a6
/-- what a clause's run leaves -/
def RnQ (T : Nat → (Nat → Int64) → Option Int64) (hl : Bool) (u0 : Nat → Int32) (G : XH) (S : OS) (o : Option OS) (z : XR) : Prop := Fr WRun G z.2 ∧ match o with
  | none => z.1 = some (.int (-3)) ∧ MRn T hl u0 z.2 S
  | some S' => z.1 = some (.int 0) ∧ MRn T hl u0 z.2 S'
theorem RnQ.fr {T : Nat → (Nat → Int64) → Option Int64} {hl : Bool} {u0 : Nat → Int32} {G0 G : XH} {S : OS} {o : Option OS} {z : XR} (h : RnQ T hl u0 G S o z) (hf : Fr WRun G0 G) : RnQ T hl u0 G0 S o z := ⟨hf.trans h.1, h.2⟩
theorem run_203n {T : Nat → (Nat → Int64) → Option Int64} {hl : Bool} {u0 : Nat → Int32} {G : XH} {S : OS} (h : MRn T hl u0 G S) {v x1 : Int32} {a2 : Int32} {x3 x4 x5 : Int32} (hv : v < 0) : WP k_Mdl_run_203 [some (.ref 70), some (.int x1), some (.int a2), some (.int x3), some (.int x4), some (.int x5)] [.int v] G (RnQ T hl u0 G S none) := by
  have hM := h.1.1
  have hp := h.2.2.1
  have g : (0 ≤ v) = False := eq_false (Int32.not_le.mpr hv)
  have hG : stI G 70 59 S.2.2.1 = G := by
    have e : up (hpI G 70) 59 S.2.2.1 = hpI G 70 := funext (fun j => by
      unfold up
      split
      · next z => rw [z]; exact hp.symm
      · rfl)
    rw [stI_up, e]
    exact stA_same
  simp only [k_Mdl_run_203, k_Mdl_run_217, k_Mdl_run_220, w_iadd, w_isub, w_imul, w_iand, w_ior, w_ixor, w_ishl, w_ishr, w_iushr, w_idiv, w_irem, w_ineg, w_ladd, w_lsub, w_lmul, w_ldiv, w_lrem, w_i2l, w_l2i, w_i2c, w_lcmp, w_dup_int, w_pop_int, w_dup_ref, w_pop_ref, w_dup_retAddr, w_pop_retAddr, w_dup2, w_I, w_L, w_Null, w_Ild, w_Lld, w_Ald, w_Ist, w_Lst, w_Ast, w_Iinc, w_if_eq, w_icmp_eq, w_if_ne, w_icmp_ne, w_if_lt, w_icmp_lt, w_if_ge, w_icmp_ge, w_if_gt, w_icmp_gt, w_if_le, w_icmp_le, w_GetI, w_GetL, w_GetR, w_PutI, w_PutZ, w_PutL, w_PutR, w_PutN, w_Iald, w_Zald, w_Lald, w_Aald, w_Iast, w_Zast, w_Last, w_AastR, w_AastN, w_Alen, w_New, w_NewA, w_Mna, w_Iret, w_Zret, w_Cret, w_Bret, w_Lret, w_AretR, w_AretN, w_Vret, w_Obj, w_IfNN, w_IfNR, w_Copy, w_Cln, w_Cast, w_SfA, w_SfI, w_SfQ, w_Str, w_ScLd, w_ScLen, w_CV0, w_CS0, w_CV1, w_CS1, w_CV2, w_CS2, w_CV3, w_CS3, w_CV4, w_CS4, w_CV5, w_CS5, List.getElem?_cons_zero, List.getElem?_cons_succ, List.set_cons_zero, List.set_cons_succ, List.length_cons, List.length_nil, List.map_cons, List.map_nil, List.sum_cons, List.sum_nil, List.nil_append, List.cons_append, Option.toList_some, Option.toList_none, Value.category, xok, va_rf, true_and, and_true, and_self, Nat.reduceAdd, Nat.reduceLT, Nat.reduceLeDiff, Nat.reduceEqDiff, Nat.reduceMul, beq_self_eq_true, decide_true, ite_true, ite_false, if_true, if_false, reduceIte, Bool.true_eq_false, Bool.false_eq_true, eq_self_iff_true, Nat.zero_le, not_true_eq_false, not_false_eq_true, forall_const, false_implies, implies_true, forall_false, hM.all, hp, g, hG, ne10, ne10L, ne01, ne01L, tt_imp, nt_imp, ff_imp, nf_imp, true_and, and_true, true_or, or_true, reduceIte]
  exact ⟨Fr.refl, rfl, h⟩
theorem run_203p {T : Nat → (Nat → Int64) → Option Int64} {hl : Bool} {u0 : Nat → Int32} {G : XH} {S S' : OS} {v x1 : Int32} {a2 : Int32} {x3 x4 x5 : Int32} (hv : 0 ≤ v) (h : MX G S'.1 T hl) (hd : hpI G 70 58 = nI S.2.1) (hd' : S'.2.1 = S.2.1 + 1) (hp : S'.2.2.1 = v) (hu : hpI G 70 8 = nI S'.2.2.2.1) (hm : MU S'.1 (hpI G 75) (hpI G 76) S'.2.2.2) (ht : ∀ j, 2176 ≤ j → hpI G 75 j = u0 j) : WP k_Mdl_run_203 [some (.ref 70), some (.int x1), some (.int a2), some (.int x3), some (.int x4), some (.int x5)] [.int v] G (RnQ T hl u0 G S (some S')) := by
  have hM := h.1
  have g : (0 ≤ v) = True := eq_true hv
  have e1 : nI S.2.1 + 1 = nI (S.2.1 + 1) := nI_add _ 1
  obtain ⟨G1, hG1⟩ : ∃ G1, G1 = stI G 70 59 v := ⟨_, rfl⟩
  have f1' : Fr WRun G G1 := by rw [hG1]; exact Fr.refl.wI rfl
  have hM1 := f1'.ms hM
  have d1 : hpI G1 70 58 = nI S.2.1 := by rw [hG1, stI_up, hpI_stA, up_ne (by decide)]; exact hd
  obtain ⟨G2, hG2⟩ : ∃ G2, G2 = stI G1 70 58 (nI (S.2.1 + 1)) := ⟨_, rfl⟩
  have f2 : Fr WRun G1 G2 := by rw [hG2]; exact Fr.refl.wI rfl
  simp only [k_Mdl_run_203, k_Mdl_run_217, k_Mdl_run_220, w_iadd, w_isub, w_imul, w_iand, w_ior, w_ixor, w_ishl, w_ishr, w_iushr, w_idiv, w_irem, w_ineg, w_ladd, w_lsub, w_lmul, w_ldiv, w_lrem, w_i2l, w_l2i, w_i2c, w_lcmp, w_dup_int, w_pop_int, w_dup_ref, w_pop_ref, w_dup_retAddr, w_pop_retAddr, w_dup2, w_I, w_L, w_Null, w_Ild, w_Lld, w_Ald, w_Ist, w_Lst, w_Ast, w_Iinc, w_if_eq, w_icmp_eq, w_if_ne, w_icmp_ne, w_if_lt, w_icmp_lt, w_if_ge, w_icmp_ge, w_if_gt, w_icmp_gt, w_if_le, w_icmp_le, w_GetI, w_GetL, w_GetR, w_PutI, w_PutZ, w_PutL, w_PutR, w_PutN, w_Iald, w_Zald, w_Lald, w_Aald, w_Iast, w_Zast, w_Last, w_AastR, w_AastN, w_Alen, w_New, w_NewA, w_Mna, w_Iret, w_Zret, w_Cret, w_Bret, w_Lret, w_AretR, w_AretN, w_Vret, w_Obj, w_IfNN, w_IfNR, w_Copy, w_Cln, w_Cast, w_SfA, w_SfI, w_SfQ, w_Str, w_ScLd, w_ScLen, w_CV0, w_CS0, w_CV1, w_CS1, w_CV2, w_CS2, w_CV3, w_CS3, w_CV4, w_CS4, w_CV5, w_CS5, List.getElem?_cons_zero, List.getElem?_cons_succ, List.set_cons_zero, List.set_cons_succ, List.length_cons, List.length_nil, List.map_cons, List.map_nil, List.sum_cons, List.sum_nil, List.nil_append, List.cons_append, Option.toList_some, Option.toList_none, Value.category, xok, va_rf, true_and, and_true, and_self, Nat.reduceAdd, Nat.reduceLT, Nat.reduceLeDiff, Nat.reduceEqDiff, Nat.reduceMul, beq_self_eq_true, decide_true, ite_true, ite_false, if_true, if_false, reduceIte, Bool.true_eq_false, Bool.false_eq_true, eq_self_iff_true, Nat.zero_le, not_true_eq_false, not_false_eq_true, forall_const, false_implies, implies_true, forall_false, stI_C, stI_N, stI_Z, stI_S, stI_L, stI_R, stL_C, stL_N, stL_Z, stL_S, stL_I, stL_R, stR_C, stR_N, stR_Z, stR_S, stR_I, stR_L, stA_C, stA_N, stA_Z, stA_S, stA_L, stA_R, stI_I, stL_L, stR_R, stA_I, stN_C, stN_N, stN_Z, stN_S, stN_I, stN_L, stN_R, stI_ne, stL_ne, stR_ne, hM.all, g, ← hG1, hM1.all, d1, e1, ← hG2, ne10, ne10L, ne01, ne01L, tt_imp, nt_imp, ff_imp, nf_imp, true_and, and_true, true_or, or_true, reduceIte]
  have A2 : hpI G2 70 = up (up (hpI G 70) 59 v) 58 (nI (S.2.1 + 1)) := by rw [hG2, stI_up, hpI_stA, hG1, stI_up, hpI_stA]
  have I2 : ∀ a, ¬ a = 70 → hpI G2 a = hpI G a := fun a ha => by rw [hG2, stI_up, hpI_stA_ne ha, hG1, stI_up, hpI_stA_ne ha]
  refine ⟨f1'.trans f2, rfl, ⟨f2.ms hM1, ?_, ?_, h.2.2.2⟩, ?_, ?_, ?_, ?_, ?_⟩
  · rw [A2, up_ne (by decide), up_ne (by decide)]; exact h.2.1
  · rw [I2 _ (by decide)]; exact h.2.2.1
  · rw [A2, up_eq, hd']
  · rw [A2, up_ne (by decide), up_eq, hp]
  · rw [A2, up_ne (by decide), up_ne (by decide)]; exact hu
  · rw [I2 _ (by decide), I2 _ (by decide)]; exact hm
  · rw [I2 _ (by decide)]; exact ht
theorem oLt_no {nl : Nat} (hnl : nl ≤ 12) {f : SF} {e : Nat → Int64} {v : Int64} (hf : f e = some v) (hb : -BIG ≤ v ∧ v ≤ BIG) (h : oLt nl f e = none) : ¬ (0 ≤ v.toInt32 ∧ v.toInt32 < nI nl) := by
  unfold oLt at h
  rw [hf] at h
  dsimp only at h
  split at h
  · cases h
  · next q =>
    intro z
    apply q
    have b1 := Int64.le_iff_toInt_le.mp hb.1
    have b2 := Int64.le_iff_toInt_le.mp hb.2
    rw [nBIG_i] at b1
    rw [BIG_i] at b2
    have e0 : v.toInt32.toInt = v.toInt := by
      rw [Int64.toInt_toInt32]
      apply Int.bmod_eq_of_le <;> omega
    have z1 := Int32.le_iff_toInt_le.mp z.1
    have z2 := Int32.lt_iff_toInt_lt.mp z.2
    rw [e0] at z1 z2
    rw [nI_toInt (by omega)] at z2
    have i1 : (Int64.ofNat nl).toInt = nl := by rw [← nI_64 (by omega), Int32.toInt_toInt64, nI_toInt (by omega)]
    have i0 : (0 : Int64).toInt = 0 := by decide
    have i32 : (0 : Int32).toInt = 0 := by decide
    rw [i32] at z1
    exact ⟨by rw [Int64.le_iff_toInt_le, i0]; exact z1, by rw [Int64.lt_iff_toInt_lt, i1]; exact z2⟩
/-- the words' bounds -/
theorem owE_B {R : Nat → Int32} {nr nl c done : Nat} {paid : Int32} (hR : RW R nr nl c) (hc : c ≤ 500000) (hd : done ≤ 1000) (hp : paid = -1 ∨ In paid 999) : ∀ w, w < 21 → -BIG ≤ owE R done paid w ∧ owE R done paid w ≤ BIG := by
  have bI : ∀ {v : Int32} {b : Nat}, In v b → b ≤ 999999999 → -BIG ≤ v.toInt64 ∧ v.toInt64 ≤ BIG := by
    rintro v b ⟨k, k1, rfl⟩ hb
    rw [Int64.le_iff_toInt_le, Int64.le_iff_toInt_le, nBIG_i, BIG_i, Int32.toInt_toInt64, nI_toInt (by omega)]
    omega
  have bm : -BIG ≤ (-1 : Int64) ∧ (-1 : Int64) ≤ BIG := by
    rw [Int64.le_iff_toInt_le, Int64.le_iff_toInt_le, nBIG_i, BIG_i, show (-1 : Int64).toInt = -1 by decide]
    omega
  have bm32 : -BIG ≤ (-1 : Int32).toInt64 ∧ (-1 : Int32).toInt64 ≤ BIG := by
    rw [Int64.le_iff_toInt_le, Int64.le_iff_toInt_le, nBIG_i, BIG_i, Int32.toInt_toInt64, show (-1 : Int32).toInt = -1 by decide]
    omega
  obtain ⟨a1, a2, a3, a4, a5, a6, a7, a8, a9, a10⟩ := hR
  intro w hw
  unfold owE
  by_cases h5 : w < 5
  · rw [if_pos h5]
    by_cases w0 : w = 0
    · rw [if_pos w0]; exact bI a5 (by omega)
    · rw [if_neg w0]
      by_cases w1 : w = 1
      · rw [if_pos w1, a3]; exact bI ⟨nl, Nat.le_refl _, rfl⟩ (by omega)
      · rw [if_neg w1]
        by_cases w2 : w = 2
        · rw [if_pos w2]; exact bI a8 (by omega)
        · rw [if_neg w2]
          by_cases w3 : w = 3
          · rw [if_pos w3]; exact bI ⟨done, Nat.le_refl _, rfl⟩ (by omega)
          · rw [if_neg w3]
            rcases hp with z | z
            · rw [z]; exact bm32
            · exact bI z (by omega)
  · rw [if_neg h5]
    by_cases h13 : w < 13
    · rw [if_pos h13]
      by_cases g : nI (w - 5) < R 1
      · rw [if_pos g]
        rw [a1, nl_lt (by omega) (by omega)] at g
        have := (a9 (w - 5) g).2.2.1
        rw [show 9 + 6 * (w - 5) + 2 = 11 + 6 * (w - 5) by omega]
        exact bI this (by omega)
      · rw [if_neg g]; exact bm
    · rw [if_neg h13]
      by_cases g : nI (w - 13) < R 1
      · rw [if_pos g]
        rw [a1, nl_lt (by omega) (by omega)] at g
        have := (a9 (w - 13) g).2.2.2.2.1
        rw [show 9 + 6 * (w - 13) + 4 = 13 + 6 * (w - 13) by omega]
        exact bI this (by omega)
      · rw [if_neg g]; exact bm
