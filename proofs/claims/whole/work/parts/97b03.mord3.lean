def WBo : Nat → Nat → Bool := fun a k => WRq a k || (a == 70 && (k == 20 || k == 13))
theorem WRo_WBo (a k : Nat) (h : WBo a k = false) : WRq a k = false := by
  unfold WBo at h
  simp only [Bool.or_eq_false_iff] at h
  exact h.1
/-- a text of a law, as the model has read it -/
def TMd (G : XH) (L : List CLd) (q : Nat) : Prop := L.length ≤ 12 ∧ hpI G 70 21 = nI L.length ∧ ∃ J, CRj G J q ∧ PWj 21 true J 0 q ∧ ∀ i, i < L.length → CMo (hpI G 103) J i (L.getD i clD) q
def TMo (o : Except Nat (List CLd)) (G : XH) : Prop := match o with
  | .error e => hpI G 70 19 = 1 ∧ hpI G 70 18 = nI e
  | .ok L => hpI G 70 19 = 0 ∧ hpI G 70 18 = -1 ∧ ∃ q, q ≤ 400 ∧ hpI G 70 23 = nI q ∧ TMd G L q
/-- the end of a text -/
theorem s_endTextO {G : XH} {b : Nat → Nat} {len p c : Nat} {od bd : Bool} {J : Nat → Nat × Nat} {q : Nat} (h : MSC G bd b len od p c J q) {o : Except Nat (List CLd)} (ho : (bd = true ∧ o = .error p) ∨ (bd = false ∧ p < len ∧ o = .error p) ∨ (bd = false ∧ len ≤ p ∧ ∃ L, o = .ok L ∧ TMd G L q)) : SP D_Mdl_endText [.ref 70] G (fun z => z.1 = none ∧ Fr WBo G z.2 ∧ TMo o z.2 ∧ hpI z.2 70 13 = 0 ∧ hpI z.2 70 20 = 0) := by
  have hM := h.1.1
  have l400 := h.1.2.1.1
  have hp := h.1.2.2.2.2.2.2.2
  have h16 := h.1.2.2.2.2.2.1
  have hqp := h.2.2.2.2.2.2.2.1
  have h19 : ∀ G1 c' q' (J' : Nat → Nat × Nat) bd', MSC G1 bd' b len od p c' J' q' → Fr WMx G G1 → (∀ G2, Fr (fun a k => a == 70 && (k == 20 || k == 13)) G1 G2 → TMo o G2) → WP k_Mdl_endText_19 [some (.ref 70)] [] G1 (fun z => z.1 = none ∧ Fr WBo G z.2 ∧ TMo o z.2 ∧ hpI z.2 70 13 = 0 ∧ hpI z.2 70 20 = 0) := by
    intro G1 c' q' J' bd' h1 fr1 hT
    have hM1 := h1.1.1
    obtain ⟨G2, hG2⟩ : ∃ G2, G2 = stI (stI G1 70 20 0) 70 13 0 := ⟨_, rfl⟩
    have f2 : Fr (fun a k => a == 70 && (k == 20 || k == 13)) G1 G2 := by rw [hG2]; exact (Fr.refl.wI rfl).wI rfl
    simp only [k_Mdl_endText_19, w_iadd, w_isub, w_imul, w_iand, w_ior, w_ixor, w_ishl, w_ishr, w_iushr, w_idiv, w_irem, w_ineg, w_ladd, w_lsub, w_lmul, w_ldiv, w_lrem, w_i2l, w_l2i, w_i2c, w_lcmp, w_dup_int, w_pop_int, w_dup_ref, w_pop_ref, w_dup_retAddr, w_pop_retAddr, w_dup2, w_I, w_L, w_Null, w_Ild, w_Lld, w_Ald, w_Ist, w_Lst, w_Ast, w_Iinc, w_if_eq, w_icmp_eq, w_if_ne, w_icmp_ne, w_if_lt, w_icmp_lt, w_if_ge, w_icmp_ge, w_if_gt, w_icmp_gt, w_if_le, w_icmp_le, w_GetI, w_GetL, w_GetR, w_PutI, w_PutZ, w_PutL, w_PutR, w_PutN, w_Iald, w_Zald, w_Lald, w_Aald, w_Iast, w_Zast, w_Last, w_AastR, w_AastN, w_Alen, w_New, w_NewA, w_Mna, w_Iret, w_Zret, w_Cret, w_Bret, w_Lret, w_AretR, w_AretN, w_Vret, w_Obj, w_IfNN, w_IfNR, w_Copy, w_Cln, w_Cast, w_SfA, w_SfI, w_SfQ, w_Str, w_ScLd, w_ScLen, w_CV0, w_CS0, w_CV1, w_CS1, w_CV2, w_CS2, w_CV3, w_CS3, w_CV4, w_CS4, w_CV5, w_CS5, List.getElem?_cons_zero, List.getElem?_cons_succ, List.set_cons_zero, List.set_cons_succ, List.length_cons, List.length_nil, List.map_cons, List.map_nil, List.sum_cons, List.sum_nil, List.nil_append, List.cons_append, Option.toList_some, Option.toList_none, Value.category, xok, va_rf, true_and, and_true, and_self, Nat.reduceAdd, Nat.reduceLT, Nat.reduceLeDiff, Nat.reduceEqDiff, Nat.reduceMul, beq_self_eq_true, decide_true, ite_true, ite_false, if_true, if_false, reduceIte, Bool.true_eq_false, Bool.false_eq_true, eq_self_iff_true, Nat.zero_le, not_true_eq_false, not_false_eq_true, forall_const, false_implies, implies_true, forall_false, stI_C, stI_N, stI_Z, stI_S, stI_L, stI_R, stL_C, stL_N, stL_Z, stL_S, stL_I, stL_R, stR_C, stR_N, stR_Z, stR_S, stR_I, stR_L, stA_C, stA_N, stA_Z, stA_S, stA_L, stA_R, stI_I, stL_L, stR_R, stA_I, stN_C, stN_N, stN_Z, stN_S, stN_I, stN_L, stN_R, stI_ne, stL_ne, stR_ne, hM1.all, ← hG2, ne10, ne10L, ne01, ne01L, tt_imp, nt_imp, ff_imp, nf_imp, true_and, and_true, true_or, or_true, reduceIte]
    refine ⟨(fr1.mono (fun a k z => WMx_WRo a k (WRo_WBo a k z))).trans (f2.mono (fun a k z => ?_)), hT G2 f2, by rw [hG2, stI_up, hpI_stA, up_eq], by rw [hG2, stI_up, hpI_stA, up_ne (by decide), stI_up, hpI_stA, up_eq]⟩
    unfold WBo at z
    simp only [Bool.or_eq_false_iff] at z
    exact z.2
  have so4 : soB b len p < 4 := by
    unfold soB
    split
    · omega
    · split
      · omega
      · split <;> omega
  have g0 : (nI (soB b len p) = 0) = (soB b len p = 0) := nl_eq (b := 0) (by omega) (by omega)
  have hso : soB b len p = 0 ↔ len ≤ p := by
    unfold soB
    constructor
    · intro z
      split at z
      · assumption
      · split at z
        · cases z
        · split at z <;> cases z
    · intro z
      rw [if_pos z]
  rw [e_Mdl_endText]
  rcases ho with ⟨rfl, rfl⟩ | ⟨rfl, hpl, rfl⟩ | ⟨rfl, hpl, L, rfl, hL⟩
  · have b19 : hpI G 70 19 = 1 := h.2.2.2.1
    have b18 : hpI G 70 18 = nI p := h.2.2.2.2.1
    have := h19 G c q J true h Fr.refl (fun G2 f2 => ⟨(f2.I rfl).trans b19, (f2.I rfl).trans b18⟩)
    simp only [k_Mdl_endText_0, w_iadd, w_isub, w_imul, w_iand, w_ior, w_ixor, w_ishl, w_ishr, w_iushr, w_idiv, w_irem, w_ineg, w_ladd, w_lsub, w_lmul, w_ldiv, w_lrem, w_i2l, w_l2i, w_i2c, w_lcmp, w_dup_int, w_pop_int, w_dup_ref, w_pop_ref, w_dup_retAddr, w_pop_retAddr, w_dup2, w_I, w_L, w_Null, w_Ild, w_Lld, w_Ald, w_Ist, w_Lst, w_Ast, w_Iinc, w_if_eq, w_icmp_eq, w_if_ne, w_icmp_ne, w_if_lt, w_icmp_lt, w_if_ge, w_icmp_ge, w_if_gt, w_icmp_gt, w_if_le, w_icmp_le, w_GetI, w_GetL, w_GetR, w_PutI, w_PutZ, w_PutL, w_PutR, w_PutN, w_Iald, w_Zald, w_Lald, w_Aald, w_Iast, w_Zast, w_Last, w_AastR, w_AastN, w_Alen, w_New, w_NewA, w_Mna, w_Iret, w_Zret, w_Cret, w_Bret, w_Lret, w_AretR, w_AretN, w_Vret, w_Obj, w_IfNN, w_IfNR, w_Copy, w_Cln, w_Cast, w_SfA, w_SfI, w_SfQ, w_Str, w_ScLd, w_ScLen, w_CV0, w_CS0, w_CV1, w_CS1, w_CV2, w_CS2, w_CV3, w_CS3, w_CV4, w_CS4, w_CV5, w_CS5, List.getElem?_cons_zero, List.getElem?_cons_succ, List.set_cons_zero, List.set_cons_succ, List.length_cons, List.length_nil, List.map_cons, List.map_nil, List.sum_cons, List.sum_nil, List.nil_append, List.cons_append, Option.toList_some, Option.toList_none, Value.category, xok, va_rf, true_and, and_true, and_self, Nat.reduceAdd, Nat.reduceLT, Nat.reduceLeDiff, Nat.reduceEqDiff, Nat.reduceMul, beq_self_eq_true, decide_true, ite_true, ite_false, if_true, if_false, reduceIte, Bool.true_eq_false, Bool.false_eq_true, eq_self_iff_true, Nat.zero_le, not_true_eq_false, not_false_eq_true, forall_const, false_implies, implies_true, forall_false, hM.all, b19, ne10, ne10L, ne01, ne01L, tt_imp, nt_imp, ff_imp, nf_imp, true_and, and_true, true_or, or_true, reduceIte]
    exact this
  · have b19 : hpI G 70 19 = 0 := h.2.2.2.1
    have g0' : (soB b len p = 0) = False := eq_false (fun z => by have := hso.mp z; omega)
    simp only [k_Mdl_endText_0, w_iadd, w_isub, w_imul, w_iand, w_ior, w_ixor, w_ishl, w_ishr, w_iushr, w_idiv, w_irem, w_ineg, w_ladd, w_lsub, w_lmul, w_ldiv, w_lrem, w_i2l, w_l2i, w_i2c, w_lcmp, w_dup_int, w_pop_int, w_dup_ref, w_pop_ref, w_dup_retAddr, w_pop_retAddr, w_dup2, w_I, w_L, w_Null, w_Ild, w_Lld, w_Ald, w_Ist, w_Lst, w_Ast, w_Iinc, w_if_eq, w_icmp_eq, w_if_ne, w_icmp_ne, w_if_lt, w_icmp_lt, w_if_ge, w_icmp_ge, w_if_gt, w_icmp_gt, w_if_le, w_icmp_le, w_GetI, w_GetL, w_GetR, w_PutI, w_PutZ, w_PutL, w_PutR, w_PutN, w_Iald, w_Zald, w_Lald, w_Aald, w_Iast, w_Zast, w_Last, w_AastR, w_AastN, w_Alen, w_New, w_NewA, w_Mna, w_Iret, w_Zret, w_Cret, w_Bret, w_Lret, w_AretR, w_AretN, w_Vret, w_Obj, w_IfNN, w_IfNR, w_Copy, w_Cln, w_Cast, w_SfA, w_SfI, w_SfQ, w_Str, w_ScLd, w_ScLen, w_CV0, w_CS0, w_CV1, w_CS1, w_CV2, w_CS2, w_CV3, w_CS3, w_CV4, w_CS4, w_CV5, w_CS5, List.getElem?_cons_zero, List.getElem?_cons_succ, List.set_cons_zero, List.set_cons_succ, List.length_cons, List.length_nil, List.map_cons, List.map_nil, List.sum_cons, List.sum_nil, List.nil_append, List.cons_append, Option.toList_some, Option.toList_none, Value.category, xok, va_rf, true_and, and_true, and_self, Nat.reduceAdd, Nat.reduceLT, Nat.reduceLeDiff, Nat.reduceEqDiff, Nat.reduceMul, beq_self_eq_true, decide_true, ite_true, ite_false, if_true, if_false, reduceIte, Bool.true_eq_false, Bool.false_eq_true, eq_self_iff_true, Nat.zero_le, not_true_eq_false, not_false_eq_true, forall_const, false_implies, implies_true, forall_false, hM.all, b19, h16, g0, g0', ne10, ne10L, ne01, ne01L, tt_imp, nt_imp, ff_imp, nf_imp, true_and, and_true, true_or, or_true, reduceIte]
    refine SP.mono (s_mustC h false) ?_
    rintro ⟨v, G1⟩ ⟨rfl, fr1, h1⟩
    dsimp only at fr1 h1
    rw [if_neg Bool.false_ne_true] at h1
    simp only [Option.toList_none, List.nil_append]
    exact h19 G1 c q J true h1 fr1 (fun G2 f2 => ⟨(f2.I rfl).trans h1.2.2.2.1, (f2.I rfl).trans h1.2.2.2.2.1⟩)
  · have b19 : hpI G 70 19 = 0 := h.2.2.2.1
    have b18 : hpI G 70 18 = -1 := h.2.2.2.2.1
    have b23 := h.2.2.2.2.2.2.1
    have g0' : (soB b len p = 0) = True := eq_true (hso.mpr hpl)
    have := h19 G c q J false h Fr.refl (fun G2 f2 => by
      obtain ⟨z1, z2, J', z3, z4, z5⟩ := hL
      have hA : hpI G2 103 = hpI G 103 := f2.IA _ (fun _ => rfl)
      exact ⟨(f2.I rfl).trans b19, (f2.I rfl).trans b18, q, by omega, (f2.I rfl).trans b23, z1, (f2.I rfl).trans z2, J', fun k hk => ⟨(f2.I rfl).trans (z3 k hk).1, (f2.I rfl).trans (z3 k hk).2⟩, z4, fun i hi => by rw [hA]; exact z5 i hi⟩)
    simp only [k_Mdl_endText_0, w_iadd, w_isub, w_imul, w_iand, w_ior, w_ixor, w_ishl, w_ishr, w_iushr, w_idiv, w_irem, w_ineg, w_ladd, w_lsub, w_lmul, w_ldiv, w_lrem, w_i2l, w_l2i, w_i2c, w_lcmp, w_dup_int, w_pop_int, w_dup_ref, w_pop_ref, w_dup_retAddr, w_pop_retAddr, w_dup2, w_I, w_L, w_Null, w_Ild, w_Lld, w_Ald, w_Ist, w_Lst, w_Ast, w_Iinc, w_if_eq, w_icmp_eq, w_if_ne, w_icmp_ne, w_if_lt, w_icmp_lt, w_if_ge, w_icmp_ge, w_if_gt, w_icmp_gt, w_if_le, w_icmp_le, w_GetI, w_GetL, w_GetR, w_PutI, w_PutZ, w_PutL, w_PutR, w_PutN, w_Iald, w_Zald, w_Lald, w_Aald, w_Iast, w_Zast, w_Last, w_AastR, w_AastN, w_Alen, w_New, w_NewA, w_Mna, w_Iret, w_Zret, w_Cret, w_Bret, w_Lret, w_AretR, w_AretN, w_Vret, w_Obj, w_IfNN, w_IfNR, w_Copy, w_Cln, w_Cast, w_SfA, w_SfI, w_SfQ, w_Str, w_ScLd, w_ScLen, w_CV0, w_CS0, w_CV1, w_CS1, w_CV2, w_CS2, w_CV3, w_CS3, w_CV4, w_CS4, w_CV5, w_CS5, List.getElem?_cons_zero, List.getElem?_cons_succ, List.set_cons_zero, List.set_cons_succ, List.length_cons, List.length_nil, List.map_cons, List.map_nil, List.sum_cons, List.sum_nil, List.nil_append, List.cons_append, Option.toList_some, Option.toList_none, Value.category, xok, va_rf, true_and, and_true, and_self, Nat.reduceAdd, Nat.reduceLT, Nat.reduceLeDiff, Nat.reduceEqDiff, Nat.reduceMul, beq_self_eq_true, decide_true, ite_true, ite_false, if_true, if_false, reduceIte, Bool.true_eq_false, Bool.false_eq_true, eq_self_iff_true, Nat.zero_le, not_true_eq_false, not_false_eq_true, forall_const, false_implies, implies_true, forall_false, hM.all, b19, h16, g0, g0', ne10, ne10L, ne01, ne01L, tt_imp, nt_imp, ff_imp, nf_imp, true_and, and_true, true_or, or_true, reduceIte]
    exact this
/-- behind a clause of a law -/
def StO (b : Nat → Nat) (len : Nat) (o : Except Nat (List CLd)) (m : Nat) (G : XH) : Prop := (∃ p c J q, MSC G true b len true p c J q ∧ o = .error p) ∨ (∃ p c q J L, L.length + m = 12 ∧ MSC G false b len true p c J q ∧ hpI G 70 21 = nI L.length ∧ PWj 21 true J 0 q ∧ (∀ i, i < L.length → CMo (hpI G 103) J i (L.getD i clD) q) ∧ o = (if len ≤ p then .ok L else if isS b len 59 p then gTx b len true m (nxB b len p) c L else .error p))
/-- one more clause -/
theorem StO_s {b : Nat → Nat} {len p c q : Nat} {J : Nat → Nat × Nat} {L : List CLd} {G G' : XH} {m : Nat} {o : Except Nat (List CLd)} (hL : L.length + m = 12) (hP : PWj 21 true J 0 q) (hC : ∀ i, i < L.length → CMo (hpI G 103) J i (L.getD i clD) q) (ho : o = gTx b len true m p c L) (hR : ROr b len L.length J q (hpI G 103) (if L.length < 12 then gClause b len true p c else .error p) G') : StO b len o (m - 1) G' := by
  cases m with
  | zero =>
    rw [if_neg (by omega)] at hR
    obtain ⟨c', J', q', hR⟩ := hR
    exact Or.inl ⟨p, c', J', q', hR, ho⟩
  | succ m =>
    rw [if_pos (by omega)] at hR
    rw [gTx] at ho
    cases hg : gClause b len true p c with
    | error e =>
      rw [hg] at hR ho
      obtain ⟨c', J', q', hR⟩ := hR
      exact Or.inl ⟨e, c', J', q', hR, ho⟩
    | ok s =>
      rw [hg] at hR ho
      obtain ⟨J', q', r1, r2, r3, r4, r5, r6, r7⟩ := hR
      refine Or.inr ⟨s.1, s.2.1, q', J', L ++ [s.2.2], by rw [List.length_append, List.length_singleton]; omega, r1, by rw [r4, List.length_append, List.length_singleton], (hP.congr (fun k _ y => r2 k y)).app r7 r3, fun i hi => ?_, ho⟩
      rw [List.length_append, List.length_singleton] at hi
      rcases (show i < L.length ∨ i = L.length by omega) with y | y
      · rw [getD_app y]
        exact (hC i y).congr y (fun j hj => r5 j hj) (fun j hj => r2 j hj) r3
      · rw [y, getD_last]
        exact r6
/-- the clauses of a law -/
theorem s_ord19 {b : Nat → Nat} {len : Nat} {G0 : XH} {a1 a2 a3 : Option Value} {Q : XR → Prop} {o : Except Nat (List CLd)} (hQ : ∀ G p c J q bd, Fr WRq G0 G → MSC G bd b len true p c J q → ((bd = true ∧ o = .error p) ∨ (bd = false ∧ p < len ∧ o = .error p) ∨ (bd = false ∧ len ≤ p ∧ ∃ L, o = .ok L ∧ TMd G L q)) → WP k_Mdl_orders_46 [some (.ref 70), a1, a2, a3] [] G Q) : ∀ (m : Nat) (G : XH) (N : Nat), StO b len o m G → Fr WRq G0 G → m + 1 < N → WP (xloop f_Mdl_orders_19 N) [some (.ref 70), a1, a2, a3] [] G Q := by
  have hbad : ∀ (G : XH) (N : Nat), 1 ≤ N → Fr WRq G0 G → (∃ p c J q, MSC G true b len true p c J q ∧ o = .error p) → WP (xloop f_Mdl_orders_19 N) [some (.ref 70), a1, a2, a3] [] G Q := by
    rintro G N hN fr ⟨p, c, J, q, h, e⟩
    obtain ⟨N1, rfl⟩ : ∃ N1, N = N1 + 1 := ⟨N - 1, by omega⟩
    have hM := h.1.1
    have b19 : hpI G 70 19 = 1 := h.2.2.2.1
    have := hQ G p c J q true fr h (Or.inl ⟨rfl, e⟩)
    rw [xloop_s]
    simp only [f_Mdl_orders_19, w_iadd, w_isub, w_imul, w_iand, w_ior, w_ixor, w_ishl, w_ishr, w_iushr, w_idiv, w_irem, w_ineg, w_ladd, w_lsub, w_lmul, w_ldiv, w_lrem, w_i2l, w_l2i, w_i2c, w_lcmp, w_dup_int, w_pop_int, w_dup_ref, w_pop_ref, w_dup_retAddr, w_pop_retAddr, w_dup2, w_I, w_L, w_Null, w_Ild, w_Lld, w_Ald, w_Ist, w_Lst, w_Ast, w_Iinc, w_if_eq, w_icmp_eq, w_if_ne, w_icmp_ne, w_if_lt, w_icmp_lt, w_if_ge, w_icmp_ge, w_if_gt, w_icmp_gt, w_if_le, w_icmp_le, w_GetI, w_GetL, w_GetR, w_PutI, w_PutZ, w_PutL, w_PutR, w_PutN, w_Iald, w_Zald, w_Lald, w_Aald, w_Iast, w_Zast, w_Last, w_AastR, w_AastN, w_Alen, w_New, w_NewA, w_Mna, w_Iret, w_Zret, w_Cret, w_Bret, w_Lret, w_AretR, w_AretN, w_Vret, w_Obj, w_IfNN, w_IfNR, w_Copy, w_Cln, w_Cast, w_SfA, w_SfI, w_SfQ, w_Str, w_ScLd, w_ScLen, w_CV0, w_CS0, w_CV1, w_CS1, w_CV2, w_CS2, w_CV3, w_CS3, w_CV4, w_CS4, w_CV5, w_CS5, List.getElem?_cons_zero, List.getElem?_cons_succ, List.set_cons_zero, List.set_cons_succ, List.length_cons, List.length_nil, List.map_cons, List.map_nil, List.sum_cons, List.sum_nil, List.nil_append, List.cons_append, Option.toList_some, Option.toList_none, Value.category, xok, va_rf, true_and, and_true, and_self, Nat.reduceAdd, Nat.reduceLT, Nat.reduceLeDiff, Nat.reduceEqDiff, Nat.reduceMul, beq_self_eq_true, decide_true, ite_true, ite_false, if_true, if_false, reduceIte, Bool.true_eq_false, Bool.false_eq_true, eq_self_iff_true, Nat.zero_le, not_true_eq_false, not_false_eq_true, forall_const, false_implies, implies_true, forall_false, hM.all, b19, ne10, ne10L, ne01, ne01L, tt_imp, nt_imp, ff_imp, nf_imp, true_and, and_true, true_or, or_true, reduceIte]
    exact this
  have hone : ∀ (m : Nat) (G : XH) (N : Nat), Fr WRq G0 G → (∃ p c q J L, L.length + m = 12 ∧ MSC G false b len true p c J q ∧ hpI G 70 21 = nI L.length ∧ PWj 21 true J 0 q ∧ (∀ i, i < L.length → CMo (hpI G 103) J i (L.getD i clD) q) ∧ o = (if len ≤ p then .ok L else if isS b len 59 p then gTx b len true m (nxB b len p) c L else .error p)) → (∀ G', Fr WRq G0 G' → StO b len o (m - 1) G' → (m = 0 → ∃ p c J q, MSC G' true b len true p c J q ∧ o = .error p) → WP (xloop f_Mdl_orders_19 N) [some (.ref 70), a1, a2, a3] [] G' Q) → WP (xloop f_Mdl_orders_19 (N + 1)) [some (.ref 70), a1, a2, a3] [] G Q := by
    rintro m G N fr ⟨p, c, q, J, L, hL, h, hnc, hP, hC, ho⟩ hgo
    have hM := h.1.1
    have b19 : hpI G 70 19 = 0 := h.2.2.2.1
    have s59 : ∀ Q, SP D_Mdl_isSign [.ref 70, .int 59] G Q = Q (some (.int (if isS b len 59 p then 1 else 0)), G) := fun Q => s_isSign h.1 (c := 59) (by omega) (by omega) (by omega) Q
    rw [xloop_s]
    cases q9 : isS b len 59 p with
    | false =>
      rw [q9, if_neg (show ¬ false = true from Bool.false_ne_true)] at ho
      have : WP k_Mdl_orders_46 [some (.ref 70), a1, a2, a3] [] G Q := by
        by_cases hlp : len ≤ p
        · rw [if_pos hlp] at ho
          exact hQ G p c J q false fr h (Or.inr (Or.inr ⟨rfl, hlp, L, ho, by omega, hnc, J, h.2.2.2.2.2.2.2.2.1, hP, hC⟩))
        · rw [if_neg hlp] at ho
          exact hQ G p c J q false fr h (Or.inr (Or.inl ⟨rfl, by omega, ho⟩))
      simp only [f_Mdl_orders_19, w_iadd, w_isub, w_imul, w_iand, w_ior, w_ixor, w_ishl, w_ishr, w_iushr, w_idiv, w_irem, w_ineg, w_ladd, w_lsub, w_lmul, w_ldiv, w_lrem, w_i2l, w_l2i, w_i2c, w_lcmp, w_dup_int, w_pop_int, w_dup_ref, w_pop_ref, w_dup_retAddr, w_pop_retAddr, w_dup2, w_I, w_L, w_Null, w_Ild, w_Lld, w_Ald, w_Ist, w_Lst, w_Ast, w_Iinc, w_if_eq, w_icmp_eq, w_if_ne, w_icmp_ne, w_if_lt, w_icmp_lt, w_if_ge, w_icmp_ge, w_if_gt, w_icmp_gt, w_if_le, w_icmp_le, w_GetI, w_GetL, w_GetR, w_PutI, w_PutZ, w_PutL, w_PutR, w_PutN, w_Iald, w_Zald, w_Lald, w_Aald, w_Iast, w_Zast, w_Last, w_AastR, w_AastN, w_Alen, w_New, w_NewA, w_Mna, w_Iret, w_Zret, w_Cret, w_Bret, w_Lret, w_AretR, w_AretN, w_Vret, w_Obj, w_IfNN, w_IfNR, w_Copy, w_Cln, w_Cast, w_SfA, w_SfI, w_SfQ, w_Str, w_ScLd, w_ScLen, w_CV0, w_CS0, w_CV1, w_CS1, w_CV2, w_CS2, w_CV3, w_CS3, w_CV4, w_CS4, w_CV5, w_CS5, List.getElem?_cons_zero, List.getElem?_cons_succ, List.set_cons_zero, List.set_cons_succ, List.length_cons, List.length_nil, List.map_cons, List.map_nil, List.sum_cons, List.sum_nil, List.nil_append, List.cons_append, Option.toList_some, Option.toList_none, Value.category, xok, va_rf, true_and, and_true, and_self, Nat.reduceAdd, Nat.reduceLT, Nat.reduceLeDiff, Nat.reduceEqDiff, Nat.reduceMul, beq_self_eq_true, decide_true, ite_true, ite_false, if_true, if_false, reduceIte, Bool.true_eq_false, Bool.false_eq_true, eq_self_iff_true, Nat.zero_le, not_true_eq_false, not_false_eq_true, forall_const, false_implies, implies_true, forall_false, hM.all, b19, s59, q9, reduceIte, Bool.false_eq_true, ne10, ne10L, ne01, ne01L, tt_imp, nt_imp, ff_imp, nf_imp, true_and, and_true, true_or, or_true, reduceIte]
      exact this
    | true =>
      have hpl := isS_lt q9
      have npl := (nxB_le (b := b) (len := len) (p := p)).2 hpl
      rw [if_neg (by omega), q9, if_pos rfl] at ho
      simp only [f_Mdl_orders_19, w_iadd, w_isub, w_imul, w_iand, w_ior, w_ixor, w_ishl, w_ishr, w_iushr, w_idiv, w_irem, w_ineg, w_ladd, w_lsub, w_lmul, w_ldiv, w_lrem, w_i2l, w_l2i, w_i2c, w_lcmp, w_dup_int, w_pop_int, w_dup_ref, w_pop_ref, w_dup_retAddr, w_pop_retAddr, w_dup2, w_I, w_L, w_Null, w_Ild, w_Lld, w_Ald, w_Ist, w_Lst, w_Ast, w_Iinc, w_if_eq, w_icmp_eq, w_if_ne, w_icmp_ne, w_if_lt, w_icmp_lt, w_if_ge, w_icmp_ge, w_if_gt, w_icmp_gt, w_if_le, w_icmp_le, w_GetI, w_GetL, w_GetR, w_PutI, w_PutZ, w_PutL, w_PutR, w_PutN, w_Iald, w_Zald, w_Lald, w_Aald, w_Iast, w_Zast, w_Last, w_AastR, w_AastN, w_Alen, w_New, w_NewA, w_Mna, w_Iret, w_Zret, w_Cret, w_Bret, w_Lret, w_AretR, w_AretN, w_Vret, w_Obj, w_IfNN, w_IfNR, w_Copy, w_Cln, w_Cast, w_SfA, w_SfI, w_SfQ, w_Str, w_ScLd, w_ScLen, w_CV0, w_CS0, w_CV1, w_CS1, w_CV2, w_CS2, w_CV3, w_CS3, w_CV4, w_CS4, w_CV5, w_CS5, List.getElem?_cons_zero, List.getElem?_cons_succ, List.set_cons_zero, List.set_cons_succ, List.length_cons, List.length_nil, List.map_cons, List.map_nil, List.sum_cons, List.sum_nil, List.nil_append, List.cons_append, Option.toList_some, Option.toList_none, Value.category, xok, va_rf, true_and, and_true, and_self, Nat.reduceAdd, Nat.reduceLT, Nat.reduceLeDiff, Nat.reduceEqDiff, Nat.reduceMul, beq_self_eq_true, decide_true, ite_true, ite_false, if_true, if_false, reduceIte, Bool.true_eq_false, Bool.false_eq_true, eq_self_iff_true, Nat.zero_le, not_true_eq_false, not_false_eq_true, forall_const, false_implies, implies_true, forall_false, hM.all, b19, s59, q9, reduceIte, ne10, ne10L, ne01, ne01L, tt_imp, nt_imp, ff_imp, nf_imp, true_and, and_true, true_or, or_true, reduceIte]
      refine SP.mono (s_next h.1) ?_
      rintro ⟨v, G1⟩ ⟨rfl, fr1, hl1⟩
      dsimp only at fr1 hl1
      have h1 := h.nx fr1 hl1 (by omega)
      have hM1 := hl1.1
      have f01 : Fr WRq G0 G1 := fr.trans (fr1.mono (fun a k z => WNx_WMx a k (WMx_WRo a k z)))
      have hA : hpI G1 103 = hpI G 103 := fr1.IA _ (fun _ => rfl)
      simp only [Option.toList_none, List.nil_append, w_iadd, w_isub, w_imul, w_iand, w_ior, w_ixor, w_ishl, w_ishr, w_iushr, w_idiv, w_irem, w_ineg, w_ladd, w_lsub, w_lmul, w_ldiv, w_lrem, w_i2l, w_l2i, w_i2c, w_lcmp, w_dup_int, w_pop_int, w_dup_ref, w_pop_ref, w_dup_retAddr, w_pop_retAddr, w_dup2, w_I, w_L, w_Null, w_Ild, w_Lld, w_Ald, w_Ist, w_Lst, w_Ast, w_Iinc, w_if_eq, w_icmp_eq, w_if_ne, w_icmp_ne, w_if_lt, w_icmp_lt, w_if_ge, w_icmp_ge, w_if_gt, w_icmp_gt, w_if_le, w_icmp_le, w_GetI, w_GetL, w_GetR, w_PutI, w_PutZ, w_PutL, w_PutR, w_PutN, w_Iald, w_Zald, w_Lald, w_Aald, w_Iast, w_Zast, w_Last, w_AastR, w_AastN, w_Alen, w_New, w_NewA, w_Mna, w_Iret, w_Zret, w_Cret, w_Bret, w_Lret, w_AretR, w_AretN, w_Vret, w_Obj, w_IfNN, w_IfNR, w_Copy, w_Cln, w_Cast, w_SfA, w_SfI, w_SfQ, w_Str, w_ScLd, w_ScLen, w_CV0, w_CS0, w_CV1, w_CS1, w_CV2, w_CS2, w_CV3, w_CS3, w_CV4, w_CS4, w_CV5, w_CS5, List.getElem?_cons_zero, List.getElem?_cons_succ, List.set_cons_zero, List.set_cons_succ, List.length_cons, List.length_nil, List.map_cons, List.map_nil, List.sum_cons, List.sum_nil, List.nil_append, List.cons_append, Option.toList_some, Option.toList_none, Value.category, xok, va_rf, true_and, and_true, and_self, Nat.reduceAdd, Nat.reduceLT, Nat.reduceLeDiff, Nat.reduceEqDiff, Nat.reduceMul, beq_self_eq_true, decide_true, ite_true, ite_false, if_true, if_false, reduceIte, Bool.true_eq_false, Bool.false_eq_true, eq_self_iff_true, Nat.zero_le, not_true_eq_false, not_false_eq_true, forall_const, false_implies, implies_true, forall_false, hM1.all, ne10, ne10L, ne01, ne01L, tt_imp, nt_imp, ff_imp, nf_imp, true_and, and_true, true_or, or_true, reduceIte]
      refine SP.mono (s_readOrder h1 (by omega) ((fr1.I rfl).trans hnc)) ?_
      rintro ⟨v2, G2⟩ ⟨rfl, fr2, hR⟩
      dsimp only at fr2 hR
      simp only [Option.toList_none, List.nil_append]
      have hS := StO_s hL hP (by rw [hA]; exact hC) ho hR
      refine hgo G2 (f01.trans fr2) hS (fun hm => ?_)
      subst hm
      rw [if_neg (by omega)] at hR
      obtain ⟨c', J', q', hR⟩ := hR
      exact ⟨_, c', J', q', hR, ho⟩
  intro m
  induction m with
  | zero =>
    intro G N hS fr hN
    rcases hS with hS | hS
    · exact hbad G N (by omega) fr hS
    · obtain ⟨N1, rfl⟩ : ∃ N1, N = N1 + 1 := ⟨N - 1, by omega⟩
      exact hone 0 G N1 fr hS (fun G' f' _ hb => hbad G' N1 (by omega) f' (hb rfl))
  | succ m ih =>
    intro G N hS fr hN
    rcases hS with hS | hS
    · exact hbad G N (by omega) fr hS
    · obtain ⟨N1, rfl⟩ : ∃ N1, N = N1 + 1 := ⟨N - 1, by omega⟩
      exact hone (m + 1) G N1 fr hS (fun G' f' hs _ => ih G' N1 hs f' (by omega))
