/-- a new array in a field -/
def aN (G : XH) (w k n i : Nat) : XH := stR (stN G k n) w i (some (hpZ G))
theorem aN_Z {G : XH} {w k n i : Nat} : hpZ (aN G w k n i) = hpZ G + 1 := rfl
theorem aN_S {G : XH} {w k n i : Nat} : hpS (aN G w k n i) = hpS G + n := rfl
theorem aN_C {G : XH} {w k n i : Nat} : hpC (aN G w k n i) (hpZ G) = k := sN_C (n := n)
theorem aN_N {G : XH} {w k n i : Nat} : hpN (aN G w k n i) (hpZ G) = n := sN_N (c := k)
theorem aN_Cn {G : XH} {w k n i a : Nat} (h : ¬ a = hpZ G) : hpC (aN G w k n i) a = hpC G a := sN_Cn (n := n) h
theorem aN_Nn {G : XH} {w k n i a : Nat} (h : ¬ a = hpZ G) : hpN (aN G w k n i) a = hpN G a := sN_Nn (c := k) h
theorem aN_R {G : XH} {w k n i : Nat} : hpR (aN G w k n i) w i = some (hpZ G) := sR_eq
theorem sN_Rn {G : XH} {c n a : Nat} (h : ¬ a = hpZ G) : hpR (stN G c n) a = hpR G a := by show up1 (hpR G) (hpZ G) (fun _ => none) a = _; unfold up1; rw [if_neg h]
theorem sN_R {G : XH} {c n k : Nat} : hpR (stN G c n) (hpZ G) k = none := by show up1 (hpR G) (hpZ G) (fun _ => none) (hpZ G) k = _; unfold up1; rw [if_pos rfl]
theorem sN_I {G : XH} {c n k : Nat} : hpI (stN G c n) (hpZ G) k = 0 := by show up1 (hpI G) (hpZ G) (fun _ => 0) (hpZ G) k = _; unfold up1; rw [if_pos rfl]
theorem aN_Rn {G : XH} {w k n i a j : Nat} (h : ¬ a = hpZ G) (h2 : ¬ (a = w ∧ j = i)) : hpR (aN G w k n i) a j = hpR G a j := by
  unfold aN
  rw [sR_ne h2, sN_Rn h]
theorem aN_Rz {G : XH} {w k n i j : Nat} (h : ¬ hpZ G = w) : hpR (aN G w k n i) (hpZ G) j = none := by
  unfold aN
  rw [sR_ne (by omega), sN_R]
theorem aN_I {G : XH} {w k n i j : Nat} : hpI (aN G w k n i) (hpZ G) j = 0 := sN_I (c := k) (n := n)
theorem aN_In {G : XH} {w k n i a : Nat} (h : ¬ a = hpZ G) : hpI (aN G w k n i) a = hpI G a := sN_In (c := k) (n := n) h
theorem aN_fx {G : XH} {w k n i : Nat} : Fx (fun _ _ => false) (WTt w) G (aN G w k n i) := (Fx.refl.nN).nR (Or.inr (by unfold WTt; simp))
theorem an_new {G : XH} {w k n i c : Nat} {K : XK} {x : Int32} {LO : List (Option Value)} {Q : XR → Prop} (hw : hpC G w = c) (hwz : w < hpZ G) (hx : x = nI n) (hn : n ≤ 10000) : WP (xAld 0 (xI x (xNewA k (xPutR c i K)))) (some (.ref w) :: LO) [] G Q = WP K (some (.ref w) :: LO) [] (aN G w k n i) Q := by
  subst hx
  have p1 : 0 ≤ nI n := nI_pos' (by omega)
  have c1 : (nI n).toNatClampNeg = n := nI_clamp (by omega)
  have l1 : (n ≤ 100000) = True := eq_true (by omega)
  have hc : hpC (stN G k n) w = c := (sN_Cn (by omega)).trans hw
  obtain ⟨G1, hG1⟩ : ∃ G1, G1 = stN G k n := ⟨_, rfl⟩
  rw [← hG1] at hc
  simp only [w_iadd, w_isub, w_imul, w_iand, w_ior, w_ixor, w_ishl, w_ishr, w_iushr, w_idiv, w_irem, w_ineg, w_ladd, w_lsub, w_lmul, w_ldiv, w_lrem, w_i2l, w_l2i, w_i2c, w_lcmp, w_dup_int, w_pop_int, w_dup_ref, w_pop_ref, w_dup_retAddr, w_pop_retAddr, w_dup2, w_I, w_L, w_Null, w_Ild, w_Lld, w_Ald, w_Ist, w_Lst, w_Ast, w_Iinc, w_if_eq, w_icmp_eq, w_if_ne, w_icmp_ne, w_if_lt, w_icmp_lt, w_if_ge, w_icmp_ge, w_if_gt, w_icmp_gt, w_if_le, w_icmp_le, w_GetI, w_GetL, w_GetR, w_PutI, w_PutZ, w_PutL, w_PutR, w_PutN, w_Iald, w_Zald, w_Lald, w_Aald, w_Iast, w_Zast, w_Last, w_AastR, w_AastN, w_Alen, w_New, w_NewA, w_Mna, w_Iret, w_Zret, w_Cret, w_Bret, w_Lret, w_AretR, w_AretN, w_Vret, w_Obj, w_IfNN, w_IfNR, w_Copy, w_Cln, w_Cast, w_SfA, w_SfI, w_SfQ, w_Str, w_ScLd, w_ScLen, w_CV0, w_CS0, w_CV1, w_CS1, w_CV2, w_CS2, w_CV3, w_CS3, w_CV4, w_CS4, w_CV5, w_CS5, List.getElem?_cons_zero, List.getElem?_cons_succ, List.set_cons_zero, List.set_cons_succ, List.length_cons, List.length_nil, List.map_cons, List.map_nil, List.sum_cons, List.sum_nil, List.nil_append, List.cons_append, Option.toList_some, Option.toList_none, Value.category, xok, va_rf, true_and, and_true, and_self, Nat.reduceAdd, Nat.reduceLT, Nat.reduceLeDiff, Nat.reduceEqDiff, Nat.reduceMul, beq_self_eq_true, decide_true, ite_true, ite_false, if_true, if_false, reduceIte, Bool.true_eq_false, Bool.false_eq_true, eq_self_iff_true, Nat.zero_le, not_true_eq_false, not_false_eq_true, forall_const, false_implies, implies_true, forall_false, p1, c1, l1, ← hG1, hc, ne10, ne10L, ne01, ne01L, tt_imp, nt_imp, ff_imp, nf_imp, true_and, and_true, true_or, or_true, reduceIte]
  unfold aN
  rw [hG1]
theorem an_obj {G : XH} {w : Nat} {K : XK} {LO : List (Option Value)} {Q : XR → Prop} : WP (xAld 0 (xObj K)) (some (.ref w) :: LO) [] G Q = WP K (some (.ref w) :: LO) [] G Q := by
  simp only [w_iadd, w_isub, w_imul, w_iand, w_ior, w_ixor, w_ishl, w_ishr, w_iushr, w_idiv, w_irem, w_ineg, w_ladd, w_lsub, w_lmul, w_ldiv, w_lrem, w_i2l, w_l2i, w_i2c, w_lcmp, w_dup_int, w_pop_int, w_dup_ref, w_pop_ref, w_dup_retAddr, w_pop_retAddr, w_dup2, w_I, w_L, w_Null, w_Ild, w_Lld, w_Ald, w_Ist, w_Lst, w_Ast, w_Iinc, w_if_eq, w_icmp_eq, w_if_ne, w_icmp_ne, w_if_lt, w_icmp_lt, w_if_ge, w_icmp_ge, w_if_gt, w_icmp_gt, w_if_le, w_icmp_le, w_GetI, w_GetL, w_GetR, w_PutI, w_PutZ, w_PutL, w_PutR, w_PutN, w_Iald, w_Zald, w_Lald, w_Aald, w_Iast, w_Zast, w_Last, w_AastR, w_AastN, w_Alen, w_New, w_NewA, w_Mna, w_Iret, w_Zret, w_Cret, w_Bret, w_Lret, w_AretR, w_AretN, w_Vret, w_Obj, w_IfNN, w_IfNR, w_Copy, w_Cln, w_Cast, w_SfA, w_SfI, w_SfQ, w_Str, w_ScLd, w_ScLen, w_CV0, w_CS0, w_CV1, w_CS1, w_CV2, w_CS2, w_CV3, w_CS3, w_CV4, w_CS4, w_CV5, w_CS5, List.getElem?_cons_zero, List.getElem?_cons_succ, List.set_cons_zero, List.set_cons_succ, List.length_cons, List.length_nil, List.map_cons, List.map_nil, List.sum_cons, List.sum_nil, List.nil_append, List.cons_append, Option.toList_some, Option.toList_none, Value.category, xok, va_rf, true_and, and_true, and_self, Nat.reduceAdd, Nat.reduceLT, Nat.reduceLeDiff, Nat.reduceEqDiff, Nat.reduceMul, beq_self_eq_true, decide_true, ite_true, ite_false, if_true, if_false, reduceIte, Bool.true_eq_false, Bool.false_eq_true, eq_self_iff_true, Nat.zero_le, not_true_eq_false, not_false_eq_true, forall_const, false_implies, implies_true, forall_false, ne10, ne10L, ne01, ne01L, tt_imp, nt_imp, ff_imp, nf_imp, true_and, and_true, true_or, or_true, reduceIte]
theorem c_winit {G : XH} {w : Nat} (hw : hpC G w = 0) (hz : hpZ G = w + 1) : SP D_World_init [.ref w] G (fun z => z.1 = none ∧ hpZ z.2 = w + 6 ∧ hpS z.2 = hpS G + 176 ∧ WLD z.2 w ∧ (∀ k, hpR z.2 (w + 5) k = none) ∧ Fx (WTt w) (WTt w) G z.2 ∧ hpI z.2 w = up (hpI G w) 7 (-1) ∧ hpI z.2 (w + 1) = up (fun _ => 0) 1 10 ∧ (∀ j, j < 8 → hpI z.2 (w + 4) j = -1) ∧ (∀ j, hpI z.2 (w + 2) j = 0) ∧ ∀ j, hpI z.2 (w + 3) j = 0) := by
  obtain ⟨P, hP⟩ : ∃ P : XR → Prop, P = (fun z => z.1 = none ∧ hpZ z.2 = w + 6 ∧ hpS z.2 = hpS G + 176 ∧ WLD z.2 w ∧ (∀ k, hpR z.2 (w + 5) k = none) ∧ Fx (WTt w) (WTt w) G z.2 ∧ hpI z.2 w = up (hpI G w) 7 (-1) ∧ hpI z.2 (w + 1) = up (fun _ => 0) 1 10 ∧ (∀ j, j < 8 → hpI z.2 (w + 4) j = -1) ∧ (∀ j, hpI z.2 (w + 2) j = 0) ∧ ∀ j, hpI z.2 (w + 3) j = 0) := ⟨_, rfl⟩
  obtain ⟨G1, hG1⟩ : ∃ G1, G1 = aN G w 20 138 0 := ⟨_, rfl⟩
  have Z1 : hpZ G1 = w + 2 := by rw [hG1, aN_Z, hz]
  have w1 : hpC G1 w = 0 := by rw [hG1, aN_Cn (by omega)]; exact hw
  obtain ⟨G2, hG2⟩ : ∃ G2, G2 = aN G1 w 20 12 1 := ⟨_, rfl⟩
  have Z2 : hpZ G2 = w + 3 := by rw [hG2, aN_Z, Z1]
  have w2 : hpC G2 w = 0 := by rw [hG2, aN_Cn (by omega)]; exact w1
  obtain ⟨G3, hG3⟩ : ∃ G3, G3 = aN G2 w 20 12 2 := ⟨_, rfl⟩
  have Z3 : hpZ G3 = w + 4 := by rw [hG3, aN_Z, Z2]
  have w3 : hpC G3 w = 0 := by rw [hG3, aN_Cn (by omega)]; exact w2
  obtain ⟨G4, hG4⟩ : ∃ G4, G4 = aN G3 w 20 8 3 := ⟨_, rfl⟩
  have Z4 : hpZ G4 = w + 5 := by rw [hG4, aN_Z, Z3]
  have w4 : hpC G4 w = 0 := by rw [hG4, aN_Cn (by omega)]; exact w3
  obtain ⟨G5, hG5⟩ : ∃ G5, G5 = aN G4 w 25 6 4 := ⟨_, rfl⟩
  have Z5 : hpZ G5 = w + 6 := by rw [hG5, aN_Z, Z4]
  have w5 : hpC G5 w = 0 := by rw [hG5, aN_Cn (by omega)]; exact w4
  have S5 : hpS G5 = hpS G + 176 := by rw [hG5, aN_S, hG4, aN_S, hG3, aN_S, hG2, aN_S, hG1, aN_S]
  have x5 : Fx (WTt w) (WTt w) G G5 := by
    have m : ∀ {A B : XH}, Fx (fun _ _ => false) (WTt w) A B → Fx (WTt w) (WTt w) A B := fun h => h.mono (fun _ _ _ => rfl) (fun _ _ z => z)
    have y1 := m (aN_fx (G := G) (w := w) (k := 20) (n := 138) (i := 0))
    have y2 := m (aN_fx (G := G1) (w := w) (k := 20) (n := 12) (i := 1))
    have y3 := m (aN_fx (G := G2) (w := w) (k := 20) (n := 12) (i := 2))
    have y4 := m (aN_fx (G := G3) (w := w) (k := 20) (n := 8) (i := 3))
    have y5 := m (aN_fx (G := G4) (w := w) (k := 25) (n := 6) (i := 4))
    rw [← hG1] at y1
    rw [← hG2] at y2
    rw [← hG3] at y3
    rw [← hG4] at y4
    rw [← hG5] at y5
    exact (((y1.trans y2).trans y3).trans y4).trans y5
  have hWL : WLD G5 w := by
    refine ⟨w5, ?_, ?_, ?_, ?_, ?_, ?_, ?_, ?_, ?_, ?_, ?_, ?_, ?_, ?_, ?_⟩
    · rw [hG5, aN_Rn (by omega) (by omega), hG4, aN_Rn (by omega) (by omega), hG3, aN_Rn (by omega) (by omega), hG2, aN_Rn (by omega) (by omega), hG1, aN_R, hz]
    · rw [hG5, aN_Rn (by omega) (by omega), hG4, aN_Rn (by omega) (by omega), hG3, aN_Rn (by omega) (by omega), hG2, aN_R, Z1]
    · rw [hG5, aN_Rn (by omega) (by omega), hG4, aN_Rn (by omega) (by omega), hG3, aN_R, Z2]
    · rw [hG5, aN_Rn (by omega) (by omega), hG4, aN_R, Z3]
    · rw [hG5, aN_R, Z4]
    · rw [hG5, aN_Cn (by omega), hG4, aN_Cn (by omega), hG3, aN_Cn (by omega), hG2, aN_Cn (by omega), hG1, ← hz, aN_C]
    · rw [hG5, aN_Cn (by omega), hG4, aN_Cn (by omega), hG3, aN_Cn (by omega), hG2, ← Z1, aN_C]
    · rw [hG5, aN_Cn (by omega), hG4, aN_Cn (by omega), hG3, ← Z2, aN_C]
    · rw [hG5, aN_Cn (by omega), hG4, ← Z3, aN_C]
    · rw [hG5, ← Z4, aN_C]
    · rw [hG5, aN_Nn (by omega), hG4, aN_Nn (by omega), hG3, aN_Nn (by omega), hG2, aN_Nn (by omega), hG1, ← hz, aN_N]
    · rw [hG5, aN_Nn (by omega), hG4, aN_Nn (by omega), hG3, aN_Nn (by omega), hG2, ← Z1, aN_N]
    · rw [hG5, aN_Nn (by omega), hG4, aN_Nn (by omega), hG3, ← Z2, aN_N]
    · rw [hG5, aN_Nn (by omega), hG4, ← Z3, aN_N]
    · rw [hG5, ← Z4, aN_N]
  obtain ⟨b0, b1, b2, b3, b4, b5, c1, c2, c3, c4, c5, n1, n2, n3, n4, n5⟩ := hWL
  have i1 : ∀ j, hpI G5 (w + 1) j = 0 := fun j => by rw [hG5, aN_In (by omega), hG4, aN_In (by omega), hG3, aN_In (by omega), hG2, aN_In (by omega), hG1, ← hz, aN_I]
  have i2 : ∀ j, hpI G5 (w + 2) j = 0 := fun j => by rw [hG5, aN_In (by omega), hG4, aN_In (by omega), hG3, aN_In (by omega), hG2, ← Z1, aN_I]
  have i3 : ∀ j, hpI G5 (w + 3) j = 0 := fun j => by rw [hG5, aN_In (by omega), hG4, aN_In (by omega), hG3, ← Z2, aN_I]
  have i0 : hpI G5 w = hpI G w := by rw [hG5, aN_In (by omega), hG4, aN_In (by omega), hG3, aN_In (by omega), hG2, aN_In (by omega), hG1, aN_In (by omega)]
  have r5 : ∀ k, hpR G5 (w + 5) k = none := fun k => by rw [hG5, ← Z4]; exact aN_Rz (by omega)
  obtain ⟨m, hm⟩ : ∃ m : Int32, m = -1 := ⟨_, rfl⟩
  obtain ⟨G6, hG6⟩ : ∃ G6, G6 = stI G5 w 7 m := ⟨_, rfl⟩
  have C6 : ∀ a, hpC G6 a = hpC G5 a := fun a => by rw [hG6]; rfl
  have N6 : ∀ a, hpN G6 a = hpN G5 a := fun a => by rw [hG6]; rfl
  have R6 : ∀ a k, hpR G6 a k = hpR G5 a k := fun a k => by rw [hG6]; rfl
  obtain ⟨G7, hG7⟩ : ∃ G7, G7 = stI G6 (w + 1) 1 10 := ⟨_, rfl⟩
  have C7 : ∀ a, hpC G7 a = hpC G5 a := fun a => by rw [hG7, hG6]; rfl
  have N7 : ∀ a, hpN G7 a = hpN G5 a := fun a => by rw [hG7, hG6]; rfl
  have R7 : ∀ a k, hpR G7 a k = hpR G5 a k := fun a k => by rw [hG7, hG6]; rfl
  have h5 : WP (xAld 0 (xI m (xPutI 0 7 (xAld 0 (xGetR 0 0 (xI 1 (xI 10 (xIasth (xAld 0 (xGetR 0 3 (xI m (xCallS 2 D_Arrays_fill (xVret ()))))))))))))) [some (.ref w)] [] G5 P := by
    simp only [w_iadd, w_isub, w_imul, w_iand, w_ior, w_ixor, w_ishl, w_ishr, w_iushr, w_idiv, w_irem, w_ineg, w_ladd, w_lsub, w_lmul, w_ldiv, w_lrem, w_i2l, w_l2i, w_i2c, w_lcmp, w_dup_int, w_pop_int, w_dup_ref, w_pop_ref, w_dup_retAddr, w_pop_retAddr, w_dup2, w_I, w_L, w_Null, w_Ild, w_Lld, w_Ald, w_Ist, w_Lst, w_Ast, w_Iinc, w_if_eq, w_icmp_eq, w_if_ne, w_icmp_ne, w_if_lt, w_icmp_lt, w_if_ge, w_icmp_ge, w_if_gt, w_icmp_gt, w_if_le, w_icmp_le, w_GetI, w_GetL, w_GetR, w_PutI, w_PutZ, w_PutL, w_PutR, w_PutN, w_Iald, w_Zald, w_Lald, w_Aald, w_Iast, w_Zast, w_Last, w_AastR, w_AastN, w_Alen, w_New, w_NewA, w_Mna, w_Iret, w_Zret, w_Cret, w_Bret, w_Lret, w_AretR, w_AretN, w_Vret, w_Obj, w_IfNN, w_IfNR, w_Copy, w_Cln, w_Cast, w_SfA, w_SfI, w_SfQ, w_Str, w_ScLd, w_ScLen, w_CV0, w_CS0, w_CV1, w_CS1, w_CV2, w_CS2, w_CV3, w_CS3, w_CV4, w_CS4, w_CV5, w_CS5, List.getElem?_cons_zero, List.getElem?_cons_succ, List.set_cons_zero, List.set_cons_succ, List.length_cons, List.length_nil, List.map_cons, List.map_nil, List.sum_cons, List.sum_nil, List.nil_append, List.cons_append, Option.toList_some, Option.toList_none, Value.category, xok, va_rf, true_and, and_true, and_self, Nat.reduceAdd, Nat.reduceLT, Nat.reduceLeDiff, Nat.reduceEqDiff, Nat.reduceMul, beq_self_eq_true, decide_true, ite_true, ite_false, if_true, if_false, reduceIte, Bool.true_eq_false, Bool.false_eq_true, eq_self_iff_true, Nat.zero_le, not_true_eq_false, not_false_eq_true, forall_const, false_implies, implies_true, forall_false, tn_0, tn_1, tn_2, tn_3, tn_4, tn_5, tn_6, tn_7, tn_8, tn_9, tn_10, tn_11, tn_12, tn_13, tn_14, tn_15, tn_16, tn_17, tn_18, tn_19, tn_20, tn_21, tn_22, tn_23, tn_24, tn_25, tn_26, tn_27, tn_28, tn_29, tn_30, tn_31, tn_32, tn_33, tn_34, tn_35, tn_36, tn_37, tn_38, tn_39, tn_40, tn_41, tn_42, tn_43, tn_44, tn_45, tn_46, tn_47, tn_48, tn_49, tn_50, tn_51, tn_52, tn_53, tn_54, tn_55, tn_56, tn_57, tn_58, tn_59, tn_60, tn_61, tn_62, tn_63, tn_64, tn_65, tn_66, tn_67, tn_68, tn_69, tn_70, tn_71, tn_72, tn_73, tn_74, tn_75, tn_76, tn_77, tn_78, tn_79, tn_80, tn_81, tn_82, tn_83, tn_84, tn_85, tn_86, tn_87, tn_88, tn_89, tn_90, tn_91, tn_92, tn_93, tn_94, tn_95, tn_96, tn_97, tn_98, tn_99, tn_100, tn_101, tn_102, tn_103, tn_104, tn_105, tn_106, tn_107, tn_108, tn_109, tn_110, tn_111, tn_112, tn_113, tn_114, tn_115, tn_116, tn_117, tn_118, tn_119, tn_120, tn_121, tn_122, tn_123, tn_124, tn_125, tn_126, tn_127, tn_128, tn_129, tn_130, tn_131, tn_132, tn_133, tn_134, tn_135, tn_136, tn_137, tn_138, tn_139, tn_140, tn_141, tn_142, tn_143, tn_144, tn_145, tn_146, tn_147, tn_148, tn_149, tn_150, tn_151, tn_152, tn_153, tn_154, tn_155, tn_156, tn_157, tn_158, tn_159, tn_160, tn_161, tn_162, tn_163, tn_164, tn_165, tn_166, tn_167, tn_168, tn_169, tn_170, tn_171, tn_172, tn_173, tn_174, tn_175, tn_176, tn_177, tn_178, tn_179, tn_180, tn_181, tn_182, tn_183, tn_184, tn_185, tn_186, tn_187, tn_188, tn_189, tn_190, tn_191, tn_192, tn_193, tn_194, tn_195, tn_196, tn_197, tn_198, tn_199, tn_255, tn_256, tn_300, tn_399, tn_400, tn_500, tn_900, tn_999, tn_1000, tn_1001, tn_1024, tn_2048, tn_2176, tn_3536, tn_4095, tn_4096, tn_5580, tn_11160, tn_12345, tn_1103, tn_99999, tn_1000000, tn_1000003, tn_100000000, tn_1000000000, ge0_0, ge0_1, ge0_2, ge0_3, ge0_4, ge0_5, ge0_6, ge0_7, ge0_8, ge0_9, ge0_10, ge0_11, ge0_12, ge0_13, ge0_14, ge0_15, ge0_16, ge0_17, ge0_18, ge0_19, ge0_20, ge0_21, ge0_22, ge0_23, ge0_24, ge0_25, ge0_26, ge0_27, ge0_28, ge0_29, ge0_30, ge0_31, ge0_32, ge0_33, ge0_34, ge0_35, ge0_36, ge0_37, ge0_38, ge0_39, ge0_40, ge0_41, ge0_42, ge0_43, ge0_44, ge0_45, ge0_46, ge0_47, ge0_48, ge0_49, ge0_50, ge0_51, ge0_52, ge0_53, ge0_54, ge0_55, ge0_56, ge0_57, ge0_58, ge0_59, ge0_60, ge0_61, ge0_62, ge0_63, ge0_64, ge0_65, ge0_66, ge0_67, ge0_68, ge0_69, ge0_70, ge0_71, ge0_72, ge0_73, ge0_74, ge0_75, ge0_76, ge0_77, ge0_78, ge0_79, ge0_80, ge0_81, ge0_82, ge0_83, ge0_84, ge0_85, ge0_86, ge0_87, ge0_88, ge0_89, ge0_90, ge0_91, ge0_92, ge0_93, ge0_94, ge0_95, ge0_96, ge0_97, ge0_98, ge0_99, ge0_100, ge0_101, ge0_102, ge0_103, ge0_104, ge0_105, ge0_106, ge0_107, ge0_108, ge0_109, ge0_110, ge0_111, ge0_112, ge0_113, ge0_114, ge0_115, ge0_116, ge0_117, ge0_118, ge0_119, ge0_120, ge0_121, ge0_122, ge0_123, ge0_124, ge0_125, ge0_126, ge0_127, ge0_128, ge0_129, ge0_130, ge0_131, ge0_132, ge0_133, ge0_134, ge0_135, ge0_136, ge0_137, ge0_138, ge0_139, ge0_140, ge0_141, ge0_142, ge0_143, ge0_144, ge0_145, ge0_146, ge0_147, ge0_148, ge0_149, ge0_150, ge0_151, ge0_152, ge0_153, ge0_154, ge0_155, ge0_156, ge0_157, ge0_158, ge0_159, ge0_160, ge0_161, ge0_162, ge0_163, ge0_164, ge0_165, ge0_166, ge0_167, ge0_168, ge0_169, ge0_170, ge0_171, ge0_172, ge0_173, ge0_174, ge0_175, ge0_176, ge0_177, ge0_178, ge0_179, ge0_180, ge0_181, ge0_182, ge0_183, ge0_184, ge0_185, ge0_186, ge0_187, ge0_188, ge0_189, ge0_190, ge0_191, ge0_192, ge0_193, ge0_194, ge0_195, ge0_196, ge0_197, ge0_198, ge0_199, ge0_255, ge0_256, ge0_300, ge0_399, ge0_400, ge0_500, ge0_900, ge0_999, ge0_1000, ge0_1001, ge0_1024, ge0_2048, ge0_2176, ge0_3536, ge0_4095, ge0_4096, ge0_5580, ge0_11160, ge0_12345, ge0_1103, ge0_99999, ge0_1000000, ge0_1000003, ge0_100000000, ge0_1000000000, b0, ← hG6, C6, N6, R6, b1, b4, c1, n1, xin, ← hG7, C7, R7, b0, ne10, ne10L, ne01, ne01L, tt_imp, nt_imp, ff_imp, nf_imp, true_and, and_true, true_or, or_true, reduceIte]
    refine SP.mono (c_fill (G := G7) (a := w + 4) (n := 8) (by rw [C7]; exact c4) (by rw [N7]; exact n4) (by omega) m) ?_
    rintro ⟨v, G8⟩ ⟨rfl, f, e8, f1', f2⟩
    dsimp only at e8
    simp only [Option.toList_none, List.nil_append, w_iadd, w_isub, w_imul, w_iand, w_ior, w_ixor, w_ishl, w_ishr, w_iushr, w_idiv, w_irem, w_ineg, w_ladd, w_lsub, w_lmul, w_ldiv, w_lrem, w_i2l, w_l2i, w_i2c, w_lcmp, w_dup_int, w_pop_int, w_dup_ref, w_pop_ref, w_dup_retAddr, w_pop_retAddr, w_dup2, w_I, w_L, w_Null, w_Ild, w_Lld, w_Ald, w_Ist, w_Lst, w_Ast, w_Iinc, w_if_eq, w_icmp_eq, w_if_ne, w_icmp_ne, w_if_lt, w_icmp_lt, w_if_ge, w_icmp_ge, w_if_gt, w_icmp_gt, w_if_le, w_icmp_le, w_GetI, w_GetL, w_GetR, w_PutI, w_PutZ, w_PutL, w_PutR, w_PutN, w_Iald, w_Zald, w_Lald, w_Aald, w_Iast, w_Zast, w_Last, w_AastR, w_AastN, w_Alen, w_New, w_NewA, w_Mna, w_Iret, w_Zret, w_Cret, w_Bret, w_Lret, w_AretR, w_AretN, w_Vret, w_Obj, w_IfNN, w_IfNR, w_Copy, w_Cln, w_Cast, w_SfA, w_SfI, w_SfQ, w_Str, w_ScLd, w_ScLen, w_CV0, w_CS0, w_CV1, w_CS1, w_CV2, w_CS2, w_CV3, w_CS3, w_CV4, w_CS4, w_CV5, w_CS5, ne10, ne10L, ne01, ne01L, tt_imp, nt_imp, ff_imp, nf_imp, true_and, and_true, true_or, or_true, reduceIte]
    rw [hP, e8]
    have I8 : ∀ a, ¬ a = w + 4 → hpI (stA G7 (w + 4) f) a = hpI G7 a := fun a ha => hpI_stA_ne ha
    refine ⟨rfl, ?_, ?_, ⟨?_, ?_, ?_, ?_, ?_, ?_, ?_, ?_, ?_, ?_, ?_, ?_, ?_, ?_, ?_, ?_⟩, fun k => ?_, ?_, ?_, ?_, fun j hj => ?_, fun j => ?_, fun j => ?_⟩
    · rw [hG7, hG6]; exact Z5
    · rw [hG7, hG6]; exact S5
    · exact (C7 _).trans b0
    · exact (R7 _ _).trans b1
    · exact (R7 _ _).trans b2
    · exact (R7 _ _).trans b3
    · exact (R7 _ _).trans b4
    · exact (R7 _ _).trans b5
    · exact (C7 _).trans c1
    · exact (C7 _).trans c2
    · exact (C7 _).trans c3
    · exact (C7 _).trans c4
    · exact (C7 _).trans c5
    · exact (N7 _).trans n1
    · exact (N7 _).trans n2
    · exact (N7 _).trans n3
    · exact (N7 _).trans n4
    · exact (N7 _).trans n5
    · exact (R7 _ _).trans (r5 k)
    · rw [hG7, hG6]
      exact ((x5.wI (by unfold WTt; simp)).nI (by omega)).nA (by omega)
    · rw [I8 _ (by omega), hG7, stI_up, hpI_stA_ne (by omega), hG6, stI_up, hpI_stA, i0, hm]
    · rw [I8 _ (by omega), hG7, stI_up, hpI_stA, hG6, stI_up, hpI_stA_ne (by omega), show hpI G5 (w + 1) = fun _ => 0 from funext i1]
    · rw [hpI_stA, f1' j hj, hm]
    · rw [I8 _ (by omega), hG7, stI_up, hpI_stA_ne (by omega), hG6, stI_up, hpI_stA_ne (by omega)]; exact i2 j
    · rw [I8 _ (by omega), hG7, stI_up, hpI_stA_ne (by omega), hG6, stI_up, hpI_stA_ne (by omega)]; exact i3 j
  obtain ⟨X, hX⟩ : ∃ X : XK, X = (xAld 0 (xI m (xPutI 0 7 (xAld 0 (xGetR 0 0 (xI 1 (xI 10 (xIasth (xAld 0 (xGetR 0 3 (xI m (xCallS 2 D_Arrays_fill (xVret ()))))))))))))) := ⟨_, rfl⟩
  rw [← hX] at h5
  rw [e_World_init, ← hP, show k_World_init_0 = (xAld 0 (xObj (xAld 0 (xI 138 (xNewA 20 (xPutR 0 0 (xAld 0 (xI 12 (xNewA 20 (xPutR 0 1 (xAld 0 (xI 12 (xNewA 20 (xPutR 0 2 (xAld 0 (xI 8 (xNewA 20 (xPutR 0 3 (xAld 0 (xI 6 (xNewA 25 (xPutR 0 4 X)))))))))))))))))))))) by rw [hX, hm]; rfl]
  rw [an_obj, an_new (x := 138) (n := 138) hw (by omega) rfl (by omega), ← hG1, an_new (x := 12) (n := 12) w1 (by omega) rfl (by omega), ← hG2, an_new (x := 12) (n := 12) w2 (by omega) rfl (by omega), ← hG3, an_new (x := 8) (n := 8) w3 (by omega) rfl (by omega), ← hG4, an_new (x := 6) (n := 6) w4 (by omega) rfl (by omega), ← hG5]
  exact h5
