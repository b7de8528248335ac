theorem CS.wld {G : XH} (hC : CS G) : WLD G 1 := by
  refine ⟨?_, ?_, ?_, ?_, ?_, ?_, ?_, ?_, ?_, ?_, ?_, ?_, ?_, ?_, ?_, ?_⟩
  all_goals (simp only [hC.all])
def Wi (w : Nat) : Nat → Nat → Bool := fun a j => Wim w a j || (a == 0 && j == 16)
def Vi (w k : Nat) : Nat → Nat → Bool := fun a j => Vim w a j || (a == 7 && j == k)
theorem Vi_VOk {w k : Nat} (h : 105 ≤ w) : VOk (Vi w k) := fun a j ha hn => by
  unfold Vi
  rw [Vim_out (by omega)]
  have : ¬ a = 7 := hn.2.1
  simp [this]
/-- a World was taken over -/
def WCp (G G' : XH) (w v : Nat) : Prop := (∀ j, j < 138 → hpI G' (w + 1) j = hpI G (v + 1) j) ∧ (∀ j, j < 12 → hpI G' (w + 2) j = hpI G (v + 2) j) ∧ (∀ j, j < 12 → hpI G' (w + 3) j = hpI G (v + 3) j) ∧ (∀ j, j < 8 → hpI G' (w + 4) j = hpI G (v + 4) j) ∧ (∀ k, k < 6 → hpR G' (w + 5) k = hpR G (v + 5) k) ∧ hpI G' w 5 = hpI G v 5 ∧ hpI G' w 6 = hpI G v 6 ∧ hpI G' w 7 = hpI G v 7
/-- what keeping an image leaves in the class -/
def ImQ (G : XH) (k w : Nat) (z : XR) : Prop := z.1 = some (.int 0) ∧ hpZ z.2 ≤ hpZ G + 6 ∧ hpS z.2 ≤ hpS G + 184 ∧ Fx (Wi w) (Vi w k) G z.2 ∧ hpR z.2 7 k = some w ∧ WLD z.2 w ∧ w + 6 ≤ hpZ z.2 ∧ 105 ≤ w ∧ WCp G z.2 w 1 ∧ hpI z.2 0 16 = 0
/-- the image's World takes over -/
theorem im_37 {G0 G : XH} (hC : CS G) {k w : Nat} (hk : k < 2) (hr : hpR G 7 k = some w) (hw : WLD G w) (h105 : 105 ≤ w) (hwz : w + 6 ≤ hpZ G) (hl : LAo G 6) (hx : Fx (Wi w) (Vi w k) G0 G) (hz : hpZ G ≤ hpZ G0 + 6) (hs : hpS G ≤ hpS G0 + 184) (h105z : 105 ≤ hpZ G0) (hG0 : ∀ a, 1 ≤ a → a ≤ 6 → (∀ j, hpI G a j = hpI G0 a j) ∧ ∀ j, hpR G a j = hpR G0 a j) : WP k_Post_image_37 [some (.ref 0), some (.int (nI k))] [] G (ImQ G0 k w) := by
  have p1 : 0 ≤ nI (k) := nI_pos' (by omega)
  have c1 : (nI (k)).toNatClampNeg = k := nI_clamp (by omega)
  have l1 : k < 2 := by omega
  simp only [k_Post_image_37, w_iadd, w_isub, w_imul, w_iand, w_ior, w_ixor, w_ishl, w_ishr, w_iushr, w_idiv, w_irem, w_ineg, w_ladd, w_lsub, w_lmul, w_ldiv, w_lrem, w_i2l, w_l2i, w_i2c, w_lcmp, w_dup_int, w_pop_int, w_dup_ref, w_pop_ref, w_dup_retAddr, w_pop_retAddr, w_dup2, w_I, w_L, w_Null, w_Ild, w_Lld, w_Ald, w_Ist, w_Lst, w_Ast, w_Iinc, w_if_eq, w_icmp_eq, w_if_ne, w_icmp_ne, w_if_lt, w_icmp_lt, w_if_ge, w_icmp_ge, w_if_gt, w_icmp_gt, w_if_le, w_icmp_le, w_GetI, w_GetL, w_GetR, w_PutI, w_PutZ, w_PutL, w_PutR, w_PutN, w_Iald, w_Zald, w_Lald, w_Aald, w_Iast, w_Zast, w_Last, w_AastR, w_AastN, w_Alen, w_New, w_NewA, w_Mna, w_Iret, w_Zret, w_Cret, w_Bret, w_Lret, w_AretR, w_AretN, w_Vret, w_Obj, w_IfNN, w_IfNR, w_Copy, w_Cln, w_Cast, w_SfA, w_SfI, w_SfQ, w_Str, w_ScLd, w_ScLen, w_CV0, w_CS0, w_CV1, w_CS1, w_CV2, w_CS2, w_CV3, w_CS3, w_CV4, w_CS4, w_CV5, w_CS5, List.getElem?_cons_zero, List.getElem?_cons_succ, List.set_cons_zero, List.set_cons_succ, List.length_cons, List.length_nil, List.map_cons, List.map_nil, List.sum_cons, List.sum_nil, List.nil_append, List.cons_append, Option.toList_some, Option.toList_none, Value.category, xok, va_rf, true_and, and_true, and_self, Nat.reduceAdd, Nat.reduceLT, Nat.reduceLeDiff, Nat.reduceEqDiff, Nat.reduceMul, beq_self_eq_true, decide_true, ite_true, ite_false, if_true, if_false, reduceIte, Bool.true_eq_false, Bool.false_eq_true, eq_self_iff_true, Nat.zero_le, not_true_eq_false, not_false_eq_true, forall_const, false_implies, implies_true, forall_false, hC.all, hr, xin, p1, c1, l1, or_true, true_or, hw.1, ne10, ne10L, ne01, ne01L, tt_imp, nt_imp, ff_imp, nf_imp, true_and, and_true, true_or, or_true, reduceIte]
  refine SP.mono (c_wtake hw hC.wld (by omega) hl) ?_
  rintro ⟨v, G1⟩ ⟨rfl, z1, t1, t2, t3, t4, t5, t6, t7, t8⟩
  dsimp only at z1 t1 t2 t3 t4 t5 t6 t7 t8
  have hC1 : CS G1 := z1.fx.cs (by omega) (fun a j ha _ => Vim_out (by omega) j) hC
  have hac := fun Q => c_accept hC1 Q 0
  simp only [Option.toList_none, List.nil_append, w_iadd, w_isub, w_imul, w_iand, w_ior, w_ixor, w_ishl, w_ishr, w_iushr, w_idiv, w_irem, w_ineg, w_ladd, w_lsub, w_lmul, w_ldiv, w_lrem, w_i2l, w_l2i, w_i2c, w_lcmp, w_dup_int, w_pop_int, w_dup_ref, w_pop_ref, w_dup_retAddr, w_pop_retAddr, w_dup2, w_I, w_L, w_Null, w_Ild, w_Lld, w_Ald, w_Ist, w_Lst, w_Ast, w_Iinc, w_if_eq, w_icmp_eq, w_if_ne, w_icmp_ne, w_if_lt, w_icmp_lt, w_if_ge, w_icmp_ge, w_if_gt, w_icmp_gt, w_if_le, w_icmp_le, w_GetI, w_GetL, w_GetR, w_PutI, w_PutZ, w_PutL, w_PutR, w_PutN, w_Iald, w_Zald, w_Lald, w_Aald, w_Iast, w_Zast, w_Last, w_AastR, w_AastN, w_Alen, w_New, w_NewA, w_Mna, w_Iret, w_Zret, w_Cret, w_Bret, w_Lret, w_AretR, w_AretN, w_Vret, w_Obj, w_IfNN, w_IfNR, w_Copy, w_Cln, w_Cast, w_SfA, w_SfI, w_SfQ, w_Str, w_ScLd, w_ScLen, w_CV0, w_CS0, w_CV1, w_CS1, w_CV2, w_CS2, w_CV3, w_CS3, w_CV4, w_CS4, w_CV5, w_CS5, List.getElem?_cons_zero, List.getElem?_cons_succ, List.set_cons_zero, List.set_cons_succ, List.length_cons, List.length_nil, List.map_cons, List.map_nil, List.sum_cons, List.sum_nil, List.nil_append, List.cons_append, Option.toList_some, Option.toList_none, Value.category, xok, va_rf, true_and, and_true, and_self, Nat.reduceAdd, Nat.reduceLT, Nat.reduceLeDiff, Nat.reduceEqDiff, Nat.reduceMul, beq_self_eq_true, decide_true, ite_true, ite_false, if_true, if_false, reduceIte, Bool.true_eq_false, Bool.false_eq_true, eq_self_iff_true, Nat.zero_le, not_true_eq_false, not_false_eq_true, forall_const, false_implies, implies_true, forall_false, hC1.all, hac, ne10, ne10L, ne01, ne01L, tt_imp, nt_imp, ff_imp, nf_imp, true_and, and_true, true_or, or_true, reduceIte]
  have hw1 : WLD G1 w := hw.fz z1 (fun _ => Vim_out (by omega) _)
  refine ⟨rfl, ?_, ?_, ?_, ?_, ?_, ?_, h105, ⟨fun j hj => ?_, fun j hj => ?_, fun j hj => ?_, fun j hj => ?_, fun i hi => ?_, ?_, ?_, ?_⟩, ?_⟩
  · show hpZ G1 ≤ _; rw [z1.2.2.1]; exact hz
  · show hpS G1 ≤ _; rw [z1.2.2.2.1]; exact hs
  · exact (hx.trans (z1.fx.mono (fun a j q => by unfold Wi at q; simp only [Bool.or_eq_false_iff] at q; exact q.1) (fun a j q => by unfold Vi at q; simp only [Bool.or_eq_false_iff] at q; exact q.1))).wI (by unfold Wi; simp)
  · show hpR G1 _ _ = _
    rw [z1.2.2.2.2.2.2 _ _ (Vim_out (by omega) _)]; exact hr
  · exact hw1.fz (V := fun _ _ => false) (W := fun _ _ => true) ⟨rfl, rfl, rfl, rfl, rfl, fun _ _ z => (by cases z), fun _ _ _ => rfl⟩ (fun _ => rfl)
  · show w + 6 ≤ hpZ G1; rw [z1.2.2.1]; exact hwz
  · rw [stI_up, hpI_stA_ne (by omega), t1 j hj]; exact (hG0 2 (by omega) (by omega)).1 j
  · rw [stI_up, hpI_stA_ne (by omega), t2 j hj]; exact (hG0 3 (by omega) (by omega)).1 j
  · rw [stI_up, hpI_stA_ne (by omega), t3 j hj]; exact (hG0 4 (by omega) (by omega)).1 j
  · rw [stI_up, hpI_stA_ne (by omega), t4 j hj]; exact (hG0 5 (by omega) (by omega)).1 j
  · show hpR G1 _ _ = _
    rw [t5 i hi]; exact (hG0 6 (by omega) (by omega)).2 i
  · rw [stI_up, hpI_stA_ne (by omega), t6]; exact (hG0 1 (by omega) (by omega)).1 5
  · rw [stI_up, hpI_stA_ne (by omega), t7]; exact (hG0 1 (by omega) (by omega)).1 6
  · rw [stI_up, hpI_stA_ne (by omega), t8]; exact (hG0 1 (by omega) (by omega)).1 7
  · rw [stI_up, hpI_stA, up_eq]
theorem k_lt2 {k : Nat} (hk : k < 2) : ((nI k < 0) = False) ∧ ((nI k < 2) = True) := ⟨eq_false (Int32.not_lt.mpr (nI_pos' (by omega))), eq_true (by rw [show (2 : Int32) = nI 2 from rfl, nl_lt (by omega) (by omega)]; omega)⟩
theorem c_image_old {G : XH} (hC : CS G) {k w : Nat} (hk : k < 2) (hr : hpR G 7 k = some w) (hw : WLD G w) (h105 : 105 ≤ w) (hwz : w + 6 ≤ hpZ G) (hl : LAo G 6) : SP D_Post_image [.ref 0, .int (nI k)] G (ImQ G k w) := by
  obtain ⟨g1, g2⟩ := k_lt2 hk
  have p1 : 0 ≤ nI (k) := nI_pos' (by omega)
  have c1 : (nI (k)).toNatClampNeg = k := nI_clamp (by omega)
  have l1 : k < 2 := by omega
  have := im_37 hC hk hr hw h105 hwz hl Fx.refl (by omega) (by omega) (by omega) (fun _ _ _ => ⟨fun _ => rfl, fun _ => rfl⟩)
  rw [e_Post_image]
  simp only [k_Post_image_0, w_iadd, w_isub, w_imul, w_iand, w_ior, w_ixor, w_ishl, w_ishr, w_iushr, w_idiv, w_irem, w_ineg, w_ladd, w_lsub, w_lmul, w_ldiv, w_lrem, w_i2l, w_l2i, w_i2c, w_lcmp, w_dup_int, w_pop_int, w_dup_ref, w_pop_ref, w_dup_retAddr, w_pop_retAddr, w_dup2, w_I, w_L, w_Null, w_Ild, w_Lld, w_Ald, w_Ist, w_Lst, w_Ast, w_Iinc, w_if_eq, w_icmp_eq, w_if_ne, w_icmp_ne, w_if_lt, w_icmp_lt, w_if_ge, w_icmp_ge, w_if_gt, w_icmp_gt, w_if_le, w_icmp_le, w_GetI, w_GetL, w_GetR, w_PutI, w_PutZ, w_PutL, w_PutR, w_PutN, w_Iald, w_Zald, w_Lald, w_Aald, w_Iast, w_Zast, w_Last, w_AastR, w_AastN, w_Alen, w_New, w_NewA, w_Mna, w_Iret, w_Zret, w_Cret, w_Bret, w_Lret, w_AretR, w_AretN, w_Vret, w_Obj, w_IfNN, w_IfNR, w_Copy, w_Cln, w_Cast, w_SfA, w_SfI, w_SfQ, w_Str, w_ScLd, w_ScLen, w_CV0, w_CS0, w_CV1, w_CS1, w_CV2, w_CS2, w_CV3, w_CS3, w_CV4, w_CS4, w_CV5, w_CS5, List.getElem?_cons_zero, List.getElem?_cons_succ, List.set_cons_zero, List.set_cons_succ, List.length_cons, List.length_nil, List.map_cons, List.map_nil, List.sum_cons, List.sum_nil, List.nil_append, List.cons_append, Option.toList_some, Option.toList_none, Value.category, xok, va_rf, true_and, and_true, and_self, Nat.reduceAdd, Nat.reduceLT, Nat.reduceLeDiff, Nat.reduceEqDiff, Nat.reduceMul, beq_self_eq_true, decide_true, ite_true, ite_false, if_true, if_false, reduceIte, Bool.true_eq_false, Bool.false_eq_true, eq_self_iff_true, Nat.zero_le, not_true_eq_false, not_false_eq_true, forall_const, false_implies, implies_true, forall_false, g1, g2, hC.all, hr, xin, p1, c1, l1, or_true, true_or, ne10, ne10L, ne01, ne01L, tt_imp, nt_imp, ff_imp, nf_imp, true_and, and_true, true_or, or_true, reduceIte]
  exact this
theorem c_image_new {G : XH} (hC : CS G) (hz : 105 ≤ hpZ G) {k : Nat} (hk : k < 2) (hr : hpR G 7 k = none) (hl : LAo G 6) : SP D_Post_image [.ref 0, .int (nI k)] G (ImQ G k (hpZ G)) := by
  obtain ⟨g1, g2⟩ := k_lt2 hk
  have p8 : 0 ≤ nI (k) := nI_pos' (by omega)
  have c8 : (nI (k)).toNatClampNeg = k := nI_clamp (by omega)
  have l8 : k < 2 := by omega
  obtain ⟨w, hwe⟩ : ∃ w, w = hpZ G := ⟨_, rfl⟩
  obtain ⟨G1, hG1⟩ : ∃ G1, G1 = stN G 0 8 := ⟨_, rfl⟩
  have x1 : Fx (fun _ _ => false) (fun _ _ => false) G G1 := by rw [hG1]; exact Fx.refl.nN
  have hC1 := x1.cs hz (fun _ _ _ _ => rfl) hC
  have Z1 : hpZ G1 = w + 1 := by rw [hG1, hwe]; rfl
  have S1 : hpS G1 = hpS G + 8 := by rw [hG1]; rfl
  have c1 : hpC G1 w = 0 := by rw [hG1, hwe]; exact sN_C
  rw [e_Post_image]
  simp only [k_Post_image_0, w_iadd, w_isub, w_imul, w_iand, w_ior, w_ixor, w_ishl, w_ishr, w_iushr, w_idiv, w_irem, w_ineg, w_ladd, w_lsub, w_lmul, w_ldiv, w_lrem, w_i2l, w_l2i, w_i2c, w_lcmp, w_dup_int, w_pop_int, w_dup_ref, w_pop_ref, w_dup_retAddr, w_pop_retAddr, w_dup2, w_I, w_L, w_Null, w_Ild, w_Lld, w_Ald, w_Ist, w_Lst, w_Ast, w_Iinc, w_if_eq, w_icmp_eq, w_if_ne, w_icmp_ne, w_if_lt, w_icmp_lt, w_if_ge, w_icmp_ge, w_if_gt, w_icmp_gt, w_if_le, w_icmp_le, w_GetI, w_GetL, w_GetR, w_PutI, w_PutZ, w_PutL, w_PutR, w_PutN, w_Iald, w_Zald, w_Lald, w_Aald, w_Iast, w_Zast, w_Last, w_AastR, w_AastN, w_Alen, w_New, w_NewA, w_Mna, w_Iret, w_Zret, w_Cret, w_Bret, w_Lret, w_AretR, w_AretN, w_Vret, w_Obj, w_IfNN, w_IfNR, w_Copy, w_Cln, w_Cast, w_SfA, w_SfI, w_SfQ, w_Str, w_ScLd, w_ScLen, w_CV0, w_CS0, w_CV1, w_CS1, w_CV2, w_CS2, w_CV3, w_CS3, w_CV4, w_CS4, w_CV5, w_CS5, List.getElem?_cons_zero, List.getElem?_cons_succ, List.set_cons_zero, List.set_cons_succ, List.length_cons, List.length_nil, List.map_cons, List.map_nil, List.sum_cons, List.sum_nil, List.nil_append, List.cons_append, Option.toList_some, Option.toList_none, Value.category, xok, va_rf, true_and, and_true, and_self, Nat.reduceAdd, Nat.reduceLT, Nat.reduceLeDiff, Nat.reduceEqDiff, Nat.reduceMul, beq_self_eq_true, decide_true, ite_true, ite_false, if_true, if_false, reduceIte, Bool.true_eq_false, Bool.false_eq_true, eq_self_iff_true, Nat.zero_le, not_true_eq_false, not_false_eq_true, forall_const, false_implies, implies_true, forall_false, g1, g2, hC.all, hr, xin, p8, c8, l8, or_true, true_or, ← hwe, ← hG1, c1, ne10, ne10L, ne01, ne01L, tt_imp, nt_imp, ff_imp, nf_imp, true_and, and_true, true_or, or_true, reduceIte]
  refine SP.mono (c_winit c1 Z1) ?_
  rintro ⟨v, G2⟩ ⟨rfl, Z2, S2, hw2, r2, x2, -, -, -, -, -⟩
  dsimp only at Z2 S2 hw2 r2 x2
  have hC2 := x2.cs (by omega) (WT_VOk (by omega)) hC1
  obtain ⟨G3, hG3⟩ : ∃ G3, G3 = stR G2 7 k (some w) := ⟨_, rfl⟩
  have z3 : Fz (fun _ _ => false) (fun a j => a == 7 && j == k) G2 G3 := by rw [hG3]; exact Fz.refl.wR (by simp)
  have hC3 : CS G3 := z3.fx.cs (by omega) (fun a j _ hn => by have : ¬ a = 7 := hn.2.1; simp [this]) hC2
  have hw3 : WLD G3 w := hw2.fz z3 (fun j => by have : ¬ w = 7 := by omega
                                                simp [this])
  have xx : Fx (Wi w) (Vi w k) G G3 := by
    refine ⟨by rw [z3.2.2.1]; omega, fun a ha => ⟨?_, ?_⟩, fun a j ha _ => ?_, fun a j ha _ => ?_, fun a j ha hv => ?_⟩
    · rw [z3.1, x2.C (by omega), x1.C ha]
    · rw [z3.2.1, x2.N (by omega), x1.N ha]
    · rw [z3.2.2.2.2.2.1 _ _ rfl, x2.I (by omega) (WT_ne (by omega) _), x1.I ha rfl]
    · rw [z3.2.2.2.2.1, x2.L (by omega) (WT_ne (by omega) _), x1.L ha rfl]
    · unfold Vi at hv
      simp only [Bool.or_eq_false_iff] at hv
      rw [z3.2.2.2.2.2.2 _ _ hv.2, x2.R (by omega) (WT_ne (by omega) _), x1.R ha rfl]
  have hG : ∀ a, 1 ≤ a → a ≤ 6 → (∀ j, hpI G3 a j = hpI G a j) ∧ ∀ j, hpR G3 a j = hpR G a j := fun a h1 h2 => by
    refine ⟨fun j => xx.I (by omega) ?_, fun j => xx.R (by omega) ?_⟩
    · unfold Wi
      rw [Wim_out (by omega)]
      have : ¬ a = 0 := by omega
      simp [this]
    · unfold Vi
      rw [Vim_out (by omega)]
      have : ¬ a = 7 := by omega
      simp [this]
  have hl3 : LAo G3 6 := fun i hi => by
    rw [(hG 6 (by omega) (by omega)).2 i]
    rcases hl i hi with z | ⟨t, t1, t2, t4, t3⟩
    · exact Or.inl z
    · exact Or.inr ⟨t, t1, by rw [xx.C t3]; exact t2, t4, by have := xx.Z; omega⟩
  have := im_37 (G0 := G) hC3 hk (by rw [hG3, sR_eq]) hw3 (by omega) (by rw [z3.2.2.1]; omega) hl3 xx (by rw [z3.2.2.1]; omega) (by rw [z3.2.2.2.1]; omega) hz hG
  simp only [Option.toList_none, List.cons_append, List.nil_append, w_iadd, w_isub, w_imul, w_iand, w_ior, w_ixor, w_ishl, w_ishr, w_iushr, w_idiv, w_irem, w_ineg, w_ladd, w_lsub, w_lmul, w_ldiv, w_lrem, w_i2l, w_l2i, w_i2c, w_lcmp, w_dup_int, w_pop_int, w_dup_ref, w_pop_ref, w_dup_retAddr, w_pop_retAddr, w_dup2, w_I, w_L, w_Null, w_Ild, w_Lld, w_Ald, w_Ist, w_Lst, w_Ast, w_Iinc, w_if_eq, w_icmp_eq, w_if_ne, w_icmp_ne, w_if_lt, w_icmp_lt, w_if_ge, w_icmp_ge, w_if_gt, w_icmp_gt, w_if_le, w_icmp_le, w_GetI, w_GetL, w_GetR, w_PutI, w_PutZ, w_PutL, w_PutR, w_PutN, w_Iald, w_Zald, w_Lald, w_Aald, w_Iast, w_Zast, w_Last, w_AastR, w_AastN, w_Alen, w_New, w_NewA, w_Mna, w_Iret, w_Zret, w_Cret, w_Bret, w_Lret, w_AretR, w_AretN, w_Vret, w_Obj, w_IfNN, w_IfNR, w_Copy, w_Cln, w_Cast, w_SfA, w_SfI, w_SfQ, w_Str, w_ScLd, w_ScLen, w_CV0, w_CS0, w_CV1, w_CS1, w_CV2, w_CS2, w_CV3, w_CS3, w_CV4, w_CS4, w_CV5, w_CS5, List.getElem?_cons_zero, List.getElem?_cons_succ, List.set_cons_zero, List.set_cons_succ, List.length_cons, List.length_nil, List.map_cons, List.map_nil, List.sum_cons, List.sum_nil, List.nil_append, List.cons_append, Option.toList_some, Option.toList_none, Value.category, xok, va_rf, true_and, and_true, and_self, Nat.reduceAdd, Nat.reduceLT, Nat.reduceLeDiff, Nat.reduceEqDiff, Nat.reduceMul, beq_self_eq_true, decide_true, ite_true, ite_false, if_true, if_false, reduceIte, Bool.true_eq_false, Bool.false_eq_true, eq_self_iff_true, Nat.zero_le, not_true_eq_false, not_false_eq_true, forall_const, false_implies, implies_true, forall_false, hC2.all, hw2.1, xin, p8, c8, l8, ← hG3, ne10, ne10L, ne01, ne01L, tt_imp, nt_imp, ff_imp, nf_imp, true_and, and_true, true_or, or_true, reduceIte]
  rw [hwe] at *
  exact this
theorem c_image_no {G : XH} (hC : CS G) (Q : XR → Prop) (v : Int32) (h : v < 0 ∨ 2 ≤ v) : SP D_Post_image [.ref 0, .int v] G Q = Q (some (.int (-1)), refH (-1) 0 G) := by
  have hrf := fun Q => c_refuse_1 hC Q
  rw [e_Post_image]
  by_cases q : v < 0
  · have g : (v < 0) = True := eq_true q
    simp only [k_Post_image_0, k_Post_image_9, w_iadd, w_isub, w_imul, w_iand, w_ior, w_ixor, w_ishl, w_ishr, w_iushr, w_idiv, w_irem, w_ineg, w_ladd, w_lsub, w_lmul, w_ldiv, w_lrem, w_i2l, w_l2i, w_i2c, w_lcmp, w_dup_int, w_pop_int, w_dup_ref, w_pop_ref, w_dup_retAddr, w_pop_retAddr, w_dup2, w_I, w_L, w_Null, w_Ild, w_Lld, w_Ald, w_Ist, w_Lst, w_Ast, w_Iinc, w_if_eq, w_icmp_eq, w_if_ne, w_icmp_ne, w_if_lt, w_icmp_lt, w_if_ge, w_icmp_ge, w_if_gt, w_icmp_gt, w_if_le, w_icmp_le, w_GetI, w_GetL, w_GetR, w_PutI, w_PutZ, w_PutL, w_PutR, w_PutN, w_Iald, w_Zald, w_Lald, w_Aald, w_Iast, w_Zast, w_Last, w_AastR, w_AastN, w_Alen, w_New, w_NewA, w_Mna, w_Iret, w_Zret, w_Cret, w_Bret, w_Lret, w_AretR, w_AretN, w_Vret, w_Obj, w_IfNN, w_IfNR, w_Copy, w_Cln, w_Cast, w_SfA, w_SfI, w_SfQ, w_Str, w_ScLd, w_ScLen, w_CV0, w_CS0, w_CV1, w_CS1, w_CV2, w_CS2, w_CV3, w_CS3, w_CV4, w_CS4, w_CV5, w_CS5, List.getElem?_cons_zero, List.getElem?_cons_succ, List.set_cons_zero, List.set_cons_succ, List.length_cons, List.length_nil, List.map_cons, List.map_nil, List.sum_cons, List.sum_nil, List.nil_append, List.cons_append, Option.toList_some, Option.toList_none, Value.category, xok, va_rf, true_and, and_true, and_self, Nat.reduceAdd, Nat.reduceLT, Nat.reduceLeDiff, Nat.reduceEqDiff, Nat.reduceMul, beq_self_eq_true, decide_true, ite_true, ite_false, if_true, if_false, reduceIte, Bool.true_eq_false, Bool.false_eq_true, eq_self_iff_true, Nat.zero_le, not_true_eq_false, not_false_eq_true, forall_const, false_implies, implies_true, forall_false, g, hC.all, hrf, ne10, ne10L, ne01, ne01L, tt_imp, nt_imp, ff_imp, nf_imp, true_and, and_true, true_or, or_true, reduceIte]
  · have g : (v < 0) = False := eq_false q
    have g2 : (v < 2) = False := eq_false (Int32.not_lt.mpr (h.resolve_left q))
    simp only [k_Post_image_0, k_Post_image_9, w_iadd, w_isub, w_imul, w_iand, w_ior, w_ixor, w_ishl, w_ishr, w_iushr, w_idiv, w_irem, w_ineg, w_ladd, w_lsub, w_lmul, w_ldiv, w_lrem, w_i2l, w_l2i, w_i2c, w_lcmp, w_dup_int, w_pop_int, w_dup_ref, w_pop_ref, w_dup_retAddr, w_pop_retAddr, w_dup2, w_I, w_L, w_Null, w_Ild, w_Lld, w_Ald, w_Ist, w_Lst, w_Ast, w_Iinc, w_if_eq, w_icmp_eq, w_if_ne, w_icmp_ne, w_if_lt, w_icmp_lt, w_if_ge, w_icmp_ge, w_if_gt, w_icmp_gt, w_if_le, w_icmp_le, w_GetI, w_GetL, w_GetR, w_PutI, w_PutZ, w_PutL, w_PutR, w_PutN, w_Iald, w_Zald, w_Lald, w_Aald, w_Iast, w_Zast, w_Last, w_AastR, w_AastN, w_Alen, w_New, w_NewA, w_Mna, w_Iret, w_Zret, w_Cret, w_Bret, w_Lret, w_AretR, w_AretN, w_Vret, w_Obj, w_IfNN, w_IfNR, w_Copy, w_Cln, w_Cast, w_SfA, w_SfI, w_SfQ, w_Str, w_ScLd, w_ScLen, w_CV0, w_CS0, w_CV1, w_CS1, w_CV2, w_CS2, w_CV3, w_CS3, w_CV4, w_CS4, w_CV5, w_CS5, List.getElem?_cons_zero, List.getElem?_cons_succ, List.set_cons_zero, List.set_cons_succ, List.length_cons, List.length_nil, List.map_cons, List.map_nil, List.sum_cons, List.sum_nil, List.nil_append, List.cons_append, Option.toList_some, Option.toList_none, Value.category, xok, va_rf, true_and, and_true, and_self, Nat.reduceAdd, Nat.reduceLT, Nat.reduceLeDiff, Nat.reduceEqDiff, Nat.reduceMul, beq_self_eq_true, decide_true, ite_true, ite_false, if_true, if_false, reduceIte, Bool.true_eq_false, Bool.false_eq_true, eq_self_iff_true, Nat.zero_le, not_true_eq_false, not_false_eq_true, forall_const, false_implies, implies_true, forall_false, g, g2, hC.all, hrf, ne10, ne10L, ne01, ne01L, tt_imp, nt_imp, ff_imp, nf_imp, true_and, and_true, true_or, or_true, reduceIte]
/-- what going back leaves in the class -/
def Wb : Nat → Nat → Bool := fun a j => Wim 1 a j || (a == 0 && j == 16) || (a == 8 && j == 3)
def BkQ (G : XH) (w : Nat) (z : XR) : Prop := z.1 = some (.int 0) ∧ Fz Wb (Vim 1) G z.2 ∧ WCp G z.2 1 w ∧ hpI z.2 0 16 = 0 ∧ hpI z.2 8 3 = 0
theorem c_back {G : XH} (hC : CS G) (hz : 105 ≤ hpZ G) {k w : Nat} (hk : k < 2) (hr : hpR G 7 k = some w) (hw : WLD G w) (h105 : 105 ≤ w) (hl : LAo G (w + 5)) : SP D_Post_back [.ref 0, .int (nI k)] G (BkQ G w) := by
  obtain ⟨g1, g2⟩ := k_lt2 hk
  have p1 : 0 ≤ nI (k) := nI_pos' (by omega)
  have c1 : (nI (k)).toNatClampNeg = k := nI_clamp (by omega)
  have l1 : k < 2 := by omega
  rw [e_Post_back]
  simp only [k_Post_back_0, w_iadd, w_isub, w_imul, w_iand, w_ior, w_ixor, w_ishl, w_ishr, w_iushr, w_idiv, w_irem, w_ineg, w_ladd, w_lsub, w_lmul, w_ldiv, w_lrem, w_i2l, w_l2i, w_i2c, w_lcmp, w_dup_int, w_pop_int, w_dup_ref, w_pop_ref, w_dup_retAddr, w_pop_retAddr, w_dup2, w_I, w_L, w_Null, w_Ild, w_Lld, w_Ald, w_Ist, w_Lst, w_Ast, w_Iinc, w_if_eq, w_icmp_eq, w_if_ne, w_icmp_ne, w_if_lt, w_icmp_lt, w_if_ge, w_icmp_ge, w_if_gt, w_icmp_gt, w_if_le, w_icmp_le, w_GetI, w_GetL, w_GetR, w_PutI, w_PutZ, w_PutL, w_PutR, w_PutN, w_Iald, w_Zald, w_Lald, w_Aald, w_Iast, w_Zast, w_Last, w_AastR, w_AastN, w_Alen, w_New, w_NewA, w_Mna, w_Iret, w_Zret, w_Cret, w_Bret, w_Lret, w_AretR, w_AretN, w_Vret, w_Obj, w_IfNN, w_IfNR, w_Copy, w_Cln, w_Cast, w_SfA, w_SfI, w_SfQ, w_Str, w_ScLd, w_ScLen, w_CV0, w_CS0, w_CV1, w_CS1, w_CV2, w_CS2, w_CV3, w_CS3, w_CV4, w_CS4, w_CV5, w_CS5, List.getElem?_cons_zero, List.getElem?_cons_succ, List.set_cons_zero, List.set_cons_succ, List.length_cons, List.length_nil, List.map_cons, List.map_nil, List.sum_cons, List.sum_nil, List.nil_append, List.cons_append, Option.toList_some, Option.toList_none, Value.category, xok, va_rf, true_and, and_true, and_self, Nat.reduceAdd, Nat.reduceLT, Nat.reduceLeDiff, Nat.reduceEqDiff, Nat.reduceMul, beq_self_eq_true, decide_true, ite_true, ite_false, if_true, if_false, reduceIte, Bool.true_eq_false, Bool.false_eq_true, eq_self_iff_true, Nat.zero_le, not_true_eq_false, not_false_eq_true, forall_const, false_implies, implies_true, forall_false, g1, g2, hC.all, hr, xin, p1, c1, l1, or_true, true_or, ne10, ne10L, ne01, ne01L, tt_imp, nt_imp, ff_imp, nf_imp, true_and, and_true, true_or, or_true, reduceIte]
  refine SP.mono (c_wtake hC.wld hw (by omega) hl) ?_
  rintro ⟨v, G1⟩ ⟨rfl, z1, t1, t2, t3, t4, t5, t6, t7, t8⟩
  dsimp only at z1 t1 t2 t3 t4 t5 t6 t7 t8
  have hC1 : CS G1 := z1.fx.cs hz (fun a j ha hn => Vim_out (by omega) j) hC
  obtain ⟨G2, hG2⟩ : ∃ G2, G2 = stI G1 8 3 0 := ⟨_, rfl⟩
  have hC2 : CS G2 := by rw [hG2]; exact CS_stI.mpr hC1
  have hac := fun Q => c_accept hC2 Q 0
  have z2 : Fz Wb (Vim 1) G G2 := by
    rw [hG2]
    have : Fz Wb (Vim 1) G G1 := ⟨z1.1, z1.2.1, z1.2.2.1, z1.2.2.2.1, z1.2.2.2.2.1, fun a j q => z1.2.2.2.2.2.1 a j (by unfold Wb at q; simp only [Bool.or_eq_false_iff] at q; exact q.1.1), z1.2.2.2.2.2.2⟩
    exact this.wI (by unfold Wb; simp)
  simp only [Option.toList_none, List.nil_append, e_Undo_forget, k_Undo_forget_0, w_iadd, w_isub, w_imul, w_iand, w_ior, w_ixor, w_ishl, w_ishr, w_iushr, w_idiv, w_irem, w_ineg, w_ladd, w_lsub, w_lmul, w_ldiv, w_lrem, w_i2l, w_l2i, w_i2c, w_lcmp, w_dup_int, w_pop_int, w_dup_ref, w_pop_ref, w_dup_retAddr, w_pop_retAddr, w_dup2, w_I, w_L, w_Null, w_Ild, w_Lld, w_Ald, w_Ist, w_Lst, w_Ast, w_Iinc, w_if_eq, w_icmp_eq, w_if_ne, w_icmp_ne, w_if_lt, w_icmp_lt, w_if_ge, w_icmp_ge, w_if_gt, w_icmp_gt, w_if_le, w_icmp_le, w_GetI, w_GetL, w_GetR, w_PutI, w_PutZ, w_PutL, w_PutR, w_PutN, w_Iald, w_Zald, w_Lald, w_Aald, w_Iast, w_Zast, w_Last, w_AastR, w_AastN, w_Alen, w_New, w_NewA, w_Mna, w_Iret, w_Zret, w_Cret, w_Bret, w_Lret, w_AretR, w_AretN, w_Vret, w_Obj, w_IfNN, w_IfNR, w_Copy, w_Cln, w_Cast, w_SfA, w_SfI, w_SfQ, w_Str, w_ScLd, w_ScLen, w_CV0, w_CS0, w_CV1, w_CS1, w_CV2, w_CS2, w_CV3, w_CS3, w_CV4, w_CS4, w_CV5, w_CS5, List.getElem?_cons_zero, List.getElem?_cons_succ, List.set_cons_zero, List.set_cons_succ, List.length_cons, List.length_nil, List.map_cons, List.map_nil, List.sum_cons, List.sum_nil, List.nil_append, List.cons_append, Option.toList_some, Option.toList_none, Value.category, xok, va_rf, true_and, and_true, and_self, Nat.reduceAdd, Nat.reduceLT, Nat.reduceLeDiff, Nat.reduceEqDiff, Nat.reduceMul, beq_self_eq_true, decide_true, ite_true, ite_false, if_true, if_false, reduceIte, Bool.true_eq_false, Bool.false_eq_true, eq_self_iff_true, Nat.zero_le, not_true_eq_false, not_false_eq_true, forall_const, false_implies, implies_true, forall_false, hC1.all, ← hG2, hC2.all, hac, ne10, ne10L, ne01, ne01L, tt_imp, nt_imp, ff_imp, nf_imp, true_and, and_true, true_or, or_true, reduceIte]
  have I : ∀ a, ¬ a = 0 → ¬ a = 8 → hpI (stI G2 0 16 0) a = hpI G1 a := fun a h0 h8 => by rw [stI_up (a := 0), hpI_stA_ne h0, hG2, stI_up, hpI_stA_ne h8]
  refine ⟨rfl, z2.wI (by unfold Wb; simp), ⟨fun j hj => ?_, fun j hj => ?_, fun j hj => ?_, fun j hj => ?_, fun i hi => ?_, ?_, ?_, ?_⟩, ?_, ?_⟩
  · rw [I _ (by omega) (by omega)]; exact t1 j hj
  · rw [I _ (by omega) (by omega)]; exact t2 j hj
  · rw [I _ (by omega) (by omega)]; exact t3 j hj
  · rw [I _ (by omega) (by omega)]; exact t4 j hj
  · show hpR G2 _ _ = _
    rw [hG2]; exact t5 i hi
  · rw [I _ (by omega) (by omega)]; exact t6
  · rw [I _ (by omega) (by omega)]; exact t7
  · rw [I _ (by omega) (by omega)]; exact t8
  · rw [stI_up (a := 0), hpI_stA, up_eq]
  · rw [stI_up (a := 0), hpI_stA_ne (by decide), hG2, stI_up, hpI_stA, up_eq]
theorem c_back_no {G : XH} (hC : CS G) (Q : XR → Prop) (v : Int32) : (v < 0 ∨ 2 ≤ v → SP D_Post_back [.ref 0, .int v] G Q = Q (some (.int (-1)), refH (-1) 0 G)) ∧ (∀ k, k < 2 → v = nI k → hpR G 7 k = none → SP D_Post_back [.ref 0, .int v] G Q = Q (some (.int (-2)), refH (-2) 1 G)) := by
  have hrf := fun Q => c_refuse_1 hC Q
  have hrf2 := fun Q => c_refuse_2 hC Q
  rw [e_Post_back]
  refine ⟨fun h => ?_, fun k hk hv hr => ?_⟩
  · by_cases q : v < 0
    · have g : (v < 0) = True := eq_true q
      simp only [k_Post_back_0, k_Post_back_9, w_iadd, w_isub, w_imul, w_iand, w_ior, w_ixor, w_ishl, w_ishr, w_iushr, w_idiv, w_irem, w_ineg, w_ladd, w_lsub, w_lmul, w_ldiv, w_lrem, w_i2l, w_l2i, w_i2c, w_lcmp, w_dup_int, w_pop_int, w_dup_ref, w_pop_ref, w_dup_retAddr, w_pop_retAddr, w_dup2, w_I, w_L, w_Null, w_Ild, w_Lld, w_Ald, w_Ist, w_Lst, w_Ast, w_Iinc, w_if_eq, w_icmp_eq, w_if_ne, w_icmp_ne, w_if_lt, w_icmp_lt, w_if_ge, w_icmp_ge, w_if_gt, w_icmp_gt, w_if_le, w_icmp_le, w_GetI, w_GetL, w_GetR, w_PutI, w_PutZ, w_PutL, w_PutR, w_PutN, w_Iald, w_Zald, w_Lald, w_Aald, w_Iast, w_Zast, w_Last, w_AastR, w_AastN, w_Alen, w_New, w_NewA, w_Mna, w_Iret, w_Zret, w_Cret, w_Bret, w_Lret, w_AretR, w_AretN, w_Vret, w_Obj, w_IfNN, w_IfNR, w_Copy, w_Cln, w_Cast, w_SfA, w_SfI, w_SfQ, w_Str, w_ScLd, w_ScLen, w_CV0, w_CS0, w_CV1, w_CS1, w_CV2, w_CS2, w_CV3, w_CS3, w_CV4, w_CS4, w_CV5, w_CS5, List.getElem?_cons_zero, List.getElem?_cons_succ, List.set_cons_zero, List.set_cons_succ, List.length_cons, List.length_nil, List.map_cons, List.map_nil, List.sum_cons, List.sum_nil, List.nil_append, List.cons_append, Option.toList_some, Option.toList_none, Value.category, xok, va_rf, true_and, and_true, and_self, Nat.reduceAdd, Nat.reduceLT, Nat.reduceLeDiff, Nat.reduceEqDiff, Nat.reduceMul, beq_self_eq_true, decide_true, ite_true, ite_false, if_true, if_false, reduceIte, Bool.true_eq_false, Bool.false_eq_true, eq_self_iff_true, Nat.zero_le, not_true_eq_false, not_false_eq_true, forall_const, false_implies, implies_true, forall_false, g, hC.all, hrf, ne10, ne10L, ne01, ne01L, tt_imp, nt_imp, ff_imp, nf_imp, true_and, and_true, true_or, or_true, reduceIte]
    · have g : (v < 0) = False := eq_false q
      have g2 : (v < 2) = False := eq_false (Int32.not_lt.mpr (h.resolve_left q))
      simp only [k_Post_back_0, k_Post_back_9, w_iadd, w_isub, w_imul, w_iand, w_ior, w_ixor, w_ishl, w_ishr, w_iushr, w_idiv, w_irem, w_ineg, w_ladd, w_lsub, w_lmul, w_ldiv, w_lrem, w_i2l, w_l2i, w_i2c, w_lcmp, w_dup_int, w_pop_int, w_dup_ref, w_pop_ref, w_dup_retAddr, w_pop_retAddr, w_dup2, w_I, w_L, w_Null, w_Ild, w_Lld, w_Ald, w_Ist, w_Lst, w_Ast, w_Iinc, w_if_eq, w_icmp_eq, w_if_ne, w_icmp_ne, w_if_lt, w_icmp_lt, w_if_ge, w_icmp_ge, w_if_gt, w_icmp_gt, w_if_le, w_icmp_le, w_GetI, w_GetL, w_GetR, w_PutI, w_PutZ, w_PutL, w_PutR, w_PutN, w_Iald, w_Zald, w_Lald, w_Aald, w_Iast, w_Zast, w_Last, w_AastR, w_AastN, w_Alen, w_New, w_NewA, w_Mna, w_Iret, w_Zret, w_Cret, w_Bret, w_Lret, w_AretR, w_AretN, w_Vret, w_Obj, w_IfNN, w_IfNR, w_Copy, w_Cln, w_Cast, w_SfA, w_SfI, w_SfQ, w_Str, w_ScLd, w_ScLen, w_CV0, w_CS0, w_CV1, w_CS1, w_CV2, w_CS2, w_CV3, w_CS3, w_CV4, w_CS4, w_CV5, w_CS5, List.getElem?_cons_zero, List.getElem?_cons_succ, List.set_cons_zero, List.set_cons_succ, List.length_cons, List.length_nil, List.map_cons, List.map_nil, List.sum_cons, List.sum_nil, List.nil_append, List.cons_append, Option.toList_some, Option.toList_none, Value.category, xok, va_rf, true_and, and_true, and_self, Nat.reduceAdd, Nat.reduceLT, Nat.reduceLeDiff, Nat.reduceEqDiff, Nat.reduceMul, beq_self_eq_true, decide_true, ite_true, ite_false, if_true, if_false, reduceIte, Bool.true_eq_false, Bool.false_eq_true, eq_self_iff_true, Nat.zero_le, not_true_eq_false, not_false_eq_true, forall_const, false_implies, implies_true, forall_false, g, g2, hC.all, hrf, ne10, ne10L, ne01, ne01L, tt_imp, nt_imp, ff_imp, nf_imp, true_and, and_true, true_or, or_true, reduceIte]
  · subst hv
    obtain ⟨g1, g2⟩ := k_lt2 hk
    have p1 : 0 ≤ nI (k) := nI_pos' (by omega)
    have c1 : (nI (k)).toNatClampNeg = k := nI_clamp (by omega)
    have l1 : k < 2 := by omega
    simp only [k_Post_back_0, w_iadd, w_isub, w_imul, w_iand, w_ior, w_ixor, w_ishl, w_ishr, w_iushr, w_idiv, w_irem, w_ineg, w_ladd, w_lsub, w_lmul, w_ldiv, w_lrem, w_i2l, w_l2i, w_i2c, w_lcmp, w_dup_int, w_pop_int, w_dup_ref, w_pop_ref, w_dup_retAddr, w_pop_retAddr, w_dup2, w_I, w_L, w_Null, w_Ild, w_Lld, w_Ald, w_Ist, w_Lst, w_Ast, w_Iinc, w_if_eq, w_icmp_eq, w_if_ne, w_icmp_ne, w_if_lt, w_icmp_lt, w_if_ge, w_icmp_ge, w_if_gt, w_icmp_gt, w_if_le, w_icmp_le, w_GetI, w_GetL, w_GetR, w_PutI, w_PutZ, w_PutL, w_PutR, w_PutN, w_Iald, w_Zald, w_Lald, w_Aald, w_Iast, w_Zast, w_Last, w_AastR, w_AastN, w_Alen, w_New, w_NewA, w_Mna, w_Iret, w_Zret, w_Cret, w_Bret, w_Lret, w_AretR, w_AretN, w_Vret, w_Obj, w_IfNN, w_IfNR, w_Copy, w_Cln, w_Cast, w_SfA, w_SfI, w_SfQ, w_Str, w_ScLd, w_ScLen, w_CV0, w_CS0, w_CV1, w_CS1, w_CV2, w_CS2, w_CV3, w_CS3, w_CV4, w_CS4, w_CV5, w_CS5, List.getElem?_cons_zero, List.getElem?_cons_succ, List.set_cons_zero, List.set_cons_succ, List.length_cons, List.length_nil, List.map_cons, List.map_nil, List.sum_cons, List.sum_nil, List.nil_append, List.cons_append, Option.toList_some, Option.toList_none, Value.category, xok, va_rf, true_and, and_true, and_self, Nat.reduceAdd, Nat.reduceLT, Nat.reduceLeDiff, Nat.reduceEqDiff, Nat.reduceMul, beq_self_eq_true, decide_true, ite_true, ite_false, if_true, if_false, reduceIte, Bool.true_eq_false, Bool.false_eq_true, eq_self_iff_true, Nat.zero_le, not_true_eq_false, not_false_eq_true, forall_const, false_implies, implies_true, forall_false, g1, g2, hC.all, hr, xin, p1, c1, l1, or_true, true_or, hrf2, ne10, ne10L, ne01, ne01L, tt_imp, nt_imp, ff_imp, nf_imp, true_and, and_true, true_or, or_true, reduceIte]
