/-- the model's reader between expressions -/
def MSC (G : XH) (bd : Bool) (b : Nat → Nat) (len : Nat) (od : Bool) (p c : Nat) (J : Nat → Nat × Nat) (q : Nat) : Prop := MLx G b len p ∧ MKw G ∧ hpI G 70 20 = (if od then 1 else 0) ∧ hpI G 70 19 = (if bd then 1 else 0) ∧ hpI G 70 18 = (if bd then nI p else -1) ∧ hpI G 70 26 = nI c ∧ hpI G 70 23 = nI q ∧ q ≤ p ∧ CRj G J q ∧ c ≤ 50
theorem MST.c {G : XH} {bd : Bool} {b : Nat → Nat} {len : Nat} {od : Bool} {p c : Nat} {J : Nat → Nat × Nat} {q : Nat} {r : List (Nat × Nat)} (h : MST G bd b len od p c J q r) : MSC G bd b len od p c J q := by
  obtain ⟨m1, a2, a3, a4, a5, a6, a7, a8, a9, a10, a11, a12, a13, a14, a15⟩ := h
  exact ⟨m1, a2, a3, a4, a5, a6, a7, by omega, a12, a13⟩
theorem MSC.st {G : XH} {bd : Bool} {b : Nat → Nat} {len : Nat} {od : Bool} {p c : Nat} {J : Nat → Nat × Nat} {q : Nat} (h : MSC G bd b len od p c J q) : MST (stI (stI G 70 29 0) 70 30 0) bd b len od p c J q [] := by
  obtain ⟨G2, hG2⟩ : ∃ G2, G2 = stI (stI G 70 29 0) 70 30 0 := ⟨_, rfl⟩
  have f2 : Fr WMx G G2 := by rw [hG2]; exact (Fr.refl.wI rfl).wI rfl
  have i2 : ∀ a, ¬ a = 70 → hpI G2 a = hpI G a := fun a h1 => by rw [hG2, stI_up, hpI_stA_ne h1, stI_up, hpI_stA_ne h1]
  have j2 : ∀ k, ¬ k = 29 → ¬ k = 30 → hpI G2 70 k = hpI G 70 k := fun k h1 h2 => by rw [hG2, stI_up, hpI_stA, up_ne h2, stI_up, hpI_stA, up_ne h1]
  have b29 : hpI G2 70 29 = nI 0 := by rw [hG2, stI_up, hpI_stA, up_ne (by decide), stI_up, hpI_stA, up_eq]; rfl
  have b30 : hpI G2 70 30 = nI 0 := by rw [hG2, stI_up, hpI_stA, up_eq]; rfl
  have hL : hpL G2 = hpL G := by rw [hG2]; rfl
  rw [← hG2]
  obtain ⟨⟨m1, m2, m3, m4, m5, m6, m7, m8⟩, a2, a3, a4, a5, a6, a7, a8, a9, a10⟩ := h
  exact ⟨⟨f2.ms m1, m2.fr f2 (fun _ => rfl), (j2 _ (by decide) (by decide)).trans m3, (j2 _ (by decide) (by decide)).trans m4, (j2 _ (by decide) (by decide)).trans m5, (j2 _ (by decide) (by decide)).trans m6, by rw [hL]; exact m7, m8⟩, a2.mx f2, (j2 _ (by decide) (by decide)).trans a3, (j2 _ (by decide) (by decide)).trans a4, (j2 _ (by decide) (by decide)).trans a5, (j2 _ (by decide) (by decide)).trans a6, (j2 _ (by decide) (by decide)).trans a7, b29, trivial, b30, by rw [List.length_nil]; omega, fun k hk => by rw [i2 _ (by decide), i2 _ (by decide)]; exact a9 k hk, a10, JAt_nil, fun x hx => by cases hx⟩
theorem Lv_split : ∀ r : List (Nat × Nat), (∀ x, x ∈ r → 20 ≤ x.1 ∧ x.1 < 33) → ∃ r1 r2, r = r1 ++ r2 ∧ LvA 1 r1 ∧ LvB 1 r2
  | [], _ => ⟨[], [], rfl, LvA_nil, fun x t e => by cases e⟩
  | x :: r, h => by
    by_cases hx : x.1 < 31
    · obtain ⟨r1, r2, e, h1, h2⟩ := Lv_split r (fun y hy => h y (List.mem_cons_of_mem _ hy))
      refine ⟨x :: r1, r2, by rw [e]; rfl, fun y hy => ?_, h2⟩
      rcases List.mem_cons.mp hy with z | z
      · rw [z]
        refine ⟨?_, (h x (List.mem_cons_self ..)).1, hx⟩
        unfold bnd
        rw [if_neg (by omega)]
        split
        · omega
        · split
          · omega
          · split
            · omega
            · split
              · omega
              · split <;> omega
      · exact h1 y z
    · refine ⟨[], x :: r, rfl, LvA_nil, fun y t e => ?_⟩
      cases e
      unfold bnd
      rw [if_pos (by omega)]
      omega
/-- behind an expression of the model -/
def MXr (b : Nat → Nat) (len : Nat) (od : Bool) (c : Nat) (J : Nat → Nat × Nat) (q : Nat) (o : GR) (G' : XH) : Prop := match o with
  | .error e => ∃ c' J' q', MSC G' true b len od e c' J' q'
  | .ok s => ∃ J' q', MSC G' false b len od s.1 s.2.1 J' q' ∧ (∀ j, j < q → J' j = J j) ∧ OKJ (if od then 21 else 10) od J' q q' (s.2.1 - c) s.2.2
theorem rx_end {b : Nat → Nat} {len : Nat} {od bd : Bool} {p c : Nat} {J : Nat → Nat × Nat} {q : Nat} {r t : List (Nat × Nat)} {G : XH} (h : MST G bd b len od p c J q (r ++ t)) (hA : LvA 1 r) (hB : LvB 1 t) {ts turn : Int32} {Q : XR → Prop} (hQ : ∀ G', Fr WMx G G' → MSC G' bd b len od p c (stF r (J, q)).1 (stF r (J, q)).2 → Q (none, G')) : WP k_Mdl_readExpression_76 [some (.ref 70), some (.int ts), some (.int turn)] [] G Q := by
  have hM := h.M
  simp only [k_Mdl_readExpression_76, w_iadd, w_isub, w_imul, w_iand, w_ior, w_ixor, w_ishl, w_ishr, w_iushr, w_idiv, w_irem, w_ineg, w_ladd, w_lsub, w_lmul, w_ldiv, w_lrem, w_i2l, w_l2i, w_i2c, w_lcmp, w_dup_int, w_pop_int, w_dup_ref, w_pop_ref, w_dup_retAddr, w_pop_retAddr, w_dup2, w_I, w_L, w_Null, w_Ild, w_Lld, w_Ald, w_Ist, w_Lst, w_Ast, w_Iinc, w_if_eq, w_icmp_eq, w_if_ne, w_icmp_ne, w_if_lt, w_icmp_lt, w_if_ge, w_icmp_ge, w_if_gt, w_icmp_gt, w_if_le, w_icmp_le, w_GetI, w_GetL, w_GetR, w_PutI, w_PutZ, w_PutL, w_PutR, w_PutN, w_Iald, w_Zald, w_Lald, w_Aald, w_Iast, w_Zast, w_Last, w_AastR, w_AastN, w_Alen, w_New, w_NewA, w_Mna, w_Iret, w_Zret, w_Cret, w_Bret, w_Lret, w_AretR, w_AretN, w_Vret, w_Obj, w_IfNN, w_IfNR, w_Copy, w_Cln, w_Cast, w_SfA, w_SfI, w_SfQ, w_Str, w_ScLd, w_ScLen, w_CV0, w_CS0, w_CV1, w_CS1, w_CV2, w_CS2, w_CV3, w_CS3, w_CV4, w_CS4, w_CV5, w_CS5, List.getElem?_cons_zero, List.getElem?_cons_succ, List.set_cons_zero, List.set_cons_succ, List.length_cons, List.length_nil, List.map_cons, List.map_nil, List.sum_cons, List.sum_nil, List.nil_append, List.cons_append, Option.toList_some, Option.toList_none, Value.category, xok, va_rf, true_and, and_true, and_self, Nat.reduceAdd, Nat.reduceLT, Nat.reduceLeDiff, Nat.reduceEqDiff, Nat.reduceMul, beq_self_eq_true, decide_true, ite_true, ite_false, if_true, if_false, reduceIte, Bool.true_eq_false, Bool.false_eq_true, eq_self_iff_true, Nat.zero_le, not_true_eq_false, not_false_eq_true, forall_const, false_implies, implies_true, forall_false, hM.all, ne10, ne10L, ne01, ne01L, tt_imp, nt_imp, ff_imp, nf_imp, true_and, and_true, true_or, or_true, reduceIte]
  refine SP.mono (s_settle (least := 1) (by omega) h hA hB) ?_
  rintro ⟨v, G2⟩ ⟨rfl, fr2, h2⟩
  dsimp only at fr2 h2
  simp only [Option.toList_none, List.nil_append, w_iadd, w_isub, w_imul, w_iand, w_ior, w_ixor, w_ishl, w_ishr, w_iushr, w_idiv, w_irem, w_ineg, w_ladd, w_lsub, w_lmul, w_ldiv, w_lrem, w_i2l, w_l2i, w_i2c, w_lcmp, w_dup_int, w_pop_int, w_dup_ref, w_pop_ref, w_dup_retAddr, w_pop_retAddr, w_dup2, w_I, w_L, w_Null, w_Ild, w_Lld, w_Ald, w_Ist, w_Lst, w_Ast, w_Iinc, w_if_eq, w_icmp_eq, w_if_ne, w_icmp_ne, w_if_lt, w_icmp_lt, w_if_ge, w_icmp_ge, w_if_gt, w_icmp_gt, w_if_le, w_icmp_le, w_GetI, w_GetL, w_GetR, w_PutI, w_PutZ, w_PutL, w_PutR, w_PutN, w_Iald, w_Zald, w_Lald, w_Aald, w_Iast, w_Zast, w_Last, w_AastR, w_AastN, w_Alen, w_New, w_NewA, w_Mna, w_Iret, w_Zret, w_Cret, w_Bret, w_Lret, w_AretR, w_AretN, w_Vret, w_Obj, w_IfNN, w_IfNR, w_Copy, w_Cln, w_Cast, w_SfA, w_SfI, w_SfQ, w_Str, w_ScLd, w_ScLen, w_CV0, w_CS0, w_CV1, w_CS1, w_CV2, w_CS2, w_CV3, w_CS3, w_CV4, w_CS4, w_CV5, w_CS5, List.getElem?_cons_zero, List.getElem?_cons_succ, List.set_cons_zero, List.set_cons_succ, List.length_cons, List.length_nil, List.map_cons, List.map_nil, List.sum_cons, List.sum_nil, List.nil_append, List.cons_append, Option.toList_some, Option.toList_none, Value.category, xok, va_rf, true_and, and_true, and_self, Nat.reduceAdd, Nat.reduceLT, Nat.reduceLeDiff, Nat.reduceEqDiff, Nat.reduceMul, beq_self_eq_true, decide_true, ite_true, ite_false, if_true, if_false, reduceIte, Bool.true_eq_false, Bool.false_eq_true, eq_self_iff_true, Nat.zero_le, not_true_eq_false, not_false_eq_true, forall_const, false_implies, implies_true, forall_false, ne10, ne10L, ne01, ne01L, tt_imp, nt_imp, ff_imp, nf_imp, true_and, and_true, true_or, or_true, reduceIte]
  exact hQ G2 fr2 h2.c
theorem rx_bad {b : Nat → Nat} {len : Nat} {od : Bool} {p c : Nat} {J : Nat → Nat × Nat} {q : Nat} {r : List (Nat × Nat)} {G : XH} {N : Nat} (hN : 1 ≤ N) (h : MST G true b len od p c J q r) {ts turn : Int32} {Q : XR → Prop} (hQ : ∀ G', Fr WMx G G' → (∃ c' J' q', MSC G' true b len od p c' J' q') → Q (none, G')) : WP (xloop f_Mdl_readExpression_20 N) [some (.ref 70), some (.int ts), some (.int turn)] [] G Q := by
  obtain ⟨N1, rfl⟩ : ∃ N1, N = N1 + 1 := ⟨N - 1, by omega⟩
  have hM := h.M
  have b19 : hpI G 70 19 = 1 := h.2.2.2.1
  obtain ⟨r1, r2, e, h1, h2⟩ := Lv_split r h.2.2.2.2.2.2.2.2.2.2.2.2.2.2
  subst e
  have := rx_end (ts := ts) (turn := turn) (Q := Q) h h1 h2 (fun G' z1 z2 => hQ G' z1 ⟨_, _, _, z2⟩)
  rw [xloop_s]
  simp only [f_Mdl_readExpression_20, w_iadd, w_isub, w_imul, w_iand, w_ior, w_ixor, w_ishl, w_ishr, w_iushr, w_idiv, w_irem, w_ineg, w_ladd, w_lsub, w_lmul, w_ldiv, w_lrem, w_i2l, w_l2i, w_i2c, w_lcmp, w_dup_int, w_pop_int, w_dup_ref, w_pop_ref, w_dup_retAddr, w_pop_retAddr, w_dup2, w_I, w_L, w_Null, w_Ild, w_Lld, w_Ald, w_Ist, w_Lst, w_Ast, w_Iinc, w_if_eq, w_icmp_eq, w_if_ne, w_icmp_ne, w_if_lt, w_icmp_lt, w_if_ge, w_icmp_ge, w_if_gt, w_icmp_gt, w_if_le, w_icmp_le, w_GetI, w_GetL, w_GetR, w_PutI, w_PutZ, w_PutL, w_PutR, w_PutN, w_Iald, w_Zald, w_Lald, w_Aald, w_Iast, w_Zast, w_Last, w_AastR, w_AastN, w_Alen, w_New, w_NewA, w_Mna, w_Iret, w_Zret, w_Cret, w_Bret, w_Lret, w_AretR, w_AretN, w_Vret, w_Obj, w_IfNN, w_IfNR, w_Copy, w_Cln, w_Cast, w_SfA, w_SfI, w_SfQ, w_Str, w_ScLd, w_ScLen, w_CV0, w_CS0, w_CV1, w_CS1, w_CV2, w_CS2, w_CV3, w_CS3, w_CV4, w_CS4, w_CV5, w_CS5, List.getElem?_cons_zero, List.getElem?_cons_succ, List.set_cons_zero, List.set_cons_succ, List.length_cons, List.length_nil, List.map_cons, List.map_nil, List.sum_cons, List.sum_nil, List.nil_append, List.cons_append, Option.toList_some, Option.toList_none, Value.category, xok, va_rf, true_and, and_true, and_self, Nat.reduceAdd, Nat.reduceLT, Nat.reduceLeDiff, Nat.reduceEqDiff, Nat.reduceMul, beq_self_eq_true, decide_true, ite_true, ite_false, if_true, if_false, reduceIte, Bool.true_eq_false, Bool.false_eq_true, eq_self_iff_true, Nat.zero_le, not_true_eq_false, not_false_eq_true, forall_const, false_implies, implies_true, forall_false, hM.all, b19, ne10, ne10L, ne01, ne01L, tt_imp, nt_imp, ff_imp, nf_imp, true_and, and_true, true_or, or_true, reduceIte]
  exact this
theorem rx_over {b : Nat → Nat} {len : Nat} {od : Bool} {p c : Nat} {J : Nat → Nat × Nat} {q : Nat} {r : List (Nat × Nat)} {G : XH} {N : Nat} (hN : 1 ≤ N) (h : MST G false b len od p c J q (r ++ [])) (hA : LvA 1 r) {ts : Int32} {Q : XR → Prop} (hQ : ∀ G', Fr WMx G G' → MSC G' false b len od p c (stF r (J, q)).1 (stF r (J, q)).2 → Q (none, G')) : WP (xloop f_Mdl_readExpression_20 N) [some (.ref 70), some (.int ts), some (.int 4)] [] G Q := by
  obtain ⟨N1, rfl⟩ : ∃ N1, N = N1 + 1 := ⟨N - 1, by omega⟩
  have hM := h.M
  have b19 : hpI G 70 19 = 0 := h.2.2.2.1
  have := rx_end (ts := ts) (turn := 4) (Q := Q) h hA (fun x t e => by cases e) hQ
  rw [xloop_s]
  simp only [f_Mdl_readExpression_20, w_iadd, w_isub, w_imul, w_iand, w_ior, w_ixor, w_ishl, w_ishr, w_iushr, w_idiv, w_irem, w_ineg, w_ladd, w_lsub, w_lmul, w_ldiv, w_lrem, w_i2l, w_l2i, w_i2c, w_lcmp, w_dup_int, w_pop_int, w_dup_ref, w_pop_ref, w_dup_retAddr, w_pop_retAddr, w_dup2, w_I, w_L, w_Null, w_Ild, w_Lld, w_Ald, w_Ist, w_Lst, w_Ast, w_Iinc, w_if_eq, w_icmp_eq, w_if_ne, w_icmp_ne, w_if_lt, w_icmp_lt, w_if_ge, w_icmp_ge, w_if_gt, w_icmp_gt, w_if_le, w_icmp_le, w_GetI, w_GetL, w_GetR, w_PutI, w_PutZ, w_PutL, w_PutR, w_PutN, w_Iald, w_Zald, w_Lald, w_Aald, w_Iast, w_Zast, w_Last, w_AastR, w_AastN, w_Alen, w_New, w_NewA, w_Mna, w_Iret, w_Zret, w_Cret, w_Bret, w_Lret, w_AretR, w_AretN, w_Vret, w_Obj, w_IfNN, w_IfNR, w_Copy, w_Cln, w_Cast, w_SfA, w_SfI, w_SfQ, w_Str, w_ScLd, w_ScLen, w_CV0, w_CS0, w_CV1, w_CS1, w_CV2, w_CS2, w_CV3, w_CS3, w_CV4, w_CS4, w_CV5, w_CS5, List.getElem?_cons_zero, List.getElem?_cons_succ, List.set_cons_zero, List.set_cons_succ, List.length_cons, List.length_nil, List.map_cons, List.map_nil, List.sum_cons, List.sum_nil, List.nil_append, List.cons_append, Option.toList_some, Option.toList_none, Value.category, xok, va_rf, true_and, and_true, and_self, Nat.reduceAdd, Nat.reduceLT, Nat.reduceLeDiff, Nat.reduceEqDiff, Nat.reduceMul, beq_self_eq_true, decide_true, ite_true, ite_false, if_true, if_false, reduceIte, Bool.true_eq_false, Bool.false_eq_true, eq_self_iff_true, Nat.zero_le, not_true_eq_false, not_false_eq_true, forall_const, false_implies, implies_true, forall_false, hM.all, b19, ne10, ne10L, ne01, ne01L, tt_imp, nt_imp, ff_imp, nf_imp, true_and, and_true, true_or, or_true, reduceIte]
  exact this
theorem s_readSum {b : Nat → Nat} {len : Nat} {od : Bool} {p c : Nat} {J : Nat → Nat × Nat} {q : Nat} {G : XH} (h : MSC G false b len od p c J q) : SP D_Mdl_readExpression [.ref 70, .int 0] G (fun z => z.1 = none ∧ Fr WMx G z.2 ∧ MXr b len od c J q (gSum b len od 8 p c) z.2) := by
  have hM := h.1.1
  have l400 := h.1.2.1.1
  have h0 := h.st
  have f0 : Fr WMx G (stI (stI G 70 29 0) 70 30 0) := (Fr.refl.wI rfl).wI rfl
  obtain ⟨G0, hG0⟩ : ∃ G0, G0 = stI (stI G 70 29 0) 70 30 0 := ⟨_, rfl⟩
  rw [← hG0] at h0 f0
  rw [e_Mdl_readExpression]
  simp only [k_Mdl_readExpression_0, k_Mdl_readExpression_19, w_iadd, w_isub, w_imul, w_iand, w_ior, w_ixor, w_ishl, w_ishr, w_iushr, w_idiv, w_irem, w_ineg, w_ladd, w_lsub, w_lmul, w_ldiv, w_lrem, w_i2l, w_l2i, w_i2c, w_lcmp, w_dup_int, w_pop_int, w_dup_ref, w_pop_ref, w_dup_retAddr, w_pop_retAddr, w_dup2, w_I, w_L, w_Null, w_Ild, w_Lld, w_Ald, w_Ist, w_Lst, w_Ast, w_Iinc, w_if_eq, w_icmp_eq, w_if_ne, w_icmp_ne, w_if_lt, w_icmp_lt, w_if_ge, w_icmp_ge, w_if_gt, w_icmp_gt, w_if_le, w_icmp_le, w_GetI, w_GetL, w_GetR, w_PutI, w_PutZ, w_PutL, w_PutR, w_PutN, w_Iald, w_Zald, w_Lald, w_Aald, w_Iast, w_Zast, w_Last, w_AastR, w_AastN, w_Alen, w_New, w_NewA, w_Mna, w_Iret, w_Zret, w_Cret, w_Bret, w_Lret, w_AretR, w_AretN, w_Vret, w_Obj, w_IfNN, w_IfNR, w_Copy, w_Cln, w_Cast, w_SfA, w_SfI, w_SfQ, w_Str, w_ScLd, w_ScLen, w_CV0, w_CS0, w_CV1, w_CS1, w_CV2, w_CS2, w_CV3, w_CS3, w_CV4, w_CS4, w_CV5, w_CS5, List.getElem?_cons_zero, List.getElem?_cons_succ, List.set_cons_zero, List.set_cons_succ, List.length_cons, List.length_nil, List.map_cons, List.map_nil, List.sum_cons, List.sum_nil, List.nil_append, List.cons_append, Option.toList_some, Option.toList_none, Value.category, xok, va_rf, true_and, and_true, and_self, Nat.reduceAdd, Nat.reduceLT, Nat.reduceLeDiff, Nat.reduceEqDiff, Nat.reduceMul, beq_self_eq_true, decide_true, ite_true, ite_false, if_true, if_false, reduceIte, Bool.true_eq_false, Bool.false_eq_true, eq_self_iff_true, Nat.zero_le, not_true_eq_false, not_false_eq_true, forall_const, false_implies, implies_true, forall_false, stI_C, stI_N, stI_Z, stI_S, stI_L, stI_R, stL_C, stL_N, stL_Z, stL_S, stL_I, stL_R, stR_C, stR_N, stR_Z, stR_S, stR_I, stR_L, stA_C, stA_N, stA_Z, stA_S, stA_L, stA_R, stI_I, stL_L, stR_R, stA_I, stN_C, stN_N, stN_Z, stN_S, stN_I, stN_L, stN_R, stI_ne, stL_ne, stR_ne, hM.all, ← hG0, ne10, ne10L, ne01, ne01L, tt_imp, nt_imp, ff_imp, nf_imp, true_and, and_true, true_or, or_true, reduceIte]
  unfold k_Mdl_readExpression_20
  refine MSp_sum 8 G0 J p c q [] NF 1 _ h0 (fun x t e => by cases e) (fun z => by cases z) rfl (Or.inl rfl) (by unfold NF; omega) ?_ ?_
  · intro e he N' G' turn z1 z2 ⟨c', J', q', r', z3⟩
    refine rx_bad z1 z3 (fun G2 y1 y2 => ⟨rfl, f0.trans (z2.trans y1), ?_⟩)
    rw [he]
    exact y2
  · intro s hs N' G' J' q' r z1 z2 z3 z4 z5 z6 z7 z8 z9
    obtain ⟨N2, rfl⟩ : ∃ N2, N' = N2 + 1 := ⟨N' - 1, by have := z3.1.2.2.2.2.2.2.2; omega⟩
    have hM' := z3.M
    have c19 : hpI G' 70 19 = 0 := z3.2.2.2.1
    have hlo := stF_low r J' q' q q' z5 z7
    have z3' : MST G' false b len od s.1 s.2.1 J' q' r := by rw [List.append_nil] at z3; exact z3
    rw [xloop_s]
    refine rx_3 hM' c19 (s_bsOver z3' (Esm_op z9) (by have := inB_app (t := []) z6; rw [List.append_nil] at this; exact this) _ ⟨4, rfl, ?_⟩)
    refine rx_over (by have := z3.1.2.2.2.2.2.2.2; omega) z3 (z6.le (by omega)) (fun G2 y1 y2 => ⟨rfl, f0.trans (z2.trans y1), ?_⟩)
    rw [hs]
    exact ⟨_, _, y2, fun j hj => by rw [hlo.1 j hj]; exact z4 j hj, z8⟩
theorem s_readTest {b : Nat → Nat} {len : Nat} {od : Bool} {p c : Nat} {J : Nat → Nat × Nat} {q : Nat} {G : XH} (h : MSC G false b len od p c J q) : SP D_Mdl_readExpression [.ref 70, .int 1] G (fun z => z.1 = none ∧ Fr WMx G z.2 ∧ MXr b len od c J q (gTest b len od 8 p c) z.2) := by
  have hM := h.1.1
  have l400 := h.1.2.1.1
  have h0 := h.st
  have f0 : Fr WMx G (stI (stI G 70 29 0) 70 30 0) := (Fr.refl.wI rfl).wI rfl
  obtain ⟨G0, hG0⟩ : ∃ G0, G0 = stI (stI G 70 29 0) 70 30 0 := ⟨_, rfl⟩
  rw [← hG0] at h0 f0
  rw [e_Mdl_readExpression]
  simp only [k_Mdl_readExpression_0, k_Mdl_readExpression_19, w_iadd, w_isub, w_imul, w_iand, w_ior, w_ixor, w_ishl, w_ishr, w_iushr, w_idiv, w_irem, w_ineg, w_ladd, w_lsub, w_lmul, w_ldiv, w_lrem, w_i2l, w_l2i, w_i2c, w_lcmp, w_dup_int, w_pop_int, w_dup_ref, w_pop_ref, w_dup_retAddr, w_pop_retAddr, w_dup2, w_I, w_L, w_Null, w_Ild, w_Lld, w_Ald, w_Ist, w_Lst, w_Ast, w_Iinc, w_if_eq, w_icmp_eq, w_if_ne, w_icmp_ne, w_if_lt, w_icmp_lt, w_if_ge, w_icmp_ge, w_if_gt, w_icmp_gt, w_if_le, w_icmp_le, w_GetI, w_GetL, w_GetR, w_PutI, w_PutZ, w_PutL, w_PutR, w_PutN, w_Iald, w_Zald, w_Lald, w_Aald, w_Iast, w_Zast, w_Last, w_AastR, w_AastN, w_Alen, w_New, w_NewA, w_Mna, w_Iret, w_Zret, w_Cret, w_Bret, w_Lret, w_AretR, w_AretN, w_Vret, w_Obj, w_IfNN, w_IfNR, w_Copy, w_Cln, w_Cast, w_SfA, w_SfI, w_SfQ, w_Str, w_ScLd, w_ScLen, w_CV0, w_CS0, w_CV1, w_CS1, w_CV2, w_CS2, w_CV3, w_CS3, w_CV4, w_CS4, w_CV5, w_CS5, List.getElem?_cons_zero, List.getElem?_cons_succ, List.set_cons_zero, List.set_cons_succ, List.length_cons, List.length_nil, List.map_cons, List.map_nil, List.sum_cons, List.sum_nil, List.nil_append, List.cons_append, Option.toList_some, Option.toList_none, Value.category, xok, va_rf, true_and, and_true, and_self, Nat.reduceAdd, Nat.reduceLT, Nat.reduceLeDiff, Nat.reduceEqDiff, Nat.reduceMul, beq_self_eq_true, decide_true, ite_true, ite_false, if_true, if_false, reduceIte, Bool.true_eq_false, Bool.false_eq_true, eq_self_iff_true, Nat.zero_le, not_true_eq_false, not_false_eq_true, forall_const, false_implies, implies_true, forall_false, stI_C, stI_N, stI_Z, stI_S, stI_L, stI_R, stL_C, stL_N, stL_Z, stL_S, stL_I, stL_R, stR_C, stR_N, stR_Z, stR_S, stR_I, stR_L, stA_C, stA_N, stA_Z, stA_S, stA_L, stA_R, stI_I, stL_L, stR_R, stA_I, stN_C, stN_N, stN_Z, stN_S, stN_I, stN_L, stN_R, stI_ne, stL_ne, stR_ne, hM.all, ← hG0, ne10, ne10L, ne01, ne01L, tt_imp, nt_imp, ff_imp, nf_imp, true_and, and_true, true_or, or_true, reduceIte]
  unfold k_Mdl_readExpression_20
  refine MSp_test 8 G0 J p c q [] NF 0 _ h0 (fun x t e => by cases e) (fun _ => by decide) rfl rfl (by unfold NF; omega) ?_ ?_
  · intro e he N' G' turn z1 z2 ⟨c', J', q', r', z3⟩
    refine rx_bad z1 z3 (fun G2 y1 y2 => ⟨rfl, f0.trans (z2.trans y1), ?_⟩)
    rw [he]
    exact y2
  · intro s hs N' G' J' q' r z1 z2 z3 z4 z5 z6 z7 z8 z9
    obtain ⟨N2, rfl⟩ : ∃ N2, N' = N2 + 1 := ⟨N' - 1, by have := z3.1.2.2.2.2.2.2.2; omega⟩
    have hM' := z3.M
    have c19 : hpI G' 70 19 = 0 := z3.2.2.2.1
    have hlo := stF_low r J' q' q q' z5 z7
    have z3' : MST G' false b len od s.1 s.2.1 J' q' r := by rw [List.append_nil] at z3; exact z3
    have hE := Ets_w z9
    rw [xloop_s]
    refine rx_2 hM' c19 (s_btOver z3' hE.1 hE.2 (by have := inB_app (t := []) z6; rw [List.append_nil] at this; exact this) _ ⟨4, rfl, ?_⟩)
    refine rx_over (by have := z3.1.2.2.2.2.2.2.2; omega) z3 z6 (fun G2 y1 y2 => ⟨rfl, f0.trans (z2.trans y1), ?_⟩)
    rw [hs]
    exact ⟨_, _, y2, fun j hj => by rw [hlo.1 j hj]; exact z4 j hj, z8⟩
