def BRK : Int32 := -2000000000
theorem stM_C {G : XH} {a : Nat} {f : Nat → Int64} : hpC (stM G a f) = hpC G := rfl
theorem stM_N {G : XH} {a : Nat} {f : Nat → Int64} : hpN (stM G a f) = hpN G := rfl
theorem stM_R {G : XH} {a : Nat} {f : Nat → Int64} : hpR (stM G a f) = hpR G := rfl
theorem stM_I {G : XH} {a : Nat} {f : Nat → Int64} : hpI (stM G a f) = hpI G := rfl
theorem CS_stM {G : XH} {a : Nat} {f : Nat → Int64} : CS (stM G a f) ↔ CS G := ⟨fun h => h, fun h => h⟩
theorem mb_455 {A : List (Option Value)} {G : XH} {Q : XR → Prop} : WP k_Machine_run_455 A [] G Q = Q (some (.int BRK), G) := by
  rw [show k_Machine_run_455 = xI BRK (xIret ()) from rfl]
  simp only [w_iadd, w_isub, w_imul, w_iand, w_ior, w_ixor, w_ishl, w_ishr, w_iushr, w_idiv, w_irem, w_ineg, w_ladd, w_lsub, w_lmul, w_ldiv, w_lrem, w_i2l, w_l2i, w_i2c, w_lcmp, w_dup_int, w_pop_int, w_dup_ref, w_pop_ref, w_dup_retAddr, w_pop_retAddr, w_dup2, w_I, w_L, w_Null, w_Ild, w_Lld, w_Ald, w_Ist, w_Lst, w_Ast, w_Iinc, w_if_eq, w_icmp_eq, w_if_ne, w_icmp_ne, w_if_lt, w_icmp_lt, w_if_ge, w_icmp_ge, w_if_gt, w_icmp_gt, w_if_le, w_icmp_le, w_GetI, w_GetL, w_GetR, w_PutI, w_PutZ, w_PutL, w_PutR, w_PutN, w_Iald, w_Zald, w_Lald, w_Aald, w_Iast, w_Zast, w_Last, w_AastR, w_AastN, w_Alen, w_New, w_NewA, w_Mna, w_Iret, w_Zret, w_Cret, w_Bret, w_Lret, w_AretR, w_AretN, w_Vret, w_Obj, w_IfNN, w_IfNR, w_Copy, w_Cln, w_Cast, w_SfA, w_SfI, w_SfQ, w_Str, w_ScLd, w_ScLen, w_CV0, w_CS0, w_CV1, w_CS1, w_CV2, w_CS2, w_CV3, w_CS3, w_CV4, w_CS4, w_CV5, w_CS5]
theorem mb_274 {A : List (Option Value)} {G : XH} {Q : XR → Prop} : WP k_Machine_run_274 A [] G Q = Q (some (.int BRK), G) := by
  rw [show k_Machine_run_274 = xI BRK (xIret ()) from rfl]
  simp only [w_iadd, w_isub, w_imul, w_iand, w_ior, w_ixor, w_ishl, w_ishr, w_iushr, w_idiv, w_irem, w_ineg, w_ladd, w_lsub, w_lmul, w_ldiv, w_lrem, w_i2l, w_l2i, w_i2c, w_lcmp, w_dup_int, w_pop_int, w_dup_ref, w_pop_ref, w_dup_retAddr, w_pop_retAddr, w_dup2, w_I, w_L, w_Null, w_Ild, w_Lld, w_Ald, w_Ist, w_Lst, w_Ast, w_Iinc, w_if_eq, w_icmp_eq, w_if_ne, w_icmp_ne, w_if_lt, w_icmp_lt, w_if_ge, w_icmp_ge, w_if_gt, w_icmp_gt, w_if_le, w_icmp_le, w_GetI, w_GetL, w_GetR, w_PutI, w_PutZ, w_PutL, w_PutR, w_PutN, w_Iald, w_Zald, w_Lald, w_Aald, w_Iast, w_Zast, w_Last, w_AastR, w_AastN, w_Alen, w_New, w_NewA, w_Mna, w_Iret, w_Zret, w_Cret, w_Bret, w_Lret, w_AretR, w_AretN, w_Vret, w_Obj, w_IfNN, w_IfNR, w_Copy, w_Cln, w_Cast, w_SfA, w_SfI, w_SfQ, w_Str, w_ScLd, w_ScLen, w_CV0, w_CS0, w_CV1, w_CS1, w_CV2, w_CS2, w_CV3, w_CS3, w_CV4, w_CS4, w_CV5, w_CS5]
theorem mc_437 {G : XH} (hC : CS G) {Q : XR → Prop} {K : XK} {x0 x1 x2 x3 x4 x5 x9 x10 x11 : Option Value} {x6 x8 : Int32} {v : Int64} {R : Nat → Int64} {n : Nat} (hn : n < 64) (hx : x0 = some (.ref 54)) : WP (k_Machine_run_437 K) [x0, x1, x2, x3, x4, x5, some (.int x6), some (.int (nI (n + 1))), some (.int x8), x9, x10, x11, none, some (.long v), none] [] (stM G 55 R) Q = if v < -BIG ∨ BIG < v then Q (some (.int BRK), stM G 55 R) else WP (k_Machine_run_469 K) [x0, x1, x2, x3, x4, x5, some (.int x6), some (.int (nI (n + 1))), some (.int x8), x9, x10, x11, none, some (.long v), none] [] (stM G 55 (fun j => if j = n then v else R j)) Q := by
  subst hx
  obtain ⟨u, w, hu, hw, hk⟩ : ∃ u w : Int64, u = -BIG ∧ w = BIG ∧ k_Machine_run_437 K = (xLld 13 (xL u (xlcmp (xif_lt k_Machine_run_455 (xLld 13 (xL w (xlcmp (xif_le (xAld 0 (xGetR 5 0 (xIld 7 (xI 1 (xisub (xLld 13 (xLasth (k_Machine_run_469 K)))))))) k_Machine_run_455)))))))) := ⟨_, _, rfl, rfl, rfl⟩
  rw [hk, ← hu, ← hw]
  have eP : nI (n + 1) - 1 = nI n := nI_sub (a := n + 1) (b := 1) (by omega)
  have p1 : 0 ≤ nI (n) := nI_pos' (by omega)
  have c1 : (nI (n)).toNatClampNeg = n := nI_clamp (by omega)
  have l1 : n < 64 := by omega
  simp only [w_iadd, w_isub, w_imul, w_iand, w_ior, w_ixor, w_ishl, w_ishr, w_iushr, w_idiv, w_irem, w_ineg, w_ladd, w_lsub, w_lmul, w_ldiv, w_lrem, w_i2l, w_l2i, w_i2c, w_lcmp, w_dup_int, w_pop_int, w_dup_ref, w_pop_ref, w_dup_retAddr, w_pop_retAddr, w_dup2, w_I, w_L, w_Null, w_Ild, w_Lld, w_Ald, w_Ist, w_Lst, w_Ast, w_Iinc, w_if_eq, w_icmp_eq, w_if_ne, w_icmp_ne, w_if_lt, w_icmp_lt, w_if_ge, w_icmp_ge, w_if_gt, w_icmp_gt, w_if_le, w_icmp_le, w_GetI, w_GetL, w_GetR, w_PutI, w_PutZ, w_PutL, w_PutR, w_PutN, w_Iald, w_Zald, w_Lald, w_Aald, w_Iast, w_Zast, w_Last, w_AastR, w_AastN, w_Alen, w_New, w_NewA, w_Mna, w_Iret, w_Zret, w_Cret, w_Bret, w_Lret, w_AretR, w_AretN, w_Vret, w_Obj, w_IfNN, w_IfNR, w_Copy, w_Cln, w_Cast, w_SfA, w_SfI, w_SfQ, w_Str, w_ScLd, w_ScLen, w_CV0, w_CS0, w_CV1, w_CS1, w_CV2, w_CS2, w_CV3, w_CS3, w_CV4, w_CS4, w_CV5, w_CS5, List.getElem?_cons_zero, List.getElem?_cons_succ, List.set_cons_zero, List.set_cons_succ, List.length_cons, List.length_nil, List.map_cons, List.map_nil, List.sum_cons, List.sum_nil, List.nil_append, List.cons_append, Option.toList_some, Option.toList_none, Value.category, xok, va_rf, true_and, and_true, and_self, Nat.reduceAdd, Nat.reduceLT, Nat.reduceLeDiff, Nat.reduceEqDiff, Nat.reduceMul, beq_self_eq_true, decide_true, ite_true, ite_false, if_true, if_false, reduceIte, Bool.true_eq_false, Bool.false_eq_true, eq_self_iff_true, Nat.zero_le, not_true_eq_false, not_false_eq_true, forall_const, false_implies, implies_true, forall_false, mb_455, stM_C, stM_N, stM_R, hC.all, lg_lt, lg_le, eP, xin, p1, c1, l1, stL_stM]
  by_cases h1 : v < u
  · simp [h1]
  · by_cases h2 : w < v
    · have : ¬ v ≤ w := Int64.not_le.mpr h2
      simp [h1, h2, this]
    · have : v ≤ w := Int64.not_lt.mp h2
      simp [h1, h2, this]
/-- the class's machine after a step -/
abbrev mK (G : XH) (Q : XR → Prop) (K : XK) (x0 x1 x2 x3 x4 : Option Value) (x6 x8 : Int32) (x9 x10 : Option Value) (y : Option (Nat × List Int64)) : Prop :=
  (y = none → ∀ (R' : Nat → Int64), Q (some (.int BRK), stM G 55 R')) ∧
  (∀ x, y = some x → ∀ (R' : Nat → Int64) (x11 x13 : Option Value), RS R' x.2 → WP (k_Machine_run_469 K) [x0, x1, x2, x3, x4, some (.int (nI x.1)), some (.int x6), some (.int (nI x.2.length)), some (.int x8), x9, x10, x11, none, x13, none] [] (stM G 55 R') Q)
theorem mc_len {I : Nat → Nat × Nat} {env : Nat → Int64} {k : Nat} {st : List Int64} {y : Option (Nat × List Int64)} (hy : mst I env k st = some y) : st.length < 64 := by
  rcases Nat.lt_or_ge st.length 64 with q | q
  · exact q
  · unfold mst at hy
    rw [if_pos q] at hy
    cases hy
theorem mc_leaf {G : XH} (hC : CS G) {Q : XR → Prop} {K : XK} {I : Nat → Nat × Nat} {env : Nat → Int64} {k wa nw : Nat} {st : List Int64} {R : Nat → Int64} {x1 x2 x3 x11 x13 : Option Value} {x6 x8 : Int32} (h01 : (I k).1 = 0 ∨ (I k).1 = 1) (hwa : hpC G wa = 20) (hnw : hpN G wa = nw) (h31 : nw < 2 ^ 31) (hw : (I k).1 = 1 → (I k).2 < nw) (hnum : (I k).2 < 2147483648) (henv : ∀ w, w < nw → env w = (hpI G wa w).toInt64) (hR : RS R st) {y : Option (Nat × List Int64)} (hy : mst I env k st = some y)
    (h : mK G Q K (some (.ref 54)) x1 x2 x3 (some (.ref wa)) x6 x8 (some (.int (nI (I k).1))) (some (.int (nI (I k).2))) y) :
    WP (k_Machine_run_109 K) [some (.ref 54), x1, x2, x3, some (.ref wa), some (.int (nI (k + 1))), some (.int x6), some (.int (nI st.length)), some (.int x8), some (.int (nI (I k).1)), some (.int (nI (I k).2)), x11, none, x13, none] [] (stM G 55 R) Q := by
  have hl := mc_len hy
  have hl' : ¬ 64 ≤ st.length := by omega
  have key : ∀ z : Int64, WP (k_Machine_run_127 K) [some (.ref 54), x1, x2, x3, some (.ref wa), some (.int (nI (k + 1))), some (.int x6), some (.int (nI st.length)), some (.int x8), some (.int (nI (I k).1)), some (.int (nI (I k).2)), x11, none, x13, none] [.long z] (stM G 55 R) Q := by
    intro z
    have p1 : 0 ≤ nI (st.length) := nI_pos' (by omega)
    have c1 : (nI (st.length)).toNatClampNeg = st.length := nI_clamp (by omega)
    have l1 : st.length < 64 := by omega
    have e1 : nI st.length + Int32.ofInt 1 = nI (st.length + 1) := nI_1 _
    rcases h01 with i0 | i0
    · have hy' : y = some (k + 1, Int64.ofNat (I k).2 :: st) := by
        unfold mst at hy
        simp only [hl', if_false, i0, if_true] at hy
        exact (Option.some.inj hy).symm
      have h1 := h.2 _ hy' (fun j => if j = st.length then Int64.ofNat (I k).2 else R j)
      have c0 : nI 0 = 0 := rfl
      have g1 : ¬ (1 : Int32) < 0 := by decide
      have g2 : ((0 : Int32) = 0) = True := by decide
      simp only [i0, c0] at h1 ⊢
      simp only [k_Machine_run_127, k_Machine_run_158, w_iadd, w_isub, w_imul, w_iand, w_ior, w_ixor, w_ishl, w_ishr, w_iushr, w_idiv, w_irem, w_ineg, w_ladd, w_lsub, w_lmul, w_ldiv, w_lrem, w_i2l, w_l2i, w_i2c, w_lcmp, w_dup_int, w_pop_int, w_dup_ref, w_pop_ref, w_dup_retAddr, w_pop_retAddr, w_dup2, w_I, w_L, w_Null, w_Ild, w_Lld, w_Ald, w_Ist, w_Lst, w_Ast, w_Iinc, w_if_eq, w_icmp_eq, w_if_ne, w_icmp_ne, w_if_lt, w_icmp_lt, w_if_ge, w_icmp_ge, w_if_gt, w_icmp_gt, w_if_le, w_icmp_le, w_GetI, w_GetL, w_GetR, w_PutI, w_PutZ, w_PutL, w_PutR, w_PutN, w_Iald, w_Zald, w_Lald, w_Aald, w_Iast, w_Zast, w_Last, w_AastR, w_AastN, w_Alen, w_New, w_NewA, w_Mna, w_Iret, w_Zret, w_Cret, w_Bret, w_Lret, w_AretR, w_AretN, w_Vret, w_Obj, w_IfNN, w_IfNR, w_Copy, w_Cln, w_Cast, w_SfA, w_SfI, w_SfQ, w_Str, w_ScLd, w_ScLen, w_CV0, w_CS0, w_CV1, w_CS1, w_CV2, w_CS2, w_CV3, w_CS3, w_CV4, w_CS4, w_CV5, w_CS5, List.getElem?_cons_zero, List.getElem?_cons_succ, List.set_cons_zero, List.set_cons_succ, List.length_cons, List.length_nil, List.map_cons, List.map_nil, List.sum_cons, List.sum_nil, List.nil_append, List.cons_append, Option.toList_some, Option.toList_none, Value.category, xok, va_rf, true_and, and_true, and_self, Nat.reduceAdd, Nat.reduceLT, Nat.reduceLeDiff, Nat.reduceEqDiff, Nat.reduceMul, beq_self_eq_true, decide_true, ite_true, ite_false, if_true, if_false, reduceIte, Bool.true_eq_false, Bool.false_eq_true, eq_self_iff_true, Nat.zero_le, not_true_eq_false, not_false_eq_true, forall_const, false_implies, implies_true, forall_false, stM_C, stM_N, stM_R, stM_I, hC.all, g1, g2, xin, p1, c1, l1, stL_stM, e1, nI_64 hnum]
      exact h1 _ _ ⟨by simp, RS_up st (Nat.le_refl _) hR⟩
    · have hy' : y = some (k + 1, env (I k).2 :: st) := by
        unfold mst at hy
        simp only [hl', if_false, i0, if_true, show ¬ 1 = 0 by decide] at hy
        exact (Option.some.inj hy).symm
      have hw' := hw i0
      have h1 := h.2 _ hy' (fun j => if j = st.length then env (I k).2 else R j)
      have c0 : nI 1 = 1 := rfl
      have g1 : ¬ (1 : Int32) < 1 := by decide
      have g2 : ((1 : Int32) = 0) = False := by decide
      have hx := xin_nI hw' h31
      have hc2 : (nI (I k).2).toNatClampNeg = (I k).2 := nI_clamp (by omega)
      simp only [i0, c0] at h1 ⊢
      simp only [k_Machine_run_127, k_Machine_run_158, w_iadd, w_isub, w_imul, w_iand, w_ior, w_ixor, w_ishl, w_ishr, w_iushr, w_idiv, w_irem, w_ineg, w_ladd, w_lsub, w_lmul, w_ldiv, w_lrem, w_i2l, w_l2i, w_i2c, w_lcmp, w_dup_int, w_pop_int, w_dup_ref, w_pop_ref, w_dup_retAddr, w_pop_retAddr, w_dup2, w_I, w_L, w_Null, w_Ild, w_Lld, w_Ald, w_Ist, w_Lst, w_Ast, w_Iinc, w_if_eq, w_icmp_eq, w_if_ne, w_icmp_ne, w_if_lt, w_icmp_lt, w_if_ge, w_icmp_ge, w_if_gt, w_icmp_gt, w_if_le, w_icmp_le, w_GetI, w_GetL, w_GetR, w_PutI, w_PutZ, w_PutL, w_PutR, w_PutN, w_Iald, w_Zald, w_Lald, w_Aald, w_Iast, w_Zast, w_Last, w_AastR, w_AastN, w_Alen, w_New, w_NewA, w_Mna, w_Iret, w_Zret, w_Cret, w_Bret, w_Lret, w_AretR, w_AretN, w_Vret, w_Obj, w_IfNN, w_IfNR, w_Copy, w_Cln, w_Cast, w_SfA, w_SfI, w_SfQ, w_Str, w_ScLd, w_ScLen, w_CV0, w_CS0, w_CV1, w_CS1, w_CV2, w_CS2, w_CV3, w_CS3, w_CV4, w_CS4, w_CV5, w_CS5, List.getElem?_cons_zero, List.getElem?_cons_succ, List.set_cons_zero, List.set_cons_succ, List.length_cons, List.length_nil, List.map_cons, List.map_nil, List.sum_cons, List.sum_nil, List.nil_append, List.cons_append, Option.toList_some, Option.toList_none, Value.category, xok, va_rf, true_and, and_true, and_self, Nat.reduceAdd, Nat.reduceLT, Nat.reduceLeDiff, Nat.reduceEqDiff, Nat.reduceMul, beq_self_eq_true, decide_true, ite_true, ite_false, if_true, if_false, reduceIte, Bool.true_eq_false, Bool.false_eq_true, eq_self_iff_true, Nat.zero_le, not_true_eq_false, not_false_eq_true, forall_const, false_implies, implies_true, forall_false, stM_C, stM_N, stM_R, stM_I, hC.all, g1, g2, p1, c1, l1, stL_stM, e1, hwa, hnw, hx, hc2, ← henv _ hw']
      refine ⟨hx, ⟨p1, by rw [c1]; exact l1⟩, h1 _ _ ⟨by simp, RS_up st (Nat.le_refl _) hR⟩⟩
  simp only [k_Machine_run_109, w_iadd, w_isub, w_imul, w_iand, w_ior, w_ixor, w_ishl, w_ishr, w_iushr, w_idiv, w_irem, w_ineg, w_ladd, w_lsub, w_lmul, w_ldiv, w_lrem, w_i2l, w_l2i, w_i2c, w_lcmp, w_dup_int, w_pop_int, w_dup_ref, w_pop_ref, w_dup_retAddr, w_pop_retAddr, w_dup2, w_I, w_L, w_Null, w_Ild, w_Lld, w_Ald, w_Ist, w_Lst, w_Ast, w_Iinc, w_if_eq, w_icmp_eq, w_if_ne, w_icmp_ne, w_if_lt, w_icmp_lt, w_if_ge, w_icmp_ge, w_if_gt, w_icmp_gt, w_if_le, w_icmp_le, w_GetI, w_GetL, w_GetR, w_PutI, w_PutZ, w_PutL, w_PutR, w_PutN, w_Iald, w_Zald, w_Lald, w_Aald, w_Iast, w_Zast, w_Last, w_AastR, w_AastN, w_Alen, w_New, w_NewA, w_Mna, w_Iret, w_Zret, w_Cret, w_Bret, w_Lret, w_AretR, w_AretN, w_Vret, w_Obj, w_IfNN, w_IfNR, w_Copy, w_Cln, w_Cast, w_SfA, w_SfI, w_SfQ, w_Str, w_ScLd, w_ScLen, w_CV0, w_CS0, w_CV1, w_CS1, w_CV2, w_CS2, w_CV3, w_CS3, w_CV4, w_CS4, w_CV5, w_CS5, List.getElem?_cons_zero, List.getElem?_cons_succ, List.set_cons_zero, List.set_cons_succ, List.length_cons, List.length_nil, List.map_cons, List.map_nil, List.sum_cons, List.sum_nil, List.nil_append, List.cons_append, Option.toList_some, Option.toList_none, Value.category, xok, va_rf, true_and, and_true, and_self, Nat.reduceAdd, Nat.reduceLT, Nat.reduceLeDiff, Nat.reduceEqDiff, Nat.reduceMul, beq_self_eq_true, decide_true, ite_true, ite_false, if_true, if_false, reduceIte, Bool.true_eq_false, Bool.false_eq_true, eq_self_iff_true, Nat.zero_le, not_true_eq_false, not_false_eq_true, forall_const, false_implies, implies_true, forall_false, stM_C, stM_N, stM_R, hC.all]
  refine ⟨fun _ => key _, fun g => ?_⟩
  have h0 : 0 < st.length := by
    rcases Nat.eq_zero_or_pos st.length with q | q
    · rw [q] at g
      exact absurd (by decide) g
    · exact q
  obtain ⟨n, hn⟩ : ∃ n, st.length = n + 1 := ⟨st.length - 1, by omega⟩
  have eP : nI st.length - 1 = nI n := by rw [hn]; exact nI_sub (a := n + 1) (b := 1) (by omega)
  rw [eP]
  exact ⟨xin_nI (by omega) (by decide), key _⟩
