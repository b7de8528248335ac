theorem n18 {o : Nat} (h1 : 2 ≤ o) (h2 : o ≤ 9) (j : Nat) (hj : j < 28) : (nI (18 + o) = nI j) = (18 + o = j) := by
  apply propext
  constructor
  · exact fun q => (nI_eq (by omega) (by omega)).mp q
  · rintro rfl
    rfl
theorem rkH_ev {G : XH} {R : Nat → Int64} {op : Int32} {x : Int64} {o : Nat} (h1 : 2 ≤ o) (h2 : o ≤ 9) (h3 : op = nI (18 + o)) : rkH op x (evG R 0 G) = evG R (if (o = 5 ∨ o = 6) ∧ x = 0 then 1 else 0) G := by
  subst h3
  unfold rkH
  have e5 : (nI (18 + o) = 23) = (o = 5) := (n18 h1 h2 23 (by omega)).trans (propext (by omega))
  have e6 : (nI (18 + o) = 24) = (o = 6) := (n18 h1 h2 24 (by omega)).trans (propext (by omega))
  simp only [e5, e6]
  by_cases g : o = 5 ∨ o = 6
  · simp only [g, if_true, true_and, ev_bb]
  · simp only [g, if_false, false_and]
theorem rk_mop {op : Int32} {a b : Int64} {o : Nat} (h1 : 2 ≤ o) (h2 : o ≤ 9) (hb : ¬ ((o = 5 ∨ o = 6) ∧ b = 0)) (h3 : op = nI (18 + o)) : rk op a b = mop o a b := by
  subst h3
  rcases (by omega : o = 2 ∨ o = 3 ∨ o = 4 ∨ o = 5 ∨ o = 6 ∨ o = 7 ∨ o = 8 ∨ o = 9) with rfl | rfl | rfl | rfl | rfl | rfl | rfl | rfl
  · rfl
  · rfl
  · rfl
  · have : ¬ b = 0 := fun q => hb ⟨Or.inl rfl, q⟩
    exact (if_neg this : (if b = 0 then 0 else a / b) = a / b)
  · have : ¬ b = 0 := fun q => hb ⟨Or.inr rfl, q⟩
    exact (if_neg this : (if b = 0 then 0 else a - a / b * b) = a - a / b * b)
  · rfl
  · rfl
  · rfl
theorem ra_bin {G : XH} (hM : MS G) (Q : XR → Prop) (od : Bool) (ho : hpI G 70 20 = if od then 1 else 0) (I : Nat → Nat × Nat) (k : Nat) (hk : k < 400) (p q op arg : Int32) (o6 : Option Value) (i1 : 2 ≤ (I k).1) (i2 : (I k).1 ≤ 9) (i3 : op = nI (18 + (I k).1)) (st : List Int64) (R : Nat → Int64) (hR : RS R st) (K : XK) (y : Option (Nat × List Int64)) (hy : mst I (menv od G) k st = some y)
    (h0 : y = none → ∀ (R' : Nat → Int64) (n' : Nat), WP K [some (.ref 70), some (.int p), some (.int q), some (.int (nI n')), some (.int (nI (k + 1))), some (.int op), some (.int arg)] [] (evG R' 1 G) Q)
    (h1 : ∀ x, y = some x → ∀ (R' : Nat → Int64), RS R' x.2 → WP K [some (.ref 70), some (.int p), some (.int q), some (.int (nI x.2.length)), some (.int (nI x.1)), some (.int op), some (.int arg)] [] (evG R' 0 G) Q) :
    WP (k_Mdl_reckonAll_95 K) [some (.ref 70), some (.int p), some (.int q), some (.int (nI st.length)), some (.int (nI k)), some (.int op), o6] [.int arg] (evG R 0 G) Q := by
  have hM' : MS (evG R 0 G) := hM
  have hl : st.length < 64 := by
    rcases Nat.lt_or_ge st.length 64 with q | q
    · exact q
    · unfold mst at hy
      rw [if_pos q] at hy
      cases hy
  have hx := xin_nI (n := st.length) (m := 400) (by omega) (by decide)
  have hc : (nI st.length).toNatClampNeg = st.length := nI_clamp (by omega)
  have e1 : nI k + Int32.ofInt 1 = nI (k + 1) := nI_1 k
  have hl' : ¬ 64 ≤ st.length := by omega
  obtain ⟨B, C, u, v, hu, hv, hB⟩ : ∃ B C u v, u = -1000000000 ∧ v = 1000000000 ∧ k_Mdl_reckonAll_95 K = (xIst 6 (xIinc 4 1 (xIld 5 (xI 20 (xicmp_ge (xIld 5 (xI 28 (xicmp_ge B (xIinc 3 (-1) (xAld 0 (xGetR 11 37 (xIld 3 (xI 1 (xisub (xAld 0 (xIld 5 (xAld 0 (xGetR 11 37 (xIld 3 (xI 1 (xisub (xLaldh (xAld 0 (xGetR 11 37 (xIld 3 (xLaldh (xCallV 11 3 D_Mdl_reckon (xLasth (xAld 0 (xAld 0 (xGetI 11 38 (xif_ne (k_Mdl_reckonAll_264 K) (xAld 0 (xGetR 11 37 (xIld 3 (xI 1 (xisub (xLaldh (xL u (xL v (k_Mdl_reckonAll_258 K)))))))))))))))))))))))))))))))))))) C))))) := ⟨_, _, _, _, rfl, rfl, rfl⟩
  have c1 : (20 : Int32) ≤ op := by rw [i3]; exact nI_le (a := 20) (by omega) (by omega)
  have c2 : ¬ (28 : Int32) ≤ op := by rw [i3]; exact fun q => absurd ((nI_leI (a := 28) (by decide) (by omega)).mp q) (by omega)
  have o0 : ¬ (I k).1 = 0 := by omega
  have o1 : ¬ (I k).1 = 1 := by omega
  have o10 : ¬ (I k).1 = 10 := by omega
  have o11 : ¬ (I k).1 = 11 := by omega
  have o12 : ¬ (I k).1 = 12 := by omega
  cases st with
  | nil =>
    unfold mst at hy
    simp only [List.length_nil, show ¬ 64 ≤ 0 by decide, if_false, o0, o1, reduceIte] at hy
    cases hy
  | cons x r =>
    cases r with
    | nil =>
      unfold mst at hy
      simp only [hl', if_false, o0, o1, o10, o11, o12, reduceIte] at hy
      cases hy
    | cons z r =>
      simp only [List.length_cons] at hl hl' hx hc
      have eP : nI (r.length + 1) - 1 = nI r.length := nI_sub (a := r.length + 1) (b := 1) (by omega)
      have eQ : nI (r.length + 1 + 1) + Int32.ofInt (-1) = nI (r.length + 1) := by rw [show Int32.ofInt (-1) = -1 by decide, ← Int32.sub_eq_add_neg]; exact nI_sub (a := r.length + 1 + 1) (b := 1) (by omega)
      have hx1 := xin_nI (n := r.length) (m := 400) (by omega) (by decide)
      have hx2 := xin_nI (n := r.length + 1) (m := 400) (by omega) (by decide)
      have hc1 : (nI r.length).toNatClampNeg = r.length := nI_clamp (by omega)
      have hc2 : (nI (r.length + 1)).toNatClampNeg = r.length + 1 := nI_clamp (by omega)
      have q1 : R (r.length + 1) = x := hR.1
      have q2 : R r.length = z := hR.2.1
      have hrk := fun Q => s_reckon hM' Q op z x
      rw [rkH_ev i1 i2 i3] at hrk
      by_cases hb : ((I k).1 = 5 ∨ (I k).1 = 6) ∧ x = 0
      · rw [if_pos hb] at hrk
        have hM2 : MS (evG R 1 G) := hM
        have hM3 : MS (evG (fun j => if j = r.length then rk op z x else R j) 1 G) := hM
        have hy' : y = none := by
          unfold mst at hy
          have hn : mbin (I k).1 z x = none := by unfold mbin; rw [if_pos hb]
          simp only [List.length_cons, hl', if_false, o0, o1, o10, o11, o12, hn, reduceIte] at hy
          exact (Option.some.inj hy).symm
        have n1 : ¬ (1 : Int32) = 0 := by decide
        simp only [hB, k_Mdl_reckonAll_258, k_Mdl_reckonAll_264, k_Mdl_reckonAll_269, k_Mdl_reckonAll_337, w_iadd, w_isub, w_imul, w_iand, w_ior, w_ixor, w_ishl, w_ishr, w_iushr, w_idiv, w_irem, w_ineg, w_ladd, w_lsub, w_lmul, w_ldiv, w_lrem, w_i2l, w_l2i, w_i2c, w_lcmp, w_dup_int, w_pop_int, w_dup_ref, w_pop_ref, w_dup_retAddr, w_pop_retAddr, w_dup2, w_I, w_L, w_Null, w_Ild, w_Lld, w_Ald, w_Ist, w_Lst, w_Ast, w_Iinc, w_if_eq, w_icmp_eq, w_if_ne, w_icmp_ne, w_if_lt, w_icmp_lt, w_if_ge, w_icmp_ge, w_if_gt, w_icmp_gt, w_if_le, w_icmp_le, w_GetI, w_GetL, w_GetR, w_PutI, w_PutZ, w_PutL, w_PutR, w_PutN, w_Iald, w_Zald, w_Lald, w_Aald, w_Iast, w_Zast, w_Last, w_AastR, w_AastN, w_Alen, w_New, w_NewA, w_Mna, w_Iret, w_Zret, w_Cret, w_Bret, w_Lret, w_AretR, w_AretN, w_Vret, w_Obj, w_IfNN, w_IfNR, w_Copy, w_Cln, w_Cast, w_SfA, w_SfI, w_SfQ, w_Str, w_ScLd, w_ScLen, w_CV0, w_CS0, w_CV1, w_CS1, w_CV2, w_CS2, w_CV3, w_CS3, w_CV4, w_CS4, w_CV5, w_CS5, List.getElem?_cons_zero, List.getElem?_cons_succ, List.set_cons_zero, List.set_cons_succ, List.length_cons, List.length_nil, List.map_cons, List.map_nil, List.sum_cons, List.sum_nil, List.nil_append, List.cons_append, Option.toList_some, Option.toList_none, Value.category, xok, va_rf, true_and, and_true, and_self, Nat.reduceAdd, Nat.reduceLT, Nat.reduceLeDiff, Nat.reduceEqDiff, Nat.reduceMul, beq_self_eq_true, decide_true, ite_true, ite_false, if_true, if_false, reduceIte, Bool.true_eq_false, Bool.false_eq_true, eq_self_iff_true, Nat.zero_le, not_true_eq_false, not_false_eq_true, forall_const, false_implies, implies_true, forall_false, hM'.all, hM2.all, e1, c1, c2, eP, eQ, hx1, hc1, hx2, hc2, ev_R, q1, q2, hrk, ev_st, ev_b, ev_bb, n1, hM3.all]
        exact ⟨hx1, hx2, hx1, Or.inr trivial, h0 hy' _ _⟩
      · rw [if_neg hb] at hrk
        have hM3 : MS (evG (fun j => if j = r.length then mop (I k).1 z x else R j) 0 G) := hM
        rw [rk_mop i1 i2 hb i3] at hrk
        simp only [hB, k_Mdl_reckonAll_258, k_Mdl_reckonAll_264, k_Mdl_reckonAll_269, k_Mdl_reckonAll_337, w_iadd, w_isub, w_imul, w_iand, w_ior, w_ixor, w_ishl, w_ishr, w_iushr, w_idiv, w_irem, w_ineg, w_ladd, w_lsub, w_lmul, w_ldiv, w_lrem, w_i2l, w_l2i, w_i2c, w_lcmp, w_dup_int, w_pop_int, w_dup_ref, w_pop_ref, w_dup_retAddr, w_pop_retAddr, w_dup2, w_I, w_L, w_Null, w_Ild, w_Lld, w_Ald, w_Ist, w_Lst, w_Ast, w_Iinc, w_if_eq, w_icmp_eq, w_if_ne, w_icmp_ne, w_if_lt, w_icmp_lt, w_if_ge, w_icmp_ge, w_if_gt, w_icmp_gt, w_if_le, w_icmp_le, w_GetI, w_GetL, w_GetR, w_PutI, w_PutZ, w_PutL, w_PutR, w_PutN, w_Iald, w_Zald, w_Lald, w_Aald, w_Iast, w_Zast, w_Last, w_AastR, w_AastN, w_Alen, w_New, w_NewA, w_Mna, w_Iret, w_Zret, w_Cret, w_Bret, w_Lret, w_AretR, w_AretN, w_Vret, w_Obj, w_IfNN, w_IfNR, w_Copy, w_Cln, w_Cast, w_SfA, w_SfI, w_SfQ, w_Str, w_ScLd, w_ScLen, w_CV0, w_CS0, w_CV1, w_CS1, w_CV2, w_CS2, w_CV3, w_CS3, w_CV4, w_CS4, w_CV5, w_CS5, List.getElem?_cons_zero, List.getElem?_cons_succ, List.set_cons_zero, List.set_cons_succ, List.length_cons, List.length_nil, List.map_cons, List.map_nil, List.sum_cons, List.sum_nil, List.nil_append, List.cons_append, Option.toList_some, Option.toList_none, Value.category, xok, va_rf, true_and, and_true, and_self, Nat.reduceAdd, Nat.reduceLT, Nat.reduceLeDiff, Nat.reduceEqDiff, Nat.reduceMul, beq_self_eq_true, decide_true, ite_true, ite_false, if_true, if_false, reduceIte, Bool.true_eq_false, Bool.false_eq_true, eq_self_iff_true, Nat.zero_le, not_true_eq_false, not_false_eq_true, forall_const, false_implies, implies_true, forall_false, hM'.all, e1, c1, c2, eP, eQ, hx1, hc1, hx2, hc2, ev_R, q1, q2, hrk, ev_st, ev_b, ev_bb, hM3.all, s_in]
        refine ⟨hx1, hx2, hx1, hx1, ?_⟩
        have hm : mbin (I k).1 z x = if u ≤ mop (I k).1 z x ∧ mop (I k).1 z x ≤ v then some (mop (I k).1 z x) else none := by
          unfold mbin
          rw [if_neg hb, ← hu, ← hv]
          by_cases g : u ≤ mop (I k).1 z x ∧ mop (I k).1 z x ≤ v
          · rw [if_pos g, if_neg]
            rintro (q | q)
            · exact absurd g.1 (Int64.not_le.mpr q)
            · exact absurd g.2 (Int64.not_le.mpr q)
          · rw [if_neg g, if_pos]
            rcases Decidable.em (mop (I k).1 z x < u) with q | q
            · exact Or.inl q
            · exact Or.inr (Int64.not_le.mp fun q2 => g ⟨Int64.not_lt.mp q, q2⟩)
        unfold mst at hy
        simp only [List.length_cons, hl', if_false, o0, o1, o10, o11, o12, reduceIte] at hy
        rw [hm] at hy
        by_cases g : u ≤ mop (I k).1 z x ∧ mop (I k).1 z x ≤ v
        · rw [if_pos g] at hy ⊢
          refine ⟨fun q => absurd q (by decide), fun _ => ⟨Or.inl trivial, ?_⟩⟩
          exact h1 _ (Option.some.inj hy).symm _ ⟨by simp, RS_up r (Nat.le_refl _) hR.2.2⟩
        · rw [if_neg g] at hy ⊢
          refine ⟨fun _ => ⟨Or.inr trivial, ?_⟩, fun q => absurd rfl q⟩
          exact h0 (Option.some.inj hy).symm _ _
