theorem VW_0 {s R : Nat → Int32} (hs : ∀ j, j < 138 → s j = if j = 1 then 10 else 0) (hR : ∀ j, j < 180 → R j = r0F j) : VW s R := by
  have h0 : ∀ j, j < 141 → ¬ j = 4 → ¬ j = 6 → R j = 0 := fun j h1 h2 h3 => by
    rw [hR j (by omega)]
    unfold r0F
    rw [if_neg h2, if_neg h3, if_neg (by omega)]
  have h6 : R 6 = 10 := by
    rw [hR 6 (by omega)]
    rfl
  have s0 : ∀ j, j < 138 → ¬ j = 1 → s j = 0 := fun j h1 h2 => by rw [hs j h1, if_neg h2]
  have s1 : s 1 = 10 := by rw [hs 1 (by omega)]; rfl
  refine ⟨fun k hk => ?_, by rw [s0 4 (by omega) (by omega), h0 1 (by omega) (by omega) (by omega)], by rw [s0 5 (by omega) (by omega), h0 2 (by omega) (by omega) (by omega)], fun r f hr hf => by rw [s0 _ (by omega) (by omega), h0 _ (by omega) (by omega) (by omega)], fun l f hl hf => by rw [s0 _ (by omega) (by omega), h0 _ (by omega) (by omega) (by omega)]⟩
  by_cases e : k = 1
  · rw [e, s1]
    exact h6.symm
  · rw [s0 k (by omega) e, h0 (5 + k) (by omega) (by omega) (by omega)]
def X00 (R : Nat → Int32) : XDt := ((R, fun _ => (0, fun _ => 0, fun _ _ => none, fun _ _ => none)), (0, fun _ => 0, fun _ _ => 0), (0, fun _ => 0), (0, -1, -1, 0), fun _ => 0, (0, fun _ _ => 0), fun _ => none)
theorem bth0 {G : XH} (h : IN0 G) : Bth G (X00 (hpI G 72)) 0 := by
  obtain ⟨hC, hM, hU, hZ, hS, hR, hs, hl, f5, f6, f7, hla, u3, u2, tl, b1, b2, b3, b4, hrf, hdr, him, mo, mu, mt, mb, mf, ms, mst, mrf, mdr, mik, k1, k2, k3⟩ := h
  have r0 : hpI G 72 0 = 0 := hR 0 (by omega)
  have r1 : hpI G 72 1 = 0 := hR 1 (by omega)
  have r2 : hpI G 72 2 = 0 := hR 2 (by omega)
  have r3 : hpI G 72 3 = 0 := hR 3 (by omega)
  have r4 : hpI G 72 4 = -1 := hR 4 (by omega)
  have r5 : hpI G 72 5 = 0 := hR 5 (by omega)
  have r6 : hpI G 72 6 = 10 := hR 6 (by omega)
  have r7 : hpI G 72 7 = 0 := hR 7 (by omega)
  have r8 : hpI G 72 8 = 0 := hR 8 (by omega)
  have z0 : (0 : Int32).toNatClampNeg = 0 := by decide
  refine ⟨⟨⟨hC, hU, by omega⟩, ⟨VW_0 hs hR, fun j hj => ?_, fun r hr => ?_, f5.trans r0.symm, f6.trans r3.symm, f7.trans r4.symm, fun i hi => ?_, fun k hk => Or.inl (hla k hk)⟩, ⟨0, by omega, u3, u2, fun k hk => absurd hk (Nat.not_lt_zero k)⟩, ⟨tl, fun k hk => absurd hk (Nat.not_lt_zero k)⟩, ⟨b1, b2, b3, b4⟩, hrf, ⟨hdr, fun k g hk => absurd hk (Nat.not_lt_zero k)⟩, ⟨fun k hk => him k hk, fun w0 w1 hw0 _ => ?_⟩⟩, ⟨⟨hM, ⟨k1, k2, k3⟩, mo⟩, rfl, ⟨mu, fun k hk => absurd hk (Nat.not_lt_zero k)⟩, ⟨mt, fun k hk => absurd hk (Nat.not_lt_zero k)⟩, ⟨mb, mf, ms, mst⟩, mrf, ⟨?_, fun k g hk => absurd hk (Nat.not_lt_zero k)⟩, fun k hk => mik k hk⟩, ⟨0, 0, 0, 0, fun _ => 0, fun _ => 0, ⟨⟨r1, by omega, r2, by omega, ⟨0, by omega, r5⟩, ⟨10, by omega, r6⟩, ⟨0, by omega, r7⟩, ⟨0, by omega, r8⟩, fun r hr => absurd hr (Nat.not_lt_zero r), fun l hl => absurd hl (Nat.not_lt_zero l)⟩, ⟨by omega, r0, fun j hj => absurd hj (Nat.not_lt_zero j)⟩, by omega, r3, fun i hi => absurd hi (Nat.not_lt_zero i), Or.inl r4⟩, ⟨Nat.zero_le _, fun k hk => absurd hk (Nat.not_lt_zero k)⟩, Nat.zero_le _, fun k hk => absurd hk (Nat.not_lt_zero k), Nat.zero_le _, fun k _ W hW => by cases hW⟩⟩
  · have hj' : j < (hpI G 72 0).toNatClampNeg := hj
    rw [r0, z0] at hj'
    omega
  · rw [hl r hr]
    show -1 = hpI G 72 (165 + r)
    rw [hR _ (by omega)]
    unfold r0F
    rw [if_neg (by omega), if_neg (by omega), if_pos (by omega)]
  · have hi' : i < (hpI G 72 3).toNatClampNeg := hi
    rw [r3, z0] at hi'
    omega
  · rw [him 0 (by omega)] at hw0
    cases hw0
  · rcases mdr with z | z
    · exact Or.inl z
    · exact Or.inr ⟨rfl, z⟩
theorem st0_run : ∃ G1 G2 : XH, D_Post_init [.ref 0] (stN G0 10 20) = some (none, G1) ∧ hpZ G1 = 70 ∧ D_Mdl_init [.ref 70] (stN G1 11 65) = some (none, G2) ∧ IN0 G2 := by
  have h := ok0_t
  unfold ok0 at h
  cases hs : st0 with
  | none =>
    rw [hs] at h
    cases h
  | some z =>
    rw [hs] at h
    simp only [Bool.and_eq_true, decide_eq_true_eq] at h
    obtain ⟨hz, hI⟩ := h
    have hI2 := hI
    unfold st0 at hs
    split at hs
    · next G1 h1 =>
      split at hs
      · next G2 h2 =>
        injection hs with hs
        subst hs
        dsimp only at hz hI2
        rw [hz] at h2
        exact ⟨G1, G2, h1, hz, h2, hI2⟩
      · cases hs
    · cases hs
theorem whole_all (L : Nat) (xs : Nat → Int32) (hL : L ≤ 3072) : ∃ G' : XH, k_Law_law_0 L xs [some (.retAddr 128), none, none, none] [] G0 = some (some (.int 1), G') ∧ hpZ G' ≤ 600000 ∧ hpS G' ≤ 7302249 := by
  obtain ⟨G1, G2, h1, hz, h2, hI⟩ := st0_run
  have hB := bth0 hI
  have z105 : hpZ G2 = 105 := hI.2.2.2.1
  have s7 : hpS G2 ≤ 7000000 := hI.2.2.2.2.1
  have key : WP (k_Law_law_0 L xs) [some (.retAddr 128), none, none, none] [] G0 (fun z => z.1 = some (.int 1) ∧ hpZ z.2 ≤ 600000 ∧ hpS z.2 ≤ 7302249) := by
    have c0 : hpC (stN G0 10 20) 0 = 10 := rfl
    have c70 : hpC (stN G1 11 65) 70 = 11 := by
      have : hpC (stN G1 11 65) (hpZ G1) = 11 := sN_C
      rw [hz] at this
      exact this
    have zz : hpZ G0 = 0 := rfl
    have p1 : ∀ F : XR → Prop, F (none, G1) → SP D_Post_init [.ref 0] (stN G0 10 20) F := fun F hF => ⟨_, h1, hF⟩
    have p2 : ∀ F : XR → Prop, F (none, G2) → SP D_Mdl_init [.ref 70] (stN G1 11 65) F := fun F hF => ⟨_, h2, hF⟩
    obtain ⟨Ga, hGa⟩ : ∃ Ga, Ga = stN G0 10 20 := ⟨_, rfl⟩
    obtain ⟨Gb, hGb⟩ : ∃ Gb, Gb = stN G1 11 65 := ⟨_, rfl⟩
    rw [← hGa] at c0 p1
    rw [← hGb] at c70 p2
    simp only [k_Law_law_0, w_iadd, w_isub, w_imul, w_iand, w_ior, w_ixor, w_ishl, w_ishr, w_iushr, w_idiv, w_irem, w_ineg, w_ladd, w_lsub, w_lmul, w_ldiv, w_lrem, w_i2l, w_l2i, w_i2c, w_lcmp, w_dup_int, w_pop_int, w_dup_ref, w_pop_ref, w_dup_retAddr, w_pop_retAddr, w_dup2, w_I, w_L, w_Null, w_Ild, w_Lld, w_Ald, w_Ist, w_Lst, w_Ast, w_Iinc, w_if_eq, w_icmp_eq, w_if_ne, w_icmp_ne, w_if_lt, w_icmp_lt, w_if_ge, w_icmp_ge, w_if_gt, w_icmp_gt, w_if_le, w_icmp_le, w_GetI, w_GetL, w_GetR, w_PutI, w_PutZ, w_PutL, w_PutR, w_PutN, w_Iald, w_Zald, w_Lald, w_Aald, w_Iast, w_Zast, w_Last, w_AastR, w_AastN, w_Alen, w_New, w_NewA, w_Mna, w_Iret, w_Zret, w_Cret, w_Bret, w_Lret, w_AretR, w_AretN, w_Vret, w_Obj, w_IfNN, w_IfNR, w_Copy, w_Cln, w_Cast, w_SfA, w_SfI, w_SfQ, w_Str, w_ScLd, w_ScLen, w_CV0, w_CS0, w_CV1, w_CS1, w_CV2, w_CS2, w_CV3, w_CS3, w_CV4, w_CS4, w_CV5, w_CS5, List.getElem?_cons_zero, List.getElem?_cons_succ, List.set_cons_zero, List.set_cons_succ, List.length_cons, List.length_nil, List.map_cons, List.map_nil, List.sum_cons, List.sum_nil, List.nil_append, List.cons_append, Option.toList_some, Option.toList_none, Value.category, xok, va_rf, true_and, and_true, and_self, Nat.reduceAdd, Nat.reduceLT, Nat.reduceLeDiff, Nat.reduceEqDiff, Nat.reduceMul, beq_self_eq_true, decide_true, ite_true, ite_false, if_true, if_false, reduceIte, Bool.true_eq_false, Bool.false_eq_true, eq_self_iff_true, Nat.zero_le, not_true_eq_false, not_false_eq_true, forall_const, false_implies, implies_true, forall_false, zz, ← hGa, c0, ne10, ne10L, ne01, ne01L, tt_imp, nt_imp, ff_imp, nf_imp, true_and, and_true, true_or, or_true, reduceIte]
    refine p1 _ ?_
    simp only [w_iadd, w_isub, w_imul, w_iand, w_ior, w_ixor, w_ishl, w_ishr, w_iushr, w_idiv, w_irem, w_ineg, w_ladd, w_lsub, w_lmul, w_ldiv, w_lrem, w_i2l, w_l2i, w_i2c, w_lcmp, w_dup_int, w_pop_int, w_dup_ref, w_pop_ref, w_dup_retAddr, w_pop_retAddr, w_dup2, w_I, w_L, w_Null, w_Ild, w_Lld, w_Ald, w_Ist, w_Lst, w_Ast, w_Iinc, w_if_eq, w_icmp_eq, w_if_ne, w_icmp_ne, w_if_lt, w_icmp_lt, w_if_ge, w_icmp_ge, w_if_gt, w_icmp_gt, w_if_le, w_icmp_le, w_GetI, w_GetL, w_GetR, w_PutI, w_PutZ, w_PutL, w_PutR, w_PutN, w_Iald, w_Zald, w_Lald, w_Aald, w_Iast, w_Zast, w_Last, w_AastR, w_AastN, w_Alen, w_New, w_NewA, w_Mna, w_Iret, w_Zret, w_Cret, w_Bret, w_Lret, w_AretR, w_AretN, w_Vret, w_Obj, w_IfNN, w_IfNR, w_Copy, w_Cln, w_Cast, w_SfA, w_SfI, w_SfQ, w_Str, w_ScLd, w_ScLen, w_CV0, w_CS0, w_CV1, w_CS1, w_CV2, w_CS2, w_CV3, w_CS3, w_CV4, w_CS4, w_CV5, w_CS5, List.getElem?_cons_zero, List.getElem?_cons_succ, List.set_cons_zero, List.set_cons_succ, List.length_cons, List.length_nil, List.map_cons, List.map_nil, List.sum_cons, List.sum_nil, List.nil_append, List.cons_append, Option.toList_some, Option.toList_none, Value.category, xok, va_rf, true_and, and_true, and_self, Nat.reduceAdd, Nat.reduceLT, Nat.reduceLeDiff, Nat.reduceEqDiff, Nat.reduceMul, beq_self_eq_true, decide_true, ite_true, ite_false, if_true, if_false, reduceIte, Bool.true_eq_false, Bool.false_eq_true, eq_self_iff_true, Nat.zero_le, not_true_eq_false, not_false_eq_true, forall_const, false_implies, implies_true, forall_false, hz, ← hGb, c70, ne10, ne10L, ne01, ne01L, tt_imp, nt_imp, ff_imp, nf_imp, true_and, and_true, true_or, or_true, reduceIte]
    refine p2 _ ?_
    simp only [w_iadd, w_isub, w_imul, w_iand, w_ior, w_ixor, w_ishl, w_ishr, w_iushr, w_idiv, w_irem, w_ineg, w_ladd, w_lsub, w_lmul, w_ldiv, w_lrem, w_i2l, w_l2i, w_i2c, w_lcmp, w_dup_int, w_pop_int, w_dup_ref, w_pop_ref, w_dup_retAddr, w_pop_retAddr, w_dup2, w_I, w_L, w_Null, w_Ild, w_Lld, w_Ald, w_Ist, w_Lst, w_Ast, w_Iinc, w_if_eq, w_icmp_eq, w_if_ne, w_icmp_ne, w_if_lt, w_icmp_lt, w_if_ge, w_icmp_ge, w_if_gt, w_icmp_gt, w_if_le, w_icmp_le, w_GetI, w_GetL, w_GetR, w_PutI, w_PutZ, w_PutL, w_PutR, w_PutN, w_Iald, w_Zald, w_Lald, w_Aald, w_Iast, w_Zast, w_Last, w_AastR, w_AastN, w_Alen, w_New, w_NewA, w_Mna, w_Iret, w_Zret, w_Cret, w_Bret, w_Lret, w_AretR, w_AretN, w_Vret, w_Obj, w_IfNN, w_IfNR, w_Copy, w_Cln, w_Cast, w_SfA, w_SfI, w_SfQ, w_Str, w_ScLd, w_ScLen, w_CV0, w_CS0, w_CV1, w_CS1, w_CV2, w_CS2, w_CV3, w_CS3, w_CV4, w_CS4, w_CV5, w_CS5, List.getElem?_cons_zero, List.getElem?_cons_succ, List.set_cons_zero, List.set_cons_succ, List.length_cons, List.length_nil, List.map_cons, List.map_nil, List.sum_cons, List.sum_nil, List.nil_append, List.cons_append, Option.toList_some, Option.toList_none, Value.category, xok, va_rf, true_and, and_true, and_self, Nat.reduceAdd, Nat.reduceLT, Nat.reduceLeDiff, Nat.reduceEqDiff, Nat.reduceMul, beq_self_eq_true, decide_true, ite_true, ite_false, if_true, if_false, reduceIte, Bool.true_eq_false, Bool.false_eq_true, eq_self_iff_true, Nat.zero_le, not_true_eq_false, not_false_eq_true, forall_const, false_implies, implies_true, forall_false, ne10, ne10L, ne01, ne01L, tt_imp, nt_imp, ff_imp, nf_imp, true_and, and_true, true_or, or_true, reduceIte]
    exact law_loop hL hB (by omega) s7 (Nat.le_refl _)
  obtain ⟨r, e, q1, q2, q3⟩ := key
  obtain ⟨r1, r2⟩ := r
  dsimp only at q1 q2 q3
  exact ⟨r2, by rw [e, q1], q2, q3⟩
