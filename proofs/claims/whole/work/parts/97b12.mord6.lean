theorem s_orders {G : XH} {R : Nat → Int32} {T : Nat → (Nat → Int64) → Option Int64} {hl : Bool} (hX : MX G R T hl) {n : Nat} {A B : Nat → Nat} (hRd : MRd R n A B) {nr nl c : Nat} (hR : RW R nr nl c) (hc : c + 300 ≤ 500000) {U : US} (hU : UOK U nr nl c) (hu : hpI G 70 8 = nI U.1) (hm : MU R (hpI G 75) (hpI G 76) U) {b : Nat → Nat} {len : Nat} (hT : TBm G b len) (ht : hpI G 70 13 = nI len) (hK : MKw G) : SP D_Mdl_orders [.ref 70] G (OrQ T hl A B n nr nl b len R U G) := by
  have hM := hX.1
  obtain ⟨P, hP⟩ : ∃ P : XR → Prop, P = OrQ T hl A B n nr nl b len R U G := ⟨_, rfl⟩
  rw [← hP]
  obtain ⟨G0, hG0⟩ : ∃ G0, G0 = stI (stI G 70 0 0) 70 60 (-1) := ⟨_, rfl⟩
  have f0' : Fr (fun a k => a == 70 && (k == 0 || k == 60)) G G0 := by rw [hG0]; exact (Fr.refl.wI rfl).wI rfl
  have f0 : Fr WOq G G0 := f0'.mono (fun a k z => by
    have z1 := WB_WOr a k z
    unfold WOq at z
    unfold WB at z1
    simp only [Bool.or_eq_false_iff, Bool.and_eq_false_iff] at z z1 ⊢
    rcases z.2 with y | y
    · exact Or.inl y
    · rcases z1.2 with w | w
      · exact Or.inl w
      · exact Or.inr ⟨w.1, y⟩)
  have hM0 := f0'.ms hM
  have st0 : hpI G0 70 60 = -1 := by rw [hG0, stI_up, hpI_stA, up_eq]
  have row0 : hpI G0 72 = R := (f0'.IA _ (fun _ => rfl)).trans hX.2.2.1
  have ref0 : hpI G0 71 = hpI G 71 := f0'.IA _ (fun _ => rfl)
  have nu0 : hpI G0 70 8 = nI U.1 := (f0'.I rfl).trans hu
  have un0 : hpI G0 75 = hpI G 75 := f0'.IA _ (fun _ => rfl)
  have so0 : hpI G0 76 = hpI G 76 := f0'.IA _ (fun _ => rfl)
  have hT0 := hT.fr f0' (fun _ => rfl)
  have t0 : hpI G0 70 13 = nI len := (f0'.I rfl).trans ht
  have hK0 := hK.fr f0' (fun _ => rfl) (fun _ => rfl) (fun _ => rfl)
  have h46 : ∀ (G1 : XH) (p c' : Nat) (J : Nat → Nat × Nat) (q : Nat) (bd : Bool), Fr WOq G0 G1 → hpI G1 70 60 = -1 → hpI G1 72 = R → hpI G1 71 = hpI G0 71 → UnS G0 G1 → MSC G1 bd b len true p c' J q → ((bd = true ∧ gText b len true = .error p) ∨ (bd = false ∧ p < len ∧ gText b len true = .error p) ∨ (bd = false ∧ len ≤ p ∧ ∃ L, gText b len true = .ok L ∧ TMd G1 L q)) → WP k_Mdl_orders_46 [some (.ref 70), none, none, none] [] G1 P := by
    intro G1 p c' J q bd fr1 st1 row1 ref1 un1 h1 ho
    have hM1 := h1.1.1
    simp only [k_Mdl_orders_46, w_iadd, w_isub, w_imul, w_iand, w_ior, w_ixor, w_ishl, w_ishr, w_iushr, w_idiv, w_irem, w_ineg, w_ladd, w_lsub, w_lmul, w_ldiv, w_lrem, w_i2l, w_l2i, w_i2c, w_lcmp, w_dup_int, w_pop_int, w_dup_ref, w_pop_ref, w_dup_retAddr, w_pop_retAddr, w_dup2, w_I, w_L, w_Null, w_Ild, w_Lld, w_Ald, w_Ist, w_Lst, w_Ast, w_Iinc, w_if_eq, w_icmp_eq, w_if_ne, w_icmp_ne, w_if_lt, w_icmp_lt, w_if_ge, w_icmp_ge, w_if_gt, w_icmp_gt, w_if_le, w_icmp_le, w_GetI, w_GetL, w_GetR, w_PutI, w_PutZ, w_PutL, w_PutR, w_PutN, w_Iald, w_Zald, w_Lald, w_Aald, w_Iast, w_Zast, w_Last, w_AastR, w_AastN, w_Alen, w_New, w_NewA, w_Mna, w_Iret, w_Zret, w_Cret, w_Bret, w_Lret, w_AretR, w_AretN, w_Vret, w_Obj, w_IfNN, w_IfNR, w_Copy, w_Cln, w_Cast, w_SfA, w_SfI, w_SfQ, w_Str, w_ScLd, w_ScLen, w_CV0, w_CS0, w_CV1, w_CS1, w_CV2, w_CS2, w_CV3, w_CS3, w_CV4, w_CS4, w_CV5, w_CS5, List.getElem?_cons_zero, List.getElem?_cons_succ, List.set_cons_zero, List.set_cons_succ, List.length_cons, List.length_nil, List.map_cons, List.map_nil, List.sum_cons, List.sum_nil, List.nil_append, List.cons_append, Option.toList_some, Option.toList_none, Value.category, xok, va_rf, true_and, and_true, and_self, Nat.reduceAdd, Nat.reduceLT, Nat.reduceLeDiff, Nat.reduceEqDiff, Nat.reduceMul, beq_self_eq_true, decide_true, ite_true, ite_false, if_true, if_false, reduceIte, Bool.true_eq_false, Bool.false_eq_true, eq_self_iff_true, Nat.zero_le, not_true_eq_false, not_false_eq_true, forall_const, false_implies, implies_true, forall_false, hM1.all, ne10, ne10L, ne01, ne01L, tt_imp, nt_imp, ff_imp, nf_imp, true_and, and_true, true_or, or_true, reduceIte]
    refine SP.mono (s_endTextO h1 ho) ?_
    rintro ⟨v, G2⟩ ⟨rfl, fr2, hR2, h13, h20⟩
    dsimp only at fr2 hR2 h13 h20
    have hM2 := fr2.ms hM1
    have f02 : Fr WOq G G2 := f0.trans (fr1.trans (fr2.mono WBo_WOr))
    have r2 : hpI G2 72 = R := (fr2.IA _ (fun _ => rfl)).trans row1
    have st2 : hpI G2 70 60 = -1 := (fr2.I rfl).trans st1
    have ref2 : hpI G2 71 = hpI G 71 := (fr2.IA _ (fun _ => rfl)).trans (ref1.trans ref0)
    have nu2 : hpI G2 70 8 = nI U.1 := (fr2.I rfl).trans (un1.1.trans nu0)
    have un2 : hpI G2 75 = hpI G 75 := (fr2.IA _ (fun _ => rfl)).trans (un1.2.1.trans un0)
    have so2 : hpI G2 76 = hpI G 76 := (fr2.IA _ (fun _ => rfl)).trans (un1.2.2.trans so0)
    cases hg : gText b len true with
    | error e =>
      rw [hg] at hR2
      obtain ⟨b19, b18⟩ := hR2
      have ht6 := fun Q => s_tell hM2 Q (-6) (by decide)
      simp only [Option.toList_none, List.nil_append, w_iadd, w_isub, w_imul, w_iand, w_ior, w_ixor, w_ishl, w_ishr, w_iushr, w_idiv, w_irem, w_ineg, w_ladd, w_lsub, w_lmul, w_ldiv, w_lrem, w_i2l, w_l2i, w_i2c, w_lcmp, w_dup_int, w_pop_int, w_dup_ref, w_pop_ref, w_dup_retAddr, w_pop_retAddr, w_dup2, w_I, w_L, w_Null, w_Ild, w_Lld, w_Ald, w_Ist, w_Lst, w_Ast, w_Iinc, w_if_eq, w_icmp_eq, w_if_ne, w_icmp_ne, w_if_lt, w_icmp_lt, w_if_ge, w_icmp_ge, w_if_gt, w_icmp_gt, w_if_le, w_icmp_le, w_GetI, w_GetL, w_GetR, w_PutI, w_PutZ, w_PutL, w_PutR, w_PutN, w_Iald, w_Zald, w_Lald, w_Aald, w_Iast, w_Zast, w_Last, w_AastR, w_AastN, w_Alen, w_New, w_NewA, w_Mna, w_Iret, w_Zret, w_Cret, w_Bret, w_Lret, w_AretR, w_AretN, w_Vret, w_Obj, w_IfNN, w_IfNR, w_Copy, w_Cln, w_Cast, w_SfA, w_SfI, w_SfQ, w_Str, w_ScLd, w_ScLen, w_CV0, w_CS0, w_CV1, w_CS1, w_CV2, w_CS2, w_CV3, w_CS3, w_CV4, w_CS4, w_CV5, w_CS5, List.getElem?_cons_zero, List.getElem?_cons_succ, List.set_cons_zero, List.set_cons_succ, List.length_cons, List.length_nil, List.map_cons, List.map_nil, List.sum_cons, List.sum_nil, List.nil_append, List.cons_append, Option.toList_some, Option.toList_none, Value.category, xok, va_rf, true_and, and_true, and_self, Nat.reduceAdd, Nat.reduceLT, Nat.reduceLeDiff, Nat.reduceEqDiff, Nat.reduceMul, beq_self_eq_true, decide_true, ite_true, ite_false, if_true, if_false, reduceIte, Bool.true_eq_false, Bool.false_eq_true, eq_self_iff_true, Nat.zero_le, not_true_eq_false, not_false_eq_true, forall_const, false_implies, implies_true, forall_false, hM2.all, b19, ht6, ne10, ne10L, ne01, ne01L, tt_imp, nt_imp, ff_imp, nf_imp, true_and, and_true, true_or, or_true, reduceIte]
      rw [hP]
      unfold OrQ
      rw [hg]
      refine ⟨?_, ?_, ?_, -6, rfl, tH_s, ?_, rfl, ?_, ?_, ?_, ?_, ?_, ?_⟩
      · exact f02.trans ((tH_fr Fr.refl).mono WB_WOr)
      · rw [tH_m (by decide)]; exact h13
      · rw [tH_m (by decide)]; exact h20
      · rw [tH_r, ref2]
      · rw [tH_m (by decide)]; exact b18
      · rw [tH_m (by decide)]; exact st2
      · rw [tH_f (by decide) (by decide)]; exact r2
      · rw [tH_m (by decide), nu2]; exact hu.symm
      · rw [tH_f (by decide) (by decide)]; exact un2
      · rw [tH_f (by decide) (by decide)]; exact so2
    | ok L =>
      rw [hg] at hR2
      obtain ⟨b19, b18, qf, hqf, b23, hL12, b21, J2, hCR, hPW, hCl⟩ := hR2
      have hk25 : ∀ Q, SP D_Mdl_keepAll [.ref 70, .int 25] G2 Q = Q (none, stA G2 75 (va_cpy (hpI G2 72) (hpI G2 75) 5 3400 136)) := fun Q => s_keepAll hM2 Q 25 (by omega)
      obtain ⟨G3, hG3⟩ : ∃ G3, G3 = stA G2 75 (va_cpy (hpI G2 72) (hpI G2 75) 5 3400 136) := ⟨_, rfl⟩
      have f3 : Fr (fun a _ => a == 75) G2 G3 := by rw [hG3]; exact Fr.refl.wA (fun k q => absurd q (by simp))
      have hM3 := f3.ms hM2
      have un3 : hpI G3 75 = va_cpy R (hpI G 75) 5 3400 136 := by rw [hG3, hpI_stA, r2, un2]
      have nu3 : hpI G3 70 8 = nI U.1 := (f3.I rfl).trans nu2
      obtain ⟨X2, hX2⟩ : ∃ X2 : XK, X2 = (xAld 0 (xI 0 (xPutI 11 58 (xAld 0 (xI (-1) (xPutI 11 59 (xI 0 (xIst 2 k_Mdl_orders_140)))))))) := ⟨_, rfl⟩
      have h77 : WP k_Mdl_orders_77 [some (.ref 70), some (.int (nI U.1)), some (.int (nI 0)), none] [] G3 P := by
        unfold k_Mdl_orders_77
        refine or_77 (G0 := G3) (X := xI 0 (xIst 2 k_Mdl_orders_104)) hM3 (fun K => rfl) ?_ 2176 0 G3 NF rfl Fr.refl (fun j hj => absurd hj (by omega)) (fun _ _ => rfl) (by unfold NF; omega)
        intro G4 f4 c4 _
        have hM4 := f4.ms hM3
        have h104 : WP k_Mdl_orders_104 [some (.ref 70), some (.int (nI U.1)), some (.int (nI 0)), none] [] G4 P := by
          unfold k_Mdl_orders_104
          refine or_104 (G0 := G4) (X := X2) hM4 (fun K => by rw [hX2]; rfl) ?_ 16 0 G4 NF rfl Fr.refl (fun j hj => absurd hj (by omega)) (fun _ _ => rfl) (by unfold NF; omega)
          intro G5 f5 c5 _
          have hM5 := f5.ms hM4
          obtain ⟨G6, hG6⟩ : ∃ G6, G6 = stI (stI G5 70 58 0) 70 59 (-1) := ⟨_, rfl⟩
          have f6 : Fr (fun a k => a == 70 && (k == 58 || k == 59)) G5 G6 := by rw [hG6]; exact (Fr.refl.wI rfl).wI rfl
          have hM6 := f6.ms hM5
          have A6 : hpI G6 70 = up (up (hpI G5 70) 58 0) 59 (-1) := by rw [hG6, stI_up, hpI_stA, stI_up, hpI_stA]
          have W26 : Fr (fun a k => a == 75 || a == 77 || a == 78 || (a == 70 && (k == 58 || k == 59))) G2 G6 := by
            refine (((f3.mono (fun a k z => ?_)).trans (f4.mono (fun a k z => ?_))).trans (f5.mono (fun a k z => ?_))).trans (f6.mono (fun a k z => ?_))
            all_goals (simp only [Bool.or_eq_false_iff] at z)
            · exact z.1.1.1
            · exact z.1.1.2
            · exact z.1.2
            · simp only [Bool.or_eq_false_iff, Bool.and_eq_false_iff] at z ⊢
              exact z.2
          have f06 : Fr WOq G G6 := f02.trans (W26.mono (fun a k z => by
            have z1 := WM_WHM a k (WHM_WRun a k (WRun_WOr a k z))
            have z2 := WRun_WOr a k z
            unfold WOq at z
            unfold WM at z1
            unfold WRun at z2
            simp only [Bool.or_eq_false_iff, Bool.and_eq_false_iff] at z z1 z2 ⊢
            refine ⟨⟨⟨z1.1.1, z.1.1.2⟩, z.1.2⟩, ?_⟩
            rcases z2.2 with y | y
            · exact Or.inl y
            · exact Or.inr ⟨y.1.2, y.2⟩))
          have un6 : hpI G6 75 = va_cpy R (hpI G 75) 5 3400 136 := by rw [f6.IA _ (fun _ => rfl), f5.IA _ (fun _ => rfl), f4.IA _ (fun _ => rfl)]; exact un3
          have so6 : hpI G6 76 = hpI G 76 := (W26.IA _ (fun _ => rfl)).trans so2
          have h6 : O6 T hl A B n nr nl c R U L J2 qf G6 := by
            refine ⟨⟨⟨hM6, (W26.I rfl).trans h20, (W26.IA _ (fun _ => rfl)).trans r2, hX.2.2.2⟩, ?_, ?_, (W26.I rfl).trans nu2, ?_, fun _ _ => rfl⟩, hR, hc, hU, hRd, ⟨fun k hk => ⟨(W26.I rfl).trans (hCR k hk).1, (W26.I rfl).trans (hCR k hk).2⟩, hPW, hqf⟩, hL12, (W26.I rfl).trans b21, fun i hi => ⟨by rw [W26.IA 103 (fun _ => rfl)]; exact hCl i hi, gText_ok hg i hi⟩, fun j hj => ?_, fun j hj => ?_, fun j hj => ?_, (W26.I rfl).trans st2⟩
            · rw [A6, up_ne (by decide), up_eq]; rfl
            · rw [A6, up_eq]
            · rw [so6, un6]
              exact hm.rows hU.1 rfl rfl (fun j hj => cpy_out (by omega))
            · rw [un6, cpy_in (by omega)]
              exact congrArg R (by omega)
            · rw [f6.I rfl, f5.I rfl, c4 j hj, f6.I rfl, f5.I rfl, f4.I rfl]
            · rw [f6.I rfl, c5 j hj, f6.I rfl, f5.I rfl]
          have h140 : WP k_Mdl_orders_140 [some (.ref 70), some (.int (nI U.1)), some (.int (nI 0)), none] [] G6 P := by
            unfold k_Mdl_orders_140
            refine or_140 (had := nI U.1) (Q := P) h6 (fun k G' z1 z2 z3 z4 z5 z6 z7 => ?_) (fun G' S z1 z2 z3 => ?_) L.length 0 (R, 0, -1, U) G6 NF none (by omega) Fr.refl h6.1 ⟨hR, Hi.refl, hU, Or.inl rfl⟩ (Nat.zero_le _) rfl (by unfold NF; omega)
            · rw [hP]
              unfold OrQ
              rw [hg]
              dsimp only
              rw [z7]
              refine ⟨?_, ?_, ?_, -3, rfl, tH_s, ?_, ?_, rfl, ?_, ?_, ?_, ?_⟩
              · exact (f06.trans (z1.mono WFl_WOr)).trans ((tH_fr Fr.refl).mono WB_WOr)
              · rw [tH_m (by decide), z1.I rfl, W26.I rfl]; exact h13
              · rw [tH_m (by decide)]; exact z6
              · rw [tH_r, z1.IA 71 (fun _ => rfl), W26.IA 71 (fun _ => rfl), ref2]
              · rw [tH_m (by decide), z1.I rfl, W26.I rfl]; exact b18
              · rw [tH_m (by decide)]; exact z2
              · rw [tH_f (by decide) (by decide)]; exact z3
              · rw [tH_m (by decide)]; exact z4
              · rw [tH_f (by decide) (by decide), tH_f (by decide) (by decide)]; exact z5
            · rw [hP]
              unfold OrQ
              rw [hg]
              dsimp only
              rw [z3]
              have rf : hpI G' 71 = hpI G 71 := (z1.IA _ (fun _ => rfl)).trans ((W26.IA _ (fun _ => rfl)).trans ref2)
              refine ⟨?_, ?_, ?_, nI S.2.1, rfl, tH_s, ?_, ?_, rfl, ?_, ?_, ?_, ?_⟩
              · exact (f06.trans (z1.mono WRun_WOr)).trans ((tH_fr Fr.refl).mono WB_WOr)
              · rw [tH_m (by decide), z1.I rfl, W26.I rfl]; exact h13
              · rw [tH_m (by decide)]; exact z2.1.2.1
              · rw [tH_r, rf]
              · rw [tH_m (by decide), z1.I rfl, W26.I rfl]; exact b18
              · rw [tH_m (by decide), z1.I rfl, W26.I rfl]; exact st2
              · rw [tH_f (by decide) (by decide)]; exact z2.1.2.2.1
              · rw [tH_m (by decide)]; exact z2.2.2.2.1
              · rw [tH_f (by decide) (by decide), tH_f (by decide) (by decide)]; exact z2.2.2.2.2.1
          have h5' : hpC (stI G5 70 58 0) 70 = 11 := by have := hM5.all.1; exact this
          rw [hX2]
          simp only [w_iadd, w_isub, w_imul, w_iand, w_ior, w_ixor, w_ishl, w_ishr, w_iushr, w_idiv, w_irem, w_ineg, w_ladd, w_lsub, w_lmul, w_ldiv, w_lrem, w_i2l, w_l2i, w_i2c, w_lcmp, w_dup_int, w_pop_int, w_dup_ref, w_pop_ref, w_dup_retAddr, w_pop_retAddr, w_dup2, w_I, w_L, w_Null, w_Ild, w_Lld, w_Ald, w_Ist, w_Lst, w_Ast, w_Iinc, w_if_eq, w_icmp_eq, w_if_ne, w_icmp_ne, w_if_lt, w_icmp_lt, w_if_ge, w_icmp_ge, w_if_gt, w_icmp_gt, w_if_le, w_icmp_le, w_GetI, w_GetL, w_GetR, w_PutI, w_PutZ, w_PutL, w_PutR, w_PutN, w_Iald, w_Zald, w_Lald, w_Aald, w_Iast, w_Zast, w_Last, w_AastR, w_AastN, w_Alen, w_New, w_NewA, w_Mna, w_Iret, w_Zret, w_Cret, w_Bret, w_Lret, w_AretR, w_AretN, w_Vret, w_Obj, w_IfNN, w_IfNR, w_Copy, w_Cln, w_Cast, w_SfA, w_SfI, w_SfQ, w_Str, w_ScLd, w_ScLen, w_CV0, w_CS0, w_CV1, w_CS1, w_CV2, w_CS2, w_CV3, w_CS3, w_CV4, w_CS4, w_CV5, w_CS5, List.getElem?_cons_zero, List.getElem?_cons_succ, List.set_cons_zero, List.set_cons_succ, List.length_cons, List.length_nil, List.map_cons, List.map_nil, List.sum_cons, List.sum_nil, List.nil_append, List.cons_append, Option.toList_some, Option.toList_none, Value.category, xok, va_rf, true_and, and_true, and_self, Nat.reduceAdd, Nat.reduceLT, Nat.reduceLeDiff, Nat.reduceEqDiff, Nat.reduceMul, beq_self_eq_true, decide_true, ite_true, ite_false, if_true, if_false, reduceIte, Bool.true_eq_false, Bool.false_eq_true, eq_self_iff_true, Nat.zero_le, not_true_eq_false, not_false_eq_true, forall_const, false_implies, implies_true, forall_false, hM5.all, h5', ← hG6, ne10, ne10L, ne01, ne01L, tt_imp, nt_imp, ff_imp, nf_imp, true_and, and_true, true_or, or_true, reduceIte]
          exact h140
        simp only [w_iadd, w_isub, w_imul, w_iand, w_ior, w_ixor, w_ishl, w_ishr, w_iushr, w_idiv, w_irem, w_ineg, w_ladd, w_lsub, w_lmul, w_ldiv, w_lrem, w_i2l, w_l2i, w_i2c, w_lcmp, w_dup_int, w_pop_int, w_dup_ref, w_pop_ref, w_dup_retAddr, w_pop_retAddr, w_dup2, w_I, w_L, w_Null, w_Ild, w_Lld, w_Ald, w_Ist, w_Lst, w_Ast, w_Iinc, w_if_eq, w_icmp_eq, w_if_ne, w_icmp_ne, w_if_lt, w_icmp_lt, w_if_ge, w_icmp_ge, w_if_gt, w_icmp_gt, w_if_le, w_icmp_le, w_GetI, w_GetL, w_GetR, w_PutI, w_PutZ, w_PutL, w_PutR, w_PutN, w_Iald, w_Zald, w_Lald, w_Aald, w_Iast, w_Zast, w_Last, w_AastR, w_AastN, w_Alen, w_New, w_NewA, w_Mna, w_Iret, w_Zret, w_Cret, w_Bret, w_Lret, w_AretR, w_AretN, w_Vret, w_Obj, w_IfNN, w_IfNR, w_Copy, w_Cln, w_Cast, w_SfA, w_SfI, w_SfQ, w_Str, w_ScLd, w_ScLen, w_CV0, w_CS0, w_CV1, w_CS1, w_CV2, w_CS2, w_CV3, w_CS3, w_CV4, w_CS4, w_CV5, w_CS5, List.getElem?_cons_zero, List.getElem?_cons_succ, List.set_cons_zero, List.set_cons_succ, List.length_cons, List.length_nil, List.map_cons, List.map_nil, List.sum_cons, List.sum_nil, List.nil_append, List.cons_append, Option.toList_some, Option.toList_none, Value.category, xok, va_rf, true_and, and_true, and_self, Nat.reduceAdd, Nat.reduceLT, Nat.reduceLeDiff, Nat.reduceEqDiff, Nat.reduceMul, beq_self_eq_true, decide_true, ite_true, ite_false, if_true, if_false, reduceIte, Bool.true_eq_false, Bool.false_eq_true, eq_self_iff_true, Nat.zero_le, not_true_eq_false, not_false_eq_true, forall_const, false_implies, implies_true, forall_false, ne10, ne10L, ne01, ne01L, tt_imp, nt_imp, ff_imp, nf_imp, true_and, and_true, true_or, or_true, reduceIte]
        exact h104
      simp only [Option.toList_none, List.nil_append, w_iadd, w_isub, w_imul, w_iand, w_ior, w_ixor, w_ishl, w_ishr, w_iushr, w_idiv, w_irem, w_ineg, w_ladd, w_lsub, w_lmul, w_ldiv, w_lrem, w_i2l, w_l2i, w_i2c, w_lcmp, w_dup_int, w_pop_int, w_dup_ref, w_pop_ref, w_dup_retAddr, w_pop_retAddr, w_dup2, w_I, w_L, w_Null, w_Ild, w_Lld, w_Ald, w_Ist, w_Lst, w_Ast, w_Iinc, w_if_eq, w_icmp_eq, w_if_ne, w_icmp_ne, w_if_lt, w_icmp_lt, w_if_ge, w_icmp_ge, w_if_gt, w_icmp_gt, w_if_le, w_icmp_le, w_GetI, w_GetL, w_GetR, w_PutI, w_PutZ, w_PutL, w_PutR, w_PutN, w_Iald, w_Zald, w_Lald, w_Aald, w_Iast, w_Zast, w_Last, w_AastR, w_AastN, w_Alen, w_New, w_NewA, w_Mna, w_Iret, w_Zret, w_Cret, w_Bret, w_Lret, w_AretR, w_AretN, w_Vret, w_Obj, w_IfNN, w_IfNR, w_Copy, w_Cln, w_Cast, w_SfA, w_SfI, w_SfQ, w_Str, w_ScLd, w_ScLen, w_CV0, w_CS0, w_CV1, w_CS1, w_CV2, w_CS2, w_CV3, w_CS3, w_CV4, w_CS4, w_CV5, w_CS5, List.getElem?_cons_zero, List.getElem?_cons_succ, List.set_cons_zero, List.set_cons_succ, List.length_cons, List.length_nil, List.map_cons, List.map_nil, List.sum_cons, List.sum_nil, List.nil_append, List.cons_append, Option.toList_some, Option.toList_none, Value.category, xok, va_rf, true_and, and_true, and_self, Nat.reduceAdd, Nat.reduceLT, Nat.reduceLeDiff, Nat.reduceEqDiff, Nat.reduceMul, beq_self_eq_true, decide_true, ite_true, ite_false, if_true, if_false, reduceIte, Bool.true_eq_false, Bool.false_eq_true, eq_self_iff_true, Nat.zero_le, not_true_eq_false, not_false_eq_true, forall_const, false_implies, implies_true, forall_false, stI_C, stI_N, stI_Z, stI_S, stI_L, stI_R, stL_C, stL_N, stL_Z, stL_S, stL_I, stL_R, stR_C, stR_N, stR_Z, stR_S, stR_I, stR_L, stA_C, stA_N, stA_Z, stA_S, stA_L, stA_R, stI_I, stL_L, stR_R, stA_I, stN_C, stN_N, stN_Z, stN_S, stN_I, stN_L, stN_R, stI_ne, stL_ne, stR_ne, hM2.all, b19, hk25, ← hG3, hM3.all, nu3, ne10, ne10L, ne01, ne01L, tt_imp, nt_imp, ff_imp, nf_imp, true_and, and_true, true_or, or_true, reduceIte]
      exact h77
  have hgo : SP D_Mdl_beginText [.ref 70, .int 1] G0 (fun z => WP (xAld 0 (xCallV 11 0 D_Mdl_readOrder k_Mdl_orders_19)) [some (.ref 70), none, none, none] (z.1.toList ++ []) z.2 P) := by
    refine SP.mono (s_beginText (od := true) hM0 hT0 t0 hK0) ?_
    rintro ⟨v, G1⟩ ⟨rfl, fr1, h1, h21⟩
    dsimp only at fr1 h1 h21
    have hM1 := h1.1.1
    simp only [Option.toList_none, List.nil_append, w_iadd, w_isub, w_imul, w_iand, w_ior, w_ixor, w_ishl, w_ishr, w_iushr, w_idiv, w_irem, w_ineg, w_ladd, w_lsub, w_lmul, w_ldiv, w_lrem, w_i2l, w_l2i, w_i2c, w_lcmp, w_dup_int, w_pop_int, w_dup_ref, w_pop_ref, w_dup_retAddr, w_pop_retAddr, w_dup2, w_I, w_L, w_Null, w_Ild, w_Lld, w_Ald, w_Ist, w_Lst, w_Ast, w_Iinc, w_if_eq, w_icmp_eq, w_if_ne, w_icmp_ne, w_if_lt, w_icmp_lt, w_if_ge, w_icmp_ge, w_if_gt, w_icmp_gt, w_if_le, w_icmp_le, w_GetI, w_GetL, w_GetR, w_PutI, w_PutZ, w_PutL, w_PutR, w_PutN, w_Iald, w_Zald, w_Lald, w_Aald, w_Iast, w_Zast, w_Last, w_AastR, w_AastN, w_Alen, w_New, w_NewA, w_Mna, w_Iret, w_Zret, w_Cret, w_Bret, w_Lret, w_AretR, w_AretN, w_Vret, w_Obj, w_IfNN, w_IfNR, w_Copy, w_Cln, w_Cast, w_SfA, w_SfI, w_SfQ, w_Str, w_ScLd, w_ScLen, w_CV0, w_CS0, w_CV1, w_CS1, w_CV2, w_CS2, w_CV3, w_CS3, w_CV4, w_CS4, w_CV5, w_CS5, List.getElem?_cons_zero, List.getElem?_cons_succ, List.set_cons_zero, List.set_cons_succ, List.length_cons, List.length_nil, List.map_cons, List.map_nil, List.sum_cons, List.sum_nil, List.nil_append, List.cons_append, Option.toList_some, Option.toList_none, Value.category, xok, va_rf, true_and, and_true, and_self, Nat.reduceAdd, Nat.reduceLT, Nat.reduceLeDiff, Nat.reduceEqDiff, Nat.reduceMul, beq_self_eq_true, decide_true, ite_true, ite_false, if_true, if_false, reduceIte, Bool.true_eq_false, Bool.false_eq_true, eq_self_iff_true, Nat.zero_le, not_true_eq_false, not_false_eq_true, forall_const, false_implies, implies_true, forall_false, hM1.all, ne10, ne10L, ne01, ne01L, tt_imp, nt_imp, ff_imp, nf_imp, true_and, and_true, true_or, or_true, reduceIte]
    refine SP.mono (s_readOrder h1 (by omega) h21) ?_
    rintro ⟨v2, G2⟩ ⟨rfl, fr2, hR2⟩
    dsimp only at fr2 hR2
    simp only [Option.toList_none, List.nil_append]
    have hS : StO b len (gText b len true) (12 - 1) G2 := StO_s (m := 12) (L := []) (J := fun _ => (0, 0)) (q := 0) (p := skB b len 0) (c := 0) (G := G1) rfl PWj.nil (fun i hi => absurd hi (by simp)) rfl hR2
    unfold k_Mdl_orders_19
    refine s_ord19 (G0 := G1) (o := gText b len true) (fun G3 p c J q bd z1 z2 z3 => ?_) 11 G2 NF hS fr2 (by unfold NF; omega)
    exact h46 G3 p c J q bd ((fr1.mono WBt_WOr).trans (z1.mono (fun a k z => WRo_WBo a k (WBo_WOr a k z)))) ((z1.I rfl).trans ((fr1.I rfl).trans st0)) ((z1.IA _ (fun _ => rfl)).trans ((fr1.IA _ (fun _ => rfl)).trans row0)) ((z1.IA _ (fun _ => rfl)).trans (fr1.IA _ (fun _ => rfl))) ⟨(z1.I rfl).trans (fr1.I rfl), (z1.IA _ (fun _ => rfl)).trans (fr1.IA _ (fun _ => rfl)), (z1.IA _ (fun _ => rfl)).trans (fr1.IA _ (fun _ => rfl))⟩ z2 z3
  obtain ⟨C, hC, hk0⟩ : ∃ C : XK, C = (xAld 0 (xCallV 11 0 D_Mdl_readOrder k_Mdl_orders_19)) ∧ k_Mdl_orders_0 = (xAld 0 (xI 0 (xPutI 11 0 (xAld 0 (xI (-1) (xPutI 11 60 (xAld 0 (xI 1 (xCallV 11 1 D_Mdl_beginText C))))))))) := ⟨_, rfl, rfl⟩
  rw [← hC] at hgo
  rw [e_Mdl_orders, hk0]
  simp only [w_iadd, w_isub, w_imul, w_iand, w_ior, w_ixor, w_ishl, w_ishr, w_iushr, w_idiv, w_irem, w_ineg, w_ladd, w_lsub, w_lmul, w_ldiv, w_lrem, w_i2l, w_l2i, w_i2c, w_lcmp, w_dup_int, w_pop_int, w_dup_ref, w_pop_ref, w_dup_retAddr, w_pop_retAddr, w_dup2, w_I, w_L, w_Null, w_Ild, w_Lld, w_Ald, w_Ist, w_Lst, w_Ast, w_Iinc, w_if_eq, w_icmp_eq, w_if_ne, w_icmp_ne, w_if_lt, w_icmp_lt, w_if_ge, w_icmp_ge, w_if_gt, w_icmp_gt, w_if_le, w_icmp_le, w_GetI, w_GetL, w_GetR, w_PutI, w_PutZ, w_PutL, w_PutR, w_PutN, w_Iald, w_Zald, w_Lald, w_Aald, w_Iast, w_Zast, w_Last, w_AastR, w_AastN, w_Alen, w_New, w_NewA, w_Mna, w_Iret, w_Zret, w_Cret, w_Bret, w_Lret, w_AretR, w_AretN, w_Vret, w_Obj, w_IfNN, w_IfNR, w_Copy, w_Cln, w_Cast, w_SfA, w_SfI, w_SfQ, w_Str, w_ScLd, w_ScLen, w_CV0, w_CS0, w_CV1, w_CS1, w_CV2, w_CS2, w_CV3, w_CS3, w_CV4, w_CS4, w_CV5, w_CS5, List.getElem?_cons_zero, List.getElem?_cons_succ, List.set_cons_zero, List.set_cons_succ, List.length_cons, List.length_nil, List.map_cons, List.map_nil, List.sum_cons, List.sum_nil, List.nil_append, List.cons_append, Option.toList_some, Option.toList_none, Value.category, xok, va_rf, true_and, and_true, and_self, Nat.reduceAdd, Nat.reduceLT, Nat.reduceLeDiff, Nat.reduceEqDiff, Nat.reduceMul, beq_self_eq_true, decide_true, ite_true, ite_false, if_true, if_false, reduceIte, Bool.true_eq_false, Bool.false_eq_true, eq_self_iff_true, Nat.zero_le, not_true_eq_false, not_false_eq_true, forall_const, false_implies, implies_true, forall_false, stI_C, stI_N, stI_Z, stI_S, stI_L, stI_R, stL_C, stL_N, stL_Z, stL_S, stL_I, stL_R, stR_C, stR_N, stR_Z, stR_S, stR_I, stR_L, stA_C, stA_N, stA_Z, stA_S, stA_L, stA_R, stI_I, stL_L, stR_R, stA_I, stN_C, stN_N, stN_Z, stN_S, stN_I, stN_L, stN_R, stI_ne, stL_ne, stR_ne, hM.all, ← hG0, hM0.all, ne10, ne10L, ne01, ne01L, tt_imp, nt_imp, ff_imp, nf_imp, true_and, and_true, true_or, or_true, reduceIte]
  exact hgo
