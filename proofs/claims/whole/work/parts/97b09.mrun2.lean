theorem run_220p {T : Nat → (Nat → Int64) → Option Int64} {hl : Bool} {u0 : Nat → Int32} {G : XH} {S S' : OS} {v x1 : Int32} {x3 x4 x5 : Option Value} (hv : 0 ≤ v) (h : MX G S'.1 T hl) (hd : hpI G 70 58 = nI S.2.1) (hd' : S'.2.1 = S.2.1 + 1) (hp : hpI G 70 59 = S'.2.2.1) (hu : hpI G 70 8 = nI S'.2.2.2.1) (hm : MU S'.1 (hpI G 75) (hpI G 76) S'.2.2.2) (ht : ∀ j, 2176 ≤ j → hpI G 75 j = u0 j) : WP k_Mdl_run_220 [some (.ref 70), some (.int x1), some (.int v), x3, x4, x5] [] G (RnQ T hl u0 G S (some S')) := by
  have hM := h.1
  have g : (0 ≤ v) = True := eq_true hv
  have e1 : nI S.2.1 + 1 = nI (S.2.1 + 1) := nI_add _ 1
  obtain ⟨G2, hG2⟩ : ∃ G2, G2 = stI G 70 58 (nI (S.2.1 + 1)) := ⟨_, rfl⟩
  have f2 : Fr WRun G G2 := by rw [hG2]; exact Fr.refl.wI rfl
  simp only [k_Mdl_run_220, w_iadd, w_isub, w_imul, w_iand, w_ior, w_ixor, w_ishl, w_ishr, w_iushr, w_idiv, w_irem, w_ineg, w_ladd, w_lsub, w_lmul, w_ldiv, w_lrem, w_i2l, w_l2i, w_i2c, w_lcmp, w_dup_int, w_pop_int, w_dup_ref, w_pop_ref, w_dup_retAddr, w_pop_retAddr, w_dup2, w_I, w_L, w_Null, w_Ild, w_Lld, w_Ald, w_Ist, w_Lst, w_Ast, w_Iinc, w_if_eq, w_icmp_eq, w_if_ne, w_icmp_ne, w_if_lt, w_icmp_lt, w_if_ge, w_icmp_ge, w_if_gt, w_icmp_gt, w_if_le, w_icmp_le, w_GetI, w_GetL, w_GetR, w_PutI, w_PutZ, w_PutL, w_PutR, w_PutN, w_Iald, w_Zald, w_Lald, w_Aald, w_Iast, w_Zast, w_Last, w_AastR, w_AastN, w_Alen, w_New, w_NewA, w_Mna, w_Iret, w_Zret, w_Cret, w_Bret, w_Lret, w_AretR, w_AretN, w_Vret, w_Obj, w_IfNN, w_IfNR, w_Copy, w_Cln, w_Cast, w_SfA, w_SfI, w_SfQ, w_Str, w_ScLd, w_ScLen, w_CV0, w_CS0, w_CV1, w_CS1, w_CV2, w_CS2, w_CV3, w_CS3, w_CV4, w_CS4, w_CV5, w_CS5, List.getElem?_cons_zero, List.getElem?_cons_succ, List.set_cons_zero, List.set_cons_succ, List.length_cons, List.length_nil, List.map_cons, List.map_nil, List.sum_cons, List.sum_nil, List.nil_append, List.cons_append, Option.toList_some, Option.toList_none, Value.category, xok, va_rf, true_and, and_true, and_self, Nat.reduceAdd, Nat.reduceLT, Nat.reduceLeDiff, Nat.reduceEqDiff, Nat.reduceMul, beq_self_eq_true, decide_true, ite_true, ite_false, if_true, if_false, reduceIte, Bool.true_eq_false, Bool.false_eq_true, eq_self_iff_true, Nat.zero_le, not_true_eq_false, not_false_eq_true, forall_const, false_implies, implies_true, forall_false, stI_C, stI_N, stI_Z, stI_S, stI_L, stI_R, stL_C, stL_N, stL_Z, stL_S, stL_I, stL_R, stR_C, stR_N, stR_Z, stR_S, stR_I, stR_L, stA_C, stA_N, stA_Z, stA_S, stA_L, stA_R, stI_I, stL_L, stR_R, stA_I, stN_C, stN_N, stN_Z, stN_S, stN_I, stN_L, stN_R, stI_ne, stL_ne, stR_ne, hM.all, g, hd, e1, ← hG2, ne10, ne10L, ne01, ne01L, tt_imp, nt_imp, ff_imp, nf_imp, true_and, and_true, true_or, or_true, reduceIte]
  have A2 : hpI G2 70 = up (hpI G 70) 58 (nI (S.2.1 + 1)) := by rw [hG2, stI_up, hpI_stA]
  have I2 : ∀ a, ¬ a = 70 → hpI G2 a = hpI G a := fun a ha => by rw [hG2, stI_up, hpI_stA_ne ha]
  refine ⟨f2, rfl, ⟨f2.ms hM, ?_, ?_, h.2.2.2⟩, ?_, ?_, ?_, ?_, ?_⟩
  · rw [A2, up_ne (by decide)]; exact h.2.1
  · rw [I2 _ (by decide)]; exact h.2.2.1
  · rw [A2, up_eq, hd']
  · rw [A2, up_ne (by decide)]; exact hp
  · rw [A2, up_ne (by decide)]; exact hu
  · rw [I2 _ (by decide), I2 _ (by decide)]; exact hm
  · rw [I2 _ (by decide)]; exact ht
/-- handing in a run -/
theorem run_hd {T : Nat → (Nat → Int64) → Option Int64} {hl : Bool} {A B : Nat → Nat} {n nr nl c : Nat} {R0 u0 : Nat → Int32} {G : XH} {S : OS} (h : MRn T hl u0 G S) (hI : OI R0 nr nl c S) (hc : c + S.2.1 ≤ 500000) (hRd : MRd S.1 n A B) {one : Nat} {o : Option Nat} (h1 : one < nl) (h2 : ∀ k, o = some k → k < nl) {x1 a2 x5 x4 : Int32} (hx4 : x4 = oI o) : WP (xAld 0 (xIld 3 (xIld 4 (xCallV 11 2 D_Mdl_handNow k_Mdl_run_203)))) [some (.ref 70), some (.int x1), some (.int a2), some (.int (nI one)), some (.int x4), some (.int x5)] [] G (RnQ T hl u0 G S (oHd T hl A B n one o S)) := by
  subst hx4
  obtain ⟨a1, a2', a3, a4⟩ := hI
  obtain ⟨w, w1, w2, w3⟩ := a1.hc hc h1 h2
  have n8 := a1.2.1
  have n12 := a1.2.2.2.1
  have ew : whN S.1 one = w := by unfold whN; rw [w2]; exact nI_clamp (by omega)
  obtain ⟨t1, t2⟩ := a1.tn w1
  have hM := h.1.1
  obtain ⟨b1, b2, b3, b4, b5, b6⟩ := h
  unfold oHd
  rw [ew]
  simp only [w_iadd, w_isub, w_imul, w_iand, w_ior, w_ixor, w_ishl, w_ishr, w_iushr, w_idiv, w_irem, w_ineg, w_ladd, w_lsub, w_lmul, w_ldiv, w_lrem, w_i2l, w_l2i, w_i2c, w_lcmp, w_dup_int, w_pop_int, w_dup_ref, w_pop_ref, w_dup_retAddr, w_pop_retAddr, w_dup2, w_I, w_L, w_Null, w_Ild, w_Lld, w_Ald, w_Ist, w_Lst, w_Ast, w_Iinc, w_if_eq, w_icmp_eq, w_if_ne, w_icmp_ne, w_if_lt, w_icmp_lt, w_if_ge, w_icmp_ge, w_if_gt, w_icmp_gt, w_if_le, w_icmp_le, w_GetI, w_GetL, w_GetR, w_PutI, w_PutZ, w_PutL, w_PutR, w_PutN, w_Iald, w_Zald, w_Lald, w_Aald, w_Iast, w_Zast, w_Last, w_AastR, w_AastN, w_Alen, w_New, w_NewA, w_Mna, w_Iret, w_Zret, w_Cret, w_Bret, w_Lret, w_AretR, w_AretN, w_Vret, w_Obj, w_IfNN, w_IfNR, w_Copy, w_Cln, w_Cast, w_SfA, w_SfI, w_SfQ, w_Str, w_ScLd, w_ScLen, w_CV0, w_CS0, w_CV1, w_CS1, w_CV2, w_CS2, w_CV3, w_CS3, w_CV4, w_CS4, w_CV5, w_CS5, List.getElem?_cons_zero, List.getElem?_cons_succ, List.set_cons_zero, List.set_cons_succ, List.length_cons, List.length_nil, List.map_cons, List.map_nil, List.sum_cons, List.sum_nil, List.nil_append, List.cons_append, Option.toList_some, Option.toList_none, Value.category, xok, va_rf, true_and, and_true, and_self, Nat.reduceAdd, Nat.reduceLT, Nat.reduceLeDiff, Nat.reduceEqDiff, Nat.reduceMul, beq_self_eq_true, decide_true, ite_true, ite_false, if_true, if_false, reduceIte, Bool.true_eq_false, Bool.false_eq_true, eq_self_iff_true, Nat.zero_le, not_true_eq_false, not_false_eq_true, forall_const, false_implies, implies_true, forall_false, hM.all, ne10, ne10L, ne01, ne01L, tt_imp, nt_imp, ff_imp, nf_imp, true_and, and_true, true_or, or_true, reduceIte]
  refine SP.mono (s_handNow b1 hRd w3 t1 t2 n12 a1.2.2.1 h1 h2 S.2.2.2.1 a3.1 b4) ?_
  rintro ⟨v, G1⟩ ⟨q1, q2⟩
  dsimp only at q1 q2
  cases hok : okF T S.1 A B n w (tnN S.1 w) one o with
  | false =>
    obtain ⟨rfl, hf⟩ := q1 hok
    rw [if_neg Bool.false_ne_true]
    simp only [Option.toList_some, List.cons_append, List.nil_append]
    have h' : MRn T hl u0 G1 S := MRn.fr ⟨b1, b2, b3, b4, b5, b6⟩ hf ((hf.I rfl).trans b1.2.1) rfl rfl rfl (fun _ => rfl) (fun _ => rfl) (fun _ => rfl)
    exact (run_203n h' (v := -3) (by decide)).mono (fun z hz => hz.fr (hf.mono (fun a k z => WH_WHM a k (WHM_WRun a k z))))
  | true =>
    obtain ⟨rfl, hr, hf, hUK⟩ := q2 hok
    rw [if_pos rfl]
    simp only [Option.toList_some, List.cons_append, List.nil_append]
    have hp := a1.wep (T := T) (lg := lafF T hl (hdF S.1 w one o)) w1 w3.2.2.2.2.2
    have hge : 0 ≤ rdP T S.1 w one o (lafF T hl (hdF S.1 w one o)) := by
      obtain ⟨m, m1, m2⟩ := hp
      rw [m2]
      exact nI_pos' (by omega)
    have hHi : Hi S.1 (rdR T S.1 w one o (lafF T hl (hdF S.1 w one o))) := Hi.re (by omega) (by omega) (fun k hk => by have := h2 k hk; omega)
    obtain ⟨k1, k2, k3⟩ := b5.keep a3.1 hUK (hHi 1 (by omega)) (hHi 2 (by omega))
    refine (run_203p (S' := (rdR T S.1 w one o (lafF T hl (hdF S.1 w one o)), S.2.1 + 1, rdP T S.1 w one o (lafF T hl (hdF S.1 w one o)), keepU S.2.2.2 0 S.1)) hge ⟨hf.ms hM, (hf.I rfl).trans b1.2.1, hr, b1.2.2.2.1.same hHi.sl, b1.2.2.2.2⟩ ((hf.I rfl).trans b2) rfl rfl k2 k1 (fun j hj => (k3 j hj).trans (b6 j hj))).mono (fun z hz => hz.fr (hf.mono WHM_WRun))
theorem run_191 {T : Nat → (Nat → Int64) → Option Int64} {hl : Bool} {u0 : Nat → Int32} {G : XH} {S : OS} (h : MRn T hl u0 G S) {x1 a2 x3 x4 x5 : Int32} : WP k_Mdl_run_191 [some (.ref 70), some (.int x1), some (.int a2), some (.int x3), some (.int x4), some (.int x5)] [] G (RnQ T hl u0 G S none) := by
  simp only [k_Mdl_run_191, w_iadd, w_isub, w_imul, w_iand, w_ior, w_ixor, w_ishl, w_ishr, w_iushr, w_idiv, w_irem, w_ineg, w_ladd, w_lsub, w_lmul, w_ldiv, w_lrem, w_i2l, w_l2i, w_i2c, w_lcmp, w_dup_int, w_pop_int, w_dup_ref, w_pop_ref, w_dup_retAddr, w_pop_retAddr, w_dup2, w_I, w_L, w_Null, w_Ild, w_Lld, w_Ald, w_Ist, w_Lst, w_Ast, w_Iinc, w_if_eq, w_icmp_eq, w_if_ne, w_icmp_ne, w_if_lt, w_icmp_lt, w_if_ge, w_icmp_ge, w_if_gt, w_icmp_gt, w_if_le, w_icmp_le, w_GetI, w_GetL, w_GetR, w_PutI, w_PutZ, w_PutL, w_PutR, w_PutN, w_Iald, w_Zald, w_Lald, w_Aald, w_Iast, w_Zast, w_Last, w_AastR, w_AastN, w_Alen, w_New, w_NewA, w_Mna, w_Iret, w_Zret, w_Cret, w_Bret, w_Lret, w_AretR, w_AretN, w_Vret, w_Obj, w_IfNN, w_IfNR, w_Copy, w_Cln, w_Cast, w_SfA, w_SfI, w_SfQ, w_Str, w_ScLd, w_ScLen, w_CV0, w_CS0, w_CV1, w_CS1, w_CV2, w_CS2, w_CV3, w_CS3, w_CV4, w_CS4, w_CV5, w_CS5]
  exact run_203n h (by decide)
theorem run_hdn {T : Nat → (Nat → Int64) → Option Int64} {hl : Bool} {u0 : Nat → Int32} {G : XH} {S : OS} (h : MRn T hl u0 G S) {nl : Nat} (h2 : S.1 2 = nI nl) {x1 a2 x3 x4 x5 : Int32} (hn : ¬ ((0 ≤ x3 ∧ x3 < nI nl) ∧ (x4 = -1 ∨ (0 ≤ x4 ∧ x4 < nI nl)))) : WP (xAld 0 (xIld 3 (xIld 4 (xCallV 11 2 D_Mdl_handNow k_Mdl_run_203)))) [some (.ref 70), some (.int x1), some (.int a2), some (.int x3), some (.int x4), some (.int x5)] [] G (RnQ T hl u0 G S none) := by
  have hM := h.1.1
  have hs := fun Q => s_handNow_no hM Q x3 x4 (nl := nl) (by rw [h.1.2.2.1]; exact h2) hn
  have := run_203n (x1 := x1) (a2 := a2) (x3 := x3) (x4 := x4) (x5 := x5) h (v := -2) (by decide)
  simp only [w_iadd, w_isub, w_imul, w_iand, w_ior, w_ixor, w_ishl, w_ishr, w_iushr, w_idiv, w_irem, w_ineg, w_ladd, w_lsub, w_lmul, w_ldiv, w_lrem, w_i2l, w_l2i, w_i2c, w_lcmp, w_dup_int, w_pop_int, w_dup_ref, w_pop_ref, w_dup_retAddr, w_pop_retAddr, w_dup2, w_I, w_L, w_Null, w_Ild, w_Lld, w_Ald, w_Ist, w_Lst, w_Ast, w_Iinc, w_if_eq, w_icmp_eq, w_if_ne, w_icmp_ne, w_if_lt, w_icmp_lt, w_if_ge, w_icmp_ge, w_if_gt, w_icmp_gt, w_if_le, w_icmp_le, w_GetI, w_GetL, w_GetR, w_PutI, w_PutZ, w_PutL, w_PutR, w_PutN, w_Iald, w_Zald, w_Lald, w_Aald, w_Iast, w_Zast, w_Last, w_AastR, w_AastN, w_Alen, w_New, w_NewA, w_Mna, w_Iret, w_Zret, w_Cret, w_Bret, w_Lret, w_AretR, w_AretN, w_Vret, w_Obj, w_IfNN, w_IfNR, w_Copy, w_Cln, w_Cast, w_SfA, w_SfI, w_SfQ, w_Str, w_ScLd, w_ScLen, w_CV0, w_CS0, w_CV1, w_CS1, w_CV2, w_CS2, w_CV3, w_CS3, w_CV4, w_CS4, w_CV5, w_CS5, List.getElem?_cons_zero, List.getElem?_cons_succ, List.set_cons_zero, List.set_cons_succ, List.length_cons, List.length_nil, List.map_cons, List.map_nil, List.sum_cons, List.sum_nil, List.nil_append, List.cons_append, Option.toList_some, Option.toList_none, Value.category, xok, va_rf, true_and, and_true, and_self, Nat.reduceAdd, Nat.reduceLT, Nat.reduceLeDiff, Nat.reduceEqDiff, Nat.reduceMul, beq_self_eq_true, decide_true, ite_true, ite_false, if_true, if_false, reduceIte, Bool.true_eq_false, Bool.false_eq_true, eq_self_iff_true, Nat.zero_le, not_true_eq_false, not_false_eq_true, forall_const, false_implies, implies_true, forall_false, hM.all, hs, ne10, ne10L, ne01, ne01L, tt_imp, nt_imp, ff_imp, nf_imp, true_and, and_true, true_or, or_true, reduceIte]
  exact this
theorem run_108 {T : Nat → (Nat → Int64) → Option Int64} {hl : Bool} {A B : Nat → Nat} {n nr nl c : Nat} {R0 u0 : Nat → Int32} {G : XH} {S : OS} (h : MRn T hl u0 G S) (hI : OI R0 nr nl c S) (hc : c + S.2.1 ≤ 500000) (hd : S.2.1 ≤ 1000) (hRd : MRd S.1 n A B) {J : Nat → Nat × Nat} {qf : Nat} (hcd : CDo G J qf) {i : Nat} {cl : CLd} (hi : i < 12) (hcl : CMo (hpI G 103) J i cl qf) (hk : CLk true cl) (hoff : hpI G 70 61 = 0) (hen : menv true G = owE S.1 S.2.1 S.2.2.1) {x2 x3 x4 x5 : Option Value} : WP k_Mdl_run_108 [some (.ref 70), some (.int (nI (8 * i))), x2, x3, x4, x5] [] G (RnQ T hl u0 G S (oAct T hl A B n nr nl cl S)) := by
  have hM := h.1.1
  have n8 := hI.1.2.1
  have n12 := hI.1.2.2.2.1
  have hB := owE_B hI.1 hc hd hI.2.2.2
  obtain ⟨p0, p2, p3, ⟨p1, s1, s2, s3, s4, s5, s6, s7, s8⟩, c5, c6, c7, c8, c9, c10⟩ := hcl
  have l5 := s5.le
  have l7 := c7.le
  have qf4 := hcd.2.2
  have p9 : 0 ≤ nI (8 * i) := nI_pos' (by omega)
  have c9 : (nI (8 * i)).toNatClampNeg = 8 * i := nI_clamp (by omega)
  have l9 : 8 * i < 96 := by omega
  have e1 : nI (8 * i) + 1 = nI (8 * i + 1) := nI_add _ 1
  have e3 : nI (8 * i) + 3 = nI (8 * i + 3) := nI_add _ 3
  have e4 : nI (8 * i) + 4 = nI (8 * i + 4) := nI_add _ 4
  have p3 : 0 ≤ nI (8 * i + 3) := nI_pos' (by omega)
  have c3 : (nI (8 * i + 3)).toNatClampNeg = 8 * i + 3 := nI_clamp (by omega)
  have l3 : 8 * i + 3 < 96 := by omega
  have p4 : 0 ≤ nI (8 * i + 4) := nI_pos' (by omega)
  have c4 : (nI (8 * i + 4)).toNatClampNeg = 8 * i + 4 := nI_clamp (by omega)
  have l4 : 8 * i + 4 < 96 := by omega
  rcases s2 with s2 | s2
  · /- to hand -/
    obtain ⟨s41, s42, s43⟩ := s4 s2
    have g1 : (nI (cl.1 - 5) = 1) = False := eq_false (by rw [s2]; decide)
    have ea : oAct T hl A B n nr nl cl S = match oLt nl cl.2.1 (owE S.1 S.2.1 S.2.2.1) with
      | none => none
      | some one => match cl.2.2.1 with
        | none => oHd T hl A B n one none S
        | some f => match oLt nl f (owE S.1 S.2.1 S.2.2.1) with
          | none => none
          | some k => oHd T hl A B n one (some k) S := by unfold oAct; rw [if_neg (by omega)]; rfl
    rw [ea]
    obtain ⟨hh, hh1, hok⟩ : ∃ h, h < 64 ∧ OKJ 21 true J p0 p1 h cl.2.1 := by
      rcases s3 with ⟨_, z⟩ | ⟨z, _⟩
      · exact z
      · omega
    have x12 : ∀ b : Int32, xok [some (.ref 70), some (.int (nI (8 * i))), some (.int b), x3, x4, x5] 3 = true := fun _ => rfl
    simp only [k_Mdl_run_108, w_iadd, w_isub, w_imul, w_iand, w_ior, w_ixor, w_ishl, w_ishr, w_iushr, w_idiv, w_irem, w_ineg, w_ladd, w_lsub, w_lmul, w_ldiv, w_lrem, w_i2l, w_l2i, w_i2c, w_lcmp, w_dup_int, w_pop_int, w_dup_ref, w_pop_ref, w_dup_retAddr, w_pop_retAddr, w_dup2, w_I, w_L, w_Null, w_Ild, w_Lld, w_Ald, w_Ist, w_Lst, w_Ast, w_Iinc, w_if_eq, w_icmp_eq, w_if_ne, w_icmp_ne, w_if_lt, w_icmp_lt, w_if_ge, w_icmp_ge, w_if_gt, w_icmp_gt, w_if_le, w_icmp_le, w_GetI, w_GetL, w_GetR, w_PutI, w_PutZ, w_PutL, w_PutR, w_PutN, w_Iald, w_Zald, w_Lald, w_Aald, w_Iast, w_Zast, w_Last, w_AastR, w_AastN, w_Alen, w_New, w_NewA, w_Mna, w_Iret, w_Zret, w_Cret, w_Bret, w_Lret, w_AretR, w_AretN, w_Vret, w_Obj, w_IfNN, w_IfNR, w_Copy, w_Cln, w_Cast, w_SfA, w_SfI, w_SfQ, w_Str, w_ScLd, w_ScLen, w_CV0, w_CS0, w_CV1, w_CS1, w_CV2, w_CS2, w_CV3, w_CS3, w_CV4, w_CS4, w_CV5, w_CS5, List.getElem?_cons_zero, List.getElem?_cons_succ, List.set_cons_zero, List.set_cons_succ, List.length_cons, List.length_nil, List.map_cons, List.map_nil, List.sum_cons, List.sum_nil, List.nil_append, List.cons_append, Option.toList_some, Option.toList_none, Value.category, xok, va_rf, true_and, and_true, and_self, Nat.reduceAdd, Nat.reduceLT, Nat.reduceLeDiff, Nat.reduceEqDiff, Nat.reduceMul, beq_self_eq_true, decide_true, ite_true, ite_false, if_true, if_false, reduceIte, Bool.true_eq_false, Bool.false_eq_true, eq_self_iff_true, Nat.zero_le, not_true_eq_false, not_false_eq_true, forall_const, false_implies, implies_true, forall_false, stI_C, stI_N, stI_Z, stI_S, stI_L, stI_R, stL_C, stL_N, stL_Z, stL_S, stL_I, stL_R, stR_C, stR_N, stR_Z, stR_S, stR_I, stR_L, stA_C, stA_N, stA_Z, stA_S, stA_L, stA_R, stI_I, stL_L, stR_R, stA_I, stN_C, stN_N, stN_Z, stN_S, stN_I, stN_L, stN_R, stI_ne, stL_ne, stR_ne, hM.all, xin, p9, c9, l9, s1, g1, e1, ne10, ne10L, ne01, ne01L, tt_imp, nt_imp, ff_imp, nf_imp, true_and, and_true, true_or, or_true, reduceIte]
    refine SP.mono (s_sumOf hM hcd (a := 8 * i + 1) (by omega) s42 s43 s41 (by omega) hh1 hok hoff) ?_
    rintro ⟨v1, G1⟩ ⟨f1', o1, h1⟩
    dsimp only at f1' o1 h1
    rw [hen] at h1
    have hM1 := f1'.ms hM
    have hn1 : ∀ j, hpI G1 103 j = hpI G 103 j := fun j => f1'.I rfl
    have h' : MRn T hl u0 G1 S := h.fr f1' o1 rfl rfl rfl (fun _ => rfl) (fun _ => rfl) (fun _ => rfl)
    have fR : Fr WRun G G1 := f1'.mono WSm_WRun
    have t3 : hpI G1 103 (8 * i + 3) = hpI G 103 (8 * i + 3) := hn1 _
    have t4 : hpI G1 103 (8 * i + 4) = hpI G 103 (8 * i + 4) := hn1 _
    have em1 : (-1 : Int64).toInt32 = -1 := by decide
    cases hs : cl.2.1 (owE S.1 S.2.1 S.2.2.1) with
    | none =>
      rw [hs] at h1
      obtain ⟨⟨v, rfl⟩, of1⟩ := h1
      have eo : oLt nl cl.2.1 (owE S.1 S.2.1 S.2.2.1) = none := by unfold oLt; rw [hs]
      rw [eo]
      have hsn := fun Q => s_sumOf_no hM1 (a := 8 * i + 3) (by omega) (Or.inl of1) Q
      have h191 := fun a2 x3 x4 x5 => (run_191 (x1 := nI (8 * i)) (a2 := a2) (x3 := x3) (x4 := x4) (x5 := x5) h').mono (fun z hz => hz.fr fR)
      cases hw : cl.2.2.1 with
      | none =>
        obtain ⟨z3, z4⟩ := s7 hw
        rw [z3] at t3
        rw [z4] at t4
        simp only [Option.toList_some, List.cons_append, List.nil_append, k_Mdl_run_176, k_Mdl_run_177, w_iadd, w_isub, w_imul, w_iand, w_ior, w_ixor, w_ishl, w_ishr, w_iushr, w_idiv, w_irem, w_ineg, w_ladd, w_lsub, w_lmul, w_ldiv, w_lrem, w_i2l, w_l2i, w_i2c, w_lcmp, w_dup_int, w_pop_int, w_dup_ref, w_pop_ref, w_dup_retAddr, w_pop_retAddr, w_dup2, w_I, w_L, w_Null, w_Ild, w_Lld, w_Ald, w_Ist, w_Lst, w_Ast, w_Iinc, w_if_eq, w_icmp_eq, w_if_ne, w_icmp_ne, w_if_lt, w_icmp_lt, w_if_ge, w_icmp_ge, w_if_gt, w_icmp_gt, w_if_le, w_icmp_le, w_GetI, w_GetL, w_GetR, w_PutI, w_PutZ, w_PutL, w_PutR, w_PutN, w_Iald, w_Zald, w_Lald, w_Aald, w_Iast, w_Zast, w_Last, w_AastR, w_AastN, w_Alen, w_New, w_NewA, w_Mna, w_Iret, w_Zret, w_Cret, w_Bret, w_Lret, w_AretR, w_AretN, w_Vret, w_Obj, w_IfNN, w_IfNR, w_Copy, w_Cln, w_Cast, w_SfA, w_SfI, w_SfQ, w_Str, w_ScLd, w_ScLen, w_CV0, w_CS0, w_CV1, w_CS1, w_CV2, w_CS2, w_CV3, w_CS3, w_CV4, w_CS4, w_CV5, w_CS5, List.getElem?_cons_zero, List.getElem?_cons_succ, List.set_cons_zero, List.set_cons_succ, List.length_cons, List.length_nil, List.map_cons, List.map_nil, List.sum_cons, List.sum_nil, List.nil_append, List.cons_append, Option.toList_some, Option.toList_none, Value.category, xok, va_rf, true_and, and_true, and_self, Nat.reduceAdd, Nat.reduceLT, Nat.reduceLeDiff, Nat.reduceEqDiff, Nat.reduceMul, beq_self_eq_true, decide_true, ite_true, ite_false, if_true, if_false, reduceIte, Bool.true_eq_false, Bool.false_eq_true, eq_self_iff_true, Nat.zero_le, not_true_eq_false, not_false_eq_true, forall_const, false_implies, implies_true, forall_false, stI_C, stI_N, stI_Z, stI_S, stI_L, stI_R, stL_C, stL_N, stL_Z, stL_S, stL_I, stL_R, stR_C, stR_N, stR_Z, stR_S, stR_I, stR_L, stA_C, stA_N, stA_Z, stA_S, stA_L, stA_R, stI_I, stL_L, stR_R, stA_I, stN_C, stN_N, stN_Z, stN_S, stN_I, stN_L, stN_R, stI_ne, stL_ne, stR_ne, hM1.all, e3, e4, hsn, em1, xin, p3, c3, l3, p4, c4, l4, t3, t4, of1, Int32.le_refl, ne10, ne10L, ne01, ne01L, tt_imp, nt_imp, ff_imp, nf_imp, true_and, and_true, true_or, or_true, reduceIte]
        exact h191 _ _ _ _
      | some f =>
        obtain ⟨z3, z4⟩ := s6 f hw
        rw [z3] at t3
        rw [z4] at t4
        have gle : (nI p2 ≤ nI p1) = False := by
          rw [hw] at s5
          have := s5.1
          exact eq_false (by rw [nl_le (by omega) (by omega)]; omega)
        simp only [Option.toList_some, List.cons_append, List.nil_append, k_Mdl_run_176, k_Mdl_run_177, w_iadd, w_isub, w_imul, w_iand, w_ior, w_ixor, w_ishl, w_ishr, w_iushr, w_idiv, w_irem, w_ineg, w_ladd, w_lsub, w_lmul, w_ldiv, w_lrem, w_i2l, w_l2i, w_i2c, w_lcmp, w_dup_int, w_pop_int, w_dup_ref, w_pop_ref, w_dup_retAddr, w_pop_retAddr, w_dup2, w_I, w_L, w_Null, w_Ild, w_Lld, w_Ald, w_Ist, w_Lst, w_Ast, w_Iinc, w_if_eq, w_icmp_eq, w_if_ne, w_icmp_ne, w_if_lt, w_icmp_lt, w_if_ge, w_icmp_ge, w_if_gt, w_icmp_gt, w_if_le, w_icmp_le, w_GetI, w_GetL, w_GetR, w_PutI, w_PutZ, w_PutL, w_PutR, w_PutN, w_Iald, w_Zald, w_Lald, w_Aald, w_Iast, w_Zast, w_Last, w_AastR, w_AastN, w_Alen, w_New, w_NewA, w_Mna, w_Iret, w_Zret, w_Cret, w_Bret, w_Lret, w_AretR, w_AretN, w_Vret, w_Obj, w_IfNN, w_IfNR, w_Copy, w_Cln, w_Cast, w_SfA, w_SfI, w_SfQ, w_Str, w_ScLd, w_ScLen, w_CV0, w_CS0, w_CV1, w_CS1, w_CV2, w_CS2, w_CV3, w_CS3, w_CV4, w_CS4, w_CV5, w_CS5, List.getElem?_cons_zero, List.getElem?_cons_succ, List.set_cons_zero, List.set_cons_succ, List.length_cons, List.length_nil, List.map_cons, List.map_nil, List.sum_cons, List.sum_nil, List.nil_append, List.cons_append, Option.toList_some, Option.toList_none, Value.category, xok, va_rf, true_and, and_true, and_self, Nat.reduceAdd, Nat.reduceLT, Nat.reduceLeDiff, Nat.reduceEqDiff, Nat.reduceMul, beq_self_eq_true, decide_true, ite_true, ite_false, if_true, if_false, reduceIte, Bool.true_eq_false, Bool.false_eq_true, eq_self_iff_true, Nat.zero_le, not_true_eq_false, not_false_eq_true, forall_const, false_implies, implies_true, forall_false, stI_C, stI_N, stI_Z, stI_S, stI_L, stI_R, stL_C, stL_N, stL_Z, stL_S, stL_I, stL_R, stR_C, stR_N, stR_Z, stR_S, stR_I, stR_L, stA_C, stA_N, stA_Z, stA_S, stA_L, stA_R, stI_I, stL_L, stR_R, stA_I, stN_C, stN_N, stN_Z, stN_S, stN_I, stN_L, stN_R, stI_ne, stL_ne, stR_ne, hM1.all, e3, e4, hsn, em1, xin, p3, c3, l3, p4, c4, l4, t3, t4, gle, of1, ne10, ne10L, ne01, ne01L, tt_imp, nt_imp, ff_imp, nf_imp, true_and, and_true, true_or, or_true, reduceIte]
        exact h191 _ _ _ _
    | some a =>
      rw [hs] at h1
      obtain ⟨rfl, of1⟩ := h1
      have ab := hk.1 _ a hB hs
      have en1 : menv true G1 = owE S.1 S.2.1 S.2.2.1 := by rw [← hen]; exact menv_congr (f1'.LA _ (fun _ => rfl)) (f1'.IA _ (fun _ => rfl))
      cases hw : cl.2.2.1 with
      | none =>
        obtain ⟨z3, z4⟩ := s7 hw
        rw [z3] at t3
        rw [z4] at t4
        have hsn := fun Q => s_sumOf_no hM1 (a := 8 * i + 3) (by omega) (Or.inr ⟨of1, t3, t4⟩) Q
        have hgo : WP (xAld 0 (xIld 3 (xIld 4 (xCallV 11 2 D_Mdl_handNow k_Mdl_run_203)))) [some (.ref 70), some (.int (nI (8 * i))), some (.int 0), some (.int a.toInt32), some (.int (-1)), some (.int 0)] [] G1 (RnQ T hl u0 G1 S (match oLt nl cl.2.1 (owE S.1 S.2.1 S.2.2.1) with
          | none => none
          | some one => oHd T hl A B n one none S)) := by
          cases ho : oLt nl cl.2.1 (owE S.1 S.2.1 S.2.2.1) with
          | none => exact run_hdn h' hI.1.2.2.1 (fun z => oLt_no n12 hs ab ho z.1)
          | some one =>
            obtain ⟨l1, l2⟩ := oLt_lt n12 ho
            rw [hs] at l2
            injection l2 with l2
            have e32 : a.toInt32 = nI one := by rw [l2]; exact lN_32 (by omega)
            rw [e32]
            exact run_hd h' hI hc hRd l1 (fun k hk => by cases hk) rfl
        have hgo' := hgo.mono (fun z hz => hz.fr fR)
        simp only [w_iadd, w_isub, w_imul, w_iand, w_ior, w_ixor, w_ishl, w_ishr, w_iushr, w_idiv, w_irem, w_ineg, w_ladd, w_lsub, w_lmul, w_ldiv, w_lrem, w_i2l, w_l2i, w_i2c, w_lcmp, w_dup_int, w_pop_int, w_dup_ref, w_pop_ref, w_dup_retAddr, w_pop_retAddr, w_dup2, w_I, w_L, w_Null, w_Ild, w_Lld, w_Ald, w_Ist, w_Lst, w_Ast, w_Iinc, w_if_eq, w_icmp_eq, w_if_ne, w_icmp_ne, w_if_lt, w_icmp_lt, w_if_ge, w_icmp_ge, w_if_gt, w_icmp_gt, w_if_le, w_icmp_le, w_GetI, w_GetL, w_GetR, w_PutI, w_PutZ, w_PutL, w_PutR, w_PutN, w_Iald, w_Zald, w_Lald, w_Aald, w_Iast, w_Zast, w_Last, w_AastR, w_AastN, w_Alen, w_New, w_NewA, w_Mna, w_Iret, w_Zret, w_Cret, w_Bret, w_Lret, w_AretR, w_AretN, w_Vret, w_Obj, w_IfNN, w_IfNR, w_Copy, w_Cln, w_Cast, w_SfA, w_SfI, w_SfQ, w_Str, w_ScLd, w_ScLen, w_CV0, w_CS0, w_CV1, w_CS1, w_CV2, w_CS2, w_CV3, w_CS3, w_CV4, w_CS4, w_CV5, w_CS5, List.getElem?_cons_zero, List.getElem?_cons_succ, List.set_cons_zero, List.set_cons_succ, List.length_cons, List.length_nil, List.map_cons, List.map_nil, List.sum_cons, List.sum_nil, List.nil_append, List.cons_append, Option.toList_some, Option.toList_none, Value.category, xok, va_rf, true_and, and_true, and_self, Nat.reduceAdd, Nat.reduceLT, Nat.reduceLeDiff, Nat.reduceEqDiff, Nat.reduceMul, beq_self_eq_true, decide_true, ite_true, ite_false, if_true, if_false, reduceIte, Bool.true_eq_false, Bool.false_eq_true, eq_self_iff_true, Nat.zero_le, not_true_eq_false, not_false_eq_true, forall_const, false_implies, implies_true, forall_false, hM1.all, ne10, ne10L, ne01, ne01L, tt_imp, nt_imp, ff_imp, nf_imp, true_and, and_true, true_or, or_true, reduceIte] at hgo'
        simp only [Option.toList_some, List.cons_append, List.nil_append, k_Mdl_run_176, k_Mdl_run_177, w_iadd, w_isub, w_imul, w_iand, w_ior, w_ixor, w_ishl, w_ishr, w_iushr, w_idiv, w_irem, w_ineg, w_ladd, w_lsub, w_lmul, w_ldiv, w_lrem, w_i2l, w_l2i, w_i2c, w_lcmp, w_dup_int, w_pop_int, w_dup_ref, w_pop_ref, w_dup_retAddr, w_pop_retAddr, w_dup2, w_I, w_L, w_Null, w_Ild, w_Lld, w_Ald, w_Ist, w_Lst, w_Ast, w_Iinc, w_if_eq, w_icmp_eq, w_if_ne, w_icmp_ne, w_if_lt, w_icmp_lt, w_if_ge, w_icmp_ge, w_if_gt, w_icmp_gt, w_if_le, w_icmp_le, w_GetI, w_GetL, w_GetR, w_PutI, w_PutZ, w_PutL, w_PutR, w_PutN, w_Iald, w_Zald, w_Lald, w_Aald, w_Iast, w_Zast, w_Last, w_AastR, w_AastN, w_Alen, w_New, w_NewA, w_Mna, w_Iret, w_Zret, w_Cret, w_Bret, w_Lret, w_AretR, w_AretN, w_Vret, w_Obj, w_IfNN, w_IfNR, w_Copy, w_Cln, w_Cast, w_SfA, w_SfI, w_SfQ, w_Str, w_ScLd, w_ScLen, w_CV0, w_CS0, w_CV1, w_CS1, w_CV2, w_CS2, w_CV3, w_CS3, w_CV4, w_CS4, w_CV5, w_CS5, List.getElem?_cons_zero, List.getElem?_cons_succ, List.set_cons_zero, List.set_cons_succ, List.length_cons, List.length_nil, List.map_cons, List.map_nil, List.sum_cons, List.sum_nil, List.nil_append, List.cons_append, Option.toList_some, Option.toList_none, Value.category, xok, va_rf, true_and, and_true, and_self, Nat.reduceAdd, Nat.reduceLT, Nat.reduceLeDiff, Nat.reduceEqDiff, Nat.reduceMul, beq_self_eq_true, decide_true, ite_true, ite_false, if_true, if_false, reduceIte, Bool.true_eq_false, Bool.false_eq_true, eq_self_iff_true, Nat.zero_le, not_true_eq_false, not_false_eq_true, forall_const, false_implies, implies_true, forall_false, stI_C, stI_N, stI_Z, stI_S, stI_L, stI_R, stL_C, stL_N, stL_Z, stL_S, stL_I, stL_R, stR_C, stR_N, stR_Z, stR_S, stR_I, stR_L, stA_C, stA_N, stA_Z, stA_S, stA_L, stA_R, stI_I, stL_L, stR_R, stA_I, stN_C, stN_N, stN_Z, stN_S, stN_I, stN_L, stN_R, stI_ne, stL_ne, stR_ne, hM1.all, e3, e4, hsn, em1, xin, p3, c3, l3, p4, c4, l4, t3, t4, of1, Int32.le_refl, ne10, ne10L, ne01, ne01L, tt_imp, nt_imp, ff_imp, nf_imp, true_and, and_true, true_or, or_true, reduceIte]
        exact hgo'
      | some f =>
        obtain ⟨z3, z4⟩ := s6 f hw
        have s5' := s5
        rw [hw] at s5'
        obtain ⟨w1, hh', w2, w3⟩ := s5'
        have gle : (nI p2 ≤ nI p1) = False := eq_false (by rw [nl_le (by omega) (by omega)]; omega)
        simp only [Option.toList_some, List.cons_append, List.nil_append, w_iadd, w_isub, w_imul, w_iand, w_ior, w_ixor, w_ishl, w_ishr, w_iushr, w_idiv, w_irem, w_ineg, w_ladd, w_lsub, w_lmul, w_ldiv, w_lrem, w_i2l, w_l2i, w_i2c, w_lcmp, w_dup_int, w_pop_int, w_dup_ref, w_pop_ref, w_dup_retAddr, w_pop_retAddr, w_dup2, w_I, w_L, w_Null, w_Ild, w_Lld, w_Ald, w_Ist, w_Lst, w_Ast, w_Iinc, w_if_eq, w_icmp_eq, w_if_ne, w_icmp_ne, w_if_lt, w_icmp_lt, w_if_ge, w_icmp_ge, w_if_gt, w_icmp_gt, w_if_le, w_icmp_le, w_GetI, w_GetL, w_GetR, w_PutI, w_PutZ, w_PutL, w_PutR, w_PutN, w_Iald, w_Zald, w_Lald, w_Aald, w_Iast, w_Zast, w_Last, w_AastR, w_AastN, w_Alen, w_New, w_NewA, w_Mna, w_Iret, w_Zret, w_Cret, w_Bret, w_Lret, w_AretR, w_AretN, w_Vret, w_Obj, w_IfNN, w_IfNR, w_Copy, w_Cln, w_Cast, w_SfA, w_SfI, w_SfQ, w_Str, w_ScLd, w_ScLen, w_CV0, w_CS0, w_CV1, w_CS1, w_CV2, w_CS2, w_CV3, w_CS3, w_CV4, w_CS4, w_CV5, w_CS5, List.getElem?_cons_zero, List.getElem?_cons_succ, List.set_cons_zero, List.set_cons_succ, List.length_cons, List.length_nil, List.map_cons, List.map_nil, List.sum_cons, List.sum_nil, List.nil_append, List.cons_append, Option.toList_some, Option.toList_none, Value.category, xok, va_rf, true_and, and_true, and_self, Nat.reduceAdd, Nat.reduceLT, Nat.reduceLeDiff, Nat.reduceEqDiff, Nat.reduceMul, beq_self_eq_true, decide_true, ite_true, ite_false, if_true, if_false, reduceIte, Bool.true_eq_false, Bool.false_eq_true, eq_self_iff_true, Nat.zero_le, not_true_eq_false, not_false_eq_true, forall_const, false_implies, implies_true, forall_false, stI_C, stI_N, stI_Z, stI_S, stI_L, stI_R, stL_C, stL_N, stL_Z, stL_S, stL_I, stL_R, stR_C, stR_N, stR_Z, stR_S, stR_I, stR_L, stA_C, stA_N, stA_Z, stA_S, stA_L, stA_R, stI_I, stL_L, stR_R, stA_I, stN_C, stN_N, stN_Z, stN_S, stN_I, stN_L, stN_R, stI_ne, stL_ne, stR_ne, hM1.all, e3, ne10, ne10L, ne01, ne01L, tt_imp, nt_imp, ff_imp, nf_imp, true_and, and_true, true_or, or_true, reduceIte]
        refine SP.mono (s_sumOf hM1 (hcd.fr f1' (fun _ => rfl) (fun _ => rfl)) (a := 8 * i + 3) (by omega) (t3.trans z3) (t4.trans z4) w1 (by omega) w2 w3 of1) ?_
        rintro ⟨v2, G2⟩ ⟨f2, o2, h2⟩
        dsimp only at f2 o2 h2
        rw [en1] at h2
        have hM2 := f2.ms hM1
        have h'' : MRn T hl u0 G2 S := h'.fr f2 o2 rfl rfl rfl (fun _ => rfl) (fun _ => rfl) (fun _ => rfl)
        have fR2 : Fr WRun G G2 := fR.trans (f2.mono WSm_WRun)
        have u3 : hpI G2 103 (8 * i + 3) = nI p1 := (f2.I rfl).trans (t3.trans z3)
        have u4 : hpI G2 103 (8 * i + 4) = nI p2 := (f2.I rfl).trans (t4.trans z4)
        have h191 := fun a2 x3 x4 x5 => (run_191 (x1 := nI (8 * i)) (a2 := a2) (x3 := x3) (x4 := x4) (x5 := x5) h'').mono (fun z hz => hz.fr fR2)
        have hnn : (match oLt nl cl.2.1 (owE S.1 S.2.1 S.2.2.1) with
          | none => none
          | some one => none : Option OS) = none := by cases oLt nl cl.2.1 (owE S.1 S.2.1 S.2.2.1) <;> rfl
        dsimp only
        cases hs2 : f (owE S.1 S.2.1 S.2.2.1) with
        | none =>
          rw [hs2] at h2
          obtain ⟨⟨v, rfl⟩, of2⟩ := h2
          have eo : oLt nl f (owE S.1 S.2.1 S.2.2.1) = none := by unfold oLt; rw [hs2]
          rw [eo]
          dsimp only
          rw [hnn]
          obtain ⟨y, hy⟩ : ∃ y, y = v.toInt32 := ⟨_, rfl⟩
          have hy' := hy.symm
          by_cases qy : y = -1
          · have gy : (y = -1) = True := eq_true qy
            simp only [Option.toList_some, List.cons_append, List.nil_append, k_Mdl_run_176, k_Mdl_run_177, w_iadd, w_isub, w_imul, w_iand, w_ior, w_ixor, w_ishl, w_ishr, w_iushr, w_idiv, w_irem, w_ineg, w_ladd, w_lsub, w_lmul, w_ldiv, w_lrem, w_i2l, w_l2i, w_i2c, w_lcmp, w_dup_int, w_pop_int, w_dup_ref, w_pop_ref, w_dup_retAddr, w_pop_retAddr, w_dup2, w_I, w_L, w_Null, w_Ild, w_Lld, w_Ald, w_Ist, w_Lst, w_Ast, w_Iinc, w_if_eq, w_icmp_eq, w_if_ne, w_icmp_ne, w_if_lt, w_icmp_lt, w_if_ge, w_icmp_ge, w_if_gt, w_icmp_gt, w_if_le, w_icmp_le, w_GetI, w_GetL, w_GetR, w_PutI, w_PutZ, w_PutL, w_PutR, w_PutN, w_Iald, w_Zald, w_Lald, w_Aald, w_Iast, w_Zast, w_Last, w_AastR, w_AastN, w_Alen, w_New, w_NewA, w_Mna, w_Iret, w_Zret, w_Cret, w_Bret, w_Lret, w_AretR, w_AretN, w_Vret, w_Obj, w_IfNN, w_IfNR, w_Copy, w_Cln, w_Cast, w_SfA, w_SfI, w_SfQ, w_Str, w_ScLd, w_ScLen, w_CV0, w_CS0, w_CV1, w_CS1, w_CV2, w_CS2, w_CV3, w_CS3, w_CV4, w_CS4, w_CV5, w_CS5, List.getElem?_cons_zero, List.getElem?_cons_succ, List.set_cons_zero, List.set_cons_succ, List.length_cons, List.length_nil, List.map_cons, List.map_nil, List.sum_cons, List.sum_nil, List.nil_append, List.cons_append, Option.toList_some, Option.toList_none, Value.category, xok, va_rf, true_and, and_true, and_self, Nat.reduceAdd, Nat.reduceLT, Nat.reduceLeDiff, Nat.reduceEqDiff, Nat.reduceMul, beq_self_eq_true, decide_true, ite_true, ite_false, if_true, if_false, reduceIte, Bool.true_eq_false, Bool.false_eq_true, eq_self_iff_true, Nat.zero_le, not_true_eq_false, not_false_eq_true, forall_const, false_implies, implies_true, forall_false, stI_C, stI_N, stI_Z, stI_S, stI_L, stI_R, stL_C, stL_N, stL_Z, stL_S, stL_I, stL_R, stR_C, stR_N, stR_Z, stR_S, stR_I, stR_L, stA_C, stA_N, stA_Z, stA_S, stA_L, stA_R, stI_I, stL_L, stR_R, stA_I, stN_C, stN_N, stN_Z, stN_S, stN_I, stN_L, stN_R, stI_ne, stL_ne, stR_ne, hM2.all, hy', e3, e4, xin, p3, c3, l3, p4, c4, l4, u3, u4, gle, gy, of2, ne10, ne10L, ne01, ne01L, tt_imp, nt_imp, ff_imp, nf_imp, true_and, and_true, true_or, or_true, reduceIte]
            exact h191 _ _ _ _
          · have gy : (y = -1) = False := eq_false qy
            simp only [Option.toList_some, List.cons_append, List.nil_append, k_Mdl_run_176, k_Mdl_run_177, w_iadd, w_isub, w_imul, w_iand, w_ior, w_ixor, w_ishl, w_ishr, w_iushr, w_idiv, w_irem, w_ineg, w_ladd, w_lsub, w_lmul, w_ldiv, w_lrem, w_i2l, w_l2i, w_i2c, w_lcmp, w_dup_int, w_pop_int, w_dup_ref, w_pop_ref, w_dup_retAddr, w_pop_retAddr, w_dup2, w_I, w_L, w_Null, w_Ild, w_Lld, w_Ald, w_Ist, w_Lst, w_Ast, w_Iinc, w_if_eq, w_icmp_eq, w_if_ne, w_icmp_ne, w_if_lt, w_icmp_lt, w_if_ge, w_icmp_ge, w_if_gt, w_icmp_gt, w_if_le, w_icmp_le, w_GetI, w_GetL, w_GetR, w_PutI, w_PutZ, w_PutL, w_PutR, w_PutN, w_Iald, w_Zald, w_Lald, w_Aald, w_Iast, w_Zast, w_Last, w_AastR, w_AastN, w_Alen, w_New, w_NewA, w_Mna, w_Iret, w_Zret, w_Cret, w_Bret, w_Lret, w_AretR, w_AretN, w_Vret, w_Obj, w_IfNN, w_IfNR, w_Copy, w_Cln, w_Cast, w_SfA, w_SfI, w_SfQ, w_Str, w_ScLd, w_ScLen, w_CV0, w_CS0, w_CV1, w_CS1, w_CV2, w_CS2, w_CV3, w_CS3, w_CV4, w_CS4, w_CV5, w_CS5, List.getElem?_cons_zero, List.getElem?_cons_succ, List.set_cons_zero, List.set_cons_succ, List.length_cons, List.length_nil, List.map_cons, List.map_nil, List.sum_cons, List.sum_nil, List.nil_append, List.cons_append, Option.toList_some, Option.toList_none, Value.category, xok, va_rf, true_and, and_true, and_self, Nat.reduceAdd, Nat.reduceLT, Nat.reduceLeDiff, Nat.reduceEqDiff, Nat.reduceMul, beq_self_eq_true, decide_true, ite_true, ite_false, if_true, if_false, reduceIte, Bool.true_eq_false, Bool.false_eq_true, eq_self_iff_true, Nat.zero_le, not_true_eq_false, not_false_eq_true, forall_const, false_implies, implies_true, forall_false, stI_C, stI_N, stI_Z, stI_S, stI_L, stI_R, stL_C, stL_N, stL_Z, stL_S, stL_I, stL_R, stR_C, stR_N, stR_Z, stR_S, stR_I, stR_L, stA_C, stA_N, stA_Z, stA_S, stA_L, stA_R, stI_I, stL_L, stR_R, stA_I, stN_C, stN_N, stN_Z, stN_S, stN_I, stN_L, stN_R, stI_ne, stL_ne, stR_ne, hM2.all, hy', e3, e4, xin, p3, c3, l3, p4, c4, l4, u3, u4, gle, gy, of2, ne10, ne10L, ne01, ne01L, tt_imp, nt_imp, ff_imp, nf_imp, true_and, and_true, true_or, or_true, reduceIte]
            exact h191 _ _ _ _
        | some b =>
          rw [hs2] at h2
          obtain ⟨rfl, of2⟩ := h2
          have bb := hk.2.2 f hw _ b hB hs2
          obtain ⟨y, hy⟩ : ∃ y, y = b.toInt32 := ⟨_, rfl⟩
          have hy' := hy.symm
          by_cases qy : y = -1
          · have gy : (y = -1) = True := eq_true qy
            have eo : oLt nl f (owE S.1 S.2.1 S.2.2.1) = none := by
              cases ho : oLt nl f (owE S.1 S.2.1 S.2.2.1) with
              | none => rfl
              | some k =>
                obtain ⟨l1, l2⟩ := oLt_lt n12 ho
                rw [hs2] at l2
                injection l2 with l2
                have : y = nI k := by rw [hy, l2]; exact lN_32 (by omega)
                rw [this] at qy
                exact absurd qy (nI_ne (by omega))
            rw [eo]
            dsimp only
            rw [hnn]
            simp only [Option.toList_some, List.cons_append, List.nil_append, k_Mdl_run_176, k_Mdl_run_177, w_iadd, w_isub, w_imul, w_iand, w_ior, w_ixor, w_ishl, w_ishr, w_iushr, w_idiv, w_irem, w_ineg, w_ladd, w_lsub, w_lmul, w_ldiv, w_lrem, w_i2l, w_l2i, w_i2c, w_lcmp, w_dup_int, w_pop_int, w_dup_ref, w_pop_ref, w_dup_retAddr, w_pop_retAddr, w_dup2, w_I, w_L, w_Null, w_Ild, w_Lld, w_Ald, w_Ist, w_Lst, w_Ast, w_Iinc, w_if_eq, w_icmp_eq, w_if_ne, w_icmp_ne, w_if_lt, w_icmp_lt, w_if_ge, w_icmp_ge, w_if_gt, w_icmp_gt, w_if_le, w_icmp_le, w_GetI, w_GetL, w_GetR, w_PutI, w_PutZ, w_PutL, w_PutR, w_PutN, w_Iald, w_Zald, w_Lald, w_Aald, w_Iast, w_Zast, w_Last, w_AastR, w_AastN, w_Alen, w_New, w_NewA, w_Mna, w_Iret, w_Zret, w_Cret, w_Bret, w_Lret, w_AretR, w_AretN, w_Vret, w_Obj, w_IfNN, w_IfNR, w_Copy, w_Cln, w_Cast, w_SfA, w_SfI, w_SfQ, w_Str, w_ScLd, w_ScLen, w_CV0, w_CS0, w_CV1, w_CS1, w_CV2, w_CS2, w_CV3, w_CS3, w_CV4, w_CS4, w_CV5, w_CS5, List.getElem?_cons_zero, List.getElem?_cons_succ, List.set_cons_zero, List.set_cons_succ, List.length_cons, List.length_nil, List.map_cons, List.map_nil, List.sum_cons, List.sum_nil, List.nil_append, List.cons_append, Option.toList_some, Option.toList_none, Value.category, xok, va_rf, true_and, and_true, and_self, Nat.reduceAdd, Nat.reduceLT, Nat.reduceLeDiff, Nat.reduceEqDiff, Nat.reduceMul, beq_self_eq_true, decide_true, ite_true, ite_false, if_true, if_false, reduceIte, Bool.true_eq_false, Bool.false_eq_true, eq_self_iff_true, Nat.zero_le, not_true_eq_false, not_false_eq_true, forall_const, false_implies, implies_true, forall_false, stI_C, stI_N, stI_Z, stI_S, stI_L, stI_R, stL_C, stL_N, stL_Z, stL_S, stL_I, stL_R, stR_C, stR_N, stR_Z, stR_S, stR_I, stR_L, stA_C, stA_N, stA_Z, stA_S, stA_L, stA_R, stI_I, stL_L, stR_R, stA_I, stN_C, stN_N, stN_Z, stN_S, stN_I, stN_L, stN_R, stI_ne, stL_ne, stR_ne, hM2.all, hy', e3, e4, xin, p3, c3, l3, p4, c4, l4, u3, u4, gle, gy, of2, ne10, ne10L, ne01, ne01L, tt_imp, nt_imp, ff_imp, nf_imp, true_and, and_true, true_or, or_true, reduceIte]
            exact h191 _ _ _ _
          · have gy : (y = -1) = False := eq_false qy
            have hgo : WP (xAld 0 (xIld 3 (xIld 4 (xCallV 11 2 D_Mdl_handNow k_Mdl_run_203)))) [some (.ref 70), some (.int (nI (8 * i))), some (.int 0), some (.int a.toInt32), some (.int y), some (.int 0)] [] G2 (RnQ T hl u0 G2 S (match oLt nl cl.2.1 (owE S.1 S.2.1 S.2.2.1) with
              | none => none
              | some one => match oLt nl f (owE S.1 S.2.1 S.2.2.1) with
                | none => none
                | some k => oHd T hl A B n one (some k) S)) := by
              cases ho : oLt nl cl.2.1 (owE S.1 S.2.1 S.2.2.1) with
              | none => exact run_hdn h'' hI.1.2.2.1 (fun z => oLt_no n12 hs ab ho z.1)
              | some one =>
                obtain ⟨l1, l2⟩ := oLt_lt n12 ho
                rw [hs] at l2
                injection l2 with l2
                have e32 : a.toInt32 = nI one := by rw [l2]; exact lN_32 (by omega)
                rw [e32]
                cases ho2 : oLt nl f (owE S.1 S.2.1 S.2.2.1) with
                | none => exact run_hdn h'' hI.1.2.2.1 (fun z => by
                    rcases z.2 with z | z
                    · exact qy z
                    · rw [hy] at z; exact oLt_no n12 hs2 bb ho2 z)
                | some k =>
                  obtain ⟨m1, m2⟩ := oLt_lt n12 ho2
                  rw [hs2] at m2
                  injection m2 with m2
                  have : y = nI k := by rw [hy, m2]; exact lN_32 (by omega)
                  exact run_hd h'' hI hc hRd l1 (fun k' hk' => by cases hk'; exact m1) this
            have hgo' := hgo.mono (fun z hz => hz.fr fR2)
            simp only [w_iadd, w_isub, w_imul, w_iand, w_ior, w_ixor, w_ishl, w_ishr, w_iushr, w_idiv, w_irem, w_ineg, w_ladd, w_lsub, w_lmul, w_ldiv, w_lrem, w_i2l, w_l2i, w_i2c, w_lcmp, w_dup_int, w_pop_int, w_dup_ref, w_pop_ref, w_dup_retAddr, w_pop_retAddr, w_dup2, w_I, w_L, w_Null, w_Ild, w_Lld, w_Ald, w_Ist, w_Lst, w_Ast, w_Iinc, w_if_eq, w_icmp_eq, w_if_ne, w_icmp_ne, w_if_lt, w_icmp_lt, w_if_ge, w_icmp_ge, w_if_gt, w_icmp_gt, w_if_le, w_icmp_le, w_GetI, w_GetL, w_GetR, w_PutI, w_PutZ, w_PutL, w_PutR, w_PutN, w_Iald, w_Zald, w_Lald, w_Aald, w_Iast, w_Zast, w_Last, w_AastR, w_AastN, w_Alen, w_New, w_NewA, w_Mna, w_Iret, w_Zret, w_Cret, w_Bret, w_Lret, w_AretR, w_AretN, w_Vret, w_Obj, w_IfNN, w_IfNR, w_Copy, w_Cln, w_Cast, w_SfA, w_SfI, w_SfQ, w_Str, w_ScLd, w_ScLen, w_CV0, w_CS0, w_CV1, w_CS1, w_CV2, w_CS2, w_CV3, w_CS3, w_CV4, w_CS4, w_CV5, w_CS5, List.getElem?_cons_zero, List.getElem?_cons_succ, List.set_cons_zero, List.set_cons_succ, List.length_cons, List.length_nil, List.map_cons, List.map_nil, List.sum_cons, List.sum_nil, List.nil_append, List.cons_append, Option.toList_some, Option.toList_none, Value.category, xok, va_rf, true_and, and_true, and_self, Nat.reduceAdd, Nat.reduceLT, Nat.reduceLeDiff, Nat.reduceEqDiff, Nat.reduceMul, beq_self_eq_true, decide_true, ite_true, ite_false, if_true, if_false, reduceIte, Bool.true_eq_false, Bool.false_eq_true, eq_self_iff_true, Nat.zero_le, not_true_eq_false, not_false_eq_true, forall_const, false_implies, implies_true, forall_false, hM2.all, ne10, ne10L, ne01, ne01L, tt_imp, nt_imp, ff_imp, nf_imp, true_and, and_true, true_or, or_true, reduceIte] at hgo'
            simp only [Option.toList_some, List.cons_append, List.nil_append, k_Mdl_run_176, k_Mdl_run_177, w_iadd, w_isub, w_imul, w_iand, w_ior, w_ixor, w_ishl, w_ishr, w_iushr, w_idiv, w_irem, w_ineg, w_ladd, w_lsub, w_lmul, w_ldiv, w_lrem, w_i2l, w_l2i, w_i2c, w_lcmp, w_dup_int, w_pop_int, w_dup_ref, w_pop_ref, w_dup_retAddr, w_pop_retAddr, w_dup2, w_I, w_L, w_Null, w_Ild, w_Lld, w_Ald, w_Ist, w_Lst, w_Ast, w_Iinc, w_if_eq, w_icmp_eq, w_if_ne, w_icmp_ne, w_if_lt, w_icmp_lt, w_if_ge, w_icmp_ge, w_if_gt, w_icmp_gt, w_if_le, w_icmp_le, w_GetI, w_GetL, w_GetR, w_PutI, w_PutZ, w_PutL, w_PutR, w_PutN, w_Iald, w_Zald, w_Lald, w_Aald, w_Iast, w_Zast, w_Last, w_AastR, w_AastN, w_Alen, w_New, w_NewA, w_Mna, w_Iret, w_Zret, w_Cret, w_Bret, w_Lret, w_AretR, w_AretN, w_Vret, w_Obj, w_IfNN, w_IfNR, w_Copy, w_Cln, w_Cast, w_SfA, w_SfI, w_SfQ, w_Str, w_ScLd, w_ScLen, w_CV0, w_CS0, w_CV1, w_CS1, w_CV2, w_CS2, w_CV3, w_CS3, w_CV4, w_CS4, w_CV5, w_CS5, List.getElem?_cons_zero, List.getElem?_cons_succ, List.set_cons_zero, List.set_cons_succ, List.length_cons, List.length_nil, List.map_cons, List.map_nil, List.sum_cons, List.sum_nil, List.nil_append, List.cons_append, Option.toList_some, Option.toList_none, Value.category, xok, va_rf, true_and, and_true, and_self, Nat.reduceAdd, Nat.reduceLT, Nat.reduceLeDiff, Nat.reduceEqDiff, Nat.reduceMul, beq_self_eq_true, decide_true, ite_true, ite_false, if_true, if_false, reduceIte, Bool.true_eq_false, Bool.false_eq_true, eq_self_iff_true, Nat.zero_le, not_true_eq_false, not_false_eq_true, forall_const, false_implies, implies_true, forall_false, stI_C, stI_N, stI_Z, stI_S, stI_L, stI_R, stL_C, stL_N, stL_Z, stL_S, stL_I, stL_R, stR_C, stR_N, stR_Z, stR_S, stR_I, stR_L, stA_C, stA_N, stA_Z, stA_S, stA_L, stA_R, stI_I, stL_L, stR_R, stA_I, stN_C, stN_N, stN_Z, stN_S, stN_I, stN_L, stN_R, stI_ne, stL_ne, stR_ne, hM2.all, hy', e3, e4, xin, p3, c3, l3, p4, c4, l4, u3, u4, gle, gy, of2, ne10, ne10L, ne01, ne01L, tt_imp, nt_imp, ff_imp, nf_imp, true_and, and_true, true_or, or_true, reduceIte]
            exact hgo'
  · /- a day -/
    have g1 : (nI (cl.1 - 5) = 1) = True := eq_true (by rw [s2]; rfl)
    have ea : oAct T hl A B n nr nl cl S = if S.1 5 = 999 then none else some (gdF T S.1 nr, S.2.1 + 1, S.2.2.1, keepU S.2.2.2 2 S.1) := by unfold oAct; rw [if_pos s2]
    rw [ea]
    obtain ⟨b1, b2, b3, b4, b5, b6⟩ := h
    obtain ⟨a1, a2, a3, a4⟩ := hI
    obtain ⟨d, d1, d2⟩ := a1.2.2.2.2.1
    simp only [k_Mdl_run_108, w_iadd, w_isub, w_imul, w_iand, w_ior, w_ixor, w_ishl, w_ishr, w_iushr, w_idiv, w_irem, w_ineg, w_ladd, w_lsub, w_lmul, w_ldiv, w_lrem, w_i2l, w_l2i, w_i2c, w_lcmp, w_dup_int, w_pop_int, w_dup_ref, w_pop_ref, w_dup_retAddr, w_pop_retAddr, w_dup2, w_I, w_L, w_Null, w_Ild, w_Lld, w_Ald, w_Ist, w_Lst, w_Ast, w_Iinc, w_if_eq, w_icmp_eq, w_if_ne, w_icmp_ne, w_if_lt, w_icmp_lt, w_if_ge, w_icmp_ge, w_if_gt, w_icmp_gt, w_if_le, w_icmp_le, w_GetI, w_GetL, w_GetR, w_PutI, w_PutZ, w_PutL, w_PutR, w_PutN, w_Iald, w_Zald, w_Lald, w_Aald, w_Iast, w_Zast, w_Last, w_AastR, w_AastN, w_Alen, w_New, w_NewA, w_Mna, w_Iret, w_Zret, w_Cret, w_Bret, w_Lret, w_AretR, w_AretN, w_Vret, w_Obj, w_IfNN, w_IfNR, w_Copy, w_Cln, w_Cast, w_SfA, w_SfI, w_SfQ, w_Str, w_ScLd, w_ScLen, w_CV0, w_CS0, w_CV1, w_CS1, w_CV2, w_CS2, w_CV3, w_CS3, w_CV4, w_CS4, w_CV5, w_CS5, List.getElem?_cons_zero, List.getElem?_cons_succ, List.set_cons_zero, List.set_cons_succ, List.length_cons, List.length_nil, List.map_cons, List.map_nil, List.sum_cons, List.sum_nil, List.nil_append, List.cons_append, Option.toList_some, Option.toList_none, Value.category, xok, va_rf, true_and, and_true, and_self, Nat.reduceAdd, Nat.reduceLT, Nat.reduceLeDiff, Nat.reduceEqDiff, Nat.reduceMul, beq_self_eq_true, decide_true, ite_true, ite_false, if_true, if_false, reduceIte, Bool.true_eq_false, Bool.false_eq_true, eq_self_iff_true, Nat.zero_le, not_true_eq_false, not_false_eq_true, forall_const, false_implies, implies_true, forall_false, stI_C, stI_N, stI_Z, stI_S, stI_L, stI_R, stL_C, stL_N, stL_Z, stL_S, stL_I, stL_R, stR_C, stR_N, stR_Z, stR_S, stR_I, stR_L, stA_C, stA_N, stA_Z, stA_S, stA_L, stA_R, stI_I, stL_L, stR_R, stA_I, stN_C, stN_N, stN_Z, stN_S, stN_I, stN_L, stN_R, stI_ne, stL_ne, stR_ne, hM.all, xin, p9, c9, l9, s1, g1, ne10, ne10L, ne01, ne01L, tt_imp, nt_imp, ff_imp, nf_imp, true_and, and_true, true_or, or_true, reduceIte]
    refine SP.mono (s_passNow b1 n8 a1.1 d1 d2 S.2.2.2.1 a3.1 b4) ?_
    rintro ⟨v, G1⟩ ⟨q1, q2⟩
    dsimp only at q1 q2
    by_cases h9 : d = 999
    · have e := q1 h9
      simp only [Prod.mk.injEq] at e
      obtain ⟨rfl, rfl⟩ := e
      have g9 : S.1 5 = 999 := by rw [d2, h9]; rfl
      have gm : ((0 : Int32) ≤ -3) = False := eq_false (by decide)
      rw [if_pos g9]
      simp only [Option.toList_some, List.cons_append, List.nil_append, k_Mdl_run_220, w_iadd, w_isub, w_imul, w_iand, w_ior, w_ixor, w_ishl, w_ishr, w_iushr, w_idiv, w_irem, w_ineg, w_ladd, w_lsub, w_lmul, w_ldiv, w_lrem, w_i2l, w_l2i, w_i2c, w_lcmp, w_dup_int, w_pop_int, w_dup_ref, w_pop_ref, w_dup_retAddr, w_pop_retAddr, w_dup2, w_I, w_L, w_Null, w_Ild, w_Lld, w_Ald, w_Ist, w_Lst, w_Ast, w_Iinc, w_if_eq, w_icmp_eq, w_if_ne, w_icmp_ne, w_if_lt, w_icmp_lt, w_if_ge, w_icmp_ge, w_if_gt, w_icmp_gt, w_if_le, w_icmp_le, w_GetI, w_GetL, w_GetR, w_PutI, w_PutZ, w_PutL, w_PutR, w_PutN, w_Iald, w_Zald, w_Lald, w_Aald, w_Iast, w_Zast, w_Last, w_AastR, w_AastN, w_Alen, w_New, w_NewA, w_Mna, w_Iret, w_Zret, w_Cret, w_Bret, w_Lret, w_AretR, w_AretN, w_Vret, w_Obj, w_IfNN, w_IfNR, w_Copy, w_Cln, w_Cast, w_SfA, w_SfI, w_SfQ, w_Str, w_ScLd, w_ScLen, w_CV0, w_CS0, w_CV1, w_CS1, w_CV2, w_CS2, w_CV3, w_CS3, w_CV4, w_CS4, w_CV5, w_CS5, List.getElem?_cons_zero, List.getElem?_cons_succ, List.set_cons_zero, List.set_cons_succ, List.length_cons, List.length_nil, List.map_cons, List.map_nil, List.sum_cons, List.sum_nil, List.nil_append, List.cons_append, Option.toList_some, Option.toList_none, Value.category, xok, va_rf, true_and, and_true, and_self, Nat.reduceAdd, Nat.reduceLT, Nat.reduceLeDiff, Nat.reduceEqDiff, Nat.reduceMul, beq_self_eq_true, decide_true, ite_true, ite_false, if_true, if_false, reduceIte, Bool.true_eq_false, Bool.false_eq_true, eq_self_iff_true, Nat.zero_le, not_true_eq_false, not_false_eq_true, forall_const, false_implies, implies_true, forall_false, gm, ne10, ne10L, ne01, ne01L, tt_imp, nt_imp, ff_imp, nf_imp, true_and, and_true, true_or, or_true, reduceIte]
      exact ⟨Fr.refl, rfl, b1, b2, b3, b4, b5, b6⟩
    · obtain ⟨rfl, hr, hf, hUK⟩ := q2 h9
      have g9 : ¬ S.1 5 = 999 := fun z => by
        rw [d2] at z
        exact h9 ((nI_eq (b := 999) (by omega) (by decide)).mp z)
      rw [if_neg g9]
      have hge : 0 ≤ gdF T S.1 nr 5 := by
        obtain ⟨m, m1, m2⟩ := (RW.gd (T := T) a1).2.2.2.2.1
        rw [m2]
        exact nI_pos' (by omega)
      have hHi : Hi S.1 (gdF T S.1 nr) := Hi.gd n8
      obtain ⟨k1, k2, k3⟩ := b5.keep a3.1 hUK (hHi 1 (by omega)) (hHi 2 (by omega))
      simp only [Option.toList_some, List.cons_append, List.nil_append, w_iadd, w_isub, w_imul, w_iand, w_ior, w_ixor, w_ishl, w_ishr, w_iushr, w_idiv, w_irem, w_ineg, w_ladd, w_lsub, w_lmul, w_ldiv, w_lrem, w_i2l, w_l2i, w_i2c, w_lcmp, w_dup_int, w_pop_int, w_dup_ref, w_pop_ref, w_dup_retAddr, w_pop_retAddr, w_dup2, w_I, w_L, w_Null, w_Ild, w_Lld, w_Ald, w_Ist, w_Lst, w_Ast, w_Iinc, w_if_eq, w_icmp_eq, w_if_ne, w_icmp_ne, w_if_lt, w_icmp_lt, w_if_ge, w_icmp_ge, w_if_gt, w_icmp_gt, w_if_le, w_icmp_le, w_GetI, w_GetL, w_GetR, w_PutI, w_PutZ, w_PutL, w_PutR, w_PutN, w_Iald, w_Zald, w_Lald, w_Aald, w_Iast, w_Zast, w_Last, w_AastR, w_AastN, w_Alen, w_New, w_NewA, w_Mna, w_Iret, w_Zret, w_Cret, w_Bret, w_Lret, w_AretR, w_AretN, w_Vret, w_Obj, w_IfNN, w_IfNR, w_Copy, w_Cln, w_Cast, w_SfA, w_SfI, w_SfQ, w_Str, w_ScLd, w_ScLen, w_CV0, w_CS0, w_CV1, w_CS1, w_CV2, w_CS2, w_CV3, w_CS3, w_CV4, w_CS4, w_CV5, w_CS5, List.getElem?_cons_zero, List.getElem?_cons_succ, List.set_cons_zero, List.set_cons_succ, List.length_cons, List.length_nil, List.map_cons, List.map_nil, List.sum_cons, List.sum_nil, List.nil_append, List.cons_append, Option.toList_some, Option.toList_none, Value.category, xok, va_rf, true_and, and_true, and_self, Nat.reduceAdd, Nat.reduceLT, Nat.reduceLeDiff, Nat.reduceEqDiff, Nat.reduceMul, beq_self_eq_true, decide_true, ite_true, ite_false, if_true, if_false, reduceIte, Bool.true_eq_false, Bool.false_eq_true, eq_self_iff_true, Nat.zero_le, not_true_eq_false, not_false_eq_true, forall_const, false_implies, implies_true, forall_false, ne10, ne10L, ne01, ne01L, tt_imp, nt_imp, ff_imp, nf_imp, true_and, and_true, true_or, or_true, reduceIte]
      refine (run_220p (S' := (gdF T S.1 nr, S.2.1 + 1, S.2.2.1, keepU S.2.2.2 2 S.1)) hge ⟨hf.ms hM, (hf.I rfl).trans b1.2.1, hr, b1.2.2.2.1.same hHi.sl, b1.2.2.2.2⟩ ((hf.I rfl).trans b2) rfl ((hf.I rfl).trans b3) k2 k1 (fun j hj => (k3 j hj).trans (b6 j hj))).mono (fun z hz => hz.fr (hf.mono WHM_WRun))
