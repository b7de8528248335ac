def ixC (v : Int32) : Nat := if v = -1 then 0 else if v = -2 then 1 else if v = -3 then 2 else if v = -5 then 3 else 4
def rfC (f : Nat → Int32) (v : Int32) : Nat → Int32 := if v < 0 then up f (ixC v) (f (ixC v) + 1) else f
/-- what a call writes in the class -/
def WCB : Nat → Nat → Bool := fun a k => WC a k || a == 69 || (a == 0 && k == 16)
theorem WC_WCB (a k : Nat) (h : WCB a k = false) : WC a k = false := by
  unfold WCB at h
  simp only [Bool.or_eq_false_iff] at h
  exact h.1.1
theorem WW_WCB (a k : Nat) (h : WCB a k = false) : WW a k = false := WW_WC a k (WC_WCB a k h)
def CO (G : XH) (v : Int32) (R' : Nat → Int32) (r : XR) : Prop := r.1 = some (.int v) ∧ VW (hpI r.2 2) R' ∧ FC WCB G r.2 ∧ hpI r.2 0 16 = stM1 v ∧ hpI r.2 69 = rfC (hpI G 69) v
def UnC (G G' : XH) : Prop := hpI G' 8 = hpI G 8 ∧ hpI G' 26 = hpI G 26 ∧ ∀ i, i < 16 → hpI G' (10 + i) = hpI G (10 + i)
theorem acc_CO {G G' : XH} {v : Int32} {R' : Nat → Int32} (hv : 0 ≤ v) (hf : FC WC G G') (hV : VW (hpI G' 2) R') : CO G v R' (some (.int v), stI G' 0 16 0) := by
  have h0 : ¬ v < 0 := Int32.not_lt.mpr hv
  refine ⟨rfl, ?_, (hf.mono WC_WCB).trans (Fr.refl.wI rfl).fc, ?_, ?_⟩
  · rw [stI_up, hpI_stA_ne (by decide)]
    exact hV
  · rw [stI_up, hpI_stA, up_eq]
    unfold stM1
    rw [if_neg h0]
  · rw [stI_up, hpI_stA_ne (by decide), hf.IA _ (fun _ => rfl)]
    unfold rfC
    rw [if_neg h0]
theorem ref_CO {G G' : XH} {v : Int32} {i : Nat} {R' : Nat → Int32} (hv : v < 0) (hi : i = ixC v) (hf : FC WC G G') (hV : VW (hpI G' 2) R') : CO G v R' (some (.int v), refH v i G') := by
  subst hi
  unfold refH
  refine ⟨rfl, ?_, (hf.mono WC_WCB).trans ((Fr.refl.wI rfl).wI ?_).fc, ?_, ?_⟩
  · rw [stI_up (a := 69), hpI_stA_ne (by decide), stI_up, hpI_stA_ne (by decide)]
    exact hV
  · unfold WCB
    simp
  · rw [stI_up (a := 69), hpI_stA_ne (by decide), stI_up, hpI_stA, up_eq]
    unfold stM1
    rw [if_pos hv]
  · rw [stI_up (a := 69), hpI_stA, stI_up, hpI_stA_ne (by decide), hf.IA _ (fun _ => rfl)]
    unfold rfC
    rw [if_pos hv]
theorem unc_s {G G' : XH} {k : Nat} {v : Int32} (h : UnC G G') : UnC G (stI G' 0 k v) := by
  obtain ⟨h1, h2, h3⟩ := h
  refine ⟨?_, ?_, fun i hi => ?_⟩
  · rw [stI_up, hpI_stA_ne (by decide)]; exact h1
  · rw [stI_up, hpI_stA_ne (by decide)]; exact h2
  · rw [stI_up, hpI_stA_ne (by omega)]; exact h3 i hi
theorem unc_r {G G' : XH} {i : Nat} {v : Int32} (h : UnC G G') : UnC G (refH v i G') := by
  obtain ⟨h1, h2, h3⟩ := unc_s (k := 16) (v := v) h
  unfold refH
  refine ⟨?_, ?_, fun i hi => ?_⟩
  · rw [stI_up (a := 69), hpI_stA_ne (by decide)]; exact h1
  · rw [stI_up (a := 69), hpI_stA_ne (by decide)]; exact h2
  · rw [stI_up (a := 69), hpI_stA_ne (by omega)]; exact h3 i hi
theorem unc_ww {G G' : XH} (h : FC WW G G') : UnC G G' := ⟨h.IA _ (fun _ => rfl), h.IA _ (fun _ => rfl), fun i hi => h.IA _ (fun k => by unfold WW; simp only [Bool.or_eq_false_iff, beq_eq_false_iff_ne]; omega)⟩
theorem ukc_s {G G' : XH} {n p : Nat} {v w : Int32} {k : Nat} (h : UKc G G' n p v) (hp : p < 16) : UKc G (stI G' 0 k w) n p v := by
  obtain ⟨h1, h2, h3, h4, h5⟩ := h
  refine ⟨fun j hj => ?_, fun i hi hip => ?_, ?_, ?_, ?_⟩
  · rw [stI_up, hpI_stA_ne (by omega)]; exact h1 j hj
  · rw [stI_up, hpI_stA_ne (by omega)]; exact h2 i hi hip
  · rw [stI_up, hpI_stA_ne (by decide)]; exact h3
  · rw [stI_up, hpI_stA_ne (by decide)]; exact h4
  · rw [stI_up, hpI_stA_ne (by decide)]; exact h5
theorem c_hand {G : XH} {R : Nat → Int32} {T : Nat → (Nat → Int64) → Option Int64} {hl : Bool} (h : CX G 2 R T hl) (hU : CU G) {n : Nat} {A B : Nat → Nat} (hRd : CRd G n A B) {w tn one nr nl c : Nat} {o : Option Nat} (hR : RW R nr nl c) (hw : w < nr) (hH : HC R w one o) (hp : ∀ k, o = some k → ¬ R (57 + 7 * one + 2) + R (57 + 7 * k + 2) ≤ 0) (ht : tn < 8) (htn : R (10 + 6 * w) = nI tn) (h1 : one < nl) (h2 : ∀ k, o = some k → k < nl) (nu p : Nat) (hnu : nu ≤ 16) (hp16 : p < 16) (hu : hpI G 8 3 = nI nu) (hup : hpI G 8 2 = nI p) : SP D_Post_hand [.ref 0, .int (nI one), .int (oI o)] G (fun r => (okF T R A B n w tn one o = false → CO G (-3) R r ∧ UnC G r.2) ∧ (okF T R A B n w tn one o = true → CO G (rdP T R w one o (lafF T hl (hdF R w one o))) (rdR T R w one o (lafF T hl (hdF R w one o))) r ∧ UKc G r.2 nu p 0)) := by
  have hC := h.1
  rw [e_Post_hand]
  simp only [k_Post_hand_0, w_iadd, w_isub, w_imul, w_iand, w_ior, w_ixor, w_ishl, w_ishr, w_iushr, w_idiv, w_irem, w_ineg, w_ladd, w_lsub, w_lmul, w_ldiv, w_lrem, w_i2l, w_l2i, w_i2c, w_lcmp, w_dup_int, w_pop_int, w_dup_ref, w_pop_ref, w_dup_retAddr, w_pop_retAddr, w_dup2, w_I, w_L, w_Null, w_Ild, w_Lld, w_Ald, w_Ist, w_Lst, w_Ast, w_Iinc, w_if_eq, w_icmp_eq, w_if_ne, w_icmp_ne, w_if_lt, w_icmp_lt, w_if_ge, w_icmp_ge, w_if_gt, w_icmp_gt, w_if_le, w_icmp_le, w_GetI, w_GetL, w_GetR, w_PutI, w_PutZ, w_PutL, w_PutR, w_PutN, w_Iald, w_Zald, w_Lald, w_Aald, w_Iast, w_Zast, w_Last, w_AastR, w_AastN, w_Alen, w_New, w_NewA, w_Mna, w_Iret, w_Zret, w_Cret, w_Bret, w_Lret, w_AretR, w_AretN, w_Vret, w_Obj, w_IfNN, w_IfNR, w_Copy, w_Cln, w_Cast, w_SfA, w_SfI, w_SfQ, w_Str, w_ScLd, w_ScLen, w_CV0, w_CS0, w_CV1, w_CS1, w_CV2, w_CS2, w_CV3, w_CS3, w_CV4, w_CS4, w_CV5, w_CS5, List.getElem?_cons_zero, List.getElem?_cons_succ, List.set_cons_zero, List.set_cons_succ, List.length_cons, List.length_nil, List.map_cons, List.map_nil, List.sum_cons, List.sum_nil, List.nil_append, List.cons_append, Option.toList_some, Option.toList_none, Value.category, xok, va_rf, true_and, and_true, and_self, Nat.reduceAdd, Nat.reduceLT, Nat.reduceLeDiff, Nat.reduceEqDiff, Nat.reduceMul, beq_self_eq_true, decide_true, ite_true, ite_false, if_true, if_false, reduceIte, Bool.true_eq_false, Bool.false_eq_true, eq_self_iff_true, Nat.zero_le, not_true_eq_false, not_false_eq_true, forall_const, false_implies, implies_true, forall_false, hC.all]
  refine SP.mono (c_tryHanding h hU hRd hH hp (hR.2.2.2.2.2.2.2.2.1 w hw).2.2.1 ht htn hR.2.2.2.1 hR.2.2.1 h1 h2 nu p hnu hp16 hu hup) ?_
  rintro ⟨v, G1⟩ ⟨q1, q2⟩
  dsimp only at q1 q2
  cases hok : okF T R A B n w tn one o with
  | false =>
    obtain ⟨rfl, hf⟩ := q1 hok
    have hC1 := hf.cs hC
    have g : ¬ (0 : Int32) ≤ -3 := by decide
    simp only [k_Post_hand_24, w_iadd, w_isub, w_imul, w_iand, w_ior, w_ixor, w_ishl, w_ishr, w_iushr, w_idiv, w_irem, w_ineg, w_ladd, w_lsub, w_lmul, w_ldiv, w_lrem, w_i2l, w_l2i, w_i2c, w_lcmp, w_dup_int, w_pop_int, w_dup_ref, w_pop_ref, w_dup_retAddr, w_pop_retAddr, w_dup2, w_I, w_L, w_Null, w_Ild, w_Lld, w_Ald, w_Ist, w_Lst, w_Ast, w_Iinc, w_if_eq, w_icmp_eq, w_if_ne, w_icmp_ne, w_if_lt, w_icmp_lt, w_if_ge, w_icmp_ge, w_if_gt, w_icmp_gt, w_if_le, w_icmp_le, w_GetI, w_GetL, w_GetR, w_PutI, w_PutZ, w_PutL, w_PutR, w_PutN, w_Iald, w_Zald, w_Lald, w_Aald, w_Iast, w_Zast, w_Last, w_AastR, w_AastN, w_Alen, w_New, w_NewA, w_Mna, w_Iret, w_Zret, w_Cret, w_Bret, w_Lret, w_AretR, w_AretN, w_Vret, w_Obj, w_IfNN, w_IfNR, w_Copy, w_Cln, w_Cast, w_SfA, w_SfI, w_SfQ, w_Str, w_ScLd, w_ScLen, w_CV0, w_CS0, w_CV1, w_CS1, w_CV2, w_CS2, w_CV3, w_CS3, w_CV4, w_CS4, w_CV5, w_CS5, List.getElem?_cons_zero, List.getElem?_cons_succ, List.set_cons_zero, List.set_cons_succ, List.length_cons, List.length_nil, List.map_cons, List.map_nil, List.sum_cons, List.sum_nil, List.nil_append, List.cons_append, Option.toList_some, Option.toList_none, Value.category, xok, va_rf, true_and, and_true, and_self, Nat.reduceAdd, Nat.reduceLT, Nat.reduceLeDiff, Nat.reduceEqDiff, Nat.reduceMul, beq_self_eq_true, decide_true, ite_true, ite_false, if_true, if_false, reduceIte, Bool.true_eq_false, Bool.false_eq_true, eq_self_iff_true, Nat.zero_le, not_true_eq_false, not_false_eq_true, forall_const, false_implies, implies_true, forall_false, hC1.all, g, fun Q => c_refuse_3 hC1 Q, ne10, ne10L, ne01, ne01L, tt_imp, nt_imp, ff_imp, nf_imp, true_and, and_true, true_or, or_true, reduceIte]
    refine ⟨ref_CO (by decide) (by decide) (hf.mono WW_WC) ?_, unc_r (unc_ww hf)⟩
    rw [hf.IA _ (fun _ => rfl)]
    exact h.2.2.1
  | true =>
    obtain ⟨rfl, hV1, hf, hUK⟩ := q2 hok
    have hC1 := hf.cs hC
    have hge : 0 ≤ rdP T R w one o (lafF T hl (hdF R w one o)) := by
      obtain ⟨m, m1, m2⟩ := hR.wep (T := T) (lg := lafF T hl (hdF R w one o)) hw hH.2.2.2.2.2
      rw [m2]
      exact nI_pos' (by omega)
    simp only [k_Post_hand_24, w_iadd, w_isub, w_imul, w_iand, w_ior, w_ixor, w_ishl, w_ishr, w_iushr, w_idiv, w_irem, w_ineg, w_ladd, w_lsub, w_lmul, w_ldiv, w_lrem, w_i2l, w_l2i, w_i2c, w_lcmp, w_dup_int, w_pop_int, w_dup_ref, w_pop_ref, w_dup_retAddr, w_pop_retAddr, w_dup2, w_I, w_L, w_Null, w_Ild, w_Lld, w_Ald, w_Ist, w_Lst, w_Ast, w_Iinc, w_if_eq, w_icmp_eq, w_if_ne, w_icmp_ne, w_if_lt, w_icmp_lt, w_if_ge, w_icmp_ge, w_if_gt, w_icmp_gt, w_if_le, w_icmp_le, w_GetI, w_GetL, w_GetR, w_PutI, w_PutZ, w_PutL, w_PutR, w_PutN, w_Iald, w_Zald, w_Lald, w_Aald, w_Iast, w_Zast, w_Last, w_AastR, w_AastN, w_Alen, w_New, w_NewA, w_Mna, w_Iret, w_Zret, w_Cret, w_Bret, w_Lret, w_AretR, w_AretN, w_Vret, w_Obj, w_IfNN, w_IfNR, w_Copy, w_Cln, w_Cast, w_SfA, w_SfI, w_SfQ, w_Str, w_ScLd, w_ScLen, w_CV0, w_CS0, w_CV1, w_CS1, w_CV2, w_CS2, w_CV3, w_CS3, w_CV4, w_CS4, w_CV5, w_CS5, List.getElem?_cons_zero, List.getElem?_cons_succ, List.set_cons_zero, List.set_cons_succ, List.length_cons, List.length_nil, List.map_cons, List.map_nil, List.sum_cons, List.sum_nil, List.nil_append, List.cons_append, Option.toList_some, Option.toList_none, Value.category, xok, va_rf, true_and, and_true, and_self, Nat.reduceAdd, Nat.reduceLT, Nat.reduceLeDiff, Nat.reduceEqDiff, Nat.reduceMul, beq_self_eq_true, decide_true, ite_true, ite_false, if_true, if_false, reduceIte, Bool.true_eq_false, Bool.false_eq_true, eq_self_iff_true, Nat.zero_le, not_true_eq_false, not_false_eq_true, forall_const, false_implies, implies_true, forall_false, hC1.all, hge, fun Q => c_accept hC1 Q, ne10, ne10L, ne01, ne01L, tt_imp, nt_imp, ff_imp, nf_imp, true_and, and_true, true_or, or_true, reduceIte]
    exact ⟨acc_CO hge hf hV1, ukc_s hUK hp16⟩
theorem c_pass {G : XH} {R : Nat → Int32} {T : Nat → (Nat → Int64) → Option Int64} {hl : Bool} (h : CX G 2 R T hl) (hU : CU G) {nr nl c : Nat} (hR : RW R nr nl c) (hc : c ≤ 500000) {d : Nat} (hd : d ≤ 999) (h5 : R 5 = nI d) (nu p : Nat) (hnu : nu ≤ 16) (hp16 : p < 16) (hu : hpI G 8 3 = nI nu) (hup : hpI G 8 2 = nI p) : SP D_Post_pass [.ref 0] G (fun r => (d = 999 → CO G (-3) R r ∧ UnC G r.2) ∧ (¬ d = 999 → CO G (gdF T R nr 5) (gdF T R nr) r ∧ UKc G r.2 nu p 2)) := by
  have hC := h.1
  rw [e_Post_pass]
  simp only [k_Post_pass_0, w_iadd, w_isub, w_imul, w_iand, w_ior, w_ixor, w_ishl, w_ishr, w_iushr, w_idiv, w_irem, w_ineg, w_ladd, w_lsub, w_lmul, w_ldiv, w_lrem, w_i2l, w_l2i, w_i2c, w_lcmp, w_dup_int, w_pop_int, w_dup_ref, w_pop_ref, w_dup_retAddr, w_pop_retAddr, w_dup2, w_I, w_L, w_Null, w_Ild, w_Lld, w_Ald, w_Ist, w_Lst, w_Ast, w_Iinc, w_if_eq, w_icmp_eq, w_if_ne, w_icmp_ne, w_if_lt, w_icmp_lt, w_if_ge, w_icmp_ge, w_if_gt, w_icmp_gt, w_if_le, w_icmp_le, w_GetI, w_GetL, w_GetR, w_PutI, w_PutZ, w_PutL, w_PutR, w_PutN, w_Iald, w_Zald, w_Lald, w_Aald, w_Iast, w_Zast, w_Last, w_AastR, w_AastN, w_Alen, w_New, w_NewA, w_Mna, w_Iret, w_Zret, w_Cret, w_Bret, w_Lret, w_AretR, w_AretN, w_Vret, w_Obj, w_IfNN, w_IfNR, w_Copy, w_Cln, w_Cast, w_SfA, w_SfI, w_SfQ, w_Str, w_ScLd, w_ScLen, w_CV0, w_CS0, w_CV1, w_CS1, w_CV2, w_CS2, w_CV3, w_CS3, w_CV4, w_CS4, w_CV5, w_CS5, List.getElem?_cons_zero, List.getElem?_cons_succ, List.set_cons_zero, List.set_cons_succ, List.length_cons, List.length_nil, List.map_cons, List.map_nil, List.sum_cons, List.sum_nil, List.nil_append, List.cons_append, Option.toList_some, Option.toList_none, Value.category, xok, va_rf, true_and, and_true, and_self, Nat.reduceAdd, Nat.reduceLT, Nat.reduceLeDiff, Nat.reduceEqDiff, Nat.reduceMul, beq_self_eq_true, decide_true, ite_true, ite_false, if_true, if_false, reduceIte, Bool.true_eq_false, Bool.false_eq_true, eq_self_iff_true, Nat.zero_le, not_true_eq_false, not_false_eq_true, forall_const, false_implies, implies_true, forall_false, hC.all]
  refine SP.mono (c_tryPassing h hU hR hc hd h5 nu p hnu hp16 hu hup) ?_
  rintro ⟨v, G1⟩ ⟨q1, q2⟩
  dsimp only at q1 q2
  by_cases h9 : d = 999
  · have e := q1 h9
    simp only [Prod.mk.injEq] at e
    obtain ⟨rfl, rfl⟩ := e
    have g : ¬ (0 : Int32) ≤ -3 := by decide
    simp only [k_Post_pass_22, w_iadd, w_isub, w_imul, w_iand, w_ior, w_ixor, w_ishl, w_ishr, w_iushr, w_idiv, w_irem, w_ineg, w_ladd, w_lsub, w_lmul, w_ldiv, w_lrem, w_i2l, w_l2i, w_i2c, w_lcmp, w_dup_int, w_pop_int, w_dup_ref, w_pop_ref, w_dup_retAddr, w_pop_retAddr, w_dup2, w_I, w_L, w_Null, w_Ild, w_Lld, w_Ald, w_Ist, w_Lst, w_Ast, w_Iinc, w_if_eq, w_icmp_eq, w_if_ne, w_icmp_ne, w_if_lt, w_icmp_lt, w_if_ge, w_icmp_ge, w_if_gt, w_icmp_gt, w_if_le, w_icmp_le, w_GetI, w_GetL, w_GetR, w_PutI, w_PutZ, w_PutL, w_PutR, w_PutN, w_Iald, w_Zald, w_Lald, w_Aald, w_Iast, w_Zast, w_Last, w_AastR, w_AastN, w_Alen, w_New, w_NewA, w_Mna, w_Iret, w_Zret, w_Cret, w_Bret, w_Lret, w_AretR, w_AretN, w_Vret, w_Obj, w_IfNN, w_IfNR, w_Copy, w_Cln, w_Cast, w_SfA, w_SfI, w_SfQ, w_Str, w_ScLd, w_ScLen, w_CV0, w_CS0, w_CV1, w_CS1, w_CV2, w_CS2, w_CV3, w_CS3, w_CV4, w_CS4, w_CV5, w_CS5, List.getElem?_cons_zero, List.getElem?_cons_succ, List.set_cons_zero, List.set_cons_succ, List.length_cons, List.length_nil, List.map_cons, List.map_nil, List.sum_cons, List.sum_nil, List.nil_append, List.cons_append, Option.toList_some, Option.toList_none, Value.category, xok, va_rf, true_and, and_true, and_self, Nat.reduceAdd, Nat.reduceLT, Nat.reduceLeDiff, Nat.reduceEqDiff, Nat.reduceMul, beq_self_eq_true, decide_true, ite_true, ite_false, if_true, if_false, reduceIte, Bool.true_eq_false, Bool.false_eq_true, eq_self_iff_true, Nat.zero_le, not_true_eq_false, not_false_eq_true, forall_const, false_implies, implies_true, forall_false, hC.all, g, fun Q => c_refuse_3 hC Q, ne10, ne10L, ne01, ne01L, tt_imp, nt_imp, ff_imp, nf_imp, true_and, and_true, true_or, or_true, reduceIte]
    exact ⟨fun _ => ⟨ref_CO (by decide) (by decide) FC.refl h.2.2.1, unc_r (unc_ww FC.refl)⟩, fun z => absurd h9 z⟩
  · obtain ⟨rfl, hV1, hf, hUK⟩ := q2 h9
    have hC1 := hf.cs hC
    have hge : 0 ≤ gdF T R nr 5 := by
      obtain ⟨m, m1, m2⟩ := (RW.gd (T := T) hR).2.2.2.2.1
      rw [m2]
      exact nI_pos' (by omega)
    simp only [k_Post_pass_22, w_iadd, w_isub, w_imul, w_iand, w_ior, w_ixor, w_ishl, w_ishr, w_iushr, w_idiv, w_irem, w_ineg, w_ladd, w_lsub, w_lmul, w_ldiv, w_lrem, w_i2l, w_l2i, w_i2c, w_lcmp, w_dup_int, w_pop_int, w_dup_ref, w_pop_ref, w_dup_retAddr, w_pop_retAddr, w_dup2, w_I, w_L, w_Null, w_Ild, w_Lld, w_Ald, w_Ist, w_Lst, w_Ast, w_Iinc, w_if_eq, w_icmp_eq, w_if_ne, w_icmp_ne, w_if_lt, w_icmp_lt, w_if_ge, w_icmp_ge, w_if_gt, w_icmp_gt, w_if_le, w_icmp_le, w_GetI, w_GetL, w_GetR, w_PutI, w_PutZ, w_PutL, w_PutR, w_PutN, w_Iald, w_Zald, w_Lald, w_Aald, w_Iast, w_Zast, w_Last, w_AastR, w_AastN, w_Alen, w_New, w_NewA, w_Mna, w_Iret, w_Zret, w_Cret, w_Bret, w_Lret, w_AretR, w_AretN, w_Vret, w_Obj, w_IfNN, w_IfNR, w_Copy, w_Cln, w_Cast, w_SfA, w_SfI, w_SfQ, w_Str, w_ScLd, w_ScLen, w_CV0, w_CS0, w_CV1, w_CS1, w_CV2, w_CS2, w_CV3, w_CS3, w_CV4, w_CS4, w_CV5, w_CS5, List.getElem?_cons_zero, List.getElem?_cons_succ, List.set_cons_zero, List.set_cons_succ, List.length_cons, List.length_nil, List.map_cons, List.map_nil, List.sum_cons, List.sum_nil, List.nil_append, List.cons_append, Option.toList_some, Option.toList_none, Value.category, xok, va_rf, true_and, and_true, and_self, Nat.reduceAdd, Nat.reduceLT, Nat.reduceLeDiff, Nat.reduceEqDiff, Nat.reduceMul, beq_self_eq_true, decide_true, ite_true, ite_false, if_true, if_false, reduceIte, Bool.true_eq_false, Bool.false_eq_true, eq_self_iff_true, Nat.zero_le, not_true_eq_false, not_false_eq_true, forall_const, false_implies, implies_true, forall_false, hC1.all, hge, fun Q => c_accept hC1 Q, ne10, ne10L, ne01, ne01L, tt_imp, nt_imp, ff_imp, nf_imp, true_and, and_true, true_or, or_true, reduceIte]
    exact ⟨fun z => absurd z h9, fun _ => ⟨acc_CO hge hf hV1, ukc_s hUK hp16⟩⟩
