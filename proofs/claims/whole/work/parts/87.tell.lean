/-- what a call that changes readers and letters writes in the model -/
def WB : Nat → Nat → Bool := fun a k => WHM a k || a == 71 || (a == 70 && (k == 0 || k == 1))
theorem WHM_WB (a k : Nat) (h : WB a k = false) : WHM a k = false := by
  unfold WB at h
  simp only [Bool.or_eq_false_iff] at h
  exact h.1.1
theorem WH_WB (a k : Nat) (h : WB a k = false) : WH a k = false := WH_WHM a k (WHM_WB a k h)
def rfM (f : Nat → Int32) (v : Int32) : Nat → Int32 := if v < 0 then up f (-v).toNatClampNeg (f (-v).toNatClampNeg + 1) else f
def stM1 (v : Int32) : Int32 := if v < 0 then v else 0
theorem tH_f {G : XH} {v : Int32} {a : Nat} (h1 : ¬ a = 70) (h2 : ¬ a = 71) : hpI (tellH v G) a = hpI G a := by
  unfold tellH
  split
  · rw [stI_up (a := 71), hpI_stA_ne h2, stI_up (a := 70), hpI_stA_ne h1]
  · rw [stI_up (a := 70), hpI_stA_ne h1]
theorem tH_m {G : XH} {v : Int32} {k : Nat} (h1 : ¬ k = 1) : hpI (tellH v G) 70 k = hpI G 70 k := by
  unfold tellH
  split
  · rw [stI_up (a := 71), hpI_stA_ne (by decide), stI_up (a := 70), hpI_stA, up_ne h1]
  · rw [stI_up (a := 70), hpI_stA, up_ne h1]
theorem tH_s {G : XH} {v : Int32} : hpI (tellH v G) 70 1 = stM1 v := by
  unfold tellH stM1
  split
  · rw [stI_up (a := 71), hpI_stA_ne (by decide), stI_up (a := 70), hpI_stA, up_eq]
  · rw [stI_up (a := 70), hpI_stA, up_eq]
theorem tH_r {G : XH} {v : Int32} : hpI (tellH v G) 71 = rfM (hpI G 71) v := by
  unfold tellH rfM
  split
  · rw [stI_up (a := 71), hpI_stA, stI_up (a := 70), hpI_stA_ne (by decide)]
  · rw [stI_up (a := 70), hpI_stA_ne (by decide)]
theorem tH_L {G : XH} {v : Int32} : hpL (tellH v G) = hpL G := by
  unfold tellH
  split <;> rfl
theorem tH_fr {G G' : XH} {v : Int32} (h : Fr WB G G') : Fr WB G (tellH v G') := by
  unfold tellH
  split
  · refine (h.wI rfl).wI ?_
    unfold WB
    simp
  · exact h.wI rfl
theorem tH_MS {G : XH} {v : Int32} (h : MS G) : MS (tellH v G) := by
  rw [MS_tell]
  exact h
theorem fr0 {G : XH} : Fr WB G (stI G 70 0 0) := Fr.refl.wI rfl
theorem fr0' {G : XH} : Fr (fun a k => a == 70 && k == 0) G (stI G 70 0 0) := Fr.refl.wI rfl
theorem MX.t0 {G : XH} {R : Nat → Int32} {T : Nat → (Nat → Int64) → Option Int64} {hl : Bool} (h : MX G R T hl) : MX (stI G 70 0 0) R T hl := h.fr fr0' rfl (fun _ => rfl)
/-- what a call leaves in the model: its answer, rows, how it was refused -/
def MO (G : XH) (v : Int32) (R' : Nat → Int32) (r : XR) : Prop := r.1 = some (.int v) ∧ hpI r.2 72 = R' ∧ Fr WB G r.2 ∧ hpI r.2 70 1 = stM1 v ∧ hpI r.2 71 = rfM (hpI G 71) v
/-- what can be undone stays -/
def UnS (G G' : XH) : Prop := hpI G' 70 8 = hpI G 70 8 ∧ hpI G' 75 = hpI G 75 ∧ hpI G' 76 = hpI G 76
theorem s_hand {G : XH} {R : Nat → Int32} {T : Nat → (Nat → Int64) → Option Int64} {hl : Bool} (h : MX G R T hl) {n : Nat} {A B : Nat → Nat} (hRd : MRd R n A B) {w tn one nr nl c : Nat} {o : Option Nat} (hR : RW R nr nl c) (hw : w < nr) (hH : HC R w one o) (ht : tn < 8) (htn : R (10 + 6 * w) = nI tn) (h1 : one < nl) (h2 : ∀ k, o = some k → k < nl) (nu : Nat) (hnu : nu ≤ 16) (hu : hpI G 70 8 = nI nu) : SP D_Mdl_hand [.ref 70, .int (nI one), .int (oI o)] G (fun r => (okF T R A B n w tn one o = false → MO G (-3) R r ∧ UnS G r.2) ∧ (okF T R A B n w tn one o = true → MO G (rdP T R w one o (lafF T hl (hdF R w one o))) (rdR T R w one o (lafF T hl (hdF R w one o))) r ∧ UKm R (hpI G 75) (hpI G 76) nu 0 (hpI r.2 70 8) (hpI r.2 75) (hpI r.2 76))) := by
  have hM := h.1
  have h0 := h.t0
  have hu0 : hpI (stI G 70 0 0) 70 8 = nI nu := by simp only [stI_C, stI_N, stI_Z, stI_S, stI_L, stI_R, stL_C, stL_N, stL_Z, stL_S, stL_I, stL_R, stR_C, stR_N, stR_Z, stR_S, stR_I, stR_L, stA_C, stA_N, stA_Z, stA_S, stA_L, stA_R, stI_I, stL_L, stR_R, stA_I, stN_C, stN_N, stN_Z, stN_S, stN_I, stN_L, stN_R, stI_ne, stL_ne, stR_ne, List.getElem?_cons_zero, List.getElem?_cons_succ, List.set_cons_zero, List.set_cons_succ, List.length_cons, List.length_nil, List.map_cons, List.map_nil, List.sum_cons, List.sum_nil, List.nil_append, List.cons_append, Option.toList_some, Option.toList_none, Value.category, xok, va_rf, true_and, and_true, and_self, Nat.reduceAdd, Nat.reduceLT, Nat.reduceLeDiff, Nat.reduceEqDiff, Nat.reduceMul, beq_self_eq_true, decide_true, ite_true, ite_false, if_true, if_false, reduceIte, Bool.true_eq_false, Bool.false_eq_true, eq_self_iff_true, Nat.zero_le, not_true_eq_false, not_false_eq_true, forall_const, false_implies, implies_true, forall_false]; exact hu
  have nl12 := hR.2.2.2.1
  have hl2 := hR.2.2.1
  rw [e_Mdl_hand]
  simp only [k_Mdl_hand_0, w_iadd, w_isub, w_imul, w_iand, w_ior, w_ixor, w_ishl, w_ishr, w_iushr, w_idiv, w_irem, w_ineg, w_ladd, w_lsub, w_lmul, w_ldiv, w_lrem, w_i2l, w_l2i, w_i2c, w_lcmp, w_dup_int, w_pop_int, w_dup_ref, w_pop_ref, w_dup_retAddr, w_pop_retAddr, w_dup2, w_I, w_L, w_Null, w_Ild, w_Lld, w_Ald, w_Ist, w_Lst, w_Ast, w_Iinc, w_if_eq, w_icmp_eq, w_if_ne, w_icmp_ne, w_if_lt, w_icmp_lt, w_if_ge, w_icmp_ge, w_if_gt, w_icmp_gt, w_if_le, w_icmp_le, w_GetI, w_GetL, w_GetR, w_PutI, w_PutZ, w_PutL, w_PutR, w_PutN, w_Iald, w_Zald, w_Lald, w_Aald, w_Iast, w_Zast, w_Last, w_AastR, w_AastN, w_Alen, w_New, w_NewA, w_Mna, w_Iret, w_Zret, w_Cret, w_Bret, w_Lret, w_AretR, w_AretN, w_Vret, w_Obj, w_IfNN, w_IfNR, w_Copy, w_Cln, w_Cast, w_SfA, w_SfI, w_SfQ, w_Str, w_ScLd, w_ScLen, w_CV0, w_CS0, w_CV1, w_CS1, w_CV2, w_CS2, w_CV3, w_CS3, w_CV4, w_CS4, w_CV5, w_CS5, List.getElem?_cons_zero, List.getElem?_cons_succ, List.set_cons_zero, List.set_cons_succ, List.length_cons, List.length_nil, List.map_cons, List.map_nil, List.sum_cons, List.sum_nil, List.nil_append, List.cons_append, Option.toList_some, Option.toList_none, Value.category, xok, va_rf, true_and, and_true, and_self, Nat.reduceAdd, Nat.reduceLT, Nat.reduceLeDiff, Nat.reduceEqDiff, Nat.reduceMul, beq_self_eq_true, decide_true, ite_true, ite_false, if_true, if_false, reduceIte, Bool.true_eq_false, Bool.false_eq_true, eq_self_iff_true, Nat.zero_le, not_true_eq_false, not_false_eq_true, forall_const, false_implies, implies_true, forall_false, stI_C, stI_N, stI_Z, stI_S, stI_L, stI_R, stL_C, stL_N, stL_Z, stL_S, stL_I, stL_R, stR_C, stR_N, stR_Z, stR_S, stR_I, stR_L, stA_C, stA_N, stA_Z, stA_S, stA_L, stA_R, stI_I, stL_L, stR_R, stA_I, stN_C, stN_N, stN_Z, stN_S, stN_I, stN_L, stN_R, stI_ne, stL_ne, stR_ne, hM.all]
  refine SP.mono (s_handNow h0 hRd hH ht htn nl12 hl2 h1 h2 nu hnu hu0) ?_
  rintro ⟨v, G1⟩ ⟨q1, q2⟩
  dsimp only at q1 q2
  cases hok : okF T R A B n w tn one o with
  | false =>
    obtain ⟨rfl, hf⟩ := q1 hok
    have hM1 := hf.ms h0.1
    have hff : Fr WB G G1 := fr0.trans (hf.mono WH_WB)
    simp only [w_iadd, w_isub, w_imul, w_iand, w_ior, w_ixor, w_ishl, w_ishr, w_iushr, w_idiv, w_irem, w_ineg, w_ladd, w_lsub, w_lmul, w_ldiv, w_lrem, w_i2l, w_l2i, w_i2c, w_lcmp, w_dup_int, w_pop_int, w_dup_ref, w_pop_ref, w_dup_retAddr, w_pop_retAddr, w_dup2, w_I, w_L, w_Null, w_Ild, w_Lld, w_Ald, w_Ist, w_Lst, w_Ast, w_Iinc, w_if_eq, w_icmp_eq, w_if_ne, w_icmp_ne, w_if_lt, w_icmp_lt, w_if_ge, w_icmp_ge, w_if_gt, w_icmp_gt, w_if_le, w_icmp_le, w_GetI, w_GetL, w_GetR, w_PutI, w_PutZ, w_PutL, w_PutR, w_PutN, w_Iald, w_Zald, w_Lald, w_Aald, w_Iast, w_Zast, w_Last, w_AastR, w_AastN, w_Alen, w_New, w_NewA, w_Mna, w_Iret, w_Zret, w_Cret, w_Bret, w_Lret, w_AretR, w_AretN, w_Vret, w_Obj, w_IfNN, w_IfNR, w_Copy, w_Cln, w_Cast, w_SfA, w_SfI, w_SfQ, w_Str, w_ScLd, w_ScLen, w_CV0, w_CS0, w_CV1, w_CS1, w_CV2, w_CS2, w_CV3, w_CS3, w_CV4, w_CS4, w_CV5, w_CS5, List.getElem?_cons_zero, List.getElem?_cons_succ, List.set_cons_zero, List.set_cons_succ, List.length_cons, List.length_nil, List.map_cons, List.map_nil, List.sum_cons, List.sum_nil, List.nil_append, List.cons_append, Option.toList_some, Option.toList_none, Value.category, xok, va_rf, true_and, and_true, and_self, Nat.reduceAdd, Nat.reduceLT, Nat.reduceLeDiff, Nat.reduceEqDiff, Nat.reduceMul, beq_self_eq_true, decide_true, ite_true, ite_false, if_true, if_false, reduceIte, Bool.true_eq_false, Bool.false_eq_true, eq_self_iff_true, Nat.zero_le, not_true_eq_false, not_false_eq_true, forall_const, false_implies, implies_true, forall_false, hM1.all, fun Q => s_tell hM1 Q (-3) (by decide)]
    refine ⟨⟨rfl, ?_, tH_fr hff, tH_s, ?_⟩, ?_, ?_, ?_⟩
    · rw [tH_f (by decide) (by decide), hf.IA _ (fun _ => rfl)]
      exact h0.2.2.1
    · rw [tH_r, hf.IA _ (fun _ => rfl)]
      rfl
    · rw [tH_m (by decide), hf.I rfl]
      simp only [stI_C, stI_N, stI_Z, stI_S, stI_L, stI_R, stL_C, stL_N, stL_Z, stL_S, stL_I, stL_R, stR_C, stR_N, stR_Z, stR_S, stR_I, stR_L, stA_C, stA_N, stA_Z, stA_S, stA_L, stA_R, stI_I, stL_L, stR_R, stA_I, stN_C, stN_N, stN_Z, stN_S, stN_I, stN_L, stN_R, stI_ne, stL_ne, stR_ne, List.getElem?_cons_zero, List.getElem?_cons_succ, List.set_cons_zero, List.set_cons_succ, List.length_cons, List.length_nil, List.map_cons, List.map_nil, List.sum_cons, List.sum_nil, List.nil_append, List.cons_append, Option.toList_some, Option.toList_none, Value.category, xok, va_rf, true_and, and_true, and_self, Nat.reduceAdd, Nat.reduceLT, Nat.reduceLeDiff, Nat.reduceEqDiff, Nat.reduceMul, beq_self_eq_true, decide_true, ite_true, ite_false, if_true, if_false, reduceIte, Bool.true_eq_false, Bool.false_eq_true, eq_self_iff_true, Nat.zero_le, not_true_eq_false, not_false_eq_true, forall_const, false_implies, implies_true, forall_false]
    · rw [tH_f (by decide) (by decide), hf.IA _ (fun _ => rfl)]
      rfl
    · rw [tH_f (by decide) (by decide), hf.IA _ (fun _ => rfl)]
      rfl
  | true =>
    obtain ⟨rfl, hr, hf, hUK⟩ := q2 hok
    have hM1 := hf.ms h0.1
    have hff : Fr WB G G1 := fr0.trans (hf.mono WHM_WB)
    have hp := hR.wep (T := T) (lg := lafF T hl (hdF R w one o)) hw hH.2.2.2.2.2
    have hp7 : -7 < rdP T R w one o (lafF T hl (hdF R w one o)) := by
      obtain ⟨m, m1, m2⟩ := hp
      rw [m2]
      exact Int32.lt_of_lt_of_le (by decide) (nI_pos' (n := m) (by omega))
    simp only [w_iadd, w_isub, w_imul, w_iand, w_ior, w_ixor, w_ishl, w_ishr, w_iushr, w_idiv, w_irem, w_ineg, w_ladd, w_lsub, w_lmul, w_ldiv, w_lrem, w_i2l, w_l2i, w_i2c, w_lcmp, w_dup_int, w_pop_int, w_dup_ref, w_pop_ref, w_dup_retAddr, w_pop_retAddr, w_dup2, w_I, w_L, w_Null, w_Ild, w_Lld, w_Ald, w_Ist, w_Lst, w_Ast, w_Iinc, w_if_eq, w_icmp_eq, w_if_ne, w_icmp_ne, w_if_lt, w_icmp_lt, w_if_ge, w_icmp_ge, w_if_gt, w_icmp_gt, w_if_le, w_icmp_le, w_GetI, w_GetL, w_GetR, w_PutI, w_PutZ, w_PutL, w_PutR, w_PutN, w_Iald, w_Zald, w_Lald, w_Aald, w_Iast, w_Zast, w_Last, w_AastR, w_AastN, w_Alen, w_New, w_NewA, w_Mna, w_Iret, w_Zret, w_Cret, w_Bret, w_Lret, w_AretR, w_AretN, w_Vret, w_Obj, w_IfNN, w_IfNR, w_Copy, w_Cln, w_Cast, w_SfA, w_SfI, w_SfQ, w_Str, w_ScLd, w_ScLen, w_CV0, w_CS0, w_CV1, w_CS1, w_CV2, w_CS2, w_CV3, w_CS3, w_CV4, w_CS4, w_CV5, w_CS5, List.getElem?_cons_zero, List.getElem?_cons_succ, List.set_cons_zero, List.set_cons_succ, List.length_cons, List.length_nil, List.map_cons, List.map_nil, List.sum_cons, List.sum_nil, List.nil_append, List.cons_append, Option.toList_some, Option.toList_none, Value.category, xok, va_rf, true_and, and_true, and_self, Nat.reduceAdd, Nat.reduceLT, Nat.reduceLeDiff, Nat.reduceEqDiff, Nat.reduceMul, beq_self_eq_true, decide_true, ite_true, ite_false, if_true, if_false, reduceIte, Bool.true_eq_false, Bool.false_eq_true, eq_self_iff_true, Nat.zero_le, not_true_eq_false, not_false_eq_true, forall_const, false_implies, implies_true, forall_false, hM1.all, fun Q => s_tell hM1 Q _ hp7]
    refine ⟨⟨rfl, ?_, tH_fr hff, tH_s, ?_⟩, ?_⟩
    · rw [tH_f (by decide) (by decide)]
      exact hr
    · rw [tH_r, hf.IA _ (fun _ => rfl)]
      rfl
    · rw [tH_m (by decide), tH_f (by decide) (by decide), tH_f (by decide) (by decide)]
      exact hUK
