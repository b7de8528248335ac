theorem Fx.I {W V : Nat → Nat → Bool} {G G' : XH} (h : Fx W V G G') {a k : Nat} (ha : a < hpZ G) (hw : W a k = false) : hpI G' a k = hpI G a k := h.2.2.1 a k ha hw
theorem Fx.IA {W V : Nat → Nat → Bool} {G G' : XH} (h : Fx W V G G') {a : Nat} (ha : a < hpZ G) (hw : ∀ k, W a k = false) : hpI G' a = hpI G a := funext fun k => h.2.2.1 a k ha (hw k)
theorem Fx.L {W V : Nat → Nat → Bool} {G G' : XH} (h : Fx W V G G') {a k : Nat} (ha : a < hpZ G) (hw : W a k = false) : hpL G' a k = hpL G a k := h.2.2.2.1 a k ha hw
theorem Fx.R {W V : Nat → Nat → Bool} {G G' : XH} (h : Fx W V G G') {a k : Nat} (ha : a < hpZ G) (hw : V a k = false) : hpR G' a k = hpR G a k := h.2.2.2.2 a k ha hw
theorem Fx.C {W V : Nat → Nat → Bool} {G G' : XH} (h : Fx W V G G') {a : Nat} (ha : a < hpZ G) : hpC G' a = hpC G a := (h.2.1 a ha).1
theorem Fx.N {W V : Nat → Nat → Bool} {G G' : XH} (h : Fx W V G G') {a : Nat} (ha : a < hpZ G) : hpN G' a = hpN G a := (h.2.1 a ha).2
theorem Fx.Z {W V : Nat → Nat → Bool} {G G' : XH} (h : Fx W V G G') : hpZ G ≤ hpZ G' := h.1
theorem Fx.wI {W V : Nat → Nat → Bool} {G G' : XH} (h : Fx W V G G') {a k : Nat} {v : Int32} (hw : W a k = true) : Fx W V G (stI G' a k v) := by
  obtain ⟨a1, a2, a3, a4, a5⟩ := h
  refine ⟨a1, a2, fun x y hx hq => ?_, a4, a5⟩
  have : ¬ (x = a ∧ y = k) := by
    rintro ⟨rfl, rfl⟩
    rw [hw] at hq
    cases hq
  show up2 (hpI G') a k v x y = _
  unfold up2
  by_cases h1 : x = a
  · rw [if_pos h1, if_neg (fun g => this ⟨h1, g⟩)]
    exact a3 x y hx hq
  · rw [if_neg h1]
    exact a3 x y hx hq
theorem sR_eq {G : XH} {a k : Nat} {v : Option Nat} : hpR (stR G a k v) a k = v := by
  show up2 (hpR G) a k v a k = v
  unfold up2
  rw [if_pos rfl, if_pos rfl]
theorem sR_ne {G : XH} {a k x y : Nat} {v : Option Nat} (h : ¬ (x = a ∧ y = k)) : hpR (stR G a k v) x y = hpR G x y := by
  show up2 (hpR G) a k v x y = _
  unfold up2
  by_cases h1 : x = a
  · rw [if_pos h1, if_neg (fun g => h ⟨h1, g⟩)]
  · rw [if_neg h1]
def WTt (t : Nat) : Nat → Nat → Bool := fun a _ => a == t
theorem WT_ne {t a : Nat} (h : ¬ a = t) (k : Nat) : WTt t a k = false := by
  unfold WTt
  simpa using h
theorem WT_VOk {t : Nat} (h : 105 ≤ t) : VOk (WTt t) := fun a k ha _ => WT_ne (by omega) k
theorem WT_all {t : Nat} (a k : Nat) (_ : WTt t a k = false) : (fun _ _ => false : Nat → Nat → Bool) a k = false := rfl
/-- a text copied -/
theorem c_textNew {G : XH} (hC : CS G) {t sz n : Nat} (ht : hpC G t = 3) (htz : t < hpZ G) (ht2 : 105 ≤ t) (hs : hpI G 50 2 = nI sz) (hn : hpI G 50 3 = nI n) (hsz : sz ≤ 400) (hn12 : n ≤ 12) : SP D_Text_init_1 [.ref t, .ref 50] G (fun z => z.1 = none ∧ Fx (WTt t) (WTt t) G z.2 ∧ hpZ z.2 = hpZ G + 2 ∧ hpS z.2 = hpS G + sz + 6 * n ∧ TX z.2 t (hpZ G) (hpZ G + 1) sz n ∧ (∀ k, k < sz → hpI z.2 (hpZ G) k = hpI G 51 k) ∧ ∀ k, k < 6 * n → hpI z.2 (hpZ G + 1) k = hpI G 52 k) := by
  have hz : 105 ≤ hpZ G := by omega
  have C51 : hpC G 51 = 20 := by simp only [hC.all]
  have tne : (t = 50) = False := eq_false (by omega)
  have N51 : hpN G 51 = 400 := by simp only [hC.all]
  have N52 : hpN G 52 = 72 := by simp only [hC.all]
  have C52 : hpC G 52 = 20 := by simp only [hC.all]
  have em : nI n * 6 = nI (6 * n) := by rw [show (6 : Int32) = nI 6 from rfl, nI_mul]; congr 1; omega
  rw [e_Text_init_1]
  simp only [k_Text_init_1_0, w_iadd, w_isub, w_imul, w_iand, w_ior, w_ixor, w_ishl, w_ishr, w_iushr, w_idiv, w_irem, w_ineg, w_ladd, w_lsub, w_lmul, w_ldiv, w_lrem, w_i2l, w_l2i, w_i2c, w_lcmp, w_dup_int, w_pop_int, w_dup_ref, w_pop_ref, w_dup_retAddr, w_pop_retAddr, w_dup2, w_I, w_L, w_Null, w_Ild, w_Lld, w_Ald, w_Ist, w_Lst, w_Ast, w_Iinc, w_if_eq, w_icmp_eq, w_if_ne, w_icmp_ne, w_if_lt, w_icmp_lt, w_if_ge, w_icmp_ge, w_if_gt, w_icmp_gt, w_if_le, w_icmp_le, w_GetI, w_GetL, w_GetR, w_PutI, w_PutZ, w_PutL, w_PutR, w_PutN, w_Iald, w_Zald, w_Lald, w_Aald, w_Iast, w_Zast, w_Last, w_AastR, w_AastN, w_Alen, w_New, w_NewA, w_Mna, w_Iret, w_Zret, w_Cret, w_Bret, w_Lret, w_AretR, w_AretN, w_Vret, w_Obj, w_IfNN, w_IfNR, w_Copy, w_Cln, w_Cast, w_SfA, w_SfI, w_SfQ, w_Str, w_ScLd, w_ScLen, w_CV0, w_CS0, w_CV1, w_CS1, w_CV2, w_CS2, w_CV3, w_CS3, w_CV4, w_CS4, w_CV5, w_CS5, List.getElem?_cons_zero, List.getElem?_cons_succ, List.set_cons_zero, List.set_cons_succ, List.length_cons, List.length_nil, List.map_cons, List.map_nil, List.sum_cons, List.sum_nil, List.nil_append, List.cons_append, Option.toList_some, Option.toList_none, Value.category, xok, va_rf, true_and, and_true, and_self, Nat.reduceAdd, Nat.reduceLT, Nat.reduceLeDiff, Nat.reduceEqDiff, Nat.reduceMul, beq_self_eq_true, decide_true, ite_true, ite_false, if_true, if_false, reduceIte, Bool.true_eq_false, Bool.false_eq_true, eq_self_iff_true, Nat.zero_le, not_true_eq_false, not_false_eq_true, forall_const, false_implies, implies_true, forall_false, stI_C, stI_N, stI_Z, stI_S, stI_L, stI_R, stL_C, stL_N, stL_Z, stL_S, stL_I, stL_R, stR_C, stR_N, stR_Z, stR_S, stR_I, stR_L, stA_C, stA_N, stA_Z, stA_S, stA_L, stA_R, stI_I, stL_L, stR_R, stA_I, stN_C, stN_N, stN_Z, stN_S, stN_I, stN_L, stN_R, stI_ne, stL_ne, stR_ne, ht, hC.all, hs, ne10, ne10L, ne01, ne01L, tt_imp, nt_imp, ff_imp, nf_imp, true_and, and_true, true_or, or_true, reduceIte]
  refine SP.mono (c_copyOf (G := G) (a := 51) (n := sz) C51 (by omega) (by omega) (by omega)) ?_
  rintro ⟨v1, G1⟩ ⟨rfl, x1, z1, s1, k1, n1, i1⟩
  dsimp only at x1 z1 s1 k1 n1 i1
  have x1t : Fx (WTt t) (WTt t) G G1 := x1.mono WT_all WT_all
  have t1 : hpC G1 t = 3 := (x1.C htz).trans ht
  obtain ⟨G2, hG2⟩ : ∃ G2, G2 = stR G1 t 0 (some (hpZ G)) := ⟨_, rfl⟩
  have x2 : Fx (WTt t) (WTt t) G G2 := by rw [hG2]; exact x1t.nR (Or.inr (by unfold WTt; simp))
  have hC2 := x2.cs hz (WT_VOk ht2) hC
  have Z2 : hpZ G2 = hpZ G + 1 := by rw [hG2]; exact z1
  have S2 : hpS G2 = hpS G + sz := by rw [hG2]; exact s1
  have t2 : hpC G2 t = 3 := (x2.C htz).trans ht
  have m2 : hpI G2 50 3 = nI n := (x2.I (by omega) (WT_ne (by omega) _)).trans hn
  simp only [Option.toList_some, List.cons_append, List.nil_append, w_iadd, w_isub, w_imul, w_iand, w_ior, w_ixor, w_ishl, w_ishr, w_iushr, w_idiv, w_irem, w_ineg, w_ladd, w_lsub, w_lmul, w_ldiv, w_lrem, w_i2l, w_l2i, w_i2c, w_lcmp, w_dup_int, w_pop_int, w_dup_ref, w_pop_ref, w_dup_retAddr, w_pop_retAddr, w_dup2, w_I, w_L, w_Null, w_Ild, w_Lld, w_Ald, w_Ist, w_Lst, w_Ast, w_Iinc, w_if_eq, w_icmp_eq, w_if_ne, w_icmp_ne, w_if_lt, w_icmp_lt, w_if_ge, w_icmp_ge, w_if_gt, w_icmp_gt, w_if_le, w_icmp_le, w_GetI, w_GetL, w_GetR, w_PutI, w_PutZ, w_PutL, w_PutR, w_PutN, w_Iald, w_Zald, w_Lald, w_Aald, w_Iast, w_Zast, w_Last, w_AastR, w_AastN, w_Alen, w_New, w_NewA, w_Mna, w_Iret, w_Zret, w_Cret, w_Bret, w_Lret, w_AretR, w_AretN, w_Vret, w_Obj, w_IfNN, w_IfNR, w_Copy, w_Cln, w_Cast, w_SfA, w_SfI, w_SfQ, w_Str, w_ScLd, w_ScLen, w_CV0, w_CS0, w_CV1, w_CS1, w_CV2, w_CS2, w_CV3, w_CS3, w_CV4, w_CS4, w_CV5, w_CS5, List.getElem?_cons_zero, List.getElem?_cons_succ, List.set_cons_zero, List.set_cons_succ, List.length_cons, List.length_nil, List.map_cons, List.map_nil, List.sum_cons, List.sum_nil, List.nil_append, List.cons_append, Option.toList_some, Option.toList_none, Value.category, xok, va_rf, true_and, and_true, and_self, Nat.reduceAdd, Nat.reduceLT, Nat.reduceLeDiff, Nat.reduceEqDiff, Nat.reduceMul, beq_self_eq_true, decide_true, ite_true, ite_false, if_true, if_false, reduceIte, Bool.true_eq_false, Bool.false_eq_true, eq_self_iff_true, Nat.zero_le, not_true_eq_false, not_false_eq_true, forall_const, false_implies, implies_true, forall_false, stI_C, stI_N, stI_Z, stI_S, stI_L, stI_R, stL_C, stL_N, stL_Z, stL_S, stL_I, stL_R, stR_C, stR_N, stR_Z, stR_S, stR_I, stR_L, stA_C, stA_N, stA_Z, stA_S, stA_L, stA_R, stI_I, stL_L, stR_R, stA_I, stN_C, stN_N, stN_Z, stN_S, stN_I, stN_L, stN_R, stI_ne, stL_ne, stR_ne, t1, ← hG2, hC2.all, m2, em, ne10, ne10L, ne01, ne01L, tt_imp, nt_imp, ff_imp, nf_imp, true_and, and_true, true_or, or_true, reduceIte]
  refine SP.mono (c_copyOf (G := G2) (a := 52) (n := 6 * n) (by simp only [hC2.all]) (by simp only [hC2.all]; omega) (by simp only [hC2.all]; omega) (by omega)) ?_
  rintro ⟨v3, G3⟩ ⟨rfl, x3, z3, s3, k3, n3, i3⟩
  dsimp only at x3 z3 s3 k3 n3 i3
  rw [Z2] at z3 k3 n3 i3
  rw [S2] at s3
  have x3t : Fx (WTt t) (WTt t) G G3 := x2.trans (x3.mono WT_all WT_all)
  have t3 : hpC G3 t = 3 := (x3t.C htz).trans ht
  obtain ⟨G4, hG4⟩ : ∃ G4, G4 = stR G3 t 1 (some (hpZ G + 1)) := ⟨_, rfl⟩
  have x4 : Fx (WTt t) (WTt t) G G4 := by rw [hG4]; exact x3t.nR (Or.inr (by unfold WTt; simp))
  have hC4 := x4.cs hz (WT_VOk ht2) hC
  have t4 : hpC G4 t = 3 := (x4.C htz).trans ht
  have s4 : hpI G4 50 2 = nI sz := (x4.I (by omega) (WT_ne (by omega) _)).trans hs
  have m4 : hpI G4 50 3 = nI n := (x4.I (by omega) (WT_ne (by omega) _)).trans hn
  have r30 : hpR G3 t 0 = some (hpZ G) := by rw [x3.R (by rw [Z2]; omega) rfl, hG2, sR_eq]
  obtain ⟨Ga, hGa⟩ : ∃ Ga, Ga = stI G4 t 2 (nI sz) := ⟨_, rfl⟩
  have hCa : CS Ga := by rw [hGa]; exact CS_stI.mpr hC4
  have ta : hpC Ga t = 3 := by rw [hGa]; exact t4
  have ma : hpI Ga 50 3 = nI n := by rw [hGa, stI_up, hpI_stA_ne (by omega)]; exact m4
  obtain ⟨G5, hG5'⟩ : ∃ G5, G5 = stI Ga t 3 (nI n) := ⟨_, rfl⟩
  have hG5 : G5 = stI (stI G4 t 2 (nI sz)) t 3 (nI n) := by rw [hG5', hGa]
  simp only [Option.toList_some, List.cons_append, List.nil_append, w_iadd, w_isub, w_imul, w_iand, w_ior, w_ixor, w_ishl, w_ishr, w_iushr, w_idiv, w_irem, w_ineg, w_ladd, w_lsub, w_lmul, w_ldiv, w_lrem, w_i2l, w_l2i, w_i2c, w_lcmp, w_dup_int, w_pop_int, w_dup_ref, w_pop_ref, w_dup_retAddr, w_pop_retAddr, w_dup2, w_I, w_L, w_Null, w_Ild, w_Lld, w_Ald, w_Ist, w_Lst, w_Ast, w_Iinc, w_if_eq, w_icmp_eq, w_if_ne, w_icmp_ne, w_if_lt, w_icmp_lt, w_if_ge, w_icmp_ge, w_if_gt, w_icmp_gt, w_if_le, w_icmp_le, w_GetI, w_GetL, w_GetR, w_PutI, w_PutZ, w_PutL, w_PutR, w_PutN, w_Iald, w_Zald, w_Lald, w_Aald, w_Iast, w_Zast, w_Last, w_AastR, w_AastN, w_Alen, w_New, w_NewA, w_Mna, w_Iret, w_Zret, w_Cret, w_Bret, w_Lret, w_AretR, w_AretN, w_Vret, w_Obj, w_IfNN, w_IfNR, w_Copy, w_Cln, w_Cast, w_SfA, w_SfI, w_SfQ, w_Str, w_ScLd, w_ScLen, w_CV0, w_CS0, w_CV1, w_CS1, w_CV2, w_CS2, w_CV3, w_CS3, w_CV4, w_CS4, w_CV5, w_CS5, List.getElem?_cons_zero, List.getElem?_cons_succ, List.set_cons_zero, List.set_cons_succ, List.length_cons, List.length_nil, List.map_cons, List.map_nil, List.sum_cons, List.sum_nil, List.nil_append, List.cons_append, Option.toList_some, Option.toList_none, Value.category, xok, va_rf, true_and, and_true, and_self, Nat.reduceAdd, Nat.reduceLT, Nat.reduceLeDiff, Nat.reduceEqDiff, Nat.reduceMul, beq_self_eq_true, decide_true, ite_true, ite_false, if_true, if_false, reduceIte, Bool.true_eq_false, Bool.false_eq_true, eq_self_iff_true, Nat.zero_le, not_true_eq_false, not_false_eq_true, forall_const, false_implies, implies_true, forall_false, Z2, t3, ← hG4, hC4.all, t4, s4, ← hGa, ta, hCa.all, ma, ← hG5', ne10, ne10L, ne01, ne01L, tt_imp, nt_imp, ff_imp, nf_imp, true_and, and_true, true_or, or_true, reduceIte]
  have x5 : Fx (WTt t) (WTt t) G G5 := by rw [hG5]; exact (x4.wI (by unfold WTt; simp)).wI (by unfold WTt; simp)
  have I5 : ∀ a, ¬ a = t → hpI G5 a = hpI G4 a := fun a ha => by rw [hG5, stI_up, hpI_stA_ne ha, stI_up, hpI_stA_ne ha]
  have R5 : ∀ a k, hpR G5 a k = hpR G4 a k := fun a k => by rw [hG5]; rfl
  have C5 : ∀ a, hpC G5 a = hpC G3 a := fun a => by rw [hG5, hG4]; rfl
  have N5 : ∀ a, hpN G5 a = hpN G3 a := fun a => by rw [hG5, hG4]; rfl
  have I45 : ∀ a, hpI G4 a = hpI G3 a := fun a => by rw [hG4]; rfl
  have zc : hpZ G < hpZ G2 := by omega
  have c0 : hpC G2 (hpZ G) = 20 := by rw [hG2]; exact k1
  have n0 : hpN G2 (hpZ G) = sz := by rw [hG2]; exact n1
  refine ⟨x5, ?_, ?_, ⟨?_, ?_, ?_, ?_, ?_, ?_, ?_, ?_, ?_, ?_, ?_⟩, fun k hk => ?_, fun k hk => ?_⟩
  · rw [hG5, hG4]; exact z3
  · rw [hG5, hG4]; exact s3
  · rw [C5]; exact t3
  · rw [R5, hG4, sR_ne (by omega)]; exact r30
  · rw [R5, hG4, sR_eq]
  · rw [C5, x3.C zc]; exact c0
  · rw [C5]; exact k3
  · rw [N5, x3.N zc, n0]; omega
  · rw [N5, x3.N zc, n0]; omega
  · rw [N5, n3]; omega
  · rw [N5, n3]; omega
  · rw [hG5, stI_up, hpI_stA, up_ne (by decide), stI_up, hpI_stA, up_eq]
  · rw [hG5, stI_up, hpI_stA, up_eq]
  · rw [I5 _ (by omega), I45, x3.I zc rfl, hG2]
    exact i1 k hk
  · rw [I5 _ (by omega), I45, i3 k hk, x2.I (by omega) (WT_ne (by omega) _)]
