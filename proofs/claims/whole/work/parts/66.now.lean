theorem B2_i : B2.toInt = 2000000000 := by decide +kernel
theorem le_B2 {v : Int64} (h : v ≤ BIG) : ¬ v = B2 := by
  intro q
  subst q
  have := Int64.le_iff_toInt_le.mp h
  rw [BIG_i, B2_i] at this
  omega
def Bw (x : Nat → Int32) : Prop := ∀ w, w < 10 → -BIG ≤ (x w).toInt64 ∧ (x w).toInt64 ≤ BIG
theorem nI_B {n : Nat} (h : n ≤ 1000000000) : -BIG ≤ (nI n).toInt64 ∧ (nI n).toInt64 ≤ BIG := by
  rw [Int64.le_iff_toInt_le, Int64.le_iff_toInt_le, nBIG_i, BIG_i, Int32.toInt_toInt64, nI_toInt (by omega)]
  omega
theorem In.B {v : Int32} {b : Nat} (h : In v b) (hb : b ≤ 1000000000) : -BIG ≤ v.toInt64 ∧ v.toInt64 ≤ BIG := by
  obtain ⟨n, h1, rfl⟩ := h
  exact nI_B (by omega)
theorem In.add {v w : Int32} {a b : Nat} (h : In v a) (g : In w b) : In (v + w) (a + b) := by
  obtain ⟨n, h1, rfl⟩ := h
  obtain ⟨m, g1, rfl⟩ := g
  exact ⟨n + m, by omega, nI_add n m⟩
theorem In.le {v : Int32} {a b : Nat} (h : In v a) (hb : a ≤ b) : In v b := by
  obtain ⟨n, h1, rfl⟩ := h
  exact ⟨n, by omega, rfl⟩
theorem m1_B : -BIG ≤ (-1 : Int32).toInt64 ∧ (-1 : Int32).toInt64 ≤ BIG := by
  rw [Int64.le_iff_toInt_le, Int64.le_iff_toInt_le, nBIG_i, BIG_i, Int32.toInt_toInt64, show (-1 : Int32).toInt = -1 by decide]
  omega
theorem wdF_B {R : Nat → Int32} {nr nl c r : Nat} (h : RW R nr nl c) (hc : c ≤ 500000) (hr : r < nr) {g j w i : Int32} (hg : -BIG ≤ g.toInt64 ∧ g.toInt64 ≤ BIG) (hj : -BIG ≤ j.toInt64 ∧ j.toInt64 ≤ BIG) (hw : -BIG ≤ w.toInt64 ∧ w.toInt64 ≤ BIG) (hi : -BIG ≤ i.toInt64 ∧ i.toInt64 ≤ BIG) : Bw (wdF R r g j w i) := by
  obtain ⟨h1, h2, h3, h4, h5, h6, h7, h8, h9, h10⟩ := h
  obtain ⟨r1, r2, r3, r4, r5, r6⟩ := h9 r hr
  intro k hk
  rcases (by omega : k = 0 ∨ k = 1 ∨ k = 2 ∨ k = 3 ∨ k = 4 ∨ k = 5 ∨ k = 6 ∨ k = 7 ∨ k = 8 ∨ k = 9) with rfl | rfl | rfl | rfl | rfl | rfl | rfl | rfl | rfl | rfl
  · exact nI_B (n := r) (by omega)
  · exact r1.B (by omega)
  · exact r3.B (by omega)
  · exact r4.B (by omega)
  · exact hg
  · exact hj
  · exact hw
  · exact hi
  · exact h5.B (by omega)
  · exact h7.B (by omega)
/-- letters that can be handed: whose, which -/
def HC (R : Nat → Int32) (w one : Nat) (o : Option Nat) : Prop := w < 8 ∧ one < 12 ∧ (∀ k, o = some k → k < 12 ∧ ¬ R (57 + 7 * one + 2) + R (57 + 7 * k + 2) = 0) ∧ R (60 + 7 * one) = nI w ∧ Bw (hdF R w one o) ∧ In (ltS R one o 0) 60
theorem RW.hc {R : Nat → Int32} {nr nl c : Nat} (h : RW R nr nl c) (hc : c ≤ 500000) {one : Nat} (h1 : one < nl) {o : Option Nat} (h2 : ∀ k, o = some k → k < nl) : ∃ w, w < nr ∧ R (60 + 7 * one) = nI w ∧ HC R w one o := by
  have h0 := h
  obtain ⟨a1, a2, a3, a4, a5, a6, a7, a8, a9, a10⟩ := h
  obtain ⟨l1, l2, l3, ⟨w, l4, l5⟩, l6, l7, l8⟩ := a10 one h1
  cases o with
  | none =>
    have e1 : ltS R one none 1 = R (58 + 7 * one) := by show R (57 + 7 * one + 1) = _; rw [show 57 + 7 * one + 1 = 58 + 7 * one by omega]
    have e2 : ltS R one none 2 = R (59 + 7 * one) := by show R (57 + 7 * one + 2) = _; rw [show 57 + 7 * one + 2 = 59 + 7 * one by omega]
    have hB : Bw (hdF R w one none) := by
      unfold hdF
      rw [e1, e2]
      exact wdF_B h0 hc l4 (l1.B (by omega)) (l2.B (by omega)) (l3.1.B (by omega)) (nI_B (n := 1) (by omega))
    have hn : ∀ k, (none : Option Nat) = some k → k < 12 ∧ ¬ R (57 + 7 * one + 2) + R (57 + 7 * k + 2) = 0 := fun k hk => by cases hk
    exact ⟨w, l4, l5, by omega, by omega, hn, l5, hB, l1.le (by omega)⟩
  | some k =>
    have hk := h2 k rfl
    obtain ⟨m1, m2, m3, ⟨w', m4, m5⟩, m6, m7, m8⟩ := a10 k hk
    have e1 : 57 + 7 * one + 2 = 59 + 7 * one := by omega
    have e2 : 57 + 7 * k + 2 = 59 + 7 * k := by omega
    have e3 : 57 + 7 * one + 1 = 58 + 7 * one := by omega
    have e4 : 57 + 7 * k + 1 = 58 + 7 * k := by omega
    refine ⟨w, l4, l5, by omega, by omega, fun k' hk' => ?_, l5, ?_, (l1.add m1)⟩
    · cases hk'
      refine ⟨by omega, ?_⟩
      rw [e1, e2]
      obtain ⟨⟨n, n1, n2⟩, n3⟩ := l3
      obtain ⟨⟨n', n1', n2'⟩, n3'⟩ := m3
      rw [n2, n2', nI_add]
      intro q
      have := (nI_eq (b := 0) (by omega) (by decide)).mp q
      refine n3 ?_
      rw [n2, show n = 0 by omega]
      rfl
    · have f1 : ltS R one (some k) 1 = R (58 + 7 * one) + R (58 + 7 * k) := by show R (57 + 7 * one + 1) + R (57 + 7 * k + 1) = _; rw [e3, e4]
      have f2 : ltS R one (some k) 2 = R (59 + 7 * one) + R (59 + 7 * k) := by show R (57 + 7 * one + 2) + R (57 + 7 * k + 2) = _; rw [e1, e2]
      unfold hdF
      rw [f1, f2]
      exact wdF_B h0 hc l4 ((l1.add m1).B (by omega)) ((l2.add m2).B (by omega)) ((l3.1.add m3.1).B (by omega)) (nI_B (n := 2) (by omega))
/-- the model with rows R and the law that tells T -/
def MX (G : XH) (R : Nat → Int32) (T : Nat → (Nat → Int64) → Option Int64) (hl : Bool) : Prop := MS G ∧ hpI G 70 20 = 0 ∧ hpI G 72 = R ∧ ML R T hl ∧ TP T
theorem MX.fr {W : Nat → Nat → Bool} {G G' : XH} {R : Nat → Int32} {T : Nat → (Nat → Int64) → Option Int64} {hl : Bool} (h : MX G R T hl) (hf : Fr W G G') (h1 : W 70 20 = false) (h2 : ∀ k, W 72 k = false) : MX G' R T hl := ⟨hf.ms h.1, (hf.I h1).trans h.2.1, (hf.IA _ h2).trans h.2.2.1, h.2.2.2⟩
theorem MX.ak {G : XH} {R : Nat → Int32} {T : Nat → (Nat → Int64) → Option Int64} {hl : Bool} (h : MX G R T hl) {x : Nat → Int32} (hs : HS G x) : AK G T hl x := ⟨h.1, h.2.1, by rw [h.2.2.1]; exact h.2.2.2.1, h.2.2.2.2, hs⟩
theorem s_lay {G : XH} {R : Nat → Int32} {T : Nat → (Nat → Int64) → Option Int64} {hl : Bool} (h : MX G R T hl) {w one : Nat} {o : Option Nat} (hH : HC R w one o) : SP D_Mdl_layHanded [.ref 70, .int (nI one), .int (oI o)] G (fun r => r.1 = none ∧ Fr WH G r.2 ∧ LH r.2 R w one o ∧ MX r.2 R T hl) := by
  refine SP.mono (s_layHanded h.1 one hH.2.1 o (fun k hk => (hH.2.2.1 k hk).1) w hH.1 (by rw [h.2.2.1]; exact hH.2.2.2.1)) ?_
  rintro ⟨v, G1⟩ ⟨h1, h2, h3⟩
  rw [h.2.2.1] at h3
  exact ⟨h1, h2, h3, h.fr h2 rfl (fun _ => rfl)⟩
theorem s_wp {G : XH} {R : Nat → Int32} {T : Nat → (Nat → Int64) → Option Int64} {hl : Bool} (h : MX G R T hl) {w one : Nat} {o : Option Nat} (hH : HC R w one o) (hL : LH G R w one o) : SP D_Mdl_weeps [.ref 70] G (fun r => r.1 = some (.int (wepF T (hdF R w one o))) ∧ Fr WL G r.2) := by
  refine s_weeps (h.ak hL.1) w hH.1 hL.2.1 hL.2.2.1 ?_ ?_ (fun v hv => le_B2 (h.2.2.2.2.2.2 0 _ v hH.2.2.2.2.1 hv).2)
  · rw [h.2.2.1]; rfl
  · rw [h.2.2.1]; rfl
theorem s_readThem {G : XH} {R : Nat → Int32} {T : Nat → (Nat → Int64) → Option Int64} {hl : Bool} (h : MX G R T hl) {w one : Nat} {o : Option Nat} (hH : HC R w one o) (lg : Bool) : SP D_Mdl_readThem [.ref 70, .int (nI one), .int (oI o), .int (if lg then 1 else 0)] G (fun r => r.1 = some (.int (rdP T R w one o lg)) ∧ hpI r.2 72 = rdR T R w one o lg ∧ Fr WR G r.2) := by
  rw [e_Mdl_readThem]
  have hM := h.1
  simp only [k_Mdl_readThem_0, w_iadd, w_isub, w_imul, w_iand, w_ior, w_ixor, w_ishl, w_ishr, w_iushr, w_idiv, w_irem, w_ineg, w_ladd, w_lsub, w_lmul, w_ldiv, w_lrem, w_i2l, w_l2i, w_i2c, w_lcmp, w_dup_int, w_pop_int, w_dup_ref, w_pop_ref, w_dup_retAddr, w_pop_retAddr, w_dup2, w_I, w_L, w_Null, w_Ild, w_Lld, w_Ald, w_Ist, w_Lst, w_Ast, w_Iinc, w_if_eq, w_icmp_eq, w_if_ne, w_icmp_ne, w_if_lt, w_icmp_lt, w_if_ge, w_icmp_ge, w_if_gt, w_icmp_gt, w_if_le, w_icmp_le, w_GetI, w_GetL, w_GetR, w_PutI, w_PutZ, w_PutL, w_PutR, w_PutN, w_Iald, w_Zald, w_Lald, w_Aald, w_Iast, w_Zast, w_Last, w_AastR, w_AastN, w_Alen, w_New, w_NewA, w_Mna, w_Iret, w_Zret, w_Cret, w_Bret, w_Lret, w_AretR, w_AretN, w_Vret, w_Obj, w_IfNN, w_IfNR, w_Copy, w_Cln, w_Cast, w_SfA, w_SfI, w_SfQ, w_Str, w_ScLd, w_ScLen, w_CV0, w_CS0, w_CV1, w_CS1, w_CV2, w_CS2, w_CV3, w_CS3, w_CV4, w_CS4, w_CV5, w_CS5, List.getElem?_cons_zero, List.getElem?_cons_succ, List.set_cons_zero, List.set_cons_succ, List.length_cons, List.length_nil, List.map_cons, List.map_nil, List.sum_cons, List.sum_nil, List.nil_append, List.cons_append, Option.toList_some, Option.toList_none, Value.category, xok, va_rf, true_and, and_true, and_self, Nat.reduceAdd, Nat.reduceLT, Nat.reduceLeDiff, Nat.reduceEqDiff, Nat.reduceMul, beq_self_eq_true, decide_true, ite_true, ite_false, if_true, if_false, reduceIte, Bool.true_eq_false, Bool.false_eq_true, eq_self_iff_true, Nat.zero_le, not_true_eq_false, not_false_eq_true, forall_const, false_implies, implies_true, forall_false, hM.all]
  refine SP.mono (s_lay h hH) ?_
  rintro ⟨v, G1⟩ ⟨rfl, hf, hL, hX⟩
  dsimp only at hf hL hX
  have hM1 := hX.1
  simp only [w_iadd, w_isub, w_imul, w_iand, w_ior, w_ixor, w_ishl, w_ishr, w_iushr, w_idiv, w_irem, w_ineg, w_ladd, w_lsub, w_lmul, w_ldiv, w_lrem, w_i2l, w_l2i, w_i2c, w_lcmp, w_dup_int, w_pop_int, w_dup_ref, w_pop_ref, w_dup_retAddr, w_pop_retAddr, w_dup2, w_I, w_L, w_Null, w_Ild, w_Lld, w_Ald, w_Ist, w_Lst, w_Ast, w_Iinc, w_if_eq, w_icmp_eq, w_if_ne, w_icmp_ne, w_if_lt, w_icmp_lt, w_if_ge, w_icmp_ge, w_if_gt, w_icmp_gt, w_if_le, w_icmp_le, w_GetI, w_GetL, w_GetR, w_PutI, w_PutZ, w_PutL, w_PutR, w_PutN, w_Iald, w_Zald, w_Lald, w_Aald, w_Iast, w_Zast, w_Last, w_AastR, w_AastN, w_Alen, w_New, w_NewA, w_Mna, w_Iret, w_Zret, w_Cret, w_Bret, w_Lret, w_AretR, w_AretN, w_Vret, w_Obj, w_IfNN, w_IfNR, w_Copy, w_Cln, w_Cast, w_SfA, w_SfI, w_SfQ, w_Str, w_ScLd, w_ScLen, w_CV0, w_CS0, w_CV1, w_CS1, w_CV2, w_CS2, w_CV3, w_CS3, w_CV4, w_CS4, w_CV5, w_CS5, List.getElem?_cons_zero, List.getElem?_cons_succ, List.set_cons_zero, List.set_cons_succ, List.length_cons, List.length_nil, List.map_cons, List.map_nil, List.sum_cons, List.sum_nil, List.nil_append, List.cons_append, Option.toList_some, Option.toList_none, Value.category, xok, va_rf, true_and, and_true, and_self, Nat.reduceAdd, Nat.reduceLT, Nat.reduceLeDiff, Nat.reduceEqDiff, Nat.reduceMul, beq_self_eq_true, decide_true, ite_true, ite_false, if_true, if_false, reduceIte, Bool.true_eq_false, Bool.false_eq_true, eq_self_iff_true, Nat.zero_le, not_true_eq_false, not_false_eq_true, forall_const, false_implies, implies_true, forall_false, hM1.all]
  cases lg with
  | true =>
    simp only [List.getElem?_cons_zero, List.getElem?_cons_succ, List.set_cons_zero, List.set_cons_succ, List.length_cons, List.length_nil, List.map_cons, List.map_nil, List.sum_cons, List.sum_nil, List.nil_append, List.cons_append, Option.toList_some, Option.toList_none, Value.category, xok, va_rf, true_and, and_true, and_self, Nat.reduceAdd, Nat.reduceLT, Nat.reduceLeDiff, Nat.reduceEqDiff, Nat.reduceMul, beq_self_eq_true, decide_true, ite_true, ite_false, if_true, if_false, reduceIte, Bool.true_eq_false, Bool.false_eq_true, eq_self_iff_true, Nat.zero_le, not_true_eq_false, not_false_eq_true, forall_const, false_implies, implies_true, forall_false, ne10, ne10L, ne01, ne01L, tt_imp, nt_imp, ff_imp, nf_imp, true_and, and_true, true_or, or_true, reduceIte]
    refine (rt_18 (o5 := none) (o6 := none) (o7 := none) (hX.ak hL.1) hX.2.2.1 hL hH.1 hH.2.1 hH.2.2.1 true).mono ?_
    rintro r ⟨r1, r2, r3⟩
    exact ⟨r1, r2, (hf.mono WH_WR).trans r3⟩
  | false =>
    simp only [List.getElem?_cons_zero, List.getElem?_cons_succ, List.set_cons_zero, List.set_cons_succ, List.length_cons, List.length_nil, List.map_cons, List.map_nil, List.sum_cons, List.sum_nil, List.nil_append, List.cons_append, Option.toList_some, Option.toList_none, Value.category, xok, va_rf, true_and, and_true, and_self, Nat.reduceAdd, Nat.reduceLT, Nat.reduceLeDiff, Nat.reduceEqDiff, Nat.reduceMul, beq_self_eq_true, decide_true, ite_true, ite_false, if_true, if_false, reduceIte, Bool.true_eq_false, Bool.false_eq_true, eq_self_iff_true, Nat.zero_le, not_true_eq_false, not_false_eq_true, forall_const, false_implies, implies_true, forall_false, ne10, ne10L, ne01, ne01L, tt_imp, nt_imp, ff_imp, nf_imp, true_and, and_true, true_or, or_true, reduceIte]
    refine SP.mono (s_wp hX hH hL) ?_
    rintro ⟨v, G2⟩ ⟨rfl, hf2⟩
    dsimp only at hf2
    have hX2 := hX.fr hf2 rfl (fun _ => rfl)
    simp only [List.getElem?_cons_zero, List.getElem?_cons_succ, List.set_cons_zero, List.set_cons_succ, List.length_cons, List.length_nil, List.map_cons, List.map_nil, List.sum_cons, List.sum_nil, List.nil_append, List.cons_append, Option.toList_some, Option.toList_none, Value.category, xok, va_rf, true_and, and_true, and_self, Nat.reduceAdd, Nat.reduceLT, Nat.reduceLeDiff, Nat.reduceEqDiff, Nat.reduceMul, beq_self_eq_true, decide_true, ite_true, ite_false, if_true, if_false, reduceIte, Bool.true_eq_false, Bool.false_eq_true, eq_self_iff_true, Nat.zero_le, not_true_eq_false, not_false_eq_true, forall_const, false_implies, implies_true, forall_false]
    refine (rt_18 (o5 := none) (o6 := none) (o7 := none) (hX2.ak (hL.fr hf2).1) hX2.2.2.1 (hL.fr hf2) hH.1 hH.2.1 hH.2.2.1 false).mono ?_
    rintro r ⟨r1, r2, r3⟩
    exact ⟨r1, r2, ((hf.mono WH_WR).trans (hf2.mono WL_WR)).trans r3⟩
theorem s_readNow {G : XH} {R : Nat → Int32} {T : Nat → (Nat → Int64) → Option Int64} {hl : Bool} (h : MX G R T hl) {w one : Nat} {o : Option Nat} (hH : HC R w one o) : SP D_Mdl_readNow [.ref 70, .int (nI one), .int (oI o)] G (fun r => r.1 = some (.int (rdP T R w one o (lafF T hl (hdF R w one o)))) ∧ hpI r.2 72 = rdR T R w one o (lafF T hl (hdF R w one o)) ∧ Fr WR G r.2) := by
  rw [e_Mdl_readNow]
  have hM := h.1
  simp only [k_Mdl_readNow_0, w_iadd, w_isub, w_imul, w_iand, w_ior, w_ixor, w_ishl, w_ishr, w_iushr, w_idiv, w_irem, w_ineg, w_ladd, w_lsub, w_lmul, w_ldiv, w_lrem, w_i2l, w_l2i, w_i2c, w_lcmp, w_dup_int, w_pop_int, w_dup_ref, w_pop_ref, w_dup_retAddr, w_pop_retAddr, w_dup2, w_I, w_L, w_Null, w_Ild, w_Lld, w_Ald, w_Ist, w_Lst, w_Ast, w_Iinc, w_if_eq, w_icmp_eq, w_if_ne, w_icmp_ne, w_if_lt, w_icmp_lt, w_if_ge, w_icmp_ge, w_if_gt, w_icmp_gt, w_if_le, w_icmp_le, w_GetI, w_GetL, w_GetR, w_PutI, w_PutZ, w_PutL, w_PutR, w_PutN, w_Iald, w_Zald, w_Lald, w_Aald, w_Iast, w_Zast, w_Last, w_AastR, w_AastN, w_Alen, w_New, w_NewA, w_Mna, w_Iret, w_Zret, w_Cret, w_Bret, w_Lret, w_AretR, w_AretN, w_Vret, w_Obj, w_IfNN, w_IfNR, w_Copy, w_Cln, w_Cast, w_SfA, w_SfI, w_SfQ, w_Str, w_ScLd, w_ScLen, w_CV0, w_CS0, w_CV1, w_CS1, w_CV2, w_CS2, w_CV3, w_CS3, w_CV4, w_CS4, w_CV5, w_CS5, List.getElem?_cons_zero, List.getElem?_cons_succ, List.set_cons_zero, List.set_cons_succ, List.length_cons, List.length_nil, List.map_cons, List.map_nil, List.sum_cons, List.sum_nil, List.nil_append, List.cons_append, Option.toList_some, Option.toList_none, Value.category, xok, va_rf, true_and, and_true, and_self, Nat.reduceAdd, Nat.reduceLT, Nat.reduceLeDiff, Nat.reduceEqDiff, Nat.reduceMul, beq_self_eq_true, decide_true, ite_true, ite_false, if_true, if_false, reduceIte, Bool.true_eq_false, Bool.false_eq_true, eq_self_iff_true, Nat.zero_le, not_true_eq_false, not_false_eq_true, forall_const, false_implies, implies_true, forall_false, hM.all]
  refine SP.mono (s_lay h hH) ?_
  rintro ⟨v, G1⟩ ⟨rfl, hf, hL, hX⟩
  dsimp only at hf hL hX
  have hM1 := hX.1
  simp only [w_iadd, w_isub, w_imul, w_iand, w_ior, w_ixor, w_ishl, w_ishr, w_iushr, w_idiv, w_irem, w_ineg, w_ladd, w_lsub, w_lmul, w_ldiv, w_lrem, w_i2l, w_l2i, w_i2c, w_lcmp, w_dup_int, w_pop_int, w_dup_ref, w_pop_ref, w_dup_retAddr, w_pop_retAddr, w_dup2, w_I, w_L, w_Null, w_Ild, w_Lld, w_Ald, w_Ist, w_Lst, w_Ast, w_Iinc, w_if_eq, w_icmp_eq, w_if_ne, w_icmp_ne, w_if_lt, w_icmp_lt, w_if_ge, w_icmp_ge, w_if_gt, w_icmp_gt, w_if_le, w_icmp_le, w_GetI, w_GetL, w_GetR, w_PutI, w_PutZ, w_PutL, w_PutR, w_PutN, w_Iald, w_Zald, w_Lald, w_Aald, w_Iast, w_Zast, w_Last, w_AastR, w_AastN, w_Alen, w_New, w_NewA, w_Mna, w_Iret, w_Zret, w_Cret, w_Bret, w_Lret, w_AretR, w_AretN, w_Vret, w_Obj, w_IfNN, w_IfNR, w_Copy, w_Cln, w_Cast, w_SfA, w_SfI, w_SfQ, w_Str, w_ScLd, w_ScLen, w_CV0, w_CS0, w_CV1, w_CS1, w_CV2, w_CS2, w_CV3, w_CS3, w_CV4, w_CS4, w_CV5, w_CS5, List.getElem?_cons_zero, List.getElem?_cons_succ, List.set_cons_zero, List.set_cons_succ, List.length_cons, List.length_nil, List.map_cons, List.map_nil, List.sum_cons, List.sum_nil, List.nil_append, List.cons_append, Option.toList_some, Option.toList_none, Value.category, xok, va_rf, true_and, and_true, and_self, Nat.reduceAdd, Nat.reduceLT, Nat.reduceLeDiff, Nat.reduceEqDiff, Nat.reduceMul, beq_self_eq_true, decide_true, ite_true, ite_false, if_true, if_false, reduceIte, Bool.true_eq_false, Bool.false_eq_true, eq_self_iff_true, Nat.zero_le, not_true_eq_false, not_false_eq_true, forall_const, false_implies, implies_true, forall_false, hM1.all]
  refine SP.mono (s_laughs (hX.ak hL.1) hL.2.2.1 hL.2.2.2) ?_
  rintro ⟨v, G2⟩ ⟨rfl, hf2⟩
  dsimp only at hf2
  have hX2 := hX.fr hf2 rfl (fun _ => rfl)
  have hM2 := hX2.1
  simp only [w_iadd, w_isub, w_imul, w_iand, w_ior, w_ixor, w_ishl, w_ishr, w_iushr, w_idiv, w_irem, w_ineg, w_ladd, w_lsub, w_lmul, w_ldiv, w_lrem, w_i2l, w_l2i, w_i2c, w_lcmp, w_dup_int, w_pop_int, w_dup_ref, w_pop_ref, w_dup_retAddr, w_pop_retAddr, w_dup2, w_I, w_L, w_Null, w_Ild, w_Lld, w_Ald, w_Ist, w_Lst, w_Ast, w_Iinc, w_if_eq, w_icmp_eq, w_if_ne, w_icmp_ne, w_if_lt, w_icmp_lt, w_if_ge, w_icmp_ge, w_if_gt, w_icmp_gt, w_if_le, w_icmp_le, w_GetI, w_GetL, w_GetR, w_PutI, w_PutZ, w_PutL, w_PutR, w_PutN, w_Iald, w_Zald, w_Lald, w_Aald, w_Iast, w_Zast, w_Last, w_AastR, w_AastN, w_Alen, w_New, w_NewA, w_Mna, w_Iret, w_Zret, w_Cret, w_Bret, w_Lret, w_AretR, w_AretN, w_Vret, w_Obj, w_IfNN, w_IfNR, w_Copy, w_Cln, w_Cast, w_SfA, w_SfI, w_SfQ, w_Str, w_ScLd, w_ScLen, w_CV0, w_CS0, w_CV1, w_CS1, w_CV2, w_CS2, w_CV3, w_CS3, w_CV4, w_CS4, w_CV5, w_CS5, List.getElem?_cons_zero, List.getElem?_cons_succ, List.set_cons_zero, List.set_cons_succ, List.length_cons, List.length_nil, List.map_cons, List.map_nil, List.sum_cons, List.sum_nil, List.nil_append, List.cons_append, Option.toList_some, Option.toList_none, Value.category, xok, va_rf, true_and, and_true, and_self, Nat.reduceAdd, Nat.reduceLT, Nat.reduceLeDiff, Nat.reduceEqDiff, Nat.reduceMul, beq_self_eq_true, decide_true, ite_true, ite_false, if_true, if_false, reduceIte, Bool.true_eq_false, Bool.false_eq_true, eq_self_iff_true, Nat.zero_le, not_true_eq_false, not_false_eq_true, forall_const, false_implies, implies_true, forall_false, hM2.all]
  refine SP.mono (s_readThem hX2 hH _) ?_
  rintro ⟨v, G3⟩ ⟨rfl, hr, hf3⟩
  dsimp only at hr hf3
  simp only [w_iadd, w_isub, w_imul, w_iand, w_ior, w_ixor, w_ishl, w_ishr, w_iushr, w_idiv, w_irem, w_ineg, w_ladd, w_lsub, w_lmul, w_ldiv, w_lrem, w_i2l, w_l2i, w_i2c, w_lcmp, w_dup_int, w_pop_int, w_dup_ref, w_pop_ref, w_dup_retAddr, w_pop_retAddr, w_dup2, w_I, w_L, w_Null, w_Ild, w_Lld, w_Ald, w_Ist, w_Lst, w_Ast, w_Iinc, w_if_eq, w_icmp_eq, w_if_ne, w_icmp_ne, w_if_lt, w_icmp_lt, w_if_ge, w_icmp_ge, w_if_gt, w_icmp_gt, w_if_le, w_icmp_le, w_GetI, w_GetL, w_GetR, w_PutI, w_PutZ, w_PutL, w_PutR, w_PutN, w_Iald, w_Zald, w_Lald, w_Aald, w_Iast, w_Zast, w_Last, w_AastR, w_AastN, w_Alen, w_New, w_NewA, w_Mna, w_Iret, w_Zret, w_Cret, w_Bret, w_Lret, w_AretR, w_AretN, w_Vret, w_Obj, w_IfNN, w_IfNR, w_Copy, w_Cln, w_Cast, w_SfA, w_SfI, w_SfQ, w_Str, w_ScLd, w_ScLen, w_CV0, w_CS0, w_CV1, w_CS1, w_CV2, w_CS2, w_CV3, w_CS3, w_CV4, w_CS4, w_CV5, w_CS5, List.getElem?_cons_zero, List.getElem?_cons_succ, List.set_cons_zero, List.set_cons_succ, List.length_cons, List.length_nil, List.map_cons, List.map_nil, List.sum_cons, List.sum_nil, List.nil_append, List.cons_append, Option.toList_some, Option.toList_none, Value.category, xok, va_rf, true_and, and_true, and_self, Nat.reduceAdd, Nat.reduceLT, Nat.reduceLeDiff, Nat.reduceEqDiff, Nat.reduceMul, beq_self_eq_true, decide_true, ite_true, ite_false, if_true, if_false, reduceIte, Bool.true_eq_false, Bool.false_eq_true, eq_self_iff_true, Nat.zero_le, not_true_eq_false, not_false_eq_true, forall_const, false_implies, implies_true, forall_false]
  exact ⟨hr, ((hf.mono WH_WR).trans (hf2.mono WL_WR)).trans hf3⟩
