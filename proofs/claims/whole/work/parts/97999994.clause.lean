/-- a clause's head: where to, parts, kind, sum, with, times -/
abbrev GH := Except Nat (Nat × Nat × Nat × SF × Option SF × Nat)
abbrev CLd := Nat × SF × Option SF × Nat × SF
def f1 : SF := fun _ => some 1
def gLawH (b : Nat → Nat) (len p c : Nat) : GH := match wIx b len p hdsW 0 with
  | none => .error p
  | some k => if k ≤ 2 then (match gSum b len false 8 (nxB b len p) c with
      | .error e => .error e
      | .ok s => .ok (s.1, s.2.1, k, s.2.2, none, 1)) else .ok (nxB b len p, c, k, f1, none, 1)
def gTimes (b : Nat → Nat) (len q c kd : Nat) (sm : SF) (wt : Option SF) : GH := if isW b len wTimes q then (match nuO b len (nxB b len q) with
    | none => .error (nxB b len q)
    | some v => if 1 ≤ v ∧ v ≤ 20 then .ok (nxB b len (nxB b len q), c, kd, sm, wt, v) else .error (nxB b len q)) else .ok (q, c, kd, sm, wt, 1)
def gHandB (b : Nat → Nat) (len q c : Nat) (sm : SF) : GH := if isW b len wWith q then (match gSum b len true 8 (nxB b len q) c with
    | .error e => .error e
    | .ok s => gTimes b len s.1 s.2.1 5 sm (some s.2.2)) else gTimes b len q c 5 sm none
def gOrdH (b : Nat → Nat) (len p c : Nat) : GH := if isW b len wHand p then (match gSum b len true 8 (nxB b len p) c with
    | .error e => .error e
    | .ok s => gHandB b len s.1 s.2.1 s.2.2) else if isW b len wPass p then gTimes b len (nxB b len p) c 6 f1 none else .error p
def gHead (b : Nat → Nat) (len : Nat) (od : Bool) (p c : Nat) : GH := if od then gOrdH b len p c else gLawH b len p c
def gClause (b : Nat → Nat) (len : Nat) (od : Bool) (p c : Nat) : Except Nat (Nat × Nat × CLd) := match gHead b len od p c with
  | .error e => .error e
  | .ok h => if isW b len wIf h.1 then (match gTest b len od 8 (nxB b len h.1) h.2.1 with
      | .error e => .error e
      | .ok s => .ok (s.1, s.2.1, h.2.2.1, h.2.2.2.1, h.2.2.2.2.1, h.2.2.2.2.2, s.2.2)) else .ok (h.1, h.2.1, h.2.2.1, h.2.2.2.1, h.2.2.2.2.1, h.2.2.2.2.2, f1)
def gTx (b : Nat → Nat) (len : Nat) (od : Bool) : Nat → Nat → Nat → List CLd → Except Nat (List CLd)
  | 0, p, _, _ => .error p
  | n + 1, p, c, L => match gClause b len od p c with
    | .error e => .error e
    | .ok r => if len ≤ r.1 then .ok (L ++ [r.2.2]) else if isS b len 59 r.1 then gTx b len od n (nxB b len r.1) r.2.1 (L ++ [r.2.2]) else .error r.1
def gText (b : Nat → Nat) (len : Nat) (od : Bool) : Except Nat (List CLd) := gTx b len od 12 (skB b len 0) 0 []
/-- only rows were told -/
def WTl : Nat → Nat → Bool := fun a _ => a == 52
def WCl : Nat → Nat → Bool := fun a k => WGx a k || a == 52
theorem WGx_WCl (a k : Nat) (h : WCl a k = false) : WGx a k = false := by
  unfold WCl at h
  simp only [Bool.or_eq_false_iff] at h
  exact h.1
theorem WTl_WCl (a k : Nat) (h : WCl a k = false) : WTl a k = false := by
  unfold WCl at h
  simp only [Bool.or_eq_false_iff] at h
  exact h.2
theorem WSt_WCl (a k : Nat) (h : WCl a k = false) : WSt a k = false := WSt_WGx a k (WGx_WCl a k h)
theorem GST.tl {G G' : XH} {b : Nat → Nat} {len : Nat} {od : Bool} {p c sz : Nat} (h : GST G b len od p c sz) (hf : Fr WTl G G') : GST G' b len od p c sz := by
  obtain ⟨⟨a1, a2, a3, a4, a5, a6⟩, b1, b2, b3, b4, b5⟩ := h
  exact ⟨⟨hf.cs a1, a2.fr hf (fun _ => rfl), (hf.I rfl).trans a3, (hf.I rfl).trans a4, (hf.I rfl).trans a5, a6⟩, (hf.I rfl).trans b1, (hf.I rfl).trans b2, (hf.I rfl).trans b3, b4, b5⟩
theorem c_tell {G : XH} (hC : CS G) {n w : Nat} (h3 : hpI G 50 3 = nI n) (hn : n < 12) (hw : w < 6) (v : Int32) (Q : XR → Prop) : SP D_Text_tell [.ref 50, .int (nI w), .int v] G Q = Q (none, stI G 52 (6 * n + w) v) := by
  have e1 : nI n * 6 + nI w = nI (6 * n + w) := by rw [cI_6, nI_mul, nI_add]; congr 1; omega
  have p1 : 0 ≤ nI (6 * n + w) := nI_pos' (by omega)
  have c1 : (nI (6 * n + w)).toNatClampNeg = 6 * n + w := nI_clamp (by omega)
  have l1 : 6 * n + w < 72 := by omega
  rw [e_Text_tell]
  simp only [k_Text_tell_0, w_iadd, w_isub, w_imul, w_iand, w_ior, w_ixor, w_ishl, w_ishr, w_iushr, w_idiv, w_irem, w_ineg, w_ladd, w_lsub, w_lmul, w_ldiv, w_lrem, w_i2l, w_l2i, w_i2c, w_lcmp, w_dup_int, w_pop_int, w_dup_ref, w_pop_ref, w_dup_retAddr, w_pop_retAddr, w_dup2, w_I, w_L, w_Null, w_Ild, w_Lld, w_Ald, w_Ist, w_Lst, w_Ast, w_Iinc, w_if_eq, w_icmp_eq, w_if_ne, w_icmp_ne, w_if_lt, w_icmp_lt, w_if_ge, w_icmp_ge, w_if_gt, w_icmp_gt, w_if_le, w_icmp_le, w_GetI, w_GetL, w_GetR, w_PutI, w_PutZ, w_PutL, w_PutR, w_PutN, w_Iald, w_Zald, w_Lald, w_Aald, w_Iast, w_Zast, w_Last, w_AastR, w_AastN, w_Alen, w_New, w_NewA, w_Mna, w_Iret, w_Zret, w_Cret, w_Bret, w_Lret, w_AretR, w_AretN, w_Vret, w_Obj, w_IfNN, w_IfNR, w_Copy, w_Cln, w_Cast, w_SfA, w_SfI, w_SfQ, w_Str, w_ScLd, w_ScLen, w_CV0, w_CS0, w_CV1, w_CS1, w_CV2, w_CS2, w_CV3, w_CS3, w_CV4, w_CS4, w_CV5, w_CS5, List.getElem?_cons_zero, List.getElem?_cons_succ, List.set_cons_zero, List.set_cons_succ, List.length_cons, List.length_nil, List.map_cons, List.map_nil, List.sum_cons, List.sum_nil, List.nil_append, List.cons_append, Option.toList_some, Option.toList_none, Value.category, xok, va_rf, true_and, and_true, and_self, Nat.reduceAdd, Nat.reduceLT, Nat.reduceLeDiff, Nat.reduceEqDiff, Nat.reduceMul, beq_self_eq_true, decide_true, ite_true, ite_false, if_true, if_false, reduceIte, Bool.true_eq_false, Bool.false_eq_true, eq_self_iff_true, Nat.zero_le, not_true_eq_false, not_false_eq_true, forall_const, false_implies, implies_true, forall_false, stI_C, stI_N, stI_Z, stI_S, stI_L, stI_R, stL_C, stL_N, stL_Z, stL_S, stL_I, stL_R, stR_C, stR_N, stR_Z, stR_S, stR_I, stR_L, stA_C, stA_N, stA_Z, stA_S, stA_L, stA_R, stI_I, stL_L, stR_R, stA_I, stN_C, stN_N, stN_Z, stN_S, stN_I, stN_L, stN_R, stI_ne, stL_ne, stR_ne, hC.all, h3, e1, xin, p1, c1, l1, ne10, ne10L, ne01, ne01L, tt_imp, nt_imp, ff_imp, nf_imp, true_and, and_true, true_or, or_true, reduceIte]
/-- the code of a sum, or none -/
def SMd (nw : Nat) (G : XH) (p q : Nat) (f : SF) : Prop := (p < q ∧ ∃ h, h < 64 ∧ OKg nw G p q h f) ∨ (p = q ∧ f = f1)
def WTd (nw : Nat) (G : XH) (p q : Nat) (o : Option SF) : Prop := match o with
  | none => p = q
  | some f => p < q ∧ ∃ h, h < 64 ∧ OKg nw G p q h f
def PWg (nw : Nat) (G : XH) (p q : Nat) : Prop := RG nw (cdC G) p q ∧ ∀ k, p ≤ k → k < q → CI (hpI G 51 k) (cdC G k)
theorem PWg.app {nw : Nat} {G : XH} {p q r : Nat} (h1 : PWg nw G p q) (h2 : PWg nw G q r) (hq : q ≤ r) : PWg nw G p r := ⟨fun k z1 z2 => by
  rcases (show k < q ∨ q ≤ k by omega) with y | y
  · exact h1.1.le hq k z1 y
  · exact h2.1 k y z2, fun k z1 z2 => by
  rcases (show k < q ∨ q ≤ k by omega) with y | y
  · exact h1.2 k z1 y
  · exact h2.2 k y z2⟩
theorem PWg.nil {nw : Nat} {G : XH} {p : Nat} : PWg nw G p p := ⟨fun k z1 z2 => absurd z2 (by omega), fun k z1 z2 => absurd z2 (by omega)⟩
theorem PWg.congr {nw : Nat} {G G' : XH} {p q : Nat} (k : PWg nw G p q) (e : ∀ k, p ≤ k → k < q → hpI G' 51 k = hpI G 51 k) : PWg nw G' p q := ⟨fun j h1 h2 => by unfold cdC; rw [e j h1 h2]; exact k.1 j h1 h2, fun j h1 h2 => by unfold cdC; rw [e j h1 h2]; exact k.2 j h1 h2⟩
theorem OKg.pw {nw : Nat} {G : XH} {p q h : Nat} {f : SF} (k : OKg nw G p q h f) : PWg nw G p q := ⟨k.1.2.2.2, k.2⟩
theorem SMd.pw {nw : Nat} {G : XH} {p q : Nat} {f : SF} (k : SMd nw G p q f) : PWg nw G p q ∧ p ≤ q := by
  rcases k with ⟨h, h', _, k⟩ | ⟨rfl, _⟩
  · exact ⟨k.pw, by omega⟩
  · exact ⟨PWg.nil, Nat.le_refl _⟩
theorem WTd.pw {nw : Nat} {G : XH} {p q : Nat} {o : Option SF} (k : WTd nw G p q o) : PWg nw G p q ∧ p ≤ q := by
  cases o with
  | none => have e : p = q := k; subst e; exact ⟨PWg.nil, Nat.le_refl _⟩
  | some f => obtain ⟨h, h', _, k⟩ := k; exact ⟨k.pw, by omega⟩
theorem SMd.congr {nw : Nat} {G G' : XH} {p q : Nat} {f : SF} (k : SMd nw G p q f) (e : ∀ k, p ≤ k → k < q → hpI G' 51 k = hpI G 51 k) : SMd nw G' p q f := by
  rcases k with ⟨h, h', hh, k⟩ | k
  · exact Or.inl ⟨h, h', hh, k.congr e⟩
  · exact Or.inr k
theorem WTd.congr {nw : Nat} {G G' : XH} {p q : Nat} {o : Option SF} (k : WTd nw G p q o) (e : ∀ k, p ≤ k → k < q → hpI G' 51 k = hpI G 51 k) : WTd nw G' p q o := by
  cases o with
  | none => exact k
  | some f => obtain ⟨h, h', hh, k⟩ := k; exact ⟨h, h', hh, k.congr e⟩
/-- the head of clause n was read -/
def HEr (G : XH) (e : Nat) (r : XR) : Prop := r.1 = some (.int 0) ∧ Fr WCl G r.2 ∧ hpI r.2 49 6 = nI e
def HOk (b : Nat → Nat) (len : Nat) (od : Bool) (G : XH) (n p sz : Nat) (h : Nat × Nat × Nat × SF × Option SF × Nat) (r : XR) : Prop := r.1 = some (.int 1) ∧ Fr WCl G r.2 ∧ (∀ j, j < sz → hpI r.2 51 j = hpI G 51 j) ∧ (∀ j, j < 6 * n → hpI r.2 52 j = hpI G 52 j) ∧ ∃ p1 p2, GST r.2 b len od h.1 h.2.1 p2 ∧ p2 + p ≤ sz + h.1 ∧ p < h.1 ∧ hpI r.2 52 (6 * n) = nI h.2.2.1 ∧ hpI r.2 52 (6 * n + 1) = nI sz ∧ hpI r.2 52 (6 * n + 2) = nI p1 ∧ hpI r.2 52 (6 * n + 5) = nI h.2.2.2.2.2 ∧ SMd (if od then 21 else 10) r.2 sz p1 h.2.2.2.1 ∧ WTd (if od then 21 else 10) r.2 p1 p2 h.2.2.2.2.1
def HRs (b : Nat → Nat) (len : Nat) (od : Bool) (G : XH) (n p sz : Nat) (o : GH) (r : XR) : Prop := match o with
  | .error e => HEr G e r
  | .ok h => HOk b len od G n p sz h r
theorem gs8 {b : Nat → Nat} {len : Nat} {od : Bool} {G : XH} {p c sz : Nat} (h : GST G b len od p c sz) : SP (D_g0 60 4) [.ref 49, .int 0] G (GRs b len od G p c sz (gSum b len od 8 p c)) := c_gsum 8 60 (by omega) (by omega) G p c sz h
theorem gt8 {b : Nat → Nat} {len : Nat} {od : Bool} {G : XH} {p c sz : Nat} (h : GST G b len od p c sz) : SP (D_g0 60 0) [.ref 49, .int 0] G (GRs b len od G p c sz (gTest b len od 8 p c)) := c_gtest 8 60 (by omega) (by omega) G p c sz h
theorem c_lawClause {b : Nat → Nat} {len : Nat} {G : XH} {n p c sz : Nat} (h : GST G b len false p c sz) (h3 : hpI G 50 3 = nI n) (hn : n < 12) : SP D_Grammar_lawClause [.ref 49] G (HRs b len false G n p sz (gLawH b len p c)) := by
  have hGL := h.1
  have hC := hGL.1
  have hp := hGL.2.2.2.2.2
  have hlk := fun Q => c_lawKind hGL Q
  have hsp := h.2.2.2.2.1
  rw [e_Grammar_lawClause]
  cases hw : wIx b len p hdsW 0 with
  | none =>
    have ee : gLawH b len p c = .error p := by unfold gLawH; rw [hw]
    obtain ⟨m, hm⟩ : ∃ m, m = nuI (none : Option Nat) := ⟨_, rfl⟩
    have gm : (m = -1) = True := eq_true hm
    rw [hw, ← hm] at hlk
    rw [ee]
    simp only [k_Grammar_lawClause_0, w_iadd, w_isub, w_imul, w_iand, w_ior, w_ixor, w_ishl, w_ishr, w_iushr, w_idiv, w_irem, w_ineg, w_ladd, w_lsub, w_lmul, w_ldiv, w_lrem, w_i2l, w_l2i, w_i2c, w_lcmp, w_dup_int, w_pop_int, w_dup_ref, w_pop_ref, w_dup_retAddr, w_pop_retAddr, w_dup2, w_I, w_L, w_Null, w_Ild, w_Lld, w_Ald, w_Ist, w_Lst, w_Ast, w_Iinc, w_if_eq, w_icmp_eq, w_if_ne, w_icmp_ne, w_if_lt, w_icmp_lt, w_if_ge, w_icmp_ge, w_if_gt, w_icmp_gt, w_if_le, w_icmp_le, w_GetI, w_GetL, w_GetR, w_PutI, w_PutZ, w_PutL, w_PutR, w_PutN, w_Iald, w_Zald, w_Lald, w_Aald, w_Iast, w_Zast, w_Last, w_AastR, w_AastN, w_Alen, w_New, w_NewA, w_Mna, w_Iret, w_Zret, w_Cret, w_Bret, w_Lret, w_AretR, w_AretN, w_Vret, w_Obj, w_IfNN, w_IfNR, w_Copy, w_Cln, w_Cast, w_SfA, w_SfI, w_SfQ, w_Str, w_ScLd, w_ScLen, w_CV0, w_CS0, w_CV1, w_CS1, w_CV2, w_CS2, w_CV3, w_CS3, w_CV4, w_CS4, w_CV5, w_CS5, List.getElem?_cons_zero, List.getElem?_cons_succ, List.set_cons_zero, List.set_cons_succ, List.length_cons, List.length_nil, List.map_cons, List.map_nil, List.sum_cons, List.sum_nil, List.nil_append, List.cons_append, Option.toList_some, Option.toList_none, Value.category, xok, va_rf, true_and, and_true, and_self, Nat.reduceAdd, Nat.reduceLT, Nat.reduceLeDiff, Nat.reduceEqDiff, Nat.reduceMul, beq_self_eq_true, decide_true, ite_true, ite_false, if_true, if_false, reduceIte, Bool.true_eq_false, Bool.false_eq_true, eq_self_iff_true, Nat.zero_le, not_true_eq_false, not_false_eq_true, forall_const, false_implies, implies_true, forall_false, hC.all, hlk, gm, ne10, ne10L, ne01, ne01L, tt_imp, nt_imp, ff_imp, nf_imp, true_and, and_true, true_or, or_true, reduceIte]
    exact ⟨rfl, Fr.refl, hGL.2.2.2.1⟩
  | some k =>
    have hk := wIx_lt _ 0 k (by decide) hw
    have hk5 : k < 5 := by simpa [hdsW] using hk.2.2
    have npl := (nxB_le (b := b) (len := len) (p := p)).2 hk.1
    have hlk' : ∀ Q, SP D_Grammar_lawKind [.ref 49] G Q = Q (some (.int (nI k)), G) := fun Q => by have := hlk Q; rw [hw] at this; exact this
    have gm : (nI k = -1) = False := eq_false (nI_ne (by omega))
    simp only [k_Grammar_lawClause_0, w_iadd, w_isub, w_imul, w_iand, w_ior, w_ixor, w_ishl, w_ishr, w_iushr, w_idiv, w_irem, w_ineg, w_ladd, w_lsub, w_lmul, w_ldiv, w_lrem, w_i2l, w_l2i, w_i2c, w_lcmp, w_dup_int, w_pop_int, w_dup_ref, w_pop_ref, w_dup_retAddr, w_pop_retAddr, w_dup2, w_I, w_L, w_Null, w_Ild, w_Lld, w_Ald, w_Ist, w_Lst, w_Ast, w_Iinc, w_if_eq, w_icmp_eq, w_if_ne, w_icmp_ne, w_if_lt, w_icmp_lt, w_if_ge, w_icmp_ge, w_if_gt, w_icmp_gt, w_if_le, w_icmp_le, w_GetI, w_GetL, w_GetR, w_PutI, w_PutZ, w_PutL, w_PutR, w_PutN, w_Iald, w_Zald, w_Lald, w_Aald, w_Iast, w_Zast, w_Last, w_AastR, w_AastN, w_Alen, w_New, w_NewA, w_Mna, w_Iret, w_Zret, w_Cret, w_Bret, w_Lret, w_AretR, w_AretN, w_Vret, w_Obj, w_IfNN, w_IfNR, w_Copy, w_Cln, w_Cast, w_SfA, w_SfI, w_SfQ, w_Str, w_ScLd, w_ScLen, w_CV0, w_CS0, w_CV1, w_CS1, w_CV2, w_CS2, w_CV3, w_CS3, w_CV4, w_CS4, w_CV5, w_CS5, List.getElem?_cons_zero, List.getElem?_cons_succ, List.set_cons_zero, List.set_cons_succ, List.length_cons, List.length_nil, List.map_cons, List.map_nil, List.sum_cons, List.sum_nil, List.nil_append, List.cons_append, Option.toList_some, Option.toList_none, Value.category, xok, va_rf, true_and, and_true, and_self, Nat.reduceAdd, Nat.reduceLT, Nat.reduceLeDiff, Nat.reduceEqDiff, Nat.reduceMul, beq_self_eq_true, decide_true, ite_true, ite_false, if_true, if_false, reduceIte, Bool.true_eq_false, Bool.false_eq_true, eq_self_iff_true, Nat.zero_le, not_true_eq_false, not_false_eq_true, forall_const, false_implies, implies_true, forall_false, hC.all, hlk', gm, ne10, ne10L, ne01, ne01L, tt_imp, nt_imp, ff_imp, nf_imp, true_and, and_true, true_or, or_true, reduceIte]
    refine SP.mono (c_step hGL) ?_
    rintro ⟨v, G1⟩ ⟨rfl, f1', h1⟩
    dsimp only at f1' h1
    have hST1 := h.st f1' h1 (by omega)
    have hC1 := h1.1
    have h31 : hpI G1 50 3 = nI n := (f1'.I rfl).trans h3
    obtain ⟨G2, hG2⟩ : ∃ G2, G2 = stI G1 52 (6 * n) (nI k) := ⟨_, rfl⟩
    have t2 : ∀ Q, SP D_Text_tell [.ref 50, .int 0, .int (nI k)] G1 Q = Q (none, G2) := fun Q => by rw [hG2]; exact c_tell hC1 (w := 0) h31 hn (by omega) (nI k) Q
    have fr2 : Fr WTl G1 G2 := by rw [hG2]; exact Fr.refl.wI rfl
    have hST2 := hST1.tl fr2
    have hC2 := hST2.1.1
    have h32 : hpI G2 50 3 = nI n := (fr2.I rfl).trans h31
    obtain ⟨G3, hG3⟩ : ∃ G3, G3 = stI G2 52 (6 * n + 5) 1 := ⟨_, rfl⟩
    have t3 : ∀ Q, SP D_Text_tell [.ref 50, .int 5, .int 1] G2 Q = Q (none, G3) := fun Q => by rw [hG3]; exact c_tell hC2 (w := 5) h32 hn (by omega) 1 Q
    have fr3 : Fr WTl G2 G3 := by rw [hG3]; exact Fr.refl.wI rfl
    have hST3 := hST2.tl fr3
    have hC3 := hST3.1.1
    have h33 : hpI G3 50 3 = nI n := (fr3.I rfl).trans h32
    have h23 := hST3.2.2.2.1
    obtain ⟨G4, hG4⟩ : ∃ G4, G4 = stI G3 52 (6 * n + 1) (nI sz) := ⟨_, rfl⟩
    have t4 : ∀ Q, SP D_Text_tell [.ref 50, .int 1, .int (nI sz)] G3 Q = Q (none, G4) := fun Q => by rw [hG4]; exact c_tell hC3 (w := 1) h33 hn (by omega) (nI sz) Q
    have fr4 : Fr WTl G3 G4 := by rw [hG4]; exact Fr.refl.wI rfl
    have hST4 := hST3.tl fr4
    have hC4 := hST4.1.1
    have h34 : hpI G4 50 3 = nI n := (fr4.I rfl).trans h33
    have fr14 : Fr WTl G1 G4 := fr2.trans (fr3.trans fr4)
    have rows4 : hpI G4 52 = up (up (up (hpI G1 52) (6 * n) (nI k)) (6 * n + 5) 1) (6 * n + 1) (nI sz) := by
      rw [hG4, stI_up, hpI_stA, hG3, stI_up, hpI_stA, hG2, stI_up, hpI_stA]
    have code4 : ∀ j, hpI G4 51 j = hpI G 51 j := fun j => (fr14.I rfl).trans (f1'.I rfl)
    have rlow1 : ∀ j, hpI G1 52 j = hpI G 52 j := fun j => f1'.I rfl
    have f04 : Fr WCl G G4 := (f1'.mono WSt_WCl).trans (fr14.mono WTl_WCl)
    /- the end -/
    have hend : ∀ (v : Int32) (G5 : XH) (R : GH) (a1 : Option Value), (∃ x : Int32, a1 = some (.int x)) → Fr WGx G4 G5 → (∀ e, R = .error e → v = 0 ∧ hpI G5 49 6 = nI e) → (∀ H, R = .ok H → v = 1 ∧ (∀ j, j < sz → hpI G5 51 j = hpI G4 51 j) ∧ H.2.2.1 = k ∧ H.2.2.2.2.1 = none ∧ H.2.2.2.2.2 = 1 ∧ p < H.1 ∧ ∃ sz', sz' + p ≤ sz + H.1 ∧ GST G5 b len false H.1 H.2.1 sz' ∧ SMd 10 G5 sz sz' H.2.2.2.1) → WP k_Grammar_lawClause_67 [some (.ref 49), a1, none] [.int v] G5 (HRs b len false G n p sz R) := by
      rintro v G5 R a1 ⟨x1, rfl⟩ f5 hE hO
      have hC5 := f5.cs hC4
      have h35 : hpI G5 50 3 = nI n := (f5.I rfl).trans h34
      obtain ⟨z5, hz5⟩ : ∃ z5, z5 = hpI G5 50 2 := ⟨_, rfl⟩
      obtain ⟨G6, hG6⟩ : ∃ G6, G6 = stI G5 52 (6 * n + 2) z5 := ⟨_, rfl⟩
      have t6 : ∀ Q, SP D_Text_tell [.ref 50, .int 2, .int z5] G5 Q = Q (none, G6) := fun Q => by rw [hG6]; exact c_tell hC5 (w := 2) h35 hn (by omega) z5 Q
      have fr6 : Fr WTl G5 G6 := by rw [hG6]; exact Fr.refl.wI rfl
      have f06 : Fr WCl G G6 := f04.trans ((f5.mono WGx_WCl).trans (fr6.mono WTl_WCl))
      have hz5' := hz5.symm
      cases R with
      | error e =>
        obtain ⟨rfl, h6⟩ := hE e rfl
        simp only [k_Grammar_lawClause_67, w_iadd, w_isub, w_imul, w_iand, w_ior, w_ixor, w_ishl, w_ishr, w_iushr, w_idiv, w_irem, w_ineg, w_ladd, w_lsub, w_lmul, w_ldiv, w_lrem, w_i2l, w_l2i, w_i2c, w_lcmp, w_dup_int, w_pop_int, w_dup_ref, w_pop_ref, w_dup_retAddr, w_pop_retAddr, w_dup2, w_I, w_L, w_Null, w_Ild, w_Lld, w_Ald, w_Ist, w_Lst, w_Ast, w_Iinc, w_if_eq, w_icmp_eq, w_if_ne, w_icmp_ne, w_if_lt, w_icmp_lt, w_if_ge, w_icmp_ge, w_if_gt, w_icmp_gt, w_if_le, w_icmp_le, w_GetI, w_GetL, w_GetR, w_PutI, w_PutZ, w_PutL, w_PutR, w_PutN, w_Iald, w_Zald, w_Lald, w_Aald, w_Iast, w_Zast, w_Last, w_AastR, w_AastN, w_Alen, w_New, w_NewA, w_Mna, w_Iret, w_Zret, w_Cret, w_Bret, w_Lret, w_AretR, w_AretN, w_Vret, w_Obj, w_IfNN, w_IfNR, w_Copy, w_Cln, w_Cast, w_SfA, w_SfI, w_SfQ, w_Str, w_ScLd, w_ScLen, w_CV0, w_CS0, w_CV1, w_CS1, w_CV2, w_CS2, w_CV3, w_CS3, w_CV4, w_CS4, w_CV5, w_CS5, List.getElem?_cons_zero, List.getElem?_cons_succ, List.set_cons_zero, List.set_cons_succ, List.length_cons, List.length_nil, List.map_cons, List.map_nil, List.sum_cons, List.sum_nil, List.nil_append, List.cons_append, Option.toList_some, Option.toList_none, Value.category, xok, va_rf, true_and, and_true, and_self, Nat.reduceAdd, Nat.reduceLT, Nat.reduceLeDiff, Nat.reduceEqDiff, Nat.reduceMul, beq_self_eq_true, decide_true, ite_true, ite_false, if_true, if_false, reduceIte, Bool.true_eq_false, Bool.false_eq_true, eq_self_iff_true, Nat.zero_le, not_true_eq_false, not_false_eq_true, forall_const, false_implies, implies_true, forall_false, stI_C, stI_N, stI_Z, stI_S, stI_L, stI_R, stL_C, stL_N, stL_Z, stL_S, stL_I, stL_R, stR_C, stR_N, stR_Z, stR_S, stR_I, stR_L, stA_C, stA_N, stA_Z, stA_S, stA_L, stA_R, stI_I, stL_L, stR_R, stA_I, stN_C, stN_N, stN_Z, stN_S, stN_I, stN_L, stN_R, stI_ne, stL_ne, stR_ne, tn_0, tn_1, tn_2, tn_3, tn_4, tn_5, tn_6, tn_7, tn_8, tn_9, tn_10, tn_11, tn_12, tn_13, tn_14, tn_15, tn_16, tn_17, tn_18, tn_19, tn_20, tn_21, tn_22, tn_23, tn_24, tn_25, tn_26, tn_27, tn_28, tn_29, tn_30, tn_31, tn_32, tn_33, tn_34, tn_35, tn_36, tn_37, tn_38, tn_39, tn_40, tn_41, tn_42, tn_43, tn_44, tn_45, tn_46, tn_47, tn_48, tn_49, tn_50, tn_51, tn_52, tn_53, tn_54, tn_55, tn_56, tn_57, tn_58, tn_59, tn_60, tn_61, tn_62, tn_63, tn_64, tn_65, tn_66, tn_67, tn_68, tn_69, tn_70, tn_71, tn_72, tn_73, tn_74, tn_75, tn_76, tn_77, tn_78, tn_79, tn_80, tn_81, tn_82, tn_83, tn_84, tn_85, tn_86, tn_87, tn_88, tn_89, tn_90, tn_91, tn_92, tn_93, tn_94, tn_95, tn_96, tn_97, tn_98, tn_99, tn_100, tn_101, tn_102, tn_103, tn_104, tn_105, tn_106, tn_107, tn_108, tn_109, tn_110, tn_111, tn_112, tn_113, tn_114, tn_115, tn_116, tn_117, tn_118, tn_119, tn_120, tn_121, tn_122, tn_123, tn_124, tn_125, tn_126, tn_127, tn_128, tn_129, tn_130, tn_131, tn_132, tn_133, tn_134, tn_135, tn_136, tn_137, tn_138, tn_139, tn_140, tn_141, tn_142, tn_143, tn_144, tn_145, tn_146, tn_147, tn_148, tn_149, tn_150, tn_151, tn_152, tn_153, tn_154, tn_155, tn_156, tn_157, tn_158, tn_159, tn_160, tn_161, tn_162, tn_163, tn_164, tn_165, tn_166, tn_167, tn_168, tn_169, tn_170, tn_171, tn_172, tn_173, tn_174, tn_175, tn_176, tn_177, tn_178, tn_179, tn_180, tn_181, tn_182, tn_183, tn_184, tn_185, tn_186, tn_187, tn_188, tn_189, tn_190, tn_191, tn_192, tn_193, tn_194, tn_195, tn_196, tn_197, tn_198, tn_199, tn_255, tn_256, tn_300, tn_399, tn_400, tn_500, tn_900, tn_999, tn_1000, tn_1001, tn_1024, tn_2048, tn_2176, tn_3536, tn_4095, tn_4096, tn_5580, tn_11160, tn_12345, tn_1103, tn_99999, tn_1000000, tn_1000003, tn_100000000, tn_1000000000, ge0_0, ge0_1, ge0_2, ge0_3, ge0_4, ge0_5, ge0_6, ge0_7, ge0_8, ge0_9, ge0_10, ge0_11, ge0_12, ge0_13, ge0_14, ge0_15, ge0_16, ge0_17, ge0_18, ge0_19, ge0_20, ge0_21, ge0_22, ge0_23, ge0_24, ge0_25, ge0_26, ge0_27, ge0_28, ge0_29, ge0_30, ge0_31, ge0_32, ge0_33, ge0_34, ge0_35, ge0_36, ge0_37, ge0_38, ge0_39, ge0_40, ge0_41, ge0_42, ge0_43, ge0_44, ge0_45, ge0_46, ge0_47, ge0_48, ge0_49, ge0_50, ge0_51, ge0_52, ge0_53, ge0_54, ge0_55, ge0_56, ge0_57, ge0_58, ge0_59, ge0_60, ge0_61, ge0_62, ge0_63, ge0_64, ge0_65, ge0_66, ge0_67, ge0_68, ge0_69, ge0_70, ge0_71, ge0_72, ge0_73, ge0_74, ge0_75, ge0_76, ge0_77, ge0_78, ge0_79, ge0_80, ge0_81, ge0_82, ge0_83, ge0_84, ge0_85, ge0_86, ge0_87, ge0_88, ge0_89, ge0_90, ge0_91, ge0_92, ge0_93, ge0_94, ge0_95, ge0_96, ge0_97, ge0_98, ge0_99, ge0_100, ge0_101, ge0_102, ge0_103, ge0_104, ge0_105, ge0_106, ge0_107, ge0_108, ge0_109, ge0_110, ge0_111, ge0_112, ge0_113, ge0_114, ge0_115, ge0_116, ge0_117, ge0_118, ge0_119, ge0_120, ge0_121, ge0_122, ge0_123, ge0_124, ge0_125, ge0_126, ge0_127, ge0_128, ge0_129, ge0_130, ge0_131, ge0_132, ge0_133, ge0_134, ge0_135, ge0_136, ge0_137, ge0_138, ge0_139, ge0_140, ge0_141, ge0_142, ge0_143, ge0_144, ge0_145, ge0_146, ge0_147, ge0_148, ge0_149, ge0_150, ge0_151, ge0_152, ge0_153, ge0_154, ge0_155, ge0_156, ge0_157, ge0_158, ge0_159, ge0_160, ge0_161, ge0_162, ge0_163, ge0_164, ge0_165, ge0_166, ge0_167, ge0_168, ge0_169, ge0_170, ge0_171, ge0_172, ge0_173, ge0_174, ge0_175, ge0_176, ge0_177, ge0_178, ge0_179, ge0_180, ge0_181, ge0_182, ge0_183, ge0_184, ge0_185, ge0_186, ge0_187, ge0_188, ge0_189, ge0_190, ge0_191, ge0_192, ge0_193, ge0_194, ge0_195, ge0_196, ge0_197, ge0_198, ge0_199, ge0_255, ge0_256, ge0_300, ge0_399, ge0_400, ge0_500, ge0_900, ge0_999, ge0_1000, ge0_1001, ge0_1024, ge0_2048, ge0_2176, ge0_3536, ge0_4095, ge0_4096, ge0_5580, ge0_11160, ge0_12345, ge0_1103, ge0_99999, ge0_1000000, ge0_1000003, ge0_100000000, ge0_1000000000, hC5.all, hz5', t6, ne10, ne10L, ne01, ne01L, tt_imp, nt_imp, ff_imp, nf_imp, true_and, and_true, true_or, or_true, reduceIte]
        exact ⟨rfl, f06, (fr6.I rfl).trans h6⟩
      | ok H =>
        obtain ⟨rfl, hlow, k1, k2, k3, k0, sz', k4, k5, k6⟩ := hO H rfl
        simp only [k_Grammar_lawClause_67, w_iadd, w_isub, w_imul, w_iand, w_ior, w_ixor, w_ishl, w_ishr, w_iushr, w_idiv, w_irem, w_ineg, w_ladd, w_lsub, w_lmul, w_ldiv, w_lrem, w_i2l, w_l2i, w_i2c, w_lcmp, w_dup_int, w_pop_int, w_dup_ref, w_pop_ref, w_dup_retAddr, w_pop_retAddr, w_dup2, w_I, w_L, w_Null, w_Ild, w_Lld, w_Ald, w_Ist, w_Lst, w_Ast, w_Iinc, w_if_eq, w_icmp_eq, w_if_ne, w_icmp_ne, w_if_lt, w_icmp_lt, w_if_ge, w_icmp_ge, w_if_gt, w_icmp_gt, w_if_le, w_icmp_le, w_GetI, w_GetL, w_GetR, w_PutI, w_PutZ, w_PutL, w_PutR, w_PutN, w_Iald, w_Zald, w_Lald, w_Aald, w_Iast, w_Zast, w_Last, w_AastR, w_AastN, w_Alen, w_New, w_NewA, w_Mna, w_Iret, w_Zret, w_Cret, w_Bret, w_Lret, w_AretR, w_AretN, w_Vret, w_Obj, w_IfNN, w_IfNR, w_Copy, w_Cln, w_Cast, w_SfA, w_SfI, w_SfQ, w_Str, w_ScLd, w_ScLen, w_CV0, w_CS0, w_CV1, w_CS1, w_CV2, w_CS2, w_CV3, w_CS3, w_CV4, w_CS4, w_CV5, w_CS5, List.getElem?_cons_zero, List.getElem?_cons_succ, List.set_cons_zero, List.set_cons_succ, List.length_cons, List.length_nil, List.map_cons, List.map_nil, List.sum_cons, List.sum_nil, List.nil_append, List.cons_append, Option.toList_some, Option.toList_none, Value.category, xok, va_rf, true_and, and_true, and_self, Nat.reduceAdd, Nat.reduceLT, Nat.reduceLeDiff, Nat.reduceEqDiff, Nat.reduceMul, beq_self_eq_true, decide_true, ite_true, ite_false, if_true, if_false, reduceIte, Bool.true_eq_false, Bool.false_eq_true, eq_self_iff_true, Nat.zero_le, not_true_eq_false, not_false_eq_true, forall_const, false_implies, implies_true, forall_false, stI_C, stI_N, stI_Z, stI_S, stI_L, stI_R, stL_C, stL_N, stL_Z, stL_S, stL_I, stL_R, stR_C, stR_N, stR_Z, stR_S, stR_I, stR_L, stA_C, stA_N, stA_Z, stA_S, stA_L, stA_R, stI_I, stL_L, stR_R, stA_I, stN_C, stN_N, stN_Z, stN_S, stN_I, stN_L, stN_R, stI_ne, stL_ne, stR_ne, tn_0, tn_1, tn_2, tn_3, tn_4, tn_5, tn_6, tn_7, tn_8, tn_9, tn_10, tn_11, tn_12, tn_13, tn_14, tn_15, tn_16, tn_17, tn_18, tn_19, tn_20, tn_21, tn_22, tn_23, tn_24, tn_25, tn_26, tn_27, tn_28, tn_29, tn_30, tn_31, tn_32, tn_33, tn_34, tn_35, tn_36, tn_37, tn_38, tn_39, tn_40, tn_41, tn_42, tn_43, tn_44, tn_45, tn_46, tn_47, tn_48, tn_49, tn_50, tn_51, tn_52, tn_53, tn_54, tn_55, tn_56, tn_57, tn_58, tn_59, tn_60, tn_61, tn_62, tn_63, tn_64, tn_65, tn_66, tn_67, tn_68, tn_69, tn_70, tn_71, tn_72, tn_73, tn_74, tn_75, tn_76, tn_77, tn_78, tn_79, tn_80, tn_81, tn_82, tn_83, tn_84, tn_85, tn_86, tn_87, tn_88, tn_89, tn_90, tn_91, tn_92, tn_93, tn_94, tn_95, tn_96, tn_97, tn_98, tn_99, tn_100, tn_101, tn_102, tn_103, tn_104, tn_105, tn_106, tn_107, tn_108, tn_109, tn_110, tn_111, tn_112, tn_113, tn_114, tn_115, tn_116, tn_117, tn_118, tn_119, tn_120, tn_121, tn_122, tn_123, tn_124, tn_125, tn_126, tn_127, tn_128, tn_129, tn_130, tn_131, tn_132, tn_133, tn_134, tn_135, tn_136, tn_137, tn_138, tn_139, tn_140, tn_141, tn_142, tn_143, tn_144, tn_145, tn_146, tn_147, tn_148, tn_149, tn_150, tn_151, tn_152, tn_153, tn_154, tn_155, tn_156, tn_157, tn_158, tn_159, tn_160, tn_161, tn_162, tn_163, tn_164, tn_165, tn_166, tn_167, tn_168, tn_169, tn_170, tn_171, tn_172, tn_173, tn_174, tn_175, tn_176, tn_177, tn_178, tn_179, tn_180, tn_181, tn_182, tn_183, tn_184, tn_185, tn_186, tn_187, tn_188, tn_189, tn_190, tn_191, tn_192, tn_193, tn_194, tn_195, tn_196, tn_197, tn_198, tn_199, tn_255, tn_256, tn_300, tn_399, tn_400, tn_500, tn_900, tn_999, tn_1000, tn_1001, tn_1024, tn_2048, tn_2176, tn_3536, tn_4095, tn_4096, tn_5580, tn_11160, tn_12345, tn_1103, tn_99999, tn_1000000, tn_1000003, tn_100000000, tn_1000000000, ge0_0, ge0_1, ge0_2, ge0_3, ge0_4, ge0_5, ge0_6, ge0_7, ge0_8, ge0_9, ge0_10, ge0_11, ge0_12, ge0_13, ge0_14, ge0_15, ge0_16, ge0_17, ge0_18, ge0_19, ge0_20, ge0_21, ge0_22, ge0_23, ge0_24, ge0_25, ge0_26, ge0_27, ge0_28, ge0_29, ge0_30, ge0_31, ge0_32, ge0_33, ge0_34, ge0_35, ge0_36, ge0_37, ge0_38, ge0_39, ge0_40, ge0_41, ge0_42, ge0_43, ge0_44, ge0_45, ge0_46, ge0_47, ge0_48, ge0_49, ge0_50, ge0_51, ge0_52, ge0_53, ge0_54, ge0_55, ge0_56, ge0_57, ge0_58, ge0_59, ge0_60, ge0_61, ge0_62, ge0_63, ge0_64, ge0_65, ge0_66, ge0_67, ge0_68, ge0_69, ge0_70, ge0_71, ge0_72, ge0_73, ge0_74, ge0_75, ge0_76, ge0_77, ge0_78, ge0_79, ge0_80, ge0_81, ge0_82, ge0_83, ge0_84, ge0_85, ge0_86, ge0_87, ge0_88, ge0_89, ge0_90, ge0_91, ge0_92, ge0_93, ge0_94, ge0_95, ge0_96, ge0_97, ge0_98, ge0_99, ge0_100, ge0_101, ge0_102, ge0_103, ge0_104, ge0_105, ge0_106, ge0_107, ge0_108, ge0_109, ge0_110, ge0_111, ge0_112, ge0_113, ge0_114, ge0_115, ge0_116, ge0_117, ge0_118, ge0_119, ge0_120, ge0_121, ge0_122, ge0_123, ge0_124, ge0_125, ge0_126, ge0_127, ge0_128, ge0_129, ge0_130, ge0_131, ge0_132, ge0_133, ge0_134, ge0_135, ge0_136, ge0_137, ge0_138, ge0_139, ge0_140, ge0_141, ge0_142, ge0_143, ge0_144, ge0_145, ge0_146, ge0_147, ge0_148, ge0_149, ge0_150, ge0_151, ge0_152, ge0_153, ge0_154, ge0_155, ge0_156, ge0_157, ge0_158, ge0_159, ge0_160, ge0_161, ge0_162, ge0_163, ge0_164, ge0_165, ge0_166, ge0_167, ge0_168, ge0_169, ge0_170, ge0_171, ge0_172, ge0_173, ge0_174, ge0_175, ge0_176, ge0_177, ge0_178, ge0_179, ge0_180, ge0_181, ge0_182, ge0_183, ge0_184, ge0_185, ge0_186, ge0_187, ge0_188, ge0_189, ge0_190, ge0_191, ge0_192, ge0_193, ge0_194, ge0_195, ge0_196, ge0_197, ge0_198, ge0_199, ge0_255, ge0_256, ge0_300, ge0_399, ge0_400, ge0_500, ge0_900, ge0_999, ge0_1000, ge0_1001, ge0_1024, ge0_2048, ge0_2176, ge0_3536, ge0_4095, ge0_4096, ge0_5580, ge0_11160, ge0_12345, ge0_1103, ge0_99999, ge0_1000000, ge0_1000003, ge0_100000000, ge0_1000000000, hC5.all, hz5', t6, ne10, ne10L, ne01, ne01L, tt_imp, nt_imp, ff_imp, nf_imp, true_and, and_true, true_or, or_true, reduceIte]
        have code6 : ∀ j, hpI G6 51 j = hpI G5 51 j := fun j => fr6.I rfl
        have rows6 : hpI G6 52 = up (hpI G4 52) (6 * n + 2) z5 := by
          rw [hG6, stI_up, hpI_stA]
          congr 1
          exact f5.IA _ (fun _ => rfl)
        refine ⟨rfl, f06, fun j hj => (code6 j).trans ((hlow j hj).trans (code4 j)), fun j hj => ?_, sz', sz', k5.tl fr6, k4, k0, ?_, ?_, ?_, ?_, k6.congr (fun j _ _ => code6 j), ?_⟩
        · show hpI G6 52 j = _
          rw [rows6, rows4, up_ne (by omega), up_ne (by omega), up_ne (by omega), up_ne (by omega)]
          exact rlow1 j
        · show hpI G6 52 (6 * n) = _
          rw [rows6, rows4, up_ne (by omega), up_ne (by omega), up_ne (by omega), up_eq, k1]
        · show hpI G6 52 (6 * n + 1) = _
          rw [rows6, rows4, up_ne (by omega), up_eq]
        · show hpI G6 52 (6 * n + 2) = _
          rw [rows6, up_eq, hz5]
          exact k5.2.2.2.1
        · show hpI G6 52 (6 * n + 5) = _
          rw [rows6, rows4, up_ne (by omega), up_ne (by omega), up_eq, k3]
          rfl
        · rw [k2]
          exact rfl
    simp only [Option.toList_none, List.nil_append, w_iadd, w_isub, w_imul, w_iand, w_ior, w_ixor, w_ishl, w_ishr, w_iushr, w_idiv, w_irem, w_ineg, w_ladd, w_lsub, w_lmul, w_ldiv, w_lrem, w_i2l, w_l2i, w_i2c, w_lcmp, w_dup_int, w_pop_int, w_dup_ref, w_pop_ref, w_dup_retAddr, w_pop_retAddr, w_dup2, w_I, w_L, w_Null, w_Ild, w_Lld, w_Ald, w_Ist, w_Lst, w_Ast, w_Iinc, w_if_eq, w_icmp_eq, w_if_ne, w_icmp_ne, w_if_lt, w_icmp_lt, w_if_ge, w_icmp_ge, w_if_gt, w_icmp_gt, w_if_le, w_icmp_le, w_GetI, w_GetL, w_GetR, w_PutI, w_PutZ, w_PutL, w_PutR, w_PutN, w_Iald, w_Zald, w_Lald, w_Aald, w_Iast, w_Zast, w_Last, w_AastR, w_AastN, w_Alen, w_New, w_NewA, w_Mna, w_Iret, w_Zret, w_Cret, w_Bret, w_Lret, w_AretR, w_AretN, w_Vret, w_Obj, w_IfNN, w_IfNR, w_Copy, w_Cln, w_Cast, w_SfA, w_SfI, w_SfQ, w_Str, w_ScLd, w_ScLen, w_CV0, w_CS0, w_CV1, w_CS1, w_CV2, w_CS2, w_CV3, w_CS3, w_CV4, w_CS4, w_CV5, w_CS5, List.getElem?_cons_zero, List.getElem?_cons_succ, List.set_cons_zero, List.set_cons_succ, List.length_cons, List.length_nil, List.map_cons, List.map_nil, List.sum_cons, List.sum_nil, List.nil_append, List.cons_append, Option.toList_some, Option.toList_none, Value.category, xok, va_rf, true_and, and_true, and_self, Nat.reduceAdd, Nat.reduceLT, Nat.reduceLeDiff, Nat.reduceEqDiff, Nat.reduceMul, beq_self_eq_true, decide_true, ite_true, ite_false, if_true, if_false, reduceIte, Bool.true_eq_false, Bool.false_eq_true, eq_self_iff_true, Nat.zero_le, not_true_eq_false, not_false_eq_true, forall_const, false_implies, implies_true, forall_false, stI_C, stI_N, stI_Z, stI_S, stI_L, stI_R, stL_C, stL_N, stL_Z, stL_S, stL_I, stL_R, stR_C, stR_N, stR_Z, stR_S, stR_I, stR_L, stA_C, stA_N, stA_Z, stA_S, stA_L, stA_R, stI_I, stL_L, stR_R, stA_I, stN_C, stN_N, stN_Z, stN_S, stN_I, stN_L, stN_R, stI_ne, stL_ne, stR_ne, tn_0, tn_1, tn_2, tn_3, tn_4, tn_5, tn_6, tn_7, tn_8, tn_9, tn_10, tn_11, tn_12, tn_13, tn_14, tn_15, tn_16, tn_17, tn_18, tn_19, tn_20, tn_21, tn_22, tn_23, tn_24, tn_25, tn_26, tn_27, tn_28, tn_29, tn_30, tn_31, tn_32, tn_33, tn_34, tn_35, tn_36, tn_37, tn_38, tn_39, tn_40, tn_41, tn_42, tn_43, tn_44, tn_45, tn_46, tn_47, tn_48, tn_49, tn_50, tn_51, tn_52, tn_53, tn_54, tn_55, tn_56, tn_57, tn_58, tn_59, tn_60, tn_61, tn_62, tn_63, tn_64, tn_65, tn_66, tn_67, tn_68, tn_69, tn_70, tn_71, tn_72, tn_73, tn_74, tn_75, tn_76, tn_77, tn_78, tn_79, tn_80, tn_81, tn_82, tn_83, tn_84, tn_85, tn_86, tn_87, tn_88, tn_89, tn_90, tn_91, tn_92, tn_93, tn_94, tn_95, tn_96, tn_97, tn_98, tn_99, tn_100, tn_101, tn_102, tn_103, tn_104, tn_105, tn_106, tn_107, tn_108, tn_109, tn_110, tn_111, tn_112, tn_113, tn_114, tn_115, tn_116, tn_117, tn_118, tn_119, tn_120, tn_121, tn_122, tn_123, tn_124, tn_125, tn_126, tn_127, tn_128, tn_129, tn_130, tn_131, tn_132, tn_133, tn_134, tn_135, tn_136, tn_137, tn_138, tn_139, tn_140, tn_141, tn_142, tn_143, tn_144, tn_145, tn_146, tn_147, tn_148, tn_149, tn_150, tn_151, tn_152, tn_153, tn_154, tn_155, tn_156, tn_157, tn_158, tn_159, tn_160, tn_161, tn_162, tn_163, tn_164, tn_165, tn_166, tn_167, tn_168, tn_169, tn_170, tn_171, tn_172, tn_173, tn_174, tn_175, tn_176, tn_177, tn_178, tn_179, tn_180, tn_181, tn_182, tn_183, tn_184, tn_185, tn_186, tn_187, tn_188, tn_189, tn_190, tn_191, tn_192, tn_193, tn_194, tn_195, tn_196, tn_197, tn_198, tn_199, tn_255, tn_256, tn_300, tn_399, tn_400, tn_500, tn_900, tn_999, tn_1000, tn_1001, tn_1024, tn_2048, tn_2176, tn_3536, tn_4095, tn_4096, tn_5580, tn_11160, tn_12345, tn_1103, tn_99999, tn_1000000, tn_1000003, tn_100000000, tn_1000000000, ge0_0, ge0_1, ge0_2, ge0_3, ge0_4, ge0_5, ge0_6, ge0_7, ge0_8, ge0_9, ge0_10, ge0_11, ge0_12, ge0_13, ge0_14, ge0_15, ge0_16, ge0_17, ge0_18, ge0_19, ge0_20, ge0_21, ge0_22, ge0_23, ge0_24, ge0_25, ge0_26, ge0_27, ge0_28, ge0_29, ge0_30, ge0_31, ge0_32, ge0_33, ge0_34, ge0_35, ge0_36, ge0_37, ge0_38, ge0_39, ge0_40, ge0_41, ge0_42, ge0_43, ge0_44, ge0_45, ge0_46, ge0_47, ge0_48, ge0_49, ge0_50, ge0_51, ge0_52, ge0_53, ge0_54, ge0_55, ge0_56, ge0_57, ge0_58, ge0_59, ge0_60, ge0_61, ge0_62, ge0_63, ge0_64, ge0_65, ge0_66, ge0_67, ge0_68, ge0_69, ge0_70, ge0_71, ge0_72, ge0_73, ge0_74, ge0_75, ge0_76, ge0_77, ge0_78, ge0_79, ge0_80, ge0_81, ge0_82, ge0_83, ge0_84, ge0_85, ge0_86, ge0_87, ge0_88, ge0_89, ge0_90, ge0_91, ge0_92, ge0_93, ge0_94, ge0_95, ge0_96, ge0_97, ge0_98, ge0_99, ge0_100, ge0_101, ge0_102, ge0_103, ge0_104, ge0_105, ge0_106, ge0_107, ge0_108, ge0_109, ge0_110, ge0_111, ge0_112, ge0_113, ge0_114, ge0_115, ge0_116, ge0_117, ge0_118, ge0_119, ge0_120, ge0_121, ge0_122, ge0_123, ge0_124, ge0_125, ge0_126, ge0_127, ge0_128, ge0_129, ge0_130, ge0_131, ge0_132, ge0_133, ge0_134, ge0_135, ge0_136, ge0_137, ge0_138, ge0_139, ge0_140, ge0_141, ge0_142, ge0_143, ge0_144, ge0_145, ge0_146, ge0_147, ge0_148, ge0_149, ge0_150, ge0_151, ge0_152, ge0_153, ge0_154, ge0_155, ge0_156, ge0_157, ge0_158, ge0_159, ge0_160, ge0_161, ge0_162, ge0_163, ge0_164, ge0_165, ge0_166, ge0_167, ge0_168, ge0_169, ge0_170, ge0_171, ge0_172, ge0_173, ge0_174, ge0_175, ge0_176, ge0_177, ge0_178, ge0_179, ge0_180, ge0_181, ge0_182, ge0_183, ge0_184, ge0_185, ge0_186, ge0_187, ge0_188, ge0_189, ge0_190, ge0_191, ge0_192, ge0_193, ge0_194, ge0_195, ge0_196, ge0_197, ge0_198, ge0_199, ge0_255, ge0_256, ge0_300, ge0_399, ge0_400, ge0_500, ge0_900, ge0_999, ge0_1000, ge0_1001, ge0_1024, ge0_2048, ge0_2176, ge0_3536, ge0_4095, ge0_4096, ge0_5580, ge0_11160, ge0_12345, ge0_1103, ge0_99999, ge0_1000000, ge0_1000003, ge0_100000000, ge0_1000000000, hC1.all, t2, hC2.all, t3, hC3.all, h23, t4, ne10, ne10L, ne01, ne01L, tt_imp, nt_imp, ff_imp, nf_imp, true_and, and_true, true_or, or_true, reduceIte]
    by_cases q2 : k ≤ 2
    · have g2 : ((2 : Int32) < nI k) = False := eq_false (by rw [show (2 : Int32) = nI 2 from rfl, nl_lt (by omega) (by omega)]; omega)
      simp only [w_iadd, w_isub, w_imul, w_iand, w_ior, w_ixor, w_ishl, w_ishr, w_iushr, w_idiv, w_irem, w_ineg, w_ladd, w_lsub, w_lmul, w_ldiv, w_lrem, w_i2l, w_l2i, w_i2c, w_lcmp, w_dup_int, w_pop_int, w_dup_ref, w_pop_ref, w_dup_retAddr, w_pop_retAddr, w_dup2, w_I, w_L, w_Null, w_Ild, w_Lld, w_Ald, w_Ist, w_Lst, w_Ast, w_Iinc, w_if_eq, w_icmp_eq, w_if_ne, w_icmp_ne, w_if_lt, w_icmp_lt, w_if_ge, w_icmp_ge, w_if_gt, w_icmp_gt, w_if_le, w_icmp_le, w_GetI, w_GetL, w_GetR, w_PutI, w_PutZ, w_PutL, w_PutR, w_PutN, w_Iald, w_Zald, w_Lald, w_Aald, w_Iast, w_Zast, w_Last, w_AastR, w_AastN, w_Alen, w_New, w_NewA, w_Mna, w_Iret, w_Zret, w_Cret, w_Bret, w_Lret, w_AretR, w_AretN, w_Vret, w_Obj, w_IfNN, w_IfNR, w_Copy, w_Cln, w_Cast, w_SfA, w_SfI, w_SfQ, w_Str, w_ScLd, w_ScLen, w_CV0, w_CS0, w_CV1, w_CS1, w_CV2, w_CS2, w_CV3, w_CS3, w_CV4, w_CS4, w_CV5, w_CS5, List.getElem?_cons_zero, List.getElem?_cons_succ, List.set_cons_zero, List.set_cons_succ, List.length_cons, List.length_nil, List.map_cons, List.map_nil, List.sum_cons, List.sum_nil, List.nil_append, List.cons_append, Option.toList_some, Option.toList_none, Value.category, xok, va_rf, true_and, and_true, and_self, Nat.reduceAdd, Nat.reduceLT, Nat.reduceLeDiff, Nat.reduceEqDiff, Nat.reduceMul, beq_self_eq_true, decide_true, ite_true, ite_false, if_true, if_false, reduceIte, Bool.true_eq_false, Bool.false_eq_true, eq_self_iff_true, Nat.zero_le, not_true_eq_false, not_false_eq_true, forall_const, false_implies, implies_true, forall_false, hC4.all, g2, ne10, ne10L, ne01, ne01L, tt_imp, nt_imp, ff_imp, nf_imp, true_and, and_true, true_or, or_true, reduceIte]
      refine SP.mono (gs8 hST4) ?_
      rintro ⟨v5, G5⟩ hr
      have hk' := gSum_ok (b := b) (len := len) (od := false) rfl 8 (nxB b len p) c nxB_le.1
      cases hgr : gSum b len false 8 (nxB b len p) c with
      | error e =>
        rw [hgr] at hr
        obtain ⟨rfl, f2, h2⟩ := hr
        have ee : gLawH b len p c = .error e := by unfold gLawH; rw [hw]; dsimp only; rw [if_pos q2, hgr]
        rw [ee]
        simp only [Option.toList_some, List.cons_append, List.nil_append, w_iadd, w_isub, w_imul, w_iand, w_ior, w_ixor, w_ishl, w_ishr, w_iushr, w_idiv, w_irem, w_ineg, w_ladd, w_lsub, w_lmul, w_ldiv, w_lrem, w_i2l, w_l2i, w_i2c, w_lcmp, w_dup_int, w_pop_int, w_dup_ref, w_pop_ref, w_dup_retAddr, w_pop_retAddr, w_dup2, w_I, w_L, w_Null, w_Ild, w_Lld, w_Ald, w_Ist, w_Lst, w_Ast, w_Iinc, w_if_eq, w_icmp_eq, w_if_ne, w_icmp_ne, w_if_lt, w_icmp_lt, w_if_ge, w_icmp_ge, w_if_gt, w_icmp_gt, w_if_le, w_icmp_le, w_GetI, w_GetL, w_GetR, w_PutI, w_PutZ, w_PutL, w_PutR, w_PutN, w_Iald, w_Zald, w_Lald, w_Aald, w_Iast, w_Zast, w_Last, w_AastR, w_AastN, w_Alen, w_New, w_NewA, w_Mna, w_Iret, w_Zret, w_Cret, w_Bret, w_Lret, w_AretR, w_AretN, w_Vret, w_Obj, w_IfNN, w_IfNR, w_Copy, w_Cln, w_Cast, w_SfA, w_SfI, w_SfQ, w_Str, w_ScLd, w_ScLen, w_CV0, w_CS0, w_CV1, w_CS1, w_CV2, w_CS2, w_CV3, w_CS3, w_CV4, w_CS4, w_CV5, w_CS5, List.getElem?_cons_zero, List.getElem?_cons_succ, List.set_cons_zero, List.set_cons_succ, List.length_cons, List.length_nil, List.map_cons, List.map_nil, List.sum_cons, List.sum_nil, List.nil_append, List.cons_append, Option.toList_some, Option.toList_none, Value.category, xok, va_rf, true_and, and_true, and_self, Nat.reduceAdd, Nat.reduceLT, Nat.reduceLeDiff, Nat.reduceEqDiff, Nat.reduceMul, beq_self_eq_true, decide_true, ite_true, ite_false, if_true, if_false, reduceIte, Bool.true_eq_false, Bool.false_eq_true, eq_self_iff_true, Nat.zero_le, not_true_eq_false, not_false_eq_true, forall_const, false_implies, implies_true, forall_false, ne10, ne10L, ne01, ne01L, tt_imp, nt_imp, ff_imp, nf_imp, true_and, and_true, true_or, or_true, reduceIte]
        exact hend 0 G5 _ _ ⟨_, rfl⟩ f2 (fun e' he => by cases he; exact ⟨rfl, h2⟩) (fun H hH => by cases hH)
      | ok s =>
        rw [hgr] at hr hk'
        obtain ⟨rfl, f2, hlow, sz', hs', hSTs, hOK⟩ := hr
        dsimp only at f2 hlow hSTs hOK hk'
        have ee : gLawH b len p c = .ok (s.1, s.2.1, k, s.2.2, none, 1) := by unfold gLawH; rw [hw]; dsimp only; rw [if_pos q2, hgr]
        rw [ee]
        simp only [Option.toList_some, List.cons_append, List.nil_append, k_Grammar_lawClause_62, w_iadd, w_isub, w_imul, w_iand, w_ior, w_ixor, w_ishl, w_ishr, w_iushr, w_idiv, w_irem, w_ineg, w_ladd, w_lsub, w_lmul, w_ldiv, w_lrem, w_i2l, w_l2i, w_i2c, w_lcmp, w_dup_int, w_pop_int, w_dup_ref, w_pop_ref, w_dup_retAddr, w_pop_retAddr, w_dup2, w_I, w_L, w_Null, w_Ild, w_Lld, w_Ald, w_Ist, w_Lst, w_Ast, w_Iinc, w_if_eq, w_icmp_eq, w_if_ne, w_icmp_ne, w_if_lt, w_icmp_lt, w_if_ge, w_icmp_ge, w_if_gt, w_icmp_gt, w_if_le, w_icmp_le, w_GetI, w_GetL, w_GetR, w_PutI, w_PutZ, w_PutL, w_PutR, w_PutN, w_Iald, w_Zald, w_Lald, w_Aald, w_Iast, w_Zast, w_Last, w_AastR, w_AastN, w_Alen, w_New, w_NewA, w_Mna, w_Iret, w_Zret, w_Cret, w_Bret, w_Lret, w_AretR, w_AretN, w_Vret, w_Obj, w_IfNN, w_IfNR, w_Copy, w_Cln, w_Cast, w_SfA, w_SfI, w_SfQ, w_Str, w_ScLd, w_ScLen, w_CV0, w_CS0, w_CV1, w_CS1, w_CV2, w_CS2, w_CV3, w_CS3, w_CV4, w_CS4, w_CV5, w_CS5, List.getElem?_cons_zero, List.getElem?_cons_succ, List.set_cons_zero, List.set_cons_succ, List.length_cons, List.length_nil, List.map_cons, List.map_nil, List.sum_cons, List.sum_nil, List.nil_append, List.cons_append, Option.toList_some, Option.toList_none, Value.category, xok, va_rf, true_and, and_true, and_self, Nat.reduceAdd, Nat.reduceLT, Nat.reduceLeDiff, Nat.reduceEqDiff, Nat.reduceMul, beq_self_eq_true, decide_true, ite_true, ite_false, if_true, if_false, reduceIte, Bool.true_eq_false, Bool.false_eq_true, eq_self_iff_true, Nat.zero_le, not_true_eq_false, not_false_eq_true, forall_const, false_implies, implies_true, forall_false, ne10, ne10L, ne01, ne01L, tt_imp, nt_imp, ff_imp, nf_imp, true_and, and_true, true_or, or_true, reduceIte]
        refine hend 1 G5 _ _ ⟨_, rfl⟩ f2 (fun e' he => by cases he) (fun H hH => ?_)
        cases hH
        exact ⟨rfl, hlow, rfl, rfl, rfl, by show p < s.1; omega, sz', by show sz' + p ≤ sz + s.1; omega, hSTs, Or.inl ⟨hOK.1.1, _, by omega, hOK⟩⟩
    · have g2 : ((2 : Int32) < nI k) = True := eq_true (by rw [show (2 : Int32) = nI 2 from rfl, nl_lt (by omega) (by omega)]; omega)
      have ee : gLawH b len p c = .ok (nxB b len p, c, k, f1, none, 1) := by unfold gLawH; rw [hw]; dsimp only; rw [if_neg q2]
      rw [ee]
      simp only [k_Grammar_lawClause_62, w_iadd, w_isub, w_imul, w_iand, w_ior, w_ixor, w_ishl, w_ishr, w_iushr, w_idiv, w_irem, w_ineg, w_ladd, w_lsub, w_lmul, w_ldiv, w_lrem, w_i2l, w_l2i, w_i2c, w_lcmp, w_dup_int, w_pop_int, w_dup_ref, w_pop_ref, w_dup_retAddr, w_pop_retAddr, w_dup2, w_I, w_L, w_Null, w_Ild, w_Lld, w_Ald, w_Ist, w_Lst, w_Ast, w_Iinc, w_if_eq, w_icmp_eq, w_if_ne, w_icmp_ne, w_if_lt, w_icmp_lt, w_if_ge, w_icmp_ge, w_if_gt, w_icmp_gt, w_if_le, w_icmp_le, w_GetI, w_GetL, w_GetR, w_PutI, w_PutZ, w_PutL, w_PutR, w_PutN, w_Iald, w_Zald, w_Lald, w_Aald, w_Iast, w_Zast, w_Last, w_AastR, w_AastN, w_Alen, w_New, w_NewA, w_Mna, w_Iret, w_Zret, w_Cret, w_Bret, w_Lret, w_AretR, w_AretN, w_Vret, w_Obj, w_IfNN, w_IfNR, w_Copy, w_Cln, w_Cast, w_SfA, w_SfI, w_SfQ, w_Str, w_ScLd, w_ScLen, w_CV0, w_CS0, w_CV1, w_CS1, w_CV2, w_CS2, w_CV3, w_CS3, w_CV4, w_CS4, w_CV5, w_CS5, List.getElem?_cons_zero, List.getElem?_cons_succ, List.set_cons_zero, List.set_cons_succ, List.length_cons, List.length_nil, List.map_cons, List.map_nil, List.sum_cons, List.sum_nil, List.nil_append, List.cons_append, Option.toList_some, Option.toList_none, Value.category, xok, va_rf, true_and, and_true, and_self, Nat.reduceAdd, Nat.reduceLT, Nat.reduceLeDiff, Nat.reduceEqDiff, Nat.reduceMul, beq_self_eq_true, decide_true, ite_true, ite_false, if_true, if_false, reduceIte, Bool.true_eq_false, Bool.false_eq_true, eq_self_iff_true, Nat.zero_le, not_true_eq_false, not_false_eq_true, forall_const, false_implies, implies_true, forall_false, hC4.all, g2, ne10, ne10L, ne01, ne01L, tt_imp, nt_imp, ff_imp, nf_imp, true_and, and_true, true_or, or_true, reduceIte]
      refine hend 1 G4 _ _ ⟨_, rfl⟩ Fr.refl (fun e' he => by cases he) (fun H hH => ?_)
      cases hH
      exact ⟨rfl, fun _ _ => rfl, rfl, rfl, rfl, npl, sz, by show sz + p ≤ sz + nxB b len p; omega, hST4, Or.inr ⟨rfl, rfl⟩⟩
