/-- what is paid by the words -/
def pwF (T : Nat → (Nat → Int64) → Option Int64) (hl : Bool) (x : Nat → Int32) : Int32 := if lafF T hl x then 0 else wepF T x
/-- the words if a letter held so much grief -/
def inW (R : Nat → Int32) (w l g : Nat) : Nat → Int32 := wdF R w (nI g) (R (57 + 7 * l + 1)) (R (57 + 7 * l + 2)) 1
def inC (f : Nat → Int32) (p : Int32) : Nat → Nat
  | 0 => 0
  | g + 1 => inC f p g + (if f g = p then 1 else 0)
def inI (f : Nat → Int32) (p i : Int32) : Nat → Int32
  | 0 => -1
  | g + 1 => if f g = p ∧ nI (inC f p g) = i then nI g else inI f p i g
theorem inC_le {f : Nat → Int32} {p : Int32} : ∀ g, inC f p g ≤ g
  | 0 => Nat.le_refl _
  | g + 1 => by
    have := inC_le (f := f) (p := p) g
    rw [inC]
    split <;> omega
theorem inC_mono {f : Nat → Int32} {p : Int32} {g : Nat} : ∀ d, inC f p g ≤ inC f p (g + d)
  | 0 => Nat.le_refl _
  | d + 1 => by
    have := inC_mono (f := f) (p := p) (g := g) d
    rw [← Nat.add_assoc, inC]
    split <;> omega
/-- the i-th is the only one -/
theorem inI_uni {f : Nat → Int32} {p i : Int32} {g : Nat} (hg : g < 40) (h1 : f g = p) (h2 : nI (inC f p g) = i) : ∀ d, g + 1 + d < 40 → inI f p i (g + 1 + d) = nI g
  | 0, _ => by
    show inI f p i (g + 1) = _
    rw [inI, if_pos ⟨h1, h2⟩]
  | d + 1, h => by
    rw [← Nat.add_assoc, inI, if_neg]
    · exact inI_uni hg h1 h2 d (by omega)
    · rintro ⟨-, q⟩
      have a := inC_mono (f := f) (p := p) (g := g + 1) d
      have b : inC f p (g + 1) = inC f p g + 1 := by rw [inC, if_pos h1]
      have c := inC_le (f := f) (p := p) (g + 1 + d)
      rw [← h2] at q
      have := (nI_eq (by omega) (by omega)).mp q
      omega
theorem hd_in {R : Nat → Int32} {w l g : Nat} (hw : w < 8) : hdF (up R (57 + 7 * l) (nI g)) w l none = inW R w l g := by
  have e0 : ltS (up R (57 + 7 * l) (nI g)) l none 0 = nI g := up_eq
  have e1 : ltS (up R (57 + 7 * l) (nI g)) l none 1 = R (57 + 7 * l + 1) := up_ne (by omega)
  have e2 : ltS (up R (57 + 7 * l) (nI g)) l none 2 = R (57 + 7 * l + 2) := up_ne (by omega)
  unfold hdF inW
  rw [e0, e1, e2]
  funext k
  unfold wdF
  rw [up_ne (j := 9 + 6 * w) (by omega), up_ne (j := 11 + 6 * w) (by omega), up_ne (j := 12 + 6 * w) (by omega), up_ne (j := 5) (by omega), up_ne (j := 7) (by omega)]
  rfl
theorem inW_B {R : Nat → Int32} {nr nl c : Nat} (h : RW R nr nl c) (hc : c ≤ 500000) {w l g : Nat} (hw : w < nr) (hl : l < nl) (hg : g ≤ 30) : Bw (inW R w l g) := by
  obtain ⟨l1, l2, l3, -⟩ := h.2.2.2.2.2.2.2.2.2 l hl
  unfold inW
  rw [show 57 + 7 * l + 1 = 58 + 7 * l by omega, show 57 + 7 * l + 2 = 59 + 7 * l by omega]
  exact wdF_B h hc hw (nI_B (by omega)) (l2.B (by omega)) (l3.1.B (by omega)) (nI_B (n := 1) (by omega))
theorem s_inside {G : XH} {R : Nat → Int32} {T : Nat → (Nat → Int64) → Option Int64} {hl : Bool} (h : MX G R T hl) {nr nl c l w : Nat} (hR : RW R nr nl c) (hc : c ≤ 500000) (hl1 : l < nl) (hw : w < nr) (hwo : R (60 + 7 * l) = nI w) (p i : Int32) : SP D_Mdl_inside [.ref 70, .int (nI l), .int p, .int i] G (fun q => q.1 = some (.int (if i = -1 then nI (inC (fun g => pwF T hl (inW R w l g)) p 31) else inI (fun g => pwF T hl (inW R w l g)) p i 31)) ∧ hpI q.2 72 = R ∧ Fr WB G q.2) := by
  have hM := h.1
  have h0 := h.t0
  have nr8 := hR.2.1
  have nl12 := hR.2.2.2.1
  have hil := fun Q => s_isLetter h0.1 Q (nI l)
  rw [h0.2.2.1] at hil
  have hin := nI_rg hl1 (show nl < 2147483648 by omega)
  have e0 : 57 + 7 * nI l + 0 = nI (57 + 7 * l) := by rw [cI_57, cI_7, cI_0, nI_mul, nI_add, nI_add]; rfl
  have p0 : 0 ≤ nI (57 + 7 * l) := nI_pos' (by omega)
  have c0 : (nI (57 + 7 * l)).toNatClampNeg = 57 + 7 * l := nI_clamp (by omega)
  have l0 : 57 + 7 * l < 5580 := by omega
  rw [e_Mdl_inside]
  simp only [k_Mdl_inside_0, w_iadd, w_isub, w_imul, w_iand, w_ior, w_ixor, w_ishl, w_ishr, w_iushr, w_idiv, w_irem, w_ineg, w_ladd, w_lsub, w_lmul, w_ldiv, w_lrem, w_i2l, w_l2i, w_i2c, w_lcmp, w_dup_int, w_pop_int, w_dup_ref, w_pop_ref, w_dup_retAddr, w_pop_retAddr, w_dup2, w_I, w_L, w_Null, w_Ild, w_Lld, w_Ald, w_Ist, w_Lst, w_Ast, w_Iinc, w_if_eq, w_icmp_eq, w_if_ne, w_icmp_ne, w_if_lt, w_icmp_lt, w_if_ge, w_icmp_ge, w_if_gt, w_icmp_gt, w_if_le, w_icmp_le, w_GetI, w_GetL, w_GetR, w_PutI, w_PutZ, w_PutL, w_PutR, w_PutN, w_Iald, w_Zald, w_Lald, w_Aald, w_Iast, w_Zast, w_Last, w_AastR, w_AastN, w_Alen, w_New, w_NewA, w_Mna, w_Iret, w_Zret, w_Cret, w_Bret, w_Lret, w_AretR, w_AretN, w_Vret, w_Obj, w_IfNN, w_IfNR, w_Copy, w_Cln, w_Cast, w_SfA, w_SfI, w_SfQ, w_Str, w_ScLd, w_ScLen, w_CV0, w_CS0, w_CV1, w_CS1, w_CV2, w_CS2, w_CV3, w_CS3, w_CV4, w_CS4, w_CV5, w_CS5, List.getElem?_cons_zero, List.getElem?_cons_succ, List.set_cons_zero, List.set_cons_succ, List.length_cons, List.length_nil, List.map_cons, List.map_nil, List.sum_cons, List.sum_nil, List.nil_append, List.cons_append, Option.toList_some, Option.toList_none, Value.category, xok, va_rf, true_and, and_true, and_self, Nat.reduceAdd, Nat.reduceLT, Nat.reduceLeDiff, Nat.reduceEqDiff, Nat.reduceMul, beq_self_eq_true, decide_true, ite_true, ite_false, if_true, if_false, reduceIte, Bool.true_eq_false, Bool.false_eq_true, eq_self_iff_true, Nat.zero_le, not_true_eq_false, not_false_eq_true, forall_const, false_implies, implies_true, forall_false, stI_C, stI_N, stI_Z, stI_S, stI_L, stI_R, stL_C, stL_N, stL_Z, stL_S, stL_I, stL_R, stR_C, stR_N, stR_Z, stR_S, stR_I, stR_L, stA_C, stA_N, stA_Z, stA_S, stA_L, stA_R, stI_I, stL_L, stR_R, stA_I, stN_C, stN_N, stN_Z, stN_S, stN_I, stN_L, stN_R, stI_ne, stL_ne, stR_ne, hM.all, hil, hR.2.2.1, hin, xin, e0, p0, c0, l0, h.2.2.1, ne10, ne10L, ne01, ne01L, tt_imp, nt_imp, ff_imp, nf_imp, true_and, and_true, true_or, or_true, reduceIte]
  unfold k_Mdl_inside_44
  obtain ⟨F, hF⟩ : ∃ F : Nat → Int32, F = fun g => pwF T hl (inW R w l g) := ⟨_, rfl⟩
  rw [← hF]
  refine w_loop (fun mm A' st G' => ∃ g o9, g ≤ 31 ∧ mm = 31 - g ∧ A' = [some (.ref 70), some (.int (nI l)), some (.int p), some (.int i), some (.int (nI (57 + 7 * l))), some (.int (R (57 + 7 * l))), some (.int (nI (inC F p g))), some (.int (inI F p i g)), some (.int (nI g)), o9] ∧ st = [] ∧ ∃ G1 x, Fr WB G G1 ∧ MX G1 R T hl ∧ G' = stA G1 72 (up R (57 + 7 * l) x)) ?_ NF 31 _ _ _ (by decide) ⟨0, none, by omega, rfl, rfl, rfl, stI G 70 0 0, R (57 + 7 * l), fr0, h0, by rw [up_same, ← h0.2.2.1, stA_same]⟩
  rintro mm A' st G' K ⟨g, o9, hg, rfl, rfl, rfl, G1, x, hf1, hX1, rfl⟩ ih
  have hM1 := hX1.1
  by_cases hg31 : g < 31
  · have gg : ¬ (31 : Int32) ≤ nI g := fun q => absurd ((nI_leI (a := 31) (by decide) (by omega)).mp q) (by omega)
    have hX2 : MX (stA G1 72 (up R (57 + 7 * l) (nI g))) (up R (57 + 7 * l) (nI g)) T hl := ⟨MS_stA.mpr hM1, (by rw [hpI_stA_ne (by decide)]; exact hX1.2.1), hpI_stA, hX1.2.2.2.1.same (SL.refl.up (by omega)), hX1.2.2.2.2⟩
    have hwp : inW R w l g = hdF (up R (57 + 7 * l) (nI g)) w l none := (hd_in (by omega)).symm
    have hB := inW_B hR hc hw hl1 (show g ≤ 30 by omega)
    have hHC : HC (up R (57 + 7 * l) (nI g)) w l none := by
      refine ⟨by omega, by omega, (fun k hk => by cases hk), ?_, ?_, ?_⟩
      · rw [up_ne (by omega)]; exact hwo
      · rw [← hwp]; exact hB
      · show In (up R (57 + 7 * l) (nI g) (57 + 7 * l)) 60
        rw [up_eq]
        exact ⟨g, by omega, rfl⟩
    have hnext : ∀ {G2 : XH} {v : Int32}, v = F g → Fr WL (stA G1 72 (up R (57 + 7 * l) (nI g))) G2 ∨ Fr WH (stA G1 72 (up R (57 + 7 * l) (nI g))) G2 → WP (k_Mdl_inside_81 K) [some (.ref 70), some (.int (nI l)), some (.int p), some (.int i), some (.int (nI (57 + 7 * l))), some (.int (R (57 + 7 * l))), some (.int (nI (inC F p g))), some (.int (inI F p i g)), some (.int (nI g)), o9] [.int v] G2 (fun q => q.1 = some (.int (if i = -1 then nI (inC F p 31) else inI F p i 31)) ∧ hpI q.2 72 = R ∧ Fr WB G q.2) := by
      intro G2 v hv hf2'
      have hf2 : Fr WH (stA G1 72 (up R (57 + 7 * l) (nI g))) G2 := hf2'.elim (fun z => z.mono WL_WH) id
      subst hv
      have hr2 : hpI G2 72 = up R (57 + 7 * l) (nI g) := (hf2.IA _ (fun _ => rfl)).trans hpI_stA
      have hff : ∀ f, Fr WB G (stA G2 72 f) := fun f => ((hf1.wA (fun k q => absurd q (by unfold WB WHM WR; simp))).trans (hf2.mono WH_WB)).wA (fun k q => absurd q (by unfold WB WHM WR; simp))
      have hmx : MX (stA G2 72 R) R T hl := ⟨(MS_stA.mpr (hf2.ms (MS_stA.mpr hM1))), (by rw [hpI_stA_ne (by decide), hf2.I rfl, hpI_stA_ne (by decide)]; exact hX1.2.1), hpI_stA, hX1.2.2.2⟩
      have hG2 : G2 = stA (stA G2 72 R) 72 (up R (57 + 7 * l) (nI g)) := by rw [stA_stA, ← hr2, stA_same]
      have step : ∀ {a7 a6 : Int32} {o9 : Option Value}, a6 = nI (inC F p (g + 1)) → a7 = inI F p i (g + 1) → WP K [some (.ref 70), some (.int (nI l)), some (.int p), some (.int i), some (.int (nI (57 + 7 * l))), some (.int (R (57 + 7 * l))), some (.int a6), some (.int a7), some (.int (nI g + Int32.ofInt 1)), o9] [] G2 (fun q => q.1 = some (.int (if i = -1 then nI (inC F p 31) else inI F p i 31)) ∧ hpI q.2 72 = R ∧ Fr WB G q.2) := by
        intro a7 a6 o9 h6 h7
        refine ih (31 - (g + 1)) _ _ _ (by omega) ⟨g + 1, o9, by omega, rfl, by rw [h6, h7, show nI g + Int32.ofInt 1 = nI (g + 1) from nI_1 g], rfl, stA G2 72 R, nI g, hff R, hmx, hG2⟩
      have ec : nI (inC F p g) + Int32.ofInt 1 = nI (inC F p g + 1) := nI_1 _
      simp only [k_Mdl_inside_81, k_Mdl_inside_102, k_Mdl_inside_107, w_iadd, w_isub, w_imul, w_iand, w_ior, w_ixor, w_ishl, w_ishr, w_iushr, w_idiv, w_irem, w_ineg, w_ladd, w_lsub, w_lmul, w_ldiv, w_lrem, w_i2l, w_l2i, w_i2c, w_lcmp, w_dup_int, w_pop_int, w_dup_ref, w_pop_ref, w_dup_retAddr, w_pop_retAddr, w_dup2, w_I, w_L, w_Null, w_Ild, w_Lld, w_Ald, w_Ist, w_Lst, w_Ast, w_Iinc, w_if_eq, w_icmp_eq, w_if_ne, w_icmp_ne, w_if_lt, w_icmp_lt, w_if_ge, w_icmp_ge, w_if_gt, w_icmp_gt, w_if_le, w_icmp_le, w_GetI, w_GetL, w_GetR, w_PutI, w_PutZ, w_PutL, w_PutR, w_PutN, w_Iald, w_Zald, w_Lald, w_Aald, w_Iast, w_Zast, w_Last, w_AastR, w_AastN, w_Alen, w_New, w_NewA, w_Mna, w_Iret, w_Zret, w_Cret, w_Bret, w_Lret, w_AretR, w_AretN, w_Vret, w_Obj, w_IfNN, w_IfNR, w_Copy, w_Cln, w_Cast, w_SfA, w_SfI, w_SfQ, w_Str, w_ScLd, w_ScLen, w_CV0, w_CS0, w_CV1, w_CS1, w_CV2, w_CS2, w_CV3, w_CS3, w_CV4, w_CS4, w_CV5, w_CS5, List.getElem?_cons_zero, List.getElem?_cons_succ, List.set_cons_zero, List.set_cons_succ, List.length_cons, List.length_nil, List.map_cons, List.map_nil, List.sum_cons, List.sum_nil, List.nil_append, List.cons_append, Option.toList_some, Option.toList_none, Value.category, xok, va_rf, true_and, and_true, and_self, Nat.reduceAdd, Nat.reduceLT, Nat.reduceLeDiff, Nat.reduceEqDiff, Nat.reduceMul, beq_self_eq_true, decide_true, ite_true, ite_false, if_true, if_false, reduceIte, Bool.true_eq_false, Bool.false_eq_true, eq_self_iff_true, Nat.zero_le, not_true_eq_false, not_false_eq_true, forall_const, false_implies, implies_true, forall_false, ec]
      refine ⟨fun q1 => ⟨fun q2 => ?_, fun q2 => ?_⟩, fun q1 => ?_⟩
      · exact step (by rw [inC, if_pos q1]) (by rw [inI, if_pos ⟨q1, q2⟩])
      · exact step (by rw [inC, if_pos q1]) (by rw [inI, if_neg (fun z => q2 z.2)])
      · exact step (by rw [inC, if_neg q1]; rfl) (by rw [inI, if_neg (fun z => q1 z.1)])
    simp only [f_Mdl_inside_44, w_iadd, w_isub, w_imul, w_iand, w_ior, w_ixor, w_ishl, w_ishr, w_iushr, w_idiv, w_irem, w_ineg, w_ladd, w_lsub, w_lmul, w_ldiv, w_lrem, w_i2l, w_l2i, w_i2c, w_lcmp, w_dup_int, w_pop_int, w_dup_ref, w_pop_ref, w_dup_retAddr, w_pop_retAddr, w_dup2, w_I, w_L, w_Null, w_Ild, w_Lld, w_Ald, w_Ist, w_Lst, w_Ast, w_Iinc, w_if_eq, w_icmp_eq, w_if_ne, w_icmp_ne, w_if_lt, w_icmp_lt, w_if_ge, w_icmp_ge, w_if_gt, w_icmp_gt, w_if_le, w_icmp_le, w_GetI, w_GetL, w_GetR, w_PutI, w_PutZ, w_PutL, w_PutR, w_PutN, w_Iald, w_Zald, w_Lald, w_Aald, w_Iast, w_Zast, w_Last, w_AastR, w_AastN, w_Alen, w_New, w_NewA, w_Mna, w_Iret, w_Zret, w_Cret, w_Bret, w_Lret, w_AretR, w_AretN, w_Vret, w_Obj, w_IfNN, w_IfNR, w_Copy, w_Cln, w_Cast, w_SfA, w_SfI, w_SfQ, w_Str, w_ScLd, w_ScLen, w_CV0, w_CS0, w_CV1, w_CS1, w_CV2, w_CS2, w_CV3, w_CS3, w_CV4, w_CS4, w_CV5, w_CS5, List.getElem?_cons_zero, List.getElem?_cons_succ, List.set_cons_zero, List.set_cons_succ, List.length_cons, List.length_nil, List.map_cons, List.map_nil, List.sum_cons, List.sum_nil, List.nil_append, List.cons_append, Option.toList_some, Option.toList_none, Value.category, xok, va_rf, true_and, and_true, and_self, Nat.reduceAdd, Nat.reduceLT, Nat.reduceLeDiff, Nat.reduceEqDiff, Nat.reduceMul, beq_self_eq_true, decide_true, ite_true, ite_false, if_true, if_false, reduceIte, Bool.true_eq_false, Bool.false_eq_true, eq_self_iff_true, Nat.zero_le, not_true_eq_false, not_false_eq_true, forall_const, false_implies, implies_true, forall_false, stI_C, stI_N, stI_Z, stI_S, stI_L, stI_R, stL_C, stL_N, stL_Z, stL_S, stL_I, stL_R, stR_C, stR_N, stR_Z, stR_S, stR_I, stR_L, stA_C, stA_N, stA_Z, stA_S, stA_L, stA_R, stI_I, stL_L, stR_R, stA_I, stN_C, stN_N, stN_Z, stN_S, stN_I, stN_L, stN_R, stI_ne, stL_ne, stR_ne, hM1.all, gg, xin, p0, c0, l0, stI_stU, up_up, ne10, ne10L, ne01, ne01L, tt_imp, nt_imp, ff_imp, nf_imp, true_and, and_true, true_or, or_true, reduceIte]
    refine SP.mono (s_lay (o := none) hX2 hHC) ?_
    rintro ⟨v, G2⟩ ⟨rfl, hf2, hL2, hX3⟩
    dsimp only at hf2 hL2 hX3
    have hM2 := hX3.1
    simp only [w_iadd, w_isub, w_imul, w_iand, w_ior, w_ixor, w_ishl, w_ishr, w_iushr, w_idiv, w_irem, w_ineg, w_ladd, w_lsub, w_lmul, w_ldiv, w_lrem, w_i2l, w_l2i, w_i2c, w_lcmp, w_dup_int, w_pop_int, w_dup_ref, w_pop_ref, w_dup_retAddr, w_pop_retAddr, w_dup2, w_I, w_L, w_Null, w_Ild, w_Lld, w_Ald, w_Ist, w_Lst, w_Ast, w_Iinc, w_if_eq, w_icmp_eq, w_if_ne, w_icmp_ne, w_if_lt, w_icmp_lt, w_if_ge, w_icmp_ge, w_if_gt, w_icmp_gt, w_if_le, w_icmp_le, w_GetI, w_GetL, w_GetR, w_PutI, w_PutZ, w_PutL, w_PutR, w_PutN, w_Iald, w_Zald, w_Lald, w_Aald, w_Iast, w_Zast, w_Last, w_AastR, w_AastN, w_Alen, w_New, w_NewA, w_Mna, w_Iret, w_Zret, w_Cret, w_Bret, w_Lret, w_AretR, w_AretN, w_Vret, w_Obj, w_IfNN, w_IfNR, w_Copy, w_Cln, w_Cast, w_SfA, w_SfI, w_SfQ, w_Str, w_ScLd, w_ScLen, w_CV0, w_CS0, w_CV1, w_CS1, w_CV2, w_CS2, w_CV3, w_CS3, w_CV4, w_CS4, w_CV5, w_CS5, List.getElem?_cons_zero, List.getElem?_cons_succ, List.set_cons_zero, List.set_cons_succ, List.length_cons, List.length_nil, List.map_cons, List.map_nil, List.sum_cons, List.sum_nil, List.nil_append, List.cons_append, Option.toList_some, Option.toList_none, Value.category, xok, va_rf, true_and, and_true, and_self, Nat.reduceAdd, Nat.reduceLT, Nat.reduceLeDiff, Nat.reduceEqDiff, Nat.reduceMul, beq_self_eq_true, decide_true, ite_true, ite_false, if_true, if_false, reduceIte, Bool.true_eq_false, Bool.false_eq_true, eq_self_iff_true, Nat.zero_le, not_true_eq_false, not_false_eq_true, forall_const, false_implies, implies_true, forall_false, hM2.all]
    refine SP.mono (s_laughs (hX3.ak hL2.1) hL2.2.2.1 hL2.2.2.2) ?_
    rintro ⟨v, G3⟩ ⟨rfl, hf3⟩
    dsimp only at hf3
    have hX4 := hX3.fr hf3 rfl (fun _ => rfl)
    have hM3 := hX4.1
    have hFg : F g = if lafF T hl (hdF (up R (57 + 7 * l) (nI g)) w l none) then 0 else wepF T (hdF (up R (57 + 7 * l) (nI g)) w l none) := by rw [hF, ← hwp]; rfl
    cases hlg : lafF T hl (hdF (up R (57 + 7 * l) (nI g)) w l none) with
    | true =>
      rw [hlg] at hFg
      simp only [w_iadd, w_isub, w_imul, w_iand, w_ior, w_ixor, w_ishl, w_ishr, w_iushr, w_idiv, w_irem, w_ineg, w_ladd, w_lsub, w_lmul, w_ldiv, w_lrem, w_i2l, w_l2i, w_i2c, w_lcmp, w_dup_int, w_pop_int, w_dup_ref, w_pop_ref, w_dup_retAddr, w_pop_retAddr, w_dup2, w_I, w_L, w_Null, w_Ild, w_Lld, w_Ald, w_Ist, w_Lst, w_Ast, w_Iinc, w_if_eq, w_icmp_eq, w_if_ne, w_icmp_ne, w_if_lt, w_icmp_lt, w_if_ge, w_icmp_ge, w_if_gt, w_icmp_gt, w_if_le, w_icmp_le, w_GetI, w_GetL, w_GetR, w_PutI, w_PutZ, w_PutL, w_PutR, w_PutN, w_Iald, w_Zald, w_Lald, w_Aald, w_Iast, w_Zast, w_Last, w_AastR, w_AastN, w_Alen, w_New, w_NewA, w_Mna, w_Iret, w_Zret, w_Cret, w_Bret, w_Lret, w_AretR, w_AretN, w_Vret, w_Obj, w_IfNN, w_IfNR, w_Copy, w_Cln, w_Cast, w_SfA, w_SfI, w_SfQ, w_Str, w_ScLd, w_ScLen, w_CV0, w_CS0, w_CV1, w_CS1, w_CV2, w_CS2, w_CV3, w_CS3, w_CV4, w_CS4, w_CV5, w_CS5, List.getElem?_cons_zero, List.getElem?_cons_succ, List.set_cons_zero, List.set_cons_succ, List.length_cons, List.length_nil, List.map_cons, List.map_nil, List.sum_cons, List.sum_nil, List.nil_append, List.cons_append, Option.toList_some, Option.toList_none, Value.category, xok, va_rf, true_and, and_true, and_self, Nat.reduceAdd, Nat.reduceLT, Nat.reduceLeDiff, Nat.reduceEqDiff, Nat.reduceMul, beq_self_eq_true, decide_true, ite_true, ite_false, if_true, if_false, reduceIte, Bool.true_eq_false, Bool.false_eq_true, eq_self_iff_true, Nat.zero_le, not_true_eq_false, not_false_eq_true, forall_const, false_implies, implies_true, forall_false, hM3.all, ne10, ne10L, ne01, ne01L, tt_imp, nt_imp, ff_imp, nf_imp, true_and, and_true, true_or, or_true, reduceIte]
      exact hnext (by rw [hFg]; rfl) (Or.inr (hf2.trans (hf3.mono WL_WH)))
    | false =>
      rw [hlg] at hFg
      simp only [w_iadd, w_isub, w_imul, w_iand, w_ior, w_ixor, w_ishl, w_ishr, w_iushr, w_idiv, w_irem, w_ineg, w_ladd, w_lsub, w_lmul, w_ldiv, w_lrem, w_i2l, w_l2i, w_i2c, w_lcmp, w_dup_int, w_pop_int, w_dup_ref, w_pop_ref, w_dup_retAddr, w_pop_retAddr, w_dup2, w_I, w_L, w_Null, w_Ild, w_Lld, w_Ald, w_Ist, w_Lst, w_Ast, w_Iinc, w_if_eq, w_icmp_eq, w_if_ne, w_icmp_ne, w_if_lt, w_icmp_lt, w_if_ge, w_icmp_ge, w_if_gt, w_icmp_gt, w_if_le, w_icmp_le, w_GetI, w_GetL, w_GetR, w_PutI, w_PutZ, w_PutL, w_PutR, w_PutN, w_Iald, w_Zald, w_Lald, w_Aald, w_Iast, w_Zast, w_Last, w_AastR, w_AastN, w_Alen, w_New, w_NewA, w_Mna, w_Iret, w_Zret, w_Cret, w_Bret, w_Lret, w_AretR, w_AretN, w_Vret, w_Obj, w_IfNN, w_IfNR, w_Copy, w_Cln, w_Cast, w_SfA, w_SfI, w_SfQ, w_Str, w_ScLd, w_ScLen, w_CV0, w_CS0, w_CV1, w_CS1, w_CV2, w_CS2, w_CV3, w_CS3, w_CV4, w_CS4, w_CV5, w_CS5, List.getElem?_cons_zero, List.getElem?_cons_succ, List.set_cons_zero, List.set_cons_succ, List.length_cons, List.length_nil, List.map_cons, List.map_nil, List.sum_cons, List.sum_nil, List.nil_append, List.cons_append, Option.toList_some, Option.toList_none, Value.category, xok, va_rf, true_and, and_true, and_self, Nat.reduceAdd, Nat.reduceLT, Nat.reduceLeDiff, Nat.reduceEqDiff, Nat.reduceMul, beq_self_eq_true, decide_true, ite_true, ite_false, if_true, if_false, reduceIte, Bool.true_eq_false, Bool.false_eq_true, eq_self_iff_true, Nat.zero_le, not_true_eq_false, not_false_eq_true, forall_const, false_implies, implies_true, forall_false, hM3.all, ne10, ne10L, ne01, ne01L, tt_imp, nt_imp, ff_imp, nf_imp, true_and, and_true, true_or, or_true, reduceIte]
      refine SP.mono (s_wp hX4 hHC (hL2.fr hf3)) ?_
      rintro ⟨v, G4⟩ ⟨rfl, hf4⟩
      dsimp only at hf4
      simp only [List.getElem?_cons_zero, List.getElem?_cons_succ, List.set_cons_zero, List.set_cons_succ, List.length_cons, List.length_nil, List.map_cons, List.map_nil, List.sum_cons, List.sum_nil, List.nil_append, List.cons_append, Option.toList_some, Option.toList_none, Value.category, xok, va_rf, true_and, and_true, and_self, Nat.reduceAdd, Nat.reduceLT, Nat.reduceLeDiff, Nat.reduceEqDiff, Nat.reduceMul, beq_self_eq_true, decide_true, ite_true, ite_false, if_true, if_false, reduceIte, Bool.true_eq_false, Bool.false_eq_true, eq_self_iff_true, Nat.zero_le, not_true_eq_false, not_false_eq_true, forall_const, false_implies, implies_true, forall_false]
      exact hnext (by rw [hFg]; rfl) (Or.inr ((hf2.trans (hf3.mono WL_WH)).trans (hf4.mono WL_WH)))
  · have e31 : g = 31 := by omega
    subst e31
    have gg : (31 : Int32) ≤ nI 31 := by decide
    have hff : Fr WB G (stA G1 72 R) := hf1.wA (fun k q => absurd q (by unfold WB WHM WR; simp))
    simp only [f_Mdl_inside_44, k_Mdl_inside_134, w_iadd, w_isub, w_imul, w_iand, w_ior, w_ixor, w_ishl, w_ishr, w_iushr, w_idiv, w_irem, w_ineg, w_ladd, w_lsub, w_lmul, w_ldiv, w_lrem, w_i2l, w_l2i, w_i2c, w_lcmp, w_dup_int, w_pop_int, w_dup_ref, w_pop_ref, w_dup_retAddr, w_pop_retAddr, w_dup2, w_I, w_L, w_Null, w_Ild, w_Lld, w_Ald, w_Ist, w_Lst, w_Ast, w_Iinc, w_if_eq, w_icmp_eq, w_if_ne, w_icmp_ne, w_if_lt, w_icmp_lt, w_if_ge, w_icmp_ge, w_if_gt, w_icmp_gt, w_if_le, w_icmp_le, w_GetI, w_GetL, w_GetR, w_PutI, w_PutZ, w_PutL, w_PutR, w_PutN, w_Iald, w_Zald, w_Lald, w_Aald, w_Iast, w_Zast, w_Last, w_AastR, w_AastN, w_Alen, w_New, w_NewA, w_Mna, w_Iret, w_Zret, w_Cret, w_Bret, w_Lret, w_AretR, w_AretN, w_Vret, w_Obj, w_IfNN, w_IfNR, w_Copy, w_Cln, w_Cast, w_SfA, w_SfI, w_SfQ, w_Str, w_ScLd, w_ScLen, w_CV0, w_CS0, w_CV1, w_CS1, w_CV2, w_CS2, w_CV3, w_CS3, w_CV4, w_CS4, w_CV5, w_CS5, List.getElem?_cons_zero, List.getElem?_cons_succ, List.set_cons_zero, List.set_cons_succ, List.length_cons, List.length_nil, List.map_cons, List.map_nil, List.sum_cons, List.sum_nil, List.nil_append, List.cons_append, Option.toList_some, Option.toList_none, Value.category, xok, va_rf, true_and, and_true, and_self, Nat.reduceAdd, Nat.reduceLT, Nat.reduceLeDiff, Nat.reduceEqDiff, Nat.reduceMul, beq_self_eq_true, decide_true, ite_true, ite_false, if_true, if_false, reduceIte, Bool.true_eq_false, Bool.false_eq_true, eq_self_iff_true, Nat.zero_le, not_true_eq_false, not_false_eq_true, forall_const, false_implies, implies_true, forall_false, stI_C, stI_N, stI_Z, stI_S, stI_L, stI_R, stL_C, stL_N, stL_Z, stL_S, stL_I, stL_R, stR_C, stR_N, stR_Z, stR_S, stR_I, stR_L, stA_C, stA_N, stA_Z, stA_S, stA_L, stA_R, stI_I, stL_L, stR_R, stA_I, stN_C, stN_N, stN_Z, stN_S, stN_I, stN_L, stN_R, stI_ne, stL_ne, stR_ne, hM1.all, gg, xin, p0, c0, l0, stI_stU, up_up, up_same, hpI_stA, ne10, ne10L, ne01, ne01L, tt_imp, nt_imp, ff_imp, nf_imp, true_and, and_true, true_or, or_true, reduceIte]
    by_cases hi : i = -1
    · simp only [hi, List.getElem?_cons_zero, List.getElem?_cons_succ, List.set_cons_zero, List.set_cons_succ, List.length_cons, List.length_nil, List.map_cons, List.map_nil, List.sum_cons, List.sum_nil, List.nil_append, List.cons_append, Option.toList_some, Option.toList_none, Value.category, xok, va_rf, true_and, and_true, and_self, Nat.reduceAdd, Nat.reduceLT, Nat.reduceLeDiff, Nat.reduceEqDiff, Nat.reduceMul, beq_self_eq_true, decide_true, ite_true, ite_false, if_true, if_false, reduceIte, Bool.true_eq_false, Bool.false_eq_true, eq_self_iff_true, Nat.zero_le, not_true_eq_false, not_false_eq_true, forall_const, false_implies, implies_true, forall_false, ne10, ne10L, ne01, ne01L, tt_imp, nt_imp, ff_imp, nf_imp, true_and, and_true, true_or, or_true, reduceIte]
      exact hff
    · simp only [hi, List.getElem?_cons_zero, List.getElem?_cons_succ, List.set_cons_zero, List.set_cons_succ, List.length_cons, List.length_nil, List.map_cons, List.map_nil, List.sum_cons, List.sum_nil, List.nil_append, List.cons_append, Option.toList_some, Option.toList_none, Value.category, xok, va_rf, true_and, and_true, and_self, Nat.reduceAdd, Nat.reduceLT, Nat.reduceLeDiff, Nat.reduceEqDiff, Nat.reduceMul, beq_self_eq_true, decide_true, ite_true, ite_false, if_true, if_false, reduceIte, Bool.true_eq_false, Bool.false_eq_true, eq_self_iff_true, Nat.zero_le, not_true_eq_false, not_false_eq_true, forall_const, false_implies, implies_true, forall_false, ne10, ne10L, ne01, ne01L, tt_imp, nt_imp, ff_imp, nf_imp, true_and, and_true, true_or, or_true, reduceIte]
      exact hff
