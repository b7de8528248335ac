def MemG (G : XH) (n : Nat) (V : Nat → Nat → Nat → Nat → Nat → Int) : Prop := ∀ p, p < 1024 → hpI G 60 p = -1 ∨ ∃ f d done t turn, done < 2 ^ n ∧ t ≤ 999 ∧ turn < 2 ∧ popN done n = d ∧ d + f = n ∧ 0 < f ∧ hpI G 60 p = nI (2 * (1000 * done + t) + turn) ∧ hpI G 61 p = zI (V f d done t turn)
theorem MemG.fr {G G' : XH} {n : Nat} {V : Nat → Nat → Nat → Nat → Nat → Int} (h : MemG G n V) (hf : Fr WRo G G') : MemG G' n V := by
  intro p hp
  rw [hf.I rfl, hf.I rfl]
  exact h p hp
abbrev sdO (R : Nat → Int32) (lt : Nat → Nat) : Nat → Nat := fun k => (R (61 + 7 * lt k)).toNatClampNeg
abbrev GVo (T : Nat → (Nat → Int64) → Option Int64) (hl : Bool) (R : Nat → Int32) (w n : Nat) (lt : Nat → Nat) : Nat → Nat → Nat → Nat → Nat → Int := gmV n (fun d t k => brO T R w false d t (lt k)) (fun d t k => pyO T hl R w false d t (lt k)) (fun d t k => afO T R w false d t (lt k)) (sdO R lt)
abbrev GMo (T : Nat → (Nat → Int64) → Option Int64) (hl : Bool) (R : Nat → Int32) (w n : Nat) (lt : Nat → Nat) : Nat → Nat → Nat → Nat → Nat → Option (Int × Nat) := gmM n (fun d t k => brO T R w false d t (lt k)) (fun d t k => pyO T hl R w false d t (lt k)) (fun d t k => afO T R w false d t (lt k)) (sdO R lt)
def GLS (F : XD) (R : Nat → Int32) (T : Nat → (Nat → Int64) → Option Int64) (hl : Bool) (w n : Nat) (lt : Nat → Nat) (V : Nat → Nat → Nat → Nat → Nat → Int) (f : Nat) : Prop := ∀ G d done t turn, SX G R T hl w → SLt G n lt → MemG G n V → done < 2 ^ n → popN done n = d → d + f = n → t ≤ 999 → turn < 2 → 0 < d → SP F [.ref 58, .int (nI done), .int (nI t), .int (nI turn), .int (nI d)] G (fun r => r.1 = some (.int (zI (V f d done t turn))) ∧ Fr WSe G r.2 ∧ MemG r.2 n V ∧ hpI r.2 58 9 = hpI G 58 9)
def GMS (NT : Int32) (F : XD) (R : Nat → Int32) (T : Nat → (Nat → Int64) → Option Int64) (hl : Bool) (w n : Nat) (lt : Nat → Nat) (V : Nat → Nat → Nat → Nat → Nat → Int) (Mv : Nat → Nat → Nat → Nat → Nat → Option (Int × Nat)) (f : Nat) : Prop := ∀ G d done t who, SX G R T hl w → SLt G n lt → MemG G n V → done < 2 ^ n → popN done n = d → d + (f + 1) = n → t ≤ 999 → who < 2 → SP F [.ref 58, .int (nI done), .int (nI t), .int (nI who), .int (nI d)] G (fun r => r.1 = some (.int (beI NT (Mv f d done t who))) ∧ Fr WSe G r.2 ∧ MemG r.2 n V ∧ hpI r.2 58 9 = fiI d lt (hpI G 58 9) (Mv f d done t who))
theorem c_moves {NT : Int32} (hk107 : k_Search_leadOfMoves_107 = fun Q K7 => (xIst 9 (xIld 5 (xI NT (xicmp_eq (k_Search_leadOfMoves_137 Q K7) (xIld 3 (xif_ne (xIld 9 (xIld 5 (xicmp_ge (k_Search_leadOfMoves_164 Q K7) (k_Search_leadOfMoves_137 Q K7)))) (xIld 9 (xIld 5 (xicmp_le (k_Search_leadOfMoves_164 Q K7) (k_Search_leadOfMoves_137 Q K7))))))))))) (hk0 : k_Search_leadOfMoves_0 = fun Q => (xI NT (xIst 5 (xI 0 (xIst 6 (k_Search_leadOfMoves_7 Q)))))) (hNT : ∀ z : Int, -100000 ≤ z → z ≤ 100000 → (zI z = NT) = False) {D : Nat → XD} {R : Nat → Int32} {T : Nat → (Nat → Int64) → Option Int64} {hl : Bool} {w n : Nat} {lt : Nat → Nat} {nr nl c : Nat} (hR : RW R nr nl c) (hc : c ≤ 500000) (hw : w < nr) (hn : n ≤ 8) (hlt : ∀ k, k < n → lt k < nl) {f : Nat} (hD : GLS (D 0) R T hl w n lt (GVo T hl R w n lt) f) : GMS NT (D_Search_leadOfMoves D) R T hl w n lt (GVo T hl R w n lt) (GMo T hl R w n lt) f := by
  intro G d done t who hX hS hMe hdone hpop hdf ht hwho
  obtain ⟨V, hV⟩ : ∃ V, V = GVo T hl R w n lt := ⟨_, rfl⟩
  obtain ⟨ok, hok⟩ : ∃ ok : Nat → Bool, ok = fun k => !brO T R w false d t (lt k) && decide (sdO R lt k = who) := ⟨_, rfl⟩
  obtain ⟨v, hv⟩ : ∃ v : Nat → Int, v = fun k => V f (d + 1) (done ||| 2 ^ k) (afO T R w false d t (lt k)) (1 - who) + sgZ who (pyO T hl R w false d t (lt k)) := ⟨_, rfl⟩
  have hMv : GMo T hl R w n lt f d done t who = gmF done ok v who n := by rw [hok, hv, hV]; rfl
  rw [hMv]
  rw [← hV] at hMe hD ⊢
  have nl12 := hR.2.2.2.1
  have hpy : ∀ d t k, t ≤ 999 → k < n → pyO T hl R w false d t (lt k) ≤ 999 := fun d t k h1 h2 => (pyO_le hR hw (hlt k h2) h1).1
  have hVok : ∀ (f d done t turn : Nat), t ≤ 999 → -(999 * (f : Int)) ≤ V f d done t turn ∧ V f d done t turn ≤ 999 * (f : Int) := by rw [hV]; exact gmV_ok hpy (fun d t k => afO_le.1)
  have hvk : ∀ k, k < n → -100000 ≤ v k ∧ v k ≤ 100000 := by
    intro k hk
    have h1 := hVok f (d + 1) (done ||| 2 ^ k) _ (1 - who) (afO_le (T := T) (R := R) (w := w) (dg := false) (d := d) (t := t) (l := lt k)).1
    have h2 := hpy d t k ht hk
    rw [hv]
    show -100000 ≤ _ + sgZ _ _ ∧ _ + sgZ _ _ ≤ _
    unfold sgZ
    split <;> omega
  have hmok := gmF_ok (done := done) (ok := ok) (who := who) (B := 100000) hvk
  have h2n : 2 ^ n ≤ 256 := Nat.pow_le_pow_right (n := 2) (by decide) hn
  obtain ⟨F0, hF0⟩ : ∃ F0, F0 = hpI G 58 9 := ⟨_, rfl⟩
  rw [← hF0, e_Search_leadOfMoves, hk0]
  simp only [w_iadd, w_isub, w_imul, w_iand, w_ior, w_ixor, w_ishl, w_ishr, w_iushr, w_idiv, w_irem, w_ineg, w_ladd, w_lsub, w_lmul, w_ldiv, w_lrem, w_i2l, w_l2i, w_i2c, w_lcmp, w_dup_int, w_pop_int, w_dup_ref, w_pop_ref, w_dup_retAddr, w_pop_retAddr, w_dup2, w_I, w_L, w_Null, w_Ild, w_Lld, w_Ald, w_Ist, w_Lst, w_Ast, w_Iinc, w_if_eq, w_icmp_eq, w_if_ne, w_icmp_ne, w_if_lt, w_icmp_lt, w_if_ge, w_icmp_ge, w_if_gt, w_icmp_gt, w_if_le, w_icmp_le, w_GetI, w_GetL, w_GetR, w_PutI, w_PutZ, w_PutL, w_PutR, w_PutN, w_Iald, w_Zald, w_Lald, w_Aald, w_Iast, w_Zast, w_Last, w_AastR, w_AastN, w_Alen, w_New, w_NewA, w_Mna, w_Iret, w_Zret, w_Cret, w_Bret, w_Lret, w_AretR, w_AretN, w_Vret, w_Obj, w_IfNN, w_IfNR, w_Copy, w_Cln, w_Cast, w_SfA, w_SfI, w_SfQ, w_Str, w_ScLd, w_ScLen, w_CV0, w_CS0, w_CV1, w_CS1, w_CV2, w_CS2, w_CV3, w_CS3, w_CV4, w_CS4, w_CV5, w_CS5, List.getElem?_cons_zero, List.getElem?_cons_succ, List.set_cons_zero, List.set_cons_succ, List.length_cons, List.length_nil, List.map_cons, List.map_nil, List.sum_cons, List.sum_nil, List.nil_append, List.cons_append, Option.toList_some, Option.toList_none, Value.category, xok, va_rf, true_and, and_true, and_self, Nat.reduceAdd, Nat.reduceLT, Nat.reduceLeDiff, Nat.reduceEqDiff, Nat.reduceMul, beq_self_eq_true, decide_true, ite_true, ite_false, if_true, if_false, reduceIte, Bool.true_eq_false, Bool.false_eq_true, eq_self_iff_true, Nat.zero_le, not_true_eq_false, not_false_eq_true, forall_const, false_implies, implies_true, forall_false]
  unfold k_Search_leadOfMoves_7
  refine w_loop (fun mm A' st G' => ∃ k, k ≤ n ∧ mm = n - k ∧ (∃ a7 a8 a9, A' = [some (.ref 58), some (.int (nI done)), some (.int (nI t)), some (.int (nI who)), some (.int (nI d)), some (.int (beI NT (gmF done ok v who k))), some (.int (nI k)), a7, a8, a9]) ∧ st = [] ∧ Fr WSe G G' ∧ MemG G' n V ∧ hpI G' 58 9 = fiI d lt F0 (gmF done ok v who k)) ?_ NF n _ _ _ (by unfold NF; omega) ⟨0, by omega, rfl, ⟨none, none, none, rfl⟩, rfl, Fr.refl, hMe, by
    rw [← hF0]
    unfold fiI
    split <;> rfl⟩
  rintro mm A' st G' K ⟨k, hk, rfl, ⟨a7, a8, a9, rfl⟩, rfl, hf, hMe', h9⟩ ih
  have hX' := hX.fr hf
  have hS' := hS.fr hf
  have hC' := hX'.1
  have h5 := hS'.1
  by_cases hkn : k < n
  · have g : ¬ nI n ≤ nI k := fun q => absurd ((nI_leI (by omega) (by omega)).mp q) (by omega)
    obtain ⟨s1, s2, s3⟩ : ∃ s, s ≤ 1 ∧ R (61 + 7 * lt k) = nI s := (hR.2.2.2.2.2.2.2.2.2 (lt k) (hlt k hkn)).2.2.2.2.1
    have hsd : sdO R lt k = s1 := by show (R (61 + 7 * lt k)).toNatClampNeg = s1; rw [s3, nI_clamp (by omega)]
    have hl12 := hlt k hkn
    have hlk := hS'.2 k hkn
    have e102 : 102 + nI (lt k) = nI (102 + lt k) := nI_add 102 _
    have p1 : 0 ≤ nI (k) := nI_pos' (by omega)
    have c1 : (nI (k)).toNatClampNeg = k := nI_clamp (by omega)
    have l1 : k < 8 := by omega
    have p102 : 0 ≤ nI (102 + lt k) := nI_pos' (by omega)
    have c102 : (nI (102 + lt k)).toNatClampNeg = 102 + lt k := nI_clamp (by omega)
    have l102 : 102 + lt k < 138 := by omega
    have v102 : hpI G' 2 (102 + lt k) = nI s1 := by rw [show 102 + lt k = 54 + 12 * 4 + lt k by omega, hX'.2.1.2.2.2.2 (lt k) 4 (by omega) (by omega), show 57 + 7 * lt k + 4 = 61 + 7 * lt k by omega]; exact s3
    have hskip : (!done.testBit k && ok k) = false → ∀ G2 a7 a8 a9, Fr WSe G G2 → MemG G2 n V → hpI G2 58 9 = hpI G' 58 9 → WP (k_Search_leadOfMoves_164 D K) [some (.ref 58), some (.int (nI done)), some (.int (nI t)), some (.int (nI who)), some (.int (nI d)), some (.int (beI NT (gmF done ok v who k))), some (.int (nI k)), a7, a8, a9] [] G2 _ := by
      intro z G2 a7 a8 a9 z1 z2 z3
      have : gmF done ok v who (k + 1) = gmF done ok v who k := by rw [gmF, z]; rfl
      refine lm_164 (ih (n - (k + 1)) _ _ _ (by omega) ⟨k + 1, by omega, rfl, ⟨a7, a8, a9, by rw [this]⟩, rfl, z1, z2, by rw [this, z3]; exact h9⟩)
    cases htb : done.testBit k with
    | true =>
      simp only [f_Search_leadOfMoves_7, w_iadd, w_isub, w_imul, w_iand, w_ior, w_ixor, w_ishl, w_ishr, w_iushr, w_idiv, w_irem, w_ineg, w_ladd, w_lsub, w_lmul, w_ldiv, w_lrem, w_i2l, w_l2i, w_i2c, w_lcmp, w_dup_int, w_pop_int, w_dup_ref, w_pop_ref, w_dup_retAddr, w_pop_retAddr, w_dup2, w_I, w_L, w_Null, w_Ild, w_Lld, w_Ald, w_Ist, w_Lst, w_Ast, w_Iinc, w_if_eq, w_icmp_eq, w_if_ne, w_icmp_ne, w_if_lt, w_icmp_lt, w_if_ge, w_icmp_ge, w_if_gt, w_icmp_gt, w_if_le, w_icmp_le, w_GetI, w_GetL, w_GetR, w_PutI, w_PutZ, w_PutL, w_PutR, w_PutN, w_Iald, w_Zald, w_Lald, w_Aald, w_Iast, w_Zast, w_Last, w_AastR, w_AastN, w_Alen, w_New, w_NewA, w_Mna, w_Iret, w_Zret, w_Cret, w_Bret, w_Lret, w_AretR, w_AretN, w_Vret, w_Obj, w_IfNN, w_IfNR, w_Copy, w_Cln, w_Cast, w_SfA, w_SfI, w_SfQ, w_Str, w_ScLd, w_ScLen, w_CV0, w_CS0, w_CV1, w_CS1, w_CV2, w_CS2, w_CV3, w_CS3, w_CV4, w_CS4, w_CV5, w_CS5, List.getElem?_cons_zero, List.getElem?_cons_succ, List.set_cons_zero, List.set_cons_succ, List.length_cons, List.length_nil, List.map_cons, List.map_nil, List.sum_cons, List.sum_nil, List.nil_append, List.cons_append, Option.toList_some, Option.toList_none, Value.category, xok, va_rf, true_and, and_true, and_self, Nat.reduceAdd, Nat.reduceLT, Nat.reduceLeDiff, Nat.reduceEqDiff, Nat.reduceMul, beq_self_eq_true, decide_true, ite_true, ite_false, if_true, if_false, reduceIte, Bool.true_eq_false, Bool.false_eq_true, eq_self_iff_true, Nat.zero_le, not_true_eq_false, not_false_eq_true, forall_const, false_implies, implies_true, forall_false, stI_C, stI_N, stI_Z, stI_S, stI_L, stI_R, stL_C, stL_N, stL_Z, stL_S, stL_I, stL_R, stR_C, stR_N, stR_Z, stR_S, stR_I, stR_L, stA_C, stA_N, stA_Z, stA_S, stA_L, stA_R, stI_I, stL_L, stR_R, stA_I, stN_C, stN_N, stN_Z, stN_S, stN_I, stN_L, stN_R, stI_ne, stL_ne, stR_ne, hC'.all, h5, g, nx_b1 (show done < 2147483648 by omega) (show k < 32 by omega), htb, ne10, ne10L, ne01, ne01L, tt_imp, nt_imp, ff_imp, nf_imp, true_and, and_true, true_or, or_true, reduceIte]
      exact hskip (by rw [htb]; rfl) G' _ _ _ hf hMe' rfl
    | false =>
      have ews : (nI s1 = nI who) = (s1 = who) := propext (nI_eq (by omega) (by omega))
      by_cases hsw : s1 = who
      · have ews1 := eq_true hsw
        rw [← ews] at ews1
        simp only [f_Search_leadOfMoves_7, w_iadd, w_isub, w_imul, w_iand, w_ior, w_ixor, w_ishl, w_ishr, w_iushr, w_idiv, w_irem, w_ineg, w_ladd, w_lsub, w_lmul, w_ldiv, w_lrem, w_i2l, w_l2i, w_i2c, w_lcmp, w_dup_int, w_pop_int, w_dup_ref, w_pop_ref, w_dup_retAddr, w_pop_retAddr, w_dup2, w_I, w_L, w_Null, w_Ild, w_Lld, w_Ald, w_Ist, w_Lst, w_Ast, w_Iinc, w_if_eq, w_icmp_eq, w_if_ne, w_icmp_ne, w_if_lt, w_icmp_lt, w_if_ge, w_icmp_ge, w_if_gt, w_icmp_gt, w_if_le, w_icmp_le, w_GetI, w_GetL, w_GetR, w_PutI, w_PutZ, w_PutL, w_PutR, w_PutN, w_Iald, w_Zald, w_Lald, w_Aald, w_Iast, w_Zast, w_Last, w_AastR, w_AastN, w_Alen, w_New, w_NewA, w_Mna, w_Iret, w_Zret, w_Cret, w_Bret, w_Lret, w_AretR, w_AretN, w_Vret, w_Obj, w_IfNN, w_IfNR, w_Copy, w_Cln, w_Cast, w_SfA, w_SfI, w_SfQ, w_Str, w_ScLd, w_ScLen, w_CV0, w_CS0, w_CV1, w_CS1, w_CV2, w_CS2, w_CV3, w_CS3, w_CV4, w_CS4, w_CV5, w_CS5, List.getElem?_cons_zero, List.getElem?_cons_succ, List.set_cons_zero, List.set_cons_succ, List.length_cons, List.length_nil, List.map_cons, List.map_nil, List.sum_cons, List.sum_nil, List.nil_append, List.cons_append, Option.toList_some, Option.toList_none, Value.category, xok, va_rf, true_and, and_true, and_self, Nat.reduceAdd, Nat.reduceLT, Nat.reduceLeDiff, Nat.reduceEqDiff, Nat.reduceMul, beq_self_eq_true, decide_true, ite_true, ite_false, if_true, if_false, reduceIte, Bool.true_eq_false, Bool.false_eq_true, eq_self_iff_true, Nat.zero_le, not_true_eq_false, not_false_eq_true, forall_const, false_implies, implies_true, forall_false, stI_C, stI_N, stI_Z, stI_S, stI_L, stI_R, stL_C, stL_N, stL_Z, stL_S, stL_I, stL_R, stR_C, stR_N, stR_Z, stR_S, stR_I, stR_L, stA_C, stA_N, stA_Z, stA_S, stA_L, stA_R, stI_I, stL_L, stR_R, stA_I, stN_C, stN_N, stN_Z, stN_S, stN_I, stN_L, stN_R, stI_ne, stL_ne, stR_ne, hC'.all, h5, g, nx_b1 (show done < 2147483648 by omega) (show k < 32 by omega), htb, xin, p1, c1, l1, p102, c102, l102, hlk, e102, v102, ews1, ne10, ne10L, ne01, ne01L, tt_imp, nt_imp, ff_imp, nf_imp, true_and, and_true, true_or, or_true, reduceIte]
        refine SP.mono (c_readOne hX' hR hc hw hl12 ht (show d ≤ 8 by omega) false) ?_
        rintro ⟨vv, G2⟩ ⟨hf2, rfl, h7⟩
        dsimp only at hf2 h7
        have f02 := hf.trans (hf2.mono WRo_WSe)
        have hM2 := hMe'.fr hf2
        have hX2 := hX.fr f02
        have hS2 := hS.fr f02
        have h92 : hpI G2 58 9 = hpI G' 58 9 := hf2.I rfl
        have hC2 := hX2.1
        cases hbr : brO T R w false d t (lt k) with
        | true =>
          obtain ⟨m1, hm1, hm2⟩ : ∃ m1 : Int32, m1 = (if true = true then -1 else nI (pyO T hl R w false d t (lt k))) ∧ (m1 = -1) = True := ⟨_, rfl, eq_true rfl⟩
          rw [← hm1]
          simp only [Option.toList_some, List.cons_append, List.nil_append, w_iadd, w_isub, w_imul, w_iand, w_ior, w_ixor, w_ishl, w_ishr, w_iushr, w_idiv, w_irem, w_ineg, w_ladd, w_lsub, w_lmul, w_ldiv, w_lrem, w_i2l, w_l2i, w_i2c, w_lcmp, w_dup_int, w_pop_int, w_dup_ref, w_pop_ref, w_dup_retAddr, w_pop_retAddr, w_dup2, w_I, w_L, w_Null, w_Ild, w_Lld, w_Ald, w_Ist, w_Lst, w_Ast, w_Iinc, w_if_eq, w_icmp_eq, w_if_ne, w_icmp_ne, w_if_lt, w_icmp_lt, w_if_ge, w_icmp_ge, w_if_gt, w_icmp_gt, w_if_le, w_icmp_le, w_GetI, w_GetL, w_GetR, w_PutI, w_PutZ, w_PutL, w_PutR, w_PutN, w_Iald, w_Zald, w_Lald, w_Aald, w_Iast, w_Zast, w_Last, w_AastR, w_AastN, w_Alen, w_New, w_NewA, w_Mna, w_Iret, w_Zret, w_Cret, w_Bret, w_Lret, w_AretR, w_AretN, w_Vret, w_Obj, w_IfNN, w_IfNR, w_Copy, w_Cln, w_Cast, w_SfA, w_SfI, w_SfQ, w_Str, w_ScLd, w_ScLen, w_CV0, w_CS0, w_CV1, w_CS1, w_CV2, w_CS2, w_CV3, w_CS3, w_CV4, w_CS4, w_CV5, w_CS5, List.getElem?_cons_zero, List.getElem?_cons_succ, List.set_cons_zero, List.set_cons_succ, List.length_cons, List.length_nil, List.map_cons, List.map_nil, List.sum_cons, List.sum_nil, List.nil_append, List.cons_append, Option.toList_some, Option.toList_none, Value.category, xok, va_rf, true_and, and_true, and_self, Nat.reduceAdd, Nat.reduceLT, Nat.reduceLeDiff, Nat.reduceEqDiff, Nat.reduceMul, beq_self_eq_true, decide_true, ite_true, ite_false, if_true, if_false, reduceIte, Bool.true_eq_false, Bool.false_eq_true, eq_self_iff_true, Nat.zero_le, not_true_eq_false, not_false_eq_true, forall_const, false_implies, implies_true, forall_false, hm2, ne10, ne10L, ne01, ne01L, tt_imp, nt_imp, ff_imp, nf_imp, true_and, and_true, true_or, or_true, reduceIte]
          exact hskip (by rw [hok]; simp [hbr]) G2 _ _ _ f02 hM2 h92
        | false =>
          have hpk := pyO_le (T := T) (hl := hl) (dg := false) (d := d) hR hw hl12 ht
          have h7' := h7 hbr
          have hp1 : (nI (pyO T hl R w false d t (lt k)) = -1) = False := eq_false (nI_ne (by omega))
          have ew : (1 : Int32) - nI who = nI (1 - who) := nI_sub (a := 1) (by omega)
          have ed : nI d + 1 = nI (d + 1) := nI_1 d
          simp only [Option.toList_some, List.cons_append, List.nil_append, k_Search_leadOfMoves_74, w_iadd, w_isub, w_imul, w_iand, w_ior, w_ixor, w_ishl, w_ishr, w_iushr, w_idiv, w_irem, w_ineg, w_ladd, w_lsub, w_lmul, w_ldiv, w_lrem, w_i2l, w_l2i, w_i2c, w_lcmp, w_dup_int, w_pop_int, w_dup_ref, w_pop_ref, w_dup_retAddr, w_pop_retAddr, w_dup2, w_I, w_L, w_Null, w_Ild, w_Lld, w_Ald, w_Ist, w_Lst, w_Ast, w_Iinc, w_if_eq, w_icmp_eq, w_if_ne, w_icmp_ne, w_if_lt, w_icmp_lt, w_if_ge, w_icmp_ge, w_if_gt, w_icmp_gt, w_if_le, w_icmp_le, w_GetI, w_GetL, w_GetR, w_PutI, w_PutZ, w_PutL, w_PutR, w_PutN, w_Iald, w_Zald, w_Lald, w_Aald, w_Iast, w_Zast, w_Last, w_AastR, w_AastN, w_Alen, w_New, w_NewA, w_Mna, w_Iret, w_Zret, w_Cret, w_Bret, w_Lret, w_AretR, w_AretN, w_Vret, w_Obj, w_IfNN, w_IfNR, w_Copy, w_Cln, w_Cast, w_SfA, w_SfI, w_SfQ, w_Str, w_ScLd, w_ScLen, w_CV0, w_CS0, w_CV1, w_CS1, w_CV2, w_CS2, w_CV3, w_CS3, w_CV4, w_CS4, w_CV5, w_CS5, List.getElem?_cons_zero, List.getElem?_cons_succ, List.set_cons_zero, List.set_cons_succ, List.length_cons, List.length_nil, List.map_cons, List.map_nil, List.sum_cons, List.sum_nil, List.nil_append, List.cons_append, Option.toList_some, Option.toList_none, Value.category, xok, va_rf, true_and, and_true, and_self, Nat.reduceAdd, Nat.reduceLT, Nat.reduceLeDiff, Nat.reduceEqDiff, Nat.reduceMul, beq_self_eq_true, decide_true, ite_true, ite_false, if_true, if_false, reduceIte, Bool.true_eq_false, Bool.false_eq_true, eq_self_iff_true, Nat.zero_le, not_true_eq_false, not_false_eq_true, forall_const, false_implies, implies_true, forall_false, hC2.all, hp1, h7', nx_shl (show k < 31 by omega), nx_or, ew, ed, ne10, ne10L, ne01, ne01L, tt_imp, nt_imp, ff_imp, nf_imp, true_and, and_true, true_or, or_true, reduceIte, Bool.false_eq_true]
          refine SP.mono (hD G2 (d + 1) (done ||| 2 ^ k) (afO T R w false d t (lt k)) (1 - who) hX2 hS2 hM2 (Nat.or_lt_two_pow hdone (Nat.pow_lt_pow_right (by decide) hkn)) (by rw [pop_or htb hkn, hpop]) (by omega) afO_le.1 (by omega) (by omega)) ?_
          rintro ⟨vv, G3⟩ ⟨rfl, hf3, hM3, h93⟩
          dsimp only at hf3 hM3 h93
          have f03 := f02.trans hf3
          have hX3 := hX.fr f03
          have hS3 := hS.fr f03
          have hvv := hvk k hkn
          have hgk : gmF done ok v who (k + 1) = updG who (gmF done ok v who k) (v k) k := by rw [gmF, htb, show ok k = true by rw [hok]; simp [hbr, hsd, hsw]]; rfl
          have h107 : ∀ a9, WP (k_Search_leadOfMoves_107 D K) [some (.ref 58), some (.int (nI done)), some (.int (nI t)), some (.int (nI who)), some (.int (nI d)), some (.int (beI NT (gmF done ok v who k))), some (.int (nI k)), some (.int (nI (pyO T hl R w false d t (lt k)))), some (.int (zI (V f (d + 1) (done ||| 2 ^ k) (afO T R w false d t (lt k)) (1 - who)))), a9] [.int (zI (v k))] G3 (fun r => r.1 = some (.int (beI NT (gmF done ok v who n))) ∧ Fr WSe G r.2 ∧ MemG r.2 n V ∧ hpI r.2 58 9 = fiI d lt F0 (gmF done ok v who n)) := by
            intro a9
            refine lm_107 hk107 hNT hX3.1 hkn hn (by omega) hwho hS3 (fun q hq => (hmok k (by omega) q hq).1) hvv.1 hvv.2 (by rw [h93, h92]; exact h9) ?_
            intro G4 hG4 h94 a9
            have f34 : Fr WSe G3 G4 := by
              rcases hG4 with rfl | ⟨x, rfl⟩
              · exact Fr.refl
              · exact Fr.refl.wI rfl
            refine ih (n - (k + 1)) _ _ _ (by omega) ⟨k + 1, by omega, rfl, ⟨_, _, _, by rw [hgk]⟩, rfl, f03.trans f34, ?_, by rw [hgk]; exact h94⟩
            intro p hp
            have i4 : ∀ a, ¬ a = 58 → hpI G4 a = hpI G3 a := by
              intro a ha
              rcases hG4 with rfl | ⟨x, rfl⟩
              · rfl
              · rw [stI_up, hpI_stA_ne ha]
            rw [i4 _ (by decide), i4 _ (by decide)]
            exact hM3 p hp
          have hvd : v k = V f (d + 1) (done ||| 2 ^ k) (afO T R w false d t (lt k)) (1 - who) + sgZ who (pyO T hl R w false d t (lt k)) := by rw [hv]
          by_cases w0 : who = 0
          · have ew0 : (nI who = 0) = True := eq_true (by rw [w0]; rfl)
            have ev : zI (V f (d + 1) (done ||| 2 ^ k) (afO T R w false d t (lt k)) (1 - who)) + nI (pyO T hl R w false d t (lt k)) = zI (v k) := by rw [← zI_n, zI_add, hvd]; unfold sgZ; rw [if_pos w0]
            simp only [Option.toList_some, List.cons_append, List.nil_append, w_iadd, w_isub, w_imul, w_iand, w_ior, w_ixor, w_ishl, w_ishr, w_iushr, w_idiv, w_irem, w_ineg, w_ladd, w_lsub, w_lmul, w_ldiv, w_lrem, w_i2l, w_l2i, w_i2c, w_lcmp, w_dup_int, w_pop_int, w_dup_ref, w_pop_ref, w_dup_retAddr, w_pop_retAddr, w_dup2, w_I, w_L, w_Null, w_Ild, w_Lld, w_Ald, w_Ist, w_Lst, w_Ast, w_Iinc, w_if_eq, w_icmp_eq, w_if_ne, w_icmp_ne, w_if_lt, w_icmp_lt, w_if_ge, w_icmp_ge, w_if_gt, w_icmp_gt, w_if_le, w_icmp_le, w_GetI, w_GetL, w_GetR, w_PutI, w_PutZ, w_PutL, w_PutR, w_PutN, w_Iald, w_Zald, w_Lald, w_Aald, w_Iast, w_Zast, w_Last, w_AastR, w_AastN, w_Alen, w_New, w_NewA, w_Mna, w_Iret, w_Zret, w_Cret, w_Bret, w_Lret, w_AretR, w_AretN, w_Vret, w_Obj, w_IfNN, w_IfNR, w_Copy, w_Cln, w_Cast, w_SfA, w_SfI, w_SfQ, w_Str, w_ScLd, w_ScLen, w_CV0, w_CS0, w_CV1, w_CS1, w_CV2, w_CS2, w_CV3, w_CS3, w_CV4, w_CS4, w_CV5, w_CS5, List.getElem?_cons_zero, List.getElem?_cons_succ, List.set_cons_zero, List.set_cons_succ, List.length_cons, List.length_nil, List.map_cons, List.map_nil, List.sum_cons, List.sum_nil, List.nil_append, List.cons_append, Option.toList_some, Option.toList_none, Value.category, xok, va_rf, true_and, and_true, and_self, Nat.reduceAdd, Nat.reduceLT, Nat.reduceLeDiff, Nat.reduceEqDiff, Nat.reduceMul, beq_self_eq_true, decide_true, ite_true, ite_false, if_true, if_false, reduceIte, Bool.true_eq_false, Bool.false_eq_true, eq_self_iff_true, Nat.zero_le, not_true_eq_false, not_false_eq_true, forall_const, false_implies, implies_true, forall_false, ew0, ev, ne10, ne10L, ne01, ne01L, tt_imp, nt_imp, ff_imp, nf_imp, true_and, and_true, true_or, or_true, reduceIte]
            exact h107 _
          · have ew0 : (nI who = 0) = False := eq_false (fun z => w0 ((nI_eq (b := 0) (by omega) (by decide)).mp z))
            have ev : zI (V f (d + 1) (done ||| 2 ^ k) (afO T R w false d t (lt k)) (1 - who)) - nI (pyO T hl R w false d t (lt k)) = zI (v k) := by rw [← zI_n, zI_sub, hvd]; unfold sgZ; rw [if_neg w0]; rfl
            simp only [Option.toList_some, List.cons_append, List.nil_append, w_iadd, w_isub, w_imul, w_iand, w_ior, w_ixor, w_ishl, w_ishr, w_iushr, w_idiv, w_irem, w_ineg, w_ladd, w_lsub, w_lmul, w_ldiv, w_lrem, w_i2l, w_l2i, w_i2c, w_lcmp, w_dup_int, w_pop_int, w_dup_ref, w_pop_ref, w_dup_retAddr, w_pop_retAddr, w_dup2, w_I, w_L, w_Null, w_Ild, w_Lld, w_Ald, w_Ist, w_Lst, w_Ast, w_Iinc, w_if_eq, w_icmp_eq, w_if_ne, w_icmp_ne, w_if_lt, w_icmp_lt, w_if_ge, w_icmp_ge, w_if_gt, w_icmp_gt, w_if_le, w_icmp_le, w_GetI, w_GetL, w_GetR, w_PutI, w_PutZ, w_PutL, w_PutR, w_PutN, w_Iald, w_Zald, w_Lald, w_Aald, w_Iast, w_Zast, w_Last, w_AastR, w_AastN, w_Alen, w_New, w_NewA, w_Mna, w_Iret, w_Zret, w_Cret, w_Bret, w_Lret, w_AretR, w_AretN, w_Vret, w_Obj, w_IfNN, w_IfNR, w_Copy, w_Cln, w_Cast, w_SfA, w_SfI, w_SfQ, w_Str, w_ScLd, w_ScLen, w_CV0, w_CS0, w_CV1, w_CS1, w_CV2, w_CS2, w_CV3, w_CS3, w_CV4, w_CS4, w_CV5, w_CS5, List.getElem?_cons_zero, List.getElem?_cons_succ, List.set_cons_zero, List.set_cons_succ, List.length_cons, List.length_nil, List.map_cons, List.map_nil, List.sum_cons, List.sum_nil, List.nil_append, List.cons_append, Option.toList_some, Option.toList_none, Value.category, xok, va_rf, true_and, and_true, and_self, Nat.reduceAdd, Nat.reduceLT, Nat.reduceLeDiff, Nat.reduceEqDiff, Nat.reduceMul, beq_self_eq_true, decide_true, ite_true, ite_false, if_true, if_false, reduceIte, Bool.true_eq_false, Bool.false_eq_true, eq_self_iff_true, Nat.zero_le, not_true_eq_false, not_false_eq_true, forall_const, false_implies, implies_true, forall_false, ew0, ev, ne10, ne10L, ne01, ne01L, tt_imp, nt_imp, ff_imp, nf_imp, true_and, and_true, true_or, or_true, reduceIte]
            exact h107 _
      · have ews1 := eq_false hsw
        rw [← ews] at ews1
        simp only [f_Search_leadOfMoves_7, w_iadd, w_isub, w_imul, w_iand, w_ior, w_ixor, w_ishl, w_ishr, w_iushr, w_idiv, w_irem, w_ineg, w_ladd, w_lsub, w_lmul, w_ldiv, w_lrem, w_i2l, w_l2i, w_i2c, w_lcmp, w_dup_int, w_pop_int, w_dup_ref, w_pop_ref, w_dup_retAddr, w_pop_retAddr, w_dup2, w_I, w_L, w_Null, w_Ild, w_Lld, w_Ald, w_Ist, w_Lst, w_Ast, w_Iinc, w_if_eq, w_icmp_eq, w_if_ne, w_icmp_ne, w_if_lt, w_icmp_lt, w_if_ge, w_icmp_ge, w_if_gt, w_icmp_gt, w_if_le, w_icmp_le, w_GetI, w_GetL, w_GetR, w_PutI, w_PutZ, w_PutL, w_PutR, w_PutN, w_Iald, w_Zald, w_Lald, w_Aald, w_Iast, w_Zast, w_Last, w_AastR, w_AastN, w_Alen, w_New, w_NewA, w_Mna, w_Iret, w_Zret, w_Cret, w_Bret, w_Lret, w_AretR, w_AretN, w_Vret, w_Obj, w_IfNN, w_IfNR, w_Copy, w_Cln, w_Cast, w_SfA, w_SfI, w_SfQ, w_Str, w_ScLd, w_ScLen, w_CV0, w_CS0, w_CV1, w_CS1, w_CV2, w_CS2, w_CV3, w_CS3, w_CV4, w_CS4, w_CV5, w_CS5, List.getElem?_cons_zero, List.getElem?_cons_succ, List.set_cons_zero, List.set_cons_succ, List.length_cons, List.length_nil, List.map_cons, List.map_nil, List.sum_cons, List.sum_nil, List.nil_append, List.cons_append, Option.toList_some, Option.toList_none, Value.category, xok, va_rf, true_and, and_true, and_self, Nat.reduceAdd, Nat.reduceLT, Nat.reduceLeDiff, Nat.reduceEqDiff, Nat.reduceMul, beq_self_eq_true, decide_true, ite_true, ite_false, if_true, if_false, reduceIte, Bool.true_eq_false, Bool.false_eq_true, eq_self_iff_true, Nat.zero_le, not_true_eq_false, not_false_eq_true, forall_const, false_implies, implies_true, forall_false, stI_C, stI_N, stI_Z, stI_S, stI_L, stI_R, stL_C, stL_N, stL_Z, stL_S, stL_I, stL_R, stR_C, stR_N, stR_Z, stR_S, stR_I, stR_L, stA_C, stA_N, stA_Z, stA_S, stA_L, stA_R, stI_I, stL_L, stR_R, stA_I, stN_C, stN_N, stN_Z, stN_S, stN_I, stN_L, stN_R, stI_ne, stL_ne, stR_ne, hC'.all, h5, g, nx_b1 (show done < 2147483648 by omega) (show k < 32 by omega), htb, xin, p1, c1, l1, p102, c102, l102, hlk, e102, v102, ews1, ne10, ne10L, ne01, ne01L, tt_imp, nt_imp, ff_imp, nf_imp, true_and, and_true, true_or, or_true, reduceIte]
        exact hskip (by rw [hok]; simp [hsd, hsw]) G' _ _ _ hf hMe' rfl
  · have e : k = n := by omega
    subst e
    have g : nI k ≤ nI k := Int32.le_refl _
    simp only [f_Search_leadOfMoves_7, w_iadd, w_isub, w_imul, w_iand, w_ior, w_ixor, w_ishl, w_ishr, w_iushr, w_idiv, w_irem, w_ineg, w_ladd, w_lsub, w_lmul, w_ldiv, w_lrem, w_i2l, w_l2i, w_i2c, w_lcmp, w_dup_int, w_pop_int, w_dup_ref, w_pop_ref, w_dup_retAddr, w_pop_retAddr, w_dup2, w_I, w_L, w_Null, w_Ild, w_Lld, w_Ald, w_Ist, w_Lst, w_Ast, w_Iinc, w_if_eq, w_icmp_eq, w_if_ne, w_icmp_ne, w_if_lt, w_icmp_lt, w_if_ge, w_icmp_ge, w_if_gt, w_icmp_gt, w_if_le, w_icmp_le, w_GetI, w_GetL, w_GetR, w_PutI, w_PutZ, w_PutL, w_PutR, w_PutN, w_Iald, w_Zald, w_Lald, w_Aald, w_Iast, w_Zast, w_Last, w_AastR, w_AastN, w_Alen, w_New, w_NewA, w_Mna, w_Iret, w_Zret, w_Cret, w_Bret, w_Lret, w_AretR, w_AretN, w_Vret, w_Obj, w_IfNN, w_IfNR, w_Copy, w_Cln, w_Cast, w_SfA, w_SfI, w_SfQ, w_Str, w_ScLd, w_ScLen, w_CV0, w_CS0, w_CV1, w_CS1, w_CV2, w_CS2, w_CV3, w_CS3, w_CV4, w_CS4, w_CV5, w_CS5, List.getElem?_cons_zero, List.getElem?_cons_succ, List.set_cons_zero, List.set_cons_succ, List.length_cons, List.length_nil, List.map_cons, List.map_nil, List.sum_cons, List.sum_nil, List.nil_append, List.cons_append, Option.toList_some, Option.toList_none, Value.category, xok, va_rf, true_and, and_true, and_self, Nat.reduceAdd, Nat.reduceLT, Nat.reduceLeDiff, Nat.reduceEqDiff, Nat.reduceMul, beq_self_eq_true, decide_true, ite_true, ite_false, if_true, if_false, reduceIte, Bool.true_eq_false, Bool.false_eq_true, eq_self_iff_true, Nat.zero_le, not_true_eq_false, not_false_eq_true, forall_const, false_implies, implies_true, forall_false, hC'.all, h5, g, ne10, ne10L, ne01, ne01L, tt_imp, nt_imp, ff_imp, nf_imp, true_and, and_true, true_or, or_true, reduceIte]
    exact ⟨hf, hMe', h9⟩
