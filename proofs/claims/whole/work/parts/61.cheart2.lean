theorem BIG_i : BIG.toInt = 1000000000 := by decide +kernel
theorem BRK_i : BRK.toInt = -2000000000 := by decide +kernel
theorem BRK_1 : (BRK = 1) = False := by
  apply eq_false
  intro h
  have := congrArg Int32.toInt h
  rw [BRK_i] at this
  exact absurd this (by decide)
theorem nBIG_i : (-BIG).toInt = -1000000000 := by decide +kernel
theorem b32 {v : Int64} (h1 : -BIG ≤ v) (h2 : v ≤ BIG) : v.toInt32.toInt = v.toInt := by
  have g1 := Int64.le_iff_toInt_le.mp h1
  have g2 := Int64.le_iff_toInt_le.mp h2
  rw [BIG_i] at g2
  rw [nBIG_i] at g1
  rw [Int64.toInt_toInt32]
  apply Int.bmod_eq_of_le <;> omega
theorem b32_ne {v : Int64} (h1 : -BIG ≤ v) (h2 : v ≤ BIG) : ¬ v.toInt32 = BRK := by
  intro h
  have g1 := Int64.le_iff_toInt_le.mp h1
  rw [nBIG_i] at g1
  have := congrArg Int32.toInt h
  rw [b32 h1 h2, BRK_i] at this
  omega
theorem wt_c {v : Int64} {m : Int32} (h1 : -BIG ≤ v) (h2 : v ≤ BIG) (hm : 0 ≤ m) : (if (if m ≤ v.toInt32 then m else v.toInt32) ≤ 0 then 0 else (if m ≤ v.toInt32 then m else v.toInt32)) = wtF v 0 m := by
  have e := b32 h1 h2
  have hm' := Int32.le_iff_toInt_le.mp hm
  have z : (0 : Int32).toInt = 0 := by decide
  unfold wtF
  simp only [Int64.lt_iff_toInt_lt, Int32.le_iff_toInt_le, Int32.toInt_toInt64, z] at hm' ⊢
  by_cases a1 : v.toInt < 0
  · rw [if_pos a1]
    by_cases a2 : m.toInt ≤ v.toInt32.toInt
    · omega
    · rw [if_neg a2, if_pos (by omega)]
  · rw [if_neg a1]
    by_cases a2 : m.toInt < v.toInt
    · have a4 : m.toInt ≤ v.toInt32.toInt := by omega
      rw [if_pos a2, if_pos a4]
      by_cases a3 : m.toInt ≤ 0
      · rw [if_pos a3]
        apply Int32.toInt_inj.mp
        omega
      · rw [if_neg a3]
    · rw [if_neg a2]
      by_cases a4 : m.toInt ≤ v.toInt32.toInt
      · have : m = v.toInt32 := Int32.toInt_inj.mp (by omega)
        rw [if_pos a4]
        by_cases a3 : m.toInt ≤ 0
        · rw [if_pos a3]
          apply Int32.toInt_inj.mp
          omega
        · rw [if_neg a3]
          exact this
      · rw [if_neg a4]
        by_cases a3 : v.toInt32.toInt ≤ 0
        · rw [if_pos a3]
          apply Int32.toInt_inj.mp
          omega
        · rw [if_neg a3]
theorem wt_ge {v : Int64} {m : Int32} (hm : 0 ≤ m) : 0 ≤ wtF v 0 m := by
  have hm' := Int32.le_iff_toInt_le.mp hm
  have z : (0 : Int32).toInt = 0 := by decide
  have hb := Int32.toInt_lt m
  unfold wtF
  split
  · exact Int32.le_refl _
  · rename_i a1
    split
    · exact hm
    · rename_i a2
      rw [Int32.le_iff_toInt_le]
      simp only [Int64.lt_iff_toInt_lt, Int32.toInt_toInt64, z] at a1 a2 hm' ⊢
      rw [Int64.toInt_toInt32, Int.bmod_eq_of_le (by omega) (by omega)]
      omega
theorem wt_n1 {v : Int64} {m : Int32} (hm : 0 ≤ m) : (wtF v 0 m = -1) = False := by
  apply eq_false
  intro h
  have := wt_ge (v := v) hm
  rw [h] at this
  exact absurd this (by decide)
theorem c_run2 {G : XH} (hC : CS G) {t cd rw lim n wa nw : Nat} (hX : TX G t cd rw lim n) (c w p q : Nat) (hc : c < n) (hw : w < 5) (hp : hpI G rw (6 * c + w) = nI p) (hq : hpI G rw (6 * c + w + 1) = nI q) (I : Nat → Nat × Nat) (hql : q ≤ lim) (hpq : p ≤ q) (hF : FW I q) (hI : ∀ k, k < q → CI (hpI G cd k) (I k) ∧ ((I k).1 = 1 → (I k).2 < nw) ∧ ((I k).1 = 11 ∨ (I k).1 = 12 → (I k).2 ≤ 400)) (hwa : hpC G wa = 20) (hnw : hpN G wa = nw) (hn4 : nw < 400) (f : (Nat → Int64) → Option Int64) (hS : p < q → ∃ h, h < 64 ∧ Sem I p q h f) (hE : p = q → ∀ e, f e = some 1) (env : Nat → Int64) (henv : ∀ w, w < nw → env w = (hpI G wa w).toInt64) : SP D_Machine_run [.ref 54, .ref t, .int (nI c), .int (nI w), .ref wa] G (fun r => r.1 = some (.int (match f env with
    | none => BRK
    | some v => v.toInt32)) ∧ Fr WK G r.2) := by
  rcases Nat.lt_or_ge p q with g | g
  · obtain ⟨h, h1, h2⟩ := hS g
    exact c_run hC hX c w p q hc hw hp hq I hql hpq hF hI hwa hnw hn4 h f h2 h1 env henv
  · have e : p = q := by omega
    subst e
    rw [hE rfl env]
    have hX0 := hX
    obtain ⟨h1, h2, h3, h4, h5, h6, h7, h8, h9, h10, h11⟩ := hX
    have t1 := fun Q => c_told hX0 c w hc (by omega) Q
    have t2 := fun Q => c_told hX0 c (w + 1) hc (by omega) Q
    have ew : nI w + 1 = nI (w + 1) := nI_1 w
    rw [e_Machine_run]
    simp only [k_Machine_run_0, w_iadd, w_isub, w_imul, w_iand, w_ior, w_ixor, w_ishl, w_ishr, w_iushr, w_idiv, w_irem, w_ineg, w_ladd, w_lsub, w_lmul, w_ldiv, w_lrem, w_i2l, w_l2i, w_i2c, w_lcmp, w_dup_int, w_pop_int, w_dup_ref, w_pop_ref, w_dup_retAddr, w_pop_retAddr, w_dup2, w_I, w_L, w_Null, w_Ild, w_Lld, w_Ald, w_Ist, w_Lst, w_Ast, w_Iinc, w_if_eq, w_icmp_eq, w_if_ne, w_icmp_ne, w_if_lt, w_icmp_lt, w_if_ge, w_icmp_ge, w_if_gt, w_icmp_gt, w_if_le, w_icmp_le, w_GetI, w_GetL, w_GetR, w_PutI, w_PutZ, w_PutL, w_PutR, w_PutN, w_Iald, w_Zald, w_Lald, w_Aald, w_Iast, w_Zast, w_Last, w_AastR, w_AastN, w_Alen, w_New, w_NewA, w_Mna, w_Iret, w_Zret, w_Cret, w_Bret, w_Lret, w_AretR, w_AretN, w_Vret, w_Obj, w_IfNN, w_IfNR, w_Copy, w_Cln, w_Cast, w_SfA, w_SfI, w_SfQ, w_Str, w_ScLd, w_ScLen, w_CV0, w_CS0, w_CV1, w_CS1, w_CV2, w_CS2, w_CV3, w_CS3, w_CV4, w_CS4, w_CV5, w_CS5, List.getElem?_cons_zero, List.getElem?_cons_succ, List.set_cons_zero, List.set_cons_succ, List.length_cons, List.length_nil, List.map_cons, List.map_nil, List.sum_cons, List.sum_nil, List.nil_append, List.cons_append, Option.toList_some, Option.toList_none, Value.category, xok, va_rf, true_and, and_true, and_self, Nat.reduceAdd, Nat.reduceLT, Nat.reduceLeDiff, Nat.reduceEqDiff, Nat.reduceMul, beq_self_eq_true, decide_true, ite_true, ite_false, if_true, if_false, reduceIte, Bool.true_eq_false, Bool.false_eq_true, eq_self_iff_true, Nat.zero_le, not_true_eq_false, not_false_eq_true, forall_const, false_implies, implies_true, forall_false, h1, t1, t2, ew, hp, show 6 * c + (w + 1) = 6 * c + w + 1 from rfl, hq]
    unfold k_Machine_run_24
    refine w_loop (fun m A st' G' => m = 0 ∧ st' = [] ∧ A = [some (.ref 54), some (.ref t), some (.int (nI c)), some (.int (nI w)), some (.ref wa), some (.int (nI p)), some (.int (nI p)), some (.int 0), some (.int 0), none, none, none, none, none, none] ∧ G' = G) ?_ NF 0 _ _ _ (by decide) ⟨rfl, rfl, rfl, rfl⟩
    rintro m A st' G' K ⟨rfl, rfl, rfl, rfl⟩ ih
    have g0 : ¬ (400 : Int32) ≤ 0 := by decide
    have g1 : nI p ≤ nI p := Int32.le_refl _
    have g2 : (0 : Int32) ≤ 0 := by decide
    simp only [f_Machine_run_24, k_Machine_run_475, k_Machine_run_494, w_iadd, w_isub, w_imul, w_iand, w_ior, w_ixor, w_ishl, w_ishr, w_iushr, w_idiv, w_irem, w_ineg, w_ladd, w_lsub, w_lmul, w_ldiv, w_lrem, w_i2l, w_l2i, w_i2c, w_lcmp, w_dup_int, w_pop_int, w_dup_ref, w_pop_ref, w_dup_retAddr, w_pop_retAddr, w_dup2, w_I, w_L, w_Null, w_Ild, w_Lld, w_Ald, w_Ist, w_Lst, w_Ast, w_Iinc, w_if_eq, w_icmp_eq, w_if_ne, w_icmp_ne, w_if_lt, w_icmp_lt, w_if_ge, w_icmp_ge, w_if_gt, w_icmp_gt, w_if_le, w_icmp_le, w_GetI, w_GetL, w_GetR, w_PutI, w_PutZ, w_PutL, w_PutR, w_PutN, w_Iald, w_Zald, w_Lald, w_Aald, w_Iast, w_Zast, w_Last, w_AastR, w_AastN, w_Alen, w_New, w_NewA, w_Mna, w_Iret, w_Zret, w_Cret, w_Bret, w_Lret, w_AretR, w_AretN, w_Vret, w_Obj, w_IfNN, w_IfNR, w_Copy, w_Cln, w_Cast, w_SfA, w_SfI, w_SfQ, w_Str, w_ScLd, w_ScLen, w_CV0, w_CS0, w_CV1, w_CS1, w_CV2, w_CS2, w_CV3, w_CS3, w_CV4, w_CS4, w_CV5, w_CS5, List.getElem?_cons_zero, List.getElem?_cons_succ, List.set_cons_zero, List.set_cons_succ, List.length_cons, List.length_nil, List.map_cons, List.map_nil, List.sum_cons, List.sum_nil, List.nil_append, List.cons_append, Option.toList_some, Option.toList_none, Value.category, xok, va_rf, true_and, and_true, and_self, Nat.reduceAdd, Nat.reduceLT, Nat.reduceLeDiff, Nat.reduceEqDiff, Nat.reduceMul, beq_self_eq_true, decide_true, ite_true, ite_false, if_true, if_false, reduceIte, Bool.true_eq_false, Bool.false_eq_true, eq_self_iff_true, Nat.zero_le, not_true_eq_false, not_false_eq_true, forall_const, false_implies, implies_true, forall_false, g0, g1, g2, ne10, ne10L, ne01, ne01L, tt_imp, nt_imp, ff_imp, nf_imp, true_and, and_true, true_or, or_true, reduceIte]
    exact ⟨rfl, Fr.refl⟩
