/-- the best so far, and one more -/
def updO (o : Option (Nat × Nat)) (v : Option Nat) (k : Nat) : Option (Nat × Nat) := match v with
  | none => o
  | some x => match o with
    | none => some (x, k)
    | some q => if q.1 < x then some (x, k) else some q
def mpF (done : Nat) (b : Nat → Bool) (v : Nat → Option Nat) : Nat → Option (Nat × Nat)
  | 0 => none
  | k + 1 => if done.testBit k || b k then mpF done b v k else updO (mpF done b v k) (v k) k
/-- the most that is paid from here on, and which is to be handed now -/
def mpN (n : Nat) (br : Nat → Nat → Nat → Bool) (py af : Nat → Nat → Nat → Nat) : Nat → Nat → Nat → Nat → Option (Nat × Nat)
  | 0, _, _, _ => some (0, 0)
  | f + 1, d, done, t => mpF done (br d t) (fun k => (mpN n br py af f (d + 1) (done ||| 2 ^ k) (af d t k)).map (fun q => py d t k + q.1)) n
def ansI (o : Option (Nat × Nat)) : Int32 := match o with
  | none => -1
  | some q => nI q.1
def choI (o : Option (Nat × Nat)) : Int32 := match o with
  | none => 0
  | some q => nI q.2
def encI (o : Option (Nat × Nat)) : Int32 := match o with
  | none => -8
  | some q => nI (8 * q.1 + q.2)
theorem mpF_ok {n B done : Nat} {b : Nat → Bool} {v : Nat → Option Nat} (hn : n ≤ 8) (hv : ∀ k x, k < n → v k = some x → x ≤ B) : ∀ k, k ≤ n → ∀ q, mpF done b v k = some q → q.1 ≤ B ∧ q.2 < n
  | 0, _, q, h => by cases h
  | k + 1, hk, q, h => by
    rw [mpF] at h
    split at h
    · exact mpF_ok hn hv k (by omega) q h
    · unfold updO at h
      split at h
      · exact mpF_ok hn hv k (by omega) q h
      · next x hx =>
        have := hv k x (by omega) hx
        split at h
        · cases h
          exact ⟨this, by omega⟩
        · next p hp =>
          split at h
          · cases h
            exact ⟨this, by omega⟩
          · cases h
            exact mpF_ok hn hv k (by omega) q hp
theorem mpN_ok {n : Nat} {br : Nat → Nat → Nat → Bool} {py af : Nat → Nat → Nat → Nat} (hn : n ≤ 8) (hpy : ∀ d t k, t ≤ 999 → k < n → py d t k ≤ 999) (haf : ∀ d t k, af d t k ≤ 999) : ∀ f d done t, t ≤ 999 → ∀ q, mpN n br py af f d done t = some q → q.1 ≤ 999 * f ∧ q.2 < 8
  | 0, d, done, t, _, q, h => by
    cases h
    exact ⟨Nat.le_refl _, by omega⟩
  | f + 1, d, done, t, ht, q, h => by
    rw [mpN] at h
    have := mpF_ok (B := 999 * (f + 1)) hn (fun k x hk hx => by
      cases hm : mpN n br py af f (d + 1) (done ||| 2 ^ k) (af d t k) with
      | none => rw [hm] at hx; cases hx
      | some p =>
        rw [hm] at hx
        cases hx
        have h1 := (mpN_ok hn hpy haf f (d + 1) (done ||| 2 ^ k) (af d t k) (haf d t k) p hm).1
        have h2 := hpy d t k ht hk
        show py d t k + p.1 ≤ _
        omega) n (Nat.le_refl _) q h
    omega
theorem nI_ne {n : Nat} (h : n < 2147483648) : ¬ nI n = -1 := by
  intro q
  have := congrArg Int32.toInt q
  rw [nI_toInt h, show (-1 : Int32).toInt = -1 by decide +kernel] at this
  omega
theorem nI_nle1 {n : Nat} (h : n < 2147483648) : ¬ nI n ≤ -1 := by
  rw [Int32.le_iff_toInt_le, nI_toInt h, show (-1 : Int32).toInt = -1 by decide +kernel]
  omega
theorem c_fm {o : Option (Nat × Nat)} (h : ∀ q, o = some q → q.1 ≤ 100000 ∧ q.2 < 8) (G : XH) (Q : XR → Prop) : SP D_Math_floorMod [.int (encI o), .int 8] G Q = Q (some (.int (choI o)), G) := by
  rw [e_Math_floorMod]
  cases o with
  | none =>
    obtain ⟨a, ha, h1, h2⟩ : ∃ a : Int32, encI none = a ∧ a - a / 8 * 8 = 0 ∧ ¬ 0 ≤ a ^^^ 8 := ⟨_, rfl, by decide +kernel, by decide +kernel⟩
    rw [ha]
    have e8 : ¬ (8 : Int32) = 0 := by decide
    simp only [k_Math_floorMod_18, k_Math_floorMod_0, w_iadd, w_isub, w_imul, w_iand, w_ior, w_ixor, w_ishl, w_ishr, w_iushr, w_idiv, w_irem, w_ineg, w_ladd, w_lsub, w_lmul, w_ldiv, w_lrem, w_i2l, w_l2i, w_i2c, w_lcmp, w_dup_int, w_pop_int, w_dup_ref, w_pop_ref, w_dup_retAddr, w_pop_retAddr, w_dup2, w_I, w_L, w_Null, w_Ild, w_Lld, w_Ald, w_Ist, w_Lst, w_Ast, w_Iinc, w_if_eq, w_icmp_eq, w_if_ne, w_icmp_ne, w_if_lt, w_icmp_lt, w_if_ge, w_icmp_ge, w_if_gt, w_icmp_gt, w_if_le, w_icmp_le, w_GetI, w_GetL, w_GetR, w_PutI, w_PutZ, w_PutL, w_PutR, w_PutN, w_Iald, w_Zald, w_Lald, w_Aald, w_Iast, w_Zast, w_Last, w_AastR, w_AastN, w_Alen, w_New, w_NewA, w_Mna, w_Iret, w_Zret, w_Cret, w_Bret, w_Lret, w_AretR, w_AretN, w_Vret, w_Obj, w_IfNN, w_IfNR, w_Copy, w_Cln, w_Cast, w_SfA, w_SfI, w_SfQ, w_Str, w_ScLd, w_ScLen, w_CV0, w_CS0, w_CV1, w_CS1, w_CV2, w_CS2, w_CV3, w_CS3, w_CV4, w_CS4, w_CV5, w_CS5, List.getElem?_cons_zero, List.getElem?_cons_succ, List.set_cons_zero, List.set_cons_succ, List.length_cons, List.length_nil, List.map_cons, List.map_nil, List.sum_cons, List.sum_nil, List.nil_append, List.cons_append, Option.toList_some, Option.toList_none, Value.category, xok, va_rf, true_and, and_true, and_self, Nat.reduceAdd, Nat.reduceLT, Nat.reduceLeDiff, Nat.reduceEqDiff, Nat.reduceMul, beq_self_eq_true, decide_true, ite_true, ite_false, if_true, if_false, reduceIte, Bool.true_eq_false, Bool.false_eq_true, eq_self_iff_true, Nat.zero_le, not_true_eq_false, not_false_eq_true, forall_const, false_implies, implies_true, forall_false, h1, h2, e8, ne10, ne10L, ne01, ne01L, tt_imp, nt_imp, ff_imp, nf_imp, true_and, and_true, true_or, or_true, reduceIte]
    rfl
  | some q =>
    obtain ⟨q1, q2⟩ := h q rfl
    have h1 : nI (8 * q.1 + q.2) - nI (8 * q.1 + q.2) / 8 * 8 = nI q.2 := by
      rw [cI_8, nI_rem (by omega) (by omega) (by omega)]
      congr 1
      omega
    have h2 : 0 ≤ nI (8 * q.1 + q.2) ^^^ 8 := by
      rw [cI_8, nx_xor]
      refine nI_pos' ?_
      exact Nat.lt_of_lt_of_le (Nat.xor_lt_two_pow (n := 31) (by omega) (by omega)) (by decide)
    have e8 : ¬ (8 : Int32) = 0 := by decide
    have e1 : encI (some q) = nI (8 * q.1 + q.2) := rfl
    rw [e1]
    simp only [k_Math_floorMod_18, k_Math_floorMod_0, w_iadd, w_isub, w_imul, w_iand, w_ior, w_ixor, w_ishl, w_ishr, w_iushr, w_idiv, w_irem, w_ineg, w_ladd, w_lsub, w_lmul, w_ldiv, w_lrem, w_i2l, w_l2i, w_i2c, w_lcmp, w_dup_int, w_pop_int, w_dup_ref, w_pop_ref, w_dup_retAddr, w_pop_retAddr, w_dup2, w_I, w_L, w_Null, w_Ild, w_Lld, w_Ald, w_Ist, w_Lst, w_Ast, w_Iinc, w_if_eq, w_icmp_eq, w_if_ne, w_icmp_ne, w_if_lt, w_icmp_lt, w_if_ge, w_icmp_ge, w_if_gt, w_icmp_gt, w_if_le, w_icmp_le, w_GetI, w_GetL, w_GetR, w_PutI, w_PutZ, w_PutL, w_PutR, w_PutN, w_Iald, w_Zald, w_Lald, w_Aald, w_Iast, w_Zast, w_Last, w_AastR, w_AastN, w_Alen, w_New, w_NewA, w_Mna, w_Iret, w_Zret, w_Cret, w_Bret, w_Lret, w_AretR, w_AretN, w_Vret, w_Obj, w_IfNN, w_IfNR, w_Copy, w_Cln, w_Cast, w_SfA, w_SfI, w_SfQ, w_Str, w_ScLd, w_ScLen, w_CV0, w_CS0, w_CV1, w_CS1, w_CV2, w_CS2, w_CV3, w_CS3, w_CV4, w_CS4, w_CV5, w_CS5, List.getElem?_cons_zero, List.getElem?_cons_succ, List.set_cons_zero, List.set_cons_succ, List.length_cons, List.length_nil, List.map_cons, List.map_nil, List.sum_cons, List.sum_nil, List.nil_append, List.cons_append, Option.toList_some, Option.toList_none, Value.category, xok, va_rf, true_and, and_true, and_self, Nat.reduceAdd, Nat.reduceLT, Nat.reduceLeDiff, Nat.reduceEqDiff, Nat.reduceMul, beq_self_eq_true, decide_true, ite_true, ite_false, if_true, if_false, reduceIte, Bool.true_eq_false, Bool.false_eq_true, eq_self_iff_true, Nat.zero_le, not_true_eq_false, not_false_eq_true, forall_const, false_implies, implies_true, forall_false, h1, h2, e8, ne10, ne10L, ne01, ne01L, tt_imp, nt_imp, ff_imp, nf_imp, true_and, and_true, true_or, or_true, reduceIte]
    rfl
theorem c_fd {o : Option (Nat × Nat)} (h : ∀ q, o = some q → q.1 ≤ 100000 ∧ q.2 < 8) (G : XH) (Q : XR → Prop) : SP D_Math_floorDiv [.int (encI o), .int 8] G Q = Q (some (.int (ansI o)), G) := by
  rw [e_Math_floorDiv]
  cases o with
  | none =>
    obtain ⟨a, ha, h1, h2, h3⟩ : ∃ a : Int32, encI none = a ∧ a / 8 = ansI none ∧ ¬ 0 ≤ a ^^^ 8 ∧ ansI none * 8 = a := ⟨_, rfl, by decide +kernel, by decide +kernel, by decide +kernel⟩
    obtain ⟨b, hb⟩ : ∃ b : Int32, b = ansI none := ⟨_, rfl⟩
    rw [← hb] at h1 h3 ⊢
    rw [ha]
    have e8 : ¬ (8 : Int32) = 0 := by decide
    simp only [k_Math_floorDiv_21, k_Math_floorDiv_0, w_iadd, w_isub, w_imul, w_iand, w_ior, w_ixor, w_ishl, w_ishr, w_iushr, w_idiv, w_irem, w_ineg, w_ladd, w_lsub, w_lmul, w_ldiv, w_lrem, w_i2l, w_l2i, w_i2c, w_lcmp, w_dup_int, w_pop_int, w_dup_ref, w_pop_ref, w_dup_retAddr, w_pop_retAddr, w_dup2, w_I, w_L, w_Null, w_Ild, w_Lld, w_Ald, w_Ist, w_Lst, w_Ast, w_Iinc, w_if_eq, w_icmp_eq, w_if_ne, w_icmp_ne, w_if_lt, w_icmp_lt, w_if_ge, w_icmp_ge, w_if_gt, w_icmp_gt, w_if_le, w_icmp_le, w_GetI, w_GetL, w_GetR, w_PutI, w_PutZ, w_PutL, w_PutR, w_PutN, w_Iald, w_Zald, w_Lald, w_Aald, w_Iast, w_Zast, w_Last, w_AastR, w_AastN, w_Alen, w_New, w_NewA, w_Mna, w_Iret, w_Zret, w_Cret, w_Bret, w_Lret, w_AretR, w_AretN, w_Vret, w_Obj, w_IfNN, w_IfNR, w_Copy, w_Cln, w_Cast, w_SfA, w_SfI, w_SfQ, w_Str, w_ScLd, w_ScLen, w_CV0, w_CS0, w_CV1, w_CS1, w_CV2, w_CS2, w_CV3, w_CS3, w_CV4, w_CS4, w_CV5, w_CS5, List.getElem?_cons_zero, List.getElem?_cons_succ, List.set_cons_zero, List.set_cons_succ, List.length_cons, List.length_nil, List.map_cons, List.map_nil, List.sum_cons, List.sum_nil, List.nil_append, List.cons_append, Option.toList_some, Option.toList_none, Value.category, xok, va_rf, true_and, and_true, and_self, Nat.reduceAdd, Nat.reduceLT, Nat.reduceLeDiff, Nat.reduceEqDiff, Nat.reduceMul, beq_self_eq_true, decide_true, ite_true, ite_false, if_true, if_false, reduceIte, Bool.true_eq_false, Bool.false_eq_true, eq_self_iff_true, Nat.zero_le, not_true_eq_false, not_false_eq_true, forall_const, false_implies, implies_true, forall_false, h1, h2, h3, e8, ne10, ne10L, ne01, ne01L, tt_imp, nt_imp, ff_imp, nf_imp, true_and, and_true, true_or, or_true, reduceIte]
  | some q =>
    obtain ⟨q1, q2⟩ := h q rfl
    have h1 : nI (8 * q.1 + q.2) / 8 = nI q.1 := by
      rw [cI_8, nI_div (by omega) (by omega) (by omega)]
      congr 1
      omega
    have h2 : 0 ≤ nI (8 * q.1 + q.2) ^^^ 8 := by
      rw [cI_8, nx_xor]
      refine nI_pos' ?_
      exact Nat.lt_of_lt_of_le (Nat.xor_lt_two_pow (n := 31) (by omega) (by omega)) (by decide)
    have e8 : ¬ (8 : Int32) = 0 := by decide
    have e1 : encI (some q) = nI (8 * q.1 + q.2) := rfl
    rw [e1]
    simp only [k_Math_floorDiv_21, k_Math_floorDiv_0, w_iadd, w_isub, w_imul, w_iand, w_ior, w_ixor, w_ishl, w_ishr, w_iushr, w_idiv, w_irem, w_ineg, w_ladd, w_lsub, w_lmul, w_ldiv, w_lrem, w_i2l, w_l2i, w_i2c, w_lcmp, w_dup_int, w_pop_int, w_dup_ref, w_pop_ref, w_dup_retAddr, w_pop_retAddr, w_dup2, w_I, w_L, w_Null, w_Ild, w_Lld, w_Ald, w_Ist, w_Lst, w_Ast, w_Iinc, w_if_eq, w_icmp_eq, w_if_ne, w_icmp_ne, w_if_lt, w_icmp_lt, w_if_ge, w_icmp_ge, w_if_gt, w_icmp_gt, w_if_le, w_icmp_le, w_GetI, w_GetL, w_GetR, w_PutI, w_PutZ, w_PutL, w_PutR, w_PutN, w_Iald, w_Zald, w_Lald, w_Aald, w_Iast, w_Zast, w_Last, w_AastR, w_AastN, w_Alen, w_New, w_NewA, w_Mna, w_Iret, w_Zret, w_Cret, w_Bret, w_Lret, w_AretR, w_AretN, w_Vret, w_Obj, w_IfNN, w_IfNR, w_Copy, w_Cln, w_Cast, w_SfA, w_SfI, w_SfQ, w_Str, w_ScLd, w_ScLen, w_CV0, w_CS0, w_CV1, w_CS1, w_CV2, w_CS2, w_CV3, w_CS3, w_CV4, w_CS4, w_CV5, w_CS5, List.getElem?_cons_zero, List.getElem?_cons_succ, List.set_cons_zero, List.set_cons_succ, List.length_cons, List.length_nil, List.map_cons, List.map_nil, List.sum_cons, List.sum_nil, List.nil_append, List.cons_append, Option.toList_some, Option.toList_none, Value.category, xok, va_rf, true_and, and_true, and_self, Nat.reduceAdd, Nat.reduceLT, Nat.reduceLeDiff, Nat.reduceEqDiff, Nat.reduceMul, beq_self_eq_true, decide_true, ite_true, ite_false, if_true, if_false, reduceIte, Bool.true_eq_false, Bool.false_eq_true, eq_self_iff_true, Nat.zero_le, not_true_eq_false, not_false_eq_true, forall_const, false_implies, implies_true, forall_false, h1, h2, e8, ne10, ne10L, ne01, ne01L, tt_imp, nt_imp, ff_imp, nf_imp, true_and, and_true, true_or, or_true, reduceIte]
    rfl
/-- the place of a key -/
theorem plc (x : Int32) : ∃ p, p < 1024 ∧ (x.toUInt32 >>> (Int32.toUInt32 22 &&& Int32.toUInt32 31)).toInt32 = nI p := by
  have h1 : (Int32.toUInt32 22 &&& Int32.toUInt32 31) = 22 := by decide +kernel
  rw [h1]
  refine ⟨x.toUInt32.toNat >>> 22, ?_, ?_⟩
  · rw [Nat.shiftRight_eq_div_pow]
    have := x.toUInt32.toNat_lt
    omega
  · apply Int32.toBitVec_inj.mp
    show (x.toUInt32 >>> 22).toBitVec = BitVec.ofNat 32 (x.toUInt32.toNat >>> 22)
    apply BitVec.eq_of_toNat_eq
    rw [BitVec.toNat_ofNat]
    show (x.toUInt32 >>> 22).toNat = _
    rw [UInt32.toNat_shiftRight, show (22 : UInt32).toNat % 32 = 22 from by decide +kernel, Nat.shiftRight_eq_div_pow]
    have := x.toUInt32.toNat_lt
    omega
theorem pop_or {s k : Nat} (hb : s.testBit k = false) : ∀ {n}, k < n → popN (s ||| 2 ^ k) n = popN s n + 1
  | 0, h => absurd h (by omega)
  | n + 1, h => by
    rw [popN, popN, Nat.testBit_or]
    by_cases e : k = n
    · subst e
      have hc : ∀ m, m ≤ k → popN (s ||| 2 ^ k) m = popN s m := by
        intro m
        induction m with
        | zero => intro _; rfl
        | succ m ih =>
          intro hm
          rw [popN, popN, ih (by omega), Nat.testBit_or, Nat.testBit_two_pow_of_ne (by omega), Bool.or_false]
      rw [hc k (Nat.le_refl _), hb, Nat.testBit_two_pow_self]
      rfl
    · rw [pop_or hb (n := n) (by omega), Nat.testBit_two_pow_of_ne e, Bool.or_false]
      omega
/-- whose letters are searched through -/
def SLt (G : XH) (n : Nat) (lt : Nat → Nat) : Prop := hpI G 58 5 = nI n ∧ ∀ k, k < n → hpI G 59 k = nI (lt k)
theorem SLt.fr {G G' : XH} {n : Nat} {lt : Nat → Nat} (h : SLt G n lt) (hf : Fr WSe G G') : SLt G' n lt := ⟨(hf.I rfl).trans h.1, fun k hk => (hf.I rfl).trans (h.2 k hk)⟩
/-- what is remembered holds -/
def MemO (G : XH) (n : Nat) (M : Nat → Nat → Nat → Nat → Option (Nat × Nat)) : Prop := ∀ p, p < 1024 → hpI G 60 p = -1 ∨ ∃ f d done t, done < 2 ^ n ∧ t ≤ 999 ∧ popN done n = d ∧ d + f = n ∧ 0 < f ∧ hpI G 60 p = nI (1000 * done + t) ∧ hpI G 61 p = encI (M f d done t)
theorem MemO.fr {G G' : XH} {n : Nat} {M : Nat → Nat → Nat → Nat → Option (Nat × Nat)} (h : MemO G n M) (hf : Fr WRo G G') : MemO G' n M := by
  intro p hp
  rw [hf.I rfl, hf.I rfl]
  exact h p hp
theorem ansI_n : ansI none = -1 := rfl
theorem ansI_q {q : Nat × Nat} : ansI (some q) = nI q.1 := rfl
theorem ansI_s {a b : Nat} : ansI (some (a, b)) = nI a := rfl
theorem choI_s {a b : Nat} : choI (some (a, b)) = nI b := rfl
theorem mp_115n {D : Nat → XD} {G : XH} {K : XK} {Q : XR → Prop} {k : Nat} {M C pays rest : Int32} (hr : (rest = -1) = True) {a1 a2 a3 a4 : Int32} {a5 : Int32} {a10 : Option Value} (hK : ∀ a10, WP K [some (.ref 58), some (.int a1), some (.int a2), some (.int a3), some (.int a4), some (.int a5), some (.int M), some (.int C), some (.int (nI (k + 1))), some (.int pays), a10] [] G Q) : WP (k_Search_mostPaid_115 D K) [some (.ref 58), some (.int a1), some (.int a2), some (.int a3), some (.int a4), some (.int a5), some (.int M), some (.int C), some (.int (nI k)), some (.int pays), a10] [.int rest] G Q := by
  have ek : nI k + Int32.ofInt 1 = nI (k + 1) := nI_1 k
  simp only [k_Search_mostPaid_115, k_Search_mostPaid_144, w_iadd, w_isub, w_imul, w_iand, w_ior, w_ixor, w_ishl, w_ishr, w_iushr, w_idiv, w_irem, w_ineg, w_ladd, w_lsub, w_lmul, w_ldiv, w_lrem, w_i2l, w_l2i, w_i2c, w_lcmp, w_dup_int, w_pop_int, w_dup_ref, w_pop_ref, w_dup_retAddr, w_pop_retAddr, w_dup2, w_I, w_L, w_Null, w_Ild, w_Lld, w_Ald, w_Ist, w_Lst, w_Ast, w_Iinc, w_if_eq, w_icmp_eq, w_if_ne, w_icmp_ne, w_if_lt, w_icmp_lt, w_if_ge, w_icmp_ge, w_if_gt, w_icmp_gt, w_if_le, w_icmp_le, w_GetI, w_GetL, w_GetR, w_PutI, w_PutZ, w_PutL, w_PutR, w_PutN, w_Iald, w_Zald, w_Lald, w_Aald, w_Iast, w_Zast, w_Last, w_AastR, w_AastN, w_Alen, w_New, w_NewA, w_Mna, w_Iret, w_Zret, w_Cret, w_Bret, w_Lret, w_AretR, w_AretN, w_Vret, w_Obj, w_IfNN, w_IfNR, w_Copy, w_Cln, w_Cast, w_SfA, w_SfI, w_SfQ, w_Str, w_ScLd, w_ScLen, w_CV0, w_CS0, w_CV1, w_CS1, w_CV2, w_CS2, w_CV3, w_CS3, w_CV4, w_CS4, w_CV5, w_CS5, List.getElem?_cons_zero, List.getElem?_cons_succ, List.set_cons_zero, List.set_cons_succ, List.length_cons, List.length_nil, List.map_cons, List.map_nil, List.sum_cons, List.sum_nil, List.nil_append, List.cons_append, Option.toList_some, Option.toList_none, Value.category, xok, va_rf, true_and, and_true, and_self, Nat.reduceAdd, Nat.reduceLT, Nat.reduceLeDiff, Nat.reduceEqDiff, Nat.reduceMul, beq_self_eq_true, decide_true, ite_true, ite_false, if_true, if_false, reduceIte, Bool.true_eq_false, Bool.false_eq_true, eq_self_iff_true, Nat.zero_le, not_true_eq_false, not_false_eq_true, forall_const, false_implies, implies_true, forall_false, ek, hr, ne10, ne10L, ne01, ne01L, tt_imp, nt_imp, ff_imp, nf_imp, true_and, and_true, true_or, or_true, reduceIte]
  exact hK _
theorem mp_115a {D : Nat → XD} {G : XH} {K : XK} {Q : XR → Prop} {k : Nat} {M C pays rest : Int32} (hr : (rest = -1) = False) (hz : pays + rest ≤ M) {a1 a2 a3 a4 : Int32} {a5 : Int32} {a10 : Option Value} (hK : ∀ a10, WP K [some (.ref 58), some (.int a1), some (.int a2), some (.int a3), some (.int a4), some (.int a5), some (.int M), some (.int C), some (.int (nI (k + 1))), some (.int pays), a10] [] G Q) : WP (k_Search_mostPaid_115 D K) [some (.ref 58), some (.int a1), some (.int a2), some (.int a3), some (.int a4), some (.int a5), some (.int M), some (.int C), some (.int (nI k)), some (.int pays), a10] [.int rest] G Q := by
  have ek : nI k + Int32.ofInt 1 = nI (k + 1) := nI_1 k
  simp only [k_Search_mostPaid_115, k_Search_mostPaid_144, w_iadd, w_isub, w_imul, w_iand, w_ior, w_ixor, w_ishl, w_ishr, w_iushr, w_idiv, w_irem, w_ineg, w_ladd, w_lsub, w_lmul, w_ldiv, w_lrem, w_i2l, w_l2i, w_i2c, w_lcmp, w_dup_int, w_pop_int, w_dup_ref, w_pop_ref, w_dup_retAddr, w_pop_retAddr, w_dup2, w_I, w_L, w_Null, w_Ild, w_Lld, w_Ald, w_Ist, w_Lst, w_Ast, w_Iinc, w_if_eq, w_icmp_eq, w_if_ne, w_icmp_ne, w_if_lt, w_icmp_lt, w_if_ge, w_icmp_ge, w_if_gt, w_icmp_gt, w_if_le, w_icmp_le, w_GetI, w_GetL, w_GetR, w_PutI, w_PutZ, w_PutL, w_PutR, w_PutN, w_Iald, w_Zald, w_Lald, w_Aald, w_Iast, w_Zast, w_Last, w_AastR, w_AastN, w_Alen, w_New, w_NewA, w_Mna, w_Iret, w_Zret, w_Cret, w_Bret, w_Lret, w_AretR, w_AretN, w_Vret, w_Obj, w_IfNN, w_IfNR, w_Copy, w_Cln, w_Cast, w_SfA, w_SfI, w_SfQ, w_Str, w_ScLd, w_ScLen, w_CV0, w_CS0, w_CV1, w_CS1, w_CV2, w_CS2, w_CV3, w_CS3, w_CV4, w_CS4, w_CV5, w_CS5, List.getElem?_cons_zero, List.getElem?_cons_succ, List.set_cons_zero, List.set_cons_succ, List.length_cons, List.length_nil, List.map_cons, List.map_nil, List.sum_cons, List.sum_nil, List.nil_append, List.cons_append, Option.toList_some, Option.toList_none, Value.category, xok, va_rf, true_and, and_true, and_self, Nat.reduceAdd, Nat.reduceLT, Nat.reduceLeDiff, Nat.reduceEqDiff, Nat.reduceMul, beq_self_eq_true, decide_true, ite_true, ite_false, if_true, if_false, reduceIte, Bool.true_eq_false, Bool.false_eq_true, eq_self_iff_true, Nat.zero_le, not_true_eq_false, not_false_eq_true, forall_const, false_implies, implies_true, forall_false, ek, hr, hz, ne10, ne10L, ne01, ne01L, tt_imp, nt_imp, ff_imp, nf_imp, true_and, and_true, true_or, or_true, reduceIte]
  exact hK _
theorem mp_115b {D : Nat → XD} {G : XH} {K : XK} {Q : XR → Prop} {k : Nat} {M C pays rest : Int32} (hr : (rest = -1) = False) (hz : (pays + rest ≤ M) = False) {a1 a2 a3 a4 : Int32} {a5 : Int32} {a10 : Option Value} (hK : ∀ a10, WP K [some (.ref 58), some (.int a1), some (.int a2), some (.int a3), some (.int a4), some (.int a5), some (.int (pays + rest)), some (.int (nI k)), some (.int (nI (k + 1))), some (.int pays), a10] [] G Q) : WP (k_Search_mostPaid_115 D K) [some (.ref 58), some (.int a1), some (.int a2), some (.int a3), some (.int a4), some (.int a5), some (.int M), some (.int C), some (.int (nI k)), some (.int pays), a10] [.int rest] G Q := by
  have ek : nI k + Int32.ofInt 1 = nI (k + 1) := nI_1 k
  simp only [k_Search_mostPaid_115, k_Search_mostPaid_144, w_iadd, w_isub, w_imul, w_iand, w_ior, w_ixor, w_ishl, w_ishr, w_iushr, w_idiv, w_irem, w_ineg, w_ladd, w_lsub, w_lmul, w_ldiv, w_lrem, w_i2l, w_l2i, w_i2c, w_lcmp, w_dup_int, w_pop_int, w_dup_ref, w_pop_ref, w_dup_retAddr, w_pop_retAddr, w_dup2, w_I, w_L, w_Null, w_Ild, w_Lld, w_Ald, w_Ist, w_Lst, w_Ast, w_Iinc, w_if_eq, w_icmp_eq, w_if_ne, w_icmp_ne, w_if_lt, w_icmp_lt, w_if_ge, w_icmp_ge, w_if_gt, w_icmp_gt, w_if_le, w_icmp_le, w_GetI, w_GetL, w_GetR, w_PutI, w_PutZ, w_PutL, w_PutR, w_PutN, w_Iald, w_Zald, w_Lald, w_Aald, w_Iast, w_Zast, w_Last, w_AastR, w_AastN, w_Alen, w_New, w_NewA, w_Mna, w_Iret, w_Zret, w_Cret, w_Bret, w_Lret, w_AretR, w_AretN, w_Vret, w_Obj, w_IfNN, w_IfNR, w_Copy, w_Cln, w_Cast, w_SfA, w_SfI, w_SfQ, w_Str, w_ScLd, w_ScLen, w_CV0, w_CS0, w_CV1, w_CS1, w_CV2, w_CS2, w_CV3, w_CS3, w_CV4, w_CS4, w_CV5, w_CS5, List.getElem?_cons_zero, List.getElem?_cons_succ, List.set_cons_zero, List.set_cons_succ, List.length_cons, List.length_nil, List.map_cons, List.map_nil, List.sum_cons, List.sum_nil, List.nil_append, List.cons_append, Option.toList_some, Option.toList_none, Value.category, xok, va_rf, true_and, and_true, and_self, Nat.reduceAdd, Nat.reduceLT, Nat.reduceLeDiff, Nat.reduceEqDiff, Nat.reduceMul, beq_self_eq_true, decide_true, ite_true, ite_false, if_true, if_false, reduceIte, Bool.true_eq_false, Bool.false_eq_true, eq_self_iff_true, Nat.zero_le, not_true_eq_false, not_false_eq_true, forall_const, false_implies, implies_true, forall_false, ek, hr, hz, ne10, ne10L, ne01, ne01L, tt_imp, nt_imp, ff_imp, nf_imp, true_and, and_true, true_or, or_true, reduceIte]
  exact hK _
theorem mp_115 {D : Nat → XD} {G : XH} {K : XK} {Q : XR → Prop} {k : Nat} (hk : k < 8) {o : Option (Nat × Nat)} (ho : ∀ q, o = some q → q.1 ≤ 100000) {v : Option Nat} {pays rest : Int32} (hv : (v = none ∧ rest = -1) ∨ ∃ p r, p ≤ 100000 ∧ r ≤ 100000 ∧ pays = nI p ∧ rest = nI r ∧ v = some (p + r)) {a1 a2 a3 a4 : Int32} {a5 : Int32} {a10 : Option Value} (hK : ∀ a10, WP K [some (.ref 58), some (.int a1), some (.int a2), some (.int a3), some (.int a4), some (.int a5), some (.int (ansI (updO o v k))), some (.int (choI (updO o v k))), some (.int (nI (k + 1))), some (.int pays), a10] [] G Q) : WP (k_Search_mostPaid_115 D K) [some (.ref 58), some (.int a1), some (.int a2), some (.int a3), some (.int a4), some (.int a5), some (.int (ansI o)), some (.int (choI o)), some (.int (nI k)), some (.int pays), a10] [.int rest] G Q := by
  rcases hv with ⟨rfl, hr⟩ | ⟨p, r, hp, hr, rfl, rfl, rfl⟩
  · have : updO o none k = o := rfl
    rw [this] at hK
    exact mp_115n (eq_true hr) hK
  · have h1 : (nI r = -1) = False := eq_false (nI_ne (by omega))
    have e1 : nI p + nI r = nI (p + r) := nI_add p r
    have h2 : (nI (p + r) ≤ ansI o ∧ updO o (some (p + r)) k = o) ∨ (¬ nI (p + r) ≤ ansI o ∧ updO o (some (p + r)) k = some (p + r, k)) := by
      cases o with
      | none =>
        rw [ansI_n]
        exact Or.inr ⟨nI_nle1 (by omega), rfl⟩
      | some q =>
        have q1 := ho q rfl
        have h2 : (nI (p + r) ≤ ansI (some q)) = (p + r ≤ q.1) := by rw [ansI_q]; exact propext (nI_leI (by omega) (by omega))
        rw [h2]
        by_cases z : p + r ≤ q.1
        · exact Or.inl ⟨z, if_neg (by omega)⟩
        · exact Or.inr ⟨z, if_pos (by omega)⟩
    rw [← e1] at h2
    rcases h2 with ⟨z, hu⟩ | ⟨z, hu⟩
    · rw [hu] at hK
      exact mp_115a h1 z hK
    · rw [hu, ansI_s, choI_s, ← e1] at hK
      exact mp_115b h1 (eq_false z) hK
