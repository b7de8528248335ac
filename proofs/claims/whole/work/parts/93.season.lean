theorem lN_div {a b : Nat} (ha : a < 4611686018427387904) (hb : b < 4611686018427387904) (h0 : 0 < b) : Int64.ofNat a / Int64.ofNat b = Int64.ofNat (a / b) := by
  have hd : a / b ≤ a := Nat.div_le_self a b
  apply Int64.toInt_inj.mp
  rw [Int64.toInt_div, Int64.toInt_ofNat_of_lt (by omega), Int64.toInt_ofNat_of_lt (by omega), Int64.toInt_ofNat_of_lt (by omega), Int.tdiv_eq_ediv_of_nonneg (by omega)]
  rw [show ((a : Int) / (b : Int)) = ((a / b : Nat) : Int) from rfl]
  generalize a / b = q at hd ⊢
  apply Int.bmod_eq_of_le <;> omega
theorem lN_rem {a b : Nat} (ha : a < 4611686018427387904) (hb : b < 4611686018427387904) (h0 : 0 < b) : Int64.ofNat a - Int64.ofNat a / Int64.ofNat b * Int64.ofNat b = Int64.ofNat (a % b) := by
  rw [lN_div ha hb h0, ← Int64.ofNat_mul, ← Int64.ofNat_sub _ _ (Nat.div_mul_le_self a b)]
  congr 1
  have := Nat.div_add_mod a b
  rw [Nat.mul_comm] at this
  omega
theorem nI_rem {a b : Nat} (ha : a < 2147483648) (hb : b < 2147483648) (h0 : 0 < b) : nI a - nI a / nI b * nI b = nI (a % b) := by
  rw [nI_div ha hb h0, nI_mul, nI_sub (Nat.div_mul_le_self a b)]
  congr 1
  have := Nat.div_add_mod a b
  rw [Nat.mul_comm] at this
  omega
theorem lN_32 {k : Nat} (h : k < 2147483648) : (Int64.ofNat k).toInt32 = nI k := by
  apply Int32.toInt_inj.mp
  rw [Int64.toInt_toInt32, Int64.toInt_ofNat_of_lt (by omega), nI_toInt h]
  apply Int.bmod_eq_of_le <;> omega
/-- the next draw -/
def drN (s : Nat) : Nat := (s * 1103 + 12345) % 1000003
theorem drN_lt (s : Nat) : drN s < 1000003 := Nat.mod_lt _ (by decide)
theorem s_draw {G : XH} (hM : MS G) (Q : XR → Prop) (s nl : Nat) (hs : s < 1000003) (h0 : 0 < nl) (h12 : nl ≤ 12) (hst : hpL G 70 62 = Int64.ofNat s) : SP D_Mdl_draw [.ref 70, .int (nI nl)] G Q = Q (some (.int (nI (drN s % nl))), stL G 70 62 (Int64.ofNat (drN s))) := by
  have hd := drN_lt s
  have hm : drN s % nl < nl := Nat.mod_lt _ h0
  obtain ⟨u, v, z, hu, hv, hz, hk⟩ : ∃ u v z : Int64, u = Int64.ofNat 1103 ∧ v = Int64.ofNat 12345 ∧ z = Int64.ofNat 1000003 ∧ k_Mdl_draw_0 = (xAld 0 (xAld 0 (xGetL 11 62 (xL u (xlmul (xL v (xladd (xL z (xlrem (xPutL 11 62 (xAld 0 (xGetL 11 62 (xIld 1 (xi2l (xlrem (xl2i (xIret ()))))))))))))))))) := ⟨_, _, _, rfl, rfl, rfl, rfl⟩
  have e1 : Int64.ofNat s * u + v = Int64.ofNat (s * 1103 + 12345) := by rw [hu, hv, ← Int64.ofNat_mul, ← Int64.ofNat_add]
  have e2 : Int64.ofNat (s * 1103 + 12345) - Int64.ofNat (s * 1103 + 12345) / z * z = Int64.ofNat (drN s) := by
    rw [hz]
    exact lN_rem (by omega) (by decide) (by decide)
  have z0 : ¬ z = 0 := by rw [hz]; decide
  have n0 : ¬ Int64.ofNat nl = 0 := by
    intro q
    have := congrArg Int64.toInt q
    rw [Int64.toInt_ofNat_of_lt (by omega), show (0 : Int64).toInt = 0 by decide] at this
    omega
  have e3 : Int64.ofNat (drN s) - Int64.ofNat (drN s) / Int64.ofNat nl * Int64.ofNat nl = Int64.ofNat (drN s % nl) := lN_rem (by omega) (by omega) h0
  rw [e_Mdl_draw, hk]
  simp only [w_iadd, w_isub, w_imul, w_iand, w_ior, w_ixor, w_ishl, w_ishr, w_iushr, w_idiv, w_irem, w_ineg, w_ladd, w_lsub, w_lmul, w_ldiv, w_lrem, w_i2l, w_l2i, w_i2c, w_lcmp, w_dup_int, w_pop_int, w_dup_ref, w_pop_ref, w_dup_retAddr, w_pop_retAddr, w_dup2, w_I, w_L, w_Null, w_Ild, w_Lld, w_Ald, w_Ist, w_Lst, w_Ast, w_Iinc, w_if_eq, w_icmp_eq, w_if_ne, w_icmp_ne, w_if_lt, w_icmp_lt, w_if_ge, w_icmp_ge, w_if_gt, w_icmp_gt, w_if_le, w_icmp_le, w_GetI, w_GetL, w_GetR, w_PutI, w_PutZ, w_PutL, w_PutR, w_PutN, w_Iald, w_Zald, w_Lald, w_Aald, w_Iast, w_Zast, w_Last, w_AastR, w_AastN, w_Alen, w_New, w_NewA, w_Mna, w_Iret, w_Zret, w_Cret, w_Bret, w_Lret, w_AretR, w_AretN, w_Vret, w_Obj, w_IfNN, w_IfNR, w_Copy, w_Cln, w_Cast, w_SfA, w_SfI, w_SfQ, w_Str, w_ScLd, w_ScLen, w_CV0, w_CS0, w_CV1, w_CS1, w_CV2, w_CS2, w_CV3, w_CS3, w_CV4, w_CS4, w_CV5, w_CS5, List.getElem?_cons_zero, List.getElem?_cons_succ, List.set_cons_zero, List.set_cons_succ, List.length_cons, List.length_nil, List.map_cons, List.map_nil, List.sum_cons, List.sum_nil, List.nil_append, List.cons_append, Option.toList_some, Option.toList_none, Value.category, xok, va_rf, true_and, and_true, and_self, Nat.reduceAdd, Nat.reduceLT, Nat.reduceLeDiff, Nat.reduceEqDiff, Nat.reduceMul, beq_self_eq_true, decide_true, ite_true, ite_false, if_true, if_false, reduceIte, Bool.true_eq_false, Bool.false_eq_true, eq_self_iff_true, Nat.zero_le, not_true_eq_false, not_false_eq_true, forall_const, false_implies, implies_true, forall_false, stI_C, stI_N, stI_Z, stI_S, stI_L, stI_R, stL_C, stL_N, stL_Z, stL_S, stL_I, stL_R, stR_C, stR_N, stR_Z, stR_S, stR_I, stR_L, stA_C, stA_N, stA_Z, stA_S, stA_L, stA_R, stI_I, stL_L, stR_R, stA_I, stN_C, stN_N, stN_Z, stN_S, stN_I, stN_L, stN_R, stI_ne, stL_ne, stR_ne, hM.all, hst, e1, e2, z0, n0, nI_64 (show nl < 2147483648 by omega), e3, lN_32 (show drN s % nl < 2147483648 by omega), ne10, ne10L, ne01, ne01L, tt_imp, nt_imp, ff_imp, nf_imp, true_and, and_true, true_or, or_true, reduceIte]
def whN (R : Nat → Int32) (l : Nat) : Nat := (R (60 + 7 * l)).toNatClampNeg
def tnN (R : Nat → Int32) (w : Nat) : Nat := (R (10 + 6 * w)).toNatClampNeg
/-- one day of a season: the draw, the rows, whether it goes on -/
def seT (T : Nat → (Nat → Int64) → Option Int64) (hl : Bool) (A B : Nat → Nat) (n : Nat) (R : Nat → Int32) (l : Nat) : Nat → Int32 := if (!barF T (hdF R (whN R l) l none) && (dN A B c0 n 8 (tnN R (whN R l))).isSome) = true then rdR T R (whN R l) l none (lafF T hl (hdF R (whN R l) l none)) else R
def seS (T : Nat → (Nat → Int64) → Option Int64) (hl : Bool) (A B : Nat → Nat) (n nr nl s0 : Nat) (R0 : Nat → Int32) : Nat → Nat × (Nat → Int32) × Bool
  | 0 => (s0, R0, true)
  | k + 1 => if (seS T hl A B n nr nl s0 R0 k).2.2 = true then (if seT T hl A B n (seS T hl A B n nr nl s0 R0 k).2.1 (drN (seS T hl A B n nr nl s0 R0 k).1 % nl) 5 = 999 then (drN (seS T hl A B n nr nl s0 R0 k).1, seT T hl A B n (seS T hl A B n nr nl s0 R0 k).2.1 (drN (seS T hl A B n nr nl s0 R0 k).1 % nl), false) else (drN (seS T hl A B n nr nl s0 R0 k).1, gdF T (seT T hl A B n (seS T hl A B n nr nl s0 R0 k).2.1 (drN (seS T hl A B n nr nl s0 R0 k).1 % nl)) nr, true)) else seS T hl A B n nr nl s0 R0 k
theorem seS_stop {T : Nat → (Nat → Int64) → Option Int64} {hl : Bool} {A B : Nat → Nat} {n nr nl s0 : Nat} {R0 : Nat → Int32} {k : Nat} (h : (seS T hl A B n nr nl s0 R0 k).2.2 = false) : ∀ d, seS T hl A B n nr nl s0 R0 (k + d) = seS T hl A B n nr nl s0 R0 k
  | 0 => rfl
  | d + 1 => by
    have ih := seS_stop h d
    rw [← Nat.add_assoc, seS, ih, h]
    rfl
theorem In.cl {v : Int32} {b : Nat} (h : In v b) (hb : b < 2147483648) : v = nI v.toNatClampNeg ∧ v.toNatClampNeg ≤ b := by
  obtain ⟨m, h1, rfl⟩ := h
  rw [nI_clamp (by omega)]
  exact ⟨rfl, h1⟩
theorem RW.wh {R : Nat → Int32} {nr nl c : Nat} (h : RW R nr nl c) {l : Nat} (hl : l < nl) : whN R l < nr ∧ R (60 + 7 * l) = nI (whN R l) := by
  obtain ⟨-, -, -, ⟨w, w1, w2⟩, -⟩ := h.2.2.2.2.2.2.2.2.2 l hl
  unfold whN
  have : w < 8 := Nat.lt_of_lt_of_le w1 h.2.1
  rw [w2, nI_clamp (by omega)]
  exact ⟨w1, rfl⟩
theorem RW.tn {R : Nat → Int32} {nr nl c : Nat} (h : RW R nr nl c) {w : Nat} (hw : w < nr) : tnN R w < 8 ∧ R (10 + 6 * w) = nI (tnN R w) := by
  have := ((h.2.2.2.2.2.2.2.2.1 w hw).2.1).cl (by omega)
  unfold tnN
  exact ⟨by omega, this.1⟩
theorem RW.se {T : Nat → (Nat → Int64) → Option Int64} {hl : Bool} {A B : Nat → Nat} {n nr nl c : Nat} {R : Nat → Int32} (h : RW R nr nl c) (hc : c ≤ 500000) {l : Nat} (hll : l < nl) : RW (seT T hl A B n R l) nr nl (c + 1) := by
  unfold seT
  split
  · obtain ⟨w1, w2⟩ := h.wh hll
    obtain ⟨w, a1, a2, a3⟩ := h.hc hc hll (o := none) (fun k hk => by cases hk)
    have hw : w = whN R l := by
      have : w < 8 := Nat.lt_of_lt_of_le a1 h.2.1
      have h8 : whN R l < 8 := Nat.lt_of_lt_of_le w1 h.2.1
      exact (nI_eq (by omega) (by omega)).mp (a2.symm.trans w2)
    subst hw
    exact h.rd w1 hll (fun k hk => by cases hk) a3.2.2.2.2.2
  · exact h.mono (by omega)
theorem RW.ses {T : Nat → (Nat → Int64) → Option Int64} {hl : Bool} {A B : Nat → Nat} {n nr nl c s0 : Nat} {R : Nat → Int32} (h : RW R nr nl c) (h0 : 0 < nl) : ∀ k, c + k ≤ 500000 → RW (seS T hl A B n nr nl s0 R k).2.1 nr nl (c + k)
  | 0, _ => h
  | k + 1, hk => by
    have ih := RW.ses (T := T) (hl := hl) (A := A) (B := B) (n := n) (s0 := s0) h h0 k (by omega)
    have st := ih.se (T := T) (hl := hl) (A := A) (B := B) (n := n) (by omega) (l := drN (seS T hl A B n nr nl s0 R k).1 % nl) (Nat.mod_lt _ h0)
    rw [seS]
    split
    · split
      · exact st
      · exact st.gd
    · exact ih.mono (by omega)
/-- what calls on paper leave -/
def Hi (R R' : Nat → Int32) : Prop := ∀ j, (j = 0 ∨ j = 1 ∨ j = 2 ∨ j = 3 ∨ j = 4 ∨ 141 ≤ j) → R' j = R j
theorem Hi.refl {R : Nat → Int32} : Hi R R := fun _ _ => rfl
theorem Hi.trans {R R' R'' : Nat → Int32} (h : Hi R R') (g : Hi R' R'') : Hi R R'' := fun j hj => (g j hj).trans (h j hj)
theorem Hi.up {R R' : Nat → Int32} (h : Hi R R') {k : Nat} {v : Int32} (hk : 5 ≤ k ∧ k < 141) : Hi R (up R' k v) := fun j hj => by rw [up_ne (by omega)]; exact h j hj
theorem Hi.sl {R R' : Nat → Int32} (h : Hi R R') : SL R R' := ⟨h 4 (by omega), fun j hj => h j (by omega)⟩
theorem Hi.rd {R R' : Nat → Int32} (h : Hi R R') {n : Nat} {A B : Nat → Nat} (hR : MRd R n A B) : MRd R' n A B := hR.row (h 0 (by omega)) (fun j h1 _ => h j (by omega))
theorem Hi.re {T : Nat → (Nat → Int64) → Option Int64} {R : Nat → Int32} {w one : Nat} {o : Option Nat} {lg : Bool} (hw : w < 8) (h1 : one < 12) (h2 : ∀ k, o = some k → k < 12) : Hi R (rdR T R w one o lg) := by
  have hA : Hi R (rdA T R w one o lg) := ((((Hi.refl.up (by omega)).up (by omega)).up (by omega)).up (by omega)).up (by omega)
  cases o with
  | none => exact (hA.up (by omega)).up (by omega)
  | some k =>
    have := h2 k rfl
    exact (((hA.up (by omega)).up (by omega)).up (by omega)).up (by omega)
theorem Hi.gd {T : Nat → (Nat → Int64) → Option Int64} {R : Nat → Int32} {nr : Nat} (h : nr ≤ 8) : Hi R (gdF T R nr) := Hi.up (fun j hj => gdL_ne nr (fun k hk => by omega)) (by omega)
theorem Hi.se {T : Nat → (Nat → Int64) → Option Int64} {hl : Bool} {A B : Nat → Nat} {n nr nl c : Nat} {R : Nat → Int32} (h : RW R nr nl c) {l : Nat} (hll : l < nl) : Hi R (seT T hl A B n R l) := by
  unfold seT
  split
  · have := (h.wh hll).1
    have n8 := h.2.1
    have n12 := h.2.2.2.1
    exact Hi.re (by omega) (by omega) (fun k hk => by cases hk)
  · exact Hi.refl
theorem Hi.ses {T : Nat → (Nat → Int64) → Option Int64} {hl : Bool} {A B : Nat → Nat} {n nr nl c s0 : Nat} {R : Nat → Int32} (h : RW R nr nl c) (h0 : 0 < nl) : ∀ k, c + k ≤ 500000 → Hi R (seS T hl A B n nr nl s0 R k).2.1
  | 0, _ => Hi.refl
  | k + 1, hk => by
    have ih := Hi.ses (T := T) (hl := hl) (A := A) (B := B) (n := n) (s0 := s0) h h0 k (by omega)
    have rw' := h.ses (T := T) (hl := hl) (A := A) (B := B) (n := n) (s0 := s0) h0 k (by omega)
    have st := ih.trans (Hi.se (T := T) (hl := hl) (A := A) (B := B) (n := n) rw' (l := drN (seS T hl A B n nr nl s0 R k).1 % nl) (Nat.mod_lt _ h0))
    rw [seS]
    split
    · split
      · exact st
      · exact st.trans (Hi.gd h.2.1)
    · exact ih
theorem seS_lt {T : Nat → (Nat → Int64) → Option Int64} {hl : Bool} {A B : Nat → Nat} {n nr nl s0 : Nat} {R : Nat → Int32} (hs : s0 < 1000003) : ∀ k, (seS T hl A B n nr nl s0 R k).1 < 1000003
  | 0 => hs
  | k + 1 => by
    have ih := seS_lt (T := T) (hl := hl) (A := A) (B := B) (n := n) (nr := nr) (nl := nl) (R := R) hs k
    rw [seS]
    split
    · split
      · exact drN_lt _
      · exact drN_lt _
    · exact ih
