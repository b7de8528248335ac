theorem nI_64 {n : Nat} (h : n < 2147483648) : (nI n).toInt64 = Int64.ofNat n := by
  apply Int64.toInt_inj.mp
  rw [Int32.toInt_toInt64]
  have h1 : (nI n).toInt = n := Int32.toInt_ofNat_of_lt (by omega)
  rw [h1, Int64.toInt_ofNat_of_lt (by omega)]
def stM (G : XH) (a : Nat) (f : Nat → Int64) : XH := (G.1, G.2.1, G.2.2.1, up1 G.2.2.2.1 a f, G.2.2.2.2.1, G.2.2.2.2.2.1, G.2.2.2.2.2.2)
theorem stL_stM {G : XH} {a k : Nat} {f : Nat → Int64} {v : Int64} : stL (stM G a f) a k v = stM G a (fun j => if j = k then v else f j) := by
  unfold stL stM
  have : up2 (up1 G.2.2.2.1 a f) a k v = up1 G.2.2.2.1 a (fun j => if j = k then v else f j) := by
    funext x y
    unfold up1 up2
    by_cases h : x = a <;> simp [h]
  simp only [this]
theorem hpL_stM {G : XH} {a : Nat} {f : Nat → Int64} : hpL (stM G a f) a = f := by
  unfold stM
  show up1 _ a f a = f
  unfold up1
  simp
theorem hpL_stM_ne {G : XH} {a x : Nat} {f : Nat → Int64} (h : ¬ x = a) : hpL (stM G a f) x = hpL G x := by
  unfold stM
  show up1 _ a f x = _
  unfold up1
  simp [h]
/-- a row of longs holds a stack, its top last -/
def RS (R : Nat → Int64) : List Int64 → Prop
  | [] => True
  | x :: r => R r.length = x ∧ RS R r
theorem RS_up {R : Nat → Int64} {n : Nat} {v : Int64} : ∀ (st : List Int64), st.length ≤ n → RS R st → RS (fun j => if j = n then v else R j) st
  | [], _, _ => trivial
  | x :: r, h, hr => ⟨by
      simp only [List.length_cons] at h
      simp only [show ¬ r.length = n by omega, if_false]
      exact hr.1, RS_up r (by simp only [List.length_cons] at h; omega) hr.2⟩
/-- the model's heap while it reckons -/
def evG (R : Nat → Int64) (b : Int32) (G : XH) : XH := stI (stM G 90 R) 70 38 b
theorem MS_ev {G : XH} {R : Nat → Int64} {b : Int32} (h : MS G) : MS (evG R b G) := h
theorem ev_R {G : XH} {R : Nat → Int64} {b : Int32} : hpL (evG R b G) 90 = R := hpL_stM
theorem ev_L {G : XH} {R : Nat → Int64} {b : Int32} {x : Nat} (h : ¬ x = 90) : hpL (evG R b G) x = hpL G x := hpL_stM_ne h
theorem ev_I {G : XH} {R : Nat → Int64} {b : Int32} {x : Nat} (h : ¬ x = 70) : hpI (evG R b G) x = hpI G x := by
  unfold evG
  rw [stI_ne h]
  rfl
theorem ev_m {G : XH} {R : Nat → Int64} {b : Int32} {y : Nat} (h : ¬ y = 38) : hpI (evG R b G) 70 y = hpI G 70 y := by
  unfold evG
  simp only [stI_C, stI_N, stI_Z, stI_S, stI_L, stI_R, stL_C, stL_N, stL_Z, stL_S, stL_I, stL_R, stR_C, stR_N, stR_Z, stR_S, stR_I, stR_L, stA_C, stA_N, stA_Z, stA_S, stA_L, stA_R, stI_I, stL_L, stR_R, stA_I, stN_C, stN_N, stN_Z, stN_S, stN_I, stN_L, stN_R, stI_ne, stL_ne, stR_ne, h]
  rfl
theorem ev_b {G : XH} {R : Nat → Int64} {b : Int32} : hpI (evG R b G) 70 38 = b := by
  unfold evG
  simp only [stI_C, stI_N, stI_Z, stI_S, stI_L, stI_R, stL_C, stL_N, stL_Z, stL_S, stL_I, stL_R, stR_C, stR_N, stR_Z, stR_S, stR_I, stR_L, stA_C, stA_N, stA_Z, stA_S, stA_L, stA_R, stI_I, stL_L, stR_R, stA_I, stN_C, stN_N, stN_Z, stN_S, stN_I, stN_L, stN_R, stI_ne, stL_ne, stR_ne, List.getElem?_cons_zero, List.getElem?_cons_succ, List.set_cons_zero, List.set_cons_succ, List.length_cons, List.length_nil, List.map_cons, List.map_nil, List.sum_cons, List.sum_nil, List.nil_append, List.cons_append, Option.toList_some, Option.toList_none, Value.category, xok, va_rf, true_and, and_true, and_self, Nat.reduceAdd, Nat.reduceLT, Nat.reduceLeDiff, Nat.reduceEqDiff, Nat.reduceMul, beq_self_eq_true, decide_true, ite_true, ite_false, if_true, if_false, reduceIte, Bool.true_eq_false, Bool.false_eq_true, eq_self_iff_true, Nat.zero_le, not_true_eq_false, not_false_eq_true, forall_const, false_implies, implies_true, forall_false]
theorem ev_st {G : XH} {R : Nat → Int64} {b : Int32} {k : Nat} {v : Int64} : stL (evG R b G) 90 k v = evG (fun j => if j = k then v else R j) b G := by
  unfold evG
  rw [← stL_stM]
  rfl
theorem ev_bb {G : XH} {R : Nat → Int64} {b c : Int32} : stI (evG R b G) 70 38 c = evG R c G := by
  unfold evG
  rw [stI_A (G := stI _ _ _ _), stI_A (G := stM G 90 R), stA_stA, stI_A (G := stM G 90 R)]
  refine congrArg (stA _ 70) (funext fun j => ?_)
  simp only [hpI_stA]
  split <;> rfl
/-- the model's op and arg, as the pure machine has them -/
def MI (od : Bool) (op arg : Int32) (x : Nat × Nat) : Prop :=
  (op = 0 ∧ x.1 = 0 ∧ arg = nI x.2 ∧ x.2 ≤ 1000) ∨
  (∃ w, w < (if od then 5 else 10) ∧ op = nI (w + 1) ∧ x = (1, w)) ∨
  (od = true ∧ ∃ r, r < 8 ∧ op = 6 ∧ arg = nI r ∧ x = (1, 5 + r)) ∨
  (od = true ∧ ∃ r, r < 8 ∧ op = 7 ∧ arg = nI r ∧ x = (1, 13 + r)) ∨
  (2 ≤ x.1 ∧ x.1 ≤ 9 ∧ op = nI (18 + x.1)) ∨
  (x.1 = 10 ∧ op = 28) ∨
  (x.1 = 12 ∧ op = 29 ∧ arg = nI x.2 ∧ x.2 ≤ 400) ∨
  (x.1 = 11 ∧ op = 30 ∧ arg = nI x.2 ∧ x.2 ≤ 400)
/-- the words of the model -/
def menv (od : Bool) (G : XH) : Nat → Int64 := fun w => if od then (if w < 5 then hpL G 89 (w + 1) else if w < 13 then (if nI (w - 5) < hpI G 72 1 then (hpI G 72 (9 + 6 * (w - 5) + 2)).toInt64 else -1) else (if nI (w - 13) < hpI G 72 1 then (hpI G 72 (9 + 6 * (w - 13) + 4)).toInt64 else -1)) else hpL G 88 (w + 1)
