theorem MS_tr {G G' : XH} (h : MS G) (hc : ∀ a, a < 105 → hpC G' a = hpC G a) (hn : ∀ a, a < 105 → hpN G' a = hpN G a) (hr : ∀ a k, a < 105 → (¬ a = 6 ∧ ¬ a = 7 ∧ ¬ (a = 53 ∧ k = 2)) → hpR G' a k = hpR G a k) : MS G' := by
  unfold MS at h ⊢
  simp only [hc 70 (by decide), hc 71 (by decide), hc 72 (by decide), hc 73 (by decide), hc 74 (by decide), hc 75 (by decide), hc 76 (by decide), hc 77 (by decide), hc 78 (by decide), hc 79 (by decide), hc 80 (by decide), hc 81 (by decide), hc 82 (by decide), hc 83 (by decide), hc 84 (by decide), hc 85 (by decide), hc 86 (by decide), hc 87 (by decide), hc 88 (by decide), hc 89 (by decide), hc 90 (by decide), hc 91 (by decide), hc 92 (by decide), hc 93 (by decide), hc 94 (by decide), hc 95 (by decide), hc 96 (by decide), hc 97 (by decide), hc 98 (by decide), hc 99 (by decide), hc 100 (by decide), hc 101 (by decide), hc 102 (by decide), hc 103 (by decide), hc 104 (by decide), hn 71 (by decide), hn 72 (by decide), hn 73 (by decide), hn 74 (by decide), hn 75 (by decide), hn 76 (by decide), hn 77 (by decide), hn 78 (by decide), hn 79 (by decide), hn 80 (by decide), hn 81 (by decide), hn 82 (by decide), hn 83 (by decide), hn 84 (by decide), hn 85 (by decide), hn 86 (by decide), hn 87 (by decide), hn 88 (by decide), hn 89 (by decide), hn 90 (by decide), hn 91 (by decide), hn 92 (by decide), hn 93 (by decide), hn 94 (by decide), hn 95 (by decide), hn 96 (by decide), hn 97 (by decide), hn 98 (by decide), hn 99 (by decide), hn 100 (by decide), hn 101 (by decide), hn 102 (by decide), hn 103 (by decide), hn 104 (by decide), hr 70 2 (by decide) (by decide), hr 70 3 (by decide) (by decide), hr 70 4 (by decide) (by decide), hr 70 5 (by decide) (by decide), hr 70 6 (by decide) (by decide), hr 70 7 (by decide) (by decide), hr 70 9 (by decide) (by decide), hr 70 10 (by decide) (by decide), hr 70 12 (by decide) (by decide), hr 70 22 (by decide) (by decide), hr 70 24 (by decide) (by decide), hr 70 25 (by decide) (by decide), hr 70 27 (by decide) (by decide), hr 70 28 (by decide) (by decide), hr 70 31 (by decide) (by decide), hr 70 32 (by decide) (by decide), hr 70 33 (by decide) (by decide), hr 70 35 (by decide) (by decide), hr 70 36 (by decide) (by decide), hr 70 37 (by decide) (by decide), hr 70 44 (by decide) (by decide), hr 70 45 (by decide) (by decide), hr 70 46 (by decide) (by decide), hr 70 48 (by decide) (by decide), hr 70 49 (by decide) (by decide), hr 70 50 (by decide) (by decide), hr 70 51 (by decide) (by decide), hr 70 52 (by decide) (by decide), hr 70 53 (by decide) (by decide), hr 70 54 (by decide) (by decide), hr 70 55 (by decide) (by decide), hr 70 56 (by decide) (by decide), hr 70 57 (by decide) (by decide), hr 70 63 (by decide) (by decide)]
  exact h
theorem CS_tr {G G' : XH} (h : CS G) (hc : ∀ a, a < 105 → hpC G' a = hpC G a) (hn : ∀ a, a < 105 → hpN G' a = hpN G a) (hr : ∀ a k, a < 105 → (¬ a = 6 ∧ ¬ a = 7 ∧ ¬ (a = 53 ∧ k = 2)) → hpR G' a k = hpR G a k) : CS G' := by
  unfold CS at h ⊢
  simp only [hc 0 (by decide), hc 1 (by decide), hc 2 (by decide), hc 3 (by decide), hc 4 (by decide), hc 5 (by decide), hc 6 (by decide), hc 7 (by decide), hc 8 (by decide), hc 9 (by decide), hc 26 (by decide), hc 27 (by decide), hc 28 (by decide), hc 45 (by decide), hc 46 (by decide), hc 47 (by decide), hc 48 (by decide), hc 49 (by decide), hc 50 (by decide), hc 51 (by decide), hc 52 (by decide), hc 53 (by decide), hc 54 (by decide), hc 55 (by decide), hc 56 (by decide), hc 57 (by decide), hc 58 (by decide), hc 59 (by decide), hc 60 (by decide), hc 61 (by decide), hc 62 (by decide), hc 63 (by decide), hc 64 (by decide), hc 65 (by decide), hc 66 (by decide), hc 67 (by decide), hc 68 (by decide), hc 69 (by decide), hn 2 (by decide), hn 3 (by decide), hn 4 (by decide), hn 5 (by decide), hn 6 (by decide), hn 7 (by decide), hn 9 (by decide), hn 26 (by decide), hn 28 (by decide), hn 45 (by decide), hn 46 (by decide), hn 48 (by decide), hn 51 (by decide), hn 52 (by decide), hn 55 (by decide), hn 56 (by decide), hn 57 (by decide), hn 59 (by decide), hn 60 (by decide), hn 61 (by decide), hn 63 (by decide), hn 64 (by decide), hn 66 (by decide), hn 67 (by decide), hn 68 (by decide), hn 69 (by decide), hr 0 0 (by decide) (by decide), hr 0 1 (by decide) (by decide), hr 0 2 (by decide) (by decide), hr 0 3 (by decide) (by decide), hr 0 4 (by decide) (by decide), hr 0 5 (by decide) (by decide), hr 0 6 (by decide) (by decide), hr 0 7 (by decide) (by decide), hr 0 8 (by decide) (by decide), hr 0 9 (by decide) (by decide), hr 0 10 (by decide) (by decide), hr 0 11 (by decide) (by decide), hr 0 12 (by decide) (by decide), hr 0 13 (by decide) (by decide), hr 0 15 (by decide) (by decide), hr 1 0 (by decide) (by decide), hr 1 1 (by decide) (by decide), hr 1 2 (by decide) (by decide), hr 1 3 (by decide) (by decide), hr 1 4 (by decide) (by decide), hr 8 0 (by decide) (by decide), hr 8 1 (by decide) (by decide), hr 27 0 (by decide) (by decide), hr 27 1 (by decide) (by decide), hr 47 0 (by decide) (by decide), hr 49 0 (by decide) (by decide), hr 49 1 (by decide) (by decide), hr 49 2 (by decide) (by decide), hr 50 0 (by decide) (by decide), hr 50 1 (by decide) (by decide), hr 53 0 (by decide) (by decide), hr 53 1 (by decide) (by decide), hr 54 0 (by decide) (by decide), hr 58 0 (by decide) (by decide), hr 58 1 (by decide) (by decide), hr 58 2 (by decide) (by decide), hr 58 3 (by decide) (by decide), hr 58 4 (by decide) (by decide), hr 62 0 (by decide) (by decide), hr 62 1 (by decide) (by decide), hr 62 2 (by decide) (by decide), hr 62 3 (by decide) (by decide), hr 62 4 (by decide) (by decide), hr 65 0 (by decide) (by decide), hr 65 1 (by decide) (by decide)]
  exact h
/-- the heap but for what may be written, and what is new -/
def Fx (W V : Nat → Nat → Bool) (G G' : XH) : Prop := hpZ G ≤ hpZ G' ∧ (∀ a, a < hpZ G → hpC G' a = hpC G a ∧ hpN G' a = hpN G a) ∧ (∀ a k, a < hpZ G → W a k = false → hpI G' a k = hpI G a k) ∧ (∀ a k, a < hpZ G → W a k = false → hpL G' a k = hpL G a k) ∧ (∀ a k, a < hpZ G → V a k = false → hpR G' a k = hpR G a k)
theorem Fr.fx {W V : Nat → Nat → Bool} {G G' : XH} (h : Fr W G G') : Fx W V G G' := ⟨by rw [h.Z]; exact Nat.le_refl _, fun a _ => ⟨by rw [h.C], by rw [h.N]⟩, fun a k _ hw => h.I hw, fun a k _ hw => h.L hw, fun a k _ _ => by rw [h.R]⟩
theorem Fx.refl {W V : Nat → Nat → Bool} {G : XH} : Fx W V G G := Fr.refl.fx
theorem Fx.trans {W V : Nat → Nat → Bool} {G G' G'' : XH} (h : Fx W V G G') (g : Fx W V G' G'') : Fx W V G G'' := by
  obtain ⟨a1, a2, a3, a4, a5⟩ := h
  obtain ⟨b1, b2, b3, b4, b5⟩ := g
  exact ⟨by omega, fun a ha => ⟨(b2 a (by omega)).1.trans (a2 a ha).1, (b2 a (by omega)).2.trans (a2 a ha).2⟩, fun a k ha hw => (b3 a k (by omega) hw).trans (a3 a k ha hw), fun a k ha hw => (b4 a k (by omega) hw).trans (a4 a k ha hw), fun a k ha hw => (b5 a k (by omega) hw).trans (a5 a k ha hw)⟩
theorem Fx.mono {W V W' V' : Nat → Nat → Bool} {G G' : XH} (h : Fx W V G G') (h1 : ∀ a k, W' a k = false → W a k = false) (h2 : ∀ a k, V' a k = false → V a k = false) : Fx W' V' G G' := ⟨h.1, h.2.1, fun a k ha hw => h.2.2.1 a k ha (h1 a k hw), fun a k ha hw => h.2.2.2.1 a k ha (h1 a k hw), fun a k ha hw => h.2.2.2.2 a k ha (h2 a k hw)⟩
/-- references that may be written -/
def VOk (V : Nat → Nat → Bool) : Prop := ∀ a k, a < 105 → (¬ a = 6 ∧ ¬ a = 7 ∧ ¬ (a = 53 ∧ k = 2)) → V a k = false
theorem Fx.cs {W V : Nat → Nat → Bool} {G G' : XH} (h : Fx W V G G') (hz : 105 ≤ hpZ G) (hV : VOk V) (hC : CS G) : CS G' := CS_tr hC (fun a ha => (h.2.1 a (by omega)).1) (fun a ha => (h.2.1 a (by omega)).2) (fun a k ha hk => h.2.2.2.2 a k (by omega) (hV a k ha hk))
theorem Fx.ms {W V : Nat → Nat → Bool} {G G' : XH} (h : Fx W V G G') (hz : 105 ≤ hpZ G) (hV : VOk V) (hC : MS G) : MS G' := MS_tr hC (fun a ha => (h.2.1 a (by omega)).1) (fun a ha => (h.2.1 a (by omega)).2) (fun a k ha hk => h.2.2.2.2 a k (by omega) (hV a k ha hk))
/-- writes in what is new -/
theorem Fx.nI {W V : Nat → Nat → Bool} {G G' : XH} (h : Fx W V G G') {a k : Nat} {v : Int32} (ha : hpZ G ≤ a) : Fx W V G (stI G' a k v) := by
  obtain ⟨a1, a2, a3, a4, a5⟩ := h
  refine ⟨a1, a2, fun x y hx hw => ?_, a4, a5⟩
  show hpI (stI G' a k v) x y = _
  rw [stI_up, hpI_stA_ne (by omega)]
  exact a3 x y hx hw
theorem Fx.nA {W V : Nat → Nat → Bool} {G G' : XH} (h : Fx W V G G') {a : Nat} {f : Nat → Int32} (ha : hpZ G ≤ a) : Fx W V G (stA G' a f) := by
  obtain ⟨a1, a2, a3, a4, a5⟩ := h
  refine ⟨a1, a2, fun x y hx hw => ?_, a4, a5⟩
  rw [hpI_stA_ne (by omega)]
  exact a3 x y hx hw
theorem Fx.nR {W V : Nat → Nat → Bool} {G G' : XH} (h : Fx W V G G') {a k : Nat} {v : Option Nat} (ha : hpZ G ≤ a ∨ V a k = true) : Fx W V G (stR G' a k v) := by
  obtain ⟨a1, a2, a3, a4, a5⟩ := h
  refine ⟨a1, a2, a3, a4, fun x y hx hw => ?_⟩
  have : hpR (stR G' a k v) x y = hpR G' x y := by
    show up2 (hpR G') a k v x y = _
    unfold up2
    split
    · next e1 =>
      split
      · next e2 =>
        rcases ha with z | z
        · omega
        · rw [e1, e2, z] at hw; cases hw
      · rfl
    · rfl
  rw [this]
  exact a5 x y hx hw
theorem Fx.nN {W V : Nat → Nat → Bool} {G G' : XH} (h : Fx W V G G') {c n : Nat} : Fx W V G (stN G' c n) := by
  obtain ⟨a1, a2, a3, a4, a5⟩ := h
  refine ⟨by show hpZ G ≤ hpZ G' + 1; omega, fun a ha => ?_, fun x y hx hw => ?_, fun x y hx hw => ?_, fun x y hx hw => ?_⟩
  · have e : ¬ a = hpZ G' := by omega
    refine ⟨?_, ?_⟩
    · show up1 (hpC G') (hpZ G') c a = _
      unfold up1
      rw [if_neg e]; exact (a2 a ha).1
    · show up1 (hpN G') (hpZ G') n a = _
      unfold up1
      rw [if_neg e]; exact (a2 a ha).2
  · have e : ¬ x = hpZ G' := by omega
    show up1 (hpI G') (hpZ G') (fun _ => 0) x y = _
    unfold up1
    rw [if_neg e]; exact a3 x y hx hw
  · have e : ¬ x = hpZ G' := by omega
    show up1 (hpL G') (hpZ G') (fun _ => 0) x y = _
    unfold up1
    rw [if_neg e]; exact a4 x y hx hw
  · have e : ¬ x = hpZ G' := by omega
    show up1 (hpR G') (hpZ G') (fun _ => none) x y = _
    unfold up1
    rw [if_neg e]; exact a5 x y hx hw
theorem sN_C {G : XH} {c n : Nat} : hpC (stN G c n) (hpZ G) = c := by show up1 (hpC G) (hpZ G) c (hpZ G) = c; unfold up1; rw [if_pos rfl]
theorem sN_N {G : XH} {c n : Nat} : hpN (stN G c n) (hpZ G) = n := by show up1 (hpN G) (hpZ G) n (hpZ G) = n; unfold up1; rw [if_pos rfl]
theorem sN_Cn {G : XH} {c n a : Nat} (h : ¬ a = hpZ G) : hpC (stN G c n) a = hpC G a := by show up1 (hpC G) (hpZ G) c a = _; unfold up1; rw [if_neg h]
theorem sN_Nn {G : XH} {c n a : Nat} (h : ¬ a = hpZ G) : hpN (stN G c n) a = hpN G a := by show up1 (hpN G) (hpZ G) n a = _; unfold up1; rw [if_neg h]
theorem sN_In {G : XH} {c n a : Nat} (h : ¬ a = hpZ G) : hpI (stN G c n) a = hpI G a := by show up1 (hpI G) (hpZ G) (fun _ => 0) a = _; unfold up1; rw [if_neg h]
theorem c_copyOf {G : XH} {a n : Nat} (hc : hpC G a = 20) (hn : n ≤ hpN G a) (hN : hpN G a ≤ 1000) (ha : a < hpZ G) : SP D_Arrays_copyOf [.ref a, .int (nI n)] G (fun z => z.1 = some (.ref (hpZ G)) ∧ Fx (fun _ _ => false) (fun _ _ => false) G z.2 ∧ hpZ z.2 = hpZ G + 1 ∧ hpS z.2 = hpS G + n ∧ hpC z.2 (hpZ G) = 20 ∧ hpN z.2 (hpZ G) = n ∧ ∀ k, k < n → hpI z.2 (hpZ G) k = hpI G a k) := by
  have p1 : 0 ≤ nI n := nI_pos' (by omega)
  have c1 : (nI n).toNatClampNeg = n := nI_clamp (by omega)
  have ea : Int32.ofNat (hpN G a) = nI (hpN G a) := rfl
  have g20 : (20 ≤ 20 ∧ 20 ≤ 25) = True := eq_true ⟨by omega, by omega⟩
  rw [e_Arrays_copyOf]
  by_cases q : n = hpN G a
  · have g : (nI n = nI (hpN G a)) = True := eq_true (by rw [q])
    have gs : (20 = 20) = True := eq_true rfl
    have hcl : hpC (stA (stN G 20 (hpN G a)) (hpZ G) (hpI G a)) (hpZ G) = 20 := sN_C (n := hpN G a)
    simp only [k_Arrays_copyOf_0, w_iadd, w_isub, w_imul, w_iand, w_ior, w_ixor, w_ishl, w_ishr, w_iushr, w_idiv, w_irem, w_ineg, w_ladd, w_lsub, w_lmul, w_ldiv, w_lrem, w_i2l, w_l2i, w_i2c, w_lcmp, w_dup_int, w_pop_int, w_dup_ref, w_pop_ref, w_dup_retAddr, w_pop_retAddr, w_dup2, w_I, w_L, w_Null, w_Ild, w_Lld, w_Ald, w_Ist, w_Lst, w_Ast, w_Iinc, w_if_eq, w_icmp_eq, w_if_ne, w_icmp_ne, w_if_lt, w_icmp_lt, w_if_ge, w_icmp_ge, w_if_gt, w_icmp_gt, w_if_le, w_icmp_le, w_GetI, w_GetL, w_GetR, w_PutI, w_PutZ, w_PutL, w_PutR, w_PutN, w_Iald, w_Zald, w_Lald, w_Aald, w_Iast, w_Zast, w_Last, w_AastR, w_AastN, w_Alen, w_New, w_NewA, w_Mna, w_Iret, w_Zret, w_Cret, w_Bret, w_Lret, w_AretR, w_AretN, w_Vret, w_Obj, w_IfNN, w_IfNR, w_Copy, w_Cln, w_Cast, w_SfA, w_SfI, w_SfQ, w_Str, w_ScLd, w_ScLen, w_CV0, w_CS0, w_CV1, w_CS1, w_CV2, w_CS2, w_CV3, w_CS3, w_CV4, w_CS4, w_CV5, w_CS5, List.getElem?_cons_zero, List.getElem?_cons_succ, List.set_cons_zero, List.set_cons_succ, List.length_cons, List.length_nil, List.map_cons, List.map_nil, List.sum_cons, List.sum_nil, List.nil_append, List.cons_append, Option.toList_some, Option.toList_none, Value.category, xok, va_rf, true_and, and_true, and_self, Nat.reduceAdd, Nat.reduceLT, Nat.reduceLeDiff, Nat.reduceEqDiff, Nat.reduceMul, beq_self_eq_true, decide_true, ite_true, ite_false, if_true, if_false, reduceIte, Bool.true_eq_false, Bool.false_eq_true, eq_self_iff_true, Nat.zero_le, not_true_eq_false, not_false_eq_true, forall_const, false_implies, implies_true, forall_false, hc, g20, ea, g, hcl, ne10, ne10L, ne01, ne01L, tt_imp, nt_imp, ff_imp, nf_imp, true_and, and_true, true_or, or_true, reduceIte]
    refine ⟨(Fx.refl.nN).nA (Nat.le_refl _), rfl, by rw [q]; rfl, by rw [q]; exact sN_N (c := 20) (n := hpN G a), fun k hk => ?_⟩
    rw [hpI_stA]
  · have g : (nI n = nI (hpN G a)) = False := eq_false (by rw [nl_eq (by omega) (by omega)]; exact q)
    have l1 : n ≤ 100000 := by omega
    obtain ⟨G1, hG1⟩ : ∃ G1, G1 = stN G 20 n := ⟨_, rfl⟩
    have z1 : hpC G1 (hpZ G) = 20 := by rw [hG1]; exact sN_C
    have z2 : hpN G1 (hpZ G) = n := by rw [hG1]; exact sN_N
    have z3 : hpC G1 a = 20 := by rw [hG1, sN_Cn (by omega)]; exact hc
    have z4 : hpN G1 a = hpN G a := by rw [hG1, sN_Nn (by omega)]
    have z5 : hpI G1 a = hpI G a := by rw [hG1, sN_In (by omega)]
    have ea1 : Int32.ofNat (hpN G1 a) = nI (hpN G a) := by rw [z4]; rfl
    have hmin : (if nI (hpN G a) ≤ nI n then nI (hpN G a) else nI n) = nI n := by
      have g : (nI (hpN G a) ≤ nI n) = False := eq_false (by rw [nl_le (by omega) (by omega)]; omega)
      simp only [g, if_false]
    have l2 : n ≤ hpN G a := hn
    simp only [k_Arrays_copyOf_0, w_iadd, w_isub, w_imul, w_iand, w_ior, w_ixor, w_ishl, w_ishr, w_iushr, w_idiv, w_irem, w_ineg, w_ladd, w_lsub, w_lmul, w_ldiv, w_lrem, w_i2l, w_l2i, w_i2c, w_lcmp, w_dup_int, w_pop_int, w_dup_ref, w_pop_ref, w_dup_retAddr, w_pop_retAddr, w_dup2, w_I, w_L, w_Null, w_Ild, w_Lld, w_Ald, w_Ist, w_Lst, w_Ast, w_Iinc, w_if_eq, w_icmp_eq, w_if_ne, w_icmp_ne, w_if_lt, w_icmp_lt, w_if_ge, w_icmp_ge, w_if_gt, w_icmp_gt, w_if_le, w_icmp_le, w_GetI, w_GetL, w_GetR, w_PutI, w_PutZ, w_PutL, w_PutR, w_PutN, w_Iald, w_Zald, w_Lald, w_Aald, w_Iast, w_Zast, w_Last, w_AastR, w_AastN, w_Alen, w_New, w_NewA, w_Mna, w_Iret, w_Zret, w_Cret, w_Bret, w_Lret, w_AretR, w_AretN, w_Vret, w_Obj, w_IfNN, w_IfNR, w_Copy, w_Cln, w_Cast, w_SfA, w_SfI, w_SfQ, w_Str, w_ScLd, w_ScLen, w_CV0, w_CS0, w_CV1, w_CS1, w_CV2, w_CS2, w_CV3, w_CS3, w_CV4, w_CS4, w_CV5, w_CS5, List.getElem?_cons_zero, List.getElem?_cons_succ, List.set_cons_zero, List.set_cons_succ, List.length_cons, List.length_nil, List.map_cons, List.map_nil, List.sum_cons, List.sum_nil, List.nil_append, List.cons_append, Option.toList_some, Option.toList_none, Value.category, xok, va_rf, true_and, and_true, and_self, Nat.reduceAdd, Nat.reduceLT, Nat.reduceLeDiff, Nat.reduceEqDiff, Nat.reduceMul, beq_self_eq_true, decide_true, ite_true, ite_false, if_true, if_false, reduceIte, Bool.true_eq_false, Bool.false_eq_true, eq_self_iff_true, Nat.zero_le, not_true_eq_false, not_false_eq_true, forall_const, false_implies, implies_true, forall_false, stI_C, stI_N, stI_Z, stI_S, stI_L, stI_R, stL_C, stL_N, stL_Z, stL_S, stL_I, stL_R, stR_C, stR_N, stR_Z, stR_S, stR_I, stR_L, stA_C, stA_N, stA_Z, stA_S, stA_L, stA_R, stI_I, stL_L, stR_R, stA_I, stN_C, stN_N, stN_Z, stN_S, stN_I, stN_L, stN_R, stI_ne, stL_ne, stR_ne, tn_0, tn_1, tn_2, tn_3, tn_4, tn_5, tn_6, tn_7, tn_8, tn_9, tn_10, tn_11, tn_12, tn_13, tn_14, tn_15, tn_16, tn_17, tn_18, tn_19, tn_20, tn_21, tn_22, tn_23, tn_24, tn_25, tn_26, tn_27, tn_28, tn_29, tn_30, tn_31, tn_32, tn_33, tn_34, tn_35, tn_36, tn_37, tn_38, tn_39, tn_40, tn_41, tn_42, tn_43, tn_44, tn_45, tn_46, tn_47, tn_48, tn_49, tn_50, tn_51, tn_52, tn_53, tn_54, tn_55, tn_56, tn_57, tn_58, tn_59, tn_60, tn_61, tn_62, tn_63, tn_64, tn_65, tn_66, tn_67, tn_68, tn_69, tn_70, tn_71, tn_72, tn_73, tn_74, tn_75, tn_76, tn_77, tn_78, tn_79, tn_80, tn_81, tn_82, tn_83, tn_84, tn_85, tn_86, tn_87, tn_88, tn_89, tn_90, tn_91, tn_92, tn_93, tn_94, tn_95, tn_96, tn_97, tn_98, tn_99, tn_100, tn_101, tn_102, tn_103, tn_104, tn_105, tn_106, tn_107, tn_108, tn_109, tn_110, tn_111, tn_112, tn_113, tn_114, tn_115, tn_116, tn_117, tn_118, tn_119, tn_120, tn_121, tn_122, tn_123, tn_124, tn_125, tn_126, tn_127, tn_128, tn_129, tn_130, tn_131, tn_132, tn_133, tn_134, tn_135, tn_136, tn_137, tn_138, tn_139, tn_140, tn_141, tn_142, tn_143, tn_144, tn_145, tn_146, tn_147, tn_148, tn_149, tn_150, tn_151, tn_152, tn_153, tn_154, tn_155, tn_156, tn_157, tn_158, tn_159, tn_160, tn_161, tn_162, tn_163, tn_164, tn_165, tn_166, tn_167, tn_168, tn_169, tn_170, tn_171, tn_172, tn_173, tn_174, tn_175, tn_176, tn_177, tn_178, tn_179, tn_180, tn_181, tn_182, tn_183, tn_184, tn_185, tn_186, tn_187, tn_188, tn_189, tn_190, tn_191, tn_192, tn_193, tn_194, tn_195, tn_196, tn_197, tn_198, tn_199, tn_255, tn_256, tn_300, tn_399, tn_400, tn_500, tn_900, tn_999, tn_1000, tn_1001, tn_1024, tn_2048, tn_2176, tn_3536, tn_4095, tn_4096, tn_5580, tn_11160, tn_12345, tn_1103, tn_99999, tn_1000000, tn_1000003, tn_100000000, tn_1000000000, ge0_0, ge0_1, ge0_2, ge0_3, ge0_4, ge0_5, ge0_6, ge0_7, ge0_8, ge0_9, ge0_10, ge0_11, ge0_12, ge0_13, ge0_14, ge0_15, ge0_16, ge0_17, ge0_18, ge0_19, ge0_20, ge0_21, ge0_22, ge0_23, ge0_24, ge0_25, ge0_26, ge0_27, ge0_28, ge0_29, ge0_30, ge0_31, ge0_32, ge0_33, ge0_34, ge0_35, ge0_36, ge0_37, ge0_38, ge0_39, ge0_40, ge0_41, ge0_42, ge0_43, ge0_44, ge0_45, ge0_46, ge0_47, ge0_48, ge0_49, ge0_50, ge0_51, ge0_52, ge0_53, ge0_54, ge0_55, ge0_56, ge0_57, ge0_58, ge0_59, ge0_60, ge0_61, ge0_62, ge0_63, ge0_64, ge0_65, ge0_66, ge0_67, ge0_68, ge0_69, ge0_70, ge0_71, ge0_72, ge0_73, ge0_74, ge0_75, ge0_76, ge0_77, ge0_78, ge0_79, ge0_80, ge0_81, ge0_82, ge0_83, ge0_84, ge0_85, ge0_86, ge0_87, ge0_88, ge0_89, ge0_90, ge0_91, ge0_92, ge0_93, ge0_94, ge0_95, ge0_96, ge0_97, ge0_98, ge0_99, ge0_100, ge0_101, ge0_102, ge0_103, ge0_104, ge0_105, ge0_106, ge0_107, ge0_108, ge0_109, ge0_110, ge0_111, ge0_112, ge0_113, ge0_114, ge0_115, ge0_116, ge0_117, ge0_118, ge0_119, ge0_120, ge0_121, ge0_122, ge0_123, ge0_124, ge0_125, ge0_126, ge0_127, ge0_128, ge0_129, ge0_130, ge0_131, ge0_132, ge0_133, ge0_134, ge0_135, ge0_136, ge0_137, ge0_138, ge0_139, ge0_140, ge0_141, ge0_142, ge0_143, ge0_144, ge0_145, ge0_146, ge0_147, ge0_148, ge0_149, ge0_150, ge0_151, ge0_152, ge0_153, ge0_154, ge0_155, ge0_156, ge0_157, ge0_158, ge0_159, ge0_160, ge0_161, ge0_162, ge0_163, ge0_164, ge0_165, ge0_166, ge0_167, ge0_168, ge0_169, ge0_170, ge0_171, ge0_172, ge0_173, ge0_174, ge0_175, ge0_176, ge0_177, ge0_178, ge0_179, ge0_180, ge0_181, ge0_182, ge0_183, ge0_184, ge0_185, ge0_186, ge0_187, ge0_188, ge0_189, ge0_190, ge0_191, ge0_192, ge0_193, ge0_194, ge0_195, ge0_196, ge0_197, ge0_198, ge0_199, ge0_255, ge0_256, ge0_300, ge0_399, ge0_400, ge0_500, ge0_900, ge0_999, ge0_1000, ge0_1001, ge0_1024, ge0_2048, ge0_2176, ge0_3536, ge0_4095, ge0_4096, ge0_5580, ge0_11160, ge0_12345, ge0_1103, ge0_99999, ge0_1000000, ge0_1000003, ge0_100000000, ge0_1000000000, hc, g20, ea, g, p1, c1, l1, ← hG1, z1, z3, ea1, c_min, hmin, z2, z4, l2, Nat.zero_add, Nat.le_refl, Int32.le_refl, ne10, ne10L, ne01, ne01L, tt_imp, nt_imp, ff_imp, nf_imp, true_and, and_true, true_or, or_true, reduceIte]
    refine ⟨by rw [hG1]; exact (Fx.refl.nN).nA (Nat.le_refl _), by rw [hG1]; rfl, by rw [hG1]; rfl, fun k hk => ?_⟩
    have hk' := hk
    first
      | (rw [hpI_stA, cpy_in (by omega), z5]; exact congrArg (hpI G a) (by omega))
      | (rw [cpy_in (by omega), z5]; exact congrArg (hpI G a) (by omega))
      | (rw [cpy_in (by omega)]; exact congrArg (hpI G a) (by omega))
