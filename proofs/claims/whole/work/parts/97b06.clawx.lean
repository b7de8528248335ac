/-- a law of the class in cells of B -/
def LawD (G : XH) (B : Nat → Prop) (t n : Nat) (kd : Nat → Nat) (sm ts : Nat → (Nat → Int64) → Option Int64) : Prop := ∃ cd rw lim I, (105 ≤ t ∧ 105 ≤ cd ∧ 105 ≤ rw ∧ TX G t cd rw lim n ∧ n ≤ 12 ∧ FW I lim ∧ (∀ k, k < lim → CI (hpI G cd k) (I k) ∧ ((I k).1 = 1 → (I k).2 < 10) ∧ ((I k).1 = 11 ∨ (I k).1 = 12 → (I k).2 ≤ 400)) ∧ ∀ c, c < n → ClC (hpI G rw) I lim c (kd c) (sm c) (ts c)) ∧ B t ∧ B cd ∧ B rw
theorem LawD.law {G : XH} {B : Nat → Prop} {t n : Nat} {kd : Nat → Nat} {sm ts : Nat → (Nat → Int64) → Option Int64} (h : LawD G B t n kd sm ts) : LawC G t n kd sm ts := by
  obtain ⟨cd, rw', lim, I, h, _⟩ := h
  exact ⟨cd, rw', lim, I, h⟩
theorem LawD.fx {W V : Nat → Nat → Bool} {G G' : XH} {B B' : Nat → Prop} {t n : Nat} {kd : Nat → Nat} {sm ts : Nat → (Nat → Int64) → Option Int64} (h : LawD G B t n kd sm ts) (hf : Fx W V G G') (hB : ∀ x, B x → x < hpZ G ∧ (∀ k, W x k = false) ∧ (∀ k, V x k = false)) (hB' : ∀ x, B x → B' x) : LawD G' B' t n kd sm ts := by
  obtain ⟨cd, rw', lim, I, ⟨a1, a2, a3, ⟨b1, b2, b3, b4, b5, b6, b7, b8, b9, b10, b11⟩, a5, a6, a7, a8⟩, c1, c2, c3⟩ := h
  obtain ⟨z1, w1, v1⟩ := hB t c1
  obtain ⟨z2, w2, v2⟩ := hB cd c2
  obtain ⟨z3, w3, v3⟩ := hB rw' c3
  have i1 : hpI G' t = hpI G t := hf.IA z1 w1
  have i2 : hpI G' cd = hpI G cd := hf.IA z2 w2
  have i3 : hpI G' rw' = hpI G rw' := hf.IA z3 w3
  refine ⟨cd, rw', lim, I, ⟨a1, a2, a3, ⟨?_, ?_, ?_, ?_, ?_, ?_, ?_, ?_, ?_, ?_, ?_⟩, a5, a6, ?_, ?_⟩, hB' _ c1, hB' _ c2, hB' _ c3⟩
  · rw [hf.C z1]; exact b1
  · rw [hf.R z1 (v1 _)]; exact b2
  · rw [hf.R z1 (v1 _)]; exact b3
  · rw [hf.C z2]; exact b4
  · rw [hf.C z3]; exact b5
  · rw [hf.N z2]; exact b6
  · rw [hf.N z2]; exact b7
  · rw [hf.N z3]; exact b8
  · rw [hf.N z3]; exact b9
  · rw [i1]; exact b10
  · rw [i1]; exact b11
  · rw [i2]; exact a7
  · rw [i3]; exact a8
theorem LawD_of {G G' : XH} {B : Nat → Prop} {t cd rw' sz : Nat} {L : List CLd} (h1 : 105 ≤ t) (h2 : 105 ≤ cd) (h3 : 105 ≤ rw') (b1 : B t) (b2 : B cd) (b3 : B rw') (hTX : TX G' t cd rw' sz L.length) (hL : L.length ≤ 12) (hPW : PWg 10 G 0 sz) (hCl : ∀ i, i < L.length → CCl 10 G i (L.getD i clD) sz) (hcd : ∀ k, k < sz → hpI G' cd k = hpI G 51 k) (hrw : ∀ k, k < 6 * L.length → hpI G' rw' k = hpI G 52 k) (hk : ∀ i, i < L.length → CLk false (L.getD i clD)) (hl : ∀ i, i < L.length → CLl (L.getD i clD)) : LawD G' B t L.length (fun c => (L.getD c clD).1) (fun c => (L.getD c clD).2.1) (fun c => (L.getD c clD).2.2.2.2) := by
  refine ⟨cd, rw', sz, cdC G, ⟨h1, h2, h3, hTX, hL, fun k hk' hj => ((hPW.1 k (by omega) hk').2.2.2.2 hj).1, fun k hk' => ⟨by rw [hcd k hk']; exact hPW.2 k (by omega) hk', fun z => (hPW.1 k (by omega) hk').2.2.1 z, fun z => ((hPW.1 k (by omega) hk').2.2.2.2 z).2.2⟩, fun i hi => ?_⟩, b1, b2, b3⟩
  obtain ⟨p0, p1, p2, p3, a0, a1, a2, a3, a4, a5, s1, s2, s3, s4⟩ := hCl i hi
  obtain ⟨v1, v2, _⟩ := hk i hi
  obtain ⟨k4, kw⟩ := hl i hi
  have e12 : p1 = p2 := by rw [kw] at s2; exact s2
  have l1 := s1.pw.2
  have l3 := s3.pw.2
  refine ⟨(hrw (6 * i) (by omega)).trans a0, k4, ⟨p0, p1, (hrw _ (by omega)).trans a1, (hrw _ (by omega)).trans a2, by omega, l1, fun hlt => ?_, fun he e => ?_⟩, ⟨p2, p3, (hrw _ (by omega)).trans a3, (hrw _ (by omega)).trans a4, s4, l3, fun hlt => ?_, fun he e => ?_⟩, v2, v1⟩
  · rcases s1 with ⟨_, h, hh, ok⟩ | ⟨z, _⟩
    · exact ⟨h, hh, ok.1.2.2.1 _ (fun _ _ _ => rfl)⟩
    · omega
  · rcases s1 with ⟨z, _⟩ | ⟨_, z⟩
    · omega
    · dsimp only
      rw [z]
      rfl
  · rcases s3 with ⟨_, h, hh, ok⟩ | ⟨z, _⟩
    · exact ⟨h, hh, ok.1.2.2.1 _ (fun _ _ _ => rfl)⟩
    · omega
  · rcases s3 with ⟨z, _⟩ | ⟨_, z⟩
    · omega
    · dsimp only
      rw [z]
      rfl
def WLc : Nat → Nat → Bool := fun a k => WRe a k || (a == 0 && (k == 16 || k == 17)) || a == 69 || (a == 1 && k == 6)
theorem WRe_WLc (a k : Nat) (h : WLc a k = false) : WRe a k = false := by
  unfold WLc at h
  simp only [Bool.or_eq_false_iff] at h
  exact h.1.1.1
def VLc (nl : Nat) : Nat → Nat → Bool := fun a k => a == 6 && k == nl
theorem VLc_VOk {nl : Nat} : VOk (VLc nl) := fun a k _ h => by
  unfold VLc
  have : ¬ a = 6 := h.1
  simp [this]
def LcQ (b : Nat → Nat) (len nl : Nat) (G : XH) (z : XR) : Prop := hpI z.2 47 1 = 0 ∧ match gText b len false with
  | .error e => z.1 = some (.int (-6)) ∧ Fr WLc G z.2 ∧ hpI z.2 0 17 = nI e ∧ hpI z.2 0 16 = -6 ∧ hpI z.2 69 = rfC (hpI G 69) (-6) ∧ hpI z.2 1 = hpI G 1
  | .ok L => z.1 = some (.int (nI nl)) ∧ Fx WLc (VLc nl) G z.2 ∧ hpZ z.2 = hpZ G + 3 ∧ hpS z.2 ≤ hpS G + 476 ∧ hpI z.2 0 17 = -1 ∧ hpI z.2 0 16 = 0 ∧ hpI z.2 69 = hpI G 69 ∧ hpI z.2 1 6 = nI (nl + 1) ∧ hpR z.2 6 nl = some (hpZ G) ∧ L.length ≤ 12 ∧ LawD z.2 (fun x => hpZ G ≤ x ∧ x < hpZ G + 3) (hpZ G) L.length (fun c => (L.getD c clD).1) (fun c => (L.getD c clD).2.1) (fun c => (L.getD c clD).2.2.2.2)
theorem c_law {G : XH} (hC : CS G) {b : Nat → Nat} {len : Nat} (hT : TB G b len) (ht : hpI G 47 1 = nI len) {nl : Nat} (hnl : nl < 6) (h6 : hpI G 1 6 = nI nl) (hz : 105 ≤ hpZ G) : SP D_Post_law [.ref 0] G (LcQ b len nl G) := by
  have g6 : (nI nl < 6) = True := eq_true (by rw [show (6 : Int32) = nI 6 from rfl, nl_lt (by omega) (by omega)]; omega)
  have l400 := hT.1
  obtain ⟨P, hP⟩ : ∃ P : XR → Prop, P = LcQ b len nl G := ⟨_, rfl⟩
  rw [← hP, e_Post_law]
  obtain ⟨A1, hA1⟩ : ∃ A1 : XK, A1 = (xAld 0 (xGetR 10 0 (xGetR 0 4 (xAld 0 (xGetR 10 0 (xGetI 0 6 (xNew 3 4 (xdup (xAld 0 (xGetR 10 7 (xGetR 4 0 (xCallV 3 1 D_Text_init_1 (xAasth 25 3 (xAld 0 (xGetR 10 0 (xdup (xGetI 0 6 (xI 1 (xiadd (xPutI 0 6 (xAld 0 (xAld 0 (xGetR 10 0 (xGetI 0 6 (xI 1 k_Post_law_105))))))))))))))))))))))))) := ⟨_, rfl⟩
  obtain ⟨m, hm, hk0⟩ : ∃ m : Int32, m = -1 ∧ k_Post_law_0 = (xAld 0 (xGetR 10 0 (xGetI 0 6 (xI 6 (xicmp_lt (xAld 0 (xAld 0 (xGetR 10 7 (xI 1 (xCallV 4 1 D_Grammar_reads (xPutI 10 17 (xAld 0 (xGetI 10 17 (xI m (xicmp_eq A1 (xAld 0 (xI (-6) (xCallV 10 1 D_Post_refuse (xIret ())))))))))))))) (xAld 0 (xGetR 10 6 (xI 0 (xPutI 2 1 (xAld 0 (xI (-5) (xCallV 10 1 D_Post_refuse (xIret ()))))))))))))) := ⟨_, rfl, by rw [hA1]; rfl⟩
  rw [hk0]
  simp only [w_iadd, w_isub, w_imul, w_iand, w_ior, w_ixor, w_ishl, w_ishr, w_iushr, w_idiv, w_irem, w_ineg, w_ladd, w_lsub, w_lmul, w_ldiv, w_lrem, w_i2l, w_l2i, w_i2c, w_lcmp, w_dup_int, w_pop_int, w_dup_ref, w_pop_ref, w_dup_retAddr, w_pop_retAddr, w_dup2, w_I, w_L, w_Null, w_Ild, w_Lld, w_Ald, w_Ist, w_Lst, w_Ast, w_Iinc, w_if_eq, w_icmp_eq, w_if_ne, w_icmp_ne, w_if_lt, w_icmp_lt, w_if_ge, w_icmp_ge, w_if_gt, w_icmp_gt, w_if_le, w_icmp_le, w_GetI, w_GetL, w_GetR, w_PutI, w_PutZ, w_PutL, w_PutR, w_PutN, w_Iald, w_Zald, w_Lald, w_Aald, w_Iast, w_Zast, w_Last, w_AastR, w_AastN, w_Alen, w_New, w_NewA, w_Mna, w_Iret, w_Zret, w_Cret, w_Bret, w_Lret, w_AretR, w_AretN, w_Vret, w_Obj, w_IfNN, w_IfNR, w_Copy, w_Cln, w_Cast, w_SfA, w_SfI, w_SfQ, w_Str, w_ScLd, w_ScLen, w_CV0, w_CS0, w_CV1, w_CS1, w_CV2, w_CS2, w_CV3, w_CS3, w_CV4, w_CS4, w_CV5, w_CS5, List.getElem?_cons_zero, List.getElem?_cons_succ, List.set_cons_zero, List.set_cons_succ, List.length_cons, List.length_nil, List.map_cons, List.map_nil, List.sum_cons, List.sum_nil, List.nil_append, List.cons_append, Option.toList_some, Option.toList_none, Value.category, xok, va_rf, true_and, and_true, and_self, Nat.reduceAdd, Nat.reduceLT, Nat.reduceLeDiff, Nat.reduceEqDiff, Nat.reduceMul, beq_self_eq_true, decide_true, ite_true, ite_false, if_true, if_false, reduceIte, Bool.true_eq_false, Bool.false_eq_true, eq_self_iff_true, Nat.zero_le, not_true_eq_false, not_false_eq_true, forall_const, false_implies, implies_true, forall_false, hC.all, h6, g6, ne10, ne10L, ne01, ne01L, tt_imp, nt_imp, ff_imp, nf_imp, true_and, and_true, true_or, or_true, reduceIte]
  refine SP.mono (c_reads (od := false) hC hT ht) ?_
  rintro ⟨v, G1⟩ ⟨f1', t0, G0', hr⟩
  dsimp only at f1' t0
  have hC1 := f1'.cs hC
  cases hg : gText b len false with
  | error e =>
    rw [hg] at hr
    obtain ⟨rfl, _⟩ := hr
    have he := gText_er hg
    have gm : (nI e = m) = False := by rw [hm]; exact eq_false (nI_ne (by omega))
    obtain ⟨G2, hG2⟩ : ∃ G2, G2 = stI G1 0 17 (nI e) := ⟨_, rfl⟩
    have f2 : Fr WLc G G2 := by rw [hG2]; exact (f1'.mono WRe_WLc).wI rfl
    have hC2 := f2.cs hC
    have v17 : hpI G2 0 17 = nI e := by rw [hG2, stI_up, hpI_stA, up_eq]
    have i2 : ∀ a, ¬ a = 0 → hpI G2 a = hpI G1 a := fun a ha => by rw [hG2, stI_up, hpI_stA_ne ha]
    have hrf := fun Q => c_refuse_6 hC2 Q
    simp only [Option.toList_some, List.cons_append, List.nil_append, w_iadd, w_isub, w_imul, w_iand, w_ior, w_ixor, w_ishl, w_ishr, w_iushr, w_idiv, w_irem, w_ineg, w_ladd, w_lsub, w_lmul, w_ldiv, w_lrem, w_i2l, w_l2i, w_i2c, w_lcmp, w_dup_int, w_pop_int, w_dup_ref, w_pop_ref, w_dup_retAddr, w_pop_retAddr, w_dup2, w_I, w_L, w_Null, w_Ild, w_Lld, w_Ald, w_Ist, w_Lst, w_Ast, w_Iinc, w_if_eq, w_icmp_eq, w_if_ne, w_icmp_ne, w_if_lt, w_icmp_lt, w_if_ge, w_icmp_ge, w_if_gt, w_icmp_gt, w_if_le, w_icmp_le, w_GetI, w_GetL, w_GetR, w_PutI, w_PutZ, w_PutL, w_PutR, w_PutN, w_Iald, w_Zald, w_Lald, w_Aald, w_Iast, w_Zast, w_Last, w_AastR, w_AastN, w_Alen, w_New, w_NewA, w_Mna, w_Iret, w_Zret, w_Cret, w_Bret, w_Lret, w_AretR, w_AretN, w_Vret, w_Obj, w_IfNN, w_IfNR, w_Copy, w_Cln, w_Cast, w_SfA, w_SfI, w_SfQ, w_Str, w_ScLd, w_ScLen, w_CV0, w_CS0, w_CV1, w_CS1, w_CV2, w_CS2, w_CV3, w_CS3, w_CV4, w_CS4, w_CV5, w_CS5, List.getElem?_cons_zero, List.getElem?_cons_succ, List.set_cons_zero, List.set_cons_succ, List.length_cons, List.length_nil, List.map_cons, List.map_nil, List.sum_cons, List.sum_nil, List.nil_append, List.cons_append, Option.toList_some, Option.toList_none, Value.category, xok, va_rf, true_and, and_true, and_self, Nat.reduceAdd, Nat.reduceLT, Nat.reduceLeDiff, Nat.reduceEqDiff, Nat.reduceMul, beq_self_eq_true, decide_true, ite_true, ite_false, if_true, if_false, reduceIte, Bool.true_eq_false, Bool.false_eq_true, eq_self_iff_true, Nat.zero_le, not_true_eq_false, not_false_eq_true, forall_const, false_implies, implies_true, forall_false, stI_C, stI_N, stI_Z, stI_S, stI_L, stI_R, stL_C, stL_N, stL_Z, stL_S, stL_I, stL_R, stR_C, stR_N, stR_Z, stR_S, stR_I, stR_L, stA_C, stA_N, stA_Z, stA_S, stA_L, stA_R, stI_I, stL_L, stR_R, stA_I, stN_C, stN_N, stN_Z, stN_S, stN_I, stN_L, stN_R, stI_ne, stL_ne, stR_ne, hC1.all, ← hG2, hC2.all, v17, gm, hrf, ne10, ne10L, ne01, ne01L, tt_imp, nt_imp, ff_imp, nf_imp, true_and, and_true, true_or, or_true, reduceIte]
    rw [hP]
    unfold LcQ refH
    rw [hg]
    refine ⟨?_, rfl, (f2.wI rfl).wI rfl, ?_, ?_, ?_, ?_⟩
    · rw [stI_up (a := 69), hpI_stA_ne (by decide), stI_up (a := 0), hpI_stA_ne (by decide), i2 _ (by decide)]; exact t0
    · rw [stI_up (a := 69), hpI_stA_ne (by decide), stI_up (a := 0), hpI_stA, up_ne (by decide)]; exact v17
    · rw [stI_up (a := 69), hpI_stA_ne (by decide), stI_up (a := 0), hpI_stA, up_eq]
    · have e1 : hpI G2 69 = hpI G 69 := by rw [i2 _ (by decide)]; exact f1'.IA _ (fun _ => rfl)
      rw [stI_up (a := 69), hpI_stA, stI_up (a := 0), hpI_stA_ne (by decide), e1]
      unfold rfC
      rw [if_pos (by decide)]
      rfl
    · rw [stI_up (a := 69), hpI_stA_ne (by decide), stI_up (a := 0), hpI_stA_ne (by decide), i2 _ (by decide)]; exact f1'.IA _ (fun _ => rfl)
  | ok L =>
    rw [hg] at hr
    obtain ⟨hv, _, hL, sz, hsz, hs2, hn3, hPW, hCl⟩ := hr
    dsimp only at hv hs2 hn3 hPW hCl
    rw [← hm] at hv
    subst hv
    have gm : (m = m) = True := eq_true rfl
    obtain ⟨G2, hG2⟩ : ∃ G2, G2 = stI G1 0 17 m := ⟨_, rfl⟩
    have f2 : Fr WLc G G2 := by rw [hG2]; exact (f1'.mono WRe_WLc).wI rfl
    have hC2 := f2.cs hC
    have v17 : hpI G2 0 17 = m := by rw [hG2, stI_up, hpI_stA, up_eq]
    have i2 : ∀ a, ¬ a = 0 → hpI G2 a = hpI G1 a := fun a ha => by rw [hG2, stI_up, hpI_stA_ne ha]
    have c2 : hpI G2 1 6 = nI nl := by rw [i2 _ (by decide)]; exact (f1'.I rfl).trans h6
    obtain ⟨t, hte⟩ : ∃ t, t = hpZ G := ⟨_, rfl⟩
    have Z2 : hpZ G2 = t := by rw [hte]; exact f2.Z
    have S2 : hpS G2 = hpS G := congrArg (fun x => x.2.2) f2.2.2.1
    have x2 : Fx WLc (VLc nl) G G2 := f2.fx
    obtain ⟨G3, hG3⟩ : ∃ G3, G3 = stN G2 3 4 := ⟨_, rfl⟩
    have x23 : Fx (fun _ _ => false) (fun _ _ => false) G2 G3 := by rw [hG3]; exact Fx.refl.nN
    have hC3 := x23.cs (by omega) (fun _ _ _ _ => rfl) hC2
    have t3 : hpC G3 t = 3 := by rw [hG3, ← Z2]; exact sN_C
    have Z3 : hpZ G3 = t + 1 := by rw [hG3, ← Z2]; rfl
    have S3 : hpS G3 = hpS G + 4 := by rw [hG3, ← S2]; rfl
    have i3 : ∀ a, a < t → hpI G3 a = hpI G2 a := fun a ha => x23.IA (by omega) (fun _ => rfl)
    simp only [Option.toList_some, List.cons_append, List.nil_append, w_iadd, w_isub, w_imul, w_iand, w_ior, w_ixor, w_ishl, w_ishr, w_iushr, w_idiv, w_irem, w_ineg, w_ladd, w_lsub, w_lmul, w_ldiv, w_lrem, w_i2l, w_l2i, w_i2c, w_lcmp, w_dup_int, w_pop_int, w_dup_ref, w_pop_ref, w_dup_retAddr, w_pop_retAddr, w_dup2, w_I, w_L, w_Null, w_Ild, w_Lld, w_Ald, w_Ist, w_Lst, w_Ast, w_Iinc, w_if_eq, w_icmp_eq, w_if_ne, w_icmp_ne, w_if_lt, w_icmp_lt, w_if_ge, w_icmp_ge, w_if_gt, w_icmp_gt, w_if_le, w_icmp_le, w_GetI, w_GetL, w_GetR, w_PutI, w_PutZ, w_PutL, w_PutR, w_PutN, w_Iald, w_Zald, w_Lald, w_Aald, w_Iast, w_Zast, w_Last, w_AastR, w_AastN, w_Alen, w_New, w_NewA, w_Mna, w_Iret, w_Zret, w_Cret, w_Bret, w_Lret, w_AretR, w_AretN, w_Vret, w_Obj, w_IfNN, w_IfNR, w_Copy, w_Cln, w_Cast, w_SfA, w_SfI, w_SfQ, w_Str, w_ScLd, w_ScLen, w_CV0, w_CS0, w_CV1, w_CS1, w_CV2, w_CS2, w_CV3, w_CS3, w_CV4, w_CS4, w_CV5, w_CS5, List.getElem?_cons_zero, List.getElem?_cons_succ, List.set_cons_zero, List.set_cons_succ, List.length_cons, List.length_nil, List.map_cons, List.map_nil, List.sum_cons, List.sum_nil, List.nil_append, List.cons_append, Option.toList_some, Option.toList_none, Value.category, xok, va_rf, true_and, and_true, and_self, Nat.reduceAdd, Nat.reduceLT, Nat.reduceLeDiff, Nat.reduceEqDiff, Nat.reduceMul, beq_self_eq_true, decide_true, ite_true, ite_false, if_true, if_false, reduceIte, Bool.true_eq_false, Bool.false_eq_true, eq_self_iff_true, Nat.zero_le, not_true_eq_false, not_false_eq_true, forall_const, false_implies, implies_true, forall_false, stI_C, stI_N, stI_Z, stI_S, stI_L, stI_R, stL_C, stL_N, stL_Z, stL_S, stL_I, stL_R, stR_C, stR_N, stR_Z, stR_S, stR_I, stR_L, stA_C, stA_N, stA_Z, stA_S, stA_L, stA_R, stI_I, stL_L, stR_R, stA_I, stN_C, stN_N, stN_Z, stN_S, stN_I, stN_L, stN_R, stI_ne, stL_ne, stR_ne, hC1.all, ← hG2, hC2.all, v17, gm, ne10, ne10L, ne01, ne01L, tt_imp, nt_imp, ff_imp, nf_imp, true_and, and_true, true_or, or_true, reduceIte]
    rw [hA1]
    simp only [w_iadd, w_isub, w_imul, w_iand, w_ior, w_ixor, w_ishl, w_ishr, w_iushr, w_idiv, w_irem, w_ineg, w_ladd, w_lsub, w_lmul, w_ldiv, w_lrem, w_i2l, w_l2i, w_i2c, w_lcmp, w_dup_int, w_pop_int, w_dup_ref, w_pop_ref, w_dup_retAddr, w_pop_retAddr, w_dup2, w_I, w_L, w_Null, w_Ild, w_Lld, w_Ald, w_Ist, w_Lst, w_Ast, w_Iinc, w_if_eq, w_icmp_eq, w_if_ne, w_icmp_ne, w_if_lt, w_icmp_lt, w_if_ge, w_icmp_ge, w_if_gt, w_icmp_gt, w_if_le, w_icmp_le, w_GetI, w_GetL, w_GetR, w_PutI, w_PutZ, w_PutL, w_PutR, w_PutN, w_Iald, w_Zald, w_Lald, w_Aald, w_Iast, w_Zast, w_Last, w_AastR, w_AastN, w_Alen, w_New, w_NewA, w_Mna, w_Iret, w_Zret, w_Cret, w_Bret, w_Lret, w_AretR, w_AretN, w_Vret, w_Obj, w_IfNN, w_IfNR, w_Copy, w_Cln, w_Cast, w_SfA, w_SfI, w_SfQ, w_Str, w_ScLd, w_ScLen, w_CV0, w_CS0, w_CV1, w_CS1, w_CV2, w_CS2, w_CV3, w_CS3, w_CV4, w_CS4, w_CV5, w_CS5, List.getElem?_cons_zero, List.getElem?_cons_succ, List.set_cons_zero, List.set_cons_succ, List.length_cons, List.length_nil, List.map_cons, List.map_nil, List.sum_cons, List.sum_nil, List.nil_append, List.cons_append, Option.toList_some, Option.toList_none, Value.category, xok, va_rf, true_and, and_true, and_self, Nat.reduceAdd, Nat.reduceLT, Nat.reduceLeDiff, Nat.reduceEqDiff, Nat.reduceMul, beq_self_eq_true, decide_true, ite_true, ite_false, if_true, if_false, reduceIte, Bool.true_eq_false, Bool.false_eq_true, eq_self_iff_true, Nat.zero_le, not_true_eq_false, not_false_eq_true, forall_const, false_implies, implies_true, forall_false, hC2.all, c2, Z2, ← hG3, t3, hC3.all, ne10, ne10L, ne01, ne01L, tt_imp, nt_imp, ff_imp, nf_imp, true_and, and_true, true_or, or_true, reduceIte]
    refine SP.mono (c_textNew (sz := sz) (n := L.length) hC3 t3 (by omega) (by omega) (by rw [i3 _ (by omega), i2 _ (by decide)]; exact hs2) (by rw [i3 _ (by omega), i2 _ (by decide)]; exact hn3) hsz hL) ?_
    rintro ⟨v4, G4⟩ ⟨rfl, x4, z4, s4, k4, c4, r4⟩
    dsimp only at x4 z4 s4 k4 c4 r4
    have hC4 := x4.cs (by omega) (WT_VOk (by omega)) hC3
    have t4 := k4.1
    have p1 : 0 ≤ nI (nl) := nI_pos' (by omega)
    have c1 : (nI (nl)).toNatClampNeg = nl := nI_clamp (by omega)
    have l1 : nl < 6 := by omega
    obtain ⟨G5, hG5⟩ : ∃ G5, G5 = stR G4 6 nl (some t) := ⟨_, rfl⟩
    have x45 : Fx (fun _ _ => false) (VLc nl) G4 G5 := by rw [hG5]; exact Fx.refl.nR (Or.inr (by unfold VLc; simp))
    have hC5 := x45.cs (by omega) VLc_VOk hC4
    have c5 : hpI G5 1 6 = nI nl := by rw [x45.I (by omega) rfl, x4.I (by omega) (WT_ne (by omega) _), i3 _ (by omega)]; exact c2
    have e1 : nI nl + 1 = nI (nl + 1) := nI_add nl 1
    have es : nI (nl + 1) - 1 = nI nl := nI_sub (a := nl + 1) (b := 1) (by omega)
    obtain ⟨G6, hG6⟩ : ∃ G6, G6 = stI G5 1 6 (nI (nl + 1)) := ⟨_, rfl⟩
    have x56 : Fx WLc (fun _ _ => false) G5 G6 := by rw [hG6]; exact Fx.refl.wI rfl
    have Z5 : hpZ G5 = t + 3 := by rw [hG5]; show hpZ G4 = t + 3; omega
    have hzt : 105 ≤ t := by omega
    have hC6 := x56.cs (by omega) (fun _ _ _ _ => rfl) hC5
    have c6 : hpI G6 1 6 = nI (nl + 1) := by rw [hG6, stI_up, hpI_stA, up_eq]
    have hac := fun Q => c_accept hC6 Q (nI nl)
    simp only [Option.toList_none, List.cons_append, List.nil_append, k_Post_law_105, w_iadd, w_isub, w_imul, w_iand, w_ior, w_ixor, w_ishl, w_ishr, w_iushr, w_idiv, w_irem, w_ineg, w_ladd, w_lsub, w_lmul, w_ldiv, w_lrem, w_i2l, w_l2i, w_i2c, w_lcmp, w_dup_int, w_pop_int, w_dup_ref, w_pop_ref, w_dup_retAddr, w_pop_retAddr, w_dup2, w_I, w_L, w_Null, w_Ild, w_Lld, w_Ald, w_Ist, w_Lst, w_Ast, w_Iinc, w_if_eq, w_icmp_eq, w_if_ne, w_icmp_ne, w_if_lt, w_icmp_lt, w_if_ge, w_icmp_ge, w_if_gt, w_icmp_gt, w_if_le, w_icmp_le, w_GetI, w_GetL, w_GetR, w_PutI, w_PutZ, w_PutL, w_PutR, w_PutN, w_Iald, w_Zald, w_Lald, w_Aald, w_Iast, w_Zast, w_Last, w_AastR, w_AastN, w_Alen, w_New, w_NewA, w_Mna, w_Iret, w_Zret, w_Cret, w_Bret, w_Lret, w_AretR, w_AretN, w_Vret, w_Obj, w_IfNN, w_IfNR, w_Copy, w_Cln, w_Cast, w_SfA, w_SfI, w_SfQ, w_Str, w_ScLd, w_ScLen, w_CV0, w_CS0, w_CV1, w_CS1, w_CV2, w_CS2, w_CV3, w_CS3, w_CV4, w_CS4, w_CV5, w_CS5, List.getElem?_cons_zero, List.getElem?_cons_succ, List.set_cons_zero, List.set_cons_succ, List.length_cons, List.length_nil, List.map_cons, List.map_nil, List.sum_cons, List.sum_nil, List.nil_append, List.cons_append, Option.toList_some, Option.toList_none, Value.category, xok, va_rf, true_and, and_true, and_self, Nat.reduceAdd, Nat.reduceLT, Nat.reduceLeDiff, Nat.reduceEqDiff, Nat.reduceMul, beq_self_eq_true, decide_true, ite_true, ite_false, if_true, if_false, reduceIte, Bool.true_eq_false, Bool.false_eq_true, eq_self_iff_true, Nat.zero_le, not_true_eq_false, not_false_eq_true, forall_const, false_implies, implies_true, forall_false, stI_C, stI_N, stI_Z, stI_S, stI_L, stI_R, stL_C, stL_N, stL_Z, stL_S, stL_I, stL_R, stR_C, stR_N, stR_Z, stR_S, stR_I, stR_L, stA_C, stA_N, stA_Z, stA_S, stA_L, stA_R, stI_I, stL_L, stR_R, stA_I, stN_C, stN_N, stN_Z, stN_S, stN_I, stN_L, stN_R, stI_ne, stL_ne, stR_ne, hC4.all, t4, xin, p1, c1, l1, ← hG5, hC5.all, c5, e1, ← hG6, hC6.all, c6, es, hac, ne10, ne10L, ne01, ne01L, tt_imp, nt_imp, ff_imp, nf_imp, true_and, and_true, true_or, or_true, reduceIte]
    rw [hP]
    unfold LcQ
    rw [hg]
    have i6 : ∀ a, a < t → ¬ a = 1 → hpI G6 a = hpI G2 a := fun a ha hw => by
      rw [hG6, stI_up, hpI_stA_ne hw, x45.IA (by omega) (fun _ => rfl), x4.IA (by omega) (fun k => WT_ne (by omega) k), i3 _ ha]
    have x06 : Fx WLc (VLc nl) G G6 := by
      refine ⟨by rw [hG6, hG5]; show hpZ G ≤ hpZ G4; omega, fun a ha => ?_, fun a k ha hw => ?_, fun a k ha hw => ?_, fun a k ha hw => ?_⟩
      · refine ⟨?_, ?_⟩
        · rw [x56.C (by rw [hG5]; show a < hpZ G4; omega), x45.C (by omega), x4.C (by omega), x23.C (by omega), x2.C ha]
        · rw [x56.N (by rw [hG5]; show a < hpZ G4; omega), x45.N (by omega), x4.N (by omega), x23.N (by omega), x2.N ha]
      · rw [x56.I (by rw [hG5]; show a < hpZ G4; omega) hw, x45.I (by omega) rfl, x4.I (by omega) (WT_ne (by omega) _), x23.I (by omega) rfl, x2.I ha hw]
      · rw [x56.L (by rw [hG5]; show a < hpZ G4; omega) hw, x45.L (by omega) rfl, x4.L (by omega) (WT_ne (by omega) _), x23.L (by omega) rfl, x2.L ha hw]
      · rw [x56.R (by rw [hG5]; show a < hpZ G4; omega) rfl, x45.R (by omega) hw, x4.R (by omega) (WT_ne (by omega) _), x23.R (by omega) rfl, x2.R ha hw]
    obtain ⟨G7, hG7⟩ : ∃ G7, G7 = stI G6 0 16 0 := ⟨_, rfl⟩
    rw [← hG7]
    have i7 : ∀ a, ¬ a = 0 → hpI G7 a = hpI G6 a := fun a ha => by rw [hG7, stI_up, hpI_stA_ne ha]
    have r7 : ∀ a k, hpR G7 a k = hpR G5 a k := fun a k => by rw [hG7, hG6]; rfl
    have C7 : ∀ a, hpC G7 a = hpC G4 a := fun a => by rw [hG7, hG6, hG5]; rfl
    have N7 : ∀ a, hpN G7 a = hpN G4 a := fun a => by rw [hG7, hG6, hG5]; rfl
    have I7 : ∀ a, ¬ a = 0 → ¬ a = 1 → hpI G7 a = hpI G4 a := fun a h0 h1 => by rw [i7 a h0, hG6, stI_up, hpI_stA_ne h1, hG5]; rfl
    have R7 : ∀ a k, ¬ a = 6 → hpR G7 a k = hpR G4 a k := fun a k ha => by rw [r7, hG5, sR_ne (by rintro ⟨z, _⟩; exact ha z)]
    rw [← hte]
    refine ⟨?_, rfl, by rw [hG7]; exact x06.wI rfl, ?_, ?_, ?_, ?_, ?_, ?_, ?_, hL, ?_⟩
    · rw [i7 _ (by decide), i6 _ (by omega) (by decide), i2 _ (by decide)]; exact t0
    · rw [hG7, hG6, hG5]; show hpZ G4 = t + 3; omega
    · rw [hG7, hG6, hG5]; show hpS G4 ≤ _; omega
    · rw [hG7, stI_up, hpI_stA, up_ne (by decide), i6 _ (by omega) (by decide)]; exact v17.trans hm
    · rw [hG7, stI_up, hpI_stA, up_eq]
    · rw [i7 _ (by decide), i6 _ (by omega) (by decide), i2 _ (by decide)]; exact f1'.IA _ (fun _ => rfl)
    · rw [i7 _ (by decide)]; exact c6
    · rw [r7, hG5, sR_eq]
    · rw [Z3] at k4 c4 r4
      obtain ⟨q1, q2, q3, q4, q5, q6, q7, q8, q9, q10, q11⟩ := k4
      have hk7 : TX G7 t (t + 1) (t + 1 + 1) sz L.length := by
        refine ⟨?_, ?_, ?_, ?_, ?_, ?_, ?_, ?_, ?_, ?_, ?_⟩
        · rw [C7]; exact q1
        · rw [R7 _ _ (by omega)]; exact q2
        · rw [R7 _ _ (by omega)]; exact q3
        · rw [C7]; exact q4
        · rw [C7]; exact q5
        · rw [N7]; exact q6
        · rw [N7]; exact q7
        · rw [N7]; exact q8
        · rw [N7]; exact q9
        · rw [I7 _ (by omega) (by omega)]; exact q10
        · rw [I7 _ (by omega) (by omega)]; exact q11
      have j3 : ∀ a, a < t → ¬ a = 0 → hpI G3 a = hpI G1 a := fun a ha h0 => by rw [i3 a ha, i2 a h0]
      refine LawD_of (G := G1) (sz := sz) (by omega) (by omega) (by omega) ⟨by omega, by omega⟩ ⟨by omega, by omega⟩ ⟨by omega, by omega⟩ hk7 hL hPW hCl (fun k hk => ?_) (fun k hk => ?_) (gText_ok hg) (gText_all (fun p c r => gClause_law) hg)
      · rw [I7 _ (by omega) (by omega), c4 k hk, j3 _ (by omega) (by decide)]
      · rw [I7 _ (by omega) (by omega), r4 k hk, j3 _ (by omega) (by decide)]
theorem c_law_6 {G : XH} (hC : CS G) (h6 : hpI G 1 6 = nI 6) (Q : XR → Prop) : SP D_Post_law [.ref 0] G Q = Q (some (.int (-5)), refH (-5) 3 (stI G 47 1 0)) := by
  have g6 : (nI 6 < 6) = False := eq_false (by decide)
  have hC2 : CS (stI G 47 1 0) := CS_stI.mpr hC
  rw [e_Post_law]
  simp only [k_Post_law_0, w_iadd, w_isub, w_imul, w_iand, w_ior, w_ixor, w_ishl, w_ishr, w_iushr, w_idiv, w_irem, w_ineg, w_ladd, w_lsub, w_lmul, w_ldiv, w_lrem, w_i2l, w_l2i, w_i2c, w_lcmp, w_dup_int, w_pop_int, w_dup_ref, w_pop_ref, w_dup_retAddr, w_pop_retAddr, w_dup2, w_I, w_L, w_Null, w_Ild, w_Lld, w_Ald, w_Ist, w_Lst, w_Ast, w_Iinc, w_if_eq, w_icmp_eq, w_if_ne, w_icmp_ne, w_if_lt, w_icmp_lt, w_if_ge, w_icmp_ge, w_if_gt, w_icmp_gt, w_if_le, w_icmp_le, w_GetI, w_GetL, w_GetR, w_PutI, w_PutZ, w_PutL, w_PutR, w_PutN, w_Iald, w_Zald, w_Lald, w_Aald, w_Iast, w_Zast, w_Last, w_AastR, w_AastN, w_Alen, w_New, w_NewA, w_Mna, w_Iret, w_Zret, w_Cret, w_Bret, w_Lret, w_AretR, w_AretN, w_Vret, w_Obj, w_IfNN, w_IfNR, w_Copy, w_Cln, w_Cast, w_SfA, w_SfI, w_SfQ, w_Str, w_ScLd, w_ScLen, w_CV0, w_CS0, w_CV1, w_CS1, w_CV2, w_CS2, w_CV3, w_CS3, w_CV4, w_CS4, w_CV5, w_CS5, List.getElem?_cons_zero, List.getElem?_cons_succ, List.set_cons_zero, List.set_cons_succ, List.length_cons, List.length_nil, List.map_cons, List.map_nil, List.sum_cons, List.sum_nil, List.nil_append, List.cons_append, Option.toList_some, Option.toList_none, Value.category, xok, va_rf, true_and, and_true, and_self, Nat.reduceAdd, Nat.reduceLT, Nat.reduceLeDiff, Nat.reduceEqDiff, Nat.reduceMul, beq_self_eq_true, decide_true, ite_true, ite_false, if_true, if_false, reduceIte, Bool.true_eq_false, Bool.false_eq_true, eq_self_iff_true, Nat.zero_le, not_true_eq_false, not_false_eq_true, forall_const, false_implies, implies_true, forall_false, hC.all, h6, g6, hC2.all, c_refuse_5 hC2, ne10, ne10L, ne01, ne01L, tt_imp, nt_imp, ff_imp, nf_imp, true_and, and_true, true_or, or_true, reduceIte]
