/-- another image -/
def imX (X : XDt) (k : Nat) : XDt := (X.1, X.2.1, X.2.2.1, X.2.2.2.1, X.2.2.2.2.1, X.2.2.2.2.2.1, fun j => if j = k then some X.1 else X.2.2.2.2.2.2 j)
theorem CU_fx {W V : Nat → Nat → Bool} {G G' : XH} (h : CU G) (hf : Fx W V G G') (hz : 105 ≤ hpZ G) (hV : VOk V) : CU G' := by
  refine ⟨fun i hi => ?_, fun i hi => ?_⟩
  · obtain ⟨u1, u2, u3⟩ := h.1 i hi
    exact ⟨by rw [hf.R (by omega) (hV _ _ (by omega) (by omega))]; exact u1, by rw [hf.C (by omega)]; exact u2, by rw [hf.N (by omega)]; exact u3⟩
  · obtain ⟨u1, u2, u3⟩ := h.2 i hi
    exact ⟨by rw [hf.R (by omega) (hV _ _ (by omega) (by omega))]; exact u1, by rw [hf.C (by omega)]; exact u2, by rw [hf.N (by omega)]; exact u3⟩
theorem CPx.gx {W V : Nat → Nat → Bool} {G G' : XH} {X X' : XDt} (h : CPx G X) (hf : Fx W V G G') (hV : VOk V) (w : CWd G' 1 X'.1) (u : UCx G' X'.2.1) (t : CTp G' X'.2.2.1) (m : CMs G' X'.2.2.2.1) (r : CRf G' X'.2.2.2.2.1) (d : CDr G' X'.2.2.2.2.2.1) (i : CIm G' X'.2.2.2.2.2.2) : CPx G' X' := ⟨⟨hf.cs h.1.2.2 hV h.1.1, CU_fx h.1.2.1 hf h.1.2.2 hV, Nat.le_trans h.1.2.2 hf.Z⟩, w, u, t, m, r, d, i⟩
/-- a World that took over another -/
theorem CWd.cp {G G' : XH} {v w : Nat} {W : WDt} (h : CWd G v W) (hc : WCp G G' w v) (hn : (W.1 0).toNatClampNeg ≤ 12) (hm : (W.1 3).toNatClampNeg ≤ 6) (hB : ∀ x, Bd G x → hpC G' x = hpC G x ∧ hpN G' x = hpN G x ∧ hpI G' x = hpI G x ∧ hpR G' x = hpR G x) (hB' : ∀ x, Bd G x → Bd G' x) (hC : ∀ x, 105 ≤ x → x < hpZ G → hpC G' x = hpC G x) (hz : hpZ G ≤ hpZ G') : CWd G' w W := by
  obtain ⟨a1, a2, a3, a4, a5, a6, a7, a8⟩ := h
  obtain ⟨c1, c2, c3, c4, c5, c6, c7, c8⟩ := hc
  refine ⟨a1.eqc c1, fun j hj => ?_, fun r hr => (c4 r hr).trans (a3 r hr), c6.trans a4, c7.trans a5, c8.trans a6, fun i hi => ?_, fun k hk => ?_⟩
  · rw [c2 j (by omega), c3 j (by omega)]
    exact a2 j hj
  · obtain ⟨t, t1, t2⟩ := a7 i hi
    exact ⟨t, (c5 i (by omega)).trans t1, t2.cg hB hB'⟩
  · rw [c5 k hk]
    rcases a8 k hk with z | ⟨t, t1, t2, t3, t4⟩
    · exact Or.inl z
    · exact Or.inr ⟨t, t1, by rw [hC t t3 t4]; exact t2, t3, by omega⟩
theorem WLD.fx {W V : Nat → Nat → Bool} {G G' : XH} {w : Nat} (h : WLD G w) (hf : Fx W V G G') (hz : w + 6 ≤ hpZ G) (hV : ∀ j, V w j = false) : WLD G' w := by
  obtain ⟨q0, r0, r1, r2, r3, r4, q1, q2, q3, q4, q5, n1, n2, n3, n4, n5⟩ := h
  refine ⟨?_, ?_, ?_, ?_, ?_, ?_, ?_, ?_, ?_, ?_, ?_, ?_, ?_, ?_, ?_, ?_⟩
  · rw [hf.C (by omega)]; exact q0
  · rw [hf.R (by omega) (hV _)]; exact r0
  · rw [hf.R (by omega) (hV _)]; exact r1
  · rw [hf.R (by omega) (hV _)]; exact r2
  · rw [hf.R (by omega) (hV _)]; exact r3
  · rw [hf.R (by omega) (hV _)]; exact r4
  · rw [hf.C (by omega)]; exact q1
  · rw [hf.C (by omega)]; exact q2
  · rw [hf.C (by omega)]; exact q3
  · rw [hf.C (by omega)]; exact q4
  · rw [hf.C (by omega)]; exact q5
  · rw [hf.N (by omega)]; exact n1
  · rw [hf.N (by omega)]; exact n2
  · rw [hf.N (by omega)]; exact n3
  · rw [hf.N (by omega)]; exact n4
  · rw [hf.N (by omega)]; exact n5
theorem Wi_lo {w a j : Nat} (h105 : 105 ≤ w) (ha : a < 105) (h : ¬ (a = 0 ∧ j = 16)) : Wi w a j = false := by
  unfold Wi Wim
  simp only [Bool.or_eq_false_iff, Bool.and_eq_false_iff, decide_eq_false_iff_not, beq_eq_false_iff_ne]
  omega
theorem Wi_hi {w a j : Nat} (ha : 105 ≤ a) (h : ¬ (w ≤ a ∧ a ≤ w + 4)) : Wi w a j = false := by
  unfold Wi Wim
  simp only [Bool.or_eq_false_iff, Bool.and_eq_false_iff, decide_eq_false_iff_not, beq_eq_false_iff_ne]
  omega
theorem Vi_ne {w k a j : Nat} (h : ¬ a = w + 5) (h2 : ¬ (a = 7 ∧ j = k)) : Vi w k a j = false := by
  unfold Vi Vim
  simp only [Bool.or_eq_false_iff, Bool.and_eq_false_iff, beq_eq_false_iff_ne]
  omega
theorem stM1_0 : stM1 0 = 0 := rfl
theorem rfC_0 {f : Nat → Int32} : rfC f 0 = f := rfC_pos (by decide)
theorem CPx.im {G : XH} {X : XDt} {nr nl n m : Nat} {A B : Nat → Nat} {c : Nat} (h : CPx G X) (hV : VXd X nr nl n m A B c) {k w : Nat} (hk : k < 2) (hw : (hpR G 7 k = some w ∧ w + 6 ≤ hpZ G) ∨ (hpR G 7 k = none ∧ w = hpZ G)) {z : XR} (hz : ImQ G k w z) : CPx z.2 (tlX (imX X k) 0) := by
  have h0 := h
  have n12 := hV.n12
  have m6 : (X.1.1 3).toNatClampNeg ≤ 6 := by
    have := hV.1.2.2.1
    rw [hV.1.2.2.2.1, nI_clamp (by omega)]
    exact this
  obtain ⟨_, z1, z2, hf, i1, hWL, hwz, h105, hcp, e16⟩ := hz
  obtain ⟨⟨hC, hU, hZ⟩, b, ⟨p, p16, u3, u2, ucu⟩, d, ⟨e1, e2, e3, e4⟩, f, ⟨g1, g2⟩, im1, im2⟩ := h
  have lo : ∀ a j, a < 105 → ¬ (a = 0 ∧ j = 16) → hpI z.2 a j = hpI G a j := fun a j ha hj => hf.I (by omega) (Wi_lo h105 ha hj)
  have loA : ∀ a, a < 105 → ¬ a = 0 → hpI z.2 a = hpI G a := fun a ha h0 => funext fun j => lo a j ha (fun z => h0 z.1)
  have oth : ∀ j, j < 2 → ¬ j = k → hpR z.2 7 j = hpR G 7 j := fun j hj hjk => hf.R (by omega) (Vi_ne (by omega) (fun z => hjk z.2))
  have hdis : ∀ j w', j < 2 → ¬ j = k → hpR G 7 j = some w' → w' + 6 ≤ hpZ G → w' + 5 < w ∨ w + 5 < w' := fun j w' hj hjk hr hw' => by
    rcases hw with ⟨y1, y2⟩ | ⟨y1, y2⟩
    · rcases (show j = 0 ∧ k = 1 ∨ j = 1 ∧ k = 0 by omega) with ⟨rfl, rfl⟩ | ⟨rfl, rfl⟩
      · exact im2 w' w hr y1
      · exact (im2 w w' y1 hr).symm
    · omega
  have hBw : ∀ x, Bd G x → ¬ (w ≤ x ∧ x ≤ w + 5) := fun x hx => by
    rcases hw with ⟨y1, y2⟩ | ⟨y1, y2⟩
    · exact hx.2.2 k hk w y1
    · have := hx.2.1
      omega
  have hBd : ∀ x, Bd G x → Bd z.2 x := fun x hx => by
    refine ⟨hx.1, Nat.lt_of_lt_of_le hx.2.1 hf.Z, fun j hj w' hw' => ?_⟩
    by_cases e : j = k
    · rw [e, i1] at hw'
      injection hw' with hw'
      rw [← hw']
      exact hBw x hx
    · rw [oth j hj e] at hw'
      exact hx.2.2 j hj w' hw'
  have hBc : ∀ x, Bd G x → hpC z.2 x = hpC G x ∧ hpN z.2 x = hpN G x ∧ hpI z.2 x = hpI G x ∧ hpR z.2 x = hpR G x := fun x hx => by
    have hx1 := hx.1
    have hx2 := hBw x hx
    exact ⟨hf.C hx.2.1, hf.N hx.2.1, hf.IA hx.2.1 (fun j => Wi_hi hx1 (by omega)), funext fun j => hf.R hx.2.1 (Vi_ne (by omega) (by omega))⟩
  have hCc : ∀ x, 105 ≤ x → x < hpZ G → hpC z.2 x = hpC G x := fun x _ hx => hf.C hx
  refine h0.gx hf (Vi_VOk h105) (b.cg (fun a y1 y2 => loA a (by omega) (by omega)) (funext fun j => hf.R (by omega) (Vi_ne (by omega) (by omega))) hBc hBd hCc hf.Z) ⟨p, p16, (lo _ _ (by decide) (by decide)).trans u3, (lo _ _ (by decide) (by decide)).trans u2, fun j hj => ?_⟩ ⟨(lo _ _ (by decide) (by decide)).trans d.1, fun j hj => (lo _ _ (by decide) (by omega)).trans (d.2 j hj)⟩ ⟨(lo _ _ (by decide) (by decide)).trans e1, (lo _ _ (by decide) (by decide)).trans e2, (lo _ _ (by decide) (by decide)).trans e3, e16⟩ (fun j hj => ?_) ⟨(lo _ _ (by decide) (by decide)).trans g1, fun j g hj hg => (lo _ _ (by decide) (by omega)).trans (g2 j g hj hg)⟩ ⟨fun j hj => ?_, fun w0 w1 hw0 hw1 => ?_⟩
  · have hm : (p + 16 - X.2.1.1 + j) % 16 < 16 := Nat.mod_lt _ (by omega)
    show hpI z.2 26 ((p + 16 - X.2.1.1 + j) % 16) = X.2.1.2.1 j ∧ VW (hpI z.2 (10 + (p + 16 - X.2.1.1 + j) % 16)) (X.2.1.2.2 j)
    rw [loA _ (by decide) (by decide), loA (10 + (p + 16 - X.2.1.1 + j) % 16) (by omega) (by omega)]
    exact ucu j hj
  · show hpI z.2 69 j = rfC X.2.2.2.2.1 0 j
    rw [rfC_0, loA _ (by decide) (by decide)]
    exact f j hj
  · show match (if j = k then some X.1 else X.2.2.2.2.2.2 j) with
      | none => hpR z.2 7 j = none
      | some W => ∃ w, hpR z.2 7 j = some w ∧ WLD z.2 w ∧ 105 ≤ w ∧ w + 6 ≤ hpZ z.2 ∧ CWd z.2 w W
    by_cases e : j = k
    · rw [if_pos e, e]
      exact ⟨w, i1, hWL, h105, hwz, b.cp hcp n12 m6 hBc hBd hCc hf.Z⟩
    · rw [if_neg e]
      have := im1 j hj
      cases hX : X.2.2.2.2.2.2 j with
      | none =>
        rw [hX] at this
        exact (oth j hj e).trans this
      | some W =>
        rw [hX] at this
        obtain ⟨w', y1, y2, y3, y4, y5⟩ := this
        have hd := hdis j w' hj e y1 y4
        exact ⟨w', (oth j hj e).trans y1, y2.fx hf y4 (fun j => Vi_ne (by omega) (by omega)), y3, Nat.le_trans y4 hf.Z, y5.cg (fun a h1 h2 => hf.IA (by omega) (fun j => Wi_hi (by omega) (by omega))) (funext fun j => hf.R (by omega) (Vi_ne (by omega) (by omega))) hBc hBd hCc hf.Z⟩
  · have hold : ∀ j w', j < 2 → ¬ j = k → hpR z.2 7 j = some w' → w' + 5 < w ∨ w + 5 < w' := fun j w' hj e hr => by
      rw [oth j hj e] at hr
      refine hdis j w' hj e hr ?_
      have := im1 j hj
      cases hX : X.2.2.2.2.2.2 j with
      | none =>
        rw [hX] at this
        rw [this] at hr
        cases hr
      | some W =>
        rw [hX] at this
        obtain ⟨w'', y1, y2, y3, y4, y5⟩ := this
        rw [y1] at hr
        injection hr with hr
        omega
    rcases (show k = 0 ∨ k = 1 by omega) with e | e
    · rw [e] at i1
      rw [i1] at hw0
      injection hw0 with hw0
      rw [← hw0]
      exact (hold 1 w1 (by omega) (by omega) hw1).symm
    · rw [e] at i1
      rw [i1] at hw1
      injection hw1 with hw1
      rw [← hw1]
      exact hold 0 w0 (by omega) (by omega) hw0
theorem LAo.of {G : XH} {X : XDt} (h : CPx G X) : LAo G 6 := h.2.1.2.2.2.2.2.2.2
theorem ex_k2 {a : Int32} (h : a = 0 ∨ a = 1) : ∃ k, k < 2 ∧ a = nI k := by
  rcases h with rfl | rfl
  · exact ⟨0, by omega, rfl⟩
  · exact ⟨1, by omega, rfl⟩
theorem no_k2 {a : Int32} (h : ¬ (a = 0 ∨ a = 1)) : a < 0 ∨ 2 ≤ a := by
  have i0 : (0 : Int32).toInt = 0 := by decide
  have i2 : (2 : Int32).toInt = 2 := by decide
  have i1 : (1 : Int32).toInt = 1 := by decide
  have h0 : ¬ a.toInt = 0 := fun z => h (Or.inl (Int32.toInt_inj.mp (by rw [z, i0])))
  have h1 : ¬ a.toInt = 1 := fun z => h (Or.inr (Int32.toInt_inj.mp (by rw [z, i1])))
  rcases (show a.toInt < 0 ∨ 2 ≤ a.toInt by omega) with z | z
  · exact Or.inl (by rw [Int32.lt_iff_toInt_lt, i0]; exact z)
  · exact Or.inr (by rw [Int32.le_iff_toInt_le, i2]; exact z)
theorem Wi_LoC {w : Nat} (h : 105 ≤ w) : LoC (Wi w) := fun a j h1 h2 => Wi_lo h h2 (by omega)
theorem Vi_LoC {w k : Nat} (h : 105 ≤ w) : LoC (Vi w k) := fun a j h1 h2 => Vi_ne (by omega) (by omega)
theorem MPx.im {G : XH} {X : XDt} (h : MPx G X) (h16 : X.2.1.1 ≤ 16) {k : Nat} (hk : k < 2) : MPx (stI (stA G 73 (va_cpy (hpI G 72) (hpI G 73) 0 (5580 * k) 5580)) 74 k 1) (imX X k) := by
  have h0 := h
  have hf : Fr (fun a j => a == 73 || a == 74) G (stI (stA G 73 (va_cpy (hpI G 72) (hpI G 73) 0 (5580 * k) 5580)) 74 k 1) := (Fr.refl.wA (fun k q => absurd q (by simp))).wI (by simp)
  obtain ⟨⟨a1, a2, a3⟩, b, cc, d, e, f, g, i⟩ := h
  refine h0.mk hf (fun a k hk => by rcases hk with rfl | rfl | rfl <;> rfl) ((hf.I rfl).trans a3) ((hf.IA _ (fun _ => rfl)).trans b) (cc.fr hf h16 rfl (fun k _ => rfl) (fun k => rfl)) (d.fr hf rfl (fun k => rfl)) (e.fr hf rfl rfl rfl rfl) (f.fr hf (fun k => rfl)) (g.fr hf rfl (fun k => rfl)) (fun j hj => ?_)
  have ek : hpI (stI (stA G 73 (va_cpy (hpI G 72) (hpI G 73) 0 (5580 * k) 5580)) 74 k 1) 74 = up (hpI G 74) k 1 := by rw [stI_up, hpI_stA, hpI_stA_ne (by decide)]
  have ei : hpI (stI (stA G 73 (va_cpy (hpI G 72) (hpI G 73) 0 (5580 * k) 5580)) 74 k 1) 73 = va_cpy (hpI G 72) (hpI G 73) 0 (5580 * k) 5580 := by rw [stI_up, hpI_stA_ne (by decide), hpI_stA]
  show match (if j = k then some X.1 else X.2.2.2.2.2.2 j) with
    | none => hpI (stI (stA G 73 (va_cpy (hpI G 72) (hpI G 73) 0 (5580 * k) 5580)) 74 k 1) 74 j = 0
    | some W => hpI (stI (stA G 73 (va_cpy (hpI G 72) (hpI G 73) 0 (5580 * k) 5580)) 74 k 1) 74 j = 1 ∧ ∀ q, q < 5580 → hpI (stI (stA G 73 (va_cpy (hpI G 72) (hpI G 73) 0 (5580 * k) 5580)) 74 k 1) 73 (5580 * j + q) = W.1 q
  rw [ek, ei]
  by_cases y : j = k
  · rw [if_pos y, y]
    refine ⟨up_eq, fun q hq => ?_⟩
    rw [cpy_in (by omega), b]
    exact congrArg X.1.1 (by omega)
  · rw [if_neg y]
    have := i j hj
    cases hX : X.2.2.2.2.2.2 j with
    | none =>
      rw [hX] at this
      dsimp only
      rw [up_ne y]
      exact this
    | some W =>
      rw [hX] at this
      dsimp only
      rw [up_ne y]
      refine ⟨this.1, fun q hq => ?_⟩
      rw [cpy_out (by omega)]
      exact this.2 q hq
theorem st_image {X : XDt} {c : Nat} (h : VXe X c) (a : Int32) : StX D_Post_image D_Mdl_image [.int a] X c := by
  have h0 := h
  obtain ⟨nr, nl, n, m, A, B, hV⟩ := h
  by_cases q : a = 0 ∨ a = 1
  · obtain ⟨k, k2, rfl⟩ := ex_k2 q
    refine ⟨0, tlX (imX X k) 0, VXe.mono (c := c) ⟨nr, nl, n, m, A, B, hV.1, hV.2.1, hV.2.2.1, hV.2.2.2.1, hV.2.2.2.2.1, fun j hj W hW => ?_⟩ (by omega), fun G hG => ?_, fun G hG => ?_⟩
    · have hW' : (if j = k then some X.1 else X.2.2.2.2.2.2 j) = some W := hW
      by_cases e : j = k
      · rw [if_pos e] at hW'
        injection hW' with hW'
        exact ⟨nr, nl, n, m, A, B, hW' ▸ hV.1⟩
      · rw [if_neg e] at hW'
        exact hV.2.2.2.2.2 j hj W hW'
    · have fin : ∀ {w : Nat} {z : XR}, ((hpR G 7 k = some w ∧ w + 6 ≤ hpZ G) ∨ (hpR G 7 k = none ∧ w = hpZ G)) → ImQ G k w z → z.1 = some (.int 0) ∧ CPx z.2 (tlX (imX X k) 0) ∧ MUn G z.2 ∧ hpZ z.2 ≤ hpZ G + 6 ∧ hpS z.2 ≤ hpS G + 500 := fun hw hz => ⟨hz.1, hG.im hV k2 hw hz, hz.2.2.2.1.mun hG.1.2.2 (Wi_LoC hz.2.2.2.2.2.2.2.1) (Vi_LoC hz.2.2.2.2.2.2.2.1), hz.2.1, by have := hz.2.2.1; omega⟩
      have hi := hG.2.2.2.2.2.2.2.1 k k2
      cases hX : X.2.2.2.2.2.2 k with
      | none =>
        rw [hX] at hi
        exact SP.mono (c_image_new hG.1.1 hG.1.2.2 k2 hi (LAo.of hG)) (fun z hz => fin (Or.inr ⟨hi, rfl⟩) hz)
      | some W =>
        rw [hX] at hi
        obtain ⟨w, w1, w2, w3, w4, w5⟩ := hi
        exact SP.mono (c_image_old hG.1.1 k2 w1 w2 w3 w4 (LAo.of hG)) (fun z hz => fin (Or.inl ⟨w1, w4⟩) hz)
    · have h1 := ((hG.t0 h0.h16).im h0.h16 k2).tell h0.h16 (v := 0) (Or.inl (by decide))
      have hu : CUn G (tellH 0 (stI (stA (stI G 70 0 0) 73 (va_cpy (hpI (stI G 70 0 0) 72) (hpI (stI G 70 0 0) 73) 0 (5580 * k) 5580)) 74 k 1)) := ((cun_t0.trans (cun_stA (by omega) (by omega))).trans (cun_stI (by omega) (by omega))).trans cun_tell
      have er : hpI (stI G 70 0 0) 72 = hpI G 72 := by rw [stI_up, hpI_stA_ne (by decide)]
      have ei : hpI (stI G 70 0 0) 73 = hpI G 73 := by rw [stI_up, hpI_stA_ne (by decide)]
      rw [er, ei] at h1 hu
      rw [s_image hG.1.1]
      rcases (show k = 0 ∨ k = 1 by omega) with rfl | rfl
      · rw [if_pos (by rfl)]
        exact ⟨rfl, h1, hu⟩
      · rw [if_neg (by decide), if_pos (by rfl)]
        exact ⟨rfl, h1, hu⟩
  · refine st_ref h0 (v := -1) (i := 0) (by unfold tlV; decide) (by decide) (by decide) (fun G hG Q => c_image_no hG.1.1 Q a (no_k2 q)) (fun G hG Q => ?_)
    rw [s_image hG.1.1, if_neg (fun z => q (Or.inl z)), if_neg (fun z => q (Or.inr z))]
