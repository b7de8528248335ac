theorem ClM.loc2 {R R' : Nat → Int32} {I : Nat → Nat × Nat} {lim k kd a b : Nat} {sm ts : (Nat → Int64) → Option Int64} (h : ClM R I lim k kd sm ts) (hs : ∀ j, a ≤ j → j < b → R' j = R j) (ha : a ≤ k) (hb : k + 7 ≤ b) : ClM R' I lim k kd sm ts := by
  obtain ⟨h1, h2, h3, h4, h5, h6⟩ := h
  refine ⟨?_, h2, ?_, ?_, h5, h6⟩
  · rw [hs k ha (by omega)]; exact h1
  · rw [hs (k + 5) (by omega) (by omega), hs (k + 6) (by omega) (by omega)]; exact h3
  · rw [hs (k + 3) (by omega) (by omega), hs (k + 4) (by omega) (by omega)]; exact h4
theorem LawM.loc {R R' : Nat → Int32} {lw n : Nat} {kd : Nat → Nat} {sm ts : Nat → (Nat → Int64) → Option Int64} (h : LawM R lw n kd sm ts) (hs : ∀ j, lw ≤ j → j < lw + 900 → R' j = R j) : LawM R' lw n kd sm ts := by
  obtain ⟨h1, h2, I, lim, h3, h4, h5, h6⟩ := h
  refine ⟨?_, h2, I, lim, h3, h4, ?_, ?_⟩
  · rw [hs _ (by omega) (by omega)]; exact h1
  · intro j hj
    rw [hs _ (by omega) (by omega), hs _ (by omega) (by omega)]
    exact h5 j hj
  · intro c hc
    exact (h6 c hc).loc2 hs (by omega) (by omega)
theorem RW.loc {R R' : Nat → Int32} {nr nl c : Nat} (h : RW R nr nl c) (hs : ∀ j, j < 5580 → R' j = R j) : RW R' nr nl c := by
  have l8 := h.2.1
  have l12 := h.2.2.2.1
  exact h.eqs ⟨hs 1 (by omega), hs 2 (by omega), fun j h1 h2 => hs j (by omega)⟩
theorem VWd.loc {W : WDt} {nr nl n m : Nat} {A B : Nat → Nat} {c : Nat} (h : VWd W nr nl n m A B c) {R' : Nat → Int32} (hs : ∀ j, j < 5580 → R' j = W.1 j) : VWd (R', W.2) nr nl n m A B c := by
  obtain ⟨h1, h2, h3, h4, h5, h6⟩ := h
  exact ⟨h1.loc hs, h2.row (hs 0 (by omega)) (fun j y1 y2 => hs j (by omega)), h3, (hs 3 (by omega)).trans h4, fun i hi => ⟨(h5 i hi).1.loc (fun j y1 y2 => hs j (by omega)), (h5 i hi).2⟩, by rw [show (R', W.2).1 4 = W.1 4 from hs 4 (by omega)]; exact h6⟩
theorem CWd.loc {G : XH} {w : Nat} {W : WDt} (h : CWd G w W) {R' : Nat → Int32} (hs : ∀ j, j < 5580 → R' j = W.1 j) (hn : (W.1 0).toNatClampNeg ≤ 12) : CWd G w (R', W.2) := by
  obtain ⟨a1, a2, a3, a4, a5, a6, a7, a8⟩ := h
  refine ⟨a1.eqs ⟨hs 1 (by omega), hs 2 (by omega), fun j y1 y2 => hs j (by omega)⟩, fun j hj => ?_, fun r hr => ?_, ?_, ?_, ?_, fun i hi => ?_, a8⟩
  · dsimp only at hj ⊢
    rw [hs 0 (by omega)] at hj
    rw [hs _ (by omega), hs _ (by omega)]
    exact a2 j hj
  · dsimp only
    rw [hs _ (by omega)]
    exact a3 r hr
  · exact a4.trans (hs 0 (by omega)).symm
  · exact a5.trans (hs 3 (by omega)).symm
  · exact a6.trans (hs 4 (by omega)).symm
  · dsimp only at hi ⊢
    rw [hs 3 (by omega)] at hi
    exact a7 i hi
theorem Wb_no {a j : Nat} (h : ¬ (1 ≤ a ∧ a ≤ 5)) (h2 : ¬ (a = 0 ∧ j = 16)) (h3 : ¬ (a = 8 ∧ j = 3)) : Wb a j = false := by
  unfold Wb Wim
  simp only [Bool.or_eq_false_iff, Bool.and_eq_false_iff, decide_eq_false_iff_not, beq_eq_false_iff_ne]
  omega
theorem Vim1_no {a j : Nat} (h : ¬ a = 6) : Vim 1 a j = false := by
  unfold Vim
  simp only [beq_eq_false_iff_ne]
  omega
theorem CPx.bk {G : XH} {X : XDt} (h : CPx G X) {k w : Nat} (hk : k < 2) {W : WDt} (hI : X.2.2.2.2.2.2 k = some W) (hr : hpR G 7 k = some w) (hcw : CWd G w W) (hn : (W.1 0).toNatClampNeg ≤ 12) (hm : (W.1 3).toNatClampNeg ≤ 6) {R' : Nat → Int32} (hs : ∀ j, j < 5580 → R' j = W.1 j) {z : XR} (hz : BkQ G w z) : CPx z.2 (tlX (fgX (wX X (R', W.2))) 0) := by
  have h0 := h
  obtain ⟨_, hfz, hcp, e16, eu3⟩ := hz
  obtain ⟨⟨hC, hU, hZ⟩, b, ⟨p, p16, u3, u2, ucu⟩, d, ⟨e1, e2, e3, e4⟩, f, ⟨g1, g2⟩, im1, im2⟩ := h
  have fC : ∀ a, hpC z.2 a = hpC G a := fun a => by rw [hfz.1]
  have fN : ∀ a, hpN z.2 a = hpN G a := fun a => by rw [hfz.2.1]
  have fZ : hpZ z.2 = hpZ G := hfz.2.2.1
  have fI : ∀ a j, ¬ (1 ≤ a ∧ a ≤ 5) → ¬ (a = 0 ∧ j = 16) → ¬ (a = 8 ∧ j = 3) → hpI z.2 a j = hpI G a j := fun a j y1 y2 y3 => hfz.2.2.2.2.2.1 a j (Wb_no y1 y2 y3)
  have fA : ∀ a, 9 ≤ a → hpI z.2 a = hpI G a := fun a ha => funext fun j => fI a j (by omega) (by omega) (by omega)
  have fR : ∀ a, ¬ a = 6 → hpR z.2 a = hpR G a := fun a ha => funext fun j => hfz.2.2.2.2.2.2 a j (Vim1_no ha)
  have hBd : ∀ x, Bd G x → Bd z.2 x := fun x hx => ⟨hx.1, by rw [fZ]; exact hx.2.1, fun j hj w' hw' => hx.2.2 j hj w' (by rw [← fR 7 (by decide)]; exact hw')⟩
  have hBc : ∀ x, Bd G x → hpC z.2 x = hpC G x ∧ hpN z.2 x = hpN G x ∧ hpI z.2 x = hpI G x ∧ hpR z.2 x = hpR G x := fun x hx => by
    have hx1 := hx.1
    exact ⟨fC x, fN x, fA x (by omega), fR x (by omega)⟩
  have hCc : ∀ x, 105 ≤ x → x < hpZ G → hpC z.2 x = hpC G x := fun x _ _ => fC x
  have hZ' : hpZ G ≤ hpZ z.2 := Nat.le_of_eq fZ.symm
  refine h0.gx hfz.fx (fun a j ha hn => Vim1_no (by omega)) ((hcw.cp hcp hn hm hBc hBd hCc hZ').loc hs hn) ⟨p, p16, eu3, (fI _ _ (by omega) (by omega) (by omega)).trans u2, fun j hj => absurd hj (Nat.not_lt_zero j)⟩ ⟨(fI _ _ (by omega) (by omega) (by omega)).trans d.1, fun j hj => (fI _ _ (by omega) (by omega) (by omega)).trans (d.2 j hj)⟩ ⟨(fI _ _ (by omega) (by omega) (by omega)).trans e1, (fI _ _ (by omega) (by omega) (by omega)).trans e2, (fI _ _ (by omega) (by omega) (by omega)).trans e3, e16⟩ (fun j hj => ?_) ⟨(fI _ _ (by omega) (by omega) (by omega)).trans g1, fun j g hj hg => (fI _ _ (by omega) (by omega) (by omega)).trans (g2 j g hj hg)⟩ ⟨fun j hj => ?_, fun w0 w1 hw0 hw1 => ?_⟩
  · show hpI z.2 69 j = rfC X.2.2.2.2.1 0 j
    rw [rfC_0, fA _ (by decide)]
    exact f j hj
  · show match X.2.2.2.2.2.2 j with
      | none => hpR z.2 7 j = none
      | some W => ∃ w, hpR z.2 7 j = some w ∧ WLD z.2 w ∧ 105 ≤ w ∧ w + 6 ≤ hpZ z.2 ∧ CWd z.2 w W
    have := im1 j hj
    rw [fR _ (by decide)]
    cases hX : X.2.2.2.2.2.2 j with
    | none =>
      rw [hX] at this
      exact this
    | some W =>
      rw [hX] at this
      obtain ⟨w', y1, y2, y3, y4, y5⟩ := this
      exact ⟨w', y1, y2.fx hfz.fx y4 (fun j => Vim1_no (by omega)), y3, by rw [fZ]; exact y4, y5.cg (fun a h1 h2 => fA a (by omega)) (fR _ (by omega)) hBc hBd hCc hZ'⟩
  · rw [fR _ (by decide)] at hw0 hw1
    exact im2 w0 w1 hw0 hw1
theorem st_back {X : XDt} {c : Nat} (h : VXe X c) (a : Int32) : StX D_Post_back D_Mdl_back [.int a] X c := by
  have h0 := h
  obtain ⟨nr, nl, n, m, A, B, hV⟩ := h
  by_cases q : a = 0 ∨ a = 1
  · obtain ⟨k, k2, rfl⟩ := ex_k2 q
    have kc : (nI k).toNatClampNeg = k := nI_clamp (by omega)
    cases hX : X.2.2.2.2.2.2 k with
    | none =>
      refine st_ref h0 (v := -2) (i := 1) (by unfold tlV; decide) (by decide) (by decide) (fun G hG Q => ?_) (fun G hG Q => ?_)
      · have hi := hG.2.2.2.2.2.2.2.1 k k2
        rw [hX] at hi
        exact (c_back_no hG.1.1 Q (nI k)).2 k k2 rfl hi
      · have hi := hG.2.2.2.2.2.2.2 k k2
        rw [hX] at hi
        rw [s_back hG.1.1, if_pos q, kc, if_pos hi]
    | some W =>
      obtain ⟨nr', nl', n', m', A', B', hW⟩ := hV.2.2.2.2.2 k k2 W hX
      have n12 : (W.1 0).toNatClampNeg ≤ 12 := by
        have := hW.2.1.1
        rw [hW.2.1.2.1, nI_clamp (by omega)]
        exact this
      have m6 : (W.1 3).toNatClampNeg ≤ 6 := by
        have := hW.2.2.1
        rw [hW.2.2.2.1, nI_clamp (by omega)]
        exact this
      obtain ⟨R', hR'⟩ : ∃ R' : Nat → Int32, R' = fun j => if j < 5580 then W.1 j else X.1.1 j := ⟨_, rfl⟩
      have hs : ∀ j, j < 5580 → R' j = W.1 j := fun j hj => by rw [hR']; exact if_pos hj
      refine ⟨0, tlX (fgX (wX X (R', W.2))) 0, VXe.mono (c := c) ⟨nr', nl', n', m', A', B', hW.loc hs, ⟨Nat.zero_le _, fun j hj => absurd hj (Nat.not_lt_zero j)⟩, hV.2.2⟩ (by omega), fun G hG => ?_, fun G hG => ?_⟩
      · have hi := hG.2.2.2.2.2.2.2.1 k k2
        rw [hX] at hi
        obtain ⟨w, w1, w2, w3, w4, w5⟩ := hi
        refine SP.mono (c_back hG.1.1 hG.1.2.2 k2 w1 w2 w3 w5.2.2.2.2.2.2.2) ?_
        intro z hz
        exact ⟨hz.1, hG.bk k2 hX w1 w5 n12 m6 hs hz, hz.2.1.fx.mun hG.1.2.2 (fun a j y1 y2 => Wb_no (by omega) (by omega) (by omega)) (fun a j y1 y2 => Vim1_no (by omega)), by rw [hz.2.1.2.2.1]; omega, by rw [hz.2.1.2.2.2.1]; omega⟩
      · have hi := hG.2.2.2.2.2.2.2 k k2
        rw [hX] at hi
        have n0 : ¬ hpI G 74 k = 0 := by rw [hi.1]; decide
        have er : va_cpy (hpI G 73) (hpI G 72) (5580 * k) 0 5580 = R' := by
          funext j
          rw [hR', hG.2.1]
          by_cases y : j < 5580
          · rw [cpy_in (by omega)]
            dsimp only
            rw [if_pos y, ← hi.2 j y]
            exact congrArg _ (by omega)
          · rw [cpy_out (by omega)]
            dsimp only
            rw [if_neg y]
        rw [s_back hG.1.1, if_pos q, kc, if_neg n0, er]
        have hM1 : MS (stA (stI G 70 0 0) 72 R') := hG.1.1
        rw [s_set_pos hM1 (by decide)]
        have e2 : stI (stA (stI G 70 0 0) 72 R') 70 8 0 = stA (stI (stI G 70 0 0) 70 8 0) 72 R' := by rw [stI_stA_ne (by decide)]
        rw [e2]
        exact ⟨rfl, ((hG.t0 h0.h16).fg.rw (Nat.zero_le _) (W := (R', W.2)) (Or.inr rfl)).acc (Nat.zero_le _), ((cun_t0.trans (cun_stI (by omega) (by omega))).trans (cun_stA (by omega) (by omega))).trans (cun_stI (by omega) (by omega))⟩
  · refine st_ref h0 (v := -1) (i := 0) (by unfold tlV; decide) (by decide) (by decide) (fun G hG Q => (c_back_no hG.1.1 Q a).1 (no_k2 q)) (fun G hG Q => ?_)
    rw [s_back hG.1.1, if_neg q]
