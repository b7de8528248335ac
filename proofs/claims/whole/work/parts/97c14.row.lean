theorem ltF_ups {nl : Nat} {a b c d e : Int32} {f : Nat → Int32} : ltF nl a b c d e f = up (up (up (up (up (up (up (up f (57 + 7 * nl) a) (58 + 7 * nl) b) (59 + 7 * nl) c) (60 + 7 * nl) d) (61 + 7 * nl) e) (62 + 7 * nl) 0) (63 + 7 * nl) 0) 2 (nI (nl + 1)) := rfl
theorem VW.lt {s R : Nat → Int32} (h : VW s R) {nl : Nat} (hl : nl < 12) {a b c d e : Int32} : VW (nlC s nl a b c d e) (ltF nl a b c d e R) := by
  rw [ltF_ups]
  exact (((((((h.l (l := nl) (f := 0) (by omega) (by omega) a (by omega) (by omega)).l (l := nl) (f := 1) (by omega) (by omega) b (by omega) (by omega)).l (l := nl) (f := 2) (by omega) (by omega) c (by omega) (by omega)).l (l := nl) (f := 3) (by omega) (by omega) d (by omega) (by omega)).l (l := nl) (f := 4) (by omega) (by omega) e (by omega) (by omega)).l (l := nl) (f := 5) (by omega) (by omega) 0 (by omega) (by omega)).l (l := nl) (f := 6) (by omega) (by omega) 0 (by omega) (by omega)).n5 (nI (nl + 1))
theorem lt_ro {nl : Nat} {a b c d e : Int32} {R : Nat → Int32} {j : Nat} (a1 : ¬ j = 2) (a2 : ¬ (57 + 7 * nl ≤ j ∧ j < 64 + 7 * nl)) : ltF nl a b c d e R j = R j := by rw [ltF_ups, up_ne a1, up_ne (by omega), up_ne (by omega), up_ne (by omega), up_ne (by omega), up_ne (by omega), up_ne (by omega), up_ne (by omega)]
theorem RW.lt {R : Nat → Int32} {nr nl c : Nat} (h : RW R nr nl c) (hl : nl < 12) {a b w d e : Int32} (hk : okL nr a b w d e) : RW (ltF nl a b w d e R) nr (nl + 1) c := by
  obtain ⟨q, qr⟩ := hk
  have n8 := h.2.1
  obtain ⟨ka, ka1, rfl⟩ := ex_le (a := a) (n := 30) (by omega) q.1
  obtain ⟨kb, kb1, rfl⟩ := ex_le (a := b) (n := 30) (by omega) q.2.1
  have q0w : (0 : Int32) ≤ w := Int32.le_trans (by decide) q.2.2.1.1
  obtain ⟨kw, kw1, rfl⟩ := ex_le (a := w) (n := 9) (by omega) ⟨q0w, q.2.2.1.2⟩
  obtain ⟨ke, ke1, rfl⟩ := ex_le (a := e) (n := 1) (by omega) q.2.2.2
  obtain ⟨kd, kd1, rfl⟩ := ex_nI (by omega) qr
  have kw0 : ¬ nI kw = 0 := fun z => by have := q.2.2.1.1; rw [z] at this; exact absurd this (by decide)
  obtain ⟨R', hR'⟩ : ∃ R', R' = ltF nl (nI ka) (nI kb) (nI kw) (nI kd) (nI ke) R := ⟨_, rfl⟩
  have ro : ∀ j, ¬ j = 2 → ¬ (57 + 7 * nl ≤ j ∧ j < 64 + 7 * nl) → R' j = R j := fun j a1 a2 => by rw [hR']; exact lt_ro a1 a2
  rw [← hR']
  rw [ltF_ups] at hR'
  have r2 : R' 2 = nI (nl + 1) := by rw [hR', up_eq]
  have g0 : R' (57 + 7 * nl) = nI ka := by rw [hR', up_ne (by omega), up_ne (by omega), up_ne (by omega), up_ne (by omega), up_ne (by omega), up_ne (by omega), up_ne (by omega), up_eq]
  have g1 : R' (58 + 7 * nl) = nI kb := by rw [hR', up_ne (by omega), up_ne (by omega), up_ne (by omega), up_ne (by omega), up_ne (by omega), up_ne (by omega), up_eq]
  have g2 : R' (59 + 7 * nl) = nI kw := by rw [hR', up_ne (by omega), up_ne (by omega), up_ne (by omega), up_ne (by omega), up_ne (by omega), up_eq]
  have g3 : R' (60 + 7 * nl) = nI kd := by rw [hR', up_ne (by omega), up_ne (by omega), up_ne (by omega), up_ne (by omega), up_eq]
  have g4 : R' (61 + 7 * nl) = nI ke := by rw [hR', up_ne (by omega), up_ne (by omega), up_ne (by omega), up_eq]
  have g5 : R' (62 + 7 * nl) = 0 := by rw [hR', up_ne (by omega), up_ne (by omega), up_eq]
  have g6 : R' (63 + 7 * nl) = 0 := by rw [hR', up_ne (by omega), up_eq]
  obtain ⟨w1, w2, w3, w4, w5, w6, w7, w8, w9, w10⟩ := h
  refine ⟨by rw [ro 1 (by omega) (by omega)]; exact w1, w2, r2, by omega, by rw [ro 5 (by omega) (by omega)]; exact w5, by rw [ro 6 (by omega) (by omega)]; exact w6, by rw [ro 7 (by omega) (by omega)]; exact w7, by rw [ro 8 (by omega) (by omega)]; exact w8, fun r hr => ?_, fun l hl => ?_⟩
  · rw [ro (9 + 6 * r) (by omega) (by omega), ro (10 + 6 * r) (by omega) (by omega), ro (11 + 6 * r) (by omega) (by omega), ro (12 + 6 * r) (by omega) (by omega), ro (13 + 6 * r) (by omega) (by omega), ro (14 + 6 * r) (by omega) (by omega)]
    exact w9 r hr
  · by_cases el : l = nl
    · rw [el, g0, g1, g2, g3, g4, g5, g6]
      exact ⟨⟨ka, ka1, rfl⟩, ⟨kb, kb1, rfl⟩, ⟨⟨kw, kw1, rfl⟩, kw0⟩, ⟨kd, kd1, rfl⟩, ⟨ke, ke1, rfl⟩, In_0, In_0⟩
    · rw [ro (57 + 7 * l) (by omega) (by omega), ro (58 + 7 * l) (by omega) (by omega), ro (59 + 7 * l) (by omega) (by omega), ro (60 + 7 * l) (by omega) (by omega), ro (61 + 7 * l) (by omega) (by omega), ro (62 + 7 * l) (by omega) (by omega), ro (63 + 7 * l) (by omega) (by omega)]
      exact w10 l (by omega)
theorem rwS_cg {t t' : Nat → Int32} {n nr nl : Nat} {s : Nat → Int32} (h : ∀ k, k < n → t k = t' k) : ∀ i, rwS t n nr nl s i = rwS t' n nr nl s i
  | 0 => rfl
  | i + 1 => by
    unfold rwS
    rw [rwS_cg h i]
    by_cases q : 5 * i + 4 < n
    · rw [h (5 * i) (by omega), h (5 * i + 1) (by omega), h (5 * i + 2) (by omega), h (5 * i + 3) (by omega), h (5 * i + 4) (by omega)]
    · rw [if_neg (fun z => q z.1), if_neg (fun z => q z.1)]
theorem rwF_cg {t t' : Nat → Int32} {n nr nl : Nat} {s : Nat → Int32} (h : ∀ k, k < n → t k = t' k) : ∀ i, rwF t n nr nl s i = rwF t' n nr nl s i
  | 0 => rfl
  | i + 1 => by
    unfold rwF
    rw [rwF_cg h i]
    by_cases q : 5 * i + 4 < n
    · rw [h (5 * i) (by omega), h (5 * i + 1) (by omega), h (5 * i + 2) (by omega), h (5 * i + 3) (by omega), h (5 * i + 4) (by omega)]
    · rw [if_neg (fun z => q z.1), if_neg (fun z => q z.1)]
theorem rw_R {t : Nat → Int32} {n nr nl c : Nat} {R : Nat → Int32} (hR : RW R nr nl c) : ∀ i, RW (rwF t n nr nl R i).1 nr (nl + (rwF t n nr nl R i).2.1) c ∧ ∀ j, ¬ j = 2 → ¬ (57 ≤ j ∧ j < 141) → (rwF t n nr nl R i).1 j = R j
  | 0 => ⟨hR, fun _ _ _ => rfl⟩
  | i + 1 => by
    obtain ⟨h3, h4⟩ := rw_R (t := t) (n := n) hR i
    unfold rwF
    by_cases q : 5 * i + 4 < n ∧ okL nr (t (5 * i)) (t (5 * i + 1)) (t (5 * i + 2)) (t (5 * i + 3)) (t (5 * i + 4)) ∧ nl + (rwF t n nr nl R i).2.1 < 12
    · rw [if_pos q]
      refine ⟨h3.lt q.2.2 q.2.1, fun j y1 y2 => ?_⟩
      dsimp only
      rw [lt_ro y1 (by have := q.2.2; omega)]
      exact h4 j y1 y2
    · rw [if_neg q]
      exact ⟨h3, h4⟩
theorem rw_V {t : Nat → Int32} {n nr nl : Nat} {s R : Nat → Int32} (hV : VW s R) : ∀ i, (rwS t n nr nl s i).2 = (rwF t n nr nl R i).2 ∧ VW (rwS t n nr nl s i).1 (rwF t n nr nl R i).1
  | 0 => ⟨rfl, hV⟩
  | i + 1 => by
    obtain ⟨h1, h2⟩ := rw_V (t := t) (n := n) (nr := nr) (nl := nl) hV i
    unfold rwS rwF
    rw [h1]
    by_cases q : 5 * i + 4 < n ∧ okL nr (t (5 * i)) (t (5 * i + 1)) (t (5 * i + 2)) (t (5 * i + 3)) (t (5 * i + 4)) ∧ nl + (rwF t n nr nl R i).2.1 < 12
    · rw [if_pos q, if_pos q]
      exact ⟨rfl, h2.lt q.2.2⟩
    · rw [if_neg q, if_neg q]
      exact ⟨rfl, h2⟩
theorem st_row {X : XDt} {c : Nat} (h : VXe X c) : StX D_Post_row D_Mdl_row [] X c := by
  have h0 := h
  obtain ⟨nr, nl, n, m, A, B, hV⟩ := h
  have n8 := hV.1.1.2.1
  have l12 := hV.1.1.2.2.2.1
  have l400 := hV.2.2.1
  have n12 := hV.n12
  obtain ⟨t, ht⟩ : ∃ t : Nat → Int32, t = fun k => nI (X.2.2.1.2 k) := ⟨_, rfl⟩
  obtain ⟨len, hlen⟩ : ∃ len, len = X.2.2.1.1 := ⟨_, rfl⟩
  rw [← hlen] at l400
  have hcT : ∀ {G : XH}, CPx G X → ∀ k, k < len → hpI G 48 k = t k := fun hG k hk => by rw [ht]; exact hG.2.2.2.1.2 k (by omega)
  have hmT : ∀ {G : XH}, MPx G X → ∀ k, k < len → hpI G 79 k = t k := fun hG k hk => by rw [ht]; exact hG.2.2.2.1.2 k (by omega)
  by_cases q : len = 0
  · refine ⟨-6, tlX (tpX X (0, X.2.2.1.2)) (-6), VXe.mono (c := c) ⟨nr, nl, n, m, A, B, hV.1, hV.2.1, Nat.zero_le _, fun k hk => absurd hk (Nat.not_lt_zero k), hV.2.2.2.2⟩ (by omega), fun G hG => ?_, fun G hG => ?_⟩
    · rw [c_row hG.1.1 _ len nr nl l400 n8 l12 (c4 hG hV).1 (c4 hG hV).2 (by rw [hlen]; exact hG.2.2.2.1.1), if_pos q]
      have e : X = tpX X (0, X.2.2.1.2) := by
        have : (0, X.2.2.1.2) = X.2.2.1 := by rw [← q, hlen]
        rw [this]
        rfl
      have h1 := hG.ref (v := -6) (i := 4) (by decide) (by decide)
      rw [e] at h1
      exact ⟨rfl, h1, mun_ref, by show hpZ G ≤ _; omega, by show hpS G ≤ _; omega⟩
    · rw [s_row hG.1.1 _ len nr nl l400 n8 l12 (s1 hG hV).1 (s1 hG hV).2 (by rw [hlen]; exact hG.2.2.2.1.1), if_pos q]
      have h1 := (hG.t0 h0.h16).tp h0.h16 (k := 0) (Nat.zero_le _)
      have hu1 : CUn (stI G 70 0 0) (stI (stI G 70 0 0) 70 13 0) := cun_stI (by omega) (by omega)
      have hu2 : CUn (stI (stI G 70 0 0) 70 13 0) (tellH (-6) (stI (stI G 70 0 0) 70 13 0)) := cun_tell
      exact ⟨rfl, h1.tell h0.h16 (v := -6) (by unfold tlV; decide), (cun_t0.trans hu1).trans hu2⟩
  · obtain ⟨i, hi⟩ : ∃ i, i = (len + 4) / 5 := ⟨_, rfl⟩
    obtain ⟨Z, hZ⟩ : ∃ Z, Z = rwF t len nr nl X.1.1 i := ⟨_, rfl⟩
    obtain ⟨y3, y4⟩ := rw_R (t := t) (n := len) hV.1.1 i
    rw [← hZ] at y3 y4
    have hcnt : nl + Z.2.1 ≤ 12 ∧ Z.2.2 ≤ i := by rw [hZ]; exact rwF_le l12 i
    have hW' : VWd (Z.1, X.1.2) nr (nl + Z.2.1) n m A B c := hV.1.re y3 (hV.1.2.1.row (y4 0 (by omega) (by omega)) (fun j h1 h2 => y4 j (by omega) (by omega))) (y4 3 (by omega) (by omega)) (by rw [y4 4 (by omega) (by omega)]; exact hV.1.2.2.2.2.2) (fun j hj => y4 j (by omega) (by omega))
    have hVX := hV.w0 hW'
    refine ⟨nI Z.2.1, tlX (fgX (tpX (wX (blX X (nI Z.2.2)) (Z.1, X.1.2)) (0, X.2.2.1.2))) 0, VXe.mono (c := c) ⟨nr, nl + Z.2.1, n, m, A, B, hW', hVX.2.1, Nat.zero_le _, fun k hk => absurd hk (Nat.not_lt_zero k), hV.2.2.2.2⟩ (by omega), fun G hG => ?_, fun G hG => ?_⟩
    · obtain ⟨v1, v2⟩ := rw_V (t := t) (n := len) (nr := nr) (nl := nl) hG.2.1.1 i
      rw [← hZ] at v1 v2
      rw [c_row hG.1.1 _ len nr nl l400 n8 l12 (c4 hG hV).1 (c4 hG hV).2 (by rw [hlen]; exact hG.2.2.2.1.1), if_neg q, ← hi, rwS_cg (hcT hG), v1]
      have h1 := ((((hG.bl (nI Z.2.2)).sd (R' := Z.1) v2 (y4 0 (by omega) (by omega)) (y4 3 (by omega) (by omega)) (y4 4 (by omega) (by omega)) (fun j h2 h3 => y4 j (by omega) (by omega)) n12).tp (k := 0) (Nat.zero_le _)).fg).ac0
      exact ⟨rfl, h1, ((((mun_stI (Or.inl (by omega))).trans (mun_stA (Or.inl (by omega)))).trans (mun_stI (Or.inl (by omega)))).trans (mun_stI (Or.inl (by omega)))).trans (mun_stI (Or.inl (by omega))), by show hpZ G ≤ _; omega, by show hpS G ≤ _; omega⟩
    · have e : rwH len nr nl i G = stA (stI (stI (stI G 70 0 0) 70 13 0) 70 11 (nI Z.2.2)) 72 Z.1 := by
        unfold rwH
        rw [rwF_cg (hmT hG), hG.2.1, ← hZ, stI_up (G := G), stI_stU, stI_stU]
        refine congrArg (fun g => stA (stA G 70 g) 72 Z.1) (funext fun y => ?_)
        unfold up
        rfl
      have h16 := h0.h16
      have h1 := (((hG.t0 h16).tp h16 (k := 0) (Nat.zero_le _)).bl h16 (nI Z.2.2)).fg.rw (W := (Z.1, X.1.2)) (Nat.zero_le _) (Or.inr rfl)
      have e2 : stI (stA (stI (stI (stI G 70 0 0) 70 13 0) 70 11 (nI Z.2.2)) 72 Z.1) 70 8 0 = stA (stI (stI (stI (stI G 70 0 0) 70 13 0) 70 11 (nI Z.2.2)) 70 8 0) 72 Z.1 := by rw [stI_stA_ne (by decide)]
      rw [s_row hG.1.1 _ len nr nl l400 n8 l12 (s1 hG hV).1 (s1 hG hV).2 (by rw [hlen]; exact hG.2.2.2.1.1), if_neg q, ← hi, e, rwF_cg (hmT hG), hG.2.1, ← hZ]
      have hM1 : MS (stA (stI (stI (stI G 70 0 0) 70 13 0) 70 11 (nI Z.2.2)) 72 Z.1) := hG.1.1
      rw [s_set_pos hM1 (nn_nI (by omega)), e2]
      exact ⟨rfl, h1.acc (Nat.zero_le _), (((((cun_t0.trans (cun_stI (by omega) (by omega))).trans (cun_stI (by omega) (by omega))).trans (cun_stI (by omega) (by omega))).trans (cun_stA (by omega) (by omega))).trans (cun_stI (by omega) (by omega)))⟩
