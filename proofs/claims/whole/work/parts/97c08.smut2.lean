theorem stI_self {G : XH} {a k : Nat} : stI G a k (hpI G a k) = G := by
  have e : up (hpI G a) k (hpI G a k) = hpI G a := funext (fun j => by
    unfold up
    split
    · next z => rw [z]
    · rfl)
  rw [stI_up, e]
  exact stA_same
theorem s_set_neg {G : XH} (hM : MS G) {v : Int32} (hv : v < 0) (h7 : -7 < v) (Q : XR → Prop) : SP D_Mdl_settled [.ref 70, .int v] G Q = Q (some (.int v), tellH v G) := by
  rw [s_settled hM Q v h7, if_pos hv, stI_self]
theorem s_set_pos {G : XH} (hM : MS G) {v : Int32} (hv : ¬ v < 0) (Q : XR → Prop) : SP D_Mdl_settled [.ref 70, .int v] G Q = Q (some (.int v), stI (stI G 70 8 0) 70 1 0) := by
  rw [s_settled hM Q v (Int32.lt_of_lt_of_le (by decide) (Int32.not_lt.mp hv)), if_neg hv, tellH_pos hv]
theorem st_reader {X : XDt} {c : Nat} (h : VXe X c) (a b : Int32) : StX D_Post_reader D_Mdl_reader [.int a, .int b] X c := by
  have h0 := h
  obtain ⟨nr, nl, n, m, A, B, hV⟩ := h
  have n8 := hV.1.1.2.1
  by_cases q : (0 ≤ a ∧ a ≤ 9) ∧ (0 ≤ b ∧ b ≤ 7)
  · by_cases q8 : nr = 8
    · exact st_ref h0 (v := -5) (i := 3) (by unfold tlV; decide) (by decide) (by decide) (fun G hG Q => (c_reader_no hG.1.1 Q a b nr n8 (c4 hG hV).1).2 q q8) (fun G hG Q => by rw [s_reader hG.1.1 Q a b nr n8 (s1 hG hV).1, if_pos q, if_pos q8])
    · obtain ⟨ka, ka1, rfl⟩ := ex_le (a := a) (n := 9) (by omega) q.1
      obtain ⟨kb, kb1, rfl⟩ := ex_le (a := b) (n := 7) (by omega) q.2
      obtain ⟨Z, hZ⟩ : ∃ Z : Nat → Int32, Z = (fun j => if 9 + 6 * nr ≤ j ∧ j < 9 + 6 * nr + 6 then 0 else X.1.1 j) := ⟨_, rfl⟩
      have z1 : ∀ j, 9 + 6 * nr ≤ j ∧ j < 9 + 6 * nr + 6 → Z j = 0 := fun j hj => by rw [hZ]; exact if_pos hj
      have z2 : ∀ j, ¬ (9 + 6 * nr ≤ j ∧ j < 9 + 6 * nr + 6) → Z j = X.1.1 j := fun j hj => by rw [hZ]; exact if_neg hj
      obtain ⟨R', hR'⟩ : ∃ R', R' = up (up (up (up Z (9 + 6 * nr) (nI ka)) (10 + 6 * nr) (nI kb)) (165 + nr) (-1)) 1 (nI (nr + 1)) := ⟨_, rfl⟩
      have ro : ∀ j, ¬ j = 1 → ¬ (9 + 6 * nr ≤ j ∧ j < 9 + 6 * nr + 6) → ¬ j = 165 + nr → R' j = X.1.1 j := fun j a1 a2 a3 => by rw [hR', up_ne a1, up_ne a3, up_ne (by omega), up_ne (by omega)]; exact z2 j a2
      have r1 : R' 1 = nI (nr + 1) := by rw [hR', up_eq]
      have rs : R' (9 + 6 * nr) = nI ka := by rw [hR', up_ne (by omega), up_ne (by omega), up_ne (by omega), up_eq]
      have rt : R' (10 + 6 * nr) = nI kb := by rw [hR', up_ne (by omega), up_ne (by omega), up_eq]
      have rz : ∀ j, 11 + 6 * nr ≤ j → j < 15 + 6 * nr → R' j = 0 := fun j h1 h2 => by rw [hR', up_ne (by omega), up_ne (by omega), up_ne (by omega), up_ne (by omega)]; exact z1 j (by omega)
      obtain ⟨w1, w2, w3, w4, w5, w6, w7, w8, w9, w10⟩ := hV.1.1
      have hRW : RW R' (nr + 1) nl c := by
        refine ⟨r1, by omega, by rw [ro 2 (by omega) (by omega) (by omega)]; exact w3, w4, by rw [ro 5 (by omega) (by omega) (by omega)]; exact w5, by rw [ro 6 (by omega) (by omega) (by omega)]; exact w6, by rw [ro 7 (by omega) (by omega) (by omega)]; exact w7, by rw [ro 8 (by omega) (by omega) (by omega)]; exact w8, fun r hr => ?_, fun l hl => ?_⟩
        · by_cases e : r = nr
          · rw [e, rs, rt, rz _ (by omega) (by omega), rz _ (by omega) (by omega), rz _ (by omega) (by omega), rz _ (by omega) (by omega)]
            exact ⟨⟨ka, ka1, rfl⟩, ⟨kb, kb1, rfl⟩, In_0, In_0, In_0, In_0⟩
          · rw [ro (9 + 6 * r) (by omega) (by omega) (by omega), ro (10 + 6 * r) (by omega) (by omega) (by omega), ro (11 + 6 * r) (by omega) (by omega) (by omega), ro (12 + 6 * r) (by omega) (by omega) (by omega), ro (13 + 6 * r) (by omega) (by omega) (by omega), ro (14 + 6 * r) (by omega) (by omega) (by omega)]
            exact w9 r (by omega)
        · rw [ro (57 + 7 * l) (by omega) (by omega) (by omega), ro (58 + 7 * l) (by omega) (by omega) (by omega), ro (59 + 7 * l) (by omega) (by omega) (by omega), ro (60 + 7 * l) (by omega) (by omega) (by omega), ro (61 + 7 * l) (by omega) (by omega) (by omega), ro (62 + 7 * l) (by omega) (by omega) (by omega), ro (63 + 7 * l) (by omega) (by omega) (by omega)]
          obtain ⟨y1, y2, y3, ⟨w, y4, y5⟩, y6⟩ := w10 l hl
          exact ⟨y1, y2, y3, ⟨w, by omega, y5⟩, y6⟩
      have hW' : VWd (R', X.1.2) (nr + 1) nl n m A B c := hV.1.re hRW (hV.1.2.1.row (ro 0 (by omega) (by omega) (by omega)) (fun j _ h2 => ro j (by omega) (by omega) (by omega))) (ro 3 (by omega) (by omega) (by omega)) (by rw [ro 4 (by omega) (by omega) (by omega)]; exact hV.1.2.2.2.2.2) (fun j hj => ro j (by omega) (by omega) (by omega))
      have n12 := hV.n12
      refine ⟨nI nr, tlX (wX (fgX X) (R', X.1.2)) 0, ⟨nr + 1, nl, n, m, _, _, (hV.w0 hW').mono (by omega)⟩, fun G hG => ?_, fun G hG => ?_⟩
      · rw [c_reader_ok hG.1.1 _ _ _ nr (by omega) (c4 hG hV).1 q.1 q.2]
        obtain ⟨b1, b2, b3, b4, b5, b6, b7, b8⟩ := hG.2.1
        have hv0 : VW (zrN (hpI G 2) nr 6) (up (up (up (up (up (up X.1.1 (9 + 6 * nr + 0) 0) (9 + 6 * nr + 1) 0) (9 + 6 * nr + 2) 0) (9 + 6 * nr + 3) 0) (9 + 6 * nr + 4) 0) (9 + 6 * nr + 5) 0) := (((((b1.r (r := nr) (f := 0) (by omega) (by omega) 0 rfl rfl).r (r := nr) (f := 1) (by omega) (by omega) 0 rfl rfl).r (r := nr) (f := 2) (by omega) (by omega) 0 rfl rfl).r (r := nr) (f := 3) (by omega) (by omega) 0 rfl rfl).r (r := nr) (f := 4) (by omega) (by omega) 0 rfl rfl).r (r := nr) (f := 5) (by omega) (by omega) 0 rfl rfl
        have hZe : up (up (up (up (up (up X.1.1 (9 + 6 * nr + 0) 0) (9 + 6 * nr + 1) 0) (9 + 6 * nr + 2) 0) (9 + 6 * nr + 3) 0) (9 + 6 * nr + 4) 0) (9 + 6 * nr + 5) 0 = Z := by
          funext j
          by_cases e : 9 + 6 * nr ≤ j ∧ j < 9 + 6 * nr + 6
          · rw [z1 j e]
            unfold up
            rcases (show j = 9 + 6 * nr + 0 ∨ j = 9 + 6 * nr + 1 ∨ j = 9 + 6 * nr + 2 ∨ j = 9 + 6 * nr + 3 ∨ j = 9 + 6 * nr + 4 ∨ j = 9 + 6 * nr + 5 by omega) with y | y | y | y | y | y <;> simp [y]
          · rw [z2 j e, up_ne (by omega), up_ne (by omega), up_ne (by omega), up_ne (by omega), up_ne (by omega), up_ne (by omega)]
        rw [hZe] at hv0
        have hv1 := ((hv0.r (r := nr) (f := 0) (by omega) (by omega) (nI ka) (i := 6 + nr) (j := 9 + 6 * nr) (by omega) (by omega)).r (r := nr) (f := 1) (by omega) (by omega) (nI kb) (i := 14 + nr) (j := 10 + 6 * nr) (by omega) (by omega)).n4 (nI (nr + 1))
        have hrr : ∀ j, ¬ j = 1 → ¬ j = 165 + nr → R' j = up (up Z (9 + 6 * nr) (nI ka)) (10 + 6 * nr) (nI kb) j := fun j y1 y2 => by rw [hR', up_ne y1, up_ne y2]
        have hVW : VW (nrC (hpI G 2) nr (nI ka) (nI kb)) R' := by
          refine hv1.eqs ⟨?_, ?_, fun j h1 h2 => ?_⟩
          · rw [r1, up_eq]
          · have y1 : ¬ (2 : Nat) = 1 := by omega
            have y2 : ¬ (2 : Nat) = 165 + nr := by omega
            exact (hrr 2 y1 y2).trans (up_ne y1).symm
          · have y1 : ¬ j = 1 := by omega
            have y2 : ¬ j = 165 + nr := by omega
            exact (hrr j y1 y2).trans (up_ne y1).symm
        obtain ⟨G1, hG1⟩ : ∃ G1, G1 = stI (stA G 2 (nrC (hpI G 2) nr (nI ka) (nI kb))) 5 nr (-1) := ⟨_, rfl⟩
        rw [← hG1]
        have hf : FC W15 G G1 := by rw [hG1]; exact ((Fr.refl.wA (fun k q => absurd q (by unfold W15; simp))).wI rfl).fc
        have eo : ∀ a, ¬ a = 5 → ¬ a = 2 → hpI G1 a = hpI G a := fun a h5 h2 => by rw [hG1, stI_up, hpI_stA_ne h5, hpI_stA_ne h2]
        have e2 : hpI G1 2 = nrC (hpI G 2) nr (nI ka) (nI kb) := by rw [hG1, stI_up, hpI_stA_ne (by decide), hpI_stA]
        have e5 : hpI G1 5 = up (hpI G 5) nr (-1) := by rw [hG1, stI_up, hpI_stA, hpI_stA_ne (by decide)]
        have hcw : CWd G1 1 (R', X.1.2) := by
          refine hG.2.1.re hf W15_Lo (by rw [e2]; exact hVW) (fun j hj => ?_) (fun r hr => ?_) (by rw [eo _ (by decide) (by decide), ro 0 (by omega) (by omega) (by omega)]; exact b4) (by rw [eo _ (by decide) (by decide), ro 3 (by omega) (by omega) (by omega)]; exact b5) (by rw [eo _ (by decide) (by decide), ro 4 (by omega) (by omega) (by omega)]; exact b6) (ro 3 (by omega) (by omega) (by omega))
          · rw [ro 0 (by omega) (by omega) (by omega)] at hj
            rw [eo _ (by decide) (by decide), eo _ (by decide) (by decide), ro _ (by omega) (by omega) (by omega), ro _ (by omega) (by omega) (by omega)]
            exact b2 j hj
          · rw [e5]
            by_cases e : r = nr
            · rw [e, up_eq, hR', up_ne (by omega), up_eq]
            · rw [up_ne e, ro _ (by omega) (by omega) (by omega)]
              exact b3 r hr
        exact ⟨rfl, (hG.wd hf W15_out hcw).fg.ac0, ((hf.mun W15_LoC).trans (mun_stI (Or.inl (by omega)))).trans (mun_stI (Or.inl (by omega))), by show hpZ G1 ≤ _; rw [hf.Z]; omega, by show hpS G1 ≤ _; rw [hf.S]; omega⟩
      · rw [s_reader hG.1.1 _ _ _ nr n8 (s1 hG hV).1, if_pos q, if_neg q8]
        have h1 := hG.t0 h0.h16
        have e : rdH nr (nI ka) (nI kb) (stI G 70 0 0) = stA (stI G 70 0 0) 72 R' := by
          unfold rdH
          rw [stI_stU, stI_stU, stI_stU, stI_stU, h1.2.1, hR', hZ]
        have hM1 : MS (stA (stI G 70 0 0) 72 R') := h1.1.1
        rw [e, s_set_pos hM1 (nn_nI (by omega))]
        have e2 : stI (stA (stI G 70 0 0) 72 R') 70 8 0 = stA (stI (stI G 70 0 0) 70 8 0) 72 R' := by rw [stI_stA_ne (by decide)]
        rw [e2]
        exact ⟨rfl, (h1.fg.rw (Nat.zero_le _) (W := (R', X.1.2)) (Or.inr rfl)).acc (Nat.zero_le _), ((cun_t0.trans (cun_stI (by omega) (by omega))).trans (cun_stA (by omega) (by omega))).trans (cun_stI (by omega) (by omega))⟩
  · exact st_ref h0 (v := -1) (i := 0) (by unfold tlV; decide) (by decide) (by decide) (fun G hG Q => (c_reader_no hG.1.1 Q a b nr n8 (c4 hG hV).1).1 q) (fun G hG Q => by rw [s_reader hG.1.1 Q a b nr n8 (s1 hG hV).1, if_neg q])
theorem st_letter {X : XDt} {c : Nat} (h : VXe X c) (a b w d e : Int32) : StX D_Post_letter D_Mdl_letter [.int a, .int b, .int w, .int d, .int e] X c := by
  have h0 := h
  obtain ⟨nr, nl, n, m, A, B, hV⟩ := h
  have n8 := hV.1.1.2.1
  have l12 := hV.1.1.2.2.2.1
  have hcl := fun (G : XH) (hG : CPx G X) Q => c_letter hG.1.1 Q a b w d e nr nl n8 l12 (c4 hG hV).1 (c4 hG hV).2
  have hsl := fun (G : XH) (hG : MPx G X) Q => s_letter hG.1.1 Q a b w d e nr nl n8 l12 (s1 hG hV).1 (s1 hG hV).2
  have hM0 : ∀ {G : XH}, MPx G X → MS (stI G 70 0 0) := fun hG => hG.1.1
  by_cases q : (0 ≤ a ∧ a ≤ 30) ∧ (0 ≤ b ∧ b ≤ 30) ∧ (1 ≤ w ∧ w ≤ 9) ∧ (0 ≤ e ∧ e ≤ 1)
  · by_cases qr : 0 ≤ d ∧ d < nI nr
    · by_cases ql : nl = 12
      · have er : rlF nr nl a b w d e = -5 := by unfold rlF; rw [if_pos q, if_pos qr, if_pos ql]
        exact st_ref h0 (v := -5) (i := 3) (by unfold tlV; decide) (by decide) (by decide) (fun G hG Q => by rw [hcl G hG Q, er, if_neg (by decide)]; rfl) (fun G hG Q => by rw [hsl G hG Q, if_pos q, if_pos qr, if_pos ql, s_set_neg (hM0 hG) (by decide) (by decide)])
      · have er : rlF nr nl a b w d e = 0 := by unfold rlF; rw [if_pos q, if_pos qr, if_neg ql]
        obtain ⟨ka, ka1, rfl⟩ := ex_le (a := a) (n := 30) (by omega) q.1
        obtain ⟨kb, kb1, rfl⟩ := ex_le (a := b) (n := 30) (by omega) q.2.1
        have q0w : (0 : Int32) ≤ w := Int32.le_trans (by decide) q.2.2.1.1
        obtain ⟨kw, kw1, rfl⟩ := ex_le (a := w) (n := 9) (by omega) ⟨q0w, q.2.2.1.2⟩
        obtain ⟨ke, ke1, rfl⟩ := ex_le (a := e) (n := 1) (by omega) q.2.2.2
        obtain ⟨kd, kd1, rfl⟩ := ex_nI (by omega) qr
        have kw0 : ¬ nI kw = 0 := fun z => by have := q.2.2.1.1; rw [z] at this; exact absurd this (by decide)
        obtain ⟨R', hR'⟩ : ∃ R', R' = up (up (up (up (up (up (up (up X.1.1 (57 + 7 * nl) (nI ka)) (58 + 7 * nl) (nI kb)) (59 + 7 * nl) (nI kw)) (60 + 7 * nl) (nI kd)) (61 + 7 * nl) (nI ke)) (62 + 7 * nl) 0) (63 + 7 * nl) 0) 2 (nI (nl + 1)) := ⟨_, rfl⟩
        have ro : ∀ j, ¬ j = 2 → ¬ (57 + 7 * nl ≤ j ∧ j < 64 + 7 * nl) → R' j = X.1.1 j := fun j a1 a2 => by rw [hR', up_ne a1, up_ne (by omega), up_ne (by omega), up_ne (by omega), up_ne (by omega), up_ne (by omega), up_ne (by omega), up_ne (by omega)]
        have r2 : R' 2 = nI (nl + 1) := by rw [hR', up_eq]
        have g0 : R' (57 + 7 * nl) = nI ka := by rw [hR', up_ne (by omega), up_ne (by omega), up_ne (by omega), up_ne (by omega), up_ne (by omega), up_ne (by omega), up_ne (by omega), up_eq]
        have g1 : R' (58 + 7 * nl) = nI kb := by rw [hR', up_ne (by omega), up_ne (by omega), up_ne (by omega), up_ne (by omega), up_ne (by omega), up_ne (by omega), up_eq]
        have g2 : R' (59 + 7 * nl) = nI kw := by rw [hR', up_ne (by omega), up_ne (by omega), up_ne (by omega), up_ne (by omega), up_ne (by omega), up_eq]
        have g3 : R' (60 + 7 * nl) = nI kd := by rw [hR', up_ne (by omega), up_ne (by omega), up_ne (by omega), up_ne (by omega), up_eq]
        have g4 : R' (61 + 7 * nl) = nI ke := by rw [hR', up_ne (by omega), up_ne (by omega), up_ne (by omega), up_eq]
        have g5 : R' (62 + 7 * nl) = 0 := by rw [hR', up_ne (by omega), up_ne (by omega), up_eq]
        have g6 : R' (63 + 7 * nl) = 0 := by rw [hR', up_ne (by omega), up_eq]
        obtain ⟨w1, w2, w3, w4, w5, w6, w7, w8, w9, w10⟩ := hV.1.1
        have hRW : RW R' nr (nl + 1) c := by
          refine ⟨by rw [ro 1 (by omega) (by omega)]; exact w1, w2, r2, by omega, by rw [ro 5 (by omega) (by omega)]; exact w5, by rw [ro 6 (by omega) (by omega)]; exact w6, by rw [ro 7 (by omega) (by omega)]; exact w7, by rw [ro 8 (by omega) (by omega)]; exact w8, fun r hr => ?_, fun l hl => ?_⟩
          · rw [ro (9 + 6 * r) (by omega) (by omega), ro (10 + 6 * r) (by omega) (by omega), ro (11 + 6 * r) (by omega) (by omega), ro (12 + 6 * r) (by omega) (by omega), ro (13 + 6 * r) (by omega) (by omega), ro (14 + 6 * r) (by omega) (by omega)]
            exact w9 r hr
          · by_cases el : l = nl
            · rw [el, g0, g1, g2, g3, g4, g5, g6]
              exact ⟨⟨ka, ka1, rfl⟩, ⟨kb, kb1, rfl⟩, ⟨⟨kw, kw1, rfl⟩, kw0⟩, ⟨kd, kd1, rfl⟩, ⟨ke, ke1, rfl⟩, In_0, In_0⟩
            · rw [ro (57 + 7 * l) (by omega) (by omega), ro (58 + 7 * l) (by omega) (by omega), ro (59 + 7 * l) (by omega) (by omega), ro (60 + 7 * l) (by omega) (by omega), ro (61 + 7 * l) (by omega) (by omega), ro (62 + 7 * l) (by omega) (by omega), ro (63 + 7 * l) (by omega) (by omega)]
              exact w10 l (by omega)
        have hW' : VWd (R', X.1.2) nr (nl + 1) n m A B c := hV.1.re hRW (hV.1.2.1.row (ro 0 (by omega) (by omega)) (fun j h1 h2 => ro j (by omega) (by omega))) (ro 3 (by omega) (by omega)) (by rw [ro 4 (by omega) (by omega)]; exact hV.1.2.2.2.2.2) (fun j hj => ro j (by omega) (by omega))
        refine ⟨nI nl, tlX (wX (fgX X) (R', X.1.2)) 0, ⟨nr, nl + 1, n, m, _, _, (hV.w0 hW').mono (by omega)⟩, fun G hG => ?_, fun G hG => ?_⟩
        · rw [hcl G hG, er, if_pos rfl]
          have b1 := hG.2.1.1
          have hVW : VW (nlC (hpI G 2) nl (nI ka) (nI kb) (nI kw) (nI kd) (nI ke)) R' := by
            rw [hR']
            exact (((((((b1.l (l := nl) (f := 0) (by omega) (by omega) (nI ka) (by omega) (by omega)).l (l := nl) (f := 1) (by omega) (by omega) (nI kb) (by omega) (by omega)).l (l := nl) (f := 2) (by omega) (by omega) (nI kw) (by omega) (by omega)).l (l := nl) (f := 3) (by omega) (by omega) (nI kd) (by omega) (by omega)).l (l := nl) (f := 4) (by omega) (by omega) (nI ke) (by omega) (by omega)).l (l := nl) (f := 5) (by omega) (by omega) 0 (by omega) (by omega)).l (l := nl) (f := 6) (by omega) (by omega) 0 (by omega) (by omega)).n5 (nI (nl + 1))
          have h1 := (hG.sd hVW (ro 0 (by omega) (by omega)) (ro 3 (by omega) (by omega)) (ro 4 (by omega) (by omega)) (fun j h2 h3 => ro j (by omega) (by omega)) hV.n12).fg.ac0
          exact ⟨rfl, h1, ((mun_stA (Or.inl (by omega))).trans (mun_stI (Or.inl (by omega)))).trans (mun_stI (Or.inl (by omega))), by show hpZ G ≤ _; omega, by show hpS G ≤ _; omega⟩
        · rw [hsl G hG, if_pos q, if_pos qr, if_neg ql]
          have h1 := hG.t0 h0.h16
          have ee : ltH nl (nI ka) (nI kb) (nI kw) (nI kd) (nI ke) (stI G 70 0 0) = stA (stI G 70 0 0) 72 R' := by
            unfold ltH
            rw [stI_up (G := stI G 70 0 0), stI_stU, stI_stU, stI_stU, stI_stU, stI_stU, stI_stU, stI_stU, h1.2.1, hR']
          have hM1 : MS (stA (stI G 70 0 0) 72 R') := h1.1.1
          rw [ee, s_set_pos hM1 (nn_nI (by omega))]
          have e2 : stI (stA (stI G 70 0 0) 72 R') 70 8 0 = stA (stI (stI G 70 0 0) 70 8 0) 72 R' := by rw [stI_stA_ne (by decide)]
          rw [e2]
          exact ⟨rfl, (h1.fg.rw (Nat.zero_le _) (W := (R', X.1.2)) (Or.inr rfl)).acc (Nat.zero_le _), ((cun_t0.trans (cun_stI (by omega) (by omega))).trans (cun_stA (by omega) (by omega))).trans (cun_stI (by omega) (by omega))⟩
    · have er : rlF nr nl a b w d e = -2 := by unfold rlF; rw [if_pos q, if_neg qr]
      exact st_ref h0 (v := -2) (i := 1) (by unfold tlV; decide) (by decide) (by decide) (fun G hG Q => by rw [hcl G hG Q, er, if_neg (by decide)]; rfl) (fun G hG Q => by rw [hsl G hG Q, if_pos q, if_neg qr, s_set_neg (hM0 hG) (by decide) (by decide)])
  · have er : rlF nr nl a b w d e = -1 := by unfold rlF; rw [if_neg q]
    exact st_ref h0 (v := -1) (i := 0) (by unfold tlV; decide) (by decide) (by decide) (fun G hG Q => by rw [hcl G hG Q, er, if_neg (by decide)]; rfl) (fun G hG Q => by rw [hsl G hG Q, if_neg q, s_set_neg (hM0 hG) (by decide) (by decide)])
