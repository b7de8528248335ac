theorem In_up {R : Nat → Int32} {j k : Nat} {v : Int32} {b : Nat} (h : In (R j) b) (hk : j = k → In v b) : In (up R k v j) b := by
  by_cases e : j = k
  · rw [e, up_eq]; exact hk e
  · rw [up_ne e]; exact h
theorem RW.tire {R : Nat → Int32} {nr nl c : Nat} (h : RW R nr nl c) {r : Nat} {v : Int32} (hr : r < nr) (hv : In v 999) : RW (up R (11 + 6 * r) v) nr nl c := by
  obtain ⟨a1, a2, a3, a4, a5, a6, a7, a8, a9, a10⟩ := h
  refine ⟨by rw [up_ne (by omega)]; exact a1, a2, by rw [up_ne (by omega)]; exact a3, a4, by rw [up_ne (by omega)]; exact a5, by rw [up_ne (by omega)]; exact a6, by rw [up_ne (by omega)]; exact a7, by rw [up_ne (by omega)]; exact a8, fun q hq => ?_, fun l hl => ?_⟩
  · obtain ⟨b1, b2, b3, b4, b5, b6⟩ := a9 q hq
    rw [up_ne (show ¬ 9 + 6 * q = 11 + 6 * r by omega), up_ne (show ¬ 10 + 6 * q = 11 + 6 * r by omega), up_ne (show ¬ 12 + 6 * q = 11 + 6 * r by omega), up_ne (show ¬ 13 + 6 * q = 11 + 6 * r by omega), up_ne (show ¬ 14 + 6 * q = 11 + 6 * r by omega)]
    exact ⟨b1, b2, In_up b3 (fun _ => hv), b4, b5, b6⟩
  · rw [up_ne (by omega), up_ne (by omega), up_ne (by omega), up_ne (by omega), up_ne (by omega), up_ne (by omega), up_ne (by omega)]
    exact a10 l hl
theorem RW.term {R : Nat → Int32} {nr nl c : Nat} (h : RW R nr nl c) {k : Nat} {v : Int32} (hk : (k = 5 ∧ In v 999) ∨ (k = 6 ∧ In v 99) ∨ (k = 7 ∧ In v 9)) : RW (up R k v) nr nl c := by
  obtain ⟨a1, a2, a3, a4, a5, a6, a7, a8, a9, a10⟩ := h
  have hk3 : 5 ≤ k ∧ k ≤ 7 := by omega
  refine ⟨by rw [up_ne (by omega)]; exact a1, a2, by rw [up_ne (by omega)]; exact a3, a4, In_up a5 (fun e => ?_), In_up a6 (fun e => ?_), In_up a7 (fun e => ?_), by rw [up_ne (by omega)]; exact a8, fun q hq => ?_, fun l hl => ?_⟩
  · rcases hk with z | z | z
    · exact z.2
    · omega
    · omega
  · rcases hk with z | z | z
    · omega
    · exact z.2
    · omega
  · rcases hk with z | z | z
    · omega
    · omega
    · exact z.2
  · rw [up_ne (by omega), up_ne (by omega), up_ne (by omega), up_ne (by omega), up_ne (by omega), up_ne (by omega)]
    exact a9 q hq
  · rw [up_ne (by omega), up_ne (by omega), up_ne (by omega), up_ne (by omega), up_ne (by omega), up_ne (by omega), up_ne (by omega)]
    exact a10 l hl
theorem VXd.n12 {X : XDt} {nr nl n m : Nat} {A B : Nat → Nat} {c : Nat} (h : VXd X nr nl n m A B c) : (X.1.1 0).toNatClampNeg ≤ 12 := by
  rw [h.1.2.1.2.1, nI_clamp (by have := h.1.2.1.1; omega)]
  exact h.1.2.1.1
theorem st_tire {X : XDt} {c : Nat} (h : VXe X c) (a b : Int32) : StX D_Post_tire D_Mdl_tire [.int a, .int b] X c := by
  have h0 := h
  obtain ⟨nr, nl, n, m, A, B, hV⟩ := h
  have n8 := hV.1.1.2.1
  have hz : ∀ {G : XH}, MPx G X → hpI G 72 1 ≤ 8 := fun hG => by rw [(s1 hG hV).1]; exact le8 n8
  by_cases q : 0 ≤ b ∧ b ≤ 999
  · by_cases qr : 0 ≤ a ∧ a < nI nr
    · obtain ⟨r, r1, rfl⟩ := ex_nI (by omega) qr
      obtain ⟨kb, kb1, rfl⟩ := ex_le (a := b) (n := 999) (by omega) q
      have e1 : 9 + 6 * nI r + 2 = nI (11 + 6 * r) := by rw [show (6 : Int32) = nI 6 from rfl, show (9 : Int32) = nI 9 from rfl, show (2 : Int32) = nI 2 from rfl, nI_mul, nI_add, nI_add]; congr 1; omega
      obtain ⟨R', hR'⟩ : ∃ R', R' = up X.1.1 (11 + 6 * r) (nI kb) := ⟨_, rfl⟩
      have ro : ∀ j, ¬ j = 11 + 6 * r → R' j = X.1.1 j := fun j a1 => by rw [hR', up_ne a1]
      have hRW : RW R' nr nl c := by rw [hR']; exact hV.1.1.tire r1 ⟨kb, kb1, rfl⟩
      have hW' : VWd (R', X.1.2) nr nl n m A B c := hV.1.re hRW (hV.1.2.1.row (ro 0 (by omega)) (fun j _ h2 => ro j (by omega))) (ro 3 (by omega)) (by rw [ro 4 (by omega)]; exact hV.1.2.2.2.2.2) (fun j hj => ro j (by omega))
      refine ⟨X.1.1 (11 + 6 * r), tlX (wX (fgX X) (R', X.1.2)) 0, ⟨nr, nl, n, m, _, _, (hV.w0 hW').mono (by omega)⟩, fun G hG => ?_, fun G hG => ?_⟩
      · rw [c_tire hG.1.1 _ _ _ n8 (c4 hG hV).1, if_pos q, if_pos qr, nI_clamp (by omega)]
        have hv : hpI G 2 (22 + r) = X.1.1 (11 + 6 * r) := by
          rw [show 22 + r = 6 + 8 * 2 + r by omega]
          exact (hG.2.1.1.2.2.2.1 r 2 (by omega) (by omega)).trans (congrArg X.1.1 (by omega))
        have hVW : VW (up (hpI G 2) (22 + r) (nI kb)) R' := by rw [hR']; exact hG.2.1.1.r (r := r) (f := 2) (by omega) (by omega) _ (by omega) (by omega)
        have h1 := (hG.sd hVW (ro 0 (by omega)) (ro 3 (by omega)) (ro 4 (by omega)) (fun j h2 h3 => ro j (by omega)) hV.n12).fg.ac0
        rw [hv, stI_up (a := 2)]
        exact ⟨rfl, h1, ((mun_stA (Or.inl (by omega))).trans (mun_stI (Or.inl (by omega)))).trans (mun_stI (Or.inl (by omega))), by show hpZ G ≤ _; omega, by show hpS G ≤ _; omega⟩
      · rw [s_tire hG.1.1 _ _ _ (hz hG), (s1 hG hV).1, if_pos q, if_pos qr, e1, nI_clamp (by omega), hG.2.1]
        have h1 := (hG.t0 h0.h16).fg
        have e : stI (stI (stI G 70 0 0) 70 8 0) 72 (11 + 6 * r) (nI kb) = stA (stI (stI G 70 0 0) 70 8 0) 72 R' := by rw [stI_up (a := 72), h1.2.1, hR']; rfl
        rw [e]
        exact ⟨rfl, (h1.rw (Nat.zero_le _) (W := (R', X.1.2)) (Or.inr rfl)).acc (Nat.zero_le _), ((cun_t0.trans (cun_stI (by omega) (by omega))).trans (cun_stA (by omega) (by omega))).trans (cun_stI (by omega) (by omega))⟩
    · exact st_ref h0 (v := -2) (i := 1) (by unfold tlV; decide) (by decide) (by decide) (fun G hG Q => by rw [c_tire hG.1.1 _ _ _ n8 (c4 hG hV).1, if_pos q, if_neg qr]) (fun G hG Q => by rw [s_tire hG.1.1 _ _ _ (hz hG), (s1 hG hV).1, if_pos q, if_neg qr])
  · exact st_ref h0 (v := -1) (i := 0) (by unfold tlV; decide) (by decide) (by decide) (fun G hG Q => by rw [c_tire hG.1.1 _ _ _ n8 (c4 hG hV).1, if_neg q]) (fun G hG Q => by rw [s_tire hG.1.1 _ _ _ (hz hG), if_neg q])
theorem st_terms {X : XDt} {c : Nat} (h : VXe X c) (a b : Int32) : StX D_Post_terms D_Mdl_terms [.int a, .int b] X c := by
  have h0 := h
  obtain ⟨nr, nl, n, m, A, B, hV⟩ := h
  by_cases q : (a = 0 ∧ 0 ≤ b ∧ b ≤ 999) ∨ (a = 1 ∧ 1 ≤ b ∧ b ≤ 99) ∨ (a = 2 ∧ 0 ≤ b ∧ b ≤ 9)
  · obtain ⟨k, k3, rfl, hk⟩ : ∃ k, k < 3 ∧ a = nI k ∧ ((5 + k = 5 ∧ In b 999) ∨ (5 + k = 6 ∧ In b 99) ∨ (5 + k = 7 ∧ In b 9)) := by
      rcases q with ⟨z1, z2⟩ | ⟨z1, z2, z3⟩ | ⟨z1, z2⟩
      · obtain ⟨x, x1, x2⟩ := ex_le (a := b) (n := 999) (by omega) z2
        exact ⟨0, by omega, z1, Or.inl ⟨rfl, x, x1, x2⟩⟩
      · have : (0 : Int32) ≤ b := Int32.le_trans (by decide) z2
        obtain ⟨x, x1, x2⟩ := ex_le (a := b) (n := 99) (by omega) ⟨this, z3⟩
        exact ⟨1, by omega, z1, Or.inr (Or.inl ⟨rfl, x, x1, x2⟩)⟩
      · obtain ⟨x, x1, x2⟩ := ex_le (a := b) (n := 9) (by omega) z2
        exact ⟨2, by omega, z1, Or.inr (Or.inr ⟨rfl, x, x1, x2⟩)⟩
    have e1 : 5 + nI k = nI (5 + k) := nI_add 5 k
    obtain ⟨R', hR'⟩ : ∃ R', R' = up X.1.1 (5 + k) b := ⟨_, rfl⟩
    have ro : ∀ j, ¬ j = 5 + k → R' j = X.1.1 j := fun j a1 => by rw [hR', up_ne a1]
    have hRW : RW R' nr nl c := by rw [hR']; exact hV.1.1.term hk
    have hW' : VWd (R', X.1.2) nr nl n m A B c := hV.1.re hRW (hV.1.2.1.row (ro 0 (by omega)) (fun j _ h2 => ro j (by omega))) (ro 3 (by omega)) (by rw [ro 4 (by omega)]; exact hV.1.2.2.2.2.2) (fun j hj => ro j (by omega))
    refine ⟨X.1.1 (5 + k), tlX (wX (fgX X) (R', X.1.2)) 0, ⟨nr, nl, n, m, _, _, (hV.w0 hW').mono (by omega)⟩, fun G hG => ?_, fun G hG => ?_⟩
    · rw [c_terms hG.1.1, if_pos q, nI_clamp (by omega)]
      have hv : hpI G 2 k = X.1.1 (5 + k) := hG.2.1.1.1 k (by omega)
      have hVW : VW (up (hpI G 2) k b) R' := by rw [hR']; exact hG.2.1.1.g (by omega) _
      have h1 := (hG.sd hVW (ro 0 (by omega)) (ro 3 (by omega)) (ro 4 (by omega)) (fun j h2 h3 => ro j (by omega)) hV.n12).fg.ac0
      rw [hv, stI_up (a := 2)]
      exact ⟨rfl, h1, ((mun_stA (Or.inl (by omega))).trans (mun_stI (Or.inl (by omega)))).trans (mun_stI (Or.inl (by omega))), by show hpZ G ≤ _; omega, by show hpS G ≤ _; omega⟩
    · rw [s_terms hG.1.1, if_pos q, e1, nI_clamp (by omega), hG.2.1]
      have h1 := (hG.t0 h0.h16).fg
      have e : stI (stI (stI G 70 0 0) 70 8 0) 72 (5 + k) b = stA (stI (stI G 70 0 0) 70 8 0) 72 R' := by rw [stI_up (a := 72), h1.2.1, hR']; rfl
      rw [e]
      exact ⟨rfl, (h1.rw (Nat.zero_le _) (W := (R', X.1.2)) (Or.inr rfl)).acc (Nat.zero_le _), ((cun_t0.trans (cun_stI (by omega) (by omega))).trans (cun_stA (by omega) (by omega))).trans (cun_stI (by omega) (by omega))⟩
  · exact st_ref h0 (v := -1) (i := 0) (by unfold tlV; decide) (by decide) (by decide) (fun G hG Q => by rw [c_terms hG.1.1, if_neg q]) (fun G hG Q => by rw [s_terms hG.1.1, if_neg q])
theorem VW.n4 {s R : Nat → Int32} (h : VW s R) (v : Int32) : VW (up s 4 v) (up R 1 v) := by
  obtain ⟨h1, h2, h3, h4, h5⟩ := h
  refine ⟨fun k hk => ?_, by rw [up_eq, up_eq], by rw [up_ne (by omega), up_ne (by omega)]; exact h3, fun r f hr hf => ?_, fun l f hl hf => ?_⟩
  · rw [up_ne (by omega), up_ne (by omega)]; exact h1 k hk
  · rw [up_ne (by omega), up_ne (by omega)]; exact h4 r f hr hf
  · rw [up_ne (by omega), up_ne (by omega)]; exact h5 l f hl hf
theorem VW.n5 {s R : Nat → Int32} (h : VW s R) (v : Int32) : VW (up s 5 v) (up R 2 v) := by
  obtain ⟨h1, h2, h3, h4, h5⟩ := h
  refine ⟨fun k hk => ?_, by rw [up_ne (by omega), up_ne (by omega)]; exact h2, by rw [up_eq, up_eq], fun r f hr hf => ?_, fun l f hl hf => ?_⟩
  · rw [up_ne (by omega), up_ne (by omega)]; exact h1 k hk
  · rw [up_ne (by omega), up_ne (by omega)]; exact h4 r f hr hf
  · rw [up_ne (by omega), up_ne (by omega)]; exact h5 l f hl hf
