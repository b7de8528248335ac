theorem VWd.re {Wd : WDt} {nr nl n m : Nat} {A B : Nat → Nat} {c : Nat} (h : VWd Wd nr nl n m A B c) {R' : Nat → Int32} {nr' nl' n' : Nat} {A' B' : Nat → Nat} (h1 : RW R' nr' nl' c) (h2 : MRd R' n' A' B') (h3 : R' 3 = Wd.1 3) (h4 : R' 4 = -1 ∨ ∃ f, f < m ∧ R' 4 = nI f) (hs : ∀ j, 180 ≤ j → R' j = Wd.1 j) : VWd (R', Wd.2) nr' nl' n' m A' B' c := ⟨h1, h2, h.2.2.1, h3.trans h.2.2.2.1, fun i hi => ⟨(h.2.2.2.2.1 i hi).1.same hs (by omega), (h.2.2.2.2.1 i hi).2⟩, h4⟩
theorem VXd.w {X : XDt} {nr nl n m : Nat} {A B : Nat → Nat} {c : Nat} (h : VXd X nr nl n m A B c) {Wd : WDt} {n' m' : Nat} {A' B' : Nat → Nat} (hW : VWd Wd nr nl n' m' A' B' c) : VXd (wX X Wd) nr nl n' m' A' B' c := ⟨hW, h.2⟩
theorem VXd.w0 {X : XDt} {nr nl n m : Nat} {A B : Nat → Nat} {c : Nat} (h : VXd X nr nl n m A B c) {Wd : WDt} {nr' nl' n' m' : Nat} {A' B' : Nat → Nat} (hW : VWd Wd nr' nl' n' m' A' B' c) : VXd (wX (fgX X) Wd) nr' nl' n' m' A' B' c := ⟨hW, ⟨Nat.zero_le _, fun k hk => absurd hk (Nat.not_lt_zero k)⟩, h.2.2⟩
theorem CWd.re {W : Nat → Nat → Bool} {G G' : XH} {Wd : WDt} (h : CWd G 1 Wd) (hf : FC W G G') (hL : Lo W) {R' : Nat → Int32} (a1 : VW (hpI G' 2) R') (a2 : ∀ j, j < (R' 0).toNatClampNeg → hpI G' 3 j = R' (141 + 2 * j) ∧ hpI G' 4 j = R' (141 + 2 * j + 1)) (a3 : ∀ r, r < 8 → hpI G' 5 r = R' (165 + r)) (a4 : hpI G' 1 5 = R' 0) (a6 : hpI G' 1 6 = R' 3) (a7 : hpI G' 1 7 = R' 4) (h3 : R' 3 = Wd.1 3) : CWd G' 1 (R', Wd.2) := by
  obtain ⟨b1, b2, b3, b4, b5, b6, b7, b8⟩ := h
  refine ⟨a1, a2, a3, a4, a6, a7, fun i hi => ?_, fun k hk => ?_⟩
  · dsimp only at hi
    rw [h3] at hi
    obtain ⟨t, t1, t2⟩ := b7 i hi
    exact ⟨t, by rw [hf.R (Or.inl (by decide))]; exact t1, t2.cg (fun x hx => ⟨by rw [hf.C], by rw [hf.N], hf.IA x (fun k => hL x k hx.1), funext fun k => hf.R (Or.inl (by have := hx.1; omega))⟩) (fun x hx => hx.fc hf)⟩
  · rw [hf.R (Or.inl (by decide)), hf.C, hf.Z]
    exact b8 k hk
/-- only the world's cells were written -/
theorem CPx.wd {W : Nat → Nat → Bool} {G G' : XH} {X : XDt} (h : CPx G X) (hf : FC W G G') (hW : ∀ a k, ¬ (1 ≤ a ∧ a ≤ 5) → W a k = false) {Wd : WDt} (hcw : CWd G' 1 Wd) : CPx G' (wX X Wd) := by
  have h0 := h
  obtain ⟨_, b, c, d, e, f, g, i⟩ := h
  exact h0.mk hf (fun a k ha => hW a k (by omega)) hcw (c.unc (UnC.fc hf (fun k => hW _ k (by omega)) (fun k => hW _ k (by omega)) (fun i hi k => hW _ k (by omega)))) (d.fc hf (hW _ _ (by omega)) (fun k => hW _ k (by omega))) (e.fc hf (hW _ _ (by omega)) (hW _ _ (by omega)) (hW _ _ (by omega)) (hW _ _ (by omega))) (f.fc hf (fun k => hW _ k (by omega))) (g.fc hf (hW _ _ (by omega)) (fun k => hW _ k (by omega))) rfl
def W15 : Nat → Nat → Bool := fun a _ => decide (1 ≤ a) && decide (a ≤ 5)
theorem W15_out (a k : Nat) (h : ¬ (1 ≤ a ∧ a ≤ 5)) : W15 a k = false := by
  unfold W15
  simp only [Bool.and_eq_false_iff, decide_eq_false_iff_not]
  omega
theorem W15_Lo : Lo W15 := fun a k h => W15_out a k (by omega)
theorem W15_LoC : LoC W15 := fun a k h1 h2 => W15_out a k (by omega)
theorem tellH_pos {G : XH} {v : Int32} (h : ¬ v < 0) : tellH v G = stI G 70 1 0 := by
  unfold tellH
  rw [if_neg h]
theorem MPx.acc {G : XH} {X : XDt} (h : MPx G X) (h16 : X.2.1.1 ≤ 16) : MPx (stI G 70 1 0) (tlX X 0) := by
  have := h.tell h16 (v := 0) (Or.inl (by decide))
  rw [tellH_pos (by decide)] at this
  exact this
theorem CPx.ac0 {G : XH} {X : XDt} (h : CPx G X) : CPx (stI G 0 16 0) (tlX X 0) := h.acc (by decide)
theorem nn_nI {n : Nat} (h : n < 2147483648) : ¬ nI n < 0 := Int32.not_lt.mpr (nI_pos' h)
/-- roads and laws of RW, MRd where other rows change -/
theorem MRd.up {R R' : Nat → Int32} {n : Nat} {A B : Nat → Nat} (h : MRd R n A B) (h0 : R' 0 = R 0) (h1 : ∀ j, 141 ≤ j → j < 165 → R' j = R j) : MRd R' n A B := h.row h0 h1
theorem st_road {X : XDt} {c : Nat} (h : VXe X c) (a b : Int32) : StX D_Post_road D_Mdl_road [.int a, .int b] X c := by
  have h0 := h
  obtain ⟨nr, nl, n, m, A, B, hV⟩ := h
  have hR0 : X.1.1 0 = nI n := hV.1.2.1.2.1
  have n12 := hV.1.2.1.1
  by_cases q : (0 ≤ a ∧ a ≤ 7) ∧ (0 ≤ b ∧ b ≤ 7) ∧ ¬ a = b
  · by_cases q12 : n = 12
    · exact st_ref h0 (v := -5) (i := 3) (by unfold tlV; decide) (by decide) (by decide) (fun G hG Q => by rw [c_road hG.1.1 Q a b n n12 (hG.2.1.2.2.2.1.trans hR0), if_pos q, if_pos q12]) (fun G hG Q => by rw [s_road hG.1.1 Q a b n n12 (by rw [hG.2.1]; exact hR0), if_pos q, if_pos q12])
    · obtain ⟨ka, ka1, rfl⟩ := ex_le (a := a) (n := 7) (by omega) q.1
      obtain ⟨kb, kb1, rfl⟩ := ex_le (a := b) (n := 7) (by omega) q.2.1
      have hab : ¬ ka = kb := fun z => q.2.2 (by rw [z])
      obtain ⟨R', hR'⟩ : ∃ R', R' = up (up (up X.1.1 (141 + 2 * n) (nI ka)) (142 + 2 * n) (nI kb)) 0 (nI (n + 1)) := ⟨_, rfl⟩
      have r0 : R' 0 = nI (n + 1) := by rw [hR', up_eq]
      have ro : ∀ j, ¬ j = 0 → ¬ j = 141 + 2 * n → ¬ j = 142 + 2 * n → R' j = X.1.1 j := fun j a1 a2 a3 => by rw [hR', up_ne a1, up_ne a3, up_ne a2]
      have rA : R' (141 + 2 * n) = nI ka := by rw [hR', up_ne (by omega), up_ne (by omega), up_eq]
      have rB : R' (142 + 2 * n) = nI kb := by rw [hR', up_ne (by omega), up_eq]
      have eqs : EqS X.1.1 R' := ⟨ro 1 (by omega) (by omega) (by omega), ro 2 (by omega) (by omega) (by omega), fun j h1 h2 => ro j (by omega) (by omega) (by omega)⟩
      obtain ⟨_, mr2, mr3⟩ := hV.1.2.1
      have hMR : MRd R' (n + 1) (fun j => if j = n then ka else A j) (fun j => if j = n then kb else B j) := by
        refine ⟨by omega, r0, fun j hj => ?_⟩
        dsimp only
        by_cases e : j = n
        · rw [if_pos e, if_pos e, e, rA, show 141 + 2 * n + 1 = 142 + 2 * n by omega, rB]
          exact ⟨by omega, by omega, hab, rfl, rfl⟩
        · rw [if_neg e, if_neg e, ro _ (by omega) (by omega) (by omega), ro _ (by omega) (by omega) (by omega)]
          exact mr3 j (by omega)
      have hW' : VWd (R', X.1.2) nr nl (n + 1) m (fun j => if j = n then ka else A j) (fun j => if j = n then kb else B j) c := hV.1.re (hV.1.1.eqs eqs) hMR (ro 3 (by omega) (by omega) (by omega)) (by rw [ro 4 (by omega) (by omega) (by omega)]; exact hV.1.2.2.2.2.2) (fun j hj => ro j (by omega) (by omega) (by omega))
      refine ⟨nI n, tlX (wX X (R', X.1.2)) 0, ⟨nr, nl, n + 1, m, _, _, (hV.w hW').mono (by omega)⟩, fun G hG => ?_, fun G hG => ?_⟩
      · rw [c_road hG.1.1 _ _ _ n n12 (hG.2.1.2.2.2.1.trans hR0), if_pos q, if_neg q12]
        obtain ⟨G1, hG1⟩ : ∃ G1, G1 = stI (stI (stI G 3 n (nI ka)) 4 n (nI kb)) 1 5 (nI (n + 1)) := ⟨_, rfl⟩
        rw [← hG1]
        have hf : FC W15 G G1 := by rw [hG1]; exact (((Fr.refl.wI rfl).wI rfl).wI rfl).fc
        obtain ⟨b1, b2, b3, b4, b5, b6, b7, b8⟩ := hG.2.1
        have e1 : hpI G1 1 = up (hpI G 1) 5 (nI (n + 1)) := by rw [hG1, stI_up, hpI_stA, stI_up, hpI_stA_ne (by decide), stI_up, hpI_stA_ne (by decide)]
        have e2 : hpI G1 2 = hpI G 2 := by rw [hG1, stI_up, hpI_stA_ne (by decide), stI_up, hpI_stA_ne (by decide), stI_up, hpI_stA_ne (by decide)]
        have e3 : hpI G1 3 = up (hpI G 3) n (nI ka) := by rw [hG1, stI_up, hpI_stA_ne (by decide), stI_up, hpI_stA_ne (by decide), stI_up, hpI_stA]
        have e4 : hpI G1 4 = up (hpI G 4) n (nI kb) := by rw [hG1, stI_up, hpI_stA_ne (by decide), stI_up, hpI_stA, stI_up, hpI_stA_ne (by decide)]
        have e5 : hpI G1 5 = hpI G 5 := by rw [hG1, stI_up, hpI_stA_ne (by decide), stI_up, hpI_stA_ne (by decide), stI_up, hpI_stA_ne (by decide)]
        have hcw : CWd G1 1 (R', X.1.2) := by
          refine hG.2.1.re hf W15_Lo (by rw [e2]; exact b1.eqs eqs) (fun j hj => ?_) (fun r hr => by rw [e5, ro _ (by omega) (by omega) (by omega)]; exact b3 r hr) (by rw [e1, up_eq, r0]) (by rw [e1, up_ne (by decide), ro 3 (by omega) (by omega) (by omega)]; exact b5) (by rw [e1, up_ne (by decide), ro 4 (by omega) (by omega) (by omega)]; exact b6) (ro 3 (by omega) (by omega) (by omega))
          rw [r0, nI_clamp (by omega)] at hj
          rw [e3, e4]
          by_cases e : j = n
          · rw [e, up_eq, up_eq, rA, show 141 + 2 * n + 1 = 142 + 2 * n by omega, rB]
            exact ⟨rfl, rfl⟩
          · rw [up_ne e, up_ne e, ro _ (by omega) (by omega) (by omega), ro _ (by omega) (by omega) (by omega)]
            exact b2 j (by rw [hR0, nI_clamp (by omega)]; omega)
        exact ⟨rfl, (hG.wd hf W15_out hcw).ac0, (hf.mun W15_LoC).trans (mun_stI (Or.inl (by omega))), by show hpZ G1 ≤ _; rw [hf.Z]; omega, by show hpS G1 ≤ _; rw [hf.S]; omega⟩
      · rw [s_road hG.1.1 _ _ _ n n12 (by rw [hG.2.1]; exact hR0), if_pos q, if_neg q12]
        have h1 := hG.t0 h0.h16
        have e : stI (stI (stI (stI G 70 0 0) 72 (141 + 2 * n) (nI ka)) 72 (142 + 2 * n) (nI kb)) 72 0 (nI (n + 1)) = stA (stI G 70 0 0) 72 R' := by rw [stI_up, stI_up, stI_up, stA_stA, stA_stA, hpI_stA, hpI_stA, h1.2.1, hR']
        rw [e, tellH_pos (nn_nI (by omega))]
        exact ⟨rfl, (h1.rw h0.h16 (W := (R', X.1.2)) (Or.inl ⟨eqs.1, eqs.2.1⟩)).acc h0.h16, (cun_t0.trans (cun_stA (by omega) (by omega))).trans (cun_stI (by omega) (by omega))⟩
  · exact st_ref h0 (v := -1) (i := 0) (by unfold tlV; decide) (by decide) (by decide) (fun G hG Q => by rw [c_road hG.1.1 Q a b n n12 (hG.2.1.2.2.2.1.trans hR0), if_neg q]) (fun G hG Q => by rw [s_road hG.1.1 Q a b n n12 (by rw [hG.2.1]; exact hR0), if_neg q])
theorem st_mow {X : XDt} {c : Nat} (h : VXe X c) : StX D_Post_mow D_Mdl_mow [] X c := by
  have h0 := h
  obtain ⟨nr, nl, n, m, A, B, hV⟩ := h
  have hR0 : X.1.1 0 = nI n := hV.1.2.1.2.1
  have n12 := hV.1.2.1.1
  have z0 : (0 : Int32) ≤ nI n := nI_pos' (by omega)
  by_cases q : n = 0
  · have q1 : ¬ 0 < nI n := by rw [q]; decide
    have q2 : nI n = 0 := by rw [q]; rfl
    exact st_ref h0 (v := -3) (i := 2) (by unfold tlV; decide) (by decide) (by decide) (fun G hG Q => by rw [c_mow hG.1.1 Q, hG.2.1.2.2.2.1.trans hR0, if_neg q1]) (fun G hG Q => by rw [s_mow hG.1.1 Q (by rw [hG.2.1, hR0]; exact z0), hG.2.1, hR0, if_pos q2])
  · have q1 : 0 < nI n := by rw [show (0 : Int32) = nI 0 from rfl, nl_lt (by omega) (by omega)]; omega
    have q2 : ¬ nI n = 0 := fun z => q ((nI_eq (b := 0) (by omega) (by omega)).mp z)
    have es : nI n - 1 = nI (n - 1) := nI_sub (a := n) (b := 1) (by omega)
    obtain ⟨R', hR'⟩ : ∃ R', R' = up X.1.1 0 (nI (n - 1)) := ⟨_, rfl⟩
    have r0 : R' 0 = nI (n - 1) := by rw [hR', up_eq]
    have ro : ∀ j, ¬ j = 0 → R' j = X.1.1 j := fun j a1 => by rw [hR', up_ne a1]
    have eqs : EqS X.1.1 R' := ⟨ro 1 (by omega), ro 2 (by omega), fun j h1 h2 => ro j (by omega)⟩
    obtain ⟨_, mr2, mr3⟩ := hV.1.2.1
    have hMR : MRd R' (n - 1) A B := ⟨by omega, r0, fun j hj => by rw [ro _ (by omega), ro _ (by omega)]; exact mr3 j (by omega)⟩
    have hW' : VWd (R', X.1.2) nr nl (n - 1) m A B c := hV.1.re (hV.1.1.eqs eqs) hMR (ro 3 (by omega)) (by rw [ro 4 (by omega)]; exact hV.1.2.2.2.2.2) (fun j hj => ro j (by omega))
    refine ⟨nI (n - 1), tlX (wX X (R', X.1.2)) 0, ⟨nr, nl, n - 1, m, _, _, (hV.w hW').mono (by omega)⟩, fun G hG => ?_, fun G hG => ?_⟩
    · rw [c_mow hG.1.1, hG.2.1.2.2.2.1.trans hR0, if_pos q1, es]
      obtain ⟨G1, hG1⟩ : ∃ G1, G1 = stI G 1 5 (nI (n - 1)) := ⟨_, rfl⟩
      rw [← hG1]
      have hf : FC W15 G G1 := by rw [hG1]; exact (Fr.refl.wI rfl).fc
      obtain ⟨b1, b2, b3, b4, b5, b6, b7, b8⟩ := hG.2.1
      have e1 : hpI G1 1 = up (hpI G 1) 5 (nI (n - 1)) := by rw [hG1, stI_up, hpI_stA]
      have eo : ∀ a, ¬ a = 1 → hpI G1 a = hpI G a := fun a ha => by rw [hG1, stI_up, hpI_stA_ne ha]
      have hcw : CWd G1 1 (R', X.1.2) := by
        refine hG.2.1.re hf W15_Lo (by rw [eo _ (by decide)]; exact b1.eqs eqs) (fun j hj => ?_) (fun r hr => by rw [eo _ (by decide), ro _ (by omega)]; exact b3 r hr) (by rw [e1, up_eq, r0]) (by rw [e1, up_ne (by decide), ro 3 (by omega)]; exact b5) (by rw [e1, up_ne (by decide), ro 4 (by omega)]; exact b6) (ro 3 (by omega))
        rw [r0, nI_clamp (by omega)] at hj
        rw [eo _ (by decide), eo _ (by decide), ro _ (by omega), ro _ (by omega)]
        exact b2 j (by rw [hR0, nI_clamp (by omega)]; omega)
      exact ⟨rfl, (hG.wd hf W15_out hcw).ac0, (hf.mun W15_LoC).trans (mun_stI (Or.inl (by omega))), by show hpZ G1 ≤ _; rw [hf.Z]; omega, by show hpS G1 ≤ _; rw [hf.S]; omega⟩
    · rw [s_mow hG.1.1 _ (by rw [hG.2.1, hR0]; exact z0), hG.2.1, hR0, if_neg q2, es]
      have h1 := hG.t0 h0.h16
      have e : stI (stI G 70 0 0) 72 0 (nI (n - 1)) = stA (stI G 70 0 0) 72 R' := by rw [stI_up, h1.2.1, hR']
      rw [e, tellH_pos (nn_nI (by omega))]
      exact ⟨rfl, (h1.rw h0.h16 (W := (R', X.1.2)) (Or.inl ⟨eqs.1, eqs.2.1⟩)).acc h0.h16, (cun_t0.trans (cun_stA (by omega) (by omega))).trans (cun_stI (by omega) (by omega))⟩
theorem st_ledger {X : XDt} {c : Nat} (h : VXe X c) (a b : Int32) : StX D_Post_ledger D_Mdl_ledger [.int a, .int b] X c := by
  have h0 := h
  obtain ⟨nr, nl, n, m, A, B, hV⟩ := h
  have n8 := hV.1.1.2.1
  have hz : ∀ {G : XH}, MPx G X → hpI G 72 1 ≤ 8 := fun hG => by rw [(s1 hG hV).1]; exact le8 n8
  by_cases q : -1 ≤ b ∧ b ≤ 99999
  · by_cases qr : 0 ≤ a ∧ a < nI nr
    · obtain ⟨r, r1, rfl⟩ := ex_nI (by omega) qr
      have e165 : 165 + nI r = nI (165 + r) := nI_add 165 r
      obtain ⟨R', hR'⟩ : ∃ R', R' = up X.1.1 (165 + r) b := ⟨_, rfl⟩
      have ro : ∀ j, ¬ j = 165 + r → R' j = X.1.1 j := fun j a1 => by rw [hR', up_ne a1]
      have eqs : EqS X.1.1 R' := ⟨ro 1 (by omega), ro 2 (by omega), fun j h1 h2 => ro j (by omega)⟩
      have hW' : VWd (R', X.1.2) nr nl n m A B c := hV.1.re (hV.1.1.eqs eqs) (hV.1.2.1.row (ro 0 (by omega)) (fun j _ h2 => ro j (by omega))) (ro 3 (by omega)) (by rw [ro 4 (by omega)]; exact hV.1.2.2.2.2.2) (fun j hj => ro j (by omega))
      refine ⟨X.1.1 (165 + r), tlX (wX X (R', X.1.2)) 0, ⟨nr, nl, n, m, _, _, (hV.w hW').mono (by omega)⟩, fun G hG => ?_, fun G hG => ?_⟩
      · rw [c_ledger hG.1.1 _ _ _ n8 (c4 hG hV).1, if_pos q, if_pos qr, nI_clamp (by omega)]
        obtain ⟨b1, b2, b3, b4, b5, b6, b7, b8⟩ := hG.2.1
        obtain ⟨G1, hG1⟩ : ∃ G1, G1 = stI G 5 r b := ⟨_, rfl⟩
        have hv : hpI G 5 r = X.1.1 (165 + r) := b3 r (by omega)
        rw [← hG1, hv]
        have hf : FC W15 G G1 := by rw [hG1]; exact (Fr.refl.wI rfl).fc
        have e5 : hpI G1 5 = up (hpI G 5) r b := by rw [hG1, stI_up, hpI_stA]
        have eo : ∀ a, ¬ a = 5 → hpI G1 a = hpI G a := fun a ha => by rw [hG1, stI_up, hpI_stA_ne ha]
        have hcw : CWd G1 1 (R', X.1.2) := by
          refine hG.2.1.re hf W15_Lo (by rw [eo _ (by decide)]; exact b1.eqs eqs) (fun j hj => ?_) (fun r' hr => ?_) (by rw [eo _ (by decide), ro 0 (by omega)]; exact b4) (by rw [eo _ (by decide), ro 3 (by omega)]; exact b5) (by rw [eo _ (by decide), ro 4 (by omega)]; exact b6) (ro 3 (by omega))
          · rw [ro 0 (by omega)] at hj
            have n12 := hV.1.2.1.1
            have hj' := hj
            rw [hV.1.2.1.2.1, nI_clamp (by omega)] at hj'
            rw [eo _ (by decide), eo _ (by decide), ro _ (by omega), ro _ (by omega)]
            exact b2 j hj
          · rw [e5]
            by_cases e : r' = r
            · rw [e, up_eq, hR', up_eq]
            · rw [up_ne e, ro _ (by omega)]
              exact b3 r' hr
        exact ⟨rfl, (hG.wd hf W15_out hcw).ac0, (hf.mun W15_LoC).trans (mun_stI (Or.inl (by omega))), by show hpZ G1 ≤ _; rw [hf.Z]; omega, by show hpS G1 ≤ _; rw [hf.S]; omega⟩
      · rw [s_ledger hG.1.1 _ _ _ (hz hG), (s1 hG hV).1, if_pos q, if_pos qr, e165, nI_clamp (by omega)]
        have h1 := hG.t0 h0.h16
        have e : stI (stI G 70 0 0) 72 (165 + r) b = stA (stI G 70 0 0) 72 R' := by rw [stI_up, h1.2.1, hR']
        rw [e, hG.2.1]
        exact ⟨rfl, (h1.rw h0.h16 (W := (R', X.1.2)) (Or.inl ⟨eqs.1, eqs.2.1⟩)).acc h0.h16, (cun_t0.trans (cun_stA (by omega) (by omega))).trans (cun_stI (by omega) (by omega))⟩
    · exact st_ref h0 (v := -2) (i := 1) (by unfold tlV; decide) (by decide) (by decide) (fun G hG Q => by rw [c_ledger hG.1.1 _ _ _ n8 (c4 hG hV).1, if_pos q, if_neg qr]) (fun G hG Q => by rw [s_ledger hG.1.1 _ _ _ (hz hG), (s1 hG hV).1, if_pos q, if_neg qr])
  · exact st_ref h0 (v := -1) (i := 0) (by unfold tlV; decide) (by decide) (by decide) (fun G hG Q => by rw [c_ledger hG.1.1 _ _ _ n8 (c4 hG hV).1, if_neg q]) (fun G hG Q => by rw [s_ledger hG.1.1 _ _ _ (hz hG), if_neg q])
theorem st_force {X : XDt} {c : Nat} (h : VXe X c) (a : Int32) : StX D_Post_force D_Mdl_force [.int a] X c := by
  have h0 := h
  obtain ⟨nr, nl, n, m, A, B, hV⟩ := h
  have m6 := hV.1.2.2.1
  have hR3 : X.1.1 3 = nI m := hV.1.2.2.2.1
  have hz : ∀ {G : XH}, MPx G X → hpI G 72 3 ≤ 6 := fun hG => by rw [hG.2.1, hR3, show (6 : Int32) = nI 6 from rfl, nl_le (by omega) (by omega)]; exact m6
  have hq : (-1 ≤ a ∧ a < nI m) ↔ (a = -1 ∨ (0 ≤ a ∧ a < nI m)) := by
    have i1 : (-1 : Int32).toInt = -1 := by decide
    have i0 : (0 : Int32).toInt = 0 := by decide
    constructor
    · rintro ⟨z1, z2⟩
      have z1' := Int32.le_iff_toInt_le.mp z1
      rw [i1] at z1'
      rcases (show a.toInt = -1 ∨ 0 ≤ a.toInt by omega) with y | y
      · exact Or.inl (Int32.toInt_inj.mp (by rw [y, i1]))
      · exact Or.inr ⟨by rw [Int32.le_iff_toInt_le, i0]; exact y, z2⟩
    · rintro (rfl | ⟨z1, z2⟩)
      · exact ⟨by decide, by rw [Int32.lt_iff_toInt_lt, i1, nI_toInt (by omega)]; omega⟩
      · have z1' := Int32.le_iff_toInt_le.mp z1
        rw [i0] at z1'
        exact ⟨by rw [Int32.le_iff_toInt_le, i1]; omega, z2⟩
  by_cases q : -1 ≤ a ∧ a < nI m
  · obtain ⟨R', hR'⟩ : ∃ R', R' = up X.1.1 4 a := ⟨_, rfl⟩
    have ro : ∀ j, ¬ j = 4 → R' j = X.1.1 j := fun j a1 => by rw [hR', up_ne a1]
    have r4 : R' 4 = a := by rw [hR', up_eq]
    have eqs : EqS X.1.1 R' := ⟨ro 1 (by omega), ro 2 (by omega), fun j h1 h2 => ro j (by omega)⟩
    have hf4 : R' 4 = -1 ∨ ∃ f, f < m ∧ R' 4 = nI f := by
      rw [r4]
      rcases hq.mp q with z | z
      · exact Or.inl z
      · obtain ⟨f, f1, f2⟩ := ex_nI (by omega) z
        exact Or.inr ⟨f, f1, f2⟩
    have hW' : VWd (R', X.1.2) nr nl n m A B c := hV.1.re (hV.1.1.eqs eqs) (hV.1.2.1.row (ro 0 (by omega)) (fun j _ h2 => ro j (by omega))) (ro 3 (by omega)) hf4 (fun j hj => ro j (by omega))
    refine ⟨X.1.1 4, tlX (wX X (R', X.1.2)) 0, ⟨nr, nl, n, m, _, _, (hV.w hW').mono (by omega)⟩, fun G hG => ?_, fun G hG => ?_⟩
    · obtain ⟨b1, b2, b3, b4, b5, b6, b7, b8⟩ := hG.2.1
      have v6 : hpI G 1 6 = nI m := b5.trans hR3
      have v7 : hpI G 1 7 = X.1.1 4 := b6
      rw [c_force hG.1.1, v6, if_pos q, v7]
      obtain ⟨G1, hG1⟩ : ∃ G1, G1 = stI G 1 7 a := ⟨_, rfl⟩
      rw [← hG1]
      have hf : FC W15 G G1 := by rw [hG1]; exact (Fr.refl.wI rfl).fc
      have e1 : hpI G1 1 = up (hpI G 1) 7 a := by rw [hG1, stI_up, hpI_stA]
      have eo : ∀ a, ¬ a = 1 → hpI G1 a = hpI G a := fun a ha => by rw [hG1, stI_up, hpI_stA_ne ha]
      have hcw : CWd G1 1 (R', X.1.2) := by
        refine hG.2.1.re hf W15_Lo (by rw [eo _ (by decide)]; exact b1.eqs eqs) (fun j hj => ?_) (fun r hr => by rw [eo _ (by decide), ro _ (by omega)]; exact b3 r hr) (by rw [e1, up_ne (by decide), ro 0 (by omega)]; exact b4) (by rw [e1, up_ne (by decide), ro 3 (by omega)]; exact b5) (by rw [e1, up_eq, r4]) (ro 3 (by omega))
        rw [ro 0 (by omega)] at hj
        rw [eo _ (by decide), eo _ (by decide), ro _ (by omega), ro _ (by omega)]
        exact b2 j hj
      exact ⟨rfl, (hG.wd hf W15_out hcw).ac0, (hf.mun W15_LoC).trans (mun_stI (Or.inl (by omega))), by show hpZ G1 ≤ _; rw [hf.Z]; omega, by show hpS G1 ≤ _; rw [hf.S]; omega⟩
    · rw [s_force hG.1.1 _ _ (hz hG), hG.2.1, hR3, if_pos (hq.mp q)]
      have h1 := hG.t0 h0.h16
      have e : stI (stI G 70 0 0) 72 4 a = stA (stI G 70 0 0) 72 R' := by rw [stI_up, h1.2.1, hR']
      rw [e]
      exact ⟨rfl, (h1.rw h0.h16 (W := (R', X.1.2)) (Or.inl ⟨eqs.1, eqs.2.1⟩)).acc h0.h16, (cun_t0.trans (cun_stA (by omega) (by omega))).trans (cun_stI (by omega) (by omega))⟩
  · exact st_ref h0 (v := -2) (i := 1) (by unfold tlV; decide) (by decide) (by decide) (fun G hG Q => by
      have v6 : hpI G 1 6 = nI m := hG.2.1.2.2.2.2.1.trans hR3
      rw [c_force hG.1.1, v6, if_neg q]) (fun G hG Q => by rw [s_force hG.1.1 _ _ (hz hG), hG.2.1, hR3, if_neg (fun z => q (hq.mpr z))])
