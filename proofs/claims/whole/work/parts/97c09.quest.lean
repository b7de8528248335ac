theorem q_c {D : XD} {av : List Value} {G : XH} {v : Int32} (h : ∀ Q, SP D av G Q = Q (some (.int v), G)) : SP D av G (fun r => r.1 = some (.int v) ∧ ∃ W, FC W G r.2 ∧ ∀ a k, ¬ Scr a → W a k = false) := by
  rw [h]
  exact ⟨rfl, fun _ _ => false, Fr.refl.fc, fun _ _ _ => rfl⟩
/-- writes of the model that change nothing of what it stands for -/
def QM (W : Nat → Nat → Bool) : Prop := LoM W ∧ ∀ a k, MRd' a k → ¬ a = 72 → W a k = false
theorem q_m {D : XD} {av : List Value} {G : XH} {X : XDt} (hG : MPx G X) {v : Int32} (h16 : X.2.1.1 ≤ 16) (h : ∀ Q, SP D av G Q = Q (some (.int v), stI G 70 0 0)) : SP D av G (fun r => r.1 = some (.int v) ∧ hpI r.2 72 = X.1.1 ∧ ∃ W G0, (G0 = G ∨ G0 = stI G 70 0 0) ∧ Fr W G0 r.2 ∧ QM W) := by
  rw [h]
  exact ⟨rfl, (hG.t0 h16).2.1, fun _ _ => false, _, Or.inr rfl, Fr.refl, fun _ _ _ => rfl, fun _ _ _ _ => rfl⟩
/-- a call that only answers, and may write where nothing stands -/
theorem st_q {Dc Dm : XD} {av : List Value} {X : XDt} {c : Nat} (h : VXe X c) (v : Int32) (hc : ∀ G, CPx G X → SP Dc (.ref 0 :: av) G (fun r => r.1 = some (.int v) ∧ ∃ W, FC W G r.2 ∧ ∀ a k, ¬ Scr a → W a k = false)) (hm : ∀ G, MPx G X → SP Dm (.ref 70 :: av) G (fun r => r.1 = some (.int v) ∧ hpI r.2 72 = X.1.1 ∧ ∃ W G0, (G0 = G ∨ G0 = stI G 70 0 0) ∧ Fr W G0 r.2 ∧ QM W)) : StX Dc Dm av X c := by
  refine ⟨v, X, h.mono (by omega), fun G hG => SP.mono (hc G hG) ?_, fun G hG => SP.mono (hm G hG) ?_⟩
  · rintro ⟨x, G'⟩ ⟨hx, W, hf, hW⟩
    exact ⟨hx, hG.scr hf hW, scr_mun hf hW, by show hpZ G' ≤ _; rw [hf.Z]; omega, by show hpS G' ≤ _; rw [hf.S]; omega⟩
  · rintro ⟨x, G'⟩ ⟨hx, hr, W, G0, h0, hf, hW⟩
    rcases h0 with rfl | rfl
    · exact ⟨hx, hG.scr h.h16 hf hr hW.2, hf.cun hW.1⟩
    · exact ⟨hx, (hG.t0 h.h16).scr h.h16 hf hr hW.2, cun_t0.trans (hf.cun hW.1)⟩
theorem cst {G : XH} {X : XDt} (h : CPx G X) {r k i j : Nat} (hr : r < 8) (hk : k < 6) (hi : i = 6 + 8 * k + r) (hj : j = 9 + 6 * r + k) : hpI G 2 i = X.1.1 j := by
  rw [hi, hj]
  exact h.2.1.1.2.2.2.1 r k hr hk
theorem QM_WF : QM WF := by
  refine ⟨fun a k h => ?_, fun a k h hr => ?_⟩
  · unfold WF
    simp only [beq_eq_false_iff_ne]
    omega
  · unfold MRd' at h
    unfold WF
    simp only [beq_eq_false_iff_ne]
    omega
theorem QM_WH : QM WH := by
  refine ⟨fun a k h => ?_, fun a k h hr => ?_⟩
  · unfold WH
    simp only [beq_eq_false_iff_ne, Bool.or_eq_false_iff, Bool.and_eq_false_iff]
    omega
  · unfold MRd' at h
    unfold WH
    simp only [beq_eq_false_iff_ne, Bool.or_eq_false_iff, Bool.and_eq_false_iff]
    omega
theorem QM_or {W V : Nat → Nat → Bool} (h : QM W) (g : QM V) : QM (fun a k => W a k || V a k) := ⟨fun a k z => by simp only [h.1 a k z, g.1 a k z, Bool.or_self], fun a k z y => by simp only [h.2 a k z y, g.2 a k z y, Bool.or_self]⟩
theorem QM_WR : QM WR := by
  refine ⟨fun a k h => ?_, fun a k h hr => ?_⟩
  · unfold WR
    rw [QM_WH.1 a k h, Bool.or_false]
    simp only [beq_eq_false_iff_ne]
    omega
  · unfold WR
    rw [QM_WH.2 a k h hr, Bool.or_false]
    simp only [beq_eq_false_iff_ne]
    exact hr
theorem QM_0 : QM (fun a k => a == 70 && k == 0) := by
  refine ⟨fun a k h => ?_, fun a k h hr => ?_⟩
  · simp only [beq_eq_false_iff_ne, Bool.or_eq_false_iff, Bool.and_eq_false_iff]
    omega
  · unfold MRd' at h
    simp only [beq_eq_false_iff_ne, Bool.or_eq_false_iff, Bool.and_eq_false_iff]
    omega
theorem QM_un : QM (fun a k => a == 75 && decide (2176 ≤ k)) := by
  refine ⟨fun a k h => ?_, fun a k h hr => ?_⟩
  · simp only [beq_eq_false_iff_ne, Bool.or_eq_false_iff, Bool.and_eq_false_iff, decide_eq_false_iff_not]
    omega
  · unfold MRd' at h
    simp only [beq_eq_false_iff_ne, Bool.or_eq_false_iff, Bool.and_eq_false_iff, decide_eq_false_iff_not]
    omega
theorem QM_WIn : QM WIn := QM_or QM_WR QM_0
theorem QM_WQ : QM WQ := QM_or (QM_or QM_WR QM_un) QM_0
theorem QM_of {i : Nat} (h1 : 70 ≤ i) (h2 : i < 105) (h : ∀ k, ¬ MRd' i k) : QM (fun a _ => a == i) := by
  refine ⟨fun a k h => ?_, fun a k z hr => ?_⟩
  · simp only [beq_eq_false_iff_ne]
    omega
  · simp only [beq_eq_false_iff_ne]
    intro e
    exact h k (e ▸ z)
theorem QM_WFo : QM WFo := by
  refine QM_or (QM_or (QM_or (QM_or (QM_or QM_WR QM_un) (QM_of (by decide) (by decide) (fun k => ?_))) (QM_of (by decide) (by decide) (fun k => ?_))) (QM_of (by decide) (by decide) (fun k => ?_))) ?_
  · unfold MRd'
    omega
  · unfold MRd'
    omega
  · unfold MRd'
    omega
  · refine ⟨fun a k h => ?_, fun a k h hr => ?_⟩
    · simp only [beq_eq_false_iff_ne, Bool.or_eq_false_iff, Bool.and_eq_false_iff]
      omega
    · unfold MRd' at h
      simp only [beq_eq_false_iff_ne, Bool.or_eq_false_iff, Bool.and_eq_false_iff]
      omega
theorem QM_WGo : QM WGo := by
  refine QM_or (QM_or (QM_or (QM_or (QM_or (QM_or (QM_or (QM_or QM_WR QM_un) (QM_of (by decide) (by decide) (fun k => ?_))) (QM_of (by decide) (by decide) (fun k => ?_))) (QM_of (by decide) (by decide) (fun k => ?_))) (QM_of (by decide) (by decide) (fun k => ?_))) (QM_of (by decide) (by decide) (fun k => ?_))) (QM_of (by decide) (by decide) (fun k => ?_))) ?_
  · unfold MRd'
    omega
  · unfold MRd'
    omega
  · unfold MRd'
    omega
  · unfold MRd'
    omega
  · unfold MRd'
    omega
  · unfold MRd'
    omega
  · refine ⟨fun a k h => ?_, fun a k h hr => ?_⟩
    · simp only [beq_eq_false_iff_ne, Bool.or_eq_false_iff, Bool.and_eq_false_iff]
      omega
    · unfold MRd' at h
      simp only [beq_eq_false_iff_ne, Bool.or_eq_false_iff, Bool.and_eq_false_iff]
      omega
theorem QM_WBg : QM WBg := by
  refine QM_or (QM_or (QM_or (QM_of (by decide) (by decide) (fun k => ?_)) (QM_of (by decide) (by decide) (fun k => ?_))) (QM_of (by decide) (by decide) (fun k => ?_))) QM_0
  · unfold MRd'
    omega
  · unfold MRd'
    omega
  · unfold MRd'
    omega
theorem Scr_WW (a k : Nat) (h : ¬ Scr a) : WW a k = false := by
  unfold Scr at h
  unfold WW
  simp only [beq_eq_false_iff_ne, Bool.or_eq_false_iff, Bool.and_eq_false_iff]
  omega
theorem Scr_WJ (a k : Nat) (h : ¬ Scr a) : WJ a k = false := by
  unfold Scr at h
  unfold WJ WA WW
  simp only [beq_eq_false_iff_ne, Bool.or_eq_false_iff, Bool.and_eq_false_iff]
  omega
theorem Scr_WGa (a k : Nat) (h : ¬ Scr a) : WGa a k = false := by
  unfold Scr at h
  unfold WGa
  simp only [beq_eq_false_iff_ne, Bool.or_eq_false_iff, Bool.and_eq_false_iff]
  omega
theorem Scr_WPk (a k : Nat) (h : ¬ Scr a) : WPk a k = false := by
  unfold Scr at h
  unfold WPk WP1
  simp only [beq_eq_false_iff_ne, Bool.or_eq_false_iff, Bool.and_eq_false_iff]
  omega
theorem st_way {X : XDt} {c : Nat} (h : VXe X c) (a : Int32) : StX D_Post_way D_Mdl_way [.int a] X c := by
  have h0 := h
  obtain ⟨nr, nl, n, m, A, B, hV⟩ := h
  have n8 := hV.1.1.2.1
  by_cases q : 0 ≤ a ∧ a < nI nr
  · obtain ⟨r, r1, rfl⟩ := ex_nI (by omega) q
    obtain ⟨ht, htn⟩ := hV.1.1.tn r1
    refine st_q h0 (oI (dN A B c0 n 8 (tnN X.1.1 r))) (fun G hG => q_c fun Q => ?_) (fun G hG => ?_)
    · exact c_way hG.1.1 Q (hG.crd hV.1) r _ r1 n8 (c4 hG hV).1 ht ((cst hG (r := r) (k := 1) (by omega) (by omega) (by omega) (by omega)).trans htn)
    · refine SP.mono (s_way hG.1.1 (by rw [hG.2.1]; exact hV.1.2.1) r _ r1 n8 (s1 hG hV).1 ht (by rw [hG.2.1]; exact htn)) ?_
      rintro ⟨x, G'⟩ ⟨hx, hf⟩
      exact ⟨hx, (hf.IA _ (fun _ => rfl)).trans (hG.t0 h0.h16).2.1, WF, _, Or.inr rfl, hf, QM_WF⟩
  · exact st_ans h0 (v := -1) (fun G hG Q => c_way_no hG.1.1 Q a (c4 hG hV).1 q) (fun G hG Q => s_way_no hG.1.1 Q a (s1 hG hV).1 q)
theorem st_cut {X : XDt} {c : Nat} (h : VXe X c) (a w : Int32) : StX D_Post_cut D_Mdl_cut [.int a, .int w] X c := by
  have h0 := h
  obtain ⟨nr, nl, n, m, A, B, hV⟩ := h
  have n8 := hV.1.1.2.1
  by_cases q : (0 ≤ a ∧ a < nI nr) ∧ (0 ≤ w ∧ w ≤ 1) ∧ ∀ r, r < nr → a = nI r → ¬ X.1.1 (10 + 6 * r) = 0
  · obtain ⟨q1, q2, q3⟩ := q
    obtain ⟨r, r1, rfl⟩ := ex_nI (by omega) q1
    obtain ⟨ht, htn⟩ := hV.1.1.tn r1
    have q4 := q3 r r1 rfl
    have ht0 : ¬ tnN X.1.1 r = 0 := fun z => q4 (by rw [htn, z]; rfl)
    have es := cut_same (A := A) (B := B) hV.1.2.1.1 ht ht0
    refine st_q h0 (if w = 0 then nI (popN (ccN A B n (tnN X.1.1 r) (2 ^ n)) 12) else nI (ccN A B n (tnN X.1.1 r) (2 ^ n))) (fun G hG => q_c fun Q => ?_) (fun G hG => ?_)
    · exact c_cut hG.1.1 Q (hG.crd hV.1) r _ r1 n8 (c4 hG hV).1 ht ht0 ((cst hG (r := r) (k := 1) (by omega) (by omega) (by omega) (by omega)).trans htn) w q2
    · refine SP.mono (s_cut hG.1.1 (by rw [hG.2.1]; exact hV.1.2.1) r _ r1 n8 (s1 hG hV).1 ht ht0 (by rw [hG.2.1]; exact htn) w q2) ?_
      rintro ⟨x, G'⟩ ⟨hx, hf⟩
      rw [es] at hx
      exact ⟨hx, (hf.IA _ (fun _ => rfl)).trans (hG.t0 h0.h16).2.1, WF, _, Or.inr rfl, hf, QM_WF⟩
  · exact st_ans h0 (v := -1) (fun G hG Q => c_cut_no hG.1.1 Q a w n8 (c4 hG hV).1 (fun z => q ⟨z.1, z.2.1, fun r hr e => by rw [← cst hG (r := r) (k := 1) (i := 14 + r) (j := 10 + 6 * r) (by omega) (by omega) (by omega) (by omega)]; exact z.2.2 r hr e⟩)) (fun G hG Q => s_cut_no hG.1.1 Q a w n8 (s1 hG hV).1 (by rw [hG.2.1]; exact q))
theorem st_rests {X : XDt} {c : Nat} (h : VXe X c) (hc : c ≤ 400000) (a : Int32) : StX D_Post_rests D_Mdl_rests [.int a] X c := by
  have h0 := h
  obtain ⟨nr, nl, n, m, A, B, hV⟩ := h
  have n8 := hV.1.1.2.1
  by_cases q : 0 ≤ a ∧ a < nI nr
  · obtain ⟨r, r1, rfl⟩ := ex_nI (by omega) q
    refine st_q h0 (rsF (TW X.1) X.1.1 r) (fun G hG => ?_) (fun G hG => ?_)
    · refine SP.mono (c_rests (hG.cx hV.1) hV.1.1 (by omega) r1) ?_
      rintro ⟨x, G'⟩ ⟨hx, hf⟩
      exact ⟨hx, WW, hf, Scr_WW⟩
    · refine SP.mono (s_rests (hG.mx hV.1) r1 n8 hV.1.1.1) ?_
      rintro ⟨x, G'⟩ ⟨hx, hf⟩
      exact ⟨hx, (hf.IA _ (fun _ => rfl)).trans (hG.t0 h0.h16).2.1, WH, _, Or.inr rfl, hf, QM_WH⟩
  · exact st_ans h0 (v := -1) (fun G hG Q => c_rests_no hG.1.1 Q a (c4 hG hV).1 q) (fun G hG Q => s_rests_no hG.1.1 Q a (s1 hG hV).1 q)
theorem ex_o {b : Int32} {nl : Nat} (hn : nl ≤ 12) (h : b = -1 ∨ (0 ≤ b ∧ b < nI nl)) : ∃ o, b = oI o ∧ ∀ k, o = some k → k < nl := by
  rcases h with rfl | z
  · exact ⟨none, rfl, fun k hk => by cases hk⟩
  · obtain ⟨k, k1, rfl⟩ := ex_nI (by omega) z
    exact ⟨some k, rfl, fun j hj => by cases hj; exact k1⟩
theorem st_asks {X : XDt} {c : Nat} (h : VXe X c) (hc : c ≤ 400000) (a b w : Int32) : StX D_Post_asks D_Mdl_asks [.int a, .int b, .int w] X c := by
  have h0 := h
  obtain ⟨nr, nl, n, m, A, B, hV⟩ := h
  have n12 := hV.1.1.2.2.2.1
  by_cases q : (0 ≤ a ∧ a < nI nl) ∧ (b = -1 ∨ (0 ≤ b ∧ b < nI nl))
  · obtain ⟨one, h1, rfl⟩ := ex_nI (by omega) q.1
    obtain ⟨o, rfl, h2⟩ := ex_o n12 q.2
    obtain ⟨wh, w1, w2, hH⟩ := hV.1.1.hc (by omega) h1 h2
    have no2 : (twF X.1.1 one o = false ∨ ¬ (0 ≤ w ∧ w ≤ 3)) → ∀ G, MPx G X → ∀ Q, SP D_Mdl_asks [.ref 70, .int (nI one), .int (oI o), .int w] G Q = Q (some (.int (-1)), stI G 70 0 0) := fun z G hG Q => s_asks_no2 hG.1.1 Q w n12 (s1 hG hV).2 h1 h2 (by rw [hG.2.1]; exact z)
    cases ht : twF X.1.1 one o with
    | false => exact st_ans h0 (v := -1) (fun G hG Q => c_asks_no2 hG.1.1 Q hG.2.1.1 w n12 hV.1.1.2.2.1 h1 h2 ht) (no2 (Or.inl ht))
    | true =>
      by_cases qw : 0 ≤ w ∧ w ≤ 3
      · obtain ⟨k, k1, rfl⟩ := ex_le (a := w) (n := 3) (by omega) qw
        refine st_q h0 (akF (TW X.1) (lW X.1) (hdF X.1.1 wh one o) k) (fun G hG => ?_) (fun G hG => ?_)
        · refine SP.mono (c_asks (hG.cx hV.1) hH n12 hV.1.1.2.2.1 h1 h2 ht k (by omega)) ?_
          rintro ⟨x, G'⟩ ⟨hx, hf⟩
          exact ⟨hx, WW, hf, Scr_WW⟩
        · refine SP.mono (s_asks (hG.mx hV.1) hH n12 hV.1.1.2.2.1 h1 h2 ht k (by omega)) ?_
          rintro ⟨x, G'⟩ ⟨hx, hf⟩
          exact ⟨hx, (hf.IA _ (fun _ => rfl)).trans (hG.t0 h0.h16).2.1, WH, _, Or.inr rfl, hf, QM_WH⟩
      · refine st_q h0 (-1) (fun G hG => ?_) (fun G hG => q_m hG h0.h16 (no2 (Or.inr qw) G hG))
        refine SP.mono (c_asks_no3 (hG.cx hV.1) hH n12 hV.1.1.2.2.1 h1 h2 ht w qw) ?_
        rintro ⟨x, G'⟩ ⟨hx, hf⟩
        exact ⟨hx, WW, hf, Scr_WW⟩
  · exact st_ans h0 (v := -1) (fun G hG Q => c_asks_no1 hG.1.1 Q a b w (c4 hG hV).2 q) (fun G hG Q => s_asks_no1 hG.1.1 Q a b w (s1 hG hV).2 q)
theorem st_inside {X : XDt} {c : Nat} (h : VXe X c) (hc : c ≤ 400000) (a p i : Int32) : StX D_Post_inside D_Mdl_inside [.int a, .int p, .int i] X c := by
  have h0 := h
  obtain ⟨nr, nl, n, m, A, B, hV⟩ := h
  have n12 := hV.1.1.2.2.2.1
  by_cases q : 0 ≤ a ∧ a < nI nl
  · obtain ⟨l, l1, rfl⟩ := ex_nI (by omega) q
    obtain ⟨w1, w2⟩ := hV.1.1.wh l1
    refine st_q h0 (if i = -1 then nI (inC (fun g => pwF (TW X.1) (lW X.1) (inW X.1.1 (whN X.1.1 l) l g)) p 31) else inI (fun g => pwF (TW X.1) (lW X.1) (inW X.1.1 (whN X.1.1 l) l g)) p i 31) (fun G hG => ?_) (fun G hG => ?_)
    · refine SP.mono (c_inside (hG.cx hV.1) hV.1.1 (by omega) l1 w1 w2 p i) ?_
      rintro ⟨x, G'⟩ ⟨hx, hf⟩
      exact ⟨hx, WW, hf, Scr_WW⟩
    · refine SP.mono (s_inside2 (hG.mx hV.1) hV.1.1 (by omega) l1 w1 w2 p i) ?_
      rintro ⟨x, G'⟩ ⟨hx, hr, hf⟩
      exact ⟨hx, hr, WIn, _, Or.inl rfl, hf, QM_WIn⟩
  · exact st_ans h0 (v := -1) (fun G hG Q => c_inside_no hG.1.1 Q a p i (c4 hG hV).2 q) (fun G hG Q => s_inside_no hG.1.1 Q a p i (s1 hG hV).2 q)
theorem st_joked {X : XDt} {c : Nat} (h : VXe X c) (hc : c ≤ 400000) (i : Int32) : StX D_Post_joked D_Mdl_joked [.int i] X c := by
  have h0 := h
  obtain ⟨nr, nl, n, m, A, B, hV⟩ := h
  refine st_q h0 (jA (jkP (fun r => X.1.1 (165 + r)) (fun j r => pdF (TW X.1) X.1.1 j r nl) (hmN X.1.1 nl) nr) i (hmN X.1.1 nl + 1)) (fun G hG => ?_) (fun G hG => ?_)
  · refine SP.mono (c_joked (hG.cx hV.1) hV.1.1 (by omega) hG.2.1.2.2.1 i) ?_
    rintro ⟨x, G'⟩ ⟨hx, hf⟩
    exact ⟨hx, WJ, hf, Scr_WJ⟩
  · refine SP.mono (s_joked (hG.mx hV.1) hV.1.1 (by omega) i) ?_
    rintro ⟨x, G'⟩ ⟨hx, hr, hf⟩
    exact ⟨hx, hr, WQ, _, Or.inl rfl, hf, QM_WQ⟩
theorem st_order {X : XDt} {c : Nat} (h : VXe X c) (hc : c ≤ 400000) (a i : Int32) : StX D_Post_order D_Mdl_order [.int a, .int i] X c := by
  have h0 := h
  obtain ⟨nr, nl, n, m, A, B, hV⟩ := h
  have n8 := hV.1.1.2.1
  by_cases q : 0 ≤ a ∧ a < nI nr
  · obtain ⟨w, w1, rfl⟩ := ex_nI (by omega) q
    obtain ⟨_, _, ⟨t, t1, t2⟩, _⟩ := hV.1.1.2.2.2.2.2.2.2.2.1 w w1
    refine st_q h0 (if 8 < mnN X.1.1 w nl then -1 else boA (MPo (TW X.1) (lW X.1) X.1.1 w (mnN X.1.1 w nl) (mlF X.1.1 w nl)) (fun d t k => afO (TW X.1) X.1.1 w true d t (mlF X.1.1 w nl k)) (mnN X.1.1 w nl) t (mlF X.1.1 w nl) i) (fun G hG => ?_) (fun G hG => ?_)
    · refine SP.mono (c_order (hG.cx hV.1) hV.1.1 (by omega) w1 t1 t2 i) ?_
      rintro ⟨x, G'⟩ ⟨hf, hx⟩
      exact ⟨hx, WGa, hf, Scr_WGa⟩
    · refine SP.mono (s_order (hG.mx hV.1) hV.1.1 hc w1 t1 t2 i) ?_
      rintro ⟨x, G'⟩ ⟨hf, hr, hx⟩
      exact ⟨hx, hr, WFo, _, Or.inl rfl, hf, QM_WFo⟩
  · exact st_ans h0 (v := -1) (fun G hG Q => c_order_no hG.1.1 Q a i (c4 hG hV).1 q) (fun G hG Q => s_order_no hG.1.1 Q a i (s1 hG hV).1 q)
