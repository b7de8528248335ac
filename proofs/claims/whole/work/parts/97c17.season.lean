theorem seT_8 {T : Nat → (Nat → Int64) → Option Int64} {hl : Bool} {A B : Nat → Nat} {n nr nl c : Nat} {R : Nat → Int32} (h : RW R nr nl c) (hc : c ≤ 500000) {l : Nat} (hll : l < nl) : ∃ d, d ≤ 999 ∧ seT T hl A B n R l 8 = R 8 + nI d := by
  unfold seT
  split
  · obtain ⟨w1, w2⟩ := h.wh hll
    obtain ⟨w, a1, a2, a3⟩ := h.hc hc hll (o := none) (fun k hk => by cases hk)
    obtain ⟨d, d1, d2⟩ := h.wep (T := T) (lg := lafF T hl (hdF R (whN R l) l none)) w1 a3.2.2.2.2.2
    refine ⟨d, d1, ?_⟩
    rw [rdR_lo (by omega)]
    unfold rdA
    rw [up_eq, d2]
  · refine ⟨0, by omega, ?_⟩
    show R 8 = R 8 + 0
    rw [Int32.add_zero]
theorem gdF_8 {T : Nat → (Nat → Int64) → Option Int64} {R : Nat → Int32} {nr : Nat} : gdF T R nr 8 = R 8 := by
  unfold gdF
  rw [up_ne (by decide), gdL_ne nr (fun k hk => by omega)]
theorem ses_8 {T : Nat → (Nat → Int64) → Option Int64} {hl : Bool} {A B : Nat → Nat} {n nr nl c s0 : Nat} {R : Nat → Int32} (h : RW R nr nl c) (h0 : 0 < nl) : ∀ k, c + k ≤ 500000 → ∃ d, d ≤ 999 * k ∧ (seS T hl A B n nr nl s0 R k).2.1 8 = R 8 + nI d
  | 0, _ => ⟨0, by omega, by show R 8 = R 8 + 0; rw [Int32.add_zero]⟩
  | k + 1, hk => by
    obtain ⟨d, d1, d2⟩ := ses_8 (T := T) (hl := hl) (A := A) (B := B) (n := n) (s0 := s0) h h0 k (by omega)
    have hw := h.ses (T := T) (hl := hl) (A := A) (B := B) (n := n) (s0 := s0) h0 k (by omega)
    obtain ⟨e, e1, e2⟩ := seT_8 (T := T) (hl := hl) (A := A) (B := B) (n := n) hw (by omega) (l := drN (seS T hl A B n nr nl s0 R k).1 % nl) (Nat.mod_lt _ h0)
    have es : R 8 + nI d + nI e = R 8 + nI (d + e) := by rw [Int32.add_assoc, nI_add]
    rw [seS]
    split
    · split
      · exact ⟨d + e, by omega, by dsimp only; rw [e2, d2, es]⟩
      · exact ⟨d + e, by omega, by dsimp only; rw [gdF_8, e2, d2, es]⟩
    · exact ⟨d, by omega, d2⟩
theorem WY_Lo : Lo WY := by
  intro a k h
  unfold WY WA WW
  simp only [Bool.or_eq_false_iff, Bool.and_eq_false_iff, beq_eq_false_iff_ne]
  omega
theorem WY_no {a k : Nat} (h : ¬ Scr a) (h0 : ¬ a = 0) (h1 : ¬ a = 68) : WY a k = false := by
  unfold Scr at h
  unfold WY WA WW
  simp only [Bool.or_eq_false_iff, Bool.and_eq_false_iff, beq_eq_false_iff_ne]
  omega
theorem WX_LoM : LoM WX := by
  intro a k h
  unfold WX
  rw [WB_LoM a k h]
  simp only [Bool.false_or, Bool.or_eq_false_iff, Bool.and_eq_false_iff, beq_eq_false_iff_ne]
  omega
theorem st_season {X : XDt} {c : Nat} (h : VXe X c) (hc : c ≤ 400000) (a b : Int32) : StX D_Post_season D_Mdl_season [.int a, .int b] X c := by
  have h0 := h
  obtain ⟨nr, nl, n, m, A, B, hV⟩ := h
  have n8 := hV.1.1.2.1
  have n12 := hV.1.1.2.2.2.1
  have h16 := hV.2.1.1
  by_cases q : (0 ≤ a ∧ a ≤ 1000000) ∧ (1 ≤ b ∧ b ≤ 60)
  · by_cases q0 : nl = 0
    · exact st_ref h0 (v := -3) (i := 2) (by unfold tlV; decide) (by decide) (by decide) (fun G hG Q => (c_season_no hG.1.1 Q a b nl n12 (c4 hG hV).2).2 q q0) (fun G hG Q => (s_season_no hG.1.1 Q a b nl n12 (s1 hG hV).2).2 q q0)
    · obtain ⟨s0, s1', rfl⟩ := ex_le (a := a) (n := 1000000) (by omega) q.1
      obtain ⟨N, N1, rfl⟩ := ex_le (a := b) (n := 60) (by omega) ⟨Int32.le_trans (by decide) q.2.1, q.2.2⟩
      have N0 : 1 ≤ N := (nI_leI (a := 1) (by omega) (by omega)).mp q.2.1
      obtain ⟨Z, hZ⟩ : ∃ Z, Z = (seS (TW X.1) (lW X.1) A B n nr nl s0 X.1.1 N).2.1 := ⟨_, rfl⟩
      obtain ⟨d, d1, d2⟩ := ses_8 (T := TW X.1) (hl := lW X.1) (A := A) (B := B) (n := n) (s0 := s0) hV.1.1 (by omega) N (by omega)
      rw [← hZ] at d2
      obtain ⟨y, y1, y2⟩ : In (X.1.1 8) (999 * c) := hV.1.1.2.2.2.2.2.2.2.1
      have hv : Z 8 - X.1.1 8 = nI d := by
        rw [d2, y2, nI_add, nI_sub (by omega)]
        congr 1
        omega
      have hv0 : ¬ nI d < 0 := nn_nI (by omega)
      refine ⟨nI d, tlX (drX X (nr, fun k g => drV X.1.1 Z k g)) (nI d), VXe.mono (c := c) ⟨nr, nl, n, m, A, B, hV.1, hV.2.1, hV.2.2.1, hV.2.2.2.1, n8, hV.2.2.2.2.2⟩ (by omega), fun G hG => ?_, fun G hG => ?_⟩
      · refine SP.mono (c_season (hG.cx hV.1) hV.1.1 (by omega) (by omega) (hG.crd hV.1) s1' N0 N1) ?_
        rintro ⟨x, G'⟩ ⟨hx, hf, e16, e14, edr⟩
        dsimp only at hx hf e16 e14 edr
        rw [← hZ] at hx edr
        rw [hv] at hx
        have h0' := hG
        obtain ⟨_, b, cc, dd, ⟨e1, e2, e3, e4⟩, f, g, i⟩ := hG
        have hW : ∀ a k : Nat, ¬ Scr a → ¬ a = 0 → ¬ a = 68 → WY a k = false := fun a k h1 h2 h3 => WY_no h1 h2 h3
        refine ⟨hx, h0'.mk hf WY_Lo (b.fc hf (fun a k y1 y2 => hW a k (by unfold Scr; omega) (by omega) (by omega)) WY_Lo (by decide)) (cc.unc (UnC.fc hf (fun k => rfl) (fun k => rfl) (fun j hj k => hW _ k (by unfold Scr; omega) (by omega) (by omega)))) (dd.fc hf rfl (fun k => rfl)) ⟨(hf.I rfl).trans e1, (hf.I rfl).trans e2, (hf.I rfl).trans e3, ?_⟩ ?_ ⟨e14, edr⟩ rfl, hf.mun (fun a k y1 y2 => hW a k (by unfold Scr; omega) (by omega) (by omega)), by show hpZ G' ≤ _; rw [hf.Z]; omega, by show hpS G' ≤ _; rw [hf.S]; omega⟩
        · exact e16.trans (stM1_pos hv0).symm
        · show CRf _ (rfC X.2.2.2.2.1 (nI d))
          rw [rfC_pos hv0]
          exact f.fc hf (fun k => rfl)
      · refine SP.mono (s_season (hG.mx hV.1) hV.1.1 (by omega) (by omega) hV.1.2.1 s1' N0 N1 (by rw [← hZ, hv]; exact Int32.lt_of_lt_of_le (by decide) (nI_pos' (by omega)))) ?_
        rintro ⟨x, G'⟩ ⟨hx, hr, hf, es, erf, end', edr, eun, enu, eso⟩
        dsimp only at hx hr hf es erf end' edr eun enu eso
        rw [← hZ] at hx es erf edr
        rw [hv] at hx es erf
        have h0' := hG
        obtain ⟨⟨a1, a2, a3⟩, b, cc, dd, ⟨e1, e2, e3, e4⟩, f, g, i⟩ := hG
        refine ⟨hx, h0'.mk hf (fun a k hk => by rcases hk with rfl | rfl | rfl <;> rfl) ((hf.I rfl).trans a3) hr ⟨enu.trans cc.1, by rw [eso]; exact cc.2.rows h16 rfl rfl eun⟩ (dd.fr hf rfl (fun k => rfl)) ⟨(hf.I rfl).trans e1, (hf.I rfl).trans e2, (hf.I rfl).trans e3, es⟩ (fun j hj => ?_) ⟨Or.inl end', edr⟩ (i.fr hf (fun k => rfl) (fun k => rfl)), hf.cun WX_LoM⟩
        rw [erf]
        unfold rfM
        rw [if_neg hv0]
        show _ = rfC X.2.2.2.2.1 (nI d) j
        rw [rfC_pos hv0]
        exact f j hj
  · exact st_ref h0 (v := -1) (i := 0) (by unfold tlV; decide) (by decide) (by decide) (fun G hG Q => (c_season_no hG.1.1 Q a b nl n12 (c4 hG hV).2).1 q) (fun G hG Q => (s_season_no hG.1.1 Q a b nl n12 (s1 hG hV).2).1 q)
