/-- what a call answers, and how what they stand for is found -/
def StP (Dc Dm : XD) (av : List Value) (X : XDt) (c : Nat) : Prop := ∃ (v : Int32) (P : XDt → Prop), (∀ G, CPx G X → SP Dc (.ref 0 :: av) G (fun z => z.1 = some (.int v) ∧ (∀ X', P X' → CPx z.2 X') ∧ MUn G z.2 ∧ hpZ z.2 ≤ hpZ G + 6 ∧ hpS z.2 ≤ hpS G + 500)) ∧ ∀ G, MPx G X → SP Dm (.ref 70 :: av) G (fun z => z.1 = some (.int v) ∧ CUn G z.2 ∧ ∃ X', P X' ∧ VXe X' (c + 300) ∧ MPx z.2 X')
theorem StX.p {Dc Dm : XD} {av : List Value} {X : XDt} {c : Nat} (h : StX Dc Dm av X c) : StP Dc Dm av X c := by
  obtain ⟨v, X', h1, h2, h3⟩ := h
  exact ⟨v, fun Y => Y = X', fun G hG => SP.mono (h2 G hG) (fun z hz => ⟨hz.1, fun Y hY => by rw [hY]; exact hz.2.1, hz.2.2⟩), fun G hG => SP.mono (h3 G hG) (fun z hz => ⟨hz.1, hz.2.2, X', rfl, h1, hz.2.1⟩)⟩
/-- the laws, one more -/
def lwA (X : XDt) (nl : Nat) (L : List CLd) : Nat → Nat × (Nat → Nat) × (Nat → SF) × (Nat → SF) := fun i => if i = nl then (L.length, fun c => (L.getD c clD).1, fun c => (L.getD c clD).2.1, fun c => (L.getD c clD).2.2.2.2) else X.1.2 i
def lwX (X : XDt) (R' : Nat → Int32) (nl : Nat) (L : List CLd) : XDt := flX (tpX (wX X (R', lwA X nl L)) (0, X.2.2.1.2)) (-1)
theorem LwR.lo {R R' : Nat → Int32} {nl : Nat} {L : List CLd} (h : LwR R R' nl L) {j : Nat} (h1 : j < 180) (h3 : ¬ j = 3) : R' j = R j := h.1 j (Or.inl (by omega)) h3
theorem VWd.lw {X : XDt} {nr nl n m : Nat} {A B : Nat → Nat} {c : Nat} (h : VWd X.1 nr nl n m A B c) (hm : m < 6) {b : Nat → Nat} {len : Nat} {L : List CLd} (hg : gText b len false = .ok L) {R' : Nat → Int32} (hR : LwR X.1.1 R' m L) : VWd (R', lwA X m L) nr nl n (m + 1) A B c := by
  obtain ⟨h1, h2, h3, h4, h5, h6⟩ := h
  refine ⟨h1.eqs ⟨hR.lo (by omega) (by omega), hR.lo (by omega) (by omega), fun j y1 y2 => hR.lo (by omega) (by omega)⟩, h2.row (hR.lo (by omega) (by omega)) (fun j y1 y2 => hR.lo (by omega) (by omega)), by omega, hR.2.1, fun i hi => ?_, ?_⟩
  · dsimp only
    unfold lwA
    by_cases e : i = m
    · rw [if_pos e, e]
      exact ⟨hR.2.2, fun c hc => (gText_ok hg c hc).1⟩
    · rw [if_neg e]
      exact ⟨(h5 i (by omega)).1.loc (fun j y1 y2 => hR.1 j (Or.inl (by omega)) (by omega)), (h5 i (by omega)).2⟩
  · dsimp only
    rw [hR.lo (by omega) (by omega)]
    rcases h6 with z | ⟨f, f1, f2⟩
    · exact Or.inl z
    · exact Or.inr ⟨f, by omega, f2⟩
theorem WLw_LoM : LoM WLw := by
  intro a k h
  unfold WLw WBt WRl WMx
  simp only [Bool.or_eq_false_iff, Bool.and_eq_false_iff, beq_eq_false_iff_ne]
  omega
theorem WLc_Lo : Lo WLc := by
  intro a k h
  unfold WLc
  rw [WRe_Lo a k h]
  simp only [Bool.false_or, Bool.or_eq_false_iff, Bool.and_eq_false_iff, beq_eq_false_iff_ne]
  omega
theorem WLc_LoC : LoC WLc := by
  intro a k h1 h2
  unfold WLc WRe WRd WCl WGx
  simp only [Bool.or_eq_false_iff, Bool.and_eq_false_iff, beq_eq_false_iff_ne]
  omega
theorem VLc_no {nl a k : Nat} (h : ¬ (a = 6 ∧ k = nl)) : VLc nl a k = false := by
  unfold VLc
  simp only [Bool.and_eq_false_iff, beq_eq_false_iff_ne]
  omega
theorem MPx.lw {G G' : XH} {X : XDt} (h : MPx G X) (h16 : X.2.1.1 ≤ 16) (hf : Fr WLw G G') (h0 : hpI G' 70 13 = 0) (ho : hpI G' 70 20 = 0) {fl : Int32} (h3 : hpI G' 70 18 = fl) {W : WDt} (hr : hpI G' 72 = W.1) (h12 : W.1 1 = X.1.1 1 ∧ W.1 2 = X.1.1 2) : MPx G' (flX (tpX (wX X W) (0, X.2.2.1.2)) fl) := by
  have h0' := h
  obtain ⟨⟨a1, a2, a3⟩, b, cc, d, ⟨e1, e2, e3, e4⟩, f, g, i⟩ := h
  refine h0'.mk hf (fun a k hk => by rcases hk with rfl | rfl | rfl <;> rfl) ho hr ⟨(hf.I rfl).trans cc.1, ?_⟩ ⟨h0, fun k hk => absurd hk (Nat.not_lt_zero k)⟩ ⟨(hf.I rfl).trans e1, h3, (hf.I rfl).trans e3, (hf.I rfl).trans e4⟩ (f.fr hf (fun k => rfl)) (g.fr hf rfl (fun k => rfl)) (i.fr hf (fun k => rfl) (fun k => rfl))
  rw [hf.IA 76 (fun _ => rfl)]
  exact cc.2.rows h16 h12.1 h12.2 (fun j hj => hf.I rfl)
/-- the class where a law was refused -/
theorem CPx.lwe {G G' : XH} {X : XDt} (h : CPx G X) (hf : Fr WLc G G') {e : Int32} (h0 : hpI G' 47 1 = 0) (h1 : hpI G' 0 17 = e) (h2 : hpI G' 0 16 = -6) (h3 : hpI G' 69 = rfC (hpI G 69) (-6)) (h4 : hpI G' 1 = hpI G 1) : CPx G' (tlX (flX (tpX X (0, X.2.2.1.2)) e) (-6)) := by
  have h0' := h
  have hf := hf.fc
  obtain ⟨_, b, c, d, ⟨e1, e2, e3, e4⟩, f, g, i⟩ := h
  have hcw : CWd G' 1 X.1 := by
    obtain ⟨b1, b2, b3, b4, b5, b6, b7, b8⟩ := b
    have := h0'.2.1.re (R' := X.1.1) hf WLc_Lo (by rw [hf.IA 2 (fun _ => rfl)]; exact b1) (fun j hj => by rw [hf.IA 3 (fun _ => rfl), hf.IA 4 (fun _ => rfl)]; exact b2 j hj) (fun r hr => by rw [hf.IA 5 (fun _ => rfl)]; exact b3 r hr) (by rw [h4]; exact b4) (by rw [h4]; exact b5) (by rw [h4]; exact b6) rfl
    exact this
  refine h0'.mk hf WLc_Lo hcw (c.unc (UnC.fc hf (fun k => rfl) (fun k => rfl) (fun j hj k => ?_))) ⟨h0, fun k hk => absurd hk (Nat.not_lt_zero k)⟩ ⟨(hf.I rfl).trans e1, h1, (hf.I rfl).trans e3, h2⟩ (fun j hj => ?_) (g.fc hf rfl (fun _ => rfl)) rfl
  · unfold WLc WRe WRd WCl WGx
    simp only [Bool.or_eq_false_iff, Bool.and_eq_false_iff, beq_eq_false_iff_ne]
    omega
  · rw [h3]
    show rfC (hpI G 69) (-6) j = rfC X.2.2.2.2.1 (-6) j
    unfold rfC
    split
    · unfold up
      rw [f _ ixC_lt]
      split
      · rfl
      · exact f j hj
    · exact f j hj
/-- the class where a law was taken -/
theorem CPx.lwo {G : XH} {X : XDt} {nr nl n m : Nat} {A B : Nat → Nat} {c : Nat} (h : CPx G X) (hV : VXd X nr nl n m A B c) (hm : m < 6) {L : List CLd} {R' : Nat → Int32} (hR : LwR X.1.1 R' m L) {z : XR} (hf : Fx WLc (VLc m) G z.2) (h0 : hpI z.2 47 1 = 0) (hZ3 : hpZ z.2 = hpZ G + 3) (h1 : hpI z.2 0 17 = -1) (h2 : hpI z.2 0 16 = 0) (h3 : hpI z.2 69 = hpI G 69) (h4 : hpI z.2 1 6 = nI (m + 1)) (h5 : hpR z.2 6 m = some (hpZ G)) (hL : LawD z.2 (fun x => hpZ G ≤ x ∧ x < hpZ G + 3) (hpZ G) L.length (fun c => (L.getD c clD).1) (fun c => (L.getD c clD).2.1) (fun c => (L.getD c clD).2.2.2.2)) : CPx z.2 (tlX (lwX X R' m L) (nI m)) := by
  have h0' := h
  have n12 := hV.n12
  have hv0 : ¬ nI m < 0 := nn_nI (by omega)
  have hm3 : (X.1.1 3).toNatClampNeg = m := by rw [hV.1.2.2.2.1, nI_clamp (by omega)]
  obtain ⟨⟨hC, hU, hZ⟩, b, ⟨p, p16, u3, u2, ucu⟩, d, ⟨e1, e2, e3, e4⟩, f, ⟨g1, g2⟩, im1, im2⟩ := h
  have lo : ∀ a, a < 105 → (∀ j, WLc a j = false) → hpI z.2 a = hpI G a := fun a ha hw => hf.IA (by omega) hw
  have w10 : ∀ i, i < 16 → ∀ j, WLc (10 + i) j = false := fun i hi j => by
    unfold WLc WRe WRd WCl WGx
    simp only [Bool.or_eq_false_iff, Bool.and_eq_false_iff, beq_eq_false_iff_ne]
    omega
  have i7 : hpR z.2 7 = hpR G 7 := funext fun j => hf.R (by omega) (VLc_no (by omega))
  have imz : ∀ j w', j < 2 → hpR G 7 j = some w' → w' + 6 ≤ hpZ G := fun j w' hj hr => by
    have := im1 j hj
    cases hX : X.2.2.2.2.2.2 j with
    | none =>
      rw [hX] at this
      rw [this] at hr
      cases hr
    | some W =>
      rw [hX] at this
      obtain ⟨w'', y1, y2, y3, y4, y5⟩ := this
      rw [y1] at hr
      injection hr with hr
      omega
  have hBd : ∀ x, Bd G x → Bd z.2 x := fun x hx => ⟨hx.1, Nat.lt_of_lt_of_le hx.2.1 hf.Z, fun j hj w' hw' => hx.2.2 j hj w' (by rw [← i7]; exact hw')⟩
  have hBc : ∀ x, Bd G x → hpC z.2 x = hpC G x ∧ hpN z.2 x = hpN G x ∧ hpI z.2 x = hpI G x ∧ hpR z.2 x = hpR G x := fun x hx => by
    have hx1 := hx.1
    exact ⟨hf.C hx.2.1, hf.N hx.2.1, hf.IA hx.2.1 (fun j => WLc_Lo x j hx1), funext fun j => hf.R hx.2.1 (VLc_no (by omega))⟩
  have hCc : ∀ x, 105 ≤ x → x < hpZ G → hpC z.2 x = hpC G x := fun x _ hx => hf.C hx
  have hBn : ∀ x, (hpZ G ≤ x ∧ x < hpZ G + 3) → Bd z.2 x := fun x hx => ⟨by omega, by omega, fun j hj w' hw' => by
    rw [i7] at hw'
    have := imz j w' hj hw'
    omega⟩
  have r6 : ∀ k, ¬ k = m → hpR z.2 6 k = hpR G 6 k := fun k hk => hf.R (by omega) (VLc_no (by omega))
  have hcw : CWd z.2 1 (R', lwA X m L) := by
    obtain ⟨b1, b2, b3, b4, b5, b6, b7, b8⟩ := b
    refine ⟨?_, fun j hj => ?_, fun r hr => ?_, ?_, ?_, ?_, fun i hi => ?_, fun k hk => ?_⟩
    · rw [lo 2 (by decide) (fun _ => rfl)]
      exact b1.eqs ⟨hR.lo (by omega) (by omega), hR.lo (by omega) (by omega), fun j y1 y2 => hR.lo (by omega) (by omega)⟩
    · dsimp only at hj ⊢
      rw [hR.lo (by omega) (by omega)] at hj
      rw [lo 3 (by decide) (fun _ => rfl), lo 4 (by decide) (fun _ => rfl), hR.lo (by omega) (by omega), hR.lo (by omega) (by omega)]
      exact b2 j hj
    · dsimp only
      rw [lo 5 (by decide) (fun _ => rfl), hR.lo (by omega) (by omega)]
      exact b3 r hr
    · dsimp only
      rw [hR.lo (by omega) (by omega)]
      exact (hf.I (by omega) rfl).trans b4
    · dsimp only
      rw [hR.2.1]
      exact h4
    · dsimp only
      rw [hR.lo (by omega) (by omega)]
      exact (hf.I (by omega) rfl).trans b6
    · dsimp only at hi ⊢
      rw [hR.2.1, nI_clamp (by omega)] at hi
      unfold lwA
      by_cases e : i = m
      · rw [if_pos e, e]
        exact ⟨_, h5, hL.cg (fun x _ => ⟨rfl, rfl, rfl, rfl⟩) hBn⟩
      · rw [if_neg e]
        obtain ⟨t, t1, t2⟩ := b7 i (by rw [hm3]; omega)
        exact ⟨t, (r6 i e).trans t1, t2.cg hBc hBd⟩
    · by_cases e : k = m
      · rw [e]
        obtain ⟨cd, rw', lim, I, ⟨a1, a2, a3, ⟨tc, _⟩, _⟩, _⟩ := hL
        exact Or.inr ⟨hpZ G, h5, tc, hZ, by omega⟩
      · rw [show (1 : Nat) + 5 = 6 from rfl, r6 k e]
        rcases b8 k hk with y | ⟨t, t1, t2, t3, t4⟩
        · exact Or.inl y
        · exact Or.inr ⟨t, t1, by rw [hf.C t4]; exact t2, t3, by omega⟩
  refine h0'.gx hf VLc_VOk hcw ⟨p, p16, (hf.I (by omega) rfl).trans u3, (hf.I (by omega) rfl).trans u2, fun j hj => ?_⟩ ⟨h0, fun j hj => absurd hj (Nat.not_lt_zero j)⟩ ⟨(hf.I (by omega) rfl).trans e1, h1, (hf.I (by omega) rfl).trans e3, ?_⟩ (fun j hj => ?_) ⟨(hf.I (by omega) rfl).trans g1, fun j g hj hg => (hf.I (by omega) rfl).trans (g2 j g hj hg)⟩ ⟨fun j hj => ?_, fun w0 w1 hw0 hw1 => ?_⟩
  · have hm16 : (p + 16 - X.2.1.1 + j) % 16 < 16 := Nat.mod_lt _ (by omega)
    show hpI z.2 26 ((p + 16 - X.2.1.1 + j) % 16) = X.2.1.2.1 j ∧ VW (hpI z.2 (10 + (p + 16 - X.2.1.1 + j) % 16)) (X.2.1.2.2 j)
    rw [lo _ (by decide) (fun _ => rfl), lo (10 + (p + 16 - X.2.1.1 + j) % 16) (by omega) (w10 _ hm16)]
    exact ucu j hj
  · exact h2.trans (stM1_pos hv0).symm
  · show hpI z.2 69 j = rfC X.2.2.2.2.1 (nI m) j
    rw [rfC_pos hv0, h3]
    exact f j hj
  · show match X.2.2.2.2.2.2 j with
      | none => hpR z.2 7 j = none
      | some W => ∃ w, hpR z.2 7 j = some w ∧ WLD z.2 w ∧ 105 ≤ w ∧ w + 6 ≤ hpZ z.2 ∧ CWd z.2 w W
    have := im1 j hj
    rw [i7]
    cases hX : X.2.2.2.2.2.2 j with
    | none =>
      rw [hX] at this
      exact this
    | some W =>
      rw [hX] at this
      obtain ⟨w', y1, y2, y3, y4, y5⟩ := this
      exact ⟨w', y1, y2.fx hf y4 (fun j => VLc_no (by omega)), y3, by omega, y5.cg (fun a h1 h2 => hf.IA (by omega) (fun j => WLc_Lo a j (by omega))) (funext fun j => hf.R (by omega) (VLc_no (by omega))) hBc hBd hCc hf.Z⟩
  · rw [i7] at hw0 hw1
    exact im2 w0 w1 hw0 hw1
theorem st_law {X : XDt} {c : Nat} (h : VXe X c) : StP D_Post_law D_Mdl_law [] X c := by
  have h0 := h
  obtain ⟨nr, nl, n, m, A, B, hV⟩ := h
  have h16 := hV.2.1.1
  have m6 := hV.1.2.2.1
  have hR3 : X.1.1 3 = nI m := hV.1.2.2.2.1
  obtain ⟨b, hb⟩ : ∃ b, b = X.2.2.1.2 := ⟨_, rfl⟩
  obtain ⟨len, hlen⟩ : ∃ len, len = X.2.2.1.1 := ⟨_, rfl⟩
  have hTc : ∀ {G : XH}, CPx G X → TB G b len ∧ hpI G 47 1 = nI len := fun hG => by
    rw [hb, hlen]
    exact ⟨⟨hV.2.2.1, fun k hk => ⟨hG.2.2.2.1.2 k hk, hV.2.2.2.1 k hk⟩⟩, hG.2.2.2.1.1⟩
  have hTm : ∀ {G : XH}, MPx G X → TBm G b len ∧ hpI G 70 13 = nI len := fun hG => by
    rw [hb, hlen]
    exact ⟨⟨hV.2.2.1, fun k hk => ⟨hG.2.2.2.1.2 k hk, hV.2.2.2.1 k hk⟩⟩, hG.2.2.2.1.1⟩
  have h6c : ∀ {G : XH}, CPx G X → hpI G 1 6 = nI m := fun hG => hG.2.1.2.2.2.2.1.trans hR3
  have tp0 : VXe (tpX X (0, X.2.2.1.2)) c := ⟨nr, nl, n, m, A, B, hV.1, hV.2.1, Nat.zero_le _, fun k hk => absurd hk (Nat.not_lt_zero k), hV.2.2.2.2⟩
  by_cases q6 : m = 6
  · refine StX.p ⟨-5, tlX (tpX X (0, X.2.2.1.2)) (-5), tp0.mono (by omega), fun G hG => ?_, fun G hG => ?_⟩
    · rw [c_law_6 hG.1.1 (by rw [h6c hG, q6])]
      exact ⟨rfl, (hG.tp (k := 0) (Nat.zero_le _)).ref (v := -5) (i := 3) (by decide) (by decide), (mun_stI (Or.inl (by omega))).trans mun_ref, by show hpZ G ≤ _; omega, by show hpS G ≤ _; omega⟩
    · rw [s_law_6 hG.1.1 (by rw [hG.2.1, hR3, q6])]
      have hu1 : CUn (stI G 70 0 0) (stI (stI G 70 0 0) 70 13 0) := cun_stI (by omega) (by omega)
      have hu2 : CUn (stI (stI G 70 0 0) 70 13 0) (tellH (-5) (stI (stI G 70 0 0) 70 13 0)) := cun_tell
      exact ⟨rfl, ((hG.t0 h16).tp h16 (k := 0) (Nat.zero_le _)).tell h16 (v := -5) (by unfold tlV; decide), (cun_t0.trans hu1).trans hu2⟩
  · have hC : ∀ G, CPx G X → SP D_Post_law [.ref 0] G (LcQ b len m G) := fun G hG => c_law hG.1.1 (hTc hG).1 (hTc hG).2 (by omega) (h6c hG) hG.1.2.2
    have hM : ∀ G, MPx G X → SP D_Mdl_law [.ref 70] G (LwQ b len X.1.1 m G) := fun G hG => s_law hG.1.1 hG.2.1 hR3 (by omega) (hTm hG).1 (hTm hG).2 hG.1.2.1
    cases hg : gText b len false with
    | error e =>
      refine StX.p ⟨-6, tlX (flX (tpX X (0, X.2.2.1.2)) (nI e)) (-6), tp0.mono (by omega), fun G hG => SP.mono (hC G hG) ?_, fun G hG => SP.mono (hM G hG) ?_⟩
      · intro z hz
        obtain ⟨h1, h2⟩ := hz
        rw [hg] at h2
        obtain ⟨h3, hf, h4, h5, h6, h7⟩ := h2
        exact ⟨h3, hG.lwe hf h1 h4 h5 h6 h7, hf.fc.mun WLc_LoC, by rw [hf.fc.Z]; omega, by rw [hf.fc.S]; omega⟩
      · intro z hz
        obtain ⟨G1, hf, h1, ho, h2⟩ := hz
        rw [hg] at h2
        obtain ⟨rfl, h3, h4⟩ := h2
        have hm1 := hG.lw h16 hf h1 ho h3 (W := X.1) h4 ⟨rfl, rfl⟩
        have hu2 : CUn G1 (tellH (-6) G1) := cun_tell
        exact ⟨rfl, hm1.tell h16 (v := -6) (by unfold tlV; decide), (hf.cun WLw_LoM).trans hu2⟩
    | ok L =>
      have hv0 : ¬ nI m < 0 := nn_nI (by omega)
      refine ⟨nI m, fun X' => ∃ R', LwR X.1.1 R' m L ∧ X' = tlX (lwX X R' m L) (nI m), fun G hG => SP.mono (hC G hG) ?_, fun G hG => SP.mono (hM G hG) ?_⟩
      · intro z hz
        obtain ⟨h1, h2⟩ := hz
        rw [hg] at h2
        obtain ⟨h3, hf, hZ3, hS, h4, h5, h6, h7, h8, h9, h10⟩ := h2
        refine ⟨h3, ?_, hf.mun hG.1.2.2 WLc_LoC (fun a k y1 y2 => VLc_no (by omega)), by omega, by omega⟩
        rintro X' ⟨R', hR, rfl⟩
        exact hG.lwo hV (by omega) hR hf h1 hZ3 h4 h5 h6 h7 h8 h10
      · intro z hz
        obtain ⟨G1, hf, h1, ho, h2⟩ := hz
        rw [hg] at h2
        obtain ⟨rfl, h3, hR⟩ := h2
        have hm1 := hG.lw h16 hf h1 ho h3 (W := (hpI G1 72, lwA X m L)) rfl ⟨hR.lo (by omega) (by omega), hR.lo (by omega) (by omega)⟩
        have hu2 : CUn G1 (tellH (nI m) G1) := cun_tell
        refine ⟨rfl, (hf.cun WLw_LoM).trans hu2, _, ⟨_, hR, rfl⟩, ?_, hm1.tell h16 (v := nI m) (Or.inl hv0)⟩
        exact VXe.mono (c := c) ⟨nr, nl, n, m + 1, A, B, hV.1.lw (by omega) hg hR, hV.2.1, Nat.zero_le _, fun k hk => absurd hk (Nat.not_lt_zero k), hV.2.2.2.2⟩ (by omega)
