theorem gTimes_20 {b : Nat → Nat} {len q c kd : Nat} {sm : SF} {wt : Option SF} {r : Nat × Nat × Nat × SF × Option SF × Nat} (e : gTimes b len q c kd sm wt = .ok r) : r.2.2.2.2.2 ≤ 20 := by
  unfold gTimes at e
  split at e
  · split at e
    · cases e
    · split at e
      · next z =>
        injection e with e
        rw [← e]
        exact z.2
      · cases e
  · injection e with e
    rw [← e]
    show 1 ≤ 20
    decide
theorem gHead_20 {b : Nat → Nat} {len p c : Nat} {od : Bool} {r : Nat × Nat × Nat × SF × Option SF × Nat} (e : gHead b len od p c = .ok r) : r.2.2.2.2.2 ≤ 20 := by
  unfold gHead at e
  split at e
  · unfold gOrdH at e
    split at e
    · split at e
      · cases e
      · unfold gHandB at e
        split at e
        · split at e
          · cases e
          · exact gTimes_20 e
        · exact gTimes_20 e
    · split at e
      · exact gTimes_20 e
      · cases e
  · unfold gLawH at e
    split at e
    · cases e
    · split at e
      · split at e
        · cases e
        · injection e with e
          rw [← e]
          show 1 ≤ 20
          decide
      · injection e with e
        rw [← e]
        show 1 ≤ 20
        decide
theorem gClause_20 {b : Nat → Nat} {len p c : Nat} {od : Bool} {r : Nat × Nat × CLd} (e : gClause b len od p c = .ok r) : r.2.2.2.2.2.1 ≤ 20 := by
  unfold gClause at e
  split at e
  · cases e
  · next h hh =>
    have h20 := gHead_20 hh
    split at e
    · split at e
      · cases e
      · injection e with e
        rw [← e]
        exact h20
    · injection e with e
      rw [← e]
      exact h20
theorem gTx_20 {b : Nat → Nat} {len : Nat} {od : Bool} : ∀ m p c (L L' : List CLd), (∀ i, i < L.length → (L.getD i clD).2.2.2.1 ≤ 20) → gTx b len od m p c L = .ok L' → L'.length ≤ L.length + m ∧ ∀ i, i < L'.length → (L'.getD i clD).2.2.2.1 ≤ 20
  | 0, _, _, _, _, _, e => by cases e
  | m + 1, p, c, L, L', h, e => by
    unfold gTx at e
    split at e
    · cases e
    · next r hr =>
      have h1 := gClause_20 hr
      have h2 : ∀ i, i < (L ++ [r.2.2]).length → ((L ++ [r.2.2]).getD i clD).2.2.2.1 ≤ 20 := by
        intro i hi
        rw [List.length_append, List.length_singleton] at hi
        by_cases z : i < L.length
        · have := h i z
          rw [List.getD_eq_getElem?_getD, List.getElem?_append_left z, ← List.getD_eq_getElem?_getD]
          exact this
        · have z2 : i = L.length := by omega
          rw [List.getD_eq_getElem?_getD, z2, List.getElem?_append_right (Nat.le_refl _), Nat.sub_self]
          exact h1
      have h3 : (L ++ [r.2.2]).length = L.length + 1 := by rw [List.length_append, List.length_singleton]
      split at e
      · injection e with e
        rw [← e]
        exact ⟨by omega, h2⟩
      · split at e
        · obtain ⟨y1, y2⟩ := gTx_20 m _ _ _ _ h2 e
          exact ⟨by omega, y2⟩
        · cases e
theorem gText_20 {b : Nat → Nat} {len : Nat} {od : Bool} {L : List CLd} (e : gText b len od = .ok L) : L.length ≤ 12 ∧ ∀ i, i < L.length → (L.getD i clD).2.2.2.1 ≤ 20 := by
  obtain ⟨y1, y2⟩ := gTx_20 12 _ 0 [] L (fun i hi => absurd hi (by simp)) e
  exact ⟨by simpa using y1, y2⟩
theorem oTms_OI {T : Nat → (Nat → Int64) → Option Int64} {hl : Bool} {A B : Nat → Nat} {n nr nl c : Nat} {R0 : Nat → Int32} {cl : CLd} : ∀ (t : Nat) (S S' : OS), OI R0 nr nl c S → c + S.2.1 + t ≤ 500000 → oTms T hl A B n nr nl cl t S = some S' → OI R0 nr nl c S' ∧ S'.2.1 ≤ S.2.1 + t
  | 0, S, S', h, _, e => by
    injection e with e
    rw [← e]
    exact ⟨h, Nat.le_refl _⟩
  | t + 1, S, S', h, hc, e => by
    unfold oTms at e
    split at e
    · cases e
    · next S1 h1 =>
      obtain ⟨a1, a2, a3⟩ := oOne_OI h (by omega) h1
      obtain ⟨b1, b2⟩ := oTms_OI t S1 S' a1 (by omega) e
      exact ⟨b1, by omega⟩
theorem oGo_OI {T : Nat → (Nat → Int64) → Option Int64} {hl : Bool} {A B : Nat → Nat} {n nr nl c : Nat} {R0 : Nat → Int32} {L : List CLd} (hL : ∀ i, i < L.length → (L.getD i clD).2.2.2.1 ≤ 20) : ∀ (m k : Nat) (S S' : OS), OI R0 nr nl c S → k + m ≤ L.length → c + S.2.1 + 20 * m ≤ 500000 → oGo T hl A B n nr nl L m k S = .ok S' → OI R0 nr nl c S' ∧ S'.2.1 ≤ S.2.1 + 20 * m
  | 0, k, S, S', h, _, _, e => by
    injection e with e
    rw [← e]
    exact ⟨h, by omega⟩
  | m + 1, k, S, S', h, hk, hc, e => by
    unfold oGo at e
    split at e
    · cases e
    · next S1 h1 =>
      have h20 := hL k (by omega)
      obtain ⟨a1, a2⟩ := oTms_OI _ S S1 h (by omega) h1
      obtain ⟨b1, b2⟩ := oGo_OI hL m (k + 1) S1 S' a1 (by omega) (by omega) e
      exact ⟨b1, by omega⟩
theorem Hi.eqx {R R' : Nat → Int32} (h : Hi R R') : Eqx R R' := fun j hj => h j (by omega)
/-- what orders leave -/
def oX (X : XDt) (R' : Nat → Int32) (U' : US) (fl sp v : Int32) : XDt := tlX (spX (flX (tpX (wX (uX X U') (R', X.1.2)) (0, X.2.2.1.2)) fl) sp) v
theorem CPx.or {G G' : XH} {X : XDt} (h : CPx G X) (hf : FC WOc G G') {R' : Nat → Int32} {U' : US} {fl sp v : Int32} (n12 : (X.1.1 0).toNatClampNeg ≤ 12) (he : Eqx X.1.1 R') (h0 : hpI G' 47 1 = 0) (h1 : hpI G' 0 16 = stM1 v) (h2 : hpI G' 69 = rfC (hpI G 69) v) (h3 : hpI G' 0 17 = fl) (h4 : hpI G' 0 18 = sp) (hV : VW (hpI G' 2) R') (hu : UCx G' U') : CPx G' (oX X R' U' fl sp v) := by
  have h0' := h
  obtain ⟨_, b, c, d, ⟨e1, e2, e3, e4⟩, f, g, i⟩ := h
  obtain ⟨b1, b2, b3, b4, b5, b6, b7, b8⟩ := b
  have hcw : CWd G' 1 (R', X.1.2) := by
    refine h0'.2.1.re hf WOc_Lo hV (fun j hj => ?_) (fun r hr => ?_) ?_ ?_ ?_ (he 3 (by omega))
    · rw [he 0 (by omega)] at hj
      rw [hf.IA 3 (fun _ => rfl), hf.IA 4 (fun _ => rfl), he _ (by omega), he _ (by omega)]
      exact b2 j hj
    · rw [hf.IA 5 (fun _ => rfl), he _ (by omega)]
      exact b3 r hr
    · rw [hf.I rfl, he 0 (by omega)]
      exact b4
    · rw [hf.I rfl, he 3 (by omega)]
      exact b5
    · rw [hf.I rfl, he 4 (by omega)]
      exact b6
  refine h0'.mk hf WOc_Lo hcw hu ⟨h0, fun k hk => absurd hk (Nat.not_lt_zero k)⟩ ⟨(hf.I rfl).trans e1, h3, h4, h1⟩ (fun j hj => ?_) (g.fc hf rfl (fun _ => rfl)) rfl
  rw [h2]
  show rfC (hpI G 69) v j = rfC X.2.2.2.2.1 v j
  unfold rfC
  split
  · unfold up
    rw [f _ ixC_lt]
    split
    · rfl
    · exact f j hj
  · exact f j hj
theorem rf_both {f g : Nat → Int32} {v : Int32} (hv : tlV v) (h : ∀ i, i < 5 → f (mIx i) = g i) : ∀ i, i < 5 → rfM f v (mIx i) = rfC g v i := by
  intro j hj
  unfold rfM rfC
  by_cases q : v < 0
  · rw [if_pos q, if_pos q, tlV_ix hv q]
    unfold up
    by_cases e : j = ixC v
    · rw [if_pos (by rw [e]), if_pos e, h _ ixC_lt]
    · rw [if_neg (fun z => e (mIx_inj z)), if_neg e]
      exact h j hj
  · rw [if_neg q, if_neg q]
    exact h j hj
theorem MPx.or {G G' : XH} {X : XDt} (h : MPx G X) (hf : Fr WOq G G') {R' : Nat → Int32} {U' : US} {fl sp v : Int32} (hv : tlV v) (h0 : hpI G' 70 13 = 0) (ho : hpI G' 70 20 = 0) (h1 : hpI G' 70 1 = stM1 v) (h2 : hpI G' 71 = rfM (hpI G 71) v) (h3 : hpI G' 70 18 = fl) (h4 : hpI G' 70 60 = sp) (hr : hpI G' 72 = R') (hu : MUx G' R' U') : MPx G' (oX X R' U' fl sp v) := by
  have h0' := h
  obtain ⟨⟨a1, a2, a3⟩, b, c, d, ⟨e1, e2, e3, e4⟩, f, g, i⟩ := h
  refine h0'.mk hf (fun a k hk => by rcases hk with rfl | rfl | rfl <;> rfl) ho hr hu ⟨h0, fun k hk => absurd hk (Nat.not_lt_zero k)⟩ ⟨(hf.I rfl).trans e1, h3, h4, h1⟩ (fun j hj => ?_) (g.fr hf rfl (fun k => rfl)) (i.fr hf (fun k => rfl) (fun k => rfl))
  rw [h2]
  exact rf_both hv f j hj
theorem WOc_LoC : LoC WOc := by
  intro a k h1 h2
  unfold WOc WRe WRd WCl WGx WRc WC WA WW WU WTa WTb
  simp only [Bool.or_eq_false_iff, Bool.and_eq_false_iff, beq_eq_false_iff_ne, decide_eq_false_iff_not]
  omega
theorem WOq_LoM : LoM WOq := by
  intro a k h
  have hb := WB_LoM a k h
  have hb' := hb
  unfold WB at hb'
  simp only [Bool.or_eq_false_iff] at hb'
  unfold WOq WRun
  rw [hb, hb'.1.1]
  unfold WBt WBo WRl WRq WMx
  simp only [Bool.or_false, Bool.false_or, Bool.or_eq_false_iff, Bool.and_eq_false_iff, beq_eq_false_iff_ne]
  omega
theorem st_orders {X : XDt} {c : Nat} (h : VXe X c) (hc : c ≤ 400000) : StX D_Post_orders D_Mdl_orders [] X c := by
  have h0 := h
  obtain ⟨nr, nl, n, m, A, B, hV⟩ := h
  have h16 := hV.2.1.1
  have n12 := hV.n12
  obtain ⟨b, hb⟩ : ∃ b, b = X.2.2.1.2 := ⟨_, rfl⟩
  obtain ⟨len, hlen⟩ : ∃ len, len = X.2.2.1.1 := ⟨_, rfl⟩
  have hTc : ∀ {G : XH}, CPx G X → TB G b len ∧ hpI G 47 1 = nI len := fun hG => by
    rw [hb, hlen]
    exact ⟨⟨hV.2.2.1, fun k hk => ⟨hG.2.2.2.1.2 k hk, hV.2.2.2.1 k hk⟩⟩, hG.2.2.2.1.1⟩
  have hTm : ∀ {G : XH}, MPx G X → TBm G b len ∧ hpI G 70 13 = nI len := fun hG => by
    rw [hb, hlen]
    exact ⟨⟨hV.2.2.1, fun k hk => ⟨hG.2.2.2.1.2 k hk, hV.2.2.2.1 k hk⟩⟩, hG.2.2.2.1.1⟩
  have hC : ∀ G, CPx G X → SP D_Post_orders [.ref 0] G (OcQ (TW X.1) (lW X.1) A B n nr nl b len X.1.1 X.2.1 G) := fun G hG => c_orders (hG.cx hV.1) hG.1.2.1 (hG.crd hV.1) hV.1.1 (by omega) hV.2.1 hG.2.2.1 (hTc hG).1 (hTc hG).2
  have hM : ∀ G, MPx G X → SP D_Mdl_orders [.ref 70] G (OrQ (TW X.1) (lW X.1) A B n nr nl b len X.1.1 X.2.1 G) := fun G hG => s_orders (hG.mx hV.1) hV.1.2.1 hV.1.1 (by omega) hV.2.1 hG.2.2.1.1 hG.2.2.1.2 (hTm hG).1 (hTm hG).2 hG.1.2.1
  have tpv : ∀ {c' : Nat} {R' : Nat → Int32} {U' : US} {fl sp v : Int32}, c ≤ c' → RW R' nr nl c' → Eqx X.1.1 R' → UOK U' nr nl c' → VXe (oX X R' U' fl sp v) c' := fun hcc hR he hU => ⟨nr, nl, n, m, A, B, hV.1.eqx hcc hR he, hU, Nat.zero_le _, fun k hk => absurd hk (Nat.not_lt_zero k), (hV.mono hcc).2.2.2.2⟩
  cases hg : gText b len true with
  | error e =>
    refine ⟨-6, oX X X.1.1 X.2.1 (nI e) (-1) (-6), (tpv (Nat.le_refl c) hV.1.1 Eqx.refl hV.2.1).mono (by omega), fun G hG => SP.mono (hC G hG) ?_, fun G hG => SP.mono (hM G hG) ?_⟩
    · intro z hz
      obtain ⟨hf, h1, v, hv, h2, h3, h4⟩ := hz
      rw [hg] at h4
      obtain ⟨rfl, h5, h6, h7, h8⟩ := h4
      exact ⟨hv, hG.or hf n12 Eqx.refl h1 h2 h3 h5 h6 (by rw [h7]; exact hG.2.1.1) (hG.2.2.1.unc h8), hf.mun WOc_LoC, by rw [hf.Z]; omega, by rw [hf.S]; omega⟩
    · intro z hz
      obtain ⟨hf, h1, ho, v, hv, h2, h3, h4⟩ := hz
      rw [hg] at h4
      obtain ⟨rfl, h5, h6, h7, u1, u2, u3⟩ := h4
      exact ⟨hv, hG.or hf (by unfold tlV; decide) h1 ho h2 h3 h5 h6 h7 ⟨u1.trans hG.2.2.1.1, by rw [u2, u3]; exact hG.2.2.1.2⟩, hf.cun WOq_LoM⟩
  | ok L =>
    obtain ⟨L12, L20⟩ := gText_20 hg
    cases hgo : oGo (TW X.1) (lW X.1) A B n nr nl L L.length 0 (X.1.1, 0, -1, X.2.1) with
    | error k =>
      refine ⟨-3, oX X X.1.1 X.2.1 (-1) (nI k) (-3), (tpv (Nat.le_refl c) hV.1.1 Eqx.refl hV.2.1).mono (by omega), fun G hG => SP.mono (hC G hG) ?_, fun G hG => SP.mono (hM G hG) ?_⟩
      · intro z hz
        obtain ⟨hf, h1, v, hv, h2, h3, h4⟩ := hz
        rw [hg] at h4
        dsimp only at h4
        rw [hgo] at h4
        obtain ⟨h5, rfl, h6, h7, h8⟩ := h4
        exact ⟨hv, hG.or hf n12 Eqx.refl h1 h2 h3 h5 h6 h7 h8, hf.mun WOc_LoC, by rw [hf.Z]; omega, by rw [hf.S]; omega⟩
      · intro z hz
        obtain ⟨hf, h1, ho, v, hv, h2, h3, h4⟩ := hz
        rw [hg] at h4
        dsimp only at h4
        rw [hgo] at h4
        obtain ⟨h5, rfl, h6, h7, u1, u2⟩ := h4
        exact ⟨hv, hG.or hf (by unfold tlV; decide) h1 ho h2 h3 h5 h6 h7 ⟨u1, u2⟩, hf.cun WOq_LoM⟩
    | ok S =>
      have hI0 : OI X.1.1 nr nl c (X.1.1, 0, -1, X.2.1) := ⟨hV.1.1, Hi.refl, hV.2.1, Or.inl rfl⟩
      obtain ⟨⟨i1, i2, i3, i4⟩, i5⟩ := oGo_OI L20 L.length 0 _ _ hI0 (by omega) (by show c + 0 + 20 * L.length ≤ 500000; omega) hgo
      have i5' : S.2.1 ≤ 20 * L.length := by have : S.2.1 ≤ 0 + 20 * L.length := i5; omega
      have hv0 : ¬ nI S.2.1 < 0 := nn_nI (by omega)
      refine ⟨nI S.2.1, oX X S.1 S.2.2.2 (-1) (-1) (nI S.2.1), (tpv (c' := c + S.2.1) (by omega) i1 i2.eqx i3).mono (by omega), fun G hG => SP.mono (hC G hG) ?_, fun G hG => SP.mono (hM G hG) ?_⟩
      · intro z hz
        obtain ⟨hf, h1, v, hv, h2, h3, h4⟩ := hz
        rw [hg] at h4
        dsimp only at h4
        rw [hgo] at h4
        obtain ⟨h5, rfl, h6, h7, h8⟩ := h4
        exact ⟨hv, hG.or hf n12 i2.eqx h1 h2 h3 h5 h6 h7 h8, hf.mun WOc_LoC, by rw [hf.Z]; omega, by rw [hf.S]; omega⟩
      · intro z hz
        obtain ⟨hf, h1, ho, v, hv, h2, h3, h4⟩ := hz
        rw [hg] at h4
        dsimp only at h4
        rw [hgo] at h4
        obtain ⟨h5, rfl, h6, h7, u1, u2⟩ := h4
        exact ⟨hv, hG.or hf (Or.inl hv0) h1 ho h2 h3 h5 h6 h7 ⟨u1, u2⟩, hf.cun WOq_LoM⟩
