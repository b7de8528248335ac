def coG (n : Nat) : Nat → Nat
  | 0 => 1
  | f + 1 => n * (1 + coG n f) + 1
theorem coG_le {n : Nat} (hn : n ≤ 8) : ∀ f, coG n f ≤ coG 8 f
  | 0 => Nat.le_refl _
  | f + 1 => by
    have ih := coG_le hn f
    rw [coG, coG]
    have := Nat.mul_le_mul hn (Nat.add_le_add_left ih 1)
    omega
theorem coG_8 : ∀ f, f < 9 → coG 8 f < 40000000 := by decide
def bgI (FA FB : Int32) (who : Nat) (g : Int) (P : Option (Int × Nat)) : Int32 := match P with
  | none => if who = 0 then FB else FA
  | some q => zI (g + q.1)
def bbI (P : Option (Int × Nat)) : Int32 := match P with
  | none => -1
  | some q => nI q.2
def gbI (a b : Option (Int × Nat)) : Int32 := match a with
  | some q => nI q.2
  | none => bbI b
theorem upd_we {FA FB : Int32} (hFA : FA = zI 100000000) (hFB : FB = zI (-100000000)) {who j : Nat} {g x : Int} {P : Option (Int × Nat)} (h1 : -100000 ≤ g + x ∧ g + x ≤ 100000) (h2 : ∀ q, P = some q → -100000 ≤ g + q.1 ∧ g + q.1 ≤ 100000) {b : Bool} (hb : b = decide ((who = 0 ∧ bgI FA FB who g P < zI (g + x)) ∨ (¬ who = 0 ∧ zI (g + x) < bgI FA FB who g P))) : (if b then zI (g + x) else bgI FA FB who g P) = bgI FA FB who g (updG who P x j) ∧ (if b then nI j else bbI P) = bbI (updG who P x j) := by
  cases P with
  | none =>
    have hbt : b = true := by
      rw [hb, decide_eq_true_eq]
      by_cases h0 : who = 0
      · refine Or.inl ⟨h0, ?_⟩
        unfold bgI
        simp only [h0, if_true]
        rw [hFB, zI_lt (by omega) (by omega) (by omega) (by omega)]
        omega
      · refine Or.inr ⟨h0, ?_⟩
        unfold bgI
        simp only [h0, if_false]
        rw [hFA, zI_lt (by omega) (by omega) (by omega) (by omega)]
        omega
    rw [hbt]
    exact ⟨rfl, rfl⟩
  | some q =>
    have h3 := h2 q rfl
    have e1 : (bgI FA FB who g (some q) < zI (g + x)) = (q.1 < x) := by
      unfold bgI
      dsimp only
      rw [zI_lt (by omega) (by omega) (by omega) (by omega)]
      exact propext ⟨fun z => by omega, fun z => by omega⟩
    have e2 : (zI (g + x) < bgI FA FB who g (some q)) = (x < q.1) := by
      unfold bgI
      dsimp only
      rw [zI_lt (by omega) (by omega) (by omega) (by omega)]
      exact propext ⟨fun z => by omega, fun z => by omega⟩
    simp only [e1, e2] at hb
    unfold updG
    dsimp only
    by_cases hq : (who = 0 ∧ q.1 < x) ∨ (¬ who = 0 ∧ x < q.1)
    · rw [decide_eq_true hq] at hb
      rw [hb, if_pos hq]
      exact ⟨rfl, rfl⟩
    · rw [decide_eq_false hq] at hb
      rw [hb, if_neg hq]
      exact ⟨rfl, rfl⟩
theorem mv_some {cm : Nat → Bool} {turn who : Nat} {M : Nat → Option (Int × Nat)} (hM : ∀ x, (M x).isSome = cm x) (h : mvN cm turn = some who) : ∃ q, M who = some q ∧ gvZ (M turn) (M (1 - turn)) = q.1 ∧ gbI (M turn) (M (1 - turn)) = nI q.2 := by
  unfold mvN at h
  split at h
  · next hc =>
    cases h
    rw [← hM] at hc
    obtain ⟨q, hq⟩ := Option.isSome_iff_exists.mp hc
    exact ⟨q, hq, by rw [hq]; rfl, by rw [hq]; rfl⟩
  · next hc =>
    rw [← hM] at hc
    have hn : M turn = none := by
      cases hm : M turn with
      | none => rfl
      | some z => rw [hm] at hc; exact absurd rfl hc
    split at h
    · next hc2 =>
      cases h
      rw [← hM] at hc2
      obtain ⟨q, hq⟩ := Option.isSome_iff_exists.mp hc2
      exact ⟨q, hq, by rw [hn, hq]; rfl, by rw [hn, hq]; rfl⟩
    · cases h
theorem mv_none {cm : Nat → Bool} {turn : Nat} {M : Nat → Option (Int × Nat)} (hM : ∀ x, (M x).isSome = cm x) (h : mvN cm turn = none) : gvZ (M turn) (M (1 - turn)) = 0 ∧ gbI (M turn) (M (1 - turn)) = -1 := by
  have hz : ∀ x, ¬ cm x = true → M x = none := by
    intro x hc
    rw [← hM] at hc
    cases hm : M x with
    | none => rfl
    | some z => rw [hm] at hc; exact absurd rfl hc
  unfold mvN at h
  split at h
  · cases h
  · next h1 =>
    split at h
    · cases h
    · next h2 =>
      rw [hz _ h1, hz _ h2]
      exact ⟨rfl, rfl⟩
theorem mv_lt {cm : Nat → Bool} {turn : Nat} (ht : turn < 2) : ∀ x, mvN cm turn = some x → x < 2 := by
  intro x hx
  unfold mvN at hx
  split at hx
  · cases hx; exact ht
  · split at hx
    · cases hx; omega
    · cases hx
/-- who is the first to be told at a node -/
def gbV (GM : Nat → Nat → Nat → Nat → Nat → Option (Int × Nat)) (f d done t turn : Nat) : Int32 := match f with
  | 0 => -1
  | f + 1 => gbI (GM f d done t turn) (GM f d done t (1 - turn))
/-- what a node of the game does -/
def GSp (FA FB : Int32) (T : Nat → (Nat → Int64) → Option Int64) (hl : Bool) (R : Nat → Int32) (w n : Nat) (lt : Nat → Nat) (nr nl c : Nat) (f : Nat) : Prop := ∀ (d done t o turn : Nat) (g : Int) (S : Nat → Int32) (G : XH) (N X : Nat) (Q : XR → Prop) (a2 a3 : Option Value), d + f = n → popN done n = d → t ≤ 999 → turn < 2 → (-(999 * (d : Int)) ≤ g ∧ g ≤ 999 * (d : Int)) → OSt R S w false nr nl c d t o (rdB n done lt) → MX G S T hl → MLt G n lt → (∀ i, i < 136 → hpI G 75 (136 * (16 + d) + i) = S (5 + i)) → LV G d (mvI (mvN (cmO T R w n lt d done t) turn)) (-1) (begI FA FB (mvN (cmO T R w n lt d done t) turn) (zI g)) (-1) (zI g) → coG n f + X ≤ N → (∀ N' G' a2 a3, X ≤ N' → Fr (WGn d) G G' → hpI G' 72 = S → hpI G' 98 d = zI (g + GVo T hl R w n lt f d done t turn) → hpI G' 99 d = gbV (GMo T hl R w n lt) f d done t turn → WP (k_Mdl_play_46 (xloop f_Mdl_play_9 N')) [some (.ref 70), some (.int (nI d)), a2, a3] [] G' Q) → WP (xloop f_Mdl_play_9 N) [some (.ref 70), some (.int (nI d)), a2, a3] [] G Q
theorem g_none {FA FB : Int32} {T : Nat → (Nat → Int64) → Option Int64} {hl : Bool} {R : Nat → Int32} {w n : Nat} {lt : Nat → Nat} (hn : n ≤ 8) {f d done t turn : Nat} {g : Int} {S : Nat → Int32} {G : XH} {N X : Nat} {Q : XR → Prop} {a2 a3 : Option Value} (hd : d ≤ n) (hmv : mvN (cmO T R w n lt d done t) turn = none) (hV : GVo T hl R w n lt f d done t turn = 0) (hB : gbV (GMo T hl R w n lt) f d done t turn = -1) (hX : MX G S T hl) (hML : MLt G n lt) (hLV : LV G d (mvI (mvN (cmO T R w n lt d done t) turn)) (-1) (begI FA FB (mvN (cmO T R w n lt d done t) turn) (zI g)) (-1) (zI g)) (hN : 1 + X ≤ N) (hE : ∀ N' G' a2 a3, X ≤ N' → Fr (WGn d) G G' → hpI G' 72 = S → hpI G' 98 d = zI (g + GVo T hl R w n lt f d done t turn) → hpI G' 99 d = gbV (GMo T hl R w n lt) f d done t turn → WP (k_Mdl_play_46 (xloop f_Mdl_play_9 N')) [some (.ref 70), some (.int (nI d)), a2, a3] [] G' Q) : WP (xloop f_Mdl_play_9 N) [some (.ref 70), some (.int (nI d)), a2, a3] [] G Q := by
  obtain ⟨N1, rfl⟩ : ∃ N1, N = N1 + 1 := ⟨N - 1, by omega⟩
  rw [hmv] at hLV
  rw [xloop_s]
  refine gp_out hX.1 hn hd hML.1 (mv := none) (fun x hx => by cases hx) hLV.1 (j := 0) (by rw [hLV.2.1]; decide) (Or.inl rfl) ?_
  refine hE N1 _ a2 a3 (by omega) (Fr.refl.wI (by unfold WGn; simp)) ?_ ?_ ?_
  · rw [stI_up, hpI_stA_ne (by decide)]; exact hX.2.2.1
  · rw [stI_up, hpI_stA_ne (by decide), hV, Int.add_zero]; exact hLV.2.2.1
  · rw [stI_up, hpI_stA_ne (by decide), hB]; exact hLV.2.2.2.1
theorem g_mid {FA FB : Int32} (hk0 : k_Mdl_openLevel_0 = (xAld 0 (xGetR 11 50 (xIld 1 (xAld 0 (xIld 2 (xCallV 11 1 D_Mdl_moverAt (xIasth (xAld 0 (xGetR 11 51 (xIld 1 (xI (-1) (xIasth (xAld 0 (xGetR 11 52 (xIld 1 (xAld 0 (xGetR 11 50 (xIld 1 (xIaldh (xI (-1) (xicmp_ne (xAld 0 (xGetR 11 50 (xIld 1 (xIaldh (xif_ne (xI FA k_Mdl_openLevel_55) (xI FB k_Mdl_openLevel_55)))))) (xIld 3 k_Mdl_openLevel_55))))))))))))))))))))))) (hFA : FA = zI 100000000) (hFB : FB = zI (-100000000)) {T : Nat → (Nat → Int64) → Option Int64} {hl : Bool} {R : Nat → Int32} {w n : Nat} {lt : Nat → Nat} {nr nl c : Nat} (hR : RW R nr nl c) (hc : c ≤ 400000) (hw : w < nr) (hn : n ≤ 8) (hlt : ∀ k, k < n → lt k < nl ∧ R (60 + 7 * lt k) = nI w ∧ R (62 + 7 * lt k) = 0) (hinj : ∀ j k, j < n → k < n → lt j = lt k → j = k) {f : Nat} (hch : GSp FA FB T hl R w n lt nr nl c f) {d done t o who : Nat} {g : Int} {S : Nat → Int32} {G : XH} {X : Nat} {Q : XR → Prop} (hd : d + (f + 1) = n) (hpop : popN done n = d) (ht : t ≤ 999) (hwho : who < 2) (hg : -(999 * (d : Int)) ≤ g ∧ g ≤ 999 * (d : Int)) (hO : OSt R S w false nr nl c d t o (rdB n done lt)) (hX : MX G S T hl) (hML : MLt G n lt) (hun : ∀ i, i < 136 → hpI G 75 (136 * (16 + d) + i) = S (5 + i)) {P : Nat → Option (Int × Nat)} (hP : P = gmF done (fun k => !brO T R w false d t (lt k) && decide (sdO R lt k = who)) (fun k => GVo T hl R w n lt f (d + 1) (done ||| 2 ^ k) (afO T R w false d t (lt k)) (1 - who) + sgZ who (pyO T hl R w false d t (lt k))) who) (hE : ∀ N' G' a2 a3, X ≤ N' → Fr (WGn d) G G' → hpI G' 72 = S → hpI G' 98 d = bgI FA FB who g (P n) → hpI G' 99 d = bbI (P n) → WP (k_Mdl_play_46 (xloop f_Mdl_play_9 N')) [some (.ref 70), some (.int (nI d)), a2, a3] [] G' Q) : ∀ r j N G1 a2 a3, j + r = n → r * (1 + coG n f) + 1 + X ≤ N → Fr (WGn d) G G1 → hpI G1 72 = S → hpI G1 97 d + 1 = nI j → LV G1 d (nI who) (hpI G1 97 d) (bgI FA FB who g (P j)) (bbI (P j)) (zI g) → WP (xloop f_Mdl_play_9 N) [some (.ref 70), some (.int (nI d)), a2, a3] [] G1 Q := by
  have nl12 := hR.2.2.2.1
  have nr8 := hR.2.1
  have hpy : ∀ d t k, t ≤ 999 → k < n → pyO T hl R w false d t (lt k) ≤ 999 := fun d t k h1 h2 => (pyO_le hR hw (hlt k h2).1 h1).1
  have hVok := gmV_ok (br := fun d t k => brO T R w false d t (lt k)) (sd := sdO R lt) hpy (fun d t k => (afO_le (T := T) (R := R) (w := w) (dg := false) (d := d) (t := t) (l := lt k)).1)
  have hsg : ∀ who p : Nat, p ≤ 999 → -999 ≤ sgZ who p ∧ sgZ who p ≤ 999 := by
    intro who p hp
    unfold sgZ
    split <;> omega
  have hv9 : ∀ k, k < n → -(999 * ((f + 1 : Nat) : Int)) ≤ GVo T hl R w n lt f (d + 1) (done ||| 2 ^ k) (afO T R w false d t (lt k)) (1 - who) + sgZ who (pyO T hl R w false d t (lt k)) ∧ GVo T hl R w n lt f (d + 1) (done ||| 2 ^ k) (afO T R w false d t (lt k)) (1 - who) + sgZ who (pyO T hl R w false d t (lt k)) ≤ 999 * ((f + 1 : Nat) : Int) := by
    intro k hk
    have h1 : -(999 * (f : Int)) ≤ GVo T hl R w n lt f (d + 1) (done ||| 2 ^ k) (afO T R w false d t (lt k)) (1 - who) ∧ GVo T hl R w n lt f (d + 1) (done ||| 2 ^ k) (afO T R w false d t (lt k)) (1 - who) ≤ 999 * (f : Int) := hVok f (d + 1) (done ||| 2 ^ k) (afO T R w false d t (lt k)) (1 - who) afO_le.1
    have h2 := hsg who _ (hpy d t k ht hk)
    omega
  have hPok : ∀ j, j ≤ n → ∀ q, P j = some q → (-(999 * ((f + 1 : Nat) : Int)) ≤ q.1 ∧ q.1 ≤ 999 * ((f + 1 : Nat) : Int)) ∧ q.2 < j := by
    rw [hP]
    exact fun j hj => gmF_ok hv9 j hj
  intro r
  induction r with
  | zero =>
    intro j N G1 a2 a3 hj hN hf hrow hjn hLV
    have e : j = n := by omega
    subst e
    obtain ⟨N1, rfl⟩ : ∃ N1, N = N1 + 1 := ⟨N - 1, by omega⟩
    rw [xloop_s]
    refine gp_out (hf.ms hX.1) hn (by omega) ((hf.I rfl).trans hML.1) (mv := some who) (fun x hx => by cases hx; exact hwho) hLV.1 hjn (Or.inr rfl) ?_
    refine hE N1 _ a2 a3 (by omega) (hf.wI (by unfold WGn; simp)) ?_ ?_ ?_
    · rw [stI_up, hpI_stA_ne (by decide)]; exact hrow
    · rw [stI_up, hpI_stA_ne (by decide)]; exact hLV.2.2.1
    · rw [stI_up, hpI_stA_ne (by decide)]; exact hLV.2.2.2.1
  | succ r ih =>
    intro j N G1 a2 a3 hj hN hf hrow hjn hLV
    obtain ⟨N1, rfl⟩ : ∃ N1, N = N1 + 1 := ⟨N - 1, by omega⟩
    have hj1 : j < n := by omega
    have hmul : (r + 1) * (1 + coG n f) = r * (1 + coG n f) + (1 + coG n f) := Nat.succ_mul _ _
    have hX1 : MX G1 S T hl := ⟨hf.ms hX.1, (hf.I rfl).trans hX.2.1, hrow, hX.2.2.2⟩
    have hML1 : MLt G1 n lt := ⟨(hf.I rfl).trans hML.1, fun k hk => (hf.I rfl).trans (hML.2 k hk)⟩
    have hPs : P (j + 1) = if !done.testBit j && (!brO T R w false d t (lt j) && decide (sdO R lt j = who)) then updG who (P j) (GVo T hl R w n lt f (d + 1) (done ||| 2 ^ j) (afO T R w false d t (lt j)) (1 - who) + sgZ who (pyO T hl R w false d t (lt j))) j else P j := by
      rw [hP]
      rfl
    rw [xloop_s]
    refine gp_in hk0 hX1 hO hR (by omega) hw hn (by omega) ht hML1 hlt hinj hwho hjn hj1 hLV ?_ ?_
    · intro hq G2 b2 b3 hf2 hrow2 hLV2
      rw [if_neg (by rw [hq]; exact Bool.false_ne_true)] at hPs
      refine ih (j + 1) N1 G2 b2 b3 (by omega) (by omega) (hf.trans hf2) hrow2 (by rw [hLV2.2.1]; exact nI_add j 1) ?_
      rw [hPs]
      exact ⟨hLV2.1, rfl, hLV2.2.2.1, hLV2.2.2.2.1, hLV2.2.2.2.2⟩
    · intro q1 q2 q3 G2 b2 b3 hf2 hLV2 hX2 hLV3 hu3
      rw [if_pos (by rw [q1, q2, q3]; simp)] at hPs
      have hO' := hO.step0 (T := T) (hl := hl) hR (by omega) hw (hlt j hj1).1 ht
      rw [← rdB_or hj1] at hO'
      have hpop' : popN (done ||| 2 ^ j) n = d + 1 := by rw [pop_or q1 hj1, hpop]
      have hf12 := hf.trans hf2
      have hML2 : MLt G2 n lt := ⟨(hf12.I rfl).trans hML.1, fun k hk => (hf12.I rfl).trans (hML.2 k hk)⟩
      have h9 := hsg who _ (hpy d t j ht hj1)
      have hg' : -(999 * ((d + 1 : Nat) : Int)) ≤ g + sgZ who (pyO T hl R w false d t (lt j)) ∧ g + sgZ who (pyO T hl R w false d t (lt j)) ≤ 999 * ((d + 1 : Nat) : Int) := by omega
      obtain ⟨S', hS'⟩ : ∃ S', S' = rdR T S w (lt j) none (lafF T hl (hdF S w (lt j) none)) := ⟨_, rfl⟩
      rw [← hS'] at hO' hX2 hu3
      have hHi : Hi S S' := by rw [hS']; exact Hi.re (by omega) (by have := (hlt j hj1).1; omega) (fun k hk => by cases hk)
      refine hch (d + 1) (done ||| 2 ^ j) (afO T R w false d t (lt j)) _ (1 - who) _ S' G2 N1 (r * (1 + coG n f) + 1 + X) Q b2 b3 (by omega) hpop' afO_le.1 (by omega) hg' hO' hX2 hML2 hu3 hLV3 (by omega) ?_
      intro N' G4 c2 c3 hN' hf4 hrow4 hbe4 hbb4
      have hLV4 : LV G4 d (nI who) (nI j) (bgI FA FB who g (P j)) (bbI (P j)) (zI g) := hLV2.fr hf4 (fun a ha => WGn_5 ha (by omega))
      have hun4 : ∀ i, i < 136 → hpI G4 75 (136 * (16 + d) + i) = S (5 + i) := fun i hi => (hf4.I (WGn_u (by omega))).trans ((hf12.I (WGn_u (by omega))).trans (hun i hi))
      have hM4 := hf4.ms hX2.1
      obtain ⟨x, hx⟩ : ∃ x, x = GVo T hl R w n lt f (d + 1) (done ||| 2 ^ j) (afO T R w false d t (lt j)) (1 - who) + sgZ who (pyO T hl R w false d t (lt j)) := ⟨_, rfl⟩
      have hx9 := hv9 j hj1
      rw [← hx] at hx9 hPs
      have hvx : hpI G4 98 (d + 1) = zI (g + x) := by
        rw [hbe4, hx]
        congr 1
        omega
      have hup := upd_we (j := j) hFA hFB (who := who) (g := g) (x := x) (P := P j) (by omega) (fun q hq => by have := (hPok j (by omega) q hq).1; omega) rfl
      refine gp_up hM4 (show d < 8 by omega) hwho hrow4 hHi hun4 hLV4 hvx rfl ?_
      intro G5 hf5 hrow5 hLV5
      rw [hup.1, hup.2, ← hPs] at hLV5
      exact ih (j + 1) N' G5 c2 c3 (by omega) hN' (hf12.trans ((hf4.mono WGn_s).trans hf5)) hrow5 (by rw [hLV5.2.1]; exact nI_add j 1) ⟨hLV5.1, rfl, hLV5.2.2.1, hLV5.2.2.2.1, hLV5.2.2.2.2⟩
theorem g_node {FA FB : Int32} (hk0 : k_Mdl_openLevel_0 = (xAld 0 (xGetR 11 50 (xIld 1 (xAld 0 (xIld 2 (xCallV 11 1 D_Mdl_moverAt (xIasth (xAld 0 (xGetR 11 51 (xIld 1 (xI (-1) (xIasth (xAld 0 (xGetR 11 52 (xIld 1 (xAld 0 (xGetR 11 50 (xIld 1 (xIaldh (xI (-1) (xicmp_ne (xAld 0 (xGetR 11 50 (xIld 1 (xIaldh (xif_ne (xI FA k_Mdl_openLevel_55) (xI FB k_Mdl_openLevel_55)))))) (xIld 3 k_Mdl_openLevel_55))))))))))))))))))))))) (hFA : FA = zI 100000000) (hFB : FB = zI (-100000000)) {T : Nat → (Nat → Int64) → Option Int64} {hl : Bool} {R : Nat → Int32} {w n : Nat} {lt : Nat → Nat} {nr nl c : Nat} (hR : RW R nr nl c) (hc : c ≤ 400000) (hw : w < nr) (hn : n ≤ 8) (hlt : ∀ k, k < n → lt k < nl ∧ R (60 + 7 * lt k) = nI w ∧ R (62 + 7 * lt k) = 0) (hinj : ∀ j k, j < n → k < n → lt j = lt k → j = k) : ∀ f, GSp FA FB T hl R w n lt nr nl c f := by
  intro f
  induction f with
  | zero =>
    intro d done t o turn g S G N X Q a2 a3 h1 h2 h3 h4 h5 h6 h7 h8 h9 h10 h11 h12
    have hcm : ∀ x, cmO T R w n lt d done t x = false := fun x => cm_pop n (by omega)
    have hmv : mvN (cmO T R w n lt d done t) turn = none := by
      unfold mvN
      rw [hcm, hcm]
      rfl
    exact g_none hn (by omega) hmv rfl rfl h7 h8 h10 h11 h12
  | succ f ih =>
    intro d done t o turn g S G N X Q a2 a3 h1 h2 h3 h4 h5 h6 h7 h8 h9 h10 h11 h12
    have hMs : ∀ x, (GMo T hl R w n lt f d done t x).isSome = cmO T R w n lt d done t x := fun x => cm_gm n
    have hVs : GVo T hl R w n lt (f + 1) d done t turn = gvZ (GMo T hl R w n lt f d done t turn) (GMo T hl R w n lt f d done t (1 - turn)) := gmV_s
    cases hmv : mvN (cmO T R w n lt d done t) turn with
    | none =>
      have := mv_none hMs hmv
      refine g_none (f := f + 1) (hl := hl) hn (by omega) hmv (by rw [hVs]; exact this.1) this.2 h7 h8 h10 (by rw [coG] at h11; omega) h12
    | some who =>
      obtain ⟨q, q1, q2, q3⟩ := mv_some hMs hmv
      have hwho := mv_lt h4 who hmv
      rw [hmv] at h10
      refine g_mid hk0 hFA hFB hR hc hw hn hlt hinj ih h1 h2 h3 hwho h5 h6 h7 h8 h9 (P := _) rfl ?_ n 0 N G a2 a3 (by omega) (by rw [coG] at h11; omega) Fr.refl h7.2.2.1 (by rw [h10.2.1]; decide) ?_
      · intro N' G' b2 b3 z1 z2 z3 z4 z5
        refine h12 N' G' b2 b3 z1 z2 z3 ?_ ?_
        · rw [z4, hVs, q2]
          show bgI FA FB who g (GMo T hl R w n lt f d done t who) = zI (g + q.1)
          rw [q1]
          rfl
        · rw [z5]
          show bbI (GMo T hl R w n lt f d done t who) = gbI _ _
          rw [q3, q1]
          rfl
      · exact ⟨h10.1, rfl, h10.2.2.1, h10.2.2.2.1, h10.2.2.2.2⟩
/-- what a game writes in the model -/
def WGq : Nat → Nat → Bool := fun a k => WR a k || (a == 75 && decide (2176 ≤ k)) || a == 96 || a == 97 || a == 98 || a == 99 || a == 100
def WGo : Nat → Nat → Bool := fun a k => WGq a k || a == 93 || (a == 70 && (k == 0 || k == 47))
theorem WGq_WGo (a k : Nat) (h : WGo a k = false) : WGq a k = false := by
  unfold WGo at h
  simp only [Bool.or_eq_false_iff] at h
  exact h.1.1
theorem WGn_WGq (a k : Nat) (h : WGq a k = false) : WGn 0 a k = false := by
  unfold WGq at h
  unfold WGn
  simp only [Bool.or_eq_false_iff, Bool.and_eq_false_iff, decide_eq_false_iff_not] at h ⊢
  obtain ⟨⟨⟨⟨⟨⟨h1, h2⟩, h3⟩, h4⟩, h5⟩, h6⟩, h7⟩ := h
  refine ⟨⟨h1, ?_⟩, Or.inl ⟨⟨⟨⟨h3, h4⟩, h5⟩, h6⟩, h7⟩⟩
  rcases h2 with h2 | h2
  · exact Or.inl h2
  · exact Or.inr (by omega)
theorem WOp_WGq (a k : Nat) (h : WGq a k = false) : WOp 0 a k = false := by
  unfold WGq at h
  unfold WOp
  simp only [Bool.or_eq_false_iff, Bool.and_eq_false_iff, decide_eq_false_iff_not] at h ⊢
  obtain ⟨⟨⟨⟨⟨⟨h1, h2⟩, h3⟩, h4⟩, h5⟩, h6⟩, h7⟩ := h
  refine ⟨⟨WR_WH h1, ?_⟩, Or.inl ⟨⟨⟨⟨h3, h4⟩, h5⟩, h6⟩, h7⟩⟩
  rcases h2 with h2 | h2
  · exact Or.inl h2
  · exact Or.inr (Or.inl (by omega))
theorem s_play {FA FB : Int32} (hk0 : k_Mdl_openLevel_0 = (xAld 0 (xGetR 11 50 (xIld 1 (xAld 0 (xIld 2 (xCallV 11 1 D_Mdl_moverAt (xIasth (xAld 0 (xGetR 11 51 (xIld 1 (xI (-1) (xIasth (xAld 0 (xGetR 11 52 (xIld 1 (xAld 0 (xGetR 11 50 (xIld 1 (xIaldh (xI (-1) (xicmp_ne (xAld 0 (xGetR 11 50 (xIld 1 (xIaldh (xif_ne (xI FA k_Mdl_openLevel_55) (xI FB k_Mdl_openLevel_55)))))) (xIld 3 k_Mdl_openLevel_55))))))))))))))))))))))) (hFA : FA = zI 100000000) (hFB : FB = zI (-100000000)) {G : XH} {T : Nat → (Nat → Int64) → Option Int64} {hl : Bool} {R : Nat → Int32} {w n t : Nat} {lt : Nat → Nat} {nr nl c : Nat} (hX : MX G R T hl) (hML : MLt G n lt) (hR : RW R nr nl c) (hc : c ≤ 400000) (hw : w < nr) (hn : n ≤ 8) (hlt : ∀ k, k < n → lt k < nl ∧ R (60 + 7 * lt k) = nI w ∧ R (62 + 7 * lt k) = 0) (hinj : ∀ j k, j < n → k < n → lt j = lt k → j = k) (ht : t ≤ 999) (h11 : R (11 + 6 * w) = nI t) : SP D_Mdl_play [.ref 70] G (fun q => q.1 = none ∧ Fr WGq G q.2 ∧ hpI q.2 72 = R ∧ hpI q.2 98 0 = zI (GVo T hl R w n lt n 0 0 t 0) ∧ hpI q.2 99 0 = gbI (GMo T hl R w n lt (n - 1) 0 0 t 0) (GMo T hl R w n lt (n - 1) 0 0 t 1)) := by
  have hM := hX.1
  have hO : OSt R R w false nr nl c 0 t 0 (rdB n 0 lt) := by
    rw [rdB_0]
    exact OSt.zero hR h11
  have hop := s_openLevel hk0 hX hO hR (by omega) hw (by omega) hML hlt hinj (turn := 0) (by omega) (show 0 < 9 by omega) (zI 0)
  rw [e_Mdl_play]
  simp only [k_Mdl_play_0, w_iadd, w_isub, w_imul, w_iand, w_ior, w_ixor, w_ishl, w_ishr, w_iushr, w_idiv, w_irem, w_ineg, w_ladd, w_lsub, w_lmul, w_ldiv, w_lrem, w_i2l, w_l2i, w_i2c, w_lcmp, w_dup_int, w_pop_int, w_dup_ref, w_pop_ref, w_dup_retAddr, w_pop_retAddr, w_dup2, w_I, w_L, w_Null, w_Ild, w_Lld, w_Ald, w_Ist, w_Lst, w_Ast, w_Iinc, w_if_eq, w_icmp_eq, w_if_ne, w_icmp_ne, w_if_lt, w_icmp_lt, w_if_ge, w_icmp_ge, w_if_gt, w_icmp_gt, w_if_le, w_icmp_le, w_GetI, w_GetL, w_GetR, w_PutI, w_PutZ, w_PutL, w_PutR, w_PutN, w_Iald, w_Zald, w_Lald, w_Aald, w_Iast, w_Zast, w_Last, w_AastR, w_AastN, w_Alen, w_New, w_NewA, w_Mna, w_Iret, w_Zret, w_Cret, w_Bret, w_Lret, w_AretR, w_AretN, w_Vret, w_Obj, w_IfNN, w_IfNR, w_Copy, w_Cln, w_Cast, w_SfA, w_SfI, w_SfQ, w_Str, w_ScLd, w_ScLen, w_CV0, w_CS0, w_CV1, w_CS1, w_CV2, w_CS2, w_CV3, w_CS3, w_CV4, w_CS4, w_CV5, w_CS5, List.getElem?_cons_zero, List.getElem?_cons_succ, List.set_cons_zero, List.set_cons_succ, List.length_cons, List.length_nil, List.map_cons, List.map_nil, List.sum_cons, List.sum_nil, List.nil_append, List.cons_append, Option.toList_some, Option.toList_none, Value.category, xok, va_rf, true_and, and_true, and_self, Nat.reduceAdd, Nat.reduceLT, Nat.reduceLeDiff, Nat.reduceEqDiff, Nat.reduceMul, beq_self_eq_true, decide_true, ite_true, ite_false, if_true, if_false, reduceIte, Bool.true_eq_false, Bool.false_eq_true, eq_self_iff_true, Nat.zero_le, not_true_eq_false, not_false_eq_true, forall_const, false_implies, implies_true, forall_false, hM.all, ne10, ne10L, ne01, ne01L, tt_imp, nt_imp, ff_imp, nf_imp, true_and, and_true, true_or, or_true, reduceIte]
  refine SP.mono hop ?_
  rintro ⟨v, G1⟩ ⟨rfl, hf1, hLV1, hu1⟩
  dsimp only at hf1 hLV1 hu1
  simp only [Option.toList_none, List.nil_append]
  have hX1 : MX G1 R T hl := hX.fr hf1 (by unfold WOp WH; simp) (fun k => by unfold WOp WH; simp)
  have hML1 : MLt G1 n lt := ⟨(hf1.I (by unfold WOp WH; simp)).trans hML.1, fun k hk => (hf1.I (by unfold WOp WH; simp)).trans (hML.2 k hk)⟩
  have hco : coG n n < 40000000 := Nat.lt_of_le_of_lt (coG_le hn n) (coG_8 n (by omega))
  unfold k_Mdl_play_9
  refine g_node hk0 hFA hFB hR hc hw hn hlt hinj n 0 0 t 0 0 0 R G1 NF 1 _ none none (by omega) (pop_0 n) ht (by omega) (by omega) hO hX1 hML1 hu1 hLV1 (by unfold NF; omega) ?_
  intro N' G2 a2 a3 hN' hf2 hrow2 hbe2 hbb2
  obtain ⟨N1, rfl⟩ : ∃ N1, N' = N1 + 1 := ⟨N' - 1, by omega⟩
  rw [xloop_s]
  generalize xloop f_Mdl_play_9 N1 = K
  obtain ⟨B, hB⟩ : ∃ B : XK, f_Mdl_play_9 K = (xIld 1 (xif_lt (xVret ()) B)) := ⟨_, rfl⟩
  rw [hB]
  obtain ⟨dm, hdm⟩ : ∃ dm, dm = nI 0 + Int32.ofInt (-1) := ⟨_, rfl⟩
  have gl : (dm < 0) = True := eq_true (by rw [hdm]; decide)
  obtain ⟨C, hC⟩ : ∃ C : XK → XK, ∀ K, k_Mdl_play_46 K = (xIinc 1 (-1) (xIld 1 (xif_lt K (C K)))) := ⟨_, fun _ => rfl⟩
  rw [hC]
  simp only [w_iadd, w_isub, w_imul, w_iand, w_ior, w_ixor, w_ishl, w_ishr, w_iushr, w_idiv, w_irem, w_ineg, w_ladd, w_lsub, w_lmul, w_ldiv, w_lrem, w_i2l, w_l2i, w_i2c, w_lcmp, w_dup_int, w_pop_int, w_dup_ref, w_pop_ref, w_dup_retAddr, w_pop_retAddr, w_dup2, w_I, w_L, w_Null, w_Ild, w_Lld, w_Ald, w_Ist, w_Lst, w_Ast, w_Iinc, w_if_eq, w_icmp_eq, w_if_ne, w_icmp_ne, w_if_lt, w_icmp_lt, w_if_ge, w_icmp_ge, w_if_gt, w_icmp_gt, w_if_le, w_icmp_le, w_GetI, w_GetL, w_GetR, w_PutI, w_PutZ, w_PutL, w_PutR, w_PutN, w_Iald, w_Zald, w_Lald, w_Aald, w_Iast, w_Zast, w_Last, w_AastR, w_AastN, w_Alen, w_New, w_NewA, w_Mna, w_Iret, w_Zret, w_Cret, w_Bret, w_Lret, w_AretR, w_AretN, w_Vret, w_Obj, w_IfNN, w_IfNR, w_Copy, w_Cln, w_Cast, w_SfA, w_SfI, w_SfQ, w_Str, w_ScLd, w_ScLen, w_CV0, w_CS0, w_CV1, w_CS1, w_CV2, w_CS2, w_CV3, w_CS3, w_CV4, w_CS4, w_CV5, w_CS5, List.getElem?_cons_zero, List.getElem?_cons_succ, List.set_cons_zero, List.set_cons_succ, List.length_cons, List.length_nil, List.map_cons, List.map_nil, List.sum_cons, List.sum_nil, List.nil_append, List.cons_append, Option.toList_some, Option.toList_none, Value.category, xok, va_rf, true_and, and_true, and_self, Nat.reduceAdd, Nat.reduceLT, Nat.reduceLeDiff, Nat.reduceEqDiff, Nat.reduceMul, beq_self_eq_true, decide_true, ite_true, ite_false, if_true, if_false, reduceIte, Bool.true_eq_false, Bool.false_eq_true, eq_self_iff_true, Nat.zero_le, not_true_eq_false, not_false_eq_true, forall_const, false_implies, implies_true, forall_false, ← hdm, gl, ne10, ne10L, ne01, ne01L, tt_imp, nt_imp, ff_imp, nf_imp, true_and, and_true, true_or, or_true, reduceIte]
  refine ⟨(hf1.mono WOp_WGq).trans (hf2.mono WGn_WGq), hrow2, ?_, ?_⟩
  · rw [hbe2, Int.zero_add]
  · rw [hbb2]
    cases n with
    | zero => rfl
    | succ n => rfl
