/-- the heap at a node of depth d -/
def NH (G : XH) (S : Nat → Int32) (T : Nat → (Nat → Int64) → Option Int64) (hl : Bool) (n d : Nat) (lt pre : Nat → Nat) : Prop := MX G S T hl ∧ MLt G n lt ∧ (∀ i, i < 136 → hpI G 75 (136 * (16 + d) + i) = S (5 + i)) ∧ ∀ i, i < d → hpI G 94 i = nI (pre i)
def NPa (G : XH) (S Sp : Nat → Int32) (d : Nat) : Prop := (d = 0 ∧ Sp = S) ∨ (0 < d ∧ Hi Sp S ∧ ∀ i, i < 136 → hpI G 75 (136 * (15 + d) + i) = Sp (5 + i))
theorem WNo_u {d i : Nat} (h : i < 136 * (17 + d)) : WNo d 75 i = false := by
  unfold WNo WR WH
  simp
  omega
theorem WNo_o {d i : Nat} (h : i < d) : WNo d 94 i = false := by
  unfold WNo WR WH
  simp
  omega
theorem NH.fr {G G' : XH} {S : Nat → Int32} {T : Nat → (Nat → Int64) → Option Int64} {hl : Bool} {n d : Nat} {lt pre : Nat → Nat} (h : NH G S T hl n d lt pre) (hf : Fr (WNo d) G G') (hrow : hpI G' 72 = S) : NH G' S T hl n d lt pre := ⟨⟨hf.ms h.1.1, (hf.I rfl).trans h.1.2.1, hrow, h.1.2.2.2⟩, ⟨(hf.I rfl).trans h.2.1.1, fun k hk => (hf.I rfl).trans (h.2.1.2 k hk)⟩, fun i hi => (hf.I (WNo_u (by omega))).trans (h.2.2.1 i hi), fun i hi => (hf.I (WNo_o hi)).trans (h.2.2.2 i hi)⟩
theorem NPa.fr {G G' : XH} {S Sp : Nat → Int32} {d : Nat} (h : NPa G S Sp d) (hf : Fr (WNo d) G G') : NPa G' S Sp d := by
  rcases h with h | ⟨h1, h2, h3⟩
  · exact Or.inl h
  · exact Or.inr ⟨h1, h2, fun i hi => (hf.I (WNo_u (by omega))).trans (h3 i hi)⟩
/-- behind a node -/
def NE (M : Nat → Nat → Nat → Nat → Option (Nat × Nat)) (af : Nat → Nat → Nat → Nat) (Sp : Nat → Int32) (n f d done t o : Nat) (pre : Nat → Nat) (m : Option Nat) (G G' : XH) : Prop := Fr (WNo d) G G' ∧ hpI G' 72 = Sp ∧ ∀ i, i < n → hpI G' 95 i = if beB m o (M f d done t) then nI (paE M af f d done t pre i) else hpI G 95 i
/-- what a node of f levels does -/
def NSp (T : Nat → (Nat → Int64) → Option Int64) (hl : Bool) (R : Nat → Int32) (w n : Nat) (lt : Nat → Nat) (nr nl c : Nat) (M : Nat → Nat → Nat → Nat → Option (Nat × Nat)) (af : Nat → Nat → Nat → Nat) (f : Nat) : Prop := ∀ (d done t o : Nat) (pre : Nat → Nat) (S Sp : Nat → Int32) (m : Option Nat) (G : XH) (N X : Nat) (Q : XR → Prop) (a4 a5 : Option Value), d + f = n → t ≤ 999 → o ≤ 999 * d → (∀ v, m = some v → v ≤ 8000) → OSt R S w true nr nl c d t o (rdB n done lt) → NH G S T hl n d lt pre → NPa G S Sp d → hpI G 94 d = -1 → coN n f + X ≤ N → (∀ N' G' a4 a5, X ≤ N' → NE M af Sp n f d done t o pre m G G' → WP (xloop f_Mdl_findOrder_34 N') [some (.ref 70), some (.int (R 8)), some (.int (moI (buN m o (M f d done t)))), some (.int (nI d + Int32.ofInt (-1))), a4, a5] [] G' Q) → WP (xloop f_Mdl_findOrder_34 N) [some (.ref 70), some (.int (R 8)), some (.int (moI m)), some (.int (nI d)), a4, a5] [] G Q
theorem xloop_s {F : XK → XK} {n : Nat} : xloop F (n + 1) = F (xloop F n) := rfl
theorem bu_le {m : Option Nat} {o : Nat} {P : Option (Nat × Nat)} {B : Nat} (hm : ∀ v, m = some v → v ≤ B) (hP : ∀ q, P = some q → o + q.1 ≤ B) : ∀ v, buN m o P = some v → v ≤ B := by
  intro v hv
  cases P with
  | none => exact hm v hv
  | some q =>
    unfold buN at hv
    dsimp only at hv
    split at hv
    · cases hv
      exact hP q rfl
    · exact hm v hv
theorem o_mid {T : Nat → (Nat → Int64) → Option Int64} {hl : Bool} {R : Nat → Int32} {w n : Nat} {lt : Nat → Nat} {nr nl c : Nat} {M : Nat → Nat → Nat → Nat → Option (Nat × Nat)} {af : Nat → Nat → Nat → Nat} (hMM : M = MPo T hl R w n lt) (haf : af = fun d t k => afO T R w true d t (lt k)) (hR : RW R nr nl c) (hc : c ≤ 400000) (hw : w < nr) (hn : n ≤ 8) (hlt : ∀ k, k < n → lt k < nl ∧ R (60 + 7 * lt k) = nI w ∧ R (62 + 7 * lt k) = 0) (hinj : ∀ j k, j < n → k < n → lt j = lt k → j = k) {f : Nat} (hch : f = 0 ∨ NSp T hl R w n lt nr nl c M af f) {d done t o : Nat} {pre : Nat → Nat} {S Sp : Nat → Int32} {m : Option Nat} {G : XH} {X : Nat} {Q : XR → Prop} (hd : d + (f + 1) = n) (ht : t ≤ 999) (ho : o ≤ 999 * d) (hm : ∀ v, m = some v → v ≤ 8000) (hO : OSt R S w true nr nl c d t o (rdB n done lt)) (hNH : NH G S T hl n d lt pre) (hNP : NPa G S Sp d) (hE : ∀ N' G' a4 a5, X ≤ N' → NE M af Sp n (f + 1) d done t o pre m G G' → WP (xloop f_Mdl_findOrder_34 N') [some (.ref 70), some (.int (R 8)), some (.int (moI (buN m o (M (f + 1) d done t)))), some (.int (nI d + Int32.ofInt (-1))), a4, a5] [] G' Q) {P : Nat → Option (Nat × Nat)} (hP : P = mpF done (fun k => brO T R w true d t (lt k)) (fun k => (M f (d + 1) (done ||| 2 ^ k) (af d t k)).map (fun q => pyO T hl R w true d t (lt k) + q.1))) : ∀ r j N G1 a4 a5, j + r = n → r * (1 + coN n f) + 1 + X ≤ N → Fr (WNo d) G G1 → hpI G1 72 = S → hpI G1 94 d + 1 = nI j → (∀ i, i < n → hpI G1 95 i = if beB m o (P j) then nI (paN M af f d done t pre (P j) i) else hpI G 95 i) → WP (xloop f_Mdl_findOrder_34 N) [some (.ref 70), some (.int (R 8)), some (.int (moI (buN m o (P j)))), some (.int (nI d)), a4, a5] [] G1 Q := by
  have nl12 := hR.2.2.2.1
  have nr8 := hR.2.1
  have hpy : ∀ d t k, t ≤ 999 → k < n → pyO T hl R w true d t (lt k) ≤ 999 := fun d t k h1 h2 => (pyO_le hR hw (hlt k h2).1 h1).1
  have hok : ∀ f d done t, t ≤ 999 → ∀ q, M f d done t = some q → q.1 ≤ 999 * f ∧ q.2 < 8 := by rw [hMM]; exact mpN_ok hn hpy (fun d t k => afO_le.1)
  have haf9 : ∀ d t k, af d t k ≤ 999 := by rw [haf]; exact fun d t k => afO_le.1
  have hPn : P n = M (f + 1) d done t := by rw [hP, hMM, haf]; rfl
  have hPle : ∀ j, j ≤ n → ∀ q, P j = some q → o + q.1 ≤ 8000 := by
    intro j hj q hq
    rw [hP] at hq
    obtain ⟨z1, z2, z3, z4⟩ := mpF_some j q hq
    cases hc1 : M f (d + 1) (done ||| 2 ^ q.2) (af d t q.2) with
    | none =>
      rw [hc1] at z4
      cases z4
    | some x =>
      rw [hc1] at z4
      have z5 : pyO T hl R w true d t (lt q.2) + x.1 = q.1 := Option.some.inj z4
      have z6 := (hok f (d + 1) _ _ (haf9 d t q.2) x hc1).1
      have z7 := hpy d t q.2 ht (by omega)
      omega
  have hmj : ∀ j, j ≤ n → ∀ v, buN m o (P j) = some v → v ≤ 8000 := fun j hj => bu_le hm (hPle j hj)
  intro r
  induction r with
  | zero =>
    intro j N G1 a4 a5 hj hN hf hrow hor hbo
    have e : j = n := by omega
    subst e
    obtain ⟨N1, rfl⟩ : ∃ N1, N = N1 + 1 := ⟨N - 1, by omega⟩
    rw [xloop_s]
    have hN1 := hNH.fr hf hrow
    refine fo_out hN1.1.1 hn (by omega) hN1.2.1.1 hrow hor (hNP.fr hf) ?_
    rw [hPn]
    have hf2 : Fr (WNo d) G (stA (stI G1 94 d (nI j)) 72 Sp) := (hf.wI (by unfold WNo; simp)).wA (fun k q => absurd q (by unfold WNo WR; simp))
    refine hE N1 _ a4 a5 (by omega) ⟨hf2, by rw [hpI_stA], fun i hi => ?_⟩
    rw [hpI_stA_ne (by decide), stI_up, hpI_stA_ne (by decide), hbo i hi, hPn, pa_end]
  | succ r ih =>
    intro j N G1 a4 a5 hj hN hf hrow hor hbo
    obtain ⟨N1, rfl⟩ : ∃ N1, N = N1 + 1 := ⟨N - 1, by omega⟩
    rw [xloop_s]
    have hN1 := hNH.fr hf hrow
    have hjn : j < n := by omega
    obtain ⟨l1, l2, l3⟩ := hlt j hjn
    have hmul : (r + 1) * (1 + coN n f) = r * (1 + coN n f) + (1 + coN n f) := Nat.succ_mul _ _
    have hrd := rdB_at (done := done) hinj hjn
    refine fo_in hN1.1 hO hR (by omega) hw hn (by omega) hN1.2.1 hor hjn l1 l2 l3 ?_ ?_
    · intro hcl G2 hf2 hrow2 hor2 hb2
      have hPs : P (j + 1) = P j := by
        rw [hP, mpF, if_pos]
        rw [hrd] at hcl
        rcases hcl with h | h
        · rw [h]
          rfl
        · rw [h]
          exact Bool.or_true _
      rw [← hPs]
      refine ih (j + 1) N1 G2 a4 a5 (by omega) (by omega) (hf.trans hf2) hrow2 ?_ (fun i hi => ?_)
      · rw [hor2]
        exact nI_1 j
      · rw [hb2, hbo i hi, hPs]
    · intro hrf hbr G2 hf2 hrow2 hor2 hb2
      rw [hrd] at hrf
      obtain ⟨S', hS'⟩ : ∃ S', S' = gdF T (rdR T S w (lt j) none (lafF T hl (hdF S w (lt j) none))) nr := ⟨_, rfl⟩
      rw [← hS'] at hrow2
      have hO' : OSt R S' w true nr nl c (d + 1) (af d t j) (o + pyO T hl R w true d t (lt j)) (rdB n (done ||| 2 ^ j) lt) := by
        rw [hS', haf, rdB_or hjn]
        exact hO.step1 hR (by omega) hw (by omega) l1 ht
      have hPs : P (j + 1) = updO (P j) ((M f (d + 1) (done ||| 2 ^ j) (af d t j)).map (fun q => pyO T hl R w true d t (lt j) + q.1)) j := by
        rw [hP, mpF, if_neg]
        rw [hrf, hbr]
        decide
      have hHi : Hi S S' := by
        rw [hS']
        exact (Hi.re (by omega) (by omega) (fun k hk => by cases hk)).trans (Hi.gd hR.2.1)
      obtain ⟨c1, c2, c3⟩ := bu_comb (m := m) (o := o) (py := pyO T hl R w true d t (lt j)) (j := j) (P := P j) (P' := M f (d + 1) (done ||| 2 ^ j) (af d t j))
      rw [← hPs] at c1 c2 c3
      have hf12 := hf.trans hf2
      have hM2 := hf2.ms hN1.1.1
      have hML2 : MLt G2 n lt := ⟨(hf2.I rfl).trans hN1.2.1.1, fun k hk => (hf2.I rfl).trans (hN1.2.1.2 k hk)⟩
      have hun2 : ∀ i, i < 136 → hpI G2 75 (136 * (16 + d) + i) = S (5 + i) := fun i hi => (hf2.I (WNo_u (by omega))).trans (hN1.2.2.1 i hi)
      have hor' : ∀ i, i < d → hpI G2 94 i = nI (pre i) := fun i hi => (hf2.I (WNo_o hi)).trans (hN1.2.2.2 i hi)
      have hp9 := hpy d t j ht hjn
      have hpre : ∀ i, i < d + 1 → hpI G2 94 i = nI (if i = d then j else pre i) := by
        intro i hi
        by_cases e : i = d
        · rw [if_pos e, e]
          exact hor2
        · rw [if_neg e]
          exact hor' i (by omega)
      have hnext : ∀ N2 G3 b4 b5, r * (1 + coN n f) + 1 + X ≤ N2 → Fr (WNo d) G G3 → hpI G3 72 = S → hpI G3 94 d = nI j → (∀ i, i < n → hpI G3 95 i = if beB (buN m o (P j)) (o + pyO T hl R w true d t (lt j)) (M f (d + 1) (done ||| 2 ^ j) (af d t j)) then nI (paE M af f (d + 1) (done ||| 2 ^ j) (af d t j) (fun i => if i = d then j else pre i) i) else hpI G2 95 i) → WP (xloop f_Mdl_findOrder_34 N2) [some (.ref 70), some (.int (R 8)), some (.int (moI (buN (buN m o (P j)) (o + pyO T hl R w true d t (lt j)) (M f (d + 1) (done ||| 2 ^ j) (af d t j))))), some (.int (nI d)), b4, b5] [] G3 Q := by
        intro N2 G3 b4 b5 x1 x2 x3 x4 x5
        rw [c1]
        refine ih (j + 1) N2 G3 b4 b5 (by omega) x1 x2 x3 (by rw [x4]; exact nI_1 j) (fun i hi => ?_)
        rw [x5 i hi]
        cases hb : beB (buN m o (P j)) (o + pyO T hl R w true d t (lt j)) (M f (d + 1) (done ||| 2 ^ j) (af d t j)) with
        | true =>
          obtain ⟨y1, y2⟩ := c2 hb
          rw [y1, if_pos rfl, if_pos rfl, pa_new y2]
        | false =>
          obtain ⟨y1, y2⟩ := c3 hb
          rw [if_neg (by decide), hb2, hbo i hi, y1]
          cases hb3 : beB m o (P j) with
          | true => rw [y2 hb3]
          | false => rfl
      rcases hch with h0 | hch
      · subst h0
        have hM0 : M 0 (d + 1) (done ||| 2 ^ j) (af d t j) = some (0, 0) := by rw [hMM]; rfl
        rw [hM0] at hnext
        refine fo_leaf (R := R) hM2 hn (by omega) hML2.1 hrow2 hHi hun2 hO'.h8 (by omega) (fun v hv => by have := hmj j (by omega) v hv; omega) (fun b4 b5 g hg => ?_)
        refine hnext N1 _ b4 b5 (by omega) ((hf12.wA (fun k q => absurd q (by unfold WNo; simp))).wA (fun k q => absurd q (by unfold WNo WR; simp))) (by rw [hpI_stA]) (by rw [hpI_stA_ne (by decide), hpI_stA_ne (by decide)]; exact hor2) (fun i hi => ?_)
        rw [hpI_stA_ne (by decide), hpI_stA, hg i hi]
        cases beB (buN m o (P j)) (o + pyO T hl R w true d t (lt j)) (some (0, 0)) with
        | true =>
          rw [if_pos rfl, if_pos rfl, hpre i (by omega)]
          unfold paE
          rw [if_pos (show i < d + 1 by omega)]
        | false => rfl
      · by_cases hf0 : f = 0
        · subst hf0
          have hM0 : M 0 (d + 1) (done ||| 2 ^ j) (af d t j) = some (0, 0) := by rw [hMM]; rfl
          rw [hM0] at hnext
          refine fo_leaf (R := R) hM2 hn (by omega) hML2.1 hrow2 hHi hun2 hO'.h8 (by omega) (fun v hv => by have := hmj j (by omega) v hv; omega) (fun b4 b5 g hg => ?_)
          refine hnext N1 _ b4 b5 (by omega) ((hf12.wA (fun k q => absurd q (by unfold WNo; simp))).wA (fun k q => absurd q (by unfold WNo WR; simp))) (by rw [hpI_stA]) (by rw [hpI_stA_ne (by decide), hpI_stA_ne (by decide)]; exact hor2) (fun i hi => ?_)
          rw [hpI_stA_ne (by decide), hpI_stA, hg i hi]
          cases beB (buN m o (P j)) (o + pyO T hl R w true d t (lt j)) (some (0, 0)) with
          | true =>
            rw [if_pos rfl, if_pos rfl, hpre i (by omega)]
            unfold paE
            rw [if_pos (show i < d + 1 by omega)]
          | false => rfl
        · refine fo_down hM2 hn (by omega) hML2.1 hrow2 ?_
          obtain ⟨G3, hG3⟩ : ∃ G3, G3 = stI (stA G2 75 (va_cpy S' (hpI G2 75) 5 (136 * (16 + (d + 1))) 136)) 94 (d + 1) (-1) := ⟨_, rfl⟩
          rw [← hG3]
          have i3 : ∀ a, ¬ a = 75 → ¬ a = 94 → hpI G3 a = hpI G2 a := by
            intro a q1 q2
            rw [hG3, stI_up, hpI_stA_ne q2, hpI_stA_ne q1]
          have hf3 : Fr (WNo d) G2 G3 := by
            rw [hG3]
            refine (Fr.refl.wA (fun k q => ?_)).wI (by unfold WNo; simp)
            refine cpy_out (fun z => ?_)
            unfold WNo at q
            simp only [Bool.or_eq_false_iff, beq_self_eq_true, Bool.true_and, decide_eq_false_iff_not] at q
            omega
          have o3 : hpI G3 94 = up (hpI G2 94) (d + 1) (-1) := by
            rw [hG3, stI_up, hpI_stA, hpI_stA_ne (by decide)]
          have u3 : hpI G3 75 = va_cpy S' (hpI G2 75) 5 (136 * (16 + (d + 1))) 136 := by
            rw [hG3, stI_up, hpI_stA_ne (by decide), hpI_stA]
          have hNH3 : NH G3 S' T hl n (d + 1) lt (fun i => if i = d then j else pre i) := by
            refine ⟨⟨hf3.ms hM2, (hf3.I rfl).trans ((hf2.I rfl).trans hN1.1.2.1), (i3 _ (by decide) (by decide)).trans hrow2, hN1.1.2.2.2.1.same hHi.sl, hN1.1.2.2.2.2⟩, ⟨(hf3.I rfl).trans hML2.1, fun k hk => (hf3.I rfl).trans (hML2.2 k hk)⟩, fun i hi => ?_, fun i hi => ?_⟩
            · rw [u3, cpy_in (by omega)]
              exact congrArg S' (by omega)
            · rw [o3, up_ne (by omega)]
              exact hpre i hi
          have hNP3 : NPa G3 S' S (d + 1) := Or.inr ⟨by omega, hHi, fun i hi => by
            rw [u3, cpy_out (by omega), show 136 * (15 + (d + 1)) + i = 136 * (16 + d) + i by omega]
            exact hun2 i hi⟩
          refine hch (d + 1) (done ||| 2 ^ j) (af d t j) (o + pyO T hl R w true d t (lt j)) (fun i => if i = d then j else pre i) S' S (buN m o (P j)) G3 N1 (r * (1 + coN n f) + 1 + X) Q a4 a5 (by omega) (haf9 d t j) (by omega) (hmj j (by omega)) hO' hNH3 hNP3 (by rw [o3, up_eq]) (by omega) ?_
          rintro N' G4 b4 b5 hN' ⟨e1, e2, e3⟩
          rw [nI_m1]
          refine hnext N' G4 b4 b5 hN' (hf12.trans (hf3.trans (e1.mono WNo_s))) e2 ?_ (fun i hi => ?_)
          · rw [e1.I (WNo_o (by omega)), o3, up_ne (by omega)]
            exact hor2
          · rw [e3 i hi, i3 _ (by decide) (by decide)]
