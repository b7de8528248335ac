theorem cmB_app : ∀ {r t : List (Nat × Nat)}, LvA 5 r → cmB (r ++ t) = cmB t
  | [], _, _ => rfl
  | x :: r, t, h => by
    have h1 := h x (List.mem_cons_self ..)
    have h2 : x.1 ≤ 24 := by
      refine Decidable.byContradiction (fun z => ?_)
      have := h1.1
      unfold bnd at this
      rw [if_neg (by omega)] at this
      split at this
      · omega
      · split at this
        · omega
        · split at this
          · omega
          · rw [if_pos (by omega)] at this
            omega
    rw [List.cons_append, cmB, if_pos ⟨h1.2.1, h2⟩, cmB_app (fun y hy => h y (List.mem_cons_of_mem _ hy))]
theorem cmB_f {t : List (Nat × Nat)} (h : LvB 4 t) (ht : ∀ x, x ∈ t → 20 ≤ x.1 ∧ x.1 < 33) : cmB t = false := by
  cases t with
  | nil => rfl
  | cons x r =>
    have h1 := h x r rfl
    have h2 := ht x (List.mem_cons_self ..)
    have h3 : 28 ≤ x.1 := by
      refine Decidable.byContradiction (fun z => ?_)
      unfold bnd at h1
      rw [if_neg (by omega), if_neg (by omega), if_neg (by omega), if_neg (by omega)] at h1
      split at h1
      · omega
      · split at h1 <;> omega
    rw [cmB, if_neg (by omega), decide_eq_false (by omega)]
theorem MSp_cmp {b : Nat → Nat} {len : Nat} {od : Bool} {k : Nat} {sum : Nat → Nat → GR} {V : SF → Prop} (hs : MSp b len od 1 (tnP b len) 3 2 5 k false (Esm b len) sum) (hok : GOK len sum V) : MSp b len od 1 (tnP b len) 2 1 4 k true (fun _ => True) (gCmp b len sum) := by
  intro G J p c q t N turn Q h hB hT hk htn hNp hErr hOk
  have hp := h.1.2.2.2.2.2.2.2
  have l400 := h.1.2.1.1
  have hk0 := hok p c hp
  have hx := h.2.2.2.2.2.2.2.2.2.2.2.2.2.2
  have hcm : cmB t = false := cmB_f hB hx
  refine hs G J p c q t N turn Q h (fun x t' e => by have := hB x t' e; omega) (fun z => by cases z) hk htn hNp (fun e he => ?_) (fun s hsr => ?_)
  · exact hErr e (by unfold gCmp; rw [he])
  · rw [hsr] at hk0
    dsimp only at hk0
    intro N' G' J' q' r z1 z2 z3 z4 z5 z6 z7 z8 z9
    obtain ⟨N2, rfl⟩ : ∃ N2, N' = N2 + 1 := ⟨N' - 1, by omega⟩
    have hM' := z3.M
    have c19 : hpI G' 70 19 = 0 := z3.2.2.2.1
    have hin : ¬ inB (r ++ t) = nI 32 := by rw [inB_app z6]; exact hT rfl
    have hlo := stF_low r J' q' q q' z5 z7
    rw [xloop_s]
    refine rx_3 hM' c19 (SP.mono (s_bsCmp z3 (Esm_op z9) hin (by rw [cmB_app z6]; exact hcm) z6 (fun x t' e => by have := hB x t' e; omega)) ?_)
    rintro ⟨v2, G2⟩ ⟨rfl, fr2, hy⟩
    dsimp only at fr2 hy
    refine ⟨1, rfl, ?_⟩
    rcases hy with ⟨o, hco, h2⟩ | ⟨hco, h2⟩
    · obtain ⟨hpl, ho3⟩ := cmpO_lt hco
      have npl := (nxB_le (b := b) (len := len) (p := s.1)).2 hpl
      have hb4 : bnd (o + 18) = 4 := by rcases ho3 with rfl | rfl | rfl <;> rfl
      have hk2 := hok (nxB b len s.1) s.2.1 nxB_le.1
      refine hs G2 _ (nxB b len s.1) s.2.1 _ ((o + 18, 0) :: t) N2 1 Q h2 (fun x t' e => by cases e; show bnd (o + 18) < 5; omega) (fun z => by cases z) (by rw [nBr, if_neg (by show ¬ 31 ≤ o + 18; omega), Nat.zero_add]; exact hk) (Or.inl rfl) (by omega) ?_ ?_
      · intro e he N3 G3 turn3 y1 y2 y3
        exact hErr e (by unfold gCmp; rw [hsr]; dsimp only; rw [hco]; dsimp only; rw [he]) N3 G3 turn3 y1 (z2.trans (fr2.trans y2)) y3
      · intro s' hs' N3 G3 J3 q3 r3 y1 y2 y3 y4 y5 y6 y7 y8 y9
        rw [hs'] at hk2
        dsimp only at hk2
        obtain ⟨N4, rfl⟩ : ∃ N4, N3 = N4 + 1 := ⟨N3 - 1, by omega⟩
        have hM3 := y3.M
        have d19 : hpI G3 70 19 = 0 := y3.2.2.2.1
        have hin3 : ¬ inB (r3 ++ (o + 18, 0) :: t) = nI 32 := by
          rw [inB_app y6, inB, if_neg (by show ¬ 31 ≤ o + 18; omega)]
          exact hT rfl
        have hcm3 : cmB (r3 ++ (o + 18, 0) :: t) = true := by
          rw [cmB_app y6, cmB, if_neg (by show ¬ (20 ≤ o + 18 ∧ o + 18 ≤ 24); omega)]
          exact decide_eq_true (show 25 ≤ o + 18 ∧ o + 18 ≤ 27 by omega)
        have ee : gCmp b len sum p c = .ok (s'.1, s'.2.1, fbin o s.2.2 s'.2.2) := by unfold gCmp; rw [hsr]; dsimp only; rw [hco]; dsimp only; rw [hs']
        rw [xloop_s]
        refine rx_3 hM3 d19 (s_bsTold y3 (Esm_op y9) hin3 hcm3 _ ⟨2, rfl, ?_⟩)
        refine hOk _ ee N4 G3 J3 q3 (r3 ++ [(o + 18, 0)]) (by show 1210 + 1 ≤ N4 + 3 * s'.1; omega) (z2.trans (fr2.trans y2)) (by rw [List.append_assoc]; exact y3) (fun j hj => by rw [y4 j (by omega), hlo.1 j hj]; exact z4 j hj) (by omega) ((y6.le (by omega)).app (fun x hx' => ?_)) ((y7.le (by omega) (Nat.le_refl _)).app (JAt.no (fun x hx' => ?_))) ?_ trivial
        · rw [List.mem_singleton.mp hx']
          exact ⟨by show 4 ≤ bnd (o + 18); omega, by show 20 ≤ o + 18; omega, by show o + 18 < 31; omega⟩
        · rw [List.mem_singleton.mp hx']
          show ¬ (o + 18 = 29 ∨ o + 18 = 30)
          omega
        · have := Pnd.bin (o := o + 18) z8 y8 y4 y7 y5 (by omega)
          rw [show s.2.1 - c + (s'.2.1 - s.2.1) = s'.2.1 - c by omega, Nat.add_sub_cancel] at this
          exact this
    · exact hErr s.1 (by unfold gCmp; rw [hsr]; dsimp only; rw [hco]) N2 G2 1 (by omega) (z2.trans fr2) ⟨_, _, _, _, h2⟩
def parB : Nat → Bool
  | 0 => false
  | m + 1 => !parB m
theorem Pnd_nots {nw : Nat} {od : Bool} {J : Nat → Nat × Nat} {p q h1 : Nat} {f : SF} {r : List (Nat × Nat)} (hg : Pnd nw od r J p q h1 f) : ∀ m, Pnd nw od (r ++ List.replicate m (28, 0)) J p q h1 (if parB m then fnot f else f)
  | 0 => by rw [List.replicate_zero, List.append_nil]; exact hg
  | m + 1 => by
    have := (Pnd_nots hg m).nt
    rw [List.append_assoc, ← List.replicate_succ'] at this
    rw [parB]
    cases hb : parB m with
    | true =>
      rw [hb] at this
      simp only [if_true, fnn] at this
      exact this
    | false =>
      rw [hb] at this
      exact this
theorem rep_Lv {m : Nat} : LvA 3 (List.replicate m (28, 0)) := fun x hx => by
  rw [List.eq_of_mem_replicate hx]
  exact ⟨by decide, by decide, by decide⟩
theorem rep_JA {p q m : Nat} : JAt p q (List.replicate m (28, 0)) := JAt.no (fun x hx => by rw [List.eq_of_mem_replicate hx]; decide)
theorem rep_LvB {lev m : Nat} {t : List (Nat × Nat)} (h : LvB 3 t) (hl : 4 ≤ lev) : LvB lev (List.replicate m (28, 0) ++ t) := by
  intro x t' e
  cases m with
  | zero =>
    rw [List.replicate_zero, List.nil_append] at e
    have := h x t' e
    omega
  | succ m =>
    rw [List.replicate_succ, List.cons_append] at e
    injection e with e1 e2
    rw [← e1]
    show 3 < lev
    omega
theorem MSp_plain {b : Nat → Nat} {len : Nat} {od : Bool} {k : Nat} {sum : Nat → Nat → GR} {gt : Option (Nat → Nat → GR)} {E : Nat → Prop} (hE : ∀ p, E p → isW b len wAnd p = false ∧ isW b len wOr p = false) (hcm : MSp b len od 1 (tnP b len) 2 1 4 k true (fun _ => True) (gCmp b len sum)) (hg : ∀ g, gt = some g → ∃ k', k = k' + 1 ∧ MSp b len od 1 (fun turn _ => turn = 0) 2 1 1 k' true E g ∧ GOK len g VT) (hN : gt = none → k = 0) : MSp b len od 1 (fun turn _ => turn = 0) 2 1 3 k true (fun _ => True) (gPlain b len gt sum) := by
  intro G J p c q t N turn Q h hB hT hk htn hNp hErr hOk
  have hp := h.1.2.2.2.2.2.2.2
  have l400 := h.1.2.1.1
  have hin : ∀ m, inB (List.replicate m (28, 0) ++ t) = inB t := fun m => inB_app rep_Lv
  have hnb : ∀ m, nBr (List.replicate m (28, 0) ++ t) = nBr t := fun m => by rw [nBr_app, nBr_0 rep_Lv, Nat.zero_add]
  have hloop : ∀ (n p1 m : Nat) (tb : Bool) (N' : Nat) (G' : XH), len ≤ p1 + n → tb = parB m → MST G' false b len od p1 c J q (List.replicate m (28, 0) ++ t) → Fr WMx G G' → 1210 ≤ N' + 3 * p1 → (∀ e, gAtom b len gt sum (ntF b len n p1 tb).1 c = .error e → ERm b len od 1 G e Q) → (∀ s, gAtom b len gt sum (ntF b len n p1 tb).1 c = .ok s → OKk b len od 1 2 1 3 (fun _ => True) G J q c t (s.1, s.2.1, if (ntF b len n p1 tb).2 then fnot s.2.2 else s.2.2) Q) → WP (xloop f_Mdl_readExpression_20 N') [some (.ref 70), some (.int 1), some (.int 0)] [] G' Q := by
    intro n
    have hatom : ∀ (p1 m : Nat) (N' : Nat) (G' : XH), isW b len wNot p1 = false → MST G' false b len od p1 c J q (List.replicate m (28, 0) ++ t) → Fr WMx G G' → 1210 ≤ N' + 3 * p1 → (∀ e, gAtom b len gt sum p1 c = .error e → ERm b len od 1 G e Q) → (∀ s, gAtom b len gt sum p1 c = .ok s → OKk b len od 1 2 1 3 (fun _ => True) G J q c t (s.1, s.2.1, if parB m then fnot s.2.2 else s.2.2) Q) → WP (xloop f_Mdl_readExpression_20 N') [some (.ref 70), some (.int 1), some (.int 0)] [] G' Q := by
      intro p1 m N' G' hnot hm fr hN' he ho
      have hp1 := hm.1.2.2.2.2.2.2.2
      cases q40 : isS b len 40 p1 with
      | false =>
        have eg : gAtom b len gt sum p1 c = gCmp b len sum p1 c := by unfold gAtom; rw [if_neg (by rw [q40]; exact Bool.false_ne_true)]
        rw [eg] at he ho
        refine hcm G' J p1 c q _ N' 0 Q hm (rep_LvB hB (by omega)) (fun _ => by rw [hin m]; exact hT rfl) (by rw [hnb m]; exact hk) (Or.inr ⟨rfl, hnot, q40⟩) hN' ?_ ?_
        · intro e hee N3 G3 turn3 y1 y2 y3
          exact he e hee N3 G3 turn3 y1 (fr.trans y2) y3
        · intro s hs N3 G3 J3 q3 r3 y1 y2 y3 y4 y5 y6 y7 y8 y9
          exact ho s hs N3 G3 J3 q3 (r3 ++ List.replicate m (28, 0)) y1 (fr.trans y2) (by rw [List.append_assoc]; exact y3) y4 y5 ((y6.le (by omega)).app rep_Lv) (y7.app rep_JA) (Pnd_nots y8 m) trivial
      | true =>
        have hpl := isS_lt q40
        have npl := (nxB_le (b := b) (len := len) (p := p1)).2 hpl
        obtain ⟨N2, rfl⟩ : ∃ N2, N' = N2 + 1 := ⟨N' - 1, by omega⟩
        have hM' := hm.M
        have c19 : hpI G' 70 19 = 0 := hm.2.2.2.1
        rw [xloop_s]
        refine rx_0 hM' c19 (SP.mono (s_plRd hm hnot q40) ?_)
        rintro ⟨v2, G2⟩ ⟨rfl, fr2, hy⟩
        dsimp only at fr2 hy
        refine ⟨0, rfl, ?_⟩
        rw [hnb m] at hy
        rcases hy with ⟨q8, h2⟩ | ⟨q8, h2⟩
        · cases hgt : gt with
          | none => have := hN hgt; omega
          | some g =>
            obtain ⟨k', ek, hsp, hok⟩ := hg g hgt
            have hk1 := hok (nxB b len p1) c nxB_le.1
            refine hsp G2 J (nxB b len p1) c q ((31, 0) :: (List.replicate m (28, 0) ++ t)) N2 0 Q h2 (fun x t' e => by cases e; decide) (fun _ => by rw [inB, if_pos (by decide)]; decide) (by rw [nBr, if_pos (by decide), hnb m]; omega) rfl (by omega) ?_ ?_
            · intro e hee N3 G3 turn3 y1 y2 y3
              exact he e (by unfold gAtom; rw [if_pos q40, hgt]; dsimp only; rw [hee]) N3 G3 turn3 y1 (fr.trans (fr2.trans y2)) y3
            · intro s hs N3 G3 J3 q3 r3 y1 y2 y3 y4 y5 y6 y7 y8 y9
              rw [hs] at hk1
              dsimp only at hk1
              obtain ⟨N4, rfl⟩ : ∃ N4, N3 = N4 + 1 := ⟨N3 - 1, by omega⟩
              have hM3 := y3.M
              have d19 : hpI G3 70 19 = 0 := y3.2.2.2.1
              have hE' := hE _ y9
              rw [xloop_s]
              refine rx_2 hM3 d19 (SP.mono (s_btRd y3 hE'.1 hE'.2 y6) ?_)
              rintro ⟨v4, G4⟩ ⟨rfl, fr4, hw⟩
              dsimp only at fr4 hw
              refine ⟨2, rfl, ?_⟩
              rcases hw with ⟨q41, h4⟩ | ⟨q41, h4⟩
              · have ee : gAtom b len gt sum p1 c = .ok (nxB b len s.1, s.2.1, s.2.2) := by unfold gAtom; rw [if_pos q40, hgt]; dsimp only; rw [hs]; dsimp only; rw [if_pos q41]
                have n3 := (nxB_le (b := b) (len := len) (p := s.1)).2 (isS_lt q41)
                have hlo := stF_low r3 J3 q3 q q3 y5 y7
                refine ho _ ee N4 G4 _ _ (List.replicate m (28, 0)) (by show 1210 + 1 ≤ N4 + 3 * nxB b len s.1; omega) (fr.trans (fr2.trans (y2.trans fr4))) h4 (fun j hj => by rw [hlo.1 j hj]; exact y4 j hj) (by omega) rep_Lv rep_JA ?_ trivial
                have hz : Pnd (if od then 21 else 10) od [] (stF r3 (J3, q3)).1 q (stF r3 (J3, q3)).2 (s.2.1 - c) s.2.2 := y8
                have := Pnd_nots hz m
                rw [List.nil_append] at this
                exact this
              · exact he s.1 (by unfold gAtom; rw [if_pos q40, hgt]; dsimp only; rw [hs]; dsimp only; rw [if_neg (by rw [q41]; exact Bool.false_ne_true)]) N4 G4 2 (by omega) (fr.trans (fr2.trans (y2.trans fr4))) ⟨_, _, _, _, h4⟩
        · have egt : gt = none := by
            cases hgt : gt with
            | none => rfl
            | some g => obtain ⟨k', ek, _⟩ := hg g hgt; omega
          exact he p1 (by unfold gAtom; rw [if_pos q40, egt]) N2 G2 0 (by omega) (fr.trans fr2) ⟨_, _, _, _, h2⟩
    induction n with
    | zero =>
      intro p1 m tb N' G' hn htb hm fr hN' he ho
      have hnot : isW b len wNot p1 = false := Bool.eq_false_iff.mpr (fun z => by have := isW_lt z; omega)
      refine hatom p1 m N' G' hnot hm fr hN' he (fun s hs => ?_)
      rw [← htb]
      exact ho s hs
    | succ n ih =>
      intro p1 m tb N' G' hn htb hm fr hN' he ho
      rw [ntF] at he ho
      cases hnot : isW b len wNot p1 with
      | false =>
        rw [hnot, if_neg Bool.false_ne_true] at he ho
        refine hatom p1 m N' G' hnot hm fr hN' he (fun s hs => ?_)
        rw [← htb]
        exact ho s hs
      | true =>
        rw [hnot, if_pos rfl] at he ho
        have hpl : p1 < len := isW_lt hnot
        have npl := (nxB_le (b := b) (len := len) (p := p1)).2 hpl
        obtain ⟨N2, rfl⟩ : ∃ N2, N' = N2 + 1 := ⟨N' - 1, by omega⟩
        have hM' := hm.M
        have c19 : hpI G' 70 19 = 0 := hm.2.2.2.1
        rw [xloop_s]
        refine rx_0 hM' c19 (SP.mono (s_plNot hm hnot) ?_)
        rintro ⟨v2, G2⟩ ⟨rfl, fr2, h2⟩
        dsimp only at fr2 h2
        refine ⟨0, rfl, ?_⟩
        exact ih (nxB b len p1) (m + 1) (!tb) N2 G2 (by omega) (by rw [parB, htb]) (by rw [List.replicate_succ, List.cons_append]; exact h2) (fr.trans fr2) (by omega) he ho
  subst htn
  refine hloop 400 p 0 false N G (by omega) rfl (by rw [List.replicate_zero, List.nil_append]; exact h) Fr.refl hNp ?_ ?_
  · intro e he
    exact hErr e (by unfold gPlain; rw [he])
  · intro s hs
    exact hOk _ (by unfold gPlain; rw [hs])
theorem MSp_jmp {b : Nat → Nat} {len : Nat} {od : Bool} {k lev o w : Nat} {E1 : Nat → Prop} {ops : Nat → Option Nat} {sub : Nat → Nat → GR} {V : SF → Prop} (ho : (o = 29 ∧ lev = 2 ∧ w = 12) ∨ (o = 30 ∧ lev = 1 ∧ w = 11)) (hops : ∀ p x, ops p = some x → x = w ∧ ((o = 29 ∧ lev = 2 ∧ isW b len wAnd p = true) ∨ (o = 30 ∧ lev = 1 ∧ isW b len wOr p = true))) (hsub : MSp b len od 1 (fun turn _ => turn = 0) 2 1 (lev + 1) k true E1 sub) (hok : GOK len sub V) : MSp b len od 1 (fun turn _ => turn = 0) 2 1 lev k true (fun p => E1 p ∧ ops p = none) (gSeq b len ops sub) := by
  intro G J p c q t N turn Q h hB hT hk htn hNp hErr hOk
  have hp := h.1.2.2.2.2.2.2.2
  have l400 := h.1.2.1.1
  have hk0 := hok p c hp
  have hbo : bnd o = lev := by rcases ho with ⟨rfl, rfl, _⟩ | ⟨rfl, rfl, _⟩ <;> rfl
  have ho3 : o = 29 ∨ o = 30 := by omega
  have hw : (if o = 29 then 12 else 11) = w := by rcases ho with ⟨rfl, _, rfl⟩ | ⟨rfl, _, rfl⟩ <;> rfl
  refine hsub G J p c q t N turn Q h (fun x t' e => by have := hB x t' e; omega) hT hk htn hNp (fun e he => hErr e (gSeq_e he)) (fun s hs => ?_)
  rw [hs] at hk0
  dsimp only at hk0
  rw [gSeq_s hs] at hErr hOk
  have hloop : ∀ (n p1 c1 : Nat) (f : SF) (N' : Nat) (G' : XH) (J' : Nat → Nat × Nat) (q' : Nat) (r : List (Nat × Nat)), len ≤ p1 + n → (∀ e, gRep b len ops sub n p1 c1 f = .error e → ERm b len od 1 G e Q) → (∀ s, gRep b len ops sub n p1 c1 f = .ok s → OKk b len od 1 2 1 lev (fun p => E1 p ∧ ops p = none) G J q c t s Q) → 1211 ≤ N' + 3 * p1 → c < c1 → Fr WMx G G' → MST G' false b len od p1 c1 J' q' (r ++ t) → (∀ j, j < q → J' j = J j) → q ≤ q' → LvA lev r → JAt q q' r → Pnd (if od then 21 else 10) od r J' q q' (c1 - c) f → E1 p1 → WP (xloop f_Mdl_readExpression_20 N') [some (.ref 70), some (.int 1), some (.int 2)] [] G' Q := by
    intro n
    induction n with
    | zero =>
      intro p1 c1 f N' G' J' q' r hn he hoo hN' hc fr hm hlow hq hA hJ hP hE
      have hno : ops p1 = none := by
        cases hx : ops p1 with
        | none => rfl
        | some x =>
          rcases (hops p1 x hx).2 with ⟨_, _, z⟩ | ⟨_, _, z⟩
          · have : p1 < len := isW_lt z
            omega
          · have : p1 < len := isW_lt z
            omega
      exact hoo (p1, c1, f) rfl N' G' J' q' r hN' fr hm hlow hq hA hJ hP ⟨hE, hno⟩
    | succ n ih =>
      intro p1 c1 f N' G' J' q' r hn he hoo hN' hc fr hm hlow hq hA hJ hP hE
      cases hx : ops p1 with
      | none => exact hoo (p1, c1, f) (gRep_n hx) N' G' J' q' r hN' fr hm hlow hq hA hJ hP ⟨hE, hx⟩
      | some x =>
        obtain ⟨rfl, hop⟩ := hops p1 x hx
        have hpl : p1 < len := by
          rcases hop with ⟨_, _, z⟩ | ⟨_, _, z⟩
          · exact isW_lt z
          · exact isW_lt z
        have npl := (nxB_le (b := b) (len := len) (p := p1)).2 hpl
        obtain ⟨N2, rfl⟩ : ∃ N2, N' = N2 + 1 := ⟨N' - 1, by omega⟩
        have hM' := hm.M
        have c19 : hpI G' 70 19 = 0 := hm.2.2.2.1
        have hlo := stF_low r J' q' q q' hq hJ
        rw [xloop_s]
        refine rx_2 hM' c19 (SP.mono (s_btOp hm hop hA hB) ?_)
        rintro ⟨v2, G2⟩ ⟨rfl, fr2, h2⟩
        dsimp only at fr2 h2
        refine ⟨0, rfl, ?_⟩
        have hk2 := hok (nxB b len p1) c1 nxB_le.1
        refine hsub G2 _ (nxB b len p1) c1 _ _ N2 0 Q h2 (fun x t' e => by cases e; show bnd o < lev + 1; omega) (fun _ => by rw [inB, if_neg (by show ¬ 31 ≤ o; omega)]; exact hT rfl) (by rw [nBr, if_neg (by show ¬ 31 ≤ o; omega), Nat.zero_add]; exact hk) rfl (by omega) ?_ ?_
        · intro e hs' N3 G3 turn3 z1 z2 z3
          exact he e (gRep_e hx hs') N3 G3 turn3 z1 (fr.trans (fr2.trans z2)) z3
        · intro s' hs' N3 G3 J3 q3 r3 z1 z2 z3 z4 z5 z6 z7 z8 z9
          rw [hs'] at hk2
          dsimp only at hk2
          rw [gRep_s hx hs'] at he hoo
          have hrm := z3.2.2.2.2.2.2.2.2.2.2.1
          have hp3 := z3.1.2.2.2.2.2.2.2
          rw [List.length_append] at hrm
          have hl3 := stF_low r3 J3 q3 ((stF r (J', q')).2 + 1) q3 z5 z7
          refine ih s'.1 s'.2.1 _ N3 G3 J3 q3 (r3 ++ [(o, (stF r (J', q')).2)]) (by omega) he hoo (by omega) (by omega) (fr.trans (fr2.trans z2)) (by rw [List.append_assoc]; exact z3) (fun j hj => by rw [z4 j (by omega), upJ_ne (by omega), hlo.1 j hj]; exact hlow j hj) (by omega) ((z6.le (by omega)).app (fun x hx' => ?_)) ((z7.le (by omega) (Nat.le_refl _)).app (fun x hx' _ => ?_)) ?_ z9
          · rw [List.mem_singleton.mp hx']
            exact ⟨by show lev ≤ bnd o; omega, by show 20 ≤ o; omega, by show o < 31; omega⟩
          · rw [List.mem_singleton.mp hx']
            exact ⟨by show q ≤ (stF r (J', q')).2; omega, by show (stF r (J', q')).2 < q3; omega⟩
          · have := Pnd.jmp (o := o) hP z8 z4 z7 z5 ho3 (by omega)
            rw [show c1 - c + (s'.2.1 - c1) = s'.2.1 - c by omega, hw] at this
            exact this
  intro N' G' J' q' r z1 z2 z3 z4 z5 z6 z7 z8 z9
  exact hloop 400 s.1 s.2.1 s.2.2 N' G' J' q' r (by omega) hErr hOk z1 (by omega) z2 z3 z4 z5 (z6.le (by omega)) z7 z8 z9
/-- where a test ends -/
def Ets (b : Nat → Nat) (len p : Nat) : Prop := (True ∧ andO b len p = none) ∧ orO b len p = none
theorem Ets_w {b : Nat → Nat} {len p : Nat} (h : Ets b len p) : isW b len wAnd p = false ∧ isW b len wOr p = false := by
  obtain ⟨⟨_, h1⟩, h2⟩ := h
  unfold andO at h1
  unfold orO at h2
  split at h1
  · cases h1
  · next z1 =>
    split at h2
    · cases h2
    · next z2 => exact ⟨Bool.eq_false_iff.mpr z1, Bool.eq_false_iff.mpr z2⟩
theorem or_ops {b : Nat → Nat} {len : Nat} : ∀ p x, orO b len p = some x → x = 11 ∧ ((30 = 29 ∧ 1 = 2 ∧ isW b len wAnd p = true) ∨ (30 = 30 ∧ 1 = 1 ∧ isW b len wOr p = true)) := by
  intro p x h
  unfold orO at h
  split at h
  · next z => cases h; exact ⟨rfl, Or.inr ⟨rfl, rfl, z⟩⟩
  · cases h
theorem and_ops {b : Nat → Nat} {len : Nat} : ∀ p x, andO b len p = some x → x = 12 ∧ ((29 = 29 ∧ 2 = 2 ∧ isW b len wAnd p = true) ∨ (29 = 30 ∧ 2 = 1 ∧ isW b len wOr p = true)) := by
  intro p x h
  unfold andO at h
  split at h
  · next z => cases h; exact ⟨rfl, Or.inl ⟨rfl, rfl, z⟩⟩
  · cases h
theorem MSp_test {b : Nat → Nat} {len : Nat} {od : Bool} : ∀ k, MSp b len od 1 (fun turn _ => turn = 0) 2 1 1 k true (Ets b len) (gTest b len od k)
  | 0 => MSp_jmp (o := 30) (Or.inr ⟨rfl, rfl, rfl⟩) or_ops (MSp_jmp (o := 29) (Or.inl ⟨rfl, rfl, rfl⟩) and_ops (MSp_plain (E := Ets b len) (fun p hp => Ets_w hp) (MSp_cmp (MSp_sum 0) (gSum_ok rfl 0)) (fun g hg => by cases hg) (fun _ => rfl)) (gPlain_ok (gSum_ok rfl 0) (fun g hg => by cases hg))) (gBoth_ok (gSum_ok rfl 0) (fun g hg => by cases hg))
  | k + 1 => MSp_jmp (o := 30) (Or.inr ⟨rfl, rfl, rfl⟩) or_ops (MSp_jmp (o := 29) (Or.inl ⟨rfl, rfl, rfl⟩) and_ops (MSp_plain (E := Ets b len) (fun p hp => Ets_w hp) (MSp_cmp (MSp_sum (k + 1)) (gSum_ok rfl (k + 1))) (fun g hg => by cases hg; exact ⟨k, rfl, MSp_test k, gTest_ok k⟩) (fun hg => by cases hg)) (gPlain_ok (gSum_ok rfl (k + 1)) (fun g hg => by cases hg; exact gTest_ok k))) (gBoth_ok (gSum_ok rfl (k + 1)) (fun g hg => by cases hg; exact gTest_ok k))
