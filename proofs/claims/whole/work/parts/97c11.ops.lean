/-- rows that no reader, letter or term has -/
def Eqx (R R' : Nat → Int32) : Prop := ∀ j, j < 5 ∨ 141 ≤ j → R' j = R j
theorem Eqx.refl {R : Nat → Int32} : Eqx R R := fun _ _ => rfl
theorem Eqx.up {R R' : Nat → Int32} (h : Eqx R R') {k : Nat} {v : Int32} (hk : 5 ≤ k ∧ k < 141) : Eqx R (up R' k v) := fun j hj => by rw [up_ne (by omega)]; exact h j hj
theorem Eqx.rd {T : Nat → (Nat → Int64) → Option Int64} {R : Nat → Int32} {w one : Nat} {o : Option Nat} {lg : Bool} (hw : w < 8) (h1 : one < 12) (h2 : ∀ k, o = some k → k < 12) : Eqx R (rdR T R w one o lg) := by
  have hA : Eqx R (rdA T R w one o lg) := ((((Eqx.refl.up (by omega)).up (by omega)).up (by omega)).up (by omega)).up (by omega)
  cases o with
  | none => exact (hA.up (by omega)).up (by omega)
  | some k =>
    have := h2 k rfl
    exact (((hA.up (by omega)).up (by omega)).up (by omega)).up (by omega)
theorem Eqx.gl {T : Nat → (Nat → Int64) → Option Int64} {R : Nat → Int32} : ∀ n, n ≤ 8 → Eqx R (gdL T R n)
  | 0, _ => Eqx.refl
  | n + 1, h => (Eqx.gl n (by omega)).up (by omega)
theorem Eqx.gd {T : Nat → (Nat → Int64) → Option Int64} {R : Nat → Int32} {nr : Nat} (h : nr ≤ 8) : Eqx R (gdF T R nr) := (Eqx.gl nr h).up (by omega)
theorem Eqx.on {R : Nat → Int32} {l r : Nat} (h : l < 12) : Eqx R (onF R l r) := (((Eqx.refl.up (by omega)).up (by omega)).up (by omega)).up (by omega)
theorem VWd.eqx {Wd : WDt} {nr nl n m : Nat} {A B : Nat → Nat} {c c' : Nat} (h : VWd Wd nr nl n m A B c) (hc : c ≤ c') {R' : Nat → Int32} (h1 : RW R' nr nl c') (he : Eqx Wd.1 R') : VWd (R', Wd.2) nr nl n m A B c' := by
  have h' := h.mono hc
  exact h'.re h1 (h'.2.1.row (he 0 (by omega)) (fun j h2 h3 => he j (by omega))) (he 3 (by omega)) (by rw [he 4 (by omega)]; exact h'.2.2.2.2.2) (fun j hj => he j (by omega))
theorem WCB_Lo : Lo WCB := by
  intro a k h
  unfold WCB WC WA WW WU
  simp only [Bool.or_eq_false_iff, Bool.and_eq_false_iff, beq_eq_false_iff_ne, decide_eq_false_iff_not]
  omega
theorem WCB_LoC : LoC WCB := by
  intro a k h1 h2
  unfold WCB WC WA WW WU
  simp only [Bool.or_eq_false_iff, Bool.and_eq_false_iff, beq_eq_false_iff_ne, decide_eq_false_iff_not]
  omega
theorem WB_LoM : LoM WB := by
  intro a k h
  unfold WB WHM WM
  simp only [Bool.or_eq_false_iff, Bool.and_eq_false_iff, beq_eq_false_iff_ne]
  refine ⟨⟨⟨QM_WR.1 a k h, ?_⟩, ?_⟩, ?_⟩ <;> omega
/-- a call of the class that tells and sets the stand anew -/
theorem CPx.op {G : XH} {z : XR} {X : XDt} {R' : Nat → Int32} {v : Int32} (h : CPx G X) (hO : CO G v R' z) (he : Eqx X.1.1 R') (n12 : (X.1.1 0).toNatClampNeg ≤ 12) {U' : US} (hu : UCx z.2 U') : CPx z.2 (tlX (wX (uX X U') (R', X.1.2)) v) := by
  have h0 := h
  obtain ⟨o1, o2, hf, o4, o5⟩ := hO
  obtain ⟨_, b, c, d, ⟨e1, e2, e3, e4⟩, f, g, i⟩ := h
  obtain ⟨b1, b2, b3, b4, b5, b6, b7, b8⟩ := b
  have hcw : CWd z.2 1 (R', X.1.2) := by
    refine h0.2.1.re hf WCB_Lo o2 (fun j hj => ?_) (fun r hr => ?_) ?_ ?_ ?_ (he 3 (by omega))
    · rw [he 0 (by omega)] at hj
      rw [hf.IA 3 (fun _ => rfl), hf.IA 4 (fun _ => rfl), he _ (by omega), he _ (by omega)]
      exact b2 j hj
    · rw [hf.IA 5 (fun _ => rfl), he _ (by omega)]
      exact b3 r hr
    · rw [hf.I rfl, he 0 (by omega)]
      exact b4
    · rw [hf.I rfl, he 3 (by omega)]
      exact b5
    · rw [hf.I rfl, he 4 (by omega)]
      exact b6
  refine h0.mk hf WCB_Lo hcw hu (d.fc hf rfl (fun _ => rfl)) ⟨(hf.I rfl).trans e1, (hf.I rfl).trans e2, (hf.I rfl).trans e3, o4⟩ (fun j hj => ?_) (g.fc hf rfl (fun _ => rfl)) rfl
  rw [o5]
  show rfC (hpI G 69) v j = rfC X.2.2.2.2.1 v j
  unfold rfC
  split
  · unfold up
    rw [f _ ixC_lt]
    split
    · rfl
    · exact f j hj
  · exact f j hj
theorem MPx.op {G : XH} {z : XR} {X : XDt} {R' : Nat → Int32} {v : Int32} (h : MPx G X) (hO : MO G v R' z) (hv : tlV v) {U' : US} (hu : MUx z.2 R' U') : MPx z.2 (tlX (wX (uX X U') (R', X.1.2)) v) := by
  have h0 := h
  obtain ⟨o1, o2, hf, o4, o5⟩ := hO
  obtain ⟨⟨a1, a2, a3⟩, b, c, d, ⟨e1, e2, e3, e4⟩, f, g, i⟩ := h
  refine h0.mk hf (fun a k hk => by rcases hk with rfl | rfl | rfl <;> rfl) ((hf.I rfl).trans a3) o2 hu (d.fr hf rfl (fun k => rfl)) ⟨(hf.I rfl).trans e1, (hf.I rfl).trans e2, (hf.I rfl).trans e3, o4⟩ (fun j hj => ?_) (g.fr hf rfl (fun k => rfl)) (i.fr hf (fun k => rfl) (fun k => rfl))
  rw [o5]
  show rfM (hpI G 71) v (mIx j) = rfC X.2.2.2.2.1 v j
  unfold rfM rfC
  by_cases q : v < 0
  · rw [if_pos q, if_pos q, tlV_ix hv q]
    unfold up
    by_cases e : j = ixC v
    · rw [if_pos (by rw [e]), if_pos e, f _ ixC_lt]
    · rw [if_neg (fun z => e (mIx_inj z)), if_neg e]
      exact f j hj
  · rw [if_neg q, if_neg q]
    exact f j hj
theorem keepU_1 {U : US} {v : Int32} {R : Nat → Int32} : (keepU U v R).1 = if U.1 < 16 then U.1 + 1 else 16 := by
  unfold keepU
  split <;> rfl
/-- a call that keeps what it may undo, or is refused with -3 -/
theorem st_op {Dc Dm : XD} {av : List Value} {X : XDt} {c nr nl n m : Nat} {A B : Nat → Nat} (hV : VXd X nr nl n m A B c) (p : Prop) (v : Int32) (R' : Nat → Int32) (k : Int32) (hR' : RW R' nr nl (c + 1)) (he : Eqx X.1.1 R') (hk : k = 0 ∨ k = 1 ∨ k = 2) (hv : ¬ v < 0) (hc : ∀ G q, CPx G X → q < 16 → hpI G 8 3 = nI X.2.1.1 → hpI G 8 2 = nI q → SP Dc (.ref 0 :: av) G (fun r => (¬ p → CO G (-3) X.1.1 r ∧ UnC G r.2) ∧ (p → CO G v R' r ∧ UKc G r.2 X.2.1.1 q k))) (hm : ∀ G, MPx G X → SP Dm (.ref 70 :: av) G (fun r => (¬ p → MO G (-3) X.1.1 r ∧ UnS G r.2) ∧ (p → MO G v R' r ∧ UKm X.1.1 (hpI G 75) (hpI G 76) X.2.1.1 k (hpI r.2 70 8) (hpI r.2 75) (hpI r.2 76)))) : StX Dc Dm av X c := by
  have n12 := hV.n12
  have h16 := hV.2.1.1
  by_cases hp : p
  · refine ⟨v, tlX (wX (uX X (keepU X.2.1 k X.1.1)) (R', X.1.2)) v, ⟨nr, nl, n, m, A, B, ?_⟩, fun G hG => ?_, fun G hG => ?_⟩
    · have hV' := hV.mono (show c ≤ c + 300 by omega)
      exact ⟨hV.1.eqx (by omega) (hR'.mono (by omega)) he, hV.2.1.keep hV.1.1 hk (by omega), hV'.2.2⟩
    · obtain ⟨q, q1, q2, q3, q4⟩ := hG.2.2.1
      refine SP.mono (hc G q hG q1 q2 q3) ?_
      intro z hz
      obtain ⟨hO, k1, k2, k3, k4, k5⟩ := hz.2 hp
      have hf := hO.2.2.1
      refine ⟨hO.1, hG.op hO he n12 ⟨(q + 1) % 16, Nat.mod_lt _ (by omega), ?_, k4, q4.keep h16 q1 hG.2.1.1 k k2 k1 k3⟩, hf.mun WCB_LoC, by rw [hf.Z]; omega, by rw [hf.S]; omega⟩
      rw [k5, keepU_1]
    · refine SP.mono (hm G hG) ?_
      intro z hz
      obtain ⟨hO, hk'⟩ := hz.2 hp
      obtain ⟨m1, m2, _⟩ := hG.2.2.1.2.keep h16 hk' (he 1 (by omega)) (he 2 (by omega))
      exact ⟨hO.1, hG.op hO (Or.inl hv) ⟨m2, m1⟩, hO.2.2.1.cun WB_LoM⟩
  · refine ⟨-3, tlX X (-3), VXe.mono ⟨nr, nl, n, m, A, B, hV⟩ (by omega), fun G hG => ?_, fun G hG => ?_⟩
    · obtain ⟨q, q1, q2, q3, q4⟩ := hG.2.2.1
      refine SP.mono (hc G q hG q1 q2 q3) ?_
      intro z hz
      obtain ⟨hO, hu⟩ := hz.1 hp
      have hf := hO.2.2.1
      exact ⟨hO.1, hG.op hO Eqx.refl n12 (hG.2.2.1.unc hu), hf.mun WCB_LoC, by rw [hf.Z]; omega, by rw [hf.S]; omega⟩
    · refine SP.mono (hm G hG) ?_
      intro z hz
      obtain ⟨hO, u1, u2, u3⟩ := hz.1 hp
      exact ⟨hO.1, hG.op hO (by unfold tlV; decide) ⟨u1.trans hG.2.2.1.1, by rw [u2, u3]; exact hG.2.2.1.2⟩, hO.2.2.1.cun WB_LoM⟩
theorem st_pass {X : XDt} {c : Nat} (h : VXe X c) (hc : c ≤ 400000) : StX D_Post_pass D_Mdl_pass [] X c := by
  obtain ⟨nr, nl, n, m, A, B, hV⟩ := h
  have h16 := hV.2.1.1
  obtain ⟨d, d1, d2⟩ : In (X.1.1 5) 999 := hV.1.1.2.2.2.2.1
  have hg : RW (gdF (TW X.1) X.1.1 nr) nr nl c := hV.1.1.gd
  obtain ⟨g, g1, g2⟩ : In (gdF (TW X.1) X.1.1 nr 5) 999 := hg.2.2.2.2.1
  refine st_op hV (¬ d = 999) (gdF (TW X.1) X.1.1 nr 5) (gdF (TW X.1) X.1.1 nr) 2 (hg.mono (by omega)) (Eqx.gd hV.1.1.2.1) (Or.inr (Or.inr rfl)) (by rw [g2]; exact nn_nI (by omega)) (fun G q hG q1 q2 q3 => ?_) (fun G hG => ?_)
  · exact SP.mono (c_pass (hG.cx hV.1) hG.1.2.1 hV.1.1 (by omega) d1 d2 _ q h16 q1 q2 q3) (fun z hz => ⟨fun y => hz.1 (Decidable.not_not.mp y), hz.2⟩)
  · exact SP.mono (s_pass (hG.mx hV.1) hV.1.1 d1 d2 _ h16 hG.2.2.1.1) (fun z hz => ⟨fun y => hz.1 (Decidable.not_not.mp y), hz.2⟩)
theorem st_onward {X : XDt} {c : Nat} (h : VXe X c) (a b : Int32) : StX D_Post_onward D_Mdl_onward [.int a, .int b] X c := by
  have h0 := h
  obtain ⟨nr, nl, n, m, A, B, hV⟩ := h
  have h16 := hV.2.1.1
  have n8 := hV.1.1.2.1
  have n12 := hV.1.1.2.2.2.1
  by_cases q : (0 ≤ a ∧ a < nI nl) ∧ (0 ≤ b ∧ b < nI nr)
  · obtain ⟨l, l1, rfl⟩ := ex_nI (by omega) q.1
    obtain ⟨r, r1, rfl⟩ := ex_nI (by omega) q.2
    obtain ⟨g, g1, g2⟩ : In (onG (X.1.1 (57 + 7 * l))) 30 := onG_In (hV.1.1.2.2.2.2.2.2.2.2.2 l l1).1
    refine st_op hV (onOk X.1.1 l r) (onG (X.1.1 (57 + 7 * l))) (onF X.1.1 l r) 1 ((hV.1.1.on l1 r1).mono (by omega)) (Eqx.on (by omega)) (Or.inr (Or.inl rfl)) (by rw [g2]; exact nn_nI (by omega)) (fun G q hG q1 q2 q3 => ?_) (fun G hG => ?_)
    · exact c_onward (hG.cx hV.1) hG.1.2.1 hV.1.1 l1 r1 _ q h16 q1 q2 q3
    · exact s_onward (hG.mx hV.1) hV.1.1 l1 r1 _ h16 hG.2.2.1.1
  · exact st_ref h0 (v := -2) (i := 1) (by unfold tlV; decide) (by decide) (by decide) (fun G hG Q => c_onward_no hG.1.1 Q a b (c4 hG hV).1 (c4 hG hV).2 q) (fun G hG Q => s_onward_no hG.1.1 Q a b (s1 hG hV).1 (s1 hG hV).2 q)
theorem st_hand {X : XDt} {c : Nat} (h : VXe X c) (hc : c ≤ 400000) (a b : Int32) : StX D_Post_hand D_Mdl_hand [.int a, .int b] X c := by
  have h0 := h
  obtain ⟨nr, nl, n, m, A, B, hV⟩ := h
  have h16 := hV.2.1.1
  have n8 := hV.1.1.2.1
  have n12 := hV.1.1.2.2.2.1
  by_cases q : (0 ≤ a ∧ a < nI nl) ∧ (b = -1 ∨ (0 ≤ b ∧ b < nI nl))
  · obtain ⟨one, h1, rfl⟩ := ex_nI (by omega) q.1
    obtain ⟨o, rfl, h2⟩ := ex_o n12 q.2
    obtain ⟨w, w1, w2, hH⟩ := hV.1.1.hc (by omega) h1 h2
    obtain ⟨t1, t2⟩ := hV.1.1.tn w1
    have hg : In (ltS X.1.1 one o 0) 60 := hH.2.2.2.2.2
    have hp : ∀ k, o = some k → ¬ X.1.1 (57 + 7 * one + 2) + X.1.1 (57 + 7 * k + 2) ≤ 0 := fun k hk => by
      obtain ⟨y1, y2, y3⟩ := hV.1.1.wt h1
      obtain ⟨z1, z2, z3⟩ := hV.1.1.wt (h2 k hk)
      rw [show 57 + 7 * one + 2 = 59 + 7 * one by omega, show 57 + 7 * k + 2 = 59 + 7 * k by omega, y3, z3, nI_add]
      intro z
      have := (nI_leI (b := 0) (by omega) (by omega)).mp z
      omega
    obtain ⟨g, g1, g2⟩ : In (rdP (TW X.1) X.1.1 w one o (lafF (TW X.1) (lW X.1) (hdF X.1.1 w one o))) 999 := hV.1.1.wep w1 hg
    refine st_op hV (okF (TW X.1) X.1.1 A B n w (tnN X.1.1 w) one o = true) (rdP (TW X.1) X.1.1 w one o (lafF (TW X.1) (lW X.1) (hdF X.1.1 w one o))) (rdR (TW X.1) X.1.1 w one o (lafF (TW X.1) (lW X.1) (hdF X.1.1 w one o))) 0 (hV.1.1.rd w1 h1 h2 hg) (Eqx.rd (by omega) (by omega) (fun k hk => by have := h2 k hk; omega)) (Or.inl rfl) (by rw [g2]; exact nn_nI (by omega)) (fun G q hG q1 q2 q3 => ?_) (fun G hG => ?_)
    · exact SP.mono (c_hand (hG.cx hV.1) hG.1.2.1 (hG.crd hV.1) hV.1.1 w1 hH hp t1 t2 h1 h2 _ q h16 q1 q2 q3) (fun z hz => ⟨fun y => hz.1 (Bool.eq_false_iff.mpr y), hz.2⟩)
    · exact SP.mono (s_hand (hG.mx hV.1) hV.1.2.1 hV.1.1 w1 hH t1 t2 h1 h2 _ h16 hG.2.2.1.1) (fun z hz => ⟨fun y => hz.1 (Bool.eq_false_iff.mpr y), hz.2⟩)
  · exact st_ref h0 (v := -2) (i := 1) (by unfold tlV; decide) (by decide) (by decide) (fun G hG Q => c_hand_no hG.1.1 Q a b (c4 hG hV).2 q) (fun G hG Q => s_hand_no hG.1.1 Q a b (s1 hG hV).2 q)
