/-- the model's cells stay -/
def MUn (G G' : XH) : Prop := ∀ a, 70 ≤ a → a < 105 → hpC G' a = hpC G a ∧ hpN G' a = hpN G a ∧ hpI G' a = hpI G a ∧ hpL G' a = hpL G a ∧ hpR G' a = hpR G a
/-- the class's cells stay -/
def CUn (G G' : XH) : Prop := (∀ a, a < 70 ∨ 105 ≤ a → hpC G' a = hpC G a ∧ hpN G' a = hpN G a ∧ hpI G' a = hpI G a ∧ hpL G' a = hpL G a ∧ hpR G' a = hpR G a) ∧ hpZ G' = hpZ G ∧ hpS G' = hpS G
theorem MUn.ms {G G' : XH} (h : MUn G G') (hM : MS G) : MS G' := by
  have hc : ∀ a, 70 ≤ a → a < 105 → hpC G' a = hpC G a := fun a h1 h2 => (h a h1 h2).1
  have hn : ∀ a, 70 ≤ a → a < 105 → hpN G' a = hpN G a := fun a h1 h2 => (h a h1 h2).2.1
  have hr : ∀ a k, 70 ≤ a → a < 105 → hpR G' a k = hpR G a k := fun a k h1 h2 => congrFun (h a h1 h2).2.2.2.2 k
  unfold MS at hM ⊢
  simp only [hc 70 (by decide) (by decide), hc 71 (by decide) (by decide), hc 72 (by decide) (by decide), hc 73 (by decide) (by decide), hc 74 (by decide) (by decide), hc 75 (by decide) (by decide), hc 76 (by decide) (by decide), hc 77 (by decide) (by decide), hc 78 (by decide) (by decide), hc 79 (by decide) (by decide), hc 80 (by decide) (by decide), hc 81 (by decide) (by decide), hc 82 (by decide) (by decide), hc 83 (by decide) (by decide), hc 84 (by decide) (by decide), hc 85 (by decide) (by decide), hc 86 (by decide) (by decide), hc 87 (by decide) (by decide), hc 88 (by decide) (by decide), hc 89 (by decide) (by decide), hc 90 (by decide) (by decide), hc 91 (by decide) (by decide), hc 92 (by decide) (by decide), hc 93 (by decide) (by decide), hc 94 (by decide) (by decide), hc 95 (by decide) (by decide), hc 96 (by decide) (by decide), hc 97 (by decide) (by decide), hc 98 (by decide) (by decide), hc 99 (by decide) (by decide), hc 100 (by decide) (by decide), hc 101 (by decide) (by decide), hc 102 (by decide) (by decide), hc 103 (by decide) (by decide), hc 104 (by decide) (by decide), hn 71 (by decide) (by decide), hn 72 (by decide) (by decide), hn 73 (by decide) (by decide), hn 74 (by decide) (by decide), hn 75 (by decide) (by decide), hn 76 (by decide) (by decide), hn 77 (by decide) (by decide), hn 78 (by decide) (by decide), hn 79 (by decide) (by decide), hn 80 (by decide) (by decide), hn 81 (by decide) (by decide), hn 82 (by decide) (by decide), hn 83 (by decide) (by decide), hn 84 (by decide) (by decide), hn 85 (by decide) (by decide), hn 86 (by decide) (by decide), hn 87 (by decide) (by decide), hn 88 (by decide) (by decide), hn 89 (by decide) (by decide), hn 90 (by decide) (by decide), hn 91 (by decide) (by decide), hn 92 (by decide) (by decide), hn 93 (by decide) (by decide), hn 94 (by decide) (by decide), hn 95 (by decide) (by decide), hn 96 (by decide) (by decide), hn 97 (by decide) (by decide), hn 98 (by decide) (by decide), hn 99 (by decide) (by decide), hn 100 (by decide) (by decide), hn 101 (by decide) (by decide), hn 102 (by decide) (by decide), hn 103 (by decide) (by decide), hn 104 (by decide) (by decide), hr 70 2 (by decide) (by decide), hr 70 3 (by decide) (by decide), hr 70 4 (by decide) (by decide), hr 70 5 (by decide) (by decide), hr 70 6 (by decide) (by decide), hr 70 7 (by decide) (by decide), hr 70 9 (by decide) (by decide), hr 70 10 (by decide) (by decide), hr 70 12 (by decide) (by decide), hr 70 22 (by decide) (by decide), hr 70 24 (by decide) (by decide), hr 70 25 (by decide) (by decide), hr 70 27 (by decide) (by decide), hr 70 28 (by decide) (by decide), hr 70 31 (by decide) (by decide), hr 70 32 (by decide) (by decide), hr 70 33 (by decide) (by decide), hr 70 35 (by decide) (by decide), hr 70 36 (by decide) (by decide), hr 70 37 (by decide) (by decide), hr 70 44 (by decide) (by decide), hr 70 45 (by decide) (by decide), hr 70 46 (by decide) (by decide), hr 70 48 (by decide) (by decide), hr 70 49 (by decide) (by decide), hr 70 50 (by decide) (by decide), hr 70 51 (by decide) (by decide), hr 70 52 (by decide) (by decide), hr 70 53 (by decide) (by decide), hr 70 54 (by decide) (by decide), hr 70 55 (by decide) (by decide), hr 70 56 (by decide) (by decide), hr 70 57 (by decide) (by decide), hr 70 63 (by decide) (by decide)]
  exact hM
theorem CUn.cs {G G' : XH} (h : CUn G G') (hM : CS G) : CS G' := by
  have hc : ∀ a, a < 70 → hpC G' a = hpC G a := fun a h1 => (h.1 a (Or.inl h1)).1
  have hn : ∀ a, a < 70 → hpN G' a = hpN G a := fun a h1 => (h.1 a (Or.inl h1)).2.1
  have hr : ∀ a k, a < 70 → hpR G' a k = hpR G a k := fun a k h1 => congrFun (h.1 a (Or.inl h1)).2.2.2.2 k
  unfold CS at hM ⊢
  simp only [hc 0 (by decide), hc 1 (by decide), hc 2 (by decide), hc 3 (by decide), hc 4 (by decide), hc 5 (by decide), hc 6 (by decide), hc 7 (by decide), hc 8 (by decide), hc 9 (by decide), hc 26 (by decide), hc 27 (by decide), hc 28 (by decide), hc 45 (by decide), hc 46 (by decide), hc 47 (by decide), hc 48 (by decide), hc 49 (by decide), hc 50 (by decide), hc 51 (by decide), hc 52 (by decide), hc 53 (by decide), hc 54 (by decide), hc 55 (by decide), hc 56 (by decide), hc 57 (by decide), hc 58 (by decide), hc 59 (by decide), hc 60 (by decide), hc 61 (by decide), hc 62 (by decide), hc 63 (by decide), hc 64 (by decide), hc 65 (by decide), hc 66 (by decide), hc 67 (by decide), hc 68 (by decide), hc 69 (by decide), hn 2 (by decide), hn 3 (by decide), hn 4 (by decide), hn 5 (by decide), hn 6 (by decide), hn 7 (by decide), hn 9 (by decide), hn 26 (by decide), hn 28 (by decide), hn 45 (by decide), hn 46 (by decide), hn 48 (by decide), hn 51 (by decide), hn 52 (by decide), hn 55 (by decide), hn 56 (by decide), hn 57 (by decide), hn 59 (by decide), hn 60 (by decide), hn 61 (by decide), hn 63 (by decide), hn 64 (by decide), hn 66 (by decide), hn 67 (by decide), hn 68 (by decide), hn 69 (by decide), hr 0 0 (by decide), hr 0 1 (by decide), hr 0 2 (by decide), hr 0 3 (by decide), hr 0 4 (by decide), hr 0 5 (by decide), hr 0 6 (by decide), hr 0 7 (by decide), hr 0 8 (by decide), hr 0 9 (by decide), hr 0 10 (by decide), hr 0 11 (by decide), hr 0 12 (by decide), hr 0 13 (by decide), hr 0 15 (by decide), hr 1 0 (by decide), hr 1 1 (by decide), hr 1 2 (by decide), hr 1 3 (by decide), hr 1 4 (by decide), hr 8 0 (by decide), hr 8 1 (by decide), hr 27 0 (by decide), hr 27 1 (by decide), hr 47 0 (by decide), hr 49 0 (by decide), hr 49 1 (by decide), hr 49 2 (by decide), hr 50 0 (by decide), hr 50 1 (by decide), hr 53 0 (by decide), hr 53 1 (by decide), hr 54 0 (by decide), hr 58 0 (by decide), hr 58 1 (by decide), hr 58 2 (by decide), hr 58 3 (by decide), hr 58 4 (by decide), hr 62 0 (by decide), hr 62 1 (by decide), hr 62 2 (by decide), hr 62 3 (by decide), hr 62 4 (by decide), hr 65 0 (by decide), hr 65 1 (by decide)]
  exact hM
theorem MUn.refl {G : XH} : MUn G G := fun _ _ _ => ⟨rfl, rfl, rfl, rfl, rfl⟩
theorem MUn.trans {G G' G'' : XH} (h : MUn G G') (g : MUn G' G'') : MUn G G'' := fun a h1 h2 => by
  obtain ⟨a1, a2, a3, a4, a5⟩ := h a h1 h2
  obtain ⟨b1, b2, b3, b4, b5⟩ := g a h1 h2
  exact ⟨b1.trans a1, b2.trans a2, b3.trans a3, b4.trans a4, b5.trans a5⟩
theorem CUn.refl {G : XH} : CUn G G := ⟨fun _ _ => ⟨rfl, rfl, rfl, rfl, rfl⟩, rfl, rfl⟩
theorem CUn.trans {G G' G'' : XH} (h : CUn G G') (g : CUn G' G'') : CUn G G'' := ⟨fun a h1 => by
  obtain ⟨a1, a2, a3, a4, a5⟩ := h.1 a h1
  obtain ⟨b1, b2, b3, b4, b5⟩ := g.1 a h1
  exact ⟨b1.trans a1, b2.trans a2, b3.trans a3, b4.trans a4, b5.trans a5⟩, g.2.1.trans h.2.1, g.2.2.trans h.2.2⟩
/-- writes in the model alone, in the class alone -/
def LoM (W : Nat → Nat → Bool) : Prop := ∀ a k, a < 70 ∨ 105 ≤ a → W a k = false
def LoC (W : Nat → Nat → Bool) : Prop := ∀ a k, 70 ≤ a → a < 105 → W a k = false
theorem Fr.cun {W : Nat → Nat → Bool} {G G' : XH} (h : Fr W G G') (hW : LoM W) : CUn G G' := ⟨fun a ha => ⟨by rw [h.C], by rw [h.N], h.IA a (fun k => hW a k ha), h.LA a (fun k => hW a k ha), by rw [h.R]⟩, h.Z, congrArg (fun x => x.2.2) h.2.2.1⟩
theorem FC.LA {W : Nat → Nat → Bool} {G G' : XH} (h : FC W G G') (a : Nat) (hw : ∀ k, W a k = false) : hpL G' a = hpL G a := funext fun k => h.L (hw k)
theorem FC.Z {W : Nat → Nat → Bool} {G G' : XH} (h : FC W G G') : hpZ G' = hpZ G := by
  obtain ⟨o, h⟩ := h
  exact h.Z
theorem FC.S {W : Nat → Nat → Bool} {G G' : XH} (h : FC W G G') : hpS G' = hpS G := by
  obtain ⟨o, h⟩ := h
  exact congrArg (fun x => x.2.2) h.2.2.1
theorem FC.mun {W : Nat → Nat → Bool} {G G' : XH} (h : FC W G G') (hW : LoC W) : MUn G G' := fun a h1 h2 => ⟨by rw [h.C], by rw [h.N], h.IA a (fun k => hW a k h1 h2), h.LA a (fun k => hW a k h1 h2), funext fun k => h.R (Or.inl (by omega))⟩
theorem Fx.mun {W V : Nat → Nat → Bool} {G G' : XH} (h : Fx W V G G') (hz : 105 ≤ hpZ G) (hW : LoC W) (hV : LoC V) : MUn G G' := fun a h1 h2 => ⟨h.C (by omega), h.N (by omega), h.IA (by omega) (fun k => hW a k h1 h2), funext fun k => h.L (by omega) (hW a k h1 h2), funext fun k => h.R (by omega) (hV a k h1 h2)⟩
/-- a world: rows, its laws -/
abbrev WDt := (Nat → Int32) × (Nat → Nat × (Nat → Nat) × (Nat → SF) × (Nat → SF))
/-- what both objects stand for: world, what can be undone, tape, (blots, fault, stopped, status), refusals, what was drawn, images -/
abbrev XDt := WDt × US × (Nat × (Nat → Nat)) × (Int32 × Int32 × Int32 × Int32) × (Nat → Int32) × (Nat × (Nat → Nat → Int32)) × (Nat → Option WDt)
/-- a world is as it must be -/
def VWd (W : WDt) (nr nl n m : Nat) (A B : Nat → Nat) (c : Nat) : Prop := RW W.1 nr nl c ∧ MRd W.1 n A B ∧ m ≤ 6 ∧ W.1 3 = nI m ∧ (∀ i, i < m → LawM W.1 (180 + 900 * i) (W.2 i).1 (W.2 i).2.1 (W.2 i).2.2.1 (W.2 i).2.2.2 ∧ ∀ c, c < (W.2 i).1 → VB 10 ((W.2 i).2.2.1 c)) ∧ (W.1 4 = -1 ∨ ∃ f, f < m ∧ W.1 4 = nI f)
/-- all is as it must be -/
def VXd (X : XDt) (nr nl n m : Nat) (A B : Nat → Nat) (c : Nat) : Prop := VWd X.1 nr nl n m A B c ∧ UOK X.2.1 nr nl c ∧ X.2.2.1.1 ≤ 400 ∧ (∀ k, k < X.2.2.1.1 → X.2.2.1.2 k < 256) ∧ X.2.2.2.2.2.1.1 ≤ 8 ∧ ∀ k, k < 2 → ∀ W, X.2.2.2.2.2.2 k = some W → ∃ nr nl n m A B, VWd W nr nl n m A B c
/-- cells of texts -/
def Bd (G : XH) (x : Nat) : Prop := 105 ≤ x ∧ x < hpZ G ∧ ∀ k, k < 2 → ∀ w, hpR G 7 k = some w → ¬ (w ≤ x ∧ x ≤ w + 5)
/-- a World of the class -/
def CWd (G : XH) (w : Nat) (W : WDt) : Prop := VW (hpI G (w + 1)) W.1 ∧ (∀ j, j < (W.1 0).toNatClampNeg → hpI G (w + 2) j = W.1 (141 + 2 * j) ∧ hpI G (w + 3) j = W.1 (141 + 2 * j + 1)) ∧ (∀ r, r < 8 → hpI G (w + 4) r = W.1 (165 + r)) ∧ hpI G w 5 = W.1 0 ∧ hpI G w 6 = W.1 3 ∧ hpI G w 7 = W.1 4 ∧ (∀ i, i < (W.1 3).toNatClampNeg → ∃ t, hpR G (w + 5) i = some t ∧ LawD G (Bd G) t (W.2 i).1 (W.2 i).2.1 (W.2 i).2.2.1 (W.2 i).2.2.2) ∧ LAo G (w + 5)
def CTp (G : XH) (T : Nat × (Nat → Nat)) : Prop := hpI G 47 1 = nI T.1 ∧ ∀ k, k < T.1 → hpI G 48 k = nI (T.2 k)
def CMs (G : XH) (M : Int32 × Int32 × Int32 × Int32) : Prop := hpI G 0 19 = M.1 ∧ hpI G 0 17 = M.2.1 ∧ hpI G 0 18 = M.2.2.1 ∧ hpI G 0 16 = M.2.2.2
def CRf (G : XH) (f : Nat → Int32) : Prop := ∀ i, i < 5 → hpI G 69 i = f i
def CDr (G : XH) (D : Nat × (Nat → Nat → Int32)) : Prop := hpI G 0 14 = nI D.1 ∧ ∀ k g, k < D.1 → g < 3 → hpI G 68 (8 * g + k) = D.2 k g
def CIm (G : XH) (I : Nat → Option WDt) : Prop := (∀ k, k < 2 → match I k with
  | none => hpR G 7 k = none
  | some W => ∃ w, hpR G 7 k = some w ∧ WLD G w ∧ 105 ≤ w ∧ w + 6 ≤ hpZ G ∧ CWd G w W) ∧ ∀ w0 w1, hpR G 7 0 = some w0 → hpR G 7 1 = some w1 → w0 + 5 < w1 ∨ w1 + 5 < w0
/-- the class stands for X -/
def CPx (G : XH) (X : XDt) : Prop := (CS G ∧ CU G ∧ 105 ≤ hpZ G) ∧ CWd G 1 X.1 ∧ UCx G X.2.1 ∧ CTp G X.2.2.1 ∧ CMs G X.2.2.2.1 ∧ CRf G X.2.2.2.2.1 ∧ CDr G X.2.2.2.2.2.1 ∧ CIm G X.2.2.2.2.2.2
def mIx (i : Nat) : Nat := if i < 3 then i + 1 else i + 2
def MUx (G : XH) (R : Nat → Int32) (U : US) : Prop := hpI G 70 8 = nI U.1 ∧ MU R (hpI G 75) (hpI G 76) U
def MTp (G : XH) (T : Nat × (Nat → Nat)) : Prop := hpI G 70 13 = nI T.1 ∧ ∀ k, k < T.1 → hpI G 79 k = nI (T.2 k)
def MMs (G : XH) (M : Int32 × Int32 × Int32 × Int32) : Prop := hpI G 70 11 = M.1 ∧ hpI G 70 18 = M.2.1 ∧ hpI G 70 60 = M.2.2.1 ∧ hpI G 70 1 = M.2.2.2
def MRf (G : XH) (f : Nat → Int32) : Prop := ∀ i, i < 5 → hpI G 71 (mIx i) = f i
def MDr (G : XH) (D : Nat × (Nat → Nat → Int32)) : Prop := (hpI G 70 64 = nI D.1 ∨ (D.1 = 0 ∧ hpI G 70 64 = -1)) ∧ ∀ k g, k < D.1 → g < 3 → hpI G 104 (3 * k + g) = D.2 k g
def MIm (G : XH) (I : Nat → Option WDt) : Prop := ∀ k, k < 2 → match I k with
  | none => hpI G 74 k = 0
  | some W => hpI G 74 k = 1 ∧ ∀ j, j < 5580 → hpI G 73 (5580 * k + j) = W.1 j
/-- the model stands for X -/
def MPx (G : XH) (X : XDt) : Prop := (MS G ∧ MKw G ∧ hpI G 70 20 = 0) ∧ hpI G 72 = X.1.1 ∧ MUx G X.1.1 X.2.1 ∧ MTp G X.2.2.1 ∧ MMs G X.2.2.2.1 ∧ MRf G X.2.2.2.2.1 ∧ MDr G X.2.2.2.2.2.1 ∧ MIm G X.2.2.2.2.2.2
theorem MKw.mun {G G' : XH} (h : MKw G) (hu : MUn G G') : MKw G' := by
  obtain ⟨a1, a2, a3⟩ := h
  have e : ∀ a, 70 ≤ a → a < 105 → ∀ k, hpL G' a k = hpL G a k := fun a h1 h2 k => congrFun (hu a h1 h2).2.2.2.1 k
  exact ⟨fun k hk => (e _ (by decide) (by decide) k).trans (a1 k hk), fun k hk => (e _ (by decide) (by decide) k).trans (a2 k hk), fun k hk => (e _ (by decide) (by decide) k).trans (a3 k hk)⟩
theorem MPx.mun {G G' : XH} {X : XDt} (h : MPx G X) (hu : MUn G G') : MPx G' X := by
  obtain ⟨⟨a1, a2, a3⟩, b, ⟨c1, c2⟩, ⟨d1, d2⟩, ⟨e1, e2, e3, e4⟩, f, ⟨g1, g2⟩, i⟩ := h
  have e : ∀ a, 70 ≤ a → a < 105 → hpI G' a = hpI G a := fun a h1 h2 => (hu a h1 h2).2.2.1
  have em := e 70 (by decide) (by decide)
  have er := e 72 (by decide) (by decide)
  have eu := e 75 (by decide) (by decide)
  have es := e 76 (by decide) (by decide)
  have et := e 79 (by decide) (by decide)
  have ef := e 71 (by decide) (by decide)
  have ed := e 104 (by decide) (by decide)
  have ek := e 74 (by decide) (by decide)
  have ei := e 73 (by decide) (by decide)
  refine ⟨⟨hu.ms a1, a2.mun hu, by rw [em]; exact a3⟩, by rw [er]; exact b, ⟨by rw [em]; exact c1, by rw [eu, es]; exact c2⟩, ⟨by rw [em]; exact d1, by rw [et]; exact d2⟩, ⟨by rw [em]; exact e1, by rw [em]; exact e2, by rw [em]; exact e3, by rw [em]; exact e4⟩, fun k hk => by rw [ef]; exact f k hk, ⟨by rw [em]; exact g1, by rw [ed]; exact g2⟩, fun k hk => ?_⟩
  have := i k hk
  cases hX : X.2.2.2.2.2.2 k with
  | none => rw [hX] at this; rw [ek]; exact this
  | some W => rw [hX] at this; rw [ek, ei]; exact this
theorem LawD.cg {G G' : XH} {B B' : Nat → Prop} {t n : Nat} {kd : Nat → Nat} {sm ts : Nat → (Nat → Int64) → Option Int64} (h : LawD G B t n kd sm ts) (hB : ∀ x, B x → hpC G' x = hpC G x ∧ hpN G' x = hpN G x ∧ hpI G' x = hpI G x ∧ hpR G' x = hpR G x) (hB' : ∀ x, B x → B' x) : LawD G' B' t n kd sm ts := by
  obtain ⟨cd, rw', lim, I, ⟨a1, a2, a3, ⟨b1, b2, b3, b4, b5, b6, b7, b8, b9, b10, b11⟩, a5, a6, a7, a8⟩, c1, c2, c3⟩ := h
  obtain ⟨x1, x2, x3, x4⟩ := hB t c1
  obtain ⟨y1, y2, y3, y4⟩ := hB cd c2
  obtain ⟨z1, z2, z3, z4⟩ := hB rw' c3
  refine ⟨cd, rw', lim, I, ⟨a1, a2, a3, ⟨?_, ?_, ?_, ?_, ?_, ?_, ?_, ?_, ?_, ?_, ?_⟩, a5, a6, ?_, ?_⟩, hB' _ c1, hB' _ c2, hB' _ c3⟩
  · rw [x1]; exact b1
  · rw [x4]; exact b2
  · rw [x4]; exact b3
  · rw [y1]; exact b4
  · rw [z1]; exact b5
  · rw [y2]; exact b6
  · rw [y2]; exact b7
  · rw [z2]; exact b8
  · rw [z2]; exact b9
  · rw [x3]; exact b10
  · rw [x3]; exact b11
  · rw [y3]; exact a7
  · rw [z3]; exact a8
/-- a World where its cells and those of texts stay -/
theorem CWd.cg {G G' : XH} {w : Nat} {W : WDt} (h : CWd G w W) (hw : ∀ a, w ≤ a → a ≤ w + 4 → hpI G' a = hpI G a) (hr : hpR G' (w + 5) = hpR G (w + 5)) (hB : ∀ x, Bd G x → hpC G' x = hpC G x ∧ hpN G' x = hpN G x ∧ hpI G' x = hpI G x ∧ hpR G' x = hpR G x) (hB' : ∀ x, Bd G x → Bd G' x) (hC : ∀ x, 105 ≤ x → x < hpZ G → hpC G' x = hpC G x) (hz : hpZ G ≤ hpZ G') : CWd G' w W := by
  obtain ⟨a1, a2, a3, a4, a5, a6, a7, a8⟩ := h
  have e0 := hw w (by omega) (by omega)
  refine ⟨by rw [hw (w + 1) (by omega) (by omega)]; exact a1, fun j hj => by rw [hw (w + 2) (by omega) (by omega), hw (w + 3) (by omega) (by omega)]; exact a2 j hj, fun r hr' => by rw [hw (w + 4) (by omega) (by omega)]; exact a3 r hr', by rw [e0]; exact a4, by rw [e0]; exact a5, by rw [e0]; exact a6, fun i hi => ?_, fun k hk => ?_⟩
  · obtain ⟨t, t1, t2⟩ := a7 i hi
    exact ⟨t, by rw [hr]; exact t1, t2.cg hB hB'⟩
  · rw [hr]
    rcases a8 k hk with z | ⟨t, t1, t2, t3, t4⟩
    · exact Or.inl z
    · exact Or.inr ⟨t, t1, by rw [hC t t3 t4]; exact t2, t3, by omega⟩
/-- the class's cells stay: it stands for the same -/
theorem CPx.cun {G G' : XH} {X : XDt} (h : CPx G X) (hu : CUn G G') : CPx G' X := by
  obtain ⟨⟨a1, a2, a3⟩, b, c, ⟨d1, d2⟩, ⟨e1, e2, e3, e4⟩, f, ⟨g1, g2⟩, i1, i2⟩ := h
  obtain ⟨hu1, hu2, hu3⟩ := hu
  have lo : ∀ a, a < 70 → hpI G' a = hpI G a := fun a ha => (hu1 a (Or.inl ha)).2.2.1
  have e7 : hpR G' 7 = hpR G 7 := (hu1 7 (Or.inl (by decide))).2.2.2.2
  have hBd : ∀ x, Bd G x → Bd G' x := fun x hx => ⟨hx.1, by rw [hu2]; exact hx.2.1, fun k hk w hw => hx.2.2 k hk w (by rw [← e7]; exact hw)⟩
  have hBc : ∀ x, Bd G x → hpC G' x = hpC G x ∧ hpN G' x = hpN G x ∧ hpI G' x = hpI G x ∧ hpR G' x = hpR G x := fun x hx => by
    obtain ⟨z1, z2, z3, z4, z5⟩ := hu1 x (Or.inr hx.1)
    exact ⟨z1, z2, z3, z5⟩
  have hCc : ∀ x, 105 ≤ x → x < hpZ G → hpC G' x = hpC G x := fun x hx _ => (hu1 x (Or.inr hx)).1
  have hZ : hpZ G ≤ hpZ G' := by rw [hu2]; exact Nat.le_refl _
  obtain ⟨p, p16, c1, c2, c3⟩ := c
  refine ⟨⟨CUn.cs ⟨hu1, hu2, hu3⟩ a1, ⟨fun i hi => ?_, fun i hi => ?_⟩, by omega⟩, b.cg (fun a h1 h2 => lo a (by omega)) (hu1 6 (Or.inl (by decide))).2.2.2.2 hBc hBd hCc hZ, ⟨p, p16, by rw [lo _ (by decide)]; exact c1, by rw [lo _ (by decide)]; exact c2, fun k hk => ?_⟩, ⟨by rw [lo _ (by decide)]; exact d1, by rw [lo _ (by decide)]; exact d2⟩, ⟨by rw [lo _ (by decide)]; exact e1, by rw [lo _ (by decide)]; exact e2, by rw [lo _ (by decide)]; exact e3, by rw [lo _ (by decide)]; exact e4⟩, fun i hi => by rw [lo _ (by decide)]; exact f i hi, ⟨by rw [lo _ (by decide)]; exact g1, by rw [lo _ (by decide)]; exact g2⟩, fun k hk => ?_, fun w0 w1 h0 h1 => i2 w0 w1 (by rw [← e7]; exact h0) (by rw [← e7]; exact h1)⟩
  · obtain ⟨u1, u2, u3⟩ := a2.1 i hi
    obtain ⟨z1, z2, z3, z4, z5⟩ := hu1 9 (Or.inl (by decide))
    obtain ⟨y1, y2, y3, y4, y5⟩ := hu1 (10 + i) (Or.inl (by omega))
    exact ⟨by rw [z5]; exact u1, by rw [y1]; exact u2, by rw [y2]; exact u3⟩
  · obtain ⟨u1, u2, u3⟩ := a2.2 i hi
    obtain ⟨z1, z2, z3, z4, z5⟩ := hu1 28 (Or.inl (by decide))
    obtain ⟨y1, y2, y3, y4, y5⟩ := hu1 (29 + i) (Or.inl (by omega))
    exact ⟨by rw [z5]; exact u1, by rw [y1]; exact u2, by rw [y2]; exact u3⟩
  · have hm : (p + 16 - X.2.1.1 + k) % 16 < 16 := Nat.mod_lt _ (by omega)
    dsimp only
    rw [lo _ (by decide), lo (10 + (p + 16 - X.2.1.1 + k) % 16) (by omega)]
    exact c3 k hk
  · have := i1 k hk
    cases hX : X.2.2.2.2.2.2 k with
    | none => rw [hX] at this; rw [e7]; exact this
    | some W =>
      rw [hX] at this
      obtain ⟨w, w1, w2, w3, w4, w5⟩ := this
      dsimp only
      refine ⟨w, by rw [e7]; exact w1, ?_, w3, by omega, w5.cg (fun a h1 h2 => (hu1 a (Or.inr (by omega))).2.2.1) (hu1 (w + 5) (Or.inr (by omega))).2.2.2.2 hBc hBd hCc hZ⟩
      obtain ⟨q0, r0, r1, r2, r3, r4, q1, q2, q3, q4, q5, n1, n2, n3, n4, n5⟩ := w2
      have cc : ∀ a, 105 ≤ a → hpC G' a = hpC G a := fun a ha => (hu1 a (Or.inr ha)).1
      have nn : ∀ a, 105 ≤ a → hpN G' a = hpN G a := fun a ha => (hu1 a (Or.inr ha)).2.1
      have rr : ∀ a, 105 ≤ a → hpR G' a = hpR G a := fun a ha => (hu1 a (Or.inr ha)).2.2.2.2
      refine ⟨?_, ?_, ?_, ?_, ?_, ?_, ?_, ?_, ?_, ?_, ?_, ?_, ?_, ?_, ?_, ?_⟩
      · rw [cc _ (by omega)]; exact q0
      · rw [rr _ (by omega)]; exact r0
      · rw [rr _ (by omega)]; exact r1
      · rw [rr _ (by omega)]; exact r2
      · rw [rr _ (by omega)]; exact r3
      · rw [rr _ (by omega)]; exact r4
      · rw [cc _ (by omega)]; exact q1
      · rw [cc _ (by omega)]; exact q2
      · rw [cc _ (by omega)]; exact q3
      · rw [cc _ (by omega)]; exact q4
      · rw [cc _ (by omega)]; exact q5
      · rw [nn _ (by omega)]; exact n1
      · rw [nn _ (by omega)]; exact n2
      · rw [nn _ (by omega)]; exact n3
      · rw [nn _ (by omega)]; exact n4
      · rw [nn _ (by omega)]; exact n5
