/-- told: status, refusals -/
def tlX (X : XDt) (v : Int32) : XDt := (X.1, X.2.1, X.2.2.1, (X.2.2.2.1.1, X.2.2.2.1.2.1, X.2.2.2.1.2.2.1, stM1 v), rfC X.2.2.2.2.1 v, X.2.2.2.2.2.1, X.2.2.2.2.2.2)
/-- another world -/
def wX (X : XDt) (W : WDt) : XDt := (W, X.2)
/-- nothing can be undone -/
def fgX (X : XDt) : XDt := (X.1, (0, X.2.1.2), X.2.2)
/-- another undo -/
def uX (X : XDt) (U : US) : XDt := (X.1, U, X.2.2)
/-- another tape -/
def tpX (X : XDt) (T : Nat × (Nat → Nat)) : XDt := (X.1, X.2.1, T, X.2.2.2)
/-- other places: blots, fault, stopped -/
def blX (X : XDt) (v : Int32) : XDt := (X.1, X.2.1, X.2.2.1, (v, X.2.2.2.1.2), X.2.2.2.2)
def flX (X : XDt) (v : Int32) : XDt := (X.1, X.2.1, X.2.2.1, (X.2.2.2.1.1, v, X.2.2.2.1.2.2), X.2.2.2.2)
def spX (X : XDt) (v : Int32) : XDt := (X.1, X.2.1, X.2.2.1, (X.2.2.2.1.1, X.2.2.2.1.2.1, v, X.2.2.2.1.2.2.2), X.2.2.2.2)
/-- other drawn -/
def drX (X : XDt) (D : Nat × (Nat → Nat → Int32)) : XDt := (X.1, X.2.1, X.2.2.1, X.2.2.2.1, X.2.2.2.2.1, D, X.2.2.2.2.2.2)
theorem Bd.fc {W : Nat → Nat → Bool} {G G' : XH} {x : Nat} (h : Bd G x) (hf : FC W G G') : Bd G' x := ⟨h.1, by rw [hf.Z]; exact h.2.1, fun k hk w hw => h.2.2 k hk w (by rw [← hw]; exact (hf.R (Or.inl (by decide))).symm)⟩
theorem CWd.fc {W : Nat → Nat → Bool} {G G' : XH} {w : Nat} {Wd : WDt} (h : CWd G w Wd) (hf : FC W G G') (h1 : ∀ a k, w ≤ a → a ≤ w + 4 → W a k = false) (hL : Lo W) (h53 : ¬ w + 5 = 53) : CWd G' w Wd := h.cg (fun a h2 h3 => hf.IA a (fun k => h1 a k h2 h3)) (funext fun k => hf.R (Or.inl h53)) (fun x hx => ⟨by rw [hf.C], by rw [hf.N], hf.IA x (fun k => hL x k hx.1), funext fun k => hf.R (Or.inl (by have := hx.1; omega))⟩) (fun x hx => hx.fc hf) (fun x _ _ => by rw [hf.C]) (by rw [hf.Z]; exact Nat.le_refl _)
theorem WLD.fc {W : Nat → Nat → Bool} {G G' : XH} {w : Nat} (h : WLD G w) (hf : FC W G G') (h53 : ¬ w = 53) : WLD G' w := by
  obtain ⟨q0, r0, r1, r2, r3, r4, q1, q2, q3, q4, q5, n1, n2, n3, n4, n5⟩ := h
  have hr : ∀ k, hpR G' w k = hpR G w k := fun k => hf.R (Or.inl h53)
  refine ⟨?_, ?_, ?_, ?_, ?_, ?_, ?_, ?_, ?_, ?_, ?_, ?_, ?_, ?_, ?_, ?_⟩
  · rw [hf.C]; exact q0
  · rw [hr]; exact r0
  · rw [hr]; exact r1
  · rw [hr]; exact r2
  · rw [hr]; exact r3
  · rw [hr]; exact r4
  · rw [hf.C]; exact q1
  · rw [hf.C]; exact q2
  · rw [hf.C]; exact q3
  · rw [hf.C]; exact q4
  · rw [hf.C]; exact q5
  · rw [hf.N]; exact n1
  · rw [hf.N]; exact n2
  · rw [hf.N]; exact n3
  · rw [hf.N]; exact n4
  · rw [hf.N]; exact n5
theorem CIm.fc {W : Nat → Nat → Bool} {G G' : XH} {I : Nat → Option WDt} (h : CIm G I) (hf : FC W G G') (hL : Lo W) : CIm G' I := by
  have e7 : ∀ k, hpR G' 7 k = hpR G 7 k := fun k => hf.R (Or.inl (by decide))
  refine ⟨fun k hk => ?_, fun w0 w1 h0 h1 => h.2 w0 w1 (by rw [← e7]; exact h0) (by rw [← e7]; exact h1)⟩
  have := h.1 k hk
  cases hI : I k with
  | none => rw [hI] at this; dsimp only; rw [e7]; exact this
  | some W' =>
    rw [hI] at this
    obtain ⟨w, w1, w2, w3, w4, w5⟩ := this
    exact ⟨w, by rw [e7]; exact w1, w2.fc hf (by omega), w3, by rw [hf.Z]; exact w4, w5.fc hf (fun a k h1 h2 => hL a k (by omega)) hL (by omega)⟩
/-- the class stands for X', part by part -/
theorem CPx.mk {W : Nat → Nat → Bool} {G G' : XH} {X X' : XDt} (h : CPx G X) (hf : FC W G G') (hL : Lo W) (w : CWd G' 1 X'.1) (u : UCx G' X'.2.1) (t : CTp G' X'.2.2.1) (m : CMs G' X'.2.2.2.1) (r : CRf G' X'.2.2.2.2.1) (d : CDr G' X'.2.2.2.2.2.1) (e : X'.2.2.2.2.2.2 = X.2.2.2.2.2.2) : CPx G' X' := ⟨⟨hf.cs h.1.1, CU_fc h.1.2.1 hf, by rw [hf.Z]; exact h.1.2.2⟩, w, u, t, m, r, d, by rw [e]; exact h.2.2.2.2.2.2.2.fc hf hL⟩
theorem CTp.fc {W : Nat → Nat → Bool} {G G' : XH} {T : Nat × (Nat → Nat)} (h : CTp G T) (hf : FC W G G') (h1 : W 47 1 = false) (h2 : ∀ k, W 48 k = false) : CTp G' T := ⟨(hf.I h1).trans h.1, fun k hk => (hf.I (h2 k)).trans (h.2 k hk)⟩
theorem CMs.fc {W : Nat → Nat → Bool} {G G' : XH} {M : Int32 × Int32 × Int32 × Int32} (h : CMs G M) (hf : FC W G G') (h1 : W 0 19 = false) (h2 : W 0 17 = false) (h3 : W 0 18 = false) (h4 : W 0 16 = false) : CMs G' M := ⟨(hf.I h1).trans h.1, (hf.I h2).trans h.2.1, (hf.I h3).trans h.2.2.1, (hf.I h4).trans h.2.2.2⟩
theorem CRf.fc {W : Nat → Nat → Bool} {G G' : XH} {f : Nat → Int32} (h : CRf G f) (hf : FC W G G') (h1 : ∀ k, W 69 k = false) : CRf G' f := fun i hi => (hf.I (h1 i)).trans (h i hi)
theorem CDr.fc {W : Nat → Nat → Bool} {G G' : XH} {D : Nat × (Nat → Nat → Int32)} (h : CDr G D) (hf : FC W G G') (h1 : W 0 14 = false) (h2 : ∀ k, W 68 k = false) : CDr G' D := ⟨(hf.I h1).trans h.1, fun k g hk hg => (hf.I (h2 _)).trans (h.2 k g hk hg)⟩
/-- cells that a call may write without a change of what the class stands for -/
def Scr (a : Nat) : Prop := (27 ≤ a ∧ a ≤ 46) ∨ (49 ≤ a ∧ a ≤ 67)
theorem CPx.scr {W : Nat → Nat → Bool} {G G' : XH} {X : XDt} (h : CPx G X) (hf : FC W G G') (hW : ∀ a k, ¬ Scr a → W a k = false) : CPx G' X := by
  have h0 := h
  obtain ⟨_, b, c, d, e, f, g, i⟩ := h
  have hL : Lo W := fun a k ha => hW a k (by unfold Scr; omega)
  exact h0.mk hf hL (b.fc hf (fun a k h1 h2 => hW a k (by unfold Scr; omega)) hL (by decide)) (c.unc (UnC.fc hf (fun k => hW _ k (by unfold Scr; omega)) (fun k => hW _ k (by unfold Scr; omega)) (fun i hi k => hW _ k (by unfold Scr; omega)))) (d.fc hf (hW _ _ (by unfold Scr; omega)) (fun k => hW _ k (by unfold Scr; omega))) (e.fc hf (hW _ _ (by unfold Scr; omega)) (hW _ _ (by unfold Scr; omega)) (hW _ _ (by unfold Scr; omega)) (hW _ _ (by unfold Scr; omega))) (f.fc hf (fun k => hW _ k (by unfold Scr; omega))) (g.fc hf (hW _ _ (by unfold Scr; omega)) (fun k => hW _ k (by unfold Scr; omega))) rfl
theorem scr_mun {W : Nat → Nat → Bool} {G G' : XH} (hf : FC W G G') (hW : ∀ a k, ¬ Scr a → W a k = false) : MUn G G' := hf.mun (fun a k h1 h2 => hW a k (by unfold Scr; omega))
theorem rfC_pos {f : Nat → Int32} {v : Int32} (h : ¬ v < 0) : rfC f v = f := by
  unfold rfC
  rw [if_neg h]
theorem stM1_pos {v : Int32} (h : ¬ v < 0) : stM1 v = 0 := by
  unfold stM1
  rw [if_neg h]
/-- the class's status told -/
theorem CPx.acc {G : XH} {X : XDt} (h : CPx G X) {v : Int32} (hv : ¬ v < 0) : CPx (stI G 0 16 0) (tlX X v) := by
  have h0 := h
  have hf : FC (fun a k => a == 0 && k == 16) G (stI G 0 16 0) := (Fr.refl.wI rfl).fc
  have hW : ∀ a k : Nat, ¬ a = 0 → (a == 0 && k == 16) = false := fun a k ha => by simp [ha]
  have hL : Lo (fun a k => a == 0 && k == 16) := fun a k ha => hW a k (by omega)
  obtain ⟨_, b, c, d, ⟨e1, e2, e3, e4⟩, f, g, i⟩ := h
  refine h0.mk hf hL (b.fc hf (fun a k h1 h2 => hW a k (by omega)) hL (by decide)) (c.unc (UnC.fc hf (fun k => rfl) (fun k => rfl) (fun j hj k => hW _ k (by omega)))) (d.fc hf rfl (fun k => rfl)) ⟨(hf.I rfl).trans e1, (hf.I rfl).trans e2, (hf.I rfl).trans e3, ?_⟩ ?_ (g.fc hf rfl (fun k => rfl)) rfl
  · rw [stI_up, hpI_stA, up_eq]
    exact (stM1_pos hv).symm
  · show CRf _ (rfC X.2.2.2.2.1 v)
    rw [rfC_pos hv]
    exact f.fc hf (fun k => rfl)
theorem ixC_lt {v : Int32} : ixC v < 5 := by
  unfold ixC
  split
  · omega
  · split
    · omega
    · split
      · omega
      · split <;> omega
theorem CPx.ref {G : XH} {X : XDt} (h : CPx G X) {v : Int32} {i : Nat} (hv : v < 0) (hi : i = ixC v) : CPx (refH v i G) (tlX X v) := by
  subst hi
  have h0 := h
  have hf : FC (fun a k => (a == 0 && k == 16) || a == 69) G (refH v (ixC v) G) := by
    unfold refH
    exact ((Fr.refl.wI rfl).wI (by simp)).fc
  have hW : ∀ a k : Nat, ¬ a = 0 → ¬ a = 69 → ((a == 0 && k == 16) || a == 69) = false := fun a k h1 h2 => by simp [h1, h2]
  have hL : Lo (fun a k => (a == 0 && k == 16) || a == 69) := fun a k ha => hW a k (by omega) (by omega)
  obtain ⟨_, b, c, d, ⟨e1, e2, e3, e4⟩, f, g, i⟩ := h
  refine h0.mk hf hL (b.fc hf (fun a k h1 h2 => hW a k (by omega) (by omega)) hL (by decide)) (c.unc (UnC.fc hf (fun k => rfl) (fun k => rfl) (fun j hj k => hW _ k (by omega) (by omega)))) (d.fc hf rfl (fun k => rfl)) ⟨(hf.I rfl).trans e1, (hf.I rfl).trans e2, (hf.I rfl).trans e3, ?_⟩ (fun j hj => ?_) (g.fc hf rfl (fun k => rfl)) rfl
  · unfold refH
    rw [stI_up (a := 69), hpI_stA_ne (by decide), stI_up (a := 0), hpI_stA, up_eq]
    unfold tlX stM1
    rw [if_pos hv]
  · unfold refH
    rw [stI_up (a := 69), hpI_stA, stI_up (a := 0), hpI_stA_ne (by decide)]
    show up (hpI G 69) (ixC v) (hpI G 69 (ixC v) + 1) j = rfC X.2.2.2.2.1 v j
    unfold rfC
    rw [if_pos hv]
    unfold up
    rw [f _ ixC_lt]
    split
    · rfl
    · exact f j hj
/-- the class forgets what can be undone -/
theorem CPx.fg {G : XH} {X : XDt} (h : CPx G X) : CPx (stI G 8 3 0) (fgX X) := by
  have h0 := h
  have hf : FC (fun a k => a == 8 && k == 3) G (stI G 8 3 0) := (Fr.refl.wI rfl).fc
  have hW : ∀ a k : Nat, ¬ a = 8 → (a == 8 && k == 3) = false := fun a k h1 => by simp [h1]
  have hL : Lo (fun a k => a == 8 && k == 3) := fun a k ha => hW a k (by omega)
  obtain ⟨_, b, ⟨p, p16, c1, c2, c3⟩, d, e, f, g, i⟩ := h
  refine h0.mk hf hL (b.fc hf (fun a k h1 h2 => hW a k (by omega)) hL (by decide)) ⟨p, p16, ?_, (hf.I rfl).trans c2, fun k hk => absurd hk (Nat.not_lt_zero k)⟩ (d.fc hf rfl (fun k => rfl)) (e.fc hf rfl rfl rfl rfl) (f.fc hf (fun k => rfl)) (g.fc hf rfl (fun k => rfl)) rfl
  rw [stI_up, hpI_stA, up_eq]
  rfl
/-- the class's stand anew -/
theorem CPx.sd {G : XH} {X : XDt} (h : CPx G X) {f R' : Nat → Int32} (hV : VW f R') (h0' : R' 0 = X.1.1 0) (h3 : R' 3 = X.1.1 3) (h4 : R' 4 = X.1.1 4) (hr : ∀ j, 141 ≤ j → j < 180 → R' j = X.1.1 j) (hn : (X.1.1 0).toNatClampNeg ≤ 12) : CPx (stA G 2 f) (wX X (R', X.1.2)) := by
  have h0 := h
  have hf : FC (fun a _ => a == 2) G (stA G 2 f) := (Fr.refl.wA (fun k q => absurd q (by simp))).fc
  have hW : ∀ a k : Nat, ¬ a = 2 → (fun (a _ : Nat) => a == 2) a k = false := fun a k h1 => by simp [h1]
  have hL : Lo (fun a _ => a == 2) := fun a k ha => hW a k (by omega)
  have hI : ∀ a, ¬ a = 2 → hpI (stA G 2 f) a = hpI G a := fun a ha => hpI_stA_ne ha
  obtain ⟨a0, ⟨b1, b2, b3, b4, b5, b6, b7, b8⟩, c, d, e, ff, g, i⟩ := h
  have hcw : CWd (stA G 2 f) 1 (R', X.1.2) := by
    refine ⟨by rw [hpI_stA]; exact hV, fun j hj => ?_, fun r hr' => ?_, ?_, ?_, ?_, fun i hi => ?_, fun k hk => ?_⟩
    · dsimp only at hj ⊢
      rw [h0'] at hj
      rw [hI _ (by decide), hI _ (by decide), hr _ (by omega) (by omega), hr _ (by omega) (by omega)]
      exact b2 j hj
    · dsimp only
      rw [hI _ (by decide), hr _ (by omega) (by omega)]
      exact b3 r hr'
    · dsimp only
      rw [hI _ (by decide), h0']; exact b4
    · dsimp only
      rw [hI _ (by decide), h3]; exact b5
    · dsimp only
      rw [hI _ (by decide), h4]; exact b6
    · dsimp only at hi
      rw [h3] at hi
      obtain ⟨t, t1, t2⟩ := b7 i hi
      exact ⟨t, t1, t2.cg (fun x hx => ⟨rfl, rfl, hI x (by have := hx.1; omega), rfl⟩) (fun x hx => hx.fc hf)⟩
    · exact b8 k hk
  exact h0.mk hf hL hcw (c.unc (UnC.fc hf (fun k => rfl) (fun k => rfl) (fun j hj k => hW _ k (by omega)))) (d.fc hf rfl (fun k => rfl)) (e.fc hf rfl rfl rfl rfl) (ff.fc hf (fun k => rfl)) (g.fc hf rfl (fun k => rfl)) rfl
/-! THE MODEL -/
theorem MTp.fr {W : Nat → Nat → Bool} {G G' : XH} {T : Nat × (Nat → Nat)} (h : MTp G T) (hf : Fr W G G') (h1 : W 70 13 = false) (h2 : ∀ k, W 79 k = false) : MTp G' T := ⟨(hf.I h1).trans h.1, fun k hk => (hf.I (h2 k)).trans (h.2 k hk)⟩
theorem MMs.fr {W : Nat → Nat → Bool} {G G' : XH} {M : Int32 × Int32 × Int32 × Int32} (h : MMs G M) (hf : Fr W G G') (h1 : W 70 11 = false) (h2 : W 70 18 = false) (h3 : W 70 60 = false) (h4 : W 70 1 = false) : MMs G' M := ⟨(hf.I h1).trans h.1, (hf.I h2).trans h.2.1, (hf.I h3).trans h.2.2.1, (hf.I h4).trans h.2.2.2⟩
theorem MRf.fr {W : Nat → Nat → Bool} {G G' : XH} {f : Nat → Int32} (h : MRf G f) (hf : Fr W G G') (h1 : ∀ k, W 71 k = false) : MRf G' f := fun i hi => (hf.I (h1 _)).trans (h i hi)
theorem MDr.fr {W : Nat → Nat → Bool} {G G' : XH} {D : Nat × (Nat → Nat → Int32)} (h : MDr G D) (hf : Fr W G G') (h1 : W 70 64 = false) (h2 : ∀ k, W 104 k = false) : MDr G' D := ⟨by rw [hf.I h1]; exact h.1, fun k g hk hg => (hf.I (h2 _)).trans (h.2 k g hk hg)⟩
theorem MIm.fr {W : Nat → Nat → Bool} {G G' : XH} {I : Nat → Option WDt} (h : MIm G I) (hf : Fr W G G') (h1 : ∀ k, W 74 k = false) (h2 : ∀ k, W 73 k = false) : MIm G' I := fun k hk => by
  have := h k hk
  cases hI : I k with
  | none => rw [hI] at this; exact (hf.I (h1 k)).trans this
  | some W' => rw [hI] at this; exact ⟨(hf.I (h1 k)).trans this.1, fun j hj => (hf.I (h2 _)).trans (this.2 j hj)⟩
theorem MUx.fr {W : Nat → Nat → Bool} {G G' : XH} {R : Nat → Int32} {U : US} (h : MUx G R U) (hf : Fr W G G') (h16 : U.1 ≤ 16) (h1 : W 70 8 = false) (h2 : ∀ k, k < 2176 → W 75 k = false) (h3 : ∀ k, W 76 k = false) : MUx G' R U := ⟨(hf.I h1).trans h.1, by rw [hf.IA _ h3]; exact h.2.rows h16 rfl rfl (fun j hj => hf.I (h2 j hj))⟩
/-- the model stands for X', part by part -/
theorem MPx.mk {W : Nat → Nat → Bool} {G G' : XH} {X X' : XDt} (h : MPx G X) (hf : Fr W G G') (hk : ∀ a k, a = 85 ∨ a = 86 ∨ a = 87 → W a k = false) (ho : hpI G' 70 20 = 0) (r : hpI G' 72 = X'.1.1) (u : MUx G' X'.1.1 X'.2.1) (t : MTp G' X'.2.2.1) (m : MMs G' X'.2.2.2.1) (f : MRf G' X'.2.2.2.2.1) (d : MDr G' X'.2.2.2.2.2.1) (i : MIm G' X'.2.2.2.2.2.2) : MPx G' X' := ⟨⟨hf.ms h.1.1, h.1.2.1.fr hf (fun k => hk _ k (Or.inl rfl)) (fun k => hk _ k (Or.inr (Or.inl rfl))) (fun k => hk _ k (Or.inr (Or.inr rfl))), ho⟩, r, u, t, m, f, d, i⟩
/-- what the model reads for X -/
def MRd' (a k : Nat) : Prop := a = 71 ∨ a = 72 ∨ a = 73 ∨ a = 74 ∨ (a = 75 ∧ k < 2176) ∨ a = 76 ∨ a = 79 ∨ a = 85 ∨ a = 86 ∨ a = 87 ∨ a = 104 ∨ (a = 70 ∧ (k = 1 ∨ k = 8 ∨ k = 11 ∨ k = 13 ∨ k = 18 ∨ k = 20 ∨ k = 60 ∨ k = 64))
/-- a call of the model that leaves all -/
theorem MPx.scr {W : Nat → Nat → Bool} {G G' : XH} {X : XDt} (h : MPx G X) (h16 : X.2.1.1 ≤ 16) (hf : Fr W G G') (hr : hpI G' 72 = X.1.1) (hW : ∀ a k, MRd' a k → ¬ a = 72 → W a k = false) : MPx G' X := by
  have h0 := h
  obtain ⟨⟨a1, a2, a3⟩, b, c, d, e, f, g, i⟩ := h
  refine h0.mk hf (fun a k hk => hW a k ?_ ?_) ((hf.I (hW _ _ ?_ ?_)).trans a3) hr (c.fr hf h16 (hW _ _ ?_ ?_) (fun k hk => hW _ _ ?_ ?_) (fun k => hW _ _ ?_ ?_)) (d.fr hf (hW _ _ ?_ ?_) (fun k => hW _ _ ?_ ?_)) (e.fr hf (hW _ _ ?_ ?_) (hW _ _ ?_ ?_) (hW _ _ ?_ ?_) (hW _ _ ?_ ?_)) (f.fr hf (fun k => hW _ _ ?_ ?_)) (g.fr hf (hW _ _ ?_ ?_) (fun k => hW _ _ ?_ ?_)) (i.fr hf (fun k => hW _ _ ?_ ?_) (fun k => hW _ _ ?_ ?_))
  all_goals (first | (unfold MRd'; omega) | omega)
theorem MPx.t0 {G : XH} {X : XDt} (h : MPx G X) (h16 : X.2.1.1 ≤ 16) : MPx (stI G 70 0 0) X := h.scr (W := fun a k => a == 70 && k == 0) h16 (Fr.refl.wI rfl) (by rw [stI_up, hpI_stA_ne (by decide)]; exact h.2.1) (fun a k hk _ => by
  unfold MRd' at hk
  have : ¬ (a = 70 ∧ k = 0) := by omega
  simpa using this)
/-- what tell may be told -/
def tlV (v : Int32) : Prop := ¬ v < 0 ∨ v = -1 ∨ v = -2 ∨ v = -3 ∨ v = -5 ∨ v = -6
theorem tlV_ix {v : Int32} (h : tlV v) (hv : v < 0) : (-v).toNatClampNeg = mIx (ixC v) := by
  rcases h with z | rfl | rfl | rfl | rfl | rfl
  · exact absurd hv z
  all_goals (decide +kernel)
theorem mIx_inj {i j : Nat} (h : mIx i = mIx j) : i = j := by
  unfold mIx at h
  split at h <;> split at h <;> omega
theorem MPx.tell {G : XH} {X : XDt} (h : MPx G X) (h16 : X.2.1.1 ≤ 16) {v : Int32} (hv : tlV v) : MPx (tellH v G) (tlX X v) := by
  have h0 := h
  have hf : Fr (fun a k => a == 71 || (a == 70 && k == 1)) G (tellH v G) := by
    unfold tellH
    split
    · exact (Fr.refl.wI rfl).wI (by simp)
    · exact Fr.refl.wI rfl
  obtain ⟨⟨a1, a2, a3⟩, b, c, d, ⟨e1, e2, e3, e4⟩, f, g, i⟩ := h
  refine h0.mk hf (fun a k hk => by rcases hk with rfl | rfl | rfl <;> rfl) ((hf.I rfl).trans a3) ((hf.IA _ (fun _ => rfl)).trans b) (c.fr hf h16 rfl (fun k _ => rfl) (fun k => rfl)) (d.fr hf rfl (fun k => rfl)) ⟨(hf.I rfl).trans e1, (hf.I rfl).trans e2, (hf.I rfl).trans e3, tH_s⟩ (fun j hj => ?_) (g.fr hf rfl (fun k => rfl)) (i.fr hf (fun k => rfl) (fun k => rfl))
  rw [tH_r]
  show rfM (hpI G 71) v (mIx j) = rfC X.2.2.2.2.1 v j
  unfold rfM rfC
  by_cases q : v < 0
  · rw [if_pos q, if_pos q, tlV_ix hv q]
    unfold up
    by_cases e : j = ixC v
    · rw [if_pos (by rw [e]), if_pos e, f _ ixC_lt]
    · rw [if_neg (fun z => e (mIx_inj z)), if_neg e]
      exact f j hj
  · rw [if_neg q, if_neg q]
    exact f j hj
theorem MPx.fg {G : XH} {X : XDt} (h : MPx G X) : MPx (stI G 70 8 0) (fgX X) := by
  have h0 := h
  have hf : Fr (fun a k => a == 70 && k == 8) G (stI G 70 8 0) := Fr.refl.wI rfl
  obtain ⟨⟨a1, a2, a3⟩, b, c, d, e, f, g, i⟩ := h
  refine h0.mk hf (fun a k hk => by rcases hk with rfl | rfl | rfl <;> rfl) ((hf.I rfl).trans a3) ((hf.IA _ (fun _ => rfl)).trans b) ⟨?_, fun k hk => absurd hk (Nat.not_lt_zero k)⟩ (d.fr hf rfl (fun k => rfl)) (e.fr hf rfl rfl rfl rfl) (f.fr hf (fun k => rfl)) (g.fr hf rfl (fun k => rfl)) (i.fr hf (fun k => rfl) (fun k => rfl))
  rw [stI_up, hpI_stA, up_eq]
  rfl
/-- the model's row anew -/
theorem MPx.rw {G : XH} {X : XDt} (h : MPx G X) (h16 : X.2.1.1 ≤ 16) {W : WDt} (h12 : (W.1 1 = X.1.1 1 ∧ W.1 2 = X.1.1 2) ∨ X.2.1.1 = 0) : MPx (stA G 72 W.1) (wX X W) := by
  have h0 := h
  have hf : Fr (fun a _ => a == 72) G (stA G 72 W.1) := Fr.refl.wA (fun k q => absurd q (by simp))
  obtain ⟨⟨a1, a2, a3⟩, b, c, d, e, f, g, i⟩ := h
  refine h0.mk hf (fun a k hk => by rcases hk with rfl | rfl | rfl <;> rfl) ((hf.I rfl).trans a3) (by rw [hpI_stA]; rfl) ⟨(hf.I rfl).trans c.1, ?_⟩ (d.fr hf rfl (fun k => rfl)) (e.fr hf rfl rfl rfl rfl) (f.fr hf (fun k => rfl)) (g.fr hf rfl (fun k => rfl)) (i.fr hf (fun k => rfl) (fun k => rfl))
  rw [hf.IA 75 (fun _ => rfl), hf.IA 76 (fun _ => rfl)]
  rcases h12 with ⟨z1, z2⟩ | z
  · exact c.2.rows h16 z1 z2 (fun _ _ => rfl)
  · intro k hk
    have hk' : k < X.2.1.1 := hk
    omega
