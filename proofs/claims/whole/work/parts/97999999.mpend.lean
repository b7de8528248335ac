/-- an instruction of the model as the pure machine has it -/
def dcN (od : Bool) (o a : Nat) : Nat × Nat := if o = 0 then (0, a) else if o < 20 then (if od = true ∧ o = 6 then (1, 5 + a) else if od = true ∧ o = 7 then (1, 13 + a) else (1, o - 1)) else if o < 28 then (o - 18, 0) else if o = 28 then (10, 0) else if o = 29 then (12, a) else (11, a)
def dI (od : Bool) (J : Nat → Nat × Nat) : Nat → Nat × Nat := fun k => dcN od (J k).1 (J k).2
def MIJ (od : Bool) (x : Nat × Nat) : Prop := MI od (nI x.1) (nI x.2) (dcN od x.1 x.2)
def OKJ (nw : Nat) (od : Bool) (J : Nat → Nat × Nat) (p q h : Nat) (f : SF) : Prop := OKc nw (dI od J) p q h f ∧ ∀ k, p ≤ k → k < q → MIJ od (J k)
theorem OKJ.congr {nw : Nat} {od : Bool} {J J' : Nat → Nat × Nat} {p q h : Nat} {f : SF} (k : OKJ nw od J p q h f) (e : ∀ k, p ≤ k → k < q → J' k = J k) : OKJ nw od J' p q h f := ⟨k.1.congr (fun j h1 h2 => by unfold dI; rw [e j h1 h2]), fun j h1 h2 => by rw [e j h1 h2]; exact k.2 j h1 h2⟩
def upJ (J : Nat → Nat × Nat) (q : Nat) (x : Nat × Nat) : Nat → Nat × Nat := fun k => if k = q then x else J k
theorem upJ_eq {J : Nat → Nat × Nat} {q : Nat} {x : Nat × Nat} : upJ J q x q = x := by unfold upJ; rw [if_pos rfl]
theorem upJ_ne {J : Nat → Nat × Nat} {q k : Nat} {x : Nat × Nat} (h : ¬ k = q) : upJ J q x k = J k := by unfold upJ; rw [if_neg h]
/-- what is pending is settled -/
def stF : List (Nat × Nat) → (Nat → Nat × Nat) × Nat → (Nat → Nat × Nat) × Nat
  | [], s => s
  | x :: r, s => stF r (if x.1 = 29 ∨ x.1 = 30 then (upJ s.1 x.2 ((s.1 x.2).1, s.2), s.2) else (upJ s.1 s.2 (x.1, 0), s.2 + 1))
theorem stF_app : ∀ (r t : List (Nat × Nat)) (s : (Nat → Nat × Nat) × Nat), stF (r ++ t) s = stF t (stF r s)
  | [], _, _ => rfl
  | x :: r, t, s => by rw [List.cons_append, stF, stF, stF_app r t]
/-- jumps that are pending lie behind p -/
def JAt (p q : Nat) (r : List (Nat × Nat)) : Prop := ∀ x, x ∈ r → (x.1 = 29 ∨ x.1 = 30) → p ≤ x.2 ∧ x.2 < q
theorem stF_low : ∀ (r : List (Nat × Nat)) (J : Nat → Nat × Nat) (q p e : Nat), p ≤ q → JAt p e r → (∀ k, k < p → (stF r (J, q)).1 k = J k) ∧ q ≤ (stF r (J, q)).2 ∧ (stF r (J, q)).2 ≤ q + r.length
  | [], J, q, p, e, h, hr => ⟨fun _ _ => rfl, Nat.le_refl _, Nat.le_refl _⟩
  | x :: r, J, q, p, e, h, hr => by
    rw [stF, List.length_cons]
    by_cases hx : x.1 = 29 ∨ x.1 = 30
    · rw [if_pos hx]
      dsimp only
      have h1 := hr x (List.mem_cons_self ..) hx
      have h2 := stF_low r (upJ J x.2 ((J x.2).1, q)) q p e h (fun y hy => hr y (List.mem_cons_of_mem _ hy))
      exact ⟨fun k hk => by rw [h2.1 k hk, upJ_ne (by omega)], h2.2.1, by omega⟩
    · rw [if_neg hx]
      dsimp only
      have h2 := stF_low r (upJ J q (x.1, 0)) (q + 1) p e (by omega) (fun y hy => hr y (List.mem_cons_of_mem _ hy))
      exact ⟨fun k hk => by rw [h2.1 k hk, upJ_ne (by omega)], by omega, by omega⟩
def Pnd (nw : Nat) (od : Bool) (r : List (Nat × Nat)) (J : Nat → Nat × Nat) (p q h : Nat) (f : SF) : Prop := OKJ nw od (stF r (J, q)).1 p (stF r (J, q)).2 h f
theorem MIJ_bin {od : Bool} {o : Nat} (h : 20 ≤ o ∧ o ≤ 27) : dcN od o 0 = (o - 18, 0) ∧ MIJ od (o, 0) := by
  have e : dcN od o 0 = (o - 18, 0) := by unfold dcN; rw [if_neg (by omega), if_neg (by omega), if_pos (by omega)]
  refine ⟨e, ?_⟩
  unfold MIJ
  dsimp only
  rw [e]
  unfold MI
  dsimp only
  exact Or.inr (Or.inr (Or.inr (Or.inr (Or.inl ⟨by omega, by omega, by congr 1; omega⟩))))
theorem MIJ_not {od : Bool} : dcN od 28 0 = (10, 0) ∧ MIJ od (28, 0) := by
  refine ⟨rfl, ?_⟩
  unfold MIJ MI
  exact Or.inr (Or.inr (Or.inr (Or.inr (Or.inr (Or.inl ⟨rfl, rfl⟩)))))
theorem MIJ_jmp {od : Bool} {o a : Nat} (h : o = 29 ∨ o = 30) (ha : a ≤ 400) : dcN od o a = ((if o = 29 then 12 else 11), a) ∧ MIJ od (o, a) := by
  rcases h with rfl | rfl
  · refine ⟨rfl, ?_⟩
    unfold MIJ MI
    exact Or.inr (Or.inr (Or.inr (Or.inr (Or.inr (Or.inr (Or.inl ⟨rfl, rfl, rfl, ha⟩))))))
  · refine ⟨rfl, ?_⟩
    unfold MIJ MI
    exact Or.inr (Or.inr (Or.inr (Or.inr (Or.inr (Or.inr (Or.inr ⟨rfl, rfl, rfl, ha⟩))))))
theorem Pnd.nil {nw : Nat} {od : Bool} {J : Nat → Nat × Nat} {p q h : Nat} {f : SF} (k : OKJ nw od J p q h f) : Pnd nw od [] J p q h f := k
theorem Pnd.bin {nw : Nat} {od : Bool} {J J' : Nat → Nat × Nat} {p q q' e h1 h2 o : Nat} {f g : SF} {r : List (Nat × Nat)} (hf : OKJ nw od J p q h1 f) (hg : Pnd nw od r J' q q' h2 g) (hJ : ∀ k, k < q → J' k = J k) (hr : JAt q e r) (hq : q ≤ q') (ho : 20 ≤ o ∧ o ≤ 27) : Pnd nw od (r ++ [(o, 0)]) J' p q' (h1 + h2) (fbin (o - 18) f g) := by
  unfold Pnd at hg ⊢
  rw [stF_app]
  have hl := stF_low r J' q' q e hq hr
  generalize stF r (J', q') = s at hg hl
  show OKJ nw od (if o = 29 ∨ o = 30 then (upJ s.1 0 ((s.1 0).1, s.2), s.2) else (upJ s.1 s.2 (o, 0), s.2 + 1)).1 p (if o = 29 ∨ o = 30 then (upJ s.1 0 ((s.1 0).1, s.2), s.2) else (upJ s.1 s.2 (o, 0), s.2 + 1)).2 (h1 + h2) _
  rw [if_neg (by omega)]
  dsimp only
  obtain ⟨m1, m2⟩ := MIJ_bin (od := od) ho
  have z1 := hf.1.1
  have z2 := hg.1.1
  have k1 : OKJ nw od (upJ s.1 s.2 (o, 0)) p q h1 f := hf.congr (fun k y1 y2 => by rw [upJ_ne (by omega), hl.1 k y2, hJ k y2])
  have k2 : OKJ nw od (upJ s.1 s.2 (o, 0)) q s.2 h2 g := hg.congr (fun k y1 y2 => by rw [upJ_ne (by omega)])
  refine ⟨OKc_bin k1.1 k2.1 (by omega) (by unfold dI; rw [upJ_eq]; exact m1), fun k y1 y2 => ?_⟩
  rcases (show k < q ∨ (q ≤ k ∧ k < s.2) ∨ k = s.2 by omega) with y | y | y
  · exact k1.2 k y1 y
  · exact k2.2 k y.1 y.2
  · rw [y, upJ_eq]; exact m2
theorem Pnd.nt {nw : Nat} {od : Bool} {J : Nat → Nat × Nat} {p q h1 : Nat} {f : SF} {r : List (Nat × Nat)} (hg : Pnd nw od r J p q h1 f) : Pnd nw od (r ++ [(28, 0)]) J p q h1 (fnot f) := by
  unfold Pnd at hg ⊢
  rw [stF_app]
  generalize stF r (J, q) = s at hg
  show OKJ nw od (upJ s.1 s.2 (28, 0)) p (s.2 + 1) h1 _
  obtain ⟨m1, m2⟩ := MIJ_not (od := od)
  have z1 := hg.1.1
  have k1 : OKJ nw od (upJ s.1 s.2 (28, 0)) p s.2 h1 f := hg.congr (fun k y1 y2 => by rw [upJ_ne (by omega)])
  refine ⟨OKc_not k1.1 (by unfold dI; rw [upJ_eq]; exact m1), fun k y1 y2 => ?_⟩
  rcases (show k < s.2 ∨ k = s.2 by omega) with y | y
  · exact k1.2 k y1 y
  · rw [y, upJ_eq]; exact m2
theorem Pnd.jmp {nw : Nat} {od : Bool} {J J' : Nat → Nat × Nat} {p q q' e h1 h2 o : Nat} {f g : SF} {r : List (Nat × Nat)} (hf : OKJ nw od J p q h1 f) (hg : Pnd nw od r J' (q + 1) q' h2 g) (hJ : ∀ k, k < q + 1 → J' k = upJ J q (o, 0) k) (hr : JAt (q + 1) e r) (hq : q + 1 ≤ q') (ho : o = 29 ∨ o = 30) (h4 : (stF r (J', q')).2 ≤ 400) : Pnd nw od (r ++ [(o, q)]) J' p q' (h1 + h2) (gCo (if o = 29 then 12 else 11) f g) := by
  unfold Pnd at hg ⊢
  rw [stF_app]
  have hl := stF_low r J' q' (q + 1) e hq hr
  generalize stF r (J', q') = s at hg hl h4
  show OKJ nw od (if o = 29 ∨ o = 30 then (upJ s.1 q ((s.1 q).1, s.2), s.2) else (upJ s.1 s.2 (o, 0), s.2 + 1)).1 p (if o = 29 ∨ o = 30 then (upJ s.1 q ((s.1 q).1, s.2), s.2) else (upJ s.1 s.2 (o, 0), s.2 + 1)).2 (h1 + h2) _
  rw [if_pos ho]
  dsimp only
  have eq : s.1 q = (o, 0) := by rw [hl.1 q (by omega), hJ q (by omega), upJ_eq]
  rw [eq]
  dsimp only
  obtain ⟨m1, m2⟩ := MIJ_jmp (od := od) ho h4
  have z1 := hf.1.1
  have z2 := hg.1.1
  have k1 : OKJ nw od (upJ s.1 q (o, s.2)) p q h1 f := hf.congr (fun k y1 y2 => by rw [upJ_ne (by omega), hl.1 k (by omega), hJ k (by omega), upJ_ne (by omega)])
  have k2 : OKJ nw od (upJ s.1 q (o, s.2)) (q + 1) s.2 h2 g := hg.congr (fun k y1 y2 => by rw [upJ_ne (by omega)])
  refine ⟨OKc_jmp (by rcases ho with rfl | rfl <;> simp) k1.1 k2.1 (by unfold dI; rw [upJ_eq]; exact m1) h4, fun k y1 y2 => ?_⟩
  rcases (show k < q ∨ k = q ∨ (q + 1 ≤ k ∧ k < s.2) by omega) with y | y | y
  · exact k1.2 k y1 y
  · rw [y, upJ_eq]; exact m2
  · exact k2.2 k y.1 y.2
/-- how an operation binds -/
def bnd (o : Nat) : Nat := if 31 ≤ o then 0 else if o = 30 then 1 else if o = 29 then 2 else if o = 28 then 3 else if 25 ≤ o then 4 else if 22 ≤ o then 6 else 5
/-- how many brackets are open -/
def nBr : List (Nat × Nat) → Nat
  | [] => 0
  | x :: r => (if 31 ≤ x.1 then 1 else 0) + nBr r
theorem nBr_app : ∀ r t : List (Nat × Nat), nBr (r ++ t) = nBr r + nBr t
  | [], t => by rw [List.nil_append, nBr, Nat.zero_add]
  | x :: r, t => by rw [List.cons_append, nBr, nBr, nBr_app r t, Nat.add_assoc]
/-- all bind so, and none is a bracket -/
def LvA (lev : Nat) (r : List (Nat × Nat)) : Prop := ∀ x, x ∈ r → lev ≤ bnd x.1 ∧ 20 ≤ x.1 ∧ x.1 < 31
/-- the next binds less -/
def LvB (lev : Nat) (r : List (Nat × Nat)) : Prop := ∀ x t, r = x :: t → bnd x.1 < lev
theorem nBr_0 {lev : Nat} : ∀ {r : List (Nat × Nat)}, LvA lev r → nBr r = 0
  | [], _ => rfl
  | x :: r, h => by
    have h1 := h x (List.mem_cons_self ..)
    rw [nBr, if_neg (by omega), nBr_0 (fun y hy => h y (List.mem_cons_of_mem _ hy))]
theorem LvA.app {lev : Nat} {r t : List (Nat × Nat)} (h : LvA lev r) (k : LvA lev t) : LvA lev (r ++ t) := fun x hx => by
  rcases List.mem_append.mp hx with y | y
  · exact h x y
  · exact k x y
theorem LvA.le {lev lev' : Nat} {r : List (Nat × Nat)} (h : LvA lev r) (k : lev' ≤ lev) : LvA lev' r := fun x hx => ⟨Nat.le_trans k (h x hx).1, (h x hx).2⟩
theorem JAt.app {p q : Nat} {r t : List (Nat × Nat)} (h : JAt p q r) (k : JAt p q t) : JAt p q (r ++ t) := fun x hx => by
  rcases List.mem_append.mp hx with y | y
  · exact h x y
  · exact k x y
theorem JAt.le {p q p' q' : Nat} {r : List (Nat × Nat)} (h : JAt p q r) (h1 : p' ≤ p) (h2 : q ≤ q') : JAt p' q' r := fun x hx z => by have := h x hx z; omega
theorem JAt.no {p q : Nat} {r : List (Nat × Nat)} (h : ∀ x, x ∈ r → ¬ (x.1 = 29 ∨ x.1 = 30)) : JAt p q r := fun x hx z => absurd z (h x hx)
/-- the innermost bracket -/
def inB : List (Nat × Nat) → Int32
  | [] => -1
  | x :: r => if 31 ≤ x.1 then nI x.1 else inB r
theorem inB_app {lev : Nat} : ∀ {r t : List (Nat × Nat)}, LvA lev r → inB (r ++ t) = inB t
  | [], _, _ => rfl
  | x :: r, t, h => by
    have h1 := h x (List.mem_cons_self ..)
    rw [List.cons_append, inB, if_neg (by omega), inB_app (fun y hy => h y (List.mem_cons_of_mem _ hy))]
