/-! THE ABSTRACT HEAP: cells by numbers 0, 1, ..; a cell's kind (below 20 a class of 'classes', 20 int[], 21 boolean[], 22 long[], 23 int[][], 24 World[], 25 Text[], 99 nothing), its length, its ints, longs, references; how many cells there are, how many slots they have -/
abbrev XH : Type := (Nat → Nat) × (Nat → Nat) × (Nat → Nat → Int32) × (Nat → Nat → Int64) × (Nat → Nat → Option Nat) × Nat × Nat
abbrev hpC (G : XH) : Nat → Nat := G.1
abbrev hpN (G : XH) : Nat → Nat := G.2.1
abbrev hpI (G : XH) : Nat → Nat → Int32 := G.2.2.1
abbrev hpL (G : XH) : Nat → Nat → Int64 := G.2.2.2.1
abbrev hpR (G : XH) : Nat → Nat → Option Nat := G.2.2.2.2.1
abbrev hpZ (G : XH) : Nat := G.2.2.2.2.2.1
abbrev hpS (G : XH) : Nat := G.2.2.2.2.2.2
def up1 {α : Type} (f : Nat → α) (a : Nat) (v : α) : Nat → α := fun x => if x = a then v else f x
def up2 {α : Type} (f : Nat → Nat → α) (a k : Nat) (v : α) : Nat → Nat → α := fun x y => if x = a then (if y = k then v else f x y) else f x y
def stI (G : XH) (a k : Nat) (v : Int32) : XH := (G.1, G.2.1, up2 G.2.2.1 a k v, G.2.2.2.1, G.2.2.2.2.1, G.2.2.2.2.2.1, G.2.2.2.2.2.2)
def stL (G : XH) (a k : Nat) (v : Int64) : XH := (G.1, G.2.1, G.2.2.1, up2 G.2.2.2.1 a k v, G.2.2.2.2.1, G.2.2.2.2.2.1, G.2.2.2.2.2.2)
def stR (G : XH) (a k : Nat) (v : Option Nat) : XH := (G.1, G.2.1, G.2.2.1, G.2.2.2.1, up2 G.2.2.2.2.1 a k v, G.2.2.2.2.2.1, G.2.2.2.2.2.2)
/-- one row of ints as a whole -/
def stA (G : XH) (a : Nat) (f : Nat → Int32) : XH := (G.1, G.2.1, up1 G.2.2.1 a f, G.2.2.2.1, G.2.2.2.2.1, G.2.2.2.2.2.1, G.2.2.2.2.2.2)
/-- a new cell of a kind c, a length n (its slots), all 0 -/
def stN (G : XH) (c n : Nat) : XH := (up1 G.1 G.2.2.2.2.2.1 c, up1 G.2.1 G.2.2.2.2.2.1 n, up1 G.2.2.1 G.2.2.2.2.2.1 (fun _ => 0), up1 G.2.2.2.1 G.2.2.2.2.2.1 (fun _ => 0), up1 G.2.2.2.2.1 G.2.2.2.2.2.1 (fun _ => none), G.2.2.2.2.2.1 + 1, G.2.2.2.2.2.2 + n)
/-- a value as the machine has it: cells lie from b on; what was there before (texts, tables) by 'retAddr' and its own address -/
def xtr (b : Nat) (ad : Nat → Option Nat) (v : Value) : Value := match v with
  | .ref j => .ref (b + j)
  | .retAddr k => va_rf (ad k)
  | w => w
theorem xtr_cat {b : Nat} {ad : Nat → Option Nat} (v : Value) : (xtr b ad v).category = v.category := by
  cases v with
  | retAddr k =>
    show (va_rf (ad k)).category = 1
    cases ad k <;> rfl
  | _ => rfl
def xfv (b : Nat) (G : XH) (t j k : Nat) : Value := match t with
  | 0 => .int (hpI G j k)
  | 1 => .long (hpL G j k)
  | _ => va_rf ((hpR G j k).map (b + ·))
def xfs (b : Nat) (G : XH) (c j : Nat) : List Value := (List.range (xnf c)).map (fun k => xfv b G (xft c k) j k)
def xct (b : Nat) (G : XH) (c j : Nat) : (Nat → Int32) ⊕ (Nat → Int64) ⊕ (Nat → UInt32) ⊕ (Nat → UInt64) ⊕ (Nat → Option Nat) :=
  if c = 20 ∨ c = 21 then .inl (hpI G j) else if c = 22 then .inr (.inl (hpL G j)) else .inr (.inr (.inr (.inr (fun i => (hpR G j i).map (b + ·)))))
def xcell (b : Nat) (dA : Nat → ClassId) (G : XH) (j : Nat) : va_E := if hpC G j < 20 then .inr (hpC G j, xfs b G (hpC G j) j) else .inl (dA (hpC G j), hpN G j, xct b G (hpC G j) j)
def xws (b : Nat) (dA : Nat → ClassId) (G : XH) : va_W := (List.range (hpZ G)).map fun j => (b + j, xcell b dA G j)
theorem xws_get {b : Nat} {dA : Nat → ClassId} {G : XH} {j : Nat} (h : j < hpZ G) : (xws b dA G)[j]? = some (b + j, xcell b dA G j) := by
  simp [xws, h]
theorem xws_none {b : Nat} {dA : Nat → ClassId} {G : XH} {j : Nat} (h : ¬ j < hpZ G) : (xws b dA G)[j]? = none := by
  simp [xws]; omega
theorem xws_len {b : Nat} {dA : Nat → ClassId} {G : XH} : (xws b dA G).length = hpZ G := by simp [xws]
theorem xws_some {b : Nat} {dA : Nat → ClassId} {G : XH} {j : Nat} {q : Nat × va_E} (h : (xws b dA G)[j]? = some q) : j < hpZ G ∧ q = (b + j, xcell b dA G j) := by
  by_cases hj : j < hpZ G
  · rw [xws_get hj] at h
    exact ⟨hj, (Option.some.inj h).symm⟩
  · rw [xws_none hj] at h
    cases h
abbrev xA (b : Nat) : Nat → Prop := fun q => b ≤ q
theorem xws_D {b : Nat} {dA : Nat → ClassId} {G : XH} : va_D (xA b) (xws b dA G) := by
  refine ⟨fun i j p q hi hj hpq => ?_, fun k q hk => ?_⟩
  · obtain ⟨-, rfl⟩ := xws_some hi
    obtain ⟨-, rfl⟩ := xws_some hj
    have : b + i = b + j := hpq
    omega
  · obtain ⟨-, rfl⟩ := xws_some hk
    exact Nat.le_add_right b k
/-- one cell changes -/
theorem xws_set {b : Nat} {dA : Nat → ClassId} {G G' : XH} {j : Nat} {e : va_E} (hz : hpZ G' = hpZ G) (ho : ∀ i, i ≠ j → xcell b dA G' i = xcell b dA G i) (he : xcell b dA G' j = e) : (xws b dA G).set j (b + j, e) = xws b dA G' := by
  apply List.ext_getElem?
  intro i
  by_cases hij : i = j
  · subst hij
    by_cases hi : i < hpZ G
    · rw [List.getElem?_set_self (by rw [xws_len]; exact hi), xws_get (by rw [hz]; exact hi), he]
    · rw [xws_none (G := G') (by rw [hz]; exact hi)]
      rw [List.getElem?_eq_none_iff]
      rw [List.length_set, xws_len]
      omega
  · rw [List.getElem?_set_ne (fun h => hij h.symm)]
    by_cases hi : i < hpZ G
    · rw [xws_get hi, xws_get (by rw [hz]; exact hi), ho i hij]
    · rw [xws_none hi, xws_none (by rw [hz]; exact hi)]
theorem up2_ne {α : Type} {f : Nat → Nat → α} {a k x : Nat} {v : α} (h : x ≠ a) : up2 f a k v x = f x := by
  funext y
  simp [up2, h]
theorem up2_same {α : Type} {f : Nat → Nat → α} {a k : Nat} {v : α} : up2 f a k v a = fun y => if y = k then v else f a y := by
  funext y
  simp [up2]
theorem up1_ne {α : Type} {f : Nat → α} {a x : Nat} {v : α} (h : x ≠ a) : up1 f a v x = f x := by simp [up1, h]
theorem up1_same {α : Type} {f : Nat → α} {a : Nat} {v : α} : up1 f a v a = v := by simp [up1]
/-- a cell looks at its own rows alone -/
theorem xcell_eq {b : Nat} {dA : Nat → ClassId} {G G' : XH} {i : Nat} (h1 : hpC G' i = hpC G i) (h2 : hpN G' i = hpN G i) (h3 : hpI G' i = hpI G i) (h4 : hpL G' i = hpL G i) (h5 : hpR G' i = hpR G i) : xcell b dA G' i = xcell b dA G i := by
  unfold xcell xfs xct xfv
  simp only [h1, h2, h3, h4, h5]
theorem xfs_len {b : Nat} {G : XH} {c j : Nat} : (xfs b G c j).length = xnf c := by simp [xfs]
theorem xfs_get {b : Nat} {G : XH} {c j k : Nat} (hk : k < xnf c) : (xfs b G c j)[k]? = some (xfv b G (xft c k) j k) := by simp [xfs, hk]
theorem xfs_set {b : Nat} {G G' : XH} {c j k : Nat} {v : Value} (hk : k < xnf c) (hv : xfv b G' (xft c k) j k = v) (ho : ∀ i, i ≠ k → xfv b G' (xft c i) j i = xfv b G (xft c i) j i) : (xfs b G c j).set k v = xfs b G' c j := by
  apply List.ext_getElem?
  intro i
  by_cases hik : i = k
  · subst hik
    rw [List.getElem?_set_self (by rw [xfs_len]; exact hk), xfs_get hk, hv]
  · rw [List.getElem?_set_ne (fun h => hik h.symm)]
    by_cases hi : i < xnf c
    · rw [xfs_get hi, xfs_get hi, ho i hik]
    · rw [List.getElem?_eq_none_iff.mpr (by rw [xfs_len]; omega), List.getElem?_eq_none_iff.mpr (by rw [xfs_len]; omega)]
theorem xws_stI_f {b : Nat} {dA : Nat → ClassId} {G : XH} {c j k : Nat} {v : Int32} (hc : hpC G j = c) (hc20 : c < 20) (hk : k < xnf c) (ht : xft c k = 0) : (xws b dA G).set j (b + j, .inr (c, (xfs b G c j).set k (.int v))) = xws b dA (stI G j k v) := by
  refine xws_set rfl (fun i hi => xcell_eq rfl rfl (up2_ne hi) rfl rfl) ?_
  have h1 : hpC (stI G j k v) j = c := hc
  unfold xcell
  rw [h1, if_pos hc20]
  congr 2
  refine (xfs_set hk ?_ ?_).symm
  · rw [ht]
    simp [xfv, stI, up2, hpI, hpL, hpR]
  · intro i hi
    unfold xfv
    simp [stI, up2, hi, hpI, hpL, hpR]
theorem xws_stL_f {b : Nat} {dA : Nat → ClassId} {G : XH} {c j k : Nat} {v : Int64} (hc : hpC G j = c) (hc20 : c < 20) (hk : k < xnf c) (ht : xft c k = 1) : (xws b dA G).set j (b + j, .inr (c, (xfs b G c j).set k (.long v))) = xws b dA (stL G j k v) := by
  refine xws_set rfl (fun i hi => xcell_eq rfl rfl rfl (up2_ne hi) rfl) ?_
  have h1 : hpC (stL G j k v) j = c := hc
  unfold xcell
  rw [h1, if_pos hc20]
  congr 2
  refine (xfs_set hk ?_ ?_).symm
  · rw [ht]
    simp [xfv, stL, up2, hpI, hpL, hpR]
  · intro i hi
    unfold xfv
    simp [stL, up2, hi, hpI, hpL, hpR]
theorem xws_stR_f {b : Nat} {dA : Nat → ClassId} {G : XH} {c j k : Nat} {v : Option Nat} (hc : hpC G j = c) (hc20 : c < 20) (hk : k < xnf c) (ht : xft c k = 2) : (xws b dA G).set j (b + j, .inr (c, (xfs b G c j).set k (va_rf (v.map (b + ·))))) = xws b dA (stR G j k v) := by
  refine xws_set rfl (fun i hi => xcell_eq rfl rfl rfl rfl (up2_ne hi)) ?_
  have h1 : hpC (stR G j k v) j = c := hc
  unfold xcell
  rw [h1, if_pos hc20]
  congr 2
  refine (xfs_set hk ?_ ?_).symm
  · rw [ht]
    simp [xfv, stR, up2, hpI, hpL, hpR]
  · intro i hi
    unfold xfv
    simp [stR, up2, hi, hpI, hpL, hpR]
/-- arrays -/
theorem xcell_i {b : Nat} {dA : Nat → ClassId} {G : XH} {j c : Nat} (hc : hpC G j = c) (h : c = 20 ∨ c = 21) : xcell b dA G j = .inl (dA c, hpN G j, .inl (hpI G j)) := by
  subst hc
  unfold xcell xct
  rw [if_neg (by omega), if_pos h]
theorem xcell_l {b : Nat} {dA : Nat → ClassId} {G : XH} {j : Nat} (hc : hpC G j = 22) : xcell b dA G j = .inl (dA 22, hpN G j, .inr (.inl (hpL G j))) := by
  unfold xcell xct
  rw [hc, if_neg (by omega), if_neg (by omega), if_pos rfl]
theorem xcell_r {b : Nat} {dA : Nat → ClassId} {G : XH} {j c : Nat} (hc : hpC G j = c) (h : 23 ≤ c) : xcell b dA G j = .inl (dA c, hpN G j, .inr (.inr (.inr (.inr (fun i => (hpR G j i).map (b + ·)))))) := by
  subst hc
  unfold xcell xct
  rw [if_neg (by omega), if_neg (by omega), if_neg (by omega)]
theorem xcell_o {b : Nat} {dA : Nat → ClassId} {G : XH} {j c : Nat} (hc : hpC G j = c) (h : c < 20) : xcell b dA G j = .inr (c, xfs b G c j) := by
  subst hc
  unfold xcell
  rw [if_pos h]
theorem xws_stI_a {b : Nat} {dA : Nat → ClassId} {G : XH} {c j k : Nat} {v : Int32} (hc : hpC G j = c) (h : c = 20 ∨ c = 21) : (xws b dA G).set j (b + j, .inl (dA c, hpN G j, .inl (fun y => if y = k then v else hpI G j y))) = xws b dA (stI G j k v) := by
  refine xws_set rfl (fun i hi => xcell_eq rfl rfl (up2_ne hi) rfl rfl) ?_
  rw [xcell_i (G := stI G j k v) hc h]
  simp [stI, up2_same, hpI, hpL, hpR, hpN]
theorem xws_stA {b : Nat} {dA : Nat → ClassId} {G : XH} {c j : Nat} {f : Nat → Int32} (hc : hpC G j = c) (h : c = 20 ∨ c = 21) : (xws b dA G).set j (b + j, .inl (dA c, hpN G j, .inl f)) = xws b dA (stA G j f) := by
  refine xws_set rfl (fun i hi => xcell_eq rfl rfl (up1_ne hi) rfl rfl) ?_
  rw [xcell_i (G := stA G j f) hc h]
  simp [stA, up1_same, hpI, hpN]
theorem xws_stL_a {b : Nat} {dA : Nat → ClassId} {G : XH} {j k : Nat} {v : Int64} (hc : hpC G j = 22) : (xws b dA G).set j (b + j, .inl (dA 22, hpN G j, .inr (.inl (fun y => if y = k then v else hpL G j y)))) = xws b dA (stL G j k v) := by
  refine xws_set rfl (fun i hi => xcell_eq rfl rfl rfl (up2_ne hi) rfl) ?_
  rw [xcell_l (G := stL G j k v) hc]
  simp [stL, up2_same, hpI, hpL, hpR, hpN]
theorem xws_stR_a {b : Nat} {dA : Nat → ClassId} {G : XH} {c j k : Nat} {v : Option Nat} (hc : hpC G j = c) (h : 23 ≤ c) : (xws b dA G).set j (b + j, .inl (dA c, hpN G j, .inr (.inr (.inr (.inr (fun y => if y = k then v.map (b + ·) else (hpR G j y).map (b + ·))))))) = xws b dA (stR G j k v) := by
  refine xws_set rfl (fun i hi => xcell_eq rfl rfl rfl rfl (up2_ne hi)) ?_
  rw [xcell_r (G := stR G j k v) hc h]
  simp only [stR, up2_same, hpR, hpN]
  have e : (fun i => Option.map (fun x => b + x) (if i = k then v else G.2.2.2.2.1 j i)) = (fun y => if y = k then v.map (b + ·) else (G.2.2.2.2.1 j y).map (b + ·)) := by
    funext y
    by_cases hy : y = k <;> simp [hy]
  rw [e]
/-- a new cell at the end -/
theorem xws_new {b : Nat} {dA : Nat → ClassId} {G : XH} {c n : Nat} {e : va_E} (he : xcell b dA (stN G c n) (hpZ G) = e) : xws b dA G ++ [(b + hpZ G, e)] = xws b dA (stN G c n) := by
  apply List.ext_getElem?
  intro i
  have hz : hpZ (stN G c n) = hpZ G + 1 := rfl
  by_cases hi : i < hpZ G
  · rw [List.getElem?_append_left (by rw [xws_len]; exact hi), xws_get hi, xws_get (by omega)]
    have hne : i ≠ hpZ G := by omega
    rw [xcell_eq (G := G) (G' := stN G c n) (up1_ne hne) (up1_ne hne) (up1_ne hne) (up1_ne hne) (up1_ne hne)]
  · rw [List.getElem?_append_right (by rw [xws_len]; omega), xws_len]
    by_cases h2 : i = hpZ G
    · subst h2
      rw [xws_get (by omega), he]
      simp
    · rw [xws_none (by omega)]
      simp
      omega
