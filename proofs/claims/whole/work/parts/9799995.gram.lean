/-- what a text works out of its words -/
abbrev SF := (Nat → Int64) → Option Int64
/-- a reading: where it stops, or where it went to, how many parts there are, what it works out -/
abbrev GR := Except Nat (Nat × Nat × SF)
/-- the kind of a byte: 1 a small letter, 2 a digit, 0 another or none -/
def kdB (b : Nat → Nat) (len p : Nat) : Nat := if len ≤ p then 0 else if 97 ≤ b p ∧ b p ≤ 122 then 1 else if 48 ≤ b p ∧ b p ≤ 57 then 2 else 0
def skF (b : Nat → Nat) (len : Nat) : Nat → Nat → Nat
  | 0, p => p
  | n + 1, p => if p < len ∧ b p = 32 then skF b len n (p + 1) else p
def rnF (b : Nat → Nat) (len k : Nat) : Nat → Nat → Nat
  | 0, p => p
  | n + 1, p => if p < len ∧ kdB b len p = k then rnF b len k n (p + 1) else p
/-- behind the spaces -/
def skB (b : Nat → Nat) (len p : Nat) : Nat := skF b len (len - p) p
/-- the end of the token -/
def teB (b : Nat → Nat) (len p : Nat) : Nat := if len ≤ p then len else if kdB b len p = 0 then p + 1 else rnF b len (kdB b len p) (len - (p + 1)) (p + 1)
/-- the next token -/
def nxB (b : Nat → Nat) (len p : Nat) : Nat := skB b len (teB b len p)
theorem skF_le {b : Nat → Nat} {len : Nat} : ∀ n p, p ≤ len → p ≤ skF b len n p ∧ skF b len n p ≤ len
  | 0, p, h => ⟨Nat.le_refl _, h⟩
  | n + 1, p, h => by
    rw [skF]
    split
    · next q =>
      have := skF_le (b := b) (len := len) n (p + 1) (by omega)
      omega
    · omega
theorem rnF_le {b : Nat → Nat} {len k : Nat} : ∀ n p, p ≤ len → p ≤ rnF b len k n p ∧ rnF b len k n p ≤ len
  | 0, p, h => ⟨Nat.le_refl _, h⟩
  | n + 1, p, h => by
    rw [rnF]
    split
    · next q =>
      have := rnF_le (b := b) (len := len) (k := k) n (p + 1) (by omega)
      omega
    · omega
theorem teB_le {b : Nat → Nat} {len p : Nat} : teB b len p ≤ len ∧ (p < len → p < teB b len p) := by
  unfold teB
  split
  · omega
  · split
    · omega
    · have := rnF_le (b := b) (len := len) (k := kdB b len p) (len - (p + 1)) (p + 1) (by omega)
      omega
theorem skB_le {b : Nat → Nat} {len p : Nat} (h : p ≤ len) : p ≤ skB b len p ∧ skB b len p ≤ len := skF_le _ p h
theorem nxB_le {b : Nat → Nat} {len p : Nat} : nxB b len p ≤ len ∧ (p < len → p < nxB b len p) := by
  have h1 := teB_le (b := b) (len := len) (p := p)
  have h2 := skB_le (b := b) h1.1
  unfold nxB
  omega
/-- a sign stands there -/
def isS (b : Nat → Nat) (len c p : Nat) : Bool := decide (p < len) && decide (b p = c)
def wEq (b : Nat → Nat) : Nat → List Nat → Bool
  | _, [] => true
  | p, c :: r => decide (b p = c) && wEq b (p + 1) r
/-- a word stands there -/
def isW (b : Nat → Nat) (len : Nat) (w : List Nat) (p : Nat) : Bool := decide (teB b len p = p + w.length) && wEq b p w
theorem isS_lt {b : Nat → Nat} {len c p : Nat} (h : isS b len c p = true) : p < len := by
  unfold isS at h
  simp only [Bool.and_eq_true, decide_eq_true_eq] at h
  exact h.1
theorem isW_lt {b : Nat → Nat} {len p x : Nat} {r : List Nat} (h : isW b len (x :: r) p = true) : p < len := by
  unfold isW at h
  simp only [Bool.and_eq_true, decide_eq_true_eq, List.length_cons] at h
  have := (teB_le (b := b) (len := len) (p := p)).1
  omega
def dvF (b : Nat → Nat) : Nat → Nat → Nat → Nat
  | 0, _, v => v
  | n + 1, p, v => dvF b n (p + 1) (min 1001 (v * 10 + (b p - 48)))
/-- the number that stands there, at most 1001 -/
def nuO (b : Nat → Nat) (len p : Nat) : Option Nat := if kdB b len p = 2 then some (dvF b (teB b len p - p) p 0) else none
theorem dvF_le {b : Nat → Nat} : ∀ n p v, v ≤ 1001 → dvF b n p v ≤ 1001
  | 0, _, _, h => h
  | n + 1, p, v, h => dvF_le n (p + 1) _ (Nat.min_le_left _ _)
theorem nuO_lt {b : Nat → Nat} {len p v : Nat} (h : nuO b len p = some v) : p < len ∧ v ≤ 1001 := by
  unfold nuO at h
  split at h
  · next q =>
    cases h
    refine ⟨?_, dvF_le _ _ _ (by omega)⟩
    unfold kdB at q
    split at q
    · cases q
    · omega
  · cases h
def wIx (b : Nat → Nat) (len p : Nat) : List (List Nat) → Nat → Option Nat
  | [], _ => none
  | w :: r, i => if isW b len w p then some i else wIx b len p r (i + 1)
def lawW : List (List Nat) := [[114, 101, 97, 100, 101, 114], [115, 111, 102, 116], [116, 105, 114, 101, 100], [104, 97, 100], [103, 114, 105, 101, 102], [106, 111, 107, 101], [119, 101, 105, 103, 104, 116], [119, 105, 116, 104], [100, 97, 121], [109, 111, 111, 100]]
def ordW : List (List Nat) := [[100, 97, 121], [108, 101, 116, 116, 101, 114, 115], [111, 102, 102, 105, 99, 101], [100, 111, 110, 101], [112, 97, 105, 100], [116, 105, 114, 101, 100], [111, 119, 101, 100]]
def hdsW : List (List Nat) := [[119, 101, 101, 112, 115], [116, 105, 114, 101, 115], [114, 101, 115, 116, 115], [108, 97, 117, 103, 104, 115], [98, 97, 114, 115]]
def wNot : List Nat := [110, 111, 116]
def wAnd : List Nat := [97, 110, 100]
def wOr : List Nat := [111, 114]
def wIf : List Nat := [105, 102]
def wHand : List Nat := [104, 97, 110, 100]
def wPass : List Nat := [112, 97, 115, 115]
def wTimes : List Nat := [116, 105, 109, 101, 115]
def wWith : List Nat := [119, 105, 116, 104]
theorem wIx_lt {b : Nat → Nat} {len p : Nat} : ∀ (l : List (List Nat)) (i k : Nat), (∀ w, w ∈ l → w ≠ []) → wIx b len p l i = some k → p < len ∧ i ≤ k ∧ k < i + l.length
  | [], _, _, _, h => by cases h
  | w :: r, i, k, hw, h => by
    rw [wIx] at h
    split at h
    · next q =>
      cases h
      cases hw' : w with
      | nil => exact absurd hw' (hw w (List.mem_cons_self ..))
      | cons x y =>
        rw [hw'] at q
        exact ⟨isW_lt q, Nat.le_refl _, by rw [List.length_cons]; omega⟩
    · have := wIx_lt r (i + 1) k (fun w h => hw w (List.mem_cons_of_mem _ h)) h
      rw [List.length_cons]
      omega
def gPart (b : Nat → Nat) (len : Nat) (od : Bool) (gs : Option (Nat → Nat → GR)) (p c : Nat) : GR :=
  if isS b len 91 p then (match gs with
    | none => .error p
    | some g => match g (nxB b len p) c with
      | .error e => .error e
      | .ok r => if isS b len 93 r.1 then .ok (nxB b len r.1, r.2.1, r.2.2) else .error r.1)
  else if 50 ≤ c then .error p else match nuO b len p with
    | some v => if 1000 < v then .error p else .ok (nxB b len p, c + 1, fun _ => some (Int64.ofNat v))
    | none => match wIx b len p (if od then ordW else lawW) 0 with
      | none => .error p
      | some k => if od = true ∧ 5 ≤ k then (match nuO b len (nxB b len p) with
          | none => .error (nxB b len p)
          | some r => if r < 8 then .ok (nxB b len (nxB b len p), c + 1, fun e => some (e ((if k = 5 then 5 else 13) + r))) else .error (nxB b len p))
        else .ok (nxB b len p, c + 1, fun e => some (e k))
/-- two to one -/
def gCo (o : Nat) (f g : SF) : SF := if o = 11 then forr f g else if o = 12 then fand f g else fbin o f g
def gRep (b : Nat → Nat) (len : Nat) (ops : Nat → Option Nat) (sub : Nat → Nat → GR) : Nat → Nat → Nat → SF → GR
  | 0, p, c, f => .ok (p, c, f)
  | n + 1, p, c, f => match ops p with
    | none => .ok (p, c, f)
    | some o => match sub (nxB b len p) c with
      | .error e => .error e
      | .ok r => gRep b len ops sub n r.1 r.2.1 (gCo o f r.2.2)
def gSeq (b : Nat → Nat) (len : Nat) (ops : Nat → Option Nat) (sub : Nat → Nat → GR) (p c : Nat) : GR := match sub p c with
  | .error e => .error e
  | .ok r => gRep b len ops sub 400 r.1 r.2.1 r.2.2
def mulO (b : Nat → Nat) (len p : Nat) : Option Nat := if isS b len 42 p then some 4 else if isS b len 47 p then some 5 else if isS b len 37 p then some 6 else none
def addO (b : Nat → Nat) (len p : Nat) : Option Nat := if isS b len 43 p then some 2 else if isS b len 45 p then some 3 else none
def cmpO (b : Nat → Nat) (len p : Nat) : Option Nat := if isS b len 60 p then some 7 else if isS b len 62 p then some 8 else if isS b len 61 p then some 9 else none
def andO (b : Nat → Nat) (len p : Nat) : Option Nat := if isW b len wAnd p then some 12 else none
def orO (b : Nat → Nat) (len p : Nat) : Option Nat := if isW b len wOr p then some 11 else none
def gTerm (b : Nat → Nat) (len : Nat) (od : Bool) (gs : Option (Nat → Nat → GR)) : Nat → Nat → GR := gSeq b len (mulO b len) (gPart b len od gs)
/-- a sum with k brackets to go -/
def gSum (b : Nat → Nat) (len : Nat) (od : Bool) : Nat → Nat → Nat → GR
  | 0 => gSeq b len (addO b len) (gTerm b len od none)
  | k + 1 => gSeq b len (addO b len) (gTerm b len od (some (gSum b len od k)))
def gCmp (b : Nat → Nat) (len : Nat) (sum : Nat → Nat → GR) (p c : Nat) : GR := match sum p c with
  | .error e => .error e
  | .ok r => match cmpO b len r.1 with
    | none => .error r.1
    | some o => match sum (nxB b len r.1) r.2.1 with
      | .error e => .error e
      | .ok s => .ok (s.1, s.2.1, fbin o r.2.2 s.2.2)
def ntF (b : Nat → Nat) (len : Nat) : Nat → Nat → Bool → Nat × Bool
  | 0, p, t => (p, t)
  | n + 1, p, t => if isW b len wNot p then ntF b len n (nxB b len p) (!t) else (p, t)
def gAtom (b : Nat → Nat) (len : Nat) (gt : Option (Nat → Nat → GR)) (sum : Nat → Nat → GR) (q c : Nat) : GR := if isS b len 40 q then (match gt with
    | none => .error q
    | some g => match g (nxB b len q) c with
      | .error e => .error e
      | .ok r => if isS b len 41 r.1 then .ok (nxB b len r.1, r.2.1, r.2.2) else .error r.1)
  else gCmp b len sum q c
def gPlain (b : Nat → Nat) (len : Nat) (gt : Option (Nat → Nat → GR)) (sum : Nat → Nat → GR) (p c : Nat) : GR := match gAtom b len gt sum (ntF b len 400 p false).1 c with
  | .error e => .error e
  | .ok r => .ok (r.1, r.2.1, if (ntF b len 400 p false).2 then fnot r.2.2 else r.2.2)
def gBoth (b : Nat → Nat) (len : Nat) (gt : Option (Nat → Nat → GR)) (sum : Nat → Nat → GR) : Nat → Nat → GR := gSeq b len (andO b len) (gPlain b len gt sum)
def gTest (b : Nat → Nat) (len : Nat) (od : Bool) : Nat → Nat → Nat → GR
  | 0 => gSeq b len (orO b len) (gBoth b len none (gSum b len od 0))
  | k + 1 => gSeq b len (orO b len) (gBoth b len (some (gTest b len od k)) (gSum b len od (k + 1)))
/-- a reading goes forward, and what it works out is so -/
def GOK (len : Nat) (g : Nat → Nat → GR) (V : SF → Prop) : Prop := ∀ p c, p ≤ len → match g p c with
  | .error e => e ≤ len
  | .ok r => p < r.1 ∧ r.1 ≤ len ∧ c < r.2.1 ∧ r.2.1 ≤ 50 ∧ V r.2.2
/-- numbers as they must be -/
def VB (n : Nat) (f : SF) : Prop := ∀ e v, (∀ w, w < n → -BIG ≤ e w ∧ e w ≤ BIG) → f e = some v → -BIG ≤ v ∧ v ≤ BIG
def VT (f : SF) : Prop := ∀ e, f e = none ∨ f e = some 0 ∨ f e = some 1
theorem BIG_64 : BIG = 1000000000 := by decide +kernel
theorem VB_num {n v : Nat} (h : v ≤ 1000) : VB n (fun _ => some (Int64.ofNat v)) := by
  intro e x _ h2
  have : (Int64.ofNat v).toInt = v := by rw [← nI_64 (by omega), Int32.toInt_toInt64, nI_toInt (by omega)]
  injection h2 with h2
  rw [← h2, Int64.le_iff_toInt_le, Int64.le_iff_toInt_le, this, nBIG_i, BIG_i]
  omega
theorem VB_word {n w : Nat} (h : w < n) : VB n (fun e => some (e w)) := by
  intro e x h1 h2
  injection h2 with h2
  rw [← h2]
  exact h1 w h
theorem mbin_in {o : Nat} {a b v : Int64} (h : mbin o a b = some v) : -BIG ≤ v ∧ v ≤ BIG := by
  unfold mbin at h
  split at h
  · cases h
  · split at h
    · cases h
    · next q =>
      cases h
      rw [BIG_64]
      refine ⟨Int64.not_lt.mp (fun z => q (Or.inl z)), Int64.not_lt.mp (fun z => q (Or.inr z))⟩
theorem VB_bin {n o : Nat} {f g : SF} : VB n (fbin o f g) := by
  intro e v _ h
  unfold fbin at h
  split at h
  · cases h
  · split at h
    · cases h
    · exact mbin_in h
theorem VT_bin {o : Nat} {f g : SF} (h : o = 7 ∨ o = 8 ∨ o = 9) : VT (fbin o f g) := by
  have k : ∀ a b : Int64, mbin o a b = some 0 ∨ mbin o a b = some 1 := by
    intro a b
    have hm : mop o a b = 0 ∨ mop o a b = 1 := by
      unfold mop
      rcases h with rfl | rfl | rfl
      · simp only [Nat.reduceEqDiff, if_false, if_true]
        split <;> simp
      · simp only [Nat.reduceEqDiff, if_false, if_true]
        split <;> simp
      · simp only [Nat.reduceEqDiff, if_false]
        split <;> simp
    unfold mbin
    rw [if_neg (by omega)]
    rcases hm with hm | hm
    · rw [hm, if_neg (by decide)]
      exact Or.inl rfl
    · rw [hm, if_neg (by decide)]
      exact Or.inr rfl
  intro e
  unfold fbin
  split
  · exact Or.inl rfl
  · split
    · exact Or.inl rfl
    · exact Or.inr (k _ _)
theorem VT_not {f : SF} (h : VT f) : VT (fnot f) := by
  intro e
  unfold fnot
  rcases h e with q | q | q
  · rw [q]; exact Or.inl rfl
  · rw [q]; exact Or.inr (Or.inr rfl)
  · rw [q]; exact Or.inr (Or.inl rfl)
theorem VT_and {f g : SF} (h : VT f) (k : VT g) : VT (fand f g) := by
  intro e
  unfold fand
  rcases h e with q | q | q
  · rw [q]; exact Or.inl rfl
  · rw [q]; exact Or.inr (Or.inl rfl)
  · rw [q]; exact k e
theorem VT_or {f g : SF} (h : VT f) (k : VT g) : VT (forr f g) := by
  intro e
  unfold forr
  rcases h e with q | q | q
  · rw [q]; exact Or.inl rfl
  · rw [q]; exact k e
  · rw [q]; exact Or.inr (Or.inr rfl)
theorem VB_co {n o : Nat} {f g : SF} (h : ¬ o = 11) (h' : ¬ o = 12) : VB n (gCo o f g) := by
  unfold gCo
  rw [if_neg h, if_neg h']
  exact VB_bin
theorem fnn {f : SF} : fnot (fnot f) = f := by
  funext e
  unfold fnot
  cases f e with
  | none => rfl
  | some a =>
    show some (1 - (1 - a)) = some a
    congr 1
    grind
theorem gRep_ok {b : Nat → Nat} {len : Nat} {ops : Nat → Option Nat} {sub : Nat → Nat → GR} {V W : SF → Prop} (hs : GOK len sub V) (ho : ∀ p o, ops p = some o → p < len) (hV : ∀ o p f g, ops p = some o → W f → V g → W (gCo o f g)) : ∀ n p c f, p ≤ len → c ≤ 50 → W f → (match gRep b len ops sub n p c f with
  | .error e => e ≤ len
  | .ok r => p ≤ r.1 ∧ r.1 ≤ len ∧ c ≤ r.2.1 ∧ r.2.1 ≤ 50 ∧ W r.2.2)
  | 0, p, c, f, h, hc, hf => ⟨Nat.le_refl _, h, Nat.le_refl _, hc, hf⟩
  | n + 1, p, c, f, h, hc, hf => by
    rw [gRep]
    cases hop : ops p with
    | none => exact ⟨Nat.le_refl _, h, Nat.le_refl _, hc, hf⟩
    | some o =>
      have hp := ho p o hop
      have h1 := nxB_le (b := b) (len := len) (p := p)
      have h2 := hs (nxB b len p) c h1.1
      dsimp only
      cases hsub : sub (nxB b len p) c with
      | error e => rw [hsub] at h2; exact h2
      | ok r =>
        rw [hsub] at h2
        dsimp only at h2 ⊢
        have h3 := gRep_ok (b := b) hs ho hV n r.1 r.2.1 (gCo o f r.2.2) (by omega) (by omega) (hV o p f r.2.2 hop hf h2.2.2.2.2)
        cases hr : gRep b len ops sub n r.1 r.2.1 (gCo o f r.2.2) with
        | error e => rw [hr] at h3; exact h3
        | ok s =>
          rw [hr] at h3
          dsimp only at h3 ⊢
          exact ⟨by omega, h3.2.1, by omega, h3.2.2.2.1, h3.2.2.2.2⟩
theorem gSeq_ok {b : Nat → Nat} {len : Nat} {ops : Nat → Option Nat} {sub : Nat → Nat → GR} {V : SF → Prop} (hs : GOK len sub V) (ho : ∀ p o, ops p = some o → p < len) (hV : ∀ o p f g, ops p = some o → V f → V g → V (gCo o f g)) : GOK len (gSeq b len ops sub) V := by
  intro p c hp
  have h1 := hs p c hp
  unfold gSeq
  cases hsub : sub p c with
  | error e => rw [hsub] at h1; exact h1
  | ok r =>
    rw [hsub] at h1
    dsimp only at h1 ⊢
    have h3 := gRep_ok (b := b) hs ho hV 400 r.1 r.2.1 r.2.2 h1.2.1 h1.2.2.2.1 h1.2.2.2.2
    cases hr : gRep b len ops sub 400 r.1 r.2.1 r.2.2 with
    | error e => rw [hr] at h3; exact h3
    | ok s =>
      rw [hr] at h3
      dsimp only at h3 ⊢
      exact ⟨by omega, h3.2.1, by omega, h3.2.2.2.1, h3.2.2.2.2⟩
theorem gPart_ok {b : Nat → Nat} {len : Nat} {od : Bool} {gs : Option (Nat → Nat → GR)} {n : Nat} (hn : n = if od then 21 else 10) (hg : ∀ g, gs = some g → GOK len g (VB n)) : GOK len (gPart b len od gs) (VB n) := by
  intro p c hp
  have n1 := nxB_le (b := b) (len := len) (p := p)
  have n2 := nxB_le (b := b) (len := len) (p := nxB b len p)
  unfold gPart
  by_cases q : isS b len 91 p = true
  · rw [if_pos q]
    have hl := isS_lt q
    cases gs with
    | none => exact hp
    | some g =>
      have h1 := hg g rfl (nxB b len p) c n1.1
      dsimp only
      cases hsub : g (nxB b len p) c with
      | error e => rw [hsub] at h1; exact h1
      | ok r =>
        rw [hsub] at h1
        dsimp only at h1 ⊢
        have n3 := nxB_le (b := b) (len := len) (p := r.1)
        by_cases q2 : isS b len 93 r.1 = true
        · rw [if_pos q2]
          have := isS_lt q2
          exact ⟨by show p < nxB b len r.1; omega, n3.1, h1.2.2.1, h1.2.2.2.1, h1.2.2.2.2⟩
        · rw [if_neg q2]
          exact h1.2.1
  · rw [if_neg q]
    by_cases hc : 50 ≤ c
    · rw [if_pos hc]
      exact hp
    · rw [if_neg hc]
      cases hnu : nuO b len p with
      | some v =>
        dsimp only
        have := nuO_lt hnu
        by_cases hv : 1000 < v
        · rw [if_pos hv]
          exact hp
        · rw [if_neg hv]
          exact ⟨by show p < nxB b len p; omega, n1.1, by show c < c + 1; omega, by show c + 1 ≤ 50; omega, VB_num (by omega)⟩
      | none =>
        dsimp only
        cases hw : wIx b len p (if od then ordW else lawW) 0 with
        | none => exact hp
        | some k =>
          have hk := wIx_lt _ 0 k (by cases od <;> decide) hw
          have hk2 : k < if od then 7 else 10 := by
            have := hk.2.2
            cases od
            · exact (show k < 10 by simpa [lawW] using this)
            · exact (show k < 7 by simpa [ordW] using this)
          dsimp only
          by_cases q5 : od = true ∧ 5 ≤ k
          · rw [if_pos q5]
            cases hn2 : nuO b len (nxB b len p) with
            | none => exact n1.1
            | some r =>
              dsimp only
              have := nuO_lt hn2
              by_cases q8 : r < 8
              · rw [if_pos q8]
                refine ⟨by show p < nxB b len (nxB b len p); omega, n2.1, by show c < c + 1; omega, by show c + 1 ≤ 50; omega, VB_word ?_⟩
                rw [hn, q5.1]
                simp only [if_true]
                split <;> omega
              · rw [if_neg q8]
                exact n1.1
          · rw [if_neg q5]
            refine ⟨by show p < nxB b len p; omega, n1.1, by show c < c + 1; omega, by show c + 1 ≤ 50; omega, VB_word ?_⟩
            rw [hn]
            cases od
            · exact hk2
            · have : k < 7 := hk2
              show k < 21
              omega
theorem mulO_lt {b : Nat → Nat} {len p o : Nat} (h : mulO b len p = some o) : p < len ∧ (o = 4 ∨ o = 5 ∨ o = 6) := by
  unfold mulO at h
  split at h
  · next q => cases h; exact ⟨isS_lt q, by omega⟩
  · split at h
    · next q => cases h; exact ⟨isS_lt q, by omega⟩
    · split at h
      · next q => cases h; exact ⟨isS_lt q, by omega⟩
      · cases h
theorem addO_lt {b : Nat → Nat} {len p o : Nat} (h : addO b len p = some o) : p < len ∧ (o = 2 ∨ o = 3) := by
  unfold addO at h
  split at h
  · next q => cases h; exact ⟨isS_lt q, by omega⟩
  · split at h
    · next q => cases h; exact ⟨isS_lt q, by omega⟩
    · cases h
theorem cmpO_lt {b : Nat → Nat} {len p o : Nat} (h : cmpO b len p = some o) : p < len ∧ (o = 7 ∨ o = 8 ∨ o = 9) := by
  unfold cmpO at h
  split at h
  · next q => cases h; exact ⟨isS_lt q, by omega⟩
  · split at h
    · next q => cases h; exact ⟨isS_lt q, by omega⟩
    · split at h
      · next q => cases h; exact ⟨isS_lt q, by omega⟩
      · cases h
theorem andO_lt {b : Nat → Nat} {len p o : Nat} (h : andO b len p = some o) : p < len ∧ o = 12 := by
  unfold andO at h
  split at h
  · next q => cases h; exact ⟨isW_lt q, rfl⟩
  · cases h
theorem orO_lt {b : Nat → Nat} {len p o : Nat} (h : orO b len p = some o) : p < len ∧ o = 11 := by
  unfold orO at h
  split at h
  · next q => cases h; exact ⟨isW_lt q, rfl⟩
  · cases h
theorem gTerm_ok {b : Nat → Nat} {len : Nat} {od : Bool} {gs : Option (Nat → Nat → GR)} {n : Nat} (hn : n = if od then 21 else 10) (hg : ∀ g, gs = some g → GOK len g (VB n)) : GOK len (gTerm b len od gs) (VB n) := gSeq_ok (gPart_ok hn hg) (fun p o h => (mulO_lt h).1) (fun o p f g h _ _ => VB_co (by have := (mulO_lt h).2; omega) (by have := (mulO_lt h).2; omega))
theorem gSum_ok {b : Nat → Nat} {len : Nat} {od : Bool} {n : Nat} (hn : n = if od then 21 else 10) : ∀ k, GOK len (gSum b len od k) (VB n)
  | 0 => gSeq_ok (gTerm_ok hn (fun g h => by cases h)) (fun p o h => (addO_lt h).1) (fun o p f g h _ _ => VB_co (by have := (addO_lt h).2; omega) (by have := (addO_lt h).2; omega))
  | k + 1 => gSeq_ok (gTerm_ok hn (fun g h => by cases h; exact gSum_ok hn k)) (fun p o h => (addO_lt h).1) (fun o p f g h _ _ => VB_co (by have := (addO_lt h).2; omega) (by have := (addO_lt h).2; omega))
theorem gCmp_ok {b : Nat → Nat} {len : Nat} {sum : Nat → Nat → GR} {V : SF → Prop} (hs : GOK len sum V) : GOK len (gCmp b len sum) VT := by
  intro p c hp
  have h1 := hs p c hp
  unfold gCmp
  cases hsub : sum p c with
  | error e => rw [hsub] at h1; exact h1
  | ok r =>
    rw [hsub] at h1
    dsimp only at h1 ⊢
    cases ho : cmpO b len r.1 with
    | none => exact h1.2.1
    | some o =>
      have n1 := nxB_le (b := b) (len := len) (p := r.1)
      have h2 := hs (nxB b len r.1) r.2.1 n1.1
      dsimp only
      cases hsub2 : sum (nxB b len r.1) r.2.1 with
      | error e => rw [hsub2] at h2; exact h2
      | ok s =>
        rw [hsub2] at h2
        dsimp only at h2 ⊢
        have := (cmpO_lt ho).1
        exact ⟨by omega, h2.2.1, by omega, h2.2.2.2.1, VT_bin (cmpO_lt ho).2⟩
theorem ntF_le {b : Nat → Nat} {len : Nat} : ∀ n p t, p ≤ len → p ≤ (ntF b len n p t).1 ∧ (ntF b len n p t).1 ≤ len
  | 0, p, t, h => ⟨Nat.le_refl _, h⟩
  | n + 1, p, t, h => by
    rw [ntF]
    split
    · next q =>
      have h1 := isW_lt q
      have h2 := nxB_le (b := b) (len := len) (p := p)
      have h3 := ntF_le (b := b) n (nxB b len p) (!t) h2.1
      omega
    · exact ⟨Nat.le_refl _, h⟩
theorem gAtom_ok {b : Nat → Nat} {len : Nat} {gt : Option (Nat → Nat → GR)} {sum : Nat → Nat → GR} {V : SF → Prop} (hs : GOK len sum V) (hg : ∀ g, gt = some g → GOK len g VT) : GOK len (gAtom b len gt sum) VT := by
  intro p c hp
  unfold gAtom
  by_cases q : isS b len 40 p = true
  · rw [if_pos q]
    have hl := isS_lt q
    have n1 := nxB_le (b := b) (len := len) (p := p)
    cases gt with
    | none => exact hp
    | some g =>
      have h1 := hg g rfl (nxB b len p) c n1.1
      dsimp only
      cases hsub : g (nxB b len p) c with
      | error e => rw [hsub] at h1; exact h1
      | ok r =>
        rw [hsub] at h1
        dsimp only at h1 ⊢
        have n3 := nxB_le (b := b) (len := len) (p := r.1)
        by_cases q2 : isS b len 41 r.1 = true
        · rw [if_pos q2]
          have := isS_lt q2
          exact ⟨by show p < nxB b len r.1; omega, n3.1, h1.2.2.1, h1.2.2.2.1, h1.2.2.2.2⟩
        · rw [if_neg q2]
          exact h1.2.1
  · rw [if_neg q]
    exact gCmp_ok hs p c hp
theorem gPlain_ok {b : Nat → Nat} {len : Nat} {gt : Option (Nat → Nat → GR)} {sum : Nat → Nat → GR} {V : SF → Prop} (hs : GOK len sum V) (hg : ∀ g, gt = some g → GOK len g VT) : GOK len (gPlain b len gt sum) VT := by
  intro p c hp
  have h0 := ntF_le (b := b) 400 p false hp
  have h1 := gAtom_ok (b := b) hs hg (ntF b len 400 p false).1 c h0.2
  unfold gPlain
  cases hsub : gAtom b len gt sum (ntF b len 400 p false).1 c with
  | error e => rw [hsub] at h1; exact h1
  | ok r =>
    rw [hsub] at h1
    dsimp only at h1 ⊢
    refine ⟨by omega, h1.2.1, h1.2.2.1, h1.2.2.2.1, ?_⟩
    split
    · exact VT_not h1.2.2.2.2
    · exact h1.2.2.2.2
theorem VT_co {o : Nat} {f g : SF} (h : o = 11 ∨ o = 12) (hf : VT f) (hg : VT g) : VT (gCo o f g) := by
  unfold gCo
  rcases h with rfl | rfl
  · exact VT_or hf hg
  · exact VT_and hf hg
theorem gBoth_ok {b : Nat → Nat} {len : Nat} {gt : Option (Nat → Nat → GR)} {sum : Nat → Nat → GR} {V : SF → Prop} (hs : GOK len sum V) (hg : ∀ g, gt = some g → GOK len g VT) : GOK len (gBoth b len gt sum) VT := gSeq_ok (gPlain_ok hs hg) (fun p o h => (andO_lt h).1) (fun o p f g h => VT_co (by have := (andO_lt h).2; omega))
theorem gTest_ok {b : Nat → Nat} {len : Nat} {od : Bool} : ∀ k, GOK len (gTest b len od k) VT
  | 0 => gSeq_ok (gBoth_ok (gSum_ok rfl 0) (fun g h => by cases h)) (fun p o h => (orO_lt h).1) (fun o p f g h => VT_co (by have := (orO_lt h).2; omega))
  | k + 1 => gSeq_ok (gBoth_ok (gSum_ok rfl (k + 1)) (fun g h => by cases h; exact gTest_ok k)) (fun p o h => (orO_lt h).1) (fun o p f g h => VT_co (by have := (orO_lt h).2; omega))
