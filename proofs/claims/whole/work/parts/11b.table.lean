/-- the arms of a switch, one by one -/
def XTb (l : Launch) (b : Nat) (D : va_G) (dA : Nat → ClassId) (ad : Nat → Option Nat) (own : String) (cc : ByteArray) (nL : Nat) (ret : Option FieldType) (ini : Bool) (fr pc : Nat) : List Int → List XK → Prop
  | [], [] => True
  | o :: os, K :: Ks => (∃ t : Nat, (pc : Int) + o = (t : Int) ∧ XGo l b D dA ad own cc nL ret ini fr t K) ∧ XTb l b D dA ad own cc nL ret ini fr pc os Ks
  | _, _ => False
theorem XTb.at {l : Launch} {b : Nat} {D : va_G} {dA : Nat → ClassId} {ad : Nat → Option Nat} {own : String} {cc : ByteArray} {nL : Nat} {ret : Option FieldType} {ini : Bool} {fr pc : Nat} : ∀ {os : List Int} {Ks : List XK}, XTb l b D dA ad own cc nL ret ini fr pc os Ks → ∀ (i : Nat) (K : XK), Ks[i]? = some K → ∃ (off : Int) (t : Nat), os[i]? = some off ∧ (pc : Int) + off = (t : Int) ∧ XGo l b D dA ad own cc nL ret ini fr t K
  | [], [], _, i, K, h => by simp at h
  | o :: os, K0 :: Ks, hx, i, K, h => by
    obtain ⟨⟨t, h1, h2⟩, h3⟩ := hx
    cases i with
    | zero =>
      rw [List.getElem?_cons_zero] at h
      have := Option.some.inj h
      subst this
      exact ⟨o, t, rfl, h1, h2⟩
    | succ i =>
      rw [List.getElem?_cons_succ] at h
      obtain ⟨off, t, a, b, c⟩ := XTb.at h3 i K h
      exact ⟨off, t, by rw [List.getElem?_cons_succ]; exact a, b, c⟩
theorem go_tab {l : Launch} {b : Nat} {D : va_G} {dA : Nat → ClassId} {ad : Nat → Option Nat} {own : String} {cc : ByteArray} {nL : Nat} {ret : Option FieldType} {ini : Bool} {fr pc tgt : Nat} {dflt lo hi : Int} {os : List Int} {len : Nat} {Ks : List XK} {Kd : XK} (hd : decode cc pc = .ok (.tableswitch dflt lo hi os.toArray, len)) (ht : (pc : Int) + dflt = (tgt : Int)) (h1 : XGo l b D dA ad own cc nL ret ini fr tgt Kd) (h2 : XTb l b D dA ad own cc nL ret ini fr pc os Ks) : XGo l b D dA ad own cc nL ret ini fr pc (xTab lo hi Ks Kd) :=
  go_table hd ht h1 fun i K h => by
    obtain ⟨off, t, a, b, c⟩ := h2.at i K h
    exact ⟨off, t, by simpa using a, b, c⟩
