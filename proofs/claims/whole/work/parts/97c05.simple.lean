def VXe (X : XDt) (c : Nat) : Prop := ∃ nr nl n m A B, VXd X nr nl n m A B c
/-- a call of the class, of the model: what it answers, what they stand for behind it -/
def Cst (D : XD) (av : List Value) (X : XDt) (v : Int32) (X' : XDt) : Prop := ∀ G, CPx G X → SP D (.ref 0 :: av) G (fun z => z.1 = some (.int v) ∧ CPx z.2 X' ∧ MUn G z.2 ∧ hpZ z.2 ≤ hpZ G + 6 ∧ hpS z.2 ≤ hpS G + 500)
def Mst (D : XD) (av : List Value) (X : XDt) (v : Int32) (X' : XDt) : Prop := ∀ G, MPx G X → SP D (.ref 70 :: av) G (fun z => z.1 = some (.int v) ∧ MPx z.2 X' ∧ CUn G z.2)
def StX (Dc Dm : XD) (av : List Value) (X : XDt) (c : Nat) : Prop := ∃ v X', VXe X' (c + 300) ∧ Cst Dc av X v X' ∧ Mst Dm av X v X'
theorem VWd.mono {W : WDt} {nr nl n m : Nat} {A B : Nat → Nat} {c c' : Nat} (h : VWd W nr nl n m A B c) (hc : c ≤ c') : VWd W nr nl n m A B c' := ⟨h.1.mono hc, h.2⟩
theorem VXd.mono {X : XDt} {nr nl n m : Nat} {A B : Nat → Nat} {c c' : Nat} (h : VXd X nr nl n m A B c) (hc : c ≤ c') : VXd X nr nl n m A B c' := by
  obtain ⟨a1, a2, a3, a4, a5, a6⟩ := h
  refine ⟨a1.mono hc, a2.mono hc, a3, a4, a5, fun k hk W hW => ?_⟩
  obtain ⟨nr, nl, n, m, A, B, z⟩ := a6 k hk W hW
  exact ⟨nr, nl, n, m, A, B, z.mono hc⟩
theorem VXe.mono {X : XDt} {c c' : Nat} (h : VXe X c) (hc : c ≤ c') : VXe X c' := by
  obtain ⟨nr, nl, n, m, A, B, z⟩ := h
  exact ⟨nr, nl, n, m, A, B, z.mono hc⟩
theorem VXe.h16 {X : XDt} {c : Nat} (h : VXe X c) : X.2.1.1 ≤ 16 := by
  obtain ⟨nr, nl, n, m, A, B, z⟩ := h
  exact z.2.1.1
theorem VXe.tl {X : XDt} {c : Nat} (h : VXe X c) (v : Int32) : VXe (tlX X v) c := h
theorem VXd.fg {X : XDt} {nr nl n m : Nat} {A B : Nat → Nat} {c : Nat} (h : VXd X nr nl n m A B c) : VXd (fgX X) nr nl n m A B c := ⟨h.1, ⟨Nat.zero_le _, fun k hk => absurd hk (Nat.not_lt_zero k)⟩, h.2.2⟩
theorem VXe.fg {X : XDt} {c : Nat} (h : VXe X c) : VXe (fgX X) c := by
  obtain ⟨nr, nl, n, m, A, B, z⟩ := h
  exact ⟨nr, nl, n, m, A, B, z.fg⟩
theorem cun_stI {G : XH} {a k : Nat} {v : Int32} (h1 : 70 ≤ a) (h2 : a < 105) : CUn G (stI G a k v) := (Fr.refl.wI (W := fun x y => x == a && y == k) (by simp)).cun (fun x y h => by simp; omega)
theorem cun_stA {G : XH} {a : Nat} {f : Nat → Int32} (h1 : 70 ≤ a) (h2 : a < 105) : CUn G (stA G a f) := (Fr.refl.wA (W := fun x _ => x == a) (fun k q => absurd q (by simp))).cun (fun x y h => by simp; omega)
theorem mun_stI {G : XH} {a k : Nat} {v : Int32} (h : a < 70 ∨ 105 ≤ a) : MUn G (stI G a k v) := (Fr.refl.wI (W := fun x y => x == a && y == k) (by simp)).fc.mun (fun x y h1 h2 => by simp; omega)
theorem mun_stA {G : XH} {a : Nat} {f : Nat → Int32} (h : a < 70 ∨ 105 ≤ a) : MUn G (stA G a f) := (Fr.refl.wA (W := fun x _ => x == a) (fun k q => absurd q (by simp))).fc.mun (fun x y h1 h2 => by simp; omega)
theorem cun_t0 {G : XH} : CUn G (stI G 70 0 0) := cun_stI (by omega) (by omega)
theorem cun_tell {G : XH} {v : Int32} : CUn G (tellH v G) := by
  unfold tellH
  split
  · exact (cun_stI (by omega) (by omega)).trans (cun_stI (by omega) (by omega))
  · exact cun_stI (by omega) (by omega)
theorem mun_ref {G : XH} {v : Int32} {i : Nat} : MUn G (refH v i G) := by
  unfold refH
  exact (mun_stI (Or.inl (by omega))).trans (mun_stI (Or.inl (by omega)))
/-- a call that is refused on both sides -/
theorem st_ref {Dc Dm : XD} {av : List Value} {X : XDt} {c : Nat} (h : VXe X c) {v : Int32} {i : Nat} (hv : tlV v) (hv0 : v < 0) (hi : i = ixC v) (hc : ∀ G, CPx G X → ∀ Q, SP Dc (.ref 0 :: av) G Q = Q (some (.int v), refH v i G)) (hm : ∀ G, MPx G X → ∀ Q, SP Dm (.ref 70 :: av) G Q = Q (some (.int v), tellH v (stI G 70 0 0))) : StX Dc Dm av X c := by
  refine ⟨v, tlX X v, h.mono (by omega), fun G hG => ?_, fun G hG => ?_⟩
  · rw [hc G hG]
    exact ⟨rfl, hG.ref hv0 hi, mun_ref, by show hpZ G ≤ _; omega, by show hpS G ≤ _; omega⟩
  · rw [hm G hG]
    exact ⟨rfl, (hG.t0 h.h16).tell h.h16 hv, cun_t0.trans cun_tell⟩
/-- a call that only answers -/
theorem st_ans {Dc Dm : XD} {av : List Value} {X : XDt} {c : Nat} (h : VXe X c) {v : Int32} (hc : ∀ G, CPx G X → ∀ Q, SP Dc (.ref 0 :: av) G Q = Q (some (.int v), G)) (hm : ∀ G, MPx G X → ∀ Q, SP Dm (.ref 70 :: av) G Q = Q (some (.int v), stI G 70 0 0)) : StX Dc Dm av X c := by
  refine ⟨v, X, h.mono (by omega), fun G hG => ?_, fun G hG => ?_⟩
  · rw [hc G hG]
    exact ⟨rfl, hG, MUn.refl, by show hpZ G ≤ _; omega, by show hpS G ≤ _; omega⟩
  · rw [hm G hG]
    exact ⟨rfl, hG.t0 h.h16, cun_t0⟩
theorem st_blots {X : XDt} {c : Nat} (h : VXe X c) : StX D_Post_blots D_Mdl_blots [] X c := st_ans h (v := X.2.2.2.1.1) (fun G hG Q => by rw [c_blots hG.1.1, hG.2.2.2.2.1.1]) (fun G hG Q => by rw [s_blots hG.1.1, hG.2.2.2.2.1.1])
theorem st_fault {X : XDt} {c : Nat} (h : VXe X c) : StX D_Post_fault D_Mdl_fault [] X c := st_ans h (v := X.2.2.2.1.2.1) (fun G hG Q => by rw [c_fault hG.1.1, hG.2.2.2.2.1.2.1]) (fun G hG Q => by rw [s_fault hG.1.1, hG.2.2.2.2.1.2.1])
theorem st_stopped {X : XDt} {c : Nat} (h : VXe X c) : StX D_Post_stopped D_Mdl_stopped [] X c := st_ans h (v := X.2.2.2.1.2.2.1) (fun G hG Q => by rw [c_stopped hG.1.1, hG.2.2.2.2.1.2.2.1]) (fun G hG Q => by rw [s_stopped hG.1.1, hG.2.2.2.2.1.2.2.1])
theorem st_status {X : XDt} {c : Nat} (h : VXe X c) : StX D_Post_status D_Mdl_status [] X c := st_ans h (v := X.2.2.2.1.2.2.2) (fun G hG Q => by rw [c_status hG.1.1, hG.2.2.2.2.1.2.2.2]) (fun G hG Q => by rw [s_status hG.1.1, hG.2.2.2.2.1.2.2.2])
theorem ex_le {a : Int32} {n : Nat} (hn : n < 2147483647) (h : 0 ≤ a ∧ a ≤ nI n) : ∃ k, k ≤ n ∧ a = nI k := by
  obtain ⟨r, r1, r2⟩ := ex_nI (a := a) (n := n + 1) (by omega) ⟨h.1, by
    rw [Int32.lt_iff_toInt_lt, nI_toInt (by omega)]
    have := Int32.le_iff_toInt_le.mp h.2
    rw [nI_toInt (by omega)] at this
    omega⟩
  exact ⟨r, by omega, r2⟩
theorem st_end {X : XDt} {c : Nat} (h : VXe X c) (a : Int32) : StX D_Post_end D_Mdl_end [.int a] X c := by
  have h0 := h
  obtain ⟨nr, nl, n, m, A, B, hV⟩ := h
  have l400 := hV.2.2.1
  by_cases q : 0 ≤ a ∧ a ≤ nI X.2.2.1.1
  · obtain ⟨k, k1, rfl⟩ := ex_le (by omega) q
    refine ⟨nI k, tpX X (k, X.2.2.1.2), ⟨nr, nl, n, m, A, B, VXd.mono ⟨hV.1, hV.2.1, by show k ≤ 400; omega, fun j hj => hV.2.2.2.1 j (by have hj' : j < k := hj; omega), hV.2.2.2.2⟩ (by omega)⟩, fun G hG => ?_, fun G hG => ?_⟩
    · rw [c_end hG.1.1, hG.2.2.2.1.1, if_pos q]
      obtain ⟨_, b, cc, d, e, f, g, i⟩ := hG
      have hf : FC (fun a k => a == 47 && k == 1) G (stI G 47 1 (nI k)) := (Fr.refl.wI rfl).fc
      have hW : ∀ a k : Nat, ¬ a = 47 → (a == 47 && k == 1) = false := fun a k h1 => by simp [h1]
      have hL : Lo (fun a k => a == 47 && k == 1) := fun a k ha => hW a k (by omega)
      refine ⟨rfl, CPx.mk (X := X) ⟨by assumption, b, cc, d, e, f, g, i⟩ hf hL (b.fc hf (fun a k h1 h2 => hW a k (by omega)) hL (by decide)) (cc.unc (UnC.fc hf (fun k => rfl) (fun k => rfl) (fun j hj k => hW _ k (by omega)))) ⟨?_, fun j hj => ?_⟩ (e.fc hf rfl rfl rfl rfl) (f.fc hf (fun k => rfl)) (g.fc hf rfl (fun k => rfl)) rfl, mun_stI (Or.inl (by omega)), by show hpZ G ≤ _; omega, by show hpS G ≤ _; omega⟩
      · rw [stI_up, hpI_stA, up_eq]; rfl
      · rw [hf.I rfl]
        have hj' : j < k := hj
        exact d.2 j (by omega)
    · rw [s_end hG.1.1, hG.2.2.2.1.1, if_pos q]
      have h1 := hG.t0 h0.h16
      have hf : Fr (fun a k => a == 70 && k == 13) (stI G 70 0 0) (stI (stI G 70 0 0) 70 13 (nI k)) := Fr.refl.wI rfl
      have h1' := h1
      obtain ⟨⟨a1, a2, a3⟩, b, cc, d, e, f, g, i⟩ := h1
      refine ⟨rfl, h1'.mk hf (fun a k hk => by rcases hk with rfl | rfl | rfl <;> rfl) ((hf.I rfl).trans a3) ((hf.IA _ (fun _ => rfl)).trans b) (cc.fr hf h0.h16 rfl (fun k _ => rfl) (fun k => rfl)) ⟨?_, fun j hj => ?_⟩ (e.fr hf rfl rfl rfl rfl) (f.fr hf (fun k => rfl)) (g.fr hf rfl (fun k => rfl)) (i.fr hf (fun k => rfl) (fun k => rfl)), cun_t0.trans (cun_stI (by omega) (by omega))⟩
      · rw [stI_up, hpI_stA, up_eq]; rfl
      · rw [hf.I rfl]
        have hj' : j < k := hj
        exact d.2 j (by omega)
  · exact st_ans h0 (v := -1) (fun G hG Q => by rw [c_end hG.1.1, hG.2.2.2.1.1, if_neg q]) (fun G hG Q => by rw [s_end hG.1.1, hG.2.2.2.1.1, if_neg q])
theorem c4 {G : XH} {X : XDt} {nr nl n m : Nat} {A B : Nat → Nat} {c : Nat} (h : CPx G X) (hV : VXd X nr nl n m A B c) : hpI G 2 4 = nI nr ∧ hpI G 2 5 = nI nl := ⟨h.2.1.1.2.1.trans hV.1.1.1, h.2.1.1.2.2.1.trans hV.1.1.2.2.1⟩
theorem s1 {G : XH} {X : XDt} {nr nl n m : Nat} {A B : Nat → Nat} {c : Nat} (h : MPx G X) (hV : VXd X nr nl n m A B c) : hpI G 72 1 = nI nr ∧ hpI G 72 2 = nI nl := by rw [h.2.1]; exact ⟨hV.1.1.1, hV.1.1.2.2.1⟩
theorem le8 {n : Nat} (h : n ≤ 8) : nI n ≤ 8 := by rw [show (8 : Int32) = nI 8 from rfl, nl_le (by omega) (by omega)]; exact h
theorem le12 {n : Nat} (h : n ≤ 12) : nI n ≤ 12 := by rw [show (12 : Int32) = nI 12 from rfl, nl_le (by omega) (by omega)]; exact h
theorem st_of {X : XDt} {c : Nat} (h : VXe X c) (a b : Int32) : StX D_Post_of D_Mdl_of [.int a, .int b] X c := by
  have h0 := h
  obtain ⟨nr, nl, n, m, A, B, hV⟩ := h
  have n8 := hV.1.1.2.1
  by_cases q : (0 ≤ a ∧ a < nI nr) ∧ (0 ≤ b ∧ b ≤ 6)
  · obtain ⟨r, r1, rfl⟩ := ex_nI (by omega) q.1
    obtain ⟨k, k1, rfl⟩ := ex_le (a := b) (n := 6) (by omega) q.2
    have e6 : (nI k = 6) = (k = 6) := nl_eq (b := 6) (by omega) (by omega)
    refine st_ans h0 (v := if k = 6 then X.1.1 (165 + r) else X.1.1 (9 + 6 * r + k)) (fun G hG Q => ?_) (fun G hG Q => ?_)
    · rw [c_of_ok hG.1.1 Q r k r1 n8 (c4 hG hV).1 k1]
      have : (if k = 6 then hpI G 5 r else hpI G 2 (6 + 8 * k + r)) = (if k = 6 then X.1.1 (165 + r) else X.1.1 (9 + 6 * r + k)) := by
        split
        · exact hG.2.1.2.2.1 r (by omega)
        · exact hG.2.1.1.2.2.2.1 r k (by omega) (by omega)
      rw [this]
    · have e1 : 165 + nI r = nI (165 + r) := nI_add 165 r
      have e2 : 9 + 6 * nI r + nI k = nI (9 + 6 * r + k) := by rw [show (6 : Int32) = nI 6 from rfl, show (9 : Int32) = nI 9 from rfl, nI_mul, nI_add, nI_add]
      have z1 : hpI G 72 1 ≤ 8 := by rw [(s1 hG hV).1]; exact le8 n8
      rw [s_of hG.1.1 Q _ _ z1, (s1 hG hV).1, if_pos q, e1, e2, nI_clamp (by omega), nI_clamp (by omega), hG.2.1]
      by_cases q6 : k = 6
      · rw [if_pos (by rw [e6]; exact q6), if_pos q6]
      · rw [if_neg (by rw [e6]; exact q6), if_neg q6]
  · exact st_ans h0 (v := -1) (fun G hG Q => by rw [c_of_no hG.1.1 Q _ _ (c4 hG hV).1 q]) (fun G hG Q => by
      have z1 : hpI G 72 1 ≤ 8 := by rw [(s1 hG hV).1]; exact le8 n8
      rw [s_of hG.1.1 Q _ _ z1, (s1 hG hV).1, if_neg q])
theorem st_at {X : XDt} {c : Nat} (h : VXe X c) (a b : Int32) : StX D_Post_at D_Mdl_at [.int a, .int b] X c := by
  have h0 := h
  obtain ⟨nr, nl, n, m, A, B, hV⟩ := h
  have n12 := hV.1.1.2.2.2.1
  by_cases q : (0 ≤ a ∧ a < nI nl) ∧ (0 ≤ b ∧ b ≤ 6)
  · obtain ⟨r, r1, rfl⟩ := ex_nI (by omega) q.1
    obtain ⟨k, k1, rfl⟩ := ex_le (a := b) (n := 6) (by omega) q.2
    refine st_ans h0 (v := X.1.1 (57 + 7 * r + k)) (fun G hG Q => ?_) (fun G hG Q => ?_)
    · rw [c_at_ok hG.1.1 Q r k r1 n12 (c4 hG hV).2 k1, hG.2.1.1.2.2.2.2 r k (by omega) (by omega)]
    · have e2 : 57 + 7 * nI r + nI k = nI (57 + 7 * r + k) := by rw [show (7 : Int32) = nI 7 from rfl, show (57 : Int32) = nI 57 from rfl, nI_mul, nI_add, nI_add]
      have z1 : hpI G 72 2 ≤ 12 := by rw [(s1 hG hV).2]; exact le12 n12
      rw [s_at hG.1.1 Q _ _ z1, (s1 hG hV).2, if_pos q, e2, nI_clamp (by omega), hG.2.1]
  · exact st_ans h0 (v := -1) (fun G hG Q => by rw [c_at_no hG.1.1 Q _ _ (c4 hG hV).2 q]) (fun G hG Q => by
      have z1 : hpI G 72 2 ≤ 12 := by rw [(s1 hG hV).2]; exact le12 n12
      rw [s_at hG.1.1 Q _ _ z1, (s1 hG hV).2, if_neg q])
theorem st_drawn {X : XDt} {c : Nat} (h : VXe X c) (a b : Int32) : StX D_Post_drawn D_Mdl_drawn [.int a, .int b] X c := by
  have h0 := h
  obtain ⟨nr, nl, n, m, A, B, hV⟩ := h
  have n8 := hV.2.2.2.2.1
  by_cases q : (0 ≤ a ∧ a < nI X.2.2.2.2.2.1.1) ∧ (0 ≤ b ∧ b ≤ 2)
  · obtain ⟨r, r1, rfl⟩ := ex_nI (by omega) q.1
    obtain ⟨k, k1, rfl⟩ := ex_le (a := b) (n := 2) (by omega) q.2
    refine st_ans h0 (v := X.2.2.2.2.2.1.2 r k) (fun G hG Q => ?_) (fun G hG Q => ?_)
    · have g := hG.2.2.2.2.2.2.1
      rw [c_drawn_ok hG.1.1 Q r k r1 n8 g.1 k1, g.2 r k r1 (by omega)]
    · have g := hG.2.2.2.2.2.2.1
      have hn : hpI G 70 64 = nI X.2.2.2.2.2.1.1 := by
        rcases g.1 with z | z
        · exact z
        · omega
      have e2 : 3 * nI r + nI k = nI (3 * r + k) := by rw [show (3 : Int32) = nI 3 from rfl, nI_mul, nI_add]
      rw [s_drawn hG.1.1 Q _ _ _ hn (le8 n8), if_pos q, e2, nI_clamp (by omega), g.2 r k r1 (by omega)]
  · refine st_ans h0 (v := -1) (fun G hG Q => by rw [c_drawn_no hG.1.1 Q _ _ hG.2.2.2.2.2.2.1.1 q]) (fun G hG Q => ?_)
    rcases hG.2.2.2.2.2.2.1.1 with z | ⟨z0, z⟩
    · rw [s_drawn hG.1.1 Q _ _ _ z (le8 n8), if_neg q]
    · rw [s_drawn hG.1.1 Q _ _ _ z (by decide), if_neg (fun y => ?_)]
      have h1 := Int32.le_iff_toInt_le.mp y.1.1
      have h2 := Int32.lt_iff_toInt_lt.mp y.1.2
      rw [show (0 : Int32).toInt = 0 by decide] at h1
      rw [show (-1 : Int32).toInt = -1 by decide] at h2
      omega
/-- what count tells -/
def ctX (X : XDt) (nl : Nat) (a : Int32) : Int32 := if a = 0 then X.1.1 0 else if a = 1 then X.1.1 1 else if a = 2 then X.1.1 2 else if a = 3 then nI (heldN X.1.1 nl) else if a = 4 then X.1.1 3 else if a = 5 then nI X.2.1.1 else if a = 6 then nI X.2.2.1.1 else if a = 7 then X.2.2.2.2.1 0 else if a = 8 then X.2.2.2.2.1 1 else if a = 9 then X.2.2.2.2.1 2 else if a = 10 then X.2.2.2.2.1 3 else if a = 11 then X.2.2.2.2.1 4 else if a = 12 then X.1.1 4 else if a = 13 then X.1.1 8 else if a = 14 then X.1.1 5 else if a = 15 then X.1.1 6 else if a = 16 then X.1.1 7 else -1
theorem st_count {X : XDt} {c : Nat} (h : VXe X c) (a : Int32) : StX D_Post_count D_Mdl_count [.int a] X c := by
  have h0 := h
  obtain ⟨nr, nl, n, m, A, B, hV⟩ := h
  have n12 := hV.1.1.2.2.2.1
  refine st_ans h0 (v := ctX X nl a) (fun G hG Q => ?_) (fun G hG Q => ?_)
  · rw [c_count hG.1.1 Q a _ (fun Q => c_held hG.1.1 Q hG.2.1.1 hV.1.1)]
    obtain ⟨_, ⟨⟨v1, v2, v3, _⟩, _, _, w5, w6, w7, _⟩, ⟨p, _, u3, _⟩, d, e, f, g, i⟩ := hG
    have e1 := v1 0 (by omega)
    have e2 := v1 1 (by omega)
    have e3 := v1 2 (by omega)
    have e4 := v1 3 (by omega)
    have f0 := f 0 (by omega)
    have f1 := f 1 (by omega)
    have f2 := f 2 (by omega)
    have f3 := f 3 (by omega)
    have f4 := f 4 (by omega)
    have d1 := d.1
    unfold cnC ctX
    rw [w5, w6, w7, u3, f0, f1, f2, f3, f4]
    have d1' : hpI G 47 1 = nI X.2.2.1.1 := d1
    have v2' : hpI G 2 4 = X.1.1 1 := v2
    have v3' : hpI G 2 5 = X.1.1 2 := v3
    have e1' : hpI G 2 0 = X.1.1 5 := e1
    have e2' : hpI G 2 1 = X.1.1 6 := e2
    have e3' : hpI G 2 2 = X.1.1 7 := e3
    have e4' : hpI G 2 3 = X.1.1 8 := e4
    rw [d1', v2', v3', e1', e2', e3', e4']
  · rw [s_count hG.1.1 Q a nl n12 (s1 hG hV).2]
    obtain ⟨_, b, cc, d, e, f, g, i⟩ := hG
    have f0 : hpI G 71 1 = X.2.2.2.2.1 0 := f 0 (by omega)
    have f1 : hpI G 71 2 = X.2.2.2.2.1 1 := f 1 (by omega)
    have f2 : hpI G 71 3 = X.2.2.2.2.1 2 := f 2 (by omega)
    have f3 : hpI G 71 5 = X.2.2.2.2.1 3 := f 3 (by omega)
    have f4 : hpI G 71 6 = X.2.2.2.2.1 4 := f 4 (by omega)
    unfold cnt ctX
    rw [b, cc.1, d.1, f0, f1, f2, f3, f4]
