/-! INSTRUCTIONS ON CELLS -/
abbrev xin (i : Int32) (n : Nat) : Prop := 0 ≤ i ∧ i.toNatClampNeg < n
theorem xin.to {i : Int32} {n : Nat} (h : xin i n) : vp_in i n := fun q => by
  rcases q with q | q
  · exact Int32.not_lt.mpr h.1 q
  · have := h.2
    omega
/-- a field's place in a class's own pool: class ci, field k, kind t -/
def XFr (own : String) (index ci k t : Nat) : Prop := ∃ (C : String) (T : u_T) (N : Nat) (ty : Nat → FieldType), XCl ci C T N ty ∧ k < N ∧ xft ci k = t ∧ Cond.fieldLink own index (T k).1 (T k).2.1 (T k).2.2.1 ∈ lw_gd
/-- the same, of a nest mate's private field -/
def XFn (own : String) (index ci k t : Nat) : Prop := ∃ (C : String) (T : u_T) (N : Nat) (ty : Nat → FieldType) (host : String), XCl ci C T N ty ∧ k < N ∧ xft ci k = t ∧ Cond.fieldLinkNest own index (T k).1 (T k).2.1 (T k).2.2.1 host ∈ lw_nw
/-- a field that is written -/
def XFw (own : String) (index ci k t : Nat) (bo fin : Bool) : Prop := ∃ (C : String) (T : u_T) (N : Nat) (ty : Nat → FieldType), XCl ci C T N ty ∧ k < N ∧ xft ci k = t ∧ Cond.fieldLink own index (T k).1 (T k).2.1 (T k).2.2.1 ∈ lw_gd ∧ (T k).2.2.2 = fin ∧ (fin = true → (T k).1 = own) ∧ (t = 0 → ty k = if bo = true then .boolean else .int) ∧ (t = 1 → ty k = .long) ∧ (t = 2 → ∀ v : Value, (v = .null ∨ ∃ a, v = .ref a) → narrow (ty k) v = v ∧ fits (ty k) v = true)
section HE
variable {l : Launch} {b : Nat} {D : va_G} {dA : Nat → ClassId} {ad : Nat → Option Nat} {own : String} {cc : ByteArray} {nL : Nat} {ret : Option FieldType} {ini : Bool} {fr pc : Nat} {K : XK}
theorem xat_o {G : XH} {j ci : Nat} (hj : j < hpZ G) (hc : hpC G j = ci) (h20 : ci < 20) : (xws b dA G)[j]? = some (b + j, .inr (ci, xfs b G ci j)) := by
  rw [xws_get hj, xcell_o hc h20]
theorem xrf_map {b : Nat} {ad : Nat → Option Nat} (o : Option Nat) : va_rf (o.map (b + ·)) = xtr b ad (va_rf o) := by cases o <;> rfl
def xGetI (ci k : Nat) (K : XK) : XK := fun A st G => match st with
  | .ref j :: r => if hpC G j = ci then K A (.int (hpI G j k) :: r) G else none
  | _ => none
def xGetL (ci k : Nat) (K : XK) : XK := fun A st G => match st with
  | .ref j :: r => if hpC G j = ci then K A (.long (hpL G j k) :: r) G else none
  | _ => none
def xGetR (ci k : Nat) (K : XK) : XK := fun A st G => match st with
  | .ref j :: r => if hpC G j = ci then K A (va_rf (hpR G j k) :: r) G else none
  | _ => none
theorem go_getI {index ci k : Nat} (hf : XFr own index ci k 0) (hd : decode cc pc = .ok (.getfield index, 3)) (h : XGo l b D dA ad own cc nL ret ini fr (pc + 3) K) : XGo l b D dA ad own cc nL ret ini fr pc (xGetI ci k K) := by
  obtain ⟨C, T, N, ty, ⟨c1, c2, c3, c4, c5, c6, c7⟩, hk, ht, hw⟩ := hf
  refine go_pure h fun A st G res hk2 => ?_
  unfold xGetI at hk2
  split at hk2
  · split at hk2
    · next hc =>
      exact ⟨A, _, hk2, fun p e R s m args below meth c X H locs cells slots Q ls hP hS hl kk => va_get X.1 X.2.1 X.2.2.2.2.1 c2 X.2.2.2.1 X.2.2.2.2.2.2.2.2.1 hP.1 _ (xat_o (hP.lt hc (by omega)) hc c7) c1 k hk (X.2.2.2.2.1 _ hw) (fun _ h9 => h9) (by rw [xfs_get (by rw [c5]; exact hk), ht]; rfl) hd (kk ls hl)⟩
    · cases hk2
  · cases hk2
theorem go_getL {index ci k : Nat} (hf : XFr own index ci k 1) (hd : decode cc pc = .ok (.getfield index, 3)) (h : XGo l b D dA ad own cc nL ret ini fr (pc + 3) K) : XGo l b D dA ad own cc nL ret ini fr pc (xGetL ci k K) := by
  obtain ⟨C, T, N, ty, ⟨c1, c2, c3, c4, c5, c6, c7⟩, hk, ht, hw⟩ := hf
  refine go_pure h fun A st G res hk2 => ?_
  unfold xGetL at hk2
  split at hk2
  · split at hk2
    · next hc =>
      exact ⟨A, _, hk2, fun p e R s m args below meth c X H locs cells slots Q ls hP hS hl kk => va_get X.1 X.2.1 X.2.2.2.2.1 c2 X.2.2.2.1 X.2.2.2.2.2.2.2.2.1 hP.1 _ (xat_o (hP.lt hc (by omega)) hc c7) c1 k hk (X.2.2.2.2.1 _ hw) (fun _ h9 => h9) (by rw [xfs_get (by rw [c5]; exact hk), ht]; rfl) hd (kk ls hl)⟩
    · cases hk2
  · cases hk2
theorem go_getR {index ci k : Nat} (hf : XFr own index ci k 2) (hd : decode cc pc = .ok (.getfield index, 3)) (h : XGo l b D dA ad own cc nL ret ini fr (pc + 3) K) : XGo l b D dA ad own cc nL ret ini fr pc (xGetR ci k K) := by
  obtain ⟨C, T, N, ty, ⟨c1, c2, c3, c4, c5, c6, c7⟩, hk, ht, hw⟩ := hf
  refine go_pure h fun A st G res hk2 => ?_
  unfold xGetR at hk2
  split at hk2
  · split at hk2
    · next hc =>
      exact ⟨A, _, hk2, fun p e R s m args below meth c X H locs cells slots Q ls hP hS hl kk => va_get X.1 X.2.1 X.2.2.2.2.1 c2 X.2.2.2.1 X.2.2.2.2.2.2.2.2.1 hP.1 _ (xat_o (hP.lt hc (by omega)) hc c7) c1 k hk (X.2.2.2.2.1 _ hw) (fun _ h9 => h9) (by rw [xfs_get (by rw [c5]; exact hk), ht]; exact congrArg some (xrf_map _)) hd (kk ls hl)⟩
    · cases hk2
  · cases hk2
theorem go_getRN {index ci k : Nat} (hf : XFn own index ci k 2) (hd : decode cc pc = .ok (.getfield index, 3)) (h : XGo l b D dA ad own cc nL ret ini fr (pc + 3) K) : XGo l b D dA ad own cc nL ret ini fr pc (xGetR ci k K) := by
  obtain ⟨C, T, N, ty, host, ⟨c1, c2, c3, c4, c5, c6, c7⟩, hk, ht, hw⟩ := hf
  refine go_pure h fun A st G res hk2 => ?_
  unfold xGetR at hk2
  split at hk2
  · split at hk2
    · next hc =>
      exact ⟨A, _, hk2, fun p e R s m args below meth c X H locs cells slots Q ls hP hS hl kk => va_getN X.1 X.2.1 X.2.2.2.2.1 c2 X.2.2.2.1 X.2.2.2.2.2.2.2.2.1 hP.1 _ (xat_o (hP.lt hc (by omega)) hc c7) c1 k hk (va_Nw.use rfl (X.2.2.2.2.2.2.2.2.2.1.2.2.2.2.1 _ hw)) (fun _ h9 => h9) (by rw [xfs_get (by rw [c5]; exact hk), ht]; exact congrArg some (xrf_map _)) hd (kk ls hl)⟩
    · cases hk2
  · cases hk2
/-- a field is written: any value that fits, plain or final -/
theorem xw_put {p : Program} {e : Env} {R : Room} {s : State} {m : MethodId} {args : Array Value} {below : List Frame} {meth : Method} {c : Code} {H : Heap} {locs : List Loc} {cells slots : Nat} {Q : State → Prop} {ls : Array Slot} {rest : List Value} (X : XCtx b D dA ad own cc nL ret ini fr p R s m args meth c) {G : XH} {index ci k : Nat} {fin : Bool} {C : String} {T : u_T} {N j : Nat} {ty : Nat → FieldType} (hcl : XCl ci C T N ty) (hk : k < N) (hw : Cond.fieldLink own index (T k).1 (T k).2.1 (T k).2.2.1 ∈ lw_gd) (hfin : (T k).2.2.2 = fin) (hdecl : fin = true → (T k).1 = own) (hini : fin = true → ini = true) {v : Value} (hn : narrow (ty k) v = v ∧ fits (ty k) v = true) (hP : XRp b D dA G H) (hS0 : va_S (xA b) s.heap H locs) (hj : j < hpZ G) (hc : hpC G j = ci) (hd : decode cc pc = .ok (.putfield index, 3))
    (kk : ∀ (H1 : Heap) (locs1 : List Loc), va_P D classes ((xws b dA G).set j (b + j, .inr (ci, (xfs b G ci j).set k v))) H1 → va_S (xA b) s.heap H1 locs1 → H1.size = H.size → W p l e R s m args below meth c H1 locs1 cells slots Q (F0 m (pc + 3) ls rest)) : W p l e R s m args below meth c H locs cells slots Q (F0 m pc ls (v :: .ref (b + j) :: rest)) := by
  obtain ⟨c1, c2, c3, c4, c5, c6, c7⟩ := hcl
  obtain ⟨hx, hb, hml, hown, hts, hr, hlk, hin, hK, hst, hbs, hfr, hlo⟩ := X
  have he := xat_o (b := b) (dA := dA) hj hc c7
  have hap := va_apart (own := own) hts c2 ty c3 c4 hK c1
  obtain ⟨r, h1, cell, q1, q2, q3, q4⟩ := hP.1 j _ he
  have hr2 : r = (C, T, N) := Option.some.inj (h1.symm.trans c1)
  subst hr2
  obtain ⟨hSl, hfc, kC, hkC, hkind⟩ := hK.1 ci _ c1
  obtain ⟨cf, kf, fi, f, hi, hsl⟩ := hSl k hk
  have hlay := hts _ (c2 _ (u_in_lay hk))
  have hst2 := (u_facts hfc hkC (u_lays hts c2 hk) hi).1
  have hl : k < (xfs b G ci j).length := by rw [xfs_len, c5]; exact hk
  unfold u_lay at hlay
  cases hfb : fin with
  | false =>
    rw [if_neg (by rw [hfin, hfb]; decide)] at hlay
    have h6 := u_store hfc hkC hkind hlay hi (c3 k hk) hn.1 hn.2
    refine W.putK hx hb (f := f) ⟨hown, hts _ hw, ⟨_, _, _, hi⟩, hst2⟩ (by rw [q2]; exact h6) q1 q3 (by rw [hsl]; exact k2_hasslot (q4 k hk)) rfl rfl hd fun H' e1 e2 e3 => ?_
    rw [hsl] at e1 ⊢
    exact kk H' _ (hP.1.set xws_D he ⟨_, c1, t_OB.to (V := updV (vp_V (xfs b G ci j)) k v) ⟨_, e1, q2, q3, t_set q4 hap hk v⟩ (fun j _ => vp_updV_set hl v j)⟩ e3) (hS0.put e2 e3 (Nat.le_add_right b j)) e2
  | true =>
    rw [if_pos (by rw [hfin, hfb])] at hlay
    have hcf : m.cls = cf := by
      obtain ⟨_, _, c', _, _, _, -, -, hf', -, -, -, hown2, -⟩ := Cond.laysFinal_spec hlay
      have e1 : c' = cf := by have := hi.symm.trans hf'; simp at this; exact this.1.symm
      rw [hdecl hfb] at hown2
      rw [← e1]; exact Option.some.inj (hown.symm.trans hown2)
    have h6 := u_fits hfc hkC hkind (Or.inr hlay) hi (c3 k hk) hn.1 hn.2
    refine W.putFinK hx hb hown (hts _ hw) hi hst2 hcf (hin (hini hfb)) (by rw [q2]; exact h6) q1 q3 (by rw [hsl]; exact k2_hasslot (q4 k hk)) rfl rfl hd fun H' e1 e2 e3 => ?_
    rw [hsl] at e1 ⊢
    exact kk H' _ (hP.1.set xws_D he ⟨_, c1, t_OB.to (V := updV (vp_V (xfs b G ci j)) k v) ⟨_, e1, q2, q3, t_set q4 hap hk v⟩ (fun j _ => vp_updV_set hl v j)⟩ e3) (hS0.put e2 e3 (Nat.le_add_right b j)) e2
def xPutI (ci k : Nat) (K : XK) : XK := fun A st G => match st with
  | .int v :: .ref j :: r => if hpC G j = ci then K A r (stI G j k v) else none
  | _ => none
def xPutZ (ci k : Nat) (K : XK) : XK := fun A st G => match st with
  | .int v :: .ref j :: r => if hpC G j = ci ∧ (v = 0 ∨ v = 1) then K A r (stI G j k v) else none
  | _ => none
def xPutL (ci k : Nat) (K : XK) : XK := fun A st G => match st with
  | .long v :: .ref j :: r => if hpC G j = ci then K A r (stL G j k v) else none
  | _ => none
def xPutR (ci k : Nat) (K : XK) : XK := fun A st G => match st with
  | .ref x :: .ref j :: r => if hpC G j = ci then K A r (stR G j k (some x)) else none
  | .null :: .ref j :: r => if hpC G j = ci then K A r (stR G j k none) else none
  | _ => none
theorem xnar01 {v : Int32} (h : v = 0 ∨ v = 1) : narrow .boolean (.int v) = .int v ∧ fits .boolean (.int v) = true := by
  rcases h with rfl | rfl <;> exact ⟨by decide +kernel, by decide +kernel⟩
theorem go_putI {index ci k : Nat} {fin : Bool} (hf : XFw own index ci k 0 false fin) (hi : fin = true → ini = true) (hd : decode cc pc = .ok (.putfield index, 3)) (h : XGo l b D dA ad own cc nL ret ini fr (pc + 3) K) : XGo l b D dA ad own cc nL ret ini fr pc (xPutI ci k K) := by
  obtain ⟨C, T, N, ty, hcl, hk, ht, hw, h1, h2, h3, h4, h5⟩ := hf
  refine go_heap h fun A st G res hk2 => ?_
  unfold xPutI at hk2
  split at hk2
  · split at hk2
    · next hc =>
      refine ⟨_, _, hk2, rfl, rfl, rfl, fun p e R s m args below meth c X H locs cells slots Q ls hP hS hl kk => xw_put X hcl hk hw h1 h2 hi (by rw [h3 rfl]; exact ⟨rfl, rfl⟩) hP hS (hP.lt hc (by have := hcl.2.2.2.2.2.2; omega)) hc hd fun H1 locs1 hP1 hS1 hz => kk H1 locs1 ?_ hS1 hz⟩
      rw [← xws_stI_f hc hcl.2.2.2.2.2.2 (by rw [hcl.2.2.2.2.1]; exact hk) ht]
      exact hP1
    · cases hk2
  · cases hk2
theorem go_putZ {index ci k : Nat} {fin : Bool} (hf : XFw own index ci k 0 true fin) (hi : fin = true → ini = true) (hd : decode cc pc = .ok (.putfield index, 3)) (h : XGo l b D dA ad own cc nL ret ini fr (pc + 3) K) : XGo l b D dA ad own cc nL ret ini fr pc (xPutZ ci k K) := by
  obtain ⟨C, T, N, ty, hcl, hk, ht, hw, h1, h2, h3, h4, h5⟩ := hf
  refine go_heap h fun A st G res hk2 => ?_
  unfold xPutZ at hk2
  split at hk2
  · split at hk2
    · next hc =>
      refine ⟨_, _, hk2, rfl, rfl, rfl, fun p e R s m args below meth c X H locs cells slots Q ls hP hS hl kk => xw_put X hcl hk hw h1 h2 hi (by rw [h3 rfl]; exact xnar01 hc.2) hP hS (hP.lt hc.1 (by have := hcl.2.2.2.2.2.2; omega)) hc.1 hd fun H1 locs1 hP1 hS1 hz => kk H1 locs1 ?_ hS1 hz⟩
      rw [← xws_stI_f hc.1 hcl.2.2.2.2.2.2 (by rw [hcl.2.2.2.2.1]; exact hk) ht]
      exact hP1
    · cases hk2
  · cases hk2
theorem go_putL {index ci k : Nat} {fin : Bool} (hf : XFw own index ci k 1 false fin) (hi : fin = true → ini = true) (hd : decode cc pc = .ok (.putfield index, 3)) (h : XGo l b D dA ad own cc nL ret ini fr (pc + 3) K) : XGo l b D dA ad own cc nL ret ini fr pc (xPutL ci k K) := by
  obtain ⟨C, T, N, ty, hcl, hk, ht, hw, h1, h2, h3, h4, h5⟩ := hf
  refine go_heap h fun A st G res hk2 => ?_
  unfold xPutL at hk2
  split at hk2
  · split at hk2
    · next hc =>
      refine ⟨_, _, hk2, rfl, rfl, rfl, fun p e R s m args below meth c X H locs cells slots Q ls hP hS hl kk => xw_put X hcl hk hw h1 h2 hi (by rw [h4 rfl]; exact ⟨rfl, rfl⟩) hP hS (hP.lt hc (by have := hcl.2.2.2.2.2.2; omega)) hc hd fun H1 locs1 hP1 hS1 hz => kk H1 locs1 ?_ hS1 hz⟩
      rw [← xws_stL_f hc hcl.2.2.2.2.2.2 (by rw [hcl.2.2.2.2.1]; exact hk) ht]
      exact hP1
    · cases hk2
  · cases hk2
theorem go_putR {index ci k : Nat} {fin : Bool} (hf : XFw own index ci k 2 false fin) (hi : fin = true → ini = true) (hd : decode cc pc = .ok (.putfield index, 3)) (h : XGo l b D dA ad own cc nL ret ini fr (pc + 3) K) : XGo l b D dA ad own cc nL ret ini fr pc (xPutR ci k K) := by
  obtain ⟨C, T, N, ty, hcl, hk, ht, hw, h1, h2, h3, h4, h5⟩ := hf
  refine go_heap h fun A st G res hk2 => ?_
  unfold xPutR at hk2
  split at hk2
  · next x j r =>
    split at hk2
    · next hc =>
      refine ⟨_, _, hk2, rfl, rfl, rfl, fun p e R s m args below meth c X H locs cells slots Q ls hP hS hl kk => xw_put X hcl hk hw h1 h2 hi (h5 rfl _ (Or.inr ⟨b + x, rfl⟩)) hP hS (hP.lt hc (by have := hcl.2.2.2.2.2.2; omega)) hc hd fun H1 locs1 hP1 hS1 hz => kk H1 locs1 ?_ hS1 hz⟩
      rw [← xws_stR_f hc hcl.2.2.2.2.2.2 (by rw [hcl.2.2.2.2.1]; exact hk) ht]
      exact hP1
    · cases hk2
  · split at hk2
    · next hc =>
      refine ⟨_, _, hk2, rfl, rfl, rfl, fun p e R s m args below meth c X H locs cells slots Q ls hP hS hl kk => xw_put X hcl hk hw h1 h2 hi (h5 rfl _ (Or.inl rfl)) hP hS (hP.lt hc (by have := hcl.2.2.2.2.2.2; omega)) hc hd fun H1 locs1 hP1 hS1 hz => kk H1 locs1 ?_ hS1 hz⟩
      rw [← xws_stR_f hc hcl.2.2.2.2.2.2 (by rw [hcl.2.2.2.2.1]; exact hk) ht]
      exact hP1
    · cases hk2
  · cases hk2
end HE
