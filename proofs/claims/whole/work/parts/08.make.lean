/-! NEW CELLS -/
section MK
variable {l : Launch} {b : Nat} {D : va_G} {dA : Nat → ClassId} {ad : Nat → Option Nat} {own : String} {cc : ByteArray} {nL : Nat} {ret : Option FieldType} {ini : Bool} {fr pc pc' : Nat} {K K' : XK}
theorem go_make (h : XGo l b D dA ad own cc nL ret ini fr pc' K)
    (hs : ∀ (A : List (Option Value)) (st : List Value) (G : XH) (res : XR), K' A st G = some res → ∃ (st' : List Value) (G' : XH) (k n : Nat), K A st' G' = some res ∧ hpZ G' = hpZ G + k ∧ hpS G' = hpS G + n ∧ ((∀ j, hpZ G ≤ j → hpC G j = 99) → ∀ j, hpZ G + k ≤ j → hpC G' j = 99) ∧
      ∀ (p : Program) (e : Env) (R : Room) (s : State) (m : MethodId) (args : Array Value) (below : List Frame) (meth : Method) (c : Code), XCtx b D dA ad own cc nL ret ini fr p R s m args meth c →
        ∀ (H : Heap) (locs : List Loc) (cells slots : Nat) (Q : State → Prop) (ls : Array Slot), XRp b D dA G H → va_S (xA b) s.heap H locs → xLr b ad A ls nL → cells + k ≤ R.cells → slots + n ≤ R.slots → (∀ H' : Heap, va_P D classes (xws b dA G') H' → va_S (xA b) s.heap H' locs → H'.size = H.size + k → W p l e R s m args below meth c H' locs (cells + k) (slots + n) Q (F0 m pc' ls (st'.map (xtr b ad)))) → W p l e R s m args below meth c H locs cells slots Q (F0 m pc ls (st.map (xtr b ad)))) :
    XGo l b D dA ad own cc nL ret ini fr pc K' := by
  refine ⟨fun A st G res hk => ?_, fun A st G res hk => ?_⟩
  · obtain ⟨st', G', k, n, h1, e1, e2, -, -⟩ := hs A st G res hk
    have := h.1 _ _ _ _ h1
    omega
  · obtain ⟨st', G', k, n, h1, e1, e2, e3, h2⟩ := hs A st G res hk
    have hm := h.1 _ _ _ _ h1
    intro p e R s m args below meth c X H locs cells slots mc ms ls hP hS hl hmc hms h3 h4
    exact h2 p e R s m args below meth c X H locs cells slots _ ls hP hS hl (by omega) (by omega) fun H' hP' hS' hz => h.2 _ _ _ _ h1 p e R s m args below meth c X H' locs (cells + k) (slots + n) mc ms ls ⟨hP', by rw [hz, hP.2.1, e1]; omega, fun j hj => e3 hP.2.2 j (by rw [← e1]; exact hj)⟩ hS' hl (by omega) (by omega) h3 h4
/-- one cell at the end of the heap -/
theorem xN99 {G : XH} {c n : Nat} (h : ∀ j, hpZ G ≤ j → hpC G j = 99) : ∀ j, hpZ G + 1 ≤ j → hpC (stN G c n) j = 99 := fun j hj => (up1_ne (by show j ≠ hpZ G; omega)).trans (h j (by omega))
theorem xRp_push {G : XH} {H H1 : Heap} {c n : Nat} (hP : XRp b D dA G H) (o1 : ∀ q, q < H.size → H1[q]? = H[q]?) (he : va_at D classes (b + hpZ G, xcell b dA (stN G c n) (hpZ G)) H1) : va_P D classes (xws b dA (stN G c n)) H1 := by
  rw [← xws_new rfl]
  refine va_P.app (hP.1.kept fun k q hk => o1 _ ((hP.1 k q hk).lt)) fun k q hk => ?_
  have hz : k < 1 := (List.getElem?_eq_some_iff.mp hk).1
  rw [show k = 0 by omega] at hk
  cases hk
  exact he
theorem xS_push {s : State} {H H1 : Heap} {locs : List Loc} (hS : va_S (xA b) s.heap H locs) (hz : H.size ≤ H1.size) (o1 : ∀ q, q < H.size → H1[q]? = H[q]?) : va_S (xA b) s.heap H1 locs :=
  ⟨Nat.le_trans hS.1 hz, fun x h1 h2 => (o1 x (Nat.lt_of_lt_of_le h1 hS.1)).trans (hS.2.1 x h1 h2), hS.2.2⟩
def xNew (ci N : Nat) (K : XK) : XK := fun A st G => K A (.ref (hpZ G) :: st) (stN G ci N)
def xdf (t : Nat) : Value := match t with
  | 0 => .int 0
  | 1 => .long 0
  | _ => .null
theorem go_new {index ci N : Nat} {C : String} {T : u_T} {ty : Nat → FieldType} (hcl : XCl ci C T N ty) (hdf : ∀ k, k < N → defaultValue (ty k) = xdf (xft ci k)) (w1 : Cond.classLink own index C ∈ lw_gd) (w2 : Cond.instantiable C N ∈ lw_gd) (w3 : Cond.initialized C ∈ lw_gd) (hd : decode cc pc = .ok (.new index, 3)) (h : XGo l b D dA ad own cc nL ret ini fr (pc + 3) K) : XGo l b D dA ad own cc nL ret ini fr pc (xNew ci N K) := by
  refine go_make h fun A st G res hk => ⟨_, _, 1, N, hk, rfl, rfl, xN99, fun p e R s m args below meth c X H locs cells slots Q ls hP hS hl hc1 hc2 kk => ?_⟩
  obtain ⟨c1, c2, c3, c4, c5, c6, c7⟩ := hcl
  obtain ⟨hx, hb, hml, hown, hts, hr, hlk, hin, hK, hst, hbs, hfr, hlo⟩ := X
  have hKn := hK.1 ci _ c1
  refine W.newcK hx hb hown (hts _ w1) (hts _ w2) (hts _ w3) rfl hd hc1 hc2 hKn.2.1 rfl fun H1 kC hkC e1 z1 o1 => ?_
  have hkk := kk H1 (xRp_push hP o1 ?_) (xS_push hS (by omega) o1) z1
  · rw [List.map_cons, show xtr b ad (.ref (hpZ G)) = .ref H.size by show Value.ref (b + hpZ G) = _; rw [hP.2.1]] at hkk
    exact hkk
  · rw [xcell_o (c := ci) (up1_same) c7]
    refine ⟨_, c1, ?_⟩
    show t_OB (b + hpZ G) _ _ _ _ _
    rw [← hP.2.1]
    refine (u_born ty hts c2 hKn hkC e1 c3).to fun k hk => ?_
    rw [hdf k hk]
    unfold vp_V
    rw [List.getD_eq_getElem?_getD, xfs_get (by rw [c5]; exact hk)]
    unfold xfv xdf
    generalize xft ci k = t9
    rcases t9 with _ | _ | t9 <;> simp [stN, up1, hpI, hpL, hpR, va_rf]
def xNewA (t : Nat) (K : XK) : XK := fun A st G => match st with
  | .int n :: r => if 0 ≤ n ∧ n.toNatClampNeg ≤ 100000 then K A (.ref (hpZ G) :: r) (stN G t n.toNatClampNeg) else none
  | _ => none
theorem xnewarr {atype : ArrayType} {t t0 : Nat} (w : Cond.arrayClass (newarray.typeOf atype) ∈ lw_gd) (ht : ∀ dA : Nat → ClassId, (xtys dA)[t0]? = some (dA t, newarray.typeOf atype)) (hra : ∀ (U : State) (cA : ClassId), va_RA U cA (newarray.typeOf atype) → U.vm.findClass ("[" ++ (newarray.typeOf atype).toString) = some cA) (hby : componentBytes (newarray.typeOf atype) ≤ 8)
    (hcell : ∀ (G : XH) (n : Nat) (cA : ClassId), cA = dA t → va_at D classes (b + hpZ G, xcell b dA (stN G t n) (hpZ G)) = fun H1 => H1[b + hpZ G]? = some (arrV cA n (fun _ => defaultValue (newarray.typeOf atype))))
    (hd : decode cc pc = .ok (.newarray atype, 2)) (h : XGo l b D dA ad own cc nL ret ini fr (pc + 2) K) : XGo l b D dA ad own cc nL ret ini fr pc (xNewA t K) := by
  refine go_make h fun A st G res hk => ?_
  unfold xNewA at hk
  split at hk
  · next n r =>
    split at hk
    · next hc =>
      refine ⟨_, _, 1, n.toNatClampNeg, hk, rfl, rfl, xN99, fun p e R s m args below meth c X H locs cells slots Q ls hP hS hl hc1 hc2 kk => ?_⟩
      obtain ⟨hx, hb, hml, hown, hts, hr, hlk, hin, hK, hst, hbs, hfr, hlo⟩ := X
      have hbytes : n.toNatClampNeg * componentBytes (newarray.typeOf atype) ≤ 536870912 := Nat.le_trans (Nat.mul_le_mul hc.2 hby) (by decide)
      refine va_newaK hx hb (hts _ w) rfl hd rfl (Int32.not_lt.mpr hc.1) rfl hbytes hc1 hc2 rfl fun H1 cA e1 z1 o1 hAr hNm => ?_
      have hcA : cA = dA t := by
        have h1 := hra s _ (hK.2 t0 _ (ht dA)).2
        exact Option.some.inj (hNm.symm.trans h1)
      have hkk := kk H1 (xRp_push hP o1 (by rw [hcell G _ cA hcA, ← hP.2.1]; exact e1)) (xS_push hS (by omega) o1) z1
      rw [List.map_cons, show xtr b ad (.ref (hpZ G)) = .ref H.size by show Value.ref (b + hpZ G) = _; rw [hP.2.1]] at hkk
      exact hkk
    · cases hk
  · cases hk
theorem go_newI (w : Cond.arrayClass .int ∈ lw_gd) (hd : decode cc pc = .ok (.newarray .int, 2)) (h : XGo l b D dA ad own cc nL ret ini fr (pc + 2) K) : XGo l b D dA ad own cc nL ret ini fr pc (xNewA 20 K) :=
  xnewarr (atype := .int) (t0 := 0) w (fun _ => rfl) (fun _ _ h => h) (by decide) (fun G n cA hc => by
    rw [xcell_i (c := 20) up1_same (Or.inl rfl)]
    funext H1
    simp [va_at, vp_cell_i, stN, up1, hpI, hpN, hc, newarray.typeOf, defaultValue]) hd h
theorem go_newZ (w : Cond.arrayClass .boolean ∈ lw_gd) (hd : decode cc pc = .ok (.newarray .boolean, 2)) (h : XGo l b D dA ad own cc nL ret ini fr (pc + 2) K) : XGo l b D dA ad own cc nL ret ini fr pc (xNewA 21 K) :=
  xnewarr (atype := .boolean) (t0 := 1) w (fun _ => rfl) (fun _ _ h => h) (by decide) (fun G n cA hc => by
    rw [xcell_i (c := 21) up1_same (Or.inr rfl)]
    funext H1
    simp [va_at, vp_cell_i, stN, up1, hpI, hpN, hc, newarray.typeOf, defaultValue]) hd h
theorem go_newL (w : Cond.arrayClass .long ∈ lw_gd) (hd : decode cc pc = .ok (.newarray .long, 2)) (h : XGo l b D dA ad own cc nL ret ini fr (pc + 2) K) : XGo l b D dA ad own cc nL ret ini fr pc (xNewA 22 K) :=
  xnewarr (atype := .long) (t0 := 2) w (fun _ => rfl) (fun _ _ h => h) (by decide) (fun G n cA hc => by
    rw [xcell_l up1_same]
    funext H1
    simp [va_at, vp_cell_l, stN, up1, hpL, hpN, hc, newarray.typeOf, defaultValue]) hd h
theorem go_newR {index t t0 : Nat} {C : String} (h23 : 23 ≤ t) (w1 : Cond.classLink own index C ∈ lw_gd) (w2 : C = "TearPost$World" ∨ C = "TearPost$Text") (ht : ∀ dA : Nat → ClassId, (xtys dA)[t0]? = some (dA t, .object C)) (hd : decode cc pc = .ok (.anewarray index, 3)) (h : XGo l b D dA ad own cc nL ret ini fr (pc + 3) K) : XGo l b D dA ad own cc nL ret ini fr pc (xNewA t K) := by
  refine go_make h fun A st G res hk => ?_
  unfold xNewA at hk
  split at hk
  · next n r =>
    split at hk
    · next hc =>
      refine ⟨_, _, 1, n.toNatClampNeg, hk, rfl, rfl, xN99, fun p e R s m args below meth c X H locs cells slots Q ls hP hS hl hc1 hc2 kk => ?_⟩
      obtain ⟨hx, hb, hml, hown, hts, hr, hlk, hin, hK, hst, hbs, hfr, hlo⟩ := X
      have hov : (Cond.arrayOver (.object C)).before args s = true := by
        rcases w2 with rfl | rfl
        · exact va_AO.use hst.2.2.2.2.2.1
        · exact va_AO.use hst.2.2.2.2.2.2.1
      refine W.anew hx hb hown (hts _ w1) hov rfl hd rfl (Int32.not_lt.mpr hc.1) (by omega) hc1 hc2 fun cA kA comp f1 f2 f3 f4 => ?_
      generalize hH1 : H.push ({ cls := cA, slots := Array.replicate n.toNatClampNeg .null, vm := .none } : Cell) = H1
      have z1 : H1.size = H.size + 1 := by rw [← hH1, Array.size_push]
      have e1 : H1[H.size]? = some (arrV cA n.toNatClampNeg (fun _ => .null)) := by rw [← hH1, Array.getElem?_push_size, ← arrV_new]
      have o1 : ∀ q : Nat, q < H.size → H1[q]? = H[q]? := fun q hq => by rw [← hH1, Array.getElem?_push, if_neg (Nat.ne_of_lt hq)]
      have hcA : cA = dA t := by
        obtain ⟨_, _, -, -, -, h9⟩ := (hK.2 t0 _ (ht dA)).2
        exact Option.some.inj (f1.symm.trans h9)
      have hkk := kk H1 (xRp_push hP o1 (by
        rw [xcell_r (c := t) up1_same h23, hP.2.1.symm]
        show H1[H.size]? = some (vp_cell _ _)
        rw [e1, vp_cell_q, hcA]
        simp [stN, up1, hpR, hpN, va_rf])) (xS_push hS (by omega) o1) z1
      rw [List.map_cons, show xtr b ad (.ref (hpZ G)) = .ref H.size by show Value.ref (b + hpZ G) = _; rw [hP.2.1]] at hkk
      exact hkk
    · cases hk
  · cases hk
/-- new int[n][k]: the outer row, then the inner ones -/
def xmna (G : XH) (n k : Nat) : XH := (fun x => if x = hpZ G then 23 else if hpZ G < x ∧ x ≤ hpZ G + n then 20 else hpC G x, fun x => if x = hpZ G then n else if hpZ G < x ∧ x ≤ hpZ G + n then k else hpN G x, fun x => if hpZ G < x ∧ x ≤ hpZ G + n then (fun _ => 0) else hpI G x, hpL G, fun x => if x = hpZ G then (fun i => if i < n then some (hpZ G + 1 + i) else none) else hpR G x, hpZ G + (1 + n), hpS G + (n + n * k))
def xMna (K : XK) : XK := fun A st G => match st with
  | .int k :: .int n :: r => if (0 ≤ n ∧ n.toNatClampNeg ≤ 10000) ∧ (0 ≤ k ∧ k.toNatClampNeg ≤ 10000) then K A (.ref (hpZ G) :: r) (xmna G n.toNatClampNeg k.toNatClampNeg) else none
  | _ => none
theorem xouter (c : ClassId) (N h0 : Nat) : ∀ i : Nat, Jvm.Free.Multi.outerC c N h0 i = arrV c N (fun j => va_rf (if j < i then some (h0 + 1 + j) else none))
  | 0 => by
    show ({ cls := c, slots := Array.replicate N .null, vm := .none } : Cell) = _
    rw [arrV_new]
    refine congrArg (arrV c N) (funext fun j => ?_)
    simp [va_rf]
  | i + 1 => by
    show (Jvm.Free.Multi.outerC c N h0 i).setSlot i (.ref (h0 + 1 + i)) = _
    rw [xouter c N h0 i, arrV_store]
    refine congrArg (arrV c N) (funext fun j => ?_)
    by_cases e : j = i
    · subst e
      simp [updV, va_rf]
    · by_cases h : j < i
      · simp [updV, e, h, Nat.lt_succ_of_lt h]
      · simp [updV, e, h, show ¬ j < i + 1 by omega]
theorem go_mna {index : Nat} (w1 : Cond.classLink own index "[[I" ∈ lw_gd) (w3 : Cond.arrayClass .int ∈ lw_gd) (hd : decode cc pc = .ok (.multianewarray index 2, 4)) (h : XGo l b D dA ad own cc nL ret ini fr (pc + 4) K) : XGo l b D dA ad own cc nL ret ini fr pc (xMna K) := by
  refine go_make h fun A st G res hk => ?_
  unfold xMna at hk
  split at hk
  · next kk0 n r =>
    split at hk
    · next hc =>
      refine ⟨_, _, 1 + n.toNatClampNeg, n.toNatClampNeg + n.toNatClampNeg * kk0.toNatClampNeg, hk, rfl, rfl, (fun h j hj => by simp only [xmna, hpC]; rw [if_neg (by omega), if_neg (by omega)]; exact h j (by omega)), fun p e R s m args below meth c X H locs cells slots Q ls hP hS hl hc1 hc2 kk => ?_⟩
      obtain ⟨hx, hb, hml, hown, hts, hr, hlk, hin, hK, hst, hbs, hfr, hlo⟩ := X
      intro T hT Xs
      obtain ⟨vm₁, cA, comp, -, fA, fC, hO, -, X', step⟩ := Xs.multianewarray2F hx hown (ty := .int) (hts _ w1) hst.2.2.2.2.2.2.2.1 (hts _ w3) (g := F0 m pc ls (.int kk0 :: .int n :: r.map (xtr b ad))) rfl (by rw [hb]; exact hd) rfl (Int32.not_lt.mpr hc.1.1) (Int32.not_lt.mpr hc.2.1) (by have := hc.1.2; omega) (by have := hc.2.2; show kk0.toNatClampNeg * 4 ≤ _; omega) (by have := hc.2.2; omega) rfl rfl hc1 hc2
      generalize hF : Jvm.Free.Multi.fill (T.setVm vm₁) cA comp n.toNatClampNeg kk0.toNatClampNeg (defaultValue .int) n.toNatClampNeg = F at X' step
      have hTh : (T.setVm vm₁).heap = H := hT
      obtain ⟨f1, f2, -, -⟩ := Jvm.Free.Multi.fill_facts (T.setVm vm₁) cA comp n.toNatClampNeg kk0.toNatClampNeg (defaultValue .int) n.toNatClampNeg
      rw [hF, hTh] at f1 f2
      have hold : ∀ x : Nat, x < H.size → F.heap[x]? = H[x]? := fun x hx => by
        have := Jvm.Free.Multi.fill_old (T.setVm vm₁) cA comp n.toNatClampNeg kk0.toNatClampNeg (defaultValue .int) (a := x) (by rw [hTh]; exact hx) n.toNatClampNeg
        rw [hF, hTh] at this
        exact this
      have hrow : ∀ j : Nat, j < n.toNatClampNeg → F.heap[H.size + 1 + j]? = some (Jvm.Free.Multi.innerC comp kk0.toNatClampNeg (defaultValue .int)) := fun j hj => by
        have := Jvm.Free.Multi.fill_inner (T.setVm vm₁) cA comp n.toNatClampNeg kk0.toNatClampNeg (defaultValue .int) n.toNatClampNeg j hj
        rw [hF, hTh] at this
        exact this
      rw [xouter] at f2
      have hcA : cA = dA 23 := Option.some.inj (fA.symm.trans (hK.2 3 _ rfl).2)
      have hco : comp = dA 20 := Option.some.inj (fC.symm.trans (hK.2 0 _ rfl).2)
      have hP' : va_P D classes (xws b dA (xmna G n.toNatClampNeg kk0.toNatClampNeg)) F.heap := by
        intro j q hj
        obtain ⟨hlt, rfl⟩ := xws_some hj
        have hlt2 : j < hpZ G + (1 + n.toNatClampNeg) := hlt
        by_cases h1 : j < hpZ G
        · have hne : j ≠ hpZ G := by omega
          have hni : ¬ (hpZ G < j ∧ j ≤ hpZ G + n.toNatClampNeg) := by omega
          have hce : xcell b dA (xmna G n.toNatClampNeg kk0.toNatClampNeg) j = xcell b dA G j := by
            refine xcell_eq ?_ ?_ ?_ rfl ?_
            · simp only [xmna, hpC]; rw [if_neg hne, if_neg hni]
            · simp only [xmna, hpN]; rw [if_neg hne, if_neg hni]
            · simp only [xmna, hpI]; rw [if_neg hni]
            · simp only [xmna, hpR]; rw [if_neg hne]
          rw [hce]
          have h2 := hP.1 j _ (xws_get h1)
          exact h2.kept (hold _ h2.lt)
        · by_cases h2 : j = hpZ G
          · subst h2
            rw [xcell_r (c := 23) (by simp [xmna, hpC]) (by decide)]
            show F.heap[b + hpZ G]? = some (vp_cell _ _)
            rw [← hP.2.1, f2, vp_cell_q, hcA]
            refine congrArg some ?_
            have e1 : hpN (xmna G n.toNatClampNeg kk0.toNatClampNeg) (hpZ G) = n.toNatClampNeg := by simp [xmna, hpN]
            rw [e1]
            refine congrArg (arrV _ _) (funext fun i => congrArg va_rf ?_)
            by_cases hi : i < n.toNatClampNeg
            · simp [xmna, hpR, hi, hP.2.1]
              omega
            · simp [xmna, hpR, hi]
          · have h3 : hpZ G < j ∧ j ≤ hpZ G + n.toNatClampNeg := by omega
            rw [xcell_i (c := 20) (by simp only [xmna, hpC]; rw [if_neg h2, if_pos h3]) (Or.inl rfl)]
            show F.heap[b + j]? = some (vp_cell _ _)
            have h4 := hrow (j - hpZ G - 1) (by omega)
            rw [show H.size + 1 + (j - hpZ G - 1) = b + j by rw [hP.2.1]; omega] at h4
            rw [h4, vp_cell_i, hco]
            have e1 : hpN (xmna G n.toNatClampNeg kk0.toNatClampNeg) j = kk0.toNatClampNeg := by simp only [xmna, hpN]; rw [if_neg h2, if_pos h3]
            have e2 : hpI (xmna G n.toNatClampNeg kk0.toNatClampNeg) j = fun _ => 0 := by simp only [xmna, hpI]; rw [if_pos h3]
            rw [e1, e2]
            exact congrArg some (arrV_new _ _ _)
      have hz : F.heap.size = H.size + (1 + n.toNatClampNeg) := by rw [f1]; omega
      have hkk := kk F.heap hP' (xS_push hS (by omega) hold) hz
      rw [List.map_cons, show xtr b ad (.ref (hpZ G)) = .ref H.size by show Value.ref (b + hpZ G) = _; rw [hP.2.1]] at hkk
      rw [← Nat.add_assoc, ← Nat.add_assoc] at hkk
      obtain ⟨t, a1, b1⟩ := hkk F rfl X'
      exact ⟨t, step t (by rw [hT]; exact a1), b1⟩
    · cases hk
  · cases hk
end MK
