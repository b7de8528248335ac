/-! ARRAYS AND NEW CELLS -/
section AR
variable {l : Launch} {b : Nat} {D : va_G} {dA : Nat → ClassId} {ad : Nat → Option Nat} {own : String} {cc : ByteArray} {nL : Nat} {ret : Option FieldType} {ini : Bool} {fr pc : Nat} {K : XK}
theorem xat_i {G : XH} {j : Nat} (hj : j < hpZ G) (hc : hpC G j = 20) : (xws b dA G)[j]? = some (b + j, .inl (dA 20, hpN G j, .inl (hpI G j))) := by
  rw [xws_get hj, xcell_i hc (Or.inl rfl)]
theorem xat_z {G : XH} {j : Nat} (hj : j < hpZ G) (hc : hpC G j = 21) : (xws b dA G)[j]? = some (b + j, .inl (dA 21, hpN G j, .inl (hpI G j))) := by
  rw [xws_get hj, xcell_i hc (Or.inr rfl)]
theorem xat_l {G : XH} {j : Nat} (hj : j < hpZ G) (hc : hpC G j = 22) : (xws b dA G)[j]? = some (b + j, .inl (dA 22, hpN G j, .inr (.inl (hpL G j)))) := by
  rw [xws_get hj, xcell_l hc]
theorem xat_r {G : XH} {j c : Nat} (hj : j < hpZ G) (hc : hpC G j = c) (h : 23 ≤ c) : (xws b dA G)[j]? = some (b + j, .inl (dA c, hpN G j, .inr (.inr (.inr (.inr (fun i => (hpR G j i).map (b + ·))))))) := by
  rw [xws_get hj, xcell_r hc h]
def xIaldh (K : XK) : XK := fun A st G => match st with
  | .int i :: .ref j :: r => if hpC G j = 20 ∧ xin i (hpN G j) then K A (.int (hpI G j i.toNatClampNeg) :: r) G else none
  | .int i :: .retAddr j :: r => if 64 ≤ j then match xsarr[j - 64]? with
    | some q => if xin i q.2.2.length then K A (.int (q.2.2.getD i.toNatClampNeg 0) :: r) G else none
    | none => none
    else none
  | _ => none
def xZaldh (K : XK) : XK := fun A st G => match st with
  | .int i :: .ref j :: r => if hpC G j = 21 ∧ xin i (hpN G j) then K A (.int (hpI G j i.toNatClampNeg) :: r) G else none
  | _ => none
def xLaldh (K : XK) : XK := fun A st G => match st with
  | .int i :: .ref j :: r => if hpC G j = 22 ∧ xin i (hpN G j) then K A (.long (hpL G j i.toNatClampNeg) :: r) G else none
  | _ => none
def xAaldh (K : XK) : XK := fun A st G => match st with
  | .int i :: .ref j :: r => if (hpC G j = 23 ∨ hpC G j = 24 ∨ hpC G j = 25) ∧ xin i (hpN G j) then K A (va_rf (hpR G j i.toNatClampNeg) :: r) G else none
  | _ => none
theorem go_iaload (hd : decode cc pc = .ok (.iaload, 1)) (h : XGo l b D dA ad own cc nL ret ini fr (pc + 1) K) : XGo l b D dA ad own cc nL ret ini fr pc (xIaldh K) := by
  refine go_pure h fun A st G res hk2 => ?_
  unfold xIaldh at hk2
  split at hk2
  · split at hk2
    · next hc =>
      exact ⟨A, _, hk2, fun p e R s m args below meth c X H locs cells slots Q ls hP hS hl kk => va_iald X.1 X.2.1 X.2.2.2.2.2.2.2.2.1 hP.1 _ 0 (xat_i (hP.lt hc.1 (by omega)) hc.1) rfl hc.2.to hd (kk ls hl)⟩
    · cases hk2
  · next i j r =>
    split at hk2
    · next hj =>
      split at hk2
      · next q hq =>
        split at hk2
        · next hc =>
          refine ⟨A, _, hk2, fun p e R s m args below meth c X H locs cells slots Q ls hP hS hl kk => ?_⟩
          obtain ⟨a, e1, e2, cell, g1, g2, g3, g4, g5, g6, g7⟩ := X.2.2.2.2.2.2.2.2.2.1.2.1 _ _ hq
          rw [show 64 + (j - 64) = j by omega] at e1
          have hcell : H[a]? = some cell := by
            rw [hS.2.1 a (Array.getElem?_eq_some_iff.mp g1).1 g7]
            exact g1
          show W p l e R s m args below meth c H locs cells slots Q (F0 m pc ls (.int i :: va_rf (ad j) :: r.map (xtr b ad)))
          rw [e1]
          exact W.iald X.1 X.2.1 hcell g2 g3 (fun z => by
            rcases z with z | z
            · exact Int32.not_lt.mpr hc.1 z
            · have := hc.2; omega) (g6 _ hc.2) rfl rfl hd (kk ls hl)
        · cases hk2
      · cases hk2
    · cases hk2
  · cases hk2
theorem go_baload (hd : decode cc pc = .ok (.baload, 1)) (h : XGo l b D dA ad own cc nL ret ini fr (pc + 1) K) : XGo l b D dA ad own cc nL ret ini fr pc (xZaldh K) := by
  refine go_pure h fun A st G res hk2 => ?_
  unfold xZaldh at hk2
  split at hk2
  · split at hk2
    · next hc =>
      exact ⟨A, _, hk2, fun p e R s m args below meth c X H locs cells slots Q ls hP hS hl kk => va_zald X.1 X.2.1 X.2.2.2.2.2.2.2.2.1 hP.1 _ 1 (xat_z (hP.lt hc.1 (by omega)) hc.1) rfl hc.2.to hd (kk ls hl)⟩
    · cases hk2
  · cases hk2
theorem go_laload (hd : decode cc pc = .ok (.laload, 1)) (h : XGo l b D dA ad own cc nL ret ini fr (pc + 1) K) : XGo l b D dA ad own cc nL ret ini fr pc (xLaldh K) := by
  refine go_pure h fun A st G res hk2 => ?_
  unfold xLaldh at hk2
  split at hk2
  · split at hk2
    · next hc =>
      exact ⟨A, _, hk2, fun p e R s m args below meth c X H locs cells slots Q ls hP hS hl kk => va_lald X.1 X.2.1 X.2.2.2.2.2.2.2.2.1 hP.1 _ 2 (xat_l (hP.lt hc.1 (by omega)) hc.1) rfl hc.2.to hd (kk ls hl)⟩
    · cases hk2
  · cases hk2
theorem go_aaload (hd : decode cc pc = .ok (.aaload, 1)) (h : XGo l b D dA ad own cc nL ret ini fr (pc + 1) K) : XGo l b D dA ad own cc nL ret ini fr pc (xAaldh K) := by
  refine go_pure h fun A st G res hk2 => ?_
  unfold xAaldh at hk2
  split at hk2
  · next i j r =>
    split at hk2
    · next hc =>
      refine ⟨A, _, hk2, fun p e R s m args below meth c X H locs cells slots Q ls hP hS hl kk => ?_⟩
      have hK := X.2.2.2.2.2.2.2.2.1
      have h2 := kk ls hl
      rw [List.map_cons, ← xrf_map (b := b)] at h2
      have hn := hc.2.to
      have hlt : i.toNatClampNeg < hpN G j := hc.2.2
      rcases hc.1 with hq | hq | hq
      · have ha := xat_r (b := b) (dA := dA) (hP.lt hq (by decide)) hq (by decide)
        exact W.aald (v := va_rf ((hpR G j i.toNatClampNeg).map (b + ·))) (ty := .array .int) X.1 X.2.1 (hP.1 j _ ha) ((hK.2 3 _ rfl).1 (hpN G j) (fun k => va_rf ((hpR G j k).map (b + ·)))) rfl (fun q => by cases q) (by show ¬ (i < 0 ∨ (arrV _ _ _).slots.size ≤ _); rw [arrV_size]; exact hn) (by show (arrV _ _ _).slots[_]? = _; rw [arrV_read _ _ hlt]) rfl rfl hd h2
      · exact va_aldq X.1 X.2.1 hK hP.1 j 4 (xat_r (hP.lt hq (by decide)) hq (by decide)) rfl hn hd h2
      · exact va_aldq X.1 X.2.1 hK hP.1 j 5 (xat_r (hP.lt hq (by decide)) hq (by decide)) rfl hn hd h2
    · cases hk2
  · cases hk2
def xIasth (K : XK) : XK := fun A st G => match st with
  | .int x :: .int i :: .ref j :: r => if hpC G j = 20 ∧ xin i (hpN G j) then K A r (stI G j i.toNatClampNeg x) else none
  | _ => none
def xZasth (K : XK) : XK := fun A st G => match st with
  | .int x :: .int i :: .ref j :: r => if (hpC G j = 21 ∧ xin i (hpN G j)) ∧ (x = 0 ∨ x = 1) then K A r (stI G j i.toNatClampNeg x) else none
  | _ => none
def xLasth (K : XK) : XK := fun A st G => match st with
  | .long x :: .int i :: .ref j :: r => if hpC G j = 22 ∧ xin i (hpN G j) then K A r (stL G j i.toNatClampNeg x) else none
  | _ => none
/-- a reference to an object of class ci into a row of kind t -/
def xAasth (t ci : Nat) (K : XK) : XK := fun A st G => match st with
  | .ref x :: .int i :: .ref j :: r => if (hpC G j = t ∧ xin i (hpN G j)) ∧ hpC G x = ci then K A r (stR G j i.toNatClampNeg (some x)) else none
  | .null :: .int i :: .ref j :: r => if hpC G j = t ∧ xin i (hpN G j) then K A r (stR G j i.toNatClampNeg none) else none
  | _ => none
theorem go_iastore (hd : decode cc pc = .ok (.iastore, 1)) (h : XGo l b D dA ad own cc nL ret ini fr (pc + 1) K) : XGo l b D dA ad own cc nL ret ini fr pc (xIasth K) := by
  refine go_heap h fun A st G res hk2 => ?_
  unfold xIasth at hk2
  split at hk2
  · next x i j r =>
    split at hk2
    · next hc =>
      refine ⟨_, _, hk2, rfl, rfl, rfl, fun p e R s m args below meth c X H locs cells slots Q ls hP hS hl kk => ?_⟩
      have hK := X.2.2.2.2.2.2.2.2.1
      have ha := xat_i (b := b) (dA := dA) (hP.lt hc.1 (by omega)) hc.1
      refine W.iast X.1 X.2.1 (hP.1 j _ ha) ((hK.2 0 _ rfl).1 (hpN G j) (fun k => .int (hpI G j k))) (fun q => by cases q) (by show ¬ (i < 0 ∨ (arrV _ _ _).slots.size ≤ _); rw [arrV_size]; exact hc.2.to) rfl rfl hd fun H1 e1 z oq => ?_
      refine kk H1 _ ?_ (hS.put z oq (Nat.le_add_right b j)) z
      rw [← xws_stI_a hc.1 (Or.inl rfl)]
      refine hP.1.set xws_D ha ?_ oq
      show H1[b + j]? = some (vp_cell _ _)
      rw [e1, vp_cell_i, vp_cell_i, arrV_store]
      refine congrArg some (congrArg (arrV _ _) (funext fun q => ?_))
      simp only [updV]
      split <;> rfl
    · cases hk2
  · cases hk2
theorem go_bastore (hd : decode cc pc = .ok (.bastore, 1)) (h : XGo l b D dA ad own cc nL ret ini fr (pc + 1) K) : XGo l b D dA ad own cc nL ret ini fr pc (xZasth K) := by
  refine go_heap h fun A st G res hk2 => ?_
  unfold xZasth at hk2
  split at hk2
  · next x i j r =>
    split at hk2
    · next hc0 =>
      obtain ⟨hc, hx01⟩ := hc0
      refine ⟨_, _, hk2, rfl, rfl, rfl, fun p e R s m args below meth c X H locs cells slots Q ls hP hS hl kk => ?_⟩
      have hK := X.2.2.2.2.2.2.2.2.1
      have ha := xat_z (b := b) (dA := dA) (hP.lt hc.1 (by omega)) hc.1
      have hnar : vp_nar .boolean x = x := by unfold vp_nar; rw [(xnar01 hx01).1]
      refine W.zast X.1 X.2.1 (hP.1 j _ ha) ((hK.2 1 _ rfl).1 (hpN G j) (fun k => .int (hpI G j k))) (fun q => by cases q) (by show ¬ (i < 0 ∨ (arrV _ _ _).slots.size ≤ _); rw [arrV_size]; exact hc.2.to) rfl rfl hd fun H1 e1 z oq => ?_
      refine kk H1 _ ?_ (hS.put z oq (Nat.le_add_right b j)) z
      rw [← xws_stI_a hc.1 (Or.inr rfl)]
      refine hP.1.set xws_D ha ?_ oq
      show H1[b + j]? = some (vp_cell _ _)
      rw [e1, vp_cell_i, vp_cell_i, (xnar01 hx01).1, arrV_store]
      refine congrArg some (congrArg (arrV _ _) (funext fun q => ?_))
      simp only [updV]
      split <;> rfl
    · cases hk2
  · cases hk2
theorem go_lastore (hd : decode cc pc = .ok (.lastore, 1)) (h : XGo l b D dA ad own cc nL ret ini fr (pc + 1) K) : XGo l b D dA ad own cc nL ret ini fr pc (xLasth K) := by
  refine go_heap h fun A st G res hk2 => ?_
  unfold xLasth at hk2
  split at hk2
  · next x i j r =>
    split at hk2
    · next hc =>
      refine ⟨_, _, hk2, rfl, rfl, rfl, fun p e R s m args below meth c X H locs cells slots Q ls hP hS hl kk => ?_⟩
      have hK := X.2.2.2.2.2.2.2.2.1
      have ha := xat_l (b := b) (dA := dA) (hP.lt hc.1 (by omega)) hc.1
      refine W.last X.1 X.2.1 (hP.1 j _ ha) ((hK.2 2 _ rfl).1 (hpN G j) (fun k => .long (hpL G j k))) (fun q => by cases q) (by show ¬ (i < 0 ∨ (arrV _ _ _).slots.size ≤ _); rw [arrV_size]; exact hc.2.to) rfl rfl hd fun H1 e1 z oq => ?_
      refine kk H1 _ ?_ (hS.put z oq (Nat.le_add_right b j)) z
      rw [← xws_stL_a hc.1]
      refine hP.1.set xws_D ha ?_ oq
      show H1[b + j]? = some (vp_cell _ _)
      rw [e1, vp_cell_l, vp_cell_l, arrV_store]
      refine congrArg some (congrArg (arrV _ _) (funext fun q => ?_))
      simp only [updV]
      split <;> rfl
    · cases hk2
  · cases hk2
theorem go_aastore {t ci t0 : Nat} (h99 : t < 99) {C : String} {T : u_T} {N : Nat} {ty : Nat → FieldType} (hcl : XCl ci C T N ty) (h23 : 23 ≤ t) (ht : ∀ dA : Nat → ClassId, (xtys dA)[t0]? = some (dA t, .object C)) (hd : decode cc pc = .ok (.aastore, 1)) (h : XGo l b D dA ad own cc nL ret ini fr (pc + 1) K) : XGo l b D dA ad own cc nL ret ini fr pc (xAasth t ci K) := by
  refine go_heap h fun A st G res hk2 => ?_
  unfold xAasth at hk2
  split at hk2
  · next x i j r =>
    split at hk2
    · next hc0 =>
      obtain ⟨hc, hx2⟩ := hc0
      refine ⟨_, _, hk2, rfl, rfl, rfl, fun p e R s m args below meth c X H locs cells slots Q ls hP hS hl kk => ?_⟩
      have hK := X.2.2.2.2.2.2.2.2.1
      have ha := xat_r (b := b) (dA := dA) (hP.lt hc.1 h99) hc.1 h23
      have hv := xat_o (b := b) (dA := dA) (hP.lt hx2 (by have := hcl.2.2.2.2.2.2; omega)) hx2 hcl.2.2.2.2.2.2
      have hlt : i.toNatClampNeg < hpN G j := hc.2.2
      have h0 : ¬ i < 0 := Int32.not_lt.mpr hc.2.1
      obtain ⟨r', hr', cellV, g1, g2, g3, -⟩ := hP.1 x _ hv
      have hcls := (hK.1 ci _ hcl.1).2
      obtain ⟨kA, comp, k1, k2, k3, -⟩ := (hK.2 t0 _ (ht dA)).2
      have hcomp : comp = D.1 ci := Option.some.inj (k3.symm.trans hcls.1)
      subst hcomp
      obtain ⟨kC, hkC, -⟩ := hcls.2
      refine W.aast X.1 X.2.1 (hP.1 j _ ha) (fun q h => by cases h) (fun h => by cases h) k1 k2 rfl hkC ⟨h0, by show _ < (arrV _ _ _).slots.size; rw [arrV_size]; exact hlt⟩ g1 (fun q h => by rw [g3] at h; cases h) (by rw [g2]; exact hkC) (by rw [g2]; exact va_assign hcls) rfl rfl hd fun H1 e1 z oq => ?_
      refine kk H1 _ ?_ (hS.put z oq (Nat.le_add_right b j)) z
      rw [← xws_stR_a hc.1 h23]
      refine hP.1.set xws_D ha ?_ oq
      show H1[b + j]? = some (vp_cell _ _)
      rw [e1, vp_cell_q, vp_cell_q, arrV_store]
      refine congrArg some (congrArg (arrV _ _) (funext fun q => ?_))
      simp only [updV]
      split <;> rfl
    · cases hk2
  · next i j r =>
    split at hk2
    · next hc =>
      refine ⟨_, _, hk2, rfl, rfl, rfl, fun p e R s m args below meth c X H locs cells slots Q ls hP hS hl kk => ?_⟩
      have hK := X.2.2.2.2.2.2.2.2.1
      have ha := xat_r (b := b) (dA := dA) (hP.lt hc.1 h99) hc.1 h23
      refine va_WaastN (C := C) X.1 X.2.1 (hP.1 j _ ha) ((hK.2 t0 _ (ht dA)).1 (hpN G j) (fun k => va_rf ((hpR G j k).map (b + ·)))) (fun h => by cases h) (by show ¬ (i < 0 ∨ (arrV _ _ _).slots.size ≤ _); rw [arrV_size]; exact hc.2.to) rfl rfl hd fun H1 e1 z oq => ?_
      refine kk H1 _ ?_ (hS.put z oq (Nat.le_add_right b j)) z
      rw [← xws_stR_a hc.1 h23]
      refine hP.1.set xws_D ha ?_ oq
      show H1[b + j]? = some (vp_cell _ _)
      rw [e1, vp_cell_q, vp_cell_q, arrV_store]
      refine congrArg some (congrArg (arrV _ _) (funext fun q => ?_))
      simp only [updV]
      split <;> rfl
    · cases hk2
  · cases hk2
/-- arraylength: of an int row, of a row of references, of a table -/
def xAlen (K : XK) : XK := fun A st G => match st with
  | .ref j :: r => if 20 ≤ hpC G j ∧ hpC G j ≤ 25 then K A (.int (Int32.ofNat (hpN G j)) :: r) G else none
  | .retAddr j :: r => if 32 ≤ j then match xstrs[j - 32]? with
    | some q => K A (.int (Int32.ofNat q.2.2.2.length) :: r) G
    | none => none
    else none
  | _ => none
theorem xtys_at {dA : Nat → ClassId} {c : Nat} (h1 : 20 ≤ c) (h2 : c ≤ 25) : ∃ (t0 : Nat) (ty : FieldType), (xtys dA)[t0]? = some (dA c, ty) := by
  rcases (show c = 20 ∨ c = 21 ∨ c = 22 ∨ c = 23 ∨ c = 24 ∨ c = 25 by omega) with rfl | rfl | rfl | rfl | rfl | rfl
  · exact ⟨0, _, rfl⟩
  · exact ⟨1, _, rfl⟩
  · exact ⟨2, _, rfl⟩
  · exact ⟨3, _, rfl⟩
  · exact ⟨4, _, rfl⟩
  · exact ⟨5, _, rfl⟩
theorem go_alen (hd : decode cc pc = .ok (.arraylength, 1)) (h : XGo l b D dA ad own cc nL ret ini fr (pc + 1) K) : XGo l b D dA ad own cc nL ret ini fr pc (xAlen K) := by
  refine go_pure h fun A st G res hk2 => ?_
  unfold xAlen at hk2
  split at hk2
  · next j r =>
    split at hk2
    · next hc =>
      refine ⟨A, _, hk2, fun p e R s m args below meth c X H locs cells slots Q ls hP hS hl kk => ?_⟩
      obtain ⟨t0, ty, ht⟩ := xtys_at (dA := dA) hc.1 hc.2
      have ha : (xws b dA G)[j]? = some (b + j, .inl (dA (hpC G j), hpN G j, xct b G (hpC G j) j)) := by
        rw [xws_get (hP.lt rfl (by omega))]
        unfold xcell
        rw [if_neg (by omega)]
      exact va_alen X.1 X.2.1 X.2.2.2.2.2.2.2.2.1 hP.1 j t0 ha ht rfl hd (kk ls hl)
    · cases hk2
  · next j r =>
    split at hk2
    · next hj =>
      split at hk2
      · next q hq =>
        refine ⟨A, _, hk2, fun p e R s m args below meth c X H locs cells slots Q ls hP hS hl kk => ?_⟩
        obtain ⟨a, v, e1, e2, e3, e4, e5, e6, cell, g1, g2, g3, g4, g5, g6, g7⟩ := X.2.2.2.2.2.2.2.2.2.1.1 _ _ hq
        rw [show 32 + (j - 32) = j by omega] at e2
        have hcell : H[v]? = some cell := by
          rw [hS.2.1 v (Array.getElem?_eq_some_iff.mp g1).1 g7]
          exact g1
        show W p l e R s m args below meth c H locs cells slots Q (F0 m pc ls (va_rf (ad j) :: r.map (xtr b ad)))
        rw [e2]
        exact W.alen X.1 X.2.1 hcell g2 g5 rfl rfl hd (kk ls hl)
      · cases hk2
    · cases hk2
  · cases hk2
end AR
