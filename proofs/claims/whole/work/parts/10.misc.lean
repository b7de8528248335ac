/-! THE REST: Object(), statics, texts, switches, null, arraycopy, clone -/
theorem xcs2 : goodWord (.sameMethod "[I" "java/lang/Object" "clone" "()Ljava/lang/Object;") = true := by decide +kernel
theorem xcs3 : goodWord (.native ⟨"java/lang/Object", "clone", "()Ljava/lang/Object;"⟩) = true := by decide +kernel
theorem xnfw : nativeFrameWords "java/lang/System" "arraycopy" 5 ≤ 20 := by decide +kernel
section MI
variable {l : Launch} {b : Nat} {D : va_G} {dA : Nat → ClassId} {ad : Nat → Option Nat} {own : String} {cc : ByteArray} {nL : Nat} {ret : Option FieldType} {ini : Bool} {fr pc : Nat} {K : XK}
def xObj (K : XK) : XK := fun A st G => match st with
  | .ref _ :: r => if (r.map Value.category).sum ≤ 8 then K A r G else none
  | _ => none
theorem go_obj {index : Nat} (w1 : Cond.methodLink own index objectInit ∈ lw_gd) (w2 : Cond.instanceMethod objectInit ∈ lw_gd) (w3 : Cond.code objectInit ⟨#[0xb1]⟩ 1 none ∈ lw_gd) (hfr : 1 ≤ fr) (hd : decode cc pc = .ok (.invokespecial index, 3)) (h : XGo l b D dA ad own cc nL ret ini fr (pc + 3) K) : XGo l b D dA ad own cc nL ret ini fr pc (xObj K) := by
  refine go_pure h fun A st G res hk => ?_
  unfold xObj at hk
  split at hk
  · next j r =>
    split at hk
    · next hc =>
      refine ⟨A, _, hk, fun p e R s m args below meth c X H locs cells slots Q ls hP hS hl kk => ?_⟩
      obtain ⟨hx, hb, hml, hown, hts, hr, hlk, hin, hK, hst, hbs, hfr2, hlo⟩ := X
      exact W.objInit hx hb hown (hts _ w1) (hts _ w2) (hts _ w3) rfl (by rw [hml]; exact hl.1) rfl hd (by omega) (by rw [xcats]; show 2 * 0 + _ + 12 ≤ _; omega) (kk ls hl)
    · cases hk
  · cases hk
/-- a table of ints, by its place in xsarr -/
def xSfA (i : Nat) (K : XK) : XK := fun A st G => K A (.retAddr (64 + i) :: st) G
theorem go_sfA {index i : Nat} {q : String × String × List Int32} (hq : xsarr[i]? = some q) (w : Cond.fieldLink own index q.1 q.2.1 "[I" ∈ lw_gd) (hd : decode cc pc = .ok (.getstatic index, 3)) (h : XGo l b D dA ad own cc nL ret ini fr (pc + 3) K) : XGo l b D dA ad own cc nL ret ini fr pc (xSfA i K) :=
  go_pure h fun A st G res hk => ⟨A, _, hk, fun p e R s m args below meth c X H locs cells slots Q ls hP hS hl kk => by
    obtain ⟨a, e1, e2, e3⟩ := X.2.2.2.2.2.2.2.2.2.1.2.1 i q hq
    have h2 := kk ls hl
    rw [List.map_cons, show xtr b ad (.retAddr (64 + i)) = .ref a by show va_rf (ad (64 + i)) = _; rw [e1]; rfl] at h2
    exact va_gets X.1 X.2.1 e2 hS X.2.2.2.1 (X.2.2.2.2.1 _ w) (fun _ h9 => h9) hd h2⟩
def xSfI (v : Int32) (K : XK) : XK := fun A st G => K A (.int v :: st) G
theorem go_sfI {index i : Nat} {q : String × String × String × Int32} (hq : xsint[i]? = some q) (w : Cond.fieldLink own index q.1 q.2.1 q.2.2.1 ∈ lw_gd) (hd : decode cc pc = .ok (.getstatic index, 3)) (h : XGo l b D dA ad own cc nL ret ini fr (pc + 3) K) : XGo l b D dA ad own cc nL ret ini fr pc (xSfI q.2.2.2 K) :=
  go_pure h fun A st G res hk => ⟨A, _, hk, fun p e R s m args below meth c X H locs cells slots Q ls hP hS hl kk =>
    va_gets X.1 X.2.1 (X.2.2.2.2.2.2.2.2.2.1.2.2.1 i q hq) hS X.2.2.2.1 (X.2.2.2.2.1 _ w) (fun _ h9 => h9) hd (kk ls hl)⟩
def xSfQ (i : Nat) (K : XK) : XK := fun A st G => K A (.retAddr (96 + i) :: st) G
theorem go_sfQ {index i : Nat} {q : String × String × String} (hq : xsref[i]? = some q) (w : Cond.fieldLink own index q.1 q.2.1 q.2.2 ∈ lw_gd) (hd : decode cc pc = .ok (.getstatic index, 3)) (h : XGo l b D dA ad own cc nL ret ini fr (pc + 3) K) : XGo l b D dA ad own cc nL ret ini fr pc (xSfQ i K) :=
  go_pure h fun A st G res hk => ⟨A, _, hk, fun p e R s m args below meth c X H locs cells slots Q ls hP hS hl kk =>
    va_gets X.1 X.2.1 (X.2.2.2.2.2.2.2.2.2.1.2.2.2.1 i q hq) hS X.2.2.2.1 (X.2.2.2.2.1 _ w) (fun _ h9 => h9) hd (kk ls hl)⟩
/-- a String constant -/
def xStr (i : Nat) (K : XK) : XK := fun A st G => K A (.retAddr i :: st) G
theorem go_str {index i : Nat} {q : String × Nat × String × List Int32} (hq : xstrs[i]? = some q) (h1 : q.1 = own) (h2 : q.2.1 = index) (hd : decode cc pc = .ok (.ldc index, 2)) (h : XGo l b D dA ad own cc nL ret ini fr (pc + 2) K) : XGo l b D dA ad own cc nL ret ini fr pc (xStr i K) :=
  go_pure h fun A st G res hk => ⟨A, _, hk, fun p e R s m args below meth c X H locs cells slots Q ls hP hS hl kk => by
    obtain ⟨a, v, e1, e2, e3, e4⟩ := X.2.2.2.2.2.2.2.2.2.1.1 i q hq
    rw [h1, h2] at e3
    have h2 := kk ls hl
    rw [List.map_cons, show xtr b ad (.retAddr i) = .ref a by show va_rf (ad i) = _; rw [e1]; rfl] at h2
    exact va_ldcS X.1 X.2.1 X.2.2.2.1 e3 hd h2⟩
def xStrV (K : XK) : XK := fun A st G => match st with
  | .retAddr i :: r => match xstrs[i]? with
    | some _ => K A (.retAddr (32 + i) :: r) G
    | none => none
  | _ => none
theorem go_strV {index : Nat} (w : Cond.fieldLink own index "java/lang/String" "value" "[B" ∈ lw_gd) (hd : decode cc pc = .ok (.getfield index, 3)) (h : XGo l b D dA ad own cc nL ret ini fr (pc + 3) K) : XGo l b D dA ad own cc nL ret ini fr pc (xStrV K) := by
  refine go_pure h fun A st G res hk => ?_
  unfold xStrV at hk
  split at hk
  · next i r =>
    split at hk
    · next q hq =>
      refine ⟨A, _, hk, fun p e R s m args below meth c X H locs cells slots Q ls hP hS hl kk => ?_⟩
      obtain ⟨a, v, e1, e2, e3, e4, e5, e6, e7⟩ := X.2.2.2.2.2.2.2.2.2.1.1 i q hq
      have h2 := kk ls hl
      rw [List.map_cons, show xtr b ad (.retAddr (32 + i)) = .ref v by show va_rf (ad (32 + i)) = _; rw [e2]; rfl] at h2
      rw [List.map_cons, show xtr b ad (.retAddr i) = .ref a by show va_rf (ad i) = _; rw [e1]; rfl]
      exact vk_getf X.1 X.2.1 e6 hS X.2.2.2.1 (X.2.2.2.2.1 _ w) (fun _ h9 => h9) hd h2
    · cases hk
  · cases hk
def xStrC (K : XK) : XK := fun A st G => match st with
  | .retAddr i :: r => match xstrs[i]? with
    | some _ => K A (.int 0 :: r) G
    | none => none
  | _ => none
theorem go_strC {index : Nat} (w : Cond.fieldLink own index "java/lang/String" "coder" "B" ∈ lw_gd) (hd : decode cc pc = .ok (.getfield index, 3)) (h : XGo l b D dA ad own cc nL ret ini fr (pc + 3) K) : XGo l b D dA ad own cc nL ret ini fr pc (xStrC K) := by
  refine go_pure h fun A st G res hk => ?_
  unfold xStrC at hk
  split at hk
  · next i r =>
    split at hk
    · next q hq =>
      refine ⟨A, _, hk, fun p e R s m args below meth c X H locs cells slots Q ls hP hS hl kk => ?_⟩
      obtain ⟨a, v, e1, e2, e3, e4, e5, e6, e7⟩ := X.2.2.2.2.2.2.2.2.2.1.1 i q hq
      rw [List.map_cons, show xtr b ad (.retAddr i) = .ref a by show va_rf (ad i) = _; rw [e1]; rfl]
      exact vk_getf X.1 X.2.1 e5 hS X.2.2.2.1 (X.2.2.2.2.1 _ w) (fun _ h9 => h9) hd (kk ls hl)
    · cases hk
  · cases hk
/-- a byte of a text -/
def xBald (K : XK) : XK := fun A st G => match st with
  | .int i :: .retAddr j :: r => if 32 ≤ j then match xstrs[j - 32]? with
    | some q => if xin i q.2.2.2.length then K A (.int (q.2.2.2.getD i.toNatClampNeg 0) :: r) G else none
    | none => none
    else none
  | _ => none
theorem go_bald (hd : decode cc pc = .ok (.baload, 1)) (h : XGo l b D dA ad own cc nL ret ini fr (pc + 1) K) : XGo l b D dA ad own cc nL ret ini fr pc (xBald K) := by
  refine go_pure h fun A st G res hk2 => ?_
  unfold xBald at hk2
  split at hk2
  · next i j r =>
    split at hk2
    · next hj =>
      split at hk2
      · next q hq =>
        split at hk2
        · next hc =>
          refine ⟨A, _, hk2, fun p e R s m args below meth c X H locs cells slots Q ls hP hS hl kk => ?_⟩
          obtain ⟨a, v, e1, e2, e3, e4, e5, e6, cell, g1, g2, g3, g4, g5, g6, g7⟩ := X.2.2.2.2.2.2.2.2.2.1.1 _ _ hq
          rw [show 32 + (j - 32) = j by omega] at e2
          have hcell : H[v]? = some cell := by
            rw [hS.2.1 v (Array.getElem?_eq_some_iff.mp g1).1 g7]
            exact g1
          show W p l e R s m args below meth c H locs cells slots Q (F0 m pc ls (.int i :: va_rf (ad j) :: r.map (xtr b ad)))
          rw [e2]
          exact W.bald X.1 X.2.1 hcell g2 g3 (fun z => by
            rcases z with z | z
            · exact Int32.not_lt.mpr hc.1 z
            · have := hc.2; omega) (g6 _ hc.2) rfl rfl hd (kk ls hl)
        · cases hk2
      · cases hk2
    · cases hk2
  · cases hk2
/-- a method of a text -/
def xCallT (n : Nat) (F : XD) (K : XK) : XK := fun A st G => match st.drop n with
  | .retAddr i :: r => match xstrs[i]? with
    | some _ => if n ≤ st.length ∧ (r.map Value.category).sum ≤ 8 then match F (.retAddr i :: (st.take n).reverse) G with
      | some q => K A (q.1.toList ++ r) q.2
      | none => none
      else none
    | none => none
  | _ => none
theorem go_callT {index n : Nat} {y : MethodName} {cc' : ByteArray} {nL' fr' : Nat} {ret' : Option FieldType} {F : XD} (hM : XMet l b D dA ad y cc' nL' ret' fr' F) (w : XMl own index y cc' nL' ret' n) (hyc : y.cls = "java/lang/String") (wi : Cond.instanceMethod y ∈ lw_gd) (ws : Cond.selects "java/lang/String" y y ∈ lw_gd) (hfr : fr' + 1 ≤ fr) (hd : decode cc pc = .ok (.invokevirtual index, 3)) (h : XGo l b D dA ad own cc nL ret ini fr (pc + 3) K) : XGo l b D dA ad own cc nL ret ini fr pc (xCallT n F K) := by
  obtain ⟨w1, w2, w3, w4, w5⟩ := w
  refine go_callx h fun A st G res hk => ?_
  unfold xCallT at hk
  split at hk
  · next i r hdr =>
    split at hk
    · next q0 hq0 =>
      split at hk
      · next hc =>
        split at hk
        · next q hq =>
          obtain ⟨m1, m2, hMt⟩ := hM _ _ _ hq
          refine ⟨_, _, _, hk, ⟨m1, m2⟩, fun p e R s m args below meth c X H locs cells slots ls hP hS hl hc1 hc2 => ?_⟩
          obtain ⟨hx, hb, hml, hown, hts, hr, hlk, hin, hK, hst, hbs, hfr2, hlo⟩ := X
          obtain ⟨a, v, e1, e2, e3, e4, e5⟩ := hst.1 i q0 hq0
          have hE : xtr b ad (.retAddr i) = .ref a := by show va_rf (ad i) = _; rw [e1]; rfl
          obtain ⟨cell, f1, f2, f3, f4⟩ := e4
          have hcell : H[a]? = some cell := by
            rw [hS.2.1 a (Array.getElem?_eq_some_iff.mp f1).1 f4]
            exact f1
          refine ⟨(Value.ref a :: (st.take n).reverse.map (xtr b ad)).toArray, va_runV (C := "java/lang/String") (b := a) (As := (st.take n).reverse.map (xtr b ad)) (rest := r.map (xtr b ad)) ⟨hx, hb, hml, hown, hts⟩ hMt (cwV n hts (fun w hw => ?_) rfl rfl rfl ⟨hyc, w4⟩ ⟨by show fr' + 1 ≤ _; omega, by show 8 + (nL' + 11) + 40 * fr' ≤ _; omega⟩) ⟨xblind, ⟨cell, hcell, f2, f3⟩, fun U hU hW => ?_⟩ rfl (by rw [List.length_map, List.length_reverse, List.length_take]; omega) hl.1 ?_ (by rw [xcats]; exact (by show 2 * 0 + _ ≤ 8; omega)) hd ⟨hc1, hc2⟩⟩
          · simp only [wsV, List.mem_append, List.mem_cons, List.not_mem_nil, or_false] at hw
            rcases hw with (rfl | rfl | rfl | rfl) | hw
            · exact tbl_good w1
            · exact tbl_good wi
            · exact tbl_good ws
            · rw [hyc] at w2
              exact tbl_good w2
            · exact xgood w3 w hw
          · have h9 := xpre (av := .retAddr i :: (st.take n).reverse) hP hK hst hS hU hW
            rw [List.map_cons, hE] at h9
            exact h9
          · show st.map (xtr b ad) = _
            rw [xsplit n st, hdr, List.map_cons, hE]
        · cases hk
      · cases hk
    · cases hk
  · cases hk
/-- the script: an int of it, its length -/
def xScLd (L : Nat) (xs : Nat → Int32) (K : XK) : XK := fun A st G => match st with
  | .int i :: .retAddr j :: r => if j = 128 ∧ xin i L then K A (.int (xs i.toNatClampNeg) :: r) G else none
  | _ => none
theorem go_scLd {L : Nat} {xs : Nat → Int32} (hL : xsL ad = L) (hxs : ∀ j, j < L → xsV ad j = xs j) (hd : decode cc pc = .ok (.iaload, 1)) (h : XGo l b D dA ad own cc nL ret ini fr (pc + 1) K) : XGo l b D dA ad own cc nL ret ini fr pc (xScLd L xs K) := by
  refine go_pure h fun A st G res hk2 => ?_
  unfold xScLd at hk2
  split at hk2
  · next i j r =>
    split at hk2
    · next hc =>
      refine ⟨A, _, hk2, fun p e R s m args below meth c X H locs cells slots Q ls hP hS hl kk => ?_⟩
      obtain ⟨a, e1, cell, g1, g2, g3, g4, g5, g6, g7⟩ := X.2.2.2.2.2.2.2.2.2.1.2.2.2.2.2.2.2.2
      have hcell : H[a]? = some cell := by
        rw [hS.2.1 a (Array.getElem?_eq_some_iff.mp g1).1 g7]
        exact g1
      show W p l e R s m args below meth c H locs cells slots Q (F0 m pc ls (.int i :: va_rf (ad j) :: r.map (xtr b ad)))
      rw [hc.1, e1]
      rw [hL] at g4 g6
      have hi : i.toNatClampNeg < L := hc.2.2
      have h6 : cell.slots[i.toNatClampNeg]? = some (.int (xsV ad i.toNatClampNeg)) := g6 _ hi
      rw [hxs _ hi] at h6
      exact W.iald X.1 X.2.1 hcell g2 g3 (fun z => by
        rcases z with z | z
        · exact Int32.not_lt.mpr hc.2.1 z
        · omega) h6 rfl rfl hd (kk ls hl)
    · cases hk2
  · cases hk2
def xScLen (L : Nat) (K : XK) : XK := fun A st G => match st with
  | .retAddr j :: r => if j = 128 then K A (.int (Int32.ofNat L) :: r) G else none
  | _ => none
theorem go_scLen {L : Nat} (hL : xsL ad = L) (hd : decode cc pc = .ok (.arraylength, 1)) (h : XGo l b D dA ad own cc nL ret ini fr (pc + 1) K) : XGo l b D dA ad own cc nL ret ini fr pc (xScLen L K) := by
  refine go_pure h fun A st G res hk2 => ?_
  unfold xScLen at hk2
  split at hk2
  · next j r =>
    split at hk2
    · next hc =>
      refine ⟨A, _, hk2, fun p e R s m args below meth c X H locs cells slots Q ls hP hS hl kk => ?_⟩
      obtain ⟨a, e1, cell, g1, g2, g3, g4, g5, g6, g7⟩ := X.2.2.2.2.2.2.2.2.2.1.2.2.2.2.2.2.2.2
      have hcell : H[a]? = some cell := by
        rw [hS.2.1 a (Array.getElem?_eq_some_iff.mp g1).1 g7]
        exact g1
      show W p l e R s m args below meth c H locs cells slots Q (F0 m pc ls (va_rf (ad j) :: r.map (xtr b ad)))
      rw [hc, e1]
      rw [hL] at g5
      exact W.alen X.1 X.2.1 hcell g2 g5 rfl rfl hd (kk ls hl)
    · cases hk2
  · cases hk2
/-- null or not -/
def xIfN (Kt Kf : XK) : XK := fun A st G => match st with
  | .null :: r => Kt A r G
  | .ref _ :: r => Kf A r G
  | _ => none
variable {Kt Kf : XK} {tgt : Nat} {off : Int}
theorem go_ifnull (hd : decode cc pc = .ok (.ifnull off, 3)) (ht : (pc : Int) + off = (tgt : Int)) (h1 : XGo l b D dA ad own cc nL ret ini fr tgt Kt) (h2 : XGo l b D dA ad own cc nL ret ini fr (pc + 3) Kf) : XGo l b D dA ad own cc nL ret ini fr pc (xIfN Kt Kf) := by
  refine go_two h1 h2 fun A st G res hk => ?_
  unfold xIfN at hk
  split at hk
  · exact ⟨True, _, fun _ => hk, fun hc => absurd trivial hc, fun p e R s m args below meth c0 X H locs cells slots Q ls k1 k2 => lv_ifnullN X.1 X.2.1 hd ht (k1 trivial)⟩
  · exact ⟨False, _, fun hc => hc.elim, fun _ => hk, fun p e R s m args below meth c0 X H locs cells slots Q ls k1 k2 => lv_ifnull X.1 X.2.1 hd (k2 (fun z => z))⟩
  · cases hk
theorem go_ifnonnull (hd : decode cc pc = .ok (.ifnonnull off, 3)) (ht : (pc : Int) + off = (tgt : Int)) (h1 : XGo l b D dA ad own cc nL ret ini fr tgt Kf) (h2 : XGo l b D dA ad own cc nL ret ini fr (pc + 3) Kt) : XGo l b D dA ad own cc nL ret ini fr pc (xIfN Kt Kf) := by
  refine go_two h1 h2 fun A st G res hk => ?_
  unfold xIfN at hk
  split at hk
  · exact ⟨False, _, fun hc => hc.elim, fun _ => hk, fun p e R s m args below meth c0 X H locs cells slots Q ls k1 k2 => lv_ifnonnullN X.1 X.2.1 hd (k2 (fun z => z))⟩
  · exact ⟨True, _, fun _ => hk, fun hc => absurd trivial hc, fun p e R s m args below meth c0 X H locs cells slots Q ls k1 k2 => lv_ifnonnull X.1 X.2.1 hd ht (k1 trivial)⟩
  · cases hk
/-- a switch -/
def xTab (lo hi : Int) (Ks : List XK) (Kd : XK) : XK := fun A st G => match st with
  | .int x :: r => if x.toInt < lo ∨ hi < x.toInt then Kd A r G else match Ks[(x.toInt - lo).toNat]? with
    | some K => K A r G
    | none => none
  | _ => none
theorem go_table {dflt lo hi : Int} {offs : Array Int} {len : Nat} {Ks : List XK} {Kd : XK} (hd : decode cc pc = .ok (.tableswitch dflt lo hi offs, len)) (ht : (pc : Int) + dflt = (tgt : Int)) (h1 : XGo l b D dA ad own cc nL ret ini fr tgt Kd) (h2 : ∀ (i : Nat) (K : XK), Ks[i]? = some K → ∃ (off : Int) (t : Nat), offs[i]? = some off ∧ (pc : Int) + off = (t : Int) ∧ XGo l b D dA ad own cc nL ret ini fr t K) : XGo l b D dA ad own cc nL ret ini fr pc (xTab lo hi Ks Kd) := by
  refine ⟨fun A st G res hk => ?_, fun A st G res hk => ?_⟩
  · unfold xTab at hk
    split at hk
    · split at hk
      · exact h1.1 _ _ _ _ hk
      · split at hk
        · next K hK =>
          obtain ⟨off, t, -, -, hg⟩ := h2 _ _ hK
          exact hg.1 _ _ _ _ hk
        · cases hk
    · cases hk
  · unfold xTab at hk
    split at hk
    · next x r =>
      split at hk
      · next hc =>
        intro p e R s m args below meth c X H locs cells slots mc ms ls hP hS hl hmc hms h4 h5
        exact lv_tableOut X.1 X.2.1 hd hc ht (h1.2 _ _ _ _ hk p e R s m args below meth c X H locs cells slots mc ms ls hP hS hl hmc hms h4 h5)
      · next hc =>
        split at hk
        · next K hK =>
          obtain ⟨off, t, ho, hto, hg⟩ := h2 _ _ hK
          intro p e R s m args below meth c X H locs cells slots mc ms ls hP hS hl hmc hms h4 h5
          exact lv_tableIn X.1 X.2.1 hd (fun z => hc (Or.inl z)) (fun z => hc (Or.inr z)) ho hto (hg.2 _ _ _ _ hk p e R s m args below meth c X H locs cells slots mc ms ls hP hS hl hmc hms h4 h5)
        · cases hk
    · cases hk
/-- System.arraycopy of ints -/
def xCopy (K : XK) : XK := fun A st G => match st with
  | .int n :: .int dp :: .ref j :: .int sp :: .ref i :: r => if (hpC G i = 20 ∧ hpC G j = 20) ∧ ((0 ≤ sp ∧ 0 ≤ dp ∧ 0 ≤ n) ∧ (sp.toNatClampNeg + n.toNatClampNeg ≤ hpN G i ∧ dp.toNatClampNeg + n.toNatClampNeg ≤ hpN G j)) ∧ (r.map Value.category).sum ≤ 8 then K A r (stA G j (va_cpy (hpI G i) (hpI G j) sp.toNatClampNeg dp.toNatClampNeg n.toNatClampNeg)) else none
  | _ => none
theorem go_copy {index : Nat} (w1 : Cond.methodLink own index arraycopyName ∈ lw_gd) (w2 : Cond.native arraycopyName ∈ lw_gd) (w3 : Cond.static arraycopyName ∈ lw_gd) (w4 : Cond.initialized "java/lang/System" ∈ lw_gd) (hfr : 1 ≤ fr) (hd : decode cc pc = .ok (.invokestatic index, 3)) (h : XGo l b D dA ad own cc nL ret ini fr (pc + 3) K) : XGo l b D dA ad own cc nL ret ini fr pc (xCopy K) := by
  refine go_heap h fun A st G res hk2 => ?_
  unfold xCopy at hk2
  split at hk2
  · next n dp j sp i r =>
    split at hk2
    · next hc =>
      obtain ⟨⟨hi2, hj2⟩, ⟨⟨hsp, hdp, hn⟩, hl1, hl2⟩, hsum⟩ := hc
      refine ⟨_, _, hk2, rfl, rfl, rfl, fun p e R s m args below meth c X H locs cells slots Q ls hP hS hl kk => ?_⟩
      obtain ⟨hx, hb, hml, hown, hts, hr, hlk, hin, hK, hst, hbs, hfr2, hlo⟩ := X
      have hi1 := hP.lt hi2 (by decide)
      have hj1 := hP.lt hj2 (by decide)
      have ha0 := xat_i (b := b) (dA := dA) hi1 hi2
      have ha1 := xat_i (b := b) (dA := dA) hj1 hj2
      have h1 : ¬ sp < 0 := Int32.not_lt.mpr hsp
      have h2 : ¬ dp < 0 := Int32.not_lt.mpr hdp
      have h3 : ¬ n < 0 := Int32.not_lt.mpr hn
      have nn : ∀ z : Int32, ¬ z < 0 → z.toInt = (z.toNatClampNeg : Int) := by
        intro z hz
        have hz0 : (0 : Int) ≤ z.toInt := by
          have := Int32.not_lt.mp hz
          simpa using Int32.le_iff_toInt_le.mp this
        show z.toInt = ((z.toInt.toNat : Nat) : Int)
        omega
      intro T hT X
      have hc0 : H[b + i]? = some (vp_cell (dA 20) (hpN G i, .inl (hpI G i))) := hP.1 i _ ha0
      have hc1 : H[b + j]? = some (vp_cell (dA 20) (hpN G j, .inl (hpI G j))) := hP.1 j _ ha1
      obtain ⟨-, k0, hk0, cm0, hkk0⟩ := (hK.2 0 _ rfl).1 (hpN G i) (fun q => .int (hpI G i q))
      obtain ⟨vm', X', step⟩ := X.arraycopy hx hown (hts _ w1) (hts _ w2) (hts _ w3) (hts _ w4) (src := b + i) (dst := b + j) (cs := vp_cell (dA 20) (hpN G i, .inl (hpI G i))) (cd := vp_cell (dA 20) (hpN G j, .inl (hpI G j))) (srcPos := sp) (destPos := dp) (n := n) (by rw [hT]; exact hc0) (by rw [hT]; exact hc1)
        (fun _ h => by cases h) (fun _ h => by cases h) (fun h => by cases h) (fun h => by cases h) hk0 hk0 hkk0 hkk0 (by simp [refKind]) h1 h2 h3
        (by rw [nn sp h1, nn n h3]; show ¬ _ > ((arrV (dA 20) (hpN G i) (fun q => .int (hpI G i q))).slots.size : Int); rw [arrV_size]; omega)
        (by rw [nn dp h2, nn n h3]; show ¬ _ > ((arrV (dA 20) (hpN G j) (fun q => .int (hpI G j q))).slots.size : Int); rw [arrV_size]; omega)
        (fun vm₁ _ q hq => by
          have e : (vp_cell (dA 20) (hpN G i, .inl (hpI G i))).slots.getD (sp.toNatClampNeg + q) .null = .int (hpI G i (sp.toNatClampNeg + q)) := by
            show (arrV (dA 20) (hpN G i) (fun q => .int (hpI G i q))).slots.getD _ _ = _
            rw [Array.getD_eq_getD_getElem?, arrV_read _ _ (by omega)]
            rfl
          refine ⟨?_, ?_⟩
          · rw [e]
            rfl
          · rw [e]
            exact trivial)
        (g := F0 m pc ls (.int n :: .int dp :: .ref (b + j) :: .int sp :: .ref (b + i) :: r.map (xtr b ad))) rfl (by rw [hml]; exact hl.1) (rest := r.map (xtr b ad)) rfl (by rw [hb]; exact hd) (by omega) (by rw [xcats]; show 2 * 0 + _ + (nativeFrameWords "java/lang/System" "arraycopy" 5 + 11) ≤ _; have := xnfw; omega)
      have e1 : copied (vp_cell (dA 20) (hpN G i, .inl (hpI G i))) (vp_cell (dA 20) (hpN G j, .inl (hpI G j))) sp dp n = vp_cell (dA 20) (hpN G j, .inl (va_cpy (hpI G i) (hpI G j) sp.toNatClampNeg dp.toNatClampNeg n.toNatClampNeg)) := va_copied (fun z => .int z) (dA 20) (dA 20) (hpI G i) (hpI G j) hl1
      rw [e1] at X' step
      have hlt : b + j < H.size := (Array.getElem?_eq_some_iff.mp hc1).1
      generalize hnew : vp_cell (dA 20) (hpN G j, .inl (va_cpy (hpI G i) (hpI G j) sp.toNatClampNeg dp.toNatClampNeg n.toNatClampNeg)) = cell1 at X' step
      have hheap : ((T.setVm vm').setCell (b + j) cell1).heap = H.setIfInBounds (b + j) cell1 := by rw [← hT]; rfl
      have oq : ∀ q : Nat, q ≠ b + j → (H.setIfInBounds (b + j) cell1)[q]? = H[q]? := fun q hq => by simp [Array.getElem?_setIfInBounds, Ne.symm hq]
      have hP1 : va_P D classes (xws b dA (stA G j (va_cpy (hpI G i) (hpI G j) sp.toNatClampNeg dp.toNatClampNeg n.toNatClampNeg))) (H.setIfInBounds (b + j) cell1) := by
        rw [← xws_stA hj2 (Or.inl rfl)]
        refine hP.1.set xws_D ha1 ?_ oq
        show (H.setIfInBounds (b + j) cell1)[b + j]? = some _
        rw [hnew]
        simp [Array.getElem?_setIfInBounds, hlt]
      obtain ⟨t, a1, b1⟩ := kk _ _ hP1 ⟨by simp; exact hS.1, fun q g1 g2 => by
          rw [oq q (fun e => g2 (by rw [e]; exact Nat.le_add_right b j))]
          exact hS.2.1 q g1 g2, fun q hq => by
          rcases List.mem_append.mp hq with h | h
          · exact hS.2.2 q h
          · obtain ⟨z, -, hz⟩ := List.mem_map.mp h
            rw [← hz]
            exact Nat.le_add_right b j⟩ (by simp) _ hheap X'
      exact ⟨t, step t a1, b1⟩
    · cases hk2
  · cases hk2
/-- clone of a row of ints -/
def xCln (K : XK) : XK := fun A st G => match st with
  | .ref j :: r => if hpC G j = 20 ∧ (r.map Value.category).sum ≤ 8 then K A (.ref (hpZ G) :: r) (stA (stN G 20 (hpN G j)) (hpZ G) (hpI G j)) else none
  | _ => none
theorem go_clone {index : Nat} (w1 : Cond.methodLink own index ⟨"[I", "clone", "()Ljava/lang/Object;"⟩ ∈ lw_gd) (w2 : Cond.sameMethod "[I" "java/lang/Object" "clone" "()Ljava/lang/Object;" ∈ lw_gd) (w3 : Cond.native ⟨"java/lang/Object", "clone", "()Ljava/lang/Object;"⟩ ∈ lw_gd) (w4 : Cond.instanceMethod ⟨"java/lang/Object", "clone", "()Ljava/lang/Object;"⟩ ∈ lw_gd) (w5 : Cond.selects "[I" ⟨"[I", "clone", "()Ljava/lang/Object;"⟩ ⟨"java/lang/Object", "clone", "()Ljava/lang/Object;"⟩ ∈ lw_gd) (w6 : Cond.castable "[I" "java/lang/Cloneable" ∈ lw_nw) (hfr : 1 ≤ fr) (hd : decode cc pc = .ok (.invokevirtual index, 3)) (h : XGo l b D dA ad own cc nL ret ini fr (pc + 3) K) : XGo l b D dA ad own cc nL ret ini fr pc (xCln K) := by
  refine go_make h fun A st G res hk => ?_
  unfold xCln at hk
  split at hk
  · next j r =>
    split at hk
    · next hc =>
      refine ⟨_, _, 1, hpN G j, hk, rfl, rfl, xN99 (n := hpN G j), fun p e R s m args below meth c X H locs cells slots Q ls hP hS hl hc1 hc2 kk => ?_⟩
      obtain ⟨hx, hb, hml, hown, hts, hr, hlk, hin, hK, hst, hbs, hfr2, hlo⟩ := X
      have ha := xat_i (b := b) (dA := dA) (hP.lt hc.1 (by decide)) hc.1
      generalize hx0 : ((hpN G j, .inl (hpI G j)) : vp_A) = x at ha
      have hnm : s.vm.findClass "[I" = some (dA 20) := (hK.2 0 _ rfl).2
      have hsz : (vp_cell (dA 20) x).slots.size = hpN G j := by rw [← hx0]; exact arrV_size _ _ _
      have hvm0 : (vp_cell (dA 20) x).vm = .none := by rw [← hx0]; rfl
      have hcl0 : (vp_cell (dA 20) x).cls = dA 20 := by rw [← hx0]; rfl
      have hcellE : ({ cls := (vp_cell (dA 20) x).cls, slots := (vp_cell (dA 20) x).slots } : Cell) = vp_cell (dA 20) x := by rw [← hx0]; rfl
      obtain ⟨c0, t0', f1, f2, f3⟩ := Cond.castable_spec (va_Nw.use (A := args) rfl (hst.2.2.2.2.1 _ w6))
      cases hnm.symm.trans f1
      intro T hT X
      have hcellT : T.heap[b + j]? = some (vp_cell (dA 20) x) := by rw [hT]; exact hP.1 j _ ha
      obtain ⟨-, kA, hkA, comp, hkind⟩ := State.isArrayOf_alike X.warmed.alike ((hK.2 0 _ rfl).1 0 (fun _ => .null))
      obtain ⟨-, kS, hkS, compS, hkindS⟩ := (hK.2 0 _ rfl).1 0 (fun _ => .null)
      obtain ⟨vm', X', step⟩ := X.cloneArray hx hown (hts _ w1) (hts _ w2) (hts _ w3) (hts _ w4) (hts _ w5) (a := b + j) (cell := vp_cell (dA 20) x) hcellT (fun k h => by rw [hvm0] at h; cases h) (by rw [hvm0]; exact fun h => by cases h) (by rw [hcl0]; exact hnm) f2 (by rw [hcl0]; exact f3)
        (fun i v hv => by
          rw [hcl0]
          have hk' : T.vm.classes[dA 20]? = some kA := hkA
          have hfit : fits .int v = true := by
            rw [← hx0] at hv
            by_cases hi : i < hpN G j
            · have h9 : (arrV (dA 20) (hpN G j) (fun q => .int (hpI G j q))).slots[i]? = some v := hv
              rw [arrV_read _ _ hi] at h9
              cases h9
              rfl
            · have h9 : (arrV (dA 20) (hpN G j) (fun q => .int (hpI G j q))).slots[i]? = some v := hv
              have := (Array.getElem?_eq_some_iff.mp h9).1
              rw [arrV_size] at this
              exact absurd this hi
          simpa [State.fitsSlot, State.slotType?, hk', hkind] using hfit)
        (g := F0 m pc ls (.ref (b + j) :: r.map (xtr b ad))) rfl (by rw [hml]; exact hl.1) rfl (by rw [hb]; exact hd) (by omega) (by rw [xcats]; show 2 * 0 + _ + 14 ≤ _; omega) hc1 (by rw [hsz]; exact hc2) (hloader := by rw [hcl0]; exact Vm.clonesLoader_of_array hkS hkindS)
      rw [hcellE, hsz] at X'
      generalize hH1 : H.push (vp_cell (dA 20) x) = H1
      have z1 : H1.size = H.size + 1 := by rw [← hH1, Array.size_push]
      have e1 : H1[H.size]? = some (vp_cell (dA 20) x) := by rw [← hH1, Array.getElem?_push_size]
      have o1 : ∀ q : Nat, q < H.size → H1[q]? = H[q]? := fun q hq => by rw [← hH1, Array.getElem?_push, if_neg (Nat.ne_of_lt hq)]
      have hP1 : va_P D classes (xws b dA (stA (stN G 20 (hpN G j)) (hpZ G) (hpI G j))) H1 := by
        intro i q hi
        obtain ⟨hlt, rfl⟩ := xws_some hi
        have hlt2 : i < hpZ G + 1 := hlt
        by_cases h1 : i < hpZ G
        · have hne : i ≠ hpZ G := by omega
          have hce : xcell b dA (stA (stN G 20 (hpN G j)) (hpZ G) (hpI G j)) i = xcell b dA G i := by
            refine xcell_eq (up1_ne hne) (up1_ne hne) ?_ (up1_ne hne) (up1_ne hne)
            show up1 (up1 G.2.2.1 (hpZ G) _) (hpZ G) _ i = _
            rw [up1_ne hne, up1_ne hne]
          rw [hce]
          have h2 := hP.1 i _ (xws_get h1)
          exact h2.kept (o1 _ h2.lt)
        · have h2 : i = hpZ G := by omega
          subst h2
          rw [xcell_i (c := 20) up1_same (Or.inl rfl)]
          show H1[b + hpZ G]? = some (vp_cell _ _)
          rw [← hP.2.1, e1, ← hx0]
          have g1 : hpN (stA (stN G 20 (hpN G j)) (hpZ G) (hpI G j)) (hpZ G) = hpN G j := up1_same
          have g2 : hpI (stA (stN G 20 (hpN G j)) (hpZ G) (hpI G j)) (hpZ G) = hpI G j := up1_same
          rw [g1, g2]
      have hkk := kk H1 hP1 (xS_push hS (by omega) o1) z1
      rw [List.map_cons, show xtr b ad (.ref (hpZ G)) = .ref H.size by show Value.ref (b + hpZ G) = _; rw [hP.2.1]] at hkk
      obtain ⟨t, b1, b2⟩ := hkk ((T.setVm vm').pushCell (vp_cell (dA 20) x)) (by rw [← hH1, ← hT]; rfl) X'
      refine ⟨t, step t ?_, b2⟩
      rw [hcellE, hT]
      exact b1
    · cases hk
  · cases hk
def xCast (K : XK) : XK := fun A st G => match st with
  | .ref j :: r => if hpC G j = 20 then K A (.ref j :: r) G else none
  | _ => none
theorem go_cast {index : Nat} (w1 : Cond.classLink own index "[I" ∈ lw_gd) (hd : decode cc pc = .ok (.checkcast index, 3)) (h : XGo l b D dA ad own cc nL ret ini fr (pc + 3) K) : XGo l b D dA ad own cc nL ret ini fr pc (xCast K) := by
  refine go_pure h fun A st G res hk2 => ?_
  unfold xCast at hk2
  split at hk2
  · split at hk2
    · next hc =>
      exact ⟨A, _, hk2, fun p e R s m args below meth c X H locs cells slots Q ls hP hS hl kk => va_castA X.1 X.2.1 X.2.2.2.1 (X.2.2.2.2.1 _ w1) hP.1 _ (xat_i (hP.lt hc (by decide)) hc) (X.2.2.2.2.2.2.2.2.1.2 0 _ rfl).2 hd (kk ls hl)⟩
    · cases hk2
  · cases hk2
end MI
