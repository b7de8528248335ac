/-! RETURNS, CALLS, METHODS -/
def xIret (K0 : Unit) : XK := fun _ st G => match st with
  | [.int v] => some (some (.int v), G)
  | _ => none
def xZret (K0 : Unit) : XK := fun _ st G => match st with
  | [.int v] => if v = 0 ∨ v = 1 then some (some (.int v), G) else none
  | _ => none
def xCret (K0 : Unit) : XK := fun _ st G => match st with
  | [.int v] => if narrow .char (.int v) = .int v then some (some (.int v), G) else none
  | _ => none
def xBret (K0 : Unit) : XK := fun _ st G => match st with
  | [.int v] => if narrow .byte (.int v) = .int v then some (some (.int v), G) else none
  | _ => none
def xLret (K0 : Unit) : XK := fun _ st G => match st with
  | [.long v] => some (some (.long v), G)
  | _ => none
def xAret (K0 : Unit) : XK := fun _ st G => match st with
  | [.ref v] => some (some (.ref v), G)
  | [.null] => some (some .null, G)
  | _ => none
def xVret (K0 : Unit) : XK := fun _ st G => match st with
  | [] => some (none, G)
  | _ => none
section RE
variable {l : Launch} {b : Nat} {D : va_G} {dA : Nat → ClassId} {ad : Nat → Option Nat} {own : String} {cc : ByteArray} {nL : Nat} {ret : Option FieldType} {ini : Bool} {fr pc : Nat} {K : XK}
theorem go_ret {K' : XK} (hs : ∀ (A : List (Option Value)) (st : List Value) (G : XH) (res : XR), K' A st G = some res → res.2 = G ∧
      ∀ (p : Program) (e : Env) (R : Room) (s : State) (m : MethodId) (args : Array Value) (below : List Frame) (meth : Method) (c : Code), XCtx b D dA ad own cc nL ret ini fr p R s m args meth c →
        ∀ (H : Heap) (locs : List Loc) (cells slots : Nat) (ls : Array Slot), (∀ t : State, t.heap = H → s.WarmedH t.vm → XQ b D dA ad res args s (.returned (res.1.map (xtr b ad))) t) → (∀ q ∈ locs, xA b q.base) → W p l e R s m args below meth c H locs cells slots (MQ below (XQ b D dA ad res) args s cells slots (xA b)) (F0 m pc ls (st.map (xtr b ad)))) :
    XGo l b D dA ad own cc nL ret ini fr pc K' := by
  refine ⟨fun A st G res hk => ?_, fun A st G res hk => ?_⟩
  · obtain ⟨h1, -⟩ := hs A st G res hk
    rw [h1]
    exact ⟨Nat.le_refl _, Nat.le_refl _⟩
  · obtain ⟨h1, h2⟩ := hs A st G res hk
    intro p e R s m args below meth c X H locs cells slots mc ms ls hP hS hl hmc hms h3 h4
    rw [h1, Nat.sub_self, Nat.add_zero] at hmc hms
    subst hmc
    subst hms
    exact h2 p e R s m args below meth c X H locs cells slots ls (fun t ht hW => ⟨rfl, by rw [ht, h1]; exact hP, hS.F ht⟩) hS.2.2
theorem go_iret (hr : ret = some .int) (hd : decode cc pc = .ok (.ireturn, 1)) : XGo l b D dA ad own cc nL ret ini fr pc (xIret ()) := by
  refine go_ret fun A st G res hk => ?_
  unfold xIret at hk
  split at hk
  · cases hk
    exact ⟨rfl, fun p e R s m args below meth c X H locs cells slots ls hq hf => W.iret X.1 X.2.1 (X.2.2.2.2.2.1.trans hr) hq hf hd X.2.2.2.2.2.2.1⟩
  · cases hk
theorem go_zret (hr : ret = some .boolean) (hd : decode cc pc = .ok (.ireturn, 1)) : XGo l b D dA ad own cc nL ret ini fr pc (xZret ()) := by
  refine go_ret fun A st G res hk => ?_
  unfold xZret at hk
  split at hk
  · split at hk
    · next hc =>
      cases hk
      exact ⟨rfl, fun p e R s m args below meth c X H locs cells slots ls hq hf => W.zret X.1 X.2.1 (X.2.2.2.2.2.1.trans hr) (xnar01 hc).1 hq hf hd X.2.2.2.2.2.2.1⟩
    · cases hk
  · cases hk
theorem go_cret (hr : ret = some .char) (hd : decode cc pc = .ok (.ireturn, 1)) : XGo l b D dA ad own cc nL ret ini fr pc (xCret ()) := by
  refine go_ret fun A st G res hk => ?_
  unfold xCret at hk
  split at hk
  · split at hk
    · next hc =>
      cases hk
      exact ⟨rfl, fun p e R s m args below meth c X H locs cells slots ls hq hf => W.zret X.1 X.2.1 (X.2.2.2.2.2.1.trans hr) hc hq hf hd X.2.2.2.2.2.2.1⟩
    · cases hk
  · cases hk
theorem go_bret (hr : ret = some .byte) (hd : decode cc pc = .ok (.ireturn, 1)) : XGo l b D dA ad own cc nL ret ini fr pc (xBret ()) := by
  refine go_ret fun A st G res hk => ?_
  unfold xBret at hk
  split at hk
  · split at hk
    · next hc =>
      cases hk
      exact ⟨rfl, fun p e R s m args below meth c X H locs cells slots ls hq hf => W.zret X.1 X.2.1 (X.2.2.2.2.2.1.trans hr) hc hq hf hd X.2.2.2.2.2.2.1⟩
    · cases hk
  · cases hk
theorem go_lret (hr : ret = some .long) (hd : decode cc pc = .ok (.lreturn, 1)) : XGo l b D dA ad own cc nL ret ini fr pc (xLret ()) := by
  refine go_ret fun A st G res hk => ?_
  unfold xLret at hk
  split at hk
  · cases hk
    exact ⟨rfl, fun p e R s m args below meth c X H locs cells slots ls hq hf => W.lret X.1 X.2.1 (X.2.2.2.2.2.1.trans hr) hq hf hd X.2.2.2.2.2.2.1⟩
  · cases hk
theorem go_vret (hr : ret = none) (hd : decode cc pc = .ok (.return_, 1)) : XGo l b D dA ad own cc nL ret ini fr pc (xVret ()) := by
  refine go_ret fun A st G res hk => ?_
  unfold xVret at hk
  split at hk
  · cases hk
    exact ⟨rfl, fun p e R s m args below meth c X H locs cells slots ls hq hf => W.vret X.1 X.2.1 (X.2.2.2.2.2.1.trans hr) hq hf hd X.2.2.2.2.2.2.1⟩
  · cases hk
theorem go_aret {rt : FieldType} (hr : ret = some rt) (hrt : (∃ n, rt = .object n) ∨ ∃ t, rt = .array t) (hd : decode cc pc = .ok (.areturn, 1)) : XGo l b D dA ad own cc nL ret ini fr pc (xAret ()) := by
  refine go_ret fun A st G res hk => ?_
  unfold xAret at hk
  split at hk
  · cases hk
    exact ⟨rfl, fun p e R s m args below meth c X H locs cells slots ls hq hf => W.aret X.1 X.2.1 (X.2.2.2.2.2.1.trans hr) hrt (Or.inr ⟨_, rfl⟩) hq hf hd X.2.2.2.2.2.2.1⟩
  · cases hk
    exact ⟨rfl, fun p e R s m args below meth c X H locs cells slots ls hq hf => W.aret X.1 X.2.1 (X.2.2.2.2.2.1.trans hr) hrt (Or.inl rfl) hq hf hd X.2.2.2.2.2.2.1⟩
  · cases hk
end RE
/-! a method as a function of its arguments and the cells -/
abbrev XD : Type := List Value → XH → Option XR
def xen (av : List Value) (nL : Nat) : List (Option Value) := (av.flatMap fun v => if v.category = 2 then [some v, none] else [some v]) ++ List.replicate (nL - (av.flatMap fun v => if v.category = 2 then [some v, none] else [some v]).length) none
/-- from its code -/
def xfun (nL : Nat) (K : XK) : XD := fun av G => if (xen av nL).length = nL then K (xen av nL) [] G else none
def xwy (y : MethodName) (cc : ByteArray) (nL : Nat) (ret : Option FieldType) : List Cond := .code y cc nL ret :: lw_gd
/-- a call's start -/
def XP (b : Nat) (D : va_G) (dA : Nat → ClassId) (ad : Nat → Option Nat) (av : List Value) (G : XH) : Array Value → State → Prop := fun v U => v = (av.map (xtr b ad)).toArray ∧ XRp b D dA G U.heap ∧ va_K D classes (xtys dA) U ∧ XSt b ad U
/-- the method y does what the function F says -/
def XMet (l : Launch) (b : Nat) (D : va_G) (dA : Nat → ClassId) (ad : Nat → Option Nat) (y : MethodName) (cc : ByteArray) (nL : Nat) (ret : Option FieldType) (fr : Nat) (F : XD) : Prop :=
  ∀ (av : List Value) (G : XH) (res : XR), F av G = some res → hpZ G ≤ hpZ res.2 ∧ hpS G ≤ hpS res.2 ∧
    Met l y (xwy y cc nL ret) { frames := fr, cells := hpZ res.2 - hpZ G, slots := hpS res.2 - hpS G, locals := 40 * fr } (XP b D dA ad av G) (XQ b D dA ad res) (hpZ res.2 - hpZ G) (hpS res.2 - hpS G) (xA b)
theorem xen_slots {b : Nat} {ad : Nat → Option Nat} (av : List Value) : (lg_sl (av.map (xtr b ad))).length = (av.flatMap fun v => if v.category = 2 then [some v, none] else [some v]).length := by
  unfold lg_sl
  induction av with
  | nil => rfl
  | cons v r ih =>
    rw [List.map_cons, List.flatMap_cons, List.flatMap_cons, List.length_append, List.length_append, ih, xtr_cat]
    split <;> rfl
theorem xen_at {b : Nat} {ad : Nat → Option Nat} (av : List Value) : ∀ (i : Nat) (v : Value), (av.flatMap fun v => if v.category = 2 then [some v, none] else [some v])[i]? = some (some v) → (lg_sl (av.map (xtr b ad)))[i]? = some (.val (xtr b ad v)) := by
  unfold lg_sl
  induction av with
  | nil => intro i v h; simp at h
  | cons w r ih =>
    intro i v h
    rw [List.map_cons, List.flatMap_cons]
    rw [List.flatMap_cons] at h
    rw [xtr_cat]
    by_cases hc : w.category = 2
    · rw [if_pos hc] at h ⊢
      match i with
      | 0 => simp at h ⊢; rw [h]
      | 1 => simp at h
      | i + 2 => simp at h ⊢; exact ih i v (by simpa using h)
    · rw [if_neg hc] at h ⊢
      match i with
      | 0 => simp at h ⊢; rw [h]
      | i + 1 => simp at h ⊢; exact ih i v (by simpa using h)
theorem xmetF {l : Launch} {y : MethodName} {ws ws' : List Cond} {rm : Room} {Pc : Array Value → State → Prop} {Qc : Array Value → State → Outcome → State → Prop} {mc ms : Nat} {free : Addr → Prop} {cc : ByteArray} {maxL : Nat} {ret : Option FieldType}
    (hy : plainFor y = true) (hw : ws = Cond.code y cc maxL ret :: ws')
    (body : ∀ p e s m args below meth c s₁, BodyLoose p l y (headSpec ws rm) cc maxL ret e s m args below meth c s₁ → c.maxLocals = maxL → Pc args s →
      W p l e (headSpec ws rm).room s m args below meth c s.heap [] 0 0 (MQ below Qc args s mc ms free) (entryFrame m args maxL)) : Met l y ws rm Pc Qc mc ms free := by
  refine MetFree.of_bodySF (code := cc) (maxLocals := maxL) (ret := ret) hy ?_ ?_
  · intro args s m h hn
    obtain ⟨meth, c, h1, h2, h3, h4, h5, h6, -, -⟩ := Cond.code_spec hn (atoms_spec (ws := ws) h _ (by rw [hw]; exact List.mem_cons_self))
    exact ⟨meth, c, h1, h2, h3, h4, h5, h6⟩
  · intro p e s m args below meth c s₁ B hml hP _
    have hh0 : s₁.heap = s.heap := by rw [B.state]; rfl
    obtain ⟨t, a1, o, b1, b2, b3⟩ := body p e s m args below meth c s₁ B hml hP s₁ hh0 (Stand.of_body B)
    exact ⟨t, o, a1, b1, b2, ⟨b3.1, b3.2⟩⟩
theorem xmet_of {l : Launch} {b : Nat} {D : va_G} {dA : Nat → ClassId} {ad : Nat → Option Nat} {y : MethodName} {cc : ByteArray} {nL : Nat} {ret : Option FieldType} {fr : Nat} {ini : Bool} {K : XK} (hy : plainFor y = true) (hini : ini = true → y.name = "<init>") (h : XGo l b D dA ad y.cls cc nL ret ini fr 0 K) : XMet l b D dA ad y cc nL ret fr (xfun nL K) := by
  intro av G res hF
  unfold xfun at hF
  split at hF
  · next hn =>
    obtain ⟨hm1, hm2⟩ := h.1 _ _ _ _ hF
    refine ⟨hm1, hm2, xmetF (cc := cc) (maxL := nL) (ret := ret) hy rfl ?_⟩
    intro p e s m args below meth c s₁ B hml hv
    obtain ⟨rfl, hP, hK, hSt⟩ := hv
    have hts := atoms_spec (ws := xwy y cc nL ret) B.pre
    have hX : XCtx b D dA ad y.cls cc nL ret ini fr p (headSpec (xwy y cc nL ret) { frames := fr, cells := hpZ res.2 - hpZ G, slots := hpS res.2 - hpS G, locals := 40 * fr }).room s m (av.map (xtr b ad)).toArray meth c :=
      ⟨B.exec, B.bytes, hml, findClass_of_methodNamed B.named, fun w hw => hts w (List.mem_cons_of_mem _ hw), B.returns, B.notSynchronized, fun hi => (name_of_methodNamed B.named B.method).1.trans (hini hi), hK, hSt, by have := hP.2.1; omega, Nat.le_refl _, Nat.le_refl _⟩
    have hlen : (lg_sl (av.map (xtr b ad))).length ≤ nL := by
      rw [xen_slots]
      unfold xen at hn
      rw [List.length_append, List.length_replicate] at hn
      omega
    have hl := lv_entry (av.map (xtr b ad)) (n := nL) hlen
    rw [lg_entry_eq]
    refine h.2 _ _ _ _ hF p e _ s m _ below meth c hX s.heap [] 0 0 _ _ _ hP va_S.rf ⟨hl.1, hn, hl.2.1, fun i v hi => ?_⟩ (Nat.zero_add _) (Nat.zero_add _) (Nat.le_refl _) (Nat.le_refl _)
    unfold xen at hi
    by_cases hi2 : i < (av.flatMap fun v => if v.category = 2 then [some v, none] else [some v]).length
    · rw [List.getElem?_append_left hi2] at hi
      have h3 := xen_at (b := b) (ad := ad) av i v hi
      rw [← Array.getElem?_toList, List.getElem?_append_left (by rw [xen_slots]; exact hi2)]
      exact h3
    · rw [List.getElem?_append_right (by omega), List.getElem?_replicate] at hi
      split at hi <;> cases hi
  · cases hF
theorem tbl_good {w : Cond} (h : w ∈ lw_gd) : w ∈ lw_gd ∧ ((w.onTables && w.keeps) = true ∨ ∃ ty, w = .arrayClass ty) := ⟨h, good_of_word (List.mem_filter.mp h).2⟩
section CA
variable {l : Launch} {b : Nat} {D : va_G} {dA : Nat → ClassId} {ad : Nat → Option Nat} {own : String} {cc : ByteArray} {nL : Nat} {ret : Option FieldType} {ini : Bool} {fr pc : Nat} {K : XK}
theorem xw_call {p : Program} {e : Env} {R : Room} {s : State} {m : MethodId} {args : Array Value} {below : List Frame} {meth : Method} {c : Code} {H : Heap} {locs : List Loc} {cells slots mc ms : Nat} {Q : State → Prop} {ls : Array Slot} {st0 rest : List Value} {a : Array Value} {res : XR} (hr : va_Run p l e R s m args below meth c H locs cells slots mc ms (F0 m pc ls st0) rest (XQ b D dA ad res a) (xA b)) (hS : va_S (xA b) s.heap H locs)
    (kk : ∀ (H1 : Heap) (locs1 : List Loc), XRp b D dA res.2 H1 → va_S (xA b) s.heap H1 locs1 → W p l e R s m args below meth c H1 locs1 (cells + mc) (slots + ms) Q (F0 m (pc + 3) ls ((res.1.map (xtr b ad)).toList ++ rest))) : W p l e R s m args below meth c H locs cells slots Q (F0 m pc ls st0) := by
  intro T hT X
  obtain ⟨v, st₀, t, T', L, h0, X', hL, e1, e2, ⟨hv, hp, hz, hk⟩, st⟩ := hr T hT X
  have hv2 : v = res.1.map (xtr b ad) := Outcome.returned.inj hv
  subst hv2
  rw [h0] at hz hk
  obtain ⟨t2, a1, b1⟩ := kk T'.heap (locs ++ L) (by rw [e1]; exact hp)
    ⟨Nat.le_trans hS.1 (by rw [e1]; exact hz), fun q h1 h2 => by rw [e1, hk q (Nat.lt_of_lt_of_le h1 hS.1) h2]; exact hS.2.1 q h1 h2, fun q hq => by
      rcases List.mem_append.mp hq with h | h
      · exact hS.2.2 q h
      · exact hL q h⟩ T' rfl X'
  exact ⟨t2, st t2 a1, b1⟩
/-- what a call's own words are: the link, the code, the class -/
def XMl (own : String) (index : Nat) (y : MethodName) (cc' : ByteArray) (nL' : Nat) (ret' : Option FieldType) (n : Nat) : Prop :=
  Cond.methodLink own index y ∈ lw_gd ∧ Cond.initialized y.cls ∈ lw_gd ∧ Cond.code y cc' nL' ret' ∈ lw_gd ∧ (y.cls ≠ "java/lang/invoke/MethodHandle" ∧ y.cls ≠ "java/lang/invoke/VarHandle" ∧ (parseMethodDescriptor y.desc).map (fun d => d.parameters.length) = some n) ∧ nL' ≤ 21
theorem xgood {y : MethodName} {cc' : ByteArray} {nL' : Nat} {ret' : Option FieldType} (h : Cond.code y cc' nL' ret' ∈ lw_gd) : GoodIn lw_gd (xwy y cc' nL' ret') := fun w hw => by
  rcases List.mem_cons.mp hw with rfl | hw
  · exact tbl_good h
  · exact tbl_good hw
theorem xpre {s U : State} {H : Heap} {locs : List Loc} {av : List Value} {G : XH} (hP : XRp b D dA G H) (hK : va_K D classes (xtys dA) s) (hSt : XSt b ad s) (hS : va_S (xA b) s.heap H locs) (hU : U.heap = H) (hW : s.WarmedH U.vm) : XP b D dA ad av G (av.map (xtr b ad)).toArray U :=
  ⟨rfl, by rw [hU]; exact hP, va_K.moved hW.alike hK, hSt.to hW (fun a h1 h2 => by rw [hU]; exact hS.2.1 a h1 h2)⟩
theorem xblind {av : List Value} {G : XH} : FrameBlind (XP b D dA ad av G) := fun a U g mk h => ⟨h.1, h.2.1, va_K.moved (u := U) (U := U.calling g mk a) (Vm.Alike.refl U.vm) h.2.2.1, h.2.2.2.same rfl rfl⟩
theorem xsplit (n : Nat) (st : List Value) : st.map (xtr b ad) = ((st.take n).reverse.map (xtr b ad)).reverse ++ (st.drop n).map (xtr b ad) := by
  rw [List.map_reverse, List.reverse_reverse, ← List.map_append, List.take_append_drop]
theorem xcats (r : List Value) : ((r.map (xtr b ad)).map fun v => v.category).sum = (r.map Value.category).sum := by
  rw [List.map_map]
  congr 1
  exact List.map_congr_left fun v _ => xtr_cat v
theorem go_callx {K' : XK} (h : XGo l b D dA ad own cc nL ret ini fr (pc + 3) K)
    (hs : ∀ (A : List (Option Value)) (st : List Value) (G : XH) (res : XR), K' A st G = some res → ∃ (r : List Value) (v : Option Value) (G' : XH), K A (v.toList ++ r) G' = some res ∧ (hpZ G ≤ hpZ G' ∧ hpS G ≤ hpS G') ∧
      ∀ (p : Program) (e : Env) (R : Room) (s : State) (m : MethodId) (args : Array Value) (below : List Frame) (meth : Method) (c : Code), XCtx b D dA ad own cc nL ret ini fr p R s m args meth c →
        ∀ (H : Heap) (locs : List Loc) (cells slots : Nat) (ls : Array Slot), XRp b D dA G H → va_S (xA b) s.heap H locs → xLr b ad A ls nL → cells + (hpZ G' - hpZ G) ≤ R.cells → slots + (hpS G' - hpS G) ≤ R.slots → ∃ a : Array Value, va_Run p l e R s m args below meth c H locs cells slots (hpZ G' - hpZ G) (hpS G' - hpS G) (F0 m pc ls (st.map (xtr b ad))) (r.map (xtr b ad)) (XQ b D dA ad (v, G') a) (xA b)) :
    XGo l b D dA ad own cc nL ret ini fr pc K' := by
  refine ⟨fun A st G res hk => ?_, fun A st G res hk => ?_⟩
  · obtain ⟨r, v, G', h1, h2, -⟩ := hs A st G res hk
    have := h.1 _ _ _ _ h1
    omega
  · obtain ⟨r, v, G', h1, h2, h3⟩ := hs A st G res hk
    have hm := h.1 _ _ _ _ h1
    intro p e R s m args below meth c X H locs cells slots mc ms ls hP hS hl hmc hms h5 h6
    obtain ⟨a, hrun⟩ := h3 p e R s m args below meth c X H locs cells slots ls hP hS hl (by omega) (by omega)
    refine xw_call hrun hS fun H1 locs1 hP1 hS1 => ?_
    have hgo := h.2 _ _ _ _ h1 p e R s m args below meth c X H1 locs1 (cells + (hpZ G' - hpZ G)) (slots + (hpS G' - hpS G)) mc ms ls hP1 hS1 hl (by omega) (by omega) h5 h6
    rw [List.map_append] at hgo
    cases v <;> exact hgo
def xCallS (n : Nat) (F : XD) (K : XK) : XK := fun A st G => if n ≤ st.length ∧ ((st.drop n).map Value.category).sum ≤ 8 then match F (st.take n).reverse G with
    | some q => K A (q.1.toList ++ st.drop n) q.2
    | none => none
  else none
theorem go_callS {index n : Nat} {y : MethodName} {cc' : ByteArray} {nL' fr' : Nat} {ret' : Option FieldType} {F : XD} (hM : XMet l b D dA ad y cc' nL' ret' fr' F) (w : XMl own index y cc' nL' ret' n) (ws : Cond.static y ∈ lw_gd) (hfr : fr' + 1 ≤ fr) (hd : decode cc pc = .ok (.invokestatic index, 3)) (h : XGo l b D dA ad own cc nL ret ini fr (pc + 3) K) : XGo l b D dA ad own cc nL ret ini fr pc (xCallS n F K) := by
  obtain ⟨w1, w2, w3, w4, w5⟩ := w
  refine go_callx h fun A st G res hk => ?_
  unfold xCallS at hk
  split at hk
  · next hc =>
    split at hk
    · next q hq =>
      obtain ⟨m1, m2, hMt⟩ := hM _ _ _ hq
      refine ⟨_, _, _, hk, ⟨m1, m2⟩, fun p e R s m args below meth c X H locs cells slots ls hP hS hl hc1 hc2 => ⟨((st.take n).reverse.map (xtr b ad)).toArray, ?_⟩⟩
      obtain ⟨hx, hb, hml, hown, hts, hr, hlk, hin, hK, hst, hbs, hfr2, hlo⟩ := X
      refine va_runS (rest := (st.drop n).map (xtr b ad)) ⟨hx, hb, hml, hown, hts⟩ hMt (va_cwS n hts (fun w hw => ?_) rfl rfl rfl w4 ⟨by show fr' + 1 ≤ _; omega, by show 8 + (nL' + 11) + 40 * fr' ≤ _; omega⟩) ⟨xblind, fun U hU hW => xpre hP hK hst hS hU hW⟩ rfl (by rw [List.length_map, List.length_reverse, List.length_take]; omega) hl.1 (xsplit n st) (by rw [xcats]; exact (by show 2 * 0 + _ ≤ 8; omega)) hd ⟨hc1, hc2⟩
      simp only [va_wsS, List.mem_append, List.mem_cons, List.not_mem_nil, or_false] at hw
      rcases hw with (rfl | rfl | rfl) | hw
      · exact tbl_good w1
      · exact tbl_good ws
      · exact tbl_good w2
      · exact xgood w3 w hw
    · cases hk
  · cases hk
def xCallV (ci n : Nat) (F : XD) (K : XK) : XK := fun A st G => match st.drop n with
  | .ref j :: r => if (n ≤ st.length ∧ (r.map Value.category).sum ≤ 8) ∧ hpC G j = ci then match F (.ref j :: (st.take n).reverse) G with
    | some q => K A (q.1.toList ++ r) q.2
    | none => none
    else none
  | _ => none
theorem xrecv {s : State} {G : XH} {H : Heap} {j ci : Nat} {C : String} {T : u_T} {N : Nat} {ty : Nat → FieldType} (hcl : XCl ci C T N ty) (hK : va_K D classes (xtys dA) s) (hP : XRp b D dA G H) (hc : hpC G j = ci) : ∃ cell : Cell, H[b + j]? = some cell ∧ cell.vm.isStatics = false ∧ s.vm.findClass C = some cell.cls :=
  va_recv hK hP.1 hcl.1 (xat_o (hP.lt hc (by have := hcl.2.2.2.2.2.2; omega)) hc hcl.2.2.2.2.2.2)
theorem go_callV {index ci n : Nat} {y : MethodName} {cc' : ByteArray} {nL' fr' : Nat} {ret' : Option FieldType} {F : XD} {C : String} {T : u_T} {N : Nat} {ty : Nat → FieldType} (hcl : XCl ci C T N ty) (hM : XMet l b D dA ad y cc' nL' ret' fr' F) (w : XMl own index y cc' nL' ret' n) (hyc : y.cls = C) (wi : Cond.instanceMethod y ∈ lw_gd) (ws : Cond.selects C y y ∈ lw_gd) (hfr : fr' + 1 ≤ fr) (hd : decode cc pc = .ok (.invokevirtual index, 3)) (h : XGo l b D dA ad own cc nL ret ini fr (pc + 3) K) : XGo l b D dA ad own cc nL ret ini fr pc (xCallV ci n F K) := by
  obtain ⟨w1, w2, w3, w4, w5⟩ := w
  subst hyc
  refine go_callx h fun A st G res hk => ?_
  unfold xCallV at hk
  split at hk
  · next j r hdr =>
    split at hk
    · next hc =>
      split at hk
      · next q hq =>
        obtain ⟨m1, m2, hMt⟩ := hM _ _ _ hq
        refine ⟨_, _, _, hk, ⟨m1, m2⟩, fun p e R s m args below meth c X H locs cells slots ls hP hS hl hc1 hc2 => ⟨(Value.ref (b + j) :: (st.take n).reverse.map (xtr b ad)).toArray, ?_⟩⟩
        obtain ⟨hx, hb, hml, hown, hts, hr, hlk, hin, hK, hst, hbs, hfr2, hlo⟩ := X
        refine va_runV (b := b + j) (As := (st.take n).reverse.map (xtr b ad)) (rest := r.map (xtr b ad)) ⟨hx, hb, hml, hown, hts⟩ hMt (cwV n hts (fun w hw => ?_) rfl rfl rfl ⟨rfl, w4⟩ ⟨by show fr' + 1 ≤ _; omega, by show 8 + (nL' + 11) + 40 * fr' ≤ _; omega⟩) ⟨xblind, xrecv hcl hK hP hc.2, fun U hU hW => xpre hP hK hst hS hU hW⟩ rfl (by rw [List.length_map, List.length_reverse, List.length_take]; omega) hl.1 ?_ (by rw [xcats]; exact (by show 2 * 0 + _ ≤ 8; omega)) hd ⟨hc1, hc2⟩
        · simp only [wsV, List.mem_append, List.mem_cons, List.not_mem_nil, or_false] at hw
          rcases hw with (rfl | rfl | rfl | rfl) | hw
          · exact tbl_good w1
          · exact tbl_good wi
          · exact tbl_good ws
          · exact tbl_good w2
          · exact xgood w3 w hw
        · show st.map (xtr b ad) = _
          rw [xsplit n st, hdr]
          rfl
      · cases hk
    · cases hk
  · cases hk
/-- a nest mate's private method -/
theorem go_callVN {index ci n : Nat} {y : MethodName} {cc' : ByteArray} {nL' fr' : Nat} {ret' : Option FieldType} {F : XD} {C host : String} {T : u_T} {N : Nat} {ty : Nat → FieldType} (hcl : XCl ci C T N ty) (hM : XMet l b D dA ad y cc' nL' ret' fr' F) (w1 : Cond.methodLinkNest own index y host ∈ lw_nw) (w2 : Cond.initialized y.cls ∈ lw_gd) (w3 : Cond.code y cc' nL' ret' ∈ lw_gd) (w4 : y.cls ≠ "java/lang/invoke/MethodHandle" ∧ y.cls ≠ "java/lang/invoke/VarHandle" ∧ (parseMethodDescriptor y.desc).map (fun d => d.parameters.length) = some n) (w5 : nL' ≤ 21) (hyc : y.cls = C) (wi : Cond.instanceMethod y ∈ lw_gd) (ws : Cond.selects C y y ∈ lw_gd) (hfr : fr' + 1 ≤ fr) (hd : decode cc pc = .ok (.invokevirtual index, 3)) (h : XGo l b D dA ad own cc nL ret ini fr (pc + 3) K) : XGo l b D dA ad own cc nL ret ini fr pc (xCallV ci n F K) := by
  subst hyc
  refine go_callx h fun A st G res hk => ?_
  unfold xCallV at hk
  split at hk
  · next j r hdr =>
    split at hk
    · next hc =>
      split at hk
      · next q hq =>
        obtain ⟨m1, m2, hMt⟩ := hM _ _ _ hq
        refine ⟨_, _, _, hk, ⟨m1, m2⟩, fun p e R s m args below meth c X H locs cells slots ls hP hS hl hc1 hc2 => ⟨(Value.ref (b + j) :: (st.take n).reverse.map (xtr b ad)).toArray, ?_⟩⟩
        obtain ⟨hx, hb, hml, hown, hts, hr, hlk, hin, hK, hst, hbs, hfr2, hlo⟩ := X
        refine va_runVN (C := y.cls) (b := b + j) (As := (st.take n).reverse.map (xtr b ad)) (rest := r.map (xtr b ad)) ⟨hx, hb, hml, hown, hts⟩ hMt ⟨va_cnB n hts (xgood w3) rfl rfl rfl (hst.2.2.2.2.1 _ w1) (hts _ w2) w4 ⟨by show fr' + 1 ≤ _; omega, by show 8 + (nL' + 11) + 40 * fr' ≤ _; omega⟩, hts _ wi, hts _ ws⟩ ⟨xblind, xrecv hcl hK hP hc.2, fun U hU hW => xpre hP hK hst hS hU hW⟩ rfl (by rw [List.length_map, List.length_reverse, List.length_take]; omega) hl.1 ?_ (by rw [xcats]; exact (by show 2 * 0 + _ ≤ 8; omega)) hd ⟨hc1, hc2⟩
        show st.map (xtr b ad) = _
        rw [xsplit n st, hdr]
        rfl
      · cases hk
    · cases hk
  · cases hk
theorem go_callI {index ci n : Nat} {y : MethodName} {cc' : ByteArray} {nL' fr' : Nat} {F : XD} (hM : XMet l b D dA ad y cc' nL' none fr' F) (w : XMl own index y cc' nL' none n) (hy1 : y.name = "<init>") (wi : Cond.instanceMethod y ∈ lw_gd) (hfr : fr' + 1 ≤ fr) (hd : decode cc pc = .ok (.invokespecial index, 3)) (h : XGo l b D dA ad own cc nL ret ini fr (pc + 3) K) : XGo l b D dA ad own cc nL ret ini fr pc (xCallV ci n F K) := by
  obtain ⟨w1, w2, w3, w4, w5⟩ := w
  refine go_callx h fun A st G res hk => ?_
  unfold xCallV at hk
  split at hk
  · next j r hdr =>
    split at hk
    · next hc =>
      split at hk
      · next q hq =>
        obtain ⟨m1, m2, hMt⟩ := hM _ _ _ hq
        refine ⟨_, _, _, hk, ⟨m1, m2⟩, fun p e R s m args below meth c X H locs cells slots ls hP hS hl hc1 hc2 => ⟨(Value.ref (b + j) :: (st.take n).reverse.map (xtr b ad)).toArray, ?_⟩⟩
        obtain ⟨hx, hb, hml, hown, hts, hr, hlk, hin, hK, hst, hbs, hfr2, hlo⟩ := X
        refine va_runI (b := b + j) (As := (st.take n).reverse.map (xtr b ad)) (rest := r.map (xtr b ad)) ⟨hx, hb, hml, hown, hts⟩ hMt (cwI n hts (xgood w3) rfl rfl rfl (hts _ w2) (hts _ w1) (hts _ wi) hy1 w4 ⟨by show fr' + 1 ≤ _; omega, by show 8 + (nL' + 11) + 40 * fr' ≤ _; omega⟩) ⟨xblind, fun U hU hW => xpre hP hK hst hS hU hW⟩ rfl (by rw [List.length_map, List.length_reverse, List.length_take]; omega) hl.1 ?_ (by rw [xcats]; exact (by show 2 * 0 + _ ≤ 8; omega)) hd ⟨hc1, hc2⟩
        show st.map (xtr b ad) = _
        rw [xsplit n st, hdr]
        rfl
      · cases hk
    · cases hk
  · cases hk
theorem go_callIN {index ci n : Nat} {y : MethodName} {cc' : ByteArray} {nL' fr' : Nat} {F : XD} {host : String} (hM : XMet l b D dA ad y cc' nL' none fr' F) (w1 : Cond.methodLinkNest own index y host ∈ lw_nw) (w2 : Cond.initialized y.cls ∈ lw_gd) (w3 : Cond.code y cc' nL' none ∈ lw_gd) (w4 : y.cls ≠ "java/lang/invoke/MethodHandle" ∧ y.cls ≠ "java/lang/invoke/VarHandle" ∧ (parseMethodDescriptor y.desc).map (fun d => d.parameters.length) = some n) (w5 : nL' ≤ 21) (hy1 : y.name = "<init>") (wi : Cond.instanceMethod y ∈ lw_gd) (hfr : fr' + 1 ≤ fr) (hd : decode cc pc = .ok (.invokespecial index, 3)) (h : XGo l b D dA ad own cc nL ret ini fr (pc + 3) K) : XGo l b D dA ad own cc nL ret ini fr pc (xCallV ci n F K) := by
  refine go_callx h fun A st G res hk => ?_
  unfold xCallV at hk
  split at hk
  · next j r hdr =>
    split at hk
    · next hc =>
      split at hk
      · next q hq =>
        obtain ⟨m1, m2, hMt⟩ := hM _ _ _ hq
        refine ⟨_, _, _, hk, ⟨m1, m2⟩, fun p e R s m args below meth c X H locs cells slots ls hP hS hl hc1 hc2 => ⟨(Value.ref (b + j) :: (st.take n).reverse.map (xtr b ad)).toArray, ?_⟩⟩
        obtain ⟨hx, hb, hml, hown, hts, hr, hlk, hin, hK, hst, hbs, hfr2, hlo⟩ := X
        refine va_runIN (b := b + j) (As := (st.take n).reverse.map (xtr b ad)) (rest := r.map (xtr b ad)) ⟨hx, hb, hml, hown, hts⟩ hMt ⟨va_cnB n hts (xgood w3) rfl rfl rfl (hst.2.2.2.2.1 _ w1) (hts _ w2) w4 ⟨by show fr' + 1 ≤ _; omega, by show 8 + (nL' + 11) + 40 * fr' ≤ _; omega⟩, hy1, hts _ wi⟩ ⟨xblind, fun U hU hW => xpre hP hK hst hS hU hW⟩ rfl (by rw [List.length_map, List.length_reverse, List.length_take]; omega) hl.1 ?_ (by rw [xcats]; exact (by show 2 * 0 + _ ≤ 8; omega)) hd ⟨hc1, hc2⟩
        show st.map (xtr b ad) = _
        rw [xsplit n st, hdr]
        rfl
      · cases hk
    · cases hk
  · cases hk
end CA
