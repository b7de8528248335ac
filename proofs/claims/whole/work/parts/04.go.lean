/-! THE JUDGEMENT: code at pc does what the continuation K says -/
abbrev XR : Type := Option Value × XH
abbrev XK : Type := List (Option Value) → List Value → XH → Option XR
/-- the heap holds the cells -/
def XRp (b : Nat) (D : va_G) (dA : Nat → ClassId) (G : XH) (H : Heap) : Prop := va_P D classes (xws b dA G) H ∧ H.size = b + hpZ G ∧ ∀ j, hpZ G ≤ j → hpC G j = 99
theorem XRp.lt {b : Nat} {D : va_G} {dA : Nat → ClassId} {G : XH} {H : Heap} {j c : Nat} (h : XRp b D dA G H) (hc : hpC G j = c) (h9 : c < 99) : j < hpZ G := by
  rcases Nat.lt_or_ge j (hpZ G) with q | q
  · exact q
  · have := h.2.2 j q
    omega
def xtys (dA : Nat → ClassId) : List (ClassId × FieldType) := [(dA 20, .int), (dA 21, .boolean), (dA 22, .long), (dA 23, .array .int), (dA 24, .object "TearPost$World"), (dA 25, .object "TearPost$Text")]
/-- the locals -/
def xLr (b : Nat) (ad : Nat → Option Nat) (A : List (Option Value)) (ls : Array Slot) (nL : Nat) : Prop := ls.size = nL ∧ A.length = nL ∧ lv_wf ls ∧ ∀ (i : Nat) (v : Value), A[i]? = some (some v) → ls[i]? = some (.val (xtr b ad v))
def xlv (b : Nat) (ad : Nat → Option Nat) (A : List (Option Value)) : List (Nat × Value) := (List.range A.length).filterMap fun i => match A[i]? with
  | some (some v) => some (i, xtr b ad v)
  | _ => none
theorem xlv_mem {b : Nat} {ad : Nat → Option Nat} {A : List (Option Value)} {q : Nat × Value} : q ∈ xlv b ad A ↔ ∃ v, A[q.1]? = some (some v) ∧ q.2 = xtr b ad v := by
  unfold xlv
  rw [List.mem_filterMap]
  constructor
  · rintro ⟨i, hi, h⟩
    split at h
    · next v hv =>
      cases h
      exact ⟨v, hv, rfl⟩
    · cases h
  · rintro ⟨v, hv, he⟩
    refine ⟨q.1, ?_, ?_⟩
    · rw [List.mem_range]
      exact (List.getElem?_eq_some_iff.mp hv).1
    · rw [hv]
      show some (q.1, xtr b ad v) = some q
      rw [← he]
theorem xLr.has {b : Nat} {ad : Nat → Option Nat} {A : List (Option Value)} {ls : Array Slot} {nL : Nat} (h : xLr b ad A ls nL) : lv_has ls nL (xlv b ad A) := by
  refine ⟨h.1, h.2.2.1, fun q hq => ?_⟩
  obtain ⟨v, h1, h2⟩ := xlv_mem.mp hq
  rw [h2]
  exact h.2.2.2 _ _ h1
/-- no long ends at i -/
def xok (A : List (Option Value)) (i : Nat) : Bool := match i with
  | 0 => true
  | k + 1 => match A[k]? with
    | some (some v) => v.category == 1
    | _ => true
theorem xok_spec {A : List (Option Value)} {i j : Nat} {v : Value} (h : xok A i = true) (hj : A[j]? = some (some v)) (hji : j + 1 = i) : v.category = 1 := by
  subst hji
  simpa [xok, hj] using h
theorem xLr.set1 {b : Nat} {ad : Nat → Option Nat} {A : List (Option Value)} {ls ls' : Array Slot} {nL i : Nat} {v : Value} (h : xLr b ad A ls nL) (hok : xok A i = true) (h' : lv_has ls' nL ((i, xtr b ad v) :: (xlv b ad A).filter (fun q => !(q.1 == i) && !(q.1 + 1 == i && q.2.category == 2)))) : xLr b ad (A.set i (some v)) ls' nL := by
  refine ⟨h'.1, by rw [List.length_set]; exact h.2.1, h'.2.1, fun j w hj => ?_⟩
  by_cases hji : j = i
  · subst hji
    have hlt : j < A.length := by
      have := (List.getElem?_eq_some_iff.mp hj).1
      rwa [List.length_set] at this
    rw [List.getElem?_set_self hlt] at hj
    cases hj
    exact h'.2.2 _ List.mem_cons_self
  · rw [List.getElem?_set_ne (fun q => hji q.symm)] at hj
    refine h'.2.2 (j, xtr b ad w) (List.mem_cons_of_mem _ (List.mem_filter.mpr ⟨xlv_mem.mpr ⟨w, hj, rfl⟩, ?_⟩))
    have h2 : j + 1 = i → w.category = 1 := xok_spec hok hj
    simp only [xtr_cat]
    by_cases h3 : j + 1 = i
    · simp [hji, h2 h3]
    · simp [hji, h3]
theorem xLr.set2 {b : Nat} {ad : Nat → Option Nat} {A : List (Option Value)} {ls ls' : Array Slot} {nL i : Nat} {v : Value} (h : xLr b ad A ls nL) (hok : xok A i = true) (h' : lv_has ls' nL ((i, xtr b ad v) :: (xlv b ad A).filter (fun q => !(q.1 == i) && (!(q.1 == i + 1) && !(q.1 + 1 == i && q.2.category == 2))))) : xLr b ad ((A.set i (some v)).set (i + 1) none) ls' nL := by
  refine ⟨h'.1, by rw [List.length_set, List.length_set]; exact h.2.1, h'.2.1, fun j w hj => ?_⟩
  by_cases hj1 : j = i + 1
  · subst hj1
    have hlt := (List.getElem?_eq_some_iff.mp hj).1
    rw [List.length_set] at hlt
    rw [List.getElem?_set_self hlt] at hj
    cases hj
  · rw [List.getElem?_set_ne (fun q => hj1 q.symm)] at hj
    by_cases hji : j = i
    · subst hji
      have hlt : j < A.length := by
        have := (List.getElem?_eq_some_iff.mp hj).1
        rwa [List.length_set] at this
      rw [List.getElem?_set_self hlt] at hj
      cases hj
      exact h'.2.2 _ List.mem_cons_self
    · rw [List.getElem?_set_ne (fun q => hji q.symm)] at hj
      refine h'.2.2 (j, xtr b ad w) (List.mem_cons_of_mem _ (List.mem_filter.mpr ⟨xlv_mem.mpr ⟨w, hj, rfl⟩, ?_⟩))
      have h2 : j + 1 = i → w.category = 1 := xok_spec hok hj
      simp only [xtr_cat]
      by_cases h3 : j + 1 = i
      · simp [hji, hj1, h2 h3]
      · simp [hji, hj1, h3]
/-- int[][]'s word -/
def xAOA (U : State) : Prop := (Cond.arrayOver (.array .int)).before #[] U = true
theorem xAOA.moved {u U : State} (hvm : u.vm.Alike U.vm) (h : xAOA u) : xAOA U := by
  obtain ⟨comp, c, k, h1, h2, h3, h4, h5⟩ := arrayOver_specB h
  obtain ⟨k', hk', he⟩ := hvm.2.2 _ _ h3
  have hi : (U.vm.classes.findIdx? fun (x : Class) => match x.kind with | .array component _ => component == comp | _ => false) = some c := by
    refine (va_idx_bare U.vm comp).symm.trans ?_
    have hb : U.vm.bare = u.vm.bare := by first | exact hvm.bare_eq | exact hvm.bare_eq.symm
    rw [hb]
    exact (va_idx_bare u.vm comp).trans h2
  have hkind : k'.kind = .array comp (.array .int) := by rw [he]; exact h4
  have f1 : U.vm.findClass (FieldType.array .int).toString = some comp := by rw [hvm.findClass]; exact h1
  have f2 : U.vm.findClass ("[" ++ (FieldType.array .int).toString) = some c := by rw [hvm.findClass]; exact h5
  unfold xAOA Cond.before Cond.holds
  simp only [Cond.value]
  rw [f1, Option.bind_some]
  refine (congrArg (fun o : Option Nat => (o.bind (fun c => (U.vm.classes[c]?).map fun (k : Class) => match k.kind with | .array _ ty => decide (ty = FieldType.array .int) && decide (U.vm.findClass ("[" ++ (FieldType.array .int).toString) = some c) | _ => false) == some true)) hi).trans ?_
  simp [hk', hkind, f2]
theorem xnw_warm {w : Cond} (hw : w ∈ lw_nw) {s U : State} (hW : s.WarmedH U.vm) (h : va_Nw w s) : va_Nw w U := by
  simp only [lw_nw, List.mem_cons, List.not_mem_nil, or_false] at hw
  rcases hw with rfl | rfl | rfl | rfl | rfl | rfl | rfl | rfl <;> first | exact va_Nw.warmM hW h | exact va_Nw.warmF hW h | exact va_Nw.warmC hW h
theorem xnw_same {w : Cond} (hw : w ∈ lw_nw) {s U : State} (hv : U.vm = s.vm) (h : va_Nw w s) : va_Nw w U := by
  simp only [lw_nw, List.mem_cons, List.not_mem_nil, or_false] at hw
  rcases hw with rfl | rfl | rfl | rfl | rfl | rfl | rfl | rfl <;> exact va_Nw.same rfl hv.symm h
/-- the script: its length and its ints stand behind place 1000 of ad -/
def xsL (ad : Nat → Option Nat) : Nat := (ad 1000).getD 0
def xsV (ad : Nat → Option Nat) (j : Nat) : Int32 := Int32.ofNat ((ad (1001 + j)).getD 0)
/-- what the machine itself has from before the law: texts and tables -/
def XSt (b : Nat) (ad : Nat → Option Nat) (U : State) : Prop :=
  (∀ (i : Nat) (q : String × Nat × String × List Int32), xstrs[i]? = some q → ∃ a v : Nat, ad i = some a ∧ ad (32 + i) = some v ∧ vk_R q.1 q.2.1 q.2.2.1 a U ∧ va_O "java/lang/String" a (xA b) U U.heap ∧ va_OF "java/lang/String" "coder" "B" (.int 0) a (xA b) U U.heap ∧ va_OF "java/lang/String" "value" "[B" (.ref v) a (xA b) U U.heap ∧ va_T .byte v q.2.2.2.length (fun j => .int (q.2.2.2.getD j 0)) (xA b) U U.heap) ∧
  (∀ (i : Nat) (q : String × String × List Int32), xsarr[i]? = some q → ∃ a : Nat, ad (64 + i) = some a ∧ va_Z q.1 q.2.1 "[I" (.ref a) (xA b) U U.heap ∧ va_T .int a q.2.2.length (fun j => .int (q.2.2.getD j 0)) (xA b) U U.heap) ∧
  (∀ (i : Nat) (q : String × String × String × Int32), xsint[i]? = some q → va_Z q.1 q.2.1 q.2.2.1 (.int q.2.2.2) (xA b) U U.heap) ∧
  (∀ (i : Nat) (q : String × String × String), xsref[i]? = some q → va_Z q.1 q.2.1 q.2.2 (va_rf (ad (96 + i))) (xA b) U U.heap) ∧
  (∀ w ∈ lw_nw, va_Nw w U) ∧ va_AO "TearPost$World" U ∧ va_AO "TearPost$Text" U ∧ xAOA U ∧ (∃ a : Nat, ad 128 = some a ∧ va_T .int a (xsL ad) (fun j => .int (xsV ad j)) (xA b) U U.heap)
theorem XSt.to {b : Nat} {ad : Nat → Option Nat} {s U : State} (h : XSt b ad s) (hW : s.WarmedH U.vm) (hq : ∀ a : Nat, a < s.heap.size → ¬ xA b a → U.heap[a]? = s.heap[a]?) : XSt b ad U := by
  obtain ⟨h1, h2, h3, h4, h5, h6, h7, h8, a9, h9, h10⟩ := h
  have hv := hW.alike
  refine ⟨fun i q hi => ?_, fun i q hi => ?_, fun i q hi => (va_Z.moved hv (h3 i q hi)).kept hq, fun i q hi => (va_Z.moved hv (h4 i q hi)).kept hq, fun w hw => xnw_warm hw hW (h5 w hw), va_AO.moved hv h6, va_AO.moved hv h7, xAOA.moved hv h8, a9, h9, (va_T.moved hv h10).kept hq⟩
  · obtain ⟨a, v, e1, e2, e3, e4, e5, e6, e7⟩ := h1 i q hi
    exact ⟨a, v, e1, e2, e3.warm hW, (va_O.moved hv e4).kept hq, (va_OF.moved hv e5).kept hq, (va_OF.moved hv e6).kept hq, (va_T.moved hv e7).kept hq⟩
  · obtain ⟨a, e1, e2, e3⟩ := h2 i q hi
    exact ⟨a, e1, (va_Z.moved hv e2).kept hq, (va_T.moved hv e3).kept hq⟩
theorem XSt.same {b : Nat} {ad : Nat → Option Nat} {s U : State} (h : XSt b ad s) (hv : U.vm = s.vm) (hh : U.heap = s.heap) : XSt b ad U := by
  obtain ⟨h1, h2, h3, h4, h5, h6, h7, h8, a9, h9, h10⟩ := h
  have ha : s.vm.Alike U.vm := by rw [hv]; exact Vm.Alike.refl _
  refine ⟨fun i q hi => ?_, fun i q hi => ?_, fun i q hi => by rw [hh]; exact va_Z.moved ha (h3 i q hi), fun i q hi => by rw [hh]; exact va_Z.moved ha (h4 i q hi), fun w hw => xnw_same hw hv (h5 w hw), va_AO.moved ha h6, va_AO.moved ha h7, xAOA.moved ha h8, a9, h9, by rw [hh]; exact va_T.moved ha h10⟩
  · obtain ⟨a, v, e1, e2, e3, e4, e5, e6, e7⟩ := h1 i q hi
    rw [hh]
    exact ⟨a, v, e1, e2, e3.same hv, va_O.moved ha e4, va_OF.moved ha e5, va_OF.moved ha e6, va_T.moved ha e7⟩
  · obtain ⟨a, e1, e2, e3⟩ := h2 i q hi
    rw [hh]
    exact ⟨a, e1, va_Z.moved ha e2, va_T.moved ha e3⟩
/-- what stands all through one method's run -/
def XCtx (b : Nat) (D : va_G) (dA : Nat → ClassId) (ad : Nat → Option Nat) (own : String) (cc : ByteArray) (nL : Nat) (ret : Option FieldType) (ini : Bool) (fr : Nat) (p : Program) (R : Room) (s : State) (m : MethodId) (args : Array Value) (meth : Method) (c : Code) : Prop :=
  p.tables.exec = Jvm.exec ∧ c.code = cc ∧ c.maxLocals = nL ∧ s.vm.findClass own = some m.cls ∧ (∀ w ∈ lw_gd, w.before args s = true) ∧ meth.sig.returnType = ret ∧ meth.locks = false ∧ (ini = true → meth.name = "<init>") ∧ va_K D classes (xtys dA) s ∧ XSt b ad s ∧ b ≤ s.heap.size ∧ fr ≤ R.frames ∧ 40 * fr ≤ R.locals
/-- a method's end: its answer, the cells behind it, nothing else changed -/
def XQ (b : Nat) (D : va_G) (dA : Nat → ClassId) (ad : Nat → Option Nat) (res : XR) : Array Value → State → Outcome → State → Prop := fun _ st o t => o = .returned (res.1.map (xtr b ad)) ∧ XRp b D dA res.2 t.heap ∧ va_F (xA b) st t
/-- cells and slots only grow -/
def XMo (K : XK) : Prop := ∀ (A : List (Option Value)) (st : List Value) (G : XH) (res : XR), K A st G = some res → hpZ G ≤ hpZ res.2 ∧ hpS G ≤ hpS res.2
/-- the machine at pc, with these locals, stack and cells, comes to the end that res tells -/
def XWn (l : Launch) (b : Nat) (D : va_G) (dA : Nat → ClassId) (ad : Nat → Option Nat) (own : String) (cc : ByteArray) (nL : Nat) (ret : Option FieldType) (ini : Bool) (fr : Nat) (pc : Nat) (A : List (Option Value)) (st : List Value) (G : XH) (res : XR) : Prop :=
  ∀ (p : Program) (e : Env) (R : Room) (s : State) (m : MethodId) (args : Array Value) (below : List Frame) (meth : Method) (c : Code), XCtx b D dA ad own cc nL ret ini fr p R s m args meth c →
    ∀ (H : Heap) (locs : List Loc) (cells slots mc ms : Nat) (ls : Array Slot), XRp b D dA G H → va_S (xA b) s.heap H locs → xLr b ad A ls nL → cells + (hpZ res.2 - hpZ G) = mc → slots + (hpS res.2 - hpS G) = ms → mc ≤ R.cells → ms ≤ R.slots →
      W p l e R s m args below meth c H locs cells slots (MQ below (XQ b D dA ad res) args s mc ms (xA b)) (F0 m pc ls (st.map (xtr b ad)))
def XGo (l : Launch) (b : Nat) (D : va_G) (dA : Nat → ClassId) (ad : Nat → Option Nat) (own : String) (cc : ByteArray) (nL : Nat) (ret : Option FieldType) (ini : Bool) (fr : Nat) (pc : Nat) (K : XK) : Prop :=
  XMo K ∧ ∀ (A : List (Option Value)) (st : List Value) (G : XH) (res : XR), K A st G = some res → XWn l b D dA ad own cc nL ret ini fr pc A st G res
section GO
variable {l : Launch} {b : Nat} {D : va_G} {dA : Nat → ClassId} {ad : Nat → Option Nat} {own : String} {cc : ByteArray} {nL : Nat} {ret : Option FieldType} {ini : Bool} {fr pc pc' : Nat} {K K' : XK}
/-- one instruction that leaves the cells alone -/
theorem go_pure (h : XGo l b D dA ad own cc nL ret ini fr pc' K)
    (hs : ∀ (A : List (Option Value)) (st : List Value) (G : XH) (res : XR), K' A st G = some res → ∃ (A' : List (Option Value)) (st' : List Value), K A' st' G = some res ∧
      ∀ (p : Program) (e : Env) (R : Room) (s : State) (m : MethodId) (args : Array Value) (below : List Frame) (meth : Method) (c : Code), XCtx b D dA ad own cc nL ret ini fr p R s m args meth c →
        ∀ (H : Heap) (locs : List Loc) (cells slots : Nat) (Q : State → Prop) (ls : Array Slot), XRp b D dA G H → va_S (xA b) s.heap H locs → xLr b ad A ls nL → (∀ ls' : Array Slot, xLr b ad A' ls' nL → W p l e R s m args below meth c H locs cells slots Q (F0 m pc' ls' (st'.map (xtr b ad)))) → W p l e R s m args below meth c H locs cells slots Q (F0 m pc ls (st.map (xtr b ad)))) :
    XGo l b D dA ad own cc nL ret ini fr pc K' := by
  refine ⟨fun A st G res hk => ?_, fun A st G res hk => ?_⟩
  · obtain ⟨A', st', h1, -⟩ := hs A st G res hk
    exact h.1 _ _ _ _ h1
  · obtain ⟨A', st', h1, h2⟩ := hs A st G res hk
    intro p e R s m args below meth c X H locs cells slots mc ms ls hP hS hl hmc hms h3 h4
    exact h2 p e R s m args below meth c X H locs cells slots _ ls hP hS hl fun ls' hl' => h.2 _ _ _ _ h1 p e R s m args below meth c X H locs cells slots mc ms ls' hP hS hl' hmc hms h3 h4
/-- one instruction that changes cells, makes none -/
theorem go_heap (h : XGo l b D dA ad own cc nL ret ini fr pc' K)
    (hs : ∀ (A : List (Option Value)) (st : List Value) (G : XH) (res : XR), K' A st G = some res → ∃ (st' : List Value) (G' : XH), K A st' G' = some res ∧ hpZ G' = hpZ G ∧ hpS G' = hpS G ∧ hpC G' = hpC G ∧
      ∀ (p : Program) (e : Env) (R : Room) (s : State) (m : MethodId) (args : Array Value) (below : List Frame) (meth : Method) (c : Code), XCtx b D dA ad own cc nL ret ini fr p R s m args meth c →
        ∀ (H : Heap) (locs : List Loc) (cells slots : Nat) (Q : State → Prop) (ls : Array Slot), XRp b D dA G H → va_S (xA b) s.heap H locs → xLr b ad A ls nL → (∀ (H' : Heap) (locs' : List Loc), va_P D classes (xws b dA G') H' → va_S (xA b) s.heap H' locs' → H'.size = H.size → W p l e R s m args below meth c H' locs' cells slots Q (F0 m pc' ls (st'.map (xtr b ad)))) → W p l e R s m args below meth c H locs cells slots Q (F0 m pc ls (st.map (xtr b ad)))) :
    XGo l b D dA ad own cc nL ret ini fr pc K' := by
  refine ⟨fun A st G res hk => ?_, fun A st G res hk => ?_⟩
  · obtain ⟨st', G', h1, e1, e2, -, -⟩ := hs A st G res hk
    have := h.1 _ _ _ _ h1
    omega
  · obtain ⟨st', G', h1, e1, e2, e3, h2⟩ := hs A st G res hk
    intro p e R s m args below meth c X H locs cells slots mc ms ls hP hS hl hmc hms h3 h4
    exact h2 p e R s m args below meth c X H locs cells slots _ ls hP hS hl fun H' locs' hP' hS' hz => h.2 _ _ _ _ h1 p e R s m args below meth c X H' locs' cells slots mc ms ls ⟨hP', by rw [hz, hP.2.1, e1], fun j hj => by rw [e3]; exact hP.2.2 j (by rw [← e1]; exact hj)⟩ hS' hl (by rw [e1]; exact hmc) (by rw [e2]; exact hms) h3 h4
theorem go_none : XGo l b D dA ad own cc nL ret ini fr pc (fun _ _ _ => none) := ⟨fun _ _ _ _ h => (by cases h), fun _ _ _ _ h => (by cases h)⟩
end GO
/-- a loop, at most n times around -/
def xloop (F : XK → XK) : Nat → XK
  | 0 => fun _ _ _ => none
  | n + 1 => F (xloop F n)
theorem go_loop {l : Launch} {b : Nat} {D : va_G} {dA : Nat → ClassId} {ad : Nat → Option Nat} {own : String} {cc : ByteArray} {nL : Nat} {ret : Option FieldType} {ini : Bool} {fr pc : Nat} {F : XK → XK} (h : ∀ K, XGo l b D dA ad own cc nL ret ini fr pc K → XGo l b D dA ad own cc nL ret ini fr pc (F K)) : ∀ n, XGo l b D dA ad own cc nL ret ini fr pc (xloop F n)
  | 0 => go_none
  | n + 1 => h _ (go_loop h n)
