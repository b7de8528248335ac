
/-! THE CLAIM OUT OF ONE WALK OF THE LAW'S BODY. Your part is whole_start (and what it stands on); all else here is the same for every law, but numbers. -/
def R_law : String := "TearPostLaw"
def lw_P (b : Addr) (xs : List Int32) (args : Array Value) (s : State) : Prop := args = #[.ref b] ∧ s.IntsAt b xs ∧ xs.length ≤ 3072 ∧ (Jvm.Cond.and given_1 narrow_1).before args s = true
def lw_Q (_ : Array Value) (s : State) (o : Outcome) (t : State) : Prop := o = .returned (some (.int 1)) ∧ Framed s o t [] 600000 7302249
def lw_Z (below : List Frame) (a : Array Value) (s : State) : State → Prop := fun t => ∃ o, t.status = .running ∧ Ended t below o ∧ lw_Q a s o t
/-- the law's own end, with 1 on the stack, nothing written that was there before, its room as the claim has it -/
theorem lw_ret {p : Program} {l : Launch} {e : Env} {s : State} {m : MethodId} {below : List Frame} {meth : Method} {c : Code} {b : Nat} (hx : p.tables.exec = Jvm.exec) (hb : c.code = code) (hr : meth.sig.returnType = ret) (hlocks : meth.locks = false) {pc : Nat} {H : Heap} {ls : Array Slot} (hdg : decode code pc = .ok (.ireturn, 1)) : W p l e room_1 s m #[Value.ref b] below meth c H [] 600000 7302249 (lw_Z below #[Value.ref b] s) (F0 m pc ls [.int 1]) := by
  intro T hT X
  obtain ⟨fs, hret, hrun, hended, hW, hframe⟩ := X.leave (v := some (.int 1)) (hlocks := hlocks) (fun h => by rw [hr] at h; cases h)
  have hmeth' : T.vm.method? m = some meth := X.method'
  refine ⟨T.setFrames fs, ?_, .returned (some (.int 1)), hrun, hended, rfl, ⟨_, rfl⟩, hW, hframe⟩
  jvm_step X.here [X.here.top, hx, hb, hdg, hmeth', hr, ret, narrow_b1]
  (try refine ⟨rfl, ?_⟩); (try refine ⟨rfl, ?_⟩)
  first | (intro acts; rw [hret _ acts rfl rfl rfl]) | rw [hret _ _ rfl rfl rfl]
  exact Steps.refl _
/-- what holds at the law's entry: the machine, the code, the tables' words (any of lw_tbl by 'hts w (by decide +kernel)'), the script of L ints xs at the cell b, what the Statement gives of the start (any of its parts by flat_of_before) -/
def lw_At (p : Program) (s : State) (m : MethodId) (meth : Method) (c : Code) (b L : Nat) (xs : Nat → Int32) : Prop :=
  p.tables.exec = Jvm.exec ∧ c.code = code ∧ meth.sig.returnType = ret ∧ c.maxLocals = 4 ∧ s.vm.findClass R_law = some m.cls ∧ (∀ w ∈ lw_tbl, w.before #[Value.ref b] s = true) ∧ va_X b L xs s s.heap ∧ b < s.heap.size ∧ meth.locks = false ∧ (Jvm.Cond.and given_1 narrow_1).before #[Value.ref b] s = true
/-! THE LAW'S START: what the Statement gives, as the judgement wants it -/
/-- the empty heap -/
def G0 : XH := (fun _ => 99, fun _ => 0, fun _ _ => 0, fun _ _ => 0, fun _ _ => none, 0, 0)
/-- ad, out of its rows -/
def xad (str val : Nat → Nat) (arr : Nat → Nat) (ref : Nat → Option Nat) (scr L : Nat) (xs : Nat → Int32) : Nat → Option Nat := fun k =>
  if k < 32 then some (str k) else if k < 64 then some (val (k - 32)) else if k < 96 then some (arr (k - 64)) else if k < 128 then ref (k - 96) else if k = 128 then some scr else if k = 1000 then some L else some (xs (k - 1001)).toUInt32.toNat
theorem xad_V (str val arr : Nat → Nat) (ref : Nat → Option Nat) (scr L : Nat) (xs : Nat → Int32) (j : Nat) : xsV (xad str val arr ref scr L xs) j = xs j := by
  unfold xsV xad
  rw [if_neg (by omega), if_neg (by omega), if_neg (by omega), if_neg (by omega), if_neg (by omega), if_neg (by omega)]
  rw [show 1001 + j - 1001 = j by omega]
  show Int32.ofNat (xs j).toUInt32.toNat = xs j
  apply Int32.toBitVec_inj.mp
  simp [Int32.ofNat]
theorem xad_L (str val arr : Nat → Nat) (ref : Nat → Option Nat) (scr L : Nat) (xs : Nat → Int32) : xsL (xad str val arr ref scr L xs) = L := by
  unfold xsL xad
  simp
abbrev xfl : List Cond := flatC (Jvm.Cond.and given_1 narrow_1)
def xstc (q : String × Nat × String × List Int32) : Prop := Cond.exactly (.string q.1 q.2.1) "java/lang/String" ∈ xfl ∧ Cond.eq (.field (.string q.1 q.2.1) "java/lang/String" "coder" "B") (.int 0) ∈ xfl ∧ Cond.arrayOf (.field (.string q.1 q.2.1) "java/lang/String" "value" "[B") .byte ∈ xfl ∧ Cond.eq (.length (.field (.string q.1 q.2.1) "java/lang/String" "value" "[B")) (.int (Int32.ofNat q.2.2.2.length)) ∈ xfl ∧ (∀ j, j < q.2.2.2.length → Cond.eq (.elem (.field (.string q.1 q.2.1) "java/lang/String" "value" "[B") (.int (Int32.ofNat j))) (.int (q.2.2.2.getD j 0)) ∈ xfl) ∧ Cond.stringRef q.1 q.2.1 q.2.2.1 ∈ lw_tbl ∧ q.2.2.2.length < 2 ^ 31
theorem xst_str_0 : xstc (("TearPost$Grammar", 88, "weeps", [119, 101, 101, 112, 115])) := ⟨List.mem_of_getElem? (i := 64) (by decide +kernel), List.mem_of_getElem? (i := 65) (by decide +kernel), List.mem_of_getElem? (i := 66) (by decide +kernel), List.mem_of_getElem? (i := 67) (by decide +kernel), fun j hj => match j, hj with | 0, _ => List.mem_of_getElem? (i := 68) (by decide +kernel) | 1, _ => List.mem_of_getElem? (i := 69) (by decide +kernel) | 2, _ => List.mem_of_getElem? (i := 70) (by decide +kernel) | 3, _ => List.mem_of_getElem? (i := 71) (by decide +kernel) | 4, _ => List.mem_of_getElem? (i := 72) (by decide +kernel) | (n + 5), hj => absurd hj (by simp), List.mem_of_getElem? (i := 576) (by decide +kernel), by decide⟩
theorem xst_str_1 : xstc (("TearPost$Grammar", 90, "tires", [116, 105, 114, 101, 115])) := ⟨List.mem_of_getElem? (i := 73) (by decide +kernel), List.mem_of_getElem? (i := 74) (by decide +kernel), List.mem_of_getElem? (i := 75) (by decide +kernel), List.mem_of_getElem? (i := 76) (by decide +kernel), fun j hj => match j, hj with | 0, _ => List.mem_of_getElem? (i := 77) (by decide +kernel) | 1, _ => List.mem_of_getElem? (i := 78) (by decide +kernel) | 2, _ => List.mem_of_getElem? (i := 79) (by decide +kernel) | 3, _ => List.mem_of_getElem? (i := 80) (by decide +kernel) | 4, _ => List.mem_of_getElem? (i := 81) (by decide +kernel) | (n + 5), hj => absurd hj (by simp), List.mem_of_getElem? (i := 629) (by decide +kernel), by decide⟩
theorem xst_str_2 : xstc (("TearPost$Grammar", 92, "rests", [114, 101, 115, 116, 115])) := ⟨List.mem_of_getElem? (i := 82) (by decide +kernel), List.mem_of_getElem? (i := 83) (by decide +kernel), List.mem_of_getElem? (i := 84) (by decide +kernel), List.mem_of_getElem? (i := 85) (by decide +kernel), fun j hj => match j, hj with | 0, _ => List.mem_of_getElem? (i := 86) (by decide +kernel) | 1, _ => List.mem_of_getElem? (i := 87) (by decide +kernel) | 2, _ => List.mem_of_getElem? (i := 88) (by decide +kernel) | 3, _ => List.mem_of_getElem? (i := 89) (by decide +kernel) | 4, _ => List.mem_of_getElem? (i := 90) (by decide +kernel) | (n + 5), hj => absurd hj (by simp), List.mem_of_getElem? (i := 630) (by decide +kernel), by decide⟩
theorem xst_str_3 : xstc (("TearPost$Grammar", 94, "laughs", [108, 97, 117, 103, 104, 115])) := ⟨List.mem_of_getElem? (i := 91) (by decide +kernel), List.mem_of_getElem? (i := 92) (by decide +kernel), List.mem_of_getElem? (i := 93) (by decide +kernel), List.mem_of_getElem? (i := 94) (by decide +kernel), fun j hj => match j, hj with | 0, _ => List.mem_of_getElem? (i := 95) (by decide +kernel) | 1, _ => List.mem_of_getElem? (i := 96) (by decide +kernel) | 2, _ => List.mem_of_getElem? (i := 97) (by decide +kernel) | 3, _ => List.mem_of_getElem? (i := 98) (by decide +kernel) | 4, _ => List.mem_of_getElem? (i := 99) (by decide +kernel) | 5, _ => List.mem_of_getElem? (i := 100) (by decide +kernel) | (n + 6), hj => absurd hj (by simp), List.mem_of_getElem? (i := 631) (by decide +kernel), by decide⟩
theorem xst_str_4 : xstc (("TearPost$Grammar", 96, "bars", [98, 97, 114, 115])) := ⟨List.mem_of_getElem? (i := 101) (by decide +kernel), List.mem_of_getElem? (i := 102) (by decide +kernel), List.mem_of_getElem? (i := 103) (by decide +kernel), List.mem_of_getElem? (i := 104) (by decide +kernel), fun j hj => match j, hj with | 0, _ => List.mem_of_getElem? (i := 105) (by decide +kernel) | 1, _ => List.mem_of_getElem? (i := 106) (by decide +kernel) | 2, _ => List.mem_of_getElem? (i := 107) (by decide +kernel) | 3, _ => List.mem_of_getElem? (i := 108) (by decide +kernel) | (n + 4), hj => absurd hj (by simp), List.mem_of_getElem? (i := 632) (by decide +kernel), by decide⟩
theorem xst_str_5 : xstc (("TearPost$Grammar", 149, "reader", [114, 101, 97, 100, 101, 114])) := ⟨List.mem_of_getElem? (i := 109) (by decide +kernel), List.mem_of_getElem? (i := 110) (by decide +kernel), List.mem_of_getElem? (i := 111) (by decide +kernel), List.mem_of_getElem? (i := 112) (by decide +kernel), fun j hj => match j, hj with | 0, _ => List.mem_of_getElem? (i := 113) (by decide +kernel) | 1, _ => List.mem_of_getElem? (i := 114) (by decide +kernel) | 2, _ => List.mem_of_getElem? (i := 115) (by decide +kernel) | 3, _ => List.mem_of_getElem? (i := 116) (by decide +kernel) | 4, _ => List.mem_of_getElem? (i := 117) (by decide +kernel) | 5, _ => List.mem_of_getElem? (i := 118) (by decide +kernel) | (n + 6), hj => absurd hj (by simp), List.mem_of_getElem? (i := 665) (by decide +kernel), by decide⟩
theorem xst_str_6 : xstc (("TearPost$Grammar", 153, "soft", [115, 111, 102, 116])) := ⟨List.mem_of_getElem? (i := 119) (by decide +kernel), List.mem_of_getElem? (i := 120) (by decide +kernel), List.mem_of_getElem? (i := 121) (by decide +kernel), List.mem_of_getElem? (i := 122) (by decide +kernel), fun j hj => match j, hj with | 0, _ => List.mem_of_getElem? (i := 123) (by decide +kernel) | 1, _ => List.mem_of_getElem? (i := 124) (by decide +kernel) | 2, _ => List.mem_of_getElem? (i := 125) (by decide +kernel) | 3, _ => List.mem_of_getElem? (i := 126) (by decide +kernel) | (n + 4), hj => absurd hj (by simp), List.mem_of_getElem? (i := 666) (by decide +kernel), by decide⟩
theorem xst_str_7 : xstc (("TearPost$Grammar", 155, "tired", [116, 105, 114, 101, 100])) := ⟨List.mem_of_getElem? (i := 127) (by decide +kernel), List.mem_of_getElem? (i := 128) (by decide +kernel), List.mem_of_getElem? (i := 129) (by decide +kernel), List.mem_of_getElem? (i := 130) (by decide +kernel), fun j hj => match j, hj with | 0, _ => List.mem_of_getElem? (i := 131) (by decide +kernel) | 1, _ => List.mem_of_getElem? (i := 132) (by decide +kernel) | 2, _ => List.mem_of_getElem? (i := 133) (by decide +kernel) | 3, _ => List.mem_of_getElem? (i := 134) (by decide +kernel) | 4, _ => List.mem_of_getElem? (i := 135) (by decide +kernel) | (n + 5), hj => absurd hj (by simp), List.mem_of_getElem? (i := 667) (by decide +kernel), by decide⟩
theorem xst_str_8 : xstc (("TearPost$Grammar", 157, "had", [104, 97, 100])) := ⟨List.mem_of_getElem? (i := 136) (by decide +kernel), List.mem_of_getElem? (i := 137) (by decide +kernel), List.mem_of_getElem? (i := 138) (by decide +kernel), List.mem_of_getElem? (i := 139) (by decide +kernel), fun j hj => match j, hj with | 0, _ => List.mem_of_getElem? (i := 140) (by decide +kernel) | 1, _ => List.mem_of_getElem? (i := 141) (by decide +kernel) | 2, _ => List.mem_of_getElem? (i := 142) (by decide +kernel) | (n + 3), hj => absurd hj (by simp), List.mem_of_getElem? (i := 668) (by decide +kernel), by decide⟩
theorem xst_str_9 : xstc (("TearPost$Grammar", 159, "grief", [103, 114, 105, 101, 102])) := ⟨List.mem_of_getElem? (i := 143) (by decide +kernel), List.mem_of_getElem? (i := 144) (by decide +kernel), List.mem_of_getElem? (i := 145) (by decide +kernel), List.mem_of_getElem? (i := 146) (by decide +kernel), fun j hj => match j, hj with | 0, _ => List.mem_of_getElem? (i := 147) (by decide +kernel) | 1, _ => List.mem_of_getElem? (i := 148) (by decide +kernel) | 2, _ => List.mem_of_getElem? (i := 149) (by decide +kernel) | 3, _ => List.mem_of_getElem? (i := 150) (by decide +kernel) | 4, _ => List.mem_of_getElem? (i := 151) (by decide +kernel) | (n + 5), hj => absurd hj (by simp), List.mem_of_getElem? (i := 669) (by decide +kernel), by decide⟩
theorem xst_str_10 : xstc (("TearPost$Grammar", 161, "joke", [106, 111, 107, 101])) := ⟨List.mem_of_getElem? (i := 152) (by decide +kernel), List.mem_of_getElem? (i := 153) (by decide +kernel), List.mem_of_getElem? (i := 154) (by decide +kernel), List.mem_of_getElem? (i := 155) (by decide +kernel), fun j hj => match j, hj with | 0, _ => List.mem_of_getElem? (i := 156) (by decide +kernel) | 1, _ => List.mem_of_getElem? (i := 157) (by decide +kernel) | 2, _ => List.mem_of_getElem? (i := 158) (by decide +kernel) | 3, _ => List.mem_of_getElem? (i := 159) (by decide +kernel) | (n + 4), hj => absurd hj (by simp), List.mem_of_getElem? (i := 670) (by decide +kernel), by decide⟩
theorem xst_str_11 : xstc (("TearPost$Grammar", 163, "weight", [119, 101, 105, 103, 104, 116])) := ⟨List.mem_of_getElem? (i := 160) (by decide +kernel), List.mem_of_getElem? (i := 161) (by decide +kernel), List.mem_of_getElem? (i := 162) (by decide +kernel), List.mem_of_getElem? (i := 163) (by decide +kernel), fun j hj => match j, hj with | 0, _ => List.mem_of_getElem? (i := 164) (by decide +kernel) | 1, _ => List.mem_of_getElem? (i := 165) (by decide +kernel) | 2, _ => List.mem_of_getElem? (i := 166) (by decide +kernel) | 3, _ => List.mem_of_getElem? (i := 167) (by decide +kernel) | 4, _ => List.mem_of_getElem? (i := 168) (by decide +kernel) | 5, _ => List.mem_of_getElem? (i := 169) (by decide +kernel) | (n + 6), hj => absurd hj (by simp), List.mem_of_getElem? (i := 671) (by decide +kernel), by decide⟩
theorem xst_str_12 : xstc (("TearPost$Grammar", 102, "with", [119, 105, 116, 104])) := ⟨List.mem_of_getElem? (i := 170) (by decide +kernel), List.mem_of_getElem? (i := 171) (by decide +kernel), List.mem_of_getElem? (i := 172) (by decide +kernel), List.mem_of_getElem? (i := 173) (by decide +kernel), fun j hj => match j, hj with | 0, _ => List.mem_of_getElem? (i := 174) (by decide +kernel) | 1, _ => List.mem_of_getElem? (i := 175) (by decide +kernel) | 2, _ => List.mem_of_getElem? (i := 176) (by decide +kernel) | 3, _ => List.mem_of_getElem? (i := 177) (by decide +kernel) | (n + 4), hj => absurd hj (by simp), List.mem_of_getElem? (i := 672) (by decide +kernel), by decide⟩
theorem xst_str_13 : xstc (("TearPost$Grammar", 165, "day", [100, 97, 121])) := ⟨List.mem_of_getElem? (i := 178) (by decide +kernel), List.mem_of_getElem? (i := 179) (by decide +kernel), List.mem_of_getElem? (i := 180) (by decide +kernel), List.mem_of_getElem? (i := 181) (by decide +kernel), fun j hj => match j, hj with | 0, _ => List.mem_of_getElem? (i := 182) (by decide +kernel) | 1, _ => List.mem_of_getElem? (i := 183) (by decide +kernel) | 2, _ => List.mem_of_getElem? (i := 184) (by decide +kernel) | (n + 3), hj => absurd hj (by simp), List.mem_of_getElem? (i := 673) (by decide +kernel), by decide⟩
theorem xst_str_14 : xstc (("TearPost$Grammar", 167, "mood", [109, 111, 111, 100])) := ⟨List.mem_of_getElem? (i := 185) (by decide +kernel), List.mem_of_getElem? (i := 186) (by decide +kernel), List.mem_of_getElem? (i := 187) (by decide +kernel), List.mem_of_getElem? (i := 188) (by decide +kernel), fun j hj => match j, hj with | 0, _ => List.mem_of_getElem? (i := 189) (by decide +kernel) | 1, _ => List.mem_of_getElem? (i := 190) (by decide +kernel) | 2, _ => List.mem_of_getElem? (i := 191) (by decide +kernel) | 3, _ => List.mem_of_getElem? (i := 192) (by decide +kernel) | (n + 4), hj => absurd hj (by simp), List.mem_of_getElem? (i := 674) (by decide +kernel), by decide⟩
theorem xst_str_15 : xstc (("TearPost$Grammar", 169, "letters", [108, 101, 116, 116, 101, 114, 115])) := ⟨List.mem_of_getElem? (i := 193) (by decide +kernel), List.mem_of_getElem? (i := 194) (by decide +kernel), List.mem_of_getElem? (i := 195) (by decide +kernel), List.mem_of_getElem? (i := 196) (by decide +kernel), fun j hj => match j, hj with | 0, _ => List.mem_of_getElem? (i := 197) (by decide +kernel) | 1, _ => List.mem_of_getElem? (i := 198) (by decide +kernel) | 2, _ => List.mem_of_getElem? (i := 199) (by decide +kernel) | 3, _ => List.mem_of_getElem? (i := 200) (by decide +kernel) | 4, _ => List.mem_of_getElem? (i := 201) (by decide +kernel) | 5, _ => List.mem_of_getElem? (i := 202) (by decide +kernel) | 6, _ => List.mem_of_getElem? (i := 203) (by decide +kernel) | (n + 7), hj => absurd hj (by simp), List.mem_of_getElem? (i := 679) (by decide +kernel), by decide⟩
theorem xst_str_16 : xstc (("TearPost$Grammar", 171, "office", [111, 102, 102, 105, 99, 101])) := ⟨List.mem_of_getElem? (i := 204) (by decide +kernel), List.mem_of_getElem? (i := 205) (by decide +kernel), List.mem_of_getElem? (i := 206) (by decide +kernel), List.mem_of_getElem? (i := 207) (by decide +kernel), fun j hj => match j, hj with | 0, _ => List.mem_of_getElem? (i := 208) (by decide +kernel) | 1, _ => List.mem_of_getElem? (i := 209) (by decide +kernel) | 2, _ => List.mem_of_getElem? (i := 210) (by decide +kernel) | 3, _ => List.mem_of_getElem? (i := 211) (by decide +kernel) | 4, _ => List.mem_of_getElem? (i := 212) (by decide +kernel) | 5, _ => List.mem_of_getElem? (i := 213) (by decide +kernel) | (n + 6), hj => absurd hj (by simp), List.mem_of_getElem? (i := 680) (by decide +kernel), by decide⟩
theorem xst_str_17 : xstc (("TearPost$Grammar", 173, "done", [100, 111, 110, 101])) := ⟨List.mem_of_getElem? (i := 214) (by decide +kernel), List.mem_of_getElem? (i := 215) (by decide +kernel), List.mem_of_getElem? (i := 216) (by decide +kernel), List.mem_of_getElem? (i := 217) (by decide +kernel), fun j hj => match j, hj with | 0, _ => List.mem_of_getElem? (i := 218) (by decide +kernel) | 1, _ => List.mem_of_getElem? (i := 219) (by decide +kernel) | 2, _ => List.mem_of_getElem? (i := 220) (by decide +kernel) | 3, _ => List.mem_of_getElem? (i := 221) (by decide +kernel) | (n + 4), hj => absurd hj (by simp), List.mem_of_getElem? (i := 681) (by decide +kernel), by decide⟩
theorem xst_str_18 : xstc (("TearPost$Grammar", 175, "paid", [112, 97, 105, 100])) := ⟨List.mem_of_getElem? (i := 222) (by decide +kernel), List.mem_of_getElem? (i := 223) (by decide +kernel), List.mem_of_getElem? (i := 224) (by decide +kernel), List.mem_of_getElem? (i := 225) (by decide +kernel), fun j hj => match j, hj with | 0, _ => List.mem_of_getElem? (i := 226) (by decide +kernel) | 1, _ => List.mem_of_getElem? (i := 227) (by decide +kernel) | 2, _ => List.mem_of_getElem? (i := 228) (by decide +kernel) | 3, _ => List.mem_of_getElem? (i := 229) (by decide +kernel) | (n + 4), hj => absurd hj (by simp), List.mem_of_getElem? (i := 682) (by decide +kernel), by decide⟩
theorem xst_str_19 : xstc (("TearPost$Grammar", 177, "owed", [111, 119, 101, 100])) := ⟨List.mem_of_getElem? (i := 230) (by decide +kernel), List.mem_of_getElem? (i := 231) (by decide +kernel), List.mem_of_getElem? (i := 232) (by decide +kernel), List.mem_of_getElem? (i := 233) (by decide +kernel), fun j hj => match j, hj with | 0, _ => List.mem_of_getElem? (i := 234) (by decide +kernel) | 1, _ => List.mem_of_getElem? (i := 235) (by decide +kernel) | 2, _ => List.mem_of_getElem? (i := 236) (by decide +kernel) | 3, _ => List.mem_of_getElem? (i := 237) (by decide +kernel) | (n + 4), hj => absurd hj (by simp), List.mem_of_getElem? (i := 683) (by decide +kernel), by decide⟩
theorem xst_str_20 : xstc (("TearPost$Grammar", 98, "hand", [104, 97, 110, 100])) := ⟨List.mem_of_getElem? (i := 238) (by decide +kernel), List.mem_of_getElem? (i := 239) (by decide +kernel), List.mem_of_getElem? (i := 240) (by decide +kernel), List.mem_of_getElem? (i := 241) (by decide +kernel), fun j hj => match j, hj with | 0, _ => List.mem_of_getElem? (i := 242) (by decide +kernel) | 1, _ => List.mem_of_getElem? (i := 243) (by decide +kernel) | 2, _ => List.mem_of_getElem? (i := 244) (by decide +kernel) | 3, _ => List.mem_of_getElem? (i := 245) (by decide +kernel) | (n + 4), hj => absurd hj (by simp), List.mem_of_getElem? (i := 692) (by decide +kernel), by decide⟩
theorem xst_str_21 : xstc (("TearPost$Grammar", 100, "pass", [112, 97, 115, 115])) := ⟨List.mem_of_getElem? (i := 246) (by decide +kernel), List.mem_of_getElem? (i := 247) (by decide +kernel), List.mem_of_getElem? (i := 248) (by decide +kernel), List.mem_of_getElem? (i := 249) (by decide +kernel), fun j hj => match j, hj with | 0, _ => List.mem_of_getElem? (i := 250) (by decide +kernel) | 1, _ => List.mem_of_getElem? (i := 251) (by decide +kernel) | 2, _ => List.mem_of_getElem? (i := 252) (by decide +kernel) | 3, _ => List.mem_of_getElem? (i := 253) (by decide +kernel) | (n + 4), hj => absurd hj (by simp), List.mem_of_getElem? (i := 693) (by decide +kernel), by decide⟩
theorem xst_str_22 : xstc (("TearPost$Grammar", 104, "times", [116, 105, 109, 101, 115])) := ⟨List.mem_of_getElem? (i := 254) (by decide +kernel), List.mem_of_getElem? (i := 255) (by decide +kernel), List.mem_of_getElem? (i := 256) (by decide +kernel), List.mem_of_getElem? (i := 257) (by decide +kernel), fun j hj => match j, hj with | 0, _ => List.mem_of_getElem? (i := 258) (by decide +kernel) | 1, _ => List.mem_of_getElem? (i := 259) (by decide +kernel) | 2, _ => List.mem_of_getElem? (i := 260) (by decide +kernel) | 3, _ => List.mem_of_getElem? (i := 261) (by decide +kernel) | 4, _ => List.mem_of_getElem? (i := 262) (by decide +kernel) | (n + 5), hj => absurd hj (by simp), List.mem_of_getElem? (i := 694) (by decide +kernel), by decide⟩
theorem xst_str_23 : xstc (("TearPost$Grammar", 64, "if", [105, 102])) := ⟨List.mem_of_getElem? (i := 263) (by decide +kernel), List.mem_of_getElem? (i := 264) (by decide +kernel), List.mem_of_getElem? (i := 265) (by decide +kernel), List.mem_of_getElem? (i := 266) (by decide +kernel), fun j hj => match j, hj with | 0, _ => List.mem_of_getElem? (i := 267) (by decide +kernel) | 1, _ => List.mem_of_getElem? (i := 268) (by decide +kernel) | (n + 2), hj => absurd hj (by simp), List.mem_of_getElem? (i := 695) (by decide +kernel), by decide⟩
theorem xst_str_24 : xstc (("TearPost$Grammar", 129, "not", [110, 111, 116])) := ⟨List.mem_of_getElem? (i := 269) (by decide +kernel), List.mem_of_getElem? (i := 270) (by decide +kernel), List.mem_of_getElem? (i := 271) (by decide +kernel), List.mem_of_getElem? (i := 272) (by decide +kernel), fun j hj => match j, hj with | 0, _ => List.mem_of_getElem? (i := 273) (by decide +kernel) | 1, _ => List.mem_of_getElem? (i := 274) (by decide +kernel) | 2, _ => List.mem_of_getElem? (i := 275) (by decide +kernel) | (n + 3), hj => absurd hj (by simp), List.mem_of_getElem? (i := 708) (by decide +kernel), by decide⟩
theorem xst_str_25 : xstc (("TearPost$Grammar", 127, "and", [97, 110, 100])) := ⟨List.mem_of_getElem? (i := 276) (by decide +kernel), List.mem_of_getElem? (i := 277) (by decide +kernel), List.mem_of_getElem? (i := 278) (by decide +kernel), List.mem_of_getElem? (i := 279) (by decide +kernel), fun j hj => match j, hj with | 0, _ => List.mem_of_getElem? (i := 280) (by decide +kernel) | 1, _ => List.mem_of_getElem? (i := 281) (by decide +kernel) | 2, _ => List.mem_of_getElem? (i := 282) (by decide +kernel) | (n + 3), hj => absurd hj (by simp), List.mem_of_getElem? (i := 713) (by decide +kernel), by decide⟩
theorem xst_str_26 : xstc (("TearPost$Grammar", 112, "or", [111, 114])) := ⟨List.mem_of_getElem? (i := 283) (by decide +kernel), List.mem_of_getElem? (i := 284) (by decide +kernel), List.mem_of_getElem? (i := 285) (by decide +kernel), List.mem_of_getElem? (i := 286) (by decide +kernel), fun j hj => match j, hj with | 0, _ => List.mem_of_getElem? (i := 287) (by decide +kernel) | 1, _ => List.mem_of_getElem? (i := 288) (by decide +kernel) | (n + 2), hj => absurd hj (by simp), List.mem_of_getElem? (i := 718) (by decide +kernel), by decide⟩
theorem xst_str : ∀ (i : Nat) (q : String × Nat × String × List Int32), xstrs[i]? = some q → xstc q := fun i q h => match i, h with
  | 0, h => by cases h; exact xst_str_0
  | 1, h => by cases h; exact xst_str_1
  | 2, h => by cases h; exact xst_str_2
  | 3, h => by cases h; exact xst_str_3
  | 4, h => by cases h; exact xst_str_4
  | 5, h => by cases h; exact xst_str_5
  | 6, h => by cases h; exact xst_str_6
  | 7, h => by cases h; exact xst_str_7
  | 8, h => by cases h; exact xst_str_8
  | 9, h => by cases h; exact xst_str_9
  | 10, h => by cases h; exact xst_str_10
  | 11, h => by cases h; exact xst_str_11
  | 12, h => by cases h; exact xst_str_12
  | 13, h => by cases h; exact xst_str_13
  | 14, h => by cases h; exact xst_str_14
  | 15, h => by cases h; exact xst_str_15
  | 16, h => by cases h; exact xst_str_16
  | 17, h => by cases h; exact xst_str_17
  | 18, h => by cases h; exact xst_str_18
  | 19, h => by cases h; exact xst_str_19
  | 20, h => by cases h; exact xst_str_20
  | 21, h => by cases h; exact xst_str_21
  | 22, h => by cases h; exact xst_str_22
  | 23, h => by cases h; exact xst_str_23
  | 24, h => by cases h; exact xst_str_24
  | 25, h => by cases h; exact xst_str_25
  | 26, h => by cases h; exact xst_str_26
  | (n + 27), h => by cases h
theorem xst_arr : ∀ q ∈ xsarr, Cond.arrayOf (.static q.1 q.2.1 "[I") .int ∈ xfl ∧ Cond.eq (.length (.static q.1 q.2.1 "[I")) (.int (Int32.ofNat q.2.2.length)) ∈ xfl ∧ (∀ j, j < q.2.2.length → Cond.eq (.elem (.static q.1 q.2.1 "[I") (.int (Int32.ofNat j))) (.int (q.2.2.getD j 0)) ∈ xfl) ∧ Cond.laysStatic q.1 q.2.1 "[I" ∈ lw_tbl ∧ Cond.initialized q.1 ∈ lw_tbl ∧ q.2.2.length < 2 ^ 31 := by decide +kernel
theorem xst_int : ∀ q ∈ xsint, Cond.eq (.static q.1 q.2.1 q.2.2.1) (.int q.2.2.2) ∈ xfl ∧ Cond.laysStatic q.1 q.2.1 q.2.2.1 ∈ lw_tbl ∧ Cond.initialized q.1 ∈ lw_tbl := by decide +kernel
theorem xst_ref : ∀ q ∈ xsref, Cond.isRef (.static q.1 q.2.1 q.2.2) ∈ xfl ∧ Cond.laysStatic q.1 q.2.1 q.2.2 ∈ lw_tbl ∧ Cond.initialized q.1 ∈ lw_tbl := by decide +kernel
theorem xst_nw : ∀ w ∈ lw_nw, w ∈ lw_tbl ∧ w.onTables = true := by decide +kernel
theorem xst_ao : Cond.arrayOver (.object "TearPost$World") ∈ lw_tbl ∧ Cond.arrayOver (.object "TearPost$Text") ∈ lw_tbl ∧ Cond.arrayOver (.array .int) ∈ lw_tbl ∧ Cond.arrayClass .int ∈ lw_tbl ∧ Cond.arrayClass .boolean ∈ lw_tbl ∧ Cond.arrayClass .long ∈ lw_tbl := by decide +kernel
section ST
variable {s : State} {b0 L : Nat} {xs : Nat → Int32}
theorem xst_all (hts : ∀ w ∈ lw_tbl, w.before #[Value.ref b0] s = true) (hgv : (Jvm.Cond.and given_1 narrow_1).before #[Value.ref b0] s = true) (hX : va_X b0 L xs s s.heap) (hb : b0 < s.heap.size) : ∃ ad : Nat → Option Nat, XSt s.heap.size ad s ∧ xsL ad = L ∧ (∀ j, xsV ad j = xs j) ∧ ad 128 = some b0 := by
  have hf := flat_of_before _ hgv
  have hA : ∀ a : Nat, a < s.heap.size → ¬ xA s.heap.size a := fun a h => Nat.not_le.mpr h
  -- the texts
  have h1 : ∀ i : Nat, ∃ a v : Nat, ∀ q, xstrs[i]? = some q → vk_R q.1 q.2.1 q.2.2.1 a s ∧ va_O "java/lang/String" a (xA s.heap.size) s s.heap ∧ va_OF "java/lang/String" "coder" "B" (.int 0) a (xA s.heap.size) s s.heap ∧ va_OF "java/lang/String" "value" "[B" (.ref v) a (xA s.heap.size) s s.heap ∧ va_T .byte v q.2.2.2.length (fun j => .int (q.2.2.2.getD j 0)) (xA s.heap.size) s s.heap := by
    intro i
    cases hi : xstrs[i]? with
    | none => exact ⟨0, 0, fun q h => by cases h⟩
    | some q =>
      obtain ⟨e1, e2, e3, e4, e5, e6, e7⟩ := xst_str i q hi
      obtain ⟨adK, adV, g1, g2⟩ := vk_Sof (args := #[Value.ref b0]) (s := s) (N := 1) (tm := fun _ => .string q.1 q.2.1) (len := [q.2.2.2.length]) (byt := [q.2.2.2]) (A := xA s.heap.size)
        (fun i hi => by rw [show i = 0 by omega]; exact e7) (fun i hi => hf _ e1) (fun i hi => hf _ e2) (fun i hi => hf _ e3) (fun i hi => by rw [show i = 0 by omega]; exact hf _ e4)
        (fun i hi j hj => by rw [show i = 0 by omega] at hj ⊢; exact hf _ (e5 j hj)) (fun i j hi hj hij => absurd (show i = j by omega) hij) hA
      obtain ⟨k1, k2, k3, k4⟩ := g1.1 0 (by decide)
      refine ⟨adK 0, adV 0, fun q' h => ?_⟩
      cases h
      exact ⟨vk_R.of (hts _ e6) (g2 0 (by decide)), k1, k2, k3, k4⟩
  have h2 : ∀ i : Nat, ∃ a : Nat, ∀ q, xsarr[i]? = some q → va_Z q.1 q.2.1 "[I" (.ref a) (xA s.heap.size) s s.heap ∧ va_T .int a q.2.2.length (fun j => .int (q.2.2.getD j 0)) (xA s.heap.size) s s.heap := by
    intro i
    cases hi : xsarr[i]? with
    | none => exact ⟨0, fun q h => by cases h⟩
    | some q =>
      obtain ⟨e1, e2, e3, e4, e5, e6⟩ := xst_arr q (List.mem_of_getElem? hi)
      obtain ⟨t, g1, g2⟩ := va_Tof (args := #[Value.ref b0]) (s := s) (tm := .static q.1 q.2.1 "[I") (ty := .int) (f := fun j => .int (q.2.2.getD j 0)) (A := xA s.heap.size) e6 (hf _ e1) (va_eqt (hf _ e2)) (fun j hj => va_eqt (hf _ (e3 j hj))) hA
      refine ⟨t, fun q' h => ?_⟩
      cases h
      exact ⟨va_Zof (hts _ e4) (hts _ e5) g1 hA, g2⟩
  have h4 : ∀ i : Nat, ∃ o : Option Nat, ∀ q, xsref[i]? = some q → va_Z q.1 q.2.1 q.2.2 (va_rf o) (xA s.heap.size) s s.heap := by
    intro i
    cases hi : xsref[i]? with
    | none => exact ⟨none, fun q h => by cases h⟩
    | some q =>
      obtain ⟨e1, e2, e3⟩ := xst_ref q (List.mem_of_getElem? hi)
      rcases va_Zqof (A := xA s.heap.size) (hts _ e2) (hts _ e3) (hf _ e1) hA with g | ⟨t, g⟩
      · exact ⟨none, fun q' h => by cases h; exact g⟩
      · exact ⟨some t, fun q' h => by cases h; exact g⟩
  let str : Nat → Nat := fun i => Classical.choose (h1 i)
  let val : Nat → Nat := fun i => Classical.choose (Classical.choose_spec (h1 i))
  let arr : Nat → Nat := fun i => Classical.choose (h2 i)
  let ref : Nat → Option Nat := fun i => Classical.choose (h4 i)
  refine ⟨xad str val arr ref b0 L xs, ⟨fun i q hi => ?_, fun i q hi => ?_, fun i q hi => ?_, fun i q hi => ?_, fun w hw => va_Nw.of (xst_nw w hw).2 (hts w (xst_nw w hw).1), va_AO.of (hts _ xst_ao.1), va_AO.of (hts _ xst_ao.2.1), ?_, b0, ?_, ?_⟩, xad_L _ _ _ _ _ _ _, fun j => xad_V _ _ _ _ _ _ _ j, ?_⟩
  · have hlt : i < 32 := Nat.lt_of_lt_of_le (List.getElem?_eq_some_iff.mp hi).1 (by decide)
    refine ⟨str i, val i, ?_, ?_, Classical.choose_spec (Classical.choose_spec (h1 i)) q hi⟩
    · simp [xad, hlt]
    · unfold xad
      rw [if_neg (by omega), if_pos (by omega), show 32 + i - 32 = i by omega]
  · have hlt : i < 32 := Nat.lt_of_lt_of_le (List.getElem?_eq_some_iff.mp hi).1 (by decide)
    refine ⟨arr i, ?_, Classical.choose_spec (h2 i) q hi⟩
    unfold xad
    rw [if_neg (by omega), if_neg (by omega), if_pos (by omega), show 64 + i - 64 = i by omega]
  · obtain ⟨e1, e2, e3⟩ := xst_int q (List.mem_of_getElem? hi)
    exact va_Zof (hts _ e2) (hts _ e3) (va_eqi (hf _ e1)) hA
  · have hlt : i < 32 := Nat.lt_of_lt_of_le (List.getElem?_eq_some_iff.mp hi).1 (by decide)
    have h9 := Classical.choose_spec (h4 i) q hi
    have e : xad str val arr ref b0 L xs (96 + i) = ref i := by
      unfold xad
      rw [if_neg (by omega), if_neg (by omega), if_neg (by omega), if_pos (by omega), show 96 + i - 96 = i by omega]
    rw [e]
    exact h9
  · exact hts _ xst_ao.2.2.1
  · unfold xad
    simp
  · rw [xad_L]
    obtain ⟨scr, g1, g2, g3, g4, g5⟩ := hX
    refine ⟨scr, g1, g2, g3, by omega, by rw [g4], fun j hj => ?_, hA _ hb⟩
    show scr.slots[j]? = some (.int (xsV (xad str val arr ref b0 L xs) j))
    rw [xad_V]
    exact g5 j hj
  · unfold xad
    simp
theorem xst_K (hts : ∀ w ∈ lw_tbl, w.before #[Value.ref b0] s = true) : ∃ (D : va_G) (dA : Nat → ClassId), va_K D classes (xtys dA) s := by
  have hgd : ∀ w ∈ lw_gd, w.before #[Value.ref b0] s = true := fun w hw => hts w (List.mem_filter.mp hw).1
  have hc : ∀ k : Nat, ∃ (cC : ClassId) (iS : Nat → Nat), ∀ q, classes[k]? = some q → u_Kn s q.1 q.2.1 q.2.2 cC iS := by
    intro k
    match k with
    | 0 =>
      obtain ⟨cC, iS, h⟩ := u_known (C := R_World) (T := F_World) (N := 8) (n := 8) hgd i_World (hts (.instantiable R_World 8) (by decide +kernel))
      exact ⟨cC, iS, fun q hq => by cases hq; exact h⟩
    | 1 =>
      obtain ⟨cC, iS, h⟩ := u_known (C := R_Undo) (T := F_Undo) (N := 4) (n := 4) hgd i_Undo (hts (.instantiable R_Undo 4) (by decide +kernel))
      exact ⟨cC, iS, fun q hq => by cases hq; exact h⟩
    | 2 =>
      obtain ⟨cC, iS, h⟩ := u_known (C := R_Tape) (T := F_Tape) (N := 2) (n := 2) hgd i_Tape (hts (.instantiable R_Tape 2) (by decide +kernel))
      exact ⟨cC, iS, fun q hq => by cases hq; exact h⟩
    | 3 =>
      obtain ⟨cC, iS, h⟩ := u_known (C := R_Text) (T := F_Text) (N := 4) (n := 4) hgd i_Text (hts (.instantiable R_Text 4) (by decide +kernel))
      exact ⟨cC, iS, fun q hq => by cases hq; exact h⟩
    | 4 =>
      obtain ⟨cC, iS, h⟩ := u_known (C := R_Grammar) (T := F_Grammar) (N := 8) (n := 8) hgd i_Grammar (hts (.instantiable R_Grammar 8) (by decide +kernel))
      exact ⟨cC, iS, fun q hq => by cases hq; exact h⟩
    | 5 =>
      obtain ⟨cC, iS, h⟩ := u_known (C := R_Machine) (T := F_Machine) (N := 1) (n := 1) hgd i_Machine (hts (.instantiable R_Machine 1) (by decide +kernel))
      exact ⟨cC, iS, fun q hq => by cases hq; exact h⟩
    | 6 =>
      obtain ⟨cC, iS, h⟩ := u_known (C := R_Heart) (T := F_Heart) (N := 3) (n := 3) hgd i_Heart (hts (.instantiable R_Heart 3) (by decide +kernel))
      exact ⟨cC, iS, fun q hq => by cases hq; exact h⟩
    | 7 =>
      obtain ⟨cC, iS, h⟩ := u_known (C := R_Search) (T := F_Search) (N := 10) (n := 10) hgd i_Search (hts (.instantiable R_Search 10) (by decide +kernel))
      exact ⟨cC, iS, fun q hq => by cases hq; exact h⟩
    | 8 =>
      obtain ⟨cC, iS, h⟩ := u_known (C := R_Suspects) (T := F_Suspects) (N := 6) (n := 6) hgd i_Suspects (hts (.instantiable R_Suspects 6) (by decide +kernel))
      exact ⟨cC, iS, fun q hq => by cases hq; exact h⟩
    | 9 =>
      obtain ⟨cC, iS, h⟩ := u_known (C := R_Bags) (T := F_Bags) (N := 3) (n := 3) hgd i_Bags (hts (.instantiable R_Bags 3) (by decide +kernel))
      exact ⟨cC, iS, fun q hq => by cases hq; exact h⟩
    | 10 =>
      obtain ⟨cC, iS, h⟩ := u_known (C := R_Post) (T := F_Post) (N := 20) (n := 20) hgd i_Post (hts (.instantiable R_Post 20) (by decide +kernel))
      exact ⟨cC, iS, fun q hq => by cases hq; exact h⟩
    | 11 =>
      obtain ⟨cC, iS, h⟩ := u_known (C := R_Mdl) (T := F_Mdl) (N := 65) (n := 65) hgd i_Mdl (hts (.instantiable R_Mdl 65) (by decide +kernel))
      exact ⟨cC, iS, fun q hq => by cases hq; exact h⟩
    | (k + 12) => exact ⟨0, fun _ => 0, fun q h => by simp [classes] at h⟩
  have pr : ∀ ty : FieldType, (Cond.arrayClass ty).before #[Value.ref b0] s = true → ∃ cA : ClassId, ArrOfT s cA ty ∧ s.vm.findClass ("[" ++ ty.toString) = some cA := by
    intro ty h
    obtain ⟨cA, kA, comp, f1, f2, f3⟩ := Cond.arrayClass_spec h
    exact ⟨cA, fun n z => ⟨fun k h => (by cases h), kA, f2, comp, f3⟩, f1⟩
  have pq : ∀ C : String, (Cond.arrayOver (.object C)).before #[Value.ref b0] s = true → ∃ cA : ClassId, ArrOfT s cA (.object C) ∧ va_RA s cA (.object C) := by
    intro C h
    obtain ⟨comp, c, k, f1, f2, f3, f4, f5⟩ := Cond.arrayOver_spec h
    exact ⟨c, fun n z => ⟨fun k h => (by cases h), k, f3, comp, f4⟩, k, comp, f3, f4, f1, f5⟩
  obtain ⟨x0, i0, i0'⟩ := pr .int (hts _ xst_ao.2.2.2.1)
  obtain ⟨x1, i1, i1'⟩ := pr .boolean (hts _ xst_ao.2.2.2.2.1)
  obtain ⟨x2, i2, i2'⟩ := pr .long (hts _ xst_ao.2.2.2.2.2)
  obtain ⟨comp, x3, k3, f1, f2, f3, f4, f5⟩ := arrayOver_specB (hts _ xst_ao.2.2.1)
  obtain ⟨x4, i4, i4'⟩ := pq _ (hts _ xst_ao.1)
  obtain ⟨x5, i5, i5'⟩ := pq _ (hts _ xst_ao.2.1)
  refine ⟨(fun k => Classical.choose (hc k), fun k => Classical.choose (Classical.choose_spec (hc k))), fun k => match k with | 20 => x0 | 21 => x1 | 22 => x2 | 23 => x3 | 24 => x4 | _ => x5, fun k q hq => Classical.choose_spec (Classical.choose_spec (hc k)) q hq, ?_⟩
  intro k q hq
  match k, hq with
  | 0, hq => cases hq; exact ⟨i0, i0'⟩
  | 1, hq => cases hq; exact ⟨i1, i1'⟩
  | 2, hq => cases hq; exact ⟨i2, i2'⟩
  | 3, hq => cases hq; exact ⟨fun n z => ⟨fun k h => (by cases h), k3, f3, comp, f4⟩, f5⟩
  | 4, hq => cases hq; exact ⟨i4, i4'⟩
  | 5, hq => cases hq; exact ⟨i5, i5'⟩
  | (k + 6), hq => cases hq
end ST
/-- the law, out of its function's answer -/
theorem law_of {p : Program} {e : Env} {s : State} {m : MethodId} {below : List Frame} {meth : Method} {c : Code} (l : Launch) {b0 L : Nat} {xs : Nat → Int32} (C0 : lw_At p s m meth c b0 L xs) (hpure : ∃ G' : XH, k_Law_law_0 L xs [some (.retAddr 128), none, none, none] [] G0 = some (some (.int 1), G') ∧ hpZ G' ≤ 600000 ∧ hpS G' ≤ 7302249) : W p l e room_1 s m #[Value.ref b0] below meth c s.heap [] 0 0 (lw_Z below #[Value.ref b0] s) (entryFrame m ([Value.ref b0] : List Value).toArray 4) := by
  obtain ⟨hx, hb, hr, hml, hown, hts, hX, hbl, hlocks, hgv⟩ := C0
  obtain ⟨ad, hSt, hL, hV, h128⟩ := xst_all hts hgv hX hbl
  obtain ⟨D, dA, hK⟩ := xst_K hts
  obtain ⟨G', hp, hz, hs⟩ := hpure
  have hgo := g_Law_law_0 (l := l) (b := s.heap.size) (D := D) (dA := dA) (ad := ad) hL (fun j _ => hV j)
  have hctx : XCtx s.heap.size D dA ad "TearPostLaw" c_Law_law 4 (some .boolean) false 72 p room_1 s m #[Value.ref b0] meth c :=
    ⟨hx, hb, hml, hown, fun w hw => hts w (List.mem_filter.mp hw).1, hr, hlocks, (fun h => by cases h), hK, hSt, Nat.le_refl _, by decide, by decide⟩
  have hP0 : XRp s.heap.size D dA G0 s.heap := ⟨fun k q h => by simp [xws, G0, hpZ] at h, rfl, fun _ _ => rfl⟩
  have hl := lv_entry ([.ref b0]) (n := 4) (Nat.le_of_ble_eq_true rfl)
  rw [lg_entry_eq]
  generalize (lg_sl ([.ref b0]) ++ List.replicate (4 - (lg_sl ([.ref b0])).length) Slot.unset).toArray = ls at hl ⊢
  have hW := hgo.2 _ _ _ _ hp p e room_1 s m #[Value.ref b0] below meth c hctx s.heap [] 0 0 _ _ ls hP0 va_S.rf ⟨hl.1, rfl, hl.2.1, fun i v hi => by
    match i, hi with
    | 0, hi =>
      cases hi
      show ls[0]? = some (.val (va_rf (ad 128)))
      rw [h128]
      exact lv_at hl 0 rfl
    | 1, hi => cases hi
    | 2, hi => cases hi
    | 3, hi => cases hi
    | (n + 4), hi => cases hi⟩ rfl rfl (by show 0 + (hpZ G' - 0) ≤ 600000; omega) (by show 0 + (hpS G' - 0) ≤ 7302249; omega)
  intro T hT X
  obtain ⟨t, a1, o, q1, q2, ⟨q3, q4, q5⟩, Lc, ⟨q6, q7, q8⟩, q9⟩ := hW T hT X
  refine ⟨t, a1, o, q1, q2, q3, q6, q7, q8.weaken (fun y hy hlt => absurd (q9 y hy) (Nat.not_le.mpr hlt)) (by show 0 + (hpZ G' - 0) ≤ 600000; omega) (by show 0 + (hpS G' - 0) ≤ 7302249; omega)⟩
