section PU
variable {l : Launch} {b : Nat} {D : va_G} {dA : Nat → ClassId} {ad : Nat → Option Nat} {own : String} {cc : ByteArray} {nL : Nat} {ret : Option FieldType} {ini : Bool} {fr pc : Nat} {K : XK}
def xiadd (K : XK) : XK := fun A st G => match st with
  | .int y :: .int x :: r => K A (.int (x + y) :: r) G
  | _ => none
theorem go_iadd (hd : decode cc pc = .ok (.iadd, 1)) (h : XGo l b D dA ad own cc nL ret ini fr (pc + 1) K) : XGo l b D dA ad own cc nL ret ini fr pc (xiadd K) := by
  refine go_pure h fun A st G res hk => ?_
  unfold xiadd at hk
  split at hk
  · exact ⟨A, _, hk, fun p e R s m args below meth c X H locs cells slots Q ls hP hS hl kk => lv_iadd X.1 X.2.1 hd (kk ls hl)⟩
  · cases hk
def xisub (K : XK) : XK := fun A st G => match st with
  | .int y :: .int x :: r => K A (.int (x - y) :: r) G
  | _ => none
theorem go_isub (hd : decode cc pc = .ok (.isub, 1)) (h : XGo l b D dA ad own cc nL ret ini fr (pc + 1) K) : XGo l b D dA ad own cc nL ret ini fr pc (xisub K) := by
  refine go_pure h fun A st G res hk => ?_
  unfold xisub at hk
  split at hk
  · exact ⟨A, _, hk, fun p e R s m args below meth c X H locs cells slots Q ls hP hS hl kk => lv_isub X.1 X.2.1 hd (kk ls hl)⟩
  · cases hk
def ximul (K : XK) : XK := fun A st G => match st with
  | .int y :: .int x :: r => K A (.int (x * y) :: r) G
  | _ => none
theorem go_imul (hd : decode cc pc = .ok (.imul, 1)) (h : XGo l b D dA ad own cc nL ret ini fr (pc + 1) K) : XGo l b D dA ad own cc nL ret ini fr pc (ximul K) := by
  refine go_pure h fun A st G res hk => ?_
  unfold ximul at hk
  split at hk
  · exact ⟨A, _, hk, fun p e R s m args below meth c X H locs cells slots Q ls hP hS hl kk => lv_imul X.1 X.2.1 hd (kk ls hl)⟩
  · cases hk
def xiand (K : XK) : XK := fun A st G => match st with
  | .int y :: .int x :: r => K A (.int (x &&& y) :: r) G
  | _ => none
theorem go_iand (hd : decode cc pc = .ok (.iand, 1)) (h : XGo l b D dA ad own cc nL ret ini fr (pc + 1) K) : XGo l b D dA ad own cc nL ret ini fr pc (xiand K) := by
  refine go_pure h fun A st G res hk => ?_
  unfold xiand at hk
  split at hk
  · exact ⟨A, _, hk, fun p e R s m args below meth c X H locs cells slots Q ls hP hS hl kk => lv_iand X.1 X.2.1 hd (kk ls hl)⟩
  · cases hk
def xior (K : XK) : XK := fun A st G => match st with
  | .int y :: .int x :: r => K A (.int (x ||| y) :: r) G
  | _ => none
theorem go_ior (hd : decode cc pc = .ok (.ior, 1)) (h : XGo l b D dA ad own cc nL ret ini fr (pc + 1) K) : XGo l b D dA ad own cc nL ret ini fr pc (xior K) := by
  refine go_pure h fun A st G res hk => ?_
  unfold xior at hk
  split at hk
  · exact ⟨A, _, hk, fun p e R s m args below meth c X H locs cells slots Q ls hP hS hl kk => lv_ior X.1 X.2.1 hd (kk ls hl)⟩
  · cases hk
def xixor (K : XK) : XK := fun A st G => match st with
  | .int y :: .int x :: r => K A (.int (x ^^^ y) :: r) G
  | _ => none
theorem go_ixor (hd : decode cc pc = .ok (.ixor, 1)) (h : XGo l b D dA ad own cc nL ret ini fr (pc + 1) K) : XGo l b D dA ad own cc nL ret ini fr pc (xixor K) := by
  refine go_pure h fun A st G res hk => ?_
  unfold xixor at hk
  split at hk
  · exact ⟨A, _, hk, fun p e R s m args below meth c X H locs cells slots Q ls hP hS hl kk => lv_ixor X.1 X.2.1 hd (kk ls hl)⟩
  · cases hk
def xishl (K : XK) : XK := fun A st G => match st with
  | .int y :: .int x :: r => K A (.int (x <<< (y &&& 31)) :: r) G
  | _ => none
theorem go_ishl (hd : decode cc pc = .ok (.ishl, 1)) (h : XGo l b D dA ad own cc nL ret ini fr (pc + 1) K) : XGo l b D dA ad own cc nL ret ini fr pc (xishl K) := by
  refine go_pure h fun A st G res hk => ?_
  unfold xishl at hk
  split at hk
  · exact ⟨A, _, hk, fun p e R s m args below meth c X H locs cells slots Q ls hP hS hl kk => lv_ishl X.1 X.2.1 hd (kk ls hl)⟩
  · cases hk
def xishr (K : XK) : XK := fun A st G => match st with
  | .int y :: .int x :: r => K A (.int (x >>> (y &&& 31)) :: r) G
  | _ => none
theorem go_ishr (hd : decode cc pc = .ok (.ishr, 1)) (h : XGo l b D dA ad own cc nL ret ini fr (pc + 1) K) : XGo l b D dA ad own cc nL ret ini fr pc (xishr K) := by
  refine go_pure h fun A st G res hk => ?_
  unfold xishr at hk
  split at hk
  · exact ⟨A, _, hk, fun p e R s m args below meth c X H locs cells slots Q ls hP hS hl kk => lv_ishr X.1 X.2.1 hd (kk ls hl)⟩
  · cases hk
def xiushr (K : XK) : XK := fun A st G => match st with
  | .int y :: .int x :: r => K A (.int ((x.toUInt32 >>> (y.toUInt32 &&& Int32.toUInt32 31)).toInt32) :: r) G
  | _ => none
theorem go_iushr (hd : decode cc pc = .ok (.iushr, 1)) (h : XGo l b D dA ad own cc nL ret ini fr (pc + 1) K) : XGo l b D dA ad own cc nL ret ini fr pc (xiushr K) := by
  refine go_pure h fun A st G res hk => ?_
  unfold xiushr at hk
  split at hk
  · exact ⟨A, _, hk, fun p e R s m args below meth c X H locs cells slots Q ls hP hS hl kk => lv_iushr X.1 X.2.1 hd rfl (kk ls hl)⟩
  · cases hk
def xidiv (K : XK) : XK := fun A st G => match st with
  | .int y :: .int x :: r => if ¬ y = 0 then K A (.int (x / y) :: r) G else none
  | _ => none
theorem go_idiv (hd : decode cc pc = .ok (.idiv, 1)) (h : XGo l b D dA ad own cc nL ret ini fr (pc + 1) K) : XGo l b D dA ad own cc nL ret ini fr pc (xidiv K) := by
  refine go_pure h fun A st G res hk => ?_
  unfold xidiv at hk
  split at hk
  · split at hk
    · next hc =>
      exact ⟨A, _, hk, fun p e R s m args below meth c X H locs cells slots Q ls hP hS hl kk => lv_idiv X.1 X.2.1 hd hc (kk ls hl)⟩
    · cases hk
  · cases hk
def xirem (K : XK) : XK := fun A st G => match st with
  | .int y :: .int x :: r => if ¬ y = 0 then K A (.int (x - (x / y) * y) :: r) G else none
  | _ => none
theorem go_irem (hd : decode cc pc = .ok (.irem, 1)) (h : XGo l b D dA ad own cc nL ret ini fr (pc + 1) K) : XGo l b D dA ad own cc nL ret ini fr pc (xirem K) := by
  refine go_pure h fun A st G res hk => ?_
  unfold xirem at hk
  split at hk
  · split at hk
    · next hc =>
      exact ⟨A, _, hk, fun p e R s m args below meth c X H locs cells slots Q ls hP hS hl kk => lv_irem X.1 X.2.1 hd hc (kk ls hl)⟩
    · cases hk
  · cases hk
def xineg (K : XK) : XK := fun A st G => match st with
  | .int x :: r => K A (.int (-x) :: r) G
  | _ => none
theorem go_ineg (hd : decode cc pc = .ok (.ineg, 1)) (h : XGo l b D dA ad own cc nL ret ini fr (pc + 1) K) : XGo l b D dA ad own cc nL ret ini fr pc (xineg K) := by
  refine go_pure h fun A st G res hk => ?_
  unfold xineg at hk
  split at hk
  · exact ⟨A, _, hk, fun p e R s m args below meth c X H locs cells slots Q ls hP hS hl kk => lv_ineg X.1 X.2.1 hd (kk ls hl)⟩
  · cases hk
def xladd (K : XK) : XK := fun A st G => match st with
  | .long y :: .long x :: r => K A (.long (x + y) :: r) G
  | _ => none
theorem go_ladd (hd : decode cc pc = .ok (.ladd, 1)) (h : XGo l b D dA ad own cc nL ret ini fr (pc + 1) K) : XGo l b D dA ad own cc nL ret ini fr pc (xladd K) := by
  refine go_pure h fun A st G res hk => ?_
  unfold xladd at hk
  split at hk
  · exact ⟨A, _, hk, fun p e R s m args below meth c X H locs cells slots Q ls hP hS hl kk => lv_ladd X.1 X.2.1 hd (kk ls hl)⟩
  · cases hk
def xlsub (K : XK) : XK := fun A st G => match st with
  | .long y :: .long x :: r => K A (.long (x - y) :: r) G
  | _ => none
theorem go_lsub (hd : decode cc pc = .ok (.lsub, 1)) (h : XGo l b D dA ad own cc nL ret ini fr (pc + 1) K) : XGo l b D dA ad own cc nL ret ini fr pc (xlsub K) := by
  refine go_pure h fun A st G res hk => ?_
  unfold xlsub at hk
  split at hk
  · exact ⟨A, _, hk, fun p e R s m args below meth c X H locs cells slots Q ls hP hS hl kk => lv_lsub X.1 X.2.1 hd (kk ls hl)⟩
  · cases hk
def xlmul (K : XK) : XK := fun A st G => match st with
  | .long y :: .long x :: r => K A (.long (x * y) :: r) G
  | _ => none
theorem go_lmul (hd : decode cc pc = .ok (.lmul, 1)) (h : XGo l b D dA ad own cc nL ret ini fr (pc + 1) K) : XGo l b D dA ad own cc nL ret ini fr pc (xlmul K) := by
  refine go_pure h fun A st G res hk => ?_
  unfold xlmul at hk
  split at hk
  · exact ⟨A, _, hk, fun p e R s m args below meth c X H locs cells slots Q ls hP hS hl kk => lv_lmul X.1 X.2.1 hd (kk ls hl)⟩
  · cases hk
def xldiv (K : XK) : XK := fun A st G => match st with
  | .long y :: .long x :: r => if ¬ y = 0 then K A (.long (x / y) :: r) G else none
  | _ => none
theorem go_ldiv (hd : decode cc pc = .ok (.ldiv, 1)) (h : XGo l b D dA ad own cc nL ret ini fr (pc + 1) K) : XGo l b D dA ad own cc nL ret ini fr pc (xldiv K) := by
  refine go_pure h fun A st G res hk => ?_
  unfold xldiv at hk
  split at hk
  · split at hk
    · next hc =>
      exact ⟨A, _, hk, fun p e R s m args below meth c X H locs cells slots Q ls hP hS hl kk => lv_ldiv X.1 X.2.1 hd hc (kk ls hl)⟩
    · cases hk
  · cases hk
def xlrem (K : XK) : XK := fun A st G => match st with
  | .long y :: .long x :: r => if ¬ y = 0 then K A (.long (x - (x / y) * y) :: r) G else none
  | _ => none
theorem go_lrem (hd : decode cc pc = .ok (.lrem, 1)) (h : XGo l b D dA ad own cc nL ret ini fr (pc + 1) K) : XGo l b D dA ad own cc nL ret ini fr pc (xlrem K) := by
  refine go_pure h fun A st G res hk => ?_
  unfold xlrem at hk
  split at hk
  · split at hk
    · next hc =>
      exact ⟨A, _, hk, fun p e R s m args below meth c X H locs cells slots Q ls hP hS hl kk => lv_lrem X.1 X.2.1 hd hc (kk ls hl)⟩
    · cases hk
  · cases hk
def xi2l (K : XK) : XK := fun A st G => match st with
  | .int x :: r => K A (.long x.toInt64 :: r) G
  | _ => none
theorem go_i2l (hd : decode cc pc = .ok (.i2l, 1)) (h : XGo l b D dA ad own cc nL ret ini fr (pc + 1) K) : XGo l b D dA ad own cc nL ret ini fr pc (xi2l K) := by
  refine go_pure h fun A st G res hk => ?_
  unfold xi2l at hk
  split at hk
  · exact ⟨A, _, hk, fun p e R s m args below meth c X H locs cells slots Q ls hP hS hl kk => lv_i2l X.1 X.2.1 hd rfl (kk ls hl)⟩
  · cases hk
def xl2i (K : XK) : XK := fun A st G => match st with
  | .long x :: r => K A (.int x.toInt32 :: r) G
  | _ => none
theorem go_l2i (hd : decode cc pc = .ok (.l2i, 1)) (h : XGo l b D dA ad own cc nL ret ini fr (pc + 1) K) : XGo l b D dA ad own cc nL ret ini fr pc (xl2i K) := by
  refine go_pure h fun A st G res hk => ?_
  unfold xl2i at hk
  split at hk
  · exact ⟨A, _, hk, fun p e R s m args below meth c X H locs cells slots Q ls hP hS hl kk => lv_l2i X.1 X.2.1 hd rfl (kk ls hl)⟩
  · cases hk
def xi2c (K : XK) : XK := fun A st G => match st with
  | .int x :: r => K A (.int (x.toUInt32 % 65536).toInt32 :: r) G
  | _ => none
theorem go_i2c (hd : decode cc pc = .ok (.i2c, 1)) (h : XGo l b D dA ad own cc nL ret ini fr (pc + 1) K) : XGo l b D dA ad own cc nL ret ini fr pc (xi2c K) := by
  refine go_pure h fun A st G res hk => ?_
  unfold xi2c at hk
  split at hk
  · exact ⟨A, _, hk, fun p e R s m args below meth c X H locs cells slots Q ls hP hS hl kk => lv_i2c X.1 X.2.1 hd rfl (kk ls hl)⟩
  · cases hk
def xlcmp (K : XK) : XK := fun A st G => match st with
  | .long y :: .long x :: r => K A (.int (lg_cmp x y) :: r) G
  | _ => none
theorem go_lcmp (hd : decode cc pc = .ok (.lcmp, 1)) (h : XGo l b D dA ad own cc nL ret ini fr (pc + 1) K) : XGo l b D dA ad own cc nL ret ini fr pc (xlcmp K) := by
  refine go_pure h fun A st G res hk => ?_
  unfold xlcmp at hk
  split at hk
  · exact ⟨A, _, hk, fun p e R s m args below meth c X H locs cells slots Q ls hP hS hl kk => W.lcmp X.1 X.2.1 hd (kk ls hl)⟩
  · cases hk
def xdup (K : XK) : XK := fun A st G => match st with
  | v :: r => if v.category = 1 then K A (v :: v :: r) G else none
  | _ => none
theorem go_dup (hd : decode cc pc = .ok (.dup, 1)) (h : XGo l b D dA ad own cc nL ret ini fr (pc + 1) K) : XGo l b D dA ad own cc nL ret ini fr pc (xdup K) := by
  refine go_pure h fun A st G res hk => ?_
  unfold xdup at hk
  split at hk
  · split at hk
    · next hc =>
      exact ⟨A, _, hk, fun p e R s m args below meth c X H locs cells slots Q ls hP hS hl kk => lv_dup X.1 X.2.1 hd (by rw [xtr_cat]; exact hc) (kk ls hl)⟩
    · cases hk
  · cases hk
def xdup2 (K : XK) : XK := fun A st G => match st with
  | v :: w :: r => if v.category = 1 ∧ w.category = 1 then K A (v :: w :: v :: w :: r) G else none
  | _ => none
theorem go_dup2 (hd : decode cc pc = .ok (.dup2, 1)) (h : XGo l b D dA ad own cc nL ret ini fr (pc + 1) K) : XGo l b D dA ad own cc nL ret ini fr pc (xdup2 K) := by
  refine go_pure h fun A st G res hk => ?_
  unfold xdup2 at hk
  split at hk
  · split at hk
    · next hc =>
      exact ⟨A, _, hk, fun p e R s m args below meth c X H locs cells slots Q ls hP hS hl kk => lv_dup2_11 X.1 X.2.1 hd (by rw [xtr_cat]; exact hc.1) (by rw [xtr_cat]; exact hc.2) (kk ls hl)⟩
    · cases hk
  · cases hk
def xpop (K : XK) : XK := fun A st G => match st with
  | v :: r => if v.category = 1 then K A (r) G else none
  | _ => none
theorem go_pop (hd : decode cc pc = .ok (.pop, 1)) (h : XGo l b D dA ad own cc nL ret ini fr (pc + 1) K) : XGo l b D dA ad own cc nL ret ini fr pc (xpop K) := by
  refine go_pure h fun A st G res hk => ?_
  unfold xpop at hk
  split at hk
  · split at hk
    · next hc =>
      exact ⟨A, _, hk, fun p e R s m args below meth c X H locs cells slots Q ls hP hS hl kk => lv_pop X.1 X.2.1 hd (by rw [xtr_cat]; exact hc) (kk ls hl)⟩
    · cases hk
  · cases hk
def xI (v : Int32) (K : XK) : XK := fun A st G => K A (.int v :: st) G
def xL (v : Int64) (K : XK) : XK := fun A st G => K A (.long v :: st) G
def xNull (K : XK) : XK := fun A st G => K A (.null :: st) G
theorem go_iconst {n : Int} {v : Int32} (hd : decode cc pc = .ok (.iconst n, 1)) (hv : Int32.ofInt n = v) (h : XGo l b D dA ad own cc nL ret ini fr (pc + 1) K) : XGo l b D dA ad own cc nL ret ini fr pc (xI v K) :=
  go_pure h fun A st G res hk => ⟨A, _, hk, fun p e R s m args below meth c X H locs cells slots Q ls hP hS hl kk => lv_iconst X.1 X.2.1 hd hv (kk ls hl)⟩
theorem go_bipush {n : Int} {v : Int32} (hd : decode cc pc = .ok (.bipush n, 2)) (hv : (Int8.ofInt n).toInt32 = v) (h : XGo l b D dA ad own cc nL ret ini fr (pc + 2) K) : XGo l b D dA ad own cc nL ret ini fr pc (xI v K) :=
  go_pure h fun A st G res hk => ⟨A, _, hk, fun p e R s m args below meth c X H locs cells slots Q ls hP hS hl kk => lv_bipush X.1 X.2.1 hd hv (kk ls hl)⟩
theorem go_sipush {n : Int} {v : Int32} (hd : decode cc pc = .ok (.sipush n, 3)) (hv : (Int16.ofInt n).toInt32 = v) (h : XGo l b D dA ad own cc nL ret ini fr (pc + 3) K) : XGo l b D dA ad own cc nL ret ini fr pc (xI v K) :=
  go_pure h fun A st G res hk => ⟨A, _, hk, fun p e R s m args below meth c X H locs cells slots Q ls hP hS hl kk => lv_sipush X.1 X.2.1 hd hv (kk ls hl)⟩
theorem go_lconst {n : Fin 2} {v : Int64} (hd : decode cc pc = .ok (.lconst n, 1)) (hv : Int64.ofNat (n : Nat) = v) (h : XGo l b D dA ad own cc nL ret ini fr (pc + 1) K) : XGo l b D dA ad own cc nL ret ini fr pc (xL v K) :=
  go_pure h fun A st G res hk => ⟨A, _, hk, fun p e R s m args below meth c X H locs cells slots Q ls hP hS hl kk => lv_lconst X.1 X.2.1 hd hv (kk ls hl)⟩
theorem go_ldc {index : Nat} {v : Int32} (hd : decode cc pc = .ok (.ldc index, 2)) (hw : Cond.constant own index v ∈ lw_gd) (h : XGo l b D dA ad own cc nL ret ini fr (pc + 2) K) : XGo l b D dA ad own cc nL ret ini fr pc (xI v K) :=
  go_pure h fun A st G res hk => ⟨A, _, hk, fun p e R s m args below meth c X H locs cells slots Q ls hP hS hl kk => lv_ldc X.1 X.2.1 X.2.2.2.1 (X.2.2.2.2.1 _ hw) hd (kk ls hl)⟩
theorem go_ldcw {index : Nat} {v : Int32} (hd : decode cc pc = .ok (.ldc_w index, 3)) (hw : Cond.constant own index v ∈ lw_gd) (h : XGo l b D dA ad own cc nL ret ini fr (pc + 3) K) : XGo l b D dA ad own cc nL ret ini fr pc (xI v K) :=
  go_pure h fun A st G res hk => ⟨A, _, hk, fun p e R s m args below meth c X H locs cells slots Q ls hP hS hl kk => lv_ldcw X.1 X.2.1 X.2.2.2.1 (X.2.2.2.2.1 _ hw) hd (kk ls hl)⟩
theorem go_ldc2 {index : Nat} {v : Int64} (hd : decode cc pc = .ok (.ldc2_w index, 3)) (hw : Cond.constantLong own index v ∈ lw_gd) (h : XGo l b D dA ad own cc nL ret ini fr (pc + 3) K) : XGo l b D dA ad own cc nL ret ini fr pc (xL v K) :=
  go_pure h fun A st G res hk => ⟨A, _, hk, fun p e R s m args below meth c X H locs cells slots Q ls hP hS hl kk => lv_ldc2 X.1 X.2.1 X.2.2.2.1 (X.2.2.2.2.1 _ hw) hd (kk ls hl)⟩
theorem go_null  (hd : decode cc pc = .ok (.aconst_null, 1)) (h : XGo l b D dA ad own cc nL ret ini fr (pc + 1) K) : XGo l b D dA ad own cc nL ret ini fr pc (xNull K) :=
  go_pure h fun A st G res hk => ⟨A, _, hk, fun p e R s m args below meth c X H locs cells slots Q ls hP hS hl kk => lv_null X.1 X.2.1 hd (kk ls hl)⟩
def xIld (i : Nat) (K : XK) : XK := fun A st G => match A[i]? with
  | some (some (.int x)) => K A (.int x :: st) G
  | _ => none
theorem go_iload_n {k : Fin 4} {i : Nat} (hd : decode cc pc = .ok (.iload_n k, 1)) (hi : (k : Nat) = i) (h : XGo l b D dA ad own cc nL ret ini fr (pc + 1) K) : XGo l b D dA ad own cc nL ret ini fr pc (xIld i K) := by
  refine go_pure h fun A st G res hk => ?_
  unfold xIld at hk
  split at hk
  · next x hx =>
    exact ⟨A, _, hk, fun p e R s m args below meth c X H locs cells slots Q ls hP hS hl kk => lv_iload_n X.1 X.2.1 hd hi (hl.2.2.2 _ _ hx) (kk ls hl)⟩
  · cases hk
theorem go_iload {i : Nat} (hd : decode cc pc = .ok (.iload i, 2)) (h : XGo l b D dA ad own cc nL ret ini fr (pc + 2) K) : XGo l b D dA ad own cc nL ret ini fr pc (xIld i K) := by
  refine go_pure h fun A st G res hk => ?_
  unfold xIld at hk
  split at hk
  · next x hx =>
    exact ⟨A, _, hk, fun p e R s m args below meth c X H locs cells slots Q ls hP hS hl kk => lv_iload X.1 X.2.1 hd (hl.2.2.2 _ _ hx) (kk ls hl)⟩
  · cases hk
def xLld (i : Nat) (K : XK) : XK := fun A st G => match A[i]? with
  | some (some (.long x)) => K A (.long x :: st) G
  | _ => none
theorem go_lload_n {k : Fin 4} {i : Nat} (hd : decode cc pc = .ok (.lload_n k, 1)) (hi : (k : Nat) = i) (h : XGo l b D dA ad own cc nL ret ini fr (pc + 1) K) : XGo l b D dA ad own cc nL ret ini fr pc (xLld i K) := by
  refine go_pure h fun A st G res hk => ?_
  unfold xLld at hk
  split at hk
  · next x hx =>
    exact ⟨A, _, hk, fun p e R s m args below meth c X H locs cells slots Q ls hP hS hl kk => lv_lload_n X.1 X.2.1 hd hi (hl.2.2.2 _ _ hx) (kk ls hl)⟩
  · cases hk
theorem go_lload {i : Nat} (hd : decode cc pc = .ok (.lload i, 2)) (h : XGo l b D dA ad own cc nL ret ini fr (pc + 2) K) : XGo l b D dA ad own cc nL ret ini fr pc (xLld i K) := by
  refine go_pure h fun A st G res hk => ?_
  unfold xLld at hk
  split at hk
  · next x hx =>
    exact ⟨A, _, hk, fun p e R s m args below meth c X H locs cells slots Q ls hP hS hl kk => lv_lload X.1 X.2.1 hd (hl.2.2.2 _ _ hx) (kk ls hl)⟩
  · cases hk
def xAld (i : Nat) (K : XK) : XK := fun A st G => match A[i]? with
  | some (some (.ref j)) => K A (.ref j :: st) G
  | some (some (.retAddr j)) => K A (.retAddr j :: st) G
  | some (some .null) => K A (.null :: st) G
  | _ => none
theorem go_aload_n {k : Fin 4} {i : Nat} (hd : decode cc pc = .ok (.aload_n k, 1)) (hi : (k : Nat) = i) (h : XGo l b D dA ad own cc nL ret ini fr (pc + 1) K) : XGo l b D dA ad own cc nL ret ini fr pc (xAld i K) := by
  refine go_pure h fun A st G res hk => ?_
  unfold xAld at hk
  split at hk
  · next x hx =>
    exact ⟨A, _, hk, fun p e R s m args below meth c X H locs cells slots Q ls hP hS hl kk => lv_aload_n X.1 X.2.1 hd hi (hl.2.2.2 _ _ hx) (kk ls hl)⟩
  · next x hx =>
    refine ⟨A, _, hk, fun p e R s m args below meth c X H locs cells slots Q ls hP hS hl kk => ?_⟩
    have h1 := hl.2.2.2 _ _ hx
    have h2 := kk ls hl
    simp only [List.map_cons, xtr] at h1 h2
    cases ha : ad x with
    | none =>
      simp only [ha, va_rf] at h1 h2
      exact lv_aload_nN X.1 X.2.1 hd hi h1 h2
    | some q =>
      simp only [ha, va_rf] at h1 h2
      exact lv_aload_n X.1 X.2.1 hd hi h1 h2
  · next hx =>
    exact ⟨A, _, hk, fun p e R s m args below meth c X H locs cells slots Q ls hP hS hl kk => lv_aload_nN X.1 X.2.1 hd hi (hl.2.2.2 _ _ hx) (kk ls hl)⟩
  · cases hk
theorem go_aload {i : Nat} (hd : decode cc pc = .ok (.aload i, 2)) (h : XGo l b D dA ad own cc nL ret ini fr (pc + 2) K) : XGo l b D dA ad own cc nL ret ini fr pc (xAld i K) := by
  refine go_pure h fun A st G res hk => ?_
  unfold xAld at hk
  split at hk
  · next x hx =>
    exact ⟨A, _, hk, fun p e R s m args below meth c X H locs cells slots Q ls hP hS hl kk => lv_aload X.1 X.2.1 hd (hl.2.2.2 _ _ hx) (kk ls hl)⟩
  · next x hx =>
    refine ⟨A, _, hk, fun p e R s m args below meth c X H locs cells slots Q ls hP hS hl kk => ?_⟩
    have h1 := hl.2.2.2 _ _ hx
    have h2 := kk ls hl
    simp only [List.map_cons, xtr] at h1 h2
    cases ha : ad x with
    | none =>
      simp only [ha, va_rf] at h1 h2
      exact lv_aloadN X.1 X.2.1 hd h1 h2
    | some q =>
      simp only [ha, va_rf] at h1 h2
      exact lv_aload X.1 X.2.1 hd h1 h2
  · next hx =>
    exact ⟨A, _, hk, fun p e R s m args below meth c X H locs cells slots Q ls hP hS hl kk => lv_aloadN X.1 X.2.1 hd (hl.2.2.2 _ _ hx) (kk ls hl)⟩
  · cases hk
def xIst (i : Nat) (K : XK) : XK := fun A st G => match st with
  | .int x :: r => if xok A i = true ∧ i < A.length then K (A.set i (some (.int x))) r G else none
  | _ => none
theorem go_istore_n {k : Fin 4} {i : Nat} (hd : decode cc pc = .ok (.istore_n k, 1)) (hi : (k : Nat) = i) (h : XGo l b D dA ad own cc nL ret ini fr (pc + 1) K) : XGo l b D dA ad own cc nL ret ini fr pc (xIst i K) := by
  refine go_pure h fun A st G res hk => ?_
  unfold xIst at hk
  split at hk
  · split at hk
    · next hc =>
      exact ⟨_, _, hk, fun p e R s m args below meth c X H locs cells slots Q ls hP hS hl kk => lv_istore_n X.1 X.2.1 hd hi hl.has (by rw [← hl.2.1]; exact hc.2) rfl (fun ls2 h2 => kk ls2 (xLr.set1 hl hc.1 h2))⟩
    · cases hk
  · cases hk
theorem go_istore {i : Nat} (hd : decode cc pc = .ok (.istore i, 2)) (h : XGo l b D dA ad own cc nL ret ini fr (pc + 2) K) : XGo l b D dA ad own cc nL ret ini fr pc (xIst i K) := by
  refine go_pure h fun A st G res hk => ?_
  unfold xIst at hk
  split at hk
  · split at hk
    · next hc =>
      exact ⟨_, _, hk, fun p e R s m args below meth c X H locs cells slots Q ls hP hS hl kk => lv_istore X.1 X.2.1 hd hl.has (by rw [← hl.2.1]; exact hc.2) rfl (fun ls2 h2 => kk ls2 (xLr.set1 hl hc.1 h2))⟩
    · cases hk
  · cases hk
def xLst (i : Nat) (K : XK) : XK := fun A st G => match st with
  | .long x :: r => if xok A i = true ∧ i + 1 < A.length then K ((A.set i (some (.long x))).set (i + 1) none) r G else none
  | _ => none
theorem go_lstore_n {k : Fin 4} {i : Nat} (hd : decode cc pc = .ok (.lstore_n k, 1)) (hi : (k : Nat) = i) (h : XGo l b D dA ad own cc nL ret ini fr (pc + 1) K) : XGo l b D dA ad own cc nL ret ini fr pc (xLst i K) := by
  refine go_pure h fun A st G res hk => ?_
  unfold xLst at hk
  split at hk
  · split at hk
    · next hc =>
      exact ⟨_, _, hk, fun p e R s m args below meth c X H locs cells slots Q ls hP hS hl kk => lv_lstore_n X.1 X.2.1 hd hi hl.has (by rw [← hl.2.1]; exact hc.2) rfl (fun ls2 h2 => kk ls2 (xLr.set2 hl hc.1 h2))⟩
    · cases hk
  · cases hk
theorem go_lstore {i : Nat} (hd : decode cc pc = .ok (.lstore i, 2)) (h : XGo l b D dA ad own cc nL ret ini fr (pc + 2) K) : XGo l b D dA ad own cc nL ret ini fr pc (xLst i K) := by
  refine go_pure h fun A st G res hk => ?_
  unfold xLst at hk
  split at hk
  · split at hk
    · next hc =>
      exact ⟨_, _, hk, fun p e R s m args below meth c X H locs cells slots Q ls hP hS hl kk => lv_lstore X.1 X.2.1 hd hl.has (by rw [← hl.2.1]; exact hc.2) rfl (fun ls2 h2 => kk ls2 (xLr.set2 hl hc.1 h2))⟩
    · cases hk
  · cases hk
def xAst (i : Nat) (K : XK) : XK := fun A st G => match st with
  | .ref x :: r => if xok A i = true ∧ i < A.length then K (A.set i (some (.ref x))) r G else none
  | _ => none
theorem go_astore_n {k : Fin 4} {i : Nat} (hd : decode cc pc = .ok (.astore_n k, 1)) (hi : (k : Nat) = i) (h : XGo l b D dA ad own cc nL ret ini fr (pc + 1) K) : XGo l b D dA ad own cc nL ret ini fr pc (xAst i K) := by
  refine go_pure h fun A st G res hk => ?_
  unfold xAst at hk
  split at hk
  · split at hk
    · next hc =>
      exact ⟨_, _, hk, fun p e R s m args below meth c X H locs cells slots Q ls hP hS hl kk => lv_astore_n X.1 X.2.1 hd hi hl.has (by rw [← hl.2.1]; exact hc.2) rfl (fun ls2 h2 => kk ls2 (xLr.set1 hl hc.1 h2))⟩
    · cases hk
  · cases hk
theorem go_astore {i : Nat} (hd : decode cc pc = .ok (.astore i, 2)) (h : XGo l b D dA ad own cc nL ret ini fr (pc + 2) K) : XGo l b D dA ad own cc nL ret ini fr pc (xAst i K) := by
  refine go_pure h fun A st G res hk => ?_
  unfold xAst at hk
  split at hk
  · split at hk
    · next hc =>
      exact ⟨_, _, hk, fun p e R s m args below meth c X H locs cells slots Q ls hP hS hl kk => lv_astore X.1 X.2.1 hd hl.has (by rw [← hl.2.1]; exact hc.2) rfl (fun ls2 h2 => kk ls2 (xLr.set1 hl hc.1 h2))⟩
    · cases hk
  · cases hk
def xIinc (i : Nat) (n : Int) (K : XK) : XK := fun A st G => match A[i]? with
  | some (some (.int x)) => if xok A i = true then K (A.set i (some (.int (x + Int32.ofInt n)))) st G else none
  | _ => none
theorem go_iinc {i : Nat} {n : Int} (hd : decode cc pc = .ok (.iinc i n, 3)) (h : XGo l b D dA ad own cc nL ret ini fr (pc + 3) K) : XGo l b D dA ad own cc nL ret ini fr pc (xIinc i n K) := by
  refine go_pure h fun A st G res hk => ?_
  unfold xIinc at hk
  split at hk
  · next x hx =>
    split at hk
    · next hc =>
      refine ⟨_, _, hk, fun p e R s m args below meth c X H locs cells slots Q ls hP hS hl kk => ?_⟩
      obtain ⟨k, hk2⟩ := List.getElem?_of_mem (xlv_mem.mpr (⟨.int x, hx, rfl⟩ : ∃ v, A[((i, Value.int x) : Nat × Value).1]? = some (some v) ∧ ((i, Value.int x) : Nat × Value).2 = xtr b ad v))
      exact lv_iinc X.1 X.2.1 hd hl.has hk2 rfl (by rw [← hl.2.1]; exact (List.getElem?_eq_some_iff.mp hx).1) rfl (fun ls2 h2 => kk ls2 (xLr.set1 hl hc h2))
    · cases hk
  · cases hk
variable {Kt Kf : XK} {tgt : Nat} {off : Int}
theorem go_two {K' : XK} {pt pf : Nat} (ht : XGo l b D dA ad own cc nL ret ini fr pt Kt) (hf : XGo l b D dA ad own cc nL ret ini fr pf Kf)
    (hs : ∀ (A : List (Option Value)) (st : List Value) (G : XH) (res : XR), K' A st G = some res → ∃ (c : Prop) (st' : List Value), (c → Kt A st' G = some res) ∧ (¬ c → Kf A st' G = some res) ∧
      ∀ (p : Program) (e : Env) (R : Room) (s : State) (m : MethodId) (args : Array Value) (below : List Frame) (meth : Method) (c0 : Code), XCtx b D dA ad own cc nL ret ini fr p R s m args meth c0 →
        ∀ (H : Heap) (locs : List Loc) (cells slots : Nat) (Q : State → Prop) (ls : Array Slot), (c → W p l e R s m args below meth c0 H locs cells slots Q (F0 m pt ls (st'.map (xtr b ad)))) → (¬ c → W p l e R s m args below meth c0 H locs cells slots Q (F0 m pf ls (st'.map (xtr b ad)))) → W p l e R s m args below meth c0 H locs cells slots Q (F0 m pc ls (st.map (xtr b ad)))) :
    XGo l b D dA ad own cc nL ret ini fr pc K' := by
  refine ⟨fun A st G res hk => ?_, fun A st G res hk => ?_⟩
  · obtain ⟨c, st', h1, h2, -⟩ := hs A st G res hk
    by_cases hc : c
    · exact ht.1 _ _ _ _ (h1 hc)
    · exact hf.1 _ _ _ _ (h2 hc)
  · obtain ⟨c, st', h1, h2, h3⟩ := hs A st G res hk
    intro p e R s m args below meth c0 X H locs cells slots mc ms ls hP hS hl hmc hms h4 h5
    exact h3 p e R s m args below meth c0 X H locs cells slots _ ls (fun hc => ht.2 _ _ _ _ (h1 hc) p e R s m args below meth c0 X H locs cells slots mc ms ls hP hS hl hmc hms h4 h5) (fun hc => hf.2 _ _ _ _ (h2 hc) p e R s m args below meth c0 X H locs cells slots mc ms ls hP hS hl hmc hms h4 h5)
def xif_eq (Kt Kf : XK) : XK := fun A st G => match st with
  | .int x :: r => if x = 0 then Kt A r G else Kf A r G
  | _ => none
theorem go_if_eq (hd : decode cc pc = .ok (.ifCond .eq off, 3)) (ht : (pc : Int) + off = (tgt : Int)) (h1 : XGo l b D dA ad own cc nL ret ini fr tgt Kt) (h2 : XGo l b D dA ad own cc nL ret ini fr (pc + 3) Kf) : XGo l b D dA ad own cc nL ret ini fr pc (xif_eq Kt Kf) := by
  refine go_two h1 h2 fun A st G res hk => ?_
  unfold xif_eq at hk
  split at hk
  · exact ⟨_, _, fun hc => by rw [if_pos hc] at hk; exact hk, fun hc => by rw [if_neg hc] at hk; exact hk, fun p e R s m args below meth c0 X H locs cells slots Q ls k1 k2 => lv_if_eq X.1 X.2.1 hd ht k1 k2⟩
  · cases hk
def xicmp_eq (Kt Kf : XK) : XK := fun A st G => match st with
  | .int y :: .int x :: r => if x = y then Kt A r G else Kf A r G
  | _ => none
theorem go_icmp_eq (hd : decode cc pc = .ok (.if_icmp .eq off, 3)) (ht : (pc : Int) + off = (tgt : Int)) (h1 : XGo l b D dA ad own cc nL ret ini fr tgt Kt) (h2 : XGo l b D dA ad own cc nL ret ini fr (pc + 3) Kf) : XGo l b D dA ad own cc nL ret ini fr pc (xicmp_eq Kt Kf) := by
  refine go_two h1 h2 fun A st G res hk => ?_
  unfold xicmp_eq at hk
  split at hk
  · exact ⟨_, _, fun hc => by rw [if_pos hc] at hk; exact hk, fun hc => by rw [if_neg hc] at hk; exact hk, fun p e R s m args below meth c0 X H locs cells slots Q ls k1 k2 => lv_icmp_eq X.1 X.2.1 hd ht k1 k2⟩
  · cases hk
def xif_ne (Kt Kf : XK) : XK := fun A st G => match st with
  | .int x :: r => if x = 0 then Kf A r G else Kt A r G
  | _ => none
theorem go_if_ne (hd : decode cc pc = .ok (.ifCond .ne off, 3)) (ht : (pc : Int) + off = (tgt : Int)) (h1 : XGo l b D dA ad own cc nL ret ini fr tgt Kt) (h2 : XGo l b D dA ad own cc nL ret ini fr (pc + 3) Kf) : XGo l b D dA ad own cc nL ret ini fr pc (xif_ne Kt Kf) := by
  refine go_two h1 h2 fun A st G res hk => ?_
  unfold xif_ne at hk
  split at hk
  · exact ⟨¬ (_ = 0), _, fun hc => by rw [if_neg hc] at hk; exact hk, fun hc => by rw [if_pos (Decidable.not_not.mp hc)] at hk; exact hk, fun p e R s m args below meth c0 X H locs cells slots Q ls k1 k2 => lv_if_ne X.1 X.2.1 hd ht k1 (fun q => k2 (fun z => z q))⟩
  · cases hk
def xicmp_ne (Kt Kf : XK) : XK := fun A st G => match st with
  | .int y :: .int x :: r => if x = y then Kf A r G else Kt A r G
  | _ => none
theorem go_icmp_ne (hd : decode cc pc = .ok (.if_icmp .ne off, 3)) (ht : (pc : Int) + off = (tgt : Int)) (h1 : XGo l b D dA ad own cc nL ret ini fr tgt Kt) (h2 : XGo l b D dA ad own cc nL ret ini fr (pc + 3) Kf) : XGo l b D dA ad own cc nL ret ini fr pc (xicmp_ne Kt Kf) := by
  refine go_two h1 h2 fun A st G res hk => ?_
  unfold xicmp_ne at hk
  split at hk
  · exact ⟨¬ (_ = _), _, fun hc => by rw [if_neg hc] at hk; exact hk, fun hc => by rw [if_pos (Decidable.not_not.mp hc)] at hk; exact hk, fun p e R s m args below meth c0 X H locs cells slots Q ls k1 k2 => lv_icmp_ne X.1 X.2.1 hd ht k1 (fun q => k2 (fun z => z q))⟩
  · cases hk
def xif_lt (Kt Kf : XK) : XK := fun A st G => match st with
  | .int x :: r => if x < 0 then Kt A r G else Kf A r G
  | _ => none
theorem go_if_lt (hd : decode cc pc = .ok (.ifCond .lt off, 3)) (ht : (pc : Int) + off = (tgt : Int)) (h1 : XGo l b D dA ad own cc nL ret ini fr tgt Kt) (h2 : XGo l b D dA ad own cc nL ret ini fr (pc + 3) Kf) : XGo l b D dA ad own cc nL ret ini fr pc (xif_lt Kt Kf) := by
  refine go_two h1 h2 fun A st G res hk => ?_
  unfold xif_lt at hk
  split at hk
  · exact ⟨_, _, fun hc => by rw [if_pos hc] at hk; exact hk, fun hc => by rw [if_neg hc] at hk; exact hk, fun p e R s m args below meth c0 X H locs cells slots Q ls k1 k2 => lv_if_lt X.1 X.2.1 hd ht k1 k2⟩
  · cases hk
def xicmp_lt (Kt Kf : XK) : XK := fun A st G => match st with
  | .int y :: .int x :: r => if x < y then Kt A r G else Kf A r G
  | _ => none
theorem go_icmp_lt (hd : decode cc pc = .ok (.if_icmp .lt off, 3)) (ht : (pc : Int) + off = (tgt : Int)) (h1 : XGo l b D dA ad own cc nL ret ini fr tgt Kt) (h2 : XGo l b D dA ad own cc nL ret ini fr (pc + 3) Kf) : XGo l b D dA ad own cc nL ret ini fr pc (xicmp_lt Kt Kf) := by
  refine go_two h1 h2 fun A st G res hk => ?_
  unfold xicmp_lt at hk
  split at hk
  · exact ⟨_, _, fun hc => by rw [if_pos hc] at hk; exact hk, fun hc => by rw [if_neg hc] at hk; exact hk, fun p e R s m args below meth c0 X H locs cells slots Q ls k1 k2 => lv_icmp_lt X.1 X.2.1 hd ht k1 k2⟩
  · cases hk
def xif_ge (Kt Kf : XK) : XK := fun A st G => match st with
  | .int x :: r => if 0 ≤ x then Kt A r G else Kf A r G
  | _ => none
theorem go_if_ge (hd : decode cc pc = .ok (.ifCond .ge off, 3)) (ht : (pc : Int) + off = (tgt : Int)) (h1 : XGo l b D dA ad own cc nL ret ini fr tgt Kt) (h2 : XGo l b D dA ad own cc nL ret ini fr (pc + 3) Kf) : XGo l b D dA ad own cc nL ret ini fr pc (xif_ge Kt Kf) := by
  refine go_two h1 h2 fun A st G res hk => ?_
  unfold xif_ge at hk
  split at hk
  · exact ⟨_, _, fun hc => by rw [if_pos hc] at hk; exact hk, fun hc => by rw [if_neg hc] at hk; exact hk, fun p e R s m args below meth c0 X H locs cells slots Q ls k1 k2 => lv_if_ge X.1 X.2.1 hd ht k1 k2⟩
  · cases hk
def xicmp_ge (Kt Kf : XK) : XK := fun A st G => match st with
  | .int y :: .int x :: r => if y ≤ x then Kt A r G else Kf A r G
  | _ => none
theorem go_icmp_ge (hd : decode cc pc = .ok (.if_icmp .ge off, 3)) (ht : (pc : Int) + off = (tgt : Int)) (h1 : XGo l b D dA ad own cc nL ret ini fr tgt Kt) (h2 : XGo l b D dA ad own cc nL ret ini fr (pc + 3) Kf) : XGo l b D dA ad own cc nL ret ini fr pc (xicmp_ge Kt Kf) := by
  refine go_two h1 h2 fun A st G res hk => ?_
  unfold xicmp_ge at hk
  split at hk
  · exact ⟨_, _, fun hc => by rw [if_pos hc] at hk; exact hk, fun hc => by rw [if_neg hc] at hk; exact hk, fun p e R s m args below meth c0 X H locs cells slots Q ls k1 k2 => lv_icmp_ge X.1 X.2.1 hd ht k1 k2⟩
  · cases hk
def xif_gt (Kt Kf : XK) : XK := fun A st G => match st with
  | .int x :: r => if 0 < x then Kt A r G else Kf A r G
  | _ => none
theorem go_if_gt (hd : decode cc pc = .ok (.ifCond .gt off, 3)) (ht : (pc : Int) + off = (tgt : Int)) (h1 : XGo l b D dA ad own cc nL ret ini fr tgt Kt) (h2 : XGo l b D dA ad own cc nL ret ini fr (pc + 3) Kf) : XGo l b D dA ad own cc nL ret ini fr pc (xif_gt Kt Kf) := by
  refine go_two h1 h2 fun A st G res hk => ?_
  unfold xif_gt at hk
  split at hk
  · exact ⟨_, _, fun hc => by rw [if_pos hc] at hk; exact hk, fun hc => by rw [if_neg hc] at hk; exact hk, fun p e R s m args below meth c0 X H locs cells slots Q ls k1 k2 => lv_if_gt X.1 X.2.1 hd ht k1 k2⟩
  · cases hk
def xicmp_gt (Kt Kf : XK) : XK := fun A st G => match st with
  | .int y :: .int x :: r => if y < x then Kt A r G else Kf A r G
  | _ => none
theorem go_icmp_gt (hd : decode cc pc = .ok (.if_icmp .gt off, 3)) (ht : (pc : Int) + off = (tgt : Int)) (h1 : XGo l b D dA ad own cc nL ret ini fr tgt Kt) (h2 : XGo l b D dA ad own cc nL ret ini fr (pc + 3) Kf) : XGo l b D dA ad own cc nL ret ini fr pc (xicmp_gt Kt Kf) := by
  refine go_two h1 h2 fun A st G res hk => ?_
  unfold xicmp_gt at hk
  split at hk
  · exact ⟨_, _, fun hc => by rw [if_pos hc] at hk; exact hk, fun hc => by rw [if_neg hc] at hk; exact hk, fun p e R s m args below meth c0 X H locs cells slots Q ls k1 k2 => lv_icmp_gt X.1 X.2.1 hd ht k1 k2⟩
  · cases hk
def xif_le (Kt Kf : XK) : XK := fun A st G => match st with
  | .int x :: r => if x ≤ 0 then Kt A r G else Kf A r G
  | _ => none
theorem go_if_le (hd : decode cc pc = .ok (.ifCond .le off, 3)) (ht : (pc : Int) + off = (tgt : Int)) (h1 : XGo l b D dA ad own cc nL ret ini fr tgt Kt) (h2 : XGo l b D dA ad own cc nL ret ini fr (pc + 3) Kf) : XGo l b D dA ad own cc nL ret ini fr pc (xif_le Kt Kf) := by
  refine go_two h1 h2 fun A st G res hk => ?_
  unfold xif_le at hk
  split at hk
  · exact ⟨_, _, fun hc => by rw [if_pos hc] at hk; exact hk, fun hc => by rw [if_neg hc] at hk; exact hk, fun p e R s m args below meth c0 X H locs cells slots Q ls k1 k2 => lv_if_le X.1 X.2.1 hd ht k1 k2⟩
  · cases hk
def xicmp_le (Kt Kf : XK) : XK := fun A st G => match st with
  | .int y :: .int x :: r => if x ≤ y then Kt A r G else Kf A r G
  | _ => none
theorem go_icmp_le (hd : decode cc pc = .ok (.if_icmp .le off, 3)) (ht : (pc : Int) + off = (tgt : Int)) (h1 : XGo l b D dA ad own cc nL ret ini fr tgt Kt) (h2 : XGo l b D dA ad own cc nL ret ini fr (pc + 3) Kf) : XGo l b D dA ad own cc nL ret ini fr pc (xicmp_le Kt Kf) := by
  refine go_two h1 h2 fun A st G res hk => ?_
  unfold xicmp_le at hk
  split at hk
  · exact ⟨_, _, fun hc => by rw [if_pos hc] at hk; exact hk, fun hc => by rw [if_neg hc] at hk; exact hk, fun p e R s m args below meth c0 X H locs cells slots Q ls k1 k2 => lv_icmp_le X.1 X.2.1 hd ht k1 k2⟩
  · cases hk
theorem go_goto (hd : decode cc pc = .ok (.goto off, 3)) (ht : (pc : Int) + off = (tgt : Int)) (h : XGo l b D dA ad own cc nL ret ini fr tgt K) : XGo l b D dA ad own cc nL ret ini fr pc K :=
  go_pure h fun A st G res hk => ⟨A, st, hk, fun p e R s m args below meth c X H locs cells slots Q ls hP hS hl kk => lv_goto X.1 X.2.1 hd ht (kk ls hl)⟩
end PU
