-- TearPostModel.drawn
def k_Mdl_drawn_47 : XK := (xIret ())
theorem g_Mdl_drawn_47 {l : Launch} {b : Nat} {D : va_G} {dA : Nat → ClassId} {ad : Nat → Option Nat} : XGo l b D dA ad "TearPostModel" c_Mdl_drawn 3 (some .int) false 2 47 (k_Mdl_drawn_47) := by
  unfold k_Mdl_drawn_47
  exact (go_iret rfl (by decide +kernel))
def k_Mdl_drawn_46 : XK := (xI (-1) k_Mdl_drawn_47)
theorem g_Mdl_drawn_46 {l : Launch} {b : Nat} {D : va_G} {dA : Nat → ClassId} {ad : Nat → Option Nat} : XGo l b D dA ad "TearPostModel" c_Mdl_drawn 3 (some .int) false 2 46 (k_Mdl_drawn_46) := by
  unfold k_Mdl_drawn_46
  exact (go_iconst (n := (-1)) (by decide +kernel) rfl (g_Mdl_drawn_47))
def k_Mdl_drawn_0 : XK := (xAld 0 (xI 0 (xPutI 11 0 (xIld 1 (xi2l (xL 0 (xAld 0 (xGetI 11 64 (xi2l (xL 1 (xlsub (xCallS 3 D_Mdl_in (xif_eq k_Mdl_drawn_46 (xIld 2 (xi2l (xL 0 (xL 2 (xCallS 3 D_Mdl_in (xif_eq k_Mdl_drawn_46 (xAld 0 (xGetR 11 63 (xI 3 (xIld 1 (ximul (xIld 2 (xiadd (xIaldh k_Mdl_drawn_47)))))))))))))))))))))))))))
theorem g_Mdl_drawn_0 {l : Launch} {b : Nat} {D : va_G} {dA : Nat → ClassId} {ad : Nat → Option Nat} : XGo l b D dA ad "TearPostModel" c_Mdl_drawn 3 (some .int) false 2 0 (k_Mdl_drawn_0) := by
  unfold k_Mdl_drawn_0
  exact (go_aload_n (k := 0) (by decide +kernel) rfl (go_iconst (n := 0) (by decide +kernel) rfl (go_putI fw_Mdl_164 (fun h => by cases h) (by decide +kernel) (go_iload_n (k := 1) (by decide +kernel) rfl (go_i2l (by decide +kernel) (go_lconst (n := 0) (by decide +kernel) rfl (go_aload_n (k := 0) (by decide +kernel) rfl (go_getI fr_Mdl_161 (by decide +kernel) (go_i2l (by decide +kernel) (go_lconst (n := 1) (by decide +kernel) rfl (go_lsub (by decide +kernel) (go_callS m_Mdl_in ml_Mdl_184 wt_Mdl_in (by decide) (by decide +kernel) (go_if_eq (off := 28) (tgt := 46) (by decide +kernel) (by decide +kernel) (g_Mdl_drawn_46) (go_iload_n (k := 2) (by decide +kernel) rfl (go_i2l (by decide +kernel) (go_lconst (n := 0) (by decide +kernel) rfl (go_ldc2 (by decide +kernel) wc_Mdl_581 (go_callS m_Mdl_in ml_Mdl_184 wt_Mdl_in (by decide) (by decide +kernel) (go_if_eq (off := 16) (tgt := 46) (by decide +kernel) (by decide +kernel) (g_Mdl_drawn_46) (go_aload_n (k := 0) (by decide +kernel) rfl (go_getR fr_Mdl_158 (by decide +kernel) (go_iconst (n := 3) (by decide +kernel) rfl (go_iload_n (k := 1) (by decide +kernel) rfl (go_imul (by decide +kernel) (go_iload_n (k := 2) (by decide +kernel) rfl (go_iadd (by decide +kernel) (go_iaload (by decide +kernel) (go_goto (off := 4) (tgt := 47) (by decide +kernel) (by decide +kernel) (g_Mdl_drawn_47)))))))))))))))))))))))))))))
def D_Mdl_drawn : XD := xfun 3 (k_Mdl_drawn_0)
theorem m_Mdl_drawn {l : Launch} {b : Nat} {D : va_G} {dA : Nat → ClassId} {ad : Nat → Option Nat} : XMet l b D dA ad y_Mdl_drawn c_Mdl_drawn 3 (some .int) 2 (D_Mdl_drawn) := xmet_of (ini := false) (by decide +kernel) (fun h => by cases h) (g_Mdl_drawn_0)
-- TearPostModel.held
def k_Mdl_held_28 (K4 : XK) : XK := (xiadd (xIst 1 (xIinc 2 1 K4)))
theorem g_Mdl_held_28 {l : Launch} {b : Nat} {D : va_G} {dA : Nat → ClassId} {ad : Nat → Option Nat} {K4 : XK} (h4 : XGo l b D dA ad "TearPostModel" c_Mdl_held 3 (some .int) false 3 4 K4) : XGo l b D dA ad "TearPostModel" c_Mdl_held 3 (some .int) false 3 28 (k_Mdl_held_28 K4) := by
  unfold k_Mdl_held_28
  exact (go_iadd (by decide +kernel) (go_istore_n (k := 1) (by decide +kernel) rfl (go_iinc (by decide +kernel) (go_goto (off := (-29)) (tgt := 4) (by decide +kernel) (by decide +kernel) h4))))
def f_Mdl_held_4 (K4 : XK) : XK := (xIld 2 (xAld 0 (xGetR 11 3 (xI 2 (xIaldh (xicmp_ge (xIld 1 (xIret ())) (xIld 1 (xAld 0 (xIld 2 (xCallV 11 1 D_Mdl_isHeld (xif_eq (xI 0 (k_Mdl_held_28 K4)) (xI 1 (k_Mdl_held_28 K4)))))))))))))
def k_Mdl_held_4 : XK := xloop (f_Mdl_held_4) NF
theorem g_Mdl_held_4 {l : Launch} {b : Nat} {D : va_G} {dA : Nat → ClassId} {ad : Nat → Option Nat} : XGo l b D dA ad "TearPostModel" c_Mdl_held 3 (some .int) false 3 4 (k_Mdl_held_4) := by
  unfold k_Mdl_held_4
  refine go_loop (fun K4 h4 => ?_) NF
  unfold f_Mdl_held_4
  exact (go_iload_n (k := 2) (by decide +kernel) rfl (go_aload_n (k := 0) (by decide +kernel) rfl (go_getR fr_Mdl_13 (by decide +kernel) (go_iconst (n := 2) (by decide +kernel) rfl (go_iaload (by decide +kernel) (go_icmp_ge (off := 25) (tgt := 36) (by decide +kernel) (by decide +kernel) (go_iload_n (k := 1) (by decide +kernel) rfl (go_iret rfl (by decide +kernel))) (go_iload_n (k := 1) (by decide +kernel) rfl (go_aload_n (k := 0) (by decide +kernel) rfl (go_iload_n (k := 2) (by decide +kernel) rfl (go_callV cl_Mdl m_Mdl_isHeld ml_Mdl_480 rfl wi_Mdl_isHeld ws_Mdl_isHeld (by decide) (by decide +kernel) (go_if_eq (off := 7) (tgt := 27) (by decide +kernel) (by decide +kernel) (go_iconst (n := 0) (by decide +kernel) rfl (g_Mdl_held_28 h4)) (go_iconst (n := 1) (by decide +kernel) rfl (go_goto (off := 4) (tgt := 28) (by decide +kernel) (by decide +kernel) (g_Mdl_held_28 h4))))))))))))))
def k_Mdl_held_0 : XK := (xI 0 (xIst 1 (xI 0 (xIst 2 k_Mdl_held_4))))
theorem g_Mdl_held_0 {l : Launch} {b : Nat} {D : va_G} {dA : Nat → ClassId} {ad : Nat → Option Nat} : XGo l b D dA ad "TearPostModel" c_Mdl_held 3 (some .int) false 3 0 (k_Mdl_held_0) := by
  unfold k_Mdl_held_0
  exact (go_iconst (n := 0) (by decide +kernel) rfl (go_istore_n (k := 1) (by decide +kernel) rfl (go_iconst (n := 0) (by decide +kernel) rfl (go_istore_n (k := 2) (by decide +kernel) rfl (g_Mdl_held_4)))))
def D_Mdl_held : XD := xfun 3 (k_Mdl_held_0)
theorem m_Mdl_held {l : Launch} {b : Nat} {D : va_G} {dA : Nat → ClassId} {ad : Nat → Option Nat} : XMet l b D dA ad y_Mdl_held c_Mdl_held 3 (some .int) 3 (D_Mdl_held) := xmet_of (ini := false) (by decide +kernel) (fun h => by cases h) (g_Mdl_held_0)
-- TearPostModel.count
def k_Mdl_count_162 : XK := (xAld 0 (xGetR 11 3 (xI 8 (xIaldh (xIret ())))))
theorem g_Mdl_count_162 {l : Launch} {b : Nat} {D : va_G} {dA : Nat → ClassId} {ad : Nat → Option Nat} : XGo l b D dA ad "TearPostModel" c_Mdl_count 2 (some .int) false 4 162 (k_Mdl_count_162) := by
  unfold k_Mdl_count_162
  exact (go_aload_n (k := 0) (by decide +kernel) rfl (go_getR fr_Mdl_13 (by decide +kernel) (go_bipush (n := 8) (by decide +kernel) (by decide +kernel) (go_iaload (by decide +kernel) (go_iret rfl (by decide +kernel))))))
def k_Mdl_count_155 : XK := (xAld 0 (xGetR 11 3 (xI 4 (xIaldh (xIret ())))))
theorem g_Mdl_count_155 {l : Launch} {b : Nat} {D : va_G} {dA : Nat → ClassId} {ad : Nat → Option Nat} : XGo l b D dA ad "TearPostModel" c_Mdl_count 2 (some .int) false 4 155 (k_Mdl_count_155) := by
  unfold k_Mdl_count_155
  exact (go_aload_n (k := 0) (by decide +kernel) rfl (go_getR fr_Mdl_13 (by decide +kernel) (go_iconst (n := 4) (by decide +kernel) rfl (go_iaload (by decide +kernel) (go_iret rfl (by decide +kernel))))))
def k_Mdl_count_147 : XK := (xAld 0 (xGetR 11 2 (xI 6 (xIaldh (xIret ())))))
theorem g_Mdl_count_147 {l : Launch} {b : Nat} {D : va_G} {dA : Nat → ClassId} {ad : Nat → Option Nat} : XGo l b D dA ad "TearPostModel" c_Mdl_count 2 (some .int) false 4 147 (k_Mdl_count_147) := by
  unfold k_Mdl_count_147
  exact (go_aload_n (k := 0) (by decide +kernel) rfl (go_getR fr_Mdl_7 (by decide +kernel) (go_bipush (n := 6) (by decide +kernel) (by decide +kernel) (go_iaload (by decide +kernel) (go_iret rfl (by decide +kernel))))))
def k_Mdl_count_140 : XK := (xAld 0 (xGetR 11 2 (xI 5 (xIaldh (xIret ())))))
theorem g_Mdl_count_140 {l : Launch} {b : Nat} {D : va_G} {dA : Nat → ClassId} {ad : Nat → Option Nat} : XGo l b D dA ad "TearPostModel" c_Mdl_count 2 (some .int) false 4 140 (k_Mdl_count_140) := by
  unfold k_Mdl_count_140
  exact (go_aload_n (k := 0) (by decide +kernel) rfl (go_getR fr_Mdl_7 (by decide +kernel) (go_iconst (n := 5) (by decide +kernel) rfl (go_iaload (by decide +kernel) (go_iret rfl (by decide +kernel))))))
def k_Mdl_count_133 : XK := (xAld 0 (xGetR 11 2 (xI 3 (xIaldh (xIret ())))))
theorem g_Mdl_count_133 {l : Launch} {b : Nat} {D : va_G} {dA : Nat → ClassId} {ad : Nat → Option Nat} : XGo l b D dA ad "TearPostModel" c_Mdl_count 2 (some .int) false 4 133 (k_Mdl_count_133) := by
  unfold k_Mdl_count_133
  exact (go_aload_n (k := 0) (by decide +kernel) rfl (go_getR fr_Mdl_7 (by decide +kernel) (go_iconst (n := 3) (by decide +kernel) rfl (go_iaload (by decide +kernel) (go_iret rfl (by decide +kernel))))))
def k_Mdl_count_126 : XK := (xAld 0 (xGetR 11 2 (xI 2 (xIaldh (xIret ())))))
theorem g_Mdl_count_126 {l : Launch} {b : Nat} {D : va_G} {dA : Nat → ClassId} {ad : Nat → Option Nat} : XGo l b D dA ad "TearPostModel" c_Mdl_count 2 (some .int) false 4 126 (k_Mdl_count_126) := by
  unfold k_Mdl_count_126
  exact (go_aload_n (k := 0) (by decide +kernel) rfl (go_getR fr_Mdl_7 (by decide +kernel) (go_iconst (n := 2) (by decide +kernel) rfl (go_iaload (by decide +kernel) (go_iret rfl (by decide +kernel))))))
def k_Mdl_count_119 : XK := (xAld 0 (xGetR 11 2 (xI 1 (xIaldh (xIret ())))))
theorem g_Mdl_count_119 {l : Launch} {b : Nat} {D : va_G} {dA : Nat → ClassId} {ad : Nat → Option Nat} : XGo l b D dA ad "TearPostModel" c_Mdl_count 2 (some .int) false 4 119 (k_Mdl_count_119) := by
  unfold k_Mdl_count_119
  exact (go_aload_n (k := 0) (by decide +kernel) rfl (go_getR fr_Mdl_7 (by decide +kernel) (go_iconst (n := 1) (by decide +kernel) rfl (go_iaload (by decide +kernel) (go_iret rfl (by decide +kernel))))))
def k_Mdl_count_114 : XK := (xAld 0 (xGetI 11 13 (xIret ())))
theorem g_Mdl_count_114 {l : Launch} {b : Nat} {D : va_G} {dA : Nat → ClassId} {ad : Nat → Option Nat} : XGo l b D dA ad "TearPostModel" c_Mdl_count 2 (some .int) false 4 114 (k_Mdl_count_114) := by
  unfold k_Mdl_count_114
  exact (go_aload_n (k := 0) (by decide +kernel) rfl (go_getI fr_Mdl_224 (by decide +kernel) (go_iret rfl (by decide +kernel))))
def k_Mdl_count_109 : XK := (xAld 0 (xGetI 11 8 (xIret ())))
theorem g_Mdl_count_109 {l : Launch} {b : Nat} {D : va_G} {dA : Nat → ClassId} {ad : Nat → Option Nat} : XGo l b D dA ad "TearPostModel" c_Mdl_count 2 (some .int) false 4 109 (k_Mdl_count_109) := by
  unfold k_Mdl_count_109
  exact (go_aload_n (k := 0) (by decide +kernel) rfl (go_getI fr_Mdl_170 (by decide +kernel) (go_iret rfl (by decide +kernel))))
def k_Mdl_count_102 : XK := (xAld 0 (xGetR 11 3 (xI 3 (xIaldh (xIret ())))))
theorem g_Mdl_count_102 {l : Launch} {b : Nat} {D : va_G} {dA : Nat → ClassId} {ad : Nat → Option Nat} : XGo l b D dA ad "TearPostModel" c_Mdl_count 2 (some .int) false 4 102 (k_Mdl_count_102) := by
  unfold k_Mdl_count_102
  exact (go_aload_n (k := 0) (by decide +kernel) rfl (go_getR fr_Mdl_13 (by decide +kernel) (go_iconst (n := 3) (by decide +kernel) rfl (go_iaload (by decide +kernel) (go_iret rfl (by decide +kernel))))))
def k_Mdl_count_97 : XK := (xAld 0 (xCallV 11 0 D_Mdl_held (xIret ())))
theorem g_Mdl_count_97 {l : Launch} {b : Nat} {D : va_G} {dA : Nat → ClassId} {ad : Nat → Option Nat} : XGo l b D dA ad "TearPostModel" c_Mdl_count 2 (some .int) false 4 97 (k_Mdl_count_97) := by
  unfold k_Mdl_count_97
  exact (go_aload_n (k := 0) (by decide +kernel) rfl (go_callV cl_Mdl m_Mdl_held ml_Mdl_583 rfl wi_Mdl_held ws_Mdl_held (by decide) (by decide +kernel) (go_iret rfl (by decide +kernel))))
def k_Mdl_count_90 : XK := (xAld 0 (xGetR 11 3 (xI 2 (xIaldh (xIret ())))))
theorem g_Mdl_count_90 {l : Launch} {b : Nat} {D : va_G} {dA : Nat → ClassId} {ad : Nat → Option Nat} : XGo l b D dA ad "TearPostModel" c_Mdl_count 2 (some .int) false 4 90 (k_Mdl_count_90) := by
  unfold k_Mdl_count_90
  exact (go_aload_n (k := 0) (by decide +kernel) rfl (go_getR fr_Mdl_13 (by decide +kernel) (go_iconst (n := 2) (by decide +kernel) rfl (go_iaload (by decide +kernel) (go_iret rfl (by decide +kernel))))))
def k_Mdl_count_83 : XK := (xAld 0 (xGetR 11 3 (xI 1 (xIaldh (xIret ())))))
theorem g_Mdl_count_83 {l : Launch} {b : Nat} {D : va_G} {dA : Nat → ClassId} {ad : Nat → Option Nat} : XGo l b D dA ad "TearPostModel" c_Mdl_count 2 (some .int) false 4 83 (k_Mdl_count_83) := by
  unfold k_Mdl_count_83
  exact (go_aload_n (k := 0) (by decide +kernel) rfl (go_getR fr_Mdl_13 (by decide +kernel) (go_iconst (n := 1) (by decide +kernel) rfl (go_iaload (by decide +kernel) (go_iret rfl (by decide +kernel))))))
def k_Mdl_count_76 : XK := (xAld 0 (xGetR 11 3 (xI 0 (xIaldh (xIret ())))))
theorem g_Mdl_count_76 {l : Launch} {b : Nat} {D : va_G} {dA : Nat → ClassId} {ad : Nat → Option Nat} : XGo l b D dA ad "TearPostModel" c_Mdl_count 2 (some .int) false 4 76 (k_Mdl_count_76) := by
  unfold k_Mdl_count_76
  exact (go_aload_n (k := 0) (by decide +kernel) rfl (go_getR fr_Mdl_13 (by decide +kernel) (go_iconst (n := 0) (by decide +kernel) rfl (go_iaload (by decide +kernel) (go_iret rfl (by decide +kernel))))))
def k_Mdl_count_199 : XK := (xIret ())
theorem g_Mdl_count_199 {l : Launch} {b : Nat} {D : va_G} {dA : Nat → ClassId} {ad : Nat → Option Nat} : XGo l b D dA ad "TearPostModel" c_Mdl_count 2 (some .int) false 4 199 (k_Mdl_count_199) := by
  unfold k_Mdl_count_199
  exact (go_iret rfl (by decide +kernel))
def k_Mdl_count_170 : XK := (xIld 1 (xi2l (xL 14 (xL 16 (xCallS 3 D_Mdl_in (xif_eq (xI (-1) k_Mdl_count_199) (xAld 0 (xGetR 11 3 (xI 5 (xIld 1 (xiadd (xI 14 (xisub (xIaldh k_Mdl_count_199))))))))))))))
theorem g_Mdl_count_170 {l : Launch} {b : Nat} {D : va_G} {dA : Nat → ClassId} {ad : Nat → Option Nat} : XGo l b D dA ad "TearPostModel" c_Mdl_count 2 (some .int) false 4 170 (k_Mdl_count_170) := by
  unfold k_Mdl_count_170
  exact (go_iload_n (k := 1) (by decide +kernel) rfl (go_i2l (by decide +kernel) (go_ldc2 (by decide +kernel) wc_Mdl_586 (go_ldc2 (by decide +kernel) wc_Mdl_588 (go_callS m_Mdl_in ml_Mdl_184 wt_Mdl_in (by decide) (by decide +kernel) (go_if_eq (off := 17) (tgt := 198) (by decide +kernel) (by decide +kernel) (go_iconst (n := (-1)) (by decide +kernel) rfl (g_Mdl_count_199)) (go_aload_n (k := 0) (by decide +kernel) rfl (go_getR fr_Mdl_13 (by decide +kernel) (go_iconst (n := 5) (by decide +kernel) rfl (go_iload_n (k := 1) (by decide +kernel) rfl (go_iadd (by decide +kernel) (go_bipush (n := 14) (by decide +kernel) (by decide +kernel) (go_isub (by decide +kernel) (go_iaload (by decide +kernel) (go_goto (off := 4) (tgt := 199) (by decide +kernel) (by decide +kernel) (g_Mdl_count_199))))))))))))))))
def k_Mdl_count_0 : XK := (xAld 0 (xI 0 (xPutI 11 0 (xIld 1 (xTab 0 13 [k_Mdl_count_76, k_Mdl_count_83, k_Mdl_count_90, k_Mdl_count_97, k_Mdl_count_102, k_Mdl_count_109, k_Mdl_count_114, k_Mdl_count_119, k_Mdl_count_126, k_Mdl_count_133, k_Mdl_count_140, k_Mdl_count_147, k_Mdl_count_155, k_Mdl_count_162] k_Mdl_count_170)))))
theorem g_Mdl_count_0 {l : Launch} {b : Nat} {D : va_G} {dA : Nat → ClassId} {ad : Nat → Option Nat} : XGo l b D dA ad "TearPostModel" c_Mdl_count 2 (some .int) false 4 0 (k_Mdl_count_0) := by
  unfold k_Mdl_count_0
  exact (go_aload_n (k := 0) (by decide +kernel) rfl (go_iconst (n := 0) (by decide +kernel) rfl (go_putI fw_Mdl_164 (fun h => by cases h) (by decide +kernel) (go_iload_n (k := 1) (by decide +kernel) rfl (go_tab (dflt := 164) (tgt := 170) (os := [70, 77, 84, 91, 96, 103, 108, 113, 120, 127, 134, 141, 149, 156]) (len := 70) (by decide +kernel) (by decide +kernel) (g_Mdl_count_170) ⟨⟨76, (by decide +kernel), (g_Mdl_count_76)⟩, ⟨83, (by decide +kernel), (g_Mdl_count_83)⟩, ⟨90, (by decide +kernel), (g_Mdl_count_90)⟩, ⟨97, (by decide +kernel), (g_Mdl_count_97)⟩, ⟨102, (by decide +kernel), (g_Mdl_count_102)⟩, ⟨109, (by decide +kernel), (g_Mdl_count_109)⟩, ⟨114, (by decide +kernel), (g_Mdl_count_114)⟩, ⟨119, (by decide +kernel), (g_Mdl_count_119)⟩, ⟨126, (by decide +kernel), (g_Mdl_count_126)⟩, ⟨133, (by decide +kernel), (g_Mdl_count_133)⟩, ⟨140, (by decide +kernel), (g_Mdl_count_140)⟩, ⟨147, (by decide +kernel), (g_Mdl_count_147)⟩, ⟨155, (by decide +kernel), (g_Mdl_count_155)⟩, ⟨162, (by decide +kernel), (g_Mdl_count_162)⟩, trivial⟩)))))
def D_Mdl_count : XD := xfun 2 (k_Mdl_count_0)
theorem m_Mdl_count {l : Launch} {b : Nat} {D : va_G} {dA : Nat → ClassId} {ad : Nat → Option Nat} : XMet l b D dA ad y_Mdl_count c_Mdl_count 2 (some .int) 4 (D_Mdl_count) := xmet_of (ini := false) (by decide +kernel) (fun h => by cases h) (g_Mdl_count_0)
-- TearPostModel.status
def k_Mdl_status_0 : XK := (xAld 0 (xI 0 (xPutI 11 0 (xAld 0 (xGetI 11 1 (xIret ()))))))
theorem g_Mdl_status_0 {l : Launch} {b : Nat} {D : va_G} {dA : Nat → ClassId} {ad : Nat → Option Nat} : XGo l b D dA ad "TearPostModel" c_Mdl_status 1 (some .int) false 1 0 (k_Mdl_status_0) := by
  unfold k_Mdl_status_0
  exact (go_aload_n (k := 0) (by decide +kernel) rfl (go_iconst (n := 0) (by decide +kernel) rfl (go_putI fw_Mdl_164 (fun h => by cases h) (by decide +kernel) (go_aload_n (k := 0) (by decide +kernel) rfl (go_getI fr_Mdl_167 (by decide +kernel) (go_iret rfl (by decide +kernel)))))))
def D_Mdl_status : XD := xfun 1 (k_Mdl_status_0)
theorem m_Mdl_status {l : Launch} {b : Nat} {D : va_G} {dA : Nat → ClassId} {ad : Nat → Option Nat} : XMet l b D dA ad y_Mdl_status c_Mdl_status 1 (some .int) 1 (D_Mdl_status) := xmet_of (ini := false) (by decide +kernel) (fun h => by cases h) (g_Mdl_status_0)
