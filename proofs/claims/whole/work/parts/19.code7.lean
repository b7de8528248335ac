-- TearPostModel.isLetter
def k_Mdl_isLetter_0 : XK := (xIld 1 (xi2l (xL 0 (xAld 0 (xGetR 11 3 (xI 2 (xIaldh (xi2l (xL 1 (xlsub (xCallS 3 D_Mdl_in (xZret ()))))))))))))
theorem g_Mdl_isLetter_0 {l : Launch} {b : Nat} {D : va_G} {dA : Nat → ClassId} {ad : Nat → Option Nat} : XGo l b D dA ad "TearPostModel" c_Mdl_isLetter 2 (some .boolean) false 2 0 (k_Mdl_isLetter_0) := by
  unfold k_Mdl_isLetter_0
  exact (go_iload_n (k := 1) (by decide +kernel) rfl (go_i2l (by decide +kernel) (go_lconst (n := 0) (by decide +kernel) rfl (go_aload_n (k := 0) (by decide +kernel) rfl (go_getR fr_Mdl_13 (by decide +kernel) (go_iconst (n := 2) (by decide +kernel) rfl (go_iaload (by decide +kernel) (go_i2l (by decide +kernel) (go_lconst (n := 1) (by decide +kernel) rfl (go_lsub (by decide +kernel) (go_callS m_Mdl_in ml_Mdl_184 wt_Mdl_in (by decide) (by decide +kernel) (go_zret rfl (by decide +kernel)))))))))))))
def D_Mdl_isLetter : XD := xfun 2 (k_Mdl_isLetter_0)
theorem m_Mdl_isLetter {l : Launch} {b : Nat} {D : va_G} {dA : Nat → ClassId} {ad : Nat → Option Nat} : XMet l b D dA ad y_Mdl_isLetter c_Mdl_isLetter 2 (some .boolean) 2 (D_Mdl_isLetter) := xmet_of (ini := false) (by decide +kernel) (fun h => by cases h) (g_Mdl_isLetter_0)
-- TearPostModel.ofLetter
def k_Mdl_ofLetter_0 : XK := (xAld 0 (xGetR 11 3 (xI 57 (xI 7 (xIld 1 (ximul (xiadd (xIld 2 (xiadd (xIaldh (xIret ())))))))))))
theorem g_Mdl_ofLetter_0 {l : Launch} {b : Nat} {D : va_G} {dA : Nat → ClassId} {ad : Nat → Option Nat} : XGo l b D dA ad "TearPostModel" c_Mdl_ofLetter 3 (some .int) false 1 0 (k_Mdl_ofLetter_0) := by
  unfold k_Mdl_ofLetter_0
  exact (go_aload_n (k := 0) (by decide +kernel) rfl (go_getR fr_Mdl_13 (by decide +kernel) (go_bipush (n := 57) (by decide +kernel) (by decide +kernel) (go_bipush (n := 7) (by decide +kernel) (by decide +kernel) (go_iload_n (k := 1) (by decide +kernel) rfl (go_imul (by decide +kernel) (go_iadd (by decide +kernel) (go_iload_n (k := 2) (by decide +kernel) rfl (go_iadd (by decide +kernel) (go_iaload (by decide +kernel) (go_iret rfl (by decide +kernel))))))))))))
def D_Mdl_ofLetter : XD := xfun 3 (k_Mdl_ofLetter_0)
theorem m_Mdl_ofLetter {l : Launch} {b : Nat} {D : va_G} {dA : Nat → ClassId} {ad : Nat → Option Nat} : XMet l b D dA ad y_Mdl_ofLetter c_Mdl_ofLetter 3 (some .int) 1 (D_Mdl_ofLetter) := xmet_of (ini := false) (by decide +kernel) (fun h => by cases h) (g_Mdl_ofLetter_0)
-- TearPostModel.at
def k_Mdl_at_35 : XK := (xIret ())
theorem g_Mdl_at_35 {l : Launch} {b : Nat} {D : va_G} {dA : Nat → ClassId} {ad : Nat → Option Nat} : XGo l b D dA ad "TearPostModel" c_Mdl_at 3 (some .int) false 3 35 (k_Mdl_at_35) := by
  unfold k_Mdl_at_35
  exact (go_iret rfl (by decide +kernel))
def k_Mdl_at_34 : XK := (xI (-1) k_Mdl_at_35)
theorem g_Mdl_at_34 {l : Launch} {b : Nat} {D : va_G} {dA : Nat → ClassId} {ad : Nat → Option Nat} : XGo l b D dA ad "TearPostModel" c_Mdl_at 3 (some .int) false 3 34 (k_Mdl_at_34) := by
  unfold k_Mdl_at_34
  exact (go_iconst (n := (-1)) (by decide +kernel) rfl (g_Mdl_at_35))
def k_Mdl_at_0 : XK := (xAld 0 (xI 0 (xPutI 11 0 (xAld 0 (xIld 1 (xCallV 11 1 D_Mdl_isLetter (xif_eq k_Mdl_at_34 (xIld 2 (xi2l (xL 0 (xL 6 (xCallS 3 D_Mdl_in (xif_eq k_Mdl_at_34 (xAld 0 (xIld 1 (xIld 2 (xCallV 11 2 D_Mdl_ofLetter k_Mdl_at_35)))))))))))))))))
theorem g_Mdl_at_0 {l : Launch} {b : Nat} {D : va_G} {dA : Nat → ClassId} {ad : Nat → Option Nat} : XGo l b D dA ad "TearPostModel" c_Mdl_at 3 (some .int) false 3 0 (k_Mdl_at_0) := by
  unfold k_Mdl_at_0
  exact (go_aload_n (k := 0) (by decide +kernel) rfl (go_iconst (n := 0) (by decide +kernel) rfl (go_putI fw_Mdl_164 (fun h => by cases h) (by decide +kernel) (go_aload_n (k := 0) (by decide +kernel) rfl (go_iload_n (k := 1) (by decide +kernel) rfl (go_callV cl_Mdl m_Mdl_isLetter ml_Mdl_219 rfl wi_Mdl_isLetter ws_Mdl_isLetter (by decide) (by decide +kernel) (go_if_eq (off := 24) (tgt := 34) (by decide +kernel) (by decide +kernel) (g_Mdl_at_34) (go_iload_n (k := 2) (by decide +kernel) rfl (go_i2l (by decide +kernel) (go_lconst (n := 0) (by decide +kernel) rfl (go_ldc2 (by decide +kernel) wc_Mdl_208 (go_callS m_Mdl_in ml_Mdl_184 wt_Mdl_in (by decide) (by decide +kernel) (go_if_eq (off := 12) (tgt := 34) (by decide +kernel) (by decide +kernel) (g_Mdl_at_34) (go_aload_n (k := 0) (by decide +kernel) rfl (go_iload_n (k := 1) (by decide +kernel) rfl (go_iload_n (k := 2) (by decide +kernel) rfl (go_callV cl_Mdl m_Mdl_ofLetter ml_Mdl_191 rfl wi_Mdl_ofLetter ws_Mdl_ofLetter (by decide) (by decide +kernel) (go_goto (off := 4) (tgt := 35) (by decide +kernel) (by decide +kernel) (g_Mdl_at_35)))))))))))))))))))
def D_Mdl_at : XD := xfun 3 (k_Mdl_at_0)
theorem m_Mdl_at {l : Launch} {b : Nat} {D : va_G} {dA : Nat → ClassId} {ad : Nat → Option Nat} : XMet l b D dA ad y_Mdl_at c_Mdl_at 3 (some .int) 3 (D_Mdl_at) := xmet_of (ini := false) (by decide +kernel) (fun h => by cases h) (g_Mdl_at_0)
-- TearPostModel.terms
def k_Mdl_terms_60 : XK := (xIst 3 (xIld 3 (xif_ne (xAld 0 (xI 0 (xPutI 11 8 (xAld 0 (xI 5 (xIld 1 (xiadd (xIld 2 (xCallV 11 2 D_Mdl_change (xIret ())))))))))) (xAld 0 (xI (-1) (xCallV 11 1 D_Mdl_tell (xIret ())))))))
theorem g_Mdl_terms_60 {l : Launch} {b : Nat} {D : va_G} {dA : Nat → ClassId} {ad : Nat → Option Nat} : XGo l b D dA ad "TearPostModel" c_Mdl_terms 4 (some .int) false 2 60 (k_Mdl_terms_60) := by
  unfold k_Mdl_terms_60
  exact (go_istore_n (k := 3) (by decide +kernel) rfl (go_iload_n (k := 3) (by decide +kernel) rfl (go_if_ne (off := 9) (tgt := 71) (by decide +kernel) (by decide +kernel) (go_aload_n (k := 0) (by decide +kernel) rfl (go_iconst (n := 0) (by decide +kernel) rfl (go_putI fw_Mdl_170 (fun h => by cases h) (by decide +kernel) (go_aload_n (k := 0) (by decide +kernel) rfl (go_iconst (n := 5) (by decide +kernel) rfl (go_iload_n (k := 1) (by decide +kernel) rfl (go_iadd (by decide +kernel) (go_iload_n (k := 2) (by decide +kernel) rfl (go_callV cl_Mdl m_Mdl_change ml_Mdl_205 rfl wi_Mdl_change ws_Mdl_change (by decide) (by decide +kernel) (go_iret rfl (by decide +kernel))))))))))) (go_aload_n (k := 0) (by decide +kernel) rfl (go_iconst (n := (-1)) (by decide +kernel) rfl (go_callV cl_Mdl m_Mdl_tell ml_Mdl_173 rfl wi_Mdl_tell ws_Mdl_tell (by decide) (by decide +kernel) (go_iret rfl (by decide +kernel))))))))
def k_Mdl_terms_59 : XK := (xI 0 k_Mdl_terms_60)
theorem g_Mdl_terms_59 {l : Launch} {b : Nat} {D : va_G} {dA : Nat → ClassId} {ad : Nat → Option Nat} : XGo l b D dA ad "TearPostModel" c_Mdl_terms 4 (some .int) false 2 59 (k_Mdl_terms_59) := by
  unfold k_Mdl_terms_59
  exact (go_iconst (n := 0) (by decide +kernel) rfl (g_Mdl_terms_60))
def k_Mdl_terms_0 : XK := (xAld 0 (xI 0 (xPutI 11 0 (xIld 1 (xif_ne (xIld 1 (xI 1 (xicmp_ne (xIld 1 (xI 2 (xicmp_ne k_Mdl_terms_59 (xIld 2 (xi2l (xL 0 (xL 9 (xCallS 3 D_Mdl_in (xif_eq k_Mdl_terms_59 (xI 1 k_Mdl_terms_60)))))))))) (xIld 2 (xi2l (xL 1 (xL 99 (xCallS 3 D_Mdl_in k_Mdl_terms_60)))))))) (xIld 2 (xi2l (xL 0 (xL 999 (xCallS 3 D_Mdl_in k_Mdl_terms_60))))))))))
theorem g_Mdl_terms_0 {l : Launch} {b : Nat} {D : va_G} {dA : Nat → ClassId} {ad : Nat → Option Nat} : XGo l b D dA ad "TearPostModel" c_Mdl_terms 4 (some .int) false 2 0 (k_Mdl_terms_0) := by
  unfold k_Mdl_terms_0
  exact (go_aload_n (k := 0) (by decide +kernel) rfl (go_iconst (n := 0) (by decide +kernel) rfl (go_putI fw_Mdl_164 (fun h => by cases h) (by decide +kernel) (go_iload_n (k := 1) (by decide +kernel) rfl (go_if_ne (off := 15) (tgt := 21) (by decide +kernel) (by decide +kernel) (go_iload_n (k := 1) (by decide +kernel) rfl (go_iconst (n := 1) (by decide +kernel) rfl (go_icmp_ne (off := 15) (tgt := 38) (by decide +kernel) (by decide +kernel) (go_iload_n (k := 1) (by decide +kernel) rfl (go_iconst (n := 2) (by decide +kernel) rfl (go_icmp_ne (off := 19) (tgt := 59) (by decide +kernel) (by decide +kernel) (g_Mdl_terms_59) (go_iload_n (k := 2) (by decide +kernel) rfl (go_i2l (by decide +kernel) (go_lconst (n := 0) (by decide +kernel) rfl (go_ldc2 (by decide +kernel) wc_Mdl_197 (go_callS m_Mdl_in ml_Mdl_184 wt_Mdl_in (by decide) (by decide +kernel) (go_if_eq (off := 7) (tgt := 59) (by decide +kernel) (by decide +kernel) (g_Mdl_terms_59) (go_iconst (n := 1) (by decide +kernel) rfl (go_goto (off := 4) (tgt := 60) (by decide +kernel) (by decide +kernel) (g_Mdl_terms_60)))))))))))) (go_iload_n (k := 2) (by decide +kernel) rfl (go_i2l (by decide +kernel) (go_lconst (n := 1) (by decide +kernel) rfl (go_ldc2 (by decide +kernel) wc_Mdl_222 (go_callS m_Mdl_in ml_Mdl_184 wt_Mdl_in (by decide) (by decide +kernel) (go_goto (off := 25) (tgt := 60) (by decide +kernel) (by decide +kernel) (g_Mdl_terms_60)))))))))) (go_iload_n (k := 2) (by decide +kernel) rfl (go_i2l (by decide +kernel) (go_lconst (n := 0) (by decide +kernel) rfl (go_ldc2 (by decide +kernel) wc_Mdl_199 (go_callS m_Mdl_in ml_Mdl_184 wt_Mdl_in (by decide) (by decide +kernel) (go_goto (off := 42) (tgt := 60) (by decide +kernel) (by decide +kernel) (g_Mdl_terms_60))))))))))))
def D_Mdl_terms : XD := xfun 4 (k_Mdl_terms_0)
theorem m_Mdl_terms {l : Launch} {b : Nat} {D : va_G} {dA : Nat → ClassId} {ad : Nat → Option Nat} : XMet l b D dA ad y_Mdl_terms c_Mdl_terms 4 (some .int) 2 (D_Mdl_terms) := xmet_of (ini := false) (by decide +kernel) (fun h => by cases h) (g_Mdl_terms_0)
-- TearPostModel.row
def k_Mdl_row_108 (K35 : XK) : XK := (xIinc 3 5 K35)
theorem g_Mdl_row_108 {l : Launch} {b : Nat} {D : va_G} {dA : Nat → ClassId} {ad : Nat → Option Nat} {K35 : XK} (h35 : XGo l b D dA ad "TearPostModel" c_Mdl_row 4 (some .int) false 4 35 K35) : XGo l b D dA ad "TearPostModel" c_Mdl_row 4 (some .int) false 4 108 (k_Mdl_row_108 K35) := by
  unfold k_Mdl_row_108
  exact (go_iinc (by decide +kernel) (go_goto (off := (-76)) (tgt := 35) (by decide +kernel) (by decide +kernel) h35))
def k_Mdl_row_98 (K35 : XK) : XK := (xAld 0 (xdup (xGetI 11 11 (xI 1 (xiadd (xPutI 11 11 (k_Mdl_row_108 K35)))))))
theorem g_Mdl_row_98 {l : Launch} {b : Nat} {D : va_G} {dA : Nat → ClassId} {ad : Nat → Option Nat} {K35 : XK} (h35 : XGo l b D dA ad "TearPostModel" c_Mdl_row 4 (some .int) false 4 35 K35) : XGo l b D dA ad "TearPostModel" c_Mdl_row 4 (some .int) false 4 98 (k_Mdl_row_98 K35) := by
  unfold k_Mdl_row_98
  exact (go_aload_n (k := 0) (by decide +kernel) rfl (go_dup (by decide +kernel) (go_getI fr_Mdl_227 (by decide +kernel) (go_iconst (n := 1) (by decide +kernel) rfl (go_iadd (by decide +kernel) (go_putI fw_Mdl_227 (fun h => by cases h) (by decide +kernel) (g_Mdl_row_108 h35)))))))
def k_Mdl_row_95 (K35 : XK) : XK := (k_Mdl_row_108 K35)
theorem g_Mdl_row_95 {l : Launch} {b : Nat} {D : va_G} {dA : Nat → ClassId} {ad : Nat → Option Nat} {K35 : XK} (h35 : XGo l b D dA ad "TearPostModel" c_Mdl_row 4 (some .int) false 4 35 K35) : XGo l b D dA ad "TearPostModel" c_Mdl_row 4 (some .int) false 4 95 (k_Mdl_row_95 K35) := by
  unfold k_Mdl_row_95
  exact (go_goto (off := 13) (tgt := 108) (by decide +kernel) (by decide +kernel) (g_Mdl_row_108 h35))
def f_Mdl_row_35 (K35 : XK) : XK := (xIld 3 (xIld 1 (xicmp_ge (xAld 0 (xIld 2 (xCallV 11 1 D_Mdl_settled (xIret ())))) (xIld 3 (xI 4 (xiadd (xIld 1 (xicmp_ge (k_Mdl_row_98 K35) (xAld 0 (xAld 0 (xGetR 11 12 (xIld 3 (xIaldh (xAld 0 (xGetR 11 12 (xIld 3 (xI 1 (xiadd (xIaldh (xAld 0 (xGetR 11 12 (xIld 3 (xI 2 (xiadd (xIaldh (xAld 0 (xGetR 11 12 (xIld 3 (xI 3 (xiadd (xIaldh (xAld 0 (xGetR 11 12 (xIld 3 (xI 4 (xiadd (xIaldh (xCallV 11 5 D_Mdl_letter1 (xif_lt (k_Mdl_row_98 K35) (xIinc 2 1 (k_Mdl_row_95 K35)))))))))))))))))))))))))))))))))))))))))
def k_Mdl_row_35 : XK := xloop (f_Mdl_row_35) NF
theorem g_Mdl_row_35 {l : Launch} {b : Nat} {D : va_G} {dA : Nat → ClassId} {ad : Nat → Option Nat} : XGo l b D dA ad "TearPostModel" c_Mdl_row 4 (some .int) false 4 35 (k_Mdl_row_35) := by
  unfold k_Mdl_row_35
  refine go_loop (fun K35 h35 => ?_) NF
  unfold f_Mdl_row_35
  exact (go_iload_n (k := 3) (by decide +kernel) rfl (go_iload_n (k := 1) (by decide +kernel) rfl (go_icmp_ge (off := 77) (tgt := 114) (by decide +kernel) (by decide +kernel) (go_aload_n (k := 0) (by decide +kernel) rfl (go_iload_n (k := 2) (by decide +kernel) rfl (go_callV cl_Mdl m_Mdl_settled ml_Mdl_188 rfl wi_Mdl_settled ws_Mdl_settled (by decide) (by decide +kernel) (go_iret rfl (by decide +kernel))))) (go_iload_n (k := 3) (by decide +kernel) rfl (go_iconst (n := 4) (by decide +kernel) rfl (go_iadd (by decide +kernel) (go_iload_n (k := 1) (by decide +kernel) rfl (go_icmp_ge (off := 54) (tgt := 98) (by decide +kernel) (by decide +kernel) (g_Mdl_row_98 h35) (go_aload_n (k := 0) (by decide +kernel) rfl (go_aload_n (k := 0) (by decide +kernel) rfl (go_getR fr_Mdl_35 (by decide +kernel) (go_iload_n (k := 3) (by decide +kernel) rfl (go_iaload (by decide +kernel) (go_aload_n (k := 0) (by decide +kernel) rfl (go_getR fr_Mdl_35 (by decide +kernel) (go_iload_n (k := 3) (by decide +kernel) rfl (go_iconst (n := 1) (by decide +kernel) rfl (go_iadd (by decide +kernel) (go_iaload (by decide +kernel) (go_aload_n (k := 0) (by decide +kernel) rfl (go_getR fr_Mdl_35 (by decide +kernel) (go_iload_n (k := 3) (by decide +kernel) rfl (go_iconst (n := 2) (by decide +kernel) rfl (go_iadd (by decide +kernel) (go_iaload (by decide +kernel) (go_aload_n (k := 0) (by decide +kernel) rfl (go_getR fr_Mdl_35 (by decide +kernel) (go_iload_n (k := 3) (by decide +kernel) rfl (go_iconst (n := 3) (by decide +kernel) rfl (go_iadd (by decide +kernel) (go_iaload (by decide +kernel) (go_aload_n (k := 0) (by decide +kernel) rfl (go_getR fr_Mdl_35 (by decide +kernel) (go_iload_n (k := 3) (by decide +kernel) rfl (go_iconst (n := 4) (by decide +kernel) rfl (go_iadd (by decide +kernel) (go_iaload (by decide +kernel) (go_callV cl_Mdl m_Mdl_letter1 ml_Mdl_215 rfl wi_Mdl_letter1 ws_Mdl_letter1 (by decide) (by decide +kernel) (go_if_lt (off := 9) (tgt := 98) (by decide +kernel) (by decide +kernel) (g_Mdl_row_98 h35) (go_iinc (by decide +kernel) (g_Mdl_row_95 h35)))))))))))))))))))))))))))))))))))))))))
def k_Mdl_row_0 : XK := (xAld 0 (xI 0 (xPutI 11 0 (xAld 0 (xGetI 11 13 (xIst 1 (xAld 0 (xI 0 (xPutI 11 13 (xIld 1 (xif_ne (xAld 0 (xI 0 (xPutI 11 11 (xI 0 (xIst 2 (xI 0 (xIst 3 k_Mdl_row_35))))))) (xAld 0 (xI (-6) (xCallV 11 1 D_Mdl_tell (xIret ())))))))))))))))
theorem g_Mdl_row_0 {l : Launch} {b : Nat} {D : va_G} {dA : Nat → ClassId} {ad : Nat → Option Nat} : XGo l b D dA ad "TearPostModel" c_Mdl_row 4 (some .int) false 4 0 (k_Mdl_row_0) := by
  unfold k_Mdl_row_0
  exact (go_aload_n (k := 0) (by decide +kernel) rfl (go_iconst (n := 0) (by decide +kernel) rfl (go_putI fw_Mdl_164 (fun h => by cases h) (by decide +kernel) (go_aload_n (k := 0) (by decide +kernel) rfl (go_getI fr_Mdl_224 (by decide +kernel) (go_istore_n (k := 1) (by decide +kernel) rfl (go_aload_n (k := 0) (by decide +kernel) rfl (go_iconst (n := 0) (by decide +kernel) rfl (go_putI fw_Mdl_224 (fun h => by cases h) (by decide +kernel) (go_iload_n (k := 1) (by decide +kernel) rfl (go_if_ne (off := 10) (tgt := 26) (by decide +kernel) (by decide +kernel) (go_aload_n (k := 0) (by decide +kernel) rfl (go_iconst (n := 0) (by decide +kernel) rfl (go_putI fw_Mdl_227 (fun h => by cases h) (by decide +kernel) (go_iconst (n := 0) (by decide +kernel) rfl (go_istore_n (k := 2) (by decide +kernel) rfl (go_iconst (n := 0) (by decide +kernel) rfl (go_istore_n (k := 3) (by decide +kernel) rfl (g_Mdl_row_35)))))))) (go_aload_n (k := 0) (by decide +kernel) rfl (go_bipush (n := (-6)) (by decide +kernel) (by decide +kernel) (go_callV cl_Mdl m_Mdl_tell ml_Mdl_173 rfl wi_Mdl_tell ws_Mdl_tell (by decide) (by decide +kernel) (go_iret rfl (by decide +kernel))))))))))))))))
def D_Mdl_row : XD := xfun 4 (k_Mdl_row_0)
theorem m_Mdl_row {l : Launch} {b : Nat} {D : va_G} {dA : Nat → ClassId} {ad : Nat → Option Nat} : XMet l b D dA ad y_Mdl_row c_Mdl_row 4 (some .int) 4 (D_Mdl_row) := xmet_of (ini := false) (by decide +kernel) (fun h => by cases h) (g_Mdl_row_0)
-- TearPostModel.blots
def k_Mdl_blots_0 : XK := (xAld 0 (xI 0 (xPutI 11 0 (xAld 0 (xGetI 11 11 (xIret ()))))))
theorem g_Mdl_blots_0 {l : Launch} {b : Nat} {D : va_G} {dA : Nat → ClassId} {ad : Nat → Option Nat} : XGo l b D dA ad "TearPostModel" c_Mdl_blots 1 (some .int) false 1 0 (k_Mdl_blots_0) := by
  unfold k_Mdl_blots_0
  exact (go_aload_n (k := 0) (by decide +kernel) rfl (go_iconst (n := 0) (by decide +kernel) rfl (go_putI fw_Mdl_164 (fun h => by cases h) (by decide +kernel) (go_aload_n (k := 0) (by decide +kernel) rfl (go_getI fr_Mdl_227 (by decide +kernel) (go_iret rfl (by decide +kernel)))))))
def D_Mdl_blots : XD := xfun 1 (k_Mdl_blots_0)
theorem m_Mdl_blots {l : Launch} {b : Nat} {D : va_G} {dA : Nat → ClassId} {ad : Nat → Option Nat} : XMet l b D dA ad y_Mdl_blots c_Mdl_blots 1 (some .int) 1 (D_Mdl_blots) := xmet_of (ini := false) (by decide +kernel) (fun h => by cases h) (g_Mdl_blots_0)
-- TearPostModel.four
def f_Mdl_four_3 (K3 : XK) : XK := (xIld 2 (xif_lt (xVret ()) (xAld 0 (xGetR 11 12 (xAld 0 (xGetI 11 13 (xIld 1 (xIld 2 (xishr (xI 255 (xiand (xIasth (xAld 0 (xdup (xGetI 11 13 (xI 1 (xiadd (xPutI 11 13 (xIinc 2 (-8) K3)))))))))))))))))))
def k_Mdl_four_3 : XK := xloop (f_Mdl_four_3) NF
theorem g_Mdl_four_3 {l : Launch} {b : Nat} {D : va_G} {dA : Nat → ClassId} {ad : Nat → Option Nat} : XGo l b D dA ad "TearPostModel" c_Mdl_four 3 none false 1 3 (k_Mdl_four_3) := by
  unfold k_Mdl_four_3
  refine go_loop (fun K3 h3 => ?_) NF
  unfold f_Mdl_four_3
  exact (go_iload_n (k := 2) (by decide +kernel) rfl (go_if_lt (off := 35) (tgt := 39) (by decide +kernel) (by decide +kernel) (go_vret rfl (by decide +kernel)) (go_aload_n (k := 0) (by decide +kernel) rfl (go_getR fr_Mdl_35 (by decide +kernel) (go_aload_n (k := 0) (by decide +kernel) rfl (go_getI fr_Mdl_224 (by decide +kernel) (go_iload_n (k := 1) (by decide +kernel) rfl (go_iload_n (k := 2) (by decide +kernel) rfl (go_ishr (by decide +kernel) (go_sipush (n := 255) (by decide +kernel) (by decide +kernel) (go_iand (by decide +kernel) (go_iastore (by decide +kernel) (go_aload_n (k := 0) (by decide +kernel) rfl (go_dup (by decide +kernel) (go_getI fr_Mdl_224 (by decide +kernel) (go_iconst (n := 1) (by decide +kernel) rfl (go_iadd (by decide +kernel) (go_putI fw_Mdl_224 (fun h => by cases h) (by decide +kernel) (go_iinc (by decide +kernel) (go_goto (off := (-33)) (tgt := 3) (by decide +kernel) (by decide +kernel) h3))))))))))))))))))))
def k_Mdl_four_0 : XK := (xI 24 (xIst 2 k_Mdl_four_3))
theorem g_Mdl_four_0 {l : Launch} {b : Nat} {D : va_G} {dA : Nat → ClassId} {ad : Nat → Option Nat} : XGo l b D dA ad "TearPostModel" c_Mdl_four 3 none false 1 0 (k_Mdl_four_0) := by
  unfold k_Mdl_four_0
  exact (go_bipush (n := 24) (by decide +kernel) (by decide +kernel) (go_istore_n (k := 2) (by decide +kernel) rfl (g_Mdl_four_3)))
def D_Mdl_four : XD := xfun 3 (k_Mdl_four_0)
theorem m_Mdl_four {l : Launch} {b : Nat} {D : va_G} {dA : Nat → ClassId} {ad : Nat → Option Nat} : XMet l b D dA ad y_Mdl_four c_Mdl_four 3 none 1 (D_Mdl_four) := xmet_of (ini := false) (by decide +kernel) (fun h => by cases h) (g_Mdl_four_0)
-- TearPostModel.feed
def k_Mdl_feed_0 : XK := (xAld 0 (xI 0 (xPutI 11 0 (xAld 0 (xGetI 11 13 (xI 20 (xiadd (xI 400 (xicmp_le (xAld 0 (xIld 1 (xCallV 11 1 D_Mdl_four (xAld 0 (xIld 2 (xCallV 11 1 D_Mdl_four (xAld 0 (xIld 3 (xCallV 11 1 D_Mdl_four (xAld 0 (xIld 4 (xCallV 11 1 D_Mdl_four (xAld 0 (xIld 5 (xCallV 11 1 D_Mdl_four (xAld 0 (xGetI 11 13 (xIret ())))))))))))))))))) (xI (-1) (xIret ())))))))))))
theorem g_Mdl_feed_0 {l : Launch} {b : Nat} {D : va_G} {dA : Nat → ClassId} {ad : Nat → Option Nat} : XGo l b D dA ad "TearPostModel" c_Mdl_feed 6 (some .int) false 2 0 (k_Mdl_feed_0) := by
  unfold k_Mdl_feed_0
  exact (go_aload_n (k := 0) (by decide +kernel) rfl (go_iconst (n := 0) (by decide +kernel) rfl (go_putI fw_Mdl_164 (fun h => by cases h) (by decide +kernel) (go_aload_n (k := 0) (by decide +kernel) rfl (go_getI fr_Mdl_224 (by decide +kernel) (go_bipush (n := 20) (by decide +kernel) (by decide +kernel) (go_iadd (by decide +kernel) (go_sipush (n := 400) (by decide +kernel) (by decide +kernel) (go_icmp_le (off := 5) (tgt := 20) (by decide +kernel) (by decide +kernel) (go_aload_n (k := 0) (by decide +kernel) rfl (go_iload_n (k := 1) (by decide +kernel) rfl (go_callV cl_Mdl m_Mdl_four ml_Mdl_230 rfl wi_Mdl_four ws_Mdl_four (by decide) (by decide +kernel) (go_aload_n (k := 0) (by decide +kernel) rfl (go_iload_n (k := 2) (by decide +kernel) rfl (go_callV cl_Mdl m_Mdl_four ml_Mdl_230 rfl wi_Mdl_four ws_Mdl_four (by decide) (by decide +kernel) (go_aload_n (k := 0) (by decide +kernel) rfl (go_iload_n (k := 3) (by decide +kernel) rfl (go_callV cl_Mdl m_Mdl_four ml_Mdl_230 rfl wi_Mdl_four ws_Mdl_four (by decide) (by decide +kernel) (go_aload_n (k := 0) (by decide +kernel) rfl (go_iload (by decide +kernel) (go_callV cl_Mdl m_Mdl_four ml_Mdl_230 rfl wi_Mdl_four ws_Mdl_four (by decide) (by decide +kernel) (go_aload_n (k := 0) (by decide +kernel) rfl (go_iload (by decide +kernel) (go_callV cl_Mdl m_Mdl_four ml_Mdl_230 rfl wi_Mdl_four ws_Mdl_four (by decide) (by decide +kernel) (go_aload_n (k := 0) (by decide +kernel) rfl (go_getI fr_Mdl_224 (by decide +kernel) (go_iret rfl (by decide +kernel))))))))))))))))))) (go_iconst (n := (-1)) (by decide +kernel) rfl (go_iret rfl (by decide +kernel))))))))))))
def D_Mdl_feed : XD := xfun 6 (k_Mdl_feed_0)
theorem m_Mdl_feed {l : Launch} {b : Nat} {D : va_G} {dA : Nat → ClassId} {ad : Nat → Option Nat} : XMet l b D dA ad y_Mdl_feed c_Mdl_feed 6 (some .int) 2 (D_Mdl_feed) := xmet_of (ini := false) (by decide +kernel) (fun h => by cases h) (g_Mdl_feed_0)
-- TearPostModel.end
def k_Mdl_end_17 : XK := (xI (-1) (xIret ()))
theorem g_Mdl_end_17 {l : Launch} {b : Nat} {D : va_G} {dA : Nat → ClassId} {ad : Nat → Option Nat} : XGo l b D dA ad "TearPostModel" c_Mdl_end 2 (some .int) false 1 17 (k_Mdl_end_17) := by
  unfold k_Mdl_end_17
  exact (go_iconst (n := (-1)) (by decide +kernel) rfl (go_iret rfl (by decide +kernel)))
def k_Mdl_end_0 : XK := (xAld 0 (xI 0 (xPutI 11 0 (xIld 1 (xif_lt k_Mdl_end_17 (xIld 1 (xAld 0 (xGetI 11 13 (xicmp_le (xAld 0 (xIld 1 (xPutI 11 13 (xIld 1 (xIret ()))))) k_Mdl_end_17)))))))))
theorem g_Mdl_end_0 {l : Launch} {b : Nat} {D : va_G} {dA : Nat → ClassId} {ad : Nat → Option Nat} : XGo l b D dA ad "TearPostModel" c_Mdl_end 2 (some .int) false 1 0 (k_Mdl_end_0) := by
  unfold k_Mdl_end_0
  exact (go_aload_n (k := 0) (by decide +kernel) rfl (go_iconst (n := 0) (by decide +kernel) rfl (go_putI fw_Mdl_164 (fun h => by cases h) (by decide +kernel) (go_iload_n (k := 1) (by decide +kernel) rfl (go_if_lt (off := 11) (tgt := 17) (by decide +kernel) (by decide +kernel) (g_Mdl_end_17) (go_iload_n (k := 1) (by decide +kernel) rfl (go_aload_n (k := 0) (by decide +kernel) rfl (go_getI fr_Mdl_224 (by decide +kernel) (go_icmp_le (off := 5) (tgt := 19) (by decide +kernel) (by decide +kernel) (go_aload_n (k := 0) (by decide +kernel) rfl (go_iload_n (k := 1) (by decide +kernel) rfl (go_putI fw_Mdl_224 (fun h => by cases h) (by decide +kernel) (go_iload_n (k := 1) (by decide +kernel) rfl (go_iret rfl (by decide +kernel)))))) (g_Mdl_end_17))))))))))
def D_Mdl_end : XD := xfun 2 (k_Mdl_end_0)
theorem m_Mdl_end {l : Launch} {b : Nat} {D : va_G} {dA : Nat → ClassId} {ad : Nat → Option Nat} : XMet l b D dA ad y_Mdl_end c_Mdl_end 2 (some .int) 1 (D_Mdl_end) := xmet_of (ini := false) (by decide +kernel) (fun h => by cases h) (g_Mdl_end_0)
-- TearPostModel.fault
def k_Mdl_fault_0 : XK := (xAld 0 (xI 0 (xPutI 11 0 (xAld 0 (xGetI 11 18 (xIret ()))))))
theorem g_Mdl_fault_0 {l : Launch} {b : Nat} {D : va_G} {dA : Nat → ClassId} {ad : Nat → Option Nat} : XGo l b D dA ad "TearPostModel" c_Mdl_fault 1 (some .int) false 1 0 (k_Mdl_fault_0) := by
  unfold k_Mdl_fault_0
  exact (go_aload_n (k := 0) (by decide +kernel) rfl (go_iconst (n := 0) (by decide +kernel) rfl (go_putI fw_Mdl_164 (fun h => by cases h) (by decide +kernel) (go_aload_n (k := 0) (by decide +kernel) rfl (go_getI fr_Mdl_38 (by decide +kernel) (go_iret rfl (by decide +kernel)))))))
def D_Mdl_fault : XD := xfun 1 (k_Mdl_fault_0)
theorem m_Mdl_fault {l : Launch} {b : Nat} {D : va_G} {dA : Nat → ClassId} {ad : Nat → Option Nat} : XMet l b D dA ad y_Mdl_fault c_Mdl_fault 1 (some .int) 1 (D_Mdl_fault) := xmet_of (ini := false) (by decide +kernel) (fun h => by cases h) (g_Mdl_fault_0)
-- TearPostModel.isSmall
def k_Mdl_isSmall_17 : XK := (xZret ())
theorem g_Mdl_isSmall_17 {l : Launch} {b : Nat} {D : va_G} {dA : Nat → ClassId} {ad : Nat → Option Nat} : XGo l b D dA ad "TearPostModel" c_Mdl_isSmall 1 (some .boolean) false 1 17 (k_Mdl_isSmall_17) := by
  unfold k_Mdl_isSmall_17
  exact (go_zret rfl (by decide +kernel))
def k_Mdl_isSmall_16 : XK := (xI 0 k_Mdl_isSmall_17)
theorem g_Mdl_isSmall_16 {l : Launch} {b : Nat} {D : va_G} {dA : Nat → ClassId} {ad : Nat → Option Nat} : XGo l b D dA ad "TearPostModel" c_Mdl_isSmall 1 (some .boolean) false 1 16 (k_Mdl_isSmall_16) := by
  unfold k_Mdl_isSmall_16
  exact (go_iconst (n := 0) (by decide +kernel) rfl (g_Mdl_isSmall_17))
def k_Mdl_isSmall_0 : XK := (xIld 0 (xI 97 (xicmp_lt k_Mdl_isSmall_16 (xIld 0 (xI 122 (xicmp_gt k_Mdl_isSmall_16 (xI 1 k_Mdl_isSmall_17)))))))
theorem g_Mdl_isSmall_0 {l : Launch} {b : Nat} {D : va_G} {dA : Nat → ClassId} {ad : Nat → Option Nat} : XGo l b D dA ad "TearPostModel" c_Mdl_isSmall 1 (some .boolean) false 1 0 (k_Mdl_isSmall_0) := by
  unfold k_Mdl_isSmall_0
  exact (go_iload_n (k := 0) (by decide +kernel) rfl (go_bipush (n := 97) (by decide +kernel) (by decide +kernel) (go_icmp_lt (off := 13) (tgt := 16) (by decide +kernel) (by decide +kernel) (g_Mdl_isSmall_16) (go_iload_n (k := 0) (by decide +kernel) rfl (go_bipush (n := 122) (by decide +kernel) (by decide +kernel) (go_icmp_gt (off := 7) (tgt := 16) (by decide +kernel) (by decide +kernel) (g_Mdl_isSmall_16) (go_iconst (n := 1) (by decide +kernel) rfl (go_goto (off := 4) (tgt := 17) (by decide +kernel) (by decide +kernel) (g_Mdl_isSmall_17)))))))))
def D_Mdl_isSmall : XD := xfun 1 (k_Mdl_isSmall_0)
theorem m_Mdl_isSmall {l : Launch} {b : Nat} {D : va_G} {dA : Nat → ClassId} {ad : Nat → Option Nat} : XMet l b D dA ad y_Mdl_isSmall c_Mdl_isSmall 1 (some .boolean) 1 (D_Mdl_isSmall) := xmet_of (ini := false) (by decide +kernel) (fun h => by cases h) (g_Mdl_isSmall_0)
-- TearPostModel.isDigit
def k_Mdl_isDigit_17 : XK := (xZret ())
theorem g_Mdl_isDigit_17 {l : Launch} {b : Nat} {D : va_G} {dA : Nat → ClassId} {ad : Nat → Option Nat} : XGo l b D dA ad "TearPostModel" c_Mdl_isDigit 1 (some .boolean) false 1 17 (k_Mdl_isDigit_17) := by
  unfold k_Mdl_isDigit_17
  exact (go_zret rfl (by decide +kernel))
def k_Mdl_isDigit_16 : XK := (xI 0 k_Mdl_isDigit_17)
theorem g_Mdl_isDigit_16 {l : Launch} {b : Nat} {D : va_G} {dA : Nat → ClassId} {ad : Nat → Option Nat} : XGo l b D dA ad "TearPostModel" c_Mdl_isDigit 1 (some .boolean) false 1 16 (k_Mdl_isDigit_16) := by
  unfold k_Mdl_isDigit_16
  exact (go_iconst (n := 0) (by decide +kernel) rfl (g_Mdl_isDigit_17))
def k_Mdl_isDigit_0 : XK := (xIld 0 (xI 48 (xicmp_lt k_Mdl_isDigit_16 (xIld 0 (xI 57 (xicmp_gt k_Mdl_isDigit_16 (xI 1 k_Mdl_isDigit_17)))))))
theorem g_Mdl_isDigit_0 {l : Launch} {b : Nat} {D : va_G} {dA : Nat → ClassId} {ad : Nat → Option Nat} : XGo l b D dA ad "TearPostModel" c_Mdl_isDigit 1 (some .boolean) false 1 0 (k_Mdl_isDigit_0) := by
  unfold k_Mdl_isDigit_0
  exact (go_iload_n (k := 0) (by decide +kernel) rfl (go_bipush (n := 48) (by decide +kernel) (by decide +kernel) (go_icmp_lt (off := 13) (tgt := 16) (by decide +kernel) (by decide +kernel) (g_Mdl_isDigit_16) (go_iload_n (k := 0) (by decide +kernel) rfl (go_bipush (n := 57) (by decide +kernel) (by decide +kernel) (go_icmp_gt (off := 7) (tgt := 16) (by decide +kernel) (by decide +kernel) (g_Mdl_isDigit_16) (go_iconst (n := 1) (by decide +kernel) rfl (go_goto (off := 4) (tgt := 17) (by decide +kernel) (by decide +kernel) (g_Mdl_isDigit_17)))))))))
def D_Mdl_isDigit : XD := xfun 1 (k_Mdl_isDigit_0)
theorem m_Mdl_isDigit {l : Launch} {b : Nat} {D : va_G} {dA : Nat → ClassId} {ad : Nat → Option Nat} : XMet l b D dA ad y_Mdl_isDigit c_Mdl_isDigit 1 (some .boolean) 1 (D_Mdl_isDigit) := xmet_of (ini := false) (by decide +kernel) (fun h => by cases h) (g_Mdl_isDigit_0)
-- TearPostModel.next
def k_Mdl_next_335 : XK := (xVret ())
theorem g_Mdl_next_335 {l : Launch} {b : Nat} {D : va_G} {dA : Nat → ClassId} {ad : Nat → Option Nat} : XGo l b D dA ad "TearPostModel" c_Mdl_next 1 none false 2 335 (k_Mdl_next_335) := by
  unfold k_Mdl_next_335
  exact (go_vret rfl (by decide +kernel))
def k_Mdl_next_319 (K243 : XK) : XK := (xPutL 11 17 (xAld 0 (xdup (xGetI 11 15 (xI 1 (xiadd (xPutI 11 15 K243)))))))
theorem g_Mdl_next_319 {l : Launch} {b : Nat} {D : va_G} {dA : Nat → ClassId} {ad : Nat → Option Nat} {K243 : XK} (h243 : XGo l b D dA ad "TearPostModel" c_Mdl_next 1 none false 2 243 K243) : XGo l b D dA ad "TearPostModel" c_Mdl_next 1 none false 2 319 (k_Mdl_next_319 K243) := by
  unfold k_Mdl_next_319
  exact (go_putL fw_Mdl_246 (fun h => by cases h) (by decide +kernel) (go_aload_n (k := 0) (by decide +kernel) rfl (go_dup (by decide +kernel) (go_getI fr_Mdl_233 (by decide +kernel) (go_iconst (n := 1) (by decide +kernel) rfl (go_iadd (by decide +kernel) (go_putI fw_Mdl_233 (fun h => by cases h) (by decide +kernel) (go_goto (off := (-89)) (tgt := 243) (by decide +kernel) (by decide +kernel) h243))))))))
def f_Mdl_next_243 (K243 : XK) : XK := (xAld 0 (xGetI 11 16 (xI 2 (xicmp_ne k_Mdl_next_335 (xAld 0 (xGetI 11 15 (xAld 0 (xGetI 11 13 (xicmp_ge k_Mdl_next_335 (xAld 0 (xGetR 11 12 (xAld 0 (xGetI 11 15 (xIaldh (xCallS 1 D_Mdl_isDigit (xif_eq k_Mdl_next_335 (xAld 0 (xAld 0 (xGetL 11 17 (xL 1000000 (xlcmp (xif_le (xAld 0 (xGetL 11 17 (xL 10 (xlmul (xAld 0 (xGetR 11 12 (xAld 0 (xGetI 11 15 (xIaldh (xi2l (xladd (xL 48 (xlsub (k_Mdl_next_319 K243)))))))))))))) (xAld 0 (xGetL 11 17 (k_Mdl_next_319 K243)))))))))))))))))))))))))
def k_Mdl_next_243 : XK := xloop (f_Mdl_next_243) NF
theorem g_Mdl_next_243 {l : Launch} {b : Nat} {D : va_G} {dA : Nat → ClassId} {ad : Nat → Option Nat} : XGo l b D dA ad "TearPostModel" c_Mdl_next 1 none false 2 243 (k_Mdl_next_243) := by
  unfold k_Mdl_next_243
  refine go_loop (fun K243 h243 => ?_) NF
  unfold f_Mdl_next_243
  exact (go_aload_n (k := 0) (by decide +kernel) rfl (go_getI fr_Mdl_256 (by decide +kernel) (go_iconst (n := 2) (by decide +kernel) rfl (go_icmp_ne (off := 87) (tgt := 335) (by decide +kernel) (by decide +kernel) (g_Mdl_next_335) (go_aload_n (k := 0) (by decide +kernel) rfl (go_getI fr_Mdl_233 (by decide +kernel) (go_aload_n (k := 0) (by decide +kernel) rfl (go_getI fr_Mdl_224 (by decide +kernel) (go_icmp_ge (off := 76) (tgt := 335) (by decide +kernel) (by decide +kernel) (g_Mdl_next_335) (go_aload_n (k := 0) (by decide +kernel) rfl (go_getR fr_Mdl_35 (by decide +kernel) (go_aload_n (k := 0) (by decide +kernel) rfl (go_getI fr_Mdl_233 (by decide +kernel) (go_iaload (by decide +kernel) (go_callS m_Mdl_isDigit ml_Mdl_253 wt_Mdl_isDigit (by decide) (by decide +kernel) (go_if_eq (off := 61) (tgt := 335) (by decide +kernel) (by decide +kernel) (g_Mdl_next_335) (go_aload_n (k := 0) (by decide +kernel) rfl (go_aload_n (k := 0) (by decide +kernel) rfl (go_getL fr_Mdl_246 (by decide +kernel) (go_ldc2 (by decide +kernel) wc_Mdl_265 (go_lcmp (by decide +kernel) (go_if_le (off := 10) (tgt := 296) (by decide +kernel) (by decide +kernel) (go_aload_n (k := 0) (by decide +kernel) rfl (go_getL fr_Mdl_246 (by decide +kernel) (go_ldc2 (by decide +kernel) wc_Mdl_267 (go_lmul (by decide +kernel) (go_aload_n (k := 0) (by decide +kernel) rfl (go_getR fr_Mdl_35 (by decide +kernel) (go_aload_n (k := 0) (by decide +kernel) rfl (go_getI fr_Mdl_233 (by decide +kernel) (go_iaload (by decide +kernel) (go_i2l (by decide +kernel) (go_ladd (by decide +kernel) (go_ldc2 (by decide +kernel) wc_Mdl_269 (go_lsub (by decide +kernel) (g_Mdl_next_319 h243)))))))))))))) (go_aload_n (k := 0) (by decide +kernel) rfl (go_getL fr_Mdl_246 (by decide +kernel) (go_goto (off := 26) (tgt := 319) (by decide +kernel) (by decide +kernel) (g_Mdl_next_319 h243))))))))))))))))))))))))))
def k_Mdl_next_227 (K149 : XK) : XK := (xPutL 11 17 (xAld 0 (xdup (xGetI 11 15 (xI 1 (xiadd (xPutI 11 15 K149)))))))
theorem g_Mdl_next_227 {l : Launch} {b : Nat} {D : va_G} {dA : Nat → ClassId} {ad : Nat → Option Nat} {K149 : XK} (h149 : XGo l b D dA ad "TearPostModel" c_Mdl_next 1 none false 2 149 K149) : XGo l b D dA ad "TearPostModel" c_Mdl_next 1 none false 2 227 (k_Mdl_next_227 K149) := by
  unfold k_Mdl_next_227
  exact (go_putL fw_Mdl_246 (fun h => by cases h) (by decide +kernel) (go_aload_n (k := 0) (by decide +kernel) rfl (go_dup (by decide +kernel) (go_getI fr_Mdl_233 (by decide +kernel) (go_iconst (n := 1) (by decide +kernel) rfl (go_iadd (by decide +kernel) (go_putI fw_Mdl_233 (fun h => by cases h) (by decide +kernel) (go_goto (off := (-91)) (tgt := 149) (by decide +kernel) (by decide +kernel) h149))))))))
def f_Mdl_next_149 (K149 : XK) : XK := (xAld 0 (xGetI 11 16 (xI 1 (xicmp_ne k_Mdl_next_243 (xAld 0 (xGetI 11 15 (xAld 0 (xGetI 11 13 (xicmp_ge k_Mdl_next_243 (xAld 0 (xGetR 11 12 (xAld 0 (xGetI 11 15 (xIaldh (xCallS 1 D_Mdl_isSmall (xif_eq k_Mdl_next_243 (xAld 0 (xAld 0 (xGetI 11 15 (xAld 0 (xGetI 11 14 (xisub (xI 10 (xicmp_ge (xL (-1) (k_Mdl_next_227 K149)) (xAld 0 (xGetL 11 17 (xL 32 (xlmul (xAld 0 (xGetR 11 12 (xAld 0 (xGetI 11 15 (xIaldh (xi2l (xladd (xL 96 (xlsub (k_Mdl_next_227 K149))))))))))))))))))))))))))))))))))))))
def k_Mdl_next_149 : XK := xloop (f_Mdl_next_149) NF
theorem g_Mdl_next_149 {l : Launch} {b : Nat} {D : va_G} {dA : Nat → ClassId} {ad : Nat → Option Nat} : XGo l b D dA ad "TearPostModel" c_Mdl_next 1 none false 2 149 (k_Mdl_next_149) := by
  unfold k_Mdl_next_149
  refine go_loop (fun K149 h149 => ?_) NF
  unfold f_Mdl_next_149
  exact (go_aload_n (k := 0) (by decide +kernel) rfl (go_getI fr_Mdl_256 (by decide +kernel) (go_iconst (n := 1) (by decide +kernel) rfl (go_icmp_ne (off := 89) (tgt := 243) (by decide +kernel) (by decide +kernel) (g_Mdl_next_243) (go_aload_n (k := 0) (by decide +kernel) rfl (go_getI fr_Mdl_233 (by decide +kernel) (go_aload_n (k := 0) (by decide +kernel) rfl (go_getI fr_Mdl_224 (by decide +kernel) (go_icmp_ge (off := 78) (tgt := 243) (by decide +kernel) (by decide +kernel) (g_Mdl_next_243) (go_aload_n (k := 0) (by decide +kernel) rfl (go_getR fr_Mdl_35 (by decide +kernel) (go_aload_n (k := 0) (by decide +kernel) rfl (go_getI fr_Mdl_233 (by decide +kernel) (go_iaload (by decide +kernel) (go_callS m_Mdl_isSmall ml_Mdl_250 wt_Mdl_isSmall (by decide) (by decide +kernel) (go_if_eq (off := 63) (tgt := 243) (by decide +kernel) (by decide +kernel) (g_Mdl_next_243) (go_aload_n (k := 0) (by decide +kernel) rfl (go_aload_n (k := 0) (by decide +kernel) rfl (go_getI fr_Mdl_233 (by decide +kernel) (go_aload_n (k := 0) (by decide +kernel) rfl (go_getI fr_Mdl_243 (by decide +kernel) (go_isub (by decide +kernel) (go_bipush (n := 10) (by decide +kernel) (by decide +kernel) (go_icmp_ge (off := 29) (tgt := 224) (by decide +kernel) (by decide +kernel) (go_ldc2 (by decide +kernel) wc_Mdl_263 (g_Mdl_next_227 h149)) (go_aload_n (k := 0) (by decide +kernel) rfl (go_getL fr_Mdl_246 (by decide +kernel) (go_ldc2 (by decide +kernel) wc_Mdl_259 (go_lmul (by decide +kernel) (go_aload_n (k := 0) (by decide +kernel) rfl (go_getR fr_Mdl_35 (by decide +kernel) (go_aload_n (k := 0) (by decide +kernel) rfl (go_getI fr_Mdl_233 (by decide +kernel) (go_iaload (by decide +kernel) (go_i2l (by decide +kernel) (go_ladd (by decide +kernel) (go_ldc2 (by decide +kernel) wc_Mdl_261 (go_lsub (by decide +kernel) (go_goto (off := 6) (tgt := 227) (by decide +kernel) (by decide +kernel) (g_Mdl_next_227 h149)))))))))))))))))))))))))))))))))))))))
def k_Mdl_next_114 : XK := (xPutI 11 16 (xAld 0 (xGetI 11 16 (xI 3 (xicmp_ne k_Mdl_next_149 (xAld 0 (xAld 0 (xGetR 11 12 (xAld 0 (xGetI 11 14 (xIaldh (xi2l (xPutL 11 17 (xAld 0 (xdup (xGetI 11 15 (xI 1 (xiadd (xPutI 11 15 k_Mdl_next_149)))))))))))))))))))
theorem g_Mdl_next_114 {l : Launch} {b : Nat} {D : va_G} {dA : Nat → ClassId} {ad : Nat → Option Nat} : XGo l b D dA ad "TearPostModel" c_Mdl_next 1 none false 2 114 (k_Mdl_next_114) := by
  unfold k_Mdl_next_114
  exact (go_putI fw_Mdl_256 (fun h => by cases h) (by decide +kernel) (go_aload_n (k := 0) (by decide +kernel) rfl (go_getI fr_Mdl_256 (by decide +kernel) (go_iconst (n := 3) (by decide +kernel) rfl (go_icmp_ne (off := 27) (tgt := 149) (by decide +kernel) (by decide +kernel) (g_Mdl_next_149) (go_aload_n (k := 0) (by decide +kernel) rfl (go_aload_n (k := 0) (by decide +kernel) rfl (go_getR fr_Mdl_35 (by decide +kernel) (go_aload_n (k := 0) (by decide +kernel) rfl (go_getI fr_Mdl_243 (by decide +kernel) (go_iaload (by decide +kernel) (go_i2l (by decide +kernel) (go_putL fw_Mdl_246 (fun h => by cases h) (by decide +kernel) (go_aload_n (k := 0) (by decide +kernel) rfl (go_dup (by decide +kernel) (go_getI fr_Mdl_233 (by decide +kernel) (go_iconst (n := 1) (by decide +kernel) rfl (go_iadd (by decide +kernel) (go_putI fw_Mdl_233 (fun h => by cases h) (by decide +kernel) (g_Mdl_next_149))))))))))))))))))))
def k_Mdl_next_46 : XK := (xAld 0 (xAld 0 (xGetI 11 14 (xPutI 11 15 (xAld 0 (xL 0 (xPutL 11 17 (xAld 0 (xAld 0 (xGetI 11 14 (xAld 0 (xGetI 11 13 (xicmp_ne (xAld 0 (xGetR 11 12 (xAld 0 (xGetI 11 14 (xIaldh (xCallS 1 D_Mdl_isSmall (xif_eq (xAld 0 (xGetR 11 12 (xAld 0 (xGetI 11 14 (xIaldh (xCallS 1 D_Mdl_isDigit (xif_eq (xI 3 k_Mdl_next_114) (xI 2 k_Mdl_next_114)))))))) (xI 1 k_Mdl_next_114)))))))) (xI 0 k_Mdl_next_114))))))))))))))
theorem g_Mdl_next_46 {l : Launch} {b : Nat} {D : va_G} {dA : Nat → ClassId} {ad : Nat → Option Nat} : XGo l b D dA ad "TearPostModel" c_Mdl_next 1 none false 2 46 (k_Mdl_next_46) := by
  unfold k_Mdl_next_46
  exact (go_aload_n (k := 0) (by decide +kernel) rfl (go_aload_n (k := 0) (by decide +kernel) rfl (go_getI fr_Mdl_243 (by decide +kernel) (go_putI fw_Mdl_233 (fun h => by cases h) (by decide +kernel) (go_aload_n (k := 0) (by decide +kernel) rfl (go_lconst (n := 0) (by decide +kernel) rfl (go_putL fw_Mdl_246 (fun h => by cases h) (by decide +kernel) (go_aload_n (k := 0) (by decide +kernel) rfl (go_aload_n (k := 0) (by decide +kernel) rfl (go_getI fr_Mdl_243 (by decide +kernel) (go_aload_n (k := 0) (by decide +kernel) rfl (go_getI fr_Mdl_224 (by decide +kernel) (go_icmp_ne (off := 7) (tgt := 75) (by decide +kernel) (by decide +kernel) (go_aload_n (k := 0) (by decide +kernel) rfl (go_getR fr_Mdl_35 (by decide +kernel) (go_aload_n (k := 0) (by decide +kernel) rfl (go_getI fr_Mdl_243 (by decide +kernel) (go_iaload (by decide +kernel) (go_callS m_Mdl_isSmall ml_Mdl_250 wt_Mdl_isSmall (by decide) (by decide +kernel) (go_if_eq (off := 7) (tgt := 94) (by decide +kernel) (by decide +kernel) (go_aload_n (k := 0) (by decide +kernel) rfl (go_getR fr_Mdl_35 (by decide +kernel) (go_aload_n (k := 0) (by decide +kernel) rfl (go_getI fr_Mdl_243 (by decide +kernel) (go_iaload (by decide +kernel) (go_callS m_Mdl_isDigit ml_Mdl_253 wt_Mdl_isDigit (by decide) (by decide +kernel) (go_if_eq (off := 7) (tgt := 113) (by decide +kernel) (by decide +kernel) (go_iconst (n := 3) (by decide +kernel) rfl (g_Mdl_next_114)) (go_iconst (n := 2) (by decide +kernel) rfl (go_goto (off := 4) (tgt := 114) (by decide +kernel) (by decide +kernel) (g_Mdl_next_114)))))))))) (go_iconst (n := 1) (by decide +kernel) rfl (go_goto (off := 23) (tgt := 114) (by decide +kernel) (by decide +kernel) (g_Mdl_next_114)))))))))) (go_iconst (n := 0) (by decide +kernel) rfl (go_goto (off := 42) (tgt := 114) (by decide +kernel) (by decide +kernel) (g_Mdl_next_114))))))))))))))))
def f_Mdl_next_8 (K8 : XK) : XK := (xAld 0 (xGetI 11 14 (xAld 0 (xGetI 11 13 (xicmp_ge k_Mdl_next_46 (xAld 0 (xGetR 11 12 (xAld 0 (xGetI 11 14 (xIaldh (xI 32 (xicmp_ne k_Mdl_next_46 (xAld 0 (xdup (xGetI 11 14 (xI 1 (xiadd (xPutI 11 14 K8))))))))))))))))))
def k_Mdl_next_8 : XK := xloop (f_Mdl_next_8) NF
theorem g_Mdl_next_8 {l : Launch} {b : Nat} {D : va_G} {dA : Nat → ClassId} {ad : Nat → Option Nat} : XGo l b D dA ad "TearPostModel" c_Mdl_next 1 none false 2 8 (k_Mdl_next_8) := by
  unfold k_Mdl_next_8
  refine go_loop (fun K8 h8 => ?_) NF
  unfold f_Mdl_next_8
  exact (go_aload_n (k := 0) (by decide +kernel) rfl (go_getI fr_Mdl_243 (by decide +kernel) (go_aload_n (k := 0) (by decide +kernel) rfl (go_getI fr_Mdl_224 (by decide +kernel) (go_icmp_ge (off := 30) (tgt := 46) (by decide +kernel) (by decide +kernel) (g_Mdl_next_46) (go_aload_n (k := 0) (by decide +kernel) rfl (go_getR fr_Mdl_35 (by decide +kernel) (go_aload_n (k := 0) (by decide +kernel) rfl (go_getI fr_Mdl_243 (by decide +kernel) (go_iaload (by decide +kernel) (go_bipush (n := 32) (by decide +kernel) (by decide +kernel) (go_icmp_ne (off := 16) (tgt := 46) (by decide +kernel) (by decide +kernel) (g_Mdl_next_46) (go_aload_n (k := 0) (by decide +kernel) rfl (go_dup (by decide +kernel) (go_getI fr_Mdl_243 (by decide +kernel) (go_iconst (n := 1) (by decide +kernel) rfl (go_iadd (by decide +kernel) (go_putI fw_Mdl_243 (fun h => by cases h) (by decide +kernel) (go_goto (off := (-35)) (tgt := 8) (by decide +kernel) (by decide +kernel) h8)))))))))))))))))))
def k_Mdl_next_0 : XK := (xAld 0 (xAld 0 (xGetI 11 15 (xPutI 11 14 k_Mdl_next_8))))
theorem g_Mdl_next_0 {l : Launch} {b : Nat} {D : va_G} {dA : Nat → ClassId} {ad : Nat → Option Nat} : XGo l b D dA ad "TearPostModel" c_Mdl_next 1 none false 2 0 (k_Mdl_next_0) := by
  unfold k_Mdl_next_0
  exact (go_aload_n (k := 0) (by decide +kernel) rfl (go_aload_n (k := 0) (by decide +kernel) rfl (go_getI fr_Mdl_233 (by decide +kernel) (go_putI fw_Mdl_243 (fun h => by cases h) (by decide +kernel) (g_Mdl_next_8)))))
def D_Mdl_next : XD := xfun 1 (k_Mdl_next_0)
theorem m_Mdl_next {l : Launch} {b : Nat} {D : va_G} {dA : Nat → ClassId} {ad : Nat → Option Nat} : XMet l b D dA ad y_Mdl_next c_Mdl_next 1 none 2 (D_Mdl_next) := xmet_of (ini := false) (by decide +kernel) (fun h => by cases h) (g_Mdl_next_0)
-- TearPostModel.begin
def k_Mdl_begin_0 : XK := (xAld 0 (xI 0 (xPutI 11 15 (xAld 0 (xI 0 (xPutZ 11 19 (xAld 0 (xI (-1) (xPutI 11 18 (xAld 0 (xCallV 11 0 D_Mdl_next (xVret ()))))))))))))
theorem g_Mdl_begin_0 {l : Launch} {b : Nat} {D : va_G} {dA : Nat → ClassId} {ad : Nat → Option Nat} : XGo l b D dA ad "TearPostModel" c_Mdl_begin 1 none false 3 0 (k_Mdl_begin_0) := by
  unfold k_Mdl_begin_0
  exact (go_aload_n (k := 0) (by decide +kernel) rfl (go_iconst (n := 0) (by decide +kernel) rfl (go_putI fw_Mdl_233 (fun h => by cases h) (by decide +kernel) (go_aload_n (k := 0) (by decide +kernel) rfl (go_iconst (n := 0) (by decide +kernel) rfl (go_putZ fw_Mdl_236 (fun h => by cases h) (by decide +kernel) (go_aload_n (k := 0) (by decide +kernel) rfl (go_iconst (n := (-1)) (by decide +kernel) rfl (go_putI fw_Mdl_38 (fun h => by cases h) (by decide +kernel) (go_aload_n (k := 0) (by decide +kernel) rfl (go_callV cl_Mdl m_Mdl_next ml_Mdl_240 rfl wi_Mdl_next ws_Mdl_next (by decide) (by decide +kernel) (go_vret rfl (by decide +kernel)))))))))))))
def D_Mdl_begin : XD := xfun 1 (k_Mdl_begin_0)
theorem m_Mdl_begin {l : Launch} {b : Nat} {D : va_G} {dA : Nat → ClassId} {ad : Nat → Option Nat} : XMet l b D dA ad y_Mdl_begin c_Mdl_begin 1 none 3 (D_Mdl_begin) := xmet_of (ini := false) (by decide +kernel) (fun h => by cases h) (g_Mdl_begin_0)
-- TearPostModel.beginText
def k_Mdl_beginText_0 : XK := (xAld 0 (xIld 1 (xPutZ 11 20 (xAld 0 (xCallV 11 0 D_Mdl_begin (xAld 0 (xI 0 (xPutI 11 21 (xAld 0 (xI 0 (xPutI 11 23 (xAld 0 (xI 0 (xPutI 11 26 (xVret ())))))))))))))))
theorem g_Mdl_beginText_0 {l : Launch} {b : Nat} {D : va_G} {dA : Nat → ClassId} {ad : Nat → Option Nat} : XGo l b D dA ad "TearPostModel" c_Mdl_beginText 2 none false 4 0 (k_Mdl_beginText_0) := by
  unfold k_Mdl_beginText_0
  exact (go_aload_n (k := 0) (by decide +kernel) rfl (go_iload_n (k := 1) (by decide +kernel) rfl (go_putZ fw_Mdl_315 (fun h => by cases h) (by decide +kernel) (go_aload_n (k := 0) (by decide +kernel) rfl (go_callV cl_Mdl m_Mdl_begin ml_Mdl_364 rfl wi_Mdl_begin ws_Mdl_begin (by decide) (by decide +kernel) (go_aload_n (k := 0) (by decide +kernel) rfl (go_iconst (n := 0) (by decide +kernel) rfl (go_putI fw_Mdl_367 (fun h => by cases h) (by decide +kernel) (go_aload_n (k := 0) (by decide +kernel) rfl (go_iconst (n := 0) (by decide +kernel) rfl (go_putI fw_Mdl_275 (fun h => by cases h) (by decide +kernel) (go_aload_n (k := 0) (by decide +kernel) rfl (go_iconst (n := 0) (by decide +kernel) rfl (go_putI fw_Mdl_306 (fun h => by cases h) (by decide +kernel) (go_vret rfl (by decide +kernel))))))))))))))))
def D_Mdl_beginText : XD := xfun 2 (k_Mdl_beginText_0)
theorem m_Mdl_beginText {l : Launch} {b : Nat} {D : va_G} {dA : Nat → ClassId} {ad : Nat → Option Nat} : XMet l b D dA ad y_Mdl_beginText c_Mdl_beginText 2 none 4 (D_Mdl_beginText) := xmet_of (ini := false) (by decide +kernel) (fun h => by cases h) (g_Mdl_beginText_0)
-- TearPostModel.isWord
def k_Mdl_isWord_22 : XK := (xZret ())
theorem g_Mdl_isWord_22 {l : Launch} {b : Nat} {D : va_G} {dA : Nat → ClassId} {ad : Nat → Option Nat} : XGo l b D dA ad "TearPostModel" c_Mdl_isWord 3 (some .boolean) false 1 22 (k_Mdl_isWord_22) := by
  unfold k_Mdl_isWord_22
  exact (go_zret rfl (by decide +kernel))
def k_Mdl_isWord_21 : XK := (xI 0 k_Mdl_isWord_22)
theorem g_Mdl_isWord_21 {l : Launch} {b : Nat} {D : va_G} {dA : Nat → ClassId} {ad : Nat → Option Nat} : XGo l b D dA ad "TearPostModel" c_Mdl_isWord 3 (some .boolean) false 1 21 (k_Mdl_isWord_21) := by
  unfold k_Mdl_isWord_21
  exact (go_iconst (n := 0) (by decide +kernel) rfl (g_Mdl_isWord_22))
def k_Mdl_isWord_0 : XK := (xAld 0 (xGetI 11 16 (xI 1 (xicmp_ne k_Mdl_isWord_21 (xAld 0 (xGetL 11 17 (xLld 1 (xlcmp (xif_ne k_Mdl_isWord_21 (xI 1 k_Mdl_isWord_22))))))))))
theorem g_Mdl_isWord_0 {l : Launch} {b : Nat} {D : va_G} {dA : Nat → ClassId} {ad : Nat → Option Nat} : XGo l b D dA ad "TearPostModel" c_Mdl_isWord 3 (some .boolean) false 1 0 (k_Mdl_isWord_0) := by
  unfold k_Mdl_isWord_0
  exact (go_aload_n (k := 0) (by decide +kernel) rfl (go_getI fr_Mdl_256 (by decide +kernel) (go_iconst (n := 1) (by decide +kernel) rfl (go_icmp_ne (off := 16) (tgt := 21) (by decide +kernel) (by decide +kernel) (g_Mdl_isWord_21) (go_aload_n (k := 0) (by decide +kernel) rfl (go_getL fr_Mdl_246 (by decide +kernel) (go_lload_n (k := 1) (by decide +kernel) rfl (go_lcmp (by decide +kernel) (go_if_ne (off := 7) (tgt := 21) (by decide +kernel) (by decide +kernel) (g_Mdl_isWord_21) (go_iconst (n := 1) (by decide +kernel) rfl (go_goto (off := 4) (tgt := 22) (by decide +kernel) (by decide +kernel) (g_Mdl_isWord_22))))))))))))
def D_Mdl_isWord : XD := xfun 3 (k_Mdl_isWord_0)
theorem m_Mdl_isWord {l : Launch} {b : Nat} {D : va_G} {dA : Nat → ClassId} {ad : Nat → Option Nat} : XMet l b D dA ad y_Mdl_isWord c_Mdl_isWord 3 (some .boolean) 1 (D_Mdl_isWord) := xmet_of (ini := false) (by decide +kernel) (fun h => by cases h) (g_Mdl_isWord_0)
-- TearPostModel.must
def k_Mdl_must_35 : XK := (xVret ())
theorem g_Mdl_must_35 {l : Launch} {b : Nat} {D : va_G} {dA : Nat → ClassId} {ad : Nat → Option Nat} : XGo l b D dA ad "TearPostModel" c_Mdl_must 2 none false 3 35 (k_Mdl_must_35) := by
  unfold k_Mdl_must_35
  exact (go_vret rfl (by decide +kernel))
def k_Mdl_must_24 : XK := (xAld 0 (xGetI 11 19 (xif_ne k_Mdl_must_35 (xAld 0 (xCallV 11 0 D_Mdl_next k_Mdl_must_35)))))
theorem g_Mdl_must_24 {l : Launch} {b : Nat} {D : va_G} {dA : Nat → ClassId} {ad : Nat → Option Nat} : XGo l b D dA ad "TearPostModel" c_Mdl_must 2 none false 3 24 (k_Mdl_must_24) := by
  unfold k_Mdl_must_24
  exact (go_aload_n (k := 0) (by decide +kernel) rfl (go_getI fr_Mdl_236 (by decide +kernel) (go_if_ne (off := 7) (tgt := 35) (by decide +kernel) (by decide +kernel) (g_Mdl_must_35) (go_aload_n (k := 0) (by decide +kernel) rfl (go_callV cl_Mdl m_Mdl_next ml_Mdl_240 rfl wi_Mdl_next ws_Mdl_next (by decide) (by decide +kernel) (g_Mdl_must_35))))))
def k_Mdl_must_0 : XK := (xAld 0 (xGetI 11 19 (xif_ne k_Mdl_must_24 (xIld 1 (xif_ne k_Mdl_must_24 (xAld 0 (xI 1 (xPutZ 11 19 (xAld 0 (xAld 0 (xGetI 11 14 (xPutI 11 18 k_Mdl_must_24))))))))))))
theorem g_Mdl_must_0 {l : Launch} {b : Nat} {D : va_G} {dA : Nat → ClassId} {ad : Nat → Option Nat} : XGo l b D dA ad "TearPostModel" c_Mdl_must 2 none false 3 0 (k_Mdl_must_0) := by
  unfold k_Mdl_must_0
  exact (go_aload_n (k := 0) (by decide +kernel) rfl (go_getI fr_Mdl_236 (by decide +kernel) (go_if_ne (off := 20) (tgt := 24) (by decide +kernel) (by decide +kernel) (g_Mdl_must_24) (go_iload_n (k := 1) (by decide +kernel) rfl (go_if_ne (off := 16) (tgt := 24) (by decide +kernel) (by decide +kernel) (g_Mdl_must_24) (go_aload_n (k := 0) (by decide +kernel) rfl (go_iconst (n := 1) (by decide +kernel) rfl (go_putZ fw_Mdl_236 (fun h => by cases h) (by decide +kernel) (go_aload_n (k := 0) (by decide +kernel) rfl (go_aload_n (k := 0) (by decide +kernel) rfl (go_getI fr_Mdl_243 (by decide +kernel) (go_putI fw_Mdl_38 (fun h => by cases h) (by decide +kernel) (g_Mdl_must_24)))))))))))))
def D_Mdl_must : XD := xfun 2 (k_Mdl_must_0)
theorem m_Mdl_must {l : Launch} {b : Nat} {D : va_G} {dA : Nat → ClassId} {ad : Nat → Option Nat} : XMet l b D dA ad y_Mdl_must c_Mdl_must 2 none 3 (D_Mdl_must) := xmet_of (ini := false) (by decide +kernel) (fun h => by cases h) (g_Mdl_must_0)
-- TearPostModel.push
def k_Mdl_push_0 : XK := (xAld 0 (xGetR 11 27 (xAld 0 (xGetI 11 29 (xIld 1 (xIasth (xAld 0 (xGetR 11 28 (xAld 0 (xGetI 11 29 (xIld 2 (xIasth (xAld 0 (xdup (xGetI 11 29 (xI 1 (xiadd (xPutI 11 29 (xVret ())))))))))))))))))))
theorem g_Mdl_push_0 {l : Launch} {b : Nat} {D : va_G} {dA : Nat → ClassId} {ad : Nat → Option Nat} : XGo l b D dA ad "TearPostModel" c_Mdl_push 3 none false 1 0 (k_Mdl_push_0) := by
  unfold k_Mdl_push_0
  exact (go_aload_n (k := 0) (by decide +kernel) rfl (go_getR fr_Mdl_51 (by decide +kernel) (go_aload_n (k := 0) (by decide +kernel) rfl (go_getI fr_Mdl_278 (by decide +kernel) (go_iload_n (k := 1) (by decide +kernel) rfl (go_iastore (by decide +kernel) (go_aload_n (k := 0) (by decide +kernel) rfl (go_getR fr_Mdl_54 (by decide +kernel) (go_aload_n (k := 0) (by decide +kernel) rfl (go_getI fr_Mdl_278 (by decide +kernel) (go_iload_n (k := 2) (by decide +kernel) rfl (go_iastore (by decide +kernel) (go_aload_n (k := 0) (by decide +kernel) rfl (go_dup (by decide +kernel) (go_getI fr_Mdl_278 (by decide +kernel) (go_iconst (n := 1) (by decide +kernel) rfl (go_iadd (by decide +kernel) (go_putI fw_Mdl_278 (fun h => by cases h) (by decide +kernel) (go_vret rfl (by decide +kernel))))))))))))))))))))
def D_Mdl_push : XD := xfun 3 (k_Mdl_push_0)
theorem m_Mdl_push {l : Launch} {b : Nat} {D : va_G} {dA : Nat → ClassId} {ad : Nat → Option Nat} : XMet l b D dA ad y_Mdl_push c_Mdl_push 3 none 1 (D_Mdl_push) := xmet_of (ini := false) (by decide +kernel) (fun h => by cases h) (g_Mdl_push_0)
-- TearPostModel.isSign
def k_Mdl_isSign_23 : XK := (xZret ())
theorem g_Mdl_isSign_23 {l : Launch} {b : Nat} {D : va_G} {dA : Nat → ClassId} {ad : Nat → Option Nat} : XGo l b D dA ad "TearPostModel" c_Mdl_isSign 2 (some .boolean) false 1 23 (k_Mdl_isSign_23) := by
  unfold k_Mdl_isSign_23
  exact (go_zret rfl (by decide +kernel))
def k_Mdl_isSign_22 : XK := (xI 0 k_Mdl_isSign_23)
theorem g_Mdl_isSign_22 {l : Launch} {b : Nat} {D : va_G} {dA : Nat → ClassId} {ad : Nat → Option Nat} : XGo l b D dA ad "TearPostModel" c_Mdl_isSign 2 (some .boolean) false 1 22 (k_Mdl_isSign_22) := by
  unfold k_Mdl_isSign_22
  exact (go_iconst (n := 0) (by decide +kernel) rfl (g_Mdl_isSign_23))
def k_Mdl_isSign_0 : XK := (xAld 0 (xGetI 11 16 (xI 3 (xicmp_ne k_Mdl_isSign_22 (xAld 0 (xGetL 11 17 (xIld 1 (xi2l (xlcmp (xif_ne k_Mdl_isSign_22 (xI 1 k_Mdl_isSign_23)))))))))))
theorem g_Mdl_isSign_0 {l : Launch} {b : Nat} {D : va_G} {dA : Nat → ClassId} {ad : Nat → Option Nat} : XGo l b D dA ad "TearPostModel" c_Mdl_isSign 2 (some .boolean) false 1 0 (k_Mdl_isSign_0) := by
  unfold k_Mdl_isSign_0
  exact (go_aload_n (k := 0) (by decide +kernel) rfl (go_getI fr_Mdl_256 (by decide +kernel) (go_iconst (n := 3) (by decide +kernel) rfl (go_icmp_ne (off := 17) (tgt := 22) (by decide +kernel) (by decide +kernel) (g_Mdl_isSign_22) (go_aload_n (k := 0) (by decide +kernel) rfl (go_getL fr_Mdl_246 (by decide +kernel) (go_iload_n (k := 1) (by decide +kernel) rfl (go_i2l (by decide +kernel) (go_lcmp (by decide +kernel) (go_if_ne (off := 7) (tgt := 22) (by decide +kernel) (by decide +kernel) (g_Mdl_isSign_22) (go_iconst (n := 1) (by decide +kernel) rfl (go_goto (off := 4) (tgt := 23) (by decide +kernel) (by decide +kernel) (g_Mdl_isSign_23)))))))))))))
def D_Mdl_isSign : XD := xfun 2 (k_Mdl_isSign_0)
theorem m_Mdl_isSign {l : Launch} {b : Nat} {D : va_G} {dA : Nat → ClassId} {ad : Nat → Option Nat} : XMet l b D dA ad y_Mdl_isSign c_Mdl_isSign 2 (some .boolean) 1 (D_Mdl_isSign) := xmet_of (ini := false) (by decide +kernel) (fun h => by cases h) (g_Mdl_isSign_0)
-- TearPostModel.openBracket
def k_Mdl_openBracket_41 : XK := (xVret ())
theorem g_Mdl_openBracket_41 {l : Launch} {b : Nat} {D : va_G} {dA : Nat → ClassId} {ad : Nat → Option Nat} : XGo l b D dA ad "TearPostModel" c_Mdl_openBracket 2 none false 4 41 (k_Mdl_openBracket_41) := by
  unfold k_Mdl_openBracket_41
  exact (go_vret rfl (by decide +kernel))
def k_Mdl_openBracket_15 : XK := (xCallV 11 1 D_Mdl_must (xAld 0 (xGetI 11 19 (xif_ne k_Mdl_openBracket_41 (xAld 0 (xdup (xGetI 11 30 (xI 1 (xiadd (xPutI 11 30 (xAld 0 (xIld 1 (xI 0 (xCallV 11 2 D_Mdl_push k_Mdl_openBracket_41))))))))))))))
theorem g_Mdl_openBracket_15 {l : Launch} {b : Nat} {D : va_G} {dA : Nat → ClassId} {ad : Nat → Option Nat} : XGo l b D dA ad "TearPostModel" c_Mdl_openBracket 2 none false 4 15 (k_Mdl_openBracket_15) := by
  unfold k_Mdl_openBracket_15
  exact (go_callV cl_Mdl m_Mdl_must ml_Mdl_271 rfl wi_Mdl_must ws_Mdl_must (by decide) (by decide +kernel) (go_aload_n (k := 0) (by decide +kernel) rfl (go_getI fr_Mdl_236 (by decide +kernel) (go_if_ne (off := 19) (tgt := 41) (by decide +kernel) (by decide +kernel) (g_Mdl_openBracket_41) (go_aload_n (k := 0) (by decide +kernel) rfl (go_dup (by decide +kernel) (go_getI fr_Mdl_300 (by decide +kernel) (go_iconst (n := 1) (by decide +kernel) rfl (go_iadd (by decide +kernel) (go_putI fw_Mdl_300 (fun h => by cases h) (by decide +kernel) (go_aload_n (k := 0) (by decide +kernel) rfl (go_iload_n (k := 1) (by decide +kernel) rfl (go_iconst (n := 0) (by decide +kernel) rfl (go_callV cl_Mdl m_Mdl_push ml_Mdl_303 rfl wi_Mdl_push ws_Mdl_push (by decide) (by decide +kernel) (g_Mdl_openBracket_41)))))))))))))))
def k_Mdl_openBracket_0 : XK := (xAld 0 (xAld 0 (xGetI 11 30 (xI 8 (xicmp_ge (xI 0 k_Mdl_openBracket_15) (xI 1 k_Mdl_openBracket_15))))))
theorem g_Mdl_openBracket_0 {l : Launch} {b : Nat} {D : va_G} {dA : Nat → ClassId} {ad : Nat → Option Nat} : XGo l b D dA ad "TearPostModel" c_Mdl_openBracket 2 none false 4 0 (k_Mdl_openBracket_0) := by
  unfold k_Mdl_openBracket_0
  exact (go_aload_n (k := 0) (by decide +kernel) rfl (go_aload_n (k := 0) (by decide +kernel) rfl (go_getI fr_Mdl_300 (by decide +kernel) (go_bipush (n := 8) (by decide +kernel) (by decide +kernel) (go_icmp_ge (off := 7) (tgt := 14) (by decide +kernel) (by decide +kernel) (go_iconst (n := 0) (by decide +kernel) rfl (g_Mdl_openBracket_15)) (go_iconst (n := 1) (by decide +kernel) rfl (go_goto (off := 4) (tgt := 15) (by decide +kernel) (by decide +kernel) (g_Mdl_openBracket_15))))))))
def D_Mdl_openBracket : XD := xfun 2 (k_Mdl_openBracket_0)
theorem m_Mdl_openBracket {l : Launch} {b : Nat} {D : va_G} {dA : Nat → ClassId} {ad : Nat → Option Nat} : XMet l b D dA ad y_Mdl_openBracket c_Mdl_openBracket 2 none 4 (D_Mdl_openBracket) := xmet_of (ini := false) (by decide +kernel) (fun h => by cases h) (g_Mdl_openBracket_0)
-- TearPostModel.orderPartAt
def k_Mdl_orderPartAt_30 (K4 : XK) : XK := (xIst 1 (xIinc 2 1 K4))
theorem g_Mdl_orderPartAt_30 {l : Launch} {b : Nat} {D : va_G} {dA : Nat → ClassId} {ad : Nat → Option Nat} {K4 : XK} (h4 : XGo l b D dA ad "TearPostModel" c_Mdl_orderPartAt 3 (some .int) false 2 4 K4) : XGo l b D dA ad "TearPostModel" c_Mdl_orderPartAt 3 (some .int) false 2 30 (k_Mdl_orderPartAt_30 K4) := by
  unfold k_Mdl_orderPartAt_30
  exact (go_istore_n (k := 1) (by decide +kernel) rfl (go_iinc (by decide +kernel) (go_goto (off := (-30)) (tgt := 4) (by decide +kernel) (by decide +kernel) h4)))
def f_Mdl_orderPartAt_4 (K4 : XK) : XK := (xIld 2 (xI 7 (xicmp_ge (xIld 1 (xIret ())) (xAld 0 (xAld 0 (xGetR 11 32 (xIld 2 (xLaldh (xCallV 11 1 D_Mdl_isWord (xif_eq (xIld 1 (k_Mdl_orderPartAt_30 K4)) (xIld 2 (xI 1 (xiadd (k_Mdl_orderPartAt_30 K4))))))))))))))
def k_Mdl_orderPartAt_4 : XK := xloop (f_Mdl_orderPartAt_4) NF
theorem g_Mdl_orderPartAt_4 {l : Launch} {b : Nat} {D : va_G} {dA : Nat → ClassId} {ad : Nat → Option Nat} : XGo l b D dA ad "TearPostModel" c_Mdl_orderPartAt 3 (some .int) false 2 4 (k_Mdl_orderPartAt_4) := by
  unfold k_Mdl_orderPartAt_4
  refine go_loop (fun K4 h4 => ?_) NF
  unfold f_Mdl_orderPartAt_4
  exact (go_iload_n (k := 2) (by decide +kernel) rfl (go_bipush (n := 7) (by decide +kernel) (by decide +kernel) (go_icmp_ge (off := 30) (tgt := 37) (by decide +kernel) (by decide +kernel) (go_iload_n (k := 1) (by decide +kernel) rfl (go_iret rfl (by decide +kernel))) (go_aload_n (k := 0) (by decide +kernel) rfl (go_aload_n (k := 0) (by decide +kernel) rfl (go_getR fr_Mdl_91 (by decide +kernel) (go_iload_n (k := 2) (by decide +kernel) rfl (go_laload (by decide +kernel) (go_callV cl_Mdl m_Mdl_isWord ml_Mdl_296 rfl wi_Mdl_isWord ws_Mdl_isWord (by decide) (by decide +kernel) (go_if_eq (off := 9) (tgt := 29) (by decide +kernel) (by decide +kernel) (go_iload_n (k := 1) (by decide +kernel) rfl (g_Mdl_orderPartAt_30 h4)) (go_iload_n (k := 2) (by decide +kernel) rfl (go_iconst (n := 1) (by decide +kernel) rfl (go_iadd (by decide +kernel) (go_goto (off := 4) (tgt := 30) (by decide +kernel) (by decide +kernel) (g_Mdl_orderPartAt_30 h4)))))))))))))))
def k_Mdl_orderPartAt_0 : XK := (xI (-1) (xIst 1 (xI 0 (xIst 2 k_Mdl_orderPartAt_4))))
theorem g_Mdl_orderPartAt_0 {l : Launch} {b : Nat} {D : va_G} {dA : Nat → ClassId} {ad : Nat → Option Nat} : XGo l b D dA ad "TearPostModel" c_Mdl_orderPartAt 3 (some .int) false 2 0 (k_Mdl_orderPartAt_0) := by
  unfold k_Mdl_orderPartAt_0
  exact (go_iconst (n := (-1)) (by decide +kernel) rfl (go_istore_n (k := 1) (by decide +kernel) rfl (go_iconst (n := 0) (by decide +kernel) rfl (go_istore_n (k := 2) (by decide +kernel) rfl (g_Mdl_orderPartAt_4)))))
def D_Mdl_orderPartAt : XD := xfun 3 (k_Mdl_orderPartAt_0)
theorem m_Mdl_orderPartAt {l : Launch} {b : Nat} {D : va_G} {dA : Nat → ClassId} {ad : Nat → Option Nat} : XMet l b D dA ad y_Mdl_orderPartAt c_Mdl_orderPartAt 3 (some .int) 2 (D_Mdl_orderPartAt) := xmet_of (ini := false) (by decide +kernel) (fun h => by cases h) (g_Mdl_orderPartAt_0)
-- TearPostModel.partAt
def k_Mdl_partAt_30 (K4 : XK) : XK := (xIst 1 (xIinc 2 1 K4))
theorem g_Mdl_partAt_30 {l : Launch} {b : Nat} {D : va_G} {dA : Nat → ClassId} {ad : Nat → Option Nat} {K4 : XK} (h4 : XGo l b D dA ad "TearPostModel" c_Mdl_partAt 3 (some .int) false 2 4 K4) : XGo l b D dA ad "TearPostModel" c_Mdl_partAt 3 (some .int) false 2 30 (k_Mdl_partAt_30 K4) := by
  unfold k_Mdl_partAt_30
  exact (go_istore_n (k := 1) (by decide +kernel) rfl (go_iinc (by decide +kernel) (go_goto (off := (-30)) (tgt := 4) (by decide +kernel) (by decide +kernel) h4)))
def f_Mdl_partAt_4 (K4 : XK) : XK := (xIld 2 (xI 10 (xicmp_ge (xIld 1 (xIret ())) (xAld 0 (xAld 0 (xGetR 11 31 (xIld 2 (xLaldh (xCallV 11 1 D_Mdl_isWord (xif_eq (xIld 1 (k_Mdl_partAt_30 K4)) (xIld 2 (xI 1 (xiadd (k_Mdl_partAt_30 K4))))))))))))))
def k_Mdl_partAt_4 : XK := xloop (f_Mdl_partAt_4) NF
theorem g_Mdl_partAt_4 {l : Launch} {b : Nat} {D : va_G} {dA : Nat → ClassId} {ad : Nat → Option Nat} : XGo l b D dA ad "TearPostModel" c_Mdl_partAt 3 (some .int) false 2 4 (k_Mdl_partAt_4) := by
  unfold k_Mdl_partAt_4
  refine go_loop (fun K4 h4 => ?_) NF
  unfold f_Mdl_partAt_4
  exact (go_iload_n (k := 2) (by decide +kernel) rfl (go_bipush (n := 10) (by decide +kernel) (by decide +kernel) (go_icmp_ge (off := 30) (tgt := 37) (by decide +kernel) (by decide +kernel) (go_iload_n (k := 1) (by decide +kernel) rfl (go_iret rfl (by decide +kernel))) (go_aload_n (k := 0) (by decide +kernel) rfl (go_aload_n (k := 0) (by decide +kernel) rfl (go_getR fr_Mdl_77 (by decide +kernel) (go_iload_n (k := 2) (by decide +kernel) rfl (go_laload (by decide +kernel) (go_callV cl_Mdl m_Mdl_isWord ml_Mdl_296 rfl wi_Mdl_isWord ws_Mdl_isWord (by decide) (by decide +kernel) (go_if_eq (off := 9) (tgt := 29) (by decide +kernel) (by decide +kernel) (go_iload_n (k := 1) (by decide +kernel) rfl (g_Mdl_partAt_30 h4)) (go_iload_n (k := 2) (by decide +kernel) rfl (go_iconst (n := 1) (by decide +kernel) rfl (go_iadd (by decide +kernel) (go_goto (off := 4) (tgt := 30) (by decide +kernel) (by decide +kernel) (g_Mdl_partAt_30 h4)))))))))))))))
def k_Mdl_partAt_0 : XK := (xI (-1) (xIst 1 (xI 0 (xIst 2 k_Mdl_partAt_4))))
theorem g_Mdl_partAt_0 {l : Launch} {b : Nat} {D : va_G} {dA : Nat → ClassId} {ad : Nat → Option Nat} : XGo l b D dA ad "TearPostModel" c_Mdl_partAt 3 (some .int) false 2 0 (k_Mdl_partAt_0) := by
  unfold k_Mdl_partAt_0
  exact (go_iconst (n := (-1)) (by decide +kernel) rfl (go_istore_n (k := 1) (by decide +kernel) rfl (go_iconst (n := 0) (by decide +kernel) rfl (go_istore_n (k := 2) (by decide +kernel) rfl (g_Mdl_partAt_4)))))
def D_Mdl_partAt : XD := xfun 3 (k_Mdl_partAt_0)
theorem m_Mdl_partAt {l : Launch} {b : Nat} {D : va_G} {dA : Nat → ClassId} {ad : Nat → Option Nat} : XMet l b D dA ad y_Mdl_partAt c_Mdl_partAt 3 (some .int) 2 (D_Mdl_partAt) := xmet_of (ini := false) (by decide +kernel) (fun h => by cases h) (g_Mdl_partAt_0)
-- TearPostModel.emit
def k_Mdl_emit_0 : XK := (xAld 0 (xGetR 11 24 (xAld 0 (xGetI 11 23 (xIld 1 (xIasth (xAld 0 (xGetR 11 25 (xAld 0 (xGetI 11 23 (xIld 2 (xIasth (xAld 0 (xdup (xGetI 11 23 (xI 1 (xiadd (xPutI 11 23 (xVret ())))))))))))))))))))
theorem g_Mdl_emit_0 {l : Launch} {b : Nat} {D : va_G} {dA : Nat → ClassId} {ad : Nat → Option Nat} : XGo l b D dA ad "TearPostModel" c_Mdl_emit 3 none false 1 0 (k_Mdl_emit_0) := by
  unfold k_Mdl_emit_0
  exact (go_aload_n (k := 0) (by decide +kernel) rfl (go_getR fr_Mdl_45 (by decide +kernel) (go_aload_n (k := 0) (by decide +kernel) rfl (go_getI fr_Mdl_275 (by decide +kernel) (go_iload_n (k := 1) (by decide +kernel) rfl (go_iastore (by decide +kernel) (go_aload_n (k := 0) (by decide +kernel) rfl (go_getR fr_Mdl_48 (by decide +kernel) (go_aload_n (k := 0) (by decide +kernel) rfl (go_getI fr_Mdl_275 (by decide +kernel) (go_iload_n (k := 2) (by decide +kernel) rfl (go_iastore (by decide +kernel) (go_aload_n (k := 0) (by decide +kernel) rfl (go_dup (by decide +kernel) (go_getI fr_Mdl_275 (by decide +kernel) (go_iconst (n := 1) (by decide +kernel) rfl (go_iadd (by decide +kernel) (go_putI fw_Mdl_275 (fun h => by cases h) (by decide +kernel) (go_vret rfl (by decide +kernel))))))))))))))))))))
def D_Mdl_emit : XD := xfun 3 (k_Mdl_emit_0)
theorem m_Mdl_emit {l : Launch} {b : Nat} {D : va_G} {dA : Nat → ClassId} {ad : Nat → Option Nat} : XMet l b D dA ad y_Mdl_emit c_Mdl_emit 3 none 1 (D_Mdl_emit) := xmet_of (ini := false) (by decide +kernel) (fun h => by cases h) (g_Mdl_emit_0)
-- TearPostModel.leaf
def k_Mdl_leaf_45 : XK := (xVret ())
theorem g_Mdl_leaf_45 {l : Launch} {b : Nat} {D : va_G} {dA : Nat → ClassId} {ad : Nat → Option Nat} : XGo l b D dA ad "TearPostModel" c_Mdl_leaf 4 none false 4 45 (k_Mdl_leaf_45) := by
  unfold k_Mdl_leaf_45
  exact (go_vret rfl (by decide +kernel))
def k_Mdl_leaf_19 : XK := (xCallV 11 1 D_Mdl_must (xAld 0 (xGetI 11 19 (xif_ne k_Mdl_leaf_45 (xAld 0 (xIld 2 (xIld 3 (xCallV 11 2 D_Mdl_emit (xAld 0 (xdup (xGetI 11 26 (xI 1 (xiadd (xPutI 11 26 k_Mdl_leaf_45))))))))))))))
theorem g_Mdl_leaf_19 {l : Launch} {b : Nat} {D : va_G} {dA : Nat → ClassId} {ad : Nat → Option Nat} : XGo l b D dA ad "TearPostModel" c_Mdl_leaf 4 none false 4 19 (k_Mdl_leaf_19) := by
  unfold k_Mdl_leaf_19
  exact (go_callV cl_Mdl m_Mdl_must ml_Mdl_271 rfl wi_Mdl_must ws_Mdl_must (by decide) (by decide +kernel) (go_aload_n (k := 0) (by decide +kernel) rfl (go_getI fr_Mdl_236 (by decide +kernel) (go_if_ne (off := 19) (tgt := 45) (by decide +kernel) (by decide +kernel) (g_Mdl_leaf_45) (go_aload_n (k := 0) (by decide +kernel) rfl (go_iload_n (k := 2) (by decide +kernel) rfl (go_iload_n (k := 3) (by decide +kernel) rfl (go_callV cl_Mdl m_Mdl_emit ml_Mdl_284 rfl wi_Mdl_emit ws_Mdl_emit (by decide) (by decide +kernel) (go_aload_n (k := 0) (by decide +kernel) rfl (go_dup (by decide +kernel) (go_getI fr_Mdl_306 (by decide +kernel) (go_iconst (n := 1) (by decide +kernel) rfl (go_iadd (by decide +kernel) (go_putI fw_Mdl_306 (fun h => by cases h) (by decide +kernel) (g_Mdl_leaf_45)))))))))))))))
def k_Mdl_leaf_18 : XK := (xI 0 k_Mdl_leaf_19)
theorem g_Mdl_leaf_18 {l : Launch} {b : Nat} {D : va_G} {dA : Nat → ClassId} {ad : Nat → Option Nat} : XGo l b D dA ad "TearPostModel" c_Mdl_leaf 4 none false 4 18 (k_Mdl_leaf_18) := by
  unfold k_Mdl_leaf_18
  exact (go_iconst (n := 0) (by decide +kernel) rfl (g_Mdl_leaf_19))
def k_Mdl_leaf_0 : XK := (xAld 0 (xIld 1 (xif_eq k_Mdl_leaf_18 (xAld 0 (xGetI 11 26 (xI 50 (xicmp_ge k_Mdl_leaf_18 (xI 1 k_Mdl_leaf_19))))))))
theorem g_Mdl_leaf_0 {l : Launch} {b : Nat} {D : va_G} {dA : Nat → ClassId} {ad : Nat → Option Nat} : XGo l b D dA ad "TearPostModel" c_Mdl_leaf 4 none false 4 0 (k_Mdl_leaf_0) := by
  unfold k_Mdl_leaf_0
  exact (go_aload_n (k := 0) (by decide +kernel) rfl (go_iload_n (k := 1) (by decide +kernel) rfl (go_if_eq (off := 16) (tgt := 18) (by decide +kernel) (by decide +kernel) (g_Mdl_leaf_18) (go_aload_n (k := 0) (by decide +kernel) rfl (go_getI fr_Mdl_306 (by decide +kernel) (go_bipush (n := 50) (by decide +kernel) (by decide +kernel) (go_icmp_ge (off := 7) (tgt := 18) (by decide +kernel) (by decide +kernel) (g_Mdl_leaf_18) (go_iconst (n := 1) (by decide +kernel) rfl (go_goto (off := 4) (tgt := 19) (by decide +kernel) (by decide +kernel) (g_Mdl_leaf_19))))))))))
def D_Mdl_leaf : XD := xfun 4 (k_Mdl_leaf_0)
theorem m_Mdl_leaf {l : Launch} {b : Nat} {D : va_G} {dA : Nat → ClassId} {ad : Nat → Option Nat} : XMet l b D dA ad y_Mdl_leaf c_Mdl_leaf 4 none 4 (D_Mdl_leaf) := xmet_of (ini := false) (by decide +kernel) (fun h => by cases h) (g_Mdl_leaf_0)
-- TearPostModel.number
def k_Mdl_number_33 : XK := (xCallV 11 1 D_Mdl_must (xIld 5 (xIret ())))
theorem g_Mdl_number_33 {l : Launch} {b : Nat} {D : va_G} {dA : Nat → ClassId} {ad : Nat → Option Nat} : XGo l b D dA ad "TearPostModel" c_Mdl_number 6 (some .int) false 4 33 (k_Mdl_number_33) := by
  unfold k_Mdl_number_33
  exact (go_callV cl_Mdl m_Mdl_must ml_Mdl_271 rfl wi_Mdl_must ws_Mdl_must (by decide) (by decide +kernel) (go_iload (by decide +kernel) (go_iret rfl (by decide +kernel))))
def k_Mdl_number_32 : XK := (xI 0 k_Mdl_number_33)
theorem g_Mdl_number_32 {l : Launch} {b : Nat} {D : va_G} {dA : Nat → ClassId} {ad : Nat → Option Nat} : XGo l b D dA ad "TearPostModel" c_Mdl_number 6 (some .int) false 4 32 (k_Mdl_number_32) := by
  unfold k_Mdl_number_32
  exact (go_iconst (n := 0) (by decide +kernel) rfl (g_Mdl_number_33))
def k_Mdl_number_0 : XK := (xAld 0 (xGetL 11 17 (xl2i (xIst 5 (xAld 0 (xAld 0 (xGetI 11 16 (xI 2 (xicmp_ne k_Mdl_number_32 (xAld 0 (xGetL 11 17 (xLld 1 (xLld 3 (xCallS 3 D_Mdl_in (xif_eq k_Mdl_number_32 (xI 1 k_Mdl_number_33))))))))))))))))
theorem g_Mdl_number_0 {l : Launch} {b : Nat} {D : va_G} {dA : Nat → ClassId} {ad : Nat → Option Nat} : XGo l b D dA ad "TearPostModel" c_Mdl_number 6 (some .int) false 4 0 (k_Mdl_number_0) := by
  unfold k_Mdl_number_0
  exact (go_aload_n (k := 0) (by decide +kernel) rfl (go_getL fr_Mdl_246 (by decide +kernel) (go_l2i (by decide +kernel) (go_istore (by decide +kernel) (go_aload_n (k := 0) (by decide +kernel) rfl (go_aload_n (k := 0) (by decide +kernel) rfl (go_getI fr_Mdl_256 (by decide +kernel) (go_iconst (n := 2) (by decide +kernel) rfl (go_icmp_ne (off := 19) (tgt := 32) (by decide +kernel) (by decide +kernel) (g_Mdl_number_32) (go_aload_n (k := 0) (by decide +kernel) rfl (go_getL fr_Mdl_246 (by decide +kernel) (go_lload_n (k := 1) (by decide +kernel) rfl (go_lload_n (k := 3) (by decide +kernel) rfl (go_callS m_Mdl_in ml_Mdl_184 wt_Mdl_in (by decide) (by decide +kernel) (go_if_eq (off := 7) (tgt := 32) (by decide +kernel) (by decide +kernel) (g_Mdl_number_32) (go_iconst (n := 1) (by decide +kernel) rfl (go_goto (off := 4) (tgt := 33) (by decide +kernel) (by decide +kernel) (g_Mdl_number_33))))))))))))))))))
def D_Mdl_number : XD := xfun 6 (k_Mdl_number_0)
theorem m_Mdl_number {l : Launch} {b : Nat} {D : va_G} {dA : Nat → ClassId} {ad : Nat → Option Nat} : XMet l b D dA ad y_Mdl_number c_Mdl_number 6 (some .int) 4 (D_Mdl_number) := xmet_of (ini := false) (by decide +kernel) (fun h => by cases h) (g_Mdl_number_0)
-- TearPostModel.readPart
def k_Mdl_readPart_143 : XK := (xI 3 (xIret ()))
theorem g_Mdl_readPart_143 {l : Launch} {b : Nat} {D : va_G} {dA : Nat → ClassId} {ad : Nat → Option Nat} : XGo l b D dA ad "TearPostModel" c_Mdl_readPart 4 (some .int) false 5 143 (k_Mdl_readPart_143) := by
  unfold k_Mdl_readPart_143
  exact (go_iconst (n := 3) (by decide +kernel) rfl (go_iret rfl (by decide +kernel)))
def k_Mdl_readPart_99 : XK := (xCallV 11 3 D_Mdl_leaf (xAld 0 (xGetI 11 20 (xif_eq k_Mdl_readPart_143 (xIld 1 (xI 6 (xicmp_lt k_Mdl_readPart_143 (xAld 0 (xGetI 11 19 (xif_ne k_Mdl_readPart_143 (xAld 0 (xGetI 11 23 (xI 1 (xisub (xIst 3 (xAld 0 (xGetR 11 25 (xIld 3 (xAld 0 (xL 0 (xL 7 (xCallV 11 2 D_Mdl_number (xIasth k_Mdl_readPart_143)))))))))))))))))))))))
theorem g_Mdl_readPart_99 {l : Launch} {b : Nat} {D : va_G} {dA : Nat → ClassId} {ad : Nat → Option Nat} : XGo l b D dA ad "TearPostModel" c_Mdl_readPart 4 (some .int) false 5 99 (k_Mdl_readPart_99) := by
  unfold k_Mdl_readPart_99
  exact (go_callV cl_Mdl m_Mdl_leaf ml_Mdl_327 rfl wi_Mdl_leaf ws_Mdl_leaf (by decide) (by decide +kernel) (go_aload_n (k := 0) (by decide +kernel) rfl (go_getI fr_Mdl_315 (by decide +kernel) (go_if_eq (off := 37) (tgt := 143) (by decide +kernel) (by decide +kernel) (g_Mdl_readPart_143) (go_iload_n (k := 1) (by decide +kernel) rfl (go_bipush (n := 6) (by decide +kernel) (by decide +kernel) (go_icmp_lt (off := 31) (tgt := 143) (by decide +kernel) (by decide +kernel) (g_Mdl_readPart_143) (go_aload_n (k := 0) (by decide +kernel) rfl (go_getI fr_Mdl_236 (by decide +kernel) (go_if_ne (off := 24) (tgt := 143) (by decide +kernel) (by decide +kernel) (g_Mdl_readPart_143) (go_aload_n (k := 0) (by decide +kernel) rfl (go_getI fr_Mdl_275 (by decide +kernel) (go_iconst (n := 1) (by decide +kernel) rfl (go_isub (by decide +kernel) (go_istore_n (k := 3) (by decide +kernel) rfl (go_aload_n (k := 0) (by decide +kernel) rfl (go_getR fr_Mdl_48 (by decide +kernel) (go_iload_n (k := 3) (by decide +kernel) rfl (go_aload_n (k := 0) (by decide +kernel) rfl (go_lconst (n := 0) (by decide +kernel) rfl (go_ldc2 (by decide +kernel) wc_Mdl_195 (go_callV cl_Mdl m_Mdl_number ml_Mdl_331 rfl wi_Mdl_number ws_Mdl_number (by decide) (by decide +kernel) (go_iastore (by decide +kernel) (g_Mdl_readPart_143))))))))))))))))))))))))
def k_Mdl_readPart_86 : XK := (xIld 2 (xif_eq (xI 0 k_Mdl_readPart_99) (xAld 0 (xGetL 11 17 (xl2i k_Mdl_readPart_99)))))
theorem g_Mdl_readPart_86 {l : Launch} {b : Nat} {D : va_G} {dA : Nat → ClassId} {ad : Nat → Option Nat} : XGo l b D dA ad "TearPostModel" c_Mdl_readPart 4 (some .int) false 5 86 (k_Mdl_readPart_86) := by
  unfold k_Mdl_readPart_86
  exact (go_iload_n (k := 2) (by decide +kernel) rfl (go_if_eq (off := 11) (tgt := 98) (by decide +kernel) (by decide +kernel) (go_iconst (n := 0) (by decide +kernel) rfl (g_Mdl_readPart_99)) (go_aload_n (k := 0) (by decide +kernel) rfl (go_getL fr_Mdl_246 (by decide +kernel) (go_l2i (by decide +kernel) (go_goto (off := 4) (tgt := 99) (by decide +kernel) (by decide +kernel) (g_Mdl_readPart_99)))))))
def k_Mdl_readPart_76 : XK := (xIld 1 (xI (-1) (xicmp_ne (xIld 1 k_Mdl_readPart_86) (xI 0 k_Mdl_readPart_86))))
theorem g_Mdl_readPart_76 {l : Launch} {b : Nat} {D : va_G} {dA : Nat → ClassId} {ad : Nat → Option Nat} : XGo l b D dA ad "TearPostModel" c_Mdl_readPart 4 (some .int) false 5 76 (k_Mdl_readPart_76) := by
  unfold k_Mdl_readPart_76
  exact (go_iload_n (k := 1) (by decide +kernel) rfl (go_iconst (n := (-1)) (by decide +kernel) rfl (go_icmp_ne (off := 7) (tgt := 85) (by decide +kernel) (by decide +kernel) (go_iload_n (k := 1) (by decide +kernel) rfl (g_Mdl_readPart_86)) (go_iconst (n := 0) (by decide +kernel) rfl (go_goto (off := 4) (tgt := 86) (by decide +kernel) (by decide +kernel) (g_Mdl_readPart_86))))))
def k_Mdl_readPart_71 : XK := (xI 1 k_Mdl_readPart_76)
theorem g_Mdl_readPart_71 {l : Launch} {b : Nat} {D : va_G} {dA : Nat → ClassId} {ad : Nat → Option Nat} : XGo l b D dA ad "TearPostModel" c_Mdl_readPart 4 (some .int) false 5 71 (k_Mdl_readPart_71) := by
  unfold k_Mdl_readPart_71
  exact (go_iconst (n := 1) (by decide +kernel) rfl (go_goto (off := 4) (tgt := 76) (by decide +kernel) (by decide +kernel) (g_Mdl_readPart_76)))
def k_Mdl_readPart_60 : XK := (xIst 2 (xAld 0 (xIld 1 (xI (-1) (xicmp_ne k_Mdl_readPart_71 (xIld 2 (xif_eq (xI 0 k_Mdl_readPart_76) k_Mdl_readPart_71)))))))
theorem g_Mdl_readPart_60 {l : Launch} {b : Nat} {D : va_G} {dA : Nat → ClassId} {ad : Nat → Option Nat} : XGo l b D dA ad "TearPostModel" c_Mdl_readPart 4 (some .int) false 5 60 (k_Mdl_readPart_60) := by
  unfold k_Mdl_readPart_60
  exact (go_istore_n (k := 2) (by decide +kernel) rfl (go_aload_n (k := 0) (by decide +kernel) rfl (go_iload_n (k := 1) (by decide +kernel) rfl (go_iconst (n := (-1)) (by decide +kernel) rfl (go_icmp_ne (off := 7) (tgt := 71) (by decide +kernel) (by decide +kernel) (g_Mdl_readPart_71) (go_iload_n (k := 2) (by decide +kernel) rfl (go_if_eq (off := 7) (tgt := 75) (by decide +kernel) (by decide +kernel) (go_iconst (n := 0) (by decide +kernel) rfl (g_Mdl_readPart_76)) (g_Mdl_readPart_71))))))))
def k_Mdl_readPart_59 : XK := (xI 0 k_Mdl_readPart_60)
theorem g_Mdl_readPart_59 {l : Launch} {b : Nat} {D : va_G} {dA : Nat → ClassId} {ad : Nat → Option Nat} : XGo l b D dA ad "TearPostModel" c_Mdl_readPart 4 (some .int) false 5 59 (k_Mdl_readPart_59) := by
  unfold k_Mdl_readPart_59
  exact (go_iconst (n := 0) (by decide +kernel) rfl (g_Mdl_readPart_60))
def k_Mdl_readPart_35 : XK := (xIst 1 (xAld 0 (xGetI 11 16 (xI 2 (xicmp_ne k_Mdl_readPart_59 (xAld 0 (xGetL 11 17 (xL 1000 (xlcmp (xif_gt k_Mdl_readPart_59 (xI 1 k_Mdl_readPart_60)))))))))))
theorem g_Mdl_readPart_35 {l : Launch} {b : Nat} {D : va_G} {dA : Nat → ClassId} {ad : Nat → Option Nat} : XGo l b D dA ad "TearPostModel" c_Mdl_readPart 4 (some .int) false 5 35 (k_Mdl_readPart_35) := by
  unfold k_Mdl_readPart_35
  exact (go_istore_n (k := 1) (by decide +kernel) rfl (go_aload_n (k := 0) (by decide +kernel) rfl (go_getI fr_Mdl_256 (by decide +kernel) (go_iconst (n := 2) (by decide +kernel) rfl (go_icmp_ne (off := 18) (tgt := 59) (by decide +kernel) (by decide +kernel) (g_Mdl_readPart_59) (go_aload_n (k := 0) (by decide +kernel) rfl (go_getL fr_Mdl_246 (by decide +kernel) (go_ldc2 (by decide +kernel) wc_Mdl_325 (go_lcmp (by decide +kernel) (go_if_gt (off := 7) (tgt := 59) (by decide +kernel) (by decide +kernel) (g_Mdl_readPart_59) (go_iconst (n := 1) (by decide +kernel) rfl (go_goto (off := 4) (tgt := 60) (by decide +kernel) (by decide +kernel) (g_Mdl_readPart_60)))))))))))))
def k_Mdl_readPart_0 : XK := (xAld 0 (xI 91 (xCallV 11 1 D_Mdl_isSign (xif_eq (xAld 0 (xGetI 11 20 (xif_eq (xAld 0 (xCallV 11 0 D_Mdl_partAt k_Mdl_readPart_35)) (xAld 0 (xCallV 11 0 D_Mdl_orderPartAt k_Mdl_readPart_35))))) (xAld 0 (xI 32 (xCallV 11 1 D_Mdl_openBracket (xI 1 (xIret ())))))))))
theorem g_Mdl_readPart_0 {l : Launch} {b : Nat} {D : va_G} {dA : Nat → ClassId} {ad : Nat → Option Nat} : XGo l b D dA ad "TearPostModel" c_Mdl_readPart 4 (some .int) false 5 0 (k_Mdl_readPart_0) := by
  unfold k_Mdl_readPart_0
  exact (go_aload_n (k := 0) (by decide +kernel) rfl (go_bipush (n := 91) (by decide +kernel) (by decide +kernel) (go_callV cl_Mdl m_Mdl_isSign ml_Mdl_309 rfl wi_Mdl_isSign ws_Mdl_isSign (by decide) (by decide +kernel) (go_if_eq (off := 11) (tgt := 17) (by decide +kernel) (by decide +kernel) (go_aload_n (k := 0) (by decide +kernel) rfl (go_getI fr_Mdl_315 (by decide +kernel) (go_if_eq (off := 10) (tgt := 31) (by decide +kernel) (by decide +kernel) (go_aload_n (k := 0) (by decide +kernel) rfl (go_callV cl_Mdl m_Mdl_partAt ml_Mdl_322 rfl wi_Mdl_partAt ws_Mdl_partAt (by decide) (by decide +kernel) (g_Mdl_readPart_35))) (go_aload_n (k := 0) (by decide +kernel) rfl (go_callV cl_Mdl m_Mdl_orderPartAt ml_Mdl_318 rfl wi_Mdl_orderPartAt ws_Mdl_orderPartAt (by decide) (by decide +kernel) (go_goto (off := 7) (tgt := 35) (by decide +kernel) (by decide +kernel) (g_Mdl_readPart_35))))))) (go_aload_n (k := 0) (by decide +kernel) rfl (go_bipush (n := 32) (by decide +kernel) (by decide +kernel) (go_callV cl_Mdl m_Mdl_openBracket ml_Mdl_312 rfl wi_Mdl_openBracket ws_Mdl_openBracket (by decide) (by decide +kernel) (go_iconst (n := 1) (by decide +kernel) rfl (go_iret rfl (by decide +kernel))))))))))
def D_Mdl_readPart : XD := xfun 4 (k_Mdl_readPart_0)
theorem m_Mdl_readPart {l : Launch} {b : Nat} {D : va_G} {dA : Nat → ClassId} {ad : Nat → Option Nat} : XMet l b D dA ad y_Mdl_readPart c_Mdl_readPart 4 (some .int) 5 (D_Mdl_readPart) := xmet_of (ini := false) (by decide +kernel) (fun h => by cases h) (g_Mdl_readPart_0)
-- TearPostModel.readPlain
def k_Mdl_readPlain_0 : XK := (xAld 0 (xL 14836 (xCallV 11 1 D_Mdl_isWord (xif_eq (xAld 0 (xI 40 (xCallV 11 1 D_Mdl_isSign (xif_eq (xAld 0 (xCallV 11 0 D_Mdl_readPart (xIret ()))) (xAld 0 (xI 31 (xCallV 11 1 D_Mdl_openBracket (xI 0 (xIret ()))))))))) (xAld 0 (xI 28 (xI 0 (xCallV 11 2 D_Mdl_push (xAld 0 (xCallV 11 0 D_Mdl_next (xI 0 (xIret ()))))))))))))
theorem g_Mdl_readPlain_0 {l : Launch} {b : Nat} {D : va_G} {dA : Nat → ClassId} {ad : Nat → Option Nat} : XGo l b D dA ad "TearPostModel" c_Mdl_readPlain 1 (some .int) false 6 0 (k_Mdl_readPlain_0) := by
  unfold k_Mdl_readPlain_0
  exact (go_aload_n (k := 0) (by decide +kernel) rfl (go_ldc2 (by decide +kernel) wc_Mdl_335 (go_callV cl_Mdl m_Mdl_isWord ml_Mdl_296 rfl wi_Mdl_isWord ws_Mdl_isWord (by decide) (by decide +kernel) (go_if_eq (off := 16) (tgt := 23) (by decide +kernel) (by decide +kernel) (go_aload_n (k := 0) (by decide +kernel) rfl (go_bipush (n := 40) (by decide +kernel) (by decide +kernel) (go_callV cl_Mdl m_Mdl_isSign ml_Mdl_309 rfl wi_Mdl_isSign ws_Mdl_isSign (by decide) (by decide +kernel) (go_if_eq (off := 11) (tgt := 40) (by decide +kernel) (by decide +kernel) (go_aload_n (k := 0) (by decide +kernel) rfl (go_callV cl_Mdl m_Mdl_readPart ml_Mdl_337 rfl wi_Mdl_readPart ws_Mdl_readPart (by decide) (by decide +kernel) (go_iret rfl (by decide +kernel)))) (go_aload_n (k := 0) (by decide +kernel) rfl (go_bipush (n := 31) (by decide +kernel) (by decide +kernel) (go_callV cl_Mdl m_Mdl_openBracket ml_Mdl_312 rfl wi_Mdl_openBracket ws_Mdl_openBracket (by decide) (by decide +kernel) (go_iconst (n := 0) (by decide +kernel) rfl (go_iret rfl (by decide +kernel)))))))))) (go_aload_n (k := 0) (by decide +kernel) rfl (go_bipush (n := 28) (by decide +kernel) (by decide +kernel) (go_iconst (n := 0) (by decide +kernel) rfl (go_callV cl_Mdl m_Mdl_push ml_Mdl_303 rfl wi_Mdl_push ws_Mdl_push (by decide) (by decide +kernel) (go_aload_n (k := 0) (by decide +kernel) rfl (go_callV cl_Mdl m_Mdl_next ml_Mdl_240 rfl wi_Mdl_next ws_Mdl_next (by decide) (by decide +kernel) (go_iconst (n := 0) (by decide +kernel) rfl (go_iret rfl (by decide +kernel)))))))))))))
def D_Mdl_readPlain : XD := xfun 1 (k_Mdl_readPlain_0)
theorem m_Mdl_readPlain {l : Launch} {b : Nat} {D : va_G} {dA : Nat → ClassId} {ad : Nat → Option Nat} : XMet l b D dA ad y_Mdl_readPlain c_Mdl_readPlain 1 (some .int) 6 (D_Mdl_readPlain) := xmet_of (ini := false) (by decide +kernel) (fun h => by cases h) (g_Mdl_readPlain_0)
-- TearPostModel.binds
def k_Mdl_binds_62 : XK := (xIret ())
theorem g_Mdl_binds_62 {l : Launch} {b : Nat} {D : va_G} {dA : Nat → ClassId} {ad : Nat → Option Nat} : XGo l b D dA ad "TearPostModel" c_Mdl_binds 1 (some .int) false 1 62 (k_Mdl_binds_62) := by
  unfold k_Mdl_binds_62
  exact (go_iret rfl (by decide +kernel))
def k_Mdl_binds_0 : XK := (xIld 0 (xI 31 (xicmp_lt (xIld 0 (xI 30 (xicmp_ne (xIld 0 (xI 29 (xicmp_ne (xIld 0 (xI 28 (xicmp_ne (xIld 0 (xI 25 (xicmp_lt (xIld 0 (xI 22 (xicmp_lt (xI 5 k_Mdl_binds_62) (xI 6 k_Mdl_binds_62)))) (xI 4 k_Mdl_binds_62)))) (xI 3 k_Mdl_binds_62)))) (xI 2 k_Mdl_binds_62)))) (xI 1 k_Mdl_binds_62)))) (xI 0 k_Mdl_binds_62))))
theorem g_Mdl_binds_0 {l : Launch} {b : Nat} {D : va_G} {dA : Nat → ClassId} {ad : Nat → Option Nat} : XGo l b D dA ad "TearPostModel" c_Mdl_binds 1 (some .int) false 1 0 (k_Mdl_binds_0) := by
  unfold k_Mdl_binds_0
  exact (go_iload_n (k := 0) (by decide +kernel) rfl (go_bipush (n := 31) (by decide +kernel) (by decide +kernel) (go_icmp_lt (off := 7) (tgt := 10) (by decide +kernel) (by decide +kernel) (go_iload_n (k := 0) (by decide +kernel) rfl (go_bipush (n := 30) (by decide +kernel) (by decide +kernel) (go_icmp_ne (off := 7) (tgt := 20) (by decide +kernel) (by decide +kernel) (go_iload_n (k := 0) (by decide +kernel) rfl (go_bipush (n := 29) (by decide +kernel) (by decide +kernel) (go_icmp_ne (off := 7) (tgt := 30) (by decide +kernel) (by decide +kernel) (go_iload_n (k := 0) (by decide +kernel) rfl (go_bipush (n := 28) (by decide +kernel) (by decide +kernel) (go_icmp_ne (off := 7) (tgt := 40) (by decide +kernel) (by decide +kernel) (go_iload_n (k := 0) (by decide +kernel) rfl (go_bipush (n := 25) (by decide +kernel) (by decide +kernel) (go_icmp_lt (off := 7) (tgt := 50) (by decide +kernel) (by decide +kernel) (go_iload_n (k := 0) (by decide +kernel) rfl (go_bipush (n := 22) (by decide +kernel) (by decide +kernel) (go_icmp_lt (off := 8) (tgt := 61) (by decide +kernel) (by decide +kernel) (go_iconst (n := 5) (by decide +kernel) rfl (g_Mdl_binds_62)) (go_bipush (n := 6) (by decide +kernel) (by decide +kernel) (go_goto (off := 4) (tgt := 62) (by decide +kernel) (by decide +kernel) (g_Mdl_binds_62)))))) (go_iconst (n := 4) (by decide +kernel) rfl (go_goto (off := 15) (tgt := 62) (by decide +kernel) (by decide +kernel) (g_Mdl_binds_62)))))) (go_iconst (n := 3) (by decide +kernel) rfl (go_goto (off := 25) (tgt := 62) (by decide +kernel) (by decide +kernel) (g_Mdl_binds_62)))))) (go_iconst (n := 2) (by decide +kernel) rfl (go_goto (off := 35) (tgt := 62) (by decide +kernel) (by decide +kernel) (g_Mdl_binds_62)))))) (go_iconst (n := 1) (by decide +kernel) rfl (go_goto (off := 45) (tgt := 62) (by decide +kernel) (by decide +kernel) (g_Mdl_binds_62)))))) (go_iconst (n := 0) (by decide +kernel) rfl (go_goto (off := 55) (tgt := 62) (by decide +kernel) (by decide +kernel) (g_Mdl_binds_62))))))
def D_Mdl_binds : XD := xfun 1 (k_Mdl_binds_0)
theorem m_Mdl_binds {l : Launch} {b : Nat} {D : va_G} {dA : Nat → ClassId} {ad : Nat → Option Nat} : XMet l b D dA ad y_Mdl_binds c_Mdl_binds 1 (some .int) 1 (D_Mdl_binds) := xmet_of (ini := false) (by decide +kernel) (fun h => by cases h) (g_Mdl_binds_0)
-- TearPostModel.settle
def k_Mdl_settle_101 : XK := (xVret ())
theorem g_Mdl_settle_101 {l : Launch} {b : Nat} {D : va_G} {dA : Nat → ClassId} {ad : Nat → Option Nat} : XGo l b D dA ad "TearPostModel" c_Mdl_settle 2 none false 2 101 (k_Mdl_settle_101) := by
  unfold k_Mdl_settle_101
  exact (go_vret rfl (by decide +kernel))
def k_Mdl_settle_63 (K0 : XK) : XK := (xAld 0 (xGetR 11 25 (xAld 0 (xGetR 11 28 (xAld 0 (xGetI 11 29 (xIaldh (xAld 0 (xGetI 11 23 (xIasth K0))))))))))
theorem g_Mdl_settle_63 {l : Launch} {b : Nat} {D : va_G} {dA : Nat → ClassId} {ad : Nat → Option Nat} {K0 : XK} (h0 : XGo l b D dA ad "TearPostModel" c_Mdl_settle 2 none false 2 0 K0) : XGo l b D dA ad "TearPostModel" c_Mdl_settle 2 none false 2 63 (k_Mdl_settle_63 K0) := by
  unfold k_Mdl_settle_63
  exact (go_aload_n (k := 0) (by decide +kernel) rfl (go_getR fr_Mdl_48 (by decide +kernel) (go_aload_n (k := 0) (by decide +kernel) rfl (go_getR fr_Mdl_54 (by decide +kernel) (go_aload_n (k := 0) (by decide +kernel) rfl (go_getI fr_Mdl_278 (by decide +kernel) (go_iaload (by decide +kernel) (go_aload_n (k := 0) (by decide +kernel) rfl (go_getI fr_Mdl_275 (by decide +kernel) (go_iastore (by decide +kernel) (go_goto (off := (-81)) (tgt := 0) (by decide +kernel) (by decide +kernel) h0)))))))))))
def k_Mdl_settle_95 (K0 : XK) : XK := (xCallV 11 2 D_Mdl_emit K0)
theorem g_Mdl_settle_95 {l : Launch} {b : Nat} {D : va_G} {dA : Nat → ClassId} {ad : Nat → Option Nat} {K0 : XK} (h0 : XGo l b D dA ad "TearPostModel" c_Mdl_settle 2 none false 2 0 K0) : XGo l b D dA ad "TearPostModel" c_Mdl_settle 2 none false 2 95 (k_Mdl_settle_95 K0) := by
  unfold k_Mdl_settle_95
  exact (go_callV cl_Mdl m_Mdl_emit ml_Mdl_284 rfl wi_Mdl_emit ws_Mdl_emit (by decide) (by decide +kernel) (go_goto (off := (-98)) (tgt := 0) (by decide +kernel) (by decide +kernel) h0))
def f_Mdl_settle_0 (K0 : XK) : XK := (xAld 0 (xGetI 11 29 (xif_le k_Mdl_settle_101 (xAld 0 (xGetR 11 27 (xAld 0 (xGetI 11 29 (xI 1 (xisub (xIaldh (xCallS 1 D_Mdl_binds (xIld 1 (xicmp_lt k_Mdl_settle_101 (xAld 0 (xdup (xGetI 11 29 (xI 1 (xisub (xPutI 11 29 (xAld 0 (xGetR 11 27 (xAld 0 (xGetI 11 29 (xIaldh (xI 29 (xicmp_eq (k_Mdl_settle_63 K0) (xAld 0 (xGetR 11 27 (xAld 0 (xGetI 11 29 (xIaldh (xI 30 (xicmp_ne (xAld 0 (xAld 0 (xGetR 11 27 (xAld 0 (xGetI 11 29 (xIaldh (xI 0 (k_Mdl_settle_95 K0)))))))) (k_Mdl_settle_63 K0))))))))))))))))))))))))))))))))))
def k_Mdl_settle_0 : XK := xloop (f_Mdl_settle_0) NF
theorem g_Mdl_settle_0 {l : Launch} {b : Nat} {D : va_G} {dA : Nat → ClassId} {ad : Nat → Option Nat} : XGo l b D dA ad "TearPostModel" c_Mdl_settle 2 none false 2 0 (k_Mdl_settle_0) := by
  unfold k_Mdl_settle_0
  refine go_loop (fun K0 h0 => ?_) NF
  unfold f_Mdl_settle_0
  exact (go_aload_n (k := 0) (by decide +kernel) rfl (go_getI fr_Mdl_278 (by decide +kernel) (go_if_le (off := 97) (tgt := 101) (by decide +kernel) (by decide +kernel) (g_Mdl_settle_101) (go_aload_n (k := 0) (by decide +kernel) rfl (go_getR fr_Mdl_51 (by decide +kernel) (go_aload_n (k := 0) (by decide +kernel) rfl (go_getI fr_Mdl_278 (by decide +kernel) (go_iconst (n := 1) (by decide +kernel) rfl (go_isub (by decide +kernel) (go_iaload (by decide +kernel) (go_callS m_Mdl_binds ml_Mdl_281 wt_Mdl_binds (by decide) (by decide +kernel) (go_iload_n (k := 1) (by decide +kernel) rfl (go_icmp_lt (off := 79) (tgt := 101) (by decide +kernel) (by decide +kernel) (g_Mdl_settle_101) (go_aload_n (k := 0) (by decide +kernel) rfl (go_dup (by decide +kernel) (go_getI fr_Mdl_278 (by decide +kernel) (go_iconst (n := 1) (by decide +kernel) rfl (go_isub (by decide +kernel) (go_putI fw_Mdl_278 (fun h => by cases h) (by decide +kernel) (go_aload_n (k := 0) (by decide +kernel) rfl (go_getR fr_Mdl_51 (by decide +kernel) (go_aload_n (k := 0) (by decide +kernel) rfl (go_getI fr_Mdl_278 (by decide +kernel) (go_iaload (by decide +kernel) (go_bipush (n := 29) (by decide +kernel) (by decide +kernel) (go_icmp_eq (off := 17) (tgt := 63) (by decide +kernel) (by decide +kernel) (g_Mdl_settle_63 h0) (go_aload_n (k := 0) (by decide +kernel) rfl (go_getR fr_Mdl_51 (by decide +kernel) (go_aload_n (k := 0) (by decide +kernel) rfl (go_getI fr_Mdl_278 (by decide +kernel) (go_iaload (by decide +kernel) (go_bipush (n := 30) (by decide +kernel) (by decide +kernel) (go_icmp_ne (off := 24) (tgt := 84) (by decide +kernel) (by decide +kernel) (go_aload_n (k := 0) (by decide +kernel) rfl (go_aload_n (k := 0) (by decide +kernel) rfl (go_getR fr_Mdl_51 (by decide +kernel) (go_aload_n (k := 0) (by decide +kernel) rfl (go_getI fr_Mdl_278 (by decide +kernel) (go_iaload (by decide +kernel) (go_iconst (n := 0) (by decide +kernel) rfl (g_Mdl_settle_95 h0)))))))) (g_Mdl_settle_63 h0))))))))))))))))))))))))))))))))))
def D_Mdl_settle : XD := xfun 2 (k_Mdl_settle_0)
theorem m_Mdl_settle {l : Launch} {b : Nat} {D : va_G} {dA : Nat → ClassId} {ad : Nat → Option Nat} : XMet l b D dA ad y_Mdl_settle c_Mdl_settle 2 none 2 (D_Mdl_settle) := xmet_of (ini := false) (by decide +kernel) (fun h => by cases h) (g_Mdl_settle_0)
-- TearPostModel.inner
def k_Mdl_inner_33 (K4 : XK) : XK := (xIst 1 (xIinc 2 1 K4))
theorem g_Mdl_inner_33 {l : Launch} {b : Nat} {D : va_G} {dA : Nat → ClassId} {ad : Nat → Option Nat} {K4 : XK} (h4 : XGo l b D dA ad "TearPostModel" c_Mdl_inner 3 (some .int) false 1 4 K4) : XGo l b D dA ad "TearPostModel" c_Mdl_inner 3 (some .int) false 1 33 (k_Mdl_inner_33 K4) := by
  unfold k_Mdl_inner_33
  exact (go_istore_n (k := 1) (by decide +kernel) rfl (go_iinc (by decide +kernel) (go_goto (off := (-33)) (tgt := 4) (by decide +kernel) (by decide +kernel) h4)))
def f_Mdl_inner_4 (K4 : XK) : XK := (xIld 2 (xAld 0 (xGetI 11 29 (xicmp_ge (xIld 1 (xIret ())) (xAld 0 (xGetR 11 27 (xIld 2 (xIaldh (xI 31 (xicmp_lt (xIld 1 (k_Mdl_inner_33 K4)) (xAld 0 (xGetR 11 27 (xIld 2 (xIaldh (k_Mdl_inner_33 K4)))))))))))))))
def k_Mdl_inner_4 : XK := xloop (f_Mdl_inner_4) NF
theorem g_Mdl_inner_4 {l : Launch} {b : Nat} {D : va_G} {dA : Nat → ClassId} {ad : Nat → Option Nat} : XGo l b D dA ad "TearPostModel" c_Mdl_inner 3 (some .int) false 1 4 (k_Mdl_inner_4) := by
  unfold k_Mdl_inner_4
  refine go_loop (fun K4 h4 => ?_) NF
  unfold f_Mdl_inner_4
  exact (go_iload_n (k := 2) (by decide +kernel) rfl (go_aload_n (k := 0) (by decide +kernel) rfl (go_getI fr_Mdl_278 (by decide +kernel) (go_icmp_ge (off := 31) (tgt := 40) (by decide +kernel) (by decide +kernel) (go_iload_n (k := 1) (by decide +kernel) rfl (go_iret rfl (by decide +kernel))) (go_aload_n (k := 0) (by decide +kernel) rfl (go_getR fr_Mdl_51 (by decide +kernel) (go_iload_n (k := 2) (by decide +kernel) rfl (go_iaload (by decide +kernel) (go_bipush (n := 31) (by decide +kernel) (by decide +kernel) (go_icmp_lt (off := 12) (tgt := 32) (by decide +kernel) (by decide +kernel) (go_iload_n (k := 1) (by decide +kernel) rfl (g_Mdl_inner_33 h4)) (go_aload_n (k := 0) (by decide +kernel) rfl (go_getR fr_Mdl_51 (by decide +kernel) (go_iload_n (k := 2) (by decide +kernel) rfl (go_iaload (by decide +kernel) (go_goto (off := 4) (tgt := 33) (by decide +kernel) (by decide +kernel) (g_Mdl_inner_33 h4))))))))))))))))
def k_Mdl_inner_0 : XK := (xI (-1) (xIst 1 (xI 0 (xIst 2 k_Mdl_inner_4))))
theorem g_Mdl_inner_0 {l : Launch} {b : Nat} {D : va_G} {dA : Nat → ClassId} {ad : Nat → Option Nat} : XGo l b D dA ad "TearPostModel" c_Mdl_inner 3 (some .int) false 1 0 (k_Mdl_inner_0) := by
  unfold k_Mdl_inner_0
  exact (go_iconst (n := (-1)) (by decide +kernel) rfl (go_istore_n (k := 1) (by decide +kernel) rfl (go_iconst (n := 0) (by decide +kernel) rfl (go_istore_n (k := 2) (by decide +kernel) rfl (g_Mdl_inner_4)))))
def D_Mdl_inner : XD := xfun 3 (k_Mdl_inner_0)
theorem m_Mdl_inner {l : Launch} {b : Nat} {D : va_G} {dA : Nat → ClassId} {ad : Nat → Option Nat} : XMet l b D dA ad y_Mdl_inner c_Mdl_inner 3 (some .int) 1 (D_Mdl_inner) := xmet_of (ini := false) (by decide +kernel) (fun h => by cases h) (g_Mdl_inner_0)
-- TearPostModel.isCompared
def k_Mdl_isCompared_64 : XK := (xZret ())
theorem g_Mdl_isCompared_64 {l : Launch} {b : Nat} {D : va_G} {dA : Nat → ClassId} {ad : Nat → Option Nat} : XGo l b D dA ad "TearPostModel" c_Mdl_isCompared 2 (some .boolean) false 2 64 (k_Mdl_isCompared_64) := by
  unfold k_Mdl_isCompared_64
  exact (go_zret rfl (by decide +kernel))
def k_Mdl_isCompared_63 : XK := (xI 0 k_Mdl_isCompared_64)
theorem g_Mdl_isCompared_63 {l : Launch} {b : Nat} {D : va_G} {dA : Nat → ClassId} {ad : Nat → Option Nat} : XGo l b D dA ad "TearPostModel" c_Mdl_isCompared 2 (some .boolean) false 2 63 (k_Mdl_isCompared_63) := by
  unfold k_Mdl_isCompared_63
  exact (go_iconst (n := 0) (by decide +kernel) rfl (g_Mdl_isCompared_64))
def k_Mdl_isCompared_36 : XK := (xIld 1 (xif_lt k_Mdl_isCompared_63 (xAld 0 (xGetR 11 27 (xIld 1 (xIaldh (xi2l (xL 25 (xL 27 (xCallS 3 D_Mdl_in (xif_eq k_Mdl_isCompared_63 (xI 1 k_Mdl_isCompared_64))))))))))))
theorem g_Mdl_isCompared_36 {l : Launch} {b : Nat} {D : va_G} {dA : Nat → ClassId} {ad : Nat → Option Nat} : XGo l b D dA ad "TearPostModel" c_Mdl_isCompared 2 (some .boolean) false 2 36 (k_Mdl_isCompared_36) := by
  unfold k_Mdl_isCompared_36
  exact (go_iload_n (k := 1) (by decide +kernel) rfl (go_if_lt (off := 26) (tgt := 63) (by decide +kernel) (by decide +kernel) (g_Mdl_isCompared_63) (go_aload_n (k := 0) (by decide +kernel) rfl (go_getR fr_Mdl_51 (by decide +kernel) (go_iload_n (k := 1) (by decide +kernel) rfl (go_iaload (by decide +kernel) (go_i2l (by decide +kernel) (go_ldc2 (by decide +kernel) wc_Mdl_292 (go_ldc2 (by decide +kernel) wc_Mdl_294 (go_callS m_Mdl_in ml_Mdl_184 wt_Mdl_in (by decide) (by decide +kernel) (go_if_eq (off := 7) (tgt := 63) (by decide +kernel) (by decide +kernel) (g_Mdl_isCompared_63) (go_iconst (n := 1) (by decide +kernel) rfl (go_goto (off := 4) (tgt := 64) (by decide +kernel) (by decide +kernel) (g_Mdl_isCompared_64))))))))))))))
def f_Mdl_isCompared_7 (K7 : XK) : XK := (xIld 1 (xif_lt k_Mdl_isCompared_36 (xAld 0 (xGetR 11 27 (xIld 1 (xIaldh (xi2l (xL 20 (xL 24 (xCallS 3 D_Mdl_in (xif_eq k_Mdl_isCompared_36 (xIinc 1 (-1) K7))))))))))))
def k_Mdl_isCompared_7 : XK := xloop (f_Mdl_isCompared_7) NF
theorem g_Mdl_isCompared_7 {l : Launch} {b : Nat} {D : va_G} {dA : Nat → ClassId} {ad : Nat → Option Nat} : XGo l b D dA ad "TearPostModel" c_Mdl_isCompared 2 (some .boolean) false 2 7 (k_Mdl_isCompared_7) := by
  unfold k_Mdl_isCompared_7
  refine go_loop (fun K7 h7 => ?_) NF
  unfold f_Mdl_isCompared_7
  exact (go_iload_n (k := 1) (by decide +kernel) rfl (go_if_lt (off := 28) (tgt := 36) (by decide +kernel) (by decide +kernel) (g_Mdl_isCompared_36) (go_aload_n (k := 0) (by decide +kernel) rfl (go_getR fr_Mdl_51 (by decide +kernel) (go_iload_n (k := 1) (by decide +kernel) rfl (go_iaload (by decide +kernel) (go_i2l (by decide +kernel) (go_ldc2 (by decide +kernel) wc_Mdl_288 (go_ldc2 (by decide +kernel) wc_Mdl_290 (go_callS m_Mdl_in ml_Mdl_184 wt_Mdl_in (by decide) (by decide +kernel) (go_if_eq (off := 9) (tgt := 36) (by decide +kernel) (by decide +kernel) (g_Mdl_isCompared_36) (go_iinc (by decide +kernel) (go_goto (off := (-26)) (tgt := 7) (by decide +kernel) (by decide +kernel) h7)))))))))))))
def k_Mdl_isCompared_0 : XK := (xAld 0 (xGetI 11 29 (xI 1 (xisub (xIst 1 k_Mdl_isCompared_7)))))
theorem g_Mdl_isCompared_0 {l : Launch} {b : Nat} {D : va_G} {dA : Nat → ClassId} {ad : Nat → Option Nat} : XGo l b D dA ad "TearPostModel" c_Mdl_isCompared 2 (some .boolean) false 2 0 (k_Mdl_isCompared_0) := by
  unfold k_Mdl_isCompared_0
  exact (go_aload_n (k := 0) (by decide +kernel) rfl (go_getI fr_Mdl_278 (by decide +kernel) (go_iconst (n := 1) (by decide +kernel) rfl (go_isub (by decide +kernel) (go_istore_n (k := 1) (by decide +kernel) rfl (g_Mdl_isCompared_7))))))
def D_Mdl_isCompared : XD := xfun 2 (k_Mdl_isCompared_0)
theorem m_Mdl_isCompared {l : Launch} {b : Nat} {D : va_G} {dA : Nat → ClassId} {ad : Nat → Option Nat} : XMet l b D dA ad y_Mdl_isCompared c_Mdl_isCompared 2 (some .boolean) 2 (D_Mdl_isCompared) := xmet_of (ini := false) (by decide +kernel) (fun h => by cases h) (g_Mdl_isCompared_0)
