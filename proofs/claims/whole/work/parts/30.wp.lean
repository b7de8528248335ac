/-! WHAT A PIECE OF CODE ANSWERS, as equations for simp -/
def WP (K : XK) (A : List (Option Value)) (st : List Value) (G : XH) (Q : XR → Prop) : Prop := ∃ res, K A st G = some res ∧ Q res
/-- a method's answer -/
def SP (F : XD) (av : List Value) (G : XH) (Q : XR → Prop) : Prop := ∃ res, F av G = some res ∧ Q res
theorem WP.mono {K : XK} {A : List (Option Value)} {st : List Value} {G : XH} {Q Q' : XR → Prop} (h : WP K A st G Q) (hq : ∀ r, Q r → Q' r) : WP K A st G Q' := by
  obtain ⟨r, h1, h2⟩ := h
  exact ⟨r, h1, hq r h2⟩
theorem SP.mono {F : XD} {av : List Value} {G : XH} {Q Q' : XR → Prop} (h : SP F av G Q) (hq : ∀ r, Q r → Q' r) : SP F av G Q' := by
  obtain ⟨r, h1, h2⟩ := h
  exact ⟨r, h1, hq r h2⟩
theorem wp_none {Q : XR → Prop} : (∃ res : XR, (none : Option XR) = some res ∧ Q res) = False := by
  apply propext
  constructor
  · rintro ⟨r, h, -⟩
    cases h
  · exact False.elim
theorem wp_some {Q : XR → Prop} {r : XR} : (∃ res : XR, some r = some res ∧ Q res) = Q r := by
  apply propext
  constructor
  · rintro ⟨r', h, q⟩
    cases h
    exact q
  · exact fun q => ⟨r, rfl, q⟩
theorem wp_ite {c : Prop} {inst : Decidable c} {x y : Option XR} {Q : XR → Prop} : (∃ res, (if c then x else y) = some res ∧ Q res) = ((c → ∃ res, x = some res ∧ Q res) ∧ (¬ c → ∃ res, y = some res ∧ Q res)) := by
  apply propext
  by_cases h : c
  · simp [h]
  · simp [h]
theorem wp_chk {c : Prop} {inst : Decidable c} {x : Option XR} {Q : XR → Prop} : (∃ res, (if c then x else none) = some res ∧ Q res) = (c ∧ ∃ res, x = some res ∧ Q res) := by
  apply propext
  by_cases h : c
  · simp [h]
  · simp [h]
section W
variable {K Kt Kf : XK} {A : List (Option Value)} {st r : List Value} {G : XH} {Q : XR → Prop} {x y : Int32} {u v : Int64} {a c : Value} {i j k ci : Nat}
theorem w_iadd : WP (xiadd K) A (.int y :: .int x :: r) G Q = WP K A (.int (x + y) :: r) G Q := rfl
theorem w_isub : WP (xisub K) A (.int y :: .int x :: r) G Q = WP K A (.int (x - y) :: r) G Q := rfl
theorem w_imul : WP (ximul K) A (.int y :: .int x :: r) G Q = WP K A (.int (x * y) :: r) G Q := rfl
theorem w_iand : WP (xiand K) A (.int y :: .int x :: r) G Q = WP K A (.int (x &&& y) :: r) G Q := rfl
theorem w_ior : WP (xior K) A (.int y :: .int x :: r) G Q = WP K A (.int (x ||| y) :: r) G Q := rfl
theorem w_ixor : WP (xixor K) A (.int y :: .int x :: r) G Q = WP K A (.int (x ^^^ y) :: r) G Q := rfl
theorem w_ishl : WP (xishl K) A (.int y :: .int x :: r) G Q = WP K A (.int (x <<< (y &&& 31)) :: r) G Q := rfl
theorem w_ishr : WP (xishr K) A (.int y :: .int x :: r) G Q = WP K A (.int (x >>> (y &&& 31)) :: r) G Q := rfl
theorem w_iushr : WP (xiushr K) A (.int y :: .int x :: r) G Q = WP K A (.int ((x.toUInt32 >>> (y.toUInt32 &&& Int32.toUInt32 31)).toInt32) :: r) G Q := rfl
theorem w_idiv : WP (xidiv K) A (.int y :: .int x :: r) G Q = (¬ y = 0 ∧ WP K A (.int (x / y) :: r) G Q) := by unfold WP xidiv; exact wp_chk
theorem w_irem : WP (xirem K) A (.int y :: .int x :: r) G Q = (¬ y = 0 ∧ WP K A (.int (x - (x / y) * y) :: r) G Q) := by unfold WP xirem; exact wp_chk
theorem w_ineg : WP (xineg K) A (.int x :: r) G Q = WP K A (.int (-x) :: r) G Q := rfl
theorem w_ladd : WP (xladd K) A (.long v :: .long u :: r) G Q = WP K A (.long (u + v) :: r) G Q := rfl
theorem w_lsub : WP (xlsub K) A (.long v :: .long u :: r) G Q = WP K A (.long (u - v) :: r) G Q := rfl
theorem w_lmul : WP (xlmul K) A (.long v :: .long u :: r) G Q = WP K A (.long (u * v) :: r) G Q := rfl
theorem w_ldiv : WP (xldiv K) A (.long v :: .long u :: r) G Q = (¬ v = 0 ∧ WP K A (.long (u / v) :: r) G Q) := by unfold WP xldiv; exact wp_chk
theorem w_lrem : WP (xlrem K) A (.long v :: .long u :: r) G Q = (¬ v = 0 ∧ WP K A (.long (u - (u / v) * v) :: r) G Q) := by unfold WP xlrem; exact wp_chk
theorem w_i2l : WP (xi2l K) A (.int x :: r) G Q = WP K A (.long x.toInt64 :: r) G Q := rfl
theorem w_l2i : WP (xl2i K) A (.long u :: r) G Q = WP K A (.int u.toInt32 :: r) G Q := rfl
theorem w_i2c : WP (xi2c K) A (.int x :: r) G Q = WP K A (.int (x.toUInt32 % 65536).toInt32 :: r) G Q := rfl
theorem w_lcmp : WP (xlcmp K) A (.long v :: .long u :: r) G Q = WP K A (.int (lg_cmp u v) :: r) G Q := rfl
theorem w_dup_int : WP (xdup K) A (.int x :: r) G Q = WP K A (.int x :: .int x :: r) G Q := rfl
theorem w_pop_int : WP (xpop K) A (.int x :: r) G Q = WP K A r G Q := rfl
theorem w_dup_ref : WP (xdup K) A (.ref j :: r) G Q = WP K A (.ref j :: .ref j :: r) G Q := rfl
theorem w_pop_ref : WP (xpop K) A (.ref j :: r) G Q = WP K A r G Q := rfl
theorem w_dup_retAddr : WP (xdup K) A (.retAddr j :: r) G Q = WP K A (.retAddr j :: .retAddr j :: r) G Q := rfl
theorem w_pop_retAddr : WP (xpop K) A (.retAddr j :: r) G Q = WP K A r G Q := rfl
theorem w_dup2 : WP (xdup2 K) A (.int x :: .ref j :: r) G Q = WP K A (.int x :: .ref j :: .int x :: .ref j :: r) G Q := rfl
theorem w_I : WP (xI x K) A st G Q = WP K A (.int x :: st) G Q := rfl
theorem w_L : WP (xL u K) A st G Q = WP K A (.long u :: st) G Q := rfl
theorem w_Null : WP (xNull K) A st G Q = WP K A (.null :: st) G Q := rfl
theorem w_Ild : WP (xIld i K) A st G Q = (match A[i]? with | some (some (.int x)) => WP K A (.int x :: st) G Q | _ => False) := by
  unfold WP xIld
  split
  · next h => simp only [h]
  · next h => rw [wp_none]; split <;> simp_all
theorem w_Lld : WP (xLld i K) A st G Q = (match A[i]? with | some (some (.long u)) => WP K A (.long u :: st) G Q | _ => False) := by
  unfold WP xLld
  split
  · next h => simp only [h]
  · next h => rw [wp_none]; split <;> simp_all
theorem w_Ald : WP (xAld i K) A st G Q = (match A[i]? with | some (some (.ref j)) => WP K A (.ref j :: st) G Q | some (some (.retAddr j)) => WP K A (.retAddr j :: st) G Q | some (some .null) => WP K A (.null :: st) G Q | _ => False) := by
  unfold WP xAld
  split
  · next h => simp only [h]
  · next h => simp only [h]
  · next h => simp only [h]
  · next h => rw [wp_none]; split <;> simp_all
theorem w_Ist : WP (xIst i K) A (.int x :: r) G Q = ((xok A i = true ∧ i < A.length) ∧ WP K (A.set i (some (.int x))) r G Q) := by unfold WP xIst; exact wp_chk
theorem w_Lst : WP (xLst i K) A (.long u :: r) G Q = ((xok A i = true ∧ i + 1 < A.length) ∧ WP K ((A.set i (some (.long u))).set (i + 1) none) r G Q) := by unfold WP xLst; exact wp_chk
theorem w_Ast : WP (xAst i K) A (.ref j :: r) G Q = ((xok A i = true ∧ i < A.length) ∧ WP K (A.set i (some (.ref j))) r G Q) := by unfold WP xAst; exact wp_chk
theorem w_Iinc {n : Int} : WP (xIinc i n K) A st G Q = (match A[i]? with | some (some (.int x)) => xok A i = true ∧ WP K (A.set i (some (.int (x + Int32.ofInt n)))) st G Q | _ => False) := by
  unfold WP xIinc
  split
  · next h => simp only [h]; exact wp_chk
  · next h => rw [wp_none]; split <;> simp_all
theorem w_if_eq : WP (xif_eq Kt Kf) A (.int x :: r) G Q = ((x = 0 → WP Kt A r G Q) ∧ (¬ (x = 0) → WP Kf A r G Q)) := by unfold WP xif_eq; exact wp_ite
theorem w_icmp_eq : WP (xicmp_eq Kt Kf) A (.int y :: .int x :: r) G Q = ((x = y → WP Kt A r G Q) ∧ (¬ (x = y) → WP Kf A r G Q)) := by unfold WP xicmp_eq; exact wp_ite
theorem w_if_ne : WP (xif_ne Kt Kf) A (.int x :: r) G Q = ((x = 0 → WP Kf A r G Q) ∧ (¬ (x = 0) → WP Kt A r G Q)) := by unfold WP xif_ne; exact wp_ite
theorem w_icmp_ne : WP (xicmp_ne Kt Kf) A (.int y :: .int x :: r) G Q = ((x = y → WP Kf A r G Q) ∧ (¬ (x = y) → WP Kt A r G Q)) := by unfold WP xicmp_ne; exact wp_ite
theorem w_if_lt : WP (xif_lt Kt Kf) A (.int x :: r) G Q = ((x < 0 → WP Kt A r G Q) ∧ (¬ (x < 0) → WP Kf A r G Q)) := by unfold WP xif_lt; exact wp_ite
theorem w_icmp_lt : WP (xicmp_lt Kt Kf) A (.int y :: .int x :: r) G Q = ((x < y → WP Kt A r G Q) ∧ (¬ (x < y) → WP Kf A r G Q)) := by unfold WP xicmp_lt; exact wp_ite
theorem w_if_ge : WP (xif_ge Kt Kf) A (.int x :: r) G Q = ((0 ≤ x → WP Kt A r G Q) ∧ (¬ (0 ≤ x) → WP Kf A r G Q)) := by unfold WP xif_ge; exact wp_ite
theorem w_icmp_ge : WP (xicmp_ge Kt Kf) A (.int y :: .int x :: r) G Q = ((y ≤ x → WP Kt A r G Q) ∧ (¬ (y ≤ x) → WP Kf A r G Q)) := by unfold WP xicmp_ge; exact wp_ite
theorem w_if_gt : WP (xif_gt Kt Kf) A (.int x :: r) G Q = ((0 < x → WP Kt A r G Q) ∧ (¬ (0 < x) → WP Kf A r G Q)) := by unfold WP xif_gt; exact wp_ite
theorem w_icmp_gt : WP (xicmp_gt Kt Kf) A (.int y :: .int x :: r) G Q = ((y < x → WP Kt A r G Q) ∧ (¬ (y < x) → WP Kf A r G Q)) := by unfold WP xicmp_gt; exact wp_ite
theorem w_if_le : WP (xif_le Kt Kf) A (.int x :: r) G Q = ((x ≤ 0 → WP Kt A r G Q) ∧ (¬ (x ≤ 0) → WP Kf A r G Q)) := by unfold WP xif_le; exact wp_ite
theorem w_icmp_le : WP (xicmp_le Kt Kf) A (.int y :: .int x :: r) G Q = ((x ≤ y → WP Kt A r G Q) ∧ (¬ (x ≤ y) → WP Kf A r G Q)) := by unfold WP xicmp_le; exact wp_ite
theorem w_GetI : WP (xGetI ci k K) A (.ref j :: r) G Q = (hpC G j = ci ∧ WP K A (.int (hpI G j k) :: r) G Q) := by unfold WP xGetI; exact wp_chk
theorem w_GetL : WP (xGetL ci k K) A (.ref j :: r) G Q = (hpC G j = ci ∧ WP K A (.long (hpL G j k) :: r) G Q) := by unfold WP xGetL; exact wp_chk
theorem w_GetR : WP (xGetR ci k K) A (.ref j :: r) G Q = (hpC G j = ci ∧ WP K A (va_rf (hpR G j k) :: r) G Q) := by unfold WP xGetR; exact wp_chk
theorem w_PutI : WP (xPutI ci k K) A (.int x :: .ref j :: r) G Q = (hpC G j = ci ∧ WP K A r (stI G j k x) Q) := by unfold WP xPutI; exact wp_chk
theorem w_PutZ : WP (xPutZ ci k K) A (.int x :: .ref j :: r) G Q = ((hpC G j = ci ∧ (x = 0 ∨ x = 1)) ∧ WP K A r (stI G j k x) Q) := by unfold WP xPutZ; exact wp_chk
theorem w_PutL : WP (xPutL ci k K) A (.long u :: .ref j :: r) G Q = (hpC G j = ci ∧ WP K A r (stL G j k u) Q) := by unfold WP xPutL; exact wp_chk
theorem w_PutR : WP (xPutR ci k K) A (.ref i :: .ref j :: r) G Q = (hpC G j = ci ∧ WP K A r (stR G j k (some i)) Q) := by unfold WP xPutR; exact wp_chk
theorem w_PutN : WP (xPutR ci k K) A (.null :: .ref j :: r) G Q = (hpC G j = ci ∧ WP K A r (stR G j k none) Q) := by unfold WP xPutR; exact wp_chk
theorem w_Iald : WP (xIaldh K) A (.int x :: .ref j :: r) G Q = ((hpC G j = 20 ∧ xin x (hpN G j)) ∧ WP K A (.int (hpI G j x.toNatClampNeg) :: r) G Q) := by unfold WP xIaldh; exact wp_chk
theorem w_Zald : WP (xZaldh K) A (.int x :: .ref j :: r) G Q = ((hpC G j = 21 ∧ xin x (hpN G j)) ∧ WP K A (.int (hpI G j x.toNatClampNeg) :: r) G Q) := by unfold WP xZaldh; exact wp_chk
theorem w_Lald : WP (xLaldh K) A (.int x :: .ref j :: r) G Q = ((hpC G j = 22 ∧ xin x (hpN G j)) ∧ WP K A (.long (hpL G j x.toNatClampNeg) :: r) G Q) := by unfold WP xLaldh; exact wp_chk
theorem w_Aald : WP (xAaldh K) A (.int x :: .ref j :: r) G Q = (((hpC G j = 23 ∨ hpC G j = 24 ∨ hpC G j = 25) ∧ xin x (hpN G j)) ∧ WP K A (va_rf (hpR G j x.toNatClampNeg) :: r) G Q) := by unfold WP xAaldh; exact wp_chk
theorem w_Iast : WP (xIasth K) A (.int y :: .int x :: .ref j :: r) G Q = ((hpC G j = 20 ∧ xin x (hpN G j)) ∧ WP K A r (stI G j x.toNatClampNeg y) Q) := by unfold WP xIasth; exact wp_chk
theorem w_Zast : WP (xZasth K) A (.int y :: .int x :: .ref j :: r) G Q = (((hpC G j = 21 ∧ xin x (hpN G j)) ∧ (y = 0 ∨ y = 1)) ∧ WP K A r (stI G j x.toNatClampNeg y) Q) := by unfold WP xZasth; exact wp_chk
theorem w_Last : WP (xLasth K) A (.long u :: .int x :: .ref j :: r) G Q = ((hpC G j = 22 ∧ xin x (hpN G j)) ∧ WP K A r (stL G j x.toNatClampNeg u) Q) := by unfold WP xLasth; exact wp_chk
theorem w_AastR : WP (xAasth k ci K) A (.ref i :: .int x :: .ref j :: r) G Q = (((hpC G j = k ∧ xin x (hpN G j)) ∧ hpC G i = ci) ∧ WP K A r (stR G j x.toNatClampNeg (some i)) Q) := by unfold WP xAasth; exact wp_chk
theorem w_AastN : WP (xAasth k ci K) A (.null :: .int x :: .ref j :: r) G Q = ((hpC G j = k ∧ xin x (hpN G j)) ∧ WP K A r (stR G j x.toNatClampNeg none) Q) := by unfold WP xAasth; exact wp_chk
theorem w_Alen : WP (xAlen K) A (.ref j :: r) G Q = ((20 ≤ hpC G j ∧ hpC G j ≤ 25) ∧ WP K A (.int (Int32.ofNat (hpN G j)) :: r) G Q) := by unfold WP xAlen; exact wp_chk
theorem w_New : WP (xNew ci k K) A st G Q = WP K A (.ref (hpZ G) :: st) (stN G ci k) Q := rfl
theorem w_NewA : WP (xNewA k K) A (.int x :: r) G Q = ((0 ≤ x ∧ x.toNatClampNeg ≤ 100000) ∧ WP K A (.ref (hpZ G) :: r) (stN G k x.toNatClampNeg) Q) := by unfold WP xNewA; exact wp_chk
theorem w_Mna : WP (xMna K) A (.int y :: .int x :: r) G Q = (((0 ≤ x ∧ x.toNatClampNeg ≤ 10000) ∧ (0 ≤ y ∧ y.toNatClampNeg ≤ 10000)) ∧ WP K A (.ref (hpZ G) :: r) (xmna G x.toNatClampNeg y.toNatClampNeg) Q) := by unfold WP xMna; exact wp_chk
theorem w_Iret : WP (xIret ()) A [.int x] G Q = Q (some (.int x), G) := by unfold WP xIret; exact wp_some
theorem w_Zret : WP (xZret ()) A [.int x] G Q = ((x = 0 ∨ x = 1) ∧ Q (some (.int x), G)) := by unfold WP xZret; rw [wp_chk, wp_some]
theorem w_Cret : WP (xCret ()) A [.int x] G Q = (narrow .char (.int x) = .int x ∧ Q (some (.int x), G)) := by unfold WP xCret; rw [wp_chk, wp_some]
theorem w_Bret : WP (xBret ()) A [.int x] G Q = (narrow .byte (.int x) = .int x ∧ Q (some (.int x), G)) := by unfold WP xBret; rw [wp_chk, wp_some]
theorem w_Lret : WP (xLret ()) A [.long u] G Q = Q (some (.long u), G) := by unfold WP xLret; exact wp_some
theorem w_AretR : WP (xAret ()) A [.ref j] G Q = Q (some (.ref j), G) := by unfold WP xAret; exact wp_some
theorem w_AretN : WP (xAret ()) A [.null] G Q = Q (some .null, G) := by unfold WP xAret; exact wp_some
theorem w_Vret : WP (xVret ()) A [] G Q = Q (none, G) := by unfold WP xVret; exact wp_some
theorem w_Obj : WP (xObj K) A (.ref j :: r) G Q = ((r.map Value.category).sum ≤ 8 ∧ WP K A r G Q) := by unfold WP xObj; exact wp_chk
theorem w_IfNN : WP (xIfN Kt Kf) A (.null :: r) G Q = WP Kt A r G Q := rfl
theorem w_IfNR : WP (xIfN Kt Kf) A (.ref j :: r) G Q = WP Kf A r G Q := rfl
theorem w_Copy {n : Int32} : WP (xCopy K) A (.int n :: .int y :: .ref j :: .int x :: .ref i :: r) G Q = (((hpC G i = 20 ∧ hpC G j = 20) ∧ ((0 ≤ x ∧ 0 ≤ y ∧ 0 ≤ n) ∧ (x.toNatClampNeg + n.toNatClampNeg ≤ hpN G i ∧ y.toNatClampNeg + n.toNatClampNeg ≤ hpN G j)) ∧ (r.map Value.category).sum ≤ 8) ∧ WP K A r (stA G j (va_cpy (hpI G i) (hpI G j) x.toNatClampNeg y.toNatClampNeg n.toNatClampNeg)) Q) := by unfold WP xCopy; exact wp_chk
theorem w_Cln : WP (xCln K) A (.ref j :: r) G Q = ((hpC G j = 20 ∧ (r.map Value.category).sum ≤ 8) ∧ WP K A (.ref (hpZ G) :: r) (stA (stN G 20 (hpN G j)) (hpZ G) (hpI G j)) Q) := by unfold WP xCln; exact wp_chk
theorem w_Cast : WP (xCast K) A (.ref j :: r) G Q = (hpC G j = 20 ∧ WP K A (.ref j :: r) G Q) := by unfold WP xCast; exact wp_chk
theorem w_SfA : WP (xSfA i K) A st G Q = WP K A (.retAddr (64 + i) :: st) G Q := rfl
theorem w_SfI : WP (xSfI x K) A st G Q = WP K A (.int x :: st) G Q := rfl
theorem w_SfQ : WP (xSfQ i K) A st G Q = WP K A (.retAddr (96 + i) :: st) G Q := rfl
theorem w_Str : WP (xStr i K) A st G Q = WP K A (.retAddr i :: st) G Q := rfl
theorem w_ScLd {f : Nat → Int32} : WP (xScLd i f K) A (.int x :: .retAddr j :: r) G Q = ((j = 128 ∧ xin x i) ∧ WP K A (.int (f x.toNatClampNeg) :: r) G Q) := by unfold WP xScLd; exact wp_chk
theorem w_ScLen : WP (xScLen i K) A (.retAddr j :: r) G Q = (j = 128 ∧ WP K A (.int (Int32.ofNat i) :: r) G Q) := by unfold WP xScLen; exact wp_chk
/-- a call: its arguments' values in order, behind the receiver -/
theorem w_CallV {n : Nat} {F : XD} (h1 : st.drop n = .ref j :: r) (h2 : n ≤ st.length ∧ (r.map Value.category).sum ≤ 8) : WP (xCallV ci n F K) A st G Q = (hpC G j = ci ∧ SP F (.ref j :: (st.take n).reverse) G (fun q => WP K A (q.1.toList ++ r) q.2 Q)) := by
  unfold WP SP xCallV
  rw [h1]
  simp only [h2, true_and, and_self]
  rw [wp_chk]
  congr 1
  apply propext
  constructor
  · rintro ⟨res, e1, e2⟩
    split at e1
    · next q hq => exact ⟨q, hq, res, e1, e2⟩
    · cases e1
  · rintro ⟨q, hq, res, e1, e2⟩
    exact ⟨res, by rw [hq]; exact e1, e2⟩
theorem w_CallS {n : Nat} {F : XD} (h2 : n ≤ st.length ∧ ((st.drop n).map Value.category).sum ≤ 8) : WP (xCallS n F K) A st G Q = SP F (st.take n).reverse G (fun q => WP K A (q.1.toList ++ st.drop n) q.2 Q) := by
  unfold WP SP xCallS
  rw [if_pos h2]
  apply propext
  constructor
  · rintro ⟨res, e1, e2⟩
    split at e1
    · next q hq => exact ⟨q, hq, res, e1, e2⟩
    · cases e1
  · rintro ⟨q, hq, res, e1, e2⟩
    exact ⟨res, by rw [hq]; exact e1, e2⟩
theorem w_CV0 {F : XD} : WP (xCallV ci 0 F K) A (.ref j :: r) G Q = (((r.map Value.category).sum ≤ 8 ∧ hpC G j = ci) ∧ SP F [.ref j] G (fun q => WP K A (q.1.toList ++ r) q.2 Q)) := by
  apply propext
  by_cases h : (r.map Value.category).sum ≤ 8
  · rw [w_CallV (r := r) (j := j) (by simp) ⟨by simp, h⟩]
    simp [h]
  · constructor
    · rintro ⟨res, e1, -⟩
      simp [xCallV, h] at e1
    · rintro ⟨⟨h1, -⟩, -⟩
      exact absurd h1 h
theorem w_CS0 {F : XD} : WP (xCallS 0 F K) A (r) G Q = ((r.map Value.category).sum ≤ 8 ∧ SP F [] G (fun q => WP K A (q.1.toList ++ r) q.2 Q)) := by
  apply propext
  by_cases h : (r.map Value.category).sum ≤ 8
  · rw [w_CallS ⟨by simp, by simpa using h⟩]
    simp [h]
  · constructor
    · rintro ⟨res, e1, -⟩
      simp [xCallS, h] at e1
    · rintro ⟨h1, -⟩
      exact absurd h1 h
theorem w_CV1 {F : XD} {a0 : Value} : WP (xCallV ci 1 F K) A (a0 :: .ref j :: r) G Q = (((r.map Value.category).sum ≤ 8 ∧ hpC G j = ci) ∧ SP F [.ref j, a0] G (fun q => WP K A (q.1.toList ++ r) q.2 Q)) := by
  apply propext
  by_cases h : (r.map Value.category).sum ≤ 8
  · rw [w_CallV (r := r) (j := j) (by simp) ⟨by simp, h⟩]
    simp [h]
  · constructor
    · rintro ⟨res, e1, -⟩
      simp [xCallV, h] at e1
    · rintro ⟨⟨h1, -⟩, -⟩
      exact absurd h1 h
theorem w_CS1 {F : XD} {a0 : Value} : WP (xCallS 1 F K) A (a0 :: r) G Q = ((r.map Value.category).sum ≤ 8 ∧ SP F [a0] G (fun q => WP K A (q.1.toList ++ r) q.2 Q)) := by
  apply propext
  by_cases h : (r.map Value.category).sum ≤ 8
  · rw [w_CallS ⟨by simp, by simpa using h⟩]
    simp [h]
  · constructor
    · rintro ⟨res, e1, -⟩
      simp [xCallS, h] at e1
    · rintro ⟨h1, -⟩
      exact absurd h1 h
theorem w_CV2 {F : XD} {a0 a1 : Value} : WP (xCallV ci 2 F K) A (a1 :: a0 :: .ref j :: r) G Q = (((r.map Value.category).sum ≤ 8 ∧ hpC G j = ci) ∧ SP F [.ref j, a0, a1] G (fun q => WP K A (q.1.toList ++ r) q.2 Q)) := by
  apply propext
  by_cases h : (r.map Value.category).sum ≤ 8
  · rw [w_CallV (r := r) (j := j) (by simp) ⟨by simp, h⟩]
    simp [h]
  · constructor
    · rintro ⟨res, e1, -⟩
      simp [xCallV, h] at e1
    · rintro ⟨⟨h1, -⟩, -⟩
      exact absurd h1 h
theorem w_CS2 {F : XD} {a0 a1 : Value} : WP (xCallS 2 F K) A (a1 :: a0 :: r) G Q = ((r.map Value.category).sum ≤ 8 ∧ SP F [a0, a1] G (fun q => WP K A (q.1.toList ++ r) q.2 Q)) := by
  apply propext
  by_cases h : (r.map Value.category).sum ≤ 8
  · rw [w_CallS ⟨by simp, by simpa using h⟩]
    simp [h]
  · constructor
    · rintro ⟨res, e1, -⟩
      simp [xCallS, h] at e1
    · rintro ⟨h1, -⟩
      exact absurd h1 h
theorem w_CV3 {F : XD} {a0 a1 a2 : Value} : WP (xCallV ci 3 F K) A (a2 :: a1 :: a0 :: .ref j :: r) G Q = (((r.map Value.category).sum ≤ 8 ∧ hpC G j = ci) ∧ SP F [.ref j, a0, a1, a2] G (fun q => WP K A (q.1.toList ++ r) q.2 Q)) := by
  apply propext
  by_cases h : (r.map Value.category).sum ≤ 8
  · rw [w_CallV (r := r) (j := j) (by simp) ⟨by simp, h⟩]
    simp [h]
  · constructor
    · rintro ⟨res, e1, -⟩
      simp [xCallV, h] at e1
    · rintro ⟨⟨h1, -⟩, -⟩
      exact absurd h1 h
theorem w_CS3 {F : XD} {a0 a1 a2 : Value} : WP (xCallS 3 F K) A (a2 :: a1 :: a0 :: r) G Q = ((r.map Value.category).sum ≤ 8 ∧ SP F [a0, a1, a2] G (fun q => WP K A (q.1.toList ++ r) q.2 Q)) := by
  apply propext
  by_cases h : (r.map Value.category).sum ≤ 8
  · rw [w_CallS ⟨by simp, by simpa using h⟩]
    simp [h]
  · constructor
    · rintro ⟨res, e1, -⟩
      simp [xCallS, h] at e1
    · rintro ⟨h1, -⟩
      exact absurd h1 h
theorem w_CV4 {F : XD} {a0 a1 a2 a3 : Value} : WP (xCallV ci 4 F K) A (a3 :: a2 :: a1 :: a0 :: .ref j :: r) G Q = (((r.map Value.category).sum ≤ 8 ∧ hpC G j = ci) ∧ SP F [.ref j, a0, a1, a2, a3] G (fun q => WP K A (q.1.toList ++ r) q.2 Q)) := by
  apply propext
  by_cases h : (r.map Value.category).sum ≤ 8
  · rw [w_CallV (r := r) (j := j) (by simp) ⟨by simp, h⟩]
    simp [h]
  · constructor
    · rintro ⟨res, e1, -⟩
      simp [xCallV, h] at e1
    · rintro ⟨⟨h1, -⟩, -⟩
      exact absurd h1 h
theorem w_CS4 {F : XD} {a0 a1 a2 a3 : Value} : WP (xCallS 4 F K) A (a3 :: a2 :: a1 :: a0 :: r) G Q = ((r.map Value.category).sum ≤ 8 ∧ SP F [a0, a1, a2, a3] G (fun q => WP K A (q.1.toList ++ r) q.2 Q)) := by
  apply propext
  by_cases h : (r.map Value.category).sum ≤ 8
  · rw [w_CallS ⟨by simp, by simpa using h⟩]
    simp [h]
  · constructor
    · rintro ⟨res, e1, -⟩
      simp [xCallS, h] at e1
    · rintro ⟨h1, -⟩
      exact absurd h1 h
theorem w_CV5 {F : XD} {a0 a1 a2 a3 a4 : Value} : WP (xCallV ci 5 F K) A (a4 :: a3 :: a2 :: a1 :: a0 :: .ref j :: r) G Q = (((r.map Value.category).sum ≤ 8 ∧ hpC G j = ci) ∧ SP F [.ref j, a0, a1, a2, a3, a4] G (fun q => WP K A (q.1.toList ++ r) q.2 Q)) := by
  apply propext
  by_cases h : (r.map Value.category).sum ≤ 8
  · rw [w_CallV (r := r) (j := j) (by simp) ⟨by simp, h⟩]
    simp [h]
  · constructor
    · rintro ⟨res, e1, -⟩
      simp [xCallV, h] at e1
    · rintro ⟨⟨h1, -⟩, -⟩
      exact absurd h1 h
theorem w_CS5 {F : XD} {a0 a1 a2 a3 a4 : Value} : WP (xCallS 5 F K) A (a4 :: a3 :: a2 :: a1 :: a0 :: r) G Q = ((r.map Value.category).sum ≤ 8 ∧ SP F [a0, a1, a2, a3, a4] G (fun q => WP K A (q.1.toList ++ r) q.2 Q)) := by
  apply propext
  by_cases h : (r.map Value.category).sum ≤ 8
  · rw [w_CallS ⟨by simp, by simpa using h⟩]
    simp [h]
  · constructor
    · rintro ⟨res, e1, -⟩
      simp [xCallS, h] at e1
    · rintro ⟨h1, -⟩
      exact absurd h1 h
end W
/-- a loop, by a number that falls -/
theorem w_loop {F : XK → XK} {Q : XR → Prop} (P : Nat → List (Option Value) → List Value → XH → Prop)
    (hs : ∀ (m : Nat) (A : List (Option Value)) (st : List Value) (G : XH) (K : XK), P m A st G → (∀ (m' : Nat) (A' : List (Option Value)) (st' : List Value) (G' : XH), m' < m → P m' A' st' G' → WP K A' st' G' Q) → WP (F K) A st G Q) :
    ∀ (n m : Nat) (A : List (Option Value)) (st : List Value) (G : XH), m < n → P m A st G → WP (xloop F n) A st G Q
  | 0, m, A, st, G, hm, _ => absurd hm (Nat.not_lt_zero _)
  | n + 1, m, A, st, G, hm, hp => hs m A st G (xloop F n) hp fun m' A' st' G' hm' hp' => w_loop P hs n m' A' st' G' (by omega) hp'
/-- a method out of its code -/
theorem sp_fun {nL : Nat} {K : XK} {av : List Value} {G : XH} {Q : XR → Prop} (h : (xen av nL).length = nL) : SP (xfun nL K) av G Q = WP K (xen av nL) [] G Q := by
  unfold SP WP xfun
  rw [if_pos h]
/-! the heap's parts behind a write -/
section H
variable {G : XH} {a k x y c n : Nat} {v : Int32} {w : Int64} {q : Option Nat} {f : Nat → Int32}
theorem stI_C : hpC (stI G a k v) = hpC G := rfl
theorem stI_N : hpN (stI G a k v) = hpN G := rfl
theorem stI_Z : hpZ (stI G a k v) = hpZ G := rfl
theorem stI_S : hpS (stI G a k v) = hpS G := rfl
theorem stI_L : hpL (stI G a k v) = hpL G := rfl
theorem stI_R : hpR (stI G a k v) = hpR G := rfl
theorem stL_C : hpC (stL G a k w) = hpC G := rfl
theorem stL_N : hpN (stL G a k w) = hpN G := rfl
theorem stL_Z : hpZ (stL G a k w) = hpZ G := rfl
theorem stL_S : hpS (stL G a k w) = hpS G := rfl
theorem stL_I : hpI (stL G a k w) = hpI G := rfl
theorem stL_R : hpR (stL G a k w) = hpR G := rfl
theorem stR_C : hpC (stR G a k q) = hpC G := rfl
theorem stR_N : hpN (stR G a k q) = hpN G := rfl
theorem stR_Z : hpZ (stR G a k q) = hpZ G := rfl
theorem stR_S : hpS (stR G a k q) = hpS G := rfl
theorem stR_I : hpI (stR G a k q) = hpI G := rfl
theorem stR_L : hpL (stR G a k q) = hpL G := rfl
theorem stA_C : hpC (stA G a f) = hpC G := rfl
theorem stA_N : hpN (stA G a f) = hpN G := rfl
theorem stA_Z : hpZ (stA G a f) = hpZ G := rfl
theorem stA_S : hpS (stA G a f) = hpS G := rfl
theorem stA_L : hpL (stA G a f) = hpL G := rfl
theorem stA_R : hpR (stA G a f) = hpR G := rfl
theorem stI_I : hpI (stI G a k v) x y = if x = a then (if y = k then v else hpI G x y) else hpI G x y := rfl
theorem stL_L : hpL (stL G a k w) x y = if x = a then (if y = k then w else hpL G x y) else hpL G x y := rfl
theorem stR_R : hpR (stR G a k q) x y = if x = a then (if y = k then q else hpR G x y) else hpR G x y := rfl
theorem stA_I : hpI (stA G a f) x = if x = a then f else hpI G x := rfl
theorem stN_C : hpC (stN G c n) x = if x = hpZ G then c else hpC G x := rfl
theorem stN_N : hpN (stN G c n) x = if x = hpZ G then n else hpN G x := rfl
theorem stN_Z : hpZ (stN G c n) = hpZ G + 1 := rfl
theorem stN_S : hpS (stN G c n) = hpS G + n := rfl
theorem stN_I : hpI (stN G c n) x = if x = hpZ G then (fun _ => 0) else hpI G x := rfl
theorem stN_L : hpL (stN G c n) x = if x = hpZ G then (fun _ => 0) else hpL G x := rfl
theorem stN_R : hpR (stN G c n) x = if x = hpZ G then (fun _ => none) else hpR G x := rfl
theorem stI_ne (h : ¬ x = a) : hpI (stI G a k v) x = hpI G x := up2_ne h
theorem stL_ne (h : ¬ x = a) : hpL (stL G a k w) x = hpL G x := up2_ne h
theorem stR_ne (h : ¬ x = a) : hpR (stR G a k q) x = hpR G x := up2_ne h
end H
