theorem CPx.tp {G : XH} {X : XDt} (h : CPx G X) {k : Nat} (hk : k ≤ X.2.2.1.1) : CPx (stI G 47 1 (nI k)) (tpX X (k, X.2.2.1.2)) := by
  have h0 := h
  obtain ⟨_, b, cc, d, e, f, g, i⟩ := h
  have hf : FC (fun a k => a == 47 && k == 1) G (stI G 47 1 (nI k)) := (Fr.refl.wI rfl).fc
  have hW : ∀ a k : Nat, ¬ a = 47 → (a == 47 && k == 1) = false := fun a k h1 => by simp [h1]
  have hL : Lo (fun a k => a == 47 && k == 1) := fun a k ha => hW a k (by omega)
  refine h0.mk hf hL (b.fc hf (fun a k h1 h2 => hW a k (by omega)) hL (by decide)) (cc.unc (UnC.fc hf (fun k => rfl) (fun k => rfl) (fun j hj k => hW _ k (by omega)))) ⟨?_, fun j hj => ?_⟩ (e.fc hf rfl rfl rfl rfl) (f.fc hf (fun k => rfl)) (g.fc hf rfl (fun k => rfl)) rfl
  · rw [stI_up, hpI_stA, up_eq]
    rfl
  · rw [hf.I rfl]
    have hj' : j < k := hj
    exact d.2 j (by omega)
theorem MPx.tp {G : XH} {X : XDt} (h : MPx G X) (h16 : X.2.1.1 ≤ 16) {k : Nat} (hk : k ≤ X.2.2.1.1) : MPx (stI G 70 13 (nI k)) (tpX X (k, X.2.2.1.2)) := by
  have h1' := h
  have hf : Fr (fun a k => a == 70 && k == 13) G (stI G 70 13 (nI k)) := Fr.refl.wI rfl
  obtain ⟨⟨a1, a2, a3⟩, b, cc, d, e, f, g, i⟩ := h
  refine h1'.mk hf (fun a k hk => by rcases hk with rfl | rfl | rfl <;> rfl) ((hf.I rfl).trans a3) ((hf.IA _ (fun _ => rfl)).trans b) (cc.fr hf h16 rfl (fun k _ => rfl) (fun k => rfl)) ⟨?_, fun j hj => ?_⟩ (e.fr hf rfl rfl rfl rfl) (f.fr hf (fun k => rfl)) (g.fr hf rfl (fun k => rfl)) (i.fr hf (fun k => rfl) (fun k => rfl))
  · rw [stI_up, hpI_stA, up_eq]
    rfl
  · rw [hf.I rfl]
    have hj' : j < k := hj
    exact d.2 j (by omega)
theorem CPx.bl {G : XH} {X : XDt} (h : CPx G X) (v : Int32) : CPx (stI G 0 19 v) (blX X v) := by
  have h0 := h
  obtain ⟨_, b, cc, d, ⟨e1, e2, e3, e4⟩, f, g, i⟩ := h
  have hf : FC (fun a k => a == 0 && k == 19) G (stI G 0 19 v) := (Fr.refl.wI rfl).fc
  have hW : ∀ a k : Nat, ¬ a = 0 → (a == 0 && k == 19) = false := fun a k h1 => by simp [h1]
  have hL : Lo (fun a k => a == 0 && k == 19) := fun a k ha => hW a k (by omega)
  refine h0.mk hf hL (b.fc hf (fun a k h1 h2 => hW a k (by omega)) hL (by decide)) (cc.unc (UnC.fc hf (fun k => rfl) (fun k => rfl) (fun j hj k => hW _ k (by omega)))) (d.fc hf rfl (fun k => rfl)) ⟨?_, (hf.I rfl).trans e2, (hf.I rfl).trans e3, (hf.I rfl).trans e4⟩ (f.fc hf (fun k => rfl)) (g.fc hf rfl (fun k => rfl)) rfl
  rw [stI_up, hpI_stA, up_eq]
  rfl
theorem MPx.bl {G : XH} {X : XDt} (h : MPx G X) (h16 : X.2.1.1 ≤ 16) (v : Int32) : MPx (stI G 70 11 v) (blX X v) := by
  have h1' := h
  have hf : Fr (fun a k => a == 70 && k == 11) G (stI G 70 11 v) := Fr.refl.wI rfl
  obtain ⟨⟨a1, a2, a3⟩, b, cc, d, ⟨e1, e2, e3, e4⟩, f, g, i⟩ := h
  refine h1'.mk hf (fun a k hk => by rcases hk with rfl | rfl | rfl <;> rfl) ((hf.I rfl).trans a3) ((hf.IA _ (fun _ => rfl)).trans b) (cc.fr hf h16 rfl (fun k _ => rfl) (fun k => rfl)) (d.fr hf rfl (fun k => rfl)) ⟨?_, (hf.I rfl).trans e2, (hf.I rfl).trans e3, (hf.I rfl).trans e4⟩ (f.fr hf (fun k => rfl)) (g.fr hf rfl (fun k => rfl)) (i.fr hf (fun k => rfl) (fun k => rfl))
  rw [stI_up, hpI_stA, up_eq]
  rfl
theorem a255 (v : Int32) : ∃ x, x < 256 ∧ v &&& 255 = nI x := by
  refine ⟨(v &&& 255).toBitVec.toNat, ?_, ?_⟩
  · show (v.toBitVec &&& (255 : Int32).toBitVec).toNat < 256
    rw [BitVec.toNat_and]
    exact Nat.lt_of_le_of_lt Nat.and_le_right (by decide)
  · apply Int32.toBitVec_inj.mp
    show (v &&& 255).toBitVec = BitVec.ofNat 32 (v &&& 255).toBitVec.toNat
    rw [BitVec.ofNat_toNat, BitVec.setWidth_eq]
theorem upK_at {f : Nat → Int32} {n : Nat} {v : Int32} {j : Nat} : upK f n v 4 j = if n ≤ j ∧ j < n + 4 then byF v (j - n) else f j := by
  simp only [upK]
  unfold up
  by_cases h : n ≤ j ∧ j < n + 4
  · rw [if_pos h]
    rcases (show j = n + 0 ∨ j = n + 1 ∨ j = n + 2 ∨ j = n + 3 by omega) with z | z | z | z <;> subst z <;> simp
  · rw [if_neg h, if_neg (by omega), if_neg (by omega), if_neg (by omega), if_neg (by omega)]
theorem b4_upK {v : Int32} {n : Nat} {f : Nat → Int32} : b4 v n f = upK f n v 4 := by
  funext j
  rw [upK_at]
  unfold b4
  by_cases h : n ≤ j ∧ j < n + 4
  · rw [if_pos h]
    have b0 : byF v 0 = v >>> 24 &&& 255 := rfl
    have b1 : byF v 1 = v >>> 16 &&& 255 := rfl
    have b2 : byF v 2 = v >>> 8 &&& 255 := rfl
    have b3 : byF v 3 = v >>> 0 &&& 255 := rfl
    rcases (show j = n + 0 ∨ j = n + 1 ∨ j = n + 2 ∨ j = n + 3 by omega) with z | z | z | z <;> subst z <;> simp [b0, b1, b2, b3]
  · rw [if_neg h, if_neg (by omega), if_neg (by omega), if_neg (by omega), if_neg (by omega)]
theorem fdF_eq {f g : Nat → Int32} {n : Nat} {a b c d e : Int32} (h : ∀ k, k < n → f k = g k) : ∀ k, k < n + 20 → fdF f n a b c d e k = fdF g n a b c d e k := by
  intro k hk
  unfold fdF
  simp only [upK_at]
  by_cases z : k < n
  · rw [h k z]
  · by_cases z1 : n + 16 ≤ k ∧ k < n + 16 + 4
    · rw [if_pos z1, if_pos z1]
    · rw [if_neg z1, if_neg z1]
      by_cases z2 : n + 12 ≤ k ∧ k < n + 12 + 4
      · rw [if_pos z2, if_pos z2]
      · rw [if_neg z2, if_neg z2]
        by_cases z3 : n + 8 ≤ k ∧ k < n + 8 + 4
        · rw [if_pos z3, if_pos z3]
        · rw [if_neg z3, if_neg z3]
          by_cases z4 : n + 4 ≤ k ∧ k < n + 4 + 4
          · rw [if_pos z4, if_pos z4]
          · rw [if_neg z4, if_neg z4, if_pos (by omega), if_pos (by omega)]
theorem upK_b {f : Nat → Int32} {n : Nat} {v : Int32} (h : ∀ k, ∃ x, x < 256 ∧ f k = nI x) : ∀ k, ∃ x, x < 256 ∧ upK f n v 4 k = nI x := by
  intro k
  rw [upK_at]
  split
  · exact a255 _
  · exact h k
theorem fdF_b {f : Nat → Int32} {n : Nat} {a b c d e : Int32} (h : ∀ k, ∃ x, x < 256 ∧ f k = nI x) : ∀ k, ∃ x, x < 256 ∧ fdF f n a b c d e k = nI x := upK_b (upK_b (upK_b (upK_b (upK_b h))))
theorem t4_cun {G : XH} {v : Int32} {n : Nat} : CUn G (t4 v n G) := by
  unfold t4
  exact (((((((cun_stI (by omega) (by omega)).trans (cun_stI (by omega) (by omega))).trans (cun_stI (by omega) (by omega))).trans (cun_stI (by omega) (by omega))).trans (cun_stI (by omega) (by omega))).trans (cun_stI (by omega) (by omega))).trans (cun_stI (by omega) (by omega))).trans (cun_stI (by omega) (by omega))
def WTp : Nat → Nat → Bool := fun a k => a == 79 || (a == 70 && k == 13)
theorem t4_fr {G : XH} {v : Int32} {n : Nat} : Fr WTp G (t4 v n G) := by
  unfold t4
  exact (((((((Fr.refl.wI (by simp [WTp])).wI rfl).wI (by simp [WTp])).wI rfl).wI (by simp [WTp])).wI rfl).wI (by simp [WTp])).wI rfl
theorem st_feed {X : XDt} {c : Nat} (h : VXe X c) (a b cc d e : Int32) : StX D_Post_feed D_Mdl_feed [.int a, .int b, .int cc, .int d, .int e] X c := by
  have h0 := h
  obtain ⟨nr, nl, n, m, A, B, hV⟩ := h
  obtain ⟨V1, V2, V3, V4, V5⟩ := hV
  have hn : X.2.2.1.1 ≤ 400 := V3
  by_cases q : X.2.2.1.1 ≤ 380
  · obtain ⟨f0, hf0⟩ : ∃ f0 : Nat → Int32, f0 = fun k => if k < X.2.2.1.1 then nI (X.2.2.1.2 k) else 0 := ⟨_, rfl⟩
    have hb0 : ∀ k, ∃ x, x < 256 ∧ f0 k = nI x := fun k => by
      rw [hf0]
      dsimp only
      split
      · next z => exact ⟨_, V4 k z, rfl⟩
      · exact ⟨0, by omega, rfl⟩
    have hfd := fdF_b (n := X.2.2.1.1) (a := a) (b := b) (c := cc) (d := d) (e := e) hb0
    obtain ⟨T', hT'⟩ : ∃ T' : Nat → Nat, T' = fun k => (fdF f0 X.2.2.1.1 a b cc d e k).toNatClampNeg := ⟨_, rfl⟩
    have hT : ∀ k, T' k < 256 ∧ fdF f0 X.2.2.1.1 a b cc d e k = nI (T' k) := fun k => by
      obtain ⟨x, x1, x2⟩ := hfd k
      rw [hT']
      dsimp only
      rw [x2, nI_clamp (by omega)]
      exact ⟨x1, rfl⟩
    have hfc : ∀ f : Nat → Int32, (∀ k, k < X.2.2.1.1 → f k = nI (X.2.2.1.2 k)) → ∀ k, k < X.2.2.1.1 + 20 → fdF f X.2.2.1.1 a b cc d e k = nI (T' k) := fun f hf k hk => (fdF_eq (g := f0) (fun j hj => by rw [hf j hj, hf0]; exact (if_pos hj).symm) k hk).trans (hT k).2
    refine ⟨nI (X.2.2.1.1 + 20), tpX X (X.2.2.1.1 + 20, T'), VXe.mono (c := c) ⟨nr, nl, n, m, A, B, V1, V2, by show X.2.2.1.1 + 20 ≤ 400; omega, fun k _ => (hT k).1, V5⟩ (by omega), fun G hG => ?_, fun G hG => ?_⟩
    · rw [c_feed hG.1.1 _ _ _ _ _ _ _ hn hG.2.2.2.1.1, if_pos q]
      have h0' := hG
      obtain ⟨_, y1, y2, y3, y4, y5, y6, y7⟩ := hG
      have hf : FC (fun a k => a == 48 || (a == 47 && k == 1)) G (stI (stA G 48 (fdF (hpI G 48) X.2.2.1.1 a b cc d e)) 47 1 (nI (X.2.2.1.1 + 20))) := ((Fr.refl.wA (fun k q => absurd q (by simp))).wI rfl).fc
      have hW : ∀ a k : Nat, ¬ a = 47 → ¬ a = 48 → (a == 48 || (a == 47 && k == 1)) = false := fun a k h1 h2 => by simp [h1, h2]
      have hL : Lo (fun a k => a == 48 || (a == 47 && k == 1)) := fun a k ha => hW a k (by omega) (by omega)
      refine ⟨rfl, h0'.mk hf hL (y1.fc hf (fun a k h1 h2 => hW a k (by omega) (by omega)) hL (by decide)) (y2.unc (UnC.fc hf (fun k => rfl) (fun k => rfl) (fun j hj k => hW _ k (by omega) (by omega)))) ⟨?_, fun j hj => ?_⟩ (y4.fc hf rfl rfl rfl rfl) (y5.fc hf (fun k => rfl)) (y6.fc hf rfl (fun k => rfl)) rfl, (mun_stA (Or.inl (by omega))).trans (mun_stI (Or.inl (by omega))), by show hpZ G ≤ _; omega, by show hpS G ≤ _; omega⟩
      · rw [stI_up, hpI_stA, up_eq]
        rfl
      · rw [stI_up, hpI_stA_ne (by decide), hpI_stA]
        exact hfc _ y3.2 j hj
    · rw [s_feed hG.1.1 _ _ _ _ _ _ _ hn hG.2.2.2.1.1, if_pos q]
      have h1 := hG.t0 h0.h16
      obtain ⟨G0, hG0⟩ : ∃ G0, G0 = stI G 70 0 0 := ⟨_, rfl⟩
      have hu0 : CUn G G0 := by rw [hG0]; exact cun_t0
      rw [← hG0] at h1 ⊢
      have hf : Fr WTp G0 (t4 e (X.2.2.1.1 + 16) (t4 d (X.2.2.1.1 + 12) (t4 cc (X.2.2.1.1 + 8) (t4 b (X.2.2.1.1 + 4) (t4 a X.2.2.1.1 G0))))) := (((t4_fr.trans t4_fr).trans t4_fr).trans t4_fr).trans t4_fr
      have hu : CUn G0 (t4 e (X.2.2.1.1 + 16) (t4 d (X.2.2.1.1 + 12) (t4 cc (X.2.2.1.1 + 8) (t4 b (X.2.2.1.1 + 4) (t4 a X.2.2.1.1 G0))))) := (((t4_cun.trans t4_cun).trans t4_cun).trans t4_cun).trans t4_cun
      have h1' := h1
      obtain ⟨⟨a1, a2, a3⟩, b', cc', d', e', f', g', i'⟩ := h1
      refine ⟨rfl, h1'.mk hf (fun a k hk => by rcases hk with rfl | rfl | rfl <;> rfl) ((hf.I rfl).trans a3) ((hf.IA _ (fun _ => rfl)).trans b') (cc'.fr hf h0.h16 rfl (fun k _ => rfl) (fun k => rfl)) ⟨?_, fun j hj => ?_⟩ (e'.fr hf rfl rfl rfl rfl) (f'.fr hf (fun k => rfl)) (g'.fr hf rfl (fun k => rfl)) (i'.fr hf (fun k => rfl) (fun k => rfl)), hu0.trans hu⟩
      · rw [t4_n]
        rfl
      · rw [t4_t, b4_upK, t4_t, b4_upK, t4_t, b4_upK, t4_t, b4_upK, t4_t, b4_upK]
        exact hfc _ d'.2 j hj
  · exact st_ans h0 (v := -1) (fun G hG Q => by rw [c_feed hG.1.1 _ _ _ _ _ _ _ hn hG.2.2.2.1.1, if_neg q]) (fun G hG Q => by rw [s_feed hG.1.1 _ _ _ _ _ _ _ hn hG.2.2.2.1.1, if_neg q])
