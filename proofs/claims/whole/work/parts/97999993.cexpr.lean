theorem c_gsum {b : Nat → Nat} {len : Nat} {od : Bool} : ∀ k q, k ≤ 8 → 3 * k + 3 ≤ q → GCS b len od (D_g0 q 4) (8 - k) (gSum b len od k)
  | 0, q, _, hq => by
    obtain ⟨q', rfl⟩ : ∃ q', q = q' + 1 + 1 + 1 := ⟨q - 3, by omega⟩
    have h1 : GCS b len od (D_g0 (q' + 1) 6) 8 (gPart b len od none) := c_part (by omega) (fun g hg => by cases hg) (fun _ => rfl)
    have h2 : GCS b len od (D_g0 (q' + 1 + 1) 5) 8 (gTerm b len od none) := c_term h1 (gPart_ok rfl (fun g hg => by cases hg))
    exact c_sum h2 (gTerm_ok rfl (fun g hg => by cases hg))
  | k + 1, q, hk, hq => by
    obtain ⟨q', rfl⟩ : ∃ q', q = q' + 1 + 1 + 1 := ⟨q - 3, by omega⟩
    have ih := c_gsum (b := b) (len := len) (od := od) k q' (by omega) (by omega)
    have e : 8 - (k + 1) + 1 = 8 - k := by omega
    have h1 : GCS b len od (D_g0 (q' + 1) 6) (8 - (k + 1)) (gPart b len od (some (gSum b len od k))) := c_part (by omega) (fun g hg => by cases hg; exact ⟨by omega, by rw [e]; exact ih⟩) (fun hg => by cases hg)
    have h2 : GCS b len od (D_g0 (q' + 1 + 1) 5) (8 - (k + 1)) (gTerm b len od (some (gSum b len od k))) := c_term h1 (gPart_ok rfl (fun g hg => by cases hg; exact gSum_ok rfl k))
    exact c_sum h2 (gTerm_ok rfl (fun g hg => by cases hg; exact gSum_ok rfl k))
theorem c_gtest {b : Nat → Nat} {len : Nat} {od : Bool} : ∀ k q, k ≤ 8 → 3 * k + 8 ≤ q → GCS b len od (D_g0 q 0) (8 - k) (gTest b len od k)
  | 0, q, _, hq => by
    obtain ⟨q', rfl⟩ : ∃ q', q = q' + 1 + 1 + 1 + 1 := ⟨q - 4, by omega⟩
    have hs := c_gsum (b := b) (len := len) (od := od) 0 q' (by omega) (by omega)
    have h1 : GCS b len od (D_g0 (q' + 1) 3) 8 (gCmp b len (gSum b len od 0)) := c_cmp hs (gSum_ok rfl 0)
    have h2 : GCS b len od (D_g0 (q' + 1 + 1) 2) 8 (gPlain b len none (gSum b len od 0)) := c_plain (by omega) (fun g hg => by cases hg) (fun _ => rfl) h1 (gAtom_ok (gSum_ok rfl 0) (fun g hg => by cases hg))
    have h3 : GCS b len od (D_g0 (q' + 1 + 1 + 1) 1) 8 (gBoth b len none (gSum b len od 0)) := c_both h2 (gPlain_ok (gSum_ok rfl 0) (fun g hg => by cases hg))
    exact c_test h3 (gBoth_ok (gSum_ok rfl 0) (fun g hg => by cases hg))
  | k + 1, q, hk, hq => by
    obtain ⟨q', rfl⟩ : ∃ q', q = q' + 1 + 1 + 1 + 1 := ⟨q - 4, by omega⟩
    have ih := c_gtest (b := b) (len := len) (od := od) k (q' + 1) (by omega) (by omega)
    have hs := c_gsum (b := b) (len := len) (od := od) (k + 1) q' (by omega) (by omega)
    have e : 8 - (k + 1) + 1 = 8 - k := by omega
    have h1 : GCS b len od (D_g0 (q' + 1) 3) (8 - (k + 1)) (gCmp b len (gSum b len od (k + 1))) := c_cmp hs (gSum_ok rfl (k + 1))
    have h2 : GCS b len od (D_g0 (q' + 1 + 1) 2) (8 - (k + 1)) (gPlain b len (some (gTest b len od k)) (gSum b len od (k + 1))) := c_plain (by omega) (fun g hg => by cases hg; exact ⟨by omega, by rw [e]; exact ih⟩) (fun hg => by cases hg) h1 (gAtom_ok (gSum_ok rfl (k + 1)) (fun g hg => by cases hg; exact gTest_ok k))
    have h3 : GCS b len od (D_g0 (q' + 1 + 1 + 1) 1) (8 - (k + 1)) (gBoth b len (some (gTest b len od k)) (gSum b len od (k + 1))) := c_both h2 (gPlain_ok (gSum_ok rfl (k + 1)) (fun g hg => by cases hg; exact gTest_ok k))
    exact c_test h3 (gBoth_ok (gSum_ok rfl (k + 1)) (fun g hg => by cases hg; exact gTest_ok k))
