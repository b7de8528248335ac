theorem law_case {L : Nat} {xs : Nat → Int32} (hL : L ≤ 3072) {q : Nat} (hq : q + 5 < L) {X : XDt} {c : Nat} (hc : c ≤ 400000) {G : XH} (hG : Bth G X c) {K : XK} {Q : XR → Prop} (hK : ∀ G1 X1, Bth G1 X1 (c + 300) → hpZ G1 ≤ hpZ G + 6 → hpS G1 ≤ hpS G + 500 → WP (k_Law_law_1217 L xs K) (lA q) [] G1 Q) {x : Nat} (hx : x < 64) : WP (xTab 0 36 [(k_Law_law_196 L xs K), (k_Law_law_229 L xs K), (k_Law_law_242 L xs K), (k_Law_law_275 L xs K), (k_Law_law_308 L xs K), (k_Law_law_341 L xs K), (k_Law_law_404 L xs K), (k_Law_law_437 L xs K), (k_Law_law_470 L xs K), (k_Law_law_533 L xs K), (k_Law_law_556 L xs K), (k_Law_law_569 L xs K), (k_Law_law_582 L xs K), (k_Law_law_595 L xs K), (k_Law_law_608 L xs K), (k_Law_law_621 L xs K), (k_Law_law_634 L xs K), (k_Law_law_657 L xs K), (k_Law_law_700 L xs K), (k_Law_law_723 L xs K), (k_Law_law_756 L xs K), (k_Law_law_789 L xs K), (k_Law_law_802 L xs K), (k_Law_law_815 L xs K), (k_Law_law_848 L xs K), (k_Law_law_881 L xs K), (k_Law_law_914 L xs K), (k_Law_law_937 L xs K), (k_Law_law_980 L xs K), (k_Law_law_1003 L xs K), (k_Law_law_1036 L xs K), (k_Law_law_1069 L xs K), (k_Law_law_1102 L xs K), (k_Law_law_1135 L xs K), (k_Law_law_1158 L xs K), (k_Law_law_1181 L xs K), (k_Law_law_1204 L xs K)] (k_Law_law_1217 L xs K)) (lA q) [.int (nI x)] G Q := by
  have hV := hG.2.2
  rw [w_tab, nI_toInt (by omega)]
  by_cases h36 : x ≤ 36
  · rw [if_neg (by omega)]
    rcases (show x = 0 ∨ x = 1 ∨ x = 2 ∨ x = 3 ∨ x = 4 ∨ x = 5 ∨ x = 6 ∨ x = 7 ∨ x = 8 ∨ x = 9 ∨ x = 10 ∨ x = 11 ∨ x = 12 ∨ x = 13 ∨ x = 14 ∨ x = 15 ∨ x = 16 ∨ x = 17 ∨ x = 18 ∨ x = 19 ∨ x = 20 ∨ x = 21 ∨ x = 22 ∨ x = 23 ∨ x = 24 ∨ x = 25 ∨ x = 26 ∨ x = 27 ∨ x = 28 ∨ x = 29 ∨ x = 30 ∨ x = 31 ∨ x = 32 ∨ x = 33 ∨ x = 34 ∨ x = 35 ∨ x = 36 by omega) with rfl | rfl | rfl | rfl | rfl | rfl | rfl | rfl | rfl | rfl | rfl | rfl | rfl | rfl | rfl | rfl | rfl | rfl | rfl | rfl | rfl | rfl | rfl | rfl | rfl | rfl | rfl | rfl | rfl | rfl | rfl | rfl | rfl | rfl | rfl | rfl | rfl
    · show WP (k_Law_law_196 L xs K) (lA q) [] G Q
      unfold k_Law_law_196
      exact br2 hL hq (StX.p (st_road hV (xs (q + 1)) (xs (q + 2)))) hG hK
    · show WP (k_Law_law_229 L xs K) (lA q) [] G Q
      unfold k_Law_law_229
      exact br0 (StX.p (st_mow hV)) hG hK
    · show WP (k_Law_law_242 L xs K) (lA q) [] G Q
      unfold k_Law_law_242
      exact br2 hL hq (StX.p (st_reader hV (xs (q + 1)) (xs (q + 2)))) hG hK
    · show WP (k_Law_law_275 L xs K) (lA q) [] G Q
      unfold k_Law_law_275
      exact br2 hL hq (StX.p (st_tire hV (xs (q + 1)) (xs (q + 2)))) hG hK
    · show WP (k_Law_law_308 L xs K) (lA q) [] G Q
      unfold k_Law_law_308
      exact br2 hL hq (StX.p (st_of hV (xs (q + 1)) (xs (q + 2)))) hG hK
    · show WP (k_Law_law_341 L xs K) (lA q) [] G Q
      unfold k_Law_law_341 k_Law_law_383
      exact br5 hL hq (StX.p (st_letter hV (xs (q + 1)) (xs (q + 2)) (xs (q + 3)) (xs (q + 4)) (xs (q + 5)))) hG hK
    · show WP (k_Law_law_404 L xs K) (lA q) [] G Q
      unfold k_Law_law_404
      exact br2 hL hq (StX.p (st_at hV (xs (q + 1)) (xs (q + 2)))) hG hK
    · show WP (k_Law_law_437 L xs K) (lA q) [] G Q
      unfold k_Law_law_437
      exact br2 hL hq (StX.p (st_terms hV (xs (q + 1)) (xs (q + 2)))) hG hK
    · show WP (k_Law_law_470 L xs K) (lA q) [] G Q
      unfold k_Law_law_470 k_Law_law_512
      exact br5 hL hq (StX.p (st_feed hV (xs (q + 1)) (xs (q + 2)) (xs (q + 3)) (xs (q + 4)) (xs (q + 5)))) hG hK
    · show WP (k_Law_law_533 L xs K) (lA q) [] G Q
      unfold k_Law_law_533
      exact br1 hL hq (StX.p (st_end hV (xs (q + 1)))) hG hK
    · show WP (k_Law_law_556 L xs K) (lA q) [] G Q
      unfold k_Law_law_556
      exact br0 (StX.p (st_row hV)) hG hK
    · show WP (k_Law_law_569 L xs K) (lA q) [] G Q
      unfold k_Law_law_569
      exact br0 (StX.p (st_blots hV)) hG hK
    · show WP (k_Law_law_582 L xs K) (lA q) [] G Q
      unfold k_Law_law_582
      exact br0 (st_law hV) hG hK
    · show WP (k_Law_law_595 L xs K) (lA q) [] G Q
      unfold k_Law_law_595
      exact br0 (StX.p (st_orders hV hc)) hG hK
    · show WP (k_Law_law_608 L xs K) (lA q) [] G Q
      unfold k_Law_law_608
      exact br0 (StX.p (st_fault hV)) hG hK
    · show WP (k_Law_law_621 L xs K) (lA q) [] G Q
      unfold k_Law_law_621
      exact br0 (StX.p (st_stopped hV)) hG hK
    · show WP (k_Law_law_634 L xs K) (lA q) [] G Q
      unfold k_Law_law_634
      exact br1 hL hq (StX.p (st_force hV (xs (q + 1)))) hG hK
    · show WP (k_Law_law_657 L xs K) (lA q) [] G Q
      unfold k_Law_law_657
      exact br3 hL hq (StX.p (st_asks hV hc (xs (q + 1)) (xs (q + 2)) (xs (q + 3)))) hG hK
    · show WP (k_Law_law_700 L xs K) (lA q) [] G Q
      unfold k_Law_law_700
      exact br1 hL hq (StX.p (st_rests hV hc (xs (q + 1)))) hG hK
    · show WP (k_Law_law_723 L xs K) (lA q) [] G Q
      unfold k_Law_law_723
      exact br2 hL hq (StX.p (st_hand hV hc (xs (q + 1)) (xs (q + 2)))) hG hK
    · show WP (k_Law_law_756 L xs K) (lA q) [] G Q
      unfold k_Law_law_756
      exact br2 hL hq (StX.p (st_onward hV (xs (q + 1)) (xs (q + 2)))) hG hK
    · show WP (k_Law_law_789 L xs K) (lA q) [] G Q
      unfold k_Law_law_789
      exact br0 (StX.p (st_pass hV hc)) hG hK
    · show WP (k_Law_law_802 L xs K) (lA q) [] G Q
      unfold k_Law_law_802
      exact br0 (StX.p (st_undo hV)) hG hK
    · show WP (k_Law_law_815 L xs K) (lA q) [] G Q
      unfold k_Law_law_815
      exact br2 hL hq (StX.p (st_order hV hc (xs (q + 1)) (xs (q + 2)))) hG hK
    · show WP (k_Law_law_848 L xs K) (lA q) [] G Q
      unfold k_Law_law_848
      exact br2 hL hq (StX.p (st_game hV hc (xs (q + 1)) (xs (q + 2)))) hG hK
    · show WP (k_Law_law_881 L xs K) (lA q) [] G Q
      unfold k_Law_law_881
      exact br2 hL hq (StX.p (st_ledger hV (xs (q + 1)) (xs (q + 2)))) hG hK
    · show WP (k_Law_law_914 L xs K) (lA q) [] G Q
      unfold k_Law_law_914
      exact br1 hL hq (StX.p (st_joked hV hc (xs (q + 1)))) hG hK
    · show WP (k_Law_law_937 L xs K) (lA q) [] G Q
      unfold k_Law_law_937
      exact br3 hL hq (StX.p (st_inside hV hc (xs (q + 1)) (xs (q + 2)) (xs (q + 3)))) hG hK
    · show WP (k_Law_law_980 L xs K) (lA q) [] G Q
      unfold k_Law_law_980
      exact br1 hL hq (StX.p (st_way hV (xs (q + 1)))) hG hK
    · show WP (k_Law_law_1003 L xs K) (lA q) [] G Q
      unfold k_Law_law_1003
      exact br2 hL hq (StX.p (st_cut hV (xs (q + 1)) (xs (q + 2)))) hG hK
    · show WP (k_Law_law_1036 L xs K) (lA q) [] G Q
      unfold k_Law_law_1036
      exact br2 hL hq (StX.p (st_bags hV (xs (q + 1)) (xs (q + 2)))) hG hK
    · show WP (k_Law_law_1069 L xs K) (lA q) [] G Q
      unfold k_Law_law_1069
      exact br2 hL hq (StX.p (st_season hV hc (xs (q + 1)) (xs (q + 2)))) hG hK
    · show WP (k_Law_law_1102 L xs K) (lA q) [] G Q
      unfold k_Law_law_1102
      exact br2 hL hq (StX.p (st_drawn hV (xs (q + 1)) (xs (q + 2)))) hG hK
    · show WP (k_Law_law_1135 L xs K) (lA q) [] G Q
      unfold k_Law_law_1135
      exact br1 hL hq (StX.p (st_image hV (xs (q + 1)))) hG hK
    · show WP (k_Law_law_1158 L xs K) (lA q) [] G Q
      unfold k_Law_law_1158
      exact br1 hL hq (StX.p (st_back hV (xs (q + 1)))) hG hK
    · show WP (k_Law_law_1181 L xs K) (lA q) [] G Q
      unfold k_Law_law_1181
      exact br1 hL hq (StX.p (st_count hV (xs (q + 1)))) hG hK
    · show WP (k_Law_law_1204 L xs K) (lA q) [] G Q
      unfold k_Law_law_1204
      exact br0 (StX.p (st_status hV)) hG hK
  · rw [if_pos (by omega)]
    exact hK G X ⟨hG.1, hG.2.1, hG.2.2.mono (by omega)⟩ (by omega) (by omega)
