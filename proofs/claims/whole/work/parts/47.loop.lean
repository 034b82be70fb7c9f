set_option maxHeartbeats 1000000 in
set_option maxRecDepth 100000 in
theorem law_loop {X : Ctx} {bs N0 : Nat} {xs : Nat → Int32} (C : Cx X cL_law RL 4 room_1) (S : Sc X bs N0 xs) (LR : Lret X) (hN9 : N0 ≤ 3072) : ∀ (i : Nat) (w : Bool) (M : Mm) (s : St), i ≤ N0 → CInv M s → RInv M s → Wl X bs (46, 53200) 18 [(0, .null), (1, .ref 0), (2, .ref 25), (3, .int (nI i))] [] (shF w) M := by
  have hN : N0 < 2 ^ 31 := by omega
  intro i
  induction hq : N0 - i using Nat.strongRecOn generalizing i with
  | ind k9 ih =>
    intro w M s hi hC hR
    obtain ⟨n, P, cnt, k, W, pv, L, R, H, z, g, q⟩ := s
    refine e_Liload C dL_law_18 rfl rfl ?_
    refine e_Laload_s C dL_law_19 rfl rfl ?_
    refine e_Lslen C dL_law_20 S ?_
    refine e_Lbipush (v := nI 6) C dL_law_21 (by decide) ?_
    refine e_Lisub C dL_law_23 ?_
    refine e_Licmp_gt (tgt := 927) C dL_law_24 (by decide) (fun _ => ?_) (fun h24 => ?_)
    · refine e_Liconst (v := nI 1) C dL_law_927 (by decide) ?_
      exact e_Lret C dL_law_928 LR S
    · have hi6 : i + 6 ≤ N0 := by
        rw [Int32.lt_iff_toInt_lt, pk_sub_toInt (by omega) (by omega), nI_toInt (by omega)] at h24
        omega
      have kb : ∀ w2 M2 s2, CInv M2 s2 → RInv M2 s2 → Wl X bs (46, 53200) 921 [(0, .null), (1, .ref 0), (2, .ref 25), (3, .int (nI i))] [] (shF w2) M2 := by
        intro w2 M2 s2 h1 h2
        refine e_Liinc (lv2 := [(3, .int (nI (i + 6))), (0, .null), (1, .ref 0), (2, .ref 25)]) C dL_law_921 rfl (by decide) (nI_add i 6) rfl ?_
        refine e_Lgoto (tgt := 18) C dL_law_924 (by decide) ?_
        refine e_Lloc [1, 2, 3, 0] rfl ?_
        exact ih (N0 - (i + 6)) (by omega) (i + 6) rfl w2 M2 s2 hi6 h1 h2
      refine e_Laload_s C dL_law_27 rfl rfl ?_
      refine e_Liload C dL_law_28 rfl rfl ?_
      refine e_Lsld C dL_law_29 S (by omega) hN ?_
      refine e_Lbipush (v := nI 31) C dL_law_30 (by decide) ?_
      refine e_Liand C dL_law_32 ?_
      obtain ⟨j, hj, ej⟩ := pk_andE (xs i) (m := nI 31) 5 (by decide)
      refine e_Ltopi (nI j) ej ?_
      have hj32 : j < 32 := hj
      by_cases h24j : j < 24
      · rcases (show j = 0 ∨ j = 1 ∨ j = 2 ∨ j = 3 ∨ j = 4 ∨ j = 5 ∨ j = 6 ∨ j = 7 ∨ j = 8 ∨ j = 9 ∨ j = 10 ∨ j = 11 ∨ j = 12 ∨ j = 13 ∨ j = 14 ∨ j = 15 ∨ j = 16 ∨ j = 17 ∨ j = 18 ∨ j = 19 ∨ j = 20 ∨ j = 21 ∨ j = 22 ∨ j = 23 by omega) with rfl | rfl | rfl | rfl | rfl | rfl | rfl | rfl | rfl | rfl | rfl | rfl | rfl | rfl | rfl | rfl | rfl | rfl | rfl | rfl | rfl | rfl | rfl | rfl
        · exact e_LtableIn (tgt := 144) C dL_law_33 (by decide) (by decide) rfl (by decide) (law_reel C S hN hi6 hC hR kb)
        · exact e_LtableIn (tgt := 177) C dL_law_33 (by decide) (by decide) rfl (by decide) (law_picture C S hN hi6 hC hR kb)
        · exact e_LtableIn (tgt := 220) C dL_law_33 (by decide) (by decide) rfl (by decide) (law_at C S hN hi6 hC hR kb)
        · exact e_LtableIn (tgt := 253) C dL_law_33 (by decide) (by decide) rfl (by decide) (law_count C S hN hi6 hC hR kb)
        · exact e_LtableIn (tgt := 286) C dL_law_33 (by decide) (by decide) rfl (by decide) (law_lay C S hN hi6 hC hR kb)
        · exact e_LtableIn (tgt := 309) C dL_law_33 (by decide) (by decide) rfl (by decide) (law_pay C S hN hi6 hC hR kb)
        · exact e_LtableIn (tgt := 362) C dL_law_33 (by decide) (by decide) rfl (by decide) (law_clear C S hN hi6 hC hR kb)
        · exact e_LtableIn (tgt := 375) C dL_law_33 (by decide) (by decide) rfl (by decide) (law_lines C S hN hi6 hC hR kb)
        · exact e_LtableIn (tgt := 398) C dL_law_33 (by decide) (by decide) rfl (by decide) (law_ending C S hN hi6 hC hR kb)
        · exact e_LtableIn (tgt := 441) C dL_law_33 (by decide) (by decide) rfl (by decide) (law_all C S hN hi6 hC hR kb)
        · exact e_LtableIn (tgt := 465) C dL_law_33 (by decide) (by decide) rfl (by decide) (law_rows C S hN hi6 hC hR kb)
        · exact e_LtableIn (tgt := 488) C dL_law_33 (by decide) (by decide) rfl (by decide) (law_misses C S hN hi6 hC hR kb)
        · exact e_LtableIn (tgt := 511) C dL_law_33 (by decide) (by decide) rfl (by decide) (law_worth C S hN hi6 hC hR kb)
        · exact e_LtableIn (tgt := 565) C dL_law_33 (by decide) (by decide) rfl (by decide) (law_hold C S hN hi6 hC hR kb)
        · exact e_LtableIn (tgt := 608) C dL_law_33 (by decide) (by decide) rfl (by decide) (law_nudge C S hN hi6 hC hR kb)
        · exact e_LtableIn (tgt := 671) C dL_law_33 (by decide) (by decide) rfl (by decide) (law_change C S hN hi6 hC hR kb)
        · exact e_LtableIn (tgt := 714) C dL_law_33 (by decide) (by decide) rfl (by decide) (law_room C S hN hi6 hC hR kb)
        · exact e_LtableIn (tgt := 737) C dL_law_33 (by decide) (by decide) rfl (by decide) (law_fill C S hN hi6 hC hR kb)
        · exact e_LtableIn (tgt := 760) C dL_law_33 (by decide) (by decide) rfl (by decide) (law_play C S hN hi6 hC hR kb)
        · exact e_LtableIn (tgt := 803) C dL_law_33 (by decide) (by decide) rfl (by decide) (law_coins C S hN hi6 hC hR kb)
        · exact e_LtableIn (tgt := 826) C dL_law_33 (by decide) (by decide) rfl (by decide) (law_dry C S hN hi6 hC hR kb)
        · exact e_LtableIn (tgt := 860) C dL_law_33 (by decide) (by decide) rfl (by decide) (law_favoured C S hN hi6 hC hR kb)
        · exact e_LtableIn (tgt := 883) C dL_law_33 (by decide) (by decide) rfl (by decide) (law_odd C S hN hi6 hC hR kb)
        · exact e_LtableIn (tgt := 907) C dL_law_33 (by decide) (by decide) rfl (by decide) (law_digest C S hN hi6 hC hR kb)
      · exact e_LtableOut (tgt := 921) C dL_law_33 (Or.inr (by rw [nI_toInt (by omega)]; omega)) (by decide) (kb w M _ hC hR)
