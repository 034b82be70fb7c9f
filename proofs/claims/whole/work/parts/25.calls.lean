theorem CInv.sv {M M2 : Mm} {n P cnt : Nat → Nat} {k : Nat} {W : Nat → Nat → Int32} {pv : Nat → Nat} {L R H : Nat} {z : Nat → Int32} {g : Nat} {q : Nat → Nat → Nat} (h : CInv M (n, P, cnt, k, W, pv, L, R, H, z, g, q)) (hs : SeF M n (EE n P k W pv L) M2) : CInv M2 (n, P, cnt, k, W, pv, L, R, H, z, g, q) ∧ FrC M M2 := by
  obtain ⟨a1, a2, a3, a4, a5, a6, a7⟩ := h
  obtain ⟨s1, s2, s3⟩ := hs
  refine ⟨⟨a1.same (by rw [s3, upd_n _ _ (by decide)]) (s2.gI (by decide)) (s2.gI (by decide)) (s2.gI (by decide)) (s2.gI (by decide)) (s2.gI (by decide)) (s2.gI (by decide)) (s2.gI (by decide)), a2.same (s2.gI (by decide)), .inr ⟨by rw [s3, upd_s], s1⟩, a4.same (by rw [s3, upd_n _ _ (by decide)]) (s2.gI (by decide)) (s2.gI (by decide)) (s2.gI (by decide)), a5.same (s2.gI (by decide)), a6.same (s2.gI (by decide)) (s2.gI (by decide)), a7⟩, s2.up (by decide)⟩
theorem CInv.cp {M M2 : Mm} {n P cnt : Nat → Nat} {k : Nat} {W : Nat → Nat → Int32} {pv : Nat → Nat} {L R H : Nat} {z : Nat → Int32} {g : Nat} {q : Nat → Nat → Nat} (h : CInv M (n, P, cnt, k, W, pv, L, R, H, z, g, q)) (hs : CcF M n (EE n P k W pv L) M2) : CInv M2 (n, P, cnt, k, W, pv, L, R, H, z, g, q) ∧ FrC M M2 := by
  obtain ⟨a1, a2, a3, a4, a5, a6, a7⟩ := h
  obtain ⟨s1, s2, s3⟩ := hs
  refine ⟨⟨a1.same (by rw [s3, upd_n _ _ (by decide)]) (s2.gI (by decide)) (s2.gI (by decide)) (s2.gI (by decide)) (s2.gI (by decide)) (s2.gI (by decide)) (s2.gI (by decide)) (s2.gI (by decide)), a2.same (s2.gI (by decide)), a3.same (by rw [s3, upd_n _ _ (by decide)]) (s2.gJ (by decide)) (s2.gI (by decide)) (s2.gJ (by decide)) (s2.gJ (by decide)), .inr ⟨by rw [s3, upd_s], s1⟩, a5.same (s2.gI (by decide)), a6.same (s2.gI (by decide)) (s2.gI (by decide)), a7⟩, s2.up (by decide)⟩
theorem prd7 (n : Nat → Nat) : prd n 7 3 = n 0 * n 1 * n 2 := by
  have h0 : bitN 7 0 = 1 := rfl
  have h1 : bitN 7 1 = 1 := rfl
  have h2 : bitN 7 2 = 1 := rfl
  simp only [prd, h0, h1, h2, if_true, Nat.one_mul]
theorem prd_pos {n : Nat → Nat} (h0 : 0 < n 0) (h1 : 0 < n 1) (h2 : 0 < n 2) : 0 < prd n 7 3 := by rw [prd7]; exact Nat.mul_pos (Nat.mul_pos h0 h1) h2
set_option maxHeartbeats 4000000 in
set_option maxRecDepth 100000 in
theorem p_room {w : Bool} {M : Mm} {n P cnt : Nat → Nat} {k : Nat} {W : Nat → Nat → Int32} {pv : Nat → Nat} {L R H : Nat} {z : Nat → Int32} {g : Nat} {q : Nat → Nat → Nat} (hI : CInv M (n, P, cnt, k, W, pv, L, R, H, z, g, q))  (v : Int32) : CT mX7_room [.ref 0, .int v] (shF w) M (Qi (spRoom (n, P, cnt, k, W, pv, L, R, H, z, g, q) v).1 (shF w) (fun m0 => CInv m0 (spRoom (n, P, cnt, k, W, pv, L, R, H, z, g, q) v).2 ∧ FrC M m0)) := by
  refine CT.mk (lv := [(0, .ref 0), (1, .int v)]) rfl (by decide +kernel) (Nat.le_of_ble_eq_true rfl) ?_
  intro X C RT
  obtain ⟨hB, hCt, hF, hF2, hT7, hG, hQ⟩ := id hI
  obtain ⟨hS, hT, hL, hL1, hL3⟩ := id hB
  have n0 := hS.2.1 0 (by decide)
  have n1 := hS.2.1 1 (by decide)
  have n2 := hS.2.1 2 (by decide)
  obtain ⟨t0, t1, tH, tR, tR2, tz⟩ := id hT7
  refine e_iload_n C dX7_room_0 rfl rfl ?_
  refine e_iconst (v := (nI 1)) C dX7_room_1 (by decide) ?_
  refine e_sipush (v := (nI 200)) C dX7_room_2 (by decide) ?_
  refine e_callSi C dX7_room_5 [.int v, .int (nI 1), .int (nI 200)] (k_withinN v 1 200 (by omega) (by omega)) okX7_within lX7_81 rfl ⟨rfl, rfl⟩ ⟨Nat.le_of_ble_eq_true rfl, Nat.le_of_ble_eq_true rfl⟩ (Nat.le_of_ble_eq_true rfl) ⟨Nat.zero_le _, Nat.zero_le _⟩ ?_
  refine e_if_neB (b := decide (inn v (1 : Nat) (200 : Nat))) (tgt := 14) C dX7_room_8 (by decide) (fun h8 => ?_) (fun h8 => ?_)
  · obtain ⟨v9, l_v9, u_v9, rfl⟩ := inn_N (b := 200) (dec_t h8) (by decide)
    refine e_aload_n C dX7_room_14 rfl rfl ?_
    refine e_getR (q := 17) C dX7_room_15 fX7_44 rfl rfl ?_
    refine e_getI C dX7_room_18 fX7_188 rfl rfl ?_
    refine e_topi (nI H) t1 ?_
    refine e_iload_n C dX7_room_21 rfl rfl ?_
    refine e_icmp_leN (tgt := 28) C dX7_room_22 (by omega) (by omega) (by decide) (fun h22 => ?_) (fun h22 => ?_)
    · refine e_aload_n C dX7_room_28 rfl rfl ?_
      refine e_getR (q := 17) C dX7_room_29 fX7_44 rfl rfl ?_
      refine e_getI C dX7_room_32 fX7_191 rfl rfl ?_
      refine e_topi (nI R) t0 ?_
      refine e_istore_n (lv2 := [(2, .int (nI R)), (0, .ref 0), (1, .int (nI v9))]) C dX7_room_35 rfl (by decide) rfl ?_
      refine e_aload_n C dX7_room_36 rfl rfl ?_
      refine e_getR (q := 17) C dX7_room_37 fX7_44 rfl rfl ?_
      refine e_iload_n C dX7_room_40 rfl rfl ?_
      refine e_putI C dX7_room_41 pX7_191 rfl rfl rfl rfl ?_
      refine e_nm (fun M1 hM1 => ?_)
      refine e_iload_n C dX7_room_44 rfl rfl ?_
      exact e_zret C dX7_room_45 RT rfl ⟨Nat.zero_le _, Nat.zero_le _⟩ (rqi ((if_pos (dec_t h8)).trans ((if_pos (by rw [tn_nI (q := v9) (by omega)]; omega)).trans (by rw [tn_nI (q := v9) (by omega)]))) (show CInv _ (n, P, cnt, k, W, pv, L, v9, H, z, g, q) from by subst hM1; exact ⟨hB.sm ((Same.rf [17] M).I (by decide)) (by decide), hCt.same (gI_sI_ne _ _ (by decide)), hF.same (by rw [gI_sI_ne _ _ (by decide)]) rfl (gI_sI_ne _ _ (by decide)) rfl rfl, hF2.same (by rw [gI_sI_ne _ _ (by decide)]) (gI_sI_ne _ _ (by decide)) (gI_sI_ne _ _ (by decide)) (gI_sI_ne _ _ (by decide)), ⟨by rw [gI_sI, upd_s], by rw [gI_sI, upd_n _ _ (by decide)]; exact t1, h22, by omega, by omega, fun j h1 h2 => by rw [gI_sI, upd_n _ _ (by omega)]; exact tz j h1 h2⟩, hG.same (gI_sI_ne _ _ (by decide)) (gI_sI_ne _ _ (by decide)), hQ⟩) (by subst hM1; exact (Same.rf _ M).I (by decide)))
    · refine e_bipush (v := (-3)) C dX7_room_25 (by decide) ?_
      exact e_zret C dX7_room_27 RT rfl ⟨Nat.zero_le _, Nat.zero_le _⟩ (rqi ((if_pos (dec_t h8)).trans (if_neg (by rw [tn_nI (q := v9) (by omega)]; omega))) hI (Same.rf _ M))
  · refine e_bipush (v := (-2)) C dX7_room_11 (by decide) ?_
    exact e_zret C dX7_room_13 RT rfl ⟨Nat.zero_le _, Nat.zero_le _⟩ (rqi (if_neg (fun h9 => dec_f h8 h9)) hI (Same.rf _ M))
set_option maxHeartbeats 4000000 in
set_option maxRecDepth 100000 in
theorem p_fill {w : Bool} {M : Mm} {n P cnt : Nat → Nat} {k : Nat} {W : Nat → Nat → Int32} {pv : Nat → Nat} {L R H : Nat} {z : Nat → Int32} {g : Nat} {q : Nat → Nat → Nat} (hI : CInv M (n, P, cnt, k, W, pv, L, R, H, z, g, q))  (x : Int32) : CT mX7_fill [.ref 0, .int x] (shF w) M (Qi (spFill (n, P, cnt, k, W, pv, L, R, H, z, g, q) x).1 (shF w) (fun m0 => CInv m0 (spFill (n, P, cnt, k, W, pv, L, R, H, z, g, q) x).2 ∧ FrC M m0)) := by
  refine CT.mk (lv := [(0, .ref 0), (1, .int x)]) rfl (by decide +kernel) (Nat.le_of_ble_eq_true rfl) ?_
  intro X C RT
  obtain ⟨hB, hCt, hF, hF2, hT7, hG, hQ⟩ := id hI
  obtain ⟨hS, hT, hL, hL1, hL3⟩ := id hB
  have n0 := hS.2.1 0 (by decide)
  have n1 := hS.2.1 1 (by decide)
  have n2 := hS.2.1 2 (by decide)
  obtain ⟨t0, t1, tH, tR, tR2, tz⟩ := id hT7
  refine e_iload_n C dX7_fill_0 rfl rfl ?_
  refine e_iconst (v := (nI 0)) C dX7_fill_1 (by decide) ?_
  refine e_sipush (v := (nI 200)) C dX7_fill_2 (by decide) ?_
  refine e_callSi C dX7_fill_5 [.int x, .int (nI 0), .int (nI 200)] (k_withinN x 0 200 (by omega) (by omega)) okX7_within lX7_81 rfl ⟨rfl, rfl⟩ ⟨Nat.le_of_ble_eq_true rfl, Nat.le_of_ble_eq_true rfl⟩ (Nat.le_of_ble_eq_true rfl) ⟨Nat.zero_le _, Nat.zero_le _⟩ ?_
  refine e_if_neB (b := decide (inn x (0 : Nat) (200 : Nat))) (tgt := 14) C dX7_fill_8 (by decide) (fun h8 => ?_) (fun h8 => ?_)
  · obtain ⟨x9, l_x9, u_x9, rfl⟩ := inn_N (b := 200) (dec_t h8) (by decide)
    refine e_aload_n C dX7_fill_14 rfl rfl ?_
    refine e_getR (q := 17) C dX7_fill_15 fX7_44 rfl rfl ?_
    refine e_getI C dX7_fill_18 fX7_188 rfl rfl ?_
    refine e_topi (nI H) t1 ?_
    refine e_iload_n C dX7_fill_21 rfl rfl ?_
    refine e_iaddN C dX7_fill_22 ?_
    refine e_aload_n C dX7_fill_23 rfl rfl ?_
    refine e_getR (q := 17) C dX7_fill_24 fX7_44 rfl rfl ?_
    refine e_getI C dX7_fill_27 fX7_191 rfl rfl ?_
    refine e_topi (nI R) t0 ?_
    refine e_icmp_leN (tgt := 36) C dX7_fill_30 (by omega) (by omega) (by decide) (fun h30 => ?_) (fun h30 => ?_)
    · refine e_aload_n C dX7_fill_36 rfl rfl ?_
      refine e_getR (q := 17) C dX7_fill_37 fX7_44 rfl rfl ?_
      refine e_dup C dX7_fill_40 rfl ?_
      refine e_getI C dX7_fill_41 fX7_188 rfl rfl ?_
      refine e_topi (nI H) t1 ?_
      refine e_iload_n C dX7_fill_44 rfl rfl ?_
      refine e_iaddN C dX7_fill_45 ?_
      refine e_putI C dX7_fill_46 pX7_188 rfl rfl rfl rfl ?_
      refine e_nm (fun M1 hM1 => ?_)
      refine e_aload_n C dX7_fill_49 rfl rfl ?_
      refine e_getR (q := 17) C dX7_fill_50 fX7_44 rfl rfl ?_
      refine e_dup C dX7_fill_53 rfl ?_
      refine e_getI C dX7_fill_54 fX7_194 rfl rfl ?_
      refine e_topi (z 6) (by rw [hM1, gI_sI, upd_n _ _ (by decide)]; exact tz 6 (by decide) (by decide)) ?_
      refine e_iload_n C dX7_fill_57 rfl rfl ?_
      refine e_iadd C dX7_fill_58 ?_
      refine e_putI C dX7_fill_59 pX7_194 rfl rfl rfl rfl ?_
      refine e_nm (fun M2 hM2 => ?_)
      refine e_aload_n C dX7_fill_62 rfl rfl ?_
      refine e_getR (q := 17) C dX7_fill_63 fX7_44 rfl rfl ?_
      refine e_getI C dX7_fill_66 fX7_188 rfl rfl ?_
      refine e_topi (nI (H + x9)) (by rw [hM2, gI_sI, upd_n _ _ (by decide), hM1, gI_sI, upd_s]) ?_
      exact e_zret C dX7_fill_69 RT rfl ⟨Nat.zero_le _, Nat.zero_le _⟩ (rqi ((if_pos (dec_t h8)).trans ((if_pos (by rw [tn_nI (q := x9) (by omega)]; omega)).trans (by rw [tn_nI (q := x9) (by omega)]))) (show CInv _ (n, P, cnt, k, W, pv, L, R, H + x9, upd z 6 (z 6 + nI x9), g, q) from by subst hM2 hM1; exact ⟨hB.sm (((Same.rf [17] M).I (by decide)).I (by decide)) (by decide), hCt.same (by rw [gI_sI_ne _ _ (by decide), gI_sI_ne _ _ (by decide)]), hF.same (by rw [gI_sI_ne _ _ (by decide), gI_sI_ne _ _ (by decide)]) rfl (by rw [gI_sI_ne _ _ (by decide), gI_sI_ne _ _ (by decide)]) rfl rfl, hF2.same (by rw [gI_sI_ne _ _ (by decide), gI_sI_ne _ _ (by decide)]) (by rw [gI_sI_ne _ _ (by decide), gI_sI_ne _ _ (by decide)]) (by rw [gI_sI_ne _ _ (by decide), gI_sI_ne _ _ (by decide)]) (by rw [gI_sI_ne _ _ (by decide), gI_sI_ne _ _ (by decide)]), ⟨by rw [gI_sI, upd_n _ _ (by decide), gI_sI, upd_n _ _ (by decide)]; exact t0, by rw [gI_sI, upd_n _ _ (by decide), gI_sI, upd_s], h30, tR, tR2, fun j h1 h2 => by rw [gI_sI]; by_cases e9 : j = 6 <;> simp [upd, e9, gI_sI, tz j h1 h2, show j ≠ 1 by omega]⟩, hG.same (by rw [gI_sI_ne _ _ (by decide), gI_sI_ne _ _ (by decide)]) (by rw [gI_sI_ne _ _ (by decide), gI_sI_ne _ _ (by decide)]), hQ⟩) (by subst hM2 hM1; exact ((Same.rf _ M).I (by decide)).I (by decide)))
    · refine e_bipush (v := (-3)) C dX7_fill_33 (by decide) ?_
      exact e_zret C dX7_fill_35 RT rfl ⟨Nat.zero_le _, Nat.zero_le _⟩ (rqi ((if_pos (dec_t h8)).trans (if_neg (by rw [tn_nI (q := x9) (by omega)]; omega))) hI (Same.rf _ M))
  · refine e_bipush (v := (-2)) C dX7_fill_11 (by decide) ?_
    exact e_zret C dX7_fill_13 RT rfl ⟨Nat.zero_le _, Nat.zero_le _⟩ (rqi (if_neg (fun h9 => dec_f h8 h9)) hI (Same.rf _ M))
set_option maxHeartbeats 4000000 in
set_option maxRecDepth 100000 in
theorem p_coins {w : Bool} {M : Mm} {n P cnt : Nat → Nat} {k : Nat} {W : Nat → Nat → Int32} {pv : Nat → Nat} {L R H : Nat} {z : Nat → Int32} {g : Nat} {q : Nat → Nat → Nat} (hI : CInv M (n, P, cnt, k, W, pv, L, R, H, z, g, q))  (x : Int32) : CT mX7_coins [.ref 0, .int x] (shF w) M (Qi (spCoins (n, P, cnt, k, W, pv, L, R, H, z, g, q) x).1 (shF w) (fun m0 => CInv m0 (spCoins (n, P, cnt, k, W, pv, L, R, H, z, g, q) x).2 ∧ FrC M m0)) := by
  refine CT.mk (lv := [(0, .ref 0), (1, .int x)]) rfl (by decide +kernel) (Nat.le_of_ble_eq_true rfl) ?_
  intro X C RT
  obtain ⟨hB, hCt, hF, hF2, hT7, hG, hQ⟩ := id hI
  obtain ⟨hS, hT, hL, hL1, hL3⟩ := id hB
  have n0 := hS.2.1 0 (by decide)
  have n1 := hS.2.1 1 (by decide)
  have n2 := hS.2.1 2 (by decide)
  obtain ⟨t0, t1, tH, tR, tR2, tz⟩ := id hT7
  by_cases hx : inn x 0 7
  · obtain ⟨x9, _, u_x, rfl⟩ := inn_N (b := 7) hx (by decide)
    rcases (show x9 = 0 ∨ x9 = 1 ∨ x9 = 2 ∨ x9 = 3 ∨ x9 = 4 ∨ x9 = 5 ∨ x9 = 6 ∨ x9 = 7 by omega) with rfl | rfl | rfl | rfl | rfl | rfl | rfl | rfl
    · refine e_iload_n C dX7_coins_0 rfl rfl ?_
      refine e_tableIn (tgt := 48) C dX7_coins_1 (by decide) (by decide) rfl (by decide) ?_
      refine e_aload_n C dX7_coins_48 rfl rfl ?_
      refine e_getR (q := 17) C dX7_coins_49 fX7_44 rfl rfl ?_
      refine e_getI C dX7_coins_52 fX7_188 rfl rfl ?_
      refine e_topi (nI H) t1 ?_
      exact e_zret C dX7_coins_55 RT rfl ⟨Nat.zero_le _, Nat.zero_le _⟩ (rqi rfl hI (Same.rf _ M))
    · refine e_iload_n C dX7_coins_0 rfl rfl ?_
      refine e_tableIn (tgt := 56) C dX7_coins_1 (by decide) (by decide) rfl (by decide) ?_
      refine e_aload_n C dX7_coins_56 rfl rfl ?_
      refine e_getR (q := 17) C dX7_coins_57 fX7_44 rfl rfl ?_
      refine e_getI C dX7_coins_60 fX7_205 rfl rfl ?_
      refine e_topi (z 2) (tz 2 (by decide) (by decide)) ?_
      exact e_zret C dX7_coins_63 RT rfl ⟨Nat.zero_le _, Nat.zero_le _⟩ (rqi rfl hI (Same.rf _ M))
    · refine e_iload_n C dX7_coins_0 rfl rfl ?_
      refine e_tableIn (tgt := 64) C dX7_coins_1 (by decide) (by decide) rfl (by decide) ?_
      refine e_aload_n C dX7_coins_64 rfl rfl ?_
      refine e_getR (q := 17) C dX7_coins_65 fX7_44 rfl rfl ?_
      refine e_getI C dX7_coins_68 fX7_208 rfl rfl ?_
      refine e_topi (z 3) (tz 3 (by decide) (by decide)) ?_
      exact e_zret C dX7_coins_71 RT rfl ⟨Nat.zero_le _, Nat.zero_le _⟩ (rqi rfl hI (Same.rf _ M))
    · refine e_iload_n C dX7_coins_0 rfl rfl ?_
      refine e_tableIn (tgt := 72) C dX7_coins_1 (by decide) (by decide) rfl (by decide) ?_
      refine e_aload_n C dX7_coins_72 rfl rfl ?_
      refine e_getR (q := 17) C dX7_coins_73 fX7_44 rfl rfl ?_
      refine e_getI C dX7_coins_76 fX7_211 rfl rfl ?_
      refine e_topi (z 4) (tz 4 (by decide) (by decide)) ?_
      exact e_zret C dX7_coins_79 RT rfl ⟨Nat.zero_le _, Nat.zero_le _⟩ (rqi rfl hI (Same.rf _ M))
    · refine e_iload_n C dX7_coins_0 rfl rfl ?_
      refine e_tableIn (tgt := 80) C dX7_coins_1 (by decide) (by decide) rfl (by decide) ?_
      refine e_aload_n C dX7_coins_80 rfl rfl ?_
      refine e_getR (q := 17) C dX7_coins_81 fX7_44 rfl rfl ?_
      refine e_getI C dX7_coins_84 fX7_214 rfl rfl ?_
      refine e_topi (z 5) (tz 5 (by decide) (by decide)) ?_
      exact e_zret C dX7_coins_87 RT rfl ⟨Nat.zero_le _, Nat.zero_le _⟩ (rqi rfl hI (Same.rf _ M))
    · refine e_iload_n C dX7_coins_0 rfl rfl ?_
      refine e_tableIn (tgt := 88) C dX7_coins_1 (by decide) (by decide) rfl (by decide) ?_
      refine e_aload_n C dX7_coins_88 rfl rfl ?_
      refine e_getR (q := 17) C dX7_coins_89 fX7_44 rfl rfl ?_
      refine e_getI C dX7_coins_92 fX7_194 rfl rfl ?_
      refine e_topi (z 6) (tz 6 (by decide) (by decide)) ?_
      exact e_zret C dX7_coins_95 RT rfl ⟨Nat.zero_le _, Nat.zero_le _⟩ (rqi rfl hI (Same.rf _ M))
    · refine e_iload_n C dX7_coins_0 rfl rfl ?_
      refine e_tableIn (tgt := 96) C dX7_coins_1 (by decide) (by decide) rfl (by decide) ?_
      refine e_aload_n C dX7_coins_96 rfl rfl ?_
      refine e_getR (q := 18) C dX7_coins_97 fX7_51 rfl rfl ?_
      refine e_getI C dX7_coins_100 fX7_217 rfl rfl ?_
      refine e_topi (nI g) hG.1 ?_
      exact e_zret C dX7_coins_103 RT rfl ⟨Nat.zero_le _, Nat.zero_le _⟩ (rqi rfl hI (Same.rf _ M))
    · refine e_iload_n C dX7_coins_0 rfl rfl ?_
      refine e_tableIn (tgt := 104) C dX7_coins_1 (by decide) (by decide) rfl (by decide) ?_
      refine e_aload_n C dX7_coins_104 rfl rfl ?_
      refine e_getR (q := 17) C dX7_coins_105 fX7_44 rfl rfl ?_
      refine e_getI C dX7_coins_108 fX7_191 rfl rfl ?_
      refine e_topi (nI R) t0 ?_
      exact e_zret C dX7_coins_111 RT rfl ⟨Nat.zero_le _, Nat.zero_le _⟩ (rqi rfl hI (Same.rf _ M))
  · refine e_iload_n C dX7_coins_0 rfl rfl ?_
    refine e_tableOut (tgt := 112) C dX7_coins_1 (by unfold inn at hx; omega) (by decide) ?_
    refine e_bipush (v := (-2)) C dX7_coins_112 (by decide) ?_
    exact e_zret C dX7_coins_114 RT rfl ⟨Nat.zero_le _, Nat.zero_le _⟩ (rqi (congrArg (fun y => (y, (n, P, cnt, k, W, pv, L, R, H, z, g, q))) (by unfold coi; rw [if_neg (fun e => hx (by subst e; decide)), if_neg (fun e => hx (by subst e; decide)), if_neg (fun e => hx (by subst e; decide)), if_neg (fun e => hx (by subst e; decide)), if_neg (fun e => hx (by subst e; decide)), if_neg (fun e => hx (by subst e; decide)), if_neg (fun e => hx (by subst e; decide)), if_neg (fun e => hx (by subst e; decide))])) hI (Same.rf _ M))
set_option maxHeartbeats 4000000 in
set_option maxRecDepth 100000 in
theorem p_worth {w : Bool} {M : Mm} {n P cnt : Nat → Nat} {k : Nat} {W : Nat → Nat → Int32} {pv : Nat → Nat} {L R H : Nat} {z : Nat → Int32} {g : Nat} {q : Nat → Nat → Nat} (hI : CInv M (n, P, cnt, k, W, pv, L, R, H, z, g, q))  (a b c h : Int32) : CT mX7_worth [.ref 0, .int a, .int b, .int c, .int h] (shF w) M (Ql (spWorth (n, P, cnt, k, W, pv, L, R, H, z, g, q) a b c h).1 (shF w) (fun m0 => CInv m0 (spWorth (n, P, cnt, k, W, pv, L, R, H, z, g, q) a b c h).2 ∧ FrC M m0)) := by
  refine CT.mk (lv := [(0, .ref 0), (1, .int a), (2, .int b), (3, .int c), (4, .int h)]) rfl (by decide +kernel) (Nat.le_of_ble_eq_true rfl) ?_
  intro X C RT
  obtain ⟨hB, hCt, hF, hF2, hT7, hG, hQ⟩ := id hI
  obtain ⟨hS, hT, hL, hL1, hL3⟩ := id hB
  have n0 := hS.2.1 0 (by decide)
  have n1 := hS.2.1 1 (by decide)
  have n2 := hS.2.1 2 (by decide)
  refine e_aload_n C dX7_worth_0 rfl rfl ?_
  refine e_getR (q := 1) C dX7_worth_1 fX7_10 rfl rfl ?_
  refine e_iload_n C dX7_worth_4 rfl rfl ?_
  refine e_iload_n C dX7_worth_5 rfl rfl ?_
  refine e_iload_n C dX7_worth_6 rfl rfl ?_
  refine e_callVi C dX7_worth_7 [.int a, .int b, .int c] (k_hasEnding hS a b c) okX4_hasEnding lX7_128 rfl rfl rfl ⟨rfl, rfl⟩ ⟨Nat.le_of_ble_eq_true rfl, Nat.le_of_ble_eq_true rfl⟩ (Nat.le_of_ble_eq_true rfl) ⟨Nat.zero_le _, Nat.zero_le _⟩ ?_
  refine e_if_eqB (b := hasEnd n a b c) (tgt := 24) C dX7_worth_10 (by decide) (fun h10 => ?_) (fun h10 => ?_)
  · refine e_ldc2 (v := (-2)) C dX7_worth_24 kX7_135 ?_
    exact e_lret C dX7_worth_27 RT ⟨Nat.zero_le _, Nat.zero_le _⟩ (rql (if_neg (fun h8 => by rw [h10] at h8; exact absurd h8.1 (by decide))) hI (Same.rf _ M))
  · refine e_iload C dX7_worth_13 rfl ?_
    refine e_iconst (v := (nI 0)) C dX7_worth_15 (by decide) ?_
    refine e_bipush (v := (nI 7)) C dX7_worth_16 (by decide) ?_
    refine e_callSi C dX7_worth_18 [.int h, .int (nI 0), .int (nI 7)] (k_withinN h 0 7 (by omega) (by omega)) okX7_within lX7_81 rfl ⟨rfl, rfl⟩ ⟨Nat.le_of_ble_eq_true rfl, Nat.le_of_ble_eq_true rfl⟩ (Nat.le_of_ble_eq_true rfl) ⟨Nat.zero_le _, Nat.zero_le _⟩ ?_
    refine e_if_neB (b := decide (inn h (0 : Nat) (7 : Nat))) (tgt := 28) C dX7_worth_21 (by decide) (fun h21 => ?_) (fun h21 => ?_)
    · obtain ⟨a9, b9, c9, l_a, l_b, l_c, rfl, rfl, rfl⟩ := hasEnd_N h10
      obtain ⟨h9, l_h9, u_h9, rfl⟩ := inn_N (b := 7) (dec_t h21) (by decide)
      refine e_aload_n C dX7_worth_28 rfl rfl ?_
      refine e_callVvQ C dX7_worth_29 [] (k_surveyEndings hB hF) okX7_surveyEndings lX7_161 rfl rfl rfl ⟨rfl, rfl⟩ ⟨Nat.le_of_ble_eq_true rfl, Nat.le_of_ble_eq_true rfl⟩ (Nat.le_of_ble_eq_true rfl) ⟨Nat.zero_le _, Nat.zero_le _⟩ (fun M1 hM1 => ?_)
      obtain ⟨hI, hf9⟩ := CInv.sv hI hM1
      obtain ⟨hB, hCt, hF, hF2, hT7, hG, hQ⟩ := id hI
      obtain ⟨hS, hT, hL, hL1, hL3⟩ := id hB
      have n0 := hS.2.1 0 (by decide)
      have n1 := hS.2.1 1 (by decide)
      have n2 := hS.2.1 2 (by decide)
      have hV := hM1.1
      refine e_aload_n C dX7_worth_32 rfl rfl ?_
      refine e_iload_n C dX7_worth_33 rfl rfl ?_
      refine e_iload_n C dX7_worth_34 rfl rfl ?_
      refine e_iload_n C dX7_worth_35 rfl rfl ?_
      refine e_iload C dX7_worth_36 rfl ?_
      have hw2 := wrt_le n0.2 n1.2 n2.2 hB.le a9 b9 c9 h9
      refine e_callVl C dX7_worth_38 [.int (nI a9), .int (nI b9), .int (nI c9), .int (nI h9)] (k_worthOf hB hV a9 b9 c9 h9 (by omega) (by omega) (by omega) (by omega)) okX7_worthOf lX7_164 rfl rfl rfl ⟨rfl, rfl⟩ ⟨Nat.le_of_ble_eq_true rfl, Nat.le_of_ble_eq_true rfl⟩ (Nat.le_of_ble_eq_true rfl) ⟨Nat.zero_le _, Nat.zero_le _⟩ ?_
      exact e_lret C dX7_worth_41 RT ⟨Nat.zero_le _, Nat.zero_le _⟩ (rql (by rw [show spWorth (n, P, cnt, k, W, pv, L, R, H, z, g, q) (nI a9) (nI b9) (nI c9) (nI h9) = _ from if_pos ⟨h10, dec_t h21⟩, tn_nI (q := a9) (by omega), tn_nI (q := b9) (by omega), tn_nI (q := c9) (by omega), tn_nI (q := h9) (by omega)]) (show CInv _ (n, P, cnt, k, W, pv, L, R, H, z, g, q) from hI) hf9)
    · refine e_ldc2 (v := (-2)) C dX7_worth_24 kX7_135 ?_
      exact e_lret C dX7_worth_27 RT ⟨Nat.zero_le _, Nat.zero_le _⟩ (rql (if_neg (fun h9 => dec_f h21 h9.2)) hI (Same.rf _ M))
set_option maxHeartbeats 4000000 in
set_option maxRecDepth 100000 in
theorem p_hold {w : Bool} {M : Mm} {n P cnt : Nat → Nat} {k : Nat} {W : Nat → Nat → Int32} {pv : Nat → Nat} {L R H : Nat} {z : Nat → Int32} {g : Nat} {q : Nat → Nat → Nat} (hI : CInv M (n, P, cnt, k, W, pv, L, R, H, z, g, q))  (a b c : Int32) : CT mX7_hold [.ref 0, .int a, .int b, .int c] (shF w) M (Qi (spHold (n, P, cnt, k, W, pv, L, R, H, z, g, q) a b c).1 (shF w) (fun m0 => CInv m0 (spHold (n, P, cnt, k, W, pv, L, R, H, z, g, q) a b c).2 ∧ FrC M m0)) := by
  refine CT.mk (lv := [(0, .ref 0), (1, .int a), (2, .int b), (3, .int c)]) rfl (by decide +kernel) (Nat.le_of_ble_eq_true rfl) ?_
  intro X C RT
  obtain ⟨hB, hCt, hF, hF2, hT7, hG, hQ⟩ := id hI
  obtain ⟨hS, hT, hL, hL1, hL3⟩ := id hB
  have n0 := hS.2.1 0 (by decide)
  have n1 := hS.2.1 1 (by decide)
  have n2 := hS.2.1 2 (by decide)
  refine e_aload_n C dX7_hold_0 rfl rfl ?_
  refine e_getR (q := 1) C dX7_hold_1 fX7_10 rfl rfl ?_
  refine e_iload_n C dX7_hold_4 rfl rfl ?_
  refine e_iload_n C dX7_hold_5 rfl rfl ?_
  refine e_iload_n C dX7_hold_6 rfl rfl ?_
  refine e_callVi C dX7_hold_7 [.int a, .int b, .int c] (k_hasEnding hS a b c) okX4_hasEnding lX7_128 rfl rfl rfl ⟨rfl, rfl⟩ ⟨Nat.le_of_ble_eq_true rfl, Nat.le_of_ble_eq_true rfl⟩ (Nat.le_of_ble_eq_true rfl) ⟨Nat.zero_le _, Nat.zero_le _⟩ ?_
  refine e_if_neB (b := hasEnd n a b c) (tgt := 16) C dX7_hold_10 (by decide) (fun h10 => ?_) (fun h10 => ?_)
  · obtain ⟨a9, b9, c9, l_a, l_b, l_c, rfl, rfl, rfl⟩ := hasEnd_N h10
    refine e_aload_n C dX7_hold_16 rfl rfl ?_
    refine e_callVvQ C dX7_hold_17 [] (k_surveyEndings hB hF) okX7_surveyEndings lX7_161 rfl rfl rfl ⟨rfl, rfl⟩ ⟨Nat.le_of_ble_eq_true rfl, Nat.le_of_ble_eq_true rfl⟩ (Nat.le_of_ble_eq_true rfl) ⟨Nat.zero_le _, Nat.zero_le _⟩ (fun M1 hM1 => ?_)
    obtain ⟨hI, hf9⟩ := CInv.sv hI hM1
    obtain ⟨hB, hCt, hF, hF2, hT7, hG, hQ⟩ := id hI
    obtain ⟨hS, hT, hL, hL1, hL3⟩ := id hB
    have n0 := hS.2.1 0 (by decide)
    have n1 := hS.2.1 1 (by decide)
    have n2 := hS.2.1 2 (by decide)
    have hV := hM1.1
    refine e_aload_n C dX7_hold_20 rfl rfl ?_
    refine e_iload_n C dX7_hold_21 rfl rfl ?_
    refine e_iload_n C dX7_hold_22 rfl rfl ?_
    refine e_iload_n C dX7_hold_23 rfl rfl ?_
    have hg2 := bstH_le (wrt n (EE n P k W pv L) a9 b9 c9) 7
    refine e_callVi C dX7_hold_24 [.int (nI a9), .int (nI b9), .int (nI c9)] (k_bestHold hB hV a9 b9 c9 (by omega) (by omega) (by omega)) okX7_bestHold lX7_168 rfl rfl rfl ⟨rfl, rfl⟩ ⟨Nat.le_of_ble_eq_true rfl, Nat.le_of_ble_eq_true rfl⟩ (Nat.le_of_ble_eq_true rfl) ⟨Nat.zero_le _, Nat.zero_le _⟩ ?_
    exact e_zret C dX7_hold_27 RT rfl ⟨Nat.zero_le _, Nat.zero_le _⟩ (rqi (by rw [show spHold (n, P, cnt, k, W, pv, L, R, H, z, g, q) (nI a9) (nI b9) (nI c9) = _ from if_pos h10, tn_nI (q := a9) (by omega), tn_nI (q := b9) (by omega), tn_nI (q := c9) (by omega)]) (show CInv _ (n, P, cnt, k, W, pv, L, R, H, z, g, q) from hI) hf9)
  · refine e_bipush (v := (-2)) C dX7_hold_13 (by decide) ?_
    exact e_zret C dX7_hold_15 RT rfl ⟨Nat.zero_le _, Nat.zero_le _⟩ (rqi (if_neg (fun h8 => by rw [h10] at h8; exact absurd h8 (by decide))) hI (Same.rf _ M))
set_option maxHeartbeats 4000000 in
set_option maxRecDepth 100000 in
theorem p_favoured {w : Bool} {M : Mm} {n P cnt : Nat → Nat} {k : Nat} {W : Nat → Nat → Int32} {pv : Nat → Nat} {L R H : Nat} {z : Nat → Int32} {g : Nat} {q : Nat → Nat → Nat} (hI : CInv M (n, P, cnt, k, W, pv, L, R, H, z, g, q))  (r : Int32) : CT mX7_favoured [.ref 0, .int r] (shF w) M (Qi (spFavoured (n, P, cnt, k, W, pv, L, R, H, z, g, q) r).1 (shF w) (fun m0 => CInv m0 (spFavoured (n, P, cnt, k, W, pv, L, R, H, z, g, q) r).2 ∧ FrC M m0)) := by
  refine CT.mk (lv := [(0, .ref 0), (1, .int r)]) rfl (by decide +kernel) (Nat.le_of_ble_eq_true rfl) ?_
  intro X C RT
  obtain ⟨hB, hCt, hF, hF2, hT7, hG, hQ⟩ := id hI
  obtain ⟨hS, hT, hL, hL1, hL3⟩ := id hB
  have n0 := hS.2.1 0 (by decide)
  have n1 := hS.2.1 1 (by decide)
  have n2 := hS.2.1 2 (by decide)
  have hg2 := hG.2.1
  refine e_iload_n C dX7_favoured_0 rfl rfl ?_
  refine e_callSi C dX7_favoured_1 [.int r] (k_isReelN r) okX7_isReel lX7_77 rfl ⟨rfl, rfl⟩ ⟨Nat.le_of_ble_eq_true rfl, Nat.le_of_ble_eq_true rfl⟩ (Nat.le_of_ble_eq_true rfl) ⟨Nat.zero_le _, Nat.zero_le _⟩ ?_
  refine e_if_neB (b := decide (inn r 0 2)) (tgt := 10) C dX7_favoured_4 (by decide) (fun h4 => ?_) (fun h4 => ?_)
  · obtain ⟨r9, l_r9, u_r9, rfl⟩ := inn_N (b := 2) (dec_t h4) (by decide)
    refine e_aload_n C dX7_favoured_10 rfl rfl ?_
    refine e_getR (q := 18) C dX7_favoured_11 fX7_51 rfl rfl ?_
    refine e_getI C dX7_favoured_14 fX7_217 rfl rfl ?_
    refine e_topi (nI g) hG.1 ?_
    refine e_if_neN (tgt := 24) C dX7_favoured_17 (by omega) (by decide) (fun h17 => ?_) (fun h17 => ?_)
    · refine e_aload_n C dX7_favoured_24 rfl rfl ?_
      refine e_getR (q := 18) C dX7_favoured_25 fX7_51 rfl rfl ?_
      refine e_iload_n C dX7_favoured_28 rfl rfl ?_
      refine e_callVi C dX7_favoured_29 [.int (nI r9)] (k_mostSeen hG r9 (by omega)) okX3_mostSeen lX7_231 rfl rfl rfl ⟨rfl, rfl⟩ ⟨Nat.le_of_ble_eq_true rfl, Nat.le_of_ble_eq_true rfl⟩ (Nat.le_of_ble_eq_true rfl) ⟨Nat.zero_le _, Nat.zero_le _⟩ ?_
      exact e_zret C dX7_favoured_32 RT rfl ⟨Nat.zero_le _, Nat.zero_le _⟩ (rqi ((if_pos (dec_t h4)).trans (by rw [tn_nI (q := r9) (by omega), if_neg h17]; rfl)) hI (Same.rf _ M))
    · refine e_iconst (v := (-1)) C dX7_favoured_20 (by decide) ?_
      refine e_goto (tgt := 32) C dX7_favoured_21 (by decide) ?_
      exact e_zret C dX7_favoured_32 RT rfl ⟨Nat.zero_le _, Nat.zero_le _⟩ (rqi ((if_pos (dec_t h4)).trans (by rw [tn_nI (q := r9) (by omega), if_pos h17])) hI (Same.rf _ M))
  · refine e_bipush (v := (-2)) C dX7_favoured_7 (by decide) ?_
    exact e_zret C dX7_favoured_9 RT rfl ⟨Nat.zero_le _, Nat.zero_le _⟩ (rqi (if_neg (fun h9 => dec_f h4 h9)) hI (Same.rf _ M))
set_option maxHeartbeats 4000000 in
set_option maxRecDepth 100000 in
theorem p_misses {w : Bool} {M : Mm} {n P cnt : Nat → Nat} {k : Nat} {W : Nat → Nat → Int32} {pv : Nat → Nat} {L R H : Nat} {z : Nat → Int32} {g : Nat} {q : Nat → Nat → Nat} (hI : CInv M (n, P, cnt, k, W, pv, L, R, H, z, g, q))  (p : Int32) : CT mX7_misses [.ref 0, .int p] (shF w) M (Qi (spMisses (n, P, cnt, k, W, pv, L, R, H, z, g, q) p).1 (shF w) (fun m0 => CInv m0 (spMisses (n, P, cnt, k, W, pv, L, R, H, z, g, q) p).2 ∧ FrC M m0)) := by
  refine CT.mk (lv := [(0, .ref 0), (1, .int p)]) rfl (by decide +kernel) (Nat.le_of_ble_eq_true rfl) ?_
  intro X C RT
  obtain ⟨hB, hCt, hF, hF2, hT7, hG, hQ⟩ := id hI
  obtain ⟨hS, hT, hL, hL1, hL3⟩ := id hB
  have n0 := hS.2.1 0 (by decide)
  have n1 := hS.2.1 1 (by decide)
  have n2 := hS.2.1 2 (by decide)
  refine e_iload_n C dX7_misses_0 rfl rfl ?_
  refine e_callSi C dX7_misses_1 [.int p] (k_isPictureN p) okX7_isPicture lX7_99 rfl ⟨rfl, rfl⟩ ⟨Nat.le_of_ble_eq_true rfl, Nat.le_of_ble_eq_true rfl⟩ (Nat.le_of_ble_eq_true rfl) ⟨Nat.zero_le _, Nat.zero_le _⟩ ?_
  refine e_if_neB (b := decide (inn p 0 7)) (tgt := 10) C dX7_misses_4 (by decide) (fun h4 => ?_) (fun h4 => ?_)
  · obtain ⟨p9, l_p9, u_p9, rfl⟩ := inn_N (b := 7) (dec_t h4) (by decide)
    refine e_aload_n C dX7_misses_10 rfl rfl ?_
    refine e_getR (q := 1) C dX7_misses_11 fX7_10 rfl rfl ?_
    refine e_iconst (v := (nI 0)) C dX7_misses_14 (by decide) ?_
    refine e_iload_n C dX7_misses_15 rfl rfl ?_
    refine e_callVi C dX7_misses_16 [.int (nI 0), .int (nI p9)] (k_middles hS 0 p9 (by omega) (by omega)) okX4_middles lX7_155 rfl rfl rfl ⟨rfl, rfl⟩ ⟨Nat.le_of_ble_eq_true rfl, Nat.le_of_ble_eq_true rfl⟩ (Nat.le_of_ble_eq_true rfl) ⟨Nat.zero_le _, Nat.zero_le _⟩ ?_
    refine e_istore_n (lv2 := [(2, .int (nI (cntb (fun s => decide (P (0 * 20 + s) = p9)) (n 0)))), (0, .ref 0), (1, .int (nI p9))]) C dX7_misses_19 rfl (by decide) rfl ?_
    refine e_aload_n C dX7_misses_20 rfl rfl ?_
    refine e_getR (q := 1) C dX7_misses_21 fX7_10 rfl rfl ?_
    refine e_iconst (v := (nI 1)) C dX7_misses_24 (by decide) ?_
    refine e_iload_n C dX7_misses_25 rfl rfl ?_
    refine e_callVi C dX7_misses_26 [.int (nI 1), .int (nI p9)] (k_middles hS 1 p9 (by omega) (by omega)) okX4_middles lX7_155 rfl rfl rfl ⟨rfl, rfl⟩ ⟨Nat.le_of_ble_eq_true rfl, Nat.le_of_ble_eq_true rfl⟩ (Nat.le_of_ble_eq_true rfl) ⟨Nat.zero_le _, Nat.zero_le _⟩ ?_
    refine e_istore_n (lv2 := [(3, .int (nI (cntb (fun s => decide (P (1 * 20 + s) = p9)) (n 1)))), (2, .int (nI (cntb (fun s => decide (P (0 * 20 + s) = p9)) (n 0)))), (0, .ref 0), (1, .int (nI p9))]) C dX7_misses_29 rfl (by decide) rfl ?_
    refine e_aload_n C dX7_misses_30 rfl rfl ?_
    refine e_getR (q := 1) C dX7_misses_31 fX7_10 rfl rfl ?_
    refine e_iconst (v := (nI 2)) C dX7_misses_34 (by decide) ?_
    refine e_iload_n C dX7_misses_35 rfl rfl ?_
    refine e_callVi C dX7_misses_36 [.int (nI 2), .int (nI p9)] (k_middles hS 2 p9 (by omega) (by omega)) okX4_middles lX7_155 rfl rfl rfl ⟨rfl, rfl⟩ ⟨Nat.le_of_ble_eq_true rfl, Nat.le_of_ble_eq_true rfl⟩ (Nat.le_of_ble_eq_true rfl) ⟨Nat.zero_le _, Nat.zero_le _⟩ ?_
    refine e_istore (lv2 := [(4, .int (nI (cntb (fun s => decide (P (2 * 20 + s) = p9)) (n 2)))), (3, .int (nI (cntb (fun s => decide (P (1 * 20 + s) = p9)) (n 1)))), (2, .int (nI (cntb (fun s => decide (P (0 * 20 + s) = p9)) (n 0)))), (0, .ref 0), (1, .int (nI p9))]) C dX7_misses_39 (by decide) rfl ?_
    refine e_aload_n C dX7_misses_41 rfl rfl ?_
    refine e_getR (q := 1) C dX7_misses_42 fX7_10 rfl rfl ?_
    refine e_iconst (v := (nI 0)) C dX7_misses_45 (by decide) ?_
    refine e_iload_n C dX7_misses_46 rfl rfl ?_
    refine e_callVi C dX7_misses_47 [.int (nI 0), .int (nI p9)] (k_besides hS 0 p9 (by omega) (by omega)) okX4_besides lX7_158 rfl rfl rfl ⟨rfl, rfl⟩ ⟨Nat.le_of_ble_eq_true rfl, Nat.le_of_ble_eq_true rfl⟩ (Nat.le_of_ble_eq_true rfl) ⟨Nat.zero_le _, Nat.zero_le _⟩ ?_
    refine e_iload_n C dX7_misses_50 rfl rfl ?_
    refine e_imulN C dX7_misses_51 ?_
    refine e_iload C dX7_misses_52 rfl ?_
    refine e_imulN C dX7_misses_54 ?_
    refine e_aload_n C dX7_misses_55 rfl rfl ?_
    refine e_getR (q := 1) C dX7_misses_56 fX7_10 rfl rfl ?_
    refine e_iconst (v := (nI 1)) C dX7_misses_59 (by decide) ?_
    refine e_iload_n C dX7_misses_60 rfl rfl ?_
    refine e_callVi C dX7_misses_61 [.int (nI 1), .int (nI p9)] (k_besides hS 1 p9 (by omega) (by omega)) okX4_besides lX7_158 rfl rfl rfl ⟨rfl, rfl⟩ ⟨Nat.le_of_ble_eq_true rfl, Nat.le_of_ble_eq_true rfl⟩ (Nat.le_of_ble_eq_true rfl) ⟨Nat.zero_le _, Nat.zero_le _⟩ ?_
    refine e_iload_n C dX7_misses_64 rfl rfl ?_
    refine e_imulN C dX7_misses_65 ?_
    refine e_iload C dX7_misses_66 rfl ?_
    refine e_imulN C dX7_misses_68 ?_
    refine e_iaddN C dX7_misses_69 ?_
    refine e_aload_n C dX7_misses_70 rfl rfl ?_
    refine e_getR (q := 1) C dX7_misses_71 fX7_10 rfl rfl ?_
    refine e_iconst (v := (nI 2)) C dX7_misses_74 (by decide) ?_
    refine e_iload_n C dX7_misses_75 rfl rfl ?_
    refine e_callVi C dX7_misses_76 [.int (nI 2), .int (nI p9)] (k_besides hS 2 p9 (by omega) (by omega)) okX4_besides lX7_158 rfl rfl rfl ⟨rfl, rfl⟩ ⟨Nat.le_of_ble_eq_true rfl, Nat.le_of_ble_eq_true rfl⟩ (Nat.le_of_ble_eq_true rfl) ⟨Nat.zero_le _, Nat.zero_le _⟩ ?_
    refine e_iload_n C dX7_misses_79 rfl rfl ?_
    refine e_imulN C dX7_misses_80 ?_
    refine e_iload_n C dX7_misses_81 rfl rfl ?_
    refine e_imulN C dX7_misses_82 ?_
    refine e_iaddN C dX7_misses_83 ?_
    exact e_zret C dX7_misses_84 RT rfl ⟨Nat.zero_le _, Nat.zero_le _⟩ (rqi (by rw [show spMisses (n, P, cnt, k, W, pv, L, R, H, z, g, q) (nI p9) = _ from if_pos (dec_t h4), tn_nI (q := p9) (by omega)]; rfl) (show CInv _ (n, P, cnt, k, W, pv, L, R, H, z, g, q) from hI) (Same.rf _ M))
  · refine e_bipush (v := (-2)) C dX7_misses_7 (by decide) ?_
    exact e_zret C dX7_misses_9 RT rfl ⟨Nat.zero_le _, Nat.zero_le _⟩ (rqi (if_neg (fun h9 => dec_f h4 h9)) hI (Same.rf _ M))
set_option maxHeartbeats 4000000 in
set_option maxRecDepth 100000 in
theorem k_total {w : Bool} {M : Mm} {n P cnt : Nat → Nat} {k : Nat} {W : Nat → Nat → Int32} {pv : Nat → Nat} {L R H : Nat} {z : Nat → Int32} {g : Nat} {q : Nat → Nat → Nat} (hI : CInv M (n, P, cnt, k, W, pv, L, R, H, z, g, q)) (v : Nat) (hv : v ≤ 3) : CT mX7_total [.ref 0, .int (nI v)] (shF w) M (Ql (spAll (n, P, cnt, k, W, pv, L, R, H, z, g, q) (nI v)).1 (shF w) (fun m0 => CInv m0 (spAll (n, P, cnt, k, W, pv, L, R, H, z, g, q) (nI v)).2 ∧ FrC M m0)) := by
  refine CT.mk (lv := [(0, .ref 0), (1, .int (nI v))]) rfl (by decide +kernel) (Nat.le_of_ble_eq_true rfl) ?_
  intro X C RT
  obtain ⟨hB, hCt, hF, hF2, hT7, hG, hQ⟩ := id hI
  obtain ⟨hS, hT, hL, hL1, hL3⟩ := id hB
  have n0 := hS.2.1 0 (by decide)
  have n1 := hS.2.1 1 (by decide)
  have n2 := hS.2.1 2 (by decide)
  have hN1 := prd_le n0.2 n1.2 n2.2 7
  have hN0 := prd_pos (n := n) (by omega) (by omega) (by omega)
  have hNL : prd n 7 3 * L ≤ 8000 * 3 := Nat.mul_le_mul hN1 hL3
  have hNL0 : 0 < prd n 7 3 * L := Nat.mul_pos hN0 (by omega)
  have htt := tot_le n0.2 n1.2 n2.2 hB.le
  have hht : tot n (fun a b c => hit1 (EE n P k W pv L a b c)) ≤ 8000 * 1 := tot_le n0.2 n1.2 n2.2 (fun a b c => by unfold hit1; split <;> omega)
  rcases (show v = 0 ∨ v = 1 ∨ v = 2 ∨ v = 3 by omega) with rfl | rfl | rfl | rfl
  · refine e_aload_n C dX7_total_0 rfl rfl ?_
    refine e_callVvQ C dX7_total_1 [] (k_surveyEndings hB hF) okX7_surveyEndings lX7_161 rfl rfl rfl ⟨rfl, rfl⟩ ⟨Nat.le_of_ble_eq_true rfl, Nat.le_of_ble_eq_true rfl⟩ (Nat.le_of_ble_eq_true rfl) ⟨Nat.zero_le _, Nat.zero_le _⟩ (fun M1 hM1 => ?_)
    obtain ⟨hI, hf9⟩ := CInv.sv hI hM1
    obtain ⟨hB, hCt, hF, hF2, hT7, hG, hQ⟩ := id hI
    obtain ⟨hS, hT, hL, hL1, hL3⟩ := id hB
    have n0 := hS.2.1 0 (by decide)
    have n1 := hS.2.1 1 (by decide)
    have n2 := hS.2.1 2 (by decide)
    have hV := hM1.1
    refine e_iload_n C dX7_total_4 rfl rfl ?_
    refine e_tableIn (tgt := 32) C dX7_total_5 (by decide) (by decide) rfl (by decide) ?_
    refine e_aload_n C dX7_total_32 rfl rfl ?_
    refine e_getR (q := 1) C dX7_total_33 fX7_10 rfl rfl ?_
    refine e_callVi C dX7_total_36 [] (k_endings hS) okX4_endings lX7_181 rfl rfl rfl ⟨rfl, rfl⟩ ⟨Nat.le_of_ble_eq_true rfl, Nat.le_of_ble_eq_true rfl⟩ (Nat.le_of_ble_eq_true rfl) ⟨Nat.zero_le _, Nat.zero_le _⟩ ?_
    refine e_i2lN C dX7_total_39 (by omega) ?_
    exact e_lret C dX7_total_40 RT ⟨Nat.zero_le _, Nat.zero_le _⟩ (rql rfl hI hf9)
  · refine e_aload_n C dX7_total_0 rfl rfl ?_
    refine e_callVvQ C dX7_total_1 [] (k_surveyEndings hB hF) okX7_surveyEndings lX7_161 rfl rfl rfl ⟨rfl, rfl⟩ ⟨Nat.le_of_ble_eq_true rfl, Nat.le_of_ble_eq_true rfl⟩ (Nat.le_of_ble_eq_true rfl) ⟨Nat.zero_le _, Nat.zero_le _⟩ (fun M1 hM1 => ?_)
    obtain ⟨hI, hf9⟩ := CInv.sv hI hM1
    obtain ⟨hB, hCt, hF, hF2, hT7, hG, hQ⟩ := id hI
    obtain ⟨hS, hT, hL, hL1, hL3⟩ := id hB
    have n0 := hS.2.1 0 (by decide)
    have n1 := hS.2.1 1 (by decide)
    have n2 := hS.2.1 2 (by decide)
    have hV := hM1.1
    refine e_iload_n C dX7_total_4 rfl rfl ?_
    refine e_tableIn (tgt := 41) C dX7_total_5 (by decide) (by decide) rfl (by decide) ?_
    refine e_aload_n C dX7_total_41 rfl rfl ?_
    refine e_getR (q := 11) C dX7_total_42 fX7_30 rfl rfl ?_
    refine e_getJ C dX7_total_45 fX7_273 rfl rfl ?_
    refine e_topl (lN (tot n (EE n P k W pv L))) hV.1 ?_
    exact e_lret C dX7_total_48 RT ⟨Nat.zero_le _, Nat.zero_le _⟩ (rql rfl hI hf9)
  · refine e_aload_n C dX7_total_0 rfl rfl ?_
    refine e_callVvQ C dX7_total_1 [] (k_surveyEndings hB hF) okX7_surveyEndings lX7_161 rfl rfl rfl ⟨rfl, rfl⟩ ⟨Nat.le_of_ble_eq_true rfl, Nat.le_of_ble_eq_true rfl⟩ (Nat.le_of_ble_eq_true rfl) ⟨Nat.zero_le _, Nat.zero_le _⟩ (fun M1 hM1 => ?_)
    obtain ⟨hI, hf9⟩ := CInv.sv hI hM1
    obtain ⟨hB, hCt, hF, hF2, hT7, hG, hQ⟩ := id hI
    obtain ⟨hS, hT, hL, hL1, hL3⟩ := id hB
    have n0 := hS.2.1 0 (by decide)
    have n1 := hS.2.1 1 (by decide)
    have n2 := hS.2.1 2 (by decide)
    have hV := hM1.1
    refine e_iload_n C dX7_total_4 rfl rfl ?_
    refine e_tableIn (tgt := 49) C dX7_total_5 (by decide) (by decide) rfl (by decide) ?_
    refine e_aload_n C dX7_total_49 rfl rfl ?_
    refine e_getR (q := 11) C dX7_total_50 fX7_30 rfl rfl ?_
    refine e_getI C dX7_total_53 fX7_277 rfl rfl ?_
    refine e_topi (nI (tot n (fun a b c => hit1 (EE n P k W pv L a b c)))) hV.2.1 ?_
    refine e_i2lN C dX7_total_56 (by omega) ?_
    exact e_lret C dX7_total_57 RT ⟨Nat.zero_le _, Nat.zero_le _⟩ (rql rfl hI hf9)
  · refine e_aload_n C dX7_total_0 rfl rfl ?_
    refine e_callVvQ C dX7_total_1 [] (k_surveyEndings hB hF) okX7_surveyEndings lX7_161 rfl rfl rfl ⟨rfl, rfl⟩ ⟨Nat.le_of_ble_eq_true rfl, Nat.le_of_ble_eq_true rfl⟩ (Nat.le_of_ble_eq_true rfl) ⟨Nat.zero_le _, Nat.zero_le _⟩ (fun M1 hM1 => ?_)
    obtain ⟨hI, hf9⟩ := CInv.sv hI hM1
    obtain ⟨hB, hCt, hF, hF2, hT7, hG, hQ⟩ := id hI
    obtain ⟨hS, hT, hL, hL1, hL3⟩ := id hB
    have n0 := hS.2.1 0 (by decide)
    have n1 := hS.2.1 1 (by decide)
    have n2 := hS.2.1 2 (by decide)
    have hV := hM1.1
    refine e_iload_n C dX7_total_4 rfl rfl ?_
    refine e_tableOut (tgt := 58) C dX7_total_5 (by decide) (by decide) ?_
    refine e_aload_n C dX7_total_58 rfl rfl ?_
    refine e_getR (q := 11) C dX7_total_59 fX7_30 rfl rfl ?_
    refine e_getJ C dX7_total_62 fX7_273 rfl rfl ?_
    refine e_topl (lN (tot n (EE n P k W pv L))) hV.1 ?_
    refine e_ldc2 (v := lN 1000) C dX7_total_65 kX7_179 ?_
    refine e_lmulN C dX7_total_68 ?_
    refine e_aload_n C dX7_total_69 rfl rfl ?_
    refine e_getR (q := 1) C dX7_total_70 fX7_10 rfl rfl ?_
    refine e_callVi C dX7_total_73 [] (k_endings hS) okX4_endings lX7_181 rfl rfl rfl ⟨rfl, rfl⟩ ⟨Nat.le_of_ble_eq_true rfl, Nat.le_of_ble_eq_true rfl⟩ (Nat.le_of_ble_eq_true rfl) ⟨Nat.zero_le _, Nat.zero_le _⟩ ?_
    refine e_i2lN C dX7_total_76 (by omega) ?_
    refine e_aload_n C dX7_total_77 rfl rfl ?_
    refine e_getI C dX7_total_78 fX7_66 rfl rfl ?_
    refine e_topi (nI L) hL ?_
    refine e_i2lN C dX7_total_81 (by omega) ?_
    refine e_lmulN C dX7_total_82 ?_
    refine e_callSl C dX7_total_83 [.long (lN ((tot n (EE n P k W pv L)) * 1000)), .long (lN ((prd n 7 3) * L))] (k_cut ((tot n (EE n P k W pv L)) * 1000) ((prd n 7 3) * L) (by omega) (by omega) (by omega)) okX7_cut lX7_184 rfl ⟨rfl, rfl⟩ ⟨Nat.le_of_ble_eq_true rfl, Nat.le_of_ble_eq_true rfl⟩ (Nat.le_of_ble_eq_true rfl) ⟨Nat.zero_le _, Nat.zero_le _⟩ ?_
    exact e_lret C dX7_total_86 RT ⟨Nat.zero_le _, Nat.zero_le _⟩ (rql rfl hI hf9)
set_option maxHeartbeats 4000000 in
set_option maxRecDepth 100000 in
theorem p_all {w : Bool} {M : Mm} {n P cnt : Nat → Nat} {k : Nat} {W : Nat → Nat → Int32} {pv : Nat → Nat} {L R H : Nat} {z : Nat → Int32} {g : Nat} {q : Nat → Nat → Nat} (hI : CInv M (n, P, cnt, k, W, pv, L, R, H, z, g, q))  (x : Int32) : CT mX7_all [.ref 0, .int x] (shF w) M (Ql (spAll (n, P, cnt, k, W, pv, L, R, H, z, g, q) x).1 (shF w) (fun m0 => CInv m0 (spAll (n, P, cnt, k, W, pv, L, R, H, z, g, q) x).2 ∧ FrC M m0)) := by
  refine CT.mk (lv := [(0, .ref 0), (1, .int x)]) rfl (by decide +kernel) (Nat.le_of_ble_eq_true rfl) ?_
  intro X C RT
  obtain ⟨hB, hCt, hF, hF2, hT7, hG, hQ⟩ := id hI
  obtain ⟨hS, hT, hL, hL1, hL3⟩ := id hB
  have n0 := hS.2.1 0 (by decide)
  have n1 := hS.2.1 1 (by decide)
  have n2 := hS.2.1 2 (by decide)
  by_cases hx : inn x 0 4
  · obtain ⟨x9, _, u_x, rfl⟩ := inn_N (b := 4) hx (by decide)
    rcases (show x9 = 0 ∨ x9 = 1 ∨ x9 = 2 ∨ x9 = 3 ∨ x9 = 4 by omega) with rfl | rfl | rfl | rfl | rfl
    · refine e_iload_n C dX7_all_0 rfl rfl ?_
      refine e_iconst (v := (nI 0)) C dX7_all_1 (by decide) ?_
      refine e_iconst (v := (nI 4)) C dX7_all_2 (by decide) ?_
      refine e_callSi C dX7_all_3 [.int (nI 0), .int (nI 0), .int (nI 4)] (k_withinN (nI 0) 0 4 (by omega) (by omega)) okX7_within lX7_81 rfl ⟨rfl, rfl⟩ ⟨Nat.le_of_ble_eq_true rfl, Nat.le_of_ble_eq_true rfl⟩ (Nat.le_of_ble_eq_true rfl) ⟨Nat.zero_le _, Nat.zero_le _⟩ ?_
      refine e_if_neB (b := decide (inn (nI 0) (0 : Nat) (4 : Nat))) (tgt := 13) C dX7_all_6 (by decide) (fun h6 => ?_) (fun h6 => by exact absurd h6 (by decide))
      refine e_iload_n C dX7_all_13 rfl rfl ?_
      refine e_iconst (v := (nI 4)) C dX7_all_14 (by decide) ?_
      refine e_icmp_neN (tgt := 25) C dX7_all_15 (by omega) (by omega) (by decide) (fun h15 => ?_) (fun h15 => by omega)
      refine e_aload_n C dX7_all_25 rfl rfl ?_
      refine e_iload_n C dX7_all_26 rfl rfl ?_
      refine e_callVlQ C dX7_all_27 [.int (nI 0)] (k_total hI 0 (by omega)) okX7_total lX7_141 rfl rfl rfl ⟨rfl, rfl⟩ ⟨Nat.le_of_ble_eq_true rfl, Nat.le_of_ble_eq_true rfl⟩ (Nat.le_of_ble_eq_true rfl) ⟨Nat.zero_le _, Nat.zero_le _⟩ (fun M1 hM1 => ?_)
      exact e_lret C dX7_all_30 RT ⟨Nat.zero_le _, Nat.zero_le _⟩ (ql_ rfl hM1)
    · refine e_iload_n C dX7_all_0 rfl rfl ?_
      refine e_iconst (v := (nI 0)) C dX7_all_1 (by decide) ?_
      refine e_iconst (v := (nI 4)) C dX7_all_2 (by decide) ?_
      refine e_callSi C dX7_all_3 [.int (nI 1), .int (nI 0), .int (nI 4)] (k_withinN (nI 1) 0 4 (by omega) (by omega)) okX7_within lX7_81 rfl ⟨rfl, rfl⟩ ⟨Nat.le_of_ble_eq_true rfl, Nat.le_of_ble_eq_true rfl⟩ (Nat.le_of_ble_eq_true rfl) ⟨Nat.zero_le _, Nat.zero_le _⟩ ?_
      refine e_if_neB (b := decide (inn (nI 1) (0 : Nat) (4 : Nat))) (tgt := 13) C dX7_all_6 (by decide) (fun h6 => ?_) (fun h6 => by exact absurd h6 (by decide))
      refine e_iload_n C dX7_all_13 rfl rfl ?_
      refine e_iconst (v := (nI 4)) C dX7_all_14 (by decide) ?_
      refine e_icmp_neN (tgt := 25) C dX7_all_15 (by omega) (by omega) (by decide) (fun h15 => ?_) (fun h15 => by omega)
      refine e_aload_n C dX7_all_25 rfl rfl ?_
      refine e_iload_n C dX7_all_26 rfl rfl ?_
      refine e_callVlQ C dX7_all_27 [.int (nI 1)] (k_total hI 1 (by omega)) okX7_total lX7_141 rfl rfl rfl ⟨rfl, rfl⟩ ⟨Nat.le_of_ble_eq_true rfl, Nat.le_of_ble_eq_true rfl⟩ (Nat.le_of_ble_eq_true rfl) ⟨Nat.zero_le _, Nat.zero_le _⟩ (fun M1 hM1 => ?_)
      exact e_lret C dX7_all_30 RT ⟨Nat.zero_le _, Nat.zero_le _⟩ (ql_ rfl hM1)
    · refine e_iload_n C dX7_all_0 rfl rfl ?_
      refine e_iconst (v := (nI 0)) C dX7_all_1 (by decide) ?_
      refine e_iconst (v := (nI 4)) C dX7_all_2 (by decide) ?_
      refine e_callSi C dX7_all_3 [.int (nI 2), .int (nI 0), .int (nI 4)] (k_withinN (nI 2) 0 4 (by omega) (by omega)) okX7_within lX7_81 rfl ⟨rfl, rfl⟩ ⟨Nat.le_of_ble_eq_true rfl, Nat.le_of_ble_eq_true rfl⟩ (Nat.le_of_ble_eq_true rfl) ⟨Nat.zero_le _, Nat.zero_le _⟩ ?_
      refine e_if_neB (b := decide (inn (nI 2) (0 : Nat) (4 : Nat))) (tgt := 13) C dX7_all_6 (by decide) (fun h6 => ?_) (fun h6 => by exact absurd h6 (by decide))
      refine e_iload_n C dX7_all_13 rfl rfl ?_
      refine e_iconst (v := (nI 4)) C dX7_all_14 (by decide) ?_
      refine e_icmp_neN (tgt := 25) C dX7_all_15 (by omega) (by omega) (by decide) (fun h15 => ?_) (fun h15 => by omega)
      refine e_aload_n C dX7_all_25 rfl rfl ?_
      refine e_iload_n C dX7_all_26 rfl rfl ?_
      refine e_callVlQ C dX7_all_27 [.int (nI 2)] (k_total hI 2 (by omega)) okX7_total lX7_141 rfl rfl rfl ⟨rfl, rfl⟩ ⟨Nat.le_of_ble_eq_true rfl, Nat.le_of_ble_eq_true rfl⟩ (Nat.le_of_ble_eq_true rfl) ⟨Nat.zero_le _, Nat.zero_le _⟩ (fun M1 hM1 => ?_)
      exact e_lret C dX7_all_30 RT ⟨Nat.zero_le _, Nat.zero_le _⟩ (ql_ rfl hM1)
    · refine e_iload_n C dX7_all_0 rfl rfl ?_
      refine e_iconst (v := (nI 0)) C dX7_all_1 (by decide) ?_
      refine e_iconst (v := (nI 4)) C dX7_all_2 (by decide) ?_
      refine e_callSi C dX7_all_3 [.int (nI 3), .int (nI 0), .int (nI 4)] (k_withinN (nI 3) 0 4 (by omega) (by omega)) okX7_within lX7_81 rfl ⟨rfl, rfl⟩ ⟨Nat.le_of_ble_eq_true rfl, Nat.le_of_ble_eq_true rfl⟩ (Nat.le_of_ble_eq_true rfl) ⟨Nat.zero_le _, Nat.zero_le _⟩ ?_
      refine e_if_neB (b := decide (inn (nI 3) (0 : Nat) (4 : Nat))) (tgt := 13) C dX7_all_6 (by decide) (fun h6 => ?_) (fun h6 => by exact absurd h6 (by decide))
      refine e_iload_n C dX7_all_13 rfl rfl ?_
      refine e_iconst (v := (nI 4)) C dX7_all_14 (by decide) ?_
      refine e_icmp_neN (tgt := 25) C dX7_all_15 (by omega) (by omega) (by decide) (fun h15 => ?_) (fun h15 => by omega)
      refine e_aload_n C dX7_all_25 rfl rfl ?_
      refine e_iload_n C dX7_all_26 rfl rfl ?_
      refine e_callVlQ C dX7_all_27 [.int (nI 3)] (k_total hI 3 (by omega)) okX7_total lX7_141 rfl rfl rfl ⟨rfl, rfl⟩ ⟨Nat.le_of_ble_eq_true rfl, Nat.le_of_ble_eq_true rfl⟩ (Nat.le_of_ble_eq_true rfl) ⟨Nat.zero_le _, Nat.zero_le _⟩ (fun M1 hM1 => ?_)
      exact e_lret C dX7_all_30 RT ⟨Nat.zero_le _, Nat.zero_le _⟩ (ql_ rfl hM1)
    · refine e_iload_n C dX7_all_0 rfl rfl ?_
      refine e_iconst (v := (nI 0)) C dX7_all_1 (by decide) ?_
      refine e_iconst (v := (nI 4)) C dX7_all_2 (by decide) ?_
      refine e_callSi C dX7_all_3 [.int (nI 4), .int (nI 0), .int (nI 4)] (k_withinN (nI 4) 0 4 (by omega) (by omega)) okX7_within lX7_81 rfl ⟨rfl, rfl⟩ ⟨Nat.le_of_ble_eq_true rfl, Nat.le_of_ble_eq_true rfl⟩ (Nat.le_of_ble_eq_true rfl) ⟨Nat.zero_le _, Nat.zero_le _⟩ ?_
      refine e_if_neB (b := decide (inn (nI 4) (0 : Nat) (4 : Nat))) (tgt := 13) C dX7_all_6 (by decide) (fun h6 => ?_) (fun h6 => by exact absurd h6 (by decide))
      refine e_iload_n C dX7_all_13 rfl rfl ?_
      refine e_iconst (v := (nI 4)) C dX7_all_14 (by decide) ?_
      refine e_icmp_neN (tgt := 25) C dX7_all_15 (by omega) (by omega) (by decide) (fun h15 => by omega) (fun h15 => ?_)
      refine e_aload_n C dX7_all_18 rfl rfl ?_
      refine e_callVlQ C dX7_all_19 [] (k_playedBest hB hF) okX7_playedBest lX7_137 rfl rfl rfl ⟨rfl, rfl⟩ ⟨Nat.le_of_ble_eq_true rfl, Nat.le_of_ble_eq_true rfl⟩ (Nat.le_of_ble_eq_true rfl) ⟨Nat.zero_le _, Nat.zero_le _⟩ (fun M1 hM1 => ?_)
      obtain ⟨hI2, hf9⟩ := CInv.sv hI hM1
      refine e_goto (tgt := 30) C dX7_all_22 (by decide) ?_
      exact e_lret C dX7_all_30 RT ⟨Nat.zero_le _, Nat.zero_le _⟩ (rql rfl hI2 hf9)
  · refine e_iload_n C dX7_all_0 rfl rfl ?_
    refine e_iconst (v := (nI 0)) C dX7_all_1 (by decide) ?_
    refine e_iconst (v := (nI 4)) C dX7_all_2 (by decide) ?_
    refine e_callSi C dX7_all_3 [.int x, .int (nI 0), .int (nI 4)] (k_withinN x 0 4 (by omega) (by omega)) okX7_within lX7_81 rfl ⟨rfl, rfl⟩ ⟨Nat.le_of_ble_eq_true rfl, Nat.le_of_ble_eq_true rfl⟩ (Nat.le_of_ble_eq_true rfl) ⟨Nat.zero_le _, Nat.zero_le _⟩ ?_
    refine e_if_neB (b := decide (inn x (0 : Nat) (4 : Nat))) (tgt := 13) C dX7_all_6 (by decide) (fun h6 => by exact absurd (dec_t h6) hx) (fun h6 => ?_)
    refine e_ldc2 (v := (-2)) C dX7_all_9 kX7_135 ?_
    exact e_lret C dX7_all_12 RT ⟨Nat.zero_le _, Nat.zero_le _⟩ (rql (congrArg (fun y => (y, (n, P, cnt, k, W, pv, L, R, H, z, g, q))) (by rw [if_neg (fun e => hx (by subst e; decide)), if_neg (fun e => hx (by subst e; decide)), if_neg (fun e => hx (by subst e; decide)), if_neg (fun e => hx (by subst e; decide)), if_neg (fun e => hx (by subst e; decide))])) hI (Same.rf _ M))
theorem QOK.play {n : Nat → Nat} {g : Nat} {q : Nat → Nat → Nat} {a b c : Nat} (h : QOK n g q) (ha : a < n 0) (hb : b < n 1) (hc : c < n 2) : QOK n (plG g) (plQ g q a b c) := by
  intro i hi r hr
  unfold plG at hi; unfold plQ
  split at hi
  · rename_i h2; rw [if_pos h2]
    by_cases e : i = g
    · subst e; rw [up_s]; unfold wsh3
      rcases (show r = 0 ∨ r = 1 ∨ r = 2 by omega) with rfl | rfl | rfl
      · exact ha
      · exact hb
      · exact hc
    · rw [up_n _ _ e]; exact h i (by omega) r hr
  · rename_i h2; rw [if_neg h2]; exact h i hi r hr
set_option maxHeartbeats 4000000 in
set_option maxRecDepth 100000 in
theorem p_play {w : Bool} {M : Mm} {n P cnt : Nat → Nat} {k : Nat} {W : Nat → Nat → Int32} {pv : Nat → Nat} {L R H : Nat} {z : Nat → Int32} {g : Nat} {q : Nat → Nat → Nat} (hI : CInv M (n, P, cnt, k, W, pv, L, R, H, z, g, q))  (a b c : Int32) : CT mX7_play [.ref 0, .int a, .int b, .int c] (shF w) M (Qi (spPlay (n, P, cnt, k, W, pv, L, R, H, z, g, q) a b c).1 (shF w) (fun m0 => CInv m0 (spPlay (n, P, cnt, k, W, pv, L, R, H, z, g, q) a b c).2 ∧ FrC M m0)) := by
  refine CT.mk (lv := [(0, .ref 0), (1, .int a), (2, .int b), (3, .int c)]) rfl (by decide +kernel) (Nat.le_of_ble_eq_true rfl) ?_
  intro X C RT
  obtain ⟨hB, hCt, hF, hF2, hT7, hG, hQ⟩ := id hI
  obtain ⟨hS, hT, hL, hL1, hL3⟩ := id hB
  have n0 := hS.2.1 0 (by decide)
  have n1 := hS.2.1 1 (by decide)
  have n2 := hS.2.1 2 (by decide)
  refine e_aload_n C dX7_play_0 rfl rfl ?_
  refine e_getR (q := 1) C dX7_play_1 fX7_10 rfl rfl ?_
  refine e_iload_n C dX7_play_4 rfl rfl ?_
  refine e_iload_n C dX7_play_5 rfl rfl ?_
  refine e_iload_n C dX7_play_6 rfl rfl ?_
  refine e_callVi C dX7_play_7 [.int a, .int b, .int c] (k_hasEnding hS a b c) okX4_hasEnding lX7_128 rfl rfl rfl ⟨rfl, rfl⟩ ⟨Nat.le_of_ble_eq_true rfl, Nat.le_of_ble_eq_true rfl⟩ (Nat.le_of_ble_eq_true rfl) ⟨Nat.zero_le _, Nat.zero_le _⟩ ?_
  refine e_if_neB (b := hasEnd n a b c) (tgt := 16) C dX7_play_10 (by decide) (fun h10 => ?_) (fun h10 => ?_)
  · obtain ⟨a9, b9, c9, l_a, l_b, l_c, rfl, rfl, rfl⟩ := hasEnd_N h10
    refine e_aload_n C dX7_play_16 rfl rfl ?_
    refine e_iload_n C dX7_play_17 rfl rfl ?_
    refine e_iload_n C dX7_play_18 rfl rfl ?_
    refine e_iload_n C dX7_play_19 rfl rfl ?_
    have he1 := hB.le a9 b9 c9
    refine e_callVi C dX7_play_20 [.int (nI a9), .int (nI b9), .int (nI c9)] (k_endingPays hB a9 b9 c9 (by omega) (by omega) (by omega)) okX7_endingPays lX7_131 rfl rfl rfl ⟨rfl, rfl⟩ ⟨Nat.le_of_ble_eq_true rfl, Nat.le_of_ble_eq_true rfl⟩ (Nat.le_of_ble_eq_true rfl) ⟨Nat.zero_le _, Nat.zero_le _⟩ ?_
    refine e_istore (lv2 := [(4, .int (nI (EE n P k W pv L a9 b9 c9))), (0, .ref 0), (1, .int (nI a9)), (2, .int (nI b9)), (3, .int (nI c9))]) C dX7_play_23 (by decide) rfl ?_
    refine e_aload_n C dX7_play_25 rfl rfl ?_
    refine e_getR (q := 17) C dX7_play_26 fX7_44 rfl rfl ?_
    refine e_aload_n C dX7_play_29 rfl rfl ?_
    refine e_getI C dX7_play_30 fX7_66 rfl rfl ?_
    refine e_topi (nI L) hL ?_
    refine e_callVvQ C dX7_play_33 [.int (nI L)] (k_take hT7 L (by omega)) okX6_take lX7_197 rfl rfl rfl ⟨rfl, rfl⟩ ⟨Nat.le_of_ble_eq_true rfl, Nat.le_of_ble_eq_true rfl⟩ (Nat.le_of_ble_eq_true rfl) ⟨Nat.zero_le _, Nat.zero_le _⟩ (fun M2 hM2 => ?_)
    refine e_aload_n C dX7_play_36 rfl rfl ?_
    refine e_getR (q := 17) C dX7_play_37 fX7_44 rfl rfl ?_
    refine e_iload C dX7_play_40 rfl ?_
    refine e_callVvQ C dX7_play_42 [.int (nI (EE n P k W pv L a9 b9 c9))] (k_payOut hM2.1 (EE n P k W pv L a9 b9 c9) (by omega)) okX6_payOut lX7_200 rfl rfl rfl ⟨rfl, rfl⟩ ⟨Nat.le_of_ble_eq_true rfl, Nat.le_of_ble_eq_true rfl⟩ (Nat.le_of_ble_eq_true rfl) ⟨Nat.zero_le _, Nat.zero_le _⟩ (fun M3 hM3 => ?_)
    refine e_aload_n C dX7_play_45 rfl rfl ?_
    refine e_getR (q := 18) C dX7_play_46 fX7_51 rfl rfl ?_
    refine e_iload_n C dX7_play_49 rfl rfl ?_
    refine e_iload_n C dX7_play_50 rfl rfl ?_
    refine e_iload_n C dX7_play_51 rfl rfl ?_
    have hG9 : SgOK M3 g q := (hG.same (hM2.2.gI (by decide)) (hM2.2.gI (by decide))).same (hM3.2.gI (by decide)) (hM3.2.gI (by decide))
    refine e_callVvQ C dX7_play_52 [.int (nI a9), .int (nI b9), .int (nI c9)] (k_gadd hG9 a9 b9 c9 (by omega) (by omega) (by omega)) okX3_add lX7_203 rfl rfl rfl ⟨rfl, rfl⟩ ⟨Nat.le_of_ble_eq_true rfl, Nat.le_of_ble_eq_true rfl⟩ (Nat.le_of_ble_eq_true rfl) ⟨Nat.zero_le _, Nat.zero_le _⟩ (fun M4 hM4 => ?_)
    refine e_iload C dX7_play_55 rfl ?_
    have hs9 : Same [17, 18, 19] M M4 := ((hM2.2.up (by decide)).tr (hM3.2.up (by decide))).tr (hM4.2.up (by decide))
    have hG8 : SgOK M4 (plG g) (plQ g q a9 b9 c9) := by have h8 := hM4.1; unfold plG plQ; by_cases e9 : g < 200 <;> simp only [e9, if_true, if_false] at h8 ⊢ <;> exact h8
    have hQ8 : QOK n (plG g) (plQ g q a9 b9 c9) := QOK.play hQ l_a l_b l_c
    exact e_zret C dX7_play_57 RT rfl ⟨Nat.zero_le _, Nat.zero_le _⟩ (rqi (by rw [show spPlay (n, P, cnt, k, W, pv, L, R, H, z, g, q) (nI a9) (nI b9) (nI c9) = _ from if_pos h10, tn_nI (q := a9) (by omega), tn_nI (q := b9) (by omega), tn_nI (q := c9) (by omega)]) (show CInv _ (n, P, cnt, k, W, pv, L, R, takeH R H L - min (EE n P k W pv L a9 b9 c9) (takeH R H L), outZ (takeZ z R H L) (takeH R H L) (EE n P k W pv L a9 b9 c9), plG g, plQ g q a9 b9 c9) from ⟨hB.sm hs9 (by decide), hCt.same (hs9.gI (by decide)), hF.same (congrFun (hs9.gI (by decide)) _) (hs9.gJ (by decide)) (hs9.gI (by decide)) (hs9.gJ (by decide)) (hs9.gJ (by decide)), hF2.same (congrFun (hs9.gI (by decide)) _) (hs9.gI (by decide)) (hs9.gI (by decide)) (hs9.gI (by decide)), hM3.1.same (hM4.2.gI (by decide)), hG8, hQ8⟩) (hs9.up (by decide)))
  · refine e_bipush (v := (-2)) C dX7_play_13 (by decide) ?_
    exact e_zret C dX7_play_15 RT rfl ⟨Nat.zero_le _, Nat.zero_le _⟩ (rqi (if_neg (fun h8 => by rw [h10] at h8; exact absurd h8 (by decide))) hI (Same.rf _ M))
