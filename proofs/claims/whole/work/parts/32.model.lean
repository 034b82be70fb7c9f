set_option maxHeartbeats 4000000 in
set_option maxRecDepth 100000 in
theorem q_reel {w : Bool} {M : Mm} {n P cnt : Nat → Nat} {k : Nat} {W : Nat → Nat → Int32} {pv : Nat → Nat} {L R H : Nat} {z : Nat → Int32} {g : Nat} {q : Nat → Nat → Nat} (hI : RInv M (n, P, cnt, k, W, pv, L, R, H, z, g, q))  (r x : Int32) : CT mX8_reel [.ref 25, .int r, .int x] (shF w) M (Qi (spReel (n, P, cnt, k, W, pv, L, R, H, z, g, q) r x).1 (shF w) (fun m0 => RInv m0 (spReel (n, P, cnt, k, W, pv, L, R, H, z, g, q) r x).2 ∧ FrR M m0)) := by
  refine CT.mk (lv := [(0, .ref 25), (1, .int r), (2, .int x)]) rfl (by decide +kernel) (Nat.le_of_ble_eq_true rfl) ?_
  intro X C RT
  obtain ⟨hB, hCt, hF, hH, hG, hQ⟩ := id hI
  obtain ⟨hS, hT, hL, hL1, hL3⟩ := id hB
  have n0 := hS.2.1 0 (by decide)
  have n1 := hS.2.1 1 (by decide)
  have n2 := hS.2.1 2 (by decide)
  refine e_iload_n C dX8_reel_0 rfl rfl ?_
  refine e_callSi C dX8_reel_1 [.int r] (r_isReel r) okX8_isReel lX8_85 rfl ⟨rfl, rfl⟩ ⟨Nat.le_of_ble_eq_true rfl, Nat.le_of_ble_eq_true rfl⟩ (Nat.le_of_ble_eq_true rfl) ⟨Nat.zero_le _, Nat.zero_le _⟩ ?_
  refine e_if_eqB (b := decide (inn r 0 2)) (tgt := 21) C dX8_reel_4 (by decide) (fun h4 => ?_) (fun h4 => ?_)
  · refine e_bipush (v := (-2)) C dX8_reel_21 (by decide) ?_
    exact e_zret C dX8_reel_23 RT rfl ⟨Nat.zero_le _, Nat.zero_le _⟩ (rri (if_neg (fun h9 => dec_f h4 h9.1)) hI (Same.rf _ M))
  · refine e_iload_n C dX8_reel_7 rfl rfl ?_
    refine e_i2l C dX8_reel_8 ?_
    refine e_ldc2 (v := lN 4) C dX8_reel_9 kX8_89 ?_
    refine e_ldc2 (v := lN 20) C dX8_reel_12 kX8_91 ?_
    refine e_callSi C dX8_reel_15 [.long x.toInt64, .long (lN 4), .long (lN 20)] (r_inN x 4 20 (by omega) (by omega)) okX8_in lX8_81 rfl ⟨rfl, rfl⟩ ⟨Nat.le_of_ble_eq_true rfl, Nat.le_of_ble_eq_true rfl⟩ (Nat.le_of_ble_eq_true rfl) ⟨Nat.zero_le _, Nat.zero_le _⟩ ?_
    refine e_if_neB (b := decide (inn x (4 : Nat) (20 : Nat))) (tgt := 24) C dX8_reel_18 (by decide) (fun h18 => ?_) (fun h18 => ?_)
    · obtain ⟨r9, l_r9, u_r9, rfl⟩ := inn_N (b := 2) (dec_t h4) (by decide)
      obtain ⟨x9, l_x9, u_x9, rfl⟩ := inn_N (b := 20) (dec_t h18) (by decide)
      refine e_aload_n C dX8_reel_24 rfl rfl ?_
      refine e_getR (q := 26) C dX8_reel_25 fX8_7 rfl rfl ?_
      refine e_iload_n C dX8_reel_28 rfl rfl ?_
      refine e_iload_n C dX8_reel_29 rfl rfl ?_
      refine e_iastoreN C dX8_reel_30 rfl (by omega) (by omega) ?_
      refine e_nm (fun M1 hM1 => ?_)
      refine e_iconst (v := (nI 0)) C dX8_reel_31 (by decide) ?_
      refine e_istore_n (lv2 := [(3, .int (nI 0)), (0, .ref 25), (1, .int (nI r9)), (2, .int (nI x9))]) C dX8_reel_32 rfl (by decide) rfl ?_
      refine e_loc [1, 2, 3, 0] rfl ?_
      have lp : ∀ (s : Nat) (M9 : Mm), s ≤ 20 → (∀ j, j < s → gI M9 27 (r9 * 20 + j) = nI 0) → (∀ j, (j < r9 * 20 ∨ r9 * 20 + 20 ≤ j) → gI M9 27 j = gI M1 27 j) → Same [27] M1 M9 → Wd X (0, 0) 33 [(0, .ref 25), (1, .int (nI r9)), (2, .int (nI x9)), (3, .int (nI s))] [] (shF w) M9 := by
        intro s
        induction hq_lp : 20 - s using Nat.strongRecOn generalizing s with
        | ind k_lp ih_lp =>
          intro M9 hs hz9 ho9 hs9
          refine e_iload_n C dX8_reel_33 rfl rfl ?_
          refine e_bipush (v := (nI 20)) C dX8_reel_34 (by decide) ?_
          refine e_icmp_geN (tgt := 57) C dX8_reel_36 (by omega) (by omega) (by decide) (fun h36 => ?_) (fun h36 => ?_)
          · refine e_aload_n C dX8_reel_57 rfl rfl ?_
            refine e_iconst (v := (nI 0)) C dX8_reel_58 (by decide) ?_
            refine e_putI C dX8_reel_59 pX8_93 rfl rfl rfl rfl ?_
            refine e_nm (fun M2 hM2 => ?_)
            refine e_aload_n C dX8_reel_62 rfl rfl ?_
            refine e_iconst (v := (nI 0)) C dX8_reel_63 (by decide) ?_
            refine e_putI C dX8_reel_64 pX8_96 rfl rfl (by decide) (by decide) ?_
            refine e_nm (fun M3 hM3 => ?_)
            refine e_iconst (v := (nI 1)) C dX8_reel_67 (by decide) ?_
            have hs8 : Same [25, 26, 27] M M3 := by rw [hM3, hM2]; exact ((Same.tr (by rw [hM1]; exact (Same.rf _ M).I (by decide)) (hs9.up (by decide))).I (by decide)).I (by decide)
            have hr8 : ∀ j, j ≠ 26 → j ≠ 9 → gI M3 25 j = gI M 25 j := fun j h1 h2 => by rw [hM3, gI_sI, upd_n _ _ h2, hM2, gI_sI, upd_n _ _ h1, hs9.gI (by decide), hM1, gI_sI_ne _ _ (by decide)]
            have h26 : gI M3 26 = upd (gI M 26) r9 (nI x9) := by rw [hM3, gI_sI_ne _ _ (by decide), hM2, gI_sI_ne _ _ (by decide), hs9.gI (by decide), hM1, gI_sI]
            have h27 : gI M3 27 = gI M9 27 := by rw [hM3, gI_sI_ne _ _ (by decide), hM2, gI_sI_ne _ _ (by decide)]
            exact e_zret C dX8_reel_68 RT rfl ⟨Nat.zero_le _, Nat.zero_le _⟩ (rri (by rw [show spReel (n, P, cnt, k, W, pv, L, R, H, z, g, q) (nI r9) (nI x9) = _ from if_pos ⟨dec_t h4, dec_t h18⟩, tn_nI (q := r9) (by omega), tn_nI (q := x9) (by omega)]; rfl) (show RInv _ (va_up n r9 x9, blkP P r9, cnt, k, W, pv, L, R, H, z, 0, q) from ⟨⟨hS.blank (by omega) (by omega) h26 (fun j hj => by rw [h27]; exact hz9 j (by omega)) (fun j hj => by rw [h27, ho9 j hj, hM1, gI_sI_ne _ _ (by decide)]), hT.same (hr8 3 (by decide) (by decide)) (hs8.gI (by decide)) (hs8.gI (by decide)) (hs8.gI (by decide)) (hs8.gI (by decide)), by rw [hr8 8 (by decide) (by decide)]; exact hL, hL1, hL3⟩, hCt.same (hs8.gI (by decide)), .inl (by rw [hM3, gI_sI, upd_s]), hH.row (fun j _ _ => hr8 j (by omega) (by omega)), ⟨by rw [hM3, gI_sI, upd_n _ _ (by decide), hM2, gI_sI, upd_s], by omega, fun i hi => absurd hi (by omega)⟩, QOK.z⟩) (hs8.up (by decide)))
          · refine e_aload_n C dX8_reel_39 rfl rfl ?_
            refine e_getR (q := 27) C dX8_reel_40 fX8_13 rfl rfl ?_
            refine e_bipush (v := (nI 20)) C dX8_reel_43 (by decide) ?_
            refine e_iload_n C dX8_reel_45 rfl rfl ?_
            refine e_imulN C dX8_reel_46 ?_
            refine e_iload_n C dX8_reel_47 rfl rfl ?_
            refine e_iaddN C dX8_reel_48 ?_
            refine e_iconst (v := (nI 0)) C dX8_reel_49 (by decide) ?_
            refine e_iastoreN C dX8_reel_50 rfl (by omega) (by omega) ?_
            refine e_nm (fun M4 hM4 => ?_)
            refine e_iincN (lv2 := [(3, .int (nI (s + 1))), (0, .ref 25), (1, .int (nI r9)), (2, .int (nI x9))]) C dX8_reel_51 rfl (by decide) (nI_1 _) rfl ?_
            refine e_goto (tgt := 33) C dX8_reel_54 (by decide) ?_
            refine e_loc [1, 2, 3, 0] rfl ?_
            have hz2 : ∀ j, j < s + 1 → gI M4 27 (r9 * 20 + j) = nI 0 := fun j hj => by
              rw [hM4, gI_sI]
              by_cases e9 : j = s
              · subst e9; rw [show 20 * r9 + j = r9 * 20 + j by omega, upd_s]
              · rw [upd_n _ _ (by omega)]; exact hz9 j (by omega)
            exact ih_lp (20 - (s + 1)) (by omega) (s + 1) rfl M4 (by omega) hz2 (fun j hj => by rw [hM4, gI_sI, upd_n _ _ (by omega)]; exact ho9 j hj) (by rw [hM4]; exact hs9.I (by decide))
      exact lp 0 M1 (by omega) (fun j hj => absurd hj (by omega)) (fun _ _ => rfl) (Same.rf _ _)
    · refine e_bipush (v := (-2)) C dX8_reel_21 (by decide) ?_
      exact e_zret C dX8_reel_23 RT rfl ⟨Nat.zero_le _, Nat.zero_le _⟩ (rri (if_neg (fun h9 => dec_f h18 h9.2)) hI (Same.rf _ M))
theorem RtOK.add {M M2 : Mm} {k : Nat} {W : Nat → Nat → Int32} {pv : Nat → Nat} (h : RtOK M k W pv) {a b c : Int32} {v : Nat} (hk : k < 12) (hv : v ≤ 10000) (ha : okW a) (hb : okW b) (hc : okW c) (e0 : gI M2 25 3 = nI (k + 1)) (e1 : gI M2 29 = upd (gI M 29) k a) (e2 : gI M2 30 = upd (gI M 30) k b) (e3 : gI M2 31 = upd (gI M 31) k c) (e4 : gI M2 32 = upd (gI M 32) k (nI v)) : RtOK M2 (k + 1) (va_up W k (wsh a b c)) (va_up pv k v) := by
  obtain ⟨h1, h2, h3, h4, h5⟩ := h
  refine ⟨e0, by omega, fun i hi => ?_, fun i hi => ?_, fun i hi => ?_⟩
  · rw [e1, e2, e3, e4]
    by_cases e : i = k
    · subst e; refine ⟨?_, ?_, ?_, ?_⟩
      · rw [upd_s, up_s]; rfl
      · rw [upd_s, up_s]; rfl
      · rw [upd_s, up_s]; rfl
      · rw [upd_s, up_s]
    · simp only [upd_n _ _ e, up_n _ _ e]; exact h3 i (by omega)
  · by_cases e : i = k
    · subst e; rw [up_s]; exact hv
    · rw [up_n _ _ e]; exact h4 i (by omega)
  · by_cases e : i = k
    · subst e; rw [up_s]; exact ⟨ha, hb, hc⟩
    · rw [up_n _ _ e]; exact h5 i (by omega)
set_option maxHeartbeats 4000000 in
set_option maxRecDepth 100000 in
theorem q_pay {w : Bool} {M : Mm} {n P cnt : Nat → Nat} {k : Nat} {W : Nat → Nat → Int32} {pv : Nat → Nat} {L R H : Nat} {z : Nat → Int32} {g : Nat} {q : Nat → Nat → Nat} (hI : RInv M (n, P, cnt, k, W, pv, L, R, H, z, g, q))  (a b c v : Int32) : CT mX8_pay [.ref 25, .int a, .int b, .int c, .int v] (shF w) M (Qi (spPay (n, P, cnt, k, W, pv, L, R, H, z, g, q) a b c v).1 (shF w) (fun m0 => RInv m0 (spPay (n, P, cnt, k, W, pv, L, R, H, z, g, q) a b c v).2 ∧ FrR M m0)) := by
  refine CT.mk (lv := [(0, .ref 25), (1, .int a), (2, .int b), (3, .int c), (4, .int v)]) rfl (by decide +kernel) (Nat.le_of_ble_eq_true rfl) ?_
  intro X C RT
  obtain ⟨hB, hCt, hF, hH, hG, hQ⟩ := id hI
  obtain ⟨hS, hT, hL, hL1, hL3⟩ := id hB
  have n0 := hS.2.1 0 (by decide)
  have n1 := hS.2.1 1 (by decide)
  have n2 := hS.2.1 2 (by decide)
  have hk12 := hT.2.1
  refine e_iload_n C dX8_pay_0 rfl rfl ?_
  refine e_i2l C dX8_pay_1 ?_
  refine e_ldc2 (v := (-1)) C dX8_pay_2 kX8_106 ?_
  refine e_ldc2 (v := lN 7) C dX8_pay_5 kX8_104 ?_
  refine e_callSi C dX8_pay_8 [.long a.toInt64, .long (-1), .long (lN 7)] (r_inM a) okX8_in lX8_81 rfl ⟨rfl, rfl⟩ ⟨Nat.le_of_ble_eq_true rfl, Nat.le_of_ble_eq_true rfl⟩ (Nat.le_of_ble_eq_true rfl) ⟨Nat.zero_le _, Nat.zero_le _⟩ ?_
  refine e_if_eqB (b := decide (inn a (-1) 7)) (tgt := 55) C dX8_pay_11 (by decide) (fun h11 => ?_) (fun h11 => ?_)
  · refine e_bipush (v := (-2)) C dX8_pay_55 (by decide) ?_
    exact e_zret C dX8_pay_57 RT rfl ⟨Nat.zero_le _, Nat.zero_le _⟩ (rri (if_neg (fun h9 => dec_f h11 h9.1)) hI (Same.rf _ M))
  · refine e_iload_n C dX8_pay_14 rfl rfl ?_
    refine e_i2l C dX8_pay_15 ?_
    refine e_ldc2 (v := (-1)) C dX8_pay_16 kX8_106 ?_
    refine e_ldc2 (v := lN 7) C dX8_pay_19 kX8_104 ?_
    refine e_callSi C dX8_pay_22 [.long b.toInt64, .long (-1), .long (lN 7)] (r_inM b) okX8_in lX8_81 rfl ⟨rfl, rfl⟩ ⟨Nat.le_of_ble_eq_true rfl, Nat.le_of_ble_eq_true rfl⟩ (Nat.le_of_ble_eq_true rfl) ⟨Nat.zero_le _, Nat.zero_le _⟩ ?_
    refine e_if_eqB (b := decide (inn b (-1) 7)) (tgt := 55) C dX8_pay_25 (by decide) (fun h25 => ?_) (fun h25 => ?_)
    · refine e_bipush (v := (-2)) C dX8_pay_55 (by decide) ?_
      exact e_zret C dX8_pay_57 RT rfl ⟨Nat.zero_le _, Nat.zero_le _⟩ (rri (if_neg (fun h9 => dec_f h25 h9.2.1)) hI (Same.rf _ M))
    · refine e_iload_n C dX8_pay_28 rfl rfl ?_
      refine e_i2l C dX8_pay_29 ?_
      refine e_ldc2 (v := (-1)) C dX8_pay_30 kX8_106 ?_
      refine e_ldc2 (v := lN 7) C dX8_pay_33 kX8_104 ?_
      refine e_callSi C dX8_pay_36 [.long c.toInt64, .long (-1), .long (lN 7)] (r_inM c) okX8_in lX8_81 rfl ⟨rfl, rfl⟩ ⟨Nat.le_of_ble_eq_true rfl, Nat.le_of_ble_eq_true rfl⟩ (Nat.le_of_ble_eq_true rfl) ⟨Nat.zero_le _, Nat.zero_le _⟩ ?_
      refine e_if_eqB (b := decide (inn c (-1) 7)) (tgt := 55) C dX8_pay_39 (by decide) (fun h39 => ?_) (fun h39 => ?_)
      · refine e_bipush (v := (-2)) C dX8_pay_55 (by decide) ?_
        exact e_zret C dX8_pay_57 RT rfl ⟨Nat.zero_le _, Nat.zero_le _⟩ (rri (if_neg (fun h9 => dec_f h39 h9.2.2.1)) hI (Same.rf _ M))
      · refine e_iload C dX8_pay_42 rfl ?_
        refine e_i2l C dX8_pay_44 ?_
        refine e_lconst (v := lN 0) C dX8_pay_45 (by decide) ?_
        refine e_ldc2 (v := lN 10000) C dX8_pay_46 kX8_108 ?_
        refine e_callSi C dX8_pay_49 [.long v.toInt64, .long (lN 0), .long (lN 10000)] (r_inN v 0 10000 (by omega) (by omega)) okX8_in lX8_81 rfl ⟨rfl, rfl⟩ ⟨Nat.le_of_ble_eq_true rfl, Nat.le_of_ble_eq_true rfl⟩ (Nat.le_of_ble_eq_true rfl) ⟨Nat.zero_le _, Nat.zero_le _⟩ ?_
        refine e_if_neB (b := decide (inn v (0 : Nat) (10000 : Nat))) (tgt := 58) C dX8_pay_52 (by decide) (fun h52 => ?_) (fun h52 => ?_)
        · obtain ⟨v9, l_v9, u_v9, rfl⟩ := inn_N (b := 10000) (dec_t h52) (by decide)
          refine e_aload_n C dX8_pay_58 rfl rfl ?_
          refine e_getI C dX8_pay_59 fX8_110 rfl rfl ?_
          refine e_topi (nI k) hT.1 ?_
          refine e_bipush (v := (nI 12)) C dX8_pay_62 (by decide) ?_
          refine e_icmp_neN (tgt := 70) C dX8_pay_64 (by omega) (by omega) (by decide) (fun h64 => ?_) (fun h64 => ?_)
          · refine e_aload_n C dX8_pay_70 rfl rfl ?_
            refine e_getR (q := 29) C dX8_pay_71 fX8_19 rfl rfl ?_
            refine e_aload_n C dX8_pay_74 rfl rfl ?_
            refine e_getI C dX8_pay_75 fX8_110 rfl rfl ?_
            refine e_topi (nI k) hT.1 ?_
            refine e_iload_n C dX8_pay_78 rfl rfl ?_
            refine e_iastoreN C dX8_pay_79 rfl (by omega) (by omega) ?_
            refine e_nm (fun M1 hM1 => ?_)
            refine e_aload_n C dX8_pay_80 rfl rfl ?_
            refine e_getR (q := 30) C dX8_pay_81 fX8_22 rfl rfl ?_
            refine e_aload_n C dX8_pay_84 rfl rfl ?_
            refine e_getI C dX8_pay_85 fX8_110 rfl rfl ?_
            refine e_topi (nI k) (by rw [hM1, gI_sI_ne _ _ (by decide)]; exact hT.1) ?_
            refine e_iload_n C dX8_pay_88 rfl rfl ?_
            refine e_iastoreN C dX8_pay_89 rfl (by omega) (by omega) ?_
            refine e_nm (fun M2 hM2 => ?_)
            refine e_aload_n C dX8_pay_90 rfl rfl ?_
            refine e_getR (q := 31) C dX8_pay_91 fX8_25 rfl rfl ?_
            refine e_aload_n C dX8_pay_94 rfl rfl ?_
            refine e_getI C dX8_pay_95 fX8_110 rfl rfl ?_
            refine e_topi (nI k) (by rw [hM2, gI_sI_ne _ _ (by decide), hM1, gI_sI_ne _ _ (by decide)]; exact hT.1) ?_
            refine e_iload_n C dX8_pay_98 rfl rfl ?_
            refine e_iastoreN C dX8_pay_99 rfl (by omega) (by omega) ?_
            refine e_nm (fun M3 hM3 => ?_)
            refine e_aload_n C dX8_pay_100 rfl rfl ?_
            refine e_getR (q := 32) C dX8_pay_101 fX8_28 rfl rfl ?_
            refine e_aload_n C dX8_pay_104 rfl rfl ?_
            refine e_getI C dX8_pay_105 fX8_110 rfl rfl ?_
            refine e_topi (nI k) (by rw [hM3, gI_sI_ne _ _ (by decide), hM2, gI_sI_ne _ _ (by decide), hM1, gI_sI_ne _ _ (by decide)]; exact hT.1) ?_
            refine e_iload C dX8_pay_108 rfl ?_
            refine e_iastoreN C dX8_pay_110 rfl (by omega) (by omega) ?_
            refine e_nm (fun M4 hM4 => ?_)
            refine e_aload_n C dX8_pay_111 rfl rfl ?_
            refine e_dup C dX8_pay_112 rfl ?_
            refine e_getI C dX8_pay_113 fX8_110 rfl rfl ?_
            refine e_topi (nI k) (by rw [hM4, gI_sI_ne _ _ (by decide), hM3, gI_sI_ne _ _ (by decide), hM2, gI_sI_ne _ _ (by decide), hM1, gI_sI_ne _ _ (by decide)]; exact hT.1) ?_
            refine e_iconst (v := (nI 1)) C dX8_pay_116 (by decide) ?_
            refine e_iaddN C dX8_pay_117 ?_
            refine e_putI C dX8_pay_118 pX8_110 rfl rfl rfl rfl ?_
            refine e_nm (fun M5 hM5 => ?_)
            refine e_aload_n C dX8_pay_121 rfl rfl ?_
            refine e_iconst (v := (nI 0)) C dX8_pay_122 (by decide) ?_
            refine e_putI C dX8_pay_123 pX8_96 rfl rfl (by decide) (by decide) ?_
            refine e_nm (fun M6 hM6 => ?_)
            refine e_aload_n C dX8_pay_126 rfl rfl ?_
            refine e_getI C dX8_pay_127 fX8_110 rfl rfl ?_
            refine e_topi (nI (k + 1)) (by rw [hM6, gI_sI, upd_n _ _ (by decide), hM5, gI_sI, upd_s]) ?_
            refine e_iconst (v := (nI 1)) C dX8_pay_130 (by decide) ?_
            refine e_isubN C dX8_pay_131 (by omega) ?_
            have hs9 : Same [25, 29, 30, 31, 32] M M6 := by rw [hM6, hM5, hM4, hM3, hM2, hM1]; exact ((((((Same.rf _ M).I (by decide)).I (by decide)).I (by decide)).I (by decide)).I (by decide)).I (by decide)
            have hr9 : ∀ j, j ≠ 3 → j ≠ 9 → gI M6 25 j = gI M 25 j := fun j h1 h2 => by rw [hM6, gI_sI, upd_n _ _ h2, hM5, gI_sI, upd_n _ _ h1, hM4, gI_sI_ne _ _ (by decide), hM3, gI_sI_ne _ _ (by decide), hM2, gI_sI_ne _ _ (by decide), hM1, gI_sI_ne _ _ (by decide)]
            exact e_zret C dX8_pay_132 RT rfl ⟨Nat.zero_le _, Nat.zero_le _⟩ (rri ((if_pos ⟨dec_t h11, dec_t h25, dec_t h39, dec_t h52⟩).trans ((if_pos (show k < 12 by omega)).trans (by rw [tn_nI (q := v9) (by omega)]; rfl))) (show RInv _ (n, P, cnt, k + 1, va_up W k (wsh a b c), va_up pv k v9, L, R, H, z, g, q) from ⟨⟨hS.sm hs9 (by decide), hT.add (by omega) (by omega) (inn_W (dec_t h11)) (inn_W (dec_t h25)) (inn_W (dec_t h39)) (by rw [hM6, gI_sI, upd_n _ _ (by decide), hM5, gI_sI, upd_s]) (by rw [hM6, gI_sI_ne _ _ (by decide), hM5, gI_sI_ne _ _ (by decide), hM4, gI_sI_ne _ _ (by decide), hM3, gI_sI_ne _ _ (by decide), hM2, gI_sI_ne _ _ (by decide), hM1, gI_sI]) (by rw [hM6, gI_sI_ne _ _ (by decide), hM5, gI_sI_ne _ _ (by decide), hM4, gI_sI_ne _ _ (by decide), hM3, gI_sI_ne _ _ (by decide), hM2, gI_sI, hM1, gI_sI_ne _ _ (by decide)]) (by rw [hM6, gI_sI_ne _ _ (by decide), hM5, gI_sI_ne _ _ (by decide), hM4, gI_sI_ne _ _ (by decide), hM3, gI_sI, hM2, gI_sI_ne _ _ (by decide), hM1, gI_sI_ne _ _ (by decide)]) (by rw [hM6, gI_sI_ne _ _ (by decide), hM5, gI_sI_ne _ _ (by decide), hM4, gI_sI, hM3, gI_sI_ne _ _ (by decide), hM2, gI_sI_ne _ _ (by decide), hM1, gI_sI_ne _ _ (by decide)]), by rw [hr9 8 (by decide) (by decide)]; exact hL, hL1, hL3⟩, hCt.same (hs9.gI (by decide)), .inl (by rw [hM6, gI_sI, upd_s]), hH.row (fun j _ _ => hr9 j (by omega) (by omega)), hG.row (hr9 26 (by decide) (by decide)) (hs9.gI (by decide)), hQ⟩) (hs9.up (by decide)))
          · refine e_bipush (v := (-4)) C dX8_pay_67 (by decide) ?_
            exact e_zret C dX8_pay_69 RT rfl ⟨Nat.zero_le _, Nat.zero_le _⟩ (rri ((if_pos ⟨dec_t h11, dec_t h25, dec_t h39, dec_t h52⟩).trans (if_neg (by omega))) hI (Same.rf _ M))
        · refine e_bipush (v := (-2)) C dX8_pay_55 (by decide) ?_
          exact e_zret C dX8_pay_57 RT rfl ⟨Nat.zero_le _, Nat.zero_le _⟩ (rri (if_neg (fun h9 => dec_f h52 h9.2.2.2)) hI (Same.rf _ M))
theorem cntb_none {f : Nat → Bool} : ∀ {k : Nat}, (∀ i, i < k → f i = false) → cntb f k = 0
  | 0, _ => rfl
  | k + 1, h => by simp only [cntb]; rw [cntb_none (k := k) (fun i hi => h i (by omega)), h k (by omega)]; rfl
theorem bstH_ext {f : Nat → Nat} {m : Nat} (h : ∀ s, m < s → f s = 0) : ∀ d, bstH f (m + d) = bstH f m
  | 0 => rfl
  | d + 1 => by
    have e : bstH f (m + d + 1) = if f (bstH f (m + d)) < f (m + d + 1) then m + d + 1 else bstH f (m + d) := rfl
    show bstH f (m + d + 1) = _
    rw [e, bstH_ext h d, h (m + d + 1) (by omega), if_neg (by omega)]
theorem seC_z {n : Nat → Nat} {g : Nat} {q : Nat → Nat → Nat} (h : QOK n g q) {r s : Nat} (hr : r < 3) (hs : n r ≤ s) : seC g q r s = 0 := cntb_none (fun i hi => decide_eq_false (by have := h i hi r hr; omega))
theorem bst_19 {n : Nat → Nat} {g : Nat} {q : Nat → Nat → Nat} (h : QOK n g q) {r : Nat} (hr : r < 3) (hn : 4 ≤ n r ∧ n r ≤ 20) : bstH (seC g q r) 19 = bstH (seC g q r) (n r - 1) := by
  have h1 := bstH_ext (f := seC g q r) (m := n r - 1) (fun s hs => seC_z h hr (by omega)) (20 - n r)
  rw [show n r - 1 + (20 - n r) = 19 by omega] at h1
  exact h1
set_option maxHeartbeats 4000000 in
set_option maxRecDepth 100000 in
theorem r_timesSeen {w : Bool} {M : Mm} {n : Nat → Nat} {g : Nat} {q : Nat → Nat → Nat} (hG : RgOK M g q) (hQ : QOK n g q) (r : Nat) (hr : r < 3) (hn : 4 ≤ n r ∧ n r ≤ 20) (s : Nat) (hs : s < 2 ^ 31) : CT mX8_timesSeen [.ref 25, .int (nI r), .int (nI s)] (shF w) M (Pi (nI (seC g q r s)) (shF w) M) := by
  refine CT.mk (lv := [(0, .ref 25), (1, .int (nI r)), (2, .int (nI s))]) rfl (by decide +kernel) (Nat.le_of_ble_eq_true rfl) ?_
  intro X C RT
  have hg2 := hG.2.1
  refine e_iconst (v := (nI 0)) C dX8_timesSeen_0 (by decide) ?_
  refine e_istore_n (lv2 := [(3, .int (nI 0)), (0, .ref 25), (1, .int (nI r)), (2, .int (nI s))]) C dX8_timesSeen_1 rfl (by decide) rfl ?_
  refine e_iconst (v := (nI 0)) C dX8_timesSeen_2 (by decide) ?_
  refine e_istore (lv2 := [(4, .int (nI 0)), (3, .int (nI 0)), (0, .ref 25), (1, .int (nI r)), (2, .int (nI s))]) C dX8_timesSeen_3 (by decide) rfl ?_
  refine e_loc [2, 3, 4, 1, 0] rfl ?_
  have lp : ∀ (i : Nat) (x9 : Nat), i ≤ g → x9 = cntb (fun i => decide (q i r = s)) i → Wd X (0, 0) 5 [(0, .ref 25), (1, .int (nI r)), (2, .int (nI s)), (3, .int (nI x9)), (4, .int (nI i))] [] (shF w) M := by
    intro i
    induction hq_lp : g - i using Nat.strongRecOn generalizing i with
    | ind k_lp ih_lp =>
      intro x9 hi hx9
      refine e_iload C dX8_timesSeen_5 rfl ?_
      refine e_aload_n C dX8_timesSeen_7 rfl rfl ?_
      refine e_getI C dX8_timesSeen_8 fX8_93 rfl rfl ?_
      refine e_topi (nI g) hG.1 ?_
      refine e_icmp_geN (tgt := 43) C dX8_timesSeen_11 (by omega) (by omega) (by decide) (fun h11 => ?_) (fun h11 => ?_)
      · refine e_iload_n C dX8_timesSeen_43 rfl rfl ?_
        exact e_zret C dX8_timesSeen_44 RT rfl ⟨Nat.zero_le _, Nat.zero_le _⟩ (pi_ (congrArg nI (by rw [hx9, show i = g by omega]; rfl)))
      · have hq9 := hQ i (by omega) r hr
        refine e_iload_n C dX8_timesSeen_14 rfl rfl ?_
        refine e_aload_n C dX8_timesSeen_15 rfl rfl ?_
        refine e_getR (q := 40) C dX8_timesSeen_16 fX8_60 rfl rfl ?_
        refine e_iconst (v := (nI 3)) C dX8_timesSeen_19 (by decide) ?_
        refine e_iload C dX8_timesSeen_20 rfl ?_
        refine e_imulN C dX8_timesSeen_22 ?_
        refine e_iload_n C dX8_timesSeen_23 rfl rfl ?_
        refine e_iaddN C dX8_timesSeen_24 ?_
        refine e_ialoadN C dX8_timesSeen_25 rfl (by omega) (by omega) ?_
        refine e_topi (nI (q i r)) (hG.2.2 i (by omega) r hr) ?_
        refine e_iload_n C dX8_timesSeen_26 rfl rfl ?_
        refine e_icmp_neN (tgt := 34) C dX8_timesSeen_27 (by omega) (by omega) (by decide) (fun h27 => ?_) (fun h27 => ?_)
        · refine e_iconst (v := (nI 0)) C dX8_timesSeen_34 (by decide) ?_
          refine e_iaddN C dX8_timesSeen_35 ?_
          refine e_istore_n (lv2 := [(3, .int (nI (x9 + 0))), (0, .ref 25), (1, .int (nI r)), (2, .int (nI s)), (4, .int (nI i))]) C dX8_timesSeen_36 rfl (by decide) rfl ?_
          refine e_iincN (lv2 := [(4, .int (nI (i + 1))), (3, .int (nI (x9 + 0))), (0, .ref 25), (1, .int (nI r)), (2, .int (nI s))]) C dX8_timesSeen_37 rfl (by decide) (nI_1 _) rfl ?_
          refine e_goto (tgt := 5) C dX8_timesSeen_40 (by decide) ?_
          refine e_loc [2, 3, 4, 1, 0] rfl ?_
          exact ih_lp (g - (i + 1)) (by omega) (i + 1) rfl (x9 + 0) (by omega) (by show _ = cntb (fun i => decide (q i r = s)) (i + 1); unfold cntb; rw [← hx9]; simp [h27])
        · refine e_iconst (v := (nI 1)) C dX8_timesSeen_30 (by decide) ?_
          refine e_goto (tgt := 35) C dX8_timesSeen_31 (by decide) ?_
          refine e_iaddN C dX8_timesSeen_35 ?_
          refine e_istore_n (lv2 := [(3, .int (nI (x9 + 1))), (0, .ref 25), (1, .int (nI r)), (2, .int (nI s)), (4, .int (nI i))]) C dX8_timesSeen_36 rfl (by decide) rfl ?_
          refine e_iincN (lv2 := [(4, .int (nI (i + 1))), (3, .int (nI (x9 + 1))), (0, .ref 25), (1, .int (nI r)), (2, .int (nI s))]) C dX8_timesSeen_37 rfl (by decide) (nI_1 _) rfl ?_
          refine e_goto (tgt := 5) C dX8_timesSeen_40 (by decide) ?_
          refine e_loc [2, 3, 4, 1, 0] rfl ?_
          exact ih_lp (g - (i + 1)) (by omega) (i + 1) rfl (x9 + 1) (by omega) (by show _ = cntb (fun i => decide (q i r = s)) (i + 1); unfold cntb; rw [← hx9]; simp [h27])
  exact lp 0 0 (by omega) rfl
set_option maxHeartbeats 4000000 in
set_option maxRecDepth 100000 in
theorem r_favouredOf {w : Bool} {M : Mm} {P : Nat → Nat} {n : Nat → Nat} {g : Nat} {q : Nat → Nat → Nat} (hG : RgOK M g q) (hQ : QOK n g q) (r : Nat) (hr : r < 3) (hn : 4 ≤ n r ∧ n r ≤ 20) (hS : RsOK M n P) : CT mX8_favouredOf [.ref 25, .int (nI r)] (shF w) M (Pi (nI (bstH (seC g q r) 19)) (shF w) M) := by
  refine CT.mk (lv := [(0, .ref 25), (1, .int (nI r))]) rfl (by decide +kernel) (Nat.le_of_ble_eq_true rfl) ?_
  intro X C RT
  have hg2 := hG.2.1
  have hn9 := hn
  refine e_iconst (v := (nI 0)) C dX8_favouredOf_0 (by decide) ?_
  refine e_istore_n (lv2 := [(2, .int (nI 0)), (0, .ref 25), (1, .int (nI r))]) C dX8_favouredOf_1 rfl (by decide) rfl ?_
  refine e_iconst (v := (nI 1)) C dX8_favouredOf_2 (by decide) ?_
  refine e_istore_n (lv2 := [(3, .int (nI 1)), (2, .int (nI 0)), (0, .ref 25), (1, .int (nI r))]) C dX8_favouredOf_3 rfl (by decide) rfl ?_
  refine e_loc [2, 3, 1, 0] rfl ?_
  have lp : ∀ (j : Nat) (bb : Nat), j ≤ n r - 1 → bb = bstH (seC g q r) j → Wd X (0, 0) 4 [(0, .ref 25), (1, .int (nI r)), (2, .int (nI bb)), (3, .int (nI (j + 1)))] [] (shF w) M := by
    intro j
    induction hq_lp : n r - 1 - j using Nat.strongRecOn generalizing j with
    | ind k_lp ih_lp =>
      intro bb hj hb2
      have hbl := bstH_le (seC g q r) j
      refine e_iload_n C dX8_favouredOf_4 rfl rfl ?_
      refine e_aload_n C dX8_favouredOf_5 rfl rfl ?_
      refine e_getR (q := 26) C dX8_favouredOf_6 fX8_7 rfl rfl ?_
      refine e_iload_n C dX8_favouredOf_9 rfl rfl ?_
      refine e_ialoadN C dX8_favouredOf_10 rfl (by omega) (by omega) ?_
      refine e_topi (nI (n r)) (hS.1 r (by omega)) ?_
      refine e_icmp_geN (tgt := 41) C dX8_favouredOf_11 (by omega) (by omega) (by decide) (fun h11 => ?_) (fun h11 => ?_)
      · refine e_iload_n C dX8_favouredOf_41 rfl rfl ?_
        exact e_zret C dX8_favouredOf_42 RT rfl ⟨Nat.zero_le _, Nat.zero_le _⟩ (pi_ (congrArg nI (by rw [hb2, show j = n r - 1 by omega]; exact (bst_19 hQ hr hn).symm)))
      · refine e_aload_n C dX8_favouredOf_14 rfl rfl ?_
        refine e_iload_n C dX8_favouredOf_15 rfl rfl ?_
        refine e_iload_n C dX8_favouredOf_16 rfl rfl ?_
        have ht1 := seC_le g q r (j + 1)
        refine e_callVi C dX8_favouredOf_17 [.int (nI r), .int (nI (j + 1))] (r_timesSeen hG hQ r (by omega) hn9 (j + 1) (by omega)) okX8_timesSeen lX8_221 rfl rfl rfl ⟨rfl, rfl⟩ ⟨Nat.le_of_ble_eq_true rfl, Nat.le_of_ble_eq_true rfl⟩ (Nat.le_of_ble_eq_true rfl) ⟨Nat.zero_le _, Nat.zero_le _⟩ ?_
        refine e_aload_n C dX8_favouredOf_20 rfl rfl ?_
        refine e_iload_n C dX8_favouredOf_21 rfl rfl ?_
        refine e_iload_n C dX8_favouredOf_22 rfl rfl ?_
        have ht2 := seC_le g q r bb
        refine e_callVi C dX8_favouredOf_23 [.int (nI r), .int (nI bb)] (r_timesSeen hG hQ r (by omega) hn9 bb (by omega)) okX8_timesSeen lX8_221 rfl rfl rfl ⟨rfl, rfl⟩ ⟨Nat.le_of_ble_eq_true rfl, Nat.le_of_ble_eq_true rfl⟩ (Nat.le_of_ble_eq_true rfl) ⟨Nat.zero_le _, Nat.zero_le _⟩ ?_
        refine e_icmp_leN (tgt := 33) C dX8_favouredOf_26 (by omega) (by omega) (by decide) (fun h26 => ?_) (fun h26 => ?_)
        · refine e_iload_n C dX8_favouredOf_33 rfl rfl ?_
          refine e_istore_n (lv2 := [(2, .int (nI bb)), (0, .ref 25), (1, .int (nI r)), (3, .int (nI (j + 1)))]) C dX8_favouredOf_34 rfl (by decide) rfl ?_
          refine e_iincN (lv2 := [(3, .int (nI (j + 1 + 1))), (2, .int (nI bb)), (0, .ref 25), (1, .int (nI r))]) C dX8_favouredOf_35 rfl (by decide) (nI_1 _) rfl ?_
          refine e_goto (tgt := 4) C dX8_favouredOf_38 (by decide) ?_
          refine e_loc [2, 3, 1, 0] rfl ?_
          exact ih_lp (n r - 1 - (j + 1)) (by omega) (j + 1) rfl bb (by omega) (by show _ = bstH (seC g q r) (j + 1); unfold bstH; rw [← hb2, if_neg (by omega)])
        · refine e_iload_n C dX8_favouredOf_29 rfl rfl ?_
          refine e_goto (tgt := 34) C dX8_favouredOf_30 (by decide) ?_
          refine e_istore_n (lv2 := [(2, .int (nI (j + 1))), (0, .ref 25), (1, .int (nI r)), (3, .int (nI (j + 1)))]) C dX8_favouredOf_34 rfl (by decide) rfl ?_
          refine e_iincN (lv2 := [(3, .int (nI (j + 1 + 1))), (2, .int (nI (j + 1))), (0, .ref 25), (1, .int (nI r))]) C dX8_favouredOf_35 rfl (by decide) (nI_1 _) rfl ?_
          refine e_goto (tgt := 4) C dX8_favouredOf_38 (by decide) ?_
          refine e_loc [2, 3, 1, 0] rfl ?_
          exact ih_lp (n r - 1 - (j + 1)) (by omega) (j + 1) rfl (j + 1) (by omega) (by show _ = bstH (seC g q r) (j + 1); unfold bstH; rw [← hb2, if_pos (by omega)])
  exact lp 0 0 (by omega) rfl
set_option maxHeartbeats 4000000 in
set_option maxRecDepth 100000 in
theorem q_favoured {w : Bool} {M : Mm} {n P cnt : Nat → Nat} {k : Nat} {W : Nat → Nat → Int32} {pv : Nat → Nat} {L R H : Nat} {z : Nat → Int32} {g : Nat} {q : Nat → Nat → Nat} (hI : RInv M (n, P, cnt, k, W, pv, L, R, H, z, g, q))  (r : Int32) : CT mX8_favoured [.ref 25, .int r] (shF w) M (Qi (spFavoured (n, P, cnt, k, W, pv, L, R, H, z, g, q) r).1 (shF w) (fun m0 => RInv m0 (spFavoured (n, P, cnt, k, W, pv, L, R, H, z, g, q) r).2 ∧ FrR M m0)) := by
  refine CT.mk (lv := [(0, .ref 25), (1, .int r)]) rfl (by decide +kernel) (Nat.le_of_ble_eq_true rfl) ?_
  intro X C RT
  obtain ⟨hB, hCt, hF, hH, hG, hQ⟩ := id hI
  obtain ⟨hS, hT, hL, hL1, hL3⟩ := id hB
  have n0 := hS.2.1 0 (by decide)
  have n1 := hS.2.1 1 (by decide)
  have n2 := hS.2.1 2 (by decide)
  have hg2 := hG.2.1
  refine e_iload_n C dX8_favoured_0 rfl rfl ?_
  refine e_callSi C dX8_favoured_1 [.int r] (r_isReel r) okX8_isReel lX8_85 rfl ⟨rfl, rfl⟩ ⟨Nat.le_of_ble_eq_true rfl, Nat.le_of_ble_eq_true rfl⟩ (Nat.le_of_ble_eq_true rfl) ⟨Nat.zero_le _, Nat.zero_le _⟩ ?_
  refine e_if_neB (b := decide (inn r 0 2)) (tgt := 12) C dX8_favoured_4 (by decide) (fun h4 => ?_) (fun h4 => ?_)
  · obtain ⟨r9, l_r9, u_r9, rfl⟩ := inn_N (b := 2) (dec_t h4) (by decide)
    have hn9 := hS.2.1 r9 (by omega)
    refine e_aload_n C dX8_favoured_12 rfl rfl ?_
    refine e_getI C dX8_favoured_13 fX8_93 rfl rfl ?_
    refine e_topi (nI g) hG.1 ?_
    refine e_if_neN (tgt := 23) C dX8_favoured_16 (by omega) (by decide) (fun h16 => ?_) (fun h16 => ?_)
    · refine e_aload_n C dX8_favoured_23 rfl rfl ?_
      refine e_iload_n C dX8_favoured_24 rfl rfl ?_
      have hf1 := bstH_le (seC g q r9) 19
      refine e_callVi C dX8_favoured_25 [.int (nI r9)] (r_favouredOf hG hQ r9 (by omega) hn9 hS) okX8_favouredOf lX8_224 rfl rfl rfl ⟨rfl, rfl⟩ ⟨Nat.le_of_ble_eq_true rfl, Nat.le_of_ble_eq_true rfl⟩ (Nat.le_of_ble_eq_true rfl) ⟨Nat.zero_le _, Nat.zero_le _⟩ ?_
      exact e_zret C dX8_favoured_28 RT rfl ⟨Nat.zero_le _, Nat.zero_le _⟩ (rri ((if_pos (dec_t h4)).trans (by rw [tn_nI (q := r9) (by omega), if_neg h16])) hI (Same.rf _ M))
    · refine e_iconst (v := (-1)) C dX8_favoured_19 (by decide) ?_
      refine e_goto (tgt := 28) C dX8_favoured_20 (by decide) ?_
      exact e_zret C dX8_favoured_28 RT rfl ⟨Nat.zero_le _, Nat.zero_le _⟩ (rri ((if_pos (dec_t h4)).trans (by rw [tn_nI (q := r9) (by omega), if_pos h16])) hI (Same.rf _ M))
  · refine e_bipush (v := (-2)) C dX8_favoured_7 (by decide) ?_
    refine e_goto (tgt := 28) C dX8_favoured_9 (by decide) ?_
    exact e_zret C dX8_favoured_28 RT rfl ⟨Nat.zero_le _, Nat.zero_le _⟩ (rri (if_neg (fun h9 => dec_f h4 h9)) hI (Same.rf _ M))
def ordV (K s0 x0 y0 x y t : Nat) : Prop := x + y + t ≤ K ∧ (x + y + t < s0 ∨ (x + y + t = s0 ∧ (x < x0 ∨ (x = x0 ∧ y < y0))))
theorem NdI.newO {f : Nat → Nat → Nat → Nat} {K d0 d1 d2 : Nat} {bb : Int32} {ss cc : Nat} (h : NdI f (ordV K (d0 + d1 + d2) d0 d1) bb ss cc) (hs : d0 + d1 + d2 ≤ K) (hf : ∀ x y t, f x y t ≤ 30000) (hc : bb < nI (f d0 d1 d2)) : NdI f (ordV K (d0 + d1 + d2) d0 (d1 + 1)) (nI (f d0 d1 d2)) (d0 + d1 + d2) (100 * d0 + 10 * d1 + d2) := by
  refine Or.inr ⟨d0, d1, d2, ⟨hs, by omega⟩, rfl, rfl, rfl, fun x y t hv => ?_⟩
  have hfd := nI_toInt (n := f d0 d1 d2) (by have := hf d0 d1 d2; omega)
  by_cases e : x = d0 ∧ y = d1 ∧ t = d2
  · obtain ⟨rfl, rfl, rfl⟩ := e; unfold wrs; omega
  · have hv2 : ordV K (d0 + d1 + d2) d0 d1 x y t := by unfold ordV at hv ⊢; omega
    rcases h with ⟨_, h⟩ | ⟨u, v, s, h1, rfl, rfl, rfl, h5⟩
    · exact absurd hv2 (h x y t)
    · have h6 := h5 x y t hv2
      have hfb := nI_toInt (n := f u v s) (by have := hf u v s; omega)
      simp only [Int32.lt_iff_toInt_lt, hfd, hfb] at hc
      unfold wrs at h6 ⊢
      omega
theorem NdI.oldO {f : Nat → Nat → Nat → Nat} {K d0 d1 d2 : Nat} {bb : Int32} {ss cc : Nat} (h : NdI f (ordV K (d0 + d1 + d2) d0 d1) bb ss cc) (hf : ∀ x y t, f x y t ≤ 30000) (hc : ¬ bb < nI (f d0 d1 d2)) : NdI f (ordV K (d0 + d1 + d2) d0 (d1 + 1)) bb ss cc := by
  have hfd := nI_toInt (n := f d0 d1 d2) (by have := hf d0 d1 d2; omega)
  rcases h with ⟨rfl, _⟩ | ⟨u, v, s, h1, rfl, rfl, rfl, h5⟩
  · have e1 : (-1 : Int32).toInt = -1 := rfl
    simp only [Int32.lt_iff_toInt_lt, hfd, e1] at hc
    omega
  · have hfb := nI_toInt (n := f u v s) (by have := hf u v s; omega)
    simp only [Int32.lt_iff_toInt_lt, hfd, hfb] at hc
    refine Or.inr ⟨u, v, s, ⟨h1.1, by have := h1.2; omega⟩, rfl, rfl, rfl, fun x y t hv => ?_⟩
    by_cases e : x = d0 ∧ y = d1 ∧ t = d2
    · obtain ⟨rfl, rfl, rfl⟩ := e; have := h1.2; unfold wrs; omega
    · exact h5 x y t (by unfold ordV at hv ⊢; omega)
set_option maxHeartbeats 4000000 in
set_option maxRecDepth 100000 in
theorem q_nudge {w : Bool} {M : Mm} {n P cnt : Nat → Nat} {k : Nat} {W : Nat → Nat → Int32} {pv : Nat → Nat} {L R H : Nat} {z : Nat → Int32} {g : Nat} {q : Nat → Nat → Nat} (hI : RInv M (n, P, cnt, k, W, pv, L, R, H, z, g, q)) {d : Nat × Nat × Nat} (a b c x v : Int32) (hd : Bst (ndg n (EE n P k W pv L) (tn a) (tn b) (tn c)) (tn x) d) : CT mX8_nudge [.ref 25, .int a, .int b, .int c, .int x, .int v] (shF w) M (Qi (spNudge d (n, P, cnt, k, W, pv, L, R, H, z, g, q) a b c x v).1 (shF w) (fun m0 => RInv m0 (spNudge d (n, P, cnt, k, W, pv, L, R, H, z, g, q) a b c x v).2 ∧ FrR M m0)) := by
  refine CT.mk (lv := [(0, .ref 25), (1, .int a), (2, .int b), (3, .int c), (4, .int x), (5, .int v)]) rfl (by decide +kernel) (Nat.le_of_ble_eq_true rfl) ?_
  intro X C RT
  obtain ⟨hB, hCt, hF, hH, hG, hQ⟩ := id hI
  obtain ⟨hS, hT, hL, hL1, hL3⟩ := id hB
  have n0 := hS.2.1 0 (by decide)
  have n1 := hS.2.1 1 (by decide)
  have n2 := hS.2.1 2 (by decide)
  refine e_aload_n C dX8_nudge_0 rfl rfl ?_
  refine e_iload_n C dX8_nudge_1 rfl rfl ?_
  refine e_iload_n C dX8_nudge_2 rfl rfl ?_
  refine e_iload_n C dX8_nudge_3 rfl rfl ?_
  refine e_callVi C dX8_nudge_4 [.int a, .int b, .int c] (r_isEnding hS a b c) okX8_isEnding lX8_135 rfl rfl rfl ⟨rfl, rfl⟩ ⟨Nat.le_of_ble_eq_true rfl, Nat.le_of_ble_eq_true rfl⟩ (Nat.le_of_ble_eq_true rfl) ⟨Nat.zero_le _, Nat.zero_le _⟩ ?_
  refine e_if_eqB (b := hasEnd n a b c) (tgt := 34) C dX8_nudge_7 (by decide) (fun h7 => ?_) (fun h7 => ?_)
  · refine e_bipush (v := (-2)) C dX8_nudge_34 (by decide) ?_
    exact e_zret C dX8_nudge_36 RT rfl ⟨Nat.zero_le _, Nat.zero_le _⟩ (rri (if_neg (fun h8 => by rw [h7] at h8; exact absurd h8.1 (by decide))) hI (Same.rf _ M))
  · refine e_iload C dX8_nudge_10 rfl ?_
    refine e_i2l C dX8_nudge_12 ?_
    refine e_lconst (v := lN 0) C dX8_nudge_13 (by decide) ?_
    refine e_ldc2 (v := lN 6) C dX8_nudge_14 kX8_168 ?_
    refine e_callSi C dX8_nudge_17 [.long x.toInt64, .long (lN 0), .long (lN 6)] (r_inN x 0 6 (by omega) (by omega)) okX8_in lX8_81 rfl ⟨rfl, rfl⟩ ⟨Nat.le_of_ble_eq_true rfl, Nat.le_of_ble_eq_true rfl⟩ (Nat.le_of_ble_eq_true rfl) ⟨Nat.zero_le _, Nat.zero_le _⟩ ?_
    refine e_if_eqB (b := decide (inn x (0 : Nat) (6 : Nat))) (tgt := 34) C dX8_nudge_20 (by decide) (fun h20 => ?_) (fun h20 => ?_)
    · refine e_bipush (v := (-2)) C dX8_nudge_34 (by decide) ?_
      exact e_zret C dX8_nudge_36 RT rfl ⟨Nat.zero_le _, Nat.zero_le _⟩ (rri (if_neg (fun h9 => dec_f h20 h9.2.1)) hI (Same.rf _ M))
    · refine e_iload C dX8_nudge_23 rfl ?_
      refine e_i2l C dX8_nudge_25 ?_
      refine e_lconst (v := lN 0) C dX8_nudge_26 (by decide) ?_
      refine e_lconst (v := lN 1) C dX8_nudge_27 (by decide) ?_
      refine e_callSi C dX8_nudge_28 [.long v.toInt64, .long (lN 0), .long (lN 1)] (r_inN v 0 1 (by omega) (by omega)) okX8_in lX8_81 rfl ⟨rfl, rfl⟩ ⟨Nat.le_of_ble_eq_true rfl, Nat.le_of_ble_eq_true rfl⟩ (Nat.le_of_ble_eq_true rfl) ⟨Nat.zero_le _, Nat.zero_le _⟩ ?_
      refine e_if_neB (b := decide (inn v (0 : Nat) (1 : Nat))) (tgt := 37) C dX8_nudge_31 (by decide) (fun h31 => ?_) (fun h31 => ?_)
      · obtain ⟨a9, b9, c9, l_a, l_b, l_c, rfl, rfl, rfl⟩ := hasEnd_N h7
        obtain ⟨x9, l_x9, u_x9, rfl⟩ := inn_N (b := 6) (dec_t h20) (by decide)
        obtain ⟨v9, l_v9, u_v9, rfl⟩ := inn_N (b := 1) (dec_t h31) (by decide)
        rw [tn_nI (q := a9) (by omega), tn_nI (q := b9) (by omega), tn_nI (q := c9) (by omega), tn_nI (q := x9) (by omega)] at hd
        have hff : ∀ x y t, ndg n (EE n P k W pv L) a9 b9 c9 x y t ≤ 30000 := fun x y t => hB.le _ _ _
        have hz0 : (0 : Nat) < n 0 := by omega
        have hz1 : (0 : Nat) < n 1 := by omega
        have hz2 : (0 : Nat) < n 2 := by omega
        refine e_aload_n C dX8_nudge_37 rfl rfl ?_
        refine e_callVvQ C dX8_nudge_38 [] (r_layOut hB hF) okX8_layOut lX8_139 rfl rfl rfl ⟨rfl, rfl⟩ ⟨Nat.le_of_ble_eq_true rfl, Nat.le_of_ble_eq_true rfl⟩ (Nat.le_of_ble_eq_true rfl) ⟨Nat.zero_le _, Nat.zero_le _⟩ (fun M1 hM1 => ?_)
        obtain ⟨hI, hf9⟩ := RInv.lo hI hM1
        obtain ⟨hB, hCt, hF, hH, hG, hQ⟩ := id hI
        obtain ⟨hS, hT, hL, hL1, hL3⟩ := id hB
        have n0 := hS.2.1 0 (by decide)
        have n1 := hS.2.1 1 (by decide)
        have n2 := hS.2.1 2 (by decide)
        have hl := hM1.1
        refine e_iconst (v := (-1)) C dX8_nudge_41 (by decide) ?_
        refine e_istore (lv2 := [(6, .int (-1)), (0, .ref 25), (1, .int (nI a9)), (2, .int (nI b9)), (3, .int (nI c9)), (4, .int (nI x9)), (5, .int (nI v9))]) C dX8_nudge_42 (by decide) rfl ?_
        refine e_iconst (v := (nI 0)) C dX8_nudge_44 (by decide) ?_
        refine e_istore (lv2 := [(7, .int (nI 0)), (6, .int (-1)), (0, .ref 25), (1, .int (nI a9)), (2, .int (nI b9)), (3, .int (nI c9)), (4, .int (nI x9)), (5, .int (nI v9))]) C dX8_nudge_45 (by decide) rfl ?_
        refine e_iconst (v := (nI 0)) C dX8_nudge_47 (by decide) ?_
        refine e_istore (lv2 := [(8, .int (nI 0)), (7, .int (nI 0)), (6, .int (-1)), (0, .ref 25), (1, .int (nI a9)), (2, .int (nI b9)), (3, .int (nI c9)), (4, .int (nI x9)), (5, .int (nI v9))]) C dX8_nudge_48 (by decide) rfl ?_
        refine e_loc [3, 4, 5, 6, 7, 8, 2, 1, 0] rfl ?_
        have la : ∀ (s0 : Nat) (bb : Int32) (ss : Nat) (cc : Nat), s0 ≤ x9 + 1 → NdI (ndg n (EE n P k W pv L) a9 b9 c9) (ordV x9 s0 0 0) bb ss cc → Wd X (0, 0) 50 [(0, .ref 25), (1, .int (nI a9)), (2, .int (nI b9)), (3, .int (nI c9)), (4, .int (nI x9)), (5, .int (nI v9)), (6, .int bb), (7, .int (nI cc)), (8, .int (nI s0))] [] (shF w) M1 := by
          intro s0
          induction hq_la : x9 + 1 - s0 using Nat.strongRecOn generalizing s0 with
          | ind k_la ih_la =>
            intro bb ss cc hs hN
            refine e_iload C dX8_nudge_50 rfl ?_
            refine e_iload C dX8_nudge_52 rfl ?_
            refine e_icmp_gtN (tgt := 178) C dX8_nudge_54 (by omega) (by omega) (by decide) (fun h54 => ?_) (fun h54 => ?_)
            · have hs0 : s0 = x9 + 1 := by omega
              subst hs0
              obtain ⟨e_b, e_c⟩ := (hN.iff (V2 := lexV x9 (x9 + 1) 0 0) (fun x y t => by unfold ordV lexV; omega)).fin hd
              refine e_iload C dX8_nudge_178 rfl ?_
              refine e_if_neN (tgt := 188) C dX8_nudge_180 (by omega) (by decide) (fun h180 => ?_) (fun h180 => ?_)
              · refine e_iload C dX8_nudge_188 rfl ?_
                exact e_zret C dX8_nudge_190 RT rfl ⟨Nat.zero_le _, Nat.zero_le _⟩ (rri ((if_pos ⟨h7, dec_t h20, dec_t h31⟩).trans (by rw [tn_nI (q := a9) (by omega), tn_nI (q := b9) (by omega), tn_nI (q := c9) (by omega), if_neg (fun e => h180 ((i_eq (by omega)).mp e)), e_c])) hI hf9)
              · refine e_iload C dX8_nudge_183 rfl ?_
                refine e_goto (tgt := 190) C dX8_nudge_185 (by decide) ?_
                exact e_zret C dX8_nudge_190 RT rfl ⟨Nat.zero_le _, Nat.zero_le _⟩ (rri ((if_pos ⟨h7, dec_t h20, dec_t h31⟩).trans (by rw [tn_nI (q := a9) (by omega), tn_nI (q := b9) (by omega), tn_nI (q := c9) (by omega), if_pos ((i_eq (by omega)).mpr h180), e_b])) hI hf9)
            · refine e_iconst (v := (nI 0)) C dX8_nudge_57 (by decide) ?_
              refine e_istore (lv2 := [(9, .int (nI 0)), (0, .ref 25), (1, .int (nI a9)), (2, .int (nI b9)), (3, .int (nI c9)), (4, .int (nI x9)), (5, .int (nI v9)), (6, .int bb), (7, .int (nI cc)), (8, .int (nI s0))]) C dX8_nudge_58 (by decide) rfl ?_
              refine e_loc [1, 2, 3, 4, 5, 6, 7, 8, 9, 0] rfl ?_
              have lb : ∀ (d0 : Nat) (bb : Int32) (ss : Nat) (cc : Nat), d0 ≤ s0 + 1 → NdI (ndg n (EE n P k W pv L) a9 b9 c9) (ordV x9 s0 d0 0) bb ss cc → Wd X (0, 0) 60 [(0, .ref 25), (1, .int (nI a9)), (2, .int (nI b9)), (3, .int (nI c9)), (4, .int (nI x9)), (5, .int (nI v9)), (6, .int bb), (7, .int (nI cc)), (8, .int (nI s0)), (9, .int (nI d0))] [] (shF w) M1 := by
                intro d0
                induction hq_lb : s0 + 1 - d0 using Nat.strongRecOn generalizing d0 with
                | ind k_lb ih_lb =>
                  intro bb ss cc hd0 hN
                  refine e_iload C dX8_nudge_60 rfl ?_
                  refine e_iload C dX8_nudge_62 rfl ?_
                  refine e_icmp_gtN (tgt := 172) C dX8_nudge_64 (by omega) (by omega) (by decide) (fun h64 => ?_) (fun h64 => ?_)
                  · refine e_iincN (lv2 := [(8, .int (nI (s0 + 1))), (0, .ref 25), (1, .int (nI a9)), (2, .int (nI b9)), (3, .int (nI c9)), (4, .int (nI x9)), (5, .int (nI v9)), (6, .int bb), (7, .int (nI cc)), (9, .int (nI d0))]) C dX8_nudge_172 rfl (by decide) (nI_1 _) rfl ?_
                    refine e_goto (tgt := 50) C dX8_nudge_175 (by decide) ?_
                    refine e_loc [1, 2, 3, 4, 5, 6, 7, 8, 0] rfl ?_
                    exact ih_la (x9 + 1 - (s0 + 1)) (by omega) (s0 + 1) rfl bb ss cc (by omega) (hN.iff (fun x y t => by unfold ordV; omega))
                  · refine e_iconst (v := (nI 0)) C dX8_nudge_67 (by decide) ?_
                    refine e_istore (lv2 := [(10, .int (nI 0)), (0, .ref 25), (1, .int (nI a9)), (2, .int (nI b9)), (3, .int (nI c9)), (4, .int (nI x9)), (5, .int (nI v9)), (6, .int bb), (7, .int (nI cc)), (8, .int (nI s0)), (9, .int (nI d0))]) C dX8_nudge_68 (by decide) rfl ?_
                    refine e_loc [1, 2, 3, 4, 5, 6, 7, 8, 9, 10, 0] rfl ?_
                    have lc : ∀ (d1 : Nat) (bb : Int32) (ss : Nat) (cc : Nat), d0 + d1 ≤ s0 + 1 → NdI (ndg n (EE n P k W pv L) a9 b9 c9) (ordV x9 s0 d0 d1) bb ss cc → Wd X (0, 0) 70 [(0, .ref 25), (1, .int (nI a9)), (2, .int (nI b9)), (3, .int (nI c9)), (4, .int (nI x9)), (5, .int (nI v9)), (6, .int bb), (7, .int (nI cc)), (8, .int (nI s0)), (9, .int (nI d0)), (10, .int (nI d1))] [] (shF w) M1 := by
                      intro d1
                      induction hq_lc : s0 + 1 - (d0 + d1) using Nat.strongRecOn generalizing d1 with
                      | ind k_lc ih_lc =>
                        intro bb ss cc hd1 hN
                        refine e_iload C dX8_nudge_70 rfl ?_
                        refine e_iload C dX8_nudge_72 rfl ?_
                        refine e_iaddN C dX8_nudge_74 ?_
                        refine e_iload C dX8_nudge_75 rfl ?_
                        refine e_icmp_gtN (tgt := 166) C dX8_nudge_77 (by omega) (by omega) (by decide) (fun h77 => ?_) (fun h77 => ?_)
                        · refine e_iincN (lv2 := [(9, .int (nI (d0 + 1))), (0, .ref 25), (1, .int (nI a9)), (2, .int (nI b9)), (3, .int (nI c9)), (4, .int (nI x9)), (5, .int (nI v9)), (6, .int bb), (7, .int (nI cc)), (8, .int (nI s0)), (10, .int (nI d1))]) C dX8_nudge_166 rfl (by decide) (nI_1 _) rfl ?_
                          refine e_goto (tgt := 60) C dX8_nudge_169 (by decide) ?_
                          refine e_loc [1, 2, 3, 4, 5, 6, 7, 8, 9, 0] rfl ?_
                          exact ih_lb (s0 + 1 - (d0 + 1)) (by omega) (d0 + 1) rfl bb ss cc (by omega) (hN.iff (fun x y t => by unfold ordV; omega))
                        · have hm0 := Nat.mod_lt (a9 + d0) hz0
                          have hm1 := Nat.mod_lt (b9 + d1) hz1
                          have hm2 := Nat.mod_lt (c9 + (s0 - d0 - d1)) hz2
                          have hN8 : NdI (ndg n (EE n P k W pv L) a9 b9 c9) (ordV x9 (d0 + d1 + (s0 - d0 - d1)) d0 d1) bb ss cc := by rw [show d0 + d1 + (s0 - d0 - d1) = s0 by omega]; exact hN
                          refine e_iload C dX8_nudge_80 rfl ?_
                          refine e_iload C dX8_nudge_82 rfl ?_
                          refine e_isubN C dX8_nudge_84 (by omega) ?_
                          refine e_iload C dX8_nudge_85 rfl ?_
                          refine e_isubN C dX8_nudge_87 (by omega) ?_
                          refine e_istore (lv2 := [(11, .int (nI ((s0 - d0) - d1))), (0, .ref 25), (1, .int (nI a9)), (2, .int (nI b9)), (3, .int (nI c9)), (4, .int (nI x9)), (5, .int (nI v9)), (6, .int bb), (7, .int (nI cc)), (8, .int (nI s0)), (9, .int (nI d0)), (10, .int (nI d1))]) C dX8_nudge_88 (by decide) rfl ?_
                          refine e_aload_n C dX8_nudge_90 rfl rfl ?_
                          refine e_getR (q := 34) C dX8_nudge_91 fX8_38 rfl rfl ?_
                          refine e_iload_n C dX8_nudge_94 rfl rfl ?_
                          refine e_iload C dX8_nudge_95 rfl ?_
                          refine e_iaddN C dX8_nudge_97 ?_
                          refine e_aload_n C dX8_nudge_98 rfl rfl ?_
                          refine e_getR (q := 26) C dX8_nudge_99 fX8_7 rfl rfl ?_
                          refine e_iconst (v := (nI 0)) C dX8_nudge_102 (by decide) ?_
                          refine e_ialoadN C dX8_nudge_103 rfl (by omega) (by omega) ?_
                          refine e_topi (nI (n 0)) (hS.1 0 (by omega)) ?_
                          refine e_iremN C dX8_nudge_104 (by omega) (by omega) (by omega) ?_
                          refine e_iload_n C dX8_nudge_105 rfl rfl ?_
                          refine e_iload C dX8_nudge_106 rfl ?_
                          refine e_iaddN C dX8_nudge_108 ?_
                          refine e_aload_n C dX8_nudge_109 rfl rfl ?_
                          refine e_getR (q := 26) C dX8_nudge_110 fX8_7 rfl rfl ?_
                          refine e_iconst (v := (nI 1)) C dX8_nudge_113 (by decide) ?_
                          refine e_ialoadN C dX8_nudge_114 rfl (by omega) (by omega) ?_
                          refine e_topi (nI (n 1)) (hS.1 1 (by omega)) ?_
                          refine e_iremN C dX8_nudge_115 (by omega) (by omega) (by omega) ?_
                          refine e_iload_n C dX8_nudge_116 rfl rfl ?_
                          refine e_iload C dX8_nudge_117 rfl ?_
                          refine e_iaddN C dX8_nudge_119 ?_
                          refine e_aload_n C dX8_nudge_120 rfl rfl ?_
                          refine e_getR (q := 26) C dX8_nudge_121 fX8_7 rfl rfl ?_
                          refine e_iconst (v := (nI 2)) C dX8_nudge_124 (by decide) ?_
                          refine e_ialoadN C dX8_nudge_125 rfl (by omega) (by omega) ?_
                          refine e_topi (nI (n 2)) (hS.1 2 (by omega)) ?_
                          refine e_iremN C dX8_nudge_126 (by omega) (by omega) (by omega) ?_
                          refine e_callSi C dX8_nudge_127 [.int (nI ((a9 + d0) % (n 0))), .int (nI ((b9 + d1) % (n 1))), .int (nI ((c9 + ((s0 - d0) - d1)) % (n 2)))] (r_place ((a9 + d0) % (n 0)) ((b9 + d1) % (n 1)) ((c9 + ((s0 - d0) - d1)) % (n 2))) okX8_place lX8_132 rfl ⟨rfl, rfl⟩ ⟨Nat.le_of_ble_eq_true rfl, Nat.le_of_ble_eq_true rfl⟩ (Nat.le_of_ble_eq_true rfl) ⟨Nat.zero_le _, Nat.zero_le _⟩ ?_
                          refine e_ialoadN C dX8_nudge_130 rfl (by omega) (by omega) ?_
                          refine e_topi (nI (ndg n (EE n P k W pv L) a9 b9 c9 d0 d1 (s0 - d0 - d1))) (hl.2.1 _ (Nat.mod_lt _ hz0) _ (Nat.mod_lt _ hz1) _ (Nat.mod_lt _ hz2)) ?_
                          refine e_istore (lv2 := [(12, .int (nI (ndg n (EE n P k W pv L) a9 b9 c9 d0 d1 (s0 - d0 - d1)))), (11, .int (nI ((s0 - d0) - d1))), (0, .ref 25), (1, .int (nI a9)), (2, .int (nI b9)), (3, .int (nI c9)), (4, .int (nI x9)), (5, .int (nI v9)), (6, .int bb), (7, .int (nI cc)), (8, .int (nI s0)), (9, .int (nI d0)), (10, .int (nI d1))]) C dX8_nudge_131 (by decide) rfl ?_
                          refine e_iload C dX8_nudge_133 rfl ?_
                          refine e_iload C dX8_nudge_135 rfl ?_
                          refine e_icmp_le (x := (nI (ndg n (EE n P k W pv L) a9 b9 c9 d0 d1 (s0 - d0 - d1)))) (y := bb) (tgt := 160) C dX8_nudge_137 (by decide) (fun h137 => ?_) (fun h137 => ?_)
                          · refine e_iincN (lv2 := [(10, .int (nI (d1 + 1))), (12, .int (nI (ndg n (EE n P k W pv L) a9 b9 c9 d0 d1 (s0 - d0 - d1)))), (11, .int (nI ((s0 - d0) - d1))), (0, .ref 25), (1, .int (nI a9)), (2, .int (nI b9)), (3, .int (nI c9)), (4, .int (nI x9)), (5, .int (nI v9)), (6, .int bb), (7, .int (nI cc)), (8, .int (nI s0)), (9, .int (nI d0))]) C dX8_nudge_160 rfl (by decide) (nI_1 _) rfl ?_
                            refine e_goto (tgt := 70) C dX8_nudge_163 (by decide) ?_
                            refine e_loc [3, 4, 5, 6, 7, 8, 9, 10, 11, 12, 0] rfl ?_
                            exact ih_lc (s0 + 1 - (d0 + (d1 + 1))) (by omega) (d1 + 1) rfl bb ss cc (by omega) (by have h9 := hN8.oldO hff (fun h => absurd h (Int32.not_lt.mpr h137)); rw [show d0 + d1 + (s0 - d0 - d1) = s0 by omega] at h9; exact h9)
                          · refine e_iload C dX8_nudge_140 rfl ?_
                            refine e_istore (lv2 := [(6, .int (nI (ndg n (EE n P k W pv L) a9 b9 c9 d0 d1 (s0 - d0 - d1)))), (12, .int (nI (ndg n (EE n P k W pv L) a9 b9 c9 d0 d1 (s0 - d0 - d1)))), (11, .int (nI ((s0 - d0) - d1))), (0, .ref 25), (1, .int (nI a9)), (2, .int (nI b9)), (3, .int (nI c9)), (4, .int (nI x9)), (5, .int (nI v9)), (7, .int (nI cc)), (8, .int (nI s0)), (9, .int (nI d0)), (10, .int (nI d1))]) C dX8_nudge_142 (by decide) rfl ?_
                            refine e_bipush (v := (nI 100)) C dX8_nudge_144 (by decide) ?_
                            refine e_iload C dX8_nudge_146 rfl ?_
                            refine e_imulN C dX8_nudge_148 ?_
                            refine e_bipush (v := (nI 10)) C dX8_nudge_149 (by decide) ?_
                            refine e_iload C dX8_nudge_151 rfl ?_
                            refine e_imulN C dX8_nudge_153 ?_
                            refine e_iaddN C dX8_nudge_154 ?_
                            refine e_iload C dX8_nudge_155 rfl ?_
                            refine e_iaddN C dX8_nudge_157 ?_
                            refine e_istore (lv2 := [(7, .int (nI (100 * d0 + (10 * d1) + ((s0 - d0) - d1)))), (6, .int (nI (ndg n (EE n P k W pv L) a9 b9 c9 d0 d1 (s0 - d0 - d1)))), (12, .int (nI (ndg n (EE n P k W pv L) a9 b9 c9 d0 d1 (s0 - d0 - d1)))), (11, .int (nI ((s0 - d0) - d1))), (0, .ref 25), (1, .int (nI a9)), (2, .int (nI b9)), (3, .int (nI c9)), (4, .int (nI x9)), (5, .int (nI v9)), (8, .int (nI s0)), (9, .int (nI d0)), (10, .int (nI d1))]) C dX8_nudge_158 (by decide) rfl ?_
                            refine e_iincN (lv2 := [(10, .int (nI (d1 + 1))), (7, .int (nI (100 * d0 + (10 * d1) + ((s0 - d0) - d1)))), (6, .int (nI (ndg n (EE n P k W pv L) a9 b9 c9 d0 d1 (s0 - d0 - d1)))), (12, .int (nI (ndg n (EE n P k W pv L) a9 b9 c9 d0 d1 (s0 - d0 - d1)))), (11, .int (nI ((s0 - d0) - d1))), (0, .ref 25), (1, .int (nI a9)), (2, .int (nI b9)), (3, .int (nI c9)), (4, .int (nI x9)), (5, .int (nI v9)), (8, .int (nI s0)), (9, .int (nI d0))]) C dX8_nudge_160 rfl (by decide) (nI_1 _) rfl ?_
                            refine e_goto (tgt := 70) C dX8_nudge_163 (by decide) ?_
                            refine e_loc [5, 6, 7, 8, 9, 10, 2, 1, 11, 12, 0] rfl ?_
                            exact ih_lc (s0 + 1 - (d0 + (d1 + 1))) (by omega) (d1 + 1) rfl (nI (ndg n (EE n P k W pv L) a9 b9 c9 d0 d1 (s0 - d0 - d1))) s0 (100 * d0 + 10 * d1 + (s0 - d0 - d1)) (by omega) (by have h9 := hN8.newO (by omega) hff (Int32.not_le.mp h137); rw [show d0 + d1 + (s0 - d0 - d1) = s0 by omega] at h9; exact h9)
                    exact lc 0 bb ss cc (by omega) hN
              exact lb 0 bb ss cc (by omega) hN
        exact la 0 (-1) 0 0 (by omega) (Or.inl ⟨rfl, fun x y t h => by unfold ordV at h; omega⟩)
      · refine e_bipush (v := (-2)) C dX8_nudge_34 (by decide) ?_
        exact e_zret C dX8_nudge_36 RT rfl ⟨Nat.zero_le _, Nat.zero_le _⟩ (rri (if_neg (fun h9 => dec_f h31 h9.2.2)) hI (Same.rf _ M))
