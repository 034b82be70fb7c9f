theorem RlF.mv {ks : List Nat} {M M2 : Mm} {n : Nat → Nat} {k : Nat} {W : Nat → Nat → Int32} {pv : Nat → Nat} {E : Nat → Nat → Nat → Nat} (h : RlF M n k W pv E) (hs : Same ks M M2) (hk : (34 ∉ ks ∧ 35 ∉ ks ∧ 36 ∉ ks) ∧ 37 ∉ ks ∧ 38 ∉ ks) (e9 : gI M2 25 9 = gI M 25 9) (e15 : gI M2 25 15 = gI M 25 15) (eJ : gJ M2 25 = gJ M 25) : RlF M2 n k W pv E := by
  rcases h with h | ⟨h, h2⟩
  · exact .inl (by rw [e9]; exact h)
  · exact .inr ⟨by rw [e9]; exact h, h2.same (hs.gI hk.1.2.2) (hs.gI hk.1.2.1) (hs.gI hk.1.1) eJ e15 (hs.gJ hk.2.1) (hs.gJ hk.2.2)⟩
theorem RsOK.put {M M2 : Mm} {n P : Nat → Nat} (h : RsOK M n P) {r s p : Nat} (hr : r < 3) (hs : s < n r) (hp : p < 8) (e1 : gI M2 26 = gI M 26) (e2 : gI M2 27 = upd (gI M 27) (r * 20 + s) (nI p)) : RsOK M2 n (va_up P (r * 20 + s) p) := by
  obtain ⟨h1, h2, h3, h4⟩ := h
  refine ⟨by rw [e1]; exact h1, h2, fun x hx t ht => ?_, fun i => ?_⟩
  · rw [e2]
    by_cases e : x * 20 + t = r * 20 + s
    · rw [e, upd_s, up_s]
    · rw [upd_n _ _ e, up_n _ _ e]; exact h3 x hx t ht
  · by_cases e : i = r * 20 + s
    · subst e; rw [up_s]; exact hp
    · rw [up_n _ _ e]; exact h4 i
theorem RsOK.blank {M M2 : Mm} {n P : Nat → Nat} (h : RsOK M n P) {r x : Nat} (hr : r < 3) (hx : 4 ≤ x ∧ x ≤ 20) (e1 : gI M2 26 = upd (gI M 26) r (nI x)) (e2 : ∀ j, j < 20 → gI M2 27 (r * 20 + j) = nI 0) (e3 : ∀ j, (j < r * 20 ∨ r * 20 + 20 ≤ j) → gI M2 27 j = gI M 27 j) : RsOK M2 (va_up n r x) (blkP P r) := by
  obtain ⟨h1, h2, h3, h4⟩ := h
  refine ⟨fun y hy => ?_, fun y hy => ?_, fun y hy t ht => ?_, fun i => ?_⟩
  · rw [e1]
    by_cases e : y = r
    · subst e; rw [upd_s, up_s]
    · rw [upd_n _ _ e, up_n _ _ e]; exact h1 y hy
  · by_cases e : y = r
    · subst e; rw [up_s]; exact hx
    · rw [up_n _ _ e]; exact h2 y hy
  · by_cases e : y = r
    · subst e; rw [up_s] at ht; rw [e2 t (by omega)]; unfold blkP; rw [if_pos (by omega)]
    · rw [up_n _ _ e] at ht
      have h20 := (h2 y hy).2
      rw [e3 _ (by omega)]; unfold blkP; rw [if_neg (by omega)]; exact h3 y hy t ht
  · unfold blkP; split
    · decide
    · exact h4 i
theorem RcOK.put {M M2 : Mm} {cnt : Nat → Nat} (h : RcOK M cnt) {p m : Nat} (hm : m ≤ 20) (e : gI M2 28 = upd (gI M 28) p (nI m)) : RcOK M2 (va_up cnt p m) := by
  intro i hi
  rw [e]
  by_cases e : i = p
  · subst e; rw [upd_s, up_s]; exact ⟨rfl, hm⟩
  · rw [upd_n _ _ e, up_n _ _ e]; exact h i hi
set_option maxHeartbeats 4000000 in
set_option maxRecDepth 100000 in
theorem q_at {w : Bool} {M : Mm} {n P cnt : Nat → Nat} {k : Nat} {W : Nat → Nat → Int32} {pv : Nat → Nat} {L R H : Nat} {z : Nat → Int32} {g : Nat} {q : Nat → Nat → Nat} (hI : RInv M (n, P, cnt, k, W, pv, L, R, H, z, g, q))  (r s : Int32) : CT mX8_at [.ref 25, .int r, .int s] (shF w) M (Qi (spAt (n, P, cnt, k, W, pv, L, R, H, z, g, q) r s).1 (shF w) (fun m0 => RInv m0 (spAt (n, P, cnt, k, W, pv, L, R, H, z, g, q) r s).2 ∧ FrR M m0)) := by
  refine CT.mk (lv := [(0, .ref 25), (1, .int r), (2, .int s)]) rfl (by decide +kernel) (Nat.le_of_ble_eq_true rfl) ?_
  intro X C RT
  obtain ⟨hB, hCt, hF, hH, hG, hQ⟩ := id hI
  obtain ⟨hS, hT, hL, hL1, hL3⟩ := id hB
  have n0 := hS.2.1 0 (by decide)
  have n1 := hS.2.1 1 (by decide)
  have n2 := hS.2.1 2 (by decide)
  refine e_aload_n C dX8_at_0 rfl rfl ?_
  refine e_iload_n C dX8_at_1 rfl rfl ?_
  refine e_iload_n C dX8_at_2 rfl rfl ?_
  refine e_callVi C dX8_at_3 [.int r, .int s] (r_isStop hS r s) okX8_isStop lX8_100 rfl rfl rfl ⟨rfl, rfl⟩ ⟨Nat.le_of_ble_eq_true rfl, Nat.le_of_ble_eq_true rfl⟩ (Nat.le_of_ble_eq_true rfl) ⟨Nat.zero_le _, Nat.zero_le _⟩ ?_
  refine e_if_eqB (b := hasSt n r s) (tgt := 23) C dX8_at_6 (by decide) (fun h6 => ?_) (fun h6 => ?_)
  · refine e_bipush (v := (-2)) C dX8_at_23 (by decide) ?_
    exact e_zret C dX8_at_25 RT rfl ⟨Nat.zero_le _, Nat.zero_le _⟩ (rri (if_neg (fun h8 => by rw [h6] at h8; exact absurd h8 (by decide))) hI (Same.rf _ M))
  · obtain ⟨r9, s9, l_r, l_s, rfl, rfl⟩ := hasSt_N h6
    have hn9 := hS.2.1 r9 l_r
    refine e_aload_n C dX8_at_9 rfl rfl ?_
    refine e_getR (q := 27) C dX8_at_10 fX8_13 rfl rfl ?_
    refine e_bipush (v := (nI 20)) C dX8_at_13 (by decide) ?_
    refine e_iload_n C dX8_at_15 rfl rfl ?_
    refine e_imulN C dX8_at_16 ?_
    refine e_iload_n C dX8_at_17 rfl rfl ?_
    refine e_iaddN C dX8_at_18 ?_
    refine e_ialoadN C dX8_at_19 rfl (by omega) (by omega) ?_
    refine e_topi (nI (P (r9 * 20 + s9))) (by rw [show 20 * r9 + s9 = r9 * 20 + s9 by omega]; exact hS.2.2.1 r9 l_r s9 l_s) ?_
    refine e_goto (tgt := 25) C dX8_at_20 (by decide) ?_
    exact e_zret C dX8_at_25 RT rfl ⟨Nat.zero_le _, Nat.zero_le _⟩ (rri (by rw [show spAt (n, P, cnt, k, W, pv, L, R, H, z, g, q) (nI r9) (nI s9) = _ from if_pos h6, tn_nI (q := r9) (by omega), tn_nI (q := s9) (by omega)]) (show RInv _ (n, P, cnt, k, W, pv, L, R, H, z, g, q) from hI) (Same.rf _ M))
set_option maxHeartbeats 4000000 in
set_option maxRecDepth 100000 in
theorem q_picture {w : Bool} {M : Mm} {n P cnt : Nat → Nat} {k : Nat} {W : Nat → Nat → Int32} {pv : Nat → Nat} {L R H : Nat} {z : Nat → Int32} {g : Nat} {q : Nat → Nat → Nat} (hI : RInv M (n, P, cnt, k, W, pv, L, R, H, z, g, q))  (r s p : Int32) : CT mX8_picture [.ref 25, .int r, .int s, .int p] (shF w) M (Qi (spPicture (n, P, cnt, k, W, pv, L, R, H, z, g, q) r s p).1 (shF w) (fun m0 => RInv m0 (spPicture (n, P, cnt, k, W, pv, L, R, H, z, g, q) r s p).2 ∧ FrR M m0)) := by
  refine CT.mk (lv := [(0, .ref 25), (1, .int r), (2, .int s), (3, .int p)]) rfl (by decide +kernel) (Nat.le_of_ble_eq_true rfl) ?_
  intro X C RT
  obtain ⟨hB, hCt, hF, hH, hG, hQ⟩ := id hI
  obtain ⟨hS, hT, hL, hL1, hL3⟩ := id hB
  have n0 := hS.2.1 0 (by decide)
  have n1 := hS.2.1 1 (by decide)
  have n2 := hS.2.1 2 (by decide)
  refine e_aload_n C dX8_picture_0 rfl rfl ?_
  refine e_iload_n C dX8_picture_1 rfl rfl ?_
  refine e_iload_n C dX8_picture_2 rfl rfl ?_
  refine e_callVi C dX8_picture_3 [.int r, .int s] (r_isStop hS r s) okX8_isStop lX8_100 rfl rfl rfl ⟨rfl, rfl⟩ ⟨Nat.le_of_ble_eq_true rfl, Nat.le_of_ble_eq_true rfl⟩ (Nat.le_of_ble_eq_true rfl) ⟨Nat.zero_le _, Nat.zero_le _⟩ ?_
  refine e_if_eqB (b := hasSt n r s) (tgt := 21) C dX8_picture_6 (by decide) (fun h6 => ?_) (fun h6 => ?_)
  · refine e_bipush (v := (-2)) C dX8_picture_21 (by decide) ?_
    exact e_zret C dX8_picture_23 RT rfl ⟨Nat.zero_le _, Nat.zero_le _⟩ (rri (if_neg (fun h8 => by rw [h6] at h8; exact absurd h8.1 (by decide))) hI (Same.rf _ M))
  · refine e_iload_n C dX8_picture_9 rfl rfl ?_
    refine e_i2l C dX8_picture_10 ?_
    refine e_lconst (v := lN 0) C dX8_picture_11 (by decide) ?_
    refine e_ldc2 (v := lN 7) C dX8_picture_12 kX8_104 ?_
    refine e_callSi C dX8_picture_15 [.long p.toInt64, .long (lN 0), .long (lN 7)] (r_inN p 0 7 (by omega) (by omega)) okX8_in lX8_81 rfl ⟨rfl, rfl⟩ ⟨Nat.le_of_ble_eq_true rfl, Nat.le_of_ble_eq_true rfl⟩ (Nat.le_of_ble_eq_true rfl) ⟨Nat.zero_le _, Nat.zero_le _⟩ ?_
    refine e_if_neB (b := decide (inn p (0 : Nat) (7 : Nat))) (tgt := 24) C dX8_picture_18 (by decide) (fun h18 => ?_) (fun h18 => ?_)
    · obtain ⟨r9, s9, l_r, l_s, rfl, rfl⟩ := hasSt_N h6
      have hn9 := hS.2.1 r9 l_r
      obtain ⟨p9, l_p9, u_p9, rfl⟩ := inn_N (b := 7) (dec_t h18) (by decide)
      refine e_aload_n C dX8_picture_24 rfl rfl ?_
      refine e_getR (q := 27) C dX8_picture_25 fX8_13 rfl rfl ?_
      refine e_bipush (v := (nI 20)) C dX8_picture_28 (by decide) ?_
      refine e_iload_n C dX8_picture_30 rfl rfl ?_
      refine e_imulN C dX8_picture_31 ?_
      refine e_iload_n C dX8_picture_32 rfl rfl ?_
      refine e_iaddN C dX8_picture_33 ?_
      refine e_ialoadN C dX8_picture_34 rfl (by omega) (by omega) ?_
      refine e_topi (nI (P (r9 * 20 + s9))) (by rw [show 20 * r9 + s9 = r9 * 20 + s9 by omega]; exact hS.2.2.1 r9 l_r s9 l_s) ?_
      refine e_istore (lv2 := [(4, .int (nI (P (r9 * 20 + s9)))), (0, .ref 25), (1, .int (nI r9)), (2, .int (nI s9)), (3, .int (nI p9))]) C dX8_picture_35 (by decide) rfl ?_
      refine e_aload_n C dX8_picture_37 rfl rfl ?_
      refine e_getR (q := 27) C dX8_picture_38 fX8_13 rfl rfl ?_
      refine e_bipush (v := (nI 20)) C dX8_picture_41 (by decide) ?_
      refine e_iload_n C dX8_picture_43 rfl rfl ?_
      refine e_imulN C dX8_picture_44 ?_
      refine e_iload_n C dX8_picture_45 rfl rfl ?_
      refine e_iaddN C dX8_picture_46 ?_
      refine e_iload_n C dX8_picture_47 rfl rfl ?_
      refine e_iastoreN C dX8_picture_48 rfl (by omega) (by omega) ?_
      refine e_nm (fun M1 hM1 => ?_)
      refine e_aload_n C dX8_picture_49 rfl rfl ?_
      refine e_iconst (v := (nI 0)) C dX8_picture_50 (by decide) ?_
      refine e_putI C dX8_picture_51 pX8_96 rfl rfl (by decide) (by decide) ?_
      refine e_nm (fun M2 hM2 => ?_)
      refine e_iload C dX8_picture_54 rfl ?_
      have hs9 : Same [25, 27] M M2 := by rw [hM2, hM1]; exact ((Same.rf _ M).I (by decide)).I (by decide)
      have hr9 : ∀ j, j ≠ 9 → gI M2 25 j = gI M 25 j := fun j hj => by rw [hM2, gI_sI, upd_n _ _ hj, hM1, gI_sI_ne _ _ (by decide)]
      exact e_zret C dX8_picture_56 RT rfl ⟨Nat.zero_le _, Nat.zero_le _⟩ (rri (by rw [show spPicture (n, P, cnt, k, W, pv, L, R, H, z, g, q) (nI r9) (nI s9) (nI p9) = _ from if_pos ⟨h6, dec_t h18⟩, tn_nI (q := r9) (by omega), tn_nI (q := s9) (by omega), tn_nI (q := p9) (by omega)]) (show RInv _ (n, va_up P (r9 * 20 + s9) p9, cnt, k, W, pv, L, R, H, z, g, q) from ⟨⟨hS.put l_r l_s (by omega) (hs9.gI (by decide)) (by rw [hM2, gI_sI_ne _ _ (by decide), hM1, gI_sI, show 20 * r9 + s9 = r9 * 20 + s9 by omega]), hT.same (hr9 3 (by decide)) (hs9.gI (by decide)) (hs9.gI (by decide)) (hs9.gI (by decide)) (hs9.gI (by decide)), by rw [hr9 8 (by decide)]; exact hL, hL1, hL3⟩, hCt.same (hs9.gI (by decide)), .inl (by rw [hM2, gI_sI, upd_s]), hH.row (fun j _ _ => hr9 j (by omega)), hG.row (hr9 26 (by decide)) (hs9.gI (by decide)), hQ⟩) (hs9.up (by decide)))
    · refine e_bipush (v := (-2)) C dX8_picture_21 (by decide) ?_
      exact e_zret C dX8_picture_23 RT rfl ⟨Nat.zero_le _, Nat.zero_le _⟩ (rri (if_neg (fun h9 => dec_f h18 h9.2)) hI (Same.rf _ M))
set_option maxHeartbeats 4000000 in
set_option maxRecDepth 100000 in
theorem q_count {w : Bool} {M : Mm} {n P cnt : Nat → Nat} {k : Nat} {W : Nat → Nat → Int32} {pv : Nat → Nat} {L R H : Nat} {z : Nat → Int32} {g : Nat} {q : Nat → Nat → Nat} (hI : RInv M (n, P, cnt, k, W, pv, L, R, H, z, g, q))  (p m : Int32) : CT mX8_count [.ref 25, .int p, .int m] (shF w) M (Qi (spCount (n, P, cnt, k, W, pv, L, R, H, z, g, q) p m).1 (shF w) (fun m0 => RInv m0 (spCount (n, P, cnt, k, W, pv, L, R, H, z, g, q) p m).2 ∧ FrR M m0)) := by
  refine CT.mk (lv := [(0, .ref 25), (1, .int p), (2, .int m)]) rfl (by decide +kernel) (Nat.le_of_ble_eq_true rfl) ?_
  intro X C RT
  obtain ⟨hB, hCt, hF, hH, hG, hQ⟩ := id hI
  obtain ⟨hS, hT, hL, hL1, hL3⟩ := id hB
  have n0 := hS.2.1 0 (by decide)
  have n1 := hS.2.1 1 (by decide)
  have n2 := hS.2.1 2 (by decide)
  refine e_iload_n C dX8_count_0 rfl rfl ?_
  refine e_i2l C dX8_count_1 ?_
  refine e_lconst (v := lN 0) C dX8_count_2 (by decide) ?_
  refine e_ldc2 (v := lN 7) C dX8_count_3 kX8_104 ?_
  refine e_callSi C dX8_count_6 [.long p.toInt64, .long (lN 0), .long (lN 7)] (r_inN p 0 7 (by omega) (by omega)) okX8_in lX8_81 rfl ⟨rfl, rfl⟩ ⟨Nat.le_of_ble_eq_true rfl, Nat.le_of_ble_eq_true rfl⟩ (Nat.le_of_ble_eq_true rfl) ⟨Nat.zero_le _, Nat.zero_le _⟩ ?_
  refine e_if_eqB (b := decide (inn p (0 : Nat) (7 : Nat))) (tgt := 24) C dX8_count_9 (by decide) (fun h9 => ?_) (fun h9 => ?_)
  · refine e_bipush (v := (-2)) C dX8_count_24 (by decide) ?_
    exact e_zret C dX8_count_26 RT rfl ⟨Nat.zero_le _, Nat.zero_le _⟩ (rri (if_neg (fun h8 => dec_f h9 h8.1)) hI (Same.rf _ M))
  · refine e_iload_n C dX8_count_12 rfl rfl ?_
    refine e_i2l C dX8_count_13 ?_
    refine e_lconst (v := lN 0) C dX8_count_14 (by decide) ?_
    refine e_ldc2 (v := lN 20) C dX8_count_15 kX8_91 ?_
    refine e_callSi C dX8_count_18 [.long m.toInt64, .long (lN 0), .long (lN 20)] (r_inN m 0 20 (by omega) (by omega)) okX8_in lX8_81 rfl ⟨rfl, rfl⟩ ⟨Nat.le_of_ble_eq_true rfl, Nat.le_of_ble_eq_true rfl⟩ (Nat.le_of_ble_eq_true rfl) ⟨Nat.zero_le _, Nat.zero_le _⟩ ?_
    refine e_if_neB (b := decide (inn m (0 : Nat) (20 : Nat))) (tgt := 27) C dX8_count_21 (by decide) (fun h21 => ?_) (fun h21 => ?_)
    · obtain ⟨p9, l_p9, u_p9, rfl⟩ := inn_N (b := 7) (dec_t h9) (by decide)
      obtain ⟨m9, l_m9, u_m9, rfl⟩ := inn_N (b := 20) (dec_t h21) (by decide)
      refine e_aload_n C dX8_count_27 rfl rfl ?_
      refine e_getR (q := 28) C dX8_count_28 fX8_16 rfl rfl ?_
      refine e_iload_n C dX8_count_31 rfl rfl ?_
      refine e_ialoadN C dX8_count_32 rfl (by omega) (by omega) ?_
      refine e_topi (nI (cnt p9)) (hCt p9 (by omega)).1 ?_
      refine e_istore_n (lv2 := [(3, .int (nI (cnt p9))), (0, .ref 25), (1, .int (nI p9)), (2, .int (nI m9))]) C dX8_count_33 rfl (by decide) rfl ?_
      refine e_aload_n C dX8_count_34 rfl rfl ?_
      refine e_getR (q := 28) C dX8_count_35 fX8_16 rfl rfl ?_
      refine e_iload_n C dX8_count_38 rfl rfl ?_
      refine e_iload_n C dX8_count_39 rfl rfl ?_
      refine e_iastoreN C dX8_count_40 rfl (by omega) (by omega) ?_
      refine e_nm (fun M1 hM1 => ?_)
      refine e_iload_n C dX8_count_41 rfl rfl ?_
      have hs9 : Same [28] M M1 := by rw [hM1]; exact (Same.rf _ M).I (by decide)
      have hr9 : gI M1 25 = gI M 25 := hs9.gI (by decide)
      exact e_zret C dX8_count_42 RT rfl ⟨Nat.zero_le _, Nat.zero_le _⟩ (rri (by rw [show spCount (n, P, cnt, k, W, pv, L, R, H, z, g, q) (nI p9) (nI m9) = _ from if_pos ⟨dec_t h9, dec_t h21⟩, tn_nI (q := p9) (by omega), tn_nI (q := m9) (by omega)]) (show RInv _ (n, P, va_up cnt p9 m9, k, W, pv, L, R, H, z, g, q) from ⟨hB.mv hs9 (by decide) (congrFun hr9 _) (congrFun hr9 _), hCt.put (by omega) (by rw [hM1, gI_sI]), hF.mv hs9 (by decide) (congrFun hr9 _) (congrFun hr9 _) (hs9.gJ (by decide)), hH.row (fun j _ _ => congrFun hr9 _), hG.row (congrFun hr9 _) (hs9.gI (by decide)), hQ⟩) (hs9.up (by decide)))
    · refine e_bipush (v := (-2)) C dX8_count_24 (by decide) ?_
      exact e_zret C dX8_count_26 RT rfl ⟨Nat.zero_le _, Nat.zero_le _⟩ (rri (if_neg (fun h8 => dec_f h21 h8.2)) hI (Same.rf _ M))
set_option maxHeartbeats 4000000 in
set_option maxRecDepth 100000 in
theorem q_clear {w : Bool} {M : Mm} {n P cnt : Nat → Nat} {k : Nat} {W : Nat → Nat → Int32} {pv : Nat → Nat} {L R H : Nat} {z : Nat → Int32} {g : Nat} {q : Nat → Nat → Nat} (hI : RInv M (n, P, cnt, k, W, pv, L, R, H, z, g, q))  : CT mX8_clear [.ref 25] (shF w) M (Qi (spClear (n, P, cnt, k, W, pv, L, R, H, z, g, q)).1 (shF w) (fun m0 => RInv m0 (spClear (n, P, cnt, k, W, pv, L, R, H, z, g, q)).2 ∧ FrR M m0)) := by
  refine CT.mk (lv := [(0, .ref 25)]) rfl (by decide +kernel) (Nat.le_of_ble_eq_true rfl) ?_
  intro X C RT
  obtain ⟨hB, hCt, hF, hH, hG, hQ⟩ := id hI
  obtain ⟨hS, hT, hL, hL1, hL3⟩ := id hB
  have n0 := hS.2.1 0 (by decide)
  have n1 := hS.2.1 1 (by decide)
  have n2 := hS.2.1 2 (by decide)
  refine e_aload_n C dX8_clear_0 rfl rfl ?_
  refine e_getI C dX8_clear_1 fX8_110 rfl rfl ?_
  refine e_topi (nI k) hT.1 ?_
  refine e_istore_n (lv2 := [(1, .int (nI k)), (0, .ref 25)]) C dX8_clear_4 rfl (by decide) rfl ?_
  refine e_aload_n C dX8_clear_5 rfl rfl ?_
  refine e_iconst (v := (nI 0)) C dX8_clear_6 (by decide) ?_
  refine e_putI C dX8_clear_7 pX8_110 rfl rfl rfl rfl ?_
  refine e_nm (fun M1 hM1 => ?_)
  refine e_aload_n C dX8_clear_10 rfl rfl ?_
  refine e_iconst (v := (nI 0)) C dX8_clear_11 (by decide) ?_
  refine e_putI C dX8_clear_12 pX8_96 rfl rfl (by decide) (by decide) ?_
  refine e_nm (fun M2 hM2 => ?_)
  refine e_iload_n C dX8_clear_15 rfl rfl ?_
  have hs9 : Same [25] M M2 := by rw [hM2, hM1]; exact ((Same.rf _ M).I (by decide)).I (by decide)
  have hr9 : ∀ j, j ≠ 3 → j ≠ 9 → gI M2 25 j = gI M 25 j := fun j h1 h2 => by rw [hM2, gI_sI, upd_n _ _ h2, hM1, gI_sI, upd_n _ _ h1]
  exact e_zret C dX8_clear_16 RT rfl ⟨Nat.zero_le _, Nat.zero_le _⟩ (rri rfl (show RInv _ (n, P, cnt, 0, W, pv, L, R, H, z, g, q) from ⟨⟨hS.sm hs9 (by decide), ⟨by rw [hM2, gI_sI, upd_n _ _ (by decide), hM1, gI_sI, upd_s], by omega, fun i hi => absurd hi (by omega), fun i hi => absurd hi (by omega), fun i hi => absurd hi (by omega)⟩, by rw [hr9 8 (by decide) (by decide)]; exact hL, hL1, hL3⟩, hCt.same (hs9.gI (by decide)), .inl (by rw [hM2, gI_sI, upd_s]), hH.row (fun j _ _ => hr9 j (by omega) (by omega)), hG.row (hr9 26 (by decide) (by decide)) (hs9.gI (by decide)), hQ⟩) (hs9.up (by decide)))
set_option maxHeartbeats 4000000 in
set_option maxRecDepth 100000 in
theorem q_lines {w : Bool} {M : Mm} {n P cnt : Nat → Nat} {k : Nat} {W : Nat → Nat → Int32} {pv : Nat → Nat} {L R H : Nat} {z : Nat → Int32} {g : Nat} {q : Nat → Nat → Nat} (hI : RInv M (n, P, cnt, k, W, pv, L, R, H, z, g, q))  (v : Int32) : CT mX8_lines [.ref 25, .int v] (shF w) M (Qi (spLines (n, P, cnt, k, W, pv, L, R, H, z, g, q) v).1 (shF w) (fun m0 => RInv m0 (spLines (n, P, cnt, k, W, pv, L, R, H, z, g, q) v).2 ∧ FrR M m0)) := by
  refine CT.mk (lv := [(0, .ref 25), (1, .int v)]) rfl (by decide +kernel) (Nat.le_of_ble_eq_true rfl) ?_
  intro X C RT
  obtain ⟨hB, hCt, hF, hH, hG, hQ⟩ := id hI
  obtain ⟨hS, hT, hL, hL1, hL3⟩ := id hB
  have n0 := hS.2.1 0 (by decide)
  have n1 := hS.2.1 1 (by decide)
  have n2 := hS.2.1 2 (by decide)
  refine e_iload_n C dX8_lines_0 rfl rfl ?_
  refine e_i2l C dX8_lines_1 ?_
  refine e_lconst (v := lN 1) C dX8_lines_2 (by decide) ?_
  refine e_ldc2 (v := lN 3) C dX8_lines_3 kX8_113 ?_
  refine e_callSi C dX8_lines_6 [.long v.toInt64, .long (lN 1), .long (lN 3)] (r_inN v 1 3 (by omega) (by omega)) okX8_in lX8_81 rfl ⟨rfl, rfl⟩ ⟨Nat.le_of_ble_eq_true rfl, Nat.le_of_ble_eq_true rfl⟩ (Nat.le_of_ble_eq_true rfl) ⟨Nat.zero_le _, Nat.zero_le _⟩ ?_
  refine e_if_neB (b := decide (inn v (1 : Nat) (3 : Nat))) (tgt := 15) C dX8_lines_9 (by decide) (fun h9 => ?_) (fun h9 => ?_)
  · obtain ⟨v9, l_v9, u_v9, rfl⟩ := inn_N (b := 3) (dec_t h9) (by decide)
    refine e_aload_n C dX8_lines_15 rfl rfl ?_
    refine e_getI C dX8_lines_16 fX8_31 rfl rfl ?_
    refine e_topi (nI L) hL ?_
    refine e_istore_n (lv2 := [(2, .int (nI L)), (0, .ref 25), (1, .int (nI v9))]) C dX8_lines_19 rfl (by decide) rfl ?_
    refine e_aload_n C dX8_lines_20 rfl rfl ?_
    refine e_iload_n C dX8_lines_21 rfl rfl ?_
    refine e_putI C dX8_lines_22 pX8_31 rfl rfl rfl rfl ?_
    refine e_nm (fun M1 hM1 => ?_)
    refine e_aload_n C dX8_lines_25 rfl rfl ?_
    refine e_iconst (v := (nI 0)) C dX8_lines_26 (by decide) ?_
    refine e_putI C dX8_lines_27 pX8_96 rfl rfl (by decide) (by decide) ?_
    refine e_nm (fun M2 hM2 => ?_)
    refine e_iload_n C dX8_lines_30 rfl rfl ?_
    have hs9 : Same [25] M M2 := by rw [hM2, hM1]; exact ((Same.rf _ M).I (by decide)).I (by decide)
    have hr9 : ∀ j, j ≠ 8 → j ≠ 9 → gI M2 25 j = gI M 25 j := fun j h1 h2 => by rw [hM2, gI_sI, upd_n _ _ h2, hM1, gI_sI, upd_n _ _ h1]
    exact e_zret C dX8_lines_31 RT rfl ⟨Nat.zero_le _, Nat.zero_le _⟩ (rri (by rw [show spLines (n, P, cnt, k, W, pv, L, R, H, z, g, q) (nI v9) = _ from if_pos (dec_t h9), tn_nI (q := v9) (by omega)]) (show RInv _ (n, P, cnt, k, W, pv, v9, R, H, z, g, q) from ⟨⟨hS.sm hs9 (by decide), hT.same (hr9 3 (by decide) (by decide)) (hs9.gI (by decide)) (hs9.gI (by decide)) (hs9.gI (by decide)) (hs9.gI (by decide)), by rw [hM2, gI_sI, upd_n _ _ (by decide), hM1, gI_sI, upd_s], by omega, by omega⟩, hCt.same (hs9.gI (by decide)), .inl (by rw [hM2, gI_sI, upd_s]), hH.row (fun j _ _ => hr9 j (by omega) (by omega)), hG.row (hr9 26 (by decide) (by decide)) (hs9.gI (by decide)), hQ⟩) (hs9.up (by decide)))
  · refine e_bipush (v := (-2)) C dX8_lines_12 (by decide) ?_
    exact e_zret C dX8_lines_14 RT rfl ⟨Nat.zero_le _, Nat.zero_le _⟩ (rri (if_neg (fun h8 => dec_f h9 h8)) hI (Same.rf _ M))
set_option maxHeartbeats 4000000 in
set_option maxRecDepth 100000 in
theorem q_ending {w : Bool} {M : Mm} {n P cnt : Nat → Nat} {k : Nat} {W : Nat → Nat → Int32} {pv : Nat → Nat} {L R H : Nat} {z : Nat → Int32} {g : Nat} {q : Nat → Nat → Nat} (hI : RInv M (n, P, cnt, k, W, pv, L, R, H, z, g, q))  (a b c : Int32) : CT mX8_ending [.ref 25, .int a, .int b, .int c] (shF w) M (Qi (spEnding (n, P, cnt, k, W, pv, L, R, H, z, g, q) a b c).1 (shF w) (fun m0 => RInv m0 (spEnding (n, P, cnt, k, W, pv, L, R, H, z, g, q) a b c).2 ∧ FrR M m0)) := by
  refine CT.mk (lv := [(0, .ref 25), (1, .int a), (2, .int b), (3, .int c)]) rfl (by decide +kernel) (Nat.le_of_ble_eq_true rfl) ?_
  intro X C RT
  obtain ⟨hB, hCt, hF, hH, hG, hQ⟩ := id hI
  obtain ⟨hS, hT, hL, hL1, hL3⟩ := id hB
  have n0 := hS.2.1 0 (by decide)
  have n1 := hS.2.1 1 (by decide)
  have n2 := hS.2.1 2 (by decide)
  refine e_aload_n C dX8_ending_0 rfl rfl ?_
  refine e_iload_n C dX8_ending_1 rfl rfl ?_
  refine e_iload_n C dX8_ending_2 rfl rfl ?_
  refine e_iload_n C dX8_ending_3 rfl rfl ?_
  refine e_callVi C dX8_ending_4 [.int a, .int b, .int c] (r_isEnding hS a b c) okX8_isEnding lX8_135 rfl rfl rfl ⟨rfl, rfl⟩ ⟨Nat.le_of_ble_eq_true rfl, Nat.le_of_ble_eq_true rfl⟩ (Nat.le_of_ble_eq_true rfl) ⟨Nat.zero_le _, Nat.zero_le _⟩ ?_
  refine e_if_neB (b := hasEnd n a b c) (tgt := 13) C dX8_ending_7 (by decide) (fun h7 => ?_) (fun h7 => ?_)
  · obtain ⟨a9, b9, c9, l_a, l_b, l_c, rfl, rfl, rfl⟩ := hasEnd_N h7
    refine e_aload_n C dX8_ending_13 rfl rfl ?_
    refine e_callVvQ C dX8_ending_14 [] (r_layOut hB hF) okX8_layOut lX8_139 rfl rfl rfl ⟨rfl, rfl⟩ ⟨Nat.le_of_ble_eq_true rfl, Nat.le_of_ble_eq_true rfl⟩ (Nat.le_of_ble_eq_true rfl) ⟨Nat.zero_le _, Nat.zero_le _⟩ (fun M1 hM1 => ?_)
    obtain ⟨hI, hf9⟩ := RInv.lo hI hM1
    obtain ⟨hB, hCt, hF, hH, hG, hQ⟩ := id hI
    obtain ⟨hS, hT, hL, hL1, hL3⟩ := id hB
    have n0 := hS.2.1 0 (by decide)
    have n1 := hS.2.1 1 (by decide)
    have n2 := hS.2.1 2 (by decide)
    have hl := hM1.1
    refine e_aload_n C dX8_ending_17 rfl rfl ?_
    refine e_getR (q := 34) C dX8_ending_18 fX8_38 rfl rfl ?_
    refine e_iload_n C dX8_ending_21 rfl rfl ?_
    refine e_iload_n C dX8_ending_22 rfl rfl ?_
    refine e_iload_n C dX8_ending_23 rfl rfl ?_
    refine e_callSi C dX8_ending_24 [.int (nI a9), .int (nI b9), .int (nI c9)] (r_place a9 b9 c9) okX8_place lX8_132 rfl ⟨rfl, rfl⟩ ⟨Nat.le_of_ble_eq_true rfl, Nat.le_of_ble_eq_true rfl⟩ (Nat.le_of_ble_eq_true rfl) ⟨Nat.zero_le _, Nat.zero_le _⟩ ?_
    refine e_ialoadN C dX8_ending_27 rfl (by omega) (by omega) ?_
    refine e_topi (nI (EE n P k W pv L a9 b9 c9)) (hl.2.1 a9 l_a b9 l_b c9 l_c) ?_
    exact e_zret C dX8_ending_28 RT rfl ⟨Nat.zero_le _, Nat.zero_le _⟩ (rri (by rw [show spEnding (n, P, cnt, k, W, pv, L, R, H, z, g, q) (nI a9) (nI b9) (nI c9) = _ from if_pos h7, tn_nI (q := a9) (by omega), tn_nI (q := b9) (by omega), tn_nI (q := c9) (by omega)]) (show RInv _ (n, P, cnt, k, W, pv, L, R, H, z, g, q) from hI) hf9)
  · refine e_bipush (v := (-2)) C dX8_ending_10 (by decide) ?_
    exact e_zret C dX8_ending_12 RT rfl ⟨Nat.zero_le _, Nat.zero_le _⟩ (rri (if_neg (fun h8 => by rw [h7] at h8; exact absurd h8 (by decide))) hI (Same.rf _ M))
set_option maxHeartbeats 4000000 in
set_option maxRecDepth 100000 in
theorem q_worth {w : Bool} {M : Mm} {n P cnt : Nat → Nat} {k : Nat} {W : Nat → Nat → Int32} {pv : Nat → Nat} {L R H : Nat} {z : Nat → Int32} {g : Nat} {q : Nat → Nat → Nat} (hI : RInv M (n, P, cnt, k, W, pv, L, R, H, z, g, q))  (a b c h : Int32) : CT mX8_worth [.ref 25, .int a, .int b, .int c, .int h] (shF w) M (Ql (spWorth (n, P, cnt, k, W, pv, L, R, H, z, g, q) a b c h).1 (shF w) (fun m0 => RInv m0 (spWorth (n, P, cnt, k, W, pv, L, R, H, z, g, q) a b c h).2 ∧ FrR M m0)) := by
  refine CT.mk (lv := [(0, .ref 25), (1, .int a), (2, .int b), (3, .int c), (4, .int h)]) rfl (by decide +kernel) (Nat.le_of_ble_eq_true rfl) ?_
  intro X C RT
  obtain ⟨hB, hCt, hF, hH, hG, hQ⟩ := id hI
  obtain ⟨hS, hT, hL, hL1, hL3⟩ := id hB
  have n0 := hS.2.1 0 (by decide)
  have n1 := hS.2.1 1 (by decide)
  have n2 := hS.2.1 2 (by decide)
  refine e_aload_n C dX8_worth_0 rfl rfl ?_
  refine e_iload_n C dX8_worth_1 rfl rfl ?_
  refine e_iload_n C dX8_worth_2 rfl rfl ?_
  refine e_iload_n C dX8_worth_3 rfl rfl ?_
  refine e_callVi C dX8_worth_4 [.int a, .int b, .int c] (r_isEnding hS a b c) okX8_isEnding lX8_135 rfl rfl rfl ⟨rfl, rfl⟩ ⟨Nat.le_of_ble_eq_true rfl, Nat.le_of_ble_eq_true rfl⟩ (Nat.le_of_ble_eq_true rfl) ⟨Nat.zero_le _, Nat.zero_le _⟩ ?_
  refine e_if_eqB (b := hasEnd n a b c) (tgt := 23) C dX8_worth_7 (by decide) (fun h7 => ?_) (fun h7 => ?_)
  · refine e_ldc2 (v := (-2)) C dX8_worth_23 kX8_159 ?_
    exact e_lret C dX8_worth_26 RT ⟨Nat.zero_le _, Nat.zero_le _⟩ (rrl (if_neg (fun h8 => by rw [h7] at h8; exact absurd h8.1 (by decide))) hI (Same.rf _ M))
  · refine e_iload C dX8_worth_10 rfl ?_
    refine e_i2l C dX8_worth_12 ?_
    refine e_lconst (v := lN 0) C dX8_worth_13 (by decide) ?_
    refine e_ldc2 (v := lN 7) C dX8_worth_14 kX8_104 ?_
    refine e_callSi C dX8_worth_17 [.long h.toInt64, .long (lN 0), .long (lN 7)] (r_inN h 0 7 (by omega) (by omega)) okX8_in lX8_81 rfl ⟨rfl, rfl⟩ ⟨Nat.le_of_ble_eq_true rfl, Nat.le_of_ble_eq_true rfl⟩ (Nat.le_of_ble_eq_true rfl) ⟨Nat.zero_le _, Nat.zero_le _⟩ ?_
    refine e_if_neB (b := decide (inn h (0 : Nat) (7 : Nat))) (tgt := 27) C dX8_worth_20 (by decide) (fun h20 => ?_) (fun h20 => ?_)
    · obtain ⟨a9, b9, c9, l_a, l_b, l_c, rfl, rfl, rfl⟩ := hasEnd_N h7
      obtain ⟨h9, l_h9, u_h9, rfl⟩ := inn_N (b := 7) (dec_t h20) (by decide)
      refine e_aload_n C dX8_worth_27 rfl rfl ?_
      refine e_callVvQ C dX8_worth_28 [] (r_layOut hB hF) okX8_layOut lX8_139 rfl rfl rfl ⟨rfl, rfl⟩ ⟨Nat.le_of_ble_eq_true rfl, Nat.le_of_ble_eq_true rfl⟩ (Nat.le_of_ble_eq_true rfl) ⟨Nat.zero_le _, Nat.zero_le _⟩ (fun M1 hM1 => ?_)
      obtain ⟨hI, hf9⟩ := RInv.lo hI hM1
      obtain ⟨hB, hCt, hF, hH, hG, hQ⟩ := id hI
      obtain ⟨hS, hT, hL, hL1, hL3⟩ := id hB
      have n0 := hS.2.1 0 (by decide)
      have n1 := hS.2.1 1 (by decide)
      have n2 := hS.2.1 2 (by decide)
      have hl := hM1.1
      refine e_aload_n C dX8_worth_31 rfl rfl ?_
      refine e_iload_n C dX8_worth_32 rfl rfl ?_
      refine e_iload_n C dX8_worth_33 rfl rfl ?_
      refine e_iload_n C dX8_worth_34 rfl rfl ?_
      refine e_iload C dX8_worth_35 rfl ?_
      have hw2 := wrt_le n0.2 n1.2 n2.2 hB.le a9 b9 c9 h9
      refine e_callVl C dX8_worth_37 [.int (nI a9), .int (nI b9), .int (nI c9), .int (nI h9)] (r_worthOf hB hl a9 b9 c9 h9 (by omega) (by omega) (by omega) (by omega)) okX8_worthOf lX8_145 rfl rfl rfl ⟨rfl, rfl⟩ ⟨Nat.le_of_ble_eq_true rfl, Nat.le_of_ble_eq_true rfl⟩ (Nat.le_of_ble_eq_true rfl) ⟨Nat.zero_le _, Nat.zero_le _⟩ ?_
      exact e_lret C dX8_worth_40 RT ⟨Nat.zero_le _, Nat.zero_le _⟩ (rrl (by rw [show spWorth (n, P, cnt, k, W, pv, L, R, H, z, g, q) (nI a9) (nI b9) (nI c9) (nI h9) = _ from if_pos ⟨h7, dec_t h20⟩, tn_nI (q := a9) (by omega), tn_nI (q := b9) (by omega), tn_nI (q := c9) (by omega), tn_nI (q := h9) (by omega)]) (show RInv _ (n, P, cnt, k, W, pv, L, R, H, z, g, q) from hI) hf9)
    · refine e_ldc2 (v := (-2)) C dX8_worth_23 kX8_159 ?_
      exact e_lret C dX8_worth_26 RT ⟨Nat.zero_le _, Nat.zero_le _⟩ (rrl (if_neg (fun h9 => dec_f h20 h9.2)) hI (Same.rf _ M))
set_option maxHeartbeats 4000000 in
set_option maxRecDepth 100000 in
theorem q_hold {w : Bool} {M : Mm} {n P cnt : Nat → Nat} {k : Nat} {W : Nat → Nat → Int32} {pv : Nat → Nat} {L R H : Nat} {z : Nat → Int32} {g : Nat} {q : Nat → Nat → Nat} (hI : RInv M (n, P, cnt, k, W, pv, L, R, H, z, g, q))  (a b c : Int32) : CT mX8_hold [.ref 25, .int a, .int b, .int c] (shF w) M (Qi (spHold (n, P, cnt, k, W, pv, L, R, H, z, g, q) a b c).1 (shF w) (fun m0 => RInv m0 (spHold (n, P, cnt, k, W, pv, L, R, H, z, g, q) a b c).2 ∧ FrR M m0)) := by
  refine CT.mk (lv := [(0, .ref 25), (1, .int a), (2, .int b), (3, .int c)]) rfl (by decide +kernel) (Nat.le_of_ble_eq_true rfl) ?_
  intro X C RT
  obtain ⟨hB, hCt, hF, hH, hG, hQ⟩ := id hI
  obtain ⟨hS, hT, hL, hL1, hL3⟩ := id hB
  have n0 := hS.2.1 0 (by decide)
  have n1 := hS.2.1 1 (by decide)
  have n2 := hS.2.1 2 (by decide)
  refine e_aload_n C dX8_hold_0 rfl rfl ?_
  refine e_iload_n C dX8_hold_1 rfl rfl ?_
  refine e_iload_n C dX8_hold_2 rfl rfl ?_
  refine e_iload_n C dX8_hold_3 rfl rfl ?_
  refine e_callVi C dX8_hold_4 [.int a, .int b, .int c] (r_isEnding hS a b c) okX8_isEnding lX8_135 rfl rfl rfl ⟨rfl, rfl⟩ ⟨Nat.le_of_ble_eq_true rfl, Nat.le_of_ble_eq_true rfl⟩ (Nat.le_of_ble_eq_true rfl) ⟨Nat.zero_le _, Nat.zero_le _⟩ ?_
  refine e_if_neB (b := hasEnd n a b c) (tgt := 13) C dX8_hold_7 (by decide) (fun h7 => ?_) (fun h7 => ?_)
  · obtain ⟨a9, b9, c9, l_a, l_b, l_c, rfl, rfl, rfl⟩ := hasEnd_N h7
    refine e_aload_n C dX8_hold_13 rfl rfl ?_
    refine e_callVvQ C dX8_hold_14 [] (r_layOut hB hF) okX8_layOut lX8_139 rfl rfl rfl ⟨rfl, rfl⟩ ⟨Nat.le_of_ble_eq_true rfl, Nat.le_of_ble_eq_true rfl⟩ (Nat.le_of_ble_eq_true rfl) ⟨Nat.zero_le _, Nat.zero_le _⟩ (fun M1 hM1 => ?_)
    obtain ⟨hI, hf9⟩ := RInv.lo hI hM1
    obtain ⟨hB, hCt, hF, hH, hG, hQ⟩ := id hI
    obtain ⟨hS, hT, hL, hL1, hL3⟩ := id hB
    have n0 := hS.2.1 0 (by decide)
    have n1 := hS.2.1 1 (by decide)
    have n2 := hS.2.1 2 (by decide)
    have hl := hM1.1
    refine e_aload_n C dX8_hold_17 rfl rfl ?_
    refine e_iload_n C dX8_hold_18 rfl rfl ?_
    refine e_iload_n C dX8_hold_19 rfl rfl ?_
    refine e_iload_n C dX8_hold_20 rfl rfl ?_
    have hg2 := bstH_le (wrt n (EE n P k W pv L) a9 b9 c9) 7
    refine e_callVi C dX8_hold_21 [.int (nI a9), .int (nI b9), .int (nI c9)] (r_holdOf hB hl a9 b9 c9 (by omega) (by omega) (by omega)) okX8_holdOf lX8_142 rfl rfl rfl ⟨rfl, rfl⟩ ⟨Nat.le_of_ble_eq_true rfl, Nat.le_of_ble_eq_true rfl⟩ (Nat.le_of_ble_eq_true rfl) ⟨Nat.zero_le _, Nat.zero_le _⟩ ?_
    exact e_zret C dX8_hold_24 RT rfl ⟨Nat.zero_le _, Nat.zero_le _⟩ (rri (by rw [show spHold (n, P, cnt, k, W, pv, L, R, H, z, g, q) (nI a9) (nI b9) (nI c9) = _ from if_pos h7, tn_nI (q := a9) (by omega), tn_nI (q := b9) (by omega), tn_nI (q := c9) (by omega)]) (show RInv _ (n, P, cnt, k, W, pv, L, R, H, z, g, q) from hI) hf9)
  · refine e_bipush (v := (-2)) C dX8_hold_10 (by decide) ?_
    exact e_zret C dX8_hold_12 RT rfl ⟨Nat.zero_le _, Nat.zero_le _⟩ (rri (if_neg (fun h8 => by rw [h7] at h8; exact absurd h8 (by decide))) hI (Same.rf _ M))
set_option maxHeartbeats 4000000 in
set_option maxRecDepth 100000 in
theorem q_room {w : Bool} {M : Mm} {n P cnt : Nat → Nat} {k : Nat} {W : Nat → Nat → Int32} {pv : Nat → Nat} {L R H : Nat} {z : Nat → Int32} {g : Nat} {q : Nat → Nat → Nat} (hI : RInv M (n, P, cnt, k, W, pv, L, R, H, z, g, q))  (v : Int32) : CT mX8_room [.ref 25, .int v] (shF w) M (Qi (spRoom (n, P, cnt, k, W, pv, L, R, H, z, g, q) v).1 (shF w) (fun m0 => RInv m0 (spRoom (n, P, cnt, k, W, pv, L, R, H, z, g, q) v).2 ∧ FrR M m0)) := by
  refine CT.mk (lv := [(0, .ref 25), (1, .int v)]) rfl (by decide +kernel) (Nat.le_of_ble_eq_true rfl) ?_
  intro X C RT
  obtain ⟨hB, hCt, hF, hH, hG, hQ⟩ := id hI
  obtain ⟨hS, hT, hL, hL1, hL3⟩ := id hB
  have n0 := hS.2.1 0 (by decide)
  have n1 := hS.2.1 1 (by decide)
  have n2 := hS.2.1 2 (by decide)
  obtain ⟨t0, t1, tH, tR, tR2, tz⟩ := id hH
  refine e_iload_n C dX8_room_0 rfl rfl ?_
  refine e_i2l C dX8_room_1 ?_
  refine e_lconst (v := lN 1) C dX8_room_2 (by decide) ?_
  refine e_ldc2 (v := lN 200) C dX8_room_3 kX8_175 ?_
  refine e_callSi C dX8_room_6 [.long v.toInt64, .long (lN 1), .long (lN 200)] (r_inN v 1 200 (by omega) (by omega)) okX8_in lX8_81 rfl ⟨rfl, rfl⟩ ⟨Nat.le_of_ble_eq_true rfl, Nat.le_of_ble_eq_true rfl⟩ (Nat.le_of_ble_eq_true rfl) ⟨Nat.zero_le _, Nat.zero_le _⟩ ?_
  refine e_if_neB (b := decide (inn v (1 : Nat) (200 : Nat))) (tgt := 15) C dX8_room_9 (by decide) (fun h9 => ?_) (fun h9 => ?_)
  · obtain ⟨v9, l_v9, u_v9, rfl⟩ := inn_N (b := 200) (dec_t h9) (by decide)
    refine e_aload_n C dX8_room_15 rfl rfl ?_
    refine e_getI C dX8_room_16 fX8_177 rfl rfl ?_
    refine e_topi (nI H) t1 ?_
    refine e_iload_n C dX8_room_19 rfl rfl ?_
    refine e_icmp_leN (tgt := 26) C dX8_room_20 (by omega) (by omega) (by decide) (fun h20 => ?_) (fun h20 => ?_)
    · refine e_aload_n C dX8_room_26 rfl rfl ?_
      refine e_getI C dX8_room_27 fX8_57 rfl rfl ?_
      refine e_topi (nI R) t0 ?_
      refine e_istore_n (lv2 := [(2, .int (nI R)), (0, .ref 25), (1, .int (nI v9))]) C dX8_room_30 rfl (by decide) rfl ?_
      refine e_aload_n C dX8_room_31 rfl rfl ?_
      refine e_iload_n C dX8_room_32 rfl rfl ?_
      refine e_putI C dX8_room_33 pX8_57 rfl rfl rfl rfl ?_
      refine e_nm (fun M1 hM1 => ?_)
      refine e_iload_n C dX8_room_36 rfl rfl ?_
      have hs9 : Same [25] M M1 := by rw [hM1]; exact (Same.rf _ M).I (by decide)
      have hr9 : ∀ j, j ≠ 19 → gI M1 25 j = gI M 25 j := fun j h1 => by rw [hM1, gI_sI, upd_n _ _ h1]
      exact e_zret C dX8_room_37 RT rfl ⟨Nat.zero_le _, Nat.zero_le _⟩ (rri ((if_pos (dec_t h9)).trans ((if_pos (by rw [tn_nI (q := v9) (by omega)]; omega)).trans (by rw [tn_nI (q := v9) (by omega)]))) (show RInv _ (n, P, cnt, k, W, pv, L, v9, H, z, g, q) from ⟨hB.mv hs9 (by decide) (hr9 3 (by decide)) (hr9 8 (by decide)), hCt.same (hs9.gI (by decide)), hF.mv hs9 (by decide) (hr9 9 (by decide)) (hr9 15 (by decide)) (by rw [hM1, gJ_sI]), ⟨by rw [hM1, gI_sI, upd_s], by rw [hr9 20 (by decide)]; exact t1, h20, by omega, by omega, fun j h1 h2 => by rw [hr9 _ (by omega)]; exact tz j h1 h2⟩, hG.row (hr9 26 (by decide)) (hs9.gI (by decide)), hQ⟩) (hs9.up (by decide)))
    · refine e_bipush (v := (-3)) C dX8_room_23 (by decide) ?_
      exact e_zret C dX8_room_25 RT rfl ⟨Nat.zero_le _, Nat.zero_le _⟩ (rri ((if_pos (dec_t h9)).trans (if_neg (by rw [tn_nI (q := v9) (by omega)]; omega))) hI (Same.rf _ M))
  · refine e_bipush (v := (-2)) C dX8_room_12 (by decide) ?_
    exact e_zret C dX8_room_14 RT rfl ⟨Nat.zero_le _, Nat.zero_le _⟩ (rri (if_neg (fun h8 => dec_f h9 h8)) hI (Same.rf _ M))
set_option maxHeartbeats 4000000 in
set_option maxRecDepth 100000 in
theorem q_fill {w : Bool} {M : Mm} {n P cnt : Nat → Nat} {k : Nat} {W : Nat → Nat → Int32} {pv : Nat → Nat} {L R H : Nat} {z : Nat → Int32} {g : Nat} {q : Nat → Nat → Nat} (hI : RInv M (n, P, cnt, k, W, pv, L, R, H, z, g, q))  (x : Int32) : CT mX8_fill [.ref 25, .int x] (shF w) M (Qi (spFill (n, P, cnt, k, W, pv, L, R, H, z, g, q) x).1 (shF w) (fun m0 => RInv m0 (spFill (n, P, cnt, k, W, pv, L, R, H, z, g, q) x).2 ∧ FrR M m0)) := by
  refine CT.mk (lv := [(0, .ref 25), (1, .int x)]) rfl (by decide +kernel) (Nat.le_of_ble_eq_true rfl) ?_
  intro X C RT
  obtain ⟨hB, hCt, hF, hH, hG, hQ⟩ := id hI
  obtain ⟨hS, hT, hL, hL1, hL3⟩ := id hB
  have n0 := hS.2.1 0 (by decide)
  have n1 := hS.2.1 1 (by decide)
  have n2 := hS.2.1 2 (by decide)
  obtain ⟨t0, t1, tH, tR, tR2, tz⟩ := id hH
  refine e_iload_n C dX8_fill_0 rfl rfl ?_
  refine e_i2l C dX8_fill_1 ?_
  refine e_lconst (v := lN 0) C dX8_fill_2 (by decide) ?_
  refine e_ldc2 (v := lN 200) C dX8_fill_3 kX8_175 ?_
  refine e_callSi C dX8_fill_6 [.long x.toInt64, .long (lN 0), .long (lN 200)] (r_inN x 0 200 (by omega) (by omega)) okX8_in lX8_81 rfl ⟨rfl, rfl⟩ ⟨Nat.le_of_ble_eq_true rfl, Nat.le_of_ble_eq_true rfl⟩ (Nat.le_of_ble_eq_true rfl) ⟨Nat.zero_le _, Nat.zero_le _⟩ ?_
  refine e_if_neB (b := decide (inn x (0 : Nat) (200 : Nat))) (tgt := 15) C dX8_fill_9 (by decide) (fun h9 => ?_) (fun h9 => ?_)
  · obtain ⟨x9, l_x9, u_x9, rfl⟩ := inn_N (b := 200) (dec_t h9) (by decide)
    refine e_aload_n C dX8_fill_15 rfl rfl ?_
    refine e_getI C dX8_fill_16 fX8_177 rfl rfl ?_
    refine e_topi (nI H) t1 ?_
    refine e_iload_n C dX8_fill_19 rfl rfl ?_
    refine e_iaddN C dX8_fill_20 ?_
    refine e_aload_n C dX8_fill_21 rfl rfl ?_
    refine e_getI C dX8_fill_22 fX8_57 rfl rfl ?_
    refine e_topi (nI R) t0 ?_
    refine e_icmp_leN (tgt := 31) C dX8_fill_25 (by omega) (by omega) (by decide) (fun h25 => ?_) (fun h25 => ?_)
    · refine e_aload_n C dX8_fill_31 rfl rfl ?_
      refine e_dup C dX8_fill_32 rfl ?_
      refine e_getI C dX8_fill_33 fX8_177 rfl rfl ?_
      refine e_topi (nI H) t1 ?_
      refine e_iload_n C dX8_fill_36 rfl rfl ?_
      refine e_iaddN C dX8_fill_37 ?_
      refine e_putI C dX8_fill_38 pX8_177 rfl rfl rfl rfl ?_
      refine e_nm (fun M1 hM1 => ?_)
      refine e_aload_n C dX8_fill_41 rfl rfl ?_
      refine e_dup C dX8_fill_42 rfl ?_
      refine e_getI C dX8_fill_43 fX8_180 rfl rfl ?_
      refine e_topi (z 6) (by rw [hM1, gI_sI, upd_n _ _ (by decide)]; exact tz 6 (by decide) (by decide)) ?_
      refine e_iload_n C dX8_fill_46 rfl rfl ?_
      refine e_iadd C dX8_fill_47 ?_
      refine e_putI C dX8_fill_48 pX8_180 rfl rfl rfl rfl ?_
      refine e_nm (fun M2 hM2 => ?_)
      refine e_aload_n C dX8_fill_51 rfl rfl ?_
      refine e_getI C dX8_fill_52 fX8_177 rfl rfl ?_
      refine e_topi (nI (H + x9)) (by rw [hM2, gI_sI, upd_n _ _ (by decide), hM1, gI_sI, upd_s]) ?_
      have hs9 : Same [25] M M2 := by rw [hM2, hM1]; exact ((Same.rf _ M).I (by decide)).I (by decide)
      have hr9 : ∀ j, j ≠ 20 → j ≠ 25 → gI M2 25 j = gI M 25 j := fun j h1 h2 => by rw [hM2, gI_sI, upd_n _ _ h2, hM1, gI_sI, upd_n _ _ h1]
      have htz : ∀ j, 2 ≤ j → j < 7 → gI M2 25 (19 + j) = upd z 6 (z 6 + nI x9) j := by
        intro j h1 h2
        by_cases e9 : j = 6
        · subst e9; rw [hM2, gI_sI]; simp [upd]
        · rw [hr9 _ (by omega) (by omega), upd_n _ _ e9]; exact tz j h1 h2
      exact e_zret C dX8_fill_55 RT rfl ⟨Nat.zero_le _, Nat.zero_le _⟩ (rri ((if_pos (dec_t h9)).trans ((if_pos (by rw [tn_nI (q := x9) (by omega)]; omega)).trans (by rw [tn_nI (q := x9) (by omega)]))) (show RInv _ (n, P, cnt, k, W, pv, L, R, H + x9, upd z 6 (z 6 + nI x9), g, q) from ⟨hB.mv hs9 (by decide) (hr9 3 (by decide) (by decide)) (hr9 8 (by decide) (by decide)), hCt.same (hs9.gI (by decide)), hF.mv hs9 (by decide) (hr9 9 (by decide) (by decide)) (hr9 15 (by decide) (by decide)) (by rw [hM2, gJ_sI, hM1, gJ_sI]), ⟨by rw [hr9 19 (by decide) (by decide)]; exact t0, by rw [hM2, gI_sI, upd_n _ _ (by decide), hM1, gI_sI, upd_s], h25, tR, tR2, htz⟩, hG.row (hr9 26 (by decide) (by decide)) (hs9.gI (by decide)), hQ⟩) (hs9.up (by decide)))
    · refine e_bipush (v := (-3)) C dX8_fill_28 (by decide) ?_
      exact e_zret C dX8_fill_30 RT rfl ⟨Nat.zero_le _, Nat.zero_le _⟩ (rri ((if_pos (dec_t h9)).trans (if_neg (by rw [tn_nI (q := x9) (by omega)]; omega))) hI (Same.rf _ M))
  · refine e_bipush (v := (-2)) C dX8_fill_12 (by decide) ?_
    exact e_zret C dX8_fill_14 RT rfl ⟨Nat.zero_le _, Nat.zero_le _⟩ (rri (if_neg (fun h8 => dec_f h9 h8)) hI (Same.rf _ M))
set_option maxHeartbeats 4000000 in
set_option maxRecDepth 100000 in
theorem q_coins {w : Bool} {M : Mm} {n P cnt : Nat → Nat} {k : Nat} {W : Nat → Nat → Int32} {pv : Nat → Nat} {L R H : Nat} {z : Nat → Int32} {g : Nat} {q : Nat → Nat → Nat} (hI : RInv M (n, P, cnt, k, W, pv, L, R, H, z, g, q))  (x : Int32) : CT mX8_coins [.ref 25, .int x] (shF w) M (Qi (spCoins (n, P, cnt, k, W, pv, L, R, H, z, g, q) x).1 (shF w) (fun m0 => RInv m0 (spCoins (n, P, cnt, k, W, pv, L, R, H, z, g, q) x).2 ∧ FrR M m0)) := by
  refine CT.mk (lv := [(0, .ref 25), (1, .int x)]) rfl (by decide +kernel) (Nat.le_of_ble_eq_true rfl) ?_
  intro X C RT
  obtain ⟨hB, hCt, hF, hH, hG, hQ⟩ := id hI
  obtain ⟨hS, hT, hL, hL1, hL3⟩ := id hB
  have n0 := hS.2.1 0 (by decide)
  have n1 := hS.2.1 1 (by decide)
  have n2 := hS.2.1 2 (by decide)
  obtain ⟨t0, t1, tH, tR, tR2, tz⟩ := id hH
  by_cases hx : inn x 0 7
  · obtain ⟨x9, _, u_x, rfl⟩ := inn_N (b := 7) hx (by decide)
    rcases (show x9 = 0 ∨ x9 = 1 ∨ x9 = 2 ∨ x9 = 3 ∨ x9 = 4 ∨ x9 = 5 ∨ x9 = 6 ∨ x9 = 7 by omega) with rfl | rfl | rfl | rfl | rfl | rfl | rfl | rfl
    · refine e_iload_n C dX8_coins_0 rfl rfl ?_
      refine e_tableIn (tgt := 48) C dX8_coins_1 (by decide) (by decide) rfl (by decide) ?_
      refine e_aload_n C dX8_coins_48 rfl rfl ?_
      refine e_getI C dX8_coins_49 fX8_177 rfl rfl ?_
      refine e_topi (nI H) t1 ?_
      exact e_zret C dX8_coins_52 RT rfl ⟨Nat.zero_le _, Nat.zero_le _⟩ (rri rfl hI (Same.rf _ M))
    · refine e_iload_n C dX8_coins_0 rfl rfl ?_
      refine e_tableIn (tgt := 53) C dX8_coins_1 (by decide) (by decide) rfl (by decide) ?_
      refine e_aload_n C dX8_coins_53 rfl rfl ?_
      refine e_getI C dX8_coins_54 fX8_183 rfl rfl ?_
      refine e_topi (z 2) (tz 2 (by decide) (by decide)) ?_
      exact e_zret C dX8_coins_57 RT rfl ⟨Nat.zero_le _, Nat.zero_le _⟩ (rri rfl hI (Same.rf _ M))
    · refine e_iload_n C dX8_coins_0 rfl rfl ?_
      refine e_tableIn (tgt := 58) C dX8_coins_1 (by decide) (by decide) rfl (by decide) ?_
      refine e_aload_n C dX8_coins_58 rfl rfl ?_
      refine e_getI C dX8_coins_59 fX8_186 rfl rfl ?_
      refine e_topi (z 3) (tz 3 (by decide) (by decide)) ?_
      exact e_zret C dX8_coins_62 RT rfl ⟨Nat.zero_le _, Nat.zero_le _⟩ (rri rfl hI (Same.rf _ M))
    · refine e_iload_n C dX8_coins_0 rfl rfl ?_
      refine e_tableIn (tgt := 63) C dX8_coins_1 (by decide) (by decide) rfl (by decide) ?_
      refine e_aload_n C dX8_coins_63 rfl rfl ?_
      refine e_getI C dX8_coins_64 fX8_189 rfl rfl ?_
      refine e_topi (z 4) (tz 4 (by decide) (by decide)) ?_
      exact e_zret C dX8_coins_67 RT rfl ⟨Nat.zero_le _, Nat.zero_le _⟩ (rri rfl hI (Same.rf _ M))
    · refine e_iload_n C dX8_coins_0 rfl rfl ?_
      refine e_tableIn (tgt := 68) C dX8_coins_1 (by decide) (by decide) rfl (by decide) ?_
      refine e_aload_n C dX8_coins_68 rfl rfl ?_
      refine e_getI C dX8_coins_69 fX8_192 rfl rfl ?_
      refine e_topi (z 5) (tz 5 (by decide) (by decide)) ?_
      exact e_zret C dX8_coins_72 RT rfl ⟨Nat.zero_le _, Nat.zero_le _⟩ (rri rfl hI (Same.rf _ M))
    · refine e_iload_n C dX8_coins_0 rfl rfl ?_
      refine e_tableIn (tgt := 73) C dX8_coins_1 (by decide) (by decide) rfl (by decide) ?_
      refine e_aload_n C dX8_coins_73 rfl rfl ?_
      refine e_getI C dX8_coins_74 fX8_180 rfl rfl ?_
      refine e_topi (z 6) (tz 6 (by decide) (by decide)) ?_
      exact e_zret C dX8_coins_77 RT rfl ⟨Nat.zero_le _, Nat.zero_le _⟩ (rri rfl hI (Same.rf _ M))
    · refine e_iload_n C dX8_coins_0 rfl rfl ?_
      refine e_tableIn (tgt := 78) C dX8_coins_1 (by decide) (by decide) rfl (by decide) ?_
      refine e_aload_n C dX8_coins_78 rfl rfl ?_
      refine e_getI C dX8_coins_79 fX8_93 rfl rfl ?_
      refine e_topi (nI g) hG.1 ?_
      exact e_zret C dX8_coins_82 RT rfl ⟨Nat.zero_le _, Nat.zero_le _⟩ (rri rfl hI (Same.rf _ M))
    · refine e_iload_n C dX8_coins_0 rfl rfl ?_
      refine e_tableIn (tgt := 83) C dX8_coins_1 (by decide) (by decide) rfl (by decide) ?_
      refine e_aload_n C dX8_coins_83 rfl rfl ?_
      refine e_getI C dX8_coins_84 fX8_57 rfl rfl ?_
      refine e_topi (nI R) t0 ?_
      exact e_zret C dX8_coins_87 RT rfl ⟨Nat.zero_le _, Nat.zero_le _⟩ (rri rfl hI (Same.rf _ M))
  · refine e_iload_n C dX8_coins_0 rfl rfl ?_
    refine e_tableOut (tgt := 88) C dX8_coins_1 (by unfold inn at hx; omega) (by decide) ?_
    refine e_bipush (v := (-2)) C dX8_coins_88 (by decide) ?_
    exact e_zret C dX8_coins_90 RT rfl ⟨Nat.zero_le _, Nat.zero_le _⟩ (rri (congrArg (fun y => (y, (n, P, cnt, k, W, pv, L, R, H, z, g, q))) (by unfold coi; rw [if_neg (fun e => hx (by subst e; decide)), if_neg (fun e => hx (by subst e; decide)), if_neg (fun e => hx (by subst e; decide)), if_neg (fun e => hx (by subst e; decide)), if_neg (fun e => hx (by subst e; decide)), if_neg (fun e => hx (by subst e; decide)), if_neg (fun e => hx (by subst e; decide)), if_neg (fun e => hx (by subst e; decide))])) hI (Same.rf _ M))
theorem miss_eq (a b c d e f : Nat) : a * b * c + d * e * c + f * e * b = e * b * f + e * d * c + a * b * c := by
  rw [Nat.mul_comm d e, Nat.mul_comm (f * e) b, ← Nat.mul_assoc, Nat.mul_comm b f, Nat.mul_assoc f b e, Nat.mul_comm b e, Nat.mul_comm f (e * b)]; omega
set_option maxHeartbeats 4000000 in
set_option maxRecDepth 100000 in
theorem q_misses {w : Bool} {M : Mm} {n P cnt : Nat → Nat} {k : Nat} {W : Nat → Nat → Int32} {pv : Nat → Nat} {L R H : Nat} {z : Nat → Int32} {g : Nat} {q : Nat → Nat → Nat} (hI : RInv M (n, P, cnt, k, W, pv, L, R, H, z, g, q))  (p : Int32) : CT mX8_misses [.ref 25, .int p] (shF w) M (Qi (spMisses (n, P, cnt, k, W, pv, L, R, H, z, g, q) p).1 (shF w) (fun m0 => RInv m0 (spMisses (n, P, cnt, k, W, pv, L, R, H, z, g, q) p).2 ∧ FrR M m0)) := by
  refine CT.mk (lv := [(0, .ref 25), (1, .int p)]) rfl (by decide +kernel) (Nat.le_of_ble_eq_true rfl) ?_
  intro X C RT
  obtain ⟨hB, hCt, hF, hH, hG, hQ⟩ := id hI
  obtain ⟨hS, hT, hL, hL1, hL3⟩ := id hB
  have n0 := hS.2.1 0 (by decide)
  have n1 := hS.2.1 1 (by decide)
  have n2 := hS.2.1 2 (by decide)
  refine e_iload_n C dX8_misses_0 rfl rfl ?_
  refine e_i2l C dX8_misses_1 ?_
  refine e_lconst (v := lN 0) C dX8_misses_2 (by decide) ?_
  refine e_ldc2 (v := lN 7) C dX8_misses_3 kX8_104 ?_
  refine e_callSi C dX8_misses_6 [.long p.toInt64, .long (lN 0), .long (lN 7)] (r_inN p 0 7 (by omega) (by omega)) okX8_in lX8_81 rfl ⟨rfl, rfl⟩ ⟨Nat.le_of_ble_eq_true rfl, Nat.le_of_ble_eq_true rfl⟩ (Nat.le_of_ble_eq_true rfl) ⟨Nat.zero_le _, Nat.zero_le _⟩ ?_
  refine e_if_neB (b := decide (inn p (0 : Nat) (7 : Nat))) (tgt := 15) C dX8_misses_9 (by decide) (fun h9 => ?_) (fun h9 => ?_)
  · obtain ⟨p9, l_p9, u_p9, rfl⟩ := inn_N (b := 7) (dec_t h9) (by decide)
    refine e_aload_n C dX8_misses_15 rfl rfl ?_
    refine e_iconst (v := (nI 0)) C dX8_misses_16 (by decide) ?_
    refine e_iload_n C dX8_misses_17 rfl rfl ?_
    have hq1 := mid_le n P 0 p9
    refine e_callVi C dX8_misses_18 [.int (nI 0), .int (nI p9)] (r_middles hS 0 p9 (by omega) (by omega)) okX8_middles lX8_161 rfl rfl rfl ⟨rfl, rfl⟩ ⟨Nat.le_of_ble_eq_true rfl, Nat.le_of_ble_eq_true rfl⟩ (Nat.le_of_ble_eq_true rfl) ⟨Nat.zero_le _, Nat.zero_le _⟩ ?_
    refine e_aload_n C dX8_misses_21 rfl rfl ?_
    refine e_iconst (v := (nI 1)) C dX8_misses_22 (by decide) ?_
    refine e_iload_n C dX8_misses_23 rfl rfl ?_
    have hq2 := mid_le n P 1 p9
    refine e_callVi C dX8_misses_24 [.int (nI 1), .int (nI p9)] (r_middles hS 1 p9 (by omega) (by omega)) okX8_middles lX8_161 rfl rfl rfl ⟨rfl, rfl⟩ ⟨Nat.le_of_ble_eq_true rfl, Nat.le_of_ble_eq_true rfl⟩ (Nat.le_of_ble_eq_true rfl) ⟨Nat.zero_le _, Nat.zero_le _⟩ ?_
    refine e_imulN C dX8_misses_27 ?_
    refine e_aload_n C dX8_misses_28 rfl rfl ?_
    refine e_iconst (v := (nI 2)) C dX8_misses_29 (by decide) ?_
    refine e_iload_n C dX8_misses_30 rfl rfl ?_
    have hq3 := nea_le n P 2 p9
    refine e_callVi C dX8_misses_31 [.int (nI 2), .int (nI p9)] (r_nears hS 2 p9 (by omega) (by omega)) okX8_nears lX8_165 rfl rfl rfl ⟨rfl, rfl⟩ ⟨Nat.le_of_ble_eq_true rfl, Nat.le_of_ble_eq_true rfl⟩ (Nat.le_of_ble_eq_true rfl) ⟨Nat.zero_le _, Nat.zero_le _⟩ ?_
    refine e_imulN C dX8_misses_34 ?_
    refine e_aload_n C dX8_misses_35 rfl rfl ?_
    refine e_iconst (v := (nI 0)) C dX8_misses_36 (by decide) ?_
    refine e_iload_n C dX8_misses_37 rfl rfl ?_
    have hq4 := mid_le n P 0 p9
    refine e_callVi C dX8_misses_38 [.int (nI 0), .int (nI p9)] (r_middles hS 0 p9 (by omega) (by omega)) okX8_middles lX8_161 rfl rfl rfl ⟨rfl, rfl⟩ ⟨Nat.le_of_ble_eq_true rfl, Nat.le_of_ble_eq_true rfl⟩ (Nat.le_of_ble_eq_true rfl) ⟨Nat.zero_le _, Nat.zero_le _⟩ ?_
    refine e_aload_n C dX8_misses_41 rfl rfl ?_
    refine e_iconst (v := (nI 1)) C dX8_misses_42 (by decide) ?_
    refine e_iload_n C dX8_misses_43 rfl rfl ?_
    have hq5 := nea_le n P 1 p9
    refine e_callVi C dX8_misses_44 [.int (nI 1), .int (nI p9)] (r_nears hS 1 p9 (by omega) (by omega)) okX8_nears lX8_165 rfl rfl rfl ⟨rfl, rfl⟩ ⟨Nat.le_of_ble_eq_true rfl, Nat.le_of_ble_eq_true rfl⟩ (Nat.le_of_ble_eq_true rfl) ⟨Nat.zero_le _, Nat.zero_le _⟩ ?_
    refine e_imulN C dX8_misses_47 ?_
    refine e_aload_n C dX8_misses_48 rfl rfl ?_
    refine e_iconst (v := (nI 2)) C dX8_misses_49 (by decide) ?_
    refine e_iload_n C dX8_misses_50 rfl rfl ?_
    have hq6 := mid_le n P 2 p9
    refine e_callVi C dX8_misses_51 [.int (nI 2), .int (nI p9)] (r_middles hS 2 p9 (by omega) (by omega)) okX8_middles lX8_161 rfl rfl rfl ⟨rfl, rfl⟩ ⟨Nat.le_of_ble_eq_true rfl, Nat.le_of_ble_eq_true rfl⟩ (Nat.le_of_ble_eq_true rfl) ⟨Nat.zero_le _, Nat.zero_le _⟩ ?_
    refine e_imulN C dX8_misses_54 ?_
    refine e_iaddN C dX8_misses_55 ?_
    refine e_aload_n C dX8_misses_56 rfl rfl ?_
    refine e_iconst (v := (nI 0)) C dX8_misses_57 (by decide) ?_
    refine e_iload_n C dX8_misses_58 rfl rfl ?_
    have hq7 := nea_le n P 0 p9
    refine e_callVi C dX8_misses_59 [.int (nI 0), .int (nI p9)] (r_nears hS 0 p9 (by omega) (by omega)) okX8_nears lX8_165 rfl rfl rfl ⟨rfl, rfl⟩ ⟨Nat.le_of_ble_eq_true rfl, Nat.le_of_ble_eq_true rfl⟩ (Nat.le_of_ble_eq_true rfl) ⟨Nat.zero_le _, Nat.zero_le _⟩ ?_
    refine e_aload_n C dX8_misses_62 rfl rfl ?_
    refine e_iconst (v := (nI 1)) C dX8_misses_63 (by decide) ?_
    refine e_iload_n C dX8_misses_64 rfl rfl ?_
    have hq8 := mid_le n P 1 p9
    refine e_callVi C dX8_misses_65 [.int (nI 1), .int (nI p9)] (r_middles hS 1 p9 (by omega) (by omega)) okX8_middles lX8_161 rfl rfl rfl ⟨rfl, rfl⟩ ⟨Nat.le_of_ble_eq_true rfl, Nat.le_of_ble_eq_true rfl⟩ (Nat.le_of_ble_eq_true rfl) ⟨Nat.zero_le _, Nat.zero_le _⟩ ?_
    refine e_imulN C dX8_misses_68 ?_
    refine e_aload_n C dX8_misses_69 rfl rfl ?_
    refine e_iconst (v := (nI 2)) C dX8_misses_70 (by decide) ?_
    refine e_iload_n C dX8_misses_71 rfl rfl ?_
    have hq9 := mid_le n P 2 p9
    refine e_callVi C dX8_misses_72 [.int (nI 2), .int (nI p9)] (r_middles hS 2 p9 (by omega) (by omega)) okX8_middles lX8_161 rfl rfl rfl ⟨rfl, rfl⟩ ⟨Nat.le_of_ble_eq_true rfl, Nat.le_of_ble_eq_true rfl⟩ (Nat.le_of_ble_eq_true rfl) ⟨Nat.zero_le _, Nat.zero_le _⟩ ?_
    refine e_imulN C dX8_misses_75 ?_
    refine e_iaddN C dX8_misses_76 ?_
    exact e_zret C dX8_misses_77 RT rfl ⟨Nat.zero_le _, Nat.zero_le _⟩ (rri ((if_pos (dec_t h9)).trans (congrArg (fun y => (nI y, (n, P, cnt, k, W, pv, L, R, H, z, g, q))) (by rw [tn_nI (q := p9) (by omega)]; exact miss_eq _ _ _ _ _ _))) hI (Same.rf _ M))
  · refine e_bipush (v := (-2)) C dX8_misses_12 (by decide) ?_
    exact e_zret C dX8_misses_14 RT rfl ⟨Nat.zero_le _, Nat.zero_le _⟩ (rri (if_neg (fun h8 => dec_f h9 h8)) hI (Same.rf _ M))
set_option maxHeartbeats 4000000 in
set_option maxRecDepth 100000 in
theorem q_all {w : Bool} {M : Mm} {n P cnt : Nat → Nat} {k : Nat} {W : Nat → Nat → Int32} {pv : Nat → Nat} {L R H : Nat} {z : Nat → Int32} {g : Nat} {q : Nat → Nat → Nat} (hI : RInv M (n, P, cnt, k, W, pv, L, R, H, z, g, q))  (x : Int32) : CT mX8_all [.ref 25, .int x] (shF w) M (Ql (spAll (n, P, cnt, k, W, pv, L, R, H, z, g, q) x).1 (shF w) (fun m0 => RInv m0 (spAll (n, P, cnt, k, W, pv, L, R, H, z, g, q) x).2 ∧ FrR M m0)) := by
  refine CT.mk (lv := [(0, .ref 25), (1, .int x)]) rfl (by decide +kernel) (Nat.le_of_ble_eq_true rfl) ?_
  intro X C RT
  obtain ⟨hB, hCt, hF, hH, hG, hQ⟩ := id hI
  obtain ⟨hS, hT, hL, hL1, hL3⟩ := id hB
  have n0 := hS.2.1 0 (by decide)
  have n1 := hS.2.1 1 (by decide)
  have n2 := hS.2.1 2 (by decide)
  have hN1 := prd_le n0.2 n1.2 n2.2 7
  have hN0 := prd_pos (n := n) (by omega) (by omega) (by omega)
  have hNL : prd n 7 3 * L ≤ 8000 * 3 := Nat.mul_le_mul hN1 hL3
  have hNL0 : 0 < prd n 7 3 * L := Nat.mul_pos hN0 (by omega)
  have htt := tot_le n0.2 n1.2 n2.2 hB.le
  have hht : tot n (fun a b c => hit1 (EE n P k W pv L a b c)) ≤ 8000 * 1 := tot_le n0.2 n1.2 n2.2 (fun a b c => by unfold hit1; split <;> omega)
  by_cases hx : inn x 0 4
  · obtain ⟨x9, _, u_x, rfl⟩ := inn_N (b := 4) hx (by decide)
    rcases (show x9 = 0 ∨ x9 = 1 ∨ x9 = 2 ∨ x9 = 3 ∨ x9 = 4 by omega) with rfl | rfl | rfl | rfl | rfl
    · refine e_aload_n C dX8_all_0 rfl rfl ?_
      refine e_callVvQ C dX8_all_1 [] (r_layOut hB hF) okX8_layOut lX8_139 rfl rfl rfl ⟨rfl, rfl⟩ ⟨Nat.le_of_ble_eq_true rfl, Nat.le_of_ble_eq_true rfl⟩ (Nat.le_of_ble_eq_true rfl) ⟨Nat.zero_le _, Nat.zero_le _⟩ (fun M1 hM1 => ?_)
      obtain ⟨hI, hf9⟩ := RInv.lo hI hM1
      obtain ⟨hB, hCt, hF, hH, hG, hQ⟩ := id hI
      obtain ⟨hS, hT, hL, hL1, hL3⟩ := id hB
      have n0 := hS.2.1 0 (by decide)
      have n1 := hS.2.1 1 (by decide)
      have n2 := hS.2.1 2 (by decide)
      have hl := hM1.1
      refine e_iload_n C dX8_all_4 rfl rfl ?_
      refine e_tableIn (tgt := 40) C dX8_all_5 (by decide) (by decide) rfl (by decide) ?_
      refine e_aload_n C dX8_all_40 rfl rfl ?_
      refine e_callVi C dX8_all_41 [] (r_allEndings hS) okX8_allEndings lX8_149 rfl rfl rfl ⟨rfl, rfl⟩ ⟨Nat.le_of_ble_eq_true rfl, Nat.le_of_ble_eq_true rfl⟩ (Nat.le_of_ble_eq_true rfl) ⟨Nat.zero_le _, Nat.zero_le _⟩ ?_
      refine e_i2lN C dX8_all_44 (by omega) ?_
      exact e_lret C dX8_all_45 RT ⟨Nat.zero_le _, Nat.zero_le _⟩ (rrl rfl hI hf9)
    · refine e_aload_n C dX8_all_0 rfl rfl ?_
      refine e_callVvQ C dX8_all_1 [] (r_layOut hB hF) okX8_layOut lX8_139 rfl rfl rfl ⟨rfl, rfl⟩ ⟨Nat.le_of_ble_eq_true rfl, Nat.le_of_ble_eq_true rfl⟩ (Nat.le_of_ble_eq_true rfl) ⟨Nat.zero_le _, Nat.zero_le _⟩ (fun M1 hM1 => ?_)
      obtain ⟨hI, hf9⟩ := RInv.lo hI hM1
      obtain ⟨hB, hCt, hF, hH, hG, hQ⟩ := id hI
      obtain ⟨hS, hT, hL, hL1, hL3⟩ := id hB
      have n0 := hS.2.1 0 (by decide)
      have n1 := hS.2.1 1 (by decide)
      have n2 := hS.2.1 2 (by decide)
      have hl := hM1.1
      refine e_iload_n C dX8_all_4 rfl rfl ?_
      refine e_tableIn (tgt := 46) C dX8_all_5 (by decide) (by decide) rfl (by decide) ?_
      refine e_aload_n C dX8_all_46 rfl rfl ?_
      refine e_getJ C dX8_all_47 fX8_122 rfl rfl ?_
      refine e_topl (lN (tot n (EE n P k W pv L))) hl.2.2.1 ?_
      exact e_lret C dX8_all_50 RT ⟨Nat.zero_le _, Nat.zero_le _⟩ (rrl rfl hI hf9)
    · refine e_aload_n C dX8_all_0 rfl rfl ?_
      refine e_callVvQ C dX8_all_1 [] (r_layOut hB hF) okX8_layOut lX8_139 rfl rfl rfl ⟨rfl, rfl⟩ ⟨Nat.le_of_ble_eq_true rfl, Nat.le_of_ble_eq_true rfl⟩ (Nat.le_of_ble_eq_true rfl) ⟨Nat.zero_le _, Nat.zero_le _⟩ (fun M1 hM1 => ?_)
      obtain ⟨hI, hf9⟩ := RInv.lo hI hM1
      obtain ⟨hB, hCt, hF, hH, hG, hQ⟩ := id hI
      obtain ⟨hS, hT, hL, hL1, hL3⟩ := id hB
      have n0 := hS.2.1 0 (by decide)
      have n1 := hS.2.1 1 (by decide)
      have n2 := hS.2.1 2 (by decide)
      have hl := hM1.1
      refine e_iload_n C dX8_all_4 rfl rfl ?_
      refine e_tableIn (tgt := 51) C dX8_all_5 (by decide) (by decide) rfl (by decide) ?_
      refine e_aload_n C dX8_all_51 rfl rfl ?_
      refine e_getI C dX8_all_52 fX8_126 rfl rfl ?_
      refine e_topi (nI (tot n (fun a b c => hit1 (EE n P k W pv L a b c)))) hl.2.2.2.1 ?_
      refine e_i2lN C dX8_all_55 (by omega) ?_
      exact e_lret C dX8_all_56 RT ⟨Nat.zero_le _, Nat.zero_le _⟩ (rrl rfl hI hf9)
    · refine e_aload_n C dX8_all_0 rfl rfl ?_
      refine e_callVvQ C dX8_all_1 [] (r_layOut hB hF) okX8_layOut lX8_139 rfl rfl rfl ⟨rfl, rfl⟩ ⟨Nat.le_of_ble_eq_true rfl, Nat.le_of_ble_eq_true rfl⟩ (Nat.le_of_ble_eq_true rfl) ⟨Nat.zero_le _, Nat.zero_le _⟩ (fun M1 hM1 => ?_)
      obtain ⟨hI, hf9⟩ := RInv.lo hI hM1
      obtain ⟨hB, hCt, hF, hH, hG, hQ⟩ := id hI
      obtain ⟨hS, hT, hL, hL1, hL3⟩ := id hB
      have n0 := hS.2.1 0 (by decide)
      have n1 := hS.2.1 1 (by decide)
      have n2 := hS.2.1 2 (by decide)
      have hl := hM1.1
      refine e_iload_n C dX8_all_4 rfl rfl ?_
      refine e_tableIn (tgt := 57) C dX8_all_5 (by decide) (by decide) rfl (by decide) ?_
      refine e_aload_n C dX8_all_57 rfl rfl ?_
      refine e_getJ C dX8_all_58 fX8_122 rfl rfl ?_
      refine e_topl (lN (tot n (EE n P k W pv L))) hl.2.2.1 ?_
      refine e_ldc2 (v := lN 1000) C dX8_all_61 kX8_153 ?_
      refine e_lmulN C dX8_all_64 ?_
      refine e_aload_n C dX8_all_65 rfl rfl ?_
      refine e_callVi C dX8_all_66 [] (r_allEndings hS) okX8_allEndings lX8_149 rfl rfl rfl ⟨rfl, rfl⟩ ⟨Nat.le_of_ble_eq_true rfl, Nat.le_of_ble_eq_true rfl⟩ (Nat.le_of_ble_eq_true rfl) ⟨Nat.zero_le _, Nat.zero_le _⟩ ?_
      refine e_i2lN C dX8_all_69 (by omega) ?_
      refine e_aload_n C dX8_all_70 rfl rfl ?_
      refine e_getI C dX8_all_71 fX8_31 rfl rfl ?_
      refine e_topi (nI L) hL ?_
      refine e_i2lN C dX8_all_74 (by omega) ?_
      refine e_lmulN C dX8_all_75 ?_
      refine e_ldivN C dX8_all_76 (by omega) (by omega) (by omega) ?_
      exact e_lret C dX8_all_77 RT ⟨Nat.zero_le _, Nat.zero_le _⟩ (rrl rfl hI hf9)
    · refine e_aload_n C dX8_all_0 rfl rfl ?_
      refine e_callVvQ C dX8_all_1 [] (r_layOut hB hF) okX8_layOut lX8_139 rfl rfl rfl ⟨rfl, rfl⟩ ⟨Nat.le_of_ble_eq_true rfl, Nat.le_of_ble_eq_true rfl⟩ (Nat.le_of_ble_eq_true rfl) ⟨Nat.zero_le _, Nat.zero_le _⟩ (fun M1 hM1 => ?_)
      obtain ⟨hI, hf9⟩ := RInv.lo hI hM1
      obtain ⟨hB, hCt, hF, hH, hG, hQ⟩ := id hI
      obtain ⟨hS, hT, hL, hL1, hL3⟩ := id hB
      have n0 := hS.2.1 0 (by decide)
      have n1 := hS.2.1 1 (by decide)
      have n2 := hS.2.1 2 (by decide)
      have hl := hM1.1
      refine e_iload_n C dX8_all_4 rfl rfl ?_
      refine e_tableIn (tgt := 78) C dX8_all_5 (by decide) (by decide) rfl (by decide) ?_
      refine e_aload_n C dX8_all_78 rfl rfl ?_
      refine e_callVl C dX8_all_79 [] (r_playedBest hB hl) okX8_playedBest lX8_155 rfl rfl rfl ⟨rfl, rfl⟩ ⟨Nat.le_of_ble_eq_true rfl, Nat.le_of_ble_eq_true rfl⟩ (Nat.le_of_ble_eq_true rfl) ⟨Nat.zero_le _, Nat.zero_le _⟩ ?_
      exact e_lret C dX8_all_82 RT ⟨Nat.zero_le _, Nat.zero_le _⟩ (rrl rfl hI hf9)
  · refine e_aload_n C dX8_all_0 rfl rfl ?_
    refine e_callVvQ C dX8_all_1 [] (r_layOut hB hF) okX8_layOut lX8_139 rfl rfl rfl ⟨rfl, rfl⟩ ⟨Nat.le_of_ble_eq_true rfl, Nat.le_of_ble_eq_true rfl⟩ (Nat.le_of_ble_eq_true rfl) ⟨Nat.zero_le _, Nat.zero_le _⟩ (fun M1 hM1 => ?_)
    obtain ⟨hI, hf9⟩ := RInv.lo hI hM1
    obtain ⟨hB, hCt, hF, hH, hG, hQ⟩ := id hI
    obtain ⟨hS, hT, hL, hL1, hL3⟩ := id hB
    have n0 := hS.2.1 0 (by decide)
    have n1 := hS.2.1 1 (by decide)
    have n2 := hS.2.1 2 (by decide)
    have hl := hM1.1
    refine e_iload_n C dX8_all_4 rfl rfl ?_
    refine e_tableOut (tgt := 83) C dX8_all_5 (by unfold inn at hx; omega) (by decide) ?_
    refine e_ldc2 (v := (-2)) C dX8_all_83 kX8_159 ?_
    exact e_lret C dX8_all_86 RT ⟨Nat.zero_le _, Nat.zero_le _⟩ (rrl (congrArg (fun y => (y, (n, P, cnt, k, W, pv, L, R, H, z, g, q))) (by rw [if_neg (fun e => hx (by subst e; decide)), if_neg (fun e => hx (by subst e; decide)), if_neg (fun e => hx (by subst e; decide)), if_neg (fun e => hx (by subst e; decide)), if_neg (fun e => hx (by subst e; decide))])) hI hf9)
