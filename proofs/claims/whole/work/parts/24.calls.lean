theorem ffB {M : Mm} {n P : Nat → Nat} {k : Nat} {W : Nat → Nat → Int32} {pv : Nat → Nat} {L : Nat} (h : Bs M n P k W pv L) : Bs (sI M 0 (upd (upd (gI M 0) 10 (nI 0)) 11 (nI 0))) n P k W pv L := h.same (by rw [gI_sI, upd_n _ _ (by decide), upd_n _ _ (by decide)]) (gI_sI_ne _ _ (by decide)) (gI_sI_ne _ _ (by decide)) (gI_sI_ne _ _ (by decide)) (gI_sI_ne _ _ (by decide)) (gI_sI_ne _ _ (by decide)) (gI_sI_ne _ _ (by decide)) (gI_sI_ne _ _ (by decide))
/-- found out anew: what is left when the class forgets -/
theorem CInv.ff {M M2 : Mm} {n P cnt : Nat → Nat} {k : Nat} {W : Nat → Nat → Int32} {pv : Nat → Nat} {L R H : Nat} {z : Nat → Int32} {g : Nat} {q : Nat → Nat → Nat} (hM2 : M2 = sI M 0 (upd (upd (gI M 0) 10 (nI 0)) 11 (nI 0))) (hB : Bs M n P k W pv L) (hc : CtOK M cnt) (ht : TlOK M R H z) (hg : SgOK M g q) (hq : QOK n g q) : CInv M2 (n, P, cnt, k, W, pv, L, R, H, z, g, q) := by
  subst hM2
  exact CInv.fresh (ffB hB) (hc.same (gI_sI_ne _ _ (by decide))) (by rw [gI_sI, upd_n _ _ (by decide), upd_s]) (by rw [gI_sI, upd_s]) (ht.same (gI_sI_ne _ _ (by decide))) (hg.same (gI_sI_ne _ _ (by decide)) (gI_sI_ne _ _ (by decide))) hq
theorem QOK.z {n : Nat → Nat} {q : Nat → Nat → Nat} : QOK n 0 q := fun i hi => absurd hi (by omega)
theorem rngd {ks : List Nat} {M M2 : Mm} (h : Same ks M M2) (hk : ∀ k, k ∈ ks → k ∈ List.range 25) : FrC M M2 := h.up hk
set_option maxHeartbeats 4000000 in
set_option maxRecDepth 100000 in
theorem p_reel {w : Bool} {M : Mm} {n P cnt : Nat → Nat} {k : Nat} {W : Nat → Nat → Int32} {pv : Nat → Nat} {L R H : Nat} {z : Nat → Int32} {g : Nat} {q : Nat → Nat → Nat} (hI : CInv M (n, P, cnt, k, W, pv, L, R, H, z, g, q))  (r x : Int32) : CT mX7_reel [.ref 0, .int r, .int x] (shF w) M (Qi (spReel (n, P, cnt, k, W, pv, L, R, H, z, g, q) r x).1 (shF w) (fun m0 => CInv m0 (spReel (n, P, cnt, k, W, pv, L, R, H, z, g, q) r x).2 ∧ FrC M m0)) := by
  refine CT.mk (lv := [(0, .ref 0), (1, .int r), (2, .int x)]) rfl (by decide +kernel) (Nat.le_of_ble_eq_true rfl) ?_
  intro X C RT
  obtain ⟨hB, hCt, hF, hF2, hT7, hG, hQ⟩ := id hI
  obtain ⟨hS, hT, hL, hL1, hL3⟩ := id hB
  have n0 := hS.2.1 0 (by decide)
  have n1 := hS.2.1 1 (by decide)
  have n2 := hS.2.1 2 (by decide)
  refine e_iload_n C dX7_reel_0 rfl rfl ?_
  refine e_callSi C dX7_reel_1 [.int r] (k_isReelN r) okX7_isReel lX7_77 rfl ⟨rfl, rfl⟩ ⟨Nat.le_of_ble_eq_true rfl, Nat.le_of_ble_eq_true rfl⟩ (Nat.le_of_ble_eq_true rfl) ⟨Nat.zero_le _, Nat.zero_le _⟩ ?_
  refine e_if_eqB (b := decide (inn r 0 2)) (tgt := 17) C dX7_reel_4 (by decide) (fun h4 => ?_) (fun h4 => ?_)
  · refine e_bipush (v := (-2)) C dX7_reel_17 (by decide) ?_
    exact e_zret C dX7_reel_19 RT rfl ⟨Nat.zero_le _, Nat.zero_le _⟩ (rqi (if_neg (fun h9 => dec_f h4 h9.1)) hI (Same.rf _ M))
  · refine e_iload_n C dX7_reel_7 rfl rfl ?_
    refine e_iconst (v := (nI 4)) C dX7_reel_8 (by decide) ?_
    refine e_bipush (v := (nI 20)) C dX7_reel_9 (by decide) ?_
    refine e_callSi C dX7_reel_11 [.int x, .int (nI 4), .int (nI 20)] (k_withinN x 4 20 (by omega) (by omega)) okX7_within lX7_81 rfl ⟨rfl, rfl⟩ ⟨Nat.le_of_ble_eq_true rfl, Nat.le_of_ble_eq_true rfl⟩ (Nat.le_of_ble_eq_true rfl) ⟨Nat.zero_le _, Nat.zero_le _⟩ ?_
    refine e_if_neB (b := decide (inn x (4 : Nat) (20 : Nat))) (tgt := 20) C dX7_reel_14 (by decide) (fun h14 => ?_) (fun h14 => ?_)
    · obtain ⟨r9, l_r9, u_r9, rfl⟩ := inn_N (b := 2) (dec_t h4) (by decide)
      obtain ⟨x9, l_x9, u_x9, rfl⟩ := inn_N (b := 20) (dec_t h14) (by decide)
      refine e_aload_n C dX7_reel_20 rfl rfl ?_
      refine e_getR (q := 1) C dX7_reel_21 fX7_10 rfl rfl ?_
      refine e_iload_n C dX7_reel_24 rfl rfl ?_
      refine e_iload_n C dX7_reel_25 rfl rfl ?_
      refine e_callVvQ C dX7_reel_26 [.int (nI r9), .int (nI x9)] (k_blank hS r9 x9 (by omega) (by omega)) okX4_blank lX7_85 rfl rfl rfl ⟨rfl, rfl⟩ ⟨Nat.le_of_ble_eq_true rfl, Nat.le_of_ble_eq_true rfl⟩ (Nat.le_of_ble_eq_true rfl) ⟨Nat.zero_le _, Nat.zero_le _⟩ (fun M1 hM1 => ?_)
      refine e_aload_n C dX7_reel_29 rfl rfl ?_
      refine e_getR (q := 18) C dX7_reel_30 fX7_51 rfl rfl ?_
      refine e_callVvQ C dX7_reel_33 [] (k_forget (q := q)) okX3_forget lX7_89 rfl rfl rfl ⟨rfl, rfl⟩ ⟨Nat.le_of_ble_eq_true rfl, Nat.le_of_ble_eq_true rfl⟩ (Nat.le_of_ble_eq_true rfl) ⟨Nat.zero_le _, Nat.zero_le _⟩ (fun M2 hM2 => ?_)
      refine e_aload_n C dX7_reel_36 rfl rfl ?_
      refine e_callVv C dX7_reel_37 [] (k_forgetFound) okX7_forgetFound lX7_92 rfl rfl rfl rfl ⟨rfl, rfl⟩ ⟨Nat.le_of_ble_eq_true rfl, Nat.le_of_ble_eq_true rfl⟩ (Nat.le_of_ble_eq_true rfl) ⟨Nat.zero_le _, Nat.zero_le _⟩ ?_
      refine e_nm (fun M3 hM3 => ?_)
      refine e_iconst (v := (nI 1)) C dX7_reel_40 (by decide) ?_
      exact e_zret C dX7_reel_41 RT rfl ⟨Nat.zero_le _, Nat.zero_le _⟩ (rqi (by rw [show spReel (n, P, cnt, k, W, pv, L, R, H, z, g, q) (nI r9) (nI x9) = _ from if_pos ⟨dec_t h4, dec_t h14⟩, tn_nI (q := r9) (by omega), tn_nI (q := x9) (by omega)]; rfl) (show CInv _ (va_up n r9 x9, blkP P r9, cnt, k, W, pv, L, R, H, z, 0, q) from CInv.ff hM3 ⟨hM1.1.same (hM2.2.gI (by decide)) (hM2.2.gI (by decide)) (hM2.2.gI (by decide)), (hT.same (hM1.2.gI (by decide)) (hM1.2.gI (by decide)) (hM1.2.gI (by decide)) (hM1.2.gI (by decide))).same (hM2.2.gI (by decide)) (hM2.2.gI (by decide)) (hM2.2.gI (by decide)) (hM2.2.gI (by decide)), by rw [hM2.2.gI (by decide), hM1.2.gI (by decide)]; exact hL, hL1, hL3⟩ ((hCt.same (hM1.2.gI (by decide))).same (hM2.2.gI (by decide))) ((hT7.same (hM1.2.gI (by decide))).same (hM2.2.gI (by decide))) hM2.1 QOK.z) (hM3 ▸ (((rngd hM1.2 (by decide)).tr (rngd hM2.2 (by decide))).I (by decide))))
    · refine e_bipush (v := (-2)) C dX7_reel_17 (by decide) ?_
      exact e_zret C dX7_reel_19 RT rfl ⟨Nat.zero_le _, Nat.zero_le _⟩ (rqi (if_neg (fun h9 => dec_f h14 h9.2)) hI (Same.rf _ M))
theorem StOK.put {M : Mm} {n P : Nat → Nat} (h : StOK M n P) {j p : Nat} (hp : p < 8) : StOK (sI M 3 (upd (gI M 3) j (nI p))) n (va_up P j p) := by
  obtain ⟨h1, h2, h3, h4, h5⟩ := h
  refine ⟨by rw [gI_sI_ne _ _ (by decide)]; exact h1, h2, fun i hi => ?_, fun i => ?_, by rw [gI_sI_ne _ _ (by decide)]; exact h5⟩
  · rw [gI_sI]
    by_cases e : i = j
    · subst e; rw [upd_s, up_s]
    · rw [upd_n _ _ e, up_n _ _ e]; exact h3 i hi
  · by_cases e : i = j
    · subst e; rw [up_s]; exact hp
    · rw [up_n _ _ e]; exact h4 i
theorem CtOK.put {M : Mm} {cnt : Nat → Nat} (h : CtOK M cnt) {p m : Nat} (hm : m ≤ 20) : CtOK (sI M 6 (upd (gI M 6) p (nI m))) (va_up cnt p m) := by
  intro i hi
  rw [gI_sI]
  by_cases e : i = p
  · subst e; rw [upd_s, up_s]; exact ⟨rfl, hm⟩
  · rw [upd_n _ _ e, up_n _ _ e]; exact h i hi
set_option maxHeartbeats 4000000 in
set_option maxRecDepth 100000 in
theorem p_picture {w : Bool} {M : Mm} {n P cnt : Nat → Nat} {k : Nat} {W : Nat → Nat → Int32} {pv : Nat → Nat} {L R H : Nat} {z : Nat → Int32} {g : Nat} {q : Nat → Nat → Nat} (hI : CInv M (n, P, cnt, k, W, pv, L, R, H, z, g, q))  (r s p : Int32) : CT mX7_picture [.ref 0, .int r, .int s, .int p] (shF w) M (Qi (spPicture (n, P, cnt, k, W, pv, L, R, H, z, g, q) r s p).1 (shF w) (fun m0 => CInv m0 (spPicture (n, P, cnt, k, W, pv, L, R, H, z, g, q) r s p).2 ∧ FrC M m0)) := by
  refine CT.mk (lv := [(0, .ref 0), (1, .int r), (2, .int s), (3, .int p)]) rfl (by decide +kernel) (Nat.le_of_ble_eq_true rfl) ?_
  intro X C RT
  obtain ⟨hB, hCt, hF, hF2, hT7, hG, hQ⟩ := id hI
  obtain ⟨hS, hT, hL, hL1, hL3⟩ := id hB
  have n0 := hS.2.1 0 (by decide)
  have n1 := hS.2.1 1 (by decide)
  have n2 := hS.2.1 2 (by decide)
  refine e_aload_n C dX7_picture_0 rfl rfl ?_
  refine e_getR (q := 1) C dX7_picture_1 fX7_10 rfl rfl ?_
  refine e_iload_n C dX7_picture_4 rfl rfl ?_
  refine e_iload_n C dX7_picture_5 rfl rfl ?_
  refine e_callVi C dX7_picture_6 [.int r, .int s] (k_hasStop hS r s) okX4_hasStop lX7_95 rfl rfl rfl ⟨rfl, rfl⟩ ⟨Nat.le_of_ble_eq_true rfl, Nat.le_of_ble_eq_true rfl⟩ (Nat.le_of_ble_eq_true rfl) ⟨Nat.zero_le _, Nat.zero_le _⟩ ?_
  refine e_if_eqB (b := hasSt n r s) (tgt := 19) C dX7_picture_9 (by decide) (fun h9 => ?_) (fun h9 => ?_)
  · refine e_bipush (v := (-2)) C dX7_picture_19 (by decide) ?_
    exact e_zret C dX7_picture_21 RT rfl ⟨Nat.zero_le _, Nat.zero_le _⟩ (rqi (if_neg (fun h8 => by rw [h9] at h8; exact absurd h8.1 (by decide))) hI (Same.rf _ M))
  · refine e_iload_n C dX7_picture_12 rfl rfl ?_
    refine e_callSi C dX7_picture_13 [.int p] (k_isPictureN p) okX7_isPicture lX7_99 rfl ⟨rfl, rfl⟩ ⟨Nat.le_of_ble_eq_true rfl, Nat.le_of_ble_eq_true rfl⟩ (Nat.le_of_ble_eq_true rfl) ⟨Nat.zero_le _, Nat.zero_le _⟩ ?_
    refine e_if_neB (b := decide (inn p 0 7)) (tgt := 22) C dX7_picture_16 (by decide) (fun h16 => ?_) (fun h16 => ?_)
    · obtain ⟨r9, s9, l_r, l_s, rfl, rfl⟩ := hasSt_N h9
      have hn9 := hS.2.1 r9 l_r
      obtain ⟨p9, l_p9, u_p9, rfl⟩ := inn_N (b := 7) (dec_t h16) (by decide)
      refine e_aload_n C dX7_picture_22 rfl rfl ?_
      refine e_getR (q := 1) C dX7_picture_23 fX7_10 rfl rfl ?_
      refine e_iload_n C dX7_picture_26 rfl rfl ?_
      refine e_iload_n C dX7_picture_27 rfl rfl ?_
      have hb1 := hS.2.2.2.1 (r9 * 20 + s9)
      refine e_callVi C dX7_picture_28 [.int (nI r9), .int (nI s9)] (k_shown hS r9 s9 (by omega) (by omega)) okX4_shown lX7_102 rfl rfl rfl ⟨rfl, rfl⟩ ⟨Nat.le_of_ble_eq_true rfl, Nat.le_of_ble_eq_true rfl⟩ (Nat.le_of_ble_eq_true rfl) ⟨Nat.zero_le _, Nat.zero_le _⟩ ?_
      refine e_istore (lv2 := [(4, .int (nI (P (r9 * 20 + s9)))), (0, .ref 0), (1, .int (nI r9)), (2, .int (nI s9)), (3, .int (nI p9))]) C dX7_picture_31 (by decide) rfl ?_
      refine e_aload_n C dX7_picture_33 rfl rfl ?_
      refine e_getR (q := 1) C dX7_picture_34 fX7_10 rfl rfl ?_
      refine e_iload_n C dX7_picture_37 rfl rfl ?_
      refine e_iload_n C dX7_picture_38 rfl rfl ?_
      refine e_iload_n C dX7_picture_39 rfl rfl ?_
      refine e_callVv C dX7_picture_40 [.int (nI r9), .int (nI s9), .int (nI p9)] (k_put r9 s9 p9 (by omega) (by omega)) okX4_put lX7_106 rfl rfl rfl rfl ⟨rfl, rfl⟩ ⟨Nat.le_of_ble_eq_true rfl, Nat.le_of_ble_eq_true rfl⟩ (Nat.le_of_ble_eq_true rfl) ⟨Nat.zero_le _, Nat.zero_le _⟩ ?_
      refine e_nm (fun M2 hM2 => ?_)
      refine e_aload_n C dX7_picture_43 rfl rfl ?_
      refine e_callVv C dX7_picture_44 [] (k_forgetFound) okX7_forgetFound lX7_92 rfl rfl rfl rfl ⟨rfl, rfl⟩ ⟨Nat.le_of_ble_eq_true rfl, Nat.le_of_ble_eq_true rfl⟩ (Nat.le_of_ble_eq_true rfl) ⟨Nat.zero_le _, Nat.zero_le _⟩ ?_
      refine e_nm (fun M3 hM3 => ?_)
      refine e_iload C dX7_picture_47 rfl ?_
      exact e_zret C dX7_picture_49 RT rfl ⟨Nat.zero_le _, Nat.zero_le _⟩ (rqi (by rw [show spPicture (n, P, cnt, k, W, pv, L, R, H, z, g, q) (nI r9) (nI s9) (nI p9) = _ from if_pos ⟨h9, dec_t h16⟩, tn_nI (q := r9) (by omega), tn_nI (q := s9) (by omega), tn_nI (q := p9) (by omega)]) (show CInv _ (n, va_up P (r9 * 20 + s9) p9, cnt, k, W, pv, L, R, H, z, g, q) from CInv.ff hM3 (by subst hM2; exact ⟨hS.put (by omega), hT.same (gI_sI_ne _ _ (by decide)) (gI_sI_ne _ _ (by decide)) (gI_sI_ne _ _ (by decide)) (gI_sI_ne _ _ (by decide)), by rw [gI_sI_ne _ _ (by decide)]; exact hL, hL1, hL3⟩) (by subst hM2; exact hCt.same (gI_sI_ne _ _ (by decide))) (by subst hM2; exact hT7.same (gI_sI_ne _ _ (by decide))) (by subst hM2; exact hG.same (gI_sI_ne _ _ (by decide)) (gI_sI_ne _ _ (by decide))) hQ) (by subst hM3 hM2; exact ((Same.rf _ M).I (by decide)).I (by decide)))
    · refine e_bipush (v := (-2)) C dX7_picture_19 (by decide) ?_
      exact e_zret C dX7_picture_21 RT rfl ⟨Nat.zero_le _, Nat.zero_le _⟩ (rqi (if_neg (fun h9 => dec_f h16 h9.2)) hI (Same.rf _ M))
set_option maxHeartbeats 4000000 in
set_option maxRecDepth 100000 in
theorem p_at {w : Bool} {M : Mm} {n P cnt : Nat → Nat} {k : Nat} {W : Nat → Nat → Int32} {pv : Nat → Nat} {L R H : Nat} {z : Nat → Int32} {g : Nat} {q : Nat → Nat → Nat} (hI : CInv M (n, P, cnt, k, W, pv, L, R, H, z, g, q))  (r s : Int32) : CT mX7_at [.ref 0, .int r, .int s] (shF w) M (Qi (spAt (n, P, cnt, k, W, pv, L, R, H, z, g, q) r s).1 (shF w) (fun m0 => CInv m0 (spAt (n, P, cnt, k, W, pv, L, R, H, z, g, q) r s).2 ∧ FrC M m0)) := by
  refine CT.mk (lv := [(0, .ref 0), (1, .int r), (2, .int s)]) rfl (by decide +kernel) (Nat.le_of_ble_eq_true rfl) ?_
  intro X C RT
  obtain ⟨hB, hCt, hF, hF2, hT7, hG, hQ⟩ := id hI
  obtain ⟨hS, hT, hL, hL1, hL3⟩ := id hB
  have n0 := hS.2.1 0 (by decide)
  have n1 := hS.2.1 1 (by decide)
  have n2 := hS.2.1 2 (by decide)
  refine e_aload_n C dX7_at_0 rfl rfl ?_
  refine e_getR (q := 1) C dX7_at_1 fX7_10 rfl rfl ?_
  refine e_iload_n C dX7_at_4 rfl rfl ?_
  refine e_iload_n C dX7_at_5 rfl rfl ?_
  refine e_callVi C dX7_at_6 [.int r, .int s] (k_hasStop hS r s) okX4_hasStop lX7_95 rfl rfl rfl ⟨rfl, rfl⟩ ⟨Nat.le_of_ble_eq_true rfl, Nat.le_of_ble_eq_true rfl⟩ (Nat.le_of_ble_eq_true rfl) ⟨Nat.zero_le _, Nat.zero_le _⟩ ?_
  refine e_if_eqB (b := hasSt n r s) (tgt := 24) C dX7_at_9 (by decide) (fun h9 => ?_) (fun h9 => ?_)
  · refine e_bipush (v := (-2)) C dX7_at_24 (by decide) ?_
    exact e_zret C dX7_at_26 RT rfl ⟨Nat.zero_le _, Nat.zero_le _⟩ (rqi (if_neg (fun h8 => by rw [h9] at h8; exact absurd h8 (by decide))) hI (Same.rf _ M))
  · obtain ⟨r9, s9, l_r, l_s, rfl, rfl⟩ := hasSt_N h9
    have hn9 := hS.2.1 r9 l_r
    refine e_aload_n C dX7_at_12 rfl rfl ?_
    refine e_getR (q := 1) C dX7_at_13 fX7_10 rfl rfl ?_
    refine e_iload_n C dX7_at_16 rfl rfl ?_
    refine e_iload_n C dX7_at_17 rfl rfl ?_
    have hb1 := hS.2.2.2.1 (r9 * 20 + s9)
    refine e_callVi C dX7_at_18 [.int (nI r9), .int (nI s9)] (k_shown hS r9 s9 (by omega) (by omega)) okX4_shown lX7_102 rfl rfl rfl ⟨rfl, rfl⟩ ⟨Nat.le_of_ble_eq_true rfl, Nat.le_of_ble_eq_true rfl⟩ (Nat.le_of_ble_eq_true rfl) ⟨Nat.zero_le _, Nat.zero_le _⟩ ?_
    refine e_goto (tgt := 26) C dX7_at_21 (by decide) ?_
    exact e_zret C dX7_at_26 RT rfl ⟨Nat.zero_le _, Nat.zero_le _⟩ (rqi (by rw [show spAt (n, P, cnt, k, W, pv, L, R, H, z, g, q) (nI r9) (nI s9) = _ from if_pos h9, tn_nI (q := r9) (by omega), tn_nI (q := s9) (by omega)]) (show CInv _ (n, P, cnt, k, W, pv, L, R, H, z, g, q) from hI) (Same.rf _ M))
set_option maxHeartbeats 4000000 in
set_option maxRecDepth 100000 in
theorem p_count {w : Bool} {M : Mm} {n P cnt : Nat → Nat} {k : Nat} {W : Nat → Nat → Int32} {pv : Nat → Nat} {L R H : Nat} {z : Nat → Int32} {g : Nat} {q : Nat → Nat → Nat} (hI : CInv M (n, P, cnt, k, W, pv, L, R, H, z, g, q))  (p m : Int32) : CT mX7_count [.ref 0, .int p, .int m] (shF w) M (Qi (spCount (n, P, cnt, k, W, pv, L, R, H, z, g, q) p m).1 (shF w) (fun m0 => CInv m0 (spCount (n, P, cnt, k, W, pv, L, R, H, z, g, q) p m).2 ∧ FrC M m0)) := by
  refine CT.mk (lv := [(0, .ref 0), (1, .int p), (2, .int m)]) rfl (by decide +kernel) (Nat.le_of_ble_eq_true rfl) ?_
  intro X C RT
  obtain ⟨hB, hCt, hF, hF2, hT7, hG, hQ⟩ := id hI
  obtain ⟨hS, hT, hL, hL1, hL3⟩ := id hB
  have n0 := hS.2.1 0 (by decide)
  have n1 := hS.2.1 1 (by decide)
  have n2 := hS.2.1 2 (by decide)
  refine e_iload_n C dX7_count_0 rfl rfl ?_
  refine e_callSi C dX7_count_1 [.int p] (k_isPictureN p) okX7_isPicture lX7_99 rfl ⟨rfl, rfl⟩ ⟨Nat.le_of_ble_eq_true rfl, Nat.le_of_ble_eq_true rfl⟩ (Nat.le_of_ble_eq_true rfl) ⟨Nat.zero_le _, Nat.zero_le _⟩ ?_
  refine e_if_eqB (b := decide (inn p 0 7)) (tgt := 17) C dX7_count_4 (by decide) (fun h4 => ?_) (fun h4 => ?_)
  · refine e_bipush (v := (-2)) C dX7_count_17 (by decide) ?_
    exact e_zret C dX7_count_19 RT rfl ⟨Nat.zero_le _, Nat.zero_le _⟩ (rqi (if_neg (fun h9 => dec_f h4 h9.1)) hI (Same.rf _ M))
  · refine e_iload_n C dX7_count_7 rfl rfl ?_
    refine e_iconst (v := (nI 0)) C dX7_count_8 (by decide) ?_
    refine e_bipush (v := (nI 20)) C dX7_count_9 (by decide) ?_
    refine e_callSi C dX7_count_11 [.int m, .int (nI 0), .int (nI 20)] (k_withinN m 0 20 (by omega) (by omega)) okX7_within lX7_81 rfl ⟨rfl, rfl⟩ ⟨Nat.le_of_ble_eq_true rfl, Nat.le_of_ble_eq_true rfl⟩ (Nat.le_of_ble_eq_true rfl) ⟨Nat.zero_le _, Nat.zero_le _⟩ ?_
    refine e_if_neB (b := decide (inn m (0 : Nat) (20 : Nat))) (tgt := 20) C dX7_count_14 (by decide) (fun h14 => ?_) (fun h14 => ?_)
    · obtain ⟨p9, l_p9, u_p9, rfl⟩ := inn_N (b := 7) (dec_t h4) (by decide)
      obtain ⟨m9, l_m9, u_m9, rfl⟩ := inn_N (b := 20) (dec_t h14) (by decide)
      refine e_aload_n C dX7_count_20 rfl rfl ?_
      refine e_getR (q := 6) C dX7_count_21 fX7_16 rfl rfl ?_
      refine e_iload_n C dX7_count_24 rfl rfl ?_
      refine e_ialoadN C dX7_count_25 rfl (by omega) (by omega) ?_
      refine e_topi (nI (cnt p9)) (hCt p9 (by omega)).1 ?_
      refine e_istore_n (lv2 := [(3, .int (nI (cnt p9))), (0, .ref 0), (1, .int (nI p9)), (2, .int (nI m9))]) C dX7_count_26 rfl (by decide) rfl ?_
      refine e_aload_n C dX7_count_27 rfl rfl ?_
      refine e_getR (q := 6) C dX7_count_28 fX7_16 rfl rfl ?_
      refine e_iload_n C dX7_count_31 rfl rfl ?_
      refine e_iload_n C dX7_count_32 rfl rfl ?_
      refine e_iastoreN C dX7_count_33 rfl (by omega) (by omega) ?_
      refine e_nm (fun M1 hM1 => ?_)
      refine e_iload_n C dX7_count_34 rfl rfl ?_
      exact e_zret C dX7_count_35 RT rfl ⟨Nat.zero_le _, Nat.zero_le _⟩ (rqi (by rw [show spCount (n, P, cnt, k, W, pv, L, R, H, z, g, q) (nI p9) (nI m9) = _ from if_pos ⟨dec_t h4, dec_t h14⟩, tn_nI (q := p9) (by omega), tn_nI (q := m9) (by omega)]) (show CInv _ (n, P, va_up cnt p9 m9, k, W, pv, L, R, H, z, g, q) from (by subst hM1; exact ⟨hB.sm ((Same.rf [6] M).I (by decide)) (by decide), hCt.put (by omega), hF.same (by rw [gI_sI_ne _ _ (by decide)]) rfl (gI_sI_ne _ _ (by decide)) rfl rfl, hF2.same (by rw [gI_sI_ne _ _ (by decide)]) (gI_sI_ne _ _ (by decide)) (gI_sI_ne _ _ (by decide)) (gI_sI_ne _ _ (by decide)), hT7.same (gI_sI_ne _ _ (by decide)), hG.same (gI_sI_ne _ _ (by decide)) (gI_sI_ne _ _ (by decide)), hQ⟩)) (by subst hM1; exact (Same.rf _ M).I (by decide)))
    · refine e_bipush (v := (-2)) C dX7_count_17 (by decide) ?_
      exact e_zret C dX7_count_19 RT rfl ⟨Nat.zero_le _, Nat.zero_le _⟩ (rqi (if_neg (fun h9 => dec_f h14 h9.2)) hI (Same.rf _ M))
set_option maxHeartbeats 4000000 in
set_option maxRecDepth 100000 in
theorem p_lay {w : Bool} {M : Mm} {n P cnt : Nat → Nat} {k : Nat} {W : Nat → Nat → Int32} {pv : Nat → Nat} {L R H : Nat} {z : Nat → Int32} {g : Nat} {q : Nat → Nat → Nat} (hI : CInv M (n, P, cnt, k, W, pv, L, R, H, z, g, q))  (r : Int32) : CT mX7_lay [.ref 0, .int r] (shF w) M (Qi (spLay (n, P, cnt, k, W, pv, L, R, H, z, g, q) r).1 (shF w) (fun m0 => CInv m0 (spLay (n, P, cnt, k, W, pv, L, R, H, z, g, q) r).2 ∧ FrC M m0)) := by
  refine CT.mk (lv := [(0, .ref 0), (1, .int r)]) rfl (by decide +kernel) (Nat.le_of_ble_eq_true rfl) ?_
  intro X C RT
  obtain ⟨hB, hCt, hF, hF2, hT7, hG, hQ⟩ := id hI
  obtain ⟨hS, hT, hL, hL1, hL3⟩ := id hB
  have n0 := hS.2.1 0 (by decide)
  have n1 := hS.2.1 1 (by decide)
  have n2 := hS.2.1 2 (by decide)
  have hs20 : ∀ i, i ≤ 8 → sumN cnt i ≤ 160 := fun i hi => Nat.le_trans (sumN_le (B := 20) (fun j hj => (hCt j (by omega)).2)) (by omega)
  refine e_iload_n C dX7_lay_0 rfl rfl ?_
  refine e_callSi C dX7_lay_1 [.int r] (k_isReelN r) okX7_isReel lX7_77 rfl ⟨rfl, rfl⟩ ⟨Nat.le_of_ble_eq_true rfl, Nat.le_of_ble_eq_true rfl⟩ (Nat.le_of_ble_eq_true rfl) ⟨Nat.zero_le _, Nat.zero_le _⟩ ?_
  refine e_if_neB (b := decide (inn r 0 2)) (tgt := 10) C dX7_lay_4 (by decide) (fun h4 => ?_) (fun h4 => ?_)
  · obtain ⟨r9, l_r9, u_r9, rfl⟩ := inn_N (b := 2) (dec_t h4) (by decide)
    refine e_iconst (v := (nI 0)) C dX7_lay_10 (by decide) ?_
    refine e_istore_n (lv2 := [(2, .int (nI 0)), (0, .ref 0), (1, .int (nI r9))]) C dX7_lay_11 rfl (by decide) rfl ?_
    refine e_iconst (v := (nI 0)) C dX7_lay_12 (by decide) ?_
    refine e_istore_n (lv2 := [(3, .int (nI 0)), (2, .int (nI 0)), (0, .ref 0), (1, .int (nI r9))]) C dX7_lay_13 rfl (by decide) rfl ?_
    refine e_loc [2, 3, 1, 0] rfl ?_
    have lp : ∀ (i : Nat) (x9 : Nat), i ≤ 8 → x9 = sumN cnt i → Wd X (0, 0) 14 [(0, .ref 0), (1, .int (nI r9)), (2, .int (nI x9)), (3, .int (nI i))] [] (shF w) M := by
      intro i
      induction hq_lp : 8 - i using Nat.strongRecOn generalizing i with
      | ind k_lp ih_lp =>
        intro x9 hi9 hx9
        have hs21 := hs20 i hi9
        refine e_iload_n C dX7_lay_14 rfl rfl ?_
        refine e_bipush (v := (nI 8)) C dX7_lay_15 (by decide) ?_
        refine e_icmp_geN (tgt := 35) C dX7_lay_17 (by omega) (by omega) (by decide) (fun h17 => ?_) (fun h17 => ?_)
        · have hi8 : i = 8 := by omega
          subst hi8
          subst hx9
          refine e_iload_n C dX7_lay_35 rfl rfl ?_
          refine e_iconst (v := (nI 4)) C dX7_lay_36 (by decide) ?_
          refine e_bipush (v := (nI 20)) C dX7_lay_37 (by decide) ?_
          refine e_callSi C dX7_lay_39 [.int (nI (sumN cnt 8)), .int (nI 4), .int (nI 20)] (k_withinN (nI (sumN cnt 8)) 4 20 (by omega) (by omega)) okX7_within lX7_81 rfl ⟨rfl, rfl⟩ ⟨Nat.le_of_ble_eq_true rfl, Nat.le_of_ble_eq_true rfl⟩ (Nat.le_of_ble_eq_true rfl) ⟨Nat.zero_le _, Nat.zero_le _⟩ ?_
          refine e_if_neB (b := decide (inn (nI (sumN cnt 8)) (4 : Nat) (20 : Nat))) (tgt := 48) C dX7_lay_42 (by decide) (fun h42 => ?_) (fun h42 => ?_)
          · have h43 := dec_t h42
            have h44 : 4 ≤ sumN cnt 8 ∧ sumN cnt 8 ≤ 20 := by unfold inn at h43; rw [nI_toInt (by omega)] at h43; omega
            refine e_aload_n C dX7_lay_48 rfl rfl ?_
            refine e_getR (q := 1) C dX7_lay_49 fX7_10 rfl rfl ?_
            refine e_iload_n C dX7_lay_52 rfl rfl ?_
            refine e_iload_n C dX7_lay_53 rfl rfl ?_
            refine e_aload_n C dX7_lay_54 rfl rfl ?_
            refine e_getR (q := 6) C dX7_lay_55 fX7_16 rfl rfl ?_
            refine e_callVvQ C dX7_lay_58 [.int (nI r9), .int (nI (sumN cnt 8)), .ref 6] (k_layEven hS cnt r9 (sumN cnt 8) (by omega) (by omega) hCt) okX4_layEven lX7_110 rfl rfl rfl ⟨rfl, rfl⟩ ⟨Nat.le_of_ble_eq_true rfl, Nat.le_of_ble_eq_true rfl⟩ (Nat.le_of_ble_eq_true rfl) ⟨Nat.zero_le _, Nat.zero_le _⟩ (fun M1 hM1 => ?_)
            refine e_aload_n C dX7_lay_61 rfl rfl ?_
            refine e_getR (q := 18) C dX7_lay_62 fX7_51 rfl rfl ?_
            refine e_callVvQ C dX7_lay_65 [] (k_forget (q := q)) okX3_forget lX7_89 rfl rfl rfl ⟨rfl, rfl⟩ ⟨Nat.le_of_ble_eq_true rfl, Nat.le_of_ble_eq_true rfl⟩ (Nat.le_of_ble_eq_true rfl) ⟨Nat.zero_le _, Nat.zero_le _⟩ (fun M2 hM2 => ?_)
            refine e_aload_n C dX7_lay_68 rfl rfl ?_
            refine e_callVv C dX7_lay_69 [] (k_forgetFound) okX7_forgetFound lX7_92 rfl rfl rfl rfl ⟨rfl, rfl⟩ ⟨Nat.le_of_ble_eq_true rfl, Nat.le_of_ble_eq_true rfl⟩ (Nat.le_of_ble_eq_true rfl) ⟨Nat.zero_le _, Nat.zero_le _⟩ ?_
            refine e_nm (fun M3 hM3 => ?_)
            refine e_iload_n C dX7_lay_72 rfl rfl ?_
            exact e_zret C dX7_lay_73 RT rfl ⟨Nat.zero_le _, Nat.zero_le _⟩ (rqi ((if_pos (dec_t h4)).trans ((if_pos h44).trans (by rw [tn_nI (q := r9) (by omega)]))) (show CInv _ (va_up n r9 (sumN cnt 8), layP P cnt r9 (sumN cnt 8), cnt, k, W, pv, L, R, H, z, 0, q) from CInv.ff hM3 ⟨hM1.1.same (hM2.2.gI (by decide)) (hM2.2.gI (by decide)) (hM2.2.gI (by decide)), (hT.same (hM1.2.gI (by decide)) (hM1.2.gI (by decide)) (hM1.2.gI (by decide)) (hM1.2.gI (by decide))).same (hM2.2.gI (by decide)) (hM2.2.gI (by decide)) (hM2.2.gI (by decide)) (hM2.2.gI (by decide)), by rw [hM2.2.gI (by decide), hM1.2.gI (by decide)]; exact hL, hL1, hL3⟩ ((hCt.same (hM1.2.gI (by decide))).same (hM2.2.gI (by decide))) ((hT7.same (hM1.2.gI (by decide))).same (hM2.2.gI (by decide))) hM2.1 QOK.z) (hM3 ▸ (((rngd hM1.2 (by decide)).tr (rngd hM2.2 (by decide))).I (by decide))))
          · refine e_bipush (v := (-3)) C dX7_lay_45 (by decide) ?_
            exact e_zret C dX7_lay_47 RT rfl ⟨Nat.zero_le _, Nat.zero_le _⟩ (rqi ((if_pos (dec_t h4)).trans (if_neg (fun h8 => dec_f h42 (inn_nI (by omega) (by omega) (by omega))))) hI (Same.rf _ M))
        · refine e_iload_n C dX7_lay_20 rfl rfl ?_
          refine e_aload_n C dX7_lay_21 rfl rfl ?_
          refine e_getR (q := 6) C dX7_lay_22 fX7_16 rfl rfl ?_
          refine e_iload_n C dX7_lay_25 rfl rfl ?_
          refine e_ialoadN C dX7_lay_26 rfl (by omega) (by omega) ?_
          refine e_topi (nI (cnt i)) (hCt i (by omega)).1 ?_
          refine e_iaddN C dX7_lay_27 ?_
          refine e_istore_n (lv2 := [(2, .int (nI (x9 + (cnt i)))), (0, .ref 0), (1, .int (nI r9)), (3, .int (nI i))]) C dX7_lay_28 rfl (by decide) rfl ?_
          refine e_iincN (lv2 := [(3, .int (nI (i + 1))), (2, .int (nI (x9 + (cnt i)))), (0, .ref 0), (1, .int (nI r9))]) C dX7_lay_29 rfl (by decide) (nI_1 _) rfl ?_
          refine e_goto (tgt := 14) C dX7_lay_32 (by decide) ?_
          refine e_loc [2, 3, 1, 0] rfl ?_
          exact ih_lp (8 - (i + 1)) (by omega) (i + 1) rfl (x9 + cnt i) (by omega) (by rw [hx9]; rfl)
    exact lp 0 0 (by omega) rfl
  · refine e_bipush (v := (-2)) C dX7_lay_7 (by decide) ?_
    exact e_zret C dX7_lay_9 RT rfl ⟨Nat.zero_le _, Nat.zero_le _⟩ (rqi (if_neg (fun h9 => dec_f h4 h9)) hI (Same.rf _ M))
set_option maxHeartbeats 4000000 in
set_option maxRecDepth 100000 in
theorem p_pay {w : Bool} {M : Mm} {n P cnt : Nat → Nat} {k : Nat} {W : Nat → Nat → Int32} {pv : Nat → Nat} {L R H : Nat} {z : Nat → Int32} {g : Nat} {q : Nat → Nat → Nat} (hI : CInv M (n, P, cnt, k, W, pv, L, R, H, z, g, q))  (a b c v : Int32) : CT mX7_pay [.ref 0, .int a, .int b, .int c, .int v] (shF w) M (Qi (spPay (n, P, cnt, k, W, pv, L, R, H, z, g, q) a b c v).1 (shF w) (fun m0 => CInv m0 (spPay (n, P, cnt, k, W, pv, L, R, H, z, g, q) a b c v).2 ∧ FrC M m0)) := by
  refine CT.mk (lv := [(0, .ref 0), (1, .int a), (2, .int b), (3, .int c), (4, .int v)]) rfl (by decide +kernel) (Nat.le_of_ble_eq_true rfl) ?_
  intro X C RT
  obtain ⟨hB, hCt, hF, hF2, hT7, hG, hQ⟩ := id hI
  obtain ⟨hS, hT, hL, hL1, hL3⟩ := id hB
  have n0 := hS.2.1 0 (by decide)
  have n1 := hS.2.1 1 (by decide)
  have n2 := hS.2.1 2 (by decide)
  have hk12 := hT.2.1
  refine e_iload_n C dX7_pay_0 rfl rfl ?_
  refine e_callSi C dX7_pay_1 [.int a] (k_isWantedN a) okX7_isWanted lX7_114 rfl ⟨rfl, rfl⟩ ⟨Nat.le_of_ble_eq_true rfl, Nat.le_of_ble_eq_true rfl⟩ (Nat.le_of_ble_eq_true rfl) ⟨Nat.zero_le _, Nat.zero_le _⟩ ?_
  refine e_if_eqB (b := decide (inn a (-1) 7)) (tgt := 33) C dX7_pay_4 (by decide) (fun h4 => ?_) (fun h4 => ?_)
  · refine e_bipush (v := (-2)) C dX7_pay_33 (by decide) ?_
    exact e_zret C dX7_pay_35 RT rfl ⟨Nat.zero_le _, Nat.zero_le _⟩ (rqi (if_neg (fun h9 => dec_f h4 h9.1)) hI (Same.rf _ M))
  · refine e_iload_n C dX7_pay_7 rfl rfl ?_
    refine e_callSi C dX7_pay_8 [.int b] (k_isWantedN b) okX7_isWanted lX7_114 rfl ⟨rfl, rfl⟩ ⟨Nat.le_of_ble_eq_true rfl, Nat.le_of_ble_eq_true rfl⟩ (Nat.le_of_ble_eq_true rfl) ⟨Nat.zero_le _, Nat.zero_le _⟩ ?_
    refine e_if_eqB (b := decide (inn b (-1) 7)) (tgt := 33) C dX7_pay_11 (by decide) (fun h11 => ?_) (fun h11 => ?_)
    · refine e_bipush (v := (-2)) C dX7_pay_33 (by decide) ?_
      exact e_zret C dX7_pay_35 RT rfl ⟨Nat.zero_le _, Nat.zero_le _⟩ (rqi (if_neg (fun h9 => dec_f h11 h9.2.1)) hI (Same.rf _ M))
    · refine e_iload_n C dX7_pay_14 rfl rfl ?_
      refine e_callSi C dX7_pay_15 [.int c] (k_isWantedN c) okX7_isWanted lX7_114 rfl ⟨rfl, rfl⟩ ⟨Nat.le_of_ble_eq_true rfl, Nat.le_of_ble_eq_true rfl⟩ (Nat.le_of_ble_eq_true rfl) ⟨Nat.zero_le _, Nat.zero_le _⟩ ?_
      refine e_if_eqB (b := decide (inn c (-1) 7)) (tgt := 33) C dX7_pay_18 (by decide) (fun h18 => ?_) (fun h18 => ?_)
      · refine e_bipush (v := (-2)) C dX7_pay_33 (by decide) ?_
        exact e_zret C dX7_pay_35 RT rfl ⟨Nat.zero_le _, Nat.zero_le _⟩ (rqi (if_neg (fun h9 => dec_f h18 h9.2.2.1)) hI (Same.rf _ M))
      · refine e_iload C dX7_pay_21 rfl ?_
        refine e_iconst (v := (nI 0)) C dX7_pay_23 (by decide) ?_
        refine e_sipush (v := (nI 10000)) C dX7_pay_24 (by decide) ?_
        refine e_callSi C dX7_pay_27 [.int v, .int (nI 0), .int (nI 10000)] (k_withinN v 0 10000 (by omega) (by omega)) okX7_within lX7_81 rfl ⟨rfl, rfl⟩ ⟨Nat.le_of_ble_eq_true rfl, Nat.le_of_ble_eq_true rfl⟩ (Nat.le_of_ble_eq_true rfl) ⟨Nat.zero_le _, Nat.zero_le _⟩ ?_
        refine e_if_neB (b := decide (inn v (0 : Nat) (10000 : Nat))) (tgt := 36) C dX7_pay_30 (by decide) (fun h30 => ?_) (fun h30 => ?_)
        · obtain ⟨v9, l_v9, u_v9, rfl⟩ := inn_N (b := 10000) (dec_t h30) (by decide)
          refine e_aload_n C dX7_pay_36 rfl rfl ?_
          refine e_getR (q := 7) C dX7_pay_37 fX7_23 rfl rfl ?_
          refine e_getI C dX7_pay_40 fX7_117 rfl rfl ?_
          refine e_topi (nI k) hT.1 ?_
          refine e_bipush (v := (nI 12)) C dX7_pay_43 (by decide) ?_
          refine e_icmp_ltN (tgt := 51) C dX7_pay_45 (by omega) (by omega) (by decide) (fun h45 => ?_) (fun h45 => ?_)
          · refine e_aload_n C dX7_pay_51 rfl rfl ?_
            refine e_callVv C dX7_pay_52 [] (k_forgetFound) okX7_forgetFound lX7_92 rfl rfl rfl rfl ⟨rfl, rfl⟩ ⟨Nat.le_of_ble_eq_true rfl, Nat.le_of_ble_eq_true rfl⟩ (Nat.le_of_ble_eq_true rfl) ⟨Nat.zero_le _, Nat.zero_le _⟩ ?_
            refine e_nm (fun M1 hM1 => ?_)
            have hT9 : TbOK M1 k W pv := by subst hM1; exact hT.same (gI_sI_ne _ _ (by decide)) (gI_sI_ne _ _ (by decide)) (gI_sI_ne _ _ (by decide)) (gI_sI_ne _ _ (by decide))
            refine e_aload_n C dX7_pay_55 rfl rfl ?_
            refine e_getR (q := 7) C dX7_pay_56 fX7_23 rfl rfl ?_
            refine e_iload_n C dX7_pay_59 rfl rfl ?_
            refine e_iload_n C dX7_pay_60 rfl rfl ?_
            refine e_iload_n C dX7_pay_61 rfl rfl ?_
            refine e_iload C dX7_pay_62 rfl ?_
            refine e_callViQ C dX7_pay_64 [.int a, .int b, .int c, .int (nI v9)] (k_tadd hT9 a b c v9 (by omega) (by omega) (inn_W (dec_t h4)) (inn_W (dec_t h11)) (inn_W (dec_t h18))) okX2_add lX7_120 rfl rfl rfl ⟨rfl, rfl⟩ ⟨Nat.le_of_ble_eq_true rfl, Nat.le_of_ble_eq_true rfl⟩ (Nat.le_of_ble_eq_true rfl) ⟨Nat.zero_le _, Nat.zero_le _⟩ (fun M2 hM2 => ?_)
            exact e_zret C dX7_pay_67 RT rfl ⟨Nat.zero_le _, Nat.zero_le _⟩ (rqi ((if_pos ⟨dec_t h4, dec_t h11, dec_t h18, dec_t h30⟩).trans ((if_pos h45).trans (by rw [tn_nI (q := v9) (by omega)]))) (show CInv _ (n, P, cnt, k + 1, va_up W k (wsh a b c), va_up pv k v9, L, R, H, z, g, q) from CInv.fresh ⟨hS.same (by rw [hM2.2.gI (by decide), hM1, gI_sI_ne _ _ (by decide)]) (by rw [hM2.2.gI (by decide), hM1, gI_sI_ne _ _ (by decide)]) (by rw [hM2.2.gI (by decide), hM1, gI_sI_ne _ _ (by decide)]), hM2.1, by rw [hM2.2.gI (by decide), hM1, gI_sI, upd_n _ _ (by decide), upd_n _ _ (by decide)]; exact hL, hL1, hL3⟩ (hCt.same (by rw [hM2.2.gI (by decide), hM1, gI_sI_ne _ _ (by decide)])) (by rw [hM2.2.gI (by decide), hM1, gI_sI, upd_n _ _ (by decide), upd_s]) (by rw [hM2.2.gI (by decide), hM1, gI_sI, upd_s]) (hT7.same (by rw [hM2.2.gI (by decide), hM1, gI_sI_ne _ _ (by decide)])) (hG.same (by rw [hM2.2.gI (by decide), hM1, gI_sI_ne _ _ (by decide)]) (by rw [hM2.2.gI (by decide), hM1, gI_sI_ne _ _ (by decide)])) hQ) (Same.tr (by subst hM1; exact (Same.rf _ M).I (by decide)) (rngd hM2.2 (by decide))))
          · refine e_bipush (v := (-4)) C dX7_pay_48 (by decide) ?_
            exact e_zret C dX7_pay_50 RT rfl ⟨Nat.zero_le _, Nat.zero_le _⟩ (rqi ((if_pos ⟨dec_t h4, dec_t h11, dec_t h18, dec_t h30⟩).trans (if_neg (by omega))) hI (Same.rf _ M))
        · refine e_bipush (v := (-2)) C dX7_pay_33 (by decide) ?_
          exact e_zret C dX7_pay_35 RT rfl ⟨Nat.zero_le _, Nat.zero_le _⟩ (rqi (if_neg (fun h9 => dec_f h30 h9.2.2.2)) hI (Same.rf _ M))
set_option maxHeartbeats 4000000 in
set_option maxRecDepth 100000 in
theorem p_clear {w : Bool} {M : Mm} {n P cnt : Nat → Nat} {k : Nat} {W : Nat → Nat → Int32} {pv : Nat → Nat} {L R H : Nat} {z : Nat → Int32} {g : Nat} {q : Nat → Nat → Nat} (hI : CInv M (n, P, cnt, k, W, pv, L, R, H, z, g, q))  : CT mX7_clear [.ref 0] (shF w) M (Qi (spClear (n, P, cnt, k, W, pv, L, R, H, z, g, q)).1 (shF w) (fun m0 => CInv m0 (spClear (n, P, cnt, k, W, pv, L, R, H, z, g, q)).2 ∧ FrC M m0)) := by
  refine CT.mk (lv := [(0, .ref 0)]) rfl (by decide +kernel) (Nat.le_of_ble_eq_true rfl) ?_
  intro X C RT
  obtain ⟨hB, hCt, hF, hF2, hT7, hG, hQ⟩ := id hI
  obtain ⟨hS, hT, hL, hL1, hL3⟩ := id hB
  have n0 := hS.2.1 0 (by decide)
  have n1 := hS.2.1 1 (by decide)
  have n2 := hS.2.1 2 (by decide)
  refine e_aload_n C dX7_clear_0 rfl rfl ?_
  refine e_callVv C dX7_clear_1 [] (k_forgetFound) okX7_forgetFound lX7_92 rfl rfl rfl rfl ⟨rfl, rfl⟩ ⟨Nat.le_of_ble_eq_true rfl, Nat.le_of_ble_eq_true rfl⟩ (Nat.le_of_ble_eq_true rfl) ⟨Nat.zero_le _, Nat.zero_le _⟩ ?_
  refine e_nm (fun M1 hM1 => ?_)
  have hT9 : TbOK M1 k W pv := by subst hM1; exact hT.same (gI_sI_ne _ _ (by decide)) (gI_sI_ne _ _ (by decide)) (gI_sI_ne _ _ (by decide)) (gI_sI_ne _ _ (by decide))
  refine e_aload_n C dX7_clear_4 rfl rfl ?_
  refine e_getR (q := 7) C dX7_clear_5 fX7_23 rfl rfl ?_
  refine e_callViQ C dX7_clear_8 [] (k_empty hT9) okX2_empty lX7_124 rfl rfl rfl ⟨rfl, rfl⟩ ⟨Nat.le_of_ble_eq_true rfl, Nat.le_of_ble_eq_true rfl⟩ (Nat.le_of_ble_eq_true rfl) ⟨Nat.zero_le _, Nat.zero_le _⟩ (fun M2 hM2 => ?_)
  exact e_zret C dX7_clear_11 RT rfl ⟨Nat.zero_le _, Nat.zero_le _⟩ (rqi rfl (show CInv _ (n, P, cnt, 0, W, pv, L, R, H, z, g, q) from CInv.fresh ⟨hS.same (by rw [hM2.2.gI (by decide), hM1, gI_sI_ne _ _ (by decide)]) (by rw [hM2.2.gI (by decide), hM1, gI_sI_ne _ _ (by decide)]) (by rw [hM2.2.gI (by decide), hM1, gI_sI_ne _ _ (by decide)]), hM2.1, by rw [hM2.2.gI (by decide), hM1, gI_sI, upd_n _ _ (by decide), upd_n _ _ (by decide)]; exact hL, hL1, hL3⟩ (hCt.same (by rw [hM2.2.gI (by decide), hM1, gI_sI_ne _ _ (by decide)])) (by rw [hM2.2.gI (by decide), hM1, gI_sI, upd_n _ _ (by decide), upd_s]) (by rw [hM2.2.gI (by decide), hM1, gI_sI, upd_s]) (hT7.same (by rw [hM2.2.gI (by decide), hM1, gI_sI_ne _ _ (by decide)])) (hG.same (by rw [hM2.2.gI (by decide), hM1, gI_sI_ne _ _ (by decide)]) (by rw [hM2.2.gI (by decide), hM1, gI_sI_ne _ _ (by decide)])) hQ) (Same.tr (by subst hM1; exact (Same.rf _ M).I (by decide)) (rngd hM2.2 (by decide))))
set_option maxHeartbeats 4000000 in
set_option maxRecDepth 100000 in
theorem p_lines {w : Bool} {M : Mm} {n P cnt : Nat → Nat} {k : Nat} {W : Nat → Nat → Int32} {pv : Nat → Nat} {L R H : Nat} {z : Nat → Int32} {g : Nat} {q : Nat → Nat → Nat} (hI : CInv M (n, P, cnt, k, W, pv, L, R, H, z, g, q))  (v : Int32) : CT mX7_lines [.ref 0, .int v] (shF w) M (Qi (spLines (n, P, cnt, k, W, pv, L, R, H, z, g, q) v).1 (shF w) (fun m0 => CInv m0 (spLines (n, P, cnt, k, W, pv, L, R, H, z, g, q) v).2 ∧ FrC M m0)) := by
  refine CT.mk (lv := [(0, .ref 0), (1, .int v)]) rfl (by decide +kernel) (Nat.le_of_ble_eq_true rfl) ?_
  intro X C RT
  obtain ⟨hB, hCt, hF, hF2, hT7, hG, hQ⟩ := id hI
  obtain ⟨hS, hT, hL, hL1, hL3⟩ := id hB
  have n0 := hS.2.1 0 (by decide)
  have n1 := hS.2.1 1 (by decide)
  have n2 := hS.2.1 2 (by decide)
  refine e_iload_n C dX7_lines_0 rfl rfl ?_
  refine e_iconst (v := (nI 1)) C dX7_lines_1 (by decide) ?_
  refine e_iconst (v := (nI 3)) C dX7_lines_2 (by decide) ?_
  refine e_callSi C dX7_lines_3 [.int v, .int (nI 1), .int (nI 3)] (k_withinN v 1 3 (by omega) (by omega)) okX7_within lX7_81 rfl ⟨rfl, rfl⟩ ⟨Nat.le_of_ble_eq_true rfl, Nat.le_of_ble_eq_true rfl⟩ (Nat.le_of_ble_eq_true rfl) ⟨Nat.zero_le _, Nat.zero_le _⟩ ?_
  refine e_if_neB (b := decide (inn v (1 : Nat) (3 : Nat))) (tgt := 12) C dX7_lines_6 (by decide) (fun h6 => ?_) (fun h6 => ?_)
  · obtain ⟨v9, l_v9, u_v9, rfl⟩ := inn_N (b := 3) (dec_t h6) (by decide)
    refine e_aload_n C dX7_lines_12 rfl rfl ?_
    refine e_getI C dX7_lines_13 fX7_66 rfl rfl ?_
    refine e_topi (nI L) hL ?_
    refine e_istore_n (lv2 := [(2, .int (nI L)), (0, .ref 0), (1, .int (nI v9))]) C dX7_lines_16 rfl (by decide) rfl ?_
    refine e_aload_n C dX7_lines_17 rfl rfl ?_
    refine e_iload_n C dX7_lines_18 rfl rfl ?_
    refine e_putI C dX7_lines_19 pX7_66 rfl rfl rfl rfl ?_
    refine e_nm (fun M1 hM1 => ?_)
    refine e_aload_n C dX7_lines_22 rfl rfl ?_
    refine e_callVv C dX7_lines_23 [] (k_forgetFound) okX7_forgetFound lX7_92 rfl rfl rfl rfl ⟨rfl, rfl⟩ ⟨Nat.le_of_ble_eq_true rfl, Nat.le_of_ble_eq_true rfl⟩ (Nat.le_of_ble_eq_true rfl) ⟨Nat.zero_le _, Nat.zero_le _⟩ ?_
    refine e_nm (fun M2 hM2 => ?_)
    refine e_iload_n C dX7_lines_26 rfl rfl ?_
    exact e_zret C dX7_lines_27 RT rfl ⟨Nat.zero_le _, Nat.zero_le _⟩ (rqi (by rw [show spLines (n, P, cnt, k, W, pv, L, R, H, z, g, q) (nI v9) = _ from if_pos (dec_t h6), tn_nI (q := v9) (by omega)]) (show CInv _ (n, P, cnt, k, W, pv, v9, R, H, z, g, q) from CInv.ff hM2 (by subst hM1; exact ⟨hS.same (gI_sI_ne _ _ (by decide)) (gI_sI_ne _ _ (by decide)) (gI_sI_ne _ _ (by decide)), hT.same (gI_sI_ne _ _ (by decide)) (gI_sI_ne _ _ (by decide)) (gI_sI_ne _ _ (by decide)) (gI_sI_ne _ _ (by decide)), by rw [gI_sI, upd_s], by omega, by omega⟩) (by subst hM1; exact hCt.same (gI_sI_ne _ _ (by decide))) (by subst hM1; exact hT7.same (gI_sI_ne _ _ (by decide))) (by subst hM1; exact hG.same (gI_sI_ne _ _ (by decide)) (gI_sI_ne _ _ (by decide))) hQ) (by subst hM2 hM1; exact ((Same.rf _ M).I (by decide)).I (by decide)))
  · refine e_bipush (v := (-2)) C dX7_lines_9 (by decide) ?_
    exact e_zret C dX7_lines_11 RT rfl ⟨Nat.zero_le _, Nat.zero_le _⟩ (rqi (if_neg (fun h9 => dec_f h6 h9)) hI (Same.rf _ M))
set_option maxHeartbeats 4000000 in
set_option maxRecDepth 100000 in
theorem p_ending {w : Bool} {M : Mm} {n P cnt : Nat → Nat} {k : Nat} {W : Nat → Nat → Int32} {pv : Nat → Nat} {L R H : Nat} {z : Nat → Int32} {g : Nat} {q : Nat → Nat → Nat} (hI : CInv M (n, P, cnt, k, W, pv, L, R, H, z, g, q))  (a b c : Int32) : CT mX7_ending [.ref 0, .int a, .int b, .int c] (shF w) M (Qi (spEnding (n, P, cnt, k, W, pv, L, R, H, z, g, q) a b c).1 (shF w) (fun m0 => CInv m0 (spEnding (n, P, cnt, k, W, pv, L, R, H, z, g, q) a b c).2 ∧ FrC M m0)) := by
  refine CT.mk (lv := [(0, .ref 0), (1, .int a), (2, .int b), (3, .int c)]) rfl (by decide +kernel) (Nat.le_of_ble_eq_true rfl) ?_
  intro X C RT
  obtain ⟨hB, hCt, hF, hF2, hT7, hG, hQ⟩ := id hI
  obtain ⟨hS, hT, hL, hL1, hL3⟩ := id hB
  have n0 := hS.2.1 0 (by decide)
  have n1 := hS.2.1 1 (by decide)
  have n2 := hS.2.1 2 (by decide)
  refine e_aload_n C dX7_ending_0 rfl rfl ?_
  refine e_getR (q := 1) C dX7_ending_1 fX7_10 rfl rfl ?_
  refine e_iload_n C dX7_ending_4 rfl rfl ?_
  refine e_iload_n C dX7_ending_5 rfl rfl ?_
  refine e_iload_n C dX7_ending_6 rfl rfl ?_
  refine e_callVi C dX7_ending_7 [.int a, .int b, .int c] (k_hasEnding hS a b c) okX4_hasEnding lX7_128 rfl rfl rfl ⟨rfl, rfl⟩ ⟨Nat.le_of_ble_eq_true rfl, Nat.le_of_ble_eq_true rfl⟩ (Nat.le_of_ble_eq_true rfl) ⟨Nat.zero_le _, Nat.zero_le _⟩ ?_
  refine e_if_eqB (b := hasEnd n a b c) (tgt := 23) C dX7_ending_10 (by decide) (fun h10 => ?_) (fun h10 => ?_)
  · refine e_bipush (v := (-2)) C dX7_ending_23 (by decide) ?_
    exact e_zret C dX7_ending_25 RT rfl ⟨Nat.zero_le _, Nat.zero_le _⟩ (rqi (if_neg (fun h8 => by rw [h10] at h8; exact absurd h8 (by decide))) hI (Same.rf _ M))
  · obtain ⟨a9, b9, c9, l_a, l_b, l_c, rfl, rfl, rfl⟩ := hasEnd_N h10
    refine e_aload_n C dX7_ending_13 rfl rfl ?_
    refine e_iload_n C dX7_ending_14 rfl rfl ?_
    refine e_iload_n C dX7_ending_15 rfl rfl ?_
    refine e_iload_n C dX7_ending_16 rfl rfl ?_
    have he1 := hB.le a9 b9 c9
    refine e_callVi C dX7_ending_17 [.int (nI a9), .int (nI b9), .int (nI c9)] (k_endingPays hB a9 b9 c9 (by omega) (by omega) (by omega)) okX7_endingPays lX7_131 rfl rfl rfl ⟨rfl, rfl⟩ ⟨Nat.le_of_ble_eq_true rfl, Nat.le_of_ble_eq_true rfl⟩ (Nat.le_of_ble_eq_true rfl) ⟨Nat.zero_le _, Nat.zero_le _⟩ ?_
    refine e_goto (tgt := 25) C dX7_ending_20 (by decide) ?_
    exact e_zret C dX7_ending_25 RT rfl ⟨Nat.zero_le _, Nat.zero_le _⟩ (rqi (by rw [show spEnding (n, P, cnt, k, W, pv, L, R, H, z, g, q) (nI a9) (nI b9) (nI c9) = _ from if_pos h10, tn_nI (q := a9) (by omega), tn_nI (q := b9) (by omega), tn_nI (q := c9) (by omega)]) (show CInv _ (n, P, cnt, k, W, pv, L, R, H, z, g, q) from hI) (Same.rf _ M))
