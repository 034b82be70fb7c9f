theorem ffB {M : Mm} {n P : Nat → Nat} {k : Nat} {W : Nat → Nat → Int32} {pv : Nat → Nat} {L : Nat} (h : Bs M n P k W pv L) : Bs (sI M 0 (upd (upd (gI M 0) 10 (nI 0)) 11 (nI 0))) n P k W pv L := h.same (by rw [gI_sI, upd_n _ _ (by decide), upd_n _ _ (by decide)]) (gI_sI_ne _ _ (by decide)) (gI_sI_ne _ _ (by decide)) (gI_sI_ne _ _ (by decide)) (gI_sI_ne _ _ (by decide)) (gI_sI_ne _ _ (by decide)) (gI_sI_ne _ _ (by decide)) (gI_sI_ne _ _ (by decide))
/-- found out anew: what is left when the class forgets -/
theorem CInv.ff {M M2 : Mm} {n P cnt : Nat → Nat} {k : Nat} {W : Nat → Nat → Int32} {pv : Nat → Nat} {L R H : Nat} {z : Nat → Int32} {g : Nat} {q : Nat → Nat → Nat} (hM2 : M2 = sI M 0 (upd (upd (gI M 0) 10 (nI 0)) 11 (nI 0))) (hB : Bs M n P k W pv L) (hc : CtOK M cnt) (ht : TlOK M R H z) (hg : SgOK M g q) (hq : QOK n g q) : CInv M2 (n, P, cnt, k, W, pv, L, R, H, z, g, q) := by
  subst hM2
  exact CInv.fresh (ffB hB) (hc.same (gI_sI_ne _ _ (by decide))) (by rw [gI_sI, upd_n _ _ (by decide), upd_s]) (by rw [gI_sI, upd_s]) (ht.same (gI_sI_ne _ _ (by decide))) (hg.same (gI_sI_ne _ _ (by decide)) (gI_sI_ne _ _ (by decide))) hq
theorem QOK.z {n : Nat → Nat} {q : Nat → Nat → Nat} : QOK n 0 q := fun i hi => absurd hi (by omega)
theorem rngd {ks : List Nat} {M M2 : Mm} (h : Same ks M M2) (hk : ∀ k, k ∈ ks → k ∈ List.range 25) : FrC M M2 := h.up hk
set_option maxHeartbeats 4000000 in
set_option maxRecDepth 100000 in
theorem p_reel {w : Bool} {M : Mm} {n P cnt : Nat → Nat} {k : Nat} {W : Nat → Nat → Int32} {pv : Nat → Nat} {L R H : Nat} {z : Nat → Int32} {g : Nat} {q : Nat → Nat → Nat} (hI : CInv M (n, P, cnt, k, W, pv, L, R, H, z, g, q))  (r x : Int32) : CT mX7_reel [.ref 0, .int r, .int x] (shF w) M (Qi (spReel (n, P, cnt, k, W, pv, L, R, H, z, g, q) r x).1 (shF w) (fun m => CInv m (spReel (n, P, cnt, k, W, pv, L, R, H, z, g, q) r x).2 ∧ FrC M m)) := by
  refine CT.mk (lv := [(0, .ref 0), (1, .int r), (2, .int x)]) rfl (by decide +kernel) (Nat.le_of_ble_eq_true rfl) ?_
  intro X C RT
  obtain ⟨hB, hCt, hF, hF2, hT7, hG, hQ⟩ := id hI
  obtain ⟨hS, hT, hL, hL1, hL3⟩ := id hB
  have n0 := hS.2.1 0 (by decide)
  have n1 := hS.2.1 1 (by decide)
  have n2 := hS.2.1 2 (by decide)
  refine e_iload_n C dX7_reel_0 rfl rfl ?_
  refine e_callSi C dX7_reel_1 [.int r] (k_isReelN r) okX7_isReel lX7_77 rfl ⟨rfl, rfl⟩ ⟨Nat.le_of_ble_eq_true rfl, Nat.le_of_ble_eq_true rfl⟩ (Nat.le_of_ble_eq_true rfl) ⟨Nat.zero_le _, Nat.zero_le _⟩ ?_
  refine e_if_eqB (b := decide (inn r 0 2)) (tgt := 17) C dX7_reel_4 (by decide) (fun h4 => ?_) (fun h4 => ?_)
  · refine e_bipush (v := (-2)) C dX7_reel_17 (by decide) ?_
    exact e_zret C dX7_reel_19 RT rfl ⟨Nat.zero_le _, Nat.zero_le _⟩ (rqi (if_neg (fun h9 => dec_f h4 h9.1)) hI (Same.rf _ M))
  · refine e_iload_n C dX7_reel_7 rfl rfl ?_
    refine e_iconst (v := (nI 4)) C dX7_reel_8 (by decide) ?_
    refine e_bipush (v := (nI 20)) C dX7_reel_9 (by decide) ?_
    refine e_callSi C dX7_reel_11 [.int x, .int (nI 4), .int (nI 20)] (k_withinN x 4 20 (by omega) (by omega)) okX7_within lX7_81 rfl ⟨rfl, rfl⟩ ⟨Nat.le_of_ble_eq_true rfl, Nat.le_of_ble_eq_true rfl⟩ (Nat.le_of_ble_eq_true rfl) ⟨Nat.zero_le _, Nat.zero_le _⟩ ?_
    refine e_if_neB (b := decide (inn x (4 : Nat) (20 : Nat))) (tgt := 20) C dX7_reel_14 (by decide) (fun h14 => ?_) (fun h14 => ?_)
    · obtain ⟨r9, l_r9, u_r9, rfl⟩ := inn_N (b := 2) (dec_t h4) (by decide)
      obtain ⟨x9, l_x9, u_x9, rfl⟩ := inn_N (b := 20) (dec_t h14) (by decide)
      refine e_aload_n C dX7_reel_20 rfl rfl ?_
      refine e_getR (q := 1) C dX7_reel_21 fX7_10 rfl rfl ?_
      refine e_iload_n C dX7_reel_24 rfl rfl ?_
      refine e_iload_n C dX7_reel_25 rfl rfl ?_
      refine e_callVvQ C dX7_reel_26 [.int (nI r9), .int (nI x9)] (k_blank hS r9 x9 (by omega) (by omega)) okX4_blank lX7_85 rfl rfl rfl ⟨rfl, rfl⟩ ⟨Nat.le_of_ble_eq_true rfl, Nat.le_of_ble_eq_true rfl⟩ (Nat.le_of_ble_eq_true rfl) ⟨Nat.zero_le _, Nat.zero_le _⟩ (fun M1 hM1 => ?_)
      refine e_aload_n C dX7_reel_29 rfl rfl ?_
      refine e_getR (q := 18) C dX7_reel_30 fX7_51 rfl rfl ?_
      refine e_callVvQ C dX7_reel_33 [] (k_forget (q := q)) okX3_forget lX7_89 rfl rfl rfl ⟨rfl, rfl⟩ ⟨Nat.le_of_ble_eq_true rfl, Nat.le_of_ble_eq_true rfl⟩ (Nat.le_of_ble_eq_true rfl) ⟨Nat.zero_le _, Nat.zero_le _⟩ (fun M2 hM2 => ?_)
      refine e_aload_n C dX7_reel_36 rfl rfl ?_
      refine e_callVv C dX7_reel_37 [] (k_forgetFound) okX7_forgetFound lX7_92 rfl rfl rfl rfl ⟨rfl, rfl⟩ ⟨Nat.le_of_ble_eq_true rfl, Nat.le_of_ble_eq_true rfl⟩ (Nat.le_of_ble_eq_true rfl) ⟨Nat.zero_le _, Nat.zero_le _⟩ ?_
      refine e_nm (fun M3 hM3 => ?_)
      refine e_iconst (v := (nI 1)) C dX7_reel_40 (by decide) ?_
      exact e_zret C dX7_reel_41 RT rfl ⟨Nat.zero_le _, Nat.zero_le _⟩ (rqi (by rw [show spReel (n, P, cnt, k, W, pv, L, R, H, z, g, q) (nI r9) (nI x9) = _ from if_pos ⟨dec_t h4, dec_t h14⟩, tn_nI (q := r9) (by omega), tn_nI (q := x9) (by omega)]; rfl) (show CInv _ (va_up n r9 x9, blkP P r9, cnt, k, W, pv, L, R, H, z, 0, q) from CInv.ff hM3 ⟨hM1.1.same (hM2.2.gI (by decide)) (hM2.2.gI (by decide)) (hM2.2.gI (by decide)), (hT.same (hM1.2.gI (by decide)) (hM1.2.gI (by decide)) (hM1.2.gI (by decide)) (hM1.2.gI (by decide))).same (hM2.2.gI (by decide)) (hM2.2.gI (by decide)) (hM2.2.gI (by decide)) (hM2.2.gI (by decide)), by rw [hM2.2.gI (by decide), hM1.2.gI (by decide)]; exact hL, hL1, hL3⟩ ((hCt.same (hM1.2.gI (by decide))).same (hM2.2.gI (by decide))) ((hT7.same (hM1.2.gI (by decide))).same (hM2.2.gI (by decide))) hM2.1 QOK.z) (hM3 ▸ (((rngd hM1.2 (by decide)).tr (rngd hM2.2 (by decide))).I (by decide))))
    · refine e_bipush (v := (-2)) C dX7_reel_17 (by decide) ?_
      exact e_zret C dX7_reel_19 RT rfl ⟨Nat.zero_le _, Nat.zero_le _⟩ (rqi (if_neg (fun h9 => dec_f h14 h9.2)) hI (Same.rf _ M))
