theorem r_inK {sh : List Sh} {M : Mm} (v b : Int32) : CT mX8_in [.long v.toInt64, .long (lN 0), .long b.toInt64] sh M (Pi (bI (decide (inn v 0 b.toInt))) sh M) := by
  have h := r_inI (sh := sh) (M := M) v (nI 0) b; rw [← lN_I (by omega)] at h; exact h
set_option maxHeartbeats 1000000 in
set_option maxRecDepth 100000 in
theorem q_rows {w : Bool} {M : Mm} {n P cnt : Nat → Nat} {k : Nat} {W : Nat → Nat → Int32} {pv : Nat → Nat} {L R H : Nat} {z : Nat → Int32} {g : Nat} {q : Nat → Nat → Nat} (hI : RInv M (n, P, cnt, k, W, pv, L, R, H, z, g, q))  (i : Int32) : CT mX8_rows [.ref 25, .int i] (shF w) M (Qi (spRows (n, P, cnt, k, W, pv, L, R, H, z, g, q) i).1 (shF w) (fun m0 => RInv m0 (spRows (n, P, cnt, k, W, pv, L, R, H, z, g, q) i).2 ∧ FrR M m0)) := by
  refine CT.mk (lv := [(0, .ref 25), (1, .int i)]) rfl (by decide +kernel) (Nat.le_of_ble_eq_true rfl) ?_
  intro X C RT
  obtain ⟨hB, hCt, hF, hH, hG, hQ⟩ := id hI
  obtain ⟨hS, hT, hL, hL1, hL3⟩ := id hB
  have n0 := hS.2.1 0 (by decide)
  have n1 := hS.2.1 1 (by decide)
  have n2 := hS.2.1 2 (by decide)
  have hk12 := hT.2.1
  have hkk := ksub k hk12
  refine e_iload_n C dX8_rows_0 rfl rfl ?_
  refine e_i2l C dX8_rows_1 ?_
  refine e_lconst (v := lN 0) C dX8_rows_2 (by decide) ?_
  refine e_aload_n C dX8_rows_3 rfl rfl ?_
  refine e_getI C dX8_rows_4 fX8_110 rfl rfl ?_
  refine e_topi (nI k) hT.1 ?_
  refine e_iconst (v := (nI 1)) C dX8_rows_7 (by decide) ?_
  refine e_isub C dX8_rows_8 ?_
  refine e_i2l C dX8_rows_9 ?_
  refine e_callSi C dX8_rows_10 [.long i.toInt64, .long (lN 0), .long ((nI k - nI 1).toInt64)] (r_inK i (nI k - nI 1)) okX8_in lX8_81 rfl ⟨rfl, rfl⟩ ⟨Nat.le_of_ble_eq_true rfl, Nat.le_of_ble_eq_true rfl⟩ (Nat.le_of_ble_eq_true rfl) ⟨Nat.zero_le _, Nat.zero_le _⟩ ?_
  refine e_if_neB (b := decide (inn i 0 (nI k - nI 1).toInt)) (tgt := 19) C dX8_rows_13 (by decide) (fun h13 => ?_) (fun h13 => ?_)
  · have h16 := dec_t h13
    rw [hkk] at h16
    obtain ⟨i9, hi9, rfl⟩ : ∃ q : Nat, q < k ∧ i = nI q := ⟨i.toInt.toNat, by unfold inn at h16; omega, nI_of3 h16.1⟩
    refine e_aload_n C dX8_rows_19 rfl rfl ?_
    refine e_callVvQ C dX8_rows_20 [] (r_layOut hB hF) okX8_layOut lX8_139 rfl rfl rfl ⟨rfl, rfl⟩ ⟨Nat.le_of_ble_eq_true rfl, Nat.le_of_ble_eq_true rfl⟩ (Nat.le_of_ble_eq_true rfl) ⟨Nat.zero_le _, Nat.zero_le _⟩ (fun M1 hM1 => ?_)
    obtain ⟨hI, hf9⟩ := RInv.lo hI hM1
    obtain ⟨hB, hCt, hF, hH, hG, hQ⟩ := id hI
    obtain ⟨hS, hT, hL, hL1, hL3⟩ := id hB
    have n0 := hS.2.1 0 (by decide)
    have n1 := hS.2.1 1 (by decide)
    have n2 := hS.2.1 2 (by decide)
    have hl := hM1.1
    refine e_iconst (v := (nI 0)) C dX8_rows_23 (by decide) ?_
    refine e_istore_n (lv2 := [(2, .int (nI 0)), (0, .ref 25), (1, .int (nI i9))]) C dX8_rows_24 rfl (by decide) rfl ?_
    refine e_iconst (v := (nI 0)) C dX8_rows_25 (by decide) ?_
    refine e_istore_n (lv2 := [(3, .int (nI 0)), (2, .int (nI 0)), (0, .ref 25), (1, .int (nI i9))]) C dX8_rows_26 rfl (by decide) rfl ?_
    refine e_loc [2, 3, 1, 0] rfl ?_
    have lp : ∀ (l : Nat) (x9 : Nat), l ≤ 512 → x9 = sumN (fun l => iw (fstR W k l = some i9) 1 * (mid n P 0 (l / 64) * mid n P 1 (l / 8 % 8) * mid n P 2 (l % 8))) l → Wd X (0, 0) 27 [(0, .ref 25), (1, .int (nI i9)), (2, .int (nI x9)), (3, .int (nI l))] [] (shF w) M1 := by
      intro l
      induction hq_lp : 512 - l using Nat.strongRecOn generalizing l with
      | ind k_lp ih_lp =>
        intro x9 hl5 hx9
        refine e_iload_n C dX8_rows_27 rfl rfl ?_
        refine e_sipush (v := (nI 512)) C dX8_rows_28 (by decide) ?_
        refine e_icmp_geN (tgt := 89) C dX8_rows_31 (by omega) (by omega) (by decide) (fun h31 => ?_) (fun h31 => ?_)
        · refine e_iload_n C dX8_rows_89 rfl rfl ?_
          exact e_zret C dX8_rows_90 RT rfl ⟨Nat.zero_le _, Nat.zero_le _⟩ (rri ((if_pos h16).trans (by rw [tn_nI (q := i9) (by omega), hx9, show l = 512 by omega, lin_sum hS.2.2.2 (fun l => iw (fstR W k l = some i9) 1)])) hI hf9)
        · refine e_iload_n C dX8_rows_34 rfl rfl ?_
          refine e_aload_n C dX8_rows_35 rfl rfl ?_
          refine e_getR (q := 36) C dX8_rows_36 fX8_44 rfl rfl ?_
          refine e_iload_n C dX8_rows_39 rfl rfl ?_
          refine e_ialoadN C dX8_rows_40 rfl (by omega) (by omega) ?_
          refine e_topi (oI (fstR W k l)) (hl.1 l (by omega)).1 ?_
          refine e_iload_n C dX8_rows_41 rfl rfl ?_
          refine e_icmp_ne (x := (oI (fstR W k l))) (y := (nI i9)) (tgt := 80) C dX8_rows_42 (by decide) (fun h42 => ?_) (fun h42 => ?_)
          · refine e_iconst (v := (nI 0)) C dX8_rows_80 (by decide) ?_
            refine e_iaddN C dX8_rows_81 ?_
            refine e_istore_n (lv2 := [(2, .int (nI (x9 + 0))), (0, .ref 25), (1, .int (nI i9)), (3, .int (nI l))]) C dX8_rows_82 rfl (by decide) rfl ?_
            refine e_iincN (lv2 := [(3, .int (nI (l + 1))), (2, .int (nI (x9 + 0))), (0, .ref 25), (1, .int (nI i9))]) C dX8_rows_83 rfl (by decide) (nI_1 _) rfl ?_
            refine e_goto (tgt := 27) C dX8_rows_86 (by decide) ?_
            refine e_loc [2, 3, 1, 0] rfl ?_
            exact ih_lp (512 - (l + 1)) (by omega) (l + 1) rfl (x9 + 0) (by omega) (by show _ = sumN (fun l => iw (fstR W k l = some i9) 1 * (mid n P 0 (l / 64) * mid n P 1 (l / 8 % 8) * mid n P 2 (l % 8))) (l + 1); simp only [sumN]; rw [← hx9]; unfold iw; rw [if_neg (fun e => h42 ((oI_eq (fun j hj => by have := (fstb_lt hj).1; omega) (by omega)).mpr e)), Nat.zero_mul])
          · refine e_aload_n C dX8_rows_45 rfl rfl ?_
            refine e_iconst (v := (nI 0)) C dX8_rows_46 (by decide) ?_
            refine e_iload_n C dX8_rows_47 rfl rfl ?_
            refine e_bipush (v := (nI 64)) C dX8_rows_48 (by decide) ?_
            refine e_idivN C dX8_rows_50 (by omega) (by omega) (by omega) ?_
            have hq2 := mid_le n P 0 (l / 64)
            refine e_callVi C dX8_rows_51 [.int (nI 0), .int (nI (l / 64))] (r_middles hS 0 (l / 64) (by omega) (by omega)) okX8_middles lX8_161 rfl rfl rfl ⟨rfl, rfl⟩ ⟨Nat.le_of_ble_eq_true rfl, Nat.le_of_ble_eq_true rfl⟩ (Nat.le_of_ble_eq_true rfl) ⟨Nat.zero_le _, Nat.zero_le _⟩ ?_
            refine e_aload_n C dX8_rows_54 rfl rfl ?_
            refine e_iconst (v := (nI 1)) C dX8_rows_55 (by decide) ?_
            refine e_iload_n C dX8_rows_56 rfl rfl ?_
            refine e_bipush (v := (nI 8)) C dX8_rows_57 (by decide) ?_
            refine e_idivN C dX8_rows_59 (by omega) (by omega) (by omega) ?_
            refine e_bipush (v := (nI 8)) C dX8_rows_60 (by decide) ?_
            refine e_iremN C dX8_rows_62 (by omega) (by omega) (by omega) ?_
            have hq3 := mid_le n P 1 ((l / 8) % 8)
            refine e_callVi C dX8_rows_63 [.int (nI 1), .int (nI ((l / 8) % 8))] (r_middles hS 1 ((l / 8) % 8) (by omega) (by omega)) okX8_middles lX8_161 rfl rfl rfl ⟨rfl, rfl⟩ ⟨Nat.le_of_ble_eq_true rfl, Nat.le_of_ble_eq_true rfl⟩ (Nat.le_of_ble_eq_true rfl) ⟨Nat.zero_le _, Nat.zero_le _⟩ ?_
            refine e_imulN C dX8_rows_66 ?_
            refine e_aload_n C dX8_rows_67 rfl rfl ?_
            refine e_iconst (v := (nI 2)) C dX8_rows_68 (by decide) ?_
            refine e_iload_n C dX8_rows_69 rfl rfl ?_
            refine e_bipush (v := (nI 8)) C dX8_rows_70 (by decide) ?_
            refine e_iremN C dX8_rows_72 (by omega) (by omega) (by omega) ?_
            have hq4 := mid_le n P 2 (l % 8)
            refine e_callVi C dX8_rows_73 [.int (nI 2), .int (nI (l % 8))] (r_middles hS 2 (l % 8) (by omega) (by omega)) okX8_middles lX8_161 rfl rfl rfl ⟨rfl, rfl⟩ ⟨Nat.le_of_ble_eq_true rfl, Nat.le_of_ble_eq_true rfl⟩ (Nat.le_of_ble_eq_true rfl) ⟨Nat.zero_le _, Nat.zero_le _⟩ ?_
            refine e_imulN C dX8_rows_76 ?_
            refine e_goto (tgt := 81) C dX8_rows_77 (by decide) ?_
            refine e_iaddN C dX8_rows_81 ?_
            refine e_istore_n (lv2 := [(2, .int (nI (x9 + (((mid n P 0 (l / 64)) * (mid n P 1 ((l / 8) % 8))) * (mid n P 2 (l % 8)))))), (0, .ref 25), (1, .int (nI i9)), (3, .int (nI l))]) C dX8_rows_82 rfl (by decide) rfl ?_
            refine e_iincN (lv2 := [(3, .int (nI (l + 1))), (2, .int (nI (x9 + (((mid n P 0 (l / 64)) * (mid n P 1 ((l / 8) % 8))) * (mid n P 2 (l % 8)))))), (0, .ref 25), (1, .int (nI i9))]) C dX8_rows_83 rfl (by decide) (nI_1 _) rfl ?_
            refine e_goto (tgt := 27) C dX8_rows_86 (by decide) ?_
            refine e_loc [2, 3, 1, 0] rfl ?_
            exact ih_lp (512 - (l + 1)) (by omega) (l + 1) rfl (x9 + (((mid n P 0 (l / 64)) * (mid n P 1 ((l / 8) % 8))) * (mid n P 2 (l % 8)))) (by omega) (by show _ = sumN (fun l => iw (fstR W k l = some i9) 1 * (mid n P 0 (l / 64) * mid n P 1 (l / 8 % 8) * mid n P 2 (l % 8))) (l + 1); simp only [sumN]; rw [← hx9]; unfold iw; rw [if_pos ((oI_eq (fun j hj => by have := (fstb_lt hj).1; omega) (by omega)).mp h42), Nat.one_mul])
    exact lp 0 0 (by omega) rfl
  · refine e_bipush (v := (-2)) C dX8_rows_16 (by decide) ?_
    exact e_zret C dX8_rows_18 RT rfl ⟨Nat.zero_le _, Nat.zero_le _⟩ (rri (if_neg (fun h9 => dec_f h13 (by rw [hkk]; exact h9))) hI (Same.rf _ M))
