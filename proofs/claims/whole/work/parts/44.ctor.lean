set_option maxHeartbeats 1000000 in
set_option maxRecDepth 100000 in
theorem c_X4 {M : Mm}  : CT mX4_init [.ref 1] ([.inr (7, [2, 2, 2, 2, 2, 2, 2, 2, 2, 0, 0, 0]), .inr (4, [2, 2, 2, 2])]) M (Qv [.inr (7, [2, 2, 2, 2, 2, 2, 2, 2, 2, 0, 0, 0]), .inr (4, [5, 6, 7, 8]), .inl (0, 3), .inl (0, 60), .inl (0, 8), .inl (0, 8)] (fun m => StOK m (fun _ => 4) (fun _ => 0) ∧ Same [1, 2, 3, 4, 5] M m)) := by
  refine CT.mkI (lv := [(0, .ref 1)]) rfl (by decide +kernel) rfl (Nat.le_of_ble_eq_true rfl) ?_
  intro X C RT hin
  refine e_aload_n C dX4_init_0 rfl rfl ?_
  refine e_oini C dX4_init_1 oiX4 wOi2 wOi3 (Nat.le_of_ble_eq_true rfl) ⟨Nat.le_of_ble_eq_true rfl, Nat.le_of_ble_eq_true rfl⟩ ?_
  refine e_aload_n C dX4_init_4 rfl rfl ?_
  refine e_iconst (v := (nI 3)) C dX4_init_5 (by decide) ?_
  refine e_newaI (q := 2) (sh2 := [.inr (7, [2, 2, 2, 2, 2, 2, 2, 2, 2, 0, 0, 0]), .inr (4, [2, 2, 2, 2]), .inl (0, 3)]) (kn2 := (1, 3)) C dX4_init_6 wA_int (by decide) rfl rfl rfl ⟨Nat.le_of_ble_eq_true rfl, Nat.le_of_ble_eq_true rfl⟩ ?_
  refine e_nm (fun M1 hM1 => ?_)
  refine e_putRF (sh2 := [.inr (7, [2, 2, 2, 2, 2, 2, 2, 2, 2, 0, 0, 0]), .inr (4, [5, 2, 2, 2]), .inl (0, 3)]) C dX4_init_8 pX4_9 rfl rfl rfl rfl (fun _ => rfl) (fun _ => rfl) hin ?_
  refine e_aload_n C dX4_init_11 rfl rfl ?_
  refine e_bipush (v := (nI 60)) C dX4_init_12 (by decide) ?_
  refine e_newaI (q := 3) (sh2 := [.inr (7, [2, 2, 2, 2, 2, 2, 2, 2, 2, 0, 0, 0]), .inr (4, [5, 2, 2, 2]), .inl (0, 3), .inl (0, 60)]) (kn2 := (2, 63)) C dX4_init_14 wA_int (by decide) rfl rfl rfl ⟨Nat.le_of_ble_eq_true rfl, Nat.le_of_ble_eq_true rfl⟩ ?_
  refine e_nm (fun M2 hM2 => ?_)
  refine e_putRF (sh2 := [.inr (7, [2, 2, 2, 2, 2, 2, 2, 2, 2, 0, 0, 0]), .inr (4, [5, 6, 2, 2]), .inl (0, 3), .inl (0, 60)]) C dX4_init_16 pX4_15 rfl rfl rfl rfl (fun _ => rfl) (fun _ => rfl) hin ?_
  refine e_aload_n C dX4_init_19 rfl rfl ?_
  refine e_bipush (v := (nI 8)) C dX4_init_20 (by decide) ?_
  refine e_newaI (q := 4) (sh2 := [.inr (7, [2, 2, 2, 2, 2, 2, 2, 2, 2, 0, 0, 0]), .inr (4, [5, 6, 2, 2]), .inl (0, 3), .inl (0, 60), .inl (0, 8)]) (kn2 := (3, 71)) C dX4_init_22 wA_int (by decide) rfl rfl rfl ⟨Nat.le_of_ble_eq_true rfl, Nat.le_of_ble_eq_true rfl⟩ ?_
  refine e_nm (fun M3 hM3 => ?_)
  refine e_putRF (sh2 := [.inr (7, [2, 2, 2, 2, 2, 2, 2, 2, 2, 0, 0, 0]), .inr (4, [5, 6, 7, 2]), .inl (0, 3), .inl (0, 60), .inl (0, 8)]) C dX4_init_24 pX4_18 rfl rfl rfl rfl (fun _ => rfl) (fun _ => rfl) hin ?_
  refine e_aload_n C dX4_init_27 rfl rfl ?_
  refine e_bipush (v := (nI 8)) C dX4_init_28 (by decide) ?_
  refine e_newaI (q := 5) (sh2 := [.inr (7, [2, 2, 2, 2, 2, 2, 2, 2, 2, 0, 0, 0]), .inr (4, [5, 6, 7, 2]), .inl (0, 3), .inl (0, 60), .inl (0, 8), .inl (0, 8)]) (kn2 := (4, 79)) C dX4_init_30 wA_int (by decide) rfl rfl rfl ⟨Nat.le_of_ble_eq_true rfl, Nat.le_of_ble_eq_true rfl⟩ ?_
  refine e_nm (fun M4 hM4 => ?_)
  refine e_putRF (sh2 := [.inr (7, [2, 2, 2, 2, 2, 2, 2, 2, 2, 0, 0, 0]), .inr (4, [5, 6, 7, 8]), .inl (0, 3), .inl (0, 60), .inl (0, 8), .inl (0, 8)]) C dX4_init_32 pX4_21 rfl rfl rfl rfl (fun _ => rfl) (fun _ => rfl) hin ?_
  refine e_aload_n C dX4_init_35 rfl rfl ?_
  refine e_getR (q := 2) C dX4_init_36 fX4_9 rfl rfl ?_
  refine e_iconst (v := (nI 4)) C dX4_init_39 (by decide) ?_
  refine e_callSv C dX4_init_40 [.ref 2, .int (nI 4)] (k_fillI (nI 4) rfl (by decide)) okJ7_fill_53178 lX4_24 rfl rfl ⟨rfl, rfl⟩ ⟨Nat.le_of_ble_eq_true rfl, Nat.le_of_ble_eq_true rfl⟩ (Nat.le_of_ble_eq_true rfl) ⟨Nat.le_of_ble_eq_true rfl, Nat.le_of_ble_eq_true rfl⟩ ?_
  refine e_nm (fun M5 hM5 => ?_)
  refine e_aload_n C dX4_init_43 rfl rfl ?_
  have hn2 : ∀ r, r < 3 → gI M5 2 r = nI ((fun _ => 4) r) := by intro r hr; rw [hM5, gI_sI]; unfold fillr; rw [if_pos hr]
  refine e_callVv C dX4_init_44 [] (k_multiply (fun _ => 4) rfl rfl rfl hn2) okX4_multiply lX4_30 rfl rfl rfl rfl ⟨rfl, rfl⟩ ⟨Nat.le_of_ble_eq_true rfl, Nat.le_of_ble_eq_true rfl⟩ (Nat.le_of_ble_eq_true rfl) ⟨Nat.le_of_ble_eq_true rfl, Nat.le_of_ble_eq_true rfl⟩ ?_
  refine e_nm (fun M6 hM6 => ?_)
  have hs_1 : Same [1, 2, 3, 4, 5] M M1 := by rw [hM1]; exact (Same.rf [1, 2, 3, 4, 5] M).Z (by decide)
  have hs_2 : Same [1, 2, 3, 4, 5] M M2 := by rw [hM2]; exact hs_1.Z (by decide)
  have hs_3 : Same [1, 2, 3, 4, 5] M M3 := by rw [hM3]; exact hs_2.Z (by decide)
  have hs_4 : Same [1, 2, 3, 4, 5] M M4 := by rw [hM4]; exact hs_3.Z (by decide)
  have hs_5 : Same [1, 2, 3, 4, 5] M M5 := by rw [hM5]; exact hs_4.I (by decide)
  have hs_6 : Same [1, 2, 3, 4, 5] M M6 := by rw [hM6]; exact hs_5.I (by decide)
  have hst : StOK M6 (fun _ => 4) (fun _ => 0) := by
    refine ⟨?_, fun _ _ => ⟨show 4 ≤ 4 by decide, show 4 ≤ 20 by decide⟩, fun j _ => ?_, fun _ => show 0 < 8 by decide, fun h hh => ?_⟩
    · rw [hM6, gI_sI_ne _ _ (by decide)]; exact hn2
    · rw [hM6, gI_sI_ne _ _ (by decide), hM5, gI_sI_ne _ _ (by decide), hM4, (zr_o _ (by decide)).1, hM3, (zr_o _ (by decide)).1, hM2, zr_I]; rfl
    · rw [hM6, gI_sI, tabr_in _ _ hh]
  exact e_vret C dX4_init_47 RT ⟨Nat.le_of_ble_eq_true rfl, Nat.le_of_ble_eq_true rfl⟩ (qv_ ⟨hst, hs_6⟩)
set_option maxHeartbeats 1000000 in
set_option maxRecDepth 100000 in
theorem c_X2 {M : Mm}  : CT mX2_init [.ref 7] ([.inr (7, [4, 9, 2, 2, 2, 2, 2, 2, 2, 0, 0, 0]), .inr (4, [5, 6, 7, 8]), .inl (0, 3), .inl (0, 60), .inl (0, 8), .inl (0, 8), .inl (0, 8), .inr (2, [2, 2, 2, 0])]) M (Qv [.inr (7, [4, 9, 2, 2, 2, 2, 2, 2, 2, 0, 0, 0]), .inr (4, [5, 6, 7, 8]), .inl (0, 3), .inl (0, 60), .inl (0, 8), .inl (0, 8), .inl (0, 8), .inr (2, [11, 12, 13, 0]), .inl (0, 36), .inl (0, 12), .inl (0, 512)] (fun m => TbOK m 0 (fun _ _ => 0) (fun _ => 0) ∧ Same [7, 8, 9, 10] M m)) := by
  refine CT.mkI (lv := [(0, .ref 7)]) rfl (by decide +kernel) rfl (Nat.le_of_ble_eq_true rfl) ?_
  intro X C RT hin
  refine e_aload_n C dX2_init_0 rfl rfl ?_
  refine e_oini C dX2_init_1 oiX2 wOi2 wOi3 (Nat.le_of_ble_eq_true rfl) ⟨Nat.le_of_ble_eq_true rfl, Nat.le_of_ble_eq_true rfl⟩ ?_
  refine e_aload_n C dX2_init_4 rfl rfl ?_
  refine e_bipush (v := (nI 36)) C dX2_init_5 (by decide) ?_
  refine e_newaI (q := 8) (sh2 := [.inr (7, [4, 9, 2, 2, 2, 2, 2, 2, 2, 0, 0, 0]), .inr (4, [5, 6, 7, 8]), .inl (0, 3), .inl (0, 60), .inl (0, 8), .inl (0, 8), .inl (0, 8), .inr (2, [2, 2, 2, 0]), .inl (0, 36)]) (kn2 := (1, 36)) C dX2_init_7 wA_int (by decide) rfl rfl rfl ⟨Nat.le_of_ble_eq_true rfl, Nat.le_of_ble_eq_true rfl⟩ ?_
  refine e_nm (fun M1 hM1 => ?_)
  refine e_putRF (sh2 := [.inr (7, [4, 9, 2, 2, 2, 2, 2, 2, 2, 0, 0, 0]), .inr (4, [5, 6, 7, 8]), .inl (0, 3), .inl (0, 60), .inl (0, 8), .inl (0, 8), .inl (0, 8), .inr (2, [11, 2, 2, 0]), .inl (0, 36)]) C dX2_init_9 pX2_9 rfl rfl rfl rfl (fun _ => rfl) (fun _ => rfl) hin ?_
  refine e_aload_n C dX2_init_12 rfl rfl ?_
  refine e_bipush (v := (nI 12)) C dX2_init_13 (by decide) ?_
  refine e_newaI (q := 9) (sh2 := [.inr (7, [4, 9, 2, 2, 2, 2, 2, 2, 2, 0, 0, 0]), .inr (4, [5, 6, 7, 8]), .inl (0, 3), .inl (0, 60), .inl (0, 8), .inl (0, 8), .inl (0, 8), .inr (2, [11, 2, 2, 0]), .inl (0, 36), .inl (0, 12)]) (kn2 := (2, 48)) C dX2_init_15 wA_int (by decide) rfl rfl rfl ⟨Nat.le_of_ble_eq_true rfl, Nat.le_of_ble_eq_true rfl⟩ ?_
  refine e_nm (fun M2 hM2 => ?_)
  refine e_putRF (sh2 := [.inr (7, [4, 9, 2, 2, 2, 2, 2, 2, 2, 0, 0, 0]), .inr (4, [5, 6, 7, 8]), .inl (0, 3), .inl (0, 60), .inl (0, 8), .inl (0, 8), .inl (0, 8), .inr (2, [11, 12, 2, 0]), .inl (0, 36), .inl (0, 12)]) C dX2_init_17 pX2_15 rfl rfl rfl rfl (fun _ => rfl) (fun _ => rfl) hin ?_
  refine e_aload_n C dX2_init_20 rfl rfl ?_
  refine e_sipush (v := (nI 512)) C dX2_init_21 (by decide) ?_
  refine e_newaI (q := 10) (sh2 := [.inr (7, [4, 9, 2, 2, 2, 2, 2, 2, 2, 0, 0, 0]), .inr (4, [5, 6, 7, 8]), .inl (0, 3), .inl (0, 60), .inl (0, 8), .inl (0, 8), .inl (0, 8), .inr (2, [11, 12, 2, 0]), .inl (0, 36), .inl (0, 12), .inl (0, 512)]) (kn2 := (3, 560)) C dX2_init_24 wA_int (by decide) rfl rfl rfl ⟨Nat.le_of_ble_eq_true rfl, Nat.le_of_ble_eq_true rfl⟩ ?_
  refine e_nm (fun M3 hM3 => ?_)
  refine e_putRF (sh2 := [.inr (7, [4, 9, 2, 2, 2, 2, 2, 2, 2, 0, 0, 0]), .inr (4, [5, 6, 7, 8]), .inl (0, 3), .inl (0, 60), .inl (0, 8), .inl (0, 8), .inl (0, 8), .inr (2, [11, 12, 13, 0]), .inl (0, 36), .inl (0, 12), .inl (0, 512)]) C dX2_init_26 pX2_18 rfl rfl rfl rfl (fun _ => rfl) (fun _ => rfl) hin ?_
  refine e_aload_n C dX2_init_29 rfl rfl ?_
  refine e_iconst (v := (nI 0)) C dX2_init_30 (by decide) ?_
  refine e_putI C dX2_init_31 pX2_21 rfl rfl rfl rfl ?_
  refine e_nm (fun M4 hM4 => ?_)
  refine e_aload_n C dX2_init_34 rfl rfl ?_
  refine e_getR (q := 10) C dX2_init_35 fX2_18 rfl rfl ?_
  refine e_iconst (v := (-1)) C dX2_init_38 (by decide) ?_
  refine e_callSv C dX2_init_39 [.ref 10, .int (-1)] (k_fillI (-1) rfl (by decide)) okJ7_fill_53178 lX2_25 rfl rfl ⟨rfl, rfl⟩ ⟨Nat.le_of_ble_eq_true rfl, Nat.le_of_ble_eq_true rfl⟩ (Nat.le_of_ble_eq_true rfl) ⟨Nat.le_of_ble_eq_true rfl, Nat.le_of_ble_eq_true rfl⟩ ?_
  refine e_nm (fun M5 hM5 => ?_)
  have hs_1 : Same [7, 8, 9, 10] M M1 := by rw [hM1]; exact (Same.rf [7, 8, 9, 10] M).Z (by decide)
  have hs_2 : Same [7, 8, 9, 10] M M2 := by rw [hM2]; exact hs_1.Z (by decide)
  have hs_3 : Same [7, 8, 9, 10] M M3 := by rw [hM3]; exact hs_2.Z (by decide)
  have hs_4 : Same [7, 8, 9, 10] M M4 := by rw [hM4]; exact hs_3.I (by decide)
  have hs_5 : Same [7, 8, 9, 10] M M5 := by rw [hM5]; exact hs_4.I (by decide)
  have htb : TbOK M5 0 (fun _ _ => 0) (fun _ => 0) := ⟨by rw [hM5, gI_sI_ne _ _ (by decide), hM4, gI_sI, upd_s], by decide, fun i hi => absurd hi (by omega), fun i hi => absurd hi (by omega), fun l hl => by rw [hM5, gI_sI]; unfold fillr; rw [if_pos hl]; rfl, fun i hi => absurd hi (by omega)⟩
  exact e_vret C dX2_init_42 RT ⟨Nat.le_of_ble_eq_true rfl, Nat.le_of_ble_eq_true rfl⟩ (qv_ ⟨htb, hs_5⟩)
set_option maxHeartbeats 1000000 in
set_option maxRecDepth 100000 in
theorem c_X5 {M : Mm}  : CT mX5_init [.ref 11] ([.inr (7, [4, 9, 10, 2, 2, 2, 2, 2, 2, 0, 0, 0]), .inr (4, [5, 6, 7, 8]), .inl (0, 3), .inl (0, 60), .inl (0, 8), .inl (0, 8), .inl (0, 8), .inr (2, [11, 12, 13, 0]), .inl (0, 36), .inl (0, 12), .inl (0, 512), .inr (5, [2, 2, 1, 0])]) M (Qv [.inr (7, [4, 9, 10, 2, 2, 2, 2, 2, 2, 0, 0, 0]), .inr (4, [5, 6, 7, 8]), .inl (0, 3), .inl (0, 60), .inl (0, 8), .inl (0, 8), .inl (0, 8), .inr (2, [11, 12, 13, 0]), .inl (0, 36), .inl (0, 12), .inl (0, 512), .inr (5, [15, 16, 1, 0]), .inl (1, 60), .inl (1, 1200)] (fun m => True ∧ Same [11, 12, 13] M m)) := by
  refine CT.mkI (lv := [(0, .ref 11)]) rfl (by decide +kernel) rfl (Nat.le_of_ble_eq_true rfl) ?_
  intro X C RT hin
  refine e_aload_n C dX5_init_0 rfl rfl ?_
  refine e_oini C dX5_init_1 oiX5 wOi2 wOi3 (Nat.le_of_ble_eq_true rfl) ⟨Nat.le_of_ble_eq_true rfl, Nat.le_of_ble_eq_true rfl⟩ ?_
  refine e_aload_n C dX5_init_4 rfl rfl ?_
  refine e_bipush (v := (nI 60)) C dX5_init_5 (by decide) ?_
  refine e_newaJ (q := 12) (sh2 := [.inr (7, [4, 9, 10, 2, 2, 2, 2, 2, 2, 0, 0, 0]), .inr (4, [5, 6, 7, 8]), .inl (0, 3), .inl (0, 60), .inl (0, 8), .inl (0, 8), .inl (0, 8), .inr (2, [11, 12, 13, 0]), .inl (0, 36), .inl (0, 12), .inl (0, 512), .inr (5, [2, 2, 1, 0]), .inl (1, 60)]) (kn2 := (1, 60)) C dX5_init_7 wA_long (by decide) rfl rfl rfl ⟨Nat.le_of_ble_eq_true rfl, Nat.le_of_ble_eq_true rfl⟩ ?_
  refine e_nm (fun M1 hM1 => ?_)
  refine e_putRF (sh2 := [.inr (7, [4, 9, 10, 2, 2, 2, 2, 2, 2, 0, 0, 0]), .inr (4, [5, 6, 7, 8]), .inl (0, 3), .inl (0, 60), .inl (0, 8), .inl (0, 8), .inl (0, 8), .inr (2, [11, 12, 13, 0]), .inl (0, 36), .inl (0, 12), .inl (0, 512), .inr (5, [15, 2, 1, 0]), .inl (1, 60)]) C dX5_init_9 pX5_9 rfl rfl rfl rfl (fun _ => rfl) (fun _ => rfl) hin ?_
  refine e_aload_n C dX5_init_12 rfl rfl ?_
  refine e_sipush (v := (nI 1200)) C dX5_init_13 (by decide) ?_
  refine e_newaJ (q := 13) (sh2 := [.inr (7, [4, 9, 10, 2, 2, 2, 2, 2, 2, 0, 0, 0]), .inr (4, [5, 6, 7, 8]), .inl (0, 3), .inl (0, 60), .inl (0, 8), .inl (0, 8), .inl (0, 8), .inr (2, [11, 12, 13, 0]), .inl (0, 36), .inl (0, 12), .inl (0, 512), .inr (5, [15, 2, 1, 0]), .inl (1, 60), .inl (1, 1200)]) (kn2 := (2, 1260)) C dX5_init_16 wA_long (by decide) rfl rfl rfl ⟨Nat.le_of_ble_eq_true rfl, Nat.le_of_ble_eq_true rfl⟩ ?_
  refine e_nm (fun M2 hM2 => ?_)
  refine e_putRF (sh2 := [.inr (7, [4, 9, 10, 2, 2, 2, 2, 2, 2, 0, 0, 0]), .inr (4, [5, 6, 7, 8]), .inl (0, 3), .inl (0, 60), .inl (0, 8), .inl (0, 8), .inl (0, 8), .inr (2, [11, 12, 13, 0]), .inl (0, 36), .inl (0, 12), .inl (0, 512), .inr (5, [15, 16, 1, 0]), .inl (1, 60), .inl (1, 1200)]) C dX5_init_18 pX5_15 rfl rfl rfl rfl (fun _ => rfl) (fun _ => rfl) hin ?_
  refine e_aload_n C dX5_init_21 rfl rfl ?_
  refine e_lconst (v := lN 0) C dX5_init_22 (by decide) ?_
  refine e_putJ C dX5_init_23 pX5_18 rfl rfl rfl rfl ?_
  refine e_nm (fun M3 hM3 => ?_)
  refine e_aload_n C dX5_init_26 rfl rfl ?_
  refine e_iconst (v := (nI 0)) C dX5_init_27 (by decide) ?_
  refine e_putI C dX5_init_28 pX5_22 rfl rfl rfl rfl ?_
  refine e_nm (fun M4 hM4 => ?_)
  have hs_1 : Same [11, 12, 13] M M1 := by rw [hM1]; exact (Same.rf [11, 12, 13] M).Z (by decide)
  have hs_2 : Same [11, 12, 13] M M2 := by rw [hM2]; exact hs_1.Z (by decide)
  have hs_3 : Same [11, 12, 13] M M3 := by rw [hM3]; exact hs_2.J (by decide)
  have hs_4 : Same [11, 12, 13] M M4 := by rw [hM4]; exact hs_3.I (by decide)
  exact e_vret C dX5_init_31 RT ⟨Nat.le_of_ble_eq_true rfl, Nat.le_of_ble_eq_true rfl⟩ (qv_ ⟨trivial, hs_4⟩)
set_option maxHeartbeats 1000000 in
set_option maxRecDepth 100000 in
theorem c_X1 {M : Mm}  : CT mX1_init [.ref 14] ([.inr (7, [4, 9, 10, 14, 2, 2, 2, 2, 2, 0, 0, 0]), .inr (4, [5, 6, 7, 8]), .inl (0, 3), .inl (0, 60), .inl (0, 8), .inl (0, 8), .inl (0, 8), .inr (2, [11, 12, 13, 0]), .inl (0, 36), .inl (0, 12), .inl (0, 512), .inr (5, [15, 16, 1, 0]), .inl (1, 60), .inl (1, 1200), .inr (1, [2, 2, 0])]) M (Qv [.inr (7, [4, 9, 10, 14, 2, 2, 2, 2, 2, 0, 0, 0]), .inr (4, [5, 6, 7, 8]), .inl (0, 3), .inl (0, 60), .inl (0, 8), .inl (0, 8), .inl (0, 8), .inr (2, [11, 12, 13, 0]), .inl (0, 36), .inl (0, 12), .inl (0, 512), .inr (5, [15, 16, 1, 0]), .inl (1, 60), .inl (1, 1200), .inr (1, [18, 19, 0]), .inl (0, 455), .inl (0, 455)] (fun m => True ∧ Same [14, 15, 16] M m)) := by
  refine CT.mkI (lv := [(0, .ref 14)]) rfl (by decide +kernel) rfl (Nat.le_of_ble_eq_true rfl) ?_
  intro X C RT hin
  refine e_aload_n C dX1_init_0 rfl rfl ?_
  refine e_oini C dX1_init_1 oiX1 wOi2 wOi3 (Nat.le_of_ble_eq_true rfl) ⟨Nat.le_of_ble_eq_true rfl, Nat.le_of_ble_eq_true rfl⟩ ?_
  refine e_aload_n C dX1_init_4 rfl rfl ?_
  refine e_sipush (v := (nI 455)) C dX1_init_5 (by decide) ?_
  refine e_newaI (q := 15) (sh2 := [.inr (7, [4, 9, 10, 14, 2, 2, 2, 2, 2, 0, 0, 0]), .inr (4, [5, 6, 7, 8]), .inl (0, 3), .inl (0, 60), .inl (0, 8), .inl (0, 8), .inl (0, 8), .inr (2, [11, 12, 13, 0]), .inl (0, 36), .inl (0, 12), .inl (0, 512), .inr (5, [15, 16, 1, 0]), .inl (1, 60), .inl (1, 1200), .inr (1, [2, 2, 0]), .inl (0, 455)]) (kn2 := (1, 455)) C dX1_init_8 wA_int (by decide) rfl rfl rfl ⟨Nat.le_of_ble_eq_true rfl, Nat.le_of_ble_eq_true rfl⟩ ?_
  refine e_nm (fun M1 hM1 => ?_)
  refine e_putRF (sh2 := [.inr (7, [4, 9, 10, 14, 2, 2, 2, 2, 2, 0, 0, 0]), .inr (4, [5, 6, 7, 8]), .inl (0, 3), .inl (0, 60), .inl (0, 8), .inl (0, 8), .inl (0, 8), .inr (2, [11, 12, 13, 0]), .inl (0, 36), .inl (0, 12), .inl (0, 512), .inr (5, [15, 16, 1, 0]), .inl (1, 60), .inl (1, 1200), .inr (1, [18, 2, 0]), .inl (0, 455)]) C dX1_init_10 pX1_9 rfl rfl rfl rfl (fun _ => rfl) (fun _ => rfl) hin ?_
  refine e_aload_n C dX1_init_13 rfl rfl ?_
  refine e_sipush (v := (nI 455)) C dX1_init_14 (by decide) ?_
  refine e_newaI (q := 16) (sh2 := [.inr (7, [4, 9, 10, 14, 2, 2, 2, 2, 2, 0, 0, 0]), .inr (4, [5, 6, 7, 8]), .inl (0, 3), .inl (0, 60), .inl (0, 8), .inl (0, 8), .inl (0, 8), .inr (2, [11, 12, 13, 0]), .inl (0, 36), .inl (0, 12), .inl (0, 512), .inr (5, [15, 16, 1, 0]), .inl (1, 60), .inl (1, 1200), .inr (1, [18, 2, 0]), .inl (0, 455), .inl (0, 455)]) (kn2 := (2, 910)) C dX1_init_17 wA_int (by decide) rfl rfl rfl ⟨Nat.le_of_ble_eq_true rfl, Nat.le_of_ble_eq_true rfl⟩ ?_
  refine e_nm (fun M2 hM2 => ?_)
  refine e_putRF (sh2 := [.inr (7, [4, 9, 10, 14, 2, 2, 2, 2, 2, 0, 0, 0]), .inr (4, [5, 6, 7, 8]), .inl (0, 3), .inl (0, 60), .inl (0, 8), .inl (0, 8), .inl (0, 8), .inr (2, [11, 12, 13, 0]), .inl (0, 36), .inl (0, 12), .inl (0, 512), .inr (5, [15, 16, 1, 0]), .inl (1, 60), .inl (1, 1200), .inr (1, [18, 19, 0]), .inl (0, 455), .inl (0, 455)]) C dX1_init_19 pX1_13 rfl rfl rfl rfl (fun _ => rfl) (fun _ => rfl) hin ?_
  refine e_aload_n C dX1_init_22 rfl rfl ?_
  refine e_iconst (v := (nI 0)) C dX1_init_23 (by decide) ?_
  refine e_putI C dX1_init_24 pX1_16 rfl rfl rfl rfl ?_
  refine e_nm (fun M3 hM3 => ?_)
  have hs_1 : Same [14, 15, 16] M M1 := by rw [hM1]; exact (Same.rf [14, 15, 16] M).Z (by decide)
  have hs_2 : Same [14, 15, 16] M M2 := by rw [hM2]; exact hs_1.Z (by decide)
  have hs_3 : Same [14, 15, 16] M M3 := by rw [hM3]; exact hs_2.I (by decide)
  exact e_vret C dX1_init_27 RT ⟨Nat.le_of_ble_eq_true rfl, Nat.le_of_ble_eq_true rfl⟩ (qv_ ⟨trivial, hs_3⟩)
set_option maxHeartbeats 1000000 in
set_option maxRecDepth 100000 in
theorem c_X6 {M : Mm}  : CT mX6_init [.ref 17] ([.inr (7, [4, 9, 10, 14, 17, 2, 2, 2, 2, 0, 0, 0]), .inr (4, [5, 6, 7, 8]), .inl (0, 3), .inl (0, 60), .inl (0, 8), .inl (0, 8), .inl (0, 8), .inr (2, [11, 12, 13, 0]), .inl (0, 36), .inl (0, 12), .inl (0, 512), .inr (5, [15, 16, 1, 0]), .inl (1, 60), .inl (1, 1200), .inr (1, [18, 19, 0]), .inl (0, 455), .inl (0, 455), .inr (6, [0, 0, 0, 0, 0, 0, 0])]) M (Qv [.inr (7, [4, 9, 10, 14, 17, 2, 2, 2, 2, 0, 0, 0]), .inr (4, [5, 6, 7, 8]), .inl (0, 3), .inl (0, 60), .inl (0, 8), .inl (0, 8), .inl (0, 8), .inr (2, [11, 12, 13, 0]), .inl (0, 36), .inl (0, 12), .inl (0, 512), .inr (5, [15, 16, 1, 0]), .inl (1, 60), .inl (1, 1200), .inr (1, [18, 19, 0]), .inl (0, 455), .inl (0, 455), .inr (6, [0, 0, 0, 0, 0, 0, 0])] (fun m => TlOK m 100 0 (fun _ => 0) ∧ Same [17] M m)) := by
  refine CT.mkI (lv := [(0, .ref 17)]) rfl (by decide +kernel) rfl (Nat.le_of_ble_eq_true rfl) ?_
  intro X C RT hin
  refine e_aload_n C dX6_init_0 rfl rfl ?_
  refine e_oini C dX6_init_1 oiX6 wOi2 wOi3 (Nat.le_of_ble_eq_true rfl) ⟨Nat.le_of_ble_eq_true rfl, Nat.le_of_ble_eq_true rfl⟩ ?_
  refine e_aload_n C dX6_init_4 rfl rfl ?_
  refine e_bipush (v := (nI 100)) C dX6_init_5 (by decide) ?_
  refine e_putI C dX6_init_7 pX6_9 rfl rfl rfl rfl ?_
  refine e_nm (fun M1 hM1 => ?_)
  refine e_aload_n C dX6_init_10 rfl rfl ?_
  refine e_iconst (v := (nI 0)) C dX6_init_11 (by decide) ?_
  refine e_putI C dX6_init_12 pX6_15 rfl rfl rfl rfl ?_
  refine e_nm (fun M2 hM2 => ?_)
  refine e_aload_n C dX6_init_15 rfl rfl ?_
  refine e_iconst (v := (nI 0)) C dX6_init_16 (by decide) ?_
  refine e_putI C dX6_init_17 pX6_18 rfl rfl rfl rfl ?_
  refine e_nm (fun M3 hM3 => ?_)
  refine e_aload_n C dX6_init_20 rfl rfl ?_
  refine e_iconst (v := (nI 0)) C dX6_init_21 (by decide) ?_
  refine e_putI C dX6_init_22 pX6_21 rfl rfl rfl rfl ?_
  refine e_nm (fun M4 hM4 => ?_)
  refine e_aload_n C dX6_init_25 rfl rfl ?_
  refine e_iconst (v := (nI 0)) C dX6_init_26 (by decide) ?_
  refine e_putI C dX6_init_27 pX6_24 rfl rfl rfl rfl ?_
  refine e_nm (fun M5 hM5 => ?_)
  refine e_aload_n C dX6_init_30 rfl rfl ?_
  refine e_iconst (v := (nI 0)) C dX6_init_31 (by decide) ?_
  refine e_putI C dX6_init_32 pX6_27 rfl rfl rfl rfl ?_
  refine e_nm (fun M6 hM6 => ?_)
  refine e_aload_n C dX6_init_35 rfl rfl ?_
  refine e_iconst (v := (nI 0)) C dX6_init_36 (by decide) ?_
  refine e_putI C dX6_init_37 pX6_30 rfl rfl rfl rfl ?_
  refine e_nm (fun M7 hM7 => ?_)
  have hs_1 : Same [17] M M1 := by rw [hM1]; exact (Same.rf [17] M).I (by decide)
  have hs_2 : Same [17] M M2 := by rw [hM2]; exact hs_1.I (by decide)
  have hs_3 : Same [17] M M3 := by rw [hM3]; exact hs_2.I (by decide)
  have hs_4 : Same [17] M M4 := by rw [hM4]; exact hs_3.I (by decide)
  have hs_5 : Same [17] M M5 := by rw [hM5]; exact hs_4.I (by decide)
  have hs_6 : Same [17] M M6 := by rw [hM6]; exact hs_5.I (by decide)
  have hs_7 : Same [17] M M7 := by rw [hM7]; exact hs_6.I (by decide)
  have e17 : gI M7 17 = upd (upd (upd (upd (upd (upd (upd (gI M 17) 0 (nI 100)) 1 (nI 0)) 2 (nI 0)) 3 (nI 0)) 4 (nI 0)) 5 (nI 0)) 6 (nI 0) := by rw [hM7, gI_sI, hM6, gI_sI, hM5, gI_sI, hM4, gI_sI, hM3, gI_sI, hM2, gI_sI, hM1, gI_sI]
  have htl : TlOK M7 100 0 (fun _ => 0) := by
    refine ⟨by rw [e17]; rfl, by rw [e17]; rfl, by decide, by decide, by decide, fun j h1 h2 => ?_⟩
    rw [e17]
    rcases (show j = 2 ∨ j = 3 ∨ j = 4 ∨ j = 5 ∨ j = 6 by omega) with rfl | rfl | rfl | rfl | rfl <;> rfl
  exact e_vret C dX6_init_40 RT ⟨Nat.le_of_ble_eq_true rfl, Nat.le_of_ble_eq_true rfl⟩ (qv_ ⟨htl, hs_7⟩)
set_option maxHeartbeats 1000000 in
set_option maxRecDepth 100000 in
theorem c_X3 {M : Mm}  : CT mX3_init [.ref 18] ([.inr (7, [4, 9, 10, 14, 17, 20, 2, 2, 2, 0, 0, 0]), .inr (4, [5, 6, 7, 8]), .inl (0, 3), .inl (0, 60), .inl (0, 8), .inl (0, 8), .inl (0, 8), .inr (2, [11, 12, 13, 0]), .inl (0, 36), .inl (0, 12), .inl (0, 512), .inr (5, [15, 16, 1, 0]), .inl (1, 60), .inl (1, 1200), .inr (1, [18, 19, 0]), .inl (0, 455), .inl (0, 455), .inr (6, [0, 0, 0, 0, 0, 0, 0]), .inr (3, [2, 0])]) M (Qv [.inr (7, [4, 9, 10, 14, 17, 20, 2, 2, 2, 0, 0, 0]), .inr (4, [5, 6, 7, 8]), .inl (0, 3), .inl (0, 60), .inl (0, 8), .inl (0, 8), .inl (0, 8), .inr (2, [11, 12, 13, 0]), .inl (0, 36), .inl (0, 12), .inl (0, 512), .inr (5, [15, 16, 1, 0]), .inl (1, 60), .inl (1, 1200), .inr (1, [18, 19, 0]), .inl (0, 455), .inl (0, 455), .inr (6, [0, 0, 0, 0, 0, 0, 0]), .inr (3, [22, 0]), .inl (0, 60)] (fun m => SgOK m 0 (fun _ _ => 0) ∧ Same [18, 19] M m)) := by
  refine CT.mkI (lv := [(0, .ref 18)]) rfl (by decide +kernel) rfl (Nat.le_of_ble_eq_true rfl) ?_
  intro X C RT hin
  refine e_aload_n C dX3_init_0 rfl rfl ?_
  refine e_oini C dX3_init_1 oiX3 wOi2 wOi3 (Nat.le_of_ble_eq_true rfl) ⟨Nat.le_of_ble_eq_true rfl, Nat.le_of_ble_eq_true rfl⟩ ?_
  refine e_aload_n C dX3_init_4 rfl rfl ?_
  refine e_bipush (v := (nI 60)) C dX3_init_5 (by decide) ?_
  refine e_newaI (q := 19) (sh2 := [.inr (7, [4, 9, 10, 14, 17, 20, 2, 2, 2, 0, 0, 0]), .inr (4, [5, 6, 7, 8]), .inl (0, 3), .inl (0, 60), .inl (0, 8), .inl (0, 8), .inl (0, 8), .inr (2, [11, 12, 13, 0]), .inl (0, 36), .inl (0, 12), .inl (0, 512), .inr (5, [15, 16, 1, 0]), .inl (1, 60), .inl (1, 1200), .inr (1, [18, 19, 0]), .inl (0, 455), .inl (0, 455), .inr (6, [0, 0, 0, 0, 0, 0, 0]), .inr (3, [2, 0]), .inl (0, 60)]) (kn2 := (1, 60)) C dX3_init_7 wA_int (by decide) rfl rfl rfl ⟨Nat.le_of_ble_eq_true rfl, Nat.le_of_ble_eq_true rfl⟩ ?_
  refine e_nm (fun M1 hM1 => ?_)
  refine e_putRF (sh2 := [.inr (7, [4, 9, 10, 14, 17, 20, 2, 2, 2, 0, 0, 0]), .inr (4, [5, 6, 7, 8]), .inl (0, 3), .inl (0, 60), .inl (0, 8), .inl (0, 8), .inl (0, 8), .inr (2, [11, 12, 13, 0]), .inl (0, 36), .inl (0, 12), .inl (0, 512), .inr (5, [15, 16, 1, 0]), .inl (1, 60), .inl (1, 1200), .inr (1, [18, 19, 0]), .inl (0, 455), .inl (0, 455), .inr (6, [0, 0, 0, 0, 0, 0, 0]), .inr (3, [22, 0]), .inl (0, 60)]) C dX3_init_9 pX3_9 rfl rfl rfl rfl (fun _ => rfl) (fun _ => rfl) hin ?_
  refine e_aload_n C dX3_init_12 rfl rfl ?_
  refine e_iconst (v := (nI 0)) C dX3_init_13 (by decide) ?_
  refine e_putI C dX3_init_14 pX3_15 rfl rfl rfl rfl ?_
  refine e_nm (fun M2 hM2 => ?_)
  have hs_1 : Same [18, 19] M M1 := by rw [hM1]; exact (Same.rf [18, 19] M).Z (by decide)
  have hs_2 : Same [18, 19] M M2 := by rw [hM2]; exact hs_1.I (by decide)
  have hsg : SgOK M2 0 (fun _ _ => 0) := ⟨by rw [hM2, gI_sI, upd_s], by decide, fun r _ s _ => by rw [hM2, gI_sI_ne _ _ (by decide), hM1, zr_I]; rfl⟩
  exact e_vret C dX3_init_17 RT ⟨Nat.le_of_ble_eq_true rfl, Nat.le_of_ble_eq_true rfl⟩ (qv_ ⟨hsg, hs_2⟩)
set_option maxHeartbeats 1000000 in
set_option maxRecDepth 100000 in
theorem c_X0 {M : Mm}  : CT mX0_init [.ref 20] ([.inr (7, [4, 9, 10, 14, 17, 20, 21, 2, 2, 0, 0, 0]), .inr (4, [5, 6, 7, 8]), .inl (0, 3), .inl (0, 60), .inl (0, 8), .inl (0, 8), .inl (0, 8), .inr (2, [11, 12, 13, 0]), .inl (0, 36), .inl (0, 12), .inl (0, 512), .inr (5, [15, 16, 1, 0]), .inl (1, 60), .inl (1, 1200), .inr (1, [18, 19, 0]), .inl (0, 455), .inl (0, 455), .inr (6, [0, 0, 0, 0, 0, 0, 0]), .inr (3, [22, 0]), .inl (0, 60), .inr (0, [2, 2, 2])]) M (Qv [.inr (7, [4, 9, 10, 14, 17, 20, 21, 2, 2, 0, 0, 0]), .inr (4, [5, 6, 7, 8]), .inl (0, 3), .inl (0, 60), .inl (0, 8), .inl (0, 8), .inl (0, 8), .inr (2, [11, 12, 13, 0]), .inl (0, 36), .inl (0, 12), .inl (0, 512), .inr (5, [15, 16, 1, 0]), .inl (1, 60), .inl (1, 1200), .inr (1, [18, 19, 0]), .inl (0, 455), .inl (0, 455), .inr (6, [0, 0, 0, 0, 0, 0, 0]), .inr (3, [22, 0]), .inl (0, 60), .inr (0, [24, 25, 26]), .inl (2, 201), .inl (2, 201), .inl (2, 201)] (fun m => True ∧ Same [20, 21, 22, 23] M m)) := by
  refine CT.mkI (lv := [(0, .ref 20)]) rfl (by decide +kernel) rfl (Nat.le_of_ble_eq_true rfl) ?_
  intro X C RT hin
  refine e_aload_n C dX0_init_0 rfl rfl ?_
  refine e_oini C dX0_init_1 oiX0 wOi2 wOi3 (Nat.le_of_ble_eq_true rfl) ⟨Nat.le_of_ble_eq_true rfl, Nat.le_of_ble_eq_true rfl⟩ ?_
  refine e_aload_n C dX0_init_4 rfl rfl ?_
  refine e_sipush (v := (nI 201)) C dX0_init_5 (by decide) ?_
  refine e_newaD (q := 21) (sh2 := [.inr (7, [4, 9, 10, 14, 17, 20, 21, 2, 2, 0, 0, 0]), .inr (4, [5, 6, 7, 8]), .inl (0, 3), .inl (0, 60), .inl (0, 8), .inl (0, 8), .inl (0, 8), .inr (2, [11, 12, 13, 0]), .inl (0, 36), .inl (0, 12), .inl (0, 512), .inr (5, [15, 16, 1, 0]), .inl (1, 60), .inl (1, 1200), .inr (1, [18, 19, 0]), .inl (0, 455), .inl (0, 455), .inr (6, [0, 0, 0, 0, 0, 0, 0]), .inr (3, [22, 0]), .inl (0, 60), .inr (0, [2, 2, 2]), .inl (2, 201)]) (kn2 := (1, 201)) C dX0_init_8 wA_double (by decide) rfl rfl rfl ⟨Nat.le_of_ble_eq_true rfl, Nat.le_of_ble_eq_true rfl⟩ ?_
  refine e_nm (fun M1 hM1 => ?_)
  refine e_putRF (sh2 := [.inr (7, [4, 9, 10, 14, 17, 20, 21, 2, 2, 0, 0, 0]), .inr (4, [5, 6, 7, 8]), .inl (0, 3), .inl (0, 60), .inl (0, 8), .inl (0, 8), .inl (0, 8), .inr (2, [11, 12, 13, 0]), .inl (0, 36), .inl (0, 12), .inl (0, 512), .inr (5, [15, 16, 1, 0]), .inl (1, 60), .inl (1, 1200), .inr (1, [18, 19, 0]), .inl (0, 455), .inl (0, 455), .inr (6, [0, 0, 0, 0, 0, 0, 0]), .inr (3, [22, 0]), .inl (0, 60), .inr (0, [24, 2, 2]), .inl (2, 201)]) C dX0_init_10 pX0_9 rfl rfl rfl rfl (fun _ => rfl) (fun _ => rfl) hin ?_
  refine e_aload_n C dX0_init_13 rfl rfl ?_
  refine e_sipush (v := (nI 201)) C dX0_init_14 (by decide) ?_
  refine e_newaD (q := 22) (sh2 := [.inr (7, [4, 9, 10, 14, 17, 20, 21, 2, 2, 0, 0, 0]), .inr (4, [5, 6, 7, 8]), .inl (0, 3), .inl (0, 60), .inl (0, 8), .inl (0, 8), .inl (0, 8), .inr (2, [11, 12, 13, 0]), .inl (0, 36), .inl (0, 12), .inl (0, 512), .inr (5, [15, 16, 1, 0]), .inl (1, 60), .inl (1, 1200), .inr (1, [18, 19, 0]), .inl (0, 455), .inl (0, 455), .inr (6, [0, 0, 0, 0, 0, 0, 0]), .inr (3, [22, 0]), .inl (0, 60), .inr (0, [24, 2, 2]), .inl (2, 201), .inl (2, 201)]) (kn2 := (2, 402)) C dX0_init_17 wA_double (by decide) rfl rfl rfl ⟨Nat.le_of_ble_eq_true rfl, Nat.le_of_ble_eq_true rfl⟩ ?_
  refine e_nm (fun M2 hM2 => ?_)
  refine e_putR (sh2 := [.inr (7, [4, 9, 10, 14, 17, 20, 21, 2, 2, 0, 0, 0]), .inr (4, [5, 6, 7, 8]), .inl (0, 3), .inl (0, 60), .inl (0, 8), .inl (0, 8), .inl (0, 8), .inr (2, [11, 12, 13, 0]), .inl (0, 36), .inl (0, 12), .inl (0, 512), .inr (5, [15, 16, 1, 0]), .inl (1, 60), .inl (1, 1200), .inr (1, [18, 19, 0]), .inl (0, 455), .inl (0, 455), .inr (6, [0, 0, 0, 0, 0, 0, 0]), .inr (3, [22, 0]), .inl (0, 60), .inr (0, [24, 25, 2]), .inl (2, 201), .inl (2, 201)]) C dX0_init_19 pX0_15 rfl rfl rfl rfl (fun _ => rfl) (fun _ => rfl) ?_
  refine e_aload_n C dX0_init_22 rfl rfl ?_
  refine e_sipush (v := (nI 201)) C dX0_init_23 (by decide) ?_
  refine e_newaD (q := 23) (sh2 := [.inr (7, [4, 9, 10, 14, 17, 20, 21, 2, 2, 0, 0, 0]), .inr (4, [5, 6, 7, 8]), .inl (0, 3), .inl (0, 60), .inl (0, 8), .inl (0, 8), .inl (0, 8), .inr (2, [11, 12, 13, 0]), .inl (0, 36), .inl (0, 12), .inl (0, 512), .inr (5, [15, 16, 1, 0]), .inl (1, 60), .inl (1, 1200), .inr (1, [18, 19, 0]), .inl (0, 455), .inl (0, 455), .inr (6, [0, 0, 0, 0, 0, 0, 0]), .inr (3, [22, 0]), .inl (0, 60), .inr (0, [24, 25, 2]), .inl (2, 201), .inl (2, 201), .inl (2, 201)]) (kn2 := (3, 603)) C dX0_init_26 wA_double (by decide) rfl rfl rfl ⟨Nat.le_of_ble_eq_true rfl, Nat.le_of_ble_eq_true rfl⟩ ?_
  refine e_nm (fun M3 hM3 => ?_)
  refine e_putR (sh2 := [.inr (7, [4, 9, 10, 14, 17, 20, 21, 2, 2, 0, 0, 0]), .inr (4, [5, 6, 7, 8]), .inl (0, 3), .inl (0, 60), .inl (0, 8), .inl (0, 8), .inl (0, 8), .inr (2, [11, 12, 13, 0]), .inl (0, 36), .inl (0, 12), .inl (0, 512), .inr (5, [15, 16, 1, 0]), .inl (1, 60), .inl (1, 1200), .inr (1, [18, 19, 0]), .inl (0, 455), .inl (0, 455), .inr (6, [0, 0, 0, 0, 0, 0, 0]), .inr (3, [22, 0]), .inl (0, 60), .inr (0, [24, 25, 26]), .inl (2, 201), .inl (2, 201), .inl (2, 201)]) C dX0_init_28 pX0_18 rfl rfl rfl rfl (fun _ => rfl) (fun _ => rfl) ?_
  have hs_1 : Same [20, 21, 22, 23] M M1 := by rw [hM1]; exact (Same.rf [20, 21, 22, 23] M).Z (by decide)
  have hs_2 : Same [20, 21, 22, 23] M M2 := by rw [hM2]; exact hs_1.Z (by decide)
  have hs_3 : Same [20, 21, 22, 23] M M3 := by rw [hM3]; exact hs_2.Z (by decide)
  exact e_vret C dX0_init_31 RT ⟨Nat.le_of_ble_eq_true rfl, Nat.le_of_ble_eq_true rfl⟩ (qv_ ⟨trivial, hs_3⟩)
/-- the start -/
def s0 : St := ((fun _ => 4), (fun _ => 0), (fun _ => 0), 0, (fun _ _ => 0), (fun _ => 0), 1, 100, 0, (fun _ => 0), 0, (fun _ _ => 0))
set_option maxHeartbeats 1000000 in
set_option maxRecDepth 100000 in
theorem c_X7 {M : Mm} : CT mX7_init [.ref 0] ([.inr (7, [2, 2, 2, 2, 2, 2, 2, 2, 2, 0, 0, 0])]) M (Qv [.inr (7, [4, 9, 10, 14, 17, 20, 21, 23, 27, 0, 0, 0]), .inr (4, [5, 6, 7, 8]), .inl (0, 3), .inl (0, 60), .inl (0, 8), .inl (0, 8), .inl (0, 8), .inr (2, [11, 12, 13, 0]), .inl (0, 36), .inl (0, 12), .inl (0, 512), .inr (5, [15, 16, 1, 0]), .inl (1, 60), .inl (1, 1200), .inr (1, [18, 19, 0]), .inl (0, 455), .inl (0, 455), .inr (6, [0, 0, 0, 0, 0, 0, 0]), .inr (3, [22, 0]), .inl (0, 60), .inr (0, [24, 25, 26]), .inl (2, 201), .inl (2, 201), .inl (2, 201), .inl (1, 8)] (fun m => CInv m s0)) := by
  refine CT.mkI (lv := [(0, .ref 0)]) rfl (by decide +kernel) rfl (Nat.le_of_ble_eq_true rfl) ?_
  intro X C RT hin
  refine e_aload_n C dX7_init_0 rfl rfl ?_
  refine e_oini C dX7_init_1 oiX7 wOi2 wOi3 (Nat.le_of_ble_eq_true rfl) ⟨Nat.le_of_ble_eq_true rfl, Nat.le_of_ble_eq_true rfl⟩ ?_
  refine e_aload_n C dX7_init_4 rfl rfl ?_
  refine e_newo (q := 1) (sh2 := [.inr (7, [2, 2, 2, 2, 2, 2, 2, 2, 2, 0, 0, 0]), .inr (4, [2, 2, 2, 2])]) (kn2 := (1, 4)) C dX7_init_5 nwX7_7 rfl rfl rfl ⟨Nat.le_of_ble_eq_true rfl, Nat.le_of_ble_eq_true rfl⟩ ?_
  refine e_nm (fun M1 hM1 => ?_)
  refine e_dup C dX7_init_8 rfl ?_
  refine e_callI (sh2 := [.inr (7, [2, 2, 2, 2, 2, 2, 2, 2, 2, 0, 0, 0]), .inr (4, [5, 6, 7, 8]), .inl (0, 3), .inl (0, 60), .inl (0, 8), .inl (0, 8)]) (kn2 := (5, 83)) C dX7_init_9 (c_X4) okX4_init lX7_9 rfl rfl ⟨Nat.le_of_ble_eq_true rfl, Nat.le_of_ble_eq_true rfl⟩ (Nat.le_of_ble_eq_true rfl) rfl ⟨Nat.le_of_ble_eq_true rfl, Nat.le_of_ble_eq_true rfl⟩ rfl (fun M2 hM2 => ?_)
  refine e_putRF (sh2 := [.inr (7, [4, 2, 2, 2, 2, 2, 2, 2, 2, 0, 0, 0]), .inr (4, [5, 6, 7, 8]), .inl (0, 3), .inl (0, 60), .inl (0, 8), .inl (0, 8)]) C dX7_init_12 pX7_10 rfl rfl rfl rfl (fun _ => rfl) (fun _ => rfl) hin ?_
  refine e_aload_n C dX7_init_15 rfl rfl ?_
  refine e_bipush (v := (nI 8)) C dX7_init_16 (by decide) ?_
  refine e_newaI (q := 6) (sh2 := [.inr (7, [4, 2, 2, 2, 2, 2, 2, 2, 2, 0, 0, 0]), .inr (4, [5, 6, 7, 8]), .inl (0, 3), .inl (0, 60), .inl (0, 8), .inl (0, 8), .inl (0, 8)]) (kn2 := (6, 91)) C dX7_init_18 wA_int (by decide) rfl rfl rfl ⟨Nat.le_of_ble_eq_true rfl, Nat.le_of_ble_eq_true rfl⟩ ?_
  refine e_nm (fun M3 hM3 => ?_)
  refine e_putRF (sh2 := [.inr (7, [4, 9, 2, 2, 2, 2, 2, 2, 2, 0, 0, 0]), .inr (4, [5, 6, 7, 8]), .inl (0, 3), .inl (0, 60), .inl (0, 8), .inl (0, 8), .inl (0, 8)]) C dX7_init_20 pX7_16 rfl rfl rfl rfl (fun _ => rfl) (fun _ => rfl) hin ?_
  refine e_aload_n C dX7_init_23 rfl rfl ?_
  refine e_newo (q := 7) (sh2 := [.inr (7, [4, 9, 2, 2, 2, 2, 2, 2, 2, 0, 0, 0]), .inr (4, [5, 6, 7, 8]), .inl (0, 3), .inl (0, 60), .inl (0, 8), .inl (0, 8), .inl (0, 8), .inr (2, [2, 2, 2, 0])]) (kn2 := (7, 95)) C dX7_init_24 nwX7_20 rfl rfl rfl ⟨Nat.le_of_ble_eq_true rfl, Nat.le_of_ble_eq_true rfl⟩ ?_
  refine e_nm (fun M4 hM4 => ?_)
  refine e_dup C dX7_init_27 rfl ?_
  refine e_callI (sh2 := [.inr (7, [4, 9, 2, 2, 2, 2, 2, 2, 2, 0, 0, 0]), .inr (4, [5, 6, 7, 8]), .inl (0, 3), .inl (0, 60), .inl (0, 8), .inl (0, 8), .inl (0, 8), .inr (2, [11, 12, 13, 0]), .inl (0, 36), .inl (0, 12), .inl (0, 512)]) (kn2 := (10, 655)) C dX7_init_28 (c_X2) okX2_init lX7_22 rfl rfl ⟨Nat.le_of_ble_eq_true rfl, Nat.le_of_ble_eq_true rfl⟩ (Nat.le_of_ble_eq_true rfl) rfl ⟨Nat.le_of_ble_eq_true rfl, Nat.le_of_ble_eq_true rfl⟩ rfl (fun M5 hM5 => ?_)
  refine e_putRF (sh2 := [.inr (7, [4, 9, 10, 2, 2, 2, 2, 2, 2, 0, 0, 0]), .inr (4, [5, 6, 7, 8]), .inl (0, 3), .inl (0, 60), .inl (0, 8), .inl (0, 8), .inl (0, 8), .inr (2, [11, 12, 13, 0]), .inl (0, 36), .inl (0, 12), .inl (0, 512)]) C dX7_init_31 pX7_23 rfl rfl rfl rfl (fun _ => rfl) (fun _ => rfl) hin ?_
  refine e_aload_n C dX7_init_34 rfl rfl ?_
  refine e_newo (q := 11) (sh2 := [.inr (7, [4, 9, 10, 2, 2, 2, 2, 2, 2, 0, 0, 0]), .inr (4, [5, 6, 7, 8]), .inl (0, 3), .inl (0, 60), .inl (0, 8), .inl (0, 8), .inl (0, 8), .inr (2, [11, 12, 13, 0]), .inl (0, 36), .inl (0, 12), .inl (0, 512), .inr (5, [2, 2, 1, 0])]) (kn2 := (11, 659)) C dX7_init_35 nwX7_27 rfl rfl rfl ⟨Nat.le_of_ble_eq_true rfl, Nat.le_of_ble_eq_true rfl⟩ ?_
  refine e_nm (fun M6 hM6 => ?_)
  refine e_dup C dX7_init_38 rfl ?_
  refine e_callI (sh2 := [.inr (7, [4, 9, 10, 2, 2, 2, 2, 2, 2, 0, 0, 0]), .inr (4, [5, 6, 7, 8]), .inl (0, 3), .inl (0, 60), .inl (0, 8), .inl (0, 8), .inl (0, 8), .inr (2, [11, 12, 13, 0]), .inl (0, 36), .inl (0, 12), .inl (0, 512), .inr (5, [15, 16, 1, 0]), .inl (1, 60), .inl (1, 1200)]) (kn2 := (13, 1919)) C dX7_init_39 (c_X5) okX5_init lX7_29 rfl rfl ⟨Nat.le_of_ble_eq_true rfl, Nat.le_of_ble_eq_true rfl⟩ (Nat.le_of_ble_eq_true rfl) rfl ⟨Nat.le_of_ble_eq_true rfl, Nat.le_of_ble_eq_true rfl⟩ rfl (fun M7 hM7 => ?_)
  refine e_putRF (sh2 := [.inr (7, [4, 9, 10, 14, 2, 2, 2, 2, 2, 0, 0, 0]), .inr (4, [5, 6, 7, 8]), .inl (0, 3), .inl (0, 60), .inl (0, 8), .inl (0, 8), .inl (0, 8), .inr (2, [11, 12, 13, 0]), .inl (0, 36), .inl (0, 12), .inl (0, 512), .inr (5, [15, 16, 1, 0]), .inl (1, 60), .inl (1, 1200)]) C dX7_init_42 pX7_30 rfl rfl rfl rfl (fun _ => rfl) (fun _ => rfl) hin ?_
  refine e_aload_n C dX7_init_45 rfl rfl ?_
  refine e_newo (q := 14) (sh2 := [.inr (7, [4, 9, 10, 14, 2, 2, 2, 2, 2, 0, 0, 0]), .inr (4, [5, 6, 7, 8]), .inl (0, 3), .inl (0, 60), .inl (0, 8), .inl (0, 8), .inl (0, 8), .inr (2, [11, 12, 13, 0]), .inl (0, 36), .inl (0, 12), .inl (0, 512), .inr (5, [15, 16, 1, 0]), .inl (1, 60), .inl (1, 1200), .inr (1, [2, 2, 0])]) (kn2 := (14, 1922)) C dX7_init_46 nwX7_34 rfl rfl rfl ⟨Nat.le_of_ble_eq_true rfl, Nat.le_of_ble_eq_true rfl⟩ ?_
  refine e_nm (fun M8 hM8 => ?_)
  refine e_dup C dX7_init_49 rfl ?_
  refine e_callI (sh2 := [.inr (7, [4, 9, 10, 14, 2, 2, 2, 2, 2, 0, 0, 0]), .inr (4, [5, 6, 7, 8]), .inl (0, 3), .inl (0, 60), .inl (0, 8), .inl (0, 8), .inl (0, 8), .inr (2, [11, 12, 13, 0]), .inl (0, 36), .inl (0, 12), .inl (0, 512), .inr (5, [15, 16, 1, 0]), .inl (1, 60), .inl (1, 1200), .inr (1, [18, 19, 0]), .inl (0, 455), .inl (0, 455)]) (kn2 := (16, 2832)) C dX7_init_50 (c_X1) okX1_init lX7_36 rfl rfl ⟨Nat.le_of_ble_eq_true rfl, Nat.le_of_ble_eq_true rfl⟩ (Nat.le_of_ble_eq_true rfl) rfl ⟨Nat.le_of_ble_eq_true rfl, Nat.le_of_ble_eq_true rfl⟩ rfl (fun M9 hM9 => ?_)
  refine e_putRF (sh2 := [.inr (7, [4, 9, 10, 14, 17, 2, 2, 2, 2, 0, 0, 0]), .inr (4, [5, 6, 7, 8]), .inl (0, 3), .inl (0, 60), .inl (0, 8), .inl (0, 8), .inl (0, 8), .inr (2, [11, 12, 13, 0]), .inl (0, 36), .inl (0, 12), .inl (0, 512), .inr (5, [15, 16, 1, 0]), .inl (1, 60), .inl (1, 1200), .inr (1, [18, 19, 0]), .inl (0, 455), .inl (0, 455)]) C dX7_init_53 pX7_37 rfl rfl rfl rfl (fun _ => rfl) (fun _ => rfl) hin ?_
  refine e_aload_n C dX7_init_56 rfl rfl ?_
  refine e_newo (q := 17) (sh2 := [.inr (7, [4, 9, 10, 14, 17, 2, 2, 2, 2, 0, 0, 0]), .inr (4, [5, 6, 7, 8]), .inl (0, 3), .inl (0, 60), .inl (0, 8), .inl (0, 8), .inl (0, 8), .inr (2, [11, 12, 13, 0]), .inl (0, 36), .inl (0, 12), .inl (0, 512), .inr (5, [15, 16, 1, 0]), .inl (1, 60), .inl (1, 1200), .inr (1, [18, 19, 0]), .inl (0, 455), .inl (0, 455), .inr (6, [0, 0, 0, 0, 0, 0, 0])]) (kn2 := (17, 2839)) C dX7_init_57 nwX7_41 rfl rfl rfl ⟨Nat.le_of_ble_eq_true rfl, Nat.le_of_ble_eq_true rfl⟩ ?_
  refine e_nm (fun M10 hM10 => ?_)
  refine e_dup C dX7_init_60 rfl ?_
  refine e_callI (sh2 := [.inr (7, [4, 9, 10, 14, 17, 2, 2, 2, 2, 0, 0, 0]), .inr (4, [5, 6, 7, 8]), .inl (0, 3), .inl (0, 60), .inl (0, 8), .inl (0, 8), .inl (0, 8), .inr (2, [11, 12, 13, 0]), .inl (0, 36), .inl (0, 12), .inl (0, 512), .inr (5, [15, 16, 1, 0]), .inl (1, 60), .inl (1, 1200), .inr (1, [18, 19, 0]), .inl (0, 455), .inl (0, 455), .inr (6, [0, 0, 0, 0, 0, 0, 0])]) (kn2 := (17, 2839)) C dX7_init_61 (c_X6) okX6_init lX7_43 rfl rfl ⟨Nat.le_of_ble_eq_true rfl, Nat.le_of_ble_eq_true rfl⟩ (Nat.le_of_ble_eq_true rfl) rfl ⟨Nat.le_of_ble_eq_true rfl, Nat.le_of_ble_eq_true rfl⟩ rfl (fun M11 hM11 => ?_)
  refine e_putRF (sh2 := [.inr (7, [4, 9, 10, 14, 17, 20, 2, 2, 2, 0, 0, 0]), .inr (4, [5, 6, 7, 8]), .inl (0, 3), .inl (0, 60), .inl (0, 8), .inl (0, 8), .inl (0, 8), .inr (2, [11, 12, 13, 0]), .inl (0, 36), .inl (0, 12), .inl (0, 512), .inr (5, [15, 16, 1, 0]), .inl (1, 60), .inl (1, 1200), .inr (1, [18, 19, 0]), .inl (0, 455), .inl (0, 455), .inr (6, [0, 0, 0, 0, 0, 0, 0])]) C dX7_init_64 pX7_44 rfl rfl rfl rfl (fun _ => rfl) (fun _ => rfl) hin ?_
  refine e_aload_n C dX7_init_67 rfl rfl ?_
  refine e_newo (q := 18) (sh2 := [.inr (7, [4, 9, 10, 14, 17, 20, 2, 2, 2, 0, 0, 0]), .inr (4, [5, 6, 7, 8]), .inl (0, 3), .inl (0, 60), .inl (0, 8), .inl (0, 8), .inl (0, 8), .inr (2, [11, 12, 13, 0]), .inl (0, 36), .inl (0, 12), .inl (0, 512), .inr (5, [15, 16, 1, 0]), .inl (1, 60), .inl (1, 1200), .inr (1, [18, 19, 0]), .inl (0, 455), .inl (0, 455), .inr (6, [0, 0, 0, 0, 0, 0, 0]), .inr (3, [2, 0])]) (kn2 := (18, 2841)) C dX7_init_68 nwX7_48 rfl rfl rfl ⟨Nat.le_of_ble_eq_true rfl, Nat.le_of_ble_eq_true rfl⟩ ?_
  refine e_nm (fun M12 hM12 => ?_)
  refine e_dup C dX7_init_71 rfl ?_
  refine e_callI (sh2 := [.inr (7, [4, 9, 10, 14, 17, 20, 2, 2, 2, 0, 0, 0]), .inr (4, [5, 6, 7, 8]), .inl (0, 3), .inl (0, 60), .inl (0, 8), .inl (0, 8), .inl (0, 8), .inr (2, [11, 12, 13, 0]), .inl (0, 36), .inl (0, 12), .inl (0, 512), .inr (5, [15, 16, 1, 0]), .inl (1, 60), .inl (1, 1200), .inr (1, [18, 19, 0]), .inl (0, 455), .inl (0, 455), .inr (6, [0, 0, 0, 0, 0, 0, 0]), .inr (3, [22, 0]), .inl (0, 60)]) (kn2 := (19, 2901)) C dX7_init_72 (c_X3) okX3_init lX7_50 rfl rfl ⟨Nat.le_of_ble_eq_true rfl, Nat.le_of_ble_eq_true rfl⟩ (Nat.le_of_ble_eq_true rfl) rfl ⟨Nat.le_of_ble_eq_true rfl, Nat.le_of_ble_eq_true rfl⟩ rfl (fun M13 hM13 => ?_)
  refine e_putRF (sh2 := [.inr (7, [4, 9, 10, 14, 17, 20, 21, 2, 2, 0, 0, 0]), .inr (4, [5, 6, 7, 8]), .inl (0, 3), .inl (0, 60), .inl (0, 8), .inl (0, 8), .inl (0, 8), .inr (2, [11, 12, 13, 0]), .inl (0, 36), .inl (0, 12), .inl (0, 512), .inr (5, [15, 16, 1, 0]), .inl (1, 60), .inl (1, 1200), .inr (1, [18, 19, 0]), .inl (0, 455), .inl (0, 455), .inr (6, [0, 0, 0, 0, 0, 0, 0]), .inr (3, [22, 0]), .inl (0, 60)]) C dX7_init_75 pX7_51 rfl rfl rfl rfl (fun _ => rfl) (fun _ => rfl) hin ?_
  refine e_aload_n C dX7_init_78 rfl rfl ?_
  refine e_newo (q := 20) (sh2 := [.inr (7, [4, 9, 10, 14, 17, 20, 21, 2, 2, 0, 0, 0]), .inr (4, [5, 6, 7, 8]), .inl (0, 3), .inl (0, 60), .inl (0, 8), .inl (0, 8), .inl (0, 8), .inr (2, [11, 12, 13, 0]), .inl (0, 36), .inl (0, 12), .inl (0, 512), .inr (5, [15, 16, 1, 0]), .inl (1, 60), .inl (1, 1200), .inr (1, [18, 19, 0]), .inl (0, 455), .inl (0, 455), .inr (6, [0, 0, 0, 0, 0, 0, 0]), .inr (3, [22, 0]), .inl (0, 60), .inr (0, [2, 2, 2])]) (kn2 := (20, 2904)) C dX7_init_79 nwX7_55 rfl rfl rfl ⟨Nat.le_of_ble_eq_true rfl, Nat.le_of_ble_eq_true rfl⟩ ?_
  refine e_nm (fun M14 hM14 => ?_)
  refine e_dup C dX7_init_82 rfl ?_
  refine e_callI (sh2 := [.inr (7, [4, 9, 10, 14, 17, 20, 21, 2, 2, 0, 0, 0]), .inr (4, [5, 6, 7, 8]), .inl (0, 3), .inl (0, 60), .inl (0, 8), .inl (0, 8), .inl (0, 8), .inr (2, [11, 12, 13, 0]), .inl (0, 36), .inl (0, 12), .inl (0, 512), .inr (5, [15, 16, 1, 0]), .inl (1, 60), .inl (1, 1200), .inr (1, [18, 19, 0]), .inl (0, 455), .inl (0, 455), .inr (6, [0, 0, 0, 0, 0, 0, 0]), .inr (3, [22, 0]), .inl (0, 60), .inr (0, [24, 25, 26]), .inl (2, 201), .inl (2, 201), .inl (2, 201)]) (kn2 := (23, 3507)) C dX7_init_83 (c_X0) okX0_init lX7_57 rfl rfl ⟨Nat.le_of_ble_eq_true rfl, Nat.le_of_ble_eq_true rfl⟩ (Nat.le_of_ble_eq_true rfl) rfl ⟨Nat.le_of_ble_eq_true rfl, Nat.le_of_ble_eq_true rfl⟩ rfl (fun M15 hM15 => ?_)
  refine e_putRF (sh2 := [.inr (7, [4, 9, 10, 14, 17, 20, 21, 23, 2, 0, 0, 0]), .inr (4, [5, 6, 7, 8]), .inl (0, 3), .inl (0, 60), .inl (0, 8), .inl (0, 8), .inl (0, 8), .inr (2, [11, 12, 13, 0]), .inl (0, 36), .inl (0, 12), .inl (0, 512), .inr (5, [15, 16, 1, 0]), .inl (1, 60), .inl (1, 1200), .inr (1, [18, 19, 0]), .inl (0, 455), .inl (0, 455), .inr (6, [0, 0, 0, 0, 0, 0, 0]), .inr (3, [22, 0]), .inl (0, 60), .inr (0, [24, 25, 26]), .inl (2, 201), .inl (2, 201), .inl (2, 201)]) C dX7_init_86 pX7_58 rfl rfl rfl rfl (fun _ => rfl) (fun _ => rfl) hin ?_
  refine e_aload_n C dX7_init_89 rfl rfl ?_
  refine e_bipush (v := (nI 8)) C dX7_init_90 (by decide) ?_
  refine e_newaJ (q := 24) (sh2 := [.inr (7, [4, 9, 10, 14, 17, 20, 21, 23, 2, 0, 0, 0]), .inr (4, [5, 6, 7, 8]), .inl (0, 3), .inl (0, 60), .inl (0, 8), .inl (0, 8), .inl (0, 8), .inr (2, [11, 12, 13, 0]), .inl (0, 36), .inl (0, 12), .inl (0, 512), .inr (5, [15, 16, 1, 0]), .inl (1, 60), .inl (1, 1200), .inr (1, [18, 19, 0]), .inl (0, 455), .inl (0, 455), .inr (6, [0, 0, 0, 0, 0, 0, 0]), .inr (3, [22, 0]), .inl (0, 60), .inr (0, [24, 25, 26]), .inl (2, 201), .inl (2, 201), .inl (2, 201), .inl (1, 8)]) (kn2 := (24, 3515)) C dX7_init_92 wA_long (by decide) rfl rfl rfl ⟨Nat.le_of_ble_eq_true rfl, Nat.le_of_ble_eq_true rfl⟩ ?_
  refine e_nm (fun M16 hM16 => ?_)
  refine e_putRF (sh2 := [.inr (7, [4, 9, 10, 14, 17, 20, 21, 23, 27, 0, 0, 0]), .inr (4, [5, 6, 7, 8]), .inl (0, 3), .inl (0, 60), .inl (0, 8), .inl (0, 8), .inl (0, 8), .inr (2, [11, 12, 13, 0]), .inl (0, 36), .inl (0, 12), .inl (0, 512), .inr (5, [15, 16, 1, 0]), .inl (1, 60), .inl (1, 1200), .inr (1, [18, 19, 0]), .inl (0, 455), .inl (0, 455), .inr (6, [0, 0, 0, 0, 0, 0, 0]), .inr (3, [22, 0]), .inl (0, 60), .inr (0, [24, 25, 26]), .inl (2, 201), .inl (2, 201), .inl (2, 201), .inl (1, 8)]) C dX7_init_94 pX7_62 rfl rfl rfl rfl (fun _ => rfl) (fun _ => rfl) hin ?_
  refine e_aload_n C dX7_init_97 rfl rfl ?_
  refine e_iconst (v := (nI 1)) C dX7_init_98 (by decide) ?_
  refine e_putI C dX7_init_99 pX7_66 rfl rfl rfl rfl ?_
  refine e_nm (fun M17 hM17 => ?_)
  refine e_aload_n C dX7_init_102 rfl rfl ?_
  refine e_iconst (v := (nI 0)) C dX7_init_103 (by decide) ?_
  refine e_putI C dX7_init_104 pX7_70 rfl rfl (by decide) (by decide) ?_
  refine e_nm (fun M18 hM18 => ?_)
  refine e_aload_n C dX7_init_107 rfl rfl ?_
  refine e_iconst (v := (nI 0)) C dX7_init_108 (by decide) ?_
  refine e_putI C dX7_init_109 pX7_74 rfl rfl (by decide) (by decide) ?_
  refine e_nm (fun M19 hM19 => ?_)
  have hA_1 : Same [0, 6, 7, 8, 9, 10, 11, 12, 13, 14, 15, 16, 17, 18, 19, 20, 21, 22, 23, 24] M2 M3 := by rw [hM3]; exact (Same.rf [0, 6, 7, 8, 9, 10, 11, 12, 13, 14, 15, 16, 17, 18, 19, 20, 21, 22, 23, 24] M2).Z (by decide)
  have hA_2 : Same [0, 6, 7, 8, 9, 10, 11, 12, 13, 14, 15, 16, 17, 18, 19, 20, 21, 22, 23, 24] M2 M4 := by rw [hM4]; exact hA_1.Z (by decide)
  have hA_3 : Same [0, 6, 7, 8, 9, 10, 11, 12, 13, 14, 15, 16, 17, 18, 19, 20, 21, 22, 23, 24] M2 M5 := Same.tr hA_2 (hM5.2.up (by decide))
  have hA_4 : Same [0, 6, 7, 8, 9, 10, 11, 12, 13, 14, 15, 16, 17, 18, 19, 20, 21, 22, 23, 24] M2 M6 := by rw [hM6]; exact hA_3.Z (by decide)
  have hA_5 : Same [0, 6, 7, 8, 9, 10, 11, 12, 13, 14, 15, 16, 17, 18, 19, 20, 21, 22, 23, 24] M2 M7 := Same.tr hA_4 (hM7.2.up (by decide))
  have hA_6 : Same [0, 6, 7, 8, 9, 10, 11, 12, 13, 14, 15, 16, 17, 18, 19, 20, 21, 22, 23, 24] M2 M8 := by rw [hM8]; exact hA_5.Z (by decide)
  have hA_7 : Same [0, 6, 7, 8, 9, 10, 11, 12, 13, 14, 15, 16, 17, 18, 19, 20, 21, 22, 23, 24] M2 M9 := Same.tr hA_6 (hM9.2.up (by decide))
  have hA_8 : Same [0, 6, 7, 8, 9, 10, 11, 12, 13, 14, 15, 16, 17, 18, 19, 20, 21, 22, 23, 24] M2 M10 := by rw [hM10]; exact hA_7.Z (by decide)
  have hA_9 : Same [0, 6, 7, 8, 9, 10, 11, 12, 13, 14, 15, 16, 17, 18, 19, 20, 21, 22, 23, 24] M2 M11 := Same.tr hA_8 (hM11.2.up (by decide))
  have hA_10 : Same [0, 6, 7, 8, 9, 10, 11, 12, 13, 14, 15, 16, 17, 18, 19, 20, 21, 22, 23, 24] M2 M12 := by rw [hM12]; exact hA_9.Z (by decide)
  have hA_11 : Same [0, 6, 7, 8, 9, 10, 11, 12, 13, 14, 15, 16, 17, 18, 19, 20, 21, 22, 23, 24] M2 M13 := Same.tr hA_10 (hM13.2.up (by decide))
  have hA_12 : Same [0, 6, 7, 8, 9, 10, 11, 12, 13, 14, 15, 16, 17, 18, 19, 20, 21, 22, 23, 24] M2 M14 := by rw [hM14]; exact hA_11.Z (by decide)
  have hA_13 : Same [0, 6, 7, 8, 9, 10, 11, 12, 13, 14, 15, 16, 17, 18, 19, 20, 21, 22, 23, 24] M2 M15 := Same.tr hA_12 (hM15.2.up (by decide))
  have hA_14 : Same [0, 6, 7, 8, 9, 10, 11, 12, 13, 14, 15, 16, 17, 18, 19, 20, 21, 22, 23, 24] M2 M16 := by rw [hM16]; exact hA_13.Z (by decide)
  have hA_15 : Same [0, 6, 7, 8, 9, 10, 11, 12, 13, 14, 15, 16, 17, 18, 19, 20, 21, 22, 23, 24] M2 M17 := by rw [hM17]; exact hA_14.I (by decide)
  have hA_16 : Same [0, 6, 7, 8, 9, 10, 11, 12, 13, 14, 15, 16, 17, 18, 19, 20, 21, 22, 23, 24] M2 M18 := by rw [hM18]; exact hA_15.I (by decide)
  have hA_17 : Same [0, 6, 7, 8, 9, 10, 11, 12, 13, 14, 15, 16, 17, 18, 19, 20, 21, 22, 23, 24] M2 M19 := by rw [hM19]; exact hA_16.I (by decide)
  have hB_1 : Same [0, 1, 2, 3, 4, 5, 6, 11, 12, 13, 14, 15, 16, 17, 18, 19, 20, 21, 22, 23, 24] M5 M6 := by rw [hM6]; exact (Same.rf [0, 1, 2, 3, 4, 5, 6, 11, 12, 13, 14, 15, 16, 17, 18, 19, 20, 21, 22, 23, 24] M5).Z (by decide)
  have hB_2 : Same [0, 1, 2, 3, 4, 5, 6, 11, 12, 13, 14, 15, 16, 17, 18, 19, 20, 21, 22, 23, 24] M5 M7 := Same.tr hB_1 (hM7.2.up (by decide))
  have hB_3 : Same [0, 1, 2, 3, 4, 5, 6, 11, 12, 13, 14, 15, 16, 17, 18, 19, 20, 21, 22, 23, 24] M5 M8 := by rw [hM8]; exact hB_2.Z (by decide)
  have hB_4 : Same [0, 1, 2, 3, 4, 5, 6, 11, 12, 13, 14, 15, 16, 17, 18, 19, 20, 21, 22, 23, 24] M5 M9 := Same.tr hB_3 (hM9.2.up (by decide))
  have hB_5 : Same [0, 1, 2, 3, 4, 5, 6, 11, 12, 13, 14, 15, 16, 17, 18, 19, 20, 21, 22, 23, 24] M5 M10 := by rw [hM10]; exact hB_4.Z (by decide)
  have hB_6 : Same [0, 1, 2, 3, 4, 5, 6, 11, 12, 13, 14, 15, 16, 17, 18, 19, 20, 21, 22, 23, 24] M5 M11 := Same.tr hB_5 (hM11.2.up (by decide))
  have hB_7 : Same [0, 1, 2, 3, 4, 5, 6, 11, 12, 13, 14, 15, 16, 17, 18, 19, 20, 21, 22, 23, 24] M5 M12 := by rw [hM12]; exact hB_6.Z (by decide)
  have hB_8 : Same [0, 1, 2, 3, 4, 5, 6, 11, 12, 13, 14, 15, 16, 17, 18, 19, 20, 21, 22, 23, 24] M5 M13 := Same.tr hB_7 (hM13.2.up (by decide))
  have hB_9 : Same [0, 1, 2, 3, 4, 5, 6, 11, 12, 13, 14, 15, 16, 17, 18, 19, 20, 21, 22, 23, 24] M5 M14 := by rw [hM14]; exact hB_8.Z (by decide)
  have hB_10 : Same [0, 1, 2, 3, 4, 5, 6, 11, 12, 13, 14, 15, 16, 17, 18, 19, 20, 21, 22, 23, 24] M5 M15 := Same.tr hB_9 (hM15.2.up (by decide))
  have hB_11 : Same [0, 1, 2, 3, 4, 5, 6, 11, 12, 13, 14, 15, 16, 17, 18, 19, 20, 21, 22, 23, 24] M5 M16 := by rw [hM16]; exact hB_10.Z (by decide)
  have hB_12 : Same [0, 1, 2, 3, 4, 5, 6, 11, 12, 13, 14, 15, 16, 17, 18, 19, 20, 21, 22, 23, 24] M5 M17 := by rw [hM17]; exact hB_11.I (by decide)
  have hB_13 : Same [0, 1, 2, 3, 4, 5, 6, 11, 12, 13, 14, 15, 16, 17, 18, 19, 20, 21, 22, 23, 24] M5 M18 := by rw [hM18]; exact hB_12.I (by decide)
  have hB_14 : Same [0, 1, 2, 3, 4, 5, 6, 11, 12, 13, 14, 15, 16, 17, 18, 19, 20, 21, 22, 23, 24] M5 M19 := by rw [hM19]; exact hB_13.I (by decide)
  have hC_1 : Same [0, 1, 2, 3, 4, 5, 6, 7, 8, 9, 10, 11, 12, 13, 14, 15, 16, 18, 19, 20, 21, 22, 23, 24] M11 M12 := by rw [hM12]; exact (Same.rf [0, 1, 2, 3, 4, 5, 6, 7, 8, 9, 10, 11, 12, 13, 14, 15, 16, 18, 19, 20, 21, 22, 23, 24] M11).Z (by decide)
  have hC_2 : Same [0, 1, 2, 3, 4, 5, 6, 7, 8, 9, 10, 11, 12, 13, 14, 15, 16, 18, 19, 20, 21, 22, 23, 24] M11 M13 := Same.tr hC_1 (hM13.2.up (by decide))
  have hC_3 : Same [0, 1, 2, 3, 4, 5, 6, 7, 8, 9, 10, 11, 12, 13, 14, 15, 16, 18, 19, 20, 21, 22, 23, 24] M11 M14 := by rw [hM14]; exact hC_2.Z (by decide)
  have hC_4 : Same [0, 1, 2, 3, 4, 5, 6, 7, 8, 9, 10, 11, 12, 13, 14, 15, 16, 18, 19, 20, 21, 22, 23, 24] M11 M15 := Same.tr hC_3 (hM15.2.up (by decide))
  have hC_5 : Same [0, 1, 2, 3, 4, 5, 6, 7, 8, 9, 10, 11, 12, 13, 14, 15, 16, 18, 19, 20, 21, 22, 23, 24] M11 M16 := by rw [hM16]; exact hC_4.Z (by decide)
  have hC_6 : Same [0, 1, 2, 3, 4, 5, 6, 7, 8, 9, 10, 11, 12, 13, 14, 15, 16, 18, 19, 20, 21, 22, 23, 24] M11 M17 := by rw [hM17]; exact hC_5.I (by decide)
  have hC_7 : Same [0, 1, 2, 3, 4, 5, 6, 7, 8, 9, 10, 11, 12, 13, 14, 15, 16, 18, 19, 20, 21, 22, 23, 24] M11 M18 := by rw [hM18]; exact hC_6.I (by decide)
  have hC_8 : Same [0, 1, 2, 3, 4, 5, 6, 7, 8, 9, 10, 11, 12, 13, 14, 15, 16, 18, 19, 20, 21, 22, 23, 24] M11 M19 := by rw [hM19]; exact hC_7.I (by decide)
  have hG_1 : Same [0, 1, 2, 3, 4, 5, 6, 7, 8, 9, 10, 11, 12, 13, 14, 15, 16, 17, 20, 21, 22, 23, 24] M13 M14 := by rw [hM14]; exact (Same.rf [0, 1, 2, 3, 4, 5, 6, 7, 8, 9, 10, 11, 12, 13, 14, 15, 16, 17, 20, 21, 22, 23, 24] M13).Z (by decide)
  have hG_2 : Same [0, 1, 2, 3, 4, 5, 6, 7, 8, 9, 10, 11, 12, 13, 14, 15, 16, 17, 20, 21, 22, 23, 24] M13 M15 := Same.tr hG_1 (hM15.2.up (by decide))
  have hG_3 : Same [0, 1, 2, 3, 4, 5, 6, 7, 8, 9, 10, 11, 12, 13, 14, 15, 16, 17, 20, 21, 22, 23, 24] M13 M16 := by rw [hM16]; exact hG_2.Z (by decide)
  have hG_4 : Same [0, 1, 2, 3, 4, 5, 6, 7, 8, 9, 10, 11, 12, 13, 14, 15, 16, 17, 20, 21, 22, 23, 24] M13 M17 := by rw [hM17]; exact hG_3.I (by decide)
  have hG_5 : Same [0, 1, 2, 3, 4, 5, 6, 7, 8, 9, 10, 11, 12, 13, 14, 15, 16, 17, 20, 21, 22, 23, 24] M13 M18 := by rw [hM18]; exact hG_4.I (by decide)
  have hG_6 : Same [0, 1, 2, 3, 4, 5, 6, 7, 8, 9, 10, 11, 12, 13, 14, 15, 16, 17, 20, 21, 22, 23, 24] M13 M19 := by rw [hM19]; exact hG_5.I (by decide)
  have h6 : gI M19 6 = fun _ => 0 := by rw [hM19, gI_sI_ne _ _ (by decide), hM18, gI_sI_ne _ _ (by decide), hM17, gI_sI_ne _ _ (by decide), hM16, (zr_o _ (by decide)).1, hM15.2.gI (by decide), hM14, (zr_o _ (by decide)).1, hM13.2.gI (by decide), hM12, (zr_o _ (by decide)).1, hM11.2.gI (by decide), hM10, (zr_o _ (by decide)).1, hM9.2.gI (by decide), hM8, (zr_o _ (by decide)).1, hM7.2.gI (by decide), hM6, (zr_o _ (by decide)).1, hM5.2.gI (by decide), hM4, (zr_o _ (by decide)).1, hM3, zr_I]
  have hBs : Bs M19 (fun _ => 4) (fun _ => 0) 0 (fun _ _ => 0) (fun _ => 0) 1 := ⟨hM2.1.same (hA_17.gI (by decide)) (hA_17.gI (by decide)) (hA_17.gI (by decide)), hM5.1.same (hB_14.gI (by decide)) (hB_14.gI (by decide)) (hB_14.gI (by decide)) (hB_14.gI (by decide)), by rw [hM19, gI_sI, upd_n _ _ (by decide), hM18, gI_sI, upd_n _ _ (by decide), hM17, gI_sI, upd_s], by decide, by decide⟩
  exact e_vret C dX7_init_112 RT ⟨Nat.le_of_ble_eq_true rfl, Nat.le_of_ble_eq_true rfl⟩ (qv_ (CInv.fresh hBs (fun p _ => by rw [h6]; exact ⟨rfl, show 0 ≤ 20 by decide⟩) (by rw [hM19, gI_sI, upd_n _ _ (by decide), hM18, gI_sI, upd_s]) (by rw [hM19, gI_sI, upd_s]) (hM11.1.same (hC_8.gI (by decide))) (hM13.1.same (hG_6.gI (by decide)) (hG_6.gI (by decide))) QOK.z))
set_option maxHeartbeats 1000000 in
set_option maxRecDepth 100000 in
theorem c_X8 {M : Mm} (hz : gI M 25 = fun _ => 0) : CT mX8_init [.ref 25] ([.inr (7, [4, 9, 10, 14, 17, 20, 21, 23, 27, 0, 0, 0]), .inr (4, [5, 6, 7, 8]), .inl (0, 3), .inl (0, 60), .inl (0, 8), .inl (0, 8), .inl (0, 8), .inr (2, [11, 12, 13, 0]), .inl (0, 36), .inl (0, 12), .inl (0, 512), .inr (5, [15, 16, 1, 0]), .inl (1, 60), .inl (1, 1200), .inr (1, [18, 19, 0]), .inl (0, 455), .inl (0, 455), .inr (6, [0, 0, 0, 0, 0, 0, 0]), .inr (3, [22, 0]), .inl (0, 60), .inr (0, [24, 25, 26]), .inl (2, 201), .inl (2, 201), .inl (2, 201), .inl (1, 8), .inr (8, [2, 2, 2, 0, 2, 2, 2, 2, 0, 0, 2, 2, 2, 2, 1, 0, 2, 2, 2, 0, 0, 0, 0, 0, 0, 0, 0, 2, 2, 2, 0, 2, 2, 2])]) M (Qv (shF false) (fun m => RInv m s0 ∧ FrR M m)) := by
  refine CT.mkI (lv := [(0, .ref 25)]) rfl (by decide +kernel) rfl (Nat.le_of_ble_eq_true rfl) ?_
  intro X C RT hin
  refine e_aload_n C dX8_init_0 rfl rfl ?_
  refine e_oini C dX8_init_1 oiX8 wOi2 wOi3 (Nat.le_of_ble_eq_true rfl) ⟨Nat.le_of_ble_eq_true rfl, Nat.le_of_ble_eq_true rfl⟩ ?_
  refine e_aload_n C dX8_init_4 rfl rfl ?_
  refine e_iconst (v := (nI 3)) C dX8_init_5 (by decide) ?_
  refine e_newaI (q := 26) (sh2 := [.inr (7, [4, 9, 10, 14, 17, 20, 21, 23, 27, 0, 0, 0]), .inr (4, [5, 6, 7, 8]), .inl (0, 3), .inl (0, 60), .inl (0, 8), .inl (0, 8), .inl (0, 8), .inr (2, [11, 12, 13, 0]), .inl (0, 36), .inl (0, 12), .inl (0, 512), .inr (5, [15, 16, 1, 0]), .inl (1, 60), .inl (1, 1200), .inr (1, [18, 19, 0]), .inl (0, 455), .inl (0, 455), .inr (6, [0, 0, 0, 0, 0, 0, 0]), .inr (3, [22, 0]), .inl (0, 60), .inr (0, [24, 25, 26]), .inl (2, 201), .inl (2, 201), .inl (2, 201), .inl (1, 8), .inr (8, [2, 2, 2, 0, 2, 2, 2, 2, 0, 0, 2, 2, 2, 2, 1, 0, 2, 2, 2, 0, 0, 0, 0, 0, 0, 0, 0, 2, 2, 2, 0, 2, 2, 2]), .inl (0, 3)]) (kn2 := (1, 3)) C dX8_init_6 wA_int (by decide) rfl rfl rfl ⟨Nat.le_of_ble_eq_true rfl, Nat.le_of_ble_eq_true rfl⟩ ?_
  refine e_nm (fun M1 hM1 => ?_)
  refine e_putRF (sh2 := [.inr (7, [4, 9, 10, 14, 17, 20, 21, 23, 27, 0, 0, 0]), .inr (4, [5, 6, 7, 8]), .inl (0, 3), .inl (0, 60), .inl (0, 8), .inl (0, 8), .inl (0, 8), .inr (2, [11, 12, 13, 0]), .inl (0, 36), .inl (0, 12), .inl (0, 512), .inr (5, [15, 16, 1, 0]), .inl (1, 60), .inl (1, 1200), .inr (1, [18, 19, 0]), .inl (0, 455), .inl (0, 455), .inr (6, [0, 0, 0, 0, 0, 0, 0]), .inr (3, [22, 0]), .inl (0, 60), .inr (0, [24, 25, 26]), .inl (2, 201), .inl (2, 201), .inl (2, 201), .inl (1, 8), .inr (8, [29, 2, 2, 0, 2, 2, 2, 2, 0, 0, 2, 2, 2, 2, 1, 0, 2, 2, 2, 0, 0, 0, 0, 0, 0, 0, 0, 2, 2, 2, 0, 2, 2, 2]), .inl (0, 3)]) C dX8_init_8 pX8_7 rfl rfl rfl rfl (fun _ => rfl) (fun _ => rfl) hin ?_
  refine e_aload_n C dX8_init_11 rfl rfl ?_
  refine e_bipush (v := (nI 60)) C dX8_init_12 (by decide) ?_
  refine e_newaI (q := 27) (sh2 := [.inr (7, [4, 9, 10, 14, 17, 20, 21, 23, 27, 0, 0, 0]), .inr (4, [5, 6, 7, 8]), .inl (0, 3), .inl (0, 60), .inl (0, 8), .inl (0, 8), .inl (0, 8), .inr (2, [11, 12, 13, 0]), .inl (0, 36), .inl (0, 12), .inl (0, 512), .inr (5, [15, 16, 1, 0]), .inl (1, 60), .inl (1, 1200), .inr (1, [18, 19, 0]), .inl (0, 455), .inl (0, 455), .inr (6, [0, 0, 0, 0, 0, 0, 0]), .inr (3, [22, 0]), .inl (0, 60), .inr (0, [24, 25, 26]), .inl (2, 201), .inl (2, 201), .inl (2, 201), .inl (1, 8), .inr (8, [29, 2, 2, 0, 2, 2, 2, 2, 0, 0, 2, 2, 2, 2, 1, 0, 2, 2, 2, 0, 0, 0, 0, 0, 0, 0, 0, 2, 2, 2, 0, 2, 2, 2]), .inl (0, 3), .inl (0, 60)]) (kn2 := (2, 63)) C dX8_init_14 wA_int (by decide) rfl rfl rfl ⟨Nat.le_of_ble_eq_true rfl, Nat.le_of_ble_eq_true rfl⟩ ?_
  refine e_nm (fun M2 hM2 => ?_)
  refine e_putRF (sh2 := [.inr (7, [4, 9, 10, 14, 17, 20, 21, 23, 27, 0, 0, 0]), .inr (4, [5, 6, 7, 8]), .inl (0, 3), .inl (0, 60), .inl (0, 8), .inl (0, 8), .inl (0, 8), .inr (2, [11, 12, 13, 0]), .inl (0, 36), .inl (0, 12), .inl (0, 512), .inr (5, [15, 16, 1, 0]), .inl (1, 60), .inl (1, 1200), .inr (1, [18, 19, 0]), .inl (0, 455), .inl (0, 455), .inr (6, [0, 0, 0, 0, 0, 0, 0]), .inr (3, [22, 0]), .inl (0, 60), .inr (0, [24, 25, 26]), .inl (2, 201), .inl (2, 201), .inl (2, 201), .inl (1, 8), .inr (8, [29, 30, 2, 0, 2, 2, 2, 2, 0, 0, 2, 2, 2, 2, 1, 0, 2, 2, 2, 0, 0, 0, 0, 0, 0, 0, 0, 2, 2, 2, 0, 2, 2, 2]), .inl (0, 3), .inl (0, 60)]) C dX8_init_16 pX8_13 rfl rfl rfl rfl (fun _ => rfl) (fun _ => rfl) hin ?_
  refine e_aload_n C dX8_init_19 rfl rfl ?_
  refine e_bipush (v := (nI 8)) C dX8_init_20 (by decide) ?_
  refine e_newaI (q := 28) (sh2 := [.inr (7, [4, 9, 10, 14, 17, 20, 21, 23, 27, 0, 0, 0]), .inr (4, [5, 6, 7, 8]), .inl (0, 3), .inl (0, 60), .inl (0, 8), .inl (0, 8), .inl (0, 8), .inr (2, [11, 12, 13, 0]), .inl (0, 36), .inl (0, 12), .inl (0, 512), .inr (5, [15, 16, 1, 0]), .inl (1, 60), .inl (1, 1200), .inr (1, [18, 19, 0]), .inl (0, 455), .inl (0, 455), .inr (6, [0, 0, 0, 0, 0, 0, 0]), .inr (3, [22, 0]), .inl (0, 60), .inr (0, [24, 25, 26]), .inl (2, 201), .inl (2, 201), .inl (2, 201), .inl (1, 8), .inr (8, [29, 30, 2, 0, 2, 2, 2, 2, 0, 0, 2, 2, 2, 2, 1, 0, 2, 2, 2, 0, 0, 0, 0, 0, 0, 0, 0, 2, 2, 2, 0, 2, 2, 2]), .inl (0, 3), .inl (0, 60), .inl (0, 8)]) (kn2 := (3, 71)) C dX8_init_22 wA_int (by decide) rfl rfl rfl ⟨Nat.le_of_ble_eq_true rfl, Nat.le_of_ble_eq_true rfl⟩ ?_
  refine e_nm (fun M3 hM3 => ?_)
  refine e_putRF (sh2 := [.inr (7, [4, 9, 10, 14, 17, 20, 21, 23, 27, 0, 0, 0]), .inr (4, [5, 6, 7, 8]), .inl (0, 3), .inl (0, 60), .inl (0, 8), .inl (0, 8), .inl (0, 8), .inr (2, [11, 12, 13, 0]), .inl (0, 36), .inl (0, 12), .inl (0, 512), .inr (5, [15, 16, 1, 0]), .inl (1, 60), .inl (1, 1200), .inr (1, [18, 19, 0]), .inl (0, 455), .inl (0, 455), .inr (6, [0, 0, 0, 0, 0, 0, 0]), .inr (3, [22, 0]), .inl (0, 60), .inr (0, [24, 25, 26]), .inl (2, 201), .inl (2, 201), .inl (2, 201), .inl (1, 8), .inr (8, [29, 30, 31, 0, 2, 2, 2, 2, 0, 0, 2, 2, 2, 2, 1, 0, 2, 2, 2, 0, 0, 0, 0, 0, 0, 0, 0, 2, 2, 2, 0, 2, 2, 2]), .inl (0, 3), .inl (0, 60), .inl (0, 8)]) C dX8_init_24 pX8_16 rfl rfl rfl rfl (fun _ => rfl) (fun _ => rfl) hin ?_
  refine e_aload_n C dX8_init_27 rfl rfl ?_
  refine e_bipush (v := (nI 12)) C dX8_init_28 (by decide) ?_
  refine e_newaI (q := 29) (sh2 := [.inr (7, [4, 9, 10, 14, 17, 20, 21, 23, 27, 0, 0, 0]), .inr (4, [5, 6, 7, 8]), .inl (0, 3), .inl (0, 60), .inl (0, 8), .inl (0, 8), .inl (0, 8), .inr (2, [11, 12, 13, 0]), .inl (0, 36), .inl (0, 12), .inl (0, 512), .inr (5, [15, 16, 1, 0]), .inl (1, 60), .inl (1, 1200), .inr (1, [18, 19, 0]), .inl (0, 455), .inl (0, 455), .inr (6, [0, 0, 0, 0, 0, 0, 0]), .inr (3, [22, 0]), .inl (0, 60), .inr (0, [24, 25, 26]), .inl (2, 201), .inl (2, 201), .inl (2, 201), .inl (1, 8), .inr (8, [29, 30, 31, 0, 2, 2, 2, 2, 0, 0, 2, 2, 2, 2, 1, 0, 2, 2, 2, 0, 0, 0, 0, 0, 0, 0, 0, 2, 2, 2, 0, 2, 2, 2]), .inl (0, 3), .inl (0, 60), .inl (0, 8), .inl (0, 12)]) (kn2 := (4, 83)) C dX8_init_30 wA_int (by decide) rfl rfl rfl ⟨Nat.le_of_ble_eq_true rfl, Nat.le_of_ble_eq_true rfl⟩ ?_
  refine e_nm (fun M4 hM4 => ?_)
  refine e_putRF (sh2 := [.inr (7, [4, 9, 10, 14, 17, 20, 21, 23, 27, 0, 0, 0]), .inr (4, [5, 6, 7, 8]), .inl (0, 3), .inl (0, 60), .inl (0, 8), .inl (0, 8), .inl (0, 8), .inr (2, [11, 12, 13, 0]), .inl (0, 36), .inl (0, 12), .inl (0, 512), .inr (5, [15, 16, 1, 0]), .inl (1, 60), .inl (1, 1200), .inr (1, [18, 19, 0]), .inl (0, 455), .inl (0, 455), .inr (6, [0, 0, 0, 0, 0, 0, 0]), .inr (3, [22, 0]), .inl (0, 60), .inr (0, [24, 25, 26]), .inl (2, 201), .inl (2, 201), .inl (2, 201), .inl (1, 8), .inr (8, [29, 30, 31, 0, 32, 2, 2, 2, 0, 0, 2, 2, 2, 2, 1, 0, 2, 2, 2, 0, 0, 0, 0, 0, 0, 0, 0, 2, 2, 2, 0, 2, 2, 2]), .inl (0, 3), .inl (0, 60), .inl (0, 8), .inl (0, 12)]) C dX8_init_32 pX8_19 rfl rfl rfl rfl (fun _ => rfl) (fun _ => rfl) hin ?_
  refine e_aload_n C dX8_init_35 rfl rfl ?_
  refine e_bipush (v := (nI 12)) C dX8_init_36 (by decide) ?_
  refine e_newaI (q := 30) (sh2 := [.inr (7, [4, 9, 10, 14, 17, 20, 21, 23, 27, 0, 0, 0]), .inr (4, [5, 6, 7, 8]), .inl (0, 3), .inl (0, 60), .inl (0, 8), .inl (0, 8), .inl (0, 8), .inr (2, [11, 12, 13, 0]), .inl (0, 36), .inl (0, 12), .inl (0, 512), .inr (5, [15, 16, 1, 0]), .inl (1, 60), .inl (1, 1200), .inr (1, [18, 19, 0]), .inl (0, 455), .inl (0, 455), .inr (6, [0, 0, 0, 0, 0, 0, 0]), .inr (3, [22, 0]), .inl (0, 60), .inr (0, [24, 25, 26]), .inl (2, 201), .inl (2, 201), .inl (2, 201), .inl (1, 8), .inr (8, [29, 30, 31, 0, 32, 2, 2, 2, 0, 0, 2, 2, 2, 2, 1, 0, 2, 2, 2, 0, 0, 0, 0, 0, 0, 0, 0, 2, 2, 2, 0, 2, 2, 2]), .inl (0, 3), .inl (0, 60), .inl (0, 8), .inl (0, 12), .inl (0, 12)]) (kn2 := (5, 95)) C dX8_init_38 wA_int (by decide) rfl rfl rfl ⟨Nat.le_of_ble_eq_true rfl, Nat.le_of_ble_eq_true rfl⟩ ?_
  refine e_nm (fun M5 hM5 => ?_)
  refine e_putRF (sh2 := [.inr (7, [4, 9, 10, 14, 17, 20, 21, 23, 27, 0, 0, 0]), .inr (4, [5, 6, 7, 8]), .inl (0, 3), .inl (0, 60), .inl (0, 8), .inl (0, 8), .inl (0, 8), .inr (2, [11, 12, 13, 0]), .inl (0, 36), .inl (0, 12), .inl (0, 512), .inr (5, [15, 16, 1, 0]), .inl (1, 60), .inl (1, 1200), .inr (1, [18, 19, 0]), .inl (0, 455), .inl (0, 455), .inr (6, [0, 0, 0, 0, 0, 0, 0]), .inr (3, [22, 0]), .inl (0, 60), .inr (0, [24, 25, 26]), .inl (2, 201), .inl (2, 201), .inl (2, 201), .inl (1, 8), .inr (8, [29, 30, 31, 0, 32, 33, 2, 2, 0, 0, 2, 2, 2, 2, 1, 0, 2, 2, 2, 0, 0, 0, 0, 0, 0, 0, 0, 2, 2, 2, 0, 2, 2, 2]), .inl (0, 3), .inl (0, 60), .inl (0, 8), .inl (0, 12), .inl (0, 12)]) C dX8_init_40 pX8_22 rfl rfl rfl rfl (fun _ => rfl) (fun _ => rfl) hin ?_
  refine e_aload_n C dX8_init_43 rfl rfl ?_
  refine e_bipush (v := (nI 12)) C dX8_init_44 (by decide) ?_
  refine e_newaI (q := 31) (sh2 := [.inr (7, [4, 9, 10, 14, 17, 20, 21, 23, 27, 0, 0, 0]), .inr (4, [5, 6, 7, 8]), .inl (0, 3), .inl (0, 60), .inl (0, 8), .inl (0, 8), .inl (0, 8), .inr (2, [11, 12, 13, 0]), .inl (0, 36), .inl (0, 12), .inl (0, 512), .inr (5, [15, 16, 1, 0]), .inl (1, 60), .inl (1, 1200), .inr (1, [18, 19, 0]), .inl (0, 455), .inl (0, 455), .inr (6, [0, 0, 0, 0, 0, 0, 0]), .inr (3, [22, 0]), .inl (0, 60), .inr (0, [24, 25, 26]), .inl (2, 201), .inl (2, 201), .inl (2, 201), .inl (1, 8), .inr (8, [29, 30, 31, 0, 32, 33, 2, 2, 0, 0, 2, 2, 2, 2, 1, 0, 2, 2, 2, 0, 0, 0, 0, 0, 0, 0, 0, 2, 2, 2, 0, 2, 2, 2]), .inl (0, 3), .inl (0, 60), .inl (0, 8), .inl (0, 12), .inl (0, 12), .inl (0, 12)]) (kn2 := (6, 107)) C dX8_init_46 wA_int (by decide) rfl rfl rfl ⟨Nat.le_of_ble_eq_true rfl, Nat.le_of_ble_eq_true rfl⟩ ?_
  refine e_nm (fun M6 hM6 => ?_)
  refine e_putRF (sh2 := [.inr (7, [4, 9, 10, 14, 17, 20, 21, 23, 27, 0, 0, 0]), .inr (4, [5, 6, 7, 8]), .inl (0, 3), .inl (0, 60), .inl (0, 8), .inl (0, 8), .inl (0, 8), .inr (2, [11, 12, 13, 0]), .inl (0, 36), .inl (0, 12), .inl (0, 512), .inr (5, [15, 16, 1, 0]), .inl (1, 60), .inl (1, 1200), .inr (1, [18, 19, 0]), .inl (0, 455), .inl (0, 455), .inr (6, [0, 0, 0, 0, 0, 0, 0]), .inr (3, [22, 0]), .inl (0, 60), .inr (0, [24, 25, 26]), .inl (2, 201), .inl (2, 201), .inl (2, 201), .inl (1, 8), .inr (8, [29, 30, 31, 0, 32, 33, 34, 2, 0, 0, 2, 2, 2, 2, 1, 0, 2, 2, 2, 0, 0, 0, 0, 0, 0, 0, 0, 2, 2, 2, 0, 2, 2, 2]), .inl (0, 3), .inl (0, 60), .inl (0, 8), .inl (0, 12), .inl (0, 12), .inl (0, 12)]) C dX8_init_48 pX8_25 rfl rfl rfl rfl (fun _ => rfl) (fun _ => rfl) hin ?_
  refine e_aload_n C dX8_init_51 rfl rfl ?_
  refine e_bipush (v := (nI 12)) C dX8_init_52 (by decide) ?_
  refine e_newaI (q := 32) (sh2 := [.inr (7, [4, 9, 10, 14, 17, 20, 21, 23, 27, 0, 0, 0]), .inr (4, [5, 6, 7, 8]), .inl (0, 3), .inl (0, 60), .inl (0, 8), .inl (0, 8), .inl (0, 8), .inr (2, [11, 12, 13, 0]), .inl (0, 36), .inl (0, 12), .inl (0, 512), .inr (5, [15, 16, 1, 0]), .inl (1, 60), .inl (1, 1200), .inr (1, [18, 19, 0]), .inl (0, 455), .inl (0, 455), .inr (6, [0, 0, 0, 0, 0, 0, 0]), .inr (3, [22, 0]), .inl (0, 60), .inr (0, [24, 25, 26]), .inl (2, 201), .inl (2, 201), .inl (2, 201), .inl (1, 8), .inr (8, [29, 30, 31, 0, 32, 33, 34, 2, 0, 0, 2, 2, 2, 2, 1, 0, 2, 2, 2, 0, 0, 0, 0, 0, 0, 0, 0, 2, 2, 2, 0, 2, 2, 2]), .inl (0, 3), .inl (0, 60), .inl (0, 8), .inl (0, 12), .inl (0, 12), .inl (0, 12), .inl (0, 12)]) (kn2 := (7, 119)) C dX8_init_54 wA_int (by decide) rfl rfl rfl ⟨Nat.le_of_ble_eq_true rfl, Nat.le_of_ble_eq_true rfl⟩ ?_
  refine e_nm (fun M7 hM7 => ?_)
  refine e_putRF (sh2 := [.inr (7, [4, 9, 10, 14, 17, 20, 21, 23, 27, 0, 0, 0]), .inr (4, [5, 6, 7, 8]), .inl (0, 3), .inl (0, 60), .inl (0, 8), .inl (0, 8), .inl (0, 8), .inr (2, [11, 12, 13, 0]), .inl (0, 36), .inl (0, 12), .inl (0, 512), .inr (5, [15, 16, 1, 0]), .inl (1, 60), .inl (1, 1200), .inr (1, [18, 19, 0]), .inl (0, 455), .inl (0, 455), .inr (6, [0, 0, 0, 0, 0, 0, 0]), .inr (3, [22, 0]), .inl (0, 60), .inr (0, [24, 25, 26]), .inl (2, 201), .inl (2, 201), .inl (2, 201), .inl (1, 8), .inr (8, [29, 30, 31, 0, 32, 33, 34, 35, 0, 0, 2, 2, 2, 2, 1, 0, 2, 2, 2, 0, 0, 0, 0, 0, 0, 0, 0, 2, 2, 2, 0, 2, 2, 2]), .inl (0, 3), .inl (0, 60), .inl (0, 8), .inl (0, 12), .inl (0, 12), .inl (0, 12), .inl (0, 12)]) C dX8_init_56 pX8_28 rfl rfl rfl rfl (fun _ => rfl) (fun _ => rfl) hin ?_
  refine e_aload_n C dX8_init_59 rfl rfl ?_
  refine e_iconst (v := (nI 1)) C dX8_init_60 (by decide) ?_
  refine e_putI C dX8_init_61 pX8_31 rfl rfl rfl rfl ?_
  refine e_nm (fun M8 hM8 => ?_)
  refine e_aload_n C dX8_init_64 rfl rfl ?_
  refine e_bipush (v := (nI 8)) C dX8_init_65 (by decide) ?_
  refine e_newaI (q := 33) (sh2 := [.inr (7, [4, 9, 10, 14, 17, 20, 21, 23, 27, 0, 0, 0]), .inr (4, [5, 6, 7, 8]), .inl (0, 3), .inl (0, 60), .inl (0, 8), .inl (0, 8), .inl (0, 8), .inr (2, [11, 12, 13, 0]), .inl (0, 36), .inl (0, 12), .inl (0, 512), .inr (5, [15, 16, 1, 0]), .inl (1, 60), .inl (1, 1200), .inr (1, [18, 19, 0]), .inl (0, 455), .inl (0, 455), .inr (6, [0, 0, 0, 0, 0, 0, 0]), .inr (3, [22, 0]), .inl (0, 60), .inr (0, [24, 25, 26]), .inl (2, 201), .inl (2, 201), .inl (2, 201), .inl (1, 8), .inr (8, [29, 30, 31, 0, 32, 33, 34, 35, 0, 0, 2, 2, 2, 2, 1, 0, 2, 2, 2, 0, 0, 0, 0, 0, 0, 0, 0, 2, 2, 2, 0, 2, 2, 2]), .inl (0, 3), .inl (0, 60), .inl (0, 8), .inl (0, 12), .inl (0, 12), .inl (0, 12), .inl (0, 12), .inl (0, 8)]) (kn2 := (8, 127)) C dX8_init_67 wA_int (by decide) rfl rfl rfl ⟨Nat.le_of_ble_eq_true rfl, Nat.le_of_ble_eq_true rfl⟩ ?_
  refine e_nm (fun M9 hM9 => ?_)
  refine e_putRF (sh2 := [.inr (7, [4, 9, 10, 14, 17, 20, 21, 23, 27, 0, 0, 0]), .inr (4, [5, 6, 7, 8]), .inl (0, 3), .inl (0, 60), .inl (0, 8), .inl (0, 8), .inl (0, 8), .inr (2, [11, 12, 13, 0]), .inl (0, 36), .inl (0, 12), .inl (0, 512), .inr (5, [15, 16, 1, 0]), .inl (1, 60), .inl (1, 1200), .inr (1, [18, 19, 0]), .inl (0, 455), .inl (0, 455), .inr (6, [0, 0, 0, 0, 0, 0, 0]), .inr (3, [22, 0]), .inl (0, 60), .inr (0, [24, 25, 26]), .inl (2, 201), .inl (2, 201), .inl (2, 201), .inl (1, 8), .inr (8, [29, 30, 31, 0, 32, 33, 34, 35, 0, 0, 36, 2, 2, 2, 1, 0, 2, 2, 2, 0, 0, 0, 0, 0, 0, 0, 0, 2, 2, 2, 0, 2, 2, 2]), .inl (0, 3), .inl (0, 60), .inl (0, 8), .inl (0, 12), .inl (0, 12), .inl (0, 12), .inl (0, 12), .inl (0, 8)]) C dX8_init_69 pX8_35 rfl rfl rfl rfl (fun _ => rfl) (fun _ => rfl) hin ?_
  refine e_aload_n C dX8_init_72 rfl rfl ?_
  refine e_sipush (v := (nI 8000)) C dX8_init_73 (by decide) ?_
  refine e_newaI (q := 34) (sh2 := [.inr (7, [4, 9, 10, 14, 17, 20, 21, 23, 27, 0, 0, 0]), .inr (4, [5, 6, 7, 8]), .inl (0, 3), .inl (0, 60), .inl (0, 8), .inl (0, 8), .inl (0, 8), .inr (2, [11, 12, 13, 0]), .inl (0, 36), .inl (0, 12), .inl (0, 512), .inr (5, [15, 16, 1, 0]), .inl (1, 60), .inl (1, 1200), .inr (1, [18, 19, 0]), .inl (0, 455), .inl (0, 455), .inr (6, [0, 0, 0, 0, 0, 0, 0]), .inr (3, [22, 0]), .inl (0, 60), .inr (0, [24, 25, 26]), .inl (2, 201), .inl (2, 201), .inl (2, 201), .inl (1, 8), .inr (8, [29, 30, 31, 0, 32, 33, 34, 35, 0, 0, 36, 2, 2, 2, 1, 0, 2, 2, 2, 0, 0, 0, 0, 0, 0, 0, 0, 2, 2, 2, 0, 2, 2, 2]), .inl (0, 3), .inl (0, 60), .inl (0, 8), .inl (0, 12), .inl (0, 12), .inl (0, 12), .inl (0, 12), .inl (0, 8), .inl (0, 8000)]) (kn2 := (9, 8127)) C dX8_init_76 wA_int (by decide) rfl rfl rfl ⟨Nat.le_of_ble_eq_true rfl, Nat.le_of_ble_eq_true rfl⟩ ?_
  refine e_nm (fun M10 hM10 => ?_)
  refine e_putRF (sh2 := [.inr (7, [4, 9, 10, 14, 17, 20, 21, 23, 27, 0, 0, 0]), .inr (4, [5, 6, 7, 8]), .inl (0, 3), .inl (0, 60), .inl (0, 8), .inl (0, 8), .inl (0, 8), .inr (2, [11, 12, 13, 0]), .inl (0, 36), .inl (0, 12), .inl (0, 512), .inr (5, [15, 16, 1, 0]), .inl (1, 60), .inl (1, 1200), .inr (1, [18, 19, 0]), .inl (0, 455), .inl (0, 455), .inr (6, [0, 0, 0, 0, 0, 0, 0]), .inr (3, [22, 0]), .inl (0, 60), .inr (0, [24, 25, 26]), .inl (2, 201), .inl (2, 201), .inl (2, 201), .inl (1, 8), .inr (8, [29, 30, 31, 0, 32, 33, 34, 35, 0, 0, 36, 37, 2, 2, 1, 0, 2, 2, 2, 0, 0, 0, 0, 0, 0, 0, 0, 2, 2, 2, 0, 2, 2, 2]), .inl (0, 3), .inl (0, 60), .inl (0, 8), .inl (0, 12), .inl (0, 12), .inl (0, 12), .inl (0, 12), .inl (0, 8), .inl (0, 8000)]) C dX8_init_78 pX8_38 rfl rfl rfl rfl (fun _ => rfl) (fun _ => rfl) hin ?_
  refine e_aload_n C dX8_init_81 rfl rfl ?_
  refine e_sipush (v := (nI 512)) C dX8_init_82 (by decide) ?_
  refine e_newaI (q := 35) (sh2 := [.inr (7, [4, 9, 10, 14, 17, 20, 21, 23, 27, 0, 0, 0]), .inr (4, [5, 6, 7, 8]), .inl (0, 3), .inl (0, 60), .inl (0, 8), .inl (0, 8), .inl (0, 8), .inr (2, [11, 12, 13, 0]), .inl (0, 36), .inl (0, 12), .inl (0, 512), .inr (5, [15, 16, 1, 0]), .inl (1, 60), .inl (1, 1200), .inr (1, [18, 19, 0]), .inl (0, 455), .inl (0, 455), .inr (6, [0, 0, 0, 0, 0, 0, 0]), .inr (3, [22, 0]), .inl (0, 60), .inr (0, [24, 25, 26]), .inl (2, 201), .inl (2, 201), .inl (2, 201), .inl (1, 8), .inr (8, [29, 30, 31, 0, 32, 33, 34, 35, 0, 0, 36, 37, 2, 2, 1, 0, 2, 2, 2, 0, 0, 0, 0, 0, 0, 0, 0, 2, 2, 2, 0, 2, 2, 2]), .inl (0, 3), .inl (0, 60), .inl (0, 8), .inl (0, 12), .inl (0, 12), .inl (0, 12), .inl (0, 12), .inl (0, 8), .inl (0, 8000), .inl (0, 512)]) (kn2 := (10, 8639)) C dX8_init_85 wA_int (by decide) rfl rfl rfl ⟨Nat.le_of_ble_eq_true rfl, Nat.le_of_ble_eq_true rfl⟩ ?_
  refine e_nm (fun M11 hM11 => ?_)
  refine e_putRF (sh2 := [.inr (7, [4, 9, 10, 14, 17, 20, 21, 23, 27, 0, 0, 0]), .inr (4, [5, 6, 7, 8]), .inl (0, 3), .inl (0, 60), .inl (0, 8), .inl (0, 8), .inl (0, 8), .inr (2, [11, 12, 13, 0]), .inl (0, 36), .inl (0, 12), .inl (0, 512), .inr (5, [15, 16, 1, 0]), .inl (1, 60), .inl (1, 1200), .inr (1, [18, 19, 0]), .inl (0, 455), .inl (0, 455), .inr (6, [0, 0, 0, 0, 0, 0, 0]), .inr (3, [22, 0]), .inl (0, 60), .inr (0, [24, 25, 26]), .inl (2, 201), .inl (2, 201), .inl (2, 201), .inl (1, 8), .inr (8, [29, 30, 31, 0, 32, 33, 34, 35, 0, 0, 36, 37, 38, 2, 1, 0, 2, 2, 2, 0, 0, 0, 0, 0, 0, 0, 0, 2, 2, 2, 0, 2, 2, 2]), .inl (0, 3), .inl (0, 60), .inl (0, 8), .inl (0, 12), .inl (0, 12), .inl (0, 12), .inl (0, 12), .inl (0, 8), .inl (0, 8000), .inl (0, 512)]) C dX8_init_87 pX8_41 rfl rfl rfl rfl (fun _ => rfl) (fun _ => rfl) hin ?_
  refine e_aload_n C dX8_init_90 rfl rfl ?_
  refine e_sipush (v := (nI 512)) C dX8_init_91 (by decide) ?_
  refine e_newaI (q := 36) (sh2 := [.inr (7, [4, 9, 10, 14, 17, 20, 21, 23, 27, 0, 0, 0]), .inr (4, [5, 6, 7, 8]), .inl (0, 3), .inl (0, 60), .inl (0, 8), .inl (0, 8), .inl (0, 8), .inr (2, [11, 12, 13, 0]), .inl (0, 36), .inl (0, 12), .inl (0, 512), .inr (5, [15, 16, 1, 0]), .inl (1, 60), .inl (1, 1200), .inr (1, [18, 19, 0]), .inl (0, 455), .inl (0, 455), .inr (6, [0, 0, 0, 0, 0, 0, 0]), .inr (3, [22, 0]), .inl (0, 60), .inr (0, [24, 25, 26]), .inl (2, 201), .inl (2, 201), .inl (2, 201), .inl (1, 8), .inr (8, [29, 30, 31, 0, 32, 33, 34, 35, 0, 0, 36, 37, 38, 2, 1, 0, 2, 2, 2, 0, 0, 0, 0, 0, 0, 0, 0, 2, 2, 2, 0, 2, 2, 2]), .inl (0, 3), .inl (0, 60), .inl (0, 8), .inl (0, 12), .inl (0, 12), .inl (0, 12), .inl (0, 12), .inl (0, 8), .inl (0, 8000), .inl (0, 512), .inl (0, 512)]) (kn2 := (11, 9151)) C dX8_init_94 wA_int (by decide) rfl rfl rfl ⟨Nat.le_of_ble_eq_true rfl, Nat.le_of_ble_eq_true rfl⟩ ?_
  refine e_nm (fun M12 hM12 => ?_)
  refine e_putRF (sh2 := [.inr (7, [4, 9, 10, 14, 17, 20, 21, 23, 27, 0, 0, 0]), .inr (4, [5, 6, 7, 8]), .inl (0, 3), .inl (0, 60), .inl (0, 8), .inl (0, 8), .inl (0, 8), .inr (2, [11, 12, 13, 0]), .inl (0, 36), .inl (0, 12), .inl (0, 512), .inr (5, [15, 16, 1, 0]), .inl (1, 60), .inl (1, 1200), .inr (1, [18, 19, 0]), .inl (0, 455), .inl (0, 455), .inr (6, [0, 0, 0, 0, 0, 0, 0]), .inr (3, [22, 0]), .inl (0, 60), .inr (0, [24, 25, 26]), .inl (2, 201), .inl (2, 201), .inl (2, 201), .inl (1, 8), .inr (8, [29, 30, 31, 0, 32, 33, 34, 35, 0, 0, 36, 37, 38, 39, 1, 0, 2, 2, 2, 0, 0, 0, 0, 0, 0, 0, 0, 2, 2, 2, 0, 2, 2, 2]), .inl (0, 3), .inl (0, 60), .inl (0, 8), .inl (0, 12), .inl (0, 12), .inl (0, 12), .inl (0, 12), .inl (0, 8), .inl (0, 8000), .inl (0, 512), .inl (0, 512)]) C dX8_init_96 pX8_44 rfl rfl rfl rfl (fun _ => rfl) (fun _ => rfl) hin ?_
  refine e_aload_n C dX8_init_99 rfl rfl ?_
  refine e_bipush (v := (nI 60)) C dX8_init_100 (by decide) ?_
  refine e_newaJ (q := 37) (sh2 := [.inr (7, [4, 9, 10, 14, 17, 20, 21, 23, 27, 0, 0, 0]), .inr (4, [5, 6, 7, 8]), .inl (0, 3), .inl (0, 60), .inl (0, 8), .inl (0, 8), .inl (0, 8), .inr (2, [11, 12, 13, 0]), .inl (0, 36), .inl (0, 12), .inl (0, 512), .inr (5, [15, 16, 1, 0]), .inl (1, 60), .inl (1, 1200), .inr (1, [18, 19, 0]), .inl (0, 455), .inl (0, 455), .inr (6, [0, 0, 0, 0, 0, 0, 0]), .inr (3, [22, 0]), .inl (0, 60), .inr (0, [24, 25, 26]), .inl (2, 201), .inl (2, 201), .inl (2, 201), .inl (1, 8), .inr (8, [29, 30, 31, 0, 32, 33, 34, 35, 0, 0, 36, 37, 38, 39, 1, 0, 2, 2, 2, 0, 0, 0, 0, 0, 0, 0, 0, 2, 2, 2, 0, 2, 2, 2]), .inl (0, 3), .inl (0, 60), .inl (0, 8), .inl (0, 12), .inl (0, 12), .inl (0, 12), .inl (0, 12), .inl (0, 8), .inl (0, 8000), .inl (0, 512), .inl (0, 512), .inl (1, 60)]) (kn2 := (12, 9211)) C dX8_init_102 wA_long (by decide) rfl rfl rfl ⟨Nat.le_of_ble_eq_true rfl, Nat.le_of_ble_eq_true rfl⟩ ?_
  refine e_nm (fun M13 hM13 => ?_)
  refine e_putRF (sh2 := [.inr (7, [4, 9, 10, 14, 17, 20, 21, 23, 27, 0, 0, 0]), .inr (4, [5, 6, 7, 8]), .inl (0, 3), .inl (0, 60), .inl (0, 8), .inl (0, 8), .inl (0, 8), .inr (2, [11, 12, 13, 0]), .inl (0, 36), .inl (0, 12), .inl (0, 512), .inr (5, [15, 16, 1, 0]), .inl (1, 60), .inl (1, 1200), .inr (1, [18, 19, 0]), .inl (0, 455), .inl (0, 455), .inr (6, [0, 0, 0, 0, 0, 0, 0]), .inr (3, [22, 0]), .inl (0, 60), .inr (0, [24, 25, 26]), .inl (2, 201), .inl (2, 201), .inl (2, 201), .inl (1, 8), .inr (8, [29, 30, 31, 0, 32, 33, 34, 35, 0, 0, 36, 37, 38, 39, 1, 0, 40, 2, 2, 0, 0, 0, 0, 0, 0, 0, 0, 2, 2, 2, 0, 2, 2, 2]), .inl (0, 3), .inl (0, 60), .inl (0, 8), .inl (0, 12), .inl (0, 12), .inl (0, 12), .inl (0, 12), .inl (0, 8), .inl (0, 8000), .inl (0, 512), .inl (0, 512), .inl (1, 60)]) C dX8_init_104 pX8_47 rfl rfl rfl rfl (fun _ => rfl) (fun _ => rfl) hin ?_
  refine e_aload_n C dX8_init_107 rfl rfl ?_
  refine e_sipush (v := (nI 1200)) C dX8_init_108 (by decide) ?_
  refine e_newaJ (q := 38) (sh2 := [.inr (7, [4, 9, 10, 14, 17, 20, 21, 23, 27, 0, 0, 0]), .inr (4, [5, 6, 7, 8]), .inl (0, 3), .inl (0, 60), .inl (0, 8), .inl (0, 8), .inl (0, 8), .inr (2, [11, 12, 13, 0]), .inl (0, 36), .inl (0, 12), .inl (0, 512), .inr (5, [15, 16, 1, 0]), .inl (1, 60), .inl (1, 1200), .inr (1, [18, 19, 0]), .inl (0, 455), .inl (0, 455), .inr (6, [0, 0, 0, 0, 0, 0, 0]), .inr (3, [22, 0]), .inl (0, 60), .inr (0, [24, 25, 26]), .inl (2, 201), .inl (2, 201), .inl (2, 201), .inl (1, 8), .inr (8, [29, 30, 31, 0, 32, 33, 34, 35, 0, 0, 36, 37, 38, 39, 1, 0, 40, 2, 2, 0, 0, 0, 0, 0, 0, 0, 0, 2, 2, 2, 0, 2, 2, 2]), .inl (0, 3), .inl (0, 60), .inl (0, 8), .inl (0, 12), .inl (0, 12), .inl (0, 12), .inl (0, 12), .inl (0, 8), .inl (0, 8000), .inl (0, 512), .inl (0, 512), .inl (1, 60), .inl (1, 1200)]) (kn2 := (13, 10411)) C dX8_init_111 wA_long (by decide) rfl rfl rfl ⟨Nat.le_of_ble_eq_true rfl, Nat.le_of_ble_eq_true rfl⟩ ?_
  refine e_nm (fun M14 hM14 => ?_)
  refine e_putRF (sh2 := [.inr (7, [4, 9, 10, 14, 17, 20, 21, 23, 27, 0, 0, 0]), .inr (4, [5, 6, 7, 8]), .inl (0, 3), .inl (0, 60), .inl (0, 8), .inl (0, 8), .inl (0, 8), .inr (2, [11, 12, 13, 0]), .inl (0, 36), .inl (0, 12), .inl (0, 512), .inr (5, [15, 16, 1, 0]), .inl (1, 60), .inl (1, 1200), .inr (1, [18, 19, 0]), .inl (0, 455), .inl (0, 455), .inr (6, [0, 0, 0, 0, 0, 0, 0]), .inr (3, [22, 0]), .inl (0, 60), .inr (0, [24, 25, 26]), .inl (2, 201), .inl (2, 201), .inl (2, 201), .inl (1, 8), .inr (8, [29, 30, 31, 0, 32, 33, 34, 35, 0, 0, 36, 37, 38, 39, 1, 0, 40, 41, 2, 0, 0, 0, 0, 0, 0, 0, 0, 2, 2, 2, 0, 2, 2, 2]), .inl (0, 3), .inl (0, 60), .inl (0, 8), .inl (0, 12), .inl (0, 12), .inl (0, 12), .inl (0, 12), .inl (0, 8), .inl (0, 8000), .inl (0, 512), .inl (0, 512), .inl (1, 60), .inl (1, 1200)]) C dX8_init_113 pX8_51 rfl rfl rfl rfl (fun _ => rfl) (fun _ => rfl) hin ?_
  refine e_aload_n C dX8_init_116 rfl rfl ?_
  refine e_bipush (v := (nI 24)) C dX8_init_117 (by decide) ?_
  refine e_newaI (q := 39) (sh2 := [.inr (7, [4, 9, 10, 14, 17, 20, 21, 23, 27, 0, 0, 0]), .inr (4, [5, 6, 7, 8]), .inl (0, 3), .inl (0, 60), .inl (0, 8), .inl (0, 8), .inl (0, 8), .inr (2, [11, 12, 13, 0]), .inl (0, 36), .inl (0, 12), .inl (0, 512), .inr (5, [15, 16, 1, 0]), .inl (1, 60), .inl (1, 1200), .inr (1, [18, 19, 0]), .inl (0, 455), .inl (0, 455), .inr (6, [0, 0, 0, 0, 0, 0, 0]), .inr (3, [22, 0]), .inl (0, 60), .inr (0, [24, 25, 26]), .inl (2, 201), .inl (2, 201), .inl (2, 201), .inl (1, 8), .inr (8, [29, 30, 31, 0, 32, 33, 34, 35, 0, 0, 36, 37, 38, 39, 1, 0, 40, 41, 2, 0, 0, 0, 0, 0, 0, 0, 0, 2, 2, 2, 0, 2, 2, 2]), .inl (0, 3), .inl (0, 60), .inl (0, 8), .inl (0, 12), .inl (0, 12), .inl (0, 12), .inl (0, 12), .inl (0, 8), .inl (0, 8000), .inl (0, 512), .inl (0, 512), .inl (1, 60), .inl (1, 1200), .inl (0, 24)]) (kn2 := (14, 10435)) C dX8_init_119 wA_int (by decide) rfl rfl rfl ⟨Nat.le_of_ble_eq_true rfl, Nat.le_of_ble_eq_true rfl⟩ ?_
  refine e_nm (fun M15 hM15 => ?_)
  refine e_putRF (sh2 := [.inr (7, [4, 9, 10, 14, 17, 20, 21, 23, 27, 0, 0, 0]), .inr (4, [5, 6, 7, 8]), .inl (0, 3), .inl (0, 60), .inl (0, 8), .inl (0, 8), .inl (0, 8), .inr (2, [11, 12, 13, 0]), .inl (0, 36), .inl (0, 12), .inl (0, 512), .inr (5, [15, 16, 1, 0]), .inl (1, 60), .inl (1, 1200), .inr (1, [18, 19, 0]), .inl (0, 455), .inl (0, 455), .inr (6, [0, 0, 0, 0, 0, 0, 0]), .inr (3, [22, 0]), .inl (0, 60), .inr (0, [24, 25, 26]), .inl (2, 201), .inl (2, 201), .inl (2, 201), .inl (1, 8), .inr (8, [29, 30, 31, 0, 32, 33, 34, 35, 0, 0, 36, 37, 38, 39, 1, 0, 40, 41, 42, 0, 0, 0, 0, 0, 0, 0, 0, 2, 2, 2, 0, 2, 2, 2]), .inl (0, 3), .inl (0, 60), .inl (0, 8), .inl (0, 12), .inl (0, 12), .inl (0, 12), .inl (0, 12), .inl (0, 8), .inl (0, 8000), .inl (0, 512), .inl (0, 512), .inl (1, 60), .inl (1, 1200), .inl (0, 24)]) C dX8_init_121 pX8_54 rfl rfl rfl rfl (fun _ => rfl) (fun _ => rfl) hin ?_
  refine e_aload_n C dX8_init_124 rfl rfl ?_
  refine e_bipush (v := (nI 100)) C dX8_init_125 (by decide) ?_
  refine e_putI C dX8_init_127 pX8_57 rfl rfl rfl rfl ?_
  refine e_nm (fun M16 hM16 => ?_)
  refine e_aload_n C dX8_init_130 rfl rfl ?_
  refine e_sipush (v := (nI 600)) C dX8_init_131 (by decide) ?_
  refine e_newaI (q := 40) (sh2 := [.inr (7, [4, 9, 10, 14, 17, 20, 21, 23, 27, 0, 0, 0]), .inr (4, [5, 6, 7, 8]), .inl (0, 3), .inl (0, 60), .inl (0, 8), .inl (0, 8), .inl (0, 8), .inr (2, [11, 12, 13, 0]), .inl (0, 36), .inl (0, 12), .inl (0, 512), .inr (5, [15, 16, 1, 0]), .inl (1, 60), .inl (1, 1200), .inr (1, [18, 19, 0]), .inl (0, 455), .inl (0, 455), .inr (6, [0, 0, 0, 0, 0, 0, 0]), .inr (3, [22, 0]), .inl (0, 60), .inr (0, [24, 25, 26]), .inl (2, 201), .inl (2, 201), .inl (2, 201), .inl (1, 8), .inr (8, [29, 30, 31, 0, 32, 33, 34, 35, 0, 0, 36, 37, 38, 39, 1, 0, 40, 41, 42, 0, 0, 0, 0, 0, 0, 0, 0, 2, 2, 2, 0, 2, 2, 2]), .inl (0, 3), .inl (0, 60), .inl (0, 8), .inl (0, 12), .inl (0, 12), .inl (0, 12), .inl (0, 12), .inl (0, 8), .inl (0, 8000), .inl (0, 512), .inl (0, 512), .inl (1, 60), .inl (1, 1200), .inl (0, 24), .inl (0, 600)]) (kn2 := (15, 11035)) C dX8_init_134 wA_int (by decide) rfl rfl rfl ⟨Nat.le_of_ble_eq_true rfl, Nat.le_of_ble_eq_true rfl⟩ ?_
  refine e_nm (fun M17 hM17 => ?_)
  refine e_putRF (sh2 := [.inr (7, [4, 9, 10, 14, 17, 20, 21, 23, 27, 0, 0, 0]), .inr (4, [5, 6, 7, 8]), .inl (0, 3), .inl (0, 60), .inl (0, 8), .inl (0, 8), .inl (0, 8), .inr (2, [11, 12, 13, 0]), .inl (0, 36), .inl (0, 12), .inl (0, 512), .inr (5, [15, 16, 1, 0]), .inl (1, 60), .inl (1, 1200), .inr (1, [18, 19, 0]), .inl (0, 455), .inl (0, 455), .inr (6, [0, 0, 0, 0, 0, 0, 0]), .inr (3, [22, 0]), .inl (0, 60), .inr (0, [24, 25, 26]), .inl (2, 201), .inl (2, 201), .inl (2, 201), .inl (1, 8), .inr (8, [29, 30, 31, 0, 32, 33, 34, 35, 0, 0, 36, 37, 38, 39, 1, 0, 40, 41, 42, 0, 0, 0, 0, 0, 0, 0, 0, 43, 2, 2, 0, 2, 2, 2]), .inl (0, 3), .inl (0, 60), .inl (0, 8), .inl (0, 12), .inl (0, 12), .inl (0, 12), .inl (0, 12), .inl (0, 8), .inl (0, 8000), .inl (0, 512), .inl (0, 512), .inl (1, 60), .inl (1, 1200), .inl (0, 24), .inl (0, 600)]) C dX8_init_136 pX8_60 rfl rfl rfl rfl (fun _ => rfl) (fun _ => rfl) hin ?_
  refine e_aload_n C dX8_init_139 rfl rfl ?_
  refine e_sipush (v := (nI 30001)) C dX8_init_140 (by decide) ?_
  refine e_newaI (q := 41) (sh2 := [.inr (7, [4, 9, 10, 14, 17, 20, 21, 23, 27, 0, 0, 0]), .inr (4, [5, 6, 7, 8]), .inl (0, 3), .inl (0, 60), .inl (0, 8), .inl (0, 8), .inl (0, 8), .inr (2, [11, 12, 13, 0]), .inl (0, 36), .inl (0, 12), .inl (0, 512), .inr (5, [15, 16, 1, 0]), .inl (1, 60), .inl (1, 1200), .inr (1, [18, 19, 0]), .inl (0, 455), .inl (0, 455), .inr (6, [0, 0, 0, 0, 0, 0, 0]), .inr (3, [22, 0]), .inl (0, 60), .inr (0, [24, 25, 26]), .inl (2, 201), .inl (2, 201), .inl (2, 201), .inl (1, 8), .inr (8, [29, 30, 31, 0, 32, 33, 34, 35, 0, 0, 36, 37, 38, 39, 1, 0, 40, 41, 42, 0, 0, 0, 0, 0, 0, 0, 0, 43, 2, 2, 0, 2, 2, 2]), .inl (0, 3), .inl (0, 60), .inl (0, 8), .inl (0, 12), .inl (0, 12), .inl (0, 12), .inl (0, 12), .inl (0, 8), .inl (0, 8000), .inl (0, 512), .inl (0, 512), .inl (1, 60), .inl (1, 1200), .inl (0, 24), .inl (0, 600), .inl (0, 30001)]) (kn2 := (16, 41036)) C dX8_init_143 wA_int (by decide) rfl rfl rfl ⟨Nat.le_of_ble_eq_true rfl, Nat.le_of_ble_eq_true rfl⟩ ?_
  refine e_nm (fun M18 hM18 => ?_)
  refine e_putRF (sh2 := [.inr (7, [4, 9, 10, 14, 17, 20, 21, 23, 27, 0, 0, 0]), .inr (4, [5, 6, 7, 8]), .inl (0, 3), .inl (0, 60), .inl (0, 8), .inl (0, 8), .inl (0, 8), .inr (2, [11, 12, 13, 0]), .inl (0, 36), .inl (0, 12), .inl (0, 512), .inr (5, [15, 16, 1, 0]), .inl (1, 60), .inl (1, 1200), .inr (1, [18, 19, 0]), .inl (0, 455), .inl (0, 455), .inr (6, [0, 0, 0, 0, 0, 0, 0]), .inr (3, [22, 0]), .inl (0, 60), .inr (0, [24, 25, 26]), .inl (2, 201), .inl (2, 201), .inl (2, 201), .inl (1, 8), .inr (8, [29, 30, 31, 0, 32, 33, 34, 35, 0, 0, 36, 37, 38, 39, 1, 0, 40, 41, 42, 0, 0, 0, 0, 0, 0, 0, 0, 43, 44, 2, 0, 2, 2, 2]), .inl (0, 3), .inl (0, 60), .inl (0, 8), .inl (0, 12), .inl (0, 12), .inl (0, 12), .inl (0, 12), .inl (0, 8), .inl (0, 8000), .inl (0, 512), .inl (0, 512), .inl (1, 60), .inl (1, 1200), .inl (0, 24), .inl (0, 600), .inl (0, 30001)]) C dX8_init_145 pX8_63 rfl rfl rfl rfl (fun _ => rfl) (fun _ => rfl) hin ?_
  refine e_aload_n C dX8_init_148 rfl rfl ?_
  refine e_sipush (v := (nI 8000)) C dX8_init_149 (by decide) ?_
  refine e_newaI (q := 42) (sh2 := [.inr (7, [4, 9, 10, 14, 17, 20, 21, 23, 27, 0, 0, 0]), .inr (4, [5, 6, 7, 8]), .inl (0, 3), .inl (0, 60), .inl (0, 8), .inl (0, 8), .inl (0, 8), .inr (2, [11, 12, 13, 0]), .inl (0, 36), .inl (0, 12), .inl (0, 512), .inr (5, [15, 16, 1, 0]), .inl (1, 60), .inl (1, 1200), .inr (1, [18, 19, 0]), .inl (0, 455), .inl (0, 455), .inr (6, [0, 0, 0, 0, 0, 0, 0]), .inr (3, [22, 0]), .inl (0, 60), .inr (0, [24, 25, 26]), .inl (2, 201), .inl (2, 201), .inl (2, 201), .inl (1, 8), .inr (8, [29, 30, 31, 0, 32, 33, 34, 35, 0, 0, 36, 37, 38, 39, 1, 0, 40, 41, 42, 0, 0, 0, 0, 0, 0, 0, 0, 43, 44, 2, 0, 2, 2, 2]), .inl (0, 3), .inl (0, 60), .inl (0, 8), .inl (0, 12), .inl (0, 12), .inl (0, 12), .inl (0, 12), .inl (0, 8), .inl (0, 8000), .inl (0, 512), .inl (0, 512), .inl (1, 60), .inl (1, 1200), .inl (0, 24), .inl (0, 600), .inl (0, 30001), .inl (0, 8000)]) (kn2 := (17, 49036)) C dX8_init_152 wA_int (by decide) rfl rfl rfl ⟨Nat.le_of_ble_eq_true rfl, Nat.le_of_ble_eq_true rfl⟩ ?_
  refine e_nm (fun M19 hM19 => ?_)
  refine e_putRF (sh2 := [.inr (7, [4, 9, 10, 14, 17, 20, 21, 23, 27, 0, 0, 0]), .inr (4, [5, 6, 7, 8]), .inl (0, 3), .inl (0, 60), .inl (0, 8), .inl (0, 8), .inl (0, 8), .inr (2, [11, 12, 13, 0]), .inl (0, 36), .inl (0, 12), .inl (0, 512), .inr (5, [15, 16, 1, 0]), .inl (1, 60), .inl (1, 1200), .inr (1, [18, 19, 0]), .inl (0, 455), .inl (0, 455), .inr (6, [0, 0, 0, 0, 0, 0, 0]), .inr (3, [22, 0]), .inl (0, 60), .inr (0, [24, 25, 26]), .inl (2, 201), .inl (2, 201), .inl (2, 201), .inl (1, 8), .inr (8, [29, 30, 31, 0, 32, 33, 34, 35, 0, 0, 36, 37, 38, 39, 1, 0, 40, 41, 42, 0, 0, 0, 0, 0, 0, 0, 0, 43, 44, 45, 0, 2, 2, 2]), .inl (0, 3), .inl (0, 60), .inl (0, 8), .inl (0, 12), .inl (0, 12), .inl (0, 12), .inl (0, 12), .inl (0, 8), .inl (0, 8000), .inl (0, 512), .inl (0, 512), .inl (1, 60), .inl (1, 1200), .inl (0, 24), .inl (0, 600), .inl (0, 30001), .inl (0, 8000)]) C dX8_init_154 pX8_66 rfl rfl rfl rfl (fun _ => rfl) (fun _ => rfl) hin ?_
  refine e_aload_n C dX8_init_157 rfl rfl ?_
  refine e_sipush (v := (nI 201)) C dX8_init_158 (by decide) ?_
  refine e_newaD (q := 43) (sh2 := [.inr (7, [4, 9, 10, 14, 17, 20, 21, 23, 27, 0, 0, 0]), .inr (4, [5, 6, 7, 8]), .inl (0, 3), .inl (0, 60), .inl (0, 8), .inl (0, 8), .inl (0, 8), .inr (2, [11, 12, 13, 0]), .inl (0, 36), .inl (0, 12), .inl (0, 512), .inr (5, [15, 16, 1, 0]), .inl (1, 60), .inl (1, 1200), .inr (1, [18, 19, 0]), .inl (0, 455), .inl (0, 455), .inr (6, [0, 0, 0, 0, 0, 0, 0]), .inr (3, [22, 0]), .inl (0, 60), .inr (0, [24, 25, 26]), .inl (2, 201), .inl (2, 201), .inl (2, 201), .inl (1, 8), .inr (8, [29, 30, 31, 0, 32, 33, 34, 35, 0, 0, 36, 37, 38, 39, 1, 0, 40, 41, 42, 0, 0, 0, 0, 0, 0, 0, 0, 43, 44, 45, 0, 2, 2, 2]), .inl (0, 3), .inl (0, 60), .inl (0, 8), .inl (0, 12), .inl (0, 12), .inl (0, 12), .inl (0, 12), .inl (0, 8), .inl (0, 8000), .inl (0, 512), .inl (0, 512), .inl (1, 60), .inl (1, 1200), .inl (0, 24), .inl (0, 600), .inl (0, 30001), .inl (0, 8000), .inl (2, 201)]) (kn2 := (18, 49237)) C dX8_init_161 wA_double (by decide) rfl rfl rfl ⟨Nat.le_of_ble_eq_true rfl, Nat.le_of_ble_eq_true rfl⟩ ?_
  refine e_nm (fun M20 hM20 => ?_)
  refine e_putRF (sh2 := [.inr (7, [4, 9, 10, 14, 17, 20, 21, 23, 27, 0, 0, 0]), .inr (4, [5, 6, 7, 8]), .inl (0, 3), .inl (0, 60), .inl (0, 8), .inl (0, 8), .inl (0, 8), .inr (2, [11, 12, 13, 0]), .inl (0, 36), .inl (0, 12), .inl (0, 512), .inr (5, [15, 16, 1, 0]), .inl (1, 60), .inl (1, 1200), .inr (1, [18, 19, 0]), .inl (0, 455), .inl (0, 455), .inr (6, [0, 0, 0, 0, 0, 0, 0]), .inr (3, [22, 0]), .inl (0, 60), .inr (0, [24, 25, 26]), .inl (2, 201), .inl (2, 201), .inl (2, 201), .inl (1, 8), .inr (8, [29, 30, 31, 0, 32, 33, 34, 35, 0, 0, 36, 37, 38, 39, 1, 0, 40, 41, 42, 0, 0, 0, 0, 0, 0, 0, 0, 43, 44, 45, 0, 46, 2, 2]), .inl (0, 3), .inl (0, 60), .inl (0, 8), .inl (0, 12), .inl (0, 12), .inl (0, 12), .inl (0, 12), .inl (0, 8), .inl (0, 8000), .inl (0, 512), .inl (0, 512), .inl (1, 60), .inl (1, 1200), .inl (0, 24), .inl (0, 600), .inl (0, 30001), .inl (0, 8000), .inl (2, 201)]) C dX8_init_163 pX8_69 rfl rfl rfl rfl (fun _ => rfl) (fun _ => rfl) hin ?_
  refine e_aload_n C dX8_init_166 rfl rfl ?_
  refine e_sipush (v := (nI 201)) C dX8_init_167 (by decide) ?_
  refine e_newaD (q := 44) (sh2 := [.inr (7, [4, 9, 10, 14, 17, 20, 21, 23, 27, 0, 0, 0]), .inr (4, [5, 6, 7, 8]), .inl (0, 3), .inl (0, 60), .inl (0, 8), .inl (0, 8), .inl (0, 8), .inr (2, [11, 12, 13, 0]), .inl (0, 36), .inl (0, 12), .inl (0, 512), .inr (5, [15, 16, 1, 0]), .inl (1, 60), .inl (1, 1200), .inr (1, [18, 19, 0]), .inl (0, 455), .inl (0, 455), .inr (6, [0, 0, 0, 0, 0, 0, 0]), .inr (3, [22, 0]), .inl (0, 60), .inr (0, [24, 25, 26]), .inl (2, 201), .inl (2, 201), .inl (2, 201), .inl (1, 8), .inr (8, [29, 30, 31, 0, 32, 33, 34, 35, 0, 0, 36, 37, 38, 39, 1, 0, 40, 41, 42, 0, 0, 0, 0, 0, 0, 0, 0, 43, 44, 45, 0, 46, 2, 2]), .inl (0, 3), .inl (0, 60), .inl (0, 8), .inl (0, 12), .inl (0, 12), .inl (0, 12), .inl (0, 12), .inl (0, 8), .inl (0, 8000), .inl (0, 512), .inl (0, 512), .inl (1, 60), .inl (1, 1200), .inl (0, 24), .inl (0, 600), .inl (0, 30001), .inl (0, 8000), .inl (2, 201), .inl (2, 201)]) (kn2 := (19, 49438)) C dX8_init_170 wA_double (by decide) rfl rfl rfl ⟨Nat.le_of_ble_eq_true rfl, Nat.le_of_ble_eq_true rfl⟩ ?_
  refine e_nm (fun M21 hM21 => ?_)
  refine e_putRF (sh2 := [.inr (7, [4, 9, 10, 14, 17, 20, 21, 23, 27, 0, 0, 0]), .inr (4, [5, 6, 7, 8]), .inl (0, 3), .inl (0, 60), .inl (0, 8), .inl (0, 8), .inl (0, 8), .inr (2, [11, 12, 13, 0]), .inl (0, 36), .inl (0, 12), .inl (0, 512), .inr (5, [15, 16, 1, 0]), .inl (1, 60), .inl (1, 1200), .inr (1, [18, 19, 0]), .inl (0, 455), .inl (0, 455), .inr (6, [0, 0, 0, 0, 0, 0, 0]), .inr (3, [22, 0]), .inl (0, 60), .inr (0, [24, 25, 26]), .inl (2, 201), .inl (2, 201), .inl (2, 201), .inl (1, 8), .inr (8, [29, 30, 31, 0, 32, 33, 34, 35, 0, 0, 36, 37, 38, 39, 1, 0, 40, 41, 42, 0, 0, 0, 0, 0, 0, 0, 0, 43, 44, 45, 0, 46, 47, 2]), .inl (0, 3), .inl (0, 60), .inl (0, 8), .inl (0, 12), .inl (0, 12), .inl (0, 12), .inl (0, 12), .inl (0, 8), .inl (0, 8000), .inl (0, 512), .inl (0, 512), .inl (1, 60), .inl (1, 1200), .inl (0, 24), .inl (0, 600), .inl (0, 30001), .inl (0, 8000), .inl (2, 201), .inl (2, 201)]) C dX8_init_172 pX8_73 rfl rfl rfl rfl (fun _ => rfl) (fun _ => rfl) hin ?_
  refine e_aload_n C dX8_init_175 rfl rfl ?_
  refine e_sipush (v := (nI 201)) C dX8_init_176 (by decide) ?_
  refine e_newaD (q := 45) (sh2 := [.inr (7, [4, 9, 10, 14, 17, 20, 21, 23, 27, 0, 0, 0]), .inr (4, [5, 6, 7, 8]), .inl (0, 3), .inl (0, 60), .inl (0, 8), .inl (0, 8), .inl (0, 8), .inr (2, [11, 12, 13, 0]), .inl (0, 36), .inl (0, 12), .inl (0, 512), .inr (5, [15, 16, 1, 0]), .inl (1, 60), .inl (1, 1200), .inr (1, [18, 19, 0]), .inl (0, 455), .inl (0, 455), .inr (6, [0, 0, 0, 0, 0, 0, 0]), .inr (3, [22, 0]), .inl (0, 60), .inr (0, [24, 25, 26]), .inl (2, 201), .inl (2, 201), .inl (2, 201), .inl (1, 8), .inr (8, [29, 30, 31, 0, 32, 33, 34, 35, 0, 0, 36, 37, 38, 39, 1, 0, 40, 41, 42, 0, 0, 0, 0, 0, 0, 0, 0, 43, 44, 45, 0, 46, 47, 2]), .inl (0, 3), .inl (0, 60), .inl (0, 8), .inl (0, 12), .inl (0, 12), .inl (0, 12), .inl (0, 12), .inl (0, 8), .inl (0, 8000), .inl (0, 512), .inl (0, 512), .inl (1, 60), .inl (1, 1200), .inl (0, 24), .inl (0, 600), .inl (0, 30001), .inl (0, 8000), .inl (2, 201), .inl (2, 201), .inl (2, 201)]) (kn2 := (20, 49639)) C dX8_init_179 wA_double (by decide) rfl rfl rfl ⟨Nat.le_of_ble_eq_true rfl, Nat.le_of_ble_eq_true rfl⟩ ?_
  refine e_nm (fun M22 hM22 => ?_)
  refine e_putRF (sh2 := [.inr (7, [4, 9, 10, 14, 17, 20, 21, 23, 27, 0, 0, 0]), .inr (4, [5, 6, 7, 8]), .inl (0, 3), .inl (0, 60), .inl (0, 8), .inl (0, 8), .inl (0, 8), .inr (2, [11, 12, 13, 0]), .inl (0, 36), .inl (0, 12), .inl (0, 512), .inr (5, [15, 16, 1, 0]), .inl (1, 60), .inl (1, 1200), .inr (1, [18, 19, 0]), .inl (0, 455), .inl (0, 455), .inr (6, [0, 0, 0, 0, 0, 0, 0]), .inr (3, [22, 0]), .inl (0, 60), .inr (0, [24, 25, 26]), .inl (2, 201), .inl (2, 201), .inl (2, 201), .inl (1, 8), .inr (8, [29, 30, 31, 0, 32, 33, 34, 35, 0, 0, 36, 37, 38, 39, 1, 0, 40, 41, 42, 0, 0, 0, 0, 0, 0, 0, 0, 43, 44, 45, 0, 46, 47, 48]), .inl (0, 3), .inl (0, 60), .inl (0, 8), .inl (0, 12), .inl (0, 12), .inl (0, 12), .inl (0, 12), .inl (0, 8), .inl (0, 8000), .inl (0, 512), .inl (0, 512), .inl (1, 60), .inl (1, 1200), .inl (0, 24), .inl (0, 600), .inl (0, 30001), .inl (0, 8000), .inl (2, 201), .inl (2, 201), .inl (2, 201)]) C dX8_init_181 pX8_76 rfl rfl rfl rfl (fun _ => rfl) (fun _ => rfl) hin ?_
  refine e_iconst (v := (nI 0)) C dX8_init_184 (by decide) ?_
  refine e_istore_n (lv2 := [(1, .int (nI 0)), (0, .ref 25)]) C dX8_init_185 rfl (by decide) rfl ?_
  refine e_loc (lv2 := [(0, .ref 25), (1, .int (nI 0))]) [1, 0] rfl ?_
  refine e_iload_n C dX8_init_186 rfl rfl ?_
  refine e_iconst (v := (nI 3)) C dX8_init_187 (by decide) ?_
  refine e_icmp_geN (tgt := 204) C dX8_init_188 (by omega) (by omega) (by decide) (fun h188 => by omega) (fun h188 => ?_)
  refine e_aload_n C dX8_init_191 rfl rfl ?_
  refine e_getR (q := 26) C dX8_init_192 fX8_7 rfl rfl ?_
  refine e_iload_n C dX8_init_195 rfl rfl ?_
  refine e_iconst (v := (nI 4)) C dX8_init_196 (by decide) ?_
  refine e_iastoreN C dX8_init_197 rfl (by omega) (by omega) ?_
  refine e_nm (fun M23 hM23 => ?_)
  refine e_iincN (lv2 := [(1, .int (nI (0 + 1))), (0, .ref 25)]) C dX8_init_198 rfl (by decide) (nI_1 _) rfl ?_
  refine e_goto (tgt := 186) C dX8_init_201 (by decide) ?_
  refine e_loc (lv2 := [(0, .ref 25), (1, .int (nI 1))]) [1, 0] rfl ?_
  refine e_iload_n C dX8_init_186 rfl rfl ?_
  refine e_iconst (v := (nI 3)) C dX8_init_187 (by decide) ?_
  refine e_icmp_geN (tgt := 204) C dX8_init_188 (by omega) (by omega) (by decide) (fun h188 => by omega) (fun h188 => ?_)
  refine e_aload_n C dX8_init_191 rfl rfl ?_
  refine e_getR (q := 26) C dX8_init_192 fX8_7 rfl rfl ?_
  refine e_iload_n C dX8_init_195 rfl rfl ?_
  refine e_iconst (v := (nI 4)) C dX8_init_196 (by decide) ?_
  refine e_iastoreN C dX8_init_197 rfl (by omega) (by omega) ?_
  refine e_nm (fun M24 hM24 => ?_)
  refine e_iincN (lv2 := [(1, .int (nI (1 + 1))), (0, .ref 25)]) C dX8_init_198 rfl (by decide) (nI_1 _) rfl ?_
  refine e_goto (tgt := 186) C dX8_init_201 (by decide) ?_
  refine e_loc (lv2 := [(0, .ref 25), (1, .int (nI 2))]) [1, 0] rfl ?_
  refine e_iload_n C dX8_init_186 rfl rfl ?_
  refine e_iconst (v := (nI 3)) C dX8_init_187 (by decide) ?_
  refine e_icmp_geN (tgt := 204) C dX8_init_188 (by omega) (by omega) (by decide) (fun h188 => by omega) (fun h188 => ?_)
  refine e_aload_n C dX8_init_191 rfl rfl ?_
  refine e_getR (q := 26) C dX8_init_192 fX8_7 rfl rfl ?_
  refine e_iload_n C dX8_init_195 rfl rfl ?_
  refine e_iconst (v := (nI 4)) C dX8_init_196 (by decide) ?_
  refine e_iastoreN C dX8_init_197 rfl (by omega) (by omega) ?_
  refine e_nm (fun M25 hM25 => ?_)
  refine e_iincN (lv2 := [(1, .int (nI (2 + 1))), (0, .ref 25)]) C dX8_init_198 rfl (by decide) (nI_1 _) rfl ?_
  refine e_goto (tgt := 186) C dX8_init_201 (by decide) ?_
  refine e_loc (lv2 := [(0, .ref 25), (1, .int (nI 3))]) [1, 0] rfl ?_
  refine e_iload_n C dX8_init_186 rfl rfl ?_
  refine e_iconst (v := (nI 3)) C dX8_init_187 (by decide) ?_
  refine e_icmp_geN (tgt := 204) C dX8_init_188 (by omega) (by omega) (by decide) (fun h188 => ?_) (fun h188 => by omega)
  have hs_1 : Same [25, 26, 27, 28, 29, 30, 31, 32, 33, 34, 35, 36, 37, 38, 39, 40, 41, 42, 43, 44, 45] M M1 := by rw [hM1]; exact (Same.rf [25, 26, 27, 28, 29, 30, 31, 32, 33, 34, 35, 36, 37, 38, 39, 40, 41, 42, 43, 44, 45] M).Z (by decide)
  have hs_2 : Same [25, 26, 27, 28, 29, 30, 31, 32, 33, 34, 35, 36, 37, 38, 39, 40, 41, 42, 43, 44, 45] M M2 := by rw [hM2]; exact hs_1.Z (by decide)
  have hs_3 : Same [25, 26, 27, 28, 29, 30, 31, 32, 33, 34, 35, 36, 37, 38, 39, 40, 41, 42, 43, 44, 45] M M3 := by rw [hM3]; exact hs_2.Z (by decide)
  have hs_4 : Same [25, 26, 27, 28, 29, 30, 31, 32, 33, 34, 35, 36, 37, 38, 39, 40, 41, 42, 43, 44, 45] M M4 := by rw [hM4]; exact hs_3.Z (by decide)
  have hs_5 : Same [25, 26, 27, 28, 29, 30, 31, 32, 33, 34, 35, 36, 37, 38, 39, 40, 41, 42, 43, 44, 45] M M5 := by rw [hM5]; exact hs_4.Z (by decide)
  have hs_6 : Same [25, 26, 27, 28, 29, 30, 31, 32, 33, 34, 35, 36, 37, 38, 39, 40, 41, 42, 43, 44, 45] M M6 := by rw [hM6]; exact hs_5.Z (by decide)
  have hs_7 : Same [25, 26, 27, 28, 29, 30, 31, 32, 33, 34, 35, 36, 37, 38, 39, 40, 41, 42, 43, 44, 45] M M7 := by rw [hM7]; exact hs_6.Z (by decide)
  have hs_8 : Same [25, 26, 27, 28, 29, 30, 31, 32, 33, 34, 35, 36, 37, 38, 39, 40, 41, 42, 43, 44, 45] M M8 := by rw [hM8]; exact hs_7.I (by decide)
  have hs_9 : Same [25, 26, 27, 28, 29, 30, 31, 32, 33, 34, 35, 36, 37, 38, 39, 40, 41, 42, 43, 44, 45] M M9 := by rw [hM9]; exact hs_8.Z (by decide)
  have hs_10 : Same [25, 26, 27, 28, 29, 30, 31, 32, 33, 34, 35, 36, 37, 38, 39, 40, 41, 42, 43, 44, 45] M M10 := by rw [hM10]; exact hs_9.Z (by decide)
  have hs_11 : Same [25, 26, 27, 28, 29, 30, 31, 32, 33, 34, 35, 36, 37, 38, 39, 40, 41, 42, 43, 44, 45] M M11 := by rw [hM11]; exact hs_10.Z (by decide)
  have hs_12 : Same [25, 26, 27, 28, 29, 30, 31, 32, 33, 34, 35, 36, 37, 38, 39, 40, 41, 42, 43, 44, 45] M M12 := by rw [hM12]; exact hs_11.Z (by decide)
  have hs_13 : Same [25, 26, 27, 28, 29, 30, 31, 32, 33, 34, 35, 36, 37, 38, 39, 40, 41, 42, 43, 44, 45] M M13 := by rw [hM13]; exact hs_12.Z (by decide)
  have hs_14 : Same [25, 26, 27, 28, 29, 30, 31, 32, 33, 34, 35, 36, 37, 38, 39, 40, 41, 42, 43, 44, 45] M M14 := by rw [hM14]; exact hs_13.Z (by decide)
  have hs_15 : Same [25, 26, 27, 28, 29, 30, 31, 32, 33, 34, 35, 36, 37, 38, 39, 40, 41, 42, 43, 44, 45] M M15 := by rw [hM15]; exact hs_14.Z (by decide)
  have hs_16 : Same [25, 26, 27, 28, 29, 30, 31, 32, 33, 34, 35, 36, 37, 38, 39, 40, 41, 42, 43, 44, 45] M M16 := by rw [hM16]; exact hs_15.I (by decide)
  have hs_17 : Same [25, 26, 27, 28, 29, 30, 31, 32, 33, 34, 35, 36, 37, 38, 39, 40, 41, 42, 43, 44, 45] M M17 := by rw [hM17]; exact hs_16.Z (by decide)
  have hs_18 : Same [25, 26, 27, 28, 29, 30, 31, 32, 33, 34, 35, 36, 37, 38, 39, 40, 41, 42, 43, 44, 45] M M18 := by rw [hM18]; exact hs_17.Z (by decide)
  have hs_19 : Same [25, 26, 27, 28, 29, 30, 31, 32, 33, 34, 35, 36, 37, 38, 39, 40, 41, 42, 43, 44, 45] M M19 := by rw [hM19]; exact hs_18.Z (by decide)
  have hs_20 : Same [25, 26, 27, 28, 29, 30, 31, 32, 33, 34, 35, 36, 37, 38, 39, 40, 41, 42, 43, 44, 45] M M20 := by rw [hM20]; exact hs_19.Z (by decide)
  have hs_21 : Same [25, 26, 27, 28, 29, 30, 31, 32, 33, 34, 35, 36, 37, 38, 39, 40, 41, 42, 43, 44, 45] M M21 := by rw [hM21]; exact hs_20.Z (by decide)
  have hs_22 : Same [25, 26, 27, 28, 29, 30, 31, 32, 33, 34, 35, 36, 37, 38, 39, 40, 41, 42, 43, 44, 45] M M22 := by rw [hM22]; exact hs_21.Z (by decide)
  have hs_23 : Same [25, 26, 27, 28, 29, 30, 31, 32, 33, 34, 35, 36, 37, 38, 39, 40, 41, 42, 43, 44, 45] M M23 := by rw [hM23]; exact hs_22.I (by decide)
  have hs_24 : Same [25, 26, 27, 28, 29, 30, 31, 32, 33, 34, 35, 36, 37, 38, 39, 40, 41, 42, 43, 44, 45] M M24 := by rw [hM24]; exact hs_23.I (by decide)
  have hs_25 : Same [25, 26, 27, 28, 29, 30, 31, 32, 33, 34, 35, 36, 37, 38, 39, 40, 41, 42, 43, 44, 45] M M25 := by rw [hM25]; exact hs_24.I (by decide)
  have e25 : gI M25 25 = upd (upd (fun _ => 0) 8 (nI 1)) 19 (nI 100) := by rw [hM25, gI_sI_ne _ _ (by decide), hM24, gI_sI_ne _ _ (by decide), hM23, gI_sI_ne _ _ (by decide), hM22, (zr_o _ (by decide)).1, hM21, (zr_o _ (by decide)).1, hM20, (zr_o _ (by decide)).1, hM19, (zr_o _ (by decide)).1, hM18, (zr_o _ (by decide)).1, hM17, (zr_o _ (by decide)).1, hM16, gI_sI, hM15, (zr_o _ (by decide)).1, hM14, (zr_o _ (by decide)).1, hM13, (zr_o _ (by decide)).1, hM12, (zr_o _ (by decide)).1, hM11, (zr_o _ (by decide)).1, hM10, (zr_o _ (by decide)).1, hM9, (zr_o _ (by decide)).1, hM8, gI_sI, hM7, (zr_o _ (by decide)).1, hM6, (zr_o _ (by decide)).1, hM5, (zr_o _ (by decide)).1, hM4, (zr_o _ (by decide)).1, hM3, (zr_o _ (by decide)).1, hM2, (zr_o _ (by decide)).1, hM1, (zr_o _ (by decide)).1, hz]
  have e26 : gI M25 26 = upd (upd (upd (fun _ => 0) 0 (nI 4)) 1 (nI 4)) 2 (nI 4) := by rw [hM25, gI_sI, hM24, gI_sI, hM23, gI_sI, hM22, (zr_o _ (by decide)).1, hM21, (zr_o _ (by decide)).1, hM20, (zr_o _ (by decide)).1, hM19, (zr_o _ (by decide)).1, hM18, (zr_o _ (by decide)).1, hM17, (zr_o _ (by decide)).1, hM16, gI_sI_ne _ _ (by decide), hM15, (zr_o _ (by decide)).1, hM14, (zr_o _ (by decide)).1, hM13, (zr_o _ (by decide)).1, hM12, (zr_o _ (by decide)).1, hM11, (zr_o _ (by decide)).1, hM10, (zr_o _ (by decide)).1, hM9, (zr_o _ (by decide)).1, hM8, gI_sI_ne _ _ (by decide), hM7, (zr_o _ (by decide)).1, hM6, (zr_o _ (by decide)).1, hM5, (zr_o _ (by decide)).1, hM4, (zr_o _ (by decide)).1, hM3, (zr_o _ (by decide)).1, hM2, (zr_o _ (by decide)).1, hM1, zr_I]
  have e27 : gI M25 27 = fun _ => 0 := by rw [hM25, gI_sI_ne _ _ (by decide), hM24, gI_sI_ne _ _ (by decide), hM23, gI_sI_ne _ _ (by decide), hM22, (zr_o _ (by decide)).1, hM21, (zr_o _ (by decide)).1, hM20, (zr_o _ (by decide)).1, hM19, (zr_o _ (by decide)).1, hM18, (zr_o _ (by decide)).1, hM17, (zr_o _ (by decide)).1, hM16, gI_sI_ne _ _ (by decide), hM15, (zr_o _ (by decide)).1, hM14, (zr_o _ (by decide)).1, hM13, (zr_o _ (by decide)).1, hM12, (zr_o _ (by decide)).1, hM11, (zr_o _ (by decide)).1, hM10, (zr_o _ (by decide)).1, hM9, (zr_o _ (by decide)).1, hM8, gI_sI_ne _ _ (by decide), hM7, (zr_o _ (by decide)).1, hM6, (zr_o _ (by decide)).1, hM5, (zr_o _ (by decide)).1, hM4, (zr_o _ (by decide)).1, hM3, (zr_o _ (by decide)).1, hM2, zr_I]
  have e28 : gI M25 28 = fun _ => 0 := by rw [hM25, gI_sI_ne _ _ (by decide), hM24, gI_sI_ne _ _ (by decide), hM23, gI_sI_ne _ _ (by decide), hM22, (zr_o _ (by decide)).1, hM21, (zr_o _ (by decide)).1, hM20, (zr_o _ (by decide)).1, hM19, (zr_o _ (by decide)).1, hM18, (zr_o _ (by decide)).1, hM17, (zr_o _ (by decide)).1, hM16, gI_sI_ne _ _ (by decide), hM15, (zr_o _ (by decide)).1, hM14, (zr_o _ (by decide)).1, hM13, (zr_o _ (by decide)).1, hM12, (zr_o _ (by decide)).1, hM11, (zr_o _ (by decide)).1, hM10, (zr_o _ (by decide)).1, hM9, (zr_o _ (by decide)).1, hM8, gI_sI_ne _ _ (by decide), hM7, (zr_o _ (by decide)).1, hM6, (zr_o _ (by decide)).1, hM5, (zr_o _ (by decide)).1, hM4, (zr_o _ (by decide)).1, hM3, zr_I]
  have hr : RInv M25 s0 := by
    refine ⟨⟨⟨fun r hr => ?_, fun _ _ => ⟨show 4 ≤ 4 by decide, show 4 ≤ 20 by decide⟩, fun r _ s _ => by rw [e27]; rfl, fun _ => show 0 < 8 by decide⟩, ⟨by rw [e25]; rfl, by decide, fun i hi => absurd hi (by omega), fun i hi => absurd hi (by omega), fun i hi => absurd hi (by omega)⟩, by rw [e25]; rfl, by decide, by decide⟩, fun p _ => by rw [e28]; exact ⟨rfl, show 0 ≤ 20 by decide⟩, .inl (by rw [e25]; rfl), ⟨by rw [e25]; rfl, by rw [e25]; rfl, by decide, by decide, by decide, fun j h1 h2 => ?_⟩, ⟨by rw [e25]; rfl, by decide, fun i hi => absurd hi (by omega)⟩, QOK.z⟩
    · rw [e26]; rcases (show r = 0 ∨ r = 1 ∨ r = 2 by omega) with rfl | rfl | rfl <;> rfl
    · rw [e25]; rcases (show j = 2 ∨ j = 3 ∨ j = 4 ∨ j = 5 ∨ j = 6 by omega) with rfl | rfl | rfl | rfl | rfl <;> rfl
  exact e_vret C dX8_init_204 RT ⟨Nat.le_of_ble_eq_true rfl, Nat.le_of_ble_eq_true rfl⟩ (qv_ ⟨hr, hs_25⟩)
