set_option maxHeartbeats 4000000 in
set_option maxRecDepth 100000 in
theorem r_bitsOf {sh : List Sh} {M : Mm} (v : UInt64) (hv : Bq v) : CT mX8_bitsOf [.double v] sh M (Pl (lN v.toNat) sh M) := by
  refine CT.mk (lv := [(0, .double v)]) rfl (by decide +kernel) (Nat.le_of_ble_eq_true rfl) ?_
  intro X C RT
  obtain ⟨v1, v2, v3⟩ := hv
  refine e_dload_n C dX8_bitsOf_0 rfl rfl ?_
  refine e_dconst0 C dX8_bitsOf_1 ?_
  refine e_dcmp C dX8_bitsOf_2 ?_
  refine e_if_ne (x := (Op.cmpValue (FP.dcmp v FP.dconst0) .l)) (tgt := 8) C dX8_bitsOf_3 (by decide) (fun h3 => ?_) (fun h3 => ?_)
  · refine e_dload_n C dX8_bitsOf_8 rfl rfl ?_
    refine e_dstore_n (lv2 := [(2, .double v), (0, .double v)]) C dX8_bitsOf_9 rfl (by decide) rfl ?_
    refine e_ldc2 (v := lN 1023) C dX8_bitsOf_10 kX8_195 ?_
    refine e_lstore (lv2 := [(4, .long (lN 1023)), (2, .double v), (0, .double v)]) C dX8_bitsOf_13 (by decide) rfl ?_
    refine e_dload_n C dX8_bitsOf_15 rfl rfl ?_
    refine e_ldc2d (v := 4611686018427387904) C dX8_bitsOf_16 kX8_197 ?_
    refine e_dcmp C dX8_bitsOf_19 ?_
    refine e_if_lt (x := (Op.cmpValue (FP.dcmp v (4611686018427387904 : UInt64)) .l)) (tgt := 38) C dX8_bitsOf_20 (by decide) (fun h20 => ?_) (fun h20 => by exact absurd ((cmp_lt v1 two_ok.1 _).mpr (by rw [two_ok.2]; exact v2)) h20)
    have hv0 : 0 < fz v := by have h9 : ¬ fz v = 0 := fun h => h3 ((cmp_eq v1 zero_ok.1 _).mpr (h.trans (show fz FP.dconst0 = 0 from zero_ok.2).symm)); omega
    have hv52 : 2 ^ 52 ≤ fz v := by rcases v3 with v3 | v3; omega; exact v3
    refine e_loc [2, 1, 0] rfl ?_
    have lp : ∀ (k : Nat) (y : UInt64), k ≤ 1022 → Nn y → fz y < 2 * fO → fz y = fz v * 2 ^ k → Wd X (0, 0) 38 [(0, .double v), (2, .double y), (4, .long (lN (1023 - k)))] [] sh M := by
      intro k
      induction hq_lp : 1022 - k using Nat.strongRecOn generalizing k with
      | ind k_lp ih_lp =>
        intro y hk y1 y2 y3
        have hd := dbl_ok y1 y2
        refine e_dload_n C dX8_bitsOf_38 rfl rfl ?_
        refine e_dconst1 C dX8_bitsOf_39 ?_
        refine e_dcmp C dX8_bitsOf_40 ?_
        refine e_if_ge (x := (Op.cmpValue (FP.dcmp y FP.dconst1) .g)) (tgt := 59) C dX8_bitsOf_41 (by decide) (fun h41 => ?_) (fun h41 => ?_)
        · have hO2 : fz FP.dconst1 ≤ fz y := (cmp_ge y1 one_ok.1 _).mp h41
          rw [show fz FP.dconst1 = fO from one_ok.2] at hO2
          obtain ⟨c, c1, c2, c3⟩ := y_form y1 hO2 y2
          have hbg := mul_eq y1 big_ok.1 (m := c) (j := 1074) c2 (by decide) (by rw [c3, big_ok.2, fO_def]; exact fdO _)
          have hdl := d2l_ok hbg.1 hbg.2 c2
          have hbv := bits_val v1 (k := k) (by omega) (by rw [← y3]; exact c3) c1 c2
          refine e_dload_n C dX8_bitsOf_59 rfl rfl ?_
          refine e_ldc2d (v := 4841369599423283200) C dX8_bitsOf_60 kX8_201 ?_
          refine e_dmul C dX8_bitsOf_63 hbg.1.n64 ?_
          refine e_d2l C dX8_bitsOf_64 ?_
          refine e_lstore (lv2 := [(6, .long (FP.d2l (FP.dmul y (4841369599423283200 : UInt64)))), (0, .double v), (2, .double y), (4, .long (lN (1023 - k)))]) C dX8_bitsOf_65 (by decide) rfl ?_
          refine e_lload C dX8_bitsOf_67 rfl ?_
          refine e_bipush (v := (nI 52)) C dX8_bitsOf_69 (by decide) ?_
          refine e_lshl C dX8_bitsOf_71 ?_
          refine e_lload C dX8_bitsOf_72 rfl ?_
          refine e_ldc2 (v := lN 4503599627370495) C dX8_bitsOf_74 kX8_203 ?_
          refine e_land C dX8_bitsOf_77 ?_
          refine e_lor C dX8_bitsOf_78 ?_
          exact e_lret C dX8_bitsOf_79 RT ⟨Nat.zero_le _, Nat.zero_le _⟩ (pl_ (by rw [hdl, wb_shl _ (by decide), show (4503599627370495 : Nat) = 2 ^ 52 - 1 from rfl, wb_mask (by omega) (by decide), show c % 2 ^ 52 = c - 2 ^ 52 by omega, wb_or (by omega) (by omega), hbv, Nat.mul_comm (1023 - k) (2 ^ 52), Nat.two_pow_add_eq_or_of_lt (by omega)]))
        · have hlt : fz y < fO := by have h9 : ¬ fO ≤ fz y := fun h => h41 ((cmp_ge y1 one_ok.1 _).mpr (by rw [show fz FP.dconst1 = fO from one_ok.2]; exact h)); omega
          have hk2 := k_lt y3 hv52 hlt
          refine e_dload_n C dX8_bitsOf_44 rfl rfl ?_
          refine e_ldc2d (v := 4611686018427387904) C dX8_bitsOf_45 kX8_197 ?_
          refine e_dmul C dX8_bitsOf_48 hd.1.n64 ?_
          refine e_dstore_n (lv2 := [(2, .double (FP.dmul y (4611686018427387904 : UInt64))), (0, .double v), (4, .long (lN (1023 - k)))]) C dX8_bitsOf_49 rfl (by decide) rfl ?_
          refine e_lload C dX8_bitsOf_50 rfl ?_
          refine e_lconst (v := lN 1) C dX8_bitsOf_52 (by decide) ?_
          refine e_lsubN C dX8_bitsOf_53 (by omega) ?_
          refine e_topl (lN (1023 - (k + 1))) (congrArg lN (by omega)) ?_
          refine e_lstore (lv2 := [(4, .long (lN (1023 - (k + 1)))), (2, .double (FP.dmul y (4611686018427387904 : UInt64))), (0, .double v)]) C dX8_bitsOf_54 (by decide) rfl ?_
          refine e_goto (tgt := 38) C dX8_bitsOf_56 (by decide) ?_
          refine e_loc [2, 1, 0] rfl ?_
          exact ih_lp (1022 - (k + 1)) (by omega) (k + 1) rfl (FP.dmul y (4611686018427387904 : UInt64)) (by omega) hd.1 (by rw [hd.2]; omega) (by rw [hd.2, y3, Nat.pow_succ]; ac_rfl)
    exact lp 0 v (by omega) v1 v2 (by rw [Nat.pow_zero, Nat.mul_one])
  · refine e_lconst (v := lN 0) C dX8_bitsOf_6 (by decide) ?_
    exact e_lret C dX8_bitsOf_7 RT ⟨Nat.zero_le _, Nat.zero_le _⟩ (pl_ (by have h9 := (cmp_eq v1 zero_ok.1 _).mp h3; rw [show fz FP.dconst0 = 0 from zero_ok.2] at h9; rw [fz_0 v1 h9]; rfl))
