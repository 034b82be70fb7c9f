theorem wb_tb (n : Nat) : (lN n).toBitVec = BitVec.ofNat 64 n := rfl
theorem wb_inj {a b : Int64} (h : a.toBitVec = b.toBitVec) : a = b := Int64.toBitVec_inj.mp h
theorem wb_c : ∀ k, k < 64 → ((nI k).toInt64 &&& 63) = lN k := by decide +kernel
theorem wb_sm : ∀ k, k < 64 → (BitVec.ofNat 64 k).smod 64 = BitVec.ofNat 64 k := by decide +kernel
theorem wb_lt2 {a b : Nat} (h : a < b) : 2 ^ a < 2 ^ b := Nat.pow_lt_pow_right (by decide) h
theorem wb_shl (n : Nat) {k : Nat} (hk : k < 64) : lN n <<< ((nI k).toInt64 &&& 63) = lN (n * 2 ^ k) := by
  rw [wb_c k hk]
  apply wb_inj
  rw [Int64.toBitVec_shiftLeft, wb_tb, wb_tb, wb_tb, wb_sm k hk]
  apply BitVec.eq_of_toNat_eq
  rw [BitVec.shiftLeft_eq', BitVec.toNat_shiftLeft, BitVec.toNat_ofNat, BitVec.toNat_ofNat, BitVec.toNat_ofNat, Nat.mod_eq_of_lt (show k < 2 ^ 64 by omega), Nat.shiftLeft_eq, Nat.mul_mod, Nat.mod_mod, ← Nat.mul_mod]
theorem wb_and {a b : Nat} (ha : a < 2 ^ 64) (hb : b < 2 ^ 64) : lN a &&& lN b = lN (a &&& b) := by
  apply wb_inj
  rw [Int64.toBitVec_and, wb_tb, wb_tb, wb_tb]
  apply BitVec.eq_of_toNat_eq
  rw [BitVec.toNat_and, BitVec.toNat_ofNat, BitVec.toNat_ofNat, BitVec.toNat_ofNat, Nat.mod_eq_of_lt ha, Nat.mod_eq_of_lt hb, Nat.mod_eq_of_lt (Nat.and_lt_two_pow _ hb)]
theorem wb_or {a b : Nat} (ha : a < 2 ^ 64) (hb : b < 2 ^ 64) : lN a ||| lN b = lN (a ||| b) := by
  apply wb_inj
  rw [Int64.toBitVec_or, wb_tb, wb_tb, wb_tb]
  apply BitVec.eq_of_toNat_eq
  rw [BitVec.toNat_or, BitVec.toNat_ofNat, BitVec.toNat_ofNat, BitVec.toNat_ofNat, Nat.mod_eq_of_lt ha, Nat.mod_eq_of_lt hb, Nat.mod_eq_of_lt (Nat.or_lt_two_pow ha hb)]
theorem wb_mask {n k : Nat} (hn : n < 2 ^ 64) (hk : k < 64) : lN n &&& lN (2 ^ k - 1) = lN (n % 2 ^ k) := by
  rw [wb_and hn (by have := wb_lt2 hk; omega), Nat.and_two_pow_sub_one_eq_mod]
theorem cmp_gt {x y : UInt64} (hx : Nn x) (hy : Nn y) (op : CmpOp) : 0 < Op.cmpValue (FP.dcmp x y) op ↔ fz y < fz x := by
  rw [hx.dcmp hy]
  rcases Nat.lt_trichotomy (fz x) (fz y) with h | h | h
  · rw [show compare (fz x : Int) (fz y : Int) = .lt from (FP.Core.compare_lt_iff _ _).mpr (by omega)]
    simp only [Op.cmpValue]
    exact ⟨fun h2 => absurd h2 (by decide), fun h2 => by omega⟩
  · rw [show compare (fz x : Int) (fz y : Int) = .eq from (FP.Core.compare_eq_iff _ _).mpr (by omega)]
    simp only [Op.cmpValue]
    exact ⟨fun h2 => absurd h2 (by decide), fun h2 => by omega⟩
  · rw [show compare (fz x : Int) (fz y : Int) = .gt from (FP.Core.compare_gt_iff _ _).mpr (by omega)]
    simp only [Op.cmpValue]
    exact ⟨fun _ => h, fun _ => by decide⟩
theorem cmp_ge {x y : UInt64} (hx : Nn x) (hy : Nn y) (op : CmpOp) : 0 ≤ Op.cmpValue (FP.dcmp x y) op ↔ fz y ≤ fz x := by
  rw [hx.dcmp hy]
  rcases Nat.lt_trichotomy (fz x) (fz y) with h | h | h
  · rw [show compare (fz x : Int) (fz y : Int) = .lt from (FP.Core.compare_lt_iff _ _).mpr (by omega)]
    simp only [Op.cmpValue]
    exact ⟨fun h2 => absurd h2 (by decide), fun h2 => by omega⟩
  · rw [show compare (fz x : Int) (fz y : Int) = .eq from (FP.Core.compare_eq_iff _ _).mpr (by omega)]
    simp only [Op.cmpValue]
    exact ⟨fun _ => by omega, fun _ => by decide⟩
  · rw [show compare (fz x : Int) (fz y : Int) = .gt from (FP.Core.compare_gt_iff _ _).mpr (by omega)]
    simp only [Op.cmpValue]
    exact ⟨fun _ => by omega, fun _ => by decide⟩
theorem cmp_lt {x y : UInt64} (hx : Nn x) (hy : Nn y) (op : CmpOp) : Op.cmpValue (FP.dcmp x y) op < 0 ↔ fz x < fz y := by
  have h := cmp_ge hx hy op
  constructor
  · intro h1
    rcases Nat.lt_or_ge (fz x) (fz y) with h2 | h2
    · exact h2
    · exact absurd (h.mpr h2) (Int32.not_le.mpr h1)
  · intro h1; exact Int32.not_le.mp (fun h2 => by have := h.mp h2; omega)
theorem cmp_eq {x y : UInt64} (hx : Nn x) (hy : Nn y) (op : CmpOp) : Op.cmpValue (FP.dcmp x y) op = 0 ↔ fz x = fz y := by
  rw [hx.dcmp hy]
  rcases Nat.lt_trichotomy (fz x) (fz y) with h | h | h
  · rw [show compare (fz x : Int) (fz y : Int) = .lt from (FP.Core.compare_lt_iff _ _).mpr (by omega)]
    simp only [Op.cmpValue]
    exact ⟨fun h2 => absurd h2 (by decide), fun h2 => by omega⟩
  · rw [show compare (fz x : Int) (fz y : Int) = .eq from (FP.Core.compare_eq_iff _ _).mpr (by omega)]
    simp only [Op.cmpValue]
    exact ⟨fun _ => h, fun _ => trivial⟩
  · rw [show compare (fz x : Int) (fz y : Int) = .gt from (FP.Core.compare_gt_iff _ _).mpr (by omega)]
    simp only [Op.cmpValue]
    exact ⟨fun h2 => absurd h2 (by decide), fun h2 => by omega⟩
theorem pw1 (a b : Nat) (h : b = a + 1) : 2 * 2 ^ a = 2 ^ b := by subst h; rw [Nat.pow_succ, Nat.mul_comm]
theorem fO2 : 2 * fO = 2 ^ 1075 := by unfold fO; exact pw1 1074 1075 rfl
theorem fd_def : (2 : Nat) ^ 1022 = fd := rfl
theorem fdO (m : Nat) : m * fd * (2 ^ 52 * fO) = m * fO * fO := by
  have h := fO_eq
  generalize (2 : Nat) ^ 52 = Q at h ⊢
  generalize fd = d at h ⊢
  have e : m * fO * fO = m * (Q * d) * fO := by rw [← h]
  rw [e]
  clear e h
  generalize fO = O
  ac_rfl
theorem fz_form {x : UInt64} (hx : Nn x) : ∃ c s, c < 2 ^ 53 ∧ fz x = c * 2 ^ s ∧ s ≤ 2045 ∧ (s = 0 ∨ 2 ^ 52 ≤ c) := by
  obtain ⟨c, q, h⟩ := hx
  have h1 := Nn.fits h
  have h9 : (FP.Core.b64.emax : Int) = 1023 := by decide
  have h8 := FP.Core.qmax_qmin FP.Core.b64
  refine ⟨c, (q - FP.Core.b64.qmin).toNat, h1.1, ?_, ?_, ?_⟩
  · unfold fz; rw [h]; rfl
  · have h2 := h1.2.2.1; omega
  · rcases h1.2.2.2 with h3 | h3
    · left; omega
    · right
      have : FP.Core.b64.tails = 2 ^ 52 := FP.Core.tails_b64
      omega
theorem dbl_ok {x : UInt64} (hx : Nn x) (h : fz x < 2 * fO) : Nn (FP.dmul x (4611686018427387904 : UInt64)) ∧ fz (FP.dmul x (4611686018427387904 : UInt64)) = 2 * fz x := by
  obtain ⟨c, s, h1, h2, h3, h4⟩ := fz_form hx
  have hs : s + 1 ≤ 2045 := by
    rcases h4 with h4 | h4
    · omega
    · refine Nat.le_of_not_lt (fun h5 => ?_)
      have h6 : 2 ^ 52 * 2 ^ 2045 ≤ c * 2 ^ s := Nat.mul_le_mul h4 (Nat.pow_le_pow_right (by decide) (by omega))
      have h7 : 2 * fO ≤ 2 ^ 52 * 2 ^ 2045 := by
        rw [fO2, ← Nat.pow_add]
        exact Nat.pow_le_pow_right (by decide) (by decide)
      omega
  have h5 := mul_eq hx two_ok.1 (m := c) (j := s + 1) h1 hs (by rw [two_ok.2, h2, fO_def, Nat.pow_succ]; generalize fO = O; generalize 2 ^ s = T; ac_rfl)
  refine ⟨h5.1, ?_⟩
  rw [h5.2, h2, Nat.pow_succ, Nat.mul_comm 2, Nat.mul_assoc]
theorem y_form {y : UInt64} (hy : Nn y) (h1 : fO ≤ fz y) (h2 : fz y < 2 * fO) : ∃ c, 2 ^ 52 ≤ c ∧ c < 2 ^ 53 ∧ fz y = c * fd := by
  obtain ⟨c, s, h3, h4, h5, h6⟩ := fz_form hy
  have hO : fO = 2 ^ 1074 := rfl
  have h2O := fO2
  have hs1 : 1022 ≤ s := by
    refine Nat.le_of_not_lt (fun h7 => ?_)
    have h8 : c * 2 ^ s < 2 ^ 53 * 2 ^ s := Nat.mul_lt_mul_of_pos_right h3 (Nat.two_pow_pos _)
    have h9 : (2 : Nat) ^ 53 * 2 ^ s ≤ 2 ^ 1074 := by rw [← Nat.pow_add]; exact Nat.pow_le_pow_right (by decide) (by omega)
    omega
  have hc : 2 ^ 52 ≤ c := by
    rcases h6 with h6 | h6
    · omega
    · exact h6
  have hs2 : s ≤ 1022 := by
    refine Nat.le_of_not_lt (fun h7 => ?_)
    have h8 : 2 ^ 52 * 2 ^ s ≤ c * 2 ^ s := Nat.mul_le_mul_right _ hc
    have h9 : (2 : Nat) ^ 1075 ≤ 2 ^ 52 * 2 ^ s := by rw [← Nat.pow_add]; exact Nat.pow_le_pow_right (by decide) (by omega)
    omega
  have hs : s = 1022 := by omega
  subst hs
  exact ⟨c, hc, h3, h4⟩
theorem d2l_ok {x : UInt64} {m : Nat} (hx : Nn x) (h : fz x = m * fO) (hm : m < 2 ^ 53) : FP.d2l x = lN m := by
  have h1 := FP.Core.toInt_zmag FP.Core.good_b64 (FP.Core.val64_fits x) hx.ne (lo := -2 ^ 63) (hi := 2 ^ 63 - 1) (by decide +kernel) (by decide +kernel) (by decide)
  have h2 : FP.d2l x = Int64.ofInt (FP.Core.toInt (-2 ^ 63) (2 ^ 63 - 1) (FP.Core.val64 x)) := rfl
  rw [h2, h1]
  have h3 : FP.Core.sgn (FP.Core.val64 x) = false := by obtain ⟨c, q, h9⟩ := hx; rw [h9]; rfl
  have h4 : FP.Core.zmag FP.Core.b64 (FP.Core.val64 x) / 2 ^ (-FP.Core.b64.qmin).toNat = m := by
    show fz x / _ = m
    rw [h, show (-FP.Core.b64.qmin).toNat = 1074 by rw [fp_qmin]; decide, fO_def]
    exact Nat.mul_div_cancel _ fO_pos
  rw [h3, h4]
  have h5 : FP.Core.signed false m = (m : Int) := rfl
  rw [h5, show max (-2 ^ 63 : Int) (min (2 ^ 63 - 1) (m : Int)) = (m : Int) by omega]
  rfl
theorem bits_val {v : UInt64} {k c : Nat} (hv : Nn v) (hk : k ≤ 1022) (h : fz v * 2 ^ k = c * fd) (h1 : 2 ^ 52 ≤ c) (h2 : c < 2 ^ 53) : v.toNat = (1023 - k) * 2 ^ 52 + (c - 2 ^ 52) := by
  have e1 := FP.Core.zmag_bits hv.ne
  have e2 : v.toNat < 2 ^ 63 := by
    obtain ⟨c9, q9, h9⟩ := hv
    have := FP.Core.sign_bits (a := v) (s := false) (Or.inl ⟨c9, q9, h9⟩)
    refine Nat.lt_of_not_le (fun h10 => ?_)
    exact absurd (this.mpr h10) (by decide)
  rw [Nat.mod_eq_of_lt e2] at e1
  have e3 : fz v = c * 2 ^ (1022 - k) := by
    have h4 : fz v * 2 ^ k = c * 2 ^ (1022 - k) * 2 ^ k := by rw [h, Nat.mul_assoc, ← Nat.pow_add]; unfold fd; congr 2; omega
    exact Nat.eq_of_mul_eq_mul_right (Nat.two_pow_pos _) h4
  have e4 : FP.Core.unitsOf FP.Core.b64 ((1023 - k) * 2 ^ 52 + (c - 2 ^ 52)) = c * 2 ^ (1022 - k) := by
    unfold FP.Core.unitsOf
    have ht : FP.Core.b64.tails = 2 ^ 52 := FP.Core.tails_b64
    rw [ht, if_neg (by omega)]
    have d1 : ((1023 - k) * 2 ^ 52 + (c - 2 ^ 52)) % 2 ^ 52 = c - 2 ^ 52 := by omega
    have d2 : ((1023 - k) * 2 ^ 52 + (c - 2 ^ 52)) / 2 ^ 52 = 1023 - k := by omega
    rw [d1, d2, show 2 ^ 52 + (c - 2 ^ 52) = c by omega, show 1023 - k - 1 = 1022 - k by omega]
  have e5 : FP.Core.unitsOf FP.Core.b64 v.toNat = FP.Core.unitsOf FP.Core.b64 ((1023 - k) * 2 ^ 52 + (c - 2 ^ 52)) := by rw [e4, ← e3]; exact e1.symm
  exact Nat.le_antisymm (FP.Core.unitsOf_le_iff.mp (Nat.le_of_eq e5)) (FP.Core.unitsOf_le_iff.mp (Nat.le_of_eq e5.symm))
/-- doubles whose bits are asked for -/
def Bq (v : UInt64) : Prop := Nn v ∧ fz v < 2 * fO ∧ (fz v = 0 ∨ 2 ^ 52 ≤ fz v)
theorem k_lt {v y : UInt64} {k : Nat} (h : fz y = fz v * 2 ^ k) (h1 : 2 ^ 52 ≤ fz v) (h2 : fz y < fO) : k < 1022 := by
  refine Nat.lt_of_not_le (fun h3 => ?_)
  have h4 : 2 ^ 52 * fd ≤ fz v * 2 ^ k := Nat.mul_le_mul h1 (show fd ≤ 2 ^ k from Nat.pow_le_pow_right (by decide) h3)
  have h5 := fO_eq
  omega
set_option maxHeartbeats 4000000 in
set_option maxRecDepth 100000 in
theorem k_bitsOf {sh : List Sh} {M : Mm} (v : UInt64) (hv : Bq v) : CT mX7_bitsOf [.double v] sh M (Pl (lN v.toNat) sh M) := by
  refine CT.mk (lv := [(0, .double v)]) rfl (by decide +kernel) (Nat.le_of_ble_eq_true rfl) ?_
  intro X C RT
  obtain ⟨v1, v2, v3⟩ := hv
  refine e_dload_n C dX7_bitsOf_0 rfl rfl ?_
  refine e_dconst0 C dX7_bitsOf_1 ?_
  refine e_dcmp C dX7_bitsOf_2 ?_
  refine e_if_gt (x := (Op.cmpValue (FP.dcmp v FP.dconst0) .g)) (tgt := 8) C dX7_bitsOf_3 (by decide) (fun h3 => ?_) (fun h3 => ?_)
  · refine e_dload_n C dX7_bitsOf_8 rfl rfl ?_
    refine e_dstore_n (lv2 := [(2, .double v), (0, .double v)]) C dX7_bitsOf_9 rfl (by decide) rfl ?_
    refine e_ldc2 (v := lN 1023) C dX7_bitsOf_10 kX7_286 ?_
    refine e_lstore (lv2 := [(4, .long (lN 1023)), (2, .double v), (0, .double v)]) C dX7_bitsOf_13 (by decide) rfl ?_
    have hv0 : 0 < fz v := by have h9 := (cmp_gt v1 zero_ok.1 _).mp h3; rw [show fz FP.dconst0 = 0 from zero_ok.2] at h9; exact h9
    have hv52 : 2 ^ 52 ≤ fz v := by rcases v3 with v3 | v3; omega; exact v3
    refine e_loc [2, 1, 0] rfl ?_
    have lp : ∀ (k : Nat) (y : UInt64), k ≤ 1022 → Nn y → fz y < 2 * fO → fz y = fz v * 2 ^ k → Wd X (0, 0) 15 [(0, .double v), (2, .double y), (4, .long (lN (1023 - k)))] [] sh M := by
      intro k
      induction hq_lp : 1022 - k using Nat.strongRecOn generalizing k with
      | ind k_lp ih_lp =>
        intro y hk y1 y2 y3
        have hd := dbl_ok y1 y2
        refine e_dload_n C dX7_bitsOf_15 rfl rfl ?_
        refine e_dconst1 C dX7_bitsOf_16 ?_
        refine e_dcmp C dX7_bitsOf_17 ?_
        refine e_if_ge (x := (Op.cmpValue (FP.dcmp y FP.dconst1) .g)) (tgt := 43) C dX7_bitsOf_18 (by decide) (fun h18 => ?_) (fun h18 => ?_)
        · have hO1 : fz FP.dconst1 ≤ fz y := (cmp_ge y1 one_ok.1 _).mp h18
          have hO2 := hO1
          rw [show fz FP.dconst1 = fO from one_ok.2] at hO2
          obtain ⟨c, c1, c2, c3⟩ := y_form y1 hO2 y2
          have hsb := sub_eq y1 one_ok.1 hO1 (m := c - 2 ^ 52) (j := 1022) (by omega) (by decide) (by rw [show fz FP.dconst1 = fO from one_ok.2, c3, fO_eq, Nat.sub_mul, fd_def])
          have hbg := mul_eq hsb.1 big_ok.1 (m := c - 2 ^ 52) (j := 1074) (by omega) (by decide) (by rw [hsb.2, big_ok.2, fO_def, fd_def]; exact fdO _)
          have hdl := d2l_ok hbg.1 hbg.2 (by omega)
          have hbv := bits_val v1 (k := k) (by omega) (by rw [← y3]; exact c3) c1 c2
          refine e_dload_n C dX7_bitsOf_43 rfl rfl ?_
          refine e_dconst1 C dX7_bitsOf_44 ?_
          refine e_dcmp C dX7_bitsOf_45 ?_
          refine e_if_ge (x := (Op.cmpValue (FP.dcmp y FP.dconst1) .g)) (tgt := 56) C dX7_bitsOf_46 (by decide) (fun h46 => ?_) (fun h46 => by exact absurd ((cmp_ge y1 one_ok.1 _).mpr hO1) h46)
          refine e_lload C dX7_bitsOf_56 rfl ?_
          refine e_bipush (v := (nI 52)) C dX7_bitsOf_58 (by decide) ?_
          refine e_lshl C dX7_bitsOf_60 ?_
          refine e_dload_n C dX7_bitsOf_61 rfl rfl ?_
          refine e_dconst1 C dX7_bitsOf_62 ?_
          refine e_dsub C dX7_bitsOf_63 hsb.1.n64 ?_
          refine e_ldc2d (v := 4841369599423283200) C dX7_bitsOf_64 kX7_290 ?_
          refine e_dmul C dX7_bitsOf_67 hbg.1.n64 ?_
          refine e_d2l C dX7_bitsOf_68 ?_
          refine e_ladd C dX7_bitsOf_69 ?_
          exact e_lret C dX7_bitsOf_70 RT ⟨Nat.zero_le _, Nat.zero_le _⟩ (pl_ (by rw [hdl, wb_shl _ (by decide), lN_add, hbv]))
        · refine e_lload C dX7_bitsOf_21 rfl ?_
          refine e_lconst (v := lN 1) C dX7_bitsOf_23 (by decide) ?_
          have hlt : fz y < fO := by have h9 : ¬ fO ≤ fz y := fun h => h18 ((cmp_ge y1 one_ok.1 _).mpr (by rw [show fz FP.dconst1 = fO from one_ok.2]; exact h)); omega
          have hk2 := k_lt y3 hv52 hlt
          refine e_lcmp_leN (tgt := 43) C dX7_bitsOf_24 dX7_bitsOf_25 (by omega) (by omega) (by decide) (fun h24 => by omega) (fun h24 => ?_)
          refine e_dload_n C dX7_bitsOf_28 rfl rfl ?_
          refine e_ldc2d (v := 4611686018427387904) C dX7_bitsOf_29 kX7_288 ?_
          refine e_dmul C dX7_bitsOf_32 hd.1.n64 ?_
          refine e_dstore_n (lv2 := [(2, .double (FP.dmul y (4611686018427387904 : UInt64))), (0, .double v), (4, .long (lN (1023 - k)))]) C dX7_bitsOf_33 rfl (by decide) rfl ?_
          refine e_lload C dX7_bitsOf_34 rfl ?_
          refine e_lconst (v := lN 1) C dX7_bitsOf_36 (by decide) ?_
          refine e_lsubN C dX7_bitsOf_37 (by omega) ?_
          refine e_topl (lN (1023 - (k + 1))) (congrArg lN (by omega)) ?_
          refine e_lstore (lv2 := [(4, .long (lN (1023 - (k + 1)))), (2, .double (FP.dmul y (4611686018427387904 : UInt64))), (0, .double v)]) C dX7_bitsOf_38 (by decide) rfl ?_
          refine e_goto (tgt := 15) C dX7_bitsOf_40 (by decide) ?_
          refine e_loc [2, 1, 0] rfl ?_
          exact ih_lp (1022 - (k + 1)) (by omega) (k + 1) rfl (FP.dmul y (4611686018427387904 : UInt64)) (by omega) hd.1 (by rw [hd.2]; omega) (by rw [hd.2, y3, Nat.pow_succ]; ac_rfl)
    exact lp 0 v (by omega) v1 v2 (by rw [Nat.pow_zero, Nat.mul_one])
  · refine e_lconst (v := lN 0) C dX7_bitsOf_6 (by decide) ?_
    exact e_lret C dX7_bitsOf_7 RT ⟨Nat.zero_le _, Nat.zero_le _⟩ (pl_ (by have h9 : ¬ fz FP.dconst0 < fz v := fun h => h3 ((cmp_gt v1 zero_ok.1 _).mpr h); rw [show fz FP.dconst0 = 0 from zero_ok.2] at h9; rw [fz_0 v1 (by omega)]; rfl))
