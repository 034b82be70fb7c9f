/-- all places; w: the rows before and now have changed places -/
def shF (w : Bool) : List Sh := [.inr (7, [4, 9, 10, 14, 17, 20, 21, 23, 27, 0, 0, 0]), .inr (4, [5, 6, 7, 8]), .inl (0, 3), .inl (0, 60), .inl (0, 8), .inl (0, 8), .inl (0, 8), .inr (2, [11, 12, 13, 0]), .inl (0, 36), .inl (0, 12), .inl (0, 512), .inr (5, [15, 16, 1, 0]), .inl (1, 60), .inl (1, 1200), .inr (1, [18, 19, 0]), .inl (0, 455), .inl (0, 455), .inr (6, [0, 0, 0, 0, 0, 0, 0]), .inr (3, [22, 0]), .inl (0, 60), .inr (0, [24, bif w then 26 else 25, bif w then 25 else 26]), .inl (2, 201), .inl (2, 201), .inl (2, 201), .inl (1, 8), .inr (8, [29, 30, 31, 0, 32, 33, 34, 35, 0, 0, 36, 37, 38, 39, 1, 0, 40, 41, 42, 0, 0, 0, 0, 0, 0, 0, 0, 43, 44, 45, 0, 46, 47, 48]), .inl (0, 3), .inl (0, 60), .inl (0, 8), .inl (0, 12), .inl (0, 12), .inl (0, 12), .inl (0, 12), .inl (0, 8), .inl (0, 8000), .inl (0, 512), .inl (0, 512), .inl (1, 60), .inl (1, 1200), .inl (0, 24), .inl (0, 600), .inl (0, 30001), .inl (0, 8000), .inl (2, 201), .inl (2, 201), .inl (2, 201)]
theorem nI_o : nI 1 = 1 := rfl
theorem nI_z : nI 0 = 0 := rfl
theorem bI_1 {b : Bool} (h : b = true) : nI 1 = bI b := by subst h; rfl
theorem bI_0 {b : Bool} (h : b = false) : nI 0 = bI b := by subst h; rfl
theorem pi_ {v r : Int32} {sh : List Sh} {M : Mm} (h : v = r) : Pi r sh M (some (.int v)) sh M := ⟨by rw [h], rfl, rfl⟩
theorem pl_ {v r : Int64} {sh : List Sh} {M : Mm} (h : v = r) : Pl r sh M (some (.long v)) sh M := ⟨by rw [h], rfl, rfl⟩
theorem pd_ {v r : UInt64} {sh : List Sh} {M : Mm} (h : v = r) : Pd r sh M (some (.double v)) sh M := ⟨by rw [h], rfl, rfl⟩
set_option maxHeartbeats 4000000 in
set_option maxRecDepth 100000 in
theorem k_within {sh : List Sh} {M : Mm} (v a b : Int32) : CT mX7_within [.int v, .int a, .int b] sh M (Pi (bI (decide (a ≤ v) && decide (v ≤ b))) sh M) := by
  refine CT.mk (lv := [(0, .int v), (1, .int a), (2, .int b)]) rfl (by decide +kernel) (Nat.le_of_ble_eq_true rfl) ?_
  intro X C RT
  refine e_iload_n C dX7_within_0 rfl rfl ?_
  refine e_iload_n C dX7_within_1 rfl rfl ?_
  refine e_icmp_gt (x := a) (y := v) (tgt := 14) C dX7_within_2 (by decide) (fun h2 => ?_) (fun h2 => ?_)
  · refine e_iconst (v := (nI 0)) C dX7_within_14 (by decide) ?_
    exact e_zret C dX7_within_15 RT (by decide) ⟨Nat.zero_le _, Nat.zero_le _⟩ (pi_ (bI_0 (by (try simp only [Bool.and_eq_true, Bool.and_eq_false_iff, Bool.or_eq_true, Bool.or_eq_false_iff, decide_eq_true_eq, decide_eq_false_iff_not, Int32.le_iff_toInt_le, Int32.lt_iff_toInt_lt, ← Int32.toInt_inj] at h2 ⊢); omega)))
  · refine e_iload_n C dX7_within_5 rfl rfl ?_
    refine e_iload_n C dX7_within_6 rfl rfl ?_
    refine e_icmp_gt (x := v) (y := b) (tgt := 14) C dX7_within_7 (by decide) (fun h7 => ?_) (fun h7 => ?_)
    · refine e_iconst (v := (nI 0)) C dX7_within_14 (by decide) ?_
      exact e_zret C dX7_within_15 RT (by decide) ⟨Nat.zero_le _, Nat.zero_le _⟩ (pi_ (bI_0 (by (try simp only [Bool.and_eq_true, Bool.and_eq_false_iff, Bool.or_eq_true, Bool.or_eq_false_iff, decide_eq_true_eq, decide_eq_false_iff_not, Int32.le_iff_toInt_le, Int32.lt_iff_toInt_lt, ← Int32.toInt_inj] at h2 h7 ⊢); omega)))
    · refine e_iconst (v := (nI 1)) C dX7_within_10 (by decide) ?_
      refine e_goto (tgt := 15) C dX7_within_11 (by decide) ?_
      exact e_zret C dX7_within_15 RT (by decide) ⟨Nat.zero_le _, Nat.zero_le _⟩ (pi_ (bI_1 (by (try simp only [Bool.and_eq_true, Bool.and_eq_false_iff, Bool.or_eq_true, Bool.or_eq_false_iff, decide_eq_true_eq, decide_eq_false_iff_not, Int32.le_iff_toInt_le, Int32.lt_iff_toInt_lt, ← Int32.toInt_inj] at h2 h7 ⊢); omega)))
set_option maxHeartbeats 4000000 in
set_option maxRecDepth 100000 in
theorem k_isReel {sh : List Sh} {M : Mm} (v : Int32) : CT mX7_isReel [.int v] sh M (Pi (bI (decide (0 ≤ v) && decide (v ≤ 2))) sh M) := by
  refine CT.mk (lv := [(0, .int v)]) rfl (by decide +kernel) (Nat.le_of_ble_eq_true rfl) ?_
  intro X C RT
  refine e_iload_n C dX7_isReel_0 rfl rfl ?_
  refine e_iconst (v := (nI 0)) C dX7_isReel_1 (by decide) ?_
  refine e_iconst (v := (nI 2)) C dX7_isReel_2 (by decide) ?_
  refine e_callSi C dX7_isReel_3 [.int v, .int (nI 0), .int (nI 2)] (k_within v (nI 0) (nI 2)) okX7_within lX7_81 rfl ⟨rfl, rfl⟩ ⟨Nat.le_of_ble_eq_true rfl, Nat.le_of_ble_eq_true rfl⟩ (Nat.le_of_ble_eq_true rfl) ⟨Nat.zero_le _, Nat.zero_le _⟩ ?_
  exact e_zret C dX7_isReel_6 RT (bI_nar _) ⟨Nat.zero_le _, Nat.zero_le _⟩ (pi_ rfl)
set_option maxHeartbeats 4000000 in
set_option maxRecDepth 100000 in
theorem k_isPicture {sh : List Sh} {M : Mm} (v : Int32) : CT mX7_isPicture [.int v] sh M (Pi (bI (decide (0 ≤ v) && decide (v ≤ 7))) sh M) := by
  refine CT.mk (lv := [(0, .int v)]) rfl (by decide +kernel) (Nat.le_of_ble_eq_true rfl) ?_
  intro X C RT
  refine e_iload_n C dX7_isPicture_0 rfl rfl ?_
  refine e_iconst (v := (nI 0)) C dX7_isPicture_1 (by decide) ?_
  refine e_bipush (v := (nI 7)) C dX7_isPicture_2 (by decide) ?_
  refine e_callSi C dX7_isPicture_4 [.int v, .int (nI 0), .int (nI 7)] (k_within v (nI 0) (nI 7)) okX7_within lX7_81 rfl ⟨rfl, rfl⟩ ⟨Nat.le_of_ble_eq_true rfl, Nat.le_of_ble_eq_true rfl⟩ (Nat.le_of_ble_eq_true rfl) ⟨Nat.zero_le _, Nat.zero_le _⟩ ?_
  exact e_zret C dX7_isPicture_7 RT (bI_nar _) ⟨Nat.zero_le _, Nat.zero_le _⟩ (pi_ rfl)
set_option maxHeartbeats 4000000 in
set_option maxRecDepth 100000 in
theorem k_isWanted {sh : List Sh} {M : Mm} (v : Int32) : CT mX7_isWanted [.int v] sh M (Pi (bI (decide (v = -1) || (decide (0 ≤ v) && decide (v ≤ 7)))) sh M) := by
  refine CT.mk (lv := [(0, .int v)]) rfl (by decide +kernel) (Nat.le_of_ble_eq_true rfl) ?_
  intro X C RT
  refine e_iload_n C dX7_isWanted_0 rfl rfl ?_
  refine e_iconst (v := (-1)) C dX7_isWanted_1 (by decide) ?_
  refine e_icmp_eq (x := v) (y := (-1)) (tgt := 12) C dX7_isWanted_2 (by decide) (fun h2 => ?_) (fun h2 => ?_)
  · refine e_iconst (v := (nI 1)) C dX7_isWanted_12 (by decide) ?_
    refine e_goto (tgt := 17) C dX7_isWanted_13 (by decide) ?_
    exact e_zret C dX7_isWanted_17 RT (by decide) ⟨Nat.zero_le _, Nat.zero_le _⟩ (pi_ (bI_1 (by (try simp only [Bool.and_eq_true, Bool.and_eq_false_iff, Bool.or_eq_true, Bool.or_eq_false_iff, decide_eq_true_eq, decide_eq_false_iff_not, Int32.le_iff_toInt_le, Int32.lt_iff_toInt_lt, ← Int32.toInt_inj] at h2 ⊢); omega)))
  · refine e_iload_n C dX7_isWanted_5 rfl rfl ?_
    refine e_callSi C dX7_isWanted_6 [.int v] (k_isPicture v) okX7_isPicture lX7_99 rfl ⟨rfl, rfl⟩ ⟨Nat.le_of_ble_eq_true rfl, Nat.le_of_ble_eq_true rfl⟩ (Nat.le_of_ble_eq_true rfl) ⟨Nat.zero_le _, Nat.zero_le _⟩ ?_
    refine e_if_eqB (b := decide (0 ≤ v) && decide (v ≤ 7)) (tgt := 16) C dX7_isWanted_9 (by decide) (fun h9 => ?_) (fun h9 => ?_)
    · refine e_iconst (v := (nI 0)) C dX7_isWanted_16 (by decide) ?_
      exact e_zret C dX7_isWanted_17 RT (by decide) ⟨Nat.zero_le _, Nat.zero_le _⟩ (pi_ (bI_0 (by (try simp only [Bool.and_eq_true, Bool.and_eq_false_iff, Bool.or_eq_true, Bool.or_eq_false_iff, decide_eq_true_eq, decide_eq_false_iff_not, Int32.le_iff_toInt_le, Int32.lt_iff_toInt_lt, ← Int32.toInt_inj] at h2 h9 ⊢); omega)))
    · refine e_iconst (v := (nI 1)) C dX7_isWanted_12 (by decide) ?_
      refine e_goto (tgt := 17) C dX7_isWanted_13 (by decide) ?_
      exact e_zret C dX7_isWanted_17 RT (by decide) ⟨Nat.zero_le _, Nat.zero_le _⟩ (pi_ (bI_1 (by (try simp only [Bool.and_eq_true, Bool.and_eq_false_iff, Bool.or_eq_true, Bool.or_eq_false_iff, decide_eq_true_eq, decide_eq_false_iff_not, Int32.le_iff_toInt_le, Int32.lt_iff_toInt_lt, ← Int32.toInt_inj] at h2 h9 ⊢); omega)))
set_option maxHeartbeats 4000000 in
set_option maxRecDepth 100000 in
theorem k_cut {sh : List Sh} {M : Mm} (a b : Nat) (ha : a < 2 ^ 63) (hb : b < 2 ^ 63) (h0 : 0 < b) : CT mX7_cut [.long (lN a), .long (lN b)] sh M (Pl (lN (a / b)) sh M) := by
  refine CT.mk (lv := [(0, .long (lN a)), (2, .long (lN b))]) rfl (by decide +kernel) (Nat.le_of_ble_eq_true rfl) ?_
  intro X C RT
  refine e_lload_n C dX7_cut_0 rfl rfl ?_
  refine e_lconst (v := lN 0) C dX7_cut_1 (by decide) ?_
  refine e_lcmp_leN (tgt := 12) C dX7_cut_2 dX7_cut_3 (by omega) (by omega) (by decide) (fun h2 => by omega) (fun h2 => ?_)
  refine e_lload_n C dX7_cut_6 rfl rfl ?_
  refine e_lload_n C dX7_cut_7 rfl rfl ?_
  refine e_ldivN C dX7_cut_8 (by omega) (by omega) (by omega) ?_
  refine e_goto (tgt := 13) C dX7_cut_9 (by decide) ?_
  exact e_lret C dX7_cut_13 RT ⟨Nat.zero_le _, Nat.zero_le _⟩ (pl_ rfl)
set_option maxHeartbeats 4000000 in
set_option maxRecDepth 100000 in
theorem k_lineOf {sh : List Sh} {M : Mm} (a b c : Nat) : CT mX7_lineOf [.int (nI a), .int (nI b), .int (nI c)] sh M (Pi (nI ((a * 8 + b) * 8 + c)) sh M) := by
  refine CT.mk (lv := [(0, .int (nI a)), (1, .int (nI b)), (2, .int (nI c))]) rfl (by decide +kernel) (Nat.le_of_ble_eq_true rfl) ?_
  intro X C RT
  refine e_iload_n C dX7_lineOf_0 rfl rfl ?_
  refine e_bipush (v := (nI 8)) C dX7_lineOf_1 (by decide) ?_
  refine e_imulN C dX7_lineOf_3 ?_
  refine e_iload_n C dX7_lineOf_4 rfl rfl ?_
  refine e_iaddN C dX7_lineOf_5 ?_
  refine e_bipush (v := (nI 8)) C dX7_lineOf_6 (by decide) ?_
  refine e_imulN C dX7_lineOf_8 ?_
  refine e_iload_n C dX7_lineOf_9 rfl rfl ?_
  refine e_iaddN C dX7_lineOf_10 ?_
  exact e_zret C dX7_lineOf_11 RT rfl ⟨Nat.zero_le _, Nat.zero_le _⟩ (pi_ rfl)
set_option maxHeartbeats 4000000 in
set_option maxRecDepth 100000 in
theorem k_fits {sh : List Sh} {M : Mm} (a b : Int32) : CT mX2_fits [.int a, .int b] sh M (Pi (bI (decide (a = -1) || decide (a = b))) sh M) := by
  refine CT.mk (lv := [(0, .int a), (1, .int b)]) rfl (by decide +kernel) (Nat.le_of_ble_eq_true rfl) ?_
  intro X C RT
  refine e_iload_n C dX2_fits_0 rfl rfl ?_
  refine e_iconst (v := (-1)) C dX2_fits_1 (by decide) ?_
  refine e_icmp_eq (x := a) (y := (-1)) (tgt := 10) C dX2_fits_2 (by decide) (fun h2 => ?_) (fun h2 => ?_)
  · refine e_iconst (v := (nI 1)) C dX2_fits_10 (by decide) ?_
    refine e_goto (tgt := 15) C dX2_fits_11 (by decide) ?_
    exact e_zret C dX2_fits_15 RT (by decide) ⟨Nat.zero_le _, Nat.zero_le _⟩ (pi_ (bI_1 (by (try simp only [Bool.and_eq_true, Bool.and_eq_false_iff, Bool.or_eq_true, Bool.or_eq_false_iff, decide_eq_true_eq, decide_eq_false_iff_not, Int32.le_iff_toInt_le, Int32.lt_iff_toInt_lt, ← Int32.toInt_inj] at h2 ⊢); omega)))
  · refine e_iload_n C dX2_fits_5 rfl rfl ?_
    refine e_iload_n C dX2_fits_6 rfl rfl ?_
    refine e_icmp_ne (x := a) (y := b) (tgt := 14) C dX2_fits_7 (by decide) (fun h7 => ?_) (fun h7 => ?_)
    · refine e_iconst (v := (nI 0)) C dX2_fits_14 (by decide) ?_
      exact e_zret C dX2_fits_15 RT (by decide) ⟨Nat.zero_le _, Nat.zero_le _⟩ (pi_ (bI_0 (by (try simp only [Bool.and_eq_true, Bool.and_eq_false_iff, Bool.or_eq_true, Bool.or_eq_false_iff, decide_eq_true_eq, decide_eq_false_iff_not, Int32.le_iff_toInt_le, Int32.lt_iff_toInt_lt, ← Int32.toInt_inj] at h2 h7 ⊢); omega)))
    · refine e_iconst (v := (nI 1)) C dX2_fits_10 (by decide) ?_
      refine e_goto (tgt := 15) C dX2_fits_11 (by decide) ?_
      exact e_zret C dX2_fits_15 RT (by decide) ⟨Nat.zero_le _, Nat.zero_le _⟩ (pi_ (bI_1 (by (try simp only [Bool.and_eq_true, Bool.and_eq_false_iff, Bool.or_eq_true, Bool.or_eq_false_iff, decide_eq_true_eq, decide_eq_false_iff_not, Int32.le_iff_toInt_le, Int32.lt_iff_toInt_lt, ← Int32.toInt_inj] at h2 h7 ⊢); omega)))
set_option maxHeartbeats 4000000 in
set_option maxRecDepth 100000 in
theorem k_oneAt {sh : List Sh} {M : Mm} (a b : Nat) : CT mX5_oneAt [.int (nI a), .int (nI b)] sh M (Pi (nI (a * 20 + b)) sh M) := by
  refine CT.mk (lv := [(0, .int (nI a)), (1, .int (nI b))]) rfl (by decide +kernel) (Nat.le_of_ble_eq_true rfl) ?_
  intro X C RT
  refine e_iload_n C dX5_oneAt_0 rfl rfl ?_
  refine e_bipush (v := (nI 20)) C dX5_oneAt_1 (by decide) ?_
  refine e_imulN C dX5_oneAt_3 ?_
  refine e_iload_n C dX5_oneAt_4 rfl rfl ?_
  refine e_iaddN C dX5_oneAt_5 ?_
  exact e_zret C dX5_oneAt_6 RT rfl ⟨Nat.zero_le _, Nat.zero_le _⟩ (pi_ rfl)
set_option maxHeartbeats 4000000 in
set_option maxRecDepth 100000 in
theorem k_twoAt {sh : List Sh} {M : Mm} (a b c : Nat) : CT mX5_twoAt [.int (nI a), .int (nI b), .int (nI c)] sh M (Pi (nI (a * 400 + b * 20 + c)) sh M) := by
  refine CT.mk (lv := [(0, .int (nI a)), (1, .int (nI b)), (2, .int (nI c))]) rfl (by decide +kernel) (Nat.le_of_ble_eq_true rfl) ?_
  intro X C RT
  refine e_iload_n C dX5_twoAt_0 rfl rfl ?_
  refine e_sipush (v := (nI 400)) C dX5_twoAt_1 (by decide) ?_
  refine e_imulN C dX5_twoAt_4 ?_
  refine e_iload_n C dX5_twoAt_5 rfl rfl ?_
  refine e_bipush (v := (nI 20)) C dX5_twoAt_6 (by decide) ?_
  refine e_imulN C dX5_twoAt_8 ?_
  refine e_iaddN C dX5_twoAt_9 ?_
  refine e_iload_n C dX5_twoAt_10 rfl rfl ?_
  refine e_iaddN C dX5_twoAt_11 ?_
  exact e_zret C dX5_twoAt_12 RT rfl ⟨Nat.zero_le _, Nat.zero_le _⟩ (pi_ rfl)
