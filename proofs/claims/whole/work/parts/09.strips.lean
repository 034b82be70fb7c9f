theorem sI_self (M : Mm) (k : Nat) : sI M k (gI M k) = M := by
  unfold sI gI
  have h : va_up M.1 k (M.1 k) = M.1 := by funext j; unfold va_up; split <;> simp_all
  rw [h]
theorem sI_sI (M : Mm) (k : Nat) (f g : Nat → Int32) : sI (sI M k f) k g = sI M k g := by
  unfold sI
  have h : va_up (va_up M.1 k f) k g = va_up M.1 k g := by funext j; unfold va_up; split <;> rfl
  rw [h]
theorem sJ_self (M : Mm) (k : Nat) : sJ M k (gJ M k) = M := by
  unfold sJ gJ
  have h : va_up M.2.1 k (M.2.1 k) = M.2.1 := by funext j; unfold va_up; split <;> simp_all
  rw [h]
theorem sJ_sJ (M : Mm) (k : Nat) (f g : Nat → Int64) : sJ (sJ M k f) k g = sJ M k g := by
  unfold sJ
  have h : va_up (va_up M.2.1 k f) k g = va_up M.2.1 k g := by funext j; unfold va_up; split <;> rfl
  rw [h]
theorem sD_self (M : Mm) (k : Nat) : sD M k (gD M k) = M := by
  unfold sD gD
  have h : va_up M.2.2 k (M.2.2 k) = M.2.2 := by funext j; unfold va_up; split <;> simp_all
  rw [h]
theorem sD_sD (M : Mm) (k : Nat) (f g : Nat → UInt64) : sD (sD M k f) k g = sD M k g := by
  unfold sD
  have h : va_up (va_up M.2.2 k f) k g = va_up M.2.2 k g := by funext j; unfold va_up; split <;> rfl
  rw [h]
/-- the first i are v -/
def fillr {α : Type} (f : Nat → α) (i : Nat) (v : α) : Nat → α := fun j => if j < i then v else f j
theorem fillr_0 {α : Type} (f : Nat → α) (v : α) : fillr f 0 v = f := by funext j; simp [fillr]
theorem fillr_1 (f : Nat → Int32) (i : Nat) (v : Int32) : upd (fillr f i v) i v = fillr f (i + 1) v := by funext j; simp only [fillr, upd]; split <;> split <;> first | rfl | omega | (split <;> first | rfl | omega)
theorem fillr_1L (f : Nat → Int64) (i : Nat) (v : Int64) : vp_updL (fillr f i v) i v = fillr f (i + 1) v := by funext j; simp only [fillr, vp_updL]; split <;> split <;> first | rfl | omega | (split <;> first | rfl | omega)
theorem fillr_1D (f : Nat → UInt64) (i : Nat) (v : UInt64) : vf_upd (fillr f i v) i v = fillr f (i + 1) v := by funext j; simp only [fillr, vf_upd]; split <;> split <;> first | rfl | omega | (split <;> first | rfl | omega)
set_option maxHeartbeats 4000000 in
set_option maxRecDepth 100000 in
theorem k_fillI {sh : List Sh} {M : Mm} {a n : Nat} (v : Int32) (ha : sh[a]? = some (.inl (0, n))) (hn : n < 2 ^ 31) : CT mJ7_fill_53178 [.ref a, .int v] sh M (Pv sh (sI M a (fillr (gI M a) n v))) := by
  refine CT.mk (lv := [(0, .ref a), (1, .int v)]) rfl (by decide +kernel) (Nat.le_of_ble_eq_true rfl) ?_
  intro X C RT
  have lp : ∀ (i : Nat) , i ≤ n → Wd X (0, 0) 5 [(0, .ref a), (1, .int v), (2, .int (nI i)), (3, .int (nI n))] [] sh (sI M a (fillr (gI M a) i v)) := by
    intro i
    induction hq_lp : n - i using Nat.strongRecOn generalizing i with
    | ind k_lp ih_lp =>
      intro hi
      refine e_iload_n C dJ7_fill_53178_5 rfl rfl ?_
      refine e_iload_n C dJ7_fill_53178_6 rfl rfl ?_
      refine e_icmp_geN (tgt := 20) C dJ7_fill_53178_7 (by omega) (by omega) (by decide) (fun h7 => ?_) (fun h7 => ?_)
      · exact e_vret C dJ7_fill_53178_20 RT ⟨Nat.zero_le _, Nat.zero_le _⟩ (by have hi2 : i = n := (by omega); subst hi2; exact ⟨rfl, rfl, rfl⟩)
      · refine e_aload_n C dJ7_fill_53178_10 rfl rfl ?_
        refine e_iload_n C dJ7_fill_53178_11 rfl rfl ?_
        refine e_iload_n C dJ7_fill_53178_12 rfl rfl ?_
        refine e_iastoreN C dJ7_fill_53178_13 ha (by omega) (by omega) ?_
        refine e_iincN (lv2 := [(2, .int (nI (i + 1))), (0, .ref a), (1, .int v), (3, .int (nI n))]) C dJ7_fill_53178_14 rfl (by decide) (nI_1 _) rfl ?_
        refine e_goto (tgt := 5) C dJ7_fill_53178_17 (by decide) ?_
        refine e_mem (sI M a (fillr (gI M a) (i + 1) v)) (by rw [sI_sI, gI_sI, fillr_1]) ?_
        refine e_loc [1, 2, 0, 3] rfl ?_
        exact ih_lp (n - (i + 1)) (by omega) (i + 1) rfl (by omega)
  refine e_iconst (v := (nI 0)) C dJ7_fill_53178_0 (by decide) ?_
  refine e_istore_n (lv2 := [(2, .int (nI 0)), (0, .ref a), (1, .int v)]) C dJ7_fill_53178_1 rfl (by decide) rfl ?_
  refine e_aload_n C dJ7_fill_53178_2 rfl rfl ?_
  refine e_alen C dJ7_fill_53178_3 ha ?_
  refine e_istore_n (lv2 := [(3, .int (nI n)), (2, .int (nI 0)), (0, .ref a), (1, .int v)]) C dJ7_fill_53178_4 rfl (by decide) rfl ?_
  refine e_mem (sI M a (fillr (gI M a) 0 v)) (by rw [fillr_0, sI_self]) ?_
  refine e_loc [2, 3, 1, 0] rfl ?_
  exact lp 0 (Nat.zero_le _)
set_option maxHeartbeats 4000000 in
set_option maxRecDepth 100000 in
theorem k_fillJ {sh : List Sh} {M : Mm} {a n : Nat} (v : Int64) (ha : sh[a]? = some (.inl (1, n))) (hn : n < 2 ^ 31) : CT mJ7_fill_d0a16 [.ref a, .long v] sh M (Pv sh (sJ M a (fillr (gJ M a) n v))) := by
  refine CT.mk (lv := [(0, .ref a), (1, .long v)]) rfl (by decide +kernel) (Nat.le_of_ble_eq_true rfl) ?_
  intro X C RT
  have lp : ∀ (i : Nat) , i ≤ n → Wd X (0, 0) 6 [(0, .ref a), (1, .long v), (3, .int (nI i)), (4, .int (nI n))] [] sh (sJ M a (fillr (gJ M a) i v)) := by
    intro i
    induction hq_lp : n - i using Nat.strongRecOn generalizing i with
    | ind k_lp ih_lp =>
      intro hi
      refine e_iload_n C dJ7_fill_d0a16_6 rfl rfl ?_
      refine e_iload C dJ7_fill_d0a16_7 rfl ?_
      refine e_icmp_geN (tgt := 22) C dJ7_fill_d0a16_9 (by omega) (by omega) (by decide) (fun h9 => ?_) (fun h9 => ?_)
      · exact e_vret C dJ7_fill_d0a16_22 RT ⟨Nat.zero_le _, Nat.zero_le _⟩ (by have hi2 : i = n := (by omega); subst hi2; exact ⟨rfl, rfl, rfl⟩)
      · refine e_aload_n C dJ7_fill_d0a16_12 rfl rfl ?_
        refine e_iload_n C dJ7_fill_d0a16_13 rfl rfl ?_
        refine e_lload_n C dJ7_fill_d0a16_14 rfl rfl ?_
        refine e_lastoreN C dJ7_fill_d0a16_15 ha (by omega) (by omega) ?_
        refine e_iincN (lv2 := [(3, .int (nI (i + 1))), (0, .ref a), (1, .long v), (4, .int (nI n))]) C dJ7_fill_d0a16_16 rfl (by decide) (nI_1 _) rfl ?_
        refine e_goto (tgt := 6) C dJ7_fill_d0a16_19 (by decide) ?_
        refine e_mem (sJ M a (fillr (gJ M a) (i + 1) v)) (by rw [sJ_sJ, gJ_sJ, fillr_1L]) ?_
        refine e_loc [1, 2, 0, 3] rfl ?_
        exact ih_lp (n - (i + 1)) (by omega) (i + 1) rfl (by omega)
  refine e_iconst (v := (nI 0)) C dJ7_fill_d0a16_0 (by decide) ?_
  refine e_istore_n (lv2 := [(3, .int (nI 0)), (0, .ref a), (1, .long v)]) C dJ7_fill_d0a16_1 rfl (by decide) rfl ?_
  refine e_aload_n C dJ7_fill_d0a16_2 rfl rfl ?_
  refine e_alen C dJ7_fill_d0a16_3 ha ?_
  refine e_istore (lv2 := [(4, .int (nI n)), (3, .int (nI 0)), (0, .ref a), (1, .long v)]) C dJ7_fill_d0a16_4 (by decide) rfl ?_
  refine e_mem (sJ M a (fillr (gJ M a) 0 v)) (by rw [fillr_0, sJ_self]) ?_
  refine e_loc [2, 3, 1, 0] rfl ?_
  exact lp 0 (Nat.zero_le _)
set_option maxHeartbeats 4000000 in
set_option maxRecDepth 100000 in
theorem k_fillD {sh : List Sh} {M : Mm} {a n : Nat} (v : UInt64) (ha : sh[a]? = some (.inl (2, n))) (hn : n < 2 ^ 31) : CT mJ7_fill_7f8df [.ref a, .double v] sh M (Pv sh (sD M a (fillr (gD M a) n v))) := by
  refine CT.mk (lv := [(0, .ref a), (1, .double v)]) rfl (by decide +kernel) (Nat.le_of_ble_eq_true rfl) ?_
  intro X C RT
  have lp : ∀ (i : Nat) , i ≤ n → Wd X (0, 0) 6 [(0, .ref a), (1, .double v), (3, .int (nI i)), (4, .int (nI n))] [] sh (sD M a (fillr (gD M a) i v)) := by
    intro i
    induction hq_lp : n - i using Nat.strongRecOn generalizing i with
    | ind k_lp ih_lp =>
      intro hi
      refine e_iload_n C dJ7_fill_7f8df_6 rfl rfl ?_
      refine e_iload C dJ7_fill_7f8df_7 rfl ?_
      refine e_icmp_geN (tgt := 22) C dJ7_fill_7f8df_9 (by omega) (by omega) (by decide) (fun h9 => ?_) (fun h9 => ?_)
      · exact e_vret C dJ7_fill_7f8df_22 RT ⟨Nat.zero_le _, Nat.zero_le _⟩ (by have hi2 : i = n := (by omega); subst hi2; exact ⟨rfl, rfl, rfl⟩)
      · refine e_aload_n C dJ7_fill_7f8df_12 rfl rfl ?_
        refine e_iload_n C dJ7_fill_7f8df_13 rfl rfl ?_
        refine e_dload_n C dJ7_fill_7f8df_14 rfl rfl ?_
        refine e_dastoreN C dJ7_fill_7f8df_15 ha (by omega) (by omega) ?_
        refine e_iincN (lv2 := [(3, .int (nI (i + 1))), (0, .ref a), (1, .double v), (4, .int (nI n))]) C dJ7_fill_7f8df_16 rfl (by decide) (nI_1 _) rfl ?_
        refine e_goto (tgt := 6) C dJ7_fill_7f8df_19 (by decide) ?_
        refine e_mem (sD M a (fillr (gD M a) (i + 1) v)) (by rw [sD_sD, gD_sD, fillr_1D]) ?_
        refine e_loc [1, 2, 0, 3] rfl ?_
        exact ih_lp (n - (i + 1)) (by omega) (i + 1) rfl (by omega)
  refine e_iconst (v := (nI 0)) C dJ7_fill_7f8df_0 (by decide) ?_
  refine e_istore_n (lv2 := [(3, .int (nI 0)), (0, .ref a), (1, .double v)]) C dJ7_fill_7f8df_1 rfl (by decide) rfl ?_
  refine e_aload_n C dJ7_fill_7f8df_2 rfl rfl ?_
  refine e_alen C dJ7_fill_7f8df_3 ha ?_
  refine e_istore (lv2 := [(4, .int (nI n)), (3, .int (nI 0)), (0, .ref a), (1, .double v)]) C dJ7_fill_7f8df_4 (by decide) rfl ?_
  refine e_mem (sD M a (fillr (gD M a) 0 v)) (by rw [fillr_0, sD_self]) ?_
  refine e_loc [2, 3, 1, 0] rfl ?_
  exact lp 0 (Nat.zero_le _)
set_option maxHeartbeats 4000000 in
set_option maxRecDepth 100000 in
theorem k_stopsOf {w : Bool} {M : Mm} {n P : Nat → Nat} (hS : StOK M n P) (r : Nat) (hr : r < 3) : CT mX4_stopsOf [.ref 1, .int (nI r)] (shF w) M (Pi (nI (n r)) (shF w) M) := by
  refine CT.mk (lv := [(0, .ref 1), (1, .int (nI r))]) rfl (by decide +kernel) (Nat.le_of_ble_eq_true rfl) ?_
  intro X C RT
  obtain ⟨hn, hn20, hP, hP8, hpr⟩ := hS
  refine e_aload_n C dX4_stopsOf_0 rfl rfl ?_
  refine e_getR (q := 2) C dX4_stopsOf_1 fX4_9 rfl rfl ?_
  refine e_iload_n C dX4_stopsOf_4 rfl rfl ?_
  refine e_ialoadN C dX4_stopsOf_5 rfl (by omega) (by omega) ?_
  refine e_topi (nI (n r)) (hn r (by omega)) ?_
  exact e_zret C dX4_stopsOf_6 RT rfl ⟨Nat.zero_le _, Nat.zero_le _⟩ (pi_ rfl)
set_option maxHeartbeats 4000000 in
set_option maxRecDepth 100000 in
theorem k_endings {w : Bool} {M : Mm} {n P : Nat → Nat} (hS : StOK M n P)  : CT mX4_endings [.ref 1] (shF w) M (Pi (nI (prd n 7 3)) (shF w) M) := by
  refine CT.mk (lv := [(0, .ref 1)]) rfl (by decide +kernel) (Nat.le_of_ble_eq_true rfl) ?_
  intro X C RT
  obtain ⟨hn, hn20, hP, hP8, hpr⟩ := hS
  refine e_aload_n C dX4_endings_0 rfl rfl ?_
  refine e_getR (q := 5) C dX4_endings_1 fX4_21 rfl rfl ?_
  refine e_bipush (v := (nI 7)) C dX4_endings_4 (by decide) ?_
  refine e_ialoadN C dX4_endings_6 rfl (by omega) (by omega) ?_
  refine e_topi (nI (prd n 7 3)) (hpr 7 (by omega)) ?_
  exact e_zret C dX4_endings_7 RT rfl ⟨Nat.zero_le _, Nat.zero_le _⟩ (pi_ rfl)
set_option maxHeartbeats 4000000 in
set_option maxRecDepth 100000 in
theorem k_stopsHeld {w : Bool} {M : Mm} {n P : Nat → Nat} (hS : StOK M n P) (h : Nat) (hh : h < 8) : CT mX4_stopsHeld [.ref 1, .int (nI h)] (shF w) M (Pi (nI (prd n h 3)) (shF w) M) := by
  refine CT.mk (lv := [(0, .ref 1), (1, .int (nI h))]) rfl (by decide +kernel) (Nat.le_of_ble_eq_true rfl) ?_
  intro X C RT
  obtain ⟨hn, hn20, hP, hP8, hpr⟩ := hS
  refine e_aload_n C dX4_stopsHeld_0 rfl rfl ?_
  refine e_getR (q := 5) C dX4_stopsHeld_1 fX4_21 rfl rfl ?_
  refine e_iload_n C dX4_stopsHeld_4 rfl rfl ?_
  refine e_ialoadN C dX4_stopsHeld_5 rfl (by omega) (by omega) ?_
  refine e_topi (nI (prd n h 3)) (hpr h (by omega)) ?_
  exact e_zret C dX4_stopsHeld_6 RT rfl ⟨Nat.zero_le _, Nat.zero_le _⟩ (pi_ rfl)
set_option maxHeartbeats 4000000 in
set_option maxRecDepth 100000 in
theorem k_shown {w : Bool} {M : Mm} {n P : Nat → Nat} (hS : StOK M n P) (r s : Nat) (hr : r < 3) (hs : s < 20) : CT mX4_shown [.ref 1, .int (nI r), .int (nI s)] (shF w) M (Pi (nI (P (r * 20 + s))) (shF w) M) := by
  refine CT.mk (lv := [(0, .ref 1), (1, .int (nI r)), (2, .int (nI s))]) rfl (by decide +kernel) (Nat.le_of_ble_eq_true rfl) ?_
  intro X C RT
  obtain ⟨hn, hn20, hP, hP8, hpr⟩ := hS
  refine e_aload_n C dX4_shown_0 rfl rfl ?_
  refine e_getR (q := 3) C dX4_shown_1 fX4_15 rfl rfl ?_
  refine e_iload_n C dX4_shown_4 rfl rfl ?_
  refine e_bipush (v := (nI 20)) C dX4_shown_5 (by decide) ?_
  refine e_imulN C dX4_shown_7 ?_
  refine e_iload_n C dX4_shown_8 rfl rfl ?_
  refine e_iaddN C dX4_shown_9 ?_
  refine e_ialoadN C dX4_shown_10 rfl (by omega) (by omega) ?_
  refine e_topi (nI (P (r * 20 + s))) (hP (r * 20 + s) (by omega)) ?_
  exact e_zret C dX4_shown_11 RT rfl ⟨Nat.zero_le _, Nat.zero_le _⟩ (pi_ rfl)
set_option maxHeartbeats 4000000 in
set_option maxRecDepth 100000 in
theorem k_put {w : Bool} {M : Mm} (r s p : Nat) (hr : r < 3) (hs : s < 20) : CT mX4_put [.ref 1, .int (nI r), .int (nI s), .int (nI p)] (shF w) M (Pv (shF w) (sI M 3 (upd (gI M 3) (r * 20 + s) (nI p)))) := by
  refine CT.mk (lv := [(0, .ref 1), (1, .int (nI r)), (2, .int (nI s)), (3, .int (nI p))]) rfl (by decide +kernel) (Nat.le_of_ble_eq_true rfl) ?_
  intro X C RT
  refine e_aload_n C dX4_put_0 rfl rfl ?_
  refine e_getR (q := 3) C dX4_put_1 fX4_15 rfl rfl ?_
  refine e_iload_n C dX4_put_4 rfl rfl ?_
  refine e_bipush (v := (nI 20)) C dX4_put_5 (by decide) ?_
  refine e_imulN C dX4_put_7 ?_
  refine e_iload_n C dX4_put_8 rfl rfl ?_
  refine e_iaddN C dX4_put_9 ?_
  refine e_iload_n C dX4_put_10 rfl rfl ?_
  refine e_iastoreN C dX4_put_11 rfl (by omega) (by omega) ?_
  exact e_vret C dX4_put_12 RT ⟨Nat.zero_le _, Nat.zero_le _⟩ (⟨rfl, rfl, rfl⟩)
set_option maxHeartbeats 4000000 in
set_option maxRecDepth 100000 in
theorem k_above {w : Bool} {M : Mm} {n P : Nat → Nat} (hS : StOK M n P) (r s : Nat) (hr : r < 3) (hs : s < n r) : CT mX4_above [.ref 1, .int (nI r), .int (nI s)] (shF w) M (Pi (nI (abv (n r) s)) (shF w) M) := by
  refine CT.mk (lv := [(0, .ref 1), (1, .int (nI r)), (2, .int (nI s))]) rfl (by decide +kernel) (Nat.le_of_ble_eq_true rfl) ?_
  intro X C RT
  obtain ⟨hn, hn20, hP, hP8, hpr⟩ := hS
  have hnr := hn20 r hr
  refine e_iload_n C dX4_above_0 rfl rfl ?_
  refine e_if_neN (tgt := 15) C dX4_above_1 (by omega) (by decide) (fun h1 => ?_) (fun h1 => ?_)
  · refine e_iload_n C dX4_above_15 rfl rfl ?_
    refine e_iconst (v := (nI 1)) C dX4_above_16 (by decide) ?_
    refine e_isubN C dX4_above_17 (by omega) ?_
    exact e_zret C dX4_above_18 RT rfl ⟨Nat.zero_le _, Nat.zero_le _⟩ (pi_ (congrArg nI (by unfold abv; split <;> omega)))
  · refine e_aload_n C dX4_above_4 rfl rfl ?_
    refine e_getR (q := 2) C dX4_above_5 fX4_9 rfl rfl ?_
    refine e_iload_n C dX4_above_8 rfl rfl ?_
    refine e_ialoadN C dX4_above_9 rfl (by omega) (by omega) ?_
    refine e_topi (nI (n r)) (hn r (by omega)) ?_
    refine e_iconst (v := (nI 1)) C dX4_above_10 (by decide) ?_
    refine e_isubN C dX4_above_11 (by omega) ?_
    refine e_goto (tgt := 18) C dX4_above_12 (by decide) ?_
    exact e_zret C dX4_above_18 RT rfl ⟨Nat.zero_le _, Nat.zero_le _⟩ (pi_ (congrArg nI (by unfold abv; split <;> omega)))
set_option maxHeartbeats 4000000 in
set_option maxRecDepth 100000 in
theorem k_below {w : Bool} {M : Mm} {n P : Nat → Nat} (hS : StOK M n P) (r s : Nat) (hr : r < 3) (hs : s < n r) : CT mX4_below [.ref 1, .int (nI r), .int (nI s)] (shF w) M (Pi (nI (blw (n r) s)) (shF w) M) := by
  refine CT.mk (lv := [(0, .ref 1), (1, .int (nI r)), (2, .int (nI s))]) rfl (by decide +kernel) (Nat.le_of_ble_eq_true rfl) ?_
  intro X C RT
  obtain ⟨hn, hn20, hP, hP8, hpr⟩ := hS
  have hnr := hn20 r hr
  refine e_iload_n C dX4_below_0 rfl rfl ?_
  refine e_aload_n C dX4_below_1 rfl rfl ?_
  refine e_getR (q := 2) C dX4_below_2 fX4_9 rfl rfl ?_
  refine e_iload_n C dX4_below_5 rfl rfl ?_
  refine e_ialoadN C dX4_below_6 rfl (by omega) (by omega) ?_
  refine e_topi (nI (n r)) (hn r (by omega)) ?_
  refine e_iconst (v := (nI 1)) C dX4_below_7 (by decide) ?_
  refine e_isubN C dX4_below_8 (by omega) ?_
  refine e_icmp_neN (tgt := 16) C dX4_below_9 (by omega) (by omega) (by decide) (fun h9 => ?_) (fun h9 => ?_)
  · refine e_iload_n C dX4_below_16 rfl rfl ?_
    refine e_iconst (v := (nI 1)) C dX4_below_17 (by decide) ?_
    refine e_iaddN C dX4_below_18 ?_
    exact e_zret C dX4_below_19 RT rfl ⟨Nat.zero_le _, Nat.zero_le _⟩ (pi_ (congrArg nI (by unfold blw; split <;> omega)))
  · refine e_iconst (v := (nI 0)) C dX4_below_12 (by decide) ?_
    refine e_goto (tgt := 19) C dX4_below_13 (by decide) ?_
    exact e_zret C dX4_below_19 RT rfl ⟨Nat.zero_le _, Nat.zero_le _⟩ (pi_ (congrArg nI (by unfold blw; split <;> omega)))
set_option maxHeartbeats 4000000 in
set_option maxRecDepth 100000 in
theorem k_hasStop {w : Bool} {M : Mm} {n P : Nat → Nat} (hS : StOK M n P) (r s : Int32) : CT mX4_hasStop [.ref 1, .int r, .int s] (shF w) M (Pi (bI (hasSt n r s)) (shF w) M) := by
  refine CT.mk (lv := [(0, .ref 1), (1, .int r), (2, .int s)]) rfl (by decide +kernel) (Nat.le_of_ble_eq_true rfl) ?_
  intro X C RT
  obtain ⟨hn, hn20, hP, hP8, hpr⟩ := hS
  refine e_iload_n C dX4_hasStop_0 rfl rfl ?_
  refine e_callSi C dX4_hasStop_1 [.int r] (k_isReel r) okX7_isReel lX4_33 rfl ⟨rfl, rfl⟩ ⟨Nat.le_of_ble_eq_true rfl, Nat.le_of_ble_eq_true rfl⟩ (Nat.le_of_ble_eq_true rfl) ⟨Nat.zero_le _, Nat.zero_le _⟩ ?_
  refine e_if_eqB (b := decide (0 ≤ r) && decide (r ≤ 2)) (tgt := 27) C dX4_hasStop_4 (by decide) (fun h4 => ?_) (fun h4 => ?_)
  · refine e_iconst (v := (nI 0)) C dX4_hasStop_27 (by decide) ?_
    exact e_zret C dX4_hasStop_28 RT (by decide) ⟨Nat.zero_le _, Nat.zero_le _⟩ (pi_ (bI_0 (by simp only [Bool.and_eq_true, Bool.and_eq_false_iff, Bool.or_eq_true, Bool.or_eq_false_iff, decide_eq_true_eq, decide_eq_false_iff_not, Int32.le_iff_toInt_le, Int32.lt_iff_toInt_lt, ← Int32.toInt_inj] at h4; have h43 : (2 : Int32).toInt = 2 := rfl; have h44 : (0 : Int32).toInt = 0 := rfl; simp only [hasSt, Bool.and_eq_true, Bool.and_eq_false_iff, Bool.or_eq_true, Bool.or_eq_false_iff, decide_eq_true_eq, decide_eq_false_iff_not, Int32.le_iff_toInt_le, Int32.lt_iff_toInt_lt, ← Int32.toInt_inj]; omega)))
  · obtain ⟨h41, h42⟩ : 0 ≤ r.toInt ∧ r.toInt < 3 := by
      simp only [Bool.and_eq_true, Bool.and_eq_false_iff, Bool.or_eq_true, Bool.or_eq_false_iff, decide_eq_true_eq, decide_eq_false_iff_not, Int32.le_iff_toInt_le, Int32.lt_iff_toInt_lt, ← Int32.toInt_inj] at h4
      have h43 : (2 : Int32).toInt = 2 := rfl
      have h44 : (0 : Int32).toInt = 0 := rfl
      omega
    obtain ⟨j, hj, hrj⟩ : ∃ j : Nat, j < 3 ∧ r = nI j := ⟨r.toInt.toNat, by omega, nI_of3 h41⟩
    have hjr : r.toInt.toNat = j := by rw [hrj, nI_toInt (by omega)]; simp
    have hnj := hn20 j hj
    have hlv : ∀ st, Wd X (0, 0) 7 [(0, .ref 1), (1, .int (nI j)), (2, .int s)] st (shF w) M → Wd X (0, 0) 7 [(0, .ref 1), (1, .int r), (2, .int s)] st (shF w) M := fun st hh => by rw [hrj]; exact hh
    refine hlv _ ?_
    refine e_iload_n C dX4_hasStop_7 rfl rfl ?_
    refine e_iconst (v := (nI 0)) C dX4_hasStop_8 (by decide) ?_
    refine e_aload_n C dX4_hasStop_9 rfl rfl ?_
    refine e_getR (q := 2) C dX4_hasStop_10 fX4_9 rfl rfl ?_
    refine e_iload_n C dX4_hasStop_13 rfl rfl ?_
    refine e_ialoadN C dX4_hasStop_14 rfl (by omega) (by omega) ?_
    refine e_topi (nI (n j)) (hn j (by omega)) ?_
    refine e_iconst (v := (nI 1)) C dX4_hasStop_15 (by decide) ?_
    refine e_isubN C dX4_hasStop_16 (by omega) ?_
    refine e_callSi C dX4_hasStop_17 [.int s, .int (nI 0), .int (nI ((n j) - 1))] (k_within s (nI 0) (nI ((n j) - 1))) okX7_within lX4_37 rfl ⟨rfl, rfl⟩ ⟨Nat.le_of_ble_eq_true rfl, Nat.le_of_ble_eq_true rfl⟩ (Nat.le_of_ble_eq_true rfl) ⟨Nat.zero_le _, Nat.zero_le _⟩ ?_
    refine e_if_eqB (b := decide ((nI 0) ≤ s) && decide (s ≤ (nI ((n j) - 1)))) (tgt := 27) C dX4_hasStop_20 (by decide) (fun h20 => ?_) (fun h20 => ?_)
    · refine e_iconst (v := (nI 0)) C dX4_hasStop_27 (by decide) ?_
      exact e_zret C dX4_hasStop_28 RT (by decide) ⟨Nat.zero_le _, Nat.zero_le _⟩ (pi_ (bI_0 (by simp only [Bool.and_eq_true, Bool.and_eq_false_iff, Bool.or_eq_true, Bool.or_eq_false_iff, decide_eq_true_eq, decide_eq_false_iff_not, Int32.le_iff_toInt_le, Int32.lt_iff_toInt_lt, ← Int32.toInt_inj] at h20; have h45 : (nI 0).toInt = 0 := rfl; have h46 := nI_toInt (n := n j - 1) (by omega); simp only [hasSt, hjr, Bool.and_eq_true, Bool.and_eq_false_iff, Bool.or_eq_true, Bool.or_eq_false_iff, decide_eq_true_eq, decide_eq_false_iff_not, Int32.le_iff_toInt_le, Int32.lt_iff_toInt_lt, ← Int32.toInt_inj]; omega)))
    · refine e_iconst (v := (nI 1)) C dX4_hasStop_23 (by decide) ?_
      refine e_goto (tgt := 28) C dX4_hasStop_24 (by decide) ?_
      exact e_zret C dX4_hasStop_28 RT (by decide) ⟨Nat.zero_le _, Nat.zero_le _⟩ (pi_ (bI_1 (by simp only [Bool.and_eq_true, Bool.and_eq_false_iff, Bool.or_eq_true, Bool.or_eq_false_iff, decide_eq_true_eq, decide_eq_false_iff_not, Int32.le_iff_toInt_le, Int32.lt_iff_toInt_lt, ← Int32.toInt_inj] at h20; have h45 : (nI 0).toInt = 0 := rfl; have h46 := nI_toInt (n := n j - 1) (by omega); simp only [hasSt, hjr, Bool.and_eq_true, Bool.and_eq_false_iff, Bool.or_eq_true, Bool.or_eq_false_iff, decide_eq_true_eq, decide_eq_false_iff_not, Int32.le_iff_toInt_le, Int32.lt_iff_toInt_lt, ← Int32.toInt_inj]; omega)))
set_option maxHeartbeats 4000000 in
set_option maxRecDepth 100000 in
theorem k_hasEnding {w : Bool} {M : Mm} {n P : Nat → Nat} (hS : StOK M n P) (a b c : Int32) : CT mX4_hasEnding [.ref 1, .int a, .int b, .int c] (shF w) M (Pi (bI (hasEnd n a b c)) (shF w) M) := by
  refine CT.mk (lv := [(0, .ref 1), (1, .int a), (2, .int b), (3, .int c)]) rfl (by decide +kernel) (Nat.le_of_ble_eq_true rfl) ?_
  intro X C RT
  refine e_aload_n C dX4_hasEnding_0 rfl rfl ?_
  refine e_iconst (v := (nI 0)) C dX4_hasEnding_1 (by decide) ?_
  refine e_iload_n C dX4_hasEnding_2 rfl rfl ?_
  refine e_callVi C dX4_hasEnding_3 [.int (nI 0), .int a] (k_hasStop hS (nI 0) a) okX4_hasStop lX4_41 rfl rfl rfl ⟨rfl, rfl⟩ ⟨Nat.le_of_ble_eq_true rfl, Nat.le_of_ble_eq_true rfl⟩ (Nat.le_of_ble_eq_true rfl) ⟨Nat.zero_le _, Nat.zero_le _⟩ ?_
  refine e_if_eqB (b := hasSt n (nI 0) a) (tgt := 31) C dX4_hasEnding_6 (by decide) (fun h6 => ?_) (fun h6 => ?_)
  · refine e_iconst (v := (nI 0)) C dX4_hasEnding_31 (by decide) ?_
    exact e_zret C dX4_hasEnding_32 RT (by decide) ⟨Nat.zero_le _, Nat.zero_le _⟩ (pi_ (bI_0 (by simp only [hasSt, Bool.and_eq_true, Bool.and_eq_false_iff, Bool.or_eq_true, Bool.or_eq_false_iff, decide_eq_true_eq, decide_eq_false_iff_not, Int32.le_iff_toInt_le, Int32.lt_iff_toInt_lt, ← Int32.toInt_inj] at h6; have e0 : (nI 0).toInt = 0 := rfl; have e1 : (nI 1).toInt = 1 := rfl; have e2 : (nI 2).toInt = 2 := rfl; have f0 : (0 : Int).toNat = 0 := rfl; have f1 : (1 : Int).toNat = 1 := rfl; have f2 : (2 : Int).toNat = 2 := rfl; simp only [e0, e1, e2, f0, f1, f2] at h6; simp only [hasEnd, Bool.and_eq_true, Bool.and_eq_false_iff, Bool.or_eq_true, Bool.or_eq_false_iff, decide_eq_true_eq, decide_eq_false_iff_not, Int32.le_iff_toInt_le, Int32.lt_iff_toInt_lt, ← Int32.toInt_inj]; omega)))
  · refine e_aload_n C dX4_hasEnding_9 rfl rfl ?_
    refine e_iconst (v := (nI 1)) C dX4_hasEnding_10 (by decide) ?_
    refine e_iload_n C dX4_hasEnding_11 rfl rfl ?_
    refine e_callVi C dX4_hasEnding_12 [.int (nI 1), .int b] (k_hasStop hS (nI 1) b) okX4_hasStop lX4_41 rfl rfl rfl ⟨rfl, rfl⟩ ⟨Nat.le_of_ble_eq_true rfl, Nat.le_of_ble_eq_true rfl⟩ (Nat.le_of_ble_eq_true rfl) ⟨Nat.zero_le _, Nat.zero_le _⟩ ?_
    refine e_if_eqB (b := hasSt n (nI 1) b) (tgt := 31) C dX4_hasEnding_15 (by decide) (fun h15 => ?_) (fun h15 => ?_)
    · refine e_iconst (v := (nI 0)) C dX4_hasEnding_31 (by decide) ?_
      exact e_zret C dX4_hasEnding_32 RT (by decide) ⟨Nat.zero_le _, Nat.zero_le _⟩ (pi_ (bI_0 (by simp only [hasSt, Bool.and_eq_true, Bool.and_eq_false_iff, Bool.or_eq_true, Bool.or_eq_false_iff, decide_eq_true_eq, decide_eq_false_iff_not, Int32.le_iff_toInt_le, Int32.lt_iff_toInt_lt, ← Int32.toInt_inj] at h6 h15; have e0 : (nI 0).toInt = 0 := rfl; have e1 : (nI 1).toInt = 1 := rfl; have e2 : (nI 2).toInt = 2 := rfl; have f0 : (0 : Int).toNat = 0 := rfl; have f1 : (1 : Int).toNat = 1 := rfl; have f2 : (2 : Int).toNat = 2 := rfl; simp only [e0, e1, e2, f0, f1, f2] at h6 h15; simp only [hasEnd, Bool.and_eq_true, Bool.and_eq_false_iff, Bool.or_eq_true, Bool.or_eq_false_iff, decide_eq_true_eq, decide_eq_false_iff_not, Int32.le_iff_toInt_le, Int32.lt_iff_toInt_lt, ← Int32.toInt_inj]; omega)))
    · refine e_aload_n C dX4_hasEnding_18 rfl rfl ?_
      refine e_iconst (v := (nI 2)) C dX4_hasEnding_19 (by decide) ?_
      refine e_iload_n C dX4_hasEnding_20 rfl rfl ?_
      refine e_callVi C dX4_hasEnding_21 [.int (nI 2), .int c] (k_hasStop hS (nI 2) c) okX4_hasStop lX4_41 rfl rfl rfl ⟨rfl, rfl⟩ ⟨Nat.le_of_ble_eq_true rfl, Nat.le_of_ble_eq_true rfl⟩ (Nat.le_of_ble_eq_true rfl) ⟨Nat.zero_le _, Nat.zero_le _⟩ ?_
      refine e_if_eqB (b := hasSt n (nI 2) c) (tgt := 31) C dX4_hasEnding_24 (by decide) (fun h24 => ?_) (fun h24 => ?_)
      · refine e_iconst (v := (nI 0)) C dX4_hasEnding_31 (by decide) ?_
        exact e_zret C dX4_hasEnding_32 RT (by decide) ⟨Nat.zero_le _, Nat.zero_le _⟩ (pi_ (bI_0 (by simp only [hasSt, Bool.and_eq_true, Bool.and_eq_false_iff, Bool.or_eq_true, Bool.or_eq_false_iff, decide_eq_true_eq, decide_eq_false_iff_not, Int32.le_iff_toInt_le, Int32.lt_iff_toInt_lt, ← Int32.toInt_inj] at h6 h15 h24; have e0 : (nI 0).toInt = 0 := rfl; have e1 : (nI 1).toInt = 1 := rfl; have e2 : (nI 2).toInt = 2 := rfl; have f0 : (0 : Int).toNat = 0 := rfl; have f1 : (1 : Int).toNat = 1 := rfl; have f2 : (2 : Int).toNat = 2 := rfl; simp only [e0, e1, e2, f0, f1, f2] at h6 h15 h24; simp only [hasEnd, Bool.and_eq_true, Bool.and_eq_false_iff, Bool.or_eq_true, Bool.or_eq_false_iff, decide_eq_true_eq, decide_eq_false_iff_not, Int32.le_iff_toInt_le, Int32.lt_iff_toInt_lt, ← Int32.toInt_inj]; omega)))
      · refine e_iconst (v := (nI 1)) C dX4_hasEnding_27 (by decide) ?_
        refine e_goto (tgt := 32) C dX4_hasEnding_28 (by decide) ?_
        exact e_zret C dX4_hasEnding_32 RT (by decide) ⟨Nat.zero_le _, Nat.zero_le _⟩ (pi_ (bI_1 (by simp only [hasSt, Bool.and_eq_true, Bool.and_eq_false_iff, Bool.or_eq_true, Bool.or_eq_false_iff, decide_eq_true_eq, decide_eq_false_iff_not, Int32.le_iff_toInt_le, Int32.lt_iff_toInt_lt, ← Int32.toInt_inj] at h6 h15 h24; have e0 : (nI 0).toInt = 0 := rfl; have e1 : (nI 1).toInt = 1 := rfl; have e2 : (nI 2).toInt = 2 := rfl; have f0 : (0 : Int).toNat = 0 := rfl; have f1 : (1 : Int).toNat = 1 := rfl; have f2 : (2 : Int).toNat = 2 := rfl; simp only [e0, e1, e2, f0, f1, f2] at h6 h15 h24; simp only [hasEnd, Bool.and_eq_true, Bool.and_eq_false_iff, Bool.or_eq_true, Bool.or_eq_false_iff, decide_eq_true_eq, decide_eq_false_iff_not, Int32.le_iff_toInt_le, Int32.lt_iff_toInt_lt, ← Int32.toInt_inj]; omega)))
set_option maxHeartbeats 4000000 in
set_option maxRecDepth 100000 in
theorem k_middles {w : Bool} {M : Mm} {n P : Nat → Nat} (hS : StOK M n P) (r p : Nat) (hr : r < 3) (hp : p < 8) : CT mX4_middles [.ref 1, .int (nI r), .int (nI p)] (shF w) M (Pi (nI (cntb (fun s => decide (P (r * 20 + s) = p)) (n r))) (shF w) M) := by
  refine CT.mk (lv := [(0, .ref 1), (1, .int (nI r)), (2, .int (nI p))]) rfl (by decide +kernel) (Nat.le_of_ble_eq_true rfl) ?_
  intro X C RT
  obtain ⟨hn, hn20, hP, hP8, hpr⟩ := id hS
  have hnr := hn20 r hr
  have lp : ∀ (i : Nat) (c : Nat), i ≤ n r → c = cntb (fun s => decide (P (r * 20 + s) = p)) i → Wd X (0, 0) 5 [(0, .ref 1), (1, .int (nI r)), (2, .int (nI p)), (3, .int (nI c)), (4, .int (nI i))] [] (shF w) M := by
    intro i
    induction hq_lp : n r - i using Nat.strongRecOn generalizing i with
    | ind k_lp ih_lp =>
      intro c hi hc
      refine e_iload C dX4_middles_5 rfl ?_
      refine e_aload_n C dX4_middles_7 rfl rfl ?_
      refine e_getR (q := 2) C dX4_middles_8 fX4_9 rfl rfl ?_
      refine e_iload_n C dX4_middles_11 rfl rfl ?_
      refine e_ialoadN C dX4_middles_12 rfl (by omega) (by omega) ?_
      refine e_topi (nI (n r)) (hn r (by omega)) ?_
      refine e_icmp_geN (tgt := 36) C dX4_middles_13 (by omega) (by omega) (by decide) (fun h13 => ?_) (fun h13 => ?_)
      · refine e_iload_n C dX4_middles_36 rfl rfl ?_
        exact e_zret C dX4_middles_37 RT rfl ⟨Nat.zero_le _, Nat.zero_le _⟩ (pi_ (congrArg nI (by rw [hc]; congr 1; omega)))
      · refine e_aload_n C dX4_middles_16 rfl rfl ?_
        refine e_iload_n C dX4_middles_17 rfl rfl ?_
        refine e_iload C dX4_middles_18 rfl ?_
        have hb1 := hS.2.2.2.1 (r * 20 + i)
        refine e_callVi C dX4_middles_20 [.int (nI r), .int (nI i)] (k_shown hS r i (by omega) (by omega)) okX4_shown lX4_57 rfl rfl rfl ⟨rfl, rfl⟩ ⟨Nat.le_of_ble_eq_true rfl, Nat.le_of_ble_eq_true rfl⟩ (Nat.le_of_ble_eq_true rfl) ⟨Nat.zero_le _, Nat.zero_le _⟩ ?_
        refine e_iload_n C dX4_middles_23 rfl rfl ?_
        refine e_icmp_neN (tgt := 30) C dX4_middles_24 (by omega) (by omega) (by decide) (fun h24 => ?_) (fun h24 => ?_)
        · refine e_iincN (lv2 := [(4, .int (nI (i + 1))), (0, .ref 1), (1, .int (nI r)), (2, .int (nI p)), (3, .int (nI c))]) C dX4_middles_30 rfl (by decide) (nI_1 _) rfl ?_
          refine e_goto (tgt := 5) C dX4_middles_33 (by decide) ?_
          refine e_loc [1, 2, 3, 4, 0] rfl ?_
          exact ih_lp (n r - (i + 1)) (by omega) (i + 1) rfl c (by omega) (by simp only [cntb]; rw [← hc]; simp [h24])
        · refine e_iincN (lv2 := [(3, .int (nI (c + 1))), (0, .ref 1), (1, .int (nI r)), (2, .int (nI p)), (4, .int (nI i))]) C dX4_middles_27 rfl (by decide) (nI_1 _) rfl ?_
          refine e_iincN (lv2 := [(4, .int (nI (i + 1))), (3, .int (nI (c + 1))), (0, .ref 1), (1, .int (nI r)), (2, .int (nI p))]) C dX4_middles_30 rfl (by decide) (nI_1 _) rfl ?_
          refine e_goto (tgt := 5) C dX4_middles_33 (by decide) ?_
          refine e_loc [2, 3, 4, 1, 0] rfl ?_
          exact ih_lp (n r - (i + 1)) (by omega) (i + 1) rfl (c + 1) (by omega) (by simp only [cntb]; rw [← hc]; simp [h24])
  refine e_iconst (v := (nI 0)) C dX4_middles_0 (by decide) ?_
  refine e_istore_n (lv2 := [(3, .int (nI 0)), (0, .ref 1), (1, .int (nI r)), (2, .int (nI p))]) C dX4_middles_1 rfl (by decide) rfl ?_
  refine e_iconst (v := (nI 0)) C dX4_middles_2 (by decide) ?_
  refine e_istore (lv2 := [(4, .int (nI 0)), (3, .int (nI 0)), (0, .ref 1), (1, .int (nI r)), (2, .int (nI p))]) C dX4_middles_3 (by decide) rfl ?_
  refine e_loc [2, 3, 4, 1, 0] rfl ?_
  exact lp 0 0 (Nat.zero_le _) rfl
def bes (n P : Nat → Nat) (r p s : Nat) : Bool := (decide (P (r * 20 + abv (n r) s) = p) || decide (P (r * 20 + blw (n r) s) = p)) && !decide (P (r * 20 + s) = p)
set_option maxHeartbeats 4000000 in
set_option maxRecDepth 100000 in
theorem k_besides {w : Bool} {M : Mm} {n P : Nat → Nat} (hS : StOK M n P) (r p : Nat) (hr : r < 3) (hp : p < 8) : CT mX4_besides [.ref 1, .int (nI r), .int (nI p)] (shF w) M (Pi (nI (cntb (fun s => bes n P r p s) (n r))) (shF w) M) := by
  refine CT.mk (lv := [(0, .ref 1), (1, .int (nI r)), (2, .int (nI p))]) rfl (by decide +kernel) (Nat.le_of_ble_eq_true rfl) ?_
  intro X C RT
  obtain ⟨hn, hn20, hP, hP8, hpr⟩ := id hS
  have hnr := hn20 r hr
  have lp : ∀ (i : Nat) (c : Nat), i ≤ n r → c = cntb (fun s => bes n P r p s) i → Wd X (0, 0) 5 [(0, .ref 1), (1, .int (nI r)), (2, .int (nI p)), (3, .int (nI c)), (4, .int (nI i))] [] (shF w) M := by
    intro i
    induction hq_lp : n r - i using Nat.strongRecOn generalizing i with
    | ind k_lp ih_lp =>
      intro c hi hc
      refine e_iload C dX4_besides_5 rfl ?_
      refine e_aload_n C dX4_besides_7 rfl rfl ?_
      refine e_getR (q := 2) C dX4_besides_8 fX4_9 rfl rfl ?_
      refine e_iload_n C dX4_besides_11 rfl rfl ?_
      refine e_ialoadN C dX4_besides_12 rfl (by omega) (by omega) ?_
      refine e_topi (nI (n r)) (hn r (by omega)) ?_
      refine e_icmp_geN (tgt := 80) C dX4_besides_13 (by omega) (by omega) (by decide) (fun h13 => ?_) (fun h13 => ?_)
      · refine e_iload_n C dX4_besides_80 rfl rfl ?_
        exact e_zret C dX4_besides_81 RT rfl ⟨Nat.zero_le _, Nat.zero_le _⟩ (pi_ (congrArg nI (by rw [hc]; congr 1; omega)))
      · refine e_aload_n C dX4_besides_16 rfl rfl ?_
        refine e_iload_n C dX4_besides_17 rfl rfl ?_
        refine e_aload_n C dX4_besides_18 rfl rfl ?_
        refine e_iload_n C dX4_besides_19 rfl rfl ?_
        refine e_iload C dX4_besides_20 rfl ?_
        have ha1 := abv_lt (n := n r) (s := i) (by omega)
        refine e_callVi C dX4_besides_22 [.int (nI r), .int (nI i)] (k_above hS r i (by omega) (by omega)) okX4_above lX4_61 rfl rfl rfl ⟨rfl, rfl⟩ ⟨Nat.le_of_ble_eq_true rfl, Nat.le_of_ble_eq_true rfl⟩ (Nat.le_of_ble_eq_true rfl) ⟨Nat.zero_le _, Nat.zero_le _⟩ ?_
        have hb2 := hS.2.2.2.1 (r * 20 + (abv (n r) i))
        refine e_callVi C dX4_besides_25 [.int (nI r), .int (nI (abv (n r) i))] (k_shown hS r (abv (n r) i) (by omega) (by omega)) okX4_shown lX4_57 rfl rfl rfl ⟨rfl, rfl⟩ ⟨Nat.le_of_ble_eq_true rfl, Nat.le_of_ble_eq_true rfl⟩ (Nat.le_of_ble_eq_true rfl) ⟨Nat.zero_le _, Nat.zero_le _⟩ ?_
        refine e_iload_n C dX4_besides_28 rfl rfl ?_
        refine e_icmp_eqN (tgt := 48) C dX4_besides_29 (by omega) (by omega) (by decide) (fun h29 => ?_) (fun h29 => ?_)
        · refine e_iconst (v := (nI 1)) C dX4_besides_48 (by decide) ?_
          refine e_goto (tgt := 53) C dX4_besides_49 (by decide) ?_
          refine e_istore (lv2 := [(5, .int (nI 1)), (0, .ref 1), (1, .int (nI r)), (2, .int (nI p)), (3, .int (nI c)), (4, .int (nI i))]) C dX4_besides_53 (by decide) rfl ?_
          refine e_iload C dX4_besides_55 rfl ?_
          refine e_if_eqN (tgt := 74) C dX4_besides_57 (by omega) (by decide) (fun h57 => by omega) (fun h57 => ?_)
          refine e_aload_n C dX4_besides_60 rfl rfl ?_
          refine e_iload_n C dX4_besides_61 rfl rfl ?_
          refine e_iload C dX4_besides_62 rfl ?_
          have hb3 := hS.2.2.2.1 (r * 20 + i)
          refine e_callVi C dX4_besides_64 [.int (nI r), .int (nI i)] (k_shown hS r i (by omega) (by omega)) okX4_shown lX4_57 rfl rfl rfl ⟨rfl, rfl⟩ ⟨Nat.le_of_ble_eq_true rfl, Nat.le_of_ble_eq_true rfl⟩ (Nat.le_of_ble_eq_true rfl) ⟨Nat.zero_le _, Nat.zero_le _⟩ ?_
          refine e_iload_n C dX4_besides_67 rfl rfl ?_
          refine e_icmp_eqN (tgt := 74) C dX4_besides_68 (by omega) (by omega) (by decide) (fun h68 => ?_) (fun h68 => ?_)
          · refine e_iincN (lv2 := [(4, .int (nI (i + 1))), (5, .int (nI 1)), (0, .ref 1), (1, .int (nI r)), (2, .int (nI p)), (3, .int (nI c))]) C dX4_besides_74 rfl (by decide) (nI_1 _) rfl ?_
            refine e_goto (tgt := 5) C dX4_besides_77 (by decide) ?_
            refine e_loc [2, 3, 4, 5, 0] rfl ?_
            exact ih_lp (n r - (i + 1)) (by omega) (i + 1) rfl c (by omega) (by simp only [cntb]; rw [← hc]; simp [bes, h29, h68])
          · refine e_iincN (lv2 := [(3, .int (nI (c + 1))), (5, .int (nI 1)), (0, .ref 1), (1, .int (nI r)), (2, .int (nI p)), (4, .int (nI i))]) C dX4_besides_71 rfl (by decide) (nI_1 _) rfl ?_
            refine e_iincN (lv2 := [(4, .int (nI (i + 1))), (3, .int (nI (c + 1))), (5, .int (nI 1)), (0, .ref 1), (1, .int (nI r)), (2, .int (nI p))]) C dX4_besides_74 rfl (by decide) (nI_1 _) rfl ?_
            refine e_goto (tgt := 5) C dX4_besides_77 (by decide) ?_
            refine e_loc [3, 4, 5, 1, 0] rfl ?_
            exact ih_lp (n r - (i + 1)) (by omega) (i + 1) rfl (c + 1) (by omega) (by simp only [cntb]; rw [← hc]; simp [bes, h29, h68])
        · refine e_aload_n C dX4_besides_32 rfl rfl ?_
          refine e_iload_n C dX4_besides_33 rfl rfl ?_
          refine e_aload_n C dX4_besides_34 rfl rfl ?_
          refine e_iload_n C dX4_besides_35 rfl rfl ?_
          refine e_iload C dX4_besides_36 rfl ?_
          have ha4 := blw_lt (n := n r) (s := i) (by omega)
          refine e_callVi C dX4_besides_38 [.int (nI r), .int (nI i)] (k_below hS r i (by omega) (by omega)) okX4_below lX4_64 rfl rfl rfl ⟨rfl, rfl⟩ ⟨Nat.le_of_ble_eq_true rfl, Nat.le_of_ble_eq_true rfl⟩ (Nat.le_of_ble_eq_true rfl) ⟨Nat.zero_le _, Nat.zero_le _⟩ ?_
          have hb5 := hS.2.2.2.1 (r * 20 + (blw (n r) i))
          refine e_callVi C dX4_besides_41 [.int (nI r), .int (nI (blw (n r) i))] (k_shown hS r (blw (n r) i) (by omega) (by omega)) okX4_shown lX4_57 rfl rfl rfl ⟨rfl, rfl⟩ ⟨Nat.le_of_ble_eq_true rfl, Nat.le_of_ble_eq_true rfl⟩ (Nat.le_of_ble_eq_true rfl) ⟨Nat.zero_le _, Nat.zero_le _⟩ ?_
          refine e_iload_n C dX4_besides_44 rfl rfl ?_
          refine e_icmp_neN (tgt := 52) C dX4_besides_45 (by omega) (by omega) (by decide) (fun h45 => ?_) (fun h45 => ?_)
          · refine e_iconst (v := (nI 0)) C dX4_besides_52 (by decide) ?_
            refine e_istore (lv2 := [(5, .int (nI 0)), (0, .ref 1), (1, .int (nI r)), (2, .int (nI p)), (3, .int (nI c)), (4, .int (nI i))]) C dX4_besides_53 (by decide) rfl ?_
            refine e_iload C dX4_besides_55 rfl ?_
            refine e_if_eqN (tgt := 74) C dX4_besides_57 (by omega) (by decide) (fun h57 => ?_) (fun h57 => by omega)
            refine e_iincN (lv2 := [(4, .int (nI (i + 1))), (5, .int (nI 0)), (0, .ref 1), (1, .int (nI r)), (2, .int (nI p)), (3, .int (nI c))]) C dX4_besides_74 rfl (by decide) (nI_1 _) rfl ?_
            refine e_goto (tgt := 5) C dX4_besides_77 (by decide) ?_
            refine e_loc [2, 3, 4, 5, 0] rfl ?_
            exact ih_lp (n r - (i + 1)) (by omega) (i + 1) rfl c (by omega) (by simp only [cntb]; rw [← hc]; simp [bes, h29, h45])
          · refine e_iconst (v := (nI 1)) C dX4_besides_48 (by decide) ?_
            refine e_goto (tgt := 53) C dX4_besides_49 (by decide) ?_
            refine e_istore (lv2 := [(5, .int (nI 1)), (0, .ref 1), (1, .int (nI r)), (2, .int (nI p)), (3, .int (nI c)), (4, .int (nI i))]) C dX4_besides_53 (by decide) rfl ?_
            refine e_iload C dX4_besides_55 rfl ?_
            refine e_if_eqN (tgt := 74) C dX4_besides_57 (by omega) (by decide) (fun h57 => by omega) (fun h57 => ?_)
            refine e_aload_n C dX4_besides_60 rfl rfl ?_
            refine e_iload_n C dX4_besides_61 rfl rfl ?_
            refine e_iload C dX4_besides_62 rfl ?_
            have hb6 := hS.2.2.2.1 (r * 20 + i)
            refine e_callVi C dX4_besides_64 [.int (nI r), .int (nI i)] (k_shown hS r i (by omega) (by omega)) okX4_shown lX4_57 rfl rfl rfl ⟨rfl, rfl⟩ ⟨Nat.le_of_ble_eq_true rfl, Nat.le_of_ble_eq_true rfl⟩ (Nat.le_of_ble_eq_true rfl) ⟨Nat.zero_le _, Nat.zero_le _⟩ ?_
            refine e_iload_n C dX4_besides_67 rfl rfl ?_
            refine e_icmp_eqN (tgt := 74) C dX4_besides_68 (by omega) (by omega) (by decide) (fun h68 => ?_) (fun h68 => ?_)
            · refine e_iincN (lv2 := [(4, .int (nI (i + 1))), (5, .int (nI 1)), (0, .ref 1), (1, .int (nI r)), (2, .int (nI p)), (3, .int (nI c))]) C dX4_besides_74 rfl (by decide) (nI_1 _) rfl ?_
              refine e_goto (tgt := 5) C dX4_besides_77 (by decide) ?_
              refine e_loc [2, 3, 4, 5, 0] rfl ?_
              exact ih_lp (n r - (i + 1)) (by omega) (i + 1) rfl c (by omega) (by simp only [cntb]; rw [← hc]; simp [bes, h29, h45, h68])
            · refine e_iincN (lv2 := [(3, .int (nI (c + 1))), (5, .int (nI 1)), (0, .ref 1), (1, .int (nI r)), (2, .int (nI p)), (4, .int (nI i))]) C dX4_besides_71 rfl (by decide) (nI_1 _) rfl ?_
              refine e_iincN (lv2 := [(4, .int (nI (i + 1))), (3, .int (nI (c + 1))), (5, .int (nI 1)), (0, .ref 1), (1, .int (nI r)), (2, .int (nI p))]) C dX4_besides_74 rfl (by decide) (nI_1 _) rfl ?_
              refine e_goto (tgt := 5) C dX4_besides_77 (by decide) ?_
              refine e_loc [3, 4, 5, 1, 0] rfl ?_
              exact ih_lp (n r - (i + 1)) (by omega) (i + 1) rfl (c + 1) (by omega) (by simp only [cntb]; rw [← hc]; simp [bes, h29, h45, h68])
  refine e_iconst (v := (nI 0)) C dX4_besides_0 (by decide) ?_
  refine e_istore_n (lv2 := [(3, .int (nI 0)), (0, .ref 1), (1, .int (nI r)), (2, .int (nI p))]) C dX4_besides_1 rfl (by decide) rfl ?_
  refine e_iconst (v := (nI 0)) C dX4_besides_2 (by decide) ?_
  refine e_istore (lv2 := [(4, .int (nI 0)), (3, .int (nI 0)), (0, .ref 1), (1, .int (nI r)), (2, .int (nI p))]) C dX4_besides_3 (by decide) rfl ?_
  refine e_loc [2, 3, 4, 1, 0] rfl ?_
  exact lp 0 0 (Nat.zero_le _) rfl
