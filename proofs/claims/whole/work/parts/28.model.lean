/-- what the model keeps of a state -/
def RsOK (M : Mm) (n P : Nat → Nat) : Prop := (∀ r, r < 3 → gI M 26 r = nI (n r)) ∧ (∀ r, r < 3 → 4 ≤ n r ∧ n r ≤ 20) ∧ (∀ r, r < 3 → ∀ s, s < n r → gI M 27 (r * 20 + s) = nI (P (r * 20 + s))) ∧ ∀ j, P j < 8
theorem RsOK.same {M M2 : Mm} {n P : Nat → Nat} (h : RsOK M n P) (h1 : gI M2 26 = gI M 26) (h2 : gI M2 27 = gI M 27) : RsOK M2 n P := ⟨by rw [h1]; exact h.1, h.2.1, by rw [h2]; exact h.2.2.1, h.2.2.2⟩
def RcOK (M : Mm) (cnt : Nat → Nat) : Prop := ∀ p, p < 8 → gI M 28 p = nI (cnt p) ∧ cnt p ≤ 20
theorem RcOK.same {M M2 : Mm} {cnt : Nat → Nat} (h : RcOK M cnt) (e : gI M2 28 = gI M 28) : RcOK M2 cnt := fun p hp => by rw [e]; exact h p hp
def RtOK (M : Mm) (k : Nat) (W : Nat → Nat → Int32) (pv : Nat → Nat) : Prop := gI M 25 3 = nI k ∧ k ≤ 12 ∧ (∀ i, i < k → gI M 29 i = W i 0 ∧ gI M 30 i = W i 1 ∧ gI M 31 i = W i 2 ∧ gI M 32 i = nI (pv i)) ∧ (∀ i, i < k → pv i ≤ 10000) ∧ ∀ i, i < k → okW (W i 0) ∧ okW (W i 1) ∧ okW (W i 2)
theorem RtOK.same {M M2 : Mm} {k : Nat} {W : Nat → Nat → Int32} {pv : Nat → Nat} (h : RtOK M k W pv) (h0 : gI M2 25 3 = gI M 25 3) (h1 : gI M2 29 = gI M 29) (h2 : gI M2 30 = gI M 30) (h3 : gI M2 31 = gI M 31) (h4 : gI M2 32 = gI M 32) : RtOK M2 k W pv := ⟨by rw [h0]; exact h.1, h.2.1, by rw [h1, h2, h3, h4]; exact h.2.2.1, h.2.2.2⟩
def indU (E : Nat → Nat → Nat → Nat) (j a b c : Nat) : Nat := iw (j = 20 * a + b) (E a b c) + iw (j = 400 + 20 * a + c) (E a b c) + iw (j = 800 + 20 * b + c) (E a b c)
/-- all endings are laid out -/
def RlOK (M : Mm) (n : Nat → Nat) (k : Nat) (W : Nat → Nat → Int32) (pv : Nat → Nat) (E : Nat → Nat → Nat → Nat) : Prop := (∀ l, l < 512 → gI M 36 l = oI (fstR W k l) ∧ gI M 35 l = nI (amt W pv k l)) ∧ (∀ a, a < n 0 → ∀ b, b < n 1 → ∀ c, c < n 2 → gI M 34 (400 * a + 20 * b + c) = nI (E a b c)) ∧ gJ M 25 14 = lN (tot n E) ∧ gI M 25 15 = nI (tot n (fun a b c => hit1 (E a b c))) ∧ (∀ j, j < 60 → gJ M 37 j = lN (tot n (indO E j))) ∧ (∀ j, j < 1200 → gJ M 38 j = lN (tot n (indU E j)))
theorem RlOK.same {M M2 : Mm} {n : Nat → Nat} {k : Nat} {W : Nat → Nat → Int32} {pv : Nat → Nat} {E : Nat → Nat → Nat → Nat} (h : RlOK M n k W pv E) (h1 : gI M2 36 = gI M 36) (h2 : gI M2 35 = gI M 35) (h3 : gI M2 34 = gI M 34) (h4 : gJ M2 25 = gJ M 25) (h5 : gI M2 25 15 = gI M 25 15) (h6 : gJ M2 37 = gJ M 37) (h7 : gJ M2 38 = gJ M 38) : RlOK M2 n k W pv E := ⟨by rw [h1, h2]; exact h.1, by rw [h3]; exact h.2.1, by rw [h4]; exact h.2.2.1, by rw [h5]; exact h.2.2.2.1, by rw [h6]; exact h.2.2.2.2.1, by rw [h7]; exact h.2.2.2.2.2⟩
def RlF (M : Mm) (n : Nat → Nat) (k : Nat) (W : Nat → Nat → Int32) (pv : Nat → Nat) (E : Nat → Nat → Nat → Nat) : Prop := gI M 25 9 = nI 0 ∨ (gI M 25 9 = nI 1 ∧ RlOK M n k W pv E)
def RhOK (M : Mm) (R H : Nat) (z : Nat → Int32) : Prop := gI M 25 19 = nI R ∧ gI M 25 20 = nI H ∧ H ≤ R ∧ 1 ≤ R ∧ R ≤ 200 ∧ ∀ j, 2 ≤ j → j < 7 → gI M 25 (19 + j) = z j
def RgOK (M : Mm) (g : Nat) (q : Nat → Nat → Nat) : Prop := gI M 25 26 = nI g ∧ g ≤ 200 ∧ ∀ i, i < g → ∀ r, r < 3 → gI M 40 (3 * i + r) = nI (q i r)
def Rb (M : Mm) (n P : Nat → Nat) (k : Nat) (W : Nat → Nat → Int32) (pv : Nat → Nat) (L : Nat) : Prop := RsOK M n P ∧ RtOK M k W pv ∧ gI M 25 8 = nI L ∧ 1 ≤ L ∧ L ≤ 3
def RInv (M : Mm) : St → Prop := fun ⟨n, P, cnt, k, W, pv, L, R, H, z, g, q⟩ => Rb M n P k W pv L ∧ RcOK M cnt ∧ RlF M n k W pv (EE n P k W pv L) ∧ RhOK M R H z ∧ RgOK M g q ∧ QOK n g q
abbrev lR : List Nat := [25, 26, 27, 28, 29, 30, 31, 32, 33, 34, 35, 36, 37, 38, 39, 40, 41, 42, 43, 44, 45]
abbrev FrR (M M2 : Mm) : Prop := Same lR M M2
theorem Rb.le {M : Mm} {n P : Nat → Nat} {k : Nat} {W : Nat → Nat → Int32} {pv : Nat → Nat} {L : Nat} (h : Rb M n P k W pv L) (a b c : Nat) : EE n P k W pv L a b c ≤ 30000 := endP_le (fun _ => amt_le (fun i hi => h.2.1.2.2.2.1 i hi)) a b c
theorem inL_inn {v : Int32} {a b : Nat} (ha : a < 2 ^ 31) (hb : b < 2 ^ 31) : (decide (lN a ≤ v.toInt64) && decide (v.toInt64 ≤ lN b)) = decide (inn v a b) := by
  rw [Bool.eq_iff_iff]
  simp only [inn, Bool.and_eq_true, decide_eq_true_eq, Int64.le_iff_toInt_le, Int32.toInt_toInt64, lN_toInt ha, lN_toInt hb]
theorem inL_I {v a b : Int32} : (decide (a.toInt64 ≤ v.toInt64) && decide (v.toInt64 ≤ b.toInt64)) = decide (inn v a.toInt b.toInt) := by
  rw [Bool.eq_iff_iff]
  simp only [inn, Bool.and_eq_true, decide_eq_true_eq, Int64.le_iff_toInt_le, Int32.toInt_toInt64]
set_option maxHeartbeats 4000000 in
set_option maxRecDepth 100000 in
theorem r_in {sh : List Sh} {M : Mm} (v a b : Int64) : CT mX8_in [.long v, .long a, .long b] sh M (Pi (bI (decide (a ≤ v) && decide (v ≤ b))) sh M) := by
  refine CT.mk (lv := [(0, .long v), (2, .long a), (4, .long b)]) rfl (by decide +kernel) (Nat.le_of_ble_eq_true rfl) ?_
  intro X C RT
  refine e_lload_n C dX8_in_0 rfl rfl ?_
  refine e_lload_n C dX8_in_1 rfl rfl ?_
  refine e_lcmp_lt (x := v) (y := a) (tgt := 17) C dX8_in_2 dX8_in_3 (by decide) (fun h2 => ?_) (fun h2 => ?_)
  · refine e_iconst (v := (nI 0)) C dX8_in_17 (by decide) ?_
    exact e_zret C dX8_in_18 RT (by decide) ⟨Nat.zero_le _, Nat.zero_le _⟩ (pi_ (bI_0 (by simp only [Bool.and_eq_true, Bool.and_eq_false_iff, decide_eq_true_eq, decide_eq_false_iff_not, Int64.le_iff_toInt_le, Int64.lt_iff_toInt_lt] at h2 ⊢; omega)))
  · refine e_lload_n C dX8_in_6 rfl rfl ?_
    refine e_lload C dX8_in_7 rfl ?_
    refine e_lcmp_gt (x := v) (y := b) (tgt := 17) C dX8_in_9 dX8_in_10 (by decide) (fun h9 => ?_) (fun h9 => ?_)
    · refine e_iconst (v := (nI 0)) C dX8_in_17 (by decide) ?_
      exact e_zret C dX8_in_18 RT (by decide) ⟨Nat.zero_le _, Nat.zero_le _⟩ (pi_ (bI_0 (by simp only [Bool.and_eq_true, Bool.and_eq_false_iff, decide_eq_true_eq, decide_eq_false_iff_not, Int64.le_iff_toInt_le, Int64.lt_iff_toInt_lt] at h2 h9 ⊢; omega)))
    · refine e_iconst (v := (nI 1)) C dX8_in_13 (by decide) ?_
      refine e_goto (tgt := 18) C dX8_in_14 (by decide) ?_
      exact e_zret C dX8_in_18 RT (by decide) ⟨Nat.zero_le _, Nat.zero_le _⟩ (pi_ (bI_1 (by simp only [Bool.and_eq_true, Bool.and_eq_false_iff, decide_eq_true_eq, decide_eq_false_iff_not, Int64.le_iff_toInt_le, Int64.lt_iff_toInt_lt] at h2 h9 ⊢; omega)))
theorem r_inN {sh : List Sh} {M : Mm} (v : Int32) (a b : Nat) (ha : a < 2 ^ 31) (hb : b < 2 ^ 31) : CT mX8_in [.long v.toInt64, .long (lN a), .long (lN b)] sh M (Pi (bI (decide (inn v a b))) sh M) := by
  have h := r_in (sh := sh) (M := M) v.toInt64 (lN a) (lN b); rw [inL_inn ha hb] at h; exact h
theorem r_inI {sh : List Sh} {M : Mm} (v a b : Int32) : CT mX8_in [.long v.toInt64, .long a.toInt64, .long b.toInt64] sh M (Pi (bI (decide (inn v a.toInt b.toInt))) sh M) := by
  have h := r_in (sh := sh) (M := M) v.toInt64 a.toInt64 b.toInt64; rw [inL_I] at h; exact h
theorem lN_I {a : Nat} (ha : a < 2 ^ 31) : lN a = (nI a).toInt64 := by
  apply Int64.toInt_inj.mp; rw [lN_toInt ha, Int32.toInt_toInt64, nI_toInt ha]
theorem r_inM {sh : List Sh} {M : Mm} (v : Int32) : CT mX8_in [.long v.toInt64, .long (-1), .long (lN 7)] sh M (Pi (bI (decide (inn v (-1) 7))) sh M) := by
  have h := r_inI (sh := sh) (M := M) v (-1) (nI 7); rw [← lN_I (by omega)] at h; exact h
theorem r_inL {sh : List Sh} {M : Mm} (v a b : Nat) (hv : v < 2 ^ 63) (ha : a < 2 ^ 31) (hb : b < 2 ^ 31) : CT mX8_in [.long (lN v), .long (lN a), .long (lN b)] sh M (Pi (bI (decide (a ≤ v ∧ v ≤ b))) sh M) := by
  have h := r_in (sh := sh) (M := M) (lN v) (lN a) (lN b)
  have e : (decide (lN a ≤ lN v) && decide (lN v ≤ lN b)) = decide (a ≤ v ∧ v ≤ b) := by
    rw [Bool.eq_iff_iff]
    have e9 : (lN v).toInt = (v : Int) := lg_ofNat_toInt (by omega)
    simp only [Bool.and_eq_true, decide_eq_true_eq, Int64.le_iff_toInt_le, lN_toInt ha, lN_toInt hb, e9]
    omega
  rw [e] at h; exact h
set_option maxHeartbeats 4000000 in
set_option maxRecDepth 100000 in
theorem r_isReel {sh : List Sh} {M : Mm} (v : Int32) : CT mX8_isReel [.int v] sh M (Pi (bI (decide (inn v 0 2))) sh M) := by
  refine CT.mk (lv := [(0, .int v)]) rfl (by decide +kernel) (Nat.le_of_ble_eq_true rfl) ?_
  intro X C RT
  refine e_iload_n C dX8_isReel_0 rfl rfl ?_
  refine e_i2l C dX8_isReel_1 ?_
  refine e_lconst (v := lN 0) C dX8_isReel_2 (by decide) ?_
  refine e_ldc2 (v := lN 2) C dX8_isReel_3 kX8_79 ?_
  refine e_callSi C dX8_isReel_6 [.long v.toInt64, .long (lN 0), .long (lN 2)] (r_inN v 0 2 (by omega) (by omega)) okX8_in lX8_81 rfl ⟨rfl, rfl⟩ ⟨Nat.le_of_ble_eq_true rfl, Nat.le_of_ble_eq_true rfl⟩ (Nat.le_of_ble_eq_true rfl) ⟨Nat.zero_le _, Nat.zero_le _⟩ ?_
  exact e_zret C dX8_isReel_9 RT (bI_nar _) ⟨Nat.zero_le _, Nat.zero_le _⟩ (pi_ rfl)
set_option maxHeartbeats 4000000 in
set_option maxRecDepth 100000 in
theorem r_isStop {w : Bool} {M : Mm} {n P : Nat → Nat} (hS : RsOK M n P) (r s : Int32) : CT mX8_isStop [.ref 25, .int r, .int s] (shF w) M (Pi (bI (hasSt n r s)) (shF w) M) := by
  refine CT.mk (lv := [(0, .ref 25), (1, .int r), (2, .int s)]) rfl (by decide +kernel) (Nat.le_of_ble_eq_true rfl) ?_
  intro X C RT
  refine e_iload_n C dX8_isStop_0 rfl rfl ?_
  refine e_callSi C dX8_isStop_1 [.int r] (r_isReel r) okX8_isReel lX8_85 rfl ⟨rfl, rfl⟩ ⟨Nat.le_of_ble_eq_true rfl, Nat.le_of_ble_eq_true rfl⟩ (Nat.le_of_ble_eq_true rfl) ⟨Nat.zero_le _, Nat.zero_le _⟩ ?_
  refine e_if_eqB (b := decide (inn r 0 2)) (tgt := 29) C dX8_isStop_4 (by decide) (fun h4 => ?_) (fun h4 => ?_)
  · refine e_iconst (v := (nI 0)) C dX8_isStop_29 (by decide) ?_
    exact e_zret C dX8_isStop_30 RT (by decide) ⟨Nat.zero_le _, Nat.zero_le _⟩ (pi_ (bI_0 (by have h5 := dec_f h4; unfold inn at h5; unfold hasSt; simp only [Bool.and_eq_false_iff, decide_eq_false_iff_not]; omega)))
  · obtain ⟨r9, _, u_r, rfl⟩ := inn_N (b := 2) (dec_t h4) (by decide)
    have hn9 := hS.2.1 r9 (by omega)
    have e9 := tn_nI (q := r9) (by omega)
    have e8 := nI_toInt (n := r9) (by omega)
    refine e_iload_n C dX8_isStop_7 rfl rfl ?_
    refine e_i2l C dX8_isStop_8 ?_
    refine e_lconst (v := lN 0) C dX8_isStop_9 (by decide) ?_
    refine e_aload_n C dX8_isStop_10 rfl rfl ?_
    refine e_getR (q := 26) C dX8_isStop_11 fX8_7 rfl rfl ?_
    refine e_iload_n C dX8_isStop_14 rfl rfl ?_
    refine e_ialoadN C dX8_isStop_15 rfl (by omega) (by omega) ?_
    refine e_topi (nI (n r9)) (hS.1 r9 (by omega)) ?_
    refine e_iconst (v := (nI 1)) C dX8_isStop_16 (by decide) ?_
    refine e_isubN C dX8_isStop_17 (by omega) ?_
    refine e_i2lN C dX8_isStop_18 (by omega) ?_
    refine e_callSi C dX8_isStop_19 [.long s.toInt64, .long (lN 0), .long (lN ((n r9) - 1))] (r_inN s 0 ((n r9) - 1) (by omega) (by omega)) okX8_in lX8_81 rfl ⟨rfl, rfl⟩ ⟨Nat.le_of_ble_eq_true rfl, Nat.le_of_ble_eq_true rfl⟩ (Nat.le_of_ble_eq_true rfl) ⟨Nat.zero_le _, Nat.zero_le _⟩ ?_
    refine e_if_eqB (b := decide (inn s (0 : Nat) (((n r9) - 1) : Nat))) (tgt := 29) C dX8_isStop_22 (by decide) (fun h22 => ?_) (fun h22 => ?_)
    · refine e_iconst (v := (nI 0)) C dX8_isStop_29 (by decide) ?_
      exact e_zret C dX8_isStop_30 RT (by decide) ⟨Nat.zero_le _, Nat.zero_le _⟩ (pi_ (bI_0 (by have h5 := dec_f h22; unfold inn at h5; unfold tn at e9; unfold hasSt; simp only [e9, Bool.and_eq_false_iff, decide_eq_false_iff_not]; omega)))
    · refine e_iconst (v := (nI 1)) C dX8_isStop_25 (by decide) ?_
      refine e_goto (tgt := 30) C dX8_isStop_26 (by decide) ?_
      exact e_zret C dX8_isStop_30 RT (by decide) ⟨Nat.zero_le _, Nat.zero_le _⟩ (pi_ (bI_1 (by have h5 := dec_t h22; unfold inn at h5; unfold tn at e9; unfold hasSt; simp only [e9, Bool.and_eq_true, decide_eq_true_eq]; omega)))
set_option maxHeartbeats 4000000 in
set_option maxRecDepth 100000 in
theorem r_isEnding {w : Bool} {M : Mm} {n P : Nat → Nat} (hS : RsOK M n P) (a b c : Int32) : CT mX8_isEnding [.ref 25, .int a, .int b, .int c] (shF w) M (Pi (bI (hasEnd n a b c)) (shF w) M) := by
  refine CT.mk (lv := [(0, .ref 25), (1, .int a), (2, .int b), (3, .int c)]) rfl (by decide +kernel) (Nat.le_of_ble_eq_true rfl) ?_
  intro X C RT
  refine e_aload_n C dX8_isEnding_0 rfl rfl ?_
  refine e_iconst (v := (nI 0)) C dX8_isEnding_1 (by decide) ?_
  refine e_iload_n C dX8_isEnding_2 rfl rfl ?_
  refine e_callVi C dX8_isEnding_3 [.int (nI 0), .int a] (r_isStop hS (nI 0) a) okX8_isStop lX8_100 rfl rfl rfl ⟨rfl, rfl⟩ ⟨Nat.le_of_ble_eq_true rfl, Nat.le_of_ble_eq_true rfl⟩ (Nat.le_of_ble_eq_true rfl) ⟨Nat.zero_le _, Nat.zero_le _⟩ ?_
  refine e_if_eqB (b := hasSt n (nI 0) a) (tgt := 31) C dX8_isEnding_6 (by decide) (fun h6 => ?_) (fun h6 => ?_)
  · refine e_iconst (v := (nI 0)) C dX8_isEnding_31 (by decide) ?_
    exact e_zret C dX8_isEnding_32 RT (by decide) ⟨Nat.zero_le _, Nat.zero_le _⟩ (pi_ (bI_0 (by simp only [hasSt, Bool.and_eq_true, Bool.and_eq_false_iff, Bool.or_eq_true, Bool.or_eq_false_iff, decide_eq_true_eq, decide_eq_false_iff_not, Int32.le_iff_toInt_le, Int32.lt_iff_toInt_lt, ← Int32.toInt_inj] at h6; have e0 : (nI 0).toInt = 0 := rfl; have e1 : (nI 1).toInt = 1 := rfl; have e2 : (nI 2).toInt = 2 := rfl; have f0 : (0 : Int).toNat = 0 := rfl; have f1 : (1 : Int).toNat = 1 := rfl; have f2 : (2 : Int).toNat = 2 := rfl; simp only [e0, e1, e2, f0, f1, f2] at h6; simp only [hasEnd, Bool.and_eq_true, Bool.and_eq_false_iff, Bool.or_eq_true, Bool.or_eq_false_iff, decide_eq_true_eq, decide_eq_false_iff_not, Int32.le_iff_toInt_le, Int32.lt_iff_toInt_lt, ← Int32.toInt_inj]; omega)))
  · refine e_aload_n C dX8_isEnding_9 rfl rfl ?_
    refine e_iconst (v := (nI 1)) C dX8_isEnding_10 (by decide) ?_
    refine e_iload_n C dX8_isEnding_11 rfl rfl ?_
    refine e_callVi C dX8_isEnding_12 [.int (nI 1), .int b] (r_isStop hS (nI 1) b) okX8_isStop lX8_100 rfl rfl rfl ⟨rfl, rfl⟩ ⟨Nat.le_of_ble_eq_true rfl, Nat.le_of_ble_eq_true rfl⟩ (Nat.le_of_ble_eq_true rfl) ⟨Nat.zero_le _, Nat.zero_le _⟩ ?_
    refine e_if_eqB (b := hasSt n (nI 1) b) (tgt := 31) C dX8_isEnding_15 (by decide) (fun h15 => ?_) (fun h15 => ?_)
    · refine e_iconst (v := (nI 0)) C dX8_isEnding_31 (by decide) ?_
      exact e_zret C dX8_isEnding_32 RT (by decide) ⟨Nat.zero_le _, Nat.zero_le _⟩ (pi_ (bI_0 (by simp only [hasSt, Bool.and_eq_true, Bool.and_eq_false_iff, Bool.or_eq_true, Bool.or_eq_false_iff, decide_eq_true_eq, decide_eq_false_iff_not, Int32.le_iff_toInt_le, Int32.lt_iff_toInt_lt, ← Int32.toInt_inj] at h6 h15; have e0 : (nI 0).toInt = 0 := rfl; have e1 : (nI 1).toInt = 1 := rfl; have e2 : (nI 2).toInt = 2 := rfl; have f0 : (0 : Int).toNat = 0 := rfl; have f1 : (1 : Int).toNat = 1 := rfl; have f2 : (2 : Int).toNat = 2 := rfl; simp only [e0, e1, e2, f0, f1, f2] at h6 h15; simp only [hasEnd, Bool.and_eq_true, Bool.and_eq_false_iff, Bool.or_eq_true, Bool.or_eq_false_iff, decide_eq_true_eq, decide_eq_false_iff_not, Int32.le_iff_toInt_le, Int32.lt_iff_toInt_lt, ← Int32.toInt_inj]; omega)))
    · refine e_aload_n C dX8_isEnding_18 rfl rfl ?_
      refine e_iconst (v := (nI 2)) C dX8_isEnding_19 (by decide) ?_
      refine e_iload_n C dX8_isEnding_20 rfl rfl ?_
      refine e_callVi C dX8_isEnding_21 [.int (nI 2), .int c] (r_isStop hS (nI 2) c) okX8_isStop lX8_100 rfl rfl rfl ⟨rfl, rfl⟩ ⟨Nat.le_of_ble_eq_true rfl, Nat.le_of_ble_eq_true rfl⟩ (Nat.le_of_ble_eq_true rfl) ⟨Nat.zero_le _, Nat.zero_le _⟩ ?_
      refine e_if_eqB (b := hasSt n (nI 2) c) (tgt := 31) C dX8_isEnding_24 (by decide) (fun h24 => ?_) (fun h24 => ?_)
      · refine e_iconst (v := (nI 0)) C dX8_isEnding_31 (by decide) ?_
        exact e_zret C dX8_isEnding_32 RT (by decide) ⟨Nat.zero_le _, Nat.zero_le _⟩ (pi_ (bI_0 (by simp only [hasSt, Bool.and_eq_true, Bool.and_eq_false_iff, Bool.or_eq_true, Bool.or_eq_false_iff, decide_eq_true_eq, decide_eq_false_iff_not, Int32.le_iff_toInt_le, Int32.lt_iff_toInt_lt, ← Int32.toInt_inj] at h6 h15 h24; have e0 : (nI 0).toInt = 0 := rfl; have e1 : (nI 1).toInt = 1 := rfl; have e2 : (nI 2).toInt = 2 := rfl; have f0 : (0 : Int).toNat = 0 := rfl; have f1 : (1 : Int).toNat = 1 := rfl; have f2 : (2 : Int).toNat = 2 := rfl; simp only [e0, e1, e2, f0, f1, f2] at h6 h15 h24; simp only [hasEnd, Bool.and_eq_true, Bool.and_eq_false_iff, Bool.or_eq_true, Bool.or_eq_false_iff, decide_eq_true_eq, decide_eq_false_iff_not, Int32.le_iff_toInt_le, Int32.lt_iff_toInt_lt, ← Int32.toInt_inj]; omega)))
      · refine e_iconst (v := (nI 1)) C dX8_isEnding_27 (by decide) ?_
        refine e_goto (tgt := 32) C dX8_isEnding_28 (by decide) ?_
        exact e_zret C dX8_isEnding_32 RT (by decide) ⟨Nat.zero_le _, Nat.zero_le _⟩ (pi_ (bI_1 (by simp only [hasSt, Bool.and_eq_true, Bool.and_eq_false_iff, Bool.or_eq_true, Bool.or_eq_false_iff, decide_eq_true_eq, decide_eq_false_iff_not, Int32.le_iff_toInt_le, Int32.lt_iff_toInt_lt, ← Int32.toInt_inj] at h6 h15 h24; have e0 : (nI 0).toInt = 0 := rfl; have e1 : (nI 1).toInt = 1 := rfl; have e2 : (nI 2).toInt = 2 := rfl; have f0 : (0 : Int).toNat = 0 := rfl; have f1 : (1 : Int).toNat = 1 := rfl; have f2 : (2 : Int).toNat = 2 := rfl; simp only [e0, e1, e2, f0, f1, f2] at h6 h15 h24; simp only [hasEnd, Bool.and_eq_true, Bool.and_eq_false_iff, Bool.or_eq_true, Bool.or_eq_false_iff, decide_eq_true_eq, decide_eq_false_iff_not, Int32.le_iff_toInt_le, Int32.lt_iff_toInt_lt, ← Int32.toInt_inj]; omega)))
set_option maxHeartbeats 4000000 in
set_option maxRecDepth 100000 in
theorem r_place {sh : List Sh} {M : Mm} (a b c : Nat) : CT mX8_place [.int (nI a), .int (nI b), .int (nI c)] sh M (Pi (nI (400 * a + 20 * b + c)) sh M) := by
  refine CT.mk (lv := [(0, .int (nI a)), (1, .int (nI b)), (2, .int (nI c))]) rfl (by decide +kernel) (Nat.le_of_ble_eq_true rfl) ?_
  intro X C RT
  refine e_sipush (v := (nI 400)) C dX8_place_0 (by decide) ?_
  refine e_iload_n C dX8_place_3 rfl rfl ?_
  refine e_imulN C dX8_place_4 ?_
  refine e_bipush (v := (nI 20)) C dX8_place_5 (by decide) ?_
  refine e_iload_n C dX8_place_7 rfl rfl ?_
  refine e_imulN C dX8_place_8 ?_
  refine e_iaddN C dX8_place_9 ?_
  refine e_iload_n C dX8_place_10 rfl rfl ?_
  refine e_iaddN C dX8_place_11 ?_
  exact e_zret C dX8_place_12 RT rfl ⟨Nat.zero_le _, Nat.zero_le _⟩ (pi_ rfl)
set_option maxHeartbeats 4000000 in
set_option maxRecDepth 100000 in
theorem r_allEndings {w : Bool} {M : Mm} {n P : Nat → Nat} (hS : RsOK M n P)  : CT mX8_allEndings [.ref 25] (shF w) M (Pi (nI (prd n 7 3)) (shF w) M) := by
  refine CT.mk (lv := [(0, .ref 25)]) rfl (by decide +kernel) (Nat.le_of_ble_eq_true rfl) ?_
  intro X C RT
  refine e_aload_n C dX8_allEndings_0 rfl rfl ?_
  refine e_getR (q := 26) C dX8_allEndings_1 fX8_7 rfl rfl ?_
  refine e_iconst (v := (nI 0)) C dX8_allEndings_4 (by decide) ?_
  refine e_ialoadN C dX8_allEndings_5 rfl (by omega) (by omega) ?_
  refine e_topi (nI (n 0)) (hS.1 0 (by omega)) ?_
  refine e_aload_n C dX8_allEndings_6 rfl rfl ?_
  refine e_getR (q := 26) C dX8_allEndings_7 fX8_7 rfl rfl ?_
  refine e_iconst (v := (nI 1)) C dX8_allEndings_10 (by decide) ?_
  refine e_ialoadN C dX8_allEndings_11 rfl (by omega) (by omega) ?_
  refine e_topi (nI (n 1)) (hS.1 1 (by omega)) ?_
  refine e_imulN C dX8_allEndings_12 ?_
  refine e_aload_n C dX8_allEndings_13 rfl rfl ?_
  refine e_getR (q := 26) C dX8_allEndings_14 fX8_7 rfl rfl ?_
  refine e_iconst (v := (nI 2)) C dX8_allEndings_17 (by decide) ?_
  refine e_ialoadN C dX8_allEndings_18 rfl (by omega) (by omega) ?_
  refine e_topi (nI (n 2)) (hS.1 2 (by omega)) ?_
  refine e_imulN C dX8_allEndings_19 ?_
  exact e_zret C dX8_allEndings_20 RT rfl ⟨Nat.zero_le _, Nat.zero_le _⟩ (pi_ (congrArg nI (prd7 n).symm))
theorem md_0 {s n : Nat} (h : s < n) : (s + 0 + n) % n = s := by rw [Nat.add_zero, Nat.add_mod_right, Nat.mod_eq_of_lt h]
theorem md_1 {s n : Nat} (h : s < n) : (s + 1 + n) % n = blw n s := by
  rw [Nat.add_mod_right]
  have h1 := blw_mod (show 0 < n by omega) s
  rw [Nat.mod_eq_of_lt h] at h1; exact h1.symm
theorem md_m {s n : Nat} (h : s < n) : (s + n - 1) % n = abv n s := by
  unfold abv
  by_cases h0 : s = 0
  · subst h0; rw [if_pos rfl, Nat.zero_add, Nat.mod_eq_of_lt (by omega)]
  · rw [if_neg h0, show s + n - 1 = (s - 1) + n by omega, Nat.add_mod_right, Nat.mod_eq_of_lt (by omega)]
theorem nI_sm {s n : Nat} (h : 0 < n) : nI s + (-1) + nI n = nI (s + n - 1) := by
  obtain ⟨m, rfl⟩ : ∃ m, n = m + 1 := ⟨n - 1, by omega⟩
  have h1 : nI (m + 1) = nI m + 1 := (nI_1 m).symm
  rw [h1, show s + (m + 1) - 1 = s + m by omega, ← nI_add, Int32.add_assoc, Int32.add_comm (nI m) 1, ← Int32.add_assoc (-1) 1, show (-1 : Int32) + 1 = 0 from rfl, Int32.zero_add]
def onT (n s : Nat) (on : Int32) (t : Nat) : Prop := (on = nI 0 ∧ t = s) ∨ (on = -1 ∧ t = abv n s) ∨ (on = nI 1 ∧ t = blw n s)
set_option maxHeartbeats 4000000 in
set_option maxRecDepth 100000 in
theorem r_shown {w : Bool} {M : Mm} {n P : Nat → Nat} (hS : RsOK M n P) (r s : Nat) (on : Int32) (t : Nat) (hr : r < 3) (hs : s < n r) (ho : onT (n r) s on t) : CT mX8_shown [.ref 25, .int (nI r), .int (nI s), .int on] (shF w) M (Pi (nI (P (r * 20 + t))) (shF w) M) := by
  refine CT.mk (lv := [(0, .ref 25), (1, .int (nI r)), (2, .int (nI s)), (3, .int on)]) rfl (by decide +kernel) (Nat.le_of_ble_eq_true rfl) ?_
  intro X C RT
  have hn9 := hS.2.1 r hr
  have ha := abv_lt hs
  have hb := blw_lt hs
  rcases ho with ⟨rfl, rfl⟩ | ⟨rfl, rfl⟩ | ⟨rfl, rfl⟩
  · refine e_aload_n C dX8_shown_0 rfl rfl ?_
    refine e_getR (q := 26) C dX8_shown_1 fX8_7 rfl rfl ?_
    refine e_iload_n C dX8_shown_4 rfl rfl ?_
    refine e_ialoadN C dX8_shown_5 rfl (by omega) (by omega) ?_
    refine e_topi (nI (n r)) (hS.1 r (by omega)) ?_
    refine e_istore (lv2 := [(4, .int (nI (n r))), (0, .ref 25), (1, .int (nI r)), (2, .int (nI t)), (3, .int (nI 0))]) C dX8_shown_6 (by decide) rfl ?_
    refine e_aload_n C dX8_shown_8 rfl rfl ?_
    refine e_getR (q := 27) C dX8_shown_9 fX8_13 rfl rfl ?_
    refine e_bipush (v := (nI 20)) C dX8_shown_12 (by decide) ?_
    refine e_iload_n C dX8_shown_14 rfl rfl ?_
    refine e_imulN C dX8_shown_15 ?_
    refine e_iload_n C dX8_shown_16 rfl rfl ?_
    refine e_iload_n C dX8_shown_17 rfl rfl ?_
    refine e_iaddN C dX8_shown_18 ?_
    refine e_iload C dX8_shown_19 rfl ?_
    refine e_iaddN C dX8_shown_21 ?_
    refine e_iload C dX8_shown_22 rfl ?_
    refine e_iremN C dX8_shown_24 (by omega) (by omega) (by omega) ?_
    refine e_topi (nI (t)) (congrArg nI (md_0 hs)) ?_
    refine e_iaddN C dX8_shown_25 ?_
    refine e_ialoadN C dX8_shown_26 rfl (by omega) (by omega) ?_
    refine e_topi (nI (P (r * 20 + t))) (by rw [show 20 * r + t = r * 20 + t by omega]; exact hS.2.2.1 r hr _ (by omega)) ?_
    exact e_zret C dX8_shown_27 RT rfl ⟨Nat.zero_le _, Nat.zero_le _⟩ (pi_ rfl)
  · refine e_aload_n C dX8_shown_0 rfl rfl ?_
    refine e_getR (q := 26) C dX8_shown_1 fX8_7 rfl rfl ?_
    refine e_iload_n C dX8_shown_4 rfl rfl ?_
    refine e_ialoadN C dX8_shown_5 rfl (by omega) (by omega) ?_
    refine e_topi (nI (n r)) (hS.1 r (by omega)) ?_
    refine e_istore (lv2 := [(4, .int (nI (n r))), (0, .ref 25), (1, .int (nI r)), (2, .int (nI s)), (3, .int (-1))]) C dX8_shown_6 (by decide) rfl ?_
    refine e_aload_n C dX8_shown_8 rfl rfl ?_
    refine e_getR (q := 27) C dX8_shown_9 fX8_13 rfl rfl ?_
    refine e_bipush (v := (nI 20)) C dX8_shown_12 (by decide) ?_
    refine e_iload_n C dX8_shown_14 rfl rfl ?_
    refine e_imulN C dX8_shown_15 ?_
    refine e_iload_n C dX8_shown_16 rfl rfl ?_
    refine e_iload_n C dX8_shown_17 rfl rfl ?_
    refine e_iadd C dX8_shown_18 ?_
    refine e_iload C dX8_shown_19 rfl ?_
    refine e_iadd C dX8_shown_21 ?_
    refine e_topi (nI (s + n r - 1)) (nI_sm (by omega)) ?_
    refine e_iload C dX8_shown_22 rfl ?_
    refine e_iremN C dX8_shown_24 (by omega) (by omega) (by omega) ?_
    refine e_topi (nI (abv (n r) s)) (congrArg nI (md_m hs)) ?_
    refine e_iaddN C dX8_shown_25 ?_
    refine e_ialoadN C dX8_shown_26 rfl (by omega) (by omega) ?_
    refine e_topi (nI (P (r * 20 + (abv (n r) s)))) (by rw [show 20 * r + (abv (n r) s) = r * 20 + (abv (n r) s) by omega]; exact hS.2.2.1 r hr _ (by omega)) ?_
    exact e_zret C dX8_shown_27 RT rfl ⟨Nat.zero_le _, Nat.zero_le _⟩ (pi_ rfl)
  · refine e_aload_n C dX8_shown_0 rfl rfl ?_
    refine e_getR (q := 26) C dX8_shown_1 fX8_7 rfl rfl ?_
    refine e_iload_n C dX8_shown_4 rfl rfl ?_
    refine e_ialoadN C dX8_shown_5 rfl (by omega) (by omega) ?_
    refine e_topi (nI (n r)) (hS.1 r (by omega)) ?_
    refine e_istore (lv2 := [(4, .int (nI (n r))), (0, .ref 25), (1, .int (nI r)), (2, .int (nI s)), (3, .int (nI 1))]) C dX8_shown_6 (by decide) rfl ?_
    refine e_aload_n C dX8_shown_8 rfl rfl ?_
    refine e_getR (q := 27) C dX8_shown_9 fX8_13 rfl rfl ?_
    refine e_bipush (v := (nI 20)) C dX8_shown_12 (by decide) ?_
    refine e_iload_n C dX8_shown_14 rfl rfl ?_
    refine e_imulN C dX8_shown_15 ?_
    refine e_iload_n C dX8_shown_16 rfl rfl ?_
    refine e_iload_n C dX8_shown_17 rfl rfl ?_
    refine e_iaddN C dX8_shown_18 ?_
    refine e_iload C dX8_shown_19 rfl ?_
    refine e_iaddN C dX8_shown_21 ?_
    refine e_iload C dX8_shown_22 rfl ?_
    refine e_iremN C dX8_shown_24 (by omega) (by omega) (by omega) ?_
    refine e_topi (nI (blw (n r) s)) (congrArg nI (md_1 hs)) ?_
    refine e_iaddN C dX8_shown_25 ?_
    refine e_ialoadN C dX8_shown_26 rfl (by omega) (by omega) ?_
    refine e_topi (nI (P (r * 20 + (blw (n r) s)))) (by rw [show 20 * r + (blw (n r) s) = r * 20 + (blw (n r) s) by omega]; exact hS.2.2.1 r hr _ (by omega)) ?_
    exact e_zret C dX8_shown_27 RT rfl ⟨Nat.zero_le _, Nat.zero_le _⟩ (pi_ rfl)
set_option maxHeartbeats 4000000 in
set_option maxRecDepth 100000 in
theorem r_payOf {w : Bool} {M : Mm} {n P : Nat → Nat} {k : Nat} {W : Nat → Nat → Int32} {pv : Nat → Nat} {L : Nat} (hB : Rb M n P k W pv L) (hv : ∀ l, l < 512 → gI M 35 l = nI (amt W pv k l)) (a b c : Nat) (ha : a < n 0) (hb : b < n 1) (hc : c < n 2) : CT mX8_payOf [.ref 25, .int (nI a), .int (nI b), .int (nI c)] (shF w) M (Pi (nI (EE n P k W pv L a b c)) (shF w) M) := by
  refine CT.mk (lv := [(0, .ref 25), (1, .int (nI a)), (2, .int (nI b)), (3, .int (nI c))]) rfl (by decide +kernel) (Nat.le_of_ble_eq_true rfl) ?_
  intro X C RT
  obtain ⟨hS, hT, hL, hL1, hL3⟩ := id hB
  rcases (show L = 1 ∨ L = 2 ∨ L = 3 by omega) with rfl | rfl | rfl
  · refine e_iconst (v := (nI 0)) C dX8_payOf_0 (by decide) ?_
    refine e_istore (lv2 := [(4, .int (nI 0)), (0, .ref 25), (1, .int (nI a)), (2, .int (nI b)), (3, .int (nI c))]) C dX8_payOf_1 (by decide) rfl ?_
    refine e_iconst (v := (nI 0)) C dX8_payOf_3 (by decide) ?_
    refine e_istore (lv2 := [(5, .int (nI 0)), (4, .int (nI 0)), (0, .ref 25), (1, .int (nI a)), (2, .int (nI b)), (3, .int (nI c))]) C dX8_payOf_4 (by decide) rfl ?_
    refine e_loc (lv2 := [(0, .ref 25), (1, .int (nI a)), (2, .int (nI b)), (3, .int (nI c)), (4, .int (nI 0)), (5, .int (nI 0))]) [2, 3, 4, 5, 1, 0] rfl ?_
    refine e_iload C dX8_payOf_6 rfl ?_
    refine e_aload_n C dX8_payOf_8 rfl rfl ?_
    refine e_getI C dX8_payOf_9 fX8_31 rfl rfl ?_
    refine e_topi (nI 1) hL ?_
    refine e_icmp_geN (tgt := 85) C dX8_payOf_12 (by omega) (by omega) (by decide) (fun h12 => by omega) (fun h12 => ?_)
    refine e_iload C dX8_payOf_15 rfl ?_
    refine e_if_neN (tgt := 24) C dX8_payOf_17 (by omega) (by decide) (fun h17 => by omega) (fun h17 => ?_)
    refine e_iconst (v := (nI 0)) C dX8_payOf_20 (by decide) ?_
    refine e_goto (tgt := 35) C dX8_payOf_21 (by decide) ?_
    refine e_istore (lv2 := [(6, .int (nI 0)), (0, .ref 25), (1, .int (nI a)), (2, .int (nI b)), (3, .int (nI c)), (4, .int (nI 0)), (5, .int (nI 0))]) C dX8_payOf_35 (by decide) rfl ?_
    refine e_iload C dX8_payOf_37 rfl ?_
    refine e_aload_n C dX8_payOf_39 rfl rfl ?_
    refine e_getR (q := 35) C dX8_payOf_40 fX8_41 rfl rfl ?_
    refine e_bipush (v := (nI 64)) C dX8_payOf_43 (by decide) ?_
    refine e_aload_n C dX8_payOf_45 rfl rfl ?_
    refine e_iconst (v := (nI 0)) C dX8_payOf_46 (by decide) ?_
    refine e_iload_n C dX8_payOf_47 rfl rfl ?_
    refine e_iload C dX8_payOf_48 rfl ?_
    have hb1 := hS.2.2.2 (0 * 20 + a)
    refine e_callVi C dX8_payOf_50 [.int (nI 0), .int (nI a), .int (nI 0)] (r_shown hS 0 a (nI 0) a (by omega) (by omega) (Or.inl ⟨rfl, rfl⟩)) okX8_shown lX8_115 rfl rfl rfl ⟨rfl, rfl⟩ ⟨Nat.le_of_ble_eq_true rfl, Nat.le_of_ble_eq_true rfl⟩ (Nat.le_of_ble_eq_true rfl) ⟨Nat.zero_le _, Nat.zero_le _⟩ ?_
    refine e_imulN C dX8_payOf_53 ?_
    refine e_bipush (v := (nI 8)) C dX8_payOf_54 (by decide) ?_
    refine e_aload_n C dX8_payOf_56 rfl rfl ?_
    refine e_iconst (v := (nI 1)) C dX8_payOf_57 (by decide) ?_
    refine e_iload_n C dX8_payOf_58 rfl rfl ?_
    refine e_iload C dX8_payOf_59 rfl ?_
    have hb2 := hS.2.2.2 (1 * 20 + b)
    refine e_callVi C dX8_payOf_61 [.int (nI 1), .int (nI b), .int (nI 0)] (r_shown hS 1 b (nI 0) b (by omega) (by omega) (Or.inl ⟨rfl, rfl⟩)) okX8_shown lX8_115 rfl rfl rfl ⟨rfl, rfl⟩ ⟨Nat.le_of_ble_eq_true rfl, Nat.le_of_ble_eq_true rfl⟩ (Nat.le_of_ble_eq_true rfl) ⟨Nat.zero_le _, Nat.zero_le _⟩ ?_
    refine e_imulN C dX8_payOf_64 ?_
    refine e_iaddN C dX8_payOf_65 ?_
    refine e_aload_n C dX8_payOf_66 rfl rfl ?_
    refine e_iconst (v := (nI 2)) C dX8_payOf_67 (by decide) ?_
    refine e_iload_n C dX8_payOf_68 rfl rfl ?_
    refine e_iload C dX8_payOf_69 rfl ?_
    have hb3 := hS.2.2.2 (2 * 20 + c)
    refine e_callVi C dX8_payOf_71 [.int (nI 2), .int (nI c), .int (nI 0)] (r_shown hS 2 c (nI 0) c (by omega) (by omega) (Or.inl ⟨rfl, rfl⟩)) okX8_shown lX8_115 rfl rfl rfl ⟨rfl, rfl⟩ ⟨Nat.le_of_ble_eq_true rfl, Nat.le_of_ble_eq_true rfl⟩ (Nat.le_of_ble_eq_true rfl) ⟨Nat.zero_le _, Nat.zero_le _⟩ ?_
    refine e_iaddN C dX8_payOf_74 ?_
    refine e_ialoadN C dX8_payOf_75 rfl (by omega) (by omega) ?_
    refine e_topi (nI (amt W pv k (lin P a b c))) (by rw [show 64 * (P (0 * 20 + a)) + (8 * (P (1 * 20 + b))) + (P (2 * 20 + c)) = lin P a b c by unfold lin; omega]; exact hv _ (lin_lt hS.2.2.2 _ _ _)) ?_
    refine e_iaddN C dX8_payOf_76 ?_
    refine e_istore (lv2 := [(4, .int (nI (0 + (amt W pv k (lin P a b c))))), (6, .int (nI 0)), (0, .ref 25), (1, .int (nI a)), (2, .int (nI b)), (3, .int (nI c)), (5, .int (nI 0))]) C dX8_payOf_77 (by decide) rfl ?_
    refine e_iincN (lv2 := [(5, .int (nI (0 + 1))), (4, .int (nI (0 + (amt W pv k (lin P a b c))))), (6, .int (nI 0)), (0, .ref 25), (1, .int (nI a)), (2, .int (nI b)), (3, .int (nI c))]) C dX8_payOf_79 rfl (by decide) (nI_1 _) rfl ?_
    refine e_goto (tgt := 6) C dX8_payOf_82 (by decide) ?_
    refine e_loc (lv2 := [(0, .ref 25), (1, .int (nI a)), (2, .int (nI b)), (3, .int (nI c)), (4, .int (nI (0 + (amt W pv k (lin P a b c))))), (5, .int (nI 1))]) [3, 4, 5, 6, 1, 0] rfl ?_
    refine e_iload C dX8_payOf_6 rfl ?_
    refine e_aload_n C dX8_payOf_8 rfl rfl ?_
    refine e_getI C dX8_payOf_9 fX8_31 rfl rfl ?_
    refine e_topi (nI 1) hL ?_
    refine e_icmp_geN (tgt := 85) C dX8_payOf_12 (by omega) (by omega) (by decide) (fun h12 => ?_) (fun h12 => by omega)
    refine e_iload C dX8_payOf_85 rfl ?_
    exact e_zret C dX8_payOf_87 RT rfl ⟨Nat.zero_le _, Nat.zero_le _⟩ (pi_ (congrArg nI (by unfold EE endP; simp)))
  · refine e_iconst (v := (nI 0)) C dX8_payOf_0 (by decide) ?_
    refine e_istore (lv2 := [(4, .int (nI 0)), (0, .ref 25), (1, .int (nI a)), (2, .int (nI b)), (3, .int (nI c))]) C dX8_payOf_1 (by decide) rfl ?_
    refine e_iconst (v := (nI 0)) C dX8_payOf_3 (by decide) ?_
    refine e_istore (lv2 := [(5, .int (nI 0)), (4, .int (nI 0)), (0, .ref 25), (1, .int (nI a)), (2, .int (nI b)), (3, .int (nI c))]) C dX8_payOf_4 (by decide) rfl ?_
    refine e_loc (lv2 := [(0, .ref 25), (1, .int (nI a)), (2, .int (nI b)), (3, .int (nI c)), (4, .int (nI 0)), (5, .int (nI 0))]) [2, 3, 4, 5, 1, 0] rfl ?_
    refine e_iload C dX8_payOf_6 rfl ?_
    refine e_aload_n C dX8_payOf_8 rfl rfl ?_
    refine e_getI C dX8_payOf_9 fX8_31 rfl rfl ?_
    refine e_topi (nI 2) hL ?_
    refine e_icmp_geN (tgt := 85) C dX8_payOf_12 (by omega) (by omega) (by decide) (fun h12 => by omega) (fun h12 => ?_)
    refine e_iload C dX8_payOf_15 rfl ?_
    refine e_if_neN (tgt := 24) C dX8_payOf_17 (by omega) (by decide) (fun h17 => by omega) (fun h17 => ?_)
    refine e_iconst (v := (nI 0)) C dX8_payOf_20 (by decide) ?_
    refine e_goto (tgt := 35) C dX8_payOf_21 (by decide) ?_
    refine e_istore (lv2 := [(6, .int (nI 0)), (0, .ref 25), (1, .int (nI a)), (2, .int (nI b)), (3, .int (nI c)), (4, .int (nI 0)), (5, .int (nI 0))]) C dX8_payOf_35 (by decide) rfl ?_
    refine e_iload C dX8_payOf_37 rfl ?_
    refine e_aload_n C dX8_payOf_39 rfl rfl ?_
    refine e_getR (q := 35) C dX8_payOf_40 fX8_41 rfl rfl ?_
    refine e_bipush (v := (nI 64)) C dX8_payOf_43 (by decide) ?_
    refine e_aload_n C dX8_payOf_45 rfl rfl ?_
    refine e_iconst (v := (nI 0)) C dX8_payOf_46 (by decide) ?_
    refine e_iload_n C dX8_payOf_47 rfl rfl ?_
    refine e_iload C dX8_payOf_48 rfl ?_
    have hb1 := hS.2.2.2 (0 * 20 + a)
    refine e_callVi C dX8_payOf_50 [.int (nI 0), .int (nI a), .int (nI 0)] (r_shown hS 0 a (nI 0) a (by omega) (by omega) (Or.inl ⟨rfl, rfl⟩)) okX8_shown lX8_115 rfl rfl rfl ⟨rfl, rfl⟩ ⟨Nat.le_of_ble_eq_true rfl, Nat.le_of_ble_eq_true rfl⟩ (Nat.le_of_ble_eq_true rfl) ⟨Nat.zero_le _, Nat.zero_le _⟩ ?_
    refine e_imulN C dX8_payOf_53 ?_
    refine e_bipush (v := (nI 8)) C dX8_payOf_54 (by decide) ?_
    refine e_aload_n C dX8_payOf_56 rfl rfl ?_
    refine e_iconst (v := (nI 1)) C dX8_payOf_57 (by decide) ?_
    refine e_iload_n C dX8_payOf_58 rfl rfl ?_
    refine e_iload C dX8_payOf_59 rfl ?_
    have hb2 := hS.2.2.2 (1 * 20 + b)
    refine e_callVi C dX8_payOf_61 [.int (nI 1), .int (nI b), .int (nI 0)] (r_shown hS 1 b (nI 0) b (by omega) (by omega) (Or.inl ⟨rfl, rfl⟩)) okX8_shown lX8_115 rfl rfl rfl ⟨rfl, rfl⟩ ⟨Nat.le_of_ble_eq_true rfl, Nat.le_of_ble_eq_true rfl⟩ (Nat.le_of_ble_eq_true rfl) ⟨Nat.zero_le _, Nat.zero_le _⟩ ?_
    refine e_imulN C dX8_payOf_64 ?_
    refine e_iaddN C dX8_payOf_65 ?_
    refine e_aload_n C dX8_payOf_66 rfl rfl ?_
    refine e_iconst (v := (nI 2)) C dX8_payOf_67 (by decide) ?_
    refine e_iload_n C dX8_payOf_68 rfl rfl ?_
    refine e_iload C dX8_payOf_69 rfl ?_
    have hb3 := hS.2.2.2 (2 * 20 + c)
    refine e_callVi C dX8_payOf_71 [.int (nI 2), .int (nI c), .int (nI 0)] (r_shown hS 2 c (nI 0) c (by omega) (by omega) (Or.inl ⟨rfl, rfl⟩)) okX8_shown lX8_115 rfl rfl rfl ⟨rfl, rfl⟩ ⟨Nat.le_of_ble_eq_true rfl, Nat.le_of_ble_eq_true rfl⟩ (Nat.le_of_ble_eq_true rfl) ⟨Nat.zero_le _, Nat.zero_le _⟩ ?_
    refine e_iaddN C dX8_payOf_74 ?_
    refine e_ialoadN C dX8_payOf_75 rfl (by omega) (by omega) ?_
    refine e_topi (nI (amt W pv k (lin P a b c))) (by rw [show 64 * (P (0 * 20 + a)) + (8 * (P (1 * 20 + b))) + (P (2 * 20 + c)) = lin P a b c by unfold lin; omega]; exact hv _ (lin_lt hS.2.2.2 _ _ _)) ?_
    refine e_iaddN C dX8_payOf_76 ?_
    refine e_istore (lv2 := [(4, .int (nI (0 + (amt W pv k (lin P a b c))))), (6, .int (nI 0)), (0, .ref 25), (1, .int (nI a)), (2, .int (nI b)), (3, .int (nI c)), (5, .int (nI 0))]) C dX8_payOf_77 (by decide) rfl ?_
    refine e_iincN (lv2 := [(5, .int (nI (0 + 1))), (4, .int (nI (0 + (amt W pv k (lin P a b c))))), (6, .int (nI 0)), (0, .ref 25), (1, .int (nI a)), (2, .int (nI b)), (3, .int (nI c))]) C dX8_payOf_79 rfl (by decide) (nI_1 _) rfl ?_
    refine e_goto (tgt := 6) C dX8_payOf_82 (by decide) ?_
    refine e_loc (lv2 := [(0, .ref 25), (1, .int (nI a)), (2, .int (nI b)), (3, .int (nI c)), (4, .int (nI (0 + (amt W pv k (lin P a b c))))), (5, .int (nI 1))]) [3, 4, 5, 6, 1, 0] rfl ?_
    refine e_iload C dX8_payOf_6 rfl ?_
    refine e_aload_n C dX8_payOf_8 rfl rfl ?_
    refine e_getI C dX8_payOf_9 fX8_31 rfl rfl ?_
    refine e_topi (nI 2) hL ?_
    refine e_icmp_geN (tgt := 85) C dX8_payOf_12 (by omega) (by omega) (by decide) (fun h12 => by omega) (fun h12 => ?_)
    refine e_iload C dX8_payOf_15 rfl ?_
    refine e_if_neN (tgt := 24) C dX8_payOf_17 (by omega) (by decide) (fun h17 => ?_) (fun h17 => by omega)
    refine e_iload C dX8_payOf_24 rfl ?_
    refine e_iconst (v := (nI 1)) C dX8_payOf_26 (by decide) ?_
    refine e_icmp_neN (tgt := 34) C dX8_payOf_27 (by omega) (by omega) (by decide) (fun h27 => by omega) (fun h27 => ?_)
    refine e_iconst (v := (-1)) C dX8_payOf_30 (by decide) ?_
    refine e_goto (tgt := 35) C dX8_payOf_31 (by decide) ?_
    refine e_istore (lv2 := [(6, .int (-1)), (0, .ref 25), (1, .int (nI a)), (2, .int (nI b)), (3, .int (nI c)), (4, .int (nI (0 + (amt W pv k (lin P a b c))))), (5, .int (nI 1))]) C dX8_payOf_35 (by decide) rfl ?_
    refine e_iload C dX8_payOf_37 rfl ?_
    refine e_aload_n C dX8_payOf_39 rfl rfl ?_
    refine e_getR (q := 35) C dX8_payOf_40 fX8_41 rfl rfl ?_
    refine e_bipush (v := (nI 64)) C dX8_payOf_43 (by decide) ?_
    refine e_aload_n C dX8_payOf_45 rfl rfl ?_
    refine e_iconst (v := (nI 0)) C dX8_payOf_46 (by decide) ?_
    refine e_iload_n C dX8_payOf_47 rfl rfl ?_
    refine e_iload C dX8_payOf_48 rfl ?_
    have hb4 := hS.2.2.2 (0 * 20 + (abv (n 0) a))
    refine e_callVi C dX8_payOf_50 [.int (nI 0), .int (nI a), .int (-1)] (r_shown hS 0 a (-1) (abv (n 0) a) (by omega) (by omega) (Or.inr (Or.inl ⟨rfl, rfl⟩))) okX8_shown lX8_115 rfl rfl rfl ⟨rfl, rfl⟩ ⟨Nat.le_of_ble_eq_true rfl, Nat.le_of_ble_eq_true rfl⟩ (Nat.le_of_ble_eq_true rfl) ⟨Nat.zero_le _, Nat.zero_le _⟩ ?_
    refine e_imulN C dX8_payOf_53 ?_
    refine e_bipush (v := (nI 8)) C dX8_payOf_54 (by decide) ?_
    refine e_aload_n C dX8_payOf_56 rfl rfl ?_
    refine e_iconst (v := (nI 1)) C dX8_payOf_57 (by decide) ?_
    refine e_iload_n C dX8_payOf_58 rfl rfl ?_
    refine e_iload C dX8_payOf_59 rfl ?_
    have hb5 := hS.2.2.2 (1 * 20 + (abv (n 1) b))
    refine e_callVi C dX8_payOf_61 [.int (nI 1), .int (nI b), .int (-1)] (r_shown hS 1 b (-1) (abv (n 1) b) (by omega) (by omega) (Or.inr (Or.inl ⟨rfl, rfl⟩))) okX8_shown lX8_115 rfl rfl rfl ⟨rfl, rfl⟩ ⟨Nat.le_of_ble_eq_true rfl, Nat.le_of_ble_eq_true rfl⟩ (Nat.le_of_ble_eq_true rfl) ⟨Nat.zero_le _, Nat.zero_le _⟩ ?_
    refine e_imulN C dX8_payOf_64 ?_
    refine e_iaddN C dX8_payOf_65 ?_
    refine e_aload_n C dX8_payOf_66 rfl rfl ?_
    refine e_iconst (v := (nI 2)) C dX8_payOf_67 (by decide) ?_
    refine e_iload_n C dX8_payOf_68 rfl rfl ?_
    refine e_iload C dX8_payOf_69 rfl ?_
    have hb6 := hS.2.2.2 (2 * 20 + (abv (n 2) c))
    refine e_callVi C dX8_payOf_71 [.int (nI 2), .int (nI c), .int (-1)] (r_shown hS 2 c (-1) (abv (n 2) c) (by omega) (by omega) (Or.inr (Or.inl ⟨rfl, rfl⟩))) okX8_shown lX8_115 rfl rfl rfl ⟨rfl, rfl⟩ ⟨Nat.le_of_ble_eq_true rfl, Nat.le_of_ble_eq_true rfl⟩ (Nat.le_of_ble_eq_true rfl) ⟨Nat.zero_le _, Nat.zero_le _⟩ ?_
    refine e_iaddN C dX8_payOf_74 ?_
    refine e_ialoadN C dX8_payOf_75 rfl (by omega) (by omega) ?_
    refine e_topi (nI (amt W pv k (lin P (abv (n 0) a) (abv (n 1) b) (abv (n 2) c)))) (by rw [show 64 * (P (0 * 20 + (abv (n 0) a))) + (8 * (P (1 * 20 + (abv (n 1) b)))) + (P (2 * 20 + (abv (n 2) c))) = lin P (abv (n 0) a) (abv (n 1) b) (abv (n 2) c) by unfold lin; omega]; exact hv _ (lin_lt hS.2.2.2 _ _ _)) ?_
    refine e_iaddN C dX8_payOf_76 ?_
    refine e_istore (lv2 := [(4, .int (nI (0 + (amt W pv k (lin P a b c)) + (amt W pv k (lin P (abv (n 0) a) (abv (n 1) b) (abv (n 2) c)))))), (6, .int (-1)), (0, .ref 25), (1, .int (nI a)), (2, .int (nI b)), (3, .int (nI c)), (5, .int (nI 1))]) C dX8_payOf_77 (by decide) rfl ?_
    refine e_iincN (lv2 := [(5, .int (nI (1 + 1))), (4, .int (nI (0 + (amt W pv k (lin P a b c)) + (amt W pv k (lin P (abv (n 0) a) (abv (n 1) b) (abv (n 2) c)))))), (6, .int (-1)), (0, .ref 25), (1, .int (nI a)), (2, .int (nI b)), (3, .int (nI c))]) C dX8_payOf_79 rfl (by decide) (nI_1 _) rfl ?_
    refine e_goto (tgt := 6) C dX8_payOf_82 (by decide) ?_
    refine e_loc (lv2 := [(0, .ref 25), (1, .int (nI a)), (2, .int (nI b)), (3, .int (nI c)), (4, .int (nI (0 + (amt W pv k (lin P a b c)) + (amt W pv k (lin P (abv (n 0) a) (abv (n 1) b) (abv (n 2) c)))))), (5, .int (nI 2))]) [3, 4, 5, 6, 1, 0] rfl ?_
    refine e_iload C dX8_payOf_6 rfl ?_
    refine e_aload_n C dX8_payOf_8 rfl rfl ?_
    refine e_getI C dX8_payOf_9 fX8_31 rfl rfl ?_
    refine e_topi (nI 2) hL ?_
    refine e_icmp_geN (tgt := 85) C dX8_payOf_12 (by omega) (by omega) (by decide) (fun h12 => ?_) (fun h12 => by omega)
    refine e_iload C dX8_payOf_85 rfl ?_
    exact e_zret C dX8_payOf_87 RT rfl ⟨Nat.zero_le _, Nat.zero_le _⟩ (pi_ (congrArg nI (by unfold EE endP; simp)))
  · refine e_iconst (v := (nI 0)) C dX8_payOf_0 (by decide) ?_
    refine e_istore (lv2 := [(4, .int (nI 0)), (0, .ref 25), (1, .int (nI a)), (2, .int (nI b)), (3, .int (nI c))]) C dX8_payOf_1 (by decide) rfl ?_
    refine e_iconst (v := (nI 0)) C dX8_payOf_3 (by decide) ?_
    refine e_istore (lv2 := [(5, .int (nI 0)), (4, .int (nI 0)), (0, .ref 25), (1, .int (nI a)), (2, .int (nI b)), (3, .int (nI c))]) C dX8_payOf_4 (by decide) rfl ?_
    refine e_loc (lv2 := [(0, .ref 25), (1, .int (nI a)), (2, .int (nI b)), (3, .int (nI c)), (4, .int (nI 0)), (5, .int (nI 0))]) [2, 3, 4, 5, 1, 0] rfl ?_
    refine e_iload C dX8_payOf_6 rfl ?_
    refine e_aload_n C dX8_payOf_8 rfl rfl ?_
    refine e_getI C dX8_payOf_9 fX8_31 rfl rfl ?_
    refine e_topi (nI 3) hL ?_
    refine e_icmp_geN (tgt := 85) C dX8_payOf_12 (by omega) (by omega) (by decide) (fun h12 => by omega) (fun h12 => ?_)
    refine e_iload C dX8_payOf_15 rfl ?_
    refine e_if_neN (tgt := 24) C dX8_payOf_17 (by omega) (by decide) (fun h17 => by omega) (fun h17 => ?_)
    refine e_iconst (v := (nI 0)) C dX8_payOf_20 (by decide) ?_
    refine e_goto (tgt := 35) C dX8_payOf_21 (by decide) ?_
    refine e_istore (lv2 := [(6, .int (nI 0)), (0, .ref 25), (1, .int (nI a)), (2, .int (nI b)), (3, .int (nI c)), (4, .int (nI 0)), (5, .int (nI 0))]) C dX8_payOf_35 (by decide) rfl ?_
    refine e_iload C dX8_payOf_37 rfl ?_
    refine e_aload_n C dX8_payOf_39 rfl rfl ?_
    refine e_getR (q := 35) C dX8_payOf_40 fX8_41 rfl rfl ?_
    refine e_bipush (v := (nI 64)) C dX8_payOf_43 (by decide) ?_
    refine e_aload_n C dX8_payOf_45 rfl rfl ?_
    refine e_iconst (v := (nI 0)) C dX8_payOf_46 (by decide) ?_
    refine e_iload_n C dX8_payOf_47 rfl rfl ?_
    refine e_iload C dX8_payOf_48 rfl ?_
    have hb1 := hS.2.2.2 (0 * 20 + a)
    refine e_callVi C dX8_payOf_50 [.int (nI 0), .int (nI a), .int (nI 0)] (r_shown hS 0 a (nI 0) a (by omega) (by omega) (Or.inl ⟨rfl, rfl⟩)) okX8_shown lX8_115 rfl rfl rfl ⟨rfl, rfl⟩ ⟨Nat.le_of_ble_eq_true rfl, Nat.le_of_ble_eq_true rfl⟩ (Nat.le_of_ble_eq_true rfl) ⟨Nat.zero_le _, Nat.zero_le _⟩ ?_
    refine e_imulN C dX8_payOf_53 ?_
    refine e_bipush (v := (nI 8)) C dX8_payOf_54 (by decide) ?_
    refine e_aload_n C dX8_payOf_56 rfl rfl ?_
    refine e_iconst (v := (nI 1)) C dX8_payOf_57 (by decide) ?_
    refine e_iload_n C dX8_payOf_58 rfl rfl ?_
    refine e_iload C dX8_payOf_59 rfl ?_
    have hb2 := hS.2.2.2 (1 * 20 + b)
    refine e_callVi C dX8_payOf_61 [.int (nI 1), .int (nI b), .int (nI 0)] (r_shown hS 1 b (nI 0) b (by omega) (by omega) (Or.inl ⟨rfl, rfl⟩)) okX8_shown lX8_115 rfl rfl rfl ⟨rfl, rfl⟩ ⟨Nat.le_of_ble_eq_true rfl, Nat.le_of_ble_eq_true rfl⟩ (Nat.le_of_ble_eq_true rfl) ⟨Nat.zero_le _, Nat.zero_le _⟩ ?_
    refine e_imulN C dX8_payOf_64 ?_
    refine e_iaddN C dX8_payOf_65 ?_
    refine e_aload_n C dX8_payOf_66 rfl rfl ?_
    refine e_iconst (v := (nI 2)) C dX8_payOf_67 (by decide) ?_
    refine e_iload_n C dX8_payOf_68 rfl rfl ?_
    refine e_iload C dX8_payOf_69 rfl ?_
    have hb3 := hS.2.2.2 (2 * 20 + c)
    refine e_callVi C dX8_payOf_71 [.int (nI 2), .int (nI c), .int (nI 0)] (r_shown hS 2 c (nI 0) c (by omega) (by omega) (Or.inl ⟨rfl, rfl⟩)) okX8_shown lX8_115 rfl rfl rfl ⟨rfl, rfl⟩ ⟨Nat.le_of_ble_eq_true rfl, Nat.le_of_ble_eq_true rfl⟩ (Nat.le_of_ble_eq_true rfl) ⟨Nat.zero_le _, Nat.zero_le _⟩ ?_
    refine e_iaddN C dX8_payOf_74 ?_
    refine e_ialoadN C dX8_payOf_75 rfl (by omega) (by omega) ?_
    refine e_topi (nI (amt W pv k (lin P a b c))) (by rw [show 64 * (P (0 * 20 + a)) + (8 * (P (1 * 20 + b))) + (P (2 * 20 + c)) = lin P a b c by unfold lin; omega]; exact hv _ (lin_lt hS.2.2.2 _ _ _)) ?_
    refine e_iaddN C dX8_payOf_76 ?_
    refine e_istore (lv2 := [(4, .int (nI (0 + (amt W pv k (lin P a b c))))), (6, .int (nI 0)), (0, .ref 25), (1, .int (nI a)), (2, .int (nI b)), (3, .int (nI c)), (5, .int (nI 0))]) C dX8_payOf_77 (by decide) rfl ?_
    refine e_iincN (lv2 := [(5, .int (nI (0 + 1))), (4, .int (nI (0 + (amt W pv k (lin P a b c))))), (6, .int (nI 0)), (0, .ref 25), (1, .int (nI a)), (2, .int (nI b)), (3, .int (nI c))]) C dX8_payOf_79 rfl (by decide) (nI_1 _) rfl ?_
    refine e_goto (tgt := 6) C dX8_payOf_82 (by decide) ?_
    refine e_loc (lv2 := [(0, .ref 25), (1, .int (nI a)), (2, .int (nI b)), (3, .int (nI c)), (4, .int (nI (0 + (amt W pv k (lin P a b c))))), (5, .int (nI 1))]) [3, 4, 5, 6, 1, 0] rfl ?_
    refine e_iload C dX8_payOf_6 rfl ?_
    refine e_aload_n C dX8_payOf_8 rfl rfl ?_
    refine e_getI C dX8_payOf_9 fX8_31 rfl rfl ?_
    refine e_topi (nI 3) hL ?_
    refine e_icmp_geN (tgt := 85) C dX8_payOf_12 (by omega) (by omega) (by decide) (fun h12 => by omega) (fun h12 => ?_)
    refine e_iload C dX8_payOf_15 rfl ?_
    refine e_if_neN (tgt := 24) C dX8_payOf_17 (by omega) (by decide) (fun h17 => ?_) (fun h17 => by omega)
    refine e_iload C dX8_payOf_24 rfl ?_
    refine e_iconst (v := (nI 1)) C dX8_payOf_26 (by decide) ?_
    refine e_icmp_neN (tgt := 34) C dX8_payOf_27 (by omega) (by omega) (by decide) (fun h27 => by omega) (fun h27 => ?_)
    refine e_iconst (v := (-1)) C dX8_payOf_30 (by decide) ?_
    refine e_goto (tgt := 35) C dX8_payOf_31 (by decide) ?_
    refine e_istore (lv2 := [(6, .int (-1)), (0, .ref 25), (1, .int (nI a)), (2, .int (nI b)), (3, .int (nI c)), (4, .int (nI (0 + (amt W pv k (lin P a b c))))), (5, .int (nI 1))]) C dX8_payOf_35 (by decide) rfl ?_
    refine e_iload C dX8_payOf_37 rfl ?_
    refine e_aload_n C dX8_payOf_39 rfl rfl ?_
    refine e_getR (q := 35) C dX8_payOf_40 fX8_41 rfl rfl ?_
    refine e_bipush (v := (nI 64)) C dX8_payOf_43 (by decide) ?_
    refine e_aload_n C dX8_payOf_45 rfl rfl ?_
    refine e_iconst (v := (nI 0)) C dX8_payOf_46 (by decide) ?_
    refine e_iload_n C dX8_payOf_47 rfl rfl ?_
    refine e_iload C dX8_payOf_48 rfl ?_
    have hb4 := hS.2.2.2 (0 * 20 + (abv (n 0) a))
    refine e_callVi C dX8_payOf_50 [.int (nI 0), .int (nI a), .int (-1)] (r_shown hS 0 a (-1) (abv (n 0) a) (by omega) (by omega) (Or.inr (Or.inl ⟨rfl, rfl⟩))) okX8_shown lX8_115 rfl rfl rfl ⟨rfl, rfl⟩ ⟨Nat.le_of_ble_eq_true rfl, Nat.le_of_ble_eq_true rfl⟩ (Nat.le_of_ble_eq_true rfl) ⟨Nat.zero_le _, Nat.zero_le _⟩ ?_
    refine e_imulN C dX8_payOf_53 ?_
    refine e_bipush (v := (nI 8)) C dX8_payOf_54 (by decide) ?_
    refine e_aload_n C dX8_payOf_56 rfl rfl ?_
    refine e_iconst (v := (nI 1)) C dX8_payOf_57 (by decide) ?_
    refine e_iload_n C dX8_payOf_58 rfl rfl ?_
    refine e_iload C dX8_payOf_59 rfl ?_
    have hb5 := hS.2.2.2 (1 * 20 + (abv (n 1) b))
    refine e_callVi C dX8_payOf_61 [.int (nI 1), .int (nI b), .int (-1)] (r_shown hS 1 b (-1) (abv (n 1) b) (by omega) (by omega) (Or.inr (Or.inl ⟨rfl, rfl⟩))) okX8_shown lX8_115 rfl rfl rfl ⟨rfl, rfl⟩ ⟨Nat.le_of_ble_eq_true rfl, Nat.le_of_ble_eq_true rfl⟩ (Nat.le_of_ble_eq_true rfl) ⟨Nat.zero_le _, Nat.zero_le _⟩ ?_
    refine e_imulN C dX8_payOf_64 ?_
    refine e_iaddN C dX8_payOf_65 ?_
    refine e_aload_n C dX8_payOf_66 rfl rfl ?_
    refine e_iconst (v := (nI 2)) C dX8_payOf_67 (by decide) ?_
    refine e_iload_n C dX8_payOf_68 rfl rfl ?_
    refine e_iload C dX8_payOf_69 rfl ?_
    have hb6 := hS.2.2.2 (2 * 20 + (abv (n 2) c))
    refine e_callVi C dX8_payOf_71 [.int (nI 2), .int (nI c), .int (-1)] (r_shown hS 2 c (-1) (abv (n 2) c) (by omega) (by omega) (Or.inr (Or.inl ⟨rfl, rfl⟩))) okX8_shown lX8_115 rfl rfl rfl ⟨rfl, rfl⟩ ⟨Nat.le_of_ble_eq_true rfl, Nat.le_of_ble_eq_true rfl⟩ (Nat.le_of_ble_eq_true rfl) ⟨Nat.zero_le _, Nat.zero_le _⟩ ?_
    refine e_iaddN C dX8_payOf_74 ?_
    refine e_ialoadN C dX8_payOf_75 rfl (by omega) (by omega) ?_
    refine e_topi (nI (amt W pv k (lin P (abv (n 0) a) (abv (n 1) b) (abv (n 2) c)))) (by rw [show 64 * (P (0 * 20 + (abv (n 0) a))) + (8 * (P (1 * 20 + (abv (n 1) b)))) + (P (2 * 20 + (abv (n 2) c))) = lin P (abv (n 0) a) (abv (n 1) b) (abv (n 2) c) by unfold lin; omega]; exact hv _ (lin_lt hS.2.2.2 _ _ _)) ?_
    refine e_iaddN C dX8_payOf_76 ?_
    refine e_istore (lv2 := [(4, .int (nI (0 + (amt W pv k (lin P a b c)) + (amt W pv k (lin P (abv (n 0) a) (abv (n 1) b) (abv (n 2) c)))))), (6, .int (-1)), (0, .ref 25), (1, .int (nI a)), (2, .int (nI b)), (3, .int (nI c)), (5, .int (nI 1))]) C dX8_payOf_77 (by decide) rfl ?_
    refine e_iincN (lv2 := [(5, .int (nI (1 + 1))), (4, .int (nI (0 + (amt W pv k (lin P a b c)) + (amt W pv k (lin P (abv (n 0) a) (abv (n 1) b) (abv (n 2) c)))))), (6, .int (-1)), (0, .ref 25), (1, .int (nI a)), (2, .int (nI b)), (3, .int (nI c))]) C dX8_payOf_79 rfl (by decide) (nI_1 _) rfl ?_
    refine e_goto (tgt := 6) C dX8_payOf_82 (by decide) ?_
    refine e_loc (lv2 := [(0, .ref 25), (1, .int (nI a)), (2, .int (nI b)), (3, .int (nI c)), (4, .int (nI (0 + (amt W pv k (lin P a b c)) + (amt W pv k (lin P (abv (n 0) a) (abv (n 1) b) (abv (n 2) c)))))), (5, .int (nI 2))]) [3, 4, 5, 6, 1, 0] rfl ?_
    refine e_iload C dX8_payOf_6 rfl ?_
    refine e_aload_n C dX8_payOf_8 rfl rfl ?_
    refine e_getI C dX8_payOf_9 fX8_31 rfl rfl ?_
    refine e_topi (nI 3) hL ?_
    refine e_icmp_geN (tgt := 85) C dX8_payOf_12 (by omega) (by omega) (by decide) (fun h12 => by omega) (fun h12 => ?_)
    refine e_iload C dX8_payOf_15 rfl ?_
    refine e_if_neN (tgt := 24) C dX8_payOf_17 (by omega) (by decide) (fun h17 => ?_) (fun h17 => by omega)
    refine e_iload C dX8_payOf_24 rfl ?_
    refine e_iconst (v := (nI 1)) C dX8_payOf_26 (by decide) ?_
    refine e_icmp_neN (tgt := 34) C dX8_payOf_27 (by omega) (by omega) (by decide) (fun h27 => ?_) (fun h27 => by omega)
    refine e_iconst (v := (nI 1)) C dX8_payOf_34 (by decide) ?_
    refine e_istore (lv2 := [(6, .int (nI 1)), (0, .ref 25), (1, .int (nI a)), (2, .int (nI b)), (3, .int (nI c)), (4, .int (nI (0 + (amt W pv k (lin P a b c)) + (amt W pv k (lin P (abv (n 0) a) (abv (n 1) b) (abv (n 2) c)))))), (5, .int (nI 2))]) C dX8_payOf_35 (by decide) rfl ?_
    refine e_iload C dX8_payOf_37 rfl ?_
    refine e_aload_n C dX8_payOf_39 rfl rfl ?_
    refine e_getR (q := 35) C dX8_payOf_40 fX8_41 rfl rfl ?_
    refine e_bipush (v := (nI 64)) C dX8_payOf_43 (by decide) ?_
    refine e_aload_n C dX8_payOf_45 rfl rfl ?_
    refine e_iconst (v := (nI 0)) C dX8_payOf_46 (by decide) ?_
    refine e_iload_n C dX8_payOf_47 rfl rfl ?_
    refine e_iload C dX8_payOf_48 rfl ?_
    have hb7 := hS.2.2.2 (0 * 20 + (blw (n 0) a))
    refine e_callVi C dX8_payOf_50 [.int (nI 0), .int (nI a), .int (nI 1)] (r_shown hS 0 a (nI 1) (blw (n 0) a) (by omega) (by omega) (Or.inr (Or.inr ⟨rfl, rfl⟩))) okX8_shown lX8_115 rfl rfl rfl ⟨rfl, rfl⟩ ⟨Nat.le_of_ble_eq_true rfl, Nat.le_of_ble_eq_true rfl⟩ (Nat.le_of_ble_eq_true rfl) ⟨Nat.zero_le _, Nat.zero_le _⟩ ?_
    refine e_imulN C dX8_payOf_53 ?_
    refine e_bipush (v := (nI 8)) C dX8_payOf_54 (by decide) ?_
    refine e_aload_n C dX8_payOf_56 rfl rfl ?_
    refine e_iconst (v := (nI 1)) C dX8_payOf_57 (by decide) ?_
    refine e_iload_n C dX8_payOf_58 rfl rfl ?_
    refine e_iload C dX8_payOf_59 rfl ?_
    have hb8 := hS.2.2.2 (1 * 20 + (blw (n 1) b))
    refine e_callVi C dX8_payOf_61 [.int (nI 1), .int (nI b), .int (nI 1)] (r_shown hS 1 b (nI 1) (blw (n 1) b) (by omega) (by omega) (Or.inr (Or.inr ⟨rfl, rfl⟩))) okX8_shown lX8_115 rfl rfl rfl ⟨rfl, rfl⟩ ⟨Nat.le_of_ble_eq_true rfl, Nat.le_of_ble_eq_true rfl⟩ (Nat.le_of_ble_eq_true rfl) ⟨Nat.zero_le _, Nat.zero_le _⟩ ?_
    refine e_imulN C dX8_payOf_64 ?_
    refine e_iaddN C dX8_payOf_65 ?_
    refine e_aload_n C dX8_payOf_66 rfl rfl ?_
    refine e_iconst (v := (nI 2)) C dX8_payOf_67 (by decide) ?_
    refine e_iload_n C dX8_payOf_68 rfl rfl ?_
    refine e_iload C dX8_payOf_69 rfl ?_
    have hb9 := hS.2.2.2 (2 * 20 + (blw (n 2) c))
    refine e_callVi C dX8_payOf_71 [.int (nI 2), .int (nI c), .int (nI 1)] (r_shown hS 2 c (nI 1) (blw (n 2) c) (by omega) (by omega) (Or.inr (Or.inr ⟨rfl, rfl⟩))) okX8_shown lX8_115 rfl rfl rfl ⟨rfl, rfl⟩ ⟨Nat.le_of_ble_eq_true rfl, Nat.le_of_ble_eq_true rfl⟩ (Nat.le_of_ble_eq_true rfl) ⟨Nat.zero_le _, Nat.zero_le _⟩ ?_
    refine e_iaddN C dX8_payOf_74 ?_
    refine e_ialoadN C dX8_payOf_75 rfl (by omega) (by omega) ?_
    refine e_topi (nI (amt W pv k (lin P (blw (n 0) a) (blw (n 1) b) (blw (n 2) c)))) (by rw [show 64 * (P (0 * 20 + (blw (n 0) a))) + (8 * (P (1 * 20 + (blw (n 1) b)))) + (P (2 * 20 + (blw (n 2) c))) = lin P (blw (n 0) a) (blw (n 1) b) (blw (n 2) c) by unfold lin; omega]; exact hv _ (lin_lt hS.2.2.2 _ _ _)) ?_
    refine e_iaddN C dX8_payOf_76 ?_
    refine e_istore (lv2 := [(4, .int (nI (0 + (amt W pv k (lin P a b c)) + (amt W pv k (lin P (abv (n 0) a) (abv (n 1) b) (abv (n 2) c))) + (amt W pv k (lin P (blw (n 0) a) (blw (n 1) b) (blw (n 2) c)))))), (6, .int (nI 1)), (0, .ref 25), (1, .int (nI a)), (2, .int (nI b)), (3, .int (nI c)), (5, .int (nI 2))]) C dX8_payOf_77 (by decide) rfl ?_
    refine e_iincN (lv2 := [(5, .int (nI (2 + 1))), (4, .int (nI (0 + (amt W pv k (lin P a b c)) + (amt W pv k (lin P (abv (n 0) a) (abv (n 1) b) (abv (n 2) c))) + (amt W pv k (lin P (blw (n 0) a) (blw (n 1) b) (blw (n 2) c)))))), (6, .int (nI 1)), (0, .ref 25), (1, .int (nI a)), (2, .int (nI b)), (3, .int (nI c))]) C dX8_payOf_79 rfl (by decide) (nI_1 _) rfl ?_
    refine e_goto (tgt := 6) C dX8_payOf_82 (by decide) ?_
    refine e_loc (lv2 := [(0, .ref 25), (1, .int (nI a)), (2, .int (nI b)), (3, .int (nI c)), (4, .int (nI (0 + (amt W pv k (lin P a b c)) + (amt W pv k (lin P (abv (n 0) a) (abv (n 1) b) (abv (n 2) c))) + (amt W pv k (lin P (blw (n 0) a) (blw (n 1) b) (blw (n 2) c)))))), (5, .int (nI 3))]) [3, 4, 5, 6, 1, 0] rfl ?_
    refine e_iload C dX8_payOf_6 rfl ?_
    refine e_aload_n C dX8_payOf_8 rfl rfl ?_
    refine e_getI C dX8_payOf_9 fX8_31 rfl rfl ?_
    refine e_topi (nI 3) hL ?_
    refine e_icmp_geN (tgt := 85) C dX8_payOf_12 (by omega) (by omega) (by decide) (fun h12 => ?_) (fun h12 => by omega)
    refine e_iload C dX8_payOf_85 rfl ?_
    exact e_zret C dX8_payOf_87 RT rfl ⟨Nat.zero_le _, Nat.zero_le _⟩ (pi_ (congrArg nI (by unfold EE endP; simp)))
theorem fitW_iff {x : Int32} (h : okW x) (p : Nat) : fitW x p = true ↔ (x < 0 ∨ x = nI p) := by
  unfold fitW
  simp only [Bool.or_eq_true, decide_eq_true_eq]
  have e1 : (-1 : Int32).toInt = -1 := rfl
  have e0 : (0 : Int32).toInt = 0 := rfl
  have h9 : x < 0 ↔ x = -1 := by
    rw [Int32.lt_iff_toInt_lt, ← Int32.toInt_inj, e1, e0]
    rcases h with rfl | h
    · rw [e1]; omega
    · omega
  rw [h9]
def fit3 (W : Nat → Nat → Int32) (a b c i : Nat) : Bool := fitW (W i 0) a && fitW (W i 1) b && fitW (W i 2) c
set_option maxHeartbeats 4000000 in
set_option maxRecDepth 100000 in
theorem r_rowOf {w : Bool} {M : Mm} {k : Nat} {W : Nat → Nat → Int32} {pv : Nat → Nat} (hT : RtOK M k W pv) (a b c : Nat) (ha : a < 8) (hb : b < 8) (hc : c < 8) : CT mX8_rowOf [.ref 25, .int (nI a), .int (nI b), .int (nI c)] (shF w) M (Pi (oI (fstb (fit3 W a b c) k)) (shF w) M) := by
  refine CT.mk (lv := [(0, .ref 25), (1, .int (nI a)), (2, .int (nI b)), (3, .int (nI c))]) rfl (by decide +kernel) (Nat.le_of_ble_eq_true rfl) ?_
  intro X C RT
  obtain ⟨t1, t2, t3, t4, t5⟩ := id hT
  refine e_iconst (v := (nI 0)) C dX8_rowOf_0 (by decide) ?_
  refine e_istore (lv2 := [(4, .int (nI 0)), (0, .ref 25), (1, .int (nI a)), (2, .int (nI b)), (3, .int (nI c))]) C dX8_rowOf_1 (by decide) rfl ?_
  refine e_loc [1, 2, 3, 4, 0] rfl ?_
  have lp : ∀ (i : Nat) , i ≤ k → fstb (fit3 W a b c) i = none → Wd X (0, 0) 3 [(0, .ref 25), (1, .int (nI a)), (2, .int (nI b)), (3, .int (nI c)), (4, .int (nI i))] [] (shF w) M := by
    intro i
    induction hq_lp : k - i using Nat.strongRecOn generalizing i with
    | ind k_lp ih_lp =>
      intro hi hi9
      refine e_iload C dX8_rowOf_3 rfl ?_
      refine e_aload_n C dX8_rowOf_5 rfl rfl ?_
      refine e_getI C dX8_rowOf_6 fX8_110 rfl rfl ?_
      refine e_topi (nI k) t1 ?_
      refine e_icmp_geN (tgt := 84) C dX8_rowOf_9 (by omega) (by omega) (by decide) (fun h9 => ?_) (fun h9 => ?_)
      · refine e_iconst (v := (-1)) C dX8_rowOf_84 (by decide) ?_
        exact e_zret C dX8_rowOf_85 RT rfl ⟨Nat.zero_le _, Nat.zero_le _⟩ (pi_ (by rw [show k = i by omega, hi9]; rfl))
      · obtain ⟨o0, o1, o2⟩ := t5 i (by omega)
        refine e_aload_n C dX8_rowOf_12 rfl rfl ?_
        refine e_getR (q := 29) C dX8_rowOf_13 fX8_19 rfl rfl ?_
        refine e_iload C dX8_rowOf_16 rfl ?_
        refine e_ialoadN C dX8_rowOf_18 rfl (by omega) (by omega) ?_
        refine e_topi (W i 0) (t3 i (by omega)).1 ?_
        refine e_if_lt (x := (W i 0)) (tgt := 33) C dX8_rowOf_19 (by decide) (fun h19 => ?_) (fun h19 => ?_)
        · refine e_aload_n C dX8_rowOf_33 rfl rfl ?_
          refine e_getR (q := 30) C dX8_rowOf_34 fX8_22 rfl rfl ?_
          refine e_iload C dX8_rowOf_37 rfl ?_
          refine e_ialoadN C dX8_rowOf_39 rfl (by omega) (by omega) ?_
          refine e_topi (W i 1) (t3 i (by omega)).2.1 ?_
          refine e_if_lt (x := (W i 1)) (tgt := 54) C dX8_rowOf_40 (by decide) (fun h40 => ?_) (fun h40 => ?_)
          · refine e_aload_n C dX8_rowOf_54 rfl rfl ?_
            refine e_getR (q := 31) C dX8_rowOf_55 fX8_25 rfl rfl ?_
            refine e_iload C dX8_rowOf_58 rfl ?_
            refine e_ialoadN C dX8_rowOf_60 rfl (by omega) (by omega) ?_
            refine e_topi (W i 2) (t3 i (by omega)).2.2.1 ?_
            refine e_if_lt (x := (W i 2)) (tgt := 75) C dX8_rowOf_61 (by decide) (fun h61 => ?_) (fun h61 => ?_)
            · refine e_iload C dX8_rowOf_75 rfl ?_
              exact e_zret C dX8_rowOf_77 RT rfl ⟨Nat.zero_le _, Nat.zero_le _⟩ (pi_ (by rw [fstb_first hi9 (by unfold fit3; simp only [((fitW_iff o0 _).mpr (Or.inl h19)), ((fitW_iff o1 _).mpr (Or.inl h40)), ((fitW_iff o2 _).mpr (Or.inl h61)), Bool.and_self]) (show i < k by omega)]; rfl))
            · refine e_aload_n C dX8_rowOf_64 rfl rfl ?_
              refine e_getR (q := 31) C dX8_rowOf_65 fX8_25 rfl rfl ?_
              refine e_iload C dX8_rowOf_68 rfl ?_
              refine e_ialoadN C dX8_rowOf_70 rfl (by omega) (by omega) ?_
              refine e_topi (W i 2) (t3 i (by omega)).2.2.1 ?_
              refine e_iload_n C dX8_rowOf_71 rfl rfl ?_
              refine e_icmp_ne (x := (W i 2)) (y := (nI c)) (tgt := 78) C dX8_rowOf_72 (by decide) (fun h72 => ?_) (fun h72 => ?_)
              · refine e_iincN (lv2 := [(4, .int (nI (i + 1))), (0, .ref 25), (1, .int (nI a)), (2, .int (nI b)), (3, .int (nI c))]) C dX8_rowOf_78 rfl (by decide) (nI_1 _) rfl ?_
                refine e_goto (tgt := 3) C dX8_rowOf_81 (by decide) ?_
                have hfl : fit3 W a b c i = false := by
                  unfold fit3; rw [Bool.eq_false_iff]; intro h8; simp only [Bool.and_eq_true] at h8
                  rcases (fitW_iff o2 _).mp h8.2 with h7 | h7
                  · exact h61 h7
                  · exact h72 h7
                refine e_loc [1, 2, 3, 4, 0] rfl ?_
                exact ih_lp (k - (i + 1)) (by omega) (i + 1) rfl (by omega) (fstb_next hi9 hfl)
              · refine e_iload C dX8_rowOf_75 rfl ?_
                exact e_zret C dX8_rowOf_77 RT rfl ⟨Nat.zero_le _, Nat.zero_le _⟩ (pi_ (by rw [fstb_first hi9 (by unfold fit3; simp only [((fitW_iff o0 _).mpr (Or.inl h19)), ((fitW_iff o1 _).mpr (Or.inl h40)), ((fitW_iff o2 _).mpr (Or.inr h72)), Bool.and_self]) (show i < k by omega)]; rfl))
          · refine e_aload_n C dX8_rowOf_43 rfl rfl ?_
            refine e_getR (q := 30) C dX8_rowOf_44 fX8_22 rfl rfl ?_
            refine e_iload C dX8_rowOf_47 rfl ?_
            refine e_ialoadN C dX8_rowOf_49 rfl (by omega) (by omega) ?_
            refine e_topi (W i 1) (t3 i (by omega)).2.1 ?_
            refine e_iload_n C dX8_rowOf_50 rfl rfl ?_
            refine e_icmp_ne (x := (W i 1)) (y := (nI b)) (tgt := 78) C dX8_rowOf_51 (by decide) (fun h51 => ?_) (fun h51 => ?_)
            · refine e_iincN (lv2 := [(4, .int (nI (i + 1))), (0, .ref 25), (1, .int (nI a)), (2, .int (nI b)), (3, .int (nI c))]) C dX8_rowOf_78 rfl (by decide) (nI_1 _) rfl ?_
              refine e_goto (tgt := 3) C dX8_rowOf_81 (by decide) ?_
              have hfl : fit3 W a b c i = false := by
                unfold fit3; rw [Bool.eq_false_iff]; intro h8; simp only [Bool.and_eq_true] at h8
                rcases (fitW_iff o1 _).mp h8.1.2 with h7 | h7
                · exact h40 h7
                · exact h51 h7
              refine e_loc [1, 2, 3, 4, 0] rfl ?_
              exact ih_lp (k - (i + 1)) (by omega) (i + 1) rfl (by omega) (fstb_next hi9 hfl)
            · refine e_aload_n C dX8_rowOf_54 rfl rfl ?_
              refine e_getR (q := 31) C dX8_rowOf_55 fX8_25 rfl rfl ?_
              refine e_iload C dX8_rowOf_58 rfl ?_
              refine e_ialoadN C dX8_rowOf_60 rfl (by omega) (by omega) ?_
              refine e_topi (W i 2) (t3 i (by omega)).2.2.1 ?_
              refine e_if_lt (x := (W i 2)) (tgt := 75) C dX8_rowOf_61 (by decide) (fun h61 => ?_) (fun h61 => ?_)
              · refine e_iload C dX8_rowOf_75 rfl ?_
                exact e_zret C dX8_rowOf_77 RT rfl ⟨Nat.zero_le _, Nat.zero_le _⟩ (pi_ (by rw [fstb_first hi9 (by unfold fit3; simp only [((fitW_iff o0 _).mpr (Or.inl h19)), ((fitW_iff o1 _).mpr (Or.inr h51)), ((fitW_iff o2 _).mpr (Or.inl h61)), Bool.and_self]) (show i < k by omega)]; rfl))
              · refine e_aload_n C dX8_rowOf_64 rfl rfl ?_
                refine e_getR (q := 31) C dX8_rowOf_65 fX8_25 rfl rfl ?_
                refine e_iload C dX8_rowOf_68 rfl ?_
                refine e_ialoadN C dX8_rowOf_70 rfl (by omega) (by omega) ?_
                refine e_topi (W i 2) (t3 i (by omega)).2.2.1 ?_
                refine e_iload_n C dX8_rowOf_71 rfl rfl ?_
                refine e_icmp_ne (x := (W i 2)) (y := (nI c)) (tgt := 78) C dX8_rowOf_72 (by decide) (fun h72 => ?_) (fun h72 => ?_)
                · refine e_iincN (lv2 := [(4, .int (nI (i + 1))), (0, .ref 25), (1, .int (nI a)), (2, .int (nI b)), (3, .int (nI c))]) C dX8_rowOf_78 rfl (by decide) (nI_1 _) rfl ?_
                  refine e_goto (tgt := 3) C dX8_rowOf_81 (by decide) ?_
                  have hfl : fit3 W a b c i = false := by
                    unfold fit3; rw [Bool.eq_false_iff]; intro h8; simp only [Bool.and_eq_true] at h8
                    rcases (fitW_iff o2 _).mp h8.2 with h7 | h7
                    · exact h61 h7
                    · exact h72 h7
                  refine e_loc [1, 2, 3, 4, 0] rfl ?_
                  exact ih_lp (k - (i + 1)) (by omega) (i + 1) rfl (by omega) (fstb_next hi9 hfl)
                · refine e_iload C dX8_rowOf_75 rfl ?_
                  exact e_zret C dX8_rowOf_77 RT rfl ⟨Nat.zero_le _, Nat.zero_le _⟩ (pi_ (by rw [fstb_first hi9 (by unfold fit3; simp only [((fitW_iff o0 _).mpr (Or.inl h19)), ((fitW_iff o1 _).mpr (Or.inr h51)), ((fitW_iff o2 _).mpr (Or.inr h72)), Bool.and_self]) (show i < k by omega)]; rfl))
        · refine e_aload_n C dX8_rowOf_22 rfl rfl ?_
          refine e_getR (q := 29) C dX8_rowOf_23 fX8_19 rfl rfl ?_
          refine e_iload C dX8_rowOf_26 rfl ?_
          refine e_ialoadN C dX8_rowOf_28 rfl (by omega) (by omega) ?_
          refine e_topi (W i 0) (t3 i (by omega)).1 ?_
          refine e_iload_n C dX8_rowOf_29 rfl rfl ?_
          refine e_icmp_ne (x := (W i 0)) (y := (nI a)) (tgt := 78) C dX8_rowOf_30 (by decide) (fun h30 => ?_) (fun h30 => ?_)
          · refine e_iincN (lv2 := [(4, .int (nI (i + 1))), (0, .ref 25), (1, .int (nI a)), (2, .int (nI b)), (3, .int (nI c))]) C dX8_rowOf_78 rfl (by decide) (nI_1 _) rfl ?_
            refine e_goto (tgt := 3) C dX8_rowOf_81 (by decide) ?_
            have hfl : fit3 W a b c i = false := by
              unfold fit3; rw [Bool.eq_false_iff]; intro h8; simp only [Bool.and_eq_true] at h8
              rcases (fitW_iff o0 _).mp h8.1.1 with h7 | h7
              · exact h19 h7
              · exact h30 h7
            refine e_loc [1, 2, 3, 4, 0] rfl ?_
            exact ih_lp (k - (i + 1)) (by omega) (i + 1) rfl (by omega) (fstb_next hi9 hfl)
          · refine e_aload_n C dX8_rowOf_33 rfl rfl ?_
            refine e_getR (q := 30) C dX8_rowOf_34 fX8_22 rfl rfl ?_
            refine e_iload C dX8_rowOf_37 rfl ?_
            refine e_ialoadN C dX8_rowOf_39 rfl (by omega) (by omega) ?_
            refine e_topi (W i 1) (t3 i (by omega)).2.1 ?_
            refine e_if_lt (x := (W i 1)) (tgt := 54) C dX8_rowOf_40 (by decide) (fun h40 => ?_) (fun h40 => ?_)
            · refine e_aload_n C dX8_rowOf_54 rfl rfl ?_
              refine e_getR (q := 31) C dX8_rowOf_55 fX8_25 rfl rfl ?_
              refine e_iload C dX8_rowOf_58 rfl ?_
              refine e_ialoadN C dX8_rowOf_60 rfl (by omega) (by omega) ?_
              refine e_topi (W i 2) (t3 i (by omega)).2.2.1 ?_
              refine e_if_lt (x := (W i 2)) (tgt := 75) C dX8_rowOf_61 (by decide) (fun h61 => ?_) (fun h61 => ?_)
              · refine e_iload C dX8_rowOf_75 rfl ?_
                exact e_zret C dX8_rowOf_77 RT rfl ⟨Nat.zero_le _, Nat.zero_le _⟩ (pi_ (by rw [fstb_first hi9 (by unfold fit3; simp only [((fitW_iff o0 _).mpr (Or.inr h30)), ((fitW_iff o1 _).mpr (Or.inl h40)), ((fitW_iff o2 _).mpr (Or.inl h61)), Bool.and_self]) (show i < k by omega)]; rfl))
              · refine e_aload_n C dX8_rowOf_64 rfl rfl ?_
                refine e_getR (q := 31) C dX8_rowOf_65 fX8_25 rfl rfl ?_
                refine e_iload C dX8_rowOf_68 rfl ?_
                refine e_ialoadN C dX8_rowOf_70 rfl (by omega) (by omega) ?_
                refine e_topi (W i 2) (t3 i (by omega)).2.2.1 ?_
                refine e_iload_n C dX8_rowOf_71 rfl rfl ?_
                refine e_icmp_ne (x := (W i 2)) (y := (nI c)) (tgt := 78) C dX8_rowOf_72 (by decide) (fun h72 => ?_) (fun h72 => ?_)
                · refine e_iincN (lv2 := [(4, .int (nI (i + 1))), (0, .ref 25), (1, .int (nI a)), (2, .int (nI b)), (3, .int (nI c))]) C dX8_rowOf_78 rfl (by decide) (nI_1 _) rfl ?_
                  refine e_goto (tgt := 3) C dX8_rowOf_81 (by decide) ?_
                  have hfl : fit3 W a b c i = false := by
                    unfold fit3; rw [Bool.eq_false_iff]; intro h8; simp only [Bool.and_eq_true] at h8
                    rcases (fitW_iff o2 _).mp h8.2 with h7 | h7
                    · exact h61 h7
                    · exact h72 h7
                  refine e_loc [1, 2, 3, 4, 0] rfl ?_
                  exact ih_lp (k - (i + 1)) (by omega) (i + 1) rfl (by omega) (fstb_next hi9 hfl)
                · refine e_iload C dX8_rowOf_75 rfl ?_
                  exact e_zret C dX8_rowOf_77 RT rfl ⟨Nat.zero_le _, Nat.zero_le _⟩ (pi_ (by rw [fstb_first hi9 (by unfold fit3; simp only [((fitW_iff o0 _).mpr (Or.inr h30)), ((fitW_iff o1 _).mpr (Or.inl h40)), ((fitW_iff o2 _).mpr (Or.inr h72)), Bool.and_self]) (show i < k by omega)]; rfl))
            · refine e_aload_n C dX8_rowOf_43 rfl rfl ?_
              refine e_getR (q := 30) C dX8_rowOf_44 fX8_22 rfl rfl ?_
              refine e_iload C dX8_rowOf_47 rfl ?_
              refine e_ialoadN C dX8_rowOf_49 rfl (by omega) (by omega) ?_
              refine e_topi (W i 1) (t3 i (by omega)).2.1 ?_
              refine e_iload_n C dX8_rowOf_50 rfl rfl ?_
              refine e_icmp_ne (x := (W i 1)) (y := (nI b)) (tgt := 78) C dX8_rowOf_51 (by decide) (fun h51 => ?_) (fun h51 => ?_)
              · refine e_iincN (lv2 := [(4, .int (nI (i + 1))), (0, .ref 25), (1, .int (nI a)), (2, .int (nI b)), (3, .int (nI c))]) C dX8_rowOf_78 rfl (by decide) (nI_1 _) rfl ?_
                refine e_goto (tgt := 3) C dX8_rowOf_81 (by decide) ?_
                have hfl : fit3 W a b c i = false := by
                  unfold fit3; rw [Bool.eq_false_iff]; intro h8; simp only [Bool.and_eq_true] at h8
                  rcases (fitW_iff o1 _).mp h8.1.2 with h7 | h7
                  · exact h40 h7
                  · exact h51 h7
                refine e_loc [1, 2, 3, 4, 0] rfl ?_
                exact ih_lp (k - (i + 1)) (by omega) (i + 1) rfl (by omega) (fstb_next hi9 hfl)
              · refine e_aload_n C dX8_rowOf_54 rfl rfl ?_
                refine e_getR (q := 31) C dX8_rowOf_55 fX8_25 rfl rfl ?_
                refine e_iload C dX8_rowOf_58 rfl ?_
                refine e_ialoadN C dX8_rowOf_60 rfl (by omega) (by omega) ?_
                refine e_topi (W i 2) (t3 i (by omega)).2.2.1 ?_
                refine e_if_lt (x := (W i 2)) (tgt := 75) C dX8_rowOf_61 (by decide) (fun h61 => ?_) (fun h61 => ?_)
                · refine e_iload C dX8_rowOf_75 rfl ?_
                  exact e_zret C dX8_rowOf_77 RT rfl ⟨Nat.zero_le _, Nat.zero_le _⟩ (pi_ (by rw [fstb_first hi9 (by unfold fit3; simp only [((fitW_iff o0 _).mpr (Or.inr h30)), ((fitW_iff o1 _).mpr (Or.inr h51)), ((fitW_iff o2 _).mpr (Or.inl h61)), Bool.and_self]) (show i < k by omega)]; rfl))
                · refine e_aload_n C dX8_rowOf_64 rfl rfl ?_
                  refine e_getR (q := 31) C dX8_rowOf_65 fX8_25 rfl rfl ?_
                  refine e_iload C dX8_rowOf_68 rfl ?_
                  refine e_ialoadN C dX8_rowOf_70 rfl (by omega) (by omega) ?_
                  refine e_topi (W i 2) (t3 i (by omega)).2.2.1 ?_
                  refine e_iload_n C dX8_rowOf_71 rfl rfl ?_
                  refine e_icmp_ne (x := (W i 2)) (y := (nI c)) (tgt := 78) C dX8_rowOf_72 (by decide) (fun h72 => ?_) (fun h72 => ?_)
                  · refine e_iincN (lv2 := [(4, .int (nI (i + 1))), (0, .ref 25), (1, .int (nI a)), (2, .int (nI b)), (3, .int (nI c))]) C dX8_rowOf_78 rfl (by decide) (nI_1 _) rfl ?_
                    refine e_goto (tgt := 3) C dX8_rowOf_81 (by decide) ?_
                    have hfl : fit3 W a b c i = false := by
                      unfold fit3; rw [Bool.eq_false_iff]; intro h8; simp only [Bool.and_eq_true] at h8
                      rcases (fitW_iff o2 _).mp h8.2 with h7 | h7
                      · exact h61 h7
                      · exact h72 h7
                    refine e_loc [1, 2, 3, 4, 0] rfl ?_
                    exact ih_lp (k - (i + 1)) (by omega) (i + 1) rfl (by omega) (fstb_next hi9 hfl)
                  · refine e_iload C dX8_rowOf_75 rfl ?_
                    exact e_zret C dX8_rowOf_77 RT rfl ⟨Nat.zero_le _, Nat.zero_le _⟩ (pi_ (by rw [fstb_first hi9 (by unfold fit3; simp only [((fitW_iff o0 _).mpr (Or.inr h30)), ((fitW_iff o1 _).mpr (Or.inr h51)), ((fitW_iff o2 _).mpr (Or.inr h72)), Bool.and_self]) (show i < k by omega)]; rfl))
  exact lp 0 (by omega) rfl
