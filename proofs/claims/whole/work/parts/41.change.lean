theorem cntb_up {f g : Nat → Bool} {s : Nat} (h : ∀ i, i ≠ s → g i = f i) : ∀ {k : Nat}, s < k → cntb g k + (if f s then 1 else 0) = cntb f k + (if g s then 1 else 0)
  | 0, hk => absurd hk (by omega)
  | k + 1, hk => by
    simp only [cntb]
    by_cases e : s = k
    · subst e
      rw [cntb_congr (f := g) (g := f) (fun i hi => h i (by omega))]; omega
    · have h1 := cntb_up h (show s < k by omega)
      rw [h k (by omega)]; omega
theorem mid_up {n P : Nat → Nat} {r s p : Nat} (hs : s < n r) (q : Nat) : mid n (va_up P (r * 20 + s) p) r q + (if P (r * 20 + s) = q then 1 else 0) = mid n P r q + (if p = q then 1 else 0) := by
  have h := cntb_up (f := fun i => decide (P (r * 20 + i) = q)) (g := fun i => decide (va_up P (r * 20 + s) p (r * 20 + i) = q)) (s := s) (fun i hi => by rw [up_n _ _ (by omega)]) hs
  simp only [up_s, decide_eq_true_eq] at h
  exact h
theorem mid_ne {n P : Nat → Nat} {r s p x : Nat} (hx : x ≠ r) (hn : n x ≤ 20) (hs : s < 20) (q : Nat) : mid n (va_up P (r * 20 + s) p) x q = mid n P x q := by
  unfold mid
  exact cntb_congr (fun i hi => by rw [up_n _ _ (by omega)])
def mdU (f : Nat → Int32) (t q : Nat) : Nat → Int32 := upd (upd f t (f t - nI 1)) q (upd f t (f t - nI 1) q + nI 1)
theorem mdU_back (f : Nat → Int32) (t q : Nat) : upd (upd (mdU f t q) t (mdU f t q t + nI 1)) q (upd (mdU f t q) t (mdU f t q t + nI 1) q - nI 1) = f := by
  funext j
  unfold mdU
  by_cases e : t = q
  · subst e
    by_cases ej : j = t
    · subst ej; simp only [upd_s]; rw [Int32.sub_add_cancel, Int32.add_sub_cancel]
    · simp only [upd_n _ _ ej]
  · have e2 : ¬ q = t := fun h => e h.symm
    by_cases ej : j = t
    · subst ej
      rw [upd_n _ _ e, upd_s, upd_n _ _ e, upd_s, Int32.sub_add_cancel]
    · by_cases eq : j = q
      · subst eq
        rw [upd_s, upd_n _ _ e2, upd_s, upd_n _ _ e2, Int32.add_sub_cancel]
      · rw [upd_n _ _ eq, upd_n _ _ ej, upd_n _ _ eq, upd_n _ _ ej]
theorem mdU_mid {n P : Nat → Nat} {f : Nat → Int32} {r s p : Nat} (hf : ∀ x, x < 3 → ∀ q, q < 8 → f (8 * x + q) = nI (mid n P x q)) (hr : r < 3) (hs : s < n r) (hn : ∀ x, x < 3 → n x ≤ 20) (hp : p < 8) (ht : P (r * 20 + s) < 8) : ∀ x, x < 3 → ∀ q, q < 8 → mdU f (8 * r + P (r * 20 + s)) (8 * r + p) (8 * x + q) = nI (mid n (va_up P (r * 20 + s) p) x q) := by
  intro x hx q hq
  have hsr := hn r hr
  unfold mdU
  by_cases ex : x = r
  · subst ex
    have h := mid_up (n := n) (P := P) (p := p) hs q
    by_cases e1 : p = q
    · subst e1
      rw [upd_s]
      by_cases e2 : P (x * 20 + s) = p
      · rw [e2, upd_s, Int32.sub_add_cancel, hf x hx p hp]
        rw [if_pos e2, if_pos rfl] at h
        congr 1; omega
      · rw [upd_n _ _ (by omega), hf x hx p hp, nI_add]
        rw [if_neg e2, if_pos rfl] at h
        congr 1; omega
    · rw [upd_n _ _ (by omega)]
      by_cases e2 : P (x * 20 + s) = q
      · rw [if_pos e2, if_neg e1] at h
        rw [e2, upd_s, hf x hx q hq, pk_sub (by omega)]
        congr 1; omega
      · rw [if_neg e2, if_neg e1] at h
        rw [upd_n _ _ (by omega), hf x hx q hq]
        congr 1; omega
  · rw [upd_n _ _ (by omega), upd_n _ _ (by omega), hf x hx q hq, mid_ne ex (hn x hx) (by omega)]
theorem sumN_swap (f : Nat → Nat → Nat) (b : Nat) : ∀ a, sumN (fun i => sumN (fun j => f i j) b) a = sumN (fun j => sumN (fun i => f i j) a) b
  | 0 => by simp only [sumN]; exact (sumN_zero (fun _ => rfl)).symm
  | a + 1 => by
    simp only [sumN]
    rw [sumN_swap f b a, ← sumN_add]
theorem tot_wgt {n Q A : Nat → Nat} {r : Nat} (hr : r < 3) : tot n (fun a b c => A (lin Q a b c)) = sumN (fun i => wgt n Q A r (Q (r * 20 + i))) (n r) := by
  rcases (show r = 0 ∨ r = 1 ∨ r = 2 by omega) with rfl | rfl | rfl
  · rfl
  · exact sumN_swap (fun a b => sumN (fun c => A (lin Q a b c)) (n 2)) (n 1) (n 0)
  · refine Eq.trans ?_ (sumN_swap (fun a c => sumN (fun b => A (lin Q a b c)) (n 1)) (n 2) (n 0))
    exact sumN_congr (fun a _ => sumN_swap (fun b c => A (lin Q a b c)) (n 2) (n 1))
theorem wgt_up {n P A : Nat → Nat} {r s v : Nat} (hr : r < 3) (hs : s < 20) (hn : ∀ x, x < 3 → n x ≤ 20) (p : Nat) : wgt n (va_up P (r * 20 + s) v) A r p = wgt n P A r p := by
  have n0 := hn 0 (by decide)
  have n1 := hn 1 (by decide)
  have n2 := hn 2 (by decide)
  unfold wgt
  refine sumN_congr (fun i hi => sumN_congr (fun j hj => ?_))
  rcases (show r = 0 ∨ r = 1 ∨ r = 2 by omega) with rfl | rfl | rfl
  · have hi : i < n 1 := hi
    have hj : j < n 2 := hj
    show A (ln3 0 p (va_up P (0 * 20 + s) v (1 * 20 + i)) (va_up P (0 * 20 + s) v (2 * 20 + j))) = A (ln3 0 p (P (1 * 20 + i)) (P (2 * 20 + j)))
    rw [up_n _ _ (by omega), up_n _ _ (by omega)]
  · have hi : i < n 0 := hi
    have hj : j < n 2 := hj
    show A (ln3 1 p (va_up P (1 * 20 + s) v (0 * 20 + i)) (va_up P (1 * 20 + s) v (2 * 20 + j))) = A (ln3 1 p (P (0 * 20 + i)) (P (2 * 20 + j)))
    rw [up_n _ _ (by omega), up_n _ _ (by omega)]
  · have hi : i < n 0 := hi
    have hj : j < n 1 := hj
    show A (ln3 2 p (va_up P (2 * 20 + s) v (0 * 20 + i)) (va_up P (2 * 20 + s) v (1 * 20 + j))) = A (ln3 2 p (P (0 * 20 + i)) (P (1 * 20 + j)))
    rw [up_n _ _ (by omega), up_n _ _ (by omega)]
theorem bck_tot {n P A : Nat → Nat} {r s p : Nat} (hr : r < 3) (hs : s < n r) (hn : ∀ x, x < 3 → n x ≤ 20) : tot n (fun a b c => A (lin (va_up P (r * 20 + s) p) a b c)) = sumN (fun i => wgt n P A r (P (r * 20 + i))) (n r) - wgt n P A r (P (r * 20 + s)) + wgt n P A r p := by
  have hsr := hn r hr
  rw [tot_wgt hr]
  have e1 : sumN (fun i => wgt n (va_up P (r * 20 + s) p) A r (va_up P (r * 20 + s) p (r * 20 + i))) (n r) = sumN (va_up (fun i => wgt n P A r (P (r * 20 + i))) s (wgt n P A r p)) (n r) := by
    refine sumN_congr (fun i hi => ?_)
    rw [wgt_up hr (by omega) hn]
    by_cases e : i = s
    · subst e; rw [up_s, up_s]
    · rw [up_n _ _ (by omega), up_n _ _ e]
  have e2 := sumN_up (f := fun i => wgt n P A r (P (r * 20 + i))) (v := wgt n P A r p) hs
  have e3 := sumN_mem (f := fun i => wgt n P A r (P (r * 20 + i))) hs
  rw [e1]

  omega
theorem bck_eq {n P A : Nat → Nat} {r s p L : Nat} (hr : r < 3) (hs : s < n r) (hn : ∀ x, x < 3 → n x ≤ 20) (hL : 0 < L) : tot n (fun a b c => A (lin (va_up P (r * 20 + s) p) a b c)) * L * 1000 / (prd n 7 3 * L) = bck n P A r s p := by
  rw [bck_tot hr hs hn, Nat.mul_assoc, Nat.mul_comm L 1000, ← Nat.mul_assoc, Nat.mul_div_mul_right _ _ hL]
  rfl
theorem r_inJ {sh : List Sh} {M : Mm} (v a : Int32) : CT mX8_in [.long v.toInt64, .long a.toInt64, .long (lN 10000000)] sh M (Pi (bI (decide (inn v a.toInt 10000000))) sh M) := by
  have h := r_inI (sh := sh) (M := M) v a (nI 10000000); rw [← lN_I (by omega), nI_toInt (by omega)] at h; exact h
set_option maxHeartbeats 1000000 in
set_option maxRecDepth 100000 in
theorem r_sumBC {w : Bool} {M : Mm} {n Q A : Nat → Nat} {L : Nat} (hv : ∀ l, l < 512 → gI M 35 l = nI (A l)) (hA : ∀ l, A l ≤ 10000) (hm : ∀ x, x < 3 → ∀ q, q < 8 → gI M 39 (8 * x + q) = nI (mid n Q x q)) (hn : ∀ x, x < 3 → n x ≤ 20) (hQ : ∀ j, Q j < 8) (hL : gI M 25 8 = nI L) (hL3 : L ≤ 3) : CT mX8_sumByCounts [.ref 25] (shF w) M (Pl (lN (tot n (fun a b c => A (lin Q a b c)) * L)) (shF w) M) := by
  refine CT.mk (lv := [(0, .ref 25)]) rfl (by decide +kernel) (Nat.le_of_ble_eq_true rfl) ?_
  intro X C RT
  have n0 := hn 0 (by decide)
  have n1 := hn 1 (by decide)
  have n2 := hn 2 (by decide)
  refine e_lconst (v := lN 0) C dX8_sumByCounts_0 (by decide) ?_
  refine e_lstore_n (lv2 := [(1, .long (lN 0)), (0, .ref 25)]) C dX8_sumByCounts_1 rfl (by decide) rfl ?_
  refine e_iconst (v := (nI 0)) C dX8_sumByCounts_2 (by decide) ?_
  refine e_istore_n (lv2 := [(3, .int (nI 0)), (1, .long (lN 0)), (0, .ref 25)]) C dX8_sumByCounts_3 rfl (by decide) rfl ?_
  refine e_loc [2, 1, 0] rfl ?_
  have lp : ∀ (l : Nat) (x9 : Nat), l ≤ 512 → x9 = sumN (fun l => A l * mid n Q 0 (l / 64) * mid n Q 1 (l / 8 % 8) * mid n Q 2 (l % 8)) l → Wd X (0, 0) 4 [(0, .ref 25), (1, .long (lN x9)), (3, .int (nI l))] [] (shF w) M := by
    intro l
    induction hq_lp : 512 - l using Nat.strongRecOn generalizing l with
    | ind k_lp ih_lp =>
      intro x9 hl hx9
      have q0 := mid_le n Q 0 (l / 64)
      have q1 := mid_le n Q 1 (l / 8 % 8)
      have q2 := mid_le n Q 2 (l % 8)
      have hAl := hA l
      refine e_iload_n C dX8_sumByCounts_4 rfl rfl ?_
      refine e_sipush (v := (nI 512)) C dX8_sumByCounts_5 (by decide) ?_
      refine e_icmp_geN (tgt := 69) C dX8_sumByCounts_8 (by omega) (by omega) (by decide) (fun h8 => ?_) (fun h8 => ?_)
      · refine e_lload_n C dX8_sumByCounts_69 rfl rfl ?_
        refine e_aload_n C dX8_sumByCounts_70 rfl rfl ?_
        refine e_getI C dX8_sumByCounts_71 fX8_31 rfl rfl ?_
        refine e_topi (nI L) hL ?_
        refine e_i2lN C dX8_sumByCounts_74 (by omega) ?_
        refine e_lmulN C dX8_sumByCounts_75 ?_
        exact e_lret C dX8_sumByCounts_76 RT ⟨Nat.zero_le _, Nat.zero_le _⟩ (pl_ (congrArg lN (congrArg (· * L) (by rw [hx9, show l = 512 by omega, lin_sum hQ A]; exact sumN_congr (fun i _ => by simp only [Nat.mul_assoc])))))
      · refine e_lload_n C dX8_sumByCounts_11 rfl rfl ?_
        refine e_aload_n C dX8_sumByCounts_12 rfl rfl ?_
        refine e_getR (q := 35) C dX8_sumByCounts_13 fX8_41 rfl rfl ?_
        refine e_iload_n C dX8_sumByCounts_16 rfl rfl ?_
        refine e_ialoadN C dX8_sumByCounts_17 rfl (by omega) (by omega) ?_
        refine e_topi (nI (A l)) (hv l (by omega)) ?_
        refine e_i2lN C dX8_sumByCounts_18 (by omega) ?_
        refine e_aload_n C dX8_sumByCounts_19 rfl rfl ?_
        refine e_getR (q := 39) C dX8_sumByCounts_20 fX8_54 rfl rfl ?_
        refine e_iload_n C dX8_sumByCounts_23 rfl rfl ?_
        refine e_bipush (v := (nI 64)) C dX8_sumByCounts_24 (by decide) ?_
        refine e_idivN C dX8_sumByCounts_26 (by omega) (by omega) (by omega) ?_
        refine e_ialoadN C dX8_sumByCounts_27 rfl (by omega) (by omega) ?_
        refine e_topi (nI (mid n Q 0 (l / 64))) ((congrArg (gI M 39) (show l / 64 = 8 * 0 + l / 64 by omega)).trans (hm 0 (by decide) (l / 64) (by omega))) ?_
        refine e_i2lN C dX8_sumByCounts_28 (by omega) ?_
        refine e_lmulN C dX8_sumByCounts_29 ?_
        refine e_aload_n C dX8_sumByCounts_30 rfl rfl ?_
        refine e_getR (q := 39) C dX8_sumByCounts_31 fX8_54 rfl rfl ?_
        refine e_bipush (v := (nI 8)) C dX8_sumByCounts_34 (by decide) ?_
        refine e_iload_n C dX8_sumByCounts_36 rfl rfl ?_
        refine e_bipush (v := (nI 8)) C dX8_sumByCounts_37 (by decide) ?_
        refine e_idivN C dX8_sumByCounts_39 (by omega) (by omega) (by omega) ?_
        refine e_bipush (v := (nI 8)) C dX8_sumByCounts_40 (by decide) ?_
        refine e_iremN C dX8_sumByCounts_42 (by omega) (by omega) (by omega) ?_
        refine e_iaddN C dX8_sumByCounts_43 ?_
        refine e_ialoadN C dX8_sumByCounts_44 rfl (by omega) (by omega) ?_
        refine e_topi (nI (mid n Q 1 (l / 8 % 8))) ((congrArg (gI M 39) (show 8 + ((l / 8) % 8) = 8 * 1 + l / 8 % 8 by omega)).trans (hm 1 (by decide) (l / 8 % 8) (by omega))) ?_
        refine e_i2lN C dX8_sumByCounts_45 (by omega) ?_
        refine e_lmulN C dX8_sumByCounts_46 ?_
        refine e_aload_n C dX8_sumByCounts_47 rfl rfl ?_
        refine e_getR (q := 39) C dX8_sumByCounts_48 fX8_54 rfl rfl ?_
        refine e_bipush (v := (nI 16)) C dX8_sumByCounts_51 (by decide) ?_
        refine e_iload_n C dX8_sumByCounts_53 rfl rfl ?_
        refine e_bipush (v := (nI 8)) C dX8_sumByCounts_54 (by decide) ?_
        refine e_iremN C dX8_sumByCounts_56 (by omega) (by omega) (by omega) ?_
        refine e_iaddN C dX8_sumByCounts_57 ?_
        refine e_ialoadN C dX8_sumByCounts_58 rfl (by omega) (by omega) ?_
        refine e_topi (nI (mid n Q 2 (l % 8))) ((congrArg (gI M 39) (show 16 + (l % 8) = 8 * 2 + l % 8 by omega)).trans (hm 2 (by decide) (l % 8) (by omega))) ?_
        refine e_i2lN C dX8_sumByCounts_59 (by omega) ?_
        refine e_lmulN C dX8_sumByCounts_60 ?_
        refine e_laddN C dX8_sumByCounts_61 ?_
        refine e_lstore_n (lv2 := [(1, .long (lN (x9 + ((((A l) * (mid n Q 0 (l / 64))) * (mid n Q 1 (l / 8 % 8))) * (mid n Q 2 (l % 8)))))), (0, .ref 25), (3, .int (nI l))]) C dX8_sumByCounts_62 rfl (by decide) rfl ?_
        refine e_iincN (lv2 := [(3, .int (nI (l + 1))), (1, .long (lN (x9 + ((((A l) * (mid n Q 0 (l / 64))) * (mid n Q 1 (l / 8 % 8))) * (mid n Q 2 (l % 8)))))), (0, .ref 25)]) C dX8_sumByCounts_63 rfl (by decide) (nI_1 _) rfl ?_
        refine e_goto (tgt := 4) C dX8_sumByCounts_66 (by decide) ?_
        refine e_loc [2, 1, 0] rfl ?_
        exact ih_lp (512 - (l + 1)) (by omega) (l + 1) rfl (x9 + ((((A l) * (mid n Q 0 (l / 64))) * (mid n Q 1 (l / 8 % 8))) * (mid n Q 2 (l % 8)))) (by omega) (by rw [hx9]; rfl)
  exact lp 0 0 (by omega) rfl
set_option maxHeartbeats 1000000 in
set_option maxRecDepth 100000 in
theorem q_change {w : Bool} {M : Mm} {n P cnt : Nat → Nat} {k : Nat} {W : Nat → Nat → Int32} {pv : Nat → Nat} {L R H : Nat} {z : Nat → Int32} {g : Nat} {q : Nat → Nat → Nat} (hI : RInv M (n, P, cnt, k, W, pv, L, R, H, z, g, q))  (r lo hi : Int32) : CT mX8_change [.ref 25, .int r, .int lo, .int hi] (shF w) M (Qi (spChange (n, P, cnt, k, W, pv, L, R, H, z, g, q) r lo hi).1 (shF w) (fun m0 => RInv m0 (spChange (n, P, cnt, k, W, pv, L, R, H, z, g, q) r lo hi).2 ∧ FrR M m0)) := by
  refine CT.mk (lv := [(0, .ref 25), (1, .int r), (2, .int lo), (3, .int hi)]) rfl (by decide +kernel) (Nat.le_of_ble_eq_true rfl) ?_
  intro X C RT
  obtain ⟨hB, hCt, hF, hH, hG, hQ⟩ := id hI
  obtain ⟨hS, hT, hL, hL1, hL3⟩ := id hB
  have n0 := hS.2.1 0 (by decide)
  have n1 := hS.2.1 1 (by decide)
  have n2 := hS.2.1 2 (by decide)
  have hA : ∀ l, amt W pv k l ≤ 10000 := fun l => amt_le (fun i hi => hT.2.2.2.1 i hi)
  have hnn : ∀ x, x < 3 → n x ≤ 20 := fun x hx => (hS.2.1 x hx).2
  have hN1 := prd_le n0.2 n1.2 n2.2 7
  have hN0 := prd_pos (n := n) (by omega) (by omega) (by omega)
  have hNL : prd n 7 3 * L ≤ 8000 * 3 := Nat.mul_le_mul hN1 hL3
  have hNL0 : 0 < prd n 7 3 * L := Nat.mul_pos hN0 (by omega)
  refine e_iload_n C dX8_change_0 rfl rfl ?_
  refine e_callSi C dX8_change_1 [.int r] (r_isReel r) okX8_isReel lX8_85 rfl ⟨rfl, rfl⟩ ⟨Nat.le_of_ble_eq_true rfl, Nat.le_of_ble_eq_true rfl⟩ (Nat.le_of_ble_eq_true rfl) ⟨Nat.zero_le _, Nat.zero_le _⟩ ?_
  refine e_if_eqB (b := decide (inn r 0 2)) (tgt := 32) C dX8_change_4 (by decide) (fun h4 => ?_) (fun h4 => ?_)
  · refine e_bipush (v := (-2)) C dX8_change_32 (by decide) ?_
    exact e_zret C dX8_change_34 RT rfl ⟨Nat.zero_le _, Nat.zero_le _⟩ (rri (if_neg (fun h9 => dec_f h4 h9.1)) hI (Same.rf _ M))
  · refine e_iload_n C dX8_change_7 rfl rfl ?_
    refine e_i2l C dX8_change_8 ?_
    refine e_lconst (v := lN 0) C dX8_change_9 (by decide) ?_
    refine e_ldc2 (v := lN 10000000) C dX8_change_10 kX8_170 ?_
    refine e_callSi C dX8_change_13 [.long lo.toInt64, .long (lN 0), .long (lN 10000000)] (r_inN lo 0 10000000 (by omega) (by omega)) okX8_in lX8_81 rfl ⟨rfl, rfl⟩ ⟨Nat.le_of_ble_eq_true rfl, Nat.le_of_ble_eq_true rfl⟩ (Nat.le_of_ble_eq_true rfl) ⟨Nat.zero_le _, Nat.zero_le _⟩ ?_
    refine e_if_eqB (b := decide (inn lo (0 : Nat) (10000000 : Nat))) (tgt := 32) C dX8_change_16 (by decide) (fun h16 => ?_) (fun h16 => ?_)
    · refine e_bipush (v := (-2)) C dX8_change_32 (by decide) ?_
      exact e_zret C dX8_change_34 RT rfl ⟨Nat.zero_le _, Nat.zero_le _⟩ (rri (if_neg (fun h9 => dec_f h16 h9.2.1)) hI (Same.rf _ M))
    · refine e_iload_n C dX8_change_19 rfl rfl ?_
      refine e_i2l C dX8_change_20 ?_
      refine e_iload_n C dX8_change_21 rfl rfl ?_
      refine e_i2l C dX8_change_22 ?_
      refine e_ldc2 (v := lN 10000000) C dX8_change_23 kX8_170 ?_
      refine e_callSi C dX8_change_26 [.long hi.toInt64, .long lo.toInt64, .long (lN 10000000)] (r_inJ hi lo) okX8_in lX8_81 rfl ⟨rfl, rfl⟩ ⟨Nat.le_of_ble_eq_true rfl, Nat.le_of_ble_eq_true rfl⟩ (Nat.le_of_ble_eq_true rfl) ⟨Nat.zero_le _, Nat.zero_le _⟩ ?_
      refine e_if_neB (b := decide (inn hi lo.toInt 10000000)) (tgt := 35) C dX8_change_29 (by decide) (fun h29 => ?_) (fun h29 => ?_)
      · have h25 := dec_t h29
        obtain ⟨hi9, l_hi9, u_hi9, rfl⟩ := inn_N (b := 10000000) h25 (dec_t h16).1
        obtain ⟨lo9, l_lo9, u_lo9, rfl⟩ := inn_N (b := 10000000) (dec_t h16) (by decide)
        obtain ⟨r9, l_r9, u_r9, rfl⟩ := inn_N (b := 2) (dec_t h4) (by decide)
        have hn9 := hS.2.1 r9 (by omega)
        refine e_aload_n C dX8_change_35 rfl rfl ?_
        refine e_callVvQ C dX8_change_36 [] (r_layOut hB hF) okX8_layOut lX8_139 rfl rfl rfl ⟨rfl, rfl⟩ ⟨Nat.le_of_ble_eq_true rfl, Nat.le_of_ble_eq_true rfl⟩ (Nat.le_of_ble_eq_true rfl) ⟨Nat.zero_le _, Nat.zero_le _⟩ (fun M1 hM1 => ?_)
        obtain ⟨hI, hf9⟩ := RInv.lo hI hM1
        obtain ⟨hB, hCt, hF, hH, hG, hQ⟩ := id hI
        obtain ⟨hS, hT, hL, hL1, hL3⟩ := id hB
        have n0 := hS.2.1 0 (by decide)
        have n1 := hS.2.1 1 (by decide)
        have n2 := hS.2.1 2 (by decide)
        have hl := hM1.1
        refine e_iconst (v := (nI 0)) C dX8_change_39 (by decide) ?_
        refine e_istore (lv2 := [(4, .int (nI 0)), (0, .ref 25), (1, .int (nI r9)), (2, .int (nI lo9)), (3, .int (nI hi9))]) C dX8_change_40 (by decide) rfl ?_
        refine e_loc [1, 2, 3, 4, 0] rfl ?_
        have la : ∀ (i : Nat) (My : Mm), i ≤ 24 → (∀ j, j < i → gI My 39 j = nI (mid n P (j / 8) (j % 8))) → Same [39] M1 My → Wd X (0, 0) 42 [(0, .ref 25), (1, .int (nI r9)), (2, .int (nI lo9)), (3, .int (nI hi9)), (4, .int (nI i))] [] (shF w) My := by
          intro i
          induction hq_la : 24 - i using Nat.strongRecOn generalizing i with
          | ind k_la ih_la =>
            intro My hi8 hmy hsy
            have hS : RsOK My n P := hS.sm hsy (by decide)
            refine e_iload C dX8_change_42 rfl ?_
            refine e_bipush (v := (nI 24)) C dX8_change_44 (by decide) ?_
            refine e_icmp_geN (tgt := 76) C dX8_change_46 (by omega) (by omega) (by decide) (fun h46 => ?_) (fun h46 => ?_)
            · refine e_iconst (v := (nI 0)) C dX8_change_76 (by decide) ?_
              refine e_istore (lv2 := [(4, .int (nI 0)), (0, .ref 25), (1, .int (nI r9)), (2, .int (nI lo9)), (3, .int (nI hi9))]) C dX8_change_77 (by decide) rfl ?_
              have hmz0 : (∀ x, x < 3 → ∀ q, q < 8 → gI My 39 (8 * x + q) = nI (mid n P x q)) := fun x hx q hq => by have h9 := hmy (8 * x + q) (by omega); rw [show (8 * x + q) / 8 = x by omega, show (8 * x + q) % 8 = q by omega] at h9; exact h9
              refine e_loc [1, 2, 3, 4, 0] rfl ?_
              have lb : ∀ (s : Nat) (Mx : Mm), s ≤ n r9 → fstb (chg n P (amt W pv k) r9 lo9 hi9) (s * 8) = none → (∀ x, x < 3 → ∀ q, q < 8 → gI Mx 39 (8 * x + q) = nI (mid n P x q)) → Same [39] M1 Mx → Wd X (0, 0) 79 [(0, .ref 25), (1, .int (nI r9)), (2, .int (nI lo9)), (3, .int (nI hi9)), (4, .int (nI s))] [] (shF w) Mx := by
                intro s
                induction hq_lb : n r9 - s using Nat.strongRecOn generalizing s with
                | ind k_lb ih_lb =>
                  intro Mx hs7 hs8 hmx hsx
                  have hS : RsOK Mx n P := hI.sm hsx (by decide) |>.1.1
                  refine e_iload C dX8_change_79 rfl ?_
                  refine e_aload_n C dX8_change_81 rfl rfl ?_
                  refine e_getR (q := 26) C dX8_change_82 fX8_7 rfl rfl ?_
                  refine e_iload_n C dX8_change_85 rfl rfl ?_
                  refine e_ialoadN C dX8_change_86 rfl (by omega) (by omega) ?_
                  refine e_topi (nI (n r9)) (hS.1 r9 (by omega)) ?_
                  refine e_icmp_geN (tgt := 240) C dX8_change_87 (by omega) (by omega) (by decide) (fun h87 => ?_) (fun h87 => ?_)
                  · refine e_iconst (v := (-1)) C dX8_change_240 (by decide) ?_
                    exact e_zret C dX8_change_241 RT rfl ⟨Nat.zero_le _, Nat.zero_le _⟩ (rri ((if_pos ⟨dec_t h4, dec_t h16, h25⟩).trans (by rw [tn_nI (q := r9) (by omega), tn_nI (q := lo9) (by omega), tn_nI (q := hi9) (by omega), show n r9 * 8 = s * 8 by omega, hs8, chA])) (hI.sm hsx (by decide)) (hf9.tr (hsx.up (by decide))))
                  · have hp8 := hS.2.2.2 (r9 * 20 + s)
                    refine e_aload_n C dX8_change_90 rfl rfl ?_
                    refine e_getR (q := 27) C dX8_change_91 fX8_13 rfl rfl ?_
                    refine e_bipush (v := (nI 20)) C dX8_change_94 (by decide) ?_
                    refine e_iload_n C dX8_change_96 rfl rfl ?_
                    refine e_imulN C dX8_change_97 ?_
                    refine e_iload C dX8_change_98 rfl ?_
                    refine e_iaddN C dX8_change_100 ?_
                    refine e_ialoadN C dX8_change_101 rfl (by omega) (by omega) ?_
                    refine e_topi (nI (P (r9 * 20 + s))) (by rw [show 20 * r9 + s = r9 * 20 + s by omega]; exact hS.2.2.1 r9 (by omega) s (by omega)) ?_
                    refine e_istore (lv2 := [(5, .int (nI (P (r9 * 20 + s)))), (0, .ref 25), (1, .int (nI r9)), (2, .int (nI lo9)), (3, .int (nI hi9)), (4, .int (nI s))]) C dX8_change_102 (by decide) rfl ?_
                    refine e_iconst (v := (nI 0)) C dX8_change_104 (by decide) ?_
                    refine e_istore (lv2 := [(6, .int (nI 0)), (5, .int (nI (P (r9 * 20 + s)))), (0, .ref 25), (1, .int (nI r9)), (2, .int (nI lo9)), (3, .int (nI hi9)), (4, .int (nI s))]) C dX8_change_105 (by decide) rfl ?_
                    refine e_loc [2, 3, 4, 5, 6, 1, 0] rfl ?_
                    have lc : ∀ (p : Nat) (Mz : Mm), p ≤ 8 → fstb (chg n P (amt W pv k) r9 lo9 hi9) (s * 8 + p) = none → (∀ x, x < 3 → ∀ q, q < 8 → gI Mz 39 (8 * x + q) = nI (mid n P x q)) → Same [39] M1 Mz → Wd X (0, 0) 107 [(0, .ref 25), (1, .int (nI r9)), (2, .int (nI lo9)), (3, .int (nI hi9)), (4, .int (nI s)), (5, .int (nI (P (r9 * 20 + s)))), (6, .int (nI p))] [] (shF w) Mz := by
                      intro p
                      induction hq_lc : 8 - p using Nat.strongRecOn generalizing p with
                      | ind k_lc ih_lc =>
                        intro Mz hp hp9 hmz hsz
                        refine e_iload C dX8_change_107 rfl ?_
                        refine e_bipush (v := (nI 8)) C dX8_change_109 (by decide) ?_
                        refine e_icmp_geN (tgt := 234) C dX8_change_111 (by omega) (by omega) (by decide) (fun h111 => ?_) (fun h111 => ?_)
                        · refine e_iincN (lv2 := [(4, .int (nI (s + 1))), (0, .ref 25), (1, .int (nI r9)), (2, .int (nI lo9)), (3, .int (nI hi9)), (5, .int (nI (P (r9 * 20 + s)))), (6, .int (nI p))]) C dX8_change_234 rfl (by decide) (nI_1 _) rfl ?_
                          refine e_goto (tgt := 79) C dX8_change_237 (by decide) ?_
                          refine e_loc [1, 2, 3, 4, 0] rfl ?_
                          exact ih_lb (n r9 - (s + 1)) (by omega) (s + 1) rfl Mz (by omega) (by rw [show (s + 1) * 8 = s * 8 + p by omega]; exact hp9) hmz hsz
                        · refine e_aload_n C dX8_change_114 rfl rfl ?_
                          refine e_getR (q := 39) C dX8_change_115 fX8_54 rfl rfl ?_
                          refine e_bipush (v := (nI 8)) C dX8_change_118 (by decide) ?_
                          refine e_iload_n C dX8_change_120 rfl rfl ?_
                          refine e_imulN C dX8_change_121 ?_
                          refine e_iload C dX8_change_122 rfl ?_
                          refine e_iaddN C dX8_change_124 ?_
                          refine e_dup2 C dX8_change_125 rfl rfl ?_
                          refine e_ialoadN C dX8_change_126 rfl (by omega) (by omega) ?_
                          refine e_iconst (v := (nI 1)) C dX8_change_127 (by decide) ?_
                          refine e_isub C dX8_change_128 ?_
                          refine e_iastoreN C dX8_change_129 rfl (by omega) (by omega) ?_
                          refine e_nm (fun M2 hM2 => ?_)
                          refine e_aload_n C dX8_change_130 rfl rfl ?_
                          refine e_getR (q := 39) C dX8_change_131 fX8_54 rfl rfl ?_
                          refine e_bipush (v := (nI 8)) C dX8_change_134 (by decide) ?_
                          refine e_iload_n C dX8_change_136 rfl rfl ?_
                          refine e_imulN C dX8_change_137 ?_
                          refine e_iload C dX8_change_138 rfl ?_
                          refine e_iaddN C dX8_change_140 ?_
                          refine e_dup2 C dX8_change_141 rfl rfl ?_
                          refine e_ialoadN C dX8_change_142 rfl (by omega) (by omega) ?_
                          refine e_iconst (v := (nI 1)) C dX8_change_143 (by decide) ?_
                          refine e_iadd C dX8_change_144 ?_
                          refine e_iastoreN C dX8_change_145 rfl (by omega) (by omega) ?_
                          refine e_nm (fun M3 hM3 => ?_)
                          have ef2 : gI M3 39 = mdU (gI Mz 39) (8 * r9 + P (r9 * 20 + s)) (8 * r9 + p) := by rw [hM3, gI_sI, hM2, gI_sI]; rfl
                          have hs2 : Same [39] M1 M3 := by rw [hM3, hM2]; exact (hsz.I (by decide)).I (by decide)
                          have hmd : ∀ x, x < 3 → ∀ q, q < 8 → gI M3 39 (8 * x + q) = nI (mid n (va_up P (r9 * 20 + s) p) x q) := by rw [ef2]; exact mdU_mid hmz (by omega) (by omega) hnn (by omega) hp8
                          have hS : RsOK M3 n P := (hI.sm hs2 (by decide)).1.1
                          have hQ8 : ∀ j, va_up P (r9 * 20 + s) p j < 8 := fun j => by by_cases e : j = r9 * 20 + s; (rw [e, up_s]; omega); (rw [up_n _ _ e]; exact hS.2.2.2 j)
                          have hvv : ∀ l, l < 512 → gI M3 35 l = nI (amt W pv k l) := fun l hl9 => by rw [hs2.gI (by decide)]; exact (hl.1 l hl9).2
                          have hLL : gI M3 25 8 = nI L := by rw [hs2.gI (by decide)]; exact hL
                          have htt := tot_le (f := fun a b c => amt W pv k (lin (va_up P (r9 * 20 + s) p) a b c)) n0.2 n1.2 n2.2 (fun a b c => hA _)
                          have htL := Nat.mul_le_mul htt hL3
                          refine e_aload_n C dX8_change_146 rfl rfl ?_
                          refine e_callVl C dX8_change_147 [] (r_sumBC (n := n) (Q := va_up P (r9 * 20 + s) p) (A := amt W pv k) (L := L) hvv hA hmd hnn hQ8 hLL hL3) okX8_sumByCounts lX8_172 rfl rfl rfl ⟨rfl, rfl⟩ ⟨Nat.le_of_ble_eq_true rfl, Nat.le_of_ble_eq_true rfl⟩ (Nat.le_of_ble_eq_true rfl) ⟨Nat.zero_le _, Nat.zero_le _⟩ ?_
                          refine e_ldc2 (v := lN 1000) C dX8_change_150 kX8_153 ?_
                          refine e_lmulN C dX8_change_153 ?_
                          refine e_aload_n C dX8_change_154 rfl rfl ?_
                          refine e_callVi C dX8_change_155 [] (r_allEndings hS) okX8_allEndings lX8_149 rfl rfl rfl ⟨rfl, rfl⟩ ⟨Nat.le_of_ble_eq_true rfl, Nat.le_of_ble_eq_true rfl⟩ (Nat.le_of_ble_eq_true rfl) ⟨Nat.zero_le _, Nat.zero_le _⟩ ?_
                          refine e_i2lN C dX8_change_158 (by omega) ?_
                          refine e_aload_n C dX8_change_159 rfl rfl ?_
                          refine e_getI C dX8_change_160 fX8_31 rfl rfl ?_
                          refine e_topi (nI L) hLL ?_
                          refine e_i2lN C dX8_change_163 (by omega) ?_
                          refine e_lmulN C dX8_change_164 ?_
                          refine e_ldivN C dX8_change_165 (by omega) (by omega) (by omega) ?_
                          refine e_topl (lN (bck n P (amt W pv k) r9 s p)) (congrArg lN (bck_eq (by omega) (by omega) hnn (by omega))) ?_
                          have hbl : bck n P (amt W pv k) r9 s p < 2 ^ 62 := by rw [← bck_eq (L := L) (by omega) (by omega) hnn (by omega)]; exact Nat.lt_of_le_of_lt (Nat.div_le_self _ _) (by omega)
                          refine e_lstore (lv2 := [(7, .long (lN (bck n P (amt W pv k) r9 s p))), (0, .ref 25), (1, .int (nI r9)), (2, .int (nI lo9)), (3, .int (nI hi9)), (4, .int (nI s)), (5, .int (nI (P (r9 * 20 + s)))), (6, .int (nI p))]) C dX8_change_166 (by decide) rfl ?_
                          refine e_aload_n C dX8_change_168 rfl rfl ?_
                          refine e_getR (q := 39) C dX8_change_169 fX8_54 rfl rfl ?_
                          refine e_bipush (v := (nI 8)) C dX8_change_172 (by decide) ?_
                          refine e_iload_n C dX8_change_174 rfl rfl ?_
                          refine e_imulN C dX8_change_175 ?_
                          refine e_iload C dX8_change_176 rfl ?_
                          refine e_iaddN C dX8_change_178 ?_
                          refine e_dup2 C dX8_change_179 rfl rfl ?_
                          refine e_ialoadN C dX8_change_180 rfl (by omega) (by omega) ?_
                          refine e_iconst (v := (nI 1)) C dX8_change_181 (by decide) ?_
                          refine e_iadd C dX8_change_182 ?_
                          refine e_iastoreN C dX8_change_183 rfl (by omega) (by omega) ?_
                          refine e_nm (fun M4 hM4 => ?_)
                          refine e_aload_n C dX8_change_184 rfl rfl ?_
                          refine e_getR (q := 39) C dX8_change_185 fX8_54 rfl rfl ?_
                          refine e_bipush (v := (nI 8)) C dX8_change_188 (by decide) ?_
                          refine e_iload_n C dX8_change_190 rfl rfl ?_
                          refine e_imulN C dX8_change_191 ?_
                          refine e_iload C dX8_change_192 rfl ?_
                          refine e_iaddN C dX8_change_194 ?_
                          refine e_dup2 C dX8_change_195 rfl rfl ?_
                          refine e_ialoadN C dX8_change_196 rfl (by omega) (by omega) ?_
                          refine e_iconst (v := (nI 1)) C dX8_change_197 (by decide) ?_
                          refine e_isub C dX8_change_198 ?_
                          refine e_iastoreN C dX8_change_199 rfl (by omega) (by omega) ?_
                          refine e_nm (fun M5 hM5 => ?_)
                          have ef4 : gI M5 39 = gI Mz 39 := by rw [hM5, gI_sI, hM4, gI_sI, ef2]; exact mdU_back _ _ _
                          have hs4 : Same [39] M1 M5 := by rw [hM5, hM4]; exact (hs2.I (by decide)).I (by decide)
                          have hm4 : (∀ x, x < 3 → ∀ q, q < 8 → gI M5 39 (8 * x + q) = nI (mid n P x q)) := by rw [ef4]; exact hmz
                          refine e_iload C dX8_change_200 rfl ?_
                          refine e_iload C dX8_change_202 rfl ?_
                          refine e_icmp_eqN (tgt := 228) C dX8_change_204 (by omega) (by omega) (by decide) (fun h204 => ?_) (fun h204 => ?_)
                          · refine e_iincN (lv2 := [(6, .int (nI (p + 1))), (7, .long (lN (bck n P (amt W pv k) r9 s p))), (0, .ref 25), (1, .int (nI r9)), (2, .int (nI lo9)), (3, .int (nI hi9)), (4, .int (nI s)), (5, .int (nI (P (r9 * 20 + s))))]) C dX8_change_228 rfl (by decide) (nI_1 _) rfl ?_
                            refine e_goto (tgt := 107) C dX8_change_231 (by decide) ?_
                            refine e_loc [2, 3, 4, 5, 6, 7, 0] rfl ?_
                            exact ih_lc (8 - (p + 1)) (by omega) (p + 1) rfl M5 (by omega) (fstb_next (j := s * 8 + p) hp9 (by rw [chg_at (by omega)]; exact decide_eq_false (by omega))) hm4 hs4
                          · refine e_lload C dX8_change_207 rfl ?_
                            refine e_iload_n C dX8_change_209 rfl rfl ?_
                            refine e_i2lN C dX8_change_210 (by omega) ?_
                            refine e_iload_n C dX8_change_211 rfl rfl ?_
                            refine e_i2lN C dX8_change_212 (by omega) ?_
                            refine e_callSi C dX8_change_213 [.long (lN (bck n P (amt W pv k) r9 s p)), .long (lN lo9), .long (lN hi9)] (r_inL (bck n P (amt W pv k) r9 s p) lo9 hi9 (by omega) (by omega) (by omega)) okX8_in lX8_81 rfl ⟨rfl, rfl⟩ ⟨Nat.le_of_ble_eq_true rfl, Nat.le_of_ble_eq_true rfl⟩ (Nat.le_of_ble_eq_true rfl) ⟨Nat.zero_le _, Nat.zero_le _⟩ ?_
                            refine e_if_eqB (b := decide (lo9 ≤ bck n P (amt W pv k) r9 s p ∧ bck n P (amt W pv k) r9 s p ≤ hi9)) (tgt := 228) C dX8_change_216 (by decide) (fun h216 => ?_) (fun h216 => ?_)
                            · refine e_iincN (lv2 := [(6, .int (nI (p + 1))), (7, .long (lN (bck n P (amt W pv k) r9 s p))), (0, .ref 25), (1, .int (nI r9)), (2, .int (nI lo9)), (3, .int (nI hi9)), (4, .int (nI s)), (5, .int (nI (P (r9 * 20 + s))))]) C dX8_change_228 rfl (by decide) (nI_1 _) rfl ?_
                              refine e_goto (tgt := 107) C dX8_change_231 (by decide) ?_
                              refine e_loc [2, 3, 4, 5, 6, 7, 0] rfl ?_
                              exact ih_lc (8 - (p + 1)) (by omega) (p + 1) rfl M5 (by omega) (fstb_next (j := s * 8 + p) hp9 (by rw [chg_at (by omega)]; exact decide_eq_false (by have h9 := dec_f h216; omega))) hm4 hs4
                            · refine e_bipush (v := (nI 10)) C dX8_change_219 (by decide) ?_
                              refine e_iload C dX8_change_221 rfl ?_
                              refine e_imulN C dX8_change_223 ?_
                              refine e_iload C dX8_change_224 rfl ?_
                              refine e_iaddN C dX8_change_226 ?_
                              exact e_zret C dX8_change_227 RT rfl ⟨Nat.zero_le _, Nat.zero_le _⟩ (rri ((if_pos ⟨dec_t h4, dec_t h16, h25⟩).trans (by rw [tn_nI (q := r9) (by omega), tn_nI (q := lo9) (by omega), tn_nI (q := hi9) (by omega), fstb_first (j := s * 8 + p) hp9 (by rw [chg_at (by omega)]; exact decide_eq_true (by have h9 := dec_t h216; omega)) (by omega), chA, show (s * 8 + p) / 8 = s by omega, show (s * 8 + p) % 8 = p by omega])) (hI.sm hs4 (by decide)) (hf9.tr (hs4.up (by decide))))
                    exact lc 0 Mx (by omega) hs8 hmx hsx
              exact lb 0 My (by omega) rfl hmz0 hsy
            · refine e_aload_n C dX8_change_49 rfl rfl ?_
              refine e_getR (q := 39) C dX8_change_50 fX8_54 rfl rfl ?_
              refine e_iload C dX8_change_53 rfl ?_
              refine e_aload_n C dX8_change_55 rfl rfl ?_
              refine e_iload C dX8_change_56 rfl ?_
              refine e_bipush (v := (nI 8)) C dX8_change_58 (by decide) ?_
              refine e_idivN C dX8_change_60 (by omega) (by omega) (by omega) ?_
              refine e_iload C dX8_change_61 rfl ?_
              refine e_bipush (v := (nI 8)) C dX8_change_63 (by decide) ?_
              refine e_iremN C dX8_change_65 (by omega) (by omega) (by omega) ?_
              have hq6 := mid_le n P (i / 8) (i % 8)
              refine e_callVi C dX8_change_66 [.int (nI (i / 8)), .int (nI (i % 8))] (r_middles hS (i / 8) (i % 8) (by omega) (by omega)) okX8_middles lX8_161 rfl rfl rfl ⟨rfl, rfl⟩ ⟨Nat.le_of_ble_eq_true rfl, Nat.le_of_ble_eq_true rfl⟩ (Nat.le_of_ble_eq_true rfl) ⟨Nat.zero_le _, Nat.zero_le _⟩ ?_
              refine e_iastoreN C dX8_change_69 rfl (by omega) (by omega) ?_
              refine e_nm (fun M7 hM7 => ?_)
              refine e_iincN (lv2 := [(4, .int (nI (i + 1))), (0, .ref 25), (1, .int (nI r9)), (2, .int (nI lo9)), (3, .int (nI hi9))]) C dX8_change_70 rfl (by decide) (nI_1 _) rfl ?_
              refine e_goto (tgt := 42) C dX8_change_73 (by decide) ?_
              refine e_loc [1, 2, 3, 4, 0] rfl ?_
              exact ih_la (24 - (i + 1)) (by omega) (i + 1) rfl M7 (by omega) (fun j hj => by rw [hM7, gI_sI]; by_cases e9 : j = i; (subst e9; rw [upd_s]); (rw [upd_n _ _ e9]; exact hmy j (by omega))) (by rw [hM7]; exact hsy.I (by decide))
        exact la 0 M1 (by omega) (fun j hj => absurd hj (by omega)) (Same.rf _ _)
      · refine e_bipush (v := (-2)) C dX8_change_32 (by decide) ?_
        exact e_zret C dX8_change_34 RT rfl ⟨Nat.zero_le _, Nat.zero_le _⟩ (rri (if_neg (fun h9 => dec_f h29 h9.2.2)) hI (Same.rf _ M))
