theorem wgt_le {n P A : Nat → Nat} (hn : ∀ r, r < 3 → 4 ≤ n r ∧ n r ≤ 20) (hA : ∀ l, A l ≤ 10000) (r p : Nat) : wgt n P A r p ≤ 4000000 := by
  unfold wgt
  have hl : n (lf r) ≤ 20 := (hn (lf r) (by unfold lf; split <;> omega)).2
  have hr : n (rg r) ≤ 20 := (hn (rg r) (by unfold rg; split <;> omega)).2
  refine Nat.le_trans (sumN_le (B := 200000) (fun i _ => Nat.le_trans (sumN_le (B := 10000) (fun j _ => hA _)) ?_)) ?_
  · have := Nat.mul_le_mul_right 10000 hr; omega
  · have := Nat.mul_le_mul_right 200000 hl; omega
theorem chg_at {n P A : Nat → Nat} {r lo hi s p : Nat} (hp : p < 8) : chg n P A r lo hi (s * 8 + p) = decide (p ≠ P (r * 20 + s) ∧ lo ≤ bck n P A r s p ∧ bck n P A r s p ≤ hi) := by
  unfold chg
  rw [show (s * 8 + p) / 8 = s by omega, show (s * 8 + p) % 8 = p by omega]
theorem fstb_first {f : Nat → Bool} {j : Nat} (h0 : fstb f j = none) (h1 : f j = true) : ∀ {k : Nat}, j < k → fstb f k = some j
  | 0, h => absurd h (by omega)
  | k + 1, h => by
    simp only [fstb]
    by_cases e : j = k
    · subst e; rw [h0]; simp [h1]
    · rw [fstb_first h0 h1 (k := k) (by omega)]
theorem fstb_next {f : Nat → Bool} {j : Nat} (h0 : fstb f j = none) (h1 : f j = false) : fstb f (j + 1) = none := by simp [fstb, h0, h1]
set_option maxHeartbeats 4000000 in
set_option maxRecDepth 100000 in
theorem p_change {w : Bool} {M : Mm} {n P cnt : Nat → Nat} {k : Nat} {W : Nat → Nat → Int32} {pv : Nat → Nat} {L R H : Nat} {z : Nat → Int32} {g : Nat} {q : Nat → Nat → Nat} (hI : CInv M (n, P, cnt, k, W, pv, L, R, H, z, g, q))  (r lo hi : Int32) : CT mX7_change [.ref 0, .int r, .int lo, .int hi] (shF w) M (Qi (spChange (n, P, cnt, k, W, pv, L, R, H, z, g, q) r lo hi).1 (shF w) (fun m0 => CInv m0 (spChange (n, P, cnt, k, W, pv, L, R, H, z, g, q) r lo hi).2 ∧ FrC M m0)) := by
  refine CT.mk (lv := [(0, .ref 0), (1, .int r), (2, .int lo), (3, .int hi)]) rfl (by decide +kernel) (Nat.le_of_ble_eq_true rfl) ?_
  intro X C RT
  obtain ⟨hB, hCt, hF, hF2, hT7, hG, hQ⟩ := id hI
  obtain ⟨hS, hT, hL, hL1, hL3⟩ := id hB
  have n0 := hS.2.1 0 (by decide)
  have n1 := hS.2.1 1 (by decide)
  have n2 := hS.2.1 2 (by decide)
  have hA : ∀ l, amt W pv k l ≤ 10000 := fun l => amt_le (fun i hi => (hT.2.2.2.1 i hi).2)
  have hwl := fun r p => wgt_le (P := P) hS.2.1 hA r p
  have hN1 := prd_le n0.2 n1.2 n2.2 7
  have hN0 := prd_pos (n := n) (by omega) (by omega) (by omega)
  refine e_iload_n C dX7_change_0 rfl rfl ?_
  refine e_callSi C dX7_change_1 [.int r] (k_isReelN r) okX7_isReel lX7_77 rfl ⟨rfl, rfl⟩ ⟨Nat.le_of_ble_eq_true rfl, Nat.le_of_ble_eq_true rfl⟩ (Nat.le_of_ble_eq_true rfl) ⟨Nat.zero_le _, Nat.zero_le _⟩ ?_
  refine e_if_eqB (b := decide (inn r 0 2)) (tgt := 27) C dX7_change_4 (by decide) (fun h4 => ?_) (fun h4 => ?_)
  · refine e_bipush (v := (-2)) C dX7_change_27 (by decide) ?_
    exact e_zret C dX7_change_29 RT rfl ⟨Nat.zero_le _, Nat.zero_le _⟩ (rqi (if_neg (fun h9 => dec_f h4 h9.1)) hI (Same.rf _ M))
  · refine e_iload_n C dX7_change_7 rfl rfl ?_
    refine e_iconst (v := (nI 0)) C dX7_change_8 (by decide) ?_
    refine e_ldc (v := nI 10000000) C dX7_change_9 kX7_174 ?_
    refine e_callSi C dX7_change_11 [.int lo, .int (nI 0), .int (nI 10000000)] (k_withinN lo 0 10000000 (by omega) (by omega)) okX7_within lX7_81 rfl ⟨rfl, rfl⟩ ⟨Nat.le_of_ble_eq_true rfl, Nat.le_of_ble_eq_true rfl⟩ (Nat.le_of_ble_eq_true rfl) ⟨Nat.zero_le _, Nat.zero_le _⟩ ?_
    refine e_if_eqB (b := decide (inn lo (0 : Nat) (10000000 : Nat))) (tgt := 27) C dX7_change_14 (by decide) (fun h14 => ?_) (fun h14 => ?_)
    · refine e_bipush (v := (-2)) C dX7_change_27 (by decide) ?_
      exact e_zret C dX7_change_29 RT rfl ⟨Nat.zero_le _, Nat.zero_le _⟩ (rqi (if_neg (fun h9 => dec_f h14 h9.2.1)) hI (Same.rf _ M))
    · refine e_iload_n C dX7_change_17 rfl rfl ?_
      refine e_iload_n C dX7_change_18 rfl rfl ?_
      refine e_ldc (v := nI 10000000) C dX7_change_19 kX7_174 ?_
      refine e_callSi C dX7_change_21 [.int hi, .int lo, .int (nI 10000000)] (k_withinI hi lo (nI 10000000)) okX7_within lX7_81 rfl ⟨rfl, rfl⟩ ⟨Nat.le_of_ble_eq_true rfl, Nat.le_of_ble_eq_true rfl⟩ (Nat.le_of_ble_eq_true rfl) ⟨Nat.zero_le _, Nat.zero_le _⟩ ?_
      refine e_if_neB (b := decide (inn hi (lo).toInt ((nI 10000000)).toInt)) (tgt := 30) C dX7_change_24 (by decide) (fun h24 => ?_) (fun h24 => ?_)
      · have h25 := dec_t h24
        rw [nI_toInt (n := 10000000) (by omega)] at h25
        obtain ⟨hi9, l_hi9, u_hi9, rfl⟩ := inn_N (b := 10000000) h25 (dec_t h14).1
        obtain ⟨lo9, l_lo9, u_lo9, rfl⟩ := inn_N (b := 10000000) (dec_t h14) (by decide)
        obtain ⟨r9, l_r9, u_r9, rfl⟩ := inn_N (b := 2) (dec_t h4) (by decide)
        have hn9 := hS.2.1 r9 (by omega)
        refine e_aload_n C dX7_change_30 rfl rfl ?_
        refine e_iload_n C dX7_change_31 rfl rfl ?_
        refine e_callVv C dX7_change_32 [.int (nI r9)] (k_weigh hS hT r9 (by omega)) okX7_weighPictures lX7_175 rfl rfl rfl rfl ⟨rfl, rfl⟩ ⟨Nat.le_of_ble_eq_true rfl, Nat.le_of_ble_eq_true rfl⟩ (Nat.le_of_ble_eq_true rfl) ⟨Nat.zero_le _, Nat.zero_le _⟩ ?_
        refine e_nm (fun M1 hM1 => ?_)
        have hS : StOK M1 n P := by subst hM1; exact hS
        have hsm : Same [24] M M1 := by subst hM1; exact (Same.rf _ M).J (by decide)
        have hwv : ∀ p, p < 8 → gJ M1 24 p = lN (wgt n P (amt W pv k) r9 p) := fun p hp => by rw [hM1, gJ_sJ]; unfold tabr; rw [if_pos hp]
        refine e_lconst (v := lN 0) C dX7_change_35 (by decide) ?_
        refine e_lstore (lv2 := [(4, .long (lN 0)), (0, .ref 0), (1, .int (nI r9)), (2, .int (nI lo9)), (3, .int (nI hi9))]) C dX7_change_36 (by decide) rfl ?_
        refine e_iconst (v := (nI 0)) C dX7_change_38 (by decide) ?_
        refine e_istore (lv2 := [(6, .int (nI 0)), (4, .long (lN 0)), (0, .ref 0), (1, .int (nI r9)), (2, .int (nI lo9)), (3, .int (nI hi9))]) C dX7_change_39 (by decide) rfl ?_
        refine e_loc [2, 3, 4, 5, 1, 0] rfl ?_
        have li : ∀ (i : Nat) (s9 : Nat), i ≤ n r9 → s9 = sumN (fun i => wgt n P (amt W pv k) r9 (P (r9 * 20 + i))) i → Wd X (0, 0) 41 [(0, .ref 0), (1, .int (nI r9)), (2, .int (nI lo9)), (3, .int (nI hi9)), (4, .long (lN s9)), (6, .int (nI i))] [] (shF w) M1 := by
          intro i
          induction hq_li : n r9 - i using Nat.strongRecOn generalizing i with
          | ind k_li ih_li =>
            intro s9 hi8 hs9
            refine e_iload C dX7_change_41 rfl ?_
            refine e_aload_n C dX7_change_43 rfl rfl ?_
            refine e_getR (q := 1) C dX7_change_44 fX7_10 rfl rfl ?_
            refine e_iload_n C dX7_change_47 rfl rfl ?_
            refine e_callVi C dX7_change_48 [.int (nI r9)] (k_stopsOf hS r9 (by omega)) okX4_stopsOf lX7_145 rfl rfl rfl ⟨rfl, rfl⟩ ⟨Nat.le_of_ble_eq_true rfl, Nat.le_of_ble_eq_true rfl⟩ (Nat.le_of_ble_eq_true rfl) ⟨Nat.zero_le _, Nat.zero_le _⟩ ?_
            refine e_icmp_geN (tgt := 80) C dX7_change_51 (by omega) (by omega) (by decide) (fun h51 => ?_) (fun h51 => ?_)
            · have hin : i = n r9 := by omega
              subst hin
              have hsl : s9 ≤ 80000000 := by rw [hs9]; exact Nat.le_trans (sumN_le (B := 4000000) (fun i _ => hwl _ _)) (by have := Nat.mul_le_mul_right 4000000 hn9.2; omega)
              refine e_iconst (v := (nI 0)) C dX7_change_80 (by decide) ?_
              refine e_istore (lv2 := [(6, .int (nI 0)), (0, .ref 0), (1, .int (nI r9)), (2, .int (nI lo9)), (3, .int (nI hi9)), (4, .long (lN s9))]) C dX7_change_81 (by decide) rfl ?_
              refine e_loc [1, 2, 3, 4, 5, 0] rfl ?_
              have ls : ∀ (s : Nat) , s ≤ n r9 → fstb (chg n P (amt W pv k) r9 lo9 hi9) (s * 8) = none → Wd X (0, 0) 83 [(0, .ref 0), (1, .int (nI r9)), (2, .int (nI lo9)), (3, .int (nI hi9)), (4, .long (lN s9)), (6, .int (nI s))] [] (shF w) M1 := by
                intro s
                induction hq_ls : n r9 - s using Nat.strongRecOn generalizing s with
                | ind k_ls ih_ls =>
                  intro hs7 hs8
                  have hnn : s ≤ 20 := by omega
                  refine e_iload C dX7_change_83 rfl ?_
                  refine e_aload_n C dX7_change_85 rfl rfl ?_
                  refine e_getR (q := 1) C dX7_change_86 fX7_10 rfl rfl ?_
                  refine e_iload_n C dX7_change_89 rfl rfl ?_
                  refine e_callVi C dX7_change_90 [.int (nI r9)] (k_stopsOf hS r9 (by omega)) okX4_stopsOf lX7_145 rfl rfl rfl ⟨rfl, rfl⟩ ⟨Nat.le_of_ble_eq_true rfl, Nat.le_of_ble_eq_true rfl⟩ (Nat.le_of_ble_eq_true rfl) ⟨Nat.zero_le _, Nat.zero_le _⟩ ?_
                  refine e_icmp_geN (tgt := 197) C dX7_change_93 (by omega) (by omega) (by decide) (fun h93 => ?_) (fun h93 => ?_)
                  · refine e_iconst (v := (-1)) C dX7_change_197 (by decide) ?_
                    exact e_zret C dX7_change_198 RT rfl ⟨Nat.zero_le _, Nat.zero_le _⟩ (rqi ((if_pos ⟨dec_t h4, dec_t h14, h25⟩).trans (by rw [tn_nI (q := r9) (by omega), tn_nI (q := lo9) (by omega), tn_nI (q := hi9) (by omega), show n r9 * 8 = s * 8 by omega, hs8, chA])) (hI.sm hsm (by decide)) (rngd hsm (by decide)))
                  · refine e_aload_n C dX7_change_96 rfl rfl ?_
                    refine e_getR (q := 1) C dX7_change_97 fX7_10 rfl rfl ?_
                    refine e_iload_n C dX7_change_100 rfl rfl ?_
                    refine e_iload C dX7_change_101 rfl ?_
                    have hb2 := hS.2.2.2.1 (r9 * 20 + s)
                    refine e_callVi C dX7_change_103 [.int (nI r9), .int (nI s)] (k_shown hS r9 s (by omega) (by omega)) okX4_shown lX7_102 rfl rfl rfl ⟨rfl, rfl⟩ ⟨Nat.le_of_ble_eq_true rfl, Nat.le_of_ble_eq_true rfl⟩ (Nat.le_of_ble_eq_true rfl) ⟨Nat.zero_le _, Nat.zero_le _⟩ ?_
                    refine e_istore (lv2 := [(7, .int (nI (P (r9 * 20 + s)))), (0, .ref 0), (1, .int (nI r9)), (2, .int (nI lo9)), (3, .int (nI hi9)), (4, .long (lN s9)), (6, .int (nI s))]) C dX7_change_106 (by decide) rfl ?_
                    refine e_iconst (v := (nI 0)) C dX7_change_108 (by decide) ?_
                    refine e_istore (lv2 := [(8, .int (nI 0)), (7, .int (nI (P (r9 * 20 + s)))), (0, .ref 0), (1, .int (nI r9)), (2, .int (nI lo9)), (3, .int (nI hi9)), (4, .long (lN s9)), (6, .int (nI s))]) C dX7_change_109 (by decide) rfl ?_
                    refine e_loc [2, 3, 4, 5, 6, 7, 1, 0] rfl ?_
                    have hmem : wgt n P (amt W pv k) r9 (P (r9 * 20 + s)) ≤ s9 := by rw [hs9]; exact sumN_mem (f := (fun i => wgt n P (amt W pv k) r9 (P (r9 * 20 + i)))) (by omega)
                    have hp8 := hS.2.2.2.1 (r9 * 20 + s)
                    have lp : ∀ (p : Nat) , p ≤ 8 → fstb (chg n P (amt W pv k) r9 lo9 hi9) (s * 8 + p) = none → Wd X (0, 0) 111 [(0, .ref 0), (1, .int (nI r9)), (2, .int (nI lo9)), (3, .int (nI hi9)), (4, .long (lN s9)), (6, .int (nI s)), (7, .int (nI (P (r9 * 20 + s)))), (8, .int (nI p))] [] (shF w) M1 := by
                      intro p
                      induction hq_lp : 8 - p using Nat.strongRecOn generalizing p with
                      | ind k_lp ih_lp =>
                        intro hp hp9
                        have hw1 := hwl r9 p
                        have hw2 := hwl r9 (P (r9 * 20 + s))
                        refine e_iload C dX7_change_111 rfl ?_
                        refine e_bipush (v := (nI 8)) C dX7_change_113 (by decide) ?_
                        refine e_icmp_geN (tgt := 191) C dX7_change_115 (by omega) (by omega) (by decide) (fun h115 => ?_) (fun h115 => ?_)
                        · refine e_iincN (lv2 := [(6, .int (nI (s + 1))), (0, .ref 0), (1, .int (nI r9)), (2, .int (nI lo9)), (3, .int (nI hi9)), (4, .long (lN s9)), (7, .int (nI (P (r9 * 20 + s)))), (8, .int (nI p))]) C dX7_change_191 rfl (by decide) (nI_1 _) rfl ?_
                          refine e_goto (tgt := 83) C dX7_change_194 (by decide) ?_
                          refine e_loc [1, 2, 3, 4, 5, 0] rfl ?_
                          exact ih_ls (n r9 - (s + 1)) (by omega) (s + 1) rfl (by omega) (by rw [show (s + 1) * 8 = s * 8 + p by omega]; exact hp9)
                        · refine e_lload C dX7_change_118 rfl ?_
                          refine e_aload_n C dX7_change_120 rfl rfl ?_
                          refine e_getR (q := 24) C dX7_change_121 fX7_62 rfl rfl ?_
                          refine e_iload C dX7_change_124 rfl ?_
                          refine e_laloadN C dX7_change_126 rfl (by omega) (by omega) ?_
                          refine e_topl (lN (wgt n P (amt W pv k) r9 (P (r9 * 20 + s)))) (hwv (P (r9 * 20 + s)) (by omega)) ?_
                          refine e_lsubN C dX7_change_127 (by omega) ?_
                          refine e_aload_n C dX7_change_128 rfl rfl ?_
                          refine e_getR (q := 24) C dX7_change_129 fX7_62 rfl rfl ?_
                          refine e_iload C dX7_change_132 rfl ?_
                          refine e_laloadN C dX7_change_134 rfl (by omega) (by omega) ?_
                          refine e_topl (lN (wgt n P (amt W pv k) r9 p)) (hwv p (by omega)) ?_
                          refine e_laddN C dX7_change_135 ?_
                          refine e_ldc2 (v := lN 1000) C dX7_change_136 kX7_179 ?_
                          refine e_lmulN C dX7_change_139 ?_
                          refine e_aload_n C dX7_change_140 rfl rfl ?_
                          refine e_getR (q := 1) C dX7_change_141 fX7_10 rfl rfl ?_
                          refine e_callVi C dX7_change_144 [] (k_endings hS) okX4_endings lX7_181 rfl rfl rfl ⟨rfl, rfl⟩ ⟨Nat.le_of_ble_eq_true rfl, Nat.le_of_ble_eq_true rfl⟩ (Nat.le_of_ble_eq_true rfl) ⟨Nat.zero_le _, Nat.zero_le _⟩ ?_
                          refine e_i2lN C dX7_change_147 (by omega) ?_
                          refine e_callSl C dX7_change_148 [.long (lN (((s9 - (wgt n P (amt W pv k) r9 (P (r9 * 20 + s)))) + (wgt n P (amt W pv k) r9 p)) * 1000)), .long (lN (prd n 7 3))] (k_cut (((s9 - (wgt n P (amt W pv k) r9 (P (r9 * 20 + s)))) + (wgt n P (amt W pv k) r9 p)) * 1000) (prd n 7 3) (by omega) (by omega) (by omega)) okX7_cut lX7_184 rfl ⟨rfl, rfl⟩ ⟨Nat.le_of_ble_eq_true rfl, Nat.le_of_ble_eq_true rfl⟩ (Nat.le_of_ble_eq_true rfl) ⟨Nat.zero_le _, Nat.zero_le _⟩ ?_
                          refine e_topl (lN (bck n P (amt W pv k) r9 s p)) (by rw [hs9]; rfl) ?_
                          have hbl : bck n P (amt W pv k) r9 s p < 2 ^ 62 := by unfold bck; rw [← hs9]; exact Nat.lt_of_le_of_lt (Nat.div_le_self _ _) (by omega)
                          refine e_lstore (lv2 := [(9, .long (lN (bck n P (amt W pv k) r9 s p))), (0, .ref 0), (1, .int (nI r9)), (2, .int (nI lo9)), (3, .int (nI hi9)), (4, .long (lN s9)), (6, .int (nI s)), (7, .int (nI (P (r9 * 20 + s)))), (8, .int (nI p))]) C dX7_change_151 (by decide) rfl ?_
                          refine e_iload C dX7_change_153 rfl ?_
                          refine e_iload C dX7_change_155 rfl ?_
                          refine e_icmp_eqN (tgt := 185) C dX7_change_157 (by omega) (by omega) (by decide) (fun h157 => ?_) (fun h157 => ?_)
                          · refine e_iincN (lv2 := [(8, .int (nI (p + 1))), (9, .long (lN (bck n P (amt W pv k) r9 s p))), (0, .ref 0), (1, .int (nI r9)), (2, .int (nI lo9)), (3, .int (nI hi9)), (4, .long (lN s9)), (6, .int (nI s)), (7, .int (nI (P (r9 * 20 + s))))]) C dX7_change_185 rfl (by decide) (nI_1 _) rfl ?_
                            refine e_goto (tgt := 111) C dX7_change_188 (by decide) ?_
                            refine e_loc [2, 3, 4, 5, 6, 7, 8, 0] rfl ?_
                            exact ih_lp (8 - (p + 1)) (by omega) (p + 1) rfl (by omega) (fstb_next (j := s * 8 + p) hp9 (by rw [chg_at (by omega)]; exact decide_eq_false (by omega)))
                          · refine e_iload_n C dX7_change_160 rfl rfl ?_
                            refine e_i2lN C dX7_change_161 (by omega) ?_
                            refine e_lload C dX7_change_162 rfl ?_
                            refine e_lcmp_gtN (tgt := 185) C dX7_change_164 dX7_change_165 (by omega) (by omega) (by decide) (fun h164 => ?_) (fun h164 => ?_)
                            · refine e_iincN (lv2 := [(8, .int (nI (p + 1))), (9, .long (lN (bck n P (amt W pv k) r9 s p))), (0, .ref 0), (1, .int (nI r9)), (2, .int (nI lo9)), (3, .int (nI hi9)), (4, .long (lN s9)), (6, .int (nI s)), (7, .int (nI (P (r9 * 20 + s))))]) C dX7_change_185 rfl (by decide) (nI_1 _) rfl ?_
                              refine e_goto (tgt := 111) C dX7_change_188 (by decide) ?_
                              refine e_loc [2, 3, 4, 5, 6, 7, 8, 0] rfl ?_
                              exact ih_lp (8 - (p + 1)) (by omega) (p + 1) rfl (by omega) (fstb_next (j := s * 8 + p) hp9 (by rw [chg_at (by omega)]; exact decide_eq_false (by omega)))
                            · refine e_lload C dX7_change_168 rfl ?_
                              refine e_iload_n C dX7_change_170 rfl rfl ?_
                              refine e_i2lN C dX7_change_171 (by omega) ?_
                              refine e_lcmp_gtN (tgt := 185) C dX7_change_172 dX7_change_173 (by omega) (by omega) (by decide) (fun h172 => ?_) (fun h172 => ?_)
                              · refine e_iincN (lv2 := [(8, .int (nI (p + 1))), (9, .long (lN (bck n P (amt W pv k) r9 s p))), (0, .ref 0), (1, .int (nI r9)), (2, .int (nI lo9)), (3, .int (nI hi9)), (4, .long (lN s9)), (6, .int (nI s)), (7, .int (nI (P (r9 * 20 + s))))]) C dX7_change_185 rfl (by decide) (nI_1 _) rfl ?_
                                refine e_goto (tgt := 111) C dX7_change_188 (by decide) ?_
                                refine e_loc [2, 3, 4, 5, 6, 7, 8, 0] rfl ?_
                                exact ih_lp (8 - (p + 1)) (by omega) (p + 1) rfl (by omega) (fstb_next (j := s * 8 + p) hp9 (by rw [chg_at (by omega)]; exact decide_eq_false (by omega)))
                              · refine e_bipush (v := (nI 10)) C dX7_change_176 (by decide) ?_
                                refine e_iload C dX7_change_178 rfl ?_
                                refine e_imulN C dX7_change_180 ?_
                                refine e_iload C dX7_change_181 rfl ?_
                                refine e_iaddN C dX7_change_183 ?_
                                exact e_zret C dX7_change_184 RT rfl ⟨Nat.zero_le _, Nat.zero_le _⟩ (rqi ((if_pos ⟨dec_t h4, dec_t h14, h25⟩).trans (by rw [tn_nI (q := r9) (by omega), tn_nI (q := lo9) (by omega), tn_nI (q := hi9) (by omega), fstb_first (j := s * 8 + p) hp9 (by rw [chg_at (by omega)]; exact decide_eq_true (by omega)) (by omega), chA, show (s * 8 + p) / 8 = s by omega, show (s * 8 + p) % 8 = p by omega])) (hI.sm hsm (by decide)) (rngd hsm (by decide)))
                    exact lp 0 (by omega) hs8
              exact ls 0 (by omega) rfl
            · refine e_lload C dX7_change_54 rfl ?_
              refine e_aload_n C dX7_change_56 rfl rfl ?_
              refine e_getR (q := 24) C dX7_change_57 fX7_62 rfl rfl ?_
              refine e_aload_n C dX7_change_60 rfl rfl ?_
              refine e_getR (q := 1) C dX7_change_61 fX7_10 rfl rfl ?_
              refine e_iload_n C dX7_change_64 rfl rfl ?_
              refine e_iload C dX7_change_65 rfl ?_
              have hb3 := hS.2.2.2.1 (r9 * 20 + i)
              refine e_callVi C dX7_change_67 [.int (nI r9), .int (nI i)] (k_shown hS r9 i (by omega) (by omega)) okX4_shown lX7_102 rfl rfl rfl ⟨rfl, rfl⟩ ⟨Nat.le_of_ble_eq_true rfl, Nat.le_of_ble_eq_true rfl⟩ (Nat.le_of_ble_eq_true rfl) ⟨Nat.zero_le _, Nat.zero_le _⟩ ?_
              refine e_laloadN C dX7_change_70 rfl (by omega) (by omega) ?_
              refine e_topl (lN (wgt n P (amt W pv k) r9 (P (r9 * 20 + i)))) (hwv (P (r9 * 20 + i)) (by omega)) ?_
              refine e_laddN C dX7_change_71 ?_
              refine e_lstore (lv2 := [(4, .long (lN (s9 + (wgt n P (amt W pv k) r9 (P (r9 * 20 + i)))))), (0, .ref 0), (1, .int (nI r9)), (2, .int (nI lo9)), (3, .int (nI hi9)), (6, .int (nI i))]) C dX7_change_72 (by decide) rfl ?_
              refine e_iincN (lv2 := [(6, .int (nI (i + 1))), (4, .long (lN (s9 + (wgt n P (amt W pv k) r9 (P (r9 * 20 + i)))))), (0, .ref 0), (1, .int (nI r9)), (2, .int (nI lo9)), (3, .int (nI hi9))]) C dX7_change_74 rfl (by decide) (nI_1 _) rfl ?_
              refine e_goto (tgt := 41) C dX7_change_77 (by decide) ?_
              refine e_loc [2, 3, 4, 5, 1, 0] rfl ?_
              exact ih_li (n r9 - (i + 1)) (by omega) (i + 1) rfl (s9 + (wgt n P (amt W pv k) r9 (P (r9 * 20 + i)))) (by omega) (by rw [hs9]; rfl)
        exact li 0 0 (by omega) rfl
      · refine e_bipush (v := (-2)) C dX7_change_27 (by decide) ?_
        exact e_zret C dX7_change_29 RT rfl ⟨Nat.zero_le _, Nat.zero_le _⟩ (rqi (if_neg (fun h9 => dec_f h24 (by rw [nI_toInt (n := 10000000) (by omega)]; exact h9.2.2))) hI (Same.rf _ M))
def wrs (f : Nat → Nat → Nat → Nat) (x y t u v s : Nat) : Prop := f x y t < f u v s ∨ (f x y t = f u v s ∧ (u + v + s < x + y + t ∨ (u + v + s = x + y + t ∧ (u < x ∨ (u = x ∧ v ≤ y)))))
def lexV (K d0 d1 d2 x y t : Nat) : Prop := x + y + t ≤ K ∧ (x < d0 ∨ (x = d0 ∧ (y < d1 ∨ (y = d1 ∧ t < d2))))
def NdI (f : Nat → Nat → Nat → Nat) (V : Nat → Nat → Nat → Prop) (bb : Int32) (ss cc : Nat) : Prop := (bb = -1 ∧ ∀ x y t, ¬ V x y t) ∨ ∃ x y t, V x y t ∧ bb = nI (f x y t) ∧ ss = x + y + t ∧ cc = 100 * x + 10 * y + t ∧ ∀ x2 y2 t2, V x2 y2 t2 → wrs f x2 y2 t2 x y t
theorem NdI.iff {f : Nat → Nat → Nat → Nat} {V V2 : Nat → Nat → Nat → Prop} {bb : Int32} {ss cc : Nat} (h : NdI f V bb ss cc) (e : ∀ x y t, V x y t ↔ V2 x y t) : NdI f V2 bb ss cc := by
  have : V = V2 := by funext x y t; exact propext (e x y t)
  subst this; exact h
theorem NdI.new {f : Nat → Nat → Nat → Nat} {K d0 d1 d2 : Nat} {bb : Int32} {ss cc : Nat} (h : NdI f (lexV K d0 d1 d2) bb ss cc) (hs : d0 + d1 + d2 ≤ K) (hf : ∀ x y t, f x y t ≤ 30000) (hc : bb < nI (f d0 d1 d2) ∨ (nI (f d0 d1 d2) = bb ∧ d0 + d1 + d2 < ss)) : NdI f (lexV K d0 d1 (d2 + 1)) (nI (f d0 d1 d2)) (d0 + d1 + d2) (100 * d0 + 10 * d1 + d2) := by
  refine Or.inr ⟨d0, d1, d2, ⟨hs, by omega⟩, rfl, rfl, rfl, fun x y t hv => ?_⟩
  have hfd := nI_toInt (n := f d0 d1 d2) (by have := hf d0 d1 d2; omega)
  by_cases e : x = d0 ∧ y = d1 ∧ t = d2
  · obtain ⟨rfl, rfl, rfl⟩ := e; unfold wrs; omega
  · have hv2 : lexV K d0 d1 d2 x y t := by unfold lexV at hv ⊢; omega
    rcases h with ⟨_, h⟩ | ⟨u, v, s, h1, rfl, rfl, rfl, h5⟩
    · exact absurd hv2 (h x y t)
    · have h6 := h5 x y t hv2
      have hfb := nI_toInt (n := f u v s) (by have := hf u v s; omega)
      simp only [Int32.lt_iff_toInt_lt, ← Int32.toInt_inj, hfd, hfb] at hc
      unfold wrs at h6 ⊢
      omega
theorem NdI.old {f : Nat → Nat → Nat → Nat} {K d0 d1 d2 : Nat} {bb : Int32} {ss cc : Nat} (h : NdI f (lexV K d0 d1 d2) bb ss cc) (hf : ∀ x y t, f x y t ≤ 30000) (hc : ¬ bb < nI (f d0 d1 d2)) (hc2 : ¬ nI (f d0 d1 d2) = bb ∨ ss ≤ d0 + d1 + d2) : NdI f (lexV K d0 d1 (d2 + 1)) bb ss cc := by
  have hfd := nI_toInt (n := f d0 d1 d2) (by have := hf d0 d1 d2; omega)
  rcases h with ⟨rfl, _⟩ | ⟨u, v, s, h1, rfl, rfl, rfl, h5⟩
  · have e1 : (-1 : Int32).toInt = -1 := rfl
    simp only [Int32.lt_iff_toInt_lt, hfd, e1] at hc
    omega
  · have hfb := nI_toInt (n := f u v s) (by have := hf u v s; omega)
    simp only [Int32.lt_iff_toInt_lt, ← Int32.toInt_inj, hfd, hfb] at hc hc2
    refine Or.inr ⟨u, v, s, ⟨h1.1, by have := h1.2; omega⟩, rfl, rfl, rfl, fun x y t hv => ?_⟩
    by_cases e : x = d0 ∧ y = d1 ∧ t = d2
    · obtain ⟨rfl, rfl, rfl⟩ := e; have := h1.2; unfold wrs; omega
    · exact h5 x y t (by unfold lexV at hv ⊢; omega)
theorem NdI.fin {f : Nat → Nat → Nat → Nat} {K : Nat} {bb : Int32} {ss cc : Nat} {d : Nat × Nat × Nat} (h : NdI f (lexV K (K + 1) 0 0) bb ss cc) (hd : Bst f K d) : bb = nI (f d.1 d.2.1 d.2.2) ∧ cc = 100 * d.1 + 10 * d.2.1 + d.2.2 := by
  rcases h with ⟨_, h⟩ | ⟨u, v, s, h1, rfl, rfl, rfl, h5⟩
  · exact absurd ⟨by omega, by omega⟩ (h 0 0 0)
  · have h6 : Bst f K (u, v, s) := ⟨h1.1, fun x y t hs => h5 x y t ⟨hs, by omega⟩⟩
    have h7 := h6.uniq hd
    subst h7; exact ⟨rfl, rfl⟩
theorem blw_mod {n : Nat} (hn : 0 < n) (x : Nat) : blw n (x % n) = (x + 1) % n := by
  unfold blw
  have h1 := Nat.mod_lt x hn
  by_cases h : x % n = n - 1
  · rw [if_pos h]
    have h2 := Nat.div_add_mod x n
    have h3 : x + 1 = n * (x / n + 1) := by rw [Nat.mul_add, Nat.mul_one]; omega
    rw [h3, Nat.mul_mod_right]
  · rw [if_neg h]
    have h2 := Nat.add_mod x 1 n
    rw [Nat.mod_eq_of_lt (show 1 < n by omega), Nat.mod_eq_of_lt (show x % n + 1 < n by omega)] at h2
    exact h2.symm
theorem Nat.mod_self_lt {a n : Nat} (h : a < n) : (a + 0) % n = a := Nat.mod_eq_of_lt h
set_option maxHeartbeats 4000000 in
set_option maxRecDepth 100000 in
theorem p_nudge {w : Bool} {M : Mm} {n P cnt : Nat → Nat} {k : Nat} {W : Nat → Nat → Int32} {pv : Nat → Nat} {L R H : Nat} {z : Nat → Int32} {g : Nat} {q : Nat → Nat → Nat} (hI : CInv M (n, P, cnt, k, W, pv, L, R, H, z, g, q)) {d : Nat × Nat × Nat} (a b c x v : Int32) (hd : Bst (ndg n (EE n P k W pv L) (tn a) (tn b) (tn c)) (tn x) d) : CT mX7_nudge [.ref 0, .int a, .int b, .int c, .int x, .int v] (shF w) M (Qi (spNudge d (n, P, cnt, k, W, pv, L, R, H, z, g, q) a b c x v).1 (shF w) (fun m0 => CInv m0 (spNudge d (n, P, cnt, k, W, pv, L, R, H, z, g, q) a b c x v).2 ∧ FrC M m0)) := by
  refine CT.mk (lv := [(0, .ref 0), (1, .int a), (2, .int b), (3, .int c), (4, .int x), (5, .int v)]) rfl (by decide +kernel) (Nat.le_of_ble_eq_true rfl) ?_
  intro X C RT
  obtain ⟨hB, hCt, hF, hF2, hT7, hG, hQ⟩ := id hI
  obtain ⟨hS, hT, hL, hL1, hL3⟩ := id hB
  have n0 := hS.2.1 0 (by decide)
  have n1 := hS.2.1 1 (by decide)
  have n2 := hS.2.1 2 (by decide)
  refine e_aload_n C dX7_nudge_0 rfl rfl ?_
  refine e_getR (q := 1) C dX7_nudge_1 fX7_10 rfl rfl ?_
  refine e_iload_n C dX7_nudge_4 rfl rfl ?_
  refine e_iload_n C dX7_nudge_5 rfl rfl ?_
  refine e_iload_n C dX7_nudge_6 rfl rfl ?_
  refine e_callVi C dX7_nudge_7 [.int a, .int b, .int c] (k_hasEnding hS a b c) okX4_hasEnding lX7_128 rfl rfl rfl ⟨rfl, rfl⟩ ⟨Nat.le_of_ble_eq_true rfl, Nat.le_of_ble_eq_true rfl⟩ (Nat.le_of_ble_eq_true rfl) ⟨Nat.zero_le _, Nat.zero_le _⟩ ?_
  refine e_if_eqB (b := hasEnd n a b c) (tgt := 34) C dX7_nudge_10 (by decide) (fun h10 => ?_) (fun h10 => ?_)
  · refine e_bipush (v := (-2)) C dX7_nudge_34 (by decide) ?_
    exact e_zret C dX7_nudge_36 RT rfl ⟨Nat.zero_le _, Nat.zero_le _⟩ (rqi (if_neg (fun h8 => by rw [h10] at h8; exact absurd h8.1 (by decide))) hI (Same.rf _ M))
  · refine e_iload C dX7_nudge_13 rfl ?_
    refine e_iconst (v := (nI 0)) C dX7_nudge_15 (by decide) ?_
    refine e_bipush (v := (nI 6)) C dX7_nudge_16 (by decide) ?_
    refine e_callSi C dX7_nudge_18 [.int x, .int (nI 0), .int (nI 6)] (k_withinN x 0 6 (by omega) (by omega)) okX7_within lX7_81 rfl ⟨rfl, rfl⟩ ⟨Nat.le_of_ble_eq_true rfl, Nat.le_of_ble_eq_true rfl⟩ (Nat.le_of_ble_eq_true rfl) ⟨Nat.zero_le _, Nat.zero_le _⟩ ?_
    refine e_if_eqB (b := decide (inn x (0 : Nat) (6 : Nat))) (tgt := 34) C dX7_nudge_21 (by decide) (fun h21 => ?_) (fun h21 => ?_)
    · refine e_bipush (v := (-2)) C dX7_nudge_34 (by decide) ?_
      exact e_zret C dX7_nudge_36 RT rfl ⟨Nat.zero_le _, Nat.zero_le _⟩ (rqi (if_neg (fun h9 => dec_f h21 h9.2.1)) hI (Same.rf _ M))
    · refine e_iload C dX7_nudge_24 rfl ?_
      refine e_iconst (v := (nI 0)) C dX7_nudge_26 (by decide) ?_
      refine e_iconst (v := (nI 1)) C dX7_nudge_27 (by decide) ?_
      refine e_callSi C dX7_nudge_28 [.int v, .int (nI 0), .int (nI 1)] (k_withinN v 0 1 (by omega) (by omega)) okX7_within lX7_81 rfl ⟨rfl, rfl⟩ ⟨Nat.le_of_ble_eq_true rfl, Nat.le_of_ble_eq_true rfl⟩ (Nat.le_of_ble_eq_true rfl) ⟨Nat.zero_le _, Nat.zero_le _⟩ ?_
      refine e_if_neB (b := decide (inn v (0 : Nat) (1 : Nat))) (tgt := 37) C dX7_nudge_31 (by decide) (fun h31 => ?_) (fun h31 => ?_)
      · obtain ⟨a9, b9, c9, l_a, l_b, l_c, rfl, rfl, rfl⟩ := hasEnd_N h10
        obtain ⟨x9, l_x9, u_x9, rfl⟩ := inn_N (b := 6) (dec_t h21) (by decide)
        obtain ⟨v9, l_v9, u_v9, rfl⟩ := inn_N (b := 1) (dec_t h31) (by decide)
        rw [tn_nI (q := a9) (by omega), tn_nI (q := b9) (by omega), tn_nI (q := c9) (by omega), tn_nI (q := x9) (by omega)] at hd
        have hff : ∀ x y t, ndg n (EE n P k W pv L) a9 b9 c9 x y t ≤ 30000 := fun x y t => hB.le _ _ _
        have hz0 : (0 : Nat) < n 0 := by omega
        have hz1 : (0 : Nat) < n 1 := by omega
        have hz2 : (0 : Nat) < n 2 := by omega
        refine e_iconst (v := (-1)) C dX7_nudge_37 (by decide) ?_
        refine e_istore (lv2 := [(6, .int (-1)), (0, .ref 0), (1, .int (nI a9)), (2, .int (nI b9)), (3, .int (nI c9)), (4, .int (nI x9)), (5, .int (nI v9))]) C dX7_nudge_38 (by decide) rfl ?_
        refine e_iconst (v := (nI 0)) C dX7_nudge_40 (by decide) ?_
        refine e_istore (lv2 := [(7, .int (nI 0)), (6, .int (-1)), (0, .ref 0), (1, .int (nI a9)), (2, .int (nI b9)), (3, .int (nI c9)), (4, .int (nI x9)), (5, .int (nI v9))]) C dX7_nudge_41 (by decide) rfl ?_
        refine e_iconst (v := (nI 0)) C dX7_nudge_43 (by decide) ?_
        refine e_istore (lv2 := [(8, .int (nI 0)), (7, .int (nI 0)), (6, .int (-1)), (0, .ref 0), (1, .int (nI a9)), (2, .int (nI b9)), (3, .int (nI c9)), (4, .int (nI x9)), (5, .int (nI v9))]) C dX7_nudge_44 (by decide) rfl ?_
        refine e_iload_n C dX7_nudge_46 rfl rfl ?_
        refine e_topi (nI ((a9 + 0) % n 0)) (congrArg nI (Nat.mod_self_lt l_a).symm) ?_
        refine e_istore (lv2 := [(9, .int (nI ((a9 + 0) % n 0))), (8, .int (nI 0)), (7, .int (nI 0)), (6, .int (-1)), (0, .ref 0), (1, .int (nI a9)), (2, .int (nI b9)), (3, .int (nI c9)), (4, .int (nI x9)), (5, .int (nI v9))]) C dX7_nudge_47 (by decide) rfl ?_
        refine e_iconst (v := (nI 0)) C dX7_nudge_49 (by decide) ?_
        refine e_istore (lv2 := [(10, .int (nI 0)), (9, .int (nI ((a9 + 0) % n 0))), (8, .int (nI 0)), (7, .int (nI 0)), (6, .int (-1)), (0, .ref 0), (1, .int (nI a9)), (2, .int (nI b9)), (3, .int (nI c9)), (4, .int (nI x9)), (5, .int (nI v9))]) C dX7_nudge_50 (by decide) rfl ?_
        refine e_loc [5, 6, 7, 8, 9, 10, 4, 3, 2, 1, 0] rfl ?_
        have la : ∀ (d0 : Nat) (bb : Int32) (ss : Nat) (cc : Nat), d0 ≤ x9 + 1 → ss ≤ 6 → NdI (ndg n (EE n P k W pv L) a9 b9 c9) (lexV x9 d0 0 0) bb ss cc → Wd X (0, 0) 52 [(0, .ref 0), (1, .int (nI a9)), (2, .int (nI b9)), (3, .int (nI c9)), (4, .int (nI x9)), (5, .int (nI v9)), (6, .int bb), (7, .int (nI ss)), (8, .int (nI cc)), (9, .int (nI ((a9 + d0) % n 0))), (10, .int (nI d0))] [] (shF w) M := by
          intro d0
          induction hq_la : x9 + 1 - d0 using Nat.strongRecOn generalizing d0 with
          | ind k_la ih_la =>
            intro bb ss cc hd0 hss hN
            have hm0 := Nat.mod_lt (a9 + d0) hz0
            refine e_iload C dX7_nudge_52 rfl ?_
            refine e_iload C dX7_nudge_54 rfl ?_
            refine e_icmp_gtN (tgt := 215) C dX7_nudge_56 (by omega) (by omega) (by decide) (fun h56 => ?_) (fun h56 => ?_)
            · have hd0 : d0 = x9 + 1 := by omega
              subst hd0
              obtain ⟨e_b, e_c⟩ := hN.fin hd
              refine e_iload C dX7_nudge_215 rfl ?_
              refine e_if_neN (tgt := 225) C dX7_nudge_217 (by omega) (by decide) (fun h217 => ?_) (fun h217 => ?_)
              · refine e_iload C dX7_nudge_225 rfl ?_
                exact e_zret C dX7_nudge_227 RT rfl ⟨Nat.zero_le _, Nat.zero_le _⟩ (rqi ((if_pos ⟨h10, dec_t h21, dec_t h31⟩).trans (by rw [tn_nI (q := a9) (by omega), tn_nI (q := b9) (by omega), tn_nI (q := c9) (by omega), if_neg (fun e => h217 ((i_eq (by omega)).mp e)), e_c])) hI (Same.rf _ M))
              · refine e_iload C dX7_nudge_220 rfl ?_
                refine e_goto (tgt := 227) C dX7_nudge_222 (by decide) ?_
                exact e_zret C dX7_nudge_227 RT rfl ⟨Nat.zero_le _, Nat.zero_le _⟩ (rqi ((if_pos ⟨h10, dec_t h21, dec_t h31⟩).trans (by rw [tn_nI (q := a9) (by omega), tn_nI (q := b9) (by omega), tn_nI (q := c9) (by omega), if_pos ((i_eq (by omega)).mpr h217), e_b])) hI (Same.rf _ M))
            · refine e_iload_n C dX7_nudge_59 rfl rfl ?_
              refine e_topi (nI ((b9 + 0) % n 1)) (congrArg nI (Nat.mod_self_lt l_b).symm) ?_
              refine e_istore (lv2 := [(11, .int (nI ((b9 + 0) % n 1))), (0, .ref 0), (1, .int (nI a9)), (2, .int (nI b9)), (3, .int (nI c9)), (4, .int (nI x9)), (5, .int (nI v9)), (6, .int bb), (7, .int (nI ss)), (8, .int (nI cc)), (9, .int (nI ((a9 + d0) % n 0))), (10, .int (nI d0))]) C dX7_nudge_60 (by decide) rfl ?_
              refine e_iconst (v := (nI 0)) C dX7_nudge_62 (by decide) ?_
              refine e_istore (lv2 := [(12, .int (nI 0)), (11, .int (nI ((b9 + 0) % n 1))), (0, .ref 0), (1, .int (nI a9)), (2, .int (nI b9)), (3, .int (nI c9)), (4, .int (nI x9)), (5, .int (nI v9)), (6, .int bb), (7, .int (nI ss)), (8, .int (nI cc)), (9, .int (nI ((a9 + d0) % n 0))), (10, .int (nI d0))]) C dX7_nudge_63 (by decide) rfl ?_
              refine e_loc [2, 3, 4, 5, 6, 7, 8, 9, 10, 11, 12, 1, 0] rfl ?_
              have lb : ∀ (d1 : Nat) (bb : Int32) (ss : Nat) (cc : Nat), d0 + d1 ≤ x9 + 1 → ss ≤ 6 → NdI (ndg n (EE n P k W pv L) a9 b9 c9) (lexV x9 d0 d1 0) bb ss cc → Wd X (0, 0) 65 [(0, .ref 0), (1, .int (nI a9)), (2, .int (nI b9)), (3, .int (nI c9)), (4, .int (nI x9)), (5, .int (nI v9)), (6, .int bb), (7, .int (nI ss)), (8, .int (nI cc)), (9, .int (nI ((a9 + d0) % n 0))), (10, .int (nI d0)), (11, .int (nI ((b9 + d1) % n 1))), (12, .int (nI d1))] [] (shF w) M := by
                intro d1
                induction hq_lb : x9 + 1 - (d0 + d1) using Nat.strongRecOn generalizing d1 with
                | ind k_lb ih_lb =>
                  intro bb ss cc hd1 hss hN
                  have hm1 := Nat.mod_lt (b9 + d1) hz1
                  refine e_iload C dX7_nudge_65 rfl ?_
                  refine e_iload C dX7_nudge_67 rfl ?_
                  refine e_iaddN C dX7_nudge_69 ?_
                  refine e_iload C dX7_nudge_70 rfl ?_
                  refine e_icmp_gtN (tgt := 197) C dX7_nudge_72 (by omega) (by omega) (by decide) (fun h72 => ?_) (fun h72 => ?_)
                  · refine e_aload_n C dX7_nudge_197 rfl rfl ?_
                    refine e_getR (q := 1) C dX7_nudge_198 fX7_10 rfl rfl ?_
                    refine e_iconst (v := (nI 0)) C dX7_nudge_201 (by decide) ?_
                    refine e_iload C dX7_nudge_202 rfl ?_
                    have ha1 := blw_lt (n := n 0) (s := (a9 + d0) % n 0) (by omega)
                    refine e_callVi C dX7_nudge_204 [.int (nI 0), .int (nI ((a9 + d0) % n 0))] (k_below hS 0 ((a9 + d0) % n 0) (by omega) (by omega)) okX4_below lX7_171 rfl rfl rfl ⟨rfl, rfl⟩ ⟨Nat.le_of_ble_eq_true rfl, Nat.le_of_ble_eq_true rfl⟩ (Nat.le_of_ble_eq_true rfl) ⟨Nat.zero_le _, Nat.zero_le _⟩ ?_
                    refine e_topi (nI ((a9 + (d0 + 1)) % n 0)) (congrArg nI (blw_mod hz0 (a9 + d0))) ?_
                    refine e_istore (lv2 := [(9, .int (nI ((a9 + (d0 + 1)) % n 0))), (0, .ref 0), (1, .int (nI a9)), (2, .int (nI b9)), (3, .int (nI c9)), (4, .int (nI x9)), (5, .int (nI v9)), (6, .int bb), (7, .int (nI ss)), (8, .int (nI cc)), (10, .int (nI d0)), (11, .int (nI ((b9 + d1) % n 1))), (12, .int (nI d1))]) C dX7_nudge_207 (by decide) rfl ?_
                    refine e_iincN (lv2 := [(10, .int (nI (d0 + 1))), (9, .int (nI ((a9 + (d0 + 1)) % n 0))), (0, .ref 0), (1, .int (nI a9)), (2, .int (nI b9)), (3, .int (nI c9)), (4, .int (nI x9)), (5, .int (nI v9)), (6, .int bb), (7, .int (nI ss)), (8, .int (nI cc)), (11, .int (nI ((b9 + d1) % n 1))), (12, .int (nI d1))]) C dX7_nudge_209 rfl (by decide) (nI_1 _) rfl ?_
                    refine e_goto (tgt := 52) C dX7_nudge_212 (by decide) ?_
                    refine e_loc [2, 3, 4, 5, 6, 7, 8, 9, 10, 1, 0] rfl ?_
                    exact ih_la (x9 + 1 - (d0 + 1)) (by omega) (d0 + 1) rfl bb ss cc (by omega) (by omega) (hN.iff (fun x y t => by unfold lexV; omega))
                  · refine e_iload_n C dX7_nudge_75 rfl rfl ?_
                    refine e_topi (nI ((c9 + 0) % n 2)) (congrArg nI (Nat.mod_self_lt l_c).symm) ?_
                    refine e_istore (lv2 := [(13, .int (nI ((c9 + 0) % n 2))), (0, .ref 0), (1, .int (nI a9)), (2, .int (nI b9)), (3, .int (nI c9)), (4, .int (nI x9)), (5, .int (nI v9)), (6, .int bb), (7, .int (nI ss)), (8, .int (nI cc)), (9, .int (nI ((a9 + d0) % n 0))), (10, .int (nI d0)), (11, .int (nI ((b9 + d1) % n 1))), (12, .int (nI d1))]) C dX7_nudge_76 (by decide) rfl ?_
                    refine e_iconst (v := (nI 0)) C dX7_nudge_78 (by decide) ?_
                    refine e_istore (lv2 := [(14, .int (nI 0)), (13, .int (nI ((c9 + 0) % n 2))), (0, .ref 0), (1, .int (nI a9)), (2, .int (nI b9)), (3, .int (nI c9)), (4, .int (nI x9)), (5, .int (nI v9)), (6, .int bb), (7, .int (nI ss)), (8, .int (nI cc)), (9, .int (nI ((a9 + d0) % n 0))), (10, .int (nI d0)), (11, .int (nI ((b9 + d1) % n 1))), (12, .int (nI d1))]) C dX7_nudge_79 (by decide) rfl ?_
                    refine e_loc [2, 3, 4, 5, 6, 7, 8, 9, 10, 11, 12, 13, 14, 1, 0] rfl ?_
                    have lc : ∀ (d2 : Nat) (bb : Int32) (ss : Nat) (cc : Nat), d0 + d1 + d2 ≤ x9 + 1 → ss ≤ 6 → NdI (ndg n (EE n P k W pv L) a9 b9 c9) (lexV x9 d0 d1 d2) bb ss cc → Wd X (0, 0) 81 [(0, .ref 0), (1, .int (nI a9)), (2, .int (nI b9)), (3, .int (nI c9)), (4, .int (nI x9)), (5, .int (nI v9)), (6, .int bb), (7, .int (nI ss)), (8, .int (nI cc)), (9, .int (nI ((a9 + d0) % n 0))), (10, .int (nI d0)), (11, .int (nI ((b9 + d1) % n 1))), (12, .int (nI d1)), (13, .int (nI ((c9 + d2) % n 2))), (14, .int (nI d2))] [] (shF w) M := by
                      intro d2
                      induction hq_lc : x9 + 1 - (d0 + d1 + d2) using Nat.strongRecOn generalizing d2 with
                      | ind k_lc ih_lc =>
                        intro bb ss cc hd2 hss hN
                        have hm2 := Nat.mod_lt (c9 + d2) hz2
                        refine e_iload C dX7_nudge_81 rfl ?_
                        refine e_iload C dX7_nudge_83 rfl ?_
                        refine e_iaddN C dX7_nudge_85 ?_
                        refine e_iload C dX7_nudge_86 rfl ?_
                        refine e_iaddN C dX7_nudge_88 ?_
                        refine e_iload C dX7_nudge_89 rfl ?_
                        refine e_icmp_gtN (tgt := 179) C dX7_nudge_91 (by omega) (by omega) (by decide) (fun h91 => ?_) (fun h91 => ?_)
                        · refine e_aload_n C dX7_nudge_179 rfl rfl ?_
                          refine e_getR (q := 1) C dX7_nudge_180 fX7_10 rfl rfl ?_
                          refine e_iconst (v := (nI 1)) C dX7_nudge_183 (by decide) ?_
                          refine e_iload C dX7_nudge_184 rfl ?_
                          have ha2 := blw_lt (n := n 1) (s := (b9 + d1) % n 1) (by omega)
                          refine e_callVi C dX7_nudge_186 [.int (nI 1), .int (nI ((b9 + d1) % n 1))] (k_below hS 1 ((b9 + d1) % n 1) (by omega) (by omega)) okX4_below lX7_171 rfl rfl rfl ⟨rfl, rfl⟩ ⟨Nat.le_of_ble_eq_true rfl, Nat.le_of_ble_eq_true rfl⟩ (Nat.le_of_ble_eq_true rfl) ⟨Nat.zero_le _, Nat.zero_le _⟩ ?_
                          refine e_topi (nI ((b9 + (d1 + 1)) % n 1)) (congrArg nI (blw_mod hz1 (b9 + d1))) ?_
                          refine e_istore (lv2 := [(11, .int (nI ((b9 + (d1 + 1)) % n 1))), (0, .ref 0), (1, .int (nI a9)), (2, .int (nI b9)), (3, .int (nI c9)), (4, .int (nI x9)), (5, .int (nI v9)), (6, .int bb), (7, .int (nI ss)), (8, .int (nI cc)), (9, .int (nI ((a9 + d0) % n 0))), (10, .int (nI d0)), (12, .int (nI d1)), (13, .int (nI ((c9 + d2) % n 2))), (14, .int (nI d2))]) C dX7_nudge_189 (by decide) rfl ?_
                          refine e_iincN (lv2 := [(12, .int (nI (d1 + 1))), (11, .int (nI ((b9 + (d1 + 1)) % n 1))), (0, .ref 0), (1, .int (nI a9)), (2, .int (nI b9)), (3, .int (nI c9)), (4, .int (nI x9)), (5, .int (nI v9)), (6, .int bb), (7, .int (nI ss)), (8, .int (nI cc)), (9, .int (nI ((a9 + d0) % n 0))), (10, .int (nI d0)), (13, .int (nI ((c9 + d2) % n 2))), (14, .int (nI d2))]) C dX7_nudge_191 rfl (by decide) (nI_1 _) rfl ?_
                          refine e_goto (tgt := 65) C dX7_nudge_194 (by decide) ?_
                          refine e_loc [2, 3, 4, 5, 6, 7, 8, 9, 10, 11, 12, 1, 0] rfl ?_
                          exact ih_lb (x9 + 1 - (d0 + (d1 + 1))) (by omega) (d1 + 1) rfl bb ss cc (by omega) (by omega) (hN.iff (fun x y t => by unfold lexV; omega))
                        · refine e_aload_n C dX7_nudge_94 rfl rfl ?_
                          refine e_iload C dX7_nudge_95 rfl ?_
                          refine e_iload C dX7_nudge_97 rfl ?_
                          refine e_iload C dX7_nudge_99 rfl ?_
                          have he3 := hB.le ((a9 + d0) % n 0) ((b9 + d1) % n 1) ((c9 + d2) % n 2)
                          refine e_callVi C dX7_nudge_101 [.int (nI ((a9 + d0) % n 0)), .int (nI ((b9 + d1) % n 1)), .int (nI ((c9 + d2) % n 2))] (k_endingPays hB ((a9 + d0) % n 0) ((b9 + d1) % n 1) ((c9 + d2) % n 2) (by omega) (by omega) (by omega)) okX7_endingPays lX7_131 rfl rfl rfl ⟨rfl, rfl⟩ ⟨Nat.le_of_ble_eq_true rfl, Nat.le_of_ble_eq_true rfl⟩ (Nat.le_of_ble_eq_true rfl) ⟨Nat.zero_le _, Nat.zero_le _⟩ ?_
                          refine e_topi (nI (ndg n (EE n P k W pv L) a9 b9 c9 d0 d1 d2)) rfl ?_
                          have hnd := hff d0 d1 d2
                          refine e_istore (lv2 := [(15, .int (nI (ndg n (EE n P k W pv L) a9 b9 c9 d0 d1 d2))), (0, .ref 0), (1, .int (nI a9)), (2, .int (nI b9)), (3, .int (nI c9)), (4, .int (nI x9)), (5, .int (nI v9)), (6, .int bb), (7, .int (nI ss)), (8, .int (nI cc)), (9, .int (nI ((a9 + d0) % n 0))), (10, .int (nI d0)), (11, .int (nI ((b9 + d1) % n 1))), (12, .int (nI d1)), (13, .int (nI ((c9 + d2) % n 2))), (14, .int (nI d2))]) C dX7_nudge_104 (by decide) rfl ?_
                          refine e_iload C dX7_nudge_106 rfl ?_
                          refine e_iload C dX7_nudge_108 rfl ?_
                          refine e_iaddN C dX7_nudge_110 ?_
                          refine e_iload C dX7_nudge_111 rfl ?_
                          refine e_iaddN C dX7_nudge_113 ?_
                          refine e_istore (lv2 := [(16, .int (nI (d0 + d1 + d2))), (15, .int (nI (ndg n (EE n P k W pv L) a9 b9 c9 d0 d1 d2))), (0, .ref 0), (1, .int (nI a9)), (2, .int (nI b9)), (3, .int (nI c9)), (4, .int (nI x9)), (5, .int (nI v9)), (6, .int bb), (7, .int (nI ss)), (8, .int (nI cc)), (9, .int (nI ((a9 + d0) % n 0))), (10, .int (nI d0)), (11, .int (nI ((b9 + d1) % n 1))), (12, .int (nI d1)), (13, .int (nI ((c9 + d2) % n 2))), (14, .int (nI d2))]) C dX7_nudge_114 (by decide) rfl ?_
                          refine e_iload C dX7_nudge_116 rfl ?_
                          refine e_iload C dX7_nudge_118 rfl ?_
                          refine e_icmp_gt (x := (nI (ndg n (EE n P k W pv L) a9 b9 c9 d0 d1 d2))) (y := bb) (tgt := 137) C dX7_nudge_120 (by decide) (fun h120 => ?_) (fun h120 => ?_)
                          · refine e_iload C dX7_nudge_137 rfl ?_
                            refine e_istore (lv2 := [(6, .int (nI (ndg n (EE n P k W pv L) a9 b9 c9 d0 d1 d2))), (16, .int (nI (d0 + d1 + d2))), (15, .int (nI (ndg n (EE n P k W pv L) a9 b9 c9 d0 d1 d2))), (0, .ref 0), (1, .int (nI a9)), (2, .int (nI b9)), (3, .int (nI c9)), (4, .int (nI x9)), (5, .int (nI v9)), (7, .int (nI ss)), (8, .int (nI cc)), (9, .int (nI ((a9 + d0) % n 0))), (10, .int (nI d0)), (11, .int (nI ((b9 + d1) % n 1))), (12, .int (nI d1)), (13, .int (nI ((c9 + d2) % n 2))), (14, .int (nI d2))]) C dX7_nudge_139 (by decide) rfl ?_
                            refine e_iload C dX7_nudge_141 rfl ?_
                            refine e_istore (lv2 := [(7, .int (nI (d0 + d1 + d2))), (6, .int (nI (ndg n (EE n P k W pv L) a9 b9 c9 d0 d1 d2))), (16, .int (nI (d0 + d1 + d2))), (15, .int (nI (ndg n (EE n P k W pv L) a9 b9 c9 d0 d1 d2))), (0, .ref 0), (1, .int (nI a9)), (2, .int (nI b9)), (3, .int (nI c9)), (4, .int (nI x9)), (5, .int (nI v9)), (8, .int (nI cc)), (9, .int (nI ((a9 + d0) % n 0))), (10, .int (nI d0)), (11, .int (nI ((b9 + d1) % n 1))), (12, .int (nI d1)), (13, .int (nI ((c9 + d2) % n 2))), (14, .int (nI d2))]) C dX7_nudge_143 (by decide) rfl ?_
                            refine e_bipush (v := (nI 100)) C dX7_nudge_145 (by decide) ?_
                            refine e_iload C dX7_nudge_147 rfl ?_
                            refine e_imulN C dX7_nudge_149 ?_
                            refine e_bipush (v := (nI 10)) C dX7_nudge_150 (by decide) ?_
                            refine e_iload C dX7_nudge_152 rfl ?_
                            refine e_imulN C dX7_nudge_154 ?_
                            refine e_iaddN C dX7_nudge_155 ?_
                            refine e_iload C dX7_nudge_156 rfl ?_
                            refine e_iaddN C dX7_nudge_158 ?_
                            refine e_istore (lv2 := [(8, .int (nI (100 * d0 + (10 * d1) + d2))), (7, .int (nI (d0 + d1 + d2))), (6, .int (nI (ndg n (EE n P k W pv L) a9 b9 c9 d0 d1 d2))), (16, .int (nI (d0 + d1 + d2))), (15, .int (nI (ndg n (EE n P k W pv L) a9 b9 c9 d0 d1 d2))), (0, .ref 0), (1, .int (nI a9)), (2, .int (nI b9)), (3, .int (nI c9)), (4, .int (nI x9)), (5, .int (nI v9)), (9, .int (nI ((a9 + d0) % n 0))), (10, .int (nI d0)), (11, .int (nI ((b9 + d1) % n 1))), (12, .int (nI d1)), (13, .int (nI ((c9 + d2) % n 2))), (14, .int (nI d2))]) C dX7_nudge_159 (by decide) rfl ?_
                            refine e_aload_n C dX7_nudge_161 rfl rfl ?_
                            refine e_getR (q := 1) C dX7_nudge_162 fX7_10 rfl rfl ?_
                            refine e_iconst (v := (nI 2)) C dX7_nudge_165 (by decide) ?_
                            refine e_iload C dX7_nudge_166 rfl ?_
                            have ha4 := blw_lt (n := n 2) (s := (c9 + d2) % n 2) (by omega)
                            refine e_callVi C dX7_nudge_168 [.int (nI 2), .int (nI ((c9 + d2) % n 2))] (k_below hS 2 ((c9 + d2) % n 2) (by omega) (by omega)) okX4_below lX7_171 rfl rfl rfl ⟨rfl, rfl⟩ ⟨Nat.le_of_ble_eq_true rfl, Nat.le_of_ble_eq_true rfl⟩ (Nat.le_of_ble_eq_true rfl) ⟨Nat.zero_le _, Nat.zero_le _⟩ ?_
                            refine e_topi (nI ((c9 + (d2 + 1)) % n 2)) (congrArg nI (blw_mod hz2 (c9 + d2))) ?_
                            refine e_istore (lv2 := [(13, .int (nI ((c9 + (d2 + 1)) % n 2))), (8, .int (nI (100 * d0 + (10 * d1) + d2))), (7, .int (nI (d0 + d1 + d2))), (6, .int (nI (ndg n (EE n P k W pv L) a9 b9 c9 d0 d1 d2))), (16, .int (nI (d0 + d1 + d2))), (15, .int (nI (ndg n (EE n P k W pv L) a9 b9 c9 d0 d1 d2))), (0, .ref 0), (1, .int (nI a9)), (2, .int (nI b9)), (3, .int (nI c9)), (4, .int (nI x9)), (5, .int (nI v9)), (9, .int (nI ((a9 + d0) % n 0))), (10, .int (nI d0)), (11, .int (nI ((b9 + d1) % n 1))), (12, .int (nI d1)), (14, .int (nI d2))]) C dX7_nudge_171 (by decide) rfl ?_
                            refine e_iincN (lv2 := [(14, .int (nI (d2 + 1))), (13, .int (nI ((c9 + (d2 + 1)) % n 2))), (8, .int (nI (100 * d0 + (10 * d1) + d2))), (7, .int (nI (d0 + d1 + d2))), (6, .int (nI (ndg n (EE n P k W pv L) a9 b9 c9 d0 d1 d2))), (16, .int (nI (d0 + d1 + d2))), (15, .int (nI (ndg n (EE n P k W pv L) a9 b9 c9 d0 d1 d2))), (0, .ref 0), (1, .int (nI a9)), (2, .int (nI b9)), (3, .int (nI c9)), (4, .int (nI x9)), (5, .int (nI v9)), (9, .int (nI ((a9 + d0) % n 0))), (10, .int (nI d0)), (11, .int (nI ((b9 + d1) % n 1))), (12, .int (nI d1))]) C dX7_nudge_173 rfl (by decide) (nI_1 _) rfl ?_
                            refine e_goto (tgt := 81) C dX7_nudge_176 (by decide) ?_
                            refine e_loc [7, 8, 9, 10, 11, 12, 4, 3, 2, 13, 14, 15, 16, 1, 0] rfl ?_
                            exact ih_lc (x9 + 1 - (d0 + d1 + (d2 + 1))) (by omega) (d2 + 1) rfl (nI (ndg n (EE n P k W pv L) a9 b9 c9 d0 d1 d2)) (d0 + d1 + d2) (100 * d0 + 10 * d1 + d2) (by omega) (by omega) (hN.new (by omega) hff (Or.inl h120))
                          · refine e_iload C dX7_nudge_123 rfl ?_
                            refine e_iload C dX7_nudge_125 rfl ?_
                            refine e_icmp_ne (x := (nI (ndg n (EE n P k W pv L) a9 b9 c9 d0 d1 d2))) (y := bb) (tgt := 161) C dX7_nudge_127 (by decide) (fun h127 => ?_) (fun h127 => ?_)
                            · refine e_aload_n C dX7_nudge_161 rfl rfl ?_
                              refine e_getR (q := 1) C dX7_nudge_162 fX7_10 rfl rfl ?_
                              refine e_iconst (v := (nI 2)) C dX7_nudge_165 (by decide) ?_
                              refine e_iload C dX7_nudge_166 rfl ?_
                              have ha5 := blw_lt (n := n 2) (s := (c9 + d2) % n 2) (by omega)
                              refine e_callVi C dX7_nudge_168 [.int (nI 2), .int (nI ((c9 + d2) % n 2))] (k_below hS 2 ((c9 + d2) % n 2) (by omega) (by omega)) okX4_below lX7_171 rfl rfl rfl ⟨rfl, rfl⟩ ⟨Nat.le_of_ble_eq_true rfl, Nat.le_of_ble_eq_true rfl⟩ (Nat.le_of_ble_eq_true rfl) ⟨Nat.zero_le _, Nat.zero_le _⟩ ?_
                              refine e_topi (nI ((c9 + (d2 + 1)) % n 2)) (congrArg nI (blw_mod hz2 (c9 + d2))) ?_
                              refine e_istore (lv2 := [(13, .int (nI ((c9 + (d2 + 1)) % n 2))), (16, .int (nI (d0 + d1 + d2))), (15, .int (nI (ndg n (EE n P k W pv L) a9 b9 c9 d0 d1 d2))), (0, .ref 0), (1, .int (nI a9)), (2, .int (nI b9)), (3, .int (nI c9)), (4, .int (nI x9)), (5, .int (nI v9)), (6, .int bb), (7, .int (nI ss)), (8, .int (nI cc)), (9, .int (nI ((a9 + d0) % n 0))), (10, .int (nI d0)), (11, .int (nI ((b9 + d1) % n 1))), (12, .int (nI d1)), (14, .int (nI d2))]) C dX7_nudge_171 (by decide) rfl ?_
                              refine e_iincN (lv2 := [(14, .int (nI (d2 + 1))), (13, .int (nI ((c9 + (d2 + 1)) % n 2))), (16, .int (nI (d0 + d1 + d2))), (15, .int (nI (ndg n (EE n P k W pv L) a9 b9 c9 d0 d1 d2))), (0, .ref 0), (1, .int (nI a9)), (2, .int (nI b9)), (3, .int (nI c9)), (4, .int (nI x9)), (5, .int (nI v9)), (6, .int bb), (7, .int (nI ss)), (8, .int (nI cc)), (9, .int (nI ((a9 + d0) % n 0))), (10, .int (nI d0)), (11, .int (nI ((b9 + d1) % n 1))), (12, .int (nI d1))]) C dX7_nudge_173 rfl (by decide) (nI_1 _) rfl ?_
                              refine e_goto (tgt := 81) C dX7_nudge_176 (by decide) ?_
                              refine e_loc [4, 5, 6, 7, 8, 9, 10, 11, 12, 13, 14, 15, 16, 1, 0] rfl ?_
                              exact ih_lc (x9 + 1 - (d0 + d1 + (d2 + 1))) (by omega) (d2 + 1) rfl bb ss cc (by omega) (by omega) (hN.old hff h120 (Or.inl h127))
                            · refine e_iload C dX7_nudge_130 rfl ?_
                              refine e_iload C dX7_nudge_132 rfl ?_
                              refine e_icmp_geN (tgt := 161) C dX7_nudge_134 (by omega) (by omega) (by decide) (fun h134 => ?_) (fun h134 => ?_)
                              · refine e_aload_n C dX7_nudge_161 rfl rfl ?_
                                refine e_getR (q := 1) C dX7_nudge_162 fX7_10 rfl rfl ?_
                                refine e_iconst (v := (nI 2)) C dX7_nudge_165 (by decide) ?_
                                refine e_iload C dX7_nudge_166 rfl ?_
                                have ha6 := blw_lt (n := n 2) (s := (c9 + d2) % n 2) (by omega)
                                refine e_callVi C dX7_nudge_168 [.int (nI 2), .int (nI ((c9 + d2) % n 2))] (k_below hS 2 ((c9 + d2) % n 2) (by omega) (by omega)) okX4_below lX7_171 rfl rfl rfl ⟨rfl, rfl⟩ ⟨Nat.le_of_ble_eq_true rfl, Nat.le_of_ble_eq_true rfl⟩ (Nat.le_of_ble_eq_true rfl) ⟨Nat.zero_le _, Nat.zero_le _⟩ ?_
                                refine e_topi (nI ((c9 + (d2 + 1)) % n 2)) (congrArg nI (blw_mod hz2 (c9 + d2))) ?_
                                refine e_istore (lv2 := [(13, .int (nI ((c9 + (d2 + 1)) % n 2))), (16, .int (nI (d0 + d1 + d2))), (15, .int (nI (ndg n (EE n P k W pv L) a9 b9 c9 d0 d1 d2))), (0, .ref 0), (1, .int (nI a9)), (2, .int (nI b9)), (3, .int (nI c9)), (4, .int (nI x9)), (5, .int (nI v9)), (6, .int bb), (7, .int (nI ss)), (8, .int (nI cc)), (9, .int (nI ((a9 + d0) % n 0))), (10, .int (nI d0)), (11, .int (nI ((b9 + d1) % n 1))), (12, .int (nI d1)), (14, .int (nI d2))]) C dX7_nudge_171 (by decide) rfl ?_
                                refine e_iincN (lv2 := [(14, .int (nI (d2 + 1))), (13, .int (nI ((c9 + (d2 + 1)) % n 2))), (16, .int (nI (d0 + d1 + d2))), (15, .int (nI (ndg n (EE n P k W pv L) a9 b9 c9 d0 d1 d2))), (0, .ref 0), (1, .int (nI a9)), (2, .int (nI b9)), (3, .int (nI c9)), (4, .int (nI x9)), (5, .int (nI v9)), (6, .int bb), (7, .int (nI ss)), (8, .int (nI cc)), (9, .int (nI ((a9 + d0) % n 0))), (10, .int (nI d0)), (11, .int (nI ((b9 + d1) % n 1))), (12, .int (nI d1))]) C dX7_nudge_173 rfl (by decide) (nI_1 _) rfl ?_
                                refine e_goto (tgt := 81) C dX7_nudge_176 (by decide) ?_
                                refine e_loc [4, 5, 6, 7, 8, 9, 10, 11, 12, 13, 14, 15, 16, 1, 0] rfl ?_
                                exact ih_lc (x9 + 1 - (d0 + d1 + (d2 + 1))) (by omega) (d2 + 1) rfl bb ss cc (by omega) (by omega) (hN.old hff h120 (Or.inr h134))
                              · refine e_iload C dX7_nudge_137 rfl ?_
                                refine e_istore (lv2 := [(6, .int (nI (ndg n (EE n P k W pv L) a9 b9 c9 d0 d1 d2))), (16, .int (nI (d0 + d1 + d2))), (15, .int (nI (ndg n (EE n P k W pv L) a9 b9 c9 d0 d1 d2))), (0, .ref 0), (1, .int (nI a9)), (2, .int (nI b9)), (3, .int (nI c9)), (4, .int (nI x9)), (5, .int (nI v9)), (7, .int (nI ss)), (8, .int (nI cc)), (9, .int (nI ((a9 + d0) % n 0))), (10, .int (nI d0)), (11, .int (nI ((b9 + d1) % n 1))), (12, .int (nI d1)), (13, .int (nI ((c9 + d2) % n 2))), (14, .int (nI d2))]) C dX7_nudge_139 (by decide) rfl ?_
                                refine e_iload C dX7_nudge_141 rfl ?_
                                refine e_istore (lv2 := [(7, .int (nI (d0 + d1 + d2))), (6, .int (nI (ndg n (EE n P k W pv L) a9 b9 c9 d0 d1 d2))), (16, .int (nI (d0 + d1 + d2))), (15, .int (nI (ndg n (EE n P k W pv L) a9 b9 c9 d0 d1 d2))), (0, .ref 0), (1, .int (nI a9)), (2, .int (nI b9)), (3, .int (nI c9)), (4, .int (nI x9)), (5, .int (nI v9)), (8, .int (nI cc)), (9, .int (nI ((a9 + d0) % n 0))), (10, .int (nI d0)), (11, .int (nI ((b9 + d1) % n 1))), (12, .int (nI d1)), (13, .int (nI ((c9 + d2) % n 2))), (14, .int (nI d2))]) C dX7_nudge_143 (by decide) rfl ?_
                                refine e_bipush (v := (nI 100)) C dX7_nudge_145 (by decide) ?_
                                refine e_iload C dX7_nudge_147 rfl ?_
                                refine e_imulN C dX7_nudge_149 ?_
                                refine e_bipush (v := (nI 10)) C dX7_nudge_150 (by decide) ?_
                                refine e_iload C dX7_nudge_152 rfl ?_
                                refine e_imulN C dX7_nudge_154 ?_
                                refine e_iaddN C dX7_nudge_155 ?_
                                refine e_iload C dX7_nudge_156 rfl ?_
                                refine e_iaddN C dX7_nudge_158 ?_
                                refine e_istore (lv2 := [(8, .int (nI (100 * d0 + (10 * d1) + d2))), (7, .int (nI (d0 + d1 + d2))), (6, .int (nI (ndg n (EE n P k W pv L) a9 b9 c9 d0 d1 d2))), (16, .int (nI (d0 + d1 + d2))), (15, .int (nI (ndg n (EE n P k W pv L) a9 b9 c9 d0 d1 d2))), (0, .ref 0), (1, .int (nI a9)), (2, .int (nI b9)), (3, .int (nI c9)), (4, .int (nI x9)), (5, .int (nI v9)), (9, .int (nI ((a9 + d0) % n 0))), (10, .int (nI d0)), (11, .int (nI ((b9 + d1) % n 1))), (12, .int (nI d1)), (13, .int (nI ((c9 + d2) % n 2))), (14, .int (nI d2))]) C dX7_nudge_159 (by decide) rfl ?_
                                refine e_aload_n C dX7_nudge_161 rfl rfl ?_
                                refine e_getR (q := 1) C dX7_nudge_162 fX7_10 rfl rfl ?_
                                refine e_iconst (v := (nI 2)) C dX7_nudge_165 (by decide) ?_
                                refine e_iload C dX7_nudge_166 rfl ?_
                                have ha7 := blw_lt (n := n 2) (s := (c9 + d2) % n 2) (by omega)
                                refine e_callVi C dX7_nudge_168 [.int (nI 2), .int (nI ((c9 + d2) % n 2))] (k_below hS 2 ((c9 + d2) % n 2) (by omega) (by omega)) okX4_below lX7_171 rfl rfl rfl ⟨rfl, rfl⟩ ⟨Nat.le_of_ble_eq_true rfl, Nat.le_of_ble_eq_true rfl⟩ (Nat.le_of_ble_eq_true rfl) ⟨Nat.zero_le _, Nat.zero_le _⟩ ?_
                                refine e_topi (nI ((c9 + (d2 + 1)) % n 2)) (congrArg nI (blw_mod hz2 (c9 + d2))) ?_
                                refine e_istore (lv2 := [(13, .int (nI ((c9 + (d2 + 1)) % n 2))), (8, .int (nI (100 * d0 + (10 * d1) + d2))), (7, .int (nI (d0 + d1 + d2))), (6, .int (nI (ndg n (EE n P k W pv L) a9 b9 c9 d0 d1 d2))), (16, .int (nI (d0 + d1 + d2))), (15, .int (nI (ndg n (EE n P k W pv L) a9 b9 c9 d0 d1 d2))), (0, .ref 0), (1, .int (nI a9)), (2, .int (nI b9)), (3, .int (nI c9)), (4, .int (nI x9)), (5, .int (nI v9)), (9, .int (nI ((a9 + d0) % n 0))), (10, .int (nI d0)), (11, .int (nI ((b9 + d1) % n 1))), (12, .int (nI d1)), (14, .int (nI d2))]) C dX7_nudge_171 (by decide) rfl ?_
                                refine e_iincN (lv2 := [(14, .int (nI (d2 + 1))), (13, .int (nI ((c9 + (d2 + 1)) % n 2))), (8, .int (nI (100 * d0 + (10 * d1) + d2))), (7, .int (nI (d0 + d1 + d2))), (6, .int (nI (ndg n (EE n P k W pv L) a9 b9 c9 d0 d1 d2))), (16, .int (nI (d0 + d1 + d2))), (15, .int (nI (ndg n (EE n P k W pv L) a9 b9 c9 d0 d1 d2))), (0, .ref 0), (1, .int (nI a9)), (2, .int (nI b9)), (3, .int (nI c9)), (4, .int (nI x9)), (5, .int (nI v9)), (9, .int (nI ((a9 + d0) % n 0))), (10, .int (nI d0)), (11, .int (nI ((b9 + d1) % n 1))), (12, .int (nI d1))]) C dX7_nudge_173 rfl (by decide) (nI_1 _) rfl ?_
                                refine e_goto (tgt := 81) C dX7_nudge_176 (by decide) ?_
                                refine e_loc [7, 8, 9, 10, 11, 12, 4, 3, 2, 13, 14, 15, 16, 1, 0] rfl ?_
                                exact ih_lc (x9 + 1 - (d0 + d1 + (d2 + 1))) (by omega) (d2 + 1) rfl (nI (ndg n (EE n P k W pv L) a9 b9 c9 d0 d1 d2)) (d0 + d1 + d2) (100 * d0 + 10 * d1 + d2) (by omega) (by omega) (hN.new (by omega) hff (Or.inr ⟨h127, by omega⟩))
                    exact lc 0 bb ss cc (by omega) hss hN
              exact lb 0 bb ss cc (by omega) hss hN
        exact la 0 (-1) 0 0 (by omega) (by omega) (Or.inl ⟨rfl, fun x y t h => by unfold lexV at h; omega⟩)
      · refine e_bipush (v := (-2)) C dX7_nudge_34 (by decide) ?_
        exact e_zret C dX7_nudge_36 RT rfl ⟨Nat.zero_le _, Nat.zero_le _⟩ (rqi (if_neg (fun h9 => dec_f h31 h9.2.2)) hI (Same.rf _ M))
