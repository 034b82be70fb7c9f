theorem odd_bq {n g m : Nat} (h4 : 4 ≤ n) (h20 : n ≤ 20) (hg : g ≤ 200) (hm : m ≤ g) : Bq (oddS (prb (hitN n) (misN n) g) m (g + 1 - m)) := by
  obtain ⟨h1, h2, h3⟩ := oddS_ok (m := m) h4 h20 hg (g + 1 - m) (by omega)
  have h5 := sumN_off (f := fun j => fz (prb (hitN n) (misN n) g j)) m (g + 1 - m)
  have h6 : sumN (fun j => fz (prb (hitN n) (misN n) g j)) (m + (g + 1 - m)) ≤ sumN (fun j => fz (prb (hitN n) (misN n) g j)) 201 := sumN_le_of_le (by omega)
  have h7 := (prb_bnd h4 h20 hg).2
  have h8 : (g + 1 - m) * fd ≤ 201 * fd := Nat.mul_le_mul_right _ (by omega)
  have h9 := fO_eq
  have h10 := fd_pos
  refine ⟨h1, ?_, ?_⟩
  · unfold msP at h7; omega
  · rcases h3 with h3 | h3
    · exact Or.inl h3
    · exact Or.inr (Nat.le_trans (Nat.pow_le_pow_right (by decide) (by decide)) h3)
theorem seC_le (g : Nat) (q : Nat → Nat → Nat) (r s : Nat) : seC g q r s ≤ g := cntb_le _ _
set_option maxHeartbeats 4000000 in
set_option maxRecDepth 100000 in
theorem p_odd {w : Bool} {M : Mm} {n P cnt : Nat → Nat} {k : Nat} {W : Nat → Nat → Int32} {pv : Nat → Nat} {L R H : Nat} {z : Nat → Int32} {g : Nat} {q : Nat → Nat → Nat} (hI : CInv M (n, P, cnt, k, W, pv, L, R, H, z, g, q))  (r : Int32) : CT mX7_odd [.ref 0, .int r] (shF w) M (Ql (spOdd (n, P, cnt, k, W, pv, L, R, H, z, g, q) r).1 (shF w) (fun m0 => CInv m0 (spOdd (n, P, cnt, k, W, pv, L, R, H, z, g, q) r).2 ∧ FrC M m0)) := by
  refine CT.mk (lv := [(0, .ref 0), (1, .int r)]) rfl (by decide +kernel) (Nat.le_of_ble_eq_true rfl) ?_
  intro X C RT
  obtain ⟨hB, hCt, hF, hF2, hT7, hG, hQ⟩ := id hI
  obtain ⟨hS, hT, hL, hL1, hL3⟩ := id hB
  have n0 := hS.2.1 0 (by decide)
  have n1 := hS.2.1 1 (by decide)
  have n2 := hS.2.1 2 (by decide)
  have hg2 := hG.2.1
  refine e_iload_n C dX7_odd_0 rfl rfl ?_
  refine e_callSi C dX7_odd_1 [.int r] (k_isReelN r) okX7_isReel lX7_77 rfl ⟨rfl, rfl⟩ ⟨Nat.le_of_ble_eq_true rfl, Nat.le_of_ble_eq_true rfl⟩ (Nat.le_of_ble_eq_true rfl) ⟨Nat.zero_le _, Nat.zero_le _⟩ ?_
  refine e_if_neB (b := decide (inn r 0 2)) (tgt := 11) C dX7_odd_4 (by decide) (fun h4 => ?_) (fun h4 => ?_)
  · obtain ⟨r9, l_r9, u_r9, rfl⟩ := inn_N (b := 2) (dec_t h4) (by decide)
    have hn9 := hS.2.1 r9 (by omega)
    refine e_aload_n C dX7_odd_11 rfl rfl ?_
    refine e_getR (q := 18) C dX7_odd_12 fX7_51 rfl rfl ?_
    refine e_getI C dX7_odd_15 fX7_217 rfl rfl ?_
    refine e_topi (nI g) hG.1 ?_
    refine e_if_neN (tgt := 25) C dX7_odd_18 (by omega) (by decide) (fun h18 => ?_) (fun h18 => ?_)
    · refine e_aload_n C dX7_odd_25 rfl rfl ?_
      refine e_getR (q := 18) C dX7_odd_26 fX7_51 rfl rfl ?_
      refine e_iload_n C dX7_odd_29 rfl rfl ?_
      refine e_aload_n C dX7_odd_30 rfl rfl ?_
      refine e_getR (q := 18) C dX7_odd_31 fX7_51 rfl rfl ?_
      refine e_iload_n C dX7_odd_34 rfl rfl ?_
      have hms := bstH_le (fun s => cntb (fun i => decide (q i r9 = s)) g) 19
      refine e_callVi C dX7_odd_35 [.int (nI r9)] (k_mostSeen hG r9 (by omega)) okX3_mostSeen lX7_231 rfl rfl rfl ⟨rfl, rfl⟩ ⟨Nat.le_of_ble_eq_true rfl, Nat.le_of_ble_eq_true rfl⟩ (Nat.le_of_ble_eq_true rfl) ⟨Nat.zero_le _, Nat.zero_le _⟩ ?_
      have ht1 := cntb_le (fun i => decide (q i r9 = (bstH (fun s => cntb (fun i => decide (q i r9 = s)) g) 19))) g
      refine e_callVi C dX7_odd_38 [.int (nI r9), .int (nI (bstH (fun s => cntb (fun i => decide (q i r9 = s)) g) 19))] (k_times hG r9 (bstH (fun s => cntb (fun i => decide (q i r9 = s)) g) 19) (by omega) (by omega)) okX3_times lX7_236 rfl rfl rfl ⟨rfl, rfl⟩ ⟨Nat.le_of_ble_eq_true rfl, Nat.le_of_ble_eq_true rfl⟩ (Nat.le_of_ble_eq_true rfl) ⟨Nat.zero_le _, Nat.zero_le _⟩ ?_
      refine e_topi (nI (seC g q r9 (bstH (seC g q r9) 19))) rfl ?_
      have hml := seC_le g q r9 (bstH (seC g q r9) 19)
      refine e_istore_n (lv2 := [(2, .int (nI (seC g q r9 (bstH (seC g q r9) 19)))), (0, .ref 0), (1, .int (nI r9))]) C dX7_odd_41 rfl (by decide) rfl ?_
      refine e_aload_n C dX7_odd_42 rfl rfl ?_
      refine e_getR (q := 20) C dX7_odd_43 fX7_58 rfl rfl ?_
      refine e_iload_n C dX7_odd_46 rfl rfl ?_
      refine e_aload_n C dX7_odd_47 rfl rfl ?_
      refine e_getR (q := 18) C dX7_odd_48 fX7_51 rfl rfl ?_
      refine e_getI C dX7_odd_51 fX7_217 rfl rfl ?_
      refine e_topi (nI g) hG.1 ?_
      refine e_aload_n C dX7_odd_54 rfl rfl ?_
      refine e_getR (q := 1) C dX7_odd_55 fX7_10 rfl rfl ?_
      refine e_iload_n C dX7_odd_58 rfl rfl ?_
      refine e_callVi C dX7_odd_59 [.int (nI r9)] (k_stopsOf hS r9 (by omega)) okX4_stopsOf lX7_145 rfl rfl rfl ⟨rfl, rfl⟩ ⟨Nat.le_of_ble_eq_true rfl, Nat.le_of_ble_eq_true rfl⟩ (Nat.le_of_ble_eq_true rfl) ⟨Nat.zero_le _, Nat.zero_le _⟩ ?_
      refine e_callVdQ C dX7_odd_62 [.int (nI (seC g q r9 (bstH (seC g q r9) 19))), .int (nI g), .int (nI (n r9))] (k_asOften (seC g q r9 (bstH (seC g q r9) 19)) g (n r9) hn9.1 hn9.2 (by omega) hml) okX0_asOften lX7_239 rfl rfl rfl ⟨rfl, rfl⟩ ⟨Nat.le_of_ble_eq_true rfl, Nat.le_of_ble_eq_true rfl⟩ (Nat.le_of_ble_eq_true rfl) ⟨Nat.zero_le _, Nat.zero_le _⟩ (fun M2 hM2 => ?_)
      have hbq : Bq (oddN n g q r9) := odd_bq hn9.1 hn9.2 hg2 hml
      refine e_callSl C dX7_odd_65 [.double (oddN n g q r9)] (k_bitsOf (oddN n g q r9) hbq) okX7_bitsOf lX7_227 rfl ⟨rfl, rfl⟩ ⟨Nat.le_of_ble_eq_true rfl, Nat.le_of_ble_eq_true rfl⟩ (Nat.le_of_ble_eq_true rfl) ⟨Nat.zero_le _, Nat.zero_le _⟩ ?_
      exact e_lret C dX7_odd_68 RT ⟨Nat.zero_le _, Nat.zero_le _⟩ (rql ((if_pos (dec_t h4)).trans (by rw [tn_nI (q := r9) (by omega), if_neg h18])) (hI.sm hM2 (by decide)) (rngd hM2 (by decide)))
    · refine e_ldc2 (v := (-1)) C dX7_odd_21 kX7_234 ?_
      exact e_lret C dX7_odd_24 RT ⟨Nat.zero_le _, Nat.zero_le _⟩ (rql ((if_pos (dec_t h4)).trans (by rw [if_pos h18])) hI (Same.rf _ M))
  · refine e_ldc2 (v := (-2)) C dX7_odd_7 kX7_135 ?_
    exact e_lret C dX7_odd_10 RT ⟨Nat.zero_le _, Nat.zero_le _⟩ (rql (if_neg (fun h9 => dec_f h4 h9)) hI (Same.rf _ M))
theorem ksub : ∀ k, k ≤ 12 → (nI k - nI 1).toInt = (k : Int) - 1 := by decide
theorem oI_eq {x : Option Nat} {i : Nat} (h : ∀ j, x = some j → j < 2 ^ 31) (hi : i < 2 ^ 31) : oI x = nI i ↔ x = some i := by
  cases x with
  | none => simp only [oI, reduceCtorEq, iff_false]; exact fun e => nI_nm1 hi e.symm
  | some j =>
    simp only [oI, Option.some.injEq]
    refine ⟨fun e => ?_, fun e => by rw [e]⟩
    have h1 := nI_toInt (h j rfl); have h2 := nI_toInt hi
    rw [e] at h1; omega
set_option maxHeartbeats 4000000 in
set_option maxRecDepth 100000 in
theorem p_rows {w : Bool} {M : Mm} {n P cnt : Nat → Nat} {k : Nat} {W : Nat → Nat → Int32} {pv : Nat → Nat} {L R H : Nat} {z : Nat → Int32} {g : Nat} {q : Nat → Nat → Nat} (hI : CInv M (n, P, cnt, k, W, pv, L, R, H, z, g, q))  (i : Int32) : CT mX7_rows [.ref 0, .int i] (shF w) M (Qi (spRows (n, P, cnt, k, W, pv, L, R, H, z, g, q) i).1 (shF w) (fun m0 => CInv m0 (spRows (n, P, cnt, k, W, pv, L, R, H, z, g, q) i).2 ∧ FrC M m0)) := by
  refine CT.mk (lv := [(0, .ref 0), (1, .int i)]) rfl (by decide +kernel) (Nat.le_of_ble_eq_true rfl) ?_
  intro X C RT
  obtain ⟨hB, hCt, hF, hF2, hT7, hG, hQ⟩ := id hI
  obtain ⟨hS, hT, hL, hL1, hL3⟩ := id hB
  have n0 := hS.2.1 0 (by decide)
  have n1 := hS.2.1 1 (by decide)
  have n2 := hS.2.1 2 (by decide)
  have hk12 := hT.2.1
  have hkk := ksub k hk12
  refine e_iload_n C dX7_rows_0 rfl rfl ?_
  refine e_iconst (v := (nI 0)) C dX7_rows_1 (by decide) ?_
  refine e_aload_n C dX7_rows_2 rfl rfl ?_
  refine e_getR (q := 7) C dX7_rows_3 fX7_23 rfl rfl ?_
  refine e_getI C dX7_rows_6 fX7_117 rfl rfl ?_
  refine e_topi (nI k) hT.1 ?_
  refine e_iconst (v := (nI 1)) C dX7_rows_9 (by decide) ?_
  refine e_isub C dX7_rows_10 ?_
  refine e_callSi C dX7_rows_11 [.int i, .int (nI 0), .int (nI k - nI 1)] (k_withinI i (nI 0) (nI k - nI 1)) okX7_within lX7_81 rfl ⟨rfl, rfl⟩ ⟨Nat.le_of_ble_eq_true rfl, Nat.le_of_ble_eq_true rfl⟩ (Nat.le_of_ble_eq_true rfl) ⟨Nat.zero_le _, Nat.zero_le _⟩ ?_
  refine e_if_neB (b := decide (inn i ((nI 0)).toInt ((nI k - nI 1)).toInt)) (tgt := 20) C dX7_rows_14 (by decide) (fun h14 => ?_) (fun h14 => ?_)
  · have h15 := dec_t h14
    rw [hkk] at h15
    have h16 : inn i 0 ((k : Int) - 1) := h15
    obtain ⟨i9, hi9, rfl⟩ : ∃ q : Nat, q < k ∧ i = nI q := ⟨i.toInt.toNat, by unfold inn at h16; omega, nI_of3 h16.1⟩
    refine e_iconst (v := (nI 0)) C dX7_rows_20 (by decide) ?_
    refine e_istore_n (lv2 := [(2, .int (nI 0)), (0, .ref 0), (1, .int (nI i9))]) C dX7_rows_21 rfl (by decide) rfl ?_
    refine e_iconst (v := (nI 0)) C dX7_rows_22 (by decide) ?_
    refine e_istore_n (lv2 := [(3, .int (nI 0)), (2, .int (nI 0)), (0, .ref 0), (1, .int (nI i9))]) C dX7_rows_23 rfl (by decide) rfl ?_
    refine e_loc [2, 3, 1, 0] rfl ?_
    have l1 : ∀ (a : Nat) (x1 : Nat), a ≤ n 0 → x1 = acc n (fun a b c => iw (fstR W k (lin P a b c) = some i9) 1) a 0 0 → Wd X (0, 0) 24 [(0, .ref 0), (1, .int (nI i9)), (2, .int (nI x1)), (3, .int (nI a))] [] (shF w) M := by
      intro a
      induction hq_l1 : n 0 - a using Nat.strongRecOn generalizing a with
      | ind k_l1 ih_l1 =>
        intro x1 ha9 hI1
        refine e_iload_n C dX7_rows_24 rfl rfl ?_
        refine e_aload_n C dX7_rows_25 rfl rfl ?_
        refine e_getR (q := 1) C dX7_rows_26 fX7_10 rfl rfl ?_
        refine e_iconst (v := (nI 0)) C dX7_rows_29 (by decide) ?_
        refine e_callVi C dX7_rows_30 [.int (nI 0)] (k_stopsOf hS 0 (by omega)) okX4_stopsOf lX7_145 rfl rfl rfl ⟨rfl, rfl⟩ ⟨Nat.le_of_ble_eq_true rfl, Nat.le_of_ble_eq_true rfl⟩ (Nat.le_of_ble_eq_true rfl) ⟨Nat.zero_le _, Nat.zero_le _⟩ ?_
        refine e_icmp_geN (tgt := 109) C dX7_rows_33 (by omega) (by omega) (by decide) (fun h33 => ?_) (fun h33 => ?_)
        · refine e_iload_n C dX7_rows_109 rfl rfl ?_
          exact e_zret C dX7_rows_110 RT rfl ⟨Nat.zero_le _, Nat.zero_le _⟩ (rqi ((if_pos h16).trans (by rw [tn_nI (q := i9) (by omega), hI1, show a = n 0 by omega, acc_n])) hI (Same.rf _ M))
        · refine e_iconst (v := (nI 0)) C dX7_rows_36 (by decide) ?_
          refine e_istore (lv2 := [(4, .int (nI 0)), (0, .ref 0), (1, .int (nI i9)), (2, .int (nI x1)), (3, .int (nI a))]) C dX7_rows_37 (by decide) rfl ?_
          refine e_loc [1, 2, 3, 4, 0] rfl ?_
          have l2 : ∀ (b : Nat) (x2 : Nat), b ≤ n 1 → x2 = acc n (fun a b c => iw (fstR W k (lin P a b c) = some i9) 1) a b 0 → Wd X (0, 0) 39 [(0, .ref 0), (1, .int (nI i9)), (2, .int (nI x2)), (3, .int (nI a)), (4, .int (nI b))] [] (shF w) M := by
            intro b
            induction hq_l2 : n 1 - b using Nat.strongRecOn generalizing b with
            | ind k_l2 ih_l2 =>
              intro x2 hb9 hI2
              refine e_iload C dX7_rows_39 rfl ?_
              refine e_aload_n C dX7_rows_41 rfl rfl ?_
              refine e_getR (q := 1) C dX7_rows_42 fX7_10 rfl rfl ?_
              refine e_iconst (v := (nI 1)) C dX7_rows_45 (by decide) ?_
              refine e_callVi C dX7_rows_46 [.int (nI 1)] (k_stopsOf hS 1 (by omega)) okX4_stopsOf lX7_145 rfl rfl rfl ⟨rfl, rfl⟩ ⟨Nat.le_of_ble_eq_true rfl, Nat.le_of_ble_eq_true rfl⟩ (Nat.le_of_ble_eq_true rfl) ⟨Nat.zero_le _, Nat.zero_le _⟩ ?_
              refine e_icmp_geN (tgt := 103) C dX7_rows_49 (by omega) (by omega) (by decide) (fun h49 => ?_) (fun h49 => ?_)
              · refine e_iincN (lv2 := [(3, .int (nI (a + 1))), (0, .ref 0), (1, .int (nI i9)), (2, .int (nI x2)), (4, .int (nI b))]) C dX7_rows_103 rfl (by decide) (nI_1 _) rfl ?_
                refine e_goto (tgt := 24) C dX7_rows_106 (by decide) ?_
                refine e_loc [1, 2, 3, 0] rfl ?_
                have hI4 := hI2
                rw [show b = n 1 by omega] at hI4
                exact ih_l1 (n 0 - (a + 1)) (by omega) (a + 1) rfl x2 (by omega) (by rw [acc_a]; exact hI4)
              · refine e_iconst (v := (nI 0)) C dX7_rows_52 (by decide) ?_
                refine e_istore (lv2 := [(5, .int (nI 0)), (0, .ref 0), (1, .int (nI i9)), (2, .int (nI x2)), (3, .int (nI a)), (4, .int (nI b))]) C dX7_rows_53 (by decide) rfl ?_
                refine e_loc [1, 2, 3, 4, 5, 0] rfl ?_
                have l3 : ∀ (c : Nat) (x3 : Nat), c ≤ n 2 → x3 = acc n (fun a b c => iw (fstR W k (lin P a b c) = some i9) 1) a b c → Wd X (0, 0) 55 [(0, .ref 0), (1, .int (nI i9)), (2, .int (nI x3)), (3, .int (nI a)), (4, .int (nI b)), (5, .int (nI c))] [] (shF w) M := by
                  intro c
                  induction hq_l3 : n 2 - c using Nat.strongRecOn generalizing c with
                  | ind k_l3 ih_l3 =>
                    intro x3 hc9 hI3
                    refine e_iload C dX7_rows_55 rfl ?_
                    refine e_aload_n C dX7_rows_57 rfl rfl ?_
                    refine e_getR (q := 1) C dX7_rows_58 fX7_10 rfl rfl ?_
                    refine e_iconst (v := (nI 2)) C dX7_rows_61 (by decide) ?_
                    refine e_callVi C dX7_rows_62 [.int (nI 2)] (k_stopsOf hS 2 (by omega)) okX4_stopsOf lX7_145 rfl rfl rfl ⟨rfl, rfl⟩ ⟨Nat.le_of_ble_eq_true rfl, Nat.le_of_ble_eq_true rfl⟩ (Nat.le_of_ble_eq_true rfl) ⟨Nat.zero_le _, Nat.zero_le _⟩ ?_
                    refine e_icmp_geN (tgt := 97) C dX7_rows_65 (by omega) (by omega) (by decide) (fun h65 => ?_) (fun h65 => ?_)
                    · refine e_iincN (lv2 := [(4, .int (nI (b + 1))), (0, .ref 0), (1, .int (nI i9)), (2, .int (nI x3)), (3, .int (nI a)), (5, .int (nI c))]) C dX7_rows_97 rfl (by decide) (nI_1 _) rfl ?_
                      refine e_goto (tgt := 39) C dX7_rows_100 (by decide) ?_
                      refine e_loc [1, 2, 3, 4, 0] rfl ?_
                      have hI4 := hI3
                      rw [show c = n 2 by omega] at hI4
                      exact ih_l2 (n 1 - (b + 1)) (by omega) (b + 1) rfl x3 (by omega) (by rw [acc_b]; exact hI4)
                    · refine e_aload_n C dX7_rows_68 rfl rfl ?_
                      refine e_getR (q := 7) C dX7_rows_69 fX7_23 rfl rfl ?_
                      refine e_aload_n C dX7_rows_72 rfl rfl ?_
                      refine e_iload_n C dX7_rows_73 rfl rfl ?_
                      refine e_iload C dX7_rows_74 rfl ?_
                      refine e_iload C dX7_rows_76 rfl ?_
                      have hm1 := lin_lt hS.2.2.2.1 a b c
                      refine e_callVi C dX7_rows_78 [.int (nI a), .int (nI b), .int (nI c)] (k_middleLine hS a b c (by omega) (by omega) (by omega)) okX7_middleLine lX7_149 rfl rfl rfl ⟨rfl, rfl⟩ ⟨Nat.le_of_ble_eq_true rfl, Nat.le_of_ble_eq_true rfl⟩ (Nat.le_of_ble_eq_true rfl) ⟨Nat.zero_le _, Nat.zero_le _⟩ ?_
                      refine e_callVi C dX7_rows_81 [.int (nI (lin P a b c))] (k_firstRow hT (lin P a b c) (by omega)) okX2_firstRow lX7_152 rfl rfl rfl ⟨rfl, rfl⟩ ⟨Nat.le_of_ble_eq_true rfl, Nat.le_of_ble_eq_true rfl⟩ (Nat.le_of_ble_eq_true rfl) ⟨Nat.zero_le _, Nat.zero_le _⟩ ?_
                      refine e_iload_n C dX7_rows_84 rfl rfl ?_
                      refine e_icmp_ne (x := (oI (fstR W k (lin P a b c)))) (y := (nI i9)) (tgt := 91) C dX7_rows_85 (by decide) (fun h85 => ?_) (fun h85 => ?_)
                      · refine e_iincN (lv2 := [(5, .int (nI (c + 1))), (0, .ref 0), (1, .int (nI i9)), (2, .int (nI x3)), (3, .int (nI a)), (4, .int (nI b))]) C dX7_rows_91 rfl (by decide) (nI_1 _) rfl ?_
                        refine e_goto (tgt := 55) C dX7_rows_94 (by decide) ?_
                        refine e_loc [1, 2, 3, 4, 5, 0] rfl ?_
                        exact ih_l3 (n 2 - (c + 1)) (by omega) (c + 1) rfl x3 (by omega) (by rw [acc_c, ← hI3]; show x3 = x3 + iw _ 1; unfold iw; rw [if_neg (fun e => h85 ((oI_eq (fun j hj => by have := (fstb_lt hj).1; omega) (by omega)).mpr e))]; rfl)
                      · refine e_iincN (lv2 := [(2, .int (nI (x3 + 1))), (0, .ref 0), (1, .int (nI i9)), (3, .int (nI a)), (4, .int (nI b)), (5, .int (nI c))]) C dX7_rows_88 rfl (by decide) (nI_1 _) rfl ?_
                        refine e_iincN (lv2 := [(5, .int (nI (c + 1))), (2, .int (nI (x3 + 1))), (0, .ref 0), (1, .int (nI i9)), (3, .int (nI a)), (4, .int (nI b))]) C dX7_rows_91 rfl (by decide) (nI_1 _) rfl ?_
                        refine e_goto (tgt := 55) C dX7_rows_94 (by decide) ?_
                        refine e_loc [2, 3, 1, 4, 5, 0] rfl ?_
                        exact ih_l3 (n 2 - (c + 1)) (by omega) (c + 1) rfl (x3 + 1) (by omega) (by rw [acc_c, ← hI3]; show x3 + 1 = x3 + iw _ 1; unfold iw; rw [if_pos ((oI_eq (fun j hj => by have := (fstb_lt hj).1; omega) (by omega)).mp h85)])
                exact l3 0 x2 (Nat.zero_le _) hI2
          exact l2 0 x1 (Nat.zero_le _) hI1
    exact l1 0 0 (Nat.zero_le _) rfl
  · refine e_bipush (v := (-2)) C dX7_rows_17 (by decide) ?_
    exact e_zret C dX7_rows_19 RT rfl ⟨Nat.zero_le _, Nat.zero_le _⟩ (rqi (if_neg (fun h9 => dec_f h14 (by rw [hkk]; exact h9))) hI (Same.rf _ M))
theorem Enum.uniq {cnt : Nat → Nat} {sz sz2 : Nat} {f f2 : Nat → Nat} (h : Enum cnt sz f) (h2 : Enum cnt sz2 f2) : sz = sz2 ∧ ∀ i, i < sz → f i = f2 i := by
  obtain ⟨a1, a2, a3⟩ := h
  obtain ⟨b1, b2, b3⟩ := h2
  have key : ∀ i, (i < sz → i < sz2 ∧ f i = f2 i) ∧ (i < sz2 → i < sz ∧ f i = f2 i) := by
    intro i
    induction i using Nat.strongRecOn with
    | ind i ih =>
      have h1 : i < sz → ∃ j, j < sz2 ∧ f2 j = f i ∧ i ≤ j := fun hi => by
        obtain ⟨j, hj, e⟩ := b3 (f i) (a2 i hi)
        refine ⟨j, hj, e, ?_⟩
        rcases Nat.lt_or_ge j i with h5 | h5
        · have h6 := ((ih j h5).2 hj).2
          have h7 := a1 j i h5 hi
          omega
        · exact h5
      have h3 : i < sz2 → ∃ j, j < sz ∧ f j = f2 i ∧ i ≤ j := fun hi => by
        obtain ⟨j, hj, e⟩ := a3 (f2 i) (b2 i hi)
        refine ⟨j, hj, e, ?_⟩
        rcases Nat.lt_or_ge j i with h5 | h5
        · have h6 := ((ih j h5).1 hj).2
          have h7 := b1 j i h5 hi
          omega
        · exact h5
      refine ⟨fun hi => ?_, fun hi => ?_⟩
      · obtain ⟨j, hj, e, hij⟩ := h1 hi
        have hi2 : i < sz2 := by omega
        refine ⟨hi2, ?_⟩
        obtain ⟨j2, hj2, e2, hij2⟩ := h3 hi2
        rcases Nat.lt_or_ge i j with h5 | h5
        · have h6 := b1 i j h5 hj
          rcases Nat.lt_or_ge i j2 with h7 | h7
          · have h8 := a1 i j2 h7 hj2; omega
          · have : j2 = i := by omega
            subst this; omega
        · have : j = i := by omega
          subst this; exact e.symm
      · obtain ⟨j, hj, e, hij⟩ := h3 hi
        have hi2 : i < sz := by omega
        refine ⟨hi2, ?_⟩
        obtain ⟨j2, hj2, e2, hij2⟩ := h1 hi2
        rcases Nat.lt_or_ge i j with h5 | h5
        · have h6 := a1 i j h5 hj
          rcases Nat.lt_or_ge i j2 with h7 | h7
          · have h8 := b1 i j2 h7 hj2; omega
          · have : j2 = i := by omega
            subst this; omega
        · have : j = i := by omega
          subst this; exact e
  refine ⟨?_, fun i hi => ((key i).1 hi).2⟩
  rcases Nat.lt_trichotomy sz sz2 with h5 | h5 | h5
  · have := ((key sz).2 h5).1; omega
  · exact h5
  · have := ((key sz2).1 h5).1; omega
theorem dryS_congr {cnt f f2 : Nat → Nat} {N : Nat} {D : Nat → UInt64} {h : Nat} : ∀ {k : Nat}, (∀ i, i < k → f i = f2 i) → dryS cnt f N D h k = dryS cnt f2 N D h k
  | 0, _ => rfl
  | k + 1, e => by simp only [dryS]; rw [dryS_congr (k := k) (fun i hi => e i (by omega)), e k (by omega)]
theorem dryL_congr {cnt f f2 : Nat → Nat} {sz N L R : Nat} (e : ∀ i, i < sz → f i = f2 i) : ∀ t, dryL cnt f sz N L R t = dryL cnt f2 sz N L R t
  | 0 => rfl
  | t + 1 => by funext c; simp only [dryL]; rw [dryL_congr e t, dryS_congr e]
theorem tot_add (n : Nat → Nat) (f g : Nat → Nat → Nat → Nat) : tot n (fun a b c => f a b c + g a b c) = tot n f + tot n g := by
  unfold tot
  rw [← sumN_add]
  refine sumN_congr (fun a _ => ?_)
  rw [← sumN_add]
  refine sumN_congr (fun b _ => ?_)
  rw [← sumN_add]
theorem sumN_const (c : Nat) : ∀ k, sumN (fun _ => c) k = k * c
  | 0 => by simp [sumN]
  | k + 1 => by simp only [sumN]; rw [sumN_const c k, Nat.add_mul, Nat.one_mul]
theorem tot_one (n : Nat → Nat) : tot n (fun _ _ _ => 1) = prd n 7 3 := by
  unfold tot
  simp only [sumN_const]
  rw [prd7, Nat.mul_one, Nat.mul_assoc]
theorem tot_mono {n : Nat → Nat} {f g : Nat → Nat → Nat → Nat} (h : ∀ a b c, f a b c ≤ g a b c) : tot n f ≤ tot n g := by
  unfold tot
  exact sumN_mono (fun a _ => sumN_mono (fun b _ => sumN_mono (fun c _ => h a b c)))
theorem tot_zero (n : Nat → Nat) : tot n (fun _ _ _ => 0) = 0 := by unfold tot; exact sumN_zero (fun _ => sumN_zero (fun _ => sumN_zero (fun _ => rfl)))
theorem tot_sum (n : Nat → Nat) (G : Nat → Nat → Nat → Nat → Nat) : ∀ i, sumN (fun j => tot n (G j)) i = tot n (fun a b c => sumN (fun j => G j a b c) i)
  | 0 => by simp only [sumN]; exact (tot_zero n).symm
  | i + 1 => by simp only [sumN]; rw [tot_sum n G i, ← tot_add]
theorem iw_inj {f : Nat → Nat} {e : Nat} : ∀ {i : Nat}, (∀ a b, a < b → b < i → f a < f b) → sumN (fun j => iw (e = f j) 1) i ≤ 1 ∧ (∀ j, i ≤ j → (∀ a, a < i → f a < e) → sumN (fun j => iw (e = f j) 1) i = 0)
  | 0, _ => ⟨by simp [sumN], fun _ _ _ => rfl⟩
  | i + 1, h => by
    obtain ⟨h1, h2⟩ := iw_inj (i := i) (e := e) (fun a b hab hb => h a b hab (by omega))
    simp only [sumN]
    refine ⟨?_, fun j hj hlt => ?_⟩
    · by_cases e9 : e = f i
      · rw [h2 i (Nat.le_refl _) (fun a ha => by rw [e9]; exact h a i ha (by omega))]; unfold iw; rw [if_pos e9]; omega
      · unfold iw; unfold iw at h1; rw [if_neg e9]; omega
    · rw [h2 j (by omega) (fun a ha => hlt a (by omega))]; unfold iw; rw [if_neg (by have := hlt i (by omega); omega)]
/-- the endings that pay one of these are all endings at most -/
theorem Enum.sum_le {n : Nat → Nat} {E : Nat → Nat → Nat → Nat} {sz : Nat} {f : Nat → Nat} (h : Enum (cT n E) sz f) : ∀ i, i ≤ sz → sumN (fun j => cT n E (f j)) i ≤ prd n 7 3 := by
  intro i hi
  unfold cT
  rw [tot_sum n (fun j a b c => iw (E a b c = f j) 1), ← tot_one]
  exact tot_mono (fun a b c => (iw_inj (fun x y hxy hy => h.1 x y hxy (by omega))).1)
theorem dry_bq {cnt f : Nat → Nat} {N sz L R t c : Nat} (hN : 1 ≤ N) (hN2 : N ≤ 8000) (hsz : sz ≤ 455) (hc1 : ∀ i, i < sz → 1 ≤ cnt (f i)) (hcs : ∀ i, i ≤ sz → sumN (fun j => cnt (f j)) i ≤ N) (ht : t ≤ 50) : Bq (dryL cnt f sz N L R t c) := by
  obtain ⟨h1, h2, h3⟩ := dryL_ok hN hN2 hsz hc1 hcs t ht c (L := L) (R := R)
  have h8 : t * 1820 * fd ≤ 91000 * fd := Nat.mul_le_mul_right _ (by omega)
  have h9 := fO_eq
  have h10 := fd_pos
  refine ⟨h1, by omega, ?_⟩
  rcases h3 with h3 | h3
  · exact Or.inl h3
  · exact Or.inr (Nat.le_trans (Nat.pow_le_pow_right (by decide) (by omega)) h3)
theorem rdl {M M2 : Mm} {w2 : Bool} {p : Int64 × St} {v : Int64} {s : St} (e : p = (v, s)) (h : CInv M2 s) (hf : FrC M M2) : (fun v s m0 => v = some (Value.long p.1) ∧ (∃ w2, s = shF w2) ∧ CInv m0 p.2 ∧ FrC M m0) (some (.long v)) (shF w2) M2 := by subst e; exact ⟨rfl, ⟨w2, rfl⟩, h, hf⟩
set_option maxHeartbeats 4000000 in
set_option maxRecDepth 100000 in
theorem p_dry {w : Bool} {M : Mm} {n P cnt : Nat → Nat} {k : Nat} {W : Nat → Nat → Int32} {pv : Nat → Nat} {L R H : Nat} {z : Nat → Int32} {g : Nat} {q : Nat → Nat → Nat} (hI : CInv M (n, P, cnt, k, W, pv, L, R, H, z, g, q)) {sz : Nat} {f : Nat → Nat} (hE : Enum (cT n (EE n P k W pv L)) sz f) (h t : Int32) : CT mX7_dry [.ref 0, .int h, .int t] (shF w) M (fun v s m0 => v = some (.long (spDry sz f (n, P, cnt, k, W, pv, L, R, H, z, g, q) h t).1) ∧ (∃ w2, s = shF w2) ∧ CInv m0 (spDry sz f (n, P, cnt, k, W, pv, L, R, H, z, g, q) h t).2 ∧ FrC M m0) := by
  refine CT.mk (lv := [(0, .ref 0), (1, .int h), (2, .int t)]) rfl (by decide +kernel) (Nat.le_of_ble_eq_true rfl) ?_
  intro X C RT
  obtain ⟨hB, hCt, hF, hF2, hT7, hG, hQ⟩ := id hI
  obtain ⟨hS, hT, hL, hL1, hL3⟩ := id hB
  have n0 := hS.2.1 0 (by decide)
  have n1 := hS.2.1 1 (by decide)
  have n2 := hS.2.1 2 (by decide)
  obtain ⟨t0, t1, tH, tR, tR2, tz⟩ := id hT7
  have hN1 := prd_le n0.2 n1.2 n2.2 7
  have hN0 := prd_pos (n := n) (by omega) (by omega) (by omega)
  refine e_iload_n C dX7_dry_0 rfl rfl ?_
  refine e_iconst (v := (nI 0)) C dX7_dry_1 (by decide) ?_
  refine e_aload_n C dX7_dry_2 rfl rfl ?_
  refine e_getR (q := 17) C dX7_dry_3 fX7_44 rfl rfl ?_
  refine e_getI C dX7_dry_6 fX7_191 rfl rfl ?_
  refine e_topi (nI R) t0 ?_
  refine e_callSi C dX7_dry_9 [.int h, .int (nI 0), .int (nI R)] (k_withinN h 0 R (by omega) (by omega)) okX7_within lX7_81 rfl ⟨rfl, rfl⟩ ⟨Nat.le_of_ble_eq_true rfl, Nat.le_of_ble_eq_true rfl⟩ (Nat.le_of_ble_eq_true rfl) ⟨Nat.zero_le _, Nat.zero_le _⟩ ?_
  refine e_if_eqB (b := decide (inn h (0 : Nat) (R : Nat))) (tgt := 25) C dX7_dry_12 (by decide) (fun h12 => ?_) (fun h12 => ?_)
  · refine e_ldc2 (v := (-2)) C dX7_dry_25 kX7_135 ?_
    exact e_lret C dX7_dry_28 RT ⟨Nat.zero_le _, Nat.zero_le _⟩ (rdl (if_neg (fun h9 => dec_f h12 h9.1)) hI (Same.rf _ M))
  · refine e_iload_n C dX7_dry_15 rfl rfl ?_
    refine e_iconst (v := (nI 0)) C dX7_dry_16 (by decide) ?_
    refine e_bipush (v := (nI 50)) C dX7_dry_17 (by decide) ?_
    refine e_callSi C dX7_dry_19 [.int t, .int (nI 0), .int (nI 50)] (k_withinN t 0 50 (by omega) (by omega)) okX7_within lX7_81 rfl ⟨rfl, rfl⟩ ⟨Nat.le_of_ble_eq_true rfl, Nat.le_of_ble_eq_true rfl⟩ (Nat.le_of_ble_eq_true rfl) ⟨Nat.zero_le _, Nat.zero_le _⟩ ?_
    refine e_if_neB (b := decide (inn t (0 : Nat) (50 : Nat))) (tgt := 29) C dX7_dry_22 (by decide) (fun h22 => ?_) (fun h22 => ?_)
    · obtain ⟨h9, l_h9, u_h9, rfl⟩ := inn_N (b := R) (dec_t h12) (by decide)
      obtain ⟨t9, l_t9, u_t9, rfl⟩ := inn_N (b := 50) (dec_t h22) (by decide)
      refine e_aload_n C dX7_dry_29 rfl rfl ?_
      refine e_callVvQ C dX7_dry_30 [] (k_countPays hB hF2) okX7_countPays lX7_220 rfl rfl rfl ⟨rfl, rfl⟩ ⟨Nat.le_of_ble_eq_true rfl, Nat.le_of_ble_eq_true rfl⟩ (Nat.le_of_ble_eq_true rfl) ⟨Nat.zero_le _, Nat.zero_le _⟩ (fun M1 hM1 => ?_)
      obtain ⟨hI, hf9⟩ := CInv.cp hI hM1
      obtain ⟨hB, hCt, hF, hF2, hT7, hG, hQ⟩ := id hI
      obtain ⟨hS, hT, hL, hL1, hL3⟩ := id hB
      have n0 := hS.2.1 0 (by decide)
      have n1 := hS.2.1 1 (by decide)
      have n2 := hS.2.1 2 (by decide)
      obtain ⟨t0, t1, tH, tR, tR2, tz⟩ := id hT7
      obtain ⟨sz2, f2, hC9⟩ := hM1.1
      obtain ⟨e_sz, e_f⟩ := hC9.2.2.2.uniq hE
      subst e_sz
      refine e_aload_n C dX7_dry_33 rfl rfl ?_
      refine e_getR (q := 20) C dX7_dry_34 fX7_58 rfl rfl ?_
      refine e_iload_n C dX7_dry_37 rfl rfl ?_
      refine e_iload_n C dX7_dry_38 rfl rfl ?_
      refine e_aload_n C dX7_dry_39 rfl rfl ?_
      refine e_getI C dX7_dry_40 fX7_66 rfl rfl ?_
      refine e_topi (nI L) hL ?_
      refine e_aload_n C dX7_dry_43 rfl rfl ?_
      refine e_getR (q := 17) C dX7_dry_44 fX7_44 rfl rfl ?_
      refine e_getI C dX7_dry_47 fX7_191 rfl rfl ?_
      refine e_topi (nI R) t0 ?_
      refine e_aload_n C dX7_dry_50 rfl rfl ?_
      refine e_getR (q := 14) C dX7_dry_51 fX7_37 rfl rfl ?_
      refine e_aload_n C dX7_dry_54 rfl rfl ?_
      refine e_getR (q := 1) C dX7_dry_55 fX7_10 rfl rfl ?_
      refine e_callVi C dX7_dry_58 [] (k_endings hS) okX4_endings lX7_181 rfl rfl rfl ⟨rfl, rfl⟩ ⟨Nat.le_of_ble_eq_true rfl, Nat.le_of_ble_eq_true rfl⟩ (Nat.le_of_ble_eq_true rfl) ⟨Nat.zero_le _, Nat.zero_le _⟩ ?_
      refine e_callV_gen (As := [.int (nI h9), .int (nI t9), .int (nI L), .int (nI R), .ref 14, .int (nI (prd n 7 3))]) (rest := []) C dX7_dry_61 (k_runsDry hC9 h9 t9 L R (prd n 7 3) (by omega) (by omega) (by omega) (by omega) (by omega) (by omega) hC9.2.2.2.sum_le) okX0_runsDry lX7_223 rfl rfl ⟨Nat.le_of_ble_eq_true rfl, Nat.le_of_ble_eq_true rfl⟩ (Nat.le_of_ble_eq_true rfl) ⟨Nat.zero_le _, Nat.zero_le _⟩ (fun v s m0 h8 => by obtain ⟨w2, e8⟩ := h8.2.1; rw [e8]; rfl) ?_
      rintro v s M2 ⟨rfl, ⟨w2, rfl⟩, hM2⟩
      have hbq : Bq (dryL (cT n (EE n P k W pv L)) f2 sz2 (prd n 7 3) L R t9 h9) := dry_bq (by omega) (by omega) hC9.2.1 (fun i hi => hC9.2.2.2.2.1 i hi) hC9.2.2.2.sum_le (by omega)
      refine (show Wd X (0, 0) 64 _ [.double (dryL (cT n (EE n P k W pv L)) f2 sz2 (prd n 7 3) L R t9 h9)] (shF w2) M2 from ?_)
      refine e_callSl C dX7_dry_64 [.double (dryL (cT n (EE n P k W pv L)) f2 sz2 (prd n 7 3) L R t9 h9)] (k_bitsOf (dryL (cT n (EE n P k W pv L)) f2 sz2 (prd n 7 3) L R t9 h9) hbq) okX7_bitsOf lX7_227 rfl ⟨rfl, rfl⟩ ⟨Nat.le_of_ble_eq_true rfl, Nat.le_of_ble_eq_true rfl⟩ (Nat.le_of_ble_eq_true rfl) ⟨Nat.zero_le _, Nat.zero_le _⟩ ?_
      exact e_lret C dX7_dry_67 RT ⟨Nat.zero_le _, Nat.zero_le _⟩ (rdl ((if_pos ⟨dec_t h12, dec_t h22⟩).trans (by rw [tn_nI (q := h9) (by omega), tn_nI (q := t9) (by omega), ← dryL_congr e_f])) (hI.sm hM2 (by decide)) (hf9.tr (rngd hM2 (by decide))))
    · refine e_ldc2 (v := (-2)) C dX7_dry_25 kX7_135 ?_
      exact e_lret C dX7_dry_28 RT ⟨Nat.zero_le _, Nat.zero_le _⟩ (rdl (if_neg (fun h9 => dec_f h22 h9.2)) hI (Same.rf _ M))
set_option maxHeartbeats 4000000 in
set_option maxRecDepth 100000 in
theorem p_digest {w : Bool} {M : Mm} {n P cnt : Nat → Nat} {k : Nat} {W : Nat → Nat → Int32} {pv : Nat → Nat} {L R H : Nat} {z : Nat → Int32} {g : Nat} {q : Nat → Nat → Nat} (hI : CInv M (n, P, cnt, k, W, pv, L, R, H, z, g, q))  : CT mX7_digest [.ref 0] (shF w) M (Ql (spDigest (n, P, cnt, k, W, pv, L, R, H, z, g, q)).1 (shF w) (fun m0 => CInv m0 (spDigest (n, P, cnt, k, W, pv, L, R, H, z, g, q)).2 ∧ FrC M m0)) := by
  refine CT.mk (lv := [(0, .ref 0)]) rfl (by decide +kernel) (Nat.le_of_ble_eq_true rfl) ?_
  intro X C RT
  obtain ⟨hB, hCt, hF, hF2, hT7, hG, hQ⟩ := id hI
  obtain ⟨hS, hT, hL, hL1, hL3⟩ := id hB
  have n0 := hS.2.1 0 (by decide)
  have n1 := hS.2.1 1 (by decide)
  have n2 := hS.2.1 2 (by decide)
  have hk12 := hT.2.1
  have lc : ∀ (M9 : Mm), CInv M9 (n, P, cnt, k, W, pv, L, R, H, z, g, q) → FrC M M9 → ∀ (i : Nat), i ≤ 8 → Wd X (0, 0) 89 [(0, .ref 0), (1, .long (mixA (fun i => (coi R H z g (nI i)).toInt64) (lN 31 * mixT W pv (mixA (fun i => lN (cnt i)) (mixS n P (mixA (fun i => (spAll (n, P, cnt, k, W, pv, L, R, H, z, g, q) (nI i)).1) (lN 251) 4) 3) 8) k + lN L) i)), (3, .int (nI i))] [] (shF w) M9 := by
    intro M9 hI hf i
    induction hq : 8 - i using Nat.strongRecOn generalizing M9 i with
    | ind k9 ih =>
      intro hi
      refine e_iload_n C dX7_digest_89 rfl rfl ?_
      refine e_bipush (v := (nI 8)) C dX7_digest_90 (by decide) ?_
      refine e_icmp_geN (tgt := 114) C dX7_digest_92 (by omega) (by omega) (by decide) (fun h92 => ?_) (fun h92 => ?_)
      · refine e_lload_n C dX7_digest_114 rfl rfl ?_
        exact e_lret C dX7_digest_115 RT ⟨Nat.zero_le _, Nat.zero_le _⟩ (rql (by rw [show i = 8 by omega]; rfl) hI hf)
      · refine e_ldc2 (v := lN 31) C dX7_digest_95 kX7_245 ?_
        refine e_lload_n C dX7_digest_98 rfl rfl ?_
        refine e_lmul C dX7_digest_99 ?_
        refine e_aload_n C dX7_digest_100 rfl rfl ?_
        refine e_iload_n C dX7_digest_101 rfl rfl ?_
        refine e_callViQ C dX7_digest_102 [.int (nI i)] (p_coins hI (nI i)) okX7_coins lX7_252 rfl rfl rfl ⟨rfl, rfl⟩ ⟨Nat.le_of_ble_eq_true rfl, Nat.le_of_ble_eq_true rfl⟩ (Nat.le_of_ble_eq_true rfl) ⟨Nat.zero_le _, Nat.zero_le _⟩ (fun M1 hM1 => ?_)
        refine e_i2l C dX7_digest_105 ?_
        refine e_ladd C dX7_digest_106 ?_
        refine e_lstore_n (lv2 := [(1, .long (((lN 31) * (mixA (fun i => (coi R H z g (nI i)).toInt64) (lN 31 * mixT W pv (mixA (fun i => lN (cnt i)) (mixS n P (mixA (fun i => (spAll (n, P, cnt, k, W, pv, L, R, H, z, g, q) (nI i)).1) (lN 251) 4) 3) 8) k + lN L) i)) + (((spCoins (n, P, cnt, k, W, pv, L, R, H, z, g, q) (nI i)).1).toInt64))), (0, .ref 0), (3, .int (nI i))]) C dX7_digest_107 rfl (by decide) rfl ?_
        refine e_iincN (lv2 := [(3, .int (nI (i + 1))), (1, .long (((lN 31) * (mixA (fun i => (coi R H z g (nI i)).toInt64) (lN 31 * mixT W pv (mixA (fun i => lN (cnt i)) (mixS n P (mixA (fun i => (spAll (n, P, cnt, k, W, pv, L, R, H, z, g, q) (nI i)).1) (lN 251) 4) 3) 8) k + lN L) i)) + (((spCoins (n, P, cnt, k, W, pv, L, R, H, z, g, q) (nI i)).1).toInt64))), (0, .ref 0)]) C dX7_digest_108 rfl (by decide) (nI_1 _) rfl ?_
        refine e_goto (tgt := 89) C dX7_digest_111 (by decide) ?_
        refine e_loc [2, 1, 0] rfl ?_
        exact ih (8 - (i + 1)) (by omega) M1 hM1.1 (hf.tr hM1.2) (i + 1) rfl (by omega)
  have lb : ∀ (M9 : Mm), CInv M9 (n, P, cnt, k, W, pv, L, R, H, z, g, q) → FrC M M9 → ∀ (i : Nat), i ≤ 8 → Wd X (0, 0) 40 [(0, .ref 0), (1, .long (mixA (fun i => lN (cnt i)) (mixS n P (mixA (fun i => (spAll (n, P, cnt, k, W, pv, L, R, H, z, g, q) (nI i)).1) (lN 251) 4) 3) i)), (3, .int (nI i))] [] (shF w) M9 := by
    intro M9 hI hf i
    induction hq : 8 - i using Nat.strongRecOn generalizing M9 i with
    | ind k9 ih =>
      intro hi
      obtain ⟨hB, hCt, hF, hF2, hT7, hG, hQ⟩ := id hI
      obtain ⟨hS, hT, hL, hL1, hL3⟩ := id hB
      have n0 := hS.2.1 0 (by decide)
      have n1 := hS.2.1 1 (by decide)
      have n2 := hS.2.1 2 (by decide)
      refine e_iload_n C dX7_digest_40 rfl rfl ?_
      refine e_bipush (v := (nI 8)) C dX7_digest_41 (by decide) ?_
      refine e_icmp_geN (tgt := 66) C dX7_digest_43 (by omega) (by omega) (by decide) (fun h43 => ?_) (fun h43 => ?_)
      · have hi8 : i = 8 := by omega
        subst hi8
        refine e_aload_n C dX7_digest_66 rfl rfl ?_
        refine e_getR (q := 7) C dX7_digest_67 fX7_23 rfl rfl ?_
        refine e_lload_n C dX7_digest_70 rfl rfl ?_
        refine e_callVl C dX7_digest_71 [.long (mixA (fun i => lN (cnt i)) (mixS n P (mixA (fun i => (spAll (n, P, cnt, k, W, pv, L, R, H, z, g, q) (nI i)).1) (lN 251) 4) 3) 8)] (k_tmix hT (mixA (fun i => lN (cnt i)) (mixS n P (mixA (fun i => (spAll (n, P, cnt, k, W, pv, L, R, H, z, g, q) (nI i)).1) (lN 251) 4) 3) 8)) okX2_mixedInto lX7_251 rfl rfl rfl ⟨rfl, rfl⟩ ⟨Nat.le_of_ble_eq_true rfl, Nat.le_of_ble_eq_true rfl⟩ (Nat.le_of_ble_eq_true rfl) ⟨Nat.zero_le _, Nat.zero_le _⟩ ?_
        refine e_lstore_n (lv2 := [(1, .long (mixT W pv (mixA (fun i => lN (cnt i)) (mixS n P (mixA (fun i => (spAll (n, P, cnt, k, W, pv, L, R, H, z, g, q) (nI i)).1) (lN 251) 4) 3) 8) k)), (0, .ref 0), (3, .int (nI 8))]) C dX7_digest_74 rfl (by decide) rfl ?_
        refine e_ldc2 (v := lN 31) C dX7_digest_75 kX7_245 ?_
        refine e_lload_n C dX7_digest_78 rfl rfl ?_
        refine e_lmul C dX7_digest_79 ?_
        refine e_aload_n C dX7_digest_80 rfl rfl ?_
        refine e_getI C dX7_digest_81 fX7_66 rfl rfl ?_
        refine e_topi (nI L) hL ?_
        refine e_i2lN C dX7_digest_84 (by omega) ?_
        refine e_ladd C dX7_digest_85 ?_
        refine e_lstore_n (lv2 := [(1, .long (((lN 31) * (mixT W pv (mixA (fun i => lN (cnt i)) (mixS n P (mixA (fun i => (spAll (n, P, cnt, k, W, pv, L, R, H, z, g, q) (nI i)).1) (lN 251) 4) 3) 8) k)) + (lN L))), (0, .ref 0), (3, .int (nI 8))]) C dX7_digest_86 rfl (by decide) rfl ?_
        refine e_iconst (v := (nI 0)) C dX7_digest_87 (by decide) ?_
        refine e_istore_n (lv2 := [(3, .int (nI 0)), (1, .long (((lN 31) * (mixT W pv (mixA (fun i => lN (cnt i)) (mixS n P (mixA (fun i => (spAll (n, P, cnt, k, W, pv, L, R, H, z, g, q) (nI i)).1) (lN 251) 4) 3) 8) k)) + (lN L))), (0, .ref 0)]) C dX7_digest_88 rfl (by decide) rfl ?_
        refine e_loc [2, 1, 0] rfl ?_
        exact lc M9 hI hf 0 (by omega)
      · refine e_ldc2 (v := lN 31) C dX7_digest_46 kX7_245 ?_
        refine e_lload_n C dX7_digest_49 rfl rfl ?_
        refine e_lmul C dX7_digest_50 ?_
        refine e_aload_n C dX7_digest_51 rfl rfl ?_
        refine e_getR (q := 6) C dX7_digest_52 fX7_16 rfl rfl ?_
        refine e_iload_n C dX7_digest_55 rfl rfl ?_
        refine e_ialoadN C dX7_digest_56 rfl (by omega) (by omega) ?_
        refine e_topi (nI (cnt i)) (hCt i (by omega)).1 ?_
        have hc20 := (hCt i (by omega)).2
        refine e_i2lN C dX7_digest_57 (by omega) ?_
        refine e_ladd C dX7_digest_58 ?_
        refine e_lstore_n (lv2 := [(1, .long (((lN 31) * (mixA (fun i => lN (cnt i)) (mixS n P (mixA (fun i => (spAll (n, P, cnt, k, W, pv, L, R, H, z, g, q) (nI i)).1) (lN 251) 4) 3) i)) + (lN (cnt i)))), (0, .ref 0), (3, .int (nI i))]) C dX7_digest_59 rfl (by decide) rfl ?_
        refine e_iincN (lv2 := [(3, .int (nI (i + 1))), (1, .long (((lN 31) * (mixA (fun i => lN (cnt i)) (mixS n P (mixA (fun i => (spAll (n, P, cnt, k, W, pv, L, R, H, z, g, q) (nI i)).1) (lN 251) 4) 3) i)) + (lN (cnt i)))), (0, .ref 0)]) C dX7_digest_60 rfl (by decide) (nI_1 _) rfl ?_
        refine e_goto (tgt := 40) C dX7_digest_63 (by decide) ?_
        refine e_loc [2, 1, 0] rfl ?_
        exact ih (8 - (i + 1)) (by omega) M9 hI hf (i + 1) rfl (by omega)
  have la : ∀ (M9 : Mm), CInv M9 (n, P, cnt, k, W, pv, L, R, H, z, g, q) → FrC M M9 → ∀ (i : Nat), i ≤ 4 → Wd X (0, 0) 6 [(0, .ref 0), (1, .long (mixA (fun i => (spAll (n, P, cnt, k, W, pv, L, R, H, z, g, q) (nI i)).1) (lN 251) i)), (3, .int (nI i))] [] (shF w) M9 := by
    intro M9 hI hf i
    induction hq : 4 - i using Nat.strongRecOn generalizing M9 i with
    | ind k9 ih =>
      intro hi
      obtain ⟨hB, hCt, hF, hF2, hT7, hG, hQ⟩ := id hI
      obtain ⟨hS, hT, hL, hL1, hL3⟩ := id hB
      have n0 := hS.2.1 0 (by decide)
      have n1 := hS.2.1 1 (by decide)
      have n2 := hS.2.1 2 (by decide)
      refine e_iload_n C dX7_digest_6 rfl rfl ?_
      refine e_iconst (v := (nI 3)) C dX7_digest_7 (by decide) ?_
      refine e_icmp_gtN (tgt := 29) C dX7_digest_8 (by omega) (by omega) (by decide) (fun h8 => ?_) (fun h8 => ?_)
      · have hi4 : i = 4 := by omega
        subst hi4
        refine e_aload_n C dX7_digest_29 rfl rfl ?_
        refine e_getR (q := 1) C dX7_digest_30 fX7_10 rfl rfl ?_
        refine e_lload_n C dX7_digest_33 rfl rfl ?_
        refine e_callVl C dX7_digest_34 [.long (mixA (fun i => (spAll (n, P, cnt, k, W, pv, L, R, H, z, g, q) (nI i)).1) (lN 251) 4)] (k_smix hS (mixA (fun i => (spAll (n, P, cnt, k, W, pv, L, R, H, z, g, q) (nI i)).1) (lN 251) 4)) okX4_mixedInto lX7_247 rfl rfl rfl ⟨rfl, rfl⟩ ⟨Nat.le_of_ble_eq_true rfl, Nat.le_of_ble_eq_true rfl⟩ (Nat.le_of_ble_eq_true rfl) ⟨Nat.zero_le _, Nat.zero_le _⟩ ?_
        refine e_lstore_n (lv2 := [(1, .long (mixS n P (mixA (fun i => (spAll (n, P, cnt, k, W, pv, L, R, H, z, g, q) (nI i)).1) (lN 251) 4) 3)), (0, .ref 0), (3, .int (nI 4))]) C dX7_digest_37 rfl (by decide) rfl ?_
        refine e_iconst (v := (nI 0)) C dX7_digest_38 (by decide) ?_
        refine e_istore_n (lv2 := [(3, .int (nI 0)), (1, .long (mixS n P (mixA (fun i => (spAll (n, P, cnt, k, W, pv, L, R, H, z, g, q) (nI i)).1) (lN 251) 4) 3)), (0, .ref 0)]) C dX7_digest_39 rfl (by decide) rfl ?_
        refine e_loc [2, 1, 0] rfl ?_
        exact lb M9 hI hf 0 (by omega)
      · refine e_ldc2 (v := lN 31) C dX7_digest_11 kX7_245 ?_
        refine e_lload_n C dX7_digest_14 rfl rfl ?_
        refine e_lmul C dX7_digest_15 ?_
        refine e_aload_n C dX7_digest_16 rfl rfl ?_
        refine e_iload_n C dX7_digest_17 rfl rfl ?_
        refine e_callVlQ C dX7_digest_18 [.int (nI i)] (k_total hI i (by omega)) okX7_total lX7_141 rfl rfl rfl ⟨rfl, rfl⟩ ⟨Nat.le_of_ble_eq_true rfl, Nat.le_of_ble_eq_true rfl⟩ (Nat.le_of_ble_eq_true rfl) ⟨Nat.zero_le _, Nat.zero_le _⟩ (fun M2 hM2 => ?_)
        refine e_ladd C dX7_digest_21 ?_
        refine e_lstore_n (lv2 := [(1, .long (((lN 31) * (mixA (fun i => (spAll (n, P, cnt, k, W, pv, L, R, H, z, g, q) (nI i)).1) (lN 251) i)) + ((spAll (n, P, cnt, k, W, pv, L, R, H, z, g, q) (nI i)).1))), (0, .ref 0), (3, .int (nI i))]) C dX7_digest_22 rfl (by decide) rfl ?_
        refine e_iincN (lv2 := [(3, .int (nI (i + 1))), (1, .long (((lN 31) * (mixA (fun i => (spAll (n, P, cnt, k, W, pv, L, R, H, z, g, q) (nI i)).1) (lN 251) i)) + ((spAll (n, P, cnt, k, W, pv, L, R, H, z, g, q) (nI i)).1))), (0, .ref 0)]) C dX7_digest_23 rfl (by decide) (nI_1 _) rfl ?_
        refine e_goto (tgt := 6) C dX7_digest_26 (by decide) ?_
        refine e_loc [2, 1, 0] rfl ?_
        exact ih (4 - (i + 1)) (by omega) M2 hM2.1 (hf.tr hM2.2) (i + 1) rfl (by omega)
  refine e_ldc2 (v := lN 251) C dX7_digest_0 kX7_243 ?_
  refine e_lstore_n (lv2 := [(1, .long (lN 251)), (0, .ref 0)]) C dX7_digest_3 rfl (by decide) rfl ?_
  refine e_iconst (v := (nI 0)) C dX7_digest_4 (by decide) ?_
  refine e_istore_n (lv2 := [(3, .int (nI 0)), (1, .long (lN 251)), (0, .ref 0)]) C dX7_digest_5 rfl (by decide) rfl ?_
  refine e_loc [2, 1, 0] rfl ?_
  exact la M hI (Same.rf _ M) 0 (by omega)
