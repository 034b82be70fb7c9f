def OdN (M : Mm) (n g t j : Nat) (M2 : Mm) : Prop := (∀ i, i ≤ g → gD M2 45 i = if j ≤ i then prb (hitN n) (misN n) (t + 1) i else prb (hitN n) (misN n) t i) ∧ Same [45] M M2
set_option maxHeartbeats 1000000 in
set_option maxRecDepth 100000 in
theorem q_odd {w : Bool} {M : Mm} {n P cnt : Nat → Nat} {k : Nat} {W : Nat → Nat → Int32} {pv : Nat → Nat} {L R H : Nat} {z : Nat → Int32} {g : Nat} {q : Nat → Nat → Nat} (hI : RInv M (n, P, cnt, k, W, pv, L, R, H, z, g, q))  (r : Int32) : CT mX8_odd [.ref 25, .int r] (shF w) M (Ql (spOdd (n, P, cnt, k, W, pv, L, R, H, z, g, q) r).1 (shF w) (fun m0 => RInv m0 (spOdd (n, P, cnt, k, W, pv, L, R, H, z, g, q) r).2 ∧ FrR M m0)) := by
  refine CT.mk (lv := [(0, .ref 25), (1, .int r)]) rfl (by decide +kernel) (Nat.le_of_ble_eq_true rfl) ?_
  intro X C RT
  obtain ⟨hB, hCt, hF, hH, hG, hQ⟩ := id hI
  obtain ⟨hS, hT, hL, hL1, hL3⟩ := id hB
  have n0 := hS.2.1 0 (by decide)
  have n1 := hS.2.1 1 (by decide)
  have n2 := hS.2.1 2 (by decide)
  have hg2 := hG.2.1
  refine e_iload_n C dX8_odd_0 rfl rfl ?_
  refine e_callSi C dX8_odd_1 [.int r] (r_isReel r) okX8_isReel lX8_85 rfl ⟨rfl, rfl⟩ ⟨Nat.le_of_ble_eq_true rfl, Nat.le_of_ble_eq_true rfl⟩ (Nat.le_of_ble_eq_true rfl) ⟨Nat.zero_le _, Nat.zero_le _⟩ ?_
  refine e_if_neB (b := decide (inn r 0 2)) (tgt := 11) C dX8_odd_4 (by decide) (fun h4 => ?_) (fun h4 => ?_)
  · obtain ⟨r9, l_r9, u_r9, rfl⟩ := inn_N (b := 2) (dec_t h4) (by decide)
    have hn9 := hS.2.1 r9 (by omega)
    have h49 := hn9.1
    have h209 := hn9.2
    have hh := hit_ok h49 h209
    have hmi := mis_ok h49 h209
    refine e_aload_n C dX8_odd_11 rfl rfl ?_
    refine e_getI C dX8_odd_12 fX8_93 rfl rfl ?_
    refine e_topi (nI g) (by first | exact hG.1 | (rw [hI9.2.gI (by decide)]; exact hG.1)) ?_
    refine e_if_neN (tgt := 22) C dX8_odd_15 (by omega) (by decide) (fun h15 => ?_) (fun h15 => ?_)
    · refine e_dconst1 C dX8_odd_22 ?_
      refine e_aload_n C dX8_odd_23 rfl rfl ?_
      refine e_getR (q := 26) C dX8_odd_24 fX8_7 rfl rfl ?_
      refine e_iload_n C dX8_odd_27 rfl rfl ?_
      refine e_ialoadN C dX8_odd_28 rfl (by omega) (by omega) ?_
      refine e_topi (nI (n r9)) (hS.1 r9 (by omega)) ?_
      refine e_i2d C dX8_odd_29 ?_
      refine e_ddiv C dX8_odd_30 hh.1.n64 ?_
      refine e_topd (hitN (n r9)) rfl ?_
      refine e_dstore_n (lv2 := [(2, .double (hitN (n r9))), (0, .ref 25), (1, .int (nI r9))]) C dX8_odd_31 rfl (by decide) rfl ?_
      refine e_dconst1 C dX8_odd_32 ?_
      refine e_dconst1 C dX8_odd_33 ?_
      refine e_aload_n C dX8_odd_34 rfl rfl ?_
      refine e_getR (q := 26) C dX8_odd_35 fX8_7 rfl rfl ?_
      refine e_iload_n C dX8_odd_38 rfl rfl ?_
      refine e_ialoadN C dX8_odd_39 rfl (by omega) (by omega) ?_
      refine e_topi (nI (n r9)) (hS.1 r9 (by omega)) ?_
      refine e_i2d C dX8_odd_40 ?_
      refine e_ddiv C dX8_odd_41 hh.1.n64 ?_
      refine e_topd (hitN (n r9)) rfl ?_
      refine e_dsub C dX8_odd_42 hmi.1.n64 ?_
      refine e_topd (misN (n r9)) rfl ?_
      refine e_dstore (lv2 := [(4, .double (misN (n r9))), (2, .double (hitN (n r9))), (0, .ref 25), (1, .int (nI r9))]) C dX8_odd_43 (by decide) rfl ?_
      refine e_iconst (v := (nI 0)) C dX8_odd_45 (by decide) ?_
      refine e_istore (lv2 := [(6, .int (nI 0)), (4, .double (misN (n r9))), (2, .double (hitN (n r9))), (0, .ref 25), (1, .int (nI r9))]) C dX8_odd_46 (by decide) rfl ?_
      refine e_loc [3, 4, 2, 1, 0] rfl ?_
      have li : ∀ (j : Nat) (M9 : Mm), j ≤ g + 1 → ((∀ i, i < j → gD M9 45 i = prb (hitN (n r9)) (misN (n r9)) 0 i) ∧ Same [45] M M9) → Wd X (0, 0) 48 [(0, .ref 25), (1, .int (nI r9)), (2, .double (hitN (n r9))), (4, .double (misN (n r9))), (6, .int (nI j))] [] (shF w) M9 := by
        intro j
        induction hq_li : g + 1 - j using Nat.strongRecOn generalizing j with
        | ind k_li ih_li =>
          intro M9 hj hJ
          refine e_iload C dX8_odd_48 rfl ?_
          refine e_aload_n C dX8_odd_50 rfl rfl ?_
          refine e_getI C dX8_odd_51 fX8_93 rfl rfl ?_
          refine e_topi (nI g) (by rw [hJ.2.gI (by decide)]; exact hG.1) ?_
          refine e_icmp_gtN (tgt := 80) C dX8_odd_54 (by omega) (by omega) (by decide) (fun h54 => ?_) (fun h54 => ?_)
          · refine e_iconst (v := (nI 0)) C dX8_odd_80 (by decide) ?_
            refine e_istore (lv2 := [(6, .int (nI 0)), (0, .ref 25), (1, .int (nI r9)), (2, .double (hitN (n r9))), (4, .double (misN (n r9)))]) C dX8_odd_81 (by decide) rfl ?_
            have hT0 : OdN M (n r9) g 0 (g + 1) M9 := ⟨fun i hi => by rw [if_neg (by omega)]; exact hJ.1 i (by omega), hJ.2⟩
            refine e_loc [1, 2, 3, 4, 0] rfl ?_
            have lt : ∀ (t : Nat) (M7 : Mm), t ≤ g → OdN M (n r9) g t (g + 1) M7 → Wd X (0, 0) 83 [(0, .ref 25), (1, .int (nI r9)), (2, .double (hitN (n r9))), (4, .double (misN (n r9))), (6, .int (nI t))] [] (shF w) M7 := by
              intro t
              induction hq_lt : g - t using Nat.strongRecOn generalizing t with
              | ind k_lt ih_lt =>
                intro M7 ht hJ
                refine e_iload C dX8_odd_83 rfl ?_
                refine e_aload_n C dX8_odd_85 rfl rfl ?_
                refine e_getI C dX8_odd_86 fX8_93 rfl rfl ?_
                refine e_topi (nI g) (by rw [hJ.2.gI (by decide)]; exact hG.1) ?_
                refine e_icmp_geN (tgt := 161) C dX8_odd_89 (by omega) (by omega) (by decide) (fun h89 => ?_) (fun h89 => ?_)
                · refine e_dconst0 C dX8_odd_161 ?_
                  refine e_dstore (lv2 := [(6, .double FP.dconst0), (0, .ref 25), (1, .int (nI r9)), (2, .double (hitN (n r9))), (4, .double (misN (n r9)))]) C dX8_odd_162 (by decide) rfl ?_
                  have hG9 : RgOK M7 g q := hG.row (congrFun (hJ.2.gI (by decide)) _) (hJ.2.gI (by decide))
                  have hS9 : RsOK M7 n P := hS.sm hJ.2 (by decide)
                  refine e_aload_n C dX8_odd_164 rfl rfl ?_
                  refine e_iload_n C dX8_odd_165 rfl rfl ?_
                  refine e_aload_n C dX8_odd_166 rfl rfl ?_
                  refine e_iload_n C dX8_odd_167 rfl rfl ?_
                  have hf1 := bstH_le (seC g q r9) 19
                  refine e_callVi C dX8_odd_168 [.int (nI r9)] (r_favouredOf hG9 hQ r9 (by omega) hn9 hS9) okX8_favouredOf lX8_224 rfl rfl rfl ⟨rfl, rfl⟩ ⟨Nat.le_of_ble_eq_true rfl, Nat.le_of_ble_eq_true rfl⟩ (Nat.le_of_ble_eq_true rfl) ⟨Nat.zero_le _, Nat.zero_le _⟩ ?_
                  have ht2 := seC_le g q r9 (bstH (seC g q r9) 19)
                  refine e_callVi C dX8_odd_171 [.int (nI r9), .int (nI (bstH (seC g q r9) 19))] (r_timesSeen hG9 hQ r9 (by omega) hn9 (bstH (seC g q r9) 19) (by omega)) okX8_timesSeen lX8_221 rfl rfl rfl ⟨rfl, rfl⟩ ⟨Nat.le_of_ble_eq_true rfl, Nat.le_of_ble_eq_true rfl⟩ (Nat.le_of_ble_eq_true rfl) ⟨Nat.zero_le _, Nat.zero_le _⟩ ?_
                  refine e_istore (lv2 := [(8, .int (nI (seC g q r9 (bstH (seC g q r9) 19)))), (6, .double FP.dconst0), (0, .ref 25), (1, .int (nI r9)), (2, .double (hitN (n r9))), (4, .double (misN (n r9)))]) C dX8_odd_174 (by decide) rfl ?_
                  have htg : t = g := by omega
                  subst htg
                  have hml := seC_le t q r9 (bstH (seC t q r9) 19)
                  refine e_loc [2, 3, 1, 0] rfl ?_
                  have lk : ∀ (y : Nat) (x9 : UInt64), seC t q r9 (bstH (seC t q r9) 19) + y ≤ t + 1 → x9 = oddS (prb (hitN (n r9)) (misN (n r9)) t) (seC t q r9 (bstH (seC t q r9) 19)) y → Wd X (0, 0) 176 [(0, .ref 25), (1, .int (nI r9)), (6, .double x9), (8, .int (nI (seC t q r9 (bstH (seC t q r9) 19) + y)))] [] (shF w) M7 := by
                    intro y
                    induction hq_lk : t + 1 - (seC t q r9 (bstH (seC t q r9) 19) + y) using Nat.strongRecOn generalizing y with
                    | ind k_lk ih_lk =>
                      intro x9 hy hx9
                      have hok := fun h => (oddS_ok (n := n r9) (g := t) (m := seC t q r9 (bstH (seC t q r9) 19)) h49 h209 hg2 (y + 1) h).1
                      refine e_iload C dX8_odd_176 rfl ?_
                      refine e_aload_n C dX8_odd_178 rfl rfl ?_
                      refine e_getI C dX8_odd_179 fX8_93 rfl rfl ?_
                      refine e_topi (nI t) (by rw [hJ.2.gI (by decide)]; exact hG.1) ?_
                      refine e_icmp_gtN (tgt := 203) C dX8_odd_182 (by omega) (by omega) (by decide) (fun h182 => ?_) (fun h182 => ?_)
                      · refine e_dload C dX8_odd_203 rfl ?_
                        have hbq : Bq x9 := by rw [hx9, show y = t + 1 - seC t q r9 (bstH (seC t q r9) 19) by omega]; exact odd_bq h49 h209 hg2 hml
                        refine e_callSl C dX8_odd_205 [.double x9] (r_bitsOf x9 hbq) okX8_bitsOf lX8_217 rfl ⟨rfl, rfl⟩ ⟨Nat.le_of_ble_eq_true rfl, Nat.le_of_ble_eq_true rfl⟩ (Nat.le_of_ble_eq_true rfl) ⟨Nat.zero_le _, Nat.zero_le _⟩ ?_
                        exact e_lret C dX8_odd_208 RT ⟨Nat.zero_le _, Nat.zero_le _⟩ (rrl ((if_pos (dec_t h4)).trans (by rw [tn_nI (q := r9) (by omega), if_neg h15, hx9, show y = t + 1 - seC t q r9 (bstH (seC t q r9) 19) by omega]; rfl)) (hI.sm hJ.2 (by decide)) (hJ.2.up (by decide)))
                      · refine e_dload C dX8_odd_185 rfl ?_
                        refine e_aload_n C dX8_odd_187 rfl rfl ?_
                        refine e_getR (q := 45) C dX8_odd_188 fX8_76 rfl rfl ?_
                        refine e_iload C dX8_odd_191 rfl ?_
                        refine e_daloadN C dX8_odd_193 rfl (by omega) (by omega) ?_
                        refine e_topd (prb (hitN (n r9)) (misN (n r9)) t (seC t q r9 (bstH (seC t q r9) 19) + y)) (by rw [hJ.1 _ (by omega), if_neg (by omega)]) ?_
                        refine e_dadd C dX8_odd_194 (by have h9 := hok (by omega); rw [oddS, ← hx9] at h9; exact h9.n64) ?_
                        refine e_dstore (lv2 := [(6, .double (FP.dadd x9 (prb (hitN (n r9)) (misN (n r9)) t (seC t q r9 (bstH (seC t q r9) 19) + y)))), (0, .ref 25), (1, .int (nI r9)), (8, .int (nI (seC t q r9 (bstH (seC t q r9) 19) + y)))]) C dX8_odd_195 (by decide) rfl ?_
                        refine e_iincN (lv2 := [(8, .int (nI (seC t q r9 (bstH (seC t q r9) 19) + y + 1))), (6, .double (FP.dadd x9 (prb (hitN (n r9)) (misN (n r9)) t (seC t q r9 (bstH (seC t q r9) 19) + y)))), (0, .ref 25), (1, .int (nI r9))]) C dX8_odd_197 rfl (by decide) (nI_1 _) rfl ?_
                        refine e_goto (tgt := 176) C dX8_odd_200 (by decide) ?_
                        refine e_loc [2, 3, 1, 0] rfl ?_
                        exact ih_lk (t + 1 - (seC t q r9 (bstH (seC t q r9) 19) + (y + 1))) (by omega) (y + 1) rfl (FP.dadd x9 (prb (hitN (n r9)) (misN (n r9)) t (seC t q r9 (bstH (seC t q r9) 19) + y))) (by omega) (by rw [oddS, ← hx9])
                  exact lk 0 _ (by omega) rfl
                · refine e_aload_n C dX8_odd_92 rfl rfl ?_
                  refine e_getI C dX8_odd_93 fX8_93 rfl rfl ?_
                  refine e_topi (nI g) (by rw [hJ.2.gI (by decide)]; exact hG.1) ?_
                  refine e_istore (lv2 := [(7, .int (nI g)), (0, .ref 25), (1, .int (nI r9)), (2, .double (hitN (n r9))), (4, .double (misN (n r9))), (6, .int (nI t))]) C dX8_odd_96 (by decide) rfl ?_
                  refine e_loc [1, 2, 3, 4, 5, 0] rfl ?_
                  have lj : ∀ (x : Nat) (M8 : Mm), x ≤ g → OdN M (n r9) g t (x + 1) M8 → Wd X (0, 0) 98 [(0, .ref 25), (1, .int (nI r9)), (2, .double (hitN (n r9))), (4, .double (misN (n r9))), (6, .int (nI t)), (7, .int (nI x))] [] (shF w) M8 := by
                    intro x
                    induction hq_lj : x + 0 using Nat.strongRecOn generalizing x with
                    | ind k_lj ih_lj =>
                      intro M8 hx hJ
                      have hst := fun q h => prb_step (g := t) h49 h209 (prb_bnd h49 h209 (by omega)).1 (prb_bnd h49 h209 (by omega)).2 q h
                      refine e_iload C dX8_odd_98 rfl ?_
                      refine e_if_lt (x := (nI x)) (tgt := 155) C dX8_odd_100 (by decide) (fun h100 => by exact absurd h100 (w_neg (by omega))) (fun h100 => ?_)
                      refine e_aload_n C dX8_odd_103 rfl rfl ?_
                      refine e_getR (q := 45) C dX8_odd_104 fX8_76 rfl rfl ?_
                      refine e_iload C dX8_odd_107 rfl ?_
                      refine e_iload C dX8_odd_109 rfl ?_
                      refine e_if_neN (tgt := 126) C dX8_odd_111 (by omega) (by decide) (fun h111 => ?_) (fun h111 => ?_)
                      · obtain ⟨i, hij⟩ : ∃ i, x = i + 1 := ⟨x - 1, by omega⟩
                        subst hij
                        refine e_aload_n C dX8_odd_126 rfl rfl ?_
                        refine e_getR (q := 45) C dX8_odd_127 fX8_76 rfl rfl ?_
                        refine e_iload C dX8_odd_130 rfl ?_
                        refine e_daloadN C dX8_odd_132 rfl (by omega) (by omega) ?_
                        refine e_topd (prb (hitN (n r9)) (misN (n r9)) t (i + 1)) (by rw [hJ.1 _ (by omega), if_neg (by omega)]) ?_
                        refine e_dload C dX8_odd_133 rfl ?_
                        refine e_dmul C dX8_odd_135 (hst (i + 1) (by omega)).1.n64 ?_
                        refine e_aload_n C dX8_odd_136 rfl rfl ?_
                        refine e_getR (q := 45) C dX8_odd_137 fX8_76 rfl rfl ?_
                        refine e_iload C dX8_odd_140 rfl ?_
                        refine e_iconst (v := (nI 1)) C dX8_odd_142 (by decide) ?_
                        refine e_isubN C dX8_odd_143 (by omega) ?_
                        refine e_daloadN C dX8_odd_144 rfl (by omega) (by omega) ?_
                        refine e_topd (prb (hitN (n r9)) (misN (n r9)) t i) (by rw [hJ.1 _ (by omega), if_neg (by omega)]; rfl) ?_
                        refine e_dload_n C dX8_odd_145 rfl rfl ?_
                        refine e_dmul C dX8_odd_146 (hst i (by omega)).2.1.n64 ?_
                        refine e_dadd C dX8_odd_147 (hst (i + 1) (by omega)).2.2.1.n64 ?_
                        refine e_dastoreN C dX8_odd_148 rfl (by omega) (by omega) ?_
                        refine e_nm (fun M3 hM3 => ?_)
                        refine e_iincN (lv2 := [(7, .int (nI i)), (0, .ref 25), (1, .int (nI r9)), (2, .double (hitN (n r9))), (4, .double (misN (n r9))), (6, .int (nI t))]) C dX8_odd_149 rfl (by decide) (pk_m1 _) rfl ?_
                        refine e_goto (tgt := 98) C dX8_odd_152 (by decide) ?_
                        refine e_loc [1, 2, 3, 4, 5, 0] rfl ?_
                        have hJ2 : OdN M (n r9) g t (i + 1) M3 := by
                          refine ⟨fun y hy => ?_, by rw [hM3]; exact hJ.2.D (by decide)⟩
                          rw [hM3, gD_sD]
                          by_cases e9 : y = i + 1
                          · subst e9; rw [updD_s, if_pos (by omega)]; rfl
                          · rw [updD_n _ _ e9, hJ.1 y hy]
                            by_cases e8 : i + 1 + 1 ≤ y
                            · rw [if_pos e8, if_pos (by omega)]
                            · rw [if_neg e8, if_neg (by omega)]
                        exact ih_lj (i + 0) (by omega) i rfl M3 (by omega) hJ2
                      · have hx0 : x = 0 := h111
                        subst hx0
                        refine e_aload_n C dX8_odd_114 rfl rfl ?_
                        refine e_getR (q := 45) C dX8_odd_115 fX8_76 rfl rfl ?_
                        refine e_iconst (v := (nI 0)) C dX8_odd_118 (by decide) ?_
                        refine e_daloadN C dX8_odd_119 rfl (by omega) (by omega) ?_
                        refine e_topd (prb (hitN (n r9)) (misN (n r9)) t 0) (by rw [hJ.1 _ (by omega), if_neg (by omega)]) ?_
                        refine e_dload C dX8_odd_120 rfl ?_
                        refine e_dmul C dX8_odd_122 (hst 0 (by omega)).1.n64 ?_
                        refine e_goto (tgt := 148) C dX8_odd_123 (by decide) ?_
                        refine e_dastoreN C dX8_odd_148 rfl (by omega) (by omega) ?_
                        refine e_nm (fun M4 hM4 => ?_)
                        refine e_iinc (lv2 := [(7, .int (-1)), (0, .ref 25), (1, .int (nI r9)), (2, .double (hitN (n r9))), (4, .double (misN (n r9))), (6, .int (nI t))]) C dX8_odd_149 rfl (by decide) rfl rfl ?_
                        refine e_goto (tgt := 98) C dX8_odd_152 (by decide) ?_
                        have hJ2 : OdN M (n r9) g (t + 1) (g + 1) M4 := by
                          refine ⟨fun y hy => ?_, by rw [hM4]; exact hJ.2.D (by decide)⟩
                          rw [hM4, gD_sD, if_neg (by omega)]
                          by_cases e9 : y = 0
                          · subst e9; rw [updD_s]; rfl
                          · rw [updD_n _ _ e9, hJ.1 y hy, if_pos (by omega)]
                        refine e_iload C dX8_odd_98 rfl ?_
                        refine e_if_lt (x := (-1)) (tgt := 155) C dX8_odd_100 (by decide) (fun h100 => ?_) (fun h100 => by exact absurd (by decide) h100)
                        refine e_iincN (lv2 := [(6, .int (nI (t + 1))), (7, .int (-1)), (0, .ref 25), (1, .int (nI r9)), (2, .double (hitN (n r9))), (4, .double (misN (n r9)))]) C dX8_odd_155 rfl (by decide) (nI_1 _) rfl ?_
                        refine e_goto (tgt := 83) C dX8_odd_158 (by decide) ?_
                        refine e_loc [2, 3, 4, 5, 0] rfl ?_
                        exact ih_lt (g - (t + 1)) (by omega) (t + 1) rfl M4 (by omega) hJ2
                  exact lj g M7 (by omega) hJ
            exact lt 0 M9 (by omega) hT0
          · refine e_aload_n C dX8_odd_57 rfl rfl ?_
            refine e_getR (q := 45) C dX8_odd_58 fX8_76 rfl rfl ?_
            refine e_iload C dX8_odd_61 rfl ?_
            refine e_iload C dX8_odd_63 rfl ?_
            refine e_if_neN (tgt := 72) C dX8_odd_65 (by omega) (by decide) (fun h65 => ?_) (fun h65 => ?_)
            · refine e_dconst0 C dX8_odd_72 ?_
              refine e_dastoreN C dX8_odd_73 rfl (by omega) (by omega) ?_
              refine e_nm (fun M5 hM5 => ?_)
              refine e_iincN (lv2 := [(6, .int (nI (j + 1))), (0, .ref 25), (1, .int (nI r9)), (2, .double (hitN (n r9))), (4, .double (misN (n r9)))]) C dX8_odd_74 rfl (by decide) (nI_1 _) rfl ?_
              refine e_goto (tgt := 48) C dX8_odd_77 (by decide) ?_
              refine e_loc [1, 2, 3, 4, 0] rfl ?_
              have hJ2 : (∀ i, i < j + 1 → gD M5 45 i = prb (hitN (n r9)) (misN (n r9)) 0 i) ∧ Same [45] M M5 := by
                refine ⟨fun i hi => ?_, by rw [hM5]; exact hJ.2.D (by decide)⟩
                rw [hM5, gD_sD]
                by_cases e9 : i = j
                · subst e9; rw [updD_s]; (obtain ⟨i1, rfl⟩ : ∃ i1, i = i1 + 1 := ⟨i - 1, by omega⟩; rfl)
                · rw [updD_n _ _ e9]; exact hJ.1 i (by omega)
              exact ih_li (g + 1 - (j + 1)) (by omega) (j + 1) rfl M5 (by omega) hJ2
            · refine e_dconst1 C dX8_odd_68 ?_
              refine e_goto (tgt := 73) C dX8_odd_69 (by decide) ?_
              refine e_dastoreN C dX8_odd_73 rfl (by omega) (by omega) ?_
              refine e_nm (fun M6 hM6 => ?_)
              refine e_iincN (lv2 := [(6, .int (nI (j + 1))), (0, .ref 25), (1, .int (nI r9)), (2, .double (hitN (n r9))), (4, .double (misN (n r9)))]) C dX8_odd_74 rfl (by decide) (nI_1 _) rfl ?_
              refine e_goto (tgt := 48) C dX8_odd_77 (by decide) ?_
              refine e_loc [1, 2, 3, 4, 0] rfl ?_
              have hJ2 : (∀ i, i < j + 1 → gD M6 45 i = prb (hitN (n r9)) (misN (n r9)) 0 i) ∧ Same [45] M M6 := by
                refine ⟨fun i hi => ?_, by rw [hM6]; exact hJ.2.D (by decide)⟩
                rw [hM6, gD_sD]
                by_cases e9 : i = j
                · subst e9; rw [updD_s]; rw [h65]; rfl
                · rw [updD_n _ _ e9]; exact hJ.1 i (by omega)
              exact ih_li (g + 1 - (j + 1)) (by omega) (j + 1) rfl M6 (by omega) hJ2
      exact li 0 M (by omega) ⟨fun i hi => absurd hi (by omega), Same.rf _ M⟩
    · refine e_ldc2 (v := (-1)) C dX8_odd_18 kX8_106 ?_
      exact e_lret C dX8_odd_21 RT ⟨Nat.zero_le _, Nat.zero_le _⟩ (rrl ((if_pos (dec_t h4)).trans (by rw [if_pos h15])) hI (Same.rf _ M))
  · refine e_ldc2 (v := (-2)) C dX8_odd_7 kX8_159 ?_
    exact e_lret C dX8_odd_10 RT ⟨Nat.zero_le _, Nat.zero_le _⟩ (rrl (if_neg (fun h9 => dec_f h4 h9)) hI (Same.rf _ M))
