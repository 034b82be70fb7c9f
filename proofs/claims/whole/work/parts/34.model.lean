def PlI (M1 : Mm) (R H : Nat) (z : Nat → Int32) (j : Nat) (M2 : Mm) : Prop := gI M2 25 20 = nI (H + min j (R - H)) ∧ gI M2 25 21 = z 2 + nI (j - min j (R - H)) ∧ (∀ f, f ≠ 20 → f ≠ 21 → gI M2 25 f = gI M1 25 f) ∧ Same [25] M1 M2
theorem RgOK.add {M M2 : Mm} {g : Nat} {q : Nat → Nat → Nat} (h : RgOK M g q) {a b c : Nat} (hg : g < 200) (e : gI M2 25 26 = nI (g + 1)) (e2 : gI M2 40 = upd (upd (upd (gI M 40) (3 * g) (nI a)) (3 * g + 1) (nI b)) (3 * g + 2) (nI c)) : RgOK M2 (g + 1) (va_up q g (wsh3 a b c)) := by
  refine ⟨e, by omega, fun i hi r hr => ?_⟩
  rw [e2]
  by_cases e9 : i = g
  · subst e9; rw [up_s]
    rcases (show r = 0 ∨ r = 1 ∨ r = 2 by omega) with rfl | rfl | rfl
    · rw [upd_n _ _ (by omega), upd_n _ _ (by omega), Nat.add_zero, upd_s]; rfl
    · rw [upd_n _ _ (by omega), upd_s]; rfl
    · rw [upd_s]; rfl
  · rw [up_n _ _ e9, upd_n _ _ (by omega), upd_n _ _ (by omega), upd_n _ _ (by omega)]; exact h.2.2 i (by omega) r hr
set_option maxHeartbeats 4000000 in
set_option maxRecDepth 100000 in
theorem q_play {w : Bool} {M : Mm} {n P cnt : Nat → Nat} {k : Nat} {W : Nat → Nat → Int32} {pv : Nat → Nat} {L R H : Nat} {z : Nat → Int32} {g : Nat} {q : Nat → Nat → Nat} (hI : RInv M (n, P, cnt, k, W, pv, L, R, H, z, g, q))  (a b c : Int32) : CT mX8_play [.ref 25, .int a, .int b, .int c] (shF w) M (Qi (spPlay (n, P, cnt, k, W, pv, L, R, H, z, g, q) a b c).1 (shF w) (fun m0 => RInv m0 (spPlay (n, P, cnt, k, W, pv, L, R, H, z, g, q) a b c).2 ∧ FrR M m0)) := by
  refine CT.mk (lv := [(0, .ref 25), (1, .int a), (2, .int b), (3, .int c)]) rfl (by decide +kernel) (Nat.le_of_ble_eq_true rfl) ?_
  intro X C RT
  obtain ⟨hB, hCt, hF, hH, hG, hQ⟩ := id hI
  obtain ⟨hS, hT, hL, hL1, hL3⟩ := id hB
  have n0 := hS.2.1 0 (by decide)
  have n1 := hS.2.1 1 (by decide)
  have n2 := hS.2.1 2 (by decide)
  refine e_aload_n C dX8_play_0 rfl rfl ?_
  refine e_iload_n C dX8_play_1 rfl rfl ?_
  refine e_iload_n C dX8_play_2 rfl rfl ?_
  refine e_iload_n C dX8_play_3 rfl rfl ?_
  refine e_callVi C dX8_play_4 [.int a, .int b, .int c] (r_isEnding hS a b c) okX8_isEnding lX8_135 rfl rfl rfl ⟨rfl, rfl⟩ ⟨Nat.le_of_ble_eq_true rfl, Nat.le_of_ble_eq_true rfl⟩ (Nat.le_of_ble_eq_true rfl) ⟨Nat.zero_le _, Nat.zero_le _⟩ ?_
  refine e_if_neB (b := hasEnd n a b c) (tgt := 13) C dX8_play_7 (by decide) (fun h7 => ?_) (fun h7 => ?_)
  · obtain ⟨a9, b9, c9, l_a, l_b, l_c, rfl, rfl, rfl⟩ := hasEnd_N h7
    refine e_aload_n C dX8_play_13 rfl rfl ?_
    refine e_callVvQ C dX8_play_14 [] (r_layOut hB hF) okX8_layOut lX8_139 rfl rfl rfl ⟨rfl, rfl⟩ ⟨Nat.le_of_ble_eq_true rfl, Nat.le_of_ble_eq_true rfl⟩ (Nat.le_of_ble_eq_true rfl) ⟨Nat.zero_le _, Nat.zero_le _⟩ (fun M1 hM1 => ?_)
    obtain ⟨hI, hf9⟩ := RInv.lo hI hM1
    obtain ⟨hB, hCt, hF, hH, hG, hQ⟩ := id hI
    obtain ⟨hS, hT, hL, hL1, hL3⟩ := id hB
    have n0 := hS.2.1 0 (by decide)
    have n1 := hS.2.1 1 (by decide)
    have n2 := hS.2.1 2 (by decide)
    have hl := hM1.1
    obtain ⟨t0, t1, tH, tR, tR2, tz⟩ := id hH
    have hg2 := hG.2.1
    refine e_iconst (v := (nI 0)) C dX8_play_17 (by decide) ?_
    refine e_istore (lv2 := [(4, .int (nI 0)), (0, .ref 25), (1, .int (nI a9)), (2, .int (nI b9)), (3, .int (nI c9))]) C dX8_play_18 (by decide) rfl ?_
    refine e_loc [1, 2, 3, 4, 0] rfl ?_
    have lp : ∀ (j : Nat) (Mz : Mm), j ≤ L → PlI M1 R H z j Mz → gJ Mz 25 = gJ M1 25 → Wd X (0, 0) 20 [(0, .ref 25), (1, .int (nI a9)), (2, .int (nI b9)), (3, .int (nI c9)), (4, .int (nI j))] [] (shF w) Mz := by
      intro j
      induction hq_lp : L - j using Nat.strongRecOn generalizing j with
      | ind k_lp ih_lp =>
        intro Mz hj hj9 hJ9
        obtain ⟨i1, i2, i3, i4⟩ := id hj9
        have hjm : min j (R - H) ≤ R - H := Nat.min_le_right _ _
        refine e_iload C dX8_play_20 rfl ?_
        refine e_aload_n C dX8_play_22 rfl rfl ?_
        refine e_getI C dX8_play_23 fX8_31 rfl rfl ?_
        refine e_topi (nI L) (by rw [i3 8 (by decide) (by decide)]; exact hL) ?_
        refine e_icmp_geN (tgt := 69) C dX8_play_26 (by omega) (by omega) (by decide) (fun h26 => ?_) (fun h26 => ?_)
        · have hjL : j = L := by omega
          subst hjL
          have hV := hB.le a9 b9 c9
          have i4J : gJ Mz 25 = gJ M1 25 := hJ9
          refine e_aload_n C dX8_play_69 rfl rfl ?_
          refine e_dup C dX8_play_70 rfl ?_
          refine e_getI C dX8_play_71 fX8_186 rfl rfl ?_
          refine e_topi (z 3) (by rw [i3 22 (by decide) (by decide)]; exact tz 3 (by decide) (by decide)) ?_
          refine e_aload_n C dX8_play_74 rfl rfl ?_
          refine e_getI C dX8_play_75 fX8_31 rfl rfl ?_
          refine e_topi (nI j) (by rw [i3 8 (by decide) (by decide)]; exact hL) ?_
          refine e_iadd C dX8_play_78 ?_
          refine e_putI C dX8_play_79 pX8_186 rfl rfl rfl rfl ?_
          refine e_nm (fun M2 hM2 => ?_)
          refine e_aload_n C dX8_play_82 rfl rfl ?_
          refine e_getR (q := 34) C dX8_play_83 fX8_38 rfl rfl ?_
          refine e_iload_n C dX8_play_86 rfl rfl ?_
          refine e_iload_n C dX8_play_87 rfl rfl ?_
          refine e_iload_n C dX8_play_88 rfl rfl ?_
          refine e_callSi C dX8_play_89 [.int (nI a9), .int (nI b9), .int (nI c9)] (r_place a9 b9 c9) okX8_place lX8_132 rfl ⟨rfl, rfl⟩ ⟨Nat.le_of_ble_eq_true rfl, Nat.le_of_ble_eq_true rfl⟩ (Nat.le_of_ble_eq_true rfl) ⟨Nat.zero_le _, Nat.zero_le _⟩ ?_
          refine e_ialoadN C dX8_play_92 rfl (by omega) (by omega) ?_
          refine e_topi (nI (EE n P k W pv j a9 b9 c9)) (by rw [hM2, gI_sI_ne _ _ (by decide), i4.gI (by decide)]; exact hl.2.1 a9 l_a b9 l_b c9 l_c) ?_
          refine e_istore (lv2 := [(4, .int (nI (EE n P k W pv j a9 b9 c9))), (0, .ref 25), (1, .int (nI a9)), (2, .int (nI b9)), (3, .int (nI c9))]) C dX8_play_93 (by decide) rfl ?_
          refine e_iload C dX8_play_95 rfl ?_
          refine e_aload_n C dX8_play_97 rfl rfl ?_
          refine e_getI C dX8_play_98 fX8_177 rfl rfl ?_
          refine e_topi (nI (H + min j (R - H))) (by rw [hM2, gI_sI, upd_n _ _ (by decide)]; exact i1) ?_
          refine e_icmp_geN (tgt := 109) C dX8_play_101 (by omega) (by omega) (by decide) (fun h101 => ?_) (fun h101 => ?_)
          · refine e_aload_n C dX8_play_109 rfl rfl ?_
            refine e_getI C dX8_play_110 fX8_177 rfl rfl ?_
            refine e_topi (nI (H + min j (R - H))) (by rw [hM2, gI_sI, upd_n _ _ (by decide)]; exact i1) ?_
            refine e_istore (lv2 := [(5, .int (nI (H + min j (R - H)))), (4, .int (nI (EE n P k W pv j a9 b9 c9))), (0, .ref 25), (1, .int (nI a9)), (2, .int (nI b9)), (3, .int (nI c9))]) C dX8_play_113 (by decide) rfl ?_
            refine e_aload_n C dX8_play_115 rfl rfl ?_
            refine e_dup C dX8_play_116 rfl ?_
            refine e_getI C dX8_play_117 fX8_177 rfl rfl ?_
            refine e_topi (nI (H + min j (R - H))) (by rw [hM2, gI_sI, upd_n _ _ (by decide)]; exact i1) ?_
            refine e_iload C dX8_play_120 rfl ?_
            refine e_isubN C dX8_play_122 (by omega) ?_
            refine e_putI C dX8_play_123 pX8_177 rfl rfl rfl rfl ?_
            refine e_nm (fun M3 hM3 => ?_)
            refine e_aload_n C dX8_play_126 rfl rfl ?_
            refine e_dup C dX8_play_127 rfl ?_
            refine e_getI C dX8_play_128 fX8_189 rfl rfl ?_
            refine e_topi (z 4) (by rw [hM3, gI_sI, upd_n _ _ (by decide), hM2, gI_sI, upd_n _ _ (by decide)]; exact (by rw [i3 23 (by decide) (by decide)]; exact tz 4 (by decide) (by decide))) ?_
            refine e_iload C dX8_play_131 rfl ?_
            refine e_iadd C dX8_play_133 ?_
            refine e_putI C dX8_play_134 pX8_189 rfl rfl rfl rfl ?_
            refine e_nm (fun M4 hM4 => ?_)
            refine e_aload_n C dX8_play_137 rfl rfl ?_
            refine e_dup C dX8_play_138 rfl ?_
            refine e_getI C dX8_play_139 fX8_192 rfl rfl ?_
            refine e_topi (z 5) (by rw [hM4, gI_sI, upd_n _ _ (by decide), hM3, gI_sI, upd_n _ _ (by decide), hM2, gI_sI, upd_n _ _ (by decide)]; exact (by rw [i3 24 (by decide) (by decide)]; exact tz 5 (by decide) (by decide))) ?_
            refine e_iload C dX8_play_142 rfl ?_
            refine e_iload C dX8_play_144 rfl ?_
            refine e_isubN C dX8_play_146 (by omega) ?_
            refine e_iadd C dX8_play_147 ?_
            refine e_putI C dX8_play_148 pX8_192 rfl rfl rfl rfl ?_
            refine e_nm (fun M5 hM5 => ?_)
            refine e_aload_n C dX8_play_151 rfl rfl ?_
            refine e_getI C dX8_play_152 fX8_93 rfl rfl ?_
            refine e_topi (nI g) (by rw [hM5, gI_sI, upd_n _ _ (by decide), hM4, gI_sI, upd_n _ _ (by decide), hM3, gI_sI, upd_n _ _ (by decide), hM2, gI_sI, upd_n _ _ (by decide)]; exact (by rw [i3 26 (by decide) (by decide)]; exact hG.1)) ?_
            refine e_sipush (v := (nI 200)) C dX8_play_155 (by decide) ?_
            refine e_icmp_geN (tgt := 211) C dX8_play_158 (by omega) (by omega) (by decide) (fun h158 => ?_) (fun h158 => ?_)
            · refine e_iload C dX8_play_211 rfl ?_
              have hmin : min (EE n P k W pv j a9 b9 c9) (H + min j (R - H)) = H + min j (R - H) := by omega
              have hs8 : Same [25, 40] M1 M5 := by rw [hM5, hM4, hM3, hM2]; exact (((((i4.up (by decide) : Same [25, 40] M1 Mz)).I (by decide)).I (by decide)).I (by decide)).I (by decide)
              have hr8 : ∀ f, f ≠ 20 → f ≠ 21 → f ≠ 22 → f ≠ 23 → f ≠ 24 → f ≠ 26 → gI M5 25 f = gI M1 25 f := fun f h1 h2 h3 h4 h5 h6 => by rw [hM5, gI_sI, upd_n _ _ (by omega), hM4, gI_sI, upd_n _ _ (by omega), hM3, gI_sI, upd_n _ _ (by omega), hM2, gI_sI, upd_n _ _ (by omega)]; exact i3 f h1 h2
              have hz8 : ∀ y, 2 ≤ y → y < 7 → gI M5 25 (19 + y) = outZ (takeZ z R H j) (takeH R H j) (EE n P k W pv j a9 b9 c9) y := by
                intro y h1 h2
                unfold outZ takeZ takeH
                rw [hmin]
                rcases (show y = 2 ∨ y = 3 ∨ y = 4 ∨ y = 5 ∨ y = 6 by omega) with rfl | rfl | rfl | rfl | rfl
                · show gI M5 25 21 = _
                  rw [hM5, gI_sI, upd_n _ _ (by decide), hM4, gI_sI, upd_n _ _ (by decide), hM3, gI_sI, upd_n _ _ (by decide), hM2, gI_sI, upd_n _ _ (by decide)]
                  rw [i2]; simp [upd]
                · show gI M5 25 22 = _
                  rw [hM5, gI_sI, upd_n _ _ (by decide), hM4, gI_sI, upd_n _ _ (by decide), hM3, gI_sI, upd_n _ _ (by decide), hM2, gI_sI, upd_s]
                  simp [upd]
                · show gI M5 25 23 = _
                  rw [hM5, gI_sI, upd_n _ _ (by decide), hM4, gI_sI, upd_s]
                  simp [upd]
                · show gI M5 25 24 = _
                  rw [hM5, gI_sI, upd_s]
                  simp [upd]
                · show gI M5 25 25 = _
                  rw [hM5, gI_sI, upd_n _ _ (by decide), hM4, gI_sI, upd_n _ _ (by decide), hM3, gI_sI, upd_n _ _ (by decide), hM2, gI_sI, upd_n _ _ (by decide)]
                  rw [i3 25 (by decide) (by decide), tz 6 (by decide) (by decide)]; simp [upd]
              have h20 : gI M5 25 20 = nI (takeH R H j - min (EE n P k W pv j a9 b9 c9) (takeH R H j)) := by unfold takeH; rw [hmin, hM5, gI_sI, upd_n _ _ (by decide), hM4, gI_sI, upd_n _ _ (by decide), hM3, gI_sI, upd_s]
              have hG8 : RgOK M5 (plG g) (plQ g q a9 b9 c9) := by
                unfold plG plQ
                rw [if_neg (show ¬ g < 200 by omega), if_neg (show ¬ g < 200 by omega)]
                exact hG.row (by rw [hM5, gI_sI, upd_n _ _ (by decide), hM4, gI_sI, upd_n _ _ (by decide), hM3, gI_sI, upd_n _ _ (by decide), hM2, gI_sI, upd_n _ _ (by decide)]; exact i3 26 (by decide) (by decide)) (by rw [hM5, gI_sI_ne _ _ (by decide), hM4, gI_sI_ne _ _ (by decide), hM3, gI_sI_ne _ _ (by decide), hM2, gI_sI_ne _ _ (by decide), i4.gI (by decide)])
              have hJ8 : gJ M5 25 = gJ M1 25 := by rw [hM5, gJ_sI, hM4, gJ_sI, hM3, gJ_sI, hM2, gJ_sI]; exact i4J
              exact e_zret C dX8_play_213 RT rfl ⟨Nat.zero_le _, Nat.zero_le _⟩ (rri ((if_pos h7).trans (by rw [tn_nI (q := a9) (by omega), tn_nI (q := b9) (by omega), tn_nI (q := c9) (by omega)])) (show RInv _ (n, P, cnt, k, W, pv, j, R, takeH R H j - min (EE n P k W pv j a9 b9 c9) (takeH R H j), outZ (takeZ z R H j) (takeH R H j) (EE n P k W pv j a9 b9 c9), plG g, plQ g q a9 b9 c9) from ⟨hB.mv hs8 (by decide) (hr8 3 (by decide) (by decide) (by decide) (by decide) (by decide) (by decide)) (hr8 8 (by decide) (by decide) (by decide) (by decide) (by decide) (by decide)), hCt.same (hs8.gI (by decide)), hF.mv hs8 (by decide) (hr8 9 (by decide) (by decide) (by decide) (by decide) (by decide) (by decide)) (hr8 15 (by decide) (by decide) (by decide) (by decide) (by decide) (by decide)) hJ8, ⟨by rw [hr8 19 (by decide) (by decide) (by decide) (by decide) (by decide) (by decide)]; exact t0, h20, by unfold takeH; omega, tR, tR2, hz8⟩, hG8, QOK.play hQ l_a l_b l_c⟩) (hf9.tr (hs8.up (by decide))))
            · refine e_aload_n C dX8_play_161 rfl rfl ?_
              refine e_getR (q := 40) C dX8_play_162 fX8_60 rfl rfl ?_
              refine e_iconst (v := (nI 3)) C dX8_play_165 (by decide) ?_
              refine e_aload_n C dX8_play_166 rfl rfl ?_
              refine e_getI C dX8_play_167 fX8_93 rfl rfl ?_
              refine e_topi (nI g) (by rw [hM5, gI_sI, upd_n _ _ (by decide), hM4, gI_sI, upd_n _ _ (by decide), hM3, gI_sI, upd_n _ _ (by decide), hM2, gI_sI, upd_n _ _ (by decide)]; exact (by rw [i3 26 (by decide) (by decide)]; exact hG.1)) ?_
              refine e_imulN C dX8_play_170 ?_
              refine e_iload_n C dX8_play_171 rfl rfl ?_
              refine e_iastoreN C dX8_play_172 rfl (by omega) (by omega) ?_
              refine e_nm (fun M6 hM6 => ?_)
              refine e_aload_n C dX8_play_173 rfl rfl ?_
              refine e_getR (q := 40) C dX8_play_174 fX8_60 rfl rfl ?_
              refine e_iconst (v := (nI 3)) C dX8_play_177 (by decide) ?_
              refine e_aload_n C dX8_play_178 rfl rfl ?_
              refine e_getI C dX8_play_179 fX8_93 rfl rfl ?_
              refine e_topi (nI g) (by rw [hM6, gI_sI_ne _ _ (by decide), hM5, gI_sI, upd_n _ _ (by decide), hM4, gI_sI, upd_n _ _ (by decide), hM3, gI_sI, upd_n _ _ (by decide), hM2, gI_sI, upd_n _ _ (by decide)]; exact (by rw [i3 26 (by decide) (by decide)]; exact hG.1)) ?_
              refine e_imulN C dX8_play_182 ?_
              refine e_iconst (v := (nI 1)) C dX8_play_183 (by decide) ?_
              refine e_iaddN C dX8_play_184 ?_
              refine e_iload_n C dX8_play_185 rfl rfl ?_
              refine e_iastoreN C dX8_play_186 rfl (by omega) (by omega) ?_
              refine e_nm (fun M7 hM7 => ?_)
              refine e_aload_n C dX8_play_187 rfl rfl ?_
              refine e_getR (q := 40) C dX8_play_188 fX8_60 rfl rfl ?_
              refine e_iconst (v := (nI 3)) C dX8_play_191 (by decide) ?_
              refine e_aload_n C dX8_play_192 rfl rfl ?_
              refine e_getI C dX8_play_193 fX8_93 rfl rfl ?_
              refine e_topi (nI g) (by rw [hM7, gI_sI_ne _ _ (by decide), hM6, gI_sI_ne _ _ (by decide), hM5, gI_sI, upd_n _ _ (by decide), hM4, gI_sI, upd_n _ _ (by decide), hM3, gI_sI, upd_n _ _ (by decide), hM2, gI_sI, upd_n _ _ (by decide)]; exact (by rw [i3 26 (by decide) (by decide)]; exact hG.1)) ?_
              refine e_imulN C dX8_play_196 ?_
              refine e_iconst (v := (nI 2)) C dX8_play_197 (by decide) ?_
              refine e_iaddN C dX8_play_198 ?_
              refine e_iload_n C dX8_play_199 rfl rfl ?_
              refine e_iastoreN C dX8_play_200 rfl (by omega) (by omega) ?_
              refine e_nm (fun M8 hM8 => ?_)
              refine e_aload_n C dX8_play_201 rfl rfl ?_
              refine e_dup C dX8_play_202 rfl ?_
              refine e_getI C dX8_play_203 fX8_93 rfl rfl ?_
              refine e_topi (nI g) (by rw [hM8, gI_sI_ne _ _ (by decide), hM7, gI_sI_ne _ _ (by decide), hM6, gI_sI_ne _ _ (by decide), hM5, gI_sI, upd_n _ _ (by decide), hM4, gI_sI, upd_n _ _ (by decide), hM3, gI_sI, upd_n _ _ (by decide), hM2, gI_sI, upd_n _ _ (by decide)]; exact (by rw [i3 26 (by decide) (by decide)]; exact hG.1)) ?_
              refine e_iconst (v := (nI 1)) C dX8_play_206 (by decide) ?_
              refine e_iaddN C dX8_play_207 ?_
              refine e_putI C dX8_play_208 pX8_93 rfl rfl rfl rfl ?_
              refine e_nm (fun M9 hM9 => ?_)
              refine e_iload C dX8_play_211 rfl ?_
              have hmin : min (EE n P k W pv j a9 b9 c9) (H + min j (R - H)) = H + min j (R - H) := by omega
              have hs8 : Same [25, 40] M1 M9 := by rw [hM9, hM8, hM7, hM6, hM5, hM4, hM3, hM2]; exact (((((((((i4.up (by decide) : Same [25, 40] M1 Mz)).I (by decide)).I (by decide)).I (by decide)).I (by decide)).I (by decide)).I (by decide)).I (by decide)).I (by decide)
              have hr8 : ∀ f, f ≠ 20 → f ≠ 21 → f ≠ 22 → f ≠ 23 → f ≠ 24 → f ≠ 26 → gI M9 25 f = gI M1 25 f := fun f h1 h2 h3 h4 h5 h6 => by rw [hM9, gI_sI, upd_n _ _ (by omega), hM8, gI_sI_ne _ _ (by decide), hM7, gI_sI_ne _ _ (by decide), hM6, gI_sI_ne _ _ (by decide), hM5, gI_sI, upd_n _ _ (by omega), hM4, gI_sI, upd_n _ _ (by omega), hM3, gI_sI, upd_n _ _ (by omega), hM2, gI_sI, upd_n _ _ (by omega)]; exact i3 f h1 h2
              have hz8 : ∀ y, 2 ≤ y → y < 7 → gI M9 25 (19 + y) = outZ (takeZ z R H j) (takeH R H j) (EE n P k W pv j a9 b9 c9) y := by
                intro y h1 h2
                unfold outZ takeZ takeH
                rw [hmin]
                rcases (show y = 2 ∨ y = 3 ∨ y = 4 ∨ y = 5 ∨ y = 6 by omega) with rfl | rfl | rfl | rfl | rfl
                · show gI M9 25 21 = _
                  rw [hM9, gI_sI, upd_n _ _ (by decide), hM8, gI_sI_ne _ _ (by decide), hM7, gI_sI_ne _ _ (by decide), hM6, gI_sI_ne _ _ (by decide), hM5, gI_sI, upd_n _ _ (by decide), hM4, gI_sI, upd_n _ _ (by decide), hM3, gI_sI, upd_n _ _ (by decide), hM2, gI_sI, upd_n _ _ (by decide)]
                  rw [i2]; simp [upd]
                · show gI M9 25 22 = _
                  rw [hM9, gI_sI, upd_n _ _ (by decide), hM8, gI_sI_ne _ _ (by decide), hM7, gI_sI_ne _ _ (by decide), hM6, gI_sI_ne _ _ (by decide), hM5, gI_sI, upd_n _ _ (by decide), hM4, gI_sI, upd_n _ _ (by decide), hM3, gI_sI, upd_n _ _ (by decide), hM2, gI_sI, upd_s]
                  simp [upd]
                · show gI M9 25 23 = _
                  rw [hM9, gI_sI, upd_n _ _ (by decide), hM8, gI_sI_ne _ _ (by decide), hM7, gI_sI_ne _ _ (by decide), hM6, gI_sI_ne _ _ (by decide), hM5, gI_sI, upd_n _ _ (by decide), hM4, gI_sI, upd_s]
                  simp [upd]
                · show gI M9 25 24 = _
                  rw [hM9, gI_sI, upd_n _ _ (by decide), hM8, gI_sI_ne _ _ (by decide), hM7, gI_sI_ne _ _ (by decide), hM6, gI_sI_ne _ _ (by decide), hM5, gI_sI, upd_s]
                  simp [upd]
                · show gI M9 25 25 = _
                  rw [hM9, gI_sI, upd_n _ _ (by decide), hM8, gI_sI_ne _ _ (by decide), hM7, gI_sI_ne _ _ (by decide), hM6, gI_sI_ne _ _ (by decide), hM5, gI_sI, upd_n _ _ (by decide), hM4, gI_sI, upd_n _ _ (by decide), hM3, gI_sI, upd_n _ _ (by decide), hM2, gI_sI, upd_n _ _ (by decide)]
                  rw [i3 25 (by decide) (by decide), tz 6 (by decide) (by decide)]; simp [upd]
              have h20 : gI M9 25 20 = nI (takeH R H j - min (EE n P k W pv j a9 b9 c9) (takeH R H j)) := by unfold takeH; rw [hmin, hM9, gI_sI, upd_n _ _ (by decide), hM8, gI_sI_ne _ _ (by decide), hM7, gI_sI_ne _ _ (by decide), hM6, gI_sI_ne _ _ (by decide), hM5, gI_sI, upd_n _ _ (by decide), hM4, gI_sI, upd_n _ _ (by decide), hM3, gI_sI, upd_s]
              have hG8 : RgOK M9 (plG g) (plQ g q a9 b9 c9) := by
                unfold plG plQ
                rw [if_pos (show g < 200 by omega), if_pos (show g < 200 by omega)]
                exact hG.add (by omega) (by rw [hM9, gI_sI, upd_s]) (by rw [hM9, gI_sI_ne _ _ (by decide), hM8, gI_sI, hM7, gI_sI, hM6, gI_sI, hM5, gI_sI_ne _ _ (by decide), hM4, gI_sI_ne _ _ (by decide), hM3, gI_sI_ne _ _ (by decide), hM2, gI_sI_ne _ _ (by decide), i4.gI (by decide)])
              have hJ8 : gJ M9 25 = gJ M1 25 := by rw [hM9, gJ_sI, hM8, gJ_sI, hM7, gJ_sI, hM6, gJ_sI, hM5, gJ_sI, hM4, gJ_sI, hM3, gJ_sI, hM2, gJ_sI]; exact i4J
              exact e_zret C dX8_play_213 RT rfl ⟨Nat.zero_le _, Nat.zero_le _⟩ (rri ((if_pos h7).trans (by rw [tn_nI (q := a9) (by omega), tn_nI (q := b9) (by omega), tn_nI (q := c9) (by omega)])) (show RInv _ (n, P, cnt, k, W, pv, j, R, takeH R H j - min (EE n P k W pv j a9 b9 c9) (takeH R H j), outZ (takeZ z R H j) (takeH R H j) (EE n P k W pv j a9 b9 c9), plG g, plQ g q a9 b9 c9) from ⟨hB.mv hs8 (by decide) (hr8 3 (by decide) (by decide) (by decide) (by decide) (by decide) (by decide)) (hr8 8 (by decide) (by decide) (by decide) (by decide) (by decide) (by decide)), hCt.same (hs8.gI (by decide)), hF.mv hs8 (by decide) (hr8 9 (by decide) (by decide) (by decide) (by decide) (by decide) (by decide)) (hr8 15 (by decide) (by decide) (by decide) (by decide) (by decide) (by decide)) hJ8, ⟨by rw [hr8 19 (by decide) (by decide) (by decide) (by decide) (by decide) (by decide)]; exact t0, h20, by unfold takeH; omega, tR, tR2, hz8⟩, hG8, QOK.play hQ l_a l_b l_c⟩) (hf9.tr (hs8.up (by decide))))
          · refine e_iload C dX8_play_104 rfl ?_
            refine e_goto (tgt := 113) C dX8_play_106 (by decide) ?_
            refine e_istore (lv2 := [(5, .int (nI (EE n P k W pv j a9 b9 c9))), (4, .int (nI (EE n P k W pv j a9 b9 c9))), (0, .ref 25), (1, .int (nI a9)), (2, .int (nI b9)), (3, .int (nI c9))]) C dX8_play_113 (by decide) rfl ?_
            refine e_aload_n C dX8_play_115 rfl rfl ?_
            refine e_dup C dX8_play_116 rfl ?_
            refine e_getI C dX8_play_117 fX8_177 rfl rfl ?_
            refine e_topi (nI (H + min j (R - H))) (by rw [hM2, gI_sI, upd_n _ _ (by decide)]; exact i1) ?_
            refine e_iload C dX8_play_120 rfl ?_
            refine e_isubN C dX8_play_122 (by omega) ?_
            refine e_putI C dX8_play_123 pX8_177 rfl rfl rfl rfl ?_
            refine e_nm (fun M10 hM10 => ?_)
            refine e_aload_n C dX8_play_126 rfl rfl ?_
            refine e_dup C dX8_play_127 rfl ?_
            refine e_getI C dX8_play_128 fX8_189 rfl rfl ?_
            refine e_topi (z 4) (by rw [hM10, gI_sI, upd_n _ _ (by decide), hM2, gI_sI, upd_n _ _ (by decide)]; exact (by rw [i3 23 (by decide) (by decide)]; exact tz 4 (by decide) (by decide))) ?_
            refine e_iload C dX8_play_131 rfl ?_
            refine e_iadd C dX8_play_133 ?_
            refine e_putI C dX8_play_134 pX8_189 rfl rfl rfl rfl ?_
            refine e_nm (fun M11 hM11 => ?_)
            refine e_aload_n C dX8_play_137 rfl rfl ?_
            refine e_dup C dX8_play_138 rfl ?_
            refine e_getI C dX8_play_139 fX8_192 rfl rfl ?_
            refine e_topi (z 5) (by rw [hM11, gI_sI, upd_n _ _ (by decide), hM10, gI_sI, upd_n _ _ (by decide), hM2, gI_sI, upd_n _ _ (by decide)]; exact (by rw [i3 24 (by decide) (by decide)]; exact tz 5 (by decide) (by decide))) ?_
            refine e_iload C dX8_play_142 rfl ?_
            refine e_iload C dX8_play_144 rfl ?_
            refine e_isubN C dX8_play_146 (by omega) ?_
            refine e_iadd C dX8_play_147 ?_
            refine e_putI C dX8_play_148 pX8_192 rfl rfl rfl rfl ?_
            refine e_nm (fun M12 hM12 => ?_)
            refine e_aload_n C dX8_play_151 rfl rfl ?_
            refine e_getI C dX8_play_152 fX8_93 rfl rfl ?_
            refine e_topi (nI g) (by rw [hM12, gI_sI, upd_n _ _ (by decide), hM11, gI_sI, upd_n _ _ (by decide), hM10, gI_sI, upd_n _ _ (by decide), hM2, gI_sI, upd_n _ _ (by decide)]; exact (by rw [i3 26 (by decide) (by decide)]; exact hG.1)) ?_
            refine e_sipush (v := (nI 200)) C dX8_play_155 (by decide) ?_
            refine e_icmp_geN (tgt := 211) C dX8_play_158 (by omega) (by omega) (by decide) (fun h158 => ?_) (fun h158 => ?_)
            · refine e_iload C dX8_play_211 rfl ?_
              have hmin : min (EE n P k W pv j a9 b9 c9) (H + min j (R - H)) = EE n P k W pv j a9 b9 c9 := by omega
              have hs8 : Same [25, 40] M1 M12 := by rw [hM12, hM11, hM10, hM2]; exact (((((i4.up (by decide) : Same [25, 40] M1 Mz)).I (by decide)).I (by decide)).I (by decide)).I (by decide)
              have hr8 : ∀ f, f ≠ 20 → f ≠ 21 → f ≠ 22 → f ≠ 23 → f ≠ 24 → f ≠ 26 → gI M12 25 f = gI M1 25 f := fun f h1 h2 h3 h4 h5 h6 => by rw [hM12, gI_sI, upd_n _ _ (by omega), hM11, gI_sI, upd_n _ _ (by omega), hM10, gI_sI, upd_n _ _ (by omega), hM2, gI_sI, upd_n _ _ (by omega)]; exact i3 f h1 h2
              have hz8 : ∀ y, 2 ≤ y → y < 7 → gI M12 25 (19 + y) = outZ (takeZ z R H j) (takeH R H j) (EE n P k W pv j a9 b9 c9) y := by
                intro y h1 h2
                unfold outZ takeZ takeH
                rw [hmin]
                rcases (show y = 2 ∨ y = 3 ∨ y = 4 ∨ y = 5 ∨ y = 6 by omega) with rfl | rfl | rfl | rfl | rfl
                · show gI M12 25 21 = _
                  rw [hM12, gI_sI, upd_n _ _ (by decide), hM11, gI_sI, upd_n _ _ (by decide), hM10, gI_sI, upd_n _ _ (by decide), hM2, gI_sI, upd_n _ _ (by decide)]
                  rw [i2]; simp [upd]
                · show gI M12 25 22 = _
                  rw [hM12, gI_sI, upd_n _ _ (by decide), hM11, gI_sI, upd_n _ _ (by decide), hM10, gI_sI, upd_n _ _ (by decide), hM2, gI_sI, upd_s]
                  simp [upd]
                · show gI M12 25 23 = _
                  rw [hM12, gI_sI, upd_n _ _ (by decide), hM11, gI_sI, upd_s]
                  simp [upd]
                · show gI M12 25 24 = _
                  rw [hM12, gI_sI, upd_s]
                  simp [upd]
                · show gI M12 25 25 = _
                  rw [hM12, gI_sI, upd_n _ _ (by decide), hM11, gI_sI, upd_n _ _ (by decide), hM10, gI_sI, upd_n _ _ (by decide), hM2, gI_sI, upd_n _ _ (by decide)]
                  rw [i3 25 (by decide) (by decide), tz 6 (by decide) (by decide)]; simp [upd]
              have h20 : gI M12 25 20 = nI (takeH R H j - min (EE n P k W pv j a9 b9 c9) (takeH R H j)) := by unfold takeH; rw [hmin, hM12, gI_sI, upd_n _ _ (by decide), hM11, gI_sI, upd_n _ _ (by decide), hM10, gI_sI, upd_s]
              have hG8 : RgOK M12 (plG g) (plQ g q a9 b9 c9) := by
                unfold plG plQ
                rw [if_neg (show ¬ g < 200 by omega), if_neg (show ¬ g < 200 by omega)]
                exact hG.row (by rw [hM12, gI_sI, upd_n _ _ (by decide), hM11, gI_sI, upd_n _ _ (by decide), hM10, gI_sI, upd_n _ _ (by decide), hM2, gI_sI, upd_n _ _ (by decide)]; exact i3 26 (by decide) (by decide)) (by rw [hM12, gI_sI_ne _ _ (by decide), hM11, gI_sI_ne _ _ (by decide), hM10, gI_sI_ne _ _ (by decide), hM2, gI_sI_ne _ _ (by decide), i4.gI (by decide)])
              have hJ8 : gJ M12 25 = gJ M1 25 := by rw [hM12, gJ_sI, hM11, gJ_sI, hM10, gJ_sI, hM2, gJ_sI]; exact i4J
              exact e_zret C dX8_play_213 RT rfl ⟨Nat.zero_le _, Nat.zero_le _⟩ (rri ((if_pos h7).trans (by rw [tn_nI (q := a9) (by omega), tn_nI (q := b9) (by omega), tn_nI (q := c9) (by omega)])) (show RInv _ (n, P, cnt, k, W, pv, j, R, takeH R H j - min (EE n P k W pv j a9 b9 c9) (takeH R H j), outZ (takeZ z R H j) (takeH R H j) (EE n P k W pv j a9 b9 c9), plG g, plQ g q a9 b9 c9) from ⟨hB.mv hs8 (by decide) (hr8 3 (by decide) (by decide) (by decide) (by decide) (by decide) (by decide)) (hr8 8 (by decide) (by decide) (by decide) (by decide) (by decide) (by decide)), hCt.same (hs8.gI (by decide)), hF.mv hs8 (by decide) (hr8 9 (by decide) (by decide) (by decide) (by decide) (by decide) (by decide)) (hr8 15 (by decide) (by decide) (by decide) (by decide) (by decide) (by decide)) hJ8, ⟨by rw [hr8 19 (by decide) (by decide) (by decide) (by decide) (by decide) (by decide)]; exact t0, h20, by unfold takeH; omega, tR, tR2, hz8⟩, hG8, QOK.play hQ l_a l_b l_c⟩) (hf9.tr (hs8.up (by decide))))
            · refine e_aload_n C dX8_play_161 rfl rfl ?_
              refine e_getR (q := 40) C dX8_play_162 fX8_60 rfl rfl ?_
              refine e_iconst (v := (nI 3)) C dX8_play_165 (by decide) ?_
              refine e_aload_n C dX8_play_166 rfl rfl ?_
              refine e_getI C dX8_play_167 fX8_93 rfl rfl ?_
              refine e_topi (nI g) (by rw [hM12, gI_sI, upd_n _ _ (by decide), hM11, gI_sI, upd_n _ _ (by decide), hM10, gI_sI, upd_n _ _ (by decide), hM2, gI_sI, upd_n _ _ (by decide)]; exact (by rw [i3 26 (by decide) (by decide)]; exact hG.1)) ?_
              refine e_imulN C dX8_play_170 ?_
              refine e_iload_n C dX8_play_171 rfl rfl ?_
              refine e_iastoreN C dX8_play_172 rfl (by omega) (by omega) ?_
              refine e_nm (fun M13 hM13 => ?_)
              refine e_aload_n C dX8_play_173 rfl rfl ?_
              refine e_getR (q := 40) C dX8_play_174 fX8_60 rfl rfl ?_
              refine e_iconst (v := (nI 3)) C dX8_play_177 (by decide) ?_
              refine e_aload_n C dX8_play_178 rfl rfl ?_
              refine e_getI C dX8_play_179 fX8_93 rfl rfl ?_
              refine e_topi (nI g) (by rw [hM13, gI_sI_ne _ _ (by decide), hM12, gI_sI, upd_n _ _ (by decide), hM11, gI_sI, upd_n _ _ (by decide), hM10, gI_sI, upd_n _ _ (by decide), hM2, gI_sI, upd_n _ _ (by decide)]; exact (by rw [i3 26 (by decide) (by decide)]; exact hG.1)) ?_
              refine e_imulN C dX8_play_182 ?_
              refine e_iconst (v := (nI 1)) C dX8_play_183 (by decide) ?_
              refine e_iaddN C dX8_play_184 ?_
              refine e_iload_n C dX8_play_185 rfl rfl ?_
              refine e_iastoreN C dX8_play_186 rfl (by omega) (by omega) ?_
              refine e_nm (fun M14 hM14 => ?_)
              refine e_aload_n C dX8_play_187 rfl rfl ?_
              refine e_getR (q := 40) C dX8_play_188 fX8_60 rfl rfl ?_
              refine e_iconst (v := (nI 3)) C dX8_play_191 (by decide) ?_
              refine e_aload_n C dX8_play_192 rfl rfl ?_
              refine e_getI C dX8_play_193 fX8_93 rfl rfl ?_
              refine e_topi (nI g) (by rw [hM14, gI_sI_ne _ _ (by decide), hM13, gI_sI_ne _ _ (by decide), hM12, gI_sI, upd_n _ _ (by decide), hM11, gI_sI, upd_n _ _ (by decide), hM10, gI_sI, upd_n _ _ (by decide), hM2, gI_sI, upd_n _ _ (by decide)]; exact (by rw [i3 26 (by decide) (by decide)]; exact hG.1)) ?_
              refine e_imulN C dX8_play_196 ?_
              refine e_iconst (v := (nI 2)) C dX8_play_197 (by decide) ?_
              refine e_iaddN C dX8_play_198 ?_
              refine e_iload_n C dX8_play_199 rfl rfl ?_
              refine e_iastoreN C dX8_play_200 rfl (by omega) (by omega) ?_
              refine e_nm (fun M15 hM15 => ?_)
              refine e_aload_n C dX8_play_201 rfl rfl ?_
              refine e_dup C dX8_play_202 rfl ?_
              refine e_getI C dX8_play_203 fX8_93 rfl rfl ?_
              refine e_topi (nI g) (by rw [hM15, gI_sI_ne _ _ (by decide), hM14, gI_sI_ne _ _ (by decide), hM13, gI_sI_ne _ _ (by decide), hM12, gI_sI, upd_n _ _ (by decide), hM11, gI_sI, upd_n _ _ (by decide), hM10, gI_sI, upd_n _ _ (by decide), hM2, gI_sI, upd_n _ _ (by decide)]; exact (by rw [i3 26 (by decide) (by decide)]; exact hG.1)) ?_
              refine e_iconst (v := (nI 1)) C dX8_play_206 (by decide) ?_
              refine e_iaddN C dX8_play_207 ?_
              refine e_putI C dX8_play_208 pX8_93 rfl rfl rfl rfl ?_
              refine e_nm (fun M16 hM16 => ?_)
              refine e_iload C dX8_play_211 rfl ?_
              have hmin : min (EE n P k W pv j a9 b9 c9) (H + min j (R - H)) = EE n P k W pv j a9 b9 c9 := by omega
              have hs8 : Same [25, 40] M1 M16 := by rw [hM16, hM15, hM14, hM13, hM12, hM11, hM10, hM2]; exact (((((((((i4.up (by decide) : Same [25, 40] M1 Mz)).I (by decide)).I (by decide)).I (by decide)).I (by decide)).I (by decide)).I (by decide)).I (by decide)).I (by decide)
              have hr8 : ∀ f, f ≠ 20 → f ≠ 21 → f ≠ 22 → f ≠ 23 → f ≠ 24 → f ≠ 26 → gI M16 25 f = gI M1 25 f := fun f h1 h2 h3 h4 h5 h6 => by rw [hM16, gI_sI, upd_n _ _ (by omega), hM15, gI_sI_ne _ _ (by decide), hM14, gI_sI_ne _ _ (by decide), hM13, gI_sI_ne _ _ (by decide), hM12, gI_sI, upd_n _ _ (by omega), hM11, gI_sI, upd_n _ _ (by omega), hM10, gI_sI, upd_n _ _ (by omega), hM2, gI_sI, upd_n _ _ (by omega)]; exact i3 f h1 h2
              have hz8 : ∀ y, 2 ≤ y → y < 7 → gI M16 25 (19 + y) = outZ (takeZ z R H j) (takeH R H j) (EE n P k W pv j a9 b9 c9) y := by
                intro y h1 h2
                unfold outZ takeZ takeH
                rw [hmin]
                rcases (show y = 2 ∨ y = 3 ∨ y = 4 ∨ y = 5 ∨ y = 6 by omega) with rfl | rfl | rfl | rfl | rfl
                · show gI M16 25 21 = _
                  rw [hM16, gI_sI, upd_n _ _ (by decide), hM15, gI_sI_ne _ _ (by decide), hM14, gI_sI_ne _ _ (by decide), hM13, gI_sI_ne _ _ (by decide), hM12, gI_sI, upd_n _ _ (by decide), hM11, gI_sI, upd_n _ _ (by decide), hM10, gI_sI, upd_n _ _ (by decide), hM2, gI_sI, upd_n _ _ (by decide)]
                  rw [i2]; simp [upd]
                · show gI M16 25 22 = _
                  rw [hM16, gI_sI, upd_n _ _ (by decide), hM15, gI_sI_ne _ _ (by decide), hM14, gI_sI_ne _ _ (by decide), hM13, gI_sI_ne _ _ (by decide), hM12, gI_sI, upd_n _ _ (by decide), hM11, gI_sI, upd_n _ _ (by decide), hM10, gI_sI, upd_n _ _ (by decide), hM2, gI_sI, upd_s]
                  simp [upd]
                · show gI M16 25 23 = _
                  rw [hM16, gI_sI, upd_n _ _ (by decide), hM15, gI_sI_ne _ _ (by decide), hM14, gI_sI_ne _ _ (by decide), hM13, gI_sI_ne _ _ (by decide), hM12, gI_sI, upd_n _ _ (by decide), hM11, gI_sI, upd_s]
                  simp [upd]
                · show gI M16 25 24 = _
                  rw [hM16, gI_sI, upd_n _ _ (by decide), hM15, gI_sI_ne _ _ (by decide), hM14, gI_sI_ne _ _ (by decide), hM13, gI_sI_ne _ _ (by decide), hM12, gI_sI, upd_s]
                  simp [upd]
                · show gI M16 25 25 = _
                  rw [hM16, gI_sI, upd_n _ _ (by decide), hM15, gI_sI_ne _ _ (by decide), hM14, gI_sI_ne _ _ (by decide), hM13, gI_sI_ne _ _ (by decide), hM12, gI_sI, upd_n _ _ (by decide), hM11, gI_sI, upd_n _ _ (by decide), hM10, gI_sI, upd_n _ _ (by decide), hM2, gI_sI, upd_n _ _ (by decide)]
                  rw [i3 25 (by decide) (by decide), tz 6 (by decide) (by decide)]; simp [upd]
              have h20 : gI M16 25 20 = nI (takeH R H j - min (EE n P k W pv j a9 b9 c9) (takeH R H j)) := by unfold takeH; rw [hmin, hM16, gI_sI, upd_n _ _ (by decide), hM15, gI_sI_ne _ _ (by decide), hM14, gI_sI_ne _ _ (by decide), hM13, gI_sI_ne _ _ (by decide), hM12, gI_sI, upd_n _ _ (by decide), hM11, gI_sI, upd_n _ _ (by decide), hM10, gI_sI, upd_s]
              have hG8 : RgOK M16 (plG g) (plQ g q a9 b9 c9) := by
                unfold plG plQ
                rw [if_pos (show g < 200 by omega), if_pos (show g < 200 by omega)]
                exact hG.add (by omega) (by rw [hM16, gI_sI, upd_s]) (by rw [hM16, gI_sI_ne _ _ (by decide), hM15, gI_sI, hM14, gI_sI, hM13, gI_sI, hM12, gI_sI_ne _ _ (by decide), hM11, gI_sI_ne _ _ (by decide), hM10, gI_sI_ne _ _ (by decide), hM2, gI_sI_ne _ _ (by decide), i4.gI (by decide)])
              have hJ8 : gJ M16 25 = gJ M1 25 := by rw [hM16, gJ_sI, hM15, gJ_sI, hM14, gJ_sI, hM13, gJ_sI, hM12, gJ_sI, hM11, gJ_sI, hM10, gJ_sI, hM2, gJ_sI]; exact i4J
              exact e_zret C dX8_play_213 RT rfl ⟨Nat.zero_le _, Nat.zero_le _⟩ (rri ((if_pos h7).trans (by rw [tn_nI (q := a9) (by omega), tn_nI (q := b9) (by omega), tn_nI (q := c9) (by omega)])) (show RInv _ (n, P, cnt, k, W, pv, j, R, takeH R H j - min (EE n P k W pv j a9 b9 c9) (takeH R H j), outZ (takeZ z R H j) (takeH R H j) (EE n P k W pv j a9 b9 c9), plG g, plQ g q a9 b9 c9) from ⟨hB.mv hs8 (by decide) (hr8 3 (by decide) (by decide) (by decide) (by decide) (by decide) (by decide)) (hr8 8 (by decide) (by decide) (by decide) (by decide) (by decide) (by decide)), hCt.same (hs8.gI (by decide)), hF.mv hs8 (by decide) (hr8 9 (by decide) (by decide) (by decide) (by decide) (by decide) (by decide)) (hr8 15 (by decide) (by decide) (by decide) (by decide) (by decide) (by decide)) hJ8, ⟨by rw [hr8 19 (by decide) (by decide) (by decide) (by decide) (by decide) (by decide)]; exact t0, h20, by unfold takeH; omega, tR, tR2, hz8⟩, hG8, QOK.play hQ l_a l_b l_c⟩) (hf9.tr (hs8.up (by decide))))
        · refine e_aload_n C dX8_play_29 rfl rfl ?_
          refine e_getI C dX8_play_30 fX8_177 rfl rfl ?_
          refine e_topi (nI (H + min j (R - H))) i1 ?_
          refine e_aload_n C dX8_play_33 rfl rfl ?_
          refine e_getI C dX8_play_34 fX8_57 rfl rfl ?_
          refine e_topi (nI R) (by rw [i3 19 (by decide) (by decide)]; exact t0) ?_
          refine e_icmp_geN (tgt := 53) C dX8_play_37 (by omega) (by omega) (by decide) (fun h37 => ?_) (fun h37 => ?_)
          · refine e_aload_n C dX8_play_53 rfl rfl ?_
            refine e_dup C dX8_play_54 rfl ?_
            refine e_getI C dX8_play_55 fX8_183 rfl rfl ?_
            refine e_topi (z 2 + nI (j - min j (R - H))) i2 ?_
            refine e_iconst (v := (nI 1)) C dX8_play_58 (by decide) ?_
            refine e_iadd C dX8_play_59 ?_
            refine e_putI C dX8_play_60 pX8_183 rfl rfl rfl rfl ?_
            refine e_nm (fun M17 hM17 => ?_)
            refine e_iincN (lv2 := [(4, .int (nI (j + 1))), (0, .ref 25), (1, .int (nI a9)), (2, .int (nI b9)), (3, .int (nI c9))]) C dX8_play_63 rfl (by decide) (nI_1 _) rfl ?_
            refine e_goto (tgt := 20) C dX8_play_66 (by decide) ?_
            refine e_loc [1, 2, 3, 4, 0] rfl ?_
            have hj8 : PlI M1 R H z (j + 1) M17 := by
              have e1 : min (j + 1) (R - H) = min j (R - H) := by omega
              refine ⟨by rw [hM17, gI_sI, upd_n _ _ (by decide), e1]; exact i1, ?_, fun f h1 h2 => by rw [hM17, gI_sI, upd_n _ _ h2]; exact i3 f h1 h2, by rw [hM17]; exact i4.I (by decide)⟩
              rw [hM17, gI_sI, upd_s, e1, Int32.add_assoc, nI_add, show j - min j (R - H) + 1 = j + 1 - min j (R - H) by omega]
            exact ih_lp (L - (j + 1)) (by omega) (j + 1) rfl M17 (by omega) hj8 (by rw [hM17, gJ_sI]; exact hJ9)
          · refine e_aload_n C dX8_play_40 rfl rfl ?_
            refine e_dup C dX8_play_41 rfl ?_
            refine e_getI C dX8_play_42 fX8_177 rfl rfl ?_
            refine e_topi (nI (H + min j (R - H))) i1 ?_
            refine e_iconst (v := (nI 1)) C dX8_play_45 (by decide) ?_
            refine e_iaddN C dX8_play_46 ?_
            refine e_putI C dX8_play_47 pX8_177 rfl rfl rfl rfl ?_
            refine e_nm (fun M18 hM18 => ?_)
            refine e_goto (tgt := 63) C dX8_play_50 (by decide) ?_
            refine e_iincN (lv2 := [(4, .int (nI (j + 1))), (0, .ref 25), (1, .int (nI a9)), (2, .int (nI b9)), (3, .int (nI c9))]) C dX8_play_63 rfl (by decide) (nI_1 _) rfl ?_
            refine e_goto (tgt := 20) C dX8_play_66 (by decide) ?_
            refine e_loc [1, 2, 3, 4, 0] rfl ?_
            have hj8 : PlI M1 R H z (j + 1) M18 := by
              have e1 : min (j + 1) (R - H) = min j (R - H) + 1 := by omega
              refine ⟨by rw [hM18, gI_sI, upd_s, e1]; rfl, ?_, fun f h1 h2 => by rw [hM18, gI_sI, upd_n _ _ h1]; exact i3 f h1 h2, by rw [hM18]; exact i4.I (by decide)⟩
              rw [hM18, gI_sI, upd_n _ _ (by decide), e1, show j + 1 - (min j (R - H) + 1) = j - min j (R - H) by omega]; exact i2
            exact ih_lp (L - (j + 1)) (by omega) (j + 1) rfl M18 (by omega) hj8 (by rw [hM18, gJ_sI]; exact hJ9)
    exact lp 0 M1 (by omega) ⟨by rw [t1, show H + min 0 (R - H) = H by omega], by rw [show (0 : Nat) - min 0 (R - H) = 0 by omega]; rw [show gI M1 25 21 = z 2 from tz 2 (by decide) (by decide)]; exact (Int32.add_zero _).symm, fun _ _ _ => rfl, Same.rf _ _⟩ rfl
  · refine e_bipush (v := (-2)) C dX8_play_10 (by decide) ?_
    exact e_zret C dX8_play_12 RT rfl ⟨Nat.zero_le _, Nat.zero_le _⟩ (rri (if_neg (fun h8 => by rw [h7] at h8; exact absurd h8 (by decide))) hI (Same.rf _ M))
