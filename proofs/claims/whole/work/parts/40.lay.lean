theorem sumN_up {f : Nat → Nat} {q v : Nat} : ∀ {k : Nat}, q < k → sumN (va_up f q v) k + f q = sumN f k + v
  | 0, h => absurd h (by omega)
  | k + 1, h => by
    simp only [sumN]
    by_cases e : q = k
    · subst e
      rw [up_s, sumN_congr (f := va_up f q v) (g := f) (fun i hi => up_n _ _ (by omega))]; omega
    · have h1 := sumN_up (f := f) (v := v) (show q < k by omega)
      rw [up_n _ _ (show k ≠ q by omega)]; omega
theorem lay_sum (cnt : Nat → Nat) (n : Nat) : ∀ s, s ≤ sumN cnt 8 → sumN (layL cnt n s) 8 = s
  | 0, _ => by simp [sumN, layL]
  | s + 1, h => by
    have h1 := lay_sum cnt n s (by omega)
    have h2 : layB cnt n s < 8 := layB_lt cnt n s
    have h3 := sumN_up (f := layL cnt n s) (v := layL cnt n s (layB cnt n s) + 1) h2
    have h4 : layL cnt n (s + 1) = va_up (layL cnt n s) (layB cnt n s) (layL cnt n s (layB cnt n s) + 1) := rfl
    rw [h4]; omega
theorem lay_some {cnt : Nat → Nat} {n s : Nat} (h : s < sumN cnt 8) : bestD cnt (layL cnt n s) n s 8 = some (layB cnt n s) := by
  unfold layB
  cases ho : bestD cnt (layL cnt n s) n s 8 with
  | none =>
    have h1 := sumN_mono (k := 8) (fun i hi => bestD_none ho i hi)
    rw [lay_sum cnt n s (by omega)] at h1
    omega
  | some q => rfl
theorem RsOK.lay {M M2 : Mm} {n P cnt : Nat → Nat} (h : RsOK M n P) {r x : Nat} (hr : r < 3) (hx : 4 ≤ x ∧ x ≤ 20) (e1 : gI M2 26 = upd (gI M 26) r (nI x)) (e2 : ∀ j, j < x → gI M2 27 (r * 20 + j) = nI (layB cnt x j)) (e3 : ∀ j, (j < r * 20 ∨ r * 20 + 20 ≤ j) → gI M2 27 j = gI M 27 j) : RsOK M2 (va_up n r x) (layP P cnt r x) := by
  obtain ⟨h1, h2, h3, h4⟩ := h
  unfold layP
  refine ⟨fun y hy => ?_, fun y hy => ?_, fun y hy t ht => ?_, fun i => ?_⟩
  · rw [e1]
    by_cases e : y = r
    · subst e; rw [upd_s, up_s]
    · rw [upd_n _ _ e, up_n _ _ e]; exact h1 y hy
  · by_cases e : y = r
    · subst e; rw [up_s]; exact hx
    · rw [up_n _ _ e]; exact h2 y hy
  · by_cases e : y = r
    · subst e; rw [up_s] at ht; rw [e2 t (by omega), rngr_in _ _ ht]
    · rw [up_n _ _ e] at ht
      have h20 := (h2 y hy).2
      rw [e3 _ (by omega), rngr_out _ _ (by omega)]; unfold blkP; rw [if_neg (by omega)]; exact h3 y hy t ht
  · unfold rngr; split
    · exact layB_lt _ _ _
    · unfold blkP; split
      · decide
      · exact h4 i
def DuG (cnt laid : Nat → Nat) (n s : Nat) (o : Option Nat) (m : Int32) : Prop := match o with
  | none => True
  | some q => m = dueI cnt laid n s q ∧ q < 8
theorem DuG.skip {cnt laid : Nat → Nat} {n s p : Nat} (h : cnt p ≤ laid p) : bestD cnt laid n s (p + 1) = bestD cnt laid n s p := by
  simp only [bestD]
  cases bestD cnt laid n s p with
  | none => simp only; rw [if_neg (by omega)]
  | some q => simp only; rw [if_neg (by omega)]
theorem DuG.first {cnt laid : Nat → Nat} {n s p : Nat} {ob : Option Nat} (hb : ob = bestD cnt laid n s p) (hp : p < 8) (h : laid p < cnt p) (h0 : oI ob < 0) : some p = bestD cnt laid n s (p + 1) := by
  simp only [bestD]
  cases ho : bestD cnt laid n s p with
  | none => simp only; rw [if_pos h]
  | some q =>
    have h1 := bestD_lt ho
    rw [hb, ho] at h0
    exact absurd h0 (nI_pos (by omega))
theorem DuG.more {cnt laid : Nat → Nat} {n s p : Nat} {ob : Option Nat} {m : Int32} (hc : ∀ p, p < 8 → cnt p ≤ 20) (hl : ∀ p, p < 8 → laid p ≤ 20) (hs : s < 20) (hn : n ≤ 20) (hb : ob = bestD cnt laid n s p) (hm : DuG cnt laid n s ob m) (hp : p < 8) (h : laid p < cnt p) (h0 : ¬ oI ob < 0) (h1 : m < dueI cnt laid n s p) : some p = bestD cnt laid n s (p + 1) := by
  simp only [bestD]
  cases ho : bestD cnt laid n s p with
  | none => simp only; rw [if_pos h]
  | some q =>
    have hq := bestD_lt ho
    rw [hb, ho] at hm
    rw [hm.1, Int32.lt_iff_toInt_lt, dueI_Z (hc p hp) hs hn (hl p hp), dueI_Z (hc q (by omega)) hs hn (hl q (by omega))] at h1
    simp only; rw [if_pos ⟨h, h1⟩]
theorem DuG.less {cnt laid : Nat → Nat} {n s p : Nat} {ob : Option Nat} {m : Int32} (hc : ∀ p, p < 8 → cnt p ≤ 20) (hl : ∀ p, p < 8 → laid p ≤ 20) (hs : s < 20) (hn : n ≤ 20) (hb : ob = bestD cnt laid n s p) (hm : DuG cnt laid n s ob m) (hp : p < 8) (h0 : ¬ oI ob < 0) (h1 : dueI cnt laid n s p ≤ m) : ob = bestD cnt laid n s (p + 1) := by
  simp only [bestD]
  cases ho : bestD cnt laid n s p with
  | none => rw [hb, ho] at h0; exact absurd (by decide) h0
  | some q =>
    have hq := bestD_lt ho
    rw [hb, ho] at hm
    rw [hm.1, Int32.le_iff_toInt_le, dueI_Z (hc p hp) hs hn (hl p hp), dueI_Z (hc q (by omega)) hs hn (hl q (by omega))] at h1
    simp only; rw [if_neg (by omega), hb, ho]
set_option maxHeartbeats 1000000 in
set_option maxRecDepth 100000 in
theorem q_lay {w : Bool} {M : Mm} {n P cnt : Nat → Nat} {k : Nat} {W : Nat → Nat → Int32} {pv : Nat → Nat} {L R H : Nat} {z : Nat → Int32} {g : Nat} {q : Nat → Nat → Nat} (hI : RInv M (n, P, cnt, k, W, pv, L, R, H, z, g, q))  (r : Int32) : CT mX8_lay [.ref 25, .int r] (shF w) M (Qi (spLay (n, P, cnt, k, W, pv, L, R, H, z, g, q) r).1 (shF w) (fun m0 => RInv m0 (spLay (n, P, cnt, k, W, pv, L, R, H, z, g, q) r).2 ∧ FrR M m0)) := by
  refine CT.mk (lv := [(0, .ref 25), (1, .int r)]) rfl (by decide +kernel) (Nat.le_of_ble_eq_true rfl) ?_
  intro X C RT
  obtain ⟨hB, hCt, hF, hH, hG, hQ⟩ := id hI
  obtain ⟨hS, hT, hL, hL1, hL3⟩ := id hB
  have n0 := hS.2.1 0 (by decide)
  have n1 := hS.2.1 1 (by decide)
  have n2 := hS.2.1 2 (by decide)
  have hs20 : ∀ i, i ≤ 8 → sumN cnt i ≤ 160 := fun i hi => Nat.le_trans (sumN_le (B := 20) (fun j hj => (hCt j (by omega)).2)) (by omega)
  have hc20 : ∀ i, i < 8 → cnt i ≤ 20 := fun i hi => (hCt i hi).2
  refine e_iload_n C dX8_lay_0 rfl rfl ?_
  refine e_callSi C dX8_lay_1 [.int r] (r_isReel r) okX8_isReel lX8_85 rfl ⟨rfl, rfl⟩ ⟨Nat.le_of_ble_eq_true rfl, Nat.le_of_ble_eq_true rfl⟩ (Nat.le_of_ble_eq_true rfl) ⟨Nat.zero_le _, Nat.zero_le _⟩ ?_
  refine e_if_neB (b := decide (inn r 0 2)) (tgt := 10) C dX8_lay_4 (by decide) (fun h4 => ?_) (fun h4 => ?_)
  · obtain ⟨r9, l_r9, u_r9, rfl⟩ := inn_N (b := 2) (dec_t h4) (by decide)
    refine e_iconst (v := (nI 0)) C dX8_lay_10 (by decide) ?_
    refine e_istore_n (lv2 := [(2, .int (nI 0)), (0, .ref 25), (1, .int (nI r9))]) C dX8_lay_11 rfl (by decide) rfl ?_
    refine e_iconst (v := (nI 0)) C dX8_lay_12 (by decide) ?_
    refine e_istore_n (lv2 := [(3, .int (nI 0)), (2, .int (nI 0)), (0, .ref 25), (1, .int (nI r9))]) C dX8_lay_13 rfl (by decide) rfl ?_
    refine e_loc [2, 3, 1, 0] rfl ?_
    have lp : ∀ (i : Nat) (My : Mm) (x9 : Nat), i ≤ 8 → x9 = sumN cnt i → (∀ j, j < i → gI My 33 j = nI 0) → Same [33] M My → Wd X (0, 0) 14 [(0, .ref 25), (1, .int (nI r9)), (2, .int (nI x9)), (3, .int (nI i))] [] (shF w) My := by
      intro i
      induction hq_lp : 8 - i using Nat.strongRecOn generalizing i with
      | ind k_lp ih_lp =>
        intro My x9 hi9 hx9 hz9 hsy
        have hs21 := hs20 i hi9
        refine e_iload_n C dX8_lay_14 rfl rfl ?_
        refine e_bipush (v := (nI 8)) C dX8_lay_15 (by decide) ?_
        refine e_icmp_geN (tgt := 42) C dX8_lay_17 (by omega) (by omega) (by decide) (fun h17 => ?_) (fun h17 => ?_)
        · have hi8 : i = 8 := by omega
          subst hi8
          subst hx9
          have hIy := hI.sm hsy (by decide)
          refine e_iload_n C dX8_lay_42 rfl rfl ?_
          refine e_i2lN C dX8_lay_43 (by omega) ?_
          refine e_ldc2 (v := lN 4) C dX8_lay_44 kX8_89 ?_
          refine e_ldc2 (v := lN 20) C dX8_lay_47 kX8_91 ?_
          refine e_callSi C dX8_lay_50 [.long (lN (sumN cnt 8)), .long (lN 4), .long (lN 20)] (r_inL (sumN cnt 8) 4 20 (by omega) (by omega) (by omega)) okX8_in lX8_81 rfl ⟨rfl, rfl⟩ ⟨Nat.le_of_ble_eq_true rfl, Nat.le_of_ble_eq_true rfl⟩ (Nat.le_of_ble_eq_true rfl) ⟨Nat.zero_le _, Nat.zero_le _⟩ ?_
          refine e_if_neB (b := decide (4 ≤ sumN cnt 8 ∧ sumN cnt 8 ≤ 20)) (tgt := 59) C dX8_lay_53 (by decide) (fun h53 => ?_) (fun h53 => ?_)
          · have h44 := dec_t h53
            refine e_aload_n C dX8_lay_59 rfl rfl ?_
            refine e_getR (q := 26) C dX8_lay_60 fX8_7 rfl rfl ?_
            refine e_iload_n C dX8_lay_63 rfl rfl ?_
            refine e_iload_n C dX8_lay_64 rfl rfl ?_
            refine e_iastoreN C dX8_lay_65 rfl (by omega) (by omega) ?_
            refine e_nm (fun M1 hM1 => ?_)
            refine e_iconst (v := (nI 0)) C dX8_lay_66 (by decide) ?_
            refine e_istore_n (lv2 := [(3, .int (nI 0)), (0, .ref 25), (1, .int (nI r9)), (2, .int (nI (sumN cnt 8)))]) C dX8_lay_67 rfl (by decide) rfl ?_
            refine e_loc [1, 2, 3, 0] rfl ?_
            have lz : ∀ (s : Nat) (Mz : Mm), s ≤ sumN cnt 8 → (∀ j, j < s → gI Mz 27 (r9 * 20 + j) = nI (layB cnt (sumN cnt 8) j)) → (∀ j, (j < r9 * 20 ∨ r9 * 20 + 20 ≤ j) → gI Mz 27 j = gI M1 27 j) → (∀ j, j < 8 → gI Mz 33 j = nI (layL cnt (sumN cnt 8) s j)) → Same [27, 33] M1 Mz → Wd X (0, 0) 68 [(0, .ref 25), (1, .int (nI r9)), (2, .int (nI (sumN cnt 8))), (3, .int (nI s))] [] (shF w) Mz := by
              intro s
              induction hq_lz : sumN cnt 8 - s using Nat.strongRecOn generalizing s with
              | ind k_lz ih_lz =>
                intro Mz hs hbz hoz hlz hsz
                have hL20 : ∀ j, j < 8 → layL cnt (sumN cnt 8) s j ≤ 20 := fun j hj => Nat.le_trans (layL_le cnt (sumN cnt 8) s j) (by omega)
                refine e_iload_n C dX8_lay_68 rfl rfl ?_
                refine e_iload_n C dX8_lay_69 rfl rfl ?_
                refine e_icmp_geN (tgt := 185) C dX8_lay_70 (by omega) (by omega) (by decide) (fun h70 => ?_) (fun h70 => ?_)
                · refine e_aload_n C dX8_lay_185 rfl rfl ?_
                  refine e_iconst (v := (nI 0)) C dX8_lay_186 (by decide) ?_
                  refine e_putI C dX8_lay_187 pX8_93 rfl rfl rfl rfl ?_
                  refine e_nm (fun M2 hM2 => ?_)
                  refine e_aload_n C dX8_lay_190 rfl rfl ?_
                  refine e_iconst (v := (nI 0)) C dX8_lay_191 (by decide) ?_
                  refine e_putI C dX8_lay_192 pX8_96 rfl rfl (by decide) (by decide) ?_
                  refine e_nm (fun M3 hM3 => ?_)
                  refine e_iload_n C dX8_lay_195 rfl rfl ?_
                  have hs8 : Same [25, 26, 27, 33] M M3 := by rw [hM3, hM2]; exact ((Same.tr (by rw [hM1]; exact (hsy.up (by decide)).I (by decide)) (hsz.up (by decide))).I (by decide)).I (by decide)
                  have hr8 : ∀ j, j ≠ 26 → j ≠ 9 → gI M3 25 j = gI M 25 j := fun j h1 h2 => by rw [hM3, gI_sI, upd_n _ _ h2, hM2, gI_sI, upd_n _ _ h1, hsz.gI (by decide), hM1, gI_sI_ne _ _ (by decide), hsy.gI (by decide)]
                  have h26 : gI M3 26 = upd (gI M 26) r9 (nI (sumN cnt 8)) := by rw [hM3, gI_sI_ne _ _ (by decide), hM2, gI_sI_ne _ _ (by decide), hsz.gI (by decide), hM1, gI_sI, hsy.gI (by decide)]
                  have h27 : gI M3 27 = gI Mz 27 := by rw [hM3, gI_sI_ne _ _ (by decide), hM2, gI_sI_ne _ _ (by decide)]
                  exact e_zret C dX8_lay_196 RT rfl ⟨Nat.zero_le _, Nat.zero_le _⟩ (rri ((if_pos (dec_t h4)).trans ((if_pos h44).trans (by rw [tn_nI (q := r9) (by omega)]))) (show RInv _ (va_up n r9 (sumN cnt 8), layP P cnt r9 (sumN cnt 8), cnt, k, W, pv, L, R, H, z, 0, q) from ⟨⟨hS.lay (by omega) h44 h26 (fun j hj => by rw [h27]; exact hbz j (by omega)) (fun j hj => by rw [h27, hoz j hj, hM1, gI_sI_ne _ _ (by decide), hsy.gI (by decide)]), hT.same (hr8 3 (by decide) (by decide)) (hs8.gI (by decide)) (hs8.gI (by decide)) (hs8.gI (by decide)) (hs8.gI (by decide)), by rw [hr8 8 (by decide) (by decide)]; exact hL, hL1, hL3⟩, hCt.same (hs8.gI (by decide)), .inl (by rw [hM3, gI_sI, upd_s]), hH.row (fun j _ _ => hr8 j (by omega) (by omega)), ⟨by rw [hM3, gI_sI, upd_n _ _ (by decide), hM2, gI_sI, upd_s], by omega, fun i hi => absurd hi (by omega)⟩, QOK.z⟩) (hs8.up (by decide)))
                · refine e_iconst (v := (-1)) C dX8_lay_73 (by decide) ?_
                  refine e_istore (lv2 := [(4, .int (-1)), (0, .ref 25), (1, .int (nI r9)), (2, .int (nI (sumN cnt 8))), (3, .int (nI s))]) C dX8_lay_74 (by decide) rfl ?_
                  refine e_iconst (v := (nI 0)) C dX8_lay_76 (by decide) ?_
                  refine e_istore (lv2 := [(5, .int (nI 0)), (4, .int (-1)), (0, .ref 25), (1, .int (nI r9)), (2, .int (nI (sumN cnt 8))), (3, .int (nI s))]) C dX8_lay_77 (by decide) rfl ?_
                  refine e_iconst (v := (nI 0)) C dX8_lay_79 (by decide) ?_
                  refine e_istore (lv2 := [(6, .int (nI 0)), (5, .int (nI 0)), (4, .int (-1)), (0, .ref 25), (1, .int (nI r9)), (2, .int (nI (sumN cnt 8))), (3, .int (nI s))]) C dX8_lay_80 (by decide) rfl ?_
                  refine e_loc [3, 4, 5, 6, 2, 1, 0] rfl ?_
                  have lq : ∀ (p : Nat) (ob : Option Nat) (mm : Int32), p ≤ 8 → ob = bestD cnt (layL cnt (sumN cnt 8) s) (sumN cnt 8) s p → DuG cnt (layL cnt (sumN cnt 8) s) (sumN cnt 8) s ob mm → Wd X (0, 0) 82 [(0, .ref 25), (1, .int (nI r9)), (2, .int (nI (sumN cnt 8))), (3, .int (nI s)), (4, .int (oI ob)), (5, .int mm), (6, .int (nI p))] [] (shF w) Mz := by
                    intro p
                    induction hq_lq : 8 - p using Nat.strongRecOn generalizing p with
                    | ind k_lq ih_lq =>
                      intro ob mm hp hob hmm
                      have hLp : p < 8 → layL cnt (sumN cnt 8) s p ≤ 20 := hL20 p
                      have hcp : p < 8 → cnt p ≤ 20 := hc20 p
                      refine e_iload C dX8_lay_82 rfl ?_
                      refine e_bipush (v := (nI 8)) C dX8_lay_84 (by decide) ?_
                      refine e_icmp_geN (tgt := 155) C dX8_lay_86 (by omega) (by omega) (by decide) (fun h86 => ?_) (fun h86 => ?_)
                      · have hob2 : ob = some (layB cnt (sumN cnt 8) s) := by rw [hob, show p = 8 by omega]; exact lay_some (by omega)
                        have hb8 := layB_lt cnt (sumN cnt 8) s
                        subst hob2
                        refine e_loc (lv2 := [(0, .ref 25), (1, .int (nI r9)), (2, .int (nI (sumN cnt 8))), (3, .int (nI s)), (4, .int (nI (layB cnt (sumN cnt 8) s)))]) [0, 1, 2, 3, 4] rfl ?_
                        refine e_aload_n C dX8_lay_155 rfl rfl ?_
                        refine e_getR (q := 27) C dX8_lay_156 fX8_13 rfl rfl ?_
                        refine e_bipush (v := (nI 20)) C dX8_lay_159 (by decide) ?_
                        refine e_iload_n C dX8_lay_161 rfl rfl ?_
                        refine e_imulN C dX8_lay_162 ?_
                        refine e_iload_n C dX8_lay_163 rfl rfl ?_
                        refine e_iaddN C dX8_lay_164 ?_
                        refine e_iload C dX8_lay_165 rfl ?_
                        refine e_iastoreN C dX8_lay_167 rfl (by omega) (by omega) ?_
                        refine e_nm (fun M4 hM4 => ?_)
                        refine e_aload_n C dX8_lay_168 rfl rfl ?_
                        refine e_getR (q := 33) C dX8_lay_169 fX8_35 rfl rfl ?_
                        refine e_iload C dX8_lay_172 rfl ?_
                        refine e_dup2 C dX8_lay_174 rfl rfl ?_
                        refine e_ialoadN C dX8_lay_175 rfl (by omega) (by omega) ?_
                        refine e_topi (nI (layL cnt (sumN cnt 8) s (layB cnt (sumN cnt 8) s))) (by rw [hM4, gI_sI_ne _ _ (by decide)]; exact hlz _ (by omega)) ?_
                        refine e_iconst (v := (nI 1)) C dX8_lay_176 (by decide) ?_
                        refine e_iaddN C dX8_lay_177 ?_
                        refine e_iastoreN C dX8_lay_178 rfl (by omega) (by omega) ?_
                        refine e_nm (fun M5 hM5 => ?_)
                        refine e_iincN (lv2 := [(3, .int (nI (s + 1))), (0, .ref 25), (1, .int (nI r9)), (2, .int (nI (sumN cnt 8))), (4, .int (nI (layB cnt (sumN cnt 8) s)))]) C dX8_lay_179 rfl (by decide) (nI_1 _) rfl ?_
                        refine e_goto (tgt := 68) C dX8_lay_182 (by decide) ?_
                        refine e_loc [1, 2, 3, 0] rfl ?_
                        have ez27 : gI M5 27 = upd (gI Mz 27) (20 * r9 + s) (nI (layB cnt (sumN cnt 8) s)) := by rw [hM5, gI_sI_ne _ _ (by decide), hM4, gI_sI]
                        have ez33 : gI M5 33 = upd (gI Mz 33) (layB cnt (sumN cnt 8) s) (nI (layL cnt (sumN cnt 8) s (layB cnt (sumN cnt 8) s) + 1)) := by rw [hM5, gI_sI, hM4, gI_sI_ne _ _ (by decide)]
                        exact ih_lz (sumN cnt 8 - (s + 1)) (by omega) (s + 1) rfl M5 (by omega) (fun j hj => by rw [ez27]; by_cases e9 : j = s; (subst e9; rw [show 20 * r9 + j = r9 * 20 + j by omega, upd_s]); (rw [upd_n _ _ (by omega)]; exact hbz j (by omega))) (fun j hj => by rw [ez27, upd_n _ _ (by omega)]; exact hoz j hj) (fun j hj => by rw [ez33]; show _ = nI (va_up (layL cnt (sumN cnt 8) s) (layB cnt (sumN cnt 8) s) _ j); by_cases e9 : j = layB cnt (sumN cnt 8) s; (subst e9; rw [upd_s, up_s]; rfl); (rw [upd_n _ _ e9, up_n _ _ e9]; exact hlz j hj)) (by rw [hM5, hM4]; exact (hsz.I (by decide)).I (by decide))
                      · refine e_aload_n C dX8_lay_89 rfl rfl ?_
                        refine e_getR (q := 28) C dX8_lay_90 fX8_16 rfl rfl ?_
                        refine e_iload C dX8_lay_93 rfl ?_
                        refine e_ialoadN C dX8_lay_95 rfl (by omega) (by omega) ?_
                        refine e_topi (nI (cnt p)) (by rw [hsz.gI (by decide), hM1, gI_sI_ne _ _ (by decide), hsy.gI (by decide)]; exact (hCt p (by omega)).1) ?_
                        refine e_iload_n C dX8_lay_96 rfl rfl ?_
                        refine e_iconst (v := (nI 1)) C dX8_lay_97 (by decide) ?_
                        refine e_iaddN C dX8_lay_98 ?_
                        refine e_imulN C dX8_lay_99 ?_
                        refine e_iload_n C dX8_lay_100 rfl rfl ?_
                        refine e_aload_n C dX8_lay_101 rfl rfl ?_
                        refine e_getR (q := 33) C dX8_lay_102 fX8_35 rfl rfl ?_
                        refine e_iload C dX8_lay_105 rfl ?_
                        refine e_ialoadN C dX8_lay_107 rfl (by omega) (by omega) ?_
                        refine e_topi (nI (layL cnt (sumN cnt 8) s p)) (hlz p (by omega)) ?_
                        refine e_imulN C dX8_lay_108 ?_
                        refine e_isub C dX8_lay_109 ?_
                        refine e_topi (dueI cnt (layL cnt (sumN cnt 8) s) (sumN cnt 8) s p) rfl ?_
                        refine e_istore (lv2 := [(7, .int (dueI cnt (layL cnt (sumN cnt 8) s) (sumN cnt 8) s p)), (0, .ref 25), (1, .int (nI r9)), (2, .int (nI (sumN cnt 8))), (3, .int (nI s)), (4, .int (oI ob)), (5, .int mm), (6, .int (nI p))]) C dX8_lay_110 (by decide) rfl ?_
                        refine e_aload_n C dX8_lay_112 rfl rfl ?_
                        refine e_getR (q := 33) C dX8_lay_113 fX8_35 rfl rfl ?_
                        refine e_iload C dX8_lay_116 rfl ?_
                        refine e_ialoadN C dX8_lay_118 rfl (by omega) (by omega) ?_
                        refine e_topi (nI (layL cnt (sumN cnt 8) s p)) (hlz p (by omega)) ?_
                        refine e_aload_n C dX8_lay_119 rfl rfl ?_
                        refine e_getR (q := 28) C dX8_lay_120 fX8_16 rfl rfl ?_
                        refine e_iload C dX8_lay_123 rfl ?_
                        refine e_ialoadN C dX8_lay_125 rfl (by omega) (by omega) ?_
                        refine e_topi (nI (cnt p)) (by rw [hsz.gI (by decide), hM1, gI_sI_ne _ _ (by decide), hsy.gI (by decide)]; exact (hCt p (by omega)).1) ?_
                        refine e_icmp_geN (tgt := 149) C dX8_lay_126 (by omega) (by omega) (by decide) (fun h126 => ?_) (fun h126 => ?_)
                        · refine e_iincN (lv2 := [(6, .int (nI (p + 1))), (7, .int (dueI cnt (layL cnt (sumN cnt 8) s) (sumN cnt 8) s p)), (0, .ref 25), (1, .int (nI r9)), (2, .int (nI (sumN cnt 8))), (3, .int (nI s)), (4, .int (oI ob)), (5, .int mm)]) C dX8_lay_149 rfl (by decide) (nI_1 _) rfl ?_
                          refine e_goto (tgt := 82) C dX8_lay_152 (by decide) ?_
                          refine e_loc [2, 3, 4, 5, 6, 7, 0] rfl ?_
                          exact ih_lq (8 - (p + 1)) (by omega) (p + 1) rfl ob mm (by omega) (hob.trans (DuG.skip (by omega)).symm) hmm
                        · refine e_iload C dX8_lay_129 rfl ?_
                          refine e_if_lt (x := (oI ob)) (tgt := 141) C dX8_lay_131 (by decide) (fun h131 => ?_) (fun h131 => ?_)
                          · refine e_iload C dX8_lay_141 rfl ?_
                            refine e_istore (lv2 := [(4, .int (nI p)), (7, .int (dueI cnt (layL cnt (sumN cnt 8) s) (sumN cnt 8) s p)), (0, .ref 25), (1, .int (nI r9)), (2, .int (nI (sumN cnt 8))), (3, .int (nI s)), (5, .int mm), (6, .int (nI p))]) C dX8_lay_143 (by decide) rfl ?_
                            refine e_iload C dX8_lay_145 rfl ?_
                            refine e_istore (lv2 := [(5, .int (dueI cnt (layL cnt (sumN cnt 8) s) (sumN cnt 8) s p)), (4, .int (nI p)), (7, .int (dueI cnt (layL cnt (sumN cnt 8) s) (sumN cnt 8) s p)), (0, .ref 25), (1, .int (nI r9)), (2, .int (nI (sumN cnt 8))), (3, .int (nI s)), (6, .int (nI p))]) C dX8_lay_147 (by decide) rfl ?_
                            refine e_iincN (lv2 := [(6, .int (nI (p + 1))), (5, .int (dueI cnt (layL cnt (sumN cnt 8) s) (sumN cnt 8) s p)), (4, .int (nI p)), (7, .int (dueI cnt (layL cnt (sumN cnt 8) s) (sumN cnt 8) s p)), (0, .ref 25), (1, .int (nI r9)), (2, .int (nI (sumN cnt 8))), (3, .int (nI s))]) C dX8_lay_149 rfl (by decide) (nI_1 _) rfl ?_
                            refine e_goto (tgt := 82) C dX8_lay_152 (by decide) ?_
                            refine e_loc [4, 5, 6, 7, 2, 1, 0] rfl ?_
                            exact ih_lq (8 - (p + 1)) (by omega) (p + 1) rfl (some p) (dueI cnt (layL cnt (sumN cnt 8) s) (sumN cnt 8) s p) (by omega) (DuG.first hob (by omega) (by omega) h131) (⟨rfl, by omega⟩)
                          · refine e_iload C dX8_lay_134 rfl ?_
                            refine e_iload C dX8_lay_136 rfl ?_
                            refine e_icmp_le (x := (dueI cnt (layL cnt (sumN cnt 8) s) (sumN cnt 8) s p)) (y := mm) (tgt := 149) C dX8_lay_138 (by decide) (fun h138 => ?_) (fun h138 => ?_)
                            · refine e_iincN (lv2 := [(6, .int (nI (p + 1))), (7, .int (dueI cnt (layL cnt (sumN cnt 8) s) (sumN cnt 8) s p)), (0, .ref 25), (1, .int (nI r9)), (2, .int (nI (sumN cnt 8))), (3, .int (nI s)), (4, .int (oI ob)), (5, .int mm)]) C dX8_lay_149 rfl (by decide) (nI_1 _) rfl ?_
                              refine e_goto (tgt := 82) C dX8_lay_152 (by decide) ?_
                              refine e_loc [2, 3, 4, 5, 6, 7, 0] rfl ?_
                              exact ih_lq (8 - (p + 1)) (by omega) (p + 1) rfl ob mm (by omega) (DuG.less hc20 hL20 (by omega) (by omega) hob hmm (by omega) h131 h138) hmm
                            · refine e_iload C dX8_lay_141 rfl ?_
                              refine e_istore (lv2 := [(4, .int (nI p)), (7, .int (dueI cnt (layL cnt (sumN cnt 8) s) (sumN cnt 8) s p)), (0, .ref 25), (1, .int (nI r9)), (2, .int (nI (sumN cnt 8))), (3, .int (nI s)), (5, .int mm), (6, .int (nI p))]) C dX8_lay_143 (by decide) rfl ?_
                              refine e_iload C dX8_lay_145 rfl ?_
                              refine e_istore (lv2 := [(5, .int (dueI cnt (layL cnt (sumN cnt 8) s) (sumN cnt 8) s p)), (4, .int (nI p)), (7, .int (dueI cnt (layL cnt (sumN cnt 8) s) (sumN cnt 8) s p)), (0, .ref 25), (1, .int (nI r9)), (2, .int (nI (sumN cnt 8))), (3, .int (nI s)), (6, .int (nI p))]) C dX8_lay_147 (by decide) rfl ?_
                              refine e_iincN (lv2 := [(6, .int (nI (p + 1))), (5, .int (dueI cnt (layL cnt (sumN cnt 8) s) (sumN cnt 8) s p)), (4, .int (nI p)), (7, .int (dueI cnt (layL cnt (sumN cnt 8) s) (sumN cnt 8) s p)), (0, .ref 25), (1, .int (nI r9)), (2, .int (nI (sumN cnt 8))), (3, .int (nI s))]) C dX8_lay_149 rfl (by decide) (nI_1 _) rfl ?_
                              refine e_goto (tgt := 82) C dX8_lay_152 (by decide) ?_
                              refine e_loc [4, 5, 6, 7, 2, 1, 0] rfl ?_
                              exact ih_lq (8 - (p + 1)) (by omega) (p + 1) rfl (some p) (dueI cnt (layL cnt (sumN cnt 8) s) (sumN cnt 8) s p) (by omega) (DuG.more hc20 hL20 (by omega) (by omega) hob hmm (by omega) (by omega) h131 (Int32.not_le.mp h138)) (⟨rfl, by omega⟩)
                  exact lq 0 none (nI 0) (by omega) rfl trivial
            exact lz 0 M1 (by omega) (fun j hj => absurd hj (by omega)) (fun _ _ => rfl) (fun j hj => by rw [hM1, gI_sI_ne _ _ (by decide)]; exact hz9 j hj) (Same.rf _ _)
          · refine e_bipush (v := (-3)) C dX8_lay_56 (by decide) ?_
            exact e_zret C dX8_lay_58 RT rfl ⟨Nat.zero_le _, Nat.zero_le _⟩ (rri ((if_pos (dec_t h4)).trans (if_neg (dec_f h53))) hIy (hsy.up (by decide)))
        · refine e_iload_n C dX8_lay_20 rfl rfl ?_
          refine e_aload_n C dX8_lay_21 rfl rfl ?_
          refine e_getR (q := 28) C dX8_lay_22 fX8_16 rfl rfl ?_
          refine e_iload_n C dX8_lay_25 rfl rfl ?_
          refine e_ialoadN C dX8_lay_26 rfl (by omega) (by omega) ?_
          refine e_topi (nI (cnt i)) (by rw [hsy.gI (by decide)]; exact (hCt i (by omega)).1) ?_
          refine e_iaddN C dX8_lay_27 ?_
          refine e_istore_n (lv2 := [(2, .int (nI (x9 + (cnt i)))), (0, .ref 25), (1, .int (nI r9)), (3, .int (nI i))]) C dX8_lay_28 rfl (by decide) rfl ?_
          refine e_aload_n C dX8_lay_29 rfl rfl ?_
          refine e_getR (q := 33) C dX8_lay_30 fX8_35 rfl rfl ?_
          refine e_iload_n C dX8_lay_33 rfl rfl ?_
          refine e_iconst (v := (nI 0)) C dX8_lay_34 (by decide) ?_
          refine e_iastoreN C dX8_lay_35 rfl (by omega) (by omega) ?_
          refine e_nm (fun M6 hM6 => ?_)
          refine e_iincN (lv2 := [(3, .int (nI (i + 1))), (2, .int (nI (x9 + (cnt i)))), (0, .ref 25), (1, .int (nI r9))]) C dX8_lay_36 rfl (by decide) (nI_1 _) rfl ?_
          refine e_goto (tgt := 14) C dX8_lay_39 (by decide) ?_
          refine e_loc [2, 3, 1, 0] rfl ?_
          exact ih_lp (8 - (i + 1)) (by omega) (i + 1) rfl M6 (x9 + cnt i) (by omega) (by rw [hx9]; rfl) (fun j hj => by rw [hM6, gI_sI]; by_cases e9 : j = i; (subst e9; rw [upd_s]); (rw [upd_n _ _ e9]; exact hz9 j (by omega))) (by rw [hM6]; exact hsy.I (by decide))
    exact lp 0 M 0 (by omega) rfl (fun j hj => absurd hj (by omega)) (Same.rf _ M)
  · refine e_bipush (v := (-2)) C dX8_lay_7 (by decide) ?_
    exact e_zret C dX8_lay_9 RT rfl ⟨Nat.zero_le _, Nat.zero_le _⟩ (rri (if_neg (fun h9 => dec_f h4 h9)) hI (Same.rf _ M))
