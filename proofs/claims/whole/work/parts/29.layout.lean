def LoF (M : Mm) (n : Nat → Nat) (k : Nat) (W : Nat → Nat → Int32) (pv : Nat → Nat) (E : Nat → Nat → Nat → Nat) (M2 : Mm) : Prop := RlOK M2 n k W pv E ∧ gI M2 25 9 = nI 1 ∧ (∀ j, j ≠ 9 → j ≠ 15 → gI M2 25 j = gI M 25 j) ∧ Same [25, 34, 35, 36, 37, 38] M M2
def RoI (M0 : Mm) (n : Nat → Nat) (E : Nat → Nat → Nat → Nat) (M2 : Mm) (a b c : Nat) : Prop := gJ M2 25 14 = lN (acc n E a b c) ∧ gI M2 25 15 = nI (acc n (fun a b c => hit1 (E a b c)) a b c) ∧ (∀ j, j < 60 → gJ M2 37 j = lN (acc n (indO E j) a b c)) ∧ (∀ j, j < 1200 → gJ M2 38 j = lN (acc n (indU E j) a b c)) ∧ (∀ x y t, x < n 0 → y < n 1 → t < n 2 → (x < a ∨ (x = a ∧ (y < b ∨ (y = b ∧ t < c)))) → gI M2 34 (400 * x + 20 * y + t) = nI (E x y t)) ∧ (∀ j, j ≠ 15 → gI M2 25 j = gI M0 25 j) ∧ Same [25, 34, 37, 38] M0 M2
theorem RoI.b {M0 : Mm} {n : Nat → Nat} {E : Nat → Nat → Nat → Nat} {M2 : Mm} {a b : Nat} (h : RoI M0 n E M2 a b (n 2)) : RoI M0 n E M2 a (b + 1) 0 := by
  obtain ⟨h1, h2, h3, h4, h5, h6⟩ := h
  refine ⟨by rw [acc_b]; exact h1, by rw [acc_b]; exact h2, fun j hj => by rw [acc_b]; exact h3 j hj, fun j hj => by rw [acc_b]; exact h4 j hj, fun x y t hx hy ht hv => h5 x y t hx hy ht (by omega), h6⟩
theorem RoI.a {M0 : Mm} {n : Nat → Nat} {E : Nat → Nat → Nat → Nat} {M2 : Mm} {a : Nat} (h : RoI M0 n E M2 a (n 1) 0) : RoI M0 n E M2 (a + 1) 0 0 := by
  obtain ⟨h1, h2, h3, h4, h5, h6⟩ := h
  refine ⟨by rw [acc_a]; exact h1, by rw [acc_a]; exact h2, fun j hj => by rw [acc_a]; exact h3 j hj, fun j hj => by rw [acc_a]; exact h4 j hj, fun x y t hx hy ht hv => h5 x y t hx hy ht (by omega), h6⟩
theorem nI_ge9 {i : Nat} (h : i < 2 ^ 31) : (0 : Int32) ≤ nI i := by
  have e0 : (0 : Int32).toInt = 0 := rfl
  rw [Int32.le_iff_toInt_le, nI_toInt h, e0]; omega
theorem RsOK.sm {ks : List Nat} {M M2 : Mm} {n P : Nat → Nat} (h : RsOK M n P) (hs : Same ks M M2) (hk : 26 ∉ ks ∧ 27 ∉ ks) : RsOK M2 n P := h.same (hs.gI hk.1) (hs.gI hk.2)
theorem Rb.mv {ks : List Nat} {M M2 : Mm} {n P : Nat → Nat} {k : Nat} {W : Nat → Nat → Int32} {pv : Nat → Nat} {L : Nat} (h : Rb M n P k W pv L) (hs : Same ks M M2) (hk : (26 ∉ ks ∧ 27 ∉ ks) ∧ 29 ∉ ks ∧ 30 ∉ ks ∧ 31 ∉ ks ∧ 32 ∉ ks) (e3 : gI M2 25 3 = gI M 25 3) (e8 : gI M2 25 8 = gI M 25 8) : Rb M2 n P k W pv L := ⟨h.1.sm hs hk.1, h.2.1.same e3 (hs.gI hk.2.1) (hs.gI hk.2.2.1) (hs.gI hk.2.2.2.1) (hs.gI hk.2.2.2.2), by rw [e8]; exact h.2.2.1, h.2.2.2⟩
theorem indO_eq (E : Nat → Nat → Nat → Nat) (j a b c : Nat) : indO E j a b c = iw (j = a) (E a b c) + iw (j = 20 + b) (E a b c) + iw (j = 40 + c) (E a b c) := by
  unfold indO; rw [show 0 * 20 + a = a by omega, show 1 * 20 + b = 20 + b by omega, show 2 * 20 + c = 40 + c by omega]
theorem indU_eq (E : Nat → Nat → Nat → Nat) (j a b c : Nat) : indU E j a b c = iw (j = 20 * a + b) (E a b c) + iw (j = 400 + 20 * a + c) (E a b c) + iw (j = 800 + 20 * b + c) (E a b c) := rfl
theorem amt_none {W : Nat → Nat → Int32} {pv : Nat → Nat} {k l : Nat} (h : fstR W k l = none) : amt W pv k l = 0 := by unfold amt; rw [h]
theorem amt_some {W : Nat → Nat → Int32} {pv : Nat → Nat} {k l i : Nat} (h : fstR W k l = some i) : amt W pv k l = pv i := by unfold amt; rw [h]
set_option maxHeartbeats 4000000 in
set_option maxRecDepth 100000 in
theorem r_layOut {w : Bool} {M : Mm} {n P : Nat → Nat} {k : Nat} {W : Nat → Nat → Int32} {pv : Nat → Nat} {L : Nat} (hB : Rb M n P k W pv L) (hF : RlF M n k W pv (EE n P k W pv L)) : CT mX8_layOut [.ref 25] (shF w) M (Qv (shF w) (LoF M n k W pv (EE n P k W pv L))) := by
  refine CT.mk (lv := [(0, .ref 25)]) rfl (by decide +kernel) (Nat.le_of_ble_eq_true rfl) ?_
  intro X C RT
  obtain ⟨hS, hT, hL, hL1, hL3⟩ := id hB
  have n0 := hS.2.1 0 (by decide)
  have n1 := hS.2.1 1 (by decide)
  have n2 := hS.2.1 2 (by decide)
  have hBM := hB
  have hk12 := hT.2.1
  rcases hF with hF | ⟨hF, hOK⟩
  · refine e_aload_n C dX8_layOut_0 rfl rfl ?_
    refine e_getI C dX8_layOut_1 fX8_96 rfl rfl ?_
    refine e_topi (nI 0) hF ?_
    refine e_if_eqN (tgt := 8) C dX8_layOut_4 (by omega) (by decide) (fun h4 => ?_) (fun h4 => by omega)
    refine e_iconst (v := (nI 0)) C dX8_layOut_8 (by decide) ?_
    refine e_istore_n (lv2 := [(1, .int (nI 0)), (0, .ref 25)]) C dX8_layOut_9 rfl (by decide) rfl ?_
    refine e_loc [1, 0] rfl ?_
    have l1 : ∀ (l : Nat) (M9 : Mm), l ≤ 512 → (∀ j, j < l → gI M9 36 j = oI (fstR W k j) ∧ gI M9 35 j = nI (amt W pv k j)) → Same [35, 36] M M9 → Wd X (0, 0) 10 [(0, .ref 25), (1, .int (nI l))] [] (shF w) M9 := by
      intro l
      induction hq_l1 : 512 - l using Nat.strongRecOn generalizing l with
      | ind k_l1 ih_l1 =>
        intro M9 hl hl9 hs9
        have hT : RtOK M9 k W pv := hBM.2.1.same (congrFun (hs9.gI (by decide)) _) (hs9.gI (by decide)) (hs9.gI (by decide)) (hs9.gI (by decide)) (hs9.gI (by decide))
        refine e_iload_n C dX8_layOut_10 rfl rfl ?_
        refine e_sipush (v := (nI 512)) C dX8_layOut_11 (by decide) ?_
        refine e_icmp_geN (tgt := 78) C dX8_layOut_14 (by omega) (by omega) (by decide) (fun h14 => ?_) (fun h14 => ?_)
        · refine e_iconst (v := (nI 0)) C dX8_layOut_78 (by decide) ?_
          refine e_istore_n (lv2 := [(1, .int (nI 0)), (0, .ref 25)]) C dX8_layOut_79 rfl (by decide) rfl ?_
          have hl9 : ∀ j, j < 512 → gI M9 36 j = oI (fstR W k j) ∧ gI M9 35 j = nI (amt W pv k j) := fun j hj => hl9 j (by omega)
          refine e_loc [1, 0] rfl ?_
          have l2 : ∀ (i : Nat) (M8 : Mm), i ≤ 60 → (∀ j, j < i → gJ M8 37 j = lN 0) → Same [37] M9 M8 → Wd X (0, 0) 80 [(0, .ref 25), (1, .int (nI i))] [] (shF w) M8 := by
            intro i
            induction hq_l2 : 60 - i using Nat.strongRecOn generalizing i with
            | ind k_l2 ih_l2 =>
              intro M8 hi hz8 hs8
              refine e_iload_n C dX8_layOut_80 rfl rfl ?_
              refine e_bipush (v := (nI 60)) C dX8_layOut_81 (by decide) ?_
              refine e_icmp_geN (tgt := 99) C dX8_layOut_83 (by omega) (by omega) (by decide) (fun h83 => ?_) (fun h83 => ?_)
              · refine e_iconst (v := (nI 0)) C dX8_layOut_99 (by decide) ?_
                refine e_istore_n (lv2 := [(1, .int (nI 0)), (0, .ref 25)]) C dX8_layOut_100 rfl (by decide) rfl ?_
                have hz8 : ∀ j, j < 60 → gJ M8 37 j = lN 0 := fun j hj => hz8 j (by omega)
                refine e_loc [1, 0] rfl ?_
                have l3 : ∀ (t : Nat) (M7 : Mm), t ≤ 1200 → (∀ j, j < t → gJ M7 38 j = lN 0) → Same [38] M8 M7 → Wd X (0, 0) 101 [(0, .ref 25), (1, .int (nI t))] [] (shF w) M7 := by
                  intro t
                  induction hq_l3 : 1200 - t using Nat.strongRecOn generalizing t with
                  | ind k_l3 ih_l3 =>
                    intro M7 ht hz7 hs7
                    refine e_iload_n C dX8_layOut_101 rfl rfl ?_
                    refine e_sipush (v := (nI 1200)) C dX8_layOut_102 (by decide) ?_
                    refine e_icmp_geN (tgt := 121) C dX8_layOut_105 (by omega) (by omega) (by decide) (fun h105 => ?_) (fun h105 => ?_)
                    · refine e_aload_n C dX8_layOut_121 rfl rfl ?_
                      refine e_lconst (v := lN 0) C dX8_layOut_122 (by decide) ?_
                      refine e_putJ C dX8_layOut_123 pX8_122 rfl rfl rfl rfl ?_
                      refine e_nm (fun M1 hM1 => ?_)
                      refine e_aload_n C dX8_layOut_126 rfl rfl ?_
                      refine e_iconst (v := (nI 0)) C dX8_layOut_127 (by decide) ?_
                      refine e_putI C dX8_layOut_128 pX8_126 rfl rfl rfl rfl ?_
                      refine e_nm (fun M2 hM2 => ?_)
                      refine e_iconst (v := (nI 0)) C dX8_layOut_131 (by decide) ?_
                      refine e_istore_n (lv2 := [(1, .int (nI 0)), (0, .ref 25)]) C dX8_layOut_132 rfl (by decide) rfl ?_
                      have hz7 : ∀ j, j < 1200 → gJ M7 38 j = lN 0 := fun j hj => hz7 j (by omega)
                      have hs6 : Same [25, 35, 36, 37, 38] M M2 := by rw [hM2, hM1]; exact ((((hs9.up (by decide)).tr (hs8.up (by decide))).tr (hs7.up (by decide))).J (by decide)).I (by decide)
                      have hv6 : ∀ j, j < 512 → gI M2 36 j = oI (fstR W k j) ∧ gI M2 35 j = nI (amt W pv k j) := fun j hj => by rw [hM2, gI_sI_ne _ _ (by decide), gI_sI_ne _ _ (by decide), hM1, gI_sJ, gI_sJ, hs7.gI (by decide), hs7.gI (by decide), hs8.gI (by decide), hs8.gI (by decide)]; exact hl9 j hj
                      have hg6 : ∀ j, j ≠ 15 → gI M2 25 j = gI M 25 j := fun j hj => by rw [hM2, gI_sI, upd_n _ _ hj, hM1, gI_sJ, hs7.gI (by decide), hs8.gI (by decide), hs9.gI (by decide)]
                      have hR0 : RoI M2 n (EE n P k W pv L) M2 0 0 0 := ⟨by rw [hM2, gJ_sI, hM1, gJ_sJ, updL_s]; rfl, by rw [hM2, gI_sI, upd_s]; rfl, fun j hj => by rw [hM2, gJ_sI, hM1, gJ_sJ_ne _ _ (by decide), hs7.gJ (by decide)]; exact hz8 j hj, fun j hj => by rw [hM2, gJ_sI, hM1, gJ_sJ_ne _ _ (by decide)]; exact hz7 j hj, fun x y t _ _ _ h => by omega, fun _ _ => rfl, Same.rf _ _⟩
                      refine e_loc [1, 0] rfl ?_
                      have l1 : ∀ (a : Nat) (x1 : Mm), a ≤ n 0 → RoI M2 n (EE n P k W pv L) x1 a 0 0 → Wd X (0, 0) 133 [(0, .ref 25), (1, .int (nI a))] [] (shF w) x1 := by
                        intro a
                        induction hq_l1 : n 0 - a using Nat.strongRecOn generalizing a with
                        | ind k_l1 ih_l1 =>
                          intro x1 ha9 hI1
                          have hB : Rb x1 n P k W pv L := hBM.mv (hs6.up (by decide) |>.tr (hI1.2.2.2.2.2.2.up (by decide)) : Same [25, 34, 35, 36, 37, 38] M x1) (by decide) (by rw [hI1.2.2.2.2.2.1 3 (by decide), hg6 3 (by decide)]) (by rw [hI1.2.2.2.2.2.1 8 (by decide), hg6 8 (by decide)])
                          have hS := hB.1
                          refine e_iload_n C dX8_layOut_133 rfl rfl ?_
                          refine e_aload_n C dX8_layOut_134 rfl rfl ?_
                          refine e_getR (q := 26) C dX8_layOut_135 fX8_7 rfl rfl ?_
                          refine e_iconst (v := (nI 0)) C dX8_layOut_138 (by decide) ?_
                          refine e_ialoadN C dX8_layOut_139 rfl (by omega) (by omega) ?_
                          refine e_topi (nI (n 0)) (hS.1 0 (by omega)) ?_
                          refine e_icmp_geN (tgt := 339) C dX8_layOut_140 (by omega) (by omega) (by decide) (fun h140 => ?_) (fun h140 => ?_)
                          · refine e_aload_n C dX8_layOut_339 rfl rfl ?_
                            refine e_iconst (v := (nI 1)) C dX8_layOut_340 (by decide) ?_
                            refine e_putI C dX8_layOut_341 pX8_96 rfl rfl (by decide) (by decide) ?_
                            refine e_nm (fun M3 hM3 => ?_)
                            have e9 : a = n 0 := by omega
                            subst e9
                            obtain ⟨i1, i2, i3, i4, i5, i6, i7⟩ := hI1
                            simp only [acc_n] at i1 i2 i3 i4
                            have hsF : Same [25, 34, 35, 36, 37, 38] M M3 := by rw [hM3]; exact ((hs6.up (by decide)).tr (i7.up (by decide))).I (by decide)
                            have hlF : RlOK M3 n k W pv (EE n P k W pv L) := ⟨fun l hl => by rw [hM3, gI_sI_ne _ _ (by decide), gI_sI_ne _ _ (by decide), i7.gI (by decide), i7.gI (by decide)]; exact hv6 l hl, fun x hx y hy t ht => by rw [hM3, gI_sI_ne _ _ (by decide)]; exact i5 x y t hx hy ht (Or.inl hx), by rw [hM3, gJ_sI]; exact i1, by rw [hM3, gI_sI, upd_n _ _ (by decide)]; exact i2, by rw [hM3, gJ_sI]; exact i3, by rw [hM3, gJ_sI]; exact i4⟩
                            exact e_vret C dX8_layOut_344 RT ⟨Nat.zero_le _, Nat.zero_le _⟩ (qv_ ⟨hlF, by rw [hM3, gI_sI, upd_s], fun j h1 h2 => by rw [hM3, gI_sI, upd_n _ _ h1, i6 j h2, hg6 j h2], hsF⟩)
                          · refine e_iconst (v := (nI 0)) C dX8_layOut_143 (by decide) ?_
                            refine e_istore_n (lv2 := [(2, .int (nI 0)), (0, .ref 25), (1, .int (nI a))]) C dX8_layOut_144 rfl (by decide) rfl ?_
                            refine e_loc [1, 2, 0] rfl ?_
                            have l2 : ∀ (b : Nat) (x2 : Mm), b ≤ n 1 → RoI M2 n (EE n P k W pv L) x2 a b 0 → Wd X (0, 0) 145 [(0, .ref 25), (1, .int (nI a)), (2, .int (nI b))] [] (shF w) x2 := by
                              intro b
                              induction hq_l2 : n 1 - b using Nat.strongRecOn generalizing b with
                              | ind k_l2 ih_l2 =>
                                intro x2 hb9 hI2
                                have hB : Rb x2 n P k W pv L := hBM.mv (hs6.up (by decide) |>.tr (hI2.2.2.2.2.2.2.up (by decide)) : Same [25, 34, 35, 36, 37, 38] M x2) (by decide) (by rw [hI2.2.2.2.2.2.1 3 (by decide), hg6 3 (by decide)]) (by rw [hI2.2.2.2.2.2.1 8 (by decide), hg6 8 (by decide)])
                                have hS := hB.1
                                refine e_iload_n C dX8_layOut_145 rfl rfl ?_
                                refine e_aload_n C dX8_layOut_146 rfl rfl ?_
                                refine e_getR (q := 26) C dX8_layOut_147 fX8_7 rfl rfl ?_
                                refine e_iconst (v := (nI 1)) C dX8_layOut_150 (by decide) ?_
                                refine e_ialoadN C dX8_layOut_151 rfl (by omega) (by omega) ?_
                                refine e_topi (nI (n 1)) (hS.1 1 (by omega)) ?_
                                refine e_icmp_geN (tgt := 333) C dX8_layOut_152 (by omega) (by omega) (by decide) (fun h152 => ?_) (fun h152 => ?_)
                                · refine e_iincN (lv2 := [(1, .int (nI (a + 1))), (0, .ref 25), (2, .int (nI b))]) C dX8_layOut_333 rfl (by decide) (nI_1 _) rfl ?_
                                  refine e_goto (tgt := 133) C dX8_layOut_336 (by decide) ?_
                                  refine e_loc [1, 0] rfl ?_
                                  have hI4 := hI2
                                  rw [show b = n 1 by omega] at hI4
                                  exact ih_l1 (n 0 - (a + 1)) (by omega) (a + 1) rfl x2 (by omega) hI4.a
                                · refine e_iconst (v := (nI 0)) C dX8_layOut_155 (by decide) ?_
                                  refine e_istore_n (lv2 := [(3, .int (nI 0)), (0, .ref 25), (1, .int (nI a)), (2, .int (nI b))]) C dX8_layOut_156 rfl (by decide) rfl ?_
                                  refine e_loc [1, 2, 3, 0] rfl ?_
                                  have l3 : ∀ (c : Nat) (x3 : Mm), c ≤ n 2 → RoI M2 n (EE n P k W pv L) x3 a b c → Wd X (0, 0) 157 [(0, .ref 25), (1, .int (nI a)), (2, .int (nI b)), (3, .int (nI c))] [] (shF w) x3 := by
                                    intro c
                                    induction hq_l3 : n 2 - c using Nat.strongRecOn generalizing c with
                                    | ind k_l3 ih_l3 =>
                                      intro x3 hc9 hI3
                                      have hB : Rb x3 n P k W pv L := hBM.mv (hs6.up (by decide) |>.tr (hI3.2.2.2.2.2.2.up (by decide)) : Same [25, 34, 35, 36, 37, 38] M x3) (by decide) (by rw [hI3.2.2.2.2.2.1 3 (by decide), hg6 3 (by decide)]) (by rw [hI3.2.2.2.2.2.1 8 (by decide), hg6 8 (by decide)])
                                      have hS := hB.1
                                      have hv : ∀ l, l < 512 → gI x3 35 l = nI (amt W pv k l) := fun l hl => by rw [hI3.2.2.2.2.2.2.gI (by decide)]; exact (hv6 l hl).2
                                      refine e_iload_n C dX8_layOut_157 rfl rfl ?_
                                      refine e_aload_n C dX8_layOut_158 rfl rfl ?_
                                      refine e_getR (q := 26) C dX8_layOut_159 fX8_7 rfl rfl ?_
                                      refine e_iconst (v := (nI 2)) C dX8_layOut_162 (by decide) ?_
                                      refine e_ialoadN C dX8_layOut_163 rfl (by omega) (by omega) ?_
                                      refine e_topi (nI (n 2)) (hS.1 2 (by omega)) ?_
                                      refine e_icmp_geN (tgt := 327) C dX8_layOut_164 (by omega) (by omega) (by decide) (fun h164 => ?_) (fun h164 => ?_)
                                      · refine e_iincN (lv2 := [(2, .int (nI (b + 1))), (0, .ref 25), (1, .int (nI a)), (3, .int (nI c))]) C dX8_layOut_327 rfl (by decide) (nI_1 _) rfl ?_
                                        refine e_goto (tgt := 145) C dX8_layOut_330 (by decide) ?_
                                        refine e_loc [1, 2, 0] rfl ?_
                                        have hI4 := hI3
                                        rw [show c = n 2 by omega] at hI4
                                        exact ih_l2 (n 1 - (b + 1)) (by omega) (b + 1) rfl x3 (by omega) hI4.b
                                      · refine e_aload_n C dX8_layOut_167 rfl rfl ?_
                                        refine e_iload_n C dX8_layOut_168 rfl rfl ?_
                                        refine e_iload_n C dX8_layOut_169 rfl rfl ?_
                                        refine e_iload_n C dX8_layOut_170 rfl rfl ?_
                                        have he4 := hB.le a b c
                                        refine e_callVi C dX8_layOut_171 [.int (nI a), .int (nI b), .int (nI c)] (r_payOf hB hv a b c (by omega) (by omega) (by omega)) okX8_payOf lX8_129 rfl rfl rfl ⟨rfl, rfl⟩ ⟨Nat.le_of_ble_eq_true rfl, Nat.le_of_ble_eq_true rfl⟩ (Nat.le_of_ble_eq_true rfl) ⟨Nat.zero_le _, Nat.zero_le _⟩ ?_
                                        refine e_istore (lv2 := [(4, .int (nI (EE n P k W pv L a b c))), (0, .ref 25), (1, .int (nI a)), (2, .int (nI b)), (3, .int (nI c))]) C dX8_layOut_174 (by decide) rfl ?_
                                        refine e_aload_n C dX8_layOut_176 rfl rfl ?_
                                        refine e_getR (q := 34) C dX8_layOut_177 fX8_38 rfl rfl ?_
                                        refine e_iload_n C dX8_layOut_180 rfl rfl ?_
                                        refine e_iload_n C dX8_layOut_181 rfl rfl ?_
                                        refine e_iload_n C dX8_layOut_182 rfl rfl ?_
                                        refine e_callSi C dX8_layOut_183 [.int (nI a), .int (nI b), .int (nI c)] (r_place a b c) okX8_place lX8_132 rfl ⟨rfl, rfl⟩ ⟨Nat.le_of_ble_eq_true rfl, Nat.le_of_ble_eq_true rfl⟩ (Nat.le_of_ble_eq_true rfl) ⟨Nat.zero_le _, Nat.zero_le _⟩ ?_
                                        refine e_iload C dX8_layOut_186 rfl ?_
                                        refine e_iastoreN C dX8_layOut_188 rfl (by omega) (by omega) ?_
                                        refine e_nm (fun M5 hM5 => ?_)
                                        refine e_aload_n C dX8_layOut_189 rfl rfl ?_
                                        refine e_dup C dX8_layOut_190 rfl ?_
                                        refine e_getJ C dX8_layOut_191 fX8_122 rfl rfl ?_
                                        refine e_topl (lN (acc n (EE n P k W pv L) a b c)) (by rw [hM5, gJ_sI]; exact hI3.1) ?_
                                        refine e_iload C dX8_layOut_194 rfl ?_
                                        refine e_i2lN C dX8_layOut_196 (by omega) ?_
                                        refine e_laddN C dX8_layOut_197 ?_
                                        refine e_putJ C dX8_layOut_198 pX8_122 rfl rfl rfl rfl ?_
                                        refine e_nm (fun M6 hM6 => ?_)
                                        refine e_aload_n C dX8_layOut_201 rfl rfl ?_
                                        refine e_dup C dX8_layOut_202 rfl ?_
                                        refine e_getI C dX8_layOut_203 fX8_126 rfl rfl ?_
                                        refine e_topi (nI (acc n (fun a b c => hit1 (EE n P k W pv L a b c)) a b c)) (by rw [hM6, gI_sJ, hM5, gI_sI_ne _ _ (by decide)]; exact hI3.2.1) ?_
                                        refine e_iload C dX8_layOut_206 rfl ?_
                                        refine e_if_leN (tgt := 215) C dX8_layOut_208 (by omega) (by decide) (fun h208 => ?_) (fun h208 => ?_)
                                        · refine e_iconst (v := (nI 0)) C dX8_layOut_215 (by decide) ?_
                                          refine e_iaddN C dX8_layOut_216 ?_
                                          refine e_putI C dX8_layOut_217 pX8_126 rfl rfl rfl rfl ?_
                                          refine e_nm (fun M7 hM7 => ?_)
                                          have hu0 : ∀ j, j < 60 → gJ M7 37 j = lN (acc n (indO (EE n P k W pv L) j) a b c) := by rw [hM7, gJ_sI, hM6, gJ_sJ_ne _ _ (by decide), hM5, gJ_sI]; exact hI3.2.2.1
                                          have ht0 : ∀ j, j < 1200 → gJ M7 38 j = lN (acc n (indU (EE n P k W pv L) j) a b c) := by rw [hM7, gJ_sI, hM6, gJ_sJ_ne _ _ (by decide), hM5, gJ_sI]; exact hI3.2.2.2.1
                                          have s0 : Same [25, 34, 37, 38] M2 M7 := by rw [hM7, hM6, hM5]; exact ((hI3.2.2.2.2.2.2.I (by decide)).J (by decide)).I (by decide)
                                          have q0 : ∀ j, gI M7 j = gI M7 j := fun _ => rfl
                                          have r0 : gJ M7 25 = gJ M7 25 := rfl
                                          refine e_aload_n C dX8_layOut_220 rfl rfl ?_
                                          refine e_getR (q := 37) C dX8_layOut_221 fX8_47 rfl rfl ?_
                                          refine e_iload_n C dX8_layOut_224 rfl rfl ?_
                                          refine e_dup2 C dX8_layOut_225 rfl rfl ?_
                                          refine e_laloadN C dX8_layOut_226 rfl (by omega) (by omega) ?_
                                          refine e_topl (lN (acc n (indO (EE n P k W pv L) a) a b c)) (hu0 a (by omega)) ?_
                                          refine e_iload C dX8_layOut_227 rfl ?_
                                          refine e_i2lN C dX8_layOut_229 (by omega) ?_
                                          refine e_laddN C dX8_layOut_230 ?_
                                          refine e_lastoreN C dX8_layOut_231 rfl (by omega) (by omega) ?_
                                          refine e_nm (fun M8 hM8 => ?_)
                                          have hu1 : ∀ j, j < 60 → gJ M8 37 j = lN (acc n (indO (EE n P k W pv L) j) a b c + iw (j = a) (EE n P k W pv L a b c)) := by rw [hM8, gJ_sJ]; exact add1L (u := fun j => acc n (indO (EE n P k W pv L) j) a b c) hu0 (by omega)
                                          have ht1 : ∀ j, j < 1200 → gJ M8 38 j = lN (acc n (indU (EE n P k W pv L) j) a b c) := by rw [hM8, gJ_sJ_ne _ _ (by decide)]; exact ht0
                                          have s1 : Same [25, 34, 37, 38] M2 M8 := by rw [hM8]; exact s0.J (by decide)
                                          have q1 : ∀ j, gI M8 j = gI M7 j := fun j => by rw [hM8, gI_sJ, q0]
                                          have r1 : gJ M8 25 = gJ M7 25 := by rw [hM8, gJ_sJ_ne _ _ (by decide), r0]
                                          refine e_aload_n C dX8_layOut_232 rfl rfl ?_
                                          refine e_getR (q := 37) C dX8_layOut_233 fX8_47 rfl rfl ?_
                                          refine e_bipush (v := (nI 20)) C dX8_layOut_236 (by decide) ?_
                                          refine e_iload_n C dX8_layOut_238 rfl rfl ?_
                                          refine e_iaddN C dX8_layOut_239 ?_
                                          refine e_dup2 C dX8_layOut_240 rfl rfl ?_
                                          refine e_laloadN C dX8_layOut_241 rfl (by omega) (by omega) ?_
                                          refine e_topl (lN (acc n (indO (EE n P k W pv L) (20 + b)) a b c + iw ((20 + b) = a) (EE n P k W pv L a b c))) (hu1 (20 + b) (by omega)) ?_
                                          refine e_iload C dX8_layOut_242 rfl ?_
                                          refine e_i2lN C dX8_layOut_244 (by omega) ?_
                                          refine e_laddN C dX8_layOut_245 ?_
                                          refine e_lastoreN C dX8_layOut_246 rfl (by omega) (by omega) ?_
                                          refine e_nm (fun M9 hM9 => ?_)
                                          have hu2 : ∀ j, j < 60 → gJ M9 37 j = lN (acc n (indO (EE n P k W pv L) j) a b c + iw (j = a) (EE n P k W pv L a b c) + iw (j = 20 + b) (EE n P k W pv L a b c)) := by rw [hM9, gJ_sJ]; exact add1L (u := fun j => acc n (indO (EE n P k W pv L) j) a b c + iw (j = a) (EE n P k W pv L a b c)) hu1 (by omega)
                                          have ht2 : ∀ j, j < 1200 → gJ M9 38 j = lN (acc n (indU (EE n P k W pv L) j) a b c) := by rw [hM9, gJ_sJ_ne _ _ (by decide)]; exact ht1
                                          have s2 : Same [25, 34, 37, 38] M2 M9 := by rw [hM9]; exact s1.J (by decide)
                                          have q2 : ∀ j, gI M9 j = gI M7 j := fun j => by rw [hM9, gI_sJ, q1]
                                          have r2 : gJ M9 25 = gJ M7 25 := by rw [hM9, gJ_sJ_ne _ _ (by decide), r1]
                                          refine e_aload_n C dX8_layOut_247 rfl rfl ?_
                                          refine e_getR (q := 37) C dX8_layOut_248 fX8_47 rfl rfl ?_
                                          refine e_bipush (v := (nI 40)) C dX8_layOut_251 (by decide) ?_
                                          refine e_iload_n C dX8_layOut_253 rfl rfl ?_
                                          refine e_iaddN C dX8_layOut_254 ?_
                                          refine e_dup2 C dX8_layOut_255 rfl rfl ?_
                                          refine e_laloadN C dX8_layOut_256 rfl (by omega) (by omega) ?_
                                          refine e_topl (lN (acc n (indO (EE n P k W pv L) (40 + c)) a b c + iw ((40 + c) = a) (EE n P k W pv L a b c) + iw ((40 + c) = 20 + b) (EE n P k W pv L a b c))) (hu2 (40 + c) (by omega)) ?_
                                          refine e_iload C dX8_layOut_257 rfl ?_
                                          refine e_i2lN C dX8_layOut_259 (by omega) ?_
                                          refine e_laddN C dX8_layOut_260 ?_
                                          refine e_lastoreN C dX8_layOut_261 rfl (by omega) (by omega) ?_
                                          refine e_nm (fun M10 hM10 => ?_)
                                          have hu3 : ∀ j, j < 60 → gJ M10 37 j = lN (acc n (indO (EE n P k W pv L) j) a b c + iw (j = a) (EE n P k W pv L a b c) + iw (j = 20 + b) (EE n P k W pv L a b c) + iw (j = 40 + c) (EE n P k W pv L a b c)) := by rw [hM10, gJ_sJ]; exact add1L (u := fun j => acc n (indO (EE n P k W pv L) j) a b c + iw (j = a) (EE n P k W pv L a b c) + iw (j = 20 + b) (EE n P k W pv L a b c)) hu2 (by omega)
                                          have ht3 : ∀ j, j < 1200 → gJ M10 38 j = lN (acc n (indU (EE n P k W pv L) j) a b c) := by rw [hM10, gJ_sJ_ne _ _ (by decide)]; exact ht2
                                          have s3 : Same [25, 34, 37, 38] M2 M10 := by rw [hM10]; exact s2.J (by decide)
                                          have q3 : ∀ j, gI M10 j = gI M7 j := fun j => by rw [hM10, gI_sJ, q2]
                                          have r3 : gJ M10 25 = gJ M7 25 := by rw [hM10, gJ_sJ_ne _ _ (by decide), r2]
                                          refine e_aload_n C dX8_layOut_262 rfl rfl ?_
                                          refine e_getR (q := 38) C dX8_layOut_263 fX8_51 rfl rfl ?_
                                          refine e_bipush (v := (nI 20)) C dX8_layOut_266 (by decide) ?_
                                          refine e_iload_n C dX8_layOut_268 rfl rfl ?_
                                          refine e_imulN C dX8_layOut_269 ?_
                                          refine e_iload_n C dX8_layOut_270 rfl rfl ?_
                                          refine e_iaddN C dX8_layOut_271 ?_
                                          refine e_dup2 C dX8_layOut_272 rfl rfl ?_
                                          refine e_laloadN C dX8_layOut_273 rfl (by omega) (by omega) ?_
                                          refine e_topl (lN (acc n (indU (EE n P k W pv L) (20 * a + b)) a b c)) (ht3 (20 * a + b) (by omega)) ?_
                                          refine e_iload C dX8_layOut_274 rfl ?_
                                          refine e_i2lN C dX8_layOut_276 (by omega) ?_
                                          refine e_laddN C dX8_layOut_277 ?_
                                          refine e_lastoreN C dX8_layOut_278 rfl (by omega) (by omega) ?_
                                          refine e_nm (fun M11 hM11 => ?_)
                                          have ht4 : ∀ j, j < 1200 → gJ M11 38 j = lN (acc n (indU (EE n P k W pv L) j) a b c + iw (j = 20 * a + b) (EE n P k W pv L a b c)) := by rw [hM11, gJ_sJ]; exact add1L (u := fun j => acc n (indU (EE n P k W pv L) j) a b c) ht3 (by omega)
                                          have hu4 : ∀ j, j < 60 → gJ M11 37 j = lN (acc n (indO (EE n P k W pv L) j) a b c + iw (j = a) (EE n P k W pv L a b c) + iw (j = 20 + b) (EE n P k W pv L a b c) + iw (j = 40 + c) (EE n P k W pv L a b c)) := by rw [hM11, gJ_sJ_ne _ _ (by decide)]; exact hu3
                                          have s4 : Same [25, 34, 37, 38] M2 M11 := by rw [hM11]; exact s3.J (by decide)
                                          have q4 : ∀ j, gI M11 j = gI M7 j := fun j => by rw [hM11, gI_sJ, q3]
                                          have r4 : gJ M11 25 = gJ M7 25 := by rw [hM11, gJ_sJ_ne _ _ (by decide), r3]
                                          refine e_aload_n C dX8_layOut_279 rfl rfl ?_
                                          refine e_getR (q := 38) C dX8_layOut_280 fX8_51 rfl rfl ?_
                                          refine e_sipush (v := (nI 400)) C dX8_layOut_283 (by decide) ?_
                                          refine e_bipush (v := (nI 20)) C dX8_layOut_286 (by decide) ?_
                                          refine e_iload_n C dX8_layOut_288 rfl rfl ?_
                                          refine e_imulN C dX8_layOut_289 ?_
                                          refine e_iaddN C dX8_layOut_290 ?_
                                          refine e_iload_n C dX8_layOut_291 rfl rfl ?_
                                          refine e_iaddN C dX8_layOut_292 ?_
                                          refine e_dup2 C dX8_layOut_293 rfl rfl ?_
                                          refine e_laloadN C dX8_layOut_294 rfl (by omega) (by omega) ?_
                                          refine e_topl (lN (acc n (indU (EE n P k W pv L) (400 + (20 * a) + c)) a b c + iw ((400 + (20 * a) + c) = 20 * a + b) (EE n P k W pv L a b c))) (ht4 (400 + (20 * a) + c) (by omega)) ?_
                                          refine e_iload C dX8_layOut_295 rfl ?_
                                          refine e_i2lN C dX8_layOut_297 (by omega) ?_
                                          refine e_laddN C dX8_layOut_298 ?_
                                          refine e_lastoreN C dX8_layOut_299 rfl (by omega) (by omega) ?_
                                          refine e_nm (fun M12 hM12 => ?_)
                                          have ht5 : ∀ j, j < 1200 → gJ M12 38 j = lN (acc n (indU (EE n P k W pv L) j) a b c + iw (j = 20 * a + b) (EE n P k W pv L a b c) + iw (j = 400 + 20 * a + c) (EE n P k W pv L a b c)) := by rw [hM12, gJ_sJ]; exact add1L (u := fun j => acc n (indU (EE n P k W pv L) j) a b c + iw (j = 20 * a + b) (EE n P k W pv L a b c)) ht4 (by omega)
                                          have hu5 : ∀ j, j < 60 → gJ M12 37 j = lN (acc n (indO (EE n P k W pv L) j) a b c + iw (j = a) (EE n P k W pv L a b c) + iw (j = 20 + b) (EE n P k W pv L a b c) + iw (j = 40 + c) (EE n P k W pv L a b c)) := by rw [hM12, gJ_sJ_ne _ _ (by decide)]; exact hu4
                                          have s5 : Same [25, 34, 37, 38] M2 M12 := by rw [hM12]; exact s4.J (by decide)
                                          have q5 : ∀ j, gI M12 j = gI M7 j := fun j => by rw [hM12, gI_sJ, q4]
                                          have r5 : gJ M12 25 = gJ M7 25 := by rw [hM12, gJ_sJ_ne _ _ (by decide), r4]
                                          refine e_aload_n C dX8_layOut_300 rfl rfl ?_
                                          refine e_getR (q := 38) C dX8_layOut_301 fX8_51 rfl rfl ?_
                                          refine e_sipush (v := (nI 800)) C dX8_layOut_304 (by decide) ?_
                                          refine e_bipush (v := (nI 20)) C dX8_layOut_307 (by decide) ?_
                                          refine e_iload_n C dX8_layOut_309 rfl rfl ?_
                                          refine e_imulN C dX8_layOut_310 ?_
                                          refine e_iaddN C dX8_layOut_311 ?_
                                          refine e_iload_n C dX8_layOut_312 rfl rfl ?_
                                          refine e_iaddN C dX8_layOut_313 ?_
                                          refine e_dup2 C dX8_layOut_314 rfl rfl ?_
                                          refine e_laloadN C dX8_layOut_315 rfl (by omega) (by omega) ?_
                                          refine e_topl (lN (acc n (indU (EE n P k W pv L) (800 + (20 * b) + c)) a b c + iw ((800 + (20 * b) + c) = 20 * a + b) (EE n P k W pv L a b c) + iw ((800 + (20 * b) + c) = 400 + 20 * a + c) (EE n P k W pv L a b c))) (ht5 (800 + (20 * b) + c) (by omega)) ?_
                                          refine e_iload C dX8_layOut_316 rfl ?_
                                          refine e_i2lN C dX8_layOut_318 (by omega) ?_
                                          refine e_laddN C dX8_layOut_319 ?_
                                          refine e_lastoreN C dX8_layOut_320 rfl (by omega) (by omega) ?_
                                          refine e_nm (fun M13 hM13 => ?_)
                                          have ht6 : ∀ j, j < 1200 → gJ M13 38 j = lN (acc n (indU (EE n P k W pv L) j) a b c + iw (j = 20 * a + b) (EE n P k W pv L a b c) + iw (j = 400 + 20 * a + c) (EE n P k W pv L a b c) + iw (j = 800 + 20 * b + c) (EE n P k W pv L a b c)) := by rw [hM13, gJ_sJ]; exact add1L (u := fun j => acc n (indU (EE n P k W pv L) j) a b c + iw (j = 20 * a + b) (EE n P k W pv L a b c) + iw (j = 400 + 20 * a + c) (EE n P k W pv L a b c)) ht5 (by omega)
                                          have hu6 : ∀ j, j < 60 → gJ M13 37 j = lN (acc n (indO (EE n P k W pv L) j) a b c + iw (j = a) (EE n P k W pv L a b c) + iw (j = 20 + b) (EE n P k W pv L a b c) + iw (j = 40 + c) (EE n P k W pv L a b c)) := by rw [hM13, gJ_sJ_ne _ _ (by decide)]; exact hu5
                                          have s6 : Same [25, 34, 37, 38] M2 M13 := by rw [hM13]; exact s5.J (by decide)
                                          have q6 : ∀ j, gI M13 j = gI M7 j := fun j => by rw [hM13, gI_sJ, q5]
                                          have r6 : gJ M13 25 = gJ M7 25 := by rw [hM13, gJ_sJ_ne _ _ (by decide), r5]
                                          refine e_iincN (lv2 := [(3, .int (nI (c + 1))), (4, .int (nI (EE n P k W pv L a b c))), (0, .ref 25), (1, .int (nI a)), (2, .int (nI b))]) C dX8_layOut_321 rfl (by decide) (nI_1 _) rfl ?_
                                          refine e_goto (tgt := 157) C dX8_layOut_324 (by decide) ?_
                                          have hI5 : RoI M2 n (EE n P k W pv L) M13 a b (c + 1) := by
                                            refine ⟨by rw [r6, acc_c, hM7, gJ_sI, hM6, gJ_sJ, updL_s], by rw [q6, acc_c, hM7, gI_sI, upd_s]; unfold hit1; rw [if_pos (show EE n P k W pv L a b c = 0 by omega)], fun j hj => by rw [hu6 j hj, acc_c]; rw [indO_eq]; congr 1; omega, fun j hj => by rw [ht6 j hj, acc_c]; rw [indU_eq]; congr 1; omega, fun x y t hx hy ht hv => ?_, fun j hj => ?_, s6⟩
                                            · rw [q6, hM7, gI_sI_ne _ _ (by decide), hM6, gI_sJ, hM5, gI_sI]
                                              by_cases e9 : x = a ∧ y = b ∧ t = c
                                              · obtain ⟨rfl, rfl, rfl⟩ := e9; rw [upd_s]
                                              · rw [upd_n _ _ (by omega)]; exact hI3.2.2.2.2.1 x y t hx hy ht (by omega)
                                            · rw [q6, hM7, gI_sI, upd_n _ _ hj, hM6, gI_sJ, hM5, gI_sI_ne _ _ (by decide)]; exact hI3.2.2.2.2.2.1 j hj
                                          refine e_loc [2, 3, 4, 0] rfl ?_
                                          exact ih_l3 (n 2 - (c + 1)) (by omega) (c + 1) rfl M13 (by omega) hI5
                                        · refine e_iconst (v := (nI 1)) C dX8_layOut_211 (by decide) ?_
                                          refine e_goto (tgt := 216) C dX8_layOut_212 (by decide) ?_
                                          refine e_iaddN C dX8_layOut_216 ?_
                                          refine e_putI C dX8_layOut_217 pX8_126 rfl rfl rfl rfl ?_
                                          refine e_nm (fun M14 hM14 => ?_)
                                          have hu0 : ∀ j, j < 60 → gJ M14 37 j = lN (acc n (indO (EE n P k W pv L) j) a b c) := by rw [hM14, gJ_sI, hM6, gJ_sJ_ne _ _ (by decide), hM5, gJ_sI]; exact hI3.2.2.1
                                          have ht0 : ∀ j, j < 1200 → gJ M14 38 j = lN (acc n (indU (EE n P k W pv L) j) a b c) := by rw [hM14, gJ_sI, hM6, gJ_sJ_ne _ _ (by decide), hM5, gJ_sI]; exact hI3.2.2.2.1
                                          have s0 : Same [25, 34, 37, 38] M2 M14 := by rw [hM14, hM6, hM5]; exact ((hI3.2.2.2.2.2.2.I (by decide)).J (by decide)).I (by decide)
                                          have q0 : ∀ j, gI M14 j = gI M14 j := fun _ => rfl
                                          have r0 : gJ M14 25 = gJ M14 25 := rfl
                                          refine e_aload_n C dX8_layOut_220 rfl rfl ?_
                                          refine e_getR (q := 37) C dX8_layOut_221 fX8_47 rfl rfl ?_
                                          refine e_iload_n C dX8_layOut_224 rfl rfl ?_
                                          refine e_dup2 C dX8_layOut_225 rfl rfl ?_
                                          refine e_laloadN C dX8_layOut_226 rfl (by omega) (by omega) ?_
                                          refine e_topl (lN (acc n (indO (EE n P k W pv L) a) a b c)) (hu0 a (by omega)) ?_
                                          refine e_iload C dX8_layOut_227 rfl ?_
                                          refine e_i2lN C dX8_layOut_229 (by omega) ?_
                                          refine e_laddN C dX8_layOut_230 ?_
                                          refine e_lastoreN C dX8_layOut_231 rfl (by omega) (by omega) ?_
                                          refine e_nm (fun M15 hM15 => ?_)
                                          have hu1 : ∀ j, j < 60 → gJ M15 37 j = lN (acc n (indO (EE n P k W pv L) j) a b c + iw (j = a) (EE n P k W pv L a b c)) := by rw [hM15, gJ_sJ]; exact add1L (u := fun j => acc n (indO (EE n P k W pv L) j) a b c) hu0 (by omega)
                                          have ht1 : ∀ j, j < 1200 → gJ M15 38 j = lN (acc n (indU (EE n P k W pv L) j) a b c) := by rw [hM15, gJ_sJ_ne _ _ (by decide)]; exact ht0
                                          have s1 : Same [25, 34, 37, 38] M2 M15 := by rw [hM15]; exact s0.J (by decide)
                                          have q1 : ∀ j, gI M15 j = gI M14 j := fun j => by rw [hM15, gI_sJ, q0]
                                          have r1 : gJ M15 25 = gJ M14 25 := by rw [hM15, gJ_sJ_ne _ _ (by decide), r0]
                                          refine e_aload_n C dX8_layOut_232 rfl rfl ?_
                                          refine e_getR (q := 37) C dX8_layOut_233 fX8_47 rfl rfl ?_
                                          refine e_bipush (v := (nI 20)) C dX8_layOut_236 (by decide) ?_
                                          refine e_iload_n C dX8_layOut_238 rfl rfl ?_
                                          refine e_iaddN C dX8_layOut_239 ?_
                                          refine e_dup2 C dX8_layOut_240 rfl rfl ?_
                                          refine e_laloadN C dX8_layOut_241 rfl (by omega) (by omega) ?_
                                          refine e_topl (lN (acc n (indO (EE n P k W pv L) (20 + b)) a b c + iw ((20 + b) = a) (EE n P k W pv L a b c))) (hu1 (20 + b) (by omega)) ?_
                                          refine e_iload C dX8_layOut_242 rfl ?_
                                          refine e_i2lN C dX8_layOut_244 (by omega) ?_
                                          refine e_laddN C dX8_layOut_245 ?_
                                          refine e_lastoreN C dX8_layOut_246 rfl (by omega) (by omega) ?_
                                          refine e_nm (fun M16 hM16 => ?_)
                                          have hu2 : ∀ j, j < 60 → gJ M16 37 j = lN (acc n (indO (EE n P k W pv L) j) a b c + iw (j = a) (EE n P k W pv L a b c) + iw (j = 20 + b) (EE n P k W pv L a b c)) := by rw [hM16, gJ_sJ]; exact add1L (u := fun j => acc n (indO (EE n P k W pv L) j) a b c + iw (j = a) (EE n P k W pv L a b c)) hu1 (by omega)
                                          have ht2 : ∀ j, j < 1200 → gJ M16 38 j = lN (acc n (indU (EE n P k W pv L) j) a b c) := by rw [hM16, gJ_sJ_ne _ _ (by decide)]; exact ht1
                                          have s2 : Same [25, 34, 37, 38] M2 M16 := by rw [hM16]; exact s1.J (by decide)
                                          have q2 : ∀ j, gI M16 j = gI M14 j := fun j => by rw [hM16, gI_sJ, q1]
                                          have r2 : gJ M16 25 = gJ M14 25 := by rw [hM16, gJ_sJ_ne _ _ (by decide), r1]
                                          refine e_aload_n C dX8_layOut_247 rfl rfl ?_
                                          refine e_getR (q := 37) C dX8_layOut_248 fX8_47 rfl rfl ?_
                                          refine e_bipush (v := (nI 40)) C dX8_layOut_251 (by decide) ?_
                                          refine e_iload_n C dX8_layOut_253 rfl rfl ?_
                                          refine e_iaddN C dX8_layOut_254 ?_
                                          refine e_dup2 C dX8_layOut_255 rfl rfl ?_
                                          refine e_laloadN C dX8_layOut_256 rfl (by omega) (by omega) ?_
                                          refine e_topl (lN (acc n (indO (EE n P k W pv L) (40 + c)) a b c + iw ((40 + c) = a) (EE n P k W pv L a b c) + iw ((40 + c) = 20 + b) (EE n P k W pv L a b c))) (hu2 (40 + c) (by omega)) ?_
                                          refine e_iload C dX8_layOut_257 rfl ?_
                                          refine e_i2lN C dX8_layOut_259 (by omega) ?_
                                          refine e_laddN C dX8_layOut_260 ?_
                                          refine e_lastoreN C dX8_layOut_261 rfl (by omega) (by omega) ?_
                                          refine e_nm (fun M17 hM17 => ?_)
                                          have hu3 : ∀ j, j < 60 → gJ M17 37 j = lN (acc n (indO (EE n P k W pv L) j) a b c + iw (j = a) (EE n P k W pv L a b c) + iw (j = 20 + b) (EE n P k W pv L a b c) + iw (j = 40 + c) (EE n P k W pv L a b c)) := by rw [hM17, gJ_sJ]; exact add1L (u := fun j => acc n (indO (EE n P k W pv L) j) a b c + iw (j = a) (EE n P k W pv L a b c) + iw (j = 20 + b) (EE n P k W pv L a b c)) hu2 (by omega)
                                          have ht3 : ∀ j, j < 1200 → gJ M17 38 j = lN (acc n (indU (EE n P k W pv L) j) a b c) := by rw [hM17, gJ_sJ_ne _ _ (by decide)]; exact ht2
                                          have s3 : Same [25, 34, 37, 38] M2 M17 := by rw [hM17]; exact s2.J (by decide)
                                          have q3 : ∀ j, gI M17 j = gI M14 j := fun j => by rw [hM17, gI_sJ, q2]
                                          have r3 : gJ M17 25 = gJ M14 25 := by rw [hM17, gJ_sJ_ne _ _ (by decide), r2]
                                          refine e_aload_n C dX8_layOut_262 rfl rfl ?_
                                          refine e_getR (q := 38) C dX8_layOut_263 fX8_51 rfl rfl ?_
                                          refine e_bipush (v := (nI 20)) C dX8_layOut_266 (by decide) ?_
                                          refine e_iload_n C dX8_layOut_268 rfl rfl ?_
                                          refine e_imulN C dX8_layOut_269 ?_
                                          refine e_iload_n C dX8_layOut_270 rfl rfl ?_
                                          refine e_iaddN C dX8_layOut_271 ?_
                                          refine e_dup2 C dX8_layOut_272 rfl rfl ?_
                                          refine e_laloadN C dX8_layOut_273 rfl (by omega) (by omega) ?_
                                          refine e_topl (lN (acc n (indU (EE n P k W pv L) (20 * a + b)) a b c)) (ht3 (20 * a + b) (by omega)) ?_
                                          refine e_iload C dX8_layOut_274 rfl ?_
                                          refine e_i2lN C dX8_layOut_276 (by omega) ?_
                                          refine e_laddN C dX8_layOut_277 ?_
                                          refine e_lastoreN C dX8_layOut_278 rfl (by omega) (by omega) ?_
                                          refine e_nm (fun M18 hM18 => ?_)
                                          have ht4 : ∀ j, j < 1200 → gJ M18 38 j = lN (acc n (indU (EE n P k W pv L) j) a b c + iw (j = 20 * a + b) (EE n P k W pv L a b c)) := by rw [hM18, gJ_sJ]; exact add1L (u := fun j => acc n (indU (EE n P k W pv L) j) a b c) ht3 (by omega)
                                          have hu4 : ∀ j, j < 60 → gJ M18 37 j = lN (acc n (indO (EE n P k W pv L) j) a b c + iw (j = a) (EE n P k W pv L a b c) + iw (j = 20 + b) (EE n P k W pv L a b c) + iw (j = 40 + c) (EE n P k W pv L a b c)) := by rw [hM18, gJ_sJ_ne _ _ (by decide)]; exact hu3
                                          have s4 : Same [25, 34, 37, 38] M2 M18 := by rw [hM18]; exact s3.J (by decide)
                                          have q4 : ∀ j, gI M18 j = gI M14 j := fun j => by rw [hM18, gI_sJ, q3]
                                          have r4 : gJ M18 25 = gJ M14 25 := by rw [hM18, gJ_sJ_ne _ _ (by decide), r3]
                                          refine e_aload_n C dX8_layOut_279 rfl rfl ?_
                                          refine e_getR (q := 38) C dX8_layOut_280 fX8_51 rfl rfl ?_
                                          refine e_sipush (v := (nI 400)) C dX8_layOut_283 (by decide) ?_
                                          refine e_bipush (v := (nI 20)) C dX8_layOut_286 (by decide) ?_
                                          refine e_iload_n C dX8_layOut_288 rfl rfl ?_
                                          refine e_imulN C dX8_layOut_289 ?_
                                          refine e_iaddN C dX8_layOut_290 ?_
                                          refine e_iload_n C dX8_layOut_291 rfl rfl ?_
                                          refine e_iaddN C dX8_layOut_292 ?_
                                          refine e_dup2 C dX8_layOut_293 rfl rfl ?_
                                          refine e_laloadN C dX8_layOut_294 rfl (by omega) (by omega) ?_
                                          refine e_topl (lN (acc n (indU (EE n P k W pv L) (400 + (20 * a) + c)) a b c + iw ((400 + (20 * a) + c) = 20 * a + b) (EE n P k W pv L a b c))) (ht4 (400 + (20 * a) + c) (by omega)) ?_
                                          refine e_iload C dX8_layOut_295 rfl ?_
                                          refine e_i2lN C dX8_layOut_297 (by omega) ?_
                                          refine e_laddN C dX8_layOut_298 ?_
                                          refine e_lastoreN C dX8_layOut_299 rfl (by omega) (by omega) ?_
                                          refine e_nm (fun M19 hM19 => ?_)
                                          have ht5 : ∀ j, j < 1200 → gJ M19 38 j = lN (acc n (indU (EE n P k W pv L) j) a b c + iw (j = 20 * a + b) (EE n P k W pv L a b c) + iw (j = 400 + 20 * a + c) (EE n P k W pv L a b c)) := by rw [hM19, gJ_sJ]; exact add1L (u := fun j => acc n (indU (EE n P k W pv L) j) a b c + iw (j = 20 * a + b) (EE n P k W pv L a b c)) ht4 (by omega)
                                          have hu5 : ∀ j, j < 60 → gJ M19 37 j = lN (acc n (indO (EE n P k W pv L) j) a b c + iw (j = a) (EE n P k W pv L a b c) + iw (j = 20 + b) (EE n P k W pv L a b c) + iw (j = 40 + c) (EE n P k W pv L a b c)) := by rw [hM19, gJ_sJ_ne _ _ (by decide)]; exact hu4
                                          have s5 : Same [25, 34, 37, 38] M2 M19 := by rw [hM19]; exact s4.J (by decide)
                                          have q5 : ∀ j, gI M19 j = gI M14 j := fun j => by rw [hM19, gI_sJ, q4]
                                          have r5 : gJ M19 25 = gJ M14 25 := by rw [hM19, gJ_sJ_ne _ _ (by decide), r4]
                                          refine e_aload_n C dX8_layOut_300 rfl rfl ?_
                                          refine e_getR (q := 38) C dX8_layOut_301 fX8_51 rfl rfl ?_
                                          refine e_sipush (v := (nI 800)) C dX8_layOut_304 (by decide) ?_
                                          refine e_bipush (v := (nI 20)) C dX8_layOut_307 (by decide) ?_
                                          refine e_iload_n C dX8_layOut_309 rfl rfl ?_
                                          refine e_imulN C dX8_layOut_310 ?_
                                          refine e_iaddN C dX8_layOut_311 ?_
                                          refine e_iload_n C dX8_layOut_312 rfl rfl ?_
                                          refine e_iaddN C dX8_layOut_313 ?_
                                          refine e_dup2 C dX8_layOut_314 rfl rfl ?_
                                          refine e_laloadN C dX8_layOut_315 rfl (by omega) (by omega) ?_
                                          refine e_topl (lN (acc n (indU (EE n P k W pv L) (800 + (20 * b) + c)) a b c + iw ((800 + (20 * b) + c) = 20 * a + b) (EE n P k W pv L a b c) + iw ((800 + (20 * b) + c) = 400 + 20 * a + c) (EE n P k W pv L a b c))) (ht5 (800 + (20 * b) + c) (by omega)) ?_
                                          refine e_iload C dX8_layOut_316 rfl ?_
                                          refine e_i2lN C dX8_layOut_318 (by omega) ?_
                                          refine e_laddN C dX8_layOut_319 ?_
                                          refine e_lastoreN C dX8_layOut_320 rfl (by omega) (by omega) ?_
                                          refine e_nm (fun M20 hM20 => ?_)
                                          have ht6 : ∀ j, j < 1200 → gJ M20 38 j = lN (acc n (indU (EE n P k W pv L) j) a b c + iw (j = 20 * a + b) (EE n P k W pv L a b c) + iw (j = 400 + 20 * a + c) (EE n P k W pv L a b c) + iw (j = 800 + 20 * b + c) (EE n P k W pv L a b c)) := by rw [hM20, gJ_sJ]; exact add1L (u := fun j => acc n (indU (EE n P k W pv L) j) a b c + iw (j = 20 * a + b) (EE n P k W pv L a b c) + iw (j = 400 + 20 * a + c) (EE n P k W pv L a b c)) ht5 (by omega)
                                          have hu6 : ∀ j, j < 60 → gJ M20 37 j = lN (acc n (indO (EE n P k W pv L) j) a b c + iw (j = a) (EE n P k W pv L a b c) + iw (j = 20 + b) (EE n P k W pv L a b c) + iw (j = 40 + c) (EE n P k W pv L a b c)) := by rw [hM20, gJ_sJ_ne _ _ (by decide)]; exact hu5
                                          have s6 : Same [25, 34, 37, 38] M2 M20 := by rw [hM20]; exact s5.J (by decide)
                                          have q6 : ∀ j, gI M20 j = gI M14 j := fun j => by rw [hM20, gI_sJ, q5]
                                          have r6 : gJ M20 25 = gJ M14 25 := by rw [hM20, gJ_sJ_ne _ _ (by decide), r5]
                                          refine e_iincN (lv2 := [(3, .int (nI (c + 1))), (4, .int (nI (EE n P k W pv L a b c))), (0, .ref 25), (1, .int (nI a)), (2, .int (nI b))]) C dX8_layOut_321 rfl (by decide) (nI_1 _) rfl ?_
                                          refine e_goto (tgt := 157) C dX8_layOut_324 (by decide) ?_
                                          have hI5 : RoI M2 n (EE n P k W pv L) M20 a b (c + 1) := by
                                            refine ⟨by rw [r6, acc_c, hM14, gJ_sI, hM6, gJ_sJ, updL_s], by rw [q6, acc_c, hM14, gI_sI, upd_s]; unfold hit1; rw [if_neg (show ¬ EE n P k W pv L a b c = 0 by omega)], fun j hj => by rw [hu6 j hj, acc_c]; rw [indO_eq]; congr 1; omega, fun j hj => by rw [ht6 j hj, acc_c]; rw [indU_eq]; congr 1; omega, fun x y t hx hy ht hv => ?_, fun j hj => ?_, s6⟩
                                            · rw [q6, hM14, gI_sI_ne _ _ (by decide), hM6, gI_sJ, hM5, gI_sI]
                                              by_cases e9 : x = a ∧ y = b ∧ t = c
                                              · obtain ⟨rfl, rfl, rfl⟩ := e9; rw [upd_s]
                                              · rw [upd_n _ _ (by omega)]; exact hI3.2.2.2.2.1 x y t hx hy ht (by omega)
                                            · rw [q6, hM14, gI_sI, upd_n _ _ hj, hM6, gI_sJ, hM5, gI_sI_ne _ _ (by decide)]; exact hI3.2.2.2.2.2.1 j hj
                                          refine e_loc [2, 3, 4, 0] rfl ?_
                                          exact ih_l3 (n 2 - (c + 1)) (by omega) (c + 1) rfl M20 (by omega) hI5
                                  exact l3 0 x2 (Nat.zero_le _) hI2
                            exact l2 0 x1 (Nat.zero_le _) hI1
                      exact l1 0 M2 (Nat.zero_le _) hR0
                    · refine e_aload_n C dX8_layOut_108 rfl rfl ?_
                      refine e_getR (q := 38) C dX8_layOut_109 fX8_51 rfl rfl ?_
                      refine e_iload_n C dX8_layOut_112 rfl rfl ?_
                      refine e_lconst (v := lN 0) C dX8_layOut_113 (by decide) ?_
                      refine e_lastoreN C dX8_layOut_114 rfl (by omega) (by omega) ?_
                      refine e_nm (fun M21 hM21 => ?_)
                      refine e_iincN (lv2 := [(1, .int (nI (t + 1))), (0, .ref 25)]) C dX8_layOut_115 rfl (by decide) (nI_1 _) rfl ?_
                      refine e_goto (tgt := 101) C dX8_layOut_118 (by decide) ?_
                      refine e_loc [1, 0] rfl ?_
                      exact ih_l3 (1200 - (t + 1)) (by omega) (t + 1) rfl M21 (by omega) (fun j hj => by rw [hM21, gJ_sJ]; by_cases e9 : j = t; (subst e9; rw [updL_s]); (rw [updL_n _ _ e9]; exact hz7 j (by omega))) (by rw [hM21]; exact hs7.J (by decide))
                exact l3 0 M8 (by omega) (fun j hj => absurd hj (by omega)) (Same.rf _ M8)
              · refine e_aload_n C dX8_layOut_86 rfl rfl ?_
                refine e_getR (q := 37) C dX8_layOut_87 fX8_47 rfl rfl ?_
                refine e_iload_n C dX8_layOut_90 rfl rfl ?_
                refine e_lconst (v := lN 0) C dX8_layOut_91 (by decide) ?_
                refine e_lastoreN C dX8_layOut_92 rfl (by omega) (by omega) ?_
                refine e_nm (fun M22 hM22 => ?_)
                refine e_iincN (lv2 := [(1, .int (nI (i + 1))), (0, .ref 25)]) C dX8_layOut_93 rfl (by decide) (nI_1 _) rfl ?_
                refine e_goto (tgt := 80) C dX8_layOut_96 (by decide) ?_
                refine e_loc [1, 0] rfl ?_
                exact ih_l2 (60 - (i + 1)) (by omega) (i + 1) rfl M22 (by omega) (fun j hj => by rw [hM22, gJ_sJ]; by_cases e9 : j = i; (subst e9; rw [updL_s]); (rw [updL_n _ _ e9]; exact hz8 j (by omega))) (by rw [hM22]; exact hs8.J (by decide))
          exact l2 0 M9 (by omega) (fun j hj => absurd hj (by omega)) (Same.rf _ M9)
        · refine e_aload_n C dX8_layOut_17 rfl rfl ?_
          refine e_getR (q := 36) C dX8_layOut_18 fX8_44 rfl rfl ?_
          refine e_iload_n C dX8_layOut_21 rfl rfl ?_
          refine e_aload_n C dX8_layOut_22 rfl rfl ?_
          refine e_iload_n C dX8_layOut_23 rfl rfl ?_
          refine e_bipush (v := (nI 64)) C dX8_layOut_24 (by decide) ?_
          refine e_idivN C dX8_layOut_26 (by omega) (by omega) (by omega) ?_
          refine e_iload_n C dX8_layOut_27 rfl rfl ?_
          refine e_bipush (v := (nI 8)) C dX8_layOut_28 (by decide) ?_
          refine e_idivN C dX8_layOut_30 (by omega) (by omega) (by omega) ?_
          refine e_bipush (v := (nI 8)) C dX8_layOut_31 (by decide) ?_
          refine e_iremN C dX8_layOut_33 (by omega) (by omega) (by omega) ?_
          refine e_iload_n C dX8_layOut_34 rfl rfl ?_
          refine e_bipush (v := (nI 8)) C dX8_layOut_35 (by decide) ?_
          refine e_iremN C dX8_layOut_37 (by omega) (by omega) (by omega) ?_
          refine e_callVi C dX8_layOut_38 [.int (nI (l / 64)), .int (nI ((l / 8) % 8)), .int (nI (l % 8))] (r_rowOf hT (l / 64) ((l / 8) % 8) (l % 8) (by omega) (by omega) (by omega)) okX8_rowOf lX8_119 rfl rfl rfl ⟨rfl, rfl⟩ ⟨Nat.le_of_ble_eq_true rfl, Nat.le_of_ble_eq_true rfl⟩ (Nat.le_of_ble_eq_true rfl) ⟨Nat.zero_le _, Nat.zero_le _⟩ ?_
          refine e_iastoreN C dX8_layOut_41 rfl (by omega) (by omega) ?_
          refine e_nm (fun M23 hM23 => ?_)
          have hr9 : gI M23 36 l = oI (fstR W k l) := by rw [hM23, gI_sI, upd_s]; rfl
          have hs8 : Same [35, 36] M M23 := by rw [hM23]; exact hs9.I (by decide)
          cases ho : fstR W k l with
          | none =>
            rw [ho] at hr9
            refine e_aload_n C dX8_layOut_42 rfl rfl ?_
            refine e_getR (q := 35) C dX8_layOut_43 fX8_41 rfl rfl ?_
            refine e_iload_n C dX8_layOut_46 rfl rfl ?_
            refine e_aload_n C dX8_layOut_47 rfl rfl ?_
            refine e_getR (q := 36) C dX8_layOut_48 fX8_44 rfl rfl ?_
            refine e_iload_n C dX8_layOut_51 rfl rfl ?_
            refine e_ialoadN C dX8_layOut_52 rfl (by omega) (by omega) ?_
            refine e_topi (-1) hr9 ?_
            refine e_if_ge (x := (-1)) (tgt := 60) C dX8_layOut_53 (by decide) (fun h53 => by exact absurd h53 (by decide)) (fun h53 => ?_)
            refine e_iconst (v := (nI 0)) C dX8_layOut_56 (by decide) ?_
            refine e_goto (tgt := 71) C dX8_layOut_57 (by decide) ?_
            refine e_iastoreN C dX8_layOut_71 rfl (by omega) (by omega) ?_
            refine e_nm (fun M24 hM24 => ?_)
            refine e_iincN (lv2 := [(1, .int (nI (l + 1))), (0, .ref 25)]) C dX8_layOut_72 rfl (by decide) (nI_1 _) rfl ?_
            refine e_goto (tgt := 10) C dX8_layOut_75 (by decide) ?_
            refine e_loc [1, 0] rfl ?_
            have hl2 : ∀ j, j < l + 1 → gI M24 36 j = oI (fstR W k j) ∧ gI M24 35 j = nI (amt W pv k j) := by
              intro j hj
              rw [hM24, gI_sI_ne _ _ (by decide), gI_sI]
              by_cases e9 : j = l
              · subst e9; rw [upd_s]; exact ⟨by rw [hr9, ho], by rw [amt_none ho]⟩
              · rw [upd_n _ _ e9, hM23, gI_sI, upd_n _ _ e9, gI_sI_ne _ _ (by decide)]; exact hl9 j (by omega)
            exact ih_l1 (512 - (l + 1)) (by omega) (l + 1) rfl M24 (by omega) hl2 (by rw [hM24]; exact hs8.I (by decide))
          | some i9 =>
            rw [ho] at hr9
            have hi9 := (fstb_lt ho).1
            refine e_aload_n C dX8_layOut_42 rfl rfl ?_
            refine e_getR (q := 35) C dX8_layOut_43 fX8_41 rfl rfl ?_
            refine e_iload_n C dX8_layOut_46 rfl rfl ?_
            refine e_aload_n C dX8_layOut_47 rfl rfl ?_
            refine e_getR (q := 36) C dX8_layOut_48 fX8_44 rfl rfl ?_
            refine e_iload_n C dX8_layOut_51 rfl rfl ?_
            refine e_ialoadN C dX8_layOut_52 rfl (by omega) (by omega) ?_
            refine e_topi (nI i9) hr9 ?_
            refine e_if_ge (x := (nI i9)) (tgt := 60) C dX8_layOut_53 (by decide) (fun h53 => ?_) (fun h53 => by exact absurd (nI_ge9 (by omega)) h53)
            refine e_aload_n C dX8_layOut_60 rfl rfl ?_
            refine e_getR (q := 32) C dX8_layOut_61 fX8_28 rfl rfl ?_
            refine e_aload_n C dX8_layOut_64 rfl rfl ?_
            refine e_getR (q := 36) C dX8_layOut_65 fX8_44 rfl rfl ?_
            refine e_iload_n C dX8_layOut_68 rfl rfl ?_
            refine e_ialoadN C dX8_layOut_69 rfl (by omega) (by omega) ?_
            refine e_topi (nI i9) hr9 ?_
            refine e_ialoadN C dX8_layOut_70 rfl (by omega) (by omega) ?_
            refine e_topi (nI (pv i9)) (by rw [hs8.gI (by decide)]; exact (hBM.2.1.2.2.1 i9 hi9).2.2.2) ?_
            refine e_iastoreN C dX8_layOut_71 rfl (by omega) (by omega) ?_
            refine e_nm (fun M25 hM25 => ?_)
            refine e_iincN (lv2 := [(1, .int (nI (l + 1))), (0, .ref 25)]) C dX8_layOut_72 rfl (by decide) (nI_1 _) rfl ?_
            refine e_goto (tgt := 10) C dX8_layOut_75 (by decide) ?_
            refine e_loc [1, 0] rfl ?_
            have hl2 : ∀ j, j < l + 1 → gI M25 36 j = oI (fstR W k j) ∧ gI M25 35 j = nI (amt W pv k j) := by
              intro j hj
              rw [hM25, gI_sI_ne _ _ (by decide), gI_sI]
              by_cases e9 : j = l
              · subst e9; rw [upd_s]; exact ⟨by rw [hr9, ho], by rw [amt_some ho]⟩
              · rw [upd_n _ _ e9, hM23, gI_sI, upd_n _ _ e9, gI_sI_ne _ _ (by decide)]; exact hl9 j (by omega)
            exact ih_l1 (512 - (l + 1)) (by omega) (l + 1) rfl M25 (by omega) hl2 (by rw [hM25]; exact hs8.I (by decide))
    exact l1 0 M (by omega) (fun j hj => absurd hj (by omega)) (Same.rf _ M)
  · refine e_aload_n C dX8_layOut_0 rfl rfl ?_
    refine e_getI C dX8_layOut_1 fX8_96 rfl rfl ?_
    refine e_topi (nI 1) hF ?_
    refine e_if_eqN (tgt := 8) C dX8_layOut_4 (by omega) (by decide) (fun h4 => by omega) (fun h4 => ?_)
    exact e_vret C dX8_layOut_7 RT ⟨Nat.zero_le _, Nat.zero_le _⟩ (qv_ ⟨hOK, hF, fun _ _ _ => rfl, Same.rf _ M⟩)
