theorem Enum.le {cnt : Nat → Nat} {sz : Nat} {f g : Nat → Nat} (h : Enum cnt sz f) (hu : ∀ u, 0 < cnt u → u ∈ SL3 g) : sz ≤ 455 := by
  have hnd : ((List.range sz).map f).Nodup := by
    rw [List.Nodup, List.pairwise_map]
    refine List.Pairwise.imp_of_mem ?_ List.pairwise_lt_range
    intro a b ha hb hab
    have := h.1 a b hab (List.mem_range.mp hb); omega
  have h1 := php _ (SL3 g) hnd (fun x hx => by
    obtain ⟨i, hi, rfl⟩ := List.mem_map.mp hx
    exact hu _ (h.2.1 i (List.mem_range.mp hi)))
  rw [SL3_len] at h1
  simp only [List.length_map, List.length_range] at h1
  exact h1
theorem cT_SL {n P : Nat → Nat} {k : Nat} {W : Nat → Nat → Int32} {pv : Nat → Nat} {L : Nat} (hk : k ≤ 12) (u : Nat) (h : 0 < cT n (EE n P k W pv L) u) : u ∈ SL3 (g13 pv) := by
  have e : cE n (EE n P k W pv L) (n 0) 0 0 u = cT n (EE n P k W pv L) u := acc_n _ _
  rw [← e] at h
  exact cE_pos (fun a b c => EE_LS hk a b c) h
theorem cT_hi {n : Nat → Nat} {E : Nat → Nat → Nat → Nat} (hE : ∀ a b c, E a b c ≤ 30000) {u : Nat} (hu : 30000 < u) : cT n E u = 0 := by
  unfold cT
  rw [← tot_zero n]
  exact congrArg (tot n) (by funext a b c; unfold iw; rw [if_neg (by have := hE a b c; omega)])
theorem cT_le {n : Nat → Nat} {E : Nat → Nat → Nat → Nat} (h0 : n 0 ≤ 20) (h1 : n 1 ≤ 20) (h2 : n 2 ≤ 20) (u : Nat) : cT n E u ≤ 8000 * 1 := by
  unfold cT
  exact tot_le h0 h1 h2 (fun a b c => by unfold iw; split <;> omega)
/-- the pays found so far: j of them, all those below v -/
def AmI (sz : Nat) (f : Nat → Nat) (v j : Nat) : Prop := j ≤ sz ∧ (∀ i, i < j → f i < v) ∧ ∀ i, j ≤ i → i < sz → v ≤ f i
theorem AmI.hit {cnt : Nat → Nat} {sz : Nat} {f : Nat → Nat} {v j : Nat} (h : AmI sz f v j) (hE : Enum cnt sz f) (hv : 0 < cnt v) : j < sz ∧ f j = v ∧ AmI sz f (v + 1) (j + 1) := by
  obtain ⟨h1, h2, h3⟩ := h
  obtain ⟨i, hi, e⟩ := hE.2.2 v hv
  have hij : j ≤ i := by
    rcases Nat.lt_or_ge i j with h5 | h5
    · have := h2 i h5; omega
    · exact h5
  have hj : j < sz := by omega
  have hji : f j = v := by
    rcases Nat.lt_or_ge j i with h5 | h5
    · have h6 := hE.1 j i h5 hi
      have h7 := h3 j (Nat.le_refl _) hj
      omega
    · have : i = j := by omega
      subst this; exact e
  refine ⟨hj, hji, by omega, fun x hx => ?_, fun x hx hs => ?_⟩
  · rcases Nat.lt_or_ge x j with h5 | h5
    · have := h2 x h5; omega
    · have : x = j := by omega
      subst this; omega
  · have := hE.1 j x (by omega) hs; omega
theorem AmI.miss {cnt : Nat → Nat} {sz : Nat} {f : Nat → Nat} {v j : Nat} (h : AmI sz f v j) (hE : Enum cnt sz f) (hv : cnt v = 0) : AmI sz f (v + 1) j := by
  obtain ⟨h1, h2, h3⟩ := h
  refine ⟨h1, fun i hi => ?_, fun i hi hs => ?_⟩
  · have := h2 i hi; omega
  · have h4 := h3 i hi hs
    have h5 := hE.2.1 i hs
    rcases Nat.lt_or_ge v (f i) with h6 | h6
    · omega
    · have : f i = v := by omega
      rw [this] at h5; omega
def AmOK (M : Mm) (cnt : Nat → Nat) (sz : Nat) (f : Nat → Nat) : Prop := gI M 25 30 = nI sz ∧ (∀ u, u ≤ 30000 → gI M 41 u = nI (cnt u)) ∧ ∀ i, i < sz → gI M 42 i = nI (f i)
theorem AmOK.sm {ks : List Nat} {M M2 : Mm} {cnt : Nat → Nat} {sz : Nat} {f : Nat → Nat} (h : AmOK M cnt sz f) (hs : Same ks M M2) (hk : 25 ∉ ks ∧ 41 ∉ ks ∧ 42 ∉ ks) : AmOK M2 cnt sz f := ⟨by rw [hs.gI hk.1]; exact h.1, by rw [hs.gI hk.2.1]; exact h.2.1, by rw [hs.gI hk.2.2]; exact h.2.2⟩
theorem RInv.rw {ks : List Nat} {M M2 : Mm} {s : St} (h : RInv M s) (hs : Same ks M M2) (hk : ((26 ∉ ks ∧ 27 ∉ ks) ∧ 29 ∉ ks ∧ 30 ∉ ks ∧ 31 ∉ ks ∧ 32 ∉ ks) ∧ (28 ∉ ks ∧ 40 ∉ ks) ∧ (34 ∉ ks ∧ 35 ∉ ks ∧ 36 ∉ ks) ∧ 37 ∉ ks ∧ 38 ∉ ks) (e : ∀ x, x ≠ 30 → gI M2 25 x = gI M 25 x) (eJ : gJ M2 25 = gJ M 25) : RInv M2 s := by
  obtain ⟨n, P, cnt, k, W, pv, L, R, H, z, g, q⟩ := s
  obtain ⟨a1, a2, a3, a4, a5, a6⟩ := h
  exact ⟨a1.mv hs hk.1 (e 3 (by decide)) (e 8 (by decide)), a2.same (hs.gI hk.2.1.1), a3.mv hs hk.2.2 (e 9 (by decide)) (e 15 (by decide)) eJ, a4.row (fun j h1 h2 => e j (by omega)), a5.row (e 26 (by decide)) (hs.gI hk.2.1.2), a6⟩
def RaI (M1 : Mm) (n : Nat → Nat) (E : Nat → Nat → Nat → Nat) (M2 : Mm) (a b c : Nat) : Prop := (∀ u, u ≤ 30000 → gI M2 41 u = nI (cE n E a b c u)) ∧ Same [41] M1 M2
theorem RaI.b {M1 : Mm} {n : Nat → Nat} {E : Nat → Nat → Nat → Nat} {M2 : Mm} {a b : Nat} (h : RaI M1 n E M2 a b (n 2)) : RaI M1 n E M2 a (b + 1) 0 := by
  have e : cE n E a (b + 1) 0 = cE n E a b (n 2) := by funext u; exact acc_b _ _ _ _
  unfold RaI; rw [e]; exact h
theorem RaI.a {M1 : Mm} {n : Nat → Nat} {E : Nat → Nat → Nat → Nat} {M2 : Mm} {a : Nat} (h : RaI M1 n E M2 a (n 1) 0) : RaI M1 n E M2 (a + 1) 0 0 := by
  have e : cE n E (a + 1) 0 0 = cE n E a (n 1) 0 := by funext u; exact acc_a _ _ _
  unfold RaI; rw [e]; exact h
def FaF (M : Mm) (s : St) (cnt : Nat → Nat) (sz : Nat) (f : Nat → Nat) (M2 : Mm) : Prop := (RInv M2 s ∧ FrR M M2) ∧ AmOK M2 cnt sz f
set_option maxHeartbeats 1000000 in
set_option maxRecDepth 100000 in
theorem r_findAmounts {w : Bool} {M : Mm} {n P cnt : Nat → Nat} {k : Nat} {W : Nat → Nat → Int32} {pv : Nat → Nat} {L R H : Nat} {z : Nat → Int32} {g : Nat} {q : Nat → Nat → Nat} (hI : RInv M (n, P, cnt, k, W, pv, L, R, H, z, g, q)) {sz : Nat} {f : Nat → Nat} (hE : Enum (cT n (EE n P k W pv L)) sz f) : CT mX8_findAmounts [.ref 25] (shF w) M (Qv (shF w) (FaF M (n, P, cnt, k, W, pv, L, R, H, z, g, q) (cT n (EE n P k W pv L)) sz f)) := by
  refine CT.mk (lv := [(0, .ref 25)]) rfl (by decide +kernel) (Nat.le_of_ble_eq_true rfl) ?_
  intro X C RT
  obtain ⟨hB, hCt, hF, hH, hG, hQ⟩ := id hI
  obtain ⟨hS, hT, hL, hL1, hL3⟩ := id hB
  have n0 := hS.2.1 0 (by decide)
  have n1 := hS.2.1 1 (by decide)
  have n2 := hS.2.1 2 (by decide)
  have hk12 := hT.2.1
  have hs455 : sz ≤ 455 := hE.le (fun u hu => cT_SL hk12 u hu)
  refine e_aload_n C dX8_findAmounts_0 rfl rfl ?_
  refine e_callVvQ C dX8_findAmounts_1 [] (r_layOut hB hF) okX8_layOut lX8_139 rfl rfl rfl ⟨rfl, rfl⟩ ⟨Nat.le_of_ble_eq_true rfl, Nat.le_of_ble_eq_true rfl⟩ (Nat.le_of_ble_eq_true rfl) ⟨Nat.zero_le _, Nat.zero_le _⟩ (fun M1 hM1 => ?_)
  obtain ⟨hI, hf9⟩ := RInv.lo hI hM1
  obtain ⟨hB, hCt, hF, hH, hG, hQ⟩ := id hI
  obtain ⟨hS, hT, hL, hL1, hL3⟩ := id hB
  have n0 := hS.2.1 0 (by decide)
  have n1 := hS.2.1 1 (by decide)
  have n2 := hS.2.1 2 (by decide)
  have hl := hM1.1
  have hle := hB.le
  have hSm := hS
  refine e_iconst (v := (nI 0)) C dX8_findAmounts_4 (by decide) ?_
  refine e_istore_n (lv2 := [(1, .int (nI 0)), (0, .ref 25)]) C dX8_findAmounts_5 rfl (by decide) rfl ?_
  refine e_loc [1, 0] rfl ?_
  have lp : ∀ (v : Nat) (My : Mm), v ≤ 30001 → (∀ j, j < v → gI My 41 j = nI 0) → Same [41] M1 My → Wd X (0, 0) 6 [(0, .ref 25), (1, .int (nI v))] [] (shF w) My := by
    intro v
    induction hq_lp : 30001 - v using Nat.strongRecOn generalizing v with
    | ind k_lp ih_lp =>
      intro My hv hzy hsy
      refine e_iload_n C dX8_findAmounts_6 rfl rfl ?_
      refine e_sipush (v := (nI 30000)) C dX8_findAmounts_7 (by decide) ?_
      refine e_icmp_gtN (tgt := 26) C dX8_findAmounts_10 (by omega) (by omega) (by decide) (fun h10 => ?_) (fun h10 => ?_)
      · refine e_iconst (v := (nI 0)) C dX8_findAmounts_26 (by decide) ?_
        refine e_istore_n (lv2 := [(1, .int (nI 0)), (0, .ref 25)]) C dX8_findAmounts_27 rfl (by decide) rfl ?_
        have hR0 : RaI M1 n (EE n P k W pv L) My 0 0 0 := ⟨fun u hu => by rw [hzy u (by omega)]; rfl, hsy⟩
        refine e_loc [1, 0] rfl ?_
        have l1 : ∀ (a : Nat) (x1 : Mm), a ≤ n 0 → RaI M1 n (EE n P k W pv L) x1 a 0 0 → Wd X (0, 0) 28 [(0, .ref 25), (1, .int (nI a))] [] (shF w) x1 := by
          intro a
          induction hq_l1 : n 0 - a using Nat.strongRecOn generalizing a with
          | ind k_l1 ih_l1 =>
            intro x1 ha9 hI1
            have hS : RsOK x1 n P := hSm.sm hI1.2 (by decide)
            refine e_iload_n C dX8_findAmounts_28 rfl rfl ?_
            refine e_aload_n C dX8_findAmounts_29 rfl rfl ?_
            refine e_getR (q := 26) C dX8_findAmounts_30 fX8_7 rfl rfl ?_
            refine e_iconst (v := (nI 0)) C dX8_findAmounts_33 (by decide) ?_
            refine e_ialoadN C dX8_findAmounts_34 rfl (by omega) (by omega) ?_
            refine e_topi (nI (n 0)) (hS.1 0 (by omega)) ?_
            refine e_icmp_geN (tgt := 100) C dX8_findAmounts_35 (by omega) (by omega) (by decide) (fun h35 => ?_) (fun h35 => ?_)
            · have e9 : a = n 0 := by omega
              subst e9
              have hcT : ∀ u, u ≤ 30000 → gI x1 41 u = nI (cT n (EE n P k W pv L) u) := fun u hu => by rw [hI1.1 u hu]; exact congrArg nI (acc_n _ _)
              refine e_aload_n C dX8_findAmounts_100 rfl rfl ?_
              refine e_iconst (v := (nI 0)) C dX8_findAmounts_101 (by decide) ?_
              refine e_putI C dX8_findAmounts_102 pX8_205 rfl rfl rfl rfl ?_
              refine e_nm (fun M2 hM2 => ?_)
              refine e_iconst (v := (nI 0)) C dX8_findAmounts_105 (by decide) ?_
              refine e_istore_n (lv2 := [(1, .int (nI 0)), (0, .ref 25)]) C dX8_findAmounts_106 rfl (by decide) rfl ?_
              refine e_loc [1, 0] rfl ?_
              have lv : ∀ (v : Nat) (Mv : Mm) (j : Nat), v ≤ 30001 → AmI sz f v j → gI Mv 25 30 = nI j → (∀ u, u ≤ 30000 → gI Mv 41 u = nI (cT n (EE n P k W pv L) u)) → (∀ i, i < j → gI Mv 42 i = nI (f i)) → (∀ x, x ≠ 30 → gI Mv 25 x = gI M1 25 x) → gJ Mv 25 = gJ M1 25 → Same [25, 41, 42] M1 Mv → Wd X (0, 0) 107 [(0, .ref 25), (1, .int (nI v))] [] (shF w) Mv := by
                intro v
                induction hq_lv : 30001 - v using Nat.strongRecOn generalizing v with
                | ind k_lv ih_lv =>
                  intro Mv j hv9 hAm hj30 hov hav hrv hJv hsv
                  have hcl := cT_le (E := (EE n P k W pv L)) n0.2 n1.2 n2.2 v
                  refine e_iload_n C dX8_findAmounts_107 rfl rfl ?_
                  refine e_sipush (v := (nI 30000)) C dX8_findAmounts_108 (by decide) ?_
                  refine e_icmp_gtN (tgt := 149) C dX8_findAmounts_111 (by omega) (by omega) (by decide) (fun h111 => ?_) (fun h111 => ?_)
                  · have hjz : j = sz := by
                      rcases Nat.lt_or_ge j sz with h5 | h5
                      · exfalso; have h6 := hAm.2.2 j (Nat.le_refl _) h5; have h7 := hE.2.1 j h5; rw [cT_hi hle (by omega)] at h7; omega
                      · have := hAm.1; omega
                    subst hjz
                    have hsM : Same [25, 41, 42] M1 Mv := hsv
                    exact e_vret C dX8_findAmounts_149 RT ⟨Nat.zero_le _, Nat.zero_le _⟩ (qv_ ⟨⟨hI.rw hsM (by decide) hrv hJv, hf9.tr (hsM.up (by decide))⟩, hj30, hov, hav⟩)
                  · refine e_aload_n C dX8_findAmounts_114 rfl rfl ?_
                    refine e_getR (q := 41) C dX8_findAmounts_115 fX8_63 rfl rfl ?_
                    refine e_iload_n C dX8_findAmounts_118 rfl rfl ?_
                    refine e_ialoadN C dX8_findAmounts_119 rfl (by omega) (by omega) ?_
                    refine e_topi (nI (cT n (EE n P k W pv L) v)) (hov v (by omega)) ?_
                    refine e_if_leN (tgt := 143) C dX8_findAmounts_120 (by omega) (by decide) (fun h120 => ?_) (fun h120 => ?_)
                    · refine e_iincN (lv2 := [(1, .int (nI (v + 1))), (0, .ref 25)]) C dX8_findAmounts_143 rfl (by decide) (nI_1 _) rfl ?_
                      refine e_goto (tgt := 107) C dX8_findAmounts_146 (by decide) ?_
                      refine e_loc [1, 0] rfl ?_
                      exact ih_lv (30001 - (v + 1)) (by omega) (v + 1) rfl Mv j (by omega) (hAm.miss hE h120) hj30 hov hav hrv hJv hsv
                    · obtain ⟨hjs, hfj, hAm2⟩ := hAm.hit hE (by omega)
                      refine e_aload_n C dX8_findAmounts_123 rfl rfl ?_
                      refine e_getR (q := 42) C dX8_findAmounts_124 fX8_66 rfl rfl ?_
                      refine e_aload_n C dX8_findAmounts_127 rfl rfl ?_
                      refine e_getI C dX8_findAmounts_128 fX8_205 rfl rfl ?_
                      refine e_topi (nI j) (by first | exact hj30 | (rw [hMv, gI_sI_ne _ _ (by decide)]; exact hj30)) ?_
                      refine e_iload_n C dX8_findAmounts_131 rfl rfl ?_
                      refine e_iastoreN C dX8_findAmounts_132 rfl (by omega) (by omega) ?_
                      refine e_nm (fun M3 hM3 => ?_)
                      refine e_aload_n C dX8_findAmounts_133 rfl rfl ?_
                      refine e_dup C dX8_findAmounts_134 rfl ?_
                      refine e_getI C dX8_findAmounts_135 fX8_205 rfl rfl ?_
                      refine e_topi (nI j) (by first | exact hj30 | (rw [hM3, gI_sI_ne _ _ (by decide)]; exact hj30)) ?_
                      refine e_iconst (v := (nI 1)) C dX8_findAmounts_138 (by decide) ?_
                      refine e_iaddN C dX8_findAmounts_139 ?_
                      refine e_putI C dX8_findAmounts_140 pX8_205 rfl rfl rfl rfl ?_
                      refine e_nm (fun M4 hM4 => ?_)
                      refine e_iincN (lv2 := [(1, .int (nI (v + 1))), (0, .ref 25)]) C dX8_findAmounts_143 rfl (by decide) (nI_1 _) rfl ?_
                      refine e_goto (tgt := 107) C dX8_findAmounts_146 (by decide) ?_
                      refine e_loc [1, 0] rfl ?_
                      exact ih_lv (30001 - (v + 1)) (by omega) (v + 1) rfl M4 (j + 1) (by omega) hAm2 (by rw [hM4, gI_sI, upd_s]) (fun u hu => by rw [hM4, gI_sI_ne _ _ (by decide), hM3, gI_sI_ne _ _ (by decide)]; exact hov u hu) (fun i hi => by rw [hM4, gI_sI_ne _ _ (by decide), hM3, gI_sI]; by_cases e9 : i = j; (subst e9; rw [upd_s, hfj]); (rw [upd_n _ _ e9]; exact hav i (by omega))) (fun x hx => by rw [hM4, gI_sI, upd_n _ _ hx, hM3, gI_sI_ne _ _ (by decide)]; exact hrv x hx) (by rw [hM4, gJ_sI, hM3, gJ_sI]; exact hJv) (by rw [hM4, hM3]; exact (hsv.I (by decide)).I (by decide))
              exact lv 0 M2 0 (by omega) ⟨by omega, fun i hi => absurd hi (by omega), fun i _ _ => Nat.zero_le _⟩ (by rw [hM2, gI_sI, upd_s]) (fun u hu => by rw [hM2, gI_sI_ne _ _ (by decide)]; exact hcT u hu) (fun i hi => absurd hi (by omega)) (fun x hx => by rw [hM2, gI_sI, upd_n _ _ hx, hI1.2.gI (by decide)]) (by rw [hM2, gJ_sI, hI1.2.gJ (by decide)]) (by rw [hM2]; exact (hI1.2.up (by decide)).I (by decide))
            · refine e_iconst (v := (nI 0)) C dX8_findAmounts_38 (by decide) ?_
              refine e_istore_n (lv2 := [(2, .int (nI 0)), (0, .ref 25), (1, .int (nI a))]) C dX8_findAmounts_39 rfl (by decide) rfl ?_
              refine e_loc [1, 2, 0] rfl ?_
              have l2 : ∀ (b : Nat) (x2 : Mm), b ≤ n 1 → RaI M1 n (EE n P k W pv L) x2 a b 0 → Wd X (0, 0) 40 [(0, .ref 25), (1, .int (nI a)), (2, .int (nI b))] [] (shF w) x2 := by
                intro b
                induction hq_l2 : n 1 - b using Nat.strongRecOn generalizing b with
                | ind k_l2 ih_l2 =>
                  intro x2 hb9 hI2
                  have hS : RsOK x2 n P := hSm.sm hI2.2 (by decide)
                  refine e_iload_n C dX8_findAmounts_40 rfl rfl ?_
                  refine e_aload_n C dX8_findAmounts_41 rfl rfl ?_
                  refine e_getR (q := 26) C dX8_findAmounts_42 fX8_7 rfl rfl ?_
                  refine e_iconst (v := (nI 1)) C dX8_findAmounts_45 (by decide) ?_
                  refine e_ialoadN C dX8_findAmounts_46 rfl (by omega) (by omega) ?_
                  refine e_topi (nI (n 1)) (hS.1 1 (by omega)) ?_
                  refine e_icmp_geN (tgt := 94) C dX8_findAmounts_47 (by omega) (by omega) (by decide) (fun h47 => ?_) (fun h47 => ?_)
                  · refine e_iincN (lv2 := [(1, .int (nI (a + 1))), (0, .ref 25), (2, .int (nI b))]) C dX8_findAmounts_94 rfl (by decide) (nI_1 _) rfl ?_
                    refine e_goto (tgt := 28) C dX8_findAmounts_97 (by decide) ?_
                    refine e_loc [1, 0] rfl ?_
                    have hI4 := hI2
                    rw [show b = n 1 by omega] at hI4
                    exact ih_l1 (n 0 - (a + 1)) (by omega) (a + 1) rfl x2 (by omega) hI4.a
                  · refine e_iconst (v := (nI 0)) C dX8_findAmounts_50 (by decide) ?_
                    refine e_istore_n (lv2 := [(3, .int (nI 0)), (0, .ref 25), (1, .int (nI a)), (2, .int (nI b))]) C dX8_findAmounts_51 rfl (by decide) rfl ?_
                    refine e_loc [1, 2, 3, 0] rfl ?_
                    have l3 : ∀ (c : Nat) (x3 : Mm), c ≤ n 2 → RaI M1 n (EE n P k W pv L) x3 a b c → Wd X (0, 0) 52 [(0, .ref 25), (1, .int (nI a)), (2, .int (nI b)), (3, .int (nI c))] [] (shF w) x3 := by
                      intro c
                      induction hq_l3 : n 2 - c using Nat.strongRecOn generalizing c with
                      | ind k_l3 ih_l3 =>
                        intro x3 hc9 hI3
                        have hS : RsOK x3 n P := hSm.sm hI3.2 (by decide)
                        have hle3 := hle a b c
                        refine e_iload_n C dX8_findAmounts_52 rfl rfl ?_
                        refine e_aload_n C dX8_findAmounts_53 rfl rfl ?_
                        refine e_getR (q := 26) C dX8_findAmounts_54 fX8_7 rfl rfl ?_
                        refine e_iconst (v := (nI 2)) C dX8_findAmounts_57 (by decide) ?_
                        refine e_ialoadN C dX8_findAmounts_58 rfl (by omega) (by omega) ?_
                        refine e_topi (nI (n 2)) (hS.1 2 (by omega)) ?_
                        refine e_icmp_geN (tgt := 88) C dX8_findAmounts_59 (by omega) (by omega) (by decide) (fun h59 => ?_) (fun h59 => ?_)
                        · refine e_iincN (lv2 := [(2, .int (nI (b + 1))), (0, .ref 25), (1, .int (nI a)), (3, .int (nI c))]) C dX8_findAmounts_88 rfl (by decide) (nI_1 _) rfl ?_
                          refine e_goto (tgt := 40) C dX8_findAmounts_91 (by decide) ?_
                          refine e_loc [1, 2, 0] rfl ?_
                          have hI4 := hI3
                          rw [show c = n 2 by omega] at hI4
                          exact ih_l2 (n 1 - (b + 1)) (by omega) (b + 1) rfl x3 (by omega) hI4.b
                        · refine e_aload_n C dX8_findAmounts_62 rfl rfl ?_
                          refine e_getR (q := 41) C dX8_findAmounts_63 fX8_63 rfl rfl ?_
                          refine e_aload_n C dX8_findAmounts_66 rfl rfl ?_
                          refine e_getR (q := 34) C dX8_findAmounts_67 fX8_38 rfl rfl ?_
                          refine e_iload_n C dX8_findAmounts_70 rfl rfl ?_
                          refine e_iload_n C dX8_findAmounts_71 rfl rfl ?_
                          refine e_iload_n C dX8_findAmounts_72 rfl rfl ?_
                          refine e_callSi C dX8_findAmounts_73 [.int (nI a), .int (nI b), .int (nI c)] (r_place a b c) okX8_place lX8_132 rfl ⟨rfl, rfl⟩ ⟨Nat.le_of_ble_eq_true rfl, Nat.le_of_ble_eq_true rfl⟩ (Nat.le_of_ble_eq_true rfl) ⟨Nat.zero_le _, Nat.zero_le _⟩ ?_
                          refine e_ialoadN C dX8_findAmounts_76 rfl (by omega) (by omega) ?_
                          refine e_topi (nI (EE n P k W pv L a b c)) (by rw [hI3.2.gI (by decide)]; exact hl.2.1 a (by omega) b (by omega) c (by omega)) ?_
                          refine e_dup2 C dX8_findAmounts_77 rfl rfl ?_
                          refine e_ialoadN C dX8_findAmounts_78 rfl (by omega) (by omega) ?_
                          refine e_topi (nI (cE n (EE n P k W pv L) a b c (EE n P k W pv L a b c))) (hI3.1 _ (by omega)) ?_
                          refine e_iconst (v := (nI 1)) C dX8_findAmounts_79 (by decide) ?_
                          refine e_iaddN C dX8_findAmounts_80 ?_
                          refine e_iastoreN C dX8_findAmounts_81 rfl (by omega) (by omega) ?_
                          refine e_nm (fun M5 hM5 => ?_)
                          refine e_iincN (lv2 := [(3, .int (nI (c + 1))), (0, .ref 25), (1, .int (nI a)), (2, .int (nI b))]) C dX8_findAmounts_82 rfl (by decide) (nI_1 _) rfl ?_
                          refine e_goto (tgt := 52) C dX8_findAmounts_85 (by decide) ?_
                          have hI5 : RaI M1 n (EE n P k W pv L) M5 a b (c + 1) := by
                            refine ⟨fun u hu => ?_, by rw [hM5]; exact hI3.2.I (by decide)⟩
                            rw [hM5, gI_sI, ← cE_c]
                            by_cases e9 : u = EE n P k W pv L a b c
                            · rw [e9, upd_s, up_s]
                            · rw [upd_n _ _ e9, up_n _ _ e9]; exact hI3.1 u hu
                          refine e_loc [1, 2, 3, 0] rfl ?_
                          exact ih_l3 (n 2 - (c + 1)) (by omega) (c + 1) rfl M5 (by omega) hI5
                    exact l3 0 x2 (Nat.zero_le _) hI2
              exact l2 0 x1 (Nat.zero_le _) hI1
        exact l1 0 My (Nat.zero_le _) hR0
      · refine e_aload_n C dX8_findAmounts_13 rfl rfl ?_
        refine e_getR (q := 41) C dX8_findAmounts_14 fX8_63 rfl rfl ?_
        refine e_iload_n C dX8_findAmounts_17 rfl rfl ?_
        refine e_iconst (v := (nI 0)) C dX8_findAmounts_18 (by decide) ?_
        refine e_iastoreN C dX8_findAmounts_19 rfl (by omega) (by omega) ?_
        refine e_nm (fun M6 hM6 => ?_)
        refine e_iincN (lv2 := [(1, .int (nI (v + 1))), (0, .ref 25)]) C dX8_findAmounts_20 rfl (by decide) (nI_1 _) rfl ?_
        refine e_goto (tgt := 6) C dX8_findAmounts_23 (by decide) ?_
        refine e_loc [1, 0] rfl ?_
        exact ih_lp (30001 - (v + 1)) (by omega) (v + 1) rfl M6 (by omega) (fun j hj => by rw [hM6, gI_sI]; by_cases e9 : j = v; (subst e9; rw [upd_s]); (rw [upd_n _ _ e9]; exact hzy j (by omega))) (by rw [hM6]; exact hsy.I (by decide))
  exact lp 0 M1 (by omega) (fun j hj => absurd hj (by omega)) (Same.rf _ _)
set_option maxHeartbeats 1000000 in
set_option maxRecDepth 100000 in
theorem r_dryOf {w : Bool} {M : Mm} {R H : Nat} {z : Nat → Int32} {n P : Nat → Nat} {k : Nat} {W : Nat → Nat → Int32} {pv : Nat → Nat} {L : Nat} (hB : Rb M n P k W pv L) {sz : Nat} {f : Nat → Nat} (hA : AmOK M (cT n (EE n P k W pv L)) sz f) (hE : Enum (cT n (EE n P k W pv L)) sz f) (hH : RhOK M R H z) (D : Nat → UInt64) (c X9 e : Nat) (hc : c ≤ R) (hD : ∀ j, j ≤ R → gD M 43 j = D j) (hDb : ∀ j, j ≤ R → Bd (D j) X9 e) (hX : XOK X9) (he : 13 ≤ e) (he2 : e ≤ 1074) : CT mX8_dryOf [.ref 25, .int (nI c)] (shF w) M (Pd (dryS (cT n (EE n P k W pv L)) f (prd n 7 3) D (min R (c + L)) sz) (shF w) M) := by
  refine CT.mk (lv := [(0, .ref 25), (1, .int (nI c))]) rfl (by decide +kernel) (Nat.le_of_ble_eq_true rfl) ?_
  intro X C RT
  obtain ⟨hS, hT, hL, hL1, hL3⟩ := id hB
  have n0 := hS.2.1 0 (by decide)
  have n1 := hS.2.1 1 (by decide)
  have n2 := hS.2.1 2 (by decide)
  have hk12 := hT.2.1
  have hs455 : sz ≤ 455 := hE.le (fun u hu => cT_SL hk12 u hu)
  have hN1 := prd_le n0.2 n1.2 n2.2 7
  have hN0 := prd_pos (n := n) (by omega) (by omega) (by omega)
  obtain ⟨t0, t1, tH, tR, tR2, tz⟩ := id hH
  have hc1 : ∀ i, i < sz → 1 ≤ (cT n (EE n P k W pv L)) (f i) := fun i hi => hE.2.1 i hi
  have hcs := hE.sum_le
  have hm2 : min R (c + L) ≤ R := Nat.min_le_left _ _
  have hDc : ∀ j, j ≤ min R (c + L) → Bd (D j) X9 e := fun j hj => hDb j (by omega)
  have hSS := dryS_ok (h := min R (c + L)) hX hDc he he2 hN0 hN1 hs455 hc1 hcs
  have hf3 : ∀ i, i < sz → f i ≤ 30000 := fun i hi => by
    rcases Nat.lt_or_ge 30000 (f i) with h5 | h5
    · have h6 := hc1 i hi; rw [cT_hi hB.le h5] at h6; omega
    · exact h5
  have hcl := fun u => cT_le (E := (EE n P k W pv L)) n0.2 n1.2 n2.2 u
  refine e_iload_n C dX8_dryOf_0 rfl rfl ?_
  refine e_aload_n C dX8_dryOf_1 rfl rfl ?_
  refine e_getI C dX8_dryOf_2 fX8_31 rfl rfl ?_
  refine e_topi (nI L) hL ?_
  refine e_iaddN C dX8_dryOf_5 ?_
  refine e_aload_n C dX8_dryOf_6 rfl rfl ?_
  refine e_getI C dX8_dryOf_7 fX8_57 rfl rfl ?_
  refine e_topi (nI R) t0 ?_
  refine e_icmp_geN (tgt := 22) C dX8_dryOf_10 (by omega) (by omega) (by decide) (fun h10 => ?_) (fun h10 => ?_)
  · refine e_aload_n C dX8_dryOf_22 rfl rfl ?_
    refine e_getI C dX8_dryOf_23 fX8_57 rfl rfl ?_
    refine e_topi (nI R) t0 ?_
    refine e_topi (nI (min R (c + L))) (congrArg nI (by omega)) ?_
    refine e_istore_n (lv2 := [(2, .int (nI (min R (c + L)))), (0, .ref 25), (1, .int (nI c))]) C dX8_dryOf_26 rfl (by decide) rfl ?_
    refine e_aload_n C dX8_dryOf_27 rfl rfl ?_
    refine e_callVi C dX8_dryOf_28 [] (r_allEndings hS) okX8_allEndings lX8_149 rfl rfl rfl ⟨rfl, rfl⟩ ⟨Nat.le_of_ble_eq_true rfl, Nat.le_of_ble_eq_true rfl⟩ (Nat.le_of_ble_eq_true rfl) ⟨Nat.zero_le _, Nat.zero_le _⟩ ?_
    refine e_i2d C dX8_dryOf_31 ?_
    refine e_dstore_n (lv2 := [(3, .double (FP.i2d (nI (prd n 7 3)))), (2, .int (nI (min R (c + L)))), (0, .ref 25), (1, .int (nI c))]) C dX8_dryOf_32 rfl (by decide) rfl ?_
    refine e_dconst0 C dX8_dryOf_33 ?_
    refine e_dstore (lv2 := [(5, .double FP.dconst0), (3, .double (FP.i2d (nI (prd n 7 3)))), (2, .int (nI (min R (c + L)))), (0, .ref 25), (1, .int (nI c))]) C dX8_dryOf_34 (by decide) rfl ?_
    refine e_iconst (v := (nI 0)) C dX8_dryOf_36 (by decide) ?_
    refine e_istore (lv2 := [(7, .int (nI 0)), (5, .double FP.dconst0), (3, .double (FP.i2d (nI (prd n 7 3)))), (2, .int (nI (min R (c + L)))), (0, .ref 25), (1, .int (nI c))]) C dX8_dryOf_37 (by decide) rfl ?_
    refine e_loc [4, 5, 3, 2, 1, 0] rfl ?_
    have lp : ∀ (i : Nat) (x9 : UInt64), i ≤ sz → x9 = dryS (cT n (EE n P k W pv L)) f (prd n 7 3) D (min R (c + L)) i → Wd X (0, 0) 39 [(0, .ref 25), (1, .int (nI c)), (2, .int (nI (min R (c + L)))), (3, .double (FP.i2d (nI (prd n 7 3)))), (5, .double x9), (7, .int (nI i))] [] (shF w) M := by
      intro i
      induction hq_lp : sz - i using Nat.strongRecOn generalizing i with
      | ind k_lp ih_lp =>
        intro x9 hi hx9
        refine e_iload C dX8_dryOf_39 rfl ?_
        refine e_aload_n C dX8_dryOf_41 rfl rfl ?_
        refine e_getI C dX8_dryOf_42 fX8_205 rfl rfl ?_
        refine e_topi (nI sz) hA.1 ?_
        refine e_icmp_geN (tgt := 98) C dX8_dryOf_45 (by omega) (by omega) (by decide) (fun h45 => ?_) (fun h45 => ?_)
        · refine e_dload C dX8_dryOf_98 rfl ?_
          exact e_dret C dX8_dryOf_100 RT ⟨Nat.zero_le _, Nat.zero_le _⟩ (pd_ (by rw [hx9, show i = sz by omega]))
        · have hf30 := hf3 i (by omega)
          have hcf := hcl (f i)
          have hpx := dryP_ok (cnt := (cT n (EE n P k W pv L))) (f := f) (sz := sz) (i := i) (h := min R (c + L)) hX hDc he he2 hN0 hN1 hc1 hcs (by omega)
          have hs1 := (hSS (i + 1) (by omega)).1
          refine e_aload_n C dX8_dryOf_48 rfl rfl ?_
          refine e_getR (q := 42) C dX8_dryOf_49 fX8_66 rfl rfl ?_
          refine e_iload C dX8_dryOf_52 rfl ?_
          refine e_ialoadN C dX8_dryOf_54 rfl (by omega) (by omega) ?_
          refine e_topi (nI (f i)) (hA.2.2 i (by omega)) ?_
          refine e_istore (lv2 := [(8, .int (nI (f i))), (0, .ref 25), (1, .int (nI c)), (2, .int (nI (min R (c + L)))), (3, .double (FP.i2d (nI (prd n 7 3)))), (5, .double x9), (7, .int (nI i))]) C dX8_dryOf_55 (by decide) rfl ?_
          refine e_dload C dX8_dryOf_57 rfl ?_
          refine e_aload_n C dX8_dryOf_59 rfl rfl ?_
          refine e_getR (q := 41) C dX8_dryOf_60 fX8_63 rfl rfl ?_
          refine e_iload C dX8_dryOf_63 rfl ?_
          refine e_ialoadN C dX8_dryOf_65 rfl (by omega) (by omega) ?_
          refine e_topi (nI (cT n (EE n P k W pv L) (f i))) (hA.2.1 _ (hf3 i (by omega))) ?_
          refine e_i2d C dX8_dryOf_66 ?_
          refine e_dload_n C dX8_dryOf_67 rfl rfl ?_
          refine e_ddiv C dX8_dryOf_68 hpx.1.n64 ?_
          refine e_iload C dX8_dryOf_69 rfl ?_
          refine e_iload_n C dX8_dryOf_71 rfl rfl ?_
          refine e_icmp_leN (tgt := 79) C dX8_dryOf_72 (by omega) (by omega) (by decide) (fun h72 => ?_) (fun h72 => ?_)
          · refine e_aload_n C dX8_dryOf_79 rfl rfl ?_
            refine e_getR (q := 43) C dX8_dryOf_80 fX8_69 rfl rfl ?_
            refine e_iload_n C dX8_dryOf_83 rfl rfl ?_
            refine e_iload C dX8_dryOf_84 rfl ?_
            refine e_isubN C dX8_dryOf_86 (by omega) ?_
            refine e_daloadN C dX8_dryOf_87 rfl (by omega) (by omega) ?_
            refine e_topd (D (min R (c + L) - f i)) (hD _ (by omega)) ?_
            have hxe : dryX D (min R (c + L)) (f i) = D (min R (c + L) - f i) := if_neg (by omega)
            have hse : dryS (cT n (EE n P k W pv L)) f (prd n 7 3) D (min R (c + L)) (i + 1) = FP.dadd (dryS (cT n (EE n P k W pv L)) f (prd n 7 3) D (min R (c + L)) i) (FP.dmul (shr ((cT n (EE n P k W pv L)) (f i)) (prd n 7 3)) (dryX D (min R (c + L)) (f i))) := rfl
            rw [hse, hxe, ← hx9] at hs1
            rw [hxe] at hpx hse
            refine e_dmul C dX8_dryOf_88 hpx.2.1.n64 ?_
            refine e_dadd C dX8_dryOf_89 hs1.n64 ?_
            refine e_dstore (lv2 := [(5, .double (FP.dadd x9 (FP.dmul (FP.ddiv (FP.i2d (nI (cT n (EE n P k W pv L) (f i)))) (FP.i2d (nI (prd n 7 3)))) (D (min R (c + L) - f i))))), (8, .int (nI (f i))), (0, .ref 25), (1, .int (nI c)), (2, .int (nI (min R (c + L)))), (3, .double (FP.i2d (nI (prd n 7 3)))), (7, .int (nI i))]) C dX8_dryOf_90 (by decide) rfl ?_
            refine e_iincN (lv2 := [(7, .int (nI (i + 1))), (5, .double (FP.dadd x9 (FP.dmul (FP.ddiv (FP.i2d (nI (cT n (EE n P k W pv L) (f i)))) (FP.i2d (nI (prd n 7 3)))) (D (min R (c + L) - f i))))), (8, .int (nI (f i))), (0, .ref 25), (1, .int (nI c)), (2, .int (nI (min R (c + L)))), (3, .double (FP.i2d (nI (prd n 7 3))))]) C dX8_dryOf_92 rfl (by decide) (nI_1 _) rfl ?_
            refine e_goto (tgt := 39) C dX8_dryOf_95 (by decide) ?_
            refine e_loc [3, 4, 5, 6, 1, 0] rfl ?_
            exact ih_lp (sz - (i + 1)) (by omega) (i + 1) rfl (FP.dadd x9 (FP.dmul (FP.ddiv (FP.i2d (nI (cT n (EE n P k W pv L) (f i)))) (FP.i2d (nI (prd n 7 3)))) (D (min R (c + L) - f i)))) (by omega) (by rw [hse, hx9]; rfl)
          · refine e_dconst1 C dX8_dryOf_75 ?_
            refine e_goto (tgt := 88) C dX8_dryOf_76 (by decide) ?_
            have hxe : dryX D (min R (c + L)) (f i) = FP.dconst1 := if_pos h72
            have hse : dryS (cT n (EE n P k W pv L)) f (prd n 7 3) D (min R (c + L)) (i + 1) = FP.dadd (dryS (cT n (EE n P k W pv L)) f (prd n 7 3) D (min R (c + L)) i) (FP.dmul (shr ((cT n (EE n P k W pv L)) (f i)) (prd n 7 3)) (dryX D (min R (c + L)) (f i))) := rfl
            rw [hse, hxe, ← hx9] at hs1
            rw [hxe] at hpx hse
            refine e_dmul C dX8_dryOf_88 hpx.2.1.n64 ?_
            refine e_dadd C dX8_dryOf_89 hs1.n64 ?_
            refine e_dstore (lv2 := [(5, .double (FP.dadd x9 (FP.dmul (FP.ddiv (FP.i2d (nI (cT n (EE n P k W pv L) (f i)))) (FP.i2d (nI (prd n 7 3)))) FP.dconst1))), (8, .int (nI (f i))), (0, .ref 25), (1, .int (nI c)), (2, .int (nI (min R (c + L)))), (3, .double (FP.i2d (nI (prd n 7 3)))), (7, .int (nI i))]) C dX8_dryOf_90 (by decide) rfl ?_
            refine e_iincN (lv2 := [(7, .int (nI (i + 1))), (5, .double (FP.dadd x9 (FP.dmul (FP.ddiv (FP.i2d (nI (cT n (EE n P k W pv L) (f i)))) (FP.i2d (nI (prd n 7 3)))) FP.dconst1))), (8, .int (nI (f i))), (0, .ref 25), (1, .int (nI c)), (2, .int (nI (min R (c + L)))), (3, .double (FP.i2d (nI (prd n 7 3))))]) C dX8_dryOf_92 rfl (by decide) (nI_1 _) rfl ?_
            refine e_goto (tgt := 39) C dX8_dryOf_95 (by decide) ?_
            refine e_loc [3, 4, 5, 6, 1, 0] rfl ?_
            exact ih_lp (sz - (i + 1)) (by omega) (i + 1) rfl (FP.dadd x9 (FP.dmul (FP.ddiv (FP.i2d (nI (cT n (EE n P k W pv L) (f i)))) (FP.i2d (nI (prd n 7 3)))) FP.dconst1)) (by omega) (by rw [hse, hx9]; rfl)
    exact lp 0 _ (by omega) rfl
  · refine e_iload_n C dX8_dryOf_13 rfl rfl ?_
    refine e_aload_n C dX8_dryOf_14 rfl rfl ?_
    refine e_getI C dX8_dryOf_15 fX8_31 rfl rfl ?_
    refine e_topi (nI L) hL ?_
    refine e_iaddN C dX8_dryOf_18 ?_
    refine e_goto (tgt := 26) C dX8_dryOf_19 (by decide) ?_
    refine e_topi (nI (min R (c + L))) (congrArg nI (by omega)) ?_
    refine e_istore_n (lv2 := [(2, .int (nI (min R (c + L)))), (0, .ref 25), (1, .int (nI c))]) C dX8_dryOf_26 rfl (by decide) rfl ?_
    refine e_aload_n C dX8_dryOf_27 rfl rfl ?_
    refine e_callVi C dX8_dryOf_28 [] (r_allEndings hS) okX8_allEndings lX8_149 rfl rfl rfl ⟨rfl, rfl⟩ ⟨Nat.le_of_ble_eq_true rfl, Nat.le_of_ble_eq_true rfl⟩ (Nat.le_of_ble_eq_true rfl) ⟨Nat.zero_le _, Nat.zero_le _⟩ ?_
    refine e_i2d C dX8_dryOf_31 ?_
    refine e_dstore_n (lv2 := [(3, .double (FP.i2d (nI (prd n 7 3)))), (2, .int (nI (min R (c + L)))), (0, .ref 25), (1, .int (nI c))]) C dX8_dryOf_32 rfl (by decide) rfl ?_
    refine e_dconst0 C dX8_dryOf_33 ?_
    refine e_dstore (lv2 := [(5, .double FP.dconst0), (3, .double (FP.i2d (nI (prd n 7 3)))), (2, .int (nI (min R (c + L)))), (0, .ref 25), (1, .int (nI c))]) C dX8_dryOf_34 (by decide) rfl ?_
    refine e_iconst (v := (nI 0)) C dX8_dryOf_36 (by decide) ?_
    refine e_istore (lv2 := [(7, .int (nI 0)), (5, .double FP.dconst0), (3, .double (FP.i2d (nI (prd n 7 3)))), (2, .int (nI (min R (c + L)))), (0, .ref 25), (1, .int (nI c))]) C dX8_dryOf_37 (by decide) rfl ?_
    refine e_loc [4, 5, 3, 2, 1, 0] rfl ?_
    have lp : ∀ (i : Nat) (x9 : UInt64), i ≤ sz → x9 = dryS (cT n (EE n P k W pv L)) f (prd n 7 3) D (min R (c + L)) i → Wd X (0, 0) 39 [(0, .ref 25), (1, .int (nI c)), (2, .int (nI (min R (c + L)))), (3, .double (FP.i2d (nI (prd n 7 3)))), (5, .double x9), (7, .int (nI i))] [] (shF w) M := by
      intro i
      induction hq_lp : sz - i using Nat.strongRecOn generalizing i with
      | ind k_lp ih_lp =>
        intro x9 hi hx9
        refine e_iload C dX8_dryOf_39 rfl ?_
        refine e_aload_n C dX8_dryOf_41 rfl rfl ?_
        refine e_getI C dX8_dryOf_42 fX8_205 rfl rfl ?_
        refine e_topi (nI sz) hA.1 ?_
        refine e_icmp_geN (tgt := 98) C dX8_dryOf_45 (by omega) (by omega) (by decide) (fun h45 => ?_) (fun h45 => ?_)
        · refine e_dload C dX8_dryOf_98 rfl ?_
          exact e_dret C dX8_dryOf_100 RT ⟨Nat.zero_le _, Nat.zero_le _⟩ (pd_ (by rw [hx9, show i = sz by omega]))
        · have hf30 := hf3 i (by omega)
          have hcf := hcl (f i)
          have hpx := dryP_ok (cnt := (cT n (EE n P k W pv L))) (f := f) (sz := sz) (i := i) (h := min R (c + L)) hX hDc he he2 hN0 hN1 hc1 hcs (by omega)
          have hs1 := (hSS (i + 1) (by omega)).1
          refine e_aload_n C dX8_dryOf_48 rfl rfl ?_
          refine e_getR (q := 42) C dX8_dryOf_49 fX8_66 rfl rfl ?_
          refine e_iload C dX8_dryOf_52 rfl ?_
          refine e_ialoadN C dX8_dryOf_54 rfl (by omega) (by omega) ?_
          refine e_topi (nI (f i)) (hA.2.2 i (by omega)) ?_
          refine e_istore (lv2 := [(8, .int (nI (f i))), (0, .ref 25), (1, .int (nI c)), (2, .int (nI (min R (c + L)))), (3, .double (FP.i2d (nI (prd n 7 3)))), (5, .double x9), (7, .int (nI i))]) C dX8_dryOf_55 (by decide) rfl ?_
          refine e_dload C dX8_dryOf_57 rfl ?_
          refine e_aload_n C dX8_dryOf_59 rfl rfl ?_
          refine e_getR (q := 41) C dX8_dryOf_60 fX8_63 rfl rfl ?_
          refine e_iload C dX8_dryOf_63 rfl ?_
          refine e_ialoadN C dX8_dryOf_65 rfl (by omega) (by omega) ?_
          refine e_topi (nI (cT n (EE n P k W pv L) (f i))) (hA.2.1 _ (hf3 i (by omega))) ?_
          refine e_i2d C dX8_dryOf_66 ?_
          refine e_dload_n C dX8_dryOf_67 rfl rfl ?_
          refine e_ddiv C dX8_dryOf_68 hpx.1.n64 ?_
          refine e_iload C dX8_dryOf_69 rfl ?_
          refine e_iload_n C dX8_dryOf_71 rfl rfl ?_
          refine e_icmp_leN (tgt := 79) C dX8_dryOf_72 (by omega) (by omega) (by decide) (fun h72 => ?_) (fun h72 => ?_)
          · refine e_aload_n C dX8_dryOf_79 rfl rfl ?_
            refine e_getR (q := 43) C dX8_dryOf_80 fX8_69 rfl rfl ?_
            refine e_iload_n C dX8_dryOf_83 rfl rfl ?_
            refine e_iload C dX8_dryOf_84 rfl ?_
            refine e_isubN C dX8_dryOf_86 (by omega) ?_
            refine e_daloadN C dX8_dryOf_87 rfl (by omega) (by omega) ?_
            refine e_topd (D (min R (c + L) - f i)) (hD _ (by omega)) ?_
            have hxe : dryX D (min R (c + L)) (f i) = D (min R (c + L) - f i) := if_neg (by omega)
            have hse : dryS (cT n (EE n P k W pv L)) f (prd n 7 3) D (min R (c + L)) (i + 1) = FP.dadd (dryS (cT n (EE n P k W pv L)) f (prd n 7 3) D (min R (c + L)) i) (FP.dmul (shr ((cT n (EE n P k W pv L)) (f i)) (prd n 7 3)) (dryX D (min R (c + L)) (f i))) := rfl
            rw [hse, hxe, ← hx9] at hs1
            rw [hxe] at hpx hse
            refine e_dmul C dX8_dryOf_88 hpx.2.1.n64 ?_
            refine e_dadd C dX8_dryOf_89 hs1.n64 ?_
            refine e_dstore (lv2 := [(5, .double (FP.dadd x9 (FP.dmul (FP.ddiv (FP.i2d (nI (cT n (EE n P k W pv L) (f i)))) (FP.i2d (nI (prd n 7 3)))) (D (min R (c + L) - f i))))), (8, .int (nI (f i))), (0, .ref 25), (1, .int (nI c)), (2, .int (nI (min R (c + L)))), (3, .double (FP.i2d (nI (prd n 7 3)))), (7, .int (nI i))]) C dX8_dryOf_90 (by decide) rfl ?_
            refine e_iincN (lv2 := [(7, .int (nI (i + 1))), (5, .double (FP.dadd x9 (FP.dmul (FP.ddiv (FP.i2d (nI (cT n (EE n P k W pv L) (f i)))) (FP.i2d (nI (prd n 7 3)))) (D (min R (c + L) - f i))))), (8, .int (nI (f i))), (0, .ref 25), (1, .int (nI c)), (2, .int (nI (min R (c + L)))), (3, .double (FP.i2d (nI (prd n 7 3))))]) C dX8_dryOf_92 rfl (by decide) (nI_1 _) rfl ?_
            refine e_goto (tgt := 39) C dX8_dryOf_95 (by decide) ?_
            refine e_loc [3, 4, 5, 6, 1, 0] rfl ?_
            exact ih_lp (sz - (i + 1)) (by omega) (i + 1) rfl (FP.dadd x9 (FP.dmul (FP.ddiv (FP.i2d (nI (cT n (EE n P k W pv L) (f i)))) (FP.i2d (nI (prd n 7 3)))) (D (min R (c + L) - f i)))) (by omega) (by rw [hse, hx9]; rfl)
          · refine e_dconst1 C dX8_dryOf_75 ?_
            refine e_goto (tgt := 88) C dX8_dryOf_76 (by decide) ?_
            have hxe : dryX D (min R (c + L)) (f i) = FP.dconst1 := if_pos h72
            have hse : dryS (cT n (EE n P k W pv L)) f (prd n 7 3) D (min R (c + L)) (i + 1) = FP.dadd (dryS (cT n (EE n P k W pv L)) f (prd n 7 3) D (min R (c + L)) i) (FP.dmul (shr ((cT n (EE n P k W pv L)) (f i)) (prd n 7 3)) (dryX D (min R (c + L)) (f i))) := rfl
            rw [hse, hxe, ← hx9] at hs1
            rw [hxe] at hpx hse
            refine e_dmul C dX8_dryOf_88 hpx.2.1.n64 ?_
            refine e_dadd C dX8_dryOf_89 hs1.n64 ?_
            refine e_dstore (lv2 := [(5, .double (FP.dadd x9 (FP.dmul (FP.ddiv (FP.i2d (nI (cT n (EE n P k W pv L) (f i)))) (FP.i2d (nI (prd n 7 3)))) FP.dconst1))), (8, .int (nI (f i))), (0, .ref 25), (1, .int (nI c)), (2, .int (nI (min R (c + L)))), (3, .double (FP.i2d (nI (prd n 7 3)))), (7, .int (nI i))]) C dX8_dryOf_90 (by decide) rfl ?_
            refine e_iincN (lv2 := [(7, .int (nI (i + 1))), (5, .double (FP.dadd x9 (FP.dmul (FP.ddiv (FP.i2d (nI (cT n (EE n P k W pv L) (f i)))) (FP.i2d (nI (prd n 7 3)))) FP.dconst1))), (8, .int (nI (f i))), (0, .ref 25), (1, .int (nI c)), (2, .int (nI (min R (c + L)))), (3, .double (FP.i2d (nI (prd n 7 3))))]) C dX8_dryOf_92 rfl (by decide) (nI_1 _) rfl ?_
            refine e_goto (tgt := 39) C dX8_dryOf_95 (by decide) ?_
            refine e_loc [3, 4, 5, 6, 1, 0] rfl ?_
            exact ih_lp (sz - (i + 1)) (by omega) (i + 1) rfl (FP.dadd x9 (FP.dmul (FP.ddiv (FP.i2d (nI (cT n (EE n P k W pv L) (f i)))) (FP.i2d (nI (prd n 7 3)))) FP.dconst1)) (by omega) (by rw [hse, hx9]; rfl)
    exact lp 0 _ (by omega) rfl
set_option maxHeartbeats 1000000 in
set_option maxRecDepth 100000 in
theorem q_dry {w : Bool} {M : Mm} {n P cnt : Nat → Nat} {k : Nat} {W : Nat → Nat → Int32} {pv : Nat → Nat} {L R H : Nat} {z : Nat → Int32} {g : Nat} {q : Nat → Nat → Nat} (hI : RInv M (n, P, cnt, k, W, pv, L, R, H, z, g, q)) {sz : Nat} {f : Nat → Nat} (hE : Enum (cT n (EE n P k W pv L)) sz f) (h t : Int32) : CT mX8_dry [.ref 25, .int h, .int t] (shF w) M (Ql (spDry sz f (n, P, cnt, k, W, pv, L, R, H, z, g, q) h t).1 (shF w) (fun m0 => RInv m0 (spDry sz f (n, P, cnt, k, W, pv, L, R, H, z, g, q) h t).2 ∧ FrR M m0)) := by
  refine CT.mk (lv := [(0, .ref 25), (1, .int h), (2, .int t)]) rfl (by decide +kernel) (Nat.le_of_ble_eq_true rfl) ?_
  intro X C RT
  obtain ⟨hB, hCt, hF, hH, hG, hQ⟩ := id hI
  obtain ⟨hS, hT, hL, hL1, hL3⟩ := id hB
  have n0 := hS.2.1 0 (by decide)
  have n1 := hS.2.1 1 (by decide)
  have n2 := hS.2.1 2 (by decide)
  obtain ⟨t0, t1, tH, tR, tR2, tz⟩ := id hH
  have hk12 := hT.2.1
  have hs455 : sz ≤ 455 := hE.le (fun u hu => cT_SL hk12 u hu)
  have hN1 := prd_le n0.2 n1.2 n2.2 7
  have hN0 := prd_pos (n := n) (by omega) (by omega) (by omega)
  have hc1 : ∀ i, i < sz → 1 ≤ (cT n (EE n P k W pv L)) (f i) := fun i hi => hE.2.1 i hi
  obtain ⟨DL, hDL⟩ : ∃ DL, DL = dryL (cT n (EE n P k W pv L)) f sz (prd n 7 3) L R := ⟨_, rfl⟩
  have hDok : ∀ t, t ≤ 50 → ∀ c, Bd (DL t c) (fO + t * 1820 * fd) (1074 - 13 * t) := by rw [hDL]; exact dryL_ok hN0 hN1 hs455 hc1 hE.sum_le
  refine e_iload_n C dX8_dry_0 rfl rfl ?_
  refine e_i2l C dX8_dry_1 ?_
  refine e_lconst (v := lN 0) C dX8_dry_2 (by decide) ?_
  refine e_aload_n C dX8_dry_3 rfl rfl ?_
  refine e_getI C dX8_dry_4 fX8_57 rfl rfl ?_
  refine e_topi (nI R) t0 ?_
  refine e_i2lN C dX8_dry_7 (by omega) ?_
  refine e_callSi C dX8_dry_8 [.long h.toInt64, .long (lN 0), .long (lN R)] (r_inN h 0 R (by omega) (by omega)) okX8_in lX8_81 rfl ⟨rfl, rfl⟩ ⟨Nat.le_of_ble_eq_true rfl, Nat.le_of_ble_eq_true rfl⟩ (Nat.le_of_ble_eq_true rfl) ⟨Nat.zero_le _, Nat.zero_le _⟩ ?_
  refine e_if_eqB (b := decide (inn h (0 : Nat) (R : Nat))) (tgt := 26) C dX8_dry_11 (by decide) (fun h11 => ?_) (fun h11 => ?_)
  · refine e_ldc2 (v := (-2)) C dX8_dry_26 kX8_159 ?_
    exact e_lret C dX8_dry_29 RT ⟨Nat.zero_le _, Nat.zero_le _⟩ (rrl (if_neg (fun h9 => dec_f h11 h9.1)) hI (Same.rf _ M))
  · refine e_iload_n C dX8_dry_14 rfl rfl ?_
    refine e_i2l C dX8_dry_15 ?_
    refine e_lconst (v := lN 0) C dX8_dry_16 (by decide) ?_
    refine e_ldc2 (v := lN 50) C dX8_dry_17 kX8_208 ?_
    refine e_callSi C dX8_dry_20 [.long t.toInt64, .long (lN 0), .long (lN 50)] (r_inN t 0 50 (by omega) (by omega)) okX8_in lX8_81 rfl ⟨rfl, rfl⟩ ⟨Nat.le_of_ble_eq_true rfl, Nat.le_of_ble_eq_true rfl⟩ (Nat.le_of_ble_eq_true rfl) ⟨Nat.zero_le _, Nat.zero_le _⟩ ?_
    refine e_if_neB (b := decide (inn t (0 : Nat) (50 : Nat))) (tgt := 30) C dX8_dry_23 (by decide) (fun h23 => ?_) (fun h23 => ?_)
    · obtain ⟨h9, l_h9, u_h9, rfl⟩ := inn_N (b := R) (dec_t h11) (by decide)
      obtain ⟨t9, l_t9, u_t9, rfl⟩ := inn_N (b := 50) (dec_t h23) (by decide)
      refine e_aload_n C dX8_dry_30 rfl rfl ?_
      refine e_callVvQ C dX8_dry_31 [] (r_findAmounts hI hE) okX8_findAmounts lX8_210 rfl rfl rfl ⟨rfl, rfl⟩ ⟨Nat.le_of_ble_eq_true rfl, Nat.le_of_ble_eq_true rfl⟩ (Nat.le_of_ble_eq_true rfl) ⟨Nat.zero_le _, Nat.zero_le _⟩ (fun M1 hM1 => ?_)
      obtain ⟨hI, hf9⟩ := hM1.1
      obtain ⟨hB, hCt, hF, hH, hG, hQ⟩ := id hI
      obtain ⟨hS, hT, hL, hL1, hL3⟩ := id hB
      have n0 := hS.2.1 0 (by decide)
      have n1 := hS.2.1 1 (by decide)
      have n2 := hS.2.1 2 (by decide)
      have hA := hM1.2
      refine e_iconst (v := (nI 0)) C dX8_dry_34 (by decide) ?_
      refine e_istore_n (lv2 := [(3, .int (nI 0)), (0, .ref 25), (1, .int (nI h9)), (2, .int (nI t9))]) C dX8_dry_35 rfl (by decide) rfl ?_
      refine e_loc [1, 2, 3, 0] rfl ?_
      have lp : ∀ (i : Nat) (My : Mm), i ≤ R + 1 → (∀ j, j < i → gD My 43 j = FP.dconst0) → Same [43, 44] M1 My → Wd X (0, 0) 36 [(0, .ref 25), (1, .int (nI h9)), (2, .int (nI t9)), (3, .int (nI i))] [] (shF w) My := by
        intro i
        induction hq_lp : R + 1 - i using Nat.strongRecOn generalizing i with
        | ind k_lp ih_lp =>
          intro My hi hzy hsy
          refine e_iload_n C dX8_dry_36 rfl rfl ?_
          refine e_aload_n C dX8_dry_37 rfl rfl ?_
          refine e_getI C dX8_dry_38 fX8_57 rfl rfl ?_
          refine e_topi (nI R) (by rw [hsy.gI (by decide)]; exact hH.1) ?_
          refine e_icmp_gtN (tgt := 57) C dX8_dry_41 (by omega) (by omega) (by decide) (fun h41 => ?_) (fun h41 => ?_)
          · refine e_iconst (v := (nI 0)) C dX8_dry_57 (by decide) ?_
            refine e_istore_n (lv2 := [(3, .int (nI 0)), (0, .ref 25), (1, .int (nI h9)), (2, .int (nI t9))]) C dX8_dry_58 rfl (by decide) rfl ?_
            refine e_loc [1, 2, 3, 0] rfl ?_
            have lg : ∀ (g2 : Nat) (Mg : Mm), g2 ≤ t9 → (∀ j, j ≤ R → gD Mg 43 j = DL g2 j) → Same [43, 44] M1 Mg → Wd X (0, 0) 59 [(0, .ref 25), (1, .int (nI h9)), (2, .int (nI t9)), (3, .int (nI g2))] [] (shF w) Mg := by
              intro g2
              induction hq_lg : t9 - g2 using Nat.strongRecOn generalizing g2 with
              | ind k_lg ih_lg =>
                intro Mg hg2 hdg hsg
                have hXg : g2 ≤ 50 → XOK (fO + g2 * 1820 * fd) := fun h => ⟨by omega, by have := Nat.mul_le_mul_right fd (show g2 * 1820 ≤ 91000 by omega); omega⟩
                refine e_iload_n C dX8_dry_59 rfl rfl ?_
                refine e_iload_n C dX8_dry_60 rfl rfl ?_
                refine e_icmp_geN (tgt := 133) C dX8_dry_61 (by omega) (by omega) (by decide) (fun h61 => ?_) (fun h61 => ?_)
                · have hbq : Bq (DL t9 h9) := by rw [hDL]; exact dry_bq hN0 hN1 hs455 hc1 hE.sum_le (by omega)
                  refine e_aload_n C dX8_dry_133 rfl rfl ?_
                  refine e_getR (q := 43) C dX8_dry_134 fX8_69 rfl rfl ?_
                  refine e_iload_n C dX8_dry_137 rfl rfl ?_
                  refine e_daloadN C dX8_dry_138 rfl (by omega) (by omega) ?_
                  refine e_topd (DL t9 h9) (by rw [show t9 = g2 by omega]; exact hdg h9 (by omega)) ?_
                  refine e_callSl C dX8_dry_139 [.double (DL t9 h9)] (r_bitsOf (DL t9 h9) hbq) okX8_bitsOf lX8_217 rfl ⟨rfl, rfl⟩ ⟨Nat.le_of_ble_eq_true rfl, Nat.le_of_ble_eq_true rfl⟩ (Nat.le_of_ble_eq_true rfl) ⟨Nat.zero_le _, Nat.zero_le _⟩ ?_
                  exact e_lret C dX8_dry_142 RT ⟨Nat.zero_le _, Nat.zero_le _⟩ (rrl ((if_pos ⟨dec_t h11, dec_t h23⟩).trans (by rw [tn_nI (q := h9) (by omega), tn_nI (q := t9) (by omega), hDL])) (hI.sm hsg (by decide)) (hf9.tr (hsg.up (by decide))))
                · refine e_iconst (v := (nI 0)) C dX8_dry_64 (by decide) ?_
                  refine e_istore (lv2 := [(4, .int (nI 0)), (0, .ref 25), (1, .int (nI h9)), (2, .int (nI t9)), (3, .int (nI g2))]) C dX8_dry_65 (by decide) rfl ?_
                  refine e_loc [1, 2, 3, 4, 0] rfl ?_
                  have lc : ∀ (i : Nat) (Ml : Mm), i ≤ R + 1 → (∀ j, j < i → gD Ml 44 j = DL (g2 + 1) j) → (∀ j, j ≤ R → gD Ml 43 j = DL g2 j) → Same [43, 44] M1 Ml → Wd X (0, 0) 67 [(0, .ref 25), (1, .int (nI h9)), (2, .int (nI t9)), (3, .int (nI g2)), (4, .int (nI i))] [] (shF w) Ml := by
                    intro i
                    induction hq_lc : R + 1 - i using Nat.strongRecOn generalizing i with
                    | ind k_lc ih_lc =>
                      intro Ml hi2 hll hdl hsl
                      have hI8 := hI.sm hsl (by decide)
                      have hA8 := hA.sm hsl (by decide)
                      refine e_iload C dX8_dry_67 rfl ?_
                      refine e_aload_n C dX8_dry_69 rfl rfl ?_
                      refine e_getI C dX8_dry_70 fX8_57 rfl rfl ?_
                      refine e_topi (nI R) (by rw [hsl.gI (by decide)]; exact hH.1) ?_
                      refine e_icmp_gtN (tgt := 95) C dX8_dry_73 (by omega) (by omega) (by decide) (fun h73 => ?_) (fun h73 => ?_)
                      · refine e_iconst (v := (nI 0)) C dX8_dry_95 (by decide) ?_
                        refine e_istore (lv2 := [(4, .int (nI 0)), (0, .ref 25), (1, .int (nI h9)), (2, .int (nI t9)), (3, .int (nI g2))]) C dX8_dry_96 (by decide) rfl ?_
                        refine e_loc [1, 2, 3, 4, 0] rfl ?_
                        have ld : ∀ (x : Nat) (Mk : Mm), x ≤ R + 1 → (∀ j, j < x → gD Mk 43 j = DL (g2 + 1) j) → (∀ j, j ≤ R → gD Mk 44 j = DL (g2 + 1) j) → Same [43, 44] M1 Mk → Wd X (0, 0) 98 [(0, .ref 25), (1, .int (nI h9)), (2, .int (nI t9)), (3, .int (nI g2)), (4, .int (nI x))] [] (shF w) Mk := by
                          intro x
                          induction hq_ld : R + 1 - x using Nat.strongRecOn generalizing x with
                          | ind k_ld ih_ld =>
                            intro Mk hx hdk hlk hsk
                            refine e_iload C dX8_dry_98 rfl ?_
                            refine e_aload_n C dX8_dry_100 rfl rfl ?_
                            refine e_getI C dX8_dry_101 fX8_57 rfl rfl ?_
                            refine e_topi (nI R) (by rw [hsk.gI (by decide)]; exact hH.1) ?_
                            refine e_icmp_gtN (tgt := 127) C dX8_dry_104 (by omega) (by omega) (by decide) (fun h104 => ?_) (fun h104 => ?_)
                            · refine e_iincN (lv2 := [(3, .int (nI (g2 + 1))), (0, .ref 25), (1, .int (nI h9)), (2, .int (nI t9)), (4, .int (nI x))]) C dX8_dry_127 rfl (by decide) (nI_1 _) rfl ?_
                              refine e_goto (tgt := 59) C dX8_dry_130 (by decide) ?_
                              refine e_loc [1, 2, 3, 0] rfl ?_
                              exact ih_lg (t9 - (g2 + 1)) (by omega) (g2 + 1) rfl Mk (by omega) (fun j hj => hdk j (by omega)) hsk
                            · refine e_aload_n C dX8_dry_107 rfl rfl ?_
                              refine e_getR (q := 43) C dX8_dry_108 fX8_69 rfl rfl ?_
                              refine e_iload C dX8_dry_111 rfl ?_
                              refine e_aload_n C dX8_dry_113 rfl rfl ?_
                              refine e_getR (q := 44) C dX8_dry_114 fX8_73 rfl rfl ?_
                              refine e_iload C dX8_dry_117 rfl ?_
                              refine e_daloadN C dX8_dry_119 rfl (by omega) (by omega) ?_
                              refine e_topd (DL (g2 + 1) x) (hlk x (by omega)) ?_
                              refine e_dastoreN C dX8_dry_120 rfl (by omega) (by omega) ?_
                              refine e_nm (fun M2 hM2 => ?_)
                              refine e_iincN (lv2 := [(4, .int (nI (x + 1))), (0, .ref 25), (1, .int (nI h9)), (2, .int (nI t9)), (3, .int (nI g2))]) C dX8_dry_121 rfl (by decide) (nI_1 _) rfl ?_
                              refine e_goto (tgt := 98) C dX8_dry_124 (by decide) ?_
                              refine e_loc [1, 2, 3, 4, 0] rfl ?_
                              exact ih_ld (R + 1 - (x + 1)) (by omega) (x + 1) rfl M2 (by omega) (fun j hj => by rw [hM2, gD_sD]; by_cases e9 : j = x; (subst e9; rw [updD_s]); (rw [updD_n _ _ e9]; exact hdk j (by omega))) (fun j hj => by rw [hM2, gD_sD_ne _ _ (by decide)]; exact hlk j hj) (by rw [hM2]; exact hsk.D (by decide))
                        exact ld 0 Ml (by omega) (fun j hj => absurd hj (by omega)) (fun j hj => hll j (by omega)) hsl
                      · refine e_aload_n C dX8_dry_76 rfl rfl ?_
                        refine e_getR (q := 44) C dX8_dry_77 fX8_73 rfl rfl ?_
                        refine e_iload C dX8_dry_80 rfl ?_
                        refine e_aload_n C dX8_dry_82 rfl rfl ?_
                        refine e_iload C dX8_dry_83 rfl ?_
                        refine e_callVd C dX8_dry_85 [.int (nI i)] (r_dryOf hI8.1 hA8 hE hI8.2.2.2.1 (DL g2) i (fO + g2 * 1820 * fd) (1074 - 13 * g2) (by omega) hdl (fun j _ => hDok g2 (by omega) j) (hXg (by omega)) (by omega) (by omega)) okX8_dryOf lX8_213 rfl rfl rfl ⟨rfl, rfl⟩ ⟨Nat.le_of_ble_eq_true rfl, Nat.le_of_ble_eq_true rfl⟩ (Nat.le_of_ble_eq_true rfl) ⟨Nat.zero_le _, Nat.zero_le _⟩ ?_
                        refine e_dastoreN C dX8_dry_88 rfl (by omega) (by omega) ?_
                        refine e_nm (fun M3 hM3 => ?_)
                        refine e_iincN (lv2 := [(4, .int (nI (i + 1))), (0, .ref 25), (1, .int (nI h9)), (2, .int (nI t9)), (3, .int (nI g2))]) C dX8_dry_89 rfl (by decide) (nI_1 _) rfl ?_
                        refine e_goto (tgt := 67) C dX8_dry_92 (by decide) ?_
                        refine e_loc [1, 2, 3, 4, 0] rfl ?_
                        exact ih_lc (R + 1 - (i + 1)) (by omega) (i + 1) rfl M3 (by omega) (fun j hj => by rw [hM3, gD_sD]; by_cases e9 : j = i; (subst e9; rw [updD_s, hDL]; rfl); (rw [updD_n _ _ e9]; exact hll j (by omega))) (fun j hj => by rw [hM3, gD_sD_ne _ _ (by decide)]; exact hdl j hj) (by rw [hM3]; exact hsl.D (by decide))
                  exact lc 0 Mg (by omega) (fun j hj => absurd hj (by omega)) hdg hsg
            exact lg 0 My (by omega) (fun j hj => by rw [hzy j (by omega), hDL]; rfl) hsy
          · refine e_aload_n C dX8_dry_44 rfl rfl ?_
            refine e_getR (q := 43) C dX8_dry_45 fX8_69 rfl rfl ?_
            refine e_iload_n C dX8_dry_48 rfl rfl ?_
            refine e_dconst0 C dX8_dry_49 ?_
            refine e_dastoreN C dX8_dry_50 rfl (by omega) (by omega) ?_
            refine e_nm (fun M4 hM4 => ?_)
            refine e_iincN (lv2 := [(3, .int (nI (i + 1))), (0, .ref 25), (1, .int (nI h9)), (2, .int (nI t9))]) C dX8_dry_51 rfl (by decide) (nI_1 _) rfl ?_
            refine e_goto (tgt := 36) C dX8_dry_54 (by decide) ?_
            refine e_loc [1, 2, 3, 0] rfl ?_
            exact ih_lp (R + 1 - (i + 1)) (by omega) (i + 1) rfl M4 (by omega) (fun j hj => by rw [hM4, gD_sD]; by_cases e9 : j = i; (subst e9; rw [updD_s]); (rw [updD_n _ _ e9]; exact hzy j (by omega))) (by rw [hM4]; exact hsy.D (by decide))
      exact lp 0 M1 (by omega) (fun j hj => absurd hj (by omega)) (Same.rf _ _)
    · refine e_ldc2 (v := (-2)) C dX8_dry_26 kX8_159 ?_
      exact e_lret C dX8_dry_29 RT ⟨Nat.zero_le _, Nat.zero_le _⟩ (rrl (if_neg (fun h9 => dec_f h23 h9.2)) hI (Same.rf _ M))
