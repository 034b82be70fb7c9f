theorem php : ∀ (l1 l2 : List Nat), l1.Nodup → (∀ x ∈ l1, x ∈ l2) → l1.length ≤ l2.length
  | [], _, _, _ => Nat.zero_le _
  | x :: l1, l2, hn, hs => by
    have hx : x ∈ l2 := hs x List.mem_cons_self
    have hn2 := List.nodup_cons.mp hn
    have h1 := php l1 (l2.erase x) hn2.2 (fun y hy => (List.mem_erase_of_ne (fun (e : y = x) => hn2.1 (by rw [← e]; exact hy))).mpr (hs y (List.mem_cons_of_mem _ hy)))
    rw [List.length_erase_of_mem hx] at h1
    have h2 : 0 < l2.length := List.length_pos_of_mem hx
    simp only [List.length_cons]; omega
def g13 (pv : Nat → Nat) : Nat → Nat
  | 0 => 0
  | i + 1 => pv i
/-- all sums of three of the thirteen -/
def SL3 (g : Nat → Nat) : List Nat := (List.range 13).flatMap (fun i => (List.range (i + 1)).flatMap (fun j => (List.range (j + 1)).map (fun l => g i + g j + g l)))
set_option maxRecDepth 100000 in
theorem SL3_len (g : Nat → Nat) : (SL3 g).length = 455 := by
  unfold SL3
  simp only [List.length_flatMap, List.length_map, List.length_range]
  decide
theorem SL3_in {g : Nat → Nat} {i j l : Nat} (hi : i < 13) (hj : j ≤ i) (hl : l ≤ j) : g i + g j + g l ∈ SL3 g := by
  unfold SL3
  exact List.mem_flatMap.mpr ⟨i, List.mem_range.mpr hi, List.mem_flatMap.mpr ⟨j, List.mem_range.mpr (by omega), List.mem_map.mpr ⟨l, List.mem_range.mpr (by omega), rfl⟩⟩⟩
theorem SL3_mem {g : Nat → Nat} {i j l : Nat} (hi : i < 13) (hj : j < 13) (hl : l < 13) : g i + g j + g l ∈ SL3 g := by
  rcases Nat.le_total i j with h1 | h1 <;> rcases Nat.le_total j l with h2 | h2 <;> rcases Nat.le_total i l with h3 | h3
  · rw [show g i + g j + g l = g l + g j + g i by omega]; exact SL3_in hl h2 h1
  · rw [show g i + g j + g l = g l + g j + g i by omega]; exact SL3_in hl h2 h1
  · rw [show g i + g j + g l = g j + g l + g i by omega]; exact SL3_in hj h2 h3
  · rw [show g i + g j + g l = g j + g i + g l by omega]; exact SL3_in hj h1 h3
  · rw [show g i + g j + g l = g l + g i + g j by omega]; exact SL3_in hl h3 h1
  · rw [show g i + g j + g l = g i + g l + g j by omega]; exact SL3_in hi h3 h2
  · rw [show g i + g j + g l = g i + g j + g l by omega]; exact SL3_in hi h1 h2
  · exact SL3_in hi h1 h2
theorem amt_g {W : Nat → Nat → Int32} {pv : Nat → Nat} {k : Nat} (hk : k ≤ 12) (l : Nat) : ∃ x, x < 13 ∧ amt W pv k l = g13 pv x := by
  unfold amt
  cases ho : fstR W k l with
  | none => exact ⟨0, by decide, rfl⟩
  | some i => exact ⟨i + 1, by have := (fstb_lt ho).1; omega, rfl⟩
theorem if_g {c : Prop} [Decidable c] {W : Nat → Nat → Int32} {pv : Nat → Nat} {k : Nat} (hk : k ≤ 12) (l : Nat) : ∃ x, x < 13 ∧ (if c then amt W pv k l else 0) = g13 pv x := by
  split
  · exact amt_g hk l
  · exact ⟨0, by decide, rfl⟩
theorem EE_LS {n P : Nat → Nat} {k : Nat} {W : Nat → Nat → Int32} {pv : Nat → Nat} {L : Nat} (hk : k ≤ 12) (a b c : Nat) : EE n P k W pv L a b c ∈ SL3 (g13 pv) := by
  unfold EE endP
  obtain ⟨x, hx, ex⟩ := amt_g (W := W) (pv := pv) hk (lin P a b c)
  obtain ⟨y, hy, ey⟩ := if_g (c := 2 ≤ L) (W := W) (pv := pv) hk (lin P (abv (n 0) a) (abv (n 1) b) (abv (n 2) c))
  obtain ⟨z, hz, ez⟩ := if_g (c := 3 ≤ L) (W := W) (pv := pv) hk (lin P (blw (n 0) a) (blw (n 1) b) (blw (n 2) c))
  rw [ex, ey, ez]
  exact SL3_mem hx hy hz
theorem Enum.room {cnt : Nat → Nat} {sz : Nat} {f g : Nat → Nat} (h : Enum cnt sz f) (hu : ∀ u, 0 < cnt u → u ∈ SL3 g) {v : Nat} (hv : v ∈ SL3 g) (h0 : cnt v = 0) : sz < 455 := by
  have hnd : (v :: (List.range sz).map f).Nodup := by
    refine List.nodup_cons.mpr ⟨fun hm => ?_, ?_⟩
    · obtain ⟨i, hi, rfl⟩ := List.mem_map.mp hm
      have := h.2.1 i (List.mem_range.mp hi); omega
    · rw [List.Nodup, List.pairwise_map]
      refine List.Pairwise.imp_of_mem ?_ List.pairwise_lt_range
      intro a b ha hb hab
      have := h.1 a b hab (List.mem_range.mp hb); omega
  have h1 := php _ (SL3 g) hnd (fun x hx => by
    rcases List.mem_cons.mp hx with rfl | hx
    · exact hv
    · obtain ⟨i, hi, rfl⟩ := List.mem_map.mp hx
      exact hu _ (h.2.1 i (List.mem_range.mp hi)))
  rw [SL3_len] at h1
  simp only [List.length_cons, List.length_map, List.length_range] at h1
  omega
theorem sumN_zero {f : Nat → Nat} : ∀ {k : Nat}, (∀ i, f i = 0) → sumN f k = 0
  | 0, _ => rfl
  | k + 1, h => by simp only [sumN]; rw [sumN_zero h, h k]
/-- how many endings before (a, b, c) pay u -/
def cE (n : Nat → Nat) (E : Nat → Nat → Nat → Nat) (a b c u : Nat) : Nat := acc n (fun a b c => iw (E a b c = u) 1) a b c
def cT (n : Nat → Nat) (E : Nat → Nat → Nat → Nat) (u : Nat) : Nat := tot n (fun a b c => iw (E a b c = u) 1)
theorem cE_pos {n : Nat → Nat} {E : Nat → Nat → Nat → Nat} {a b c u : Nat} {l : List Nat} (hE : ∀ a b c, E a b c ∈ l) (h : 0 < cE n E a b c u) : u ∈ l := by
  by_cases hu : u ∈ l
  · exact hu
  · have h1 : ∀ a b c, iw (E a b c = u) 1 = 0 := fun a b c => by unfold iw; rw [if_neg (fun (e : E a b c = u) => hu (by rw [← e]; exact hE a b c))]
    unfold cE acc at h
    rw [sumN_zero (fun x => sumN_zero (fun y => sumN_zero (fun z => h1 x y z))), sumN_zero (fun y => sumN_zero (fun z => h1 a y z)), sumN_zero (fun z => h1 a b z)] at h
    exact absurd h (by decide)
theorem cE_c (n : Nat → Nat) (E : Nat → Nat → Nat → Nat) (a b c : Nat) : va_up (cE n E a b c) (E a b c) (cE n E a b c (E a b c) + 1) = cE n E a b (c + 1) := by
  funext u
  unfold cE
  rw [acc_c]
  unfold va_up iw
  by_cases h : u = E a b c
  · subst h; simp
  · rw [if_neg h, if_neg (fun e => h e.symm)]; rfl
def CpI (M : Mm) (n : Nat → Nat) (E : Nat → Nat → Nat → Nat) (M2 : Mm) (a b c : Nat) : Prop := PcE M (cE n E a b c) M2
theorem CpI.b {M : Mm} {n : Nat → Nat} {E : Nat → Nat → Nat → Nat} {M2 : Mm} {a b : Nat} (h : CpI M n E M2 a b (n 2)) : CpI M n E M2 a (b + 1) 0 := by
  have e : cE n E a (b + 1) 0 = cE n E a b (n 2) := by funext u; exact acc_b _ _ _ _
  unfold CpI; rw [e]; exact h
theorem CpI.a {M : Mm} {n : Nat → Nat} {E : Nat → Nat → Nat → Nat} {M2 : Mm} {a : Nat} (h : CpI M n E M2 a (n 1) 0) : CpI M n E M2 (a + 1) 0 0 := by
  have e : cE n E (a + 1) 0 0 = cE n E a (n 1) 0 := by funext u; exact acc_a _ _ _
  unfold CpI; rw [e]; exact h
/-- the flag of the counted pays, and what it says -/
def CpF (M : Mm) (n : Nat → Nat) (E : Nat → Nat → Nat → Nat) : Prop := gI M 0 11 = nI 0 ∨ (gI M 0 11 = nI 1 ∧ ∃ sz f, PcOK M (cT n E) sz f)
def CcF (M : Mm) (n : Nat → Nat) (E : Nat → Nat → Nat → Nat) (M2 : Mm) : Prop := (∃ sz f, PcOK M2 (cT n E) sz f) ∧ Same [0, 14, 15, 16] M M2 ∧ gI M2 0 = upd (gI M 0) 11 (nI 1)
theorem CpI.fin {M : Mm} {n : Nat → Nat} {E : Nat → Nat → Nat → Nat} {M2 : Mm} (h : CpI M n E M2 (n 0) 0 0) : CcF M n E (sI M2 0 (upd (gI M2 0) 11 (nI 1))) := by
  have e : cE n E (n 0) 0 0 = cT n E := by funext u; exact acc_n _ _
  obtain ⟨⟨sz, f, h1⟩, h2⟩ := h
  rw [e] at h1
  exact ⟨⟨sz, f, h1.same (gI_sI_ne _ _ (by decide)) (gI_sI_ne _ _ (by decide)) (gI_sI_ne _ _ (by decide))⟩, (h2.up (by decide)).I (by decide), by rw [gI_sI, h2.gI (by decide)]⟩
set_option maxHeartbeats 4000000 in
set_option maxRecDepth 100000 in
theorem k_countPays {w : Bool} {M : Mm} {n P : Nat → Nat} {k : Nat} {W : Nat → Nat → Int32} {pv : Nat → Nat} {L : Nat} (hB : Bs M n P k W pv L) (hF : CpF M n (EE n P k W pv L)) : CT mX7_countPays [.ref 0] (shF w) M (Qv (shF w) (CcF M n (EE n P k W pv L))) := by
  refine CT.mk (lv := [(0, .ref 0)]) rfl (by decide +kernel) (Nat.le_of_ble_eq_true rfl) ?_
  intro X C RT
  obtain ⟨hS, hT, hL, hL1, hL3⟩ := id hB
  have n0 := hS.2.1 0 (by decide)
  have n1 := hS.2.1 1 (by decide)
  have n2 := hS.2.1 2 (by decide)
  have hBM := hB
  have hk12 := hT.2.1
  rcases hF with hF | ⟨hF, hOK⟩
  · refine e_aload_n C dX7_countPays_0 rfl rfl ?_
    refine e_getI C dX7_countPays_1 fX7_74 rfl rfl ?_
    refine e_topi (nI 0) hF ?_
    refine e_if_eqN (tgt := 8) C dX7_countPays_4 (by omega) (by decide) (fun h4 => ?_) (fun h4 => by omega)
    refine e_aload_n C dX7_countPays_8 rfl rfl ?_
    refine e_getR (q := 14) C dX7_countPays_9 fX7_37 rfl rfl ?_
    refine e_callVvQ C dX7_countPays_12 [] (k_cbegin) okX1_begin lX7_270 rfl rfl rfl ⟨rfl, rfl⟩ ⟨Nat.le_of_ble_eq_true rfl, Nat.le_of_ble_eq_true rfl⟩ (Nat.le_of_ble_eq_true rfl) ⟨Nat.zero_le _, Nat.zero_le _⟩ (fun M1 hM1 => ?_)
    refine e_iconst (v := (nI 0)) C dX7_countPays_15 (by decide) ?_
    refine e_istore_n (lv2 := [(1, .int (nI 0)), (0, .ref 0)]) C dX7_countPays_16 rfl (by decide) rfl ?_
    refine e_loc [1, 0] rfl ?_
    have l1 : ∀ (a : Nat) (x1 : Mm), a ≤ n 0 → CpI M n (EE n P k W pv L) x1 a 0 0 → Wd X (0, 0) 17 [(0, .ref 0), (1, .int (nI a))] [] (shF w) x1 := by
      intro a
      induction hq_l1 : n 0 - a using Nat.strongRecOn generalizing a with
      | ind k_l1 ih_l1 =>
        intro x1 ha9 hI1
        have hB := hBM.sm hI1.2 (by decide)
        have hS := hB.1
        have hT := hB.2.1
        refine e_iload_n C dX7_countPays_17 rfl rfl ?_
        refine e_aload_n C dX7_countPays_18 rfl rfl ?_
        refine e_getR (q := 1) C dX7_countPays_19 fX7_10 rfl rfl ?_
        refine e_iconst (v := (nI 0)) C dX7_countPays_22 (by decide) ?_
        refine e_callVi C dX7_countPays_23 [.int (nI 0)] (k_stopsOf hS 0 (by omega)) okX4_stopsOf lX7_145 rfl rfl rfl ⟨rfl, rfl⟩ ⟨Nat.le_of_ble_eq_true rfl, Nat.le_of_ble_eq_true rfl⟩ (Nat.le_of_ble_eq_true rfl) ⟨Nat.zero_le _, Nat.zero_le _⟩ ?_
        refine e_icmp_geN (tgt := 89) C dX7_countPays_26 (by omega) (by omega) (by decide) (fun h26 => ?_) (fun h26 => ?_)
        · refine e_aload_n C dX7_countPays_89 rfl rfl ?_
          refine e_iconst (v := (nI 1)) C dX7_countPays_90 (by decide) ?_
          refine e_putI C dX7_countPays_91 pX7_74 rfl rfl (by decide) (by decide) ?_
          exact e_vret C dX7_countPays_94 RT ⟨Nat.zero_le _, Nat.zero_le _⟩ (qv_ (by have e9 : a = n 0 := (by omega); subst e9; exact hI1.fin))
        · refine e_iconst (v := (nI 0)) C dX7_countPays_29 (by decide) ?_
          refine e_istore_n (lv2 := [(2, .int (nI 0)), (0, .ref 0), (1, .int (nI a))]) C dX7_countPays_30 rfl (by decide) rfl ?_
          refine e_loc [1, 2, 0] rfl ?_
          have l2 : ∀ (b : Nat) (x2 : Mm), b ≤ n 1 → CpI M n (EE n P k W pv L) x2 a b 0 → Wd X (0, 0) 31 [(0, .ref 0), (1, .int (nI a)), (2, .int (nI b))] [] (shF w) x2 := by
            intro b
            induction hq_l2 : n 1 - b using Nat.strongRecOn generalizing b with
            | ind k_l2 ih_l2 =>
              intro x2 hb9 hI2
              have hB := hBM.sm hI2.2 (by decide)
              have hS := hB.1
              have hT := hB.2.1
              refine e_iload_n C dX7_countPays_31 rfl rfl ?_
              refine e_aload_n C dX7_countPays_32 rfl rfl ?_
              refine e_getR (q := 1) C dX7_countPays_33 fX7_10 rfl rfl ?_
              refine e_iconst (v := (nI 1)) C dX7_countPays_36 (by decide) ?_
              refine e_callVi C dX7_countPays_37 [.int (nI 1)] (k_stopsOf hS 1 (by omega)) okX4_stopsOf lX7_145 rfl rfl rfl ⟨rfl, rfl⟩ ⟨Nat.le_of_ble_eq_true rfl, Nat.le_of_ble_eq_true rfl⟩ (Nat.le_of_ble_eq_true rfl) ⟨Nat.zero_le _, Nat.zero_le _⟩ ?_
              refine e_icmp_geN (tgt := 83) C dX7_countPays_40 (by omega) (by omega) (by decide) (fun h40 => ?_) (fun h40 => ?_)
              · refine e_iincN (lv2 := [(1, .int (nI (a + 1))), (0, .ref 0), (2, .int (nI b))]) C dX7_countPays_83 rfl (by decide) (nI_1 _) rfl ?_
                refine e_goto (tgt := 17) C dX7_countPays_86 (by decide) ?_
                refine e_loc [1, 0] rfl ?_
                have hI4 := hI2
                rw [show b = n 1 by omega] at hI4
                exact ih_l1 (n 0 - (a + 1)) (by omega) (a + 1) rfl x2 (by omega) hI4.a
              · refine e_iconst (v := (nI 0)) C dX7_countPays_43 (by decide) ?_
                refine e_istore_n (lv2 := [(3, .int (nI 0)), (0, .ref 0), (1, .int (nI a)), (2, .int (nI b))]) C dX7_countPays_44 rfl (by decide) rfl ?_
                refine e_loc [1, 2, 3, 0] rfl ?_
                have l3 : ∀ (c : Nat) (x3 : Mm), c ≤ n 2 → CpI M n (EE n P k W pv L) x3 a b c → Wd X (0, 0) 45 [(0, .ref 0), (1, .int (nI a)), (2, .int (nI b)), (3, .int (nI c))] [] (shF w) x3 := by
                  intro c
                  induction hq_l3 : n 2 - c using Nat.strongRecOn generalizing c with
                  | ind k_l3 ih_l3 =>
                    intro x3 hc9 hI3
                    have hB := hBM.sm hI3.2 (by decide)
                    have hS := hB.1
                    have hT := hB.2.1
                    obtain ⟨⟨sz, f, hC3⟩, hC4⟩ := id hI3
                    have hr3 : cE n (EE n P k W pv L) a b c (EE n P k W pv L a b c) = 0 → sz < 455 := fun h0 => hC3.2.2.2.room (fun u hu => cE_pos (fun a b c => EE_LS hk12 a b c) hu) (EE_LS hk12 a b c) h0
                    refine e_iload_n C dX7_countPays_45 rfl rfl ?_
                    refine e_aload_n C dX7_countPays_46 rfl rfl ?_
                    refine e_getR (q := 1) C dX7_countPays_47 fX7_10 rfl rfl ?_
                    refine e_iconst (v := (nI 2)) C dX7_countPays_50 (by decide) ?_
                    refine e_callVi C dX7_countPays_51 [.int (nI 2)] (k_stopsOf hS 2 (by omega)) okX4_stopsOf lX7_145 rfl rfl rfl ⟨rfl, rfl⟩ ⟨Nat.le_of_ble_eq_true rfl, Nat.le_of_ble_eq_true rfl⟩ (Nat.le_of_ble_eq_true rfl) ⟨Nat.zero_le _, Nat.zero_le _⟩ ?_
                    refine e_icmp_geN (tgt := 77) C dX7_countPays_54 (by omega) (by omega) (by decide) (fun h54 => ?_) (fun h54 => ?_)
                    · refine e_iincN (lv2 := [(2, .int (nI (b + 1))), (0, .ref 0), (1, .int (nI a)), (3, .int (nI c))]) C dX7_countPays_77 rfl (by decide) (nI_1 _) rfl ?_
                      refine e_goto (tgt := 31) C dX7_countPays_80 (by decide) ?_
                      refine e_loc [1, 2, 0] rfl ?_
                      have hI4 := hI3
                      rw [show c = n 2 by omega] at hI4
                      exact ih_l2 (n 1 - (b + 1)) (by omega) (b + 1) rfl x3 (by omega) hI4.b
                    · refine e_aload_n C dX7_countPays_57 rfl rfl ?_
                      refine e_getR (q := 14) C dX7_countPays_58 fX7_37 rfl rfl ?_
                      refine e_aload_n C dX7_countPays_61 rfl rfl ?_
                      refine e_iload_n C dX7_countPays_62 rfl rfl ?_
                      refine e_iload_n C dX7_countPays_63 rfl rfl ?_
                      refine e_iload_n C dX7_countPays_64 rfl rfl ?_
                      have he2 := hB.le a b c
                      refine e_callVi C dX7_countPays_65 [.int (nI a), .int (nI b), .int (nI c)] (k_endingPays hB a b c (by omega) (by omega) (by omega)) okX7_endingPays lX7_131 rfl rfl rfl ⟨rfl, rfl⟩ ⟨Nat.le_of_ble_eq_true rfl, Nat.le_of_ble_eq_true rfl⟩ (Nat.le_of_ble_eq_true rfl) ⟨Nat.zero_le _, Nat.zero_le _⟩ ?_
                      refine e_callVvQ C dX7_countPays_68 [.int (nI (EE n P k W pv L a b c))] (k_cadd hC3 (EE n P k W pv L a b c) (by omega) hr3) okX1_add lX7_271 rfl rfl rfl ⟨rfl, rfl⟩ ⟨Nat.le_of_ble_eq_true rfl, Nat.le_of_ble_eq_true rfl⟩ (Nat.le_of_ble_eq_true rfl) ⟨Nat.zero_le _, Nat.zero_le _⟩ (fun M3 hM3 => ?_)
                      refine e_iincN (lv2 := [(3, .int (nI (c + 1))), (0, .ref 0), (1, .int (nI a)), (2, .int (nI b))]) C dX7_countPays_71 rfl (by decide) (nI_1 _) rfl ?_
                      refine e_goto (tgt := 45) C dX7_countPays_74 (by decide) ?_
                      have hI5 : CpI M n (EE n P k W pv L) M3 a b (c + 1) := by
                        refine ⟨?_, hC4.tr hM3.2⟩
                        rw [← cE_c]; exact hM3.1
                      refine e_loc [1, 2, 3, 0] rfl ?_
                      exact ih_l3 (n 2 - (c + 1)) (by omega) (c + 1) rfl M3 (by omega) hI5
                exact l3 0 x2 (Nat.zero_le _) hI2
          exact l2 0 x1 (Nat.zero_le _) hI1
    exact l1 0 M1 (Nat.zero_le _) hM1
  · refine e_aload_n C dX7_countPays_0 rfl rfl ?_
    refine e_getI C dX7_countPays_1 fX7_74 rfl rfl ?_
    refine e_topi (nI 1) hF ?_
    refine e_if_eqN (tgt := 8) C dX7_countPays_4 (by omega) (by decide) (fun h4 => by omega) (fun h4 => ?_)
    exact e_vret C dX7_countPays_7 RT ⟨Nat.zero_le _, Nat.zero_le _⟩ (qv_ ⟨hOK, Same.rf _ M, (upd_self hF).symm⟩)
def lf (r : Nat) : Nat := if r = 0 then 1 else 0
def rg (r : Nat) : Nat := if r = 2 then 1 else 2
def ln3 (r p x y : Nat) : Nat := if r = 0 then (p * 8 + x) * 8 + y else if r = 1 then (x * 8 + p) * 8 + y else (x * 8 + y) * 8 + p
/-- what a picture at one stop of the reel r pays in the middle over all stops of the others -/
def wgt (n P : Nat → Nat) (A : Nat → Nat) (r p : Nat) : Nat := sumN (fun i => sumN (fun j => A (ln3 r p (P (lf r * 20 + i)) (P (rg r * 20 + j)))) (n (rg r))) (n (lf r))
set_option maxHeartbeats 4000000 in
set_option maxRecDepth 100000 in
theorem k_weigh {w : Bool} {M : Mm} {n P : Nat → Nat} (hS : StOK M n P) {k : Nat} {W : Nat → Nat → Int32} {pv : Nat → Nat} (hT : TbOK M k W pv) (r : Nat) (hr : r < 3) : CT mX7_weighPictures [.ref 0, .int (nI r)] (shF w) M (Pv (shF w) (sJ M 24 (tabr (fun p => lN (wgt n P (amt W pv k) r p)) (gJ M 24) 8))) := by
  refine CT.mk (lv := [(0, .ref 0), (1, .int (nI r))]) rfl (by decide +kernel) (Nat.le_of_ble_eq_true rfl) ?_
  intro X C RT
  have n0 := hS.2.1 0 (by decide)
  have n1 := hS.2.1 1 (by decide)
  have n2 := hS.2.1 2 (by decide)
  have hA := fun l => amt_le (W := W) (pv := pv) (k := k) (l := l) (fun i hi => (hT.2.2.2.1 i hi).2)
  rcases (show r = 0 ∨ r = 1 ∨ r = 2 by omega) with rfl | rfl | rfl
  · refine e_iload_n C dX7_weighPictures_0 rfl rfl ?_
    refine e_if_neN (tgt := 8) C dX7_weighPictures_1 (by omega) (by decide) (fun h1 => by omega) (fun h1 => ?_)
    refine e_iconst (v := (nI 1)) C dX7_weighPictures_4 (by decide) ?_
    refine e_goto (tgt := 9) C dX7_weighPictures_5 (by decide) ?_
    refine e_istore_n (lv2 := [(2, .int (nI 1)), (0, .ref 0), (1, .int (nI 0))]) C dX7_weighPictures_9 rfl (by decide) rfl ?_
    refine e_iload_n C dX7_weighPictures_10 rfl rfl ?_
    refine e_iconst (v := (nI 2)) C dX7_weighPictures_11 (by decide) ?_
    refine e_icmp_neN (tgt := 19) C dX7_weighPictures_12 (by omega) (by omega) (by decide) (fun h12 => ?_) (fun h12 => by omega)
    refine e_iconst (v := (nI 2)) C dX7_weighPictures_19 (by decide) ?_
    refine e_istore_n (lv2 := [(3, .int (nI 2)), (2, .int (nI 1)), (0, .ref 0), (1, .int (nI 0))]) C dX7_weighPictures_20 rfl (by decide) rfl ?_
    refine e_iconst (v := (nI 0)) C dX7_weighPictures_21 (by decide) ?_
    refine e_istore (lv2 := [(4, .int (nI 0)), (3, .int (nI 2)), (2, .int (nI 1)), (0, .ref 0), (1, .int (nI 0))]) C dX7_weighPictures_22 (by decide) rfl ?_
    refine e_loc [3, 4, 2, 1, 0] rfl ?_
    have lp : ∀ (p : Nat) , p ≤ 8 → Wd X (0, 0) 24 [(0, .ref 0), (1, .int (nI 0)), (2, .int (nI 1)), (3, .int (nI 2)), (4, .int (nI p))] [] (shF w) (sJ M 24 (tabr (fun p => lN (wgt n P (amt W pv k) 0 p)) (gJ M 24) p)) := by
      intro p
      induction hq_lp : 8 - p using Nat.strongRecOn generalizing p with
      | ind k_lp ih_lp =>
        intro hp
        have hS : StOK (sJ M 24 (tabr (fun p => lN (wgt n P (amt W pv k) 0 p)) (gJ M 24) p)) n P := hS
        have hT : TbOK (sJ M 24 (tabr (fun p => lN (wgt n P (amt W pv k) 0 p)) (gJ M 24) p)) k W pv := hT
        refine e_iload C dX7_weighPictures_24 rfl ?_
        refine e_bipush (v := (nI 8)) C dX7_weighPictures_26 (by decide) ?_
        refine e_icmp_geN (tgt := 176) C dX7_weighPictures_28 (by omega) (by omega) (by decide) (fun h28 => ?_) (fun h28 => ?_)
        · exact e_vret C dX7_weighPictures_176 RT ⟨Nat.zero_le _, Nat.zero_le _⟩ (by rw [show p = 8 by omega]; exact ⟨rfl, rfl, rfl⟩)
        · refine e_lconst (v := lN 0) C dX7_weighPictures_31 (by decide) ?_
          refine e_lstore (lv2 := [(5, .long (lN 0)), (0, .ref 0), (1, .int (nI 0)), (2, .int (nI 1)), (3, .int (nI 2)), (4, .int (nI p))]) C dX7_weighPictures_32 (by decide) rfl ?_
          refine e_iconst (v := (nI 0)) C dX7_weighPictures_34 (by decide) ?_
          refine e_istore (lv2 := [(7, .int (nI 0)), (5, .long (lN 0)), (0, .ref 0), (1, .int (nI 0)), (2, .int (nI 1)), (3, .int (nI 2)), (4, .int (nI p))]) C dX7_weighPictures_35 (by decide) rfl ?_
          refine e_loc [2, 3, 4, 5, 6, 1, 0] rfl ?_
          have li : ∀ (i : Nat) (x9 : Nat), i ≤ n 1 → x9 = sumN (fun i => sumN (fun j => amt W pv k ((p * 8 + P (1 * 20 + i)) * 8 + P (2 * 20 + j))) (n 2)) i → Wd X (0, 0) 37 [(0, .ref 0), (1, .int (nI 0)), (2, .int (nI 1)), (3, .int (nI 2)), (4, .int (nI p)), (5, .long (lN x9)), (7, .int (nI i))] [] (shF w) (sJ M 24 (tabr (fun p => lN (wgt n P (amt W pv k) 0 p)) (gJ M 24) p)) := by
            intro i
            induction hq_li : n 1 - i using Nat.strongRecOn generalizing i with
            | ind k_li ih_li =>
              intro x9 hi hx9
              refine e_iload C dX7_weighPictures_37 rfl ?_
              refine e_aload_n C dX7_weighPictures_39 rfl rfl ?_
              refine e_getR (q := 1) C dX7_weighPictures_40 fX7_10 rfl rfl ?_
              refine e_iload_n C dX7_weighPictures_43 rfl rfl ?_
              refine e_callVi C dX7_weighPictures_44 [.int (nI 1)] (k_stopsOf hS 1 (by omega)) okX4_stopsOf lX7_145 rfl rfl rfl ⟨rfl, rfl⟩ ⟨Nat.le_of_ble_eq_true rfl, Nat.le_of_ble_eq_true rfl⟩ (Nat.le_of_ble_eq_true rfl) ⟨Nat.zero_le _, Nat.zero_le _⟩ ?_
              refine e_icmp_geN (tgt := 161) C dX7_weighPictures_47 (by omega) (by omega) (by decide) (fun h47 => ?_) (fun h47 => ?_)
              · refine e_aload_n C dX7_weighPictures_161 rfl rfl ?_
                refine e_getR (q := 24) C dX7_weighPictures_162 fX7_62 rfl rfl ?_
                refine e_iload C dX7_weighPictures_165 rfl ?_
                refine e_lload C dX7_weighPictures_167 rfl ?_
                refine e_lastoreN C dX7_weighPictures_169 rfl (by omega) (by omega) ?_
                refine e_mem (sJ M 24 (tabr (fun p => lN (wgt n P (amt W pv k) 0 p)) (gJ M 24) (p + 1))) (by rw [sJ_sJ, gJ_sJ, hx9, show i = n 1 by omega]; exact congrArg _ (tabr_1L _ _ p)) ?_
                refine e_iincN (lv2 := [(4, .int (nI (p + 1))), (0, .ref 0), (1, .int (nI 0)), (2, .int (nI 1)), (3, .int (nI 2)), (5, .long (lN x9)), (7, .int (nI i))]) C dX7_weighPictures_170 rfl (by decide) (nI_1 _) rfl ?_
                refine e_goto (tgt := 24) C dX7_weighPictures_173 (by decide) ?_
                refine e_loc [1, 2, 3, 4, 0] rfl ?_
                exact ih_lp (8 - (p + 1)) (by omega) (p + 1) rfl (by omega)
              · refine e_aload_n C dX7_weighPictures_50 rfl rfl ?_
                refine e_getR (q := 1) C dX7_weighPictures_51 fX7_10 rfl rfl ?_
                refine e_iload_n C dX7_weighPictures_54 rfl rfl ?_
                refine e_iload C dX7_weighPictures_55 rfl ?_
                have hb1 := hS.2.2.2.1 (1 * 20 + i)
                refine e_callVi C dX7_weighPictures_57 [.int (nI 1), .int (nI i)] (k_shown hS 1 i (by omega) (by omega)) okX4_shown lX7_102 rfl rfl rfl ⟨rfl, rfl⟩ ⟨Nat.le_of_ble_eq_true rfl, Nat.le_of_ble_eq_true rfl⟩ (Nat.le_of_ble_eq_true rfl) ⟨Nat.zero_le _, Nat.zero_le _⟩ ?_
                refine e_istore (lv2 := [(8, .int (nI (P (1 * 20 + i)))), (0, .ref 0), (1, .int (nI 0)), (2, .int (nI 1)), (3, .int (nI 2)), (4, .int (nI p)), (5, .long (lN x9)), (7, .int (nI i))]) C dX7_weighPictures_60 (by decide) rfl ?_
                refine e_iconst (v := (nI 0)) C dX7_weighPictures_62 (by decide) ?_
                refine e_istore (lv2 := [(9, .int (nI 0)), (8, .int (nI (P (1 * 20 + i)))), (0, .ref 0), (1, .int (nI 0)), (2, .int (nI 1)), (3, .int (nI 2)), (4, .int (nI p)), (5, .long (lN x9)), (7, .int (nI i))]) C dX7_weighPictures_63 (by decide) rfl ?_
                refine e_loc [2, 3, 4, 5, 6, 7, 8, 1, 0] rfl ?_
                have lj : ∀ (j : Nat) (y9 : Nat), j ≤ n 2 → y9 = x9 + sumN (fun j => amt W pv k ((p * 8 + P (1 * 20 + i)) * 8 + P (2 * 20 + j))) j → Wd X (0, 0) 65 [(0, .ref 0), (1, .int (nI 0)), (2, .int (nI 1)), (3, .int (nI 2)), (4, .int (nI p)), (5, .long (lN y9)), (7, .int (nI i)), (8, .int (nI (P (1 * 20 + i)))), (9, .int (nI j))] [] (shF w) (sJ M 24 (tabr (fun p => lN (wgt n P (amt W pv k) 0 p)) (gJ M 24) p)) := by
                  intro j
                  induction hq_lj : n 2 - j using Nat.strongRecOn generalizing j with
                  | ind k_lj ih_lj =>
                    intro y9 hj hy9
                    refine e_iload C dX7_weighPictures_65 rfl ?_
                    refine e_aload_n C dX7_weighPictures_67 rfl rfl ?_
                    refine e_getR (q := 1) C dX7_weighPictures_68 fX7_10 rfl rfl ?_
                    refine e_iload_n C dX7_weighPictures_71 rfl rfl ?_
                    refine e_callVi C dX7_weighPictures_72 [.int (nI 2)] (k_stopsOf hS 2 (by omega)) okX4_stopsOf lX7_145 rfl rfl rfl ⟨rfl, rfl⟩ ⟨Nat.le_of_ble_eq_true rfl, Nat.le_of_ble_eq_true rfl⟩ (Nat.le_of_ble_eq_true rfl) ⟨Nat.zero_le _, Nat.zero_le _⟩ ?_
                    refine e_icmp_geN (tgt := 155) C dX7_weighPictures_75 (by omega) (by omega) (by decide) (fun h75 => ?_) (fun h75 => ?_)
                    · refine e_iincN (lv2 := [(7, .int (nI (i + 1))), (0, .ref 0), (1, .int (nI 0)), (2, .int (nI 1)), (3, .int (nI 2)), (4, .int (nI p)), (5, .long (lN y9)), (8, .int (nI (P (1 * 20 + i)))), (9, .int (nI j))]) C dX7_weighPictures_155 rfl (by decide) (nI_1 _) rfl ?_
                      refine e_goto (tgt := 37) C dX7_weighPictures_158 (by decide) ?_
                      refine e_loc [1, 2, 3, 4, 5, 6, 0] rfl ?_
                      exact ih_li (n 1 - (i + 1)) (by omega) (i + 1) rfl y9 (by omega) (by simp only [sumN]; rw [hy9, hx9, show j = n 2 by omega])
                    · refine e_aload_n C dX7_weighPictures_78 rfl rfl ?_
                      refine e_getR (q := 1) C dX7_weighPictures_79 fX7_10 rfl rfl ?_
                      refine e_iload_n C dX7_weighPictures_82 rfl rfl ?_
                      refine e_iload C dX7_weighPictures_83 rfl ?_
                      have hb2 := hS.2.2.2.1 (2 * 20 + j)
                      refine e_callVi C dX7_weighPictures_85 [.int (nI 2), .int (nI j)] (k_shown hS 2 j (by omega) (by omega)) okX4_shown lX7_102 rfl rfl rfl ⟨rfl, rfl⟩ ⟨Nat.le_of_ble_eq_true rfl, Nat.le_of_ble_eq_true rfl⟩ (Nat.le_of_ble_eq_true rfl) ⟨Nat.zero_le _, Nat.zero_le _⟩ ?_
                      refine e_istore (lv2 := [(10, .int (nI (P (2 * 20 + j)))), (0, .ref 0), (1, .int (nI 0)), (2, .int (nI 1)), (3, .int (nI 2)), (4, .int (nI p)), (5, .long (lN y9)), (7, .int (nI i)), (8, .int (nI (P (1 * 20 + i)))), (9, .int (nI j))]) C dX7_weighPictures_88 (by decide) rfl ?_
                      refine e_iload_n C dX7_weighPictures_90 rfl rfl ?_
                      refine e_if_neN (tgt := 106) C dX7_weighPictures_91 (by omega) (by decide) (fun h91 => by omega) (fun h91 => ?_)
                      refine e_iload C dX7_weighPictures_94 rfl ?_
                      refine e_iload C dX7_weighPictures_96 rfl ?_
                      refine e_iload C dX7_weighPictures_98 rfl ?_
                      refine e_callSi C dX7_weighPictures_100 [.int (nI p), .int (nI (P (1 * 20 + i))), .int (nI (P (2 * 20 + j)))] (k_lineOf p (P (1 * 20 + i)) (P (2 * 20 + j))) okX7_lineOf lX7_255 rfl ⟨rfl, rfl⟩ ⟨Nat.le_of_ble_eq_true rfl, Nat.le_of_ble_eq_true rfl⟩ (Nat.le_of_ble_eq_true rfl) ⟨Nat.zero_le _, Nat.zero_le _⟩ ?_
                      refine e_goto (tgt := 132) C dX7_weighPictures_103 (by decide) ?_
                      refine e_istore (lv2 := [(11, .int (nI ((p * 8 + (P (1 * 20 + i))) * 8 + (P (2 * 20 + j))))), (10, .int (nI (P (2 * 20 + j)))), (0, .ref 0), (1, .int (nI 0)), (2, .int (nI 1)), (3, .int (nI 2)), (4, .int (nI p)), (5, .long (lN y9)), (7, .int (nI i)), (8, .int (nI (P (1 * 20 + i)))), (9, .int (nI j))]) C dX7_weighPictures_132 (by decide) rfl ?_
                      refine e_lload C dX7_weighPictures_134 rfl ?_
                      refine e_aload_n C dX7_weighPictures_136 rfl rfl ?_
                      refine e_getR (q := 7) C dX7_weighPictures_137 fX7_23 rfl rfl ?_
                      refine e_iload C dX7_weighPictures_140 rfl ?_
                      refine e_callVi C dX7_weighPictures_142 [.int (nI ((p * 8 + (P (1 * 20 + i))) * 8 + (P (2 * 20 + j))))] (k_amount hT ((p * 8 + (P (1 * 20 + i))) * 8 + (P (2 * 20 + j))) (by omega)) okX2_amount lX7_258 rfl rfl rfl ⟨rfl, rfl⟩ ⟨Nat.le_of_ble_eq_true rfl, Nat.le_of_ble_eq_true rfl⟩ (Nat.le_of_ble_eq_true rfl) ⟨Nat.zero_le _, Nat.zero_le _⟩ ?_
                      have hA9 := hA ((p * 8 + (P (1 * 20 + i))) * 8 + (P (2 * 20 + j)))
                      refine e_i2lN C dX7_weighPictures_145 (by omega) ?_
                      refine e_laddN C dX7_weighPictures_146 ?_
                      refine e_lstore (lv2 := [(5, .long (lN (y9 + (amt W pv k ((p * 8 + (P (1 * 20 + i))) * 8 + (P (2 * 20 + j))))))), (11, .int (nI ((p * 8 + (P (1 * 20 + i))) * 8 + (P (2 * 20 + j))))), (10, .int (nI (P (2 * 20 + j)))), (0, .ref 0), (1, .int (nI 0)), (2, .int (nI 1)), (3, .int (nI 2)), (4, .int (nI p)), (7, .int (nI i)), (8, .int (nI (P (1 * 20 + i)))), (9, .int (nI j))]) C dX7_weighPictures_147 (by decide) rfl ?_
                      refine e_iincN (lv2 := [(9, .int (nI (j + 1))), (5, .long (lN (y9 + (amt W pv k ((p * 8 + (P (1 * 20 + i))) * 8 + (P (2 * 20 + j))))))), (11, .int (nI ((p * 8 + (P (1 * 20 + i))) * 8 + (P (2 * 20 + j))))), (10, .int (nI (P (2 * 20 + j)))), (0, .ref 0), (1, .int (nI 0)), (2, .int (nI 1)), (3, .int (nI 2)), (4, .int (nI p)), (7, .int (nI i)), (8, .int (nI (P (1 * 20 + i))))]) C dX7_weighPictures_149 rfl (by decide) (nI_1 _) rfl ?_
                      refine e_goto (tgt := 65) C dX7_weighPictures_152 (by decide) ?_
                      refine e_loc [4, 5, 6, 7, 8, 1, 9, 10, 0] rfl ?_
                      exact ih_lj (n 2 - (j + 1)) (by omega) (j + 1) rfl (y9 + (amt W pv k ((p * 8 + (P (1 * 20 + i))) * 8 + (P (2 * 20 + j))))) (by omega) (by simp only [sumN]; omega)
                exact lj 0 x9 (by omega) rfl
          exact li 0 0 (by omega) rfl
    refine e_mem (sJ M 24 (tabr (fun p => lN (wgt n P (amt W pv k) 0 p)) (gJ M 24) 0)) (by rw [tabr_0, sJ_self]) ?_
    exact lp 0 (by omega)
  · refine e_iload_n C dX7_weighPictures_0 rfl rfl ?_
    refine e_if_neN (tgt := 8) C dX7_weighPictures_1 (by omega) (by decide) (fun h1 => ?_) (fun h1 => by omega)
    refine e_iconst (v := (nI 0)) C dX7_weighPictures_8 (by decide) ?_
    refine e_istore_n (lv2 := [(2, .int (nI 0)), (0, .ref 0), (1, .int (nI 1))]) C dX7_weighPictures_9 rfl (by decide) rfl ?_
    refine e_iload_n C dX7_weighPictures_10 rfl rfl ?_
    refine e_iconst (v := (nI 2)) C dX7_weighPictures_11 (by decide) ?_
    refine e_icmp_neN (tgt := 19) C dX7_weighPictures_12 (by omega) (by omega) (by decide) (fun h12 => ?_) (fun h12 => by omega)
    refine e_iconst (v := (nI 2)) C dX7_weighPictures_19 (by decide) ?_
    refine e_istore_n (lv2 := [(3, .int (nI 2)), (2, .int (nI 0)), (0, .ref 0), (1, .int (nI 1))]) C dX7_weighPictures_20 rfl (by decide) rfl ?_
    refine e_iconst (v := (nI 0)) C dX7_weighPictures_21 (by decide) ?_
    refine e_istore (lv2 := [(4, .int (nI 0)), (3, .int (nI 2)), (2, .int (nI 0)), (0, .ref 0), (1, .int (nI 1))]) C dX7_weighPictures_22 (by decide) rfl ?_
    refine e_loc [3, 4, 2, 1, 0] rfl ?_
    have lp : ∀ (p : Nat) , p ≤ 8 → Wd X (0, 0) 24 [(0, .ref 0), (1, .int (nI 1)), (2, .int (nI 0)), (3, .int (nI 2)), (4, .int (nI p))] [] (shF w) (sJ M 24 (tabr (fun p => lN (wgt n P (amt W pv k) 1 p)) (gJ M 24) p)) := by
      intro p
      induction hq_lp : 8 - p using Nat.strongRecOn generalizing p with
      | ind k_lp ih_lp =>
        intro hp
        have hS : StOK (sJ M 24 (tabr (fun p => lN (wgt n P (amt W pv k) 1 p)) (gJ M 24) p)) n P := hS
        have hT : TbOK (sJ M 24 (tabr (fun p => lN (wgt n P (amt W pv k) 1 p)) (gJ M 24) p)) k W pv := hT
        refine e_iload C dX7_weighPictures_24 rfl ?_
        refine e_bipush (v := (nI 8)) C dX7_weighPictures_26 (by decide) ?_
        refine e_icmp_geN (tgt := 176) C dX7_weighPictures_28 (by omega) (by omega) (by decide) (fun h28 => ?_) (fun h28 => ?_)
        · exact e_vret C dX7_weighPictures_176 RT ⟨Nat.zero_le _, Nat.zero_le _⟩ (by rw [show p = 8 by omega]; exact ⟨rfl, rfl, rfl⟩)
        · refine e_lconst (v := lN 0) C dX7_weighPictures_31 (by decide) ?_
          refine e_lstore (lv2 := [(5, .long (lN 0)), (0, .ref 0), (1, .int (nI 1)), (2, .int (nI 0)), (3, .int (nI 2)), (4, .int (nI p))]) C dX7_weighPictures_32 (by decide) rfl ?_
          refine e_iconst (v := (nI 0)) C dX7_weighPictures_34 (by decide) ?_
          refine e_istore (lv2 := [(7, .int (nI 0)), (5, .long (lN 0)), (0, .ref 0), (1, .int (nI 1)), (2, .int (nI 0)), (3, .int (nI 2)), (4, .int (nI p))]) C dX7_weighPictures_35 (by decide) rfl ?_
          refine e_loc [2, 3, 4, 5, 6, 1, 0] rfl ?_
          have li : ∀ (i : Nat) (x9 : Nat), i ≤ n 0 → x9 = sumN (fun i => sumN (fun j => amt W pv k ((P (0 * 20 + i) * 8 + p) * 8 + P (2 * 20 + j))) (n 2)) i → Wd X (0, 0) 37 [(0, .ref 0), (1, .int (nI 1)), (2, .int (nI 0)), (3, .int (nI 2)), (4, .int (nI p)), (5, .long (lN x9)), (7, .int (nI i))] [] (shF w) (sJ M 24 (tabr (fun p => lN (wgt n P (amt W pv k) 1 p)) (gJ M 24) p)) := by
            intro i
            induction hq_li : n 0 - i using Nat.strongRecOn generalizing i with
            | ind k_li ih_li =>
              intro x9 hi hx9
              refine e_iload C dX7_weighPictures_37 rfl ?_
              refine e_aload_n C dX7_weighPictures_39 rfl rfl ?_
              refine e_getR (q := 1) C dX7_weighPictures_40 fX7_10 rfl rfl ?_
              refine e_iload_n C dX7_weighPictures_43 rfl rfl ?_
              refine e_callVi C dX7_weighPictures_44 [.int (nI 0)] (k_stopsOf hS 0 (by omega)) okX4_stopsOf lX7_145 rfl rfl rfl ⟨rfl, rfl⟩ ⟨Nat.le_of_ble_eq_true rfl, Nat.le_of_ble_eq_true rfl⟩ (Nat.le_of_ble_eq_true rfl) ⟨Nat.zero_le _, Nat.zero_le _⟩ ?_
              refine e_icmp_geN (tgt := 161) C dX7_weighPictures_47 (by omega) (by omega) (by decide) (fun h47 => ?_) (fun h47 => ?_)
              · refine e_aload_n C dX7_weighPictures_161 rfl rfl ?_
                refine e_getR (q := 24) C dX7_weighPictures_162 fX7_62 rfl rfl ?_
                refine e_iload C dX7_weighPictures_165 rfl ?_
                refine e_lload C dX7_weighPictures_167 rfl ?_
                refine e_lastoreN C dX7_weighPictures_169 rfl (by omega) (by omega) ?_
                refine e_mem (sJ M 24 (tabr (fun p => lN (wgt n P (amt W pv k) 1 p)) (gJ M 24) (p + 1))) (by rw [sJ_sJ, gJ_sJ, hx9, show i = n 0 by omega]; exact congrArg _ (tabr_1L _ _ p)) ?_
                refine e_iincN (lv2 := [(4, .int (nI (p + 1))), (0, .ref 0), (1, .int (nI 1)), (2, .int (nI 0)), (3, .int (nI 2)), (5, .long (lN x9)), (7, .int (nI i))]) C dX7_weighPictures_170 rfl (by decide) (nI_1 _) rfl ?_
                refine e_goto (tgt := 24) C dX7_weighPictures_173 (by decide) ?_
                refine e_loc [1, 2, 3, 4, 0] rfl ?_
                exact ih_lp (8 - (p + 1)) (by omega) (p + 1) rfl (by omega)
              · refine e_aload_n C dX7_weighPictures_50 rfl rfl ?_
                refine e_getR (q := 1) C dX7_weighPictures_51 fX7_10 rfl rfl ?_
                refine e_iload_n C dX7_weighPictures_54 rfl rfl ?_
                refine e_iload C dX7_weighPictures_55 rfl ?_
                have hb1 := hS.2.2.2.1 (0 * 20 + i)
                refine e_callVi C dX7_weighPictures_57 [.int (nI 0), .int (nI i)] (k_shown hS 0 i (by omega) (by omega)) okX4_shown lX7_102 rfl rfl rfl ⟨rfl, rfl⟩ ⟨Nat.le_of_ble_eq_true rfl, Nat.le_of_ble_eq_true rfl⟩ (Nat.le_of_ble_eq_true rfl) ⟨Nat.zero_le _, Nat.zero_le _⟩ ?_
                refine e_istore (lv2 := [(8, .int (nI (P (0 * 20 + i)))), (0, .ref 0), (1, .int (nI 1)), (2, .int (nI 0)), (3, .int (nI 2)), (4, .int (nI p)), (5, .long (lN x9)), (7, .int (nI i))]) C dX7_weighPictures_60 (by decide) rfl ?_
                refine e_iconst (v := (nI 0)) C dX7_weighPictures_62 (by decide) ?_
                refine e_istore (lv2 := [(9, .int (nI 0)), (8, .int (nI (P (0 * 20 + i)))), (0, .ref 0), (1, .int (nI 1)), (2, .int (nI 0)), (3, .int (nI 2)), (4, .int (nI p)), (5, .long (lN x9)), (7, .int (nI i))]) C dX7_weighPictures_63 (by decide) rfl ?_
                refine e_loc [2, 3, 4, 5, 6, 7, 8, 1, 0] rfl ?_
                have lj : ∀ (j : Nat) (y9 : Nat), j ≤ n 2 → y9 = x9 + sumN (fun j => amt W pv k ((P (0 * 20 + i) * 8 + p) * 8 + P (2 * 20 + j))) j → Wd X (0, 0) 65 [(0, .ref 0), (1, .int (nI 1)), (2, .int (nI 0)), (3, .int (nI 2)), (4, .int (nI p)), (5, .long (lN y9)), (7, .int (nI i)), (8, .int (nI (P (0 * 20 + i)))), (9, .int (nI j))] [] (shF w) (sJ M 24 (tabr (fun p => lN (wgt n P (amt W pv k) 1 p)) (gJ M 24) p)) := by
                  intro j
                  induction hq_lj : n 2 - j using Nat.strongRecOn generalizing j with
                  | ind k_lj ih_lj =>
                    intro y9 hj hy9
                    refine e_iload C dX7_weighPictures_65 rfl ?_
                    refine e_aload_n C dX7_weighPictures_67 rfl rfl ?_
                    refine e_getR (q := 1) C dX7_weighPictures_68 fX7_10 rfl rfl ?_
                    refine e_iload_n C dX7_weighPictures_71 rfl rfl ?_
                    refine e_callVi C dX7_weighPictures_72 [.int (nI 2)] (k_stopsOf hS 2 (by omega)) okX4_stopsOf lX7_145 rfl rfl rfl ⟨rfl, rfl⟩ ⟨Nat.le_of_ble_eq_true rfl, Nat.le_of_ble_eq_true rfl⟩ (Nat.le_of_ble_eq_true rfl) ⟨Nat.zero_le _, Nat.zero_le _⟩ ?_
                    refine e_icmp_geN (tgt := 155) C dX7_weighPictures_75 (by omega) (by omega) (by decide) (fun h75 => ?_) (fun h75 => ?_)
                    · refine e_iincN (lv2 := [(7, .int (nI (i + 1))), (0, .ref 0), (1, .int (nI 1)), (2, .int (nI 0)), (3, .int (nI 2)), (4, .int (nI p)), (5, .long (lN y9)), (8, .int (nI (P (0 * 20 + i)))), (9, .int (nI j))]) C dX7_weighPictures_155 rfl (by decide) (nI_1 _) rfl ?_
                      refine e_goto (tgt := 37) C dX7_weighPictures_158 (by decide) ?_
                      refine e_loc [1, 2, 3, 4, 5, 6, 0] rfl ?_
                      exact ih_li (n 0 - (i + 1)) (by omega) (i + 1) rfl y9 (by omega) (by simp only [sumN]; rw [hy9, hx9, show j = n 2 by omega])
                    · refine e_aload_n C dX7_weighPictures_78 rfl rfl ?_
                      refine e_getR (q := 1) C dX7_weighPictures_79 fX7_10 rfl rfl ?_
                      refine e_iload_n C dX7_weighPictures_82 rfl rfl ?_
                      refine e_iload C dX7_weighPictures_83 rfl ?_
                      have hb2 := hS.2.2.2.1 (2 * 20 + j)
                      refine e_callVi C dX7_weighPictures_85 [.int (nI 2), .int (nI j)] (k_shown hS 2 j (by omega) (by omega)) okX4_shown lX7_102 rfl rfl rfl ⟨rfl, rfl⟩ ⟨Nat.le_of_ble_eq_true rfl, Nat.le_of_ble_eq_true rfl⟩ (Nat.le_of_ble_eq_true rfl) ⟨Nat.zero_le _, Nat.zero_le _⟩ ?_
                      refine e_istore (lv2 := [(10, .int (nI (P (2 * 20 + j)))), (0, .ref 0), (1, .int (nI 1)), (2, .int (nI 0)), (3, .int (nI 2)), (4, .int (nI p)), (5, .long (lN y9)), (7, .int (nI i)), (8, .int (nI (P (0 * 20 + i)))), (9, .int (nI j))]) C dX7_weighPictures_88 (by decide) rfl ?_
                      refine e_iload_n C dX7_weighPictures_90 rfl rfl ?_
                      refine e_if_neN (tgt := 106) C dX7_weighPictures_91 (by omega) (by decide) (fun h91 => ?_) (fun h91 => by omega)
                      refine e_iload_n C dX7_weighPictures_106 rfl rfl ?_
                      refine e_iconst (v := (nI 1)) C dX7_weighPictures_107 (by decide) ?_
                      refine e_icmp_neN (tgt := 123) C dX7_weighPictures_108 (by omega) (by omega) (by decide) (fun h108 => by omega) (fun h108 => ?_)
                      refine e_iload C dX7_weighPictures_111 rfl ?_
                      refine e_iload C dX7_weighPictures_113 rfl ?_
                      refine e_iload C dX7_weighPictures_115 rfl ?_
                      refine e_callSi C dX7_weighPictures_117 [.int (nI (P (0 * 20 + i))), .int (nI p), .int (nI (P (2 * 20 + j)))] (k_lineOf (P (0 * 20 + i)) p (P (2 * 20 + j))) okX7_lineOf lX7_255 rfl ⟨rfl, rfl⟩ ⟨Nat.le_of_ble_eq_true rfl, Nat.le_of_ble_eq_true rfl⟩ (Nat.le_of_ble_eq_true rfl) ⟨Nat.zero_le _, Nat.zero_le _⟩ ?_
                      refine e_goto (tgt := 132) C dX7_weighPictures_120 (by decide) ?_
                      refine e_istore (lv2 := [(11, .int (nI (((P (0 * 20 + i)) * 8 + p) * 8 + (P (2 * 20 + j))))), (10, .int (nI (P (2 * 20 + j)))), (0, .ref 0), (1, .int (nI 1)), (2, .int (nI 0)), (3, .int (nI 2)), (4, .int (nI p)), (5, .long (lN y9)), (7, .int (nI i)), (8, .int (nI (P (0 * 20 + i)))), (9, .int (nI j))]) C dX7_weighPictures_132 (by decide) rfl ?_
                      refine e_lload C dX7_weighPictures_134 rfl ?_
                      refine e_aload_n C dX7_weighPictures_136 rfl rfl ?_
                      refine e_getR (q := 7) C dX7_weighPictures_137 fX7_23 rfl rfl ?_
                      refine e_iload C dX7_weighPictures_140 rfl ?_
                      refine e_callVi C dX7_weighPictures_142 [.int (nI (((P (0 * 20 + i)) * 8 + p) * 8 + (P (2 * 20 + j))))] (k_amount hT (((P (0 * 20 + i)) * 8 + p) * 8 + (P (2 * 20 + j))) (by omega)) okX2_amount lX7_258 rfl rfl rfl ⟨rfl, rfl⟩ ⟨Nat.le_of_ble_eq_true rfl, Nat.le_of_ble_eq_true rfl⟩ (Nat.le_of_ble_eq_true rfl) ⟨Nat.zero_le _, Nat.zero_le _⟩ ?_
                      have hA9 := hA (((P (0 * 20 + i)) * 8 + p) * 8 + (P (2 * 20 + j)))
                      refine e_i2lN C dX7_weighPictures_145 (by omega) ?_
                      refine e_laddN C dX7_weighPictures_146 ?_
                      refine e_lstore (lv2 := [(5, .long (lN (y9 + (amt W pv k (((P (0 * 20 + i)) * 8 + p) * 8 + (P (2 * 20 + j))))))), (11, .int (nI (((P (0 * 20 + i)) * 8 + p) * 8 + (P (2 * 20 + j))))), (10, .int (nI (P (2 * 20 + j)))), (0, .ref 0), (1, .int (nI 1)), (2, .int (nI 0)), (3, .int (nI 2)), (4, .int (nI p)), (7, .int (nI i)), (8, .int (nI (P (0 * 20 + i)))), (9, .int (nI j))]) C dX7_weighPictures_147 (by decide) rfl ?_
                      refine e_iincN (lv2 := [(9, .int (nI (j + 1))), (5, .long (lN (y9 + (amt W pv k (((P (0 * 20 + i)) * 8 + p) * 8 + (P (2 * 20 + j))))))), (11, .int (nI (((P (0 * 20 + i)) * 8 + p) * 8 + (P (2 * 20 + j))))), (10, .int (nI (P (2 * 20 + j)))), (0, .ref 0), (1, .int (nI 1)), (2, .int (nI 0)), (3, .int (nI 2)), (4, .int (nI p)), (7, .int (nI i)), (8, .int (nI (P (0 * 20 + i))))]) C dX7_weighPictures_149 rfl (by decide) (nI_1 _) rfl ?_
                      refine e_goto (tgt := 65) C dX7_weighPictures_152 (by decide) ?_
                      refine e_loc [4, 5, 6, 7, 8, 1, 9, 10, 0] rfl ?_
                      exact ih_lj (n 2 - (j + 1)) (by omega) (j + 1) rfl (y9 + (amt W pv k (((P (0 * 20 + i)) * 8 + p) * 8 + (P (2 * 20 + j))))) (by omega) (by simp only [sumN]; omega)
                exact lj 0 x9 (by omega) rfl
          exact li 0 0 (by omega) rfl
    refine e_mem (sJ M 24 (tabr (fun p => lN (wgt n P (amt W pv k) 1 p)) (gJ M 24) 0)) (by rw [tabr_0, sJ_self]) ?_
    exact lp 0 (by omega)
  · refine e_iload_n C dX7_weighPictures_0 rfl rfl ?_
    refine e_if_neN (tgt := 8) C dX7_weighPictures_1 (by omega) (by decide) (fun h1 => ?_) (fun h1 => by omega)
    refine e_iconst (v := (nI 0)) C dX7_weighPictures_8 (by decide) ?_
    refine e_istore_n (lv2 := [(2, .int (nI 0)), (0, .ref 0), (1, .int (nI 2))]) C dX7_weighPictures_9 rfl (by decide) rfl ?_
    refine e_iload_n C dX7_weighPictures_10 rfl rfl ?_
    refine e_iconst (v := (nI 2)) C dX7_weighPictures_11 (by decide) ?_
    refine e_icmp_neN (tgt := 19) C dX7_weighPictures_12 (by omega) (by omega) (by decide) (fun h12 => by omega) (fun h12 => ?_)
    refine e_iconst (v := (nI 1)) C dX7_weighPictures_15 (by decide) ?_
    refine e_goto (tgt := 20) C dX7_weighPictures_16 (by decide) ?_
    refine e_istore_n (lv2 := [(3, .int (nI 1)), (2, .int (nI 0)), (0, .ref 0), (1, .int (nI 2))]) C dX7_weighPictures_20 rfl (by decide) rfl ?_
    refine e_iconst (v := (nI 0)) C dX7_weighPictures_21 (by decide) ?_
    refine e_istore (lv2 := [(4, .int (nI 0)), (3, .int (nI 1)), (2, .int (nI 0)), (0, .ref 0), (1, .int (nI 2))]) C dX7_weighPictures_22 (by decide) rfl ?_
    refine e_loc [3, 4, 2, 1, 0] rfl ?_
    have lp : ∀ (p : Nat) , p ≤ 8 → Wd X (0, 0) 24 [(0, .ref 0), (1, .int (nI 2)), (2, .int (nI 0)), (3, .int (nI 1)), (4, .int (nI p))] [] (shF w) (sJ M 24 (tabr (fun p => lN (wgt n P (amt W pv k) 2 p)) (gJ M 24) p)) := by
      intro p
      induction hq_lp : 8 - p using Nat.strongRecOn generalizing p with
      | ind k_lp ih_lp =>
        intro hp
        have hS : StOK (sJ M 24 (tabr (fun p => lN (wgt n P (amt W pv k) 2 p)) (gJ M 24) p)) n P := hS
        have hT : TbOK (sJ M 24 (tabr (fun p => lN (wgt n P (amt W pv k) 2 p)) (gJ M 24) p)) k W pv := hT
        refine e_iload C dX7_weighPictures_24 rfl ?_
        refine e_bipush (v := (nI 8)) C dX7_weighPictures_26 (by decide) ?_
        refine e_icmp_geN (tgt := 176) C dX7_weighPictures_28 (by omega) (by omega) (by decide) (fun h28 => ?_) (fun h28 => ?_)
        · exact e_vret C dX7_weighPictures_176 RT ⟨Nat.zero_le _, Nat.zero_le _⟩ (by rw [show p = 8 by omega]; exact ⟨rfl, rfl, rfl⟩)
        · refine e_lconst (v := lN 0) C dX7_weighPictures_31 (by decide) ?_
          refine e_lstore (lv2 := [(5, .long (lN 0)), (0, .ref 0), (1, .int (nI 2)), (2, .int (nI 0)), (3, .int (nI 1)), (4, .int (nI p))]) C dX7_weighPictures_32 (by decide) rfl ?_
          refine e_iconst (v := (nI 0)) C dX7_weighPictures_34 (by decide) ?_
          refine e_istore (lv2 := [(7, .int (nI 0)), (5, .long (lN 0)), (0, .ref 0), (1, .int (nI 2)), (2, .int (nI 0)), (3, .int (nI 1)), (4, .int (nI p))]) C dX7_weighPictures_35 (by decide) rfl ?_
          refine e_loc [2, 3, 4, 5, 6, 1, 0] rfl ?_
          have li : ∀ (i : Nat) (x9 : Nat), i ≤ n 0 → x9 = sumN (fun i => sumN (fun j => amt W pv k ((P (0 * 20 + i) * 8 + P (1 * 20 + j)) * 8 + p)) (n 1)) i → Wd X (0, 0) 37 [(0, .ref 0), (1, .int (nI 2)), (2, .int (nI 0)), (3, .int (nI 1)), (4, .int (nI p)), (5, .long (lN x9)), (7, .int (nI i))] [] (shF w) (sJ M 24 (tabr (fun p => lN (wgt n P (amt W pv k) 2 p)) (gJ M 24) p)) := by
            intro i
            induction hq_li : n 0 - i using Nat.strongRecOn generalizing i with
            | ind k_li ih_li =>
              intro x9 hi hx9
              refine e_iload C dX7_weighPictures_37 rfl ?_
              refine e_aload_n C dX7_weighPictures_39 rfl rfl ?_
              refine e_getR (q := 1) C dX7_weighPictures_40 fX7_10 rfl rfl ?_
              refine e_iload_n C dX7_weighPictures_43 rfl rfl ?_
              refine e_callVi C dX7_weighPictures_44 [.int (nI 0)] (k_stopsOf hS 0 (by omega)) okX4_stopsOf lX7_145 rfl rfl rfl ⟨rfl, rfl⟩ ⟨Nat.le_of_ble_eq_true rfl, Nat.le_of_ble_eq_true rfl⟩ (Nat.le_of_ble_eq_true rfl) ⟨Nat.zero_le _, Nat.zero_le _⟩ ?_
              refine e_icmp_geN (tgt := 161) C dX7_weighPictures_47 (by omega) (by omega) (by decide) (fun h47 => ?_) (fun h47 => ?_)
              · refine e_aload_n C dX7_weighPictures_161 rfl rfl ?_
                refine e_getR (q := 24) C dX7_weighPictures_162 fX7_62 rfl rfl ?_
                refine e_iload C dX7_weighPictures_165 rfl ?_
                refine e_lload C dX7_weighPictures_167 rfl ?_
                refine e_lastoreN C dX7_weighPictures_169 rfl (by omega) (by omega) ?_
                refine e_mem (sJ M 24 (tabr (fun p => lN (wgt n P (amt W pv k) 2 p)) (gJ M 24) (p + 1))) (by rw [sJ_sJ, gJ_sJ, hx9, show i = n 0 by omega]; exact congrArg _ (tabr_1L _ _ p)) ?_
                refine e_iincN (lv2 := [(4, .int (nI (p + 1))), (0, .ref 0), (1, .int (nI 2)), (2, .int (nI 0)), (3, .int (nI 1)), (5, .long (lN x9)), (7, .int (nI i))]) C dX7_weighPictures_170 rfl (by decide) (nI_1 _) rfl ?_
                refine e_goto (tgt := 24) C dX7_weighPictures_173 (by decide) ?_
                refine e_loc [1, 2, 3, 4, 0] rfl ?_
                exact ih_lp (8 - (p + 1)) (by omega) (p + 1) rfl (by omega)
              · refine e_aload_n C dX7_weighPictures_50 rfl rfl ?_
                refine e_getR (q := 1) C dX7_weighPictures_51 fX7_10 rfl rfl ?_
                refine e_iload_n C dX7_weighPictures_54 rfl rfl ?_
                refine e_iload C dX7_weighPictures_55 rfl ?_
                have hb1 := hS.2.2.2.1 (0 * 20 + i)
                refine e_callVi C dX7_weighPictures_57 [.int (nI 0), .int (nI i)] (k_shown hS 0 i (by omega) (by omega)) okX4_shown lX7_102 rfl rfl rfl ⟨rfl, rfl⟩ ⟨Nat.le_of_ble_eq_true rfl, Nat.le_of_ble_eq_true rfl⟩ (Nat.le_of_ble_eq_true rfl) ⟨Nat.zero_le _, Nat.zero_le _⟩ ?_
                refine e_istore (lv2 := [(8, .int (nI (P (0 * 20 + i)))), (0, .ref 0), (1, .int (nI 2)), (2, .int (nI 0)), (3, .int (nI 1)), (4, .int (nI p)), (5, .long (lN x9)), (7, .int (nI i))]) C dX7_weighPictures_60 (by decide) rfl ?_
                refine e_iconst (v := (nI 0)) C dX7_weighPictures_62 (by decide) ?_
                refine e_istore (lv2 := [(9, .int (nI 0)), (8, .int (nI (P (0 * 20 + i)))), (0, .ref 0), (1, .int (nI 2)), (2, .int (nI 0)), (3, .int (nI 1)), (4, .int (nI p)), (5, .long (lN x9)), (7, .int (nI i))]) C dX7_weighPictures_63 (by decide) rfl ?_
                refine e_loc [2, 3, 4, 5, 6, 7, 8, 1, 0] rfl ?_
                have lj : ∀ (j : Nat) (y9 : Nat), j ≤ n 1 → y9 = x9 + sumN (fun j => amt W pv k ((P (0 * 20 + i) * 8 + P (1 * 20 + j)) * 8 + p)) j → Wd X (0, 0) 65 [(0, .ref 0), (1, .int (nI 2)), (2, .int (nI 0)), (3, .int (nI 1)), (4, .int (nI p)), (5, .long (lN y9)), (7, .int (nI i)), (8, .int (nI (P (0 * 20 + i)))), (9, .int (nI j))] [] (shF w) (sJ M 24 (tabr (fun p => lN (wgt n P (amt W pv k) 2 p)) (gJ M 24) p)) := by
                  intro j
                  induction hq_lj : n 1 - j using Nat.strongRecOn generalizing j with
                  | ind k_lj ih_lj =>
                    intro y9 hj hy9
                    refine e_iload C dX7_weighPictures_65 rfl ?_
                    refine e_aload_n C dX7_weighPictures_67 rfl rfl ?_
                    refine e_getR (q := 1) C dX7_weighPictures_68 fX7_10 rfl rfl ?_
                    refine e_iload_n C dX7_weighPictures_71 rfl rfl ?_
                    refine e_callVi C dX7_weighPictures_72 [.int (nI 1)] (k_stopsOf hS 1 (by omega)) okX4_stopsOf lX7_145 rfl rfl rfl ⟨rfl, rfl⟩ ⟨Nat.le_of_ble_eq_true rfl, Nat.le_of_ble_eq_true rfl⟩ (Nat.le_of_ble_eq_true rfl) ⟨Nat.zero_le _, Nat.zero_le _⟩ ?_
                    refine e_icmp_geN (tgt := 155) C dX7_weighPictures_75 (by omega) (by omega) (by decide) (fun h75 => ?_) (fun h75 => ?_)
                    · refine e_iincN (lv2 := [(7, .int (nI (i + 1))), (0, .ref 0), (1, .int (nI 2)), (2, .int (nI 0)), (3, .int (nI 1)), (4, .int (nI p)), (5, .long (lN y9)), (8, .int (nI (P (0 * 20 + i)))), (9, .int (nI j))]) C dX7_weighPictures_155 rfl (by decide) (nI_1 _) rfl ?_
                      refine e_goto (tgt := 37) C dX7_weighPictures_158 (by decide) ?_
                      refine e_loc [1, 2, 3, 4, 5, 6, 0] rfl ?_
                      exact ih_li (n 0 - (i + 1)) (by omega) (i + 1) rfl y9 (by omega) (by simp only [sumN]; rw [hy9, hx9, show j = n 1 by omega])
                    · refine e_aload_n C dX7_weighPictures_78 rfl rfl ?_
                      refine e_getR (q := 1) C dX7_weighPictures_79 fX7_10 rfl rfl ?_
                      refine e_iload_n C dX7_weighPictures_82 rfl rfl ?_
                      refine e_iload C dX7_weighPictures_83 rfl ?_
                      have hb2 := hS.2.2.2.1 (1 * 20 + j)
                      refine e_callVi C dX7_weighPictures_85 [.int (nI 1), .int (nI j)] (k_shown hS 1 j (by omega) (by omega)) okX4_shown lX7_102 rfl rfl rfl ⟨rfl, rfl⟩ ⟨Nat.le_of_ble_eq_true rfl, Nat.le_of_ble_eq_true rfl⟩ (Nat.le_of_ble_eq_true rfl) ⟨Nat.zero_le _, Nat.zero_le _⟩ ?_
                      refine e_istore (lv2 := [(10, .int (nI (P (1 * 20 + j)))), (0, .ref 0), (1, .int (nI 2)), (2, .int (nI 0)), (3, .int (nI 1)), (4, .int (nI p)), (5, .long (lN y9)), (7, .int (nI i)), (8, .int (nI (P (0 * 20 + i)))), (9, .int (nI j))]) C dX7_weighPictures_88 (by decide) rfl ?_
                      refine e_iload_n C dX7_weighPictures_90 rfl rfl ?_
                      refine e_if_neN (tgt := 106) C dX7_weighPictures_91 (by omega) (by decide) (fun h91 => ?_) (fun h91 => by omega)
                      refine e_iload_n C dX7_weighPictures_106 rfl rfl ?_
                      refine e_iconst (v := (nI 1)) C dX7_weighPictures_107 (by decide) ?_
                      refine e_icmp_neN (tgt := 123) C dX7_weighPictures_108 (by omega) (by omega) (by decide) (fun h108 => ?_) (fun h108 => by omega)
                      refine e_iload C dX7_weighPictures_123 rfl ?_
                      refine e_iload C dX7_weighPictures_125 rfl ?_
                      refine e_iload C dX7_weighPictures_127 rfl ?_
                      refine e_callSi C dX7_weighPictures_129 [.int (nI (P (0 * 20 + i))), .int (nI (P (1 * 20 + j))), .int (nI p)] (k_lineOf (P (0 * 20 + i)) (P (1 * 20 + j)) p) okX7_lineOf lX7_255 rfl ⟨rfl, rfl⟩ ⟨Nat.le_of_ble_eq_true rfl, Nat.le_of_ble_eq_true rfl⟩ (Nat.le_of_ble_eq_true rfl) ⟨Nat.zero_le _, Nat.zero_le _⟩ ?_
                      refine e_istore (lv2 := [(11, .int (nI (((P (0 * 20 + i)) * 8 + (P (1 * 20 + j))) * 8 + p))), (10, .int (nI (P (1 * 20 + j)))), (0, .ref 0), (1, .int (nI 2)), (2, .int (nI 0)), (3, .int (nI 1)), (4, .int (nI p)), (5, .long (lN y9)), (7, .int (nI i)), (8, .int (nI (P (0 * 20 + i)))), (9, .int (nI j))]) C dX7_weighPictures_132 (by decide) rfl ?_
                      refine e_lload C dX7_weighPictures_134 rfl ?_
                      refine e_aload_n C dX7_weighPictures_136 rfl rfl ?_
                      refine e_getR (q := 7) C dX7_weighPictures_137 fX7_23 rfl rfl ?_
                      refine e_iload C dX7_weighPictures_140 rfl ?_
                      refine e_callVi C dX7_weighPictures_142 [.int (nI (((P (0 * 20 + i)) * 8 + (P (1 * 20 + j))) * 8 + p))] (k_amount hT (((P (0 * 20 + i)) * 8 + (P (1 * 20 + j))) * 8 + p) (by omega)) okX2_amount lX7_258 rfl rfl rfl ⟨rfl, rfl⟩ ⟨Nat.le_of_ble_eq_true rfl, Nat.le_of_ble_eq_true rfl⟩ (Nat.le_of_ble_eq_true rfl) ⟨Nat.zero_le _, Nat.zero_le _⟩ ?_
                      have hA9 := hA (((P (0 * 20 + i)) * 8 + (P (1 * 20 + j))) * 8 + p)
                      refine e_i2lN C dX7_weighPictures_145 (by omega) ?_
                      refine e_laddN C dX7_weighPictures_146 ?_
                      refine e_lstore (lv2 := [(5, .long (lN (y9 + (amt W pv k (((P (0 * 20 + i)) * 8 + (P (1 * 20 + j))) * 8 + p))))), (11, .int (nI (((P (0 * 20 + i)) * 8 + (P (1 * 20 + j))) * 8 + p))), (10, .int (nI (P (1 * 20 + j)))), (0, .ref 0), (1, .int (nI 2)), (2, .int (nI 0)), (3, .int (nI 1)), (4, .int (nI p)), (7, .int (nI i)), (8, .int (nI (P (0 * 20 + i)))), (9, .int (nI j))]) C dX7_weighPictures_147 (by decide) rfl ?_
                      refine e_iincN (lv2 := [(9, .int (nI (j + 1))), (5, .long (lN (y9 + (amt W pv k (((P (0 * 20 + i)) * 8 + (P (1 * 20 + j))) * 8 + p))))), (11, .int (nI (((P (0 * 20 + i)) * 8 + (P (1 * 20 + j))) * 8 + p))), (10, .int (nI (P (1 * 20 + j)))), (0, .ref 0), (1, .int (nI 2)), (2, .int (nI 0)), (3, .int (nI 1)), (4, .int (nI p)), (7, .int (nI i)), (8, .int (nI (P (0 * 20 + i))))]) C dX7_weighPictures_149 rfl (by decide) (nI_1 _) rfl ?_
                      refine e_goto (tgt := 65) C dX7_weighPictures_152 (by decide) ?_
                      refine e_loc [4, 5, 6, 7, 8, 1, 9, 10, 0] rfl ?_
                      exact ih_lj (n 1 - (j + 1)) (by omega) (j + 1) rfl (y9 + (amt W pv k (((P (0 * 20 + i)) * 8 + (P (1 * 20 + j))) * 8 + p))) (by omega) (by simp only [sumN]; omega)
                exact lj 0 x9 (by omega) rfl
          exact li 0 0 (by omega) rfl
    refine e_mem (sJ M 24 (tabr (fun p => lN (wgt n P (amt W pv k) 2 p)) (gJ M 24) 0)) (by rw [tabr_0, sJ_self]) ?_
    exact lp 0 (by omega)
