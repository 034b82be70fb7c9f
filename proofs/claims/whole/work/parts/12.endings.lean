def lin (P : Nat → Nat) (a b c : Nat) : Nat := (P (0 * 20 + a) * 8 + P (1 * 20 + b)) * 8 + P (2 * 20 + c)
theorem lin_lt {P : Nat → Nat} (h : ∀ j, P j < 8) (a b c : Nat) : lin P a b c < 512 := by
  have h1 := h (0 * 20 + a); have h2 := h (1 * 20 + b); have h3 := h (2 * 20 + c)
  unfold lin; omega
/-- what an ending pays: L lines, of which each pays A -/
def endP (n P : Nat → Nat) (L : Nat) (A : Nat → Nat) (a b c : Nat) : Nat :=
  A (lin P a b c) + (if 2 ≤ L then A (lin P (abv (n 0) a) (abv (n 1) b) (abv (n 2) c)) else 0) + (if 3 ≤ L then A (lin P (blw (n 0) a) (blw (n 1) b) (blw (n 2) c)) else 0)
/-- strips, pays and lines stand -/
def Bs (M : Mm) (n P : Nat → Nat) (k : Nat) (W : Nat → Nat → Int32) (pv : Nat → Nat) (L : Nat) : Prop := StOK M n P ∧ TbOK M k W pv ∧ gI M 0 9 = nI L ∧ 1 ≤ L ∧ L ≤ 3
abbrev EE (n P : Nat → Nat) (k : Nat) (W : Nat → Nat → Int32) (pv : Nat → Nat) (L : Nat) : Nat → Nat → Nat → Nat := endP n P L (amt W pv k)
theorem endP_le {n P : Nat → Nat} {L : Nat} {A : Nat → Nat} (h : ∀ l, A l ≤ 10000) (a b c : Nat) : endP n P L A a b c ≤ 30000 := by
  have h1 := h (lin P a b c); have h2 := h (lin P (abv (n 0) a) (abv (n 1) b) (abv (n 2) c)); have h3 := h (lin P (blw (n 0) a) (blw (n 1) b) (blw (n 2) c))
  unfold endP; split <;> split <;> omega
theorem Bs.le {M : Mm} {n P : Nat → Nat} {k : Nat} {W : Nat → Nat → Int32} {pv : Nat → Nat} {L : Nat} (h : Bs M n P k W pv L) (a b c : Nat) : EE n P k W pv L a b c ≤ 30000 := endP_le (fun _ => amt_le (fun i hi => (h.2.1.2.2.2.1 i hi).2)) a b c
theorem Bs.same {M M2 : Mm} {n P : Nat → Nat} {k : Nat} {W : Nat → Nat → Int32} {pv : Nat → Nat} {L : Nat} (h : Bs M n P k W pv L) (h0 : gI M2 0 9 = gI M 0 9) (h2 : gI M2 2 = gI M 2) (h3 : gI M2 3 = gI M 3) (h5 : gI M2 5 = gI M 5) (h7 : gI M2 7 = gI M 7) (h8 : gI M2 8 = gI M 8) (h9 : gI M2 9 = gI M 9) (h10 : gI M2 10 = gI M 10) : Bs M2 n P k W pv L := ⟨h.1.same h2 h3 h5, h.2.1.same h7 h8 h9 h10, by rw [h0]; exact h.2.2.1, h.2.2.2⟩
theorem Bs.sm {ks : List Nat} {M M2 : Mm} {n P : Nat → Nat} {k : Nat} {W : Nat → Nat → Int32} {pv : Nat → Nat} {L : Nat} (h : Bs M n P k W pv L) (hs : Same ks M M2) (hk : (0 ∉ ks ∧ 2 ∉ ks ∧ 3 ∉ ks ∧ 5 ∉ ks) ∧ 7 ∉ ks ∧ 8 ∉ ks ∧ 9 ∉ ks ∧ 10 ∉ ks) : Bs M2 n P k W pv L := h.same (congrFun (hs.gI hk.1.1) 9) (hs.gI hk.1.2.1) (hs.gI hk.1.2.2.1) (hs.gI hk.1.2.2.2) (hs.gI hk.2.1) (hs.gI hk.2.2.1) (hs.gI hk.2.2.2.1) (hs.gI hk.2.2.2.2)
set_option maxHeartbeats 4000000 in
set_option maxRecDepth 100000 in
theorem k_middleLine {w : Bool} {M : Mm} {n P : Nat → Nat} (hS : StOK M n P) (a b c : Nat) (ha : a < 20) (hb : b < 20) (hc : c < 20) : CT mX7_middleLine [.ref 0, .int (nI a), .int (nI b), .int (nI c)] (shF w) M (Pi (nI (lin P a b c)) (shF w) M) := by
  refine CT.mk (lv := [(0, .ref 0), (1, .int (nI a)), (2, .int (nI b)), (3, .int (nI c))]) rfl (by decide +kernel) (Nat.le_of_ble_eq_true rfl) ?_
  intro X C RT
  refine e_aload_n C dX7_middleLine_0 rfl rfl ?_
  refine e_getR (q := 1) C dX7_middleLine_1 fX7_10 rfl rfl ?_
  refine e_iconst (v := (nI 0)) C dX7_middleLine_4 (by decide) ?_
  refine e_iload_n C dX7_middleLine_5 rfl rfl ?_
  have hb1 := hS.2.2.2.1 (0 * 20 + a)
  refine e_callVi C dX7_middleLine_6 [.int (nI 0), .int (nI a)] (k_shown hS 0 a (by omega) (by omega)) okX4_shown lX7_102 rfl rfl rfl ⟨rfl, rfl⟩ ⟨Nat.le_of_ble_eq_true rfl, Nat.le_of_ble_eq_true rfl⟩ (Nat.le_of_ble_eq_true rfl) ⟨Nat.zero_le _, Nat.zero_le _⟩ ?_
  refine e_aload_n C dX7_middleLine_9 rfl rfl ?_
  refine e_getR (q := 1) C dX7_middleLine_10 fX7_10 rfl rfl ?_
  refine e_iconst (v := (nI 1)) C dX7_middleLine_13 (by decide) ?_
  refine e_iload_n C dX7_middleLine_14 rfl rfl ?_
  have hb2 := hS.2.2.2.1 (1 * 20 + b)
  refine e_callVi C dX7_middleLine_15 [.int (nI 1), .int (nI b)] (k_shown hS 1 b (by omega) (by omega)) okX4_shown lX7_102 rfl rfl rfl ⟨rfl, rfl⟩ ⟨Nat.le_of_ble_eq_true rfl, Nat.le_of_ble_eq_true rfl⟩ (Nat.le_of_ble_eq_true rfl) ⟨Nat.zero_le _, Nat.zero_le _⟩ ?_
  refine e_aload_n C dX7_middleLine_18 rfl rfl ?_
  refine e_getR (q := 1) C dX7_middleLine_19 fX7_10 rfl rfl ?_
  refine e_iconst (v := (nI 2)) C dX7_middleLine_22 (by decide) ?_
  refine e_iload_n C dX7_middleLine_23 rfl rfl ?_
  have hb3 := hS.2.2.2.1 (2 * 20 + c)
  refine e_callVi C dX7_middleLine_24 [.int (nI 2), .int (nI c)] (k_shown hS 2 c (by omega) (by omega)) okX4_shown lX7_102 rfl rfl rfl ⟨rfl, rfl⟩ ⟨Nat.le_of_ble_eq_true rfl, Nat.le_of_ble_eq_true rfl⟩ (Nat.le_of_ble_eq_true rfl) ⟨Nat.zero_le _, Nat.zero_le _⟩ ?_
  refine e_callSi C dX7_middleLine_27 [.int (nI (P (0 * 20 + a))), .int (nI (P (1 * 20 + b))), .int (nI (P (2 * 20 + c)))] (k_lineOf (P (0 * 20 + a)) (P (1 * 20 + b)) (P (2 * 20 + c))) okX7_lineOf lX7_255 rfl ⟨rfl, rfl⟩ ⟨Nat.le_of_ble_eq_true rfl, Nat.le_of_ble_eq_true rfl⟩ (Nat.le_of_ble_eq_true rfl) ⟨Nat.zero_le _, Nat.zero_le _⟩ ?_
  exact e_zret C dX7_middleLine_30 RT rfl ⟨Nat.zero_le _, Nat.zero_le _⟩ (pi_ rfl)
set_option maxHeartbeats 4000000 in
set_option maxRecDepth 100000 in
theorem k_endingPays {w : Bool} {M : Mm} {n P : Nat → Nat} {k : Nat} {W : Nat → Nat → Int32} {pv : Nat → Nat} {L : Nat} (hB : Bs M n P k W pv L) (a b c : Nat) (ha : a < n 0) (hb : b < n 1) (hc : c < n 2) : CT mX7_endingPays [.ref 0, .int (nI a), .int (nI b), .int (nI c)] (shF w) M (Pi (nI (EE n P k W pv L a b c)) (shF w) M) := by
  refine CT.mk (lv := [(0, .ref 0), (1, .int (nI a)), (2, .int (nI b)), (3, .int (nI c))]) rfl (by decide +kernel) (Nat.le_of_ble_eq_true rfl) ?_
  intro X C RT
  obtain ⟨hS, hT, hL, hL1, hL3⟩ := id hB
  have n0 := hS.2.1 0 (by decide)
  have n1 := hS.2.1 1 (by decide)
  have n2 := hS.2.1 2 (by decide)
  refine e_aload_n C dX7_endingPays_0 rfl rfl ?_
  refine e_getR (q := 7) C dX7_endingPays_1 fX7_23 rfl rfl ?_
  refine e_aload_n C dX7_endingPays_4 rfl rfl ?_
  refine e_iload_n C dX7_endingPays_5 rfl rfl ?_
  refine e_iload_n C dX7_endingPays_6 rfl rfl ?_
  refine e_iload_n C dX7_endingPays_7 rfl rfl ?_
  have hm1 := lin_lt hS.2.2.2.1 a b c
  refine e_callVi C dX7_endingPays_8 [.int (nI a), .int (nI b), .int (nI c)] (k_middleLine hS a b c (by omega) (by omega) (by omega)) okX7_middleLine lX7_149 rfl rfl rfl ⟨rfl, rfl⟩ ⟨Nat.le_of_ble_eq_true rfl, Nat.le_of_ble_eq_true rfl⟩ (Nat.le_of_ble_eq_true rfl) ⟨Nat.zero_le _, Nat.zero_le _⟩ ?_
  refine e_callVi C dX7_endingPays_11 [.int (nI (lin P a b c))] (k_amount hT (lin P a b c) (by omega)) okX2_amount lX7_258 rfl rfl rfl ⟨rfl, rfl⟩ ⟨Nat.le_of_ble_eq_true rfl, Nat.le_of_ble_eq_true rfl⟩ (Nat.le_of_ble_eq_true rfl) ⟨Nat.zero_le _, Nat.zero_le _⟩ ?_
  refine e_istore (lv2 := [(4, .int (nI (amt W pv k (lin P a b c)))), (0, .ref 0), (1, .int (nI a)), (2, .int (nI b)), (3, .int (nI c))]) C dX7_endingPays_14 (by decide) rfl ?_
  refine e_aload_n C dX7_endingPays_16 rfl rfl ?_
  refine e_getI C dX7_endingPays_17 fX7_66 rfl rfl ?_
  refine e_topi (nI L) hL ?_
  refine e_iconst (v := (nI 2)) C dX7_endingPays_20 (by decide) ?_
  refine e_icmp_ltN (tgt := 67) C dX7_endingPays_21 (by omega) (by omega) (by decide) (fun h21 => ?_) (fun h21 => ?_)
  · refine e_aload_n C dX7_endingPays_67 rfl rfl ?_
    refine e_getI C dX7_endingPays_68 fX7_66 rfl rfl ?_
    refine e_topi (nI L) hL ?_
    refine e_iconst (v := (nI 3)) C dX7_endingPays_71 (by decide) ?_
    refine e_icmp_ltN (tgt := 118) C dX7_endingPays_72 (by omega) (by omega) (by decide) (fun h72 => ?_) (fun h72 => ?_)
    · refine e_iload C dX7_endingPays_118 rfl ?_
      exact e_zret C dX7_endingPays_120 RT rfl ⟨Nat.zero_le _, Nat.zero_le _⟩ (pi_ (congrArg nI (by unfold EE endP; simp only [if_neg (show ¬ 2 ≤ L by omega), if_neg (show ¬ 3 ≤ L by omega)]; try omega)))
    · refine e_iload C dX7_endingPays_75 rfl ?_
      refine e_aload_n C dX7_endingPays_77 rfl rfl ?_
      refine e_getR (q := 7) C dX7_endingPays_78 fX7_23 rfl rfl ?_
      refine e_aload_n C dX7_endingPays_81 rfl rfl ?_
      refine e_aload_n C dX7_endingPays_82 rfl rfl ?_
      refine e_getR (q := 1) C dX7_endingPays_83 fX7_10 rfl rfl ?_
      refine e_iconst (v := (nI 0)) C dX7_endingPays_86 (by decide) ?_
      refine e_iload_n C dX7_endingPays_87 rfl rfl ?_
      have ha2 := blw_lt (n := n 0) (s := a) (by omega)
      refine e_callVi C dX7_endingPays_88 [.int (nI 0), .int (nI a)] (k_below hS 0 a (by omega) (by omega)) okX4_below lX7_171 rfl rfl rfl ⟨rfl, rfl⟩ ⟨Nat.le_of_ble_eq_true rfl, Nat.le_of_ble_eq_true rfl⟩ (Nat.le_of_ble_eq_true rfl) ⟨Nat.zero_le _, Nat.zero_le _⟩ ?_
      refine e_aload_n C dX7_endingPays_91 rfl rfl ?_
      refine e_getR (q := 1) C dX7_endingPays_92 fX7_10 rfl rfl ?_
      refine e_iconst (v := (nI 1)) C dX7_endingPays_95 (by decide) ?_
      refine e_iload_n C dX7_endingPays_96 rfl rfl ?_
      have ha3 := blw_lt (n := n 1) (s := b) (by omega)
      refine e_callVi C dX7_endingPays_97 [.int (nI 1), .int (nI b)] (k_below hS 1 b (by omega) (by omega)) okX4_below lX7_171 rfl rfl rfl ⟨rfl, rfl⟩ ⟨Nat.le_of_ble_eq_true rfl, Nat.le_of_ble_eq_true rfl⟩ (Nat.le_of_ble_eq_true rfl) ⟨Nat.zero_le _, Nat.zero_le _⟩ ?_
      refine e_aload_n C dX7_endingPays_100 rfl rfl ?_
      refine e_getR (q := 1) C dX7_endingPays_101 fX7_10 rfl rfl ?_
      refine e_iconst (v := (nI 2)) C dX7_endingPays_104 (by decide) ?_
      refine e_iload_n C dX7_endingPays_105 rfl rfl ?_
      have ha4 := blw_lt (n := n 2) (s := c) (by omega)
      refine e_callVi C dX7_endingPays_106 [.int (nI 2), .int (nI c)] (k_below hS 2 c (by omega) (by omega)) okX4_below lX7_171 rfl rfl rfl ⟨rfl, rfl⟩ ⟨Nat.le_of_ble_eq_true rfl, Nat.le_of_ble_eq_true rfl⟩ (Nat.le_of_ble_eq_true rfl) ⟨Nat.zero_le _, Nat.zero_le _⟩ ?_
      have hm5 := lin_lt hS.2.2.2.1 (blw (n 0) a) (blw (n 1) b) (blw (n 2) c)
      refine e_callVi C dX7_endingPays_109 [.int (nI (blw (n 0) a)), .int (nI (blw (n 1) b)), .int (nI (blw (n 2) c))] (k_middleLine hS (blw (n 0) a) (blw (n 1) b) (blw (n 2) c) (by omega) (by omega) (by omega)) okX7_middleLine lX7_149 rfl rfl rfl ⟨rfl, rfl⟩ ⟨Nat.le_of_ble_eq_true rfl, Nat.le_of_ble_eq_true rfl⟩ (Nat.le_of_ble_eq_true rfl) ⟨Nat.zero_le _, Nat.zero_le _⟩ ?_
      refine e_callVi C dX7_endingPays_112 [.int (nI (lin P (blw (n 0) a) (blw (n 1) b) (blw (n 2) c)))] (k_amount hT (lin P (blw (n 0) a) (blw (n 1) b) (blw (n 2) c)) (by omega)) okX2_amount lX7_258 rfl rfl rfl ⟨rfl, rfl⟩ ⟨Nat.le_of_ble_eq_true rfl, Nat.le_of_ble_eq_true rfl⟩ (Nat.le_of_ble_eq_true rfl) ⟨Nat.zero_le _, Nat.zero_le _⟩ ?_
      refine e_iaddN C dX7_endingPays_115 ?_
      refine e_istore (lv2 := [(4, .int (nI (amt W pv k (lin P a b c) + (amt W pv k (lin P (blw (n 0) a) (blw (n 1) b) (blw (n 2) c)))))), (0, .ref 0), (1, .int (nI a)), (2, .int (nI b)), (3, .int (nI c))]) C dX7_endingPays_116 (by decide) rfl ?_
      refine e_iload C dX7_endingPays_118 rfl ?_
      exact e_zret C dX7_endingPays_120 RT rfl ⟨Nat.zero_le _, Nat.zero_le _⟩ (pi_ (congrArg nI (by unfold EE endP; simp only [if_neg (show ¬ 2 ≤ L by omega), if_pos (show 3 ≤ L by omega)]; try omega)))
  · refine e_iload C dX7_endingPays_24 rfl ?_
    refine e_aload_n C dX7_endingPays_26 rfl rfl ?_
    refine e_getR (q := 7) C dX7_endingPays_27 fX7_23 rfl rfl ?_
    refine e_aload_n C dX7_endingPays_30 rfl rfl ?_
    refine e_aload_n C dX7_endingPays_31 rfl rfl ?_
    refine e_getR (q := 1) C dX7_endingPays_32 fX7_10 rfl rfl ?_
    refine e_iconst (v := (nI 0)) C dX7_endingPays_35 (by decide) ?_
    refine e_iload_n C dX7_endingPays_36 rfl rfl ?_
    have ha6 := abv_lt (n := n 0) (s := a) (by omega)
    refine e_callVi C dX7_endingPays_37 [.int (nI 0), .int (nI a)] (k_above hS 0 a (by omega) (by omega)) okX4_above lX7_261 rfl rfl rfl ⟨rfl, rfl⟩ ⟨Nat.le_of_ble_eq_true rfl, Nat.le_of_ble_eq_true rfl⟩ (Nat.le_of_ble_eq_true rfl) ⟨Nat.zero_le _, Nat.zero_le _⟩ ?_
    refine e_aload_n C dX7_endingPays_40 rfl rfl ?_
    refine e_getR (q := 1) C dX7_endingPays_41 fX7_10 rfl rfl ?_
    refine e_iconst (v := (nI 1)) C dX7_endingPays_44 (by decide) ?_
    refine e_iload_n C dX7_endingPays_45 rfl rfl ?_
    have ha7 := abv_lt (n := n 1) (s := b) (by omega)
    refine e_callVi C dX7_endingPays_46 [.int (nI 1), .int (nI b)] (k_above hS 1 b (by omega) (by omega)) okX4_above lX7_261 rfl rfl rfl ⟨rfl, rfl⟩ ⟨Nat.le_of_ble_eq_true rfl, Nat.le_of_ble_eq_true rfl⟩ (Nat.le_of_ble_eq_true rfl) ⟨Nat.zero_le _, Nat.zero_le _⟩ ?_
    refine e_aload_n C dX7_endingPays_49 rfl rfl ?_
    refine e_getR (q := 1) C dX7_endingPays_50 fX7_10 rfl rfl ?_
    refine e_iconst (v := (nI 2)) C dX7_endingPays_53 (by decide) ?_
    refine e_iload_n C dX7_endingPays_54 rfl rfl ?_
    have ha8 := abv_lt (n := n 2) (s := c) (by omega)
    refine e_callVi C dX7_endingPays_55 [.int (nI 2), .int (nI c)] (k_above hS 2 c (by omega) (by omega)) okX4_above lX7_261 rfl rfl rfl ⟨rfl, rfl⟩ ⟨Nat.le_of_ble_eq_true rfl, Nat.le_of_ble_eq_true rfl⟩ (Nat.le_of_ble_eq_true rfl) ⟨Nat.zero_le _, Nat.zero_le _⟩ ?_
    have hm9 := lin_lt hS.2.2.2.1 (abv (n 0) a) (abv (n 1) b) (abv (n 2) c)
    refine e_callVi C dX7_endingPays_58 [.int (nI (abv (n 0) a)), .int (nI (abv (n 1) b)), .int (nI (abv (n 2) c))] (k_middleLine hS (abv (n 0) a) (abv (n 1) b) (abv (n 2) c) (by omega) (by omega) (by omega)) okX7_middleLine lX7_149 rfl rfl rfl ⟨rfl, rfl⟩ ⟨Nat.le_of_ble_eq_true rfl, Nat.le_of_ble_eq_true rfl⟩ (Nat.le_of_ble_eq_true rfl) ⟨Nat.zero_le _, Nat.zero_le _⟩ ?_
    refine e_callVi C dX7_endingPays_61 [.int (nI (lin P (abv (n 0) a) (abv (n 1) b) (abv (n 2) c)))] (k_amount hT (lin P (abv (n 0) a) (abv (n 1) b) (abv (n 2) c)) (by omega)) okX2_amount lX7_258 rfl rfl rfl ⟨rfl, rfl⟩ ⟨Nat.le_of_ble_eq_true rfl, Nat.le_of_ble_eq_true rfl⟩ (Nat.le_of_ble_eq_true rfl) ⟨Nat.zero_le _, Nat.zero_le _⟩ ?_
    refine e_iaddN C dX7_endingPays_64 ?_
    refine e_istore (lv2 := [(4, .int (nI (amt W pv k (lin P a b c) + (amt W pv k (lin P (abv (n 0) a) (abv (n 1) b) (abv (n 2) c)))))), (0, .ref 0), (1, .int (nI a)), (2, .int (nI b)), (3, .int (nI c))]) C dX7_endingPays_65 (by decide) rfl ?_
    refine e_aload_n C dX7_endingPays_67 rfl rfl ?_
    refine e_getI C dX7_endingPays_68 fX7_66 rfl rfl ?_
    refine e_topi (nI L) hL ?_
    refine e_iconst (v := (nI 3)) C dX7_endingPays_71 (by decide) ?_
    refine e_icmp_ltN (tgt := 118) C dX7_endingPays_72 (by omega) (by omega) (by decide) (fun h72 => ?_) (fun h72 => ?_)
    · refine e_iload C dX7_endingPays_118 rfl ?_
      exact e_zret C dX7_endingPays_120 RT rfl ⟨Nat.zero_le _, Nat.zero_le _⟩ (pi_ (congrArg nI (by unfold EE endP; simp only [if_pos (show 2 ≤ L by omega), if_neg (show ¬ 3 ≤ L by omega)]; try omega)))
    · refine e_iload C dX7_endingPays_75 rfl ?_
      refine e_aload_n C dX7_endingPays_77 rfl rfl ?_
      refine e_getR (q := 7) C dX7_endingPays_78 fX7_23 rfl rfl ?_
      refine e_aload_n C dX7_endingPays_81 rfl rfl ?_
      refine e_aload_n C dX7_endingPays_82 rfl rfl ?_
      refine e_getR (q := 1) C dX7_endingPays_83 fX7_10 rfl rfl ?_
      refine e_iconst (v := (nI 0)) C dX7_endingPays_86 (by decide) ?_
      refine e_iload_n C dX7_endingPays_87 rfl rfl ?_
      have ha10 := blw_lt (n := n 0) (s := a) (by omega)
      refine e_callVi C dX7_endingPays_88 [.int (nI 0), .int (nI a)] (k_below hS 0 a (by omega) (by omega)) okX4_below lX7_171 rfl rfl rfl ⟨rfl, rfl⟩ ⟨Nat.le_of_ble_eq_true rfl, Nat.le_of_ble_eq_true rfl⟩ (Nat.le_of_ble_eq_true rfl) ⟨Nat.zero_le _, Nat.zero_le _⟩ ?_
      refine e_aload_n C dX7_endingPays_91 rfl rfl ?_
      refine e_getR (q := 1) C dX7_endingPays_92 fX7_10 rfl rfl ?_
      refine e_iconst (v := (nI 1)) C dX7_endingPays_95 (by decide) ?_
      refine e_iload_n C dX7_endingPays_96 rfl rfl ?_
      have ha11 := blw_lt (n := n 1) (s := b) (by omega)
      refine e_callVi C dX7_endingPays_97 [.int (nI 1), .int (nI b)] (k_below hS 1 b (by omega) (by omega)) okX4_below lX7_171 rfl rfl rfl ⟨rfl, rfl⟩ ⟨Nat.le_of_ble_eq_true rfl, Nat.le_of_ble_eq_true rfl⟩ (Nat.le_of_ble_eq_true rfl) ⟨Nat.zero_le _, Nat.zero_le _⟩ ?_
      refine e_aload_n C dX7_endingPays_100 rfl rfl ?_
      refine e_getR (q := 1) C dX7_endingPays_101 fX7_10 rfl rfl ?_
      refine e_iconst (v := (nI 2)) C dX7_endingPays_104 (by decide) ?_
      refine e_iload_n C dX7_endingPays_105 rfl rfl ?_
      have ha12 := blw_lt (n := n 2) (s := c) (by omega)
      refine e_callVi C dX7_endingPays_106 [.int (nI 2), .int (nI c)] (k_below hS 2 c (by omega) (by omega)) okX4_below lX7_171 rfl rfl rfl ⟨rfl, rfl⟩ ⟨Nat.le_of_ble_eq_true rfl, Nat.le_of_ble_eq_true rfl⟩ (Nat.le_of_ble_eq_true rfl) ⟨Nat.zero_le _, Nat.zero_le _⟩ ?_
      have hm13 := lin_lt hS.2.2.2.1 (blw (n 0) a) (blw (n 1) b) (blw (n 2) c)
      refine e_callVi C dX7_endingPays_109 [.int (nI (blw (n 0) a)), .int (nI (blw (n 1) b)), .int (nI (blw (n 2) c))] (k_middleLine hS (blw (n 0) a) (blw (n 1) b) (blw (n 2) c) (by omega) (by omega) (by omega)) okX7_middleLine lX7_149 rfl rfl rfl ⟨rfl, rfl⟩ ⟨Nat.le_of_ble_eq_true rfl, Nat.le_of_ble_eq_true rfl⟩ (Nat.le_of_ble_eq_true rfl) ⟨Nat.zero_le _, Nat.zero_le _⟩ ?_
      refine e_callVi C dX7_endingPays_112 [.int (nI (lin P (blw (n 0) a) (blw (n 1) b) (blw (n 2) c)))] (k_amount hT (lin P (blw (n 0) a) (blw (n 1) b) (blw (n 2) c)) (by omega)) okX2_amount lX7_258 rfl rfl rfl ⟨rfl, rfl⟩ ⟨Nat.le_of_ble_eq_true rfl, Nat.le_of_ble_eq_true rfl⟩ (Nat.le_of_ble_eq_true rfl) ⟨Nat.zero_le _, Nat.zero_le _⟩ ?_
      refine e_iaddN C dX7_endingPays_115 ?_
      refine e_istore (lv2 := [(4, .int (nI (amt W pv k (lin P a b c) + (amt W pv k (lin P (abv (n 0) a) (abv (n 1) b) (abv (n 2) c))) + (amt W pv k (lin P (blw (n 0) a) (blw (n 1) b) (blw (n 2) c)))))), (0, .ref 0), (1, .int (nI a)), (2, .int (nI b)), (3, .int (nI c))]) C dX7_endingPays_116 (by decide) rfl ?_
      refine e_iload C dX7_endingPays_118 rfl ?_
      exact e_zret C dX7_endingPays_120 RT rfl ⟨Nat.zero_le _, Nat.zero_le _⟩ (pi_ (congrArg nI (by unfold EE endP; simp only [if_pos (show 2 ≤ L by omega), if_pos (show 3 ≤ L by omega)]; try omega)))
set_option maxHeartbeats 4000000 in
set_option maxRecDepth 100000 in
theorem k_forgetFound {w : Bool} {M : Mm}  : CT mX7_forgetFound [.ref 0] (shF w) M (Pv (shF w) (sI M 0 (upd (upd (gI M 0) 10 (nI 0)) 11 (nI 0)))) := by
  refine CT.mk (lv := [(0, .ref 0)]) rfl (by decide +kernel) (Nat.le_of_ble_eq_true rfl) ?_
  intro X C RT
  refine e_aload_n C dX7_forgetFound_0 rfl rfl ?_
  refine e_iconst (v := (nI 0)) C dX7_forgetFound_1 (by decide) ?_
  refine e_putI C dX7_forgetFound_2 pX7_70 rfl rfl (by decide) (by decide) ?_
  refine e_aload_n C dX7_forgetFound_5 rfl rfl ?_
  refine e_iconst (v := (nI 0)) C dX7_forgetFound_6 (by decide) ?_
  refine e_putI C dX7_forgetFound_7 pX7_74 rfl rfl (by decide) (by decide) ?_
  exact e_vret C dX7_forgetFound_10 RT ⟨Nat.zero_le _, Nat.zero_le _⟩ (⟨rfl, rfl, by rw [sI_sI, gI_sI]⟩)
/-- all endings before (a, b, c), in order, of f -/
def acc (n : Nat → Nat) (f : Nat → Nat → Nat → Nat) (a b c : Nat) : Nat :=
  sumN (fun x => sumN (fun y => sumN (fun z => f x y z) (n 2)) (n 1)) a + sumN (fun y => sumN (fun z => f a y z) (n 2)) b + sumN (fun z => f a b z) c
def tot (n : Nat → Nat) (f : Nat → Nat → Nat → Nat) : Nat := sumN (fun x => sumN (fun y => sumN (fun z => f x y z) (n 2)) (n 1)) (n 0)
theorem acc_0 (n : Nat → Nat) (f : Nat → Nat → Nat → Nat) : acc n f 0 0 0 = 0 := rfl
theorem acc_c (n : Nat → Nat) (f : Nat → Nat → Nat → Nat) (a b c : Nat) : acc n f a b (c + 1) = acc n f a b c + f a b c := by simp only [acc, sumN]; omega
theorem acc_b (n : Nat → Nat) (f : Nat → Nat → Nat → Nat) (a b : Nat) : acc n f a (b + 1) 0 = acc n f a b (n 2) := by simp only [acc, sumN]; omega
theorem acc_a (n : Nat → Nat) (f : Nat → Nat → Nat → Nat) (a : Nat) : acc n f (a + 1) 0 0 = acc n f a (n 1) 0 := by simp only [acc, sumN]; try omega
theorem acc_n (n : Nat → Nat) (f : Nat → Nat → Nat → Nat) : acc n f (n 0) 0 0 = tot n f := by simp only [acc, tot, sumN]; omega
theorem sumN_congr {f g : Nat → Nat} : ∀ {k : Nat}, (∀ i, i < k → f i = g i) → sumN f k = sumN g k
  | 0, _ => rfl
  | k + 1, h => by simp only [sumN]; rw [sumN_congr (k := k) (fun i hi => h i (by omega)), h k (by omega)]
theorem tot_congr {n : Nat → Nat} {f g : Nat → Nat → Nat → Nat} (h : ∀ a, a < n 0 → ∀ b, b < n 1 → ∀ c, c < n 2 → f a b c = g a b c) : tot n f = tot n g :=
  sumN_congr (fun a ha => sumN_congr (fun b hb => sumN_congr (fun c hc => h a ha b hb c hc)))
theorem sumN_le {f : Nat → Nat} {B : Nat} : ∀ {k : Nat}, (∀ i, i < k → f i ≤ B) → sumN f k ≤ k * B
  | 0, _ => by simp [sumN]
  | k + 1, h => by
    have h1 := sumN_le (k := k) (fun i hi => h i (by omega))
    have h2 := h k (by omega)
    simp only [sumN]; rw [Nat.succ_mul]; omega
theorem tot_le {n : Nat → Nat} {f : Nat → Nat → Nat → Nat} {B : Nat} (h0 : n 0 ≤ 20) (h1 : n 1 ≤ 20) (h2 : n 2 ≤ 20) (h : ∀ a b c, f a b c ≤ B) : tot n f ≤ 8000 * B := by
  have e1 : ∀ a b, sumN (fun z => f a b z) (n 2) ≤ 20 * B := fun a b => Nat.le_trans (sumN_le (fun i _ => h a b i)) (Nat.mul_le_mul_right _ h2)
  have e2 : ∀ a, sumN (fun y => sumN (fun z => f a y z) (n 2)) (n 1) ≤ 20 * (20 * B) := fun a => Nat.le_trans (sumN_le (fun i _ => e1 a i)) (Nat.mul_le_mul_right _ h1)
  have e3 : tot n f ≤ 20 * (20 * (20 * B)) := Nat.le_trans (sumN_le (fun i _ => e2 i)) (Nat.mul_le_mul_right _ h0)
  omega
def iw (c : Prop) [Decidable c] (v : Nat) : Nat := if c then v else 0
def hit1 (v : Nat) : Nat := if v = 0 then 0 else 1
def indO (E : Nat → Nat → Nat → Nat) (j a b c : Nat) : Nat := iw (j = 0 * 20 + a) (E a b c) + iw (j = 1 * 20 + b) (E a b c) + iw (j = 2 * 20 + c) (E a b c)
def indT (E : Nat → Nat → Nat → Nat) (j a b c : Nat) : Nat := iw (j = 0 * 400 + b * 20 + c) (E a b c) + iw (j = 1 * 400 + a * 20 + c) (E a b c) + iw (j = 2 * 400 + a * 20 + b) (E a b c)
def SvA (M : Mm) (s h : Nat) (u t : Nat → Nat) : Prop := gJ M 11 2 = lN s ∧ gI M 11 3 = nI h ∧ (∀ j, j < 60 → gJ M 12 j = lN (u j)) ∧ (∀ j, j < 1200 → gJ M 13 j = lN (t j))
theorem upd_self {f : Nat → Int32} {k : Nat} {v : Int32} (h : f k = v) : upd f k v = f := by
  funext j
  by_cases e : j = k
  · subst e; rw [upd_s, h]
  · rw [upd_n _ _ e]
theorem add1L {f : Nat → Int64} {u : Nat → Nat} {N i v : Nat} (h : ∀ j, j < N → f j = lN (u j)) (hi : i < N) : ∀ j, j < N → vp_updL f i (lN (u i + v)) j = lN (u j + iw (j = i) v) := by
  intro j hj
  unfold iw
  by_cases e : j = i
  · subst e; rw [updL_s, if_pos rfl]
  · rw [updL_n _ _ e, if_neg e, h j hj]; rfl
set_option maxHeartbeats 4000000 in
set_option maxRecDepth 100000 in
theorem k_sbegin {w : Bool} {M : Mm}  : CT mX5_begin [.ref 11] (shF w) M (Qv (shF w) (fun M2 => SvA M2 0 0 (fun _ => 0) (fun _ => 0) ∧ Same [11, 12, 13] M M2)) := by
  refine CT.mk (lv := [(0, .ref 11)]) rfl (by decide +kernel) (Nat.le_of_ble_eq_true rfl) ?_
  intro X C RT
  refine e_aload_n C dX5_begin_0 rfl rfl ?_
  refine e_getR (q := 12) C dX5_begin_1 fX5_9 rfl rfl ?_
  refine e_lconst (v := lN 0) C dX5_begin_4 (by decide) ?_
  refine e_callSv C dX5_begin_5 [.ref 12, .long (lN 0)] (k_fillJ (lN 0) rfl (by decide)) okJ7_fill_d0a16 lX5_26 rfl rfl ⟨rfl, rfl⟩ ⟨Nat.le_of_ble_eq_true rfl, Nat.le_of_ble_eq_true rfl⟩ (Nat.le_of_ble_eq_true rfl) ⟨Nat.zero_le _, Nat.zero_le _⟩ ?_
  refine e_aload_n C dX5_begin_8 rfl rfl ?_
  refine e_getR (q := 13) C dX5_begin_9 fX5_15 rfl rfl ?_
  refine e_lconst (v := lN 0) C dX5_begin_12 (by decide) ?_
  refine e_callSv C dX5_begin_13 [.ref 13, .long (lN 0)] (k_fillJ (lN 0) rfl (by decide)) okJ7_fill_d0a16 lX5_26 rfl rfl ⟨rfl, rfl⟩ ⟨Nat.le_of_ble_eq_true rfl, Nat.le_of_ble_eq_true rfl⟩ (Nat.le_of_ble_eq_true rfl) ⟨Nat.zero_le _, Nat.zero_le _⟩ ?_
  refine e_aload_n C dX5_begin_16 rfl rfl ?_
  refine e_lconst (v := lN 0) C dX5_begin_17 (by decide) ?_
  refine e_putJ C dX5_begin_18 pX5_18 rfl rfl rfl rfl ?_
  refine e_aload_n C dX5_begin_21 rfl rfl ?_
  refine e_iconst (v := (nI 0)) C dX5_begin_22 (by decide) ?_
  refine e_putI C dX5_begin_23 pX5_22 rfl rfl rfl rfl ?_
  exact e_vret C dX5_begin_26 RT ⟨Nat.zero_le _, Nat.zero_le _⟩ (qv_ ⟨⟨by rw [gJ_sI, gJ_sJ, updL_s], by rw [gI_sI, upd_s], fun j hj => by rw [gJ_sI, gJ_sJ_ne _ _ (by decide), gJ_sJ_ne _ _ (by decide), gJ_sJ]; simp [fillr, hj], fun j hj => by rw [gJ_sI, gJ_sJ_ne _ _ (by decide), gJ_sJ]; simp [fillr, hj]⟩, ((((Same.rf _ M).J (by decide)).J (by decide)).J (by decide)).I (by decide)⟩)
def SaF (M : Mm) (s h : Nat) (u t : Nat → Nat) (a b c v : Nat) (M2 : Mm) : Prop := SvA M2 (s + v) (h + hit1 v) (fun j => u j + (iw (j = 0 * 20 + a) v + iw (j = 1 * 20 + b) v + iw (j = 2 * 20 + c) v)) (fun j => t j + (iw (j = 0 * 400 + b * 20 + c) v + iw (j = 1 * 400 + a * 20 + c) v + iw (j = 2 * 400 + a * 20 + b) v)) ∧ Same [11, 12, 13] M M2
set_option maxHeartbeats 4000000 in
set_option maxRecDepth 100000 in
theorem k_sadd {w : Bool} {M : Mm} {s h : Nat} {u t : Nat → Nat} (hA : SvA M s h u t) (a b c v : Nat) (ha : a < 20) (hb : b < 20) (hc : c < 20) (hv : v < 2 ^ 31) : CT mX5_add [.ref 11, .int (nI a), .int (nI b), .int (nI c), .int (nI v)] (shF w) M (Qv (shF w) (SaF M s h u t a b c v)) := by
  refine CT.mk (lv := [(0, .ref 11), (1, .int (nI a)), (2, .int (nI b)), (3, .int (nI c)), (4, .int (nI v))]) rfl (by decide +kernel) (Nat.le_of_ble_eq_true rfl) ?_
  intro X C RT
  obtain ⟨hs, hh, hu, ht⟩ := hA
  refine e_iload C dX5_add_0 rfl ?_
  refine e_if_neN (tgt := 6) C dX5_add_2 (by omega) (by decide) (fun h2 => ?_) (fun h2 => ?_)
  · refine e_aload_n C dX5_add_6 rfl rfl ?_
    refine e_dup C dX5_add_7 rfl ?_
    refine e_getI C dX5_add_8 fX5_22 rfl rfl ?_
    refine e_topi (nI h) hh ?_
    refine e_iconst (v := (nI 1)) C dX5_add_11 (by decide) ?_
    refine e_iaddN C dX5_add_12 ?_
    refine e_putI C dX5_add_13 pX5_22 rfl rfl rfl rfl ?_
    refine e_nm (fun M1 hM1 => ?_)
    have hu0 : ∀ j, j < 60 → gJ M1 12 j = lN (u j) := by rw [hM1, gJ_sI]; exact hu
    have ht0 : ∀ j, j < 1200 → gJ M1 13 j = lN (t j) := by rw [hM1, gJ_sI]; exact ht
    have s0 : Same [11, 12, 13] M M1 := by rw [hM1]; exact (Same.rf _ M).I (by decide)
    have q0 : gI M1 11 3 = nI (h + 1) := by rw [hM1, gI_sI, upd_s]
    refine e_aload_n C dX5_add_16 rfl rfl ?_
    refine e_dup C dX5_add_17 rfl ?_
    refine e_getJ C dX5_add_18 fX5_18 rfl rfl ?_
    refine e_topl (lN s) (by rw [hM1, gJ_sI]; exact hs) ?_
    refine e_iload C dX5_add_21 rfl ?_
    refine e_i2lN C dX5_add_23 (by omega) ?_
    refine e_laddN C dX5_add_24 ?_
    refine e_putJ C dX5_add_25 pX5_18 rfl rfl rfl rfl ?_
    refine e_nm (fun M2 hM2 => ?_)
    have hu1 : ∀ j, j < 60 → gJ M2 12 j = lN (u j) := by rw [hM2, gJ_sJ_ne _ _ (by decide)]; exact hu0
    have ht1 : ∀ j, j < 1200 → gJ M2 13 j = lN (t j) := by rw [hM2, gJ_sJ_ne _ _ (by decide)]; exact ht0
    have s1 : Same [11, 12, 13] M M2 := by rw [hM2]; exact s0.J (by decide)
    have q1 : gI M2 11 3 = nI (h + 1) := by rw [hM2, gI_sJ]; exact q0
    have r1 : gJ M2 11 2 = lN (s + v) := by rw [hM2, gJ_sJ, updL_s]
    refine e_aload_n C dX5_add_28 rfl rfl ?_
    refine e_getR (q := 12) C dX5_add_29 fX5_9 rfl rfl ?_
    refine e_iconst (v := (nI 0)) C dX5_add_32 (by decide) ?_
    refine e_iload_n C dX5_add_33 rfl rfl ?_
    refine e_callSi C dX5_add_34 [.int (nI 0), .int (nI a)] (k_oneAt 0 a) okX5_oneAt lX5_32 rfl ⟨rfl, rfl⟩ ⟨Nat.le_of_ble_eq_true rfl, Nat.le_of_ble_eq_true rfl⟩ (Nat.le_of_ble_eq_true rfl) ⟨Nat.zero_le _, Nat.zero_le _⟩ ?_
    refine e_dup2 C dX5_add_37 rfl rfl ?_
    refine e_laloadN C dX5_add_38 rfl (by omega) (by omega) ?_
    refine e_topl (lN (u (0 * 20 + a))) (hu1 (0 * 20 + a) (by omega)) ?_
    refine e_iload C dX5_add_39 rfl ?_
    refine e_i2lN C dX5_add_41 (by omega) ?_
    refine e_laddN C dX5_add_42 ?_
    refine e_lastoreN C dX5_add_43 rfl (by omega) (by omega) ?_
    refine e_nm (fun M3 hM3 => ?_)
    have hu2 : ∀ j, j < 60 → gJ M3 12 j = lN (u j + iw (j = 0 * 20 + a) v) := by rw [hM3, gJ_sJ]; exact add1L (u := fun j => u j) hu1 (by omega)
    have ht2 : ∀ j, j < 1200 → gJ M3 13 j = lN (t j) := by rw [hM3, gJ_sJ_ne _ _ (by decide)]; exact ht1
    have s2 : Same [11, 12, 13] M M3 := by rw [hM3]; exact s1.J (by decide)
    have q2 : gI M3 11 3 = nI (h + 1) := by rw [hM3, gI_sJ]; exact q1
    have r2 : gJ M3 11 2 = lN (s + v) := by rw [hM3, gJ_sJ_ne _ _ (by decide)]; exact r1
    refine e_aload_n C dX5_add_44 rfl rfl ?_
    refine e_getR (q := 12) C dX5_add_45 fX5_9 rfl rfl ?_
    refine e_iconst (v := (nI 1)) C dX5_add_48 (by decide) ?_
    refine e_iload_n C dX5_add_49 rfl rfl ?_
    refine e_callSi C dX5_add_50 [.int (nI 1), .int (nI b)] (k_oneAt 1 b) okX5_oneAt lX5_32 rfl ⟨rfl, rfl⟩ ⟨Nat.le_of_ble_eq_true rfl, Nat.le_of_ble_eq_true rfl⟩ (Nat.le_of_ble_eq_true rfl) ⟨Nat.zero_le _, Nat.zero_le _⟩ ?_
    refine e_dup2 C dX5_add_53 rfl rfl ?_
    refine e_laloadN C dX5_add_54 rfl (by omega) (by omega) ?_
    refine e_topl (lN (u (1 * 20 + b) + iw ((1 * 20 + b) = 0 * 20 + a) v)) (hu2 (1 * 20 + b) (by omega)) ?_
    refine e_iload C dX5_add_55 rfl ?_
    refine e_i2lN C dX5_add_57 (by omega) ?_
    refine e_laddN C dX5_add_58 ?_
    refine e_lastoreN C dX5_add_59 rfl (by omega) (by omega) ?_
    refine e_nm (fun M4 hM4 => ?_)
    have hu3 : ∀ j, j < 60 → gJ M4 12 j = lN (u j + iw (j = 0 * 20 + a) v + iw (j = 1 * 20 + b) v) := by rw [hM4, gJ_sJ]; exact add1L (u := fun j => u j + iw (j = 0 * 20 + a) v) hu2 (by omega)
    have ht3 : ∀ j, j < 1200 → gJ M4 13 j = lN (t j) := by rw [hM4, gJ_sJ_ne _ _ (by decide)]; exact ht2
    have s3 : Same [11, 12, 13] M M4 := by rw [hM4]; exact s2.J (by decide)
    have q3 : gI M4 11 3 = nI (h + 1) := by rw [hM4, gI_sJ]; exact q2
    have r3 : gJ M4 11 2 = lN (s + v) := by rw [hM4, gJ_sJ_ne _ _ (by decide)]; exact r2
    refine e_aload_n C dX5_add_60 rfl rfl ?_
    refine e_getR (q := 12) C dX5_add_61 fX5_9 rfl rfl ?_
    refine e_iconst (v := (nI 2)) C dX5_add_64 (by decide) ?_
    refine e_iload_n C dX5_add_65 rfl rfl ?_
    refine e_callSi C dX5_add_66 [.int (nI 2), .int (nI c)] (k_oneAt 2 c) okX5_oneAt lX5_32 rfl ⟨rfl, rfl⟩ ⟨Nat.le_of_ble_eq_true rfl, Nat.le_of_ble_eq_true rfl⟩ (Nat.le_of_ble_eq_true rfl) ⟨Nat.zero_le _, Nat.zero_le _⟩ ?_
    refine e_dup2 C dX5_add_69 rfl rfl ?_
    refine e_laloadN C dX5_add_70 rfl (by omega) (by omega) ?_
    refine e_topl (lN (u (2 * 20 + c) + iw ((2 * 20 + c) = 0 * 20 + a) v + iw ((2 * 20 + c) = 1 * 20 + b) v)) (hu3 (2 * 20 + c) (by omega)) ?_
    refine e_iload C dX5_add_71 rfl ?_
    refine e_i2lN C dX5_add_73 (by omega) ?_
    refine e_laddN C dX5_add_74 ?_
    refine e_lastoreN C dX5_add_75 rfl (by omega) (by omega) ?_
    refine e_nm (fun M5 hM5 => ?_)
    have hu4 : ∀ j, j < 60 → gJ M5 12 j = lN (u j + iw (j = 0 * 20 + a) v + iw (j = 1 * 20 + b) v + iw (j = 2 * 20 + c) v) := by rw [hM5, gJ_sJ]; exact add1L (u := fun j => u j + iw (j = 0 * 20 + a) v + iw (j = 1 * 20 + b) v) hu3 (by omega)
    have ht4 : ∀ j, j < 1200 → gJ M5 13 j = lN (t j) := by rw [hM5, gJ_sJ_ne _ _ (by decide)]; exact ht3
    have s4 : Same [11, 12, 13] M M5 := by rw [hM5]; exact s3.J (by decide)
    have q4 : gI M5 11 3 = nI (h + 1) := by rw [hM5, gI_sJ]; exact q3
    have r4 : gJ M5 11 2 = lN (s + v) := by rw [hM5, gJ_sJ_ne _ _ (by decide)]; exact r3
    refine e_aload_n C dX5_add_76 rfl rfl ?_
    refine e_getR (q := 13) C dX5_add_77 fX5_15 rfl rfl ?_
    refine e_iconst (v := (nI 0)) C dX5_add_80 (by decide) ?_
    refine e_iload_n C dX5_add_81 rfl rfl ?_
    refine e_iload_n C dX5_add_82 rfl rfl ?_
    refine e_callSi C dX5_add_83 [.int (nI 0), .int (nI b), .int (nI c)] (k_twoAt 0 b c) okX5_twoAt lX5_36 rfl ⟨rfl, rfl⟩ ⟨Nat.le_of_ble_eq_true rfl, Nat.le_of_ble_eq_true rfl⟩ (Nat.le_of_ble_eq_true rfl) ⟨Nat.zero_le _, Nat.zero_le _⟩ ?_
    refine e_dup2 C dX5_add_86 rfl rfl ?_
    refine e_laloadN C dX5_add_87 rfl (by omega) (by omega) ?_
    refine e_topl (lN (t (0 * 400 + b * 20 + c))) (ht4 (0 * 400 + b * 20 + c) (by omega)) ?_
    refine e_iload C dX5_add_88 rfl ?_
    refine e_i2lN C dX5_add_90 (by omega) ?_
    refine e_laddN C dX5_add_91 ?_
    refine e_lastoreN C dX5_add_92 rfl (by omega) (by omega) ?_
    refine e_nm (fun M6 hM6 => ?_)
    have ht5 : ∀ j, j < 1200 → gJ M6 13 j = lN (t j + iw (j = 0 * 400 + b * 20 + c) v) := by rw [hM6, gJ_sJ]; exact add1L (u := fun j => t j) ht4 (by omega)
    have hu5 : ∀ j, j < 60 → gJ M6 12 j = lN (u j + iw (j = 0 * 20 + a) v + iw (j = 1 * 20 + b) v + iw (j = 2 * 20 + c) v) := by rw [hM6, gJ_sJ_ne _ _ (by decide)]; exact hu4
    have s5 : Same [11, 12, 13] M M6 := by rw [hM6]; exact s4.J (by decide)
    have q5 : gI M6 11 3 = nI (h + 1) := by rw [hM6, gI_sJ]; exact q4
    have r5 : gJ M6 11 2 = lN (s + v) := by rw [hM6, gJ_sJ_ne _ _ (by decide)]; exact r4
    refine e_aload_n C dX5_add_93 rfl rfl ?_
    refine e_getR (q := 13) C dX5_add_94 fX5_15 rfl rfl ?_
    refine e_iconst (v := (nI 1)) C dX5_add_97 (by decide) ?_
    refine e_iload_n C dX5_add_98 rfl rfl ?_
    refine e_iload_n C dX5_add_99 rfl rfl ?_
    refine e_callSi C dX5_add_100 [.int (nI 1), .int (nI a), .int (nI c)] (k_twoAt 1 a c) okX5_twoAt lX5_36 rfl ⟨rfl, rfl⟩ ⟨Nat.le_of_ble_eq_true rfl, Nat.le_of_ble_eq_true rfl⟩ (Nat.le_of_ble_eq_true rfl) ⟨Nat.zero_le _, Nat.zero_le _⟩ ?_
    refine e_dup2 C dX5_add_103 rfl rfl ?_
    refine e_laloadN C dX5_add_104 rfl (by omega) (by omega) ?_
    refine e_topl (lN (t (1 * 400 + a * 20 + c) + iw ((1 * 400 + a * 20 + c) = 0 * 400 + b * 20 + c) v)) (ht5 (1 * 400 + a * 20 + c) (by omega)) ?_
    refine e_iload C dX5_add_105 rfl ?_
    refine e_i2lN C dX5_add_107 (by omega) ?_
    refine e_laddN C dX5_add_108 ?_
    refine e_lastoreN C dX5_add_109 rfl (by omega) (by omega) ?_
    refine e_nm (fun M7 hM7 => ?_)
    have ht6 : ∀ j, j < 1200 → gJ M7 13 j = lN (t j + iw (j = 0 * 400 + b * 20 + c) v + iw (j = 1 * 400 + a * 20 + c) v) := by rw [hM7, gJ_sJ]; exact add1L (u := fun j => t j + iw (j = 0 * 400 + b * 20 + c) v) ht5 (by omega)
    have hu6 : ∀ j, j < 60 → gJ M7 12 j = lN (u j + iw (j = 0 * 20 + a) v + iw (j = 1 * 20 + b) v + iw (j = 2 * 20 + c) v) := by rw [hM7, gJ_sJ_ne _ _ (by decide)]; exact hu5
    have s6 : Same [11, 12, 13] M M7 := by rw [hM7]; exact s5.J (by decide)
    have q6 : gI M7 11 3 = nI (h + 1) := by rw [hM7, gI_sJ]; exact q5
    have r6 : gJ M7 11 2 = lN (s + v) := by rw [hM7, gJ_sJ_ne _ _ (by decide)]; exact r5
    refine e_aload_n C dX5_add_110 rfl rfl ?_
    refine e_getR (q := 13) C dX5_add_111 fX5_15 rfl rfl ?_
    refine e_iconst (v := (nI 2)) C dX5_add_114 (by decide) ?_
    refine e_iload_n C dX5_add_115 rfl rfl ?_
    refine e_iload_n C dX5_add_116 rfl rfl ?_
    refine e_callSi C dX5_add_117 [.int (nI 2), .int (nI a), .int (nI b)] (k_twoAt 2 a b) okX5_twoAt lX5_36 rfl ⟨rfl, rfl⟩ ⟨Nat.le_of_ble_eq_true rfl, Nat.le_of_ble_eq_true rfl⟩ (Nat.le_of_ble_eq_true rfl) ⟨Nat.zero_le _, Nat.zero_le _⟩ ?_
    refine e_dup2 C dX5_add_120 rfl rfl ?_
    refine e_laloadN C dX5_add_121 rfl (by omega) (by omega) ?_
    refine e_topl (lN (t (2 * 400 + a * 20 + b) + iw ((2 * 400 + a * 20 + b) = 0 * 400 + b * 20 + c) v + iw ((2 * 400 + a * 20 + b) = 1 * 400 + a * 20 + c) v)) (ht6 (2 * 400 + a * 20 + b) (by omega)) ?_
    refine e_iload C dX5_add_122 rfl ?_
    refine e_i2lN C dX5_add_124 (by omega) ?_
    refine e_laddN C dX5_add_125 ?_
    refine e_lastoreN C dX5_add_126 rfl (by omega) (by omega) ?_
    refine e_nm (fun M8 hM8 => ?_)
    have ht7 : ∀ j, j < 1200 → gJ M8 13 j = lN (t j + iw (j = 0 * 400 + b * 20 + c) v + iw (j = 1 * 400 + a * 20 + c) v + iw (j = 2 * 400 + a * 20 + b) v) := by rw [hM8, gJ_sJ]; exact add1L (u := fun j => t j + iw (j = 0 * 400 + b * 20 + c) v + iw (j = 1 * 400 + a * 20 + c) v) ht6 (by omega)
    have hu7 : ∀ j, j < 60 → gJ M8 12 j = lN (u j + iw (j = 0 * 20 + a) v + iw (j = 1 * 20 + b) v + iw (j = 2 * 20 + c) v) := by rw [hM8, gJ_sJ_ne _ _ (by decide)]; exact hu6
    have s7 : Same [11, 12, 13] M M8 := by rw [hM8]; exact s6.J (by decide)
    have q7 : gI M8 11 3 = nI (h + 1) := by rw [hM8, gI_sJ]; exact q6
    have r7 : gJ M8 11 2 = lN (s + v) := by rw [hM8, gJ_sJ_ne _ _ (by decide)]; exact r6
    exact e_vret C dX5_add_127 RT ⟨Nat.zero_le _, Nat.zero_le _⟩ (qv_ ⟨⟨r7, by rw [q7]; simp [hit1, h2], fun j hj => (hu7 j hj).trans (congrArg lN (by dsimp only; omega)), fun j hj => (ht7 j hj).trans (congrArg lN (by dsimp only; omega))⟩, s7⟩)
  · exact e_vret C dX5_add_5 RT ⟨Nat.zero_le _, Nat.zero_le _⟩ (qv_ (by subst h2; exact ⟨⟨hs, hh, fun j hj => by rw [hu j hj]; simp [iw], fun j hj => by rw [ht j hj]; simp [iw]⟩, Same.rf _ M⟩))
def SvOK (M : Mm) (n : Nat → Nat) (E : Nat → Nat → Nat → Nat) : Prop := SvA M (tot n E) (tot n (fun a b c => hit1 (E a b c))) (fun j => tot n (indO E j)) (fun j => tot n (indT E j))
theorem SvOK.same {M M2 : Mm} {n : Nat → Nat} {E : Nat → Nat → Nat → Nat} (h : SvOK M n E) (h1 : gJ M2 11 = gJ M 11) (h2 : gI M2 11 = gI M 11) (h3 : gJ M2 12 = gJ M 12) (h4 : gJ M2 13 = gJ M 13) : SvOK M2 n E := ⟨by rw [h1]; exact h.1, by rw [h2]; exact h.2.1, by rw [h3]; exact h.2.2.1, by rw [h4]; exact h.2.2.2⟩
/-- the survey's flag, and what it says -/
def SvF (M : Mm) (n : Nat → Nat) (E : Nat → Nat → Nat → Nat) : Prop := gI M 0 10 = nI 0 ∨ (gI M 0 10 = nI 1 ∧ SvOK M n E)
def SvI (M : Mm) (n : Nat → Nat) (E : Nat → Nat → Nat → Nat) (M2 : Mm) (a b c : Nat) : Prop := SvA M2 (acc n E a b c) (acc n (fun a b c => hit1 (E a b c)) a b c) (fun j => acc n (indO E j) a b c) (fun j => acc n (indT E j) a b c) ∧ Same [11, 12, 13] M M2
theorem SvI.b {M : Mm} {n : Nat → Nat} {E : Nat → Nat → Nat → Nat} {M2 : Mm} {a b : Nat} (h : SvI M n E M2 a b (n 2)) : SvI M n E M2 a (b + 1) 0 := by
  unfold SvI at h ⊢; simp only [acc_b]; exact h
theorem SvI.a {M : Mm} {n : Nat → Nat} {E : Nat → Nat → Nat → Nat} {M2 : Mm} {a : Nat} (h : SvI M n E M2 a (n 1) 0) : SvI M n E M2 (a + 1) 0 0 := by
  unfold SvI at h ⊢; simp only [acc_a]; exact h
theorem SvI.c {M : Mm} {n : Nat → Nat} {E : Nat → Nat → Nat → Nat} {M2 M3 : Mm} {a b c : Nat} (h : SvI M n E M2 a b c) (h2 : SaF M2 (acc n E a b c) (acc n (fun a b c => hit1 (E a b c)) a b c) (fun j => acc n (indO E j) a b c) (fun j => acc n (indT E j) a b c) a b c (E a b c) M3) : SvI M n E M3 a b (c + 1) := by
  refine ⟨?_, h.2.tr h2.2⟩
  simp only [acc_c]
  exact h2.1
def SeF (M : Mm) (n : Nat → Nat) (E : Nat → Nat → Nat → Nat) (M2 : Mm) : Prop := SvOK M2 n E ∧ Same [0, 11, 12, 13] M M2 ∧ gI M2 0 = upd (gI M 0) 10 (nI 1)
set_option maxHeartbeats 4000000 in
set_option maxRecDepth 100000 in
theorem k_surveyEndings {w : Bool} {M : Mm} {n P : Nat → Nat} {k : Nat} {W : Nat → Nat → Int32} {pv : Nat → Nat} {L : Nat} (hB : Bs M n P k W pv L) (hF : SvF M n (EE n P k W pv L)) : CT mX7_surveyEndings [.ref 0] (shF w) M (Qv (shF w) (SeF M n (EE n P k W pv L))) := by
  refine CT.mk (lv := [(0, .ref 0)]) rfl (by decide +kernel) (Nat.le_of_ble_eq_true rfl) ?_
  intro X C RT
  obtain ⟨hS, hT, hL, hL1, hL3⟩ := id hB
  have n0 := hS.2.1 0 (by decide)
  have n1 := hS.2.1 1 (by decide)
  have n2 := hS.2.1 2 (by decide)
  have hBM := hB
  rcases hF with hF | ⟨hF, hOK⟩
  · refine e_aload_n C dX7_surveyEndings_0 rfl rfl ?_
    refine e_getI C dX7_surveyEndings_1 fX7_70 rfl rfl ?_
    refine e_topi (nI 0) hF ?_
    refine e_if_eqN (tgt := 8) C dX7_surveyEndings_4 (by omega) (by decide) (fun h4 => ?_) (fun h4 => by omega)
    refine e_aload_n C dX7_surveyEndings_8 rfl rfl ?_
    refine e_getR (q := 11) C dX7_surveyEndings_9 fX7_30 rfl rfl ?_
    refine e_callVvQ C dX7_surveyEndings_12 [] (k_sbegin) okX5_begin lX7_264 rfl rfl rfl ⟨rfl, rfl⟩ ⟨Nat.le_of_ble_eq_true rfl, Nat.le_of_ble_eq_true rfl⟩ (Nat.le_of_ble_eq_true rfl) ⟨Nat.zero_le _, Nat.zero_le _⟩ (fun M1 hM1 => ?_)
    refine e_iconst (v := (nI 0)) C dX7_surveyEndings_15 (by decide) ?_
    refine e_istore_n (lv2 := [(1, .int (nI 0)), (0, .ref 0)]) C dX7_surveyEndings_16 rfl (by decide) rfl ?_
    refine e_loc [1, 0] rfl ?_
    have l1 : ∀ (a : Nat) (x1 : Mm), a ≤ n 0 → SvI M n (EE n P k W pv L) x1 a 0 0 → Wd X (0, 0) 17 [(0, .ref 0), (1, .int (nI a))] [] (shF w) x1 := by
      intro a
      induction hq_l1 : n 0 - a using Nat.strongRecOn generalizing a with
      | ind k_l1 ih_l1 =>
        intro x1 ha9 hI1
        have hB := hBM.sm hI1.2 (by decide)
        have hS := hB.1
        have hT := hB.2.1
        refine e_iload_n C dX7_surveyEndings_17 rfl rfl ?_
        refine e_aload_n C dX7_surveyEndings_18 rfl rfl ?_
        refine e_getR (q := 1) C dX7_surveyEndings_19 fX7_10 rfl rfl ?_
        refine e_iconst (v := (nI 0)) C dX7_surveyEndings_22 (by decide) ?_
        refine e_callVi C dX7_surveyEndings_23 [.int (nI 0)] (k_stopsOf hS 0 (by omega)) okX4_stopsOf lX7_145 rfl rfl rfl ⟨rfl, rfl⟩ ⟨Nat.le_of_ble_eq_true rfl, Nat.le_of_ble_eq_true rfl⟩ (Nat.le_of_ble_eq_true rfl) ⟨Nat.zero_le _, Nat.zero_le _⟩ ?_
        refine e_icmp_geN (tgt := 92) C dX7_surveyEndings_26 (by omega) (by omega) (by decide) (fun h26 => ?_) (fun h26 => ?_)
        · refine e_aload_n C dX7_surveyEndings_92 rfl rfl ?_
          refine e_iconst (v := (nI 1)) C dX7_surveyEndings_93 (by decide) ?_
          refine e_putI C dX7_surveyEndings_94 pX7_70 rfl rfl (by decide) (by decide) ?_
          exact e_vret C dX7_surveyEndings_97 RT ⟨Nat.zero_le _, Nat.zero_le _⟩ (qv_ (by have e9 : a = n 0 := (by omega); subst e9; exact ⟨by have h9 := hI1.1; simp only [acc_n] at h9; exact h9, (hI1.2.up (by decide)).I (by decide), by rw [gI_sI, hI1.2.gI (by decide)]⟩))
        · refine e_iconst (v := (nI 0)) C dX7_surveyEndings_29 (by decide) ?_
          refine e_istore_n (lv2 := [(2, .int (nI 0)), (0, .ref 0), (1, .int (nI a))]) C dX7_surveyEndings_30 rfl (by decide) rfl ?_
          refine e_loc [1, 2, 0] rfl ?_
          have l2 : ∀ (b : Nat) (x2 : Mm), b ≤ n 1 → SvI M n (EE n P k W pv L) x2 a b 0 → Wd X (0, 0) 31 [(0, .ref 0), (1, .int (nI a)), (2, .int (nI b))] [] (shF w) x2 := by
            intro b
            induction hq_l2 : n 1 - b using Nat.strongRecOn generalizing b with
            | ind k_l2 ih_l2 =>
              intro x2 hb9 hI2
              have hB := hBM.sm hI2.2 (by decide)
              have hS := hB.1
              have hT := hB.2.1
              refine e_iload_n C dX7_surveyEndings_31 rfl rfl ?_
              refine e_aload_n C dX7_surveyEndings_32 rfl rfl ?_
              refine e_getR (q := 1) C dX7_surveyEndings_33 fX7_10 rfl rfl ?_
              refine e_iconst (v := (nI 1)) C dX7_surveyEndings_36 (by decide) ?_
              refine e_callVi C dX7_surveyEndings_37 [.int (nI 1)] (k_stopsOf hS 1 (by omega)) okX4_stopsOf lX7_145 rfl rfl rfl ⟨rfl, rfl⟩ ⟨Nat.le_of_ble_eq_true rfl, Nat.le_of_ble_eq_true rfl⟩ (Nat.le_of_ble_eq_true rfl) ⟨Nat.zero_le _, Nat.zero_le _⟩ ?_
              refine e_icmp_geN (tgt := 86) C dX7_surveyEndings_40 (by omega) (by omega) (by decide) (fun h40 => ?_) (fun h40 => ?_)
              · refine e_iincN (lv2 := [(1, .int (nI (a + 1))), (0, .ref 0), (2, .int (nI b))]) C dX7_surveyEndings_86 rfl (by decide) (nI_1 _) rfl ?_
                refine e_goto (tgt := 17) C dX7_surveyEndings_89 (by decide) ?_
                refine e_loc [1, 0] rfl ?_
                have hI4 := hI2
                rw [show b = n 1 by omega] at hI4
                exact ih_l1 (n 0 - (a + 1)) (by omega) (a + 1) rfl x2 (by omega) hI4.a
              · refine e_iconst (v := (nI 0)) C dX7_surveyEndings_43 (by decide) ?_
                refine e_istore_n (lv2 := [(3, .int (nI 0)), (0, .ref 0), (1, .int (nI a)), (2, .int (nI b))]) C dX7_surveyEndings_44 rfl (by decide) rfl ?_
                refine e_loc [1, 2, 3, 0] rfl ?_
                have l3 : ∀ (c : Nat) (x3 : Mm), c ≤ n 2 → SvI M n (EE n P k W pv L) x3 a b c → Wd X (0, 0) 45 [(0, .ref 0), (1, .int (nI a)), (2, .int (nI b)), (3, .int (nI c))] [] (shF w) x3 := by
                  intro c
                  induction hq_l3 : n 2 - c using Nat.strongRecOn generalizing c with
                  | ind k_l3 ih_l3 =>
                    intro x3 hc9 hI3
                    have hB := hBM.sm hI3.2 (by decide)
                    have hS := hB.1
                    have hT := hB.2.1
                    refine e_iload_n C dX7_surveyEndings_45 rfl rfl ?_
                    refine e_aload_n C dX7_surveyEndings_46 rfl rfl ?_
                    refine e_getR (q := 1) C dX7_surveyEndings_47 fX7_10 rfl rfl ?_
                    refine e_iconst (v := (nI 2)) C dX7_surveyEndings_50 (by decide) ?_
                    refine e_callVi C dX7_surveyEndings_51 [.int (nI 2)] (k_stopsOf hS 2 (by omega)) okX4_stopsOf lX7_145 rfl rfl rfl ⟨rfl, rfl⟩ ⟨Nat.le_of_ble_eq_true rfl, Nat.le_of_ble_eq_true rfl⟩ (Nat.le_of_ble_eq_true rfl) ⟨Nat.zero_le _, Nat.zero_le _⟩ ?_
                    refine e_icmp_geN (tgt := 80) C dX7_surveyEndings_54 (by omega) (by omega) (by decide) (fun h54 => ?_) (fun h54 => ?_)
                    · refine e_iincN (lv2 := [(2, .int (nI (b + 1))), (0, .ref 0), (1, .int (nI a)), (3, .int (nI c))]) C dX7_surveyEndings_80 rfl (by decide) (nI_1 _) rfl ?_
                      refine e_goto (tgt := 31) C dX7_surveyEndings_83 (by decide) ?_
                      refine e_loc [1, 2, 0] rfl ?_
                      have hI4 := hI3
                      rw [show c = n 2 by omega] at hI4
                      exact ih_l2 (n 1 - (b + 1)) (by omega) (b + 1) rfl x3 (by omega) hI4.b
                    · refine e_aload_n C dX7_surveyEndings_57 rfl rfl ?_
                      refine e_getR (q := 11) C dX7_surveyEndings_58 fX7_30 rfl rfl ?_
                      refine e_iload_n C dX7_surveyEndings_61 rfl rfl ?_
                      refine e_iload_n C dX7_surveyEndings_62 rfl rfl ?_
                      refine e_iload_n C dX7_surveyEndings_63 rfl rfl ?_
                      refine e_aload_n C dX7_surveyEndings_64 rfl rfl ?_
                      refine e_iload_n C dX7_surveyEndings_65 rfl rfl ?_
                      refine e_iload_n C dX7_surveyEndings_66 rfl rfl ?_
                      refine e_iload_n C dX7_surveyEndings_67 rfl rfl ?_
                      have he2 := hB.le a b c
                      refine e_callVi C dX7_surveyEndings_68 [.int (nI a), .int (nI b), .int (nI c)] (k_endingPays hB a b c (by omega) (by omega) (by omega)) okX7_endingPays lX7_131 rfl rfl rfl ⟨rfl, rfl⟩ ⟨Nat.le_of_ble_eq_true rfl, Nat.le_of_ble_eq_true rfl⟩ (Nat.le_of_ble_eq_true rfl) ⟨Nat.zero_le _, Nat.zero_le _⟩ ?_
                      refine e_callVvQ C dX7_surveyEndings_71 [.int (nI a), .int (nI b), .int (nI c), .int (nI (EE n P k W pv L a b c))] (k_sadd hI3.1 a b c (EE n P k W pv L a b c) (by omega) (by omega) (by omega) (by omega)) okX5_add lX7_267 rfl rfl rfl ⟨rfl, rfl⟩ ⟨Nat.le_of_ble_eq_true rfl, Nat.le_of_ble_eq_true rfl⟩ (Nat.le_of_ble_eq_true rfl) ⟨Nat.zero_le _, Nat.zero_le _⟩ (fun M3 hM3 => ?_)
                      refine e_iincN (lv2 := [(3, .int (nI (c + 1))), (0, .ref 0), (1, .int (nI a)), (2, .int (nI b))]) C dX7_surveyEndings_74 rfl (by decide) (nI_1 _) rfl ?_
                      refine e_goto (tgt := 45) C dX7_surveyEndings_77 (by decide) ?_
                      refine e_loc [1, 2, 3, 0] rfl ?_
                      exact ih_l3 (n 2 - (c + 1)) (by omega) (c + 1) rfl M3 (by omega) (hI3.c hM3)
                exact l3 0 x2 (Nat.zero_le _) hI2
          exact l2 0 x1 (Nat.zero_le _) hI1
    exact l1 0 M1 (Nat.zero_le _) ⟨hM1.1, hM1.2⟩
  · refine e_aload_n C dX7_surveyEndings_0 rfl rfl ?_
    refine e_getI C dX7_surveyEndings_1 fX7_70 rfl rfl ?_
    refine e_topi (nI 1) hF ?_
    refine e_if_eqN (tgt := 8) C dX7_surveyEndings_4 (by omega) (by decide) (fun h4 => by omega) (fun h4 => ?_)
    exact e_vret C dX7_surveyEndings_7 RT ⟨Nat.zero_le _, Nat.zero_le _⟩ (qv_ ⟨hOK, Same.rf _ M, (upd_self hF).symm⟩)
