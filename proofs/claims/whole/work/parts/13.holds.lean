/-- what all endings with the held stops pay together -/
def heldS (n : Nat → Nat) (E : Nat → Nat → Nat → Nat) (h a b c : Nat) : Nat := if h = 7 then E a b c else tot n (fun x y z => iw ((bitN h 0 = 1 → x = a) ∧ (bitN h 1 = 1 → y = b) ∧ (bitN h 2 = 1 → z = c)) (E x y z))
def wrt (n : Nat → Nat) (E : Nat → Nat → Nat → Nat) (a b c h : Nat) : Nat := heldS n E h a b c * prd n h 3
/-- the best of 0 .. j, of like ones the least -/
def bstH (f : Nat → Nat) : Nat → Nat
  | 0 => 0
  | j + 1 => if f (bstH f j) < f (j + 1) then j + 1 else bstH f j
theorem bstH_le (f : Nat → Nat) : ∀ j, bstH f j ≤ j
  | 0 => Nat.le_refl 0
  | j + 1 => by
    have := bstH_le f j
    unfold bstH; split <;> omega
theorem prd_le {n : Nat → Nat} (h0 : n 0 ≤ 20) (h1 : n 1 ≤ 20) (h2 : n 2 ≤ 20) (h : Nat) : prd n h 3 ≤ 8000 := by
  simp only [prd]
  have e0 : (if bitN h 0 = 1 then n 0 else 1) ≤ 20 := by split <;> omega
  have e1 : (if bitN h 1 = 1 then n 1 else 1) ≤ 20 := by split <;> omega
  have e2 : (if bitN h 2 = 1 then n 2 else 1) ≤ 20 := by split <;> omega
  have e3 : 1 * (if bitN h 0 = 1 then n 0 else 1) * (if bitN h 1 = 1 then n 1 else 1) ≤ 20 * 20 := Nat.mul_le_mul (by omega) e1
  exact Nat.le_trans (Nat.mul_le_mul e3 e2) (by decide)
theorem heldS_le {n : Nat → Nat} {E : Nat → Nat → Nat → Nat} (h0 : n 0 ≤ 20) (h1 : n 1 ≤ 20) (h2 : n 2 ≤ 20) (hE : ∀ a b c, E a b c ≤ 30000) (h a b c : Nat) : heldS n E h a b c ≤ 240000000 := by
  unfold heldS
  split
  · have := hE a b c; omega
  · exact Nat.le_trans (tot_le h0 h1 h2 (B := 30000) (fun x y z => by unfold iw; split; exact hE x y z; omega)) (by decide)
theorem wrt_le {n : Nat → Nat} {E : Nat → Nat → Nat → Nat} (h0 : n 0 ≤ 20) (h1 : n 1 ≤ 20) (h2 : n 2 ≤ 20) (hE : ∀ a b c, E a b c ≤ 30000) (a b c h : Nat) : wrt n E a b c h ≤ 1920000000000 := by
  unfold wrt
  exact Nat.le_trans (Nat.mul_le_mul (heldS_le h0 h1 h2 hE h a b c) (prd_le h0 h1 h2 h)) (by decide)
theorem held_0 {n : Nat → Nat} {E : Nat → Nat → Nat → Nat} {a b c : Nat} : tot n E = heldS n E 0 a b c := by
  unfold heldS
  rw [if_neg (by decide)]
  refine tot_congr (fun x _ y _ z _ => ?_)
  unfold iw
  rw [if_pos ⟨fun h => absurd h (by decide), fun h => absurd h (by decide), fun h => absurd h (by decide)⟩]
theorem held_1 {n : Nat → Nat} {E : Nat → Nat → Nat → Nat} {a b c : Nat} (n0 : n 0 ≤ 20) (n1 : n 1 ≤ 20) (n2 : n 2 ≤ 20) (ha : a < 20) (hb : b < 20) (hc : c < 20) : tot n (indO E (0 * 20 + a)) = heldS n E 1 a b c := by
  unfold heldS
  rw [if_neg (by decide)]
  refine tot_congr (fun x hx y hy z hz => ?_)
  unfold indO iw
  rw [if_neg (show ¬ 0 * 20 + a = 1 * 20 + y by omega), if_neg (show ¬ 0 * 20 + a = 2 * 20 + z by omega)]
  by_cases hq : x = a
  · rw [if_pos (show 0 * 20 + a = 0 * 20 + x by omega), if_pos ⟨fun _ => hq, fun h => absurd h (by decide), fun h => absurd h (by decide)⟩]; omega
  · rw [if_neg (show ¬ 0 * 20 + a = 0 * 20 + x by omega), if_neg (fun h2 => hq (h2.1 (by decide)))]
theorem held_2 {n : Nat → Nat} {E : Nat → Nat → Nat → Nat} {a b c : Nat} (n0 : n 0 ≤ 20) (n1 : n 1 ≤ 20) (n2 : n 2 ≤ 20) (ha : a < 20) (hb : b < 20) (hc : c < 20) : tot n (indO E (1 * 20 + b)) = heldS n E 2 a b c := by
  unfold heldS
  rw [if_neg (by decide)]
  refine tot_congr (fun x hx y hy z hz => ?_)
  unfold indO iw
  rw [if_neg (show ¬ 1 * 20 + b = 0 * 20 + x by omega), if_neg (show ¬ 1 * 20 + b = 2 * 20 + z by omega)]
  by_cases hq : y = b
  · rw [if_pos (show 1 * 20 + b = 1 * 20 + y by omega), if_pos ⟨fun h => absurd h (by decide), fun _ => hq, fun h => absurd h (by decide)⟩]; omega
  · rw [if_neg (show ¬ 1 * 20 + b = 1 * 20 + y by omega), if_neg (fun h2 => hq (h2.2.1 (by decide)))]
theorem held_4 {n : Nat → Nat} {E : Nat → Nat → Nat → Nat} {a b c : Nat} (n0 : n 0 ≤ 20) (n1 : n 1 ≤ 20) (n2 : n 2 ≤ 20) (ha : a < 20) (hb : b < 20) (hc : c < 20) : tot n (indO E (2 * 20 + c)) = heldS n E 4 a b c := by
  unfold heldS
  rw [if_neg (by decide)]
  refine tot_congr (fun x hx y hy z hz => ?_)
  unfold indO iw
  rw [if_neg (show ¬ 2 * 20 + c = 0 * 20 + x by omega), if_neg (show ¬ 2 * 20 + c = 1 * 20 + y by omega)]
  by_cases hq : z = c
  · rw [if_pos (show 2 * 20 + c = 2 * 20 + z by omega), if_pos ⟨fun h => absurd h (by decide), fun h => absurd h (by decide), fun _ => hq⟩]; omega
  · rw [if_neg (show ¬ 2 * 20 + c = 2 * 20 + z by omega), if_neg (fun h2 => hq (h2.2.2 (by decide)))]
theorem held_6 {n : Nat → Nat} {E : Nat → Nat → Nat → Nat} {a b c : Nat} (n0 : n 0 ≤ 20) (n1 : n 1 ≤ 20) (n2 : n 2 ≤ 20) (ha : a < 20) (hb : b < 20) (hc : c < 20) : tot n (indT E (0 * 400 + b * 20 + c)) = heldS n E 6 a b c := by
  unfold heldS
  rw [if_neg (by decide)]
  refine tot_congr (fun x hx y hy z hz => ?_)
  unfold indT iw
  rw [if_neg (show ¬ 0 * 400 + b * 20 + c = 1 * 400 + x * 20 + z by omega), if_neg (show ¬ 0 * 400 + b * 20 + c = 2 * 400 + x * 20 + y by omega)]
  by_cases hq : y = b ∧ z = c
  · rw [if_pos (show 0 * 400 + b * 20 + c = 0 * 400 + y * 20 + z by omega), if_pos ⟨fun h => absurd h (by decide), fun _ => hq.1, fun _ => hq.2⟩]; omega
  · rw [if_neg (show ¬ 0 * 400 + b * 20 + c = 0 * 400 + y * 20 + z by omega), if_neg (fun h2 => hq ⟨h2.2.1 (by decide), h2.2.2 (by decide)⟩)]
theorem held_5 {n : Nat → Nat} {E : Nat → Nat → Nat → Nat} {a b c : Nat} (n0 : n 0 ≤ 20) (n1 : n 1 ≤ 20) (n2 : n 2 ≤ 20) (ha : a < 20) (hb : b < 20) (hc : c < 20) : tot n (indT E (1 * 400 + a * 20 + c)) = heldS n E 5 a b c := by
  unfold heldS
  rw [if_neg (by decide)]
  refine tot_congr (fun x hx y hy z hz => ?_)
  unfold indT iw
  rw [if_neg (show ¬ 1 * 400 + a * 20 + c = 0 * 400 + y * 20 + z by omega), if_neg (show ¬ 1 * 400 + a * 20 + c = 2 * 400 + x * 20 + y by omega)]
  by_cases hq : x = a ∧ z = c
  · rw [if_pos (show 1 * 400 + a * 20 + c = 1 * 400 + x * 20 + z by omega), if_pos ⟨fun _ => hq.1, fun h => absurd h (by decide), fun _ => hq.2⟩]; omega
  · rw [if_neg (show ¬ 1 * 400 + a * 20 + c = 1 * 400 + x * 20 + z by omega), if_neg (fun h2 => hq ⟨h2.1 (by decide), h2.2.2 (by decide)⟩)]
theorem held_3 {n : Nat → Nat} {E : Nat → Nat → Nat → Nat} {a b c : Nat} (n0 : n 0 ≤ 20) (n1 : n 1 ≤ 20) (n2 : n 2 ≤ 20) (ha : a < 20) (hb : b < 20) (hc : c < 20) : tot n (indT E (2 * 400 + a * 20 + b)) = heldS n E 3 a b c := by
  unfold heldS
  rw [if_neg (by decide)]
  refine tot_congr (fun x hx y hy z hz => ?_)
  unfold indT iw
  rw [if_neg (show ¬ 2 * 400 + a * 20 + b = 0 * 400 + y * 20 + z by omega), if_neg (show ¬ 2 * 400 + a * 20 + b = 1 * 400 + x * 20 + z by omega)]
  by_cases hq : x = a ∧ y = b
  · rw [if_pos (show 2 * 400 + a * 20 + b = 2 * 400 + x * 20 + y by omega), if_pos ⟨fun _ => hq.1, fun _ => hq.2, fun h => absurd h (by decide)⟩]; omega
  · rw [if_neg (show ¬ 2 * 400 + a * 20 + b = 2 * 400 + x * 20 + y by omega), if_neg (fun h2 => hq ⟨h2.1 (by decide), h2.2.1 (by decide)⟩)]
set_option maxHeartbeats 4000000 in
set_option maxRecDepth 100000 in
theorem k_heldPays {w : Bool} {M : Mm} {n : Nat → Nat} {E : Nat → Nat → Nat → Nat} (hV : SvOK M n E) (n0 : n 0 ≤ 20) (n1 : n 1 ≤ 20) (n2 : n 2 ≤ 20) (a b c h : Nat) (ha : a < 20) (hb : b < 20) (hc : c < 20) (hh : h < 7) : CT mX5_heldPays [.ref 11, .int (nI a), .int (nI b), .int (nI c), .int (nI h)] (shF w) M (Pl (lN (heldS n E h a b c)) (shF w) M) := by
  refine CT.mk (lv := [(0, .ref 11), (1, .int (nI a)), (2, .int (nI b)), (3, .int (nI c)), (4, .int (nI h))]) rfl (by decide +kernel) (Nat.le_of_ble_eq_true rfl) ?_
  intro X C RT
  obtain ⟨v1, v2, v3, v4⟩ := hV
  rcases (show h = 0 ∨ h = 1 ∨ h = 2 ∨ h = 3 ∨ h = 4 ∨ h = 5 ∨ h = 6 by omega) with rfl | rfl | rfl | rfl | rfl | rfl | rfl
  · refine e_iload C dX5_heldPays_0 rfl ?_
    refine e_tableOut (tgt := 109) C dX5_heldPays_2 (by decide) (by decide) ?_
    refine e_aload_n C dX5_heldPays_109 rfl rfl ?_
    refine e_getJ C dX5_heldPays_110 fX5_18 rfl rfl ?_
    refine e_topl (lN (tot n E)) v1 ?_
    exact e_lret C dX5_heldPays_113 RT ⟨Nat.zero_le _, Nat.zero_le _⟩ (pl_ (congrArg lN held_0))
  · refine e_iload C dX5_heldPays_0 rfl ?_
    refine e_tableIn (tgt := 40) C dX5_heldPays_2 (by decide) (by decide) rfl (by decide) ?_
    refine e_aload_n C dX5_heldPays_40 rfl rfl ?_
    refine e_getR (q := 12) C dX5_heldPays_41 fX5_9 rfl rfl ?_
    refine e_iconst (v := (nI 0)) C dX5_heldPays_44 (by decide) ?_
    refine e_iload_n C dX5_heldPays_45 rfl rfl ?_
    refine e_callSi C dX5_heldPays_46 [.int (nI 0), .int (nI a)] (k_oneAt 0 a) okX5_oneAt lX5_32 rfl ⟨rfl, rfl⟩ ⟨Nat.le_of_ble_eq_true rfl, Nat.le_of_ble_eq_true rfl⟩ (Nat.le_of_ble_eq_true rfl) ⟨Nat.zero_le _, Nat.zero_le _⟩ ?_
    refine e_laloadN C dX5_heldPays_49 rfl (by omega) (by omega) ?_
    refine e_topl (lN (tot n (indO E (0 * 20 + a)))) (v3 (0 * 20 + a) (by omega)) ?_
    exact e_lret C dX5_heldPays_50 RT ⟨Nat.zero_le _, Nat.zero_le _⟩ (pl_ (congrArg lN (held_1 n0 n1 n2 ha hb hc)))
  · refine e_iload C dX5_heldPays_0 rfl ?_
    refine e_tableIn (tgt := 51) C dX5_heldPays_2 (by decide) (by decide) rfl (by decide) ?_
    refine e_aload_n C dX5_heldPays_51 rfl rfl ?_
    refine e_getR (q := 12) C dX5_heldPays_52 fX5_9 rfl rfl ?_
    refine e_iconst (v := (nI 1)) C dX5_heldPays_55 (by decide) ?_
    refine e_iload_n C dX5_heldPays_56 rfl rfl ?_
    refine e_callSi C dX5_heldPays_57 [.int (nI 1), .int (nI b)] (k_oneAt 1 b) okX5_oneAt lX5_32 rfl ⟨rfl, rfl⟩ ⟨Nat.le_of_ble_eq_true rfl, Nat.le_of_ble_eq_true rfl⟩ (Nat.le_of_ble_eq_true rfl) ⟨Nat.zero_le _, Nat.zero_le _⟩ ?_
    refine e_laloadN C dX5_heldPays_60 rfl (by omega) (by omega) ?_
    refine e_topl (lN (tot n (indO E (1 * 20 + b)))) (v3 (1 * 20 + b) (by omega)) ?_
    exact e_lret C dX5_heldPays_61 RT ⟨Nat.zero_le _, Nat.zero_le _⟩ (pl_ (congrArg lN (held_2 n0 n1 n2 ha hb hc)))
  · refine e_iload C dX5_heldPays_0 rfl ?_
    refine e_tableIn (tgt := 62) C dX5_heldPays_2 (by decide) (by decide) rfl (by decide) ?_
    refine e_aload_n C dX5_heldPays_62 rfl rfl ?_
    refine e_getR (q := 13) C dX5_heldPays_63 fX5_15 rfl rfl ?_
    refine e_iconst (v := (nI 2)) C dX5_heldPays_66 (by decide) ?_
    refine e_iload_n C dX5_heldPays_67 rfl rfl ?_
    refine e_iload_n C dX5_heldPays_68 rfl rfl ?_
    refine e_callSi C dX5_heldPays_69 [.int (nI 2), .int (nI a), .int (nI b)] (k_twoAt 2 a b) okX5_twoAt lX5_36 rfl ⟨rfl, rfl⟩ ⟨Nat.le_of_ble_eq_true rfl, Nat.le_of_ble_eq_true rfl⟩ (Nat.le_of_ble_eq_true rfl) ⟨Nat.zero_le _, Nat.zero_le _⟩ ?_
    refine e_laloadN C dX5_heldPays_72 rfl (by omega) (by omega) ?_
    refine e_topl (lN (tot n (indT E (2 * 400 + a * 20 + b)))) (v4 (2 * 400 + a * 20 + b) (by omega)) ?_
    exact e_lret C dX5_heldPays_73 RT ⟨Nat.zero_le _, Nat.zero_le _⟩ (pl_ (congrArg lN (held_3 n0 n1 n2 ha hb hc)))
  · refine e_iload C dX5_heldPays_0 rfl ?_
    refine e_tableIn (tgt := 74) C dX5_heldPays_2 (by decide) (by decide) rfl (by decide) ?_
    refine e_aload_n C dX5_heldPays_74 rfl rfl ?_
    refine e_getR (q := 12) C dX5_heldPays_75 fX5_9 rfl rfl ?_
    refine e_iconst (v := (nI 2)) C dX5_heldPays_78 (by decide) ?_
    refine e_iload_n C dX5_heldPays_79 rfl rfl ?_
    refine e_callSi C dX5_heldPays_80 [.int (nI 2), .int (nI c)] (k_oneAt 2 c) okX5_oneAt lX5_32 rfl ⟨rfl, rfl⟩ ⟨Nat.le_of_ble_eq_true rfl, Nat.le_of_ble_eq_true rfl⟩ (Nat.le_of_ble_eq_true rfl) ⟨Nat.zero_le _, Nat.zero_le _⟩ ?_
    refine e_laloadN C dX5_heldPays_83 rfl (by omega) (by omega) ?_
    refine e_topl (lN (tot n (indO E (2 * 20 + c)))) (v3 (2 * 20 + c) (by omega)) ?_
    exact e_lret C dX5_heldPays_84 RT ⟨Nat.zero_le _, Nat.zero_le _⟩ (pl_ (congrArg lN (held_4 n0 n1 n2 ha hb hc)))
  · refine e_iload C dX5_heldPays_0 rfl ?_
    refine e_tableIn (tgt := 85) C dX5_heldPays_2 (by decide) (by decide) rfl (by decide) ?_
    refine e_aload_n C dX5_heldPays_85 rfl rfl ?_
    refine e_getR (q := 13) C dX5_heldPays_86 fX5_15 rfl rfl ?_
    refine e_iconst (v := (nI 1)) C dX5_heldPays_89 (by decide) ?_
    refine e_iload_n C dX5_heldPays_90 rfl rfl ?_
    refine e_iload_n C dX5_heldPays_91 rfl rfl ?_
    refine e_callSi C dX5_heldPays_92 [.int (nI 1), .int (nI a), .int (nI c)] (k_twoAt 1 a c) okX5_twoAt lX5_36 rfl ⟨rfl, rfl⟩ ⟨Nat.le_of_ble_eq_true rfl, Nat.le_of_ble_eq_true rfl⟩ (Nat.le_of_ble_eq_true rfl) ⟨Nat.zero_le _, Nat.zero_le _⟩ ?_
    refine e_laloadN C dX5_heldPays_95 rfl (by omega) (by omega) ?_
    refine e_topl (lN (tot n (indT E (1 * 400 + a * 20 + c)))) (v4 (1 * 400 + a * 20 + c) (by omega)) ?_
    exact e_lret C dX5_heldPays_96 RT ⟨Nat.zero_le _, Nat.zero_le _⟩ (pl_ (congrArg lN (held_5 n0 n1 n2 ha hb hc)))
  · refine e_iload C dX5_heldPays_0 rfl ?_
    refine e_tableIn (tgt := 97) C dX5_heldPays_2 (by decide) (by decide) rfl (by decide) ?_
    refine e_aload_n C dX5_heldPays_97 rfl rfl ?_
    refine e_getR (q := 13) C dX5_heldPays_98 fX5_15 rfl rfl ?_
    refine e_iconst (v := (nI 0)) C dX5_heldPays_101 (by decide) ?_
    refine e_iload_n C dX5_heldPays_102 rfl rfl ?_
    refine e_iload_n C dX5_heldPays_103 rfl rfl ?_
    refine e_callSi C dX5_heldPays_104 [.int (nI 0), .int (nI b), .int (nI c)] (k_twoAt 0 b c) okX5_twoAt lX5_36 rfl ⟨rfl, rfl⟩ ⟨Nat.le_of_ble_eq_true rfl, Nat.le_of_ble_eq_true rfl⟩ (Nat.le_of_ble_eq_true rfl) ⟨Nat.zero_le _, Nat.zero_le _⟩ ?_
    refine e_laloadN C dX5_heldPays_107 rfl (by omega) (by omega) ?_
    refine e_topl (lN (tot n (indT E (0 * 400 + b * 20 + c)))) (v4 (0 * 400 + b * 20 + c) (by omega)) ?_
    exact e_lret C dX5_heldPays_108 RT ⟨Nat.zero_le _, Nat.zero_le _⟩ (pl_ (congrArg lN (held_6 n0 n1 n2 ha hb hc)))
set_option maxHeartbeats 4000000 in
set_option maxRecDepth 100000 in
theorem k_worthOf {w : Bool} {M : Mm} {n P : Nat → Nat} {k : Nat} {W : Nat → Nat → Int32} {pv : Nat → Nat} {L : Nat} (hB : Bs M n P k W pv L) (hV : SvOK M n (EE n P k W pv L)) (a b c h : Nat) (ha : a < n 0) (hb : b < n 1) (hc : c < n 2) (hh : h < 8) : CT mX7_worthOf [.ref 0, .int (nI a), .int (nI b), .int (nI c), .int (nI h)] (shF w) M (Pl (lN (wrt n (EE n P k W pv L) a b c h)) (shF w) M) := by
  refine CT.mk (lv := [(0, .ref 0), (1, .int (nI a)), (2, .int (nI b)), (3, .int (nI c)), (4, .int (nI h))]) rfl (by decide +kernel) (Nat.le_of_ble_eq_true rfl) ?_
  intro X C RT
  obtain ⟨hS, hT, hL, hL1, hL3⟩ := id hB
  have n0 := hS.2.1 0 (by decide)
  have n1 := hS.2.1 1 (by decide)
  have n2 := hS.2.1 2 (by decide)
  have hpl := prd_le n0.2 n1.2 n2.2 h
  refine e_iload C dX7_worthOf_0 rfl ?_
  refine e_bipush (v := (nI 7)) C dX7_worthOf_2 (by decide) ?_
  refine e_icmp_neN (tgt := 18) C dX7_worthOf_4 (by omega) (by omega) (by decide) (fun h4 => ?_) (fun h4 => ?_)
  · refine e_aload_n C dX7_worthOf_18 rfl rfl ?_
    refine e_getR (q := 11) C dX7_worthOf_19 fX7_30 rfl rfl ?_
    refine e_iload_n C dX7_worthOf_22 rfl rfl ?_
    refine e_iload_n C dX7_worthOf_23 rfl rfl ?_
    refine e_iload_n C dX7_worthOf_24 rfl rfl ?_
    refine e_iload C dX7_worthOf_25 rfl ?_
    refine e_callVl C dX7_worthOf_27 [.int (nI a), .int (nI b), .int (nI c), .int (nI h)] (k_heldPays hV (by omega) (by omega) (by omega) a b c h (by omega) (by omega) (by omega) (by omega)) okX5_heldPays lX7_280 rfl rfl rfl ⟨rfl, rfl⟩ ⟨Nat.le_of_ble_eq_true rfl, Nat.le_of_ble_eq_true rfl⟩ (Nat.le_of_ble_eq_true rfl) ⟨Nat.zero_le _, Nat.zero_le _⟩ ?_
    refine e_lstore (lv2 := [(5, .long (lN (heldS n (EE n P k W pv L) h a b c))), (0, .ref 0), (1, .int (nI a)), (2, .int (nI b)), (3, .int (nI c)), (4, .int (nI h))]) C dX7_worthOf_30 (by decide) rfl ?_
    refine e_lload C dX7_worthOf_32 rfl ?_
    refine e_aload_n C dX7_worthOf_34 rfl rfl ?_
    refine e_getR (q := 1) C dX7_worthOf_35 fX7_10 rfl rfl ?_
    refine e_iload C dX7_worthOf_38 rfl ?_
    refine e_callVi C dX7_worthOf_40 [.int (nI h)] (k_stopsHeld hS h (by omega)) okX4_stopsHeld lX7_283 rfl rfl rfl ⟨rfl, rfl⟩ ⟨Nat.le_of_ble_eq_true rfl, Nat.le_of_ble_eq_true rfl⟩ (Nat.le_of_ble_eq_true rfl) ⟨Nat.zero_le _, Nat.zero_le _⟩ ?_
    refine e_i2lN C dX7_worthOf_43 (by omega) ?_
    refine e_lmulN C dX7_worthOf_44 ?_
    exact e_lret C dX7_worthOf_45 RT ⟨Nat.zero_le _, Nat.zero_le _⟩ (pl_ rfl)
  · refine e_aload_n C dX7_worthOf_7 rfl rfl ?_
    refine e_iload_n C dX7_worthOf_8 rfl rfl ?_
    refine e_iload_n C dX7_worthOf_9 rfl rfl ?_
    refine e_iload_n C dX7_worthOf_10 rfl rfl ?_
    have he1 := hB.le a b c
    refine e_callVi C dX7_worthOf_11 [.int (nI a), .int (nI b), .int (nI c)] (k_endingPays hB a b c (by omega) (by omega) (by omega)) okX7_endingPays lX7_131 rfl rfl rfl ⟨rfl, rfl⟩ ⟨Nat.le_of_ble_eq_true rfl, Nat.le_of_ble_eq_true rfl⟩ (Nat.le_of_ble_eq_true rfl) ⟨Nat.zero_le _, Nat.zero_le _⟩ ?_
    refine e_i2lN C dX7_worthOf_14 (by omega) ?_
    refine e_goto (tgt := 30) C dX7_worthOf_15 (by decide) ?_
    refine e_lstore (lv2 := [(5, .long (lN (EE n P k W pv L a b c))), (0, .ref 0), (1, .int (nI a)), (2, .int (nI b)), (3, .int (nI c)), (4, .int (nI h))]) C dX7_worthOf_30 (by decide) rfl ?_
    refine e_lload C dX7_worthOf_32 rfl ?_
    refine e_aload_n C dX7_worthOf_34 rfl rfl ?_
    refine e_getR (q := 1) C dX7_worthOf_35 fX7_10 rfl rfl ?_
    refine e_iload C dX7_worthOf_38 rfl ?_
    refine e_callVi C dX7_worthOf_40 [.int (nI h)] (k_stopsHeld hS h (by omega)) okX4_stopsHeld lX7_283 rfl rfl rfl ⟨rfl, rfl⟩ ⟨Nat.le_of_ble_eq_true rfl, Nat.le_of_ble_eq_true rfl⟩ (Nat.le_of_ble_eq_true rfl) ⟨Nat.zero_le _, Nat.zero_le _⟩ ?_
    refine e_i2lN C dX7_worthOf_43 (by omega) ?_
    refine e_lmulN C dX7_worthOf_44 ?_
    exact e_lret C dX7_worthOf_45 RT ⟨Nat.zero_le _, Nat.zero_le _⟩ (pl_ (congrArg lN (by unfold wrt heldS; rw [if_pos h4])))
set_option maxHeartbeats 4000000 in
set_option maxRecDepth 100000 in
theorem k_bestHold {w : Bool} {M : Mm} {n P : Nat → Nat} {k : Nat} {W : Nat → Nat → Int32} {pv : Nat → Nat} {L : Nat} (hB : Bs M n P k W pv L) (hV : SvOK M n (EE n P k W pv L)) (a b c : Nat) (ha : a < n 0) (hb : b < n 1) (hc : c < n 2) : CT mX7_bestHold [.ref 0, .int (nI a), .int (nI b), .int (nI c)] (shF w) M (Pi (nI (bstH (wrt n (EE n P k W pv L) a b c) 7)) (shF w) M) := by
  refine CT.mk (lv := [(0, .ref 0), (1, .int (nI a)), (2, .int (nI b)), (3, .int (nI c))]) rfl (by decide +kernel) (Nat.le_of_ble_eq_true rfl) ?_
  intro X C RT
  obtain ⟨hS, hT, hL, hL1, hL3⟩ := id hB
  have n0 := hS.2.1 0 (by decide)
  have n1 := hS.2.1 1 (by decide)
  have n2 := hS.2.1 2 (by decide)
  have hw0 := wrt_le n0.2 n1.2 n2.2 hB.le a b c
  have lp : ∀ (j : Nat) (bb : Nat) (mm : Nat), j ≤ 7 → bb = bstH (wrt n (EE n P k W pv L) a b c) j → mm = (wrt n (EE n P k W pv L) a b c) bb → Wd X (0, 0) 16 [(0, .ref 0), (1, .int (nI a)), (2, .int (nI b)), (3, .int (nI c)), (4, .int (nI bb)), (5, .long (lN mm)), (7, .int (nI (j + 1)))] [] (shF w) M := by
    intro j
    induction hq_lp : 7 - j using Nat.strongRecOn generalizing j with
    | ind k_lp ih_lp =>
      intro bb mm hj hb2 hm
      have hwb := hw0 bb
      refine e_iload C dX7_bestHold_16 rfl ?_
      refine e_bipush (v := (nI 7)) C dX7_bestHold_18 (by decide) ?_
      refine e_icmp_gtN (tgt := 56) C dX7_bestHold_20 (by omega) (by omega) (by decide) (fun h20 => ?_) (fun h20 => ?_)
      · refine e_iload C dX7_bestHold_56 rfl ?_
        exact e_zret C dX7_bestHold_58 RT rfl ⟨Nat.zero_le _, Nat.zero_le _⟩ (pi_ (congrArg nI (by rw [hb2, show j = 7 by omega])))
      · refine e_aload_n C dX7_bestHold_23 rfl rfl ?_
        refine e_iload_n C dX7_bestHold_24 rfl rfl ?_
        refine e_iload_n C dX7_bestHold_25 rfl rfl ?_
        refine e_iload_n C dX7_bestHold_26 rfl rfl ?_
        refine e_iload C dX7_bestHold_27 rfl ?_
        have hw1 := wrt_le n0.2 n1.2 n2.2 hB.le a b c (j + 1)
        refine e_callVl C dX7_bestHold_29 [.int (nI a), .int (nI b), .int (nI c), .int (nI (j + 1))] (k_worthOf hB hV a b c (j + 1) (by omega) (by omega) (by omega) (by omega)) okX7_worthOf lX7_164 rfl rfl rfl ⟨rfl, rfl⟩ ⟨Nat.le_of_ble_eq_true rfl, Nat.le_of_ble_eq_true rfl⟩ (Nat.le_of_ble_eq_true rfl) ⟨Nat.zero_le _, Nat.zero_le _⟩ ?_
        refine e_lstore (lv2 := [(8, .long (lN (wrt n (EE n P k W pv L) a b c (j + 1)))), (0, .ref 0), (1, .int (nI a)), (2, .int (nI b)), (3, .int (nI c)), (4, .int (nI bb)), (5, .long (lN mm)), (7, .int (nI (j + 1)))]) C dX7_bestHold_32 (by decide) rfl ?_
        refine e_lload C dX7_bestHold_34 rfl ?_
        refine e_lload C dX7_bestHold_36 rfl ?_
        refine e_lcmp_leN (tgt := 50) C dX7_bestHold_38 dX7_bestHold_39 (by omega) (by omega) (by decide) (fun h38 => ?_) (fun h38 => ?_)
        · refine e_iincN (lv2 := [(7, .int (nI (j + 1 + 1))), (8, .long (lN (wrt n (EE n P k W pv L) a b c (j + 1)))), (0, .ref 0), (1, .int (nI a)), (2, .int (nI b)), (3, .int (nI c)), (4, .int (nI bb)), (5, .long (lN mm))]) C dX7_bestHold_50 rfl (by decide) (nI_1 _) rfl ?_
          refine e_goto (tgt := 16) C dX7_bestHold_53 (by decide) ?_
          refine e_loc [2, 3, 4, 5, 6, 7, 0] rfl ?_
          exact ih_lp (7 - (j + 1)) (by omega) (j + 1) rfl bb mm (by omega) (by show _ = bstH (wrt n (EE n P k W pv L) a b c) (j + 1); unfold bstH; rw [← hb2, ← hm, if_neg (by omega)]) (by exact hm)
        · refine e_lload C dX7_bestHold_42 rfl ?_
          refine e_lstore (lv2 := [(5, .long (lN (wrt n (EE n P k W pv L) a b c (j + 1)))), (8, .long (lN (wrt n (EE n P k W pv L) a b c (j + 1)))), (0, .ref 0), (1, .int (nI a)), (2, .int (nI b)), (3, .int (nI c)), (4, .int (nI bb)), (7, .int (nI (j + 1)))]) C dX7_bestHold_44 (by decide) rfl ?_
          refine e_iload C dX7_bestHold_46 rfl ?_
          refine e_istore (lv2 := [(4, .int (nI (j + 1))), (5, .long (lN (wrt n (EE n P k W pv L) a b c (j + 1)))), (8, .long (lN (wrt n (EE n P k W pv L) a b c (j + 1)))), (0, .ref 0), (1, .int (nI a)), (2, .int (nI b)), (3, .int (nI c)), (7, .int (nI (j + 1)))]) C dX7_bestHold_48 (by decide) rfl ?_
          refine e_iincN (lv2 := [(7, .int (nI (j + 1 + 1))), (4, .int (nI (j + 1))), (5, .long (lN (wrt n (EE n P k W pv L) a b c (j + 1)))), (8, .long (lN (wrt n (EE n P k W pv L) a b c (j + 1)))), (0, .ref 0), (1, .int (nI a)), (2, .int (nI b)), (3, .int (nI c))]) C dX7_bestHold_50 rfl (by decide) (nI_1 _) rfl ?_
          refine e_goto (tgt := 16) C dX7_bestHold_53 (by decide) ?_
          refine e_loc [4, 5, 6, 7, 1, 2, 0] rfl ?_
          exact ih_lp (7 - (j + 1)) (by omega) (j + 1) rfl (j + 1) (wrt n (EE n P k W pv L) a b c (j + 1)) (by omega) (by show _ = bstH (wrt n (EE n P k W pv L) a b c) (j + 1); unfold bstH; rw [← hb2, ← hm, if_pos (by omega)]) (by rfl)
  refine e_iconst (v := (nI 0)) C dX7_bestHold_0 (by decide) ?_
  refine e_istore (lv2 := [(4, .int (nI 0)), (0, .ref 0), (1, .int (nI a)), (2, .int (nI b)), (3, .int (nI c))]) C dX7_bestHold_1 (by decide) rfl ?_
  refine e_aload_n C dX7_bestHold_3 rfl rfl ?_
  refine e_iload_n C dX7_bestHold_4 rfl rfl ?_
  refine e_iload_n C dX7_bestHold_5 rfl rfl ?_
  refine e_iload_n C dX7_bestHold_6 rfl rfl ?_
  refine e_iconst (v := (nI 0)) C dX7_bestHold_7 (by decide) ?_
  have hw2 := wrt_le n0.2 n1.2 n2.2 hB.le a b c 0
  refine e_callVl C dX7_bestHold_8 [.int (nI a), .int (nI b), .int (nI c), .int (nI 0)] (k_worthOf hB hV a b c 0 (by omega) (by omega) (by omega) (by omega)) okX7_worthOf lX7_164 rfl rfl rfl ⟨rfl, rfl⟩ ⟨Nat.le_of_ble_eq_true rfl, Nat.le_of_ble_eq_true rfl⟩ (Nat.le_of_ble_eq_true rfl) ⟨Nat.zero_le _, Nat.zero_le _⟩ ?_
  refine e_lstore (lv2 := [(5, .long (lN (wrt n (EE n P k W pv L) a b c 0))), (4, .int (nI 0)), (0, .ref 0), (1, .int (nI a)), (2, .int (nI b)), (3, .int (nI c))]) C dX7_bestHold_11 (by decide) rfl ?_
  refine e_iconst (v := (nI 1)) C dX7_bestHold_13 (by decide) ?_
  refine e_istore (lv2 := [(7, .int (nI 1)), (5, .long (lN (wrt n (EE n P k W pv L) a b c 0))), (4, .int (nI 0)), (0, .ref 0), (1, .int (nI a)), (2, .int (nI b)), (3, .int (nI c))]) C dX7_bestHold_14 (by decide) rfl ?_
  refine e_loc [3, 4, 5, 6, 2, 1, 0] rfl ?_
  exact lp 0 0 _ (by omega) rfl rfl
def plB (n : Nat → Nat) (E : Nat → Nat → Nat → Nat) (a b c : Nat) : Nat := wrt n E a b c (bstH (wrt n E a b c) 7)
theorem Bs.sv {M M2 : Mm} {n P : Nat → Nat} {k : Nat} {W : Nat → Nat → Int32} {pv : Nat → Nat} {L : Nat} {E : Nat → Nat → Nat → Nat} (h : Bs M n P k W pv L) (hs : SeF M n E M2) : Bs M2 n P k W pv L := h.same (by rw [hs.2.2, upd_n _ _ (by decide)]) (hs.2.1.gI (by decide)) (hs.2.1.gI (by decide)) (hs.2.1.gI (by decide)) (hs.2.1.gI (by decide)) (hs.2.1.gI (by decide)) (hs.2.1.gI (by decide)) (hs.2.1.gI (by decide))
set_option maxHeartbeats 4000000 in
set_option maxRecDepth 100000 in
theorem k_playedBest {w : Bool} {M : Mm} {n P : Nat → Nat} {k : Nat} {W : Nat → Nat → Int32} {pv : Nat → Nat} {L : Nat} (hB : Bs M n P k W pv L) (hF : SvF M n (EE n P k W pv L)) : CT mX7_playedBest [.ref 0] (shF w) M (Ql (lN (tot n (plB n (EE n P k W pv L)))) (shF w) (SeF M n (EE n P k W pv L))) := by
  refine CT.mk (lv := [(0, .ref 0)]) rfl (by decide +kernel) (Nat.le_of_ble_eq_true rfl) ?_
  intro X C RT
  obtain ⟨hS, hT, hL, hL1, hL3⟩ := id hB
  have n0 := hS.2.1 0 (by decide)
  have n1 := hS.2.1 1 (by decide)
  have n2 := hS.2.1 2 (by decide)
  refine e_aload_n C dX7_playedBest_0 rfl rfl ?_
  refine e_callVvQ C dX7_playedBest_1 [] (k_surveyEndings hB hF) okX7_surveyEndings lX7_161 rfl rfl rfl ⟨rfl, rfl⟩ ⟨Nat.le_of_ble_eq_true rfl, Nat.le_of_ble_eq_true rfl⟩ (Nat.le_of_ble_eq_true rfl) ⟨Nat.zero_le _, Nat.zero_le _⟩ (fun M1 hM1 => ?_)
  have hB := hB.sv hM1
  obtain ⟨hS, hT, hL, hL1, hL3⟩ := id hB
  have n0 := hS.2.1 0 (by decide)
  have n1 := hS.2.1 1 (by decide)
  have n2 := hS.2.1 2 (by decide)
  have hV := hM1.1
  refine e_lconst (v := lN 0) C dX7_playedBest_4 (by decide) ?_
  refine e_lstore_n (lv2 := [(1, .long (lN 0)), (0, .ref 0)]) C dX7_playedBest_5 rfl (by decide) rfl ?_
  refine e_iconst (v := (nI 0)) C dX7_playedBest_6 (by decide) ?_
  refine e_istore_n (lv2 := [(3, .int (nI 0)), (1, .long (lN 0)), (0, .ref 0)]) C dX7_playedBest_7 rfl (by decide) rfl ?_
  refine e_loc [2, 1, 0] rfl ?_
  have l1 : ∀ (a : Nat) (x1 : Nat), a ≤ n 0 → x1 = acc n (plB n (EE n P k W pv L)) a 0 0 → Wd X (0, 0) 8 [(0, .ref 0), (1, .long (lN x1)), (3, .int (nI a))] [] (shF w) M1 := by
    intro a
    induction hq_l1 : n 0 - a using Nat.strongRecOn generalizing a with
    | ind k_l1 ih_l1 =>
      intro x1 ha9 hI1
      refine e_iload_n C dX7_playedBest_8 rfl rfl ?_
      refine e_aload_n C dX7_playedBest_9 rfl rfl ?_
      refine e_getR (q := 1) C dX7_playedBest_10 fX7_10 rfl rfl ?_
      refine e_iconst (v := (nI 0)) C dX7_playedBest_13 (by decide) ?_
      refine e_callVi C dX7_playedBest_14 [.int (nI 0)] (k_stopsOf hS 0 (by omega)) okX4_stopsOf lX7_145 rfl rfl rfl ⟨rfl, rfl⟩ ⟨Nat.le_of_ble_eq_true rfl, Nat.le_of_ble_eq_true rfl⟩ (Nat.le_of_ble_eq_true rfl) ⟨Nat.zero_le _, Nat.zero_le _⟩ ?_
      refine e_icmp_geN (tgt := 91) C dX7_playedBest_17 (by omega) (by omega) (by decide) (fun h17 => ?_) (fun h17 => ?_)
      · refine e_lload_n C dX7_playedBest_91 rfl rfl ?_
        exact e_lret C dX7_playedBest_92 RT ⟨Nat.zero_le _, Nat.zero_le _⟩ (ql_ (congrArg lN (by rw [hI1, show a = n 0 by omega, acc_n])) hM1)
      · refine e_iconst (v := (nI 0)) C dX7_playedBest_20 (by decide) ?_
        refine e_istore (lv2 := [(4, .int (nI 0)), (0, .ref 0), (1, .long (lN x1)), (3, .int (nI a))]) C dX7_playedBest_21 (by decide) rfl ?_
        refine e_loc [1, 2, 3, 0] rfl ?_
        have l2 : ∀ (b : Nat) (x2 : Nat), b ≤ n 1 → x2 = acc n (plB n (EE n P k W pv L)) a b 0 → Wd X (0, 0) 23 [(0, .ref 0), (1, .long (lN x2)), (3, .int (nI a)), (4, .int (nI b))] [] (shF w) M1 := by
          intro b
          induction hq_l2 : n 1 - b using Nat.strongRecOn generalizing b with
          | ind k_l2 ih_l2 =>
            intro x2 hb9 hI2
            refine e_iload C dX7_playedBest_23 rfl ?_
            refine e_aload_n C dX7_playedBest_25 rfl rfl ?_
            refine e_getR (q := 1) C dX7_playedBest_26 fX7_10 rfl rfl ?_
            refine e_iconst (v := (nI 1)) C dX7_playedBest_29 (by decide) ?_
            refine e_callVi C dX7_playedBest_30 [.int (nI 1)] (k_stopsOf hS 1 (by omega)) okX4_stopsOf lX7_145 rfl rfl rfl ⟨rfl, rfl⟩ ⟨Nat.le_of_ble_eq_true rfl, Nat.le_of_ble_eq_true rfl⟩ (Nat.le_of_ble_eq_true rfl) ⟨Nat.zero_le _, Nat.zero_le _⟩ ?_
            refine e_icmp_geN (tgt := 85) C dX7_playedBest_33 (by omega) (by omega) (by decide) (fun h33 => ?_) (fun h33 => ?_)
            · refine e_iincN (lv2 := [(3, .int (nI (a + 1))), (0, .ref 0), (1, .long (lN x2)), (4, .int (nI b))]) C dX7_playedBest_85 rfl (by decide) (nI_1 _) rfl ?_
              refine e_goto (tgt := 8) C dX7_playedBest_88 (by decide) ?_
              refine e_loc [1, 2, 0] rfl ?_
              have hI4 := hI2
              rw [show b = n 1 by omega] at hI4
              exact ih_l1 (n 0 - (a + 1)) (by omega) (a + 1) rfl x2 (by omega) (by rw [acc_a]; exact hI4)
            · refine e_iconst (v := (nI 0)) C dX7_playedBest_36 (by decide) ?_
              refine e_istore (lv2 := [(5, .int (nI 0)), (0, .ref 0), (1, .long (lN x2)), (3, .int (nI a)), (4, .int (nI b))]) C dX7_playedBest_37 (by decide) rfl ?_
              refine e_loc [1, 2, 3, 4, 0] rfl ?_
              have l3 : ∀ (c : Nat) (x3 : Nat), c ≤ n 2 → x3 = acc n (plB n (EE n P k W pv L)) a b c → Wd X (0, 0) 39 [(0, .ref 0), (1, .long (lN x3)), (3, .int (nI a)), (4, .int (nI b)), (5, .int (nI c))] [] (shF w) M1 := by
                intro c
                induction hq_l3 : n 2 - c using Nat.strongRecOn generalizing c with
                | ind k_l3 ih_l3 =>
                  intro x3 hc9 hI3
                  refine e_iload C dX7_playedBest_39 rfl ?_
                  refine e_aload_n C dX7_playedBest_41 rfl rfl ?_
                  refine e_getR (q := 1) C dX7_playedBest_42 fX7_10 rfl rfl ?_
                  refine e_iconst (v := (nI 2)) C dX7_playedBest_45 (by decide) ?_
                  refine e_callVi C dX7_playedBest_46 [.int (nI 2)] (k_stopsOf hS 2 (by omega)) okX4_stopsOf lX7_145 rfl rfl rfl ⟨rfl, rfl⟩ ⟨Nat.le_of_ble_eq_true rfl, Nat.le_of_ble_eq_true rfl⟩ (Nat.le_of_ble_eq_true rfl) ⟨Nat.zero_le _, Nat.zero_le _⟩ ?_
                  refine e_icmp_geN (tgt := 79) C dX7_playedBest_49 (by omega) (by omega) (by decide) (fun h49 => ?_) (fun h49 => ?_)
                  · refine e_iincN (lv2 := [(4, .int (nI (b + 1))), (0, .ref 0), (1, .long (lN x3)), (3, .int (nI a)), (5, .int (nI c))]) C dX7_playedBest_79 rfl (by decide) (nI_1 _) rfl ?_
                    refine e_goto (tgt := 23) C dX7_playedBest_82 (by decide) ?_
                    refine e_loc [1, 2, 3, 0] rfl ?_
                    have hI4 := hI3
                    rw [show c = n 2 by omega] at hI4
                    exact ih_l2 (n 1 - (b + 1)) (by omega) (b + 1) rfl x3 (by omega) (by rw [acc_b]; exact hI4)
                  · refine e_lload_n C dX7_playedBest_52 rfl rfl ?_
                    refine e_aload_n C dX7_playedBest_53 rfl rfl ?_
                    refine e_iload_n C dX7_playedBest_54 rfl rfl ?_
                    refine e_iload C dX7_playedBest_55 rfl ?_
                    refine e_iload C dX7_playedBest_57 rfl ?_
                    refine e_aload_n C dX7_playedBest_59 rfl rfl ?_
                    refine e_iload_n C dX7_playedBest_60 rfl rfl ?_
                    refine e_iload C dX7_playedBest_61 rfl ?_
                    refine e_iload C dX7_playedBest_63 rfl ?_
                    have hg2 := bstH_le (wrt n (EE n P k W pv L) a b c) 7
                    refine e_callVi C dX7_playedBest_65 [.int (nI a), .int (nI b), .int (nI c)] (k_bestHold hB hV a b c (by omega) (by omega) (by omega)) okX7_bestHold lX7_168 rfl rfl rfl ⟨rfl, rfl⟩ ⟨Nat.le_of_ble_eq_true rfl, Nat.le_of_ble_eq_true rfl⟩ (Nat.le_of_ble_eq_true rfl) ⟨Nat.zero_le _, Nat.zero_le _⟩ ?_
                    have hw3 := wrt_le n0.2 n1.2 n2.2 hB.le a b c (bstH (wrt n (EE n P k W pv L) a b c) 7)
                    refine e_callVl C dX7_playedBest_68 [.int (nI a), .int (nI b), .int (nI c), .int (nI (bstH (wrt n (EE n P k W pv L) a b c) 7))] (k_worthOf hB hV a b c (bstH (wrt n (EE n P k W pv L) a b c) 7) (by omega) (by omega) (by omega) (by omega)) okX7_worthOf lX7_164 rfl rfl rfl ⟨rfl, rfl⟩ ⟨Nat.le_of_ble_eq_true rfl, Nat.le_of_ble_eq_true rfl⟩ (Nat.le_of_ble_eq_true rfl) ⟨Nat.zero_le _, Nat.zero_le _⟩ ?_
                    refine e_laddN C dX7_playedBest_71 ?_
                    refine e_lstore_n (lv2 := [(1, .long (lN (x3 + (wrt n (EE n P k W pv L) a b c (bstH (wrt n (EE n P k W pv L) a b c) 7))))), (0, .ref 0), (3, .int (nI a)), (4, .int (nI b)), (5, .int (nI c))]) C dX7_playedBest_72 rfl (by decide) rfl ?_
                    refine e_iincN (lv2 := [(5, .int (nI (c + 1))), (1, .long (lN (x3 + (wrt n (EE n P k W pv L) a b c (bstH (wrt n (EE n P k W pv L) a b c) 7))))), (0, .ref 0), (3, .int (nI a)), (4, .int (nI b))]) C dX7_playedBest_73 rfl (by decide) (nI_1 _) rfl ?_
                    refine e_goto (tgt := 39) C dX7_playedBest_76 (by decide) ?_
                    refine e_loc [2, 1, 3, 4, 0] rfl ?_
                    exact ih_l3 (n 2 - (c + 1)) (by omega) (c + 1) rfl (x3 + (wrt n (EE n P k W pv L) a b c (bstH (wrt n (EE n P k W pv L) a b c) 7))) (by omega) (by rw [acc_c, ← hI3]; rfl)
              exact l3 0 x2 (Nat.zero_le _) hI2
        exact l2 0 x1 (Nat.zero_le _) hI1
  exact l1 0 0 (Nat.zero_le _) rfl
